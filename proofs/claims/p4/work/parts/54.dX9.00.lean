theorem dX9_init_0 : decode cX9_init 0 = .ok (.aload_n 0, 1) := by decide +kernel
theorem dX9_init_1 : decode cX9_init 1 = .ok (.invokespecial 1, 3) := by decide +kernel
theorem dX9_init_4 : decode cX9_init 4 = .ok (.aload_n 0, 1) := by decide +kernel
theorem dX9_init_5 : decode cX9_init 5 = .ok (.sipush 200, 3) := by decide +kernel
theorem dX9_init_8 : decode cX9_init 8 = .ok (.newarray .byte, 2) := by decide +kernel
theorem dX9_init_10 : decode cX9_init 10 = .ok (.putfield 7, 3) := by decide +kernel
theorem dX9_init_13 : decode cX9_init 13 = .ok (.aload_n 0, 1) := by decide +kernel
theorem dX9_init_14 : decode cX9_init 14 = .ok (.bipush 18, 2) := by decide +kernel
theorem dX9_init_16 : decode cX9_init 16 = .ok (.newarray .int, 2) := by decide +kernel
theorem dX9_init_18 : decode cX9_init 18 = .ok (.putfield 13, 3) := by decide +kernel
theorem dX9_init_21 : decode cX9_init 21 = .ok (.aload_n 0, 1) := by decide +kernel
theorem dX9_init_22 : decode cX9_init 22 = .ok (.sipush 135, 3) := by decide +kernel
theorem dX9_init_25 : decode cX9_init 25 = .ok (.newarray .int, 2) := by decide +kernel
theorem dX9_init_27 : decode cX9_init 27 = .ok (.putfield 17, 3) := by decide +kernel
theorem dX9_init_30 : decode cX9_init 30 = .ok (.aload_n 0, 1) := by decide +kernel
theorem dX9_init_31 : decode cX9_init 31 = .ok (.bipush 6, 2) := by decide +kernel
theorem dX9_init_33 : decode cX9_init 33 = .ok (.newarray .int, 2) := by decide +kernel
theorem dX9_init_35 : decode cX9_init 35 = .ok (.putfield 20, 3) := by decide +kernel
theorem dX9_init_38 : decode cX9_init 38 = .ok (.aload_n 0, 1) := by decide +kernel
theorem dX9_init_39 : decode cX9_init 39 = .ok (.bipush 6, 2) := by decide +kernel
theorem dX9_init_41 : decode cX9_init 41 = .ok (.newarray .int, 2) := by decide +kernel
theorem dX9_init_43 : decode cX9_init 43 = .ok (.putfield 23, 3) := by decide +kernel
theorem dX9_init_46 : decode cX9_init 46 = .ok (.aload_n 0, 1) := by decide +kernel
theorem dX9_init_47 : decode cX9_init 47 = .ok (.bipush 49, 2) := by decide +kernel
theorem dX9_init_49 : decode cX9_init 49 = .ok (.newarray .long, 2) := by decide +kernel
theorem dX9_init_51 : decode cX9_init 51 = .ok (.putfield 26, 3) := by decide +kernel
theorem dX9_init_54 : decode cX9_init 54 = .ok (.aload_n 0, 1) := by decide +kernel
theorem dX9_init_55 : decode cX9_init 55 = .ok (.sipush 784, 3) := by decide +kernel
theorem dX9_init_58 : decode cX9_init 58 = .ok (.newarray .long, 2) := by decide +kernel
theorem dX9_init_60 : decode cX9_init 60 = .ok (.putfield 30, 3) := by decide +kernel
theorem dX9_init_63 : decode cX9_init 63 = .ok (.aload_n 0, 1) := by decide +kernel
theorem dX9_init_64 : decode cX9_init 64 = .ok (.sipush 784, 3) := by decide +kernel
theorem dX9_init_67 : decode cX9_init 67 = .ok (.newarray .long, 2) := by decide +kernel
theorem dX9_init_69 : decode cX9_init 69 = .ok (.putfield 33, 3) := by decide +kernel
theorem dX9_init_72 : decode cX9_init 72 = .ok (.aload_n 0, 1) := by decide +kernel
theorem dX9_init_73 : decode cX9_init 73 = .ok (.sipush 784, 3) := by decide +kernel
theorem dX9_init_76 : decode cX9_init 76 = .ok (.newarray .long, 2) := by decide +kernel
theorem dX9_init_78 : decode cX9_init 78 = .ok (.putfield 36, 3) := by decide +kernel
theorem dX9_init_81 : decode cX9_init 81 = .ok (.aload_n 0, 1) := by decide +kernel
theorem dX9_init_82 : decode cX9_init 82 = .ok (.sipush 784, 3) := by decide +kernel
theorem dX9_init_85 : decode cX9_init 85 = .ok (.newarray .int, 2) := by decide +kernel
theorem dX9_init_87 : decode cX9_init 87 = .ok (.putfield 39, 3) := by decide +kernel
theorem dX9_init_90 : decode cX9_init 90 = .ok (.aload_n 0, 1) := by decide +kernel
theorem dX9_init_91 : decode cX9_init 91 = .ok (.bipush 6, 2) := by decide +kernel
theorem dX9_init_93 : decode cX9_init 93 = .ok (.newarray .int, 2) := by decide +kernel
theorem dX9_init_95 : decode cX9_init 95 = .ok (.putfield 42, 3) := by decide +kernel
theorem dX9_init_98 : decode cX9_init 98 = .ok (.aload_n 0, 1) := by decide +kernel
theorem dX9_init_99 : decode cX9_init 99 = .ok (.sipush 784, 3) := by decide +kernel
theorem dX9_init_102 : decode cX9_init 102 = .ok (.newarray .long, 2) := by decide +kernel
theorem dX9_init_104 : decode cX9_init 104 = .ok (.putfield 45, 3) := by decide +kernel
theorem dX9_init_107 : decode cX9_init 107 = .ok (.aload_n 0, 1) := by decide +kernel
theorem dX9_init_108 : decode cX9_init 108 = .ok (.sipush 1424, 3) := by decide +kernel
theorem dX9_init_111 : decode cX9_init 111 = .ok (.newarray .int, 2) := by decide +kernel
theorem dX9_init_113 : decode cX9_init 113 = .ok (.putfield 48, 3) := by decide +kernel
theorem dX9_init_116 : decode cX9_init 116 = .ok (.aload_n 0, 1) := by decide +kernel
theorem dX9_init_117 : decode cX9_init 117 = .ok (.bipush 16, 2) := by decide +kernel
theorem dX9_init_119 : decode cX9_init 119 = .ok (.newarray .long, 2) := by decide +kernel
theorem dX9_init_121 : decode cX9_init 121 = .ok (.putfield 51, 3) := by decide +kernel
theorem dX9_init_124 : decode cX9_init 124 = .ok (.aload_n 0, 1) := by decide +kernel
theorem dX9_init_125 : decode cX9_init 125 = .ok (.getfield 13, 3) := by decide +kernel
theorem dX9_init_128 : decode cX9_init 128 = .ok (.iconst 0, 1) := by decide +kernel
theorem dX9_init_129 : decode cX9_init 129 = .ok (.iconst 3, 1) := by decide +kernel
theorem dX9_init_130 : decode cX9_init 130 = .ok (.iastore, 1) := by decide +kernel
theorem dX9_init_131 : decode cX9_init 131 = .ok (.aload_n 0, 1) := by decide +kernel
theorem dX9_init_132 : decode cX9_init 132 = .ok (.getfield 13, 3) := by decide +kernel
theorem dX9_init_135 : decode cX9_init 135 = .ok (.iconst 1, 1) := by decide +kernel
theorem dX9_init_136 : decode cX9_init 136 = .ok (.bipush 100, 2) := by decide +kernel
theorem dX9_init_138 : decode cX9_init 138 = .ok (.iastore, 1) := by decide +kernel
theorem dX9_init_139 : decode cX9_init 139 = .ok (.aload_n 0, 1) := by decide +kernel
theorem dX9_init_140 : decode cX9_init 140 = .ok (.getfield 13, 3) := by decide +kernel
theorem dX9_init_143 : decode cX9_init 143 = .ok (.iconst 2, 1) := by decide +kernel
theorem dX9_init_144 : decode cX9_init 144 = .ok (.bipush 6, 2) := by decide +kernel
theorem dX9_init_146 : decode cX9_init 146 = .ok (.iastore, 1) := by decide +kernel
theorem dX9_init_147 : decode cX9_init 147 = .ok (.aload_n 0, 1) := by decide +kernel
theorem dX9_init_148 : decode cX9_init 148 = .ok (.getfield 13, 3) := by decide +kernel
theorem dX9_init_151 : decode cX9_init 151 = .ok (.iconst 3, 1) := by decide +kernel
theorem dX9_init_152 : decode cX9_init 152 = .ok (.iconst 5, 1) := by decide +kernel
theorem dX9_init_153 : decode cX9_init 153 = .ok (.iastore, 1) := by decide +kernel
theorem dX9_init_154 : decode cX9_init 154 = .ok (.aload_n 0, 1) := by decide +kernel
theorem dX9_init_155 : decode cX9_init 155 = .ok (.getfield 13, 3) := by decide +kernel
theorem dX9_init_158 : decode cX9_init 158 = .ok (.iconst 4, 1) := by decide +kernel
theorem dX9_init_159 : decode cX9_init 159 = .ok (.iconst 5, 1) := by decide +kernel
theorem dX9_init_160 : decode cX9_init 160 = .ok (.iastore, 1) := by decide +kernel
theorem dX9_init_161 : decode cX9_init 161 = .ok (.aload_n 0, 1) := by decide +kernel
theorem dX9_init_162 : decode cX9_init 162 = .ok (.getfield 13, 3) := by decide +kernel
theorem dX9_init_165 : decode cX9_init 165 = .ok (.iconst 5, 1) := by decide +kernel
theorem dX9_init_166 : decode cX9_init 166 = .ok (.bipush 6, 2) := by decide +kernel
theorem dX9_init_168 : decode cX9_init 168 = .ok (.iastore, 1) := by decide +kernel
theorem dX9_init_169 : decode cX9_init 169 = .ok (.aload_n 0, 1) := by decide +kernel
theorem dX9_init_170 : decode cX9_init 170 = .ok (.getfield 13, 3) := by decide +kernel
theorem dX9_init_173 : decode cX9_init 173 = .ok (.bipush 6, 2) := by decide +kernel
theorem dX9_init_175 : decode cX9_init 175 = .ok (.iconst 1, 1) := by decide +kernel
theorem dX9_init_176 : decode cX9_init 176 = .ok (.iastore, 1) := by decide +kernel
theorem dX9_init_177 : decode cX9_init 177 = .ok (.aload_n 0, 1) := by decide +kernel
theorem dX9_init_178 : decode cX9_init 178 = .ok (.getfield 13, 3) := by decide +kernel
theorem dX9_init_181 : decode cX9_init 181 = .ok (.bipush 7, 2) := by decide +kernel
theorem dX9_init_183 : decode cX9_init 183 = .ok (.iconst 2, 1) := by decide +kernel
theorem dX9_init_184 : decode cX9_init 184 = .ok (.iastore, 1) := by decide +kernel
theorem dX9_init_185 : decode cX9_init 185 = .ok (.iconst 0, 1) := by decide +kernel
theorem dX9_init_186 : decode cX9_init 186 = .ok (.istore_n 1, 1) := by decide +kernel
theorem dX9_init_187 : decode cX9_init 187 = .ok (.iload_n 1, 1) := by decide +kernel
theorem dX9_init_188 : decode cX9_init 188 = .ok (.iconst 3, 1) := by decide +kernel
theorem dX9_init_189 : decode cX9_init 189 = .ok (.if_icmp .ge 77, 3) := by decide +kernel
theorem dX9_init_192 : decode cX9_init 192 = .ok (.aload_n 0, 1) := by decide +kernel
theorem dX9_init_193 : decode cX9_init 193 = .ok (.iload_n 1, 1) := by decide +kernel
theorem dX9_init_194 : decode cX9_init 194 = .ok (.iconst 0, 1) := by decide +kernel
theorem dX9_init_195 : decode cX9_init 195 = .ok (.sipush 10000, 3) := by decide +kernel
theorem dX9_init_198 : decode cX9_init 198 = .ok (.invokevirtual 54, 3) := by decide +kernel
theorem dX9_init_201 : decode cX9_init 201 = .ok (.aload_n 0, 1) := by decide +kernel
theorem dX9_init_202 : decode cX9_init 202 = .ok (.iload_n 1, 1) := by decide +kernel
theorem dX9_init_203 : decode cX9_init 203 = .ok (.iconst 1, 1) := by decide +kernel
theorem dX9_init_204 : decode cX9_init 204 = .ok (.bipush 100, 2) := by decide +kernel
theorem dX9_init_206 : decode cX9_init 206 = .ok (.invokevirtual 54, 3) := by decide +kernel
theorem dX9_init_209 : decode cX9_init 209 = .ok (.iconst 0, 1) := by decide +kernel
theorem dX9_init_210 : decode cX9_init 210 = .ok (.istore_n 2, 1) := by decide +kernel
theorem dX9_init_211 : decode cX9_init 211 = .ok (.iload_n 2, 1) := by decide +kernel
theorem dX9_init_212 : decode cX9_init 212 = .ok (.bipush 6, 2) := by decide +kernel
theorem dX9_init_214 : decode cX9_init 214 = .ok (.if_icmp .ge 29, 3) := by decide +kernel
theorem dX9_init_217 : decode cX9_init 217 = .ok (.aload_n 0, 1) := by decide +kernel
theorem dX9_init_218 : decode cX9_init 218 = .ok (.iload_n 1, 1) := by decide +kernel
theorem dX9_init_219 : decode cX9_init 219 = .ok (.bipush 9, 2) := by decide +kernel
theorem dX9_init_221 : decode cX9_init 221 = .ok (.iload_n 2, 1) := by decide +kernel
theorem dX9_init_222 : decode cX9_init 222 = .ok (.iadd, 1) := by decide +kernel
theorem dX9_init_223 : decode cX9_init 223 = .ok (.iconst (-1), 1) := by decide +kernel
theorem dX9_init_224 : decode cX9_init 224 = .ok (.invokevirtual 54, 3) := by decide +kernel
theorem dX9_init_227 : decode cX9_init 227 = .ok (.aload_n 0, 1) := by decide +kernel
theorem dX9_init_228 : decode cX9_init 228 = .ok (.iload_n 1, 1) := by decide +kernel
theorem dX9_init_229 : decode cX9_init 229 = .ok (.bipush 15, 2) := by decide +kernel
theorem dX9_init_231 : decode cX9_init 231 = .ok (.iload_n 2, 1) := by decide +kernel
theorem dX9_init_232 : decode cX9_init 232 = .ok (.iadd, 1) := by decide +kernel
theorem dX9_init_233 : decode cX9_init 233 = .ok (.iconst (-1), 1) := by decide +kernel
theorem dX9_init_234 : decode cX9_init 234 = .ok (.invokevirtual 54, 3) := by decide +kernel
theorem dX9_init_237 : decode cX9_init 237 = .ok (.iinc 2 1, 3) := by decide +kernel
theorem dX9_init_240 : decode cX9_init 240 = .ok (.goto (-29), 3) := by decide +kernel
theorem dX9_init_243 : decode cX9_init 243 = .ok (.aload_n 0, 1) := by decide +kernel
theorem dX9_init_244 : decode cX9_init 244 = .ok (.iload_n 1, 1) := by decide +kernel
theorem dX9_init_245 : decode cX9_init 245 = .ok (.bipush 22, 2) := by decide +kernel
theorem dX9_init_247 : decode cX9_init 247 = .ok (.bipush 6, 2) := by decide +kernel
theorem dX9_init_249 : decode cX9_init 249 = .ok (.invokevirtual 54, 3) := by decide +kernel
theorem dX9_init_252 : decode cX9_init 252 = .ok (.aload_n 0, 1) := by decide +kernel
theorem dX9_init_253 : decode cX9_init 253 = .ok (.iload_n 1, 1) := by decide +kernel
theorem dX9_init_254 : decode cX9_init 254 = .ok (.bipush 24, 2) := by decide +kernel
theorem dX9_init_256 : decode cX9_init 256 = .ok (.iconst 1, 1) := by decide +kernel
theorem dX9_init_257 : decode cX9_init 257 = .ok (.invokevirtual 54, 3) := by decide +kernel
theorem dX9_init_260 : decode cX9_init 260 = .ok (.iinc 1 1, 3) := by decide +kernel
theorem dX9_init_263 : decode cX9_init 263 = .ok (.goto (-76), 3) := by decide +kernel
theorem dX9_init_266 : decode cX9_init 266 = .ok (.return_, 1) := by decide +kernel
theorem dX9_in_0 : decode cX9_in 0 = .ok (.lload_n 0, 1) := by decide +kernel
theorem dX9_in_1 : decode cX9_in 1 = .ok (.lload_n 2, 1) := by decide +kernel
theorem dX9_in_2 : decode cX9_in 2 = .ok (.lcmp, 1) := by decide +kernel
theorem dX9_in_3 : decode cX9_in 3 = .ok (.ifCond .lt 14, 3) := by decide +kernel
theorem dX9_in_6 : decode cX9_in 6 = .ok (.lload_n 0, 1) := by decide +kernel
theorem dX9_in_7 : decode cX9_in 7 = .ok (.lload 4, 2) := by decide +kernel
theorem dX9_in_9 : decode cX9_in 9 = .ok (.lcmp, 1) := by decide +kernel
theorem dX9_in_10 : decode cX9_in 10 = .ok (.ifCond .gt 7, 3) := by decide +kernel
theorem dX9_in_13 : decode cX9_in 13 = .ok (.iconst 1, 1) := by decide +kernel
theorem dX9_in_14 : decode cX9_in 14 = .ok (.goto 4, 3) := by decide +kernel
theorem dX9_in_17 : decode cX9_in 17 = .ok (.iconst 0, 1) := by decide +kernel
theorem dX9_in_18 : decode cX9_in 18 = .ok (.ireturn, 1) := by decide +kernel
theorem dX9_isBond_0 : decode cX9_isBond 0 = .ok (.iload_n 0, 1) := by decide +kernel
theorem dX9_isBond_1 : decode cX9_isBond 1 = .ok (.i2l, 1) := by decide +kernel
theorem dX9_isBond_2 : decode cX9_isBond 2 = .ok (.lconst 0, 1) := by decide +kernel
theorem dX9_isBond_3 : decode cX9_isBond 3 = .ok (.ldc2_w 58, 3) := by decide +kernel
theorem dX9_isBond_6 : decode cX9_isBond 6 = .ok (.invokestatic 60, 3) := by decide +kernel
theorem dX9_isBond_9 : decode cX9_isBond 9 = .ok (.ireturn, 1) := by decide +kernel
theorem dX9_typed4_0 : decode cX9_typed4 0 = .ok (.iconst 3, 1) := by decide +kernel
theorem dX9_typed4_1 : decode cX9_typed4 1 = .ok (.istore_n 2, 1) := by decide +kernel
theorem dX9_typed4_2 : decode cX9_typed4 2 = .ok (.iload_n 2, 1) := by decide +kernel
theorem dX9_typed4_3 : decode cX9_typed4 3 = .ok (.ifCond .lt 35, 3) := by decide +kernel
theorem dX9_typed4_6 : decode cX9_typed4 6 = .ok (.aload_n 0, 1) := by decide +kernel
theorem dX9_typed4_7 : decode cX9_typed4 7 = .ok (.getfield 7, 3) := by decide +kernel
theorem dX9_typed4_10 : decode cX9_typed4 10 = .ok (.aload_n 0, 1) := by decide +kernel
theorem dX9_typed4_11 : decode cX9_typed4 11 = .ok (.getfield 64, 3) := by decide +kernel
theorem dX9_typed4_14 : decode cX9_typed4 14 = .ok (.iload_n 1, 1) := by decide +kernel
theorem dX9_typed4_15 : decode cX9_typed4 15 = .ok (.bipush 8, 2) := by decide +kernel
theorem dX9_typed4_17 : decode cX9_typed4 17 = .ok (.iload_n 2, 1) := by decide +kernel
theorem dX9_typed4_18 : decode cX9_typed4 18 = .ok (.imul, 1) := by decide +kernel
theorem dX9_typed4_19 : decode cX9_typed4 19 = .ok (.ishr, 1) := by decide +kernel
theorem dX9_typed4_20 : decode cX9_typed4 20 = .ok (.i2b, 1) := by decide +kernel
theorem dX9_typed4_21 : decode cX9_typed4 21 = .ok (.bastore, 1) := by decide +kernel
theorem dX9_typed4_22 : decode cX9_typed4 22 = .ok (.aload_n 0, 1) := by decide +kernel
theorem dX9_typed4_23 : decode cX9_typed4 23 = .ok (.aload_n 0, 1) := by decide +kernel
theorem dX9_typed4_24 : decode cX9_typed4 24 = .ok (.getfield 64, 3) := by decide +kernel
theorem dX9_typed4_27 : decode cX9_typed4 27 = .ok (.iconst 1, 1) := by decide +kernel
theorem dX9_typed4_28 : decode cX9_typed4 28 = .ok (.iadd, 1) := by decide +kernel
theorem dX9_typed4_29 : decode cX9_typed4 29 = .ok (.putfield 64, 3) := by decide +kernel
theorem dX9_typed4_32 : decode cX9_typed4 32 = .ok (.iinc 2 (-1), 3) := by decide +kernel
theorem dX9_typed4_35 : decode cX9_typed4 35 = .ok (.goto (-33), 3) := by decide +kernel
theorem dX9_typed4_38 : decode cX9_typed4 38 = .ok (.return_, 1) := by decide +kernel
theorem dX9_feed_0 : decode cX9_feed 0 = .ok (.aload_n 0, 1) := by decide +kernel
theorem dX9_feed_1 : decode cX9_feed 1 = .ok (.getfield 64, 3) := by decide +kernel
theorem dX9_feed_4 : decode cX9_feed 4 = .ok (.bipush 20, 2) := by decide +kernel
theorem dX9_feed_6 : decode cX9_feed 6 = .ok (.iadd, 1) := by decide +kernel
theorem dX9_feed_7 : decode cX9_feed 7 = .ok (.sipush 200, 3) := by decide +kernel
theorem dX9_feed_10 : decode cX9_feed 10 = .ok (.if_icmp .le 5, 3) := by decide +kernel
theorem dX9_feed_13 : decode cX9_feed 13 = .ok (.iconst (-1), 1) := by decide +kernel
theorem dX9_feed_14 : decode cX9_feed 14 = .ok (.ireturn, 1) := by decide +kernel
theorem dX9_feed_15 : decode cX9_feed 15 = .ok (.aload_n 0, 1) := by decide +kernel
theorem dX9_feed_16 : decode cX9_feed 16 = .ok (.iload_n 1, 1) := by decide +kernel
theorem dX9_feed_17 : decode cX9_feed 17 = .ok (.invokevirtual 68, 3) := by decide +kernel
theorem dX9_feed_20 : decode cX9_feed 20 = .ok (.aload_n 0, 1) := by decide +kernel
theorem dX9_feed_21 : decode cX9_feed 21 = .ok (.iload_n 2, 1) := by decide +kernel
theorem dX9_feed_22 : decode cX9_feed 22 = .ok (.invokevirtual 68, 3) := by decide +kernel
theorem dX9_feed_25 : decode cX9_feed 25 = .ok (.aload_n 0, 1) := by decide +kernel
theorem dX9_feed_26 : decode cX9_feed 26 = .ok (.iload_n 3, 1) := by decide +kernel
theorem dX9_feed_27 : decode cX9_feed 27 = .ok (.invokevirtual 68, 3) := by decide +kernel
theorem dX9_feed_30 : decode cX9_feed 30 = .ok (.aload_n 0, 1) := by decide +kernel
theorem dX9_feed_31 : decode cX9_feed 31 = .ok (.iload 4, 2) := by decide +kernel
theorem dX9_feed_33 : decode cX9_feed 33 = .ok (.invokevirtual 68, 3) := by decide +kernel
theorem dX9_feed_36 : decode cX9_feed 36 = .ok (.aload_n 0, 1) := by decide +kernel
theorem dX9_feed_37 : decode cX9_feed 37 = .ok (.iload 5, 2) := by decide +kernel
theorem dX9_feed_39 : decode cX9_feed 39 = .ok (.invokevirtual 68, 3) := by decide +kernel
theorem dX9_feed_42 : decode cX9_feed 42 = .ok (.aload_n 0, 1) := by decide +kernel
theorem dX9_feed_43 : decode cX9_feed 43 = .ok (.getfield 64, 3) := by decide +kernel
theorem dX9_feed_46 : decode cX9_feed 46 = .ok (.ireturn, 1) := by decide +kernel
theorem dX9_tree_0 : decode cX9_tree 0 = .ok (.iload_n 1, 1) := by decide +kernel
theorem dX9_tree_1 : decode cX9_tree 1 = .ok (.i2l, 1) := by decide +kernel
theorem dX9_tree_2 : decode cX9_tree 2 = .ok (.lconst 1, 1) := by decide +kernel
theorem dX9_tree_3 : decode cX9_tree 3 = .ok (.ldc2_w 72, 3) := by decide +kernel
theorem dX9_tree_6 : decode cX9_tree 6 = .ok (.invokestatic 60, 3) := by decide +kernel
theorem dX9_tree_9 : decode cX9_tree 9 = .ok (.ifCond .eq 15, 3) := by decide +kernel
theorem dX9_tree_12 : decode cX9_tree 12 = .ok (.iload_n 2, 1) := by decide +kernel
theorem dX9_tree_13 : decode cX9_tree 13 = .ok (.i2l, 1) := by decide +kernel
theorem dX9_tree_14 : decode cX9_tree 14 = .ok (.lconst 1, 1) := by decide +kernel
theorem dX9_tree_15 : decode cX9_tree 15 = .ok (.ldc2_w 74, 3) := by decide +kernel
theorem dX9_tree_18 : decode cX9_tree 18 = .ok (.invokestatic 60, 3) := by decide +kernel
theorem dX9_tree_21 : decode cX9_tree 21 = .ok (.ifCond .ne 5, 3) := by decide +kernel
theorem dX9_tree_24 : decode cX9_tree 24 = .ok (.iconst 0, 1) := by decide +kernel
theorem dX9_tree_25 : decode cX9_tree 25 = .ok (.ireturn, 1) := by decide +kernel
theorem dX9_tree_26 : decode cX9_tree 26 = .ok (.aload_n 0, 1) := by decide +kernel
theorem dX9_tree_27 : decode cX9_tree 27 = .ok (.getfield 13, 3) := by decide +kernel
theorem dX9_tree_30 : decode cX9_tree 30 = .ok (.iconst 0, 1) := by decide +kernel
theorem dX9_tree_31 : decode cX9_tree 31 = .ok (.iload_n 1, 1) := by decide +kernel
theorem dX9_tree_32 : decode cX9_tree 32 = .ok (.iastore, 1) := by decide +kernel
theorem dX9_tree_33 : decode cX9_tree 33 = .ok (.aload_n 0, 1) := by decide +kernel
theorem dX9_tree_34 : decode cX9_tree 34 = .ok (.getfield 13, 3) := by decide +kernel
theorem dX9_tree_37 : decode cX9_tree 37 = .ok (.iconst 1, 1) := by decide +kernel
theorem dX9_tree_38 : decode cX9_tree 38 = .ok (.iload_n 2, 1) := by decide +kernel
theorem dX9_tree_39 : decode cX9_tree 39 = .ok (.iastore, 1) := by decide +kernel
theorem dX9_tree_40 : decode cX9_tree 40 = .ok (.aload_n 0, 1) := by decide +kernel
theorem dX9_tree_41 : decode cX9_tree 41 = .ok (.iconst 0, 1) := by decide +kernel
theorem dX9_tree_42 : decode cX9_tree 42 = .ok (.putfield 76, 3) := by decide +kernel
theorem dX9_tree_45 : decode cX9_tree 45 = .ok (.iconst 1, 1) := by decide +kernel
theorem dX9_tree_46 : decode cX9_tree 46 = .ok (.ireturn, 1) := by decide +kernel
theorem dX9_move_0 : decode cX9_move 0 = .ok (.iload_n 2, 1) := by decide +kernel
theorem dX9_move_1 : decode cX9_move 1 = .ok (.i2l, 1) := by decide +kernel
theorem dX9_move_2 : decode cX9_move 2 = .ok (.lconst 1, 1) := by decide +kernel
theorem dX9_move_3 : decode cX9_move 3 = .ok (.ldc2_w 79, 3) := by decide +kernel
theorem dX9_move_6 : decode cX9_move 6 = .ok (.invokestatic 60, 3) := by decide +kernel
theorem dX9_move_9 : decode cX9_move 9 = .ok (.ifCond .eq 15, 3) := by decide +kernel
theorem dX9_move_12 : decode cX9_move 12 = .ok (.iload_n 3, 1) := by decide +kernel
theorem dX9_move_13 : decode cX9_move 13 = .ok (.i2l, 1) := by decide +kernel
theorem dX9_move_14 : decode cX9_move 14 = .ok (.lconst 1, 1) := by decide +kernel
theorem dX9_move_15 : decode cX9_move 15 = .ok (.ldc2_w 79, 3) := by decide +kernel
theorem dX9_move_18 : decode cX9_move 18 = .ok (.invokestatic 60, 3) := by decide +kernel
theorem dX9_move_21 : decode cX9_move 21 = .ok (.ifCond .ne 5, 3) := by decide +kernel
theorem dX9_move_24 : decode cX9_move 24 = .ok (.iconst 0, 1) := by decide +kernel
theorem dX9_move_25 : decode cX9_move 25 = .ok (.ireturn, 1) := by decide +kernel
theorem dX9_move_26 : decode cX9_move 26 = .ok (.iload_n 1, 1) := by decide +kernel
theorem dX9_move_27 : decode cX9_move 27 = .ok (.ifCond .eq 7, 3) := by decide +kernel
theorem dX9_move_30 : decode cX9_move 30 = .ok (.iconst 2, 1) := by decide +kernel
theorem dX9_move_31 : decode cX9_move 31 = .ok (.goto 4, 3) := by decide +kernel
theorem dX9_move_34 : decode cX9_move 34 = .ok (.iconst 4, 1) := by decide +kernel
theorem dX9_move_35 : decode cX9_move 35 = .ok (.istore 4, 2) := by decide +kernel
theorem dX9_move_37 : decode cX9_move 37 = .ok (.aload_n 0, 1) := by decide +kernel
theorem dX9_move_38 : decode cX9_move 38 = .ok (.getfield 13, 3) := by decide +kernel
theorem dX9_move_41 : decode cX9_move 41 = .ok (.iload 4, 2) := by decide +kernel
theorem dX9_move_43 : decode cX9_move 43 = .ok (.iload_n 2, 1) := by decide +kernel
theorem dX9_move_44 : decode cX9_move 44 = .ok (.iastore, 1) := by decide +kernel
theorem dX9_move_45 : decode cX9_move 45 = .ok (.aload_n 0, 1) := by decide +kernel
theorem dX9_move_46 : decode cX9_move 46 = .ok (.getfield 13, 3) := by decide +kernel
theorem dX9_move_49 : decode cX9_move 49 = .ok (.iload 4, 2) := by decide +kernel
theorem dX9_move_51 : decode cX9_move 51 = .ok (.iconst 1, 1) := by decide +kernel
theorem dX9_move_52 : decode cX9_move 52 = .ok (.iadd, 1) := by decide +kernel
theorem dX9_move_53 : decode cX9_move 53 = .ok (.iload_n 3, 1) := by decide +kernel
theorem dX9_move_54 : decode cX9_move 54 = .ok (.iastore, 1) := by decide +kernel
theorem dX9_move_55 : decode cX9_move 55 = .ok (.iconst 1, 1) := by decide +kernel
theorem dX9_move_56 : decode cX9_move 56 = .ok (.ireturn, 1) := by decide +kernel
theorem dX9_isChance_0 : decode cX9_isChance 0 = .ok (.iload_n 1, 1) := by decide +kernel
theorem dX9_isChance_1 : decode cX9_isChance 1 = .ok (.i2l, 1) := by decide +kernel
theorem dX9_isChance_2 : decode cX9_isChance 2 = .ok (.ldc2_w 58, 3) := by decide +kernel
theorem dX9_isChance_5 : decode cX9_isChance 5 = .ok (.ldc2_w 79, 3) := by decide +kernel
theorem dX9_isChance_8 : decode cX9_isChance 8 = .ok (.invokestatic 60, 3) := by decide +kernel
theorem dX9_isChance_11 : decode cX9_isChance 11 = .ok (.ifCond .eq 20, 3) := by decide +kernel
theorem dX9_isChance_14 : decode cX9_isChance 14 = .ok (.iload_n 0, 1) := by decide +kernel
theorem dX9_isChance_15 : decode cX9_isChance 15 = .ok (.i2l, 1) := by decide +kernel
theorem dX9_isChance_16 : decode cX9_isChance 16 = .ok (.lconst 1, 1) := by decide +kernel
theorem dX9_isChance_17 : decode cX9_isChance 17 = .ok (.iload_n 1, 1) := by decide +kernel
theorem dX9_isChance_18 : decode cX9_isChance 18 = .ok (.iconst 1, 1) := by decide +kernel
theorem dX9_isChance_19 : decode cX9_isChance 19 = .ok (.isub, 1) := by decide +kernel
theorem dX9_isChance_20 : decode cX9_isChance 20 = .ok (.i2l, 1) := by decide +kernel
theorem dX9_isChance_21 : decode cX9_isChance 21 = .ok (.invokestatic 60, 3) := by decide +kernel
theorem dX9_isChance_24 : decode cX9_isChance 24 = .ok (.ifCond .eq 7, 3) := by decide +kernel
theorem dX9_isChance_27 : decode cX9_isChance 27 = .ok (.iconst 1, 1) := by decide +kernel
theorem dX9_isChance_28 : decode cX9_isChance 28 = .ok (.goto 4, 3) := by decide +kernel
theorem dX9_isChance_31 : decode cX9_isChance 31 = .ok (.iconst 0, 1) := by decide +kernel
theorem dX9_isChance_32 : decode cX9_isChance 32 = .ok (.ireturn, 1) := by decide +kernel
theorem dX9_chance_0 : decode cX9_chance 0 = .ok (.iload_n 1, 1) := by decide +kernel
theorem dX9_chance_1 : decode cX9_chance 1 = .ok (.iload_n 2, 1) := by decide +kernel
theorem dX9_chance_2 : decode cX9_chance 2 = .ok (.invokestatic 81, 3) := by decide +kernel
theorem dX9_chance_5 : decode cX9_chance 5 = .ok (.ifCond .ne 5, 3) := by decide +kernel
theorem dX9_chance_8 : decode cX9_chance 8 = .ok (.iconst 0, 1) := by decide +kernel
theorem dX9_chance_9 : decode cX9_chance 9 = .ok (.ireturn, 1) := by decide +kernel
theorem dX9_chance_10 : decode cX9_chance 10 = .ok (.aload_n 0, 1) := by decide +kernel
theorem dX9_chance_11 : decode cX9_chance 11 = .ok (.getfield 13, 3) := by decide +kernel
theorem dX9_chance_14 : decode cX9_chance 14 = .ok (.bipush 6, 2) := by decide +kernel
theorem dX9_chance_16 : decode cX9_chance 16 = .ok (.iload_n 1, 1) := by decide +kernel
theorem dX9_chance_17 : decode cX9_chance 17 = .ok (.iastore, 1) := by decide +kernel
theorem dX9_chance_18 : decode cX9_chance 18 = .ok (.aload_n 0, 1) := by decide +kernel
theorem dX9_chance_19 : decode cX9_chance 19 = .ok (.getfield 13, 3) := by decide +kernel
theorem dX9_chance_22 : decode cX9_chance 22 = .ok (.bipush 7, 2) := by decide +kernel
theorem dX9_chance_24 : decode cX9_chance 24 = .ok (.iload_n 2, 1) := by decide +kernel
theorem dX9_chance_25 : decode cX9_chance 25 = .ok (.iastore, 1) := by decide +kernel
theorem dX9_chance_26 : decode cX9_chance 26 = .ok (.iconst 1, 1) := by decide +kernel
theorem dX9_chance_27 : decode cX9_chance 27 = .ok (.ireturn, 1) := by decide +kernel
theorem dX9_rate_0 : decode cX9_rate 0 = .ok (.iload_n 1, 1) := by decide +kernel
theorem dX9_rate_1 : decode cX9_rate 1 = .ok (.i2l, 1) := by decide +kernel
theorem dX9_rate_2 : decode cX9_rate 2 = .ok (.lconst 0, 1) := by decide +kernel
theorem dX9_rate_3 : decode cX9_rate 3 = .ok (.ldc2_w 85, 3) := by decide +kernel
theorem dX9_rate_6 : decode cX9_rate 6 = .ok (.invokestatic 60, 3) := by decide +kernel
theorem dX9_rate_9 : decode cX9_rate 9 = .ok (.ifCond .ne 5, 3) := by decide +kernel
theorem dX9_rate_12 : decode cX9_rate 12 = .ok (.iconst (-1), 1) := by decide +kernel
theorem dX9_rate_13 : decode cX9_rate 13 = .ok (.ireturn, 1) := by decide +kernel
theorem dX9_rate_14 : decode cX9_rate 14 = .ok (.aload_n 0, 1) := by decide +kernel
theorem dX9_rate_15 : decode cX9_rate 15 = .ok (.getfield 13, 3) := by decide +kernel
theorem dX9_rate_18 : decode cX9_rate 18 = .ok (.bipush 8, 2) := by decide +kernel
theorem dX9_rate_20 : decode cX9_rate 20 = .ok (.iaload, 1) := by decide +kernel
theorem dX9_rate_21 : decode cX9_rate 21 = .ok (.istore_n 2, 1) := by decide +kernel
theorem dX9_rate_22 : decode cX9_rate 22 = .ok (.aload_n 0, 1) := by decide +kernel
theorem dX9_rate_23 : decode cX9_rate 23 = .ok (.getfield 13, 3) := by decide +kernel
theorem dX9_rate_26 : decode cX9_rate 26 = .ok (.bipush 8, 2) := by decide +kernel
theorem dX9_rate_28 : decode cX9_rate 28 = .ok (.iload_n 1, 1) := by decide +kernel
theorem dX9_rate_29 : decode cX9_rate 29 = .ok (.iastore, 1) := by decide +kernel
theorem dX9_rate_30 : decode cX9_rate 30 = .ok (.iload_n 2, 1) := by decide +kernel
theorem dX9_rate_31 : decode cX9_rate 31 = .ok (.ireturn, 1) := by decide +kernel
theorem dX9_prices_0 : decode cX9_prices 0 = .ok (.bipush 9, 2) := by decide +kernel
theorem dX9_prices_2 : decode cX9_prices 2 = .ok (.iload_n 1, 1) := by decide +kernel
theorem dX9_prices_3 : decode cX9_prices 3 = .ok (.imul, 1) := by decide +kernel
theorem dX9_prices_4 : decode cX9_prices 4 = .ok (.istore 5, 2) := by decide +kernel
theorem dX9_prices_6 : decode cX9_prices 6 = .ok (.aload_n 0, 1) := by decide +kernel
theorem dX9_prices_7 : decode cX9_prices 7 = .ok (.iload_n 2, 1) := by decide +kernel
theorem dX9_prices_8 : decode cX9_prices 8 = .ok (.i2l, 1) := by decide +kernel
theorem dX9_prices_9 : decode cX9_prices 9 = .ok (.putfield 87, 3) := by decide +kernel
theorem dX9_prices_12 : decode cX9_prices 12 = .ok (.aload_n 0, 1) := by decide +kernel
theorem dX9_prices_13 : decode cX9_prices 13 = .ok (.lconst 1, 1) := by decide +kernel
theorem dX9_prices_14 : decode cX9_prices 14 = .ok (.putfield 91, 3) := by decide +kernel
theorem dX9_prices_17 : decode cX9_prices 17 = .ok (.iconst 0, 1) := by decide +kernel
theorem dX9_prices_18 : decode cX9_prices 18 = .ok (.istore 6, 2) := by decide +kernel
theorem dX9_prices_20 : decode cX9_prices 20 = .ok (.iload 6, 2) := by decide +kernel
theorem dX9_prices_22 : decode cX9_prices 22 = .ok (.iload_n 3, 1) := by decide +kernel
theorem dX9_prices_23 : decode cX9_prices 23 = .ok (.if_icmp .ge 71, 3) := by decide +kernel
theorem dX9_prices_26 : decode cX9_prices 26 = .ok (.aload_n 0, 1) := by decide +kernel
theorem dX9_prices_27 : decode cX9_prices 27 = .ok (.aload_n 0, 1) := by decide +kernel
theorem dX9_prices_28 : decode cX9_prices 28 = .ok (.getfield 87, 3) := by decide +kernel
theorem dX9_prices_31 : decode cX9_prices 31 = .ok (.aload_n 0, 1) := by decide +kernel
theorem dX9_prices_32 : decode cX9_prices 32 = .ok (.getfield 13, 3) := by decide +kernel
theorem dX9_prices_35 : decode cX9_prices 35 = .ok (.iload 5, 2) := by decide +kernel
theorem dX9_prices_37 : decode cX9_prices 37 = .ok (.iload 6, 2) := by decide +kernel
theorem dX9_prices_39 : decode cX9_prices 39 = .ok (.iload 4, 2) := by decide +kernel
theorem dX9_prices_41 : decode cX9_prices 41 = .ok (.if_icmp .ge 7, 3) := by decide +kernel
theorem dX9_prices_44 : decode cX9_prices 44 = .ok (.iconst 2, 1) := by decide +kernel
theorem dX9_prices_45 : decode cX9_prices 45 = .ok (.goto 4, 3) := by decide +kernel
theorem dX9_prices_48 : decode cX9_prices 48 = .ok (.iconst 4, 1) := by decide +kernel
theorem dX9_prices_49 : decode cX9_prices 49 = .ok (.iadd, 1) := by decide +kernel
theorem dX9_prices_50 : decode cX9_prices 50 = .ok (.iaload, 1) := by decide +kernel
theorem dX9_prices_51 : decode cX9_prices 51 = .ok (.i2l, 1) := by decide +kernel
theorem dX9_prices_52 : decode cX9_prices 52 = .ok (.lmul, 1) := by decide +kernel
theorem dX9_prices_53 : decode cX9_prices 53 = .ok (.putfield 87, 3) := by decide +kernel
theorem dX9_prices_56 : decode cX9_prices 56 = .ok (.aload_n 0, 1) := by decide +kernel
theorem dX9_prices_57 : decode cX9_prices 57 = .ok (.aload_n 0, 1) := by decide +kernel
theorem dX9_prices_58 : decode cX9_prices 58 = .ok (.getfield 91, 3) := by decide +kernel
theorem dX9_prices_61 : decode cX9_prices 61 = .ok (.aload_n 0, 1) := by decide +kernel
theorem dX9_prices_62 : decode cX9_prices 62 = .ok (.getfield 13, 3) := by decide +kernel
theorem dX9_prices_65 : decode cX9_prices 65 = .ok (.iload 5, 2) := by decide +kernel
theorem dX9_prices_67 : decode cX9_prices 67 = .ok (.iload 6, 2) := by decide +kernel
theorem dX9_prices_69 : decode cX9_prices 69 = .ok (.iload 4, 2) := by decide +kernel
theorem dX9_prices_71 : decode cX9_prices 71 = .ok (.if_icmp .ge 7, 3) := by decide +kernel
theorem dX9_prices_74 : decode cX9_prices 74 = .ok (.iconst 2, 1) := by decide +kernel
theorem dX9_prices_75 : decode cX9_prices 75 = .ok (.goto 4, 3) := by decide +kernel
theorem dX9_prices_78 : decode cX9_prices 78 = .ok (.iconst 4, 1) := by decide +kernel
theorem dX9_prices_79 : decode cX9_prices 79 = .ok (.iadd, 1) := by decide +kernel
theorem dX9_prices_80 : decode cX9_prices 80 = .ok (.iconst 1, 1) := by decide +kernel
theorem dX9_prices_81 : decode cX9_prices 81 = .ok (.iadd, 1) := by decide +kernel
theorem dX9_prices_82 : decode cX9_prices 82 = .ok (.iaload, 1) := by decide +kernel
theorem dX9_prices_83 : decode cX9_prices 83 = .ok (.i2l, 1) := by decide +kernel
theorem dX9_prices_84 : decode cX9_prices 84 = .ok (.lmul, 1) := by decide +kernel
theorem dX9_prices_85 : decode cX9_prices 85 = .ok (.putfield 91, 3) := by decide +kernel
theorem dX9_prices_88 : decode cX9_prices 88 = .ok (.iinc 6 1, 3) := by decide +kernel
theorem dX9_prices_91 : decode cX9_prices 91 = .ok (.goto (-71), 3) := by decide +kernel
theorem dX9_prices_94 : decode cX9_prices 94 = .ok (.return_, 1) := by decide +kernel
theorem dX9_takesTree_0 : decode cX9_takesTree 0 = .ok (.aload_n 0, 1) := by decide +kernel
theorem dX9_takesTree_1 : decode cX9_takesTree 1 = .ok (.aload_n 0, 1) := by decide +kernel
theorem dX9_takesTree_2 : decode cX9_takesTree 2 = .ok (.getfield 13, 3) := by decide +kernel
theorem dX9_takesTree_5 : decode cX9_takesTree 5 = .ok (.bipush 9, 2) := by decide +kernel
theorem dX9_takesTree_7 : decode cX9_takesTree 7 = .ok (.iload_n 1, 1) := by decide +kernel
theorem dX9_takesTree_8 : decode cX9_takesTree 8 = .ok (.imul, 1) := by decide +kernel
theorem dX9_takesTree_9 : decode cX9_takesTree 9 = .ok (.iconst 0, 1) := by decide +kernel
theorem dX9_takesTree_10 : decode cX9_takesTree 10 = .ok (.iadd, 1) := by decide +kernel
theorem dX9_takesTree_11 : decode cX9_takesTree 11 = .ok (.iaload, 1) := by decide +kernel
theorem dX9_takesTree_12 : decode cX9_takesTree 12 = .ok (.putfield 94, 3) := by decide +kernel
theorem dX9_takesTree_15 : decode cX9_takesTree 15 = .ok (.aload_n 0, 1) := by decide +kernel
theorem dX9_takesTree_16 : decode cX9_takesTree 16 = .ok (.aload_n 0, 1) := by decide +kernel
theorem dX9_takesTree_17 : decode cX9_takesTree 17 = .ok (.getfield 13, 3) := by decide +kernel
theorem dX9_takesTree_20 : decode cX9_takesTree 20 = .ok (.bipush 9, 2) := by decide +kernel
theorem dX9_takesTree_22 : decode cX9_takesTree 22 = .ok (.iload_n 1, 1) := by decide +kernel
theorem dX9_takesTree_23 : decode cX9_takesTree 23 = .ok (.imul, 1) := by decide +kernel
theorem dX9_takesTree_24 : decode cX9_takesTree 24 = .ok (.bipush 6, 2) := by decide +kernel
theorem dX9_takesTree_26 : decode cX9_takesTree 26 = .ok (.iadd, 1) := by decide +kernel
theorem dX9_takesTree_27 : decode cX9_takesTree 27 = .ok (.iaload, 1) := by decide +kernel
theorem dX9_takesTree_28 : decode cX9_takesTree 28 = .ok (.putfield 97, 3) := by decide +kernel
theorem dX9_takesTree_31 : decode cX9_takesTree 31 = .ok (.aload_n 0, 1) := by decide +kernel
theorem dX9_takesTree_32 : decode cX9_takesTree 32 = .ok (.aload_n 0, 1) := by decide +kernel
theorem dX9_takesTree_33 : decode cX9_takesTree 33 = .ok (.getfield 13, 3) := by decide +kernel
theorem dX9_takesTree_36 : decode cX9_takesTree 36 = .ok (.bipush 9, 2) := by decide +kernel
theorem dX9_takesTree_38 : decode cX9_takesTree 38 = .ok (.iload_n 1, 1) := by decide +kernel
theorem dX9_takesTree_39 : decode cX9_takesTree 39 = .ok (.imul, 1) := by decide +kernel
theorem dX9_takesTree_40 : decode cX9_takesTree 40 = .ok (.bipush 7, 2) := by decide +kernel
theorem dX9_takesTree_42 : decode cX9_takesTree 42 = .ok (.iadd, 1) := by decide +kernel
theorem dX9_takesTree_43 : decode cX9_takesTree 43 = .ok (.iaload, 1) := by decide +kernel
theorem dX9_takesTree_44 : decode cX9_takesTree 44 = .ok (.putfield 100, 3) := by decide +kernel
theorem dX9_takesTree_47 : decode cX9_takesTree 47 = .ok (.aload_n 0, 1) := by decide +kernel
theorem dX9_takesTree_48 : decode cX9_takesTree 48 = .ok (.aload_n 0, 1) := by decide +kernel
theorem dX9_takesTree_49 : decode cX9_takesTree 49 = .ok (.getfield 13, 3) := by decide +kernel
theorem dX9_takesTree_52 : decode cX9_takesTree 52 = .ok (.bipush 9, 2) := by decide +kernel
theorem dX9_takesTree_54 : decode cX9_takesTree 54 = .ok (.iload_n 1, 1) := by decide +kernel
theorem dX9_takesTree_55 : decode cX9_takesTree 55 = .ok (.imul, 1) := by decide +kernel
theorem dX9_takesTree_56 : decode cX9_takesTree 56 = .ok (.bipush 8, 2) := by decide +kernel
theorem dX9_takesTree_58 : decode cX9_takesTree 58 = .ok (.iadd, 1) := by decide +kernel
theorem dX9_takesTree_59 : decode cX9_takesTree 59 = .ok (.iaload, 1) := by decide +kernel
theorem dX9_takesTree_60 : decode cX9_takesTree 60 = .ok (.putfield 103, 3) := by decide +kernel
theorem dX9_takesTree_63 : decode cX9_takesTree 63 = .ok (.iconst 0, 1) := by decide +kernel
theorem dX9_takesTree_64 : decode cX9_takesTree 64 = .ok (.istore_n 3, 1) := by decide +kernel
theorem dX9_takesTree_65 : decode cX9_takesTree 65 = .ok (.iload_n 3, 1) := by decide +kernel
theorem dX9_takesTree_66 : decode cX9_takesTree 66 = .ok (.aload_n 0, 1) := by decide +kernel
theorem dX9_takesTree_67 : decode cX9_takesTree 67 = .ok (.getfield 94, 3) := by decide +kernel
theorem dX9_takesTree_70 : decode cX9_takesTree 70 = .ok (.if_icmp .gt 58, 3) := by decide +kernel
theorem dX9_takesTree_73 : decode cX9_takesTree 73 = .ok (.iconst 0, 1) := by decide +kernel
theorem dX9_takesTree_74 : decode cX9_takesTree 74 = .ok (.istore 4, 2) := by decide +kernel
theorem dX9_takesTree_76 : decode cX9_takesTree 76 = .ok (.iload 4, 2) := by decide +kernel
theorem dX9_takesTree_78 : decode cX9_takesTree 78 = .ok (.iload_n 3, 1) := by decide +kernel
theorem dX9_takesTree_79 : decode cX9_takesTree 79 = .ok (.if_icmp .gt 43, 3) := by decide +kernel
theorem dX9_takesTree_82 : decode cX9_takesTree 82 = .ok (.aload_n 0, 1) := by decide +kernel
theorem dX9_takesTree_83 : decode cX9_takesTree 83 = .ok (.iload_n 1, 1) := by decide +kernel
theorem dX9_takesTree_84 : decode cX9_takesTree 84 = .ok (.iload_n 2, 1) := by decide +kernel
theorem dX9_takesTree_85 : decode cX9_takesTree 85 = .ok (.iload_n 3, 1) := by decide +kernel
theorem dX9_takesTree_86 : decode cX9_takesTree 86 = .ok (.iload 4, 2) := by decide +kernel
theorem dX9_takesTree_88 : decode cX9_takesTree 88 = .ok (.invokevirtual 106, 3) := by decide +kernel
theorem dX9_takesTree_91 : decode cX9_takesTree 91 = .ok (.aload_n 0, 1) := by decide +kernel
theorem dX9_takesTree_92 : decode cX9_takesTree 92 = .ok (.getfield 26, 3) := by decide +kernel
theorem dX9_takesTree_95 : decode cX9_takesTree 95 = .ok (.bipush 7, 2) := by decide +kernel
theorem dX9_takesTree_97 : decode cX9_takesTree 97 = .ok (.iload_n 3, 1) := by decide +kernel
theorem dX9_takesTree_98 : decode cX9_takesTree 98 = .ok (.imul, 1) := by decide +kernel
theorem dX9_takesTree_99 : decode cX9_takesTree 99 = .ok (.iload 4, 2) := by decide +kernel
theorem dX9_takesTree_101 : decode cX9_takesTree 101 = .ok (.iadd, 1) := by decide +kernel
theorem dX9_takesTree_102 : decode cX9_takesTree 102 = .ok (.ldc2_w 110, 3) := by decide +kernel
theorem dX9_takesTree_105 : decode cX9_takesTree 105 = .ok (.aload_n 0, 1) := by decide +kernel
theorem dX9_takesTree_106 : decode cX9_takesTree 106 = .ok (.getfield 87, 3) := by decide +kernel
theorem dX9_takesTree_109 : decode cX9_takesTree 109 = .ok (.lmul, 1) := by decide +kernel
theorem dX9_takesTree_110 : decode cX9_takesTree 110 = .ok (.aload_n 0, 1) := by decide +kernel
theorem dX9_takesTree_111 : decode cX9_takesTree 111 = .ok (.getfield 91, 3) := by decide +kernel
theorem dX9_takesTree_114 : decode cX9_takesTree 114 = .ok (.ldiv, 1) := by decide +kernel
theorem dX9_takesTree_115 : decode cX9_takesTree 115 = .ok (.lastore, 1) := by decide +kernel
theorem dX9_takesTree_116 : decode cX9_takesTree 116 = .ok (.iinc 4 1, 3) := by decide +kernel
theorem dX9_takesTree_119 : decode cX9_takesTree 119 = .ok (.goto (-43), 3) := by decide +kernel
theorem dX9_takesTree_122 : decode cX9_takesTree 122 = .ok (.iinc 3 1, 3) := by decide +kernel
theorem dX9_takesTree_125 : decode cX9_takesTree 125 = .ok (.goto (-60), 3) := by decide +kernel
theorem dX9_takesTree_128 : decode cX9_takesTree 128 = .ok (.return_, 1) := by decide +kernel
theorem dX9_takesNow_0 : decode cX9_takesNow 0 = .ok (.aload_n 0, 1) := by decide +kernel
theorem dX9_takesNow_1 : decode cX9_takesNow 1 = .ok (.iconst 0, 1) := by decide +kernel
theorem dX9_takesNow_2 : decode cX9_takesNow 2 = .ok (.aload_n 0, 1) := by decide +kernel
theorem dX9_takesNow_3 : decode cX9_takesNow 3 = .ok (.getfield 13, 3) := by decide +kernel
theorem dX9_takesNow_6 : decode cX9_takesNow 6 = .ok (.iconst 1, 1) := by decide +kernel
theorem dX9_takesNow_7 : decode cX9_takesNow 7 = .ok (.iaload, 1) := by decide +kernel
theorem dX9_takesNow_8 : decode cX9_takesNow 8 = .ok (.invokevirtual 112, 3) := by decide +kernel
theorem dX9_takesNow_11 : decode cX9_takesNow 11 = .ok (.return_, 1) := by decide +kernel
theorem dX9_common_0 : decode cX9_common 0 = .ok (.lload_n 0, 1) := by decide +kernel
theorem dX9_common_1 : decode cX9_common 1 = .ok (.lconst 0, 1) := by decide +kernel
theorem dX9_common_2 : decode cX9_common 2 = .ok (.lcmp, 1) := by decide +kernel
theorem dX9_common_3 : decode cX9_common 3 = .ok (.ifCond .ge 8, 3) := by decide +kernel
theorem dX9_common_6 : decode cX9_common 6 = .ok (.lload_n 0, 1) := by decide +kernel
theorem dX9_common_7 : decode cX9_common 7 = .ok (.lneg, 1) := by decide +kernel
theorem dX9_common_8 : decode cX9_common 8 = .ok (.goto 4, 3) := by decide +kernel
theorem dX9_common_11 : decode cX9_common 11 = .ok (.lload_n 0, 1) := by decide +kernel
theorem dX9_common_12 : decode cX9_common 12 = .ok (.lstore 4, 2) := by decide +kernel
theorem dX9_common_14 : decode cX9_common 14 = .ok (.lload_n 2, 1) := by decide +kernel
theorem dX9_common_15 : decode cX9_common 15 = .ok (.lstore 6, 2) := by decide +kernel
theorem dX9_common_17 : decode cX9_common 17 = .ok (.lload 6, 2) := by decide +kernel
theorem dX9_common_19 : decode cX9_common 19 = .ok (.lconst 0, 1) := by decide +kernel
theorem dX9_common_20 : decode cX9_common 20 = .ok (.lcmp, 1) := by decide +kernel
theorem dX9_common_21 : decode cX9_common 21 = .ok (.ifCond .eq 21, 3) := by decide +kernel
theorem dX9_common_24 : decode cX9_common 24 = .ok (.lload 4, 2) := by decide +kernel
theorem dX9_common_26 : decode cX9_common 26 = .ok (.lload 6, 2) := by decide +kernel
theorem dX9_common_28 : decode cX9_common 28 = .ok (.lrem, 1) := by decide +kernel
theorem dX9_common_29 : decode cX9_common 29 = .ok (.lstore 8, 2) := by decide +kernel
theorem dX9_common_31 : decode cX9_common 31 = .ok (.lload 6, 2) := by decide +kernel
theorem dX9_common_33 : decode cX9_common 33 = .ok (.lstore 4, 2) := by decide +kernel
theorem dX9_common_35 : decode cX9_common 35 = .ok (.lload 8, 2) := by decide +kernel
theorem dX9_common_37 : decode cX9_common 37 = .ok (.lstore 6, 2) := by decide +kernel
theorem dX9_common_39 : decode cX9_common 39 = .ok (.goto (-22), 3) := by decide +kernel
theorem dX9_common_42 : decode cX9_common 42 = .ok (.lload 4, 2) := by decide +kernel
theorem dX9_common_44 : decode cX9_common 44 = .ok (.lreturn, 1) := by decide +kernel
theorem dX9_price_0 : decode cX9_price 0 = .ok (.iload_n 1, 1) := by decide +kernel
theorem dX9_price_1 : decode cX9_price 1 = .ok (.i2l, 1) := by decide +kernel
theorem dX9_price_2 : decode cX9_price 2 = .ok (.lconst 0, 1) := by decide +kernel
theorem dX9_price_3 : decode cX9_price 3 = .ok (.aload_n 0, 1) := by decide +kernel
theorem dX9_price_4 : decode cX9_price 4 = .ok (.getfield 13, 3) := by decide +kernel
theorem dX9_price_7 : decode cX9_price 7 = .ok (.iconst 0, 1) := by decide +kernel
theorem dX9_price_8 : decode cX9_price 8 = .ok (.iaload, 1) := by decide +kernel
theorem dX9_price_9 : decode cX9_price 9 = .ok (.i2l, 1) := by decide +kernel
theorem dX9_price_10 : decode cX9_price 10 = .ok (.invokestatic 60, 3) := by decide +kernel
theorem dX9_price_13 : decode cX9_price 13 = .ok (.ifCond .eq 26, 3) := by decide +kernel
theorem dX9_price_16 : decode cX9_price 16 = .ok (.iload_n 2, 1) := by decide +kernel
theorem dX9_price_17 : decode cX9_price 17 = .ok (.i2l, 1) := by decide +kernel
theorem dX9_price_18 : decode cX9_price 18 = .ok (.lconst 0, 1) := by decide +kernel
theorem dX9_price_19 : decode cX9_price 19 = .ok (.iload_n 1, 1) := by decide +kernel
theorem dX9_price_20 : decode cX9_price 20 = .ok (.i2l, 1) := by decide +kernel
theorem dX9_price_21 : decode cX9_price 21 = .ok (.invokestatic 60, 3) := by decide +kernel
theorem dX9_price_24 : decode cX9_price 24 = .ok (.ifCond .eq 15, 3) := by decide +kernel
theorem dX9_price_27 : decode cX9_price 27 = .ok (.iload_n 3, 1) := by decide +kernel
theorem dX9_price_28 : decode cX9_price 28 = .ok (.i2l, 1) := by decide +kernel
theorem dX9_price_29 : decode cX9_price 29 = .ok (.lconst 0, 1) := by decide +kernel
theorem dX9_price_30 : decode cX9_price 30 = .ok (.ldc2_w 58, 3) := by decide +kernel
theorem dX9_price_33 : decode cX9_price 33 = .ok (.invokestatic 60, 3) := by decide +kernel
theorem dX9_price_36 : decode cX9_price 36 = .ok (.ifCond .ne 7, 3) := by decide +kernel
theorem dX9_price_39 : decode cX9_price 39 = .ok (.ldc2_w 116, 3) := by decide +kernel
theorem dX9_price_42 : decode cX9_price 42 = .ok (.lreturn, 1) := by decide +kernel
theorem dX9_price_43 : decode cX9_price 43 = .ok (.aload_n 0, 1) := by decide +kernel
theorem dX9_price_44 : decode cX9_price 44 = .ok (.iconst 0, 1) := by decide +kernel
theorem dX9_price_45 : decode cX9_price 45 = .ok (.aload_n 0, 1) := by decide +kernel
theorem dX9_price_46 : decode cX9_price 46 = .ok (.getfield 13, 3) := by decide +kernel
theorem dX9_price_49 : decode cX9_price 49 = .ok (.iconst 1, 1) := by decide +kernel
theorem dX9_price_50 : decode cX9_price 50 = .ok (.iaload, 1) := by decide +kernel
theorem dX9_price_51 : decode cX9_price 51 = .ok (.iload_n 1, 1) := by decide +kernel
theorem dX9_price_52 : decode cX9_price 52 = .ok (.iload_n 2, 1) := by decide +kernel
theorem dX9_price_53 : decode cX9_price 53 = .ok (.invokevirtual 106, 3) := by decide +kernel
theorem dX9_price_56 : decode cX9_price 56 = .ok (.aload_n 0, 1) := by decide +kernel
theorem dX9_price_57 : decode cX9_price 57 = .ok (.getfield 87, 3) := by decide +kernel
theorem dX9_price_60 : decode cX9_price 60 = .ok (.aload_n 0, 1) := by decide +kernel
theorem dX9_price_61 : decode cX9_price 61 = .ok (.getfield 91, 3) := by decide +kernel
theorem dX9_price_64 : decode cX9_price 64 = .ok (.invokestatic 118, 3) := by decide +kernel
theorem dX9_price_67 : decode cX9_price 67 = .ok (.lstore 4, 2) := by decide +kernel
theorem dX9_price_69 : decode cX9_price 69 = .ok (.iload_n 3, 1) := by decide +kernel
theorem dX9_price_70 : decode cX9_price 70 = .ok (.ifCond .ne 19, 3) := by decide +kernel
theorem dX9_price_73 : decode cX9_price 73 = .ok (.ldc2_w 110, 3) := by decide +kernel
theorem dX9_price_76 : decode cX9_price 76 = .ok (.aload_n 0, 1) := by decide +kernel
theorem dX9_price_77 : decode cX9_price 77 = .ok (.getfield 87, 3) := by decide +kernel
theorem dX9_price_80 : decode cX9_price 80 = .ok (.lmul, 1) := by decide +kernel
theorem dX9_price_81 : decode cX9_price 81 = .ok (.aload_n 0, 1) := by decide +kernel
theorem dX9_price_82 : decode cX9_price 82 = .ok (.getfield 91, 3) := by decide +kernel
theorem dX9_price_85 : decode cX9_price 85 = .ok (.ldiv, 1) := by decide +kernel
theorem dX9_price_86 : decode cX9_price 86 = .ok (.goto 25, 3) := by decide +kernel
theorem dX9_price_89 : decode cX9_price 89 = .ok (.iload_n 3, 1) := by decide +kernel
theorem dX9_price_90 : decode cX9_price 90 = .ok (.iconst 1, 1) := by decide +kernel
theorem dX9_price_91 : decode cX9_price 91 = .ok (.if_icmp .ne 13, 3) := by decide +kernel
theorem dX9_price_94 : decode cX9_price 94 = .ok (.aload_n 0, 1) := by decide +kernel
theorem dX9_price_95 : decode cX9_price 95 = .ok (.getfield 87, 3) := by decide +kernel
theorem dX9_price_98 : decode cX9_price 98 = .ok (.lload 4, 2) := by decide +kernel
theorem dX9_price_100 : decode cX9_price 100 = .ok (.ldiv, 1) := by decide +kernel
theorem dX9_price_101 : decode cX9_price 101 = .ok (.goto 10, 3) := by decide +kernel
theorem dX9_price_104 : decode cX9_price 104 = .ok (.aload_n 0, 1) := by decide +kernel
theorem dX9_price_105 : decode cX9_price 105 = .ok (.getfield 91, 3) := by decide +kernel
theorem dX9_price_108 : decode cX9_price 108 = .ok (.lload 4, 2) := by decide +kernel
theorem dX9_price_110 : decode cX9_price 110 = .ok (.ldiv, 1) := by decide +kernel
theorem dX9_price_111 : decode cX9_price 111 = .ok (.lreturn, 1) := by decide +kernel
theorem dX9_of_0 : decode cX9_of 0 = .ok (.aload_n 0, 1) := by decide +kernel
theorem dX9_of_1 : decode cX9_of 1 = .ok (.getfield 17, 3) := by decide +kernel
theorem dX9_of_4 : decode cX9_of 4 = .ok (.bipush 27, 2) := by decide +kernel
theorem dX9_of_6 : decode cX9_of 6 = .ok (.iload_n 1, 1) := by decide +kernel
theorem dX9_of_7 : decode cX9_of 7 = .ok (.imul, 1) := by decide +kernel
theorem dX9_of_8 : decode cX9_of 8 = .ok (.iload_n 2, 1) := by decide +kernel
theorem dX9_of_9 : decode cX9_of 9 = .ok (.iadd, 1) := by decide +kernel
theorem dX9_of_10 : decode cX9_of 10 = .ok (.iaload, 1) := by decide +kernel
theorem dX9_of_11 : decode cX9_of 11 = .ok (.ireturn, 1) := by decide +kernel
theorem dX9_sets_0 : decode cX9_sets 0 = .ok (.aload_n 0, 1) := by decide +kernel
theorem dX9_sets_1 : decode cX9_sets 1 = .ok (.getfield 17, 3) := by decide +kernel
theorem dX9_sets_4 : decode cX9_sets 4 = .ok (.bipush 27, 2) := by decide +kernel
theorem dX9_sets_6 : decode cX9_sets 6 = .ok (.iload_n 1, 1) := by decide +kernel
theorem dX9_sets_7 : decode cX9_sets 7 = .ok (.imul, 1) := by decide +kernel
theorem dX9_sets_8 : decode cX9_sets 8 = .ok (.iload_n 2, 1) := by decide +kernel
theorem dX9_sets_9 : decode cX9_sets 9 = .ok (.iadd, 1) := by decide +kernel
theorem dX9_sets_10 : decode cX9_sets 10 = .ok (.iload_n 3, 1) := by decide +kernel
theorem dX9_sets_11 : decode cX9_sets 11 = .ok (.iastore, 1) := by decide +kernel
theorem dX9_sets_12 : decode cX9_sets 12 = .ok (.return_, 1) := by decide +kernel
theorem dX9_copies_0 : decode cX9_copies 0 = .ok (.iconst 0, 1) := by decide +kernel
theorem dX9_copies_1 : decode cX9_copies 1 = .ok (.istore_n 3, 1) := by decide +kernel
theorem dX9_copies_2 : decode cX9_copies 2 = .ok (.iload_n 3, 1) := by decide +kernel
theorem dX9_copies_3 : decode cX9_copies 3 = .ok (.bipush 27, 2) := by decide +kernel
theorem dX9_copies_5 : decode cX9_copies 5 = .ok (.if_icmp .ge 21, 3) := by decide +kernel
theorem dX9_copies_8 : decode cX9_copies 8 = .ok (.aload_n 0, 1) := by decide +kernel
theorem dX9_copies_9 : decode cX9_copies 9 = .ok (.iload_n 2, 1) := by decide +kernel
theorem dX9_copies_10 : decode cX9_copies 10 = .ok (.iload_n 3, 1) := by decide +kernel
theorem dX9_copies_11 : decode cX9_copies 11 = .ok (.aload_n 0, 1) := by decide +kernel
theorem dX9_copies_12 : decode cX9_copies 12 = .ok (.iload_n 1, 1) := by decide +kernel
theorem dX9_copies_13 : decode cX9_copies 13 = .ok (.iload_n 3, 1) := by decide +kernel
theorem dX9_copies_14 : decode cX9_copies 14 = .ok (.invokevirtual 122, 3) := by decide +kernel
theorem dX9_copies_17 : decode cX9_copies 17 = .ok (.invokevirtual 54, 3) := by decide +kernel
theorem dX9_copies_20 : decode cX9_copies 20 = .ok (.iinc 3 1, 3) := by decide +kernel
theorem dX9_copies_23 : decode cX9_copies 23 = .ok (.goto (-21), 3) := by decide +kernel
theorem dX9_copies_26 : decode cX9_copies 26 = .ok (.return_, 1) := by decide +kernel
theorem dX9_bond_0 : decode cX9_bond 0 = .ok (.iload_n 1, 1) := by decide +kernel
theorem dX9_bond_1 : decode cX9_bond 1 = .ok (.invokestatic 126, 3) := by decide +kernel
theorem dX9_bond_4 : decode cX9_bond 4 = .ok (.ifCond .eq 27, 3) := by decide +kernel
theorem dX9_bond_7 : decode cX9_bond 7 = .ok (.iload_n 2, 1) := by decide +kernel
theorem dX9_bond_8 : decode cX9_bond 8 = .ok (.i2l, 1) := by decide +kernel
theorem dX9_bond_9 : decode cX9_bond 9 = .ok (.lconst 1, 1) := by decide +kernel
theorem dX9_bond_10 : decode cX9_bond 10 = .ok (.ldc2_w 130, 3) := by decide +kernel
theorem dX9_bond_13 : decode cX9_bond 13 = .ok (.invokestatic 60, 3) := by decide +kernel
theorem dX9_bond_16 : decode cX9_bond 16 = .ok (.ifCond .eq 15, 3) := by decide +kernel
theorem dX9_bond_19 : decode cX9_bond 19 = .ok (.iload_n 3, 1) := by decide +kernel
theorem dX9_bond_20 : decode cX9_bond 20 = .ok (.i2l, 1) := by decide +kernel
theorem dX9_bond_21 : decode cX9_bond 21 = .ok (.lconst 0, 1) := by decide +kernel
theorem dX9_bond_22 : decode cX9_bond 22 = .ok (.ldc2_w 74, 3) := by decide +kernel
theorem dX9_bond_25 : decode cX9_bond 25 = .ok (.invokestatic 60, 3) := by decide +kernel
theorem dX9_bond_28 : decode cX9_bond 28 = .ok (.ifCond .ne 5, 3) := by decide +kernel
theorem dX9_bond_31 : decode cX9_bond 31 = .ok (.iconst 0, 1) := by decide +kernel
theorem dX9_bond_32 : decode cX9_bond 32 = .ok (.ireturn, 1) := by decide +kernel
theorem dX9_bond_33 : decode cX9_bond 33 = .ok (.aload_n 0, 1) := by decide +kernel
theorem dX9_bond_34 : decode cX9_bond 34 = .ok (.iload_n 1, 1) := by decide +kernel
theorem dX9_bond_35 : decode cX9_bond 35 = .ok (.iconst 0, 1) := by decide +kernel
theorem dX9_bond_36 : decode cX9_bond 36 = .ok (.iload_n 2, 1) := by decide +kernel
theorem dX9_bond_37 : decode cX9_bond 37 = .ok (.invokevirtual 54, 3) := by decide +kernel
theorem dX9_bond_40 : decode cX9_bond 40 = .ok (.aload_n 0, 1) := by decide +kernel
theorem dX9_bond_41 : decode cX9_bond 41 = .ok (.iload_n 1, 1) := by decide +kernel
theorem dX9_bond_42 : decode cX9_bond 42 = .ok (.iconst 1, 1) := by decide +kernel
theorem dX9_bond_43 : decode cX9_bond 43 = .ok (.iload_n 3, 1) := by decide +kernel
theorem dX9_bond_44 : decode cX9_bond 44 = .ok (.invokevirtual 54, 3) := by decide +kernel
theorem dX9_bond_47 : decode cX9_bond 47 = .ok (.iconst 1, 1) := by decide +kernel
theorem dX9_bond_48 : decode cX9_bond 48 = .ok (.ireturn, 1) := by decide +kernel
theorem dX9_coupon_0 : decode cX9_coupon 0 = .ok (.iload_n 1, 1) := by decide +kernel
theorem dX9_coupon_1 : decode cX9_coupon 1 = .ok (.invokestatic 126, 3) := by decide +kernel
theorem dX9_coupon_4 : decode cX9_coupon 4 = .ok (.ifCond .eq 27, 3) := by decide +kernel
theorem dX9_coupon_7 : decode cX9_coupon 7 = .ok (.iload_n 2, 1) := by decide +kernel
theorem dX9_coupon_8 : decode cX9_coupon 8 = .ok (.i2l, 1) := by decide +kernel
theorem dX9_coupon_9 : decode cX9_coupon 9 = .ok (.lconst 1, 1) := by decide +kernel
theorem dX9_coupon_10 : decode cX9_coupon 10 = .ok (.ldc2_w 72, 3) := by decide +kernel
theorem dX9_coupon_13 : decode cX9_coupon 13 = .ok (.invokestatic 60, 3) := by decide +kernel
theorem dX9_coupon_16 : decode cX9_coupon 16 = .ok (.ifCond .eq 15, 3) := by decide +kernel
theorem dX9_coupon_19 : decode cX9_coupon 19 = .ok (.iload_n 3, 1) := by decide +kernel
theorem dX9_coupon_20 : decode cX9_coupon 20 = .ok (.i2l, 1) := by decide +kernel
theorem dX9_coupon_21 : decode cX9_coupon 21 = .ok (.lconst 0, 1) := by decide +kernel
theorem dX9_coupon_22 : decode cX9_coupon 22 = .ok (.ldc2_w 74, 3) := by decide +kernel
theorem dX9_coupon_25 : decode cX9_coupon 25 = .ok (.invokestatic 60, 3) := by decide +kernel
theorem dX9_coupon_28 : decode cX9_coupon 28 = .ok (.ifCond .ne 5, 3) := by decide +kernel
theorem dX9_coupon_31 : decode cX9_coupon 31 = .ok (.iconst (-1), 1) := by decide +kernel
theorem dX9_coupon_32 : decode cX9_coupon 32 = .ok (.ireturn, 1) := by decide +kernel
theorem dX9_coupon_33 : decode cX9_coupon 33 = .ok (.aload_n 0, 1) := by decide +kernel
theorem dX9_coupon_34 : decode cX9_coupon 34 = .ok (.iload_n 1, 1) := by decide +kernel
theorem dX9_coupon_35 : decode cX9_coupon 35 = .ok (.iconst 2, 1) := by decide +kernel
theorem dX9_coupon_36 : decode cX9_coupon 36 = .ok (.iload_n 2, 1) := by decide +kernel
theorem dX9_coupon_37 : decode cX9_coupon 37 = .ok (.iadd, 1) := by decide +kernel
theorem dX9_coupon_38 : decode cX9_coupon 38 = .ok (.invokevirtual 122, 3) := by decide +kernel
theorem dX9_coupon_41 : decode cX9_coupon 41 = .ok (.istore 4, 2) := by decide +kernel
theorem dX9_coupon_43 : decode cX9_coupon 43 = .ok (.aload_n 0, 1) := by decide +kernel
theorem dX9_coupon_44 : decode cX9_coupon 44 = .ok (.iload_n 1, 1) := by decide +kernel
theorem dX9_coupon_45 : decode cX9_coupon 45 = .ok (.iconst 2, 1) := by decide +kernel
theorem dX9_coupon_46 : decode cX9_coupon 46 = .ok (.iload_n 2, 1) := by decide +kernel
theorem dX9_coupon_47 : decode cX9_coupon 47 = .ok (.iadd, 1) := by decide +kernel
theorem dX9_coupon_48 : decode cX9_coupon 48 = .ok (.iload_n 3, 1) := by decide +kernel
theorem dX9_coupon_49 : decode cX9_coupon 49 = .ok (.invokevirtual 54, 3) := by decide +kernel
theorem dX9_coupon_52 : decode cX9_coupon 52 = .ok (.iload 4, 2) := by decide +kernel
theorem dX9_coupon_54 : decode cX9_coupon 54 = .ok (.ireturn, 1) := by decide +kernel
theorem dX9_told2_0 : decode cX9_told2 0 = .ok (.iload_n 1, 1) := by decide +kernel
theorem dX9_told2_1 : decode cX9_told2 1 = .ok (.iconst (-1), 1) := by decide +kernel
theorem dX9_told2_2 : decode cX9_told2 2 = .ok (.if_icmp .ne 8, 3) := by decide +kernel
theorem dX9_told2_5 : decode cX9_told2 5 = .ok (.bipush (-2), 2) := by decide +kernel
theorem dX9_told2_7 : decode cX9_told2 7 = .ok (.goto 4, 3) := by decide +kernel
theorem dX9_told2_10 : decode cX9_told2 10 = .ok (.iload_n 1, 1) := by decide +kernel
theorem dX9_told2_11 : decode cX9_told2 11 = .ok (.ireturn, 1) := by decide +kernel
theorem dX9_tells_0 : decode cX9_tells 0 = .ok (.iload_n 1, 1) := by decide +kernel
theorem dX9_tells_1 : decode cX9_tells 1 = .ok (.invokestatic 126, 3) := by decide +kernel
theorem dX9_tells_4 : decode cX9_tells 4 = .ok (.ifCond .eq 30, 3) := by decide +kernel
theorem dX9_tells_7 : decode cX9_tells 7 = .ok (.iload_n 3, 1) := by decide +kernel
theorem dX9_tells_8 : decode cX9_tells 8 = .ok (.i2l, 1) := by decide +kernel
theorem dX9_tells_9 : decode cX9_tells 9 = .ok (.lconst 0, 1) := by decide +kernel
theorem dX9_tells_10 : decode cX9_tells 10 = .ok (.ldc2_w 132, 3) := by decide +kernel
theorem dX9_tells_13 : decode cX9_tells 13 = .ok (.invokestatic 60, 3) := by decide +kernel
theorem dX9_tells_16 : decode cX9_tells 16 = .ok (.ifCond .eq 18, 3) := by decide +kernel
theorem dX9_tells_19 : decode cX9_tells 19 = .ok (.iload 4, 2) := by decide +kernel
theorem dX9_tells_21 : decode cX9_tells 21 = .ok (.i2l, 1) := by decide +kernel
theorem dX9_tells_22 : decode cX9_tells 22 = .ok (.ldc2_w 116, 3) := by decide +kernel
theorem dX9_tells_25 : decode cX9_tells 25 = .ok (.ldc2_w 130, 3) := by decide +kernel
theorem dX9_tells_28 : decode cX9_tells 28 = .ok (.invokestatic 60, 3) := by decide +kernel
theorem dX9_tells_31 : decode cX9_tells 31 = .ok (.ifCond .ne 5, 3) := by decide +kernel
theorem dX9_tells_34 : decode cX9_tells 34 = .ok (.iconst (-1), 1) := by decide +kernel
theorem dX9_tells_35 : decode cX9_tells 35 = .ok (.ireturn, 1) := by decide +kernel
theorem dX9_tells_36 : decode cX9_tells 36 = .ok (.aload_n 0, 1) := by decide +kernel
theorem dX9_tells_37 : decode cX9_tells 37 = .ok (.iload_n 1, 1) := by decide +kernel
theorem dX9_tells_38 : decode cX9_tells 38 = .ok (.iload_n 2, 1) := by decide +kernel
theorem dX9_tells_39 : decode cX9_tells 39 = .ok (.iload_n 3, 1) := by decide +kernel
theorem dX9_tells_40 : decode cX9_tells 40 = .ok (.iadd, 1) := by decide +kernel
theorem dX9_tells_41 : decode cX9_tells 41 = .ok (.invokevirtual 122, 3) := by decide +kernel
theorem dX9_tells_44 : decode cX9_tells 44 = .ok (.istore 5, 2) := by decide +kernel
theorem dX9_tells_46 : decode cX9_tells 46 = .ok (.aload_n 0, 1) := by decide +kernel
theorem dX9_tells_47 : decode cX9_tells 47 = .ok (.iload_n 1, 1) := by decide +kernel
theorem dX9_tells_48 : decode cX9_tells 48 = .ok (.iload_n 2, 1) := by decide +kernel
theorem dX9_tells_49 : decode cX9_tells 49 = .ok (.iload_n 3, 1) := by decide +kernel
theorem dX9_tells_50 : decode cX9_tells 50 = .ok (.iadd, 1) := by decide +kernel
theorem dX9_tells_51 : decode cX9_tells 51 = .ok (.iload 4, 2) := by decide +kernel
theorem dX9_tells_53 : decode cX9_tells 53 = .ok (.invokevirtual 54, 3) := by decide +kernel
theorem dX9_tells_56 : decode cX9_tells 56 = .ok (.aload_n 0, 1) := by decide +kernel
theorem dX9_tells_57 : decode cX9_tells 57 = .ok (.iload 5, 2) := by decide +kernel
theorem dX9_tells_59 : decode cX9_tells 59 = .ok (.invokevirtual 134, 3) := by decide +kernel
theorem dX9_tells_62 : decode cX9_tells 62 = .ok (.ireturn, 1) := by decide +kernel
theorem dX9_call_0 : decode cX9_call 0 = .ok (.aload_n 0, 1) := by decide +kernel
theorem dX9_call_1 : decode cX9_call 1 = .ok (.iload_n 1, 1) := by decide +kernel
theorem dX9_call_2 : decode cX9_call 2 = .ok (.bipush 9, 2) := by decide +kernel
theorem dX9_call_4 : decode cX9_call 4 = .ok (.iload_n 2, 1) := by decide +kernel
theorem dX9_call_5 : decode cX9_call 5 = .ok (.iload_n 3, 1) := by decide +kernel
theorem dX9_call_6 : decode cX9_call 6 = .ok (.invokevirtual 138, 3) := by decide +kernel
theorem dX9_call_9 : decode cX9_call 9 = .ok (.ireturn, 1) := by decide +kernel
theorem dX9_put_0 : decode cX9_put 0 = .ok (.aload_n 0, 1) := by decide +kernel
theorem dX9_put_1 : decode cX9_put 1 = .ok (.iload_n 1, 1) := by decide +kernel
theorem dX9_put_2 : decode cX9_put 2 = .ok (.bipush 15, 2) := by decide +kernel
theorem dX9_put_4 : decode cX9_put 4 = .ok (.iload_n 2, 1) := by decide +kernel
theorem dX9_put_5 : decode cX9_put 5 = .ok (.iload_n 3, 1) := by decide +kernel
theorem dX9_put_6 : decode cX9_put 6 = .ok (.invokevirtual 138, 3) := by decide +kernel
theorem dX9_put_9 : decode cX9_put 9 = .ok (.ireturn, 1) := by decide +kernel
theorem dX9_window_0 : decode cX9_window 0 = .ok (.iload_n 1, 1) := by decide +kernel
theorem dX9_window_1 : decode cX9_window 1 = .ok (.invokestatic 126, 3) := by decide +kernel
theorem dX9_window_4 : decode cX9_window 4 = .ok (.ifCond .eq 28, 3) := by decide +kernel
theorem dX9_window_7 : decode cX9_window 7 = .ok (.iload_n 2, 1) := by decide +kernel
theorem dX9_window_8 : decode cX9_window 8 = .ok (.i2l, 1) := by decide +kernel
theorem dX9_window_9 : decode cX9_window 9 = .ok (.lconst 0, 1) := by decide +kernel
theorem dX9_window_10 : decode cX9_window 10 = .ok (.ldc2_w 72, 3) := by decide +kernel
theorem dX9_window_13 : decode cX9_window 13 = .ok (.invokestatic 60, 3) := by decide +kernel
theorem dX9_window_16 : decode cX9_window 16 = .ok (.ifCond .eq 16, 3) := by decide +kernel
theorem dX9_window_19 : decode cX9_window 19 = .ok (.iload_n 3, 1) := by decide +kernel
theorem dX9_window_20 : decode cX9_window 20 = .ok (.i2l, 1) := by decide +kernel
theorem dX9_window_21 : decode cX9_window 21 = .ok (.iload_n 2, 1) := by decide +kernel
theorem dX9_window_22 : decode cX9_window 22 = .ok (.i2l, 1) := by decide +kernel
theorem dX9_window_23 : decode cX9_window 23 = .ok (.ldc2_w 72, 3) := by decide +kernel
theorem dX9_window_26 : decode cX9_window 26 = .ok (.invokestatic 60, 3) := by decide +kernel
theorem dX9_window_29 : decode cX9_window 29 = .ok (.ifCond .ne 5, 3) := by decide +kernel
theorem dX9_window_32 : decode cX9_window 32 = .ok (.iconst 0, 1) := by decide +kernel
theorem dX9_window_33 : decode cX9_window 33 = .ok (.ireturn, 1) := by decide +kernel
theorem dX9_window_34 : decode cX9_window 34 = .ok (.aload_n 0, 1) := by decide +kernel
theorem dX9_window_35 : decode cX9_window 35 = .ok (.iload_n 1, 1) := by decide +kernel
theorem dX9_window_36 : decode cX9_window 36 = .ok (.bipush 21, 2) := by decide +kernel
theorem dX9_window_38 : decode cX9_window 38 = .ok (.iload_n 2, 1) := by decide +kernel
theorem dX9_window_39 : decode cX9_window 39 = .ok (.invokevirtual 54, 3) := by decide +kernel
theorem dX9_window_42 : decode cX9_window 42 = .ok (.aload_n 0, 1) := by decide +kernel
theorem dX9_window_43 : decode cX9_window 43 = .ok (.iload_n 1, 1) := by decide +kernel
theorem dX9_window_44 : decode cX9_window 44 = .ok (.bipush 22, 2) := by decide +kernel
theorem dX9_window_46 : decode cX9_window 46 = .ok (.iload_n 3, 1) := by decide +kernel
theorem dX9_window_47 : decode cX9_window 47 = .ok (.invokevirtual 54, 3) := by decide +kernel
theorem dX9_window_50 : decode cX9_window 50 = .ok (.iconst 1, 1) := by decide +kernel
theorem dX9_window_51 : decode cX9_window 51 = .ok (.ireturn, 1) := by decide +kernel
theorem dX9_softens_0 : decode cX9_softens 0 = .ok (.aload_n 0, 1) := by decide +kernel
theorem dX9_softens_1 : decode cX9_softens 1 = .ok (.iload_n 1, 1) := by decide +kernel
theorem dX9_softens_2 : decode cX9_softens 2 = .ok (.bipush 23, 2) := by decide +kernel
theorem dX9_softens_4 : decode cX9_softens 4 = .ok (.iload_n 2, 1) := by decide +kernel
theorem dX9_softens_5 : decode cX9_softens 5 = .ok (.invokevirtual 54, 3) := by decide +kernel
theorem dX9_softens_8 : decode cX9_softens 8 = .ok (.aload_n 0, 1) := by decide +kernel
theorem dX9_softens_9 : decode cX9_softens 9 = .ok (.iload_n 1, 1) := by decide +kernel
theorem dX9_softens_10 : decode cX9_softens 10 = .ok (.bipush 24, 2) := by decide +kernel
theorem dX9_softens_12 : decode cX9_softens 12 = .ok (.iload_n 3, 1) := by decide +kernel
theorem dX9_softens_13 : decode cX9_softens 13 = .ok (.invokevirtual 54, 3) := by decide +kernel
theorem dX9_softens_16 : decode cX9_softens 16 = .ok (.aload_n 0, 1) := by decide +kernel
theorem dX9_softens_17 : decode cX9_softens 17 = .ok (.iload_n 1, 1) := by decide +kernel
theorem dX9_softens_18 : decode cX9_softens 18 = .ok (.bipush 25, 2) := by decide +kernel
theorem dX9_softens_20 : decode cX9_softens 20 = .ok (.iload 4, 2) := by decide +kernel
theorem dX9_softens_22 : decode cX9_softens 22 = .ok (.invokevirtual 54, 3) := by decide +kernel
theorem dX9_softens_25 : decode cX9_softens 25 = .ok (.return_, 1) := by decide +kernel
theorem dX9_soft_0 : decode cX9_soft 0 = .ok (.iload_n 1, 1) := by decide +kernel
theorem dX9_soft_1 : decode cX9_soft 1 = .ok (.invokestatic 126, 3) := by decide +kernel
theorem dX9_soft_4 : decode cX9_soft 4 = .ok (.ifCond .eq 39, 3) := by decide +kernel
theorem dX9_soft_7 : decode cX9_soft 7 = .ok (.iload_n 3, 1) := by decide +kernel
theorem dX9_soft_8 : decode cX9_soft 8 = .ok (.i2l, 1) := by decide +kernel
theorem dX9_soft_9 : decode cX9_soft 9 = .ok (.lconst 1, 1) := by decide +kernel
theorem dX9_soft_10 : decode cX9_soft 10 = .ok (.ldc2_w 142, 3) := by decide +kernel
theorem dX9_soft_13 : decode cX9_soft 13 = .ok (.invokestatic 60, 3) := by decide +kernel
theorem dX9_soft_16 : decode cX9_soft 16 = .ok (.ifCond .eq 27, 3) := by decide +kernel
theorem dX9_soft_19 : decode cX9_soft 19 = .ok (.iload_n 2, 1) := by decide +kernel
theorem dX9_soft_20 : decode cX9_soft 20 = .ok (.i2l, 1) := by decide +kernel
theorem dX9_soft_21 : decode cX9_soft 21 = .ok (.lconst 0, 1) := by decide +kernel
theorem dX9_soft_22 : decode cX9_soft 22 = .ok (.iload_n 3, 1) := by decide +kernel
theorem dX9_soft_23 : decode cX9_soft 23 = .ok (.i2l, 1) := by decide +kernel
theorem dX9_soft_24 : decode cX9_soft 24 = .ok (.invokestatic 60, 3) := by decide +kernel
theorem dX9_soft_27 : decode cX9_soft 27 = .ok (.ifCond .eq 16, 3) := by decide +kernel
theorem dX9_soft_30 : decode cX9_soft 30 = .ok (.iload 4, 2) := by decide +kernel
theorem dX9_soft_32 : decode cX9_soft 32 = .ok (.i2l, 1) := by decide +kernel
theorem dX9_soft_33 : decode cX9_soft 33 = .ok (.lconst 0, 1) := by decide +kernel
theorem dX9_soft_34 : decode cX9_soft 34 = .ok (.ldc2_w 130, 3) := by decide +kernel
theorem dX9_soft_37 : decode cX9_soft 37 = .ok (.invokestatic 60, 3) := by decide +kernel
theorem dX9_soft_40 : decode cX9_soft 40 = .ok (.ifCond .ne 5, 3) := by decide +kernel
theorem dX9_soft_43 : decode cX9_soft 43 = .ok (.iconst 0, 1) := by decide +kernel
theorem dX9_soft_44 : decode cX9_soft 44 = .ok (.ireturn, 1) := by decide +kernel
theorem dX9_soft_45 : decode cX9_soft 45 = .ok (.aload_n 0, 1) := by decide +kernel
theorem dX9_soft_46 : decode cX9_soft 46 = .ok (.iload_n 1, 1) := by decide +kernel
theorem dX9_soft_47 : decode cX9_soft 47 = .ok (.iload_n 2, 1) := by decide +kernel
theorem dX9_soft_48 : decode cX9_soft 48 = .ok (.iload_n 3, 1) := by decide +kernel
theorem dX9_soft_49 : decode cX9_soft 49 = .ok (.iload 4, 2) := by decide +kernel
theorem dX9_soft_51 : decode cX9_soft 51 = .ok (.invokevirtual 144, 3) := by decide +kernel
theorem dX9_soft_54 : decode cX9_soft 54 = .ok (.iconst 1, 1) := by decide +kernel
theorem dX9_soft_55 : decode cX9_soft 55 = .ok (.ireturn, 1) := by decide +kernel
theorem dX9_settle_0 : decode cX9_settle 0 = .ok (.iload_n 1, 1) := by decide +kernel
theorem dX9_settle_1 : decode cX9_settle 1 = .ok (.invokestatic 126, 3) := by decide +kernel
theorem dX9_settle_4 : decode cX9_settle 4 = .ok (.ifCond .eq 15, 3) := by decide +kernel
theorem dX9_settle_7 : decode cX9_settle 7 = .ok (.iload_n 2, 1) := by decide +kernel
theorem dX9_settle_8 : decode cX9_settle 8 = .ok (.i2l, 1) := by decide +kernel
theorem dX9_settle_9 : decode cX9_settle 9 = .ok (.lconst 0, 1) := by decide +kernel
theorem dX9_settle_10 : decode cX9_settle 10 = .ok (.ldc2_w 142, 3) := by decide +kernel
theorem dX9_settle_13 : decode cX9_settle 13 = .ok (.invokestatic 60, 3) := by decide +kernel
theorem dX9_settle_16 : decode cX9_settle 16 = .ok (.ifCond .ne 5, 3) := by decide +kernel
theorem dX9_settle_19 : decode cX9_settle 19 = .ok (.iconst (-1), 1) := by decide +kernel
theorem dX9_settle_20 : decode cX9_settle 20 = .ok (.ireturn, 1) := by decide +kernel
theorem dX9_settle_21 : decode cX9_settle 21 = .ok (.aload_n 0, 1) := by decide +kernel
theorem dX9_settle_22 : decode cX9_settle 22 = .ok (.iload_n 1, 1) := by decide +kernel
theorem dX9_settle_23 : decode cX9_settle 23 = .ok (.bipush 26, 2) := by decide +kernel
theorem dX9_settle_25 : decode cX9_settle 25 = .ok (.invokevirtual 122, 3) := by decide +kernel
theorem dX9_settle_28 : decode cX9_settle 28 = .ok (.istore_n 3, 1) := by decide +kernel
theorem dX9_settle_29 : decode cX9_settle 29 = .ok (.aload_n 0, 1) := by decide +kernel
theorem dX9_settle_30 : decode cX9_settle 30 = .ok (.iload_n 1, 1) := by decide +kernel
theorem dX9_settle_31 : decode cX9_settle 31 = .ok (.bipush 26, 2) := by decide +kernel
theorem dX9_settle_33 : decode cX9_settle 33 = .ok (.iload_n 2, 1) := by decide +kernel
theorem dX9_settle_34 : decode cX9_settle 34 = .ok (.invokevirtual 54, 3) := by decide +kernel
theorem dX9_settle_37 : decode cX9_settle 37 = .ok (.iload_n 3, 1) := by decide +kernel
theorem dX9_settle_38 : decode cX9_settle 38 = .ok (.ireturn, 1) := by decide +kernel
theorem dX9_told_0 : decode cX9_told 0 = .ok (.iload_n 1, 1) := by decide +kernel
theorem dX9_told_1 : decode cX9_told 1 = .ok (.invokestatic 126, 3) := by decide +kernel
theorem dX9_told_4 : decode cX9_told 4 = .ok (.ifCond .ne 5, 3) := by decide +kernel
theorem dX9_told_7 : decode cX9_told 7 = .ok (.iconst (-1), 1) := by decide +kernel
theorem dX9_told_8 : decode cX9_told 8 = .ok (.ireturn, 1) := by decide +kernel
theorem dX9_told_9 : decode cX9_told 9 = .ok (.iload_n 2, 1) := by decide +kernel
theorem dX9_told_10 : decode cX9_told 10 = .ok (.i2l, 1) := by decide +kernel
theorem dX9_told_11 : decode cX9_told 11 = .ok (.lconst 0, 1) := by decide +kernel
theorem dX9_told_12 : decode cX9_told 12 = .ok (.lconst 1, 1) := by decide +kernel
theorem dX9_told_13 : decode cX9_told 13 = .ok (.invokestatic 60, 3) := by decide +kernel
theorem dX9_told_16 : decode cX9_told 16 = .ok (.ifCond .eq 10, 3) := by decide +kernel
theorem dX9_told_19 : decode cX9_told 19 = .ok (.aload_n 0, 1) := by decide +kernel
theorem dX9_told_20 : decode cX9_told 20 = .ok (.iload_n 1, 1) := by decide +kernel
theorem dX9_told_21 : decode cX9_told 21 = .ok (.iload_n 2, 1) := by decide +kernel
theorem dX9_told_22 : decode cX9_told 22 = .ok (.invokevirtual 122, 3) := by decide +kernel
theorem dX9_told_25 : decode cX9_told 25 = .ok (.ireturn, 1) := by decide +kernel
theorem dX9_told_26 : decode cX9_told 26 = .ok (.iload_n 2, 1) := by decide +kernel
theorem dX9_told_27 : decode cX9_told 27 = .ok (.i2l, 1) := by decide +kernel
theorem dX9_told_28 : decode cX9_told 28 = .ok (.ldc2_w 58, 3) := by decide +kernel
theorem dX9_told_31 : decode cX9_told 31 = .ok (.ldc2_w 142, 3) := by decide +kernel
theorem dX9_told_34 : decode cX9_told 34 = .ok (.invokestatic 60, 3) := by decide +kernel
theorem dX9_told_37 : decode cX9_told 37 = .ok (.ifCond .eq 15, 3) := by decide +kernel
theorem dX9_told_40 : decode cX9_told 40 = .ok (.aload_n 0, 1) := by decide +kernel
theorem dX9_told_41 : decode cX9_told 41 = .ok (.iload_n 1, 1) := by decide +kernel
theorem dX9_told_42 : decode cX9_told 42 = .ok (.bipush 21, 2) := by decide +kernel
theorem dX9_told_44 : decode cX9_told 44 = .ok (.iload_n 2, 1) := by decide +kernel
theorem dX9_told_45 : decode cX9_told 45 = .ok (.iadd, 1) := by decide +kernel
theorem dX9_told_46 : decode cX9_told 46 = .ok (.iconst 2, 1) := by decide +kernel
theorem dX9_told_47 : decode cX9_told 47 = .ok (.isub, 1) := by decide +kernel
theorem dX9_told_48 : decode cX9_told 48 = .ok (.invokevirtual 122, 3) := by decide +kernel
theorem dX9_told_51 : decode cX9_told 51 = .ok (.ireturn, 1) := by decide +kernel
theorem dX9_told_52 : decode cX9_told 52 = .ok (.iload_n 2, 1) := by decide +kernel
theorem dX9_told_53 : decode cX9_told 53 = .ok (.i2l, 1) := by decide +kernel
theorem dX9_told_54 : decode cX9_told 54 = .ok (.ldc2_w 147, 3) := by decide +kernel
theorem dX9_told_57 : decode cX9_told 57 = .ok (.ldc2_w 149, 3) := by decide +kernel
theorem dX9_told_60 : decode cX9_told 60 = .ok (.invokestatic 60, 3) := by decide +kernel
theorem dX9_told_63 : decode cX9_told 63 = .ok (.ifCond .eq 15, 3) := by decide +kernel
theorem dX9_told_66 : decode cX9_told 66 = .ok (.aload_n 0, 1) := by decide +kernel
theorem dX9_told_67 : decode cX9_told 67 = .ok (.iload_n 1, 1) := by decide +kernel
theorem dX9_told_68 : decode cX9_told 68 = .ok (.bipush 23, 2) := by decide +kernel
theorem dX9_told_70 : decode cX9_told 70 = .ok (.iload_n 2, 1) := by decide +kernel
theorem dX9_told_71 : decode cX9_told 71 = .ok (.iadd, 1) := by decide +kernel
theorem dX9_told_72 : decode cX9_told 72 = .ok (.iconst 4, 1) := by decide +kernel
theorem dX9_told_73 : decode cX9_told 73 = .ok (.isub, 1) := by decide +kernel
theorem dX9_told_74 : decode cX9_told 74 = .ok (.invokevirtual 122, 3) := by decide +kernel
theorem dX9_told_77 : decode cX9_told 77 = .ok (.ireturn, 1) := by decide +kernel
theorem dX9_told_78 : decode cX9_told 78 = .ok (.iload_n 2, 1) := by decide +kernel
theorem dX9_told_79 : decode cX9_told 79 = .ok (.i2l, 1) := by decide +kernel
theorem dX9_told_80 : decode cX9_told 80 = .ok (.ldc2_w 151, 3) := by decide +kernel
theorem dX9_told_83 : decode cX9_told 83 = .ok (.ldc2_w 153, 3) := by decide +kernel
theorem dX9_told_86 : decode cX9_told 86 = .ok (.invokestatic 60, 3) := by decide +kernel
theorem dX9_told_89 : decode cX9_told 89 = .ok (.ifCond .eq 15, 3) := by decide +kernel
theorem dX9_told_92 : decode cX9_told 92 = .ok (.aload_n 0, 1) := by decide +kernel
theorem dX9_told_93 : decode cX9_told 93 = .ok (.iload_n 1, 1) := by decide +kernel
theorem dX9_told_94 : decode cX9_told 94 = .ok (.iconst 2, 1) := by decide +kernel
theorem dX9_told_95 : decode cX9_told 95 = .ok (.iload_n 2, 1) := by decide +kernel
theorem dX9_told_96 : decode cX9_told 96 = .ok (.iadd, 1) := by decide +kernel
theorem dX9_told_97 : decode cX9_told 97 = .ok (.bipush 10, 2) := by decide +kernel
theorem dX9_told_99 : decode cX9_told 99 = .ok (.isub, 1) := by decide +kernel
theorem dX9_told_100 : decode cX9_told 100 = .ok (.invokevirtual 122, 3) := by decide +kernel
theorem dX9_told_103 : decode cX9_told 103 = .ok (.ireturn, 1) := by decide +kernel
theorem dX9_told_104 : decode cX9_told 104 = .ok (.iload_n 2, 1) := by decide +kernel
theorem dX9_told_105 : decode cX9_told 105 = .ok (.i2l, 1) := by decide +kernel
theorem dX9_told_106 : decode cX9_told 106 = .ok (.ldc2_w 79, 3) := by decide +kernel
theorem dX9_told_109 : decode cX9_told 109 = .ok (.ldc2_w 155, 3) := by decide +kernel
theorem dX9_told_112 : decode cX9_told 112 = .ok (.invokestatic 60, 3) := by decide +kernel
theorem dX9_told_115 : decode cX9_told 115 = .ok (.ifCond .eq 20, 3) := by decide +kernel
theorem dX9_told_118 : decode cX9_told 118 = .ok (.aload_n 0, 1) := by decide +kernel
theorem dX9_told_119 : decode cX9_told 119 = .ok (.aload_n 0, 1) := by decide +kernel
theorem dX9_told_120 : decode cX9_told 120 = .ok (.iload_n 1, 1) := by decide +kernel
theorem dX9_told_121 : decode cX9_told 121 = .ok (.bipush 9, 2) := by decide +kernel
theorem dX9_told_123 : decode cX9_told 123 = .ok (.iload_n 2, 1) := by decide +kernel
theorem dX9_told_124 : decode cX9_told 124 = .ok (.iadd, 1) := by decide +kernel
theorem dX9_told_125 : decode cX9_told 125 = .ok (.bipush 20, 2) := by decide +kernel
theorem dX9_told_127 : decode cX9_told 127 = .ok (.isub, 1) := by decide +kernel
theorem dX9_told_128 : decode cX9_told 128 = .ok (.invokevirtual 122, 3) := by decide +kernel
theorem dX9_told_131 : decode cX9_told 131 = .ok (.invokevirtual 134, 3) := by decide +kernel
theorem dX9_told_134 : decode cX9_told 134 = .ok (.ireturn, 1) := by decide +kernel
theorem dX9_told_135 : decode cX9_told 135 = .ok (.iload_n 2, 1) := by decide +kernel
theorem dX9_told_136 : decode cX9_told 136 = .ok (.i2l, 1) := by decide +kernel
theorem dX9_told_137 : decode cX9_told 137 = .ok (.ldc2_w 157, 3) := by decide +kernel
theorem dX9_told_140 : decode cX9_told 140 = .ok (.ldc2_w 159, 3) := by decide +kernel
theorem dX9_told_143 : decode cX9_told 143 = .ok (.invokestatic 60, 3) := by decide +kernel
theorem dX9_told_146 : decode cX9_told 146 = .ok (.ifCond .eq 22, 3) := by decide +kernel
theorem dX9_told_149 : decode cX9_told 149 = .ok (.aload_n 0, 1) := by decide +kernel
theorem dX9_told_150 : decode cX9_told 150 = .ok (.aload_n 0, 1) := by decide +kernel
theorem dX9_told_151 : decode cX9_told 151 = .ok (.iload_n 1, 1) := by decide +kernel
theorem dX9_told_152 : decode cX9_told 152 = .ok (.bipush 15, 2) := by decide +kernel
theorem dX9_told_154 : decode cX9_told 154 = .ok (.iload_n 2, 1) := by decide +kernel
theorem dX9_told_155 : decode cX9_told 155 = .ok (.iadd, 1) := by decide +kernel
theorem dX9_told_156 : decode cX9_told 156 = .ok (.bipush 30, 2) := by decide +kernel
theorem dX9_told_158 : decode cX9_told 158 = .ok (.isub, 1) := by decide +kernel
theorem dX9_told_159 : decode cX9_told 159 = .ok (.invokevirtual 122, 3) := by decide +kernel
theorem dX9_told_162 : decode cX9_told 162 = .ok (.invokevirtual 134, 3) := by decide +kernel
theorem dX9_told_165 : decode cX9_told 165 = .ok (.goto 4, 3) := by decide +kernel
theorem dX9_told_168 : decode cX9_told 168 = .ok (.iconst (-1), 1) := by decide +kernel
theorem dX9_told_169 : decode cX9_told 169 = .ok (.ireturn, 1) := by decide +kernel
theorem dX9_copy_0 : decode cX9_copy 0 = .ok (.iload_n 1, 1) := by decide +kernel
theorem dX9_copy_1 : decode cX9_copy 1 = .ok (.invokestatic 126, 3) := by decide +kernel
theorem dX9_copy_4 : decode cX9_copy 4 = .ok (.ifCond .eq 15, 3) := by decide +kernel
theorem dX9_copy_7 : decode cX9_copy 7 = .ok (.iload_n 2, 1) := by decide +kernel
theorem dX9_copy_8 : decode cX9_copy 8 = .ok (.invokestatic 126, 3) := by decide +kernel
theorem dX9_copy_11 : decode cX9_copy 11 = .ok (.ifCond .eq 8, 3) := by decide +kernel
theorem dX9_copy_14 : decode cX9_copy 14 = .ok (.iload_n 1, 1) := by decide +kernel
theorem dX9_copy_15 : decode cX9_copy 15 = .ok (.iload_n 2, 1) := by decide +kernel
theorem dX9_copy_16 : decode cX9_copy 16 = .ok (.if_icmp .ne 5, 3) := by decide +kernel
theorem dX9_copy_19 : decode cX9_copy 19 = .ok (.iconst 0, 1) := by decide +kernel
theorem dX9_copy_20 : decode cX9_copy 20 = .ok (.ireturn, 1) := by decide +kernel
theorem dX9_copy_21 : decode cX9_copy 21 = .ok (.aload_n 0, 1) := by decide +kernel
theorem dX9_copy_22 : decode cX9_copy 22 = .ok (.iload_n 1, 1) := by decide +kernel
theorem dX9_copy_23 : decode cX9_copy 23 = .ok (.iload_n 2, 1) := by decide +kernel
theorem dX9_copy_24 : decode cX9_copy 24 = .ok (.invokevirtual 161, 3) := by decide +kernel
theorem dX9_copy_27 : decode cX9_copy 27 = .ok (.iconst 1, 1) := by decide +kernel
theorem dX9_copy_28 : decode cX9_copy 28 = .ok (.ireturn, 1) := by decide +kernel
theorem dX9_see_0 : decode cX9_see 0 = .ok (.aload_n 0, 1) := by decide +kernel
theorem dX9_see_1 : decode cX9_see 1 = .ok (.getfield 164, 3) := by decide +kernel
theorem dX9_see_4 : decode cX9_see 4 = .ok (.aload_n 0, 1) := by decide +kernel
theorem dX9_see_5 : decode cX9_see 5 = .ok (.getfield 167, 3) := by decide +kernel
theorem dX9_see_8 : decode cX9_see 8 = .ok (.if_icmp .ge 30, 3) := by decide +kernel
theorem dX9_see_11 : decode cX9_see 11 = .ok (.aload_n 0, 1) := by decide +kernel
theorem dX9_see_12 : decode cX9_see 12 = .ok (.getfield 7, 3) := by decide +kernel
theorem dX9_see_15 : decode cX9_see 15 = .ok (.aload_n 0, 1) := by decide +kernel
theorem dX9_see_16 : decode cX9_see 16 = .ok (.getfield 164, 3) := by decide +kernel
theorem dX9_see_19 : decode cX9_see 19 = .ok (.baload, 1) := by decide +kernel
theorem dX9_see_20 : decode cX9_see 20 = .ok (.bipush 32, 2) := by decide +kernel
theorem dX9_see_22 : decode cX9_see 22 = .ok (.if_icmp .ne 16, 3) := by decide +kernel
theorem dX9_see_25 : decode cX9_see 25 = .ok (.aload_n 0, 1) := by decide +kernel
theorem dX9_see_26 : decode cX9_see 26 = .ok (.aload_n 0, 1) := by decide +kernel
theorem dX9_see_27 : decode cX9_see 27 = .ok (.getfield 164, 3) := by decide +kernel
theorem dX9_see_30 : decode cX9_see 30 = .ok (.iconst 1, 1) := by decide +kernel
theorem dX9_see_31 : decode cX9_see 31 = .ok (.iadd, 1) := by decide +kernel
theorem dX9_see_32 : decode cX9_see 32 = .ok (.putfield 164, 3) := by decide +kernel
theorem dX9_see_35 : decode cX9_see 35 = .ok (.goto (-35), 3) := by decide +kernel
theorem dX9_see_38 : decode cX9_see 38 = .ok (.aload_n 0, 1) := by decide +kernel
theorem dX9_see_39 : decode cX9_see 39 = .ok (.getfield 164, 3) := by decide +kernel
theorem dX9_see_42 : decode cX9_see 42 = .ok (.aload_n 0, 1) := by decide +kernel
theorem dX9_see_43 : decode cX9_see 43 = .ok (.getfield 167, 3) := by decide +kernel
theorem dX9_see_46 : decode cX9_see 46 = .ok (.if_icmp .ge 19, 3) := by decide +kernel
theorem dX9_see_49 : decode cX9_see 49 = .ok (.aload_n 0, 1) := by decide +kernel
theorem dX9_see_50 : decode cX9_see 50 = .ok (.getfield 7, 3) := by decide +kernel
theorem dX9_see_53 : decode cX9_see 53 = .ok (.aload_n 0, 1) := by decide +kernel
theorem dX9_see_54 : decode cX9_see 54 = .ok (.getfield 164, 3) := by decide +kernel
theorem dX9_see_57 : decode cX9_see 57 = .ok (.baload, 1) := by decide +kernel
theorem dX9_see_58 : decode cX9_see 58 = .ok (.sipush 255, 3) := by decide +kernel
theorem dX9_see_61 : decode cX9_see 61 = .ok (.iand, 1) := by decide +kernel
theorem dX9_see_62 : decode cX9_see 62 = .ok (.goto 4, 3) := by decide +kernel
theorem dX9_see_65 : decode cX9_see 65 = .ok (.iconst (-1), 1) := by decide +kernel
theorem dX9_see_66 : decode cX9_see 66 = .ok (.ireturn, 1) := by decide +kernel
theorem dX9_wrong_0 : decode cX9_wrong 0 = .ok (.aload_n 0, 1) := by decide +kernel
theorem dX9_wrong_1 : decode cX9_wrong 1 = .ok (.getfield 170, 3) := by decide +kernel
theorem dX9_wrong_4 : decode cX9_wrong 4 = .ok (.ifCond .ne 14, 3) := by decide +kernel
theorem dX9_wrong_7 : decode cX9_wrong 7 = .ok (.aload_n 0, 1) := by decide +kernel
theorem dX9_wrong_8 : decode cX9_wrong 8 = .ok (.sipush (-1000), 3) := by decide +kernel
theorem dX9_wrong_11 : decode cX9_wrong 11 = .ok (.iload_n 1, 1) := by decide +kernel
theorem dX9_wrong_12 : decode cX9_wrong 12 = .ok (.imul, 1) := by decide +kernel
theorem dX9_wrong_13 : decode cX9_wrong 13 = .ok (.iload_n 2, 1) := by decide +kernel
theorem dX9_wrong_14 : decode cX9_wrong 14 = .ok (.isub, 1) := by decide +kernel
theorem dX9_wrong_15 : decode cX9_wrong 15 = .ok (.putfield 170, 3) := by decide +kernel
theorem dX9_wrong_18 : decode cX9_wrong 18 = .ok (.iconst 0, 1) := by decide +kernel
theorem dX9_wrong_19 : decode cX9_wrong 19 = .ok (.ireturn, 1) := by decide +kernel
theorem dX9_isFigure_0 : decode cX9_isFigure 0 = .ok (.iload_n 0, 1) := by decide +kernel
theorem dX9_isFigure_1 : decode cX9_isFigure 1 = .ok (.i2l, 1) := by decide +kernel
theorem dX9_isFigure_2 : decode cX9_isFigure 2 = .ok (.ldc2_w 173, 3) := by decide +kernel
theorem dX9_isFigure_5 : decode cX9_isFigure 5 = .ok (.ldc2_w 175, 3) := by decide +kernel
theorem dX9_isFigure_8 : decode cX9_isFigure 8 = .ok (.invokestatic 60, 3) := by decide +kernel
theorem dX9_isFigure_11 : decode cX9_isFigure 11 = .ok (.ireturn, 1) := by decide +kernel
theorem dX9_counts_0 : decode cX9_counts 0 = .ok (.aload_n 0, 1) := by decide +kernel
theorem dX9_counts_1 : decode cX9_counts 1 = .ok (.invokevirtual 177, 3) := by decide +kernel
theorem dX9_counts_4 : decode cX9_counts 4 = .ok (.istore_n 2, 1) := by decide +kernel
theorem dX9_counts_5 : decode cX9_counts 5 = .ok (.aload_n 0, 1) := by decide +kernel
theorem dX9_counts_6 : decode cX9_counts 6 = .ok (.aload_n 0, 1) := by decide +kernel
theorem dX9_counts_7 : decode cX9_counts 7 = .ok (.getfield 164, 3) := by decide +kernel
theorem dX9_counts_10 : decode cX9_counts 10 = .ok (.putfield 181, 3) := by decide +kernel
theorem dX9_counts_13 : decode cX9_counts 13 = .ok (.aload_n 0, 1) := by decide +kernel
theorem dX9_counts_14 : decode cX9_counts 14 = .ok (.iconst 0, 1) := by decide +kernel
theorem dX9_counts_15 : decode cX9_counts 15 = .ok (.putfield 184, 3) := by decide +kernel
theorem dX9_counts_18 : decode cX9_counts 18 = .ok (.aload_n 0, 1) := by decide +kernel
theorem dX9_counts_19 : decode cX9_counts 19 = .ok (.iconst 0, 1) := by decide +kernel
theorem dX9_counts_20 : decode cX9_counts 20 = .ok (.putfield 187, 3) := by decide +kernel
theorem dX9_counts_23 : decode cX9_counts 23 = .ok (.iload_n 2, 1) := by decide +kernel
theorem dX9_counts_24 : decode cX9_counts 24 = .ok (.invokestatic 190, 3) := by decide +kernel
theorem dX9_counts_27 : decode cX9_counts 27 = .ok (.ifCond .ne 13, 3) := by decide +kernel
theorem dX9_counts_30 : decode cX9_counts 30 = .ok (.aload_n 0, 1) := by decide +kernel
theorem dX9_counts_31 : decode cX9_counts 31 = .ok (.iconst 1, 1) := by decide +kernel
theorem dX9_counts_32 : decode cX9_counts 32 = .ok (.aload_n 0, 1) := by decide +kernel
theorem dX9_counts_33 : decode cX9_counts 33 = .ok (.getfield 164, 3) := by decide +kernel
theorem dX9_counts_36 : decode cX9_counts 36 = .ok (.invokevirtual 193, 3) := by decide +kernel
theorem dX9_counts_39 : decode cX9_counts 39 = .ok (.ireturn, 1) := by decide +kernel
theorem dX9_counts_40 : decode cX9_counts 40 = .ok (.aload_n 0, 1) := by decide +kernel
theorem dX9_counts_41 : decode cX9_counts 41 = .ok (.getfield 164, 3) := by decide +kernel
theorem dX9_counts_44 : decode cX9_counts 44 = .ok (.aload_n 0, 1) := by decide +kernel
theorem dX9_counts_45 : decode cX9_counts 45 = .ok (.getfield 167, 3) := by decide +kernel
theorem dX9_counts_48 : decode cX9_counts 48 = .ok (.if_icmp .ge 73, 3) := by decide +kernel
theorem dX9_counts_51 : decode cX9_counts 51 = .ok (.aload_n 0, 1) := by decide +kernel
theorem dX9_counts_52 : decode cX9_counts 52 = .ok (.getfield 187, 3) := by decide +kernel
theorem dX9_counts_55 : decode cX9_counts 55 = .ok (.iload_n 1, 1) := by decide +kernel
theorem dX9_counts_56 : decode cX9_counts 56 = .ok (.if_icmp .ge 65, 3) := by decide +kernel
theorem dX9_counts_59 : decode cX9_counts 59 = .ok (.aload_n 0, 1) := by decide +kernel
theorem dX9_counts_60 : decode cX9_counts 60 = .ok (.getfield 7, 3) := by decide +kernel
theorem dX9_counts_63 : decode cX9_counts 63 = .ok (.aload_n 0, 1) := by decide +kernel
theorem dX9_counts_64 : decode cX9_counts 64 = .ok (.getfield 164, 3) := by decide +kernel
theorem dX9_counts_67 : decode cX9_counts 67 = .ok (.baload, 1) := by decide +kernel
theorem dX9_counts_68 : decode cX9_counts 68 = .ok (.invokestatic 190, 3) := by decide +kernel
theorem dX9_counts_71 : decode cX9_counts 71 = .ok (.ifCond .eq 50, 3) := by decide +kernel
theorem dX9_counts_74 : decode cX9_counts 74 = .ok (.aload_n 0, 1) := by decide +kernel
theorem dX9_counts_75 : decode cX9_counts 75 = .ok (.bipush 10, 2) := by decide +kernel
theorem dX9_counts_77 : decode cX9_counts 77 = .ok (.aload_n 0, 1) := by decide +kernel
theorem dX9_counts_78 : decode cX9_counts 78 = .ok (.getfield 184, 3) := by decide +kernel
theorem dX9_counts_81 : decode cX9_counts 81 = .ok (.imul, 1) := by decide +kernel
theorem dX9_counts_82 : decode cX9_counts 82 = .ok (.aload_n 0, 1) := by decide +kernel
theorem dX9_counts_83 : decode cX9_counts 83 = .ok (.getfield 7, 3) := by decide +kernel
theorem dX9_counts_86 : decode cX9_counts 86 = .ok (.aload_n 0, 1) := by decide +kernel
theorem dX9_counts_87 : decode cX9_counts 87 = .ok (.getfield 164, 3) := by decide +kernel
theorem dX9_counts_90 : decode cX9_counts 90 = .ok (.baload, 1) := by decide +kernel
theorem dX9_counts_91 : decode cX9_counts 91 = .ok (.iadd, 1) := by decide +kernel
theorem dX9_counts_92 : decode cX9_counts 92 = .ok (.bipush 48, 2) := by decide +kernel
theorem dX9_counts_94 : decode cX9_counts 94 = .ok (.isub, 1) := by decide +kernel
theorem dX9_counts_95 : decode cX9_counts 95 = .ok (.putfield 184, 3) := by decide +kernel
theorem dX9_counts_98 : decode cX9_counts 98 = .ok (.aload_n 0, 1) := by decide +kernel
theorem dX9_counts_99 : decode cX9_counts 99 = .ok (.aload_n 0, 1) := by decide +kernel
theorem dX9_counts_100 : decode cX9_counts 100 = .ok (.getfield 187, 3) := by decide +kernel
theorem dX9_counts_103 : decode cX9_counts 103 = .ok (.iconst 1, 1) := by decide +kernel
theorem dX9_counts_104 : decode cX9_counts 104 = .ok (.iadd, 1) := by decide +kernel
theorem dX9_counts_105 : decode cX9_counts 105 = .ok (.putfield 187, 3) := by decide +kernel
theorem dX9_counts_108 : decode cX9_counts 108 = .ok (.aload_n 0, 1) := by decide +kernel
theorem dX9_counts_109 : decode cX9_counts 109 = .ok (.aload_n 0, 1) := by decide +kernel
theorem dX9_counts_110 : decode cX9_counts 110 = .ok (.getfield 164, 3) := by decide +kernel
theorem dX9_counts_113 : decode cX9_counts 113 = .ok (.iconst 1, 1) := by decide +kernel
theorem dX9_counts_114 : decode cX9_counts 114 = .ok (.iadd, 1) := by decide +kernel
theorem dX9_counts_115 : decode cX9_counts 115 = .ok (.putfield 164, 3) := by decide +kernel
theorem dX9_counts_118 : decode cX9_counts 118 = .ok (.goto (-78), 3) := by decide +kernel
theorem dX9_counts_121 : decode cX9_counts 121 = .ok (.iload_n 1, 1) := by decide +kernel
theorem dX9_counts_122 : decode cX9_counts 122 = .ok (.iconst 1, 1) := by decide +kernel
theorem dX9_counts_123 : decode cX9_counts 123 = .ok (.if_icmp .le 39, 3) := by decide +kernel
theorem dX9_counts_126 : decode cX9_counts 126 = .ok (.aload_n 0, 1) := by decide +kernel
theorem dX9_counts_127 : decode cX9_counts 127 = .ok (.getfield 164, 3) := by decide +kernel
theorem dX9_counts_130 : decode cX9_counts 130 = .ok (.aload_n 0, 1) := by decide +kernel
theorem dX9_counts_131 : decode cX9_counts 131 = .ok (.getfield 167, 3) := by decide +kernel
theorem dX9_counts_134 : decode cX9_counts 134 = .ok (.if_icmp .ge 28, 3) := by decide +kernel
theorem dX9_counts_137 : decode cX9_counts 137 = .ok (.aload_n 0, 1) := by decide +kernel
theorem dX9_counts_138 : decode cX9_counts 138 = .ok (.getfield 7, 3) := by decide +kernel
theorem dX9_counts_141 : decode cX9_counts 141 = .ok (.aload_n 0, 1) := by decide +kernel
theorem dX9_counts_142 : decode cX9_counts 142 = .ok (.getfield 164, 3) := by decide +kernel
theorem dX9_counts_145 : decode cX9_counts 145 = .ok (.baload, 1) := by decide +kernel
theorem dX9_counts_146 : decode cX9_counts 146 = .ok (.invokestatic 190, 3) := by decide +kernel
theorem dX9_counts_149 : decode cX9_counts 149 = .ok (.ifCond .eq 13, 3) := by decide +kernel
theorem dX9_counts_152 : decode cX9_counts 152 = .ok (.aload_n 0, 1) := by decide +kernel
theorem dX9_counts_153 : decode cX9_counts 153 = .ok (.iconst 2, 1) := by decide +kernel
theorem dX9_counts_154 : decode cX9_counts 154 = .ok (.aload_n 0, 1) := by decide +kernel
theorem dX9_counts_155 : decode cX9_counts 155 = .ok (.getfield 164, 3) := by decide +kernel
theorem dX9_counts_158 : decode cX9_counts 158 = .ok (.invokevirtual 193, 3) := by decide +kernel
theorem dX9_counts_161 : decode cX9_counts 161 = .ok (.ireturn, 1) := by decide +kernel
theorem dX9_counts_162 : decode cX9_counts 162 = .ok (.iconst 1, 1) := by decide +kernel
theorem dX9_counts_163 : decode cX9_counts 163 = .ok (.ireturn, 1) := by decide +kernel
theorem dX9_reads_0 : decode cX9_reads 0 = .ok (.aload_n 0, 1) := by decide +kernel
theorem dX9_reads_1 : decode cX9_reads 1 = .ok (.iload_n 1, 1) := by decide +kernel
theorem dX9_reads_2 : decode cX9_reads 2 = .ok (.invokevirtual 196, 3) := by decide +kernel
theorem dX9_reads_5 : decode cX9_reads 5 = .ok (.ifCond .ne 5, 3) := by decide +kernel
theorem dX9_reads_8 : decode cX9_reads 8 = .ok (.iconst 0, 1) := by decide +kernel
theorem dX9_reads_9 : decode cX9_reads 9 = .ok (.ireturn, 1) := by decide +kernel
theorem dX9_reads_10 : decode cX9_reads 10 = .ok (.aload_n 0, 1) := by decide +kernel
theorem dX9_reads_11 : decode cX9_reads 11 = .ok (.getfield 184, 3) := by decide +kernel
theorem dX9_reads_14 : decode cX9_reads 14 = .ok (.i2l, 1) := by decide +kernel
theorem dX9_reads_15 : decode cX9_reads 15 = .ok (.iload_n 2, 1) := by decide +kernel
theorem dX9_reads_16 : decode cX9_reads 16 = .ok (.i2l, 1) := by decide +kernel
theorem dX9_reads_17 : decode cX9_reads 17 = .ok (.iload_n 3, 1) := by decide +kernel
theorem dX9_reads_18 : decode cX9_reads 18 = .ok (.i2l, 1) := by decide +kernel
theorem dX9_reads_19 : decode cX9_reads 19 = .ok (.invokestatic 60, 3) := by decide +kernel
theorem dX9_reads_22 : decode cX9_reads 22 = .ok (.ifCond .ne 15, 3) := by decide +kernel
theorem dX9_reads_25 : decode cX9_reads 25 = .ok (.aload_n 0, 1) := by decide +kernel
theorem dX9_reads_26 : decode cX9_reads 26 = .ok (.iconst 3, 1) := by decide +kernel
theorem dX9_reads_27 : decode cX9_reads 27 = .ok (.aload_n 0, 1) := by decide +kernel
theorem dX9_reads_28 : decode cX9_reads 28 = .ok (.getfield 181, 3) := by decide +kernel
theorem dX9_reads_31 : decode cX9_reads 31 = .ok (.invokevirtual 193, 3) := by decide +kernel
theorem dX9_reads_34 : decode cX9_reads 34 = .ok (.ifCond .eq 7, 3) := by decide +kernel
theorem dX9_reads_37 : decode cX9_reads 37 = .ok (.iconst 1, 1) := by decide +kernel
theorem dX9_reads_38 : decode cX9_reads 38 = .ok (.goto 4, 3) := by decide +kernel
theorem dX9_reads_41 : decode cX9_reads 41 = .ok (.iconst 0, 1) := by decide +kernel
theorem dX9_reads_42 : decode cX9_reads 42 = .ok (.ireturn, 1) := by decide +kernel
theorem dX9_passes_0 : decode cX9_passes 0 = .ok (.aload_n 0, 1) := by decide +kernel
theorem dX9_passes_1 : decode cX9_passes 1 = .ok (.getfield 170, 3) := by decide +kernel
theorem dX9_passes_4 : decode cX9_passes 4 = .ok (.ifCond .eq 5, 3) := by decide +kernel
theorem dX9_passes_7 : decode cX9_passes 7 = .ok (.iconst 0, 1) := by decide +kernel
theorem dX9_passes_8 : decode cX9_passes 8 = .ok (.ireturn, 1) := by decide +kernel
theorem dX9_passes_9 : decode cX9_passes 9 = .ok (.aload_n 0, 1) := by decide +kernel
theorem dX9_passes_10 : decode cX9_passes 10 = .ok (.invokevirtual 177, 3) := by decide +kernel
theorem dX9_passes_13 : decode cX9_passes 13 = .ok (.iload_n 1, 1) := by decide +kernel
theorem dX9_passes_14 : decode cX9_passes 14 = .ok (.if_icmp .eq 13, 3) := by decide +kernel
theorem dX9_passes_17 : decode cX9_passes 17 = .ok (.aload_n 0, 1) := by decide +kernel
theorem dX9_passes_18 : decode cX9_passes 18 = .ok (.iconst 1, 1) := by decide +kernel
theorem dX9_passes_19 : decode cX9_passes 19 = .ok (.aload_n 0, 1) := by decide +kernel
theorem dX9_passes_20 : decode cX9_passes 20 = .ok (.getfield 164, 3) := by decide +kernel
theorem dX9_passes_23 : decode cX9_passes 23 = .ok (.invokevirtual 193, 3) := by decide +kernel
theorem dX9_passes_26 : decode cX9_passes 26 = .ok (.ireturn, 1) := by decide +kernel
theorem dX9_passes_27 : decode cX9_passes 27 = .ok (.aload_n 0, 1) := by decide +kernel
theorem dX9_passes_28 : decode cX9_passes 28 = .ok (.aload_n 0, 1) := by decide +kernel
theorem dX9_passes_29 : decode cX9_passes 29 = .ok (.getfield 164, 3) := by decide +kernel
theorem dX9_passes_32 : decode cX9_passes 32 = .ok (.iconst 1, 1) := by decide +kernel
theorem dX9_passes_33 : decode cX9_passes 33 = .ok (.iadd, 1) := by decide +kernel
theorem dX9_passes_34 : decode cX9_passes 34 = .ok (.putfield 164, 3) := by decide +kernel
theorem dX9_passes_37 : decode cX9_passes 37 = .ok (.iconst 1, 1) := by decide +kernel
theorem dX9_passes_38 : decode cX9_passes 38 = .ok (.ireturn, 1) := by decide +kernel
theorem dX9_readsCoupon_0 : decode cX9_readsCoupon 0 = .ok (.aload_n 0, 1) := by decide +kernel
theorem dX9_readsCoupon_1 : decode cX9_readsCoupon 1 = .ok (.bipush 7, 2) := by decide +kernel
theorem dX9_readsCoupon_3 : decode cX9_readsCoupon 3 = .ok (.invokevirtual 196, 3) := by decide +kernel
theorem dX9_readsCoupon_6 : decode cX9_readsCoupon 6 = .ok (.ifCond .ne 4, 3) := by decide +kernel
theorem dX9_readsCoupon_9 : decode cX9_readsCoupon 9 = .ok (.return_, 1) := by decide +kernel
theorem dX9_readsCoupon_10 : decode cX9_readsCoupon 10 = .ok (.aload_n 0, 1) := by decide +kernel
theorem dX9_readsCoupon_11 : decode cX9_readsCoupon 11 = .ok (.getfield 187, 3) := by decide +kernel
theorem dX9_readsCoupon_14 : decode cX9_readsCoupon 14 = .ok (.iconst 1, 1) := by decide +kernel
theorem dX9_readsCoupon_15 : decode cX9_readsCoupon 15 = .ok (.if_icmp .ne 16, 3) := by decide +kernel
theorem dX9_readsCoupon_18 : decode cX9_readsCoupon 18 = .ok (.aload_n 0, 1) := by decide +kernel
theorem dX9_readsCoupon_19 : decode cX9_readsCoupon 19 = .ok (.invokevirtual 177, 3) := by decide +kernel
theorem dX9_readsCoupon_22 : decode cX9_readsCoupon 22 = .ok (.bipush 58, 2) := by decide +kernel
theorem dX9_readsCoupon_24 : decode cX9_readsCoupon 24 = .ok (.if_icmp .ne 7, 3) := by decide +kernel
theorem dX9_readsCoupon_27 : decode cX9_readsCoupon 27 = .ok (.iconst 1, 1) := by decide +kernel
theorem dX9_readsCoupon_28 : decode cX9_readsCoupon 28 = .ok (.goto 4, 3) := by decide +kernel
theorem dX9_readsCoupon_31 : decode cX9_readsCoupon 31 = .ok (.iconst 0, 1) := by decide +kernel
theorem dX9_readsCoupon_32 : decode cX9_readsCoupon 32 = .ok (.istore_n 1, 1) := by decide +kernel
theorem dX9_readsCoupon_33 : decode cX9_readsCoupon 33 = .ok (.aload_n 0, 1) := by decide +kernel
theorem dX9_readsCoupon_34 : decode cX9_readsCoupon 34 = .ok (.getfield 184, 3) := by decide +kernel
theorem dX9_readsCoupon_37 : decode cX9_readsCoupon 37 = .ok (.istore_n 2, 1) := by decide +kernel
theorem dX9_readsCoupon_38 : decode cX9_readsCoupon 38 = .ok (.iload_n 1, 1) := by decide +kernel
theorem dX9_readsCoupon_39 : decode cX9_readsCoupon 39 = .ok (.ifCond .eq 62, 3) := by decide +kernel
theorem dX9_readsCoupon_42 : decode cX9_readsCoupon 42 = .ok (.iload_n 2, 1) := by decide +kernel
theorem dX9_readsCoupon_43 : decode cX9_readsCoupon 43 = .ok (.i2l, 1) := by decide +kernel
theorem dX9_readsCoupon_44 : decode cX9_readsCoupon 44 = .ok (.lconst 1, 1) := by decide +kernel
theorem dX9_readsCoupon_45 : decode cX9_readsCoupon 45 = .ok (.ldc2_w 72, 3) := by decide +kernel
theorem dX9_readsCoupon_48 : decode cX9_readsCoupon 48 = .ok (.invokestatic 60, 3) := by decide +kernel
theorem dX9_readsCoupon_51 : decode cX9_readsCoupon 51 = .ok (.ifCond .ne 14, 3) := by decide +kernel
theorem dX9_readsCoupon_54 : decode cX9_readsCoupon 54 = .ok (.aload_n 0, 1) := by decide +kernel
theorem dX9_readsCoupon_55 : decode cX9_readsCoupon 55 = .ok (.iconst 3, 1) := by decide +kernel
theorem dX9_readsCoupon_56 : decode cX9_readsCoupon 56 = .ok (.aload_n 0, 1) := by decide +kernel
theorem dX9_readsCoupon_57 : decode cX9_readsCoupon 57 = .ok (.getfield 181, 3) := by decide +kernel
theorem dX9_readsCoupon_60 : decode cX9_readsCoupon 60 = .ok (.invokevirtual 193, 3) := by decide +kernel
theorem dX9_readsCoupon_63 : decode cX9_readsCoupon 63 = .ok (.pop, 1) := by decide +kernel
theorem dX9_readsCoupon_64 : decode cX9_readsCoupon 64 = .ok (.return_, 1) := by decide +kernel
theorem dX9_readsCoupon_65 : decode cX9_readsCoupon 65 = .ok (.aload_n 0, 1) := by decide +kernel
theorem dX9_readsCoupon_66 : decode cX9_readsCoupon 66 = .ok (.aload_n 0, 1) := by decide +kernel
theorem dX9_readsCoupon_67 : decode cX9_readsCoupon 67 = .ok (.getfield 164, 3) := by decide +kernel
theorem dX9_readsCoupon_70 : decode cX9_readsCoupon 70 = .ok (.iconst 1, 1) := by decide +kernel
theorem dX9_readsCoupon_71 : decode cX9_readsCoupon 71 = .ok (.iadd, 1) := by decide +kernel
theorem dX9_readsCoupon_72 : decode cX9_readsCoupon 72 = .ok (.putfield 164, 3) := by decide +kernel
theorem dX9_readsCoupon_75 : decode cX9_readsCoupon 75 = .ok (.aload_n 0, 1) := by decide +kernel
theorem dX9_readsCoupon_76 : decode cX9_readsCoupon 76 = .ok (.bipush 7, 2) := by decide +kernel
theorem dX9_readsCoupon_78 : decode cX9_readsCoupon 78 = .ok (.iconst 0, 1) := by decide +kernel
theorem dX9_readsCoupon_79 : decode cX9_readsCoupon 79 = .ok (.sipush 1000, 3) := by decide +kernel
theorem dX9_readsCoupon_82 : decode cX9_readsCoupon 82 = .ok (.invokevirtual 199, 3) := by decide +kernel
theorem dX9_readsCoupon_85 : decode cX9_readsCoupon 85 = .ok (.ifCond .eq 15, 3) := by decide +kernel
theorem dX9_readsCoupon_88 : decode cX9_readsCoupon 88 = .ok (.aload_n 0, 1) := by decide +kernel
theorem dX9_readsCoupon_89 : decode cX9_readsCoupon 89 = .ok (.iconst 3, 1) := by decide +kernel
theorem dX9_readsCoupon_90 : decode cX9_readsCoupon 90 = .ok (.iconst 2, 1) := by decide +kernel
theorem dX9_readsCoupon_91 : decode cX9_readsCoupon 91 = .ok (.iload_n 2, 1) := by decide +kernel
theorem dX9_readsCoupon_92 : decode cX9_readsCoupon 92 = .ok (.iadd, 1) := by decide +kernel
theorem dX9_readsCoupon_93 : decode cX9_readsCoupon 93 = .ok (.aload_n 0, 1) := by decide +kernel
theorem dX9_readsCoupon_94 : decode cX9_readsCoupon 94 = .ok (.getfield 184, 3) := by decide +kernel
theorem dX9_readsCoupon_97 : decode cX9_readsCoupon 97 = .ok (.invokevirtual 54, 3) := by decide +kernel
theorem dX9_readsCoupon_100 : decode cX9_readsCoupon 100 = .ok (.return_, 1) := by decide +kernel
theorem dX9_readsCoupon_101 : decode cX9_readsCoupon 101 = .ok (.aload_n 0, 1) := by decide +kernel
theorem dX9_readsCoupon_102 : decode cX9_readsCoupon 102 = .ok (.getfield 184, 3) := by decide +kernel
theorem dX9_readsCoupon_105 : decode cX9_readsCoupon 105 = .ok (.i2l, 1) := by decide +kernel
theorem dX9_readsCoupon_106 : decode cX9_readsCoupon 106 = .ok (.lconst 0, 1) := by decide +kernel
theorem dX9_readsCoupon_107 : decode cX9_readsCoupon 107 = .ok (.ldc2_w 74, 3) := by decide +kernel
theorem dX9_readsCoupon_110 : decode cX9_readsCoupon 110 = .ok (.invokestatic 60, 3) := by decide +kernel
theorem dX9_readsCoupon_113 : decode cX9_readsCoupon 113 = .ok (.ifCond .ne 14, 3) := by decide +kernel
theorem dX9_readsCoupon_116 : decode cX9_readsCoupon 116 = .ok (.aload_n 0, 1) := by decide +kernel
theorem dX9_readsCoupon_117 : decode cX9_readsCoupon 117 = .ok (.iconst 3, 1) := by decide +kernel
theorem dX9_readsCoupon_118 : decode cX9_readsCoupon 118 = .ok (.aload_n 0, 1) := by decide +kernel
theorem dX9_readsCoupon_119 : decode cX9_readsCoupon 119 = .ok (.getfield 181, 3) := by decide +kernel
theorem dX9_readsCoupon_122 : decode cX9_readsCoupon 122 = .ok (.invokevirtual 193, 3) := by decide +kernel
theorem dX9_readsCoupon_125 : decode cX9_readsCoupon 125 = .ok (.pop, 1) := by decide +kernel
theorem dX9_readsCoupon_126 : decode cX9_readsCoupon 126 = .ok (.return_, 1) := by decide +kernel
theorem dX9_readsCoupon_127 : decode cX9_readsCoupon 127 = .ok (.iconst 1, 1) := by decide +kernel
theorem dX9_readsCoupon_128 : decode cX9_readsCoupon 128 = .ok (.istore_n 3, 1) := by decide +kernel
theorem dX9_readsCoupon_129 : decode cX9_readsCoupon 129 = .ok (.iload_n 3, 1) := by decide +kernel
theorem dX9_readsCoupon_130 : decode cX9_readsCoupon 130 = .ok (.bipush 6, 2) := by decide +kernel
theorem dX9_readsCoupon_132 : decode cX9_readsCoupon 132 = .ok (.if_icmp .gt 21, 3) := by decide +kernel
theorem dX9_readsCoupon_135 : decode cX9_readsCoupon 135 = .ok (.aload_n 0, 1) := by decide +kernel
theorem dX9_readsCoupon_136 : decode cX9_readsCoupon 136 = .ok (.iconst 3, 1) := by decide +kernel
theorem dX9_readsCoupon_137 : decode cX9_readsCoupon 137 = .ok (.iconst 2, 1) := by decide +kernel
theorem dX9_readsCoupon_138 : decode cX9_readsCoupon 138 = .ok (.iload_n 3, 1) := by decide +kernel
theorem dX9_readsCoupon_139 : decode cX9_readsCoupon 139 = .ok (.iadd, 1) := by decide +kernel
theorem dX9_readsCoupon_140 : decode cX9_readsCoupon 140 = .ok (.aload_n 0, 1) := by decide +kernel
theorem dX9_readsCoupon_141 : decode cX9_readsCoupon 141 = .ok (.getfield 184, 3) := by decide +kernel
theorem dX9_readsCoupon_144 : decode cX9_readsCoupon 144 = .ok (.invokevirtual 54, 3) := by decide +kernel
theorem dX9_readsCoupon_147 : decode cX9_readsCoupon 147 = .ok (.iinc 3 1, 3) := by decide +kernel
theorem dX9_readsCoupon_150 : decode cX9_readsCoupon 150 = .ok (.goto (-21), 3) := by decide +kernel
theorem dX9_readsCoupon_153 : decode cX9_readsCoupon 153 = .ok (.return_, 1) := by decide +kernel
theorem dX9_readsPrice_0 : decode cX9_readsPrice 0 = .ok (.aload_n 0, 1) := by decide +kernel
theorem dX9_readsPrice_1 : decode cX9_readsPrice 1 = .ok (.iconst 1, 1) := by decide +kernel
theorem dX9_readsPrice_2 : decode cX9_readsPrice 2 = .ok (.iconst 0, 1) := by decide +kernel
theorem dX9_readsPrice_3 : decode cX9_readsPrice 3 = .ok (.iconst 5, 1) := by decide +kernel
theorem dX9_readsPrice_4 : decode cX9_readsPrice 4 = .ok (.invokevirtual 199, 3) := by decide +kernel
theorem dX9_readsPrice_7 : decode cX9_readsPrice 7 = .ok (.ifCond .ne 4, 3) := by decide +kernel
theorem dX9_readsPrice_10 : decode cX9_readsPrice 10 = .ok (.return_, 1) := by decide +kernel
theorem dX9_readsPrice_11 : decode cX9_readsPrice 11 = .ok (.aload_n 0, 1) := by decide +kernel
theorem dX9_readsPrice_12 : decode cX9_readsPrice 12 = .ok (.getfield 184, 3) := by decide +kernel
theorem dX9_readsPrice_15 : decode cX9_readsPrice 15 = .ok (.istore_n 2, 1) := by decide +kernel
theorem dX9_readsPrice_16 : decode cX9_readsPrice 16 = .ok (.aload_n 0, 1) := by decide +kernel
theorem dX9_readsPrice_17 : decode cX9_readsPrice 17 = .ok (.bipush 58, 2) := by decide +kernel
theorem dX9_readsPrice_19 : decode cX9_readsPrice 19 = .ok (.invokevirtual 203, 3) := by decide +kernel
theorem dX9_readsPrice_22 : decode cX9_readsPrice 22 = .ok (.ifCond .ne 4, 3) := by decide +kernel
theorem dX9_readsPrice_25 : decode cX9_readsPrice 25 = .ok (.return_, 1) := by decide +kernel
theorem dX9_readsPrice_26 : decode cX9_readsPrice 26 = .ok (.aload_n 0, 1) := by decide +kernel
theorem dX9_readsPrice_27 : decode cX9_readsPrice 27 = .ok (.invokevirtual 177, 3) := by decide +kernel
theorem dX9_readsPrice_30 : decode cX9_readsPrice 30 = .ok (.bipush 45, 2) := by decide +kernel
theorem dX9_readsPrice_32 : decode cX9_readsPrice 32 = .ok (.if_icmp .ne 25, 3) := by decide +kernel
theorem dX9_readsPrice_35 : decode cX9_readsPrice 35 = .ok (.aload_n 0, 1) := by decide +kernel
theorem dX9_readsPrice_36 : decode cX9_readsPrice 36 = .ok (.aload_n 0, 1) := by decide +kernel
theorem dX9_readsPrice_37 : decode cX9_readsPrice 37 = .ok (.getfield 164, 3) := by decide +kernel
theorem dX9_readsPrice_40 : decode cX9_readsPrice 40 = .ok (.iconst 1, 1) := by decide +kernel
theorem dX9_readsPrice_41 : decode cX9_readsPrice 41 = .ok (.iadd, 1) := by decide +kernel
theorem dX9_readsPrice_42 : decode cX9_readsPrice 42 = .ok (.putfield 164, 3) := by decide +kernel
theorem dX9_readsPrice_45 : decode cX9_readsPrice 45 = .ok (.aload_n 0, 1) := by decide +kernel
theorem dX9_readsPrice_46 : decode cX9_readsPrice 46 = .ok (.iconst 3, 1) := by decide +kernel
theorem dX9_readsPrice_47 : decode cX9_readsPrice 47 = .ok (.iload_n 1, 1) := by decide +kernel
theorem dX9_readsPrice_48 : decode cX9_readsPrice 48 = .ok (.iload_n 2, 1) := by decide +kernel
theorem dX9_readsPrice_49 : decode cX9_readsPrice 49 = .ok (.iadd, 1) := by decide +kernel
theorem dX9_readsPrice_50 : decode cX9_readsPrice 50 = .ok (.iconst (-1), 1) := by decide +kernel
theorem dX9_readsPrice_51 : decode cX9_readsPrice 51 = .ok (.invokevirtual 54, 3) := by decide +kernel
theorem dX9_readsPrice_54 : decode cX9_readsPrice 54 = .ok (.goto 27, 3) := by decide +kernel
theorem dX9_readsPrice_57 : decode cX9_readsPrice 57 = .ok (.aload_n 0, 1) := by decide +kernel
theorem dX9_readsPrice_58 : decode cX9_readsPrice 58 = .ok (.bipush 7, 2) := by decide +kernel
theorem dX9_readsPrice_60 : decode cX9_readsPrice 60 = .ok (.iconst 0, 1) := by decide +kernel
theorem dX9_readsPrice_61 : decode cX9_readsPrice 61 = .ok (.ldc 206, 2) := by decide +kernel
theorem dX9_readsPrice_63 : decode cX9_readsPrice 63 = .ok (.invokevirtual 199, 3) := by decide +kernel
theorem dX9_readsPrice_66 : decode cX9_readsPrice 66 = .ok (.ifCond .eq 15, 3) := by decide +kernel
theorem dX9_readsPrice_69 : decode cX9_readsPrice 69 = .ok (.aload_n 0, 1) := by decide +kernel
theorem dX9_readsPrice_70 : decode cX9_readsPrice 70 = .ok (.iconst 3, 1) := by decide +kernel
theorem dX9_readsPrice_71 : decode cX9_readsPrice 71 = .ok (.iload_n 1, 1) := by decide +kernel
theorem dX9_readsPrice_72 : decode cX9_readsPrice 72 = .ok (.iload_n 2, 1) := by decide +kernel
theorem dX9_readsPrice_73 : decode cX9_readsPrice 73 = .ok (.iadd, 1) := by decide +kernel
theorem dX9_readsPrice_74 : decode cX9_readsPrice 74 = .ok (.aload_n 0, 1) := by decide +kernel
theorem dX9_readsPrice_75 : decode cX9_readsPrice 75 = .ok (.getfield 184, 3) := by decide +kernel
theorem dX9_readsPrice_78 : decode cX9_readsPrice 78 = .ok (.invokevirtual 54, 3) := by decide +kernel
theorem dX9_readsPrice_81 : decode cX9_readsPrice 81 = .ok (.return_, 1) := by decide +kernel
theorem dX9_readsWindow_0 : decode cX9_readsWindow 0 = .ok (.aload_n 0, 1) := by decide +kernel
theorem dX9_readsWindow_1 : decode cX9_readsWindow 1 = .ok (.iconst 1, 1) := by decide +kernel
theorem dX9_readsWindow_2 : decode cX9_readsWindow 2 = .ok (.iconst 0, 1) := by decide +kernel
theorem dX9_readsWindow_3 : decode cX9_readsWindow 3 = .ok (.bipush 6, 2) := by decide +kernel
theorem dX9_readsWindow_5 : decode cX9_readsWindow 5 = .ok (.invokevirtual 199, 3) := by decide +kernel
theorem dX9_readsWindow_8 : decode cX9_readsWindow 8 = .ok (.ifCond .ne 4, 3) := by decide +kernel
theorem dX9_readsWindow_11 : decode cX9_readsWindow 11 = .ok (.return_, 1) := by decide +kernel
theorem dX9_readsWindow_12 : decode cX9_readsWindow 12 = .ok (.aload_n 0, 1) := by decide +kernel
theorem dX9_readsWindow_13 : decode cX9_readsWindow 13 = .ok (.getfield 184, 3) := by decide +kernel
theorem dX9_readsWindow_16 : decode cX9_readsWindow 16 = .ok (.istore_n 1, 1) := by decide +kernel
theorem dX9_readsWindow_17 : decode cX9_readsWindow 17 = .ok (.aload_n 0, 1) := by decide +kernel
theorem dX9_readsWindow_18 : decode cX9_readsWindow 18 = .ok (.bipush 45, 2) := by decide +kernel
theorem dX9_readsWindow_20 : decode cX9_readsWindow 20 = .ok (.invokevirtual 203, 3) := by decide +kernel
theorem dX9_readsWindow_23 : decode cX9_readsWindow 23 = .ok (.ifCond .eq 14, 3) := by decide +kernel
theorem dX9_readsWindow_26 : decode cX9_readsWindow 26 = .ok (.aload_n 0, 1) := by decide +kernel
theorem dX9_readsWindow_27 : decode cX9_readsWindow 27 = .ok (.iconst 1, 1) := by decide +kernel
theorem dX9_readsWindow_28 : decode cX9_readsWindow 28 = .ok (.iload_n 1, 1) := by decide +kernel
theorem dX9_readsWindow_29 : decode cX9_readsWindow 29 = .ok (.bipush 6, 2) := by decide +kernel
theorem dX9_readsWindow_31 : decode cX9_readsWindow 31 = .ok (.invokevirtual 199, 3) := by decide +kernel
theorem dX9_readsWindow_34 : decode cX9_readsWindow 34 = .ok (.ifCond .ne 4, 3) := by decide +kernel
theorem dX9_readsWindow_37 : decode cX9_readsWindow 37 = .ok (.return_, 1) := by decide +kernel
theorem dX9_readsWindow_38 : decode cX9_readsWindow 38 = .ok (.aload_n 0, 1) := by decide +kernel
theorem dX9_readsWindow_39 : decode cX9_readsWindow 39 = .ok (.iconst 3, 1) := by decide +kernel
theorem dX9_readsWindow_40 : decode cX9_readsWindow 40 = .ok (.bipush 21, 2) := by decide +kernel
theorem dX9_readsWindow_42 : decode cX9_readsWindow 42 = .ok (.iload_n 1, 1) := by decide +kernel
theorem dX9_readsWindow_43 : decode cX9_readsWindow 43 = .ok (.invokevirtual 54, 3) := by decide +kernel
theorem dX9_readsWindow_46 : decode cX9_readsWindow 46 = .ok (.aload_n 0, 1) := by decide +kernel
theorem dX9_readsWindow_47 : decode cX9_readsWindow 47 = .ok (.iconst 3, 1) := by decide +kernel
theorem dX9_readsWindow_48 : decode cX9_readsWindow 48 = .ok (.bipush 22, 2) := by decide +kernel
theorem dX9_readsWindow_50 : decode cX9_readsWindow 50 = .ok (.aload_n 0, 1) := by decide +kernel
theorem dX9_readsWindow_51 : decode cX9_readsWindow 51 = .ok (.getfield 184, 3) := by decide +kernel
theorem dX9_readsWindow_54 : decode cX9_readsWindow 54 = .ok (.invokevirtual 54, 3) := by decide +kernel
theorem dX9_readsWindow_57 : decode cX9_readsWindow 57 = .ok (.return_, 1) := by decide +kernel
theorem dX9_readsSoft_0 : decode cX9_readsSoft 0 = .ok (.aload_n 0, 1) := by decide +kernel
theorem dX9_readsSoft_1 : decode cX9_readsSoft 1 = .ok (.iconst 1, 1) := by decide +kernel
theorem dX9_readsSoft_2 : decode cX9_readsSoft 2 = .ok (.iconst 0, 1) := by decide +kernel
theorem dX9_readsSoft_3 : decode cX9_readsSoft 3 = .ok (.iconst 3, 1) := by decide +kernel
theorem dX9_readsSoft_4 : decode cX9_readsSoft 4 = .ok (.invokevirtual 199, 3) := by decide +kernel
theorem dX9_readsSoft_7 : decode cX9_readsSoft 7 = .ok (.ifCond .ne 4, 3) := by decide +kernel
theorem dX9_readsSoft_10 : decode cX9_readsSoft 10 = .ok (.return_, 1) := by decide +kernel
theorem dX9_readsSoft_11 : decode cX9_readsSoft 11 = .ok (.aload_n 0, 1) := by decide +kernel
theorem dX9_readsSoft_12 : decode cX9_readsSoft 12 = .ok (.getfield 184, 3) := by decide +kernel
theorem dX9_readsSoft_15 : decode cX9_readsSoft 15 = .ok (.istore_n 1, 1) := by decide +kernel
theorem dX9_readsSoft_16 : decode cX9_readsSoft 16 = .ok (.aload_n 0, 1) := by decide +kernel
theorem dX9_readsSoft_17 : decode cX9_readsSoft 17 = .ok (.bipush 47, 2) := by decide +kernel
theorem dX9_readsSoft_19 : decode cX9_readsSoft 19 = .ok (.invokevirtual 203, 3) := by decide +kernel
theorem dX9_readsSoft_22 : decode cX9_readsSoft 22 = .ok (.ifCond .eq 22, 3) := by decide +kernel
theorem dX9_readsSoft_25 : decode cX9_readsSoft 25 = .ok (.aload_n 0, 1) := by decide +kernel
theorem dX9_readsSoft_26 : decode cX9_readsSoft 26 = .ok (.iconst 1, 1) := by decide +kernel
theorem dX9_readsSoft_27 : decode cX9_readsSoft 27 = .ok (.iload_n 1, 1) := by decide +kernel
theorem dX9_readsSoft_28 : decode cX9_readsSoft 28 = .ok (.iconst 1, 1) := by decide +kernel
theorem dX9_readsSoft_29 : decode cX9_readsSoft 29 = .ok (.if_icmp .le 7, 3) := by decide +kernel
theorem dX9_readsSoft_32 : decode cX9_readsSoft 32 = .ok (.iload_n 1, 1) := by decide +kernel
theorem dX9_readsSoft_33 : decode cX9_readsSoft 33 = .ok (.goto 4, 3) := by decide +kernel
theorem dX9_readsSoft_36 : decode cX9_readsSoft 36 = .ok (.iconst 1, 1) := by decide +kernel
theorem dX9_readsSoft_37 : decode cX9_readsSoft 37 = .ok (.iconst 3, 1) := by decide +kernel
theorem dX9_readsSoft_38 : decode cX9_readsSoft 38 = .ok (.invokevirtual 199, 3) := by decide +kernel
theorem dX9_readsSoft_41 : decode cX9_readsSoft 41 = .ok (.ifCond .ne 4, 3) := by decide +kernel
theorem dX9_readsSoft_44 : decode cX9_readsSoft 44 = .ok (.return_, 1) := by decide +kernel
theorem dX9_readsSoft_45 : decode cX9_readsSoft 45 = .ok (.aload_n 0, 1) := by decide +kernel
theorem dX9_readsSoft_46 : decode cX9_readsSoft 46 = .ok (.getfield 184, 3) := by decide +kernel
theorem dX9_readsSoft_49 : decode cX9_readsSoft 49 = .ok (.istore_n 2, 1) := by decide +kernel
theorem dX9_readsSoft_50 : decode cX9_readsSoft 50 = .ok (.aload_n 0, 1) := by decide +kernel
theorem dX9_readsSoft_51 : decode cX9_readsSoft 51 = .ok (.bipush 47, 2) := by decide +kernel
theorem dX9_readsSoft_53 : decode cX9_readsSoft 53 = .ok (.invokevirtual 203, 3) := by decide +kernel
theorem dX9_readsSoft_56 : decode cX9_readsSoft 56 = .ok (.ifCond .eq 26, 3) := by decide +kernel
theorem dX9_readsSoft_59 : decode cX9_readsSoft 59 = .ok (.aload_n 0, 1) := by decide +kernel
theorem dX9_readsSoft_60 : decode cX9_readsSoft 60 = .ok (.bipush 7, 2) := by decide +kernel
theorem dX9_readsSoft_62 : decode cX9_readsSoft 62 = .ok (.iconst 0, 1) := by decide +kernel
theorem dX9_readsSoft_63 : decode cX9_readsSoft 63 = .ok (.ldc 206, 2) := by decide +kernel
theorem dX9_readsSoft_65 : decode cX9_readsSoft 65 = .ok (.invokevirtual 199, 3) := by decide +kernel
theorem dX9_readsSoft_68 : decode cX9_readsSoft 68 = .ok (.ifCond .eq 14, 3) := by decide +kernel
theorem dX9_readsSoft_71 : decode cX9_readsSoft 71 = .ok (.aload_n 0, 1) := by decide +kernel
theorem dX9_readsSoft_72 : decode cX9_readsSoft 72 = .ok (.iconst 3, 1) := by decide +kernel
theorem dX9_readsSoft_73 : decode cX9_readsSoft 73 = .ok (.iload_n 1, 1) := by decide +kernel
theorem dX9_readsSoft_74 : decode cX9_readsSoft 74 = .ok (.iload_n 2, 1) := by decide +kernel
theorem dX9_readsSoft_75 : decode cX9_readsSoft 75 = .ok (.aload_n 0, 1) := by decide +kernel
theorem dX9_readsSoft_76 : decode cX9_readsSoft 76 = .ok (.getfield 184, 3) := by decide +kernel
theorem dX9_readsSoft_79 : decode cX9_readsSoft 79 = .ok (.invokevirtual 144, 3) := by decide +kernel
theorem dX9_readsSoft_82 : decode cX9_readsSoft 82 = .ok (.return_, 1) := by decide +kernel
theorem dX9_readsClause_0 : decode cX9_readsClause 0 = .ok (.aload_n 0, 1) := by decide +kernel
theorem dX9_readsClause_1 : decode cX9_readsClause 1 = .ok (.aload_n 0, 1) := by decide +kernel
theorem dX9_readsClause_2 : decode cX9_readsClause 2 = .ok (.getfield 164, 3) := by decide +kernel
theorem dX9_readsClause_5 : decode cX9_readsClause 5 = .ok (.iconst 1, 1) := by decide +kernel
theorem dX9_readsClause_6 : decode cX9_readsClause 6 = .ok (.iadd, 1) := by decide +kernel
theorem dX9_readsClause_7 : decode cX9_readsClause 7 = .ok (.putfield 164, 3) := by decide +kernel
theorem dX9_readsClause_10 : decode cX9_readsClause 10 = .ok (.iload_n 1, 1) := by decide +kernel
theorem dX9_readsClause_11 : decode cX9_readsClause 11 = .ok (.tableswitch 223 99 122 #[160, 223, 223, 109, 223, 223, 223, 223, 167, 223, 223, 134, 223, 176, 223, 223, 192, 223, 223, 223, 185, 223, 223, 199], 109) := by decide +kernel
theorem dX9_readsClause_120 : decode cX9_readsClause 120 = .ok (.aload_n 0, 1) := by decide +kernel
theorem dX9_readsClause_121 : decode cX9_readsClause 121 = .ok (.bipush 7, 2) := by decide +kernel
theorem dX9_readsClause_123 : decode cX9_readsClause 123 = .ok (.iconst 1, 1) := by decide +kernel
theorem dX9_readsClause_124 : decode cX9_readsClause 124 = .ok (.ldc 206, 2) := by decide +kernel
theorem dX9_readsClause_126 : decode cX9_readsClause 126 = .ok (.invokevirtual 199, 3) := by decide +kernel
theorem dX9_readsClause_129 : decode cX9_readsClause 129 = .ok (.ifCond .eq 125, 3) := by decide +kernel
theorem dX9_readsClause_132 : decode cX9_readsClause 132 = .ok (.aload_n 0, 1) := by decide +kernel
theorem dX9_readsClause_133 : decode cX9_readsClause 133 = .ok (.iconst 3, 1) := by decide +kernel
theorem dX9_readsClause_134 : decode cX9_readsClause 134 = .ok (.iconst 0, 1) := by decide +kernel
theorem dX9_readsClause_135 : decode cX9_readsClause 135 = .ok (.aload_n 0, 1) := by decide +kernel
theorem dX9_readsClause_136 : decode cX9_readsClause 136 = .ok (.getfield 184, 3) := by decide +kernel
theorem dX9_readsClause_139 : decode cX9_readsClause 139 = .ok (.invokevirtual 54, 3) := by decide +kernel
theorem dX9_readsClause_142 : decode cX9_readsClause 142 = .ok (.goto 112, 3) := by decide +kernel
theorem dX9_readsClause_145 : decode cX9_readsClause 145 = .ok (.aload_n 0, 1) := by decide +kernel
theorem dX9_readsClause_146 : decode cX9_readsClause 146 = .ok (.bipush 7, 2) := by decide +kernel
theorem dX9_readsClause_148 : decode cX9_readsClause 148 = .ok (.iconst 0, 1) := by decide +kernel
theorem dX9_readsClause_149 : decode cX9_readsClause 149 = .ok (.sipush 1000, 3) := by decide +kernel
theorem dX9_readsClause_152 : decode cX9_readsClause 152 = .ok (.invokevirtual 199, 3) := by decide +kernel
theorem dX9_readsClause_155 : decode cX9_readsClause 155 = .ok (.ifCond .eq 99, 3) := by decide +kernel
theorem dX9_readsClause_158 : decode cX9_readsClause 158 = .ok (.aload_n 0, 1) := by decide +kernel
theorem dX9_readsClause_159 : decode cX9_readsClause 159 = .ok (.iconst 3, 1) := by decide +kernel
theorem dX9_readsClause_160 : decode cX9_readsClause 160 = .ok (.iconst 1, 1) := by decide +kernel
theorem dX9_readsClause_161 : decode cX9_readsClause 161 = .ok (.aload_n 0, 1) := by decide +kernel
theorem dX9_readsClause_162 : decode cX9_readsClause 162 = .ok (.getfield 184, 3) := by decide +kernel
theorem dX9_readsClause_165 : decode cX9_readsClause 165 = .ok (.invokevirtual 54, 3) := by decide +kernel
theorem dX9_readsClause_168 : decode cX9_readsClause 168 = .ok (.goto 86, 3) := by decide +kernel
theorem dX9_readsClause_171 : decode cX9_readsClause 171 = .ok (.aload_n 0, 1) := by decide +kernel
theorem dX9_readsClause_172 : decode cX9_readsClause 172 = .ok (.invokevirtual 207, 3) := by decide +kernel
theorem dX9_readsClause_175 : decode cX9_readsClause 175 = .ok (.goto 79, 3) := by decide +kernel
theorem dX9_readsClause_178 : decode cX9_readsClause 178 = .ok (.aload_n 0, 1) := by decide +kernel
theorem dX9_readsClause_179 : decode cX9_readsClause 179 = .ok (.bipush 9, 2) := by decide +kernel
theorem dX9_readsClause_181 : decode cX9_readsClause 181 = .ok (.invokevirtual 210, 3) := by decide +kernel
theorem dX9_readsClause_184 : decode cX9_readsClause 184 = .ok (.goto 70, 3) := by decide +kernel
theorem dX9_readsClause_187 : decode cX9_readsClause 187 = .ok (.aload_n 0, 1) := by decide +kernel
theorem dX9_readsClause_188 : decode cX9_readsClause 188 = .ok (.bipush 15, 2) := by decide +kernel
theorem dX9_readsClause_190 : decode cX9_readsClause 190 = .ok (.invokevirtual 210, 3) := by decide +kernel
theorem dX9_readsClause_193 : decode cX9_readsClause 193 = .ok (.goto 61, 3) := by decide +kernel
theorem dX9_readsClause_196 : decode cX9_readsClause 196 = .ok (.aload_n 0, 1) := by decide +kernel
theorem dX9_readsClause_197 : decode cX9_readsClause 197 = .ok (.invokevirtual 213, 3) := by decide +kernel
theorem dX9_readsClause_200 : decode cX9_readsClause 200 = .ok (.goto 54, 3) := by decide +kernel
theorem dX9_readsClause_203 : decode cX9_readsClause 203 = .ok (.aload_n 0, 1) := by decide +kernel
theorem dX9_readsClause_204 : decode cX9_readsClause 204 = .ok (.invokevirtual 216, 3) := by decide +kernel
theorem dX9_readsClause_207 : decode cX9_readsClause 207 = .ok (.goto 47, 3) := by decide +kernel
theorem dX9_readsClause_210 : decode cX9_readsClause 210 = .ok (.aload_n 0, 1) := by decide +kernel
theorem dX9_readsClause_211 : decode cX9_readsClause 211 = .ok (.iconst 1, 1) := by decide +kernel
theorem dX9_readsClause_212 : decode cX9_readsClause 212 = .ok (.iconst 0, 1) := by decide +kernel
theorem dX9_readsClause_213 : decode cX9_readsClause 213 = .ok (.iconst 3, 1) := by decide +kernel
theorem dX9_readsClause_214 : decode cX9_readsClause 214 = .ok (.invokevirtual 199, 3) := by decide +kernel
theorem dX9_readsClause_217 : decode cX9_readsClause 217 = .ok (.ifCond .eq 37, 3) := by decide +kernel
theorem dX9_readsClause_220 : decode cX9_readsClause 220 = .ok (.aload_n 0, 1) := by decide +kernel
theorem dX9_readsClause_221 : decode cX9_readsClause 221 = .ok (.iconst 3, 1) := by decide +kernel
theorem dX9_readsClause_222 : decode cX9_readsClause 222 = .ok (.bipush 26, 2) := by decide +kernel
theorem dX9_readsClause_224 : decode cX9_readsClause 224 = .ok (.aload_n 0, 1) := by decide +kernel
theorem dX9_readsClause_225 : decode cX9_readsClause 225 = .ok (.getfield 184, 3) := by decide +kernel
theorem dX9_readsClause_228 : decode cX9_readsClause 228 = .ok (.invokevirtual 54, 3) := by decide +kernel
theorem dX9_readsClause_231 : decode cX9_readsClause 231 = .ok (.goto 23, 3) := by decide +kernel
theorem dX9_readsClause_234 : decode cX9_readsClause 234 = .ok (.aload_n 0, 1) := by decide +kernel
theorem dX9_readsClause_235 : decode cX9_readsClause 235 = .ok (.aload_n 0, 1) := by decide +kernel
theorem dX9_readsClause_236 : decode cX9_readsClause 236 = .ok (.getfield 164, 3) := by decide +kernel
theorem dX9_readsClause_239 : decode cX9_readsClause 239 = .ok (.iconst 1, 1) := by decide +kernel
theorem dX9_readsClause_240 : decode cX9_readsClause 240 = .ok (.isub, 1) := by decide +kernel
theorem dX9_readsClause_241 : decode cX9_readsClause 241 = .ok (.putfield 164, 3) := by decide +kernel
theorem dX9_readsClause_244 : decode cX9_readsClause 244 = .ok (.aload_n 0, 1) := by decide +kernel
theorem dX9_readsClause_245 : decode cX9_readsClause 245 = .ok (.iconst 1, 1) := by decide +kernel
theorem dX9_readsClause_246 : decode cX9_readsClause 246 = .ok (.aload_n 0, 1) := by decide +kernel
theorem dX9_readsClause_247 : decode cX9_readsClause 247 = .ok (.getfield 164, 3) := by decide +kernel
theorem dX9_readsClause_250 : decode cX9_readsClause 250 = .ok (.invokevirtual 193, 3) := by decide +kernel
theorem dX9_readsClause_253 : decode cX9_readsClause 253 = .ok (.pop, 1) := by decide +kernel
theorem dX9_readsClause_254 : decode cX9_readsClause 254 = .ok (.return_, 1) := by decide +kernel
theorem dX9_terms_0 : decode cX9_terms 0 = .ok (.iload_n 1, 1) := by decide +kernel
theorem dX9_terms_1 : decode cX9_terms 1 = .ok (.invokestatic 126, 3) := by decide +kernel
theorem dX9_terms_4 : decode cX9_terms 4 = .ok (.ifCond .eq 23, 3) := by decide +kernel
theorem dX9_terms_7 : decode cX9_terms 7 = .ok (.iload_n 2, 1) := by decide +kernel
theorem dX9_terms_8 : decode cX9_terms 8 = .ok (.i2l, 1) := by decide +kernel
theorem dX9_terms_9 : decode cX9_terms 9 = .ok (.lconst 1, 1) := by decide +kernel
theorem dX9_terms_10 : decode cX9_terms 10 = .ok (.ldc2_w 110, 3) := by decide +kernel
theorem dX9_terms_13 : decode cX9_terms 13 = .ok (.invokestatic 60, 3) := by decide +kernel
theorem dX9_terms_16 : decode cX9_terms 16 = .ok (.ifCond .eq 11, 3) := by decide +kernel
theorem dX9_terms_19 : decode cX9_terms 19 = .ok (.iload_n 2, 1) := by decide +kernel
theorem dX9_terms_20 : decode cX9_terms 20 = .ok (.aload_n 0, 1) := by decide +kernel
theorem dX9_terms_21 : decode cX9_terms 21 = .ok (.getfield 64, 3) := by decide +kernel
theorem dX9_terms_24 : decode cX9_terms 24 = .ok (.if_icmp .le 5, 3) := by decide +kernel
theorem dX9_terms_27 : decode cX9_terms 27 = .ok (.iconst (-1), 1) := by decide +kernel
theorem dX9_terms_28 : decode cX9_terms 28 = .ok (.ireturn, 1) := by decide +kernel
theorem dX9_terms_29 : decode cX9_terms 29 = .ok (.aload_n 0, 1) := by decide +kernel
theorem dX9_terms_30 : decode cX9_terms 30 = .ok (.iconst 0, 1) := by decide +kernel
theorem dX9_terms_31 : decode cX9_terms 31 = .ok (.putfield 64, 3) := by decide +kernel
theorem dX9_terms_34 : decode cX9_terms 34 = .ok (.aload_n 0, 1) := by decide +kernel
theorem dX9_terms_35 : decode cX9_terms 35 = .ok (.iload_n 2, 1) := by decide +kernel
theorem dX9_terms_36 : decode cX9_terms 36 = .ok (.putfield 167, 3) := by decide +kernel
theorem dX9_terms_39 : decode cX9_terms 39 = .ok (.aload_n 0, 1) := by decide +kernel
theorem dX9_terms_40 : decode cX9_terms 40 = .ok (.iconst 0, 1) := by decide +kernel
theorem dX9_terms_41 : decode cX9_terms 41 = .ok (.putfield 164, 3) := by decide +kernel
theorem dX9_terms_44 : decode cX9_terms 44 = .ok (.aload_n 0, 1) := by decide +kernel
theorem dX9_terms_45 : decode cX9_terms 45 = .ok (.iconst 0, 1) := by decide +kernel
theorem dX9_terms_46 : decode cX9_terms 46 = .ok (.putfield 170, 3) := by decide +kernel
theorem dX9_terms_49 : decode cX9_terms 49 = .ok (.aload_n 0, 1) := by decide +kernel
theorem dX9_terms_50 : decode cX9_terms 50 = .ok (.iload_n 1, 1) := by decide +kernel
theorem dX9_terms_51 : decode cX9_terms 51 = .ok (.iconst 3, 1) := by decide +kernel
theorem dX9_terms_52 : decode cX9_terms 52 = .ok (.invokevirtual 161, 3) := by decide +kernel
theorem dX9_terms_55 : decode cX9_terms 55 = .ok (.iconst 0, 1) := by decide +kernel
theorem dX9_terms_56 : decode cX9_terms 56 = .ok (.istore_n 3, 1) := by decide +kernel
theorem dX9_terms_57 : decode cX9_terms 57 = .ok (.aload_n 0, 1) := by decide +kernel
theorem dX9_terms_58 : decode cX9_terms 58 = .ok (.getfield 170, 3) := by decide +kernel
theorem dX9_terms_61 : decode cX9_terms 61 = .ok (.ifCond .ne 30, 3) := by decide +kernel
theorem dX9_terms_64 : decode cX9_terms 64 = .ok (.iload_n 3, 1) := by decide +kernel
theorem dX9_terms_65 : decode cX9_terms 65 = .ok (.ifCond .eq 11, 3) := by decide +kernel
theorem dX9_terms_68 : decode cX9_terms 68 = .ok (.aload_n 0, 1) := by decide +kernel
theorem dX9_terms_69 : decode cX9_terms 69 = .ok (.invokevirtual 177, 3) := by decide +kernel
theorem dX9_terms_72 : decode cX9_terms 72 = .ok (.iconst (-1), 1) := by decide +kernel
theorem dX9_terms_73 : decode cX9_terms 73 = .ok (.if_icmp .eq 18, 3) := by decide +kernel
theorem dX9_terms_76 : decode cX9_terms 76 = .ok (.aload_n 0, 1) := by decide +kernel
theorem dX9_terms_77 : decode cX9_terms 77 = .ok (.aload_n 0, 1) := by decide +kernel
theorem dX9_terms_78 : decode cX9_terms 78 = .ok (.invokevirtual 177, 3) := by decide +kernel
theorem dX9_terms_81 : decode cX9_terms 81 = .ok (.invokevirtual 219, 3) := by decide +kernel
theorem dX9_terms_84 : decode cX9_terms 84 = .ok (.iload_n 3, 1) := by decide +kernel
theorem dX9_terms_85 : decode cX9_terms 85 = .ok (.iconst 1, 1) := by decide +kernel
theorem dX9_terms_86 : decode cX9_terms 86 = .ok (.iadd, 1) := by decide +kernel
theorem dX9_terms_87 : decode cX9_terms 87 = .ok (.istore_n 3, 1) := by decide +kernel
theorem dX9_terms_88 : decode cX9_terms 88 = .ok (.goto (-31), 3) := by decide +kernel
theorem dX9_terms_91 : decode cX9_terms 91 = .ok (.aload_n 0, 1) := by decide +kernel
theorem dX9_terms_92 : decode cX9_terms 92 = .ok (.getfield 170, 3) := by decide +kernel
theorem dX9_terms_95 : decode cX9_terms 95 = .ok (.ifCond .eq 8, 3) := by decide +kernel
theorem dX9_terms_98 : decode cX9_terms 98 = .ok (.aload_n 0, 1) := by decide +kernel
theorem dX9_terms_99 : decode cX9_terms 99 = .ok (.getfield 170, 3) := by decide +kernel
theorem dX9_terms_102 : decode cX9_terms 102 = .ok (.ireturn, 1) := by decide +kernel
theorem dX9_terms_103 : decode cX9_terms 103 = .ok (.aload_n 0, 1) := by decide +kernel
theorem dX9_terms_104 : decode cX9_terms 104 = .ok (.iconst 3, 1) := by decide +kernel
theorem dX9_terms_105 : decode cX9_terms 105 = .ok (.iload_n 1, 1) := by decide +kernel
theorem dX9_terms_106 : decode cX9_terms 106 = .ok (.invokevirtual 161, 3) := by decide +kernel
theorem dX9_terms_109 : decode cX9_terms 109 = .ok (.iload_n 3, 1) := by decide +kernel
theorem dX9_terms_110 : decode cX9_terms 110 = .ok (.ireturn, 1) := by decide +kernel
theorem dX9_writes_0 : decode cX9_writes 0 = .ok (.aload_n 0, 1) := by decide +kernel
theorem dX9_writes_1 : decode cX9_writes 1 = .ok (.getfield 222, 3) := by decide +kernel
theorem dX9_writes_4 : decode cX9_writes 4 = .ok (.aload_n 0, 1) := by decide +kernel
theorem dX9_writes_5 : decode cX9_writes 5 = .ok (.getfield 225, 3) := by decide +kernel
theorem dX9_writes_8 : decode cX9_writes 8 = .ok (.if_icmp .ne 8, 3) := by decide +kernel
theorem dX9_writes_11 : decode cX9_writes 11 = .ok (.aload_n 0, 1) := by decide +kernel
theorem dX9_writes_12 : decode cX9_writes 12 = .ok (.iload_n 1, 1) := by decide +kernel
theorem dX9_writes_13 : decode cX9_writes 13 = .ok (.putfield 228, 3) := by decide +kernel
theorem dX9_writes_16 : decode cX9_writes 16 = .ok (.aload_n 0, 1) := by decide +kernel
theorem dX9_writes_17 : decode cX9_writes 17 = .ok (.aload_n 0, 1) := by decide +kernel
theorem dX9_writes_18 : decode cX9_writes 18 = .ok (.getfield 222, 3) := by decide +kernel
theorem dX9_writes_21 : decode cX9_writes 21 = .ok (.iconst 1, 1) := by decide +kernel
theorem dX9_writes_22 : decode cX9_writes 22 = .ok (.iadd, 1) := by decide +kernel
theorem dX9_writes_23 : decode cX9_writes 23 = .ok (.putfield 222, 3) := by decide +kernel
theorem dX9_writes_26 : decode cX9_writes 26 = .ok (.return_, 1) := by decide +kernel
theorem dX9_writesNumber_0 : decode cX9_writesNumber 0 = .ok (.ldc 206, 2) := by decide +kernel
theorem dX9_writesNumber_2 : decode cX9_writesNumber 2 = .ok (.istore_n 2, 1) := by decide +kernel
theorem dX9_writesNumber_3 : decode cX9_writesNumber 3 = .ok (.iload_n 2, 1) := by decide +kernel
theorem dX9_writesNumber_4 : decode cX9_writesNumber 4 = .ok (.ifCond .le 34, 3) := by decide +kernel
theorem dX9_writesNumber_7 : decode cX9_writesNumber 7 = .ok (.iload_n 1, 1) := by decide +kernel
theorem dX9_writesNumber_8 : decode cX9_writesNumber 8 = .ok (.iload_n 2, 1) := by decide +kernel
theorem dX9_writesNumber_9 : decode cX9_writesNumber 9 = .ok (.if_icmp .ge 8, 3) := by decide +kernel
theorem dX9_writesNumber_12 : decode cX9_writesNumber 12 = .ok (.iload_n 2, 1) := by decide +kernel
theorem dX9_writesNumber_13 : decode cX9_writesNumber 13 = .ok (.iconst 1, 1) := by decide +kernel
theorem dX9_writesNumber_14 : decode cX9_writesNumber 14 = .ok (.if_icmp .ne 16, 3) := by decide +kernel
theorem dX9_writesNumber_17 : decode cX9_writesNumber 17 = .ok (.aload_n 0, 1) := by decide +kernel
