/-! decode rows of the law: its bytes by chunks, a lemma an opcode (own rows) -/
theorem u1_at {code : ByteArray} {p : Nat} {x : UInt8} (h : code.data.toList[p]? = some x) : (Reader.u1 : Decoder Nat) code p = .ok (x.toNat, p + 1) := by
  obtain ⟨h1, h2⟩ := List.getElem?_eq_some_iff.mp h
  have hs : p < code.size := h1
  have hv : code[p] = x := h2
  have e : (Reader.u1 : Decoder Nat) code p = (if h : p < code.size then (do set (p + 1); pure code[p].toNat : Decoder Nat) else throw (HasTruncated.truncated p)) code p := rfl
  rw [e, dif_pos hs, hv]
  rfl
theorem i_bind {α β : Type} (r : Decoder α) (f : α → Decoder β) (c : ByteArray) (p : Nat) : (r >>= f) c p = (match r c p with | .error e => .error e | .ok (a, q) => f a c q) := by
  show (do let (a, s) ← r c p; f a c s : Except DecodeError (β × Nat)) = _
  cases r c p <;> rfl
theorem i_ok {α β : Type} {r : Decoder α} {f : α → Decoder β} {c : ByteArray} {p q : Nat} {a : α} (h : r c p = .ok (a, q)) : (r >>= f) c p = f a c q := by
  rw [i_bind, h]
theorem u2_at {code : ByteArray} {p : Nat} {x y : UInt8} (h : code.data.toList[p]? = some x) (h1 : code.data.toList[p + 1]? = some y) : (Reader.u2 : Decoder Nat) code p = .ok (x.toNat * 256 + y.toNat, p + 2) := by
  unfold Reader.u2
  rw [i_ok (u1_at h), i_ok (u1_at h1)]
  rfl
theorem s2_at {code : ByteArray} {p : Nat} {x y : UInt8} (h : code.data.toList[p]? = some x) (h1 : code.data.toList[p + 1]? = some y) : (Reader.s2 : Decoder Int) code p = .ok (Reader.signed 16 (x.toNat * 256 + y.toNat), p + 2) := by
  have e : (Reader.s2 : Decoder Int) code p = ((Reader.u2 : Decoder Nat) >>= fun n => (pure (Reader.signed 16 n) : Decoder Int)) code p := by
    rw [i_bind]
    show (do let (a, s) ← (Reader.u2 : Decoder Nat) code p; pure (Reader.signed 16 a, s) : Except DecodeError (Int × Nat)) = _
    cases (Reader.u2 : Decoder Nat) code p <;> rfl
  rw [e, i_ok (u2_at h h1)]
  rfl
theorem s1_at {code : ByteArray} {p : Nat} {x : UInt8} (h : code.data.toList[p]? = some x) : (Reader.s1 : Decoder Int) code p = .ok (Reader.signed 8 x.toNat, p + 1) := by
  have e : (Reader.s1 : Decoder Int) code p = ((Reader.u1 : Decoder Nat) >>= fun n => (pure (Reader.signed 8 n) : Decoder Int)) code p := by
    rw [i_bind]
    show (do let (a, s) ← (Reader.u1 : Decoder Nat) code p; pure (Reader.signed 8 a, s) : Except DecodeError (Int × Nat)) = _
    cases (Reader.u1 : Decoder Nat) code p <;> rfl
  rw [e, i_ok (u1_at h)]
  rfl
theorem dec_of {code : ByteArray} {pc q n : Nat} {i : Instr} (h : Decoder.instr pc code pc = .ok (i, q)) (hn : q - pc = n) : decode code pc = .ok (i, n) := by
  subst hn
  show (do let (instr, next) ← Decoder.instr pc code pc; pure (instr, next - pc) : Except DecodeError (Instr × Nat)) = _
  rw [h]; rfl
theorem at_ck {l c : List UInt8} {a n r : Nat} {x : UInt8} (h : (l.drop a).take n = c) (hr : r < n) (g : c[r]? = some x) : l[a + r]? = some x := by
  rw [← h, List.getElem?_take, if_pos hr, List.getElem?_drop] at g
  exact g
set_option maxRecDepth 100000 in
theorem o_3 {code : ByteArray} {pc : Nat} (h : code.data.toList[pc]? = some 3) : decode code pc = .ok (.iconst 0, 1) := by
  refine dec_of (q := pc + 1) ?_ (by omega)
  unfold Decoder.instr
  rw [i_ok (u1_at h)]
  rfl
set_option maxRecDepth 100000 in
theorem o_4 {code : ByteArray} {pc : Nat} (h : code.data.toList[pc]? = some 4) : decode code pc = .ok (.iconst 1, 1) := by
  refine dec_of (q := pc + 1) ?_ (by omega)
  unfold Decoder.instr
  rw [i_ok (u1_at h)]
  rfl
set_option maxRecDepth 100000 in
theorem o_5 {code : ByteArray} {pc : Nat} (h : code.data.toList[pc]? = some 5) : decode code pc = .ok (.iconst 2, 1) := by
  refine dec_of (q := pc + 1) ?_ (by omega)
  unfold Decoder.instr
  rw [i_ok (u1_at h)]
  rfl
set_option maxRecDepth 100000 in
theorem o_6 {code : ByteArray} {pc : Nat} (h : code.data.toList[pc]? = some 6) : decode code pc = .ok (.iconst 3, 1) := by
  refine dec_of (q := pc + 1) ?_ (by omega)
  unfold Decoder.instr
  rw [i_ok (u1_at h)]
  rfl
set_option maxRecDepth 100000 in
theorem o_7 {code : ByteArray} {pc : Nat} (h : code.data.toList[pc]? = some 7) : decode code pc = .ok (.iconst 4, 1) := by
  refine dec_of (q := pc + 1) ?_ (by omega)
  unfold Decoder.instr
  rw [i_ok (u1_at h)]
  rfl
set_option maxRecDepth 100000 in
theorem o_8 {code : ByteArray} {pc : Nat} (h : code.data.toList[pc]? = some 8) : decode code pc = .ok (.iconst 5, 1) := by
  refine dec_of (q := pc + 1) ?_ (by omega)
  unfold Decoder.instr
  rw [i_ok (u1_at h)]
  rfl
set_option maxRecDepth 100000 in
theorem o_16 {code : ByteArray} {pc : Nat} {x : UInt8} (h : code.data.toList[pc]? = some 16) (h1 : code.data.toList[pc + 1]? = some x) {v : Int} (hv : (Reader.signed 8 x.toNat) = v) : decode code pc = .ok (.bipush v, 2) := by
  subst hv
  refine dec_of (q := pc + 2) ?_ (by omega)
  unfold Decoder.instr
  rw [i_ok (u1_at h)]
  show ((Reader.s1 : Decoder Int) >>= fun z => (pure (.bipush z) : Decoder Instr)) code (pc + 1) = _
  rw [i_ok (s1_at h1)]
  rfl
set_option maxRecDepth 100000 in
theorem o_20 {code : ByteArray} {pc : Nat} {x y : UInt8} (h : code.data.toList[pc]? = some 20) (h1 : code.data.toList[pc + 1]? = some x) (h2 : code.data.toList[pc + 2]? = some y) {v : Nat} (hv : x.toNat * 256 + y.toNat = v) : decode code pc = .ok (.ldc2_w v, 3) := by
  subst hv
  refine dec_of (q := pc + 3) ?_ (by omega)
  unfold Decoder.instr
  rw [i_ok (u1_at h)]
  show ((Reader.u2 : Decoder Nat) >>= fun z => (pure (.ldc2_w z) : Decoder Instr)) code (pc + 1) = _
  rw [i_ok (u2_at h1 h2)]
  rfl
set_option maxRecDepth 100000 in
theorem o_29 {code : ByteArray} {pc : Nat} (h : code.data.toList[pc]? = some 29) : decode code pc = .ok (.iload_n 3, 1) := by
  refine dec_of (q := pc + 1) ?_ (by omega)
  unfold Decoder.instr
  rw [i_ok (u1_at h)]
  rfl
set_option maxRecDepth 100000 in
theorem o_42 {code : ByteArray} {pc : Nat} (h : code.data.toList[pc]? = some 42) : decode code pc = .ok (.aload_n 0, 1) := by
  refine dec_of (q := pc + 1) ?_ (by omega)
  unfold Decoder.instr
  rw [i_ok (u1_at h)]
  rfl
set_option maxRecDepth 100000 in
theorem o_43 {code : ByteArray} {pc : Nat} (h : code.data.toList[pc]? = some 43) : decode code pc = .ok (.aload_n 1, 1) := by
  refine dec_of (q := pc + 1) ?_ (by omega)
  unfold Decoder.instr
  rw [i_ok (u1_at h)]
  rfl
set_option maxRecDepth 100000 in
theorem o_44 {code : ByteArray} {pc : Nat} (h : code.data.toList[pc]? = some 44) : decode code pc = .ok (.aload_n 2, 1) := by
  refine dec_of (q := pc + 1) ?_ (by omega)
  unfold Decoder.instr
  rw [i_ok (u1_at h)]
  rfl
set_option maxRecDepth 100000 in
theorem o_46 {code : ByteArray} {pc : Nat} (h : code.data.toList[pc]? = some 46) : decode code pc = .ok (.iaload, 1) := by
  refine dec_of (q := pc + 1) ?_ (by omega)
  unfold Decoder.instr
  rw [i_ok (u1_at h)]
  rfl
set_option maxRecDepth 100000 in
theorem o_62 {code : ByteArray} {pc : Nat} (h : code.data.toList[pc]? = some 62) : decode code pc = .ok (.istore_n 3, 1) := by
  refine dec_of (q := pc + 1) ?_ (by omega)
  unfold Decoder.instr
  rw [i_ok (u1_at h)]
  rfl
set_option maxRecDepth 100000 in
theorem o_76 {code : ByteArray} {pc : Nat} (h : code.data.toList[pc]? = some 76) : decode code pc = .ok (.astore_n 1, 1) := by
  refine dec_of (q := pc + 1) ?_ (by omega)
  unfold Decoder.instr
  rw [i_ok (u1_at h)]
  rfl
set_option maxRecDepth 100000 in
theorem o_77 {code : ByteArray} {pc : Nat} (h : code.data.toList[pc]? = some 77) : decode code pc = .ok (.astore_n 2, 1) := by
  refine dec_of (q := pc + 1) ?_ (by omega)
  unfold Decoder.instr
  rw [i_ok (u1_at h)]
  rfl
set_option maxRecDepth 100000 in
theorem o_87 {code : ByteArray} {pc : Nat} (h : code.data.toList[pc]? = some 87) : decode code pc = .ok (.pop, 1) := by
  refine dec_of (q := pc + 1) ?_ (by omega)
  unfold Decoder.instr
  rw [i_ok (u1_at h)]
  rfl
set_option maxRecDepth 100000 in
theorem o_88 {code : ByteArray} {pc : Nat} (h : code.data.toList[pc]? = some 88) : decode code pc = .ok (.pop2, 1) := by
  refine dec_of (q := pc + 1) ?_ (by omega)
  unfold Decoder.instr
  rw [i_ok (u1_at h)]
  rfl
set_option maxRecDepth 100000 in
theorem o_89 {code : ByteArray} {pc : Nat} (h : code.data.toList[pc]? = some 89) : decode code pc = .ok (.dup, 1) := by
  refine dec_of (q := pc + 1) ?_ (by omega)
  unfold Decoder.instr
  rw [i_ok (u1_at h)]
  rfl
set_option maxRecDepth 100000 in
theorem o_96 {code : ByteArray} {pc : Nat} (h : code.data.toList[pc]? = some 96) : decode code pc = .ok (.iadd, 1) := by
  refine dec_of (q := pc + 1) ?_ (by omega)
  unfold Decoder.instr
  rw [i_ok (u1_at h)]
  rfl
set_option maxRecDepth 100000 in
theorem o_100 {code : ByteArray} {pc : Nat} (h : code.data.toList[pc]? = some 100) : decode code pc = .ok (.isub, 1) := by
  refine dec_of (q := pc + 1) ?_ (by omega)
  unfold Decoder.instr
  rw [i_ok (u1_at h)]
  rfl
set_option maxRecDepth 100000 in
theorem o_121 {code : ByteArray} {pc : Nat} (h : code.data.toList[pc]? = some 121) : decode code pc = .ok (.lshl, 1) := by
  refine dec_of (q := pc + 1) ?_ (by omega)
  unfold Decoder.instr
  rw [i_ok (u1_at h)]
  rfl
set_option maxRecDepth 100000 in
theorem o_126 {code : ByteArray} {pc : Nat} (h : code.data.toList[pc]? = some 126) : decode code pc = .ok (.iand, 1) := by
  refine dec_of (q := pc + 1) ?_ (by omega)
  unfold Decoder.instr
  rw [i_ok (u1_at h)]
  rfl
set_option maxRecDepth 100000 in
theorem o_127 {code : ByteArray} {pc : Nat} (h : code.data.toList[pc]? = some 127) : decode code pc = .ok (.land, 1) := by
  refine dec_of (q := pc + 1) ?_ (by omega)
  unfold Decoder.instr
  rw [i_ok (u1_at h)]
  rfl
set_option maxRecDepth 100000 in
theorem o_129 {code : ByteArray} {pc : Nat} (h : code.data.toList[pc]? = some 129) : decode code pc = .ok (.lor, 1) := by
  refine dec_of (q := pc + 1) ?_ (by omega)
  unfold Decoder.instr
  rw [i_ok (u1_at h)]
  rfl
set_option maxRecDepth 100000 in
theorem o_133 {code : ByteArray} {pc : Nat} (h : code.data.toList[pc]? = some 133) : decode code pc = .ok (.i2l, 1) := by
  refine dec_of (q := pc + 1) ?_ (by omega)
  unfold Decoder.instr
  rw [i_ok (u1_at h)]
  rfl
set_option maxRecDepth 100000 in
theorem o_153 {code : ByteArray} {pc : Nat} {x y : UInt8} (h : code.data.toList[pc]? = some 153) (h1 : code.data.toList[pc + 1]? = some x) (h2 : code.data.toList[pc + 2]? = some y) {v : Int} (hv : (Reader.signed 16 (x.toNat * 256 + y.toNat)) = v) : decode code pc = .ok (.ifCond .eq v, 3) := by
  subst hv
  refine dec_of (q := pc + 3) ?_ (by omega)
  unfold Decoder.instr
  rw [i_ok (u1_at h)]
  show ((Reader.s2 : Decoder Int) >>= fun z => (pure (.ifCond .eq z) : Decoder Instr)) code (pc + 1) = _
  rw [i_ok (s2_at h1 h2)]
  rfl
set_option maxRecDepth 100000 in
theorem o_159 {code : ByteArray} {pc : Nat} {x y : UInt8} (h : code.data.toList[pc]? = some 159) (h1 : code.data.toList[pc + 1]? = some x) (h2 : code.data.toList[pc + 2]? = some y) {v : Int} (hv : (Reader.signed 16 (x.toNat * 256 + y.toNat)) = v) : decode code pc = .ok (.if_icmp .eq v, 3) := by
  subst hv
  refine dec_of (q := pc + 3) ?_ (by omega)
  unfold Decoder.instr
  rw [i_ok (u1_at h)]
  show ((Reader.s2 : Decoder Int) >>= fun z => (pure (.if_icmp .eq z) : Decoder Instr)) code (pc + 1) = _
  rw [i_ok (s2_at h1 h2)]
  rfl
set_option maxRecDepth 100000 in
theorem o_163 {code : ByteArray} {pc : Nat} {x y : UInt8} (h : code.data.toList[pc]? = some 163) (h1 : code.data.toList[pc + 1]? = some x) (h2 : code.data.toList[pc + 2]? = some y) {v : Int} (hv : (Reader.signed 16 (x.toNat * 256 + y.toNat)) = v) : decode code pc = .ok (.if_icmp .gt v, 3) := by
  subst hv
  refine dec_of (q := pc + 3) ?_ (by omega)
  unfold Decoder.instr
  rw [i_ok (u1_at h)]
  show ((Reader.s2 : Decoder Int) >>= fun z => (pure (.if_icmp .gt z) : Decoder Instr)) code (pc + 1) = _
  rw [i_ok (s2_at h1 h2)]
  rfl
set_option maxRecDepth 100000 in
theorem o_167 {code : ByteArray} {pc : Nat} {x y : UInt8} (h : code.data.toList[pc]? = some 167) (h1 : code.data.toList[pc + 1]? = some x) (h2 : code.data.toList[pc + 2]? = some y) {v : Int} (hv : (Reader.signed 16 (x.toNat * 256 + y.toNat)) = v) : decode code pc = .ok (.goto v, 3) := by
  subst hv
  refine dec_of (q := pc + 3) ?_ (by omega)
  unfold Decoder.instr
  rw [i_ok (u1_at h)]
  show ((Reader.s2 : Decoder Int) >>= fun z => (pure (.goto z) : Decoder Instr)) code (pc + 1) = _
  rw [i_ok (s2_at h1 h2)]
  rfl
set_option maxRecDepth 100000 in
theorem o_172 {code : ByteArray} {pc : Nat} (h : code.data.toList[pc]? = some 172) : decode code pc = .ok (.ireturn, 1) := by
  refine dec_of (q := pc + 1) ?_ (by omega)
  unfold Decoder.instr
  rw [i_ok (u1_at h)]
  rfl
set_option maxRecDepth 100000 in
theorem o_182 {code : ByteArray} {pc : Nat} {x y : UInt8} (h : code.data.toList[pc]? = some 182) (h1 : code.data.toList[pc + 1]? = some x) (h2 : code.data.toList[pc + 2]? = some y) {v : Nat} (hv : x.toNat * 256 + y.toNat = v) : decode code pc = .ok (.invokevirtual v, 3) := by
  subst hv
  refine dec_of (q := pc + 3) ?_ (by omega)
  unfold Decoder.instr
  rw [i_ok (u1_at h)]
  show ((Reader.u2 : Decoder Nat) >>= fun z => (pure (.invokevirtual z) : Decoder Instr)) code (pc + 1) = _
  rw [i_ok (u2_at h1 h2)]
  rfl
set_option maxRecDepth 100000 in
theorem o_183 {code : ByteArray} {pc : Nat} {x y : UInt8} (h : code.data.toList[pc]? = some 183) (h1 : code.data.toList[pc + 1]? = some x) (h2 : code.data.toList[pc + 2]? = some y) {v : Nat} (hv : x.toNat * 256 + y.toNat = v) : decode code pc = .ok (.invokespecial v, 3) := by
  subst hv
  refine dec_of (q := pc + 3) ?_ (by omega)
  unfold Decoder.instr
  rw [i_ok (u1_at h)]
  show ((Reader.u2 : Decoder Nat) >>= fun z => (pure (.invokespecial z) : Decoder Instr)) code (pc + 1) = _
  rw [i_ok (u2_at h1 h2)]
  rfl
set_option maxRecDepth 100000 in
theorem o_187 {code : ByteArray} {pc : Nat} {x y : UInt8} (h : code.data.toList[pc]? = some 187) (h1 : code.data.toList[pc + 1]? = some x) (h2 : code.data.toList[pc + 2]? = some y) {v : Nat} (hv : x.toNat * 256 + y.toNat = v) : decode code pc = .ok (.new v, 3) := by
  subst hv
  refine dec_of (q := pc + 3) ?_ (by omega)
  unfold Decoder.instr
  rw [i_ok (u1_at h)]
  show ((Reader.u2 : Decoder Nat) >>= fun z => (pure (.new z) : Decoder Instr)) code (pc + 1) = _
  rw [i_ok (u2_at h1 h2)]
  rfl
set_option maxRecDepth 100000 in
theorem o_190 {code : ByteArray} {pc : Nat} (h : code.data.toList[pc]? = some 190) : decode code pc = .ok (.arraylength, 1) := by
  refine dec_of (q := pc + 1) ?_ (by omega)
  unfold Decoder.instr
  rw [i_ok (u1_at h)]
  rfl
def lk_0 : List UInt8 := [187, 0, 7, 89, 183, 0, 9, 76, 187, 0, 10, 89, 183, 0, 12, 77, 3, 62, 29, 42, 190, 16, 6, 100, 163, 9, 0, 42, 29, 46, 16, 63, 126, 170, 0, 0, 0, 0, 8, 241, 0, 0, 0, 0, 0, 0, 0, 53, 0, 0, 0, 231, 0, 0, 1, 38, 0, 0, 1, 71, 0, 0, 1, 130]
theorem ld_0 : (cL_law.data.toList.drop 0).take 64 = lk_0 := by decide +kernel
def lk_1 : List UInt8 := [0, 0, 1, 163, 0, 0, 1, 186, 0, 0, 1, 229, 0, 0, 2, 16, 0, 0, 2, 59, 0, 0, 2, 102, 0, 0, 2, 145, 0, 0, 2, 188, 0, 0, 2, 241, 0, 0, 3, 18, 0, 0, 3, 51, 0, 0, 3, 84, 0, 0, 3, 117, 0, 0, 3, 140, 0, 0, 3, 173, 0, 0, 3, 196]
theorem ld_1 : (cL_law.data.toList.drop 64).take 64 = lk_1 := by decide +kernel
def lk_2 : List UInt8 := [0, 0, 3, 219, 0, 0, 3, 252, 0, 0, 4, 19, 0, 0, 4, 52, 0, 0, 4, 85, 0, 0, 4, 118, 0, 0, 4, 161, 0, 0, 4, 194, 0, 0, 4, 227, 0, 0, 5, 30, 0, 0, 5, 53, 0, 0, 5, 116, 0, 0, 5, 179, 0, 0, 5, 222, 0, 0, 6, 9, 0, 0, 6, 72]
theorem ld_2 : (cL_law.data.toList.drop 128).take 64 = lk_2 := by decide +kernel
def lk_3 : List UInt8 := [0, 0, 6, 105, 0, 0, 6, 158, 0, 0, 6, 181, 0, 0, 6, 220, 0, 0, 6, 243, 0, 0, 7, 10, 0, 0, 7, 79, 0, 0, 7, 122, 0, 0, 7, 181, 0, 0, 7, 214, 0, 0, 8, 11, 0, 0, 8, 34, 0, 0, 8, 67, 0, 0, 8, 110, 0, 0, 8, 149, 0, 0, 8, 192]
theorem ld_3 : (cL_law.data.toList.drop 192).take 64 = lk_3 := by decide +kernel
def lk_4 : List UInt8 := [0, 0, 8, 215, 0, 0, 8, 228, 43, 42, 29, 4, 96, 46, 42, 29, 5, 96, 46, 42, 29, 6, 96, 46, 42, 29, 7, 96, 46, 42, 29, 8, 96, 46, 182, 0, 13, 87, 44, 42, 29, 4, 96, 46, 42, 29, 5, 96, 46, 42, 29, 6, 96, 46, 42, 29, 7, 96, 46, 42, 29, 8, 96, 46]
theorem ld_4 : (cL_law.data.toList.drop 256).take 64 = lk_4 := by decide +kernel
def lk_5 : List UInt8 := [182, 0, 17, 87, 167, 7, 206, 43, 42, 29, 4, 96, 46, 42, 29, 5, 96, 46, 182, 0, 18, 87, 44, 42, 29, 4, 96, 46, 42, 29, 5, 96, 46, 182, 0, 22, 87, 167, 7, 173, 43, 42, 29, 4, 96, 46, 153, 0, 7, 4, 167, 0, 4, 3, 42, 29, 5, 96, 46, 42, 29, 6, 96, 46]
theorem ld_5 : (cL_law.data.toList.drop 320).take 64 = lk_5 := by decide +kernel
def lk_6 : List UInt8 := [182, 0, 23, 44, 42, 29, 4, 96, 46, 153, 0, 7, 4, 167, 0, 4, 3, 42, 29, 5, 96, 46, 42, 29, 6, 96, 46, 182, 0, 27, 159, 7, 116, 3, 172, 43, 42, 29, 4, 96, 46, 42, 29, 5, 96, 46, 182, 0, 28, 87, 44, 42, 29, 4, 96, 46, 42, 29, 5, 96, 46, 182, 0, 31]
theorem ld_6 : (cL_law.data.toList.drop 384).take 64 = lk_6 := by decide +kernel
def lk_7 : List UInt8 := [87, 167, 7, 81, 43, 42, 29, 4, 96, 46, 182, 0, 32, 87, 44, 42, 29, 4, 96, 46, 182, 0, 36, 87, 167, 7, 58, 43, 42, 29, 4, 96, 46, 42, 29, 5, 96, 46, 42, 29, 6, 96, 46, 182, 0, 37, 88, 44, 42, 29, 4, 96, 46, 42, 29, 5, 96, 46, 42, 29, 6, 96, 46, 182]
theorem ld_7 : (cL_law.data.toList.drop 448).take 64 = lk_7 := by decide +kernel
def lk_8 : List UInt8 := [0, 41, 88, 167, 7, 15, 43, 42, 29, 4, 96, 46, 42, 29, 5, 96, 46, 42, 29, 6, 96, 46, 182, 0, 42, 87, 44, 42, 29, 4, 96, 46, 42, 29, 5, 96, 46, 42, 29, 6, 96, 46, 182, 0, 46, 87, 167, 6, 228, 43, 42, 29, 4, 96, 46, 42, 29, 5, 96, 46, 42, 29, 6, 96]
theorem ld_8 : (cL_law.data.toList.drop 512).take 64 = lk_8 := by decide +kernel
def lk_9 : List UInt8 := [46, 182, 0, 47, 87, 44, 42, 29, 4, 96, 46, 42, 29, 5, 96, 46, 42, 29, 6, 96, 46, 182, 0, 51, 87, 167, 6, 185, 43, 42, 29, 4, 96, 46, 42, 29, 5, 96, 46, 42, 29, 6, 96, 46, 182, 0, 52, 87, 44, 42, 29, 4, 96, 46, 42, 29, 5, 96, 46, 42, 29, 6, 96, 46]
theorem ld_9 : (cL_law.data.toList.drop 576).take 64 = lk_9 := by decide +kernel
def lk_10 : List UInt8 := [182, 0, 55, 87, 167, 6, 142, 43, 42, 29, 4, 96, 46, 42, 29, 5, 96, 46, 42, 29, 6, 96, 46, 182, 0, 56, 87, 44, 42, 29, 4, 96, 46, 42, 29, 5, 96, 46, 42, 29, 6, 96, 46, 182, 0, 59, 87, 167, 6, 99, 43, 42, 29, 4, 96, 46, 42, 29, 5, 96, 46, 42, 29, 6]
theorem ld_10 : (cL_law.data.toList.drop 640).take 64 = lk_10 := by decide +kernel
def lk_11 : List UInt8 := [96, 46, 182, 0, 60, 87, 44, 42, 29, 4, 96, 46, 42, 29, 5, 96, 46, 42, 29, 6, 96, 46, 182, 0, 63, 87, 167, 6, 56, 43, 42, 29, 4, 96, 46, 42, 29, 5, 96, 46, 42, 29, 6, 96, 46, 42, 29, 7, 96, 46, 182, 0, 64, 87, 44, 42, 29, 4, 96, 46, 42, 29, 5, 96]
theorem ld_11 : (cL_law.data.toList.drop 704).take 64 = lk_11 := by decide +kernel
def lk_12 : List UInt8 := [46, 42, 29, 6, 96, 46, 42, 29, 7, 96, 46, 182, 0, 68, 87, 167, 6, 3, 43, 42, 29, 4, 96, 46, 42, 29, 5, 96, 46, 182, 0, 69, 87, 44, 42, 29, 4, 96, 46, 42, 29, 5, 96, 46, 182, 0, 73, 87, 167, 5, 226, 43, 42, 29, 4, 96, 46, 42, 29, 5, 96, 46, 182, 0]
theorem ld_12 : (cL_law.data.toList.drop 768).take 64 = lk_12 := by decide +kernel
def lk_13 : List UInt8 := [74, 87, 44, 42, 29, 4, 96, 46, 42, 29, 5, 96, 46, 182, 0, 77, 87, 167, 5, 193, 43, 42, 29, 4, 96, 46, 42, 29, 5, 96, 46, 182, 0, 78, 87, 44, 42, 29, 4, 96, 46, 42, 29, 5, 96, 46, 182, 0, 81, 87, 167, 5, 160, 43, 42, 29, 4, 96, 46, 42, 29, 5, 96, 46]
theorem ld_13 : (cL_law.data.toList.drop 832).take 64 = lk_13 := by decide +kernel
def lk_14 : List UInt8 := [182, 0, 82, 87, 44, 42, 29, 4, 96, 46, 42, 29, 5, 96, 46, 182, 0, 85, 87, 167, 5, 127, 43, 42, 29, 4, 96, 46, 182, 0, 86, 87, 44, 42, 29, 4, 96, 46, 182, 0, 89, 87, 167, 5, 104, 43, 42, 29, 4, 96, 46, 42, 29, 5, 96, 46, 182, 0, 90, 87, 44, 42, 29, 4]
theorem ld_14 : (cL_law.data.toList.drop 896).take 64 = lk_14 := by decide +kernel
def lk_15 : List UInt8 := [96, 46, 42, 29, 5, 96, 46, 182, 0, 93, 87, 167, 5, 71, 43, 42, 29, 4, 96, 46, 182, 0, 94, 87, 44, 42, 29, 4, 96, 46, 182, 0, 97, 87, 167, 5, 48, 43, 42, 29, 4, 96, 46, 182, 0, 98, 88, 44, 42, 29, 4, 96, 46, 182, 0, 102, 88, 167, 5, 25, 43, 42, 29, 4]
theorem ld_15 : (cL_law.data.toList.drop 960).take 64 = lk_15 := by decide +kernel
def lk_16 : List UInt8 := [96, 46, 42, 29, 5, 96, 46, 182, 0, 103, 88, 44, 42, 29, 4, 96, 46, 42, 29, 5, 96, 46, 182, 0, 107, 88, 167, 4, 248, 43, 42, 29, 4, 96, 46, 182, 0, 108, 87, 44, 42, 29, 4, 96, 46, 182, 0, 111, 87, 167, 4, 225, 43, 42, 29, 4, 96, 46, 42, 29, 5, 96, 46, 182]
theorem ld_16 : (cL_law.data.toList.drop 1024).take 64 = lk_16 := by decide +kernel
def lk_17 : List UInt8 := [0, 112, 88, 44, 42, 29, 4, 96, 46, 42, 29, 5, 96, 46, 182, 0, 115, 88, 167, 4, 192, 43, 42, 29, 4, 96, 46, 42, 29, 5, 96, 46, 182, 0, 116, 88, 44, 42, 29, 4, 96, 46, 42, 29, 5, 96, 46, 182, 0, 119, 88, 167, 4, 159, 43, 42, 29, 4, 96, 46, 42, 29, 5, 96]
theorem ld_17 : (cL_law.data.toList.drop 1088).take 64 = lk_17 := by decide +kernel
def lk_18 : List UInt8 := [46, 182, 0, 120, 88, 44, 42, 29, 4, 96, 46, 42, 29, 5, 96, 46, 182, 0, 123, 88, 167, 4, 126, 43, 42, 29, 4, 96, 46, 42, 29, 5, 96, 46, 42, 29, 6, 96, 46, 182, 0, 124, 88, 44, 42, 29, 4, 96, 46, 42, 29, 5, 96, 46, 42, 29, 6, 96, 46, 182, 0, 127, 88, 167]
theorem ld_18 : (cL_law.data.toList.drop 1152).take 64 = lk_18 := by decide +kernel
def lk_19 : List UInt8 := [4, 83, 43, 42, 29, 4, 96, 46, 42, 29, 5, 96, 46, 182, 0, 128, 88, 44, 42, 29, 4, 96, 46, 42, 29, 5, 96, 46, 182, 0, 131, 88, 167, 4, 50, 43, 42, 29, 4, 96, 46, 42, 29, 5, 96, 46, 182, 0, 132, 87, 44, 42, 29, 4, 96, 46, 42, 29, 5, 96, 46, 182, 0, 135]
theorem ld_19 : (cL_law.data.toList.drop 1216).take 64 = lk_19 := by decide +kernel
def lk_20 : List UInt8 := [87, 167, 4, 17, 43, 42, 29, 4, 96, 46, 42, 29, 5, 96, 46, 42, 29, 6, 96, 46, 153, 0, 7, 4, 167, 0, 4, 3, 182, 0, 136, 87, 44, 42, 29, 4, 96, 46, 42, 29, 5, 96, 46, 42, 29, 6, 96, 46, 153, 0, 7, 4, 167, 0, 4, 3, 182, 0, 140, 87, 167, 3, 214, 43]
theorem ld_20 : (cL_law.data.toList.drop 1280).take 64 = lk_20 := by decide +kernel
def lk_21 : List UInt8 := [42, 29, 4, 96, 46, 182, 0, 141, 88, 44, 42, 29, 4, 96, 46, 182, 0, 144, 88, 167, 3, 191, 43, 42, 29, 4, 96, 46, 42, 29, 5, 96, 46, 133, 16, 32, 121, 42, 29, 6, 96, 46, 133, 20, 0, 145, 127, 129, 182, 0, 147, 87, 44, 42, 29, 4, 96, 46, 42, 29, 5, 96, 46, 133]
theorem ld_21 : (cL_law.data.toList.drop 1344).take 64 = lk_21 := by decide +kernel
def lk_22 : List UInt8 := [16, 32, 121, 42, 29, 6, 96, 46, 133, 20, 0, 145, 127, 129, 182, 0, 151, 87, 167, 3, 128, 43, 42, 29, 4, 96, 46, 42, 29, 5, 96, 46, 133, 16, 32, 121, 42, 29, 6, 96, 46, 133, 20, 0, 145, 127, 129, 182, 0, 152, 87, 44, 42, 29, 4, 96, 46, 42, 29, 5, 96, 46, 133, 16]
theorem ld_22 : (cL_law.data.toList.drop 1408).take 64 = lk_22 := by decide +kernel
def lk_23 : List UInt8 := [32, 121, 42, 29, 6, 96, 46, 133, 20, 0, 145, 127, 129, 182, 0, 155, 87, 167, 3, 65, 43, 42, 29, 4, 96, 46, 42, 29, 5, 96, 46, 42, 29, 6, 96, 46, 182, 0, 156, 88, 44, 42, 29, 4, 96, 46, 42, 29, 5, 96, 46, 42, 29, 6, 96, 46, 182, 0, 159, 88, 167, 3, 22, 43]
theorem ld_23 : (cL_law.data.toList.drop 1472).take 64 = lk_23 := by decide +kernel
def lk_24 : List UInt8 := [42, 29, 4, 96, 46, 42, 29, 5, 96, 46, 42, 29, 6, 96, 46, 182, 0, 160, 88, 44, 42, 29, 4, 96, 46, 42, 29, 5, 96, 46, 42, 29, 6, 96, 46, 182, 0, 163, 88, 167, 2, 235, 43, 42, 29, 4, 96, 46, 42, 29, 5, 96, 46, 133, 16, 32, 121, 42, 29, 6, 96, 46, 133, 20]
theorem ld_24 : (cL_law.data.toList.drop 1536).take 64 = lk_24 := by decide +kernel
def lk_25 : List UInt8 := [0, 145, 127, 129, 182, 0, 164, 87, 44, 42, 29, 4, 96, 46, 42, 29, 5, 96, 46, 133, 16, 32, 121, 42, 29, 6, 96, 46, 133, 20, 0, 145, 127, 129, 182, 0, 167, 87, 167, 2, 172, 43, 42, 29, 4, 96, 46, 42, 29, 5, 96, 46, 182, 0, 168, 88, 44, 42, 29, 4, 96, 46, 42, 29]
theorem ld_25 : (cL_law.data.toList.drop 1600).take 64 = lk_25 := by decide +kernel
def lk_26 : List UInt8 := [5, 96, 46, 182, 0, 171, 88, 167, 2, 139, 43, 42, 29, 4, 96, 46, 42, 29, 5, 96, 46, 42, 29, 6, 96, 46, 42, 29, 7, 96, 46, 182, 0, 172, 88, 44, 42, 29, 4, 96, 46, 42, 29, 5, 96, 46, 42, 29, 6, 96, 46, 42, 29, 7, 96, 46, 182, 0, 176, 88, 167, 2, 86, 43]
theorem ld_26 : (cL_law.data.toList.drop 1664).take 64 = lk_26 := by decide +kernel
def lk_27 : List UInt8 := [42, 29, 4, 96, 46, 182, 0, 177, 88, 44, 42, 29, 4, 96, 46, 182, 0, 180, 88, 167, 2, 63, 43, 42, 29, 4, 96, 46, 153, 0, 7, 4, 167, 0, 4, 3, 182, 0, 181, 87, 44, 42, 29, 4, 96, 46, 153, 0, 7, 4, 167, 0, 4, 3, 182, 0, 185, 87, 167, 2, 24, 43, 42, 29]
theorem ld_27 : (cL_law.data.toList.drop 1728).take 64 = lk_27 := by decide +kernel
def lk_28 : List UInt8 := [4, 96, 46, 182, 0, 186, 88, 44, 42, 29, 4, 96, 46, 182, 0, 189, 88, 167, 2, 1, 43, 42, 29, 4, 96, 46, 182, 0, 190, 88, 44, 42, 29, 4, 96, 46, 182, 0, 193, 88, 167, 1, 234, 43, 42, 29, 4, 96, 46, 42, 29, 5, 96, 46, 42, 29, 6, 96, 46, 42, 29, 7, 96, 46]
theorem ld_28 : (cL_law.data.toList.drop 1792).take 64 = lk_28 := by decide +kernel
def lk_29 : List UInt8 := [153, 0, 7, 4, 167, 0, 4, 3, 182, 0, 194, 88, 44, 42, 29, 4, 96, 46, 42, 29, 5, 96, 46, 42, 29, 6, 96, 46, 42, 29, 7, 96, 46, 153, 0, 7, 4, 167, 0, 4, 3, 182, 0, 198, 88, 167, 1, 165, 43, 42, 29, 4, 96, 46, 42, 29, 5, 96, 46, 42, 29, 6, 96, 46]
theorem ld_29 : (cL_law.data.toList.drop 1856).take 64 = lk_29 := by decide +kernel
def lk_30 : List UInt8 := [182, 0, 199, 88, 44, 42, 29, 4, 96, 46, 42, 29, 5, 96, 46, 42, 29, 6, 96, 46, 182, 0, 202, 88, 167, 1, 122, 43, 42, 29, 4, 96, 46, 42, 29, 5, 96, 46, 153, 0, 7, 4, 167, 0, 4, 3, 42, 29, 6, 96, 46, 182, 0, 203, 88, 44, 42, 29, 4, 96, 46, 42, 29, 5]
theorem ld_30 : (cL_law.data.toList.drop 1920).take 64 = lk_30 := by decide +kernel
def lk_31 : List UInt8 := [96, 46, 153, 0, 7, 4, 167, 0, 4, 3, 42, 29, 6, 96, 46, 182, 0, 207, 88, 167, 1, 63, 43, 42, 29, 4, 96, 46, 42, 29, 5, 96, 46, 182, 0, 208, 87, 44, 42, 29, 4, 96, 46, 42, 29, 5, 96, 46, 182, 0, 211, 87, 167, 1, 30, 43, 42, 29, 4, 96, 46, 42, 29, 5]
theorem ld_31 : (cL_law.data.toList.drop 1984).take 64 = lk_31 := by decide +kernel
def lk_32 : List UInt8 := [96, 46, 42, 29, 6, 96, 46, 42, 29, 7, 96, 46, 182, 0, 212, 88, 44, 42, 29, 4, 96, 46, 42, 29, 5, 96, 46, 42, 29, 6, 96, 46, 42, 29, 7, 96, 46, 182, 0, 215, 88, 167, 0, 233, 43, 42, 29, 4, 96, 46, 182, 0, 216, 88, 44, 42, 29, 4, 96, 46, 182, 0, 219, 88]
theorem ld_32 : (cL_law.data.toList.drop 2048).take 64 = lk_32 := by decide +kernel
def lk_33 : List UInt8 := [167, 0, 210, 43, 42, 29, 4, 96, 46, 42, 29, 5, 96, 46, 182, 0, 220, 87, 44, 42, 29, 4, 96, 46, 42, 29, 5, 96, 46, 182, 0, 223, 87, 167, 0, 177, 43, 42, 29, 4, 96, 46, 42, 29, 5, 96, 46, 42, 29, 6, 96, 46, 182, 0, 224, 87, 44, 42, 29, 4, 96, 46, 42, 29]
theorem ld_33 : (cL_law.data.toList.drop 2112).take 64 = lk_33 := by decide +kernel
def lk_34 : List UInt8 := [5, 96, 46, 42, 29, 6, 96, 46, 182, 0, 227, 87, 167, 0, 134, 43, 42, 29, 4, 96, 46, 153, 0, 7, 4, 167, 0, 4, 3, 182, 0, 228, 87, 44, 42, 29, 4, 96, 46, 153, 0, 7, 4, 167, 0, 4, 3, 182, 0, 231, 87, 167, 0, 95, 43, 42, 29, 4, 96, 46, 42, 29, 5, 96]
theorem ld_34 : (cL_law.data.toList.drop 2176).take 64 = lk_34 := by decide +kernel
def lk_35 : List UInt8 := [46, 42, 29, 6, 96, 46, 182, 0, 232, 88, 44, 42, 29, 4, 96, 46, 42, 29, 5, 96, 46, 42, 29, 6, 96, 46, 182, 0, 235, 88, 167, 0, 52, 43, 42, 29, 4, 96, 46, 182, 0, 236, 87, 44, 42, 29, 4, 96, 46, 182, 0, 239, 87, 167, 0, 29, 43, 182, 0, 240, 87, 44, 182, 0]
theorem ld_35 : (cL_law.data.toList.drop 2240).take 64 = lk_35 := by decide +kernel
def lk_36 : List UInt8 := [244, 87, 167, 0, 16, 43, 182, 0, 245, 87, 44, 182, 0, 248, 87, 167, 0, 3, 132, 3, 6, 167, 246, 253, 4, 172]
theorem ld_36 : (cL_law.data.toList.drop 2304).take 64 = lk_36 := by decide +kernel
