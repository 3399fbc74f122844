section
/-! decode rows of the law: its bytes by chunks, a lemma an opcode (own rows) -/
theorem u1_at {code : ByteArray} {p : Nat} {x : UInt8} (h : code.data.toList[p]? = some x) : (Reader.u1 : Decoder Nat) code p = .ok (x.toNat, p + 1) := by
  obtain ⟨h1, h2⟩ := List.getElem?_eq_some_iff.mp h
  have hs : p < code.size := h1
  have hv : code[p] = x := h2
  have e : (Reader.u1 : Decoder Nat) code p = (if h : p < code.size then (do set (p + 1); pure code[p].toNat : Decoder Nat) else throw (HasTruncated.truncated p)) code p := rfl
  rw [e, dif_pos hs, hv]
  rfl
theorem i_bind {α β : Type} (r : Decoder α) (f : α → Decoder β) (c : ByteArray) (p : Nat) : (r >>= f) c p = (match r c p with | .error e => .error e | .ok (a, q) => f a c q) := by
  show (do let (a, s) ← r c p; f a c s : Except DecodeError (β × Nat)) = _
  cases r c p <;> rfl
theorem i_ok {α β : Type} {r : Decoder α} {f : α → Decoder β} {c : ByteArray} {p q : Nat} {a : α} (h : r c p = .ok (a, q)) : (r >>= f) c p = f a c q := by
  rw [i_bind, h]
theorem u2_at {code : ByteArray} {p : Nat} {x y : UInt8} (h : code.data.toList[p]? = some x) (h1 : code.data.toList[p + 1]? = some y) : (Reader.u2 : Decoder Nat) code p = .ok (x.toNat * 256 + y.toNat, p + 2) := by
  unfold Reader.u2
  rw [i_ok (u1_at h), i_ok (u1_at h1)]
  rfl
theorem s2_at {code : ByteArray} {p : Nat} {x y : UInt8} (h : code.data.toList[p]? = some x) (h1 : code.data.toList[p + 1]? = some y) : (Reader.s2 : Decoder Int) code p = .ok (Reader.signed 16 (x.toNat * 256 + y.toNat), p + 2) := by
  have e : (Reader.s2 : Decoder Int) code p = ((Reader.u2 : Decoder Nat) >>= fun n => (pure (Reader.signed 16 n) : Decoder Int)) code p := by
    rw [i_bind]
    show (do let (a, s) ← (Reader.u2 : Decoder Nat) code p; pure (Reader.signed 16 a, s) : Except DecodeError (Int × Nat)) = _
    cases (Reader.u2 : Decoder Nat) code p <;> rfl
  rw [e, i_ok (u2_at h h1)]
  rfl
theorem s1_at {code : ByteArray} {p : Nat} {x : UInt8} (h : code.data.toList[p]? = some x) : (Reader.s1 : Decoder Int) code p = .ok (Reader.signed 8 x.toNat, p + 1) := by
  have e : (Reader.s1 : Decoder Int) code p = ((Reader.u1 : Decoder Nat) >>= fun n => (pure (Reader.signed 8 n) : Decoder Int)) code p := by
    rw [i_bind]
    show (do let (a, s) ← (Reader.u1 : Decoder Nat) code p; pure (Reader.signed 8 a, s) : Except DecodeError (Int × Nat)) = _
    cases (Reader.u1 : Decoder Nat) code p <;> rfl
  rw [e, i_ok (u1_at h)]
  rfl
theorem dec_of {code : ByteArray} {pc q n : Nat} {i : Instr} (h : Decoder.instr pc code pc = .ok (i, q)) (hn : q - pc = n) : decode code pc = .ok (i, n) := by
  subst hn
  show (do let (instr, next) ← Decoder.instr pc code pc; pure (instr, next - pc) : Except DecodeError (Instr × Nat)) = _
  rw [h]; rfl
theorem at_ck {l c : List UInt8} {a n r : Nat} {x : UInt8} (h : (l.drop a).take n = c) (hr : r < n) (g : c[r]? = some x) : l[a + r]? = some x := by
  rw [← h, List.getElem?_take, if_pos hr, List.getElem?_drop] at g
  exact g
set_option maxRecDepth 100000 in
theorem o_2 {code : ByteArray} {pc : Nat} (h : code.data.toList[pc]? = some 2) : decode code pc = .ok (.iconst (-1), 1) := by
  refine dec_of (q := pc + 1) ?_ (by omega)
  unfold Decoder.instr
  rw [i_ok (u1_at h)]
  rfl
set_option maxRecDepth 100000 in
theorem o_3 {code : ByteArray} {pc : Nat} (h : code.data.toList[pc]? = some 3) : decode code pc = .ok (.iconst 0, 1) := by
  refine dec_of (q := pc + 1) ?_ (by omega)
  unfold Decoder.instr
  rw [i_ok (u1_at h)]
  rfl
set_option maxRecDepth 100000 in
theorem o_4 {code : ByteArray} {pc : Nat} (h : code.data.toList[pc]? = some 4) : decode code pc = .ok (.iconst 1, 1) := by
  refine dec_of (q := pc + 1) ?_ (by omega)
  unfold Decoder.instr
  rw [i_ok (u1_at h)]
  rfl
set_option maxRecDepth 100000 in
theorem o_5 {code : ByteArray} {pc : Nat} (h : code.data.toList[pc]? = some 5) : decode code pc = .ok (.iconst 2, 1) := by
  refine dec_of (q := pc + 1) ?_ (by omega)
  unfold Decoder.instr
  rw [i_ok (u1_at h)]
  rfl
set_option maxRecDepth 100000 in
theorem o_6 {code : ByteArray} {pc : Nat} (h : code.data.toList[pc]? = some 6) : decode code pc = .ok (.iconst 3, 1) := by
  refine dec_of (q := pc + 1) ?_ (by omega)
  unfold Decoder.instr
  rw [i_ok (u1_at h)]
  rfl
set_option maxRecDepth 100000 in
theorem o_7 {code : ByteArray} {pc : Nat} (h : code.data.toList[pc]? = some 7) : decode code pc = .ok (.iconst 4, 1) := by
  refine dec_of (q := pc + 1) ?_ (by omega)
  unfold Decoder.instr
  rw [i_ok (u1_at h)]
  rfl
set_option maxRecDepth 100000 in
theorem o_8 {code : ByteArray} {pc : Nat} (h : code.data.toList[pc]? = some 8) : decode code pc = .ok (.iconst 5, 1) := by
  refine dec_of (q := pc + 1) ?_ (by omega)
  unfold Decoder.instr
  rw [i_ok (u1_at h)]
  rfl
set_option maxRecDepth 100000 in
theorem o_9 {code : ByteArray} {pc : Nat} (h : code.data.toList[pc]? = some 9) : decode code pc = .ok (.lconst 0, 1) := by
  refine dec_of (q := pc + 1) ?_ (by omega)
  unfold Decoder.instr
  rw [i_ok (u1_at h)]
  rfl
set_option maxRecDepth 100000 in
theorem o_10 {code : ByteArray} {pc : Nat} (h : code.data.toList[pc]? = some 10) : decode code pc = .ok (.lconst 1, 1) := by
  refine dec_of (q := pc + 1) ?_ (by omega)
  unfold Decoder.instr
  rw [i_ok (u1_at h)]
  rfl
set_option maxRecDepth 100000 in
theorem o_16 {code : ByteArray} {pc : Nat} {x : UInt8} (h : code.data.toList[pc]? = some 16) (h1 : code.data.toList[pc + 1]? = some x) {v : Int} (hv : (Reader.signed 8 x.toNat) = v) : decode code pc = .ok (.bipush v, 2) := by
  subst hv
  refine dec_of (q := pc + 2) ?_ (by omega)
  unfold Decoder.instr
  rw [i_ok (u1_at h)]
  show ((Reader.s1 : Decoder Int) >>= fun z => (pure (.bipush z) : Decoder Instr)) code (pc + 1) = _
  rw [i_ok (s1_at h1)]
  rfl
set_option maxRecDepth 100000 in
theorem o_17 {code : ByteArray} {pc : Nat} {x y : UInt8} (h : code.data.toList[pc]? = some 17) (h1 : code.data.toList[pc + 1]? = some x) (h2 : code.data.toList[pc + 2]? = some y) {v : Int} (hv : (Reader.signed 16 (x.toNat * 256 + y.toNat)) = v) : decode code pc = .ok (.sipush v, 3) := by
  subst hv
  refine dec_of (q := pc + 3) ?_ (by omega)
  unfold Decoder.instr
  rw [i_ok (u1_at h)]
  show ((Reader.s2 : Decoder Int) >>= fun z => (pure (.sipush z) : Decoder Instr)) code (pc + 1) = _
  rw [i_ok (s2_at h1 h2)]
  rfl
set_option maxRecDepth 100000 in
theorem o_18 {code : ByteArray} {pc : Nat} {x : UInt8} (h : code.data.toList[pc]? = some 18) (h1 : code.data.toList[pc + 1]? = some x) {v : Nat} (hv : x.toNat = v) : decode code pc = .ok (.ldc v, 2) := by
  subst hv
  refine dec_of (q := pc + 2) ?_ (by omega)
  unfold Decoder.instr
  rw [i_ok (u1_at h)]
  show ((Reader.u1 : Decoder Nat) >>= fun z => (pure (.ldc z) : Decoder Instr)) code (pc + 1) = _
  rw [i_ok (u1_at h1)]
  rfl
set_option maxRecDepth 100000 in
theorem o_19 {code : ByteArray} {pc : Nat} {x y : UInt8} (h : code.data.toList[pc]? = some 19) (h1 : code.data.toList[pc + 1]? = some x) (h2 : code.data.toList[pc + 2]? = some y) {v : Nat} (hv : x.toNat * 256 + y.toNat = v) : decode code pc = .ok (.ldc_w v, 3) := by
  subst hv
  refine dec_of (q := pc + 3) ?_ (by omega)
  unfold Decoder.instr
  rw [i_ok (u1_at h)]
  show ((Reader.u2 : Decoder Nat) >>= fun z => (pure (.ldc_w z) : Decoder Instr)) code (pc + 1) = _
  rw [i_ok (u2_at h1 h2)]
  rfl
set_option maxRecDepth 100000 in
theorem o_20 {code : ByteArray} {pc : Nat} {x y : UInt8} (h : code.data.toList[pc]? = some 20) (h1 : code.data.toList[pc + 1]? = some x) (h2 : code.data.toList[pc + 2]? = some y) {v : Nat} (hv : x.toNat * 256 + y.toNat = v) : decode code pc = .ok (.ldc2_w v, 3) := by
  subst hv
  refine dec_of (q := pc + 3) ?_ (by omega)
  unfold Decoder.instr
  rw [i_ok (u1_at h)]
  show ((Reader.u2 : Decoder Nat) >>= fun z => (pure (.ldc2_w z) : Decoder Instr)) code (pc + 1) = _
  rw [i_ok (u2_at h1 h2)]
  rfl
set_option maxRecDepth 100000 in
theorem o_21 {code : ByteArray} {pc : Nat} {x : UInt8} (h : code.data.toList[pc]? = some 21) (h1 : code.data.toList[pc + 1]? = some x) {v : Nat} (hv : x.toNat = v) : decode code pc = .ok (.iload v, 2) := by
  subst hv
  refine dec_of (q := pc + 2) ?_ (by omega)
  unfold Decoder.instr
  rw [i_ok (u1_at h)]
  show ((Reader.u1 : Decoder Nat) >>= fun z => (pure (.iload z) : Decoder Instr)) code (pc + 1) = _
  rw [i_ok (u1_at h1)]
  rfl
set_option maxRecDepth 100000 in
theorem o_22 {code : ByteArray} {pc : Nat} {x : UInt8} (h : code.data.toList[pc]? = some 22) (h1 : code.data.toList[pc + 1]? = some x) {v : Nat} (hv : x.toNat = v) : decode code pc = .ok (.lload v, 2) := by
  subst hv
  refine dec_of (q := pc + 2) ?_ (by omega)
  unfold Decoder.instr
  rw [i_ok (u1_at h)]
  show ((Reader.u1 : Decoder Nat) >>= fun z => (pure (.lload z) : Decoder Instr)) code (pc + 1) = _
  rw [i_ok (u1_at h1)]
  rfl
set_option maxRecDepth 100000 in
theorem o_26 {code : ByteArray} {pc : Nat} (h : code.data.toList[pc]? = some 26) : decode code pc = .ok (.iload_n 0, 1) := by
  refine dec_of (q := pc + 1) ?_ (by omega)
  unfold Decoder.instr
  rw [i_ok (u1_at h)]
  rfl
set_option maxRecDepth 100000 in
theorem o_27 {code : ByteArray} {pc : Nat} (h : code.data.toList[pc]? = some 27) : decode code pc = .ok (.iload_n 1, 1) := by
  refine dec_of (q := pc + 1) ?_ (by omega)
  unfold Decoder.instr
  rw [i_ok (u1_at h)]
  rfl
set_option maxRecDepth 100000 in
theorem o_28 {code : ByteArray} {pc : Nat} (h : code.data.toList[pc]? = some 28) : decode code pc = .ok (.iload_n 2, 1) := by
  refine dec_of (q := pc + 1) ?_ (by omega)
  unfold Decoder.instr
  rw [i_ok (u1_at h)]
  rfl
set_option maxRecDepth 100000 in
theorem o_29 {code : ByteArray} {pc : Nat} (h : code.data.toList[pc]? = some 29) : decode code pc = .ok (.iload_n 3, 1) := by
  refine dec_of (q := pc + 1) ?_ (by omega)
  unfold Decoder.instr
  rw [i_ok (u1_at h)]
  rfl
set_option maxRecDepth 100000 in
theorem o_30 {code : ByteArray} {pc : Nat} (h : code.data.toList[pc]? = some 30) : decode code pc = .ok (.lload_n 0, 1) := by
  refine dec_of (q := pc + 1) ?_ (by omega)
  unfold Decoder.instr
  rw [i_ok (u1_at h)]
  rfl
set_option maxRecDepth 100000 in
theorem o_31 {code : ByteArray} {pc : Nat} (h : code.data.toList[pc]? = some 31) : decode code pc = .ok (.lload_n 1, 1) := by
  refine dec_of (q := pc + 1) ?_ (by omega)
  unfold Decoder.instr
  rw [i_ok (u1_at h)]
  rfl
set_option maxRecDepth 100000 in
theorem o_32 {code : ByteArray} {pc : Nat} (h : code.data.toList[pc]? = some 32) : decode code pc = .ok (.lload_n 2, 1) := by
  refine dec_of (q := pc + 1) ?_ (by omega)
  unfold Decoder.instr
  rw [i_ok (u1_at h)]
  rfl
set_option maxRecDepth 100000 in
theorem o_33 {code : ByteArray} {pc : Nat} (h : code.data.toList[pc]? = some 33) : decode code pc = .ok (.lload_n 3, 1) := by
  refine dec_of (q := pc + 1) ?_ (by omega)
  unfold Decoder.instr
  rw [i_ok (u1_at h)]
  rfl
set_option maxRecDepth 100000 in
theorem o_42 {code : ByteArray} {pc : Nat} (h : code.data.toList[pc]? = some 42) : decode code pc = .ok (.aload_n 0, 1) := by
  refine dec_of (q := pc + 1) ?_ (by omega)
  unfold Decoder.instr
  rw [i_ok (u1_at h)]
  rfl
set_option maxRecDepth 100000 in
theorem o_43 {code : ByteArray} {pc : Nat} (h : code.data.toList[pc]? = some 43) : decode code pc = .ok (.aload_n 1, 1) := by
  refine dec_of (q := pc + 1) ?_ (by omega)
  unfold Decoder.instr
  rw [i_ok (u1_at h)]
  rfl
set_option maxRecDepth 100000 in
theorem o_44 {code : ByteArray} {pc : Nat} (h : code.data.toList[pc]? = some 44) : decode code pc = .ok (.aload_n 2, 1) := by
  refine dec_of (q := pc + 1) ?_ (by omega)
  unfold Decoder.instr
  rw [i_ok (u1_at h)]
  rfl
set_option maxRecDepth 100000 in
theorem o_45 {code : ByteArray} {pc : Nat} (h : code.data.toList[pc]? = some 45) : decode code pc = .ok (.aload_n 3, 1) := by
  refine dec_of (q := pc + 1) ?_ (by omega)
  unfold Decoder.instr
  rw [i_ok (u1_at h)]
  rfl
set_option maxRecDepth 100000 in
theorem o_46 {code : ByteArray} {pc : Nat} (h : code.data.toList[pc]? = some 46) : decode code pc = .ok (.iaload, 1) := by
  refine dec_of (q := pc + 1) ?_ (by omega)
  unfold Decoder.instr
  rw [i_ok (u1_at h)]
  rfl
set_option maxRecDepth 100000 in
theorem o_47 {code : ByteArray} {pc : Nat} (h : code.data.toList[pc]? = some 47) : decode code pc = .ok (.laload, 1) := by
  refine dec_of (q := pc + 1) ?_ (by omega)
  unfold Decoder.instr
  rw [i_ok (u1_at h)]
  rfl
set_option maxRecDepth 100000 in
theorem o_50 {code : ByteArray} {pc : Nat} (h : code.data.toList[pc]? = some 50) : decode code pc = .ok (.aaload, 1) := by
  refine dec_of (q := pc + 1) ?_ (by omega)
  unfold Decoder.instr
  rw [i_ok (u1_at h)]
  rfl
set_option maxRecDepth 100000 in
theorem o_51 {code : ByteArray} {pc : Nat} (h : code.data.toList[pc]? = some 51) : decode code pc = .ok (.baload, 1) := by
  refine dec_of (q := pc + 1) ?_ (by omega)
  unfold Decoder.instr
  rw [i_ok (u1_at h)]
  rfl
set_option maxRecDepth 100000 in
theorem o_54 {code : ByteArray} {pc : Nat} {x : UInt8} (h : code.data.toList[pc]? = some 54) (h1 : code.data.toList[pc + 1]? = some x) {v : Nat} (hv : x.toNat = v) : decode code pc = .ok (.istore v, 2) := by
  subst hv
  refine dec_of (q := pc + 2) ?_ (by omega)
  unfold Decoder.instr
  rw [i_ok (u1_at h)]
  show ((Reader.u1 : Decoder Nat) >>= fun z => (pure (.istore z) : Decoder Instr)) code (pc + 1) = _
  rw [i_ok (u1_at h1)]
  rfl
set_option maxRecDepth 100000 in
theorem o_55 {code : ByteArray} {pc : Nat} {x : UInt8} (h : code.data.toList[pc]? = some 55) (h1 : code.data.toList[pc + 1]? = some x) {v : Nat} (hv : x.toNat = v) : decode code pc = .ok (.lstore v, 2) := by
  subst hv
  refine dec_of (q := pc + 2) ?_ (by omega)
  unfold Decoder.instr
  rw [i_ok (u1_at h)]
  show ((Reader.u1 : Decoder Nat) >>= fun z => (pure (.lstore z) : Decoder Instr)) code (pc + 1) = _
  rw [i_ok (u1_at h1)]
  rfl
set_option maxRecDepth 100000 in
theorem o_59 {code : ByteArray} {pc : Nat} (h : code.data.toList[pc]? = some 59) : decode code pc = .ok (.istore_n 0, 1) := by
  refine dec_of (q := pc + 1) ?_ (by omega)
  unfold Decoder.instr
  rw [i_ok (u1_at h)]
  rfl
set_option maxRecDepth 100000 in
theorem o_60 {code : ByteArray} {pc : Nat} (h : code.data.toList[pc]? = some 60) : decode code pc = .ok (.istore_n 1, 1) := by
  refine dec_of (q := pc + 1) ?_ (by omega)
  unfold Decoder.instr
  rw [i_ok (u1_at h)]
  rfl
set_option maxRecDepth 100000 in
theorem o_61 {code : ByteArray} {pc : Nat} (h : code.data.toList[pc]? = some 61) : decode code pc = .ok (.istore_n 2, 1) := by
  refine dec_of (q := pc + 1) ?_ (by omega)
  unfold Decoder.instr
  rw [i_ok (u1_at h)]
  rfl
set_option maxRecDepth 100000 in
theorem o_62 {code : ByteArray} {pc : Nat} (h : code.data.toList[pc]? = some 62) : decode code pc = .ok (.istore_n 3, 1) := by
  refine dec_of (q := pc + 1) ?_ (by omega)
  unfold Decoder.instr
  rw [i_ok (u1_at h)]
  rfl
set_option maxRecDepth 100000 in
theorem o_64 {code : ByteArray} {pc : Nat} (h : code.data.toList[pc]? = some 64) : decode code pc = .ok (.lstore_n 1, 1) := by
  refine dec_of (q := pc + 1) ?_ (by omega)
  unfold Decoder.instr
  rw [i_ok (u1_at h)]
  rfl
set_option maxRecDepth 100000 in
theorem o_65 {code : ByteArray} {pc : Nat} (h : code.data.toList[pc]? = some 65) : decode code pc = .ok (.lstore_n 2, 1) := by
  refine dec_of (q := pc + 1) ?_ (by omega)
  unfold Decoder.instr
  rw [i_ok (u1_at h)]
  rfl
set_option maxRecDepth 100000 in
theorem o_66 {code : ByteArray} {pc : Nat} (h : code.data.toList[pc]? = some 66) : decode code pc = .ok (.lstore_n 3, 1) := by
  refine dec_of (q := pc + 1) ?_ (by omega)
  unfold Decoder.instr
  rw [i_ok (u1_at h)]
  rfl
set_option maxRecDepth 100000 in
theorem o_76 {code : ByteArray} {pc : Nat} (h : code.data.toList[pc]? = some 76) : decode code pc = .ok (.astore_n 1, 1) := by
  refine dec_of (q := pc + 1) ?_ (by omega)
  unfold Decoder.instr
  rw [i_ok (u1_at h)]
  rfl
set_option maxRecDepth 100000 in
theorem o_77 {code : ByteArray} {pc : Nat} (h : code.data.toList[pc]? = some 77) : decode code pc = .ok (.astore_n 2, 1) := by
  refine dec_of (q := pc + 1) ?_ (by omega)
  unfold Decoder.instr
  rw [i_ok (u1_at h)]
  rfl
set_option maxRecDepth 100000 in
theorem o_78 {code : ByteArray} {pc : Nat} (h : code.data.toList[pc]? = some 78) : decode code pc = .ok (.astore_n 3, 1) := by
  refine dec_of (q := pc + 1) ?_ (by omega)
  unfold Decoder.instr
  rw [i_ok (u1_at h)]
  rfl
set_option maxRecDepth 100000 in
theorem o_79 {code : ByteArray} {pc : Nat} (h : code.data.toList[pc]? = some 79) : decode code pc = .ok (.iastore, 1) := by
  refine dec_of (q := pc + 1) ?_ (by omega)
  unfold Decoder.instr
  rw [i_ok (u1_at h)]
  rfl
set_option maxRecDepth 100000 in
theorem o_80 {code : ByteArray} {pc : Nat} (h : code.data.toList[pc]? = some 80) : decode code pc = .ok (.lastore, 1) := by
  refine dec_of (q := pc + 1) ?_ (by omega)
  unfold Decoder.instr
  rw [i_ok (u1_at h)]
  rfl
set_option maxRecDepth 100000 in
theorem o_83 {code : ByteArray} {pc : Nat} (h : code.data.toList[pc]? = some 83) : decode code pc = .ok (.aastore, 1) := by
  refine dec_of (q := pc + 1) ?_ (by omega)
  unfold Decoder.instr
  rw [i_ok (u1_at h)]
  rfl
set_option maxRecDepth 100000 in
theorem o_84 {code : ByteArray} {pc : Nat} (h : code.data.toList[pc]? = some 84) : decode code pc = .ok (.bastore, 1) := by
  refine dec_of (q := pc + 1) ?_ (by omega)
  unfold Decoder.instr
  rw [i_ok (u1_at h)]
  rfl
set_option maxRecDepth 100000 in
theorem o_87 {code : ByteArray} {pc : Nat} (h : code.data.toList[pc]? = some 87) : decode code pc = .ok (.pop, 1) := by
  refine dec_of (q := pc + 1) ?_ (by omega)
  unfold Decoder.instr
  rw [i_ok (u1_at h)]
  rfl
set_option maxRecDepth 100000 in
theorem o_88 {code : ByteArray} {pc : Nat} (h : code.data.toList[pc]? = some 88) : decode code pc = .ok (.pop2, 1) := by
  refine dec_of (q := pc + 1) ?_ (by omega)
  unfold Decoder.instr
  rw [i_ok (u1_at h)]
  rfl
set_option maxRecDepth 100000 in
theorem o_89 {code : ByteArray} {pc : Nat} (h : code.data.toList[pc]? = some 89) : decode code pc = .ok (.dup, 1) := by
  refine dec_of (q := pc + 1) ?_ (by omega)
  unfold Decoder.instr
  rw [i_ok (u1_at h)]
  rfl
set_option maxRecDepth 100000 in
theorem o_90 {code : ByteArray} {pc : Nat} (h : code.data.toList[pc]? = some 90) : decode code pc = .ok (.dup_x1, 1) := by
  refine dec_of (q := pc + 1) ?_ (by omega)
  unfold Decoder.instr
  rw [i_ok (u1_at h)]
  rfl
set_option maxRecDepth 100000 in
theorem o_96 {code : ByteArray} {pc : Nat} (h : code.data.toList[pc]? = some 96) : decode code pc = .ok (.iadd, 1) := by
  refine dec_of (q := pc + 1) ?_ (by omega)
  unfold Decoder.instr
  rw [i_ok (u1_at h)]
  rfl
set_option maxRecDepth 100000 in
theorem o_97 {code : ByteArray} {pc : Nat} (h : code.data.toList[pc]? = some 97) : decode code pc = .ok (.ladd, 1) := by
  refine dec_of (q := pc + 1) ?_ (by omega)
  unfold Decoder.instr
  rw [i_ok (u1_at h)]
  rfl
set_option maxRecDepth 100000 in
theorem o_100 {code : ByteArray} {pc : Nat} (h : code.data.toList[pc]? = some 100) : decode code pc = .ok (.isub, 1) := by
  refine dec_of (q := pc + 1) ?_ (by omega)
  unfold Decoder.instr
  rw [i_ok (u1_at h)]
  rfl
set_option maxRecDepth 100000 in
theorem o_101 {code : ByteArray} {pc : Nat} (h : code.data.toList[pc]? = some 101) : decode code pc = .ok (.lsub, 1) := by
  refine dec_of (q := pc + 1) ?_ (by omega)
  unfold Decoder.instr
  rw [i_ok (u1_at h)]
  rfl
set_option maxRecDepth 100000 in
theorem o_104 {code : ByteArray} {pc : Nat} (h : code.data.toList[pc]? = some 104) : decode code pc = .ok (.imul, 1) := by
  refine dec_of (q := pc + 1) ?_ (by omega)
  unfold Decoder.instr
  rw [i_ok (u1_at h)]
  rfl
set_option maxRecDepth 100000 in
theorem o_105 {code : ByteArray} {pc : Nat} (h : code.data.toList[pc]? = some 105) : decode code pc = .ok (.lmul, 1) := by
  refine dec_of (q := pc + 1) ?_ (by omega)
  unfold Decoder.instr
  rw [i_ok (u1_at h)]
  rfl
set_option maxRecDepth 100000 in
theorem o_108 {code : ByteArray} {pc : Nat} (h : code.data.toList[pc]? = some 108) : decode code pc = .ok (.idiv, 1) := by
  refine dec_of (q := pc + 1) ?_ (by omega)
  unfold Decoder.instr
  rw [i_ok (u1_at h)]
  rfl
set_option maxRecDepth 100000 in
theorem o_109 {code : ByteArray} {pc : Nat} (h : code.data.toList[pc]? = some 109) : decode code pc = .ok (.ldiv, 1) := by
  refine dec_of (q := pc + 1) ?_ (by omega)
  unfold Decoder.instr
  rw [i_ok (u1_at h)]
  rfl
set_option maxRecDepth 100000 in
theorem o_112 {code : ByteArray} {pc : Nat} (h : code.data.toList[pc]? = some 112) : decode code pc = .ok (.irem, 1) := by
  refine dec_of (q := pc + 1) ?_ (by omega)
  unfold Decoder.instr
  rw [i_ok (u1_at h)]
  rfl
set_option maxRecDepth 100000 in
theorem o_113 {code : ByteArray} {pc : Nat} (h : code.data.toList[pc]? = some 113) : decode code pc = .ok (.lrem, 1) := by
  refine dec_of (q := pc + 1) ?_ (by omega)
  unfold Decoder.instr
  rw [i_ok (u1_at h)]
  rfl
set_option maxRecDepth 100000 in
theorem o_116 {code : ByteArray} {pc : Nat} (h : code.data.toList[pc]? = some 116) : decode code pc = .ok (.ineg, 1) := by
  refine dec_of (q := pc + 1) ?_ (by omega)
  unfold Decoder.instr
  rw [i_ok (u1_at h)]
  rfl
set_option maxRecDepth 100000 in
theorem o_117 {code : ByteArray} {pc : Nat} (h : code.data.toList[pc]? = some 117) : decode code pc = .ok (.lneg, 1) := by
  refine dec_of (q := pc + 1) ?_ (by omega)
  unfold Decoder.instr
  rw [i_ok (u1_at h)]
  rfl
set_option maxRecDepth 100000 in
theorem o_120 {code : ByteArray} {pc : Nat} (h : code.data.toList[pc]? = some 120) : decode code pc = .ok (.ishl, 1) := by
  refine dec_of (q := pc + 1) ?_ (by omega)
  unfold Decoder.instr
  rw [i_ok (u1_at h)]
  rfl
set_option maxRecDepth 100000 in
theorem o_121 {code : ByteArray} {pc : Nat} (h : code.data.toList[pc]? = some 121) : decode code pc = .ok (.lshl, 1) := by
  refine dec_of (q := pc + 1) ?_ (by omega)
  unfold Decoder.instr
  rw [i_ok (u1_at h)]
  rfl
set_option maxRecDepth 100000 in
theorem o_122 {code : ByteArray} {pc : Nat} (h : code.data.toList[pc]? = some 122) : decode code pc = .ok (.ishr, 1) := by
  refine dec_of (q := pc + 1) ?_ (by omega)
  unfold Decoder.instr
  rw [i_ok (u1_at h)]
  rfl
set_option maxRecDepth 100000 in
theorem o_124 {code : ByteArray} {pc : Nat} (h : code.data.toList[pc]? = some 124) : decode code pc = .ok (.iushr, 1) := by
  refine dec_of (q := pc + 1) ?_ (by omega)
  unfold Decoder.instr
  rw [i_ok (u1_at h)]
  rfl
set_option maxRecDepth 100000 in
theorem o_126 {code : ByteArray} {pc : Nat} (h : code.data.toList[pc]? = some 126) : decode code pc = .ok (.iand, 1) := by
  refine dec_of (q := pc + 1) ?_ (by omega)
  unfold Decoder.instr
  rw [i_ok (u1_at h)]
  rfl
set_option maxRecDepth 100000 in
theorem o_127 {code : ByteArray} {pc : Nat} (h : code.data.toList[pc]? = some 127) : decode code pc = .ok (.land, 1) := by
  refine dec_of (q := pc + 1) ?_ (by omega)
  unfold Decoder.instr
  rw [i_ok (u1_at h)]
  rfl
set_option maxRecDepth 100000 in
theorem o_128 {code : ByteArray} {pc : Nat} (h : code.data.toList[pc]? = some 128) : decode code pc = .ok (.ior, 1) := by
  refine dec_of (q := pc + 1) ?_ (by omega)
  unfold Decoder.instr
  rw [i_ok (u1_at h)]
  rfl
set_option maxRecDepth 100000 in
theorem o_129 {code : ByteArray} {pc : Nat} (h : code.data.toList[pc]? = some 129) : decode code pc = .ok (.lor, 1) := by
  refine dec_of (q := pc + 1) ?_ (by omega)
  unfold Decoder.instr
  rw [i_ok (u1_at h)]
  rfl
set_option maxRecDepth 100000 in
theorem o_133 {code : ByteArray} {pc : Nat} (h : code.data.toList[pc]? = some 133) : decode code pc = .ok (.i2l, 1) := by
  refine dec_of (q := pc + 1) ?_ (by omega)
  unfold Decoder.instr
  rw [i_ok (u1_at h)]
  rfl
set_option maxRecDepth 100000 in
theorem o_145 {code : ByteArray} {pc : Nat} (h : code.data.toList[pc]? = some 145) : decode code pc = .ok (.i2b, 1) := by
  refine dec_of (q := pc + 1) ?_ (by omega)
  unfold Decoder.instr
  rw [i_ok (u1_at h)]
  rfl
set_option maxRecDepth 100000 in
theorem o_146 {code : ByteArray} {pc : Nat} (h : code.data.toList[pc]? = some 146) : decode code pc = .ok (.i2c, 1) := by
  refine dec_of (q := pc + 1) ?_ (by omega)
  unfold Decoder.instr
  rw [i_ok (u1_at h)]
  rfl
set_option maxRecDepth 100000 in
theorem o_148 {code : ByteArray} {pc : Nat} (h : code.data.toList[pc]? = some 148) : decode code pc = .ok (.lcmp, 1) := by
  refine dec_of (q := pc + 1) ?_ (by omega)
  unfold Decoder.instr
  rw [i_ok (u1_at h)]
  rfl
set_option maxRecDepth 100000 in
theorem o_153 {code : ByteArray} {pc : Nat} {x y : UInt8} (h : code.data.toList[pc]? = some 153) (h1 : code.data.toList[pc + 1]? = some x) (h2 : code.data.toList[pc + 2]? = some y) {v : Int} (hv : (Reader.signed 16 (x.toNat * 256 + y.toNat)) = v) : decode code pc = .ok (.ifCond .eq v, 3) := by
  subst hv
  refine dec_of (q := pc + 3) ?_ (by omega)
  unfold Decoder.instr
  rw [i_ok (u1_at h)]
  show ((Reader.s2 : Decoder Int) >>= fun z => (pure (.ifCond .eq z) : Decoder Instr)) code (pc + 1) = _
  rw [i_ok (s2_at h1 h2)]
  rfl
set_option maxRecDepth 100000 in
theorem o_154 {code : ByteArray} {pc : Nat} {x y : UInt8} (h : code.data.toList[pc]? = some 154) (h1 : code.data.toList[pc + 1]? = some x) (h2 : code.data.toList[pc + 2]? = some y) {v : Int} (hv : (Reader.signed 16 (x.toNat * 256 + y.toNat)) = v) : decode code pc = .ok (.ifCond .ne v, 3) := by
  subst hv
  refine dec_of (q := pc + 3) ?_ (by omega)
  unfold Decoder.instr
  rw [i_ok (u1_at h)]
  show ((Reader.s2 : Decoder Int) >>= fun z => (pure (.ifCond .ne z) : Decoder Instr)) code (pc + 1) = _
  rw [i_ok (s2_at h1 h2)]
  rfl
set_option maxRecDepth 100000 in
theorem o_155 {code : ByteArray} {pc : Nat} {x y : UInt8} (h : code.data.toList[pc]? = some 155) (h1 : code.data.toList[pc + 1]? = some x) (h2 : code.data.toList[pc + 2]? = some y) {v : Int} (hv : (Reader.signed 16 (x.toNat * 256 + y.toNat)) = v) : decode code pc = .ok (.ifCond .lt v, 3) := by
  subst hv
  refine dec_of (q := pc + 3) ?_ (by omega)
  unfold Decoder.instr
  rw [i_ok (u1_at h)]
  show ((Reader.s2 : Decoder Int) >>= fun z => (pure (.ifCond .lt z) : Decoder Instr)) code (pc + 1) = _
  rw [i_ok (s2_at h1 h2)]
  rfl
set_option maxRecDepth 100000 in
theorem o_156 {code : ByteArray} {pc : Nat} {x y : UInt8} (h : code.data.toList[pc]? = some 156) (h1 : code.data.toList[pc + 1]? = some x) (h2 : code.data.toList[pc + 2]? = some y) {v : Int} (hv : (Reader.signed 16 (x.toNat * 256 + y.toNat)) = v) : decode code pc = .ok (.ifCond .ge v, 3) := by
  subst hv
  refine dec_of (q := pc + 3) ?_ (by omega)
  unfold Decoder.instr
  rw [i_ok (u1_at h)]
  show ((Reader.s2 : Decoder Int) >>= fun z => (pure (.ifCond .ge z) : Decoder Instr)) code (pc + 1) = _
  rw [i_ok (s2_at h1 h2)]
  rfl
set_option maxRecDepth 100000 in
theorem o_157 {code : ByteArray} {pc : Nat} {x y : UInt8} (h : code.data.toList[pc]? = some 157) (h1 : code.data.toList[pc + 1]? = some x) (h2 : code.data.toList[pc + 2]? = some y) {v : Int} (hv : (Reader.signed 16 (x.toNat * 256 + y.toNat)) = v) : decode code pc = .ok (.ifCond .gt v, 3) := by
  subst hv
  refine dec_of (q := pc + 3) ?_ (by omega)
  unfold Decoder.instr
  rw [i_ok (u1_at h)]
  show ((Reader.s2 : Decoder Int) >>= fun z => (pure (.ifCond .gt z) : Decoder Instr)) code (pc + 1) = _
  rw [i_ok (s2_at h1 h2)]
  rfl
set_option maxRecDepth 100000 in
theorem o_158 {code : ByteArray} {pc : Nat} {x y : UInt8} (h : code.data.toList[pc]? = some 158) (h1 : code.data.toList[pc + 1]? = some x) (h2 : code.data.toList[pc + 2]? = some y) {v : Int} (hv : (Reader.signed 16 (x.toNat * 256 + y.toNat)) = v) : decode code pc = .ok (.ifCond .le v, 3) := by
  subst hv
  refine dec_of (q := pc + 3) ?_ (by omega)
  unfold Decoder.instr
  rw [i_ok (u1_at h)]
  show ((Reader.s2 : Decoder Int) >>= fun z => (pure (.ifCond .le z) : Decoder Instr)) code (pc + 1) = _
  rw [i_ok (s2_at h1 h2)]
  rfl
set_option maxRecDepth 100000 in
theorem o_159 {code : ByteArray} {pc : Nat} {x y : UInt8} (h : code.data.toList[pc]? = some 159) (h1 : code.data.toList[pc + 1]? = some x) (h2 : code.data.toList[pc + 2]? = some y) {v : Int} (hv : (Reader.signed 16 (x.toNat * 256 + y.toNat)) = v) : decode code pc = .ok (.if_icmp .eq v, 3) := by
  subst hv
  refine dec_of (q := pc + 3) ?_ (by omega)
  unfold Decoder.instr
  rw [i_ok (u1_at h)]
  show ((Reader.s2 : Decoder Int) >>= fun z => (pure (.if_icmp .eq z) : Decoder Instr)) code (pc + 1) = _
  rw [i_ok (s2_at h1 h2)]
  rfl
set_option maxRecDepth 100000 in
theorem o_160 {code : ByteArray} {pc : Nat} {x y : UInt8} (h : code.data.toList[pc]? = some 160) (h1 : code.data.toList[pc + 1]? = some x) (h2 : code.data.toList[pc + 2]? = some y) {v : Int} (hv : (Reader.signed 16 (x.toNat * 256 + y.toNat)) = v) : decode code pc = .ok (.if_icmp .ne v, 3) := by
  subst hv
  refine dec_of (q := pc + 3) ?_ (by omega)
  unfold Decoder.instr
  rw [i_ok (u1_at h)]
  show ((Reader.s2 : Decoder Int) >>= fun z => (pure (.if_icmp .ne z) : Decoder Instr)) code (pc + 1) = _
  rw [i_ok (s2_at h1 h2)]
  rfl
set_option maxRecDepth 100000 in
theorem o_161 {code : ByteArray} {pc : Nat} {x y : UInt8} (h : code.data.toList[pc]? = some 161) (h1 : code.data.toList[pc + 1]? = some x) (h2 : code.data.toList[pc + 2]? = some y) {v : Int} (hv : (Reader.signed 16 (x.toNat * 256 + y.toNat)) = v) : decode code pc = .ok (.if_icmp .lt v, 3) := by
  subst hv
  refine dec_of (q := pc + 3) ?_ (by omega)
  unfold Decoder.instr
  rw [i_ok (u1_at h)]
  show ((Reader.s2 : Decoder Int) >>= fun z => (pure (.if_icmp .lt z) : Decoder Instr)) code (pc + 1) = _
  rw [i_ok (s2_at h1 h2)]
  rfl
set_option maxRecDepth 100000 in
theorem o_162 {code : ByteArray} {pc : Nat} {x y : UInt8} (h : code.data.toList[pc]? = some 162) (h1 : code.data.toList[pc + 1]? = some x) (h2 : code.data.toList[pc + 2]? = some y) {v : Int} (hv : (Reader.signed 16 (x.toNat * 256 + y.toNat)) = v) : decode code pc = .ok (.if_icmp .ge v, 3) := by
  subst hv
  refine dec_of (q := pc + 3) ?_ (by omega)
  unfold Decoder.instr
  rw [i_ok (u1_at h)]
  show ((Reader.s2 : Decoder Int) >>= fun z => (pure (.if_icmp .ge z) : Decoder Instr)) code (pc + 1) = _
  rw [i_ok (s2_at h1 h2)]
  rfl
set_option maxRecDepth 100000 in
theorem o_163 {code : ByteArray} {pc : Nat} {x y : UInt8} (h : code.data.toList[pc]? = some 163) (h1 : code.data.toList[pc + 1]? = some x) (h2 : code.data.toList[pc + 2]? = some y) {v : Int} (hv : (Reader.signed 16 (x.toNat * 256 + y.toNat)) = v) : decode code pc = .ok (.if_icmp .gt v, 3) := by
  subst hv
  refine dec_of (q := pc + 3) ?_ (by omega)
  unfold Decoder.instr
  rw [i_ok (u1_at h)]
  show ((Reader.s2 : Decoder Int) >>= fun z => (pure (.if_icmp .gt z) : Decoder Instr)) code (pc + 1) = _
  rw [i_ok (s2_at h1 h2)]
  rfl
set_option maxRecDepth 100000 in
theorem o_164 {code : ByteArray} {pc : Nat} {x y : UInt8} (h : code.data.toList[pc]? = some 164) (h1 : code.data.toList[pc + 1]? = some x) (h2 : code.data.toList[pc + 2]? = some y) {v : Int} (hv : (Reader.signed 16 (x.toNat * 256 + y.toNat)) = v) : decode code pc = .ok (.if_icmp .le v, 3) := by
  subst hv
  refine dec_of (q := pc + 3) ?_ (by omega)
  unfold Decoder.instr
  rw [i_ok (u1_at h)]
  show ((Reader.s2 : Decoder Int) >>= fun z => (pure (.if_icmp .le z) : Decoder Instr)) code (pc + 1) = _
  rw [i_ok (s2_at h1 h2)]
  rfl
set_option maxRecDepth 100000 in
theorem o_166 {code : ByteArray} {pc : Nat} {x y : UInt8} (h : code.data.toList[pc]? = some 166) (h1 : code.data.toList[pc + 1]? = some x) (h2 : code.data.toList[pc + 2]? = some y) {v : Int} (hv : (Reader.signed 16 (x.toNat * 256 + y.toNat)) = v) : decode code pc = .ok (.if_acmp .ne v, 3) := by
  subst hv
  refine dec_of (q := pc + 3) ?_ (by omega)
  unfold Decoder.instr
  rw [i_ok (u1_at h)]
  show ((Reader.s2 : Decoder Int) >>= fun z => (pure (.if_acmp .ne z) : Decoder Instr)) code (pc + 1) = _
  rw [i_ok (s2_at h1 h2)]
  rfl
set_option maxRecDepth 100000 in
theorem o_167 {code : ByteArray} {pc : Nat} {x y : UInt8} (h : code.data.toList[pc]? = some 167) (h1 : code.data.toList[pc + 1]? = some x) (h2 : code.data.toList[pc + 2]? = some y) {v : Int} (hv : (Reader.signed 16 (x.toNat * 256 + y.toNat)) = v) : decode code pc = .ok (.goto v, 3) := by
  subst hv
  refine dec_of (q := pc + 3) ?_ (by omega)
  unfold Decoder.instr
  rw [i_ok (u1_at h)]
  show ((Reader.s2 : Decoder Int) >>= fun z => (pure (.goto z) : Decoder Instr)) code (pc + 1) = _
  rw [i_ok (s2_at h1 h2)]
  rfl
set_option maxRecDepth 100000 in
theorem o_172 {code : ByteArray} {pc : Nat} (h : code.data.toList[pc]? = some 172) : decode code pc = .ok (.ireturn, 1) := by
  refine dec_of (q := pc + 1) ?_ (by omega)
  unfold Decoder.instr
  rw [i_ok (u1_at h)]
  rfl
set_option maxRecDepth 100000 in
theorem o_173 {code : ByteArray} {pc : Nat} (h : code.data.toList[pc]? = some 173) : decode code pc = .ok (.lreturn, 1) := by
  refine dec_of (q := pc + 1) ?_ (by omega)
  unfold Decoder.instr
  rw [i_ok (u1_at h)]
  rfl
set_option maxRecDepth 100000 in
theorem o_176 {code : ByteArray} {pc : Nat} (h : code.data.toList[pc]? = some 176) : decode code pc = .ok (.areturn, 1) := by
  refine dec_of (q := pc + 1) ?_ (by omega)
  unfold Decoder.instr
  rw [i_ok (u1_at h)]
  rfl
set_option maxRecDepth 100000 in
theorem o_177 {code : ByteArray} {pc : Nat} (h : code.data.toList[pc]? = some 177) : decode code pc = .ok (.return_, 1) := by
  refine dec_of (q := pc + 1) ?_ (by omega)
  unfold Decoder.instr
  rw [i_ok (u1_at h)]
  rfl
set_option maxRecDepth 100000 in
theorem o_178 {code : ByteArray} {pc : Nat} {x y : UInt8} (h : code.data.toList[pc]? = some 178) (h1 : code.data.toList[pc + 1]? = some x) (h2 : code.data.toList[pc + 2]? = some y) {v : Nat} (hv : x.toNat * 256 + y.toNat = v) : decode code pc = .ok (.getstatic v, 3) := by
  subst hv
  refine dec_of (q := pc + 3) ?_ (by omega)
  unfold Decoder.instr
  rw [i_ok (u1_at h)]
  show ((Reader.u2 : Decoder Nat) >>= fun z => (pure (.getstatic z) : Decoder Instr)) code (pc + 1) = _
  rw [i_ok (u2_at h1 h2)]
  rfl
set_option maxRecDepth 100000 in
theorem o_180 {code : ByteArray} {pc : Nat} {x y : UInt8} (h : code.data.toList[pc]? = some 180) (h1 : code.data.toList[pc + 1]? = some x) (h2 : code.data.toList[pc + 2]? = some y) {v : Nat} (hv : x.toNat * 256 + y.toNat = v) : decode code pc = .ok (.getfield v, 3) := by
  subst hv
  refine dec_of (q := pc + 3) ?_ (by omega)
  unfold Decoder.instr
  rw [i_ok (u1_at h)]
  show ((Reader.u2 : Decoder Nat) >>= fun z => (pure (.getfield z) : Decoder Instr)) code (pc + 1) = _
  rw [i_ok (u2_at h1 h2)]
  rfl
set_option maxRecDepth 100000 in
theorem o_181 {code : ByteArray} {pc : Nat} {x y : UInt8} (h : code.data.toList[pc]? = some 181) (h1 : code.data.toList[pc + 1]? = some x) (h2 : code.data.toList[pc + 2]? = some y) {v : Nat} (hv : x.toNat * 256 + y.toNat = v) : decode code pc = .ok (.putfield v, 3) := by
  subst hv
  refine dec_of (q := pc + 3) ?_ (by omega)
  unfold Decoder.instr
  rw [i_ok (u1_at h)]
  show ((Reader.u2 : Decoder Nat) >>= fun z => (pure (.putfield z) : Decoder Instr)) code (pc + 1) = _
  rw [i_ok (u2_at h1 h2)]
  rfl
set_option maxRecDepth 100000 in
theorem o_182 {code : ByteArray} {pc : Nat} {x y : UInt8} (h : code.data.toList[pc]? = some 182) (h1 : code.data.toList[pc + 1]? = some x) (h2 : code.data.toList[pc + 2]? = some y) {v : Nat} (hv : x.toNat * 256 + y.toNat = v) : decode code pc = .ok (.invokevirtual v, 3) := by
  subst hv
  refine dec_of (q := pc + 3) ?_ (by omega)
  unfold Decoder.instr
  rw [i_ok (u1_at h)]
  show ((Reader.u2 : Decoder Nat) >>= fun z => (pure (.invokevirtual z) : Decoder Instr)) code (pc + 1) = _
  rw [i_ok (u2_at h1 h2)]
  rfl
set_option maxRecDepth 100000 in
theorem o_183 {code : ByteArray} {pc : Nat} {x y : UInt8} (h : code.data.toList[pc]? = some 183) (h1 : code.data.toList[pc + 1]? = some x) (h2 : code.data.toList[pc + 2]? = some y) {v : Nat} (hv : x.toNat * 256 + y.toNat = v) : decode code pc = .ok (.invokespecial v, 3) := by
  subst hv
  refine dec_of (q := pc + 3) ?_ (by omega)
  unfold Decoder.instr
  rw [i_ok (u1_at h)]
  show ((Reader.u2 : Decoder Nat) >>= fun z => (pure (.invokespecial z) : Decoder Instr)) code (pc + 1) = _
  rw [i_ok (u2_at h1 h2)]
  rfl
set_option maxRecDepth 100000 in
theorem o_184 {code : ByteArray} {pc : Nat} {x y : UInt8} (h : code.data.toList[pc]? = some 184) (h1 : code.data.toList[pc + 1]? = some x) (h2 : code.data.toList[pc + 2]? = some y) {v : Nat} (hv : x.toNat * 256 + y.toNat = v) : decode code pc = .ok (.invokestatic v, 3) := by
  subst hv
  refine dec_of (q := pc + 3) ?_ (by omega)
  unfold Decoder.instr
  rw [i_ok (u1_at h)]
  show ((Reader.u2 : Decoder Nat) >>= fun z => (pure (.invokestatic z) : Decoder Instr)) code (pc + 1) = _
  rw [i_ok (u2_at h1 h2)]
  rfl
set_option maxRecDepth 100000 in
theorem o_187 {code : ByteArray} {pc : Nat} {x y : UInt8} (h : code.data.toList[pc]? = some 187) (h1 : code.data.toList[pc + 1]? = some x) (h2 : code.data.toList[pc + 2]? = some y) {v : Nat} (hv : x.toNat * 256 + y.toNat = v) : decode code pc = .ok (.new v, 3) := by
  subst hv
  refine dec_of (q := pc + 3) ?_ (by omega)
  unfold Decoder.instr
  rw [i_ok (u1_at h)]
  show ((Reader.u2 : Decoder Nat) >>= fun z => (pure (.new z) : Decoder Instr)) code (pc + 1) = _
  rw [i_ok (u2_at h1 h2)]
  rfl
set_option maxRecDepth 100000 in
theorem o_189 {code : ByteArray} {pc : Nat} {x y : UInt8} (h : code.data.toList[pc]? = some 189) (h1 : code.data.toList[pc + 1]? = some x) (h2 : code.data.toList[pc + 2]? = some y) {v : Nat} (hv : x.toNat * 256 + y.toNat = v) : decode code pc = .ok (.anewarray v, 3) := by
  subst hv
  refine dec_of (q := pc + 3) ?_ (by omega)
  unfold Decoder.instr
  rw [i_ok (u1_at h)]
  show ((Reader.u2 : Decoder Nat) >>= fun z => (pure (.anewarray z) : Decoder Instr)) code (pc + 1) = _
  rw [i_ok (u2_at h1 h2)]
  rfl
set_option maxRecDepth 100000 in
theorem o_190 {code : ByteArray} {pc : Nat} (h : code.data.toList[pc]? = some 190) : decode code pc = .ok (.arraylength, 1) := by
  refine dec_of (q := pc + 1) ?_ (by omega)
  unfold Decoder.instr
  rw [i_ok (u1_at h)]
  rfl
set_option maxRecDepth 100000 in
theorem o_191 {code : ByteArray} {pc : Nat} (h : code.data.toList[pc]? = some 191) : decode code pc = .ok (.athrow, 1) := by
  refine dec_of (q := pc + 1) ?_ (by omega)
  unfold Decoder.instr
  rw [i_ok (u1_at h)]
  rfl
set_option maxRecDepth 100000 in
theorem o_192 {code : ByteArray} {pc : Nat} {x y : UInt8} (h : code.data.toList[pc]? = some 192) (h1 : code.data.toList[pc + 1]? = some x) (h2 : code.data.toList[pc + 2]? = some y) {v : Nat} (hv : x.toNat * 256 + y.toNat = v) : decode code pc = .ok (.checkcast v, 3) := by
  subst hv
  refine dec_of (q := pc + 3) ?_ (by omega)
  unfold Decoder.instr
  rw [i_ok (u1_at h)]
  show ((Reader.u2 : Decoder Nat) >>= fun z => (pure (.checkcast z) : Decoder Instr)) code (pc + 1) = _
  rw [i_ok (u2_at h1 h2)]
  rfl
set_option maxRecDepth 100000 in
theorem o_199 {code : ByteArray} {pc : Nat} {x y : UInt8} (h : code.data.toList[pc]? = some 199) (h1 : code.data.toList[pc + 1]? = some x) (h2 : code.data.toList[pc + 2]? = some y) {v : Int} (hv : (Reader.signed 16 (x.toNat * 256 + y.toNat)) = v) : decode code pc = .ok (.ifnonnull v, 3) := by
  subst hv
  refine dec_of (q := pc + 3) ?_ (by omega)
  unfold Decoder.instr
  rw [i_ok (u1_at h)]
  show ((Reader.s2 : Decoder Int) >>= fun z => (pure (.ifnonnull z) : Decoder Instr)) code (pc + 1) = _
  rw [i_ok (s2_at h1 h2)]
  rfl
/-! the same rows by one test: a chunk's bytes as numbers (own rows) -/
def ck1 (c : List Nat) (a pc o : Nat) : Bool := Nat.ble a pc && (match c.drop (pc - a) with | p :: _ => Nat.beq p o | _ => false)
def ck2 (c : List Nat) (a pc o v : Nat) : Bool := Nat.ble a pc && (match c.drop (pc - a) with | p :: x :: _ => Nat.beq p o && Nat.beq x v | _ => false)
def ck3 (c : List Nat) (a pc o v : Nat) : Bool := Nat.ble a pc && (match c.drop (pc - a) with | p :: x :: y :: _ => Nat.beq p o && Nat.beq (x * 256 + y) v | _ => false)
theorem ck_get {l : List UInt8} {c : List Nat} {a n r p : Nat} (h : ((l.drop a).take n).map UInt8.toNat = c) (g : c[r]? = some p) : ∃ x : UInt8, l[a + r]? = some x ∧ x.toNat = p := by
  rw [← h, List.getElem?_map, Option.map_eq_some_iff] at g
  obtain ⟨x, hx, e⟩ := g
  rw [List.getElem?_take] at hx
  split at hx
  · rw [List.getElem?_drop] at hx; exact ⟨x, hx, e⟩
  · cases hx
theorem ck_drop {c : List Nat} {r p : Nat} {t : List Nat} (h : c.drop r = p :: t) : c[r]? = some p ∧ c.drop (r + 1) = t := by
  refine ⟨?_, ?_⟩
  · have e : (c.drop r)[0]? = some p := by rw [h]; rfl
    rw [List.getElem?_drop] at e; exact e
  · rw [← List.drop_drop (i := 1) (j := r), h]; rfl
theorem ck1_at {l : List UInt8} {c : List Nat} {a n pc o : Nat} (h : ((l.drop a).take n).map UInt8.toNat = c) (g : ck1 c a pc o = true) : ∃ x : UInt8, l[pc]? = some x ∧ x.toNat = o := by
  unfold ck1 at g
  rw [Bool.and_eq_true] at g
  obtain ⟨g0, g⟩ := g
  obtain ⟨r, rfl⟩ := Nat.le.dest (Nat.le_of_ble_eq_true g0)
  rw [Nat.add_sub_cancel_left] at g
  split at g
  · rename_i p t hd
    obtain ⟨x, hx, e⟩ := ck_get h (ck_drop hd).1
    exact ⟨x, hx, e.trans (Nat.eq_of_beq_eq_true g)⟩
  · cases g
theorem ck2_at {l : List UInt8} {c : List Nat} {a n pc o v : Nat} (h : ((l.drop a).take n).map UInt8.toNat = c) (g : ck2 c a pc o v = true) : ∃ x y : UInt8, l[pc]? = some x ∧ x.toNat = o ∧ l[pc + 1]? = some y ∧ y.toNat = v := by
  unfold ck2 at g
  rw [Bool.and_eq_true] at g
  obtain ⟨g0, g⟩ := g
  obtain ⟨r, rfl⟩ := Nat.le.dest (Nat.le_of_ble_eq_true g0)
  rw [Nat.add_sub_cancel_left] at g
  split at g
  · rename_i p q t hd
    rw [Bool.and_eq_true] at g
    obtain ⟨x, hx, e⟩ := ck_get h (ck_drop hd).1
    obtain ⟨y, hy, e2⟩ := ck_get h (ck_drop (ck_drop hd).2).1
    exact ⟨x, y, hx, e.trans (Nat.eq_of_beq_eq_true g.1), hy, e2.trans (Nat.eq_of_beq_eq_true g.2)⟩
  · cases g
theorem ck3_at {l : List UInt8} {c : List Nat} {a n pc o v : Nat} (h : ((l.drop a).take n).map UInt8.toNat = c) (g : ck3 c a pc o v = true) : ∃ x y z : UInt8, l[pc]? = some x ∧ x.toNat = o ∧ l[pc + 1]? = some y ∧ l[pc + 2]? = some z ∧ y.toNat * 256 + z.toNat = v := by
  unfold ck3 at g
  rw [Bool.and_eq_true] at g
  obtain ⟨g0, g⟩ := g
  obtain ⟨r, rfl⟩ := Nat.le.dest (Nat.le_of_ble_eq_true g0)
  rw [Nat.add_sub_cancel_left] at g
  split at g
  · rename_i p q w t hd
    rw [Bool.and_eq_true] at g
    obtain ⟨x, hx, e⟩ := ck_get h (ck_drop hd).1
    obtain ⟨y, hy, e2⟩ := ck_get h (ck_drop (ck_drop hd).2).1
    obtain ⟨z, hz, e3⟩ := ck_get h (ck_drop (ck_drop (ck_drop hd).2).2).1
    refine ⟨x, y, z, hx, e.trans (Nat.eq_of_beq_eq_true g.1), hy, hz, ?_⟩
    rw [e2, e3]; exact Nat.eq_of_beq_eq_true g.2
  · cases g
theorem u8_lit {x o : UInt8} (h : x.toNat = o.toNat) : x = o := UInt8.toNat_inj.mp h
theorem p_2 {code : ByteArray} {c : List Nat} {a n pc : Nat} (h : ((code.data.toList.drop a).take n).map UInt8.toNat = c) (g : ck1 c a pc 2 = true) : decode code pc = .ok (.iconst (-1), 1) := by
  obtain ⟨x, hx, e⟩ := ck1_at h g
  obtain rfl := u8_lit (o := 2) e
  exact o_2 hx
theorem p_3 {code : ByteArray} {c : List Nat} {a n pc : Nat} (h : ((code.data.toList.drop a).take n).map UInt8.toNat = c) (g : ck1 c a pc 3 = true) : decode code pc = .ok (.iconst 0, 1) := by
  obtain ⟨x, hx, e⟩ := ck1_at h g
  obtain rfl := u8_lit (o := 3) e
  exact o_3 hx
theorem p_4 {code : ByteArray} {c : List Nat} {a n pc : Nat} (h : ((code.data.toList.drop a).take n).map UInt8.toNat = c) (g : ck1 c a pc 4 = true) : decode code pc = .ok (.iconst 1, 1) := by
  obtain ⟨x, hx, e⟩ := ck1_at h g
  obtain rfl := u8_lit (o := 4) e
  exact o_4 hx
theorem p_5 {code : ByteArray} {c : List Nat} {a n pc : Nat} (h : ((code.data.toList.drop a).take n).map UInt8.toNat = c) (g : ck1 c a pc 5 = true) : decode code pc = .ok (.iconst 2, 1) := by
  obtain ⟨x, hx, e⟩ := ck1_at h g
  obtain rfl := u8_lit (o := 5) e
  exact o_5 hx
theorem p_6 {code : ByteArray} {c : List Nat} {a n pc : Nat} (h : ((code.data.toList.drop a).take n).map UInt8.toNat = c) (g : ck1 c a pc 6 = true) : decode code pc = .ok (.iconst 3, 1) := by
  obtain ⟨x, hx, e⟩ := ck1_at h g
  obtain rfl := u8_lit (o := 6) e
  exact o_6 hx
theorem p_7 {code : ByteArray} {c : List Nat} {a n pc : Nat} (h : ((code.data.toList.drop a).take n).map UInt8.toNat = c) (g : ck1 c a pc 7 = true) : decode code pc = .ok (.iconst 4, 1) := by
  obtain ⟨x, hx, e⟩ := ck1_at h g
  obtain rfl := u8_lit (o := 7) e
  exact o_7 hx
theorem p_8 {code : ByteArray} {c : List Nat} {a n pc : Nat} (h : ((code.data.toList.drop a).take n).map UInt8.toNat = c) (g : ck1 c a pc 8 = true) : decode code pc = .ok (.iconst 5, 1) := by
  obtain ⟨x, hx, e⟩ := ck1_at h g
  obtain rfl := u8_lit (o := 8) e
  exact o_8 hx
theorem p_9 {code : ByteArray} {c : List Nat} {a n pc : Nat} (h : ((code.data.toList.drop a).take n).map UInt8.toNat = c) (g : ck1 c a pc 9 = true) : decode code pc = .ok (.lconst 0, 1) := by
  obtain ⟨x, hx, e⟩ := ck1_at h g
  obtain rfl := u8_lit (o := 9) e
  exact o_9 hx
theorem p_10 {code : ByteArray} {c : List Nat} {a n pc : Nat} (h : ((code.data.toList.drop a).take n).map UInt8.toNat = c) (g : ck1 c a pc 10 = true) : decode code pc = .ok (.lconst 1, 1) := by
  obtain ⟨x, hx, e⟩ := ck1_at h g
  obtain rfl := u8_lit (o := 10) e
  exact o_10 hx
theorem p_16 {code : ByteArray} {c : List Nat} {a n pc : Nat} (h : ((code.data.toList.drop a).take n).map UInt8.toNat = c) {v : Int} (w : Nat) (g : ck2 c a pc 16 w = true) (hv : Reader.signed 8 w = v) : decode code pc = .ok (.bipush v, 2) := by
  obtain ⟨x, y, hx, e, hy, e2⟩ := ck2_at h g
  obtain rfl := u8_lit (o := 16) e
  exact o_16 hx hy (by rw [e2]; exact hv)
theorem p_17 {code : ByteArray} {c : List Nat} {a n pc : Nat} (h : ((code.data.toList.drop a).take n).map UInt8.toNat = c) {v : Int} (w : Nat) (g : ck3 c a pc 17 w = true) (hv : Reader.signed 16 w = v) : decode code pc = .ok (.sipush v, 3) := by
  obtain ⟨x, y, z, hx, e, hy, hz, e2⟩ := ck3_at h g
  obtain rfl := u8_lit (o := 17) e
  exact o_17 hx hy hz (by rw [e2]; exact hv)
theorem p_18 {code : ByteArray} {c : List Nat} {a n pc : Nat} (h : ((code.data.toList.drop a).take n).map UInt8.toNat = c) {v : Nat} (g : ck2 c a pc 18 v = true) : decode code pc = .ok (.ldc v, 2) := by
  obtain ⟨x, y, hx, e, hy, e2⟩ := ck2_at h g
  obtain rfl := u8_lit (o := 18) e
  exact o_18 hx hy e2
theorem p_19 {code : ByteArray} {c : List Nat} {a n pc : Nat} (h : ((code.data.toList.drop a).take n).map UInt8.toNat = c) {v : Nat} (g : ck3 c a pc 19 v = true) : decode code pc = .ok (.ldc_w v, 3) := by
  obtain ⟨x, y, z, hx, e, hy, hz, e2⟩ := ck3_at h g
  obtain rfl := u8_lit (o := 19) e
  exact o_19 hx hy hz e2
theorem p_20 {code : ByteArray} {c : List Nat} {a n pc : Nat} (h : ((code.data.toList.drop a).take n).map UInt8.toNat = c) {v : Nat} (g : ck3 c a pc 20 v = true) : decode code pc = .ok (.ldc2_w v, 3) := by
  obtain ⟨x, y, z, hx, e, hy, hz, e2⟩ := ck3_at h g
  obtain rfl := u8_lit (o := 20) e
  exact o_20 hx hy hz e2
theorem p_21 {code : ByteArray} {c : List Nat} {a n pc : Nat} (h : ((code.data.toList.drop a).take n).map UInt8.toNat = c) {v : Nat} (g : ck2 c a pc 21 v = true) : decode code pc = .ok (.iload v, 2) := by
  obtain ⟨x, y, hx, e, hy, e2⟩ := ck2_at h g
  obtain rfl := u8_lit (o := 21) e
  exact o_21 hx hy e2
theorem p_22 {code : ByteArray} {c : List Nat} {a n pc : Nat} (h : ((code.data.toList.drop a).take n).map UInt8.toNat = c) {v : Nat} (g : ck2 c a pc 22 v = true) : decode code pc = .ok (.lload v, 2) := by
  obtain ⟨x, y, hx, e, hy, e2⟩ := ck2_at h g
  obtain rfl := u8_lit (o := 22) e
  exact o_22 hx hy e2
theorem p_26 {code : ByteArray} {c : List Nat} {a n pc : Nat} (h : ((code.data.toList.drop a).take n).map UInt8.toNat = c) (g : ck1 c a pc 26 = true) : decode code pc = .ok (.iload_n 0, 1) := by
  obtain ⟨x, hx, e⟩ := ck1_at h g
  obtain rfl := u8_lit (o := 26) e
  exact o_26 hx
theorem p_27 {code : ByteArray} {c : List Nat} {a n pc : Nat} (h : ((code.data.toList.drop a).take n).map UInt8.toNat = c) (g : ck1 c a pc 27 = true) : decode code pc = .ok (.iload_n 1, 1) := by
  obtain ⟨x, hx, e⟩ := ck1_at h g
  obtain rfl := u8_lit (o := 27) e
  exact o_27 hx
theorem p_28 {code : ByteArray} {c : List Nat} {a n pc : Nat} (h : ((code.data.toList.drop a).take n).map UInt8.toNat = c) (g : ck1 c a pc 28 = true) : decode code pc = .ok (.iload_n 2, 1) := by
  obtain ⟨x, hx, e⟩ := ck1_at h g
  obtain rfl := u8_lit (o := 28) e
  exact o_28 hx
theorem p_29 {code : ByteArray} {c : List Nat} {a n pc : Nat} (h : ((code.data.toList.drop a).take n).map UInt8.toNat = c) (g : ck1 c a pc 29 = true) : decode code pc = .ok (.iload_n 3, 1) := by
  obtain ⟨x, hx, e⟩ := ck1_at h g
  obtain rfl := u8_lit (o := 29) e
  exact o_29 hx
theorem p_30 {code : ByteArray} {c : List Nat} {a n pc : Nat} (h : ((code.data.toList.drop a).take n).map UInt8.toNat = c) (g : ck1 c a pc 30 = true) : decode code pc = .ok (.lload_n 0, 1) := by
  obtain ⟨x, hx, e⟩ := ck1_at h g
  obtain rfl := u8_lit (o := 30) e
  exact o_30 hx
theorem p_31 {code : ByteArray} {c : List Nat} {a n pc : Nat} (h : ((code.data.toList.drop a).take n).map UInt8.toNat = c) (g : ck1 c a pc 31 = true) : decode code pc = .ok (.lload_n 1, 1) := by
  obtain ⟨x, hx, e⟩ := ck1_at h g
  obtain rfl := u8_lit (o := 31) e
  exact o_31 hx
theorem p_32 {code : ByteArray} {c : List Nat} {a n pc : Nat} (h : ((code.data.toList.drop a).take n).map UInt8.toNat = c) (g : ck1 c a pc 32 = true) : decode code pc = .ok (.lload_n 2, 1) := by
  obtain ⟨x, hx, e⟩ := ck1_at h g
  obtain rfl := u8_lit (o := 32) e
  exact o_32 hx
theorem p_33 {code : ByteArray} {c : List Nat} {a n pc : Nat} (h : ((code.data.toList.drop a).take n).map UInt8.toNat = c) (g : ck1 c a pc 33 = true) : decode code pc = .ok (.lload_n 3, 1) := by
  obtain ⟨x, hx, e⟩ := ck1_at h g
  obtain rfl := u8_lit (o := 33) e
  exact o_33 hx
theorem p_42 {code : ByteArray} {c : List Nat} {a n pc : Nat} (h : ((code.data.toList.drop a).take n).map UInt8.toNat = c) (g : ck1 c a pc 42 = true) : decode code pc = .ok (.aload_n 0, 1) := by
  obtain ⟨x, hx, e⟩ := ck1_at h g
  obtain rfl := u8_lit (o := 42) e
  exact o_42 hx
theorem p_43 {code : ByteArray} {c : List Nat} {a n pc : Nat} (h : ((code.data.toList.drop a).take n).map UInt8.toNat = c) (g : ck1 c a pc 43 = true) : decode code pc = .ok (.aload_n 1, 1) := by
  obtain ⟨x, hx, e⟩ := ck1_at h g
  obtain rfl := u8_lit (o := 43) e
  exact o_43 hx
theorem p_44 {code : ByteArray} {c : List Nat} {a n pc : Nat} (h : ((code.data.toList.drop a).take n).map UInt8.toNat = c) (g : ck1 c a pc 44 = true) : decode code pc = .ok (.aload_n 2, 1) := by
  obtain ⟨x, hx, e⟩ := ck1_at h g
  obtain rfl := u8_lit (o := 44) e
  exact o_44 hx
theorem p_45 {code : ByteArray} {c : List Nat} {a n pc : Nat} (h : ((code.data.toList.drop a).take n).map UInt8.toNat = c) (g : ck1 c a pc 45 = true) : decode code pc = .ok (.aload_n 3, 1) := by
  obtain ⟨x, hx, e⟩ := ck1_at h g
  obtain rfl := u8_lit (o := 45) e
  exact o_45 hx
theorem p_46 {code : ByteArray} {c : List Nat} {a n pc : Nat} (h : ((code.data.toList.drop a).take n).map UInt8.toNat = c) (g : ck1 c a pc 46 = true) : decode code pc = .ok (.iaload, 1) := by
  obtain ⟨x, hx, e⟩ := ck1_at h g
  obtain rfl := u8_lit (o := 46) e
  exact o_46 hx
theorem p_47 {code : ByteArray} {c : List Nat} {a n pc : Nat} (h : ((code.data.toList.drop a).take n).map UInt8.toNat = c) (g : ck1 c a pc 47 = true) : decode code pc = .ok (.laload, 1) := by
  obtain ⟨x, hx, e⟩ := ck1_at h g
  obtain rfl := u8_lit (o := 47) e
  exact o_47 hx
theorem p_50 {code : ByteArray} {c : List Nat} {a n pc : Nat} (h : ((code.data.toList.drop a).take n).map UInt8.toNat = c) (g : ck1 c a pc 50 = true) : decode code pc = .ok (.aaload, 1) := by
  obtain ⟨x, hx, e⟩ := ck1_at h g
  obtain rfl := u8_lit (o := 50) e
  exact o_50 hx
theorem p_51 {code : ByteArray} {c : List Nat} {a n pc : Nat} (h : ((code.data.toList.drop a).take n).map UInt8.toNat = c) (g : ck1 c a pc 51 = true) : decode code pc = .ok (.baload, 1) := by
  obtain ⟨x, hx, e⟩ := ck1_at h g
  obtain rfl := u8_lit (o := 51) e
  exact o_51 hx
theorem p_54 {code : ByteArray} {c : List Nat} {a n pc : Nat} (h : ((code.data.toList.drop a).take n).map UInt8.toNat = c) {v : Nat} (g : ck2 c a pc 54 v = true) : decode code pc = .ok (.istore v, 2) := by
  obtain ⟨x, y, hx, e, hy, e2⟩ := ck2_at h g
  obtain rfl := u8_lit (o := 54) e
  exact o_54 hx hy e2
theorem p_55 {code : ByteArray} {c : List Nat} {a n pc : Nat} (h : ((code.data.toList.drop a).take n).map UInt8.toNat = c) {v : Nat} (g : ck2 c a pc 55 v = true) : decode code pc = .ok (.lstore v, 2) := by
  obtain ⟨x, y, hx, e, hy, e2⟩ := ck2_at h g
  obtain rfl := u8_lit (o := 55) e
  exact o_55 hx hy e2
theorem p_59 {code : ByteArray} {c : List Nat} {a n pc : Nat} (h : ((code.data.toList.drop a).take n).map UInt8.toNat = c) (g : ck1 c a pc 59 = true) : decode code pc = .ok (.istore_n 0, 1) := by
  obtain ⟨x, hx, e⟩ := ck1_at h g
  obtain rfl := u8_lit (o := 59) e
  exact o_59 hx
theorem p_60 {code : ByteArray} {c : List Nat} {a n pc : Nat} (h : ((code.data.toList.drop a).take n).map UInt8.toNat = c) (g : ck1 c a pc 60 = true) : decode code pc = .ok (.istore_n 1, 1) := by
  obtain ⟨x, hx, e⟩ := ck1_at h g
  obtain rfl := u8_lit (o := 60) e
  exact o_60 hx
theorem p_61 {code : ByteArray} {c : List Nat} {a n pc : Nat} (h : ((code.data.toList.drop a).take n).map UInt8.toNat = c) (g : ck1 c a pc 61 = true) : decode code pc = .ok (.istore_n 2, 1) := by
  obtain ⟨x, hx, e⟩ := ck1_at h g
  obtain rfl := u8_lit (o := 61) e
  exact o_61 hx
theorem p_62 {code : ByteArray} {c : List Nat} {a n pc : Nat} (h : ((code.data.toList.drop a).take n).map UInt8.toNat = c) (g : ck1 c a pc 62 = true) : decode code pc = .ok (.istore_n 3, 1) := by
  obtain ⟨x, hx, e⟩ := ck1_at h g
  obtain rfl := u8_lit (o := 62) e
  exact o_62 hx
theorem p_64 {code : ByteArray} {c : List Nat} {a n pc : Nat} (h : ((code.data.toList.drop a).take n).map UInt8.toNat = c) (g : ck1 c a pc 64 = true) : decode code pc = .ok (.lstore_n 1, 1) := by
  obtain ⟨x, hx, e⟩ := ck1_at h g
  obtain rfl := u8_lit (o := 64) e
  exact o_64 hx
theorem p_65 {code : ByteArray} {c : List Nat} {a n pc : Nat} (h : ((code.data.toList.drop a).take n).map UInt8.toNat = c) (g : ck1 c a pc 65 = true) : decode code pc = .ok (.lstore_n 2, 1) := by
  obtain ⟨x, hx, e⟩ := ck1_at h g
  obtain rfl := u8_lit (o := 65) e
  exact o_65 hx
theorem p_66 {code : ByteArray} {c : List Nat} {a n pc : Nat} (h : ((code.data.toList.drop a).take n).map UInt8.toNat = c) (g : ck1 c a pc 66 = true) : decode code pc = .ok (.lstore_n 3, 1) := by
  obtain ⟨x, hx, e⟩ := ck1_at h g
  obtain rfl := u8_lit (o := 66) e
  exact o_66 hx
theorem p_76 {code : ByteArray} {c : List Nat} {a n pc : Nat} (h : ((code.data.toList.drop a).take n).map UInt8.toNat = c) (g : ck1 c a pc 76 = true) : decode code pc = .ok (.astore_n 1, 1) := by
  obtain ⟨x, hx, e⟩ := ck1_at h g
  obtain rfl := u8_lit (o := 76) e
  exact o_76 hx
theorem p_77 {code : ByteArray} {c : List Nat} {a n pc : Nat} (h : ((code.data.toList.drop a).take n).map UInt8.toNat = c) (g : ck1 c a pc 77 = true) : decode code pc = .ok (.astore_n 2, 1) := by
  obtain ⟨x, hx, e⟩ := ck1_at h g
  obtain rfl := u8_lit (o := 77) e
  exact o_77 hx
theorem p_78 {code : ByteArray} {c : List Nat} {a n pc : Nat} (h : ((code.data.toList.drop a).take n).map UInt8.toNat = c) (g : ck1 c a pc 78 = true) : decode code pc = .ok (.astore_n 3, 1) := by
  obtain ⟨x, hx, e⟩ := ck1_at h g
  obtain rfl := u8_lit (o := 78) e
  exact o_78 hx
theorem p_79 {code : ByteArray} {c : List Nat} {a n pc : Nat} (h : ((code.data.toList.drop a).take n).map UInt8.toNat = c) (g : ck1 c a pc 79 = true) : decode code pc = .ok (.iastore, 1) := by
  obtain ⟨x, hx, e⟩ := ck1_at h g
  obtain rfl := u8_lit (o := 79) e
  exact o_79 hx
theorem p_80 {code : ByteArray} {c : List Nat} {a n pc : Nat} (h : ((code.data.toList.drop a).take n).map UInt8.toNat = c) (g : ck1 c a pc 80 = true) : decode code pc = .ok (.lastore, 1) := by
  obtain ⟨x, hx, e⟩ := ck1_at h g
  obtain rfl := u8_lit (o := 80) e
  exact o_80 hx
theorem p_83 {code : ByteArray} {c : List Nat} {a n pc : Nat} (h : ((code.data.toList.drop a).take n).map UInt8.toNat = c) (g : ck1 c a pc 83 = true) : decode code pc = .ok (.aastore, 1) := by
  obtain ⟨x, hx, e⟩ := ck1_at h g
  obtain rfl := u8_lit (o := 83) e
  exact o_83 hx
theorem p_84 {code : ByteArray} {c : List Nat} {a n pc : Nat} (h : ((code.data.toList.drop a).take n).map UInt8.toNat = c) (g : ck1 c a pc 84 = true) : decode code pc = .ok (.bastore, 1) := by
  obtain ⟨x, hx, e⟩ := ck1_at h g
  obtain rfl := u8_lit (o := 84) e
  exact o_84 hx
theorem p_87 {code : ByteArray} {c : List Nat} {a n pc : Nat} (h : ((code.data.toList.drop a).take n).map UInt8.toNat = c) (g : ck1 c a pc 87 = true) : decode code pc = .ok (.pop, 1) := by
  obtain ⟨x, hx, e⟩ := ck1_at h g
  obtain rfl := u8_lit (o := 87) e
  exact o_87 hx
theorem p_88 {code : ByteArray} {c : List Nat} {a n pc : Nat} (h : ((code.data.toList.drop a).take n).map UInt8.toNat = c) (g : ck1 c a pc 88 = true) : decode code pc = .ok (.pop2, 1) := by
  obtain ⟨x, hx, e⟩ := ck1_at h g
  obtain rfl := u8_lit (o := 88) e
  exact o_88 hx
theorem p_89 {code : ByteArray} {c : List Nat} {a n pc : Nat} (h : ((code.data.toList.drop a).take n).map UInt8.toNat = c) (g : ck1 c a pc 89 = true) : decode code pc = .ok (.dup, 1) := by
  obtain ⟨x, hx, e⟩ := ck1_at h g
  obtain rfl := u8_lit (o := 89) e
  exact o_89 hx
theorem p_90 {code : ByteArray} {c : List Nat} {a n pc : Nat} (h : ((code.data.toList.drop a).take n).map UInt8.toNat = c) (g : ck1 c a pc 90 = true) : decode code pc = .ok (.dup_x1, 1) := by
  obtain ⟨x, hx, e⟩ := ck1_at h g
  obtain rfl := u8_lit (o := 90) e
  exact o_90 hx
theorem p_96 {code : ByteArray} {c : List Nat} {a n pc : Nat} (h : ((code.data.toList.drop a).take n).map UInt8.toNat = c) (g : ck1 c a pc 96 = true) : decode code pc = .ok (.iadd, 1) := by
  obtain ⟨x, hx, e⟩ := ck1_at h g
  obtain rfl := u8_lit (o := 96) e
  exact o_96 hx
theorem p_97 {code : ByteArray} {c : List Nat} {a n pc : Nat} (h : ((code.data.toList.drop a).take n).map UInt8.toNat = c) (g : ck1 c a pc 97 = true) : decode code pc = .ok (.ladd, 1) := by
  obtain ⟨x, hx, e⟩ := ck1_at h g
  obtain rfl := u8_lit (o := 97) e
  exact o_97 hx
theorem p_100 {code : ByteArray} {c : List Nat} {a n pc : Nat} (h : ((code.data.toList.drop a).take n).map UInt8.toNat = c) (g : ck1 c a pc 100 = true) : decode code pc = .ok (.isub, 1) := by
  obtain ⟨x, hx, e⟩ := ck1_at h g
  obtain rfl := u8_lit (o := 100) e
  exact o_100 hx
theorem p_101 {code : ByteArray} {c : List Nat} {a n pc : Nat} (h : ((code.data.toList.drop a).take n).map UInt8.toNat = c) (g : ck1 c a pc 101 = true) : decode code pc = .ok (.lsub, 1) := by
  obtain ⟨x, hx, e⟩ := ck1_at h g
  obtain rfl := u8_lit (o := 101) e
  exact o_101 hx
theorem p_104 {code : ByteArray} {c : List Nat} {a n pc : Nat} (h : ((code.data.toList.drop a).take n).map UInt8.toNat = c) (g : ck1 c a pc 104 = true) : decode code pc = .ok (.imul, 1) := by
  obtain ⟨x, hx, e⟩ := ck1_at h g
  obtain rfl := u8_lit (o := 104) e
  exact o_104 hx
theorem p_105 {code : ByteArray} {c : List Nat} {a n pc : Nat} (h : ((code.data.toList.drop a).take n).map UInt8.toNat = c) (g : ck1 c a pc 105 = true) : decode code pc = .ok (.lmul, 1) := by
  obtain ⟨x, hx, e⟩ := ck1_at h g
  obtain rfl := u8_lit (o := 105) e
  exact o_105 hx
theorem p_108 {code : ByteArray} {c : List Nat} {a n pc : Nat} (h : ((code.data.toList.drop a).take n).map UInt8.toNat = c) (g : ck1 c a pc 108 = true) : decode code pc = .ok (.idiv, 1) := by
  obtain ⟨x, hx, e⟩ := ck1_at h g
  obtain rfl := u8_lit (o := 108) e
  exact o_108 hx
theorem p_109 {code : ByteArray} {c : List Nat} {a n pc : Nat} (h : ((code.data.toList.drop a).take n).map UInt8.toNat = c) (g : ck1 c a pc 109 = true) : decode code pc = .ok (.ldiv, 1) := by
  obtain ⟨x, hx, e⟩ := ck1_at h g
  obtain rfl := u8_lit (o := 109) e
  exact o_109 hx
theorem p_112 {code : ByteArray} {c : List Nat} {a n pc : Nat} (h : ((code.data.toList.drop a).take n).map UInt8.toNat = c) (g : ck1 c a pc 112 = true) : decode code pc = .ok (.irem, 1) := by
  obtain ⟨x, hx, e⟩ := ck1_at h g
  obtain rfl := u8_lit (o := 112) e
  exact o_112 hx
theorem p_113 {code : ByteArray} {c : List Nat} {a n pc : Nat} (h : ((code.data.toList.drop a).take n).map UInt8.toNat = c) (g : ck1 c a pc 113 = true) : decode code pc = .ok (.lrem, 1) := by
  obtain ⟨x, hx, e⟩ := ck1_at h g
  obtain rfl := u8_lit (o := 113) e
  exact o_113 hx
theorem p_116 {code : ByteArray} {c : List Nat} {a n pc : Nat} (h : ((code.data.toList.drop a).take n).map UInt8.toNat = c) (g : ck1 c a pc 116 = true) : decode code pc = .ok (.ineg, 1) := by
  obtain ⟨x, hx, e⟩ := ck1_at h g
  obtain rfl := u8_lit (o := 116) e
  exact o_116 hx
theorem p_117 {code : ByteArray} {c : List Nat} {a n pc : Nat} (h : ((code.data.toList.drop a).take n).map UInt8.toNat = c) (g : ck1 c a pc 117 = true) : decode code pc = .ok (.lneg, 1) := by
  obtain ⟨x, hx, e⟩ := ck1_at h g
  obtain rfl := u8_lit (o := 117) e
  exact o_117 hx
theorem p_120 {code : ByteArray} {c : List Nat} {a n pc : Nat} (h : ((code.data.toList.drop a).take n).map UInt8.toNat = c) (g : ck1 c a pc 120 = true) : decode code pc = .ok (.ishl, 1) := by
  obtain ⟨x, hx, e⟩ := ck1_at h g
  obtain rfl := u8_lit (o := 120) e
  exact o_120 hx
theorem p_121 {code : ByteArray} {c : List Nat} {a n pc : Nat} (h : ((code.data.toList.drop a).take n).map UInt8.toNat = c) (g : ck1 c a pc 121 = true) : decode code pc = .ok (.lshl, 1) := by
  obtain ⟨x, hx, e⟩ := ck1_at h g
  obtain rfl := u8_lit (o := 121) e
  exact o_121 hx
theorem p_122 {code : ByteArray} {c : List Nat} {a n pc : Nat} (h : ((code.data.toList.drop a).take n).map UInt8.toNat = c) (g : ck1 c a pc 122 = true) : decode code pc = .ok (.ishr, 1) := by
  obtain ⟨x, hx, e⟩ := ck1_at h g
  obtain rfl := u8_lit (o := 122) e
  exact o_122 hx
theorem p_124 {code : ByteArray} {c : List Nat} {a n pc : Nat} (h : ((code.data.toList.drop a).take n).map UInt8.toNat = c) (g : ck1 c a pc 124 = true) : decode code pc = .ok (.iushr, 1) := by
  obtain ⟨x, hx, e⟩ := ck1_at h g
  obtain rfl := u8_lit (o := 124) e
  exact o_124 hx
theorem p_126 {code : ByteArray} {c : List Nat} {a n pc : Nat} (h : ((code.data.toList.drop a).take n).map UInt8.toNat = c) (g : ck1 c a pc 126 = true) : decode code pc = .ok (.iand, 1) := by
  obtain ⟨x, hx, e⟩ := ck1_at h g
  obtain rfl := u8_lit (o := 126) e
  exact o_126 hx
theorem p_127 {code : ByteArray} {c : List Nat} {a n pc : Nat} (h : ((code.data.toList.drop a).take n).map UInt8.toNat = c) (g : ck1 c a pc 127 = true) : decode code pc = .ok (.land, 1) := by
  obtain ⟨x, hx, e⟩ := ck1_at h g
  obtain rfl := u8_lit (o := 127) e
  exact o_127 hx
theorem p_128 {code : ByteArray} {c : List Nat} {a n pc : Nat} (h : ((code.data.toList.drop a).take n).map UInt8.toNat = c) (g : ck1 c a pc 128 = true) : decode code pc = .ok (.ior, 1) := by
  obtain ⟨x, hx, e⟩ := ck1_at h g
  obtain rfl := u8_lit (o := 128) e
  exact o_128 hx
theorem p_129 {code : ByteArray} {c : List Nat} {a n pc : Nat} (h : ((code.data.toList.drop a).take n).map UInt8.toNat = c) (g : ck1 c a pc 129 = true) : decode code pc = .ok (.lor, 1) := by
  obtain ⟨x, hx, e⟩ := ck1_at h g
  obtain rfl := u8_lit (o := 129) e
  exact o_129 hx
theorem p_133 {code : ByteArray} {c : List Nat} {a n pc : Nat} (h : ((code.data.toList.drop a).take n).map UInt8.toNat = c) (g : ck1 c a pc 133 = true) : decode code pc = .ok (.i2l, 1) := by
  obtain ⟨x, hx, e⟩ := ck1_at h g
  obtain rfl := u8_lit (o := 133) e
  exact o_133 hx
theorem p_145 {code : ByteArray} {c : List Nat} {a n pc : Nat} (h : ((code.data.toList.drop a).take n).map UInt8.toNat = c) (g : ck1 c a pc 145 = true) : decode code pc = .ok (.i2b, 1) := by
  obtain ⟨x, hx, e⟩ := ck1_at h g
  obtain rfl := u8_lit (o := 145) e
  exact o_145 hx
theorem p_146 {code : ByteArray} {c : List Nat} {a n pc : Nat} (h : ((code.data.toList.drop a).take n).map UInt8.toNat = c) (g : ck1 c a pc 146 = true) : decode code pc = .ok (.i2c, 1) := by
  obtain ⟨x, hx, e⟩ := ck1_at h g
  obtain rfl := u8_lit (o := 146) e
  exact o_146 hx
theorem p_148 {code : ByteArray} {c : List Nat} {a n pc : Nat} (h : ((code.data.toList.drop a).take n).map UInt8.toNat = c) (g : ck1 c a pc 148 = true) : decode code pc = .ok (.lcmp, 1) := by
  obtain ⟨x, hx, e⟩ := ck1_at h g
  obtain rfl := u8_lit (o := 148) e
  exact o_148 hx
theorem p_153 {code : ByteArray} {c : List Nat} {a n pc : Nat} (h : ((code.data.toList.drop a).take n).map UInt8.toNat = c) {v : Int} (w : Nat) (g : ck3 c a pc 153 w = true) (hv : Reader.signed 16 w = v) : decode code pc = .ok (.ifCond .eq v, 3) := by
  obtain ⟨x, y, z, hx, e, hy, hz, e2⟩ := ck3_at h g
  obtain rfl := u8_lit (o := 153) e
  exact o_153 hx hy hz (by rw [e2]; exact hv)
theorem p_154 {code : ByteArray} {c : List Nat} {a n pc : Nat} (h : ((code.data.toList.drop a).take n).map UInt8.toNat = c) {v : Int} (w : Nat) (g : ck3 c a pc 154 w = true) (hv : Reader.signed 16 w = v) : decode code pc = .ok (.ifCond .ne v, 3) := by
  obtain ⟨x, y, z, hx, e, hy, hz, e2⟩ := ck3_at h g
  obtain rfl := u8_lit (o := 154) e
  exact o_154 hx hy hz (by rw [e2]; exact hv)
theorem p_155 {code : ByteArray} {c : List Nat} {a n pc : Nat} (h : ((code.data.toList.drop a).take n).map UInt8.toNat = c) {v : Int} (w : Nat) (g : ck3 c a pc 155 w = true) (hv : Reader.signed 16 w = v) : decode code pc = .ok (.ifCond .lt v, 3) := by
  obtain ⟨x, y, z, hx, e, hy, hz, e2⟩ := ck3_at h g
  obtain rfl := u8_lit (o := 155) e
  exact o_155 hx hy hz (by rw [e2]; exact hv)
theorem p_156 {code : ByteArray} {c : List Nat} {a n pc : Nat} (h : ((code.data.toList.drop a).take n).map UInt8.toNat = c) {v : Int} (w : Nat) (g : ck3 c a pc 156 w = true) (hv : Reader.signed 16 w = v) : decode code pc = .ok (.ifCond .ge v, 3) := by
  obtain ⟨x, y, z, hx, e, hy, hz, e2⟩ := ck3_at h g
  obtain rfl := u8_lit (o := 156) e
  exact o_156 hx hy hz (by rw [e2]; exact hv)
theorem p_157 {code : ByteArray} {c : List Nat} {a n pc : Nat} (h : ((code.data.toList.drop a).take n).map UInt8.toNat = c) {v : Int} (w : Nat) (g : ck3 c a pc 157 w = true) (hv : Reader.signed 16 w = v) : decode code pc = .ok (.ifCond .gt v, 3) := by
  obtain ⟨x, y, z, hx, e, hy, hz, e2⟩ := ck3_at h g
  obtain rfl := u8_lit (o := 157) e
  exact o_157 hx hy hz (by rw [e2]; exact hv)
theorem p_158 {code : ByteArray} {c : List Nat} {a n pc : Nat} (h : ((code.data.toList.drop a).take n).map UInt8.toNat = c) {v : Int} (w : Nat) (g : ck3 c a pc 158 w = true) (hv : Reader.signed 16 w = v) : decode code pc = .ok (.ifCond .le v, 3) := by
  obtain ⟨x, y, z, hx, e, hy, hz, e2⟩ := ck3_at h g
  obtain rfl := u8_lit (o := 158) e
  exact o_158 hx hy hz (by rw [e2]; exact hv)
theorem p_159 {code : ByteArray} {c : List Nat} {a n pc : Nat} (h : ((code.data.toList.drop a).take n).map UInt8.toNat = c) {v : Int} (w : Nat) (g : ck3 c a pc 159 w = true) (hv : Reader.signed 16 w = v) : decode code pc = .ok (.if_icmp .eq v, 3) := by
  obtain ⟨x, y, z, hx, e, hy, hz, e2⟩ := ck3_at h g
  obtain rfl := u8_lit (o := 159) e
  exact o_159 hx hy hz (by rw [e2]; exact hv)
theorem p_160 {code : ByteArray} {c : List Nat} {a n pc : Nat} (h : ((code.data.toList.drop a).take n).map UInt8.toNat = c) {v : Int} (w : Nat) (g : ck3 c a pc 160 w = true) (hv : Reader.signed 16 w = v) : decode code pc = .ok (.if_icmp .ne v, 3) := by
  obtain ⟨x, y, z, hx, e, hy, hz, e2⟩ := ck3_at h g
  obtain rfl := u8_lit (o := 160) e
  exact o_160 hx hy hz (by rw [e2]; exact hv)
theorem p_161 {code : ByteArray} {c : List Nat} {a n pc : Nat} (h : ((code.data.toList.drop a).take n).map UInt8.toNat = c) {v : Int} (w : Nat) (g : ck3 c a pc 161 w = true) (hv : Reader.signed 16 w = v) : decode code pc = .ok (.if_icmp .lt v, 3) := by
  obtain ⟨x, y, z, hx, e, hy, hz, e2⟩ := ck3_at h g
  obtain rfl := u8_lit (o := 161) e
  exact o_161 hx hy hz (by rw [e2]; exact hv)
theorem p_162 {code : ByteArray} {c : List Nat} {a n pc : Nat} (h : ((code.data.toList.drop a).take n).map UInt8.toNat = c) {v : Int} (w : Nat) (g : ck3 c a pc 162 w = true) (hv : Reader.signed 16 w = v) : decode code pc = .ok (.if_icmp .ge v, 3) := by
  obtain ⟨x, y, z, hx, e, hy, hz, e2⟩ := ck3_at h g
  obtain rfl := u8_lit (o := 162) e
  exact o_162 hx hy hz (by rw [e2]; exact hv)
theorem p_163 {code : ByteArray} {c : List Nat} {a n pc : Nat} (h : ((code.data.toList.drop a).take n).map UInt8.toNat = c) {v : Int} (w : Nat) (g : ck3 c a pc 163 w = true) (hv : Reader.signed 16 w = v) : decode code pc = .ok (.if_icmp .gt v, 3) := by
  obtain ⟨x, y, z, hx, e, hy, hz, e2⟩ := ck3_at h g
  obtain rfl := u8_lit (o := 163) e
  exact o_163 hx hy hz (by rw [e2]; exact hv)
theorem p_164 {code : ByteArray} {c : List Nat} {a n pc : Nat} (h : ((code.data.toList.drop a).take n).map UInt8.toNat = c) {v : Int} (w : Nat) (g : ck3 c a pc 164 w = true) (hv : Reader.signed 16 w = v) : decode code pc = .ok (.if_icmp .le v, 3) := by
  obtain ⟨x, y, z, hx, e, hy, hz, e2⟩ := ck3_at h g
  obtain rfl := u8_lit (o := 164) e
  exact o_164 hx hy hz (by rw [e2]; exact hv)
theorem p_166 {code : ByteArray} {c : List Nat} {a n pc : Nat} (h : ((code.data.toList.drop a).take n).map UInt8.toNat = c) {v : Int} (w : Nat) (g : ck3 c a pc 166 w = true) (hv : Reader.signed 16 w = v) : decode code pc = .ok (.if_acmp .ne v, 3) := by
  obtain ⟨x, y, z, hx, e, hy, hz, e2⟩ := ck3_at h g
  obtain rfl := u8_lit (o := 166) e
  exact o_166 hx hy hz (by rw [e2]; exact hv)
theorem p_167 {code : ByteArray} {c : List Nat} {a n pc : Nat} (h : ((code.data.toList.drop a).take n).map UInt8.toNat = c) {v : Int} (w : Nat) (g : ck3 c a pc 167 w = true) (hv : Reader.signed 16 w = v) : decode code pc = .ok (.goto v, 3) := by
  obtain ⟨x, y, z, hx, e, hy, hz, e2⟩ := ck3_at h g
  obtain rfl := u8_lit (o := 167) e
  exact o_167 hx hy hz (by rw [e2]; exact hv)
theorem p_172 {code : ByteArray} {c : List Nat} {a n pc : Nat} (h : ((code.data.toList.drop a).take n).map UInt8.toNat = c) (g : ck1 c a pc 172 = true) : decode code pc = .ok (.ireturn, 1) := by
  obtain ⟨x, hx, e⟩ := ck1_at h g
  obtain rfl := u8_lit (o := 172) e
  exact o_172 hx
theorem p_173 {code : ByteArray} {c : List Nat} {a n pc : Nat} (h : ((code.data.toList.drop a).take n).map UInt8.toNat = c) (g : ck1 c a pc 173 = true) : decode code pc = .ok (.lreturn, 1) := by
  obtain ⟨x, hx, e⟩ := ck1_at h g
  obtain rfl := u8_lit (o := 173) e
  exact o_173 hx
theorem p_176 {code : ByteArray} {c : List Nat} {a n pc : Nat} (h : ((code.data.toList.drop a).take n).map UInt8.toNat = c) (g : ck1 c a pc 176 = true) : decode code pc = .ok (.areturn, 1) := by
  obtain ⟨x, hx, e⟩ := ck1_at h g
  obtain rfl := u8_lit (o := 176) e
  exact o_176 hx
theorem p_177 {code : ByteArray} {c : List Nat} {a n pc : Nat} (h : ((code.data.toList.drop a).take n).map UInt8.toNat = c) (g : ck1 c a pc 177 = true) : decode code pc = .ok (.return_, 1) := by
  obtain ⟨x, hx, e⟩ := ck1_at h g
  obtain rfl := u8_lit (o := 177) e
  exact o_177 hx
theorem p_178 {code : ByteArray} {c : List Nat} {a n pc : Nat} (h : ((code.data.toList.drop a).take n).map UInt8.toNat = c) {v : Nat} (g : ck3 c a pc 178 v = true) : decode code pc = .ok (.getstatic v, 3) := by
  obtain ⟨x, y, z, hx, e, hy, hz, e2⟩ := ck3_at h g
  obtain rfl := u8_lit (o := 178) e
  exact o_178 hx hy hz e2
theorem p_180 {code : ByteArray} {c : List Nat} {a n pc : Nat} (h : ((code.data.toList.drop a).take n).map UInt8.toNat = c) {v : Nat} (g : ck3 c a pc 180 v = true) : decode code pc = .ok (.getfield v, 3) := by
  obtain ⟨x, y, z, hx, e, hy, hz, e2⟩ := ck3_at h g
  obtain rfl := u8_lit (o := 180) e
  exact o_180 hx hy hz e2
theorem p_181 {code : ByteArray} {c : List Nat} {a n pc : Nat} (h : ((code.data.toList.drop a).take n).map UInt8.toNat = c) {v : Nat} (g : ck3 c a pc 181 v = true) : decode code pc = .ok (.putfield v, 3) := by
  obtain ⟨x, y, z, hx, e, hy, hz, e2⟩ := ck3_at h g
  obtain rfl := u8_lit (o := 181) e
  exact o_181 hx hy hz e2
theorem p_182 {code : ByteArray} {c : List Nat} {a n pc : Nat} (h : ((code.data.toList.drop a).take n).map UInt8.toNat = c) {v : Nat} (g : ck3 c a pc 182 v = true) : decode code pc = .ok (.invokevirtual v, 3) := by
  obtain ⟨x, y, z, hx, e, hy, hz, e2⟩ := ck3_at h g
  obtain rfl := u8_lit (o := 182) e
  exact o_182 hx hy hz e2
theorem p_183 {code : ByteArray} {c : List Nat} {a n pc : Nat} (h : ((code.data.toList.drop a).take n).map UInt8.toNat = c) {v : Nat} (g : ck3 c a pc 183 v = true) : decode code pc = .ok (.invokespecial v, 3) := by
  obtain ⟨x, y, z, hx, e, hy, hz, e2⟩ := ck3_at h g
  obtain rfl := u8_lit (o := 183) e
  exact o_183 hx hy hz e2
theorem p_184 {code : ByteArray} {c : List Nat} {a n pc : Nat} (h : ((code.data.toList.drop a).take n).map UInt8.toNat = c) {v : Nat} (g : ck3 c a pc 184 v = true) : decode code pc = .ok (.invokestatic v, 3) := by
  obtain ⟨x, y, z, hx, e, hy, hz, e2⟩ := ck3_at h g
  obtain rfl := u8_lit (o := 184) e
  exact o_184 hx hy hz e2
theorem p_187 {code : ByteArray} {c : List Nat} {a n pc : Nat} (h : ((code.data.toList.drop a).take n).map UInt8.toNat = c) {v : Nat} (g : ck3 c a pc 187 v = true) : decode code pc = .ok (.new v, 3) := by
  obtain ⟨x, y, z, hx, e, hy, hz, e2⟩ := ck3_at h g
  obtain rfl := u8_lit (o := 187) e
  exact o_187 hx hy hz e2
theorem p_189 {code : ByteArray} {c : List Nat} {a n pc : Nat} (h : ((code.data.toList.drop a).take n).map UInt8.toNat = c) {v : Nat} (g : ck3 c a pc 189 v = true) : decode code pc = .ok (.anewarray v, 3) := by
  obtain ⟨x, y, z, hx, e, hy, hz, e2⟩ := ck3_at h g
  obtain rfl := u8_lit (o := 189) e
  exact o_189 hx hy hz e2
theorem p_190 {code : ByteArray} {c : List Nat} {a n pc : Nat} (h : ((code.data.toList.drop a).take n).map UInt8.toNat = c) (g : ck1 c a pc 190 = true) : decode code pc = .ok (.arraylength, 1) := by
  obtain ⟨x, hx, e⟩ := ck1_at h g
  obtain rfl := u8_lit (o := 190) e
  exact o_190 hx
theorem p_191 {code : ByteArray} {c : List Nat} {a n pc : Nat} (h : ((code.data.toList.drop a).take n).map UInt8.toNat = c) (g : ck1 c a pc 191 = true) : decode code pc = .ok (.athrow, 1) := by
  obtain ⟨x, hx, e⟩ := ck1_at h g
  obtain rfl := u8_lit (o := 191) e
  exact o_191 hx
theorem p_192 {code : ByteArray} {c : List Nat} {a n pc : Nat} (h : ((code.data.toList.drop a).take n).map UInt8.toNat = c) {v : Nat} (g : ck3 c a pc 192 v = true) : decode code pc = .ok (.checkcast v, 3) := by
  obtain ⟨x, y, z, hx, e, hy, hz, e2⟩ := ck3_at h g
  obtain rfl := u8_lit (o := 192) e
  exact o_192 hx hy hz e2
theorem p_199 {code : ByteArray} {c : List Nat} {a n pc : Nat} (h : ((code.data.toList.drop a).take n).map UInt8.toNat = c) {v : Int} (w : Nat) (g : ck3 c a pc 199 w = true) (hv : Reader.signed 16 w = v) : decode code pc = .ok (.ifnonnull v, 3) := by
  obtain ⟨x, y, z, hx, e, hy, hz, e2⟩ := ck3_at h g
  obtain rfl := u8_lit (o := 199) e
  exact o_199 hx hy hz (by rw [e2]; exact hv)
end
section
def nkL_0 : List Nat := [187, 0, 7, 89, 183, 0, 9, 76, 187, 0, 10, 89, 183, 0, 12, 77, 3, 62, 29, 42, 190, 16, 6, 100, 163, 9, 1, 42, 29, 46, 16, 63, 126, 170, 0, 0, 0, 0, 8, 242, 0, 0, 0, 0, 0, 0, 0, 53, 0, 0, 0, 231, 0, 0, 1, 38, 0, 0, 1, 71, 0, 0, 1, 130, 0, 0]
theorem ndL_0 : ((cL_law.data.toList.drop 0).take 66).map UInt8.toNat = nkL_0 := by decide +kernel
theorem dL_law_0 : decode cL_law 0 = .ok (.new 7, 3) := p_187 ndL_0 (by decide +kernel)
theorem dL_law_3 : decode cL_law 3 = .ok (.dup, 1) := p_89 ndL_0 (by decide +kernel)
theorem dL_law_4 : decode cL_law 4 = .ok (.invokespecial 9, 3) := p_183 ndL_0 (by decide +kernel)
theorem dL_law_7 : decode cL_law 7 = .ok (.astore_n 1, 1) := p_76 ndL_0 (by decide +kernel)
theorem dL_law_8 : decode cL_law 8 = .ok (.new 10, 3) := p_187 ndL_0 (by decide +kernel)
theorem dL_law_11 : decode cL_law 11 = .ok (.dup, 1) := p_89 ndL_0 (by decide +kernel)
theorem dL_law_12 : decode cL_law 12 = .ok (.invokespecial 12, 3) := p_183 ndL_0 (by decide +kernel)
theorem dL_law_15 : decode cL_law 15 = .ok (.astore_n 2, 1) := p_77 ndL_0 (by decide +kernel)
theorem dL_law_16 : decode cL_law 16 = .ok (.iconst 0, 1) := p_3 ndL_0 (by decide +kernel)
theorem dL_law_17 : decode cL_law 17 = .ok (.istore_n 3, 1) := p_62 ndL_0 (by decide +kernel)
theorem dL_law_18 : decode cL_law 18 = .ok (.iload_n 3, 1) := p_29 ndL_0 (by decide +kernel)
theorem dL_law_19 : decode cL_law 19 = .ok (.aload_n 0, 1) := p_42 ndL_0 (by decide +kernel)
theorem dL_law_20 : decode cL_law 20 = .ok (.arraylength, 1) := p_190 ndL_0 (by decide +kernel)
theorem dL_law_21 : decode cL_law 21 = .ok (.bipush 6, 2) := p_16 ndL_0 6 (by decide +kernel) (by decide +kernel)
theorem dL_law_23 : decode cL_law 23 = .ok (.isub, 1) := p_100 ndL_0 (by decide +kernel)
theorem dL_law_24 : decode cL_law 24 = .ok (.if_icmp .gt 2305, 3) := p_163 ndL_0 2305 (by decide +kernel) (by decide +kernel)
theorem dL_law_27 : decode cL_law 27 = .ok (.aload_n 0, 1) := p_42 ndL_0 (by decide +kernel)
theorem dL_law_28 : decode cL_law 28 = .ok (.iload_n 3, 1) := p_29 ndL_0 (by decide +kernel)
theorem dL_law_29 : decode cL_law 29 = .ok (.iaload, 1) := p_46 ndL_0 (by decide +kernel)
theorem dL_law_30 : decode cL_law 30 = .ok (.bipush 63, 2) := p_16 ndL_0 63 (by decide +kernel) (by decide +kernel)
theorem dL_law_32 : decode cL_law 32 = .ok (.iand, 1) := p_126 ndL_0 (by decide +kernel)
theorem dL_law_33 : decode cL_law 33 = .ok (.tableswitch 2290 0 53 #[231, 294, 327, 386, 419, 442, 485, 528, 571, 614, 657, 700, 753, 786, 819, 852, 885, 908, 941, 964, 987, 1020, 1043, 1076, 1109, 1142, 1185, 1218, 1251, 1310, 1333, 1396, 1459, 1502, 1545, 1608, 1641, 1694, 1717, 1756, 1779, 1802, 1871, 1914, 1973, 2006, 2059, 2082, 2115, 2158, 2197, 2241, 2264, 2277], 231) := by decide +kernel
def nkL_4 : List Nat := [0, 0, 8, 216, 0, 0, 8, 229, 43, 42, 29, 4, 96, 46, 42, 29, 5, 96, 46, 42, 29, 6, 96, 46, 42, 29, 7, 96, 46, 42, 29, 8, 96, 46, 182, 0, 13, 87, 44, 42, 29, 4, 96, 46, 42, 29, 5, 96, 46, 42, 29, 6, 96, 46, 42, 29, 7, 96, 46, 42, 29, 8, 96, 46, 182, 0]
theorem ndL_4 : ((cL_law.data.toList.drop 256).take 66).map UInt8.toNat = nkL_4 := by decide +kernel
theorem dL_law_264 : decode cL_law 264 = .ok (.aload_n 1, 1) := p_43 ndL_4 (by decide +kernel)
theorem dL_law_265 : decode cL_law 265 = .ok (.aload_n 0, 1) := p_42 ndL_4 (by decide +kernel)
theorem dL_law_266 : decode cL_law 266 = .ok (.iload_n 3, 1) := p_29 ndL_4 (by decide +kernel)
theorem dL_law_267 : decode cL_law 267 = .ok (.iconst 1, 1) := p_4 ndL_4 (by decide +kernel)
theorem dL_law_268 : decode cL_law 268 = .ok (.iadd, 1) := p_96 ndL_4 (by decide +kernel)
theorem dL_law_269 : decode cL_law 269 = .ok (.iaload, 1) := p_46 ndL_4 (by decide +kernel)
theorem dL_law_270 : decode cL_law 270 = .ok (.aload_n 0, 1) := p_42 ndL_4 (by decide +kernel)
theorem dL_law_271 : decode cL_law 271 = .ok (.iload_n 3, 1) := p_29 ndL_4 (by decide +kernel)
theorem dL_law_272 : decode cL_law 272 = .ok (.iconst 2, 1) := p_5 ndL_4 (by decide +kernel)
theorem dL_law_273 : decode cL_law 273 = .ok (.iadd, 1) := p_96 ndL_4 (by decide +kernel)
theorem dL_law_274 : decode cL_law 274 = .ok (.iaload, 1) := p_46 ndL_4 (by decide +kernel)
theorem dL_law_275 : decode cL_law 275 = .ok (.aload_n 0, 1) := p_42 ndL_4 (by decide +kernel)
theorem dL_law_276 : decode cL_law 276 = .ok (.iload_n 3, 1) := p_29 ndL_4 (by decide +kernel)
theorem dL_law_277 : decode cL_law 277 = .ok (.iconst 3, 1) := p_6 ndL_4 (by decide +kernel)
theorem dL_law_278 : decode cL_law 278 = .ok (.iadd, 1) := p_96 ndL_4 (by decide +kernel)
theorem dL_law_279 : decode cL_law 279 = .ok (.iaload, 1) := p_46 ndL_4 (by decide +kernel)
theorem dL_law_280 : decode cL_law 280 = .ok (.aload_n 0, 1) := p_42 ndL_4 (by decide +kernel)
theorem dL_law_281 : decode cL_law 281 = .ok (.iload_n 3, 1) := p_29 ndL_4 (by decide +kernel)
theorem dL_law_282 : decode cL_law 282 = .ok (.iconst 4, 1) := p_7 ndL_4 (by decide +kernel)
theorem dL_law_283 : decode cL_law 283 = .ok (.iadd, 1) := p_96 ndL_4 (by decide +kernel)
theorem dL_law_284 : decode cL_law 284 = .ok (.iaload, 1) := p_46 ndL_4 (by decide +kernel)
theorem dL_law_285 : decode cL_law 285 = .ok (.aload_n 0, 1) := p_42 ndL_4 (by decide +kernel)
theorem dL_law_286 : decode cL_law 286 = .ok (.iload_n 3, 1) := p_29 ndL_4 (by decide +kernel)
theorem dL_law_287 : decode cL_law 287 = .ok (.iconst 5, 1) := p_8 ndL_4 (by decide +kernel)
theorem dL_law_288 : decode cL_law 288 = .ok (.iadd, 1) := p_96 ndL_4 (by decide +kernel)
theorem dL_law_289 : decode cL_law 289 = .ok (.iaload, 1) := p_46 ndL_4 (by decide +kernel)
theorem dL_law_290 : decode cL_law 290 = .ok (.invokevirtual 13, 3) := p_182 ndL_4 (by decide +kernel)
theorem dL_law_293 : decode cL_law 293 = .ok (.pop, 1) := p_87 ndL_4 (by decide +kernel)
theorem dL_law_294 : decode cL_law 294 = .ok (.aload_n 2, 1) := p_44 ndL_4 (by decide +kernel)
theorem dL_law_295 : decode cL_law 295 = .ok (.aload_n 0, 1) := p_42 ndL_4 (by decide +kernel)
theorem dL_law_296 : decode cL_law 296 = .ok (.iload_n 3, 1) := p_29 ndL_4 (by decide +kernel)
theorem dL_law_297 : decode cL_law 297 = .ok (.iconst 1, 1) := p_4 ndL_4 (by decide +kernel)
theorem dL_law_298 : decode cL_law 298 = .ok (.iadd, 1) := p_96 ndL_4 (by decide +kernel)
theorem dL_law_299 : decode cL_law 299 = .ok (.iaload, 1) := p_46 ndL_4 (by decide +kernel)
theorem dL_law_300 : decode cL_law 300 = .ok (.aload_n 0, 1) := p_42 ndL_4 (by decide +kernel)
theorem dL_law_301 : decode cL_law 301 = .ok (.iload_n 3, 1) := p_29 ndL_4 (by decide +kernel)
theorem dL_law_302 : decode cL_law 302 = .ok (.iconst 2, 1) := p_5 ndL_4 (by decide +kernel)
theorem dL_law_303 : decode cL_law 303 = .ok (.iadd, 1) := p_96 ndL_4 (by decide +kernel)
theorem dL_law_304 : decode cL_law 304 = .ok (.iaload, 1) := p_46 ndL_4 (by decide +kernel)
theorem dL_law_305 : decode cL_law 305 = .ok (.aload_n 0, 1) := p_42 ndL_4 (by decide +kernel)
theorem dL_law_306 : decode cL_law 306 = .ok (.iload_n 3, 1) := p_29 ndL_4 (by decide +kernel)
theorem dL_law_307 : decode cL_law 307 = .ok (.iconst 3, 1) := p_6 ndL_4 (by decide +kernel)
theorem dL_law_308 : decode cL_law 308 = .ok (.iadd, 1) := p_96 ndL_4 (by decide +kernel)
theorem dL_law_309 : decode cL_law 309 = .ok (.iaload, 1) := p_46 ndL_4 (by decide +kernel)
theorem dL_law_310 : decode cL_law 310 = .ok (.aload_n 0, 1) := p_42 ndL_4 (by decide +kernel)
theorem dL_law_311 : decode cL_law 311 = .ok (.iload_n 3, 1) := p_29 ndL_4 (by decide +kernel)
theorem dL_law_312 : decode cL_law 312 = .ok (.iconst 4, 1) := p_7 ndL_4 (by decide +kernel)
theorem dL_law_313 : decode cL_law 313 = .ok (.iadd, 1) := p_96 ndL_4 (by decide +kernel)
theorem dL_law_314 : decode cL_law 314 = .ok (.iaload, 1) := p_46 ndL_4 (by decide +kernel)
theorem dL_law_315 : decode cL_law 315 = .ok (.aload_n 0, 1) := p_42 ndL_4 (by decide +kernel)
theorem dL_law_316 : decode cL_law 316 = .ok (.iload_n 3, 1) := p_29 ndL_4 (by decide +kernel)
theorem dL_law_317 : decode cL_law 317 = .ok (.iconst 5, 1) := p_8 ndL_4 (by decide +kernel)
theorem dL_law_318 : decode cL_law 318 = .ok (.iadd, 1) := p_96 ndL_4 (by decide +kernel)
theorem dL_law_319 : decode cL_law 319 = .ok (.iaload, 1) := p_46 ndL_4 (by decide +kernel)
def nkL_5 : List Nat := [182, 0, 17, 87, 167, 7, 207, 43, 42, 29, 4, 96, 46, 42, 29, 5, 96, 46, 182, 0, 18, 87, 44, 42, 29, 4, 96, 46, 42, 29, 5, 96, 46, 182, 0, 22, 87, 167, 7, 174, 43, 42, 29, 4, 96, 46, 153, 0, 7, 4, 167, 0, 4, 3, 42, 29, 5, 96, 46, 42, 29, 6, 96, 46, 182, 0]
theorem ndL_5 : ((cL_law.data.toList.drop 320).take 66).map UInt8.toNat = nkL_5 := by decide +kernel
theorem dL_law_320 : decode cL_law 320 = .ok (.invokevirtual 17, 3) := p_182 ndL_5 (by decide +kernel)
theorem dL_law_323 : decode cL_law 323 = .ok (.pop, 1) := p_87 ndL_5 (by decide +kernel)
theorem dL_law_324 : decode cL_law 324 = .ok (.goto 1999, 3) := p_167 ndL_5 1999 (by decide +kernel) (by decide +kernel)
theorem dL_law_327 : decode cL_law 327 = .ok (.aload_n 1, 1) := p_43 ndL_5 (by decide +kernel)
theorem dL_law_328 : decode cL_law 328 = .ok (.aload_n 0, 1) := p_42 ndL_5 (by decide +kernel)
theorem dL_law_329 : decode cL_law 329 = .ok (.iload_n 3, 1) := p_29 ndL_5 (by decide +kernel)
theorem dL_law_330 : decode cL_law 330 = .ok (.iconst 1, 1) := p_4 ndL_5 (by decide +kernel)
theorem dL_law_331 : decode cL_law 331 = .ok (.iadd, 1) := p_96 ndL_5 (by decide +kernel)
theorem dL_law_332 : decode cL_law 332 = .ok (.iaload, 1) := p_46 ndL_5 (by decide +kernel)
theorem dL_law_333 : decode cL_law 333 = .ok (.aload_n 0, 1) := p_42 ndL_5 (by decide +kernel)
theorem dL_law_334 : decode cL_law 334 = .ok (.iload_n 3, 1) := p_29 ndL_5 (by decide +kernel)
theorem dL_law_335 : decode cL_law 335 = .ok (.iconst 2, 1) := p_5 ndL_5 (by decide +kernel)
theorem dL_law_336 : decode cL_law 336 = .ok (.iadd, 1) := p_96 ndL_5 (by decide +kernel)
theorem dL_law_337 : decode cL_law 337 = .ok (.iaload, 1) := p_46 ndL_5 (by decide +kernel)
theorem dL_law_338 : decode cL_law 338 = .ok (.invokevirtual 18, 3) := p_182 ndL_5 (by decide +kernel)
theorem dL_law_341 : decode cL_law 341 = .ok (.pop, 1) := p_87 ndL_5 (by decide +kernel)
theorem dL_law_342 : decode cL_law 342 = .ok (.aload_n 2, 1) := p_44 ndL_5 (by decide +kernel)
theorem dL_law_343 : decode cL_law 343 = .ok (.aload_n 0, 1) := p_42 ndL_5 (by decide +kernel)
theorem dL_law_344 : decode cL_law 344 = .ok (.iload_n 3, 1) := p_29 ndL_5 (by decide +kernel)
theorem dL_law_345 : decode cL_law 345 = .ok (.iconst 1, 1) := p_4 ndL_5 (by decide +kernel)
theorem dL_law_346 : decode cL_law 346 = .ok (.iadd, 1) := p_96 ndL_5 (by decide +kernel)
theorem dL_law_347 : decode cL_law 347 = .ok (.iaload, 1) := p_46 ndL_5 (by decide +kernel)
theorem dL_law_348 : decode cL_law 348 = .ok (.aload_n 0, 1) := p_42 ndL_5 (by decide +kernel)
theorem dL_law_349 : decode cL_law 349 = .ok (.iload_n 3, 1) := p_29 ndL_5 (by decide +kernel)
theorem dL_law_350 : decode cL_law 350 = .ok (.iconst 2, 1) := p_5 ndL_5 (by decide +kernel)
theorem dL_law_351 : decode cL_law 351 = .ok (.iadd, 1) := p_96 ndL_5 (by decide +kernel)
theorem dL_law_352 : decode cL_law 352 = .ok (.iaload, 1) := p_46 ndL_5 (by decide +kernel)
theorem dL_law_353 : decode cL_law 353 = .ok (.invokevirtual 22, 3) := p_182 ndL_5 (by decide +kernel)
theorem dL_law_356 : decode cL_law 356 = .ok (.pop, 1) := p_87 ndL_5 (by decide +kernel)
theorem dL_law_357 : decode cL_law 357 = .ok (.goto 1966, 3) := p_167 ndL_5 1966 (by decide +kernel) (by decide +kernel)
theorem dL_law_360 : decode cL_law 360 = .ok (.aload_n 1, 1) := p_43 ndL_5 (by decide +kernel)
theorem dL_law_361 : decode cL_law 361 = .ok (.aload_n 0, 1) := p_42 ndL_5 (by decide +kernel)
theorem dL_law_362 : decode cL_law 362 = .ok (.iload_n 3, 1) := p_29 ndL_5 (by decide +kernel)
theorem dL_law_363 : decode cL_law 363 = .ok (.iconst 1, 1) := p_4 ndL_5 (by decide +kernel)
theorem dL_law_364 : decode cL_law 364 = .ok (.iadd, 1) := p_96 ndL_5 (by decide +kernel)
theorem dL_law_365 : decode cL_law 365 = .ok (.iaload, 1) := p_46 ndL_5 (by decide +kernel)
theorem dL_law_366 : decode cL_law 366 = .ok (.ifCond .eq 7, 3) := p_153 ndL_5 7 (by decide +kernel) (by decide +kernel)
theorem dL_law_369 : decode cL_law 369 = .ok (.iconst 1, 1) := p_4 ndL_5 (by decide +kernel)
theorem dL_law_370 : decode cL_law 370 = .ok (.goto 4, 3) := p_167 ndL_5 4 (by decide +kernel) (by decide +kernel)
theorem dL_law_373 : decode cL_law 373 = .ok (.iconst 0, 1) := p_3 ndL_5 (by decide +kernel)
theorem dL_law_374 : decode cL_law 374 = .ok (.aload_n 0, 1) := p_42 ndL_5 (by decide +kernel)
theorem dL_law_375 : decode cL_law 375 = .ok (.iload_n 3, 1) := p_29 ndL_5 (by decide +kernel)
theorem dL_law_376 : decode cL_law 376 = .ok (.iconst 2, 1) := p_5 ndL_5 (by decide +kernel)
theorem dL_law_377 : decode cL_law 377 = .ok (.iadd, 1) := p_96 ndL_5 (by decide +kernel)
theorem dL_law_378 : decode cL_law 378 = .ok (.iaload, 1) := p_46 ndL_5 (by decide +kernel)
theorem dL_law_379 : decode cL_law 379 = .ok (.aload_n 0, 1) := p_42 ndL_5 (by decide +kernel)
theorem dL_law_380 : decode cL_law 380 = .ok (.iload_n 3, 1) := p_29 ndL_5 (by decide +kernel)
theorem dL_law_381 : decode cL_law 381 = .ok (.iconst 3, 1) := p_6 ndL_5 (by decide +kernel)
theorem dL_law_382 : decode cL_law 382 = .ok (.iadd, 1) := p_96 ndL_5 (by decide +kernel)
theorem dL_law_383 : decode cL_law 383 = .ok (.iaload, 1) := p_46 ndL_5 (by decide +kernel)
def nkL_6 : List Nat := [182, 0, 23, 87, 44, 42, 29, 4, 96, 46, 153, 0, 7, 4, 167, 0, 4, 3, 42, 29, 5, 96, 46, 42, 29, 6, 96, 46, 182, 0, 27, 87, 167, 7, 115, 43, 42, 29, 4, 96, 46, 42, 29, 5, 96, 46, 182, 0, 28, 87, 44, 42, 29, 4, 96, 46, 42, 29, 5, 96, 46, 182, 0, 31, 87, 167]
theorem ndL_6 : ((cL_law.data.toList.drop 384).take 66).map UInt8.toNat = nkL_6 := by decide +kernel
theorem dL_law_384 : decode cL_law 384 = .ok (.invokevirtual 23, 3) := p_182 ndL_6 (by decide +kernel)
theorem dL_law_387 : decode cL_law 387 = .ok (.pop, 1) := p_87 ndL_6 (by decide +kernel)
theorem dL_law_388 : decode cL_law 388 = .ok (.aload_n 2, 1) := p_44 ndL_6 (by decide +kernel)
theorem dL_law_389 : decode cL_law 389 = .ok (.aload_n 0, 1) := p_42 ndL_6 (by decide +kernel)
theorem dL_law_390 : decode cL_law 390 = .ok (.iload_n 3, 1) := p_29 ndL_6 (by decide +kernel)
theorem dL_law_391 : decode cL_law 391 = .ok (.iconst 1, 1) := p_4 ndL_6 (by decide +kernel)
theorem dL_law_392 : decode cL_law 392 = .ok (.iadd, 1) := p_96 ndL_6 (by decide +kernel)
theorem dL_law_393 : decode cL_law 393 = .ok (.iaload, 1) := p_46 ndL_6 (by decide +kernel)
theorem dL_law_394 : decode cL_law 394 = .ok (.ifCond .eq 7, 3) := p_153 ndL_6 7 (by decide +kernel) (by decide +kernel)
theorem dL_law_397 : decode cL_law 397 = .ok (.iconst 1, 1) := p_4 ndL_6 (by decide +kernel)
theorem dL_law_398 : decode cL_law 398 = .ok (.goto 4, 3) := p_167 ndL_6 4 (by decide +kernel) (by decide +kernel)
theorem dL_law_401 : decode cL_law 401 = .ok (.iconst 0, 1) := p_3 ndL_6 (by decide +kernel)
theorem dL_law_402 : decode cL_law 402 = .ok (.aload_n 0, 1) := p_42 ndL_6 (by decide +kernel)
theorem dL_law_403 : decode cL_law 403 = .ok (.iload_n 3, 1) := p_29 ndL_6 (by decide +kernel)
theorem dL_law_404 : decode cL_law 404 = .ok (.iconst 2, 1) := p_5 ndL_6 (by decide +kernel)
theorem dL_law_405 : decode cL_law 405 = .ok (.iadd, 1) := p_96 ndL_6 (by decide +kernel)
theorem dL_law_406 : decode cL_law 406 = .ok (.iaload, 1) := p_46 ndL_6 (by decide +kernel)
theorem dL_law_407 : decode cL_law 407 = .ok (.aload_n 0, 1) := p_42 ndL_6 (by decide +kernel)
theorem dL_law_408 : decode cL_law 408 = .ok (.iload_n 3, 1) := p_29 ndL_6 (by decide +kernel)
theorem dL_law_409 : decode cL_law 409 = .ok (.iconst 3, 1) := p_6 ndL_6 (by decide +kernel)
theorem dL_law_410 : decode cL_law 410 = .ok (.iadd, 1) := p_96 ndL_6 (by decide +kernel)
theorem dL_law_411 : decode cL_law 411 = .ok (.iaload, 1) := p_46 ndL_6 (by decide +kernel)
theorem dL_law_412 : decode cL_law 412 = .ok (.invokevirtual 27, 3) := p_182 ndL_6 (by decide +kernel)
theorem dL_law_415 : decode cL_law 415 = .ok (.pop, 1) := p_87 ndL_6 (by decide +kernel)
theorem dL_law_416 : decode cL_law 416 = .ok (.goto 1907, 3) := p_167 ndL_6 1907 (by decide +kernel) (by decide +kernel)
theorem dL_law_419 : decode cL_law 419 = .ok (.aload_n 1, 1) := p_43 ndL_6 (by decide +kernel)
theorem dL_law_420 : decode cL_law 420 = .ok (.aload_n 0, 1) := p_42 ndL_6 (by decide +kernel)
theorem dL_law_421 : decode cL_law 421 = .ok (.iload_n 3, 1) := p_29 ndL_6 (by decide +kernel)
theorem dL_law_422 : decode cL_law 422 = .ok (.iconst 1, 1) := p_4 ndL_6 (by decide +kernel)
theorem dL_law_423 : decode cL_law 423 = .ok (.iadd, 1) := p_96 ndL_6 (by decide +kernel)
theorem dL_law_424 : decode cL_law 424 = .ok (.iaload, 1) := p_46 ndL_6 (by decide +kernel)
theorem dL_law_425 : decode cL_law 425 = .ok (.aload_n 0, 1) := p_42 ndL_6 (by decide +kernel)
theorem dL_law_426 : decode cL_law 426 = .ok (.iload_n 3, 1) := p_29 ndL_6 (by decide +kernel)
theorem dL_law_427 : decode cL_law 427 = .ok (.iconst 2, 1) := p_5 ndL_6 (by decide +kernel)
theorem dL_law_428 : decode cL_law 428 = .ok (.iadd, 1) := p_96 ndL_6 (by decide +kernel)
theorem dL_law_429 : decode cL_law 429 = .ok (.iaload, 1) := p_46 ndL_6 (by decide +kernel)
theorem dL_law_430 : decode cL_law 430 = .ok (.invokevirtual 28, 3) := p_182 ndL_6 (by decide +kernel)
theorem dL_law_433 : decode cL_law 433 = .ok (.pop, 1) := p_87 ndL_6 (by decide +kernel)
theorem dL_law_434 : decode cL_law 434 = .ok (.aload_n 2, 1) := p_44 ndL_6 (by decide +kernel)
theorem dL_law_435 : decode cL_law 435 = .ok (.aload_n 0, 1) := p_42 ndL_6 (by decide +kernel)
theorem dL_law_436 : decode cL_law 436 = .ok (.iload_n 3, 1) := p_29 ndL_6 (by decide +kernel)
theorem dL_law_437 : decode cL_law 437 = .ok (.iconst 1, 1) := p_4 ndL_6 (by decide +kernel)
theorem dL_law_438 : decode cL_law 438 = .ok (.iadd, 1) := p_96 ndL_6 (by decide +kernel)
theorem dL_law_439 : decode cL_law 439 = .ok (.iaload, 1) := p_46 ndL_6 (by decide +kernel)
theorem dL_law_440 : decode cL_law 440 = .ok (.aload_n 0, 1) := p_42 ndL_6 (by decide +kernel)
theorem dL_law_441 : decode cL_law 441 = .ok (.iload_n 3, 1) := p_29 ndL_6 (by decide +kernel)
theorem dL_law_442 : decode cL_law 442 = .ok (.iconst 2, 1) := p_5 ndL_6 (by decide +kernel)
theorem dL_law_443 : decode cL_law 443 = .ok (.iadd, 1) := p_96 ndL_6 (by decide +kernel)
theorem dL_law_444 : decode cL_law 444 = .ok (.iaload, 1) := p_46 ndL_6 (by decide +kernel)
theorem dL_law_445 : decode cL_law 445 = .ok (.invokevirtual 31, 3) := p_182 ndL_6 (by decide +kernel)
def nkL_7 : List Nat := [87, 167, 7, 82, 43, 42, 29, 4, 96, 46, 182, 0, 32, 87, 44, 42, 29, 4, 96, 46, 182, 0, 36, 87, 167, 7, 59, 43, 42, 29, 4, 96, 46, 42, 29, 5, 96, 46, 42, 29, 6, 96, 46, 182, 0, 37, 88, 44, 42, 29, 4, 96, 46, 42, 29, 5, 96, 46, 42, 29, 6, 96, 46, 182, 0, 41]
theorem ndL_7 : ((cL_law.data.toList.drop 448).take 66).map UInt8.toNat = nkL_7 := by decide +kernel
theorem dL_law_448 : decode cL_law 448 = .ok (.pop, 1) := p_87 ndL_7 (by decide +kernel)
theorem dL_law_449 : decode cL_law 449 = .ok (.goto 1874, 3) := p_167 ndL_7 1874 (by decide +kernel) (by decide +kernel)
theorem dL_law_452 : decode cL_law 452 = .ok (.aload_n 1, 1) := p_43 ndL_7 (by decide +kernel)
theorem dL_law_453 : decode cL_law 453 = .ok (.aload_n 0, 1) := p_42 ndL_7 (by decide +kernel)
theorem dL_law_454 : decode cL_law 454 = .ok (.iload_n 3, 1) := p_29 ndL_7 (by decide +kernel)
theorem dL_law_455 : decode cL_law 455 = .ok (.iconst 1, 1) := p_4 ndL_7 (by decide +kernel)
theorem dL_law_456 : decode cL_law 456 = .ok (.iadd, 1) := p_96 ndL_7 (by decide +kernel)
theorem dL_law_457 : decode cL_law 457 = .ok (.iaload, 1) := p_46 ndL_7 (by decide +kernel)
theorem dL_law_458 : decode cL_law 458 = .ok (.invokevirtual 32, 3) := p_182 ndL_7 (by decide +kernel)
theorem dL_law_461 : decode cL_law 461 = .ok (.pop, 1) := p_87 ndL_7 (by decide +kernel)
theorem dL_law_462 : decode cL_law 462 = .ok (.aload_n 2, 1) := p_44 ndL_7 (by decide +kernel)
theorem dL_law_463 : decode cL_law 463 = .ok (.aload_n 0, 1) := p_42 ndL_7 (by decide +kernel)
theorem dL_law_464 : decode cL_law 464 = .ok (.iload_n 3, 1) := p_29 ndL_7 (by decide +kernel)
theorem dL_law_465 : decode cL_law 465 = .ok (.iconst 1, 1) := p_4 ndL_7 (by decide +kernel)
theorem dL_law_466 : decode cL_law 466 = .ok (.iadd, 1) := p_96 ndL_7 (by decide +kernel)
theorem dL_law_467 : decode cL_law 467 = .ok (.iaload, 1) := p_46 ndL_7 (by decide +kernel)
theorem dL_law_468 : decode cL_law 468 = .ok (.invokevirtual 36, 3) := p_182 ndL_7 (by decide +kernel)
theorem dL_law_471 : decode cL_law 471 = .ok (.pop, 1) := p_87 ndL_7 (by decide +kernel)
theorem dL_law_472 : decode cL_law 472 = .ok (.goto 1851, 3) := p_167 ndL_7 1851 (by decide +kernel) (by decide +kernel)
theorem dL_law_475 : decode cL_law 475 = .ok (.aload_n 1, 1) := p_43 ndL_7 (by decide +kernel)
theorem dL_law_476 : decode cL_law 476 = .ok (.aload_n 0, 1) := p_42 ndL_7 (by decide +kernel)
theorem dL_law_477 : decode cL_law 477 = .ok (.iload_n 3, 1) := p_29 ndL_7 (by decide +kernel)
theorem dL_law_478 : decode cL_law 478 = .ok (.iconst 1, 1) := p_4 ndL_7 (by decide +kernel)
theorem dL_law_479 : decode cL_law 479 = .ok (.iadd, 1) := p_96 ndL_7 (by decide +kernel)
theorem dL_law_480 : decode cL_law 480 = .ok (.iaload, 1) := p_46 ndL_7 (by decide +kernel)
theorem dL_law_481 : decode cL_law 481 = .ok (.aload_n 0, 1) := p_42 ndL_7 (by decide +kernel)
theorem dL_law_482 : decode cL_law 482 = .ok (.iload_n 3, 1) := p_29 ndL_7 (by decide +kernel)
theorem dL_law_483 : decode cL_law 483 = .ok (.iconst 2, 1) := p_5 ndL_7 (by decide +kernel)
theorem dL_law_484 : decode cL_law 484 = .ok (.iadd, 1) := p_96 ndL_7 (by decide +kernel)
theorem dL_law_485 : decode cL_law 485 = .ok (.iaload, 1) := p_46 ndL_7 (by decide +kernel)
theorem dL_law_486 : decode cL_law 486 = .ok (.aload_n 0, 1) := p_42 ndL_7 (by decide +kernel)
theorem dL_law_487 : decode cL_law 487 = .ok (.iload_n 3, 1) := p_29 ndL_7 (by decide +kernel)
theorem dL_law_488 : decode cL_law 488 = .ok (.iconst 3, 1) := p_6 ndL_7 (by decide +kernel)
theorem dL_law_489 : decode cL_law 489 = .ok (.iadd, 1) := p_96 ndL_7 (by decide +kernel)
theorem dL_law_490 : decode cL_law 490 = .ok (.iaload, 1) := p_46 ndL_7 (by decide +kernel)
theorem dL_law_491 : decode cL_law 491 = .ok (.invokevirtual 37, 3) := p_182 ndL_7 (by decide +kernel)
theorem dL_law_494 : decode cL_law 494 = .ok (.pop2, 1) := p_88 ndL_7 (by decide +kernel)
theorem dL_law_495 : decode cL_law 495 = .ok (.aload_n 2, 1) := p_44 ndL_7 (by decide +kernel)
theorem dL_law_496 : decode cL_law 496 = .ok (.aload_n 0, 1) := p_42 ndL_7 (by decide +kernel)
theorem dL_law_497 : decode cL_law 497 = .ok (.iload_n 3, 1) := p_29 ndL_7 (by decide +kernel)
theorem dL_law_498 : decode cL_law 498 = .ok (.iconst 1, 1) := p_4 ndL_7 (by decide +kernel)
theorem dL_law_499 : decode cL_law 499 = .ok (.iadd, 1) := p_96 ndL_7 (by decide +kernel)
theorem dL_law_500 : decode cL_law 500 = .ok (.iaload, 1) := p_46 ndL_7 (by decide +kernel)
theorem dL_law_501 : decode cL_law 501 = .ok (.aload_n 0, 1) := p_42 ndL_7 (by decide +kernel)
theorem dL_law_502 : decode cL_law 502 = .ok (.iload_n 3, 1) := p_29 ndL_7 (by decide +kernel)
theorem dL_law_503 : decode cL_law 503 = .ok (.iconst 2, 1) := p_5 ndL_7 (by decide +kernel)
theorem dL_law_504 : decode cL_law 504 = .ok (.iadd, 1) := p_96 ndL_7 (by decide +kernel)
theorem dL_law_505 : decode cL_law 505 = .ok (.iaload, 1) := p_46 ndL_7 (by decide +kernel)
theorem dL_law_506 : decode cL_law 506 = .ok (.aload_n 0, 1) := p_42 ndL_7 (by decide +kernel)
theorem dL_law_507 : decode cL_law 507 = .ok (.iload_n 3, 1) := p_29 ndL_7 (by decide +kernel)
theorem dL_law_508 : decode cL_law 508 = .ok (.iconst 3, 1) := p_6 ndL_7 (by decide +kernel)
theorem dL_law_509 : decode cL_law 509 = .ok (.iadd, 1) := p_96 ndL_7 (by decide +kernel)
theorem dL_law_510 : decode cL_law 510 = .ok (.iaload, 1) := p_46 ndL_7 (by decide +kernel)
theorem dL_law_511 : decode cL_law 511 = .ok (.invokevirtual 41, 3) := p_182 ndL_7 (by decide +kernel)
def nkL_8 : List Nat := [0, 41, 88, 167, 7, 16, 43, 42, 29, 4, 96, 46, 42, 29, 5, 96, 46, 42, 29, 6, 96, 46, 182, 0, 42, 87, 44, 42, 29, 4, 96, 46, 42, 29, 5, 96, 46, 42, 29, 6, 96, 46, 182, 0, 46, 87, 167, 6, 229, 43, 42, 29, 4, 96, 46, 42, 29, 5, 96, 46, 42, 29, 6, 96, 46, 182]
theorem ndL_8 : ((cL_law.data.toList.drop 512).take 66).map UInt8.toNat = nkL_8 := by decide +kernel
theorem dL_law_514 : decode cL_law 514 = .ok (.pop2, 1) := p_88 ndL_8 (by decide +kernel)
theorem dL_law_515 : decode cL_law 515 = .ok (.goto 1808, 3) := p_167 ndL_8 1808 (by decide +kernel) (by decide +kernel)
theorem dL_law_518 : decode cL_law 518 = .ok (.aload_n 1, 1) := p_43 ndL_8 (by decide +kernel)
theorem dL_law_519 : decode cL_law 519 = .ok (.aload_n 0, 1) := p_42 ndL_8 (by decide +kernel)
theorem dL_law_520 : decode cL_law 520 = .ok (.iload_n 3, 1) := p_29 ndL_8 (by decide +kernel)
theorem dL_law_521 : decode cL_law 521 = .ok (.iconst 1, 1) := p_4 ndL_8 (by decide +kernel)
theorem dL_law_522 : decode cL_law 522 = .ok (.iadd, 1) := p_96 ndL_8 (by decide +kernel)
theorem dL_law_523 : decode cL_law 523 = .ok (.iaload, 1) := p_46 ndL_8 (by decide +kernel)
theorem dL_law_524 : decode cL_law 524 = .ok (.aload_n 0, 1) := p_42 ndL_8 (by decide +kernel)
theorem dL_law_525 : decode cL_law 525 = .ok (.iload_n 3, 1) := p_29 ndL_8 (by decide +kernel)
theorem dL_law_526 : decode cL_law 526 = .ok (.iconst 2, 1) := p_5 ndL_8 (by decide +kernel)
theorem dL_law_527 : decode cL_law 527 = .ok (.iadd, 1) := p_96 ndL_8 (by decide +kernel)
theorem dL_law_528 : decode cL_law 528 = .ok (.iaload, 1) := p_46 ndL_8 (by decide +kernel)
theorem dL_law_529 : decode cL_law 529 = .ok (.aload_n 0, 1) := p_42 ndL_8 (by decide +kernel)
theorem dL_law_530 : decode cL_law 530 = .ok (.iload_n 3, 1) := p_29 ndL_8 (by decide +kernel)
theorem dL_law_531 : decode cL_law 531 = .ok (.iconst 3, 1) := p_6 ndL_8 (by decide +kernel)
theorem dL_law_532 : decode cL_law 532 = .ok (.iadd, 1) := p_96 ndL_8 (by decide +kernel)
theorem dL_law_533 : decode cL_law 533 = .ok (.iaload, 1) := p_46 ndL_8 (by decide +kernel)
theorem dL_law_534 : decode cL_law 534 = .ok (.invokevirtual 42, 3) := p_182 ndL_8 (by decide +kernel)
theorem dL_law_537 : decode cL_law 537 = .ok (.pop, 1) := p_87 ndL_8 (by decide +kernel)
theorem dL_law_538 : decode cL_law 538 = .ok (.aload_n 2, 1) := p_44 ndL_8 (by decide +kernel)
theorem dL_law_539 : decode cL_law 539 = .ok (.aload_n 0, 1) := p_42 ndL_8 (by decide +kernel)
theorem dL_law_540 : decode cL_law 540 = .ok (.iload_n 3, 1) := p_29 ndL_8 (by decide +kernel)
theorem dL_law_541 : decode cL_law 541 = .ok (.iconst 1, 1) := p_4 ndL_8 (by decide +kernel)
theorem dL_law_542 : decode cL_law 542 = .ok (.iadd, 1) := p_96 ndL_8 (by decide +kernel)
theorem dL_law_543 : decode cL_law 543 = .ok (.iaload, 1) := p_46 ndL_8 (by decide +kernel)
theorem dL_law_544 : decode cL_law 544 = .ok (.aload_n 0, 1) := p_42 ndL_8 (by decide +kernel)
theorem dL_law_545 : decode cL_law 545 = .ok (.iload_n 3, 1) := p_29 ndL_8 (by decide +kernel)
theorem dL_law_546 : decode cL_law 546 = .ok (.iconst 2, 1) := p_5 ndL_8 (by decide +kernel)
theorem dL_law_547 : decode cL_law 547 = .ok (.iadd, 1) := p_96 ndL_8 (by decide +kernel)
theorem dL_law_548 : decode cL_law 548 = .ok (.iaload, 1) := p_46 ndL_8 (by decide +kernel)
theorem dL_law_549 : decode cL_law 549 = .ok (.aload_n 0, 1) := p_42 ndL_8 (by decide +kernel)
theorem dL_law_550 : decode cL_law 550 = .ok (.iload_n 3, 1) := p_29 ndL_8 (by decide +kernel)
theorem dL_law_551 : decode cL_law 551 = .ok (.iconst 3, 1) := p_6 ndL_8 (by decide +kernel)
theorem dL_law_552 : decode cL_law 552 = .ok (.iadd, 1) := p_96 ndL_8 (by decide +kernel)
theorem dL_law_553 : decode cL_law 553 = .ok (.iaload, 1) := p_46 ndL_8 (by decide +kernel)
theorem dL_law_554 : decode cL_law 554 = .ok (.invokevirtual 46, 3) := p_182 ndL_8 (by decide +kernel)
theorem dL_law_557 : decode cL_law 557 = .ok (.pop, 1) := p_87 ndL_8 (by decide +kernel)
theorem dL_law_558 : decode cL_law 558 = .ok (.goto 1765, 3) := p_167 ndL_8 1765 (by decide +kernel) (by decide +kernel)
theorem dL_law_561 : decode cL_law 561 = .ok (.aload_n 1, 1) := p_43 ndL_8 (by decide +kernel)
theorem dL_law_562 : decode cL_law 562 = .ok (.aload_n 0, 1) := p_42 ndL_8 (by decide +kernel)
theorem dL_law_563 : decode cL_law 563 = .ok (.iload_n 3, 1) := p_29 ndL_8 (by decide +kernel)
theorem dL_law_564 : decode cL_law 564 = .ok (.iconst 1, 1) := p_4 ndL_8 (by decide +kernel)
theorem dL_law_565 : decode cL_law 565 = .ok (.iadd, 1) := p_96 ndL_8 (by decide +kernel)
theorem dL_law_566 : decode cL_law 566 = .ok (.iaload, 1) := p_46 ndL_8 (by decide +kernel)
theorem dL_law_567 : decode cL_law 567 = .ok (.aload_n 0, 1) := p_42 ndL_8 (by decide +kernel)
theorem dL_law_568 : decode cL_law 568 = .ok (.iload_n 3, 1) := p_29 ndL_8 (by decide +kernel)
theorem dL_law_569 : decode cL_law 569 = .ok (.iconst 2, 1) := p_5 ndL_8 (by decide +kernel)
theorem dL_law_570 : decode cL_law 570 = .ok (.iadd, 1) := p_96 ndL_8 (by decide +kernel)
theorem dL_law_571 : decode cL_law 571 = .ok (.iaload, 1) := p_46 ndL_8 (by decide +kernel)
theorem dL_law_572 : decode cL_law 572 = .ok (.aload_n 0, 1) := p_42 ndL_8 (by decide +kernel)
theorem dL_law_573 : decode cL_law 573 = .ok (.iload_n 3, 1) := p_29 ndL_8 (by decide +kernel)
theorem dL_law_574 : decode cL_law 574 = .ok (.iconst 3, 1) := p_6 ndL_8 (by decide +kernel)
theorem dL_law_575 : decode cL_law 575 = .ok (.iadd, 1) := p_96 ndL_8 (by decide +kernel)
def nkL_9 : List Nat := [46, 182, 0, 47, 87, 44, 42, 29, 4, 96, 46, 42, 29, 5, 96, 46, 42, 29, 6, 96, 46, 182, 0, 51, 87, 167, 6, 186, 43, 42, 29, 4, 96, 46, 42, 29, 5, 96, 46, 42, 29, 6, 96, 46, 182, 0, 52, 87, 44, 42, 29, 4, 96, 46, 42, 29, 5, 96, 46, 42, 29, 6, 96, 46, 182, 0]
theorem ndL_9 : ((cL_law.data.toList.drop 576).take 66).map UInt8.toNat = nkL_9 := by decide +kernel
theorem dL_law_576 : decode cL_law 576 = .ok (.iaload, 1) := p_46 ndL_9 (by decide +kernel)
theorem dL_law_577 : decode cL_law 577 = .ok (.invokevirtual 47, 3) := p_182 ndL_9 (by decide +kernel)
theorem dL_law_580 : decode cL_law 580 = .ok (.pop, 1) := p_87 ndL_9 (by decide +kernel)
theorem dL_law_581 : decode cL_law 581 = .ok (.aload_n 2, 1) := p_44 ndL_9 (by decide +kernel)
theorem dL_law_582 : decode cL_law 582 = .ok (.aload_n 0, 1) := p_42 ndL_9 (by decide +kernel)
theorem dL_law_583 : decode cL_law 583 = .ok (.iload_n 3, 1) := p_29 ndL_9 (by decide +kernel)
theorem dL_law_584 : decode cL_law 584 = .ok (.iconst 1, 1) := p_4 ndL_9 (by decide +kernel)
theorem dL_law_585 : decode cL_law 585 = .ok (.iadd, 1) := p_96 ndL_9 (by decide +kernel)
theorem dL_law_586 : decode cL_law 586 = .ok (.iaload, 1) := p_46 ndL_9 (by decide +kernel)
theorem dL_law_587 : decode cL_law 587 = .ok (.aload_n 0, 1) := p_42 ndL_9 (by decide +kernel)
theorem dL_law_588 : decode cL_law 588 = .ok (.iload_n 3, 1) := p_29 ndL_9 (by decide +kernel)
theorem dL_law_589 : decode cL_law 589 = .ok (.iconst 2, 1) := p_5 ndL_9 (by decide +kernel)
theorem dL_law_590 : decode cL_law 590 = .ok (.iadd, 1) := p_96 ndL_9 (by decide +kernel)
theorem dL_law_591 : decode cL_law 591 = .ok (.iaload, 1) := p_46 ndL_9 (by decide +kernel)
theorem dL_law_592 : decode cL_law 592 = .ok (.aload_n 0, 1) := p_42 ndL_9 (by decide +kernel)
theorem dL_law_593 : decode cL_law 593 = .ok (.iload_n 3, 1) := p_29 ndL_9 (by decide +kernel)
theorem dL_law_594 : decode cL_law 594 = .ok (.iconst 3, 1) := p_6 ndL_9 (by decide +kernel)
theorem dL_law_595 : decode cL_law 595 = .ok (.iadd, 1) := p_96 ndL_9 (by decide +kernel)
theorem dL_law_596 : decode cL_law 596 = .ok (.iaload, 1) := p_46 ndL_9 (by decide +kernel)
theorem dL_law_597 : decode cL_law 597 = .ok (.invokevirtual 51, 3) := p_182 ndL_9 (by decide +kernel)
theorem dL_law_600 : decode cL_law 600 = .ok (.pop, 1) := p_87 ndL_9 (by decide +kernel)
theorem dL_law_601 : decode cL_law 601 = .ok (.goto 1722, 3) := p_167 ndL_9 1722 (by decide +kernel) (by decide +kernel)
theorem dL_law_604 : decode cL_law 604 = .ok (.aload_n 1, 1) := p_43 ndL_9 (by decide +kernel)
theorem dL_law_605 : decode cL_law 605 = .ok (.aload_n 0, 1) := p_42 ndL_9 (by decide +kernel)
theorem dL_law_606 : decode cL_law 606 = .ok (.iload_n 3, 1) := p_29 ndL_9 (by decide +kernel)
theorem dL_law_607 : decode cL_law 607 = .ok (.iconst 1, 1) := p_4 ndL_9 (by decide +kernel)
theorem dL_law_608 : decode cL_law 608 = .ok (.iadd, 1) := p_96 ndL_9 (by decide +kernel)
theorem dL_law_609 : decode cL_law 609 = .ok (.iaload, 1) := p_46 ndL_9 (by decide +kernel)
theorem dL_law_610 : decode cL_law 610 = .ok (.aload_n 0, 1) := p_42 ndL_9 (by decide +kernel)
theorem dL_law_611 : decode cL_law 611 = .ok (.iload_n 3, 1) := p_29 ndL_9 (by decide +kernel)
theorem dL_law_612 : decode cL_law 612 = .ok (.iconst 2, 1) := p_5 ndL_9 (by decide +kernel)
theorem dL_law_613 : decode cL_law 613 = .ok (.iadd, 1) := p_96 ndL_9 (by decide +kernel)
theorem dL_law_614 : decode cL_law 614 = .ok (.iaload, 1) := p_46 ndL_9 (by decide +kernel)
theorem dL_law_615 : decode cL_law 615 = .ok (.aload_n 0, 1) := p_42 ndL_9 (by decide +kernel)
theorem dL_law_616 : decode cL_law 616 = .ok (.iload_n 3, 1) := p_29 ndL_9 (by decide +kernel)
theorem dL_law_617 : decode cL_law 617 = .ok (.iconst 3, 1) := p_6 ndL_9 (by decide +kernel)
theorem dL_law_618 : decode cL_law 618 = .ok (.iadd, 1) := p_96 ndL_9 (by decide +kernel)
theorem dL_law_619 : decode cL_law 619 = .ok (.iaload, 1) := p_46 ndL_9 (by decide +kernel)
theorem dL_law_620 : decode cL_law 620 = .ok (.invokevirtual 52, 3) := p_182 ndL_9 (by decide +kernel)
theorem dL_law_623 : decode cL_law 623 = .ok (.pop, 1) := p_87 ndL_9 (by decide +kernel)
theorem dL_law_624 : decode cL_law 624 = .ok (.aload_n 2, 1) := p_44 ndL_9 (by decide +kernel)
theorem dL_law_625 : decode cL_law 625 = .ok (.aload_n 0, 1) := p_42 ndL_9 (by decide +kernel)
theorem dL_law_626 : decode cL_law 626 = .ok (.iload_n 3, 1) := p_29 ndL_9 (by decide +kernel)
theorem dL_law_627 : decode cL_law 627 = .ok (.iconst 1, 1) := p_4 ndL_9 (by decide +kernel)
theorem dL_law_628 : decode cL_law 628 = .ok (.iadd, 1) := p_96 ndL_9 (by decide +kernel)
theorem dL_law_629 : decode cL_law 629 = .ok (.iaload, 1) := p_46 ndL_9 (by decide +kernel)
theorem dL_law_630 : decode cL_law 630 = .ok (.aload_n 0, 1) := p_42 ndL_9 (by decide +kernel)
theorem dL_law_631 : decode cL_law 631 = .ok (.iload_n 3, 1) := p_29 ndL_9 (by decide +kernel)
theorem dL_law_632 : decode cL_law 632 = .ok (.iconst 2, 1) := p_5 ndL_9 (by decide +kernel)
theorem dL_law_633 : decode cL_law 633 = .ok (.iadd, 1) := p_96 ndL_9 (by decide +kernel)
theorem dL_law_634 : decode cL_law 634 = .ok (.iaload, 1) := p_46 ndL_9 (by decide +kernel)
theorem dL_law_635 : decode cL_law 635 = .ok (.aload_n 0, 1) := p_42 ndL_9 (by decide +kernel)
theorem dL_law_636 : decode cL_law 636 = .ok (.iload_n 3, 1) := p_29 ndL_9 (by decide +kernel)
theorem dL_law_637 : decode cL_law 637 = .ok (.iconst 3, 1) := p_6 ndL_9 (by decide +kernel)
theorem dL_law_638 : decode cL_law 638 = .ok (.iadd, 1) := p_96 ndL_9 (by decide +kernel)
theorem dL_law_639 : decode cL_law 639 = .ok (.iaload, 1) := p_46 ndL_9 (by decide +kernel)
def nkL_10 : List Nat := [182, 0, 55, 87, 167, 6, 143, 43, 42, 29, 4, 96, 46, 42, 29, 5, 96, 46, 42, 29, 6, 96, 46, 182, 0, 56, 87, 44, 42, 29, 4, 96, 46, 42, 29, 5, 96, 46, 42, 29, 6, 96, 46, 182, 0, 59, 87, 167, 6, 100, 43, 42, 29, 4, 96, 46, 42, 29, 5, 96, 46, 42, 29, 6, 96, 46]
theorem ndL_10 : ((cL_law.data.toList.drop 640).take 66).map UInt8.toNat = nkL_10 := by decide +kernel
theorem dL_law_640 : decode cL_law 640 = .ok (.invokevirtual 55, 3) := p_182 ndL_10 (by decide +kernel)
theorem dL_law_643 : decode cL_law 643 = .ok (.pop, 1) := p_87 ndL_10 (by decide +kernel)
theorem dL_law_644 : decode cL_law 644 = .ok (.goto 1679, 3) := p_167 ndL_10 1679 (by decide +kernel) (by decide +kernel)
theorem dL_law_647 : decode cL_law 647 = .ok (.aload_n 1, 1) := p_43 ndL_10 (by decide +kernel)
theorem dL_law_648 : decode cL_law 648 = .ok (.aload_n 0, 1) := p_42 ndL_10 (by decide +kernel)
theorem dL_law_649 : decode cL_law 649 = .ok (.iload_n 3, 1) := p_29 ndL_10 (by decide +kernel)
theorem dL_law_650 : decode cL_law 650 = .ok (.iconst 1, 1) := p_4 ndL_10 (by decide +kernel)
theorem dL_law_651 : decode cL_law 651 = .ok (.iadd, 1) := p_96 ndL_10 (by decide +kernel)
theorem dL_law_652 : decode cL_law 652 = .ok (.iaload, 1) := p_46 ndL_10 (by decide +kernel)
theorem dL_law_653 : decode cL_law 653 = .ok (.aload_n 0, 1) := p_42 ndL_10 (by decide +kernel)
theorem dL_law_654 : decode cL_law 654 = .ok (.iload_n 3, 1) := p_29 ndL_10 (by decide +kernel)
theorem dL_law_655 : decode cL_law 655 = .ok (.iconst 2, 1) := p_5 ndL_10 (by decide +kernel)
theorem dL_law_656 : decode cL_law 656 = .ok (.iadd, 1) := p_96 ndL_10 (by decide +kernel)
theorem dL_law_657 : decode cL_law 657 = .ok (.iaload, 1) := p_46 ndL_10 (by decide +kernel)
theorem dL_law_658 : decode cL_law 658 = .ok (.aload_n 0, 1) := p_42 ndL_10 (by decide +kernel)
theorem dL_law_659 : decode cL_law 659 = .ok (.iload_n 3, 1) := p_29 ndL_10 (by decide +kernel)
theorem dL_law_660 : decode cL_law 660 = .ok (.iconst 3, 1) := p_6 ndL_10 (by decide +kernel)
theorem dL_law_661 : decode cL_law 661 = .ok (.iadd, 1) := p_96 ndL_10 (by decide +kernel)
theorem dL_law_662 : decode cL_law 662 = .ok (.iaload, 1) := p_46 ndL_10 (by decide +kernel)
theorem dL_law_663 : decode cL_law 663 = .ok (.invokevirtual 56, 3) := p_182 ndL_10 (by decide +kernel)
theorem dL_law_666 : decode cL_law 666 = .ok (.pop, 1) := p_87 ndL_10 (by decide +kernel)
theorem dL_law_667 : decode cL_law 667 = .ok (.aload_n 2, 1) := p_44 ndL_10 (by decide +kernel)
theorem dL_law_668 : decode cL_law 668 = .ok (.aload_n 0, 1) := p_42 ndL_10 (by decide +kernel)
theorem dL_law_669 : decode cL_law 669 = .ok (.iload_n 3, 1) := p_29 ndL_10 (by decide +kernel)
theorem dL_law_670 : decode cL_law 670 = .ok (.iconst 1, 1) := p_4 ndL_10 (by decide +kernel)
theorem dL_law_671 : decode cL_law 671 = .ok (.iadd, 1) := p_96 ndL_10 (by decide +kernel)
theorem dL_law_672 : decode cL_law 672 = .ok (.iaload, 1) := p_46 ndL_10 (by decide +kernel)
theorem dL_law_673 : decode cL_law 673 = .ok (.aload_n 0, 1) := p_42 ndL_10 (by decide +kernel)
theorem dL_law_674 : decode cL_law 674 = .ok (.iload_n 3, 1) := p_29 ndL_10 (by decide +kernel)
theorem dL_law_675 : decode cL_law 675 = .ok (.iconst 2, 1) := p_5 ndL_10 (by decide +kernel)
theorem dL_law_676 : decode cL_law 676 = .ok (.iadd, 1) := p_96 ndL_10 (by decide +kernel)
theorem dL_law_677 : decode cL_law 677 = .ok (.iaload, 1) := p_46 ndL_10 (by decide +kernel)
theorem dL_law_678 : decode cL_law 678 = .ok (.aload_n 0, 1) := p_42 ndL_10 (by decide +kernel)
theorem dL_law_679 : decode cL_law 679 = .ok (.iload_n 3, 1) := p_29 ndL_10 (by decide +kernel)
theorem dL_law_680 : decode cL_law 680 = .ok (.iconst 3, 1) := p_6 ndL_10 (by decide +kernel)
theorem dL_law_681 : decode cL_law 681 = .ok (.iadd, 1) := p_96 ndL_10 (by decide +kernel)
theorem dL_law_682 : decode cL_law 682 = .ok (.iaload, 1) := p_46 ndL_10 (by decide +kernel)
theorem dL_law_683 : decode cL_law 683 = .ok (.invokevirtual 59, 3) := p_182 ndL_10 (by decide +kernel)
theorem dL_law_686 : decode cL_law 686 = .ok (.pop, 1) := p_87 ndL_10 (by decide +kernel)
theorem dL_law_687 : decode cL_law 687 = .ok (.goto 1636, 3) := p_167 ndL_10 1636 (by decide +kernel) (by decide +kernel)
theorem dL_law_690 : decode cL_law 690 = .ok (.aload_n 1, 1) := p_43 ndL_10 (by decide +kernel)
theorem dL_law_691 : decode cL_law 691 = .ok (.aload_n 0, 1) := p_42 ndL_10 (by decide +kernel)
theorem dL_law_692 : decode cL_law 692 = .ok (.iload_n 3, 1) := p_29 ndL_10 (by decide +kernel)
theorem dL_law_693 : decode cL_law 693 = .ok (.iconst 1, 1) := p_4 ndL_10 (by decide +kernel)
theorem dL_law_694 : decode cL_law 694 = .ok (.iadd, 1) := p_96 ndL_10 (by decide +kernel)
theorem dL_law_695 : decode cL_law 695 = .ok (.iaload, 1) := p_46 ndL_10 (by decide +kernel)
theorem dL_law_696 : decode cL_law 696 = .ok (.aload_n 0, 1) := p_42 ndL_10 (by decide +kernel)
theorem dL_law_697 : decode cL_law 697 = .ok (.iload_n 3, 1) := p_29 ndL_10 (by decide +kernel)
theorem dL_law_698 : decode cL_law 698 = .ok (.iconst 2, 1) := p_5 ndL_10 (by decide +kernel)
theorem dL_law_699 : decode cL_law 699 = .ok (.iadd, 1) := p_96 ndL_10 (by decide +kernel)
theorem dL_law_700 : decode cL_law 700 = .ok (.iaload, 1) := p_46 ndL_10 (by decide +kernel)
theorem dL_law_701 : decode cL_law 701 = .ok (.aload_n 0, 1) := p_42 ndL_10 (by decide +kernel)
theorem dL_law_702 : decode cL_law 702 = .ok (.iload_n 3, 1) := p_29 ndL_10 (by decide +kernel)
theorem dL_law_703 : decode cL_law 703 = .ok (.iconst 3, 1) := p_6 ndL_10 (by decide +kernel)
def nkL_11 : List Nat := [96, 46, 182, 0, 60, 87, 44, 42, 29, 4, 96, 46, 42, 29, 5, 96, 46, 42, 29, 6, 96, 46, 182, 0, 63, 87, 167, 6, 57, 43, 42, 29, 4, 96, 46, 42, 29, 5, 96, 46, 42, 29, 6, 96, 46, 42, 29, 7, 96, 46, 182, 0, 64, 87, 44, 42, 29, 4, 96, 46, 42, 29, 5, 96, 46, 42]
theorem ndL_11 : ((cL_law.data.toList.drop 704).take 66).map UInt8.toNat = nkL_11 := by decide +kernel
theorem dL_law_704 : decode cL_law 704 = .ok (.iadd, 1) := p_96 ndL_11 (by decide +kernel)
theorem dL_law_705 : decode cL_law 705 = .ok (.iaload, 1) := p_46 ndL_11 (by decide +kernel)
theorem dL_law_706 : decode cL_law 706 = .ok (.invokevirtual 60, 3) := p_182 ndL_11 (by decide +kernel)
theorem dL_law_709 : decode cL_law 709 = .ok (.pop, 1) := p_87 ndL_11 (by decide +kernel)
theorem dL_law_710 : decode cL_law 710 = .ok (.aload_n 2, 1) := p_44 ndL_11 (by decide +kernel)
theorem dL_law_711 : decode cL_law 711 = .ok (.aload_n 0, 1) := p_42 ndL_11 (by decide +kernel)
theorem dL_law_712 : decode cL_law 712 = .ok (.iload_n 3, 1) := p_29 ndL_11 (by decide +kernel)
theorem dL_law_713 : decode cL_law 713 = .ok (.iconst 1, 1) := p_4 ndL_11 (by decide +kernel)
theorem dL_law_714 : decode cL_law 714 = .ok (.iadd, 1) := p_96 ndL_11 (by decide +kernel)
theorem dL_law_715 : decode cL_law 715 = .ok (.iaload, 1) := p_46 ndL_11 (by decide +kernel)
theorem dL_law_716 : decode cL_law 716 = .ok (.aload_n 0, 1) := p_42 ndL_11 (by decide +kernel)
theorem dL_law_717 : decode cL_law 717 = .ok (.iload_n 3, 1) := p_29 ndL_11 (by decide +kernel)
theorem dL_law_718 : decode cL_law 718 = .ok (.iconst 2, 1) := p_5 ndL_11 (by decide +kernel)
theorem dL_law_719 : decode cL_law 719 = .ok (.iadd, 1) := p_96 ndL_11 (by decide +kernel)
theorem dL_law_720 : decode cL_law 720 = .ok (.iaload, 1) := p_46 ndL_11 (by decide +kernel)
theorem dL_law_721 : decode cL_law 721 = .ok (.aload_n 0, 1) := p_42 ndL_11 (by decide +kernel)
theorem dL_law_722 : decode cL_law 722 = .ok (.iload_n 3, 1) := p_29 ndL_11 (by decide +kernel)
theorem dL_law_723 : decode cL_law 723 = .ok (.iconst 3, 1) := p_6 ndL_11 (by decide +kernel)
theorem dL_law_724 : decode cL_law 724 = .ok (.iadd, 1) := p_96 ndL_11 (by decide +kernel)
theorem dL_law_725 : decode cL_law 725 = .ok (.iaload, 1) := p_46 ndL_11 (by decide +kernel)
theorem dL_law_726 : decode cL_law 726 = .ok (.invokevirtual 63, 3) := p_182 ndL_11 (by decide +kernel)
theorem dL_law_729 : decode cL_law 729 = .ok (.pop, 1) := p_87 ndL_11 (by decide +kernel)
theorem dL_law_730 : decode cL_law 730 = .ok (.goto 1593, 3) := p_167 ndL_11 1593 (by decide +kernel) (by decide +kernel)
theorem dL_law_733 : decode cL_law 733 = .ok (.aload_n 1, 1) := p_43 ndL_11 (by decide +kernel)
theorem dL_law_734 : decode cL_law 734 = .ok (.aload_n 0, 1) := p_42 ndL_11 (by decide +kernel)
theorem dL_law_735 : decode cL_law 735 = .ok (.iload_n 3, 1) := p_29 ndL_11 (by decide +kernel)
theorem dL_law_736 : decode cL_law 736 = .ok (.iconst 1, 1) := p_4 ndL_11 (by decide +kernel)
theorem dL_law_737 : decode cL_law 737 = .ok (.iadd, 1) := p_96 ndL_11 (by decide +kernel)
theorem dL_law_738 : decode cL_law 738 = .ok (.iaload, 1) := p_46 ndL_11 (by decide +kernel)
theorem dL_law_739 : decode cL_law 739 = .ok (.aload_n 0, 1) := p_42 ndL_11 (by decide +kernel)
theorem dL_law_740 : decode cL_law 740 = .ok (.iload_n 3, 1) := p_29 ndL_11 (by decide +kernel)
theorem dL_law_741 : decode cL_law 741 = .ok (.iconst 2, 1) := p_5 ndL_11 (by decide +kernel)
theorem dL_law_742 : decode cL_law 742 = .ok (.iadd, 1) := p_96 ndL_11 (by decide +kernel)
theorem dL_law_743 : decode cL_law 743 = .ok (.iaload, 1) := p_46 ndL_11 (by decide +kernel)
theorem dL_law_744 : decode cL_law 744 = .ok (.aload_n 0, 1) := p_42 ndL_11 (by decide +kernel)
theorem dL_law_745 : decode cL_law 745 = .ok (.iload_n 3, 1) := p_29 ndL_11 (by decide +kernel)
theorem dL_law_746 : decode cL_law 746 = .ok (.iconst 3, 1) := p_6 ndL_11 (by decide +kernel)
theorem dL_law_747 : decode cL_law 747 = .ok (.iadd, 1) := p_96 ndL_11 (by decide +kernel)
theorem dL_law_748 : decode cL_law 748 = .ok (.iaload, 1) := p_46 ndL_11 (by decide +kernel)
theorem dL_law_749 : decode cL_law 749 = .ok (.aload_n 0, 1) := p_42 ndL_11 (by decide +kernel)
theorem dL_law_750 : decode cL_law 750 = .ok (.iload_n 3, 1) := p_29 ndL_11 (by decide +kernel)
theorem dL_law_751 : decode cL_law 751 = .ok (.iconst 4, 1) := p_7 ndL_11 (by decide +kernel)
theorem dL_law_752 : decode cL_law 752 = .ok (.iadd, 1) := p_96 ndL_11 (by decide +kernel)
theorem dL_law_753 : decode cL_law 753 = .ok (.iaload, 1) := p_46 ndL_11 (by decide +kernel)
theorem dL_law_754 : decode cL_law 754 = .ok (.invokevirtual 64, 3) := p_182 ndL_11 (by decide +kernel)
theorem dL_law_757 : decode cL_law 757 = .ok (.pop, 1) := p_87 ndL_11 (by decide +kernel)
theorem dL_law_758 : decode cL_law 758 = .ok (.aload_n 2, 1) := p_44 ndL_11 (by decide +kernel)
theorem dL_law_759 : decode cL_law 759 = .ok (.aload_n 0, 1) := p_42 ndL_11 (by decide +kernel)
theorem dL_law_760 : decode cL_law 760 = .ok (.iload_n 3, 1) := p_29 ndL_11 (by decide +kernel)
theorem dL_law_761 : decode cL_law 761 = .ok (.iconst 1, 1) := p_4 ndL_11 (by decide +kernel)
theorem dL_law_762 : decode cL_law 762 = .ok (.iadd, 1) := p_96 ndL_11 (by decide +kernel)
theorem dL_law_763 : decode cL_law 763 = .ok (.iaload, 1) := p_46 ndL_11 (by decide +kernel)
theorem dL_law_764 : decode cL_law 764 = .ok (.aload_n 0, 1) := p_42 ndL_11 (by decide +kernel)
theorem dL_law_765 : decode cL_law 765 = .ok (.iload_n 3, 1) := p_29 ndL_11 (by decide +kernel)
theorem dL_law_766 : decode cL_law 766 = .ok (.iconst 2, 1) := p_5 ndL_11 (by decide +kernel)
theorem dL_law_767 : decode cL_law 767 = .ok (.iadd, 1) := p_96 ndL_11 (by decide +kernel)
def nkL_12 : List Nat := [46, 42, 29, 6, 96, 46, 42, 29, 7, 96, 46, 182, 0, 68, 87, 167, 6, 4, 43, 42, 29, 4, 96, 46, 42, 29, 5, 96, 46, 182, 0, 69, 87, 44, 42, 29, 4, 96, 46, 42, 29, 5, 96, 46, 182, 0, 73, 87, 167, 5, 227, 43, 42, 29, 4, 96, 46, 42, 29, 5, 96, 46, 182, 0, 74, 87]
theorem ndL_12 : ((cL_law.data.toList.drop 768).take 66).map UInt8.toNat = nkL_12 := by decide +kernel
theorem dL_law_768 : decode cL_law 768 = .ok (.iaload, 1) := p_46 ndL_12 (by decide +kernel)
theorem dL_law_769 : decode cL_law 769 = .ok (.aload_n 0, 1) := p_42 ndL_12 (by decide +kernel)
theorem dL_law_770 : decode cL_law 770 = .ok (.iload_n 3, 1) := p_29 ndL_12 (by decide +kernel)
theorem dL_law_771 : decode cL_law 771 = .ok (.iconst 3, 1) := p_6 ndL_12 (by decide +kernel)
theorem dL_law_772 : decode cL_law 772 = .ok (.iadd, 1) := p_96 ndL_12 (by decide +kernel)
theorem dL_law_773 : decode cL_law 773 = .ok (.iaload, 1) := p_46 ndL_12 (by decide +kernel)
theorem dL_law_774 : decode cL_law 774 = .ok (.aload_n 0, 1) := p_42 ndL_12 (by decide +kernel)
theorem dL_law_775 : decode cL_law 775 = .ok (.iload_n 3, 1) := p_29 ndL_12 (by decide +kernel)
theorem dL_law_776 : decode cL_law 776 = .ok (.iconst 4, 1) := p_7 ndL_12 (by decide +kernel)
theorem dL_law_777 : decode cL_law 777 = .ok (.iadd, 1) := p_96 ndL_12 (by decide +kernel)
theorem dL_law_778 : decode cL_law 778 = .ok (.iaload, 1) := p_46 ndL_12 (by decide +kernel)
theorem dL_law_779 : decode cL_law 779 = .ok (.invokevirtual 68, 3) := p_182 ndL_12 (by decide +kernel)
theorem dL_law_782 : decode cL_law 782 = .ok (.pop, 1) := p_87 ndL_12 (by decide +kernel)
theorem dL_law_783 : decode cL_law 783 = .ok (.goto 1540, 3) := p_167 ndL_12 1540 (by decide +kernel) (by decide +kernel)
theorem dL_law_786 : decode cL_law 786 = .ok (.aload_n 1, 1) := p_43 ndL_12 (by decide +kernel)
theorem dL_law_787 : decode cL_law 787 = .ok (.aload_n 0, 1) := p_42 ndL_12 (by decide +kernel)
theorem dL_law_788 : decode cL_law 788 = .ok (.iload_n 3, 1) := p_29 ndL_12 (by decide +kernel)
theorem dL_law_789 : decode cL_law 789 = .ok (.iconst 1, 1) := p_4 ndL_12 (by decide +kernel)
theorem dL_law_790 : decode cL_law 790 = .ok (.iadd, 1) := p_96 ndL_12 (by decide +kernel)
theorem dL_law_791 : decode cL_law 791 = .ok (.iaload, 1) := p_46 ndL_12 (by decide +kernel)
theorem dL_law_792 : decode cL_law 792 = .ok (.aload_n 0, 1) := p_42 ndL_12 (by decide +kernel)
theorem dL_law_793 : decode cL_law 793 = .ok (.iload_n 3, 1) := p_29 ndL_12 (by decide +kernel)
theorem dL_law_794 : decode cL_law 794 = .ok (.iconst 2, 1) := p_5 ndL_12 (by decide +kernel)
theorem dL_law_795 : decode cL_law 795 = .ok (.iadd, 1) := p_96 ndL_12 (by decide +kernel)
theorem dL_law_796 : decode cL_law 796 = .ok (.iaload, 1) := p_46 ndL_12 (by decide +kernel)
theorem dL_law_797 : decode cL_law 797 = .ok (.invokevirtual 69, 3) := p_182 ndL_12 (by decide +kernel)
theorem dL_law_800 : decode cL_law 800 = .ok (.pop, 1) := p_87 ndL_12 (by decide +kernel)
theorem dL_law_801 : decode cL_law 801 = .ok (.aload_n 2, 1) := p_44 ndL_12 (by decide +kernel)
theorem dL_law_802 : decode cL_law 802 = .ok (.aload_n 0, 1) := p_42 ndL_12 (by decide +kernel)
theorem dL_law_803 : decode cL_law 803 = .ok (.iload_n 3, 1) := p_29 ndL_12 (by decide +kernel)
theorem dL_law_804 : decode cL_law 804 = .ok (.iconst 1, 1) := p_4 ndL_12 (by decide +kernel)
theorem dL_law_805 : decode cL_law 805 = .ok (.iadd, 1) := p_96 ndL_12 (by decide +kernel)
theorem dL_law_806 : decode cL_law 806 = .ok (.iaload, 1) := p_46 ndL_12 (by decide +kernel)
theorem dL_law_807 : decode cL_law 807 = .ok (.aload_n 0, 1) := p_42 ndL_12 (by decide +kernel)
theorem dL_law_808 : decode cL_law 808 = .ok (.iload_n 3, 1) := p_29 ndL_12 (by decide +kernel)
theorem dL_law_809 : decode cL_law 809 = .ok (.iconst 2, 1) := p_5 ndL_12 (by decide +kernel)
theorem dL_law_810 : decode cL_law 810 = .ok (.iadd, 1) := p_96 ndL_12 (by decide +kernel)
theorem dL_law_811 : decode cL_law 811 = .ok (.iaload, 1) := p_46 ndL_12 (by decide +kernel)
theorem dL_law_812 : decode cL_law 812 = .ok (.invokevirtual 73, 3) := p_182 ndL_12 (by decide +kernel)
theorem dL_law_815 : decode cL_law 815 = .ok (.pop, 1) := p_87 ndL_12 (by decide +kernel)
theorem dL_law_816 : decode cL_law 816 = .ok (.goto 1507, 3) := p_167 ndL_12 1507 (by decide +kernel) (by decide +kernel)
theorem dL_law_819 : decode cL_law 819 = .ok (.aload_n 1, 1) := p_43 ndL_12 (by decide +kernel)
theorem dL_law_820 : decode cL_law 820 = .ok (.aload_n 0, 1) := p_42 ndL_12 (by decide +kernel)
theorem dL_law_821 : decode cL_law 821 = .ok (.iload_n 3, 1) := p_29 ndL_12 (by decide +kernel)
theorem dL_law_822 : decode cL_law 822 = .ok (.iconst 1, 1) := p_4 ndL_12 (by decide +kernel)
theorem dL_law_823 : decode cL_law 823 = .ok (.iadd, 1) := p_96 ndL_12 (by decide +kernel)
theorem dL_law_824 : decode cL_law 824 = .ok (.iaload, 1) := p_46 ndL_12 (by decide +kernel)
theorem dL_law_825 : decode cL_law 825 = .ok (.aload_n 0, 1) := p_42 ndL_12 (by decide +kernel)
theorem dL_law_826 : decode cL_law 826 = .ok (.iload_n 3, 1) := p_29 ndL_12 (by decide +kernel)
theorem dL_law_827 : decode cL_law 827 = .ok (.iconst 2, 1) := p_5 ndL_12 (by decide +kernel)
theorem dL_law_828 : decode cL_law 828 = .ok (.iadd, 1) := p_96 ndL_12 (by decide +kernel)
theorem dL_law_829 : decode cL_law 829 = .ok (.iaload, 1) := p_46 ndL_12 (by decide +kernel)
theorem dL_law_830 : decode cL_law 830 = .ok (.invokevirtual 74, 3) := p_182 ndL_12 (by decide +kernel)
def nkL_13 : List Nat := [74, 87, 44, 42, 29, 4, 96, 46, 42, 29, 5, 96, 46, 182, 0, 77, 87, 167, 5, 194, 43, 42, 29, 4, 96, 46, 42, 29, 5, 96, 46, 182, 0, 78, 87, 44, 42, 29, 4, 96, 46, 42, 29, 5, 96, 46, 182, 0, 81, 87, 167, 5, 161, 43, 42, 29, 4, 96, 46, 42, 29, 5, 96, 46, 182, 0]
theorem ndL_13 : ((cL_law.data.toList.drop 832).take 66).map UInt8.toNat = nkL_13 := by decide +kernel
theorem dL_law_833 : decode cL_law 833 = .ok (.pop, 1) := p_87 ndL_13 (by decide +kernel)
theorem dL_law_834 : decode cL_law 834 = .ok (.aload_n 2, 1) := p_44 ndL_13 (by decide +kernel)
theorem dL_law_835 : decode cL_law 835 = .ok (.aload_n 0, 1) := p_42 ndL_13 (by decide +kernel)
theorem dL_law_836 : decode cL_law 836 = .ok (.iload_n 3, 1) := p_29 ndL_13 (by decide +kernel)
theorem dL_law_837 : decode cL_law 837 = .ok (.iconst 1, 1) := p_4 ndL_13 (by decide +kernel)
theorem dL_law_838 : decode cL_law 838 = .ok (.iadd, 1) := p_96 ndL_13 (by decide +kernel)
theorem dL_law_839 : decode cL_law 839 = .ok (.iaload, 1) := p_46 ndL_13 (by decide +kernel)
theorem dL_law_840 : decode cL_law 840 = .ok (.aload_n 0, 1) := p_42 ndL_13 (by decide +kernel)
theorem dL_law_841 : decode cL_law 841 = .ok (.iload_n 3, 1) := p_29 ndL_13 (by decide +kernel)
theorem dL_law_842 : decode cL_law 842 = .ok (.iconst 2, 1) := p_5 ndL_13 (by decide +kernel)
theorem dL_law_843 : decode cL_law 843 = .ok (.iadd, 1) := p_96 ndL_13 (by decide +kernel)
theorem dL_law_844 : decode cL_law 844 = .ok (.iaload, 1) := p_46 ndL_13 (by decide +kernel)
theorem dL_law_845 : decode cL_law 845 = .ok (.invokevirtual 77, 3) := p_182 ndL_13 (by decide +kernel)
theorem dL_law_848 : decode cL_law 848 = .ok (.pop, 1) := p_87 ndL_13 (by decide +kernel)
theorem dL_law_849 : decode cL_law 849 = .ok (.goto 1474, 3) := p_167 ndL_13 1474 (by decide +kernel) (by decide +kernel)
theorem dL_law_852 : decode cL_law 852 = .ok (.aload_n 1, 1) := p_43 ndL_13 (by decide +kernel)
theorem dL_law_853 : decode cL_law 853 = .ok (.aload_n 0, 1) := p_42 ndL_13 (by decide +kernel)
theorem dL_law_854 : decode cL_law 854 = .ok (.iload_n 3, 1) := p_29 ndL_13 (by decide +kernel)
theorem dL_law_855 : decode cL_law 855 = .ok (.iconst 1, 1) := p_4 ndL_13 (by decide +kernel)
theorem dL_law_856 : decode cL_law 856 = .ok (.iadd, 1) := p_96 ndL_13 (by decide +kernel)
theorem dL_law_857 : decode cL_law 857 = .ok (.iaload, 1) := p_46 ndL_13 (by decide +kernel)
theorem dL_law_858 : decode cL_law 858 = .ok (.aload_n 0, 1) := p_42 ndL_13 (by decide +kernel)
theorem dL_law_859 : decode cL_law 859 = .ok (.iload_n 3, 1) := p_29 ndL_13 (by decide +kernel)
theorem dL_law_860 : decode cL_law 860 = .ok (.iconst 2, 1) := p_5 ndL_13 (by decide +kernel)
theorem dL_law_861 : decode cL_law 861 = .ok (.iadd, 1) := p_96 ndL_13 (by decide +kernel)
theorem dL_law_862 : decode cL_law 862 = .ok (.iaload, 1) := p_46 ndL_13 (by decide +kernel)
theorem dL_law_863 : decode cL_law 863 = .ok (.invokevirtual 78, 3) := p_182 ndL_13 (by decide +kernel)
theorem dL_law_866 : decode cL_law 866 = .ok (.pop, 1) := p_87 ndL_13 (by decide +kernel)
theorem dL_law_867 : decode cL_law 867 = .ok (.aload_n 2, 1) := p_44 ndL_13 (by decide +kernel)
theorem dL_law_868 : decode cL_law 868 = .ok (.aload_n 0, 1) := p_42 ndL_13 (by decide +kernel)
theorem dL_law_869 : decode cL_law 869 = .ok (.iload_n 3, 1) := p_29 ndL_13 (by decide +kernel)
theorem dL_law_870 : decode cL_law 870 = .ok (.iconst 1, 1) := p_4 ndL_13 (by decide +kernel)
theorem dL_law_871 : decode cL_law 871 = .ok (.iadd, 1) := p_96 ndL_13 (by decide +kernel)
theorem dL_law_872 : decode cL_law 872 = .ok (.iaload, 1) := p_46 ndL_13 (by decide +kernel)
theorem dL_law_873 : decode cL_law 873 = .ok (.aload_n 0, 1) := p_42 ndL_13 (by decide +kernel)
theorem dL_law_874 : decode cL_law 874 = .ok (.iload_n 3, 1) := p_29 ndL_13 (by decide +kernel)
theorem dL_law_875 : decode cL_law 875 = .ok (.iconst 2, 1) := p_5 ndL_13 (by decide +kernel)
theorem dL_law_876 : decode cL_law 876 = .ok (.iadd, 1) := p_96 ndL_13 (by decide +kernel)
theorem dL_law_877 : decode cL_law 877 = .ok (.iaload, 1) := p_46 ndL_13 (by decide +kernel)
theorem dL_law_878 : decode cL_law 878 = .ok (.invokevirtual 81, 3) := p_182 ndL_13 (by decide +kernel)
theorem dL_law_881 : decode cL_law 881 = .ok (.pop, 1) := p_87 ndL_13 (by decide +kernel)
theorem dL_law_882 : decode cL_law 882 = .ok (.goto 1441, 3) := p_167 ndL_13 1441 (by decide +kernel) (by decide +kernel)
theorem dL_law_885 : decode cL_law 885 = .ok (.aload_n 1, 1) := p_43 ndL_13 (by decide +kernel)
theorem dL_law_886 : decode cL_law 886 = .ok (.aload_n 0, 1) := p_42 ndL_13 (by decide +kernel)
theorem dL_law_887 : decode cL_law 887 = .ok (.iload_n 3, 1) := p_29 ndL_13 (by decide +kernel)
theorem dL_law_888 : decode cL_law 888 = .ok (.iconst 1, 1) := p_4 ndL_13 (by decide +kernel)
theorem dL_law_889 : decode cL_law 889 = .ok (.iadd, 1) := p_96 ndL_13 (by decide +kernel)
theorem dL_law_890 : decode cL_law 890 = .ok (.iaload, 1) := p_46 ndL_13 (by decide +kernel)
theorem dL_law_891 : decode cL_law 891 = .ok (.aload_n 0, 1) := p_42 ndL_13 (by decide +kernel)
theorem dL_law_892 : decode cL_law 892 = .ok (.iload_n 3, 1) := p_29 ndL_13 (by decide +kernel)
theorem dL_law_893 : decode cL_law 893 = .ok (.iconst 2, 1) := p_5 ndL_13 (by decide +kernel)
theorem dL_law_894 : decode cL_law 894 = .ok (.iadd, 1) := p_96 ndL_13 (by decide +kernel)
theorem dL_law_895 : decode cL_law 895 = .ok (.iaload, 1) := p_46 ndL_13 (by decide +kernel)
def nkL_14 : List Nat := [182, 0, 82, 87, 44, 42, 29, 4, 96, 46, 42, 29, 5, 96, 46, 182, 0, 85, 87, 167, 5, 128, 43, 42, 29, 4, 96, 46, 182, 0, 86, 87, 44, 42, 29, 4, 96, 46, 182, 0, 89, 87, 167, 5, 105, 43, 42, 29, 4, 96, 46, 42, 29, 5, 96, 46, 182, 0, 90, 87, 44, 42, 29, 4, 96, 46]
theorem ndL_14 : ((cL_law.data.toList.drop 896).take 66).map UInt8.toNat = nkL_14 := by decide +kernel
theorem dL_law_896 : decode cL_law 896 = .ok (.invokevirtual 82, 3) := p_182 ndL_14 (by decide +kernel)
theorem dL_law_899 : decode cL_law 899 = .ok (.pop, 1) := p_87 ndL_14 (by decide +kernel)
theorem dL_law_900 : decode cL_law 900 = .ok (.aload_n 2, 1) := p_44 ndL_14 (by decide +kernel)
theorem dL_law_901 : decode cL_law 901 = .ok (.aload_n 0, 1) := p_42 ndL_14 (by decide +kernel)
theorem dL_law_902 : decode cL_law 902 = .ok (.iload_n 3, 1) := p_29 ndL_14 (by decide +kernel)
theorem dL_law_903 : decode cL_law 903 = .ok (.iconst 1, 1) := p_4 ndL_14 (by decide +kernel)
theorem dL_law_904 : decode cL_law 904 = .ok (.iadd, 1) := p_96 ndL_14 (by decide +kernel)
theorem dL_law_905 : decode cL_law 905 = .ok (.iaload, 1) := p_46 ndL_14 (by decide +kernel)
theorem dL_law_906 : decode cL_law 906 = .ok (.aload_n 0, 1) := p_42 ndL_14 (by decide +kernel)
theorem dL_law_907 : decode cL_law 907 = .ok (.iload_n 3, 1) := p_29 ndL_14 (by decide +kernel)
theorem dL_law_908 : decode cL_law 908 = .ok (.iconst 2, 1) := p_5 ndL_14 (by decide +kernel)
theorem dL_law_909 : decode cL_law 909 = .ok (.iadd, 1) := p_96 ndL_14 (by decide +kernel)
theorem dL_law_910 : decode cL_law 910 = .ok (.iaload, 1) := p_46 ndL_14 (by decide +kernel)
theorem dL_law_911 : decode cL_law 911 = .ok (.invokevirtual 85, 3) := p_182 ndL_14 (by decide +kernel)
theorem dL_law_914 : decode cL_law 914 = .ok (.pop, 1) := p_87 ndL_14 (by decide +kernel)
theorem dL_law_915 : decode cL_law 915 = .ok (.goto 1408, 3) := p_167 ndL_14 1408 (by decide +kernel) (by decide +kernel)
theorem dL_law_918 : decode cL_law 918 = .ok (.aload_n 1, 1) := p_43 ndL_14 (by decide +kernel)
theorem dL_law_919 : decode cL_law 919 = .ok (.aload_n 0, 1) := p_42 ndL_14 (by decide +kernel)
theorem dL_law_920 : decode cL_law 920 = .ok (.iload_n 3, 1) := p_29 ndL_14 (by decide +kernel)
theorem dL_law_921 : decode cL_law 921 = .ok (.iconst 1, 1) := p_4 ndL_14 (by decide +kernel)
theorem dL_law_922 : decode cL_law 922 = .ok (.iadd, 1) := p_96 ndL_14 (by decide +kernel)
theorem dL_law_923 : decode cL_law 923 = .ok (.iaload, 1) := p_46 ndL_14 (by decide +kernel)
theorem dL_law_924 : decode cL_law 924 = .ok (.invokevirtual 86, 3) := p_182 ndL_14 (by decide +kernel)
theorem dL_law_927 : decode cL_law 927 = .ok (.pop, 1) := p_87 ndL_14 (by decide +kernel)
theorem dL_law_928 : decode cL_law 928 = .ok (.aload_n 2, 1) := p_44 ndL_14 (by decide +kernel)
theorem dL_law_929 : decode cL_law 929 = .ok (.aload_n 0, 1) := p_42 ndL_14 (by decide +kernel)
theorem dL_law_930 : decode cL_law 930 = .ok (.iload_n 3, 1) := p_29 ndL_14 (by decide +kernel)
theorem dL_law_931 : decode cL_law 931 = .ok (.iconst 1, 1) := p_4 ndL_14 (by decide +kernel)
theorem dL_law_932 : decode cL_law 932 = .ok (.iadd, 1) := p_96 ndL_14 (by decide +kernel)
theorem dL_law_933 : decode cL_law 933 = .ok (.iaload, 1) := p_46 ndL_14 (by decide +kernel)
theorem dL_law_934 : decode cL_law 934 = .ok (.invokevirtual 89, 3) := p_182 ndL_14 (by decide +kernel)
theorem dL_law_937 : decode cL_law 937 = .ok (.pop, 1) := p_87 ndL_14 (by decide +kernel)
theorem dL_law_938 : decode cL_law 938 = .ok (.goto 1385, 3) := p_167 ndL_14 1385 (by decide +kernel) (by decide +kernel)
theorem dL_law_941 : decode cL_law 941 = .ok (.aload_n 1, 1) := p_43 ndL_14 (by decide +kernel)
theorem dL_law_942 : decode cL_law 942 = .ok (.aload_n 0, 1) := p_42 ndL_14 (by decide +kernel)
theorem dL_law_943 : decode cL_law 943 = .ok (.iload_n 3, 1) := p_29 ndL_14 (by decide +kernel)
theorem dL_law_944 : decode cL_law 944 = .ok (.iconst 1, 1) := p_4 ndL_14 (by decide +kernel)
theorem dL_law_945 : decode cL_law 945 = .ok (.iadd, 1) := p_96 ndL_14 (by decide +kernel)
theorem dL_law_946 : decode cL_law 946 = .ok (.iaload, 1) := p_46 ndL_14 (by decide +kernel)
theorem dL_law_947 : decode cL_law 947 = .ok (.aload_n 0, 1) := p_42 ndL_14 (by decide +kernel)
theorem dL_law_948 : decode cL_law 948 = .ok (.iload_n 3, 1) := p_29 ndL_14 (by decide +kernel)
theorem dL_law_949 : decode cL_law 949 = .ok (.iconst 2, 1) := p_5 ndL_14 (by decide +kernel)
theorem dL_law_950 : decode cL_law 950 = .ok (.iadd, 1) := p_96 ndL_14 (by decide +kernel)
theorem dL_law_951 : decode cL_law 951 = .ok (.iaload, 1) := p_46 ndL_14 (by decide +kernel)
theorem dL_law_952 : decode cL_law 952 = .ok (.invokevirtual 90, 3) := p_182 ndL_14 (by decide +kernel)
theorem dL_law_955 : decode cL_law 955 = .ok (.pop, 1) := p_87 ndL_14 (by decide +kernel)
theorem dL_law_956 : decode cL_law 956 = .ok (.aload_n 2, 1) := p_44 ndL_14 (by decide +kernel)
theorem dL_law_957 : decode cL_law 957 = .ok (.aload_n 0, 1) := p_42 ndL_14 (by decide +kernel)
theorem dL_law_958 : decode cL_law 958 = .ok (.iload_n 3, 1) := p_29 ndL_14 (by decide +kernel)
theorem dL_law_959 : decode cL_law 959 = .ok (.iconst 1, 1) := p_4 ndL_14 (by decide +kernel)
def nkL_15 : List Nat := [96, 46, 42, 29, 5, 96, 46, 182, 0, 93, 87, 167, 5, 72, 43, 42, 29, 4, 96, 46, 182, 0, 94, 87, 44, 42, 29, 4, 96, 46, 182, 0, 97, 87, 167, 5, 49, 43, 42, 29, 4, 96, 46, 182, 0, 98, 88, 44, 42, 29, 4, 96, 46, 182, 0, 102, 88, 167, 5, 26, 43, 42, 29, 4, 96, 46]
theorem ndL_15 : ((cL_law.data.toList.drop 960).take 66).map UInt8.toNat = nkL_15 := by decide +kernel
theorem dL_law_960 : decode cL_law 960 = .ok (.iadd, 1) := p_96 ndL_15 (by decide +kernel)
theorem dL_law_961 : decode cL_law 961 = .ok (.iaload, 1) := p_46 ndL_15 (by decide +kernel)
theorem dL_law_962 : decode cL_law 962 = .ok (.aload_n 0, 1) := p_42 ndL_15 (by decide +kernel)
theorem dL_law_963 : decode cL_law 963 = .ok (.iload_n 3, 1) := p_29 ndL_15 (by decide +kernel)
theorem dL_law_964 : decode cL_law 964 = .ok (.iconst 2, 1) := p_5 ndL_15 (by decide +kernel)
theorem dL_law_965 : decode cL_law 965 = .ok (.iadd, 1) := p_96 ndL_15 (by decide +kernel)
theorem dL_law_966 : decode cL_law 966 = .ok (.iaload, 1) := p_46 ndL_15 (by decide +kernel)
theorem dL_law_967 : decode cL_law 967 = .ok (.invokevirtual 93, 3) := p_182 ndL_15 (by decide +kernel)
theorem dL_law_970 : decode cL_law 970 = .ok (.pop, 1) := p_87 ndL_15 (by decide +kernel)
theorem dL_law_971 : decode cL_law 971 = .ok (.goto 1352, 3) := p_167 ndL_15 1352 (by decide +kernel) (by decide +kernel)
theorem dL_law_974 : decode cL_law 974 = .ok (.aload_n 1, 1) := p_43 ndL_15 (by decide +kernel)
theorem dL_law_975 : decode cL_law 975 = .ok (.aload_n 0, 1) := p_42 ndL_15 (by decide +kernel)
theorem dL_law_976 : decode cL_law 976 = .ok (.iload_n 3, 1) := p_29 ndL_15 (by decide +kernel)
theorem dL_law_977 : decode cL_law 977 = .ok (.iconst 1, 1) := p_4 ndL_15 (by decide +kernel)
theorem dL_law_978 : decode cL_law 978 = .ok (.iadd, 1) := p_96 ndL_15 (by decide +kernel)
theorem dL_law_979 : decode cL_law 979 = .ok (.iaload, 1) := p_46 ndL_15 (by decide +kernel)
theorem dL_law_980 : decode cL_law 980 = .ok (.invokevirtual 94, 3) := p_182 ndL_15 (by decide +kernel)
theorem dL_law_983 : decode cL_law 983 = .ok (.pop, 1) := p_87 ndL_15 (by decide +kernel)
theorem dL_law_984 : decode cL_law 984 = .ok (.aload_n 2, 1) := p_44 ndL_15 (by decide +kernel)
theorem dL_law_985 : decode cL_law 985 = .ok (.aload_n 0, 1) := p_42 ndL_15 (by decide +kernel)
theorem dL_law_986 : decode cL_law 986 = .ok (.iload_n 3, 1) := p_29 ndL_15 (by decide +kernel)
theorem dL_law_987 : decode cL_law 987 = .ok (.iconst 1, 1) := p_4 ndL_15 (by decide +kernel)
theorem dL_law_988 : decode cL_law 988 = .ok (.iadd, 1) := p_96 ndL_15 (by decide +kernel)
theorem dL_law_989 : decode cL_law 989 = .ok (.iaload, 1) := p_46 ndL_15 (by decide +kernel)
theorem dL_law_990 : decode cL_law 990 = .ok (.invokevirtual 97, 3) := p_182 ndL_15 (by decide +kernel)
theorem dL_law_993 : decode cL_law 993 = .ok (.pop, 1) := p_87 ndL_15 (by decide +kernel)
theorem dL_law_994 : decode cL_law 994 = .ok (.goto 1329, 3) := p_167 ndL_15 1329 (by decide +kernel) (by decide +kernel)
theorem dL_law_997 : decode cL_law 997 = .ok (.aload_n 1, 1) := p_43 ndL_15 (by decide +kernel)
theorem dL_law_998 : decode cL_law 998 = .ok (.aload_n 0, 1) := p_42 ndL_15 (by decide +kernel)
theorem dL_law_999 : decode cL_law 999 = .ok (.iload_n 3, 1) := p_29 ndL_15 (by decide +kernel)
theorem dL_law_1000 : decode cL_law 1000 = .ok (.iconst 1, 1) := p_4 ndL_15 (by decide +kernel)
theorem dL_law_1001 : decode cL_law 1001 = .ok (.iadd, 1) := p_96 ndL_15 (by decide +kernel)
theorem dL_law_1002 : decode cL_law 1002 = .ok (.iaload, 1) := p_46 ndL_15 (by decide +kernel)
theorem dL_law_1003 : decode cL_law 1003 = .ok (.invokevirtual 98, 3) := p_182 ndL_15 (by decide +kernel)
theorem dL_law_1006 : decode cL_law 1006 = .ok (.pop2, 1) := p_88 ndL_15 (by decide +kernel)
theorem dL_law_1007 : decode cL_law 1007 = .ok (.aload_n 2, 1) := p_44 ndL_15 (by decide +kernel)
theorem dL_law_1008 : decode cL_law 1008 = .ok (.aload_n 0, 1) := p_42 ndL_15 (by decide +kernel)
theorem dL_law_1009 : decode cL_law 1009 = .ok (.iload_n 3, 1) := p_29 ndL_15 (by decide +kernel)
theorem dL_law_1010 : decode cL_law 1010 = .ok (.iconst 1, 1) := p_4 ndL_15 (by decide +kernel)
theorem dL_law_1011 : decode cL_law 1011 = .ok (.iadd, 1) := p_96 ndL_15 (by decide +kernel)
theorem dL_law_1012 : decode cL_law 1012 = .ok (.iaload, 1) := p_46 ndL_15 (by decide +kernel)
theorem dL_law_1013 : decode cL_law 1013 = .ok (.invokevirtual 102, 3) := p_182 ndL_15 (by decide +kernel)
theorem dL_law_1016 : decode cL_law 1016 = .ok (.pop2, 1) := p_88 ndL_15 (by decide +kernel)
theorem dL_law_1017 : decode cL_law 1017 = .ok (.goto 1306, 3) := p_167 ndL_15 1306 (by decide +kernel) (by decide +kernel)
theorem dL_law_1020 : decode cL_law 1020 = .ok (.aload_n 1, 1) := p_43 ndL_15 (by decide +kernel)
theorem dL_law_1021 : decode cL_law 1021 = .ok (.aload_n 0, 1) := p_42 ndL_15 (by decide +kernel)
theorem dL_law_1022 : decode cL_law 1022 = .ok (.iload_n 3, 1) := p_29 ndL_15 (by decide +kernel)
theorem dL_law_1023 : decode cL_law 1023 = .ok (.iconst 1, 1) := p_4 ndL_15 (by decide +kernel)
def nkL_16 : List Nat := [96, 46, 42, 29, 5, 96, 46, 182, 0, 103, 88, 44, 42, 29, 4, 96, 46, 42, 29, 5, 96, 46, 182, 0, 107, 88, 167, 4, 249, 43, 42, 29, 4, 96, 46, 182, 0, 108, 87, 44, 42, 29, 4, 96, 46, 182, 0, 111, 87, 167, 4, 226, 43, 42, 29, 4, 96, 46, 42, 29, 5, 96, 46, 182, 0, 112]
theorem ndL_16 : ((cL_law.data.toList.drop 1024).take 66).map UInt8.toNat = nkL_16 := by decide +kernel
theorem dL_law_1024 : decode cL_law 1024 = .ok (.iadd, 1) := p_96 ndL_16 (by decide +kernel)
theorem dL_law_1025 : decode cL_law 1025 = .ok (.iaload, 1) := p_46 ndL_16 (by decide +kernel)
theorem dL_law_1026 : decode cL_law 1026 = .ok (.aload_n 0, 1) := p_42 ndL_16 (by decide +kernel)
theorem dL_law_1027 : decode cL_law 1027 = .ok (.iload_n 3, 1) := p_29 ndL_16 (by decide +kernel)
theorem dL_law_1028 : decode cL_law 1028 = .ok (.iconst 2, 1) := p_5 ndL_16 (by decide +kernel)
theorem dL_law_1029 : decode cL_law 1029 = .ok (.iadd, 1) := p_96 ndL_16 (by decide +kernel)
theorem dL_law_1030 : decode cL_law 1030 = .ok (.iaload, 1) := p_46 ndL_16 (by decide +kernel)
theorem dL_law_1031 : decode cL_law 1031 = .ok (.invokevirtual 103, 3) := p_182 ndL_16 (by decide +kernel)
theorem dL_law_1034 : decode cL_law 1034 = .ok (.pop2, 1) := p_88 ndL_16 (by decide +kernel)
theorem dL_law_1035 : decode cL_law 1035 = .ok (.aload_n 2, 1) := p_44 ndL_16 (by decide +kernel)
theorem dL_law_1036 : decode cL_law 1036 = .ok (.aload_n 0, 1) := p_42 ndL_16 (by decide +kernel)
theorem dL_law_1037 : decode cL_law 1037 = .ok (.iload_n 3, 1) := p_29 ndL_16 (by decide +kernel)
theorem dL_law_1038 : decode cL_law 1038 = .ok (.iconst 1, 1) := p_4 ndL_16 (by decide +kernel)
theorem dL_law_1039 : decode cL_law 1039 = .ok (.iadd, 1) := p_96 ndL_16 (by decide +kernel)
theorem dL_law_1040 : decode cL_law 1040 = .ok (.iaload, 1) := p_46 ndL_16 (by decide +kernel)
theorem dL_law_1041 : decode cL_law 1041 = .ok (.aload_n 0, 1) := p_42 ndL_16 (by decide +kernel)
theorem dL_law_1042 : decode cL_law 1042 = .ok (.iload_n 3, 1) := p_29 ndL_16 (by decide +kernel)
theorem dL_law_1043 : decode cL_law 1043 = .ok (.iconst 2, 1) := p_5 ndL_16 (by decide +kernel)
theorem dL_law_1044 : decode cL_law 1044 = .ok (.iadd, 1) := p_96 ndL_16 (by decide +kernel)
theorem dL_law_1045 : decode cL_law 1045 = .ok (.iaload, 1) := p_46 ndL_16 (by decide +kernel)
theorem dL_law_1046 : decode cL_law 1046 = .ok (.invokevirtual 107, 3) := p_182 ndL_16 (by decide +kernel)
theorem dL_law_1049 : decode cL_law 1049 = .ok (.pop2, 1) := p_88 ndL_16 (by decide +kernel)
theorem dL_law_1050 : decode cL_law 1050 = .ok (.goto 1273, 3) := p_167 ndL_16 1273 (by decide +kernel) (by decide +kernel)
theorem dL_law_1053 : decode cL_law 1053 = .ok (.aload_n 1, 1) := p_43 ndL_16 (by decide +kernel)
theorem dL_law_1054 : decode cL_law 1054 = .ok (.aload_n 0, 1) := p_42 ndL_16 (by decide +kernel)
theorem dL_law_1055 : decode cL_law 1055 = .ok (.iload_n 3, 1) := p_29 ndL_16 (by decide +kernel)
theorem dL_law_1056 : decode cL_law 1056 = .ok (.iconst 1, 1) := p_4 ndL_16 (by decide +kernel)
theorem dL_law_1057 : decode cL_law 1057 = .ok (.iadd, 1) := p_96 ndL_16 (by decide +kernel)
theorem dL_law_1058 : decode cL_law 1058 = .ok (.iaload, 1) := p_46 ndL_16 (by decide +kernel)
theorem dL_law_1059 : decode cL_law 1059 = .ok (.invokevirtual 108, 3) := p_182 ndL_16 (by decide +kernel)
theorem dL_law_1062 : decode cL_law 1062 = .ok (.pop, 1) := p_87 ndL_16 (by decide +kernel)
theorem dL_law_1063 : decode cL_law 1063 = .ok (.aload_n 2, 1) := p_44 ndL_16 (by decide +kernel)
theorem dL_law_1064 : decode cL_law 1064 = .ok (.aload_n 0, 1) := p_42 ndL_16 (by decide +kernel)
theorem dL_law_1065 : decode cL_law 1065 = .ok (.iload_n 3, 1) := p_29 ndL_16 (by decide +kernel)
theorem dL_law_1066 : decode cL_law 1066 = .ok (.iconst 1, 1) := p_4 ndL_16 (by decide +kernel)
theorem dL_law_1067 : decode cL_law 1067 = .ok (.iadd, 1) := p_96 ndL_16 (by decide +kernel)
theorem dL_law_1068 : decode cL_law 1068 = .ok (.iaload, 1) := p_46 ndL_16 (by decide +kernel)
theorem dL_law_1069 : decode cL_law 1069 = .ok (.invokevirtual 111, 3) := p_182 ndL_16 (by decide +kernel)
theorem dL_law_1072 : decode cL_law 1072 = .ok (.pop, 1) := p_87 ndL_16 (by decide +kernel)
theorem dL_law_1073 : decode cL_law 1073 = .ok (.goto 1250, 3) := p_167 ndL_16 1250 (by decide +kernel) (by decide +kernel)
theorem dL_law_1076 : decode cL_law 1076 = .ok (.aload_n 1, 1) := p_43 ndL_16 (by decide +kernel)
theorem dL_law_1077 : decode cL_law 1077 = .ok (.aload_n 0, 1) := p_42 ndL_16 (by decide +kernel)
theorem dL_law_1078 : decode cL_law 1078 = .ok (.iload_n 3, 1) := p_29 ndL_16 (by decide +kernel)
theorem dL_law_1079 : decode cL_law 1079 = .ok (.iconst 1, 1) := p_4 ndL_16 (by decide +kernel)
theorem dL_law_1080 : decode cL_law 1080 = .ok (.iadd, 1) := p_96 ndL_16 (by decide +kernel)
theorem dL_law_1081 : decode cL_law 1081 = .ok (.iaload, 1) := p_46 ndL_16 (by decide +kernel)
theorem dL_law_1082 : decode cL_law 1082 = .ok (.aload_n 0, 1) := p_42 ndL_16 (by decide +kernel)
theorem dL_law_1083 : decode cL_law 1083 = .ok (.iload_n 3, 1) := p_29 ndL_16 (by decide +kernel)
theorem dL_law_1084 : decode cL_law 1084 = .ok (.iconst 2, 1) := p_5 ndL_16 (by decide +kernel)
theorem dL_law_1085 : decode cL_law 1085 = .ok (.iadd, 1) := p_96 ndL_16 (by decide +kernel)
theorem dL_law_1086 : decode cL_law 1086 = .ok (.iaload, 1) := p_46 ndL_16 (by decide +kernel)
theorem dL_law_1087 : decode cL_law 1087 = .ok (.invokevirtual 112, 3) := p_182 ndL_16 (by decide +kernel)
def nkL_17 : List Nat := [0, 112, 88, 44, 42, 29, 4, 96, 46, 42, 29, 5, 96, 46, 182, 0, 115, 88, 167, 4, 193, 43, 42, 29, 4, 96, 46, 42, 29, 5, 96, 46, 182, 0, 116, 88, 44, 42, 29, 4, 96, 46, 42, 29, 5, 96, 46, 182, 0, 119, 88, 167, 4, 160, 43, 42, 29, 4, 96, 46, 42, 29, 5, 96, 46, 182]
theorem ndL_17 : ((cL_law.data.toList.drop 1088).take 66).map UInt8.toNat = nkL_17 := by decide +kernel
theorem dL_law_1090 : decode cL_law 1090 = .ok (.pop2, 1) := p_88 ndL_17 (by decide +kernel)
theorem dL_law_1091 : decode cL_law 1091 = .ok (.aload_n 2, 1) := p_44 ndL_17 (by decide +kernel)
theorem dL_law_1092 : decode cL_law 1092 = .ok (.aload_n 0, 1) := p_42 ndL_17 (by decide +kernel)
theorem dL_law_1093 : decode cL_law 1093 = .ok (.iload_n 3, 1) := p_29 ndL_17 (by decide +kernel)
theorem dL_law_1094 : decode cL_law 1094 = .ok (.iconst 1, 1) := p_4 ndL_17 (by decide +kernel)
theorem dL_law_1095 : decode cL_law 1095 = .ok (.iadd, 1) := p_96 ndL_17 (by decide +kernel)
theorem dL_law_1096 : decode cL_law 1096 = .ok (.iaload, 1) := p_46 ndL_17 (by decide +kernel)
theorem dL_law_1097 : decode cL_law 1097 = .ok (.aload_n 0, 1) := p_42 ndL_17 (by decide +kernel)
theorem dL_law_1098 : decode cL_law 1098 = .ok (.iload_n 3, 1) := p_29 ndL_17 (by decide +kernel)
theorem dL_law_1099 : decode cL_law 1099 = .ok (.iconst 2, 1) := p_5 ndL_17 (by decide +kernel)
theorem dL_law_1100 : decode cL_law 1100 = .ok (.iadd, 1) := p_96 ndL_17 (by decide +kernel)
theorem dL_law_1101 : decode cL_law 1101 = .ok (.iaload, 1) := p_46 ndL_17 (by decide +kernel)
theorem dL_law_1102 : decode cL_law 1102 = .ok (.invokevirtual 115, 3) := p_182 ndL_17 (by decide +kernel)
theorem dL_law_1105 : decode cL_law 1105 = .ok (.pop2, 1) := p_88 ndL_17 (by decide +kernel)
theorem dL_law_1106 : decode cL_law 1106 = .ok (.goto 1217, 3) := p_167 ndL_17 1217 (by decide +kernel) (by decide +kernel)
theorem dL_law_1109 : decode cL_law 1109 = .ok (.aload_n 1, 1) := p_43 ndL_17 (by decide +kernel)
theorem dL_law_1110 : decode cL_law 1110 = .ok (.aload_n 0, 1) := p_42 ndL_17 (by decide +kernel)
theorem dL_law_1111 : decode cL_law 1111 = .ok (.iload_n 3, 1) := p_29 ndL_17 (by decide +kernel)
theorem dL_law_1112 : decode cL_law 1112 = .ok (.iconst 1, 1) := p_4 ndL_17 (by decide +kernel)
theorem dL_law_1113 : decode cL_law 1113 = .ok (.iadd, 1) := p_96 ndL_17 (by decide +kernel)
theorem dL_law_1114 : decode cL_law 1114 = .ok (.iaload, 1) := p_46 ndL_17 (by decide +kernel)
theorem dL_law_1115 : decode cL_law 1115 = .ok (.aload_n 0, 1) := p_42 ndL_17 (by decide +kernel)
theorem dL_law_1116 : decode cL_law 1116 = .ok (.iload_n 3, 1) := p_29 ndL_17 (by decide +kernel)
theorem dL_law_1117 : decode cL_law 1117 = .ok (.iconst 2, 1) := p_5 ndL_17 (by decide +kernel)
theorem dL_law_1118 : decode cL_law 1118 = .ok (.iadd, 1) := p_96 ndL_17 (by decide +kernel)
theorem dL_law_1119 : decode cL_law 1119 = .ok (.iaload, 1) := p_46 ndL_17 (by decide +kernel)
theorem dL_law_1120 : decode cL_law 1120 = .ok (.invokevirtual 116, 3) := p_182 ndL_17 (by decide +kernel)
theorem dL_law_1123 : decode cL_law 1123 = .ok (.pop2, 1) := p_88 ndL_17 (by decide +kernel)
theorem dL_law_1124 : decode cL_law 1124 = .ok (.aload_n 2, 1) := p_44 ndL_17 (by decide +kernel)
theorem dL_law_1125 : decode cL_law 1125 = .ok (.aload_n 0, 1) := p_42 ndL_17 (by decide +kernel)
theorem dL_law_1126 : decode cL_law 1126 = .ok (.iload_n 3, 1) := p_29 ndL_17 (by decide +kernel)
theorem dL_law_1127 : decode cL_law 1127 = .ok (.iconst 1, 1) := p_4 ndL_17 (by decide +kernel)
theorem dL_law_1128 : decode cL_law 1128 = .ok (.iadd, 1) := p_96 ndL_17 (by decide +kernel)
theorem dL_law_1129 : decode cL_law 1129 = .ok (.iaload, 1) := p_46 ndL_17 (by decide +kernel)
theorem dL_law_1130 : decode cL_law 1130 = .ok (.aload_n 0, 1) := p_42 ndL_17 (by decide +kernel)
theorem dL_law_1131 : decode cL_law 1131 = .ok (.iload_n 3, 1) := p_29 ndL_17 (by decide +kernel)
theorem dL_law_1132 : decode cL_law 1132 = .ok (.iconst 2, 1) := p_5 ndL_17 (by decide +kernel)
theorem dL_law_1133 : decode cL_law 1133 = .ok (.iadd, 1) := p_96 ndL_17 (by decide +kernel)
theorem dL_law_1134 : decode cL_law 1134 = .ok (.iaload, 1) := p_46 ndL_17 (by decide +kernel)
theorem dL_law_1135 : decode cL_law 1135 = .ok (.invokevirtual 119, 3) := p_182 ndL_17 (by decide +kernel)
theorem dL_law_1138 : decode cL_law 1138 = .ok (.pop2, 1) := p_88 ndL_17 (by decide +kernel)
theorem dL_law_1139 : decode cL_law 1139 = .ok (.goto 1184, 3) := p_167 ndL_17 1184 (by decide +kernel) (by decide +kernel)
theorem dL_law_1142 : decode cL_law 1142 = .ok (.aload_n 1, 1) := p_43 ndL_17 (by decide +kernel)
theorem dL_law_1143 : decode cL_law 1143 = .ok (.aload_n 0, 1) := p_42 ndL_17 (by decide +kernel)
theorem dL_law_1144 : decode cL_law 1144 = .ok (.iload_n 3, 1) := p_29 ndL_17 (by decide +kernel)
theorem dL_law_1145 : decode cL_law 1145 = .ok (.iconst 1, 1) := p_4 ndL_17 (by decide +kernel)
theorem dL_law_1146 : decode cL_law 1146 = .ok (.iadd, 1) := p_96 ndL_17 (by decide +kernel)
theorem dL_law_1147 : decode cL_law 1147 = .ok (.iaload, 1) := p_46 ndL_17 (by decide +kernel)
theorem dL_law_1148 : decode cL_law 1148 = .ok (.aload_n 0, 1) := p_42 ndL_17 (by decide +kernel)
theorem dL_law_1149 : decode cL_law 1149 = .ok (.iload_n 3, 1) := p_29 ndL_17 (by decide +kernel)
theorem dL_law_1150 : decode cL_law 1150 = .ok (.iconst 2, 1) := p_5 ndL_17 (by decide +kernel)
theorem dL_law_1151 : decode cL_law 1151 = .ok (.iadd, 1) := p_96 ndL_17 (by decide +kernel)
def nkL_18 : List Nat := [46, 182, 0, 120, 88, 44, 42, 29, 4, 96, 46, 42, 29, 5, 96, 46, 182, 0, 123, 88, 167, 4, 127, 43, 42, 29, 4, 96, 46, 42, 29, 5, 96, 46, 42, 29, 6, 96, 46, 182, 0, 124, 88, 44, 42, 29, 4, 96, 46, 42, 29, 5, 96, 46, 42, 29, 6, 96, 46, 182, 0, 127, 88, 167, 4, 84]
theorem ndL_18 : ((cL_law.data.toList.drop 1152).take 66).map UInt8.toNat = nkL_18 := by decide +kernel
theorem dL_law_1152 : decode cL_law 1152 = .ok (.iaload, 1) := p_46 ndL_18 (by decide +kernel)
theorem dL_law_1153 : decode cL_law 1153 = .ok (.invokevirtual 120, 3) := p_182 ndL_18 (by decide +kernel)
theorem dL_law_1156 : decode cL_law 1156 = .ok (.pop2, 1) := p_88 ndL_18 (by decide +kernel)
theorem dL_law_1157 : decode cL_law 1157 = .ok (.aload_n 2, 1) := p_44 ndL_18 (by decide +kernel)
theorem dL_law_1158 : decode cL_law 1158 = .ok (.aload_n 0, 1) := p_42 ndL_18 (by decide +kernel)
theorem dL_law_1159 : decode cL_law 1159 = .ok (.iload_n 3, 1) := p_29 ndL_18 (by decide +kernel)
theorem dL_law_1160 : decode cL_law 1160 = .ok (.iconst 1, 1) := p_4 ndL_18 (by decide +kernel)
theorem dL_law_1161 : decode cL_law 1161 = .ok (.iadd, 1) := p_96 ndL_18 (by decide +kernel)
theorem dL_law_1162 : decode cL_law 1162 = .ok (.iaload, 1) := p_46 ndL_18 (by decide +kernel)
theorem dL_law_1163 : decode cL_law 1163 = .ok (.aload_n 0, 1) := p_42 ndL_18 (by decide +kernel)
theorem dL_law_1164 : decode cL_law 1164 = .ok (.iload_n 3, 1) := p_29 ndL_18 (by decide +kernel)
theorem dL_law_1165 : decode cL_law 1165 = .ok (.iconst 2, 1) := p_5 ndL_18 (by decide +kernel)
theorem dL_law_1166 : decode cL_law 1166 = .ok (.iadd, 1) := p_96 ndL_18 (by decide +kernel)
theorem dL_law_1167 : decode cL_law 1167 = .ok (.iaload, 1) := p_46 ndL_18 (by decide +kernel)
theorem dL_law_1168 : decode cL_law 1168 = .ok (.invokevirtual 123, 3) := p_182 ndL_18 (by decide +kernel)
theorem dL_law_1171 : decode cL_law 1171 = .ok (.pop2, 1) := p_88 ndL_18 (by decide +kernel)
theorem dL_law_1172 : decode cL_law 1172 = .ok (.goto 1151, 3) := p_167 ndL_18 1151 (by decide +kernel) (by decide +kernel)
theorem dL_law_1175 : decode cL_law 1175 = .ok (.aload_n 1, 1) := p_43 ndL_18 (by decide +kernel)
theorem dL_law_1176 : decode cL_law 1176 = .ok (.aload_n 0, 1) := p_42 ndL_18 (by decide +kernel)
theorem dL_law_1177 : decode cL_law 1177 = .ok (.iload_n 3, 1) := p_29 ndL_18 (by decide +kernel)
theorem dL_law_1178 : decode cL_law 1178 = .ok (.iconst 1, 1) := p_4 ndL_18 (by decide +kernel)
theorem dL_law_1179 : decode cL_law 1179 = .ok (.iadd, 1) := p_96 ndL_18 (by decide +kernel)
theorem dL_law_1180 : decode cL_law 1180 = .ok (.iaload, 1) := p_46 ndL_18 (by decide +kernel)
theorem dL_law_1181 : decode cL_law 1181 = .ok (.aload_n 0, 1) := p_42 ndL_18 (by decide +kernel)
theorem dL_law_1182 : decode cL_law 1182 = .ok (.iload_n 3, 1) := p_29 ndL_18 (by decide +kernel)
theorem dL_law_1183 : decode cL_law 1183 = .ok (.iconst 2, 1) := p_5 ndL_18 (by decide +kernel)
theorem dL_law_1184 : decode cL_law 1184 = .ok (.iadd, 1) := p_96 ndL_18 (by decide +kernel)
theorem dL_law_1185 : decode cL_law 1185 = .ok (.iaload, 1) := p_46 ndL_18 (by decide +kernel)
theorem dL_law_1186 : decode cL_law 1186 = .ok (.aload_n 0, 1) := p_42 ndL_18 (by decide +kernel)
theorem dL_law_1187 : decode cL_law 1187 = .ok (.iload_n 3, 1) := p_29 ndL_18 (by decide +kernel)
theorem dL_law_1188 : decode cL_law 1188 = .ok (.iconst 3, 1) := p_6 ndL_18 (by decide +kernel)
theorem dL_law_1189 : decode cL_law 1189 = .ok (.iadd, 1) := p_96 ndL_18 (by decide +kernel)
theorem dL_law_1190 : decode cL_law 1190 = .ok (.iaload, 1) := p_46 ndL_18 (by decide +kernel)
theorem dL_law_1191 : decode cL_law 1191 = .ok (.invokevirtual 124, 3) := p_182 ndL_18 (by decide +kernel)
theorem dL_law_1194 : decode cL_law 1194 = .ok (.pop2, 1) := p_88 ndL_18 (by decide +kernel)
theorem dL_law_1195 : decode cL_law 1195 = .ok (.aload_n 2, 1) := p_44 ndL_18 (by decide +kernel)
theorem dL_law_1196 : decode cL_law 1196 = .ok (.aload_n 0, 1) := p_42 ndL_18 (by decide +kernel)
theorem dL_law_1197 : decode cL_law 1197 = .ok (.iload_n 3, 1) := p_29 ndL_18 (by decide +kernel)
theorem dL_law_1198 : decode cL_law 1198 = .ok (.iconst 1, 1) := p_4 ndL_18 (by decide +kernel)
theorem dL_law_1199 : decode cL_law 1199 = .ok (.iadd, 1) := p_96 ndL_18 (by decide +kernel)
theorem dL_law_1200 : decode cL_law 1200 = .ok (.iaload, 1) := p_46 ndL_18 (by decide +kernel)
theorem dL_law_1201 : decode cL_law 1201 = .ok (.aload_n 0, 1) := p_42 ndL_18 (by decide +kernel)
theorem dL_law_1202 : decode cL_law 1202 = .ok (.iload_n 3, 1) := p_29 ndL_18 (by decide +kernel)
theorem dL_law_1203 : decode cL_law 1203 = .ok (.iconst 2, 1) := p_5 ndL_18 (by decide +kernel)
theorem dL_law_1204 : decode cL_law 1204 = .ok (.iadd, 1) := p_96 ndL_18 (by decide +kernel)
theorem dL_law_1205 : decode cL_law 1205 = .ok (.iaload, 1) := p_46 ndL_18 (by decide +kernel)
theorem dL_law_1206 : decode cL_law 1206 = .ok (.aload_n 0, 1) := p_42 ndL_18 (by decide +kernel)
theorem dL_law_1207 : decode cL_law 1207 = .ok (.iload_n 3, 1) := p_29 ndL_18 (by decide +kernel)
theorem dL_law_1208 : decode cL_law 1208 = .ok (.iconst 3, 1) := p_6 ndL_18 (by decide +kernel)
theorem dL_law_1209 : decode cL_law 1209 = .ok (.iadd, 1) := p_96 ndL_18 (by decide +kernel)
theorem dL_law_1210 : decode cL_law 1210 = .ok (.iaload, 1) := p_46 ndL_18 (by decide +kernel)
theorem dL_law_1211 : decode cL_law 1211 = .ok (.invokevirtual 127, 3) := p_182 ndL_18 (by decide +kernel)
theorem dL_law_1214 : decode cL_law 1214 = .ok (.pop2, 1) := p_88 ndL_18 (by decide +kernel)
theorem dL_law_1215 : decode cL_law 1215 = .ok (.goto 1108, 3) := p_167 ndL_18 1108 (by decide +kernel) (by decide +kernel)
def nkL_19 : List Nat := [4, 84, 43, 42, 29, 4, 96, 46, 42, 29, 5, 96, 46, 182, 0, 128, 88, 44, 42, 29, 4, 96, 46, 42, 29, 5, 96, 46, 182, 0, 131, 88, 167, 4, 51, 43, 42, 29, 4, 96, 46, 42, 29, 5, 96, 46, 182, 0, 132, 87, 44, 42, 29, 4, 96, 46, 42, 29, 5, 96, 46, 182, 0, 135, 87, 167]
theorem ndL_19 : ((cL_law.data.toList.drop 1216).take 66).map UInt8.toNat = nkL_19 := by decide +kernel
theorem dL_law_1218 : decode cL_law 1218 = .ok (.aload_n 1, 1) := p_43 ndL_19 (by decide +kernel)
theorem dL_law_1219 : decode cL_law 1219 = .ok (.aload_n 0, 1) := p_42 ndL_19 (by decide +kernel)
theorem dL_law_1220 : decode cL_law 1220 = .ok (.iload_n 3, 1) := p_29 ndL_19 (by decide +kernel)
theorem dL_law_1221 : decode cL_law 1221 = .ok (.iconst 1, 1) := p_4 ndL_19 (by decide +kernel)
theorem dL_law_1222 : decode cL_law 1222 = .ok (.iadd, 1) := p_96 ndL_19 (by decide +kernel)
theorem dL_law_1223 : decode cL_law 1223 = .ok (.iaload, 1) := p_46 ndL_19 (by decide +kernel)
theorem dL_law_1224 : decode cL_law 1224 = .ok (.aload_n 0, 1) := p_42 ndL_19 (by decide +kernel)
theorem dL_law_1225 : decode cL_law 1225 = .ok (.iload_n 3, 1) := p_29 ndL_19 (by decide +kernel)
theorem dL_law_1226 : decode cL_law 1226 = .ok (.iconst 2, 1) := p_5 ndL_19 (by decide +kernel)
theorem dL_law_1227 : decode cL_law 1227 = .ok (.iadd, 1) := p_96 ndL_19 (by decide +kernel)
theorem dL_law_1228 : decode cL_law 1228 = .ok (.iaload, 1) := p_46 ndL_19 (by decide +kernel)
theorem dL_law_1229 : decode cL_law 1229 = .ok (.invokevirtual 128, 3) := p_182 ndL_19 (by decide +kernel)
theorem dL_law_1232 : decode cL_law 1232 = .ok (.pop2, 1) := p_88 ndL_19 (by decide +kernel)
theorem dL_law_1233 : decode cL_law 1233 = .ok (.aload_n 2, 1) := p_44 ndL_19 (by decide +kernel)
theorem dL_law_1234 : decode cL_law 1234 = .ok (.aload_n 0, 1) := p_42 ndL_19 (by decide +kernel)
theorem dL_law_1235 : decode cL_law 1235 = .ok (.iload_n 3, 1) := p_29 ndL_19 (by decide +kernel)
theorem dL_law_1236 : decode cL_law 1236 = .ok (.iconst 1, 1) := p_4 ndL_19 (by decide +kernel)
theorem dL_law_1237 : decode cL_law 1237 = .ok (.iadd, 1) := p_96 ndL_19 (by decide +kernel)
theorem dL_law_1238 : decode cL_law 1238 = .ok (.iaload, 1) := p_46 ndL_19 (by decide +kernel)
theorem dL_law_1239 : decode cL_law 1239 = .ok (.aload_n 0, 1) := p_42 ndL_19 (by decide +kernel)
theorem dL_law_1240 : decode cL_law 1240 = .ok (.iload_n 3, 1) := p_29 ndL_19 (by decide +kernel)
theorem dL_law_1241 : decode cL_law 1241 = .ok (.iconst 2, 1) := p_5 ndL_19 (by decide +kernel)
theorem dL_law_1242 : decode cL_law 1242 = .ok (.iadd, 1) := p_96 ndL_19 (by decide +kernel)
theorem dL_law_1243 : decode cL_law 1243 = .ok (.iaload, 1) := p_46 ndL_19 (by decide +kernel)
theorem dL_law_1244 : decode cL_law 1244 = .ok (.invokevirtual 131, 3) := p_182 ndL_19 (by decide +kernel)
theorem dL_law_1247 : decode cL_law 1247 = .ok (.pop2, 1) := p_88 ndL_19 (by decide +kernel)
theorem dL_law_1248 : decode cL_law 1248 = .ok (.goto 1075, 3) := p_167 ndL_19 1075 (by decide +kernel) (by decide +kernel)
theorem dL_law_1251 : decode cL_law 1251 = .ok (.aload_n 1, 1) := p_43 ndL_19 (by decide +kernel)
theorem dL_law_1252 : decode cL_law 1252 = .ok (.aload_n 0, 1) := p_42 ndL_19 (by decide +kernel)
theorem dL_law_1253 : decode cL_law 1253 = .ok (.iload_n 3, 1) := p_29 ndL_19 (by decide +kernel)
theorem dL_law_1254 : decode cL_law 1254 = .ok (.iconst 1, 1) := p_4 ndL_19 (by decide +kernel)
theorem dL_law_1255 : decode cL_law 1255 = .ok (.iadd, 1) := p_96 ndL_19 (by decide +kernel)
theorem dL_law_1256 : decode cL_law 1256 = .ok (.iaload, 1) := p_46 ndL_19 (by decide +kernel)
theorem dL_law_1257 : decode cL_law 1257 = .ok (.aload_n 0, 1) := p_42 ndL_19 (by decide +kernel)
theorem dL_law_1258 : decode cL_law 1258 = .ok (.iload_n 3, 1) := p_29 ndL_19 (by decide +kernel)
theorem dL_law_1259 : decode cL_law 1259 = .ok (.iconst 2, 1) := p_5 ndL_19 (by decide +kernel)
theorem dL_law_1260 : decode cL_law 1260 = .ok (.iadd, 1) := p_96 ndL_19 (by decide +kernel)
theorem dL_law_1261 : decode cL_law 1261 = .ok (.iaload, 1) := p_46 ndL_19 (by decide +kernel)
theorem dL_law_1262 : decode cL_law 1262 = .ok (.invokevirtual 132, 3) := p_182 ndL_19 (by decide +kernel)
theorem dL_law_1265 : decode cL_law 1265 = .ok (.pop, 1) := p_87 ndL_19 (by decide +kernel)
theorem dL_law_1266 : decode cL_law 1266 = .ok (.aload_n 2, 1) := p_44 ndL_19 (by decide +kernel)
theorem dL_law_1267 : decode cL_law 1267 = .ok (.aload_n 0, 1) := p_42 ndL_19 (by decide +kernel)
theorem dL_law_1268 : decode cL_law 1268 = .ok (.iload_n 3, 1) := p_29 ndL_19 (by decide +kernel)
theorem dL_law_1269 : decode cL_law 1269 = .ok (.iconst 1, 1) := p_4 ndL_19 (by decide +kernel)
theorem dL_law_1270 : decode cL_law 1270 = .ok (.iadd, 1) := p_96 ndL_19 (by decide +kernel)
theorem dL_law_1271 : decode cL_law 1271 = .ok (.iaload, 1) := p_46 ndL_19 (by decide +kernel)
theorem dL_law_1272 : decode cL_law 1272 = .ok (.aload_n 0, 1) := p_42 ndL_19 (by decide +kernel)
theorem dL_law_1273 : decode cL_law 1273 = .ok (.iload_n 3, 1) := p_29 ndL_19 (by decide +kernel)
theorem dL_law_1274 : decode cL_law 1274 = .ok (.iconst 2, 1) := p_5 ndL_19 (by decide +kernel)
theorem dL_law_1275 : decode cL_law 1275 = .ok (.iadd, 1) := p_96 ndL_19 (by decide +kernel)
theorem dL_law_1276 : decode cL_law 1276 = .ok (.iaload, 1) := p_46 ndL_19 (by decide +kernel)
theorem dL_law_1277 : decode cL_law 1277 = .ok (.invokevirtual 135, 3) := p_182 ndL_19 (by decide +kernel)
def nkL_20 : List Nat := [87, 167, 4, 18, 43, 42, 29, 4, 96, 46, 42, 29, 5, 96, 46, 42, 29, 6, 96, 46, 153, 0, 7, 4, 167, 0, 4, 3, 182, 0, 136, 87, 44, 42, 29, 4, 96, 46, 42, 29, 5, 96, 46, 42, 29, 6, 96, 46, 153, 0, 7, 4, 167, 0, 4, 3, 182, 0, 140, 87, 167, 3, 215, 43, 42, 29]
theorem ndL_20 : ((cL_law.data.toList.drop 1280).take 66).map UInt8.toNat = nkL_20 := by decide +kernel
theorem dL_law_1280 : decode cL_law 1280 = .ok (.pop, 1) := p_87 ndL_20 (by decide +kernel)
theorem dL_law_1281 : decode cL_law 1281 = .ok (.goto 1042, 3) := p_167 ndL_20 1042 (by decide +kernel) (by decide +kernel)
theorem dL_law_1284 : decode cL_law 1284 = .ok (.aload_n 1, 1) := p_43 ndL_20 (by decide +kernel)
theorem dL_law_1285 : decode cL_law 1285 = .ok (.aload_n 0, 1) := p_42 ndL_20 (by decide +kernel)
theorem dL_law_1286 : decode cL_law 1286 = .ok (.iload_n 3, 1) := p_29 ndL_20 (by decide +kernel)
theorem dL_law_1287 : decode cL_law 1287 = .ok (.iconst 1, 1) := p_4 ndL_20 (by decide +kernel)
theorem dL_law_1288 : decode cL_law 1288 = .ok (.iadd, 1) := p_96 ndL_20 (by decide +kernel)
theorem dL_law_1289 : decode cL_law 1289 = .ok (.iaload, 1) := p_46 ndL_20 (by decide +kernel)
theorem dL_law_1290 : decode cL_law 1290 = .ok (.aload_n 0, 1) := p_42 ndL_20 (by decide +kernel)
theorem dL_law_1291 : decode cL_law 1291 = .ok (.iload_n 3, 1) := p_29 ndL_20 (by decide +kernel)
theorem dL_law_1292 : decode cL_law 1292 = .ok (.iconst 2, 1) := p_5 ndL_20 (by decide +kernel)
theorem dL_law_1293 : decode cL_law 1293 = .ok (.iadd, 1) := p_96 ndL_20 (by decide +kernel)
theorem dL_law_1294 : decode cL_law 1294 = .ok (.iaload, 1) := p_46 ndL_20 (by decide +kernel)
theorem dL_law_1295 : decode cL_law 1295 = .ok (.aload_n 0, 1) := p_42 ndL_20 (by decide +kernel)
theorem dL_law_1296 : decode cL_law 1296 = .ok (.iload_n 3, 1) := p_29 ndL_20 (by decide +kernel)
theorem dL_law_1297 : decode cL_law 1297 = .ok (.iconst 3, 1) := p_6 ndL_20 (by decide +kernel)
theorem dL_law_1298 : decode cL_law 1298 = .ok (.iadd, 1) := p_96 ndL_20 (by decide +kernel)
theorem dL_law_1299 : decode cL_law 1299 = .ok (.iaload, 1) := p_46 ndL_20 (by decide +kernel)
theorem dL_law_1300 : decode cL_law 1300 = .ok (.ifCond .eq 7, 3) := p_153 ndL_20 7 (by decide +kernel) (by decide +kernel)
theorem dL_law_1303 : decode cL_law 1303 = .ok (.iconst 1, 1) := p_4 ndL_20 (by decide +kernel)
theorem dL_law_1304 : decode cL_law 1304 = .ok (.goto 4, 3) := p_167 ndL_20 4 (by decide +kernel) (by decide +kernel)
theorem dL_law_1307 : decode cL_law 1307 = .ok (.iconst 0, 1) := p_3 ndL_20 (by decide +kernel)
theorem dL_law_1308 : decode cL_law 1308 = .ok (.invokevirtual 136, 3) := p_182 ndL_20 (by decide +kernel)
theorem dL_law_1311 : decode cL_law 1311 = .ok (.pop, 1) := p_87 ndL_20 (by decide +kernel)
theorem dL_law_1312 : decode cL_law 1312 = .ok (.aload_n 2, 1) := p_44 ndL_20 (by decide +kernel)
theorem dL_law_1313 : decode cL_law 1313 = .ok (.aload_n 0, 1) := p_42 ndL_20 (by decide +kernel)
theorem dL_law_1314 : decode cL_law 1314 = .ok (.iload_n 3, 1) := p_29 ndL_20 (by decide +kernel)
theorem dL_law_1315 : decode cL_law 1315 = .ok (.iconst 1, 1) := p_4 ndL_20 (by decide +kernel)
theorem dL_law_1316 : decode cL_law 1316 = .ok (.iadd, 1) := p_96 ndL_20 (by decide +kernel)
theorem dL_law_1317 : decode cL_law 1317 = .ok (.iaload, 1) := p_46 ndL_20 (by decide +kernel)
theorem dL_law_1318 : decode cL_law 1318 = .ok (.aload_n 0, 1) := p_42 ndL_20 (by decide +kernel)
theorem dL_law_1319 : decode cL_law 1319 = .ok (.iload_n 3, 1) := p_29 ndL_20 (by decide +kernel)
theorem dL_law_1320 : decode cL_law 1320 = .ok (.iconst 2, 1) := p_5 ndL_20 (by decide +kernel)
theorem dL_law_1321 : decode cL_law 1321 = .ok (.iadd, 1) := p_96 ndL_20 (by decide +kernel)
theorem dL_law_1322 : decode cL_law 1322 = .ok (.iaload, 1) := p_46 ndL_20 (by decide +kernel)
theorem dL_law_1323 : decode cL_law 1323 = .ok (.aload_n 0, 1) := p_42 ndL_20 (by decide +kernel)
end
section
theorem dL_law_1324 : decode cL_law 1324 = .ok (.iload_n 3, 1) := p_29 ndL_20 (by decide +kernel)
theorem dL_law_1325 : decode cL_law 1325 = .ok (.iconst 3, 1) := p_6 ndL_20 (by decide +kernel)
theorem dL_law_1326 : decode cL_law 1326 = .ok (.iadd, 1) := p_96 ndL_20 (by decide +kernel)
theorem dL_law_1327 : decode cL_law 1327 = .ok (.iaload, 1) := p_46 ndL_20 (by decide +kernel)
theorem dL_law_1328 : decode cL_law 1328 = .ok (.ifCond .eq 7, 3) := p_153 ndL_20 7 (by decide +kernel) (by decide +kernel)
theorem dL_law_1331 : decode cL_law 1331 = .ok (.iconst 1, 1) := p_4 ndL_20 (by decide +kernel)
theorem dL_law_1332 : decode cL_law 1332 = .ok (.goto 4, 3) := p_167 ndL_20 4 (by decide +kernel) (by decide +kernel)
theorem dL_law_1335 : decode cL_law 1335 = .ok (.iconst 0, 1) := p_3 ndL_20 (by decide +kernel)
theorem dL_law_1336 : decode cL_law 1336 = .ok (.invokevirtual 140, 3) := p_182 ndL_20 (by decide +kernel)
theorem dL_law_1339 : decode cL_law 1339 = .ok (.pop, 1) := p_87 ndL_20 (by decide +kernel)
theorem dL_law_1340 : decode cL_law 1340 = .ok (.goto 983, 3) := p_167 ndL_20 983 (by decide +kernel) (by decide +kernel)
theorem dL_law_1343 : decode cL_law 1343 = .ok (.aload_n 1, 1) := p_43 ndL_20 (by decide +kernel)
def nkL_21 : List Nat := [42, 29, 4, 96, 46, 182, 0, 141, 88, 44, 42, 29, 4, 96, 46, 182, 0, 144, 88, 167, 3, 192, 43, 42, 29, 4, 96, 46, 42, 29, 5, 96, 46, 133, 16, 32, 121, 42, 29, 6, 96, 46, 133, 20, 0, 145, 127, 129, 182, 0, 147, 87, 44, 42, 29, 4, 96, 46, 42, 29, 5, 96, 46, 133, 16, 32]
theorem ndL_21 : ((cL_law.data.toList.drop 1344).take 66).map UInt8.toNat = nkL_21 := by decide +kernel
theorem dL_law_1344 : decode cL_law 1344 = .ok (.aload_n 0, 1) := p_42 ndL_21 (by decide +kernel)
theorem dL_law_1345 : decode cL_law 1345 = .ok (.iload_n 3, 1) := p_29 ndL_21 (by decide +kernel)
theorem dL_law_1346 : decode cL_law 1346 = .ok (.iconst 1, 1) := p_4 ndL_21 (by decide +kernel)
theorem dL_law_1347 : decode cL_law 1347 = .ok (.iadd, 1) := p_96 ndL_21 (by decide +kernel)
theorem dL_law_1348 : decode cL_law 1348 = .ok (.iaload, 1) := p_46 ndL_21 (by decide +kernel)
theorem dL_law_1349 : decode cL_law 1349 = .ok (.invokevirtual 141, 3) := p_182 ndL_21 (by decide +kernel)
theorem dL_law_1352 : decode cL_law 1352 = .ok (.pop2, 1) := p_88 ndL_21 (by decide +kernel)
theorem dL_law_1353 : decode cL_law 1353 = .ok (.aload_n 2, 1) := p_44 ndL_21 (by decide +kernel)
theorem dL_law_1354 : decode cL_law 1354 = .ok (.aload_n 0, 1) := p_42 ndL_21 (by decide +kernel)
theorem dL_law_1355 : decode cL_law 1355 = .ok (.iload_n 3, 1) := p_29 ndL_21 (by decide +kernel)
theorem dL_law_1356 : decode cL_law 1356 = .ok (.iconst 1, 1) := p_4 ndL_21 (by decide +kernel)
theorem dL_law_1357 : decode cL_law 1357 = .ok (.iadd, 1) := p_96 ndL_21 (by decide +kernel)
theorem dL_law_1358 : decode cL_law 1358 = .ok (.iaload, 1) := p_46 ndL_21 (by decide +kernel)
theorem dL_law_1359 : decode cL_law 1359 = .ok (.invokevirtual 144, 3) := p_182 ndL_21 (by decide +kernel)
theorem dL_law_1362 : decode cL_law 1362 = .ok (.pop2, 1) := p_88 ndL_21 (by decide +kernel)
theorem dL_law_1363 : decode cL_law 1363 = .ok (.goto 960, 3) := p_167 ndL_21 960 (by decide +kernel) (by decide +kernel)
theorem dL_law_1366 : decode cL_law 1366 = .ok (.aload_n 1, 1) := p_43 ndL_21 (by decide +kernel)
theorem dL_law_1367 : decode cL_law 1367 = .ok (.aload_n 0, 1) := p_42 ndL_21 (by decide +kernel)
theorem dL_law_1368 : decode cL_law 1368 = .ok (.iload_n 3, 1) := p_29 ndL_21 (by decide +kernel)
theorem dL_law_1369 : decode cL_law 1369 = .ok (.iconst 1, 1) := p_4 ndL_21 (by decide +kernel)
theorem dL_law_1370 : decode cL_law 1370 = .ok (.iadd, 1) := p_96 ndL_21 (by decide +kernel)
theorem dL_law_1371 : decode cL_law 1371 = .ok (.iaload, 1) := p_46 ndL_21 (by decide +kernel)
theorem dL_law_1372 : decode cL_law 1372 = .ok (.aload_n 0, 1) := p_42 ndL_21 (by decide +kernel)
theorem dL_law_1373 : decode cL_law 1373 = .ok (.iload_n 3, 1) := p_29 ndL_21 (by decide +kernel)
theorem dL_law_1374 : decode cL_law 1374 = .ok (.iconst 2, 1) := p_5 ndL_21 (by decide +kernel)
theorem dL_law_1375 : decode cL_law 1375 = .ok (.iadd, 1) := p_96 ndL_21 (by decide +kernel)
theorem dL_law_1376 : decode cL_law 1376 = .ok (.iaload, 1) := p_46 ndL_21 (by decide +kernel)
theorem dL_law_1377 : decode cL_law 1377 = .ok (.i2l, 1) := p_133 ndL_21 (by decide +kernel)
theorem dL_law_1378 : decode cL_law 1378 = .ok (.bipush 32, 2) := p_16 ndL_21 32 (by decide +kernel) (by decide +kernel)
theorem dL_law_1380 : decode cL_law 1380 = .ok (.lshl, 1) := p_121 ndL_21 (by decide +kernel)
theorem dL_law_1381 : decode cL_law 1381 = .ok (.aload_n 0, 1) := p_42 ndL_21 (by decide +kernel)
theorem dL_law_1382 : decode cL_law 1382 = .ok (.iload_n 3, 1) := p_29 ndL_21 (by decide +kernel)
theorem dL_law_1383 : decode cL_law 1383 = .ok (.iconst 3, 1) := p_6 ndL_21 (by decide +kernel)
theorem dL_law_1384 : decode cL_law 1384 = .ok (.iadd, 1) := p_96 ndL_21 (by decide +kernel)
theorem dL_law_1385 : decode cL_law 1385 = .ok (.iaload, 1) := p_46 ndL_21 (by decide +kernel)
theorem dL_law_1386 : decode cL_law 1386 = .ok (.i2l, 1) := p_133 ndL_21 (by decide +kernel)
theorem dL_law_1387 : decode cL_law 1387 = .ok (.ldc2_w 145, 3) := p_20 ndL_21 (by decide +kernel)
theorem dL_law_1390 : decode cL_law 1390 = .ok (.land, 1) := p_127 ndL_21 (by decide +kernel)
theorem dL_law_1391 : decode cL_law 1391 = .ok (.lor, 1) := p_129 ndL_21 (by decide +kernel)
theorem dL_law_1392 : decode cL_law 1392 = .ok (.invokevirtual 147, 3) := p_182 ndL_21 (by decide +kernel)
theorem dL_law_1395 : decode cL_law 1395 = .ok (.pop, 1) := p_87 ndL_21 (by decide +kernel)
theorem dL_law_1396 : decode cL_law 1396 = .ok (.aload_n 2, 1) := p_44 ndL_21 (by decide +kernel)
theorem dL_law_1397 : decode cL_law 1397 = .ok (.aload_n 0, 1) := p_42 ndL_21 (by decide +kernel)
theorem dL_law_1398 : decode cL_law 1398 = .ok (.iload_n 3, 1) := p_29 ndL_21 (by decide +kernel)
theorem dL_law_1399 : decode cL_law 1399 = .ok (.iconst 1, 1) := p_4 ndL_21 (by decide +kernel)
theorem dL_law_1400 : decode cL_law 1400 = .ok (.iadd, 1) := p_96 ndL_21 (by decide +kernel)
theorem dL_law_1401 : decode cL_law 1401 = .ok (.iaload, 1) := p_46 ndL_21 (by decide +kernel)
theorem dL_law_1402 : decode cL_law 1402 = .ok (.aload_n 0, 1) := p_42 ndL_21 (by decide +kernel)
theorem dL_law_1403 : decode cL_law 1403 = .ok (.iload_n 3, 1) := p_29 ndL_21 (by decide +kernel)
theorem dL_law_1404 : decode cL_law 1404 = .ok (.iconst 2, 1) := p_5 ndL_21 (by decide +kernel)
theorem dL_law_1405 : decode cL_law 1405 = .ok (.iadd, 1) := p_96 ndL_21 (by decide +kernel)
theorem dL_law_1406 : decode cL_law 1406 = .ok (.iaload, 1) := p_46 ndL_21 (by decide +kernel)
theorem dL_law_1407 : decode cL_law 1407 = .ok (.i2l, 1) := p_133 ndL_21 (by decide +kernel)
def nkL_22 : List Nat := [16, 32, 121, 42, 29, 6, 96, 46, 133, 20, 0, 145, 127, 129, 182, 0, 151, 87, 167, 3, 129, 43, 42, 29, 4, 96, 46, 42, 29, 5, 96, 46, 133, 16, 32, 121, 42, 29, 6, 96, 46, 133, 20, 0, 145, 127, 129, 182, 0, 152, 87, 44, 42, 29, 4, 96, 46, 42, 29, 5, 96, 46, 133, 16, 32, 121]
theorem ndL_22 : ((cL_law.data.toList.drop 1408).take 66).map UInt8.toNat = nkL_22 := by decide +kernel
theorem dL_law_1408 : decode cL_law 1408 = .ok (.bipush 32, 2) := p_16 ndL_22 32 (by decide +kernel) (by decide +kernel)
theorem dL_law_1410 : decode cL_law 1410 = .ok (.lshl, 1) := p_121 ndL_22 (by decide +kernel)
theorem dL_law_1411 : decode cL_law 1411 = .ok (.aload_n 0, 1) := p_42 ndL_22 (by decide +kernel)
theorem dL_law_1412 : decode cL_law 1412 = .ok (.iload_n 3, 1) := p_29 ndL_22 (by decide +kernel)
theorem dL_law_1413 : decode cL_law 1413 = .ok (.iconst 3, 1) := p_6 ndL_22 (by decide +kernel)
theorem dL_law_1414 : decode cL_law 1414 = .ok (.iadd, 1) := p_96 ndL_22 (by decide +kernel)
theorem dL_law_1415 : decode cL_law 1415 = .ok (.iaload, 1) := p_46 ndL_22 (by decide +kernel)
theorem dL_law_1416 : decode cL_law 1416 = .ok (.i2l, 1) := p_133 ndL_22 (by decide +kernel)
theorem dL_law_1417 : decode cL_law 1417 = .ok (.ldc2_w 145, 3) := p_20 ndL_22 (by decide +kernel)
theorem dL_law_1420 : decode cL_law 1420 = .ok (.land, 1) := p_127 ndL_22 (by decide +kernel)
theorem dL_law_1421 : decode cL_law 1421 = .ok (.lor, 1) := p_129 ndL_22 (by decide +kernel)
theorem dL_law_1422 : decode cL_law 1422 = .ok (.invokevirtual 151, 3) := p_182 ndL_22 (by decide +kernel)
theorem dL_law_1425 : decode cL_law 1425 = .ok (.pop, 1) := p_87 ndL_22 (by decide +kernel)
theorem dL_law_1426 : decode cL_law 1426 = .ok (.goto 897, 3) := p_167 ndL_22 897 (by decide +kernel) (by decide +kernel)
theorem dL_law_1429 : decode cL_law 1429 = .ok (.aload_n 1, 1) := p_43 ndL_22 (by decide +kernel)
theorem dL_law_1430 : decode cL_law 1430 = .ok (.aload_n 0, 1) := p_42 ndL_22 (by decide +kernel)
theorem dL_law_1431 : decode cL_law 1431 = .ok (.iload_n 3, 1) := p_29 ndL_22 (by decide +kernel)
theorem dL_law_1432 : decode cL_law 1432 = .ok (.iconst 1, 1) := p_4 ndL_22 (by decide +kernel)
theorem dL_law_1433 : decode cL_law 1433 = .ok (.iadd, 1) := p_96 ndL_22 (by decide +kernel)
theorem dL_law_1434 : decode cL_law 1434 = .ok (.iaload, 1) := p_46 ndL_22 (by decide +kernel)
theorem dL_law_1435 : decode cL_law 1435 = .ok (.aload_n 0, 1) := p_42 ndL_22 (by decide +kernel)
theorem dL_law_1436 : decode cL_law 1436 = .ok (.iload_n 3, 1) := p_29 ndL_22 (by decide +kernel)
theorem dL_law_1437 : decode cL_law 1437 = .ok (.iconst 2, 1) := p_5 ndL_22 (by decide +kernel)
theorem dL_law_1438 : decode cL_law 1438 = .ok (.iadd, 1) := p_96 ndL_22 (by decide +kernel)
theorem dL_law_1439 : decode cL_law 1439 = .ok (.iaload, 1) := p_46 ndL_22 (by decide +kernel)
theorem dL_law_1440 : decode cL_law 1440 = .ok (.i2l, 1) := p_133 ndL_22 (by decide +kernel)
theorem dL_law_1441 : decode cL_law 1441 = .ok (.bipush 32, 2) := p_16 ndL_22 32 (by decide +kernel) (by decide +kernel)
theorem dL_law_1443 : decode cL_law 1443 = .ok (.lshl, 1) := p_121 ndL_22 (by decide +kernel)
theorem dL_law_1444 : decode cL_law 1444 = .ok (.aload_n 0, 1) := p_42 ndL_22 (by decide +kernel)
theorem dL_law_1445 : decode cL_law 1445 = .ok (.iload_n 3, 1) := p_29 ndL_22 (by decide +kernel)
theorem dL_law_1446 : decode cL_law 1446 = .ok (.iconst 3, 1) := p_6 ndL_22 (by decide +kernel)
theorem dL_law_1447 : decode cL_law 1447 = .ok (.iadd, 1) := p_96 ndL_22 (by decide +kernel)
theorem dL_law_1448 : decode cL_law 1448 = .ok (.iaload, 1) := p_46 ndL_22 (by decide +kernel)
theorem dL_law_1449 : decode cL_law 1449 = .ok (.i2l, 1) := p_133 ndL_22 (by decide +kernel)
theorem dL_law_1450 : decode cL_law 1450 = .ok (.ldc2_w 145, 3) := p_20 ndL_22 (by decide +kernel)
theorem dL_law_1453 : decode cL_law 1453 = .ok (.land, 1) := p_127 ndL_22 (by decide +kernel)
theorem dL_law_1454 : decode cL_law 1454 = .ok (.lor, 1) := p_129 ndL_22 (by decide +kernel)
theorem dL_law_1455 : decode cL_law 1455 = .ok (.invokevirtual 152, 3) := p_182 ndL_22 (by decide +kernel)
theorem dL_law_1458 : decode cL_law 1458 = .ok (.pop, 1) := p_87 ndL_22 (by decide +kernel)
theorem dL_law_1459 : decode cL_law 1459 = .ok (.aload_n 2, 1) := p_44 ndL_22 (by decide +kernel)
theorem dL_law_1460 : decode cL_law 1460 = .ok (.aload_n 0, 1) := p_42 ndL_22 (by decide +kernel)
theorem dL_law_1461 : decode cL_law 1461 = .ok (.iload_n 3, 1) := p_29 ndL_22 (by decide +kernel)
theorem dL_law_1462 : decode cL_law 1462 = .ok (.iconst 1, 1) := p_4 ndL_22 (by decide +kernel)
theorem dL_law_1463 : decode cL_law 1463 = .ok (.iadd, 1) := p_96 ndL_22 (by decide +kernel)
theorem dL_law_1464 : decode cL_law 1464 = .ok (.iaload, 1) := p_46 ndL_22 (by decide +kernel)
theorem dL_law_1465 : decode cL_law 1465 = .ok (.aload_n 0, 1) := p_42 ndL_22 (by decide +kernel)
theorem dL_law_1466 : decode cL_law 1466 = .ok (.iload_n 3, 1) := p_29 ndL_22 (by decide +kernel)
theorem dL_law_1467 : decode cL_law 1467 = .ok (.iconst 2, 1) := p_5 ndL_22 (by decide +kernel)
theorem dL_law_1468 : decode cL_law 1468 = .ok (.iadd, 1) := p_96 ndL_22 (by decide +kernel)
theorem dL_law_1469 : decode cL_law 1469 = .ok (.iaload, 1) := p_46 ndL_22 (by decide +kernel)
theorem dL_law_1470 : decode cL_law 1470 = .ok (.i2l, 1) := p_133 ndL_22 (by decide +kernel)
theorem dL_law_1471 : decode cL_law 1471 = .ok (.bipush 32, 2) := p_16 ndL_22 32 (by decide +kernel) (by decide +kernel)
def nkL_23 : List Nat := [32, 121, 42, 29, 6, 96, 46, 133, 20, 0, 145, 127, 129, 182, 0, 155, 87, 167, 3, 66, 43, 42, 29, 4, 96, 46, 42, 29, 5, 96, 46, 42, 29, 6, 96, 46, 182, 0, 156, 88, 44, 42, 29, 4, 96, 46, 42, 29, 5, 96, 46, 42, 29, 6, 96, 46, 182, 0, 159, 88, 167, 3, 23, 43, 42, 29]
theorem ndL_23 : ((cL_law.data.toList.drop 1472).take 66).map UInt8.toNat = nkL_23 := by decide +kernel
theorem dL_law_1473 : decode cL_law 1473 = .ok (.lshl, 1) := p_121 ndL_23 (by decide +kernel)
theorem dL_law_1474 : decode cL_law 1474 = .ok (.aload_n 0, 1) := p_42 ndL_23 (by decide +kernel)
theorem dL_law_1475 : decode cL_law 1475 = .ok (.iload_n 3, 1) := p_29 ndL_23 (by decide +kernel)
theorem dL_law_1476 : decode cL_law 1476 = .ok (.iconst 3, 1) := p_6 ndL_23 (by decide +kernel)
theorem dL_law_1477 : decode cL_law 1477 = .ok (.iadd, 1) := p_96 ndL_23 (by decide +kernel)
theorem dL_law_1478 : decode cL_law 1478 = .ok (.iaload, 1) := p_46 ndL_23 (by decide +kernel)
theorem dL_law_1479 : decode cL_law 1479 = .ok (.i2l, 1) := p_133 ndL_23 (by decide +kernel)
theorem dL_law_1480 : decode cL_law 1480 = .ok (.ldc2_w 145, 3) := p_20 ndL_23 (by decide +kernel)
theorem dL_law_1483 : decode cL_law 1483 = .ok (.land, 1) := p_127 ndL_23 (by decide +kernel)
theorem dL_law_1484 : decode cL_law 1484 = .ok (.lor, 1) := p_129 ndL_23 (by decide +kernel)
theorem dL_law_1485 : decode cL_law 1485 = .ok (.invokevirtual 155, 3) := p_182 ndL_23 (by decide +kernel)
theorem dL_law_1488 : decode cL_law 1488 = .ok (.pop, 1) := p_87 ndL_23 (by decide +kernel)
theorem dL_law_1489 : decode cL_law 1489 = .ok (.goto 834, 3) := p_167 ndL_23 834 (by decide +kernel) (by decide +kernel)
theorem dL_law_1492 : decode cL_law 1492 = .ok (.aload_n 1, 1) := p_43 ndL_23 (by decide +kernel)
theorem dL_law_1493 : decode cL_law 1493 = .ok (.aload_n 0, 1) := p_42 ndL_23 (by decide +kernel)
theorem dL_law_1494 : decode cL_law 1494 = .ok (.iload_n 3, 1) := p_29 ndL_23 (by decide +kernel)
theorem dL_law_1495 : decode cL_law 1495 = .ok (.iconst 1, 1) := p_4 ndL_23 (by decide +kernel)
theorem dL_law_1496 : decode cL_law 1496 = .ok (.iadd, 1) := p_96 ndL_23 (by decide +kernel)
theorem dL_law_1497 : decode cL_law 1497 = .ok (.iaload, 1) := p_46 ndL_23 (by decide +kernel)
theorem dL_law_1498 : decode cL_law 1498 = .ok (.aload_n 0, 1) := p_42 ndL_23 (by decide +kernel)
theorem dL_law_1499 : decode cL_law 1499 = .ok (.iload_n 3, 1) := p_29 ndL_23 (by decide +kernel)
theorem dL_law_1500 : decode cL_law 1500 = .ok (.iconst 2, 1) := p_5 ndL_23 (by decide +kernel)
theorem dL_law_1501 : decode cL_law 1501 = .ok (.iadd, 1) := p_96 ndL_23 (by decide +kernel)
theorem dL_law_1502 : decode cL_law 1502 = .ok (.iaload, 1) := p_46 ndL_23 (by decide +kernel)
theorem dL_law_1503 : decode cL_law 1503 = .ok (.aload_n 0, 1) := p_42 ndL_23 (by decide +kernel)
theorem dL_law_1504 : decode cL_law 1504 = .ok (.iload_n 3, 1) := p_29 ndL_23 (by decide +kernel)
theorem dL_law_1505 : decode cL_law 1505 = .ok (.iconst 3, 1) := p_6 ndL_23 (by decide +kernel)
theorem dL_law_1506 : decode cL_law 1506 = .ok (.iadd, 1) := p_96 ndL_23 (by decide +kernel)
theorem dL_law_1507 : decode cL_law 1507 = .ok (.iaload, 1) := p_46 ndL_23 (by decide +kernel)
theorem dL_law_1508 : decode cL_law 1508 = .ok (.invokevirtual 156, 3) := p_182 ndL_23 (by decide +kernel)
theorem dL_law_1511 : decode cL_law 1511 = .ok (.pop2, 1) := p_88 ndL_23 (by decide +kernel)
theorem dL_law_1512 : decode cL_law 1512 = .ok (.aload_n 2, 1) := p_44 ndL_23 (by decide +kernel)
theorem dL_law_1513 : decode cL_law 1513 = .ok (.aload_n 0, 1) := p_42 ndL_23 (by decide +kernel)
theorem dL_law_1514 : decode cL_law 1514 = .ok (.iload_n 3, 1) := p_29 ndL_23 (by decide +kernel)
theorem dL_law_1515 : decode cL_law 1515 = .ok (.iconst 1, 1) := p_4 ndL_23 (by decide +kernel)
theorem dL_law_1516 : decode cL_law 1516 = .ok (.iadd, 1) := p_96 ndL_23 (by decide +kernel)
theorem dL_law_1517 : decode cL_law 1517 = .ok (.iaload, 1) := p_46 ndL_23 (by decide +kernel)
theorem dL_law_1518 : decode cL_law 1518 = .ok (.aload_n 0, 1) := p_42 ndL_23 (by decide +kernel)
theorem dL_law_1519 : decode cL_law 1519 = .ok (.iload_n 3, 1) := p_29 ndL_23 (by decide +kernel)
theorem dL_law_1520 : decode cL_law 1520 = .ok (.iconst 2, 1) := p_5 ndL_23 (by decide +kernel)
theorem dL_law_1521 : decode cL_law 1521 = .ok (.iadd, 1) := p_96 ndL_23 (by decide +kernel)
theorem dL_law_1522 : decode cL_law 1522 = .ok (.iaload, 1) := p_46 ndL_23 (by decide +kernel)
theorem dL_law_1523 : decode cL_law 1523 = .ok (.aload_n 0, 1) := p_42 ndL_23 (by decide +kernel)
theorem dL_law_1524 : decode cL_law 1524 = .ok (.iload_n 3, 1) := p_29 ndL_23 (by decide +kernel)
theorem dL_law_1525 : decode cL_law 1525 = .ok (.iconst 3, 1) := p_6 ndL_23 (by decide +kernel)
theorem dL_law_1526 : decode cL_law 1526 = .ok (.iadd, 1) := p_96 ndL_23 (by decide +kernel)
theorem dL_law_1527 : decode cL_law 1527 = .ok (.iaload, 1) := p_46 ndL_23 (by decide +kernel)
theorem dL_law_1528 : decode cL_law 1528 = .ok (.invokevirtual 159, 3) := p_182 ndL_23 (by decide +kernel)
theorem dL_law_1531 : decode cL_law 1531 = .ok (.pop2, 1) := p_88 ndL_23 (by decide +kernel)
theorem dL_law_1532 : decode cL_law 1532 = .ok (.goto 791, 3) := p_167 ndL_23 791 (by decide +kernel) (by decide +kernel)
theorem dL_law_1535 : decode cL_law 1535 = .ok (.aload_n 1, 1) := p_43 ndL_23 (by decide +kernel)
def nkL_24 : List Nat := [42, 29, 4, 96, 46, 42, 29, 5, 96, 46, 42, 29, 6, 96, 46, 182, 0, 160, 88, 44, 42, 29, 4, 96, 46, 42, 29, 5, 96, 46, 42, 29, 6, 96, 46, 182, 0, 163, 88, 167, 2, 236, 43, 42, 29, 4, 96, 46, 42, 29, 5, 96, 46, 133, 16, 32, 121, 42, 29, 6, 96, 46, 133, 20, 0, 145]
theorem ndL_24 : ((cL_law.data.toList.drop 1536).take 66).map UInt8.toNat = nkL_24 := by decide +kernel
theorem dL_law_1536 : decode cL_law 1536 = .ok (.aload_n 0, 1) := p_42 ndL_24 (by decide +kernel)
theorem dL_law_1537 : decode cL_law 1537 = .ok (.iload_n 3, 1) := p_29 ndL_24 (by decide +kernel)
theorem dL_law_1538 : decode cL_law 1538 = .ok (.iconst 1, 1) := p_4 ndL_24 (by decide +kernel)
theorem dL_law_1539 : decode cL_law 1539 = .ok (.iadd, 1) := p_96 ndL_24 (by decide +kernel)
theorem dL_law_1540 : decode cL_law 1540 = .ok (.iaload, 1) := p_46 ndL_24 (by decide +kernel)
theorem dL_law_1541 : decode cL_law 1541 = .ok (.aload_n 0, 1) := p_42 ndL_24 (by decide +kernel)
theorem dL_law_1542 : decode cL_law 1542 = .ok (.iload_n 3, 1) := p_29 ndL_24 (by decide +kernel)
theorem dL_law_1543 : decode cL_law 1543 = .ok (.iconst 2, 1) := p_5 ndL_24 (by decide +kernel)
theorem dL_law_1544 : decode cL_law 1544 = .ok (.iadd, 1) := p_96 ndL_24 (by decide +kernel)
theorem dL_law_1545 : decode cL_law 1545 = .ok (.iaload, 1) := p_46 ndL_24 (by decide +kernel)
theorem dL_law_1546 : decode cL_law 1546 = .ok (.aload_n 0, 1) := p_42 ndL_24 (by decide +kernel)
theorem dL_law_1547 : decode cL_law 1547 = .ok (.iload_n 3, 1) := p_29 ndL_24 (by decide +kernel)
theorem dL_law_1548 : decode cL_law 1548 = .ok (.iconst 3, 1) := p_6 ndL_24 (by decide +kernel)
theorem dL_law_1549 : decode cL_law 1549 = .ok (.iadd, 1) := p_96 ndL_24 (by decide +kernel)
theorem dL_law_1550 : decode cL_law 1550 = .ok (.iaload, 1) := p_46 ndL_24 (by decide +kernel)
theorem dL_law_1551 : decode cL_law 1551 = .ok (.invokevirtual 160, 3) := p_182 ndL_24 (by decide +kernel)
theorem dL_law_1554 : decode cL_law 1554 = .ok (.pop2, 1) := p_88 ndL_24 (by decide +kernel)
theorem dL_law_1555 : decode cL_law 1555 = .ok (.aload_n 2, 1) := p_44 ndL_24 (by decide +kernel)
theorem dL_law_1556 : decode cL_law 1556 = .ok (.aload_n 0, 1) := p_42 ndL_24 (by decide +kernel)
theorem dL_law_1557 : decode cL_law 1557 = .ok (.iload_n 3, 1) := p_29 ndL_24 (by decide +kernel)
theorem dL_law_1558 : decode cL_law 1558 = .ok (.iconst 1, 1) := p_4 ndL_24 (by decide +kernel)
theorem dL_law_1559 : decode cL_law 1559 = .ok (.iadd, 1) := p_96 ndL_24 (by decide +kernel)
theorem dL_law_1560 : decode cL_law 1560 = .ok (.iaload, 1) := p_46 ndL_24 (by decide +kernel)
theorem dL_law_1561 : decode cL_law 1561 = .ok (.aload_n 0, 1) := p_42 ndL_24 (by decide +kernel)
theorem dL_law_1562 : decode cL_law 1562 = .ok (.iload_n 3, 1) := p_29 ndL_24 (by decide +kernel)
theorem dL_law_1563 : decode cL_law 1563 = .ok (.iconst 2, 1) := p_5 ndL_24 (by decide +kernel)
theorem dL_law_1564 : decode cL_law 1564 = .ok (.iadd, 1) := p_96 ndL_24 (by decide +kernel)
theorem dL_law_1565 : decode cL_law 1565 = .ok (.iaload, 1) := p_46 ndL_24 (by decide +kernel)
theorem dL_law_1566 : decode cL_law 1566 = .ok (.aload_n 0, 1) := p_42 ndL_24 (by decide +kernel)
theorem dL_law_1567 : decode cL_law 1567 = .ok (.iload_n 3, 1) := p_29 ndL_24 (by decide +kernel)
theorem dL_law_1568 : decode cL_law 1568 = .ok (.iconst 3, 1) := p_6 ndL_24 (by decide +kernel)
theorem dL_law_1569 : decode cL_law 1569 = .ok (.iadd, 1) := p_96 ndL_24 (by decide +kernel)
theorem dL_law_1570 : decode cL_law 1570 = .ok (.iaload, 1) := p_46 ndL_24 (by decide +kernel)
theorem dL_law_1571 : decode cL_law 1571 = .ok (.invokevirtual 163, 3) := p_182 ndL_24 (by decide +kernel)
theorem dL_law_1574 : decode cL_law 1574 = .ok (.pop2, 1) := p_88 ndL_24 (by decide +kernel)
theorem dL_law_1575 : decode cL_law 1575 = .ok (.goto 748, 3) := p_167 ndL_24 748 (by decide +kernel) (by decide +kernel)
theorem dL_law_1578 : decode cL_law 1578 = .ok (.aload_n 1, 1) := p_43 ndL_24 (by decide +kernel)
theorem dL_law_1579 : decode cL_law 1579 = .ok (.aload_n 0, 1) := p_42 ndL_24 (by decide +kernel)
theorem dL_law_1580 : decode cL_law 1580 = .ok (.iload_n 3, 1) := p_29 ndL_24 (by decide +kernel)
theorem dL_law_1581 : decode cL_law 1581 = .ok (.iconst 1, 1) := p_4 ndL_24 (by decide +kernel)
theorem dL_law_1582 : decode cL_law 1582 = .ok (.iadd, 1) := p_96 ndL_24 (by decide +kernel)
theorem dL_law_1583 : decode cL_law 1583 = .ok (.iaload, 1) := p_46 ndL_24 (by decide +kernel)
theorem dL_law_1584 : decode cL_law 1584 = .ok (.aload_n 0, 1) := p_42 ndL_24 (by decide +kernel)
theorem dL_law_1585 : decode cL_law 1585 = .ok (.iload_n 3, 1) := p_29 ndL_24 (by decide +kernel)
theorem dL_law_1586 : decode cL_law 1586 = .ok (.iconst 2, 1) := p_5 ndL_24 (by decide +kernel)
theorem dL_law_1587 : decode cL_law 1587 = .ok (.iadd, 1) := p_96 ndL_24 (by decide +kernel)
theorem dL_law_1588 : decode cL_law 1588 = .ok (.iaload, 1) := p_46 ndL_24 (by decide +kernel)
theorem dL_law_1589 : decode cL_law 1589 = .ok (.i2l, 1) := p_133 ndL_24 (by decide +kernel)
theorem dL_law_1590 : decode cL_law 1590 = .ok (.bipush 32, 2) := p_16 ndL_24 32 (by decide +kernel) (by decide +kernel)
theorem dL_law_1592 : decode cL_law 1592 = .ok (.lshl, 1) := p_121 ndL_24 (by decide +kernel)
theorem dL_law_1593 : decode cL_law 1593 = .ok (.aload_n 0, 1) := p_42 ndL_24 (by decide +kernel)
theorem dL_law_1594 : decode cL_law 1594 = .ok (.iload_n 3, 1) := p_29 ndL_24 (by decide +kernel)
theorem dL_law_1595 : decode cL_law 1595 = .ok (.iconst 3, 1) := p_6 ndL_24 (by decide +kernel)
theorem dL_law_1596 : decode cL_law 1596 = .ok (.iadd, 1) := p_96 ndL_24 (by decide +kernel)
theorem dL_law_1597 : decode cL_law 1597 = .ok (.iaload, 1) := p_46 ndL_24 (by decide +kernel)
theorem dL_law_1598 : decode cL_law 1598 = .ok (.i2l, 1) := p_133 ndL_24 (by decide +kernel)
theorem dL_law_1599 : decode cL_law 1599 = .ok (.ldc2_w 145, 3) := p_20 ndL_24 (by decide +kernel)
def nkL_25 : List Nat := [0, 145, 127, 129, 182, 0, 164, 87, 44, 42, 29, 4, 96, 46, 42, 29, 5, 96, 46, 133, 16, 32, 121, 42, 29, 6, 96, 46, 133, 20, 0, 145, 127, 129, 182, 0, 167, 87, 167, 2, 173, 43, 42, 29, 4, 96, 46, 42, 29, 5, 96, 46, 182, 0, 168, 88, 44, 42, 29, 4, 96, 46, 42, 29, 5, 96]
theorem ndL_25 : ((cL_law.data.toList.drop 1600).take 66).map UInt8.toNat = nkL_25 := by decide +kernel
theorem dL_law_1602 : decode cL_law 1602 = .ok (.land, 1) := p_127 ndL_25 (by decide +kernel)
theorem dL_law_1603 : decode cL_law 1603 = .ok (.lor, 1) := p_129 ndL_25 (by decide +kernel)
theorem dL_law_1604 : decode cL_law 1604 = .ok (.invokevirtual 164, 3) := p_182 ndL_25 (by decide +kernel)
theorem dL_law_1607 : decode cL_law 1607 = .ok (.pop, 1) := p_87 ndL_25 (by decide +kernel)
theorem dL_law_1608 : decode cL_law 1608 = .ok (.aload_n 2, 1) := p_44 ndL_25 (by decide +kernel)
theorem dL_law_1609 : decode cL_law 1609 = .ok (.aload_n 0, 1) := p_42 ndL_25 (by decide +kernel)
theorem dL_law_1610 : decode cL_law 1610 = .ok (.iload_n 3, 1) := p_29 ndL_25 (by decide +kernel)
theorem dL_law_1611 : decode cL_law 1611 = .ok (.iconst 1, 1) := p_4 ndL_25 (by decide +kernel)
theorem dL_law_1612 : decode cL_law 1612 = .ok (.iadd, 1) := p_96 ndL_25 (by decide +kernel)
theorem dL_law_1613 : decode cL_law 1613 = .ok (.iaload, 1) := p_46 ndL_25 (by decide +kernel)
theorem dL_law_1614 : decode cL_law 1614 = .ok (.aload_n 0, 1) := p_42 ndL_25 (by decide +kernel)
theorem dL_law_1615 : decode cL_law 1615 = .ok (.iload_n 3, 1) := p_29 ndL_25 (by decide +kernel)
theorem dL_law_1616 : decode cL_law 1616 = .ok (.iconst 2, 1) := p_5 ndL_25 (by decide +kernel)
theorem dL_law_1617 : decode cL_law 1617 = .ok (.iadd, 1) := p_96 ndL_25 (by decide +kernel)
theorem dL_law_1618 : decode cL_law 1618 = .ok (.iaload, 1) := p_46 ndL_25 (by decide +kernel)
theorem dL_law_1619 : decode cL_law 1619 = .ok (.i2l, 1) := p_133 ndL_25 (by decide +kernel)
theorem dL_law_1620 : decode cL_law 1620 = .ok (.bipush 32, 2) := p_16 ndL_25 32 (by decide +kernel) (by decide +kernel)
theorem dL_law_1622 : decode cL_law 1622 = .ok (.lshl, 1) := p_121 ndL_25 (by decide +kernel)
theorem dL_law_1623 : decode cL_law 1623 = .ok (.aload_n 0, 1) := p_42 ndL_25 (by decide +kernel)
theorem dL_law_1624 : decode cL_law 1624 = .ok (.iload_n 3, 1) := p_29 ndL_25 (by decide +kernel)
theorem dL_law_1625 : decode cL_law 1625 = .ok (.iconst 3, 1) := p_6 ndL_25 (by decide +kernel)
theorem dL_law_1626 : decode cL_law 1626 = .ok (.iadd, 1) := p_96 ndL_25 (by decide +kernel)
theorem dL_law_1627 : decode cL_law 1627 = .ok (.iaload, 1) := p_46 ndL_25 (by decide +kernel)
theorem dL_law_1628 : decode cL_law 1628 = .ok (.i2l, 1) := p_133 ndL_25 (by decide +kernel)
theorem dL_law_1629 : decode cL_law 1629 = .ok (.ldc2_w 145, 3) := p_20 ndL_25 (by decide +kernel)
theorem dL_law_1632 : decode cL_law 1632 = .ok (.land, 1) := p_127 ndL_25 (by decide +kernel)
theorem dL_law_1633 : decode cL_law 1633 = .ok (.lor, 1) := p_129 ndL_25 (by decide +kernel)
theorem dL_law_1634 : decode cL_law 1634 = .ok (.invokevirtual 167, 3) := p_182 ndL_25 (by decide +kernel)
theorem dL_law_1637 : decode cL_law 1637 = .ok (.pop, 1) := p_87 ndL_25 (by decide +kernel)
theorem dL_law_1638 : decode cL_law 1638 = .ok (.goto 685, 3) := p_167 ndL_25 685 (by decide +kernel) (by decide +kernel)
theorem dL_law_1641 : decode cL_law 1641 = .ok (.aload_n 1, 1) := p_43 ndL_25 (by decide +kernel)
theorem dL_law_1642 : decode cL_law 1642 = .ok (.aload_n 0, 1) := p_42 ndL_25 (by decide +kernel)
theorem dL_law_1643 : decode cL_law 1643 = .ok (.iload_n 3, 1) := p_29 ndL_25 (by decide +kernel)
theorem dL_law_1644 : decode cL_law 1644 = .ok (.iconst 1, 1) := p_4 ndL_25 (by decide +kernel)
theorem dL_law_1645 : decode cL_law 1645 = .ok (.iadd, 1) := p_96 ndL_25 (by decide +kernel)
theorem dL_law_1646 : decode cL_law 1646 = .ok (.iaload, 1) := p_46 ndL_25 (by decide +kernel)
theorem dL_law_1647 : decode cL_law 1647 = .ok (.aload_n 0, 1) := p_42 ndL_25 (by decide +kernel)
theorem dL_law_1648 : decode cL_law 1648 = .ok (.iload_n 3, 1) := p_29 ndL_25 (by decide +kernel)
theorem dL_law_1649 : decode cL_law 1649 = .ok (.iconst 2, 1) := p_5 ndL_25 (by decide +kernel)
theorem dL_law_1650 : decode cL_law 1650 = .ok (.iadd, 1) := p_96 ndL_25 (by decide +kernel)
theorem dL_law_1651 : decode cL_law 1651 = .ok (.iaload, 1) := p_46 ndL_25 (by decide +kernel)
theorem dL_law_1652 : decode cL_law 1652 = .ok (.invokevirtual 168, 3) := p_182 ndL_25 (by decide +kernel)
theorem dL_law_1655 : decode cL_law 1655 = .ok (.pop2, 1) := p_88 ndL_25 (by decide +kernel)
theorem dL_law_1656 : decode cL_law 1656 = .ok (.aload_n 2, 1) := p_44 ndL_25 (by decide +kernel)
theorem dL_law_1657 : decode cL_law 1657 = .ok (.aload_n 0, 1) := p_42 ndL_25 (by decide +kernel)
theorem dL_law_1658 : decode cL_law 1658 = .ok (.iload_n 3, 1) := p_29 ndL_25 (by decide +kernel)
theorem dL_law_1659 : decode cL_law 1659 = .ok (.iconst 1, 1) := p_4 ndL_25 (by decide +kernel)
theorem dL_law_1660 : decode cL_law 1660 = .ok (.iadd, 1) := p_96 ndL_25 (by decide +kernel)
theorem dL_law_1661 : decode cL_law 1661 = .ok (.iaload, 1) := p_46 ndL_25 (by decide +kernel)
theorem dL_law_1662 : decode cL_law 1662 = .ok (.aload_n 0, 1) := p_42 ndL_25 (by decide +kernel)
theorem dL_law_1663 : decode cL_law 1663 = .ok (.iload_n 3, 1) := p_29 ndL_25 (by decide +kernel)
def nkL_26 : List Nat := [5, 96, 46, 182, 0, 171, 88, 167, 2, 140, 43, 42, 29, 4, 96, 46, 42, 29, 5, 96, 46, 42, 29, 6, 96, 46, 42, 29, 7, 96, 46, 182, 0, 172, 88, 44, 42, 29, 4, 96, 46, 42, 29, 5, 96, 46, 42, 29, 6, 96, 46, 42, 29, 7, 96, 46, 182, 0, 176, 88, 167, 2, 87, 43, 42, 29]
theorem ndL_26 : ((cL_law.data.toList.drop 1664).take 66).map UInt8.toNat = nkL_26 := by decide +kernel
theorem dL_law_1664 : decode cL_law 1664 = .ok (.iconst 2, 1) := p_5 ndL_26 (by decide +kernel)
theorem dL_law_1665 : decode cL_law 1665 = .ok (.iadd, 1) := p_96 ndL_26 (by decide +kernel)
theorem dL_law_1666 : decode cL_law 1666 = .ok (.iaload, 1) := p_46 ndL_26 (by decide +kernel)
theorem dL_law_1667 : decode cL_law 1667 = .ok (.invokevirtual 171, 3) := p_182 ndL_26 (by decide +kernel)
theorem dL_law_1670 : decode cL_law 1670 = .ok (.pop2, 1) := p_88 ndL_26 (by decide +kernel)
theorem dL_law_1671 : decode cL_law 1671 = .ok (.goto 652, 3) := p_167 ndL_26 652 (by decide +kernel) (by decide +kernel)
theorem dL_law_1674 : decode cL_law 1674 = .ok (.aload_n 1, 1) := p_43 ndL_26 (by decide +kernel)
theorem dL_law_1675 : decode cL_law 1675 = .ok (.aload_n 0, 1) := p_42 ndL_26 (by decide +kernel)
theorem dL_law_1676 : decode cL_law 1676 = .ok (.iload_n 3, 1) := p_29 ndL_26 (by decide +kernel)
theorem dL_law_1677 : decode cL_law 1677 = .ok (.iconst 1, 1) := p_4 ndL_26 (by decide +kernel)
theorem dL_law_1678 : decode cL_law 1678 = .ok (.iadd, 1) := p_96 ndL_26 (by decide +kernel)
theorem dL_law_1679 : decode cL_law 1679 = .ok (.iaload, 1) := p_46 ndL_26 (by decide +kernel)
theorem dL_law_1680 : decode cL_law 1680 = .ok (.aload_n 0, 1) := p_42 ndL_26 (by decide +kernel)
theorem dL_law_1681 : decode cL_law 1681 = .ok (.iload_n 3, 1) := p_29 ndL_26 (by decide +kernel)
theorem dL_law_1682 : decode cL_law 1682 = .ok (.iconst 2, 1) := p_5 ndL_26 (by decide +kernel)
theorem dL_law_1683 : decode cL_law 1683 = .ok (.iadd, 1) := p_96 ndL_26 (by decide +kernel)
theorem dL_law_1684 : decode cL_law 1684 = .ok (.iaload, 1) := p_46 ndL_26 (by decide +kernel)
theorem dL_law_1685 : decode cL_law 1685 = .ok (.aload_n 0, 1) := p_42 ndL_26 (by decide +kernel)
theorem dL_law_1686 : decode cL_law 1686 = .ok (.iload_n 3, 1) := p_29 ndL_26 (by decide +kernel)
theorem dL_law_1687 : decode cL_law 1687 = .ok (.iconst 3, 1) := p_6 ndL_26 (by decide +kernel)
theorem dL_law_1688 : decode cL_law 1688 = .ok (.iadd, 1) := p_96 ndL_26 (by decide +kernel)
theorem dL_law_1689 : decode cL_law 1689 = .ok (.iaload, 1) := p_46 ndL_26 (by decide +kernel)
theorem dL_law_1690 : decode cL_law 1690 = .ok (.aload_n 0, 1) := p_42 ndL_26 (by decide +kernel)
theorem dL_law_1691 : decode cL_law 1691 = .ok (.iload_n 3, 1) := p_29 ndL_26 (by decide +kernel)
theorem dL_law_1692 : decode cL_law 1692 = .ok (.iconst 4, 1) := p_7 ndL_26 (by decide +kernel)
theorem dL_law_1693 : decode cL_law 1693 = .ok (.iadd, 1) := p_96 ndL_26 (by decide +kernel)
theorem dL_law_1694 : decode cL_law 1694 = .ok (.iaload, 1) := p_46 ndL_26 (by decide +kernel)
theorem dL_law_1695 : decode cL_law 1695 = .ok (.invokevirtual 172, 3) := p_182 ndL_26 (by decide +kernel)
theorem dL_law_1698 : decode cL_law 1698 = .ok (.pop2, 1) := p_88 ndL_26 (by decide +kernel)
theorem dL_law_1699 : decode cL_law 1699 = .ok (.aload_n 2, 1) := p_44 ndL_26 (by decide +kernel)
theorem dL_law_1700 : decode cL_law 1700 = .ok (.aload_n 0, 1) := p_42 ndL_26 (by decide +kernel)
theorem dL_law_1701 : decode cL_law 1701 = .ok (.iload_n 3, 1) := p_29 ndL_26 (by decide +kernel)
theorem dL_law_1702 : decode cL_law 1702 = .ok (.iconst 1, 1) := p_4 ndL_26 (by decide +kernel)
theorem dL_law_1703 : decode cL_law 1703 = .ok (.iadd, 1) := p_96 ndL_26 (by decide +kernel)
theorem dL_law_1704 : decode cL_law 1704 = .ok (.iaload, 1) := p_46 ndL_26 (by decide +kernel)
theorem dL_law_1705 : decode cL_law 1705 = .ok (.aload_n 0, 1) := p_42 ndL_26 (by decide +kernel)
theorem dL_law_1706 : decode cL_law 1706 = .ok (.iload_n 3, 1) := p_29 ndL_26 (by decide +kernel)
theorem dL_law_1707 : decode cL_law 1707 = .ok (.iconst 2, 1) := p_5 ndL_26 (by decide +kernel)
theorem dL_law_1708 : decode cL_law 1708 = .ok (.iadd, 1) := p_96 ndL_26 (by decide +kernel)
theorem dL_law_1709 : decode cL_law 1709 = .ok (.iaload, 1) := p_46 ndL_26 (by decide +kernel)
theorem dL_law_1710 : decode cL_law 1710 = .ok (.aload_n 0, 1) := p_42 ndL_26 (by decide +kernel)
theorem dL_law_1711 : decode cL_law 1711 = .ok (.iload_n 3, 1) := p_29 ndL_26 (by decide +kernel)
theorem dL_law_1712 : decode cL_law 1712 = .ok (.iconst 3, 1) := p_6 ndL_26 (by decide +kernel)
theorem dL_law_1713 : decode cL_law 1713 = .ok (.iadd, 1) := p_96 ndL_26 (by decide +kernel)
theorem dL_law_1714 : decode cL_law 1714 = .ok (.iaload, 1) := p_46 ndL_26 (by decide +kernel)
theorem dL_law_1715 : decode cL_law 1715 = .ok (.aload_n 0, 1) := p_42 ndL_26 (by decide +kernel)
theorem dL_law_1716 : decode cL_law 1716 = .ok (.iload_n 3, 1) := p_29 ndL_26 (by decide +kernel)
theorem dL_law_1717 : decode cL_law 1717 = .ok (.iconst 4, 1) := p_7 ndL_26 (by decide +kernel)
theorem dL_law_1718 : decode cL_law 1718 = .ok (.iadd, 1) := p_96 ndL_26 (by decide +kernel)
theorem dL_law_1719 : decode cL_law 1719 = .ok (.iaload, 1) := p_46 ndL_26 (by decide +kernel)
theorem dL_law_1720 : decode cL_law 1720 = .ok (.invokevirtual 176, 3) := p_182 ndL_26 (by decide +kernel)
theorem dL_law_1723 : decode cL_law 1723 = .ok (.pop2, 1) := p_88 ndL_26 (by decide +kernel)
theorem dL_law_1724 : decode cL_law 1724 = .ok (.goto 599, 3) := p_167 ndL_26 599 (by decide +kernel) (by decide +kernel)
theorem dL_law_1727 : decode cL_law 1727 = .ok (.aload_n 1, 1) := p_43 ndL_26 (by decide +kernel)
def nkL_27 : List Nat := [42, 29, 4, 96, 46, 182, 0, 177, 88, 44, 42, 29, 4, 96, 46, 182, 0, 180, 88, 167, 2, 64, 43, 42, 29, 4, 96, 46, 153, 0, 7, 4, 167, 0, 4, 3, 182, 0, 181, 87, 44, 42, 29, 4, 96, 46, 153, 0, 7, 4, 167, 0, 4, 3, 182, 0, 185, 87, 167, 2, 25, 43, 42, 29, 4, 96]
theorem ndL_27 : ((cL_law.data.toList.drop 1728).take 66).map UInt8.toNat = nkL_27 := by decide +kernel
theorem dL_law_1728 : decode cL_law 1728 = .ok (.aload_n 0, 1) := p_42 ndL_27 (by decide +kernel)
theorem dL_law_1729 : decode cL_law 1729 = .ok (.iload_n 3, 1) := p_29 ndL_27 (by decide +kernel)
theorem dL_law_1730 : decode cL_law 1730 = .ok (.iconst 1, 1) := p_4 ndL_27 (by decide +kernel)
theorem dL_law_1731 : decode cL_law 1731 = .ok (.iadd, 1) := p_96 ndL_27 (by decide +kernel)
theorem dL_law_1732 : decode cL_law 1732 = .ok (.iaload, 1) := p_46 ndL_27 (by decide +kernel)
theorem dL_law_1733 : decode cL_law 1733 = .ok (.invokevirtual 177, 3) := p_182 ndL_27 (by decide +kernel)
theorem dL_law_1736 : decode cL_law 1736 = .ok (.pop2, 1) := p_88 ndL_27 (by decide +kernel)
theorem dL_law_1737 : decode cL_law 1737 = .ok (.aload_n 2, 1) := p_44 ndL_27 (by decide +kernel)
theorem dL_law_1738 : decode cL_law 1738 = .ok (.aload_n 0, 1) := p_42 ndL_27 (by decide +kernel)
theorem dL_law_1739 : decode cL_law 1739 = .ok (.iload_n 3, 1) := p_29 ndL_27 (by decide +kernel)
theorem dL_law_1740 : decode cL_law 1740 = .ok (.iconst 1, 1) := p_4 ndL_27 (by decide +kernel)
theorem dL_law_1741 : decode cL_law 1741 = .ok (.iadd, 1) := p_96 ndL_27 (by decide +kernel)
theorem dL_law_1742 : decode cL_law 1742 = .ok (.iaload, 1) := p_46 ndL_27 (by decide +kernel)
theorem dL_law_1743 : decode cL_law 1743 = .ok (.invokevirtual 180, 3) := p_182 ndL_27 (by decide +kernel)
theorem dL_law_1746 : decode cL_law 1746 = .ok (.pop2, 1) := p_88 ndL_27 (by decide +kernel)
theorem dL_law_1747 : decode cL_law 1747 = .ok (.goto 576, 3) := p_167 ndL_27 576 (by decide +kernel) (by decide +kernel)
theorem dL_law_1750 : decode cL_law 1750 = .ok (.aload_n 1, 1) := p_43 ndL_27 (by decide +kernel)
theorem dL_law_1751 : decode cL_law 1751 = .ok (.aload_n 0, 1) := p_42 ndL_27 (by decide +kernel)
theorem dL_law_1752 : decode cL_law 1752 = .ok (.iload_n 3, 1) := p_29 ndL_27 (by decide +kernel)
theorem dL_law_1753 : decode cL_law 1753 = .ok (.iconst 1, 1) := p_4 ndL_27 (by decide +kernel)
theorem dL_law_1754 : decode cL_law 1754 = .ok (.iadd, 1) := p_96 ndL_27 (by decide +kernel)
theorem dL_law_1755 : decode cL_law 1755 = .ok (.iaload, 1) := p_46 ndL_27 (by decide +kernel)
theorem dL_law_1756 : decode cL_law 1756 = .ok (.ifCond .eq 7, 3) := p_153 ndL_27 7 (by decide +kernel) (by decide +kernel)
theorem dL_law_1759 : decode cL_law 1759 = .ok (.iconst 1, 1) := p_4 ndL_27 (by decide +kernel)
theorem dL_law_1760 : decode cL_law 1760 = .ok (.goto 4, 3) := p_167 ndL_27 4 (by decide +kernel) (by decide +kernel)
theorem dL_law_1763 : decode cL_law 1763 = .ok (.iconst 0, 1) := p_3 ndL_27 (by decide +kernel)
theorem dL_law_1764 : decode cL_law 1764 = .ok (.invokevirtual 181, 3) := p_182 ndL_27 (by decide +kernel)
theorem dL_law_1767 : decode cL_law 1767 = .ok (.pop, 1) := p_87 ndL_27 (by decide +kernel)
theorem dL_law_1768 : decode cL_law 1768 = .ok (.aload_n 2, 1) := p_44 ndL_27 (by decide +kernel)
theorem dL_law_1769 : decode cL_law 1769 = .ok (.aload_n 0, 1) := p_42 ndL_27 (by decide +kernel)
theorem dL_law_1770 : decode cL_law 1770 = .ok (.iload_n 3, 1) := p_29 ndL_27 (by decide +kernel)
theorem dL_law_1771 : decode cL_law 1771 = .ok (.iconst 1, 1) := p_4 ndL_27 (by decide +kernel)
theorem dL_law_1772 : decode cL_law 1772 = .ok (.iadd, 1) := p_96 ndL_27 (by decide +kernel)
theorem dL_law_1773 : decode cL_law 1773 = .ok (.iaload, 1) := p_46 ndL_27 (by decide +kernel)
theorem dL_law_1774 : decode cL_law 1774 = .ok (.ifCond .eq 7, 3) := p_153 ndL_27 7 (by decide +kernel) (by decide +kernel)
theorem dL_law_1777 : decode cL_law 1777 = .ok (.iconst 1, 1) := p_4 ndL_27 (by decide +kernel)
theorem dL_law_1778 : decode cL_law 1778 = .ok (.goto 4, 3) := p_167 ndL_27 4 (by decide +kernel) (by decide +kernel)
theorem dL_law_1781 : decode cL_law 1781 = .ok (.iconst 0, 1) := p_3 ndL_27 (by decide +kernel)
theorem dL_law_1782 : decode cL_law 1782 = .ok (.invokevirtual 185, 3) := p_182 ndL_27 (by decide +kernel)
theorem dL_law_1785 : decode cL_law 1785 = .ok (.pop, 1) := p_87 ndL_27 (by decide +kernel)
theorem dL_law_1786 : decode cL_law 1786 = .ok (.goto 537, 3) := p_167 ndL_27 537 (by decide +kernel) (by decide +kernel)
theorem dL_law_1789 : decode cL_law 1789 = .ok (.aload_n 1, 1) := p_43 ndL_27 (by decide +kernel)
theorem dL_law_1790 : decode cL_law 1790 = .ok (.aload_n 0, 1) := p_42 ndL_27 (by decide +kernel)
theorem dL_law_1791 : decode cL_law 1791 = .ok (.iload_n 3, 1) := p_29 ndL_27 (by decide +kernel)
def nkL_28 : List Nat := [4, 96, 46, 182, 0, 186, 88, 44, 42, 29, 4, 96, 46, 182, 0, 189, 88, 167, 2, 2, 43, 42, 29, 4, 96, 46, 182, 0, 190, 88, 44, 42, 29, 4, 96, 46, 182, 0, 193, 88, 167, 1, 235, 43, 42, 29, 4, 96, 46, 42, 29, 5, 96, 46, 42, 29, 6, 96, 46, 42, 29, 7, 96, 46, 153, 0]
theorem ndL_28 : ((cL_law.data.toList.drop 1792).take 66).map UInt8.toNat = nkL_28 := by decide +kernel
theorem dL_law_1792 : decode cL_law 1792 = .ok (.iconst 1, 1) := p_4 ndL_28 (by decide +kernel)
theorem dL_law_1793 : decode cL_law 1793 = .ok (.iadd, 1) := p_96 ndL_28 (by decide +kernel)
theorem dL_law_1794 : decode cL_law 1794 = .ok (.iaload, 1) := p_46 ndL_28 (by decide +kernel)
theorem dL_law_1795 : decode cL_law 1795 = .ok (.invokevirtual 186, 3) := p_182 ndL_28 (by decide +kernel)
theorem dL_law_1798 : decode cL_law 1798 = .ok (.pop2, 1) := p_88 ndL_28 (by decide +kernel)
theorem dL_law_1799 : decode cL_law 1799 = .ok (.aload_n 2, 1) := p_44 ndL_28 (by decide +kernel)
theorem dL_law_1800 : decode cL_law 1800 = .ok (.aload_n 0, 1) := p_42 ndL_28 (by decide +kernel)
theorem dL_law_1801 : decode cL_law 1801 = .ok (.iload_n 3, 1) := p_29 ndL_28 (by decide +kernel)
theorem dL_law_1802 : decode cL_law 1802 = .ok (.iconst 1, 1) := p_4 ndL_28 (by decide +kernel)
theorem dL_law_1803 : decode cL_law 1803 = .ok (.iadd, 1) := p_96 ndL_28 (by decide +kernel)
theorem dL_law_1804 : decode cL_law 1804 = .ok (.iaload, 1) := p_46 ndL_28 (by decide +kernel)
theorem dL_law_1805 : decode cL_law 1805 = .ok (.invokevirtual 189, 3) := p_182 ndL_28 (by decide +kernel)
theorem dL_law_1808 : decode cL_law 1808 = .ok (.pop2, 1) := p_88 ndL_28 (by decide +kernel)
theorem dL_law_1809 : decode cL_law 1809 = .ok (.goto 514, 3) := p_167 ndL_28 514 (by decide +kernel) (by decide +kernel)
theorem dL_law_1812 : decode cL_law 1812 = .ok (.aload_n 1, 1) := p_43 ndL_28 (by decide +kernel)
theorem dL_law_1813 : decode cL_law 1813 = .ok (.aload_n 0, 1) := p_42 ndL_28 (by decide +kernel)
theorem dL_law_1814 : decode cL_law 1814 = .ok (.iload_n 3, 1) := p_29 ndL_28 (by decide +kernel)
theorem dL_law_1815 : decode cL_law 1815 = .ok (.iconst 1, 1) := p_4 ndL_28 (by decide +kernel)
theorem dL_law_1816 : decode cL_law 1816 = .ok (.iadd, 1) := p_96 ndL_28 (by decide +kernel)
theorem dL_law_1817 : decode cL_law 1817 = .ok (.iaload, 1) := p_46 ndL_28 (by decide +kernel)
theorem dL_law_1818 : decode cL_law 1818 = .ok (.invokevirtual 190, 3) := p_182 ndL_28 (by decide +kernel)
theorem dL_law_1821 : decode cL_law 1821 = .ok (.pop2, 1) := p_88 ndL_28 (by decide +kernel)
theorem dL_law_1822 : decode cL_law 1822 = .ok (.aload_n 2, 1) := p_44 ndL_28 (by decide +kernel)
theorem dL_law_1823 : decode cL_law 1823 = .ok (.aload_n 0, 1) := p_42 ndL_28 (by decide +kernel)
theorem dL_law_1824 : decode cL_law 1824 = .ok (.iload_n 3, 1) := p_29 ndL_28 (by decide +kernel)
theorem dL_law_1825 : decode cL_law 1825 = .ok (.iconst 1, 1) := p_4 ndL_28 (by decide +kernel)
theorem dL_law_1826 : decode cL_law 1826 = .ok (.iadd, 1) := p_96 ndL_28 (by decide +kernel)
theorem dL_law_1827 : decode cL_law 1827 = .ok (.iaload, 1) := p_46 ndL_28 (by decide +kernel)
theorem dL_law_1828 : decode cL_law 1828 = .ok (.invokevirtual 193, 3) := p_182 ndL_28 (by decide +kernel)
theorem dL_law_1831 : decode cL_law 1831 = .ok (.pop2, 1) := p_88 ndL_28 (by decide +kernel)
theorem dL_law_1832 : decode cL_law 1832 = .ok (.goto 491, 3) := p_167 ndL_28 491 (by decide +kernel) (by decide +kernel)
theorem dL_law_1835 : decode cL_law 1835 = .ok (.aload_n 1, 1) := p_43 ndL_28 (by decide +kernel)
theorem dL_law_1836 : decode cL_law 1836 = .ok (.aload_n 0, 1) := p_42 ndL_28 (by decide +kernel)
theorem dL_law_1837 : decode cL_law 1837 = .ok (.iload_n 3, 1) := p_29 ndL_28 (by decide +kernel)
theorem dL_law_1838 : decode cL_law 1838 = .ok (.iconst 1, 1) := p_4 ndL_28 (by decide +kernel)
theorem dL_law_1839 : decode cL_law 1839 = .ok (.iadd, 1) := p_96 ndL_28 (by decide +kernel)
theorem dL_law_1840 : decode cL_law 1840 = .ok (.iaload, 1) := p_46 ndL_28 (by decide +kernel)
theorem dL_law_1841 : decode cL_law 1841 = .ok (.aload_n 0, 1) := p_42 ndL_28 (by decide +kernel)
theorem dL_law_1842 : decode cL_law 1842 = .ok (.iload_n 3, 1) := p_29 ndL_28 (by decide +kernel)
theorem dL_law_1843 : decode cL_law 1843 = .ok (.iconst 2, 1) := p_5 ndL_28 (by decide +kernel)
theorem dL_law_1844 : decode cL_law 1844 = .ok (.iadd, 1) := p_96 ndL_28 (by decide +kernel)
theorem dL_law_1845 : decode cL_law 1845 = .ok (.iaload, 1) := p_46 ndL_28 (by decide +kernel)
theorem dL_law_1846 : decode cL_law 1846 = .ok (.aload_n 0, 1) := p_42 ndL_28 (by decide +kernel)
theorem dL_law_1847 : decode cL_law 1847 = .ok (.iload_n 3, 1) := p_29 ndL_28 (by decide +kernel)
theorem dL_law_1848 : decode cL_law 1848 = .ok (.iconst 3, 1) := p_6 ndL_28 (by decide +kernel)
theorem dL_law_1849 : decode cL_law 1849 = .ok (.iadd, 1) := p_96 ndL_28 (by decide +kernel)
theorem dL_law_1850 : decode cL_law 1850 = .ok (.iaload, 1) := p_46 ndL_28 (by decide +kernel)
theorem dL_law_1851 : decode cL_law 1851 = .ok (.aload_n 0, 1) := p_42 ndL_28 (by decide +kernel)
theorem dL_law_1852 : decode cL_law 1852 = .ok (.iload_n 3, 1) := p_29 ndL_28 (by decide +kernel)
theorem dL_law_1853 : decode cL_law 1853 = .ok (.iconst 4, 1) := p_7 ndL_28 (by decide +kernel)
theorem dL_law_1854 : decode cL_law 1854 = .ok (.iadd, 1) := p_96 ndL_28 (by decide +kernel)
theorem dL_law_1855 : decode cL_law 1855 = .ok (.iaload, 1) := p_46 ndL_28 (by decide +kernel)
def nkL_29 : List Nat := [153, 0, 7, 4, 167, 0, 4, 3, 182, 0, 194, 88, 44, 42, 29, 4, 96, 46, 42, 29, 5, 96, 46, 42, 29, 6, 96, 46, 42, 29, 7, 96, 46, 153, 0, 7, 4, 167, 0, 4, 3, 182, 0, 198, 88, 167, 1, 166, 43, 42, 29, 4, 96, 46, 42, 29, 5, 96, 46, 42, 29, 6, 96, 46, 182, 0]
theorem ndL_29 : ((cL_law.data.toList.drop 1856).take 66).map UInt8.toNat = nkL_29 := by decide +kernel
theorem dL_law_1856 : decode cL_law 1856 = .ok (.ifCond .eq 7, 3) := p_153 ndL_29 7 (by decide +kernel) (by decide +kernel)
theorem dL_law_1859 : decode cL_law 1859 = .ok (.iconst 1, 1) := p_4 ndL_29 (by decide +kernel)
theorem dL_law_1860 : decode cL_law 1860 = .ok (.goto 4, 3) := p_167 ndL_29 4 (by decide +kernel) (by decide +kernel)
theorem dL_law_1863 : decode cL_law 1863 = .ok (.iconst 0, 1) := p_3 ndL_29 (by decide +kernel)
theorem dL_law_1864 : decode cL_law 1864 = .ok (.invokevirtual 194, 3) := p_182 ndL_29 (by decide +kernel)
theorem dL_law_1867 : decode cL_law 1867 = .ok (.pop2, 1) := p_88 ndL_29 (by decide +kernel)
theorem dL_law_1868 : decode cL_law 1868 = .ok (.aload_n 2, 1) := p_44 ndL_29 (by decide +kernel)
theorem dL_law_1869 : decode cL_law 1869 = .ok (.aload_n 0, 1) := p_42 ndL_29 (by decide +kernel)
theorem dL_law_1870 : decode cL_law 1870 = .ok (.iload_n 3, 1) := p_29 ndL_29 (by decide +kernel)
theorem dL_law_1871 : decode cL_law 1871 = .ok (.iconst 1, 1) := p_4 ndL_29 (by decide +kernel)
theorem dL_law_1872 : decode cL_law 1872 = .ok (.iadd, 1) := p_96 ndL_29 (by decide +kernel)
theorem dL_law_1873 : decode cL_law 1873 = .ok (.iaload, 1) := p_46 ndL_29 (by decide +kernel)
theorem dL_law_1874 : decode cL_law 1874 = .ok (.aload_n 0, 1) := p_42 ndL_29 (by decide +kernel)
theorem dL_law_1875 : decode cL_law 1875 = .ok (.iload_n 3, 1) := p_29 ndL_29 (by decide +kernel)
theorem dL_law_1876 : decode cL_law 1876 = .ok (.iconst 2, 1) := p_5 ndL_29 (by decide +kernel)
theorem dL_law_1877 : decode cL_law 1877 = .ok (.iadd, 1) := p_96 ndL_29 (by decide +kernel)
theorem dL_law_1878 : decode cL_law 1878 = .ok (.iaload, 1) := p_46 ndL_29 (by decide +kernel)
theorem dL_law_1879 : decode cL_law 1879 = .ok (.aload_n 0, 1) := p_42 ndL_29 (by decide +kernel)
theorem dL_law_1880 : decode cL_law 1880 = .ok (.iload_n 3, 1) := p_29 ndL_29 (by decide +kernel)
theorem dL_law_1881 : decode cL_law 1881 = .ok (.iconst 3, 1) := p_6 ndL_29 (by decide +kernel)
theorem dL_law_1882 : decode cL_law 1882 = .ok (.iadd, 1) := p_96 ndL_29 (by decide +kernel)
theorem dL_law_1883 : decode cL_law 1883 = .ok (.iaload, 1) := p_46 ndL_29 (by decide +kernel)
theorem dL_law_1884 : decode cL_law 1884 = .ok (.aload_n 0, 1) := p_42 ndL_29 (by decide +kernel)
theorem dL_law_1885 : decode cL_law 1885 = .ok (.iload_n 3, 1) := p_29 ndL_29 (by decide +kernel)
theorem dL_law_1886 : decode cL_law 1886 = .ok (.iconst 4, 1) := p_7 ndL_29 (by decide +kernel)
theorem dL_law_1887 : decode cL_law 1887 = .ok (.iadd, 1) := p_96 ndL_29 (by decide +kernel)
theorem dL_law_1888 : decode cL_law 1888 = .ok (.iaload, 1) := p_46 ndL_29 (by decide +kernel)
theorem dL_law_1889 : decode cL_law 1889 = .ok (.ifCond .eq 7, 3) := p_153 ndL_29 7 (by decide +kernel) (by decide +kernel)
theorem dL_law_1892 : decode cL_law 1892 = .ok (.iconst 1, 1) := p_4 ndL_29 (by decide +kernel)
theorem dL_law_1893 : decode cL_law 1893 = .ok (.goto 4, 3) := p_167 ndL_29 4 (by decide +kernel) (by decide +kernel)
theorem dL_law_1896 : decode cL_law 1896 = .ok (.iconst 0, 1) := p_3 ndL_29 (by decide +kernel)
theorem dL_law_1897 : decode cL_law 1897 = .ok (.invokevirtual 198, 3) := p_182 ndL_29 (by decide +kernel)
theorem dL_law_1900 : decode cL_law 1900 = .ok (.pop2, 1) := p_88 ndL_29 (by decide +kernel)
theorem dL_law_1901 : decode cL_law 1901 = .ok (.goto 422, 3) := p_167 ndL_29 422 (by decide +kernel) (by decide +kernel)
theorem dL_law_1904 : decode cL_law 1904 = .ok (.aload_n 1, 1) := p_43 ndL_29 (by decide +kernel)
theorem dL_law_1905 : decode cL_law 1905 = .ok (.aload_n 0, 1) := p_42 ndL_29 (by decide +kernel)
theorem dL_law_1906 : decode cL_law 1906 = .ok (.iload_n 3, 1) := p_29 ndL_29 (by decide +kernel)
theorem dL_law_1907 : decode cL_law 1907 = .ok (.iconst 1, 1) := p_4 ndL_29 (by decide +kernel)
theorem dL_law_1908 : decode cL_law 1908 = .ok (.iadd, 1) := p_96 ndL_29 (by decide +kernel)
theorem dL_law_1909 : decode cL_law 1909 = .ok (.iaload, 1) := p_46 ndL_29 (by decide +kernel)
theorem dL_law_1910 : decode cL_law 1910 = .ok (.aload_n 0, 1) := p_42 ndL_29 (by decide +kernel)
theorem dL_law_1911 : decode cL_law 1911 = .ok (.iload_n 3, 1) := p_29 ndL_29 (by decide +kernel)
theorem dL_law_1912 : decode cL_law 1912 = .ok (.iconst 2, 1) := p_5 ndL_29 (by decide +kernel)
theorem dL_law_1913 : decode cL_law 1913 = .ok (.iadd, 1) := p_96 ndL_29 (by decide +kernel)
theorem dL_law_1914 : decode cL_law 1914 = .ok (.iaload, 1) := p_46 ndL_29 (by decide +kernel)
theorem dL_law_1915 : decode cL_law 1915 = .ok (.aload_n 0, 1) := p_42 ndL_29 (by decide +kernel)
theorem dL_law_1916 : decode cL_law 1916 = .ok (.iload_n 3, 1) := p_29 ndL_29 (by decide +kernel)
theorem dL_law_1917 : decode cL_law 1917 = .ok (.iconst 3, 1) := p_6 ndL_29 (by decide +kernel)
theorem dL_law_1918 : decode cL_law 1918 = .ok (.iadd, 1) := p_96 ndL_29 (by decide +kernel)
theorem dL_law_1919 : decode cL_law 1919 = .ok (.iaload, 1) := p_46 ndL_29 (by decide +kernel)
def nkL_30 : List Nat := [182, 0, 199, 88, 44, 42, 29, 4, 96, 46, 42, 29, 5, 96, 46, 42, 29, 6, 96, 46, 182, 0, 202, 88, 167, 1, 123, 43, 42, 29, 4, 96, 46, 42, 29, 5, 96, 46, 153, 0, 7, 4, 167, 0, 4, 3, 42, 29, 6, 96, 46, 182, 0, 203, 88, 44, 42, 29, 4, 96, 46, 42, 29, 5, 96, 46]
theorem ndL_30 : ((cL_law.data.toList.drop 1920).take 66).map UInt8.toNat = nkL_30 := by decide +kernel
theorem dL_law_1920 : decode cL_law 1920 = .ok (.invokevirtual 199, 3) := p_182 ndL_30 (by decide +kernel)
theorem dL_law_1923 : decode cL_law 1923 = .ok (.pop2, 1) := p_88 ndL_30 (by decide +kernel)
theorem dL_law_1924 : decode cL_law 1924 = .ok (.aload_n 2, 1) := p_44 ndL_30 (by decide +kernel)
theorem dL_law_1925 : decode cL_law 1925 = .ok (.aload_n 0, 1) := p_42 ndL_30 (by decide +kernel)
theorem dL_law_1926 : decode cL_law 1926 = .ok (.iload_n 3, 1) := p_29 ndL_30 (by decide +kernel)
theorem dL_law_1927 : decode cL_law 1927 = .ok (.iconst 1, 1) := p_4 ndL_30 (by decide +kernel)
theorem dL_law_1928 : decode cL_law 1928 = .ok (.iadd, 1) := p_96 ndL_30 (by decide +kernel)
theorem dL_law_1929 : decode cL_law 1929 = .ok (.iaload, 1) := p_46 ndL_30 (by decide +kernel)
theorem dL_law_1930 : decode cL_law 1930 = .ok (.aload_n 0, 1) := p_42 ndL_30 (by decide +kernel)
theorem dL_law_1931 : decode cL_law 1931 = .ok (.iload_n 3, 1) := p_29 ndL_30 (by decide +kernel)
theorem dL_law_1932 : decode cL_law 1932 = .ok (.iconst 2, 1) := p_5 ndL_30 (by decide +kernel)
theorem dL_law_1933 : decode cL_law 1933 = .ok (.iadd, 1) := p_96 ndL_30 (by decide +kernel)
theorem dL_law_1934 : decode cL_law 1934 = .ok (.iaload, 1) := p_46 ndL_30 (by decide +kernel)
theorem dL_law_1935 : decode cL_law 1935 = .ok (.aload_n 0, 1) := p_42 ndL_30 (by decide +kernel)
theorem dL_law_1936 : decode cL_law 1936 = .ok (.iload_n 3, 1) := p_29 ndL_30 (by decide +kernel)
theorem dL_law_1937 : decode cL_law 1937 = .ok (.iconst 3, 1) := p_6 ndL_30 (by decide +kernel)
theorem dL_law_1938 : decode cL_law 1938 = .ok (.iadd, 1) := p_96 ndL_30 (by decide +kernel)
theorem dL_law_1939 : decode cL_law 1939 = .ok (.iaload, 1) := p_46 ndL_30 (by decide +kernel)
theorem dL_law_1940 : decode cL_law 1940 = .ok (.invokevirtual 202, 3) := p_182 ndL_30 (by decide +kernel)
theorem dL_law_1943 : decode cL_law 1943 = .ok (.pop2, 1) := p_88 ndL_30 (by decide +kernel)
theorem dL_law_1944 : decode cL_law 1944 = .ok (.goto 379, 3) := p_167 ndL_30 379 (by decide +kernel) (by decide +kernel)
theorem dL_law_1947 : decode cL_law 1947 = .ok (.aload_n 1, 1) := p_43 ndL_30 (by decide +kernel)
theorem dL_law_1948 : decode cL_law 1948 = .ok (.aload_n 0, 1) := p_42 ndL_30 (by decide +kernel)
theorem dL_law_1949 : decode cL_law 1949 = .ok (.iload_n 3, 1) := p_29 ndL_30 (by decide +kernel)
theorem dL_law_1950 : decode cL_law 1950 = .ok (.iconst 1, 1) := p_4 ndL_30 (by decide +kernel)
theorem dL_law_1951 : decode cL_law 1951 = .ok (.iadd, 1) := p_96 ndL_30 (by decide +kernel)
theorem dL_law_1952 : decode cL_law 1952 = .ok (.iaload, 1) := p_46 ndL_30 (by decide +kernel)
theorem dL_law_1953 : decode cL_law 1953 = .ok (.aload_n 0, 1) := p_42 ndL_30 (by decide +kernel)
theorem dL_law_1954 : decode cL_law 1954 = .ok (.iload_n 3, 1) := p_29 ndL_30 (by decide +kernel)
theorem dL_law_1955 : decode cL_law 1955 = .ok (.iconst 2, 1) := p_5 ndL_30 (by decide +kernel)
theorem dL_law_1956 : decode cL_law 1956 = .ok (.iadd, 1) := p_96 ndL_30 (by decide +kernel)
theorem dL_law_1957 : decode cL_law 1957 = .ok (.iaload, 1) := p_46 ndL_30 (by decide +kernel)
theorem dL_law_1958 : decode cL_law 1958 = .ok (.ifCond .eq 7, 3) := p_153 ndL_30 7 (by decide +kernel) (by decide +kernel)
theorem dL_law_1961 : decode cL_law 1961 = .ok (.iconst 1, 1) := p_4 ndL_30 (by decide +kernel)
theorem dL_law_1962 : decode cL_law 1962 = .ok (.goto 4, 3) := p_167 ndL_30 4 (by decide +kernel) (by decide +kernel)
theorem dL_law_1965 : decode cL_law 1965 = .ok (.iconst 0, 1) := p_3 ndL_30 (by decide +kernel)
theorem dL_law_1966 : decode cL_law 1966 = .ok (.aload_n 0, 1) := p_42 ndL_30 (by decide +kernel)
theorem dL_law_1967 : decode cL_law 1967 = .ok (.iload_n 3, 1) := p_29 ndL_30 (by decide +kernel)
theorem dL_law_1968 : decode cL_law 1968 = .ok (.iconst 3, 1) := p_6 ndL_30 (by decide +kernel)
theorem dL_law_1969 : decode cL_law 1969 = .ok (.iadd, 1) := p_96 ndL_30 (by decide +kernel)
theorem dL_law_1970 : decode cL_law 1970 = .ok (.iaload, 1) := p_46 ndL_30 (by decide +kernel)
theorem dL_law_1971 : decode cL_law 1971 = .ok (.invokevirtual 203, 3) := p_182 ndL_30 (by decide +kernel)
theorem dL_law_1974 : decode cL_law 1974 = .ok (.pop2, 1) := p_88 ndL_30 (by decide +kernel)
theorem dL_law_1975 : decode cL_law 1975 = .ok (.aload_n 2, 1) := p_44 ndL_30 (by decide +kernel)
theorem dL_law_1976 : decode cL_law 1976 = .ok (.aload_n 0, 1) := p_42 ndL_30 (by decide +kernel)
theorem dL_law_1977 : decode cL_law 1977 = .ok (.iload_n 3, 1) := p_29 ndL_30 (by decide +kernel)
theorem dL_law_1978 : decode cL_law 1978 = .ok (.iconst 1, 1) := p_4 ndL_30 (by decide +kernel)
theorem dL_law_1979 : decode cL_law 1979 = .ok (.iadd, 1) := p_96 ndL_30 (by decide +kernel)
theorem dL_law_1980 : decode cL_law 1980 = .ok (.iaload, 1) := p_46 ndL_30 (by decide +kernel)
theorem dL_law_1981 : decode cL_law 1981 = .ok (.aload_n 0, 1) := p_42 ndL_30 (by decide +kernel)
theorem dL_law_1982 : decode cL_law 1982 = .ok (.iload_n 3, 1) := p_29 ndL_30 (by decide +kernel)
theorem dL_law_1983 : decode cL_law 1983 = .ok (.iconst 2, 1) := p_5 ndL_30 (by decide +kernel)
def nkL_31 : List Nat := [96, 46, 153, 0, 7, 4, 167, 0, 4, 3, 42, 29, 6, 96, 46, 182, 0, 207, 88, 167, 1, 64, 43, 42, 29, 4, 96, 46, 42, 29, 5, 96, 46, 182, 0, 208, 87, 44, 42, 29, 4, 96, 46, 42, 29, 5, 96, 46, 182, 0, 211, 87, 167, 1, 31, 43, 42, 29, 4, 96, 46, 42, 29, 5, 96, 46]
theorem ndL_31 : ((cL_law.data.toList.drop 1984).take 66).map UInt8.toNat = nkL_31 := by decide +kernel
theorem dL_law_1984 : decode cL_law 1984 = .ok (.iadd, 1) := p_96 ndL_31 (by decide +kernel)
theorem dL_law_1985 : decode cL_law 1985 = .ok (.iaload, 1) := p_46 ndL_31 (by decide +kernel)
theorem dL_law_1986 : decode cL_law 1986 = .ok (.ifCond .eq 7, 3) := p_153 ndL_31 7 (by decide +kernel) (by decide +kernel)
theorem dL_law_1989 : decode cL_law 1989 = .ok (.iconst 1, 1) := p_4 ndL_31 (by decide +kernel)
theorem dL_law_1990 : decode cL_law 1990 = .ok (.goto 4, 3) := p_167 ndL_31 4 (by decide +kernel) (by decide +kernel)
theorem dL_law_1993 : decode cL_law 1993 = .ok (.iconst 0, 1) := p_3 ndL_31 (by decide +kernel)
theorem dL_law_1994 : decode cL_law 1994 = .ok (.aload_n 0, 1) := p_42 ndL_31 (by decide +kernel)
theorem dL_law_1995 : decode cL_law 1995 = .ok (.iload_n 3, 1) := p_29 ndL_31 (by decide +kernel)
theorem dL_law_1996 : decode cL_law 1996 = .ok (.iconst 3, 1) := p_6 ndL_31 (by decide +kernel)
theorem dL_law_1997 : decode cL_law 1997 = .ok (.iadd, 1) := p_96 ndL_31 (by decide +kernel)
theorem dL_law_1998 : decode cL_law 1998 = .ok (.iaload, 1) := p_46 ndL_31 (by decide +kernel)
theorem dL_law_1999 : decode cL_law 1999 = .ok (.invokevirtual 207, 3) := p_182 ndL_31 (by decide +kernel)
theorem dL_law_2002 : decode cL_law 2002 = .ok (.pop2, 1) := p_88 ndL_31 (by decide +kernel)
theorem dL_law_2003 : decode cL_law 2003 = .ok (.goto 320, 3) := p_167 ndL_31 320 (by decide +kernel) (by decide +kernel)
theorem dL_law_2006 : decode cL_law 2006 = .ok (.aload_n 1, 1) := p_43 ndL_31 (by decide +kernel)
theorem dL_law_2007 : decode cL_law 2007 = .ok (.aload_n 0, 1) := p_42 ndL_31 (by decide +kernel)
theorem dL_law_2008 : decode cL_law 2008 = .ok (.iload_n 3, 1) := p_29 ndL_31 (by decide +kernel)
theorem dL_law_2009 : decode cL_law 2009 = .ok (.iconst 1, 1) := p_4 ndL_31 (by decide +kernel)
theorem dL_law_2010 : decode cL_law 2010 = .ok (.iadd, 1) := p_96 ndL_31 (by decide +kernel)
theorem dL_law_2011 : decode cL_law 2011 = .ok (.iaload, 1) := p_46 ndL_31 (by decide +kernel)
theorem dL_law_2012 : decode cL_law 2012 = .ok (.aload_n 0, 1) := p_42 ndL_31 (by decide +kernel)
theorem dL_law_2013 : decode cL_law 2013 = .ok (.iload_n 3, 1) := p_29 ndL_31 (by decide +kernel)
theorem dL_law_2014 : decode cL_law 2014 = .ok (.iconst 2, 1) := p_5 ndL_31 (by decide +kernel)
theorem dL_law_2015 : decode cL_law 2015 = .ok (.iadd, 1) := p_96 ndL_31 (by decide +kernel)
theorem dL_law_2016 : decode cL_law 2016 = .ok (.iaload, 1) := p_46 ndL_31 (by decide +kernel)
theorem dL_law_2017 : decode cL_law 2017 = .ok (.invokevirtual 208, 3) := p_182 ndL_31 (by decide +kernel)
theorem dL_law_2020 : decode cL_law 2020 = .ok (.pop, 1) := p_87 ndL_31 (by decide +kernel)
theorem dL_law_2021 : decode cL_law 2021 = .ok (.aload_n 2, 1) := p_44 ndL_31 (by decide +kernel)
theorem dL_law_2022 : decode cL_law 2022 = .ok (.aload_n 0, 1) := p_42 ndL_31 (by decide +kernel)
theorem dL_law_2023 : decode cL_law 2023 = .ok (.iload_n 3, 1) := p_29 ndL_31 (by decide +kernel)
theorem dL_law_2024 : decode cL_law 2024 = .ok (.iconst 1, 1) := p_4 ndL_31 (by decide +kernel)
theorem dL_law_2025 : decode cL_law 2025 = .ok (.iadd, 1) := p_96 ndL_31 (by decide +kernel)
theorem dL_law_2026 : decode cL_law 2026 = .ok (.iaload, 1) := p_46 ndL_31 (by decide +kernel)
theorem dL_law_2027 : decode cL_law 2027 = .ok (.aload_n 0, 1) := p_42 ndL_31 (by decide +kernel)
theorem dL_law_2028 : decode cL_law 2028 = .ok (.iload_n 3, 1) := p_29 ndL_31 (by decide +kernel)
theorem dL_law_2029 : decode cL_law 2029 = .ok (.iconst 2, 1) := p_5 ndL_31 (by decide +kernel)
theorem dL_law_2030 : decode cL_law 2030 = .ok (.iadd, 1) := p_96 ndL_31 (by decide +kernel)
theorem dL_law_2031 : decode cL_law 2031 = .ok (.iaload, 1) := p_46 ndL_31 (by decide +kernel)
theorem dL_law_2032 : decode cL_law 2032 = .ok (.invokevirtual 211, 3) := p_182 ndL_31 (by decide +kernel)
theorem dL_law_2035 : decode cL_law 2035 = .ok (.pop, 1) := p_87 ndL_31 (by decide +kernel)
theorem dL_law_2036 : decode cL_law 2036 = .ok (.goto 287, 3) := p_167 ndL_31 287 (by decide +kernel) (by decide +kernel)
theorem dL_law_2039 : decode cL_law 2039 = .ok (.aload_n 1, 1) := p_43 ndL_31 (by decide +kernel)
theorem dL_law_2040 : decode cL_law 2040 = .ok (.aload_n 0, 1) := p_42 ndL_31 (by decide +kernel)
theorem dL_law_2041 : decode cL_law 2041 = .ok (.iload_n 3, 1) := p_29 ndL_31 (by decide +kernel)
theorem dL_law_2042 : decode cL_law 2042 = .ok (.iconst 1, 1) := p_4 ndL_31 (by decide +kernel)
theorem dL_law_2043 : decode cL_law 2043 = .ok (.iadd, 1) := p_96 ndL_31 (by decide +kernel)
theorem dL_law_2044 : decode cL_law 2044 = .ok (.iaload, 1) := p_46 ndL_31 (by decide +kernel)
theorem dL_law_2045 : decode cL_law 2045 = .ok (.aload_n 0, 1) := p_42 ndL_31 (by decide +kernel)
theorem dL_law_2046 : decode cL_law 2046 = .ok (.iload_n 3, 1) := p_29 ndL_31 (by decide +kernel)
theorem dL_law_2047 : decode cL_law 2047 = .ok (.iconst 2, 1) := p_5 ndL_31 (by decide +kernel)
def nkL_32 : List Nat := [96, 46, 42, 29, 6, 96, 46, 42, 29, 7, 96, 46, 182, 0, 212, 88, 44, 42, 29, 4, 96, 46, 42, 29, 5, 96, 46, 42, 29, 6, 96, 46, 42, 29, 7, 96, 46, 182, 0, 215, 88, 167, 0, 234, 43, 42, 29, 4, 96, 46, 182, 0, 216, 88, 44, 42, 29, 4, 96, 46, 182, 0, 219, 88, 167, 0]
theorem ndL_32 : ((cL_law.data.toList.drop 2048).take 66).map UInt8.toNat = nkL_32 := by decide +kernel
theorem dL_law_2048 : decode cL_law 2048 = .ok (.iadd, 1) := p_96 ndL_32 (by decide +kernel)
theorem dL_law_2049 : decode cL_law 2049 = .ok (.iaload, 1) := p_46 ndL_32 (by decide +kernel)
theorem dL_law_2050 : decode cL_law 2050 = .ok (.aload_n 0, 1) := p_42 ndL_32 (by decide +kernel)
theorem dL_law_2051 : decode cL_law 2051 = .ok (.iload_n 3, 1) := p_29 ndL_32 (by decide +kernel)
theorem dL_law_2052 : decode cL_law 2052 = .ok (.iconst 3, 1) := p_6 ndL_32 (by decide +kernel)
theorem dL_law_2053 : decode cL_law 2053 = .ok (.iadd, 1) := p_96 ndL_32 (by decide +kernel)
theorem dL_law_2054 : decode cL_law 2054 = .ok (.iaload, 1) := p_46 ndL_32 (by decide +kernel)
theorem dL_law_2055 : decode cL_law 2055 = .ok (.aload_n 0, 1) := p_42 ndL_32 (by decide +kernel)
theorem dL_law_2056 : decode cL_law 2056 = .ok (.iload_n 3, 1) := p_29 ndL_32 (by decide +kernel)
theorem dL_law_2057 : decode cL_law 2057 = .ok (.iconst 4, 1) := p_7 ndL_32 (by decide +kernel)
theorem dL_law_2058 : decode cL_law 2058 = .ok (.iadd, 1) := p_96 ndL_32 (by decide +kernel)
theorem dL_law_2059 : decode cL_law 2059 = .ok (.iaload, 1) := p_46 ndL_32 (by decide +kernel)
theorem dL_law_2060 : decode cL_law 2060 = .ok (.invokevirtual 212, 3) := p_182 ndL_32 (by decide +kernel)
theorem dL_law_2063 : decode cL_law 2063 = .ok (.pop2, 1) := p_88 ndL_32 (by decide +kernel)
theorem dL_law_2064 : decode cL_law 2064 = .ok (.aload_n 2, 1) := p_44 ndL_32 (by decide +kernel)
theorem dL_law_2065 : decode cL_law 2065 = .ok (.aload_n 0, 1) := p_42 ndL_32 (by decide +kernel)
theorem dL_law_2066 : decode cL_law 2066 = .ok (.iload_n 3, 1) := p_29 ndL_32 (by decide +kernel)
theorem dL_law_2067 : decode cL_law 2067 = .ok (.iconst 1, 1) := p_4 ndL_32 (by decide +kernel)
theorem dL_law_2068 : decode cL_law 2068 = .ok (.iadd, 1) := p_96 ndL_32 (by decide +kernel)
theorem dL_law_2069 : decode cL_law 2069 = .ok (.iaload, 1) := p_46 ndL_32 (by decide +kernel)
theorem dL_law_2070 : decode cL_law 2070 = .ok (.aload_n 0, 1) := p_42 ndL_32 (by decide +kernel)
theorem dL_law_2071 : decode cL_law 2071 = .ok (.iload_n 3, 1) := p_29 ndL_32 (by decide +kernel)
theorem dL_law_2072 : decode cL_law 2072 = .ok (.iconst 2, 1) := p_5 ndL_32 (by decide +kernel)
theorem dL_law_2073 : decode cL_law 2073 = .ok (.iadd, 1) := p_96 ndL_32 (by decide +kernel)
theorem dL_law_2074 : decode cL_law 2074 = .ok (.iaload, 1) := p_46 ndL_32 (by decide +kernel)
theorem dL_law_2075 : decode cL_law 2075 = .ok (.aload_n 0, 1) := p_42 ndL_32 (by decide +kernel)
theorem dL_law_2076 : decode cL_law 2076 = .ok (.iload_n 3, 1) := p_29 ndL_32 (by decide +kernel)
theorem dL_law_2077 : decode cL_law 2077 = .ok (.iconst 3, 1) := p_6 ndL_32 (by decide +kernel)
theorem dL_law_2078 : decode cL_law 2078 = .ok (.iadd, 1) := p_96 ndL_32 (by decide +kernel)
theorem dL_law_2079 : decode cL_law 2079 = .ok (.iaload, 1) := p_46 ndL_32 (by decide +kernel)
theorem dL_law_2080 : decode cL_law 2080 = .ok (.aload_n 0, 1) := p_42 ndL_32 (by decide +kernel)
theorem dL_law_2081 : decode cL_law 2081 = .ok (.iload_n 3, 1) := p_29 ndL_32 (by decide +kernel)
theorem dL_law_2082 : decode cL_law 2082 = .ok (.iconst 4, 1) := p_7 ndL_32 (by decide +kernel)
theorem dL_law_2083 : decode cL_law 2083 = .ok (.iadd, 1) := p_96 ndL_32 (by decide +kernel)
theorem dL_law_2084 : decode cL_law 2084 = .ok (.iaload, 1) := p_46 ndL_32 (by decide +kernel)
theorem dL_law_2085 : decode cL_law 2085 = .ok (.invokevirtual 215, 3) := p_182 ndL_32 (by decide +kernel)
theorem dL_law_2088 : decode cL_law 2088 = .ok (.pop2, 1) := p_88 ndL_32 (by decide +kernel)
theorem dL_law_2089 : decode cL_law 2089 = .ok (.goto 234, 3) := p_167 ndL_32 234 (by decide +kernel) (by decide +kernel)
theorem dL_law_2092 : decode cL_law 2092 = .ok (.aload_n 1, 1) := p_43 ndL_32 (by decide +kernel)
theorem dL_law_2093 : decode cL_law 2093 = .ok (.aload_n 0, 1) := p_42 ndL_32 (by decide +kernel)
theorem dL_law_2094 : decode cL_law 2094 = .ok (.iload_n 3, 1) := p_29 ndL_32 (by decide +kernel)
theorem dL_law_2095 : decode cL_law 2095 = .ok (.iconst 1, 1) := p_4 ndL_32 (by decide +kernel)
theorem dL_law_2096 : decode cL_law 2096 = .ok (.iadd, 1) := p_96 ndL_32 (by decide +kernel)
theorem dL_law_2097 : decode cL_law 2097 = .ok (.iaload, 1) := p_46 ndL_32 (by decide +kernel)
theorem dL_law_2098 : decode cL_law 2098 = .ok (.invokevirtual 216, 3) := p_182 ndL_32 (by decide +kernel)
theorem dL_law_2101 : decode cL_law 2101 = .ok (.pop2, 1) := p_88 ndL_32 (by decide +kernel)
theorem dL_law_2102 : decode cL_law 2102 = .ok (.aload_n 2, 1) := p_44 ndL_32 (by decide +kernel)
theorem dL_law_2103 : decode cL_law 2103 = .ok (.aload_n 0, 1) := p_42 ndL_32 (by decide +kernel)
theorem dL_law_2104 : decode cL_law 2104 = .ok (.iload_n 3, 1) := p_29 ndL_32 (by decide +kernel)
theorem dL_law_2105 : decode cL_law 2105 = .ok (.iconst 1, 1) := p_4 ndL_32 (by decide +kernel)
theorem dL_law_2106 : decode cL_law 2106 = .ok (.iadd, 1) := p_96 ndL_32 (by decide +kernel)
theorem dL_law_2107 : decode cL_law 2107 = .ok (.iaload, 1) := p_46 ndL_32 (by decide +kernel)
theorem dL_law_2108 : decode cL_law 2108 = .ok (.invokevirtual 219, 3) := p_182 ndL_32 (by decide +kernel)
theorem dL_law_2111 : decode cL_law 2111 = .ok (.pop2, 1) := p_88 ndL_32 (by decide +kernel)
def nkL_33 : List Nat := [167, 0, 211, 43, 42, 29, 4, 96, 46, 42, 29, 5, 96, 46, 182, 0, 220, 87, 44, 42, 29, 4, 96, 46, 42, 29, 5, 96, 46, 182, 0, 223, 87, 167, 0, 178, 43, 42, 29, 4, 96, 46, 42, 29, 5, 96, 46, 42, 29, 6, 96, 46, 182, 0, 224, 87, 44, 42, 29, 4, 96, 46, 42, 29, 5, 96]
theorem ndL_33 : ((cL_law.data.toList.drop 2112).take 66).map UInt8.toNat = nkL_33 := by decide +kernel
theorem dL_law_2112 : decode cL_law 2112 = .ok (.goto 211, 3) := p_167 ndL_33 211 (by decide +kernel) (by decide +kernel)
theorem dL_law_2115 : decode cL_law 2115 = .ok (.aload_n 1, 1) := p_43 ndL_33 (by decide +kernel)
theorem dL_law_2116 : decode cL_law 2116 = .ok (.aload_n 0, 1) := p_42 ndL_33 (by decide +kernel)
theorem dL_law_2117 : decode cL_law 2117 = .ok (.iload_n 3, 1) := p_29 ndL_33 (by decide +kernel)
theorem dL_law_2118 : decode cL_law 2118 = .ok (.iconst 1, 1) := p_4 ndL_33 (by decide +kernel)
theorem dL_law_2119 : decode cL_law 2119 = .ok (.iadd, 1) := p_96 ndL_33 (by decide +kernel)
theorem dL_law_2120 : decode cL_law 2120 = .ok (.iaload, 1) := p_46 ndL_33 (by decide +kernel)
theorem dL_law_2121 : decode cL_law 2121 = .ok (.aload_n 0, 1) := p_42 ndL_33 (by decide +kernel)
theorem dL_law_2122 : decode cL_law 2122 = .ok (.iload_n 3, 1) := p_29 ndL_33 (by decide +kernel)
theorem dL_law_2123 : decode cL_law 2123 = .ok (.iconst 2, 1) := p_5 ndL_33 (by decide +kernel)
theorem dL_law_2124 : decode cL_law 2124 = .ok (.iadd, 1) := p_96 ndL_33 (by decide +kernel)
theorem dL_law_2125 : decode cL_law 2125 = .ok (.iaload, 1) := p_46 ndL_33 (by decide +kernel)
theorem dL_law_2126 : decode cL_law 2126 = .ok (.invokevirtual 220, 3) := p_182 ndL_33 (by decide +kernel)
theorem dL_law_2129 : decode cL_law 2129 = .ok (.pop, 1) := p_87 ndL_33 (by decide +kernel)
theorem dL_law_2130 : decode cL_law 2130 = .ok (.aload_n 2, 1) := p_44 ndL_33 (by decide +kernel)
theorem dL_law_2131 : decode cL_law 2131 = .ok (.aload_n 0, 1) := p_42 ndL_33 (by decide +kernel)
theorem dL_law_2132 : decode cL_law 2132 = .ok (.iload_n 3, 1) := p_29 ndL_33 (by decide +kernel)
theorem dL_law_2133 : decode cL_law 2133 = .ok (.iconst 1, 1) := p_4 ndL_33 (by decide +kernel)
theorem dL_law_2134 : decode cL_law 2134 = .ok (.iadd, 1) := p_96 ndL_33 (by decide +kernel)
theorem dL_law_2135 : decode cL_law 2135 = .ok (.iaload, 1) := p_46 ndL_33 (by decide +kernel)
theorem dL_law_2136 : decode cL_law 2136 = .ok (.aload_n 0, 1) := p_42 ndL_33 (by decide +kernel)
theorem dL_law_2137 : decode cL_law 2137 = .ok (.iload_n 3, 1) := p_29 ndL_33 (by decide +kernel)
theorem dL_law_2138 : decode cL_law 2138 = .ok (.iconst 2, 1) := p_5 ndL_33 (by decide +kernel)
theorem dL_law_2139 : decode cL_law 2139 = .ok (.iadd, 1) := p_96 ndL_33 (by decide +kernel)
theorem dL_law_2140 : decode cL_law 2140 = .ok (.iaload, 1) := p_46 ndL_33 (by decide +kernel)
theorem dL_law_2141 : decode cL_law 2141 = .ok (.invokevirtual 223, 3) := p_182 ndL_33 (by decide +kernel)
theorem dL_law_2144 : decode cL_law 2144 = .ok (.pop, 1) := p_87 ndL_33 (by decide +kernel)
theorem dL_law_2145 : decode cL_law 2145 = .ok (.goto 178, 3) := p_167 ndL_33 178 (by decide +kernel) (by decide +kernel)
theorem dL_law_2148 : decode cL_law 2148 = .ok (.aload_n 1, 1) := p_43 ndL_33 (by decide +kernel)
theorem dL_law_2149 : decode cL_law 2149 = .ok (.aload_n 0, 1) := p_42 ndL_33 (by decide +kernel)
theorem dL_law_2150 : decode cL_law 2150 = .ok (.iload_n 3, 1) := p_29 ndL_33 (by decide +kernel)
theorem dL_law_2151 : decode cL_law 2151 = .ok (.iconst 1, 1) := p_4 ndL_33 (by decide +kernel)
theorem dL_law_2152 : decode cL_law 2152 = .ok (.iadd, 1) := p_96 ndL_33 (by decide +kernel)
theorem dL_law_2153 : decode cL_law 2153 = .ok (.iaload, 1) := p_46 ndL_33 (by decide +kernel)
theorem dL_law_2154 : decode cL_law 2154 = .ok (.aload_n 0, 1) := p_42 ndL_33 (by decide +kernel)
theorem dL_law_2155 : decode cL_law 2155 = .ok (.iload_n 3, 1) := p_29 ndL_33 (by decide +kernel)
theorem dL_law_2156 : decode cL_law 2156 = .ok (.iconst 2, 1) := p_5 ndL_33 (by decide +kernel)
theorem dL_law_2157 : decode cL_law 2157 = .ok (.iadd, 1) := p_96 ndL_33 (by decide +kernel)
theorem dL_law_2158 : decode cL_law 2158 = .ok (.iaload, 1) := p_46 ndL_33 (by decide +kernel)
theorem dL_law_2159 : decode cL_law 2159 = .ok (.aload_n 0, 1) := p_42 ndL_33 (by decide +kernel)
theorem dL_law_2160 : decode cL_law 2160 = .ok (.iload_n 3, 1) := p_29 ndL_33 (by decide +kernel)
theorem dL_law_2161 : decode cL_law 2161 = .ok (.iconst 3, 1) := p_6 ndL_33 (by decide +kernel)
theorem dL_law_2162 : decode cL_law 2162 = .ok (.iadd, 1) := p_96 ndL_33 (by decide +kernel)
theorem dL_law_2163 : decode cL_law 2163 = .ok (.iaload, 1) := p_46 ndL_33 (by decide +kernel)
theorem dL_law_2164 : decode cL_law 2164 = .ok (.invokevirtual 224, 3) := p_182 ndL_33 (by decide +kernel)
theorem dL_law_2167 : decode cL_law 2167 = .ok (.pop, 1) := p_87 ndL_33 (by decide +kernel)
theorem dL_law_2168 : decode cL_law 2168 = .ok (.aload_n 2, 1) := p_44 ndL_33 (by decide +kernel)
theorem dL_law_2169 : decode cL_law 2169 = .ok (.aload_n 0, 1) := p_42 ndL_33 (by decide +kernel)
theorem dL_law_2170 : decode cL_law 2170 = .ok (.iload_n 3, 1) := p_29 ndL_33 (by decide +kernel)
theorem dL_law_2171 : decode cL_law 2171 = .ok (.iconst 1, 1) := p_4 ndL_33 (by decide +kernel)
theorem dL_law_2172 : decode cL_law 2172 = .ok (.iadd, 1) := p_96 ndL_33 (by decide +kernel)
theorem dL_law_2173 : decode cL_law 2173 = .ok (.iaload, 1) := p_46 ndL_33 (by decide +kernel)
theorem dL_law_2174 : decode cL_law 2174 = .ok (.aload_n 0, 1) := p_42 ndL_33 (by decide +kernel)
theorem dL_law_2175 : decode cL_law 2175 = .ok (.iload_n 3, 1) := p_29 ndL_33 (by decide +kernel)
def nkL_34 : List Nat := [5, 96, 46, 42, 29, 6, 96, 46, 182, 0, 227, 87, 167, 0, 135, 43, 42, 29, 4, 96, 46, 153, 0, 7, 4, 167, 0, 4, 3, 182, 0, 228, 87, 44, 42, 29, 4, 96, 46, 153, 0, 7, 4, 167, 0, 4, 3, 182, 0, 231, 87, 167, 0, 96, 43, 42, 29, 4, 96, 46, 42, 29, 5, 96, 46, 42]
theorem ndL_34 : ((cL_law.data.toList.drop 2176).take 66).map UInt8.toNat = nkL_34 := by decide +kernel
theorem dL_law_2176 : decode cL_law 2176 = .ok (.iconst 2, 1) := p_5 ndL_34 (by decide +kernel)
theorem dL_law_2177 : decode cL_law 2177 = .ok (.iadd, 1) := p_96 ndL_34 (by decide +kernel)
theorem dL_law_2178 : decode cL_law 2178 = .ok (.iaload, 1) := p_46 ndL_34 (by decide +kernel)
theorem dL_law_2179 : decode cL_law 2179 = .ok (.aload_n 0, 1) := p_42 ndL_34 (by decide +kernel)
theorem dL_law_2180 : decode cL_law 2180 = .ok (.iload_n 3, 1) := p_29 ndL_34 (by decide +kernel)
theorem dL_law_2181 : decode cL_law 2181 = .ok (.iconst 3, 1) := p_6 ndL_34 (by decide +kernel)
theorem dL_law_2182 : decode cL_law 2182 = .ok (.iadd, 1) := p_96 ndL_34 (by decide +kernel)
theorem dL_law_2183 : decode cL_law 2183 = .ok (.iaload, 1) := p_46 ndL_34 (by decide +kernel)
theorem dL_law_2184 : decode cL_law 2184 = .ok (.invokevirtual 227, 3) := p_182 ndL_34 (by decide +kernel)
theorem dL_law_2187 : decode cL_law 2187 = .ok (.pop, 1) := p_87 ndL_34 (by decide +kernel)
theorem dL_law_2188 : decode cL_law 2188 = .ok (.goto 135, 3) := p_167 ndL_34 135 (by decide +kernel) (by decide +kernel)
theorem dL_law_2191 : decode cL_law 2191 = .ok (.aload_n 1, 1) := p_43 ndL_34 (by decide +kernel)
theorem dL_law_2192 : decode cL_law 2192 = .ok (.aload_n 0, 1) := p_42 ndL_34 (by decide +kernel)
theorem dL_law_2193 : decode cL_law 2193 = .ok (.iload_n 3, 1) := p_29 ndL_34 (by decide +kernel)
theorem dL_law_2194 : decode cL_law 2194 = .ok (.iconst 1, 1) := p_4 ndL_34 (by decide +kernel)
theorem dL_law_2195 : decode cL_law 2195 = .ok (.iadd, 1) := p_96 ndL_34 (by decide +kernel)
theorem dL_law_2196 : decode cL_law 2196 = .ok (.iaload, 1) := p_46 ndL_34 (by decide +kernel)
theorem dL_law_2197 : decode cL_law 2197 = .ok (.ifCond .eq 7, 3) := p_153 ndL_34 7 (by decide +kernel) (by decide +kernel)
theorem dL_law_2200 : decode cL_law 2200 = .ok (.iconst 1, 1) := p_4 ndL_34 (by decide +kernel)
theorem dL_law_2201 : decode cL_law 2201 = .ok (.goto 4, 3) := p_167 ndL_34 4 (by decide +kernel) (by decide +kernel)
theorem dL_law_2204 : decode cL_law 2204 = .ok (.iconst 0, 1) := p_3 ndL_34 (by decide +kernel)
theorem dL_law_2205 : decode cL_law 2205 = .ok (.invokevirtual 228, 3) := p_182 ndL_34 (by decide +kernel)
theorem dL_law_2208 : decode cL_law 2208 = .ok (.pop, 1) := p_87 ndL_34 (by decide +kernel)
theorem dL_law_2209 : decode cL_law 2209 = .ok (.aload_n 2, 1) := p_44 ndL_34 (by decide +kernel)
theorem dL_law_2210 : decode cL_law 2210 = .ok (.aload_n 0, 1) := p_42 ndL_34 (by decide +kernel)
theorem dL_law_2211 : decode cL_law 2211 = .ok (.iload_n 3, 1) := p_29 ndL_34 (by decide +kernel)
theorem dL_law_2212 : decode cL_law 2212 = .ok (.iconst 1, 1) := p_4 ndL_34 (by decide +kernel)
theorem dL_law_2213 : decode cL_law 2213 = .ok (.iadd, 1) := p_96 ndL_34 (by decide +kernel)
theorem dL_law_2214 : decode cL_law 2214 = .ok (.iaload, 1) := p_46 ndL_34 (by decide +kernel)
theorem dL_law_2215 : decode cL_law 2215 = .ok (.ifCond .eq 7, 3) := p_153 ndL_34 7 (by decide +kernel) (by decide +kernel)
theorem dL_law_2218 : decode cL_law 2218 = .ok (.iconst 1, 1) := p_4 ndL_34 (by decide +kernel)
theorem dL_law_2219 : decode cL_law 2219 = .ok (.goto 4, 3) := p_167 ndL_34 4 (by decide +kernel) (by decide +kernel)
theorem dL_law_2222 : decode cL_law 2222 = .ok (.iconst 0, 1) := p_3 ndL_34 (by decide +kernel)
theorem dL_law_2223 : decode cL_law 2223 = .ok (.invokevirtual 231, 3) := p_182 ndL_34 (by decide +kernel)
theorem dL_law_2226 : decode cL_law 2226 = .ok (.pop, 1) := p_87 ndL_34 (by decide +kernel)
theorem dL_law_2227 : decode cL_law 2227 = .ok (.goto 96, 3) := p_167 ndL_34 96 (by decide +kernel) (by decide +kernel)
theorem dL_law_2230 : decode cL_law 2230 = .ok (.aload_n 1, 1) := p_43 ndL_34 (by decide +kernel)
theorem dL_law_2231 : decode cL_law 2231 = .ok (.aload_n 0, 1) := p_42 ndL_34 (by decide +kernel)
theorem dL_law_2232 : decode cL_law 2232 = .ok (.iload_n 3, 1) := p_29 ndL_34 (by decide +kernel)
theorem dL_law_2233 : decode cL_law 2233 = .ok (.iconst 1, 1) := p_4 ndL_34 (by decide +kernel)
theorem dL_law_2234 : decode cL_law 2234 = .ok (.iadd, 1) := p_96 ndL_34 (by decide +kernel)
theorem dL_law_2235 : decode cL_law 2235 = .ok (.iaload, 1) := p_46 ndL_34 (by decide +kernel)
theorem dL_law_2236 : decode cL_law 2236 = .ok (.aload_n 0, 1) := p_42 ndL_34 (by decide +kernel)
theorem dL_law_2237 : decode cL_law 2237 = .ok (.iload_n 3, 1) := p_29 ndL_34 (by decide +kernel)
theorem dL_law_2238 : decode cL_law 2238 = .ok (.iconst 2, 1) := p_5 ndL_34 (by decide +kernel)
theorem dL_law_2239 : decode cL_law 2239 = .ok (.iadd, 1) := p_96 ndL_34 (by decide +kernel)
def nkL_35 : List Nat := [46, 42, 29, 6, 96, 46, 182, 0, 232, 44, 42, 29, 4, 96, 46, 42, 29, 5, 96, 46, 42, 29, 6, 96, 46, 182, 0, 235, 148, 153, 0, 54, 3, 172, 43, 42, 29, 4, 96, 46, 182, 0, 236, 87, 44, 42, 29, 4, 96, 46, 182, 0, 239, 87, 167, 0, 29, 43, 182, 0, 240, 87, 44, 182, 0, 244]
theorem ndL_35 : ((cL_law.data.toList.drop 2240).take 66).map UInt8.toNat = nkL_35 := by decide +kernel
theorem dL_law_2240 : decode cL_law 2240 = .ok (.iaload, 1) := p_46 ndL_35 (by decide +kernel)
theorem dL_law_2241 : decode cL_law 2241 = .ok (.aload_n 0, 1) := p_42 ndL_35 (by decide +kernel)
theorem dL_law_2242 : decode cL_law 2242 = .ok (.iload_n 3, 1) := p_29 ndL_35 (by decide +kernel)
theorem dL_law_2243 : decode cL_law 2243 = .ok (.iconst 3, 1) := p_6 ndL_35 (by decide +kernel)
theorem dL_law_2244 : decode cL_law 2244 = .ok (.iadd, 1) := p_96 ndL_35 (by decide +kernel)
theorem dL_law_2245 : decode cL_law 2245 = .ok (.iaload, 1) := p_46 ndL_35 (by decide +kernel)
theorem dL_law_2246 : decode cL_law 2246 = .ok (.invokevirtual 232, 3) := p_182 ndL_35 (by decide +kernel)
theorem dL_law_2249 : decode cL_law 2249 = .ok (.aload_n 2, 1) := p_44 ndL_35 (by decide +kernel)
theorem dL_law_2250 : decode cL_law 2250 = .ok (.aload_n 0, 1) := p_42 ndL_35 (by decide +kernel)
theorem dL_law_2251 : decode cL_law 2251 = .ok (.iload_n 3, 1) := p_29 ndL_35 (by decide +kernel)
theorem dL_law_2252 : decode cL_law 2252 = .ok (.iconst 1, 1) := p_4 ndL_35 (by decide +kernel)
theorem dL_law_2253 : decode cL_law 2253 = .ok (.iadd, 1) := p_96 ndL_35 (by decide +kernel)
theorem dL_law_2254 : decode cL_law 2254 = .ok (.iaload, 1) := p_46 ndL_35 (by decide +kernel)
theorem dL_law_2255 : decode cL_law 2255 = .ok (.aload_n 0, 1) := p_42 ndL_35 (by decide +kernel)
theorem dL_law_2256 : decode cL_law 2256 = .ok (.iload_n 3, 1) := p_29 ndL_35 (by decide +kernel)
theorem dL_law_2257 : decode cL_law 2257 = .ok (.iconst 2, 1) := p_5 ndL_35 (by decide +kernel)
theorem dL_law_2258 : decode cL_law 2258 = .ok (.iadd, 1) := p_96 ndL_35 (by decide +kernel)
theorem dL_law_2259 : decode cL_law 2259 = .ok (.iaload, 1) := p_46 ndL_35 (by decide +kernel)
theorem dL_law_2260 : decode cL_law 2260 = .ok (.aload_n 0, 1) := p_42 ndL_35 (by decide +kernel)
theorem dL_law_2261 : decode cL_law 2261 = .ok (.iload_n 3, 1) := p_29 ndL_35 (by decide +kernel)
theorem dL_law_2262 : decode cL_law 2262 = .ok (.iconst 3, 1) := p_6 ndL_35 (by decide +kernel)
theorem dL_law_2263 : decode cL_law 2263 = .ok (.iadd, 1) := p_96 ndL_35 (by decide +kernel)
theorem dL_law_2264 : decode cL_law 2264 = .ok (.iaload, 1) := p_46 ndL_35 (by decide +kernel)
theorem dL_law_2265 : decode cL_law 2265 = .ok (.invokevirtual 235, 3) := p_182 ndL_35 (by decide +kernel)
theorem dL_law_2268 : decode cL_law 2268 = .ok (.lcmp, 1) := p_148 ndL_35 (by decide +kernel)
theorem dL_law_2269 : decode cL_law 2269 = .ok (.ifCond .eq 54, 3) := p_153 ndL_35 54 (by decide +kernel) (by decide +kernel)
theorem dL_law_2272 : decode cL_law 2272 = .ok (.iconst 0, 1) := p_3 ndL_35 (by decide +kernel)
theorem dL_law_2273 : decode cL_law 2273 = .ok (.ireturn, 1) := p_172 ndL_35 (by decide +kernel)
theorem dL_law_2274 : decode cL_law 2274 = .ok (.aload_n 1, 1) := p_43 ndL_35 (by decide +kernel)
theorem dL_law_2275 : decode cL_law 2275 = .ok (.aload_n 0, 1) := p_42 ndL_35 (by decide +kernel)
theorem dL_law_2276 : decode cL_law 2276 = .ok (.iload_n 3, 1) := p_29 ndL_35 (by decide +kernel)
theorem dL_law_2277 : decode cL_law 2277 = .ok (.iconst 1, 1) := p_4 ndL_35 (by decide +kernel)
theorem dL_law_2278 : decode cL_law 2278 = .ok (.iadd, 1) := p_96 ndL_35 (by decide +kernel)
theorem dL_law_2279 : decode cL_law 2279 = .ok (.iaload, 1) := p_46 ndL_35 (by decide +kernel)
theorem dL_law_2280 : decode cL_law 2280 = .ok (.invokevirtual 236, 3) := p_182 ndL_35 (by decide +kernel)
theorem dL_law_2283 : decode cL_law 2283 = .ok (.pop, 1) := p_87 ndL_35 (by decide +kernel)
theorem dL_law_2284 : decode cL_law 2284 = .ok (.aload_n 2, 1) := p_44 ndL_35 (by decide +kernel)
theorem dL_law_2285 : decode cL_law 2285 = .ok (.aload_n 0, 1) := p_42 ndL_35 (by decide +kernel)
theorem dL_law_2286 : decode cL_law 2286 = .ok (.iload_n 3, 1) := p_29 ndL_35 (by decide +kernel)
theorem dL_law_2287 : decode cL_law 2287 = .ok (.iconst 1, 1) := p_4 ndL_35 (by decide +kernel)
theorem dL_law_2288 : decode cL_law 2288 = .ok (.iadd, 1) := p_96 ndL_35 (by decide +kernel)
theorem dL_law_2289 : decode cL_law 2289 = .ok (.iaload, 1) := p_46 ndL_35 (by decide +kernel)
theorem dL_law_2290 : decode cL_law 2290 = .ok (.invokevirtual 239, 3) := p_182 ndL_35 (by decide +kernel)
theorem dL_law_2293 : decode cL_law 2293 = .ok (.pop, 1) := p_87 ndL_35 (by decide +kernel)
theorem dL_law_2294 : decode cL_law 2294 = .ok (.goto 29, 3) := p_167 ndL_35 29 (by decide +kernel) (by decide +kernel)
theorem dL_law_2297 : decode cL_law 2297 = .ok (.aload_n 1, 1) := p_43 ndL_35 (by decide +kernel)
theorem dL_law_2298 : decode cL_law 2298 = .ok (.invokevirtual 240, 3) := p_182 ndL_35 (by decide +kernel)
theorem dL_law_2301 : decode cL_law 2301 = .ok (.pop, 1) := p_87 ndL_35 (by decide +kernel)
theorem dL_law_2302 : decode cL_law 2302 = .ok (.aload_n 2, 1) := p_44 ndL_35 (by decide +kernel)
theorem dL_law_2303 : decode cL_law 2303 = .ok (.invokevirtual 244, 3) := p_182 ndL_35 (by decide +kernel)
def nkL_36 : List Nat := [0, 244, 87, 167, 0, 16, 43, 182, 0, 245, 87, 44, 182, 0, 248, 87, 167, 0, 3, 132, 3, 6, 167, 246, 252, 4, 172]
theorem ndL_36 : ((cL_law.data.toList.drop 2304).take 66).map UInt8.toNat = nkL_36 := by decide +kernel
theorem dL_law_2306 : decode cL_law 2306 = .ok (.pop, 1) := p_87 ndL_36 (by decide +kernel)
theorem dL_law_2307 : decode cL_law 2307 = .ok (.goto 16, 3) := p_167 ndL_36 16 (by decide +kernel) (by decide +kernel)
theorem dL_law_2310 : decode cL_law 2310 = .ok (.aload_n 1, 1) := p_43 ndL_36 (by decide +kernel)
theorem dL_law_2311 : decode cL_law 2311 = .ok (.invokevirtual 245, 3) := p_182 ndL_36 (by decide +kernel)
theorem dL_law_2314 : decode cL_law 2314 = .ok (.pop, 1) := p_87 ndL_36 (by decide +kernel)
theorem dL_law_2315 : decode cL_law 2315 = .ok (.aload_n 2, 1) := p_44 ndL_36 (by decide +kernel)
theorem dL_law_2316 : decode cL_law 2316 = .ok (.invokevirtual 248, 3) := p_182 ndL_36 (by decide +kernel)
theorem dL_law_2319 : decode cL_law 2319 = .ok (.pop, 1) := p_87 ndL_36 (by decide +kernel)
theorem dL_law_2320 : decode cL_law 2320 = .ok (.goto 3, 3) := p_167 ndL_36 3 (by decide +kernel) (by decide +kernel)
theorem dL_law_2323 : decode cL_law 2323 = .ok (.iinc 3 6, 3) := by decide +kernel
theorem dL_law_2326 : decode cL_law 2326 = .ok (.goto (-2308), 3) := p_167 ndL_36 63228 (by decide +kernel) (by decide +kernel)
theorem dL_law_2329 : decode cL_law 2329 = .ok (.iconst 1, 1) := p_4 ndL_36 (by decide +kernel)
theorem dL_law_2330 : decode cL_law 2330 = .ok (.ireturn, 1) := p_172 ndL_36 (by decide +kernel)
end
section
def nkcX9_init_0 : List Nat := [42, 183, 0, 1, 42, 17, 0, 200, 188, 8, 181, 0, 7, 42, 16, 18, 188, 10, 181, 0, 13, 42, 17, 0, 135, 188, 10, 181, 0, 17, 42, 16, 6, 188, 10, 181, 0, 20, 42, 16, 6, 188, 10, 181, 0, 23, 42, 16, 49, 188, 11, 181, 0, 26, 42, 17, 3, 16, 188, 11, 181, 0, 30, 42, 17, 3]
theorem ndcX9_init_0 : ((cX9_init.data.toList.drop 0).take 66).map UInt8.toNat = nkcX9_init_0 := by decide +kernel
theorem dX9_init_0 : decode cX9_init 0 = .ok (.aload_n 0, 1) := p_42 ndcX9_init_0 (by decide +kernel)
theorem dX9_init_1 : decode cX9_init 1 = .ok (.invokespecial 1, 3) := p_183 ndcX9_init_0 (by decide +kernel)
theorem dX9_init_4 : decode cX9_init 4 = .ok (.aload_n 0, 1) := p_42 ndcX9_init_0 (by decide +kernel)
theorem dX9_init_5 : decode cX9_init 5 = .ok (.sipush 200, 3) := p_17 ndcX9_init_0 200 (by decide +kernel) (by decide +kernel)
theorem dX9_init_8 : decode cX9_init 8 = .ok (.newarray .byte, 2) := by decide +kernel
theorem dX9_init_10 : decode cX9_init 10 = .ok (.putfield 7, 3) := p_181 ndcX9_init_0 (by decide +kernel)
theorem dX9_init_13 : decode cX9_init 13 = .ok (.aload_n 0, 1) := p_42 ndcX9_init_0 (by decide +kernel)
theorem dX9_init_14 : decode cX9_init 14 = .ok (.bipush 18, 2) := p_16 ndcX9_init_0 18 (by decide +kernel) (by decide +kernel)
theorem dX9_init_16 : decode cX9_init 16 = .ok (.newarray .int, 2) := by decide +kernel
theorem dX9_init_18 : decode cX9_init 18 = .ok (.putfield 13, 3) := p_181 ndcX9_init_0 (by decide +kernel)
theorem dX9_init_21 : decode cX9_init 21 = .ok (.aload_n 0, 1) := p_42 ndcX9_init_0 (by decide +kernel)
theorem dX9_init_22 : decode cX9_init 22 = .ok (.sipush 135, 3) := p_17 ndcX9_init_0 135 (by decide +kernel) (by decide +kernel)
theorem dX9_init_25 : decode cX9_init 25 = .ok (.newarray .int, 2) := by decide +kernel
theorem dX9_init_27 : decode cX9_init 27 = .ok (.putfield 17, 3) := p_181 ndcX9_init_0 (by decide +kernel)
theorem dX9_init_30 : decode cX9_init 30 = .ok (.aload_n 0, 1) := p_42 ndcX9_init_0 (by decide +kernel)
theorem dX9_init_31 : decode cX9_init 31 = .ok (.bipush 6, 2) := p_16 ndcX9_init_0 6 (by decide +kernel) (by decide +kernel)
theorem dX9_init_33 : decode cX9_init 33 = .ok (.newarray .int, 2) := by decide +kernel
theorem dX9_init_35 : decode cX9_init 35 = .ok (.putfield 20, 3) := p_181 ndcX9_init_0 (by decide +kernel)
theorem dX9_init_38 : decode cX9_init 38 = .ok (.aload_n 0, 1) := p_42 ndcX9_init_0 (by decide +kernel)
theorem dX9_init_39 : decode cX9_init 39 = .ok (.bipush 6, 2) := p_16 ndcX9_init_0 6 (by decide +kernel) (by decide +kernel)
theorem dX9_init_41 : decode cX9_init 41 = .ok (.newarray .int, 2) := by decide +kernel
theorem dX9_init_43 : decode cX9_init 43 = .ok (.putfield 23, 3) := p_181 ndcX9_init_0 (by decide +kernel)
theorem dX9_init_46 : decode cX9_init 46 = .ok (.aload_n 0, 1) := p_42 ndcX9_init_0 (by decide +kernel)
theorem dX9_init_47 : decode cX9_init 47 = .ok (.bipush 49, 2) := p_16 ndcX9_init_0 49 (by decide +kernel) (by decide +kernel)
theorem dX9_init_49 : decode cX9_init 49 = .ok (.newarray .long, 2) := by decide +kernel
theorem dX9_init_51 : decode cX9_init 51 = .ok (.putfield 26, 3) := p_181 ndcX9_init_0 (by decide +kernel)
theorem dX9_init_54 : decode cX9_init 54 = .ok (.aload_n 0, 1) := p_42 ndcX9_init_0 (by decide +kernel)
theorem dX9_init_55 : decode cX9_init 55 = .ok (.sipush 784, 3) := p_17 ndcX9_init_0 784 (by decide +kernel) (by decide +kernel)
theorem dX9_init_58 : decode cX9_init 58 = .ok (.newarray .long, 2) := by decide +kernel
theorem dX9_init_60 : decode cX9_init 60 = .ok (.putfield 30, 3) := p_181 ndcX9_init_0 (by decide +kernel)
theorem dX9_init_63 : decode cX9_init 63 = .ok (.aload_n 0, 1) := p_42 ndcX9_init_0 (by decide +kernel)
def nkcX9_init_1 : List Nat := [17, 3, 16, 188, 11, 181, 0, 33, 42, 17, 3, 16, 188, 11, 181, 0, 36, 42, 17, 3, 16, 188, 10, 181, 0, 39, 42, 16, 6, 188, 10, 181, 0, 42, 42, 17, 3, 16, 188, 11, 181, 0, 45, 42, 17, 5, 144, 188, 10, 181, 0, 48, 42, 16, 16, 188, 11, 181, 0, 51, 42, 180, 0, 13, 3, 6]
theorem ndcX9_init_1 : ((cX9_init.data.toList.drop 64).take 66).map UInt8.toNat = nkcX9_init_1 := by decide +kernel
theorem dX9_init_64 : decode cX9_init 64 = .ok (.sipush 784, 3) := p_17 ndcX9_init_1 784 (by decide +kernel) (by decide +kernel)
theorem dX9_init_67 : decode cX9_init 67 = .ok (.newarray .long, 2) := by decide +kernel
theorem dX9_init_69 : decode cX9_init 69 = .ok (.putfield 33, 3) := p_181 ndcX9_init_1 (by decide +kernel)
theorem dX9_init_72 : decode cX9_init 72 = .ok (.aload_n 0, 1) := p_42 ndcX9_init_1 (by decide +kernel)
theorem dX9_init_73 : decode cX9_init 73 = .ok (.sipush 784, 3) := p_17 ndcX9_init_1 784 (by decide +kernel) (by decide +kernel)
theorem dX9_init_76 : decode cX9_init 76 = .ok (.newarray .long, 2) := by decide +kernel
theorem dX9_init_78 : decode cX9_init 78 = .ok (.putfield 36, 3) := p_181 ndcX9_init_1 (by decide +kernel)
theorem dX9_init_81 : decode cX9_init 81 = .ok (.aload_n 0, 1) := p_42 ndcX9_init_1 (by decide +kernel)
theorem dX9_init_82 : decode cX9_init 82 = .ok (.sipush 784, 3) := p_17 ndcX9_init_1 784 (by decide +kernel) (by decide +kernel)
theorem dX9_init_85 : decode cX9_init 85 = .ok (.newarray .int, 2) := by decide +kernel
theorem dX9_init_87 : decode cX9_init 87 = .ok (.putfield 39, 3) := p_181 ndcX9_init_1 (by decide +kernel)
theorem dX9_init_90 : decode cX9_init 90 = .ok (.aload_n 0, 1) := p_42 ndcX9_init_1 (by decide +kernel)
theorem dX9_init_91 : decode cX9_init 91 = .ok (.bipush 6, 2) := p_16 ndcX9_init_1 6 (by decide +kernel) (by decide +kernel)
theorem dX9_init_93 : decode cX9_init 93 = .ok (.newarray .int, 2) := by decide +kernel
theorem dX9_init_95 : decode cX9_init 95 = .ok (.putfield 42, 3) := p_181 ndcX9_init_1 (by decide +kernel)
theorem dX9_init_98 : decode cX9_init 98 = .ok (.aload_n 0, 1) := p_42 ndcX9_init_1 (by decide +kernel)
theorem dX9_init_99 : decode cX9_init 99 = .ok (.sipush 784, 3) := p_17 ndcX9_init_1 784 (by decide +kernel) (by decide +kernel)
theorem dX9_init_102 : decode cX9_init 102 = .ok (.newarray .long, 2) := by decide +kernel
theorem dX9_init_104 : decode cX9_init 104 = .ok (.putfield 45, 3) := p_181 ndcX9_init_1 (by decide +kernel)
theorem dX9_init_107 : decode cX9_init 107 = .ok (.aload_n 0, 1) := p_42 ndcX9_init_1 (by decide +kernel)
theorem dX9_init_108 : decode cX9_init 108 = .ok (.sipush 1424, 3) := p_17 ndcX9_init_1 1424 (by decide +kernel) (by decide +kernel)
theorem dX9_init_111 : decode cX9_init 111 = .ok (.newarray .int, 2) := by decide +kernel
theorem dX9_init_113 : decode cX9_init 113 = .ok (.putfield 48, 3) := p_181 ndcX9_init_1 (by decide +kernel)
theorem dX9_init_116 : decode cX9_init 116 = .ok (.aload_n 0, 1) := p_42 ndcX9_init_1 (by decide +kernel)
theorem dX9_init_117 : decode cX9_init 117 = .ok (.bipush 16, 2) := p_16 ndcX9_init_1 16 (by decide +kernel) (by decide +kernel)
theorem dX9_init_119 : decode cX9_init 119 = .ok (.newarray .long, 2) := by decide +kernel
theorem dX9_init_121 : decode cX9_init 121 = .ok (.putfield 51, 3) := p_181 ndcX9_init_1 (by decide +kernel)
theorem dX9_init_124 : decode cX9_init 124 = .ok (.aload_n 0, 1) := p_42 ndcX9_init_1 (by decide +kernel)
theorem dX9_init_125 : decode cX9_init 125 = .ok (.getfield 13, 3) := p_180 ndcX9_init_1 (by decide +kernel)
def nkcX9_init_2 : List Nat := [3, 6, 79, 42, 180, 0, 13, 4, 16, 100, 79, 42, 180, 0, 13, 5, 16, 6, 79, 42, 180, 0, 13, 6, 8, 79, 42, 180, 0, 13, 7, 8, 79, 42, 180, 0, 13, 8, 16, 6, 79, 42, 180, 0, 13, 16, 6, 4, 79, 42, 180, 0, 13, 16, 7, 5, 79, 3, 60, 27, 6, 162, 0, 77, 42, 27]
theorem ndcX9_init_2 : ((cX9_init.data.toList.drop 128).take 66).map UInt8.toNat = nkcX9_init_2 := by decide +kernel
theorem dX9_init_128 : decode cX9_init 128 = .ok (.iconst 0, 1) := p_3 ndcX9_init_2 (by decide +kernel)
theorem dX9_init_129 : decode cX9_init 129 = .ok (.iconst 3, 1) := p_6 ndcX9_init_2 (by decide +kernel)
theorem dX9_init_130 : decode cX9_init 130 = .ok (.iastore, 1) := p_79 ndcX9_init_2 (by decide +kernel)
theorem dX9_init_131 : decode cX9_init 131 = .ok (.aload_n 0, 1) := p_42 ndcX9_init_2 (by decide +kernel)
theorem dX9_init_132 : decode cX9_init 132 = .ok (.getfield 13, 3) := p_180 ndcX9_init_2 (by decide +kernel)
theorem dX9_init_135 : decode cX9_init 135 = .ok (.iconst 1, 1) := p_4 ndcX9_init_2 (by decide +kernel)
theorem dX9_init_136 : decode cX9_init 136 = .ok (.bipush 100, 2) := p_16 ndcX9_init_2 100 (by decide +kernel) (by decide +kernel)
theorem dX9_init_138 : decode cX9_init 138 = .ok (.iastore, 1) := p_79 ndcX9_init_2 (by decide +kernel)
theorem dX9_init_139 : decode cX9_init 139 = .ok (.aload_n 0, 1) := p_42 ndcX9_init_2 (by decide +kernel)
theorem dX9_init_140 : decode cX9_init 140 = .ok (.getfield 13, 3) := p_180 ndcX9_init_2 (by decide +kernel)
theorem dX9_init_143 : decode cX9_init 143 = .ok (.iconst 2, 1) := p_5 ndcX9_init_2 (by decide +kernel)
theorem dX9_init_144 : decode cX9_init 144 = .ok (.bipush 6, 2) := p_16 ndcX9_init_2 6 (by decide +kernel) (by decide +kernel)
theorem dX9_init_146 : decode cX9_init 146 = .ok (.iastore, 1) := p_79 ndcX9_init_2 (by decide +kernel)
theorem dX9_init_147 : decode cX9_init 147 = .ok (.aload_n 0, 1) := p_42 ndcX9_init_2 (by decide +kernel)
theorem dX9_init_148 : decode cX9_init 148 = .ok (.getfield 13, 3) := p_180 ndcX9_init_2 (by decide +kernel)
theorem dX9_init_151 : decode cX9_init 151 = .ok (.iconst 3, 1) := p_6 ndcX9_init_2 (by decide +kernel)
theorem dX9_init_152 : decode cX9_init 152 = .ok (.iconst 5, 1) := p_8 ndcX9_init_2 (by decide +kernel)
theorem dX9_init_153 : decode cX9_init 153 = .ok (.iastore, 1) := p_79 ndcX9_init_2 (by decide +kernel)
theorem dX9_init_154 : decode cX9_init 154 = .ok (.aload_n 0, 1) := p_42 ndcX9_init_2 (by decide +kernel)
theorem dX9_init_155 : decode cX9_init 155 = .ok (.getfield 13, 3) := p_180 ndcX9_init_2 (by decide +kernel)
theorem dX9_init_158 : decode cX9_init 158 = .ok (.iconst 4, 1) := p_7 ndcX9_init_2 (by decide +kernel)
theorem dX9_init_159 : decode cX9_init 159 = .ok (.iconst 5, 1) := p_8 ndcX9_init_2 (by decide +kernel)
theorem dX9_init_160 : decode cX9_init 160 = .ok (.iastore, 1) := p_79 ndcX9_init_2 (by decide +kernel)
theorem dX9_init_161 : decode cX9_init 161 = .ok (.aload_n 0, 1) := p_42 ndcX9_init_2 (by decide +kernel)
theorem dX9_init_162 : decode cX9_init 162 = .ok (.getfield 13, 3) := p_180 ndcX9_init_2 (by decide +kernel)
theorem dX9_init_165 : decode cX9_init 165 = .ok (.iconst 5, 1) := p_8 ndcX9_init_2 (by decide +kernel)
theorem dX9_init_166 : decode cX9_init 166 = .ok (.bipush 6, 2) := p_16 ndcX9_init_2 6 (by decide +kernel) (by decide +kernel)
theorem dX9_init_168 : decode cX9_init 168 = .ok (.iastore, 1) := p_79 ndcX9_init_2 (by decide +kernel)
theorem dX9_init_169 : decode cX9_init 169 = .ok (.aload_n 0, 1) := p_42 ndcX9_init_2 (by decide +kernel)
theorem dX9_init_170 : decode cX9_init 170 = .ok (.getfield 13, 3) := p_180 ndcX9_init_2 (by decide +kernel)
theorem dX9_init_173 : decode cX9_init 173 = .ok (.bipush 6, 2) := p_16 ndcX9_init_2 6 (by decide +kernel) (by decide +kernel)
theorem dX9_init_175 : decode cX9_init 175 = .ok (.iconst 1, 1) := p_4 ndcX9_init_2 (by decide +kernel)
theorem dX9_init_176 : decode cX9_init 176 = .ok (.iastore, 1) := p_79 ndcX9_init_2 (by decide +kernel)
theorem dX9_init_177 : decode cX9_init 177 = .ok (.aload_n 0, 1) := p_42 ndcX9_init_2 (by decide +kernel)
theorem dX9_init_178 : decode cX9_init 178 = .ok (.getfield 13, 3) := p_180 ndcX9_init_2 (by decide +kernel)
theorem dX9_init_181 : decode cX9_init 181 = .ok (.bipush 7, 2) := p_16 ndcX9_init_2 7 (by decide +kernel) (by decide +kernel)
theorem dX9_init_183 : decode cX9_init 183 = .ok (.iconst 2, 1) := p_5 ndcX9_init_2 (by decide +kernel)
theorem dX9_init_184 : decode cX9_init 184 = .ok (.iastore, 1) := p_79 ndcX9_init_2 (by decide +kernel)
theorem dX9_init_185 : decode cX9_init 185 = .ok (.iconst 0, 1) := p_3 ndcX9_init_2 (by decide +kernel)
theorem dX9_init_186 : decode cX9_init 186 = .ok (.istore_n 1, 1) := p_60 ndcX9_init_2 (by decide +kernel)
theorem dX9_init_187 : decode cX9_init 187 = .ok (.iload_n 1, 1) := p_27 ndcX9_init_2 (by decide +kernel)
theorem dX9_init_188 : decode cX9_init 188 = .ok (.iconst 3, 1) := p_6 ndcX9_init_2 (by decide +kernel)
theorem dX9_init_189 : decode cX9_init 189 = .ok (.if_icmp .ge 77, 3) := p_162 ndcX9_init_2 77 (by decide +kernel) (by decide +kernel)
def nkcX9_init_3 : List Nat := [42, 27, 3, 17, 39, 16, 182, 0, 54, 42, 27, 4, 16, 100, 182, 0, 54, 3, 61, 28, 16, 6, 162, 0, 29, 42, 27, 16, 9, 28, 96, 2, 182, 0, 54, 42, 27, 16, 15, 28, 96, 2, 182, 0, 54, 132, 2, 1, 167, 255, 227, 42, 27, 16, 22, 16, 6, 182, 0, 54, 42, 27, 16, 24, 4, 182]
theorem ndcX9_init_3 : ((cX9_init.data.toList.drop 192).take 66).map UInt8.toNat = nkcX9_init_3 := by decide +kernel
theorem dX9_init_192 : decode cX9_init 192 = .ok (.aload_n 0, 1) := p_42 ndcX9_init_3 (by decide +kernel)
theorem dX9_init_193 : decode cX9_init 193 = .ok (.iload_n 1, 1) := p_27 ndcX9_init_3 (by decide +kernel)
theorem dX9_init_194 : decode cX9_init 194 = .ok (.iconst 0, 1) := p_3 ndcX9_init_3 (by decide +kernel)
theorem dX9_init_195 : decode cX9_init 195 = .ok (.sipush 10000, 3) := p_17 ndcX9_init_3 10000 (by decide +kernel) (by decide +kernel)
theorem dX9_init_198 : decode cX9_init 198 = .ok (.invokevirtual 54, 3) := p_182 ndcX9_init_3 (by decide +kernel)
theorem dX9_init_201 : decode cX9_init 201 = .ok (.aload_n 0, 1) := p_42 ndcX9_init_3 (by decide +kernel)
theorem dX9_init_202 : decode cX9_init 202 = .ok (.iload_n 1, 1) := p_27 ndcX9_init_3 (by decide +kernel)
theorem dX9_init_203 : decode cX9_init 203 = .ok (.iconst 1, 1) := p_4 ndcX9_init_3 (by decide +kernel)
theorem dX9_init_204 : decode cX9_init 204 = .ok (.bipush 100, 2) := p_16 ndcX9_init_3 100 (by decide +kernel) (by decide +kernel)
theorem dX9_init_206 : decode cX9_init 206 = .ok (.invokevirtual 54, 3) := p_182 ndcX9_init_3 (by decide +kernel)
theorem dX9_init_209 : decode cX9_init 209 = .ok (.iconst 0, 1) := p_3 ndcX9_init_3 (by decide +kernel)
theorem dX9_init_210 : decode cX9_init 210 = .ok (.istore_n 2, 1) := p_61 ndcX9_init_3 (by decide +kernel)
theorem dX9_init_211 : decode cX9_init 211 = .ok (.iload_n 2, 1) := p_28 ndcX9_init_3 (by decide +kernel)
theorem dX9_init_212 : decode cX9_init 212 = .ok (.bipush 6, 2) := p_16 ndcX9_init_3 6 (by decide +kernel) (by decide +kernel)
theorem dX9_init_214 : decode cX9_init 214 = .ok (.if_icmp .ge 29, 3) := p_162 ndcX9_init_3 29 (by decide +kernel) (by decide +kernel)
theorem dX9_init_217 : decode cX9_init 217 = .ok (.aload_n 0, 1) := p_42 ndcX9_init_3 (by decide +kernel)
theorem dX9_init_218 : decode cX9_init 218 = .ok (.iload_n 1, 1) := p_27 ndcX9_init_3 (by decide +kernel)
theorem dX9_init_219 : decode cX9_init 219 = .ok (.bipush 9, 2) := p_16 ndcX9_init_3 9 (by decide +kernel) (by decide +kernel)
theorem dX9_init_221 : decode cX9_init 221 = .ok (.iload_n 2, 1) := p_28 ndcX9_init_3 (by decide +kernel)
theorem dX9_init_222 : decode cX9_init 222 = .ok (.iadd, 1) := p_96 ndcX9_init_3 (by decide +kernel)
theorem dX9_init_223 : decode cX9_init 223 = .ok (.iconst (-1), 1) := p_2 ndcX9_init_3 (by decide +kernel)
theorem dX9_init_224 : decode cX9_init 224 = .ok (.invokevirtual 54, 3) := p_182 ndcX9_init_3 (by decide +kernel)
theorem dX9_init_227 : decode cX9_init 227 = .ok (.aload_n 0, 1) := p_42 ndcX9_init_3 (by decide +kernel)
theorem dX9_init_228 : decode cX9_init 228 = .ok (.iload_n 1, 1) := p_27 ndcX9_init_3 (by decide +kernel)
theorem dX9_init_229 : decode cX9_init 229 = .ok (.bipush 15, 2) := p_16 ndcX9_init_3 15 (by decide +kernel) (by decide +kernel)
theorem dX9_init_231 : decode cX9_init 231 = .ok (.iload_n 2, 1) := p_28 ndcX9_init_3 (by decide +kernel)
theorem dX9_init_232 : decode cX9_init 232 = .ok (.iadd, 1) := p_96 ndcX9_init_3 (by decide +kernel)
theorem dX9_init_233 : decode cX9_init 233 = .ok (.iconst (-1), 1) := p_2 ndcX9_init_3 (by decide +kernel)
theorem dX9_init_234 : decode cX9_init 234 = .ok (.invokevirtual 54, 3) := p_182 ndcX9_init_3 (by decide +kernel)
theorem dX9_init_237 : decode cX9_init 237 = .ok (.iinc 2 1, 3) := by decide +kernel
theorem dX9_init_240 : decode cX9_init 240 = .ok (.goto (-29), 3) := p_167 ndcX9_init_3 65507 (by decide +kernel) (by decide +kernel)
theorem dX9_init_243 : decode cX9_init 243 = .ok (.aload_n 0, 1) := p_42 ndcX9_init_3 (by decide +kernel)
theorem dX9_init_244 : decode cX9_init 244 = .ok (.iload_n 1, 1) := p_27 ndcX9_init_3 (by decide +kernel)
theorem dX9_init_245 : decode cX9_init 245 = .ok (.bipush 22, 2) := p_16 ndcX9_init_3 22 (by decide +kernel) (by decide +kernel)
theorem dX9_init_247 : decode cX9_init 247 = .ok (.bipush 6, 2) := p_16 ndcX9_init_3 6 (by decide +kernel) (by decide +kernel)
theorem dX9_init_249 : decode cX9_init 249 = .ok (.invokevirtual 54, 3) := p_182 ndcX9_init_3 (by decide +kernel)
theorem dX9_init_252 : decode cX9_init 252 = .ok (.aload_n 0, 1) := p_42 ndcX9_init_3 (by decide +kernel)
theorem dX9_init_253 : decode cX9_init 253 = .ok (.iload_n 1, 1) := p_27 ndcX9_init_3 (by decide +kernel)
theorem dX9_init_254 : decode cX9_init 254 = .ok (.bipush 24, 2) := p_16 ndcX9_init_3 24 (by decide +kernel) (by decide +kernel)
def nkcX9_init_4 : List Nat := [4, 182, 0, 54, 132, 1, 1, 167, 255, 180, 177]
theorem ndcX9_init_4 : ((cX9_init.data.toList.drop 256).take 66).map UInt8.toNat = nkcX9_init_4 := by decide +kernel
theorem dX9_init_256 : decode cX9_init 256 = .ok (.iconst 1, 1) := p_4 ndcX9_init_4 (by decide +kernel)
theorem dX9_init_257 : decode cX9_init 257 = .ok (.invokevirtual 54, 3) := p_182 ndcX9_init_4 (by decide +kernel)
theorem dX9_init_260 : decode cX9_init 260 = .ok (.iinc 1 1, 3) := by decide +kernel
theorem dX9_init_263 : decode cX9_init 263 = .ok (.goto (-76), 3) := p_167 ndcX9_init_4 65460 (by decide +kernel) (by decide +kernel)
theorem dX9_init_266 : decode cX9_init 266 = .ok (.return_, 1) := p_177 ndcX9_init_4 (by decide +kernel)
def nkcX9_in_0 : List Nat := [30, 32, 148, 155, 0, 14, 30, 22, 4, 148, 157, 0, 7, 4, 167, 0, 4, 3, 172]
theorem ndcX9_in_0 : ((cX9_in.data.toList.drop 0).take 66).map UInt8.toNat = nkcX9_in_0 := by decide +kernel
theorem dX9_in_0 : decode cX9_in 0 = .ok (.lload_n 0, 1) := p_30 ndcX9_in_0 (by decide +kernel)
theorem dX9_in_1 : decode cX9_in 1 = .ok (.lload_n 2, 1) := p_32 ndcX9_in_0 (by decide +kernel)
theorem dX9_in_2 : decode cX9_in 2 = .ok (.lcmp, 1) := p_148 ndcX9_in_0 (by decide +kernel)
theorem dX9_in_3 : decode cX9_in 3 = .ok (.ifCond .lt 14, 3) := p_155 ndcX9_in_0 14 (by decide +kernel) (by decide +kernel)
theorem dX9_in_6 : decode cX9_in 6 = .ok (.lload_n 0, 1) := p_30 ndcX9_in_0 (by decide +kernel)
theorem dX9_in_7 : decode cX9_in 7 = .ok (.lload 4, 2) := p_22 ndcX9_in_0 (by decide +kernel)
theorem dX9_in_9 : decode cX9_in 9 = .ok (.lcmp, 1) := p_148 ndcX9_in_0 (by decide +kernel)
theorem dX9_in_10 : decode cX9_in 10 = .ok (.ifCond .gt 7, 3) := p_157 ndcX9_in_0 7 (by decide +kernel) (by decide +kernel)
theorem dX9_in_13 : decode cX9_in 13 = .ok (.iconst 1, 1) := p_4 ndcX9_in_0 (by decide +kernel)
theorem dX9_in_14 : decode cX9_in 14 = .ok (.goto 4, 3) := p_167 ndcX9_in_0 4 (by decide +kernel) (by decide +kernel)
theorem dX9_in_17 : decode cX9_in 17 = .ok (.iconst 0, 1) := p_3 ndcX9_in_0 (by decide +kernel)
theorem dX9_in_18 : decode cX9_in 18 = .ok (.ireturn, 1) := p_172 ndcX9_in_0 (by decide +kernel)
def nkcX9_isBond_0 : List Nat := [26, 133, 9, 20, 0, 58, 184, 0, 60, 172]
theorem ndcX9_isBond_0 : ((cX9_isBond.data.toList.drop 0).take 66).map UInt8.toNat = nkcX9_isBond_0 := by decide +kernel
theorem dX9_isBond_0 : decode cX9_isBond 0 = .ok (.iload_n 0, 1) := p_26 ndcX9_isBond_0 (by decide +kernel)
theorem dX9_isBond_1 : decode cX9_isBond 1 = .ok (.i2l, 1) := p_133 ndcX9_isBond_0 (by decide +kernel)
theorem dX9_isBond_2 : decode cX9_isBond 2 = .ok (.lconst 0, 1) := p_9 ndcX9_isBond_0 (by decide +kernel)
theorem dX9_isBond_3 : decode cX9_isBond 3 = .ok (.ldc2_w 58, 3) := p_20 ndcX9_isBond_0 (by decide +kernel)
theorem dX9_isBond_6 : decode cX9_isBond 6 = .ok (.invokestatic 60, 3) := p_184 ndcX9_isBond_0 (by decide +kernel)
theorem dX9_isBond_9 : decode cX9_isBond 9 = .ok (.ireturn, 1) := p_172 ndcX9_isBond_0 (by decide +kernel)
def nkcX9_typed4_0 : List Nat := [6, 61, 28, 155, 0, 35, 42, 180, 0, 7, 42, 180, 0, 64, 27, 16, 8, 28, 104, 122, 145, 84, 42, 42, 180, 0, 64, 4, 96, 181, 0, 64, 132, 2, 255, 167, 255, 223, 177]
theorem ndcX9_typed4_0 : ((cX9_typed4.data.toList.drop 0).take 66).map UInt8.toNat = nkcX9_typed4_0 := by decide +kernel
theorem dX9_typed4_0 : decode cX9_typed4 0 = .ok (.iconst 3, 1) := p_6 ndcX9_typed4_0 (by decide +kernel)
theorem dX9_typed4_1 : decode cX9_typed4 1 = .ok (.istore_n 2, 1) := p_61 ndcX9_typed4_0 (by decide +kernel)
theorem dX9_typed4_2 : decode cX9_typed4 2 = .ok (.iload_n 2, 1) := p_28 ndcX9_typed4_0 (by decide +kernel)
theorem dX9_typed4_3 : decode cX9_typed4 3 = .ok (.ifCond .lt 35, 3) := p_155 ndcX9_typed4_0 35 (by decide +kernel) (by decide +kernel)
theorem dX9_typed4_6 : decode cX9_typed4 6 = .ok (.aload_n 0, 1) := p_42 ndcX9_typed4_0 (by decide +kernel)
theorem dX9_typed4_7 : decode cX9_typed4 7 = .ok (.getfield 7, 3) := p_180 ndcX9_typed4_0 (by decide +kernel)
theorem dX9_typed4_10 : decode cX9_typed4 10 = .ok (.aload_n 0, 1) := p_42 ndcX9_typed4_0 (by decide +kernel)
theorem dX9_typed4_11 : decode cX9_typed4 11 = .ok (.getfield 64, 3) := p_180 ndcX9_typed4_0 (by decide +kernel)
theorem dX9_typed4_14 : decode cX9_typed4 14 = .ok (.iload_n 1, 1) := p_27 ndcX9_typed4_0 (by decide +kernel)
theorem dX9_typed4_15 : decode cX9_typed4 15 = .ok (.bipush 8, 2) := p_16 ndcX9_typed4_0 8 (by decide +kernel) (by decide +kernel)
theorem dX9_typed4_17 : decode cX9_typed4 17 = .ok (.iload_n 2, 1) := p_28 ndcX9_typed4_0 (by decide +kernel)
theorem dX9_typed4_18 : decode cX9_typed4 18 = .ok (.imul, 1) := p_104 ndcX9_typed4_0 (by decide +kernel)
theorem dX9_typed4_19 : decode cX9_typed4 19 = .ok (.ishr, 1) := p_122 ndcX9_typed4_0 (by decide +kernel)
theorem dX9_typed4_20 : decode cX9_typed4 20 = .ok (.i2b, 1) := p_145 ndcX9_typed4_0 (by decide +kernel)
theorem dX9_typed4_21 : decode cX9_typed4 21 = .ok (.bastore, 1) := p_84 ndcX9_typed4_0 (by decide +kernel)
theorem dX9_typed4_22 : decode cX9_typed4 22 = .ok (.aload_n 0, 1) := p_42 ndcX9_typed4_0 (by decide +kernel)
theorem dX9_typed4_23 : decode cX9_typed4 23 = .ok (.aload_n 0, 1) := p_42 ndcX9_typed4_0 (by decide +kernel)
theorem dX9_typed4_24 : decode cX9_typed4 24 = .ok (.getfield 64, 3) := p_180 ndcX9_typed4_0 (by decide +kernel)
theorem dX9_typed4_27 : decode cX9_typed4 27 = .ok (.iconst 1, 1) := p_4 ndcX9_typed4_0 (by decide +kernel)
theorem dX9_typed4_28 : decode cX9_typed4 28 = .ok (.iadd, 1) := p_96 ndcX9_typed4_0 (by decide +kernel)
theorem dX9_typed4_29 : decode cX9_typed4 29 = .ok (.putfield 64, 3) := p_181 ndcX9_typed4_0 (by decide +kernel)
theorem dX9_typed4_32 : decode cX9_typed4 32 = .ok (.iinc 2 (-1), 3) := by decide +kernel
theorem dX9_typed4_35 : decode cX9_typed4 35 = .ok (.goto (-33), 3) := p_167 ndcX9_typed4_0 65503 (by decide +kernel) (by decide +kernel)
theorem dX9_typed4_38 : decode cX9_typed4 38 = .ok (.return_, 1) := p_177 ndcX9_typed4_0 (by decide +kernel)
def nkcX9_feed_0 : List Nat := [42, 180, 0, 64, 16, 20, 96, 17, 0, 200, 164, 0, 5, 2, 172, 42, 27, 182, 0, 68, 42, 28, 182, 0, 68, 42, 29, 182, 0, 68, 42, 21, 4, 182, 0, 68, 42, 21, 5, 182, 0, 68, 42, 180, 0, 64, 172]
theorem ndcX9_feed_0 : ((cX9_feed.data.toList.drop 0).take 66).map UInt8.toNat = nkcX9_feed_0 := by decide +kernel
theorem dX9_feed_0 : decode cX9_feed 0 = .ok (.aload_n 0, 1) := p_42 ndcX9_feed_0 (by decide +kernel)
theorem dX9_feed_1 : decode cX9_feed 1 = .ok (.getfield 64, 3) := p_180 ndcX9_feed_0 (by decide +kernel)
theorem dX9_feed_4 : decode cX9_feed 4 = .ok (.bipush 20, 2) := p_16 ndcX9_feed_0 20 (by decide +kernel) (by decide +kernel)
theorem dX9_feed_6 : decode cX9_feed 6 = .ok (.iadd, 1) := p_96 ndcX9_feed_0 (by decide +kernel)
theorem dX9_feed_7 : decode cX9_feed 7 = .ok (.sipush 200, 3) := p_17 ndcX9_feed_0 200 (by decide +kernel) (by decide +kernel)
theorem dX9_feed_10 : decode cX9_feed 10 = .ok (.if_icmp .le 5, 3) := p_164 ndcX9_feed_0 5 (by decide +kernel) (by decide +kernel)
theorem dX9_feed_13 : decode cX9_feed 13 = .ok (.iconst (-1), 1) := p_2 ndcX9_feed_0 (by decide +kernel)
theorem dX9_feed_14 : decode cX9_feed 14 = .ok (.ireturn, 1) := p_172 ndcX9_feed_0 (by decide +kernel)
theorem dX9_feed_15 : decode cX9_feed 15 = .ok (.aload_n 0, 1) := p_42 ndcX9_feed_0 (by decide +kernel)
theorem dX9_feed_16 : decode cX9_feed 16 = .ok (.iload_n 1, 1) := p_27 ndcX9_feed_0 (by decide +kernel)
theorem dX9_feed_17 : decode cX9_feed 17 = .ok (.invokevirtual 68, 3) := p_182 ndcX9_feed_0 (by decide +kernel)
theorem dX9_feed_20 : decode cX9_feed 20 = .ok (.aload_n 0, 1) := p_42 ndcX9_feed_0 (by decide +kernel)
theorem dX9_feed_21 : decode cX9_feed 21 = .ok (.iload_n 2, 1) := p_28 ndcX9_feed_0 (by decide +kernel)
theorem dX9_feed_22 : decode cX9_feed 22 = .ok (.invokevirtual 68, 3) := p_182 ndcX9_feed_0 (by decide +kernel)
theorem dX9_feed_25 : decode cX9_feed 25 = .ok (.aload_n 0, 1) := p_42 ndcX9_feed_0 (by decide +kernel)
theorem dX9_feed_26 : decode cX9_feed 26 = .ok (.iload_n 3, 1) := p_29 ndcX9_feed_0 (by decide +kernel)
theorem dX9_feed_27 : decode cX9_feed 27 = .ok (.invokevirtual 68, 3) := p_182 ndcX9_feed_0 (by decide +kernel)
theorem dX9_feed_30 : decode cX9_feed 30 = .ok (.aload_n 0, 1) := p_42 ndcX9_feed_0 (by decide +kernel)
theorem dX9_feed_31 : decode cX9_feed 31 = .ok (.iload 4, 2) := p_21 ndcX9_feed_0 (by decide +kernel)
theorem dX9_feed_33 : decode cX9_feed 33 = .ok (.invokevirtual 68, 3) := p_182 ndcX9_feed_0 (by decide +kernel)
theorem dX9_feed_36 : decode cX9_feed 36 = .ok (.aload_n 0, 1) := p_42 ndcX9_feed_0 (by decide +kernel)
theorem dX9_feed_37 : decode cX9_feed 37 = .ok (.iload 5, 2) := p_21 ndcX9_feed_0 (by decide +kernel)
theorem dX9_feed_39 : decode cX9_feed 39 = .ok (.invokevirtual 68, 3) := p_182 ndcX9_feed_0 (by decide +kernel)
theorem dX9_feed_42 : decode cX9_feed 42 = .ok (.aload_n 0, 1) := p_42 ndcX9_feed_0 (by decide +kernel)
theorem dX9_feed_43 : decode cX9_feed 43 = .ok (.getfield 64, 3) := p_180 ndcX9_feed_0 (by decide +kernel)
theorem dX9_feed_46 : decode cX9_feed 46 = .ok (.ireturn, 1) := p_172 ndcX9_feed_0 (by decide +kernel)
def nkcX9_tree_0 : List Nat := [27, 133, 10, 20, 0, 72, 184, 0, 60, 153, 0, 15, 28, 133, 10, 20, 0, 74, 184, 0, 60, 154, 0, 5, 3, 172, 42, 180, 0, 13, 3, 27, 79, 42, 180, 0, 13, 4, 28, 79, 42, 3, 181, 0, 76, 4, 172]
theorem ndcX9_tree_0 : ((cX9_tree.data.toList.drop 0).take 66).map UInt8.toNat = nkcX9_tree_0 := by decide +kernel
theorem dX9_tree_0 : decode cX9_tree 0 = .ok (.iload_n 1, 1) := p_27 ndcX9_tree_0 (by decide +kernel)
theorem dX9_tree_1 : decode cX9_tree 1 = .ok (.i2l, 1) := p_133 ndcX9_tree_0 (by decide +kernel)
theorem dX9_tree_2 : decode cX9_tree 2 = .ok (.lconst 1, 1) := p_10 ndcX9_tree_0 (by decide +kernel)
theorem dX9_tree_3 : decode cX9_tree 3 = .ok (.ldc2_w 72, 3) := p_20 ndcX9_tree_0 (by decide +kernel)
theorem dX9_tree_6 : decode cX9_tree 6 = .ok (.invokestatic 60, 3) := p_184 ndcX9_tree_0 (by decide +kernel)
theorem dX9_tree_9 : decode cX9_tree 9 = .ok (.ifCond .eq 15, 3) := p_153 ndcX9_tree_0 15 (by decide +kernel) (by decide +kernel)
theorem dX9_tree_12 : decode cX9_tree 12 = .ok (.iload_n 2, 1) := p_28 ndcX9_tree_0 (by decide +kernel)
theorem dX9_tree_13 : decode cX9_tree 13 = .ok (.i2l, 1) := p_133 ndcX9_tree_0 (by decide +kernel)
theorem dX9_tree_14 : decode cX9_tree 14 = .ok (.lconst 1, 1) := p_10 ndcX9_tree_0 (by decide +kernel)
theorem dX9_tree_15 : decode cX9_tree 15 = .ok (.ldc2_w 74, 3) := p_20 ndcX9_tree_0 (by decide +kernel)
theorem dX9_tree_18 : decode cX9_tree 18 = .ok (.invokestatic 60, 3) := p_184 ndcX9_tree_0 (by decide +kernel)
theorem dX9_tree_21 : decode cX9_tree 21 = .ok (.ifCond .ne 5, 3) := p_154 ndcX9_tree_0 5 (by decide +kernel) (by decide +kernel)
theorem dX9_tree_24 : decode cX9_tree 24 = .ok (.iconst 0, 1) := p_3 ndcX9_tree_0 (by decide +kernel)
theorem dX9_tree_25 : decode cX9_tree 25 = .ok (.ireturn, 1) := p_172 ndcX9_tree_0 (by decide +kernel)
theorem dX9_tree_26 : decode cX9_tree 26 = .ok (.aload_n 0, 1) := p_42 ndcX9_tree_0 (by decide +kernel)
theorem dX9_tree_27 : decode cX9_tree 27 = .ok (.getfield 13, 3) := p_180 ndcX9_tree_0 (by decide +kernel)
theorem dX9_tree_30 : decode cX9_tree 30 = .ok (.iconst 0, 1) := p_3 ndcX9_tree_0 (by decide +kernel)
theorem dX9_tree_31 : decode cX9_tree 31 = .ok (.iload_n 1, 1) := p_27 ndcX9_tree_0 (by decide +kernel)
theorem dX9_tree_32 : decode cX9_tree 32 = .ok (.iastore, 1) := p_79 ndcX9_tree_0 (by decide +kernel)
theorem dX9_tree_33 : decode cX9_tree 33 = .ok (.aload_n 0, 1) := p_42 ndcX9_tree_0 (by decide +kernel)
theorem dX9_tree_34 : decode cX9_tree 34 = .ok (.getfield 13, 3) := p_180 ndcX9_tree_0 (by decide +kernel)
theorem dX9_tree_37 : decode cX9_tree 37 = .ok (.iconst 1, 1) := p_4 ndcX9_tree_0 (by decide +kernel)
theorem dX9_tree_38 : decode cX9_tree 38 = .ok (.iload_n 2, 1) := p_28 ndcX9_tree_0 (by decide +kernel)
theorem dX9_tree_39 : decode cX9_tree 39 = .ok (.iastore, 1) := p_79 ndcX9_tree_0 (by decide +kernel)
theorem dX9_tree_40 : decode cX9_tree 40 = .ok (.aload_n 0, 1) := p_42 ndcX9_tree_0 (by decide +kernel)
theorem dX9_tree_41 : decode cX9_tree 41 = .ok (.iconst 0, 1) := p_3 ndcX9_tree_0 (by decide +kernel)
theorem dX9_tree_42 : decode cX9_tree 42 = .ok (.putfield 76, 3) := p_181 ndcX9_tree_0 (by decide +kernel)
theorem dX9_tree_45 : decode cX9_tree 45 = .ok (.iconst 1, 1) := p_4 ndcX9_tree_0 (by decide +kernel)
theorem dX9_tree_46 : decode cX9_tree 46 = .ok (.ireturn, 1) := p_172 ndcX9_tree_0 (by decide +kernel)
def nkcX9_move_0 : List Nat := [28, 133, 10, 20, 0, 79, 184, 0, 60, 153, 0, 15, 29, 133, 10, 20, 0, 79, 184, 0, 60, 154, 0, 5, 3, 172, 27, 153, 0, 7, 5, 167, 0, 4, 7, 54, 4, 42, 180, 0, 13, 21, 4, 28, 79, 42, 180, 0, 13, 21, 4, 4, 96, 29, 79, 4, 172]
theorem ndcX9_move_0 : ((cX9_move.data.toList.drop 0).take 66).map UInt8.toNat = nkcX9_move_0 := by decide +kernel
theorem dX9_move_0 : decode cX9_move 0 = .ok (.iload_n 2, 1) := p_28 ndcX9_move_0 (by decide +kernel)
theorem dX9_move_1 : decode cX9_move 1 = .ok (.i2l, 1) := p_133 ndcX9_move_0 (by decide +kernel)
theorem dX9_move_2 : decode cX9_move 2 = .ok (.lconst 1, 1) := p_10 ndcX9_move_0 (by decide +kernel)
theorem dX9_move_3 : decode cX9_move 3 = .ok (.ldc2_w 79, 3) := p_20 ndcX9_move_0 (by decide +kernel)
theorem dX9_move_6 : decode cX9_move 6 = .ok (.invokestatic 60, 3) := p_184 ndcX9_move_0 (by decide +kernel)
theorem dX9_move_9 : decode cX9_move 9 = .ok (.ifCond .eq 15, 3) := p_153 ndcX9_move_0 15 (by decide +kernel) (by decide +kernel)
theorem dX9_move_12 : decode cX9_move 12 = .ok (.iload_n 3, 1) := p_29 ndcX9_move_0 (by decide +kernel)
theorem dX9_move_13 : decode cX9_move 13 = .ok (.i2l, 1) := p_133 ndcX9_move_0 (by decide +kernel)
theorem dX9_move_14 : decode cX9_move 14 = .ok (.lconst 1, 1) := p_10 ndcX9_move_0 (by decide +kernel)
theorem dX9_move_15 : decode cX9_move 15 = .ok (.ldc2_w 79, 3) := p_20 ndcX9_move_0 (by decide +kernel)
theorem dX9_move_18 : decode cX9_move 18 = .ok (.invokestatic 60, 3) := p_184 ndcX9_move_0 (by decide +kernel)
theorem dX9_move_21 : decode cX9_move 21 = .ok (.ifCond .ne 5, 3) := p_154 ndcX9_move_0 5 (by decide +kernel) (by decide +kernel)
theorem dX9_move_24 : decode cX9_move 24 = .ok (.iconst 0, 1) := p_3 ndcX9_move_0 (by decide +kernel)
theorem dX9_move_25 : decode cX9_move 25 = .ok (.ireturn, 1) := p_172 ndcX9_move_0 (by decide +kernel)
theorem dX9_move_26 : decode cX9_move 26 = .ok (.iload_n 1, 1) := p_27 ndcX9_move_0 (by decide +kernel)
theorem dX9_move_27 : decode cX9_move 27 = .ok (.ifCond .eq 7, 3) := p_153 ndcX9_move_0 7 (by decide +kernel) (by decide +kernel)
theorem dX9_move_30 : decode cX9_move 30 = .ok (.iconst 2, 1) := p_5 ndcX9_move_0 (by decide +kernel)
theorem dX9_move_31 : decode cX9_move 31 = .ok (.goto 4, 3) := p_167 ndcX9_move_0 4 (by decide +kernel) (by decide +kernel)
theorem dX9_move_34 : decode cX9_move 34 = .ok (.iconst 4, 1) := p_7 ndcX9_move_0 (by decide +kernel)
theorem dX9_move_35 : decode cX9_move 35 = .ok (.istore 4, 2) := p_54 ndcX9_move_0 (by decide +kernel)
theorem dX9_move_37 : decode cX9_move 37 = .ok (.aload_n 0, 1) := p_42 ndcX9_move_0 (by decide +kernel)
theorem dX9_move_38 : decode cX9_move 38 = .ok (.getfield 13, 3) := p_180 ndcX9_move_0 (by decide +kernel)
theorem dX9_move_41 : decode cX9_move 41 = .ok (.iload 4, 2) := p_21 ndcX9_move_0 (by decide +kernel)
theorem dX9_move_43 : decode cX9_move 43 = .ok (.iload_n 2, 1) := p_28 ndcX9_move_0 (by decide +kernel)
theorem dX9_move_44 : decode cX9_move 44 = .ok (.iastore, 1) := p_79 ndcX9_move_0 (by decide +kernel)
theorem dX9_move_45 : decode cX9_move 45 = .ok (.aload_n 0, 1) := p_42 ndcX9_move_0 (by decide +kernel)
theorem dX9_move_46 : decode cX9_move 46 = .ok (.getfield 13, 3) := p_180 ndcX9_move_0 (by decide +kernel)
theorem dX9_move_49 : decode cX9_move 49 = .ok (.iload 4, 2) := p_21 ndcX9_move_0 (by decide +kernel)
theorem dX9_move_51 : decode cX9_move 51 = .ok (.iconst 1, 1) := p_4 ndcX9_move_0 (by decide +kernel)
theorem dX9_move_52 : decode cX9_move 52 = .ok (.iadd, 1) := p_96 ndcX9_move_0 (by decide +kernel)
theorem dX9_move_53 : decode cX9_move 53 = .ok (.iload_n 3, 1) := p_29 ndcX9_move_0 (by decide +kernel)
theorem dX9_move_54 : decode cX9_move 54 = .ok (.iastore, 1) := p_79 ndcX9_move_0 (by decide +kernel)
theorem dX9_move_55 : decode cX9_move 55 = .ok (.iconst 1, 1) := p_4 ndcX9_move_0 (by decide +kernel)
theorem dX9_move_56 : decode cX9_move 56 = .ok (.ireturn, 1) := p_172 ndcX9_move_0 (by decide +kernel)
def nkcX9_isChance_0 : List Nat := [27, 133, 20, 0, 58, 20, 0, 79, 184, 0, 60, 153, 0, 20, 26, 133, 10, 27, 4, 100, 133, 184, 0, 60, 153, 0, 7, 4, 167, 0, 4, 3, 172]
theorem ndcX9_isChance_0 : ((cX9_isChance.data.toList.drop 0).take 66).map UInt8.toNat = nkcX9_isChance_0 := by decide +kernel
theorem dX9_isChance_0 : decode cX9_isChance 0 = .ok (.iload_n 1, 1) := p_27 ndcX9_isChance_0 (by decide +kernel)
theorem dX9_isChance_1 : decode cX9_isChance 1 = .ok (.i2l, 1) := p_133 ndcX9_isChance_0 (by decide +kernel)
theorem dX9_isChance_2 : decode cX9_isChance 2 = .ok (.ldc2_w 58, 3) := p_20 ndcX9_isChance_0 (by decide +kernel)
theorem dX9_isChance_5 : decode cX9_isChance 5 = .ok (.ldc2_w 79, 3) := p_20 ndcX9_isChance_0 (by decide +kernel)
theorem dX9_isChance_8 : decode cX9_isChance 8 = .ok (.invokestatic 60, 3) := p_184 ndcX9_isChance_0 (by decide +kernel)
theorem dX9_isChance_11 : decode cX9_isChance 11 = .ok (.ifCond .eq 20, 3) := p_153 ndcX9_isChance_0 20 (by decide +kernel) (by decide +kernel)
theorem dX9_isChance_14 : decode cX9_isChance 14 = .ok (.iload_n 0, 1) := p_26 ndcX9_isChance_0 (by decide +kernel)
theorem dX9_isChance_15 : decode cX9_isChance 15 = .ok (.i2l, 1) := p_133 ndcX9_isChance_0 (by decide +kernel)
theorem dX9_isChance_16 : decode cX9_isChance 16 = .ok (.lconst 1, 1) := p_10 ndcX9_isChance_0 (by decide +kernel)
theorem dX9_isChance_17 : decode cX9_isChance 17 = .ok (.iload_n 1, 1) := p_27 ndcX9_isChance_0 (by decide +kernel)
theorem dX9_isChance_18 : decode cX9_isChance 18 = .ok (.iconst 1, 1) := p_4 ndcX9_isChance_0 (by decide +kernel)
theorem dX9_isChance_19 : decode cX9_isChance 19 = .ok (.isub, 1) := p_100 ndcX9_isChance_0 (by decide +kernel)
theorem dX9_isChance_20 : decode cX9_isChance 20 = .ok (.i2l, 1) := p_133 ndcX9_isChance_0 (by decide +kernel)
theorem dX9_isChance_21 : decode cX9_isChance 21 = .ok (.invokestatic 60, 3) := p_184 ndcX9_isChance_0 (by decide +kernel)
theorem dX9_isChance_24 : decode cX9_isChance 24 = .ok (.ifCond .eq 7, 3) := p_153 ndcX9_isChance_0 7 (by decide +kernel) (by decide +kernel)
theorem dX9_isChance_27 : decode cX9_isChance 27 = .ok (.iconst 1, 1) := p_4 ndcX9_isChance_0 (by decide +kernel)
theorem dX9_isChance_28 : decode cX9_isChance 28 = .ok (.goto 4, 3) := p_167 ndcX9_isChance_0 4 (by decide +kernel) (by decide +kernel)
theorem dX9_isChance_31 : decode cX9_isChance 31 = .ok (.iconst 0, 1) := p_3 ndcX9_isChance_0 (by decide +kernel)
theorem dX9_isChance_32 : decode cX9_isChance 32 = .ok (.ireturn, 1) := p_172 ndcX9_isChance_0 (by decide +kernel)
def nkcX9_chance_0 : List Nat := [27, 28, 184, 0, 81, 154, 0, 5, 3, 172, 42, 180, 0, 13, 16, 6, 27, 79, 42, 180, 0, 13, 16, 7, 28, 79, 4, 172]
theorem ndcX9_chance_0 : ((cX9_chance.data.toList.drop 0).take 66).map UInt8.toNat = nkcX9_chance_0 := by decide +kernel
theorem dX9_chance_0 : decode cX9_chance 0 = .ok (.iload_n 1, 1) := p_27 ndcX9_chance_0 (by decide +kernel)
theorem dX9_chance_1 : decode cX9_chance 1 = .ok (.iload_n 2, 1) := p_28 ndcX9_chance_0 (by decide +kernel)
theorem dX9_chance_2 : decode cX9_chance 2 = .ok (.invokestatic 81, 3) := p_184 ndcX9_chance_0 (by decide +kernel)
theorem dX9_chance_5 : decode cX9_chance 5 = .ok (.ifCond .ne 5, 3) := p_154 ndcX9_chance_0 5 (by decide +kernel) (by decide +kernel)
theorem dX9_chance_8 : decode cX9_chance 8 = .ok (.iconst 0, 1) := p_3 ndcX9_chance_0 (by decide +kernel)
theorem dX9_chance_9 : decode cX9_chance 9 = .ok (.ireturn, 1) := p_172 ndcX9_chance_0 (by decide +kernel)
theorem dX9_chance_10 : decode cX9_chance 10 = .ok (.aload_n 0, 1) := p_42 ndcX9_chance_0 (by decide +kernel)
theorem dX9_chance_11 : decode cX9_chance 11 = .ok (.getfield 13, 3) := p_180 ndcX9_chance_0 (by decide +kernel)
theorem dX9_chance_14 : decode cX9_chance 14 = .ok (.bipush 6, 2) := p_16 ndcX9_chance_0 6 (by decide +kernel) (by decide +kernel)
theorem dX9_chance_16 : decode cX9_chance 16 = .ok (.iload_n 1, 1) := p_27 ndcX9_chance_0 (by decide +kernel)
theorem dX9_chance_17 : decode cX9_chance 17 = .ok (.iastore, 1) := p_79 ndcX9_chance_0 (by decide +kernel)
theorem dX9_chance_18 : decode cX9_chance 18 = .ok (.aload_n 0, 1) := p_42 ndcX9_chance_0 (by decide +kernel)
theorem dX9_chance_19 : decode cX9_chance 19 = .ok (.getfield 13, 3) := p_180 ndcX9_chance_0 (by decide +kernel)
theorem dX9_chance_22 : decode cX9_chance 22 = .ok (.bipush 7, 2) := p_16 ndcX9_chance_0 7 (by decide +kernel) (by decide +kernel)
theorem dX9_chance_24 : decode cX9_chance 24 = .ok (.iload_n 2, 1) := p_28 ndcX9_chance_0 (by decide +kernel)
theorem dX9_chance_25 : decode cX9_chance 25 = .ok (.iastore, 1) := p_79 ndcX9_chance_0 (by decide +kernel)
theorem dX9_chance_26 : decode cX9_chance 26 = .ok (.iconst 1, 1) := p_4 ndcX9_chance_0 (by decide +kernel)
theorem dX9_chance_27 : decode cX9_chance 27 = .ok (.ireturn, 1) := p_172 ndcX9_chance_0 (by decide +kernel)
def nkcX9_rate_0 : List Nat := [27, 133, 9, 20, 0, 85, 184, 0, 60, 154, 0, 5, 2, 172, 42, 180, 0, 13, 16, 8, 46, 61, 42, 180, 0, 13, 16, 8, 27, 79, 28, 172]
theorem ndcX9_rate_0 : ((cX9_rate.data.toList.drop 0).take 66).map UInt8.toNat = nkcX9_rate_0 := by decide +kernel
theorem dX9_rate_0 : decode cX9_rate 0 = .ok (.iload_n 1, 1) := p_27 ndcX9_rate_0 (by decide +kernel)
theorem dX9_rate_1 : decode cX9_rate 1 = .ok (.i2l, 1) := p_133 ndcX9_rate_0 (by decide +kernel)
theorem dX9_rate_2 : decode cX9_rate 2 = .ok (.lconst 0, 1) := p_9 ndcX9_rate_0 (by decide +kernel)
theorem dX9_rate_3 : decode cX9_rate 3 = .ok (.ldc2_w 85, 3) := p_20 ndcX9_rate_0 (by decide +kernel)
theorem dX9_rate_6 : decode cX9_rate 6 = .ok (.invokestatic 60, 3) := p_184 ndcX9_rate_0 (by decide +kernel)
theorem dX9_rate_9 : decode cX9_rate 9 = .ok (.ifCond .ne 5, 3) := p_154 ndcX9_rate_0 5 (by decide +kernel) (by decide +kernel)
theorem dX9_rate_12 : decode cX9_rate 12 = .ok (.iconst (-1), 1) := p_2 ndcX9_rate_0 (by decide +kernel)
theorem dX9_rate_13 : decode cX9_rate 13 = .ok (.ireturn, 1) := p_172 ndcX9_rate_0 (by decide +kernel)
theorem dX9_rate_14 : decode cX9_rate 14 = .ok (.aload_n 0, 1) := p_42 ndcX9_rate_0 (by decide +kernel)
theorem dX9_rate_15 : decode cX9_rate 15 = .ok (.getfield 13, 3) := p_180 ndcX9_rate_0 (by decide +kernel)
theorem dX9_rate_18 : decode cX9_rate 18 = .ok (.bipush 8, 2) := p_16 ndcX9_rate_0 8 (by decide +kernel) (by decide +kernel)
theorem dX9_rate_20 : decode cX9_rate 20 = .ok (.iaload, 1) := p_46 ndcX9_rate_0 (by decide +kernel)
theorem dX9_rate_21 : decode cX9_rate 21 = .ok (.istore_n 2, 1) := p_61 ndcX9_rate_0 (by decide +kernel)
theorem dX9_rate_22 : decode cX9_rate 22 = .ok (.aload_n 0, 1) := p_42 ndcX9_rate_0 (by decide +kernel)
theorem dX9_rate_23 : decode cX9_rate 23 = .ok (.getfield 13, 3) := p_180 ndcX9_rate_0 (by decide +kernel)
theorem dX9_rate_26 : decode cX9_rate 26 = .ok (.bipush 8, 2) := p_16 ndcX9_rate_0 8 (by decide +kernel) (by decide +kernel)
theorem dX9_rate_28 : decode cX9_rate 28 = .ok (.iload_n 1, 1) := p_27 ndcX9_rate_0 (by decide +kernel)
theorem dX9_rate_29 : decode cX9_rate 29 = .ok (.iastore, 1) := p_79 ndcX9_rate_0 (by decide +kernel)
theorem dX9_rate_30 : decode cX9_rate 30 = .ok (.iload_n 2, 1) := p_28 ndcX9_rate_0 (by decide +kernel)
theorem dX9_rate_31 : decode cX9_rate 31 = .ok (.ireturn, 1) := p_172 ndcX9_rate_0 (by decide +kernel)
def nkcX9_prices_0 : List Nat := [16, 9, 27, 104, 54, 5, 42, 28, 133, 181, 0, 87, 42, 10, 181, 0, 91, 3, 54, 6, 21, 6, 29, 162, 0, 71, 42, 42, 180, 0, 87, 42, 180, 0, 13, 21, 5, 21, 6, 21, 4, 162, 0, 7, 5, 167, 0, 4, 7, 96, 46, 133, 105, 181, 0, 87, 42, 42, 180, 0, 91, 42, 180, 0, 13, 21]
theorem ndcX9_prices_0 : ((cX9_prices.data.toList.drop 0).take 66).map UInt8.toNat = nkcX9_prices_0 := by decide +kernel
theorem dX9_prices_0 : decode cX9_prices 0 = .ok (.bipush 9, 2) := p_16 ndcX9_prices_0 9 (by decide +kernel) (by decide +kernel)
theorem dX9_prices_2 : decode cX9_prices 2 = .ok (.iload_n 1, 1) := p_27 ndcX9_prices_0 (by decide +kernel)
theorem dX9_prices_3 : decode cX9_prices 3 = .ok (.imul, 1) := p_104 ndcX9_prices_0 (by decide +kernel)
theorem dX9_prices_4 : decode cX9_prices 4 = .ok (.istore 5, 2) := p_54 ndcX9_prices_0 (by decide +kernel)
theorem dX9_prices_6 : decode cX9_prices 6 = .ok (.aload_n 0, 1) := p_42 ndcX9_prices_0 (by decide +kernel)
theorem dX9_prices_7 : decode cX9_prices 7 = .ok (.iload_n 2, 1) := p_28 ndcX9_prices_0 (by decide +kernel)
theorem dX9_prices_8 : decode cX9_prices 8 = .ok (.i2l, 1) := p_133 ndcX9_prices_0 (by decide +kernel)
theorem dX9_prices_9 : decode cX9_prices 9 = .ok (.putfield 87, 3) := p_181 ndcX9_prices_0 (by decide +kernel)
theorem dX9_prices_12 : decode cX9_prices 12 = .ok (.aload_n 0, 1) := p_42 ndcX9_prices_0 (by decide +kernel)
theorem dX9_prices_13 : decode cX9_prices 13 = .ok (.lconst 1, 1) := p_10 ndcX9_prices_0 (by decide +kernel)
theorem dX9_prices_14 : decode cX9_prices 14 = .ok (.putfield 91, 3) := p_181 ndcX9_prices_0 (by decide +kernel)
theorem dX9_prices_17 : decode cX9_prices 17 = .ok (.iconst 0, 1) := p_3 ndcX9_prices_0 (by decide +kernel)
theorem dX9_prices_18 : decode cX9_prices 18 = .ok (.istore 6, 2) := p_54 ndcX9_prices_0 (by decide +kernel)
theorem dX9_prices_20 : decode cX9_prices 20 = .ok (.iload 6, 2) := p_21 ndcX9_prices_0 (by decide +kernel)
theorem dX9_prices_22 : decode cX9_prices 22 = .ok (.iload_n 3, 1) := p_29 ndcX9_prices_0 (by decide +kernel)
theorem dX9_prices_23 : decode cX9_prices 23 = .ok (.if_icmp .ge 71, 3) := p_162 ndcX9_prices_0 71 (by decide +kernel) (by decide +kernel)
theorem dX9_prices_26 : decode cX9_prices 26 = .ok (.aload_n 0, 1) := p_42 ndcX9_prices_0 (by decide +kernel)
theorem dX9_prices_27 : decode cX9_prices 27 = .ok (.aload_n 0, 1) := p_42 ndcX9_prices_0 (by decide +kernel)
theorem dX9_prices_28 : decode cX9_prices 28 = .ok (.getfield 87, 3) := p_180 ndcX9_prices_0 (by decide +kernel)
theorem dX9_prices_31 : decode cX9_prices 31 = .ok (.aload_n 0, 1) := p_42 ndcX9_prices_0 (by decide +kernel)
theorem dX9_prices_32 : decode cX9_prices 32 = .ok (.getfield 13, 3) := p_180 ndcX9_prices_0 (by decide +kernel)
theorem dX9_prices_35 : decode cX9_prices 35 = .ok (.iload 5, 2) := p_21 ndcX9_prices_0 (by decide +kernel)
theorem dX9_prices_37 : decode cX9_prices 37 = .ok (.iload 6, 2) := p_21 ndcX9_prices_0 (by decide +kernel)
theorem dX9_prices_39 : decode cX9_prices 39 = .ok (.iload 4, 2) := p_21 ndcX9_prices_0 (by decide +kernel)
theorem dX9_prices_41 : decode cX9_prices 41 = .ok (.if_icmp .ge 7, 3) := p_162 ndcX9_prices_0 7 (by decide +kernel) (by decide +kernel)
theorem dX9_prices_44 : decode cX9_prices 44 = .ok (.iconst 2, 1) := p_5 ndcX9_prices_0 (by decide +kernel)
theorem dX9_prices_45 : decode cX9_prices 45 = .ok (.goto 4, 3) := p_167 ndcX9_prices_0 4 (by decide +kernel) (by decide +kernel)
theorem dX9_prices_48 : decode cX9_prices 48 = .ok (.iconst 4, 1) := p_7 ndcX9_prices_0 (by decide +kernel)
theorem dX9_prices_49 : decode cX9_prices 49 = .ok (.iadd, 1) := p_96 ndcX9_prices_0 (by decide +kernel)
theorem dX9_prices_50 : decode cX9_prices 50 = .ok (.iaload, 1) := p_46 ndcX9_prices_0 (by decide +kernel)
theorem dX9_prices_51 : decode cX9_prices 51 = .ok (.i2l, 1) := p_133 ndcX9_prices_0 (by decide +kernel)
theorem dX9_prices_52 : decode cX9_prices 52 = .ok (.lmul, 1) := p_105 ndcX9_prices_0 (by decide +kernel)
theorem dX9_prices_53 : decode cX9_prices 53 = .ok (.putfield 87, 3) := p_181 ndcX9_prices_0 (by decide +kernel)
theorem dX9_prices_56 : decode cX9_prices 56 = .ok (.aload_n 0, 1) := p_42 ndcX9_prices_0 (by decide +kernel)
theorem dX9_prices_57 : decode cX9_prices 57 = .ok (.aload_n 0, 1) := p_42 ndcX9_prices_0 (by decide +kernel)
theorem dX9_prices_58 : decode cX9_prices 58 = .ok (.getfield 91, 3) := p_180 ndcX9_prices_0 (by decide +kernel)
theorem dX9_prices_61 : decode cX9_prices 61 = .ok (.aload_n 0, 1) := p_42 ndcX9_prices_0 (by decide +kernel)
theorem dX9_prices_62 : decode cX9_prices 62 = .ok (.getfield 13, 3) := p_180 ndcX9_prices_0 (by decide +kernel)
def nkcX9_prices_1 : List Nat := [13, 21, 5, 21, 6, 21, 4, 162, 0, 7, 5, 167, 0, 4, 7, 96, 4, 96, 46, 133, 105, 181, 0, 91, 132, 6, 1, 167, 255, 185, 177]
theorem ndcX9_prices_1 : ((cX9_prices.data.toList.drop 64).take 66).map UInt8.toNat = nkcX9_prices_1 := by decide +kernel
theorem dX9_prices_65 : decode cX9_prices 65 = .ok (.iload 5, 2) := p_21 ndcX9_prices_1 (by decide +kernel)
theorem dX9_prices_67 : decode cX9_prices 67 = .ok (.iload 6, 2) := p_21 ndcX9_prices_1 (by decide +kernel)
theorem dX9_prices_69 : decode cX9_prices 69 = .ok (.iload 4, 2) := p_21 ndcX9_prices_1 (by decide +kernel)
theorem dX9_prices_71 : decode cX9_prices 71 = .ok (.if_icmp .ge 7, 3) := p_162 ndcX9_prices_1 7 (by decide +kernel) (by decide +kernel)
theorem dX9_prices_74 : decode cX9_prices 74 = .ok (.iconst 2, 1) := p_5 ndcX9_prices_1 (by decide +kernel)
theorem dX9_prices_75 : decode cX9_prices 75 = .ok (.goto 4, 3) := p_167 ndcX9_prices_1 4 (by decide +kernel) (by decide +kernel)
theorem dX9_prices_78 : decode cX9_prices 78 = .ok (.iconst 4, 1) := p_7 ndcX9_prices_1 (by decide +kernel)
theorem dX9_prices_79 : decode cX9_prices 79 = .ok (.iadd, 1) := p_96 ndcX9_prices_1 (by decide +kernel)
theorem dX9_prices_80 : decode cX9_prices 80 = .ok (.iconst 1, 1) := p_4 ndcX9_prices_1 (by decide +kernel)
theorem dX9_prices_81 : decode cX9_prices 81 = .ok (.iadd, 1) := p_96 ndcX9_prices_1 (by decide +kernel)
theorem dX9_prices_82 : decode cX9_prices 82 = .ok (.iaload, 1) := p_46 ndcX9_prices_1 (by decide +kernel)
theorem dX9_prices_83 : decode cX9_prices 83 = .ok (.i2l, 1) := p_133 ndcX9_prices_1 (by decide +kernel)
theorem dX9_prices_84 : decode cX9_prices 84 = .ok (.lmul, 1) := p_105 ndcX9_prices_1 (by decide +kernel)
theorem dX9_prices_85 : decode cX9_prices 85 = .ok (.putfield 91, 3) := p_181 ndcX9_prices_1 (by decide +kernel)
theorem dX9_prices_88 : decode cX9_prices 88 = .ok (.iinc 6 1, 3) := by decide +kernel
theorem dX9_prices_91 : decode cX9_prices 91 = .ok (.goto (-71), 3) := p_167 ndcX9_prices_1 65465 (by decide +kernel) (by decide +kernel)
theorem dX9_prices_94 : decode cX9_prices 94 = .ok (.return_, 1) := p_177 ndcX9_prices_1 (by decide +kernel)
def nkcX9_takesTree_0 : List Nat := [42, 42, 180, 0, 13, 16, 9, 27, 104, 3, 96, 46, 181, 0, 94, 42, 42, 180, 0, 13, 16, 9, 27, 104, 16, 6, 96, 46, 181, 0, 97, 42, 42, 180, 0, 13, 16, 9, 27, 104, 16, 7, 96, 46, 181, 0, 100, 42, 42, 180, 0, 13, 16, 9, 27, 104, 16, 8, 96, 46, 181, 0, 103, 3, 62, 29]
theorem ndcX9_takesTree_0 : ((cX9_takesTree.data.toList.drop 0).take 66).map UInt8.toNat = nkcX9_takesTree_0 := by decide +kernel
theorem dX9_takesTree_0 : decode cX9_takesTree 0 = .ok (.aload_n 0, 1) := p_42 ndcX9_takesTree_0 (by decide +kernel)
theorem dX9_takesTree_1 : decode cX9_takesTree 1 = .ok (.aload_n 0, 1) := p_42 ndcX9_takesTree_0 (by decide +kernel)
theorem dX9_takesTree_2 : decode cX9_takesTree 2 = .ok (.getfield 13, 3) := p_180 ndcX9_takesTree_0 (by decide +kernel)
theorem dX9_takesTree_5 : decode cX9_takesTree 5 = .ok (.bipush 9, 2) := p_16 ndcX9_takesTree_0 9 (by decide +kernel) (by decide +kernel)
theorem dX9_takesTree_7 : decode cX9_takesTree 7 = .ok (.iload_n 1, 1) := p_27 ndcX9_takesTree_0 (by decide +kernel)
theorem dX9_takesTree_8 : decode cX9_takesTree 8 = .ok (.imul, 1) := p_104 ndcX9_takesTree_0 (by decide +kernel)
theorem dX9_takesTree_9 : decode cX9_takesTree 9 = .ok (.iconst 0, 1) := p_3 ndcX9_takesTree_0 (by decide +kernel)
theorem dX9_takesTree_10 : decode cX9_takesTree 10 = .ok (.iadd, 1) := p_96 ndcX9_takesTree_0 (by decide +kernel)
theorem dX9_takesTree_11 : decode cX9_takesTree 11 = .ok (.iaload, 1) := p_46 ndcX9_takesTree_0 (by decide +kernel)
theorem dX9_takesTree_12 : decode cX9_takesTree 12 = .ok (.putfield 94, 3) := p_181 ndcX9_takesTree_0 (by decide +kernel)
theorem dX9_takesTree_15 : decode cX9_takesTree 15 = .ok (.aload_n 0, 1) := p_42 ndcX9_takesTree_0 (by decide +kernel)
theorem dX9_takesTree_16 : decode cX9_takesTree 16 = .ok (.aload_n 0, 1) := p_42 ndcX9_takesTree_0 (by decide +kernel)
theorem dX9_takesTree_17 : decode cX9_takesTree 17 = .ok (.getfield 13, 3) := p_180 ndcX9_takesTree_0 (by decide +kernel)
theorem dX9_takesTree_20 : decode cX9_takesTree 20 = .ok (.bipush 9, 2) := p_16 ndcX9_takesTree_0 9 (by decide +kernel) (by decide +kernel)
theorem dX9_takesTree_22 : decode cX9_takesTree 22 = .ok (.iload_n 1, 1) := p_27 ndcX9_takesTree_0 (by decide +kernel)
theorem dX9_takesTree_23 : decode cX9_takesTree 23 = .ok (.imul, 1) := p_104 ndcX9_takesTree_0 (by decide +kernel)
theorem dX9_takesTree_24 : decode cX9_takesTree 24 = .ok (.bipush 6, 2) := p_16 ndcX9_takesTree_0 6 (by decide +kernel) (by decide +kernel)
theorem dX9_takesTree_26 : decode cX9_takesTree 26 = .ok (.iadd, 1) := p_96 ndcX9_takesTree_0 (by decide +kernel)
theorem dX9_takesTree_27 : decode cX9_takesTree 27 = .ok (.iaload, 1) := p_46 ndcX9_takesTree_0 (by decide +kernel)
theorem dX9_takesTree_28 : decode cX9_takesTree 28 = .ok (.putfield 97, 3) := p_181 ndcX9_takesTree_0 (by decide +kernel)
theorem dX9_takesTree_31 : decode cX9_takesTree 31 = .ok (.aload_n 0, 1) := p_42 ndcX9_takesTree_0 (by decide +kernel)
theorem dX9_takesTree_32 : decode cX9_takesTree 32 = .ok (.aload_n 0, 1) := p_42 ndcX9_takesTree_0 (by decide +kernel)
theorem dX9_takesTree_33 : decode cX9_takesTree 33 = .ok (.getfield 13, 3) := p_180 ndcX9_takesTree_0 (by decide +kernel)
theorem dX9_takesTree_36 : decode cX9_takesTree 36 = .ok (.bipush 9, 2) := p_16 ndcX9_takesTree_0 9 (by decide +kernel) (by decide +kernel)
theorem dX9_takesTree_38 : decode cX9_takesTree 38 = .ok (.iload_n 1, 1) := p_27 ndcX9_takesTree_0 (by decide +kernel)
theorem dX9_takesTree_39 : decode cX9_takesTree 39 = .ok (.imul, 1) := p_104 ndcX9_takesTree_0 (by decide +kernel)
theorem dX9_takesTree_40 : decode cX9_takesTree 40 = .ok (.bipush 7, 2) := p_16 ndcX9_takesTree_0 7 (by decide +kernel) (by decide +kernel)
theorem dX9_takesTree_42 : decode cX9_takesTree 42 = .ok (.iadd, 1) := p_96 ndcX9_takesTree_0 (by decide +kernel)
theorem dX9_takesTree_43 : decode cX9_takesTree 43 = .ok (.iaload, 1) := p_46 ndcX9_takesTree_0 (by decide +kernel)
theorem dX9_takesTree_44 : decode cX9_takesTree 44 = .ok (.putfield 100, 3) := p_181 ndcX9_takesTree_0 (by decide +kernel)
theorem dX9_takesTree_47 : decode cX9_takesTree 47 = .ok (.aload_n 0, 1) := p_42 ndcX9_takesTree_0 (by decide +kernel)
theorem dX9_takesTree_48 : decode cX9_takesTree 48 = .ok (.aload_n 0, 1) := p_42 ndcX9_takesTree_0 (by decide +kernel)
theorem dX9_takesTree_49 : decode cX9_takesTree 49 = .ok (.getfield 13, 3) := p_180 ndcX9_takesTree_0 (by decide +kernel)
theorem dX9_takesTree_52 : decode cX9_takesTree 52 = .ok (.bipush 9, 2) := p_16 ndcX9_takesTree_0 9 (by decide +kernel) (by decide +kernel)
theorem dX9_takesTree_54 : decode cX9_takesTree 54 = .ok (.iload_n 1, 1) := p_27 ndcX9_takesTree_0 (by decide +kernel)
theorem dX9_takesTree_55 : decode cX9_takesTree 55 = .ok (.imul, 1) := p_104 ndcX9_takesTree_0 (by decide +kernel)
theorem dX9_takesTree_56 : decode cX9_takesTree 56 = .ok (.bipush 8, 2) := p_16 ndcX9_takesTree_0 8 (by decide +kernel) (by decide +kernel)
theorem dX9_takesTree_58 : decode cX9_takesTree 58 = .ok (.iadd, 1) := p_96 ndcX9_takesTree_0 (by decide +kernel)
theorem dX9_takesTree_59 : decode cX9_takesTree 59 = .ok (.iaload, 1) := p_46 ndcX9_takesTree_0 (by decide +kernel)
theorem dX9_takesTree_60 : decode cX9_takesTree 60 = .ok (.putfield 103, 3) := p_181 ndcX9_takesTree_0 (by decide +kernel)
theorem dX9_takesTree_63 : decode cX9_takesTree 63 = .ok (.iconst 0, 1) := p_3 ndcX9_takesTree_0 (by decide +kernel)
def nkcX9_takesTree_1 : List Nat := [62, 29, 42, 180, 0, 94, 163, 0, 58, 3, 54, 4, 21, 4, 29, 163, 0, 43, 42, 27, 28, 29, 21, 4, 182, 0, 106, 42, 180, 0, 26, 16, 7, 29, 104, 21, 4, 96, 20, 0, 110, 42, 180, 0, 87, 105, 42, 180, 0, 91, 109, 80, 132, 4, 1, 167, 255, 213, 132, 3, 1, 167, 255, 196, 177]
theorem ndcX9_takesTree_1 : ((cX9_takesTree.data.toList.drop 64).take 66).map UInt8.toNat = nkcX9_takesTree_1 := by decide +kernel
theorem dX9_takesTree_64 : decode cX9_takesTree 64 = .ok (.istore_n 3, 1) := p_62 ndcX9_takesTree_1 (by decide +kernel)
theorem dX9_takesTree_65 : decode cX9_takesTree 65 = .ok (.iload_n 3, 1) := p_29 ndcX9_takesTree_1 (by decide +kernel)
theorem dX9_takesTree_66 : decode cX9_takesTree 66 = .ok (.aload_n 0, 1) := p_42 ndcX9_takesTree_1 (by decide +kernel)
theorem dX9_takesTree_67 : decode cX9_takesTree 67 = .ok (.getfield 94, 3) := p_180 ndcX9_takesTree_1 (by decide +kernel)
theorem dX9_takesTree_70 : decode cX9_takesTree 70 = .ok (.if_icmp .gt 58, 3) := p_163 ndcX9_takesTree_1 58 (by decide +kernel) (by decide +kernel)
theorem dX9_takesTree_73 : decode cX9_takesTree 73 = .ok (.iconst 0, 1) := p_3 ndcX9_takesTree_1 (by decide +kernel)
theorem dX9_takesTree_74 : decode cX9_takesTree 74 = .ok (.istore 4, 2) := p_54 ndcX9_takesTree_1 (by decide +kernel)
theorem dX9_takesTree_76 : decode cX9_takesTree 76 = .ok (.iload 4, 2) := p_21 ndcX9_takesTree_1 (by decide +kernel)
theorem dX9_takesTree_78 : decode cX9_takesTree 78 = .ok (.iload_n 3, 1) := p_29 ndcX9_takesTree_1 (by decide +kernel)
theorem dX9_takesTree_79 : decode cX9_takesTree 79 = .ok (.if_icmp .gt 43, 3) := p_163 ndcX9_takesTree_1 43 (by decide +kernel) (by decide +kernel)
theorem dX9_takesTree_82 : decode cX9_takesTree 82 = .ok (.aload_n 0, 1) := p_42 ndcX9_takesTree_1 (by decide +kernel)
theorem dX9_takesTree_83 : decode cX9_takesTree 83 = .ok (.iload_n 1, 1) := p_27 ndcX9_takesTree_1 (by decide +kernel)
theorem dX9_takesTree_84 : decode cX9_takesTree 84 = .ok (.iload_n 2, 1) := p_28 ndcX9_takesTree_1 (by decide +kernel)
theorem dX9_takesTree_85 : decode cX9_takesTree 85 = .ok (.iload_n 3, 1) := p_29 ndcX9_takesTree_1 (by decide +kernel)
theorem dX9_takesTree_86 : decode cX9_takesTree 86 = .ok (.iload 4, 2) := p_21 ndcX9_takesTree_1 (by decide +kernel)
theorem dX9_takesTree_88 : decode cX9_takesTree 88 = .ok (.invokevirtual 106, 3) := p_182 ndcX9_takesTree_1 (by decide +kernel)
theorem dX9_takesTree_91 : decode cX9_takesTree 91 = .ok (.aload_n 0, 1) := p_42 ndcX9_takesTree_1 (by decide +kernel)
theorem dX9_takesTree_92 : decode cX9_takesTree 92 = .ok (.getfield 26, 3) := p_180 ndcX9_takesTree_1 (by decide +kernel)
theorem dX9_takesTree_95 : decode cX9_takesTree 95 = .ok (.bipush 7, 2) := p_16 ndcX9_takesTree_1 7 (by decide +kernel) (by decide +kernel)
theorem dX9_takesTree_97 : decode cX9_takesTree 97 = .ok (.iload_n 3, 1) := p_29 ndcX9_takesTree_1 (by decide +kernel)
theorem dX9_takesTree_98 : decode cX9_takesTree 98 = .ok (.imul, 1) := p_104 ndcX9_takesTree_1 (by decide +kernel)
theorem dX9_takesTree_99 : decode cX9_takesTree 99 = .ok (.iload 4, 2) := p_21 ndcX9_takesTree_1 (by decide +kernel)
theorem dX9_takesTree_101 : decode cX9_takesTree 101 = .ok (.iadd, 1) := p_96 ndcX9_takesTree_1 (by decide +kernel)
theorem dX9_takesTree_102 : decode cX9_takesTree 102 = .ok (.ldc2_w 110, 3) := p_20 ndcX9_takesTree_1 (by decide +kernel)
theorem dX9_takesTree_105 : decode cX9_takesTree 105 = .ok (.aload_n 0, 1) := p_42 ndcX9_takesTree_1 (by decide +kernel)
theorem dX9_takesTree_106 : decode cX9_takesTree 106 = .ok (.getfield 87, 3) := p_180 ndcX9_takesTree_1 (by decide +kernel)
theorem dX9_takesTree_109 : decode cX9_takesTree 109 = .ok (.lmul, 1) := p_105 ndcX9_takesTree_1 (by decide +kernel)
theorem dX9_takesTree_110 : decode cX9_takesTree 110 = .ok (.aload_n 0, 1) := p_42 ndcX9_takesTree_1 (by decide +kernel)
theorem dX9_takesTree_111 : decode cX9_takesTree 111 = .ok (.getfield 91, 3) := p_180 ndcX9_takesTree_1 (by decide +kernel)
theorem dX9_takesTree_114 : decode cX9_takesTree 114 = .ok (.ldiv, 1) := p_109 ndcX9_takesTree_1 (by decide +kernel)
theorem dX9_takesTree_115 : decode cX9_takesTree 115 = .ok (.lastore, 1) := p_80 ndcX9_takesTree_1 (by decide +kernel)
theorem dX9_takesTree_116 : decode cX9_takesTree 116 = .ok (.iinc 4 1, 3) := by decide +kernel
theorem dX9_takesTree_119 : decode cX9_takesTree 119 = .ok (.goto (-43), 3) := p_167 ndcX9_takesTree_1 65493 (by decide +kernel) (by decide +kernel)
theorem dX9_takesTree_122 : decode cX9_takesTree 122 = .ok (.iinc 3 1, 3) := by decide +kernel
theorem dX9_takesTree_125 : decode cX9_takesTree 125 = .ok (.goto (-60), 3) := p_167 ndcX9_takesTree_1 65476 (by decide +kernel) (by decide +kernel)
def nkcX9_takesTree_2 : List Nat := [177]
theorem ndcX9_takesTree_2 : ((cX9_takesTree.data.toList.drop 128).take 66).map UInt8.toNat = nkcX9_takesTree_2 := by decide +kernel
theorem dX9_takesTree_128 : decode cX9_takesTree 128 = .ok (.return_, 1) := p_177 ndcX9_takesTree_2 (by decide +kernel)
def nkcX9_takesNow_0 : List Nat := [42, 3, 42, 180, 0, 13, 4, 46, 182, 0, 112, 177]
theorem ndcX9_takesNow_0 : ((cX9_takesNow.data.toList.drop 0).take 66).map UInt8.toNat = nkcX9_takesNow_0 := by decide +kernel
theorem dX9_takesNow_0 : decode cX9_takesNow 0 = .ok (.aload_n 0, 1) := p_42 ndcX9_takesNow_0 (by decide +kernel)
theorem dX9_takesNow_1 : decode cX9_takesNow 1 = .ok (.iconst 0, 1) := p_3 ndcX9_takesNow_0 (by decide +kernel)
theorem dX9_takesNow_2 : decode cX9_takesNow 2 = .ok (.aload_n 0, 1) := p_42 ndcX9_takesNow_0 (by decide +kernel)
theorem dX9_takesNow_3 : decode cX9_takesNow 3 = .ok (.getfield 13, 3) := p_180 ndcX9_takesNow_0 (by decide +kernel)
theorem dX9_takesNow_6 : decode cX9_takesNow 6 = .ok (.iconst 1, 1) := p_4 ndcX9_takesNow_0 (by decide +kernel)
theorem dX9_takesNow_7 : decode cX9_takesNow 7 = .ok (.iaload, 1) := p_46 ndcX9_takesNow_0 (by decide +kernel)
theorem dX9_takesNow_8 : decode cX9_takesNow 8 = .ok (.invokevirtual 112, 3) := p_182 ndcX9_takesNow_0 (by decide +kernel)
theorem dX9_takesNow_11 : decode cX9_takesNow 11 = .ok (.return_, 1) := p_177 ndcX9_takesNow_0 (by decide +kernel)
def nkcX9_common_0 : List Nat := [30, 9, 148, 156, 0, 8, 30, 117, 167, 0, 4, 30, 55, 4, 32, 55, 6, 22, 6, 9, 148, 153, 0, 21, 22, 4, 22, 6, 113, 55, 8, 22, 6, 55, 4, 22, 8, 55, 6, 167, 255, 234, 22, 4, 173]
theorem ndcX9_common_0 : ((cX9_common.data.toList.drop 0).take 66).map UInt8.toNat = nkcX9_common_0 := by decide +kernel
theorem dX9_common_0 : decode cX9_common 0 = .ok (.lload_n 0, 1) := p_30 ndcX9_common_0 (by decide +kernel)
theorem dX9_common_1 : decode cX9_common 1 = .ok (.lconst 0, 1) := p_9 ndcX9_common_0 (by decide +kernel)
theorem dX9_common_2 : decode cX9_common 2 = .ok (.lcmp, 1) := p_148 ndcX9_common_0 (by decide +kernel)
theorem dX9_common_3 : decode cX9_common 3 = .ok (.ifCond .ge 8, 3) := p_156 ndcX9_common_0 8 (by decide +kernel) (by decide +kernel)
theorem dX9_common_6 : decode cX9_common 6 = .ok (.lload_n 0, 1) := p_30 ndcX9_common_0 (by decide +kernel)
theorem dX9_common_7 : decode cX9_common 7 = .ok (.lneg, 1) := p_117 ndcX9_common_0 (by decide +kernel)
theorem dX9_common_8 : decode cX9_common 8 = .ok (.goto 4, 3) := p_167 ndcX9_common_0 4 (by decide +kernel) (by decide +kernel)
theorem dX9_common_11 : decode cX9_common 11 = .ok (.lload_n 0, 1) := p_30 ndcX9_common_0 (by decide +kernel)
theorem dX9_common_12 : decode cX9_common 12 = .ok (.lstore 4, 2) := p_55 ndcX9_common_0 (by decide +kernel)
theorem dX9_common_14 : decode cX9_common 14 = .ok (.lload_n 2, 1) := p_32 ndcX9_common_0 (by decide +kernel)
theorem dX9_common_15 : decode cX9_common 15 = .ok (.lstore 6, 2) := p_55 ndcX9_common_0 (by decide +kernel)
theorem dX9_common_17 : decode cX9_common 17 = .ok (.lload 6, 2) := p_22 ndcX9_common_0 (by decide +kernel)
theorem dX9_common_19 : decode cX9_common 19 = .ok (.lconst 0, 1) := p_9 ndcX9_common_0 (by decide +kernel)
theorem dX9_common_20 : decode cX9_common 20 = .ok (.lcmp, 1) := p_148 ndcX9_common_0 (by decide +kernel)
theorem dX9_common_21 : decode cX9_common 21 = .ok (.ifCond .eq 21, 3) := p_153 ndcX9_common_0 21 (by decide +kernel) (by decide +kernel)
theorem dX9_common_24 : decode cX9_common 24 = .ok (.lload 4, 2) := p_22 ndcX9_common_0 (by decide +kernel)
theorem dX9_common_26 : decode cX9_common 26 = .ok (.lload 6, 2) := p_22 ndcX9_common_0 (by decide +kernel)
theorem dX9_common_28 : decode cX9_common 28 = .ok (.lrem, 1) := p_113 ndcX9_common_0 (by decide +kernel)
theorem dX9_common_29 : decode cX9_common 29 = .ok (.lstore 8, 2) := p_55 ndcX9_common_0 (by decide +kernel)
theorem dX9_common_31 : decode cX9_common 31 = .ok (.lload 6, 2) := p_22 ndcX9_common_0 (by decide +kernel)
theorem dX9_common_33 : decode cX9_common 33 = .ok (.lstore 4, 2) := p_55 ndcX9_common_0 (by decide +kernel)
theorem dX9_common_35 : decode cX9_common 35 = .ok (.lload 8, 2) := p_22 ndcX9_common_0 (by decide +kernel)
theorem dX9_common_37 : decode cX9_common 37 = .ok (.lstore 6, 2) := p_55 ndcX9_common_0 (by decide +kernel)
theorem dX9_common_39 : decode cX9_common 39 = .ok (.goto (-22), 3) := p_167 ndcX9_common_0 65514 (by decide +kernel) (by decide +kernel)
theorem dX9_common_42 : decode cX9_common 42 = .ok (.lload 4, 2) := p_22 ndcX9_common_0 (by decide +kernel)
theorem dX9_common_44 : decode cX9_common 44 = .ok (.lreturn, 1) := p_173 ndcX9_common_0 (by decide +kernel)
def nkcX9_price_0 : List Nat := [27, 133, 9, 42, 180, 0, 13, 3, 46, 133, 184, 0, 60, 153, 0, 26, 28, 133, 9, 27, 133, 184, 0, 60, 153, 0, 15, 29, 133, 9, 20, 0, 58, 184, 0, 60, 154, 0, 7, 20, 0, 116, 173, 42, 3, 42, 180, 0, 13, 4, 46, 27, 28, 182, 0, 106, 42, 180, 0, 87, 42, 180, 0, 91, 184, 0]
theorem ndcX9_price_0 : ((cX9_price.data.toList.drop 0).take 66).map UInt8.toNat = nkcX9_price_0 := by decide +kernel
theorem dX9_price_0 : decode cX9_price 0 = .ok (.iload_n 1, 1) := p_27 ndcX9_price_0 (by decide +kernel)
theorem dX9_price_1 : decode cX9_price 1 = .ok (.i2l, 1) := p_133 ndcX9_price_0 (by decide +kernel)
theorem dX9_price_2 : decode cX9_price 2 = .ok (.lconst 0, 1) := p_9 ndcX9_price_0 (by decide +kernel)
theorem dX9_price_3 : decode cX9_price 3 = .ok (.aload_n 0, 1) := p_42 ndcX9_price_0 (by decide +kernel)
theorem dX9_price_4 : decode cX9_price 4 = .ok (.getfield 13, 3) := p_180 ndcX9_price_0 (by decide +kernel)
theorem dX9_price_7 : decode cX9_price 7 = .ok (.iconst 0, 1) := p_3 ndcX9_price_0 (by decide +kernel)
theorem dX9_price_8 : decode cX9_price 8 = .ok (.iaload, 1) := p_46 ndcX9_price_0 (by decide +kernel)
theorem dX9_price_9 : decode cX9_price 9 = .ok (.i2l, 1) := p_133 ndcX9_price_0 (by decide +kernel)
theorem dX9_price_10 : decode cX9_price 10 = .ok (.invokestatic 60, 3) := p_184 ndcX9_price_0 (by decide +kernel)
theorem dX9_price_13 : decode cX9_price 13 = .ok (.ifCond .eq 26, 3) := p_153 ndcX9_price_0 26 (by decide +kernel) (by decide +kernel)
theorem dX9_price_16 : decode cX9_price 16 = .ok (.iload_n 2, 1) := p_28 ndcX9_price_0 (by decide +kernel)
theorem dX9_price_17 : decode cX9_price 17 = .ok (.i2l, 1) := p_133 ndcX9_price_0 (by decide +kernel)
theorem dX9_price_18 : decode cX9_price 18 = .ok (.lconst 0, 1) := p_9 ndcX9_price_0 (by decide +kernel)
theorem dX9_price_19 : decode cX9_price 19 = .ok (.iload_n 1, 1) := p_27 ndcX9_price_0 (by decide +kernel)
theorem dX9_price_20 : decode cX9_price 20 = .ok (.i2l, 1) := p_133 ndcX9_price_0 (by decide +kernel)
theorem dX9_price_21 : decode cX9_price 21 = .ok (.invokestatic 60, 3) := p_184 ndcX9_price_0 (by decide +kernel)
theorem dX9_price_24 : decode cX9_price 24 = .ok (.ifCond .eq 15, 3) := p_153 ndcX9_price_0 15 (by decide +kernel) (by decide +kernel)
theorem dX9_price_27 : decode cX9_price 27 = .ok (.iload_n 3, 1) := p_29 ndcX9_price_0 (by decide +kernel)
theorem dX9_price_28 : decode cX9_price 28 = .ok (.i2l, 1) := p_133 ndcX9_price_0 (by decide +kernel)
theorem dX9_price_29 : decode cX9_price 29 = .ok (.lconst 0, 1) := p_9 ndcX9_price_0 (by decide +kernel)
theorem dX9_price_30 : decode cX9_price 30 = .ok (.ldc2_w 58, 3) := p_20 ndcX9_price_0 (by decide +kernel)
theorem dX9_price_33 : decode cX9_price 33 = .ok (.invokestatic 60, 3) := p_184 ndcX9_price_0 (by decide +kernel)
theorem dX9_price_36 : decode cX9_price 36 = .ok (.ifCond .ne 7, 3) := p_154 ndcX9_price_0 7 (by decide +kernel) (by decide +kernel)
theorem dX9_price_39 : decode cX9_price 39 = .ok (.ldc2_w 116, 3) := p_20 ndcX9_price_0 (by decide +kernel)
theorem dX9_price_42 : decode cX9_price 42 = .ok (.lreturn, 1) := p_173 ndcX9_price_0 (by decide +kernel)
theorem dX9_price_43 : decode cX9_price 43 = .ok (.aload_n 0, 1) := p_42 ndcX9_price_0 (by decide +kernel)
theorem dX9_price_44 : decode cX9_price 44 = .ok (.iconst 0, 1) := p_3 ndcX9_price_0 (by decide +kernel)
theorem dX9_price_45 : decode cX9_price 45 = .ok (.aload_n 0, 1) := p_42 ndcX9_price_0 (by decide +kernel)
theorem dX9_price_46 : decode cX9_price 46 = .ok (.getfield 13, 3) := p_180 ndcX9_price_0 (by decide +kernel)
theorem dX9_price_49 : decode cX9_price 49 = .ok (.iconst 1, 1) := p_4 ndcX9_price_0 (by decide +kernel)
theorem dX9_price_50 : decode cX9_price 50 = .ok (.iaload, 1) := p_46 ndcX9_price_0 (by decide +kernel)
theorem dX9_price_51 : decode cX9_price 51 = .ok (.iload_n 1, 1) := p_27 ndcX9_price_0 (by decide +kernel)
theorem dX9_price_52 : decode cX9_price 52 = .ok (.iload_n 2, 1) := p_28 ndcX9_price_0 (by decide +kernel)
theorem dX9_price_53 : decode cX9_price 53 = .ok (.invokevirtual 106, 3) := p_182 ndcX9_price_0 (by decide +kernel)
theorem dX9_price_56 : decode cX9_price 56 = .ok (.aload_n 0, 1) := p_42 ndcX9_price_0 (by decide +kernel)
theorem dX9_price_57 : decode cX9_price 57 = .ok (.getfield 87, 3) := p_180 ndcX9_price_0 (by decide +kernel)
theorem dX9_price_60 : decode cX9_price 60 = .ok (.aload_n 0, 1) := p_42 ndcX9_price_0 (by decide +kernel)
theorem dX9_price_61 : decode cX9_price 61 = .ok (.getfield 91, 3) := p_180 ndcX9_price_0 (by decide +kernel)
def nkcX9_price_1 : List Nat := [184, 0, 118, 55, 4, 29, 154, 0, 19, 20, 0, 110, 42, 180, 0, 87, 105, 42, 180, 0, 91, 109, 167, 0, 25, 29, 4, 160, 0, 13, 42, 180, 0, 87, 22, 4, 109, 167, 0, 10, 42, 180, 0, 91, 22, 4, 109, 173]
theorem ndcX9_price_1 : ((cX9_price.data.toList.drop 64).take 66).map UInt8.toNat = nkcX9_price_1 := by decide +kernel
theorem dX9_price_64 : decode cX9_price 64 = .ok (.invokestatic 118, 3) := p_184 ndcX9_price_1 (by decide +kernel)
theorem dX9_price_67 : decode cX9_price 67 = .ok (.lstore 4, 2) := p_55 ndcX9_price_1 (by decide +kernel)
theorem dX9_price_69 : decode cX9_price 69 = .ok (.iload_n 3, 1) := p_29 ndcX9_price_1 (by decide +kernel)
theorem dX9_price_70 : decode cX9_price 70 = .ok (.ifCond .ne 19, 3) := p_154 ndcX9_price_1 19 (by decide +kernel) (by decide +kernel)
theorem dX9_price_73 : decode cX9_price 73 = .ok (.ldc2_w 110, 3) := p_20 ndcX9_price_1 (by decide +kernel)
theorem dX9_price_76 : decode cX9_price 76 = .ok (.aload_n 0, 1) := p_42 ndcX9_price_1 (by decide +kernel)
theorem dX9_price_77 : decode cX9_price 77 = .ok (.getfield 87, 3) := p_180 ndcX9_price_1 (by decide +kernel)
theorem dX9_price_80 : decode cX9_price 80 = .ok (.lmul, 1) := p_105 ndcX9_price_1 (by decide +kernel)
theorem dX9_price_81 : decode cX9_price 81 = .ok (.aload_n 0, 1) := p_42 ndcX9_price_1 (by decide +kernel)
theorem dX9_price_82 : decode cX9_price 82 = .ok (.getfield 91, 3) := p_180 ndcX9_price_1 (by decide +kernel)
theorem dX9_price_85 : decode cX9_price 85 = .ok (.ldiv, 1) := p_109 ndcX9_price_1 (by decide +kernel)
theorem dX9_price_86 : decode cX9_price 86 = .ok (.goto 25, 3) := p_167 ndcX9_price_1 25 (by decide +kernel) (by decide +kernel)
theorem dX9_price_89 : decode cX9_price 89 = .ok (.iload_n 3, 1) := p_29 ndcX9_price_1 (by decide +kernel)
theorem dX9_price_90 : decode cX9_price 90 = .ok (.iconst 1, 1) := p_4 ndcX9_price_1 (by decide +kernel)
theorem dX9_price_91 : decode cX9_price 91 = .ok (.if_icmp .ne 13, 3) := p_160 ndcX9_price_1 13 (by decide +kernel) (by decide +kernel)
theorem dX9_price_94 : decode cX9_price 94 = .ok (.aload_n 0, 1) := p_42 ndcX9_price_1 (by decide +kernel)
theorem dX9_price_95 : decode cX9_price 95 = .ok (.getfield 87, 3) := p_180 ndcX9_price_1 (by decide +kernel)
theorem dX9_price_98 : decode cX9_price 98 = .ok (.lload 4, 2) := p_22 ndcX9_price_1 (by decide +kernel)
theorem dX9_price_100 : decode cX9_price 100 = .ok (.ldiv, 1) := p_109 ndcX9_price_1 (by decide +kernel)
theorem dX9_price_101 : decode cX9_price 101 = .ok (.goto 10, 3) := p_167 ndcX9_price_1 10 (by decide +kernel) (by decide +kernel)
theorem dX9_price_104 : decode cX9_price 104 = .ok (.aload_n 0, 1) := p_42 ndcX9_price_1 (by decide +kernel)
theorem dX9_price_105 : decode cX9_price 105 = .ok (.getfield 91, 3) := p_180 ndcX9_price_1 (by decide +kernel)
theorem dX9_price_108 : decode cX9_price 108 = .ok (.lload 4, 2) := p_22 ndcX9_price_1 (by decide +kernel)
theorem dX9_price_110 : decode cX9_price 110 = .ok (.ldiv, 1) := p_109 ndcX9_price_1 (by decide +kernel)
theorem dX9_price_111 : decode cX9_price 111 = .ok (.lreturn, 1) := p_173 ndcX9_price_1 (by decide +kernel)
def nkcX9_of_0 : List Nat := [42, 180, 0, 17, 16, 27, 27, 104, 28, 96, 46, 172]
theorem ndcX9_of_0 : ((cX9_of.data.toList.drop 0).take 66).map UInt8.toNat = nkcX9_of_0 := by decide +kernel
theorem dX9_of_0 : decode cX9_of 0 = .ok (.aload_n 0, 1) := p_42 ndcX9_of_0 (by decide +kernel)
theorem dX9_of_1 : decode cX9_of 1 = .ok (.getfield 17, 3) := p_180 ndcX9_of_0 (by decide +kernel)
theorem dX9_of_4 : decode cX9_of 4 = .ok (.bipush 27, 2) := p_16 ndcX9_of_0 27 (by decide +kernel) (by decide +kernel)
theorem dX9_of_6 : decode cX9_of 6 = .ok (.iload_n 1, 1) := p_27 ndcX9_of_0 (by decide +kernel)
theorem dX9_of_7 : decode cX9_of 7 = .ok (.imul, 1) := p_104 ndcX9_of_0 (by decide +kernel)
theorem dX9_of_8 : decode cX9_of 8 = .ok (.iload_n 2, 1) := p_28 ndcX9_of_0 (by decide +kernel)
theorem dX9_of_9 : decode cX9_of 9 = .ok (.iadd, 1) := p_96 ndcX9_of_0 (by decide +kernel)
theorem dX9_of_10 : decode cX9_of 10 = .ok (.iaload, 1) := p_46 ndcX9_of_0 (by decide +kernel)
theorem dX9_of_11 : decode cX9_of 11 = .ok (.ireturn, 1) := p_172 ndcX9_of_0 (by decide +kernel)
def nkcX9_sets_0 : List Nat := [42, 180, 0, 17, 16, 27, 27, 104, 28, 96, 29, 79, 177]
theorem ndcX9_sets_0 : ((cX9_sets.data.toList.drop 0).take 66).map UInt8.toNat = nkcX9_sets_0 := by decide +kernel
theorem dX9_sets_0 : decode cX9_sets 0 = .ok (.aload_n 0, 1) := p_42 ndcX9_sets_0 (by decide +kernel)
theorem dX9_sets_1 : decode cX9_sets 1 = .ok (.getfield 17, 3) := p_180 ndcX9_sets_0 (by decide +kernel)
theorem dX9_sets_4 : decode cX9_sets 4 = .ok (.bipush 27, 2) := p_16 ndcX9_sets_0 27 (by decide +kernel) (by decide +kernel)
theorem dX9_sets_6 : decode cX9_sets 6 = .ok (.iload_n 1, 1) := p_27 ndcX9_sets_0 (by decide +kernel)
theorem dX9_sets_7 : decode cX9_sets 7 = .ok (.imul, 1) := p_104 ndcX9_sets_0 (by decide +kernel)
theorem dX9_sets_8 : decode cX9_sets 8 = .ok (.iload_n 2, 1) := p_28 ndcX9_sets_0 (by decide +kernel)
theorem dX9_sets_9 : decode cX9_sets 9 = .ok (.iadd, 1) := p_96 ndcX9_sets_0 (by decide +kernel)
theorem dX9_sets_10 : decode cX9_sets 10 = .ok (.iload_n 3, 1) := p_29 ndcX9_sets_0 (by decide +kernel)
theorem dX9_sets_11 : decode cX9_sets 11 = .ok (.iastore, 1) := p_79 ndcX9_sets_0 (by decide +kernel)
theorem dX9_sets_12 : decode cX9_sets 12 = .ok (.return_, 1) := p_177 ndcX9_sets_0 (by decide +kernel)
def nkcX9_copies_0 : List Nat := [3, 62, 29, 16, 27, 162, 0, 21, 42, 28, 29, 42, 27, 29, 182, 0, 122, 182, 0, 54, 132, 3, 1, 167, 255, 235, 177]
theorem ndcX9_copies_0 : ((cX9_copies.data.toList.drop 0).take 66).map UInt8.toNat = nkcX9_copies_0 := by decide +kernel
theorem dX9_copies_0 : decode cX9_copies 0 = .ok (.iconst 0, 1) := p_3 ndcX9_copies_0 (by decide +kernel)
theorem dX9_copies_1 : decode cX9_copies 1 = .ok (.istore_n 3, 1) := p_62 ndcX9_copies_0 (by decide +kernel)
theorem dX9_copies_2 : decode cX9_copies 2 = .ok (.iload_n 3, 1) := p_29 ndcX9_copies_0 (by decide +kernel)
theorem dX9_copies_3 : decode cX9_copies 3 = .ok (.bipush 27, 2) := p_16 ndcX9_copies_0 27 (by decide +kernel) (by decide +kernel)
theorem dX9_copies_5 : decode cX9_copies 5 = .ok (.if_icmp .ge 21, 3) := p_162 ndcX9_copies_0 21 (by decide +kernel) (by decide +kernel)
theorem dX9_copies_8 : decode cX9_copies 8 = .ok (.aload_n 0, 1) := p_42 ndcX9_copies_0 (by decide +kernel)
theorem dX9_copies_9 : decode cX9_copies 9 = .ok (.iload_n 2, 1) := p_28 ndcX9_copies_0 (by decide +kernel)
theorem dX9_copies_10 : decode cX9_copies 10 = .ok (.iload_n 3, 1) := p_29 ndcX9_copies_0 (by decide +kernel)
theorem dX9_copies_11 : decode cX9_copies 11 = .ok (.aload_n 0, 1) := p_42 ndcX9_copies_0 (by decide +kernel)
theorem dX9_copies_12 : decode cX9_copies 12 = .ok (.iload_n 1, 1) := p_27 ndcX9_copies_0 (by decide +kernel)
theorem dX9_copies_13 : decode cX9_copies 13 = .ok (.iload_n 3, 1) := p_29 ndcX9_copies_0 (by decide +kernel)
theorem dX9_copies_14 : decode cX9_copies 14 = .ok (.invokevirtual 122, 3) := p_182 ndcX9_copies_0 (by decide +kernel)
theorem dX9_copies_17 : decode cX9_copies 17 = .ok (.invokevirtual 54, 3) := p_182 ndcX9_copies_0 (by decide +kernel)
theorem dX9_copies_20 : decode cX9_copies 20 = .ok (.iinc 3 1, 3) := by decide +kernel
theorem dX9_copies_23 : decode cX9_copies 23 = .ok (.goto (-21), 3) := p_167 ndcX9_copies_0 65515 (by decide +kernel) (by decide +kernel)
theorem dX9_copies_26 : decode cX9_copies 26 = .ok (.return_, 1) := p_177 ndcX9_copies_0 (by decide +kernel)
def nkcX9_bond_0 : List Nat := [27, 184, 0, 126, 153, 0, 27, 28, 133, 10, 20, 0, 130, 184, 0, 60, 153, 0, 15, 29, 133, 9, 20, 0, 74, 184, 0, 60, 154, 0, 5, 3, 172, 42, 27, 3, 28, 182, 0, 54, 42, 27, 4, 29, 182, 0, 54, 4, 172]
theorem ndcX9_bond_0 : ((cX9_bond.data.toList.drop 0).take 66).map UInt8.toNat = nkcX9_bond_0 := by decide +kernel
theorem dX9_bond_0 : decode cX9_bond 0 = .ok (.iload_n 1, 1) := p_27 ndcX9_bond_0 (by decide +kernel)
theorem dX9_bond_1 : decode cX9_bond 1 = .ok (.invokestatic 126, 3) := p_184 ndcX9_bond_0 (by decide +kernel)
theorem dX9_bond_4 : decode cX9_bond 4 = .ok (.ifCond .eq 27, 3) := p_153 ndcX9_bond_0 27 (by decide +kernel) (by decide +kernel)
theorem dX9_bond_7 : decode cX9_bond 7 = .ok (.iload_n 2, 1) := p_28 ndcX9_bond_0 (by decide +kernel)
theorem dX9_bond_8 : decode cX9_bond 8 = .ok (.i2l, 1) := p_133 ndcX9_bond_0 (by decide +kernel)
theorem dX9_bond_9 : decode cX9_bond 9 = .ok (.lconst 1, 1) := p_10 ndcX9_bond_0 (by decide +kernel)
theorem dX9_bond_10 : decode cX9_bond 10 = .ok (.ldc2_w 130, 3) := p_20 ndcX9_bond_0 (by decide +kernel)
theorem dX9_bond_13 : decode cX9_bond 13 = .ok (.invokestatic 60, 3) := p_184 ndcX9_bond_0 (by decide +kernel)
theorem dX9_bond_16 : decode cX9_bond 16 = .ok (.ifCond .eq 15, 3) := p_153 ndcX9_bond_0 15 (by decide +kernel) (by decide +kernel)
theorem dX9_bond_19 : decode cX9_bond 19 = .ok (.iload_n 3, 1) := p_29 ndcX9_bond_0 (by decide +kernel)
theorem dX9_bond_20 : decode cX9_bond 20 = .ok (.i2l, 1) := p_133 ndcX9_bond_0 (by decide +kernel)
theorem dX9_bond_21 : decode cX9_bond 21 = .ok (.lconst 0, 1) := p_9 ndcX9_bond_0 (by decide +kernel)
theorem dX9_bond_22 : decode cX9_bond 22 = .ok (.ldc2_w 74, 3) := p_20 ndcX9_bond_0 (by decide +kernel)
theorem dX9_bond_25 : decode cX9_bond 25 = .ok (.invokestatic 60, 3) := p_184 ndcX9_bond_0 (by decide +kernel)
theorem dX9_bond_28 : decode cX9_bond 28 = .ok (.ifCond .ne 5, 3) := p_154 ndcX9_bond_0 5 (by decide +kernel) (by decide +kernel)
theorem dX9_bond_31 : decode cX9_bond 31 = .ok (.iconst 0, 1) := p_3 ndcX9_bond_0 (by decide +kernel)
theorem dX9_bond_32 : decode cX9_bond 32 = .ok (.ireturn, 1) := p_172 ndcX9_bond_0 (by decide +kernel)
theorem dX9_bond_33 : decode cX9_bond 33 = .ok (.aload_n 0, 1) := p_42 ndcX9_bond_0 (by decide +kernel)
theorem dX9_bond_34 : decode cX9_bond 34 = .ok (.iload_n 1, 1) := p_27 ndcX9_bond_0 (by decide +kernel)
theorem dX9_bond_35 : decode cX9_bond 35 = .ok (.iconst 0, 1) := p_3 ndcX9_bond_0 (by decide +kernel)
theorem dX9_bond_36 : decode cX9_bond 36 = .ok (.iload_n 2, 1) := p_28 ndcX9_bond_0 (by decide +kernel)
theorem dX9_bond_37 : decode cX9_bond 37 = .ok (.invokevirtual 54, 3) := p_182 ndcX9_bond_0 (by decide +kernel)
theorem dX9_bond_40 : decode cX9_bond 40 = .ok (.aload_n 0, 1) := p_42 ndcX9_bond_0 (by decide +kernel)
theorem dX9_bond_41 : decode cX9_bond 41 = .ok (.iload_n 1, 1) := p_27 ndcX9_bond_0 (by decide +kernel)
theorem dX9_bond_42 : decode cX9_bond 42 = .ok (.iconst 1, 1) := p_4 ndcX9_bond_0 (by decide +kernel)
theorem dX9_bond_43 : decode cX9_bond 43 = .ok (.iload_n 3, 1) := p_29 ndcX9_bond_0 (by decide +kernel)
theorem dX9_bond_44 : decode cX9_bond 44 = .ok (.invokevirtual 54, 3) := p_182 ndcX9_bond_0 (by decide +kernel)
theorem dX9_bond_47 : decode cX9_bond 47 = .ok (.iconst 1, 1) := p_4 ndcX9_bond_0 (by decide +kernel)
theorem dX9_bond_48 : decode cX9_bond 48 = .ok (.ireturn, 1) := p_172 ndcX9_bond_0 (by decide +kernel)
def nkcX9_coupon_0 : List Nat := [27, 184, 0, 126, 153, 0, 27, 28, 133, 10, 20, 0, 72, 184, 0, 60, 153, 0, 15, 29, 133, 9, 20, 0, 74, 184, 0, 60, 154, 0, 5, 2, 172, 42, 27, 5, 28, 96, 182, 0, 122, 54, 4, 42, 27, 5, 28, 96, 29, 182, 0, 54, 21, 4, 172]
theorem ndcX9_coupon_0 : ((cX9_coupon.data.toList.drop 0).take 66).map UInt8.toNat = nkcX9_coupon_0 := by decide +kernel
theorem dX9_coupon_0 : decode cX9_coupon 0 = .ok (.iload_n 1, 1) := p_27 ndcX9_coupon_0 (by decide +kernel)
theorem dX9_coupon_1 : decode cX9_coupon 1 = .ok (.invokestatic 126, 3) := p_184 ndcX9_coupon_0 (by decide +kernel)
theorem dX9_coupon_4 : decode cX9_coupon 4 = .ok (.ifCond .eq 27, 3) := p_153 ndcX9_coupon_0 27 (by decide +kernel) (by decide +kernel)
theorem dX9_coupon_7 : decode cX9_coupon 7 = .ok (.iload_n 2, 1) := p_28 ndcX9_coupon_0 (by decide +kernel)
theorem dX9_coupon_8 : decode cX9_coupon 8 = .ok (.i2l, 1) := p_133 ndcX9_coupon_0 (by decide +kernel)
theorem dX9_coupon_9 : decode cX9_coupon 9 = .ok (.lconst 1, 1) := p_10 ndcX9_coupon_0 (by decide +kernel)
theorem dX9_coupon_10 : decode cX9_coupon 10 = .ok (.ldc2_w 72, 3) := p_20 ndcX9_coupon_0 (by decide +kernel)
theorem dX9_coupon_13 : decode cX9_coupon 13 = .ok (.invokestatic 60, 3) := p_184 ndcX9_coupon_0 (by decide +kernel)
theorem dX9_coupon_16 : decode cX9_coupon 16 = .ok (.ifCond .eq 15, 3) := p_153 ndcX9_coupon_0 15 (by decide +kernel) (by decide +kernel)
theorem dX9_coupon_19 : decode cX9_coupon 19 = .ok (.iload_n 3, 1) := p_29 ndcX9_coupon_0 (by decide +kernel)
theorem dX9_coupon_20 : decode cX9_coupon 20 = .ok (.i2l, 1) := p_133 ndcX9_coupon_0 (by decide +kernel)
theorem dX9_coupon_21 : decode cX9_coupon 21 = .ok (.lconst 0, 1) := p_9 ndcX9_coupon_0 (by decide +kernel)
theorem dX9_coupon_22 : decode cX9_coupon 22 = .ok (.ldc2_w 74, 3) := p_20 ndcX9_coupon_0 (by decide +kernel)
theorem dX9_coupon_25 : decode cX9_coupon 25 = .ok (.invokestatic 60, 3) := p_184 ndcX9_coupon_0 (by decide +kernel)
theorem dX9_coupon_28 : decode cX9_coupon 28 = .ok (.ifCond .ne 5, 3) := p_154 ndcX9_coupon_0 5 (by decide +kernel) (by decide +kernel)
theorem dX9_coupon_31 : decode cX9_coupon 31 = .ok (.iconst (-1), 1) := p_2 ndcX9_coupon_0 (by decide +kernel)
theorem dX9_coupon_32 : decode cX9_coupon 32 = .ok (.ireturn, 1) := p_172 ndcX9_coupon_0 (by decide +kernel)
theorem dX9_coupon_33 : decode cX9_coupon 33 = .ok (.aload_n 0, 1) := p_42 ndcX9_coupon_0 (by decide +kernel)
theorem dX9_coupon_34 : decode cX9_coupon 34 = .ok (.iload_n 1, 1) := p_27 ndcX9_coupon_0 (by decide +kernel)
theorem dX9_coupon_35 : decode cX9_coupon 35 = .ok (.iconst 2, 1) := p_5 ndcX9_coupon_0 (by decide +kernel)
theorem dX9_coupon_36 : decode cX9_coupon 36 = .ok (.iload_n 2, 1) := p_28 ndcX9_coupon_0 (by decide +kernel)
theorem dX9_coupon_37 : decode cX9_coupon 37 = .ok (.iadd, 1) := p_96 ndcX9_coupon_0 (by decide +kernel)
theorem dX9_coupon_38 : decode cX9_coupon 38 = .ok (.invokevirtual 122, 3) := p_182 ndcX9_coupon_0 (by decide +kernel)
theorem dX9_coupon_41 : decode cX9_coupon 41 = .ok (.istore 4, 2) := p_54 ndcX9_coupon_0 (by decide +kernel)
theorem dX9_coupon_43 : decode cX9_coupon 43 = .ok (.aload_n 0, 1) := p_42 ndcX9_coupon_0 (by decide +kernel)
theorem dX9_coupon_44 : decode cX9_coupon 44 = .ok (.iload_n 1, 1) := p_27 ndcX9_coupon_0 (by decide +kernel)
theorem dX9_coupon_45 : decode cX9_coupon 45 = .ok (.iconst 2, 1) := p_5 ndcX9_coupon_0 (by decide +kernel)
theorem dX9_coupon_46 : decode cX9_coupon 46 = .ok (.iload_n 2, 1) := p_28 ndcX9_coupon_0 (by decide +kernel)
theorem dX9_coupon_47 : decode cX9_coupon 47 = .ok (.iadd, 1) := p_96 ndcX9_coupon_0 (by decide +kernel)
theorem dX9_coupon_48 : decode cX9_coupon 48 = .ok (.iload_n 3, 1) := p_29 ndcX9_coupon_0 (by decide +kernel)
theorem dX9_coupon_49 : decode cX9_coupon 49 = .ok (.invokevirtual 54, 3) := p_182 ndcX9_coupon_0 (by decide +kernel)
theorem dX9_coupon_52 : decode cX9_coupon 52 = .ok (.iload 4, 2) := p_21 ndcX9_coupon_0 (by decide +kernel)
theorem dX9_coupon_54 : decode cX9_coupon 54 = .ok (.ireturn, 1) := p_172 ndcX9_coupon_0 (by decide +kernel)
def nkcX9_told2_0 : List Nat := [27, 2, 160, 0, 8, 16, 254, 167, 0, 4, 27, 172]
theorem ndcX9_told2_0 : ((cX9_told2.data.toList.drop 0).take 66).map UInt8.toNat = nkcX9_told2_0 := by decide +kernel
theorem dX9_told2_0 : decode cX9_told2 0 = .ok (.iload_n 1, 1) := p_27 ndcX9_told2_0 (by decide +kernel)
theorem dX9_told2_1 : decode cX9_told2 1 = .ok (.iconst (-1), 1) := p_2 ndcX9_told2_0 (by decide +kernel)
theorem dX9_told2_2 : decode cX9_told2 2 = .ok (.if_icmp .ne 8, 3) := p_160 ndcX9_told2_0 8 (by decide +kernel) (by decide +kernel)
theorem dX9_told2_5 : decode cX9_told2 5 = .ok (.bipush (-2), 2) := p_16 ndcX9_told2_0 254 (by decide +kernel) (by decide +kernel)
theorem dX9_told2_7 : decode cX9_told2 7 = .ok (.goto 4, 3) := p_167 ndcX9_told2_0 4 (by decide +kernel) (by decide +kernel)
theorem dX9_told2_10 : decode cX9_told2 10 = .ok (.iload_n 1, 1) := p_27 ndcX9_told2_0 (by decide +kernel)
theorem dX9_told2_11 : decode cX9_told2 11 = .ok (.ireturn, 1) := p_172 ndcX9_told2_0 (by decide +kernel)
def nkcX9_tells_0 : List Nat := [27, 184, 0, 126, 153, 0, 30, 29, 133, 9, 20, 0, 132, 184, 0, 60, 153, 0, 18, 21, 4, 133, 20, 0, 116, 20, 0, 130, 184, 0, 60, 154, 0, 5, 2, 172, 42, 27, 28, 29, 96, 182, 0, 122, 54, 5, 42, 27, 28, 29, 96, 21, 4, 182, 0, 54, 42, 21, 5, 182, 0, 134, 172]
theorem ndcX9_tells_0 : ((cX9_tells.data.toList.drop 0).take 66).map UInt8.toNat = nkcX9_tells_0 := by decide +kernel
theorem dX9_tells_0 : decode cX9_tells 0 = .ok (.iload_n 1, 1) := p_27 ndcX9_tells_0 (by decide +kernel)
theorem dX9_tells_1 : decode cX9_tells 1 = .ok (.invokestatic 126, 3) := p_184 ndcX9_tells_0 (by decide +kernel)
theorem dX9_tells_4 : decode cX9_tells 4 = .ok (.ifCond .eq 30, 3) := p_153 ndcX9_tells_0 30 (by decide +kernel) (by decide +kernel)
theorem dX9_tells_7 : decode cX9_tells 7 = .ok (.iload_n 3, 1) := p_29 ndcX9_tells_0 (by decide +kernel)
theorem dX9_tells_8 : decode cX9_tells 8 = .ok (.i2l, 1) := p_133 ndcX9_tells_0 (by decide +kernel)
theorem dX9_tells_9 : decode cX9_tells 9 = .ok (.lconst 0, 1) := p_9 ndcX9_tells_0 (by decide +kernel)
theorem dX9_tells_10 : decode cX9_tells 10 = .ok (.ldc2_w 132, 3) := p_20 ndcX9_tells_0 (by decide +kernel)
theorem dX9_tells_13 : decode cX9_tells 13 = .ok (.invokestatic 60, 3) := p_184 ndcX9_tells_0 (by decide +kernel)
theorem dX9_tells_16 : decode cX9_tells 16 = .ok (.ifCond .eq 18, 3) := p_153 ndcX9_tells_0 18 (by decide +kernel) (by decide +kernel)
theorem dX9_tells_19 : decode cX9_tells 19 = .ok (.iload 4, 2) := p_21 ndcX9_tells_0 (by decide +kernel)
theorem dX9_tells_21 : decode cX9_tells 21 = .ok (.i2l, 1) := p_133 ndcX9_tells_0 (by decide +kernel)
theorem dX9_tells_22 : decode cX9_tells 22 = .ok (.ldc2_w 116, 3) := p_20 ndcX9_tells_0 (by decide +kernel)
theorem dX9_tells_25 : decode cX9_tells 25 = .ok (.ldc2_w 130, 3) := p_20 ndcX9_tells_0 (by decide +kernel)
theorem dX9_tells_28 : decode cX9_tells 28 = .ok (.invokestatic 60, 3) := p_184 ndcX9_tells_0 (by decide +kernel)
theorem dX9_tells_31 : decode cX9_tells 31 = .ok (.ifCond .ne 5, 3) := p_154 ndcX9_tells_0 5 (by decide +kernel) (by decide +kernel)
theorem dX9_tells_34 : decode cX9_tells 34 = .ok (.iconst (-1), 1) := p_2 ndcX9_tells_0 (by decide +kernel)
theorem dX9_tells_35 : decode cX9_tells 35 = .ok (.ireturn, 1) := p_172 ndcX9_tells_0 (by decide +kernel)
theorem dX9_tells_36 : decode cX9_tells 36 = .ok (.aload_n 0, 1) := p_42 ndcX9_tells_0 (by decide +kernel)
theorem dX9_tells_37 : decode cX9_tells 37 = .ok (.iload_n 1, 1) := p_27 ndcX9_tells_0 (by decide +kernel)
theorem dX9_tells_38 : decode cX9_tells 38 = .ok (.iload_n 2, 1) := p_28 ndcX9_tells_0 (by decide +kernel)
theorem dX9_tells_39 : decode cX9_tells 39 = .ok (.iload_n 3, 1) := p_29 ndcX9_tells_0 (by decide +kernel)
theorem dX9_tells_40 : decode cX9_tells 40 = .ok (.iadd, 1) := p_96 ndcX9_tells_0 (by decide +kernel)
theorem dX9_tells_41 : decode cX9_tells 41 = .ok (.invokevirtual 122, 3) := p_182 ndcX9_tells_0 (by decide +kernel)
theorem dX9_tells_44 : decode cX9_tells 44 = .ok (.istore 5, 2) := p_54 ndcX9_tells_0 (by decide +kernel)
theorem dX9_tells_46 : decode cX9_tells 46 = .ok (.aload_n 0, 1) := p_42 ndcX9_tells_0 (by decide +kernel)
theorem dX9_tells_47 : decode cX9_tells 47 = .ok (.iload_n 1, 1) := p_27 ndcX9_tells_0 (by decide +kernel)
theorem dX9_tells_48 : decode cX9_tells 48 = .ok (.iload_n 2, 1) := p_28 ndcX9_tells_0 (by decide +kernel)
theorem dX9_tells_49 : decode cX9_tells 49 = .ok (.iload_n 3, 1) := p_29 ndcX9_tells_0 (by decide +kernel)
theorem dX9_tells_50 : decode cX9_tells 50 = .ok (.iadd, 1) := p_96 ndcX9_tells_0 (by decide +kernel)
theorem dX9_tells_51 : decode cX9_tells 51 = .ok (.iload 4, 2) := p_21 ndcX9_tells_0 (by decide +kernel)
theorem dX9_tells_53 : decode cX9_tells 53 = .ok (.invokevirtual 54, 3) := p_182 ndcX9_tells_0 (by decide +kernel)
theorem dX9_tells_56 : decode cX9_tells 56 = .ok (.aload_n 0, 1) := p_42 ndcX9_tells_0 (by decide +kernel)
theorem dX9_tells_57 : decode cX9_tells 57 = .ok (.iload 5, 2) := p_21 ndcX9_tells_0 (by decide +kernel)
theorem dX9_tells_59 : decode cX9_tells 59 = .ok (.invokevirtual 134, 3) := p_182 ndcX9_tells_0 (by decide +kernel)
theorem dX9_tells_62 : decode cX9_tells 62 = .ok (.ireturn, 1) := p_172 ndcX9_tells_0 (by decide +kernel)
def nkcX9_call_0 : List Nat := [42, 27, 16, 9, 28, 29, 182, 0, 138, 172]
theorem ndcX9_call_0 : ((cX9_call.data.toList.drop 0).take 66).map UInt8.toNat = nkcX9_call_0 := by decide +kernel
theorem dX9_call_0 : decode cX9_call 0 = .ok (.aload_n 0, 1) := p_42 ndcX9_call_0 (by decide +kernel)
theorem dX9_call_1 : decode cX9_call 1 = .ok (.iload_n 1, 1) := p_27 ndcX9_call_0 (by decide +kernel)
theorem dX9_call_2 : decode cX9_call 2 = .ok (.bipush 9, 2) := p_16 ndcX9_call_0 9 (by decide +kernel) (by decide +kernel)
theorem dX9_call_4 : decode cX9_call 4 = .ok (.iload_n 2, 1) := p_28 ndcX9_call_0 (by decide +kernel)
theorem dX9_call_5 : decode cX9_call 5 = .ok (.iload_n 3, 1) := p_29 ndcX9_call_0 (by decide +kernel)
theorem dX9_call_6 : decode cX9_call 6 = .ok (.invokevirtual 138, 3) := p_182 ndcX9_call_0 (by decide +kernel)
theorem dX9_call_9 : decode cX9_call 9 = .ok (.ireturn, 1) := p_172 ndcX9_call_0 (by decide +kernel)
def nkcX9_put_0 : List Nat := [42, 27, 16, 15, 28, 29, 182, 0, 138, 172]
theorem ndcX9_put_0 : ((cX9_put.data.toList.drop 0).take 66).map UInt8.toNat = nkcX9_put_0 := by decide +kernel
theorem dX9_put_0 : decode cX9_put 0 = .ok (.aload_n 0, 1) := p_42 ndcX9_put_0 (by decide +kernel)
theorem dX9_put_1 : decode cX9_put 1 = .ok (.iload_n 1, 1) := p_27 ndcX9_put_0 (by decide +kernel)
theorem dX9_put_2 : decode cX9_put 2 = .ok (.bipush 15, 2) := p_16 ndcX9_put_0 15 (by decide +kernel) (by decide +kernel)
theorem dX9_put_4 : decode cX9_put 4 = .ok (.iload_n 2, 1) := p_28 ndcX9_put_0 (by decide +kernel)
theorem dX9_put_5 : decode cX9_put 5 = .ok (.iload_n 3, 1) := p_29 ndcX9_put_0 (by decide +kernel)
theorem dX9_put_6 : decode cX9_put 6 = .ok (.invokevirtual 138, 3) := p_182 ndcX9_put_0 (by decide +kernel)
theorem dX9_put_9 : decode cX9_put 9 = .ok (.ireturn, 1) := p_172 ndcX9_put_0 (by decide +kernel)
def nkcX9_window_0 : List Nat := [27, 184, 0, 126, 153, 0, 28, 28, 133, 9, 20, 0, 72, 184, 0, 60, 153, 0, 16, 29, 133, 28, 133, 20, 0, 72, 184, 0, 60, 154, 0, 5, 3, 172, 42, 27, 16, 21, 28, 182, 0, 54, 42, 27, 16, 22, 29, 182, 0, 54, 4, 172]
theorem ndcX9_window_0 : ((cX9_window.data.toList.drop 0).take 66).map UInt8.toNat = nkcX9_window_0 := by decide +kernel
theorem dX9_window_0 : decode cX9_window 0 = .ok (.iload_n 1, 1) := p_27 ndcX9_window_0 (by decide +kernel)
theorem dX9_window_1 : decode cX9_window 1 = .ok (.invokestatic 126, 3) := p_184 ndcX9_window_0 (by decide +kernel)
theorem dX9_window_4 : decode cX9_window 4 = .ok (.ifCond .eq 28, 3) := p_153 ndcX9_window_0 28 (by decide +kernel) (by decide +kernel)
theorem dX9_window_7 : decode cX9_window 7 = .ok (.iload_n 2, 1) := p_28 ndcX9_window_0 (by decide +kernel)
theorem dX9_window_8 : decode cX9_window 8 = .ok (.i2l, 1) := p_133 ndcX9_window_0 (by decide +kernel)
theorem dX9_window_9 : decode cX9_window 9 = .ok (.lconst 0, 1) := p_9 ndcX9_window_0 (by decide +kernel)
theorem dX9_window_10 : decode cX9_window 10 = .ok (.ldc2_w 72, 3) := p_20 ndcX9_window_0 (by decide +kernel)
theorem dX9_window_13 : decode cX9_window 13 = .ok (.invokestatic 60, 3) := p_184 ndcX9_window_0 (by decide +kernel)
theorem dX9_window_16 : decode cX9_window 16 = .ok (.ifCond .eq 16, 3) := p_153 ndcX9_window_0 16 (by decide +kernel) (by decide +kernel)
theorem dX9_window_19 : decode cX9_window 19 = .ok (.iload_n 3, 1) := p_29 ndcX9_window_0 (by decide +kernel)
theorem dX9_window_20 : decode cX9_window 20 = .ok (.i2l, 1) := p_133 ndcX9_window_0 (by decide +kernel)
theorem dX9_window_21 : decode cX9_window 21 = .ok (.iload_n 2, 1) := p_28 ndcX9_window_0 (by decide +kernel)
theorem dX9_window_22 : decode cX9_window 22 = .ok (.i2l, 1) := p_133 ndcX9_window_0 (by decide +kernel)
theorem dX9_window_23 : decode cX9_window 23 = .ok (.ldc2_w 72, 3) := p_20 ndcX9_window_0 (by decide +kernel)
theorem dX9_window_26 : decode cX9_window 26 = .ok (.invokestatic 60, 3) := p_184 ndcX9_window_0 (by decide +kernel)
theorem dX9_window_29 : decode cX9_window 29 = .ok (.ifCond .ne 5, 3) := p_154 ndcX9_window_0 5 (by decide +kernel) (by decide +kernel)
theorem dX9_window_32 : decode cX9_window 32 = .ok (.iconst 0, 1) := p_3 ndcX9_window_0 (by decide +kernel)
theorem dX9_window_33 : decode cX9_window 33 = .ok (.ireturn, 1) := p_172 ndcX9_window_0 (by decide +kernel)
theorem dX9_window_34 : decode cX9_window 34 = .ok (.aload_n 0, 1) := p_42 ndcX9_window_0 (by decide +kernel)
theorem dX9_window_35 : decode cX9_window 35 = .ok (.iload_n 1, 1) := p_27 ndcX9_window_0 (by decide +kernel)
theorem dX9_window_36 : decode cX9_window 36 = .ok (.bipush 21, 2) := p_16 ndcX9_window_0 21 (by decide +kernel) (by decide +kernel)
theorem dX9_window_38 : decode cX9_window 38 = .ok (.iload_n 2, 1) := p_28 ndcX9_window_0 (by decide +kernel)
theorem dX9_window_39 : decode cX9_window 39 = .ok (.invokevirtual 54, 3) := p_182 ndcX9_window_0 (by decide +kernel)
theorem dX9_window_42 : decode cX9_window 42 = .ok (.aload_n 0, 1) := p_42 ndcX9_window_0 (by decide +kernel)
theorem dX9_window_43 : decode cX9_window 43 = .ok (.iload_n 1, 1) := p_27 ndcX9_window_0 (by decide +kernel)
theorem dX9_window_44 : decode cX9_window 44 = .ok (.bipush 22, 2) := p_16 ndcX9_window_0 22 (by decide +kernel) (by decide +kernel)
theorem dX9_window_46 : decode cX9_window 46 = .ok (.iload_n 3, 1) := p_29 ndcX9_window_0 (by decide +kernel)
theorem dX9_window_47 : decode cX9_window 47 = .ok (.invokevirtual 54, 3) := p_182 ndcX9_window_0 (by decide +kernel)
theorem dX9_window_50 : decode cX9_window 50 = .ok (.iconst 1, 1) := p_4 ndcX9_window_0 (by decide +kernel)
theorem dX9_window_51 : decode cX9_window 51 = .ok (.ireturn, 1) := p_172 ndcX9_window_0 (by decide +kernel)
def nkcX9_softens_0 : List Nat := [42, 27, 16, 23, 28, 182, 0, 54, 42, 27, 16, 24, 29, 182, 0, 54, 42, 27, 16, 25, 21, 4, 182, 0, 54, 177]
theorem ndcX9_softens_0 : ((cX9_softens.data.toList.drop 0).take 66).map UInt8.toNat = nkcX9_softens_0 := by decide +kernel
theorem dX9_softens_0 : decode cX9_softens 0 = .ok (.aload_n 0, 1) := p_42 ndcX9_softens_0 (by decide +kernel)
theorem dX9_softens_1 : decode cX9_softens 1 = .ok (.iload_n 1, 1) := p_27 ndcX9_softens_0 (by decide +kernel)
theorem dX9_softens_2 : decode cX9_softens 2 = .ok (.bipush 23, 2) := p_16 ndcX9_softens_0 23 (by decide +kernel) (by decide +kernel)
theorem dX9_softens_4 : decode cX9_softens 4 = .ok (.iload_n 2, 1) := p_28 ndcX9_softens_0 (by decide +kernel)
theorem dX9_softens_5 : decode cX9_softens 5 = .ok (.invokevirtual 54, 3) := p_182 ndcX9_softens_0 (by decide +kernel)
theorem dX9_softens_8 : decode cX9_softens 8 = .ok (.aload_n 0, 1) := p_42 ndcX9_softens_0 (by decide +kernel)
theorem dX9_softens_9 : decode cX9_softens 9 = .ok (.iload_n 1, 1) := p_27 ndcX9_softens_0 (by decide +kernel)
theorem dX9_softens_10 : decode cX9_softens 10 = .ok (.bipush 24, 2) := p_16 ndcX9_softens_0 24 (by decide +kernel) (by decide +kernel)
theorem dX9_softens_12 : decode cX9_softens 12 = .ok (.iload_n 3, 1) := p_29 ndcX9_softens_0 (by decide +kernel)
theorem dX9_softens_13 : decode cX9_softens 13 = .ok (.invokevirtual 54, 3) := p_182 ndcX9_softens_0 (by decide +kernel)
theorem dX9_softens_16 : decode cX9_softens 16 = .ok (.aload_n 0, 1) := p_42 ndcX9_softens_0 (by decide +kernel)
theorem dX9_softens_17 : decode cX9_softens 17 = .ok (.iload_n 1, 1) := p_27 ndcX9_softens_0 (by decide +kernel)
theorem dX9_softens_18 : decode cX9_softens 18 = .ok (.bipush 25, 2) := p_16 ndcX9_softens_0 25 (by decide +kernel) (by decide +kernel)
theorem dX9_softens_20 : decode cX9_softens 20 = .ok (.iload 4, 2) := p_21 ndcX9_softens_0 (by decide +kernel)
theorem dX9_softens_22 : decode cX9_softens 22 = .ok (.invokevirtual 54, 3) := p_182 ndcX9_softens_0 (by decide +kernel)
theorem dX9_softens_25 : decode cX9_softens 25 = .ok (.return_, 1) := p_177 ndcX9_softens_0 (by decide +kernel)
def nkcX9_soft_0 : List Nat := [27, 184, 0, 126, 153, 0, 39, 29, 133, 10, 20, 0, 142, 184, 0, 60, 153, 0, 27, 28, 133, 9, 29, 133, 184, 0, 60, 153, 0, 16, 21, 4, 133, 9, 20, 0, 130, 184, 0, 60, 154, 0, 5, 3, 172, 42, 27, 28, 29, 21, 4, 182, 0, 144, 4, 172]
theorem ndcX9_soft_0 : ((cX9_soft.data.toList.drop 0).take 66).map UInt8.toNat = nkcX9_soft_0 := by decide +kernel
theorem dX9_soft_0 : decode cX9_soft 0 = .ok (.iload_n 1, 1) := p_27 ndcX9_soft_0 (by decide +kernel)
theorem dX9_soft_1 : decode cX9_soft 1 = .ok (.invokestatic 126, 3) := p_184 ndcX9_soft_0 (by decide +kernel)
theorem dX9_soft_4 : decode cX9_soft 4 = .ok (.ifCond .eq 39, 3) := p_153 ndcX9_soft_0 39 (by decide +kernel) (by decide +kernel)
theorem dX9_soft_7 : decode cX9_soft 7 = .ok (.iload_n 3, 1) := p_29 ndcX9_soft_0 (by decide +kernel)
theorem dX9_soft_8 : decode cX9_soft 8 = .ok (.i2l, 1) := p_133 ndcX9_soft_0 (by decide +kernel)
theorem dX9_soft_9 : decode cX9_soft 9 = .ok (.lconst 1, 1) := p_10 ndcX9_soft_0 (by decide +kernel)
theorem dX9_soft_10 : decode cX9_soft 10 = .ok (.ldc2_w 142, 3) := p_20 ndcX9_soft_0 (by decide +kernel)
theorem dX9_soft_13 : decode cX9_soft 13 = .ok (.invokestatic 60, 3) := p_184 ndcX9_soft_0 (by decide +kernel)
theorem dX9_soft_16 : decode cX9_soft 16 = .ok (.ifCond .eq 27, 3) := p_153 ndcX9_soft_0 27 (by decide +kernel) (by decide +kernel)
theorem dX9_soft_19 : decode cX9_soft 19 = .ok (.iload_n 2, 1) := p_28 ndcX9_soft_0 (by decide +kernel)
theorem dX9_soft_20 : decode cX9_soft 20 = .ok (.i2l, 1) := p_133 ndcX9_soft_0 (by decide +kernel)
theorem dX9_soft_21 : decode cX9_soft 21 = .ok (.lconst 0, 1) := p_9 ndcX9_soft_0 (by decide +kernel)
theorem dX9_soft_22 : decode cX9_soft 22 = .ok (.iload_n 3, 1) := p_29 ndcX9_soft_0 (by decide +kernel)
theorem dX9_soft_23 : decode cX9_soft 23 = .ok (.i2l, 1) := p_133 ndcX9_soft_0 (by decide +kernel)
theorem dX9_soft_24 : decode cX9_soft 24 = .ok (.invokestatic 60, 3) := p_184 ndcX9_soft_0 (by decide +kernel)
theorem dX9_soft_27 : decode cX9_soft 27 = .ok (.ifCond .eq 16, 3) := p_153 ndcX9_soft_0 16 (by decide +kernel) (by decide +kernel)
theorem dX9_soft_30 : decode cX9_soft 30 = .ok (.iload 4, 2) := p_21 ndcX9_soft_0 (by decide +kernel)
theorem dX9_soft_32 : decode cX9_soft 32 = .ok (.i2l, 1) := p_133 ndcX9_soft_0 (by decide +kernel)
theorem dX9_soft_33 : decode cX9_soft 33 = .ok (.lconst 0, 1) := p_9 ndcX9_soft_0 (by decide +kernel)
theorem dX9_soft_34 : decode cX9_soft 34 = .ok (.ldc2_w 130, 3) := p_20 ndcX9_soft_0 (by decide +kernel)
theorem dX9_soft_37 : decode cX9_soft 37 = .ok (.invokestatic 60, 3) := p_184 ndcX9_soft_0 (by decide +kernel)
theorem dX9_soft_40 : decode cX9_soft 40 = .ok (.ifCond .ne 5, 3) := p_154 ndcX9_soft_0 5 (by decide +kernel) (by decide +kernel)
theorem dX9_soft_43 : decode cX9_soft 43 = .ok (.iconst 0, 1) := p_3 ndcX9_soft_0 (by decide +kernel)
theorem dX9_soft_44 : decode cX9_soft 44 = .ok (.ireturn, 1) := p_172 ndcX9_soft_0 (by decide +kernel)
theorem dX9_soft_45 : decode cX9_soft 45 = .ok (.aload_n 0, 1) := p_42 ndcX9_soft_0 (by decide +kernel)
theorem dX9_soft_46 : decode cX9_soft 46 = .ok (.iload_n 1, 1) := p_27 ndcX9_soft_0 (by decide +kernel)
theorem dX9_soft_47 : decode cX9_soft 47 = .ok (.iload_n 2, 1) := p_28 ndcX9_soft_0 (by decide +kernel)
theorem dX9_soft_48 : decode cX9_soft 48 = .ok (.iload_n 3, 1) := p_29 ndcX9_soft_0 (by decide +kernel)
theorem dX9_soft_49 : decode cX9_soft 49 = .ok (.iload 4, 2) := p_21 ndcX9_soft_0 (by decide +kernel)
theorem dX9_soft_51 : decode cX9_soft 51 = .ok (.invokevirtual 144, 3) := p_182 ndcX9_soft_0 (by decide +kernel)
theorem dX9_soft_54 : decode cX9_soft 54 = .ok (.iconst 1, 1) := p_4 ndcX9_soft_0 (by decide +kernel)
theorem dX9_soft_55 : decode cX9_soft 55 = .ok (.ireturn, 1) := p_172 ndcX9_soft_0 (by decide +kernel)
def nkcX9_settle_0 : List Nat := [27, 184, 0, 126, 153, 0, 15, 28, 133, 9, 20, 0, 142, 184, 0, 60, 154, 0, 5, 2, 172, 42, 27, 16, 26, 182, 0, 122, 62, 42, 27, 16, 26, 28, 182, 0, 54, 29, 172]
theorem ndcX9_settle_0 : ((cX9_settle.data.toList.drop 0).take 66).map UInt8.toNat = nkcX9_settle_0 := by decide +kernel
theorem dX9_settle_0 : decode cX9_settle 0 = .ok (.iload_n 1, 1) := p_27 ndcX9_settle_0 (by decide +kernel)
theorem dX9_settle_1 : decode cX9_settle 1 = .ok (.invokestatic 126, 3) := p_184 ndcX9_settle_0 (by decide +kernel)
theorem dX9_settle_4 : decode cX9_settle 4 = .ok (.ifCond .eq 15, 3) := p_153 ndcX9_settle_0 15 (by decide +kernel) (by decide +kernel)
theorem dX9_settle_7 : decode cX9_settle 7 = .ok (.iload_n 2, 1) := p_28 ndcX9_settle_0 (by decide +kernel)
theorem dX9_settle_8 : decode cX9_settle 8 = .ok (.i2l, 1) := p_133 ndcX9_settle_0 (by decide +kernel)
theorem dX9_settle_9 : decode cX9_settle 9 = .ok (.lconst 0, 1) := p_9 ndcX9_settle_0 (by decide +kernel)
theorem dX9_settle_10 : decode cX9_settle 10 = .ok (.ldc2_w 142, 3) := p_20 ndcX9_settle_0 (by decide +kernel)
theorem dX9_settle_13 : decode cX9_settle 13 = .ok (.invokestatic 60, 3) := p_184 ndcX9_settle_0 (by decide +kernel)
theorem dX9_settle_16 : decode cX9_settle 16 = .ok (.ifCond .ne 5, 3) := p_154 ndcX9_settle_0 5 (by decide +kernel) (by decide +kernel)
theorem dX9_settle_19 : decode cX9_settle 19 = .ok (.iconst (-1), 1) := p_2 ndcX9_settle_0 (by decide +kernel)
theorem dX9_settle_20 : decode cX9_settle 20 = .ok (.ireturn, 1) := p_172 ndcX9_settle_0 (by decide +kernel)
theorem dX9_settle_21 : decode cX9_settle 21 = .ok (.aload_n 0, 1) := p_42 ndcX9_settle_0 (by decide +kernel)
theorem dX9_settle_22 : decode cX9_settle 22 = .ok (.iload_n 1, 1) := p_27 ndcX9_settle_0 (by decide +kernel)
theorem dX9_settle_23 : decode cX9_settle 23 = .ok (.bipush 26, 2) := p_16 ndcX9_settle_0 26 (by decide +kernel) (by decide +kernel)
theorem dX9_settle_25 : decode cX9_settle 25 = .ok (.invokevirtual 122, 3) := p_182 ndcX9_settle_0 (by decide +kernel)
theorem dX9_settle_28 : decode cX9_settle 28 = .ok (.istore_n 3, 1) := p_62 ndcX9_settle_0 (by decide +kernel)
theorem dX9_settle_29 : decode cX9_settle 29 = .ok (.aload_n 0, 1) := p_42 ndcX9_settle_0 (by decide +kernel)
theorem dX9_settle_30 : decode cX9_settle 30 = .ok (.iload_n 1, 1) := p_27 ndcX9_settle_0 (by decide +kernel)
theorem dX9_settle_31 : decode cX9_settle 31 = .ok (.bipush 26, 2) := p_16 ndcX9_settle_0 26 (by decide +kernel) (by decide +kernel)
theorem dX9_settle_33 : decode cX9_settle 33 = .ok (.iload_n 2, 1) := p_28 ndcX9_settle_0 (by decide +kernel)
theorem dX9_settle_34 : decode cX9_settle 34 = .ok (.invokevirtual 54, 3) := p_182 ndcX9_settle_0 (by decide +kernel)
theorem dX9_settle_37 : decode cX9_settle 37 = .ok (.iload_n 3, 1) := p_29 ndcX9_settle_0 (by decide +kernel)
theorem dX9_settle_38 : decode cX9_settle 38 = .ok (.ireturn, 1) := p_172 ndcX9_settle_0 (by decide +kernel)
def nkcX9_told_0 : List Nat := [27, 184, 0, 126, 154, 0, 5, 2, 172, 28, 133, 9, 10, 184, 0, 60, 153, 0, 10, 42, 27, 28, 182, 0, 122, 172, 28, 133, 20, 0, 58, 20, 0, 142, 184, 0, 60, 153, 0, 15, 42, 27, 16, 21, 28, 96, 5, 100, 182, 0, 122, 172, 28, 133, 20, 0, 147, 20, 0, 149, 184, 0, 60, 153, 0, 15]
theorem ndcX9_told_0 : ((cX9_told.data.toList.drop 0).take 66).map UInt8.toNat = nkcX9_told_0 := by decide +kernel
theorem dX9_told_0 : decode cX9_told 0 = .ok (.iload_n 1, 1) := p_27 ndcX9_told_0 (by decide +kernel)
theorem dX9_told_1 : decode cX9_told 1 = .ok (.invokestatic 126, 3) := p_184 ndcX9_told_0 (by decide +kernel)
theorem dX9_told_4 : decode cX9_told 4 = .ok (.ifCond .ne 5, 3) := p_154 ndcX9_told_0 5 (by decide +kernel) (by decide +kernel)
theorem dX9_told_7 : decode cX9_told 7 = .ok (.iconst (-1), 1) := p_2 ndcX9_told_0 (by decide +kernel)
theorem dX9_told_8 : decode cX9_told 8 = .ok (.ireturn, 1) := p_172 ndcX9_told_0 (by decide +kernel)
theorem dX9_told_9 : decode cX9_told 9 = .ok (.iload_n 2, 1) := p_28 ndcX9_told_0 (by decide +kernel)
theorem dX9_told_10 : decode cX9_told 10 = .ok (.i2l, 1) := p_133 ndcX9_told_0 (by decide +kernel)
theorem dX9_told_11 : decode cX9_told 11 = .ok (.lconst 0, 1) := p_9 ndcX9_told_0 (by decide +kernel)
theorem dX9_told_12 : decode cX9_told 12 = .ok (.lconst 1, 1) := p_10 ndcX9_told_0 (by decide +kernel)
theorem dX9_told_13 : decode cX9_told 13 = .ok (.invokestatic 60, 3) := p_184 ndcX9_told_0 (by decide +kernel)
theorem dX9_told_16 : decode cX9_told 16 = .ok (.ifCond .eq 10, 3) := p_153 ndcX9_told_0 10 (by decide +kernel) (by decide +kernel)
theorem dX9_told_19 : decode cX9_told 19 = .ok (.aload_n 0, 1) := p_42 ndcX9_told_0 (by decide +kernel)
theorem dX9_told_20 : decode cX9_told 20 = .ok (.iload_n 1, 1) := p_27 ndcX9_told_0 (by decide +kernel)
theorem dX9_told_21 : decode cX9_told 21 = .ok (.iload_n 2, 1) := p_28 ndcX9_told_0 (by decide +kernel)
theorem dX9_told_22 : decode cX9_told 22 = .ok (.invokevirtual 122, 3) := p_182 ndcX9_told_0 (by decide +kernel)
theorem dX9_told_25 : decode cX9_told 25 = .ok (.ireturn, 1) := p_172 ndcX9_told_0 (by decide +kernel)
theorem dX9_told_26 : decode cX9_told 26 = .ok (.iload_n 2, 1) := p_28 ndcX9_told_0 (by decide +kernel)
theorem dX9_told_27 : decode cX9_told 27 = .ok (.i2l, 1) := p_133 ndcX9_told_0 (by decide +kernel)
theorem dX9_told_28 : decode cX9_told 28 = .ok (.ldc2_w 58, 3) := p_20 ndcX9_told_0 (by decide +kernel)
theorem dX9_told_31 : decode cX9_told 31 = .ok (.ldc2_w 142, 3) := p_20 ndcX9_told_0 (by decide +kernel)
theorem dX9_told_34 : decode cX9_told 34 = .ok (.invokestatic 60, 3) := p_184 ndcX9_told_0 (by decide +kernel)
theorem dX9_told_37 : decode cX9_told 37 = .ok (.ifCond .eq 15, 3) := p_153 ndcX9_told_0 15 (by decide +kernel) (by decide +kernel)
theorem dX9_told_40 : decode cX9_told 40 = .ok (.aload_n 0, 1) := p_42 ndcX9_told_0 (by decide +kernel)
theorem dX9_told_41 : decode cX9_told 41 = .ok (.iload_n 1, 1) := p_27 ndcX9_told_0 (by decide +kernel)
theorem dX9_told_42 : decode cX9_told 42 = .ok (.bipush 21, 2) := p_16 ndcX9_told_0 21 (by decide +kernel) (by decide +kernel)
theorem dX9_told_44 : decode cX9_told 44 = .ok (.iload_n 2, 1) := p_28 ndcX9_told_0 (by decide +kernel)
theorem dX9_told_45 : decode cX9_told 45 = .ok (.iadd, 1) := p_96 ndcX9_told_0 (by decide +kernel)
theorem dX9_told_46 : decode cX9_told 46 = .ok (.iconst 2, 1) := p_5 ndcX9_told_0 (by decide +kernel)
theorem dX9_told_47 : decode cX9_told 47 = .ok (.isub, 1) := p_100 ndcX9_told_0 (by decide +kernel)
theorem dX9_told_48 : decode cX9_told 48 = .ok (.invokevirtual 122, 3) := p_182 ndcX9_told_0 (by decide +kernel)
theorem dX9_told_51 : decode cX9_told 51 = .ok (.ireturn, 1) := p_172 ndcX9_told_0 (by decide +kernel)
theorem dX9_told_52 : decode cX9_told 52 = .ok (.iload_n 2, 1) := p_28 ndcX9_told_0 (by decide +kernel)
theorem dX9_told_53 : decode cX9_told 53 = .ok (.i2l, 1) := p_133 ndcX9_told_0 (by decide +kernel)
theorem dX9_told_54 : decode cX9_told 54 = .ok (.ldc2_w 147, 3) := p_20 ndcX9_told_0 (by decide +kernel)
theorem dX9_told_57 : decode cX9_told 57 = .ok (.ldc2_w 149, 3) := p_20 ndcX9_told_0 (by decide +kernel)
theorem dX9_told_60 : decode cX9_told 60 = .ok (.invokestatic 60, 3) := p_184 ndcX9_told_0 (by decide +kernel)
theorem dX9_told_63 : decode cX9_told 63 = .ok (.ifCond .eq 15, 3) := p_153 ndcX9_told_0 15 (by decide +kernel) (by decide +kernel)
def nkcX9_told_1 : List Nat := [0, 15, 42, 27, 16, 23, 28, 96, 7, 100, 182, 0, 122, 172, 28, 133, 20, 0, 151, 20, 0, 153, 184, 0, 60, 153, 0, 15, 42, 27, 5, 28, 96, 16, 10, 100, 182, 0, 122, 172, 28, 133, 20, 0, 79, 20, 0, 155, 184, 0, 60, 153, 0, 20, 42, 42, 27, 16, 9, 28, 96, 16, 20, 100, 182, 0]
theorem ndcX9_told_1 : ((cX9_told.data.toList.drop 64).take 66).map UInt8.toNat = nkcX9_told_1 := by decide +kernel
theorem dX9_told_66 : decode cX9_told 66 = .ok (.aload_n 0, 1) := p_42 ndcX9_told_1 (by decide +kernel)
theorem dX9_told_67 : decode cX9_told 67 = .ok (.iload_n 1, 1) := p_27 ndcX9_told_1 (by decide +kernel)
theorem dX9_told_68 : decode cX9_told 68 = .ok (.bipush 23, 2) := p_16 ndcX9_told_1 23 (by decide +kernel) (by decide +kernel)
theorem dX9_told_70 : decode cX9_told 70 = .ok (.iload_n 2, 1) := p_28 ndcX9_told_1 (by decide +kernel)
theorem dX9_told_71 : decode cX9_told 71 = .ok (.iadd, 1) := p_96 ndcX9_told_1 (by decide +kernel)
theorem dX9_told_72 : decode cX9_told 72 = .ok (.iconst 4, 1) := p_7 ndcX9_told_1 (by decide +kernel)
theorem dX9_told_73 : decode cX9_told 73 = .ok (.isub, 1) := p_100 ndcX9_told_1 (by decide +kernel)
theorem dX9_told_74 : decode cX9_told 74 = .ok (.invokevirtual 122, 3) := p_182 ndcX9_told_1 (by decide +kernel)
theorem dX9_told_77 : decode cX9_told 77 = .ok (.ireturn, 1) := p_172 ndcX9_told_1 (by decide +kernel)
theorem dX9_told_78 : decode cX9_told 78 = .ok (.iload_n 2, 1) := p_28 ndcX9_told_1 (by decide +kernel)
theorem dX9_told_79 : decode cX9_told 79 = .ok (.i2l, 1) := p_133 ndcX9_told_1 (by decide +kernel)
theorem dX9_told_80 : decode cX9_told 80 = .ok (.ldc2_w 151, 3) := p_20 ndcX9_told_1 (by decide +kernel)
theorem dX9_told_83 : decode cX9_told 83 = .ok (.ldc2_w 153, 3) := p_20 ndcX9_told_1 (by decide +kernel)
theorem dX9_told_86 : decode cX9_told 86 = .ok (.invokestatic 60, 3) := p_184 ndcX9_told_1 (by decide +kernel)
theorem dX9_told_89 : decode cX9_told 89 = .ok (.ifCond .eq 15, 3) := p_153 ndcX9_told_1 15 (by decide +kernel) (by decide +kernel)
theorem dX9_told_92 : decode cX9_told 92 = .ok (.aload_n 0, 1) := p_42 ndcX9_told_1 (by decide +kernel)
theorem dX9_told_93 : decode cX9_told 93 = .ok (.iload_n 1, 1) := p_27 ndcX9_told_1 (by decide +kernel)
theorem dX9_told_94 : decode cX9_told 94 = .ok (.iconst 2, 1) := p_5 ndcX9_told_1 (by decide +kernel)
theorem dX9_told_95 : decode cX9_told 95 = .ok (.iload_n 2, 1) := p_28 ndcX9_told_1 (by decide +kernel)
theorem dX9_told_96 : decode cX9_told 96 = .ok (.iadd, 1) := p_96 ndcX9_told_1 (by decide +kernel)
theorem dX9_told_97 : decode cX9_told 97 = .ok (.bipush 10, 2) := p_16 ndcX9_told_1 10 (by decide +kernel) (by decide +kernel)
theorem dX9_told_99 : decode cX9_told 99 = .ok (.isub, 1) := p_100 ndcX9_told_1 (by decide +kernel)
theorem dX9_told_100 : decode cX9_told 100 = .ok (.invokevirtual 122, 3) := p_182 ndcX9_told_1 (by decide +kernel)
theorem dX9_told_103 : decode cX9_told 103 = .ok (.ireturn, 1) := p_172 ndcX9_told_1 (by decide +kernel)
theorem dX9_told_104 : decode cX9_told 104 = .ok (.iload_n 2, 1) := p_28 ndcX9_told_1 (by decide +kernel)
theorem dX9_told_105 : decode cX9_told 105 = .ok (.i2l, 1) := p_133 ndcX9_told_1 (by decide +kernel)
theorem dX9_told_106 : decode cX9_told 106 = .ok (.ldc2_w 79, 3) := p_20 ndcX9_told_1 (by decide +kernel)
theorem dX9_told_109 : decode cX9_told 109 = .ok (.ldc2_w 155, 3) := p_20 ndcX9_told_1 (by decide +kernel)
theorem dX9_told_112 : decode cX9_told 112 = .ok (.invokestatic 60, 3) := p_184 ndcX9_told_1 (by decide +kernel)
theorem dX9_told_115 : decode cX9_told 115 = .ok (.ifCond .eq 20, 3) := p_153 ndcX9_told_1 20 (by decide +kernel) (by decide +kernel)
theorem dX9_told_118 : decode cX9_told 118 = .ok (.aload_n 0, 1) := p_42 ndcX9_told_1 (by decide +kernel)
theorem dX9_told_119 : decode cX9_told 119 = .ok (.aload_n 0, 1) := p_42 ndcX9_told_1 (by decide +kernel)
theorem dX9_told_120 : decode cX9_told 120 = .ok (.iload_n 1, 1) := p_27 ndcX9_told_1 (by decide +kernel)
theorem dX9_told_121 : decode cX9_told 121 = .ok (.bipush 9, 2) := p_16 ndcX9_told_1 9 (by decide +kernel) (by decide +kernel)
theorem dX9_told_123 : decode cX9_told 123 = .ok (.iload_n 2, 1) := p_28 ndcX9_told_1 (by decide +kernel)
theorem dX9_told_124 : decode cX9_told 124 = .ok (.iadd, 1) := p_96 ndcX9_told_1 (by decide +kernel)
theorem dX9_told_125 : decode cX9_told 125 = .ok (.bipush 20, 2) := p_16 ndcX9_told_1 20 (by decide +kernel) (by decide +kernel)
theorem dX9_told_127 : decode cX9_told 127 = .ok (.isub, 1) := p_100 ndcX9_told_1 (by decide +kernel)
def nkcX9_told_2 : List Nat := [182, 0, 122, 182, 0, 134, 172, 28, 133, 20, 0, 157, 20, 0, 159, 184, 0, 60, 153, 0, 22, 42, 42, 27, 16, 15, 28, 96, 16, 30, 100, 182, 0, 122, 182, 0, 134, 167, 0, 4, 2, 172]
theorem ndcX9_told_2 : ((cX9_told.data.toList.drop 128).take 66).map UInt8.toNat = nkcX9_told_2 := by decide +kernel
theorem dX9_told_128 : decode cX9_told 128 = .ok (.invokevirtual 122, 3) := p_182 ndcX9_told_2 (by decide +kernel)
theorem dX9_told_131 : decode cX9_told 131 = .ok (.invokevirtual 134, 3) := p_182 ndcX9_told_2 (by decide +kernel)
theorem dX9_told_134 : decode cX9_told 134 = .ok (.ireturn, 1) := p_172 ndcX9_told_2 (by decide +kernel)
theorem dX9_told_135 : decode cX9_told 135 = .ok (.iload_n 2, 1) := p_28 ndcX9_told_2 (by decide +kernel)
theorem dX9_told_136 : decode cX9_told 136 = .ok (.i2l, 1) := p_133 ndcX9_told_2 (by decide +kernel)
theorem dX9_told_137 : decode cX9_told 137 = .ok (.ldc2_w 157, 3) := p_20 ndcX9_told_2 (by decide +kernel)
theorem dX9_told_140 : decode cX9_told 140 = .ok (.ldc2_w 159, 3) := p_20 ndcX9_told_2 (by decide +kernel)
theorem dX9_told_143 : decode cX9_told 143 = .ok (.invokestatic 60, 3) := p_184 ndcX9_told_2 (by decide +kernel)
theorem dX9_told_146 : decode cX9_told 146 = .ok (.ifCond .eq 22, 3) := p_153 ndcX9_told_2 22 (by decide +kernel) (by decide +kernel)
theorem dX9_told_149 : decode cX9_told 149 = .ok (.aload_n 0, 1) := p_42 ndcX9_told_2 (by decide +kernel)
theorem dX9_told_150 : decode cX9_told 150 = .ok (.aload_n 0, 1) := p_42 ndcX9_told_2 (by decide +kernel)
theorem dX9_told_151 : decode cX9_told 151 = .ok (.iload_n 1, 1) := p_27 ndcX9_told_2 (by decide +kernel)
theorem dX9_told_152 : decode cX9_told 152 = .ok (.bipush 15, 2) := p_16 ndcX9_told_2 15 (by decide +kernel) (by decide +kernel)
theorem dX9_told_154 : decode cX9_told 154 = .ok (.iload_n 2, 1) := p_28 ndcX9_told_2 (by decide +kernel)
theorem dX9_told_155 : decode cX9_told 155 = .ok (.iadd, 1) := p_96 ndcX9_told_2 (by decide +kernel)
theorem dX9_told_156 : decode cX9_told 156 = .ok (.bipush 30, 2) := p_16 ndcX9_told_2 30 (by decide +kernel) (by decide +kernel)
theorem dX9_told_158 : decode cX9_told 158 = .ok (.isub, 1) := p_100 ndcX9_told_2 (by decide +kernel)
theorem dX9_told_159 : decode cX9_told 159 = .ok (.invokevirtual 122, 3) := p_182 ndcX9_told_2 (by decide +kernel)
theorem dX9_told_162 : decode cX9_told 162 = .ok (.invokevirtual 134, 3) := p_182 ndcX9_told_2 (by decide +kernel)
theorem dX9_told_165 : decode cX9_told 165 = .ok (.goto 4, 3) := p_167 ndcX9_told_2 4 (by decide +kernel) (by decide +kernel)
theorem dX9_told_168 : decode cX9_told 168 = .ok (.iconst (-1), 1) := p_2 ndcX9_told_2 (by decide +kernel)
theorem dX9_told_169 : decode cX9_told 169 = .ok (.ireturn, 1) := p_172 ndcX9_told_2 (by decide +kernel)
def nkcX9_copy_0 : List Nat := [27, 184, 0, 126, 153, 0, 15, 28, 184, 0, 126, 153, 0, 8, 27, 28, 160, 0, 5, 3, 172, 42, 27, 28, 182, 0, 161, 4, 172]
theorem ndcX9_copy_0 : ((cX9_copy.data.toList.drop 0).take 66).map UInt8.toNat = nkcX9_copy_0 := by decide +kernel
theorem dX9_copy_0 : decode cX9_copy 0 = .ok (.iload_n 1, 1) := p_27 ndcX9_copy_0 (by decide +kernel)
theorem dX9_copy_1 : decode cX9_copy 1 = .ok (.invokestatic 126, 3) := p_184 ndcX9_copy_0 (by decide +kernel)
theorem dX9_copy_4 : decode cX9_copy 4 = .ok (.ifCond .eq 15, 3) := p_153 ndcX9_copy_0 15 (by decide +kernel) (by decide +kernel)
theorem dX9_copy_7 : decode cX9_copy 7 = .ok (.iload_n 2, 1) := p_28 ndcX9_copy_0 (by decide +kernel)
theorem dX9_copy_8 : decode cX9_copy 8 = .ok (.invokestatic 126, 3) := p_184 ndcX9_copy_0 (by decide +kernel)
theorem dX9_copy_11 : decode cX9_copy 11 = .ok (.ifCond .eq 8, 3) := p_153 ndcX9_copy_0 8 (by decide +kernel) (by decide +kernel)
theorem dX9_copy_14 : decode cX9_copy 14 = .ok (.iload_n 1, 1) := p_27 ndcX9_copy_0 (by decide +kernel)
theorem dX9_copy_15 : decode cX9_copy 15 = .ok (.iload_n 2, 1) := p_28 ndcX9_copy_0 (by decide +kernel)
theorem dX9_copy_16 : decode cX9_copy 16 = .ok (.if_icmp .ne 5, 3) := p_160 ndcX9_copy_0 5 (by decide +kernel) (by decide +kernel)
theorem dX9_copy_19 : decode cX9_copy 19 = .ok (.iconst 0, 1) := p_3 ndcX9_copy_0 (by decide +kernel)
theorem dX9_copy_20 : decode cX9_copy 20 = .ok (.ireturn, 1) := p_172 ndcX9_copy_0 (by decide +kernel)
theorem dX9_copy_21 : decode cX9_copy 21 = .ok (.aload_n 0, 1) := p_42 ndcX9_copy_0 (by decide +kernel)
theorem dX9_copy_22 : decode cX9_copy 22 = .ok (.iload_n 1, 1) := p_27 ndcX9_copy_0 (by decide +kernel)
theorem dX9_copy_23 : decode cX9_copy 23 = .ok (.iload_n 2, 1) := p_28 ndcX9_copy_0 (by decide +kernel)
theorem dX9_copy_24 : decode cX9_copy 24 = .ok (.invokevirtual 161, 3) := p_182 ndcX9_copy_0 (by decide +kernel)
theorem dX9_copy_27 : decode cX9_copy 27 = .ok (.iconst 1, 1) := p_4 ndcX9_copy_0 (by decide +kernel)
theorem dX9_copy_28 : decode cX9_copy 28 = .ok (.ireturn, 1) := p_172 ndcX9_copy_0 (by decide +kernel)
def nkcX9_see_0 : List Nat := [42, 180, 0, 164, 42, 180, 0, 167, 162, 0, 30, 42, 180, 0, 7, 42, 180, 0, 164, 51, 16, 32, 160, 0, 16, 42, 42, 180, 0, 164, 4, 96, 181, 0, 164, 167, 255, 221, 42, 180, 0, 164, 42, 180, 0, 167, 162, 0, 19, 42, 180, 0, 7, 42, 180, 0, 164, 51, 17, 0, 255, 126, 167, 0, 4, 2]
theorem ndcX9_see_0 : ((cX9_see.data.toList.drop 0).take 66).map UInt8.toNat = nkcX9_see_0 := by decide +kernel
theorem dX9_see_0 : decode cX9_see 0 = .ok (.aload_n 0, 1) := p_42 ndcX9_see_0 (by decide +kernel)
theorem dX9_see_1 : decode cX9_see 1 = .ok (.getfield 164, 3) := p_180 ndcX9_see_0 (by decide +kernel)
theorem dX9_see_4 : decode cX9_see 4 = .ok (.aload_n 0, 1) := p_42 ndcX9_see_0 (by decide +kernel)
theorem dX9_see_5 : decode cX9_see 5 = .ok (.getfield 167, 3) := p_180 ndcX9_see_0 (by decide +kernel)
theorem dX9_see_8 : decode cX9_see 8 = .ok (.if_icmp .ge 30, 3) := p_162 ndcX9_see_0 30 (by decide +kernel) (by decide +kernel)
theorem dX9_see_11 : decode cX9_see 11 = .ok (.aload_n 0, 1) := p_42 ndcX9_see_0 (by decide +kernel)
theorem dX9_see_12 : decode cX9_see 12 = .ok (.getfield 7, 3) := p_180 ndcX9_see_0 (by decide +kernel)
theorem dX9_see_15 : decode cX9_see 15 = .ok (.aload_n 0, 1) := p_42 ndcX9_see_0 (by decide +kernel)
theorem dX9_see_16 : decode cX9_see 16 = .ok (.getfield 164, 3) := p_180 ndcX9_see_0 (by decide +kernel)
theorem dX9_see_19 : decode cX9_see 19 = .ok (.baload, 1) := p_51 ndcX9_see_0 (by decide +kernel)
theorem dX9_see_20 : decode cX9_see 20 = .ok (.bipush 32, 2) := p_16 ndcX9_see_0 32 (by decide +kernel) (by decide +kernel)
theorem dX9_see_22 : decode cX9_see 22 = .ok (.if_icmp .ne 16, 3) := p_160 ndcX9_see_0 16 (by decide +kernel) (by decide +kernel)
theorem dX9_see_25 : decode cX9_see 25 = .ok (.aload_n 0, 1) := p_42 ndcX9_see_0 (by decide +kernel)
theorem dX9_see_26 : decode cX9_see 26 = .ok (.aload_n 0, 1) := p_42 ndcX9_see_0 (by decide +kernel)
theorem dX9_see_27 : decode cX9_see 27 = .ok (.getfield 164, 3) := p_180 ndcX9_see_0 (by decide +kernel)
theorem dX9_see_30 : decode cX9_see 30 = .ok (.iconst 1, 1) := p_4 ndcX9_see_0 (by decide +kernel)
theorem dX9_see_31 : decode cX9_see 31 = .ok (.iadd, 1) := p_96 ndcX9_see_0 (by decide +kernel)
theorem dX9_see_32 : decode cX9_see 32 = .ok (.putfield 164, 3) := p_181 ndcX9_see_0 (by decide +kernel)
theorem dX9_see_35 : decode cX9_see 35 = .ok (.goto (-35), 3) := p_167 ndcX9_see_0 65501 (by decide +kernel) (by decide +kernel)
theorem dX9_see_38 : decode cX9_see 38 = .ok (.aload_n 0, 1) := p_42 ndcX9_see_0 (by decide +kernel)
theorem dX9_see_39 : decode cX9_see 39 = .ok (.getfield 164, 3) := p_180 ndcX9_see_0 (by decide +kernel)
theorem dX9_see_42 : decode cX9_see 42 = .ok (.aload_n 0, 1) := p_42 ndcX9_see_0 (by decide +kernel)
theorem dX9_see_43 : decode cX9_see 43 = .ok (.getfield 167, 3) := p_180 ndcX9_see_0 (by decide +kernel)
theorem dX9_see_46 : decode cX9_see 46 = .ok (.if_icmp .ge 19, 3) := p_162 ndcX9_see_0 19 (by decide +kernel) (by decide +kernel)
theorem dX9_see_49 : decode cX9_see 49 = .ok (.aload_n 0, 1) := p_42 ndcX9_see_0 (by decide +kernel)
theorem dX9_see_50 : decode cX9_see 50 = .ok (.getfield 7, 3) := p_180 ndcX9_see_0 (by decide +kernel)
theorem dX9_see_53 : decode cX9_see 53 = .ok (.aload_n 0, 1) := p_42 ndcX9_see_0 (by decide +kernel)
theorem dX9_see_54 : decode cX9_see 54 = .ok (.getfield 164, 3) := p_180 ndcX9_see_0 (by decide +kernel)
theorem dX9_see_57 : decode cX9_see 57 = .ok (.baload, 1) := p_51 ndcX9_see_0 (by decide +kernel)
theorem dX9_see_58 : decode cX9_see 58 = .ok (.sipush 255, 3) := p_17 ndcX9_see_0 255 (by decide +kernel) (by decide +kernel)
theorem dX9_see_61 : decode cX9_see 61 = .ok (.iand, 1) := p_126 ndcX9_see_0 (by decide +kernel)
theorem dX9_see_62 : decode cX9_see 62 = .ok (.goto 4, 3) := p_167 ndcX9_see_0 4 (by decide +kernel) (by decide +kernel)
def nkcX9_see_1 : List Nat := [4, 2, 172]
theorem ndcX9_see_1 : ((cX9_see.data.toList.drop 64).take 66).map UInt8.toNat = nkcX9_see_1 := by decide +kernel
theorem dX9_see_65 : decode cX9_see 65 = .ok (.iconst (-1), 1) := p_2 ndcX9_see_1 (by decide +kernel)
theorem dX9_see_66 : decode cX9_see 66 = .ok (.ireturn, 1) := p_172 ndcX9_see_1 (by decide +kernel)
def nkcX9_wrong_0 : List Nat := [42, 180, 0, 170, 154, 0, 14, 42, 17, 252, 24, 27, 104, 28, 100, 181, 0, 170, 3, 172]
theorem ndcX9_wrong_0 : ((cX9_wrong.data.toList.drop 0).take 66).map UInt8.toNat = nkcX9_wrong_0 := by decide +kernel
theorem dX9_wrong_0 : decode cX9_wrong 0 = .ok (.aload_n 0, 1) := p_42 ndcX9_wrong_0 (by decide +kernel)
theorem dX9_wrong_1 : decode cX9_wrong 1 = .ok (.getfield 170, 3) := p_180 ndcX9_wrong_0 (by decide +kernel)
theorem dX9_wrong_4 : decode cX9_wrong 4 = .ok (.ifCond .ne 14, 3) := p_154 ndcX9_wrong_0 14 (by decide +kernel) (by decide +kernel)
theorem dX9_wrong_7 : decode cX9_wrong 7 = .ok (.aload_n 0, 1) := p_42 ndcX9_wrong_0 (by decide +kernel)
theorem dX9_wrong_8 : decode cX9_wrong 8 = .ok (.sipush (-1000), 3) := p_17 ndcX9_wrong_0 64536 (by decide +kernel) (by decide +kernel)
theorem dX9_wrong_11 : decode cX9_wrong 11 = .ok (.iload_n 1, 1) := p_27 ndcX9_wrong_0 (by decide +kernel)
theorem dX9_wrong_12 : decode cX9_wrong 12 = .ok (.imul, 1) := p_104 ndcX9_wrong_0 (by decide +kernel)
theorem dX9_wrong_13 : decode cX9_wrong 13 = .ok (.iload_n 2, 1) := p_28 ndcX9_wrong_0 (by decide +kernel)
theorem dX9_wrong_14 : decode cX9_wrong 14 = .ok (.isub, 1) := p_100 ndcX9_wrong_0 (by decide +kernel)
theorem dX9_wrong_15 : decode cX9_wrong 15 = .ok (.putfield 170, 3) := p_181 ndcX9_wrong_0 (by decide +kernel)
theorem dX9_wrong_18 : decode cX9_wrong 18 = .ok (.iconst 0, 1) := p_3 ndcX9_wrong_0 (by decide +kernel)
theorem dX9_wrong_19 : decode cX9_wrong 19 = .ok (.ireturn, 1) := p_172 ndcX9_wrong_0 (by decide +kernel)
def nkcX9_isFigure_0 : List Nat := [26, 133, 20, 0, 173, 20, 0, 175, 184, 0, 60, 172]
theorem ndcX9_isFigure_0 : ((cX9_isFigure.data.toList.drop 0).take 66).map UInt8.toNat = nkcX9_isFigure_0 := by decide +kernel
theorem dX9_isFigure_0 : decode cX9_isFigure 0 = .ok (.iload_n 0, 1) := p_26 ndcX9_isFigure_0 (by decide +kernel)
theorem dX9_isFigure_1 : decode cX9_isFigure 1 = .ok (.i2l, 1) := p_133 ndcX9_isFigure_0 (by decide +kernel)
theorem dX9_isFigure_2 : decode cX9_isFigure 2 = .ok (.ldc2_w 173, 3) := p_20 ndcX9_isFigure_0 (by decide +kernel)
theorem dX9_isFigure_5 : decode cX9_isFigure 5 = .ok (.ldc2_w 175, 3) := p_20 ndcX9_isFigure_0 (by decide +kernel)
theorem dX9_isFigure_8 : decode cX9_isFigure 8 = .ok (.invokestatic 60, 3) := p_184 ndcX9_isFigure_0 (by decide +kernel)
theorem dX9_isFigure_11 : decode cX9_isFigure 11 = .ok (.ireturn, 1) := p_172 ndcX9_isFigure_0 (by decide +kernel)
def nkcX9_counts_0 : List Nat := [42, 182, 0, 177, 61, 42, 42, 180, 0, 164, 181, 0, 181, 42, 3, 181, 0, 184, 42, 3, 181, 0, 187, 28, 184, 0, 190, 154, 0, 13, 42, 4, 42, 180, 0, 164, 182, 0, 193, 172, 42, 180, 0, 164, 42, 180, 0, 167, 162, 0, 73, 42, 180, 0, 187, 27, 162, 0, 65, 42, 180, 0, 7, 42, 180, 0]
theorem ndcX9_counts_0 : ((cX9_counts.data.toList.drop 0).take 66).map UInt8.toNat = nkcX9_counts_0 := by decide +kernel
theorem dX9_counts_0 : decode cX9_counts 0 = .ok (.aload_n 0, 1) := p_42 ndcX9_counts_0 (by decide +kernel)
theorem dX9_counts_1 : decode cX9_counts 1 = .ok (.invokevirtual 177, 3) := p_182 ndcX9_counts_0 (by decide +kernel)
theorem dX9_counts_4 : decode cX9_counts 4 = .ok (.istore_n 2, 1) := p_61 ndcX9_counts_0 (by decide +kernel)
theorem dX9_counts_5 : decode cX9_counts 5 = .ok (.aload_n 0, 1) := p_42 ndcX9_counts_0 (by decide +kernel)
theorem dX9_counts_6 : decode cX9_counts 6 = .ok (.aload_n 0, 1) := p_42 ndcX9_counts_0 (by decide +kernel)
theorem dX9_counts_7 : decode cX9_counts 7 = .ok (.getfield 164, 3) := p_180 ndcX9_counts_0 (by decide +kernel)
theorem dX9_counts_10 : decode cX9_counts 10 = .ok (.putfield 181, 3) := p_181 ndcX9_counts_0 (by decide +kernel)
theorem dX9_counts_13 : decode cX9_counts 13 = .ok (.aload_n 0, 1) := p_42 ndcX9_counts_0 (by decide +kernel)
theorem dX9_counts_14 : decode cX9_counts 14 = .ok (.iconst 0, 1) := p_3 ndcX9_counts_0 (by decide +kernel)
theorem dX9_counts_15 : decode cX9_counts 15 = .ok (.putfield 184, 3) := p_181 ndcX9_counts_0 (by decide +kernel)
theorem dX9_counts_18 : decode cX9_counts 18 = .ok (.aload_n 0, 1) := p_42 ndcX9_counts_0 (by decide +kernel)
theorem dX9_counts_19 : decode cX9_counts 19 = .ok (.iconst 0, 1) := p_3 ndcX9_counts_0 (by decide +kernel)
theorem dX9_counts_20 : decode cX9_counts 20 = .ok (.putfield 187, 3) := p_181 ndcX9_counts_0 (by decide +kernel)
theorem dX9_counts_23 : decode cX9_counts 23 = .ok (.iload_n 2, 1) := p_28 ndcX9_counts_0 (by decide +kernel)
theorem dX9_counts_24 : decode cX9_counts 24 = .ok (.invokestatic 190, 3) := p_184 ndcX9_counts_0 (by decide +kernel)
theorem dX9_counts_27 : decode cX9_counts 27 = .ok (.ifCond .ne 13, 3) := p_154 ndcX9_counts_0 13 (by decide +kernel) (by decide +kernel)
theorem dX9_counts_30 : decode cX9_counts 30 = .ok (.aload_n 0, 1) := p_42 ndcX9_counts_0 (by decide +kernel)
theorem dX9_counts_31 : decode cX9_counts 31 = .ok (.iconst 1, 1) := p_4 ndcX9_counts_0 (by decide +kernel)
theorem dX9_counts_32 : decode cX9_counts 32 = .ok (.aload_n 0, 1) := p_42 ndcX9_counts_0 (by decide +kernel)
theorem dX9_counts_33 : decode cX9_counts 33 = .ok (.getfield 164, 3) := p_180 ndcX9_counts_0 (by decide +kernel)
theorem dX9_counts_36 : decode cX9_counts 36 = .ok (.invokevirtual 193, 3) := p_182 ndcX9_counts_0 (by decide +kernel)
theorem dX9_counts_39 : decode cX9_counts 39 = .ok (.ireturn, 1) := p_172 ndcX9_counts_0 (by decide +kernel)
theorem dX9_counts_40 : decode cX9_counts 40 = .ok (.aload_n 0, 1) := p_42 ndcX9_counts_0 (by decide +kernel)
theorem dX9_counts_41 : decode cX9_counts 41 = .ok (.getfield 164, 3) := p_180 ndcX9_counts_0 (by decide +kernel)
theorem dX9_counts_44 : decode cX9_counts 44 = .ok (.aload_n 0, 1) := p_42 ndcX9_counts_0 (by decide +kernel)
theorem dX9_counts_45 : decode cX9_counts 45 = .ok (.getfield 167, 3) := p_180 ndcX9_counts_0 (by decide +kernel)
theorem dX9_counts_48 : decode cX9_counts 48 = .ok (.if_icmp .ge 73, 3) := p_162 ndcX9_counts_0 73 (by decide +kernel) (by decide +kernel)
theorem dX9_counts_51 : decode cX9_counts 51 = .ok (.aload_n 0, 1) := p_42 ndcX9_counts_0 (by decide +kernel)
theorem dX9_counts_52 : decode cX9_counts 52 = .ok (.getfield 187, 3) := p_180 ndcX9_counts_0 (by decide +kernel)
theorem dX9_counts_55 : decode cX9_counts 55 = .ok (.iload_n 1, 1) := p_27 ndcX9_counts_0 (by decide +kernel)
theorem dX9_counts_56 : decode cX9_counts 56 = .ok (.if_icmp .ge 65, 3) := p_162 ndcX9_counts_0 65 (by decide +kernel) (by decide +kernel)
theorem dX9_counts_59 : decode cX9_counts 59 = .ok (.aload_n 0, 1) := p_42 ndcX9_counts_0 (by decide +kernel)
theorem dX9_counts_60 : decode cX9_counts 60 = .ok (.getfield 7, 3) := p_180 ndcX9_counts_0 (by decide +kernel)
theorem dX9_counts_63 : decode cX9_counts 63 = .ok (.aload_n 0, 1) := p_42 ndcX9_counts_0 (by decide +kernel)
def nkcX9_counts_1 : List Nat := [180, 0, 164, 51, 184, 0, 190, 153, 0, 50, 42, 16, 10, 42, 180, 0, 184, 104, 42, 180, 0, 7, 42, 180, 0, 164, 51, 96, 16, 48, 100, 181, 0, 184, 42, 42, 180, 0, 187, 4, 96, 181, 0, 187, 42, 42, 180, 0, 164, 4, 96, 181, 0, 164, 167, 255, 178, 27, 4, 164, 0, 39, 42, 180, 0, 164]
theorem ndcX9_counts_1 : ((cX9_counts.data.toList.drop 64).take 66).map UInt8.toNat = nkcX9_counts_1 := by decide +kernel
theorem dX9_counts_64 : decode cX9_counts 64 = .ok (.getfield 164, 3) := p_180 ndcX9_counts_1 (by decide +kernel)
theorem dX9_counts_67 : decode cX9_counts 67 = .ok (.baload, 1) := p_51 ndcX9_counts_1 (by decide +kernel)
theorem dX9_counts_68 : decode cX9_counts 68 = .ok (.invokestatic 190, 3) := p_184 ndcX9_counts_1 (by decide +kernel)
theorem dX9_counts_71 : decode cX9_counts 71 = .ok (.ifCond .eq 50, 3) := p_153 ndcX9_counts_1 50 (by decide +kernel) (by decide +kernel)
theorem dX9_counts_74 : decode cX9_counts 74 = .ok (.aload_n 0, 1) := p_42 ndcX9_counts_1 (by decide +kernel)
theorem dX9_counts_75 : decode cX9_counts 75 = .ok (.bipush 10, 2) := p_16 ndcX9_counts_1 10 (by decide +kernel) (by decide +kernel)
theorem dX9_counts_77 : decode cX9_counts 77 = .ok (.aload_n 0, 1) := p_42 ndcX9_counts_1 (by decide +kernel)
theorem dX9_counts_78 : decode cX9_counts 78 = .ok (.getfield 184, 3) := p_180 ndcX9_counts_1 (by decide +kernel)
theorem dX9_counts_81 : decode cX9_counts 81 = .ok (.imul, 1) := p_104 ndcX9_counts_1 (by decide +kernel)
theorem dX9_counts_82 : decode cX9_counts 82 = .ok (.aload_n 0, 1) := p_42 ndcX9_counts_1 (by decide +kernel)
theorem dX9_counts_83 : decode cX9_counts 83 = .ok (.getfield 7, 3) := p_180 ndcX9_counts_1 (by decide +kernel)
theorem dX9_counts_86 : decode cX9_counts 86 = .ok (.aload_n 0, 1) := p_42 ndcX9_counts_1 (by decide +kernel)
theorem dX9_counts_87 : decode cX9_counts 87 = .ok (.getfield 164, 3) := p_180 ndcX9_counts_1 (by decide +kernel)
theorem dX9_counts_90 : decode cX9_counts 90 = .ok (.baload, 1) := p_51 ndcX9_counts_1 (by decide +kernel)
theorem dX9_counts_91 : decode cX9_counts 91 = .ok (.iadd, 1) := p_96 ndcX9_counts_1 (by decide +kernel)
theorem dX9_counts_92 : decode cX9_counts 92 = .ok (.bipush 48, 2) := p_16 ndcX9_counts_1 48 (by decide +kernel) (by decide +kernel)
theorem dX9_counts_94 : decode cX9_counts 94 = .ok (.isub, 1) := p_100 ndcX9_counts_1 (by decide +kernel)
theorem dX9_counts_95 : decode cX9_counts 95 = .ok (.putfield 184, 3) := p_181 ndcX9_counts_1 (by decide +kernel)
theorem dX9_counts_98 : decode cX9_counts 98 = .ok (.aload_n 0, 1) := p_42 ndcX9_counts_1 (by decide +kernel)
theorem dX9_counts_99 : decode cX9_counts 99 = .ok (.aload_n 0, 1) := p_42 ndcX9_counts_1 (by decide +kernel)
theorem dX9_counts_100 : decode cX9_counts 100 = .ok (.getfield 187, 3) := p_180 ndcX9_counts_1 (by decide +kernel)
theorem dX9_counts_103 : decode cX9_counts 103 = .ok (.iconst 1, 1) := p_4 ndcX9_counts_1 (by decide +kernel)
theorem dX9_counts_104 : decode cX9_counts 104 = .ok (.iadd, 1) := p_96 ndcX9_counts_1 (by decide +kernel)
theorem dX9_counts_105 : decode cX9_counts 105 = .ok (.putfield 187, 3) := p_181 ndcX9_counts_1 (by decide +kernel)
theorem dX9_counts_108 : decode cX9_counts 108 = .ok (.aload_n 0, 1) := p_42 ndcX9_counts_1 (by decide +kernel)
theorem dX9_counts_109 : decode cX9_counts 109 = .ok (.aload_n 0, 1) := p_42 ndcX9_counts_1 (by decide +kernel)
theorem dX9_counts_110 : decode cX9_counts 110 = .ok (.getfield 164, 3) := p_180 ndcX9_counts_1 (by decide +kernel)
theorem dX9_counts_113 : decode cX9_counts 113 = .ok (.iconst 1, 1) := p_4 ndcX9_counts_1 (by decide +kernel)
theorem dX9_counts_114 : decode cX9_counts 114 = .ok (.iadd, 1) := p_96 ndcX9_counts_1 (by decide +kernel)
theorem dX9_counts_115 : decode cX9_counts 115 = .ok (.putfield 164, 3) := p_181 ndcX9_counts_1 (by decide +kernel)
theorem dX9_counts_118 : decode cX9_counts 118 = .ok (.goto (-78), 3) := p_167 ndcX9_counts_1 65458 (by decide +kernel) (by decide +kernel)
theorem dX9_counts_121 : decode cX9_counts 121 = .ok (.iload_n 1, 1) := p_27 ndcX9_counts_1 (by decide +kernel)
theorem dX9_counts_122 : decode cX9_counts 122 = .ok (.iconst 1, 1) := p_4 ndcX9_counts_1 (by decide +kernel)
theorem dX9_counts_123 : decode cX9_counts 123 = .ok (.if_icmp .le 39, 3) := p_164 ndcX9_counts_1 39 (by decide +kernel) (by decide +kernel)
theorem dX9_counts_126 : decode cX9_counts 126 = .ok (.aload_n 0, 1) := p_42 ndcX9_counts_1 (by decide +kernel)
theorem dX9_counts_127 : decode cX9_counts 127 = .ok (.getfield 164, 3) := p_180 ndcX9_counts_1 (by decide +kernel)
def nkcX9_counts_2 : List Nat := [0, 164, 42, 180, 0, 167, 162, 0, 28, 42, 180, 0, 7, 42, 180, 0, 164, 51, 184, 0, 190, 153, 0, 13, 42, 5, 42, 180, 0, 164, 182, 0, 193, 172, 4, 172]
theorem ndcX9_counts_2 : ((cX9_counts.data.toList.drop 128).take 66).map UInt8.toNat = nkcX9_counts_2 := by decide +kernel
theorem dX9_counts_130 : decode cX9_counts 130 = .ok (.aload_n 0, 1) := p_42 ndcX9_counts_2 (by decide +kernel)
theorem dX9_counts_131 : decode cX9_counts 131 = .ok (.getfield 167, 3) := p_180 ndcX9_counts_2 (by decide +kernel)
theorem dX9_counts_134 : decode cX9_counts 134 = .ok (.if_icmp .ge 28, 3) := p_162 ndcX9_counts_2 28 (by decide +kernel) (by decide +kernel)
theorem dX9_counts_137 : decode cX9_counts 137 = .ok (.aload_n 0, 1) := p_42 ndcX9_counts_2 (by decide +kernel)
theorem dX9_counts_138 : decode cX9_counts 138 = .ok (.getfield 7, 3) := p_180 ndcX9_counts_2 (by decide +kernel)
theorem dX9_counts_141 : decode cX9_counts 141 = .ok (.aload_n 0, 1) := p_42 ndcX9_counts_2 (by decide +kernel)
theorem dX9_counts_142 : decode cX9_counts 142 = .ok (.getfield 164, 3) := p_180 ndcX9_counts_2 (by decide +kernel)
theorem dX9_counts_145 : decode cX9_counts 145 = .ok (.baload, 1) := p_51 ndcX9_counts_2 (by decide +kernel)
theorem dX9_counts_146 : decode cX9_counts 146 = .ok (.invokestatic 190, 3) := p_184 ndcX9_counts_2 (by decide +kernel)
theorem dX9_counts_149 : decode cX9_counts 149 = .ok (.ifCond .eq 13, 3) := p_153 ndcX9_counts_2 13 (by decide +kernel) (by decide +kernel)
theorem dX9_counts_152 : decode cX9_counts 152 = .ok (.aload_n 0, 1) := p_42 ndcX9_counts_2 (by decide +kernel)
theorem dX9_counts_153 : decode cX9_counts 153 = .ok (.iconst 2, 1) := p_5 ndcX9_counts_2 (by decide +kernel)
theorem dX9_counts_154 : decode cX9_counts 154 = .ok (.aload_n 0, 1) := p_42 ndcX9_counts_2 (by decide +kernel)
theorem dX9_counts_155 : decode cX9_counts 155 = .ok (.getfield 164, 3) := p_180 ndcX9_counts_2 (by decide +kernel)
theorem dX9_counts_158 : decode cX9_counts 158 = .ok (.invokevirtual 193, 3) := p_182 ndcX9_counts_2 (by decide +kernel)
theorem dX9_counts_161 : decode cX9_counts 161 = .ok (.ireturn, 1) := p_172 ndcX9_counts_2 (by decide +kernel)
theorem dX9_counts_162 : decode cX9_counts 162 = .ok (.iconst 1, 1) := p_4 ndcX9_counts_2 (by decide +kernel)
theorem dX9_counts_163 : decode cX9_counts 163 = .ok (.ireturn, 1) := p_172 ndcX9_counts_2 (by decide +kernel)
def nkcX9_reads_0 : List Nat := [42, 27, 182, 0, 196, 154, 0, 5, 3, 172, 42, 180, 0, 184, 133, 28, 133, 29, 133, 184, 0, 60, 154, 0, 15, 42, 6, 42, 180, 0, 181, 182, 0, 193, 153, 0, 7, 4, 167, 0, 4, 3, 172]
theorem ndcX9_reads_0 : ((cX9_reads.data.toList.drop 0).take 66).map UInt8.toNat = nkcX9_reads_0 := by decide +kernel
theorem dX9_reads_0 : decode cX9_reads 0 = .ok (.aload_n 0, 1) := p_42 ndcX9_reads_0 (by decide +kernel)
theorem dX9_reads_1 : decode cX9_reads 1 = .ok (.iload_n 1, 1) := p_27 ndcX9_reads_0 (by decide +kernel)
theorem dX9_reads_2 : decode cX9_reads 2 = .ok (.invokevirtual 196, 3) := p_182 ndcX9_reads_0 (by decide +kernel)
theorem dX9_reads_5 : decode cX9_reads 5 = .ok (.ifCond .ne 5, 3) := p_154 ndcX9_reads_0 5 (by decide +kernel) (by decide +kernel)
theorem dX9_reads_8 : decode cX9_reads 8 = .ok (.iconst 0, 1) := p_3 ndcX9_reads_0 (by decide +kernel)
theorem dX9_reads_9 : decode cX9_reads 9 = .ok (.ireturn, 1) := p_172 ndcX9_reads_0 (by decide +kernel)
theorem dX9_reads_10 : decode cX9_reads 10 = .ok (.aload_n 0, 1) := p_42 ndcX9_reads_0 (by decide +kernel)
theorem dX9_reads_11 : decode cX9_reads 11 = .ok (.getfield 184, 3) := p_180 ndcX9_reads_0 (by decide +kernel)
theorem dX9_reads_14 : decode cX9_reads 14 = .ok (.i2l, 1) := p_133 ndcX9_reads_0 (by decide +kernel)
theorem dX9_reads_15 : decode cX9_reads 15 = .ok (.iload_n 2, 1) := p_28 ndcX9_reads_0 (by decide +kernel)
theorem dX9_reads_16 : decode cX9_reads 16 = .ok (.i2l, 1) := p_133 ndcX9_reads_0 (by decide +kernel)
theorem dX9_reads_17 : decode cX9_reads 17 = .ok (.iload_n 3, 1) := p_29 ndcX9_reads_0 (by decide +kernel)
theorem dX9_reads_18 : decode cX9_reads 18 = .ok (.i2l, 1) := p_133 ndcX9_reads_0 (by decide +kernel)
theorem dX9_reads_19 : decode cX9_reads 19 = .ok (.invokestatic 60, 3) := p_184 ndcX9_reads_0 (by decide +kernel)
theorem dX9_reads_22 : decode cX9_reads 22 = .ok (.ifCond .ne 15, 3) := p_154 ndcX9_reads_0 15 (by decide +kernel) (by decide +kernel)
theorem dX9_reads_25 : decode cX9_reads 25 = .ok (.aload_n 0, 1) := p_42 ndcX9_reads_0 (by decide +kernel)
theorem dX9_reads_26 : decode cX9_reads 26 = .ok (.iconst 3, 1) := p_6 ndcX9_reads_0 (by decide +kernel)
theorem dX9_reads_27 : decode cX9_reads 27 = .ok (.aload_n 0, 1) := p_42 ndcX9_reads_0 (by decide +kernel)
theorem dX9_reads_28 : decode cX9_reads 28 = .ok (.getfield 181, 3) := p_180 ndcX9_reads_0 (by decide +kernel)
theorem dX9_reads_31 : decode cX9_reads 31 = .ok (.invokevirtual 193, 3) := p_182 ndcX9_reads_0 (by decide +kernel)
theorem dX9_reads_34 : decode cX9_reads 34 = .ok (.ifCond .eq 7, 3) := p_153 ndcX9_reads_0 7 (by decide +kernel) (by decide +kernel)
theorem dX9_reads_37 : decode cX9_reads 37 = .ok (.iconst 1, 1) := p_4 ndcX9_reads_0 (by decide +kernel)
theorem dX9_reads_38 : decode cX9_reads 38 = .ok (.goto 4, 3) := p_167 ndcX9_reads_0 4 (by decide +kernel) (by decide +kernel)
theorem dX9_reads_41 : decode cX9_reads 41 = .ok (.iconst 0, 1) := p_3 ndcX9_reads_0 (by decide +kernel)
theorem dX9_reads_42 : decode cX9_reads 42 = .ok (.ireturn, 1) := p_172 ndcX9_reads_0 (by decide +kernel)
def nkcX9_passes_0 : List Nat := [42, 180, 0, 170, 153, 0, 5, 3, 172, 42, 182, 0, 177, 27, 159, 0, 13, 42, 4, 42, 180, 0, 164, 182, 0, 193, 172, 42, 42, 180, 0, 164, 4, 96, 181, 0, 164, 4, 172]
theorem ndcX9_passes_0 : ((cX9_passes.data.toList.drop 0).take 66).map UInt8.toNat = nkcX9_passes_0 := by decide +kernel
theorem dX9_passes_0 : decode cX9_passes 0 = .ok (.aload_n 0, 1) := p_42 ndcX9_passes_0 (by decide +kernel)
theorem dX9_passes_1 : decode cX9_passes 1 = .ok (.getfield 170, 3) := p_180 ndcX9_passes_0 (by decide +kernel)
theorem dX9_passes_4 : decode cX9_passes 4 = .ok (.ifCond .eq 5, 3) := p_153 ndcX9_passes_0 5 (by decide +kernel) (by decide +kernel)
theorem dX9_passes_7 : decode cX9_passes 7 = .ok (.iconst 0, 1) := p_3 ndcX9_passes_0 (by decide +kernel)
theorem dX9_passes_8 : decode cX9_passes 8 = .ok (.ireturn, 1) := p_172 ndcX9_passes_0 (by decide +kernel)
theorem dX9_passes_9 : decode cX9_passes 9 = .ok (.aload_n 0, 1) := p_42 ndcX9_passes_0 (by decide +kernel)
theorem dX9_passes_10 : decode cX9_passes 10 = .ok (.invokevirtual 177, 3) := p_182 ndcX9_passes_0 (by decide +kernel)
theorem dX9_passes_13 : decode cX9_passes 13 = .ok (.iload_n 1, 1) := p_27 ndcX9_passes_0 (by decide +kernel)
theorem dX9_passes_14 : decode cX9_passes 14 = .ok (.if_icmp .eq 13, 3) := p_159 ndcX9_passes_0 13 (by decide +kernel) (by decide +kernel)
theorem dX9_passes_17 : decode cX9_passes 17 = .ok (.aload_n 0, 1) := p_42 ndcX9_passes_0 (by decide +kernel)
theorem dX9_passes_18 : decode cX9_passes 18 = .ok (.iconst 1, 1) := p_4 ndcX9_passes_0 (by decide +kernel)
theorem dX9_passes_19 : decode cX9_passes 19 = .ok (.aload_n 0, 1) := p_42 ndcX9_passes_0 (by decide +kernel)
theorem dX9_passes_20 : decode cX9_passes 20 = .ok (.getfield 164, 3) := p_180 ndcX9_passes_0 (by decide +kernel)
theorem dX9_passes_23 : decode cX9_passes 23 = .ok (.invokevirtual 193, 3) := p_182 ndcX9_passes_0 (by decide +kernel)
theorem dX9_passes_26 : decode cX9_passes 26 = .ok (.ireturn, 1) := p_172 ndcX9_passes_0 (by decide +kernel)
theorem dX9_passes_27 : decode cX9_passes 27 = .ok (.aload_n 0, 1) := p_42 ndcX9_passes_0 (by decide +kernel)
theorem dX9_passes_28 : decode cX9_passes 28 = .ok (.aload_n 0, 1) := p_42 ndcX9_passes_0 (by decide +kernel)
theorem dX9_passes_29 : decode cX9_passes 29 = .ok (.getfield 164, 3) := p_180 ndcX9_passes_0 (by decide +kernel)
theorem dX9_passes_32 : decode cX9_passes 32 = .ok (.iconst 1, 1) := p_4 ndcX9_passes_0 (by decide +kernel)
theorem dX9_passes_33 : decode cX9_passes 33 = .ok (.iadd, 1) := p_96 ndcX9_passes_0 (by decide +kernel)
theorem dX9_passes_34 : decode cX9_passes 34 = .ok (.putfield 164, 3) := p_181 ndcX9_passes_0 (by decide +kernel)
theorem dX9_passes_37 : decode cX9_passes 37 = .ok (.iconst 1, 1) := p_4 ndcX9_passes_0 (by decide +kernel)
theorem dX9_passes_38 : decode cX9_passes 38 = .ok (.ireturn, 1) := p_172 ndcX9_passes_0 (by decide +kernel)
def nkcX9_readsCoupon_0 : List Nat := [42, 16, 7, 182, 0, 196, 154, 0, 4, 177, 42, 180, 0, 187, 4, 160, 0, 16, 42, 182, 0, 177, 16, 58, 160, 0, 7, 4, 167, 0, 4, 3, 60, 42, 180, 0, 184, 61, 27, 153, 0, 62, 28, 133, 10, 20, 0, 72, 184, 0, 60, 154, 0, 14, 42, 6, 42, 180, 0, 181, 182, 0, 193, 87, 177, 42]
theorem ndcX9_readsCoupon_0 : ((cX9_readsCoupon.data.toList.drop 0).take 66).map UInt8.toNat = nkcX9_readsCoupon_0 := by decide +kernel
theorem dX9_readsCoupon_0 : decode cX9_readsCoupon 0 = .ok (.aload_n 0, 1) := p_42 ndcX9_readsCoupon_0 (by decide +kernel)
theorem dX9_readsCoupon_1 : decode cX9_readsCoupon 1 = .ok (.bipush 7, 2) := p_16 ndcX9_readsCoupon_0 7 (by decide +kernel) (by decide +kernel)
theorem dX9_readsCoupon_3 : decode cX9_readsCoupon 3 = .ok (.invokevirtual 196, 3) := p_182 ndcX9_readsCoupon_0 (by decide +kernel)
theorem dX9_readsCoupon_6 : decode cX9_readsCoupon 6 = .ok (.ifCond .ne 4, 3) := p_154 ndcX9_readsCoupon_0 4 (by decide +kernel) (by decide +kernel)
theorem dX9_readsCoupon_9 : decode cX9_readsCoupon 9 = .ok (.return_, 1) := p_177 ndcX9_readsCoupon_0 (by decide +kernel)
theorem dX9_readsCoupon_10 : decode cX9_readsCoupon 10 = .ok (.aload_n 0, 1) := p_42 ndcX9_readsCoupon_0 (by decide +kernel)
theorem dX9_readsCoupon_11 : decode cX9_readsCoupon 11 = .ok (.getfield 187, 3) := p_180 ndcX9_readsCoupon_0 (by decide +kernel)
theorem dX9_readsCoupon_14 : decode cX9_readsCoupon 14 = .ok (.iconst 1, 1) := p_4 ndcX9_readsCoupon_0 (by decide +kernel)
theorem dX9_readsCoupon_15 : decode cX9_readsCoupon 15 = .ok (.if_icmp .ne 16, 3) := p_160 ndcX9_readsCoupon_0 16 (by decide +kernel) (by decide +kernel)
theorem dX9_readsCoupon_18 : decode cX9_readsCoupon 18 = .ok (.aload_n 0, 1) := p_42 ndcX9_readsCoupon_0 (by decide +kernel)
theorem dX9_readsCoupon_19 : decode cX9_readsCoupon 19 = .ok (.invokevirtual 177, 3) := p_182 ndcX9_readsCoupon_0 (by decide +kernel)
theorem dX9_readsCoupon_22 : decode cX9_readsCoupon 22 = .ok (.bipush 58, 2) := p_16 ndcX9_readsCoupon_0 58 (by decide +kernel) (by decide +kernel)
theorem dX9_readsCoupon_24 : decode cX9_readsCoupon 24 = .ok (.if_icmp .ne 7, 3) := p_160 ndcX9_readsCoupon_0 7 (by decide +kernel) (by decide +kernel)
theorem dX9_readsCoupon_27 : decode cX9_readsCoupon 27 = .ok (.iconst 1, 1) := p_4 ndcX9_readsCoupon_0 (by decide +kernel)
theorem dX9_readsCoupon_28 : decode cX9_readsCoupon 28 = .ok (.goto 4, 3) := p_167 ndcX9_readsCoupon_0 4 (by decide +kernel) (by decide +kernel)
theorem dX9_readsCoupon_31 : decode cX9_readsCoupon 31 = .ok (.iconst 0, 1) := p_3 ndcX9_readsCoupon_0 (by decide +kernel)
theorem dX9_readsCoupon_32 : decode cX9_readsCoupon 32 = .ok (.istore_n 1, 1) := p_60 ndcX9_readsCoupon_0 (by decide +kernel)
theorem dX9_readsCoupon_33 : decode cX9_readsCoupon 33 = .ok (.aload_n 0, 1) := p_42 ndcX9_readsCoupon_0 (by decide +kernel)
theorem dX9_readsCoupon_34 : decode cX9_readsCoupon 34 = .ok (.getfield 184, 3) := p_180 ndcX9_readsCoupon_0 (by decide +kernel)
theorem dX9_readsCoupon_37 : decode cX9_readsCoupon 37 = .ok (.istore_n 2, 1) := p_61 ndcX9_readsCoupon_0 (by decide +kernel)
theorem dX9_readsCoupon_38 : decode cX9_readsCoupon 38 = .ok (.iload_n 1, 1) := p_27 ndcX9_readsCoupon_0 (by decide +kernel)
theorem dX9_readsCoupon_39 : decode cX9_readsCoupon 39 = .ok (.ifCond .eq 62, 3) := p_153 ndcX9_readsCoupon_0 62 (by decide +kernel) (by decide +kernel)
theorem dX9_readsCoupon_42 : decode cX9_readsCoupon 42 = .ok (.iload_n 2, 1) := p_28 ndcX9_readsCoupon_0 (by decide +kernel)
theorem dX9_readsCoupon_43 : decode cX9_readsCoupon 43 = .ok (.i2l, 1) := p_133 ndcX9_readsCoupon_0 (by decide +kernel)
theorem dX9_readsCoupon_44 : decode cX9_readsCoupon 44 = .ok (.lconst 1, 1) := p_10 ndcX9_readsCoupon_0 (by decide +kernel)
theorem dX9_readsCoupon_45 : decode cX9_readsCoupon 45 = .ok (.ldc2_w 72, 3) := p_20 ndcX9_readsCoupon_0 (by decide +kernel)
theorem dX9_readsCoupon_48 : decode cX9_readsCoupon 48 = .ok (.invokestatic 60, 3) := p_184 ndcX9_readsCoupon_0 (by decide +kernel)
theorem dX9_readsCoupon_51 : decode cX9_readsCoupon 51 = .ok (.ifCond .ne 14, 3) := p_154 ndcX9_readsCoupon_0 14 (by decide +kernel) (by decide +kernel)
theorem dX9_readsCoupon_54 : decode cX9_readsCoupon 54 = .ok (.aload_n 0, 1) := p_42 ndcX9_readsCoupon_0 (by decide +kernel)
theorem dX9_readsCoupon_55 : decode cX9_readsCoupon 55 = .ok (.iconst 3, 1) := p_6 ndcX9_readsCoupon_0 (by decide +kernel)
theorem dX9_readsCoupon_56 : decode cX9_readsCoupon 56 = .ok (.aload_n 0, 1) := p_42 ndcX9_readsCoupon_0 (by decide +kernel)
theorem dX9_readsCoupon_57 : decode cX9_readsCoupon 57 = .ok (.getfield 181, 3) := p_180 ndcX9_readsCoupon_0 (by decide +kernel)
theorem dX9_readsCoupon_60 : decode cX9_readsCoupon 60 = .ok (.invokevirtual 193, 3) := p_182 ndcX9_readsCoupon_0 (by decide +kernel)
theorem dX9_readsCoupon_63 : decode cX9_readsCoupon 63 = .ok (.pop, 1) := p_87 ndcX9_readsCoupon_0 (by decide +kernel)
def nkcX9_readsCoupon_1 : List Nat := [177, 42, 42, 180, 0, 164, 4, 96, 181, 0, 164, 42, 16, 7, 3, 17, 3, 232, 182, 0, 199, 153, 0, 15, 42, 6, 5, 28, 96, 42, 180, 0, 184, 182, 0, 54, 177, 42, 180, 0, 184, 133, 9, 20, 0, 74, 184, 0, 60, 154, 0, 14, 42, 6, 42, 180, 0, 181, 182, 0, 193, 87, 177, 4, 62, 29]
theorem ndcX9_readsCoupon_1 : ((cX9_readsCoupon.data.toList.drop 64).take 66).map UInt8.toNat = nkcX9_readsCoupon_1 := by decide +kernel
theorem dX9_readsCoupon_64 : decode cX9_readsCoupon 64 = .ok (.return_, 1) := p_177 ndcX9_readsCoupon_1 (by decide +kernel)
theorem dX9_readsCoupon_65 : decode cX9_readsCoupon 65 = .ok (.aload_n 0, 1) := p_42 ndcX9_readsCoupon_1 (by decide +kernel)
theorem dX9_readsCoupon_66 : decode cX9_readsCoupon 66 = .ok (.aload_n 0, 1) := p_42 ndcX9_readsCoupon_1 (by decide +kernel)
theorem dX9_readsCoupon_67 : decode cX9_readsCoupon 67 = .ok (.getfield 164, 3) := p_180 ndcX9_readsCoupon_1 (by decide +kernel)
theorem dX9_readsCoupon_70 : decode cX9_readsCoupon 70 = .ok (.iconst 1, 1) := p_4 ndcX9_readsCoupon_1 (by decide +kernel)
theorem dX9_readsCoupon_71 : decode cX9_readsCoupon 71 = .ok (.iadd, 1) := p_96 ndcX9_readsCoupon_1 (by decide +kernel)
theorem dX9_readsCoupon_72 : decode cX9_readsCoupon 72 = .ok (.putfield 164, 3) := p_181 ndcX9_readsCoupon_1 (by decide +kernel)
theorem dX9_readsCoupon_75 : decode cX9_readsCoupon 75 = .ok (.aload_n 0, 1) := p_42 ndcX9_readsCoupon_1 (by decide +kernel)
theorem dX9_readsCoupon_76 : decode cX9_readsCoupon 76 = .ok (.bipush 7, 2) := p_16 ndcX9_readsCoupon_1 7 (by decide +kernel) (by decide +kernel)
theorem dX9_readsCoupon_78 : decode cX9_readsCoupon 78 = .ok (.iconst 0, 1) := p_3 ndcX9_readsCoupon_1 (by decide +kernel)
theorem dX9_readsCoupon_79 : decode cX9_readsCoupon 79 = .ok (.sipush 1000, 3) := p_17 ndcX9_readsCoupon_1 1000 (by decide +kernel) (by decide +kernel)
theorem dX9_readsCoupon_82 : decode cX9_readsCoupon 82 = .ok (.invokevirtual 199, 3) := p_182 ndcX9_readsCoupon_1 (by decide +kernel)
theorem dX9_readsCoupon_85 : decode cX9_readsCoupon 85 = .ok (.ifCond .eq 15, 3) := p_153 ndcX9_readsCoupon_1 15 (by decide +kernel) (by decide +kernel)
theorem dX9_readsCoupon_88 : decode cX9_readsCoupon 88 = .ok (.aload_n 0, 1) := p_42 ndcX9_readsCoupon_1 (by decide +kernel)
theorem dX9_readsCoupon_89 : decode cX9_readsCoupon 89 = .ok (.iconst 3, 1) := p_6 ndcX9_readsCoupon_1 (by decide +kernel)
theorem dX9_readsCoupon_90 : decode cX9_readsCoupon 90 = .ok (.iconst 2, 1) := p_5 ndcX9_readsCoupon_1 (by decide +kernel)
theorem dX9_readsCoupon_91 : decode cX9_readsCoupon 91 = .ok (.iload_n 2, 1) := p_28 ndcX9_readsCoupon_1 (by decide +kernel)
theorem dX9_readsCoupon_92 : decode cX9_readsCoupon 92 = .ok (.iadd, 1) := p_96 ndcX9_readsCoupon_1 (by decide +kernel)
theorem dX9_readsCoupon_93 : decode cX9_readsCoupon 93 = .ok (.aload_n 0, 1) := p_42 ndcX9_readsCoupon_1 (by decide +kernel)
theorem dX9_readsCoupon_94 : decode cX9_readsCoupon 94 = .ok (.getfield 184, 3) := p_180 ndcX9_readsCoupon_1 (by decide +kernel)
theorem dX9_readsCoupon_97 : decode cX9_readsCoupon 97 = .ok (.invokevirtual 54, 3) := p_182 ndcX9_readsCoupon_1 (by decide +kernel)
theorem dX9_readsCoupon_100 : decode cX9_readsCoupon 100 = .ok (.return_, 1) := p_177 ndcX9_readsCoupon_1 (by decide +kernel)
theorem dX9_readsCoupon_101 : decode cX9_readsCoupon 101 = .ok (.aload_n 0, 1) := p_42 ndcX9_readsCoupon_1 (by decide +kernel)
theorem dX9_readsCoupon_102 : decode cX9_readsCoupon 102 = .ok (.getfield 184, 3) := p_180 ndcX9_readsCoupon_1 (by decide +kernel)
theorem dX9_readsCoupon_105 : decode cX9_readsCoupon 105 = .ok (.i2l, 1) := p_133 ndcX9_readsCoupon_1 (by decide +kernel)
theorem dX9_readsCoupon_106 : decode cX9_readsCoupon 106 = .ok (.lconst 0, 1) := p_9 ndcX9_readsCoupon_1 (by decide +kernel)
theorem dX9_readsCoupon_107 : decode cX9_readsCoupon 107 = .ok (.ldc2_w 74, 3) := p_20 ndcX9_readsCoupon_1 (by decide +kernel)
theorem dX9_readsCoupon_110 : decode cX9_readsCoupon 110 = .ok (.invokestatic 60, 3) := p_184 ndcX9_readsCoupon_1 (by decide +kernel)
theorem dX9_readsCoupon_113 : decode cX9_readsCoupon 113 = .ok (.ifCond .ne 14, 3) := p_154 ndcX9_readsCoupon_1 14 (by decide +kernel) (by decide +kernel)
theorem dX9_readsCoupon_116 : decode cX9_readsCoupon 116 = .ok (.aload_n 0, 1) := p_42 ndcX9_readsCoupon_1 (by decide +kernel)
theorem dX9_readsCoupon_117 : decode cX9_readsCoupon 117 = .ok (.iconst 3, 1) := p_6 ndcX9_readsCoupon_1 (by decide +kernel)
theorem dX9_readsCoupon_118 : decode cX9_readsCoupon 118 = .ok (.aload_n 0, 1) := p_42 ndcX9_readsCoupon_1 (by decide +kernel)
theorem dX9_readsCoupon_119 : decode cX9_readsCoupon 119 = .ok (.getfield 181, 3) := p_180 ndcX9_readsCoupon_1 (by decide +kernel)
theorem dX9_readsCoupon_122 : decode cX9_readsCoupon 122 = .ok (.invokevirtual 193, 3) := p_182 ndcX9_readsCoupon_1 (by decide +kernel)
theorem dX9_readsCoupon_125 : decode cX9_readsCoupon 125 = .ok (.pop, 1) := p_87 ndcX9_readsCoupon_1 (by decide +kernel)
theorem dX9_readsCoupon_126 : decode cX9_readsCoupon 126 = .ok (.return_, 1) := p_177 ndcX9_readsCoupon_1 (by decide +kernel)
theorem dX9_readsCoupon_127 : decode cX9_readsCoupon 127 = .ok (.iconst 1, 1) := p_4 ndcX9_readsCoupon_1 (by decide +kernel)
def nkcX9_readsCoupon_2 : List Nat := [62, 29, 16, 6, 163, 0, 21, 42, 6, 5, 29, 96, 42, 180, 0, 184, 182, 0, 54, 132, 3, 1, 167, 255, 235, 177]
theorem ndcX9_readsCoupon_2 : ((cX9_readsCoupon.data.toList.drop 128).take 66).map UInt8.toNat = nkcX9_readsCoupon_2 := by decide +kernel
theorem dX9_readsCoupon_128 : decode cX9_readsCoupon 128 = .ok (.istore_n 3, 1) := p_62 ndcX9_readsCoupon_2 (by decide +kernel)
theorem dX9_readsCoupon_129 : decode cX9_readsCoupon 129 = .ok (.iload_n 3, 1) := p_29 ndcX9_readsCoupon_2 (by decide +kernel)
theorem dX9_readsCoupon_130 : decode cX9_readsCoupon 130 = .ok (.bipush 6, 2) := p_16 ndcX9_readsCoupon_2 6 (by decide +kernel) (by decide +kernel)
theorem dX9_readsCoupon_132 : decode cX9_readsCoupon 132 = .ok (.if_icmp .gt 21, 3) := p_163 ndcX9_readsCoupon_2 21 (by decide +kernel) (by decide +kernel)
theorem dX9_readsCoupon_135 : decode cX9_readsCoupon 135 = .ok (.aload_n 0, 1) := p_42 ndcX9_readsCoupon_2 (by decide +kernel)
theorem dX9_readsCoupon_136 : decode cX9_readsCoupon 136 = .ok (.iconst 3, 1) := p_6 ndcX9_readsCoupon_2 (by decide +kernel)
theorem dX9_readsCoupon_137 : decode cX9_readsCoupon 137 = .ok (.iconst 2, 1) := p_5 ndcX9_readsCoupon_2 (by decide +kernel)
theorem dX9_readsCoupon_138 : decode cX9_readsCoupon 138 = .ok (.iload_n 3, 1) := p_29 ndcX9_readsCoupon_2 (by decide +kernel)
theorem dX9_readsCoupon_139 : decode cX9_readsCoupon 139 = .ok (.iadd, 1) := p_96 ndcX9_readsCoupon_2 (by decide +kernel)
theorem dX9_readsCoupon_140 : decode cX9_readsCoupon 140 = .ok (.aload_n 0, 1) := p_42 ndcX9_readsCoupon_2 (by decide +kernel)
theorem dX9_readsCoupon_141 : decode cX9_readsCoupon 141 = .ok (.getfield 184, 3) := p_180 ndcX9_readsCoupon_2 (by decide +kernel)
theorem dX9_readsCoupon_144 : decode cX9_readsCoupon 144 = .ok (.invokevirtual 54, 3) := p_182 ndcX9_readsCoupon_2 (by decide +kernel)
theorem dX9_readsCoupon_147 : decode cX9_readsCoupon 147 = .ok (.iinc 3 1, 3) := by decide +kernel
theorem dX9_readsCoupon_150 : decode cX9_readsCoupon 150 = .ok (.goto (-21), 3) := p_167 ndcX9_readsCoupon_2 65515 (by decide +kernel) (by decide +kernel)
theorem dX9_readsCoupon_153 : decode cX9_readsCoupon 153 = .ok (.return_, 1) := p_177 ndcX9_readsCoupon_2 (by decide +kernel)
def nkcX9_readsPrice_0 : List Nat := [42, 4, 3, 8, 182, 0, 199, 154, 0, 4, 177, 42, 180, 0, 184, 61, 42, 16, 58, 182, 0, 203, 154, 0, 4, 177, 42, 182, 0, 177, 16, 45, 160, 0, 25, 42, 42, 180, 0, 164, 4, 96, 181, 0, 164, 42, 6, 27, 28, 96, 2, 182, 0, 54, 167, 0, 27, 42, 16, 7, 3, 18, 206, 182, 0, 199]
theorem ndcX9_readsPrice_0 : ((cX9_readsPrice.data.toList.drop 0).take 66).map UInt8.toNat = nkcX9_readsPrice_0 := by decide +kernel
theorem dX9_readsPrice_0 : decode cX9_readsPrice 0 = .ok (.aload_n 0, 1) := p_42 ndcX9_readsPrice_0 (by decide +kernel)
theorem dX9_readsPrice_1 : decode cX9_readsPrice 1 = .ok (.iconst 1, 1) := p_4 ndcX9_readsPrice_0 (by decide +kernel)
theorem dX9_readsPrice_2 : decode cX9_readsPrice 2 = .ok (.iconst 0, 1) := p_3 ndcX9_readsPrice_0 (by decide +kernel)
theorem dX9_readsPrice_3 : decode cX9_readsPrice 3 = .ok (.iconst 5, 1) := p_8 ndcX9_readsPrice_0 (by decide +kernel)
theorem dX9_readsPrice_4 : decode cX9_readsPrice 4 = .ok (.invokevirtual 199, 3) := p_182 ndcX9_readsPrice_0 (by decide +kernel)
theorem dX9_readsPrice_7 : decode cX9_readsPrice 7 = .ok (.ifCond .ne 4, 3) := p_154 ndcX9_readsPrice_0 4 (by decide +kernel) (by decide +kernel)
theorem dX9_readsPrice_10 : decode cX9_readsPrice 10 = .ok (.return_, 1) := p_177 ndcX9_readsPrice_0 (by decide +kernel)
theorem dX9_readsPrice_11 : decode cX9_readsPrice 11 = .ok (.aload_n 0, 1) := p_42 ndcX9_readsPrice_0 (by decide +kernel)
theorem dX9_readsPrice_12 : decode cX9_readsPrice 12 = .ok (.getfield 184, 3) := p_180 ndcX9_readsPrice_0 (by decide +kernel)
theorem dX9_readsPrice_15 : decode cX9_readsPrice 15 = .ok (.istore_n 2, 1) := p_61 ndcX9_readsPrice_0 (by decide +kernel)
theorem dX9_readsPrice_16 : decode cX9_readsPrice 16 = .ok (.aload_n 0, 1) := p_42 ndcX9_readsPrice_0 (by decide +kernel)
theorem dX9_readsPrice_17 : decode cX9_readsPrice 17 = .ok (.bipush 58, 2) := p_16 ndcX9_readsPrice_0 58 (by decide +kernel) (by decide +kernel)
theorem dX9_readsPrice_19 : decode cX9_readsPrice 19 = .ok (.invokevirtual 203, 3) := p_182 ndcX9_readsPrice_0 (by decide +kernel)
theorem dX9_readsPrice_22 : decode cX9_readsPrice 22 = .ok (.ifCond .ne 4, 3) := p_154 ndcX9_readsPrice_0 4 (by decide +kernel) (by decide +kernel)
theorem dX9_readsPrice_25 : decode cX9_readsPrice 25 = .ok (.return_, 1) := p_177 ndcX9_readsPrice_0 (by decide +kernel)
theorem dX9_readsPrice_26 : decode cX9_readsPrice 26 = .ok (.aload_n 0, 1) := p_42 ndcX9_readsPrice_0 (by decide +kernel)
theorem dX9_readsPrice_27 : decode cX9_readsPrice 27 = .ok (.invokevirtual 177, 3) := p_182 ndcX9_readsPrice_0 (by decide +kernel)
theorem dX9_readsPrice_30 : decode cX9_readsPrice 30 = .ok (.bipush 45, 2) := p_16 ndcX9_readsPrice_0 45 (by decide +kernel) (by decide +kernel)
theorem dX9_readsPrice_32 : decode cX9_readsPrice 32 = .ok (.if_icmp .ne 25, 3) := p_160 ndcX9_readsPrice_0 25 (by decide +kernel) (by decide +kernel)
theorem dX9_readsPrice_35 : decode cX9_readsPrice 35 = .ok (.aload_n 0, 1) := p_42 ndcX9_readsPrice_0 (by decide +kernel)
theorem dX9_readsPrice_36 : decode cX9_readsPrice 36 = .ok (.aload_n 0, 1) := p_42 ndcX9_readsPrice_0 (by decide +kernel)
theorem dX9_readsPrice_37 : decode cX9_readsPrice 37 = .ok (.getfield 164, 3) := p_180 ndcX9_readsPrice_0 (by decide +kernel)
theorem dX9_readsPrice_40 : decode cX9_readsPrice 40 = .ok (.iconst 1, 1) := p_4 ndcX9_readsPrice_0 (by decide +kernel)
theorem dX9_readsPrice_41 : decode cX9_readsPrice 41 = .ok (.iadd, 1) := p_96 ndcX9_readsPrice_0 (by decide +kernel)
theorem dX9_readsPrice_42 : decode cX9_readsPrice 42 = .ok (.putfield 164, 3) := p_181 ndcX9_readsPrice_0 (by decide +kernel)
theorem dX9_readsPrice_45 : decode cX9_readsPrice 45 = .ok (.aload_n 0, 1) := p_42 ndcX9_readsPrice_0 (by decide +kernel)
theorem dX9_readsPrice_46 : decode cX9_readsPrice 46 = .ok (.iconst 3, 1) := p_6 ndcX9_readsPrice_0 (by decide +kernel)
theorem dX9_readsPrice_47 : decode cX9_readsPrice 47 = .ok (.iload_n 1, 1) := p_27 ndcX9_readsPrice_0 (by decide +kernel)
theorem dX9_readsPrice_48 : decode cX9_readsPrice 48 = .ok (.iload_n 2, 1) := p_28 ndcX9_readsPrice_0 (by decide +kernel)
theorem dX9_readsPrice_49 : decode cX9_readsPrice 49 = .ok (.iadd, 1) := p_96 ndcX9_readsPrice_0 (by decide +kernel)
theorem dX9_readsPrice_50 : decode cX9_readsPrice 50 = .ok (.iconst (-1), 1) := p_2 ndcX9_readsPrice_0 (by decide +kernel)
theorem dX9_readsPrice_51 : decode cX9_readsPrice 51 = .ok (.invokevirtual 54, 3) := p_182 ndcX9_readsPrice_0 (by decide +kernel)
theorem dX9_readsPrice_54 : decode cX9_readsPrice 54 = .ok (.goto 27, 3) := p_167 ndcX9_readsPrice_0 27 (by decide +kernel) (by decide +kernel)
theorem dX9_readsPrice_57 : decode cX9_readsPrice 57 = .ok (.aload_n 0, 1) := p_42 ndcX9_readsPrice_0 (by decide +kernel)
theorem dX9_readsPrice_58 : decode cX9_readsPrice 58 = .ok (.bipush 7, 2) := p_16 ndcX9_readsPrice_0 7 (by decide +kernel) (by decide +kernel)
theorem dX9_readsPrice_60 : decode cX9_readsPrice 60 = .ok (.iconst 0, 1) := p_3 ndcX9_readsPrice_0 (by decide +kernel)
theorem dX9_readsPrice_61 : decode cX9_readsPrice 61 = .ok (.ldc 206, 2) := p_18 ndcX9_readsPrice_0 (by decide +kernel)
theorem dX9_readsPrice_63 : decode cX9_readsPrice 63 = .ok (.invokevirtual 199, 3) := p_182 ndcX9_readsPrice_0 (by decide +kernel)
def nkcX9_readsPrice_1 : List Nat := [0, 199, 153, 0, 15, 42, 6, 27, 28, 96, 42, 180, 0, 184, 182, 0, 54, 177]
theorem ndcX9_readsPrice_1 : ((cX9_readsPrice.data.toList.drop 64).take 66).map UInt8.toNat = nkcX9_readsPrice_1 := by decide +kernel
theorem dX9_readsPrice_66 : decode cX9_readsPrice 66 = .ok (.ifCond .eq 15, 3) := p_153 ndcX9_readsPrice_1 15 (by decide +kernel) (by decide +kernel)
theorem dX9_readsPrice_69 : decode cX9_readsPrice 69 = .ok (.aload_n 0, 1) := p_42 ndcX9_readsPrice_1 (by decide +kernel)
theorem dX9_readsPrice_70 : decode cX9_readsPrice 70 = .ok (.iconst 3, 1) := p_6 ndcX9_readsPrice_1 (by decide +kernel)
theorem dX9_readsPrice_71 : decode cX9_readsPrice 71 = .ok (.iload_n 1, 1) := p_27 ndcX9_readsPrice_1 (by decide +kernel)
theorem dX9_readsPrice_72 : decode cX9_readsPrice 72 = .ok (.iload_n 2, 1) := p_28 ndcX9_readsPrice_1 (by decide +kernel)
theorem dX9_readsPrice_73 : decode cX9_readsPrice 73 = .ok (.iadd, 1) := p_96 ndcX9_readsPrice_1 (by decide +kernel)
theorem dX9_readsPrice_74 : decode cX9_readsPrice 74 = .ok (.aload_n 0, 1) := p_42 ndcX9_readsPrice_1 (by decide +kernel)
theorem dX9_readsPrice_75 : decode cX9_readsPrice 75 = .ok (.getfield 184, 3) := p_180 ndcX9_readsPrice_1 (by decide +kernel)
theorem dX9_readsPrice_78 : decode cX9_readsPrice 78 = .ok (.invokevirtual 54, 3) := p_182 ndcX9_readsPrice_1 (by decide +kernel)
theorem dX9_readsPrice_81 : decode cX9_readsPrice 81 = .ok (.return_, 1) := p_177 ndcX9_readsPrice_1 (by decide +kernel)
def nkcX9_readsWindow_0 : List Nat := [42, 4, 3, 16, 6, 182, 0, 199, 154, 0, 4, 177, 42, 180, 0, 184, 60, 42, 16, 45, 182, 0, 203, 153, 0, 14, 42, 4, 27, 16, 6, 182, 0, 199, 154, 0, 4, 177, 42, 6, 16, 21, 27, 182, 0, 54, 42, 6, 16, 22, 42, 180, 0, 184, 182, 0, 54, 177]
theorem ndcX9_readsWindow_0 : ((cX9_readsWindow.data.toList.drop 0).take 66).map UInt8.toNat = nkcX9_readsWindow_0 := by decide +kernel
theorem dX9_readsWindow_0 : decode cX9_readsWindow 0 = .ok (.aload_n 0, 1) := p_42 ndcX9_readsWindow_0 (by decide +kernel)
theorem dX9_readsWindow_1 : decode cX9_readsWindow 1 = .ok (.iconst 1, 1) := p_4 ndcX9_readsWindow_0 (by decide +kernel)
theorem dX9_readsWindow_2 : decode cX9_readsWindow 2 = .ok (.iconst 0, 1) := p_3 ndcX9_readsWindow_0 (by decide +kernel)
theorem dX9_readsWindow_3 : decode cX9_readsWindow 3 = .ok (.bipush 6, 2) := p_16 ndcX9_readsWindow_0 6 (by decide +kernel) (by decide +kernel)
theorem dX9_readsWindow_5 : decode cX9_readsWindow 5 = .ok (.invokevirtual 199, 3) := p_182 ndcX9_readsWindow_0 (by decide +kernel)
theorem dX9_readsWindow_8 : decode cX9_readsWindow 8 = .ok (.ifCond .ne 4, 3) := p_154 ndcX9_readsWindow_0 4 (by decide +kernel) (by decide +kernel)
theorem dX9_readsWindow_11 : decode cX9_readsWindow 11 = .ok (.return_, 1) := p_177 ndcX9_readsWindow_0 (by decide +kernel)
theorem dX9_readsWindow_12 : decode cX9_readsWindow 12 = .ok (.aload_n 0, 1) := p_42 ndcX9_readsWindow_0 (by decide +kernel)
theorem dX9_readsWindow_13 : decode cX9_readsWindow 13 = .ok (.getfield 184, 3) := p_180 ndcX9_readsWindow_0 (by decide +kernel)
theorem dX9_readsWindow_16 : decode cX9_readsWindow 16 = .ok (.istore_n 1, 1) := p_60 ndcX9_readsWindow_0 (by decide +kernel)
theorem dX9_readsWindow_17 : decode cX9_readsWindow 17 = .ok (.aload_n 0, 1) := p_42 ndcX9_readsWindow_0 (by decide +kernel)
theorem dX9_readsWindow_18 : decode cX9_readsWindow 18 = .ok (.bipush 45, 2) := p_16 ndcX9_readsWindow_0 45 (by decide +kernel) (by decide +kernel)
theorem dX9_readsWindow_20 : decode cX9_readsWindow 20 = .ok (.invokevirtual 203, 3) := p_182 ndcX9_readsWindow_0 (by decide +kernel)
theorem dX9_readsWindow_23 : decode cX9_readsWindow 23 = .ok (.ifCond .eq 14, 3) := p_153 ndcX9_readsWindow_0 14 (by decide +kernel) (by decide +kernel)
theorem dX9_readsWindow_26 : decode cX9_readsWindow 26 = .ok (.aload_n 0, 1) := p_42 ndcX9_readsWindow_0 (by decide +kernel)
theorem dX9_readsWindow_27 : decode cX9_readsWindow 27 = .ok (.iconst 1, 1) := p_4 ndcX9_readsWindow_0 (by decide +kernel)
theorem dX9_readsWindow_28 : decode cX9_readsWindow 28 = .ok (.iload_n 1, 1) := p_27 ndcX9_readsWindow_0 (by decide +kernel)
theorem dX9_readsWindow_29 : decode cX9_readsWindow 29 = .ok (.bipush 6, 2) := p_16 ndcX9_readsWindow_0 6 (by decide +kernel) (by decide +kernel)
theorem dX9_readsWindow_31 : decode cX9_readsWindow 31 = .ok (.invokevirtual 199, 3) := p_182 ndcX9_readsWindow_0 (by decide +kernel)
theorem dX9_readsWindow_34 : decode cX9_readsWindow 34 = .ok (.ifCond .ne 4, 3) := p_154 ndcX9_readsWindow_0 4 (by decide +kernel) (by decide +kernel)
theorem dX9_readsWindow_37 : decode cX9_readsWindow 37 = .ok (.return_, 1) := p_177 ndcX9_readsWindow_0 (by decide +kernel)
theorem dX9_readsWindow_38 : decode cX9_readsWindow 38 = .ok (.aload_n 0, 1) := p_42 ndcX9_readsWindow_0 (by decide +kernel)
theorem dX9_readsWindow_39 : decode cX9_readsWindow 39 = .ok (.iconst 3, 1) := p_6 ndcX9_readsWindow_0 (by decide +kernel)
theorem dX9_readsWindow_40 : decode cX9_readsWindow 40 = .ok (.bipush 21, 2) := p_16 ndcX9_readsWindow_0 21 (by decide +kernel) (by decide +kernel)
theorem dX9_readsWindow_42 : decode cX9_readsWindow 42 = .ok (.iload_n 1, 1) := p_27 ndcX9_readsWindow_0 (by decide +kernel)
theorem dX9_readsWindow_43 : decode cX9_readsWindow 43 = .ok (.invokevirtual 54, 3) := p_182 ndcX9_readsWindow_0 (by decide +kernel)
theorem dX9_readsWindow_46 : decode cX9_readsWindow 46 = .ok (.aload_n 0, 1) := p_42 ndcX9_readsWindow_0 (by decide +kernel)
theorem dX9_readsWindow_47 : decode cX9_readsWindow 47 = .ok (.iconst 3, 1) := p_6 ndcX9_readsWindow_0 (by decide +kernel)
theorem dX9_readsWindow_48 : decode cX9_readsWindow 48 = .ok (.bipush 22, 2) := p_16 ndcX9_readsWindow_0 22 (by decide +kernel) (by decide +kernel)
theorem dX9_readsWindow_50 : decode cX9_readsWindow 50 = .ok (.aload_n 0, 1) := p_42 ndcX9_readsWindow_0 (by decide +kernel)
theorem dX9_readsWindow_51 : decode cX9_readsWindow 51 = .ok (.getfield 184, 3) := p_180 ndcX9_readsWindow_0 (by decide +kernel)
theorem dX9_readsWindow_54 : decode cX9_readsWindow 54 = .ok (.invokevirtual 54, 3) := p_182 ndcX9_readsWindow_0 (by decide +kernel)
theorem dX9_readsWindow_57 : decode cX9_readsWindow 57 = .ok (.return_, 1) := p_177 ndcX9_readsWindow_0 (by decide +kernel)
def nkcX9_readsSoft_0 : List Nat := [42, 4, 3, 6, 182, 0, 199, 154, 0, 4, 177, 42, 180, 0, 184, 60, 42, 16, 47, 182, 0, 203, 153, 0, 22, 42, 4, 27, 4, 164, 0, 7, 27, 167, 0, 4, 4, 6, 182, 0, 199, 154, 0, 4, 177, 42, 180, 0, 184, 61, 42, 16, 47, 182, 0, 203, 153, 0, 26, 42, 16, 7, 3, 18, 206, 182]
theorem ndcX9_readsSoft_0 : ((cX9_readsSoft.data.toList.drop 0).take 66).map UInt8.toNat = nkcX9_readsSoft_0 := by decide +kernel
theorem dX9_readsSoft_0 : decode cX9_readsSoft 0 = .ok (.aload_n 0, 1) := p_42 ndcX9_readsSoft_0 (by decide +kernel)
theorem dX9_readsSoft_1 : decode cX9_readsSoft 1 = .ok (.iconst 1, 1) := p_4 ndcX9_readsSoft_0 (by decide +kernel)
theorem dX9_readsSoft_2 : decode cX9_readsSoft 2 = .ok (.iconst 0, 1) := p_3 ndcX9_readsSoft_0 (by decide +kernel)
theorem dX9_readsSoft_3 : decode cX9_readsSoft 3 = .ok (.iconst 3, 1) := p_6 ndcX9_readsSoft_0 (by decide +kernel)
theorem dX9_readsSoft_4 : decode cX9_readsSoft 4 = .ok (.invokevirtual 199, 3) := p_182 ndcX9_readsSoft_0 (by decide +kernel)
theorem dX9_readsSoft_7 : decode cX9_readsSoft 7 = .ok (.ifCond .ne 4, 3) := p_154 ndcX9_readsSoft_0 4 (by decide +kernel) (by decide +kernel)
theorem dX9_readsSoft_10 : decode cX9_readsSoft 10 = .ok (.return_, 1) := p_177 ndcX9_readsSoft_0 (by decide +kernel)
theorem dX9_readsSoft_11 : decode cX9_readsSoft 11 = .ok (.aload_n 0, 1) := p_42 ndcX9_readsSoft_0 (by decide +kernel)
theorem dX9_readsSoft_12 : decode cX9_readsSoft 12 = .ok (.getfield 184, 3) := p_180 ndcX9_readsSoft_0 (by decide +kernel)
theorem dX9_readsSoft_15 : decode cX9_readsSoft 15 = .ok (.istore_n 1, 1) := p_60 ndcX9_readsSoft_0 (by decide +kernel)
theorem dX9_readsSoft_16 : decode cX9_readsSoft 16 = .ok (.aload_n 0, 1) := p_42 ndcX9_readsSoft_0 (by decide +kernel)
theorem dX9_readsSoft_17 : decode cX9_readsSoft 17 = .ok (.bipush 47, 2) := p_16 ndcX9_readsSoft_0 47 (by decide +kernel) (by decide +kernel)
theorem dX9_readsSoft_19 : decode cX9_readsSoft 19 = .ok (.invokevirtual 203, 3) := p_182 ndcX9_readsSoft_0 (by decide +kernel)
theorem dX9_readsSoft_22 : decode cX9_readsSoft 22 = .ok (.ifCond .eq 22, 3) := p_153 ndcX9_readsSoft_0 22 (by decide +kernel) (by decide +kernel)
theorem dX9_readsSoft_25 : decode cX9_readsSoft 25 = .ok (.aload_n 0, 1) := p_42 ndcX9_readsSoft_0 (by decide +kernel)
theorem dX9_readsSoft_26 : decode cX9_readsSoft 26 = .ok (.iconst 1, 1) := p_4 ndcX9_readsSoft_0 (by decide +kernel)
theorem dX9_readsSoft_27 : decode cX9_readsSoft 27 = .ok (.iload_n 1, 1) := p_27 ndcX9_readsSoft_0 (by decide +kernel)
theorem dX9_readsSoft_28 : decode cX9_readsSoft 28 = .ok (.iconst 1, 1) := p_4 ndcX9_readsSoft_0 (by decide +kernel)
theorem dX9_readsSoft_29 : decode cX9_readsSoft 29 = .ok (.if_icmp .le 7, 3) := p_164 ndcX9_readsSoft_0 7 (by decide +kernel) (by decide +kernel)
theorem dX9_readsSoft_32 : decode cX9_readsSoft 32 = .ok (.iload_n 1, 1) := p_27 ndcX9_readsSoft_0 (by decide +kernel)
theorem dX9_readsSoft_33 : decode cX9_readsSoft 33 = .ok (.goto 4, 3) := p_167 ndcX9_readsSoft_0 4 (by decide +kernel) (by decide +kernel)
theorem dX9_readsSoft_36 : decode cX9_readsSoft 36 = .ok (.iconst 1, 1) := p_4 ndcX9_readsSoft_0 (by decide +kernel)
theorem dX9_readsSoft_37 : decode cX9_readsSoft 37 = .ok (.iconst 3, 1) := p_6 ndcX9_readsSoft_0 (by decide +kernel)
theorem dX9_readsSoft_38 : decode cX9_readsSoft 38 = .ok (.invokevirtual 199, 3) := p_182 ndcX9_readsSoft_0 (by decide +kernel)
theorem dX9_readsSoft_41 : decode cX9_readsSoft 41 = .ok (.ifCond .ne 4, 3) := p_154 ndcX9_readsSoft_0 4 (by decide +kernel) (by decide +kernel)
theorem dX9_readsSoft_44 : decode cX9_readsSoft 44 = .ok (.return_, 1) := p_177 ndcX9_readsSoft_0 (by decide +kernel)
theorem dX9_readsSoft_45 : decode cX9_readsSoft 45 = .ok (.aload_n 0, 1) := p_42 ndcX9_readsSoft_0 (by decide +kernel)
theorem dX9_readsSoft_46 : decode cX9_readsSoft 46 = .ok (.getfield 184, 3) := p_180 ndcX9_readsSoft_0 (by decide +kernel)
theorem dX9_readsSoft_49 : decode cX9_readsSoft 49 = .ok (.istore_n 2, 1) := p_61 ndcX9_readsSoft_0 (by decide +kernel)
theorem dX9_readsSoft_50 : decode cX9_readsSoft 50 = .ok (.aload_n 0, 1) := p_42 ndcX9_readsSoft_0 (by decide +kernel)
theorem dX9_readsSoft_51 : decode cX9_readsSoft 51 = .ok (.bipush 47, 2) := p_16 ndcX9_readsSoft_0 47 (by decide +kernel) (by decide +kernel)
theorem dX9_readsSoft_53 : decode cX9_readsSoft 53 = .ok (.invokevirtual 203, 3) := p_182 ndcX9_readsSoft_0 (by decide +kernel)
theorem dX9_readsSoft_56 : decode cX9_readsSoft 56 = .ok (.ifCond .eq 26, 3) := p_153 ndcX9_readsSoft_0 26 (by decide +kernel) (by decide +kernel)
theorem dX9_readsSoft_59 : decode cX9_readsSoft 59 = .ok (.aload_n 0, 1) := p_42 ndcX9_readsSoft_0 (by decide +kernel)
theorem dX9_readsSoft_60 : decode cX9_readsSoft 60 = .ok (.bipush 7, 2) := p_16 ndcX9_readsSoft_0 7 (by decide +kernel) (by decide +kernel)
theorem dX9_readsSoft_62 : decode cX9_readsSoft 62 = .ok (.iconst 0, 1) := p_3 ndcX9_readsSoft_0 (by decide +kernel)
theorem dX9_readsSoft_63 : decode cX9_readsSoft 63 = .ok (.ldc 206, 2) := p_18 ndcX9_readsSoft_0 (by decide +kernel)
def nkcX9_readsSoft_1 : List Nat := [206, 182, 0, 199, 153, 0, 14, 42, 6, 27, 28, 42, 180, 0, 184, 182, 0, 144, 177]
theorem ndcX9_readsSoft_1 : ((cX9_readsSoft.data.toList.drop 64).take 66).map UInt8.toNat = nkcX9_readsSoft_1 := by decide +kernel
theorem dX9_readsSoft_65 : decode cX9_readsSoft 65 = .ok (.invokevirtual 199, 3) := p_182 ndcX9_readsSoft_1 (by decide +kernel)
theorem dX9_readsSoft_68 : decode cX9_readsSoft 68 = .ok (.ifCond .eq 14, 3) := p_153 ndcX9_readsSoft_1 14 (by decide +kernel) (by decide +kernel)
theorem dX9_readsSoft_71 : decode cX9_readsSoft 71 = .ok (.aload_n 0, 1) := p_42 ndcX9_readsSoft_1 (by decide +kernel)
theorem dX9_readsSoft_72 : decode cX9_readsSoft 72 = .ok (.iconst 3, 1) := p_6 ndcX9_readsSoft_1 (by decide +kernel)
theorem dX9_readsSoft_73 : decode cX9_readsSoft 73 = .ok (.iload_n 1, 1) := p_27 ndcX9_readsSoft_1 (by decide +kernel)
theorem dX9_readsSoft_74 : decode cX9_readsSoft 74 = .ok (.iload_n 2, 1) := p_28 ndcX9_readsSoft_1 (by decide +kernel)
theorem dX9_readsSoft_75 : decode cX9_readsSoft 75 = .ok (.aload_n 0, 1) := p_42 ndcX9_readsSoft_1 (by decide +kernel)
theorem dX9_readsSoft_76 : decode cX9_readsSoft 76 = .ok (.getfield 184, 3) := p_180 ndcX9_readsSoft_1 (by decide +kernel)
theorem dX9_readsSoft_79 : decode cX9_readsSoft 79 = .ok (.invokevirtual 144, 3) := p_182 ndcX9_readsSoft_1 (by decide +kernel)
theorem dX9_readsSoft_82 : decode cX9_readsSoft 82 = .ok (.return_, 1) := p_177 ndcX9_readsSoft_1 (by decide +kernel)
def nkcX9_readsClause_0 : List Nat := [42, 42, 180, 0, 164, 4, 96, 181, 0, 164, 27, 170, 0, 0, 0, 223, 0, 0, 0, 99, 0, 0, 0, 122, 0, 0, 0, 160, 0, 0, 0, 223, 0, 0, 0, 223, 0, 0, 0, 109, 0, 0, 0, 223, 0, 0, 0, 223, 0, 0, 0, 223, 0, 0, 0, 223, 0, 0, 0, 167, 0, 0, 0, 223, 0, 0]
theorem ndcX9_readsClause_0 : ((cX9_readsClause.data.toList.drop 0).take 66).map UInt8.toNat = nkcX9_readsClause_0 := by decide +kernel
theorem dX9_readsClause_0 : decode cX9_readsClause 0 = .ok (.aload_n 0, 1) := p_42 ndcX9_readsClause_0 (by decide +kernel)
theorem dX9_readsClause_1 : decode cX9_readsClause 1 = .ok (.aload_n 0, 1) := p_42 ndcX9_readsClause_0 (by decide +kernel)
theorem dX9_readsClause_2 : decode cX9_readsClause 2 = .ok (.getfield 164, 3) := p_180 ndcX9_readsClause_0 (by decide +kernel)
theorem dX9_readsClause_5 : decode cX9_readsClause 5 = .ok (.iconst 1, 1) := p_4 ndcX9_readsClause_0 (by decide +kernel)
theorem dX9_readsClause_6 : decode cX9_readsClause 6 = .ok (.iadd, 1) := p_96 ndcX9_readsClause_0 (by decide +kernel)
theorem dX9_readsClause_7 : decode cX9_readsClause 7 = .ok (.putfield 164, 3) := p_181 ndcX9_readsClause_0 (by decide +kernel)
theorem dX9_readsClause_10 : decode cX9_readsClause 10 = .ok (.iload_n 1, 1) := p_27 ndcX9_readsClause_0 (by decide +kernel)
theorem dX9_readsClause_11 : decode cX9_readsClause 11 = .ok (.tableswitch 223 99 122 #[160, 223, 223, 109, 223, 223, 223, 223, 167, 223, 223, 134, 223, 176, 223, 223, 192, 223, 223, 223, 185, 223, 223, 199], 109) := by decide +kernel
def nkcX9_readsClause_1 : List Nat := [0, 0, 0, 223, 0, 0, 0, 134, 0, 0, 0, 223, 0, 0, 0, 176, 0, 0, 0, 223, 0, 0, 0, 223, 0, 0, 0, 192, 0, 0, 0, 223, 0, 0, 0, 223, 0, 0, 0, 223, 0, 0, 0, 185, 0, 0, 0, 223, 0, 0, 0, 223, 0, 0, 0, 199, 42, 16, 7, 4, 18, 206, 182, 0, 199, 153]
theorem ndcX9_readsClause_1 : ((cX9_readsClause.data.toList.drop 64).take 66).map UInt8.toNat = nkcX9_readsClause_1 := by decide +kernel
theorem dX9_readsClause_120 : decode cX9_readsClause 120 = .ok (.aload_n 0, 1) := p_42 ndcX9_readsClause_1 (by decide +kernel)
theorem dX9_readsClause_121 : decode cX9_readsClause 121 = .ok (.bipush 7, 2) := p_16 ndcX9_readsClause_1 7 (by decide +kernel) (by decide +kernel)
theorem dX9_readsClause_123 : decode cX9_readsClause 123 = .ok (.iconst 1, 1) := p_4 ndcX9_readsClause_1 (by decide +kernel)
theorem dX9_readsClause_124 : decode cX9_readsClause 124 = .ok (.ldc 206, 2) := p_18 ndcX9_readsClause_1 (by decide +kernel)
theorem dX9_readsClause_126 : decode cX9_readsClause 126 = .ok (.invokevirtual 199, 3) := p_182 ndcX9_readsClause_1 (by decide +kernel)
def nkcX9_readsClause_2 : List Nat := [199, 153, 0, 125, 42, 6, 3, 42, 180, 0, 184, 182, 0, 54, 167, 0, 112, 42, 16, 7, 3, 17, 3, 232, 182, 0, 199, 153, 0, 99, 42, 6, 4, 42, 180, 0, 184, 182, 0, 54, 167, 0, 86, 42, 182, 0, 207, 167, 0, 79, 42, 16, 9, 182, 0, 210, 167, 0, 70, 42, 16, 15, 182, 0, 210, 167]
theorem ndcX9_readsClause_2 : ((cX9_readsClause.data.toList.drop 128).take 66).map UInt8.toNat = nkcX9_readsClause_2 := by decide +kernel
theorem dX9_readsClause_129 : decode cX9_readsClause 129 = .ok (.ifCond .eq 125, 3) := p_153 ndcX9_readsClause_2 125 (by decide +kernel) (by decide +kernel)
theorem dX9_readsClause_132 : decode cX9_readsClause 132 = .ok (.aload_n 0, 1) := p_42 ndcX9_readsClause_2 (by decide +kernel)
theorem dX9_readsClause_133 : decode cX9_readsClause 133 = .ok (.iconst 3, 1) := p_6 ndcX9_readsClause_2 (by decide +kernel)
theorem dX9_readsClause_134 : decode cX9_readsClause 134 = .ok (.iconst 0, 1) := p_3 ndcX9_readsClause_2 (by decide +kernel)
theorem dX9_readsClause_135 : decode cX9_readsClause 135 = .ok (.aload_n 0, 1) := p_42 ndcX9_readsClause_2 (by decide +kernel)
theorem dX9_readsClause_136 : decode cX9_readsClause 136 = .ok (.getfield 184, 3) := p_180 ndcX9_readsClause_2 (by decide +kernel)
theorem dX9_readsClause_139 : decode cX9_readsClause 139 = .ok (.invokevirtual 54, 3) := p_182 ndcX9_readsClause_2 (by decide +kernel)
theorem dX9_readsClause_142 : decode cX9_readsClause 142 = .ok (.goto 112, 3) := p_167 ndcX9_readsClause_2 112 (by decide +kernel) (by decide +kernel)
theorem dX9_readsClause_145 : decode cX9_readsClause 145 = .ok (.aload_n 0, 1) := p_42 ndcX9_readsClause_2 (by decide +kernel)
theorem dX9_readsClause_146 : decode cX9_readsClause 146 = .ok (.bipush 7, 2) := p_16 ndcX9_readsClause_2 7 (by decide +kernel) (by decide +kernel)
theorem dX9_readsClause_148 : decode cX9_readsClause 148 = .ok (.iconst 0, 1) := p_3 ndcX9_readsClause_2 (by decide +kernel)
theorem dX9_readsClause_149 : decode cX9_readsClause 149 = .ok (.sipush 1000, 3) := p_17 ndcX9_readsClause_2 1000 (by decide +kernel) (by decide +kernel)
theorem dX9_readsClause_152 : decode cX9_readsClause 152 = .ok (.invokevirtual 199, 3) := p_182 ndcX9_readsClause_2 (by decide +kernel)
theorem dX9_readsClause_155 : decode cX9_readsClause 155 = .ok (.ifCond .eq 99, 3) := p_153 ndcX9_readsClause_2 99 (by decide +kernel) (by decide +kernel)
theorem dX9_readsClause_158 : decode cX9_readsClause 158 = .ok (.aload_n 0, 1) := p_42 ndcX9_readsClause_2 (by decide +kernel)
theorem dX9_readsClause_159 : decode cX9_readsClause 159 = .ok (.iconst 3, 1) := p_6 ndcX9_readsClause_2 (by decide +kernel)
theorem dX9_readsClause_160 : decode cX9_readsClause 160 = .ok (.iconst 1, 1) := p_4 ndcX9_readsClause_2 (by decide +kernel)
theorem dX9_readsClause_161 : decode cX9_readsClause 161 = .ok (.aload_n 0, 1) := p_42 ndcX9_readsClause_2 (by decide +kernel)
theorem dX9_readsClause_162 : decode cX9_readsClause 162 = .ok (.getfield 184, 3) := p_180 ndcX9_readsClause_2 (by decide +kernel)
theorem dX9_readsClause_165 : decode cX9_readsClause 165 = .ok (.invokevirtual 54, 3) := p_182 ndcX9_readsClause_2 (by decide +kernel)
theorem dX9_readsClause_168 : decode cX9_readsClause 168 = .ok (.goto 86, 3) := p_167 ndcX9_readsClause_2 86 (by decide +kernel) (by decide +kernel)
theorem dX9_readsClause_171 : decode cX9_readsClause 171 = .ok (.aload_n 0, 1) := p_42 ndcX9_readsClause_2 (by decide +kernel)
theorem dX9_readsClause_172 : decode cX9_readsClause 172 = .ok (.invokevirtual 207, 3) := p_182 ndcX9_readsClause_2 (by decide +kernel)
theorem dX9_readsClause_175 : decode cX9_readsClause 175 = .ok (.goto 79, 3) := p_167 ndcX9_readsClause_2 79 (by decide +kernel) (by decide +kernel)
theorem dX9_readsClause_178 : decode cX9_readsClause 178 = .ok (.aload_n 0, 1) := p_42 ndcX9_readsClause_2 (by decide +kernel)
theorem dX9_readsClause_179 : decode cX9_readsClause 179 = .ok (.bipush 9, 2) := p_16 ndcX9_readsClause_2 9 (by decide +kernel) (by decide +kernel)
theorem dX9_readsClause_181 : decode cX9_readsClause 181 = .ok (.invokevirtual 210, 3) := p_182 ndcX9_readsClause_2 (by decide +kernel)
theorem dX9_readsClause_184 : decode cX9_readsClause 184 = .ok (.goto 70, 3) := p_167 ndcX9_readsClause_2 70 (by decide +kernel) (by decide +kernel)
theorem dX9_readsClause_187 : decode cX9_readsClause 187 = .ok (.aload_n 0, 1) := p_42 ndcX9_readsClause_2 (by decide +kernel)
theorem dX9_readsClause_188 : decode cX9_readsClause 188 = .ok (.bipush 15, 2) := p_16 ndcX9_readsClause_2 15 (by decide +kernel) (by decide +kernel)
theorem dX9_readsClause_190 : decode cX9_readsClause 190 = .ok (.invokevirtual 210, 3) := p_182 ndcX9_readsClause_2 (by decide +kernel)
def nkcX9_readsClause_3 : List Nat := [210, 167, 0, 61, 42, 182, 0, 213, 167, 0, 54, 42, 182, 0, 216, 167, 0, 47, 42, 4, 3, 6, 182, 0, 199, 153, 0, 37, 42, 6, 16, 26, 42, 180, 0, 184, 182, 0, 54, 167, 0, 23, 42, 42, 180, 0, 164, 4, 100, 181, 0, 164, 42, 4, 42, 180, 0, 164, 182, 0, 193, 87, 177]
theorem ndcX9_readsClause_3 : ((cX9_readsClause.data.toList.drop 192).take 66).map UInt8.toNat = nkcX9_readsClause_3 := by decide +kernel
theorem dX9_readsClause_193 : decode cX9_readsClause 193 = .ok (.goto 61, 3) := p_167 ndcX9_readsClause_3 61 (by decide +kernel) (by decide +kernel)
theorem dX9_readsClause_196 : decode cX9_readsClause 196 = .ok (.aload_n 0, 1) := p_42 ndcX9_readsClause_3 (by decide +kernel)
theorem dX9_readsClause_197 : decode cX9_readsClause 197 = .ok (.invokevirtual 213, 3) := p_182 ndcX9_readsClause_3 (by decide +kernel)
theorem dX9_readsClause_200 : decode cX9_readsClause 200 = .ok (.goto 54, 3) := p_167 ndcX9_readsClause_3 54 (by decide +kernel) (by decide +kernel)
theorem dX9_readsClause_203 : decode cX9_readsClause 203 = .ok (.aload_n 0, 1) := p_42 ndcX9_readsClause_3 (by decide +kernel)
theorem dX9_readsClause_204 : decode cX9_readsClause 204 = .ok (.invokevirtual 216, 3) := p_182 ndcX9_readsClause_3 (by decide +kernel)
theorem dX9_readsClause_207 : decode cX9_readsClause 207 = .ok (.goto 47, 3) := p_167 ndcX9_readsClause_3 47 (by decide +kernel) (by decide +kernel)
theorem dX9_readsClause_210 : decode cX9_readsClause 210 = .ok (.aload_n 0, 1) := p_42 ndcX9_readsClause_3 (by decide +kernel)
theorem dX9_readsClause_211 : decode cX9_readsClause 211 = .ok (.iconst 1, 1) := p_4 ndcX9_readsClause_3 (by decide +kernel)
theorem dX9_readsClause_212 : decode cX9_readsClause 212 = .ok (.iconst 0, 1) := p_3 ndcX9_readsClause_3 (by decide +kernel)
theorem dX9_readsClause_213 : decode cX9_readsClause 213 = .ok (.iconst 3, 1) := p_6 ndcX9_readsClause_3 (by decide +kernel)
theorem dX9_readsClause_214 : decode cX9_readsClause 214 = .ok (.invokevirtual 199, 3) := p_182 ndcX9_readsClause_3 (by decide +kernel)
theorem dX9_readsClause_217 : decode cX9_readsClause 217 = .ok (.ifCond .eq 37, 3) := p_153 ndcX9_readsClause_3 37 (by decide +kernel) (by decide +kernel)
theorem dX9_readsClause_220 : decode cX9_readsClause 220 = .ok (.aload_n 0, 1) := p_42 ndcX9_readsClause_3 (by decide +kernel)
theorem dX9_readsClause_221 : decode cX9_readsClause 221 = .ok (.iconst 3, 1) := p_6 ndcX9_readsClause_3 (by decide +kernel)
theorem dX9_readsClause_222 : decode cX9_readsClause 222 = .ok (.bipush 26, 2) := p_16 ndcX9_readsClause_3 26 (by decide +kernel) (by decide +kernel)
theorem dX9_readsClause_224 : decode cX9_readsClause 224 = .ok (.aload_n 0, 1) := p_42 ndcX9_readsClause_3 (by decide +kernel)
theorem dX9_readsClause_225 : decode cX9_readsClause 225 = .ok (.getfield 184, 3) := p_180 ndcX9_readsClause_3 (by decide +kernel)
theorem dX9_readsClause_228 : decode cX9_readsClause 228 = .ok (.invokevirtual 54, 3) := p_182 ndcX9_readsClause_3 (by decide +kernel)
theorem dX9_readsClause_231 : decode cX9_readsClause 231 = .ok (.goto 23, 3) := p_167 ndcX9_readsClause_3 23 (by decide +kernel) (by decide +kernel)
theorem dX9_readsClause_234 : decode cX9_readsClause 234 = .ok (.aload_n 0, 1) := p_42 ndcX9_readsClause_3 (by decide +kernel)
theorem dX9_readsClause_235 : decode cX9_readsClause 235 = .ok (.aload_n 0, 1) := p_42 ndcX9_readsClause_3 (by decide +kernel)
theorem dX9_readsClause_236 : decode cX9_readsClause 236 = .ok (.getfield 164, 3) := p_180 ndcX9_readsClause_3 (by decide +kernel)
theorem dX9_readsClause_239 : decode cX9_readsClause 239 = .ok (.iconst 1, 1) := p_4 ndcX9_readsClause_3 (by decide +kernel)
theorem dX9_readsClause_240 : decode cX9_readsClause 240 = .ok (.isub, 1) := p_100 ndcX9_readsClause_3 (by decide +kernel)
theorem dX9_readsClause_241 : decode cX9_readsClause 241 = .ok (.putfield 164, 3) := p_181 ndcX9_readsClause_3 (by decide +kernel)
theorem dX9_readsClause_244 : decode cX9_readsClause 244 = .ok (.aload_n 0, 1) := p_42 ndcX9_readsClause_3 (by decide +kernel)
theorem dX9_readsClause_245 : decode cX9_readsClause 245 = .ok (.iconst 1, 1) := p_4 ndcX9_readsClause_3 (by decide +kernel)
theorem dX9_readsClause_246 : decode cX9_readsClause 246 = .ok (.aload_n 0, 1) := p_42 ndcX9_readsClause_3 (by decide +kernel)
theorem dX9_readsClause_247 : decode cX9_readsClause 247 = .ok (.getfield 164, 3) := p_180 ndcX9_readsClause_3 (by decide +kernel)
theorem dX9_readsClause_250 : decode cX9_readsClause 250 = .ok (.invokevirtual 193, 3) := p_182 ndcX9_readsClause_3 (by decide +kernel)
theorem dX9_readsClause_253 : decode cX9_readsClause 253 = .ok (.pop, 1) := p_87 ndcX9_readsClause_3 (by decide +kernel)
theorem dX9_readsClause_254 : decode cX9_readsClause 254 = .ok (.return_, 1) := p_177 ndcX9_readsClause_3 (by decide +kernel)
def nkcX9_terms_0 : List Nat := [27, 184, 0, 126, 153, 0, 23, 28, 133, 10, 20, 0, 110, 184, 0, 60, 153, 0, 11, 28, 42, 180, 0, 64, 164, 0, 5, 2, 172, 42, 3, 181, 0, 64, 42, 28, 181, 0, 167, 42, 3, 181, 0, 164, 42, 3, 181, 0, 170, 42, 27, 6, 182, 0, 161, 3, 62, 42, 180, 0, 170, 154, 0, 30, 29, 153]
theorem ndcX9_terms_0 : ((cX9_terms.data.toList.drop 0).take 66).map UInt8.toNat = nkcX9_terms_0 := by decide +kernel
theorem dX9_terms_0 : decode cX9_terms 0 = .ok (.iload_n 1, 1) := p_27 ndcX9_terms_0 (by decide +kernel)
theorem dX9_terms_1 : decode cX9_terms 1 = .ok (.invokestatic 126, 3) := p_184 ndcX9_terms_0 (by decide +kernel)
theorem dX9_terms_4 : decode cX9_terms 4 = .ok (.ifCond .eq 23, 3) := p_153 ndcX9_terms_0 23 (by decide +kernel) (by decide +kernel)
theorem dX9_terms_7 : decode cX9_terms 7 = .ok (.iload_n 2, 1) := p_28 ndcX9_terms_0 (by decide +kernel)
theorem dX9_terms_8 : decode cX9_terms 8 = .ok (.i2l, 1) := p_133 ndcX9_terms_0 (by decide +kernel)
theorem dX9_terms_9 : decode cX9_terms 9 = .ok (.lconst 1, 1) := p_10 ndcX9_terms_0 (by decide +kernel)
theorem dX9_terms_10 : decode cX9_terms 10 = .ok (.ldc2_w 110, 3) := p_20 ndcX9_terms_0 (by decide +kernel)
theorem dX9_terms_13 : decode cX9_terms 13 = .ok (.invokestatic 60, 3) := p_184 ndcX9_terms_0 (by decide +kernel)
theorem dX9_terms_16 : decode cX9_terms 16 = .ok (.ifCond .eq 11, 3) := p_153 ndcX9_terms_0 11 (by decide +kernel) (by decide +kernel)
theorem dX9_terms_19 : decode cX9_terms 19 = .ok (.iload_n 2, 1) := p_28 ndcX9_terms_0 (by decide +kernel)
theorem dX9_terms_20 : decode cX9_terms 20 = .ok (.aload_n 0, 1) := p_42 ndcX9_terms_0 (by decide +kernel)
theorem dX9_terms_21 : decode cX9_terms 21 = .ok (.getfield 64, 3) := p_180 ndcX9_terms_0 (by decide +kernel)
theorem dX9_terms_24 : decode cX9_terms 24 = .ok (.if_icmp .le 5, 3) := p_164 ndcX9_terms_0 5 (by decide +kernel) (by decide +kernel)
theorem dX9_terms_27 : decode cX9_terms 27 = .ok (.iconst (-1), 1) := p_2 ndcX9_terms_0 (by decide +kernel)
theorem dX9_terms_28 : decode cX9_terms 28 = .ok (.ireturn, 1) := p_172 ndcX9_terms_0 (by decide +kernel)
theorem dX9_terms_29 : decode cX9_terms 29 = .ok (.aload_n 0, 1) := p_42 ndcX9_terms_0 (by decide +kernel)
theorem dX9_terms_30 : decode cX9_terms 30 = .ok (.iconst 0, 1) := p_3 ndcX9_terms_0 (by decide +kernel)
theorem dX9_terms_31 : decode cX9_terms 31 = .ok (.putfield 64, 3) := p_181 ndcX9_terms_0 (by decide +kernel)
theorem dX9_terms_34 : decode cX9_terms 34 = .ok (.aload_n 0, 1) := p_42 ndcX9_terms_0 (by decide +kernel)
theorem dX9_terms_35 : decode cX9_terms 35 = .ok (.iload_n 2, 1) := p_28 ndcX9_terms_0 (by decide +kernel)
theorem dX9_terms_36 : decode cX9_terms 36 = .ok (.putfield 167, 3) := p_181 ndcX9_terms_0 (by decide +kernel)
theorem dX9_terms_39 : decode cX9_terms 39 = .ok (.aload_n 0, 1) := p_42 ndcX9_terms_0 (by decide +kernel)
theorem dX9_terms_40 : decode cX9_terms 40 = .ok (.iconst 0, 1) := p_3 ndcX9_terms_0 (by decide +kernel)
theorem dX9_terms_41 : decode cX9_terms 41 = .ok (.putfield 164, 3) := p_181 ndcX9_terms_0 (by decide +kernel)
theorem dX9_terms_44 : decode cX9_terms 44 = .ok (.aload_n 0, 1) := p_42 ndcX9_terms_0 (by decide +kernel)
theorem dX9_terms_45 : decode cX9_terms 45 = .ok (.iconst 0, 1) := p_3 ndcX9_terms_0 (by decide +kernel)
theorem dX9_terms_46 : decode cX9_terms 46 = .ok (.putfield 170, 3) := p_181 ndcX9_terms_0 (by decide +kernel)
theorem dX9_terms_49 : decode cX9_terms 49 = .ok (.aload_n 0, 1) := p_42 ndcX9_terms_0 (by decide +kernel)
theorem dX9_terms_50 : decode cX9_terms 50 = .ok (.iload_n 1, 1) := p_27 ndcX9_terms_0 (by decide +kernel)
theorem dX9_terms_51 : decode cX9_terms 51 = .ok (.iconst 3, 1) := p_6 ndcX9_terms_0 (by decide +kernel)
theorem dX9_terms_52 : decode cX9_terms 52 = .ok (.invokevirtual 161, 3) := p_182 ndcX9_terms_0 (by decide +kernel)
theorem dX9_terms_55 : decode cX9_terms 55 = .ok (.iconst 0, 1) := p_3 ndcX9_terms_0 (by decide +kernel)
theorem dX9_terms_56 : decode cX9_terms 56 = .ok (.istore_n 3, 1) := p_62 ndcX9_terms_0 (by decide +kernel)
theorem dX9_terms_57 : decode cX9_terms 57 = .ok (.aload_n 0, 1) := p_42 ndcX9_terms_0 (by decide +kernel)
theorem dX9_terms_58 : decode cX9_terms 58 = .ok (.getfield 170, 3) := p_180 ndcX9_terms_0 (by decide +kernel)
theorem dX9_terms_61 : decode cX9_terms 61 = .ok (.ifCond .ne 30, 3) := p_154 ndcX9_terms_0 30 (by decide +kernel) (by decide +kernel)
def nkcX9_terms_1 : List Nat := [29, 153, 0, 11, 42, 182, 0, 177, 2, 159, 0, 18, 42, 42, 182, 0, 177, 182, 0, 219, 29, 4, 96, 62, 167, 255, 225, 42, 180, 0, 170, 153, 0, 8, 42, 180, 0, 170, 172, 42, 6, 27, 182, 0, 161, 29, 172]
theorem ndcX9_terms_1 : ((cX9_terms.data.toList.drop 64).take 66).map UInt8.toNat = nkcX9_terms_1 := by decide +kernel
theorem dX9_terms_64 : decode cX9_terms 64 = .ok (.iload_n 3, 1) := p_29 ndcX9_terms_1 (by decide +kernel)
theorem dX9_terms_65 : decode cX9_terms 65 = .ok (.ifCond .eq 11, 3) := p_153 ndcX9_terms_1 11 (by decide +kernel) (by decide +kernel)
theorem dX9_terms_68 : decode cX9_terms 68 = .ok (.aload_n 0, 1) := p_42 ndcX9_terms_1 (by decide +kernel)
theorem dX9_terms_69 : decode cX9_terms 69 = .ok (.invokevirtual 177, 3) := p_182 ndcX9_terms_1 (by decide +kernel)
theorem dX9_terms_72 : decode cX9_terms 72 = .ok (.iconst (-1), 1) := p_2 ndcX9_terms_1 (by decide +kernel)
theorem dX9_terms_73 : decode cX9_terms 73 = .ok (.if_icmp .eq 18, 3) := p_159 ndcX9_terms_1 18 (by decide +kernel) (by decide +kernel)
theorem dX9_terms_76 : decode cX9_terms 76 = .ok (.aload_n 0, 1) := p_42 ndcX9_terms_1 (by decide +kernel)
theorem dX9_terms_77 : decode cX9_terms 77 = .ok (.aload_n 0, 1) := p_42 ndcX9_terms_1 (by decide +kernel)
theorem dX9_terms_78 : decode cX9_terms 78 = .ok (.invokevirtual 177, 3) := p_182 ndcX9_terms_1 (by decide +kernel)
theorem dX9_terms_81 : decode cX9_terms 81 = .ok (.invokevirtual 219, 3) := p_182 ndcX9_terms_1 (by decide +kernel)
theorem dX9_terms_84 : decode cX9_terms 84 = .ok (.iload_n 3, 1) := p_29 ndcX9_terms_1 (by decide +kernel)
theorem dX9_terms_85 : decode cX9_terms 85 = .ok (.iconst 1, 1) := p_4 ndcX9_terms_1 (by decide +kernel)
theorem dX9_terms_86 : decode cX9_terms 86 = .ok (.iadd, 1) := p_96 ndcX9_terms_1 (by decide +kernel)
theorem dX9_terms_87 : decode cX9_terms 87 = .ok (.istore_n 3, 1) := p_62 ndcX9_terms_1 (by decide +kernel)
theorem dX9_terms_88 : decode cX9_terms 88 = .ok (.goto (-31), 3) := p_167 ndcX9_terms_1 65505 (by decide +kernel) (by decide +kernel)
theorem dX9_terms_91 : decode cX9_terms 91 = .ok (.aload_n 0, 1) := p_42 ndcX9_terms_1 (by decide +kernel)
theorem dX9_terms_92 : decode cX9_terms 92 = .ok (.getfield 170, 3) := p_180 ndcX9_terms_1 (by decide +kernel)
theorem dX9_terms_95 : decode cX9_terms 95 = .ok (.ifCond .eq 8, 3) := p_153 ndcX9_terms_1 8 (by decide +kernel) (by decide +kernel)
theorem dX9_terms_98 : decode cX9_terms 98 = .ok (.aload_n 0, 1) := p_42 ndcX9_terms_1 (by decide +kernel)
theorem dX9_terms_99 : decode cX9_terms 99 = .ok (.getfield 170, 3) := p_180 ndcX9_terms_1 (by decide +kernel)
theorem dX9_terms_102 : decode cX9_terms 102 = .ok (.ireturn, 1) := p_172 ndcX9_terms_1 (by decide +kernel)
theorem dX9_terms_103 : decode cX9_terms 103 = .ok (.aload_n 0, 1) := p_42 ndcX9_terms_1 (by decide +kernel)
theorem dX9_terms_104 : decode cX9_terms 104 = .ok (.iconst 3, 1) := p_6 ndcX9_terms_1 (by decide +kernel)
theorem dX9_terms_105 : decode cX9_terms 105 = .ok (.iload_n 1, 1) := p_27 ndcX9_terms_1 (by decide +kernel)
theorem dX9_terms_106 : decode cX9_terms 106 = .ok (.invokevirtual 161, 3) := p_182 ndcX9_terms_1 (by decide +kernel)
theorem dX9_terms_109 : decode cX9_terms 109 = .ok (.iload_n 3, 1) := p_29 ndcX9_terms_1 (by decide +kernel)
theorem dX9_terms_110 : decode cX9_terms 110 = .ok (.ireturn, 1) := p_172 ndcX9_terms_1 (by decide +kernel)
def nkcX9_writes_0 : List Nat := [42, 180, 0, 222, 42, 180, 0, 225, 160, 0, 8, 42, 27, 181, 0, 228, 42, 42, 180, 0, 222, 4, 96, 181, 0, 222, 177]
theorem ndcX9_writes_0 : ((cX9_writes.data.toList.drop 0).take 66).map UInt8.toNat = nkcX9_writes_0 := by decide +kernel
theorem dX9_writes_0 : decode cX9_writes 0 = .ok (.aload_n 0, 1) := p_42 ndcX9_writes_0 (by decide +kernel)
theorem dX9_writes_1 : decode cX9_writes 1 = .ok (.getfield 222, 3) := p_180 ndcX9_writes_0 (by decide +kernel)
theorem dX9_writes_4 : decode cX9_writes 4 = .ok (.aload_n 0, 1) := p_42 ndcX9_writes_0 (by decide +kernel)
theorem dX9_writes_5 : decode cX9_writes 5 = .ok (.getfield 225, 3) := p_180 ndcX9_writes_0 (by decide +kernel)
theorem dX9_writes_8 : decode cX9_writes 8 = .ok (.if_icmp .ne 8, 3) := p_160 ndcX9_writes_0 8 (by decide +kernel) (by decide +kernel)
theorem dX9_writes_11 : decode cX9_writes 11 = .ok (.aload_n 0, 1) := p_42 ndcX9_writes_0 (by decide +kernel)
theorem dX9_writes_12 : decode cX9_writes 12 = .ok (.iload_n 1, 1) := p_27 ndcX9_writes_0 (by decide +kernel)
theorem dX9_writes_13 : decode cX9_writes 13 = .ok (.putfield 228, 3) := p_181 ndcX9_writes_0 (by decide +kernel)
theorem dX9_writes_16 : decode cX9_writes 16 = .ok (.aload_n 0, 1) := p_42 ndcX9_writes_0 (by decide +kernel)
theorem dX9_writes_17 : decode cX9_writes 17 = .ok (.aload_n 0, 1) := p_42 ndcX9_writes_0 (by decide +kernel)
theorem dX9_writes_18 : decode cX9_writes 18 = .ok (.getfield 222, 3) := p_180 ndcX9_writes_0 (by decide +kernel)
theorem dX9_writes_21 : decode cX9_writes 21 = .ok (.iconst 1, 1) := p_4 ndcX9_writes_0 (by decide +kernel)
theorem dX9_writes_22 : decode cX9_writes 22 = .ok (.iadd, 1) := p_96 ndcX9_writes_0 (by decide +kernel)
theorem dX9_writes_23 : decode cX9_writes 23 = .ok (.putfield 222, 3) := p_181 ndcX9_writes_0 (by decide +kernel)
theorem dX9_writes_26 : decode cX9_writes 26 = .ok (.return_, 1) := p_177 ndcX9_writes_0 (by decide +kernel)
def nkcX9_writesNumber_0 : List Nat := [18, 206, 61, 28, 158, 0, 34, 27, 28, 162, 0, 8, 28, 4, 160, 0, 16, 42, 16, 48, 27, 28, 108, 16, 10, 112, 96, 182, 0, 231, 28, 16, 10, 108, 61, 167, 255, 224, 177]
theorem ndcX9_writesNumber_0 : ((cX9_writesNumber.data.toList.drop 0).take 66).map UInt8.toNat = nkcX9_writesNumber_0 := by decide +kernel
theorem dX9_writesNumber_0 : decode cX9_writesNumber 0 = .ok (.ldc 206, 2) := p_18 ndcX9_writesNumber_0 (by decide +kernel)
theorem dX9_writesNumber_2 : decode cX9_writesNumber 2 = .ok (.istore_n 2, 1) := p_61 ndcX9_writesNumber_0 (by decide +kernel)
theorem dX9_writesNumber_3 : decode cX9_writesNumber 3 = .ok (.iload_n 2, 1) := p_28 ndcX9_writesNumber_0 (by decide +kernel)
theorem dX9_writesNumber_4 : decode cX9_writesNumber 4 = .ok (.ifCond .le 34, 3) := p_158 ndcX9_writesNumber_0 34 (by decide +kernel) (by decide +kernel)
theorem dX9_writesNumber_7 : decode cX9_writesNumber 7 = .ok (.iload_n 1, 1) := p_27 ndcX9_writesNumber_0 (by decide +kernel)
theorem dX9_writesNumber_8 : decode cX9_writesNumber 8 = .ok (.iload_n 2, 1) := p_28 ndcX9_writesNumber_0 (by decide +kernel)
theorem dX9_writesNumber_9 : decode cX9_writesNumber 9 = .ok (.if_icmp .ge 8, 3) := p_162 ndcX9_writesNumber_0 8 (by decide +kernel) (by decide +kernel)
theorem dX9_writesNumber_12 : decode cX9_writesNumber 12 = .ok (.iload_n 2, 1) := p_28 ndcX9_writesNumber_0 (by decide +kernel)
theorem dX9_writesNumber_13 : decode cX9_writesNumber 13 = .ok (.iconst 1, 1) := p_4 ndcX9_writesNumber_0 (by decide +kernel)
theorem dX9_writesNumber_14 : decode cX9_writesNumber 14 = .ok (.if_icmp .ne 16, 3) := p_160 ndcX9_writesNumber_0 16 (by decide +kernel) (by decide +kernel)
theorem dX9_writesNumber_17 : decode cX9_writesNumber 17 = .ok (.aload_n 0, 1) := p_42 ndcX9_writesNumber_0 (by decide +kernel)
end
