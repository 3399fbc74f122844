/-! pure: the tape (own rows) -/
def sB (v : Nat) : Int32 := (nI v).toInt8.toInt32
theorem toI8 (y : Int32) : y.toInt8 = (nI (y.toBitVec.toNat % 256)).toInt8 := by
  have h : y = nI y.toBitVec.toNat := by
    refine Int32.toBitVec_inj.mp ?_
    refine BitVec.eq_of_toNat_eq ?_
    rw [pk_tn y.toBitVec.isLt]
  have e : ∀ n : Nat, (nI n).toInt8 = Int8.ofNat n := fun n => Int32.toInt8_ofNat
  rw [e]
  conv => lhs; rw [h, e]
  refine Int8.toBitVec_inj.mp ?_
  refine BitVec.eq_of_toNat_eq ?_
  show y.toBitVec.toNat % 2 ^ 8 = y.toBitVec.toNat % 256 % 2 ^ 8
  rw [Nat.mod_mod_of_dvd _ (by decide)]
theorem byC (y : Int32) : y &&& 255 = nI (y.toBitVec.toNat % 256) := pk_and y 8 rfl
theorem byM (y : Int32) : vp_nar .byte (Int8.toInt32 (Int32.toInt8 y)) = sB (y.toBitVec.toNat % 256) := by
  rw [pk_vb, toI8]; rfl
/-- what both tapes hold -/
abbrev TQ (n : Nat) (v : Nat → Nat) (size : Int32) (bytes tape : Nat → Int32) (taped : Int32) : Prop := n ≤ 200 ∧ size = nI n ∧ taped = nI n ∧ ∀ i, i < n → v i < 256 ∧ bytes i = nI (v i) ∧ tape i = sB (v i)
def vup (v : Nat → Nat) (n x : Nat) : Nat → Nat := fun i => if i = n then x else v i
theorem ap8 (x s : Int32) {m n : Nat} (hn : n < 200) (hs : ¬ s < 0) (by8 : Nat → Int32) : lpX6_append_3 x (m + 1) s (nI n) by8 = lpX6_append_3 x m (s + (-8)) (nI (n + 1)) (upd by8 n (nI ((x >>> (s &&& 31)).toBitVec.toNat % 256))) := by
  rw [lpX6_append_3.eq_2, if_neg hs, if_neg (show ¬ (200 : Int32) ≤ nI n from nI_ge (b := 200) hn (by omega)), og32 hn (by omega), nm_mk, nm_mk, nm_mk, nI_clamp (by omega), byC, nI_1]
theorem ap9 (x s : Int32) {m n : Nat} (hn : n < 200) (hs : ¬ s < 0) (tp : Nat → Int32) : lpX9_typed4_2 x (m + 1) s tp (nI n) = lpX9_typed4_2 x m (s + (-1)) (upd tp n (sB ((x >>> ((8 * s) &&& 31)).toBitVec.toNat % 256))) (nI (n + 1)) := by
  rw [lpX9_typed4_2.eq_2, if_neg hs, og32 hn (by omega), nm_mk, nm_mk, nm_mk, nI_clamp (by omega), byM, nI_1]
theorem TQ.up {n : Nat} {v : Nat → Nat} {by8 tp : Nat → Int32} (h : ∀ i, i < n → v i < 256 ∧ by8 i = nI (v i) ∧ tp i = sB (v i)) (y : Int32) : ∀ i, i < n + 1 → vup v n (y.toBitVec.toNat % 256) i < 256 ∧ upd by8 n (nI (y.toBitVec.toNat % 256)) i = nI (vup v n (y.toBitVec.toNat % 256) i) ∧ upd tp n (sB (y.toBitVec.toNat % 256)) i = sB (vup v n (y.toBitVec.toNat % 256) i) := by
  intro i hi
  rw [upS, upS]
  unfold vup
  by_cases e : i = n
  · rw [if_pos e, if_pos e, if_pos e]
    exact ⟨Nat.mod_lt _ (by omega), rfl, rfl⟩
  · rw [if_neg e, if_neg e, if_neg e]
    exact h i (by omega)
theorem ap1 (x : Int32) {n : Nat} {v : Nat → Nat} {by8 tp : Nat → Int32} (hn : n + 4 ≤ 200) (h : ∀ i, i < n → v i < 256 ∧ by8 i = nI (v i) ∧ tp i = sB (v i)) : ∃ (by8' tp' : Nat → Int32) (v' : Nat → Nat), fX6_append x (nI n) by8 = some (nI (n + 4), by8') ∧ fX9_typed4 x tp (nI n) = some (tp', nI (n + 4)) ∧ ∀ i, i < n + 4 → v' i < 256 ∧ by8' i = nI (v' i) ∧ tp' i = sB (v' i) := by
  obtain ⟨m, hm⟩ := fuN 5 (by omega)
  have h1 := TQ.up h (x >>> ((24 : Int32) &&& 31))
  have h2 := TQ.up h1 (x >>> ((16 : Int32) &&& 31))
  have h3 := TQ.up h2 (x >>> ((8 : Int32) &&& 31))
  have h4 := TQ.up h3 (x >>> ((0 : Int32) &&& 31))
  refine ⟨_, _, _, ?_, ?_, h4⟩
  · unfold fX6_append
    rw [hm, ap8 x 24 (by omega) (by decide), show (24 : Int32) + (-8) = 16 by decide, ap8 x 16 (by omega) (by decide), show (16 : Int32) + (-8) = 8 by decide, ap8 x 8 (by omega) (by decide), show (8 : Int32) + (-8) = 0 by decide, ap8 x 0 (by omega) (by decide), lpX6_append_3.eq_2, if_pos (by decide), bd2_mk]
  · unfold fX9_typed4
    rw [hm, ap9 x 3 (by omega) (by decide), show (3 : Int32) + (-1) = 2 by decide, ap9 x 2 (by omega) (by decide), show (2 : Int32) + (-1) = 1 by decide, ap9 x 1 (by omega) (by decide), show (1 : Int32) + (-1) = 0 by decide, ap9 x 0 (by omega) (by decide), lpX9_typed4_2.eq_2, if_pos (by decide), bd2_mk]
    rw [show ((8 : Int32) * 3) &&& 31 = 24 &&& 31 by decide, show ((8 : Int32) * 2) &&& 31 = 16 &&& 31 by decide, show ((8 : Int32) * 1) &&& 31 = 8 &&& 31 by decide, show ((8 : Int32) * 0) &&& 31 = 0 &&& 31 by decide]
abbrev TPQ (size : Int32) (bytes tape : Nat → Int32) (taped : Int32) : Prop := ∃ (n : Nat) (v : Nat → Nat), TQ n v size bytes tape taped
theorem q_feed {size taped : Int32} {bytes tape : Nat → Int32} (h : TPQ size bytes tape taped) (p1 p2 p3 p4 p5 : Int32) : Sx2 (fX8_feed p1 p2 p3 p4 p5 size bytes) (fX9_feed p1 p2 p3 p4 p5 tape taped) (fun s t => TPQ s.1 s.2 t.1 t.2) := by
  obtain ⟨n, v, hn, rfl, rfl, hv⟩ := h
  by_cases g : n + 20 ≤ 200
  · obtain ⟨b1, t1, v1, e1, f1, h1⟩ := ap1 p1 (by omega) hv
    obtain ⟨b2, t2, v2, e2, f2, h2⟩ := ap1 p2 (by omega) h1
    obtain ⟨b3, t3, v3, e3, f3, h3⟩ := ap1 p3 (by omega) h2
    obtain ⟨b4, t4, v4, e4, f4, h4⟩ := ap1 p4 (by omega) h3
    obtain ⟨b5, t5, v5, e5, f5, h5⟩ := ap1 p5 (by omega) h4
    refine Sx2.mk (r := nI (n + 4 + 4 + 4 + 4 + 4)) (s1 := (nI (n + 4 + 4 + 4 + 4 + 4), b5)) (s2 := (t5, nI (n + 4 + 4 + 4 + 4 + 4))) ?_ ?_ ⟨_, v5, by omega, rfl, rfl, h5⟩
    · unfold fX8_feed fX6_size
      rw [bd1_mk, i_20, nI_add, if_pos (show nI (n + 20) ≤ (200 : Int32) from nI_le (b := 200) g (by omega)), e1, bd2_mk, e2, bd2_mk, e3, bd2_mk, e4, bd2_mk, e5, bd2_mk, bd1_mk]
    · unfold fX9_feed
      rw [i_20, nI_add, if_pos (show nI (n + 20) ≤ (200 : Int32) from nI_le (b := 200) g (by omega)), f1, bd2_mk, f2, bd2_mk, f3, bd2_mk, f4, bd2_mk, f5, bd2_mk]
  · refine Sx2.mk (r := -1) (s1 := (nI n, bytes)) (s2 := (tape, nI n)) ?_ ?_ ⟨n, v, hn, rfl, rfl, hv⟩
    · unfold fX8_feed fX6_size
      rw [bd1_mk, i_20, nI_add, if_neg (show ¬ nI (n + 20) ≤ (200 : Int32) from nI_ge (a := 200) (by omega) (by omega))]
    · unfold fX9_feed
      rw [i_20, nI_add, if_neg (show ¬ nI (n + 20) ≤ (200 : Int32) from nI_ge (a := 200) (by omega) (by omega))]
