/-! pure: moves kept by the reference (own rows) -/
theorem kp80s (w : Int32) (m0 h0 : Nat → Int32) : ∀ (i n x a : Nat) (m hm K : Nat → Int32), x + i = 6 → a + 2 * i ≤ 1424 → (∀ y, m y = m0 y) → (∀ y, hm y = h0 y) → Sx (lpX9_keepsAll_80 w 1 (n + i + 1) (nI x) m hm K (nI a)) (fun z => (∀ y, z.1 y = m0 y) ∧ (∀ y, z.2.1 y = h0 y) ∧ (∀ y, z.2.2.1 y = if a ≤ y ∧ y < a + 2 * i then (if (y - a) % 2 = 0 then m0 (x + (y - a) / 2) else h0 (x + (y - a) / 2)) else K y) ∧ z.2.2.2 = nI (a + 2 * i)) := by
  intro i
  induction i with
  | zero =>
    intro n x a m hm K hi ha e1 e2
    rw [lpX9_keepsAll_80.eq_2, if_pos (show (6 : Int32) ≤ nI x from nI_le (a := 6) (by omega) (by omega))]
    exact Sx.mk ⟨e1, e2, fun y => by rw [if_neg (by omega)], rfl⟩
  | succ i ih =>
    intro n x a m hm K hi ha e1 e2
    rw [lpX9_keepsAll_80.eq_2, if_neg (show ¬ (6 : Int32) ≤ nI x from nI_ge (b := 6) (by omega) (by omega)), og32 (by omega) (by omega), ks1 _ _ (by omega), bd3_mk, og32 (by omega) (by omega), nm_mk, og32 (by omega) (by omega), ks1 _ _ (by omega), bd3_mk, og32 (by omega) (by omega), nm_mk, nm_mk, nI_1, nI_clamp (by omega), show n + (i + 1) = n + i + 1 by omega]
    refine (ih n (x + 1) (a + 1 + 1) _ _ _ (by omega) (by omega) (fun y => ?_) (fun y => ?_)).imp ?_
    · rw [upS]
      by_cases e : y = x
      · rw [if_pos e, e]; exact e1 x
      · rw [if_neg e]; exact e1 y
    · rw [upS]
      by_cases e : y = x
      · rw [if_pos e, e]; exact e2 x
      · rw [if_neg e]; exact e2 y
    · rintro z ⟨z1, z2, z3, z4⟩
      refine ⟨z1, z2, fun y => ?_, by rw [z4, show a + 1 + 1 + 2 * i = a + 2 * (i + 1) by omega]⟩
      rw [z3 y]
      by_cases g : a + 1 + 1 ≤ y ∧ y < a + 1 + 1 + 2 * i
      · rw [if_pos g, if_pos (show a ≤ y ∧ y < a + 2 * (i + 1) by omega), show (y - (a + 1 + 1)) % 2 = (y - a) % 2 by omega, show x + 1 + (y - (a + 1 + 1)) / 2 = x + (y - a) / 2 by omega]
      · rw [if_neg g, upS, upS]
        by_cases b1 : y = a + 1
        · rw [if_pos b1, if_pos (show a ≤ y ∧ y < a + 2 * (i + 1) by omega), if_neg (by omega), e2 x, show x + (y - a) / 2 = x by omega]
        · rw [if_neg b1]
          by_cases b0 : y = a
          · rw [if_pos b0, if_pos (show a ≤ y ∧ y < a + 2 * (i + 1) by omega), if_pos (by omega), e1 x, show x + (y - a) / 2 = x by omega]
          · rw [if_neg b0, if_neg (by omega)]
theorem kp80r (w : Int32) (K : Nat → Int32) : ∀ (i n x a : Nat) (m hm : Nat → Int32), x + i = 6 → a + 2 * i ≤ 1424 → Sx (lpX9_keepsAll_80 w 0 (n + i + 1) (nI x) m hm K (nI a)) (fun z => (∀ y, z.1 y = if x ≤ y ∧ y < 6 then K (a + 2 * (y - x)) else m y) ∧ (∀ y, z.2.1 y = if x ≤ y ∧ y < 6 then K (a + 2 * (y - x) + 1) else hm y) ∧ z.2.2.1 = K ∧ z.2.2.2 = nI (a + 2 * i)) := by
  intro i
  induction i with
  | zero =>
    intro n x a m hm hi ha
    rw [lpX9_keepsAll_80.eq_2, if_pos (show (6 : Int32) ≤ nI x from nI_le (a := 6) (by omega) (by omega))]
    exact Sx.mk ⟨fun y => by rw [if_neg (by omega)], fun y => by rw [if_neg (by omega)], rfl, rfl⟩
  | succ i ih =>
    intro n x a m hm hi ha
    rw [lpX9_keepsAll_80.eq_2, if_neg (show ¬ (6 : Int32) ≤ nI x from nI_ge (b := 6) (by omega) (by omega)), og32 (by omega) (by omega), ks0 _ _ (by omega), bd3_mk, og32 (by omega) (by omega), nm_mk, og32 (by omega) (by omega), ks0 _ _ (by omega), bd3_mk, og32 (by omega) (by omega), nm_mk, nm_mk, nI_1, nI_clamp (by omega), show n + (i + 1) = n + i + 1 by omega]
    refine (ih n (x + 1) (a + 1 + 1) _ _ (by omega) (by omega)).imp ?_
    rintro z ⟨z1, z2, z3, z4⟩
    refine ⟨fun y => ?_, fun y => ?_, z3, by rw [z4, show a + 1 + 1 + 2 * i = a + 2 * (i + 1) by omega]⟩
    · rw [z1 y]
      by_cases g : x + 1 ≤ y ∧ y < 6
      · rw [if_pos g, if_pos (by omega), show a + 1 + 1 + 2 * (y - (x + 1)) = a + 2 * (y - x) by omega]
      · rw [if_neg g, upS]
        by_cases e : y = x
        · rw [if_pos e, if_pos (by omega), show a + 2 * (y - x) = a by omega]
        · rw [if_neg e, if_neg (by omega)]
    · rw [z2 y]
      by_cases g : x + 1 ≤ y ∧ y < 6
      · rw [if_pos g, if_pos (by omega), show a + 1 + 1 + 2 * (y - (x + 1)) + 1 = a + 2 * (y - x) + 1 by omega]
      · rw [if_neg g, upS]
        by_cases e : y = x
        · rw [if_pos e, if_pos (by omega), show a + 2 * (y - x) + 1 = a + 1 by omega]
        · rw [if_neg e, if_neg (by omega)]
