/-! pure: states kept by the reference (own rows) -/
theorem ks1 (v : Int32) (K : Nat → Int32) {a : Nat} (h : a < 1424) : fX9_keeps v K (nI a) 1 = some (v, upd K a v, nI (a + 1)) := by
  unfold fX9_keeps
  rw [if_neg one0, og32 h (by omega), nm_mk, bd1_mk, nm_mk, nI_1, i_1, pk_sub (by omega), Nat.add_sub_cancel, og32 h (by omega), nI_clamp (by omega), upS, if_pos rfl]
theorem ks0 (v : Int32) (K : Nat → Int32) {a : Nat} (h : a < 1424) : fX9_keeps v K (nI a) 0 = some (K a, K, nI (a + 1)) := by
  unfold fX9_keeps
  rw [if_pos rfl, bd1_mk, nm_mk, nI_1, i_1, pk_sub (by omega), Nat.add_sub_cancel, og32 h (by omega), nI_clamp (by omega)]
theorem kp19s (w : Int32) (t0 : Nat → Int32) : ∀ (i n x a : Nat) (t K : Nat → Int32), x + i = 18 → a + i ≤ 1424 → (∀ y, t y = t0 y) → Sx (lpX9_keepsAll_19 w 1 (n + i + 1) (nI x) t K (nI a)) (fun z => (∀ y, z.1 y = t0 y) ∧ (∀ y, z.2.1 y = if a ≤ y ∧ y < a + i then t0 (x + (y - a)) else K y) ∧ z.2.2 = nI (a + i)) := by
  intro i
  induction i with
  | zero =>
    intro n x a t K hi ha h
    rw [lpX9_keepsAll_19.eq_2, if_pos (show (18 : Int32) ≤ nI x from nI_le (a := 18) (by omega) (by omega))]
    exact Sx.mk ⟨h, fun y => by rw [if_neg (by omega)], rfl⟩
  | succ i ih =>
    intro n x a t K hi ha h
    rw [lpX9_keepsAll_19.eq_2, if_neg (show ¬ (18 : Int32) ≤ nI x from nI_ge (b := 18) (by omega) (by omega)), og32 (by omega) (by omega), ks1 _ _ (by omega), bd3_mk, og32 (by omega) (by omega), nm_mk, nm_mk, nI_1, nI_clamp (by omega), show n + (i + 1) = n + i + 1 by omega]
    refine (ih n (x + 1) (a + 1) _ _ (by omega) (by omega) (fun y => ?_)).imp ?_
    · rw [upS]
      by_cases e : y = x
      · rw [if_pos e, e]; exact h x
      · rw [if_neg e]; exact h y
    · rintro z ⟨z1, z2, z3⟩
      refine ⟨z1, fun y => ?_, by rw [z3, show a + 1 + i = a + (i + 1) by omega]⟩
      rw [z2 y]
      by_cases g : a + 1 ≤ y ∧ y < a + 1 + i
      · rw [if_pos g, if_pos (by omega), show x + 1 + (y - (a + 1)) = x + (y - a) by omega]
      · rw [if_neg g, upS]
        by_cases e : y = a
        · rw [if_pos e, if_pos (by omega), h x, show x + (y - a) = x by omega]
        · rw [if_neg e, if_neg (by omega)]
theorem kp19r (w : Int32) (K : Nat → Int32) : ∀ (i n x a : Nat) (t : Nat → Int32), x + i = 18 → a + i ≤ 1424 → Sx (lpX9_keepsAll_19 w 0 (n + i + 1) (nI x) t K (nI a)) (fun z => (∀ y, z.1 y = if x ≤ y ∧ y < 18 then K (a + (y - x)) else t y) ∧ z.2.1 = K ∧ z.2.2 = nI (a + i)) := by
  intro i
  induction i with
  | zero =>
    intro n x a t hi ha
    rw [lpX9_keepsAll_19.eq_2, if_pos (show (18 : Int32) ≤ nI x from nI_le (a := 18) (by omega) (by omega))]
    exact Sx.mk ⟨fun y => by rw [if_neg (by omega)], rfl, rfl⟩
  | succ i ih =>
    intro n x a t hi ha
    rw [lpX9_keepsAll_19.eq_2, if_neg (show ¬ (18 : Int32) ≤ nI x from nI_ge (b := 18) (by omega) (by omega)), og32 (by omega) (by omega), ks0 _ _ (by omega), bd3_mk, og32 (by omega) (by omega), nm_mk, nm_mk, nI_1, nI_clamp (by omega), show n + (i + 1) = n + i + 1 by omega]
    refine (ih n (x + 1) (a + 1) _ (by omega) (by omega)).imp ?_
    rintro z ⟨z1, z2, z3⟩
    refine ⟨fun y => ?_, z2, by rw [z3, show a + 1 + i = a + (i + 1) by omega]⟩
    rw [z1 y]
    by_cases g : x + 1 ≤ y ∧ y < 18
    · rw [if_pos g, if_pos (by omega), show a + 1 + (y - (x + 1)) = a + (y - x) by omega]
    · rw [if_neg g, upS]
      by_cases e : y = x
      · rw [if_pos e, if_pos (by omega), show a + (y - x) = a by omega]
      · rw [if_neg e, if_neg (by omega)]
theorem kp49s (w : Int32) (t0 : Nat → Int32) : ∀ (i n x a : Nat) (t K : Nat → Int32), x + i = 135 → a + i ≤ 1424 → (∀ y, t y = t0 y) → Sx (lpX9_keepsAll_49 w 1 (n + i + 1) (nI x) t K (nI a)) (fun z => (∀ y, z.1 y = t0 y) ∧ (∀ y, z.2.1 y = if a ≤ y ∧ y < a + i then t0 (x + (y - a)) else K y) ∧ z.2.2 = nI (a + i)) := by
  intro i
  induction i with
  | zero =>
    intro n x a t K hi ha h
    rw [lpX9_keepsAll_49.eq_2, if_pos (show (135 : Int32) ≤ nI x from nI_le (a := 135) (by omega) (by omega))]
    exact Sx.mk ⟨h, fun y => by rw [if_neg (by omega)], rfl⟩
  | succ i ih =>
    intro n x a t K hi ha h
    rw [lpX9_keepsAll_49.eq_2, if_neg (show ¬ (135 : Int32) ≤ nI x from nI_ge (b := 135) (by omega) (by omega)), og32 (by omega) (by omega), ks1 _ _ (by omega), bd3_mk, og32 (by omega) (by omega), nm_mk, nm_mk, nI_1, nI_clamp (by omega), show n + (i + 1) = n + i + 1 by omega]
    refine (ih n (x + 1) (a + 1) _ _ (by omega) (by omega) (fun y => ?_)).imp ?_
    · rw [upS]
      by_cases e : y = x
      · rw [if_pos e, e]; exact h x
      · rw [if_neg e]; exact h y
    · rintro z ⟨z1, z2, z3⟩
      refine ⟨z1, fun y => ?_, by rw [z3, show a + 1 + i = a + (i + 1) by omega]⟩
      rw [z2 y]
      by_cases g : a + 1 ≤ y ∧ y < a + 1 + i
      · rw [if_pos g, if_pos (by omega), show x + 1 + (y - (a + 1)) = x + (y - a) by omega]
      · rw [if_neg g, upS]
        by_cases e : y = a
        · rw [if_pos e, if_pos (by omega), h x, show x + (y - a) = x by omega]
        · rw [if_neg e, if_neg (by omega)]
theorem kp49r (w : Int32) (K : Nat → Int32) : ∀ (i n x a : Nat) (t : Nat → Int32), x + i = 135 → a + i ≤ 1424 → Sx (lpX9_keepsAll_49 w 0 (n + i + 1) (nI x) t K (nI a)) (fun z => (∀ y, z.1 y = if x ≤ y ∧ y < 135 then K (a + (y - x)) else t y) ∧ z.2.1 = K ∧ z.2.2 = nI (a + i)) := by
  intro i
  induction i with
  | zero =>
    intro n x a t hi ha
    rw [lpX9_keepsAll_49.eq_2, if_pos (show (135 : Int32) ≤ nI x from nI_le (a := 135) (by omega) (by omega))]
    exact Sx.mk ⟨fun y => by rw [if_neg (by omega)], rfl, rfl⟩
  | succ i ih =>
    intro n x a t hi ha
    rw [lpX9_keepsAll_49.eq_2, if_neg (show ¬ (135 : Int32) ≤ nI x from nI_ge (b := 135) (by omega) (by omega)), og32 (by omega) (by omega), ks0 _ _ (by omega), bd3_mk, og32 (by omega) (by omega), nm_mk, nm_mk, nI_1, nI_clamp (by omega), show n + (i + 1) = n + i + 1 by omega]
    refine (ih n (x + 1) (a + 1) _ (by omega) (by omega)).imp ?_
    rintro z ⟨z1, z2, z3⟩
    refine ⟨fun y => ?_, z2, by rw [z3, show a + 1 + i = a + (i + 1) by omega]⟩
    rw [z1 y]
    by_cases g : x + 1 ≤ y ∧ y < 135
    · rw [if_pos g, if_pos (by omega), show a + 1 + (y - (x + 1)) = a + (y - x) by omega]
    · rw [if_neg g, upS]
      by_cases e : y = x
      · rw [if_pos e, if_pos (by omega), show a + (y - x) = a by omega]
      · rw [if_neg e, if_neg (by omega)]
