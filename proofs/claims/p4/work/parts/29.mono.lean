/-! pure: the value rises with coupon and ratio, falls with the rate; least ones (own rows) -/
theorem bG_eq (π : Nat → Nat → Nat) (β : Nat → Nat) (t j u m h : Nat) : bG π β t j u m h = max (max (puL β t) (tuS π β t j u)) (if frF β t m then min (cgS π β t j u) (h + 1) else h + 1) := by
  unfold bG
  by_cases h1 : frF β t m
  · rw [if_pos h1]
    by_cases h2 : cgS π β t j u < h + 1
    · rw [if_pos ⟨h1, h2⟩, Nat.min_eq_left (by omega)]
    · rw [if_neg (fun q => h2 q.2), Nat.min_eq_right (by omega)]
  · rw [if_neg h1, if_neg (fun q => h1 q.1)]
theorem mn_mono {p q R R' a b a' b' : Nat} (hq : 1 ≤ q) (hR : R' ≤ R) (ha : a ≤ a') (hb : b ≤ b') : mn p q R a b ≤ mn p q R' a' b' := by
  unfold mn
  refine Nat.div_le_div ?_ ?_ ?_
  · exact Nat.mul_le_mul (Nat.add_le_add (Nat.mul_le_mul (Nat.le_refl p) ha) (Nat.mul_le_mul (Nat.le_refl _) hb)) (Nat.le_refl _)
  · exact Nat.mul_le_mul (Nat.le_refl q) (by omega)
  · exact Nat.pos_iff_ne_zero.mp (Nat.mul_pos hq (by omega))
/-- two bonds, the one no more than the other -/
abbrev BL (π : Nat → Nat → Nat) (β β' : Nat → Nat) : Prop := β 0 ≤ β' 0 ∧ β 23 = β' 23 ∧ β 24 = β' 24 ∧ β 25 = β' 25 ∧ (∀ t, caL β t = caL β' t) ∧ (∀ t, puL β t = puL β' t) ∧ (∀ t, cpF β t ≤ cpF β' t) ∧ (∀ t j u, tuS π β t j u ≤ tuS π β' t j u)
theorem vG_mono {π : Nat → Nat → Nat} {T p q R R' : Nat} {β β' : Nat → Nat} (hq : 1 ≤ q) (hR : R' ≤ R) (h : BL π β β') : ∀ n j u m, vG π T p q R β (bV π β) n j u m ≤ vG π T p q R' β' (bV π β') n j u m := by
  obtain ⟨h0, h23, h24, h25, hca, hpu, hcp, htu⟩ := h
  have hhi : ∀ x, hiF β x = hiF β' x := fun x => by unfold hiF; rw [h25]
  have hmk : ∀ m t j, mkF π β m t j = mkF π β' m t j := fun m t j => by unfold mkF; rw [hhi]
  intro n
  induction n with
  | zero =>
    intro j u m
    rw [vG_0, vG_0]
    unfold enV
    have := hcp T
    have := htu T j u
    omega
  | succ n ih =>
    intro j u m
    rw [vG_s, vG_s]
    have hh : hG π T p q R β (bV π β) n j m ≤ hG π T p q R' β' (bV π β') n j m := by
      unfold hG
      refine mn_mono hq hR ?_ ?_
      · rw [hmk]; exact ih _ _ _
      · rw [hmk]; exact ih _ _ _
    generalize hG π T p q R β (bV π β) n j m = a at hh ⊢
    generalize hG π T p q R' β' (bV π β') n j m = b at hh ⊢
    generalize T - (n + 1) = t
    unfold bV
    rw [bG_eq, bG_eq]
    have e1 := hcp t
    have e2 := htu t j u
    have e3 := hpu t
    have e4 := hca t
    have e5 : hdF β m = hdF β' m := by unfold hdF; rw [h24]
    have e6 : cgS π β t j u ≤ cgS π β' t j u := by unfold cgS; omega
    by_cases g : frF β t m
    · have g' : frF β' t m := by unfold frF; rw [← e4, ← h23, ← e5]; exact g
      rw [if_pos g, if_pos g']
      omega
    · have g' : ¬ frF β' t m := by unfold frF; rw [← e4, ← h23, ← e5]; exact g
      rw [if_neg g, if_neg g']
      omega
theorem V0_mono {π : Nat → Nat → Nat} {T p q R R' : Nat} {β β' : Nat → Nat} (hq : 1 ≤ q) (hR : R' ≤ R) (h : BL π β β') : V0 π T p q R β ≤ V0 π T p q R' β' := by
  unfold V0
  have e : hiF β (π 0 0) = hiF β' (π 0 0) := by unfold hiF; rw [h.2.2.2.1]
  rw [e]
  exact vG_mono hq hR h _ _ _ _
def setc (β : Nat → Nat) (c : Nat) : Nat → Nat := fun i => if 3 ≤ i ∧ i ≤ 8 then c else β i
theorem setc_n (β : Nat → Nat) (c : Nat) {i : Nat} (h : ¬ (3 ≤ i ∧ i ≤ 8)) : setc β c i = β i := if_neg h
theorem setc_y (β : Nat → Nat) (c : Nat) {i : Nat} (h : 3 ≤ i ∧ i ≤ 8) : setc β c i = c := if_pos h
theorem setc_BK {β : Nat → Nat} (h : BK β) {c : Nat} (hc : c ≤ 1000) : BK (setc β c) := by
  obtain ⟨a, b, c1, d, e, f, g, i, j, k, l⟩ := h
  refine ⟨?_, ?_, ?_, ?_, ?_, ?_, ?_, ?_, ?_, ?_, ?_⟩
  · rw [setc_n _ _ (by omega)]; exact a
  · rw [setc_n _ _ (by omega)]; exact b
  · intro t h1 h2; rw [setc_y _ _ (by omega)]; exact hc
  · intro t h1; rw [setc_n _ _ (by omega)]; exact d t h1
  · intro t h1; rw [setc_n _ _ (by omega)]; exact e t h1
  all_goals rw [setc_n _ _ (by omega)]; assumption
theorem setc_BL (π : Nat → Nat → Nat) (β : Nat → Nat) {c c' : Nat} (h : c ≤ c') : BL π (setc β c) (setc β c') := by
  have e : ∀ {i}, ¬ (3 ≤ i ∧ i ≤ 8) → setc β c i = setc β c' i := fun hi => by rw [setc_n _ _ hi, setc_n _ _ hi]
  refine ⟨by rw [e (by omega)]; exact Nat.le_refl _, e (by omega), e (by omega), e (by omega), ?_, ?_, ?_, ?_⟩
  · intro t; unfold caL; split
    · exact e (by omega)
    · rfl
  · intro t; unfold puL; split
    · exact e (by omega)
    · rfl
  · intro t; unfold cpF; split
    · rw [setc_y _ _ (by omega), setc_y _ _ (by omega)]; exact h
    · exact Nat.le_refl _
  · intro t j u
    unfold tuS tuF twF shF caF inW
    rw [e (i := 21) (by omega), e (i := 22) (by omega), e (i := 26) (by omega), e (i := 1) (by omega)]
    exact Nat.le_refl _
theorem bup_s (β : Nat → Nat) (a v : Nat) : bup β a v a = v := if_pos rfl
theorem bup_n (β : Nat → Nat) {a i : Nat} (v : Nat) (h : i ≠ a) : bup β a v i = β i := if_neg h
theorem bup1_BK {β : Nat → Nat} (h : BK β) {c : Nat} (hc : c ≤ 1000) : BK (bup β 1 c) := by
  obtain ⟨a, b, c1, d, e, f, g, i, j, k, l⟩ := h
  refine ⟨?_, ?_, ?_, ?_, ?_, ?_, ?_, ?_, ?_, ?_, ?_⟩
  · rw [bup_n _ _ (by omega)]; exact a
  · rw [bup_s]; exact hc
  · intro t h1 h2; rw [bup_n _ _ (by omega)]; exact c1 t h1 h2
  · intro t h1; rw [bup_n _ _ (by omega)]; exact d t h1
  · intro t h1; rw [bup_n _ _ (by omega)]; exact e t h1
  all_goals rw [bup_n _ _ (by omega)]; assumption
theorem bup1_BL (π : Nat → Nat → Nat) (β : Nat → Nat) {c c' : Nat} (h : c ≤ c') : BL π (bup β 1 c) (bup β 1 c') := by
  have e : ∀ {i}, i ≠ 1 → bup β 1 c i = bup β 1 c' i := fun hi => by rw [bup_n _ _ hi, bup_n _ _ hi]
  refine ⟨by rw [e (by omega)]; exact Nat.le_refl _, e (by omega), e (by omega), e (by omega), ?_, ?_, ?_, ?_⟩
  · intro t; unfold caL; split
    · exact e (by omega)
    · rfl
  · intro t; unfold puL; split
    · exact e (by omega)
    · rfl
  · intro t; unfold cpF; split
    · rw [e (by omega)]; exact Nat.le_refl _
    · exact Nat.le_refl _
  · intro t j u
    have s : ∀ x, shF (bup β 1 c) x ≤ shF (bup β 1 c') x := fun x => by
      unfold shF; rw [bup_s, bup_s]; exact Nat.div_le_div_right (Nat.mul_le_mul h (Nat.le_refl _))
    have k : ∀ x y, caF (bup β 1 c) x y ≤ caF (bup β 1 c') x y := fun x y => by
      unfold caF; rw [bup_s, bup_s]; exact Nat.div_le_div_right (Nat.mul_le_mul h (Nat.le_refl _))
    have s1 := s (π t j)
    have k1 := k (π t j) (ahF π t j u)
    unfold tuS tuF twF inW
    rw [e (i := 21) (by omega), e (i := 22) (by omega), e (i := 26) (by omega)]
    split
    · split
      · omega
      · split
        · omega
        · split <;> omega
    · exact Nat.le_refl _
/-- the least of P up to N -/
def Fa (P : Nat → Prop) (N : Nat) (x : Int32) : Prop := (∃ c, c ≤ N ∧ P c ∧ (∀ d, d < c → ¬ P d) ∧ x = nI c) ∨ ((∀ c, c ≤ N → ¬ P c) ∧ x = -2)
theorem Fa.u {P : Nat → Prop} {N : Nat} {x y : Int32} (hx : Fa P N x) (hy : Fa P N y) : x = y := by
  rcases hx with ⟨c, a1, a2, a3, rfl⟩ | ⟨a1, rfl⟩
  · rcases hy with ⟨d, b1, b2, b3, rfl⟩ | ⟨b1, rfl⟩
    · have h1 : ¬ d < c := fun q => a3 d q b2
      have h2 : ¬ c < d := fun q => b3 c q a2
      rw [show c = d by omega]
    · exact absurd a2 (b1 c a1)
  · rcases hy with ⟨d, b1, b2, b3, rfl⟩ | ⟨b1, rfl⟩
    · exact absurd b2 (a1 d b1)
    · rfl
theorem FU_big : 100000 ≤ FU := Nat.le_of_ble_eq_true rfl
theorem fuB (k : Nat) (h : k ≤ 100000) : ∃ n, FU = n + k := ⟨FU - k, by have := FU_big; omega⟩
theorem m1s (a : Nat) {s : Nat} (h : 1 ≤ s) : nI a - 1 + nI s = nI (a + s - 1) := by
  obtain ⟨t, rfl⟩ : ∃ t, s = 1 + t := ⟨s - 1, by omega⟩
  rw [← nI_add 1 t, ← Int32.add_assoc, i_1, Int32.sub_add_cancel, nI_add]
  congr 1
  omega
theorem m1t {a : Nat} (h : a < 2 ^ 30) : (nI a - 1).toInt = (a : Int) - 1 := by
  rw [i_1, pk_sub_toInt h (by omega)]
  rfl
/-- what a halving knows -/
abbrev Hv (P : Nat → Prop) (N a w : Nat) : Prop := a ≤ N + 1 ∧ (∀ c, c < a → ¬ P c) ∧ (∀ c, a + w ≤ c + 1 → c ≤ N → P c)
theorem Hv.end {P : Nat → Prop} {N a : Nat} (hN : N ≤ 1000) (h : Hv P N a 1) : Fa P N (if nI N ≤ nI a - 1 then -2 else nI a - 1 + 1) := by
  by_cases g : N < a
  · rw [if_pos]
    · right
      exact ⟨fun c hc => h.2.1 c (by omega), rfl⟩
    · rw [Int32.le_iff_toInt_le, m1t (by omega), nI_toInt (by omega)]; omega
  · rw [if_neg]
    · left
      refine ⟨a, by omega, h.2.2 a (by omega) (by omega), h.2.1, ?_⟩
      rw [i_1, Int32.sub_add_cancel]
    · rw [Int32.le_iff_toInt_le, m1t (by omega), nI_toInt (by omega)]; omega
theorem Hv.skip {P : Nat → Prop} {N a w w' : Nat} (h : Hv P N a w) (g : N + 1 < a + w') : Hv P N a w' := ⟨h.1, h.2.1, fun c h1 h2 => absurd h2 (by omega)⟩
theorem Hv.fair {P : Nat → Prop} {N a w w' : Nat} (hm : ∀ c d, c ≤ d → d ≤ N → P c → P d) (h : Hv P N a w) (g : a + w' ≤ N + 1) (hw : 1 ≤ w') (hP : P (a + w' - 1)) : Hv P N a w' := ⟨h.1, h.2.1, fun c h1 h2 => hm (a + w' - 1) c (by omega) h2 hP⟩
theorem Hv.un {P : Nat → Prop} {N a w w' : Nat} (hm : ∀ c d, c ≤ d → d ≤ N → P c → P d) (h : Hv P N a w) (g : a + w' ≤ N + 1) (hw : 1 ≤ w') (e : w = 2 * w') (hP : ¬ P (a + w' - 1)) : Hv P N (a + w') w' := ⟨g, fun c h1 h2 => hP (hm c (a + w' - 1) (by omega) (by omega) h2), fun c h1 h2 => h.2.2 c (by omega) h2⟩
