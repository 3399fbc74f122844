/-! pure: rights given up, and the best of three, both sides (own rows) -/
abbrev BE (π : Nat → Nat → Nat) (β β' : Nat → Nat) : Prop := β 0 = β' 0 ∧ β 23 = β' 23 ∧ β 24 = β' 24 ∧ β 25 = β' 25 ∧ (∀ t, caL β t = caL β' t) ∧ (∀ t, puL β t = puL β' t) ∧ (∀ t, cpF β t = cpF β' t) ∧ (∀ t j u, t ≤ 6 → tuS π β t j u = tuS π β' t j u)
theorem vG_e {π : Nat → Nat → Nat} {T p q R : Nat} {β β' : Nat → Nat} (hT : T ≤ 6) (h : BE π β β') : ∀ n j u m, vG π T p q R β (bV π β) n j u m = vG π T p q R β' (bV π β') n j u m := by
  obtain ⟨h0, h23, h24, h25, hca, hpu, hcp, htu⟩ := h
  have hhi : ∀ x, hiF β x = hiF β' x := fun x => by unfold hiF; rw [h25]
  have hmk : ∀ m t j, mkF π β m t j = mkF π β' m t j := fun m t j => by unfold mkF; rw [hhi]
  intro n
  induction n with
  | zero =>
    intro j u m
    rw [vG_0, vG_0]
    unfold enV
    rw [hcp T, htu T j u hT, h0]
  | succ n ih =>
    intro j u m
    rw [vG_s, vG_s]
    have hh : hG π T p q R β (bV π β) n j m = hG π T p q R β' (bV π β') n j m := by
      unfold hG
      rw [hmk, hmk, ih, ih]
    rw [hh]
    generalize hG π T p q R β' (bV π β') n j m = b
    have ht : T - (n + 1) ≤ 6 := by omega
    generalize T - (n + 1) = t at ht ⊢
    unfold bV
    rw [bG_eq, bG_eq]
    have e1 := hcp t
    have e2 := htu t j u ht
    have e3 := hpu t
    have e4 := hca t
    have e5 : hdF β m = hdF β' m := by unfold hdF; rw [h24]
    have e6 : cgS π β t j u = cgS π β' t j u := by unfold cgS; omega
    by_cases g : frF β t m
    · have g' : frF β' t m := by unfold frF; rw [← e4, ← h23, ← e5]; exact g
      rw [if_pos g, if_pos g', e1, e2, e3, e6]
    · have g' : ¬ frF β' t m := by unfold frF; rw [← e4, ← h23, ← e5]; exact g
      rw [if_neg g, if_neg g', e1, e2, e3]
theorem V1_e {τ β β' : Nat → Nat} (hT : TK τ) (h : BE (prF τ (τ 1)) β β') : V1 τ β = V1 τ β' := by
  unfold V1 V0
  have e : hiF β (prF τ (τ 1) 0 0) = hiF β' (prF τ (τ 1) 0 0) := by unfold hiF; rw [h.2.2.2.1]
  rw [e]
  exact vG_e (by omega) h _ _ _ _
theorem BE_w (π : Nat → Nat → Nat) {β β' : Nat → Nat} (h : ∀ i, i ≠ 22 → β i = β' i) (h7 : β 21 = 7) : BE π β β' := by
  refine ⟨h 0 (by omega), h 23 (by omega), h 24 (by omega), h 25 (by omega), fun t => ?_, fun t => ?_, fun t => ?_, fun t j u ht => ?_⟩
  · unfold caL
    by_cases g : t < 6
    · rw [if_pos g, if_pos g, h _ (by omega)]
    · rw [if_neg g, if_neg g]
  · unfold puL
    by_cases g : t < 6
    · rw [if_pos g, if_pos g, h _ (by omega)]
    · rw [if_neg g, if_neg g]
  · unfold cpF
    by_cases g : 1 ≤ t ∧ t ≤ 6
    · rw [if_pos g, if_pos g, h _ (by omega)]
    · rw [if_neg g, if_neg g]
  · have h7' : β' 21 = 7 := by rw [← h 21 (by omega)]; exact h7
    unfold tuS tuF
    rw [if_neg (fun q => by have := q.1; omega), if_neg (fun q => by have := q.1; omega)]
def dz (a b : Nat) (β : Nat → Nat) : Nat → Nat := fun i => if a ≤ i ∧ i < b then 0 else β i
theorem dz_0 (a : Nat) (β : Nat → Nat) : dz a a β = β := by
  funext i
  unfold dz
  rw [if_neg (by omega)]
theorem dz_s {a b : Nat} (h : a < b) (β : Nat → Nat) : dz a b β = dz (a + 1) b (bup β a 0) := by
  funext i
  unfold dz bup
  by_cases g : a ≤ i ∧ i < b
  · rw [if_pos g]
    by_cases e : a + 1 ≤ i ∧ i < b
    · rw [if_pos e]
    · rw [if_neg e, if_pos (by omega)]
  · rw [if_neg g, if_neg (by omega), if_neg (by omega)]
theorem dz_c {a b a' b' : Nat} (h : b ≤ a') (β : Nat → Nat) : dz a b (dz a' b' β) = dz a' b' (dz a b β) := by
  funext i
  unfold dz
  by_cases g : a ≤ i ∧ i < b
  · rw [if_pos g]
    by_cases e : a' ≤ i ∧ i < b'
    · rw [if_pos e]
    · rw [if_neg e, if_pos g]
  · rw [if_neg g, if_neg g]
theorem dz_u {a b c : Nat} (h : ¬ (a ≤ c ∧ c < b)) (β : Nat → Nat) (v : Nat) : dz a b (bup β c v) = bup (dz a b β) c v := by
  funext i
  show (if a ≤ i ∧ i < b then 0 else if i = c then v else β i) = (if i = c then v else if a ≤ i ∧ i < b then 0 else β i)
  by_cases g : a ≤ i ∧ i < b
  · rw [if_pos g, if_neg (fun e => h (by omega)), if_pos g]
  · rw [if_neg g]
    by_cases e : i = c
    · rw [if_pos e, if_pos e]
    · rw [if_neg e, if_neg e, if_neg g]
def dzz (a b : Nat) (β : Nat → Nat) (i : Nat) : Nat := if a ≤ i ∧ i < b then 0 else β i
theorem BK_dz {β : Nat → Nat} (h : BK β) {a b : Nat} (ha : 9 ≤ a) (hb : b ≤ 21) : BK (dz a b β) := by
  show BK (dzz a b β)
  have n : ∀ i, i < 9 ∨ 21 ≤ i → dzz a b β i = β i := fun i hi => by unfold dzz; rw [if_neg (by omega)]
  have le : ∀ i, dzz a b β i ≤ β i := fun i => by
    unfold dzz
    by_cases g : a ≤ i ∧ i < b
    · rw [if_pos g]; omega
    · rw [if_neg g]; exact Nat.le_refl _
  obtain ⟨h0, h1, h2, h3, h4, h5, h6, h7, h8, h9, h10⟩ := h
  refine ⟨by rw [n 0 (by omega)]; exact h0, by rw [n 1 (by omega)]; exact h1, fun t x y => by rw [n _ (by omega)]; exact h2 t x y, fun t x => Nat.le_trans (le _) (h3 t x), fun t x => Nat.le_trans (le _) (h4 t x), by rw [n 21 (by omega)]; exact h5, by rw [n 22 (by omega)]; exact h6, by rw [n 23 (by omega)]; exact h7, by rw [n 24 (by omega)]; exact h8, by rw [n 25 (by omega)]; exact h9, by rw [n 26 (by omega)]; exact h10⟩
def g1 (w : Int32) (β : Nat → Nat) : Nat → Nat := if (w &&& 1) = 0 then β else dz 9 15 β
def g2 (w : Int32) (β : Nat → Nat) : Nat → Nat := if (w &&& 2) = 0 then g1 w β else dz 15 21 (g1 w β)
def g3r (w : Int32) (β : Nat → Nat) : Nat → Nat := if (w &&& 4) = 0 then g2 w β else bup (g2 w β) 21 7
def g3c (w : Int32) (β : Nat → Nat) : Nat → Nat := if (w &&& 4) = 0 then g2 w β else bup (bup (g2 w β) 21 7) 22 7
def gr (w : Int32) (β : Nat → Nat) : Nat → Nat := if (w &&& 8) = 0 then g3r w β else bup (g3r w β) 23 0
def gc (w : Int32) (β : Nat → Nat) : Nat → Nat := if (w &&& 8) = 0 then g3c w β else bup (g3c w β) 23 0
theorem g_V {τ : Nat → Nat} (hT : TK τ) (w : Int32) (β : Nat → Nat) : V1 τ (gc w β) = V1 τ (gr w β) := by
  unfold gc gr g3c g3r
  by_cases h4 : (w &&& 4) = 0
  · rw [if_pos h4, if_pos h4]
  · rw [if_neg h4, if_neg h4]
    by_cases h8 : (w &&& 8) = 0
    · rw [if_pos h8, if_pos h8]
      exact V1_e hT (BE_w _ (fun i hi => by rw [bup_n _ _ hi]) (by rw [bup_n _ _ (by omega), bup_s]))
    · rw [if_neg h8, if_neg h8]
      refine V1_e hT (BE_w _ (fun i hi => ?_) (by rw [bup_n _ _ (by omega), bup_n _ _ (by omega), bup_s]))
      by_cases e : i = 23
      · subst e; rw [bup_s, bup_s]
      · rw [bup_n _ _ e, bup_n _ _ e, bup_n _ _ hi]
theorem g2_BK {w : Int32} {β : Nat → Nat} (h : BK β) : BK (g2 w β) := by
  have h1 : BK (g1 w β) := by
    unfold g1
    by_cases e : (w &&& 1) = 0
    · rw [if_pos e]; exact h
    · rw [if_neg e]; exact BK_dz h (by omega) (by omega)
  unfold g2
  by_cases e : (w &&& 2) = 0
  · rw [if_pos e]; exact h1
  · rw [if_neg e]; exact BK_dz h1 (by omega) (by omega)
theorem gr_BK {w : Int32} {β : Nat → Nat} (h : BK β) : BK (gr w β) := by
  have h3 : BK (g3r w β) := by
    unfold g3r
    by_cases e : (w &&& 4) = 0
    · rw [if_pos e]; exact g2_BK h
    · rw [if_neg e]; exact (g2_BK h).up ⟨by omega, by omega, by omega, by omega, by omega, by omega, by omega, by omega, by omega⟩
  unfold gr
  by_cases e : (w &&& 8) = 0
  · rw [if_pos e]; exact h3
  · rw [if_neg e]; exact h3.up ⟨by omega, by omega, by omega, by omega, by omega, by omega, by omega, by omega, by omega⟩
theorem gc_BK {w : Int32} {β : Nat → Nat} (h : BK β) : BK (gc w β) := by
  have h3 : BK (g3c w β) := by
    unfold g3c
    by_cases e : (w &&& 4) = 0
    · rw [if_pos e]; exact g2_BK h
    · rw [if_neg e]; exact ((g2_BK h).up (a := 21) (x := 7) ⟨by omega, by omega, by omega, by omega, by omega, by omega, by omega, by omega, by omega⟩).up ⟨by omega, by omega, by omega, by omega, by omega, by omega, by omega, by omega, by omega⟩
  unfold gc
  by_cases e : (w &&& 8) = 0
  · rw [if_pos e]; exact h3
  · rw [if_neg e]; exact h3.up ⟨by omega, by omega, by omega, by omega, by omega, by omega, by omega, by omega, by omega⟩
theorem dr2 {C a : Nat} (ha : 9 ≤ a ∧ a + 6 ≤ 21) (hC : ∀ x, x < 6 → cI (a + x) = C + x) : ∀ (i n x : Nat) (ts : Nat → Int32) (β : Nat → Nat), x + i = 6 → CB ts β → Sx (lpX0_dropRights_2 (nI C) (n + i + 1) (nI x) ts) (fun z => CB z (dz (a + x) (a + 6) β)) := by
  intro i
  induction i with
  | zero =>
    intro n x ts β hi h
    rw [lpX0_dropRights_2.eq_2, if_pos (show (6 : Int32) ≤ nI x from nI_le (a := 6) (by omega) (by omega))]
    refine Sx.mk ?_
    rw [show x = 6 by omega, dz_0]; exact h
  | succ i ih =>
    intro n x ts β hi h
    have e := hC x (by omega)
    have l := cI_lt (show a + x < 27 by omega)
    have u := h.up (a := a + x) (x := 0) (v := -2) (by omega) (by rw [eI_c (by omega), bup_s]; rfl)
    rw [e] at u
    rw [lpX0_dropRights_2.eq_2, if_neg (show ¬ (6 : Int32) ≤ nI x from nI_ge (b := 6) (by omega) (by omega)), nI_add, xset (by omega), bd1_mk, nm_mk, nI_1, show n + (i + 1) = n + i + 1 by omega, dz_s (by omega)]
    exact ih n (x + 1) _ _ (by omega) u
theorem gu8 {ts : Nat → Int32} {β : Nat → Nat} (h : CB ts β) (w : Int32) : Sx (fX0_giveUp w ts) (fun z => CB z (gc w β)) := by
  unfold fX0_giveUp fX0_dropRights
  obtain ⟨n, hn⟩ := fuN 7 (by omega)
  refine Sx.b1 (P := fun z => CB z (g1 w β)) ?_ ?_
  · unfold g1
    by_cases e : (w &&& 1) = 0
    · rw [if_pos e, if_pos e]; exact Sx.mk h
    · rw [if_neg e, if_neg e, hn]
      refine Sx.b1 (P := fun z => CB z (dz 9 15 β)) (Sx.b1 (dr2 (C := 20) (a := 9) (by omega) (by decide) 6 n 0 ts β (by omega) h) (fun z hz => Sx.mk hz)) (fun z hz => Sx.mk hz)
  intro t1 k1
  refine Sx.b1 (P := fun z => CB z (g2 w β)) ?_ ?_
  · unfold g2
    by_cases e : (w &&& 2) = 0
    · rw [if_pos e, if_pos e]; exact Sx.mk k1
    · rw [if_neg e, if_neg e, hn]
      refine Sx.b1 (P := fun z => CB z (dz 15 21 (g1 w β))) (Sx.b1 (dr2 (C := 30) (a := 15) (by omega) (by decide) 6 n 0 t1 _ (by omega) k1) (fun z hz => Sx.mk hz)) (fun z hz => Sx.mk hz)
  intro t2 k2
  refine Sx.b1 (P := fun z => CB z (g3c w β)) ?_ ?_
  · unfold g3c
    by_cases e : (w &&& 4) = 0
    · rw [if_pos e, if_pos e]; exact Sx.mk k2
    · rw [if_neg e, if_neg e, nm_mk, nm_mk]
      exact Sx.mk ((k2.up (a := 21) (x := 7) (v := 7) (by omega) (by rw [eI_n (by omega), bup_s]; rfl)).up (a := 22) (x := 7) (v := 7) (by omega) (by rw [eI_n (by omega), bup_s]; rfl))
  intro t3 k3
  refine Sx.b1 (P := fun z => CB z (gc w β)) ?_ (fun z hz => Sx.mk hz)
  unfold gc
  by_cases e : (w &&& 8) = 0
  · rw [if_pos e, if_pos e]; exact Sx.mk k3
  · rw [if_neg e, if_neg e, nm_mk]
    exact Sx.mk (k3.up (a := 23) (x := 0) (v := 0) (by omega) (by rw [eI_n (by omega), bup_s]; rfl))
theorem vwz {tr b0 b1 b2 : Nat → Int32} {τ : Nat → Nat} {B : Nat → Nat → Nat} (hf : TC tr τ) (hT : TK τ) (hB : CB3 b0 b1 b2 B) {k : Nat} (hk : k < 3) (w : Int32) (st sb : Nat → Int32) (pu pe tu ca ho va : Nat → Int64) (ma ac : Nat → Int32) : Sx (fX8_valueWithout (nI k) w tr b0 b1 b2 st sb pu pe tu ca ho va ma ac) (fun z => z.1 = lN (V1 τ (gr w (B k)))) := by
  unfold fX8_valueWithout
  rw [isb8' hk, bd1_mk, if_neg one0, og32 (by omega) (by omega), sel8 hk, bd2_mk]
  refine Sx.b1 (gu8 (hB k hk).1.cpy w) ?_
  intro ts ht
  refine Sx.b8 (pb8 hf.cpy hT ht (gc_BK (hB k hk).2) _ _ _ _ _ _ _ _) ?_
  intro c0 c1 c2 c3 c4 c5 c6 c7 hsb
  refine Sx.e1 (root8 hsb) (Sx.mk ?_)
  show lN _ = lN _
  rw [g_V hT]
def q1 (w : Int32) (x : Nat) (β : Nat → Nat) : Nat → Nat := if (w &&& 1) = 0 then β else dz (9 + x) 15 β
def q2 (w : Int32) (x : Nat) (β : Nat → Nat) : Nat → Nat := if (w &&& 2) = 0 then β else dz (15 + x) 21 β
theorem st8 (w : Int32) : ∀ (i n x : Nat) (bs : Nat → Int32) (β : Nat → Nat), x + i = 6 → RB bs 3 β → Sx (lpX9_strips_8 w (n + i + 1) (nI x) bs) (fun z => RB z 3 (q2 w x (q1 w x β)) ∧ FrB 3 bs z) := by
  intro i
  induction i with
  | zero =>
    intro n x bs β hi h
    rw [lpX9_strips_8.eq_2, if_pos (show (6 : Int32) ≤ nI x from nI_le (a := 6) (by omega) (by omega))]
    refine Sx.mk ⟨?_, FrB.refl _ _⟩
    have e1 : q1 w x β = β := by unfold q1; rw [show 9 + x = 15 by omega, dz_0, ite_self]
    have e2 : q2 w x β = β := by unfold q2; rw [show 15 + x = 21 by omega, dz_0, ite_self]
    rw [e1, e2]; exact h
  | succ i ih =>
    intro n x bs β hi h
    rw [lpX9_strips_8.eq_2, if_neg (show ¬ (6 : Int32) ≤ nI x from nI_ge (b := 6) (by omega) (by omega))]
    refine Sx.b1 (P := fun z => RB z 3 (if (w &&& 1) = 0 then β else bup β (9 + x) 0) ∧ FrB 3 bs z) ?_ ?_
    · by_cases e : (w &&& 1) = 0
      · rw [if_pos e, if_pos e]; exact Sx.mk ⟨h, FrB.refl _ _⟩
      · rw [if_neg e, if_neg e, i_9, nI_add, show fX9_sets 3 (nI (9 + x)) (-1) bs = _ from se9 (k := 3) (by omega) _, bd1_mk]
        exact Sx.mk ⟨h.up (by omega) (by rw [rI_m (by omega), bup_s]; rfl), FrB.up (by omega) _⟩
    rintro z1 ⟨k1, f1⟩
    refine Sx.b1 (P := fun z => RB z 3 (if (w &&& 2) = 0 then (if (w &&& 1) = 0 then β else bup β (9 + x) 0) else bup (if (w &&& 1) = 0 then β else bup β (9 + x) 0) (15 + x) 0) ∧ FrB 3 bs z) ?_ ?_
    · by_cases e : (w &&& 2) = 0
      · rw [if_pos e, if_pos e]; exact Sx.mk ⟨k1, f1⟩
      · rw [if_neg e, if_neg e, i_15, nI_add, show fX9_sets 3 (nI (15 + x)) (-1) z1 = _ from se9 (k := 3) (by omega) _, bd1_mk]
        exact Sx.mk ⟨k1.up (by omega) (by rw [rI_m (by omega), bup_s]; rfl), f1.tr (FrB.up (by omega) _)⟩
    rintro z2 ⟨k2, f2⟩
    rw [nm_mk, nI_1, show n + (i + 1) = n + i + 1 by omega]
    refine (ih n (x + 1) z2 _ (by omega) k2).imp ?_
    rintro z ⟨k3, f3⟩
    refine ⟨?_, f2.tr f3⟩
    have e : q2 w x (q1 w x β) = q2 w (x + 1) (q1 w (x + 1) (if (w &&& 2) = 0 then (if (w &&& 1) = 0 then β else bup β (9 + x) 0) else bup (if (w &&& 1) = 0 then β else bup β (9 + x) 0) (15 + x) 0)) := by
      unfold q1 q2
      by_cases e1 : (w &&& 1) = 0
      · by_cases e2 : (w &&& 2) = 0
        · rw [if_pos e1, if_pos e2, if_pos e1, if_pos e2, if_pos e2, if_pos e1]
        · rw [if_pos e1, if_neg e2, if_pos e1, if_neg e2, if_neg e2, if_pos e1, dz_s (by omega)]; rfl
      · by_cases e2 : (w &&& 2) = 0
        · rw [if_neg e1, if_pos e2, if_neg e1, if_pos e2, if_pos e2, if_neg e1, dz_s (by omega)]; rfl
        · rw [if_neg e1, if_neg e2, if_neg e1, if_neg e2, if_neg e2, if_neg e1, dz_s (a := 15 + x) (by omega), dz_s (a := 9 + x) (by omega), ← dz_u (by omega)]; rfl
    rw [e]; exact k3
theorem sp9 {bs : Nat → Int32} {k : Nat} {β : Nat → Nat} (hk : k < 3) (h : RB bs k β) (w : Int32) : Sx (fX9_strips (nI k) w bs) (fun z => RB z 3 (gr w β) ∧ FrB 3 bs z) := by
  unfold fX9_strips
  refine Sx.b1 (show Sx (fX9_copies (nI k) 3 bs) _ from cy9 (k := k) (l := 3) (by omega) (by omega) (by omega) h) ?_
  rintro z0 ⟨k0, f0⟩
  obtain ⟨n, hn⟩ := fuN 7 (by omega)
  refine Sx.b1 (P := fun z => RB z 3 (g2 w β) ∧ FrB 3 bs z) ?_ ?_
  · rw [hn]
    refine (st8 w 6 n 0 z0 β (by omega) k0).imp ?_
    rintro z ⟨k1, f1⟩
    exact ⟨k1, f0.tr f1⟩
  rintro z1 ⟨k1, f1⟩
  refine Sx.b1 (P := fun z => RB z 3 (g3r w β) ∧ FrB 3 bs z) ?_ ?_
  · unfold g3r
    by_cases e : (w &&& 4) = 0
    · rw [if_pos e, if_pos e]; exact Sx.mk ⟨k1, f1⟩
    · rw [if_neg e, if_neg e, show fX9_sets 3 21 7 z1 = _ from se9 (k := 3) (a := 21) (by omega) _, bd1_mk]
      exact Sx.mk ⟨k1.up (by omega) (by rw [rI_n (by omega), bup_s]; rfl), f1.tr (FrB.up (by omega) _)⟩
  rintro z2 ⟨k2, f2⟩
  refine Sx.b1 (P := fun z => RB z 3 (gr w β) ∧ FrB 3 bs z) ?_ (fun z hz => Sx.mk hz)
  unfold gr
  by_cases e : (w &&& 8) = 0
  · rw [if_pos e, if_pos e]; exact Sx.mk ⟨k2, f2⟩
  · rw [if_neg e, if_neg e, show fX9_sets 3 23 0 z2 = _ from se9 (k := 3) (a := 23) (by omega) _, bd1_mk]
    exact Sx.mk ⟨k2.up (by omega) (by rw [rI_n (by omega), bup_s]; rfl), f2.tr (FrB.up (by omega) _)⟩
theorem q_without {tr b0 b1 b2 tree bs : Nat → Int32} {τ : Nat → Nat} {B : Nat → Nat → Nat} (hf : TC tr τ) (hf9 : TR tree 0 τ) (hT : TK τ) (hB : CB3 b0 b1 b2 B) (hb9 : ∀ k, k < 3 → RB bs k (B k)) (p1 p2 : Int32) (st sb : Nat → Int32) (pu pe tu ca ho va : Nat → Int64) (ma ac : Nat → Int32) (x0 x1 x2 x3 : Int32) (pe9 : Nat → Int64) (a9 b9 : Int64) (wo9 ho9 : Nat → Int64) (ac9 : Nat → Int32) : Sx2 (fX8_without p1 p2 tr b0 b1 b2 st sb pu pe tu ca ho va ma ac) (fX9_without p1 p2 tree bs x0 x1 x2 x3 pe9 a9 b9 wo9 ho9 ac9) (fun _ t => FrB 3 bs t.1) := by
  by_cases h1 : inr p1 0 2
  rotate_left
  · exact Sx2.mk (by unfold fX8_without; rw [isb8n h1, bd1_mk, if_pos rfl]) (by unfold fX9_without; rw [isb9n h1, bd1_mk, if_pos rfl]) (FrB.refl _ _)
  by_cases h2 : inr p2 0 15
  rotate_left
  · exact Sx2.mk (by unfold fX8_without; rw [isb8y h1, bd1_mk, if_neg one0, wi0 h2, bd1_mk, if_pos rfl]) (by unfold fX9_without; rw [isb9y h1, bd1_mk, if_neg one0, in0 h2, bd1_mk, if_pos rfl]) (FrB.refl _ _)
  obtain ⟨k, rfl, _, hk, _⟩ := inr_n h1 (by decide)
  have hk3 : k < 3 := by omega
  have hp := prF_PK hT (show τ 1 ≤ 1000 by omega)
  refine Sx2.val (v := lN (V1 τ (gr p2 (B k)))) ?_ ?_
  · unfold fX8_without
    rw [isb8y h1, bd1_mk, if_neg one0, wi1 h2, bd1_mk, if_neg one0]
    refine Sx.b11 (vwz hf hT hB hk3 p2 _ _ _ _ _ _ _ _ _ _) ?_
    rintro v0 _ _ _ _ _ _ _ _ _ _ rfl
    exact Sx.mk rfl
  · unfold fX9_without
    rw [isb9y h1, bd1_mk, if_neg one0, in1 h2, bd1_mk, if_neg one0]
    refine Sx.b7 (tn9 hf9 hT x0 x1 x2 x3 pe9 a9 b9) ?_
    rintro d0 d1 d2 d3 pe' d5 d6 ⟨rfl, rfl, rfl, rfl, hP⟩
    dsimp only at hP ⊢
    refine Sx.b1 (sp9 hk3 (hb9 k hk3) p2) ?_
    rintro z ⟨kz, fz⟩
    refine Sx.b4 (show Sx (fX9_valueOf 3 z (nI (τ 0)) (nI (τ 6)) (nI (τ 7)) (nI (τ 8)) pe' wo9 ho9 ac9) _ from vo9 (k := 3) kz (gr_BK (hB k hk3).2) hp hP hT.n wo9 ho9 ac9) ?_
    rintro v e1 e2 e3 rfl
    exact Sx.mk ⟨rfl, fz⟩
theorem q_right {tr b0 b1 b2 tree bs : Nat → Int32} {τ : Nat → Nat} {B : Nat → Nat → Nat} (hf : TC tr τ) (hf9 : TR tree 0 τ) (hT : TK τ) (hB : CB3 b0 b1 b2 B) (hb9 : ∀ k, k < 3 → RB bs k (B k)) (p1 p2 : Int32) (st sb : Nat → Int32) (pu pe tu ca ho va : Nat → Int64) (ma ac : Nat → Int32) (x0 x1 x2 x3 : Int32) (pe9 : Nat → Int64) (a9 b9 : Int64) (wo9 ho9 : Nat → Int64) (ac9 : Nat → Int32) : Sx2 (fX8_right p1 p2 tr b0 b1 b2 st sb pu pe tu ca ho va ma ac) (fX9_right p1 p2 tree bs x0 x1 x2 x3 pe9 a9 b9 wo9 ho9 ac9) (fun _ t => FrB 3 bs t.1) := by
  by_cases h1 : inr p1 0 2
  rotate_left
  · exact Sx2.mk (by unfold fX8_right; rw [isb8n h1, bd1_mk, if_pos rfl]) (by unfold fX9_right; rw [isb9n h1, bd1_mk, if_pos rfl]) (FrB.refl _ _)
  by_cases h2 : inr p2 0 3
  rotate_left
  · exact Sx2.mk (by unfold fX8_right; rw [isb8y h1, bd1_mk, if_neg one0, wi0 h2, bd1_mk, if_pos rfl]) (by unfold fX9_right; rw [isb9y h1, bd1_mk, if_neg one0, in0 h2, bd1_mk, if_pos rfl]) (FrB.refl _ _)
  obtain ⟨k, rfl, _, hk, _⟩ := inr_n h1 (by decide)
  have hk3 : k < 3 := by omega
  have hp := prF_PK hT (show τ 1 ≤ 1000 by omega)
  refine Sx2.val (v := lN (V1 τ (gr (1 <<< (p2 &&& 31)) (B k))) - lN (V1 τ (B k))) ?_ ?_
  · unfold fX8_right
    rw [isb8y h1, bd1_mk, if_neg one0, wi1 h2, bd1_mk, if_neg one0]
    refine Sx.b11 (vwz hf hT hB hk3 (1 <<< (p2 &&& 31)) _ _ _ _ _ _ _ _ _ _) ?_
    rintro v0 _ _ _ _ _ _ _ _ _ _ rfl
    refine Sx.b11 (vw0 hf hT hB hk3 _ _ _ _ _ _ _ _ _ _) ?_
    rintro v1 _ _ _ _ _ _ _ _ _ _ rfl
    exact Sx.mk rfl
  · unfold fX9_right
    rw [isb9y h1, bd1_mk, if_neg one0, in1 h2, bd1_mk, if_neg one0]
    refine Sx.b7 (tn9 hf9 hT x0 x1 x2 x3 pe9 a9 b9) ?_
    rintro d0 d1 d2 d3 pe' d5 d6 ⟨rfl, rfl, rfl, rfl, hP⟩
    dsimp only at hP ⊢
    refine Sx.b1 (sp9 hk3 (hb9 k hk3) (1 <<< (p2 &&& 31))) ?_
    rintro z ⟨kz, fz⟩
    refine Sx.b4 (show Sx (fX9_valueOf 3 z (nI (τ 0)) (nI (τ 6)) (nI (τ 7)) (nI (τ 8)) pe' wo9 ho9 ac9) _ from vo9 (k := 3) kz (gr_BK (hB k hk3).2) hp hP hT.n wo9 ho9 ac9) ?_
    rintro v e1 e2 e3 rfl
    refine Sx.b4 (vo9 ((hb9 k hk3).fr (by omega) fz) (hB k hk3).2 hp hP hT.n e1 e2 e3) ?_
    rintro v e4 e5 e6 rfl
    exact Sx.mk ⟨rfl, fz⟩
