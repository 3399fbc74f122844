/-! pure: the class's loops over its rows (own rows) -/
theorem dR_eq : ∀ r, r < 128 → ∀ t, t < 7 → 2 ^ t ≤ r → r < 2 * 2 ^ t → dR r = t := by decide +kernel
theorem sh2 : ∀ d, d < 7 → (2 : Int32) <<< (nI d &&& 31) = nI (2 * 2 ^ d) := by decide +kernel
theorem sh1 : ∀ d, d < 7 → (1 : Int32) <<< (nI d &&& 31) = nI (2 ^ d) := by decide +kernel
theorem lrt : ∀ d, d < 7 → (if ((2 : Int32) <<< (nI d &&& 31)) < 128 then ((2 : Int32) <<< (nI d &&& 31)) else 128) - 1 = nI (2 * 2 ^ d - 1) := by decide +kernel
theorem p2b : ∀ d, d < 7 → 1 ≤ 2 ^ d ∧ 2 ^ d ≤ 64 := by decide +kernel
theorem lr8' {f : Nat → Int32} {τ : Nat → Nat} (hf : TC f τ) (hT : TK τ) : fX5_lastRow f = some (nI (2 * 2 ^ τ 0 - 1)) := by
  unfold fX5_lastRow
  rw [ld8 hf hT, bd1_mk, lrt (τ 0) (by omega)]
theorem ra8 {f : Nat → Int32} {τ : Nat → Nat} (hf : TC f τ) (hT : TK τ) : fX5_rowsAheadOfLastDay f = some (nI (2 ^ τ 0 - 1)) := by
  unfold fX5_rowsAheadOfLastDay
  have := p2b (τ 0) (by omega)
  rw [ld8 hf hT, bd1_mk, sh1 (τ 0) (by omega), i_1, pk_sub (by omega)]
theorem lo15 {f : Nat → Int32} {τ : Nat → Nat} (hf : TC f τ) (hT : TK τ) {t : Nat} (ht : t ≤ 6) : ∀ (i n j : Nat) (pu : Nat → Int64), j + i = t + 1 → (∀ y, y < j → pu y = lN (prF τ (τ 1) t y)) → Sx (lpX5_layOut_15 (nI t) f (n + i + 1) (nI j) pu) (fun z => ∀ y, y ≤ t → z y = lN (prF τ (τ 1) t y)) := by
  intro i
  induction i with
  | zero =>
    intro n j pu hi hg
    rw [lpX5_layOut_15.eq_2]
    exact Sx.p (nI_lt (by omega) (by omega)) (Sx.mk (fun y hy => hg y (by omega)))
  | succ i ih =>
    intro n j pu hi hg
    rw [lpX5_layOut_15.eq_2]
    refine Sx.n (nI_nlt (by omega) (by omega)) (Sx.n (show ¬ (6 : Int32) < nI j from nI_nlt (a := 6) (by omega) (by omega)) ?_)
    refine Sx.e1 (pe8 hf hT (by omega) ht) ?_
    rw [og32 (by omega) (by omega), nm_mk, nm_mk, nI_clamp (by omega), nI_1, show n + (i + 1) = n + i + 1 by omega]
    refine ih n (j + 1) _ (by omega) ?_
    intro y hy
    rw [upL]
    by_cases e : y = j
    · subst e; rw [if_pos rfl]
    · rw [if_neg e]; exact hg y (by omega)
theorem lo51 {ts : Nat → Int32} {β : Nat → Nat} {π : Nat → Nat → Nat} (hb : CB ts β) (hK : BK β) (hp : PK π) {t : Nat} (ht : t ≤ 6) {pu : Nat → Int64} (hpu : ∀ y, y ≤ t → pu y = lN (π t y)) : ∀ (i n r : Nat) (pe tu ca : Nat → Int64) (ma : Nat → Int32), r + i = 2 * 2 ^ t → 2 ^ t ≤ r → CL π β r pe tu ca ma → Sx (lpX5_layOut_51 (nI t) ts pu (n + i + 1) (nI r) pe tu ca ma) (fun z => CL π β (2 * 2 ^ t) z.1 z.2.1 z.2.2.1 z.2.2.2) := by
  have hb2 := p2b t (by omega)
  intro i
  induction i with
  | zero =>
    intro n r pe tu ca ma hi hr hg
    rw [lpX5_layOut_51.eq_2, sh2 t (by omega)]
    refine Sx.p (nI_le (by omega) (by omega)) (Sx.mk ?_)
    rw [show r = 2 * 2 ^ t by omega] at hg
    exact hg
  | succ i ih =>
    intro n r pe tu ca ma hi hr hg
    rw [lpX5_layOut_51.eq_2, sh2 t (by omega)]
    refine Sx.n (nI_ge (by omega) (by omega)) ?_
    have hd := dR_eq r (by omega) t (by omega) hr (by omega)
    have hl := lr8 hb hK hp (r := r) (by omega) (by omega) (pu := pu) (by rw [hd]; exact hpu _ (by have := (row_b1 r (by omega) (by omega)).1.2.1; omega)) hg
    rw [hd] at hl
    refine Sx.b4 hl ?_
    intro a0 a1 a2 a3 hq
    rw [nm_mk, nI_1, show n + (i + 1) = n + i + 1 by omega]
    exact ih n (r + 1) _ _ _ _ (by omega) (by omega) hq
theorem lo2 {f ts : Nat → Int32} {τ β : Nat → Nat} (hf : TC f τ) (hT : TK τ) (hb : CB ts β) (hK : BK β) : ∀ (i n t : Nat) (pu pe tu ca : Nat → Int64) (ma : Nat → Int32), t + i = τ 0 + 1 → CL (prF τ (τ 1)) β (2 ^ t) pe tu ca ma → Sx (lpX5_layOut_2 f ts (n + i + 1) (nI t) pu pe tu ca ma) (fun z => CL (prF τ (τ 1)) β (2 * 2 ^ τ 0) z.2.1 z.2.2.1 z.2.2.2.1 z.2.2.2.2) := by
  intro i
  induction i with
  | zero =>
    intro n t pu pe tu ca ma hi hg
    rw [lpX5_layOut_2.eq_2]
    refine Sx.e1 (ld8 hf hT) (Sx.p (nI_lt (by omega) (by omega)) (Sx.mk ?_))
    rw [show t = τ 0 + 1 by omega, Nat.pow_succ, Nat.mul_comm] at hg
    exact hg
  | succ i ih =>
    intro n t pu pe tu ca ma hi hg
    have hb2 := p2b t (by omega)
    rw [lpX5_layOut_2.eq_2]
    refine Sx.e1 (ld8 hf hT) (Sx.n (nI_nlt (by omega) (by omega)) ?_)
    obtain ⟨n1, hn1⟩ := fuN (t + 2) (by omega)
    obtain ⟨n2, hn2⟩ := fuN (2 ^ t + 1) (by omega)
    refine Sx.b1 (P := fun z => ∀ y, y ≤ t → z y = lN (prF τ (τ 1) t y)) (by rw [hn1, i_0]; exact lo15 hf hT (by omega) (t + 1) n1 0 pu (by omega) (fun y hy => absurd hy (by omega))) ?_
    intro pu' hpu'
    rw [nm_mk, sh1 t (by omega), hn2]
    refine Sx.b4 (lo51 hb hK (prF_PK hT (by omega)) (by omega) hpu' (2 ^ t) n2 (2 ^ t) pe tu ca ma (by omega) (Nat.le_refl _) hg) ?_
    intro a0 a1 a2 a3 hq
    rw [nm_mk, nI_1, show n + (i + 1) = n + i + 1 by omega]
    refine ih n (t + 1) _ _ _ _ _ (by omega) ?_
    rw [Nat.pow_succ, Nat.mul_comm]
    exact hq
/-- rows' values by their next rows -/
theorem vR_T {π : Nat → Nat → Nat} {T p q R : Nat} {β : Nat → Nat} {σ : Nat → Nat → Nat → Nat → Nat → Nat} {r : Nat} (h : dR r = T) : vR π T p q R β σ r = enV π T β (uR r) (bR r) := by
  unfold vR
  rw [h, Nat.sub_self]; rfl
theorem vR_s {π : Nat → Nat → Nat} {T p q R : Nat} {β : Nat → Nat} {σ : Nat → Nat → Nat → Nat → Nat → Nat} {r : Nat} (h : dR r < T) : vR π T p q R β σ r = σ (dR r) (uR r) (bR r) (mR π β r) (hR π T p q R β σ r) := by
  unfold vR hR
  obtain ⟨n, hn⟩ : ∃ n, T - dR r = n + 1 := ⟨T - dR r - 1, by omega⟩
  rw [hn, vG_s, show T - (n + 1) = dR r by omega]; rfl
theorem hR_s {π : Nat → Nat → Nat} {T p q R : Nat} {β : Nat → Nat} {σ : Nat → Nat → Nat → Nat → Nat → Nat} {r : Nat} (h1 : 1 ≤ r) (h6 : r < 64) (h : dR r < T) : hR π T p q R β σ r = mn p q R (vR π T p q R β σ (2 * r + 1)) (vR π T p q R β σ (2 * r)) := by
  obtain ⟨c1, c2, c3, _⟩ := row_s r h6 h1 1 (by omega)
  obtain ⟨d1, d2, d3, _⟩ := row_s r h6 h1 0 (by omega)
  have e1 := mR_s π β h1 h6 (show 1 < 2 by omega)
  have e0 := mR_s π β h1 h6 (show 0 < 2 by omega)
  rw [Nat.add_zero] at d1 d2 d3 e0
  unfold hR vR hG
  rw [c1, c2, c3, d1, d2, d3, e1, e0, show T - (dR r + 1) = T - dR r - 1 by omega, show T - (T - dR r - 1) = dR r + 1 by omega]
  rfl
theorem vR_b {π : Nat → Nat → Nat} {T p q R : Nat} {β : Nat → Nat} {σ : Nat → Nat → Nat → Nat → Nat → Nat} (hp : PK π) (hb : BK β) (hn : NK T p q R) (hs : SK σ) (r : Nat) : vR π T p q R β σ r ≤ 64000000007000 := vG_b hp hb hn hs (by omega) _ _ _
theorem lo83 {f ts : Nat → Int32} {τ β : Nat → Nat} {π : Nat → Nat → Nat} (hf : TC f τ) (hT : TK τ) (hb : CB ts β) (hK : BK β) (hp : PK π) {pe tu ca : Nat → Int64} {ma : Nat → Int32} (hL : CL π β (2 * 2 ^ τ 0) pe tu ca ma) (σ α : Nat → Nat → Nat → Nat → Nat → Nat) : ∀ (i n r : Nat) (ho va : Nat → Int64) (ac : Nat → Int32), r + i = 2 * 2 ^ τ 0 → 2 ^ τ 0 ≤ r → (∀ r', 2 ^ τ 0 ≤ r' → r' < r → va r' = lN (vR π (τ 0) (τ 6) (τ 7) (τ 8) β σ r') ∧ (ho r' = if dR r' = τ 0 then -2 else lN (hR π (τ 0) (τ 6) (τ 7) (τ 8) β σ r')) ∧ ac r' = nI (aR π (τ 0) (τ 6) (τ 7) (τ 8) β σ α r')) → Sx (lpX5_layOut_83 f ts tu (n + i + 1) (nI r) ho va ac) (fun z => CV π (τ 0) (τ 6) (τ 7) (τ 8) β σ α (2 ^ τ 0) z.1 z.2.1 z.2.2) := by
  have hb2 := p2b (τ 0) (by omega)
  intro i
  induction i with
  | zero =>
    intro n r ho va ac hi hr hg
    rw [lpX5_layOut_83.eq_2]
    refine Sx.e1 (lr8' hf hT) (Sx.p (nI_lt (by omega) (by omega)) (Sx.mk ?_))
    intro r' a b c
    exact hg r' a (by omega)
  | succ i ih =>
    intro n r ho va ac hi hr hg
    rw [lpX5_layOut_83.eq_2]
    refine Sx.e1 (lr8' hf hT) (Sx.n (nI_nlt (by omega) (by omega)) ?_)
    have hd := dR_eq r (by omega) (τ 0) (by omega) hr (by omega)
    refine Sx.e3 (el8 hf hT hb hK hp (by omega) (by omega) hd (hL r (by omega) (by omega)).2.1) ?_
    rw [nm_mk, nI_1, show n + (i + 1) = n + i + 1 by omega]
    refine ih n (r + 1) _ _ _ (by omega) (by omega) ?_
    intro r' a b
    rw [upL, upL, upS]
    by_cases e : r' = r
    · subst e
      rw [if_pos rfl, if_pos rfl, if_pos rfl, if_pos hd, vR_T hd]
      unfold aR
      rw [if_pos hd]
      exact ⟨rfl, rfl, rfl⟩
    · rw [if_neg e, if_neg e, if_neg e]
      exact hg r' a (by omega)
theorem lay8 {f ts : Nat → Int32} {τ β : Nat → Nat} (hf : TC f τ) (hT : TK τ) (hb : CB ts β) (hK : BK β) (σ α : Nat → Nat → Nat → Nat → Nat → Nat) (pu pe tu ca ho va : Nat → Int64) (ma ac : Nat → Int32) : Sx (fX5_layOut f ts pu pe tu ca ho va ma ac) (fun z => CL (prF τ (τ 1)) β (2 * 2 ^ τ 0) z.2.1 z.2.2.1 z.2.2.2.1 z.2.2.2.2.2.2.1 ∧ CV (prF τ (τ 1)) (τ 0) (τ 6) (τ 7) (τ 8) β σ α (2 ^ τ 0) z.2.2.2.2.1 z.2.2.2.2.2.1 z.2.2.2.2.2.2.2) := by
  have hb2 := p2b (τ 0) (by omega)
  unfold fX5_layOut
  obtain ⟨n1, hn1⟩ := fuN (τ 0 + 2) (by omega)
  obtain ⟨n2, hn2⟩ := fuN (2 ^ τ 0 + 1) (by omega)
  refine Sx.b5 (P := fun z => CL (prF τ (τ 1)) β (2 * 2 ^ τ 0) z.2.1 z.2.2.1 z.2.2.2.1 z.2.2.2.2) (by rw [hn1, i_0]; exact lo2 hf hT hb hK (τ 0 + 1) n1 0 pu pe tu ca ma (by omega) (fun r a b => absurd b (by omega))) ?_
  intro a0 a1 a2 a3 a4 hL
  refine Sx.e1 (ra8 hf hT) ?_
  rw [nm_mk, nI_1, Nat.sub_add_cancel (by omega), hn2]
  refine Sx.b3 (lo83 hf hT hb hK (prF_PK hT (by omega)) hL σ α (2 ^ τ 0) n2 (2 ^ τ 0) ho va ac (by omega) (Nat.le_refl _) (fun r' a b => absurd b (by omega))) ?_
  intro b0 b1 b2 hV
  exact Sx.mk ⟨hL, hV⟩
theorem CV.up {π : Nat → Nat → Nat} {T p q R : Nat} {β : Nat → Nat} {σ α : Nat → Nat → Nat → Nat → Nat → Nat} {r : Nat} {ho va : Nat → Int64} {ac : Nat → Int32} (h1 : 1 ≤ r) (h6 : r < 64) (hd : dR r < T) (h : CV π T p q R β σ α (r + 1) ho va ac) {x y : Int64} {z : Int32} (ex : x = lN (mn p q R (vR π T p q R β σ (2 * r + 1)) (vR π T p q R β σ (2 * r)))) (ey : y = lN (σ (dR r) (uR r) (bR r) (mR π β r) (mn p q R (vR π T p q R β σ (2 * r + 1)) (vR π T p q R β σ (2 * r))))) (ez : z = nI (α (dR r) (uR r) (bR r) (mR π β r) (mn p q R (vR π T p q R β σ (2 * r + 1)) (vR π T p q R β σ (2 * r))))) : CV π T p q R β σ α r (vp_updL ho r x) (vp_updL va r y) (upd ac r z) := by
  intro r' a b c
  rw [upL, upL, upS]
  by_cases e : r' = r
  · subst e
    rw [if_pos rfl, if_pos rfl, if_pos rfl, if_neg (show ¬ dR r' = T by omega), vR_s hd, hR_s h1 h6 hd]
    unfold aR
    rw [if_neg (show ¬ dR r' = T by omega), hR_s h1 h6 hd]
    exact ⟨ey, ex, ez⟩
  · rw [if_neg e, if_neg e, if_neg e]
    exact h r' (by omega) b c
theorem row_lt {r T : Nat} (h1 : 1 ≤ r) (h : r < 2 ^ T) (hT : T ≤ 6) : dR r < T ∧ 2 * r + 1 < 2 * 2 ^ T := by
  have hb2 := p2b T (by omega)
  obtain ⟨⟨b1, b2, b3⟩, b4, b5, b6⟩ := row_b1 r (by omega) h1
  refine ⟨?_, by omega⟩
  by_cases g : dR r < T
  · exact g
  · have := Nat.pow_le_pow_right (show 0 < 2 by omega) (show T ≤ dR r by omega)
    omega
theorem pb9 {f ts : Nat → Int32} {τ β : Nat → Nat} {π : Nat → Nat → Nat} (hf : TC f τ) (hT : TK τ) (hb : CB ts β) (hK : BK β) (hp : PK π) {pe tu ca : Nat → Int64} {ma : Nat → Int32} (hL : CL π β (2 * 2 ^ τ 0) pe tu ca ma) : ∀ (r n : Nat) (ho va : Nat → Int64) (ac : Nat → Int32), r < 2 ^ τ 0 → CV π (τ 0) (τ 6) (τ 7) (τ 8) β (bV π β) (bA π β) (r + 1) ho va ac → Sx (lpX5_playBest_9 f ts tu ca (n + r + 1) (nI r) ho va ac) (fun z => CV π (τ 0) (τ 6) (τ 7) (τ 8) β (bV π β) (bA π β) 1 z.1 z.2.1 z.2.2) := by
  have hb2 := p2b (τ 0) (by omega)
  intro r
  induction r with
  | zero =>
    intro n ho va ac hr hg
    rw [lpX5_playBest_9.eq_2]
    exact Sx.p (show nI 0 < (1 : Int32) by decide) (Sx.mk hg)
  | succ r ih =>
    intro n ho va ac hr hg
    rw [lpX5_playBest_9.eq_2]
    obtain ⟨g1, g2⟩ := row_lt (show 1 ≤ r + 1 by omega) hr (by omega)
    refine Sx.n (show ¬ nI (r + 1) < (1 : Int32) from nI_nlt (b := 1) (by omega) (by omega)) ?_
    refine Sx.e1 (day8 (r + 1) (by omega) (by omega)) ?_
    have v1 := (hg (2 * (r + 1) + 1) (by omega) (by omega) (by omega)).1
    have v0 := (hg (2 * (r + 1)) (by omega) (by omega) (by omega)).1
    have hl := hL (r + 1) (by omega) (by omega)
    have hN : NK (τ 0) (τ 6) (τ 7) (τ 8) := ⟨by omega, by omega, by omega⟩
    refine Sx.e3 (cb8 hf hT hb hK hp (by omega) (by omega) hl.2.1 hl.2.2.1 v1 v0 (vR_b hp hK hN (bV_SK hp hK) _) (vR_b hp hK hN (bV_SK hp hK) _)) ?_
    rw [nm_mk, pk_m1, show n + (r + 1) = n + r + 1 by omega]
    exact ih n _ _ _ (by omega) (hg.up (by omega) (by omega) g1 rfl rfl rfl)
theorem pr9' {f ts : Nat → Int32} {τ β : Nat → Nat} {π : Nat → Nat → Nat} (hf : TC f τ) (hT : TK τ) (hb : CB ts β) (hK : BK β) (hp : PK π) {x y : Nat} (hx : x ≤ 1000000) (hy : y ≤ 1000000) {pe tu ca : Nat → Int64} {ma : Nat → Int32} (hL : CL π β (2 * 2 ^ τ 0) pe tu ca ma) : ∀ (r n : Nat) (ho va : Nat → Int64) (ac : Nat → Int32), r < 2 ^ τ 0 → CV π (τ 0) (τ 6) (τ 7) (τ 8) β (rV x y π β) (fun t j u m _ => rA x y π β t j u m) (r + 1) ho va ac → Sx (lpX5_playByRule_9 (nI x) (nI y) f ts pe tu ca (n + r + 1) (nI r) ho va ac) (fun z => CV π (τ 0) (τ 6) (τ 7) (τ 8) β (rV x y π β) (fun t j u m _ => rA x y π β t j u m) 1 z.1 z.2.1 z.2.2) := by
  have hb2 := p2b (τ 0) (by omega)
  intro r
  induction r with
  | zero =>
    intro n ho va ac hr hg
    rw [lpX5_playByRule_9.eq_2]
    exact Sx.p (show nI 0 < (1 : Int32) by decide) (Sx.mk hg)
  | succ r ih =>
    intro n ho va ac hr hg
    rw [lpX5_playByRule_9.eq_2]
    obtain ⟨g1, g2⟩ := row_lt (show 1 ≤ r + 1 by omega) hr (by omega)
    refine Sx.n (show ¬ nI (r + 1) < (1 : Int32) from nI_nlt (b := 1) (by omega) (by omega)) ?_
    refine Sx.e1 (day8 (r + 1) (by omega) (by omega)) ?_
    have v1 := (hg (2 * (r + 1) + 1) (by omega) (by omega) (by omega)).1
    have v0 := (hg (2 * (r + 1)) (by omega) (by omega) (by omega)).1
    have hl := hL (r + 1) (by omega) (by omega)
    have hN : NK (τ 0) (τ 6) (τ 7) (τ 8) := ⟨by omega, by omega, by omega⟩
    refine Sx.e3 (rb8 hf hT hb hK hp hx hy (by omega) (by omega) hl.1 hl.2.1 hl.2.2.1 v1 v0 (vR_b hp hK hN (rV_SK x y hp hK) _) (vR_b hp hK hN (rV_SK x y hp hK) _)) ?_
    rw [nm_mk, pk_m1, show n + (r + 1) = n + r + 1 by omega]
    exact ih n _ _ _ (by omega) (hg.up (by omega) (by omega) g1 rfl rfl rfl)
/-- a sheet, played best -/
def SB (τ β : Nat → Nat) (pe tu ca ho va : Nat → Int64) (ma ac : Nat → Int32) : Prop := CL (prF τ (τ 1)) β (2 * 2 ^ τ 0) pe tu ca ma ∧ CV (prF τ (τ 1)) (τ 0) (τ 6) (τ 7) (τ 8) β (bV (prF τ (τ 1)) β) (bA (prF τ (τ 1)) β) 1 ho va ac
theorem pb8 {f ts : Nat → Int32} {τ β : Nat → Nat} (hf : TC f τ) (hT : TK τ) (hb : CB ts β) (hK : BK β) (pu pe tu ca ho va : Nat → Int64) (ma ac : Nat → Int32) : Sx (fX5_playBest f ts pu pe tu ca ho va ma ac) (fun z => SB τ β z.2.1 z.2.2.1 z.2.2.2.1 z.2.2.2.2.1 z.2.2.2.2.2.1 z.2.2.2.2.2.2.1 z.2.2.2.2.2.2.2) := by
  have hb2 := p2b (τ 0) (by omega)
  unfold fX5_playBest
  refine Sx.b8 (lay8 hf hT hb hK (bV (prF τ (τ 1)) β) (bA (prF τ (τ 1)) β) pu pe tu ca ho va ma ac) ?_
  intro a0 a1 a2 a3 a4 a5 a6 a7 hq
  refine Sx.e1 (ra8 hf hT) ?_
  obtain ⟨n2, hn2⟩ := fuN (2 ^ τ 0) (by omega)
  rw [hn2, show n2 + 2 ^ τ 0 = n2 + (2 ^ τ 0 - 1) + 1 by omega]
  refine Sx.b3 (pb9 hf hT hb hK (prF_PK hT (by omega)) hq.1 (2 ^ τ 0 - 1) n2 _ _ _ (by omega) (by rw [Nat.sub_add_cancel (by omega)]; exact hq.2)) ?_
  intro b0 b1 b2 hV
  exact Sx.mk ⟨hq.1, hV⟩
def SR (x y : Nat) (τ β : Nat → Nat) (pe tu ca ho va : Nat → Int64) (ma ac : Nat → Int32) : Prop := CL (prF τ (τ 1)) β (2 * 2 ^ τ 0) pe tu ca ma ∧ CV (prF τ (τ 1)) (τ 0) (τ 6) (τ 7) (τ 8) β (rV x y (prF τ (τ 1)) β) (fun t j u m _ => rA x y (prF τ (τ 1)) β t j u m) 1 ho va ac
theorem prl8 {f ts : Nat → Int32} {τ β : Nat → Nat} (hf : TC f τ) (hT : TK τ) (hb : CB ts β) (hK : BK β) {x y : Nat} (hx : x ≤ 1000000) (hy : y ≤ 1000000) (pu pe tu ca ho va : Nat → Int64) (ma ac : Nat → Int32) : Sx (fX5_playByRule (nI x) (nI y) f ts pu pe tu ca ho va ma ac) (fun z => SR x y τ β z.2.1 z.2.2.1 z.2.2.2.1 z.2.2.2.2.1 z.2.2.2.2.2.1 z.2.2.2.2.2.2.1 z.2.2.2.2.2.2.2) := by
  have hb2 := p2b (τ 0) (by omega)
  unfold fX5_playByRule
  refine Sx.b8 (lay8 hf hT hb hK (rV x y (prF τ (τ 1)) β) (fun t j u m _ => rA x y (prF τ (τ 1)) β t j u m) pu pe tu ca ho va ma ac) ?_
  intro a0 a1 a2 a3 a4 a5 a6 a7 hq
  refine Sx.e1 (ra8 hf hT) ?_
  obtain ⟨n2, hn2⟩ := fuN (2 ^ τ 0) (by omega)
  rw [hn2, show n2 + 2 ^ τ 0 = n2 + (2 ^ τ 0 - 1) + 1 by omega]
  refine Sx.b3 (pr9' hf hT hb hK (prF_PK hT (by omega)) hx hy hq.1 (2 ^ τ 0 - 1) n2 _ _ _ (by omega) (by rw [Nat.sub_add_cancel (by omega)]; exact hq.2)) ?_
  intro b0 b1 b2 hV
  exact Sx.mk ⟨hq.1, hV⟩
