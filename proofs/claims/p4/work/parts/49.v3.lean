/-! pure: the hand is opened, both sides (own rows) -/
theorem op13 (p : Int32) (t0 : Nat → Int32) : ∀ (i n x : Nat) (tree : Nat → Int32), x + i = 9 → (∀ y, y < x → tree (9 + y) = t0 y) → (∀ y, y < 9 → tree y = t0 y) → Sx (lpX9_open_13 p (n + i + 1) (nI x) tree) (fun z => (∀ y, y < 9 → z (9 + y) = t0 y) ∧ (∀ y, y < 9 → z y = t0 y)) := by
  intro i
  induction i with
  | zero =>
    intro n x tree hi h1 h2
    rw [lpX9_open_13.eq_2, if_pos (show (9 : Int32) ≤ nI x from nI_le (a := 9) (by omega) (by omega))]
    exact Sx.mk ⟨fun y hy => h1 y (by omega), h2⟩
  | succ i ih =>
    intro n x tree hi h1 h2
    rw [lpX9_open_13.eq_2, if_neg (show ¬ (9 : Int32) ≤ nI x from nI_ge (b := 9) (by omega) (by omega)), og32 (by omega) (by omega), i_9, nI_add, og32 (by omega) (by omega), nm_mk, nm_mk, nI_1, nI_clamp (n := 9 + x) (by omega), nI_clamp (n := x) (by omega), show n + (i + 1) = n + i + 1 by omega]
    refine ih n (x + 1) _ (by omega) (fun y hy => ?_) (fun y hy => ?_)
    · rw [upS]
      by_cases e : y = x
      · rw [if_pos (by omega), e]; exact h2 x (by omega)
      · rw [if_neg (by omega)]; exact h1 y (by omega)
    · rw [upS, if_neg (by omega)]; exact h2 y hy
theorem bg8 {k : Nat} (hk : k < 3) (op ov hrow : Int32) (pd rg : Int64) (htr hbt tr b0 b1 b2 : Nat → Int32) : (if nI k = 0 then bd7 (fX3_begin op ov hrow pd rg htr hbt tr b0) (fun x0 x1 x2 x3 x4 x5 x6 => some (x0, x1, x2, x3, x4, x5, x6)) else if nI k = 1 then bd7 (fX3_begin op ov hrow pd rg htr hbt tr b1) (fun x0 x1 x2 x3 x4 x5 x6 => some (x0, x1, x2, x3, x4, x5, x6)) else bd7 (fX3_begin op ov hrow pd rg htr hbt tr b2) (fun x0 x1 x2 x3 x4 x5 x6 => some (x0, x1, x2, x3, x4, x5, x6))) = some (1, 0, 1, 0, 0, va_cpy tr htr 0 0 9, va_cpy (bsel k b0 b1 b2) hbt 0 0 36) := by
  have e : ∀ b : Nat → Int32, fX3_begin op ov hrow pd rg htr hbt tr b = some (1, 0, 1, 0, 0, va_cpy tr htr 0 0 9, va_cpy b hbt 0 0 36) := fun b => by
    unfold fX3_begin fX7_takeFrom fX0_takeFrom
    rw [cl_0, cl_9, cl_36]; rfl
  rcases (show k = 0 ∨ k = 1 ∨ k = 2 by omega) with rfl | rfl | rfl
  · rw [if_pos (show nI 0 = (0 : Int32) from rfl), e]; rfl
  · rw [if_neg (show ¬ nI 1 = (0 : Int32) from one0), if_pos (show nI 1 = (1 : Int32) from rfl), e]; rfl
  · rw [if_neg (show ¬ nI 2 = (0 : Int32) by decide), if_neg (show ¬ nI 2 = (1 : Int32) by decide), e]; rfl
theorem q_open {tr b0 b1 b2 : Nat → Int32} {τ : Nat → Nat} {B : Nat → Nat → Nat} (hf : TC tr τ) {tree bs htr hbt hmv : Nat → Int32} {op ov hrow pl on hmd : Int32} {pd rg pd9 rg9 : Int64} (hH : HQ tree bs op ov hrow pd rg htr hbt hmv pl on hmd pd9 rg9) (hf9 : TR tree 0 τ) (hT : TK τ) (hB : CB3 b0 b1 b2 B) (hb9 : ∀ k, k < 3 → RB bs k (B k)) (p1 : Int32) (st sb : Nat → Int32) (pu pe tu ca ho va : Nat → Int64) (ma ac : Nat → Int32) (x0 x1 x2 x3 : Int32) (pe9 : Nat → Int64) (a9 b9 : Int64) (wo9 ho9 : Nat → Int64) (ac9 : Nat → Int32) (s1 s2 s3 s4 : Int32) : Sx2 (fX8_open p1 tr b0 b1 b2 op ov hrow pd rg htr hbt st sb pu pe tu ca ho va ma ac) (fX9_open p1 tree bs hmv x0 x1 x2 x3 pe9 a9 b9 wo9 ho9 ac9 s1 s2 s3 s4 pl on hmd pd9 rg9) (fun s t => HQ (t.1) (t.2.1) (s.1) (s.2.1) (s.2.2.1) (s.2.2.2.1) (s.2.2.2.2.1) (s.2.2.2.2.2.1) (s.2.2.2.2.2.2.1) hmv (t.2.2.2.2.2.2.2.2.2.2.2.2.2.2.2.2.1) (t.2.2.2.2.2.2.2.2.2.2.2.2.2.2.2.2.2.1) (t.2.2.2.2.2.2.2.2.2.2.2.2.2.2.2.2.2.2.1) (t.2.2.2.2.2.2.2.2.2.2.2.2.2.2.2.2.2.2.2.1) (t.2.2.2.2.2.2.2.2.2.2.2.2.2.2.2.2.2.2.2.2) ∧ (∀ y, y < 9 → t.1 y = tree y) ∧ FrB 4 bs t.2.1) := by
  by_cases h1 : inr p1 0 2
  rotate_left
  · exact Sx2.mk (by unfold fX8_open; rw [isb8n h1, bd1_mk, if_pos rfl]) (by unfold fX9_open; rw [isb9n h1, bd1_mk, if_pos rfl]) ⟨hH, fun _ _ => rfl, FrB.refl _ _⟩
  obtain ⟨k, rfl, _, hk, _⟩ := inr_n h1 (by decide)
  have hk3 : k < 3 := by omega
  have h8 : Sx (fX8_open (nI k) tr b0 b1 b2 op ov hrow pd rg htr hbt st sb pu pe tu ca ho va ma ac) (fun z => z.1 = lN (V1 τ (B k)) ∧ (z.2.1, z.2.2.1, z.2.2.2.1, z.2.2.2.2.1, z.2.2.2.2.2.1, z.2.2.2.2.2.2.1, z.2.2.2.2.2.2.2.1) = (1, 0, 1, 0, 0, va_cpy tr htr 0 0 9, va_cpy (bsel k b0 b1 b2) hbt 0 0 36)) := by
    unfold fX8_open
    rw [isb8y h1, bd1_mk, if_neg one0, og32 hk3 (by omega), bg8 hk3, bd7_mk]
    refine Sx.b10 (wo8 hk3 hf hT hB st sb pu pe tu ca ho va ma ac) ?_
    rintro c0 c1 c2 c3 c4 c5 c6 c7 c8 c9 ⟨hc, hcb, hsb⟩
    dsimp only at hc hcb hsb ⊢
    rw [root8 hsb, bd1_mk]
    exact Sx.mk ⟨rfl, rfl⟩
  have h9 : Sx (fX9_open (nI k) tree bs hmv x0 x1 x2 x3 pe9 a9 b9 wo9 ho9 ac9 s1 s2 s3 s4 pl on hmd pd9 rg9) (fun z => z.1 = lN (V1 τ (B k)) ∧ (TR z.2.1 9 τ ∧ (∀ y, y < 9 → z.2.1 y = tree y)) ∧ (RB z.2.2.1 4 (B k) ∧ FrB 4 bs z.2.2.1) ∧ (z.2.2.2.2.2.2.2.2.2.2.2.2.2.2.2.2.2.1, z.2.2.2.2.2.2.2.2.2.2.2.2.2.2.2.2.2.2.1, z.2.2.2.2.2.2.2.2.2.2.2.2.2.2.2.2.2.2.2.1, z.2.2.2.2.2.2.2.2.2.2.2.2.2.2.2.2.2.2.2.2.1, z.2.2.2.2.2.2.2.2.2.2.2.2.2.2.2.2.2.2.2.2.2) = (1, 1, 0, 0, 0)) := by
    unfold fX9_open
    rw [isb9y h1, bd1_mk, if_neg one0]
    obtain ⟨n, hn⟩ := fuN 10 (by omega)
    refine Sx.b1 (P := fun z => (∀ y, y < 9 → z (9 + y) = tree y) ∧ (∀ y, y < 9 → z y = tree y)) (by rw [hn]; exact op13 (nI k) tree 9 n 0 tree (by omega) (fun y hy => absurd hy (Nat.not_lt_zero y)) (fun _ _ => rfl)) ?_
    rintro t2 ⟨k1, k2⟩
    refine Sx.b1 (show Sx (fX9_copies (nI k) 4 bs) _ from cy9 (k := k) (l := 4) (by omega) (by omega) (by omega) (hb9 k hk3)) ?_
    rintro b2' ⟨w1, w2⟩
    have ht9 : TR t2 9 τ := fun i hi => by rw [k1 i hi]; exact tr0 hf9 hi
    refine Sx.b14 (show Sx (fX9_standsByHand t2 b2' hmv x0 x1 x2 x3 pe9 a9 b9 wo9 ho9 ac9 s1 s2 s3 s4 0) _ from sbh9 (r := 1) ht9 hT w1 (hB k hk3).2 (by omega) (by omega) (Nat.zero_le _) (fun i hi => absurd hi (Nat.not_lt_zero i)) x0 x1 x2 x3 pe9 a9 b9 wo9 ho9 ac9 s1 s2 s3 s4) ?_
    rintro d0 d1 d2 d3 pe' d5 d6 d7 d8 d9 e0 e1 e2 e3 ⟨rfl, rfl, rfl, rfl, hP, hG, he⟩
    dsimp only at hP hG he ⊢
    obtain ⟨rfl, rfl, rfl, rfl⟩ : e0 = nI (dR 1) ∧ e1 = nI (uR 1) ∧ e2 = nI (bR 1) ∧ e3 = nI (mR (prF τ (τ 1)) (B k) 1) := by
      have := he
      simp only [Prod.mk.injEq] at this
      exact this
    have l1 := aT_lt (prF τ (τ 1)) (B k) (r := 1) (by omega) (by omega)
    have v1 := (GD.r hG (r := 1) (by omega) (by omega) (Nat.zero_le _)).1
    rw [hn9, bd1_mk, og32 l1 (by omega), nI_clamp (by omega), v1, vR_1]
    exact Sx.mk ⟨rfl, ⟨ht9, k2⟩, ⟨w1, w2⟩, rfl⟩
  obtain ⟨⟨x, s⟩, e1, p1, p2⟩ := h8
  obtain ⟨⟨y, t⟩, e2, q1, ⟨q2, q3⟩, ⟨q4, q5⟩, q6⟩ := h9
  dsimp only at p1 p2 q1 q2 q3 q4 q5 q6
  subst p1 q1
  refine ⟨_, s, t, e1, e2, ?_, q3, q5⟩
  simp only [Prod.mk.injEq] at p2 q6
  obtain ⟨a0, a1, a2, a3, a4, a5, a6⟩ := p2
  obtain ⟨c0, c1, c2, c3, c4⟩ := q6
  rw [a0, a1, a2, a3, a4, a5, a6, c0, c1, c2, c3, c4]
  exact Or.inr ⟨rfl, rfl, Or.inl ⟨rfl, rfl⟩, rfl, rfl, τ, B k, 1, hf.cpy, q2, hT, (hB k hk3).1.cpy, q4, (hB k hk3).2, by omega, by omega, Nat.zero_le _, rfl, rfl, fun i hi => absurd hi (Nat.not_lt_zero i)⟩
