/-! pure: calls at the path, both sides (own rows) -/
theorem nzL_n {y : Int64} (h : ¬ y = 0) : nzL y = true := by unfold nzL; rw [decide_eq_false h]; rfl
theorem q_value {tr b0 b1 b2 tree bs : Nat → Int32} {τ : Nat → Nat} {B : Nat → Nat → Nat} (hf : TC tr τ) (hf9 : TR tree 0 τ) (hT : TK τ) (hB : CB3 b0 b1 b2 B) (hb9 : ∀ k, k < 3 → RB bs k (B k)) {row moved : Int32} {mv : Nat → Int32} (hQ : PQ τ row mv moved) (p1 : Int32) (st sb : Nat → Int32) (pu pe tu ca ho va : Nat → Int64) (ma ac : Nat → Int32) (x0 x1 x2 x3 : Int32) (pe9 : Nat → Int64) (a9 b9 : Int64) (wo9 ho9 : Nat → Int64) (ac9 : Nat → Int32) (s1 s2 s3 s4 : Int32) : Sx2 (fX8_value p1 row tr b0 b1 b2 st sb pu pe tu ca ho va ma ac) (fX9_value p1 tree bs mv moved x0 x1 x2 x3 pe9 a9 b9 wo9 ho9 ac9 s1 s2 s3 s4) (fun _ _ => True) := by
  by_cases h1 : inr p1 0 2
  rotate_left
  · exact Sx2.mk (by unfold fX8_value; rw [isb8n h1, bd1_mk, if_pos rfl]) (by unfold fX9_value; rw [isb9n h1, bd1_mk, if_pos rfl]) (trivial)
  obtain ⟨k, rfl, _, hk, _⟩ := inr_n h1 (by decide)
  have hk3 : k < 3 := by omega
  have hp := prF_PK hT (show τ 1 ≤ 1000 by omega)
  obtain ⟨r, r1, r2, rd, rfl, rfl, hm⟩ := hQ
  have r3 := row_T hT r1 r2 rd
  have hl := aT_lt (prF τ (τ 1)) (B k) r1 r2
  have hd6 := (row_b1 r r2 r1).1.1
  refine Sx2.val (v := lN (vR (prF τ (τ 1)) (τ 0) (τ 6) (τ 7) (τ 8) (B k) (bV (prF τ (τ 1)) (B k)) r)) ?_ ?_
  · unfold fX8_value
    rw [isb8y h1, bd1_mk, if_neg one0]
    refine Sx.b10 (wo8 hk3 hf hT hB st sb pu pe tu ca ho va ma ac) ?_
    rintro c0 c1 c2 c3 c4 c5 c6 c7 c8 c9 ⟨hc, hcb, hsb⟩
    dsimp only at hc hcb hsb ⊢
    rw [va8 r1 r2, bd1_mk]
    exact Sx.mk (hsb.2 r r1 r1 r3).1
  · unfold fX9_value
    rw [isb9y h1, bd1_mk, if_neg one0]
    refine Sx.b10 (pn9 hf9 hT hk3 (hb9 k hk3) (hB k hk3).2 x0 x1 x2 x3 pe9 a9 b9 wo9 ho9 ac9) ?_
    rintro d0 d1 d2 d3 pe' d5 d6 d7 d8 d9 ⟨rfl, rfl, rfl, rfl, hP, hG⟩
    dsimp only at hP hG ⊢
    rw [fo9 (hb9 k hk3) (hB k hk3).2 hp hP (by omega) r1 r2 rd hm, bd4_mk, hn9, bd1_mk, og32 hl (by omega), nI_clamp (by omega)]
    exact Sx.mk ⟨(GD.r hG r1 r2 rd).1, trivial⟩
theorem q_act {tr b0 b1 b2 tree bs : Nat → Int32} {τ : Nat → Nat} {B : Nat → Nat → Nat} (hf : TC tr τ) (hf9 : TR tree 0 τ) (hT : TK τ) (hB : CB3 b0 b1 b2 B) (hb9 : ∀ k, k < 3 → RB bs k (B k)) {row moved : Int32} {mv : Nat → Int32} (hQ : PQ τ row mv moved) (p1 : Int32) (st sb : Nat → Int32) (pu pe tu ca ho va : Nat → Int64) (ma ac : Nat → Int32) (x0 x1 x2 x3 : Int32) (pe9 : Nat → Int64) (a9 b9 : Int64) (wo9 ho9 : Nat → Int64) (ac9 : Nat → Int32) (s1 s2 s3 s4 : Int32) : Sx2 (fX8_act p1 row tr b0 b1 b2 st sb pu pe tu ca ho va ma ac) (fX9_act p1 tree bs mv moved x0 x1 x2 x3 pe9 a9 b9 wo9 ho9 ac9 s1 s2 s3 s4) (fun _ _ => True) := by
  by_cases h1 : inr p1 0 2
  rotate_left
  · exact Sx2.mk (by unfold fX8_act; rw [isb8n h1, bd1_mk, if_pos rfl]) (by unfold fX9_act; rw [isb9n h1, bd1_mk, if_pos rfl]) (trivial)
  obtain ⟨k, rfl, _, hk, _⟩ := inr_n h1 (by decide)
  have hk3 : k < 3 := by omega
  have hp := prF_PK hT (show τ 1 ≤ 1000 by omega)
  obtain ⟨r, r1, r2, rd, rfl, rfl, hm⟩ := hQ
  have r3 := row_T hT r1 r2 rd
  have hl := aT_lt (prF τ (τ 1)) (B k) r1 r2
  have hd6 := (row_b1 r r2 r1).1.1
  refine Sx2.val (v := nI (A1 τ (B k) r)) ?_ ?_
  · unfold fX8_act
    rw [isb8y h1, bd1_mk, if_neg one0]
    refine Sx.b10 (wo8 hk3 hf hT hB st sb pu pe tu ca ho va ma ac) ?_
    rintro c0 c1 c2 c3 c4 c5 c6 c7 c8 c9 ⟨hc, hcb, hsb⟩
    dsimp only at hc hcb hsb ⊢
    rw [acA8 r1 r2, bd1_mk]
    exact Sx.mk (hsb.a hT r r1 r2 rd).1
  · unfold fX9_act
    rw [isb9y h1, bd1_mk, if_neg one0]
    refine Sx.b10 (pn9 hf9 hT hk3 (hb9 k hk3) (hB k hk3).2 x0 x1 x2 x3 pe9 a9 b9 wo9 ho9 ac9) ?_
    rintro d0 d1 d2 d3 pe' d5 d6 d7 d8 d9 ⟨rfl, rfl, rfl, rfl, hP, hG⟩
    dsimp only at hP hG ⊢
    rw [fo9 (hb9 k hk3) (hB k hk3).2 hp hP (by omega) r1 r2 rd hm, bd4_mk, hn9, bd1_mk, og32 hl (by omega), nI_clamp (by omega)]
    exact Sx.mk ⟨(hG.a r r1 r2 rd).1, trivial⟩
theorem q_along {tr b0 b1 b2 tree bs : Nat → Int32} {τ : Nat → Nat} {B : Nat → Nat → Nat} (hf : TC tr τ) (hf9 : TR tree 0 τ) (hT : TK τ) (hB : CB3 b0 b1 b2 B) (hb9 : ∀ k, k < 3 → RB bs k (B k)) {row moved : Int32} {mv : Nat → Int32} (hQ : PQ τ row mv moved) (p1 p2 : Int32) (st sb : Nat → Int32) (pu pe tu ca ho va : Nat → Int64) (ma ac : Nat → Int32) (x0 x1 x2 x3 : Int32) (pe9 : Nat → Int64) (a9 b9 : Int64) (wo9 ho9 : Nat → Int64) (ac9 : Nat → Int32) (s1 s2 s3 s4 : Int32) (s5 : Int64) : Sx2 (fX8_along p1 p2 row tr b0 b1 b2 st sb pu pe tu ca ho va ma ac) (fX9_along p1 p2 tree bs mv moved x0 x1 x2 x3 pe9 a9 b9 wo9 ho9 ac9 s1 s2 s3 s4 s5) (fun _ _ => True) := by
  by_cases h1 : inr p1 0 2
  rotate_left
  · exact Sx2.mk (by unfold fX8_along; rw [isb8n h1, bd1_mk, if_pos rfl]) (by unfold fX9_along; rw [isb9n h1, bd1_mk, if_pos rfl]) (trivial)
  by_cases h2 : inr p2 0 2
  rotate_left
  · exact Sx2.mk (by unfold fX8_along; rw [isb8y h1, bd1_mk, if_neg one0, wi0 h2, bd1_mk, if_pos rfl]) (by unfold fX9_along; rw [isb9y h1, bd1_mk, if_neg one0, in0 h2, bd1_mk, if_pos rfl]) (trivial)
  obtain ⟨k, rfl, _, hk, _⟩ := inr_n h1 (by decide)
  have hk3 : k < 3 := by omega
  have hp := prF_PK hT (show τ 1 ≤ 1000 by omega)
  obtain ⟨r, r1, r2, rd, rfl, rfl, hm⟩ := hQ
  have r3 := row_T hT r1 r2 rd
  have hl := aT_lt (prF τ (τ 1)) (B k) r1 r2
  have hd6 := (row_b1 r r2 r1).1.1
  have hA : ∀ i, i ≤ dR r → 1 ≤ pfx r i ∧ pfx r i < 128 ∧ dR (pfx r i) = i := by
    intro i hi
    obtain ⟨g1, g2, g3⟩ := pf1 r r2 r1 i (by omega) hi
    exact ⟨g2, g3, g1⟩
  obtain ⟨e1, e2, e3⟩ := hA (ex (A1 τ (B k)) r) (ex_le _ _)
  have e4 : dR (pfx r (ex (A1 τ (B k)) r)) ≤ τ 0 := by rw [e3]; have := ex_le (A1 τ (B k)) r; omega
  refine Sx2.val (v := if A1 τ (B k) (pfx r (ex (A1 τ (B k)) r)) = 0 then -2 else if p2 = 0 then lN (ex (A1 τ (B k)) r) else if p2 = 1 then lN (A1 τ (B k) (pfx r (ex (A1 τ (B k)) r))) else lN (pyA (prF τ (τ 1)) (B k) (A1 τ (B k) (pfx r (ex (A1 τ (B k)) r))) (pfx r (ex (A1 τ (B k)) r)) + cpS (B k) (ex (A1 τ (B k)) r))) ?_ ?_
  · unfold fX8_along
    rw [isb8y h1, bd1_mk, if_neg one0, wi1 h2, bd1_mk, if_neg one0]
    refine Sx.b10 (wo8 hk3 hf hT hB st sb pu pe tu ca ho va ma ac) ?_
    rintro c0 c1 c2 c3 c4 c5 c6 c7 c8 c9 ⟨hc, hcb, hsb⟩
    dsimp only at hc hcb hsb ⊢
    have ha := hsb.a hT
    rw [ea8 r1 r2 (A := A1 τ (B k)) (fun i hi => by
      obtain ⟨g2, g3, g1⟩ := hA i hi
      exact ⟨(ha _ g2 g3 (by omega)).1, (ha _ g2 g3 (by omega)).2.1.1⟩), bd1_mk]
    obtain ⟨a1, a2, a3⟩ := ha _ e1 e2 e4
    by_cases g : A1 τ (B k) (pfx r (ex (A1 τ (B k)) r)) = 0
    · rw [if_pos g, if_pos g, if_neg (by decide)]
      exact Sx.mk rfl
    · rw [if_neg g, if_neg g, if_pos (show (1 : Int32) ≤ nI (pfx r (ex (A1 τ (B k)) r)) from nI_le (a := 1) e1 (by omega))]
      by_cases g0 : p2 = 0
      · rw [if_pos g0, if_pos g0, day8 _ e2 e1, bd1_mk, e3]
        exact Sx.mk (nI_l (by omega))
      · rw [if_neg g0, if_neg g0]
        by_cases g1 : p2 = 1
        · rw [if_pos g1, if_pos g1, acA8 e1 e2, bd1_mk, bd1_mk, a1]
          exact Sx.mk (nI_l (by have := a2.1; omega))
        · rw [if_neg g1, if_neg g1, put8 hcb (hB k hk3).2 e1 e2 a1 a3 a2, bd1_mk, bd1_mk, e3]
          exact Sx.mk rfl
  · unfold fX9_along
    rw [isb9y h1, bd1_mk, if_neg one0, in1 h2, bd1_mk, if_neg one0]
    refine Sx.b10 (pn9 hf9 hT hk3 (hb9 k hk3) (hB k hk3).2 x0 x1 x2 x3 pe9 a9 b9 wo9 ho9 ac9) ?_
    rintro d0 d1 d2 d3 pe' d5 d6 d7 d8 d9 ⟨rfl, rfl, rfl, rfl, hP, hG⟩
    dsimp only at hP hG ⊢
    have ha := hG.a
    rw [ea9 (hb9 k hk3) (hB k hk3).2 hp hP (by omega) r1 r2 rd hm (A := A1 τ (B k)) (fun i hi => by
      obtain ⟨g2, g3, g1⟩ := hA i hi
      exact ha _ g2 g3 (by omega)), bd6_mk]
    obtain ⟨a1, a2⟩ := ha _ e1 e2 e4
    by_cases g : A1 τ (B k) (pfx r (ex (A1 τ (B k)) r)) = 0
    · rw [if_pos g, if_pos rfl, if_pos g]
      exact Sx.mk ⟨(if_pos g).symm, trivial⟩
    · rw [if_neg g, if_neg one0, if_neg g, if_neg g]
      by_cases g0 : p2 = 0
      · rw [if_pos g0, if_pos g0, bd1_mk, e3]
        exact Sx.mk ⟨nI_l (by omega), trivial⟩
      · rw [if_neg g0, if_neg g0]
        by_cases g1 : p2 = 1
        · have hl2 := aT_lt (prF τ (τ 1)) (B k) e1 e2
          rw [if_pos g1, if_pos g1, hn9, bd1_mk, og32 hl2 (by omega), nI_clamp (by omega), a1, bd1_mk]
          exact Sx.mk ⟨nI_l (by have := a2.1; omega), trivial⟩
        · rw [if_neg g1, if_neg g1, bd1_mk]
          exact Sx.mk ⟨rfl, trivial⟩
theorem q_held {tr b0 b1 b2 tree bs : Nat → Int32} {τ : Nat → Nat} {B : Nat → Nat → Nat} (hf : TC tr τ) (hf9 : TR tree 0 τ) (hT : TK τ) (hB : CB3 b0 b1 b2 B) (hb9 : ∀ k, k < 3 → RB bs k (B k)) {row moved : Int32} {mv : Nat → Int32} (hQ : PQ τ row mv moved) (p1 : Int32) (st sb : Nat → Int32) (pu pe tu ca ho va : Nat → Int64) (ma ac : Nat → Int32) (x0 x1 x2 x3 : Int32) (pe9 : Nat → Int64) (a9 b9 : Int64) (wo9 ho9 : Nat → Int64) (ac9 : Nat → Int32) (s1 s2 s3 s4 : Int32) : Sx2 (fX8_held p1 row tr b0 b1 b2 st sb pu pe tu ca ho va ma ac) (fX9_held p1 tree bs mv moved x0 x1 x2 x3 pe9 a9 b9 wo9 ho9 ac9 s1 s2 s3 s4) (fun _ _ => True) := by
  by_cases h1 : inr p1 0 2
  rotate_left
  · exact Sx2.mk (by unfold fX8_held; rw [isb8n h1, bd1_mk, if_pos rfl]) (by unfold fX9_held; rw [isb9n h1, bd1_mk, if_pos rfl]) (trivial)
  obtain ⟨k, rfl, _, hk, _⟩ := inr_n h1 (by decide)
  have hk3 : k < 3 := by omega
  have hp := prF_PK hT (show τ 1 ≤ 1000 by omega)
  obtain ⟨r, r1, r2, rd, rfl, rfl, hm⟩ := hQ
  have r3 := row_T hT r1 r2 rd
  have hl := aT_lt (prF τ (τ 1)) (B k) r1 r2
  have hd6 := (row_b1 r r2 r1).1.1
  by_cases hd : dR r = τ 0
  · refine Sx2.val (v := -2) ?_ ?_
    · unfold fX8_held
      rw [isb8y h1, bd1_mk, if_neg one0]
      refine Sx.b10 (wo8 hk3 hf hT hB st sb pu pe tu ca ho va ma ac) ?_
      rintro c0 c1 c2 c3 c4 c5 c6 c7 c8 c9 ⟨hc, hcb, hsb⟩
      dsimp only at hc hcb hsb ⊢
      unfold fX5_sharesHeld
      rw [day8 r r2 r1, bd1_mk, ld8 hc hT, bd1_mk, if_neg (nI_nlt (by omega) (by omega)), bd1_mk]
      exact Sx.mk rfl
    · unfold fX9_held
      rw [isb9y h1, bd1_mk, if_neg one0]
      refine Sx.b10 (pn9 hf9 hT hk3 (hb9 k hk3) (hB k hk3).2 x0 x1 x2 x3 pe9 a9 b9 wo9 ho9 ac9) ?_
      rintro d0 d1 d2 d3 pe' d5 d6 d7 d8 d9 ⟨rfl, rfl, rfl, rfl, hP, hG⟩
      dsimp only at hP hG ⊢
      rw [fo9 (hb9 k hk3) (hB k hk3).2 hp hP (by omega) r1 r2 rd hm, bd4_mk, if_pos (by rw [hd]), bd1_mk]
      exact Sx.mk ⟨rfl, trivial⟩
  have r64 : r < 64 := dR_64 r r2 r1 (by omega)
  obtain ⟨q1, q2, q3, q4⟩ := row_s r r64 r1 1 (by omega)
  obtain ⟨w1, w2, w3, w4⟩ := row_s r r64 r1 0 (by omega)
  obtain ⟨⟨_, b2, _⟩, _⟩ := row_b1 r r2 r1
  have z1 : 2 * r + 1 < 2 * 2 ^ τ 0 := row_T hT (by omega) (by omega) (by omega)
  have z0 : 2 * r + 0 < 2 * 2 ^ τ 0 := row_T hT (by omega) (by omega) (by omega)
  refine Sx2.val (v := if lN ((prF τ (τ 1)) (dR r + 1) (uR r + 1)) - lN ((prF τ (τ 1)) (dR r + 1) (uR r + 0)) = 0 then -3 else (1000 * (lN (vR (prF τ (τ 1)) (τ 0) (τ 6) (τ 7) (τ 8) (B k) (bV (prF τ (τ 1)) (B k)) (2 * r + 1)) - lN (vR (prF τ (τ 1)) (τ 0) (τ 6) (τ 7) (τ 8) (B k) (bV (prF τ (τ 1)) (B k)) (2 * r + 0)))) / (lN ((prF τ (τ 1)) (dR r + 1) (uR r + 1)) - lN ((prF τ (τ 1)) (dR r + 1) (uR r + 0)))) ?_ ?_
  · unfold fX8_held
    rw [isb8y h1, bd1_mk, if_neg one0]
    refine Sx.b10 (wo8 hk3 hf hT hB st sb pu pe tu ca ho va ma ac) ?_
    rintro c0 c1 c2 c3 c4 c5 c6 c7 c8 c9 ⟨hc, hcb, hsb⟩
    dsimp only at hc hcb hsb ⊢
    unfold fX5_sharesHeld
    rw [day8 r r2 r1, bd1_mk, ld8 hc hT, bd1_mk, if_pos (nI_lt (by omega) (by omega)), show fX8_longer (nI r) 1 = _ from lo8 r (b := 1) (by omega), bd1_mk, show fX8_longer (nI r) 0 = _ from lo8 r (b := 0) (by omega), bd1_mk, peA8 (by omega) (by omega), bd1_mk, peA8 (by omega) (by omega), bd1_mk, nm_mk, (hsb.1 (2 * r + 1) (by omega) z1).1, (hsb.1 (2 * r + 0) (by omega) z0).1, q1, q2, w1, w2]
    generalize hW : lN (prF τ (τ 1) (dR r + 1) (uR r + 1)) - lN (prF τ (τ 1) (dR r + 1) (uR r + 0)) = W
    by_cases g : W = 0
    · rw [if_pos g, if_pos g, bd1_mk, bd1_mk]
      exact Sx.mk rfl
    · rw [if_neg g, if_neg g, va8 (by omega) (by omega), bd1_mk, va8 (by omega) (by omega), bd1_mk, (hsb.2 (2 * r + 1) (by omega) (by omega) z1).1, (hsb.2 (2 * r + 0) (by omega) (by omega) z0).1]
      unfold fX8_through
      rw [if_neg g, og_mk _ (nzL_n g), bd1_mk, bd1_mk, bd1_mk, bd1_mk]
      exact Sx.mk rfl
  · unfold fX9_held
    rw [isb9y h1, bd1_mk, if_neg one0]
    refine Sx.b10 (pn9 hf9 hT hk3 (hb9 k hk3) (hB k hk3).2 x0 x1 x2 x3 pe9 a9 b9 wo9 ho9 ac9) ?_
    rintro d0 d1 d2 d3 pe' d5 d6 d7 d8 d9 ⟨rfl, rfl, rfl, rfl, hP, hG⟩
    dsimp only at hP hG ⊢
    have e1 : aT (prF τ (τ 1)) (B k) (2 * r + 1) = atN (dR r + 1) (uR r + 1) 1 (mkF (prF τ (τ 1)) (B k) (mR (prF τ (τ 1)) (B k) r) (dR r + 1) (uR r + 1)) := by unfold aT; rw [q1, q2, q3, mR_s _ _ r1 r64 (by omega)]
    have e0 : aT (prF τ (τ 1)) (B k) (2 * r + 0) = atN (dR r + 1) (uR r + 0) 0 (mkF (prF τ (τ 1)) (B k) (mR (prF τ (τ 1)) (B k) r) (dR r + 1) (uR r + 0)) := by unfold aT; rw [w1, w2, w3, mR_s _ _ r1 r64 (by omega)]
    have l1 := aT_lt (prF τ (τ 1)) (B k) (r := 2 * r + 1) (by omega) (by omega)
    have l0 := aT_lt (prF τ (τ 1)) (B k) (r := 2 * r + 0) (by omega) (by omega)
    have v1 := (GD.r hG (r := 2 * r + 1) (by omega) (by omega) (by omega)).1
    have v0 := (GD.r hG (r := 2 * r + 0) (by omega) (by omega) (by omega)).1
    have hri : fX9_rise pe' (nI (dR r)) (nI (uR r)) = some (lN ((prF τ (τ 1)) (dR r + 1) (uR r + 1)) - lN ((prF τ (τ 1)) (dR r + 1) (uR r + 0))) := by
      unfold fX9_rise
      rw [i_1, i_7, nI_add, pk_mul, nI_add, nI_add, og32 (by omega) (by omega), og32 (by omega) (by omega), nI_clamp (by omega), nI_clamp (by omega), show 7 * (dR r + 1) + uR r + 1 = 7 * (dR r + 1) + (uR r + 1) by omega, show 7 * (dR r + 1) + uR r = 7 * (dR r + 1) + (uR r + 0) by omega, hP _ _ (by omega) (by omega), hP _ _ (by omega) (by omega)]
    rw [fo9 (hb9 k hk3) (hB k hk3).2 hp hP (by omega) r1 r2 rd hm, bd4_mk, if_neg (fun z => hd ((nI_eq (by omega) (by omega)).mp z)), hri, bd1_mk]
    generalize hW : lN (prF τ (τ 1) (dR r + 1) (uR r + 1)) - lN (prF τ (τ 1) (dR r + 1) (uR r + 0)) = W at *
    by_cases g : W = 0
    · rw [if_pos g, if_pos g, bd1_mk]
      exact Sx.mk ⟨rfl, trivial⟩
    · unfold fX9_heldOf
      rw [if_neg g, if_neg g, show fX9_then (nI k) (nI (dR r)) (nI (uR r)) (nI (bR r)) (nI (mR (prF τ (τ 1)) (B k) r)) 1 bs pe' = _ from th9 (hb9 k hk3) (hB k hk3).2 hp hP (by omega) (b := 1) _ (by omega) (mR_lt _ _ _) (by omega) (by omega), bd1_mk, ← e1, og32 l1 (by omega), nm_mk, show fX9_then (nI k) (nI (dR r)) (nI (uR r)) (nI (bR r)) (nI (mR (prF τ (τ 1)) (B k) r)) 0 bs pe' = _ from th9 (hb9 k hk3) (hB k hk3).2 hp hP (by omega) (b := 0) _ (by omega) (mR_lt _ _ _) (by omega) (by omega), bd1_mk, ← e0, og32 l0 (by omega), nm_mk, hri, bd1_mk, og_mk _ (nzL_n g), bd1_mk, bd1_mk, nI_clamp (by omega), nI_clamp (by omega), v1, v0]
      exact Sx.mk ⟨rfl, trivial⟩
