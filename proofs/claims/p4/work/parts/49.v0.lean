/-! pure: the hand, both sides (own rows) -/
abbrev HQ (tree bs : Nat → Int32) (op ov hrow : Int32) (pd rg : Int64) (htr hbt hmv : Nat → Int32) (pl on hmd : Int32) (pd9 rg9 : Int64) : Prop := (op = 0 ∧ pl = 0 ∧ (ov = 0 ∨ ov = 1)) ∨ (op = 1 ∧ pl = 1 ∧ ((ov = 0 ∧ on = 1) ∨ (ov = 1 ∧ on = 0)) ∧ pd = pd9 ∧ rg = rg9 ∧ ∃ (τ β : Nat → Nat) (r : Nat), TC htr τ ∧ TR tree 9 τ ∧ TK τ ∧ CB hbt β ∧ RB bs 4 β ∧ BK β ∧ 1 ≤ r ∧ r < 128 ∧ dR r ≤ τ 0 ∧ hrow = nI r ∧ hmd = nI (dR r) ∧ MV hmv r)
theorem absE (w : Int64) : (if 0 < w then w else -w) = (if 0 ≤ w then w else -w) := by
  by_cases a : 0 < w
  · rw [if_pos a, if_pos (Int64.le_of_lt a)]
  · rw [if_neg a]
    by_cases b : 0 ≤ w
    · have e : w = 0 := Int64.le_antisymm (Int64.not_lt.mp a) b
      subst e
      rfl
    · rw [if_neg b]
theorem MV.go {mv : Nat → Int32} {r b : Nat} (h1 : 1 ≤ r) (h : r < 64) (hb : b < 2) (hm : MV mv r) : MV (upd mv (dR r) (nI b)) (2 * r + b) := by
  obtain ⟨q1, q2, q3, q4⟩ := row_s r h h1 b hb
  intro i hi
  rw [q1] at hi ⊢
  rw [upS]
  by_cases e : i = dR r
  · rw [if_pos e, show dR r + 1 - 1 - i = 0 by omega, Nat.pow_zero, Nat.div_one, show (2 * r + b) % 2 = b by omega]
  · rw [if_neg e, hm i (by omega), show dR r + 1 - 1 - i = (dR r - 1 - i) + 1 by omega, Nat.pow_succ, Nat.mul_comm (2 ^ (dR r - 1 - i)) 2, ← Nat.div_div_eq_div_mul, show (2 * r + b) / 2 = r by omega]
theorem old8 {htr : Nat → Int32} {τ : Nat → Nat} (hf : TC htr τ) (hT : TK τ) {r : Nat} (r1 : 1 ≤ r) (r2 : r < 128) (rd : dR r ≤ τ 0) : fX3_isOnLastDay (nI r) htr = some (if dR r = τ 0 then 1 else 0) := by
  have hd6 := (row_b1 r r2 r1).1.1
  unfold fX3_isOnLastDay
  rw [day8 r r2 r1, bd1_mk, ld8 hf hT, bd1_mk]
  by_cases g : dR r = τ 0
  · rw [if_neg (nI_nlt (by omega) (by omega)), bd1_mk, if_pos g]; rfl
  · rw [if_pos (nI_lt (by omega) (by omega)), bd1_mk, if_neg g]; rfl
theorem rg9x {bs : Nat → Int32} {pe' d7 d8 : Nat → Int64} {d9 : Nat → Int32} {τ β : Nat → Nat} (hb : RB bs 4 β) (hK : BK β) (hT : TK τ) (hP : RP pe' (τ 0) (prF τ (τ 1))) (hG : GD (prF τ (τ 1)) (τ 0) (τ 6) (τ 7) (τ 8) β (fun _ _ _ _ => True) d7 d8 d9) {r : Nat} (r1 : 1 ≤ r) (r2 : r < 128) (rd : dR r ≤ τ 0) (p2 : Int32) (rg : Int64) : fX9_regrets p2 bs (nI (τ 0)) pe' d7 d8 (nI (dR r)) (nI (uR r)) (nI (bR r)) (nI (mR (prF τ (τ 1)) β r)) rg = some (rg + (if 0 < lN (vR (prF τ (τ 1)) (τ 0) (τ 6) (τ 7) (τ 8) β (bV (prF τ (τ 1)) β) r) - giN (enC τ β r p2) (cpF β (dR r)) then lN (vR (prF τ (τ 1)) (τ 0) (τ 6) (τ 7) (τ 8) β (bV (prF τ (τ 1)) β) r) - giN (enC τ β r p2) (cpF β (dR r)) else -(lN (vR (prF τ (τ 1)) (τ 0) (τ 6) (τ 7) (τ 8) β (bV (prF τ (τ 1)) β) r) - giN (enC τ β r p2) (cpF β (dR r))))) := by
  have hl := aT_lt (prF τ (τ 1)) β r1 r2
  unfold fX9_regrets
  rw [hn9, bd1_mk, og32 hl (by omega), show fX9_givesBy 4 p2 bs (nI (τ 0)) pe' d8 (nI (dR r)) (nI (uR r)) (nI (bR r)) (nI (mR (prF τ (τ 1)) β r)) = _ from gb9x (k := 4) hb hK hT hP hG r1 r2 rd p2, bd1_mk, nm_mk, nI_clamp (by omega), (GD.r hG r1 r2 rd).1, absE]
  generalize lN (vR (prF τ (τ 1)) (τ 0) (τ 6) (τ 7) (τ 8) β (bV (prF τ (τ 1)) β) r) - giN (enC τ β r p2) (cpF β (dR r)) = w
  by_cases g : 0 ≤ w
  · rw [if_pos g, if_pos g, bd1_mk, nm_mk]
  · rw [if_neg g, if_neg g, bd1_mk, nm_mk]
theorem q_byHand {tree bs htr hbt hmv : Nat → Int32} {op ov hrow pl on hmd : Int32} {pd rg pd9 rg9 : Int64} (hH : HQ tree bs op ov hrow pd rg htr hbt hmv pl on hmd pd9 rg9) (p1 : Int32) (st sb : Nat → Int32) (pu pe tu ca ho va : Nat → Int64) (ma ac : Nat → Int32) (x0 x1 x2 x3 : Int32) (pe9 : Nat → Int64) (a9 b9 : Int64) (wo9 ho9 : Nat → Int64) (ac9 : Nat → Int32) (s1 s2 s3 s4 : Int32) : Sx2 (fX8_byHand p1 op ov hrow pd rg htr hbt st sb pu pe tu ca ho va ma ac) (fX9_byHand p1 tree bs hmv x0 x1 x2 x3 pe9 a9 b9 wo9 ho9 ac9 s1 s2 s3 s4 pl on hmd pd9 rg9) (fun _ _ => True) := by
  rcases hH with ⟨rfl, rfl, _⟩ | ⟨rfl, rfl, hov, rfl, rfl, τ, β, r, hf, hf9, hT, hcb0, hb, hK, r1, r2, rd, rfl, rfl, hm⟩
  · exact Sx2.mk (by unfold fX8_byHand; rw [if_pos rfl]) (by unfold fX9_byHand; rw [if_pos rfl]) trivial
  by_cases h1 : inr p1 0 4
  rotate_left
  · exact Sx2.mk (by unfold fX8_byHand; rw [if_neg one0, wi0 h1, bd1_mk, if_pos rfl]) (by unfold fX9_byHand; rw [if_neg one0, in0 h1, bd1_mk, if_pos rfl]) trivial
  have hl := aT_lt (prF τ (τ 1)) β r1 r2
  refine Sx2.val (v := if p1 = 0 then (if ov = 0 then 1 else 0) else if p1 = 1 then Int32.toInt64 (nI (dR r)) else if p1 = 2 then pd else if p1 = 3 then rg else Int32.toInt64 (nI (A1 τ β r))) ?_ ?_
  · unfold fX8_byHand
    rw [if_neg one0, wi1 h1, bd1_mk, if_neg one0]
    by_cases g0 : p1 = 0
    · rw [if_pos g0, if_pos g0]
      by_cases g : ov = 0
      · rw [if_pos g, if_pos g, bd1_mk]; exact Sx.mk rfl
      · rw [if_neg g, if_neg g, bd1_mk]; exact Sx.mk rfl
    rw [if_neg g0, if_neg g0]
    by_cases g1 : p1 = 1
    · rw [if_pos g1, if_pos g1, day8 r r2 r1, bd1_mk]; exact Sx.mk rfl
    rw [if_neg g1, if_neg g1]
    by_cases g2 : p1 = 2
    · rw [if_pos g2, if_pos g2]; exact Sx.mk rfl
    rw [if_neg g2, if_neg g2]
    by_cases g3 : p1 = 3
    · rw [if_pos g3, if_pos g3]; exact Sx.mk rfl
    rw [if_neg g3, if_neg g3]
    refine Sx.b10 (wh8 hf hT hcb0 hK st sb pu pe tu ca ho va ma ac) ?_
    rintro c0 c1 c2 c3 c4 c5 c6 c7 c8 c9 ⟨hc, hcb, hsb⟩
    dsimp only at hc hcb hsb ⊢
    rw [acA8 r1 r2, bd1_mk, (hsb.a hT r r1 r2 rd).1]; exact Sx.mk rfl
  · unfold fX9_byHand
    rw [if_neg one0, in1 h1, bd1_mk, if_neg one0]
    refine Sx.b14 (sbh9 hf9 hT hb hK r1 r2 rd hm x0 x1 x2 x3 pe9 a9 b9 wo9 ho9 ac9 s1 s2 s3 s4) ?_
    rintro d0 d1 d2 d3 pe' d5 d6 d7 d8 d9 e0 e1 e2 e3 ⟨rfl, rfl, rfl, rfl, hP, hG, he⟩
    dsimp only at hP hG he ⊢
    obtain ⟨rfl, rfl, rfl, rfl⟩ : e0 = nI (dR r) ∧ e1 = nI (uR r) ∧ e2 = nI (bR r) ∧ e3 = nI (mR (prF τ (τ 1)) β r) := by
      have := he
      simp only [Prod.mk.injEq] at this
      exact this
    by_cases g0 : p1 = 0
    · rw [if_pos g0, if_pos g0]
      rcases hov with ⟨rfl, rfl⟩ | ⟨rfl, rfl⟩
      · rw [if_neg one0, bd1_mk, if_pos rfl]; exact Sx.mk ⟨rfl, trivial⟩
      · rw [if_pos rfl, bd1_mk, if_neg one0]; exact Sx.mk ⟨rfl, trivial⟩
    rw [if_neg g0, if_neg g0]
    by_cases g1 : p1 = 1
    · rw [if_pos g1, if_pos g1, bd1_mk]; exact Sx.mk ⟨rfl, trivial⟩
    rw [if_neg g1, if_neg g1]
    by_cases g2 : p1 = 2
    · rw [if_pos g2, if_pos g2, bd1_mk]; exact Sx.mk ⟨rfl, trivial⟩
    rw [if_neg g2, if_neg g2]
    by_cases g3 : p1 = 3
    · rw [if_pos g3, if_pos g3, bd1_mk]; exact Sx.mk ⟨rfl, trivial⟩
    rw [if_neg g3, if_neg g3, hn9, bd1_mk, og32 hl (by omega), nI_clamp (by omega), (hG.a r r1 r2 rd).1, bd1_mk]; exact Sx.mk ⟨rfl, trivial⟩
