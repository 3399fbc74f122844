/-! pure: the hand acts, both sides (own rows) -/
theorem q_does {tree bs htr hbt hmv : Nat → Int32} {op ov hrow pl on hmd : Int32} {pd rg pd9 rg9 : Int64} (hH : HQ tree bs op ov hrow pd rg htr hbt hmv pl on hmd pd9 rg9) (p1 : Int32) (st sb : Nat → Int32) (pu pe tu ca ho va : Nat → Int64) (ma ac : Nat → Int32) (x0 x1 x2 x3 : Int32) (pe9 : Nat → Int64) (a9 b9 : Int64) (wo9 ho9 : Nat → Int64) (ac9 : Nat → Int32) (s1 s2 s3 s4 : Int32) : Sx2 (fX8_does p1 op ov hrow pd rg htr hbt st sb pu pe tu ca ho va ma ac) (fX9_does p1 tree bs hmv x0 x1 x2 x3 pe9 a9 b9 wo9 ho9 ac9 s1 s2 s3 s4 pl on hmd pd9 rg9) (fun s t => HQ tree bs op (s.1) hrow (s.2.1) (s.2.2.1) htr hbt hmv pl (t.2.2.2.2.2.2.2.2.2.2.2.2.2.2.1) hmd (t.2.2.2.2.2.2.2.2.2.2.2.2.2.2.2.1) (t.2.2.2.2.2.2.2.2.2.2.2.2.2.2.2.2)) := by
  rcases hH with ⟨rfl, rfl, hoz⟩ | ⟨rfl, rfl, hov, rfl, rfl, τ, β, r, hf, hf9, hT, hcb0, hb, hK, r1, r2, rd, rfl, rfl, hm⟩
  · exact Sx2.mk (by unfold fX8_does; rw [if_pos rfl]) (by unfold fX9_does; rw [if_pos rfl]) (Or.inl ⟨rfl, rfl, hoz⟩)
  have hd6 := (row_b1 r r2 r1).1.1
  have mk : ∀ (ov' on' : Int32) (x y : Int64), ((ov' = 0 ∧ on' = 1) ∨ (ov' = 1 ∧ on' = 0)) → ∀ (s : Int32 × Int64 × Int64) (t : Int32 × Int64 × Int64), s = (ov', x, y) → t = (on', x, y) → HQ tree bs 1 s.1 (nI r) s.2.1 s.2.2 htr hbt hmv 1 t.1 (nI (dR r)) t.2.1 t.2.2 := by
    rintro ov' on' x y ho s t rfl rfl
    exact Or.inr ⟨rfl, rfl, ho, rfl, rfl, τ, β, r, hf, hf9, hT, hcb0, hb, hK, r1, r2, rd, rfl, rfl, hm⟩
  by_cases h1 : inr p1 0 3
  rotate_left
  · exact Sx2.mk (by unfold fX8_does; rw [if_neg one0, wi0 h1, bd1_mk, if_pos rfl]) (by unfold fX9_does; rw [if_neg one0, in0 h1, bd1_mk, if_pos rfl]) (mk ov on pd rg hov _ _ rfl rfl)
  by_cases hA : on = 1 ∧ (p1 = 0 → dR r = τ 0)
  rotate_left
  · have h9 : Sx (fX9_does p1 tree bs hmv x0 x1 x2 x3 pe9 a9 b9 wo9 ho9 ac9 s1 s2 s3 s4 1 on (nI (dR r)) pd rg) (fun z => z.1 = -2 ∧ (z.2.2.2.2.2.2.2.2.2.2.2.2.2.2.2.1, z.2.2.2.2.2.2.2.2.2.2.2.2.2.2.2.2.1, z.2.2.2.2.2.2.2.2.2.2.2.2.2.2.2.2.2) = (on, pd, rg)) := by
      unfold fX9_does
      rw [if_neg one0, in1 h1, bd1_mk, if_neg one0]
      refine Sx.b14 (sbh9 hf9 hT hb hK r1 r2 rd hm x0 x1 x2 x3 pe9 a9 b9 wo9 ho9 ac9 s1 s2 s3 s4) ?_
      rintro d0 d1 d2 d3 pe' d5 d6 d7 d8 d9 e0 e1 e2 e3 ⟨rfl, rfl, rfl, rfl, hP, hG, he⟩
      dsimp only at hP hG he ⊢
      obtain ⟨rfl, rfl, rfl, rfl⟩ : e0 = nI (dR r) ∧ e1 = nI (uR r) ∧ e2 = nI (bR r) ∧ e3 = nI (mR (prF τ (τ 1)) β r) := by
        have := he
        simp only [Prod.mk.injEq] at this
        exact this
      by_cases g : on = 0
      · rw [if_pos g]; exact Sx.mk ⟨rfl, rfl⟩
      · have g1 : on = 1 := by
          rcases hov with q | q
          · exact q.2
          · exact absurd q.2 g
        have g0 : p1 = 0 := by
          by_cases z : p1 = 0
          · exact z
          · exact absurd ⟨g1, fun y => absurd y z⟩ hA
        have g2 : ¬ dR r = τ 0 := fun z => hA ⟨g1, fun _ => z⟩
        rw [if_neg g, if_pos g0, if_neg (nI_ge (by omega) (by omega))]; exact Sx.mk ⟨rfl, rfl⟩
    have h8 : Sx (fX8_does p1 1 ov (nI r) pd rg htr hbt st sb pu pe tu ca ho va ma ac) (fun z => z.1 = -2 ∧ (z.2.1, z.2.2.1, z.2.2.2.1) = (ov, pd, rg)) := by
      unfold fX8_does
      rw [if_neg one0, wi1 h1, bd1_mk, if_neg one0]
      by_cases g : ov = 0
      · have g1 : on = 1 := by
          rcases hov with q | q
          · exact q.2
          · rw [q.1] at g; exact absurd g one0
        have g0 : p1 = 0 := by
          by_cases z : p1 = 0
          · exact z
          · exact absurd ⟨g1, fun y => absurd y z⟩ hA
        have g2 : ¬ dR r = τ 0 := fun z => hA ⟨g1, fun _ => z⟩
        rw [if_pos g, if_pos g0, old8 hf hT r1 r2 rd, bd1_mk, if_neg g2, if_pos rfl]; exact Sx.mk ⟨rfl, rfl⟩
      · rw [if_neg g]; exact Sx.mk ⟨rfl, rfl⟩
    refine Sx2.par (fun s => (s.1, s.2.1, s.2.2.1)) (fun t => (t.2.2.2.2.2.2.2.2.2.2.2.2.2.2.1, t.2.2.2.2.2.2.2.2.2.2.2.2.2.2.2.1, t.2.2.2.2.2.2.2.2.2.2.2.2.2.2.2.2)) h8 h9 (fun s t p q => ?_)
    exact mk ov on pd rg hov _ _ p q
  obtain ⟨rfl, hact⟩ := hA
  have hov0 : ov = 0 := by
    rcases hov with q | q
    · exact q.1
    · exact absurd q.2 one0
  subst hov0
  have ePD : pd + (giN (enC τ β r p1) (cpF β (dR r)) - Int32.toInt64 (nI (cpF β (dR r)))) = (pd + giN (enC τ β r p1) (cpF β (dR r))) - Int32.toInt64 (nI (cpF β (dR r))) := by
    rw [Int64.sub_eq_add_neg, Int64.sub_eq_add_neg, Int64.add_assoc]
  by_cases gG : 0 ≤ giN (enC τ β r p1) (cpF β (dR r))
  · have h9 : Sx (fX9_does p1 tree bs hmv x0 x1 x2 x3 pe9 a9 b9 wo9 ho9 ac9 s1 s2 s3 s4 1 1 (nI (dR r)) pd rg) (fun z => z.1 = (pd + giN (enC τ β r p1) (cpF β (dR r))) - Int32.toInt64 (nI (cpF β (dR r))) ∧ (z.2.2.2.2.2.2.2.2.2.2.2.2.2.2.2.1, z.2.2.2.2.2.2.2.2.2.2.2.2.2.2.2.2.1, z.2.2.2.2.2.2.2.2.2.2.2.2.2.2.2.2.2) = (0, (pd + giN (enC τ β r p1) (cpF β (dR r))) - Int32.toInt64 (nI (cpF β (dR r))), rg + (if 0 < lN (vR (prF τ (τ 1)) (τ 0) (τ 6) (τ 7) (τ 8) β (bV (prF τ (τ 1)) β) r) - giN (enC τ β r p1) (cpF β (dR r)) then lN (vR (prF τ (τ 1)) (τ 0) (τ 6) (τ 7) (τ 8) β (bV (prF τ (τ 1)) β) r) - giN (enC τ β r p1) (cpF β (dR r)) else -(lN (vR (prF τ (τ 1)) (τ 0) (τ 6) (τ 7) (τ 8) β (bV (prF τ (τ 1)) β) r) - giN (enC τ β r p1) (cpF β (dR r)))))) := by
      unfold fX9_does
      rw [if_neg one0, in1 h1, bd1_mk, if_neg one0]
      refine Sx.b14 (sbh9 hf9 hT hb hK r1 r2 rd hm x0 x1 x2 x3 pe9 a9 b9 wo9 ho9 ac9 s1 s2 s3 s4) ?_
      rintro d0 d1 d2 d3 pe' d5 d6 d7 d8 d9 e0 e1 e2 e3 ⟨rfl, rfl, rfl, rfl, hP, hG, he⟩
      dsimp only at hP hG he ⊢
      obtain ⟨rfl, rfl, rfl, rfl⟩ : e0 = nI (dR r) ∧ e1 = nI (uR r) ∧ e2 = nI (bR r) ∧ e3 = nI (mR (prF τ (τ 1)) β r) := by
        have := he
        simp only [Prod.mk.injEq] at this
        exact this
      have eg : fX9_givesBy 4 p1 bs (nI (τ 0)) pe' d8 (nI (dR r)) (nI (uR r)) (nI (bR r)) (nI (mR (prF τ (τ 1)) β r)) = _ := gb9x (k := 4) hb hK hT hP hG r1 r2 rd p1
      rw [if_neg one0]
      by_cases g0 : p1 = 0
      · rw [if_pos g0, if_pos (nI_le (by have := hact g0; omega) (by omega)), eg, bd1_mk, if_pos gG, rg9x hb hK hT hP hG r1 r2 rd p1 rg, bd1_mk, show fX9_couponOf 4 (nI (dR r)) bs = _ from cp9 (k := 4) hb hd6, bd1_mk, nm_mk]
        exact Sx.mk ⟨rfl, rfl⟩
      · rw [if_neg g0, eg, bd1_mk, if_pos gG, rg9x hb hK hT hP hG r1 r2 rd p1 rg, bd1_mk, show fX9_couponOf 4 (nI (dR r)) bs = _ from cp9 (k := 4) hb hd6, bd1_mk, nm_mk]
        exact Sx.mk ⟨rfl, rfl⟩
    have h8 : Sx (fX8_does p1 1 0 (nI r) pd rg htr hbt st sb pu pe tu ca ho va ma ac) (fun z => z.1 = (pd + giN (enC τ β r p1) (cpF β (dR r))) - Int32.toInt64 (nI (cpF β (dR r))) ∧ (z.2.1, z.2.2.1, z.2.2.2.1) = (1, (pd + giN (enC τ β r p1) (cpF β (dR r))) - Int32.toInt64 (nI (cpF β (dR r))), rg + (if 0 < lN (vR (prF τ (τ 1)) (τ 0) (τ 6) (τ 7) (τ 8) β (bV (prF τ (τ 1)) β) r) - giN (enC τ β r p1) (cpF β (dR r)) then lN (vR (prF τ (τ 1)) (τ 0) (τ 6) (τ 7) (τ 8) β (bV (prF τ (τ 1)) β) r) - giN (enC τ β r p1) (cpF β (dR r)) else -(lN (vR (prF τ (τ 1)) (τ 0) (τ 6) (τ 7) (τ 8) β (bV (prF τ (τ 1)) β) r) - giN (enC τ β r p1) (cpF β (dR r)))))) := by
      unfold fX8_does
      rw [if_neg one0, wi1 h1, bd1_mk, if_neg one0, if_pos rfl]
      have fin : Sx (bd10 (fX8_workOutHand htr hbt st sb pu pe tu ca ho va ma ac) (fun a0 a1 a2 a3 a4 a5 a6 a7 a8 a9 => bd1 (fX5_givesInstead (nI r) p1 a0 a1 a4 a5 a6) (fun r18 => if 0 ≤ r18 then bd1 (fX5_valueAt (nI r) a7) (fun r22 => nm (rg + (if 0 < (r22 - r18) then (r22 - r18) else -(r22 - r18))) (fun w25 => bd1 (fX8_dayOf (nI r)) (fun r26 => bd1 (fX0_couponOn r26 hbt) (fun r28 => nm (pd + (r18 - (Int32.toInt64 r28))) (fun w31 => some (w31, (1 : Int32), w31, w25, a0, a1, a2, a3, a4, a5, a6, a7, a8, a9)))))) else some ((-3), (0 : Int32), pd, rg, a0, a1, a2, a3, a4, a5, a6, a7, a8, a9)))) (fun z => z.1 = (pd + giN (enC τ β r p1) (cpF β (dR r))) - Int32.toInt64 (nI (cpF β (dR r))) ∧ (z.2.1, z.2.2.1, z.2.2.2.1) = (1, (pd + giN (enC τ β r p1) (cpF β (dR r))) - Int32.toInt64 (nI (cpF β (dR r))), rg + (if 0 < lN (vR (prF τ (τ 1)) (τ 0) (τ 6) (τ 7) (τ 8) β (bV (prF τ (τ 1)) β) r) - giN (enC τ β r p1) (cpF β (dR r)) then lN (vR (prF τ (τ 1)) (τ 0) (τ 6) (τ 7) (τ 8) β (bV (prF τ (τ 1)) β) r) - giN (enC τ β r p1) (cpF β (dR r)) else -(lN (vR (prF τ (τ 1)) (τ 0) (τ 6) (τ 7) (τ 8) β (bV (prF τ (τ 1)) β) r) - giN (enC τ β r p1) (cpF β (dR r)))))) := by
        refine Sx.b10 (wh8 hf hT hcb0 hK st sb pu pe tu ca ho va ma ac) ?_
        rintro c0 c1 c2 c3 c4 c5 c6 c7 c8 c9 ⟨hc, hcb, hsb⟩
        dsimp only at hc hcb hsb ⊢
        rw [gi8x hc hT hcb hK hsb r1 r2 rd p1, bd1_mk, if_pos gG, va8 r1 r2, bd1_mk, nm_mk, day8 r r2 r1, bd1_mk, co8 hcb0 hd6, bd1_mk, nm_mk, (hsb.2 r r1 r1 (row_T hT r1 r2 rd)).1, ePD]
        exact Sx.mk ⟨rfl, rfl⟩
      by_cases g0 : p1 = 0
      · rw [if_pos g0, old8 hf hT r1 r2 rd, bd1_mk, if_pos (show dR r = τ 0 from hact g0), if_neg one0]
        exact fin
      · rw [if_neg g0]
        exact fin
    refine Sx2.par (fun s => (s.1, s.2.1, s.2.2.1)) (fun t => (t.2.2.2.2.2.2.2.2.2.2.2.2.2.2.1, t.2.2.2.2.2.2.2.2.2.2.2.2.2.2.2.1, t.2.2.2.2.2.2.2.2.2.2.2.2.2.2.2.2)) h8 h9 (fun s t p q => ?_)
    exact mk 1 0 _ _ (Or.inr ⟨rfl, rfl⟩) _ _ p q
  · have h9 : Sx (fX9_does p1 tree bs hmv x0 x1 x2 x3 pe9 a9 b9 wo9 ho9 ac9 s1 s2 s3 s4 1 1 (nI (dR r)) pd rg) (fun z => z.1 = -3 ∧ (z.2.2.2.2.2.2.2.2.2.2.2.2.2.2.2.1, z.2.2.2.2.2.2.2.2.2.2.2.2.2.2.2.2.1, z.2.2.2.2.2.2.2.2.2.2.2.2.2.2.2.2.2) = (1, pd, rg)) := by
      unfold fX9_does
      rw [if_neg one0, in1 h1, bd1_mk, if_neg one0]
      refine Sx.b14 (sbh9 hf9 hT hb hK r1 r2 rd hm x0 x1 x2 x3 pe9 a9 b9 wo9 ho9 ac9 s1 s2 s3 s4) ?_
      rintro d0 d1 d2 d3 pe' d5 d6 d7 d8 d9 e0 e1 e2 e3 ⟨rfl, rfl, rfl, rfl, hP, hG, he⟩
      dsimp only at hP hG he ⊢
      obtain ⟨rfl, rfl, rfl, rfl⟩ : e0 = nI (dR r) ∧ e1 = nI (uR r) ∧ e2 = nI (bR r) ∧ e3 = nI (mR (prF τ (τ 1)) β r) := by
        have := he
        simp only [Prod.mk.injEq] at this
        exact this
      have eg : fX9_givesBy 4 p1 bs (nI (τ 0)) pe' d8 (nI (dR r)) (nI (uR r)) (nI (bR r)) (nI (mR (prF τ (τ 1)) β r)) = _ := gb9x (k := 4) hb hK hT hP hG r1 r2 rd p1
      rw [if_neg one0]
      by_cases g0 : p1 = 0
      · rw [if_pos g0, if_pos (nI_le (by have := hact g0; omega) (by omega)), eg, bd1_mk, if_neg gG]
        exact Sx.mk ⟨rfl, rfl⟩
      · rw [if_neg g0, eg, bd1_mk, if_neg gG]
        exact Sx.mk ⟨rfl, rfl⟩
    have h8 : Sx (fX8_does p1 1 0 (nI r) pd rg htr hbt st sb pu pe tu ca ho va ma ac) (fun z => z.1 = -3 ∧ (z.2.1, z.2.2.1, z.2.2.2.1) = (0, pd, rg)) := by
      unfold fX8_does
      rw [if_neg one0, wi1 h1, bd1_mk, if_neg one0, if_pos rfl]
      have fin : Sx (bd10 (fX8_workOutHand htr hbt st sb pu pe tu ca ho va ma ac) (fun a0 a1 a2 a3 a4 a5 a6 a7 a8 a9 => bd1 (fX5_givesInstead (nI r) p1 a0 a1 a4 a5 a6) (fun r18 => if 0 ≤ r18 then bd1 (fX5_valueAt (nI r) a7) (fun r22 => nm (rg + (if 0 < (r22 - r18) then (r22 - r18) else -(r22 - r18))) (fun w25 => bd1 (fX8_dayOf (nI r)) (fun r26 => bd1 (fX0_couponOn r26 hbt) (fun r28 => nm (pd + (r18 - (Int32.toInt64 r28))) (fun w31 => some (w31, (1 : Int32), w31, w25, a0, a1, a2, a3, a4, a5, a6, a7, a8, a9)))))) else some ((-3), (0 : Int32), pd, rg, a0, a1, a2, a3, a4, a5, a6, a7, a8, a9)))) (fun z => z.1 = -3 ∧ (z.2.1, z.2.2.1, z.2.2.2.1) = (0, pd, rg)) := by
        refine Sx.b10 (wh8 hf hT hcb0 hK st sb pu pe tu ca ho va ma ac) ?_
        rintro c0 c1 c2 c3 c4 c5 c6 c7 c8 c9 ⟨hc, hcb, hsb⟩
        dsimp only at hc hcb hsb ⊢
        rw [gi8x hc hT hcb hK hsb r1 r2 rd p1, bd1_mk, if_neg gG]
        exact Sx.mk ⟨rfl, rfl⟩
      by_cases g0 : p1 = 0
      · rw [if_pos g0, old8 hf hT r1 r2 rd, bd1_mk, if_pos (show dR r = τ 0 from hact g0), if_neg one0]
        exact fin
      · rw [if_neg g0]
        exact fin
    refine Sx2.par (fun s => (s.1, s.2.1, s.2.2.1)) (fun t => (t.2.2.2.2.2.2.2.2.2.2.2.2.2.2.1, t.2.2.2.2.2.2.2.2.2.2.2.2.2.2.2.1, t.2.2.2.2.2.2.2.2.2.2.2.2.2.2.2.2)) h8 h9 (fun s t p q => ?_)
    exact mk 0 1 pd rg (Or.inl ⟨rfl, rfl⟩) _ _ p q
