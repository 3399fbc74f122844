section
/-! pure: the hand acts, both sides (own rows) -/
theorem q_does {tree bs htr hbt hmv : Nat → Int32} {op ov hrow pl on hmd : Int32} {pd rg pd9 rg9 : Int64} (hH : HQ tree bs op ov hrow pd rg htr hbt hmv pl on hmd pd9 rg9) (p1 : Int32) (st sb : Nat → Int32) (pu pe tu ca ho va : Nat → Int64) (ma ac : Nat → Int32) (x0 x1 x2 x3 : Int32) (pe9 : Nat → Int64) (a9 b9 : Int64) (wo9 ho9 : Nat → Int64) (ac9 : Nat → Int32) (s1 s2 s3 s4 : Int32) : Sx2 (fX8_does p1 op ov hrow pd rg htr hbt st sb pu pe tu ca ho va ma ac) (fX9_does p1 tree bs hmv x0 x1 x2 x3 pe9 a9 b9 wo9 ho9 ac9 s1 s2 s3 s4 pl on hmd pd9 rg9) (fun s t => HQ tree bs op (s.1) hrow (s.2.1) (s.2.2.1) htr hbt hmv pl (t.2.2.2.2.2.2.2.2.2.2.2.2.2.2.1) hmd (t.2.2.2.2.2.2.2.2.2.2.2.2.2.2.2.1) (t.2.2.2.2.2.2.2.2.2.2.2.2.2.2.2.2)) := by
  rcases hH with ⟨rfl, rfl, hoz⟩ | ⟨rfl, rfl, hov, rfl, rfl, τ, β, r, hf, hf9, hT, hcb0, hb, hK, r1, r2, rd, rfl, rfl, hm⟩
  · exact Sx2.mk (by unfold fX8_does; rw [if_pos rfl]) (by unfold fX9_does; rw [if_pos rfl]) (Or.inl ⟨rfl, rfl, hoz⟩)
  have hd6 := (row_b1 r r2 r1).1.1
  have mk : ∀ (ov' on' : Int32) (x y : Int64), ((ov' = 0 ∧ on' = 1) ∨ (ov' = 1 ∧ on' = 0)) → ∀ (s : Int32 × Int64 × Int64) (t : Int32 × Int64 × Int64), s = (ov', x, y) → t = (on', x, y) → HQ tree bs 1 s.1 (nI r) s.2.1 s.2.2 htr hbt hmv 1 t.1 (nI (dR r)) t.2.1 t.2.2 := by
    rintro ov' on' x y ho s t rfl rfl
    exact Or.inr ⟨rfl, rfl, ho, rfl, rfl, τ, β, r, hf, hf9, hT, hcb0, hb, hK, r1, r2, rd, rfl, rfl, hm⟩
  by_cases h1 : inr p1 0 3
  rotate_left
  · exact Sx2.mk (by unfold fX8_does; rw [if_neg one0, wi0 h1, bd1_mk, if_pos rfl]) (by unfold fX9_does; rw [if_neg one0, in0 h1, bd1_mk, if_pos rfl]) (mk ov on pd rg hov _ _ rfl rfl)
  by_cases hA : on = 1 ∧ (p1 = 0 → dR r = τ 0)
  rotate_left
  · have h9 : Sx (fX9_does p1 tree bs hmv x0 x1 x2 x3 pe9 a9 b9 wo9 ho9 ac9 s1 s2 s3 s4 1 on (nI (dR r)) pd rg) (fun z => z.1 = -2 ∧ (z.2.2.2.2.2.2.2.2.2.2.2.2.2.2.2.1, z.2.2.2.2.2.2.2.2.2.2.2.2.2.2.2.2.1, z.2.2.2.2.2.2.2.2.2.2.2.2.2.2.2.2.2) = (on, pd, rg)) := by
      unfold fX9_does
      rw [if_neg one0, in1 h1, bd1_mk, if_neg one0]
      refine Sx.b14 (sbh9 hf9 hT hb hK r1 r2 rd hm x0 x1 x2 x3 pe9 a9 b9 wo9 ho9 ac9 s1 s2 s3 s4) ?_
      rintro d0 d1 d2 d3 pe' d5 d6 d7 d8 d9 e0 e1 e2 e3 ⟨rfl, rfl, rfl, rfl, hP, hG, he⟩
      dsimp only at hP hG he ⊢
      obtain ⟨rfl, rfl, rfl, rfl⟩ : e0 = nI (dR r) ∧ e1 = nI (uR r) ∧ e2 = nI (bR r) ∧ e3 = nI (mR (prF τ (τ 1)) β r) := by
        have := he
        simp only [Prod.mk.injEq] at this
        exact this
      by_cases g : on = 0
      · rw [if_pos g]; exact Sx.mk ⟨rfl, rfl⟩
      · have g1 : on = 1 := by
          rcases hov with q | q
          · exact q.2
          · exact absurd q.2 g
        have g0 : p1 = 0 := by
          by_cases z : p1 = 0
          · exact z
          · exact absurd ⟨g1, fun y => absurd y z⟩ hA
        have g2 : ¬ dR r = τ 0 := fun z => hA ⟨g1, fun _ => z⟩
        rw [if_neg g, if_pos g0, if_neg (nI_ge (by omega) (by omega))]; exact Sx.mk ⟨rfl, rfl⟩
    have h8 : Sx (fX8_does p1 1 ov (nI r) pd rg htr hbt st sb pu pe tu ca ho va ma ac) (fun z => z.1 = -2 ∧ (z.2.1, z.2.2.1, z.2.2.2.1) = (ov, pd, rg)) := by
      unfold fX8_does
      rw [if_neg one0, wi1 h1, bd1_mk, if_neg one0]
      by_cases g : ov = 0
      · have g1 : on = 1 := by
          rcases hov with q | q
          · exact q.2
          · rw [q.1] at g; exact absurd g one0
        have g0 : p1 = 0 := by
          by_cases z : p1 = 0
          · exact z
          · exact absurd ⟨g1, fun y => absurd y z⟩ hA
        have g2 : ¬ dR r = τ 0 := fun z => hA ⟨g1, fun _ => z⟩
        rw [if_pos g, if_pos g0, old8 hf hT r1 r2 rd, bd1_mk, if_neg g2, if_pos rfl]; exact Sx.mk ⟨rfl, rfl⟩
      · rw [if_neg g]; exact Sx.mk ⟨rfl, rfl⟩
    refine Sx2.par (fun s => (s.1, s.2.1, s.2.2.1)) (fun t => (t.2.2.2.2.2.2.2.2.2.2.2.2.2.2.1, t.2.2.2.2.2.2.2.2.2.2.2.2.2.2.2.1, t.2.2.2.2.2.2.2.2.2.2.2.2.2.2.2.2)) h8 h9 (fun s t p q => ?_)
    exact mk ov on pd rg hov _ _ p q
  obtain ⟨rfl, hact⟩ := hA
  have hov0 : ov = 0 := by
    rcases hov with q | q
    · exact q.1
    · exact absurd q.2 one0
  subst hov0
  have ePD : pd + (giN (enC τ β r p1) (cpF β (dR r)) - Int32.toInt64 (nI (cpF β (dR r)))) = (pd + giN (enC τ β r p1) (cpF β (dR r))) - Int32.toInt64 (nI (cpF β (dR r))) := by
    rw [Int64.sub_eq_add_neg, Int64.sub_eq_add_neg, Int64.add_assoc]
  by_cases gG : 0 ≤ giN (enC τ β r p1) (cpF β (dR r))
  · have h9 : Sx (fX9_does p1 tree bs hmv x0 x1 x2 x3 pe9 a9 b9 wo9 ho9 ac9 s1 s2 s3 s4 1 1 (nI (dR r)) pd rg) (fun z => z.1 = (pd + giN (enC τ β r p1) (cpF β (dR r))) - Int32.toInt64 (nI (cpF β (dR r))) ∧ (z.2.2.2.2.2.2.2.2.2.2.2.2.2.2.2.1, z.2.2.2.2.2.2.2.2.2.2.2.2.2.2.2.2.1, z.2.2.2.2.2.2.2.2.2.2.2.2.2.2.2.2.2) = (0, (pd + giN (enC τ β r p1) (cpF β (dR r))) - Int32.toInt64 (nI (cpF β (dR r))), rg + (if 0 < lN (vR (prF τ (τ 1)) (τ 0) (τ 6) (τ 7) (τ 8) β (bV (prF τ (τ 1)) β) r) - giN (enC τ β r p1) (cpF β (dR r)) then lN (vR (prF τ (τ 1)) (τ 0) (τ 6) (τ 7) (τ 8) β (bV (prF τ (τ 1)) β) r) - giN (enC τ β r p1) (cpF β (dR r)) else -(lN (vR (prF τ (τ 1)) (τ 0) (τ 6) (τ 7) (τ 8) β (bV (prF τ (τ 1)) β) r) - giN (enC τ β r p1) (cpF β (dR r)))))) := by
      unfold fX9_does
      rw [if_neg one0, in1 h1, bd1_mk, if_neg one0]
      refine Sx.b14 (sbh9 hf9 hT hb hK r1 r2 rd hm x0 x1 x2 x3 pe9 a9 b9 wo9 ho9 ac9 s1 s2 s3 s4) ?_
      rintro d0 d1 d2 d3 pe' d5 d6 d7 d8 d9 e0 e1 e2 e3 ⟨rfl, rfl, rfl, rfl, hP, hG, he⟩
      dsimp only at hP hG he ⊢
      obtain ⟨rfl, rfl, rfl, rfl⟩ : e0 = nI (dR r) ∧ e1 = nI (uR r) ∧ e2 = nI (bR r) ∧ e3 = nI (mR (prF τ (τ 1)) β r) := by
        have := he
        simp only [Prod.mk.injEq] at this
        exact this
      have eg : fX9_givesBy 4 p1 bs (nI (τ 0)) pe' d8 (nI (dR r)) (nI (uR r)) (nI (bR r)) (nI (mR (prF τ (τ 1)) β r)) = _ := gb9x (k := 4) hb hK hT hP hG r1 r2 rd p1
      rw [if_neg one0]
      by_cases g0 : p1 = 0
      · rw [if_pos g0, if_pos (nI_le (by have := hact g0; omega) (by omega)), eg, bd1_mk, if_pos gG, rg9x hb hK hT hP hG r1 r2 rd p1 rg, bd1_mk, show fX9_couponOf 4 (nI (dR r)) bs = _ from cp9 (k := 4) hb hd6, bd1_mk, nm_mk]
        exact Sx.mk ⟨rfl, rfl⟩
      · rw [if_neg g0, eg, bd1_mk, if_pos gG, rg9x hb hK hT hP hG r1 r2 rd p1 rg, bd1_mk, show fX9_couponOf 4 (nI (dR r)) bs = _ from cp9 (k := 4) hb hd6, bd1_mk, nm_mk]
        exact Sx.mk ⟨rfl, rfl⟩
    have h8 : Sx (fX8_does p1 1 0 (nI r) pd rg htr hbt st sb pu pe tu ca ho va ma ac) (fun z => z.1 = (pd + giN (enC τ β r p1) (cpF β (dR r))) - Int32.toInt64 (nI (cpF β (dR r))) ∧ (z.2.1, z.2.2.1, z.2.2.2.1) = (1, (pd + giN (enC τ β r p1) (cpF β (dR r))) - Int32.toInt64 (nI (cpF β (dR r))), rg + (if 0 < lN (vR (prF τ (τ 1)) (τ 0) (τ 6) (τ 7) (τ 8) β (bV (prF τ (τ 1)) β) r) - giN (enC τ β r p1) (cpF β (dR r)) then lN (vR (prF τ (τ 1)) (τ 0) (τ 6) (τ 7) (τ 8) β (bV (prF τ (τ 1)) β) r) - giN (enC τ β r p1) (cpF β (dR r)) else -(lN (vR (prF τ (τ 1)) (τ 0) (τ 6) (τ 7) (τ 8) β (bV (prF τ (τ 1)) β) r) - giN (enC τ β r p1) (cpF β (dR r)))))) := by
      unfold fX8_does
      rw [if_neg one0, wi1 h1, bd1_mk, if_neg one0, if_pos rfl]
      have fin : Sx (bd10 (fX8_workOutHand htr hbt st sb pu pe tu ca ho va ma ac) (fun a0 a1 a2 a3 a4 a5 a6 a7 a8 a9 => bd1 (fX5_givesInstead (nI r) p1 a0 a1 a4 a5 a6) (fun r18 => if 0 ≤ r18 then bd1 (fX5_valueAt (nI r) a7) (fun r22 => nm (rg + (if 0 < (r22 - r18) then (r22 - r18) else -(r22 - r18))) (fun w25 => bd1 (fX8_dayOf (nI r)) (fun r26 => bd1 (fX0_couponOn r26 hbt) (fun r28 => nm (pd + (r18 - (Int32.toInt64 r28))) (fun w31 => some (w31, (1 : Int32), w31, w25, a0, a1, a2, a3, a4, a5, a6, a7, a8, a9)))))) else some ((-3), (0 : Int32), pd, rg, a0, a1, a2, a3, a4, a5, a6, a7, a8, a9)))) (fun z => z.1 = (pd + giN (enC τ β r p1) (cpF β (dR r))) - Int32.toInt64 (nI (cpF β (dR r))) ∧ (z.2.1, z.2.2.1, z.2.2.2.1) = (1, (pd + giN (enC τ β r p1) (cpF β (dR r))) - Int32.toInt64 (nI (cpF β (dR r))), rg + (if 0 < lN (vR (prF τ (τ 1)) (τ 0) (τ 6) (τ 7) (τ 8) β (bV (prF τ (τ 1)) β) r) - giN (enC τ β r p1) (cpF β (dR r)) then lN (vR (prF τ (τ 1)) (τ 0) (τ 6) (τ 7) (τ 8) β (bV (prF τ (τ 1)) β) r) - giN (enC τ β r p1) (cpF β (dR r)) else -(lN (vR (prF τ (τ 1)) (τ 0) (τ 6) (τ 7) (τ 8) β (bV (prF τ (τ 1)) β) r) - giN (enC τ β r p1) (cpF β (dR r)))))) := by
        refine Sx.b10 (wh8 hf hT hcb0 hK st sb pu pe tu ca ho va ma ac) ?_
        rintro c0 c1 c2 c3 c4 c5 c6 c7 c8 c9 ⟨hc, hcb, hsb⟩
        dsimp only at hc hcb hsb ⊢
        rw [gi8x hc hT hcb hK hsb r1 r2 rd p1, bd1_mk, if_pos gG, va8 r1 r2, bd1_mk, nm_mk, day8 r r2 r1, bd1_mk, co8 hcb0 hd6, bd1_mk, nm_mk, (hsb.2 r r1 r1 (row_T hT r1 r2 rd)).1, ePD]
        exact Sx.mk ⟨rfl, rfl⟩
      by_cases g0 : p1 = 0
      · rw [if_pos g0, old8 hf hT r1 r2 rd, bd1_mk, if_pos (show dR r = τ 0 from hact g0), if_neg one0]
        exact fin
      · rw [if_neg g0]
        exact fin
    refine Sx2.par (fun s => (s.1, s.2.1, s.2.2.1)) (fun t => (t.2.2.2.2.2.2.2.2.2.2.2.2.2.2.1, t.2.2.2.2.2.2.2.2.2.2.2.2.2.2.2.1, t.2.2.2.2.2.2.2.2.2.2.2.2.2.2.2.2)) h8 h9 (fun s t p q => ?_)
    exact mk 1 0 _ _ (Or.inr ⟨rfl, rfl⟩) _ _ p q
  · have h9 : Sx (fX9_does p1 tree bs hmv x0 x1 x2 x3 pe9 a9 b9 wo9 ho9 ac9 s1 s2 s3 s4 1 1 (nI (dR r)) pd rg) (fun z => z.1 = -3 ∧ (z.2.2.2.2.2.2.2.2.2.2.2.2.2.2.2.1, z.2.2.2.2.2.2.2.2.2.2.2.2.2.2.2.2.1, z.2.2.2.2.2.2.2.2.2.2.2.2.2.2.2.2.2) = (1, pd, rg)) := by
      unfold fX9_does
      rw [if_neg one0, in1 h1, bd1_mk, if_neg one0]
      refine Sx.b14 (sbh9 hf9 hT hb hK r1 r2 rd hm x0 x1 x2 x3 pe9 a9 b9 wo9 ho9 ac9 s1 s2 s3 s4) ?_
      rintro d0 d1 d2 d3 pe' d5 d6 d7 d8 d9 e0 e1 e2 e3 ⟨rfl, rfl, rfl, rfl, hP, hG, he⟩
      dsimp only at hP hG he ⊢
      obtain ⟨rfl, rfl, rfl, rfl⟩ : e0 = nI (dR r) ∧ e1 = nI (uR r) ∧ e2 = nI (bR r) ∧ e3 = nI (mR (prF τ (τ 1)) β r) := by
        have := he
        simp only [Prod.mk.injEq] at this
        exact this
      have eg : fX9_givesBy 4 p1 bs (nI (τ 0)) pe' d8 (nI (dR r)) (nI (uR r)) (nI (bR r)) (nI (mR (prF τ (τ 1)) β r)) = _ := gb9x (k := 4) hb hK hT hP hG r1 r2 rd p1
      rw [if_neg one0]
      by_cases g0 : p1 = 0
      · rw [if_pos g0, if_pos (nI_le (by have := hact g0; omega) (by omega)), eg, bd1_mk, if_neg gG]
        exact Sx.mk ⟨rfl, rfl⟩
      · rw [if_neg g0, eg, bd1_mk, if_neg gG]
        exact Sx.mk ⟨rfl, rfl⟩
    have h8 : Sx (fX8_does p1 1 0 (nI r) pd rg htr hbt st sb pu pe tu ca ho va ma ac) (fun z => z.1 = -3 ∧ (z.2.1, z.2.2.1, z.2.2.2.1) = (0, pd, rg)) := by
      unfold fX8_does
      rw [if_neg one0, wi1 h1, bd1_mk, if_neg one0, if_pos rfl]
      have fin : Sx (bd10 (fX8_workOutHand htr hbt st sb pu pe tu ca ho va ma ac) (fun a0 a1 a2 a3 a4 a5 a6 a7 a8 a9 => bd1 (fX5_givesInstead (nI r) p1 a0 a1 a4 a5 a6) (fun r18 => if 0 ≤ r18 then bd1 (fX5_valueAt (nI r) a7) (fun r22 => nm (rg + (if 0 < (r22 - r18) then (r22 - r18) else -(r22 - r18))) (fun w25 => bd1 (fX8_dayOf (nI r)) (fun r26 => bd1 (fX0_couponOn r26 hbt) (fun r28 => nm (pd + (r18 - (Int32.toInt64 r28))) (fun w31 => some (w31, (1 : Int32), w31, w25, a0, a1, a2, a3, a4, a5, a6, a7, a8, a9)))))) else some ((-3), (0 : Int32), pd, rg, a0, a1, a2, a3, a4, a5, a6, a7, a8, a9)))) (fun z => z.1 = -3 ∧ (z.2.1, z.2.2.1, z.2.2.2.1) = (0, pd, rg)) := by
        refine Sx.b10 (wh8 hf hT hcb0 hK st sb pu pe tu ca ho va ma ac) ?_
        rintro c0 c1 c2 c3 c4 c5 c6 c7 c8 c9 ⟨hc, hcb, hsb⟩
        dsimp only at hc hcb hsb ⊢
        rw [gi8x hc hT hcb hK hsb r1 r2 rd p1, bd1_mk, if_neg gG]
        exact Sx.mk ⟨rfl, rfl⟩
      by_cases g0 : p1 = 0
      · rw [if_pos g0, old8 hf hT r1 r2 rd, bd1_mk, if_pos (show dR r = τ 0 from hact g0), if_neg one0]
        exact fin
      · rw [if_neg g0]
        exact fin
    refine Sx2.par (fun s => (s.1, s.2.1, s.2.2.1)) (fun t => (t.2.2.2.2.2.2.2.2.2.2.2.2.2.2.1, t.2.2.2.2.2.2.2.2.2.2.2.2.2.2.2.1, t.2.2.2.2.2.2.2.2.2.2.2.2.2.2.2.2)) h8 h9 (fun s t p q => ?_)
    exact mk 0 1 pd rg (Or.inl ⟨rfl, rfl⟩) _ _ p q
end
section
/-! pure: the hand is opened, both sides (own rows) -/
theorem op13 (p : Int32) (t0 : Nat → Int32) : ∀ (i n x : Nat) (tree : Nat → Int32), x + i = 9 → (∀ y, y < x → tree (9 + y) = t0 y) → (∀ y, y < 9 → tree y = t0 y) → Sx (lpX9_open_13 p (n + i + 1) (nI x) tree) (fun z => (∀ y, y < 9 → z (9 + y) = t0 y) ∧ (∀ y, y < 9 → z y = t0 y)) := by
  intro i
  induction i with
  | zero =>
    intro n x tree hi h1 h2
    rw [lpX9_open_13.eq_2, if_pos (show (9 : Int32) ≤ nI x from nI_le (a := 9) (by omega) (by omega))]
    exact Sx.mk ⟨fun y hy => h1 y (by omega), h2⟩
  | succ i ih =>
    intro n x tree hi h1 h2
    rw [lpX9_open_13.eq_2, if_neg (show ¬ (9 : Int32) ≤ nI x from nI_ge (b := 9) (by omega) (by omega)), og32 (by omega) (by omega), i_9, nI_add, og32 (by omega) (by omega), nm_mk, nm_mk, nI_1, nI_clamp (n := 9 + x) (by omega), nI_clamp (n := x) (by omega), show n + (i + 1) = n + i + 1 by omega]
    refine ih n (x + 1) _ (by omega) (fun y hy => ?_) (fun y hy => ?_)
    · rw [upS]
      by_cases e : y = x
      · rw [if_pos (by omega), e]; exact h2 x (by omega)
      · rw [if_neg (by omega)]; exact h1 y (by omega)
    · rw [upS, if_neg (by omega)]; exact h2 y hy
theorem bg8 {k : Nat} (hk : k < 3) (op ov hrow : Int32) (pd rg : Int64) (htr hbt tr b0 b1 b2 : Nat → Int32) : (if nI k = 0 then bd7 (fX3_begin op ov hrow pd rg htr hbt tr b0) (fun x0 x1 x2 x3 x4 x5 x6 => some (x0, x1, x2, x3, x4, x5, x6)) else if nI k = 1 then bd7 (fX3_begin op ov hrow pd rg htr hbt tr b1) (fun x0 x1 x2 x3 x4 x5 x6 => some (x0, x1, x2, x3, x4, x5, x6)) else bd7 (fX3_begin op ov hrow pd rg htr hbt tr b2) (fun x0 x1 x2 x3 x4 x5 x6 => some (x0, x1, x2, x3, x4, x5, x6))) = some (1, 0, 1, 0, 0, va_cpy tr htr 0 0 9, va_cpy (bsel k b0 b1 b2) hbt 0 0 36) := by
  have e : ∀ b : Nat → Int32, fX3_begin op ov hrow pd rg htr hbt tr b = some (1, 0, 1, 0, 0, va_cpy tr htr 0 0 9, va_cpy b hbt 0 0 36) := fun b => by
    unfold fX3_begin fX7_takeFrom fX0_takeFrom
    rw [cl_0, cl_9, cl_36]; rfl
  rcases (show k = 0 ∨ k = 1 ∨ k = 2 by omega) with rfl | rfl | rfl
  · rw [if_pos (show nI 0 = (0 : Int32) from rfl), e]; rfl
  · rw [if_neg (show ¬ nI 1 = (0 : Int32) from one0), if_pos (show nI 1 = (1 : Int32) from rfl), e]; rfl
  · rw [if_neg (show ¬ nI 2 = (0 : Int32) by decide), if_neg (show ¬ nI 2 = (1 : Int32) by decide), e]; rfl
theorem q_open {tr b0 b1 b2 : Nat → Int32} {τ : Nat → Nat} {B : Nat → Nat → Nat} (hf : TC tr τ) {tree bs htr hbt hmv : Nat → Int32} {op ov hrow pl on hmd : Int32} {pd rg pd9 rg9 : Int64} (hH : HQ tree bs op ov hrow pd rg htr hbt hmv pl on hmd pd9 rg9) (hf9 : TR tree 0 τ) (hT : TK τ) (hB : CB3 b0 b1 b2 B) (hb9 : ∀ k, k < 3 → RB bs k (B k)) (p1 : Int32) (st sb : Nat → Int32) (pu pe tu ca ho va : Nat → Int64) (ma ac : Nat → Int32) (x0 x1 x2 x3 : Int32) (pe9 : Nat → Int64) (a9 b9 : Int64) (wo9 ho9 : Nat → Int64) (ac9 : Nat → Int32) (s1 s2 s3 s4 : Int32) : Sx2 (fX8_open p1 tr b0 b1 b2 op ov hrow pd rg htr hbt st sb pu pe tu ca ho va ma ac) (fX9_open p1 tree bs hmv x0 x1 x2 x3 pe9 a9 b9 wo9 ho9 ac9 s1 s2 s3 s4 pl on hmd pd9 rg9) (fun s t => HQ (t.1) (t.2.1) (s.1) (s.2.1) (s.2.2.1) (s.2.2.2.1) (s.2.2.2.2.1) (s.2.2.2.2.2.1) (s.2.2.2.2.2.2.1) hmv (t.2.2.2.2.2.2.2.2.2.2.2.2.2.2.2.2.1) (t.2.2.2.2.2.2.2.2.2.2.2.2.2.2.2.2.2.1) (t.2.2.2.2.2.2.2.2.2.2.2.2.2.2.2.2.2.2.1) (t.2.2.2.2.2.2.2.2.2.2.2.2.2.2.2.2.2.2.2.1) (t.2.2.2.2.2.2.2.2.2.2.2.2.2.2.2.2.2.2.2.2) ∧ (∀ y, y < 9 → t.1 y = tree y) ∧ FrB 4 bs t.2.1) := by
  by_cases h1 : inr p1 0 2
  rotate_left
  · exact Sx2.mk (by unfold fX8_open; rw [isb8n h1, bd1_mk, if_pos rfl]) (by unfold fX9_open; rw [isb9n h1, bd1_mk, if_pos rfl]) ⟨hH, fun _ _ => rfl, FrB.refl _ _⟩
  obtain ⟨k, rfl, _, hk, _⟩ := inr_n h1 (by decide)
  have hk3 : k < 3 := by omega
  have h8 : Sx (fX8_open (nI k) tr b0 b1 b2 op ov hrow pd rg htr hbt st sb pu pe tu ca ho va ma ac) (fun z => z.1 = lN (V1 τ (B k)) ∧ (z.2.1, z.2.2.1, z.2.2.2.1, z.2.2.2.2.1, z.2.2.2.2.2.1, z.2.2.2.2.2.2.1, z.2.2.2.2.2.2.2.1) = (1, 0, 1, 0, 0, va_cpy tr htr 0 0 9, va_cpy (bsel k b0 b1 b2) hbt 0 0 36)) := by
    unfold fX8_open
    rw [isb8y h1, bd1_mk, if_neg one0, og32 hk3 (by omega), bg8 hk3, bd7_mk]
    refine Sx.b10 (wo8 hk3 hf hT hB st sb pu pe tu ca ho va ma ac) ?_
    rintro c0 c1 c2 c3 c4 c5 c6 c7 c8 c9 ⟨hc, hcb, hsb⟩
    dsimp only at hc hcb hsb ⊢
    rw [root8 hsb, bd1_mk]
    exact Sx.mk ⟨rfl, rfl⟩
  have h9 : Sx (fX9_open (nI k) tree bs hmv x0 x1 x2 x3 pe9 a9 b9 wo9 ho9 ac9 s1 s2 s3 s4 pl on hmd pd9 rg9) (fun z => z.1 = lN (V1 τ (B k)) ∧ (TR z.2.1 9 τ ∧ (∀ y, y < 9 → z.2.1 y = tree y)) ∧ (RB z.2.2.1 4 (B k) ∧ FrB 4 bs z.2.2.1) ∧ (z.2.2.2.2.2.2.2.2.2.2.2.2.2.2.2.2.2.1, z.2.2.2.2.2.2.2.2.2.2.2.2.2.2.2.2.2.2.1, z.2.2.2.2.2.2.2.2.2.2.2.2.2.2.2.2.2.2.2.1, z.2.2.2.2.2.2.2.2.2.2.2.2.2.2.2.2.2.2.2.2.1, z.2.2.2.2.2.2.2.2.2.2.2.2.2.2.2.2.2.2.2.2.2) = (1, 1, 0, 0, 0)) := by
    unfold fX9_open
    rw [isb9y h1, bd1_mk, if_neg one0]
    obtain ⟨n, hn⟩ := fuN 10 (by omega)
    refine Sx.b1 (P := fun z => (∀ y, y < 9 → z (9 + y) = tree y) ∧ (∀ y, y < 9 → z y = tree y)) (by rw [hn]; exact op13 (nI k) tree 9 n 0 tree (by omega) (fun y hy => absurd hy (Nat.not_lt_zero y)) (fun _ _ => rfl)) ?_
    rintro t2 ⟨k1, k2⟩
    refine Sx.b1 (show Sx (fX9_copies (nI k) 4 bs) _ from cy9 (k := k) (l := 4) (by omega) (by omega) (by omega) (hb9 k hk3)) ?_
    rintro b2' ⟨w1, w2⟩
    have ht9 : TR t2 9 τ := fun i hi => by rw [k1 i hi]; exact tr0 hf9 hi
    refine Sx.b14 (show Sx (fX9_standsByHand t2 b2' hmv x0 x1 x2 x3 pe9 a9 b9 wo9 ho9 ac9 s1 s2 s3 s4 0) _ from sbh9 (r := 1) ht9 hT w1 (hB k hk3).2 (by omega) (by omega) (Nat.zero_le _) (fun i hi => absurd hi (Nat.not_lt_zero i)) x0 x1 x2 x3 pe9 a9 b9 wo9 ho9 ac9 s1 s2 s3 s4) ?_
    rintro d0 d1 d2 d3 pe' d5 d6 d7 d8 d9 e0 e1 e2 e3 ⟨rfl, rfl, rfl, rfl, hP, hG, he⟩
    dsimp only at hP hG he ⊢
    obtain ⟨rfl, rfl, rfl, rfl⟩ : e0 = nI (dR 1) ∧ e1 = nI (uR 1) ∧ e2 = nI (bR 1) ∧ e3 = nI (mR (prF τ (τ 1)) (B k) 1) := by
      have := he
      simp only [Prod.mk.injEq] at this
      exact this
    have l1 := aT_lt (prF τ (τ 1)) (B k) (r := 1) (by omega) (by omega)
    have v1 := (GD.r hG (r := 1) (by omega) (by omega) (Nat.zero_le _)).1
    rw [hn9, bd1_mk, og32 l1 (by omega), nI_clamp (by omega), v1, vR_1]
    exact Sx.mk ⟨rfl, ⟨ht9, k2⟩, ⟨w1, w2⟩, rfl⟩
  obtain ⟨⟨x, s⟩, e1, p1, p2⟩ := h8
  obtain ⟨⟨y, t⟩, e2, q1, ⟨q2, q3⟩, ⟨q4, q5⟩, q6⟩ := h9
  dsimp only at p1 p2 q1 q2 q3 q4 q5 q6
  subst p1 q1
  refine ⟨_, s, t, e1, e2, ?_, q3, q5⟩
  simp only [Prod.mk.injEq] at p2 q6
  obtain ⟨a0, a1, a2, a3, a4, a5, a6⟩ := p2
  obtain ⟨c0, c1, c2, c3, c4⟩ := q6
  rw [a0, a1, a2, a3, a4, a5, a6, c0, c1, c2, c3, c4]
  exact Or.inr ⟨rfl, rfl, Or.inl ⟨rfl, rfl⟩, rfl, rfl, τ, B k, 1, hf.cpy, q2, hT, (hB k hk3).1.cpy, q4, (hB k hk3).2, by omega, by omega, Nat.zero_le _, rfl, rfl, fun i hi => absurd hi (Nat.not_lt_zero i)⟩
end
section
/-! pure: states kept by the reference (own rows) -/
theorem ks1 (v : Int32) (K : Nat → Int32) {a : Nat} (h : a < 1424) : fX9_keeps v K (nI a) 1 = some (v, upd K a v, nI (a + 1)) := by
  unfold fX9_keeps
  rw [if_neg one0, og32 h (by omega), nm_mk, bd1_mk, nm_mk, nI_1, i_1, pk_sub (by omega), Nat.add_sub_cancel, og32 h (by omega), nI_clamp (by omega), upS, if_pos rfl]
theorem ks0 (v : Int32) (K : Nat → Int32) {a : Nat} (h : a < 1424) : fX9_keeps v K (nI a) 0 = some (K a, K, nI (a + 1)) := by
  unfold fX9_keeps
  rw [if_pos rfl, bd1_mk, nm_mk, nI_1, i_1, pk_sub (by omega), Nat.add_sub_cancel, og32 h (by omega), nI_clamp (by omega)]
theorem kp19s (w : Int32) (t0 : Nat → Int32) : ∀ (i n x a : Nat) (t K : Nat → Int32), x + i = 18 → a + i ≤ 1424 → (∀ y, t y = t0 y) → Sx (lpX9_keepsAll_19 w 1 (n + i + 1) (nI x) t K (nI a)) (fun z => (∀ y, z.1 y = t0 y) ∧ (∀ y, z.2.1 y = if a ≤ y ∧ y < a + i then t0 (x + (y - a)) else K y) ∧ z.2.2 = nI (a + i)) := by
  intro i
  induction i with
  | zero =>
    intro n x a t K hi ha h
    rw [lpX9_keepsAll_19.eq_2, if_pos (show (18 : Int32) ≤ nI x from nI_le (a := 18) (by omega) (by omega))]
    exact Sx.mk ⟨h, fun y => by rw [if_neg (by omega)], rfl⟩
  | succ i ih =>
    intro n x a t K hi ha h
    rw [lpX9_keepsAll_19.eq_2, if_neg (show ¬ (18 : Int32) ≤ nI x from nI_ge (b := 18) (by omega) (by omega)), og32 (by omega) (by omega), ks1 _ _ (by omega), bd3_mk, og32 (by omega) (by omega), nm_mk, nm_mk, nI_1, nI_clamp (by omega), show n + (i + 1) = n + i + 1 by omega]
    refine (ih n (x + 1) (a + 1) _ _ (by omega) (by omega) (fun y => ?_)).imp ?_
    · rw [upS]
      by_cases e : y = x
      · rw [if_pos e, e]; exact h x
      · rw [if_neg e]; exact h y
    · rintro z ⟨z1, z2, z3⟩
      refine ⟨z1, fun y => ?_, by rw [z3, show a + 1 + i = a + (i + 1) by omega]⟩
      rw [z2 y]
      by_cases g : a + 1 ≤ y ∧ y < a + 1 + i
      · rw [if_pos g, if_pos (by omega), show x + 1 + (y - (a + 1)) = x + (y - a) by omega]
      · rw [if_neg g, upS]
        by_cases e : y = a
        · rw [if_pos e, if_pos (by omega), h x, show x + (y - a) = x by omega]
        · rw [if_neg e, if_neg (by omega)]
theorem kp19r (w : Int32) (K : Nat → Int32) : ∀ (i n x a : Nat) (t : Nat → Int32), x + i = 18 → a + i ≤ 1424 → Sx (lpX9_keepsAll_19 w 0 (n + i + 1) (nI x) t K (nI a)) (fun z => (∀ y, z.1 y = if x ≤ y ∧ y < 18 then K (a + (y - x)) else t y) ∧ z.2.1 = K ∧ z.2.2 = nI (a + i)) := by
  intro i
  induction i with
  | zero =>
    intro n x a t hi ha
    rw [lpX9_keepsAll_19.eq_2, if_pos (show (18 : Int32) ≤ nI x from nI_le (a := 18) (by omega) (by omega))]
    exact Sx.mk ⟨fun y => by rw [if_neg (by omega)], rfl, rfl⟩
  | succ i ih =>
    intro n x a t hi ha
    rw [lpX9_keepsAll_19.eq_2, if_neg (show ¬ (18 : Int32) ≤ nI x from nI_ge (b := 18) (by omega) (by omega)), og32 (by omega) (by omega), ks0 _ _ (by omega), bd3_mk, og32 (by omega) (by omega), nm_mk, nm_mk, nI_1, nI_clamp (by omega), show n + (i + 1) = n + i + 1 by omega]
    refine (ih n (x + 1) (a + 1) _ (by omega) (by omega)).imp ?_
    rintro z ⟨z1, z2, z3⟩
    refine ⟨fun y => ?_, z2, by rw [z3, show a + 1 + i = a + (i + 1) by omega]⟩
    rw [z1 y]
    by_cases g : x + 1 ≤ y ∧ y < 18
    · rw [if_pos g, if_pos (by omega), show a + 1 + (y - (x + 1)) = a + (y - x) by omega]
    · rw [if_neg g, upS]
      by_cases e : y = x
      · rw [if_pos e, if_pos (by omega), show a + (y - x) = a by omega]
      · rw [if_neg e, if_neg (by omega)]
theorem kp49s (w : Int32) (t0 : Nat → Int32) : ∀ (i n x a : Nat) (t K : Nat → Int32), x + i = 135 → a + i ≤ 1424 → (∀ y, t y = t0 y) → Sx (lpX9_keepsAll_49 w 1 (n + i + 1) (nI x) t K (nI a)) (fun z => (∀ y, z.1 y = t0 y) ∧ (∀ y, z.2.1 y = if a ≤ y ∧ y < a + i then t0 (x + (y - a)) else K y) ∧ z.2.2 = nI (a + i)) := by
  intro i
  induction i with
  | zero =>
    intro n x a t K hi ha h
    rw [lpX9_keepsAll_49.eq_2, if_pos (show (135 : Int32) ≤ nI x from nI_le (a := 135) (by omega) (by omega))]
    exact Sx.mk ⟨h, fun y => by rw [if_neg (by omega)], rfl⟩
  | succ i ih =>
    intro n x a t K hi ha h
    rw [lpX9_keepsAll_49.eq_2, if_neg (show ¬ (135 : Int32) ≤ nI x from nI_ge (b := 135) (by omega) (by omega)), og32 (by omega) (by omega), ks1 _ _ (by omega), bd3_mk, og32 (by omega) (by omega), nm_mk, nm_mk, nI_1, nI_clamp (by omega), show n + (i + 1) = n + i + 1 by omega]
    refine (ih n (x + 1) (a + 1) _ _ (by omega) (by omega) (fun y => ?_)).imp ?_
    · rw [upS]
      by_cases e : y = x
      · rw [if_pos e, e]; exact h x
      · rw [if_neg e]; exact h y
    · rintro z ⟨z1, z2, z3⟩
      refine ⟨z1, fun y => ?_, by rw [z3, show a + 1 + i = a + (i + 1) by omega]⟩
      rw [z2 y]
      by_cases g : a + 1 ≤ y ∧ y < a + 1 + i
      · rw [if_pos g, if_pos (by omega), show x + 1 + (y - (a + 1)) = x + (y - a) by omega]
      · rw [if_neg g, upS]
        by_cases e : y = a
        · rw [if_pos e, if_pos (by omega), h x, show x + (y - a) = x by omega]
        · rw [if_neg e, if_neg (by omega)]
theorem kp49r (w : Int32) (K : Nat → Int32) : ∀ (i n x a : Nat) (t : Nat → Int32), x + i = 135 → a + i ≤ 1424 → Sx (lpX9_keepsAll_49 w 0 (n + i + 1) (nI x) t K (nI a)) (fun z => (∀ y, z.1 y = if x ≤ y ∧ y < 135 then K (a + (y - x)) else t y) ∧ z.2.1 = K ∧ z.2.2 = nI (a + i)) := by
  intro i
  induction i with
  | zero =>
    intro n x a t hi ha
    rw [lpX9_keepsAll_49.eq_2, if_pos (show (135 : Int32) ≤ nI x from nI_le (a := 135) (by omega) (by omega))]
    exact Sx.mk ⟨fun y => by rw [if_neg (by omega)], rfl, rfl⟩
  | succ i ih =>
    intro n x a t hi ha
    rw [lpX9_keepsAll_49.eq_2, if_neg (show ¬ (135 : Int32) ≤ nI x from nI_ge (b := 135) (by omega) (by omega)), og32 (by omega) (by omega), ks0 _ _ (by omega), bd3_mk, og32 (by omega) (by omega), nm_mk, nm_mk, nI_1, nI_clamp (by omega), show n + (i + 1) = n + i + 1 by omega]
    refine (ih n (x + 1) (a + 1) _ (by omega) (by omega)).imp ?_
    rintro z ⟨z1, z2, z3⟩
    refine ⟨fun y => ?_, z2, by rw [z3, show a + 1 + i = a + (i + 1) by omega]⟩
    rw [z1 y]
    by_cases g : x + 1 ≤ y ∧ y < 135
    · rw [if_pos g, if_pos (by omega), show a + 1 + (y - (x + 1)) = a + (y - x) by omega]
    · rw [if_neg g, upS]
      by_cases e : y = x
      · rw [if_pos e, if_pos (by omega), show a + (y - x) = a by omega]
      · rw [if_neg e, if_neg (by omega)]
end
section
/-! pure: moves kept by the reference (own rows) -/
theorem kp80s (w : Int32) (m0 h0 : Nat → Int32) : ∀ (i n x a : Nat) (m hm K : Nat → Int32), x + i = 6 → a + 2 * i ≤ 1424 → (∀ y, m y = m0 y) → (∀ y, hm y = h0 y) → Sx (lpX9_keepsAll_80 w 1 (n + i + 1) (nI x) m hm K (nI a)) (fun z => (∀ y, z.1 y = m0 y) ∧ (∀ y, z.2.1 y = h0 y) ∧ (∀ y, z.2.2.1 y = if a ≤ y ∧ y < a + 2 * i then (if (y - a) % 2 = 0 then m0 (x + (y - a) / 2) else h0 (x + (y - a) / 2)) else K y) ∧ z.2.2.2 = nI (a + 2 * i)) := by
  intro i
  induction i with
  | zero =>
    intro n x a m hm K hi ha e1 e2
    rw [lpX9_keepsAll_80.eq_2, if_pos (show (6 : Int32) ≤ nI x from nI_le (a := 6) (by omega) (by omega))]
    exact Sx.mk ⟨e1, e2, fun y => by rw [if_neg (by omega)], rfl⟩
  | succ i ih =>
    intro n x a m hm K hi ha e1 e2
    rw [lpX9_keepsAll_80.eq_2, if_neg (show ¬ (6 : Int32) ≤ nI x from nI_ge (b := 6) (by omega) (by omega)), og32 (by omega) (by omega), ks1 _ _ (by omega), bd3_mk, og32 (by omega) (by omega), nm_mk, og32 (by omega) (by omega), ks1 _ _ (by omega), bd3_mk, og32 (by omega) (by omega), nm_mk, nm_mk, nI_1, nI_clamp (by omega), show n + (i + 1) = n + i + 1 by omega]
    refine (ih n (x + 1) (a + 1 + 1) _ _ _ (by omega) (by omega) (fun y => ?_) (fun y => ?_)).imp ?_
    · rw [upS]
      by_cases e : y = x
      · rw [if_pos e, e]; exact e1 x
      · rw [if_neg e]; exact e1 y
    · rw [upS]
      by_cases e : y = x
      · rw [if_pos e, e]; exact e2 x
      · rw [if_neg e]; exact e2 y
    · rintro z ⟨z1, z2, z3, z4⟩
      refine ⟨z1, z2, fun y => ?_, by rw [z4, show a + 1 + 1 + 2 * i = a + 2 * (i + 1) by omega]⟩
      rw [z3 y]
      by_cases g : a + 1 + 1 ≤ y ∧ y < a + 1 + 1 + 2 * i
      · rw [if_pos g, if_pos (show a ≤ y ∧ y < a + 2 * (i + 1) by omega), show (y - (a + 1 + 1)) % 2 = (y - a) % 2 by omega, show x + 1 + (y - (a + 1 + 1)) / 2 = x + (y - a) / 2 by omega]
      · rw [if_neg g, upS, upS]
        by_cases b1 : y = a + 1
        · rw [if_pos b1, if_pos (show a ≤ y ∧ y < a + 2 * (i + 1) by omega), if_neg (by omega), e2 x, show x + (y - a) / 2 = x by omega]
        · rw [if_neg b1]
          by_cases b0 : y = a
          · rw [if_pos b0, if_pos (show a ≤ y ∧ y < a + 2 * (i + 1) by omega), if_pos (by omega), e1 x, show x + (y - a) / 2 = x by omega]
          · rw [if_neg b0, if_neg (by omega)]
theorem kp80r (w : Int32) (K : Nat → Int32) : ∀ (i n x a : Nat) (m hm : Nat → Int32), x + i = 6 → a + 2 * i ≤ 1424 → Sx (lpX9_keepsAll_80 w 0 (n + i + 1) (nI x) m hm K (nI a)) (fun z => (∀ y, z.1 y = if x ≤ y ∧ y < 6 then K (a + 2 * (y - x)) else m y) ∧ (∀ y, z.2.1 y = if x ≤ y ∧ y < 6 then K (a + 2 * (y - x) + 1) else hm y) ∧ z.2.2.1 = K ∧ z.2.2.2 = nI (a + 2 * i)) := by
  intro i
  induction i with
  | zero =>
    intro n x a m hm hi ha
    rw [lpX9_keepsAll_80.eq_2, if_pos (show (6 : Int32) ≤ nI x from nI_le (a := 6) (by omega) (by omega))]
    exact Sx.mk ⟨fun y => by rw [if_neg (by omega)], fun y => by rw [if_neg (by omega)], rfl, rfl⟩
  | succ i ih =>
    intro n x a m hm hi ha
    rw [lpX9_keepsAll_80.eq_2, if_neg (show ¬ (6 : Int32) ≤ nI x from nI_ge (b := 6) (by omega) (by omega)), og32 (by omega) (by omega), ks0 _ _ (by omega), bd3_mk, og32 (by omega) (by omega), nm_mk, og32 (by omega) (by omega), ks0 _ _ (by omega), bd3_mk, og32 (by omega) (by omega), nm_mk, nm_mk, nI_1, nI_clamp (by omega), show n + (i + 1) = n + i + 1 by omega]
    refine (ih n (x + 1) (a + 1 + 1) _ _ (by omega) (by omega)).imp ?_
    rintro z ⟨z1, z2, z3, z4⟩
    refine ⟨fun y => ?_, fun y => ?_, z3, by rw [z4, show a + 1 + 1 + 2 * i = a + 2 * (i + 1) by omega]⟩
    · rw [z1 y]
      by_cases g : x + 1 ≤ y ∧ y < 6
      · rw [if_pos g, if_pos (by omega), show a + 1 + 1 + 2 * (y - (x + 1)) = a + 2 * (y - x) by omega]
      · rw [if_neg g, upS]
        by_cases e : y = x
        · rw [if_pos e, if_pos (by omega), show a + 2 * (y - x) = a by omega]
        · rw [if_neg e, if_neg (by omega)]
    · rw [z2 y]
      by_cases g : x + 1 ≤ y ∧ y < 6
      · rw [if_pos g, if_pos (by omega), show a + 1 + 1 + 2 * (y - (x + 1)) + 1 = a + 2 * (y - x) + 1 by omega]
      · rw [if_neg g, upS]
        by_cases e : y = x
        · rw [if_pos e, if_pos (by omega), show a + 2 * (y - x) + 1 = a + 1 by omega]
        · rw [if_neg e, if_neg (by omega)]
end
section
/-! pure: all kept by the reference, and the relation of a snapshot (own rows) -/
def nb9 (x : Int32) : Int32 := if x = 0 then 0 else 1
theorem nb9_ite (x : Int32) : (if x = 0 then (some 0 : Option Int32) else some 1) = some (nb9 x) := by
  unfold nb9
  by_cases h : x = 0
  · rw [if_pos h, if_pos h]
  · rw [if_neg h, if_neg h]
def ob9 (x : Int32) : Int32 := if x = 1 then 1 else 0
theorem ob9_ite (x : Int32) : (if x = 1 then (some 1 : Option Int32) else some 0) = some (ob9 x) := by
  unfold ob9
  by_cases h : x = 1
  · rw [if_pos h, if_pos h]
  · rw [if_neg h, if_neg h]
theorem ob9_bo (x : Int32) : boB (ob9 x) = true := by
  unfold ob9
  by_cases h : x = 1
  · rw [if_pos h]; rfl
  · rw [if_neg h]; rfl
/-- segment s of the kept numbers is this -/
def Seg (K : Nat → Int32) (KL : Nat → Int64) (s : Nat) (tree bonds mv hm : Nat → Int32) (moved pl on hmd : Int32) (pd rg : Int64) : Prop :=
  (∀ j, j < 18 → K (178 * s + j) = tree j) ∧ (∀ j, j < 135 → K (178 * s + 18 + j) = bonds j) ∧ (∀ j, j < 6 → K (178 * s + 153 + 2 * j) = mv j) ∧ (∀ j, j < 6 → K (178 * s + 153 + 2 * j + 1) = hm j) ∧ K (178 * s + 165) = moved ∧ K (178 * s + 166) = hmd ∧ ob9 (K (178 * s + 167)) = pl ∧ ob9 (K (178 * s + 168)) = on ∧ KL (2 * s) = pd ∧ KL (2 * s + 1) = rg
theorem ka_s (s : Nat) (hs : s < 8) (tree bonds mv hm : Nat → Int32) (moved pl on hmd : Int32) (pd rg : Int64) (K : Nat → Int32) (KL : Nat → Int64) (ka tk : Int32) : Sx (fX9_keepsAll 1 tree bonds mv hm moved pl on hmd pd rg (nI s) K KL ka tk) (fun z => ((∀ y, z.1 y = tree y) ∧ (∀ y, z.2.1 y = bonds y) ∧ (∀ y, z.2.2.1 y = mv y) ∧ (∀ y, z.2.2.2.1 y = hm y) ∧ z.2.2.2.2.1 = moved ∧ z.2.2.2.2.2.1 = ob9 (nb9 pl) ∧ z.2.2.2.2.2.2.1 = ob9 (nb9 on) ∧ z.2.2.2.2.2.2.2.1 = hmd ∧ z.2.2.2.2.2.2.2.2.1 = pd ∧ z.2.2.2.2.2.2.2.2.2.1 = rg) ∧ Seg z.2.2.2.2.2.2.2.2.2.2.1 z.2.2.2.2.2.2.2.2.2.2.2.1 s tree bonds mv hm moved (ob9 (nb9 pl)) (ob9 (nb9 on)) hmd pd rg ∧ (∀ y, y < 178 * s → z.2.2.2.2.2.2.2.2.2.2.1 y = K y) ∧ (∀ y, y < 2 * s → z.2.2.2.2.2.2.2.2.2.2.2.1 y = KL y)) := by
  obtain ⟨n1, h1⟩ := fu_s 18 (by decide)
  obtain ⟨n2, h2⟩ := fu_s 135 (by decide)
  obtain ⟨n3, h3⟩ := fu_s 6 (by decide)
  have e1 : (178 : Int32) * nI s = nI (178 * s) := by rw [show (178 : Int32) = nI 178 from rfl, pk_mul]
  have e2 : (2 : Int32) * nI s = nI (2 * s) := by rw [show (2 : Int32) = nI 2 from rfl, pk_mul]
  have e3 : nI (2 * s) + 1 = nI (2 * s + 1) := by rw [i_1, nI_add]
  unfold fX9_keepsAll
  rw [e1, e2, e3]
  refine Sx.og rfl (Sx.nm ?_)
  rw [h1]
  refine Sx.b3 (kp19s 1 tree 18 n1 0 (178 * s) tree K (by omega) (by omega) (fun _ => rfl)) ?_
  rintro t1 K1 a1 ⟨t1e, K1e, a1e⟩
  dsimp only at t1e K1e a1e ⊢
  subst a1e
  rw [← h1, h2]
  refine Sx.b3 (kp49s 1 bonds 135 n2 0 (178 * s + 18) bonds K1 (by omega) (by omega) (fun _ => rfl)) ?_
  rintro t2 K2 a2 ⟨t2e, K2e, a2e⟩
  dsimp only at t2e K2e a2e ⊢
  subst a2e
  rw [← h2, h3]
  refine Sx.b4 (kp80s 1 mv hm 6 n3 0 (178 * s + 18 + 135) mv hm K2 (by omega) (by omega) (fun _ => rfl) (fun _ => rfl)) ?_
  rintro t3 t4 K3 a3 ⟨t3e, t4e, K3e, a3e⟩
  dsimp only at t3e t4e K3e a3e ⊢
  subst a3e
  rw [ks1 _ _ (by omega), bd3_mk, ks1 _ _ (by omega), bd3_mk, nb9_ite, bd1_mk, ks1 _ _ (by omega), bd3_mk, ob9_ite, bd1_mk]
  refine Sx.og (ob9_bo _) ?_
  rw [nb9_ite, bd1_mk, ks1 _ _ (by omega), bd3_mk, ob9_ite, bd1_mk]
  refine Sx.og (ob9_bo _) ?_
  rw [if_neg one0, og32 (by omega) (by omega), nm_mk, nI_clamp (by omega), og32 (by omega) (by omega), nm_mk, nI_clamp (by omega), bd1_mk, og32 (by omega) (by omega), nm_mk, og32 (by omega) (by omega), nm_mk]
  have f : ∀ y, y < 178 * s + 165 ∨ 178 * s + 169 ≤ y → upd (upd (upd (upd K3 (178 * s + 18 + 135 + 2 * 6) moved) (178 * s + 18 + 135 + 2 * 6 + 1) hmd) (178 * s + 18 + 135 + 2 * 6 + 1 + 1) (nb9 pl)) (178 * s + 18 + 135 + 2 * 6 + 1 + 1 + 1) (nb9 on) y = K3 y := fun y hy => by
    rw [upS, if_neg (by omega), upS, if_neg (by omega), upS, if_neg (by omega), upS, if_neg (by omega)]
  have l0 : vp_updL (vp_updL KL (2 * s) pd) (2 * s + 1) rg (2 * s) = pd := by rw [upL, if_neg (by omega), upL, if_pos rfl]
  have l1 : vp_updL (vp_updL KL (2 * s) pd) (2 * s + 1) rg (2 * s + 1) = rg := by rw [upL, if_pos rfl]
  refine Sx.mk ⟨⟨t1e, t2e, t3e, t4e, rfl, rfl, rfl, rfl, l0, l1⟩, ⟨?_, ?_, ?_, ?_, ?_, ?_, ?_, ?_, l0, l1⟩, ?_, ?_⟩
  · intro j hj
    show upd _ _ _ _ = _
    rw [f _ (by omega), K3e, if_neg (by omega), K2e, if_neg (by omega), K1e, if_pos (by omega)]
    congr 1; omega
  · intro j hj
    show upd _ _ _ _ = _
    rw [f _ (by omega), K3e, if_neg (by omega), K2e, if_pos (by omega)]
    congr 1; omega
  · intro j hj
    show upd _ _ _ _ = _
    rw [f _ (by omega), K3e, if_pos (by omega), if_pos (by omega)]
    congr 1; omega
  · intro j hj
    show upd _ _ _ _ = _
    rw [f _ (by omega), K3e, if_pos (by omega), if_neg (by omega)]
    congr 1; omega
  · show upd _ _ _ _ = _
    rw [upS, if_neg (by omega), upS, if_neg (by omega), upS, if_neg (by omega), upS, if_pos (by omega)]
  · show upd _ _ _ _ = _
    rw [upS, if_neg (by omega), upS, if_neg (by omega), upS, if_pos (by omega)]
  · show ob9 (upd _ _ _ _) = _
    rw [upS, if_neg (by omega), upS, if_pos (by omega)]
  · show ob9 (upd _ _ _ _) = _
    rw [upS, if_pos (by omega)]
  · intro y hy
    show upd _ _ _ _ = _
    rw [f _ (by omega), K3e, if_neg (by omega), K2e, if_neg (by omega), K1e, if_neg (by omega)]
  · intro y hy
    show vp_updL _ _ _ _ = _
    rw [upL, if_neg (by omega), upL, if_neg (by omega)]
theorem ka_r (s : Nat) (hs : s < 8) (tree bonds mv hm : Nat → Int32) (moved pl on hmd : Int32) (pd rg : Int64) (K : Nat → Int32) (KL : Nat → Int64) (ka tk : Int32) : Sx (fX9_keepsAll 0 tree bonds mv hm moved pl on hmd pd rg (nI s) K KL ka tk) (fun z => (Seg K KL s z.1 z.2.1 z.2.2.1 z.2.2.2.1 z.2.2.2.2.1 z.2.2.2.2.2.1 z.2.2.2.2.2.2.1 z.2.2.2.2.2.2.2.1 z.2.2.2.2.2.2.2.2.1 z.2.2.2.2.2.2.2.2.2.1) ∧ z.2.2.2.2.2.2.2.2.2.2.1 = K ∧ z.2.2.2.2.2.2.2.2.2.2.2.1 = KL) := by
  obtain ⟨n1, h1⟩ := fu_s 18 (by decide)
  obtain ⟨n2, h2⟩ := fu_s 135 (by decide)
  obtain ⟨n3, h3⟩ := fu_s 6 (by decide)
  have e1 : (178 : Int32) * nI s = nI (178 * s) := by rw [show (178 : Int32) = nI 178 from rfl, pk_mul]
  have e2 : (2 : Int32) * nI s = nI (2 * s) := by rw [show (2 : Int32) = nI 2 from rfl, pk_mul]
  have e3 : nI (2 * s) + 1 = nI (2 * s + 1) := by rw [i_1, nI_add]
  unfold fX9_keepsAll
  rw [e1, e2, e3]
  refine Sx.og rfl (Sx.nm ?_)
  rw [h1]
  refine Sx.b3 (kp19r 0 K 18 n1 0 (178 * s) tree (by omega) (by omega)) ?_
  rintro t1 K1 a1 ⟨t1e, K1e, a1e⟩
  dsimp only at t1e K1e a1e ⊢
  subst a1e K1e
  rw [← h1, h2]
  refine Sx.b3 (kp49r 0 K1 135 n2 0 (178 * s + 18) bonds (by omega) (by omega)) ?_
  rintro t2 K2 a2 ⟨t2e, K2e, a2e⟩
  dsimp only at t2e K2e a2e ⊢
  subst a2e K2e
  rw [← h2, h3]
  refine Sx.b4 (kp80r 0 K2 6 n3 0 (178 * s + 18 + 135) mv hm (by omega) (by omega)) ?_
  rintro t3 t4 K3 a3 ⟨t3e, t4e, K3e, a3e⟩
  dsimp only at t3e t4e K3e a3e ⊢
  subst a3e K3e
  rw [ks0 _ _ (by omega), bd3_mk, ks0 _ _ (by omega), bd3_mk, nb9_ite, bd1_mk, ks0 _ _ (by omega), bd3_mk, ob9_ite, bd1_mk]
  refine Sx.og (ob9_bo _) ?_
  rw [nb9_ite, bd1_mk, ks0 _ _ (by omega), bd3_mk, ob9_ite, bd1_mk]
  refine Sx.og (ob9_bo _) ?_
  rw [if_pos rfl, bd1_mk, og32 (by omega) (by omega), nm_mk, nI_clamp (by omega), og32 (by omega) (by omega), nm_mk, nI_clamp (by omega)]
  refine Sx.mk ⟨⟨?_, ?_, ?_, ?_, rfl, rfl, rfl, rfl, rfl, rfl⟩, rfl, rfl⟩
  · intro j hj
    show _ = t1 j
    rw [t1e, if_pos (by omega)]
    rfl
  · intro j hj
    show _ = t2 j
    rw [t2e, if_pos (by omega)]
    rfl
  · intro j hj
    show _ = t3 j
    rw [t3e, if_pos (by omega)]
    rfl
  · intro j hj
    show _ = t4 j
    rw [t4e, if_pos (by omega)]
    rfl
/-- class and reference alike, as far as keep goes -/
def Sn (row : Int32) (tr b0 b1 b2 : Nat → Int32) (op ov hrow : Int32) (pd rg : Int64) (htr hbt : Nat → Int32) (tree bs mv hmv : Nat → Int32) (moved pl on hmd : Int32) (pd9 rg9 : Int64) : Prop :=
  (∃ τ, TCT tr tree τ ∧ PQ τ row mv moved) ∧ (∃ B, BCT b0 b1 b2 bs B) ∧ HQ tree bs op ov hrow pd rg htr hbt hmv pl on hmd pd9 rg9
theorem TC.cg {f g : Nat → Int32} {τ : Nat → Nat} (e : ∀ i, i < 9 → g i = f i) (h : TC f τ) : TC g τ := fun i hi => by rw [e i hi, h i hi]
theorem CB.cg {f g : Nat → Int32} {β : Nat → Nat} (e : ∀ i, i < 36 → g i = f i) (h : CB f β) : CB g β := by
  obtain ⟨⟨⟨a0, a1⟩, ⟨a2, a3⟩, ⟨a4, a5, a6⟩, a7⟩, c, d, k⟩ := h
  exact ⟨⟨⟨by rw [e _ (by omega), a0], by rw [e _ (by omega), a1]⟩, ⟨by rw [e _ (by omega), a2], by rw [e _ (by omega), a3]⟩, ⟨by rw [e _ (by omega), a4], by rw [e _ (by omega), a5], by rw [e _ (by omega), a6]⟩, by rw [e _ (by omega), a7]⟩, fun t h1 h2 => by rw [e _ (by omega), c t h1 h2], fun t h1 => by rw [e _ (by omega), d t h1], fun t h1 => by rw [e _ (by omega), k t h1]⟩
theorem RB.cg {f g : Nat → Int32} {k : Nat} {β : Nat → Nat} (e : ∀ i, i < 135 → g i = f i) (h : RB f k β) : RB g k β := ⟨h.1, fun i hi => by rw [e _ (by have := h.1; omega), h.2 i hi]⟩
theorem TR.cg {f g : Nat → Int32} {o : Nat} {τ : Nat → Nat} (ho : o ≤ 9) (e : ∀ i, i < 18 → g i = f i) (h : TR f o τ) : TR g o τ := fun i hi => by rw [e _ (by omega), h i hi]
theorem MV.cg {f g : Nat → Int32} {r : Nat} (hr : dR r ≤ 6) (e : ∀ i, i < 6 → g i = f i) (h : MV f r) : MV g r := fun i hi => by rw [e i (by omega), h i hi]
theorem bsel_cg {b0 b1 b2 d0 d1 d2 : Nat → Int32} (e0 : ∀ i, i < 36 → d0 i = b0 i) (e1 : ∀ i, i < 36 → d1 i = b1 i) (e2 : ∀ i, i < 36 → d2 i = b2 i) (k : Nat) (hk : k < 3) : ∀ i, i < 36 → bsel k d0 d1 d2 i = bsel k b0 b1 b2 i := by
  match k, hk with
  | 0, _ => exact e0
  | 1, _ => exact e1
  | 2, _ => exact e2
theorem Sn.cg {row : Int32} {tr b0 b1 b2 : Nat → Int32} {op ov hrow : Int32} {pd rg : Int64} {htr hbt : Nat → Int32} {tree bs mv hmv : Nat → Int32} {moved pl on hmd : Int32} {pd9 rg9 : Int64} {tr' b0' b1' b2' htr' hbt' tree' bs' mv' hmv' : Nat → Int32} {pl' on' : Int32} (h : Sn row tr b0 b1 b2 op ov hrow pd rg htr hbt tree bs mv hmv moved pl on hmd pd9 rg9)
    (c1 : ∀ i, i < 9 → tr' i = tr i) (c2 : ∀ i, i < 36 → b0' i = b0 i) (c3 : ∀ i, i < 36 → b1' i = b1 i) (c4 : ∀ i, i < 36 → b2' i = b2 i) (c5 : ∀ i, i < 9 → htr' i = htr i) (c6 : ∀ i, i < 36 → hbt' i = hbt i) (d1 : ∀ i, i < 18 → tree' i = tree i) (d2 : ∀ i, i < 135 → bs' i = bs i) (d3 : ∀ i, i < 6 → mv' i = mv i) (d4 : ∀ i, i < 6 → hmv' i = hmv i) (d5 : pl' = ob9 (nb9 pl) ∨ pl' = pl) (d6 : on' = ob9 (nb9 on) ∨ on' = on) :
    Sn row tr' b0' b1' b2' op ov hrow pd rg htr' hbt' tree' bs' mv' hmv' moved pl' on' hmd pd9 rg9 := by
  obtain ⟨⟨τ, ⟨h1, h2, h3⟩, r, r1, r2, rd, re, rm, rv⟩, ⟨B, hB, hR⟩, hH⟩ := h
  refine ⟨⟨τ, ⟨TC.cg c1 h1, TR.cg (by omega) d1 h2, h3⟩, r, r1, r2, rd, re, rm, MV.cg (by have := h3.1.2; omega) d3 rv⟩, ⟨B, fun k hk => ⟨CB.cg (bsel_cg c2 c3 c4 k hk) (hB k hk).1, (hB k hk).2⟩, fun j hj => RB.cg d2 (hR j hj)⟩, ?_⟩
  rcases hH with ⟨a1, a2, a3⟩ | ⟨a1, a2, a3, a4, a5, σ, β, q, g1, g2, g3, g4, g5, g6, g7, g8, g9, g10, g11, g12⟩
  · refine Or.inl ⟨a1, ?_, a3⟩
    rcases d5 with e | e
    · rw [e, a2]; rfl
    · rw [e, a2]
  · refine Or.inr ⟨a1, ?_, ?_, a4, a5, σ, β, q, TC.cg c5 g1, TR.cg (by omega) d1 g2, g3, CB.cg c6 g4, RB.cg d2 g5, g6, g7, g8, g9, g10, g11, MV.cg (by have := g3.1.2; omega) d4 g12⟩
    · rcases d5 with e | e
      · rw [e, a2]; rfl
      · rw [e, a2]
    · rcases a3 with ⟨b1, b2⟩ | ⟨b1, b2⟩
      · refine Or.inl ⟨b1, ?_⟩
        rcases d6 with e | e
        · rw [e, b2]; rfl
        · rw [e, b2]
      · refine Or.inr ⟨b1, ?_⟩
        rcases d6 with e | e
        · rw [e, b2]; rfl
        · rw [e, b2]
end
section
/-! pure: the text read, both sides: blanks, figures, signs (own rows) -/
abbrev TXT (N : Nat) (v : Nat → Nat) (bytes tape : Nat → Int32) : Prop := N ≤ 100 ∧ ∀ i, i < N → v i < 256 ∧ bytes i = nI (v i) ∧ tape i = sB (v i)
def atB (N : Nat) (v : Nat → Nat) (s : Nat) : Int32 := if N ≤ s then -1 else nI (v s)
def dgB (v : Nat) : Int32 := if 48 ≤ v ∧ v ≤ 57 then 1 else 0
theorem sB_x : ∀ v, v < 256 → ((sB v = 32) ↔ v = 32) ∧ (nI v = 32 ↔ v = 32) ∧ (sB v &&& 255 = nI v) ∧ fX9_isFigure (sB v) = some (dgB v) ∧ fX9_isFigure (nI v) = some (dgB v) ∧ fX6_isDigit (nI v) = some (dgB v) := by decide +kernel
theorem sB_d : ∀ v, v < 256 → dgB v ≠ 0 → sB v = nI v ∧ 48 ≤ v ∧ v ≤ 57 := by decide +kernel
theorem dg_n1 : fX9_isFigure (-1) = some 0 ∧ fX6_isDigit (-1) = some 0 := by decide +kernel
theorem wrF : ∀ s, s < 202 → ((-1000 : Int32) * 1) - nI s ≠ 0 ∧ ((-1000 : Int32) * 2) - nI s ≠ 0 ∧ ((-1000 : Int32) * 3) - nI s ≠ 0 := by decide +kernel
theorem wr9 (k x : Int32) : fX9_wrong k x 0 = some (0, ((-1000) * k) - x) := by unfold fX9_wrong; rw [if_pos rfl, nm_mk, bd1_mk]
theorem ob0 {α : Type} (k : Option α) : og (boB 0) k = k := og_mk _ rfl
theorem ob1 {α : Type} (k : Option α) : og (boB 1) k = k := og_mk _ rfl
theorem bAt {N : Nat} {v : Nat → Nat} {bytes tape : Nat → Int32} (h : TXT N v bytes tape) {s : Nat} (hs : s ≤ N) : fX6_byteAt (nI s) (nI N) bytes = some (atB N v s) := by
  unfold fX6_byteAt atB
  have hN := h.1
  rw [if_neg (nI_pos (by omega))]
  by_cases g : N ≤ s
  · rw [if_pos (nI_le g (by omega)), bd1_mk, if_pos g]
  · rw [if_neg (nI_ge (by omega) (by omega)), if_neg (show ¬ (200 : Int32) ≤ nI s from nI_ge (b := 200) (by omega) (by omega)), og32 (by omega) (by omega), nI_clamp (by omega), bd1_mk, if_neg g, (h.2 s (by omega)).2.1]
theorem lkL {N : Nat} {v : Nat → Nat} {bytes tape : Nat → Int32} (h : TXT N v bytes tape) (n : Nat) : ∀ (i s : Nat), s + i = N → ∃ s', s ≤ s' ∧ s' ≤ N ∧ (s' < N → v s' ≠ 32) ∧ ((s < N → v s ≠ 32) → s' = s) ∧ lpX6_look_0 (nI N) bytes (n + i + 1) (nI s) = some (nI s') ∧ lpX9_see_0 tape (nI N) (n + i + 1) (nI s) = some (nI s') := by
  have hN := h.1
  intro i
  induction i with
  | zero =>
    intro s hs
    refine ⟨s, Nat.le_refl _, by omega, fun q => absurd q (by omega), fun _ => rfl, ?_, ?_⟩
    · rw [lpX6_look_0.eq_2, if_pos (nI_le (by omega) (by omega))]
    · rw [lpX9_see_0.eq_2, if_pos (nI_le (by omega) (by omega))]
  | succ i ih =>
    intro s hs
    obtain ⟨h1, h2, h3⟩ := h.2 s (by omega)
    obtain ⟨u1, u2, _⟩ := sB_x _ h1
    have hb : atB N v s = nI (v s) := if_neg (by omega)
    by_cases g : v s = 32
    · obtain ⟨s', a1, a2, a3, _, a5, a6⟩ := ih (s + 1) (by omega)
      refine ⟨s', by omega, a2, a3, fun q => absurd g (q (by omega)), ?_, ?_⟩
      · rw [lpX6_look_0.eq_2, if_neg (nI_ge (by omega) (by omega)), bAt h (by omega), bd1_mk, hb, if_pos (u2.mpr g), nm_mk, nI_1, show n + (i + 1) = n + i + 1 by omega, a5]
      · rw [lpX9_see_0.eq_2, if_neg (nI_ge (by omega) (by omega)), og32 (by omega) (by omega), nI_clamp (by omega), h3, if_pos (u1.mpr g), nm_mk, nI_1, show n + (i + 1) = n + i + 1 by omega, a6]
    · refine ⟨s, Nat.le_refl _, by omega, fun _ => g, fun _ => rfl, ?_, ?_⟩
      · rw [lpX6_look_0.eq_2, if_neg (nI_ge (by omega) (by omega)), bAt h (by omega), bd1_mk, hb, if_neg (fun q => g (u2.mp q))]
      · rw [lpX9_see_0.eq_2, if_neg (nI_ge (by omega) (by omega)), og32 (by omega) (by omega), nI_clamp (by omega), h3, if_neg (fun q => g (u1.mp q))]
theorem lk {N : Nat} {v : Nat → Nat} {bytes tape : Nat → Int32} (h : TXT N v bytes tape) {s : Nat} (hs : s ≤ N) : ∃ s', s ≤ s' ∧ s' ≤ N ∧ (s' < N → v s' ≠ 32) ∧ ((s < N → v s ≠ 32) → s' = s) ∧ fX6_look (nI N) (nI s) bytes = some (atB N v s', nI s') ∧ fX9_see tape (nI s) (nI N) = some (atB N v s', nI s') := by
  have hN := h.1
  obtain ⟨n, hn⟩ := fu_s (N - s) (by omega)
  obtain ⟨s', a1, a2, a3, a4, a5, a6⟩ := lkL h n (N - s) s (by omega)
  refine ⟨s', a1, a2, a3, a4, ?_, ?_⟩
  · unfold fX6_look
    rw [hn, a5, bd1_mk, bAt h a2, bd1_mk]
  · unfold fX9_see
    rw [hn, a6, bd1_mk]
    by_cases g : N ≤ s'
    · rw [if_pos (nI_le g (by omega)), bd1_mk, show atB N v s' = -1 from if_pos g]
    · obtain ⟨h1, h2, h3⟩ := h.2 s' (by omega)
      rw [if_neg (nI_ge (by omega) (by omega)), og32 (by omega) (by omega), nI_clamp (by omega), h3, (sB_x _ h1).2.2.1, bd1_mk, show atB N v s' = nI (v s') from if_neg g]
theorem lk0 {N : Nat} {v : Nat → Nat} {bytes tape : Nat → Int32} (h : TXT N v bytes tape) {s : Nat} (hs : s ≤ N) (hb : s < N → v s ≠ 32) : fX6_look (nI N) (nI s) bytes = some (atB N v s, nI s) ∧ fX9_see tape (nI s) (nI N) = some (atB N v s, nI s) := by
  obtain ⟨s', _, _, _, a4, a5, a6⟩ := lk h hs
  rw [a4 hb] at a5 a6
  exact ⟨a5, a6⟩
theorem dgA {N : Nat} {v : Nat → Nat} {bytes tape : Nat → Int32} (h : TXT N v bytes tape) {s : Nat} (_ : s ≤ N) : ∃ d : Int32, fX6_isDigit (atB N v s) = some d ∧ fX9_isFigure (atB N v s) = some d ∧ (d = 0 ∨ (s < N ∧ d = dgB (v s) ∧ d ≠ 0)) := by
  by_cases g : N ≤ s
  · rw [show atB N v s = -1 from if_pos g]
    exact ⟨0, dg_n1.2, dg_n1.1, Or.inl rfl⟩
  · obtain ⟨h1, h2, h3⟩ := h.2 s (by omega)
    rw [show atB N v s = nI (v s) from if_neg g]
    refine ⟨dgB (v s), (sB_x _ h1).2.2.2.2.2, (sB_x _ h1).2.2.2.2.1, ?_⟩
    by_cases e : dgB (v s) = 0
    · exact Or.inl e
    · exact Or.inr ⟨by omega, rfl, e⟩
theorem numS {x w : Nat} (hw : 48 ≤ w) : ((nI x * 10) + nI w) - 48 = nI (10 * x + (w - 48)) ∧ ((10 * nI x) + nI w) - 48 = nI (10 * x + (w - 48)) := by
  constructor
  · rw [show (10 : Int32) = nI 10 from rfl, show (48 : Int32) = nI 48 from rfl, pk_mul, nI_add, pk_sub (by omega)]
    congr 1; omega
  · rw [show (10 : Int32) = nI 10 from rfl, show (48 : Int32) = nI 48 from rfl, pk_mul, nI_add, pk_sub (by omega)]
    congr 1; omega
theorem dgL {N : Nat} {v : Nat → Nat} {bytes tape : Nat → Int32} (h : TXT N v bytes tape) (b n : Nat) : ∀ (i s x : Nat), s + i = N → b ≤ s → s ≤ b + 7 → x < 10 ^ (s - b) → ∃ (tg x' s' : Nat), s ≤ s' ∧ s' ≤ N ∧ s' ≤ b + 7 ∧ x' < 10 ^ (s' - b) ∧ lpX6_takeDigits_27 (nI N) (nI b) bytes (n + i + 1) (nI x) (nI s) = some (tg, nI x', nI s') ∧ lpX9_counts_40 7 tape (nI N) (n + i + 1) (nI s) (nI x) (nI (s - b)) = some (nI s', nI x', nI (s' - b)) ∧ ((tg = 1 ∧ (s' < N → dgB (v s') = 0)) ∨ (tg = 0 ∧ s' < N ∧ dgB (v s') ≠ 0)) ∧ ((s < N ∧ dgB (v s) ≠ 0 ∧ s < b + 7) → s < s') := by
  have hN := h.1
  intro i
  induction i with
  | zero =>
    intro s x hs hb h7 hx
    refine ⟨1, x, s, Nat.le_refl _, by omega, h7, hx, ?_, ?_, Or.inl ⟨rfl, fun q => absurd q (by omega)⟩, fun q => absurd q.1 (by omega)⟩
    · rw [lpX6_takeDigits_27.eq_2, if_pos (nI_le (by omega) (by omega))]
    · rw [lpX9_counts_40.eq_2, if_pos (nI_le (by omega) (by omega))]
  | succ i ih =>
    intro s x hs hb h7 hx
    obtain ⟨h1, h2, h3⟩ := h.2 s (by omega)
    obtain ⟨u1, u2, u3, u4, u5, u6⟩ := sB_x _ h1
    have hbt : atB N v s = nI (v s) := if_neg (by omega)
    have c0 : lpX6_takeDigits_27 (nI N) (nI b) bytes (n + (i + 1) + 1) (nI x) (nI s) = _ := lpX6_takeDigits_27.eq_2 _ _ _ _ _ _
    rw [if_neg (nI_ge (by omega) (by omega)), bAt h (by omega), bd1_mk, hbt, u6, bd1_mk] at c0
    have r0 : lpX9_counts_40 7 tape (nI N) (n + (i + 1) + 1) (nI s) (nI x) (nI (s - b)) = _ := lpX9_counts_40.eq_2 _ _ _ _ _ _ _
    rw [if_neg (show ¬ nI N ≤ nI s from nI_ge (by omega) (by omega)), og32 (by omega) (by omega), nI_clamp (by omega), h3, u4, bd1_mk] at r0
    by_cases e : dgB (v s) = 0
    · refine ⟨1, x, s, Nat.le_refl _, by omega, h7, hx, ?_, ?_, Or.inl ⟨rfl, fun _ => e⟩, fun q => absurd e q.2.1⟩
      · rw [c0, if_pos e]
      · rw [r0]
        by_cases g : (7 : Int32) ≤ nI (s - b)
        · rw [if_pos g]
        · rw [if_neg g, if_pos e]
    · by_cases g : s = b + 7
      · refine ⟨0, x, s, Nat.le_refl _, by omega, h7, hx, ?_, ?_, Or.inr ⟨rfl, by omega, e⟩, fun q => absurd q.2.2 (by omega)⟩
        · rw [c0, if_neg e, pk_sub hb, if_pos (show nI (s - b) = 7 by rw [show s - b = 7 by omega]; rfl)]
        · rw [r0, if_pos (show (7 : Int32) ≤ nI (s - b) from nI_le (a := 7) (by omega) (by omega))]
      · obtain ⟨d1, d2, d3⟩ := sB_d _ h1 e
        have hp : 10 ^ (s + 1 - b) = 10 * 10 ^ (s - b) := by rw [show s + 1 - b = (s - b) + 1 by omega, Nat.pow_succ, Nat.mul_comm]
        obtain ⟨tg, x', s', a1, a2, a3, a4, a5, a6, a7, _⟩ := ih (s + 1) (10 * x + (v s - 48)) (by omega) (by omega) (by omega) (by rw [hp]; omega)
        refine ⟨tg, x', s', by omega, a2, a3, a4, ?_, ?_, a7, fun _ => by omega⟩
        · rw [c0, if_neg e, pk_sub hb, if_neg (show ¬ nI (s - b) = 7 from fun q => by have := (nI_eq (by omega) (by omega)).mp (show nI (s - b) = nI 7 from q); omega), bd1_mk, nm_mk, nm_mk, (numS d2).1, nI_1, show n + (i + 1) = n + i + 1 by omega, a5]
        · rw [r0, if_neg (show ¬ (7 : Int32) ≤ nI (s - b) from nI_ge (b := 7) (by omega) (by omega)), if_neg e, og32 (by omega) (by omega), nm_mk, nm_mk, nm_mk, d1, (numS d2).2, nI_1, nI_1, show n + (i + 1) = n + i + 1 by omega, show s - b + 1 = s + 1 - b by omega, a6]
/-- up to seven figures -/
theorem dg7 {N : Nat} {v : Nat → Nat} {bytes tape : Nat → Int32} (h : TXT N v bytes tape) {s : Nat} (hs : s ≤ N) (f fp bg nu na fi : Int32) : ∃ s1, s ≤ s1 ∧ s1 ≤ N ∧ fX6_look (nI N) (nI s) bytes = some (atB N v s1, nI s1) ∧ (((∃ a b c d, fX6_takeDigits (atB N v s1) (nI N) (nI s1) f fp bg bytes = some (-1, a, b, c, d)) ∧ ∃ a F c d e, fX9_counts 7 tape (nI s) (nI N) 0 nu na fi = some (0, a, F, c, d, e) ∧ F ≠ 0) ∨ ∃ x s2, x < 10000000 ∧ s1 < s2 ∧ s2 ≤ N ∧ fX6_takeDigits (atB N v s1) (nI N) (nI s1) f fp bg bytes = some (nI x, nI s2, f, fp, nI s1) ∧ fX9_counts 7 tape (nI s) (nI N) 0 nu na fi = some (1, nI s2, 0, nI x, nI s1, nI (s2 - s1))) := by
  have hN := h.1
  obtain ⟨s1, a1, a2, a3, _, a5, a6⟩ := lk h hs
  refine ⟨s1, a1, a2, a5, ?_⟩
  obtain ⟨d, e1, e2, e3⟩ := dgA h a2
  by_cases g : d = 0
  · refine Or.inl ⟨⟨nI s1, 1, nI s1, bg, ?_⟩, nI s1, ((-1000) * 1) - nI s1, 0, nI s1, 0, ?_, (wrF s1 (by omega)).1⟩
    · unfold fX6_takeDigits fX6_wrong
      rw [e1, bd1_mk, if_pos g, bd3_mk]
    · unfold fX9_counts
      rw [a6, bd2_mk, e2, bd1_mk, if_pos g, wr9, bd2_mk, ob0]
  · obtain ⟨q1, q2, q3⟩ := e3.resolve_left g
    obtain ⟨n, hn⟩ := fu_s (N - s1) (by omega)
    obtain ⟨tg, x, s2, b1, b2, b3, b4, b5, b6, b7, b8⟩ := dgL h s1 n (N - s1) s1 0 (by omega) (Nat.le_refl _) (by omega) (by rw [Nat.sub_self]; decide)
    rw [Nat.sub_self] at b6
    have hlt := b8 ⟨q1, by rw [← q2]; exact g, by omega⟩
    have hx : x < 10000000 := Nat.lt_of_lt_of_le b4 (Nat.pow_le_pow_right (n := 10) (by decide) (show s2 - s1 ≤ 7 by omega))
    have c1 : fX9_counts 7 tape (nI s) (nI N) 0 nu na fi = (if nI N ≤ nI s2 then some (1, nI s2, 0, nI x, nI s1, nI (s2 - s1)) else og (okI (nI s2) 200) (bd1 (fX9_isFigure (tape (Int32.toNatClampNeg (nI s2)))) (fun r14 => if r14 = 0 then some (1, nI s2, 0, nI x, nI s1, nI (s2 - s1)) else bd2 (fX9_wrong 2 (nI s2) 0) (fun r17 c_fault_18 => og (boB r17) (some (r17, nI s2, c_fault_18, nI x, nI s1, nI (s2 - s1))))))) := by
      unfold fX9_counts
      rw [a6, bd2_mk, e2, bd1_mk, if_neg g, hn, show lpX9_counts_40 7 tape (nI N) (n + (N - s1) + 1) (nI s1) 0 0 = _ from b6, bd3_mk, if_neg (show ¬ (7 : Int32) ≤ 1 by decide)]
    have c2 : fX6_takeDigits (atB N v s1) (nI N) (nI s1) f fp bg bytes = (if tg = 0 then some (-1, nI s2, 2, nI s2, nI s1) else some (nI x, nI s2, f, fp, nI s1)) := by
      unfold fX6_takeDigits fX6_wrong
      rw [e1, bd1_mk, if_neg g, hn, show lpX6_takeDigits_27 (nI N) (nI s1) bytes (n + (N - s1) + 1) 0 (nI s1) = _ from b5, bd3_mk]
      rfl
    rcases b7 with ⟨t1, t2⟩ | ⟨t1, t2, t3⟩
    · refine Or.inr ⟨x, s2, hx, hlt, b2, ?_, ?_⟩
      · rw [c2, if_neg (by omega)]
      · rw [c1]
        by_cases k : N ≤ s2
        · rw [if_pos (nI_le k (by omega))]
        · obtain ⟨h1, h2, h3⟩ := h.2 s2 (by omega)
          rw [if_neg (nI_ge (by omega) (by omega)), og32 (by omega) (by omega), nI_clamp (by omega), h3, (sB_x _ h1).2.2.2.1, bd1_mk, if_pos (t2 (by omega))]
    · refine Or.inl ⟨⟨nI s2, 2, nI s2, nI s1, ?_⟩, nI s2, ((-1000) * 2) - nI s2, nI x, nI s1, nI (s2 - s1), ?_, (wrF s2 (by omega)).2.1⟩
      · rw [c2, if_pos t1]
      · obtain ⟨h1, h2, h3⟩ := h.2 s2 (by omega)
        rw [c1, if_neg (nI_ge (by omega) (by omega)), og32 (by omega) (by omega), nI_clamp (by omega), h3, (sB_x _ h1).2.2.2.1, bd1_mk, if_neg t3, wr9, bd2_mk, ob0]
theorem wiN {x lo hi : Nat} (hx : x < 2 ^ 31) (hl : lo < 2 ^ 31) (hh : hi < 2 ^ 31) : fX8_within (nI x) (nI lo) (nI hi) = some (if lo ≤ x ∧ x ≤ hi then 1 else 0) := by
  by_cases g : lo ≤ x ∧ x ≤ hi
  · rw [if_pos g]
    exact wi1 ((inr_nI hx).mpr ⟨Int.ofNat_le.mpr g.1, Int.ofNat_le.mpr g.2⟩) (nI_toInt hl) (nI_toInt hh)
  · rw [if_neg g]
    exact wi0 (fun q => g (by have := (inr_nI hx).mp q; omega)) (nI_toInt hl) (nI_toInt hh)
theorem inN {x lo hi : Nat} (hx : x < 2 ^ 31) (hl : lo < 2 ^ 31) (hh : hi < 2 ^ 31) : fX9_in (Int32.toInt64 (nI x)) (Int32.toInt64 (nI lo)) (Int32.toInt64 (nI hi)) = some (if lo ≤ x ∧ x ≤ hi then 1 else 0) := by
  by_cases g : lo ≤ x ∧ x ≤ hi
  · rw [if_pos g]
    exact in1 ((inr_nI hx).mpr ⟨Int.ofNat_le.mpr g.1, Int.ofNat_le.mpr g.2⟩) ((Int32.toInt_toInt64 _).trans (nI_toInt hl)) ((Int32.toInt_toInt64 _).trans (nI_toInt hh))
  · rw [if_neg g]
    exact in0 (fun q => g (by have := (inr_nI hx).mp q; omega)) ((Int32.toInt_toInt64 _).trans (nI_toInt hl)) ((Int32.toInt_toInt64 _).trans (nI_toInt hh))
/-- a number, both sides -/
theorem rd7 {N : Nat} {v : Nat → Nat} {bytes tape : Nat → Int32} (h : TXT N v bytes tape) {s : Nat} (hs : s ≤ N) {lo hi : Nat} (hl : lo < 2 ^ 31) (hh : hi < 2 ^ 31) (f fp bg nu na fi : Int32) : ((∃ a b c d, fX6_takeNumber (nI lo) (nI hi) (nI N) (nI s) f fp bg bytes = some (-1, a, b, c, d)) ∧ ∃ a F c d e, fX9_reads 7 (nI lo) (nI hi) tape (nI s) (nI N) 0 nu na fi = some (0, a, F, c, d, e) ∧ F ≠ 0) ∨ ∃ x s2 bg' na' fi', lo ≤ x ∧ x ≤ hi ∧ s < s2 ∧ s2 ≤ N ∧ fX6_takeNumber (nI lo) (nI hi) (nI N) (nI s) f fp bg bytes = some (nI x, nI s2, f, fp, bg') ∧ fX9_reads 7 (nI lo) (nI hi) tape (nI s) (nI N) 0 nu na fi = some (1, nI s2, 0, nI x, na', fi') := by
  have hN := h.1
  obtain ⟨s1, a1, a2, a3, a4⟩ := dg7 h hs f fp bg nu na fi
  rcases a4 with ⟨⟨a, b, c, d, e1⟩, k1, F, k3, k4, k5, e2, e3⟩ | ⟨x, s2, b1, b2, b3, e1, e2⟩
  · refine Or.inl ⟨⟨a, b, c, d, ?_⟩, k1, F, k3, k4, k5, ?_, e3⟩
    · unfold fX6_takeNumber
      rw [a3, bd2_mk, e1, bd5_mk, if_pos (show (-1 : Int32) < 0 by decide)]
    · unfold fX9_reads
      rw [e2, bd6_mk, if_pos rfl]
  · by_cases g : lo ≤ x ∧ x ≤ hi
    · refine Or.inr ⟨x, s2, nI s1, nI s1, nI (s2 - s1), g.1, g.2, by omega, b3, ?_, ?_⟩
      · unfold fX6_takeNumber fX6_wrong
        rw [a3, bd2_mk, e1, bd5_mk, if_neg (nI_pos (by omega)), wiN (by omega) hl hh, bd1_mk, if_pos g, if_neg one0]
      · unfold fX9_reads
        rw [e2, bd6_mk, if_neg one0, inN (by omega) hl hh, bd1_mk, if_pos g, if_neg one0, bd2_mk, ob1]
    · refine Or.inl ⟨⟨nI s2, 3, nI s1, nI s1, ?_⟩, nI s2, ((-1000) * 3) - nI s1, nI x, nI s1, nI (s2 - s1), ?_, (wrF s1 (by omega)).2.2⟩
      · unfold fX6_takeNumber fX6_wrong
        rw [a3, bd2_mk, e1, bd5_mk, if_neg (nI_pos (by omega)), wiN (by omega) hl hh, bd1_mk, if_neg g, if_pos rfl, bd3_mk]
      · unfold fX9_reads
        rw [e2, bd6_mk, if_neg one0, inN (by omega) hl hh, bd1_mk, if_neg g, if_pos rfl, wr9, bd2_mk, if_pos rfl, bd2_mk, ob0]
/-- one figure, both sides -/
theorem rd1 {N : Nat} {v : Nat → Nat} {bytes tape : Nat → Int32} (h : TXT N v bytes tape) {s : Nat} (hs : s ≤ N) {lo hi : Nat} (hl : lo < 2 ^ 31) (hh : hi < 2 ^ 31) (f fp nu na fi : Int32) : ((∃ a b c, fX6_takeDigit (nI lo) (nI hi) (nI N) (nI s) f fp bytes = some (-1, a, b, c)) ∧ ∃ a F c d e, fX9_reads 1 (nI lo) (nI hi) tape (nI s) (nI N) 0 nu na fi = some (0, a, F, c, d, e) ∧ F ≠ 0) ∨ ∃ x s2 na' fi', lo ≤ x ∧ x ≤ hi ∧ x ≤ 9 ∧ s < s2 ∧ s2 ≤ N ∧ fX6_takeDigit (nI lo) (nI hi) (nI N) (nI s) f fp bytes = some (nI x, nI s2, f, fp) ∧ fX9_reads 1 (nI lo) (nI hi) tape (nI s) (nI N) 0 nu na fi = some (1, nI s2, 0, nI x, na', fi') := by
  have hN := h.1
  obtain ⟨s1, a1, a2, a3, _, a5, a6⟩ := lk h hs
  obtain ⟨d, e1, e2, e3⟩ := dgA h a2
  by_cases g : d = 0
  · refine Or.inl ⟨⟨nI s1, 1, nI s1, ?_⟩, nI s1, ((-1000) * 1) - nI s1, 0, nI s1, 0, ?_, (wrF s1 (by omega)).1⟩
    · unfold fX6_takeDigit fX6_wrong
      rw [a5, bd2_mk, e1, bd1_mk, if_pos g, bd3_mk]
    · unfold fX9_reads fX9_counts
      rw [a6, bd2_mk, e2, bd1_mk, if_pos g, wr9, bd2_mk, ob0, bd6_mk, if_pos rfl]
  · obtain ⟨q1, q2, q3⟩ := e3.resolve_left g
    obtain ⟨h1, h2, h3⟩ := h.2 s1 q1
    obtain ⟨d1, d2, d3⟩ := sB_d _ h1 (by rw [← q2]; exact g)
    have hat : atB N v s1 = nI (v s1) := if_neg (by omega)
    obtain ⟨n, hn⟩ := fu_s 1 (by omega)
    have L : lpX9_counts_40 1 tape (nI N) FU (nI s1) 0 0 = some (nI (s1 + 1), nI (v s1 - 48), 1) := by
      rw [hn, lpX9_counts_40.eq_2, if_neg (show ¬ nI N ≤ nI s1 from nI_ge (by omega) (by omega)), if_neg (show ¬ (1 : Int32) ≤ 0 by decide), og32 (by omega) (by omega), nI_clamp (by omega), h3, (sB_x _ h1).2.2.2.1, bd1_mk, if_neg (show ¬ dgB (v s1) = 0 by rw [← q2]; exact g), og32 (by omega) (by omega), nm_mk, nm_mk, nm_mk, d1, show ((10 : Int32) * 0 + nI (v s1)) - 48 = nI (10 * 0 + (v s1 - 48)) from (numS (x := 0) d2).2, nI_1, lpX9_counts_40.eq_2]
      by_cases k : nI N ≤ nI (s1 + 1)
      · rw [if_pos k, Nat.mul_zero, Nat.zero_add]; rfl
      · rw [if_neg k, if_pos (show (1 : Int32) ≤ 0 + 1 by decide), Nat.mul_zero, Nat.zero_add]; rfl
    have dlt : v s1 - 48 ≤ 9 := by omega
    have e48 : nI (v s1) - (48 : Int32) = nI (v s1 - 48) := by rw [show (48 : Int32) = nI 48 from rfl, pk_sub d2]
    by_cases k : lo ≤ v s1 - 48 ∧ v s1 - 48 ≤ hi
    · refine Or.inr ⟨v s1 - 48, s1 + 1, nI s1, 1, k.1, k.2, dlt, by omega, by omega, ?_, ?_⟩
      · unfold fX6_takeDigit fX6_wrong
        rw [a5, bd2_mk, e1, bd1_mk, if_neg g, hat, e48, wiN (by omega) hl hh, bd1_mk, if_pos k, if_neg one0, nm_mk, nI_1]
      · unfold fX9_reads fX9_counts
        rw [a6, bd2_mk, e2, bd1_mk, if_neg g, L, bd3_mk, if_pos (show (1 : Int32) ≤ 1 by decide), bd6_mk, if_neg one0, inN (by omega) hl hh, bd1_mk, if_pos k, if_neg one0, bd2_mk, ob1]
    · refine Or.inl ⟨⟨nI s1, 3, nI s1, ?_⟩, nI (s1 + 1), ((-1000) * 3) - nI s1, nI (v s1 - 48), nI s1, 1, ?_, (wrF s1 (by omega)).2.2⟩
      · unfold fX6_takeDigit fX6_wrong
        rw [a5, bd2_mk, e1, bd1_mk, if_neg g, hat, e48, wiN (by omega) hl hh, bd1_mk, if_neg k, if_pos rfl, bd3_mk]
      · unfold fX9_reads fX9_counts
        rw [a6, bd2_mk, e2, bd1_mk, if_neg g, L, bd3_mk, if_pos (show (1 : Int32) ≤ 1 by decide), bd6_mk, if_neg one0, inN (by omega) hl hh, bd1_mk, if_neg k, if_pos rfl, wr9, bd2_mk, if_pos rfl, bd2_mk, ob0]
/-- a sign, both sides -/
theorem sg9 {N : Nat} {v : Nat → Nat} {bytes tape : Nat → Int32} (h : TXT N v bytes tape) {s : Nat} (hs : s ≤ N) (c : Int32) (hc : c ≠ -1) (f fp : Int32) : ((∃ a b d, fX6_takeSign c (nI N) (nI s) f fp bytes = some (0, a, b, d)) ∧ ∃ a F, fX9_passes c tape (nI s) (nI N) 0 = some (0, a, F) ∧ F ≠ 0) ∨ ∃ s2, s < s2 ∧ s2 ≤ N ∧ fX6_takeSign c (nI N) (nI s) f fp bytes = some (1, nI s2, f, fp) ∧ fX9_passes c tape (nI s) (nI N) 0 = some (1, nI s2, 0) := by
  have hN := h.1
  obtain ⟨s1, a1, a2, a3, _, a5, a6⟩ := lk h hs
  by_cases g : atB N v s1 = c
  · have hl : s1 < N := by
      rcases Nat.lt_or_ge s1 N with q | q
      · exact q
      · exact absurd (g.symm.trans (if_pos q)) hc
    refine Or.inr ⟨s1 + 1, by omega, by omega, ?_, ?_⟩
    · unfold fX6_takeSign
      rw [a5, bd2_mk, if_pos g, nm_mk, nI_1]
    · unfold fX9_passes
      rw [if_pos rfl, a6, bd2_mk, if_pos g, nm_mk, nI_1]
  · refine Or.inl ⟨⟨nI s1, 1, nI s1, ?_⟩, nI s1, ((-1000) * 1) - nI s1, ?_, (wrF s1 (by omega)).1⟩
    · unfold fX6_takeSign fX6_fails fX6_wrong
      rw [a5, bd2_mk, if_neg g, bd3_mk, bd3_mk, ob0]
    · unfold fX9_passes
      rw [if_pos rfl, a6, bd2_mk, if_neg g, wr9, bd2_mk, ob0]
end
