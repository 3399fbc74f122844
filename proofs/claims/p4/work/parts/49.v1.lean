/-! pure: the hand goes on, acts, both sides (own rows) -/
theorem Sx2.par {ρ α β σ ξ : Type} {o1 : Option (ρ × α)} {o2 : Option (ρ × β)} {v : ρ} (a : α → σ) (b : β → ξ) {w1 : σ} {w2 : ξ} (h1 : Sx o1 (fun z => z.1 = v ∧ a z.2 = w1)) (h2 : Sx o2 (fun z => z.1 = v ∧ b z.2 = w2)) {R : α → β → Prop} (h : ∀ s t, a s = w1 → b t = w2 → R s t) : Sx2 o1 o2 R := by
  obtain ⟨⟨x, s⟩, e1, rfl, p⟩ := h1
  obtain ⟨⟨y, t⟩, e2, h3, q⟩ := h2
  dsimp only at h3 p q
  subst h3
  exact ⟨_, s, t, e1, e2, h s t p q⟩
abbrev goR (tree bs : Nat → Int32) (op ov pl on : Int32) (htr hbt : Nat → Int32) (s : Int32 × Int64 × Int64) (t : (Nat → Int32) × Int32 × Int64 × Int64) : Prop := HQ tree bs op ov s.1 s.2.1 s.2.2 htr hbt t.1 pl on t.2.1 t.2.2.1 t.2.2.2
theorem q_go {tree bs htr hbt hmv : Nat → Int32} {op ov hrow pl on hmd : Int32} {pd rg pd9 rg9 : Int64} (hH : HQ tree bs op ov hrow pd rg htr hbt hmv pl on hmd pd9 rg9) (p1 : Int32) (hp1 : p1 = 0 ∨ p1 = 1) (st sb : Nat → Int32) (pu pe tu ca ho va : Nat → Int64) (ma ac : Nat → Int32) (x0 x1 x2 x3 : Int32) (pe9 : Nat → Int64) (a9 b9 : Int64) (wo9 ho9 : Nat → Int64) (ac9 : Nat → Int32) (s1 s2 s3 s4 : Int32) : Sx2 (fX8_go p1 op ov hrow pd rg htr hbt st sb pu pe tu ca ho va ma ac) (fX9_go p1 tree bs hmv x0 x1 x2 x3 pe9 a9 b9 wo9 ho9 ac9 s1 s2 s3 s4 pl on hmd pd9 rg9) (fun s t => goR tree bs op ov pl on htr hbt (s.1, s.2.1, s.2.2.1) (t.1, t.2.2.2.2.2.2.2.2.2.2.2.2.2.2.2.1, t.2.2.2.2.2.2.2.2.2.2.2.2.2.2.2.2.1, t.2.2.2.2.2.2.2.2.2.2.2.2.2.2.2.2.2)) := by
  rcases hH with ⟨rfl, rfl, hoz⟩ | ⟨rfl, rfl, hov, rfl, rfl, τ, β, r, hf, hf9, hT, hcb0, hb, hK, r1, r2, rd, rfl, rfl, hm⟩
  · exact Sx2.mk (by unfold fX8_go; rw [if_pos rfl]) (by unfold fX9_go; rw [if_pos rfl]) (Or.inl ⟨rfl, rfl, hoz⟩)
  have hd6 := (row_b1 r r2 r1).1.1
  have same : goR tree bs 1 ov 1 on htr hbt (nI r, pd, rg) (hmv, nI (dR r), pd, rg) := Or.inr ⟨rfl, rfl, hov, rfl, rfl, τ, β, r, hf, hf9, hT, hcb0, hb, hK, r1, r2, rd, rfl, rfl, hm⟩
  by_cases hst : on = 1 ∧ dR r < τ 0
  rotate_left
  · have h9 : Sx (fX9_go p1 tree bs hmv x0 x1 x2 x3 pe9 a9 b9 wo9 ho9 ac9 s1 s2 s3 s4 1 on (nI (dR r)) pd rg) (fun z => z.1 = -2 ∧ (z.2.1, z.2.2.2.2.2.2.2.2.2.2.2.2.2.2.2.2.1, z.2.2.2.2.2.2.2.2.2.2.2.2.2.2.2.2.2.1, z.2.2.2.2.2.2.2.2.2.2.2.2.2.2.2.2.2.2) = (hmv, nI (dR r), pd, rg)) := by
      unfold fX9_go
      rw [if_neg one0]
      refine Sx.b14 (sbh9 hf9 hT hb hK r1 r2 rd hm x0 x1 x2 x3 pe9 a9 b9 wo9 ho9 ac9 s1 s2 s3 s4) ?_
      rintro d0 d1 d2 d3 pe' d5 d6 d7 d8 d9 e0 e1 e2 e3 ⟨rfl, rfl, rfl, rfl, hP, hG, he⟩
      dsimp only at hP hG he ⊢
      obtain ⟨rfl, rfl, rfl, rfl⟩ : e0 = nI (dR r) ∧ e1 = nI (uR r) ∧ e2 = nI (bR r) ∧ e3 = nI (mR (prF τ (τ 1)) β r) := by
        have := he
        simp only [Prod.mk.injEq] at this
        exact this
      by_cases g : on = 0
      · rw [if_pos g]; exact Sx.mk ⟨rfl, rfl⟩
      · have g1 : dR r = τ 0 := by
          rcases hov with q | q
          · by_cases z : dR r = τ 0
            · exact z
            · exact absurd ⟨q.2, by omega⟩ hst
          · exact absurd q.2 g
        rw [if_neg g, if_pos (by rw [g1])]; exact Sx.mk ⟨rfl, rfl⟩
    have h8 : Sx (fX8_go p1 1 ov (nI r) pd rg htr hbt st sb pu pe tu ca ho va ma ac) (fun z => z.1 = -2 ∧ (z.2.1, z.2.2.1, z.2.2.2.1) = (nI r, pd, rg)) := by
      unfold fX8_go
      rw [if_neg one0]
      by_cases g : ov = 0
      · have g1 : dR r = τ 0 := by
          rcases hov with q | q
          · by_cases z : dR r = τ 0
            · exact z
            · exact absurd ⟨q.2, by omega⟩ hst
          · rw [q.1] at g; exact absurd g one0
        rw [if_pos g, old8 hf hT r1 r2 rd, bd1_mk, if_pos g1, if_neg one0]; exact Sx.mk ⟨rfl, rfl⟩
      · rw [if_neg g]; exact Sx.mk ⟨rfl, rfl⟩
    refine Sx2.par (fun s => (s.1, s.2.1, s.2.2.1)) (fun t => (t.1, t.2.2.2.2.2.2.2.2.2.2.2.2.2.2.2.1, t.2.2.2.2.2.2.2.2.2.2.2.2.2.2.2.2.1, t.2.2.2.2.2.2.2.2.2.2.2.2.2.2.2.2.2)) h8 h9 (fun s t p q => ?_)
    rw [p, q]; exact same
  obtain ⟨rfl, hlt⟩ := hst
  have hov0 : ov = 0 := by
    rcases hov with q | q
    · exact q.1
    · exact absurd q.2 one0
  subst hov0
  have r64 : r < 64 := dR_64 r r2 r1 (by omega)
  obtain ⟨b, hb2, hpb⟩ : ∃ b, b < 2 ∧ p1 = nI b := by
    rcases hp1 with q | q
    · exact ⟨0, by omega, q⟩
    · exact ⟨1, by omega, q⟩
  obtain ⟨q1, q2, q3, q4⟩ := row_s r r64 r1 b hb2
  have h9 : Sx (fX9_go p1 tree bs hmv x0 x1 x2 x3 pe9 a9 b9 wo9 ho9 ac9 s1 s2 s3 s4 1 1 (nI (dR r)) pd rg) (fun z => z.1 = nI (dR r + 1) ∧ (z.2.1, z.2.2.2.2.2.2.2.2.2.2.2.2.2.2.2.2.1, z.2.2.2.2.2.2.2.2.2.2.2.2.2.2.2.2.2.1, z.2.2.2.2.2.2.2.2.2.2.2.2.2.2.2.2.2.2) = (upd hmv (dR r) (nI b), nI (dR r + 1), pd + Int32.toInt64 (nI (cpF β (dR r + 1))), rg + (if 0 < lN (vR (prF τ (τ 1)) (τ 0) (τ 6) (τ 7) (τ 8) β (bV (prF τ (τ 1)) β) r) - giN (enC τ β r 0) (cpF β (dR r)) then lN (vR (prF τ (τ 1)) (τ 0) (τ 6) (τ 7) (τ 8) β (bV (prF τ (τ 1)) β) r) - giN (enC τ β r 0) (cpF β (dR r)) else -(lN (vR (prF τ (τ 1)) (τ 0) (τ 6) (τ 7) (τ 8) β (bV (prF τ (τ 1)) β) r) - giN (enC τ β r 0) (cpF β (dR r)))))) := by
    unfold fX9_go
    rw [if_neg one0]
    refine Sx.b14 (sbh9 hf9 hT hb hK r1 r2 rd hm x0 x1 x2 x3 pe9 a9 b9 wo9 ho9 ac9 s1 s2 s3 s4) ?_
    rintro d0 d1 d2 d3 pe' d5 d6 d7 d8 d9 e0 e1 e2 e3 ⟨rfl, rfl, rfl, rfl, hP, hG, he⟩
    dsimp only at hP hG he ⊢
    obtain ⟨rfl, rfl, rfl, rfl⟩ : e0 = nI (dR r) ∧ e1 = nI (uR r) ∧ e2 = nI (bR r) ∧ e3 = nI (mR (prF τ (τ 1)) β r) := by
      have := he
      simp only [Prod.mk.injEq] at this
      exact this
    have ej : (if p1 = 0 then some (0 : Int32) else some 1) = some (nI b) := by
      rw [hpb]
      rcases (show b = 0 ∨ b = 1 by omega) with rfl | rfl <;> rfl
    rw [if_neg one0, if_neg (fun z => by have := (nI_eq (by omega) (by omega)).mp z; omega), rg9x hb hK hT hP hG r1 r2 rd 0 rg, bd1_mk, ej, bd1_mk, og32 (by omega) (by omega), nm_mk, nm_mk, nI_1, nI_clamp (by omega), show fX9_couponOf 4 (nI (dR r + 1)) bs = _ from cp9 (k := 4) hb (by omega), bd1_mk, nm_mk]
    exact Sx.mk ⟨rfl, rfl⟩
  have h8 : Sx (fX8_go p1 1 0 (nI r) pd rg htr hbt st sb pu pe tu ca ho va ma ac) (fun z => z.1 = nI (dR r + 1) ∧ (z.2.1, z.2.2.1, z.2.2.2.1) = (nI (2 * r + b), pd + Int32.toInt64 (nI (cpF β (dR r + 1))), rg + (if 0 < lN (vR (prF τ (τ 1)) (τ 0) (τ 6) (τ 7) (τ 8) β (bV (prF τ (τ 1)) β) r) - giN (enC τ β r 0) (cpF β (dR r)) then lN (vR (prF τ (τ 1)) (τ 0) (τ 6) (τ 7) (τ 8) β (bV (prF τ (τ 1)) β) r) - giN (enC τ β r 0) (cpF β (dR r)) else -(lN (vR (prF τ (τ 1)) (τ 0) (τ 6) (τ 7) (τ 8) β (bV (prF τ (τ 1)) β) r) - giN (enC τ β r 0) (cpF β (dR r)))))) := by
    unfold fX8_go
    rw [if_neg one0, if_pos rfl, old8 hf hT r1 r2 rd, bd1_mk, if_neg (show ¬ dR r = τ 0 by omega), if_pos rfl]
    refine Sx.b10 (wh8 hf hT hcb0 hK st sb pu pe tu ca ho va ma ac) ?_
    rintro c0 c1 c2 c3 c4 c5 c6 c7 c8 c9 ⟨hc, hcb, hsb⟩
    dsimp only at hc hcb hsb ⊢
    rw [va8 r1 r2, bd1_mk, gi8x hc hT hcb hK hsb r1 r2 rd 0, bd1_mk, nm_mk, hpb, lo8 r hb2, bd1_mk, day8 _ (by omega) (by omega), bd1_mk, q1, co8 hcb0 (by omega), bd1_mk, nm_mk, (hsb.2 r r1 r1 (row_T hT r1 r2 rd)).1]
    exact Sx.mk ⟨rfl, rfl⟩
  refine Sx2.par (fun s => (s.1, s.2.1, s.2.2.1)) (fun t => (t.1, t.2.2.2.2.2.2.2.2.2.2.2.2.2.2.2.1, t.2.2.2.2.2.2.2.2.2.2.2.2.2.2.2.2.1, t.2.2.2.2.2.2.2.2.2.2.2.2.2.2.2.2.2)) h8 h9 (fun s t p q => ?_)
  rw [p, q]
  exact Or.inr ⟨rfl, rfl, Or.inl ⟨rfl, rfl⟩, rfl, rfl, τ, β, 2 * r + b, hf, hf9, hT, hcb0, hb, hK, by omega, by omega, by omega, rfl, by rw [q1], MV.go r1 r64 hb2 hm⟩
