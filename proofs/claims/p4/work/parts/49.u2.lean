/-! pure: here (it returns) and instead, both sides (own rows) -/
abbrev Sz {α β : Type} (o1 : Option α) (o2 : Option β) : Prop := Sx o1 (fun _ => True) ∧ Sx o2 (fun _ => True)
theorem Sx2.z {ρ α β : Type} {o1 : Option (ρ × α)} {o2 : Option (ρ × β)} {Q : α → β → Prop} (h : Sx2 o1 o2 Q) : Sz o1 o2 := by
  obtain ⟨r, s1, s2, h1, h2, _⟩ := h
  exact ⟨⟨_, h1, trivial⟩, ⟨_, h2, trivial⟩⟩
def giN (e cp : Nat) : Int64 := if e = 0 then -2 else lN (cp + (e - 1))
theorem gi8 {ts : Nat → Int32} {β : Nat → Nat} (hb : CB ts β) (hK : BK β) {t e : Nat} (ht : t ≤ 6) (he : e < 2 ^ 62) : bd1 (if 0 ≤ lC e then bd1 (fX0_couponOn (nI t) ts) (fun r17 => some ((Int32.toInt64 r17) + lC e)) else some (-2)) (fun (j14 : Int64) => some (j14)) = some (giN e (cpF β t)) := by
  have hc := cpF_le hK t
  unfold giN
  by_cases g : e = 0
  · subst g
    rw [if_neg (by decide), if_pos rfl, bd1_mk]
  · rw [if_neg g, if_pos (by rw [lC_1 g]; exact (pk_lLE (a := 0) (by omega) (by omega)).mpr (Nat.zero_le _)), co8 hb ht, bd1_mk, bd1_mk, lC_1 g, nI_l (by omega), lN_add]
theorem n_here {tr b0 b1 b2 tree bs : Nat → Int32} {τ : Nat → Nat} {B : Nat → Nat → Nat} (hf : TC tr τ) (hf9 : TR tree 0 τ) (hT : TK τ) (hB : CB3 b0 b1 b2 B) (hb9 : ∀ k, k < 3 → RB bs k (B k)) {row moved : Int32} {mv : Nat → Int32} (hQ : PQ τ row mv moved) (p1 p2 : Int32) (st sb : Nat → Int32) (pu pe tu ca ho va : Nat → Int64) (ma ac : Nat → Int32) (x0 x1 x2 x3 : Int32) (pe9 : Nat → Int64) (a9 b9 : Int64) (wo9 ho9 : Nat → Int64) (ac9 : Nat → Int32) (s1 s2 s3 s4 : Int32) : Sz (fX8_here p1 p2 row tr b0 b1 b2 st sb pu pe tu ca ho va ma ac) (fX9_here p1 p2 tree bs mv moved x0 x1 x2 x3 pe9 a9 b9 wo9 ho9 ac9 s1 s2 s3 s4) := by
  by_cases h1 : inr p1 0 2
  rotate_left
  · exact Sx2.z (Q := fun _ _ => True) (Sx2.mk (by unfold fX8_here; rw [isb8n h1, bd1_mk, if_pos rfl]) (by unfold fX9_here; rw [isb9n h1, bd1_mk, if_pos rfl]) trivial)
  by_cases h2 : inr p2 0 4
  rotate_left
  · exact Sx2.z (Q := fun _ _ => True) (Sx2.mk (by unfold fX8_here; rw [isb8y h1, bd1_mk, if_neg one0, wi0 h2, bd1_mk, if_pos rfl]) (by unfold fX9_here; rw [isb9y h1, bd1_mk, if_neg one0, in0 h2, bd1_mk, if_pos rfl]) trivial)
  obtain ⟨k, rfl, _, hk, _⟩ := inr_n h1 (by decide)
  have hk3 : k < 3 := by omega
  have hp := prF_PK hT (show τ 1 ≤ 1000 by omega)
  obtain ⟨r, r1, r2, rd, rfl, rfl, hm⟩ := hQ
  have r3 := row_T hT r1 r2 rd
  have hl := aT_lt (prF τ (τ 1)) (B k) r1 r2
  have hd6 := (row_b1 r r2 r1).1.1
  refine ⟨?_, ?_⟩
  · unfold fX8_here
    rw [isb8y h1, bd1_mk, if_neg one0, wi1 h2, bd1_mk, if_neg one0]
    refine Sx.b10 (wo8 hk3 hf hT hB st sb pu pe tu ca ho va ma ac) ?_
    rintro c0 c1 c2 c3 c4 c5 c6 c7 c8 c9 ⟨hc, hcb, hsb⟩
    dsimp only at hc hcb hsb ⊢
    by_cases g0 : p2 = 0
    · rw [if_pos g0, hoA8 r1 r2, bd1_mk]; exact Sx.mk trivial
    rw [if_neg g0]
    by_cases g1 : p2 = 1
    · rw [if_pos g1, tuA8 r1 r2, bd1_mk]; exact Sx.mk trivial
    rw [if_neg g1]
    by_cases g2 : p2 = 2
    · rw [if_pos g2, caA8 r1 r2, bd1_mk]
      by_cases g : c5 r < 0
      · rw [if_pos g, bd1_mk]; exact Sx.mk trivial
      · rw [if_neg g, bd1_mk]; exact Sx.mk trivial
    rw [if_neg g2]
    by_cases g3 : p2 = 3
    · rw [if_pos g3, maA8 r1 r2, bd1_mk, (hsb.1 r r1 r3).2.2.2, hd8 hcb (hB k hk3).2 (mR_lt _ _ _), bd1_mk]; exact Sx.mk trivial
    · rw [if_neg g3, day8 r r2 r1, bd1_mk, co8 hcb hd6, bd1_mk]; exact Sx.mk trivial
  · unfold fX9_here
    rw [isb9y h1, bd1_mk, if_neg one0, in1 h2, bd1_mk, if_neg one0]
    refine Sx.b10 (pn9 hf9 hT hk3 (hb9 k hk3) (hB k hk3).2 x0 x1 x2 x3 pe9 a9 b9 wo9 ho9 ac9) ?_
    rintro d0 d1 d2 d3 pe' d5 d6 d7 d8 d9 ⟨rfl, rfl, rfl, rfl, hP, hG⟩
    dsimp only at hP hG ⊢
    rw [fo9 (hb9 k hk3) (hB k hk3).2 hp hP (by omega) r1 r2 rd hm, bd4_mk]
    by_cases g0 : p2 = 0
    · rw [if_pos g0]
      by_cases g : nI (dR r) = nI (τ 0)
      · rw [if_pos g, bd1_mk]; exact Sx.mk trivial
      · rw [if_neg g, hn9, bd1_mk, og32 hl (by omega), bd1_mk]; exact Sx.mk trivial
    rw [if_neg g0]
    by_cases g1 : p2 = 1
    · rw [if_pos g1, wi9 (hb9 k hk3) (hB k hk3).2 hd6, bd1_mk]
      by_cases g : inW (B k) (dR r)
      · rw [if_pos g, if_neg one0, tu9 (hb9 k hk3) (hB k hk3).2 hp hP (by omega) (okR (prF τ (τ 1)) (B k) r1 r2).1 rd, bd1_mk, bd1_mk]; exact Sx.mk trivial
      · rw [if_neg g, if_pos rfl, bd1_mk]; exact Sx.mk trivial
    rw [if_neg g1]
    by_cases g2 : p2 = 2
    · rw [if_pos g2]
      by_cases g : dR r = τ 0
      · unfold fX9_isFree
        rw [g, ca9T (by omega), bd1_mk, if_pos rfl, bd1_mk, og_mk _ (by decide), bd1_mk, if_pos rfl, bd1_mk]; exact Sx.mk trivial
      · rw [fr9 (hb9 k hk3) (hB k hk3).2 (by omega) (by omega) (mR_lt _ _ _), bd1_mk]
        by_cases g' : frF (B k) (dR r) (mR (prF τ (τ 1)) (B k) r)
        · rw [if_pos g', if_neg one0, bd1_mk]; exact Sx.mk trivial
        · rw [if_neg g', if_pos rfl, bd1_mk]; exact Sx.mk trivial
    rw [if_neg g2]
    by_cases g3 : p2 = 3
    · rw [if_pos g3, mk9 (hb9 k hk3) (hB k hk3).2 (mR_lt _ _ _), bd1_mk]; exact Sx.mk trivial
    · rw [if_neg g3, cp9 (hb9 k hk3) hd6, bd1_mk]; exact Sx.mk trivial
theorem q_instead {tr b0 b1 b2 tree bs : Nat → Int32} {τ : Nat → Nat} {B : Nat → Nat → Nat} (hf : TC tr τ) (hf9 : TR tree 0 τ) (hT : TK τ) (hB : CB3 b0 b1 b2 B) (hb9 : ∀ k, k < 3 → RB bs k (B k)) {row moved : Int32} {mv : Nat → Int32} (hQ : PQ τ row mv moved) (p1 p2 : Int32) (st sb : Nat → Int32) (pu pe tu ca ho va : Nat → Int64) (ma ac : Nat → Int32) (x0 x1 x2 x3 : Int32) (pe9 : Nat → Int64) (a9 b9 : Int64) (wo9 ho9 : Nat → Int64) (ac9 : Nat → Int32) (s1 s2 s3 s4 : Int32) : Sx2 (fX8_instead p1 p2 row tr b0 b1 b2 st sb pu pe tu ca ho va ma ac) (fX9_instead p1 p2 tree bs mv moved x0 x1 x2 x3 pe9 a9 b9 wo9 ho9 ac9 s1 s2 s3 s4) (fun _ _ => True) := by
  by_cases h1 : inr p1 0 2
  rotate_left
  · exact Sx2.mk (by unfold fX8_instead; rw [isb8n h1, bd1_mk, if_pos rfl]) (by unfold fX9_instead; rw [isb9n h1, bd1_mk, if_pos rfl]) (trivial)
  by_cases h2 : inr p2 0 3
  rotate_left
  · exact Sx2.mk (by unfold fX8_instead; rw [isb8y h1, bd1_mk, if_neg one0, wi0 h2, bd1_mk, if_pos rfl]) (by unfold fX9_instead; rw [isb9y h1, bd1_mk, if_neg one0, in0 h2, bd1_mk, if_pos rfl]) (trivial)
  obtain ⟨k, rfl, _, hk, _⟩ := inr_n h1 (by decide)
  have hk3 : k < 3 := by omega
  have hp := prF_PK hT (show τ 1 ≤ 1000 by omega)
  obtain ⟨r, r1, r2, rd, rfl, rfl, hm⟩ := hQ
  have r3 := row_T hT r1 r2 rd
  have hl := aT_lt (prF τ (τ 1)) (B k) r1 r2
  have hd6 := (row_b1 r r2 r1).1.1
  have y1 := puL_le (hB k hk3).2 (dR r)
  have y2 := cd_le hp (hB k hk3).2 r
  have y3 := tuS_le hp (hB k hk3).2 (dR r) (uR r) (bR r)
  have y4 := (hB k hk3).2.1
  have y5 : hR (prF τ (τ 1)) (τ 0) (τ 6) (τ 7) (τ 8) (B k) (bV (prF τ (τ 1)) (B k)) r ≤ 64000000007000 := Nat.le_trans (hG_b hp (hB k hk3).2 hT.n (bV_SK hp (hB k hk3).2) (by omega) _ _) (by omega)
  have y6 := cpF_le (hB k hk3).2 (dR r)
  refine Sx2.val (v := giN (if p2 = 0 then (if dR r = τ 0 then B k 0 else hR (prF τ (τ 1)) (τ 0) (τ 6) (τ 7) (τ 8) (B k) (bV (prF τ (τ 1)) (B k)) r) + 1 else if p2 = 1 then (if dR r = τ 0 then 0 else puL (B k) (dR r)) else if p2 = 2 then tuS (prF τ (τ 1)) (B k) (dR r) (uR r) (bR r) else (if dR r = τ 0 then 0 else cdF (prF τ (τ 1)) (B k) r)) (cpF (B k) (dR r))) ?_ ?_
  · unfold fX8_instead
    rw [isb8y h1, bd1_mk, if_neg one0, wi1 h2, bd1_mk, if_neg one0]
    refine Sx.b10 (wo8 hk3 hf hT hB st sb pu pe tu ca ho va ma ac) ?_
    rintro c0 c1 c2 c3 c4 c5 c6 c7 c8 c9 ⟨hc, hcb, hsb⟩
    dsimp only at hc hcb hsb ⊢
    unfold fX5_givesInstead fX0_face
    obtain ⟨v1, v2, v3⟩ := hsb.2 r r1 r1 r3
    obtain ⟨u1, u2, u3, u4⟩ := hsb.1 r r1 r3
    have key : ∀ e, e < 2 ^ 62 → bd1 (if 0 ≤ lC e then bd1 (fX0_couponOn (nI (dR r)) c1) (fun r17 => some ((Int32.toInt64 r17) + lC e)) else some (-2)) (fun (j14 : Int64) => some (j14)) = some (giN e (cpF (B k) (dR r))) := fun e he => gi8 hcb (hB k hk3).2 hd6 he
    rw [day8 r r2 r1, bd1_mk, ld8 hc hT, bd1_mk]
    by_cases hd : dR r = τ 0
    · rw [if_neg (nI_nlt (by omega) (by omega)), bd1_mk, if_pos hd, if_pos hd, if_pos hd]
      by_cases g0 : p2 = 0
      · rw [if_pos g0, if_pos g0, if_neg one0, bd1_mk, bd1_mk, bd1_mk, cl_0, hcb.1.1.1, nI_l (by omega), ← lC_s, key _ (by omega), bd1_mk]; exact Sx.mk rfl
      rw [if_neg g0, if_neg g0]
      by_cases g1 : p2 = 1
      · rw [if_pos g1, if_pos g1, if_neg one0, bd1_mk, bd1_mk, show (-2 : Int64) = lC 0 from rfl]
        rw [show (lC 0) = (-2 : Int64) from rfl]
        exact Sx.e1 (a0 := giN 0 (cpF (B k) (dR r))) rfl (Sx.mk rfl)
      rw [if_neg g1, if_neg g1]
      by_cases g2 : p2 = 2
      · rw [if_pos g2, if_pos g2, tuA8 r1 r2, bd1_mk, bd1_mk, u2, key _ (by omega), bd1_mk]; exact Sx.mk rfl
      · rw [if_neg g2, if_neg g2, if_neg one0, bd1_mk, bd1_mk]
        exact Sx.e1 (a0 := giN 0 (cpF (B k) (dR r))) rfl (Sx.mk rfl)
    · rw [if_pos (nI_lt (by omega) (by omega)), bd1_mk, if_neg hd, if_neg hd, if_neg hd]
      rw [if_neg hd] at v2
      by_cases g0 : p2 = 0
      · rw [if_pos g0, if_pos g0, if_pos rfl, hoA8 r1 r2, bd1_mk, bd1_mk, bd1_mk, v2, ← lC_s, key _ (by omega), bd1_mk]; exact Sx.mk rfl
      rw [if_neg g0, if_neg g0]
      by_cases g1 : p2 = 1
      · rw [if_pos g1, if_pos g1, if_pos rfl, pu8 hcb hd6, bd1_mk, bd1_mk, bd1_mk, iC_l (by omega), key _ (by omega), bd1_mk]; exact Sx.mk rfl
      rw [if_neg g1, if_neg g1]
      by_cases g2 : p2 = 2
      · rw [if_pos g2, if_pos g2, tuA8 r1 r2, bd1_mk, bd1_mk, u2, key _ (by omega), bd1_mk]; exact Sx.mk rfl
      · rw [if_neg g2, if_neg g2, if_pos rfl, caA8 r1 r2, bd1_mk, bd1_mk, bd1_mk, u3, key _ (by omega), bd1_mk]; exact Sx.mk rfl
  · unfold fX9_instead
    rw [isb9y h1, bd1_mk, if_neg one0, in1 h2, bd1_mk, if_neg one0]
    refine Sx.b10 (pn9 hf9 hT hk3 (hb9 k hk3) (hB k hk3).2 x0 x1 x2 x3 pe9 a9 b9 wo9 ho9 ac9) ?_
    rintro d0 d1 d2 d3 pe' d5 d6 d7 d8 d9 ⟨rfl, rfl, rfl, rfl, hP, hG⟩
    dsimp only at hP hG ⊢
    have key : ∀ e, e ≠ 0 → Int32.toInt64 (nI (cpF (B k) (dR r))) + lN (e - 1) = giN e (cpF (B k) (dR r)) := fun e he => by unfold giN; rw [if_neg he, nI_l (by omega), lN_add]
    obtain ⟨v1, v2, v3⟩ := GD.r hG r1 r2 rd
    have hoS' := (okR (prF τ (τ 1)) (B k) r1 r2).1
    unfold fX9_givesBy
    rw [fo9 (hb9 k hk3) (hB k hk3).2 hp hP (by omega) r1 r2 rd hm, bd4_mk, cp9 (hb9 k hk3) hd6, bd1_mk, nm_mk]
    by_cases g0 : p2 = 0
    · rw [if_pos g0, if_pos g0, hn9, bd1_mk, og32 hl (by omega), nI_clamp (by omega), v2, bd1_mk]
      refine Sx.mk ⟨?_, trivial⟩
      show Int32.toInt64 (nI (cpF (B k) (dR r))) + (if dR r = τ 0 then lN (B k 0) else lN (hR (prF τ (τ 1)) (τ 0) (τ 6) (τ 7) (τ 8) (B k) (bV (prF τ (τ 1)) (B k)) r)) = _
      rw [← key _ (by omega), Nat.add_sub_cancel]
      by_cases hd : dR r = τ 0
      · rw [if_pos hd, if_pos hd]
      · rw [if_neg hd, if_neg hd]
    rw [if_neg g0, if_neg g0]
    by_cases g1 : p2 = 1
    · rw [if_pos g1, if_pos g1]
      by_cases hd : dR r = τ 0
      · rw [hd, pu9T (by omega), bd1_mk, if_pos rfl, bd1_mk, bd1_mk, if_pos rfl]
        exact Sx.mk ⟨rfl, trivial⟩
      · rw [if_neg hd, pu9 (hb9 k hk3) (by omega) (by omega), bd1_mk]
        by_cases g : puL (B k) (dR r) = 0
        · rw [g, if_pos (show iM 0 = -1 from rfl), bd1_mk, bd1_mk]
          exact Sx.mk ⟨rfl, trivial⟩
        · rw [if_neg (fun z => g ((iM_m1 (by omega)).mp z)), bd1_mk, bd1_mk, bd1_mk, iM_l (by omega), lM_1 g, key _ g]
          exact Sx.mk ⟨rfl, trivial⟩
    rw [if_neg g1, if_neg g1]
    by_cases g2 : p2 = 2
    · rw [if_pos g2, if_pos g2, wi9 (hb9 k hk3) (hB k hk3).2 hd6, bd1_mk]
      by_cases g : inW (B k) (dR r)
      · have z : tuS (prF τ (τ 1)) (B k) (dR r) (uR r) (bR r) ≠ 0 := by unfold tuS tuF; rw [if_pos g]; omega
        rw [if_pos g, if_neg one0, tu9 (hb9 k hk3) (hB k hk3).2 hp hP (by omega) hoS' rd, bd1_mk, bd1_mk, bd1_mk, lM_1 z, key _ z]
        exact Sx.mk ⟨rfl, trivial⟩
      · have z : tuS (prF τ (τ 1)) (B k) (dR r) (uR r) (bR r) = 0 := by unfold tuS tuF; rw [if_neg g]
        rw [if_neg g, if_pos rfl, bd1_mk, bd1_mk, z]
        exact Sx.mk ⟨rfl, trivial⟩
    · rw [if_neg g2, if_neg g2]
      by_cases hd : dR r = τ 0
      · unfold fX9_isFree
        rw [hd, ca9T (by omega), bd1_mk, if_pos rfl, bd1_mk, og_mk _ (by decide), bd1_mk, if_pos rfl, bd1_mk, bd1_mk, if_pos rfl]
        exact Sx.mk ⟨rfl, trivial⟩
      · rw [if_neg hd, fr9 (hb9 k hk3) (hB k hk3).2 (by omega) (by omega) (mR_lt _ _ _), bd1_mk]
        by_cases g : frF (B k) (dR r) (mR (prF τ (τ 1)) (B k) r)
        · have z : cgS (prF τ (τ 1)) (B k) (dR r) (uR r) (bR r) ≠ 0 := by unfold cgS; have := g.1; omega
          rw [if_pos g, if_neg one0, cg9 (hb9 k hk3) (hB k hk3).2 hp hP (by omega) hoS' (by omega), bd1_mk, bd1_mk, bd1_mk, cd_s g, lM_1 z, key _ z]
          exact Sx.mk ⟨rfl, trivial⟩
        · rw [if_neg g, if_pos rfl, bd1_mk, bd1_mk, cd_0.mpr g]
          exact Sx.mk ⟨rfl, trivial⟩
