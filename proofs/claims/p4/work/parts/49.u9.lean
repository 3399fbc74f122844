/-! pure: what an act gives, for the hand too (own rows) -/
def enC (τ β : Nat → Nat) (r : Nat) (p2 : Int32) : Nat := (if p2 = 0 then (if dR r = τ 0 then β 0 else hR (prF τ (τ 1)) (τ 0) (τ 6) (τ 7) (τ 8) β (bV (prF τ (τ 1)) β) r) + 1 else if p2 = 1 then (if dR r = τ 0 then 0 else puL β (dR r)) else if p2 = 2 then tuS (prF τ (τ 1)) β (dR r) (uR r) (bR r) else (if dR r = τ 0 then 0 else cdF (prF τ (τ 1)) β r))
theorem gi8x {st c1 : Nat → Int32} {τ β : Nat → Nat} (hc : TC st τ) (hT : TK τ) (hcb : CB c1 β) (hK : BK β) {c3 c4 c5 c6 c7 : Nat → Int64} {c8 c9 : Nat → Int32} (hsb : SB τ β c3 c4 c5 c6 c7 c8 c9) {r : Nat} (r1 : 1 ≤ r) (r2 : r < 128) (rd : dR r ≤ τ 0) (p2 : Int32) : fX5_givesInstead (nI r) p2 st c1 c4 c5 c6 = some (giN (enC τ β r p2) (cpF β (dR r))) := by
  have hp := prF_PK hT (show τ 1 ≤ 1000 by omega)
  have hd6 := (row_b1 r r2 r1).1.1
  have y1 := puL_le hK (dR r)
  have y2 := cd_le hp hK r
  have y3 := tuS_le hp hK (dR r) (uR r) (bR r)
  have y4 := hK.1
  have y5 : hR (prF τ (τ 1)) (τ 0) (τ 6) (τ 7) (τ 8) β (bV (prF τ (τ 1)) β) r ≤ 64000000007000 := Nat.le_trans (hG_b hp hK hT.n (bV_SK hp hK) (by omega) _ _) (by omega)
  have y6 := cpF_le hK (dR r)
  have r3 := row_T hT r1 r2 rd
  unfold enC
  unfold fX5_givesInstead fX0_face
  obtain ⟨v1, v2, v3⟩ := hsb.2 r r1 r1 r3
  obtain ⟨u1, u2, u3, u4⟩ := hsb.1 r r1 r3
  have key : ∀ e, e < 2 ^ 62 → bd1 (if 0 ≤ lC e then bd1 (fX0_couponOn (nI (dR r)) c1) (fun r17 => some ((Int32.toInt64 r17) + lC e)) else some (-2)) (fun (j14 : Int64) => some (j14)) = some (giN e (cpF β (dR r))) := fun e he => gi8 hcb hK hd6 he
  rw [day8 r r2 r1, bd1_mk, ld8 hc hT, bd1_mk]
  by_cases hd : dR r = τ 0
  · rw [if_neg (nI_nlt (by omega) (by omega)), bd1_mk, if_pos hd, if_pos hd, if_pos hd]
    by_cases g0 : p2 = 0
    · rw [if_pos g0, if_pos g0, if_neg one0, bd1_mk, bd1_mk, bd1_mk, cl_0, hcb.1.1.1, nI_l (by omega), ← lC_s, key _ (by omega)]
    rw [if_neg g0, if_neg g0]
    by_cases g1 : p2 = 1
    · rw [if_pos g1, if_pos g1, if_neg one0, bd1_mk, bd1_mk, show (-2 : Int64) = lC 0 from rfl]
      rw [show (lC 0) = (-2 : Int64) from rfl]
      rfl
    rw [if_neg g1, if_neg g1]
    by_cases g2 : p2 = 2
    · rw [if_pos g2, if_pos g2, tuA8 r1 r2, bd1_mk, bd1_mk, u2, key _ (by omega)]
    · rw [if_neg g2, if_neg g2, if_neg one0, bd1_mk, bd1_mk]
      rfl
  · rw [if_pos (nI_lt (by omega) (by omega)), bd1_mk, if_neg hd, if_neg hd, if_neg hd]
    rw [if_neg hd] at v2
    by_cases g0 : p2 = 0
    · rw [if_pos g0, if_pos g0, if_pos rfl, hoA8 r1 r2, bd1_mk, bd1_mk, bd1_mk, v2, ← lC_s, key _ (by omega)]
    rw [if_neg g0, if_neg g0]
    by_cases g1 : p2 = 1
    · rw [if_pos g1, if_pos g1, if_pos rfl, pu8 hcb hd6, bd1_mk, bd1_mk, bd1_mk, iC_l (by omega), key _ (by omega)]
    rw [if_neg g1, if_neg g1]
    by_cases g2 : p2 = 2
    · rw [if_pos g2, if_pos g2, tuA8 r1 r2, bd1_mk, bd1_mk, u2, key _ (by omega)]
    · rw [if_neg g2, if_neg g2, if_pos rfl, caA8 r1 r2, bd1_mk, bd1_mk, bd1_mk, u3, key _ (by omega)]
theorem gb9x {bs : Nat → Int32} {pe' d7 d8 : Nat → Int64} {d9 : Nat → Int32} {τ β : Nat → Nat} {k : Nat} (hb : RB bs k β) (hK : BK β) (hT : TK τ) (hP : RP pe' (τ 0) (prF τ (τ 1))) (hG : GD (prF τ (τ 1)) (τ 0) (τ 6) (τ 7) (τ 8) β (fun _ _ _ _ => True) d7 d8 d9) {r : Nat} (r1 : 1 ≤ r) (r2 : r < 128) (rd : dR r ≤ τ 0) (p2 : Int32) : fX9_givesBy (nI k) p2 bs (nI (τ 0)) pe' d8 (nI (dR r)) (nI (uR r)) (nI (bR r)) (nI (mR (prF τ (τ 1)) β r)) = some (giN (enC τ β r p2) (cpF β (dR r))) := by
  have hp := prF_PK hT (show τ 1 ≤ 1000 by omega)
  have hd6 := (row_b1 r r2 r1).1.1
  have y1 := puL_le hK (dR r)
  have y2 := cd_le hp hK r
  have y3 := tuS_le hp hK (dR r) (uR r) (bR r)
  have y4 := hK.1
  have y5 : hR (prF τ (τ 1)) (τ 0) (τ 6) (τ 7) (τ 8) β (bV (prF τ (τ 1)) β) r ≤ 64000000007000 := Nat.le_trans (hG_b hp hK hT.n (bV_SK hp hK) (by omega) _ _) (by omega)
  have y6 := cpF_le hK (dR r)
  have hl := aT_lt (prF τ (τ 1)) β r1 r2
  have key : ∀ e, e ≠ 0 → Int32.toInt64 (nI (cpF β (dR r))) + lN (e - 1) = giN e (cpF β (dR r)) := fun e he => by unfold giN; rw [if_neg he, nI_l (by omega), lN_add]
  have g0' : giN 0 (cpF β (dR r)) = -2 := rfl
  obtain ⟨v1, v2, v3⟩ := GD.r hG r1 r2 rd
  have hoS' := (okR (prF τ (τ 1)) β r1 r2).1
  unfold enC fX9_givesBy
  rw [cp9 hb hd6, bd1_mk, nm_mk]
  by_cases g0 : p2 = 0
  · rw [if_pos g0, if_pos g0, hn9, bd1_mk, og32 hl (by omega), nI_clamp (by omega), v2, ← key _ (by omega), Nat.add_sub_cancel]
    by_cases hd : dR r = τ 0
    · rw [if_pos hd, if_pos hd]
    · rw [if_neg hd, if_neg hd]
  rw [if_neg g0, if_neg g0]
  by_cases g1 : p2 = 1
  · rw [if_pos g1, if_pos g1]
    by_cases hd : dR r = τ 0
    · rw [if_pos hd, g0', hd, pu9T (by omega), bd1_mk, if_pos rfl, bd1_mk]
    · rw [if_neg hd, pu9 hb (by omega) (by omega), bd1_mk]
      by_cases g : puL β (dR r) = 0
      · rw [g, if_pos (show iM 0 = -1 from rfl), bd1_mk, g0']
      · rw [if_neg (fun z => g ((iM_m1 (by omega)).mp z)), bd1_mk, bd1_mk, iM_l (by omega), lM_1 g, key _ g]
  rw [if_neg g1, if_neg g1]
  by_cases g2 : p2 = 2
  · rw [if_pos g2, if_pos g2, wi9 hb hK hd6, bd1_mk]
    by_cases g : inW β (dR r)
    · have z : tuS (prF τ (τ 1)) β (dR r) (uR r) (bR r) ≠ 0 := by unfold tuS tuF; rw [if_pos g]; omega
      rw [if_pos g, if_neg one0, tu9 hb hK hp hP (by omega) hoS' rd, bd1_mk, bd1_mk, lM_1 z, key _ z]
    · have z : tuS (prF τ (τ 1)) β (dR r) (uR r) (bR r) = 0 := by unfold tuS tuF; rw [if_neg g]
      rw [if_neg g, if_pos rfl, bd1_mk, z, g0']
  · rw [if_neg g2, if_neg g2]
    by_cases hd : dR r = τ 0
    · unfold fX9_isFree
      rw [if_pos hd, g0', hd, ca9T (by omega), bd1_mk, if_pos rfl, bd1_mk, og_mk _ (by decide), bd1_mk, if_pos rfl, bd1_mk]
    · rw [if_neg hd, fr9 hb hK (by omega) (by omega) (mR_lt _ _ _), bd1_mk]
      by_cases g : frF β (dR r) (mR (prF τ (τ 1)) β r)
      · have z : cgS (prF τ (τ 1)) β (dR r) (uR r) (bR r) ≠ 0 := by unfold cgS; have := g.1; omega
        rw [if_pos g, if_neg one0, cg9 hb hK hp hP (by omega) hoS' (by omega), bd1_mk, bd1_mk, cd_s g, lM_1 z, key _ z]
      · rw [if_neg g, if_pos rfl, bd1_mk, cd_0.mpr g, g0']
theorem tky8 (st sb d1 d2 : Nat → Int32) : fX5_take st sb d1 d2 = some (va_cpy d1 st 0 0 9, va_cpy d2 sb 0 0 36) := by
  unfold fX5_take fX7_takeFrom fX0_takeFrom
  rw [cl_0, cl_9, cl_36]; rfl
theorem wh8 {htr hbt : Nat → Int32} {τ β : Nat → Nat} (hf : TC htr τ) (hT : TK τ) (hb : CB hbt β) (hK : BK β) (st sb : Nat → Int32) (pu pe tu ca ho va : Nat → Int64) (ma ac : Nat → Int32) : Sx (fX8_workOutHand htr hbt st sb pu pe tu ca ho va ma ac) (fun z => TC z.1 τ ∧ CB z.2.1 β ∧ SB τ β z.2.2.2.1 z.2.2.2.2.1 z.2.2.2.2.2.1 z.2.2.2.2.2.2.1 z.2.2.2.2.2.2.2.1 z.2.2.2.2.2.2.2.2.1 z.2.2.2.2.2.2.2.2.2) := by
  unfold fX8_workOutHand
  rw [tky8, bd2_mk]
  refine Sx.b8 (pb8 hf.cpy hT hb.cpy hK _ _ _ _ _ _ _ _) ?_
  intro c0 c1 c2 c3 c4 c5 c6 c7 hsb
  exact Sx.mk ⟨hf.cpy, hb.cpy, hsb⟩
theorem sb24 {bs mv : Nat → Int32} {pe : Nat → Int64} {T : Nat} {β : Nat → Nat} {π : Nat → Nat → Nat} (hb : RB bs 4 β) (hK : BK β) (hp : PK π) (hP : RP pe T π) (hT : T ≤ 6) {r : Nat} (h1 : 1 ≤ r) (h : r < 128) (hd : dR r ≤ T) (hm : MV mv r) : ∀ (i n x : Nat), x + i = dR r → lpX9_standsByHand_24 bs mv pe (nI (dR r)) (n + i + 1) (nI x) (nI (dR (pfx r x))) (nI (uR (pfx r x))) (nI (bR (pfx r x))) (nI (mR π β (pfx r x))) = some (nI (dR r), nI (uR r), nI (bR r), nI (mR π β r)) := by
  have hd6 := (row_b1 r h h1).1.1
  intro i
  induction i with
  | zero =>
    intro n x hi
    rw [lpX9_standsByHand_24.eq_2, if_pos (nI_le (by omega) (by omega)), show x = dR r by omega, pfd]
  | succ i ih =>
    intro n x hi
    obtain ⟨g1, g2⟩ := pf2 r h h1 x (by omega) (by omega)
    obtain ⟨g3, g4, _⟩ := pf1 r h h1 x (by omega) (by omega)
    rw [lpX9_standsByHand_24.eq_2, if_neg (nI_ge (by omega) (by omega)), og32 (by omega) (by omega), nI_clamp (by omega), hm x (by omega), show fX9_goesOn 4 (nI (r / 2 ^ (dR r - 1 - x) % 2)) bs pe (nI (dR (pfx r x))) (nI (uR (pfx r x))) (nI (bR (pfx r x))) (nI (mR π β (pfx r x))) = _ from go9 hb hK hp hP hT g4 g2 (by omega) (by omega) _, bd4_mk, nm_mk, nI_1, ← g1, show n + (i + 1) = n + i + 1 by omega]
    exact ih n (x + 1) (by omega)
theorem sbh9 {tree bs hmv : Nat → Int32} {τ β : Nat → Nat} (hf9 : TR tree 9 τ) (hT : TK τ) (hb : RB bs 4 β) (hK : BK β) {r : Nat} (r1 : 1 ≤ r) (r2 : r < 128) (rd : dR r ≤ τ 0) (hm : MV hmv r) (x0 x1 x2 x3 : Int32) (pe9 : Nat → Int64) (a9 b9 : Int64) (wo9 ho9 : Nat → Int64) (ac9 : Nat → Int32) (s1 s2 s3 s4 : Int32) : Sx (fX9_standsByHand tree bs hmv x0 x1 x2 x3 pe9 a9 b9 wo9 ho9 ac9 s1 s2 s3 s4 (nI (dR r))) (fun z => z.1 = nI (τ 0) ∧ z.2.1 = nI (τ 6) ∧ z.2.2.1 = nI (τ 7) ∧ z.2.2.2.1 = nI (τ 8) ∧ RP z.2.2.2.2.1 (τ 0) (prF τ (τ 1)) ∧ GD (prF τ (τ 1)) (τ 0) (τ 6) (τ 7) (τ 8) β (fun _ _ _ _ => True) z.2.2.2.2.2.2.2.1 z.2.2.2.2.2.2.2.2.1 z.2.2.2.2.2.2.2.2.2.1 ∧ z.2.2.2.2.2.2.2.2.2.2 = (nI (dR r), nI (uR r), nI (bR r), nI (mR (prF τ (τ 1)) β r))) := by
  have hp := prF_PK hT (show τ 1 ≤ 1000 by omega)
  have hd6 := (row_b1 r r2 r1).1.1
  unfold fX9_standsByHand
  have h10 : tree (Int32.toNatClampNeg 10) = nI (τ 1) := hf9 1 (by omega)
  rw [h10]
  refine Sx.b7 (show Sx (fX9_takesTree 1 (nI (τ 1)) tree x0 x1 x2 x3 pe9 a9 b9) _ from tt9 (w := 1) hf9 (by omega) (by omega) hT x0 x1 x2 x3 pe9 a9 b9) ?_
  rintro d0 d1 d2 d3 pe' d5 d6 ⟨rfl, rfl, rfl, rfl, hP⟩
  dsimp only at hP ⊢
  refine Sx.b3 (show Sx (fX9_plays 4 bs (nI (τ 0)) (nI (τ 6)) (nI (τ 7)) (nI (τ 8)) pe' wo9 ho9 ac9) _ from pl9 (k := 4) hb hK hp hP hT.n wo9 ho9 ac9) ?_
  intro a0 a1 a2 hg
  dsimp only at hg
  obtain ⟨n, hn⟩ := fuN (dR r + 1) (by omega)
  have := sb24 hb hK hp hP (by omega) r1 r2 rd hm (dR r) n 0 (by omega)
  rw [pf0 r r2 r1] at this
  rw [show fX9_starts 4 bs pe' s1 s2 s3 s4 = _ from sta9 (k := 4) hb hK hp hP (by omega) s1 s2 s3 s4, bd4_mk, hn, i_0, show n + (dR r + 1) = n + dR r + 1 by omega, this, bd4_mk]
  exact Sx.mk ⟨rfl, rfl, rfl, rfl, hP, hg, rfl⟩
