/-! pure: best of three and hedged, both sides (own rows) -/
def bsF (p : Int32) (V : Nat → Int64) : Nat → Nat → Int32 → Int64 → Int32
  | 0, _, m, _ => m
  | i + 1, x, m, v => if p = 0 then (if v ≤ V x then bsF p V i (x + 1) m v else bsF p V i (x + 1) (nI x) (V x)) else (if V x ≤ v then bsF p V i (x + 1) m v else bsF p V i (x + 1) (nI x) (V x))
theorem bs8 {tr b0 b1 b2 : Nat → Int32} {τ : Nat → Nat} {B : Nat → Nat → Nat} (hf : TC tr τ) (hT : TK τ) (hB : CB3 b0 b1 b2 B) (p : Int32) : ∀ (i n x : Nat) (m : Int32) (v : Int64) (st sb : Nat → Int32) (pu pe tu ca ho va : Nat → Int64) (ma ac : Nat → Int32), x + i = 3 → Sx (lpX8_best_12 p tr b0 b1 b2 (n + i + 1) m v (nI x) st sb pu pe tu ca ho va ma ac) (fun z => z.1 = bsF p (fun x => lN (V1 τ (B x))) i x m v) := by
  intro i
  induction i with
  | zero =>
    intro n x m v st sb pu pe tu ca ho va ma ac hi
    rw [lpX8_best_12.eq_2, if_pos (show (3 : Int32) ≤ nI x from nI_le (a := 3) (by omega) (by omega))]
    exact Sx.mk rfl
  | succ i ih =>
    intro n x m v st sb pu pe tu ca ho va ma ac hi
    rw [lpX8_best_12.eq_2, if_neg (show ¬ (3 : Int32) ≤ nI x from nI_ge (b := 3) (by omega) (by omega))]
    refine Sx.b11 (vw0 hf hT hB (k := x) (by omega) _ _ _ _ _ _ _ _ _ _) ?_
    rintro v0 c0 c1 c2 c3 c4 c5 c6 c7 c8 c9 rfl
    unfold bsF
    by_cases g : p = 0
    · rw [if_pos g, if_pos g]
      by_cases g2 : v ≤ lN (V1 τ (B x))
      · rw [if_pos g2, if_pos g2, bd2_mk, nm_mk, nI_1, show n + (i + 1) = n + i + 1 by omega]
        exact ih n (x + 1) _ _ _ _ _ _ _ _ _ _ _ _ (by omega)
      · rw [if_neg g2, if_neg g2, bd2_mk, nm_mk, nI_1, show n + (i + 1) = n + i + 1 by omega]
        exact ih n (x + 1) _ _ _ _ _ _ _ _ _ _ _ _ (by omega)
    · rw [if_neg g, if_neg g]
      by_cases g2 : lN (V1 τ (B x)) ≤ v
      · rw [if_pos g2, if_pos g2, bd2_mk, nm_mk, nI_1, show n + (i + 1) = n + i + 1 by omega]
        exact ih n (x + 1) _ _ _ _ _ _ _ _ _ _ _ _ (by omega)
      · rw [if_neg g2, if_neg g2, bd2_mk, nm_mk, nI_1, show n + (i + 1) = n + i + 1 by omega]
        exact ih n (x + 1) _ _ _ _ _ _ _ _ _ _ _ _ (by omega)
theorem bs9 {bs : Nat → Int32} {τ : Nat → Nat} {B : Nat → Nat → Nat} (hT : TK τ) (hK : ∀ k, k < 3 → BK (B k)) (hb9 : ∀ k, k < 3 → RB bs k (B k)) {pe' : Nat → Int64} (hP : RP pe' (τ 0) (prF τ (τ 1))) (p : Int32) : ∀ (i n x : Nat) (m : Int32) (v : Int64) (wo ho : Nat → Int64) (ac : Nat → Int32), x + i = 3 → m ≠ -1 → Sx (lpX9_best_11 p bs (nI (τ 0)) (nI (τ 6)) (nI (τ 7)) (nI (τ 8)) pe' (n + i + 1) m v (nI x) wo ho ac) (fun z => z.1 = bsF p (fun x => lN (V1 τ (B x))) i x m v) := by
  intro i
  induction i with
  | zero =>
    intro n x m v wo ho ac hi hm
    rw [lpX9_best_11.eq_2, if_pos (show (3 : Int32) ≤ nI x from nI_le (a := 3) (by omega) (by omega))]
    exact Sx.mk rfl
  | succ i ih =>
    intro n x m v wo ho ac hi hm
    have hx : nI x ≠ (-1 : Int32) := by
      rcases (show x = 0 ∨ x = 1 ∨ x = 2 by omega) with rfl | rfl | rfl <;> decide
    rw [lpX9_best_11.eq_2, if_neg (show ¬ (3 : Int32) ≤ nI x from nI_ge (b := 3) (by omega) (by omega))]
    refine Sx.b4 (vo9 (k := x) (hb9 x (by omega)) (hK x (by omega)) (prF_PK hT (by omega)) hP hT.n _ _ _) ?_
    rintro v0 c0 c1 c2 rfl
    unfold bsF
    rw [if_neg hm]
    have eV : lN (V0 (prF τ (τ 1)) (τ 0) (τ 6) (τ 7) (τ 8) (B x)) = lN (V1 τ (B x)) := rfl
    rw [eV]
    by_cases g : p = 0
    · rw [if_pos g, if_pos g]
      by_cases g2 : v ≤ lN (V1 τ (B x))
      · rw [if_pos g2, if_neg (Int64.not_lt.mpr g2), bd2_mk, nm_mk, nI_1, show n + (i + 1) = n + i + 1 by omega]
        exact ih n (x + 1) _ _ _ _ _ (by omega) hm
      · rw [if_neg g2, if_pos (Int64.not_le.mp g2), bd2_mk, nm_mk, nI_1, show n + (i + 1) = n + i + 1 by omega]
        exact ih n (x + 1) _ _ _ _ _ (by omega) hx
    · rw [if_neg g, if_neg g]
      by_cases g2 : lN (V1 τ (B x)) ≤ v
      · rw [if_pos g2, if_neg (Int64.not_lt.mpr g2), bd2_mk, nm_mk, nI_1, show n + (i + 1) = n + i + 1 by omega]
        exact ih n (x + 1) _ _ _ _ _ (by omega) hm
      · rw [if_neg g2, if_pos (Int64.not_le.mp g2), bd2_mk, nm_mk, nI_1, show n + (i + 1) = n + i + 1 by omega]
        exact ih n (x + 1) _ _ _ _ _ (by omega) hx
theorem q_best {tr b0 b1 b2 tree bs : Nat → Int32} {τ : Nat → Nat} {B : Nat → Nat → Nat} (hf : TC tr τ) (hf9 : TR tree 0 τ) (hT : TK τ) (hB : CB3 b0 b1 b2 B) (hb9 : ∀ k, k < 3 → RB bs k (B k)) (p1 : Int32) (st sb : Nat → Int32) (pu pe tu ca ho va : Nat → Int64) (ma ac : Nat → Int32) (x0 x1 x2 x3 : Int32) (pe9 : Nat → Int64) (a9 b9 : Int64) (wo9 ho9 : Nat → Int64) (ac9 : Nat → Int32) : Sx2 (fX8_best p1 tr b0 b1 b2 st sb pu pe tu ca ho va ma ac) (fX9_best p1 tree bs x0 x1 x2 x3 pe9 a9 b9 wo9 ho9 ac9) (fun _ _ => True) := by
  obtain ⟨n, hn⟩ := fuN 4 (by omega)
  refine Sx2.val (v := bsF p1 (fun x => lN (V1 τ (B x))) 2 1 0 (lN (V1 τ (B 0)))) ?_ ?_
  · unfold fX8_best
    refine Sx.b11 (vw0 hf hT hB (k := 0) (by omega) _ _ _ _ _ _ _ _ _ _) ?_
    rintro v0 c0 c1 c2 c3 c4 c5 c6 c7 c8 c9 rfl
    rw [hn]
    refine Sx.b11 (bs8 hf hT hB p1 2 (n + 1) 1 0 _ _ _ _ _ _ _ _ _ _ _ (by omega)) ?_
    intro a _ _ _ _ _ _ _ _ _ _ h
    exact Sx.mk h
  · unfold fX9_best
    refine Sx.b7 (tn9 hf9 hT x0 x1 x2 x3 pe9 a9 b9) ?_
    rintro d0 d1 d2 d3 pe' d5 d6 ⟨rfl, rfl, rfl, rfl, hP⟩
    dsimp only at hP ⊢
    rw [hn]
    refine Sx.b4 (P := fun z => z.1 = bsF p1 (fun x => lN (V1 τ (B x))) 2 1 0 (lN (V1 τ (B 0)))) ?_ ?_
    · rw [lpX9_best_11.eq_2, if_neg (by decide)]
      refine Sx.b4 (show Sx (fX9_valueOf 0 bs (nI (τ 0)) (nI (τ 6)) (nI (τ 7)) (nI (τ 8)) pe' wo9 ho9 ac9) _ from vo9 (k := 0) (hb9 0 (by omega)) (hB 0 (by omega)).2 (prF_PK hT (by omega)) hP hT.n _ _ _) ?_
      rintro v0 c0 c1 c2 rfl
      rw [if_pos rfl, bd2_mk, nm_mk]
      exact bs9 hT (fun k hk => (hB k hk).2) hb9 hP p1 2 n 1 0 _ _ _ _ (by omega) (by decide)
    · intro a _ _ _ h
      exact Sx.mk ⟨h, trivial⟩
def rW (τ : Nat → Nat) (e : Nat) : Int64 := (lN (prF τ (τ 1) (dR e + 1) (uR e + 1)) - lN (prF τ (τ 1) (dR e + 1) (uR e + 0)))
def rQ (τ β : Nat → Nat) (e : Nat) : Int64 := (1000 * (lN (vR (prF τ (τ 1)) (τ 0) (τ 6) (τ 7) (τ 8) β (bV (prF τ (τ 1)) β) (2 * e + 1)) - lN (vR (prF τ (τ 1)) (τ 0) (τ 6) (τ 7) (τ 8) β (bV (prF τ (τ 1)) β) (2 * e + 0)))) / rW τ e
theorem sh8 {st : Nat → Int32} {τ β : Nat → Nat} (hc : TC st τ) (hT : TK τ) {pe tu ca ho va : Nat → Int64} {ma ac : Nat → Int32} (hsb : SB τ β pe tu ca ho va ma ac) {e : Nat} (e1 : 1 ≤ e) (e2 : e < 128) (ed : dR e < τ 0) : fX5_sharesHeld (nI e) st pe va = some (if rW τ e = 0 then -3 else rQ τ β e) ∧ pe (2 * e + 1) = lN (prF τ (τ 1) (dR e + 1) (uR e + 1)) ∧ pe (2 * e + 0) = lN (prF τ (τ 1) (dR e + 1) (uR e + 0)) ∧ e < 64 := by
  have hd6 := (row_b1 e e2 e1).1.1
  have r64 : e < 64 := dR_64 e e2 e1 (by omega)
  obtain ⟨q1, q2, q3, q4⟩ := row_s e r64 e1 1 (by omega)
  obtain ⟨w1, w2, w3, w4⟩ := row_s e r64 e1 0 (by omega)
  have z1 : 2 * e + 1 < 2 * 2 ^ τ 0 := row_T hT (by omega) (by omega) (by omega)
  have z0 : 2 * e + 0 < 2 * 2 ^ τ 0 := row_T hT (by omega) (by omega) (by omega)
  have p1 := (hsb.1 (2 * e + 1) (by omega) z1).1
  have p0 := (hsb.1 (2 * e + 0) (by omega) z0).1
  rw [q1, q2] at p1
  rw [w1, w2] at p0
  refine ⟨?_, p1, p0, r64⟩
  unfold fX5_sharesHeld rQ rW
  rw [day8 e e2 e1, bd1_mk, ld8 hc hT, bd1_mk, if_pos (nI_lt (by omega) (by omega)), show fX8_longer (nI e) 1 = _ from lo8 e (b := 1) (by omega), bd1_mk, show fX8_longer (nI e) 0 = _ from lo8 e (b := 0) (by omega), bd1_mk, peA8 (by omega) (by omega), bd1_mk, peA8 (by omega) (by omega), bd1_mk, nm_mk, p1, p0]
  generalize hW : (lN (prF τ (τ 1) (dR e + 1) (uR e + 1)) - lN (prF τ (τ 1) (dR e + 1) (uR e + 0))) = W
  by_cases g : W = 0
  · rw [if_pos g, if_pos g, bd1_mk]
  · rw [if_neg g, if_neg g, va8 (by omega) (by omega), bd1_mk, va8 (by omega) (by omega), bd1_mk, (hsb.2 (2 * e + 1) (by omega) (by omega) z1).1, (hsb.2 (2 * e + 0) (by omega) (by omega) z0).1]
    unfold fX8_through
    rw [if_neg g, og_mk _ (nzL_n g), bd1_mk, bd1_mk, bd1_mk]
theorem ri9 {pe' : Nat → Int64} {τ : Nat → Nat} (hT : TK τ) (hP : RP pe' (τ 0) (prF τ (τ 1))) {e : Nat} (e1 : 1 ≤ e) (e2 : e < 128) (ed : dR e < τ 0) : fX9_rise pe' (nI (dR e)) (nI (uR e)) = some (rW τ e) := by
  obtain ⟨⟨b1, b2, _⟩, _⟩ := row_b1 e e2 e1
  unfold fX9_rise rW
  rw [i_1, i_7, nI_add, pk_mul, nI_add, nI_add, og32 (by omega) (by omega), og32 (by omega) (by omega), nI_clamp (by omega), nI_clamp (by omega), show 7 * (dR e + 1) + uR e + 1 = 7 * (dR e + 1) + (uR e + 1) by omega, show 7 * (dR e + 1) + uR e = 7 * (dR e + 1) + (uR e + 0) by omega, hP _ _ (by omega) (by omega), hP _ _ (by omega) (by omega)]
theorem ho9' {bs : Nat → Int32} {pe' wo ho : Nat → Int64} {ac : Nat → Int32} {τ β : Nat → Nat} {k : Nat} (hb : RB bs k β) (hK : BK β) (hT : TK τ) (hP : RP pe' (τ 0) (prF τ (τ 1))) (hG : GD (prF τ (τ 1)) (τ 0) (τ 6) (τ 7) (τ 8) β (fun _ _ _ _ => True) wo ho ac) {e : Nat} (e1 : 1 ≤ e) (e2 : e < 128) (ed : dR e < τ 0) (g : ¬ rW τ e = 0) : fX9_heldOf (nI k) bs pe' wo (nI (dR e)) (nI (uR e)) (nI (bR e)) (nI (mR (prF τ (τ 1)) β e)) = some (rQ τ β e) := by
  have hp := prF_PK hT (show τ 1 ≤ 1000 by omega)
  obtain ⟨⟨b1, b2, _⟩, _⟩ := row_b1 e e2 e1
  have r64 : e < 64 := dR_64 e e2 e1 (by omega)
  obtain ⟨q1, q2, q3, q4⟩ := row_s e r64 e1 1 (by omega)
  obtain ⟨w1, w2, w3, w4⟩ := row_s e r64 e1 0 (by omega)
  have f1 : aT (prF τ (τ 1)) β (2 * e + 1) = atN (dR e + 1) (uR e + 1) 1 (mkF (prF τ (τ 1)) β (mR (prF τ (τ 1)) β e) (dR e + 1) (uR e + 1)) := by unfold aT; rw [q1, q2, q3, mR_s _ _ e1 r64 (by omega)]
  have f0 : aT (prF τ (τ 1)) β (2 * e + 0) = atN (dR e + 1) (uR e + 0) 0 (mkF (prF τ (τ 1)) β (mR (prF τ (τ 1)) β e) (dR e + 1) (uR e + 0)) := by unfold aT; rw [w1, w2, w3, mR_s _ _ e1 r64 (by omega)]
  have l1 := aT_lt (prF τ (τ 1)) β (r := 2 * e + 1) (by omega) (by omega)
  have l0 := aT_lt (prF τ (τ 1)) β (r := 2 * e + 0) (by omega) (by omega)
  have v1 := (GD.r hG (r := 2 * e + 1) (by omega) (by omega) (by omega)).1
  have v0 := (GD.r hG (r := 2 * e + 0) (by omega) (by omega) (by omega)).1
  unfold fX9_heldOf rQ
  rw [show fX9_then (nI k) (nI (dR e)) (nI (uR e)) (nI (bR e)) (nI (mR (prF τ (τ 1)) β e)) 1 bs pe' = _ from th9 hb hK hp hP (by omega) (b := 1) _ (by omega) (mR_lt _ _ _) (by omega) (by omega), bd1_mk, ← f1, og32 l1 (by omega), nm_mk, show fX9_then (nI k) (nI (dR e)) (nI (uR e)) (nI (bR e)) (nI (mR (prF τ (τ 1)) β e)) 0 bs pe' = _ from th9 hb hK hp hP (by omega) (b := 0) _ (by omega) (mR_lt _ _ _) (by omega) (by omega), bd1_mk, ← f0, og32 l0 (by omega), nm_mk, ri9 hT hP e1 e2 ed, bd1_mk, og_mk _ (nzL_n g), nI_clamp (by omega), nI_clamp (by omega), v1, v0]
