/-! pure: extreme, both sides (own rows) -/
def rbF (c : Nat) : Nat → Nat
  | 0 => 1
  | i + 1 => 2 * rbF c i + c / 2 ^ i % 2
theorem rob8 : ∀ c, c < 64 → ∀ T, T < 7 → fX8_rowOfBits (nI c) (nI T) = some (nI (rbF c T)) := by decide +kernel
theorem rb_p : ∀ c, c < 64 → ∀ T, T < 7 → 1 ≤ rbF c T ∧ rbF c T < 128 ∧ dR (rbF c T) = T := by decide +kernel
theorem rb_b : ∀ c, c < 64 → ∀ T, T < 7 → ∀ i, i < 6 → i < T → rbF c T / 2 ^ (T - 1 - i) % 2 = c / 2 ^ i % 2 := by decide +kernel
theorem bt_b : ∀ c, c < 64 → ∀ i, i < 6 → ((nI c >>> (nI i &&& 31)) &&& 1) = nI (c / 2 ^ i % 2) := by decide +kernel
theorem sh1T : ∀ T, T < 7 → (1 : Int32) <<< (nI T &&& 31) = nI (2 ^ T) := by decide +kernel
theorem ex53 (a1 a2 a3 a4 : Int32) (a5 : Int64) {c T : Nat} (hc : c < 64) (hT : T ≤ 6) : ∀ (i n x : Nat) (mv : Nat → Int32), x + i = T → (∀ y, y < x → mv y = nI (c / 2 ^ y % 2)) → Sx (lpX9_extreme_53 a1 a2 a3 a4 a5 (nI c) (nI T) (n + i + 1) (nI x) mv) (fun z => ∀ y, y < T → z y = nI (c / 2 ^ y % 2)) := by
  intro i
  induction i with
  | zero =>
    intro n x mv hi h
    rw [lpX9_extreme_53.eq_2, if_pos (nI_le (by omega) (by omega))]
    exact Sx.mk (fun y hy => h y (by omega))
  | succ i ih =>
    intro n x mv hi h
    rw [lpX9_extreme_53.eq_2, if_neg (nI_ge (by omega) (by omega)), og32 (by omega) (by omega), nm_mk, nm_mk, nI_1, nI_clamp (by omega), bt_b c hc x (by omega), show n + (i + 1) = n + i + 1 by omega]
    refine ih n (x + 1) _ (by omega) (fun y hy => ?_)
    rw [upS]
    by_cases e : y = x
    · rw [if_pos e, e]
    · rw [if_neg e]; exact h y (by omega)
def exF (p : Int32) (F : Nat → Int64) : Nat → Nat → Int64 → Int32 → Int64 × Int32
  | 0, _, v, m => (v, m)
  | i + 1, x, v, m => if x = 0 then exF p F i (x + 1) (F x) (nI x) else if p = 0 then (if v ≤ F x then exF p F i (x + 1) v m else exF p F i (x + 1) (F x) (nI x)) else (if F x ≤ v then exF p F i (x + 1) v m else exF p F i (x + 1) (F x) (nI x))
theorem ex46 {sb : Nat → Int32} {τ β : Nat → Nat} (hcb : CB sb β) (hK : BK β) (hT : TK τ) {pe tu ca ho va : Nat → Int64} {ma ac : Nat → Int32} (hsb : SB τ β pe tu ca ho va ma ac) (p p3 : Int32) : ∀ (i n x : Nat) (v : Int64) (m : Int32), x + i = 2 ^ τ 0 → Sx (lpX8_extreme_46 p p3 (nI (τ 0)) sb tu ac (n + i + 1) v m (nI x)) (fun z => z = exF p (fun c => lN (paR (prF τ (τ 1)) β (A1 τ β) (rbF c (τ 0)))) i x v m) := by
  have hb2 := p2b (τ 0) (by omega)
  have ha := hsb.a hT
  intro i
  induction i with
  | zero =>
    intro n x v m hi
    rw [lpX8_extreme_46.eq_2, sh1T _ (by omega), if_pos (nI_le (by omega) (by omega))]
    exact Sx.mk rfl
  | succ i ih =>
    intro n x v m hi
    obtain ⟨r1, r2, r3⟩ := rb_p x (by omega) (τ 0) (by omega)
    have hA : ∀ i, i ≤ dR (rbF x (τ 0)) → 1 ≤ pfx (rbF x (τ 0)) i ∧ pfx (rbF x (τ 0)) i < 128 ∧ dR (pfx (rbF x (τ 0)) i) = i := by
      intro i hi
      obtain ⟨g1, g2, g3⟩ := pf1 _ r2 r1 i (by omega) hi
      exact ⟨g2, g3, g1⟩
    obtain ⟨e1, e2, e3⟩ := hA (ex (A1 τ β) (rbF x (τ 0))) (ex_le _ _)
    have e4 : dR (pfx (rbF x (τ 0)) (ex (A1 τ β) (rbF x (τ 0)))) ≤ τ 0 := by rw [e3]; have := ex_le (A1 τ β) (rbF x (τ 0)); omega
    have hE : A1 τ β (pfx (rbF x (τ 0)) (ex (A1 τ β) (rbF x (τ 0)))) ≠ 0 := ex_end _ (aR_T _ _ _ _ _ _ r3)
    obtain ⟨a1, a2, a3⟩ := ha _ e1 e2 e4
    rw [lpX8_extreme_46.eq_2, sh1T _ (by omega), if_neg (nI_ge (by omega) (by omega)), rob8 x (by omega) _ (by omega), bd1_mk, ea8 r1 r2 (A := A1 τ β) (fun i hi => by
      obtain ⟨g2, g3, g1⟩ := hA i hi
      exact ⟨(ha _ g2 g3 (by omega)).1, (ha _ g2 g3 (by omega)).2.1.1⟩), bd1_mk, if_neg hE, put8 hcb hK e1 e2 a1 a3 a2, bd1_mk, e3]
    unfold exF
    have eF : lN (pyA (prF τ (τ 1)) β (A1 τ β (pfx (rbF x (τ 0)) (ex (A1 τ β) (rbF x (τ 0))))) (pfx (rbF x (τ 0)) (ex (A1 τ β) (rbF x (τ 0)))) + cpS β (ex (A1 τ β) (rbF x (τ 0)))) = lN (paR (prF τ (τ 1)) β (A1 τ β) (rbF x (τ 0))) := rfl
    rw [eF]
    by_cases g0 : x = 0
    · rw [if_pos g0, if_pos (by rw [g0]; rfl), bd2_mk, nm_mk, nI_1, show n + (i + 1) = n + i + 1 by omega]
      exact ih n (x + 1) _ _ (by omega)
    rw [if_neg g0, if_neg (nI_ne0 (by omega) (by omega))]
    by_cases g : p = 0
    · rw [if_pos g, if_pos g]
      by_cases g2 : v ≤ lN (paR (prF τ (τ 1)) β (A1 τ β) (rbF x (τ 0)))
      · rw [if_pos g2, if_pos g2, bd2_mk, nm_mk, nI_1, show n + (i + 1) = n + i + 1 by omega]
        exact ih n (x + 1) _ _ (by omega)
      · rw [if_neg g2, if_neg g2, bd2_mk, nm_mk, nI_1, show n + (i + 1) = n + i + 1 by omega]
        exact ih n (x + 1) _ _ (by omega)
    · rw [if_neg g, if_neg g]
      by_cases g2 : lN (paR (prF τ (τ 1)) β (A1 τ β) (rbF x (τ 0))) ≤ v
      · rw [if_pos g2, if_pos g2, bd2_mk, nm_mk, nI_1, show n + (i + 1) = n + i + 1 by omega]
        exact ih n (x + 1) _ _ (by omega)
      · rw [if_neg g2, if_neg g2, bd2_mk, nm_mk, nI_1, show n + (i + 1) = n + i + 1 by omega]
        exact ih n (x + 1) _ _ (by omega)
theorem ex39 {bs : Nat → Int32} {pe' wo ho : Nat → Int64} {ac : Nat → Int32} {τ β : Nat → Nat} {k : Nat} (hb : RB bs k β) (hK : BK β) (hT : TK τ) (hP : RP pe' (τ 0) (prF τ (τ 1))) (hG : GD (prF τ (τ 1)) (τ 0) (τ 6) (τ 7) (τ 8) β (fun _ _ _ _ => True) wo ho ac) (p p3 : Int32) : ∀ (i n x : Nat) (v : Int64) (m : Int32) (mv : Nat → Int32) (s1 s2 s3 s4 : Int32) (s5 : Int64), x + i = 2 ^ τ 0 → (x = 0 ∧ m = -1 ∨ x ≠ 0 ∧ m ≠ -1) → Sx (lpX9_extreme_39 (nI k) p p3 bs (nI (τ 0)) pe' ac (n + i + 1) m v (nI x) mv s1 s2 s3 s4 s5) (fun z => (z.2.1, z.1) = exF p (fun c => lN (paR (prF τ (τ 1)) β (A1 τ β) (rbF c (τ 0)))) i x v m) := by
  have hb2 := p2b (τ 0) (by omega)
  have hp := prF_PK hT (show τ 1 ≤ 1000 by omega)
  have ha := hG.a
  intro i
  induction i with
  | zero =>
    intro n x v m mv s1 s2 s3 s4 s5 hi hm
    rw [lpX9_extreme_39.eq_2, sh1T _ (by omega), if_pos (nI_le (by omega) (by omega))]
    exact Sx.mk rfl
  | succ i ih =>
    intro n x v m mv s1 s2 s3 s4 s5 hi hm
    obtain ⟨r1, r2, r3⟩ := rb_p x (by omega) (τ 0) (by omega)
    have hA : ∀ i, i ≤ dR (rbF x (τ 0)) → 1 ≤ pfx (rbF x (τ 0)) i ∧ pfx (rbF x (τ 0)) i < 128 ∧ dR (pfx (rbF x (τ 0)) i) = i := by
      intro i hi
      obtain ⟨g1, g2, g3⟩ := pf1 _ r2 r1 i (by omega) hi
      exact ⟨g2, g3, g1⟩
    have hE : A1 τ β (pfx (rbF x (τ 0)) (ex (A1 τ β) (rbF x (τ 0)))) ≠ 0 := ex_end _ (aR_T _ _ _ _ _ _ r3)
    have hx1 : nI x ≠ (-1 : Int32) := fun q => by
      have := congrArg Int32.toInt q
      rw [nI_toInt (by omega)] at this
      rw [show (-1 : Int32).toInt = -1 from rfl] at this
      omega
    obtain ⟨n', hn'⟩ := fuN (τ 0 + 1) (by omega)
    rw [lpX9_extreme_39.eq_2, sh1T _ (by omega), if_neg (nI_ge (by omega) (by omega)), hn', show n' + (τ 0 + 1) = n' + τ 0 + 1 by omega]
    refine Sx.b1 (show Sx (lpX9_extreme_53 (nI k) p p3 m v (nI x) (nI (τ 0)) (n' + τ 0 + 1) 0 mv) _ from ex53 (nI k) p p3 m v (show x < 64 by omega) (show τ 0 ≤ 6 by omega) (τ 0) n' 0 mv (by omega) (fun y hy => absurd hy (Nat.not_lt_zero y))) ?_
    intro mv2 h2
    have hm2 : MV mv2 (rbF x (τ 0)) := by
      intro i hi
      rw [r3] at hi ⊢
      rw [h2 i hi, rb_b x (by omega) _ (by omega) i (by omega) hi]
    have hea := ea9 hb hK hp hP (by omega) r1 r2 (by omega) hm2 (A := A1 τ β) (fun i hi => by
      obtain ⟨g2, g3, g1⟩ := hA i hi
      exact ha _ g2 g3 (by omega)) s1 s2 s3 s4 s5
    rw [r3, if_neg hE, if_neg hE] at hea
    rw [hea, bd6_mk, if_neg one0]
    unfold exF
    have eF : lN (pyA (prF τ (τ 1)) β (A1 τ β (pfx (rbF x (τ 0)) (ex (A1 τ β) (rbF x (τ 0))))) (pfx (rbF x (τ 0)) (ex (A1 τ β) (rbF x (τ 0)))) + cpS β (ex (A1 τ β) (rbF x (τ 0)))) = lN (paR (prF τ (τ 1)) β (A1 τ β) (rbF x (τ 0))) := rfl
    rw [eF]
    by_cases g0 : x = 0
    · rw [if_pos g0, if_pos (by rcases hm with q | q; exact q.2; exact absurd g0 q.1), bd2_mk, nm_mk, nI_1, show n + (i + 1) = n + i + 1 by omega]
      exact ih n (x + 1) _ _ _ _ _ _ _ _ (by omega) (Or.inr ⟨by omega, hx1⟩)
    have hm1 : m ≠ -1 := by rcases hm with q | q; exact absurd q.1 g0; exact q.2
    rw [if_neg g0, if_neg hm1]
    by_cases g : p = 0
    · rw [if_pos g, if_pos g]
      by_cases g2 : v ≤ lN (paR (prF τ (τ 1)) β (A1 τ β) (rbF x (τ 0)))
      · rw [if_pos g2, if_neg (Int64.not_lt.mpr g2), bd2_mk, nm_mk, nI_1, show n + (i + 1) = n + i + 1 by omega]
        exact ih n (x + 1) _ _ _ _ _ _ _ _ (by omega) (Or.inr ⟨by omega, hm1⟩)
      · rw [if_neg g2, if_pos (Int64.not_le.mp g2), bd2_mk, nm_mk, nI_1, show n + (i + 1) = n + i + 1 by omega]
        exact ih n (x + 1) _ _ _ _ _ _ _ _ (by omega) (Or.inr ⟨by omega, hx1⟩)
    · rw [if_neg g, if_neg g]
      by_cases g2 : lN (paR (prF τ (τ 1)) β (A1 τ β) (rbF x (τ 0))) ≤ v
      · rw [if_pos g2, if_neg (Int64.not_lt.mpr g2), bd2_mk, nm_mk, nI_1, show n + (i + 1) = n + i + 1 by omega]
        exact ih n (x + 1) _ _ _ _ _ _ _ _ (by omega) (Or.inr ⟨by omega, hm1⟩)
      · rw [if_neg g2, if_pos (Int64.not_le.mp g2), bd2_mk, nm_mk, nI_1, show n + (i + 1) = n + i + 1 by omega]
        exact ih n (x + 1) _ _ _ _ _ _ _ _ (by omega) (Or.inr ⟨by omega, hx1⟩)
theorem exF_m (p : Int32) (F : Nat → Int64) (i : Nat) (v w : Int64) (m m' : Int32) : exF p F (i + 1) 0 v m = exF p F (i + 1) 0 w m' := by
  unfold exF
  rw [if_pos rfl, if_pos rfl]
theorem q_extreme {tr b0 b1 b2 tree bs : Nat → Int32} {τ : Nat → Nat} {B : Nat → Nat → Nat} (hf : TC tr τ) (hf9 : TR tree 0 τ) (hT : TK τ) (hB : CB3 b0 b1 b2 B) (hb9 : ∀ k, k < 3 → RB bs k (B k)) {mv : Nat → Int32} (p1 p2 p3 : Int32) (st sb : Nat → Int32) (pu pe tu ca ho va : Nat → Int64) (ma ac : Nat → Int32) (x0 x1 x2 x3 : Int32) (pe9 : Nat → Int64) (a9 b9 : Int64) (wo9 ho9 : Nat → Int64) (ac9 : Nat → Int32) (s1 s2 s3 s4 : Int32) (s5 : Int64) (as9 : Nat → Int32) : Sx2 (fX8_extreme p1 p2 p3 tr b0 b1 b2 st sb pu pe tu ca ho va ma ac) (fX9_extreme p1 p2 p3 tree bs mv x0 x1 x2 x3 pe9 a9 b9 wo9 ho9 ac9 s1 s2 s3 s4 s5 as9) (fun _ t => ∀ y, y < 6 → t.1 y = mv y) := by
  by_cases h1 : inr p1 0 2
  rotate_left
  · exact Sx2.mk (by unfold fX8_extreme; rw [isb8n h1, bd1_mk, if_pos rfl]) (by unfold fX9_extreme; rw [isb9n h1, bd1_mk, if_pos rfl]) (fun _ _ => rfl)
  by_cases h2 : inr p3 0 1
  rotate_left
  · exact Sx2.mk (by unfold fX8_extreme; rw [isb8y h1, bd1_mk, if_neg one0, wi0 h2, bd1_mk, if_pos rfl]) (by unfold fX9_extreme; rw [isb9y h1, bd1_mk, if_neg one0, in0 h2, bd1_mk, if_pos rfl]) (fun _ _ => rfl)
  obtain ⟨k, rfl, _, hk, _⟩ := inr_n h1 (by decide)
  have hk3 : k < 3 := by omega
  have hb2 := p2b (τ 0) (by omega)
  obtain ⟨n, hn⟩ := fuN (2 ^ τ 0 + 1) (by omega)
  refine Sx2.val (v := if p3 = 0 then (exF p2 (fun c => lN (paR (prF τ (τ 1)) (B k) (A1 τ (B k)) (rbF c (τ 0)))) (2 ^ τ 0) 0 0 0).1 else Int32.toInt64 (exF p2 (fun c => lN (paR (prF τ (τ 1)) (B k) (A1 τ (B k)) (rbF c (τ 0)))) (2 ^ τ 0) 0 0 0).2) ?_ ?_
  · unfold fX8_extreme
    rw [isb8y h1, bd1_mk, if_neg one0, wi1 h2, bd1_mk, if_neg one0]
    refine Sx.b10 (wo8 hk3 hf hT hB st sb pu pe tu ca ho va ma ac) ?_
    rintro c0 c1 c2 c3 c4 c5 c6 c7 c8 c9 ⟨hc, hcb, hsb⟩
    dsimp only at hc hcb hsb ⊢
    rw [ld8 hf hT, bd1_mk, hn, i_0, show n + (2 ^ τ 0 + 1) = n + 2 ^ τ 0 + 1 by omega]
    refine Sx.b2 (ex46 hcb (hB k hk3).2 hT hsb p2 p3 (2 ^ τ 0) n 0 0 (nI 0) (by omega)) ?_
    intro u w h
    rw [show (nI 0 : Int32) = 0 from rfl] at *
    rw [← h]
    by_cases g : p3 = 0
    · rw [if_pos g, if_pos g, bd1_mk]; exact Sx.mk rfl
    · rw [if_neg g, if_neg g, bd1_mk]; exact Sx.mk rfl
  · unfold fX9_extreme
    rw [isb9y h1, bd1_mk, if_neg one0, in1 h2, bd1_mk, if_neg one0]
    refine Sx.b10 (pn9 hf9 hT hk3 (hb9 k hk3) (hB k hk3).2 x0 x1 x2 x3 pe9 a9 b9 wo9 ho9 ac9) ?_
    rintro d0 d1 d2 d3 pe' d5 d6 d7 d8 d9 ⟨rfl, rfl, rfl, rfl, hP, hG⟩
    dsimp only at hP hG ⊢
    refine Sx.b2 (sw9 mv as9) ?_
    intro mv1 as1 hw1
    dsimp only at hw1
    rw [hn, show n + (2 ^ τ 0 + 1) = n + 2 ^ τ 0 + 1 by omega]
    refine Sx.b8 (show Sx (lpX9_extreme_39 (nI k) p2 p3 bs (nI (τ 0)) pe' d9 (n + 2 ^ τ 0 + 1) (-1) 0 0 mv1 s1 s2 s3 s4 s5) _ from ex39 (hb9 k hk3) (hB k hk3).2 hT hP hG p2 p3 (2 ^ τ 0) n 0 0 (-1) mv1 s1 s2 s3 s4 s5 (by omega) (Or.inl ⟨rfl, rfl⟩)) ?_
    intro e0 e1 e2 e3 e4 e5 e6 e7 h
    dsimp only at h
    obtain ⟨N, hN⟩ : ∃ N, 2 ^ τ 0 = N + 1 := ⟨2 ^ τ 0 - 1, by omega⟩
    rw [hN, exF_m p2 _ N 0 0 (-1) 0, ← hN] at h
    refine Sx.b2 (sw9 e2 as1) ?_
    intro mv2 as2 hw2
    dsimp only at hw2
    have fin : ∀ y, y < 6 → mv2 y = mv y := fun y hy => by rw [(hw2 y hy).1, (hw1 y hy).2]
    rw [← h]
    by_cases g : p3 = 0
    · rw [if_pos g, if_pos g, bd1_mk]; exact Sx.mk ⟨rfl, fin⟩
    · rw [if_neg g, if_neg g, bd1_mk]; exact Sx.mk ⟨rfl, fin⟩
