section
/-! pure: extreme, both sides (own rows) -/
def rbF (c : Nat) : Nat → Nat
  | 0 => 1
  | i + 1 => 2 * rbF c i + c / 2 ^ i % 2
theorem rob8 : ∀ c, c < 64 → ∀ T, T < 7 → fX8_rowOfBits (nI c) (nI T) = some (nI (rbF c T)) := by decide +kernel
theorem rb_p : ∀ c, c < 64 → ∀ T, T < 7 → 1 ≤ rbF c T ∧ rbF c T < 128 ∧ dR (rbF c T) = T := by decide +kernel
theorem rb_b : ∀ c, c < 64 → ∀ T, T < 7 → ∀ i, i < 6 → i < T → rbF c T / 2 ^ (T - 1 - i) % 2 = c / 2 ^ i % 2 := by decide +kernel
theorem bt_b : ∀ c, c < 64 → ∀ i, i < 6 → ((nI c >>> (nI i &&& 31)) &&& 1) = nI (c / 2 ^ i % 2) := by decide +kernel
theorem sh1T : ∀ T, T < 7 → (1 : Int32) <<< (nI T &&& 31) = nI (2 ^ T) := by decide +kernel
theorem ex53 (a1 a2 a3 a4 : Int32) (a5 : Int64) {c T : Nat} (hc : c < 64) (hT : T ≤ 6) : ∀ (i n x : Nat) (mv : Nat → Int32), x + i = T → (∀ y, y < x → mv y = nI (c / 2 ^ y % 2)) → Sx (lpX9_extreme_53 a1 a2 a3 a4 a5 (nI c) (nI T) (n + i + 1) (nI x) mv) (fun z => ∀ y, y < T → z y = nI (c / 2 ^ y % 2)) := by
  intro i
  induction i with
  | zero =>
    intro n x mv hi h
    rw [lpX9_extreme_53.eq_2, if_pos (nI_le (by omega) (by omega))]
    exact Sx.mk (fun y hy => h y (by omega))
  | succ i ih =>
    intro n x mv hi h
    rw [lpX9_extreme_53.eq_2, if_neg (nI_ge (by omega) (by omega)), og32 (by omega) (by omega), nm_mk, nm_mk, nI_1, nI_clamp (by omega), bt_b c hc x (by omega), show n + (i + 1) = n + i + 1 by omega]
    refine ih n (x + 1) _ (by omega) (fun y hy => ?_)
    rw [upS]
    by_cases e : y = x
    · rw [if_pos e, e]
    · rw [if_neg e]; exact h y (by omega)
def exF (p : Int32) (F : Nat → Int64) : Nat → Nat → Int64 → Int32 → Int64 × Int32
  | 0, _, v, m => (v, m)
  | i + 1, x, v, m => if x = 0 then exF p F i (x + 1) (F x) (nI x) else if p = 0 then (if v ≤ F x then exF p F i (x + 1) v m else exF p F i (x + 1) (F x) (nI x)) else (if F x ≤ v then exF p F i (x + 1) v m else exF p F i (x + 1) (F x) (nI x))
theorem ex46 {sb : Nat → Int32} {τ β : Nat → Nat} (hcb : CB sb β) (hK : BK β) (hT : TK τ) {pe tu ca ho va : Nat → Int64} {ma ac : Nat → Int32} (hsb : SB τ β pe tu ca ho va ma ac) (p p3 : Int32) : ∀ (i n x : Nat) (v : Int64) (m : Int32), x + i = 2 ^ τ 0 → Sx (lpX8_extreme_46 p p3 (nI (τ 0)) sb tu ac (n + i + 1) v m (nI x)) (fun z => z = exF p (fun c => lN (paR (prF τ (τ 1)) β (A1 τ β) (rbF c (τ 0)))) i x v m) := by
  have hb2 := p2b (τ 0) (by omega)
  have ha := hsb.a hT
  intro i
  induction i with
  | zero =>
    intro n x v m hi
    rw [lpX8_extreme_46.eq_2, sh1T _ (by omega), if_pos (nI_le (by omega) (by omega))]
    exact Sx.mk rfl
  | succ i ih =>
    intro n x v m hi
    obtain ⟨r1, r2, r3⟩ := rb_p x (by omega) (τ 0) (by omega)
    have hA : ∀ i, i ≤ dR (rbF x (τ 0)) → 1 ≤ pfx (rbF x (τ 0)) i ∧ pfx (rbF x (τ 0)) i < 128 ∧ dR (pfx (rbF x (τ 0)) i) = i := by
      intro i hi
      obtain ⟨g1, g2, g3⟩ := pf1 _ r2 r1 i (by omega) hi
      exact ⟨g2, g3, g1⟩
    obtain ⟨e1, e2, e3⟩ := hA (ex (A1 τ β) (rbF x (τ 0))) (ex_le _ _)
    have e4 : dR (pfx (rbF x (τ 0)) (ex (A1 τ β) (rbF x (τ 0)))) ≤ τ 0 := by rw [e3]; have := ex_le (A1 τ β) (rbF x (τ 0)); omega
    have hE : A1 τ β (pfx (rbF x (τ 0)) (ex (A1 τ β) (rbF x (τ 0)))) ≠ 0 := ex_end _ (aR_T _ _ _ _ _ _ r3)
    obtain ⟨a1, a2, a3⟩ := ha _ e1 e2 e4
    rw [lpX8_extreme_46.eq_2, sh1T _ (by omega), if_neg (nI_ge (by omega) (by omega)), rob8 x (by omega) _ (by omega), bd1_mk, ea8 r1 r2 (A := A1 τ β) (fun i hi => by
      obtain ⟨g2, g3, g1⟩ := hA i hi
      exact ⟨(ha _ g2 g3 (by omega)).1, (ha _ g2 g3 (by omega)).2.1.1⟩), bd1_mk, if_neg hE, put8 hcb hK e1 e2 a1 a3 a2, bd1_mk, e3]
    unfold exF
    have eF : lN (pyA (prF τ (τ 1)) β (A1 τ β (pfx (rbF x (τ 0)) (ex (A1 τ β) (rbF x (τ 0))))) (pfx (rbF x (τ 0)) (ex (A1 τ β) (rbF x (τ 0)))) + cpS β (ex (A1 τ β) (rbF x (τ 0)))) = lN (paR (prF τ (τ 1)) β (A1 τ β) (rbF x (τ 0))) := rfl
    rw [eF]
    by_cases g0 : x = 0
    · rw [if_pos g0, if_pos (by rw [g0]; rfl), bd2_mk, nm_mk, nI_1, show n + (i + 1) = n + i + 1 by omega]
      exact ih n (x + 1) _ _ (by omega)
    rw [if_neg g0, if_neg (nI_ne0 (by omega) (by omega))]
    by_cases g : p = 0
    · rw [if_pos g, if_pos g]
      by_cases g2 : v ≤ lN (paR (prF τ (τ 1)) β (A1 τ β) (rbF x (τ 0)))
      · rw [if_pos g2, if_pos g2, bd2_mk, nm_mk, nI_1, show n + (i + 1) = n + i + 1 by omega]
        exact ih n (x + 1) _ _ (by omega)
      · rw [if_neg g2, if_neg g2, bd2_mk, nm_mk, nI_1, show n + (i + 1) = n + i + 1 by omega]
        exact ih n (x + 1) _ _ (by omega)
    · rw [if_neg g, if_neg g]
      by_cases g2 : lN (paR (prF τ (τ 1)) β (A1 τ β) (rbF x (τ 0))) ≤ v
      · rw [if_pos g2, if_pos g2, bd2_mk, nm_mk, nI_1, show n + (i + 1) = n + i + 1 by omega]
        exact ih n (x + 1) _ _ (by omega)
      · rw [if_neg g2, if_neg g2, bd2_mk, nm_mk, nI_1, show n + (i + 1) = n + i + 1 by omega]
        exact ih n (x + 1) _ _ (by omega)
theorem ex39 {bs : Nat → Int32} {pe' wo ho : Nat → Int64} {ac : Nat → Int32} {τ β : Nat → Nat} {k : Nat} (hb : RB bs k β) (hK : BK β) (hT : TK τ) (hP : RP pe' (τ 0) (prF τ (τ 1))) (hG : GD (prF τ (τ 1)) (τ 0) (τ 6) (τ 7) (τ 8) β (fun _ _ _ _ => True) wo ho ac) (p p3 : Int32) : ∀ (i n x : Nat) (v : Int64) (m : Int32) (mv : Nat → Int32) (s1 s2 s3 s4 : Int32) (s5 : Int64), x + i = 2 ^ τ 0 → (x = 0 ∧ m = -1 ∨ x ≠ 0 ∧ m ≠ -1) → Sx (lpX9_extreme_39 (nI k) p p3 bs (nI (τ 0)) pe' ac (n + i + 1) m v (nI x) mv s1 s2 s3 s4 s5) (fun z => (z.2.1, z.1) = exF p (fun c => lN (paR (prF τ (τ 1)) β (A1 τ β) (rbF c (τ 0)))) i x v m) := by
  have hb2 := p2b (τ 0) (by omega)
  have hp := prF_PK hT (show τ 1 ≤ 1000 by omega)
  have ha := hG.a
  intro i
  induction i with
  | zero =>
    intro n x v m mv s1 s2 s3 s4 s5 hi hm
    rw [lpX9_extreme_39.eq_2, sh1T _ (by omega), if_pos (nI_le (by omega) (by omega))]
    exact Sx.mk rfl
  | succ i ih =>
    intro n x v m mv s1 s2 s3 s4 s5 hi hm
    obtain ⟨r1, r2, r3⟩ := rb_p x (by omega) (τ 0) (by omega)
    have hA : ∀ i, i ≤ dR (rbF x (τ 0)) → 1 ≤ pfx (rbF x (τ 0)) i ∧ pfx (rbF x (τ 0)) i < 128 ∧ dR (pfx (rbF x (τ 0)) i) = i := by
      intro i hi
      obtain ⟨g1, g2, g3⟩ := pf1 _ r2 r1 i (by omega) hi
      exact ⟨g2, g3, g1⟩
    have hE : A1 τ β (pfx (rbF x (τ 0)) (ex (A1 τ β) (rbF x (τ 0)))) ≠ 0 := ex_end _ (aR_T _ _ _ _ _ _ r3)
    have hx1 : nI x ≠ (-1 : Int32) := fun q => by
      have := congrArg Int32.toInt q
      rw [nI_toInt (by omega)] at this
      rw [show (-1 : Int32).toInt = -1 from rfl] at this
      omega
    obtain ⟨n', hn'⟩ := fuN (τ 0 + 1) (by omega)
    rw [lpX9_extreme_39.eq_2, sh1T _ (by omega), if_neg (nI_ge (by omega) (by omega)), hn', show n' + (τ 0 + 1) = n' + τ 0 + 1 by omega]
    refine Sx.b1 (show Sx (lpX9_extreme_53 (nI k) p p3 m v (nI x) (nI (τ 0)) (n' + τ 0 + 1) 0 mv) _ from ex53 (nI k) p p3 m v (show x < 64 by omega) (show τ 0 ≤ 6 by omega) (τ 0) n' 0 mv (by omega) (fun y hy => absurd hy (Nat.not_lt_zero y))) ?_
    intro mv2 h2
    have hm2 : MV mv2 (rbF x (τ 0)) := by
      intro i hi
      rw [r3] at hi ⊢
      rw [h2 i hi, rb_b x (by omega) _ (by omega) i (by omega) hi]
    have hea := ea9 hb hK hp hP (by omega) r1 r2 (by omega) hm2 (A := A1 τ β) (fun i hi => by
      obtain ⟨g2, g3, g1⟩ := hA i hi
      exact ha _ g2 g3 (by omega)) s1 s2 s3 s4 s5
    rw [r3, if_neg hE, if_neg hE] at hea
    rw [hea, bd6_mk, if_neg one0]
    unfold exF
    have eF : lN (pyA (prF τ (τ 1)) β (A1 τ β (pfx (rbF x (τ 0)) (ex (A1 τ β) (rbF x (τ 0))))) (pfx (rbF x (τ 0)) (ex (A1 τ β) (rbF x (τ 0)))) + cpS β (ex (A1 τ β) (rbF x (τ 0)))) = lN (paR (prF τ (τ 1)) β (A1 τ β) (rbF x (τ 0))) := rfl
    rw [eF]
    by_cases g0 : x = 0
    · rw [if_pos g0, if_pos (by rcases hm with q | q; exact q.2; exact absurd g0 q.1), bd2_mk, nm_mk, nI_1, show n + (i + 1) = n + i + 1 by omega]
      exact ih n (x + 1) _ _ _ _ _ _ _ _ (by omega) (Or.inr ⟨by omega, hx1⟩)
    have hm1 : m ≠ -1 := by rcases hm with q | q; exact absurd q.1 g0; exact q.2
    rw [if_neg g0, if_neg hm1]
    by_cases g : p = 0
    · rw [if_pos g, if_pos g]
      by_cases g2 : v ≤ lN (paR (prF τ (τ 1)) β (A1 τ β) (rbF x (τ 0)))
      · rw [if_pos g2, if_neg (Int64.not_lt.mpr g2), bd2_mk, nm_mk, nI_1, show n + (i + 1) = n + i + 1 by omega]
        exact ih n (x + 1) _ _ _ _ _ _ _ _ (by omega) (Or.inr ⟨by omega, hm1⟩)
      · rw [if_neg g2, if_pos (Int64.not_le.mp g2), bd2_mk, nm_mk, nI_1, show n + (i + 1) = n + i + 1 by omega]
        exact ih n (x + 1) _ _ _ _ _ _ _ _ (by omega) (Or.inr ⟨by omega, hx1⟩)
    · rw [if_neg g, if_neg g]
      by_cases g2 : lN (paR (prF τ (τ 1)) β (A1 τ β) (rbF x (τ 0))) ≤ v
      · rw [if_pos g2, if_neg (Int64.not_lt.mpr g2), bd2_mk, nm_mk, nI_1, show n + (i + 1) = n + i + 1 by omega]
        exact ih n (x + 1) _ _ _ _ _ _ _ _ (by omega) (Or.inr ⟨by omega, hm1⟩)
      · rw [if_neg g2, if_pos (Int64.not_le.mp g2), bd2_mk, nm_mk, nI_1, show n + (i + 1) = n + i + 1 by omega]
        exact ih n (x + 1) _ _ _ _ _ _ _ _ (by omega) (Or.inr ⟨by omega, hx1⟩)
theorem exF_m (p : Int32) (F : Nat → Int64) (i : Nat) (v w : Int64) (m m' : Int32) : exF p F (i + 1) 0 v m = exF p F (i + 1) 0 w m' := by
  unfold exF
  rw [if_pos rfl, if_pos rfl]
theorem q_extreme {tr b0 b1 b2 tree bs : Nat → Int32} {τ : Nat → Nat} {B : Nat → Nat → Nat} (hf : TC tr τ) (hf9 : TR tree 0 τ) (hT : TK τ) (hB : CB3 b0 b1 b2 B) (hb9 : ∀ k, k < 3 → RB bs k (B k)) {mv : Nat → Int32} (p1 p2 p3 : Int32) (st sb : Nat → Int32) (pu pe tu ca ho va : Nat → Int64) (ma ac : Nat → Int32) (x0 x1 x2 x3 : Int32) (pe9 : Nat → Int64) (a9 b9 : Int64) (wo9 ho9 : Nat → Int64) (ac9 : Nat → Int32) (s1 s2 s3 s4 : Int32) (s5 : Int64) (as9 : Nat → Int32) : Sx2 (fX8_extreme p1 p2 p3 tr b0 b1 b2 st sb pu pe tu ca ho va ma ac) (fX9_extreme p1 p2 p3 tree bs mv x0 x1 x2 x3 pe9 a9 b9 wo9 ho9 ac9 s1 s2 s3 s4 s5 as9) (fun _ t => ∀ y, y < 6 → t.1 y = mv y) := by
  by_cases h1 : inr p1 0 2
  rotate_left
  · exact Sx2.mk (by unfold fX8_extreme; rw [isb8n h1, bd1_mk, if_pos rfl]) (by unfold fX9_extreme; rw [isb9n h1, bd1_mk, if_pos rfl]) (fun _ _ => rfl)
  by_cases h2 : inr p3 0 1
  rotate_left
  · exact Sx2.mk (by unfold fX8_extreme; rw [isb8y h1, bd1_mk, if_neg one0, wi0 h2, bd1_mk, if_pos rfl]) (by unfold fX9_extreme; rw [isb9y h1, bd1_mk, if_neg one0, in0 h2, bd1_mk, if_pos rfl]) (fun _ _ => rfl)
  obtain ⟨k, rfl, _, hk, _⟩ := inr_n h1 (by decide)
  have hk3 : k < 3 := by omega
  have hb2 := p2b (τ 0) (by omega)
  obtain ⟨n, hn⟩ := fuN (2 ^ τ 0 + 1) (by omega)
  refine Sx2.val (v := if p3 = 0 then (exF p2 (fun c => lN (paR (prF τ (τ 1)) (B k) (A1 τ (B k)) (rbF c (τ 0)))) (2 ^ τ 0) 0 0 0).1 else Int32.toInt64 (exF p2 (fun c => lN (paR (prF τ (τ 1)) (B k) (A1 τ (B k)) (rbF c (τ 0)))) (2 ^ τ 0) 0 0 0).2) ?_ ?_
  · unfold fX8_extreme
    rw [isb8y h1, bd1_mk, if_neg one0, wi1 h2, bd1_mk, if_neg one0]
    refine Sx.b10 (wo8 hk3 hf hT hB st sb pu pe tu ca ho va ma ac) ?_
    rintro c0 c1 c2 c3 c4 c5 c6 c7 c8 c9 ⟨hc, hcb, hsb⟩
    dsimp only at hc hcb hsb ⊢
    rw [ld8 hf hT, bd1_mk, hn, i_0, show n + (2 ^ τ 0 + 1) = n + 2 ^ τ 0 + 1 by omega]
    refine Sx.b2 (ex46 hcb (hB k hk3).2 hT hsb p2 p3 (2 ^ τ 0) n 0 0 (nI 0) (by omega)) ?_
    intro u w h
    rw [show (nI 0 : Int32) = 0 from rfl] at *
    rw [← h]
    by_cases g : p3 = 0
    · rw [if_pos g, if_pos g, bd1_mk]; exact Sx.mk rfl
    · rw [if_neg g, if_neg g, bd1_mk]; exact Sx.mk rfl
  · unfold fX9_extreme
    rw [isb9y h1, bd1_mk, if_neg one0, in1 h2, bd1_mk, if_neg one0]
    refine Sx.b10 (pn9 hf9 hT hk3 (hb9 k hk3) (hB k hk3).2 x0 x1 x2 x3 pe9 a9 b9 wo9 ho9 ac9) ?_
    rintro d0 d1 d2 d3 pe' d5 d6 d7 d8 d9 ⟨rfl, rfl, rfl, rfl, hP, hG⟩
    dsimp only at hP hG ⊢
    refine Sx.b2 (sw9 mv as9) ?_
    intro mv1 as1 hw1
    dsimp only at hw1
    rw [hn, show n + (2 ^ τ 0 + 1) = n + 2 ^ τ 0 + 1 by omega]
    refine Sx.b8 (show Sx (lpX9_extreme_39 (nI k) p2 p3 bs (nI (τ 0)) pe' d9 (n + 2 ^ τ 0 + 1) (-1) 0 0 mv1 s1 s2 s3 s4 s5) _ from ex39 (hb9 k hk3) (hB k hk3).2 hT hP hG p2 p3 (2 ^ τ 0) n 0 0 (-1) mv1 s1 s2 s3 s4 s5 (by omega) (Or.inl ⟨rfl, rfl⟩)) ?_
    intro e0 e1 e2 e3 e4 e5 e6 e7 h
    dsimp only at h
    obtain ⟨N, hN⟩ : ∃ N, 2 ^ τ 0 = N + 1 := ⟨2 ^ τ 0 - 1, by omega⟩
    rw [hN, exF_m p2 _ N 0 0 (-1) 0, ← hN] at h
    refine Sx.b2 (sw9 e2 as1) ?_
    intro mv2 as2 hw2
    dsimp only at hw2
    have fin : ∀ y, y < 6 → mv2 y = mv y := fun y hy => by rw [(hw2 y hy).1, (hw1 y hy).2]
    rw [← h]
    by_cases g : p3 = 0
    · rw [if_pos g, if_pos g, bd1_mk]; exact Sx.mk ⟨rfl, fin⟩
    · rw [if_neg g, if_neg g, bd1_mk]; exact Sx.mk ⟨rfl, fin⟩
end
section
/-! pure: path, both sides (own rows) -/
theorem sB_u : ∀ v, v < 256 → ((sB v = 117) ↔ v = 117) ∧ ((sB v = 100) ↔ v = 100) ∧ ((nI v = 117) ↔ v = 117) ∧ ((nI v = 100) ↔ v = 100) := by decide +kernel
/-- moves read: none if a byte is neither -/
def okP (v : Nat → Nat) (d : Nat) : Prop := ∀ i, i < d → v i = 117 ∨ v i = 100
def bP (v : Nat → Nat) (i : Nat) : Nat := if v i = 117 then 1 else 0
def rP (v : Nat → Nat) : Nat → Nat
  | 0 => 1
  | i + 1 => 2 * rP v i + bP v i
theorem bP_lt (v : Nat → Nat) (i : Nat) : bP v i < 2 := by unfold bP; by_cases h : v i = 117; rw [if_pos h]; omega; rw [if_neg h]; omega
theorem rP_p (v : Nat → Nat) : ∀ d, d ≤ 6 → 1 ≤ rP v d ∧ rP v d < 2 * 2 ^ d ∧ rP v d < 128 ∧ dR (rP v d) = d := by
  intro d
  induction d with
  | zero => intro _; exact ⟨Nat.le_refl 1, (show 1 < 2 * 2 ^ 0 by decide), (show 1 < 128 by decide), rfl⟩
  | succ d ih =>
    intro h
    obtain ⟨a, b, c, e⟩ := ih (by omega)
    have hb := bP_lt v d
    have h64 : rP v d < 64 := dR_64 _ c a (by omega)
    have h2 : rP v (d + 1) = 2 * rP v d + bP v d := rfl
    obtain ⟨s1, _, _, _⟩ := row_s _ h64 a _ hb
    rw [h2]
    refine ⟨by omega, by rw [Nat.pow_succ]; omega, by omega, by rw [s1, e]⟩
theorem rP_bit (v : Nat → Nat) : ∀ d, d ≤ 6 → ∀ i, i < d → rP v d / 2 ^ (d - 1 - i) % 2 = bP v i := by
  intro d
  induction d with
  | zero => intro _ i hi; omega
  | succ d ih =>
    intro h i hi
    have hb := bP_lt v d
    have h2 : rP v (d + 1) = 2 * rP v d + bP v d := rfl
    rw [h2]
    by_cases e : i = d
    · subst e
      rw [show i + 1 - 1 - i = 0 by omega, Nat.pow_zero, Nat.div_one]; omega
    · have := ih (by omega) i (by omega)
      rw [show d + 1 - 1 - i = (d - 1 - i) + 1 by omega, Nat.pow_succ, Nat.mul_comm (2 ^ (d - 1 - i)) 2, ← Nat.div_div_eq_div_mul, show (2 * rP v d + bP v d) / 2 = rP v d by omega]
      exact this
theorem rm4 {by8 : Nat → Int32} {v : Nat → Nat} {d : Nat} (hd : d ≤ 6) (h : ∀ i, i < d → v i < 256 ∧ by8 i = nI (v i)) : ∀ (i n x : Nat), x + i = d → okP v x → Sx (lpX6_readMoves_4 (nI d) by8 (n + i + 1) (nI (rP v x)) (nI x)) (fun z => (okP v d → z = (1, nI (rP v d))) ∧ (¬ okP v d → z.1 = 0)) := by
  intro i
  induction i with
  | zero =>
    intro n x hi ho
    have e : x = d := by omega
    subst e
    rw [lpX6_readMoves_4.eq_2, if_pos (nI_le (by omega) (by omega))]
    exact Sx.mk ⟨fun _ => rfl, fun q => absurd ho q⟩
  | succ i ih =>
    intro n x hi ho
    obtain ⟨h1, h2⟩ := h x (by omega)
    obtain ⟨_, _, u1, u2⟩ := sB_u _ h1
    have key : v x = 117 ∨ v x = 100 → okP v (x + 1) := fun q j hj => by
      by_cases e : j = x
      · rw [e]; exact q
      · exact ho j (by omega)
    rw [lpX6_readMoves_4.eq_2, if_neg (nI_ge (by omega) (by omega)), if_neg (show ¬ (6 : Int32) ≤ nI x from nI_ge (b := 6) (by omega) (by omega)), og32 (by omega) (by omega), nI_clamp (by omega), h2]
    by_cases g : v x = 117
    · have eb : bP v x = 1 := if_pos g
      rw [if_pos (u1.mpr g), og32 (by omega) (by omega), if_pos (u1.mpr g), bd1_mk, show fX8_longer (nI (rP v x)) 1 = _ from lo8 _ (b := 1) (by omega), bd1_mk, nm_mk, nI_1, show n + (i + 1) = n + i + 1 by omega, show 2 * rP v x + 1 = rP v (x + 1) by (show _ = 2 * rP v x + bP v x); omega]
      exact ih n (x + 1) (by omega) (key (Or.inl g))
    rw [if_neg (fun z => g (u1.mp z)), og32 (by omega) (by omega)]
    by_cases g2 : v x = 100
    · have eb : bP v x = 0 := if_neg g
      rw [if_pos (u2.mpr g2), og32 (by omega) (by omega), if_neg (fun z => g (u1.mp z)), bd1_mk, show fX8_longer (nI (rP v x)) 0 = _ from lo8 _ (b := 0) (by omega), bd1_mk, nm_mk, nI_1, show n + (i + 1) = n + i + 1 by omega, show 2 * rP v x + 0 = rP v (x + 1) by (show _ = 2 * rP v x + bP v x); omega]
      exact ih n (x + 1) (by omega) (key (Or.inr g2))
    · rw [if_neg (fun z => g2 (u2.mp z))]
      exact Sx.mk ⟨fun q => by rcases q x (by omega) with q | q; exact absurd q g; exact absurd q g2, fun _ => rfl⟩
theorem uP (v : Nat → Nat) {d : Nat} (hd : d < 6) : uR (rP v (d + 1)) = uR (rP v d) + bP v d := by
  obtain ⟨a, b, c, e⟩ := rP_p v d (by omega)
  exact (row_s _ (dR_64 _ c a (by omega)) a _ (bP_lt v d)).2.1
theorem pa35 {tp : Nat → Int32} {v : Nat → Nat} {d : Nat} (hd : d ≤ 6) (h : ∀ i, i < d → v i < 256 ∧ tp i = sB (v i)) : ∀ (i n x : Nat), x + i = d → okP v x → Sx (lpX9_path_35 (nI d) tp (n + i + 1) (nI (uR (rP v x))) (nI x)) (fun z => (okP v d → z = (1, nI (uR (rP v d)))) ∧ (¬ okP v d → z.1 = 0)) := by
  intro i
  induction i with
  | zero =>
    intro n x hi ho
    have e : x = d := by omega
    subst e
    rw [lpX9_path_35.eq_2, if_pos (nI_le (by omega) (by omega))]
    exact Sx.mk ⟨fun _ => rfl, fun q => absurd ho q⟩
  | succ i ih =>
    intro n x hi ho
    obtain ⟨h1, h2⟩ := h x (by omega)
    obtain ⟨u1, u2, _, _⟩ := sB_u _ h1
    have key : v x = 117 ∨ v x = 100 → okP v (x + 1) := fun q j hj => by
      by_cases e : j = x
      · rw [e]; exact q
      · exact ho j (by omega)
    have hu := uP v (show x < 6 by omega)
    rw [lpX9_path_35.eq_2, if_neg (nI_ge (by omega) (by omega)), og32 (by omega) (by omega), nI_clamp (by omega), h2]
    by_cases g : v x = 117
    · have eb : bP v x = 1 := if_pos g
      rw [if_pos (u1.mpr g), og32 (by omega) (by omega), if_pos (u1.mpr g), bd1_mk, nm_mk, nm_mk, nI_1, nI_1, show n + (i + 1) = n + i + 1 by omega, show uR (rP v x) + 1 = uR (rP v (x + 1)) by omega]
      exact ih n (x + 1) (by omega) (key (Or.inl g))
    rw [if_neg (fun z => g (u1.mp z)), og32 (by omega) (by omega)]
    by_cases g2 : v x = 100
    · have eb : bP v x = 0 := if_neg g
      rw [if_pos (u2.mpr g2), og32 (by omega) (by omega), if_neg (fun z => g (u1.mp z)), bd1_mk, nm_mk, nm_mk, nI_1, i_0, nI_add, show n + (i + 1) = n + i + 1 by omega, show uR (rP v x) + 0 = uR (rP v (x + 1)) by omega]
      exact ih n (x + 1) (by omega) (key (Or.inr g2))
    · rw [if_neg (fun z => g2 (u2.mp z))]
      exact Sx.mk ⟨fun q => by rcases q x (by omega) with q | q; exact absurd q g; exact absurd q g2, fun _ => rfl⟩
theorem pa92 {tp : Nat → Int32} {v : Nat → Nat} {d : Nat} (hd : d ≤ 6) (h : ∀ i, i < d → v i < 256 ∧ tp i = sB (v i)) (w : Int32) : ∀ (i n x : Nat) (mv : Nat → Int32), x + i = d → (∀ y, y < x → mv y = nI (bP v y)) → Sx (lpX9_path_92 (nI d) w tp (n + i + 1) (nI x) mv) (fun z => ∀ y, y < d → z y = nI (bP v y)) := by
  intro i
  induction i with
  | zero =>
    intro n x mv hi ho
    rw [lpX9_path_92.eq_2, if_pos (nI_le (by omega) (by omega))]
    exact Sx.mk (fun y hy => ho y (by omega))
  | succ i ih =>
    intro n x mv hi ho
    obtain ⟨h1, h2⟩ := h x (by omega)
    obtain ⟨u1, u2, _, _⟩ := sB_u _ h1
    have eb : (if tp (Int32.toNatClampNeg (nI x)) = 117 then some (1 : Int32) else some 0) = some (nI (bP v x)) := by
      rw [nI_clamp (by omega), h2]
      unfold bP
      by_cases g : v x = 117
      · rw [if_pos (u1.mpr g), if_pos g]; rfl
      · rw [if_neg (fun z => g (u1.mp z)), if_neg g]; rfl
    rw [lpX9_path_92.eq_2, if_neg (nI_ge (by omega) (by omega)), og32 (by omega) (by omega), eb, bd1_mk, og32 (by omega) (by omega), nm_mk, nm_mk, nI_1, nI_clamp (by omega), show n + (i + 1) = n + i + 1 by omega]
    refine ih n (x + 1) _ (by omega) (fun y hy => ?_)
    rw [upS]
    by_cases e : y = x
    · rw [if_pos e, e]
    · rw [if_neg e]; exact ho y (by omega)
theorem q_path {tr tree : Nat → Int32} {τ : Nat → Nat} (h : TCT tr tree τ) {size taped : Int32} {bytes tape : Nat → Int32} (hT : TPQ size bytes tape taped) {row moved : Int32} {mv : Nat → Int32} (hP : PQ τ row mv moved) (p1 : Int32) : Sx2 (fX8_path p1 size bytes row tr) (fX9_path p1 tape taped tree mv moved) (fun s t => TPQ s.1 bytes tape t.1 ∧ PQ τ s.2 t.2.1 t.2.2) := by
  obtain ⟨hf, hf9, hK⟩ := h
  by_cases h1 : inr p1 0 (τ 0)
  rotate_left
  · exact Sx2.mk (by unfold fX8_path; rw [isd8n hf hK h1, bd1_mk, if_pos rfl]) (by unfold fX9_path; rw [isd9n hf9 hK h1, bd1_mk, if_pos rfl]) ⟨hT, hP⟩
  have h1' := h1
  obtain ⟨d, rfl, da, db, dc⟩ := inr_n h1 (by decide)
  obtain ⟨n, v, hn, rfl, rfl, hv⟩ := hT
  by_cases h2 : d ≤ n
  rotate_left
  · have g2 : ¬ nI d ≤ nI n := nI_ge (by omega) (by omega)
    exact Sx2.mk (by unfold fX8_path fX6_size; rw [isd8y hf hK h1', bd1_mk, if_neg one0, bd1_mk, if_neg g2]) (by unfold fX9_path; rw [isd9y hf9 hK h1', bd1_mk, if_neg one0, if_neg g2]) ⟨⟨n, v, hn, rfl, rfl, hv⟩, hP⟩
  have g2 : nI d ≤ nI n := nI_le h2 (by omega)
  have hT0 : TPQ 0 bytes tape 0 := ⟨0, v, by omega, rfl, rfl, fun i hi => absurd hi (Nat.not_lt_zero i)⟩
  obtain ⟨a1, a2, a3, a4⟩ := rP_p v d (by omega)
  obtain ⟨m, hm⟩ := fuN (d + 1) (by omega)
  obtain ⟨z8, e8, k8⟩ := rm4 (by8 := bytes) (v := v) (d := d) (by omega) (fun i hi => ⟨(hv i (by omega)).1, (hv i (by omega)).2.1⟩) d m 0 (by omega) (fun i hi => absurd hi (Nat.not_lt_zero i))
  obtain ⟨z9, e9, k9⟩ := pa35 (tp := tape) (v := v) (d := d) (by omega) (fun i hi => ⟨(hv i (by omega)).1, (hv i (by omega)).2.2⟩) d m 0 (by omega) (fun i hi => absurd hi (Nat.not_lt_zero i))
  have e8' : lpX6_readMoves_4 (nI d) bytes FU 1 0 = some z8 := by rw [hm]; exact e8
  rw [show uR (rP v 0) = 0 from (show uR 1 = 0 from rfl)] at e9
  have e9' : lpX9_path_35 (nI d) tape FU 0 0 = some z9 := by rw [hm]; exact e9
  by_cases g : okP v d
  · have q8 := k8.1 g
    have q9 := k9.1 g
    subst q8 q9
    obtain ⟨mv2, e2, k2⟩ := pa92 (tp := tape) (v := v) (d := d) (by omega) (fun i hi => ⟨(hv i (by omega)).1, (hv i (by omega)).2.2⟩) (nI (uR (rP v d))) d m 0 mv (by omega) (fun i hi => absurd hi (Nat.not_lt_zero i))
    have e2' : lpX9_path_92 (nI d) (nI (uR (rP v d))) tape FU 0 mv = some mv2 := by rw [hm]; exact e2
    refine Sx2.mk (r := nI (uR (rP v d))) (s1 := (0, nI (rP v d))) (s2 := (0, mv2, nI d)) ?_ ?_ ⟨hT0, rP v d, a1, a3, by omega, rfl, by rw [a4], fun i hi => ?_⟩
    · unfold fX8_path fX6_size fX6_readMoves fX6_clear
      rw [isd8y hf hK h1', bd1_mk, if_neg one0, bd1_mk, if_pos g2, e8', bd2_mk, if_neg (by decide), bd1_mk, bd1_mk, if_pos (show (1 : Int32) ≤ nI (rP v d) from nI_le (a := 1) a1 (by omega)), ups8 _ a3 a1, bd1_mk]
    · unfold fX9_path
      rw [isd9y hf9 hK h1', bd1_mk, if_neg one0, if_pos g2, e9', bd2_mk, if_neg (by decide), e2', bd1_mk]
    · rw [a4] at hi ⊢
      rw [rP_bit v d (by omega) i hi]
      exact k2 i hi
  · have q8 := k8.2 g
    have q9 := k9.2 g
    obtain ⟨y1, y2⟩ := z8
    obtain ⟨w1, w2⟩ := z9
    dsimp only at q8 q9
    subst q8 q9
    refine Sx2.mk (r := -2) (s1 := (0, row)) (s2 := (0, mv, moved)) ?_ ?_ ⟨hT0, hP⟩
    · unfold fX8_path fX6_size fX6_readMoves fX6_clear
      rw [isd8y hf hK h1', bd1_mk, if_neg one0, bd1_mk, if_pos g2, e8', bd2_mk, if_pos rfl, bd1_mk, bd1_mk, if_neg (by decide)]
    · unfold fX9_path
      rw [isd9y hf9 hK h1', bd1_mk, if_neg one0, if_pos g2, e9', bd2_mk, if_pos rfl]
end
section
/-! pure: alike, both sides (own rows) -/
def Df (τ β γ : Nat → Nat) (e : Nat) : Prop := lN (vR (prF τ (τ 1)) (τ 0) (τ 6) (τ 7) (τ 8) β (bV (prF τ (τ 1)) β) e) ≠ lN (vR (prF τ (τ 1)) (τ 0) (τ 6) (τ 7) (τ 8) γ (bV (prF τ (τ 1)) γ) e)
theorem dR_mono : ∀ a, a < 128 → ∀ b, b < 128 → 1 ≤ a → a ≤ b → dR a ≤ dR b := by decide +kernel
def rcN : Nat → Nat → Nat
  | 0, _ => 0
  | d + 1, r => rcN d (r / 2) + r % 2 * 2 ^ d
theorem rc_p : ∀ T, T < 7 → ∀ r, r < 128 → 1 ≤ r → dR r ≤ T → rcN (dR r) r < 2 ^ T ∧ pfx (rbF (rcN (dR r) r) T) (dR r) = r := by decide +kernel
theorem dq1 : ∀ x, x < 784 → (nI x / 16) - (nI x / 16) / 7 * 7 = nI (x / 16 % 7) ∧ (nI x / 8) - (nI x / 8) / 2 * 2 = nI (x / 8 % 2) ∧ nI x - nI x / 8 * 8 = nI (x % 8) := by decide +kernel
theorem aT_d (π : Nat → Nat → Nat) (β : Nat → Nat) {e : Nat} (h1 : 1 ≤ e) (h : e < 128) : aT π β e / 16 % 7 = uR e ∧ aT π β e / 8 % 2 = bR e ∧ aT π β e % 8 = mR π β e := by
  obtain ⟨⟨b1, b2, b3⟩, b4, b5, b6⟩ := row_b1 e h h1
  have hm := mR_lt π β e
  unfold aT atN
  generalize mR π β e = m at *
  generalize uR e = u at *
  generalize bR e = b at *
  generalize dR e = d at *
  have e1 : (((7 * d + u) * 2 + b) * 8 + m) / 16 = 7 * d + u := by omega
  have e2 : (((7 * d + u) * 2 + b) * 8 + m) / 8 = (7 * d + u) * 2 + b := by omega
  rw [e1, e2]
  omega
abbrev aP (τ β γ : Nat → Nat) (p : Int32) (v : Int32) : Prop := ((∀ e, 1 ≤ e → e < 128 → dR e ≤ τ 0 → ¬ Df τ β γ e) ∧ v = if p = 0 then 1 else -2) ∨ ∃ d, (∃ e, 1 ≤ e ∧ e < 128 ∧ dR e ≤ τ 0 ∧ Df τ β γ e ∧ dR e = d) ∧ (∀ e, 1 ≤ e → e < 128 → dR e ≤ τ 0 → Df τ β γ e → d ≤ dR e) ∧ v = if p = 0 then 0 else nI d
theorem aP_u (τ β γ : Nat → Nat) (p : Int32) (x y : Int32) (hx : aP τ β γ p x) (hy : aP τ β γ p y) : x = y := by
  rcases hx with ⟨a, rfl⟩ | ⟨d, ⟨e, e1, e2, e3, e4, e5⟩, g, rfl⟩
  · rcases hy with ⟨_, rfl⟩ | ⟨d', ⟨e', f1, f2, f3, f4, f5⟩, g', rfl⟩
    · rfl
    · exact absurd f4 (a e' f1 f2 f3)
  · rcases hy with ⟨a', rfl⟩ | ⟨d', ⟨e', f1, f2, f3, f4, f5⟩, g', rfl⟩
    · exact absurd e4 (a' e e1 e2 e3)
    · have h1 := g e' f1 f2 f3 f4
      have h2 := g' e e1 e2 e3 e4
      rw [show d = d' by omega]
theorem al63 {st : Nat → Int32} {τ β γ : Nat → Nat} (hc : TC st τ) (hT : TK τ) {va vb : Nat → Int64} (hva : ∀ e, 1 ≤ e → e < 2 * 2 ^ τ 0 → va e = lN (vR (prF τ (τ 1)) (τ 0) (τ 6) (τ 7) (τ 8) β (bV (prF τ (τ 1)) β) e)) (hvb : ∀ e, 1 ≤ e → e < 2 * 2 ^ τ 0 → vb e = lN (vR (prF τ (τ 1)) (τ 0) (τ 6) (τ 7) (τ 8) γ (bV (prF τ (τ 1)) γ) e)) (p : Int32) : ∀ (i n x : Nat), x + i = 2 * 2 ^ τ 0 → 1 ≤ x → Sx (lpX8_alike_63 p st va vb (n + i + 1) (nI x)) (fun z => (z.1 = 1 ∧ ∀ e, x ≤ e → e < 2 * 2 ^ τ 0 → ¬ Df τ β γ e) ∨ (z.1 = 0 ∧ ∃ e, x ≤ e ∧ e < 2 * 2 ^ τ 0 ∧ Df τ β γ e ∧ (∀ e', x ≤ e' → e' < e → ¬ Df τ β γ e') ∧ z.2 = nI e)) := by
  have hb2 := p2b (τ 0) (by omega)
  intro i
  induction i with
  | zero =>
    intro n x hi h1
    rw [lpX8_alike_63.eq_2, lr8' hc hT, bd1_mk, if_pos (nI_lt (by omega) (by omega))]
    exact Sx.mk (Or.inl ⟨rfl, fun e a b => by omega⟩)
  | succ i ih =>
    intro n x hi h1
    rw [lpX8_alike_63.eq_2, lr8' hc hT, bd1_mk, if_neg (nI_nlt (by omega) (by omega)), va8 h1 (by omega), bd1_mk, va8 h1 (by omega), bd1_mk, hva x h1 (by omega), hvb x h1 (by omega)]
    by_cases g : lN (vR (prF τ (τ 1)) (τ 0) (τ 6) (τ 7) (τ 8) β (bV (prF τ (τ 1)) β) x) = lN (vR (prF τ (τ 1)) (τ 0) (τ 6) (τ 7) (τ 8) γ (bV (prF τ (τ 1)) γ) x)
    · rw [if_pos g, nm_mk, nI_1, show n + (i + 1) = n + i + 1 by omega]
      refine (ih n (x + 1) (by omega) (by omega)).imp ?_
      rintro z (⟨z1, h⟩ | ⟨z1, e, a, b, c, d, f⟩)
      · refine Or.inl ⟨z1, fun e a b => ?_⟩
        by_cases q : e = x
        · rw [q]; exact fun z => z g
        · exact h e (by omega) b
      · refine Or.inr ⟨z1, e, by omega, b, c, fun e' a' b' => ?_, f⟩
        by_cases q : e' = x
        · rw [q]; exact fun z => z g
        · exact d e' (by omega) b'
    · rw [if_neg g]
      exact Sx.mk (Or.inr ⟨rfl, x, Nat.le_refl x, by omega, g, fun e' a b => by omega, rfl⟩)
theorem al34 (a1 a2 a3 : Int32) (wo : Nat → Int64) : ∀ (i n x : Nat) (ot : Nat → Int64), x + i = 784 → (∀ y, y < x → ot y = wo y) → Sx (lpX9_alike_34 a1 a2 a3 wo (n + i + 1) (nI x) ot) (fun z => ∀ y, y < 784 → z y = wo y) := by
  intro i
  induction i with
  | zero =>
    intro n x ot hi h
    rw [lpX9_alike_34.eq_2, if_pos (show (784 : Int32) ≤ nI x from nI_le (a := 784) (by omega) (by omega))]
    exact Sx.mk (fun y hy => h y (by omega))
  | succ i ih =>
    intro n x ot hi h
    rw [lpX9_alike_34.eq_2, if_neg (show ¬ (784 : Int32) ≤ nI x from nI_ge (b := 784) (by omega) (by omega)), og32 (by omega) (by omega), og32 (by omega) (by omega), nm_mk, nm_mk, nI_1, nI_clamp (by omega), show n + (i + 1) = n + i + 1 by omega]
    refine ih n (x + 1) _ (by omega) (fun y hy => ?_)
    rw [upL]
    by_cases e : y = x
    · rw [if_pos e, e]
    · rw [if_neg e]; exact h y (by omega)
theorem thE {bs : Nat → Int32} {pe' : Nat → Int64} {τ β : Nat → Nat} {k : Nat} (hb : RB bs k β) (hK : BK β) (hT : TK τ) (hP : RP pe' (τ 0) (prF τ (τ 1))) {e b : Nat} (e1 : 1 ≤ e) (e2 : e < 64) (hbb : b < 2) (ed : dR e < τ 0) : fX9_then (nI k) (nI (dR e)) ((nI (aT (prF τ (τ 1)) β e) / 16) - (nI (aT (prF τ (τ 1)) β e) / 16) / 7 * 7) ((nI (aT (prF τ (τ 1)) β e) / 8) - (nI (aT (prF τ (τ 1)) β e) / 8) / 2 * 2) (nI (aT (prF τ (τ 1)) β e) - nI (aT (prF τ (τ 1)) β e) / 8 * 8) (nI b) bs pe' = some (nI (aT (prF τ (τ 1)) β (2 * e + b))) := by
  have hl := aT_lt (prF τ (τ 1)) β e1 (by omega : e < 128)
  obtain ⟨q1, q2, q3⟩ := dq1 _ hl
  obtain ⟨d1, d2, d3⟩ := aT_d (prF τ (τ 1)) β e1 (by omega : e < 128)
  obtain ⟨s1, s2, s3, s4⟩ := row_s e e2 e1 b hbb
  rw [q1, q2, q3, d1, d2, d3, th9 hb hK (prF_PK hT (by omega)) hP (by omega) _ (row_b1 e (by omega) e1).1.2.1 (mR_lt _ _ _) hbb ed]
  unfold aT
  rw [s1, s2, s3, mR_s _ _ e1 e2 hbb]
theorem al110 {bs : Nat → Int32} {pe' wo ot : Nat → Int64} {τ β γ : Nat → Nat} {k l : Nat} (hb : RB bs k β) (hK : BK β) (hc : RB bs l γ) (hL : BK γ) (hT : TK τ) (hP : RP pe' (τ 0) (prF τ (τ 1))) (ho : ∀ e, 1 ≤ e → e < 128 → dR e ≤ τ 0 → ot (aT (prF τ (τ 1)) β e) = lN (vR (prF τ (τ 1)) (τ 0) (τ 6) (τ 7) (τ 8) β (bV (prF τ (τ 1)) β) e)) (hw : ∀ e, 1 ≤ e → e < 128 → dR e ≤ τ 0 → wo (aT (prF τ (τ 1)) γ e) = lN (vR (prF τ (τ 1)) (τ 0) (τ 6) (τ 7) (τ 8) γ (bV (prF τ (τ 1)) γ) e)) (p : Int32) {c d0 : Nat} (hcc : c < 64) (hd0 : d0 ≤ 7) : ∀ (i n t : Nat), t + i = τ 0 → Sx (lpX9_alike_110 (nI k) (nI l) p (nI d0) (nI c) bs (nI (τ 0)) pe' wo ot (n + i + 1) (nI (aT (prF τ (τ 1)) β (pfx (rbF c (τ 0)) t))) (nI (aT (prF τ (τ 1)) γ (pfx (rbF c (τ 0)) t))) (nI t)) (fun z => ∃ y, z.2 = nI y ∧ y ≤ τ 0 + 1 ∧ (y ≤ τ 0 → y < d0 → Df τ β γ (pfx (rbF c (τ 0)) y)) ∧ (∀ s, t ≤ s → s < y → s ≤ τ 0 → s < d0 → ¬ Df τ β γ (pfx (rbF c (τ 0)) s))) := by
  obtain ⟨r1, r2, r3⟩ := rb_p c hcc (τ 0) (by omega)
  intro i
  induction i with
  | zero =>
    intro n t hi
    obtain ⟨g1, g2, g3⟩ := pf1 _ r2 r1 t (by omega) (by omega)
    have l1 := aT_lt (prF τ (τ 1)) β g2 g3
    have l2 := aT_lt (prF τ (τ 1)) γ g2 g3
    rw [lpX9_alike_110.eq_2]
    by_cases h0 : d0 ≤ t
    · rw [if_pos (nI_le h0 (by omega))]
      exact Sx.mk ⟨t, rfl, by omega, fun _ _ => by omega, fun s _ _ _ _ => by omega⟩
    rw [if_neg (nI_ge (by omega) (by omega)), og32 l1 (by omega), og32 l2 (by omega), nI_clamp (by omega), nI_clamp (by omega), ho _ g2 g3 (by omega), hw _ g2 g3 (by omega)]
    by_cases g : lN (vR (prF τ (τ 1)) (τ 0) (τ 6) (τ 7) (τ 8) β (bV (prF τ (τ 1)) β) (pfx (rbF c (τ 0)) t)) = lN (vR (prF τ (τ 1)) (τ 0) (τ 6) (τ 7) (τ 8) γ (bV (prF τ (τ 1)) γ) (pfx (rbF c (τ 0)) t))
    · rw [if_pos g, nm_mk, nI_1, if_neg (nI_ge (by omega) (by omega))]
      refine Sx.mk ⟨t + 1, rfl, by omega, fun _ _ => by omega, fun s a b _ _ => ?_⟩
      rw [show s = t by omega]; exact fun z => z g
    · rw [if_neg g]
      exact Sx.mk ⟨t, rfl, by omega, fun _ _ => g, fun s _ _ _ _ => by omega⟩
  | succ i ih =>
    intro n t hi
    obtain ⟨g1, g2, g3⟩ := pf1 _ r2 r1 t (by omega) (by omega)
    obtain ⟨m1, m2⟩ := pf2 _ r2 r1 t (by omega) (by omega)
    rw [r3, rb_b c hcc (τ 0) (by omega) t (by omega) (by omega)] at m1
    have l1 := aT_lt (prF τ (τ 1)) β g2 g3
    have l2 := aT_lt (prF τ (τ 1)) γ g2 g3
    rw [lpX9_alike_110.eq_2]
    by_cases h0 : d0 ≤ t
    · rw [if_pos (nI_le h0 (by omega))]
      exact Sx.mk ⟨t, rfl, by omega, fun _ _ => by omega, fun s _ _ _ _ => by omega⟩
    rw [if_neg (nI_ge (by omega) (by omega)), og32 l1 (by omega), og32 l2 (by omega), nI_clamp (n := aT (prF τ (τ 1)) β (pfx (rbF c (τ 0)) t)) (by omega), nI_clamp (n := aT (prF τ (τ 1)) γ (pfx (rbF c (τ 0)) t)) (by omega), ho _ g2 g3 (by omega), hw _ g2 g3 (by omega)]
    by_cases g : lN (vR (prF τ (τ 1)) (τ 0) (τ 6) (τ 7) (τ 8) β (bV (prF τ (τ 1)) β) (pfx (rbF c (τ 0)) t)) = lN (vR (prF τ (τ 1)) (τ 0) (τ 6) (τ 7) (τ 8) γ (bV (prF τ (τ 1)) γ) (pfx (rbF c (τ 0)) t))
    · have e1 := thE hb hK hT hP g2 m2 (show c / 2 ^ t % 2 < 2 by omega) (by omega)
      have e2 := thE hc hL hT hP g2 m2 (show c / 2 ^ t % 2 < 2 by omega) (by omega)
      rw [g1] at e1 e2
      rw [if_pos g, nm_mk, nI_1, if_pos (nI_le (by omega) (by omega)), nm_mk, i_1, pk_sub (by omega), Nat.add_sub_cancel, show (nI 1 : Int32) = 1 from rfl, bt_b c hcc t (by omega), e1, bd1_mk, e2, bd1_mk, ← m1, show n + (i + 1) = n + i + 1 by omega]
      refine (ih n (t + 1) (by omega)).imp ?_
      rintro z ⟨y, y1, y2, y3, y4⟩
      refine ⟨y, y1, y2, y3, fun s a b a' b' => ?_⟩
      by_cases q : s = t
      · rw [q]; exact fun z => z g
      · exact y4 s (by omega) b a' b'
    · rw [if_neg g]
      exact Sx.mk ⟨t, rfl, by omega, fun _ _ => g, fun s _ _ _ _ => by omega⟩
abbrev Mn (τ β γ : Nat → Nat) (c d : Nat) : Prop := d ≤ 7 ∧ (d < 7 → ∃ e, 1 ≤ e ∧ e < 128 ∧ dR e ≤ τ 0 ∧ Df τ β γ e ∧ dR e = d) ∧ (∀ c', c' < c → ∀ s, s ≤ τ 0 → Df τ β γ (pfx (rbF c' (τ 0)) s) → d ≤ s)
theorem al74 {bs : Nat → Int32} {pe' wo ot : Nat → Int64} {τ β γ : Nat → Nat} {k l : Nat} (hb : RB bs k β) (hK : BK β) (hc : RB bs l γ) (hL : BK γ) (hT : TK τ) (hP : RP pe' (τ 0) (prF τ (τ 1))) (ho : ∀ e, 1 ≤ e → e < 128 → dR e ≤ τ 0 → ot (aT (prF τ (τ 1)) β e) = lN (vR (prF τ (τ 1)) (τ 0) (τ 6) (τ 7) (τ 8) β (bV (prF τ (τ 1)) β) e)) (hw : ∀ e, 1 ≤ e → e < 128 → dR e ≤ τ 0 → wo (aT (prF τ (τ 1)) γ e) = lN (vR (prF τ (τ 1)) (τ 0) (τ 6) (τ 7) (τ 8) γ (bV (prF τ (τ 1)) γ) e)) (p : Int32) : ∀ (i n c d : Nat) (s1 s2 s3 s4 : Int32), c + i = 2 ^ τ 0 → Mn τ β γ c d → Sx (lpX9_alike_74 (nI k) (nI l) p bs (nI (τ 0)) pe' wo ot (n + i + 1) (nI d) (nI c) s1 s2 s3 s4) (fun z => ∃ d', z.1 = nI d' ∧ Mn τ β γ (2 ^ τ 0) d') := by
  have hb2 := p2b (τ 0) (by omega)
  have hp := prF_PK hT (show τ 1 ≤ 1000 by omega)
  intro i
  induction i with
  | zero =>
    intro n c d s1 s2 s3 s4 hi hM
    rw [lpX9_alike_74.eq_2, sh1T _ (by omega), if_pos (nI_le (by omega) (by omega))]
    exact Sx.mk ⟨d, rfl, by rw [← show c = 2 ^ τ 0 by omega]; exact hM⟩
  | succ i ih =>
    intro n c d s1 s2 s3 s4 hi hM
    obtain ⟨r1, r2, r3⟩ := rb_p c (by omega) (τ 0) (by omega)
    obtain ⟨M1, M2, M3⟩ := hM
    obtain ⟨n', hn'⟩ := fuN (τ 0 + 1) (by omega)
    have h110 := al110 hb hK hc hL hT hP ho hw p (c := c) (d0 := d) (by omega) M1 (τ 0) n' 0 (by omega)
    rw [pf0 _ r2 r1] at h110
    rw [lpX9_alike_74.eq_2, sh1T _ (by omega), if_neg (nI_ge (by omega) (by omega)), sta9 hb hK hp hP (by omega), bd4_mk, hn9, bd1_mk, sta9 hc hL hp hP (by omega), bd4_mk, hn9, bd1_mk, hn', show n' + (τ 0 + 1) = n' + τ 0 + 1 by omega]
    refine Sx.b2 (show Sx (lpX9_alike_110 (nI k) (nI l) p (nI d) (nI c) bs (nI (τ 0)) pe' wo ot (n' + τ 0 + 1) (nI (aT (prF τ (τ 1)) β 1)) (nI (aT (prF τ (τ 1)) γ 1)) 0) _ from h110) ?_
    rintro tg y' ⟨y, rfl, y2, y3, y4⟩
    have nxt : (if nI (τ 0) < nI y then some (nI d) else if nI d ≤ nI y then some (nI d) else some (nI y)) = some (nI (if τ 0 < y then d else if d ≤ y then d else y)) := by
      by_cases q : τ 0 < y
      · rw [if_pos (nI_lt q (by omega)), if_pos q]
      · rw [if_neg (nI_nlt (by omega) (by omega)), if_neg q]
        by_cases q2 : d ≤ y
        · rw [if_pos (nI_le q2 (by omega)), if_pos q2]
        · rw [if_neg (nI_ge (by omega) (by omega)), if_neg q2]
    have hM' : Mn τ β γ (c + 1) (if τ 0 < y then d else if d ≤ y then d else y) := by
      by_cases q : τ 0 < y
      · rw [if_pos q]
        refine ⟨M1, M2, fun c' hc' s hs hD => ?_⟩
        by_cases e : c' = c
        · subst e
          by_cases g : s < d
          · exact absurd hD (y4 s (Nat.zero_le s) (by omega) hs g)
          · omega
        · exact M3 c' (by omega) s hs hD
      rw [if_neg q]
      by_cases q2 : d ≤ y
      · rw [if_pos q2]
        refine ⟨M1, M2, fun c' hc' s hs hD => ?_⟩
        by_cases e : c' = c
        · subst e
          by_cases g : s < d
          · exact absurd hD (y4 s (Nat.zero_le s) (by omega) hs g)
          · omega
        · exact M3 c' (by omega) s hs hD
      · rw [if_neg q2]
        obtain ⟨g1, g2, g3⟩ := pf1 _ r2 r1 y (by omega) (by omega)
        refine ⟨by omega, fun _ => ⟨_, g2, g3, by omega, y3 (by omega) (by omega), g1⟩, fun c' hc' s hs hD => ?_⟩
        by_cases e : c' = c
        · subst e
          by_cases g : s < y
          · exact absurd hD (y4 s (Nat.zero_le s) g hs (by omega))
          · omega
        · have := M3 c' (by omega) s hs hD
          omega
    by_cases w : tg = 0
    · rw [if_pos w, nxt, bd1_mk, nm_mk, nI_1, show n + (i + 1) = n + i + 1 by omega]
      exact ih n (c + 1) _ _ _ _ _ (by omega) hM'
    · rw [if_neg w, nxt, bd1_mk, nm_mk, nI_1, show n + (i + 1) = n + i + 1 by omega]
      exact ih n (c + 1) _ _ _ _ _ (by omega) hM'
theorem q_alike {tr b0 b1 b2 tree bs : Nat → Int32} {τ : Nat → Nat} {B : Nat → Nat → Nat} (hf : TC tr τ) (hf9 : TR tree 0 τ) (hT : TK τ) (hB : CB3 b0 b1 b2 B) (hb9 : ∀ k, k < 3 → RB bs k (B k)) (p1 p2 p3 : Int32) (st sb : Nat → Int32) (pu pe tu ca ho va : Nat → Int64) (ma ac : Nat → Int32) (ut ub : Nat → Int32) (upu upe utu uca uho uva : Nat → Int64) (uma uac : Nat → Int32) (x0 x1 x2 x3 : Int32) (pe9 : Nat → Int64) (a9 b9 : Int64) (wo9 ho9 : Nat → Int64) (ac9 : Nat → Int32) (s1 s2 s3 s4 : Int32) (ot : Nat → Int64) : Sx2 (fX8_alike p1 p2 p3 tr b0 b1 b2 st sb pu pe tu ca ho va ma ac ut ub upu upe utu uca uho uva uma uac) (fX9_alike p1 p2 p3 tree bs x0 x1 x2 x3 pe9 a9 b9 wo9 ho9 ac9 s1 s2 s3 s4 ot) (fun _ _ => True) := by
  by_cases h1 : inr p1 0 2
  rotate_left
  · exact Sx2.mk (by unfold fX8_alike; rw [isb8n h1, bd1_mk, if_pos rfl]) (by unfold fX9_alike; rw [isb9n h1, bd1_mk, if_pos rfl]) (trivial)
  by_cases h2 : inr p2 0 2
  rotate_left
  · exact Sx2.mk (by unfold fX8_alike; rw [isb8y h1, bd1_mk, if_neg one0, isb8n h2, bd1_mk, if_pos rfl]) (by unfold fX9_alike; rw [isb9y h1, bd1_mk, if_neg one0, isb9n h2, bd1_mk, if_pos rfl]) (trivial)
  by_cases h3 : inr p3 0 1
  rotate_left
  · exact Sx2.mk (by unfold fX8_alike; rw [isb8y h1, bd1_mk, if_neg one0, isb8y h2, bd1_mk, if_neg one0, wi0 h3, bd1_mk, if_pos rfl]) (by unfold fX9_alike; rw [isb9y h1, bd1_mk, if_neg one0, isb9y h2, bd1_mk, if_neg one0, in0 h3, bd1_mk, if_pos rfl]) (trivial)
  obtain ⟨k, rfl, _, hk, _⟩ := inr_n h1 (by decide)
  obtain ⟨l, rfl, _, hl, _⟩ := inr_n h2 (by decide)
  have hk3 : k < 3 := by omega
  have hl3 : l < 3 := by omega
  have hb2 := p2b (τ 0) (by omega)
  have hp := prF_PK hT (show τ 1 ≤ 1000 by omega)
  refine Sx2.rel (P := aP τ (B k) (B l) p3) (Q := fun _ => True) (aP_u _ _ _ _) ?_ ?_
  · unfold fX8_alike
    rw [isb8y h1, bd1_mk, if_neg one0, isb8y h2, bd1_mk, if_neg one0, wi1 h3, bd1_mk, if_neg one0]
    refine Sx.b10 (wo8 hk3 hf hT hB st sb pu pe tu ca ho va ma ac) ?_
    rintro c0 c1 c2 c3 c4 c5 c6 c7 c8 c9 ⟨hc, hcb, hsb⟩
    dsimp only at hc hcb hsb ⊢
    rw [og32 hl3 (by omega), sel8 hl3, bd2_mk]
    refine Sx.b8 (pb8 hf.cpy hT (hB l hl3).1.cpy (hB l hl3).2 _ _ _ _ _ _ _ _) ?_
    intro f0 f1 f2 f3 f4 f5 f6 f7 hsb2
    dsimp only at hsb2
    obtain ⟨n, hn⟩ := fuN (2 * 2 ^ τ 0) (by omega)
    rw [hn, show n + 2 * 2 ^ τ 0 = n + (2 * 2 ^ τ 0 - 1) + 1 by omega]
    refine Sx.b2 (show Sx (lpX8_alike_63 p3 c0 c7 f5 (n + (2 * 2 ^ τ 0 - 1) + 1) 1) _ from al63 hc hT (fun e e1 e2 => (hsb.2 e e1 e1 e2).1) (fun e e1 e2 => (hsb2.2 e e1 e1 e2).1) p3 (2 * 2 ^ τ 0 - 1) n 1 (by omega) (by omega)) ?_
    rintro z0 z1 (⟨rfl, h⟩ | ⟨rfl, e, e1, e2, e3, e4, rfl⟩)
    · have all : ∀ e, 1 ≤ e → e < 128 → dR e ≤ τ 0 → ¬ Df τ (B k) (B l) e := fun e a b c => h e a (row_T hT a b c)
      rw [if_neg (by decide)]
      by_cases g : p3 = 0
      · rw [if_pos g, bd1_mk]; exact Sx.mk (Or.inl ⟨all, (if_pos g).symm⟩)
      · rw [if_neg g, bd1_mk]; exact Sx.mk (Or.inl ⟨all, (if_neg g).symm⟩)
    · have eT : dR e ≤ τ 0 := by
        have := (row_b1 e (by omega) e1).2.2.1
        by_cases q : dR e ≤ τ 0
        · exact q
        · have := Nat.pow_le_pow_right (show 0 < 2 by omega) (show τ 0 + 1 ≤ dR e by omega)
          rw [Nat.pow_succ] at this
          omega
      have least : ∀ e', 1 ≤ e' → e' < 128 → dR e' ≤ τ 0 → Df τ (B k) (B l) e' → dR e ≤ dR e' := fun e' a b c d => by
        by_cases q : e' < e
        · exact absurd d (e4 e' a q)
        · exact dR_mono e (by omega) e' b e1 (by omega)
      rw [if_pos rfl]
      by_cases g : p3 = 0
      · rw [if_pos g, bd1_mk]; exact Sx.mk (Or.inr ⟨dR e, ⟨e, e1, by omega, eT, e3, rfl⟩, least, (if_pos g).symm⟩)
      · rw [if_neg g, day8 e (by omega) e1, bd1_mk, bd1_mk]; exact Sx.mk (Or.inr ⟨dR e, ⟨e, e1, by omega, eT, e3, rfl⟩, least, (if_neg g).symm⟩)
  · unfold fX9_alike
    rw [isb9y h1, bd1_mk, if_neg one0, isb9y h2, bd1_mk, if_neg one0, in1 h3, bd1_mk, if_neg one0]
    refine Sx.b10 (pn9 hf9 hT hk3 (hb9 k hk3) (hB k hk3).2 x0 x1 x2 x3 pe9 a9 b9 wo9 ho9 ac9) ?_
    rintro d0 d1 d2 d3 pe' d5 d6 d7 d8 d9 ⟨rfl, rfl, rfl, rfl, hP, hG⟩
    dsimp only at hP hG ⊢
    obtain ⟨n, hn⟩ := fuB 785 (by omega)
    obtain ⟨n', hn'⟩ := fuN (2 ^ τ 0 + 1) (by omega)
    refine Sx.b1 (P := fun z => ∀ y, y < 784 → z y = d7 y) (by rw [hn]; exact al34 (nI k) (nI l) p3 d7 784 n 0 ot (by omega) (fun y hy => absurd hy (Nat.not_lt_zero y))) ?_
    intro o1 ho1
    refine Sx.b3 (pl9 (hb9 l hl3) (hB l hl3).2 hp hP hT.n d7 d8 d9) ?_
    intro g0 g1 g2 hG2
    dsimp only at hG2
    have hM : Mn τ (B k) (B l) 0 7 := ⟨Nat.le_refl 7, fun h => absurd h (by omega), fun c' h => absurd h (Nat.not_lt_zero c')⟩
    rw [hn', show n' + (2 ^ τ 0 + 1) = n' + 2 ^ τ 0 + 1 by omega]
    refine Sx.b5 (show Sx (lpX9_alike_74 (nI k) (nI l) p3 bs (nI (τ 0)) pe' g0 o1 (n' + 2 ^ τ 0 + 1) 7 0 s1 s2 s3 s4) _ from al74 (hb9 k hk3) (hB k hk3).2 (hb9 l hl3) (hB l hl3).2 hT hP (fun e a b c => by rw [ho1 _ (aT_lt _ _ a b)]; exact (GD.r hG a b c).1) (fun e a b c => (GD.r hG2 a b c).1) p3 (2 ^ τ 0) n' 0 7 s1 s2 s3 s4 (by omega) hM) ?_
    rintro z0 z1 z2 z3 z4 ⟨d, rfl, M1, M2, M3⟩
    have least : ∀ e, 1 ≤ e → e < 128 → dR e ≤ τ 0 → Df τ (B k) (B l) e → d ≤ dR e := fun e a b c q => by
      obtain ⟨q1, q2⟩ := rc_p (τ 0) (by omega) e b a c
      exact M3 _ q1 (dR e) c (by rw [q2]; exact q)
    by_cases g7 : d = 7
    · have none : ∀ e, 1 ≤ e → e < 128 → dR e ≤ τ 0 → ¬ Df τ (B k) (B l) e := fun e a b c q => by
        have := least e a b c q
        omega
      rw [if_pos (show nI d = (7 : Int32) by rw [g7]; rfl), if_pos (show nI d = (7 : Int32) by rw [g7]; rfl)]
      by_cases g : p3 = 0
      · rw [if_pos g, bd1_mk]; exact Sx.mk ⟨Or.inl ⟨none, (if_pos g).symm⟩, trivial⟩
      · rw [if_neg g, bd1_mk]; exact Sx.mk ⟨Or.inl ⟨none, (if_neg g).symm⟩, trivial⟩
    · have n7 : ¬ nI d = (7 : Int32) := fun z => g7 ((nI_eq (b := 7) (by omega) (by omega)).mp z)
      have hd := M2 (by omega)
      rw [if_neg n7, if_neg n7]
      by_cases g : p3 = 0
      · rw [if_pos g, bd1_mk]; exact Sx.mk ⟨Or.inr ⟨d, hd, least, (if_pos g).symm⟩, trivial⟩
      · rw [if_neg g, bd1_mk]; exact Sx.mk ⟨Or.inr ⟨d, hd, least, (if_neg g).symm⟩, trivial⟩
end
section
/-! pure: what an act gives, for the hand too (own rows) -/
def enC (τ β : Nat → Nat) (r : Nat) (p2 : Int32) : Nat := (if p2 = 0 then (if dR r = τ 0 then β 0 else hR (prF τ (τ 1)) (τ 0) (τ 6) (τ 7) (τ 8) β (bV (prF τ (τ 1)) β) r) + 1 else if p2 = 1 then (if dR r = τ 0 then 0 else puL β (dR r)) else if p2 = 2 then tuS (prF τ (τ 1)) β (dR r) (uR r) (bR r) else (if dR r = τ 0 then 0 else cdF (prF τ (τ 1)) β r))
theorem gi8x {st c1 : Nat → Int32} {τ β : Nat → Nat} (hc : TC st τ) (hT : TK τ) (hcb : CB c1 β) (hK : BK β) {c3 c4 c5 c6 c7 : Nat → Int64} {c8 c9 : Nat → Int32} (hsb : SB τ β c3 c4 c5 c6 c7 c8 c9) {r : Nat} (r1 : 1 ≤ r) (r2 : r < 128) (rd : dR r ≤ τ 0) (p2 : Int32) : fX5_givesInstead (nI r) p2 st c1 c4 c5 c6 = some (giN (enC τ β r p2) (cpF β (dR r))) := by
  have hp := prF_PK hT (show τ 1 ≤ 1000 by omega)
  have hd6 := (row_b1 r r2 r1).1.1
  have y1 := puL_le hK (dR r)
  have y2 := cd_le hp hK r
  have y3 := tuS_le hp hK (dR r) (uR r) (bR r)
  have y4 := hK.1
  have y5 : hR (prF τ (τ 1)) (τ 0) (τ 6) (τ 7) (τ 8) β (bV (prF τ (τ 1)) β) r ≤ 64000000007000 := Nat.le_trans (hG_b hp hK hT.n (bV_SK hp hK) (by omega) _ _) (by omega)
  have y6 := cpF_le hK (dR r)
  have r3 := row_T hT r1 r2 rd
  unfold enC
  unfold fX5_givesInstead fX0_face
  obtain ⟨v1, v2, v3⟩ := hsb.2 r r1 r1 r3
  obtain ⟨u1, u2, u3, u4⟩ := hsb.1 r r1 r3
  have key : ∀ e, e < 2 ^ 62 → bd1 (if 0 ≤ lC e then bd1 (fX0_couponOn (nI (dR r)) c1) (fun r17 => some ((Int32.toInt64 r17) + lC e)) else some (-2)) (fun (j14 : Int64) => some (j14)) = some (giN e (cpF β (dR r))) := fun e he => gi8 hcb hK hd6 he
  rw [day8 r r2 r1, bd1_mk, ld8 hc hT, bd1_mk]
  by_cases hd : dR r = τ 0
  · rw [if_neg (nI_nlt (by omega) (by omega)), bd1_mk, if_pos hd, if_pos hd, if_pos hd]
    by_cases g0 : p2 = 0
    · rw [if_pos g0, if_pos g0, if_neg one0, bd1_mk, bd1_mk, bd1_mk, cl_0, hcb.1.1.1, nI_l (by omega), ← lC_s, key _ (by omega)]
    rw [if_neg g0, if_neg g0]
    by_cases g1 : p2 = 1
    · rw [if_pos g1, if_pos g1, if_neg one0, bd1_mk, bd1_mk, show (-2 : Int64) = lC 0 from rfl]
      rw [show (lC 0) = (-2 : Int64) from rfl]
      rfl
    rw [if_neg g1, if_neg g1]
    by_cases g2 : p2 = 2
    · rw [if_pos g2, if_pos g2, tuA8 r1 r2, bd1_mk, bd1_mk, u2, key _ (by omega)]
    · rw [if_neg g2, if_neg g2, if_neg one0, bd1_mk, bd1_mk]
      rfl
  · rw [if_pos (nI_lt (by omega) (by omega)), bd1_mk, if_neg hd, if_neg hd, if_neg hd]
    rw [if_neg hd] at v2
    by_cases g0 : p2 = 0
    · rw [if_pos g0, if_pos g0, if_pos rfl, hoA8 r1 r2, bd1_mk, bd1_mk, bd1_mk, v2, ← lC_s, key _ (by omega)]
    rw [if_neg g0, if_neg g0]
    by_cases g1 : p2 = 1
    · rw [if_pos g1, if_pos g1, if_pos rfl, pu8 hcb hd6, bd1_mk, bd1_mk, bd1_mk, iC_l (by omega), key _ (by omega)]
    rw [if_neg g1, if_neg g1]
    by_cases g2 : p2 = 2
    · rw [if_pos g2, if_pos g2, tuA8 r1 r2, bd1_mk, bd1_mk, u2, key _ (by omega)]
    · rw [if_neg g2, if_neg g2, if_pos rfl, caA8 r1 r2, bd1_mk, bd1_mk, bd1_mk, u3, key _ (by omega)]
theorem gb9x {bs : Nat → Int32} {pe' d7 d8 : Nat → Int64} {d9 : Nat → Int32} {τ β : Nat → Nat} {k : Nat} (hb : RB bs k β) (hK : BK β) (hT : TK τ) (hP : RP pe' (τ 0) (prF τ (τ 1))) (hG : GD (prF τ (τ 1)) (τ 0) (τ 6) (τ 7) (τ 8) β (fun _ _ _ _ => True) d7 d8 d9) {r : Nat} (r1 : 1 ≤ r) (r2 : r < 128) (rd : dR r ≤ τ 0) (p2 : Int32) : fX9_givesBy (nI k) p2 bs (nI (τ 0)) pe' d8 (nI (dR r)) (nI (uR r)) (nI (bR r)) (nI (mR (prF τ (τ 1)) β r)) = some (giN (enC τ β r p2) (cpF β (dR r))) := by
  have hp := prF_PK hT (show τ 1 ≤ 1000 by omega)
  have hd6 := (row_b1 r r2 r1).1.1
  have y1 := puL_le hK (dR r)
  have y2 := cd_le hp hK r
  have y3 := tuS_le hp hK (dR r) (uR r) (bR r)
  have y4 := hK.1
  have y5 : hR (prF τ (τ 1)) (τ 0) (τ 6) (τ 7) (τ 8) β (bV (prF τ (τ 1)) β) r ≤ 64000000007000 := Nat.le_trans (hG_b hp hK hT.n (bV_SK hp hK) (by omega) _ _) (by omega)
  have y6 := cpF_le hK (dR r)
  have hl := aT_lt (prF τ (τ 1)) β r1 r2
  have key : ∀ e, e ≠ 0 → Int32.toInt64 (nI (cpF β (dR r))) + lN (e - 1) = giN e (cpF β (dR r)) := fun e he => by unfold giN; rw [if_neg he, nI_l (by omega), lN_add]
  have g0' : giN 0 (cpF β (dR r)) = -2 := rfl
  obtain ⟨v1, v2, v3⟩ := GD.r hG r1 r2 rd
  have hoS' := (okR (prF τ (τ 1)) β r1 r2).1
  unfold enC fX9_givesBy
  rw [cp9 hb hd6, bd1_mk, nm_mk]
  by_cases g0 : p2 = 0
  · rw [if_pos g0, if_pos g0, hn9, bd1_mk, og32 hl (by omega), nI_clamp (by omega), v2, ← key _ (by omega), Nat.add_sub_cancel]
    by_cases hd : dR r = τ 0
    · rw [if_pos hd, if_pos hd]
    · rw [if_neg hd, if_neg hd]
  rw [if_neg g0, if_neg g0]
  by_cases g1 : p2 = 1
  · rw [if_pos g1, if_pos g1]
    by_cases hd : dR r = τ 0
    · rw [if_pos hd, g0', hd, pu9T (by omega), bd1_mk, if_pos rfl, bd1_mk]
    · rw [if_neg hd, pu9 hb (by omega) (by omega), bd1_mk]
      by_cases g : puL β (dR r) = 0
      · rw [g, if_pos (show iM 0 = -1 from rfl), bd1_mk, g0']
      · rw [if_neg (fun z => g ((iM_m1 (by omega)).mp z)), bd1_mk, bd1_mk, iM_l (by omega), lM_1 g, key _ g]
  rw [if_neg g1, if_neg g1]
  by_cases g2 : p2 = 2
  · rw [if_pos g2, if_pos g2, wi9 hb hK hd6, bd1_mk]
    by_cases g : inW β (dR r)
    · have z : tuS (prF τ (τ 1)) β (dR r) (uR r) (bR r) ≠ 0 := by unfold tuS tuF; rw [if_pos g]; omega
      rw [if_pos g, if_neg one0, tu9 hb hK hp hP (by omega) hoS' rd, bd1_mk, bd1_mk, lM_1 z, key _ z]
    · have z : tuS (prF τ (τ 1)) β (dR r) (uR r) (bR r) = 0 := by unfold tuS tuF; rw [if_neg g]
      rw [if_neg g, if_pos rfl, bd1_mk, z, g0']
  · rw [if_neg g2, if_neg g2]
    by_cases hd : dR r = τ 0
    · unfold fX9_isFree
      rw [if_pos hd, g0', hd, ca9T (by omega), bd1_mk, if_pos rfl, bd1_mk, og_mk _ (by decide), bd1_mk, if_pos rfl, bd1_mk]
    · rw [if_neg hd, fr9 hb hK (by omega) (by omega) (mR_lt _ _ _), bd1_mk]
      by_cases g : frF β (dR r) (mR (prF τ (τ 1)) β r)
      · have z : cgS (prF τ (τ 1)) β (dR r) (uR r) (bR r) ≠ 0 := by unfold cgS; have := g.1; omega
        rw [if_pos g, if_neg one0, cg9 hb hK hp hP (by omega) hoS' (by omega), bd1_mk, bd1_mk, cd_s g, lM_1 z, key _ z]
      · rw [if_neg g, if_pos rfl, bd1_mk, cd_0.mpr g, g0']
theorem tky8 (st sb d1 d2 : Nat → Int32) : fX5_take st sb d1 d2 = some (va_cpy d1 st 0 0 9, va_cpy d2 sb 0 0 36) := by
  unfold fX5_take fX7_takeFrom fX0_takeFrom
  rw [cl_0, cl_9, cl_36]; rfl
theorem wh8 {htr hbt : Nat → Int32} {τ β : Nat → Nat} (hf : TC htr τ) (hT : TK τ) (hb : CB hbt β) (hK : BK β) (st sb : Nat → Int32) (pu pe tu ca ho va : Nat → Int64) (ma ac : Nat → Int32) : Sx (fX8_workOutHand htr hbt st sb pu pe tu ca ho va ma ac) (fun z => TC z.1 τ ∧ CB z.2.1 β ∧ SB τ β z.2.2.2.1 z.2.2.2.2.1 z.2.2.2.2.2.1 z.2.2.2.2.2.2.1 z.2.2.2.2.2.2.2.1 z.2.2.2.2.2.2.2.2.1 z.2.2.2.2.2.2.2.2.2) := by
  unfold fX8_workOutHand
  rw [tky8, bd2_mk]
  refine Sx.b8 (pb8 hf.cpy hT hb.cpy hK _ _ _ _ _ _ _ _) ?_
  intro c0 c1 c2 c3 c4 c5 c6 c7 hsb
  exact Sx.mk ⟨hf.cpy, hb.cpy, hsb⟩
theorem sb24 {bs mv : Nat → Int32} {pe : Nat → Int64} {T : Nat} {β : Nat → Nat} {π : Nat → Nat → Nat} (hb : RB bs 4 β) (hK : BK β) (hp : PK π) (hP : RP pe T π) (hT : T ≤ 6) {r : Nat} (h1 : 1 ≤ r) (h : r < 128) (hd : dR r ≤ T) (hm : MV mv r) : ∀ (i n x : Nat), x + i = dR r → lpX9_standsByHand_24 bs mv pe (nI (dR r)) (n + i + 1) (nI x) (nI (dR (pfx r x))) (nI (uR (pfx r x))) (nI (bR (pfx r x))) (nI (mR π β (pfx r x))) = some (nI (dR r), nI (uR r), nI (bR r), nI (mR π β r)) := by
  have hd6 := (row_b1 r h h1).1.1
  intro i
  induction i with
  | zero =>
    intro n x hi
    rw [lpX9_standsByHand_24.eq_2, if_pos (nI_le (by omega) (by omega)), show x = dR r by omega, pfd]
  | succ i ih =>
    intro n x hi
    obtain ⟨g1, g2⟩ := pf2 r h h1 x (by omega) (by omega)
    obtain ⟨g3, g4, _⟩ := pf1 r h h1 x (by omega) (by omega)
    rw [lpX9_standsByHand_24.eq_2, if_neg (nI_ge (by omega) (by omega)), og32 (by omega) (by omega), nI_clamp (by omega), hm x (by omega), show fX9_goesOn 4 (nI (r / 2 ^ (dR r - 1 - x) % 2)) bs pe (nI (dR (pfx r x))) (nI (uR (pfx r x))) (nI (bR (pfx r x))) (nI (mR π β (pfx r x))) = _ from go9 hb hK hp hP hT g4 g2 (by omega) (by omega) _, bd4_mk, nm_mk, nI_1, ← g1, show n + (i + 1) = n + i + 1 by omega]
    exact ih n (x + 1) (by omega)
theorem sbh9 {tree bs hmv : Nat → Int32} {τ β : Nat → Nat} (hf9 : TR tree 9 τ) (hT : TK τ) (hb : RB bs 4 β) (hK : BK β) {r : Nat} (r1 : 1 ≤ r) (r2 : r < 128) (rd : dR r ≤ τ 0) (hm : MV hmv r) (x0 x1 x2 x3 : Int32) (pe9 : Nat → Int64) (a9 b9 : Int64) (wo9 ho9 : Nat → Int64) (ac9 : Nat → Int32) (s1 s2 s3 s4 : Int32) : Sx (fX9_standsByHand tree bs hmv x0 x1 x2 x3 pe9 a9 b9 wo9 ho9 ac9 s1 s2 s3 s4 (nI (dR r))) (fun z => z.1 = nI (τ 0) ∧ z.2.1 = nI (τ 6) ∧ z.2.2.1 = nI (τ 7) ∧ z.2.2.2.1 = nI (τ 8) ∧ RP z.2.2.2.2.1 (τ 0) (prF τ (τ 1)) ∧ GD (prF τ (τ 1)) (τ 0) (τ 6) (τ 7) (τ 8) β (fun _ _ _ _ => True) z.2.2.2.2.2.2.2.1 z.2.2.2.2.2.2.2.2.1 z.2.2.2.2.2.2.2.2.2.1 ∧ z.2.2.2.2.2.2.2.2.2.2 = (nI (dR r), nI (uR r), nI (bR r), nI (mR (prF τ (τ 1)) β r))) := by
  have hp := prF_PK hT (show τ 1 ≤ 1000 by omega)
  have hd6 := (row_b1 r r2 r1).1.1
  unfold fX9_standsByHand
  have h10 : tree (Int32.toNatClampNeg 10) = nI (τ 1) := hf9 1 (by omega)
  rw [h10]
  refine Sx.b7 (show Sx (fX9_takesTree 1 (nI (τ 1)) tree x0 x1 x2 x3 pe9 a9 b9) _ from tt9 (w := 1) hf9 (by omega) (by omega) hT x0 x1 x2 x3 pe9 a9 b9) ?_
  rintro d0 d1 d2 d3 pe' d5 d6 ⟨rfl, rfl, rfl, rfl, hP⟩
  dsimp only at hP ⊢
  refine Sx.b3 (show Sx (fX9_plays 4 bs (nI (τ 0)) (nI (τ 6)) (nI (τ 7)) (nI (τ 8)) pe' wo9 ho9 ac9) _ from pl9 (k := 4) hb hK hp hP hT.n wo9 ho9 ac9) ?_
  intro a0 a1 a2 hg
  dsimp only at hg
  obtain ⟨n, hn⟩ := fuN (dR r + 1) (by omega)
  have := sb24 hb hK hp hP (by omega) r1 r2 rd hm (dR r) n 0 (by omega)
  rw [pf0 r r2 r1] at this
  rw [show fX9_starts 4 bs pe' s1 s2 s3 s4 = _ from sta9 (k := 4) hb hK hp hP (by omega) s1 s2 s3 s4, bd4_mk, hn, i_0, show n + (dR r + 1) = n + dR r + 1 by omega, this, bd4_mk]
  exact Sx.mk ⟨rfl, rfl, rfl, rfl, hP, hg, rfl⟩
end
section
/-! pure: the hand, both sides (own rows) -/
abbrev HQ (tree bs : Nat → Int32) (op ov hrow : Int32) (pd rg : Int64) (htr hbt hmv : Nat → Int32) (pl on hmd : Int32) (pd9 rg9 : Int64) : Prop := (op = 0 ∧ pl = 0 ∧ (ov = 0 ∨ ov = 1)) ∨ (op = 1 ∧ pl = 1 ∧ ((ov = 0 ∧ on = 1) ∨ (ov = 1 ∧ on = 0)) ∧ pd = pd9 ∧ rg = rg9 ∧ ∃ (τ β : Nat → Nat) (r : Nat), TC htr τ ∧ TR tree 9 τ ∧ TK τ ∧ CB hbt β ∧ RB bs 4 β ∧ BK β ∧ 1 ≤ r ∧ r < 128 ∧ dR r ≤ τ 0 ∧ hrow = nI r ∧ hmd = nI (dR r) ∧ MV hmv r)
theorem absE (w : Int64) : (if 0 < w then w else -w) = (if 0 ≤ w then w else -w) := by
  by_cases a : 0 < w
  · rw [if_pos a, if_pos (Int64.le_of_lt a)]
  · rw [if_neg a]
    by_cases b : 0 ≤ w
    · have e : w = 0 := Int64.le_antisymm (Int64.not_lt.mp a) b
      subst e
      rfl
    · rw [if_neg b]
theorem MV.go {mv : Nat → Int32} {r b : Nat} (h1 : 1 ≤ r) (h : r < 64) (hb : b < 2) (hm : MV mv r) : MV (upd mv (dR r) (nI b)) (2 * r + b) := by
  obtain ⟨q1, q2, q3, q4⟩ := row_s r h h1 b hb
  intro i hi
  rw [q1] at hi ⊢
  rw [upS]
  by_cases e : i = dR r
  · rw [if_pos e, show dR r + 1 - 1 - i = 0 by omega, Nat.pow_zero, Nat.div_one, show (2 * r + b) % 2 = b by omega]
  · rw [if_neg e, hm i (by omega), show dR r + 1 - 1 - i = (dR r - 1 - i) + 1 by omega, Nat.pow_succ, Nat.mul_comm (2 ^ (dR r - 1 - i)) 2, ← Nat.div_div_eq_div_mul, show (2 * r + b) / 2 = r by omega]
theorem old8 {htr : Nat → Int32} {τ : Nat → Nat} (hf : TC htr τ) (hT : TK τ) {r : Nat} (r1 : 1 ≤ r) (r2 : r < 128) (rd : dR r ≤ τ 0) : fX3_isOnLastDay (nI r) htr = some (if dR r = τ 0 then 1 else 0) := by
  have hd6 := (row_b1 r r2 r1).1.1
  unfold fX3_isOnLastDay
  rw [day8 r r2 r1, bd1_mk, ld8 hf hT, bd1_mk]
  by_cases g : dR r = τ 0
  · rw [if_neg (nI_nlt (by omega) (by omega)), bd1_mk, if_pos g]; rfl
  · rw [if_pos (nI_lt (by omega) (by omega)), bd1_mk, if_neg g]; rfl
theorem rg9x {bs : Nat → Int32} {pe' d7 d8 : Nat → Int64} {d9 : Nat → Int32} {τ β : Nat → Nat} (hb : RB bs 4 β) (hK : BK β) (hT : TK τ) (hP : RP pe' (τ 0) (prF τ (τ 1))) (hG : GD (prF τ (τ 1)) (τ 0) (τ 6) (τ 7) (τ 8) β (fun _ _ _ _ => True) d7 d8 d9) {r : Nat} (r1 : 1 ≤ r) (r2 : r < 128) (rd : dR r ≤ τ 0) (p2 : Int32) (rg : Int64) : fX9_regrets p2 bs (nI (τ 0)) pe' d7 d8 (nI (dR r)) (nI (uR r)) (nI (bR r)) (nI (mR (prF τ (τ 1)) β r)) rg = some (rg + (if 0 < lN (vR (prF τ (τ 1)) (τ 0) (τ 6) (τ 7) (τ 8) β (bV (prF τ (τ 1)) β) r) - giN (enC τ β r p2) (cpF β (dR r)) then lN (vR (prF τ (τ 1)) (τ 0) (τ 6) (τ 7) (τ 8) β (bV (prF τ (τ 1)) β) r) - giN (enC τ β r p2) (cpF β (dR r)) else -(lN (vR (prF τ (τ 1)) (τ 0) (τ 6) (τ 7) (τ 8) β (bV (prF τ (τ 1)) β) r) - giN (enC τ β r p2) (cpF β (dR r))))) := by
  have hl := aT_lt (prF τ (τ 1)) β r1 r2
  unfold fX9_regrets
  rw [hn9, bd1_mk, og32 hl (by omega), show fX9_givesBy 4 p2 bs (nI (τ 0)) pe' d8 (nI (dR r)) (nI (uR r)) (nI (bR r)) (nI (mR (prF τ (τ 1)) β r)) = _ from gb9x (k := 4) hb hK hT hP hG r1 r2 rd p2, bd1_mk, nm_mk, nI_clamp (by omega), (GD.r hG r1 r2 rd).1, absE]
  generalize lN (vR (prF τ (τ 1)) (τ 0) (τ 6) (τ 7) (τ 8) β (bV (prF τ (τ 1)) β) r) - giN (enC τ β r p2) (cpF β (dR r)) = w
  by_cases g : 0 ≤ w
  · rw [if_pos g, if_pos g, bd1_mk, nm_mk]
  · rw [if_neg g, if_neg g, bd1_mk, nm_mk]
theorem q_byHand {tree bs htr hbt hmv : Nat → Int32} {op ov hrow pl on hmd : Int32} {pd rg pd9 rg9 : Int64} (hH : HQ tree bs op ov hrow pd rg htr hbt hmv pl on hmd pd9 rg9) (p1 : Int32) (st sb : Nat → Int32) (pu pe tu ca ho va : Nat → Int64) (ma ac : Nat → Int32) (x0 x1 x2 x3 : Int32) (pe9 : Nat → Int64) (a9 b9 : Int64) (wo9 ho9 : Nat → Int64) (ac9 : Nat → Int32) (s1 s2 s3 s4 : Int32) : Sx2 (fX8_byHand p1 op ov hrow pd rg htr hbt st sb pu pe tu ca ho va ma ac) (fX9_byHand p1 tree bs hmv x0 x1 x2 x3 pe9 a9 b9 wo9 ho9 ac9 s1 s2 s3 s4 pl on hmd pd9 rg9) (fun _ _ => True) := by
  rcases hH with ⟨rfl, rfl, _⟩ | ⟨rfl, rfl, hov, rfl, rfl, τ, β, r, hf, hf9, hT, hcb0, hb, hK, r1, r2, rd, rfl, rfl, hm⟩
  · exact Sx2.mk (by unfold fX8_byHand; rw [if_pos rfl]) (by unfold fX9_byHand; rw [if_pos rfl]) trivial
  by_cases h1 : inr p1 0 4
  rotate_left
  · exact Sx2.mk (by unfold fX8_byHand; rw [if_neg one0, wi0 h1, bd1_mk, if_pos rfl]) (by unfold fX9_byHand; rw [if_neg one0, in0 h1, bd1_mk, if_pos rfl]) trivial
  have hl := aT_lt (prF τ (τ 1)) β r1 r2
  refine Sx2.val (v := if p1 = 0 then (if ov = 0 then 1 else 0) else if p1 = 1 then Int32.toInt64 (nI (dR r)) else if p1 = 2 then pd else if p1 = 3 then rg else Int32.toInt64 (nI (A1 τ β r))) ?_ ?_
  · unfold fX8_byHand
    rw [if_neg one0, wi1 h1, bd1_mk, if_neg one0]
    by_cases g0 : p1 = 0
    · rw [if_pos g0, if_pos g0]
      by_cases g : ov = 0
      · rw [if_pos g, if_pos g, bd1_mk]; exact Sx.mk rfl
      · rw [if_neg g, if_neg g, bd1_mk]; exact Sx.mk rfl
    rw [if_neg g0, if_neg g0]
    by_cases g1 : p1 = 1
    · rw [if_pos g1, if_pos g1, day8 r r2 r1, bd1_mk]; exact Sx.mk rfl
    rw [if_neg g1, if_neg g1]
    by_cases g2 : p1 = 2
    · rw [if_pos g2, if_pos g2]; exact Sx.mk rfl
    rw [if_neg g2, if_neg g2]
    by_cases g3 : p1 = 3
    · rw [if_pos g3, if_pos g3]; exact Sx.mk rfl
    rw [if_neg g3, if_neg g3]
    refine Sx.b10 (wh8 hf hT hcb0 hK st sb pu pe tu ca ho va ma ac) ?_
    rintro c0 c1 c2 c3 c4 c5 c6 c7 c8 c9 ⟨hc, hcb, hsb⟩
    dsimp only at hc hcb hsb ⊢
    rw [acA8 r1 r2, bd1_mk, (hsb.a hT r r1 r2 rd).1]; exact Sx.mk rfl
  · unfold fX9_byHand
    rw [if_neg one0, in1 h1, bd1_mk, if_neg one0]
    refine Sx.b14 (sbh9 hf9 hT hb hK r1 r2 rd hm x0 x1 x2 x3 pe9 a9 b9 wo9 ho9 ac9 s1 s2 s3 s4) ?_
    rintro d0 d1 d2 d3 pe' d5 d6 d7 d8 d9 e0 e1 e2 e3 ⟨rfl, rfl, rfl, rfl, hP, hG, he⟩
    dsimp only at hP hG he ⊢
    obtain ⟨rfl, rfl, rfl, rfl⟩ : e0 = nI (dR r) ∧ e1 = nI (uR r) ∧ e2 = nI (bR r) ∧ e3 = nI (mR (prF τ (τ 1)) β r) := by
      have := he
      simp only [Prod.mk.injEq] at this
      exact this
    by_cases g0 : p1 = 0
    · rw [if_pos g0, if_pos g0]
      rcases hov with ⟨rfl, rfl⟩ | ⟨rfl, rfl⟩
      · rw [if_neg one0, bd1_mk, if_pos rfl]; exact Sx.mk ⟨rfl, trivial⟩
      · rw [if_pos rfl, bd1_mk, if_neg one0]; exact Sx.mk ⟨rfl, trivial⟩
    rw [if_neg g0, if_neg g0]
    by_cases g1 : p1 = 1
    · rw [if_pos g1, if_pos g1, bd1_mk]; exact Sx.mk ⟨rfl, trivial⟩
    rw [if_neg g1, if_neg g1]
    by_cases g2 : p1 = 2
    · rw [if_pos g2, if_pos g2, bd1_mk]; exact Sx.mk ⟨rfl, trivial⟩
    rw [if_neg g2, if_neg g2]
    by_cases g3 : p1 = 3
    · rw [if_pos g3, if_pos g3, bd1_mk]; exact Sx.mk ⟨rfl, trivial⟩
    rw [if_neg g3, if_neg g3, hn9, bd1_mk, og32 hl (by omega), nI_clamp (by omega), (hG.a r r1 r2 rd).1, bd1_mk]; exact Sx.mk ⟨rfl, trivial⟩
end
section
/-! pure: the hand goes on, acts, both sides (own rows) -/
theorem Sx2.par {ρ α β σ ξ : Type} {o1 : Option (ρ × α)} {o2 : Option (ρ × β)} {v : ρ} (a : α → σ) (b : β → ξ) {w1 : σ} {w2 : ξ} (h1 : Sx o1 (fun z => z.1 = v ∧ a z.2 = w1)) (h2 : Sx o2 (fun z => z.1 = v ∧ b z.2 = w2)) {R : α → β → Prop} (h : ∀ s t, a s = w1 → b t = w2 → R s t) : Sx2 o1 o2 R := by
  obtain ⟨⟨x, s⟩, e1, rfl, p⟩ := h1
  obtain ⟨⟨y, t⟩, e2, h3, q⟩ := h2
  dsimp only at h3 p q
  subst h3
  exact ⟨_, s, t, e1, e2, h s t p q⟩
abbrev goR (tree bs : Nat → Int32) (op ov pl on : Int32) (htr hbt : Nat → Int32) (s : Int32 × Int64 × Int64) (t : (Nat → Int32) × Int32 × Int64 × Int64) : Prop := HQ tree bs op ov s.1 s.2.1 s.2.2 htr hbt t.1 pl on t.2.1 t.2.2.1 t.2.2.2
theorem q_go {tree bs htr hbt hmv : Nat → Int32} {op ov hrow pl on hmd : Int32} {pd rg pd9 rg9 : Int64} (hH : HQ tree bs op ov hrow pd rg htr hbt hmv pl on hmd pd9 rg9) (p1 : Int32) (hp1 : p1 = 0 ∨ p1 = 1) (st sb : Nat → Int32) (pu pe tu ca ho va : Nat → Int64) (ma ac : Nat → Int32) (x0 x1 x2 x3 : Int32) (pe9 : Nat → Int64) (a9 b9 : Int64) (wo9 ho9 : Nat → Int64) (ac9 : Nat → Int32) (s1 s2 s3 s4 : Int32) : Sx2 (fX8_go p1 op ov hrow pd rg htr hbt st sb pu pe tu ca ho va ma ac) (fX9_go p1 tree bs hmv x0 x1 x2 x3 pe9 a9 b9 wo9 ho9 ac9 s1 s2 s3 s4 pl on hmd pd9 rg9) (fun s t => goR tree bs op ov pl on htr hbt (s.1, s.2.1, s.2.2.1) (t.1, t.2.2.2.2.2.2.2.2.2.2.2.2.2.2.2.1, t.2.2.2.2.2.2.2.2.2.2.2.2.2.2.2.2.1, t.2.2.2.2.2.2.2.2.2.2.2.2.2.2.2.2.2)) := by
  rcases hH with ⟨rfl, rfl, hoz⟩ | ⟨rfl, rfl, hov, rfl, rfl, τ, β, r, hf, hf9, hT, hcb0, hb, hK, r1, r2, rd, rfl, rfl, hm⟩
  · exact Sx2.mk (by unfold fX8_go; rw [if_pos rfl]) (by unfold fX9_go; rw [if_pos rfl]) (Or.inl ⟨rfl, rfl, hoz⟩)
  have hd6 := (row_b1 r r2 r1).1.1
  have same : goR tree bs 1 ov 1 on htr hbt (nI r, pd, rg) (hmv, nI (dR r), pd, rg) := Or.inr ⟨rfl, rfl, hov, rfl, rfl, τ, β, r, hf, hf9, hT, hcb0, hb, hK, r1, r2, rd, rfl, rfl, hm⟩
  by_cases hst : on = 1 ∧ dR r < τ 0
  rotate_left
  · have h9 : Sx (fX9_go p1 tree bs hmv x0 x1 x2 x3 pe9 a9 b9 wo9 ho9 ac9 s1 s2 s3 s4 1 on (nI (dR r)) pd rg) (fun z => z.1 = -2 ∧ (z.2.1, z.2.2.2.2.2.2.2.2.2.2.2.2.2.2.2.2.1, z.2.2.2.2.2.2.2.2.2.2.2.2.2.2.2.2.2.1, z.2.2.2.2.2.2.2.2.2.2.2.2.2.2.2.2.2.2) = (hmv, nI (dR r), pd, rg)) := by
      unfold fX9_go
      rw [if_neg one0]
      refine Sx.b14 (sbh9 hf9 hT hb hK r1 r2 rd hm x0 x1 x2 x3 pe9 a9 b9 wo9 ho9 ac9 s1 s2 s3 s4) ?_
      rintro d0 d1 d2 d3 pe' d5 d6 d7 d8 d9 e0 e1 e2 e3 ⟨rfl, rfl, rfl, rfl, hP, hG, he⟩
      dsimp only at hP hG he ⊢
      obtain ⟨rfl, rfl, rfl, rfl⟩ : e0 = nI (dR r) ∧ e1 = nI (uR r) ∧ e2 = nI (bR r) ∧ e3 = nI (mR (prF τ (τ 1)) β r) := by
        have := he
        simp only [Prod.mk.injEq] at this
        exact this
      by_cases g : on = 0
      · rw [if_pos g]; exact Sx.mk ⟨rfl, rfl⟩
      · have g1 : dR r = τ 0 := by
          rcases hov with q | q
          · by_cases z : dR r = τ 0
            · exact z
            · exact absurd ⟨q.2, by omega⟩ hst
          · exact absurd q.2 g
        rw [if_neg g, if_pos (by rw [g1])]; exact Sx.mk ⟨rfl, rfl⟩
    have h8 : Sx (fX8_go p1 1 ov (nI r) pd rg htr hbt st sb pu pe tu ca ho va ma ac) (fun z => z.1 = -2 ∧ (z.2.1, z.2.2.1, z.2.2.2.1) = (nI r, pd, rg)) := by
      unfold fX8_go
      rw [if_neg one0]
      by_cases g : ov = 0
      · have g1 : dR r = τ 0 := by
          rcases hov with q | q
          · by_cases z : dR r = τ 0
            · exact z
            · exact absurd ⟨q.2, by omega⟩ hst
          · rw [q.1] at g; exact absurd g one0
        rw [if_pos g, old8 hf hT r1 r2 rd, bd1_mk, if_pos g1, if_neg one0]; exact Sx.mk ⟨rfl, rfl⟩
      · rw [if_neg g]; exact Sx.mk ⟨rfl, rfl⟩
    refine Sx2.par (fun s => (s.1, s.2.1, s.2.2.1)) (fun t => (t.1, t.2.2.2.2.2.2.2.2.2.2.2.2.2.2.2.1, t.2.2.2.2.2.2.2.2.2.2.2.2.2.2.2.2.1, t.2.2.2.2.2.2.2.2.2.2.2.2.2.2.2.2.2)) h8 h9 (fun s t p q => ?_)
    rw [p, q]; exact same
  obtain ⟨rfl, hlt⟩ := hst
  have hov0 : ov = 0 := by
    rcases hov with q | q
    · exact q.1
    · exact absurd q.2 one0
  subst hov0
  have r64 : r < 64 := dR_64 r r2 r1 (by omega)
  obtain ⟨b, hb2, hpb⟩ : ∃ b, b < 2 ∧ p1 = nI b := by
    rcases hp1 with q | q
    · exact ⟨0, by omega, q⟩
    · exact ⟨1, by omega, q⟩
  obtain ⟨q1, q2, q3, q4⟩ := row_s r r64 r1 b hb2
  have h9 : Sx (fX9_go p1 tree bs hmv x0 x1 x2 x3 pe9 a9 b9 wo9 ho9 ac9 s1 s2 s3 s4 1 1 (nI (dR r)) pd rg) (fun z => z.1 = nI (dR r + 1) ∧ (z.2.1, z.2.2.2.2.2.2.2.2.2.2.2.2.2.2.2.2.1, z.2.2.2.2.2.2.2.2.2.2.2.2.2.2.2.2.2.1, z.2.2.2.2.2.2.2.2.2.2.2.2.2.2.2.2.2.2) = (upd hmv (dR r) (nI b), nI (dR r + 1), pd + Int32.toInt64 (nI (cpF β (dR r + 1))), rg + (if 0 < lN (vR (prF τ (τ 1)) (τ 0) (τ 6) (τ 7) (τ 8) β (bV (prF τ (τ 1)) β) r) - giN (enC τ β r 0) (cpF β (dR r)) then lN (vR (prF τ (τ 1)) (τ 0) (τ 6) (τ 7) (τ 8) β (bV (prF τ (τ 1)) β) r) - giN (enC τ β r 0) (cpF β (dR r)) else -(lN (vR (prF τ (τ 1)) (τ 0) (τ 6) (τ 7) (τ 8) β (bV (prF τ (τ 1)) β) r) - giN (enC τ β r 0) (cpF β (dR r)))))) := by
    unfold fX9_go
    rw [if_neg one0]
    refine Sx.b14 (sbh9 hf9 hT hb hK r1 r2 rd hm x0 x1 x2 x3 pe9 a9 b9 wo9 ho9 ac9 s1 s2 s3 s4) ?_
    rintro d0 d1 d2 d3 pe' d5 d6 d7 d8 d9 e0 e1 e2 e3 ⟨rfl, rfl, rfl, rfl, hP, hG, he⟩
    dsimp only at hP hG he ⊢
    obtain ⟨rfl, rfl, rfl, rfl⟩ : e0 = nI (dR r) ∧ e1 = nI (uR r) ∧ e2 = nI (bR r) ∧ e3 = nI (mR (prF τ (τ 1)) β r) := by
      have := he
      simp only [Prod.mk.injEq] at this
      exact this
    have ej : (if p1 = 0 then some (0 : Int32) else some 1) = some (nI b) := by
      rw [hpb]
      rcases (show b = 0 ∨ b = 1 by omega) with rfl | rfl <;> rfl
    rw [if_neg one0, if_neg (fun z => by have := (nI_eq (by omega) (by omega)).mp z; omega), rg9x hb hK hT hP hG r1 r2 rd 0 rg, bd1_mk, ej, bd1_mk, og32 (by omega) (by omega), nm_mk, nm_mk, nI_1, nI_clamp (by omega), show fX9_couponOf 4 (nI (dR r + 1)) bs = _ from cp9 (k := 4) hb (by omega), bd1_mk, nm_mk]
    exact Sx.mk ⟨rfl, rfl⟩
  have h8 : Sx (fX8_go p1 1 0 (nI r) pd rg htr hbt st sb pu pe tu ca ho va ma ac) (fun z => z.1 = nI (dR r + 1) ∧ (z.2.1, z.2.2.1, z.2.2.2.1) = (nI (2 * r + b), pd + Int32.toInt64 (nI (cpF β (dR r + 1))), rg + (if 0 < lN (vR (prF τ (τ 1)) (τ 0) (τ 6) (τ 7) (τ 8) β (bV (prF τ (τ 1)) β) r) - giN (enC τ β r 0) (cpF β (dR r)) then lN (vR (prF τ (τ 1)) (τ 0) (τ 6) (τ 7) (τ 8) β (bV (prF τ (τ 1)) β) r) - giN (enC τ β r 0) (cpF β (dR r)) else -(lN (vR (prF τ (τ 1)) (τ 0) (τ 6) (τ 7) (τ 8) β (bV (prF τ (τ 1)) β) r) - giN (enC τ β r 0) (cpF β (dR r)))))) := by
    unfold fX8_go
    rw [if_neg one0, if_pos rfl, old8 hf hT r1 r2 rd, bd1_mk, if_neg (show ¬ dR r = τ 0 by omega), if_pos rfl]
    refine Sx.b10 (wh8 hf hT hcb0 hK st sb pu pe tu ca ho va ma ac) ?_
    rintro c0 c1 c2 c3 c4 c5 c6 c7 c8 c9 ⟨hc, hcb, hsb⟩
    dsimp only at hc hcb hsb ⊢
    rw [va8 r1 r2, bd1_mk, gi8x hc hT hcb hK hsb r1 r2 rd 0, bd1_mk, nm_mk, hpb, lo8 r hb2, bd1_mk, day8 _ (by omega) (by omega), bd1_mk, q1, co8 hcb0 (by omega), bd1_mk, nm_mk, (hsb.2 r r1 r1 (row_T hT r1 r2 rd)).1]
    exact Sx.mk ⟨rfl, rfl⟩
  refine Sx2.par (fun s => (s.1, s.2.1, s.2.2.1)) (fun t => (t.1, t.2.2.2.2.2.2.2.2.2.2.2.2.2.2.2.1, t.2.2.2.2.2.2.2.2.2.2.2.2.2.2.2.2.1, t.2.2.2.2.2.2.2.2.2.2.2.2.2.2.2.2.2)) h8 h9 (fun s t p q => ?_)
  rw [p, q]
  exact Or.inr ⟨rfl, rfl, Or.inl ⟨rfl, rfl⟩, rfl, rfl, τ, β, 2 * r + b, hf, hf9, hT, hcb0, hb, hK, by omega, by omega, by omega, rfl, by rw [q1], MV.go r1 r64 hb2 hm⟩
end
