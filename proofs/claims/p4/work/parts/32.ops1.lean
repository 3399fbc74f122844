/-! pure: fair ones, shifted, best days, books: both sides (own rows) -/
theorem Sx2.rel {ρ α β : Type} {o1 : Option (ρ × α)} {o2 : Option (ρ × β)} {P : ρ → Prop} {Q : β → Prop} (u : ∀ x y, P x → P y → x = y) (h1 : Sx o1 (fun z => P z.1)) (h2 : Sx o2 (fun z => P z.1 ∧ Q z.2)) : Sx2 o1 o2 (fun _ t => Q t) := by
  obtain ⟨⟨r, s⟩, e1, q1⟩ := h1
  obtain ⟨⟨r', t⟩, e2, q2, q3⟩ := h2
  have : r = r' := u r r' q1 q2
  subst this
  exact ⟨r, s, t, e1, e2, q3⟩
theorem Sx2.val {ρ α β : Type} {o1 : Option (ρ × α)} {o2 : Option (ρ × β)} {v : ρ} {Q : β → Prop} (h1 : Sx o1 (fun z => z.1 = v)) (h2 : Sx o2 (fun z => z.1 = v ∧ Q z.2)) : Sx2 o1 o2 (fun _ t => Q t) := Sx2.rel (P := fun x => x = v) (fun _ _ a b => a.trans b.symm) h1 h2
theorem Sx.tru {α : Type} {o : Option α} {P : α → Prop} (h : Sx o P) : Sx o (fun z => P z ∧ True) := h.imp (fun _ h => ⟨h, trivial⟩)
theorem q_fairCoupon {tr b0 b1 b2 tree bs : Nat → Int32} {τ : Nat → Nat} {B : Nat → Nat → Nat} (hf : TC tr τ) (hf9 : TR tree 0 τ) (hT : TK τ) (hB : CB3 b0 b1 b2 B) (hb9 : ∀ k, k < 3 → RB bs k (B k)) (p1 : Int32) (aim : Int64) (st sb : Nat → Int32) (pu pe tu ca ho va : Nat → Int64) (ma ac : Nat → Int32) (x0 x1 x2 x3 : Int32) (pe9 : Nat → Int64) (a9 b9 : Int64) (wo9 ho9 : Nat → Int64) (ac9 : Nat → Int32) : Sx2 (fX8_fairCoupon p1 aim tr b0 b1 b2 st sb pu pe tu ca ho va ma ac) (fX9_fairCoupon p1 aim tree bs x0 x1 x2 x3 pe9 a9 b9 wo9 ho9 ac9) (fun _ t => FrB 3 bs t.1) := by
  by_cases h1 : inr p1 0 2
  · obtain ⟨k, rfl, _, hk, _⟩ := inr_n h1 (by decide)
    have hk3 : k < 3 := by omega
    refine Sx2.rel (P := Fa (Pk0 τ (B k) aim) 1000) (fun _ _ a b => a.u b) ?_ ?_
    · unfold fX8_fairCoupon
      rw [isb8' hk3, bd1_mk, if_neg one0]
      exact Sx.b11 (P := fun z => Fa (Pk0 τ (B k) aim) 1000 z.1) (Sx.b11 (fk0 hk3 hf hT hB aim st sb pu pe tu ca ho va ma ac) (fun _ _ _ _ _ _ _ _ _ _ _ h => Sx.mk h)) (fun _ _ _ _ _ _ _ _ _ _ _ h => Sx.mk h)
    · unfold fX9_fairCoupon
      exact Sx.b12 (fa9_0 hk3 hf9 hT (hb9 k hk3) (hB k hk3).2 aim x0 x1 x2 x3 pe9 a9 b9 wo9 ho9 ac9) (fun _ _ _ _ _ _ _ _ _ _ _ _ h => Sx.mk h)
  · refine Sx2.mk (by unfold fX8_fairCoupon; rw [isb8n h1, bd1_mk, if_pos rfl]; rfl) (by unfold fX9_fairCoupon fX9_fair; rw [isb9n h1, bd1_mk, if_pos rfl]; rfl) (FrB.refl _ _)
theorem q_fairRatio {tr b0 b1 b2 tree bs : Nat → Int32} {τ : Nat → Nat} {B : Nat → Nat → Nat} (hf : TC tr τ) (hf9 : TR tree 0 τ) (hT : TK τ) (hB : CB3 b0 b1 b2 B) (hb9 : ∀ k, k < 3 → RB bs k (B k)) (p1 : Int32) (aim : Int64) (st sb : Nat → Int32) (pu pe tu ca ho va : Nat → Int64) (ma ac : Nat → Int32) (x0 x1 x2 x3 : Int32) (pe9 : Nat → Int64) (a9 b9 : Int64) (wo9 ho9 : Nat → Int64) (ac9 : Nat → Int32) : Sx2 (fX8_fairRatio p1 aim tr b0 b1 b2 st sb pu pe tu ca ho va ma ac) (fX9_fairRatio p1 aim tree bs x0 x1 x2 x3 pe9 a9 b9 wo9 ho9 ac9) (fun _ t => FrB 3 bs t.1) := by
  by_cases h1 : inr p1 0 2
  · obtain ⟨k, rfl, _, hk, _⟩ := inr_n h1 (by decide)
    have hk3 : k < 3 := by omega
    refine Sx2.rel (P := Fa (Pk1 τ (B k) aim) 1000) (fun _ _ a b => a.u b) ?_ ?_
    · unfold fX8_fairRatio
      rw [isb8' hk3, bd1_mk, if_neg one0]
      exact Sx.b11 (P := fun z => Fa (Pk1 τ (B k) aim) 1000 z.1) (Sx.b11 (fk1 hk3 hf hT hB aim st sb pu pe tu ca ho va ma ac) (fun _ _ _ _ _ _ _ _ _ _ _ h => Sx.mk h)) (fun _ _ _ _ _ _ _ _ _ _ _ h => Sx.mk h)
    · unfold fX9_fairRatio
      exact Sx.b12 (fa9_1 hk3 hf9 hT (hb9 k hk3) (hB k hk3).2 aim x0 x1 x2 x3 pe9 a9 b9 wo9 ho9 ac9) (fun _ _ _ _ _ _ _ _ _ _ _ _ h => Sx.mk h)
  · refine Sx2.mk (by unfold fX8_fairRatio; rw [isb8n h1, bd1_mk, if_pos rfl]; rfl) (by unfold fX9_fairRatio fX9_fair; rw [isb9n h1, bd1_mk, if_pos rfl]; rfl) (FrB.refl _ _)
theorem q_fairRate {tr b0 b1 b2 tree bs : Nat → Int32} {τ : Nat → Nat} {B : Nat → Nat → Nat} (hf : TC tr τ) (hf9 : TR tree 0 τ) (hT : TK τ) (hB : CB3 b0 b1 b2 B) (hb9 : ∀ k, k < 3 → RB bs k (B k)) (p1 : Int32) (aim : Int64) (st sb : Nat → Int32) (pu pe tu ca ho va : Nat → Int64) (ma ac : Nat → Int32) (x0 x1 x2 x3 : Int32) (pe9 : Nat → Int64) (a9 b9 : Int64) (wo9 ho9 : Nat → Int64) (ac9 : Nat → Int32) : Sx2 (fX8_fairRate p1 aim tr b0 b1 b2 st sb pu pe tu ca ho va ma ac) (fX9_fairRate p1 aim tree bs x0 x1 x2 x3 pe9 a9 b9 wo9 ho9 ac9) (fun _ _ => True) := by
  by_cases h1 : inr p1 0 2
  · obtain ⟨k, rfl, _, hk, _⟩ := inr_n h1 (by decide)
    have hk3 : k < 3 := by omega
    refine Sx2.rel (P := Fa (Pk2 τ (B k) aim) 200) (fun _ _ a b => a.u b) ?_ ?_
    · unfold fX8_fairRate
      rw [isb8' hk3, bd1_mk, if_neg one0]
      exact Sx.b11 (P := fun z => Fa (Pk2 τ (B k) aim) 200 z.1) (Sx.b11 (fk2 hk3 hf hT hB aim st sb pu pe tu ca ho va ma ac) (fun _ _ _ _ _ _ _ _ _ _ _ h => Sx.mk h)) (fun _ _ _ _ _ _ _ _ _ _ _ h => Sx.mk h)
    · exact (fa9_2 hk3 hf9 hT (hb9 k hk3) (hB k hk3).2 aim x0 x1 x2 x3 pe9 a9 b9 wo9 ho9 ac9).tru
  · refine Sx2.mk (by unfold fX8_fairRate; rw [isb8n h1, bd1_mk, if_pos rfl]; rfl) (by unfold fX9_fairRate; rw [isb9n h1, bd1_mk, if_pos rfl]) trivial
theorem TK.sh {τ : Nat → Nat} (h : TK τ) {s p q : Nat} (hs : 1 ≤ s ∧ s ≤ 1000) (hpq : 1 ≤ p ∧ p < q ∧ q ≤ 20) : TK (bup (bup (bup τ 1 s) 6 p) 7 q) := ⟨h.1, hs, h.2.2.1, hpq, h.2.2.2.2⟩
theorem q_shifted {tr b0 b1 b2 tree bs : Nat → Int32} {τ : Nat → Nat} {B : Nat → Nat → Nat} (hf : TC tr τ) (hf9 : TR tree 0 τ) (hT : TK τ) (hB : CB3 b0 b1 b2 B) (hb9 : ∀ k, k < 3 → RB bs k (B k)) (p1 p2 p3 p4 : Int32) (st sb : Nat → Int32) (pu pe tu ca ho va : Nat → Int64) (ma ac : Nat → Int32) (x0 x1 x2 x3 : Int32) (pe9 : Nat → Int64) (a9 b9 : Int64) (wo9 ho9 : Nat → Int64) (ac9 : Nat → Int32) : Sx2 (fX8_shifted p1 p2 p3 p4 tr b0 b1 b2 st sb pu pe tu ca ho va ma ac) (fX9_shifted p1 p2 p3 p4 tree bs x0 x1 x2 x3 pe9 a9 b9 wo9 ho9 ac9) (fun _ _ => True) := by
  by_cases h1 : inr p1 0 2
  rotate_left
  · exact Sx2.mk (by unfold fX8_shifted; rw [isb8n h1, bd1_mk, if_pos rfl]) (by unfold fX9_shifted; rw [isb9n h1, bd1_mk, if_pos rfl]) (trivial)
  by_cases h2 : inr p2 1 1000
  rotate_left
  · exact Sx2.mk (by unfold fX8_shifted; rw [isb8y h1, bd1_mk, if_neg one0, isS8n h2, bd1_mk, if_pos rfl]) (by unfold fX9_shifted; rw [isb9y h1, bd1_mk, if_neg one0, in0 h2, bd1_mk, if_pos rfl]) (trivial)
  by_cases h3 : chP p3 p4
  rotate_left
  · exact Sx2.mk (by unfold fX8_shifted; rw [isb8y h1, bd1_mk, if_neg one0, isS8y h2, bd1_mk, if_neg one0, isC8n h3, bd1_mk, if_pos rfl]) (by unfold fX9_shifted; rw [isb9y h1, bd1_mk, if_neg one0, in1 h2, bd1_mk, if_neg one0, isC9n h3, bd1_mk, if_pos rfl]) (trivial)
  obtain ⟨k, rfl, _, hk, _⟩ := inr_n h1 (by decide)
  have hk3 : k < 3 := by omega
  obtain ⟨s, rfl, s1, s2, _⟩ := inr_n h2 (by decide)
  obtain ⟨p, q, rfl, rfl, hpq⟩ := chN h3
  have hs : 1 ≤ s ∧ s ≤ 1000 := by omega
  refine Sx2.val (v := lN (V0 (prF τ s) (τ 0) p q (τ 8) (B k))) ?_ ?_
  · unfold fX8_shifted
    rw [isb8y h1, bd1_mk, if_neg one0, isS8y h2, bd1_mk, if_neg one0, isC8y h3, bd1_mk, if_neg one0, og32 (by omega) (by omega), sel8 hk3, bd2_mk, i_1, st7 (by omega), bd1_mk, i_6, st7 (by omega), bd1_mk, i_7, st7 (by omega), bd1_mk]
    refine Sx.b8 (pb8 (((hf.cpy.up 1 s).up 6 p).up 7 q) (hT.sh hs hpq) (hB k hk3).1.cpy (hB k hk3).2 _ _ _ _ _ _ _ _) ?_
    intro c0 c1 c2 c3 c4 c5 c6 c7 hsb
    exact Sx.e1 (root8 hsb) (Sx.mk rfl)
  · unfold fX9_shifted
    rw [isb9y h1, bd1_mk, if_neg one0, in1 h2, bd1_mk, if_neg one0, isC9y h3, bd1_mk, if_neg one0, i_0]
    refine Sx.b7 (tt9 (w := 0) hf9 (by omega) (by omega) hT x0 x1 x2 x3 pe9 a9 b9) ?_
    rintro d0 d1 d2 d3 pe' d5 d6 ⟨rfl, rfl, rfl, rfl, hP⟩
    dsimp only at hP ⊢
    refine Sx.b4 (vo9 (hb9 k hk3) (hB k hk3).2 (prF_PK hT (by omega)) hP ⟨by omega, by omega, by omega⟩ wo9 ho9 ac9) ?_
    rintro v a1 a2 a3 rfl
    exact Sx.mk ⟨rfl, trivial⟩
theorem gu0 (ts : Nat → Int32) : fX0_giveUp 0 ts = some ts := rfl
theorem vw0 {tr b0 b1 b2 : Nat → Int32} {τ : Nat → Nat} {B : Nat → Nat → Nat} (hf : TC tr τ) (hT : TK τ) (hB : CB3 b0 b1 b2 B) {k : Nat} (hk : k < 3) (st sb : Nat → Int32) (pu pe tu ca ho va : Nat → Int64) (ma ac : Nat → Int32) : Sx (fX8_valueWithout (nI k) 0 tr b0 b1 b2 st sb pu pe tu ca ho va ma ac) (fun z => z.1 = lN (V1 τ (B k))) := by
  unfold fX8_valueWithout
  rw [isb8' hk, bd1_mk, if_neg one0, og32 (by omega) (by omega), sel8 hk, bd2_mk, gu0, bd1_mk]
  refine Sx.b8 (pb8 hf.cpy hT (hB k hk).1.cpy (hB k hk).2 _ _ _ _ _ _ _ _) ?_
  intro c0 c1 c2 c3 c4 c5 c6 c7 hsb
  exact Sx.e1 (root8 hsb) (Sx.mk rfl)
theorem q_book {tr b0 b1 b2 tree bs : Nat → Int32} {τ : Nat → Nat} {B : Nat → Nat → Nat} (hf : TC tr τ) (hf9 : TR tree 0 τ) (hT : TK τ) (hB : CB3 b0 b1 b2 B) (hb9 : ∀ k, k < 3 → RB bs k (B k)) (p1 p2 p3 : Int32) (st sb : Nat → Int32) (pu pe tu ca ho va : Nat → Int64) (ma ac : Nat → Int32) (x0 x1 x2 x3 : Int32) (pe9 : Nat → Int64) (a9 b9 : Int64) (wo9 ho9 : Nat → Int64) (ac9 : Nat → Int32) : Sx2 (fX8_book p1 p2 p3 tr b0 b1 b2 st sb pu pe tu ca ho va ma ac) (fX9_book p1 p2 p3 tree bs x0 x1 x2 x3 pe9 a9 b9 wo9 ho9 ac9) (fun _ _ => True) := by
  by_cases h1 : inr p1 (-100) 100
  rotate_left
  · exact Sx2.mk (by unfold fX8_book; rw [wi0 h1, bd1_mk, if_pos rfl]) (by unfold fX9_book; rw [in0 h1, bd1_mk, if_pos rfl]) (trivial)
  by_cases h2 : inr p2 (-100) 100
  rotate_left
  · exact Sx2.mk (by unfold fX8_book; rw [wi1 h1, bd1_mk, if_neg one0, wi0 h2, bd1_mk, if_pos rfl]) (by unfold fX9_book; rw [in1 h1, bd1_mk, if_neg one0, in0 h2, bd1_mk, if_pos rfl]) (trivial)
  by_cases h3 : inr p3 (-100) 100
  rotate_left
  · exact Sx2.mk (by unfold fX8_book; rw [wi1 h1, bd1_mk, if_neg one0, wi1 h2, bd1_mk, if_neg one0, wi0 h3, bd1_mk, if_pos rfl]) (by unfold fX9_book; rw [in1 h1, bd1_mk, if_neg one0, in1 h2, bd1_mk, if_neg one0, in0 h3, bd1_mk, if_pos rfl]) (trivial)
  refine Sx2.val (v := Int32.toInt64 p1 * lN (V1 τ (B 0)) + Int32.toInt64 p2 * lN (V1 τ (B 1)) + Int32.toInt64 p3 * lN (V1 τ (B 2))) ?_ ?_
  · unfold fX8_book
    rw [wi1 h1, bd1_mk, if_neg one0, wi1 h2, bd1_mk, if_neg one0, wi1 h3, bd1_mk, if_neg one0]
    refine Sx.b11 (vw0 hf hT hB (k := 0) (by omega) _ _ _ _ _ _ _ _ _ _) ?_
    rintro v0 _ _ _ _ _ _ _ _ _ _ rfl
    refine Sx.b11 (vw0 hf hT hB (k := 1) (by omega) _ _ _ _ _ _ _ _ _ _) ?_
    rintro v1 _ _ _ _ _ _ _ _ _ _ rfl
    refine Sx.b11 (vw0 hf hT hB (k := 2) (by omega) _ _ _ _ _ _ _ _ _ _) ?_
    rintro v2 _ _ _ _ _ _ _ _ _ _ rfl
    exact Sx.mk rfl
  · unfold fX9_book
    rw [in1 h1, bd1_mk, if_neg one0, in1 h2, bd1_mk, if_neg one0, in1 h3, bd1_mk, if_neg one0]
    refine Sx.b7 (tn9 hf9 hT x0 x1 x2 x3 pe9 a9 b9) ?_
    rintro d0 d1 d2 d3 pe' d5 d6 ⟨rfl, rfl, rfl, rfl, hP⟩
    dsimp only at hP ⊢
    refine Sx.b4 (vo9 (k := 0) (hb9 0 (by omega)) (hB 0 (by omega)).2 (prF_PK hT (by omega)) hP hT.n wo9 ho9 ac9) ?_
    rintro v a1 a2 a3 rfl
    rw [nm_mk]
    refine Sx.b4 (vo9 (k := 1) (hb9 1 (by omega)) (hB 1 (by omega)).2 (prF_PK hT (by omega)) hP hT.n _ _ _) ?_
    rintro v a1 a2 a3 rfl
    rw [nm_mk]
    refine Sx.b4 (vo9 (k := 2) (hb9 2 (by omega)) (hB 2 (by omega)).2 (prF_PK hT (by omega)) hP hT.n _ _ _) ?_
    rintro v a1 a2 a3 rfl
    exact Sx.mk ⟨rfl, trivial⟩
