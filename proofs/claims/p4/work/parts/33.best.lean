/-! pure: bestCall, bestPut: both sides (own rows) -/
def bDc (F : Nat → Nat) : Nat → Nat
  | 0 => 0
  | n + 1 => if F (n + 1) < F (bDc F n) then n + 1 else bDc F n
theorem bDc_le (F : Nat → Nat) (n : Nat) : bDc F n ≤ n := by
  induction n with
  | zero => exact Nat.le_refl 0
  | succ n ih =>
    unfold bDc
    split <;> omega
def Fbc (τ β : Nat → Nat) (c d : Nat) : Nat := V1 τ (bup β (9 + d) (c + 1))
theorem Fbc_b {τ β : Nat → Nat} (hT : TK τ) (hK : BK β) {c d : Nat} (hc : c ≤ 1000000) (hd : d < 6) : Fbc τ β c d ≤ 64000000007000 := V1_b hT (hK.up ⟨by omega, by omega, by omega, by omega, by omega, by omega, by omega, by omega, by omega⟩)
theorem bl8c {tr b0 b1 b2 : Nat → Int32} {τ : Nat → Nat} {B : Nat → Nat → Nat} (hf : TC tr τ) (hT : TK τ) (hB : CB3 b0 b1 b2 B) {k : Nat} (hk : k < 3) {c : Nat} (hc : c ≤ 1000000) (w : Int32) : ∀ (i n d : Nat) (x5 : Int32) (x6 : Int64) (st sb : Nat → Int32) (pu pe tu ca ho va : Nat → Int64) (ma ac : Nat → Int32), d + i = τ 0 → (d = 0 ∨ (x5 = nI (bDc (Fbc τ (B k) c) (d - 1)) ∧ x6 = lN (Fbc τ (B k) c (bDc (Fbc τ (B k) c) (d - 1))))) → Sx (lpX8_bestDay_20 (nI k) 20 (nI c) w tr b0 b1 b2 (n + i + 1) x5 x6 (nI d) st sb pu pe tu ca ho va ma ac) (fun z => τ 0 = 0 ∨ (z.1 = nI (bDc (Fbc τ (B k) c) (τ 0 - 1)) ∧ z.2.1 = lN (Fbc τ (B k) c (bDc (Fbc τ (B k) c) (τ 0 - 1))))) := by
  intro i
  induction i with
  | zero =>
    intro n d x5 x6 st sb pu pe tu ca ho va ma ac hi hg
    rw [lpX8_bestDay_20.eq_2]
    refine Sx.e1 (ld8 hf hT) (Sx.p (nI_le (by omega) (by omega)) (Sx.mk ?_))
    rw [show τ 0 = d by omega]
    exact hg
  | succ i ih =>
    intro n d x5 x6 st sb pu pe tu ca ho va ma ac hi hg
    rw [lpX8_bestDay_20.eq_2]
    refine Sx.e1 (ld8 hf hT) (Sx.n (nI_ge (by omega) (by omega)) ?_)
    rw [og32 (by omega) (by omega), sel8 hk, bd2_mk, i_20, nI_add, xset (by omega), bd1_mk]
    have hcb : CB (upd (va_cpy (bsel k b0 b1 b2) sb 0 0 36) (20 + d) (nI c)) (bup (B k) (9 + d) (c + 1)) := by
      have := (hB k hk).1.cpy (g := sb) |>.up (a := 9 + d) (x := c + 1) (v := nI c) (by omega) (by rw [eI_c (by omega), bup_s, iC_s])
      rwa [show cI (9 + d) = 20 + d by unfold cI; rw [if_neg (by omega), if_neg (by omega), if_pos (by omega)]; omega] at this
    have hbk : BK (bup (B k) (9 + d) (c + 1)) := (hB k hk).2.up ⟨by omega, by omega, by omega, by omega, by omega, by omega, by omega, by omega, by omega⟩
    refine Sx.b8 (pb8 hf.cpy hT hcb hbk _ _ _ _ _ _ _ _) ?_
    intro c0 c1 c2 c3 c4 c5 c6 c7 hsb
    refine Sx.e1 (root8 hsb) ?_
    have hFd : V1 τ (bup (B k) (9 + d) (c + 1)) = Fbc τ (B k) c d := rfl
    rw [hFd]
    have hb1 := Fbc_b hT (hB k hk).2 hc (show d < 6 by omega)
    by_cases h0 : d = 0
    · subst h0
      refine Sx.b1 (P := fun _ => True) (Sx.p rfl ?_) ?_
      · exact Sx.it (fun _ => Sx.mk trivial) (fun _ => Sx.mk trivial)
      · intro j _
        refine Sx.e2 (a0 := nI 0) (a1 := lN (Fbc τ (B k) c 0)) (if_pos rfl) ?_
        rw [nm_mk, nI_1, show n + (i + 1) = n + i + 1 by omega]
        exact ih n (0 + 1) _ _ _ _ _ _ _ _ _ _ _ _ (by omega) (Or.inr ⟨rfl, rfl⟩)
    · obtain ⟨e5, e6⟩ := hg.resolve_left h0
      subst e5; subst e6
      obtain ⟨e, rfl⟩ : ∃ e, d = e + 1 := ⟨d - 1, by omega⟩
      rw [Nat.add_sub_cancel]
      have hle := bDc_le (Fbc τ (B k) c) e
      have hb2 := Fbc_b hT (hB k hk).2 hc (show bDc (Fbc τ (B k) c) e < 6 by omega)
      have hbs : bDc (Fbc τ (B k) c) (e + 1) = if Fbc τ (B k) c (e + 1) < Fbc τ (B k) c (bDc (Fbc τ (B k) c) e) then e + 1 else bDc (Fbc τ (B k) c) e := rfl
      by_cases g : Fbc τ (B k) c (e + 1) < Fbc τ (B k) c (bDc (Fbc τ (B k) c) e)
      · rw [if_pos g] at hbs
        refine Sx.e1 (a0 := 1) (by rw [if_pos rfl, if_neg (fun q => by rw [pk_lLE (by omega) (by omega)] at q; omega)]) ?_
        refine Sx.e2 (a0 := nI (e + 1)) (a1 := lN (Fbc τ (B k) c (e + 1))) (by rw [if_neg (nI_ne0 (by omega) (by omega)), if_neg one0]) ?_
        rw [nm_mk, nI_1, show n + (i + 1) = n + i + 1 by omega]
        refine ih n (e + 1 + 1) _ _ _ _ _ _ _ _ _ _ _ _ (by omega) (Or.inr ?_)
        rw [Nat.add_sub_cancel, hbs]; exact ⟨rfl, rfl⟩
      · rw [if_neg g] at hbs
        refine Sx.e1 (a0 := 0) (by rw [if_pos rfl, if_pos ((pk_lLE (by omega) (by omega)).mpr (by omega))]) ?_
        refine Sx.e2 (a0 := nI (bDc (Fbc τ (B k) c) e)) (a1 := lN (Fbc τ (B k) c (bDc (Fbc τ (B k) c) e))) (by rw [if_neg (nI_ne0 (by omega) (by omega)), if_pos rfl]) ?_
        rw [nm_mk, nI_1, show n + (i + 1) = n + i + 1 by omega]
        refine ih n (e + 1 + 1) _ _ _ _ _ _ _ _ _ _ _ _ (by omega) (Or.inr ?_)
        rw [Nat.add_sub_cancel, hbs]; exact ⟨rfl, rfl⟩
def bWc (τ β : Nat → Nat) (c w : Nat) : Int64 := if w = 0 then lN (bDc (Fbc τ β c) (τ 0 - 1)) else lN (Fbc τ β c (bDc (Fbc τ β c) (τ 0 - 1)))
theorem bd8c {tr b0 b1 b2 : Nat → Int32} {τ : Nat → Nat} {B : Nat → Nat → Nat} (hf : TC tr τ) (hT : TK τ) (hB : CB3 b0 b1 b2 B) {k : Nat} (hk : k < 3) {c w : Nat} (hc : c ≤ 1000000) (hw : w < 2) (st sb : Nat → Int32) (pu pe tu ca ho va : Nat → Int64) (ma ac : Nat → Int32) : Sx (fX8_bestDay (nI k) 20 (nI c) (nI w) tr b0 b1 b2 st sb pu pe tu ca ho va ma ac) (fun z => z.1 = bWc τ (B k) c w) := by
  unfold fX8_bestDay
  obtain ⟨n, hn⟩ := fuN (τ 0 + 1) (by omega)
  rw [isb8' hk, bd1_mk, if_neg one0, hn]
  refine Sx.b12 (bl8c hf hT hB hk hc (nI w) (τ 0) n 0 0 0 st sb pu pe tu ca ho va ma ac (by omega) (Or.inl rfl)) ?_
  intro z0 z1 _ _ _ _ _ _ _ _ _ _ h
  obtain ⟨e1, e2⟩ := h.resolve_left (by omega)
  dsimp only at e1 e2
  subst e1; subst e2
  have hle := bDc_le (Fbc τ (B k) c) (τ 0 - 1)
  unfold bWc
  rcases (show w = 0 ∨ w = 1 by omega) with rfl | rfl
  · refine Sx.e1 (if_pos rfl) (Sx.mk ?_)
    rw [if_pos rfl, nI_l (by omega)]
  · exact Sx.e1 (if_neg one0) (Sx.mk rfl)
theorem bl9c {bs0 : Nat → Int32} {pe : Nat → Int64} {τ β : Nat → Nat} (hT : TK τ) {k : Nat} (hk : k < 3) (hK : BK β) (hP : RP pe (τ 0) (prF τ (τ 1))) {c : Nat} (hc : c ≤ 1000000) (w : Int32) : ∀ (i n d : Nat) (x5 : Int32) (x6 : Int64) (bs : Nat → Int32) (wo ho : Nat → Int64) (ac : Nat → Int32), d + i = τ 0 → RB bs k β → FrB 3 bs0 bs → ((d = 0 ∧ x5 = -1) ∨ (0 < d ∧ x5 = nI (bDc (Fbc τ β c) (d - 1)) ∧ x6 = lN (Fbc τ β c (bDc (Fbc τ β c) (d - 1))))) → Sx (lpX9_bestOne_47 (nI k) 9 (nI c) w (nI (τ 0)) (nI (τ 6)) (nI (τ 7)) (nI (τ 8)) pe (n + i + 1) x5 x6 (nI d) bs wo ho ac) (fun z => (z.1 = nI (bDc (Fbc τ β c) (τ 0 - 1)) ∧ z.2.1 = lN (Fbc τ β c (bDc (Fbc τ β c) (τ 0 - 1)))) ∧ FrB 3 bs0 z.2.2.1) := by
  intro i
  induction i with
  | zero =>
    intro n d x5 x6 bs wo ho ac hi hb hfr hg
    rw [lpX9_bestOne_47.eq_2]
    refine Sx.p (nI_le (by omega) (by omega)) (Sx.mk ?_)
    rcases hg with ⟨h, _⟩ | ⟨_, h⟩
    · omega
    · rw [show τ 0 = d by omega]
      exact ⟨h, hfr⟩
  | succ i ih =>
    intro n d x5 x6 bs wo ho ac hi hb hfr hg
    rw [lpX9_bestOne_47.eq_2]
    refine Sx.n (nI_ge (by omega) (by omega)) ?_
    refine Sx.b1 (cy9 (l := 3) (by omega) (by omega) (by omega) hb) ?_
    rintro b' ⟨hb', hfr'⟩
    rw [i_9, nI_add, i_3, se9 (by omega), bd1_mk]
    have hrb : RB (upd b' (27 * 3 + (9 + d)) (nI c)) 3 (bup β (9 + d) (c + 1)) := hb'.up (by omega) (by rw [rI_m (by omega), bup_s, iM_s])
    have hbk : BK (bup β (9 + d) (c + 1)) := hK.up ⟨by omega, by omega, by omega, by omega, by omega, by omega, by omega, by omega, by omega⟩
    have hfr2 : FrB 3 bs (upd b' (27 * 3 + (9 + d)) (nI c)) := hfr'.tr (FrB.up (by omega) _)
    refine Sx.b4 (vo9 (k := 3) hrb hbk (prF_PK hT (by omega)) hP hT.n wo ho ac) ?_
    rintro v a1 a2 a3 rfl
    have hFd : V0 (prF τ (τ 1)) (τ 0) (τ 6) (τ 7) (τ 8) (bup β (9 + d) (c + 1)) = Fbc τ β c d := rfl
    rw [hFd]
    have hb1 := Fbc_b hT hK hc (show d < 6 by omega)
    have hnx := hb.fr (l := 3) (by omega) hfr2
    rcases hg with ⟨h0, rfl⟩ | ⟨h0, rfl, rfl⟩
    · subst h0
      refine Sx.e2 (a0 := nI 0) (a1 := lN (Fbc τ β c 0)) (if_pos rfl) ?_
      rw [nm_mk, nI_1, show n + (i + 1) = n + i + 1 by omega]
      exact ih n (0 + 1) _ _ _ _ _ _ (by omega) hnx (hfr.tr hfr2) (Or.inr ⟨by omega, rfl, rfl⟩)
    · obtain ⟨e, rfl⟩ : ∃ e, d = e + 1 := ⟨d - 1, by omega⟩
      rw [Nat.add_sub_cancel]
      have hle := bDc_le (Fbc τ β c) e
      have hb2 := Fbc_b hT hK hc (show bDc (Fbc τ β c) e < 6 by omega)
      have hbs : bDc (Fbc τ β c) (e + 1) = if Fbc τ β c (e + 1) < Fbc τ β c (bDc (Fbc τ β c) e) then e + 1 else bDc (Fbc τ β c) e := rfl
      have hm1 : ¬ nI (bDc (Fbc τ β c) e) = -1 := fun q => by
        have := nI_toInt (show bDc (Fbc τ β c) e < 2 ^ 31 by omega)
        rw [q] at this
        exact absurd this (by show ¬ ((-1 : Int) = _); omega)
      by_cases g : Fbc τ β c (e + 1) < Fbc τ β c (bDc (Fbc τ β c) e)
      · rw [if_pos g] at hbs
        refine Sx.e2 (a0 := nI (e + 1)) (a1 := lN (Fbc τ β c (e + 1))) (by rw [if_neg hm1, if_pos rfl, if_pos ((pk_lLT (by omega) (by omega)).mpr g)]) ?_
        rw [nm_mk, nI_1, show n + (i + 1) = n + i + 1 by omega]
        refine ih n (e + 1 + 1) _ _ _ _ _ _ (by omega) hnx (hfr.tr hfr2) (Or.inr ⟨by omega, ?_⟩)
        rw [Nat.add_sub_cancel, hbs]; exact ⟨rfl, rfl⟩
      · rw [if_neg g] at hbs
        refine Sx.e2 (a0 := nI (bDc (Fbc τ β c) e)) (a1 := lN (Fbc τ β c (bDc (Fbc τ β c) e))) (by rw [if_neg hm1, if_pos rfl, if_neg (fun q => g ((pk_lLT (by omega) (by omega)).mp q))]) ?_
        rw [nm_mk, nI_1, show n + (i + 1) = n + i + 1 by omega]
        refine ih n (e + 1 + 1) _ _ _ _ _ _ (by omega) hnx (hfr.tr hfr2) (Or.inr ⟨by omega, ?_⟩)
        rw [Nat.add_sub_cancel, hbs]; exact ⟨rfl, rfl⟩
theorem bo9c {tree bs : Nat → Int32} {τ β : Nat → Nat} (hf9 : TR tree 0 τ) (hT : TK τ) {k : Nat} (hk : k < 3) (hb : RB bs k β) (hK : BK β) {c w : Nat} (hc : c ≤ 1000000) (hw : w < 2) (x0 x1 x2 x3 : Int32) (pe9 : Nat → Int64) (a9 b9 : Int64) (wo9 ho9 : Nat → Int64) (ac9 : Nat → Int32) : Sx (fX9_bestOne (nI k) 9 (nI c) (nI w) tree bs x0 x1 x2 x3 pe9 a9 b9 wo9 ho9 ac9) (fun z => z.1 = bWc τ β c w ∧ FrB 3 bs z.2.1) := by
  unfold fX9_bestOne
  rw [isb9' hk, bd1_mk, if_neg one0, in1 (x := nI c) (A := 0) (B := 1000000) (by rw [inr_nI (by omega)]; omega), bd1_mk, if_neg one0, in1 (x := nI w) (A := 0) (B := 1) (by rw [inr_nI (by omega)]; omega), bd1_mk, if_neg one0]
  refine Sx.b7 (tn9 hf9 hT x0 x1 x2 x3 pe9 a9 b9) ?_
  rintro d0 d1 d2 d3 pe' d5 d6 ⟨rfl, rfl, rfl, rfl, hP⟩
  dsimp only at hP ⊢
  obtain ⟨n, hn⟩ := fuN (τ 0 + 1) (by omega)
  rw [hn]
  refine Sx.b6 (bl9c (bs0 := bs) hT hk hK hP hc (nI w) (τ 0) n 0 (-1) 0 bs wo9 ho9 ac9 (by omega) hb (FrB.refl _ _) (Or.inl ⟨rfl, rfl⟩)) ?_
  rintro z0 z1 z2 z3 z4 z5 ⟨⟨e1, e2⟩, hfr⟩
  dsimp only at e1 e2 hfr
  subst e1; subst e2
  have hle := bDc_le (Fbc τ β c) (τ 0 - 1)
  unfold bWc
  rcases (show w = 0 ∨ w = 1 by omega) with rfl | rfl
  · refine Sx.e1 (if_pos rfl) (Sx.mk ⟨?_, hfr⟩)
    rw [if_pos rfl, nI_l (by omega)]
  · exact Sx.e1 (if_neg one0) (Sx.mk ⟨rfl, hfr⟩)
def bDp (F : Nat → Nat) : Nat → Nat
  | 0 => 0
  | n + 1 => if F (bDp F n) < F (n + 1) then n + 1 else bDp F n
theorem bDp_le (F : Nat → Nat) (n : Nat) : bDp F n ≤ n := by
  induction n with
  | zero => exact Nat.le_refl 0
  | succ n ih =>
    unfold bDp
    split <;> omega
def Fbp (τ β : Nat → Nat) (c d : Nat) : Nat := V1 τ (bup β (15 + d) (c + 1))
theorem Fbp_b {τ β : Nat → Nat} (hT : TK τ) (hK : BK β) {c d : Nat} (hc : c ≤ 1000000) (hd : d < 6) : Fbp τ β c d ≤ 64000000007000 := V1_b hT (hK.up ⟨by omega, by omega, by omega, by omega, by omega, by omega, by omega, by omega, by omega⟩)
theorem bl8p {tr b0 b1 b2 : Nat → Int32} {τ : Nat → Nat} {B : Nat → Nat → Nat} (hf : TC tr τ) (hT : TK τ) (hB : CB3 b0 b1 b2 B) {k : Nat} (hk : k < 3) {c : Nat} (hc : c ≤ 1000000) (w : Int32) : ∀ (i n d : Nat) (x5 : Int32) (x6 : Int64) (st sb : Nat → Int32) (pu pe tu ca ho va : Nat → Int64) (ma ac : Nat → Int32), d + i = τ 0 → (d = 0 ∨ (x5 = nI (bDp (Fbp τ (B k) c) (d - 1)) ∧ x6 = lN (Fbp τ (B k) c (bDp (Fbp τ (B k) c) (d - 1))))) → Sx (lpX8_bestDay_20 (nI k) 30 (nI c) w tr b0 b1 b2 (n + i + 1) x5 x6 (nI d) st sb pu pe tu ca ho va ma ac) (fun z => τ 0 = 0 ∨ (z.1 = nI (bDp (Fbp τ (B k) c) (τ 0 - 1)) ∧ z.2.1 = lN (Fbp τ (B k) c (bDp (Fbp τ (B k) c) (τ 0 - 1))))) := by
  intro i
  induction i with
  | zero =>
    intro n d x5 x6 st sb pu pe tu ca ho va ma ac hi hg
    rw [lpX8_bestDay_20.eq_2]
    refine Sx.e1 (ld8 hf hT) (Sx.p (nI_le (by omega) (by omega)) (Sx.mk ?_))
    rw [show τ 0 = d by omega]
    exact hg
  | succ i ih =>
    intro n d x5 x6 st sb pu pe tu ca ho va ma ac hi hg
    rw [lpX8_bestDay_20.eq_2]
    refine Sx.e1 (ld8 hf hT) (Sx.n (nI_ge (by omega) (by omega)) ?_)
    rw [og32 (by omega) (by omega), sel8 hk, bd2_mk, i_30, nI_add, xset (by omega), bd1_mk]
    have hcb : CB (upd (va_cpy (bsel k b0 b1 b2) sb 0 0 36) (30 + d) (nI c)) (bup (B k) (15 + d) (c + 1)) := by
      have := (hB k hk).1.cpy (g := sb) |>.up (a := 15 + d) (x := c + 1) (v := nI c) (by omega) (by rw [eI_c (by omega), bup_s, iC_s])
      rwa [show cI (15 + d) = 30 + d by unfold cI; rw [if_neg (by omega), if_neg (by omega), if_neg (by omega), if_pos (by omega)]; omega] at this
    have hbk : BK (bup (B k) (15 + d) (c + 1)) := (hB k hk).2.up ⟨by omega, by omega, by omega, by omega, by omega, by omega, by omega, by omega, by omega⟩
    refine Sx.b8 (pb8 hf.cpy hT hcb hbk _ _ _ _ _ _ _ _) ?_
    intro c0 c1 c2 c3 c4 c5 c6 c7 hsb
    refine Sx.e1 (root8 hsb) ?_
    have hFd : V1 τ (bup (B k) (15 + d) (c + 1)) = Fbp τ (B k) c d := rfl
    rw [hFd]
    have hb1 := Fbp_b hT (hB k hk).2 hc (show d < 6 by omega)
    by_cases h0 : d = 0
    · subst h0
      refine Sx.b1 (P := fun _ => True) (Sx.n (by decide) ?_) ?_
      · exact Sx.it (fun _ => Sx.mk trivial) (fun _ => Sx.mk trivial)
      · intro j _
        refine Sx.e2 (a0 := nI 0) (a1 := lN (Fbp τ (B k) c 0)) (if_pos rfl) ?_
        rw [nm_mk, nI_1, show n + (i + 1) = n + i + 1 by omega]
        exact ih n (0 + 1) _ _ _ _ _ _ _ _ _ _ _ _ (by omega) (Or.inr ⟨rfl, rfl⟩)
    · obtain ⟨e5, e6⟩ := hg.resolve_left h0
      subst e5; subst e6
      obtain ⟨e, rfl⟩ : ∃ e, d = e + 1 := ⟨d - 1, by omega⟩
      rw [Nat.add_sub_cancel]
      have hle := bDp_le (Fbp τ (B k) c) e
      have hb2 := Fbp_b hT (hB k hk).2 hc (show bDp (Fbp τ (B k) c) e < 6 by omega)
      have hbs : bDp (Fbp τ (B k) c) (e + 1) = if Fbp τ (B k) c (bDp (Fbp τ (B k) c) e) < Fbp τ (B k) c (e + 1) then e + 1 else bDp (Fbp τ (B k) c) e := rfl
      by_cases g : Fbp τ (B k) c (bDp (Fbp τ (B k) c) e) < Fbp τ (B k) c (e + 1)
      · rw [if_pos g] at hbs
        refine Sx.e1 (a0 := 1) (by rw [if_neg (by decide), if_neg (fun q => by rw [pk_lLE (by omega) (by omega)] at q; omega)]) ?_
        refine Sx.e2 (a0 := nI (e + 1)) (a1 := lN (Fbp τ (B k) c (e + 1))) (by rw [if_neg (nI_ne0 (by omega) (by omega)), if_neg one0]) ?_
        rw [nm_mk, nI_1, show n + (i + 1) = n + i + 1 by omega]
        refine ih n (e + 1 + 1) _ _ _ _ _ _ _ _ _ _ _ _ (by omega) (Or.inr ?_)
        rw [Nat.add_sub_cancel, hbs]; exact ⟨rfl, rfl⟩
      · rw [if_neg g] at hbs
        refine Sx.e1 (a0 := 0) (by rw [if_neg (by decide), if_pos ((pk_lLE (by omega) (by omega)).mpr (by omega))]) ?_
        refine Sx.e2 (a0 := nI (bDp (Fbp τ (B k) c) e)) (a1 := lN (Fbp τ (B k) c (bDp (Fbp τ (B k) c) e))) (by rw [if_neg (nI_ne0 (by omega) (by omega)), if_pos rfl]) ?_
        rw [nm_mk, nI_1, show n + (i + 1) = n + i + 1 by omega]
        refine ih n (e + 1 + 1) _ _ _ _ _ _ _ _ _ _ _ _ (by omega) (Or.inr ?_)
        rw [Nat.add_sub_cancel, hbs]; exact ⟨rfl, rfl⟩
def bWp (τ β : Nat → Nat) (c w : Nat) : Int64 := if w = 0 then lN (bDp (Fbp τ β c) (τ 0 - 1)) else lN (Fbp τ β c (bDp (Fbp τ β c) (τ 0 - 1)))
theorem bd8p {tr b0 b1 b2 : Nat → Int32} {τ : Nat → Nat} {B : Nat → Nat → Nat} (hf : TC tr τ) (hT : TK τ) (hB : CB3 b0 b1 b2 B) {k : Nat} (hk : k < 3) {c w : Nat} (hc : c ≤ 1000000) (hw : w < 2) (st sb : Nat → Int32) (pu pe tu ca ho va : Nat → Int64) (ma ac : Nat → Int32) : Sx (fX8_bestDay (nI k) 30 (nI c) (nI w) tr b0 b1 b2 st sb pu pe tu ca ho va ma ac) (fun z => z.1 = bWp τ (B k) c w) := by
  unfold fX8_bestDay
  obtain ⟨n, hn⟩ := fuN (τ 0 + 1) (by omega)
  rw [isb8' hk, bd1_mk, if_neg one0, hn]
  refine Sx.b12 (bl8p hf hT hB hk hc (nI w) (τ 0) n 0 0 0 st sb pu pe tu ca ho va ma ac (by omega) (Or.inl rfl)) ?_
  intro z0 z1 _ _ _ _ _ _ _ _ _ _ h
  obtain ⟨e1, e2⟩ := h.resolve_left (by omega)
  dsimp only at e1 e2
  subst e1; subst e2
  have hle := bDp_le (Fbp τ (B k) c) (τ 0 - 1)
  unfold bWp
  rcases (show w = 0 ∨ w = 1 by omega) with rfl | rfl
  · refine Sx.e1 (if_pos rfl) (Sx.mk ?_)
    rw [if_pos rfl, nI_l (by omega)]
  · exact Sx.e1 (if_neg one0) (Sx.mk rfl)
theorem bl9p {bs0 : Nat → Int32} {pe : Nat → Int64} {τ β : Nat → Nat} (hT : TK τ) {k : Nat} (hk : k < 3) (hK : BK β) (hP : RP pe (τ 0) (prF τ (τ 1))) {c : Nat} (hc : c ≤ 1000000) (w : Int32) : ∀ (i n d : Nat) (x5 : Int32) (x6 : Int64) (bs : Nat → Int32) (wo ho : Nat → Int64) (ac : Nat → Int32), d + i = τ 0 → RB bs k β → FrB 3 bs0 bs → ((d = 0 ∧ x5 = -1) ∨ (0 < d ∧ x5 = nI (bDp (Fbp τ β c) (d - 1)) ∧ x6 = lN (Fbp τ β c (bDp (Fbp τ β c) (d - 1))))) → Sx (lpX9_bestOne_47 (nI k) 15 (nI c) w (nI (τ 0)) (nI (τ 6)) (nI (τ 7)) (nI (τ 8)) pe (n + i + 1) x5 x6 (nI d) bs wo ho ac) (fun z => (z.1 = nI (bDp (Fbp τ β c) (τ 0 - 1)) ∧ z.2.1 = lN (Fbp τ β c (bDp (Fbp τ β c) (τ 0 - 1)))) ∧ FrB 3 bs0 z.2.2.1) := by
  intro i
  induction i with
  | zero =>
    intro n d x5 x6 bs wo ho ac hi hb hfr hg
    rw [lpX9_bestOne_47.eq_2]
    refine Sx.p (nI_le (by omega) (by omega)) (Sx.mk ?_)
    rcases hg with ⟨h, _⟩ | ⟨_, h⟩
    · omega
    · rw [show τ 0 = d by omega]
      exact ⟨h, hfr⟩
  | succ i ih =>
    intro n d x5 x6 bs wo ho ac hi hb hfr hg
    rw [lpX9_bestOne_47.eq_2]
    refine Sx.n (nI_ge (by omega) (by omega)) ?_
    refine Sx.b1 (cy9 (l := 3) (by omega) (by omega) (by omega) hb) ?_
    rintro b' ⟨hb', hfr'⟩
    rw [i_15, nI_add, i_3, se9 (by omega), bd1_mk]
    have hrb : RB (upd b' (27 * 3 + (15 + d)) (nI c)) 3 (bup β (15 + d) (c + 1)) := hb'.up (by omega) (by rw [rI_m (by omega), bup_s, iM_s])
    have hbk : BK (bup β (15 + d) (c + 1)) := hK.up ⟨by omega, by omega, by omega, by omega, by omega, by omega, by omega, by omega, by omega⟩
    have hfr2 : FrB 3 bs (upd b' (27 * 3 + (15 + d)) (nI c)) := hfr'.tr (FrB.up (by omega) _)
    refine Sx.b4 (vo9 (k := 3) hrb hbk (prF_PK hT (by omega)) hP hT.n wo ho ac) ?_
    rintro v a1 a2 a3 rfl
    have hFd : V0 (prF τ (τ 1)) (τ 0) (τ 6) (τ 7) (τ 8) (bup β (15 + d) (c + 1)) = Fbp τ β c d := rfl
    rw [hFd]
    have hb1 := Fbp_b hT hK hc (show d < 6 by omega)
    have hnx := hb.fr (l := 3) (by omega) hfr2
    rcases hg with ⟨h0, rfl⟩ | ⟨h0, rfl, rfl⟩
    · subst h0
      refine Sx.e2 (a0 := nI 0) (a1 := lN (Fbp τ β c 0)) (if_pos rfl) ?_
      rw [nm_mk, nI_1, show n + (i + 1) = n + i + 1 by omega]
      exact ih n (0 + 1) _ _ _ _ _ _ (by omega) hnx (hfr.tr hfr2) (Or.inr ⟨by omega, rfl, rfl⟩)
    · obtain ⟨e, rfl⟩ : ∃ e, d = e + 1 := ⟨d - 1, by omega⟩
      rw [Nat.add_sub_cancel]
      have hle := bDp_le (Fbp τ β c) e
      have hb2 := Fbp_b hT hK hc (show bDp (Fbp τ β c) e < 6 by omega)
      have hbs : bDp (Fbp τ β c) (e + 1) = if Fbp τ β c (bDp (Fbp τ β c) e) < Fbp τ β c (e + 1) then e + 1 else bDp (Fbp τ β c) e := rfl
      have hm1 : ¬ nI (bDp (Fbp τ β c) e) = -1 := fun q => by
        have := nI_toInt (show bDp (Fbp τ β c) e < 2 ^ 31 by omega)
        rw [q] at this
        exact absurd this (by show ¬ ((-1 : Int) = _); omega)
      by_cases g : Fbp τ β c (bDp (Fbp τ β c) e) < Fbp τ β c (e + 1)
      · rw [if_pos g] at hbs
        refine Sx.e2 (a0 := nI (e + 1)) (a1 := lN (Fbp τ β c (e + 1))) (by rw [if_neg hm1, if_neg (by decide), if_pos ((pk_lLT (by omega) (by omega)).mpr g)]) ?_
        rw [nm_mk, nI_1, show n + (i + 1) = n + i + 1 by omega]
        refine ih n (e + 1 + 1) _ _ _ _ _ _ (by omega) hnx (hfr.tr hfr2) (Or.inr ⟨by omega, ?_⟩)
        rw [Nat.add_sub_cancel, hbs]; exact ⟨rfl, rfl⟩
      · rw [if_neg g] at hbs
        refine Sx.e2 (a0 := nI (bDp (Fbp τ β c) e)) (a1 := lN (Fbp τ β c (bDp (Fbp τ β c) e))) (by rw [if_neg hm1, if_neg (by decide), if_neg (fun q => g ((pk_lLT (by omega) (by omega)).mp q))]) ?_
        rw [nm_mk, nI_1, show n + (i + 1) = n + i + 1 by omega]
        refine ih n (e + 1 + 1) _ _ _ _ _ _ (by omega) hnx (hfr.tr hfr2) (Or.inr ⟨by omega, ?_⟩)
        rw [Nat.add_sub_cancel, hbs]; exact ⟨rfl, rfl⟩
theorem bo9p {tree bs : Nat → Int32} {τ β : Nat → Nat} (hf9 : TR tree 0 τ) (hT : TK τ) {k : Nat} (hk : k < 3) (hb : RB bs k β) (hK : BK β) {c w : Nat} (hc : c ≤ 1000000) (hw : w < 2) (x0 x1 x2 x3 : Int32) (pe9 : Nat → Int64) (a9 b9 : Int64) (wo9 ho9 : Nat → Int64) (ac9 : Nat → Int32) : Sx (fX9_bestOne (nI k) 15 (nI c) (nI w) tree bs x0 x1 x2 x3 pe9 a9 b9 wo9 ho9 ac9) (fun z => z.1 = bWp τ β c w ∧ FrB 3 bs z.2.1) := by
  unfold fX9_bestOne
  rw [isb9' hk, bd1_mk, if_neg one0, in1 (x := nI c) (A := 0) (B := 1000000) (by rw [inr_nI (by omega)]; omega), bd1_mk, if_neg one0, in1 (x := nI w) (A := 0) (B := 1) (by rw [inr_nI (by omega)]; omega), bd1_mk, if_neg one0]
  refine Sx.b7 (tn9 hf9 hT x0 x1 x2 x3 pe9 a9 b9) ?_
  rintro d0 d1 d2 d3 pe' d5 d6 ⟨rfl, rfl, rfl, rfl, hP⟩
  dsimp only at hP ⊢
  obtain ⟨n, hn⟩ := fuN (τ 0 + 1) (by omega)
  rw [hn]
  refine Sx.b6 (bl9p (bs0 := bs) hT hk hK hP hc (nI w) (τ 0) n 0 (-1) 0 bs wo9 ho9 ac9 (by omega) hb (FrB.refl _ _) (Or.inl ⟨rfl, rfl⟩)) ?_
  rintro z0 z1 z2 z3 z4 z5 ⟨⟨e1, e2⟩, hfr⟩
  dsimp only at e1 e2 hfr
  subst e1; subst e2
  have hle := bDp_le (Fbp τ β c) (τ 0 - 1)
  unfold bWp
  rcases (show w = 0 ∨ w = 1 by omega) with rfl | rfl
  · refine Sx.e1 (if_pos rfl) (Sx.mk ⟨?_, hfr⟩)
    rw [if_pos rfl, nI_l (by omega)]
  · exact Sx.e1 (if_neg one0) (Sx.mk ⟨rfl, hfr⟩)
theorem q_bestCall {tr b0 b1 b2 tree bs : Nat → Int32} {τ : Nat → Nat} {B : Nat → Nat → Nat} (hf : TC tr τ) (hf9 : TR tree 0 τ) (hT : TK τ) (hB : CB3 b0 b1 b2 B) (hb9 : ∀ k, k < 3 → RB bs k (B k)) (p1 p2 p3 : Int32) (st sb : Nat → Int32) (pu pe tu ca ho va : Nat → Int64) (ma ac : Nat → Int32) (x0 x1 x2 x3 : Int32) (pe9 : Nat → Int64) (a9 b9 : Int64) (wo9 ho9 : Nat → Int64) (ac9 : Nat → Int32) : Sx2 (fX8_bestCall p1 p2 p3 tr b0 b1 b2 st sb pu pe tu ca ho va ma ac) (fX9_bestCall p1 p2 p3 tree bs x0 x1 x2 x3 pe9 a9 b9 wo9 ho9 ac9) (fun _ t => FrB 3 bs t.1) := by
  by_cases h1 : inr p1 0 2
  rotate_left
  · exact Sx2.mk (by unfold fX8_bestCall; rw [isb8n h1, bd1_mk, if_pos rfl]) (by unfold fX9_bestCall fX9_bestOne; rw [isb9n h1, bd1_mk, if_pos rfl]; rfl) (FrB.refl _ _)
  by_cases h2 : inr p2 0 1000000
  rotate_left
  · exact Sx2.mk (by unfold fX8_bestCall; rw [isb8y h1, bd1_mk, if_neg one0, isp8n h2, bd1_mk, if_pos rfl]) (by unfold fX9_bestCall fX9_bestOne; rw [isb9y h1, bd1_mk, if_neg one0, in0 h2, bd1_mk, if_pos rfl]; rfl) (FrB.refl _ _)
  by_cases h3 : inr p3 0 1
  rotate_left
  · exact Sx2.mk (by unfold fX8_bestCall; rw [isb8y h1, bd1_mk, if_neg one0, isp8y h2, bd1_mk, if_neg one0, wi0 h3, bd1_mk, if_pos rfl]) (by unfold fX9_bestCall fX9_bestOne; rw [isb9y h1, bd1_mk, if_neg one0, in1 h2, bd1_mk, if_neg one0, in0 h3, bd1_mk, if_pos rfl]; rfl) (FrB.refl _ _)
  obtain ⟨k, rfl, _, hk, _⟩ := inr_n h1 (by decide)
  have hk3 : k < 3 := by omega
  obtain ⟨c, rfl, _, c2, _⟩ := inr_n h2 (by decide)
  obtain ⟨w, rfl, _, w2, _⟩ := inr_n h3 (by decide)
  refine Sx2.val (v := bWc τ (B k) c w) ?_ ?_
  · unfold fX8_bestCall
    rw [isb8y h1, bd1_mk, if_neg one0, isp8y h2, bd1_mk, if_neg one0, wi1 h3, bd1_mk, if_neg one0]
    exact Sx.b11 (bd8c hf hT hB hk3 (by omega) (by omega) st sb pu pe tu ca ho va ma ac) (fun _ _ _ _ _ _ _ _ _ _ _ h => Sx.mk h)
  · unfold fX9_bestCall
    exact Sx.b12 (bo9c hf9 hT hk3 (hb9 k hk3) (hB k hk3).2 (by omega) (by omega) x0 x1 x2 x3 pe9 a9 b9 wo9 ho9 ac9) (fun _ _ _ _ _ _ _ _ _ _ _ _ h => Sx.mk h)
theorem q_bestPut {tr b0 b1 b2 tree bs : Nat → Int32} {τ : Nat → Nat} {B : Nat → Nat → Nat} (hf : TC tr τ) (hf9 : TR tree 0 τ) (hT : TK τ) (hB : CB3 b0 b1 b2 B) (hb9 : ∀ k, k < 3 → RB bs k (B k)) (p1 p2 p3 : Int32) (st sb : Nat → Int32) (pu pe tu ca ho va : Nat → Int64) (ma ac : Nat → Int32) (x0 x1 x2 x3 : Int32) (pe9 : Nat → Int64) (a9 b9 : Int64) (wo9 ho9 : Nat → Int64) (ac9 : Nat → Int32) : Sx2 (fX8_bestPut p1 p2 p3 tr b0 b1 b2 st sb pu pe tu ca ho va ma ac) (fX9_bestPut p1 p2 p3 tree bs x0 x1 x2 x3 pe9 a9 b9 wo9 ho9 ac9) (fun _ t => FrB 3 bs t.1) := by
  by_cases h1 : inr p1 0 2
  rotate_left
  · exact Sx2.mk (by unfold fX8_bestPut; rw [isb8n h1, bd1_mk, if_pos rfl]) (by unfold fX9_bestPut fX9_bestOne; rw [isb9n h1, bd1_mk, if_pos rfl]; rfl) (FrB.refl _ _)
  by_cases h2 : inr p2 0 1000000
  rotate_left
  · exact Sx2.mk (by unfold fX8_bestPut; rw [isb8y h1, bd1_mk, if_neg one0, isp8n h2, bd1_mk, if_pos rfl]) (by unfold fX9_bestPut fX9_bestOne; rw [isb9y h1, bd1_mk, if_neg one0, in0 h2, bd1_mk, if_pos rfl]; rfl) (FrB.refl _ _)
  by_cases h3 : inr p3 0 1
  rotate_left
  · exact Sx2.mk (by unfold fX8_bestPut; rw [isb8y h1, bd1_mk, if_neg one0, isp8y h2, bd1_mk, if_neg one0, wi0 h3, bd1_mk, if_pos rfl]) (by unfold fX9_bestPut fX9_bestOne; rw [isb9y h1, bd1_mk, if_neg one0, in1 h2, bd1_mk, if_neg one0, in0 h3, bd1_mk, if_pos rfl]; rfl) (FrB.refl _ _)
  obtain ⟨k, rfl, _, hk, _⟩ := inr_n h1 (by decide)
  have hk3 : k < 3 := by omega
  obtain ⟨c, rfl, _, c2, _⟩ := inr_n h2 (by decide)
  obtain ⟨w, rfl, _, w2, _⟩ := inr_n h3 (by decide)
  refine Sx2.val (v := bWp τ (B k) c w) ?_ ?_
  · unfold fX8_bestPut
    rw [isb8y h1, bd1_mk, if_neg one0, isp8y h2, bd1_mk, if_neg one0, wi1 h3, bd1_mk, if_neg one0]
    exact Sx.b11 (bd8p hf hT hB hk3 (by omega) (by omega) st sb pu pe tu ca ho va ma ac) (fun _ _ _ _ _ _ _ _ _ _ _ h => Sx.mk h)
  · unfold fX9_bestPut
    exact Sx.b12 (bo9p hf9 hT hk3 (hb9 k hk3) (hB k hk3).2 (by omega) (by omega) x0 x1 x2 x3 pe9 a9 b9 wo9 ho9 ac9) (fun _ _ _ _ _ _ _ _ _ _ _ _ h => Sx.mk h)
