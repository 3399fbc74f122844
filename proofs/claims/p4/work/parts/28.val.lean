/-! pure: the value on day 0, both sides; copies (own rows) -/
def V0 (π : Nat → Nat → Nat) (T p q R : Nat) (β : Nat → Nat) : Nat := vG π T p q R β (bV π β) T 0 0 (hiF β (π 0 0))
def V1 (τ β : Nat → Nat) : Nat := V0 (prF τ (τ 1)) (τ 0) (τ 6) (τ 7) (τ 8) β
theorem V0_b {π : Nat → Nat → Nat} {T p q R : Nat} {β : Nat → Nat} (hp : PK π) (hb : BK β) (hn : NK T p q R) : V0 π T p q R β ≤ 64000000007000 := vG_b hp hb hn (bV_SK hp hb) (by omega) _ _ _
theorem TK.n {τ : Nat → Nat} (h : TK τ) : NK (τ 0) (τ 6) (τ 7) (τ 8) := ⟨by omega, by omega, by omega⟩
theorem V1_b {τ β : Nat → Nat} (hT : TK τ) (hb : BK β) : V1 τ β ≤ 64000000007000 := V0_b (prF_PK hT (by omega)) hb hT.n
theorem vR_1 (π : Nat → Nat → Nat) (T p q R : Nat) (β : Nat → Nat) (σ : Nat → Nat → Nat → Nat → Nat → Nat) : vR π T p q R β σ 1 = vG π T p q R β σ T 0 0 (hiF β (π 0 0)) := by
  unfold vR
  rw [mR_1, show dR 1 = 0 by decide +kernel, show uR 1 = 0 by decide +kernel, show bR 1 = 0 by decide +kernel, Nat.sub_zero]
theorem root8 {τ β : Nat → Nat} {pe tu ca ho va : Nat → Int64} {ma ac : Nat → Int32} (hS : SB τ β pe tu ca ho va ma ac) : fX5_valueAt 1 va = some (lN (V1 τ β)) := by
  have h2 := Nat.two_pow_pos (τ 0)
  rw [i_1, va8 (by omega) (by omega), (hS.2 1 (Nat.le_refl 1) (Nat.le_refl 1) (by omega)).1, vR_1]
  rfl
theorem rootR {x y : Nat} {τ β : Nat → Nat} {pe tu ca ho va : Nat → Int64} {ma ac : Nat → Int32} (hS : SR x y τ β pe tu ca ho va ma ac) : fX5_valueAt 1 va = some (lN (vG (prF τ (τ 1)) (τ 0) (τ 6) (τ 7) (τ 8) β (rV x y (prF τ (τ 1)) β) (τ 0) 0 0 (hiF β (prF τ (τ 1) 0 0)))) := by
  have h2 := Nat.two_pow_pos (τ 0)
  rw [i_1, va8 (by omega) (by omega), (hS.2 1 (Nat.le_refl 1) (Nat.le_refl 1) (by omega)).1, vR_1]
theorem be9 {bs : Nat → Int32} {pe : Nat → Int64} {k T : Nat} {β : Nat → Nat} {π : Nat → Nat → Nat} (hb : RB bs k β) (hK : BK β) (hp : PK π) (hP : RP pe T π) (hT : T ≤ 6) : fX9_begin (nI k) bs pe = some (nI (atN 0 0 0 (hiF β (π 0 0)))) := by
  unfold fX9_begin
  rw [i_0, hi9 hb hK hp hP hT (Nat.le_refl 0) (Nat.zero_le T), bd1_mk, at9, bd1_mk]
theorem ok0 (π : Nat → Nat → Nat) (β : Nat → Nat) : okM π β 0 0 0 (hiF β (π 0 0)) := by
  have := hiF_lt β (π 0 0)
  exact ⟨by omega, by omega, by omega⟩
theorem vo9 {bs : Nat → Int32} {pe : Nat → Int64} {k T p q R : Nat} {β : Nat → Nat} {π : Nat → Nat → Nat} (hb : RB bs k β) (hK : BK β) (hp : PK π) (hP : RP pe T π) (hN : NK T p q R) (wo ho : Nat → Int64) (ac : Nat → Int32) : Sx (fX9_valueOf (nI k) bs (nI T) (nI p) (nI q) (nI R) pe wo ho ac) (fun z => z.1 = lN (V0 π T p q R β)) := by
  unfold fX9_valueOf
  refine Sx.b3 (pl9 hb hK hp hP hN wo ho ac) ?_
  intro a0 a1 a2 hg
  refine Sx.e1 (be9 hb hK hp hP hN.1.2) ?_
  have hl := hiF_lt β (π 0 0)
  have h784 : atN 0 0 0 (hiF β (π 0 0)) < 784 := atN_lt (by omega) (by omega) (by omega) (by omega)
  rw [og32 h784 (by omega), nI_clamp (by omega)]
  refine Sx.mk ?_
  exact (hg 0 0 0 (hiF β (π 0 0)) (Nat.zero_le T) (ok0 π β) trivial).1
theorem isb9' {k : Nat} (h : k < 3) : fX9_isBond (nI k) = some 1 := by
  unfold fX9_isBond
  rw [in_eq (A := 0) (B := 2) rfl rfl, bd1_mk, og_mk _ boB_bI, bI_t]
  rw [inr_nI (by omega)]; omega
theorem isb9n {x : Int32} (h : ¬ inr x 0 2) : fX9_isBond x = some 0 := by
  unfold fX9_isBond
  rw [in_eq (A := 0) (B := 2) rfl rfl, bd1_mk, og_mk _ boB_bI, bI_f h]
theorem isb8' {k : Nat} (h : k < 3) : fX8_isBond (nI k) = some 1 := by
  unfold fX8_isBond
  rw [wi_eq (A := 0) (B := 2) rfl rfl, bd1_mk, og_mk _ boB_bI, bI_t]
  rw [inr_nI (by omega)]; omega
theorem isb8n {x : Int32} (h : ¬ inr x 0 2) : fX8_isBond x = some 0 := by
  unfold fX8_isBond
  rw [wi_eq (A := 0) (B := 2) rfl rfl, bd1_mk, og_mk _ boB_bI, bI_f h]
/-- copies of the class -/
theorem TC.cpy {f g : Nat → Int32} {τ : Nat → Nat} (h : TC f τ) : TC (va_cpy f g 0 0 9) τ := by
  intro i hi
  rw [pk_cpy_in (by omega) (by omega), Nat.zero_add, Nat.sub_zero, h i hi]
theorem cpy36 {f g : Nat → Int32} {i : Nat} (h : i < 36) : va_cpy f g 0 0 36 i = f i := by
  rw [pk_cpy_in (by omega) (by omega), Nat.zero_add, Nat.sub_zero]
theorem CB.of {f g : Nat → Int32} {β : Nat → Nat} (h : CB f β) (e : ∀ i, i < 36 → g i = f i) : CB g β := by
  obtain ⟨⟨⟨a0, a1⟩, ⟨a2, a3⟩, ⟨a4, a5, a6⟩, a7⟩, b1, b2, b3⟩ := h
  refine ⟨⟨⟨?_, ?_⟩, ⟨?_, ?_⟩, ⟨?_, ?_, ?_⟩, ?_⟩, fun t h1 h2 => ?_, fun t h1 => ?_, fun t h1 => ?_⟩
  · rw [e 0 (by omega), a0]
  · rw [e 1 (by omega), a1]
  · rw [e 2 (by omega), a2]
  · rw [e 3 (by omega), a3]
  · rw [e 4 (by omega), a4]
  · rw [e 5 (by omega), a5]
  · rw [e 6 (by omega), a6]
  · rw [e 7 (by omega), a7]
  · rw [e (10 + t) (by omega), b1 t h1 h2]
  · rw [e (20 + t) (by omega), b2 t h1]
  · rw [e (30 + t) (by omega), b3 t h1]
theorem CB.cpy {f g : Nat → Int32} {β : Nat → Nat} (h : CB f β) : CB (va_cpy f g 0 0 36) β := h.of (fun _ hi => cpy36 hi)
def bsel {α : Type} (k : Nat) (b0 b1 b2 : α) : α := if k = 0 then b0 else if k = 1 then b1 else b2
theorem tkx8 (st sb d1 d2 : Nat → Int32) : fX5_take st sb d1 d2 = some (va_cpy d1 st 0 0 9, va_cpy d2 sb 0 0 36) := by
  unfold fX5_take fX7_takeFrom fX0_takeFrom
  rw [cl_0, cl_9, cl_36]; rfl
theorem sel8 {k : Nat} (hk : k < 3) (st sb d1 b0 b1 b2 : Nat → Int32) : (if nI k = 0 then bd2 (fX5_take st sb d1 b0) (fun x y => some (x, y)) else if nI k = 1 then bd2 (fX5_take st sb d1 b1) (fun x y => some (x, y)) else bd2 (fX5_take st sb d1 b2) (fun x y => some (x, y))) = some (va_cpy d1 st 0 0 9, va_cpy (bsel k b0 b1 b2) sb 0 0 36) := by
  rcases (show k = 0 ∨ k = 1 ∨ k = 2 by omega) with rfl | rfl | rfl
  · rw [if_pos (show nI 0 = (0 : Int32) from rfl), tkx8, bd2_mk]; rfl
  · rw [if_neg (show ¬ nI 1 = (0 : Int32) from one0), if_pos (show nI 1 = (1 : Int32) from rfl), tkx8, bd2_mk]; rfl
  · rw [if_neg (show ¬ nI 2 = (0 : Int32) by decide), if_neg (show ¬ nI 2 = (1 : Int32) by decide), tkx8, bd2_mk]; rfl
/-- the class's three bonds -/
abbrev CB3 (b0 b1 b2 : Nat → Int32) (B : Nat → Nat → Nat) : Prop := ∀ k, k < 3 → CB (bsel k b0 b1 b2) (B k) ∧ BK (B k)
theorem wo8 {k : Nat} (hk : k < 3) {tr b0 b1 b2 : Nat → Int32} {τ : Nat → Nat} {B : Nat → Nat → Nat} (hf : TC tr τ) (hT : TK τ) (hB : CB3 b0 b1 b2 B) (st sb : Nat → Int32) (pu pe tu ca ho va : Nat → Int64) (ma ac : Nat → Int32) : Sx (fX8_workOut (nI k) tr b0 b1 b2 st sb pu pe tu ca ho va ma ac) (fun z => TC z.1 τ ∧ CB z.2.1 (B k) ∧ SB τ (B k) z.2.2.2.1 z.2.2.2.2.1 z.2.2.2.2.2.1 z.2.2.2.2.2.2.1 z.2.2.2.2.2.2.2.1 z.2.2.2.2.2.2.2.2.1 z.2.2.2.2.2.2.2.2.2) := by
  unfold fX8_workOut
  rw [isb8' hk, bd1_mk, if_neg one0, og32 (by omega) (by omega), sel8 hk, bd2_mk]
  have hc : CB (va_cpy (bsel k b0 b1 b2) sb 0 0 36) (B k) := (hB k hk).1.cpy
  refine Sx.b10 (P := fun z => TC z.1 τ ∧ CB z.2.1 (B k) ∧ SB τ (B k) z.2.2.2.1 z.2.2.2.2.1 z.2.2.2.2.2.1 z.2.2.2.2.2.2.1 z.2.2.2.2.2.2.2.1 z.2.2.2.2.2.2.2.2.1 z.2.2.2.2.2.2.2.2.2) (Sx.b8 (pb8 (TC.cpy hf) hT hc (hB k hk).2 pu pe tu ca ho va ma ac) ?_) (fun _ _ _ _ _ _ _ _ _ _ h => Sx.mk h)
  intro a0 a1 a2 a3 a4 a5 a6 a7 hs
  exact Sx.mk ⟨TC.cpy hf, hc, hs⟩
/-- the reference's bonds: one set, copies -/
theorem se9 {bs : Nat → Int32} {k a : Nat} (h : 27 * k + a < 135) (v : Int32) : fX9_sets (nI k) (nI a) v bs = some (upd bs (27 * k + a) v) := by
  unfold fX9_sets
  rw [i_27, pk_mul, nI_add, og32 h (by omega), nm_mk, nI_clamp (by omega)]
theorem co2 {k l : Nat} (hk : k < 5) (hl : l < 5) (hkl : k ≠ l) (b0 : Nat → Int32) : ∀ (i n x : Nat) (bs : Nat → Int32), x + i = 27 → (∀ y, bs y = if 27 * l ≤ y ∧ y < 27 * l + x then b0 (y - 27 * l + 27 * k) else b0 y) → Sx (lpX9_copies_2 (nI k) (nI l) (n + i + 1) (nI x) bs) (fun z => ∀ y, z y = if 27 * l ≤ y ∧ y < 27 * l + 27 then b0 (y - 27 * l + 27 * k) else b0 y) := by
  intro i
  induction i with
  | zero =>
    intro n x bs hi hg
    rw [lpX9_copies_2.eq_2, show x = 27 by omega]
    refine Sx.p (show (27 : Int32) ≤ nI 27 from nI_le (a := 27) (Nat.le_refl _) (by omega)) (Sx.mk ?_)
    rw [show x = 27 by omega] at hg
    exact hg
  | succ i ih =>
    intro n x bs hi hg
    rw [lpX9_copies_2.eq_2]
    refine Sx.n (show ¬ (27 : Int32) ≤ nI x from nI_ge (b := 27) (by omega) (by omega)) ?_
    have e : fX9_of (nI k) (nI x) bs = some (b0 (27 * k + x)) := by
      unfold fX9_of
      rw [i_27, pk_mul, nI_add, og32 (by omega) (by omega), nI_clamp (by omega), hg, if_neg (by omega)]
    refine Sx.e1 e (Sx.e1 (se9 (by omega) _) ?_)
    rw [nm_mk, nI_1, show n + (i + 1) = n + i + 1 by omega]
    refine ih n (x + 1) _ (by omega) ?_
    intro y
    rw [upS]
    by_cases h : y = 27 * l + x
    · rw [if_pos h, if_pos (by omega)]
      congr 1
      omega
    · rw [if_neg h, hg]
      by_cases h2 : 27 * l ≤ y ∧ y < 27 * l + x
      · rw [if_pos h2, if_pos (by omega)]
      · rw [if_neg h2, if_neg (by omega)]
/-- outside the block of bond l nothing changes -/
abbrev FrB (l : Nat) (bs bs' : Nat → Int32) : Prop := ∀ y, ¬ (27 * l ≤ y ∧ y < 27 * l + 27) → bs' y = bs y
theorem cy9 {k l : Nat} (hk : k < 5) (hl : l < 5) (hkl : k ≠ l) {bs : Nat → Int32} {β : Nat → Nat} (hb : RB bs k β) : Sx (fX9_copies (nI k) (nI l) bs) (fun z => RB z l β ∧ FrB l bs z) := by
  unfold fX9_copies
  obtain ⟨n, hn⟩ := fuN 28 (by omega)
  rw [hn, i_0]
  refine Sx.b1 (co2 hk hl hkl bs 27 n 0 bs (by omega) (fun y => by rw [if_neg (by omega)])) ?_
  intro z hz
  refine Sx.mk ⟨⟨hl, fun i hi => ?_⟩, fun y hy => ?_⟩
  · rw [hz, if_pos (by omega), show 27 * l + i - 27 * l + 27 * k = 27 * k + i by omega, hb.2 i hi]
  · rw [hz, if_neg hy]
theorem RB.fr {bs bs' : Nat → Int32} {k l : Nat} {β : Nat → Nat} (h : RB bs k β) (hkl : k ≠ l) (hf : FrB l bs bs') : RB bs' k β := by
  refine ⟨h.1, fun i hi => ?_⟩
  rw [hf _ (by omega), h.2 i hi]
/-- one number of a bond -/
def bup (β : Nat → Nat) (a v : Nat) : Nat → Nat := fun i => if i = a then v else β i
theorem RB.up {bs : Nat → Int32} {k : Nat} {β : Nat → Nat} (h : RB bs k β) {a : Nat} (ha : a < 27) {v : Nat} {x : Int32} (hx : x = rI (bup β a v) a) : RB (upd bs (27 * k + a) x) k (bup β a v) := by
  refine ⟨h.1, fun i hi => ?_⟩
  rw [upS]
  by_cases e : i = a
  · subst e; rw [if_pos rfl, hx]
  · rw [if_neg (by omega), h.2 i hi]
    unfold rI bup
    rw [if_neg e]
theorem FrB.up {bs : Nat → Int32} {k a : Nat} (ha : a < 27) (x : Int32) : FrB k bs (upd bs (27 * k + a) x) := by
  intro y hy
  rw [upS, if_neg (by omega)]
theorem FrB.refl (k : Nat) (bs : Nat → Int32) : FrB k bs bs := fun _ _ => rfl
theorem FrB.tr {k : Nat} {a b c : Nat → Int32} (h : FrB k a b) (g : FrB k b c) : FrB k a c := fun y hy => (g y hy).trans (h y hy)
