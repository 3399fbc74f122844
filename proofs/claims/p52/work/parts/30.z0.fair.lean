section
/-! pure: fair coupons, ratios, rates (own rows) -/
theorem sac {c : Nat} (s0 : Nat → Int32) : ∀ (i n d : Nat) (sb : Nat → Int32), d + i = 7 → 1 ≤ d → (∀ y, sb y = if 11 ≤ y ∧ y < 10 + d then nI c else s0 y) → Sx (lpX0_setAllCoupons_2 (nI c) (n + i + 1) (nI d) sb) (fun z => ∀ y, z y = if 11 ≤ y ∧ y < 17 then nI c else s0 y) := by
  intro i
  induction i with
  | zero =>
    intro n d sb hi h1 hg
    rw [lpX0_setAllCoupons_2.eq_2]
    refine Sx.p (show (6 : Int32) < nI d from nI_lt (a := 6) (by omega) (by omega)) (Sx.mk ?_)
    rw [show d = 7 by omega] at hg
    exact hg
  | succ i ih =>
    intro n d sb hi h1 hg
    rw [lpX0_setAllCoupons_2.eq_2]
    refine Sx.n (show ¬ (6 : Int32) < nI d from nI_nlt (a := 6) (by omega) (by omega)) ?_
    rw [i_10, nI_add, og32 (by omega) (by omega), nm_mk, nm_mk, nI_clamp (by omega), nI_1, show n + (i + 1) = n + i + 1 by omega]
    refine ih n (d + 1) _ (by omega) (by omega) ?_
    intro y
    rw [upS, hg]
    by_cases e : y = 10 + d
    · rw [if_pos e, if_pos (by omega)]
    · rw [if_neg e]
      by_cases g : 11 ≤ y ∧ y < 10 + d
      · rw [if_pos g, if_pos (by omega)]
      · rw [if_neg g, if_neg (by omega)]
theorem CB.setc {sb sb' : Nat → Int32} {β : Nat → Nat} {c : Nat} (h : CB sb β) (e : ∀ y, sb' y = if 11 ≤ y ∧ y < 17 then nI c else sb y) : CB sb' (setc β c) := by
  obtain ⟨⟨⟨a0, a1⟩, ⟨a2, a3⟩, ⟨a4, a5, a6⟩, a7⟩, b1, b2, b3⟩ := h
  refine ⟨⟨⟨?_, ?_⟩, ⟨?_, ?_⟩, ⟨?_, ?_, ?_⟩, ?_⟩, fun t h1 h2 => ?_, fun t h1 => ?_, fun t h1 => ?_⟩
  · rw [e, if_neg (by omega), a0]; rfl
  · rw [e, if_neg (by omega), a1]; rfl
  · rw [e, if_neg (by omega), a2]; rfl
  · rw [e, if_neg (by omega), a3]; rfl
  · rw [e, if_neg (by omega), a4]; rfl
  · rw [e, if_neg (by omega), a5]; rfl
  · rw [e, if_neg (by omega), a6]; rfl
  · rw [e, if_neg (by omega), a7]; rfl
  · rw [e, if_pos (by omega), setc_y _ _ (by omega)]
  · rw [e, if_neg (by omega), b2 t h1, setc_n _ _ (by omega)]
  · rw [e, if_neg (by omega), b3 t h1, setc_n _ _ (by omega)]
theorem CB.up1 {sb : Nat → Int32} {β : Nat → Nat} (h : CB sb β) (c : Nat) : CB (upd sb 1 (nI c)) (bup β 1 c) := by
  obtain ⟨⟨⟨a0, a1⟩, ⟨a2, a3⟩, ⟨a4, a5, a6⟩, a7⟩, b1, b2, b3⟩ := h
  refine ⟨⟨⟨?_, ?_⟩, ⟨?_, ?_⟩, ⟨?_, ?_, ?_⟩, ?_⟩, fun t h1 h2 => ?_, fun t h1 => ?_, fun t h1 => ?_⟩
  · exact a0
  · rfl
  · exact a2
  · exact a3
  · exact a4
  · exact a5
  · exact a6
  · exact a7
  · rw [upS, if_neg (by omega), b1 t h1 h2, bup_n _ _ (by omega)]
  · rw [upS, if_neg (by omega), b2 t h1, bup_n _ _ (by omega)]
  · rw [upS, if_neg (by omega), b3 t h1, bup_n _ _ (by omega)]
theorem TC.up {f : Nat → Int32} {τ : Nat → Nat} (h : TC f τ) (a v : Nat) : TC (upd f a (nI v)) (bup τ a v) := by
  intro i hi
  rw [upS]
  unfold bup
  by_cases e : i = a
  · rw [if_pos e, if_pos e]
  · rw [if_neg e, if_neg e, h i hi]
theorem st7 {a : Nat} (ha : a < 9) (v : Int32) (f : Nat → Int32) : fX7_set (nI a) v f = some (upd f a v) := by
  unfold fX7_set
  rw [win1 a 0 8 (by omega), bd1_mk, if_neg one0, og32 ha (by omega), nm_mk, bd1_mk, nI_clamp (by omega)]
theorem TK.r8 {τ : Nat → Nat} (h : TK τ) {v : Nat} (hv : v ≤ 200) : TK (bup τ 8 v) := ⟨h.1, h.2.1, h.2.2.1, h.2.2.2.1, hv⟩
def setk0 (x : Nat → Nat) (c : Nat) : Nat → Nat := setc x c
def setk1 (x : Nat → Nat) (c : Nat) : Nat → Nat := bup x 1 c
def setk2 (x : Nat → Nat) (c : Nat) : Nat → Nat := bup x 8 c
theorem setk0_s (x : Nat → Nat) (a c : Nat) : setk0 (setk0 x a) c = setk0 x c := by
  funext i; unfold setk0 setc; split <;> rfl
theorem setk1_s (x : Nat → Nat) (a c : Nat) : setk1 (setk1 x a) c = setk1 x c := by
  funext i; unfold setk1 bup; split <;> rfl
theorem setk2_s (x : Nat → Nat) (a c : Nat) : setk2 (setk2 x a) c = setk2 x c := by
  funext i; unfold setk2 bup; split <;> rfl
theorem sk0 {sb : Nat → Int32} {β : Nat → Nat} (h : CB sb β) (c : Nat) : Sx (fX8_setTried_k0 (nI c) sb) (fun z => CB z (setk0 β c)) := by
  unfold fX8_setTried_k0 fX0_setAllCoupons
  obtain ⟨n, hn⟩ := fuN 7 (by omega)
  rw [hn, i_1]
  refine Sx.b1 (Sx.b1 (sac sb 6 n 1 sb (by omega) (by omega) (fun y => by rw [if_neg (by omega)])) (fun z hz => Sx.mk hz)) ?_
  intro z hz
  exact Sx.mk (h.setc hz)
theorem sk1 {sb : Nat → Int32} {β : Nat → Nat} (h : CB sb β) (c : Nat) : Sx (fX8_setTried_k1 (nI c) sb) (fun z => CB z (setk1 β c)) := by
  unfold fX8_setTried_k1
  rw [i_1]
  exact Sx.e1 (xset (by omega) _ _) (Sx.mk (h.up1 c))
theorem sk2 {st : Nat → Int32} {τ : Nat → Nat} (h : TC st τ) (c : Nat) : Sx (fX8_setTried_k2 (nI c) st) (fun z => TC z (setk2 τ c)) := by
  unfold fX8_setTried_k2
  rw [i_8]
  exact Sx.e1 (st7 (by omega) _ _) (Sx.mk (h.up 8 c))
def Pk0 (τ β : Nat → Nat) (aim : Int64) (c : Nat) : Prop := ¬ lN (V1 τ (setk0 β c)) < aim
def Pk1 (τ β : Nat → Nat) (aim : Int64) (c : Nat) : Prop := ¬ lN (V1 τ (setk1 β c)) < aim
def Pk2 (τ β : Nat → Nat) (aim : Int64) (c : Nat) : Prop := ¬ aim < lN (V1 (setk2 τ c) β)
theorem lN_leI {a b : Nat} (h : a ≤ b) (hb : b ≤ 64000000007000) : lN a ≤ lN b := (pk_lLE (by omega) (by omega)).mpr h
theorem Pk0_m {τ β : Nat → Nat} (hT : TK τ) (hK : BK β) (aim : Int64) : ∀ c d, c ≤ d → d ≤ 1000 → Pk0 τ β aim c → Pk0 τ β aim d := by
  intro c d h1 h2 h3 h4
  refine h3 (Int64.lt_of_le_of_lt (lN_leI ?_ (V1_b hT (setc_BK hK h2))) h4)
  exact V0_mono (by omega) (Nat.le_refl _) (setc_BL _ _ h1)
theorem Pk1_m {τ β : Nat → Nat} (hT : TK τ) (hK : BK β) (aim : Int64) : ∀ c d, c ≤ d → d ≤ 1000 → Pk1 τ β aim c → Pk1 τ β aim d := by
  intro c d h1 h2 h3 h4
  refine h3 (Int64.lt_of_le_of_lt (lN_leI ?_ (V1_b hT (bup1_BK hK h2))) h4)
  exact V0_mono (by omega) (Nat.le_refl _) (bup1_BL _ _ h1)
theorem BL.refl (π : Nat → Nat → Nat) (β : Nat → Nat) : BL π β β := ⟨Nat.le_refl _, rfl, rfl, rfl, fun _ => rfl, fun _ => rfl, fun _ => Nat.le_refl _, fun _ _ _ => Nat.le_refl _⟩
theorem V1_r (τ β : Nat → Nat) (r : Nat) : V1 (setk2 τ r) β = V0 (prF τ (τ 1)) (τ 0) (τ 6) (τ 7) r β := rfl
theorem Pk2_m {τ β : Nat → Nat} (hT : TK τ) (hK : BK β) (aim : Int64) : ∀ c d, c ≤ d → d ≤ 200 → Pk2 τ β aim c → Pk2 τ β aim d := by
  intro c d h1 h2 h3 h4
  refine h3 (Int64.lt_of_lt_of_le h4 (lN_leI ?_ (V1_b (hT.r8 (show c ≤ 200 by omega)) hK)))
  rw [V1_r, V1_r]
  exact V0_mono (by omega) h1 (BL.refl _ _)
theorem lf0 {st : Nat → Int32} {τ β : Nat → Nat} (aim : Int64) (hf : TC st τ) (hT : TK τ) (hK : BK β) : ∀ (i n a : Nat) (vx : Nat → Int32) (pu pe tu ca ho va : Nat → Int64) (ma ac : Nat → Int32), i ≤ 10 → Hv (Pk0 τ β aim) 1000 a (2 ^ i) → (∃ x, CB vx x ∧ ∀ c, setk0 x c = setk0 β c) → Sx (lpX8_leastFair_k0_40 aim st (n + i + 1) (nI a - 1) (nI (2 ^ i / 2)) vx pu pe tu ca ho va ma ac) (fun z => ∃ a, Hv (Pk0 τ β aim) 1000 a 1 ∧ z.1 = nI a - 1) := by
  intro i
  induction i with
  | zero =>
    intro n a vx pu pe tu ca ho va ma ac hi hv hx
    rw [lpX8_leastFair_k0_40.eq_2]
    exact Sx.p (show nI (2 ^ 0 / 2) < (1 : Int32) by decide) (Sx.mk ⟨a, hv, rfl⟩)
  | succ i ih =>
    intro n a vx pu pe tu ca ho va ma ac hi hv hx
    have h1 := Nat.two_pow_pos i
    have h2 : 2 ^ i ≤ 512 := Nat.pow_le_pow_right (by omega) (show i ≤ 9 by omega)
    have hs : 2 ^ (i + 1) / 2 = 2 ^ i := by rw [Nat.pow_succ, Nat.mul_div_cancel _ (by omega)]
    have hw : 2 ^ (i + 1) = 2 * 2 ^ i := by rw [Nat.pow_succ, Nat.mul_comm]
    have ha := hv.1
    rw [lpX8_leastFair_k0_40.eq_2, hs]
    refine Sx.n (show ¬ nI (2 ^ i) < (1 : Int32) from nI_nlt (b := 1) h1 (by omega)) ?_
    rw [nm_mk, m1s a h1]
    have hd : nI (2 ^ i) / 2 = nI (2 ^ i / 2) := by rw [i_2, pk_div (by omega) (by omega) (by omega)]
    by_cases g : 1000 < a + 2 ^ i - 1
    · refine Sx.b10 (P := fun z => (∃ x, CB z.2.1 x ∧ ∀ c, setk0 x c = setk0 β c) ∧ ∃ b, Hv (Pk0 τ β aim) 1000 b (2 ^ i) ∧ z.1 = nI b - 1) (Sx.p (show (1000 : Int32) < nI (a + 2 ^ i - 1) from nI_lt (a := 1000) g (by omega)) (Sx.mk ⟨hx, a, hv.skip (by omega), rfl⟩)) ?_
      rintro b0 b1 b2 b3 b4 b5 b6 b7 b8 b9 ⟨hx', b, hb, rfl⟩
      rw [nm_mk, hd, show n + (i + 1) = n + i + 1 by omega]
      exact ih n b _ _ _ _ _ _ _ _ _ (by omega) hb hx'
    · obtain ⟨x, hx1, hx2⟩ := hx
      refine Sx.b10 (P := fun z => (∃ x, CB z.2.1 x ∧ ∀ c, setk0 x c = setk0 β c) ∧ ∃ b, Hv (Pk0 τ β aim) 1000 b (2 ^ i) ∧ z.1 = nI b - 1) (Sx.n (show ¬ (1000 : Int32) < nI (a + 2 ^ i - 1) from nI_nlt (a := 1000) (by omega) (by omega)) ?_) ?_
      · refine Sx.b1 (sk0 hx1 _) ?_
        intro y hy
        rw [hx2] at hy
        refine Sx.b8 (pb8 hf hT hy (setc_BK hK (by omega)) pu pe tu ca ho va ma ac) ?_
        intro c0 c1 c2 c3 c4 c5 c6 c7 hsb
        refine Sx.e1 (root8 hsb) ?_
        have hxy : ∃ x, CB y x ∧ ∀ c, setk0 x c = setk0 β c := ⟨_, hy, fun c => setk0_s _ _ _⟩
        by_cases hP : Pk0 τ β aim (a + 2 ^ i - 1)
        · refine Sx.e1 (a0 := 1) (if_neg hP) (Sx.e1 (a0 := nI a - 1) (if_neg one0) (Sx.mk ⟨hxy, a, hv.fair (Pk0_m hT hK aim) (by omega) h1 hP, rfl⟩))
        · refine Sx.e1 (a0 := 0) (if_pos (Decidable.not_not.mp hP)) (Sx.e1 (a0 := nI (a + 2 ^ i - 1)) (if_pos rfl) (Sx.mk ⟨hxy, a + 2 ^ i, hv.un (Pk0_m hT hK aim) (by omega) h1 hw hP, ?_⟩))
          show nI (a + 2 ^ i - 1) = nI (a + 2 ^ i) - 1
          rw [i_1, pk_sub (by omega)]
      · rintro b0 b1 b2 b3 b4 b5 b6 b7 b8 b9 ⟨hx', b, hb, rfl⟩
        rw [nm_mk, hd, show n + (i + 1) = n + i + 1 by omega]
        exact ih n b _ _ _ _ _ _ _ _ _ (by omega) hb hx'
theorem fk0 {k : Nat} (hk : k < 3) {tr b0 b1 b2 : Nat → Int32} {τ : Nat → Nat} {B : Nat → Nat → Nat} (hf : TC tr τ) (hT : TK τ) (hB : CB3 b0 b1 b2 B) (aim : Int64) (st sb : Nat → Int32) (pu pe tu ca ho va : Nat → Int64) (ma ac : Nat → Int32) : Sx (fX8_leastFair_k0 (nI k) aim tr b0 b1 b2 st sb pu pe tu ca ho va ma ac) (fun z => Fa (Pk0 τ (B k) aim) 1000 z.1) := by
  unfold fX8_leastFair_k0
  rw [isb8' hk, bd1_mk, if_neg one0, og32 (by omega) (by omega), sel8 hk, bd2_mk]
  have hc : CB (va_cpy (bsel k b0 b1 b2) sb 0 0 36) (B k) := (hB k hk).1.cpy
  obtain ⟨n, hn⟩ := fuN 11 (by omega)
  rw [hn]
  have hv0 : Hv (Pk0 τ (B k) aim) 1000 0 (2 ^ 10) := ⟨by omega, fun c h => absurd h (by omega), fun c h1 h2 => absurd h2 (by omega)⟩
  refine Sx.b10 (lf0 aim (TC.cpy hf) hT (hB k hk).2 10 n 0 _ pu pe tu ca ho va ma ac (Nat.le_refl 10) hv0 ⟨_, hc, fun c => rfl⟩) ?_
  rintro c0 c1 c2 c3 c4 c5 c6 c7 c8 c9 ⟨a, hv, rfl⟩
  have he := hv.end (by omega)
  exact Sx.e1 (ite_so _ _) (Sx.mk he)
theorem lf1 {st : Nat → Int32} {τ β : Nat → Nat} (aim : Int64) (hf : TC st τ) (hT : TK τ) (hK : BK β) : ∀ (i n a : Nat) (vx : Nat → Int32) (pu pe tu ca ho va : Nat → Int64) (ma ac : Nat → Int32), i ≤ 10 → Hv (Pk1 τ β aim) 1000 a (2 ^ i) → (∃ x, CB vx x ∧ ∀ c, setk1 x c = setk1 β c) → Sx (lpX8_leastFair_k1_40 aim st (n + i + 1) (nI a - 1) (nI (2 ^ i / 2)) vx pu pe tu ca ho va ma ac) (fun z => ∃ a, Hv (Pk1 τ β aim) 1000 a 1 ∧ z.1 = nI a - 1) := by
  intro i
  induction i with
  | zero =>
    intro n a vx pu pe tu ca ho va ma ac hi hv hx
    rw [lpX8_leastFair_k1_40.eq_2]
    exact Sx.p (show nI (2 ^ 0 / 2) < (1 : Int32) by decide) (Sx.mk ⟨a, hv, rfl⟩)
  | succ i ih =>
    intro n a vx pu pe tu ca ho va ma ac hi hv hx
    have h1 := Nat.two_pow_pos i
    have h2 : 2 ^ i ≤ 512 := Nat.pow_le_pow_right (by omega) (show i ≤ 9 by omega)
    have hs : 2 ^ (i + 1) / 2 = 2 ^ i := by rw [Nat.pow_succ, Nat.mul_div_cancel _ (by omega)]
    have hw : 2 ^ (i + 1) = 2 * 2 ^ i := by rw [Nat.pow_succ, Nat.mul_comm]
    have ha := hv.1
    rw [lpX8_leastFair_k1_40.eq_2, hs]
    refine Sx.n (show ¬ nI (2 ^ i) < (1 : Int32) from nI_nlt (b := 1) h1 (by omega)) ?_
    rw [nm_mk, m1s a h1]
    have hd : nI (2 ^ i) / 2 = nI (2 ^ i / 2) := by rw [i_2, pk_div (by omega) (by omega) (by omega)]
    by_cases g : 1000 < a + 2 ^ i - 1
    · refine Sx.b10 (P := fun z => (∃ x, CB z.2.1 x ∧ ∀ c, setk1 x c = setk1 β c) ∧ ∃ b, Hv (Pk1 τ β aim) 1000 b (2 ^ i) ∧ z.1 = nI b - 1) (Sx.p (show (1000 : Int32) < nI (a + 2 ^ i - 1) from nI_lt (a := 1000) g (by omega)) (Sx.mk ⟨hx, a, hv.skip (by omega), rfl⟩)) ?_
      rintro b0 b1 b2 b3 b4 b5 b6 b7 b8 b9 ⟨hx', b, hb, rfl⟩
      rw [nm_mk, hd, show n + (i + 1) = n + i + 1 by omega]
      exact ih n b _ _ _ _ _ _ _ _ _ (by omega) hb hx'
    · obtain ⟨x, hx1, hx2⟩ := hx
      refine Sx.b10 (P := fun z => (∃ x, CB z.2.1 x ∧ ∀ c, setk1 x c = setk1 β c) ∧ ∃ b, Hv (Pk1 τ β aim) 1000 b (2 ^ i) ∧ z.1 = nI b - 1) (Sx.n (show ¬ (1000 : Int32) < nI (a + 2 ^ i - 1) from nI_nlt (a := 1000) (by omega) (by omega)) ?_) ?_
      · refine Sx.b1 (sk1 hx1 _) ?_
        intro y hy
        rw [hx2] at hy
        refine Sx.b8 (pb8 hf hT hy (bup1_BK hK (by omega)) pu pe tu ca ho va ma ac) ?_
        intro c0 c1 c2 c3 c4 c5 c6 c7 hsb
        refine Sx.e1 (root8 hsb) ?_
        have hxy : ∃ x, CB y x ∧ ∀ c, setk1 x c = setk1 β c := ⟨_, hy, fun c => setk1_s _ _ _⟩
        by_cases hP : Pk1 τ β aim (a + 2 ^ i - 1)
        · refine Sx.e1 (a0 := 1) (if_neg hP) (Sx.e1 (a0 := nI a - 1) (if_neg one0) (Sx.mk ⟨hxy, a, hv.fair (Pk1_m hT hK aim) (by omega) h1 hP, rfl⟩))
        · refine Sx.e1 (a0 := 0) (if_pos (Decidable.not_not.mp hP)) (Sx.e1 (a0 := nI (a + 2 ^ i - 1)) (if_pos rfl) (Sx.mk ⟨hxy, a + 2 ^ i, hv.un (Pk1_m hT hK aim) (by omega) h1 hw hP, ?_⟩))
          show nI (a + 2 ^ i - 1) = nI (a + 2 ^ i) - 1
          rw [i_1, pk_sub (by omega)]
      · rintro b0 b1 b2 b3 b4 b5 b6 b7 b8 b9 ⟨hx', b, hb, rfl⟩
        rw [nm_mk, hd, show n + (i + 1) = n + i + 1 by omega]
        exact ih n b _ _ _ _ _ _ _ _ _ (by omega) hb hx'
theorem fk1 {k : Nat} (hk : k < 3) {tr b0 b1 b2 : Nat → Int32} {τ : Nat → Nat} {B : Nat → Nat → Nat} (hf : TC tr τ) (hT : TK τ) (hB : CB3 b0 b1 b2 B) (aim : Int64) (st sb : Nat → Int32) (pu pe tu ca ho va : Nat → Int64) (ma ac : Nat → Int32) : Sx (fX8_leastFair_k1 (nI k) aim tr b0 b1 b2 st sb pu pe tu ca ho va ma ac) (fun z => Fa (Pk1 τ (B k) aim) 1000 z.1) := by
  unfold fX8_leastFair_k1
  rw [isb8' hk, bd1_mk, if_neg one0, og32 (by omega) (by omega), sel8 hk, bd2_mk]
  have hc : CB (va_cpy (bsel k b0 b1 b2) sb 0 0 36) (B k) := (hB k hk).1.cpy
  obtain ⟨n, hn⟩ := fuN 11 (by omega)
  rw [hn]
  have hv0 : Hv (Pk1 τ (B k) aim) 1000 0 (2 ^ 10) := ⟨by omega, fun c h => absurd h (by omega), fun c h1 h2 => absurd h2 (by omega)⟩
  refine Sx.b10 (lf1 aim (TC.cpy hf) hT (hB k hk).2 10 n 0 _ pu pe tu ca ho va ma ac (Nat.le_refl 10) hv0 ⟨_, hc, fun c => rfl⟩) ?_
  rintro c0 c1 c2 c3 c4 c5 c6 c7 c8 c9 ⟨a, hv, rfl⟩
  have he := hv.end (by omega)
  exact Sx.e1 (ite_so _ _) (Sx.mk he)
theorem lf2 {sb : Nat → Int32} {τ β : Nat → Nat} (aim : Int64) (hf : CB sb β) (hT : TK τ) (hK : BK β) : ∀ (i n a : Nat) (vx : Nat → Int32) (pu pe tu ca ho va : Nat → Int64) (ma ac : Nat → Int32), i ≤ 10 → Hv (Pk2 τ β aim) 200 a (2 ^ i) → (∃ x, TC vx x ∧ ∀ c, setk2 x c = setk2 τ c) → Sx (lpX8_leastFair_k2_40 aim sb (n + i + 1) (nI a - 1) (nI (2 ^ i / 2)) vx pu pe tu ca ho va ma ac) (fun z => ∃ a, Hv (Pk2 τ β aim) 200 a 1 ∧ z.1 = nI a - 1) := by
  intro i
  induction i with
  | zero =>
    intro n a vx pu pe tu ca ho va ma ac hi hv hx
    rw [lpX8_leastFair_k2_40.eq_2]
    exact Sx.p (show nI (2 ^ 0 / 2) < (1 : Int32) by decide) (Sx.mk ⟨a, hv, rfl⟩)
  | succ i ih =>
    intro n a vx pu pe tu ca ho va ma ac hi hv hx
    have h1 := Nat.two_pow_pos i
    have h2 : 2 ^ i ≤ 512 := Nat.pow_le_pow_right (by omega) (show i ≤ 9 by omega)
    have hs : 2 ^ (i + 1) / 2 = 2 ^ i := by rw [Nat.pow_succ, Nat.mul_div_cancel _ (by omega)]
    have hw : 2 ^ (i + 1) = 2 * 2 ^ i := by rw [Nat.pow_succ, Nat.mul_comm]
    have ha := hv.1
    rw [lpX8_leastFair_k2_40.eq_2, hs]
    refine Sx.n (show ¬ nI (2 ^ i) < (1 : Int32) from nI_nlt (b := 1) h1 (by omega)) ?_
    rw [nm_mk, m1s a h1]
    have hd : nI (2 ^ i) / 2 = nI (2 ^ i / 2) := by rw [i_2, pk_div (by omega) (by omega) (by omega)]
    by_cases g : 200 < a + 2 ^ i - 1
    · refine Sx.b10 (P := fun z => (∃ x, TC z.2.1 x ∧ ∀ c, setk2 x c = setk2 τ c) ∧ ∃ b, Hv (Pk2 τ β aim) 200 b (2 ^ i) ∧ z.1 = nI b - 1) (Sx.p (show (200 : Int32) < nI (a + 2 ^ i - 1) from nI_lt (a := 200) g (by omega)) (Sx.mk ⟨hx, a, hv.skip (by omega), rfl⟩)) ?_
      rintro b0 b1 b2 b3 b4 b5 b6 b7 b8 b9 ⟨hx', b, hb, rfl⟩
      rw [nm_mk, hd, show n + (i + 1) = n + i + 1 by omega]
      exact ih n b _ _ _ _ _ _ _ _ _ (by omega) hb hx'
    · obtain ⟨x, hx1, hx2⟩ := hx
      refine Sx.b10 (P := fun z => (∃ x, TC z.2.1 x ∧ ∀ c, setk2 x c = setk2 τ c) ∧ ∃ b, Hv (Pk2 τ β aim) 200 b (2 ^ i) ∧ z.1 = nI b - 1) (Sx.n (show ¬ (200 : Int32) < nI (a + 2 ^ i - 1) from nI_nlt (a := 200) (by omega) (by omega)) ?_) ?_
      · refine Sx.b1 (sk2 hx1 _) ?_
        intro y hy
        rw [hx2] at hy
        refine Sx.b8 (pb8 hy (hT.r8 (by omega)) hf hK pu pe tu ca ho va ma ac) ?_
        intro c0 c1 c2 c3 c4 c5 c6 c7 hsb
        refine Sx.e1 (root8 hsb) ?_
        have hxy : ∃ x, TC y x ∧ ∀ c, setk2 x c = setk2 τ c := ⟨_, hy, fun c => setk2_s _ _ _⟩
        by_cases hP : Pk2 τ β aim (a + 2 ^ i - 1)
        · refine Sx.e1 (a0 := 1) (if_neg hP) (Sx.e1 (a0 := nI a - 1) (if_neg one0) (Sx.mk ⟨hxy, a, hv.fair (Pk2_m hT hK aim) (by omega) h1 hP, rfl⟩))
        · refine Sx.e1 (a0 := 0) (if_pos (Decidable.not_not.mp hP)) (Sx.e1 (a0 := nI (a + 2 ^ i - 1)) (if_pos rfl) (Sx.mk ⟨hxy, a + 2 ^ i, hv.un (Pk2_m hT hK aim) (by omega) h1 hw hP, ?_⟩))
          show nI (a + 2 ^ i - 1) = nI (a + 2 ^ i) - 1
          rw [i_1, pk_sub (by omega)]
      · rintro b0 b1 b2 b3 b4 b5 b6 b7 b8 b9 ⟨hx', b, hb, rfl⟩
        rw [nm_mk, hd, show n + (i + 1) = n + i + 1 by omega]
        exact ih n b _ _ _ _ _ _ _ _ _ (by omega) hb hx'
theorem fk2 {k : Nat} (hk : k < 3) {tr b0 b1 b2 : Nat → Int32} {τ : Nat → Nat} {B : Nat → Nat → Nat} (hf : TC tr τ) (hT : TK τ) (hB : CB3 b0 b1 b2 B) (aim : Int64) (st sb : Nat → Int32) (pu pe tu ca ho va : Nat → Int64) (ma ac : Nat → Int32) : Sx (fX8_leastFair_k2 (nI k) aim tr b0 b1 b2 st sb pu pe tu ca ho va ma ac) (fun z => Fa (Pk2 τ (B k) aim) 200 z.1) := by
  unfold fX8_leastFair_k2
  rw [isb8' hk, bd1_mk, if_neg one0, og32 (by omega) (by omega), sel8 hk, bd2_mk]
  have hc : CB (va_cpy (bsel k b0 b1 b2) sb 0 0 36) (B k) := (hB k hk).1.cpy
  obtain ⟨n, hn⟩ := fuN 11 (by omega)
  rw [hn]
  have hv0 : Hv (Pk2 τ (B k) aim) 200 0 (2 ^ 10) := ⟨by omega, fun c h => absurd h (by omega), fun c h1 h2 => absurd h2 (by omega)⟩
  refine Sx.b10 (lf2 aim hc hT (hB k hk).2 10 n 0 _ pu pe tu ca ho va ma ac (Nat.le_refl 10) hv0 ⟨_, (TC.cpy hf), fun c => rfl⟩) ?_
  rintro c0 c1 c2 c3 c4 c5 c6 c7 c8 c9 ⟨a, hv, rfl⟩
  have he := hv.end (by omega)
  exact Sx.e1 (ite_so _ _) (Sx.mk he)
/-- the reference's side -/
theorem vw13 {c : Nat} {β : Nat → Nat} : ∀ (i n d : Nat) (bs : Nat → Int32), d + i = 7 → 1 ≤ d → RB bs 3 (fun y => if 3 ≤ y ∧ y < 2 + d then c else β y) → Sx (lpX9_valueWith_13 1 (nI c) (n + i + 1) (nI d) bs) (fun z => RB z 3 (setk0 β c) ∧ FrB 3 bs z) := by
  intro i
  induction i with
  | zero =>
    intro n d bs hi h1 hg
    rw [lpX9_valueWith_13.eq_2]
    refine Sx.p (show (6 : Int32) < nI d from nI_lt (a := 6) (by omega) (by omega)) (Sx.mk ⟨?_, FrB.refl _ _⟩)
    have e : (fun y => if 3 ≤ y ∧ y < 2 + d then c else β y) = setk0 β c := by
      funext y
      unfold setk0 setc
      by_cases g : 3 ≤ y ∧ y ≤ 8
      · rw [if_pos g, if_pos (by omega)]
      · rw [if_neg g, if_neg (by omega)]
    rw [e] at hg
    exact hg
  | succ i ih =>
    intro n d bs hi h1 hg
    rw [lpX9_valueWith_13.eq_2]
    refine Sx.n (show ¬ (6 : Int32) < nI d from nI_nlt (a := 6) (by omega) (by omega)) (Sx.n one0 ?_)
    rw [i_3, i_2, nI_add]
    refine Sx.e1 (se9 (by omega) _) ?_
    rw [nm_mk, nI_1, show n + (i + 1) = n + i + 1 by omega]
    have hu := hg.up (a := 2 + d) (by omega) (v := c) (x := nI c) (by rw [rI_n (by omega), bup_s])
    have e : bup (fun y => if 3 ≤ y ∧ y < 2 + d then c else β y) (2 + d) c = (fun y => if 3 ≤ y ∧ y < 2 + (d + 1) then c else β y) := by
      funext y
      unfold bup
      by_cases g : y = 2 + d
      · rw [if_pos g, if_pos (by omega)]
      · rw [if_neg g]
        show (if 3 ≤ y ∧ y < 2 + d then c else β y) = _
        by_cases g2 : 3 ≤ y ∧ y < 2 + d
        · rw [if_pos g2, if_pos (by omega)]
        · rw [if_neg g2, if_neg (by omega)]
    rw [e] at hu
    exact (ih n (d + 1) _ (by omega) (by omega) hu).imp (fun z hz => ⟨hz.1, (FrB.up (by omega) _).tr hz.2⟩)
theorem vW0 {bs : Nat → Int32} {pe : Nat → Int64} {T p q R c : Nat} {β : Nat → Nat} {π : Nat → Nat → Nat} (hb : RB bs 3 β) (hK : BK β) (hp : PK π) (hP : RP pe T π) (hN : NK T p q R) (hc : c ≤ 1000) (wo ho : Nat → Int64) (ac : Nat → Int32) : Sx (fX9_valueWith 1 (nI c) bs (nI T) (nI p) (nI q) (nI R) pe wo ho ac) (fun z => z.1 = lN (V0 π T p q R (setk0 β c)) ∧ RB z.2.1 3 (setk0 β c) ∧ FrB 3 bs z.2.1) := by
  unfold fX9_valueWith
  rw [if_neg one0, bd1_mk]
  obtain ⟨n, hn⟩ := fuN 7 (by omega)
  refine Sx.b1 (P := fun z => RB z 3 (setk0 β c) ∧ FrB 3 bs z) ?_ ?_
  · have e : (fun y => if 3 ≤ y ∧ y < 2 + 1 then c else β y) = β := by
      funext y
      rw [if_neg (by omega)]
    have := vw13 (c := c) (β := β) 6 n 1 bs (by omega) (by omega) (by rw [e]; exact hb)
    rw [hn]
    exact this
  · intro b hb2
    refine Sx.b4 (vo9 (k := 3) hb2.1 (setc_BK hK hc) hp hP hN wo ho ac) ?_
    intro a0 a1 a2 a3 h0
    exact Sx.mk ⟨h0, hb2⟩
theorem vW1 {bs : Nat → Int32} {pe : Nat → Int64} {T p q R c : Nat} {β : Nat → Nat} {π : Nat → Nat → Nat} (hb : RB bs 3 β) (hK : BK β) (hp : PK π) (hP : RP pe T π) (hN : NK T p q R) (hc : c ≤ 1000) (wo ho : Nat → Int64) (ac : Nat → Int32) : Sx (fX9_valueWith 0 (nI c) bs (nI T) (nI p) (nI q) (nI R) pe wo ho ac) (fun z => z.1 = lN (V0 π T p q R (setk1 β c)) ∧ RB z.2.1 3 (setk1 β c) ∧ FrB 3 bs z.2.1) := by
  unfold fX9_valueWith
  rw [if_pos rfl, i_3, i_1, se9 (by omega), bd1_mk, bd1_mk]
  have hu : RB (upd bs (27 * 3 + 1) (nI c)) 3 (setk1 β c) := hb.up (a := 1) (by omega) (v := c) (by rw [rI_n (by omega), bup_s])
  obtain ⟨n, hn⟩ := fuN 1 (by omega)
  rw [hn, lpX9_valueWith_13.eq_2]
  refine Sx.e1 (a0 := upd bs (27 * 3 + 1) (nI c)) ?_ ?_
  · rw [if_neg (show ¬ (6 : Int32) < nI 1 from by decide), if_pos rfl]
  · refine Sx.b4 (vo9 (k := 3) hu (bup1_BK hK hc) hp hP hN wo ho ac) ?_
    intro a0 a1 a2 a3 h0
    exact Sx.mk ⟨h0, hu, FrB.up (by omega) _⟩
theorem tn9 {tr : Nat → Int32} {τ : Nat → Nat} (hf : TR tr 0 τ) (hT : TK τ) (x0 x1 x2 x3 : Int32) (pe : Nat → Int64) (a b : Int64) : Sx (fX9_takesNow tr x0 x1 x2 x3 pe a b) (fun z => z.1 = nI (τ 0) ∧ z.2.1 = nI (τ 6) ∧ z.2.2.1 = nI (τ 7) ∧ z.2.2.2.1 = nI (τ 8) ∧ RP z.2.2.2.2.1 (τ 0) (prF τ (τ 1))) := by
  unfold fX9_takesNow
  have h1 : tr 1 = nI (τ 1) := by have := hf 1 (by omega); rwa [Nat.zero_add] at this
  rw [cl_1, h1, i_0]
  refine Sx.b7 (tt9 (w := 0) hf (by omega) (by omega) hT x0 x1 x2 x3 pe a b) ?_
  intro a0 a1 a2 a3 a4 a5 a6 h
  exact Sx.mk h
theorem fr44_0 {pe : Nat → Int64} {τ β : Nat → Nat} (aim : Int64) (hT : TK τ) (hK : BK β) (hP : RP pe (τ 0) (prF τ (τ 1))) : ∀ (i n lo hi : Nat) (bs : Nat → Int32) (wo ho : Nat → Int64) (ac : Nat → Int32), hi - lo ≤ i → lo ≤ hi → hi ≤ 1000 → (∀ c, c < lo → ¬ Pk0 τ β aim c) → Pk0 τ β aim hi → (∃ x, RB bs 3 x ∧ BK x ∧ ∀ c, setk0 x c = setk0 β c) → Sx (lpX9_fair_44 aim 1 (nI (τ 0)) (nI (τ 6)) (nI (τ 7)) (nI (τ 8)) pe (n + i + 1) (nI lo) (nI hi) bs wo ho ac) (fun z => Fa (Pk0 τ β aim) 1000 z.1 ∧ FrB 3 bs z.2.1) := by
  intro i
  induction i with
  | zero =>
    intro n lo hi bs wo ho ac h1 h2 h3 h4 h5 hx
    rw [lpX9_fair_44.eq_2]
    refine Sx.p (nI_le (by omega) (by omega)) (Sx.mk ⟨Or.inl ⟨lo, by omega, ?_, h4, rfl⟩, FrB.refl _ _⟩)
    rw [show lo = hi by omega]; exact h5
  | succ i ih =>
    intro n lo hi bs wo ho ac h1 h2 h3 h4 h5 hx
    rw [lpX9_fair_44.eq_2]
    by_cases g : hi ≤ lo
    · refine Sx.p (nI_le (by omega) (by omega)) (Sx.mk ⟨Or.inl ⟨lo, by omega, ?_, h4, rfl⟩, FrB.refl _ _⟩)
      rw [show lo = hi by omega]; exact h5
    · refine Sx.n (nI_ge (by omega) (by omega)) ?_
      rw [nm_mk, nI_add, i_2, pk_div (by omega) (by omega) (by omega)]
      obtain ⟨x, hx1, hx2, hx3⟩ := hx
      refine Sx.b5 (vW0 hx1 hx2 (prF_PK hT (by omega)) hP hT.n (show (lo + hi) / 2 ≤ 1000 by omega) wo ho ac) ?_
      rintro r b a1 a2 a3 ⟨rfl, hb, hfr⟩
      have hxy : ∃ x, RB b 3 x ∧ BK x ∧ ∀ c, setk0 x c = setk0 β c := ⟨_, hb, setc_BK hx2 (by omega), fun c => by rw [setk0_s, hx3]⟩
      rw [hx3]
      by_cases hP : Pk0 τ β aim ((lo + hi) / 2)
      · refine Sx.e2 (a0 := nI lo) (a1 := nI ((lo + hi) / 2)) (if_neg hP) ?_
        rw [show n + (i + 1) = n + i + 1 by omega]
        exact (ih n lo ((lo + hi) / 2) b a1 a2 a3 (by omega) (by omega) (by omega) h4 hP hxy).imp (fun z hz => ⟨hz.1, hfr.tr hz.2⟩)
      · refine Sx.e2 (a0 := nI ((lo + hi) / 2 + 1)) (a1 := nI hi) ?_ ?_
        · rw [← nI_1]; exact if_pos (Decidable.not_not.mp hP)
        · rw [show n + (i + 1) = n + i + 1 by omega]
          refine (ih n ((lo + hi) / 2 + 1) hi b a1 a2 a3 (by omega) (by omega) (by omega) ?_ h5 hxy).imp (fun z hz => ⟨hz.1, hfr.tr hz.2⟩)
          intro c hc hPc
          exact hP (Pk0_m hT hK aim c _ (by omega) (by omega) hPc)
theorem fa9_0 {k : Nat} (hk : k < 3) {tr bs : Nat → Int32} {τ : Nat → Nat} {β : Nat → Nat} (hf : TR tr 0 τ) (hT : TK τ) (hb : RB bs k β) (hK : BK β) (aim : Int64) (x0 x1 x2 x3 : Int32) (pe : Nat → Int64) (a b : Int64) (wo ho : Nat → Int64) (ac : Nat → Int32) : Sx (fX9_fair (nI k) aim 1 tr bs x0 x1 x2 x3 pe a b wo ho ac) (fun z => Fa (Pk0 τ β aim) 1000 z.1 ∧ FrB 3 bs z.2.1) := by
  unfold fX9_fair
  rw [isb9' hk, bd1_mk, if_neg one0]
  refine Sx.b7 (tn9 hf hT x0 x1 x2 x3 pe a b) ?_
  rintro d0 d1 d2 d3 pe' d5 d6 ⟨rfl, rfl, rfl, rfl, hP⟩
  dsimp only at hP ⊢
  refine Sx.b1 (cy9 (l := 3) (by omega) (by omega) (by omega) hb) ?_
  rintro b' ⟨hb', hfr'⟩
  refine Sx.b5 (vW0 (c := 1000) hb' hK (prF_PK hT (by omega)) hP hT.n (Nat.le_refl _) wo ho ac) ?_
  rintro r b2 a1 a2 a3 ⟨rfl, hb2, hfr2⟩
  dsimp only at hb2 hfr2 ⊢
  by_cases hP1 : Pk0 τ β aim 1000
  · refine Sx.p (Int64.not_lt.mp hP1) ?_
    obtain ⟨n, hn⟩ := fuB 1001 (by omega)
    rw [hn]
    refine Sx.b5 (fr44_0 aim hT hK hP 1000 n 0 1000 b2 a1 a2 a3 (by omega) (by omega) (by omega) (fun c hc => absurd hc (by omega)) hP1 ⟨_, hb2, setc_BK hK (Nat.le_refl _), fun c => setk0_s _ _ _⟩) ?_
    intro y b3 c1 c2 c3 hy
    exact Sx.mk ⟨hy.1, (hfr'.tr hfr2).tr hy.2⟩
  · refine Sx.n (fun q => hP1 (Int64.not_lt.mpr q)) (Sx.mk ⟨Or.inr ⟨fun c hc hPc => hP1 (Pk0_m hT hK aim c 1000 hc (Nat.le_refl _) hPc), rfl⟩, hfr'.tr hfr2⟩)
theorem fr44_1 {pe : Nat → Int64} {τ β : Nat → Nat} (aim : Int64) (hT : TK τ) (hK : BK β) (hP : RP pe (τ 0) (prF τ (τ 1))) : ∀ (i n lo hi : Nat) (bs : Nat → Int32) (wo ho : Nat → Int64) (ac : Nat → Int32), hi - lo ≤ i → lo ≤ hi → hi ≤ 1000 → (∀ c, c < lo → ¬ Pk1 τ β aim c) → Pk1 τ β aim hi → (∃ x, RB bs 3 x ∧ BK x ∧ ∀ c, setk1 x c = setk1 β c) → Sx (lpX9_fair_44 aim 0 (nI (τ 0)) (nI (τ 6)) (nI (τ 7)) (nI (τ 8)) pe (n + i + 1) (nI lo) (nI hi) bs wo ho ac) (fun z => Fa (Pk1 τ β aim) 1000 z.1 ∧ FrB 3 bs z.2.1) := by
  intro i
  induction i with
  | zero =>
    intro n lo hi bs wo ho ac h1 h2 h3 h4 h5 hx
    rw [lpX9_fair_44.eq_2]
    refine Sx.p (nI_le (by omega) (by omega)) (Sx.mk ⟨Or.inl ⟨lo, by omega, ?_, h4, rfl⟩, FrB.refl _ _⟩)
    rw [show lo = hi by omega]; exact h5
  | succ i ih =>
    intro n lo hi bs wo ho ac h1 h2 h3 h4 h5 hx
    rw [lpX9_fair_44.eq_2]
    by_cases g : hi ≤ lo
    · refine Sx.p (nI_le (by omega) (by omega)) (Sx.mk ⟨Or.inl ⟨lo, by omega, ?_, h4, rfl⟩, FrB.refl _ _⟩)
      rw [show lo = hi by omega]; exact h5
    · refine Sx.n (nI_ge (by omega) (by omega)) ?_
      rw [nm_mk, nI_add, i_2, pk_div (by omega) (by omega) (by omega)]
      obtain ⟨x, hx1, hx2, hx3⟩ := hx
      refine Sx.b5 (vW1 hx1 hx2 (prF_PK hT (by omega)) hP hT.n (show (lo + hi) / 2 ≤ 1000 by omega) wo ho ac) ?_
      rintro r b a1 a2 a3 ⟨rfl, hb, hfr⟩
      have hxy : ∃ x, RB b 3 x ∧ BK x ∧ ∀ c, setk1 x c = setk1 β c := ⟨_, hb, bup1_BK hx2 (by omega), fun c => by rw [setk1_s, hx3]⟩
      rw [hx3]
      by_cases hP : Pk1 τ β aim ((lo + hi) / 2)
      · refine Sx.e2 (a0 := nI lo) (a1 := nI ((lo + hi) / 2)) (if_neg hP) ?_
        rw [show n + (i + 1) = n + i + 1 by omega]
        exact (ih n lo ((lo + hi) / 2) b a1 a2 a3 (by omega) (by omega) (by omega) h4 hP hxy).imp (fun z hz => ⟨hz.1, hfr.tr hz.2⟩)
      · refine Sx.e2 (a0 := nI ((lo + hi) / 2 + 1)) (a1 := nI hi) ?_ ?_
        · rw [← nI_1]; exact if_pos (Decidable.not_not.mp hP)
        · rw [show n + (i + 1) = n + i + 1 by omega]
          refine (ih n ((lo + hi) / 2 + 1) hi b a1 a2 a3 (by omega) (by omega) (by omega) ?_ h5 hxy).imp (fun z hz => ⟨hz.1, hfr.tr hz.2⟩)
          intro c hc hPc
          exact hP (Pk1_m hT hK aim c _ (by omega) (by omega) hPc)
theorem fa9_1 {k : Nat} (hk : k < 3) {tr bs : Nat → Int32} {τ : Nat → Nat} {β : Nat → Nat} (hf : TR tr 0 τ) (hT : TK τ) (hb : RB bs k β) (hK : BK β) (aim : Int64) (x0 x1 x2 x3 : Int32) (pe : Nat → Int64) (a b : Int64) (wo ho : Nat → Int64) (ac : Nat → Int32) : Sx (fX9_fair (nI k) aim 0 tr bs x0 x1 x2 x3 pe a b wo ho ac) (fun z => Fa (Pk1 τ β aim) 1000 z.1 ∧ FrB 3 bs z.2.1) := by
  unfold fX9_fair
  rw [isb9' hk, bd1_mk, if_neg one0]
  refine Sx.b7 (tn9 hf hT x0 x1 x2 x3 pe a b) ?_
  rintro d0 d1 d2 d3 pe' d5 d6 ⟨rfl, rfl, rfl, rfl, hP⟩
  dsimp only at hP ⊢
  refine Sx.b1 (cy9 (l := 3) (by omega) (by omega) (by omega) hb) ?_
  rintro b' ⟨hb', hfr'⟩
  refine Sx.b5 (vW1 (c := 1000) hb' hK (prF_PK hT (by omega)) hP hT.n (Nat.le_refl _) wo ho ac) ?_
  rintro r b2 a1 a2 a3 ⟨rfl, hb2, hfr2⟩
  dsimp only at hb2 hfr2 ⊢
  by_cases hP1 : Pk1 τ β aim 1000
  · refine Sx.p (Int64.not_lt.mp hP1) ?_
    obtain ⟨n, hn⟩ := fuB 1001 (by omega)
    rw [hn]
    refine Sx.b5 (fr44_1 aim hT hK hP 1000 n 0 1000 b2 a1 a2 a3 (by omega) (by omega) (by omega) (fun c hc => absurd hc (by omega)) hP1 ⟨_, hb2, bup1_BK hK (Nat.le_refl _), fun c => setk1_s _ _ _⟩) ?_
    intro y b3 c1 c2 c3 hy
    exact Sx.mk ⟨hy.1, (hfr'.tr hfr2).tr hy.2⟩
  · refine Sx.n (fun q => hP1 (Int64.not_lt.mpr q)) (Sx.mk ⟨Or.inr ⟨fun c hc hPc => hP1 (Pk1_m hT hK aim c 1000 hc (Nat.le_refl _) hPc), rfl⟩, hfr'.tr hfr2⟩)
theorem fr16 {bs : Nat → Int32} {pe : Nat → Int64} {k : Nat} {τ β : Nat → Nat} (aim : Int64) (hb : RB bs k β) (hT : TK τ) (hK : BK β) (hP : RP pe (τ 0) (prF τ (τ 1))) : ∀ (i n r : Nat) (x : Int32) (wo ho : Nat → Int64) (ac : Nat → Int32), r + i = 201 → (∀ c, c < r → ¬ Pk2 τ β aim c) → Sx (lpX9_fairRate_16 (nI k) aim bs (nI (τ 0)) (nI (τ 6)) (nI (τ 7)) pe (n + i + 1) (nI r) x wo ho ac) (fun z => Fa (Pk2 τ β aim) 200 (if z.1 = 0 then z.2.1 else -2)) := by
  intro i
  induction i with
  | zero =>
    intro n r x wo ho ac hi hg
    rw [lpX9_fairRate_16.eq_2]
    exact Sx.p (show (200 : Int32) < nI r from nI_lt (a := 200) (by omega) (by omega)) (Sx.mk (Or.inr ⟨fun c hc => hg c (by omega), rfl⟩))
  | succ i ih =>
    intro n r x wo ho ac hi hg
    rw [lpX9_fairRate_16.eq_2]
    refine Sx.n (show ¬ (200 : Int32) < nI r from nI_nlt (a := 200) (by omega) (by omega)) ?_
    refine Sx.b4 (vo9 hb hK (prF_PK hT (by omega)) hP (R := r) ⟨by omega, by omega, by omega⟩ wo ho ac) ?_
    rintro v a1 a2 a3 rfl
    by_cases hPr : Pk2 τ β aim r
    · refine Sx.n hPr (Sx.mk (Or.inl ⟨r, by omega, hPr, hg, rfl⟩))
    · refine Sx.p (Decidable.not_not.mp hPr) ?_
      rw [nm_mk, nI_1, show n + (i + 1) = n + i + 1 by omega]
      refine ih n (r + 1) _ _ _ _ (by omega) ?_
      intro c hc
      by_cases e : c = r
      · rw [e]; exact hPr
      · exact hg c (by omega)
theorem fa9_2 {k : Nat} (hk : k < 3) {tr bs : Nat → Int32} {τ : Nat → Nat} {β : Nat → Nat} (hf : TR tr 0 τ) (hT : TK τ) (hb : RB bs k β) (hK : BK β) (aim : Int64) (x0 x1 x2 x3 : Int32) (pe : Nat → Int64) (a b : Int64) (wo ho : Nat → Int64) (ac : Nat → Int32) : Sx (fX9_fairRate (nI k) aim tr bs x0 x1 x2 x3 pe a b wo ho ac) (fun z => Fa (Pk2 τ β aim) 200 z.1) := by
  unfold fX9_fairRate
  rw [isb9' hk, bd1_mk, if_neg one0]
  refine Sx.b7 (tn9 hf hT x0 x1 x2 x3 pe a b) ?_
  rintro d0 d1 d2 d3 pe' d5 d6 ⟨rfl, rfl, rfl, rfl, hP⟩
  dsimp only at hP ⊢
  obtain ⟨n, hn⟩ := fuN 202 (by omega)
  rw [hn, i_0]
  refine Sx.b6 (fr16 aim hb hT hK hP 201 n 0 _ wo ho ac (by omega) (fun c hc => absurd hc (by omega))) ?_
  intro y0 y1 y2 y3 y4 y5 hy
  dsimp only at hy
  refine Sx.it (fun h => ?_) (fun h => ?_)
  · rw [if_pos h] at hy
    exact Sx.mk hy
  · rw [if_neg h] at hy
    exact Sx.mk hy
end
section
/-! pure: tests of arguments; both sides at once; one number of a class's bond (own rows) -/
def Sx2 {ρ α β : Type} (o1 : Option (ρ × α)) (o2 : Option (ρ × β)) (Q : α → β → Prop) : Prop := ∃ r s1 s2, o1 = some (r, s1) ∧ o2 = some (r, s2) ∧ Q s1 s2
theorem Sx2.mk {ρ α β : Type} {o1 : Option (ρ × α)} {o2 : Option (ρ × β)} {Q : α → β → Prop} {r : ρ} {s1 : α} {s2 : β} (h1 : o1 = some (r, s1)) (h2 : o2 = some (r, s2)) (h : Q s1 s2) : Sx2 o1 o2 Q := ⟨r, s1, s2, h1, h2, h⟩
theorem Sx2.of {ρ α β : Type} {o1 : Option (ρ × α)} {o2 : Option (ρ × β)} {P1 : α → Prop} {P2 : β → Prop} {v : ρ} (h1 : Sx o1 (fun z => z.1 = v ∧ P1 z.2)) (h2 : Sx o2 (fun z => z.1 = v ∧ P2 z.2)) : Sx2 o1 o2 (fun s t => P1 s ∧ P2 t) := by
  obtain ⟨⟨r, s⟩, e1, rfl, q1⟩ := h1
  obtain ⟨⟨r', t⟩, e2, rfl, q2⟩ := h2
  exact ⟨r', s, t, e1, e2, q1, q2⟩
theorem Sx2.imp {ρ α β : Type} {o1 : Option (ρ × α)} {o2 : Option (ρ × β)} {Q R : α → β → Prop} (h : Sx2 o1 o2 Q) (g : ∀ s t, Q s t → R s t) : Sx2 o1 o2 R := by
  obtain ⟨r, s, t, e1, e2, q⟩ := h
  exact ⟨r, s, t, e1, e2, g s t q⟩
theorem wi1 {x a b : Int32} {A B : Int} (h : inr x A B) (ha : a.toInt = A := by rfl) (hb : b.toInt = B := by rfl) : fX8_within x a b = some 1 := by rw [wi_eq ha hb, bI_t h]
theorem wi0 {x a b : Int32} {A B : Int} (h : ¬ inr x A B) (ha : a.toInt = A := by rfl) (hb : b.toInt = B := by rfl) : fX8_within x a b = some 0 := by rw [wi_eq ha hb, bI_f h]
theorem in1 {x : Int32} {a b : Int64} {A B : Int} (h : inr x A B) (ha : a.toInt = A := by rfl) (hb : b.toInt = B := by rfl) : fX9_in (Int32.toInt64 x) a b = some 1 := by rw [in_eq ha hb, bI_t h]
theorem in0 {x : Int32} {a b : Int64} {A B : Int} (h : ¬ inr x A B) (ha : a.toInt = A := by rfl) (hb : b.toInt = B := by rfl) : fX9_in (Int32.toInt64 x) a b = some 0 := by rw [in_eq ha hb, bI_f h]
theorem isb8y {x : Int32} (h : inr x 0 2) : fX8_isBond x = some 1 := by
  unfold fX8_isBond
  rw [wi1 h, bd1_mk]; rfl
theorem isb9y {x : Int32} (h : inr x 0 2) : fX9_isBond x = some 1 := by
  unfold fX9_isBond
  rw [in1 h, bd1_mk]; rfl
theorem isp8y {x : Int32} (h : inr x 0 1000000) : fX8_isPence x = some 1 := by
  unfold fX8_isPence
  rw [wi1 h, bd1_mk]; rfl
theorem isp8n {x : Int32} (h : ¬ inr x 0 1000000) : fX8_isPence x = some 0 := by
  unfold fX8_isPence
  rw [wi0 h, bd1_mk]; rfl
theorem isS8y {x : Int32} (h : inr x 1 1000) : fX8_isStart x = some 1 := by
  unfold fX8_isStart
  rw [wi1 h, bd1_mk]; rfl
theorem isS8n {x : Int32} (h : ¬ inr x 1 1000) : fX8_isStart x = some 0 := by
  unfold fX8_isStart
  rw [wi0 h, bd1_mk]; rfl
theorem chE {b : Int32} (h : inr b 2 20) : (b - 1).toInt = b.toInt - 1 := by
  obtain ⟨n, rfl, l, u, q⟩ := inr_n h (by decide)
  obtain ⟨k, rfl⟩ : ∃ k, n = k + 1 := ⟨n - 1, by omega⟩
  rw [nI_pred, nI_toInt (by omega), nI_toInt q]
  omega
abbrev chP (a b : Int32) : Prop := inr b 2 20 ∧ inr a 1 (b.toInt - 1)
theorem isC8y {a b : Int32} (h : chP a b) : fX8_isChance a b = some 1 := by
  unfold fX8_isChance
  rw [wi1 h.1, bd1_mk, if_neg one0, wi1 h.2 rfl (chE h.1)]; rfl
theorem isC8n {a b : Int32} (h : ¬ chP a b) : fX8_isChance a b = some 0 := by
  unfold fX8_isChance
  by_cases g : inr b 2 20
  · rw [wi1 g, bd1_mk, if_neg one0, wi0 (fun q => h ⟨g, q⟩) rfl (chE g)]; rfl
  · rw [wi0 g, bd1_mk, if_pos rfl]; rfl
theorem isC9y {a b : Int32} (h : chP a b) : fX9_isChance a b = some 1 := by
  unfold fX9_isChance
  have e : (Int32.toInt64 (b - 1)).toInt = b.toInt - 1 := by rw [Int32.toInt_toInt64]; exact chE h.1
  rw [in1 h.1, bd1_mk, if_neg one0, in1 h.2 rfl e]; rfl
theorem isC9n {a b : Int32} (h : ¬ chP a b) : fX9_isChance a b = some 0 := by
  unfold fX9_isChance
  by_cases g : inr b 2 20
  · have e : (Int32.toInt64 (b - 1)).toInt = b.toInt - 1 := by rw [Int32.toInt_toInt64]; exact chE g
    rw [in1 g, bd1_mk, if_neg one0, in0 (fun q => h ⟨g, q⟩) rfl e]; rfl
  · rw [in0 g, bd1_mk, if_pos rfl]; rfl
theorem chN {a b : Int32} (h : chP a b) : ∃ p q : Nat, a = nI p ∧ b = nI q ∧ 1 ≤ p ∧ p < q ∧ q ≤ 20 := by
  obtain ⟨q, rfl, l, u, w⟩ := inr_n h.1 (by decide)
  have h2 := h.2
  rw [nI_toInt w] at h2
  obtain ⟨p, rfl, l2, u2, w2⟩ := inr_n h2 (by decide)
  exact ⟨p, q, rfl, rfl, by omega, by omega, by omega⟩
theorem isd8y {tr : Nat → Int32} {τ : Nat → Nat} (hf : TC tr τ) (hT : TK τ) {x : Int32} (h : inr x 0 (τ 0)) : fX8_isDay x tr = some 1 := by
  unfold fX8_isDay
  rw [ld8 hf hT, bd1_mk, wi1 h rfl (nI_toInt (by omega)), bd1_mk]; rfl
theorem isd8n {tr : Nat → Int32} {τ : Nat → Nat} (hf : TC tr τ) (hT : TK τ) {x : Int32} (h : ¬ inr x 0 (τ 0)) : fX8_isDay x tr = some 0 := by
  unfold fX8_isDay
  rw [ld8 hf hT, bd1_mk, wi0 h rfl (nI_toInt (by omega)), bd1_mk]; rfl
theorem tr0 {tr : Nat → Int32} {τ : Nat → Nat} (hf : TR tr 0 τ) {i : Nat} (h : i < 9) : tr i = nI (τ i) := by
  have := hf i h
  rwa [Nat.zero_add] at this
theorem isd9y {tr : Nat → Int32} {τ : Nat → Nat} (hf : TR tr 0 τ) (hT : TK τ) {x : Int32} (h : inr x 0 (τ 0)) : fX9_in (Int32.toInt64 x) 0 (Int32.toInt64 (tr (Int32.toNatClampNeg 0))) = some 1 := by
  refine in1 h rfl ?_
  rw [cl_0, tr0 hf (by omega), Int32.toInt_toInt64, nI_toInt (by omega)]
theorem isd9n {tr : Nat → Int32} {τ : Nat → Nat} (hf : TR tr 0 τ) (hT : TK τ) {x : Int32} (h : ¬ inr x 0 (τ 0)) : fX9_in (Int32.toInt64 x) 0 (Int32.toInt64 (tr (Int32.toNatClampNeg 0))) = some 0 := by
  refine in0 h rfl ?_
  rw [cl_0, tr0 hf (by omega), Int32.toInt_toInt64, nI_toInt (by omega)]
/-- the class's bond, by the numbers of the spec -/
def cI (i : Nat) : Nat := if i < 2 then i else if i < 9 then 8 + i else if i < 15 then 11 + i else if i < 21 then 15 + i else i - 19
def eI (β : Nat → Nat) (i : Nat) : Int32 := if 9 ≤ i ∧ i < 21 then iC (β i) else nI (β i)
theorem eI_n {β : Nat → Nat} {i : Nat} (h : ¬ (9 ≤ i ∧ i < 21)) : eI β i = nI (β i) := if_neg h
theorem eI_c {β : Nat → Nat} {i : Nat} (h : 9 ≤ i ∧ i < 21) : eI β i = iC (β i) := if_pos h
theorem cI_inj {i j : Nat} (hi : i < 27) (hj : j < 27) (h : cI i = cI j) : i = j := by
  unfold cI at h
  split at h <;> split at h <;> (try split at h) <;> (try split at h) <;> (try split at h) <;> (try split at h) <;> (try split at h) <;> (try split at h) <;> omega
theorem cI_lt {i : Nat} (hi : i < 27) : cI i < 36 := by
  unfold cI
  split
  · omega
  · split
    · omega
    · split
      · omega
      · split <;> omega
theorem CB.u {ts : Nat → Int32} {β : Nat → Nat} (h : CB ts β) : ∀ i, i < 27 → i ≠ 2 → ts (cI i) = eI β i := by
  obtain ⟨⟨⟨a0, a1⟩, ⟨a2, a3⟩, ⟨a4, a5, a6⟩, a7⟩, b1, b2, b3⟩ := h
  intro i hi h2
  by_cases g1 : i < 2
  · unfold cI
    rw [if_pos g1, eI_n (by omega)]
    rcases (show i = 0 ∨ i = 1 by omega) with rfl | rfl
    · exact a0
    · exact a1
  · by_cases g2 : i < 9
    · unfold cI
      rw [if_neg g1, if_pos g2, eI_n (by omega)]
      have := b1 (i - 2) (by omega) (by omega)
      rwa [show 10 + (i - 2) = 8 + i by omega, show 2 + (i - 2) = i by omega] at this
    · by_cases g3 : i < 15
      · unfold cI
        rw [if_neg g1, if_neg g2, if_pos g3, eI_c (by omega)]
        have := b2 (i - 9) (by omega)
        rwa [show 20 + (i - 9) = 11 + i by omega, show 9 + (i - 9) = i by omega] at this
      · by_cases g4 : i < 21
        · unfold cI
          rw [if_neg g1, if_neg g2, if_neg g3, if_pos g4, eI_c (by omega)]
          have := b3 (i - 15) (by omega)
          rwa [show 30 + (i - 15) = 15 + i by omega, show 15 + (i - 15) = i by omega] at this
        · unfold cI
          rw [if_neg g1, if_neg g2, if_neg g3, if_neg g4, eI_n (by omega)]
          rcases (show i = 21 ∨ i = 22 ∨ i = 23 ∨ i = 24 ∨ i = 25 ∨ i = 26 by omega) with rfl | rfl | rfl | rfl | rfl | rfl
          · exact a2
          · exact a3
          · exact a4
          · exact a5
          · exact a6
          · exact a7
theorem CB.v {ts : Nat → Int32} {β : Nat → Nat} (h : ∀ i, i < 27 → i ≠ 2 → ts (cI i) = eI β i) : CB ts β := by
  refine ⟨⟨⟨h 0 (by omega) (by omega), h 1 (by omega) (by omega)⟩, ⟨h 21 (by omega) (by omega), h 22 (by omega) (by omega)⟩, ⟨h 23 (by omega) (by omega), h 24 (by omega) (by omega), h 25 (by omega) (by omega)⟩, h 26 (by omega) (by omega)⟩, fun t h1 h2 => ?_, fun t h1 => ?_, fun t h1 => ?_⟩
  · have := h (2 + t) (by omega) (by omega)
    rw [eI_n (by omega)] at this
    unfold cI at this
    rwa [if_neg (by omega), if_pos (by omega), show 8 + (2 + t) = 10 + t by omega] at this
  · have := h (9 + t) (by omega) (by omega)
    rw [eI_c (by omega)] at this
    unfold cI at this
    rwa [if_neg (by omega), if_neg (by omega), if_pos (by omega), show 11 + (9 + t) = 20 + t by omega] at this
  · have := h (15 + t) (by omega) (by omega)
    rw [eI_c (by omega)] at this
    unfold cI at this
    rwa [if_neg (by omega), if_neg (by omega), if_neg (by omega), if_pos (by omega), show 15 + (15 + t) = 30 + t by omega] at this
theorem CB.up {ts : Nat → Int32} {β : Nat → Nat} (h : CB ts β) {a x : Nat} {v : Int32} (ha : a < 27) (hv : v = eI (bup β a x) a) : CB (upd ts (cI a) v) (bup β a x) := by
  refine CB.v (fun i hi h2 => ?_)
  rw [upS]
  by_cases e : i = a
  · subst e; rw [if_pos rfl, hv]
  · rw [if_neg (fun q => e (cI_inj hi ha q)), h.u i hi h2]
    unfold eI
    rw [bup_n _ _ e]
/-- bounds of one number -/
def okB (a x : Nat) : Prop := (a = 0 → 1 ≤ x ∧ x ≤ 1000000) ∧ (a = 1 → x ≤ 1000) ∧ (3 ≤ a → a ≤ 8 → x ≤ 1000) ∧ (9 ≤ a → a < 21 → x ≤ 1000001) ∧ (a = 21 ∨ a = 22 → x ≤ 7) ∧ (a = 23 → x ≤ 3) ∧ (a = 24 → 1 ≤ x ∧ x ≤ 3) ∧ (a = 25 → x ≤ 1000000) ∧ (a = 26 → x ≤ 3)
theorem BK.up {β : Nat → Nat} (h : BK β) {a x : Nat} (hx : okB a x) : BK (bup β a x) := by
  obtain ⟨a0, b0, c1, d, e, f, g, i, j, k, l⟩ := h
  obtain ⟨x0, x1, x2, x3, x4, x5, x6, x7, x8⟩ := hx
  refine ⟨?_, ?_, ?_, ?_, ?_, ?_, ?_, ?_, ?_, ?_, ?_⟩
  · unfold bup; split
    · exact x0 (by omega)
    · exact a0
  · unfold bup; split
    · exact x1 (by omega)
    · exact b0
  · intro t h1 h2; unfold bup; split
    · exact x2 (by omega) (by omega)
    · exact c1 t h1 h2
  · intro t h1; unfold bup; split
    · exact x3 (by omega) (by omega)
    · exact d t h1
  · intro t h1; unfold bup; split
    · exact x3 (by omega) (by omega)
    · exact e t h1
  · unfold bup; split
    · exact x4 (by omega)
    · exact f
  · unfold bup; split
    · exact x4 (by omega)
    · exact g
  · unfold bup; split
    · exact x5 (by omega)
    · exact i
  · unfold bup; split
    · exact x6 (by omega)
    · exact j
  · unfold bup; split
    · exact x7 (by omega)
    · exact k
  · unfold bup; split
    · exact x8 (by omega)
    · exact l
end
section
/-! pure: fair ones, shifted, best days, books: both sides (own rows) -/
theorem Sx2.rel {ρ α β : Type} {o1 : Option (ρ × α)} {o2 : Option (ρ × β)} {P : ρ → Prop} {Q : β → Prop} (u : ∀ x y, P x → P y → x = y) (h1 : Sx o1 (fun z => P z.1)) (h2 : Sx o2 (fun z => P z.1 ∧ Q z.2)) : Sx2 o1 o2 (fun _ t => Q t) := by
  obtain ⟨⟨r, s⟩, e1, q1⟩ := h1
  obtain ⟨⟨r', t⟩, e2, q2, q3⟩ := h2
  have : r = r' := u r r' q1 q2
  subst this
  exact ⟨r, s, t, e1, e2, q3⟩
theorem Sx2.val {ρ α β : Type} {o1 : Option (ρ × α)} {o2 : Option (ρ × β)} {v : ρ} {Q : β → Prop} (h1 : Sx o1 (fun z => z.1 = v)) (h2 : Sx o2 (fun z => z.1 = v ∧ Q z.2)) : Sx2 o1 o2 (fun _ t => Q t) := Sx2.rel (P := fun x => x = v) (fun _ _ a b => a.trans b.symm) h1 h2
theorem Sx.tru {α : Type} {o : Option α} {P : α → Prop} (h : Sx o P) : Sx o (fun z => P z ∧ True) := h.imp (fun _ h => ⟨h, trivial⟩)
theorem q_fairCoupon {tr b0 b1 b2 tree bs : Nat → Int32} {τ : Nat → Nat} {B : Nat → Nat → Nat} (hf : TC tr τ) (hf9 : TR tree 0 τ) (hT : TK τ) (hB : CB3 b0 b1 b2 B) (hb9 : ∀ k, k < 3 → RB bs k (B k)) (p1 : Int32) (aim : Int64) (st sb : Nat → Int32) (pu pe tu ca ho va : Nat → Int64) (ma ac : Nat → Int32) (x0 x1 x2 x3 : Int32) (pe9 : Nat → Int64) (a9 b9 : Int64) (wo9 ho9 : Nat → Int64) (ac9 : Nat → Int32) : Sx2 (fX8_fairCoupon p1 aim tr b0 b1 b2 st sb pu pe tu ca ho va ma ac) (fX9_fairCoupon p1 aim tree bs x0 x1 x2 x3 pe9 a9 b9 wo9 ho9 ac9) (fun _ t => FrB 3 bs t.1) := by
  by_cases h1 : inr p1 0 2
  · obtain ⟨k, rfl, _, hk, _⟩ := inr_n h1 (by decide)
    have hk3 : k < 3 := by omega
    refine Sx2.rel (P := Fa (Pk0 τ (B k) aim) 1000) (fun _ _ a b => a.u b) ?_ ?_
    · unfold fX8_fairCoupon
      rw [isb8' hk3, bd1_mk, if_neg one0]
      exact Sx.b11 (P := fun z => Fa (Pk0 τ (B k) aim) 1000 z.1) (Sx.b11 (fk0 hk3 hf hT hB aim st sb pu pe tu ca ho va ma ac) (fun _ _ _ _ _ _ _ _ _ _ _ h => Sx.mk h)) (fun _ _ _ _ _ _ _ _ _ _ _ h => Sx.mk h)
    · unfold fX9_fairCoupon
      exact Sx.b12 (fa9_0 hk3 hf9 hT (hb9 k hk3) (hB k hk3).2 aim x0 x1 x2 x3 pe9 a9 b9 wo9 ho9 ac9) (fun _ _ _ _ _ _ _ _ _ _ _ _ h => Sx.mk h)
  · refine Sx2.mk (by unfold fX8_fairCoupon; rw [isb8n h1, bd1_mk, if_pos rfl]; rfl) (by unfold fX9_fairCoupon fX9_fair; rw [isb9n h1, bd1_mk, if_pos rfl]; rfl) (FrB.refl _ _)
theorem q_fairRatio {tr b0 b1 b2 tree bs : Nat → Int32} {τ : Nat → Nat} {B : Nat → Nat → Nat} (hf : TC tr τ) (hf9 : TR tree 0 τ) (hT : TK τ) (hB : CB3 b0 b1 b2 B) (hb9 : ∀ k, k < 3 → RB bs k (B k)) (p1 : Int32) (aim : Int64) (st sb : Nat → Int32) (pu pe tu ca ho va : Nat → Int64) (ma ac : Nat → Int32) (x0 x1 x2 x3 : Int32) (pe9 : Nat → Int64) (a9 b9 : Int64) (wo9 ho9 : Nat → Int64) (ac9 : Nat → Int32) : Sx2 (fX8_fairRatio p1 aim tr b0 b1 b2 st sb pu pe tu ca ho va ma ac) (fX9_fairRatio p1 aim tree bs x0 x1 x2 x3 pe9 a9 b9 wo9 ho9 ac9) (fun _ t => FrB 3 bs t.1) := by
  by_cases h1 : inr p1 0 2
  · obtain ⟨k, rfl, _, hk, _⟩ := inr_n h1 (by decide)
    have hk3 : k < 3 := by omega
    refine Sx2.rel (P := Fa (Pk1 τ (B k) aim) 1000) (fun _ _ a b => a.u b) ?_ ?_
    · unfold fX8_fairRatio
      rw [isb8' hk3, bd1_mk, if_neg one0]
      exact Sx.b11 (P := fun z => Fa (Pk1 τ (B k) aim) 1000 z.1) (Sx.b11 (fk1 hk3 hf hT hB aim st sb pu pe tu ca ho va ma ac) (fun _ _ _ _ _ _ _ _ _ _ _ h => Sx.mk h)) (fun _ _ _ _ _ _ _ _ _ _ _ h => Sx.mk h)
    · unfold fX9_fairRatio
      exact Sx.b12 (fa9_1 hk3 hf9 hT (hb9 k hk3) (hB k hk3).2 aim x0 x1 x2 x3 pe9 a9 b9 wo9 ho9 ac9) (fun _ _ _ _ _ _ _ _ _ _ _ _ h => Sx.mk h)
  · refine Sx2.mk (by unfold fX8_fairRatio; rw [isb8n h1, bd1_mk, if_pos rfl]; rfl) (by unfold fX9_fairRatio fX9_fair; rw [isb9n h1, bd1_mk, if_pos rfl]; rfl) (FrB.refl _ _)
theorem q_fairRate {tr b0 b1 b2 tree bs : Nat → Int32} {τ : Nat → Nat} {B : Nat → Nat → Nat} (hf : TC tr τ) (hf9 : TR tree 0 τ) (hT : TK τ) (hB : CB3 b0 b1 b2 B) (hb9 : ∀ k, k < 3 → RB bs k (B k)) (p1 : Int32) (aim : Int64) (st sb : Nat → Int32) (pu pe tu ca ho va : Nat → Int64) (ma ac : Nat → Int32) (x0 x1 x2 x3 : Int32) (pe9 : Nat → Int64) (a9 b9 : Int64) (wo9 ho9 : Nat → Int64) (ac9 : Nat → Int32) : Sx2 (fX8_fairRate p1 aim tr b0 b1 b2 st sb pu pe tu ca ho va ma ac) (fX9_fairRate p1 aim tree bs x0 x1 x2 x3 pe9 a9 b9 wo9 ho9 ac9) (fun _ _ => True) := by
  by_cases h1 : inr p1 0 2
  · obtain ⟨k, rfl, _, hk, _⟩ := inr_n h1 (by decide)
    have hk3 : k < 3 := by omega
    refine Sx2.rel (P := Fa (Pk2 τ (B k) aim) 200) (fun _ _ a b => a.u b) ?_ ?_
    · unfold fX8_fairRate
      rw [isb8' hk3, bd1_mk, if_neg one0]
      exact Sx.b11 (P := fun z => Fa (Pk2 τ (B k) aim) 200 z.1) (Sx.b11 (fk2 hk3 hf hT hB aim st sb pu pe tu ca ho va ma ac) (fun _ _ _ _ _ _ _ _ _ _ _ h => Sx.mk h)) (fun _ _ _ _ _ _ _ _ _ _ _ h => Sx.mk h)
    · exact (fa9_2 hk3 hf9 hT (hb9 k hk3) (hB k hk3).2 aim x0 x1 x2 x3 pe9 a9 b9 wo9 ho9 ac9).tru
  · refine Sx2.mk (by unfold fX8_fairRate; rw [isb8n h1, bd1_mk, if_pos rfl]; rfl) (by unfold fX9_fairRate; rw [isb9n h1, bd1_mk, if_pos rfl]) trivial
theorem TK.sh {τ : Nat → Nat} (h : TK τ) {s p q : Nat} (hs : 1 ≤ s ∧ s ≤ 1000) (hpq : 1 ≤ p ∧ p < q ∧ q ≤ 20) : TK (bup (bup (bup τ 1 s) 6 p) 7 q) := ⟨h.1, hs, h.2.2.1, hpq, h.2.2.2.2⟩
theorem q_shifted {tr b0 b1 b2 tree bs : Nat → Int32} {τ : Nat → Nat} {B : Nat → Nat → Nat} (hf : TC tr τ) (hf9 : TR tree 0 τ) (hT : TK τ) (hB : CB3 b0 b1 b2 B) (hb9 : ∀ k, k < 3 → RB bs k (B k)) (p1 p2 p3 p4 : Int32) (st sb : Nat → Int32) (pu pe tu ca ho va : Nat → Int64) (ma ac : Nat → Int32) (x0 x1 x2 x3 : Int32) (pe9 : Nat → Int64) (a9 b9 : Int64) (wo9 ho9 : Nat → Int64) (ac9 : Nat → Int32) : Sx2 (fX8_shifted p1 p2 p3 p4 tr b0 b1 b2 st sb pu pe tu ca ho va ma ac) (fX9_shifted p1 p2 p3 p4 tree bs x0 x1 x2 x3 pe9 a9 b9 wo9 ho9 ac9) (fun _ _ => True) := by
  by_cases h1 : inr p1 0 2
  rotate_left
  · exact Sx2.mk (by unfold fX8_shifted; rw [isb8n h1, bd1_mk, if_pos rfl]) (by unfold fX9_shifted; rw [isb9n h1, bd1_mk, if_pos rfl]) (trivial)
  by_cases h2 : inr p2 1 1000
  rotate_left
  · exact Sx2.mk (by unfold fX8_shifted; rw [isb8y h1, bd1_mk, if_neg one0, isS8n h2, bd1_mk, if_pos rfl]) (by unfold fX9_shifted; rw [isb9y h1, bd1_mk, if_neg one0, in0 h2, bd1_mk, if_pos rfl]) (trivial)
  by_cases h3 : chP p3 p4
  rotate_left
  · exact Sx2.mk (by unfold fX8_shifted; rw [isb8y h1, bd1_mk, if_neg one0, isS8y h2, bd1_mk, if_neg one0, isC8n h3, bd1_mk, if_pos rfl]) (by unfold fX9_shifted; rw [isb9y h1, bd1_mk, if_neg one0, in1 h2, bd1_mk, if_neg one0, isC9n h3, bd1_mk, if_pos rfl]) (trivial)
  obtain ⟨k, rfl, _, hk, _⟩ := inr_n h1 (by decide)
  have hk3 : k < 3 := by omega
  obtain ⟨s, rfl, s1, s2, _⟩ := inr_n h2 (by decide)
  obtain ⟨p, q, rfl, rfl, hpq⟩ := chN h3
  have hs : 1 ≤ s ∧ s ≤ 1000 := by omega
  refine Sx2.val (v := lN (V0 (prF τ s) (τ 0) p q (τ 8) (B k))) ?_ ?_
  · unfold fX8_shifted
    rw [isb8y h1, bd1_mk, if_neg one0, isS8y h2, bd1_mk, if_neg one0, isC8y h3, bd1_mk, if_neg one0, og32 (by omega) (by omega), sel8 hk3, bd2_mk, i_1, st7 (by omega), bd1_mk, i_6, st7 (by omega), bd1_mk, i_7, st7 (by omega), bd1_mk]
    refine Sx.b8 (pb8 (((hf.cpy.up 1 s).up 6 p).up 7 q) (hT.sh hs hpq) (hB k hk3).1.cpy (hB k hk3).2 _ _ _ _ _ _ _ _) ?_
    intro c0 c1 c2 c3 c4 c5 c6 c7 hsb
    exact Sx.e1 (root8 hsb) (Sx.mk rfl)
  · unfold fX9_shifted
    rw [isb9y h1, bd1_mk, if_neg one0, in1 h2, bd1_mk, if_neg one0, isC9y h3, bd1_mk, if_neg one0, i_0]
    refine Sx.b7 (tt9 (w := 0) hf9 (by omega) (by omega) hT x0 x1 x2 x3 pe9 a9 b9) ?_
    rintro d0 d1 d2 d3 pe' d5 d6 ⟨rfl, rfl, rfl, rfl, hP⟩
    dsimp only at hP ⊢
    refine Sx.b4 (vo9 (hb9 k hk3) (hB k hk3).2 (prF_PK hT (by omega)) hP ⟨by omega, by omega, by omega⟩ wo9 ho9 ac9) ?_
    rintro v a1 a2 a3 rfl
    exact Sx.mk ⟨rfl, trivial⟩
theorem gu0 (ts : Nat → Int32) : fX0_giveUp 0 ts = some ts := rfl
theorem vw0 {tr b0 b1 b2 : Nat → Int32} {τ : Nat → Nat} {B : Nat → Nat → Nat} (hf : TC tr τ) (hT : TK τ) (hB : CB3 b0 b1 b2 B) {k : Nat} (hk : k < 3) (st sb : Nat → Int32) (pu pe tu ca ho va : Nat → Int64) (ma ac : Nat → Int32) : Sx (fX8_valueWithout (nI k) 0 tr b0 b1 b2 st sb pu pe tu ca ho va ma ac) (fun z => z.1 = lN (V1 τ (B k))) := by
  unfold fX8_valueWithout
  rw [isb8' hk, bd1_mk, if_neg one0, og32 (by omega) (by omega), sel8 hk, bd2_mk, gu0, bd1_mk]
  refine Sx.b8 (pb8 hf.cpy hT (hB k hk).1.cpy (hB k hk).2 _ _ _ _ _ _ _ _) ?_
  intro c0 c1 c2 c3 c4 c5 c6 c7 hsb
  exact Sx.e1 (root8 hsb) (Sx.mk rfl)
theorem q_book {tr b0 b1 b2 tree bs : Nat → Int32} {τ : Nat → Nat} {B : Nat → Nat → Nat} (hf : TC tr τ) (hf9 : TR tree 0 τ) (hT : TK τ) (hB : CB3 b0 b1 b2 B) (hb9 : ∀ k, k < 3 → RB bs k (B k)) (p1 p2 p3 : Int32) (st sb : Nat → Int32) (pu pe tu ca ho va : Nat → Int64) (ma ac : Nat → Int32) (x0 x1 x2 x3 : Int32) (pe9 : Nat → Int64) (a9 b9 : Int64) (wo9 ho9 : Nat → Int64) (ac9 : Nat → Int32) : Sx2 (fX8_book p1 p2 p3 tr b0 b1 b2 st sb pu pe tu ca ho va ma ac) (fX9_book p1 p2 p3 tree bs x0 x1 x2 x3 pe9 a9 b9 wo9 ho9 ac9) (fun _ _ => True) := by
  by_cases h1 : inr p1 (-100) 100
  rotate_left
  · exact Sx2.mk (by unfold fX8_book; rw [wi0 h1, bd1_mk, if_pos rfl]) (by unfold fX9_book; rw [in0 h1, bd1_mk, if_pos rfl]) (trivial)
  by_cases h2 : inr p2 (-100) 100
  rotate_left
  · exact Sx2.mk (by unfold fX8_book; rw [wi1 h1, bd1_mk, if_neg one0, wi0 h2, bd1_mk, if_pos rfl]) (by unfold fX9_book; rw [in1 h1, bd1_mk, if_neg one0, in0 h2, bd1_mk, if_pos rfl]) (trivial)
  by_cases h3 : inr p3 (-100) 100
  rotate_left
  · exact Sx2.mk (by unfold fX8_book; rw [wi1 h1, bd1_mk, if_neg one0, wi1 h2, bd1_mk, if_neg one0, wi0 h3, bd1_mk, if_pos rfl]) (by unfold fX9_book; rw [in1 h1, bd1_mk, if_neg one0, in1 h2, bd1_mk, if_neg one0, in0 h3, bd1_mk, if_pos rfl]) (trivial)
  refine Sx2.val (v := Int32.toInt64 p1 * lN (V1 τ (B 0)) + Int32.toInt64 p2 * lN (V1 τ (B 1)) + Int32.toInt64 p3 * lN (V1 τ (B 2))) ?_ ?_
  · unfold fX8_book
    rw [wi1 h1, bd1_mk, if_neg one0, wi1 h2, bd1_mk, if_neg one0, wi1 h3, bd1_mk, if_neg one0]
    refine Sx.b11 (vw0 hf hT hB (k := 0) (by omega) _ _ _ _ _ _ _ _ _ _) ?_
    rintro v0 _ _ _ _ _ _ _ _ _ _ rfl
    refine Sx.b11 (vw0 hf hT hB (k := 1) (by omega) _ _ _ _ _ _ _ _ _ _) ?_
    rintro v1 _ _ _ _ _ _ _ _ _ _ rfl
    refine Sx.b11 (vw0 hf hT hB (k := 2) (by omega) _ _ _ _ _ _ _ _ _ _) ?_
    rintro v2 _ _ _ _ _ _ _ _ _ _ rfl
    exact Sx.mk rfl
  · unfold fX9_book
    rw [in1 h1, bd1_mk, if_neg one0, in1 h2, bd1_mk, if_neg one0, in1 h3, bd1_mk, if_neg one0]
    refine Sx.b7 (tn9 hf9 hT x0 x1 x2 x3 pe9 a9 b9) ?_
    rintro d0 d1 d2 d3 pe' d5 d6 ⟨rfl, rfl, rfl, rfl, hP⟩
    dsimp only at hP ⊢
    refine Sx.b4 (vo9 (k := 0) (hb9 0 (by omega)) (hB 0 (by omega)).2 (prF_PK hT (by omega)) hP hT.n wo9 ho9 ac9) ?_
    rintro v a1 a2 a3 rfl
    rw [nm_mk]
    refine Sx.b4 (vo9 (k := 1) (hb9 1 (by omega)) (hB 1 (by omega)).2 (prF_PK hT (by omega)) hP hT.n _ _ _) ?_
    rintro v a1 a2 a3 rfl
    rw [nm_mk]
    refine Sx.b4 (vo9 (k := 2) (hb9 2 (by omega)) (hB 2 (by omega)).2 (prF_PK hT (by omega)) hP hT.n _ _ _) ?_
    rintro v a1 a2 a3 rfl
    exact Sx.mk ⟨rfl, trivial⟩
end
section
/-! pure: bestCall, bestPut: both sides (own rows) -/
def bDc (F : Nat → Nat) : Nat → Nat
  | 0 => 0
  | n + 1 => if F (n + 1) < F (bDc F n) then n + 1 else bDc F n
theorem bDc_le (F : Nat → Nat) (n : Nat) : bDc F n ≤ n := by
  induction n with
  | zero => exact Nat.le_refl 0
  | succ n ih =>
    unfold bDc
    split <;> omega
def Fbc (τ β : Nat → Nat) (c d : Nat) : Nat := V1 τ (bup β (9 + d) (c + 1))
theorem Fbc_b {τ β : Nat → Nat} (hT : TK τ) (hK : BK β) {c d : Nat} (hc : c ≤ 1000000) (hd : d < 6) : Fbc τ β c d ≤ 64000000007000 := V1_b hT (hK.up ⟨by omega, by omega, by omega, by omega, by omega, by omega, by omega, by omega, by omega⟩)
theorem bl8c {tr b0 b1 b2 : Nat → Int32} {τ : Nat → Nat} {B : Nat → Nat → Nat} (hf : TC tr τ) (hT : TK τ) (hB : CB3 b0 b1 b2 B) {k : Nat} (hk : k < 3) {c : Nat} (hc : c ≤ 1000000) (w : Int32) : ∀ (i n d : Nat) (x5 : Int32) (x6 : Int64) (st sb : Nat → Int32) (pu pe tu ca ho va : Nat → Int64) (ma ac : Nat → Int32), d + i = τ 0 → (d = 0 ∨ (x5 = nI (bDc (Fbc τ (B k) c) (d - 1)) ∧ x6 = lN (Fbc τ (B k) c (bDc (Fbc τ (B k) c) (d - 1))))) → Sx (lpX8_bestDay_20 (nI k) 20 (nI c) w tr b0 b1 b2 (n + i + 1) x5 x6 (nI d) st sb pu pe tu ca ho va ma ac) (fun z => τ 0 = 0 ∨ (z.1 = nI (bDc (Fbc τ (B k) c) (τ 0 - 1)) ∧ z.2.1 = lN (Fbc τ (B k) c (bDc (Fbc τ (B k) c) (τ 0 - 1))))) := by
  intro i
  induction i with
  | zero =>
    intro n d x5 x6 st sb pu pe tu ca ho va ma ac hi hg
    rw [lpX8_bestDay_20.eq_2]
    refine Sx.e1 (ld8 hf hT) (Sx.p (nI_le (by omega) (by omega)) (Sx.mk ?_))
    rw [show τ 0 = d by omega]
    exact hg
  | succ i ih =>
    intro n d x5 x6 st sb pu pe tu ca ho va ma ac hi hg
    rw [lpX8_bestDay_20.eq_2]
    refine Sx.e1 (ld8 hf hT) (Sx.n (nI_ge (by omega) (by omega)) ?_)
    rw [og32 (by omega) (by omega), sel8 hk, bd2_mk, i_20, nI_add, xset (by omega), bd1_mk]
    have hcb : CB (upd (va_cpy (bsel k b0 b1 b2) sb 0 0 36) (20 + d) (nI c)) (bup (B k) (9 + d) (c + 1)) := by
      have := (hB k hk).1.cpy (g := sb) |>.up (a := 9 + d) (x := c + 1) (v := nI c) (by omega) (by rw [eI_c (by omega), bup_s, iC_s])
      rwa [show cI (9 + d) = 20 + d by unfold cI; rw [if_neg (by omega), if_neg (by omega), if_pos (by omega)]; omega] at this
    have hbk : BK (bup (B k) (9 + d) (c + 1)) := (hB k hk).2.up ⟨by omega, by omega, by omega, by omega, by omega, by omega, by omega, by omega, by omega⟩
    refine Sx.b8 (pb8 hf.cpy hT hcb hbk _ _ _ _ _ _ _ _) ?_
    intro c0 c1 c2 c3 c4 c5 c6 c7 hsb
    refine Sx.e1 (root8 hsb) ?_
    have hFd : V1 τ (bup (B k) (9 + d) (c + 1)) = Fbc τ (B k) c d := rfl
    rw [hFd]
    have hb1 := Fbc_b hT (hB k hk).2 hc (show d < 6 by omega)
    by_cases h0 : d = 0
    · subst h0
      refine Sx.b1 (P := fun _ => True) (Sx.p rfl ?_) ?_
      · exact Sx.it (fun _ => Sx.mk trivial) (fun _ => Sx.mk trivial)
      · intro j _
        refine Sx.e2 (a0 := nI 0) (a1 := lN (Fbc τ (B k) c 0)) (if_pos rfl) ?_
        rw [nm_mk, nI_1, show n + (i + 1) = n + i + 1 by omega]
        exact ih n (0 + 1) _ _ _ _ _ _ _ _ _ _ _ _ (by omega) (Or.inr ⟨rfl, rfl⟩)
    · obtain ⟨e5, e6⟩ := hg.resolve_left h0
      subst e5; subst e6
      obtain ⟨e, rfl⟩ : ∃ e, d = e + 1 := ⟨d - 1, by omega⟩
      rw [Nat.add_sub_cancel]
      have hle := bDc_le (Fbc τ (B k) c) e
      have hb2 := Fbc_b hT (hB k hk).2 hc (show bDc (Fbc τ (B k) c) e < 6 by omega)
      have hbs : bDc (Fbc τ (B k) c) (e + 1) = if Fbc τ (B k) c (e + 1) < Fbc τ (B k) c (bDc (Fbc τ (B k) c) e) then e + 1 else bDc (Fbc τ (B k) c) e := rfl
      by_cases g : Fbc τ (B k) c (e + 1) < Fbc τ (B k) c (bDc (Fbc τ (B k) c) e)
      · rw [if_pos g] at hbs
        refine Sx.e1 (a0 := 1) (by rw [if_pos rfl, if_neg (fun q => by rw [pk_lLE (by omega) (by omega)] at q; omega)]) ?_
        refine Sx.e2 (a0 := nI (e + 1)) (a1 := lN (Fbc τ (B k) c (e + 1))) (by rw [if_neg (nI_ne0 (by omega) (by omega)), if_neg one0]) ?_
        rw [nm_mk, nI_1, show n + (i + 1) = n + i + 1 by omega]
        refine ih n (e + 1 + 1) _ _ _ _ _ _ _ _ _ _ _ _ (by omega) (Or.inr ?_)
        rw [Nat.add_sub_cancel, hbs]; exact ⟨rfl, rfl⟩
      · rw [if_neg g] at hbs
        refine Sx.e1 (a0 := 0) (by rw [if_pos rfl, if_pos ((pk_lLE (by omega) (by omega)).mpr (by omega))]) ?_
        refine Sx.e2 (a0 := nI (bDc (Fbc τ (B k) c) e)) (a1 := lN (Fbc τ (B k) c (bDc (Fbc τ (B k) c) e))) (by rw [if_neg (nI_ne0 (by omega) (by omega)), if_pos rfl]) ?_
        rw [nm_mk, nI_1, show n + (i + 1) = n + i + 1 by omega]
        refine ih n (e + 1 + 1) _ _ _ _ _ _ _ _ _ _ _ _ (by omega) (Or.inr ?_)
        rw [Nat.add_sub_cancel, hbs]; exact ⟨rfl, rfl⟩
def bWc (τ β : Nat → Nat) (c w : Nat) : Int64 := if w = 0 then lN (bDc (Fbc τ β c) (τ 0 - 1)) else lN (Fbc τ β c (bDc (Fbc τ β c) (τ 0 - 1)))
theorem bd8c {tr b0 b1 b2 : Nat → Int32} {τ : Nat → Nat} {B : Nat → Nat → Nat} (hf : TC tr τ) (hT : TK τ) (hB : CB3 b0 b1 b2 B) {k : Nat} (hk : k < 3) {c w : Nat} (hc : c ≤ 1000000) (hw : w < 2) (st sb : Nat → Int32) (pu pe tu ca ho va : Nat → Int64) (ma ac : Nat → Int32) : Sx (fX8_bestDay (nI k) 20 (nI c) (nI w) tr b0 b1 b2 st sb pu pe tu ca ho va ma ac) (fun z => z.1 = bWc τ (B k) c w) := by
  unfold fX8_bestDay
  obtain ⟨n, hn⟩ := fuN (τ 0 + 1) (by omega)
  rw [isb8' hk, bd1_mk, if_neg one0, hn]
  refine Sx.b12 (bl8c hf hT hB hk hc (nI w) (τ 0) n 0 0 0 st sb pu pe tu ca ho va ma ac (by omega) (Or.inl rfl)) ?_
  intro z0 z1 _ _ _ _ _ _ _ _ _ _ h
  obtain ⟨e1, e2⟩ := h.resolve_left (by omega)
  dsimp only at e1 e2
  subst e1; subst e2
  have hle := bDc_le (Fbc τ (B k) c) (τ 0 - 1)
  unfold bWc
  rcases (show w = 0 ∨ w = 1 by omega) with rfl | rfl
  · refine Sx.e1 (if_pos rfl) (Sx.mk ?_)
    rw [if_pos rfl, nI_l (by omega)]
  · exact Sx.e1 (if_neg one0) (Sx.mk rfl)
theorem bl9c {bs0 : Nat → Int32} {pe : Nat → Int64} {τ β : Nat → Nat} (hT : TK τ) {k : Nat} (hk : k < 3) (hK : BK β) (hP : RP pe (τ 0) (prF τ (τ 1))) {c : Nat} (hc : c ≤ 1000000) (w : Int32) : ∀ (i n d : Nat) (x5 : Int32) (x6 : Int64) (bs : Nat → Int32) (wo ho : Nat → Int64) (ac : Nat → Int32), d + i = τ 0 → RB bs k β → FrB 3 bs0 bs → ((d = 0 ∧ x5 = -1) ∨ (0 < d ∧ x5 = nI (bDc (Fbc τ β c) (d - 1)) ∧ x6 = lN (Fbc τ β c (bDc (Fbc τ β c) (d - 1))))) → Sx (lpX9_bestOne_47 (nI k) 9 (nI c) w (nI (τ 0)) (nI (τ 6)) (nI (τ 7)) (nI (τ 8)) pe (n + i + 1) x5 x6 (nI d) bs wo ho ac) (fun z => (z.1 = nI (bDc (Fbc τ β c) (τ 0 - 1)) ∧ z.2.1 = lN (Fbc τ β c (bDc (Fbc τ β c) (τ 0 - 1)))) ∧ FrB 3 bs0 z.2.2.1) := by
  intro i
  induction i with
  | zero =>
    intro n d x5 x6 bs wo ho ac hi hb hfr hg
    rw [lpX9_bestOne_47.eq_2]
    refine Sx.p (nI_le (by omega) (by omega)) (Sx.mk ?_)
    rcases hg with ⟨h, _⟩ | ⟨_, h⟩
    · omega
    · rw [show τ 0 = d by omega]
      exact ⟨h, hfr⟩
  | succ i ih =>
    intro n d x5 x6 bs wo ho ac hi hb hfr hg
    rw [lpX9_bestOne_47.eq_2]
    refine Sx.n (nI_ge (by omega) (by omega)) ?_
    refine Sx.b1 (cy9 (l := 3) (by omega) (by omega) (by omega) hb) ?_
    rintro b' ⟨hb', hfr'⟩
    rw [i_9, nI_add, i_3, se9 (by omega), bd1_mk]
    have hrb : RB (upd b' (27 * 3 + (9 + d)) (nI c)) 3 (bup β (9 + d) (c + 1)) := hb'.up (by omega) (by rw [rI_m (by omega), bup_s, iM_s])
    have hbk : BK (bup β (9 + d) (c + 1)) := hK.up ⟨by omega, by omega, by omega, by omega, by omega, by omega, by omega, by omega, by omega⟩
    have hfr2 : FrB 3 bs (upd b' (27 * 3 + (9 + d)) (nI c)) := hfr'.tr (FrB.up (by omega) _)
    refine Sx.b4 (vo9 (k := 3) hrb hbk (prF_PK hT (by omega)) hP hT.n wo ho ac) ?_
    rintro v a1 a2 a3 rfl
    have hFd : V0 (prF τ (τ 1)) (τ 0) (τ 6) (τ 7) (τ 8) (bup β (9 + d) (c + 1)) = Fbc τ β c d := rfl
    rw [hFd]
    have hb1 := Fbc_b hT hK hc (show d < 6 by omega)
    have hnx := hb.fr (l := 3) (by omega) hfr2
    rcases hg with ⟨h0, rfl⟩ | ⟨h0, rfl, rfl⟩
    · subst h0
      refine Sx.e2 (a0 := nI 0) (a1 := lN (Fbc τ β c 0)) (if_pos rfl) ?_
      rw [nm_mk, nI_1, show n + (i + 1) = n + i + 1 by omega]
      exact ih n (0 + 1) _ _ _ _ _ _ (by omega) hnx (hfr.tr hfr2) (Or.inr ⟨by omega, rfl, rfl⟩)
    · obtain ⟨e, rfl⟩ : ∃ e, d = e + 1 := ⟨d - 1, by omega⟩
      rw [Nat.add_sub_cancel]
      have hle := bDc_le (Fbc τ β c) e
      have hb2 := Fbc_b hT hK hc (show bDc (Fbc τ β c) e < 6 by omega)
      have hbs : bDc (Fbc τ β c) (e + 1) = if Fbc τ β c (e + 1) < Fbc τ β c (bDc (Fbc τ β c) e) then e + 1 else bDc (Fbc τ β c) e := rfl
      have hm1 : ¬ nI (bDc (Fbc τ β c) e) = -1 := fun q => by
        have := nI_toInt (show bDc (Fbc τ β c) e < 2 ^ 31 by omega)
        rw [q] at this
        exact absurd this (by show ¬ ((-1 : Int) = _); omega)
      by_cases g : Fbc τ β c (e + 1) < Fbc τ β c (bDc (Fbc τ β c) e)
      · rw [if_pos g] at hbs
        refine Sx.e2 (a0 := nI (e + 1)) (a1 := lN (Fbc τ β c (e + 1))) (by rw [if_neg hm1, if_pos rfl, if_pos ((pk_lLT (by omega) (by omega)).mpr g)]) ?_
        rw [nm_mk, nI_1, show n + (i + 1) = n + i + 1 by omega]
        refine ih n (e + 1 + 1) _ _ _ _ _ _ (by omega) hnx (hfr.tr hfr2) (Or.inr ⟨by omega, ?_⟩)
        rw [Nat.add_sub_cancel, hbs]; exact ⟨rfl, rfl⟩
      · rw [if_neg g] at hbs
        refine Sx.e2 (a0 := nI (bDc (Fbc τ β c) e)) (a1 := lN (Fbc τ β c (bDc (Fbc τ β c) e))) (by rw [if_neg hm1, if_pos rfl, if_neg (fun q => g ((pk_lLT (by omega) (by omega)).mp q))]) ?_
        rw [nm_mk, nI_1, show n + (i + 1) = n + i + 1 by omega]
        refine ih n (e + 1 + 1) _ _ _ _ _ _ (by omega) hnx (hfr.tr hfr2) (Or.inr ⟨by omega, ?_⟩)
        rw [Nat.add_sub_cancel, hbs]; exact ⟨rfl, rfl⟩
theorem bo9c {tree bs : Nat → Int32} {τ β : Nat → Nat} (hf9 : TR tree 0 τ) (hT : TK τ) {k : Nat} (hk : k < 3) (hb : RB bs k β) (hK : BK β) {c w : Nat} (hc : c ≤ 1000000) (hw : w < 2) (x0 x1 x2 x3 : Int32) (pe9 : Nat → Int64) (a9 b9 : Int64) (wo9 ho9 : Nat → Int64) (ac9 : Nat → Int32) : Sx (fX9_bestOne (nI k) 9 (nI c) (nI w) tree bs x0 x1 x2 x3 pe9 a9 b9 wo9 ho9 ac9) (fun z => z.1 = bWc τ β c w ∧ FrB 3 bs z.2.1) := by
  unfold fX9_bestOne
  rw [isb9' hk, bd1_mk, if_neg one0, in1 (x := nI c) (A := 0) (B := 1000000) (by rw [inr_nI (by omega)]; omega), bd1_mk, if_neg one0, in1 (x := nI w) (A := 0) (B := 1) (by rw [inr_nI (by omega)]; omega), bd1_mk, if_neg one0]
  refine Sx.b7 (tn9 hf9 hT x0 x1 x2 x3 pe9 a9 b9) ?_
  rintro d0 d1 d2 d3 pe' d5 d6 ⟨rfl, rfl, rfl, rfl, hP⟩
  dsimp only at hP ⊢
  obtain ⟨n, hn⟩ := fuN (τ 0 + 1) (by omega)
  rw [hn]
  refine Sx.b6 (bl9c (bs0 := bs) hT hk hK hP hc (nI w) (τ 0) n 0 (-1) 0 bs wo9 ho9 ac9 (by omega) hb (FrB.refl _ _) (Or.inl ⟨rfl, rfl⟩)) ?_
  rintro z0 z1 z2 z3 z4 z5 ⟨⟨e1, e2⟩, hfr⟩
  dsimp only at e1 e2 hfr
  subst e1; subst e2
  have hle := bDc_le (Fbc τ β c) (τ 0 - 1)
  unfold bWc
  rcases (show w = 0 ∨ w = 1 by omega) with rfl | rfl
  · refine Sx.e1 (if_pos rfl) (Sx.mk ⟨?_, hfr⟩)
    rw [if_pos rfl, nI_l (by omega)]
  · exact Sx.e1 (if_neg one0) (Sx.mk ⟨rfl, hfr⟩)
def bDp (F : Nat → Nat) : Nat → Nat
  | 0 => 0
  | n + 1 => if F (bDp F n) < F (n + 1) then n + 1 else bDp F n
theorem bDp_le (F : Nat → Nat) (n : Nat) : bDp F n ≤ n := by
  induction n with
  | zero => exact Nat.le_refl 0
  | succ n ih =>
    unfold bDp
    split <;> omega
def Fbp (τ β : Nat → Nat) (c d : Nat) : Nat := V1 τ (bup β (15 + d) (c + 1))
theorem Fbp_b {τ β : Nat → Nat} (hT : TK τ) (hK : BK β) {c d : Nat} (hc : c ≤ 1000000) (hd : d < 6) : Fbp τ β c d ≤ 64000000007000 := V1_b hT (hK.up ⟨by omega, by omega, by omega, by omega, by omega, by omega, by omega, by omega, by omega⟩)
theorem bl8p {tr b0 b1 b2 : Nat → Int32} {τ : Nat → Nat} {B : Nat → Nat → Nat} (hf : TC tr τ) (hT : TK τ) (hB : CB3 b0 b1 b2 B) {k : Nat} (hk : k < 3) {c : Nat} (hc : c ≤ 1000000) (w : Int32) : ∀ (i n d : Nat) (x5 : Int32) (x6 : Int64) (st sb : Nat → Int32) (pu pe tu ca ho va : Nat → Int64) (ma ac : Nat → Int32), d + i = τ 0 → (d = 0 ∨ (x5 = nI (bDp (Fbp τ (B k) c) (d - 1)) ∧ x6 = lN (Fbp τ (B k) c (bDp (Fbp τ (B k) c) (d - 1))))) → Sx (lpX8_bestDay_20 (nI k) 30 (nI c) w tr b0 b1 b2 (n + i + 1) x5 x6 (nI d) st sb pu pe tu ca ho va ma ac) (fun z => τ 0 = 0 ∨ (z.1 = nI (bDp (Fbp τ (B k) c) (τ 0 - 1)) ∧ z.2.1 = lN (Fbp τ (B k) c (bDp (Fbp τ (B k) c) (τ 0 - 1))))) := by
  intro i
  induction i with
  | zero =>
    intro n d x5 x6 st sb pu pe tu ca ho va ma ac hi hg
    rw [lpX8_bestDay_20.eq_2]
    refine Sx.e1 (ld8 hf hT) (Sx.p (nI_le (by omega) (by omega)) (Sx.mk ?_))
    rw [show τ 0 = d by omega]
    exact hg
  | succ i ih =>
    intro n d x5 x6 st sb pu pe tu ca ho va ma ac hi hg
    rw [lpX8_bestDay_20.eq_2]
    refine Sx.e1 (ld8 hf hT) (Sx.n (nI_ge (by omega) (by omega)) ?_)
    rw [og32 (by omega) (by omega), sel8 hk, bd2_mk, i_30, nI_add, xset (by omega), bd1_mk]
    have hcb : CB (upd (va_cpy (bsel k b0 b1 b2) sb 0 0 36) (30 + d) (nI c)) (bup (B k) (15 + d) (c + 1)) := by
      have := (hB k hk).1.cpy (g := sb) |>.up (a := 15 + d) (x := c + 1) (v := nI c) (by omega) (by rw [eI_c (by omega), bup_s, iC_s])
      rwa [show cI (15 + d) = 30 + d by unfold cI; rw [if_neg (by omega), if_neg (by omega), if_neg (by omega), if_pos (by omega)]; omega] at this
    have hbk : BK (bup (B k) (15 + d) (c + 1)) := (hB k hk).2.up ⟨by omega, by omega, by omega, by omega, by omega, by omega, by omega, by omega, by omega⟩
    refine Sx.b8 (pb8 hf.cpy hT hcb hbk _ _ _ _ _ _ _ _) ?_
    intro c0 c1 c2 c3 c4 c5 c6 c7 hsb
    refine Sx.e1 (root8 hsb) ?_
    have hFd : V1 τ (bup (B k) (15 + d) (c + 1)) = Fbp τ (B k) c d := rfl
    rw [hFd]
    have hb1 := Fbp_b hT (hB k hk).2 hc (show d < 6 by omega)
    by_cases h0 : d = 0
    · subst h0
      refine Sx.b1 (P := fun _ => True) (Sx.n (by decide) ?_) ?_
      · exact Sx.it (fun _ => Sx.mk trivial) (fun _ => Sx.mk trivial)
      · intro j _
        refine Sx.e2 (a0 := nI 0) (a1 := lN (Fbp τ (B k) c 0)) (if_pos rfl) ?_
        rw [nm_mk, nI_1, show n + (i + 1) = n + i + 1 by omega]
        exact ih n (0 + 1) _ _ _ _ _ _ _ _ _ _ _ _ (by omega) (Or.inr ⟨rfl, rfl⟩)
    · obtain ⟨e5, e6⟩ := hg.resolve_left h0
      subst e5; subst e6
      obtain ⟨e, rfl⟩ : ∃ e, d = e + 1 := ⟨d - 1, by omega⟩
      rw [Nat.add_sub_cancel]
      have hle := bDp_le (Fbp τ (B k) c) e
      have hb2 := Fbp_b hT (hB k hk).2 hc (show bDp (Fbp τ (B k) c) e < 6 by omega)
      have hbs : bDp (Fbp τ (B k) c) (e + 1) = if Fbp τ (B k) c (bDp (Fbp τ (B k) c) e) < Fbp τ (B k) c (e + 1) then e + 1 else bDp (Fbp τ (B k) c) e := rfl
      by_cases g : Fbp τ (B k) c (bDp (Fbp τ (B k) c) e) < Fbp τ (B k) c (e + 1)
      · rw [if_pos g] at hbs
        refine Sx.e1 (a0 := 1) (by rw [if_neg (by decide), if_neg (fun q => by rw [pk_lLE (by omega) (by omega)] at q; omega)]) ?_
        refine Sx.e2 (a0 := nI (e + 1)) (a1 := lN (Fbp τ (B k) c (e + 1))) (by rw [if_neg (nI_ne0 (by omega) (by omega)), if_neg one0]) ?_
        rw [nm_mk, nI_1, show n + (i + 1) = n + i + 1 by omega]
        refine ih n (e + 1 + 1) _ _ _ _ _ _ _ _ _ _ _ _ (by omega) (Or.inr ?_)
        rw [Nat.add_sub_cancel, hbs]; exact ⟨rfl, rfl⟩
      · rw [if_neg g] at hbs
        refine Sx.e1 (a0 := 0) (by rw [if_neg (by decide), if_pos ((pk_lLE (by omega) (by omega)).mpr (by omega))]) ?_
        refine Sx.e2 (a0 := nI (bDp (Fbp τ (B k) c) e)) (a1 := lN (Fbp τ (B k) c (bDp (Fbp τ (B k) c) e))) (by rw [if_neg (nI_ne0 (by omega) (by omega)), if_pos rfl]) ?_
        rw [nm_mk, nI_1, show n + (i + 1) = n + i + 1 by omega]
        refine ih n (e + 1 + 1) _ _ _ _ _ _ _ _ _ _ _ _ (by omega) (Or.inr ?_)
        rw [Nat.add_sub_cancel, hbs]; exact ⟨rfl, rfl⟩
def bWp (τ β : Nat → Nat) (c w : Nat) : Int64 := if w = 0 then lN (bDp (Fbp τ β c) (τ 0 - 1)) else lN (Fbp τ β c (bDp (Fbp τ β c) (τ 0 - 1)))
theorem bd8p {tr b0 b1 b2 : Nat → Int32} {τ : Nat → Nat} {B : Nat → Nat → Nat} (hf : TC tr τ) (hT : TK τ) (hB : CB3 b0 b1 b2 B) {k : Nat} (hk : k < 3) {c w : Nat} (hc : c ≤ 1000000) (hw : w < 2) (st sb : Nat → Int32) (pu pe tu ca ho va : Nat → Int64) (ma ac : Nat → Int32) : Sx (fX8_bestDay (nI k) 30 (nI c) (nI w) tr b0 b1 b2 st sb pu pe tu ca ho va ma ac) (fun z => z.1 = bWp τ (B k) c w) := by
  unfold fX8_bestDay
  obtain ⟨n, hn⟩ := fuN (τ 0 + 1) (by omega)
  rw [isb8' hk, bd1_mk, if_neg one0, hn]
  refine Sx.b12 (bl8p hf hT hB hk hc (nI w) (τ 0) n 0 0 0 st sb pu pe tu ca ho va ma ac (by omega) (Or.inl rfl)) ?_
  intro z0 z1 _ _ _ _ _ _ _ _ _ _ h
  obtain ⟨e1, e2⟩ := h.resolve_left (by omega)
  dsimp only at e1 e2
  subst e1; subst e2
  have hle := bDp_le (Fbp τ (B k) c) (τ 0 - 1)
  unfold bWp
  rcases (show w = 0 ∨ w = 1 by omega) with rfl | rfl
  · refine Sx.e1 (if_pos rfl) (Sx.mk ?_)
    rw [if_pos rfl, nI_l (by omega)]
  · exact Sx.e1 (if_neg one0) (Sx.mk rfl)
theorem bl9p {bs0 : Nat → Int32} {pe : Nat → Int64} {τ β : Nat → Nat} (hT : TK τ) {k : Nat} (hk : k < 3) (hK : BK β) (hP : RP pe (τ 0) (prF τ (τ 1))) {c : Nat} (hc : c ≤ 1000000) (w : Int32) : ∀ (i n d : Nat) (x5 : Int32) (x6 : Int64) (bs : Nat → Int32) (wo ho : Nat → Int64) (ac : Nat → Int32), d + i = τ 0 → RB bs k β → FrB 3 bs0 bs → ((d = 0 ∧ x5 = -1) ∨ (0 < d ∧ x5 = nI (bDp (Fbp τ β c) (d - 1)) ∧ x6 = lN (Fbp τ β c (bDp (Fbp τ β c) (d - 1))))) → Sx (lpX9_bestOne_47 (nI k) 15 (nI c) w (nI (τ 0)) (nI (τ 6)) (nI (τ 7)) (nI (τ 8)) pe (n + i + 1) x5 x6 (nI d) bs wo ho ac) (fun z => (z.1 = nI (bDp (Fbp τ β c) (τ 0 - 1)) ∧ z.2.1 = lN (Fbp τ β c (bDp (Fbp τ β c) (τ 0 - 1)))) ∧ FrB 3 bs0 z.2.2.1) := by
  intro i
  induction i with
  | zero =>
    intro n d x5 x6 bs wo ho ac hi hb hfr hg
    rw [lpX9_bestOne_47.eq_2]
    refine Sx.p (nI_le (by omega) (by omega)) (Sx.mk ?_)
    rcases hg with ⟨h, _⟩ | ⟨_, h⟩
    · omega
    · rw [show τ 0 = d by omega]
      exact ⟨h, hfr⟩
  | succ i ih =>
    intro n d x5 x6 bs wo ho ac hi hb hfr hg
    rw [lpX9_bestOne_47.eq_2]
    refine Sx.n (nI_ge (by omega) (by omega)) ?_
    refine Sx.b1 (cy9 (l := 3) (by omega) (by omega) (by omega) hb) ?_
    rintro b' ⟨hb', hfr'⟩
    rw [i_15, nI_add, i_3, se9 (by omega), bd1_mk]
    have hrb : RB (upd b' (27 * 3 + (15 + d)) (nI c)) 3 (bup β (15 + d) (c + 1)) := hb'.up (by omega) (by rw [rI_m (by omega), bup_s, iM_s])
    have hbk : BK (bup β (15 + d) (c + 1)) := hK.up ⟨by omega, by omega, by omega, by omega, by omega, by omega, by omega, by omega, by omega⟩
    have hfr2 : FrB 3 bs (upd b' (27 * 3 + (15 + d)) (nI c)) := hfr'.tr (FrB.up (by omega) _)
    refine Sx.b4 (vo9 (k := 3) hrb hbk (prF_PK hT (by omega)) hP hT.n wo ho ac) ?_
    rintro v a1 a2 a3 rfl
    have hFd : V0 (prF τ (τ 1)) (τ 0) (τ 6) (τ 7) (τ 8) (bup β (15 + d) (c + 1)) = Fbp τ β c d := rfl
    rw [hFd]
    have hb1 := Fbp_b hT hK hc (show d < 6 by omega)
    have hnx := hb.fr (l := 3) (by omega) hfr2
    rcases hg with ⟨h0, rfl⟩ | ⟨h0, rfl, rfl⟩
    · subst h0
      refine Sx.e2 (a0 := nI 0) (a1 := lN (Fbp τ β c 0)) (if_pos rfl) ?_
      rw [nm_mk, nI_1, show n + (i + 1) = n + i + 1 by omega]
      exact ih n (0 + 1) _ _ _ _ _ _ (by omega) hnx (hfr.tr hfr2) (Or.inr ⟨by omega, rfl, rfl⟩)
    · obtain ⟨e, rfl⟩ : ∃ e, d = e + 1 := ⟨d - 1, by omega⟩
      rw [Nat.add_sub_cancel]
      have hle := bDp_le (Fbp τ β c) e
      have hb2 := Fbp_b hT hK hc (show bDp (Fbp τ β c) e < 6 by omega)
      have hbs : bDp (Fbp τ β c) (e + 1) = if Fbp τ β c (bDp (Fbp τ β c) e) < Fbp τ β c (e + 1) then e + 1 else bDp (Fbp τ β c) e := rfl
      have hm1 : ¬ nI (bDp (Fbp τ β c) e) = -1 := fun q => by
        have := nI_toInt (show bDp (Fbp τ β c) e < 2 ^ 31 by omega)
        rw [q] at this
        exact absurd this (by show ¬ ((-1 : Int) = _); omega)
      by_cases g : Fbp τ β c (bDp (Fbp τ β c) e) < Fbp τ β c (e + 1)
      · rw [if_pos g] at hbs
        refine Sx.e2 (a0 := nI (e + 1)) (a1 := lN (Fbp τ β c (e + 1))) (by rw [if_neg hm1, if_neg (by decide), if_pos ((pk_lLT (by omega) (by omega)).mpr g)]) ?_
        rw [nm_mk, nI_1, show n + (i + 1) = n + i + 1 by omega]
        refine ih n (e + 1 + 1) _ _ _ _ _ _ (by omega) hnx (hfr.tr hfr2) (Or.inr ⟨by omega, ?_⟩)
        rw [Nat.add_sub_cancel, hbs]; exact ⟨rfl, rfl⟩
      · rw [if_neg g] at hbs
        refine Sx.e2 (a0 := nI (bDp (Fbp τ β c) e)) (a1 := lN (Fbp τ β c (bDp (Fbp τ β c) e))) (by rw [if_neg hm1, if_neg (by decide), if_neg (fun q => g ((pk_lLT (by omega) (by omega)).mp q))]) ?_
        rw [nm_mk, nI_1, show n + (i + 1) = n + i + 1 by omega]
        refine ih n (e + 1 + 1) _ _ _ _ _ _ (by omega) hnx (hfr.tr hfr2) (Or.inr ⟨by omega, ?_⟩)
        rw [Nat.add_sub_cancel, hbs]; exact ⟨rfl, rfl⟩
theorem bo9p {tree bs : Nat → Int32} {τ β : Nat → Nat} (hf9 : TR tree 0 τ) (hT : TK τ) {k : Nat} (hk : k < 3) (hb : RB bs k β) (hK : BK β) {c w : Nat} (hc : c ≤ 1000000) (hw : w < 2) (x0 x1 x2 x3 : Int32) (pe9 : Nat → Int64) (a9 b9 : Int64) (wo9 ho9 : Nat → Int64) (ac9 : Nat → Int32) : Sx (fX9_bestOne (nI k) 15 (nI c) (nI w) tree bs x0 x1 x2 x3 pe9 a9 b9 wo9 ho9 ac9) (fun z => z.1 = bWp τ β c w ∧ FrB 3 bs z.2.1) := by
  unfold fX9_bestOne
  rw [isb9' hk, bd1_mk, if_neg one0, in1 (x := nI c) (A := 0) (B := 1000000) (by rw [inr_nI (by omega)]; omega), bd1_mk, if_neg one0, in1 (x := nI w) (A := 0) (B := 1) (by rw [inr_nI (by omega)]; omega), bd1_mk, if_neg one0]
  refine Sx.b7 (tn9 hf9 hT x0 x1 x2 x3 pe9 a9 b9) ?_
  rintro d0 d1 d2 d3 pe' d5 d6 ⟨rfl, rfl, rfl, rfl, hP⟩
  dsimp only at hP ⊢
  obtain ⟨n, hn⟩ := fuN (τ 0 + 1) (by omega)
  rw [hn]
  refine Sx.b6 (bl9p (bs0 := bs) hT hk hK hP hc (nI w) (τ 0) n 0 (-1) 0 bs wo9 ho9 ac9 (by omega) hb (FrB.refl _ _) (Or.inl ⟨rfl, rfl⟩)) ?_
  rintro z0 z1 z2 z3 z4 z5 ⟨⟨e1, e2⟩, hfr⟩
  dsimp only at e1 e2 hfr
  subst e1; subst e2
  have hle := bDp_le (Fbp τ β c) (τ 0 - 1)
  unfold bWp
  rcases (show w = 0 ∨ w = 1 by omega) with rfl | rfl
  · refine Sx.e1 (if_pos rfl) (Sx.mk ⟨?_, hfr⟩)
    rw [if_pos rfl, nI_l (by omega)]
  · exact Sx.e1 (if_neg one0) (Sx.mk ⟨rfl, hfr⟩)
theorem q_bestCall {tr b0 b1 b2 tree bs : Nat → Int32} {τ : Nat → Nat} {B : Nat → Nat → Nat} (hf : TC tr τ) (hf9 : TR tree 0 τ) (hT : TK τ) (hB : CB3 b0 b1 b2 B) (hb9 : ∀ k, k < 3 → RB bs k (B k)) (p1 p2 p3 : Int32) (st sb : Nat → Int32) (pu pe tu ca ho va : Nat → Int64) (ma ac : Nat → Int32) (x0 x1 x2 x3 : Int32) (pe9 : Nat → Int64) (a9 b9 : Int64) (wo9 ho9 : Nat → Int64) (ac9 : Nat → Int32) : Sx2 (fX8_bestCall p1 p2 p3 tr b0 b1 b2 st sb pu pe tu ca ho va ma ac) (fX9_bestCall p1 p2 p3 tree bs x0 x1 x2 x3 pe9 a9 b9 wo9 ho9 ac9) (fun _ t => FrB 3 bs t.1) := by
  by_cases h1 : inr p1 0 2
  rotate_left
  · exact Sx2.mk (by unfold fX8_bestCall; rw [isb8n h1, bd1_mk, if_pos rfl]) (by unfold fX9_bestCall fX9_bestOne; rw [isb9n h1, bd1_mk, if_pos rfl]; rfl) (FrB.refl _ _)
  by_cases h2 : inr p2 0 1000000
  rotate_left
  · exact Sx2.mk (by unfold fX8_bestCall; rw [isb8y h1, bd1_mk, if_neg one0, isp8n h2, bd1_mk, if_pos rfl]) (by unfold fX9_bestCall fX9_bestOne; rw [isb9y h1, bd1_mk, if_neg one0, in0 h2, bd1_mk, if_pos rfl]; rfl) (FrB.refl _ _)
  by_cases h3 : inr p3 0 1
  rotate_left
  · exact Sx2.mk (by unfold fX8_bestCall; rw [isb8y h1, bd1_mk, if_neg one0, isp8y h2, bd1_mk, if_neg one0, wi0 h3, bd1_mk, if_pos rfl]) (by unfold fX9_bestCall fX9_bestOne; rw [isb9y h1, bd1_mk, if_neg one0, in1 h2, bd1_mk, if_neg one0, in0 h3, bd1_mk, if_pos rfl]; rfl) (FrB.refl _ _)
  obtain ⟨k, rfl, _, hk, _⟩ := inr_n h1 (by decide)
  have hk3 : k < 3 := by omega
  obtain ⟨c, rfl, _, c2, _⟩ := inr_n h2 (by decide)
  obtain ⟨w, rfl, _, w2, _⟩ := inr_n h3 (by decide)
  refine Sx2.val (v := bWc τ (B k) c w) ?_ ?_
  · unfold fX8_bestCall
    rw [isb8y h1, bd1_mk, if_neg one0, isp8y h2, bd1_mk, if_neg one0, wi1 h3, bd1_mk, if_neg one0]
    exact Sx.b11 (bd8c hf hT hB hk3 (by omega) (by omega) st sb pu pe tu ca ho va ma ac) (fun _ _ _ _ _ _ _ _ _ _ _ h => Sx.mk h)
  · unfold fX9_bestCall
    exact Sx.b12 (bo9c hf9 hT hk3 (hb9 k hk3) (hB k hk3).2 (by omega) (by omega) x0 x1 x2 x3 pe9 a9 b9 wo9 ho9 ac9) (fun _ _ _ _ _ _ _ _ _ _ _ _ h => Sx.mk h)
theorem q_bestPut {tr b0 b1 b2 tree bs : Nat → Int32} {τ : Nat → Nat} {B : Nat → Nat → Nat} (hf : TC tr τ) (hf9 : TR tree 0 τ) (hT : TK τ) (hB : CB3 b0 b1 b2 B) (hb9 : ∀ k, k < 3 → RB bs k (B k)) (p1 p2 p3 : Int32) (st sb : Nat → Int32) (pu pe tu ca ho va : Nat → Int64) (ma ac : Nat → Int32) (x0 x1 x2 x3 : Int32) (pe9 : Nat → Int64) (a9 b9 : Int64) (wo9 ho9 : Nat → Int64) (ac9 : Nat → Int32) : Sx2 (fX8_bestPut p1 p2 p3 tr b0 b1 b2 st sb pu pe tu ca ho va ma ac) (fX9_bestPut p1 p2 p3 tree bs x0 x1 x2 x3 pe9 a9 b9 wo9 ho9 ac9) (fun _ t => FrB 3 bs t.1) := by
  by_cases h1 : inr p1 0 2
  rotate_left
  · exact Sx2.mk (by unfold fX8_bestPut; rw [isb8n h1, bd1_mk, if_pos rfl]) (by unfold fX9_bestPut fX9_bestOne; rw [isb9n h1, bd1_mk, if_pos rfl]; rfl) (FrB.refl _ _)
  by_cases h2 : inr p2 0 1000000
  rotate_left
  · exact Sx2.mk (by unfold fX8_bestPut; rw [isb8y h1, bd1_mk, if_neg one0, isp8n h2, bd1_mk, if_pos rfl]) (by unfold fX9_bestPut fX9_bestOne; rw [isb9y h1, bd1_mk, if_neg one0, in0 h2, bd1_mk, if_pos rfl]; rfl) (FrB.refl _ _)
  by_cases h3 : inr p3 0 1
  rotate_left
  · exact Sx2.mk (by unfold fX8_bestPut; rw [isb8y h1, bd1_mk, if_neg one0, isp8y h2, bd1_mk, if_neg one0, wi0 h3, bd1_mk, if_pos rfl]) (by unfold fX9_bestPut fX9_bestOne; rw [isb9y h1, bd1_mk, if_neg one0, in1 h2, bd1_mk, if_neg one0, in0 h3, bd1_mk, if_pos rfl]; rfl) (FrB.refl _ _)
  obtain ⟨k, rfl, _, hk, _⟩ := inr_n h1 (by decide)
  have hk3 : k < 3 := by omega
  obtain ⟨c, rfl, _, c2, _⟩ := inr_n h2 (by decide)
  obtain ⟨w, rfl, _, w2, _⟩ := inr_n h3 (by decide)
  refine Sx2.val (v := bWp τ (B k) c w) ?_ ?_
  · unfold fX8_bestPut
    rw [isb8y h1, bd1_mk, if_neg one0, isp8y h2, bd1_mk, if_neg one0, wi1 h3, bd1_mk, if_neg one0]
    exact Sx.b11 (bd8p hf hT hB hk3 (by omega) (by omega) st sb pu pe tu ca ho va ma ac) (fun _ _ _ _ _ _ _ _ _ _ _ h => Sx.mk h)
  · unfold fX9_bestPut
    exact Sx.b12 (bo9p hf9 hT hk3 (hb9 k hk3) (hB k hk3).2 (by omega) (by omega) x0 x1 x2 x3 pe9 a9 b9 wo9 ho9 ac9) (fun _ _ _ _ _ _ _ _ _ _ _ _ h => Sx.mk h)
end
section
/-! pure: the path on both sides (own rows) -/
abbrev MV (mv : Nat → Int32) (r : Nat) : Prop := ∀ i, i < dR r → mv i = nI (r / 2 ^ (dR r - 1 - i) % 2)
def pfx (r i : Nat) : Nat := r / 2 ^ (dR r - i)
theorem pf1 : ∀ r, r < 128 → 1 ≤ r → ∀ i, i < 7 → i ≤ dR r → dR (pfx r i) = i ∧ 1 ≤ pfx r i ∧ pfx r i < 128 := by decide +kernel
theorem pf2 : ∀ r, r < 128 → 1 ≤ r → ∀ i, i < 6 → i < dR r → pfx r (i + 1) = 2 * pfx r i + r / 2 ^ (dR r - 1 - i) % 2 ∧ pfx r i < 64 := by decide +kernel
theorem pf0 : ∀ r, r < 128 → 1 ≤ r → pfx r 0 = 1 := by decide +kernel
theorem pfd (r : Nat) : pfx r (dR r) = r := by unfold pfx; rw [Nat.sub_self, Nat.pow_zero, Nat.div_one]
def aT (π : Nat → Nat → Nat) (β : Nat → Nat) (r : Nat) : Nat := atN (dR r) (uR r) (bR r) (mR π β r)
theorem okR (π : Nat → Nat → Nat) (β : Nat → Nat) {r : Nat} (h1 : 1 ≤ r) (h : r < 128) : okM π β (dR r) (uR r) (bR r) (mR π β r) := by
  obtain ⟨⟨b1, b2, b3⟩, b4, b5, b6⟩ := row_b1 r h h1
  obtain ⟨c1, c2⟩ := row_b2 r h h1
  exact ⟨⟨b2, b4, c1, c2, row_b3 r h h1⟩, mR_lt π β r, mR_2 π β h1 h⟩
theorem aT_lt (π : Nat → Nat → Nat) (β : Nat → Nat) {r : Nat} (h1 : 1 ≤ r) (h : r < 128) : aT π β r < 784 := by
  obtain ⟨⟨b1, b2, b3⟩, b4, b5, b6⟩ := row_b1 r h h1
  exact atN_lt b1 b2 b4 (mR_lt π β r)
theorem sta9 {bs : Nat → Int32} {pe : Nat → Int64} {k T : Nat} {β : Nat → Nat} {π : Nat → Nat → Nat} (hb : RB bs k β) (hK : BK β) (hp : PK π) (hP : RP pe T π) (hT : T ≤ 6) (s1 s2 s3 s4 : Int32) : fX9_starts (nI k) bs pe s1 s2 s3 s4 = some (nI (dR 1), nI (uR 1), nI (bR 1), nI (mR π β 1)) := by
  unfold fX9_starts
  rw [i_0, hi9 hb hK hp hP hT (Nat.le_refl 0) (Nat.zero_le T), bd1_mk, mR_1]
  rfl
theorem go9 {bs : Nat → Int32} {pe : Nat → Int64} {k T : Nat} {β : Nat → Nat} {π : Nat → Nat → Nat} (hb : RB bs k β) (hK : BK β) (hp : PK π) (hP : RP pe T π) (hT : T ≤ 6) {r b : Nat} (h1 : 1 ≤ r) (h : r < 64) (hbb : b < 2) (hd : dR r < T) (u : Int32) : fX9_goesOn (nI k) (nI b) bs pe (nI (dR r)) (nI (uR r)) u (nI (mR π β r)) = some (nI (dR (2 * r + b)), nI (uR (2 * r + b)), nI (bR (2 * r + b)), nI (mR π β (2 * r + b))) := by
  obtain ⟨⟨b1, b2, b3⟩, b4, b5, b6⟩ := row_b1 r (by omega) h1
  obtain ⟨c1, c2, c3, _⟩ := row_s r h h1 b hbb
  unfold fX9_goesOn
  rw [nm_mk, nm_mk, nI_1, nI_add, hi9 hb hK hp hP hT (by omega) (by omega), bd1_mk, nm_mk, shm _ (mR_lt _ _ _) _ (hiF_lt _ _), c1, c2, c3, mR_s π β h1 h hbb]
  rfl
theorem fo7 {bs mv : Nat → Int32} {pe : Nat → Int64} {k T : Nat} {β : Nat → Nat} {π : Nat → Nat → Nat} (hb : RB bs k β) (hK : BK β) (hp : PK π) (hP : RP pe T π) (hT : T ≤ 6) {r : Nat} (h1 : 1 ≤ r) (h : r < 128) (hd : dR r ≤ T) (hm : MV mv r) : ∀ (i n x : Nat), x + i = dR r → lpX9_follows_7 (nI k) (nI (dR r)) bs mv pe (n + i + 1) (nI x) (nI (dR (pfx r x))) (nI (uR (pfx r x))) (nI (bR (pfx r x))) (nI (mR π β (pfx r x))) = some (nI (dR r), nI (uR r), nI (bR r), nI (mR π β r)) := by
  have hd6 := (row_b1 r h h1).1.1
  intro i
  induction i with
  | zero =>
    intro n x hi
    rw [lpX9_follows_7.eq_2, if_pos (nI_le (by omega) (by omega)), show x = dR r by omega, pfd]
  | succ i ih =>
    intro n x hi
    obtain ⟨g1, g2⟩ := pf2 r h h1 x (by omega) (by omega)
    obtain ⟨g3, g4, _⟩ := pf1 r h h1 x (by omega) (by omega)
    rw [lpX9_follows_7.eq_2, if_neg (nI_ge (by omega) (by omega)), og32 (by omega) (by omega), nI_clamp (by omega), hm x (by omega), go9 hb hK hp hP hT g4 g2 (by omega) (by omega), bd4_mk, nm_mk, nI_1, ← g1, show n + (i + 1) = n + i + 1 by omega]
    exact ih n (x + 1) (by omega)
theorem fo9 {bs mv : Nat → Int32} {pe : Nat → Int64} {k T : Nat} {β : Nat → Nat} {π : Nat → Nat → Nat} (hb : RB bs k β) (hK : BK β) (hp : PK π) (hP : RP pe T π) (hT : T ≤ 6) {r : Nat} (h1 : 1 ≤ r) (h : r < 128) (hd : dR r ≤ T) (hm : MV mv r) (s1 s2 s3 s4 : Int32) : fX9_follows (nI k) (nI (dR r)) bs mv pe s1 s2 s3 s4 = some (nI (dR r), nI (uR r), nI (bR r), nI (mR π β r)) := by
  unfold fX9_follows
  obtain ⟨n, hn⟩ := fuN (dR r + 1) (by omega)
  have := fo7 hb hK hp hP hT h1 h hd hm (dR r) n 0 (by omega)
  rw [pf0 r h h1] at this
  rw [sta9 hb hK hp hP hT, bd4_mk, hn, i_0, show n + (dR r + 1) = n + dR r + 1 by omega, this, bd4_mk]
theorem hn9 (π : Nat → Nat → Nat) (β : Nat → Nat) (r : Nat) : fX9_hereNow (nI (dR r)) (nI (uR r)) (nI (bR r)) (nI (mR π β r)) = some (nI (aT π β r)) := by
  unfold fX9_hereNow
  rw [at9, bd1_mk]; rfl
/-- all states, by rows -/
theorem GD.r {π : Nat → Nat → Nat} {T p q R : Nat} {β : Nat → Nat} {wo ho : Nat → Int64} {ac : Nat → Int32} (h : GD π T p q R β (fun _ _ _ _ => True) wo ho ac) {r : Nat} (h1 : 1 ≤ r) (h2 : r < 128) (hd : dR r ≤ T) : wo (aT π β r) = lN (vR π T p q R β (bV π β) r) ∧ (ho (aT π β r) = if dR r = T then lN (β 0) else lN (hR π T p q R β (bV π β) r)) ∧ ac (aT π β r) = nI (aR π T p q R β (bV π β) (bA π β) r) := by
  obtain ⟨g1, g2, g3⟩ := h (dR r) (uR r) (bR r) (mR π β r) hd (okR π β h1 h2) trivial
  refine ⟨g1, ?_, ?_⟩
  · unfold hoS at g2
    by_cases e : dR r = T
    · rw [if_pos e] at g2 ⊢; exact g2
    · rw [if_neg e] at g2 ⊢; exact g2
  · exact g3
theorem pn9 {tree bs : Nat → Int32} {τ β : Nat → Nat} (hf9 : TR tree 0 τ) (hT : TK τ) {k : Nat} (hk : k < 3) (hb : RB bs k β) (hK : BK β) (x0 x1 x2 x3 : Int32) (pe9 : Nat → Int64) (a9 b9 : Int64) (wo9 ho9 : Nat → Int64) (ac9 : Nat → Int32) : Sx (fX9_playsNow (nI k) tree bs x0 x1 x2 x3 pe9 a9 b9 wo9 ho9 ac9) (fun z => z.1 = nI (τ 0) ∧ z.2.1 = nI (τ 6) ∧ z.2.2.1 = nI (τ 7) ∧ z.2.2.2.1 = nI (τ 8) ∧ RP z.2.2.2.2.1 (τ 0) (prF τ (τ 1)) ∧ GD (prF τ (τ 1)) (τ 0) (τ 6) (τ 7) (τ 8) β (fun _ _ _ _ => True) z.2.2.2.2.2.2.2.1 z.2.2.2.2.2.2.2.2.1 z.2.2.2.2.2.2.2.2.2) := by
  unfold fX9_playsNow
  refine Sx.b7 (tn9 hf9 hT x0 x1 x2 x3 pe9 a9 b9) ?_
  rintro d0 d1 d2 d3 pe' d5 d6 ⟨rfl, rfl, rfl, rfl, hP⟩
  dsimp only at hP ⊢
  refine Sx.b3 (pl9 hb hK (prF_PK hT (by omega)) hP hT.n wo9 ho9 ac9) ?_
  intro a0 a1 a2 hg
  exact Sx.mk ⟨rfl, rfl, rfl, rfl, hP, hg⟩
end
