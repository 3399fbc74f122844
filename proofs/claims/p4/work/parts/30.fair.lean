/-! pure: fair coupons, ratios, rates (own rows) -/
theorem sac {c : Nat} (s0 : Nat → Int32) : ∀ (i n d : Nat) (sb : Nat → Int32), d + i = 7 → 1 ≤ d → (∀ y, sb y = if 11 ≤ y ∧ y < 10 + d then nI c else s0 y) → Sx (lpX0_setAllCoupons_2 (nI c) (n + i + 1) (nI d) sb) (fun z => ∀ y, z y = if 11 ≤ y ∧ y < 17 then nI c else s0 y) := by
  intro i
  induction i with
  | zero =>
    intro n d sb hi h1 hg
    rw [lpX0_setAllCoupons_2.eq_2]
    refine Sx.p (show (6 : Int32) < nI d from nI_lt (a := 6) (by omega) (by omega)) (Sx.mk ?_)
    rw [show d = 7 by omega] at hg
    exact hg
  | succ i ih =>
    intro n d sb hi h1 hg
    rw [lpX0_setAllCoupons_2.eq_2]
    refine Sx.n (show ¬ (6 : Int32) < nI d from nI_nlt (a := 6) (by omega) (by omega)) ?_
    rw [i_10, nI_add, og32 (by omega) (by omega), nm_mk, nm_mk, nI_clamp (by omega), nI_1, show n + (i + 1) = n + i + 1 by omega]
    refine ih n (d + 1) _ (by omega) (by omega) ?_
    intro y
    rw [upS, hg]
    by_cases e : y = 10 + d
    · rw [if_pos e, if_pos (by omega)]
    · rw [if_neg e]
      by_cases g : 11 ≤ y ∧ y < 10 + d
      · rw [if_pos g, if_pos (by omega)]
      · rw [if_neg g, if_neg (by omega)]
theorem CB.setc {sb sb' : Nat → Int32} {β : Nat → Nat} {c : Nat} (h : CB sb β) (e : ∀ y, sb' y = if 11 ≤ y ∧ y < 17 then nI c else sb y) : CB sb' (setc β c) := by
  obtain ⟨⟨⟨a0, a1⟩, ⟨a2, a3⟩, ⟨a4, a5, a6⟩, a7⟩, b1, b2, b3⟩ := h
  refine ⟨⟨⟨?_, ?_⟩, ⟨?_, ?_⟩, ⟨?_, ?_, ?_⟩, ?_⟩, fun t h1 h2 => ?_, fun t h1 => ?_, fun t h1 => ?_⟩
  · rw [e, if_neg (by omega), a0]; rfl
  · rw [e, if_neg (by omega), a1]; rfl
  · rw [e, if_neg (by omega), a2]; rfl
  · rw [e, if_neg (by omega), a3]; rfl
  · rw [e, if_neg (by omega), a4]; rfl
  · rw [e, if_neg (by omega), a5]; rfl
  · rw [e, if_neg (by omega), a6]; rfl
  · rw [e, if_neg (by omega), a7]; rfl
  · rw [e, if_pos (by omega), setc_y _ _ (by omega)]
  · rw [e, if_neg (by omega), b2 t h1, setc_n _ _ (by omega)]
  · rw [e, if_neg (by omega), b3 t h1, setc_n _ _ (by omega)]
theorem CB.up1 {sb : Nat → Int32} {β : Nat → Nat} (h : CB sb β) (c : Nat) : CB (upd sb 1 (nI c)) (bup β 1 c) := by
  obtain ⟨⟨⟨a0, a1⟩, ⟨a2, a3⟩, ⟨a4, a5, a6⟩, a7⟩, b1, b2, b3⟩ := h
  refine ⟨⟨⟨?_, ?_⟩, ⟨?_, ?_⟩, ⟨?_, ?_, ?_⟩, ?_⟩, fun t h1 h2 => ?_, fun t h1 => ?_, fun t h1 => ?_⟩
  · exact a0
  · rfl
  · exact a2
  · exact a3
  · exact a4
  · exact a5
  · exact a6
  · exact a7
  · rw [upS, if_neg (by omega), b1 t h1 h2, bup_n _ _ (by omega)]
  · rw [upS, if_neg (by omega), b2 t h1, bup_n _ _ (by omega)]
  · rw [upS, if_neg (by omega), b3 t h1, bup_n _ _ (by omega)]
theorem TC.up {f : Nat → Int32} {τ : Nat → Nat} (h : TC f τ) (a v : Nat) : TC (upd f a (nI v)) (bup τ a v) := by
  intro i hi
  rw [upS]
  unfold bup
  by_cases e : i = a
  · rw [if_pos e, if_pos e]
  · rw [if_neg e, if_neg e, h i hi]
theorem st7 {a : Nat} (ha : a < 9) (v : Int32) (f : Nat → Int32) : fX7_set (nI a) v f = some (upd f a v) := by
  unfold fX7_set
  rw [win1 a 0 8 (by omega), bd1_mk, if_neg one0, og32 ha (by omega), nm_mk, bd1_mk, nI_clamp (by omega)]
theorem TK.r8 {τ : Nat → Nat} (h : TK τ) {v : Nat} (hv : v ≤ 200) : TK (bup τ 8 v) := ⟨h.1, h.2.1, h.2.2.1, h.2.2.2.1, hv⟩
def setk0 (x : Nat → Nat) (c : Nat) : Nat → Nat := setc x c
def setk1 (x : Nat → Nat) (c : Nat) : Nat → Nat := bup x 1 c
def setk2 (x : Nat → Nat) (c : Nat) : Nat → Nat := bup x 8 c
theorem setk0_s (x : Nat → Nat) (a c : Nat) : setk0 (setk0 x a) c = setk0 x c := by
  funext i; unfold setk0 setc; split <;> rfl
theorem setk1_s (x : Nat → Nat) (a c : Nat) : setk1 (setk1 x a) c = setk1 x c := by
  funext i; unfold setk1 bup; split <;> rfl
theorem setk2_s (x : Nat → Nat) (a c : Nat) : setk2 (setk2 x a) c = setk2 x c := by
  funext i; unfold setk2 bup; split <;> rfl
theorem sk0 {sb : Nat → Int32} {β : Nat → Nat} (h : CB sb β) (c : Nat) : Sx (fX8_setTried_k0 (nI c) sb) (fun z => CB z (setk0 β c)) := by
  unfold fX8_setTried_k0 fX0_setAllCoupons
  obtain ⟨n, hn⟩ := fuN 7 (by omega)
  rw [hn, i_1]
  refine Sx.b1 (Sx.b1 (sac sb 6 n 1 sb (by omega) (by omega) (fun y => by rw [if_neg (by omega)])) (fun z hz => Sx.mk hz)) ?_
  intro z hz
  exact Sx.mk (h.setc hz)
theorem sk1 {sb : Nat → Int32} {β : Nat → Nat} (h : CB sb β) (c : Nat) : Sx (fX8_setTried_k1 (nI c) sb) (fun z => CB z (setk1 β c)) := by
  unfold fX8_setTried_k1
  rw [i_1]
  exact Sx.e1 (xset (by omega) _ _) (Sx.mk (h.up1 c))
theorem sk2 {st : Nat → Int32} {τ : Nat → Nat} (h : TC st τ) (c : Nat) : Sx (fX8_setTried_k2 (nI c) st) (fun z => TC z (setk2 τ c)) := by
  unfold fX8_setTried_k2
  rw [i_8]
  exact Sx.e1 (st7 (by omega) _ _) (Sx.mk (h.up 8 c))
def Pk0 (τ β : Nat → Nat) (aim : Int64) (c : Nat) : Prop := ¬ lN (V1 τ (setk0 β c)) < aim
def Pk1 (τ β : Nat → Nat) (aim : Int64) (c : Nat) : Prop := ¬ lN (V1 τ (setk1 β c)) < aim
def Pk2 (τ β : Nat → Nat) (aim : Int64) (c : Nat) : Prop := ¬ aim < lN (V1 (setk2 τ c) β)
theorem lN_leI {a b : Nat} (h : a ≤ b) (hb : b ≤ 64000000007000) : lN a ≤ lN b := (pk_lLE (by omega) (by omega)).mpr h
theorem Pk0_m {τ β : Nat → Nat} (hT : TK τ) (hK : BK β) (aim : Int64) : ∀ c d, c ≤ d → d ≤ 1000 → Pk0 τ β aim c → Pk0 τ β aim d := by
  intro c d h1 h2 h3 h4
  refine h3 (Int64.lt_of_le_of_lt (lN_leI ?_ (V1_b hT (setc_BK hK h2))) h4)
  exact V0_mono (by omega) (Nat.le_refl _) (setc_BL _ _ h1)
theorem Pk1_m {τ β : Nat → Nat} (hT : TK τ) (hK : BK β) (aim : Int64) : ∀ c d, c ≤ d → d ≤ 1000 → Pk1 τ β aim c → Pk1 τ β aim d := by
  intro c d h1 h2 h3 h4
  refine h3 (Int64.lt_of_le_of_lt (lN_leI ?_ (V1_b hT (bup1_BK hK h2))) h4)
  exact V0_mono (by omega) (Nat.le_refl _) (bup1_BL _ _ h1)
theorem BL.refl (π : Nat → Nat → Nat) (β : Nat → Nat) : BL π β β := ⟨Nat.le_refl _, rfl, rfl, rfl, fun _ => rfl, fun _ => rfl, fun _ => Nat.le_refl _, fun _ _ _ => Nat.le_refl _⟩
theorem V1_r (τ β : Nat → Nat) (r : Nat) : V1 (setk2 τ r) β = V0 (prF τ (τ 1)) (τ 0) (τ 6) (τ 7) r β := rfl
theorem Pk2_m {τ β : Nat → Nat} (hT : TK τ) (hK : BK β) (aim : Int64) : ∀ c d, c ≤ d → d ≤ 200 → Pk2 τ β aim c → Pk2 τ β aim d := by
  intro c d h1 h2 h3 h4
  refine h3 (Int64.lt_of_lt_of_le h4 (lN_leI ?_ (V1_b (hT.r8 (show c ≤ 200 by omega)) hK)))
  rw [V1_r, V1_r]
  exact V0_mono (by omega) h1 (BL.refl _ _)
theorem lf0 {st : Nat → Int32} {τ β : Nat → Nat} (aim : Int64) (hf : TC st τ) (hT : TK τ) (hK : BK β) : ∀ (i n a : Nat) (vx : Nat → Int32) (pu pe tu ca ho va : Nat → Int64) (ma ac : Nat → Int32), i ≤ 10 → Hv (Pk0 τ β aim) 1000 a (2 ^ i) → (∃ x, CB vx x ∧ ∀ c, setk0 x c = setk0 β c) → Sx (lpX8_leastFair_k0_40 aim st (n + i + 1) (nI a - 1) (nI (2 ^ i / 2)) vx pu pe tu ca ho va ma ac) (fun z => ∃ a, Hv (Pk0 τ β aim) 1000 a 1 ∧ z.1 = nI a - 1) := by
  intro i
  induction i with
  | zero =>
    intro n a vx pu pe tu ca ho va ma ac hi hv hx
    rw [lpX8_leastFair_k0_40.eq_2]
    exact Sx.p (show nI (2 ^ 0 / 2) < (1 : Int32) by decide) (Sx.mk ⟨a, hv, rfl⟩)
  | succ i ih =>
    intro n a vx pu pe tu ca ho va ma ac hi hv hx
    have h1 := Nat.two_pow_pos i
    have h2 : 2 ^ i ≤ 512 := Nat.pow_le_pow_right (by omega) (show i ≤ 9 by omega)
    have hs : 2 ^ (i + 1) / 2 = 2 ^ i := by rw [Nat.pow_succ, Nat.mul_div_cancel _ (by omega)]
    have hw : 2 ^ (i + 1) = 2 * 2 ^ i := by rw [Nat.pow_succ, Nat.mul_comm]
    have ha := hv.1
    rw [lpX8_leastFair_k0_40.eq_2, hs]
    refine Sx.n (show ¬ nI (2 ^ i) < (1 : Int32) from nI_nlt (b := 1) h1 (by omega)) ?_
    rw [nm_mk, m1s a h1]
    have hd : nI (2 ^ i) / 2 = nI (2 ^ i / 2) := by rw [i_2, pk_div (by omega) (by omega) (by omega)]
    by_cases g : 1000 < a + 2 ^ i - 1
    · refine Sx.b10 (P := fun z => (∃ x, CB z.2.1 x ∧ ∀ c, setk0 x c = setk0 β c) ∧ ∃ b, Hv (Pk0 τ β aim) 1000 b (2 ^ i) ∧ z.1 = nI b - 1) (Sx.p (show (1000 : Int32) < nI (a + 2 ^ i - 1) from nI_lt (a := 1000) g (by omega)) (Sx.mk ⟨hx, a, hv.skip (by omega), rfl⟩)) ?_
      rintro b0 b1 b2 b3 b4 b5 b6 b7 b8 b9 ⟨hx', b, hb, rfl⟩
      rw [nm_mk, hd, show n + (i + 1) = n + i + 1 by omega]
      exact ih n b _ _ _ _ _ _ _ _ _ (by omega) hb hx'
    · obtain ⟨x, hx1, hx2⟩ := hx
      refine Sx.b10 (P := fun z => (∃ x, CB z.2.1 x ∧ ∀ c, setk0 x c = setk0 β c) ∧ ∃ b, Hv (Pk0 τ β aim) 1000 b (2 ^ i) ∧ z.1 = nI b - 1) (Sx.n (show ¬ (1000 : Int32) < nI (a + 2 ^ i - 1) from nI_nlt (a := 1000) (by omega) (by omega)) ?_) ?_
      · refine Sx.b1 (sk0 hx1 _) ?_
        intro y hy
        rw [hx2] at hy
        refine Sx.b8 (pb8 hf hT hy (setc_BK hK (by omega)) pu pe tu ca ho va ma ac) ?_
        intro c0 c1 c2 c3 c4 c5 c6 c7 hsb
        refine Sx.e1 (root8 hsb) ?_
        have hxy : ∃ x, CB y x ∧ ∀ c, setk0 x c = setk0 β c := ⟨_, hy, fun c => setk0_s _ _ _⟩
        by_cases hP : Pk0 τ β aim (a + 2 ^ i - 1)
        · refine Sx.e1 (a0 := 1) (if_neg hP) (Sx.e1 (a0 := nI a - 1) (if_neg one0) (Sx.mk ⟨hxy, a, hv.fair (Pk0_m hT hK aim) (by omega) h1 hP, rfl⟩))
        · refine Sx.e1 (a0 := 0) (if_pos (Decidable.not_not.mp hP)) (Sx.e1 (a0 := nI (a + 2 ^ i - 1)) (if_pos rfl) (Sx.mk ⟨hxy, a + 2 ^ i, hv.un (Pk0_m hT hK aim) (by omega) h1 hw hP, ?_⟩))
          show nI (a + 2 ^ i - 1) = nI (a + 2 ^ i) - 1
          rw [i_1, pk_sub (by omega)]
      · rintro b0 b1 b2 b3 b4 b5 b6 b7 b8 b9 ⟨hx', b, hb, rfl⟩
        rw [nm_mk, hd, show n + (i + 1) = n + i + 1 by omega]
        exact ih n b _ _ _ _ _ _ _ _ _ (by omega) hb hx'
theorem fk0 {k : Nat} (hk : k < 3) {tr b0 b1 b2 : Nat → Int32} {τ : Nat → Nat} {B : Nat → Nat → Nat} (hf : TC tr τ) (hT : TK τ) (hB : CB3 b0 b1 b2 B) (aim : Int64) (st sb : Nat → Int32) (pu pe tu ca ho va : Nat → Int64) (ma ac : Nat → Int32) : Sx (fX8_leastFair_k0 (nI k) aim tr b0 b1 b2 st sb pu pe tu ca ho va ma ac) (fun z => Fa (Pk0 τ (B k) aim) 1000 z.1) := by
  unfold fX8_leastFair_k0
  rw [isb8' hk, bd1_mk, if_neg one0, og32 (by omega) (by omega), sel8 hk, bd2_mk]
  have hc : CB (va_cpy (bsel k b0 b1 b2) sb 0 0 36) (B k) := (hB k hk).1.cpy
  obtain ⟨n, hn⟩ := fuN 11 (by omega)
  rw [hn]
  have hv0 : Hv (Pk0 τ (B k) aim) 1000 0 (2 ^ 10) := ⟨by omega, fun c h => absurd h (by omega), fun c h1 h2 => absurd h2 (by omega)⟩
  refine Sx.b10 (lf0 aim (TC.cpy hf) hT (hB k hk).2 10 n 0 _ pu pe tu ca ho va ma ac (Nat.le_refl 10) hv0 ⟨_, hc, fun c => rfl⟩) ?_
  rintro c0 c1 c2 c3 c4 c5 c6 c7 c8 c9 ⟨a, hv, rfl⟩
  have he := hv.end (by omega)
  exact Sx.e1 (ite_so _ _) (Sx.mk he)
theorem lf1 {st : Nat → Int32} {τ β : Nat → Nat} (aim : Int64) (hf : TC st τ) (hT : TK τ) (hK : BK β) : ∀ (i n a : Nat) (vx : Nat → Int32) (pu pe tu ca ho va : Nat → Int64) (ma ac : Nat → Int32), i ≤ 10 → Hv (Pk1 τ β aim) 1000 a (2 ^ i) → (∃ x, CB vx x ∧ ∀ c, setk1 x c = setk1 β c) → Sx (lpX8_leastFair_k1_40 aim st (n + i + 1) (nI a - 1) (nI (2 ^ i / 2)) vx pu pe tu ca ho va ma ac) (fun z => ∃ a, Hv (Pk1 τ β aim) 1000 a 1 ∧ z.1 = nI a - 1) := by
  intro i
  induction i with
  | zero =>
    intro n a vx pu pe tu ca ho va ma ac hi hv hx
    rw [lpX8_leastFair_k1_40.eq_2]
    exact Sx.p (show nI (2 ^ 0 / 2) < (1 : Int32) by decide) (Sx.mk ⟨a, hv, rfl⟩)
  | succ i ih =>
    intro n a vx pu pe tu ca ho va ma ac hi hv hx
    have h1 := Nat.two_pow_pos i
    have h2 : 2 ^ i ≤ 512 := Nat.pow_le_pow_right (by omega) (show i ≤ 9 by omega)
    have hs : 2 ^ (i + 1) / 2 = 2 ^ i := by rw [Nat.pow_succ, Nat.mul_div_cancel _ (by omega)]
    have hw : 2 ^ (i + 1) = 2 * 2 ^ i := by rw [Nat.pow_succ, Nat.mul_comm]
    have ha := hv.1
    rw [lpX8_leastFair_k1_40.eq_2, hs]
    refine Sx.n (show ¬ nI (2 ^ i) < (1 : Int32) from nI_nlt (b := 1) h1 (by omega)) ?_
    rw [nm_mk, m1s a h1]
    have hd : nI (2 ^ i) / 2 = nI (2 ^ i / 2) := by rw [i_2, pk_div (by omega) (by omega) (by omega)]
    by_cases g : 1000 < a + 2 ^ i - 1
    · refine Sx.b10 (P := fun z => (∃ x, CB z.2.1 x ∧ ∀ c, setk1 x c = setk1 β c) ∧ ∃ b, Hv (Pk1 τ β aim) 1000 b (2 ^ i) ∧ z.1 = nI b - 1) (Sx.p (show (1000 : Int32) < nI (a + 2 ^ i - 1) from nI_lt (a := 1000) g (by omega)) (Sx.mk ⟨hx, a, hv.skip (by omega), rfl⟩)) ?_
      rintro b0 b1 b2 b3 b4 b5 b6 b7 b8 b9 ⟨hx', b, hb, rfl⟩
      rw [nm_mk, hd, show n + (i + 1) = n + i + 1 by omega]
      exact ih n b _ _ _ _ _ _ _ _ _ (by omega) hb hx'
    · obtain ⟨x, hx1, hx2⟩ := hx
      refine Sx.b10 (P := fun z => (∃ x, CB z.2.1 x ∧ ∀ c, setk1 x c = setk1 β c) ∧ ∃ b, Hv (Pk1 τ β aim) 1000 b (2 ^ i) ∧ z.1 = nI b - 1) (Sx.n (show ¬ (1000 : Int32) < nI (a + 2 ^ i - 1) from nI_nlt (a := 1000) (by omega) (by omega)) ?_) ?_
      · refine Sx.b1 (sk1 hx1 _) ?_
        intro y hy
        rw [hx2] at hy
        refine Sx.b8 (pb8 hf hT hy (bup1_BK hK (by omega)) pu pe tu ca ho va ma ac) ?_
        intro c0 c1 c2 c3 c4 c5 c6 c7 hsb
        refine Sx.e1 (root8 hsb) ?_
        have hxy : ∃ x, CB y x ∧ ∀ c, setk1 x c = setk1 β c := ⟨_, hy, fun c => setk1_s _ _ _⟩
        by_cases hP : Pk1 τ β aim (a + 2 ^ i - 1)
        · refine Sx.e1 (a0 := 1) (if_neg hP) (Sx.e1 (a0 := nI a - 1) (if_neg one0) (Sx.mk ⟨hxy, a, hv.fair (Pk1_m hT hK aim) (by omega) h1 hP, rfl⟩))
        · refine Sx.e1 (a0 := 0) (if_pos (Decidable.not_not.mp hP)) (Sx.e1 (a0 := nI (a + 2 ^ i - 1)) (if_pos rfl) (Sx.mk ⟨hxy, a + 2 ^ i, hv.un (Pk1_m hT hK aim) (by omega) h1 hw hP, ?_⟩))
          show nI (a + 2 ^ i - 1) = nI (a + 2 ^ i) - 1
          rw [i_1, pk_sub (by omega)]
      · rintro b0 b1 b2 b3 b4 b5 b6 b7 b8 b9 ⟨hx', b, hb, rfl⟩
        rw [nm_mk, hd, show n + (i + 1) = n + i + 1 by omega]
        exact ih n b _ _ _ _ _ _ _ _ _ (by omega) hb hx'
theorem fk1 {k : Nat} (hk : k < 3) {tr b0 b1 b2 : Nat → Int32} {τ : Nat → Nat} {B : Nat → Nat → Nat} (hf : TC tr τ) (hT : TK τ) (hB : CB3 b0 b1 b2 B) (aim : Int64) (st sb : Nat → Int32) (pu pe tu ca ho va : Nat → Int64) (ma ac : Nat → Int32) : Sx (fX8_leastFair_k1 (nI k) aim tr b0 b1 b2 st sb pu pe tu ca ho va ma ac) (fun z => Fa (Pk1 τ (B k) aim) 1000 z.1) := by
  unfold fX8_leastFair_k1
  rw [isb8' hk, bd1_mk, if_neg one0, og32 (by omega) (by omega), sel8 hk, bd2_mk]
  have hc : CB (va_cpy (bsel k b0 b1 b2) sb 0 0 36) (B k) := (hB k hk).1.cpy
  obtain ⟨n, hn⟩ := fuN 11 (by omega)
  rw [hn]
  have hv0 : Hv (Pk1 τ (B k) aim) 1000 0 (2 ^ 10) := ⟨by omega, fun c h => absurd h (by omega), fun c h1 h2 => absurd h2 (by omega)⟩
  refine Sx.b10 (lf1 aim (TC.cpy hf) hT (hB k hk).2 10 n 0 _ pu pe tu ca ho va ma ac (Nat.le_refl 10) hv0 ⟨_, hc, fun c => rfl⟩) ?_
  rintro c0 c1 c2 c3 c4 c5 c6 c7 c8 c9 ⟨a, hv, rfl⟩
  have he := hv.end (by omega)
  exact Sx.e1 (ite_so _ _) (Sx.mk he)
theorem lf2 {sb : Nat → Int32} {τ β : Nat → Nat} (aim : Int64) (hf : CB sb β) (hT : TK τ) (hK : BK β) : ∀ (i n a : Nat) (vx : Nat → Int32) (pu pe tu ca ho va : Nat → Int64) (ma ac : Nat → Int32), i ≤ 10 → Hv (Pk2 τ β aim) 200 a (2 ^ i) → (∃ x, TC vx x ∧ ∀ c, setk2 x c = setk2 τ c) → Sx (lpX8_leastFair_k2_40 aim sb (n + i + 1) (nI a - 1) (nI (2 ^ i / 2)) vx pu pe tu ca ho va ma ac) (fun z => ∃ a, Hv (Pk2 τ β aim) 200 a 1 ∧ z.1 = nI a - 1) := by
  intro i
  induction i with
  | zero =>
    intro n a vx pu pe tu ca ho va ma ac hi hv hx
    rw [lpX8_leastFair_k2_40.eq_2]
    exact Sx.p (show nI (2 ^ 0 / 2) < (1 : Int32) by decide) (Sx.mk ⟨a, hv, rfl⟩)
  | succ i ih =>
    intro n a vx pu pe tu ca ho va ma ac hi hv hx
    have h1 := Nat.two_pow_pos i
    have h2 : 2 ^ i ≤ 512 := Nat.pow_le_pow_right (by omega) (show i ≤ 9 by omega)
    have hs : 2 ^ (i + 1) / 2 = 2 ^ i := by rw [Nat.pow_succ, Nat.mul_div_cancel _ (by omega)]
    have hw : 2 ^ (i + 1) = 2 * 2 ^ i := by rw [Nat.pow_succ, Nat.mul_comm]
    have ha := hv.1
    rw [lpX8_leastFair_k2_40.eq_2, hs]
    refine Sx.n (show ¬ nI (2 ^ i) < (1 : Int32) from nI_nlt (b := 1) h1 (by omega)) ?_
    rw [nm_mk, m1s a h1]
    have hd : nI (2 ^ i) / 2 = nI (2 ^ i / 2) := by rw [i_2, pk_div (by omega) (by omega) (by omega)]
    by_cases g : 200 < a + 2 ^ i - 1
    · refine Sx.b10 (P := fun z => (∃ x, TC z.2.1 x ∧ ∀ c, setk2 x c = setk2 τ c) ∧ ∃ b, Hv (Pk2 τ β aim) 200 b (2 ^ i) ∧ z.1 = nI b - 1) (Sx.p (show (200 : Int32) < nI (a + 2 ^ i - 1) from nI_lt (a := 200) g (by omega)) (Sx.mk ⟨hx, a, hv.skip (by omega), rfl⟩)) ?_
      rintro b0 b1 b2 b3 b4 b5 b6 b7 b8 b9 ⟨hx', b, hb, rfl⟩
      rw [nm_mk, hd, show n + (i + 1) = n + i + 1 by omega]
      exact ih n b _ _ _ _ _ _ _ _ _ (by omega) hb hx'
    · obtain ⟨x, hx1, hx2⟩ := hx
      refine Sx.b10 (P := fun z => (∃ x, TC z.2.1 x ∧ ∀ c, setk2 x c = setk2 τ c) ∧ ∃ b, Hv (Pk2 τ β aim) 200 b (2 ^ i) ∧ z.1 = nI b - 1) (Sx.n (show ¬ (200 : Int32) < nI (a + 2 ^ i - 1) from nI_nlt (a := 200) (by omega) (by omega)) ?_) ?_
      · refine Sx.b1 (sk2 hx1 _) ?_
        intro y hy
        rw [hx2] at hy
        refine Sx.b8 (pb8 hy (hT.r8 (by omega)) hf hK pu pe tu ca ho va ma ac) ?_
        intro c0 c1 c2 c3 c4 c5 c6 c7 hsb
        refine Sx.e1 (root8 hsb) ?_
        have hxy : ∃ x, TC y x ∧ ∀ c, setk2 x c = setk2 τ c := ⟨_, hy, fun c => setk2_s _ _ _⟩
        by_cases hP : Pk2 τ β aim (a + 2 ^ i - 1)
        · refine Sx.e1 (a0 := 1) (if_neg hP) (Sx.e1 (a0 := nI a - 1) (if_neg one0) (Sx.mk ⟨hxy, a, hv.fair (Pk2_m hT hK aim) (by omega) h1 hP, rfl⟩))
        · refine Sx.e1 (a0 := 0) (if_pos (Decidable.not_not.mp hP)) (Sx.e1 (a0 := nI (a + 2 ^ i - 1)) (if_pos rfl) (Sx.mk ⟨hxy, a + 2 ^ i, hv.un (Pk2_m hT hK aim) (by omega) h1 hw hP, ?_⟩))
          show nI (a + 2 ^ i - 1) = nI (a + 2 ^ i) - 1
          rw [i_1, pk_sub (by omega)]
      · rintro b0 b1 b2 b3 b4 b5 b6 b7 b8 b9 ⟨hx', b, hb, rfl⟩
        rw [nm_mk, hd, show n + (i + 1) = n + i + 1 by omega]
        exact ih n b _ _ _ _ _ _ _ _ _ (by omega) hb hx'
theorem fk2 {k : Nat} (hk : k < 3) {tr b0 b1 b2 : Nat → Int32} {τ : Nat → Nat} {B : Nat → Nat → Nat} (hf : TC tr τ) (hT : TK τ) (hB : CB3 b0 b1 b2 B) (aim : Int64) (st sb : Nat → Int32) (pu pe tu ca ho va : Nat → Int64) (ma ac : Nat → Int32) : Sx (fX8_leastFair_k2 (nI k) aim tr b0 b1 b2 st sb pu pe tu ca ho va ma ac) (fun z => Fa (Pk2 τ (B k) aim) 200 z.1) := by
  unfold fX8_leastFair_k2
  rw [isb8' hk, bd1_mk, if_neg one0, og32 (by omega) (by omega), sel8 hk, bd2_mk]
  have hc : CB (va_cpy (bsel k b0 b1 b2) sb 0 0 36) (B k) := (hB k hk).1.cpy
  obtain ⟨n, hn⟩ := fuN 11 (by omega)
  rw [hn]
  have hv0 : Hv (Pk2 τ (B k) aim) 200 0 (2 ^ 10) := ⟨by omega, fun c h => absurd h (by omega), fun c h1 h2 => absurd h2 (by omega)⟩
  refine Sx.b10 (lf2 aim hc hT (hB k hk).2 10 n 0 _ pu pe tu ca ho va ma ac (Nat.le_refl 10) hv0 ⟨_, (TC.cpy hf), fun c => rfl⟩) ?_
  rintro c0 c1 c2 c3 c4 c5 c6 c7 c8 c9 ⟨a, hv, rfl⟩
  have he := hv.end (by omega)
  exact Sx.e1 (ite_so _ _) (Sx.mk he)
/-- the reference's side -/
theorem vw13 {c : Nat} {β : Nat → Nat} : ∀ (i n d : Nat) (bs : Nat → Int32), d + i = 7 → 1 ≤ d → RB bs 3 (fun y => if 3 ≤ y ∧ y < 2 + d then c else β y) → Sx (lpX9_valueWith_13 1 (nI c) (n + i + 1) (nI d) bs) (fun z => RB z 3 (setk0 β c) ∧ FrB 3 bs z) := by
  intro i
  induction i with
  | zero =>
    intro n d bs hi h1 hg
    rw [lpX9_valueWith_13.eq_2]
    refine Sx.p (show (6 : Int32) < nI d from nI_lt (a := 6) (by omega) (by omega)) (Sx.mk ⟨?_, FrB.refl _ _⟩)
    have e : (fun y => if 3 ≤ y ∧ y < 2 + d then c else β y) = setk0 β c := by
      funext y
      unfold setk0 setc
      by_cases g : 3 ≤ y ∧ y ≤ 8
      · rw [if_pos g, if_pos (by omega)]
      · rw [if_neg g, if_neg (by omega)]
    rw [e] at hg
    exact hg
  | succ i ih =>
    intro n d bs hi h1 hg
    rw [lpX9_valueWith_13.eq_2]
    refine Sx.n (show ¬ (6 : Int32) < nI d from nI_nlt (a := 6) (by omega) (by omega)) (Sx.n one0 ?_)
    rw [i_3, i_2, nI_add]
    refine Sx.e1 (se9 (by omega) _) ?_
    rw [nm_mk, nI_1, show n + (i + 1) = n + i + 1 by omega]
    have hu := hg.up (a := 2 + d) (by omega) (v := c) (x := nI c) (by rw [rI_n (by omega), bup_s])
    have e : bup (fun y => if 3 ≤ y ∧ y < 2 + d then c else β y) (2 + d) c = (fun y => if 3 ≤ y ∧ y < 2 + (d + 1) then c else β y) := by
      funext y
      unfold bup
      by_cases g : y = 2 + d
      · rw [if_pos g, if_pos (by omega)]
      · rw [if_neg g]
        show (if 3 ≤ y ∧ y < 2 + d then c else β y) = _
        by_cases g2 : 3 ≤ y ∧ y < 2 + d
        · rw [if_pos g2, if_pos (by omega)]
        · rw [if_neg g2, if_neg (by omega)]
    rw [e] at hu
    exact (ih n (d + 1) _ (by omega) (by omega) hu).imp (fun z hz => ⟨hz.1, (FrB.up (by omega) _).tr hz.2⟩)
theorem vW0 {bs : Nat → Int32} {pe : Nat → Int64} {T p q R c : Nat} {β : Nat → Nat} {π : Nat → Nat → Nat} (hb : RB bs 3 β) (hK : BK β) (hp : PK π) (hP : RP pe T π) (hN : NK T p q R) (hc : c ≤ 1000) (wo ho : Nat → Int64) (ac : Nat → Int32) : Sx (fX9_valueWith 1 (nI c) bs (nI T) (nI p) (nI q) (nI R) pe wo ho ac) (fun z => z.1 = lN (V0 π T p q R (setk0 β c)) ∧ RB z.2.1 3 (setk0 β c) ∧ FrB 3 bs z.2.1) := by
  unfold fX9_valueWith
  rw [if_neg one0, bd1_mk]
  obtain ⟨n, hn⟩ := fuN 7 (by omega)
  refine Sx.b1 (P := fun z => RB z 3 (setk0 β c) ∧ FrB 3 bs z) ?_ ?_
  · have e : (fun y => if 3 ≤ y ∧ y < 2 + 1 then c else β y) = β := by
      funext y
      rw [if_neg (by omega)]
    have := vw13 (c := c) (β := β) 6 n 1 bs (by omega) (by omega) (by rw [e]; exact hb)
    rw [hn]
    exact this
  · intro b hb2
    refine Sx.b4 (vo9 (k := 3) hb2.1 (setc_BK hK hc) hp hP hN wo ho ac) ?_
    intro a0 a1 a2 a3 h0
    exact Sx.mk ⟨h0, hb2⟩
theorem vW1 {bs : Nat → Int32} {pe : Nat → Int64} {T p q R c : Nat} {β : Nat → Nat} {π : Nat → Nat → Nat} (hb : RB bs 3 β) (hK : BK β) (hp : PK π) (hP : RP pe T π) (hN : NK T p q R) (hc : c ≤ 1000) (wo ho : Nat → Int64) (ac : Nat → Int32) : Sx (fX9_valueWith 0 (nI c) bs (nI T) (nI p) (nI q) (nI R) pe wo ho ac) (fun z => z.1 = lN (V0 π T p q R (setk1 β c)) ∧ RB z.2.1 3 (setk1 β c) ∧ FrB 3 bs z.2.1) := by
  unfold fX9_valueWith
  rw [if_pos rfl, i_3, i_1, se9 (by omega), bd1_mk, bd1_mk]
  have hu : RB (upd bs (27 * 3 + 1) (nI c)) 3 (setk1 β c) := hb.up (a := 1) (by omega) (v := c) (by rw [rI_n (by omega), bup_s])
  obtain ⟨n, hn⟩ := fuN 1 (by omega)
  rw [hn, lpX9_valueWith_13.eq_2]
  refine Sx.e1 (a0 := upd bs (27 * 3 + 1) (nI c)) ?_ ?_
  · rw [if_neg (show ¬ (6 : Int32) < nI 1 from by decide), if_pos rfl]
  · refine Sx.b4 (vo9 (k := 3) hu (bup1_BK hK hc) hp hP hN wo ho ac) ?_
    intro a0 a1 a2 a3 h0
    exact Sx.mk ⟨h0, hu, FrB.up (by omega) _⟩
theorem tn9 {tr : Nat → Int32} {τ : Nat → Nat} (hf : TR tr 0 τ) (hT : TK τ) (x0 x1 x2 x3 : Int32) (pe : Nat → Int64) (a b : Int64) : Sx (fX9_takesNow tr x0 x1 x2 x3 pe a b) (fun z => z.1 = nI (τ 0) ∧ z.2.1 = nI (τ 6) ∧ z.2.2.1 = nI (τ 7) ∧ z.2.2.2.1 = nI (τ 8) ∧ RP z.2.2.2.2.1 (τ 0) (prF τ (τ 1))) := by
  unfold fX9_takesNow
  have h1 : tr 1 = nI (τ 1) := by have := hf 1 (by omega); rwa [Nat.zero_add] at this
  rw [cl_1, h1, i_0]
  refine Sx.b7 (tt9 (w := 0) hf (by omega) (by omega) hT x0 x1 x2 x3 pe a b) ?_
  intro a0 a1 a2 a3 a4 a5 a6 h
  exact Sx.mk h
theorem fr44_0 {pe : Nat → Int64} {τ β : Nat → Nat} (aim : Int64) (hT : TK τ) (hK : BK β) (hP : RP pe (τ 0) (prF τ (τ 1))) : ∀ (i n lo hi : Nat) (bs : Nat → Int32) (wo ho : Nat → Int64) (ac : Nat → Int32), hi - lo ≤ i → lo ≤ hi → hi ≤ 1000 → (∀ c, c < lo → ¬ Pk0 τ β aim c) → Pk0 τ β aim hi → (∃ x, RB bs 3 x ∧ BK x ∧ ∀ c, setk0 x c = setk0 β c) → Sx (lpX9_fair_44 aim 1 (nI (τ 0)) (nI (τ 6)) (nI (τ 7)) (nI (τ 8)) pe (n + i + 1) (nI lo) (nI hi) bs wo ho ac) (fun z => Fa (Pk0 τ β aim) 1000 z.1 ∧ FrB 3 bs z.2.1) := by
  intro i
  induction i with
  | zero =>
    intro n lo hi bs wo ho ac h1 h2 h3 h4 h5 hx
    rw [lpX9_fair_44.eq_2]
    refine Sx.p (nI_le (by omega) (by omega)) (Sx.mk ⟨Or.inl ⟨lo, by omega, ?_, h4, rfl⟩, FrB.refl _ _⟩)
    rw [show lo = hi by omega]; exact h5
  | succ i ih =>
    intro n lo hi bs wo ho ac h1 h2 h3 h4 h5 hx
    rw [lpX9_fair_44.eq_2]
    by_cases g : hi ≤ lo
    · refine Sx.p (nI_le (by omega) (by omega)) (Sx.mk ⟨Or.inl ⟨lo, by omega, ?_, h4, rfl⟩, FrB.refl _ _⟩)
      rw [show lo = hi by omega]; exact h5
    · refine Sx.n (nI_ge (by omega) (by omega)) ?_
      rw [nm_mk, nI_add, i_2, pk_div (by omega) (by omega) (by omega)]
      obtain ⟨x, hx1, hx2, hx3⟩ := hx
      refine Sx.b5 (vW0 hx1 hx2 (prF_PK hT (by omega)) hP hT.n (show (lo + hi) / 2 ≤ 1000 by omega) wo ho ac) ?_
      rintro r b a1 a2 a3 ⟨rfl, hb, hfr⟩
      have hxy : ∃ x, RB b 3 x ∧ BK x ∧ ∀ c, setk0 x c = setk0 β c := ⟨_, hb, setc_BK hx2 (by omega), fun c => by rw [setk0_s, hx3]⟩
      rw [hx3]
      by_cases hP : Pk0 τ β aim ((lo + hi) / 2)
      · refine Sx.e2 (a0 := nI lo) (a1 := nI ((lo + hi) / 2)) (if_neg hP) ?_
        rw [show n + (i + 1) = n + i + 1 by omega]
        exact (ih n lo ((lo + hi) / 2) b a1 a2 a3 (by omega) (by omega) (by omega) h4 hP hxy).imp (fun z hz => ⟨hz.1, hfr.tr hz.2⟩)
      · refine Sx.e2 (a0 := nI ((lo + hi) / 2 + 1)) (a1 := nI hi) ?_ ?_
        · rw [← nI_1]; exact if_pos (Decidable.not_not.mp hP)
        · rw [show n + (i + 1) = n + i + 1 by omega]
          refine (ih n ((lo + hi) / 2 + 1) hi b a1 a2 a3 (by omega) (by omega) (by omega) ?_ h5 hxy).imp (fun z hz => ⟨hz.1, hfr.tr hz.2⟩)
          intro c hc hPc
          exact hP (Pk0_m hT hK aim c _ (by omega) (by omega) hPc)
theorem fa9_0 {k : Nat} (hk : k < 3) {tr bs : Nat → Int32} {τ : Nat → Nat} {β : Nat → Nat} (hf : TR tr 0 τ) (hT : TK τ) (hb : RB bs k β) (hK : BK β) (aim : Int64) (x0 x1 x2 x3 : Int32) (pe : Nat → Int64) (a b : Int64) (wo ho : Nat → Int64) (ac : Nat → Int32) : Sx (fX9_fair (nI k) aim 1 tr bs x0 x1 x2 x3 pe a b wo ho ac) (fun z => Fa (Pk0 τ β aim) 1000 z.1 ∧ FrB 3 bs z.2.1) := by
  unfold fX9_fair
  rw [isb9' hk, bd1_mk, if_neg one0]
  refine Sx.b7 (tn9 hf hT x0 x1 x2 x3 pe a b) ?_
  rintro d0 d1 d2 d3 pe' d5 d6 ⟨rfl, rfl, rfl, rfl, hP⟩
  dsimp only at hP ⊢
  refine Sx.b1 (cy9 (l := 3) (by omega) (by omega) (by omega) hb) ?_
  rintro b' ⟨hb', hfr'⟩
  refine Sx.b5 (vW0 (c := 1000) hb' hK (prF_PK hT (by omega)) hP hT.n (Nat.le_refl _) wo ho ac) ?_
  rintro r b2 a1 a2 a3 ⟨rfl, hb2, hfr2⟩
  dsimp only at hb2 hfr2 ⊢
  by_cases hP1 : Pk0 τ β aim 1000
  · refine Sx.p (Int64.not_lt.mp hP1) ?_
    obtain ⟨n, hn⟩ := fuB 1001 (by omega)
    rw [hn]
    refine Sx.b5 (fr44_0 aim hT hK hP 1000 n 0 1000 b2 a1 a2 a3 (by omega) (by omega) (by omega) (fun c hc => absurd hc (by omega)) hP1 ⟨_, hb2, setc_BK hK (Nat.le_refl _), fun c => setk0_s _ _ _⟩) ?_
    intro y b3 c1 c2 c3 hy
    exact Sx.mk ⟨hy.1, (hfr'.tr hfr2).tr hy.2⟩
  · refine Sx.n (fun q => hP1 (Int64.not_lt.mpr q)) (Sx.mk ⟨Or.inr ⟨fun c hc hPc => hP1 (Pk0_m hT hK aim c 1000 hc (Nat.le_refl _) hPc), rfl⟩, hfr'.tr hfr2⟩)
theorem fr44_1 {pe : Nat → Int64} {τ β : Nat → Nat} (aim : Int64) (hT : TK τ) (hK : BK β) (hP : RP pe (τ 0) (prF τ (τ 1))) : ∀ (i n lo hi : Nat) (bs : Nat → Int32) (wo ho : Nat → Int64) (ac : Nat → Int32), hi - lo ≤ i → lo ≤ hi → hi ≤ 1000 → (∀ c, c < lo → ¬ Pk1 τ β aim c) → Pk1 τ β aim hi → (∃ x, RB bs 3 x ∧ BK x ∧ ∀ c, setk1 x c = setk1 β c) → Sx (lpX9_fair_44 aim 0 (nI (τ 0)) (nI (τ 6)) (nI (τ 7)) (nI (τ 8)) pe (n + i + 1) (nI lo) (nI hi) bs wo ho ac) (fun z => Fa (Pk1 τ β aim) 1000 z.1 ∧ FrB 3 bs z.2.1) := by
  intro i
  induction i with
  | zero =>
    intro n lo hi bs wo ho ac h1 h2 h3 h4 h5 hx
    rw [lpX9_fair_44.eq_2]
    refine Sx.p (nI_le (by omega) (by omega)) (Sx.mk ⟨Or.inl ⟨lo, by omega, ?_, h4, rfl⟩, FrB.refl _ _⟩)
    rw [show lo = hi by omega]; exact h5
  | succ i ih =>
    intro n lo hi bs wo ho ac h1 h2 h3 h4 h5 hx
    rw [lpX9_fair_44.eq_2]
    by_cases g : hi ≤ lo
    · refine Sx.p (nI_le (by omega) (by omega)) (Sx.mk ⟨Or.inl ⟨lo, by omega, ?_, h4, rfl⟩, FrB.refl _ _⟩)
      rw [show lo = hi by omega]; exact h5
    · refine Sx.n (nI_ge (by omega) (by omega)) ?_
      rw [nm_mk, nI_add, i_2, pk_div (by omega) (by omega) (by omega)]
      obtain ⟨x, hx1, hx2, hx3⟩ := hx
      refine Sx.b5 (vW1 hx1 hx2 (prF_PK hT (by omega)) hP hT.n (show (lo + hi) / 2 ≤ 1000 by omega) wo ho ac) ?_
      rintro r b a1 a2 a3 ⟨rfl, hb, hfr⟩
      have hxy : ∃ x, RB b 3 x ∧ BK x ∧ ∀ c, setk1 x c = setk1 β c := ⟨_, hb, bup1_BK hx2 (by omega), fun c => by rw [setk1_s, hx3]⟩
      rw [hx3]
      by_cases hP : Pk1 τ β aim ((lo + hi) / 2)
      · refine Sx.e2 (a0 := nI lo) (a1 := nI ((lo + hi) / 2)) (if_neg hP) ?_
        rw [show n + (i + 1) = n + i + 1 by omega]
        exact (ih n lo ((lo + hi) / 2) b a1 a2 a3 (by omega) (by omega) (by omega) h4 hP hxy).imp (fun z hz => ⟨hz.1, hfr.tr hz.2⟩)
      · refine Sx.e2 (a0 := nI ((lo + hi) / 2 + 1)) (a1 := nI hi) ?_ ?_
        · rw [← nI_1]; exact if_pos (Decidable.not_not.mp hP)
        · rw [show n + (i + 1) = n + i + 1 by omega]
          refine (ih n ((lo + hi) / 2 + 1) hi b a1 a2 a3 (by omega) (by omega) (by omega) ?_ h5 hxy).imp (fun z hz => ⟨hz.1, hfr.tr hz.2⟩)
          intro c hc hPc
          exact hP (Pk1_m hT hK aim c _ (by omega) (by omega) hPc)
theorem fa9_1 {k : Nat} (hk : k < 3) {tr bs : Nat → Int32} {τ : Nat → Nat} {β : Nat → Nat} (hf : TR tr 0 τ) (hT : TK τ) (hb : RB bs k β) (hK : BK β) (aim : Int64) (x0 x1 x2 x3 : Int32) (pe : Nat → Int64) (a b : Int64) (wo ho : Nat → Int64) (ac : Nat → Int32) : Sx (fX9_fair (nI k) aim 0 tr bs x0 x1 x2 x3 pe a b wo ho ac) (fun z => Fa (Pk1 τ β aim) 1000 z.1 ∧ FrB 3 bs z.2.1) := by
  unfold fX9_fair
  rw [isb9' hk, bd1_mk, if_neg one0]
  refine Sx.b7 (tn9 hf hT x0 x1 x2 x3 pe a b) ?_
  rintro d0 d1 d2 d3 pe' d5 d6 ⟨rfl, rfl, rfl, rfl, hP⟩
  dsimp only at hP ⊢
  refine Sx.b1 (cy9 (l := 3) (by omega) (by omega) (by omega) hb) ?_
  rintro b' ⟨hb', hfr'⟩
  refine Sx.b5 (vW1 (c := 1000) hb' hK (prF_PK hT (by omega)) hP hT.n (Nat.le_refl _) wo ho ac) ?_
  rintro r b2 a1 a2 a3 ⟨rfl, hb2, hfr2⟩
  dsimp only at hb2 hfr2 ⊢
  by_cases hP1 : Pk1 τ β aim 1000
  · refine Sx.p (Int64.not_lt.mp hP1) ?_
    obtain ⟨n, hn⟩ := fuB 1001 (by omega)
    rw [hn]
    refine Sx.b5 (fr44_1 aim hT hK hP 1000 n 0 1000 b2 a1 a2 a3 (by omega) (by omega) (by omega) (fun c hc => absurd hc (by omega)) hP1 ⟨_, hb2, bup1_BK hK (Nat.le_refl _), fun c => setk1_s _ _ _⟩) ?_
    intro y b3 c1 c2 c3 hy
    exact Sx.mk ⟨hy.1, (hfr'.tr hfr2).tr hy.2⟩
  · refine Sx.n (fun q => hP1 (Int64.not_lt.mpr q)) (Sx.mk ⟨Or.inr ⟨fun c hc hPc => hP1 (Pk1_m hT hK aim c 1000 hc (Nat.le_refl _) hPc), rfl⟩, hfr'.tr hfr2⟩)
theorem fr16 {bs : Nat → Int32} {pe : Nat → Int64} {k : Nat} {τ β : Nat → Nat} (aim : Int64) (hb : RB bs k β) (hT : TK τ) (hK : BK β) (hP : RP pe (τ 0) (prF τ (τ 1))) : ∀ (i n r : Nat) (x : Int32) (wo ho : Nat → Int64) (ac : Nat → Int32), r + i = 201 → (∀ c, c < r → ¬ Pk2 τ β aim c) → Sx (lpX9_fairRate_16 (nI k) aim bs (nI (τ 0)) (nI (τ 6)) (nI (τ 7)) pe (n + i + 1) (nI r) x wo ho ac) (fun z => Fa (Pk2 τ β aim) 200 (if z.1 = 0 then z.2.1 else -2)) := by
  intro i
  induction i with
  | zero =>
    intro n r x wo ho ac hi hg
    rw [lpX9_fairRate_16.eq_2]
    exact Sx.p (show (200 : Int32) < nI r from nI_lt (a := 200) (by omega) (by omega)) (Sx.mk (Or.inr ⟨fun c hc => hg c (by omega), rfl⟩))
  | succ i ih =>
    intro n r x wo ho ac hi hg
    rw [lpX9_fairRate_16.eq_2]
    refine Sx.n (show ¬ (200 : Int32) < nI r from nI_nlt (a := 200) (by omega) (by omega)) ?_
    refine Sx.b4 (vo9 hb hK (prF_PK hT (by omega)) hP (R := r) ⟨by omega, by omega, by omega⟩ wo ho ac) ?_
    rintro v a1 a2 a3 rfl
    by_cases hPr : Pk2 τ β aim r
    · refine Sx.n hPr (Sx.mk (Or.inl ⟨r, by omega, hPr, hg, rfl⟩))
    · refine Sx.p (Decidable.not_not.mp hPr) ?_
      rw [nm_mk, nI_1, show n + (i + 1) = n + i + 1 by omega]
      refine ih n (r + 1) _ _ _ _ (by omega) ?_
      intro c hc
      by_cases e : c = r
      · rw [e]; exact hPr
      · exact hg c (by omega)
theorem fa9_2 {k : Nat} (hk : k < 3) {tr bs : Nat → Int32} {τ : Nat → Nat} {β : Nat → Nat} (hf : TR tr 0 τ) (hT : TK τ) (hb : RB bs k β) (hK : BK β) (aim : Int64) (x0 x1 x2 x3 : Int32) (pe : Nat → Int64) (a b : Int64) (wo ho : Nat → Int64) (ac : Nat → Int32) : Sx (fX9_fairRate (nI k) aim tr bs x0 x1 x2 x3 pe a b wo ho ac) (fun z => Fa (Pk2 τ β aim) 200 z.1) := by
  unfold fX9_fairRate
  rw [isb9' hk, bd1_mk, if_neg one0]
  refine Sx.b7 (tn9 hf hT x0 x1 x2 x3 pe a b) ?_
  rintro d0 d1 d2 d3 pe' d5 d6 ⟨rfl, rfl, rfl, rfl, hP⟩
  dsimp only at hP ⊢
  obtain ⟨n, hn⟩ := fuN 202 (by omega)
  rw [hn, i_0]
  refine Sx.b6 (fr16 aim hb hT hK hP 201 n 0 _ wo ho ac (by omega) (fun c hc => absurd hc (by omega))) ?_
  intro y0 y1 y2 y3 y4 y5 hy
  dsimp only at hy
  refine Sx.it (fun h => ?_) (fun h => ?_)
  · rw [if_pos h] at hy
    exact Sx.mk hy
  · rw [if_neg h] at hy
    exact Sx.mk hy
