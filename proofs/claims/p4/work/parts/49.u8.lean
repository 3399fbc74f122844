/-! pure: alike, both sides (own rows) -/
def Df (τ β γ : Nat → Nat) (e : Nat) : Prop := lN (vR (prF τ (τ 1)) (τ 0) (τ 6) (τ 7) (τ 8) β (bV (prF τ (τ 1)) β) e) ≠ lN (vR (prF τ (τ 1)) (τ 0) (τ 6) (τ 7) (τ 8) γ (bV (prF τ (τ 1)) γ) e)
theorem dR_mono : ∀ a, a < 128 → ∀ b, b < 128 → 1 ≤ a → a ≤ b → dR a ≤ dR b := by decide +kernel
def rcN : Nat → Nat → Nat
  | 0, _ => 0
  | d + 1, r => rcN d (r / 2) + r % 2 * 2 ^ d
theorem rc_p : ∀ T, T < 7 → ∀ r, r < 128 → 1 ≤ r → dR r ≤ T → rcN (dR r) r < 2 ^ T ∧ pfx (rbF (rcN (dR r) r) T) (dR r) = r := by decide +kernel
theorem dq1 : ∀ x, x < 784 → (nI x / 16) - (nI x / 16) / 7 * 7 = nI (x / 16 % 7) ∧ (nI x / 8) - (nI x / 8) / 2 * 2 = nI (x / 8 % 2) ∧ nI x - nI x / 8 * 8 = nI (x % 8) := by decide +kernel
theorem aT_d (π : Nat → Nat → Nat) (β : Nat → Nat) {e : Nat} (h1 : 1 ≤ e) (h : e < 128) : aT π β e / 16 % 7 = uR e ∧ aT π β e / 8 % 2 = bR e ∧ aT π β e % 8 = mR π β e := by
  obtain ⟨⟨b1, b2, b3⟩, b4, b5, b6⟩ := row_b1 e h h1
  have hm := mR_lt π β e
  unfold aT atN
  generalize mR π β e = m at *
  generalize uR e = u at *
  generalize bR e = b at *
  generalize dR e = d at *
  have e1 : (((7 * d + u) * 2 + b) * 8 + m) / 16 = 7 * d + u := by omega
  have e2 : (((7 * d + u) * 2 + b) * 8 + m) / 8 = (7 * d + u) * 2 + b := by omega
  rw [e1, e2]
  omega
abbrev aP (τ β γ : Nat → Nat) (p : Int32) (v : Int32) : Prop := ((∀ e, 1 ≤ e → e < 128 → dR e ≤ τ 0 → ¬ Df τ β γ e) ∧ v = if p = 0 then 1 else -2) ∨ ∃ d, (∃ e, 1 ≤ e ∧ e < 128 ∧ dR e ≤ τ 0 ∧ Df τ β γ e ∧ dR e = d) ∧ (∀ e, 1 ≤ e → e < 128 → dR e ≤ τ 0 → Df τ β γ e → d ≤ dR e) ∧ v = if p = 0 then 0 else nI d
theorem aP_u (τ β γ : Nat → Nat) (p : Int32) (x y : Int32) (hx : aP τ β γ p x) (hy : aP τ β γ p y) : x = y := by
  rcases hx with ⟨a, rfl⟩ | ⟨d, ⟨e, e1, e2, e3, e4, e5⟩, g, rfl⟩
  · rcases hy with ⟨_, rfl⟩ | ⟨d', ⟨e', f1, f2, f3, f4, f5⟩, g', rfl⟩
    · rfl
    · exact absurd f4 (a e' f1 f2 f3)
  · rcases hy with ⟨a', rfl⟩ | ⟨d', ⟨e', f1, f2, f3, f4, f5⟩, g', rfl⟩
    · exact absurd e4 (a' e e1 e2 e3)
    · have h1 := g e' f1 f2 f3 f4
      have h2 := g' e e1 e2 e3 e4
      rw [show d = d' by omega]
theorem al63 {st : Nat → Int32} {τ β γ : Nat → Nat} (hc : TC st τ) (hT : TK τ) {va vb : Nat → Int64} (hva : ∀ e, 1 ≤ e → e < 2 * 2 ^ τ 0 → va e = lN (vR (prF τ (τ 1)) (τ 0) (τ 6) (τ 7) (τ 8) β (bV (prF τ (τ 1)) β) e)) (hvb : ∀ e, 1 ≤ e → e < 2 * 2 ^ τ 0 → vb e = lN (vR (prF τ (τ 1)) (τ 0) (τ 6) (τ 7) (τ 8) γ (bV (prF τ (τ 1)) γ) e)) (p : Int32) : ∀ (i n x : Nat), x + i = 2 * 2 ^ τ 0 → 1 ≤ x → Sx (lpX8_alike_63 p st va vb (n + i + 1) (nI x)) (fun z => (z.1 = 1 ∧ ∀ e, x ≤ e → e < 2 * 2 ^ τ 0 → ¬ Df τ β γ e) ∨ (z.1 = 0 ∧ ∃ e, x ≤ e ∧ e < 2 * 2 ^ τ 0 ∧ Df τ β γ e ∧ (∀ e', x ≤ e' → e' < e → ¬ Df τ β γ e') ∧ z.2 = nI e)) := by
  have hb2 := p2b (τ 0) (by omega)
  intro i
  induction i with
  | zero =>
    intro n x hi h1
    rw [lpX8_alike_63.eq_2, lr8' hc hT, bd1_mk, if_pos (nI_lt (by omega) (by omega))]
    exact Sx.mk (Or.inl ⟨rfl, fun e a b => by omega⟩)
  | succ i ih =>
    intro n x hi h1
    rw [lpX8_alike_63.eq_2, lr8' hc hT, bd1_mk, if_neg (nI_nlt (by omega) (by omega)), va8 h1 (by omega), bd1_mk, va8 h1 (by omega), bd1_mk, hva x h1 (by omega), hvb x h1 (by omega)]
    by_cases g : lN (vR (prF τ (τ 1)) (τ 0) (τ 6) (τ 7) (τ 8) β (bV (prF τ (τ 1)) β) x) = lN (vR (prF τ (τ 1)) (τ 0) (τ 6) (τ 7) (τ 8) γ (bV (prF τ (τ 1)) γ) x)
    · rw [if_pos g, nm_mk, nI_1, show n + (i + 1) = n + i + 1 by omega]
      refine (ih n (x + 1) (by omega) (by omega)).imp ?_
      rintro z (⟨z1, h⟩ | ⟨z1, e, a, b, c, d, f⟩)
      · refine Or.inl ⟨z1, fun e a b => ?_⟩
        by_cases q : e = x
        · rw [q]; exact fun z => z g
        · exact h e (by omega) b
      · refine Or.inr ⟨z1, e, by omega, b, c, fun e' a' b' => ?_, f⟩
        by_cases q : e' = x
        · rw [q]; exact fun z => z g
        · exact d e' (by omega) b'
    · rw [if_neg g]
      exact Sx.mk (Or.inr ⟨rfl, x, Nat.le_refl x, by omega, g, fun e' a b => by omega, rfl⟩)
theorem al34 (a1 a2 a3 : Int32) (wo : Nat → Int64) : ∀ (i n x : Nat) (ot : Nat → Int64), x + i = 784 → (∀ y, y < x → ot y = wo y) → Sx (lpX9_alike_34 a1 a2 a3 wo (n + i + 1) (nI x) ot) (fun z => ∀ y, y < 784 → z y = wo y) := by
  intro i
  induction i with
  | zero =>
    intro n x ot hi h
    rw [lpX9_alike_34.eq_2, if_pos (show (784 : Int32) ≤ nI x from nI_le (a := 784) (by omega) (by omega))]
    exact Sx.mk (fun y hy => h y (by omega))
  | succ i ih =>
    intro n x ot hi h
    rw [lpX9_alike_34.eq_2, if_neg (show ¬ (784 : Int32) ≤ nI x from nI_ge (b := 784) (by omega) (by omega)), og32 (by omega) (by omega), og32 (by omega) (by omega), nm_mk, nm_mk, nI_1, nI_clamp (by omega), show n + (i + 1) = n + i + 1 by omega]
    refine ih n (x + 1) _ (by omega) (fun y hy => ?_)
    rw [upL]
    by_cases e : y = x
    · rw [if_pos e, e]
    · rw [if_neg e]; exact h y (by omega)
theorem thE {bs : Nat → Int32} {pe' : Nat → Int64} {τ β : Nat → Nat} {k : Nat} (hb : RB bs k β) (hK : BK β) (hT : TK τ) (hP : RP pe' (τ 0) (prF τ (τ 1))) {e b : Nat} (e1 : 1 ≤ e) (e2 : e < 64) (hbb : b < 2) (ed : dR e < τ 0) : fX9_then (nI k) (nI (dR e)) ((nI (aT (prF τ (τ 1)) β e) / 16) - (nI (aT (prF τ (τ 1)) β e) / 16) / 7 * 7) ((nI (aT (prF τ (τ 1)) β e) / 8) - (nI (aT (prF τ (τ 1)) β e) / 8) / 2 * 2) (nI (aT (prF τ (τ 1)) β e) - nI (aT (prF τ (τ 1)) β e) / 8 * 8) (nI b) bs pe' = some (nI (aT (prF τ (τ 1)) β (2 * e + b))) := by
  have hl := aT_lt (prF τ (τ 1)) β e1 (by omega : e < 128)
  obtain ⟨q1, q2, q3⟩ := dq1 _ hl
  obtain ⟨d1, d2, d3⟩ := aT_d (prF τ (τ 1)) β e1 (by omega : e < 128)
  obtain ⟨s1, s2, s3, s4⟩ := row_s e e2 e1 b hbb
  rw [q1, q2, q3, d1, d2, d3, th9 hb hK (prF_PK hT (by omega)) hP (by omega) _ (row_b1 e (by omega) e1).1.2.1 (mR_lt _ _ _) hbb ed]
  unfold aT
  rw [s1, s2, s3, mR_s _ _ e1 e2 hbb]
theorem al110 {bs : Nat → Int32} {pe' wo ot : Nat → Int64} {τ β γ : Nat → Nat} {k l : Nat} (hb : RB bs k β) (hK : BK β) (hc : RB bs l γ) (hL : BK γ) (hT : TK τ) (hP : RP pe' (τ 0) (prF τ (τ 1))) (ho : ∀ e, 1 ≤ e → e < 128 → dR e ≤ τ 0 → ot (aT (prF τ (τ 1)) β e) = lN (vR (prF τ (τ 1)) (τ 0) (τ 6) (τ 7) (τ 8) β (bV (prF τ (τ 1)) β) e)) (hw : ∀ e, 1 ≤ e → e < 128 → dR e ≤ τ 0 → wo (aT (prF τ (τ 1)) γ e) = lN (vR (prF τ (τ 1)) (τ 0) (τ 6) (τ 7) (τ 8) γ (bV (prF τ (τ 1)) γ) e)) (p : Int32) {c d0 : Nat} (hcc : c < 64) (hd0 : d0 ≤ 7) : ∀ (i n t : Nat), t + i = τ 0 → Sx (lpX9_alike_110 (nI k) (nI l) p (nI d0) (nI c) bs (nI (τ 0)) pe' wo ot (n + i + 1) (nI (aT (prF τ (τ 1)) β (pfx (rbF c (τ 0)) t))) (nI (aT (prF τ (τ 1)) γ (pfx (rbF c (τ 0)) t))) (nI t)) (fun z => ∃ y, z.2 = nI y ∧ y ≤ τ 0 + 1 ∧ (y ≤ τ 0 → y < d0 → Df τ β γ (pfx (rbF c (τ 0)) y)) ∧ (∀ s, t ≤ s → s < y → s ≤ τ 0 → s < d0 → ¬ Df τ β γ (pfx (rbF c (τ 0)) s))) := by
  obtain ⟨r1, r2, r3⟩ := rb_p c hcc (τ 0) (by omega)
  intro i
  induction i with
  | zero =>
    intro n t hi
    obtain ⟨g1, g2, g3⟩ := pf1 _ r2 r1 t (by omega) (by omega)
    have l1 := aT_lt (prF τ (τ 1)) β g2 g3
    have l2 := aT_lt (prF τ (τ 1)) γ g2 g3
    rw [lpX9_alike_110.eq_2]
    by_cases h0 : d0 ≤ t
    · rw [if_pos (nI_le h0 (by omega))]
      exact Sx.mk ⟨t, rfl, by omega, fun _ _ => by omega, fun s _ _ _ _ => by omega⟩
    rw [if_neg (nI_ge (by omega) (by omega)), og32 l1 (by omega), og32 l2 (by omega), nI_clamp (by omega), nI_clamp (by omega), ho _ g2 g3 (by omega), hw _ g2 g3 (by omega)]
    by_cases g : lN (vR (prF τ (τ 1)) (τ 0) (τ 6) (τ 7) (τ 8) β (bV (prF τ (τ 1)) β) (pfx (rbF c (τ 0)) t)) = lN (vR (prF τ (τ 1)) (τ 0) (τ 6) (τ 7) (τ 8) γ (bV (prF τ (τ 1)) γ) (pfx (rbF c (τ 0)) t))
    · rw [if_pos g, nm_mk, nI_1, if_neg (nI_ge (by omega) (by omega))]
      refine Sx.mk ⟨t + 1, rfl, by omega, fun _ _ => by omega, fun s a b _ _ => ?_⟩
      rw [show s = t by omega]; exact fun z => z g
    · rw [if_neg g]
      exact Sx.mk ⟨t, rfl, by omega, fun _ _ => g, fun s _ _ _ _ => by omega⟩
  | succ i ih =>
    intro n t hi
    obtain ⟨g1, g2, g3⟩ := pf1 _ r2 r1 t (by omega) (by omega)
    obtain ⟨m1, m2⟩ := pf2 _ r2 r1 t (by omega) (by omega)
    rw [r3, rb_b c hcc (τ 0) (by omega) t (by omega) (by omega)] at m1
    have l1 := aT_lt (prF τ (τ 1)) β g2 g3
    have l2 := aT_lt (prF τ (τ 1)) γ g2 g3
    rw [lpX9_alike_110.eq_2]
    by_cases h0 : d0 ≤ t
    · rw [if_pos (nI_le h0 (by omega))]
      exact Sx.mk ⟨t, rfl, by omega, fun _ _ => by omega, fun s _ _ _ _ => by omega⟩
    rw [if_neg (nI_ge (by omega) (by omega)), og32 l1 (by omega), og32 l2 (by omega), nI_clamp (n := aT (prF τ (τ 1)) β (pfx (rbF c (τ 0)) t)) (by omega), nI_clamp (n := aT (prF τ (τ 1)) γ (pfx (rbF c (τ 0)) t)) (by omega), ho _ g2 g3 (by omega), hw _ g2 g3 (by omega)]
    by_cases g : lN (vR (prF τ (τ 1)) (τ 0) (τ 6) (τ 7) (τ 8) β (bV (prF τ (τ 1)) β) (pfx (rbF c (τ 0)) t)) = lN (vR (prF τ (τ 1)) (τ 0) (τ 6) (τ 7) (τ 8) γ (bV (prF τ (τ 1)) γ) (pfx (rbF c (τ 0)) t))
    · have e1 := thE hb hK hT hP g2 m2 (show c / 2 ^ t % 2 < 2 by omega) (by omega)
      have e2 := thE hc hL hT hP g2 m2 (show c / 2 ^ t % 2 < 2 by omega) (by omega)
      rw [g1] at e1 e2
      rw [if_pos g, nm_mk, nI_1, if_pos (nI_le (by omega) (by omega)), nm_mk, i_1, pk_sub (by omega), Nat.add_sub_cancel, show (nI 1 : Int32) = 1 from rfl, bt_b c hcc t (by omega), e1, bd1_mk, e2, bd1_mk, ← m1, show n + (i + 1) = n + i + 1 by omega]
      refine (ih n (t + 1) (by omega)).imp ?_
      rintro z ⟨y, y1, y2, y3, y4⟩
      refine ⟨y, y1, y2, y3, fun s a b a' b' => ?_⟩
      by_cases q : s = t
      · rw [q]; exact fun z => z g
      · exact y4 s (by omega) b a' b'
    · rw [if_neg g]
      exact Sx.mk ⟨t, rfl, by omega, fun _ _ => g, fun s _ _ _ _ => by omega⟩
abbrev Mn (τ β γ : Nat → Nat) (c d : Nat) : Prop := d ≤ 7 ∧ (d < 7 → ∃ e, 1 ≤ e ∧ e < 128 ∧ dR e ≤ τ 0 ∧ Df τ β γ e ∧ dR e = d) ∧ (∀ c', c' < c → ∀ s, s ≤ τ 0 → Df τ β γ (pfx (rbF c' (τ 0)) s) → d ≤ s)
theorem al74 {bs : Nat → Int32} {pe' wo ot : Nat → Int64} {τ β γ : Nat → Nat} {k l : Nat} (hb : RB bs k β) (hK : BK β) (hc : RB bs l γ) (hL : BK γ) (hT : TK τ) (hP : RP pe' (τ 0) (prF τ (τ 1))) (ho : ∀ e, 1 ≤ e → e < 128 → dR e ≤ τ 0 → ot (aT (prF τ (τ 1)) β e) = lN (vR (prF τ (τ 1)) (τ 0) (τ 6) (τ 7) (τ 8) β (bV (prF τ (τ 1)) β) e)) (hw : ∀ e, 1 ≤ e → e < 128 → dR e ≤ τ 0 → wo (aT (prF τ (τ 1)) γ e) = lN (vR (prF τ (τ 1)) (τ 0) (τ 6) (τ 7) (τ 8) γ (bV (prF τ (τ 1)) γ) e)) (p : Int32) : ∀ (i n c d : Nat) (s1 s2 s3 s4 : Int32), c + i = 2 ^ τ 0 → Mn τ β γ c d → Sx (lpX9_alike_74 (nI k) (nI l) p bs (nI (τ 0)) pe' wo ot (n + i + 1) (nI d) (nI c) s1 s2 s3 s4) (fun z => ∃ d', z.1 = nI d' ∧ Mn τ β γ (2 ^ τ 0) d') := by
  have hb2 := p2b (τ 0) (by omega)
  have hp := prF_PK hT (show τ 1 ≤ 1000 by omega)
  intro i
  induction i with
  | zero =>
    intro n c d s1 s2 s3 s4 hi hM
    rw [lpX9_alike_74.eq_2, sh1T _ (by omega), if_pos (nI_le (by omega) (by omega))]
    exact Sx.mk ⟨d, rfl, by rw [← show c = 2 ^ τ 0 by omega]; exact hM⟩
  | succ i ih =>
    intro n c d s1 s2 s3 s4 hi hM
    obtain ⟨r1, r2, r3⟩ := rb_p c (by omega) (τ 0) (by omega)
    obtain ⟨M1, M2, M3⟩ := hM
    obtain ⟨n', hn'⟩ := fuN (τ 0 + 1) (by omega)
    have h110 := al110 hb hK hc hL hT hP ho hw p (c := c) (d0 := d) (by omega) M1 (τ 0) n' 0 (by omega)
    rw [pf0 _ r2 r1] at h110
    rw [lpX9_alike_74.eq_2, sh1T _ (by omega), if_neg (nI_ge (by omega) (by omega)), sta9 hb hK hp hP (by omega), bd4_mk, hn9, bd1_mk, sta9 hc hL hp hP (by omega), bd4_mk, hn9, bd1_mk, hn', show n' + (τ 0 + 1) = n' + τ 0 + 1 by omega]
    refine Sx.b2 (show Sx (lpX9_alike_110 (nI k) (nI l) p (nI d) (nI c) bs (nI (τ 0)) pe' wo ot (n' + τ 0 + 1) (nI (aT (prF τ (τ 1)) β 1)) (nI (aT (prF τ (τ 1)) γ 1)) 0) _ from h110) ?_
    rintro tg y' ⟨y, rfl, y2, y3, y4⟩
    have nxt : (if nI (τ 0) < nI y then some (nI d) else if nI d ≤ nI y then some (nI d) else some (nI y)) = some (nI (if τ 0 < y then d else if d ≤ y then d else y)) := by
      by_cases q : τ 0 < y
      · rw [if_pos (nI_lt q (by omega)), if_pos q]
      · rw [if_neg (nI_nlt (by omega) (by omega)), if_neg q]
        by_cases q2 : d ≤ y
        · rw [if_pos (nI_le q2 (by omega)), if_pos q2]
        · rw [if_neg (nI_ge (by omega) (by omega)), if_neg q2]
    have hM' : Mn τ β γ (c + 1) (if τ 0 < y then d else if d ≤ y then d else y) := by
      by_cases q : τ 0 < y
      · rw [if_pos q]
        refine ⟨M1, M2, fun c' hc' s hs hD => ?_⟩
        by_cases e : c' = c
        · subst e
          by_cases g : s < d
          · exact absurd hD (y4 s (Nat.zero_le s) (by omega) hs g)
          · omega
        · exact M3 c' (by omega) s hs hD
      rw [if_neg q]
      by_cases q2 : d ≤ y
      · rw [if_pos q2]
        refine ⟨M1, M2, fun c' hc' s hs hD => ?_⟩
        by_cases e : c' = c
        · subst e
          by_cases g : s < d
          · exact absurd hD (y4 s (Nat.zero_le s) (by omega) hs g)
          · omega
        · exact M3 c' (by omega) s hs hD
      · rw [if_neg q2]
        obtain ⟨g1, g2, g3⟩ := pf1 _ r2 r1 y (by omega) (by omega)
        refine ⟨by omega, fun _ => ⟨_, g2, g3, by omega, y3 (by omega) (by omega), g1⟩, fun c' hc' s hs hD => ?_⟩
        by_cases e : c' = c
        · subst e
          by_cases g : s < y
          · exact absurd hD (y4 s (Nat.zero_le s) g hs (by omega))
          · omega
        · have := M3 c' (by omega) s hs hD
          omega
    by_cases w : tg = 0
    · rw [if_pos w, nxt, bd1_mk, nm_mk, nI_1, show n + (i + 1) = n + i + 1 by omega]
      exact ih n (c + 1) _ _ _ _ _ (by omega) hM'
    · rw [if_neg w, nxt, bd1_mk, nm_mk, nI_1, show n + (i + 1) = n + i + 1 by omega]
      exact ih n (c + 1) _ _ _ _ _ (by omega) hM'
theorem q_alike {tr b0 b1 b2 tree bs : Nat → Int32} {τ : Nat → Nat} {B : Nat → Nat → Nat} (hf : TC tr τ) (hf9 : TR tree 0 τ) (hT : TK τ) (hB : CB3 b0 b1 b2 B) (hb9 : ∀ k, k < 3 → RB bs k (B k)) (p1 p2 p3 : Int32) (st sb : Nat → Int32) (pu pe tu ca ho va : Nat → Int64) (ma ac : Nat → Int32) (ut ub : Nat → Int32) (upu upe utu uca uho uva : Nat → Int64) (uma uac : Nat → Int32) (x0 x1 x2 x3 : Int32) (pe9 : Nat → Int64) (a9 b9 : Int64) (wo9 ho9 : Nat → Int64) (ac9 : Nat → Int32) (s1 s2 s3 s4 : Int32) (ot : Nat → Int64) : Sx2 (fX8_alike p1 p2 p3 tr b0 b1 b2 st sb pu pe tu ca ho va ma ac ut ub upu upe utu uca uho uva uma uac) (fX9_alike p1 p2 p3 tree bs x0 x1 x2 x3 pe9 a9 b9 wo9 ho9 ac9 s1 s2 s3 s4 ot) (fun _ _ => True) := by
  by_cases h1 : inr p1 0 2
  rotate_left
  · exact Sx2.mk (by unfold fX8_alike; rw [isb8n h1, bd1_mk, if_pos rfl]) (by unfold fX9_alike; rw [isb9n h1, bd1_mk, if_pos rfl]) (trivial)
  by_cases h2 : inr p2 0 2
  rotate_left
  · exact Sx2.mk (by unfold fX8_alike; rw [isb8y h1, bd1_mk, if_neg one0, isb8n h2, bd1_mk, if_pos rfl]) (by unfold fX9_alike; rw [isb9y h1, bd1_mk, if_neg one0, isb9n h2, bd1_mk, if_pos rfl]) (trivial)
  by_cases h3 : inr p3 0 1
  rotate_left
  · exact Sx2.mk (by unfold fX8_alike; rw [isb8y h1, bd1_mk, if_neg one0, isb8y h2, bd1_mk, if_neg one0, wi0 h3, bd1_mk, if_pos rfl]) (by unfold fX9_alike; rw [isb9y h1, bd1_mk, if_neg one0, isb9y h2, bd1_mk, if_neg one0, in0 h3, bd1_mk, if_pos rfl]) (trivial)
  obtain ⟨k, rfl, _, hk, _⟩ := inr_n h1 (by decide)
  obtain ⟨l, rfl, _, hl, _⟩ := inr_n h2 (by decide)
  have hk3 : k < 3 := by omega
  have hl3 : l < 3 := by omega
  have hb2 := p2b (τ 0) (by omega)
  have hp := prF_PK hT (show τ 1 ≤ 1000 by omega)
  refine Sx2.rel (P := aP τ (B k) (B l) p3) (Q := fun _ => True) (aP_u _ _ _ _) ?_ ?_
  · unfold fX8_alike
    rw [isb8y h1, bd1_mk, if_neg one0, isb8y h2, bd1_mk, if_neg one0, wi1 h3, bd1_mk, if_neg one0]
    refine Sx.b10 (wo8 hk3 hf hT hB st sb pu pe tu ca ho va ma ac) ?_
    rintro c0 c1 c2 c3 c4 c5 c6 c7 c8 c9 ⟨hc, hcb, hsb⟩
    dsimp only at hc hcb hsb ⊢
    rw [og32 hl3 (by omega), sel8 hl3, bd2_mk]
    refine Sx.b8 (pb8 hf.cpy hT (hB l hl3).1.cpy (hB l hl3).2 _ _ _ _ _ _ _ _) ?_
    intro f0 f1 f2 f3 f4 f5 f6 f7 hsb2
    dsimp only at hsb2
    obtain ⟨n, hn⟩ := fuN (2 * 2 ^ τ 0) (by omega)
    rw [hn, show n + 2 * 2 ^ τ 0 = n + (2 * 2 ^ τ 0 - 1) + 1 by omega]
    refine Sx.b2 (show Sx (lpX8_alike_63 p3 c0 c7 f5 (n + (2 * 2 ^ τ 0 - 1) + 1) 1) _ from al63 hc hT (fun e e1 e2 => (hsb.2 e e1 e1 e2).1) (fun e e1 e2 => (hsb2.2 e e1 e1 e2).1) p3 (2 * 2 ^ τ 0 - 1) n 1 (by omega) (by omega)) ?_
    rintro z0 z1 (⟨rfl, h⟩ | ⟨rfl, e, e1, e2, e3, e4, rfl⟩)
    · have all : ∀ e, 1 ≤ e → e < 128 → dR e ≤ τ 0 → ¬ Df τ (B k) (B l) e := fun e a b c => h e a (row_T hT a b c)
      rw [if_neg (by decide)]
      by_cases g : p3 = 0
      · rw [if_pos g, bd1_mk]; exact Sx.mk (Or.inl ⟨all, (if_pos g).symm⟩)
      · rw [if_neg g, bd1_mk]; exact Sx.mk (Or.inl ⟨all, (if_neg g).symm⟩)
    · have eT : dR e ≤ τ 0 := by
        have := (row_b1 e (by omega) e1).2.2.1
        by_cases q : dR e ≤ τ 0
        · exact q
        · have := Nat.pow_le_pow_right (show 0 < 2 by omega) (show τ 0 + 1 ≤ dR e by omega)
          rw [Nat.pow_succ] at this
          omega
      have least : ∀ e', 1 ≤ e' → e' < 128 → dR e' ≤ τ 0 → Df τ (B k) (B l) e' → dR e ≤ dR e' := fun e' a b c d => by
        by_cases q : e' < e
        · exact absurd d (e4 e' a q)
        · exact dR_mono e (by omega) e' b e1 (by omega)
      rw [if_pos rfl]
      by_cases g : p3 = 0
      · rw [if_pos g, bd1_mk]; exact Sx.mk (Or.inr ⟨dR e, ⟨e, e1, by omega, eT, e3, rfl⟩, least, (if_pos g).symm⟩)
      · rw [if_neg g, day8 e (by omega) e1, bd1_mk, bd1_mk]; exact Sx.mk (Or.inr ⟨dR e, ⟨e, e1, by omega, eT, e3, rfl⟩, least, (if_neg g).symm⟩)
  · unfold fX9_alike
    rw [isb9y h1, bd1_mk, if_neg one0, isb9y h2, bd1_mk, if_neg one0, in1 h3, bd1_mk, if_neg one0]
    refine Sx.b10 (pn9 hf9 hT hk3 (hb9 k hk3) (hB k hk3).2 x0 x1 x2 x3 pe9 a9 b9 wo9 ho9 ac9) ?_
    rintro d0 d1 d2 d3 pe' d5 d6 d7 d8 d9 ⟨rfl, rfl, rfl, rfl, hP, hG⟩
    dsimp only at hP hG ⊢
    obtain ⟨n, hn⟩ := fuB 785 (by omega)
    obtain ⟨n', hn'⟩ := fuN (2 ^ τ 0 + 1) (by omega)
    refine Sx.b1 (P := fun z => ∀ y, y < 784 → z y = d7 y) (by rw [hn]; exact al34 (nI k) (nI l) p3 d7 784 n 0 ot (by omega) (fun y hy => absurd hy (Nat.not_lt_zero y))) ?_
    intro o1 ho1
    refine Sx.b3 (pl9 (hb9 l hl3) (hB l hl3).2 hp hP hT.n d7 d8 d9) ?_
    intro g0 g1 g2 hG2
    dsimp only at hG2
    have hM : Mn τ (B k) (B l) 0 7 := ⟨Nat.le_refl 7, fun h => absurd h (by omega), fun c' h => absurd h (Nat.not_lt_zero c')⟩
    rw [hn', show n' + (2 ^ τ 0 + 1) = n' + 2 ^ τ 0 + 1 by omega]
    refine Sx.b5 (show Sx (lpX9_alike_74 (nI k) (nI l) p3 bs (nI (τ 0)) pe' g0 o1 (n' + 2 ^ τ 0 + 1) 7 0 s1 s2 s3 s4) _ from al74 (hb9 k hk3) (hB k hk3).2 (hb9 l hl3) (hB l hl3).2 hT hP (fun e a b c => by rw [ho1 _ (aT_lt _ _ a b)]; exact (GD.r hG a b c).1) (fun e a b c => (GD.r hG2 a b c).1) p3 (2 ^ τ 0) n' 0 7 s1 s2 s3 s4 (by omega) hM) ?_
    rintro z0 z1 z2 z3 z4 ⟨d, rfl, M1, M2, M3⟩
    have least : ∀ e, 1 ≤ e → e < 128 → dR e ≤ τ 0 → Df τ (B k) (B l) e → d ≤ dR e := fun e a b c q => by
      obtain ⟨q1, q2⟩ := rc_p (τ 0) (by omega) e b a c
      exact M3 _ q1 (dR e) c (by rw [q2]; exact q)
    by_cases g7 : d = 7
    · have none : ∀ e, 1 ≤ e → e < 128 → dR e ≤ τ 0 → ¬ Df τ (B k) (B l) e := fun e a b c q => by
        have := least e a b c q
        omega
      rw [if_pos (show nI d = (7 : Int32) by rw [g7]; rfl), if_pos (show nI d = (7 : Int32) by rw [g7]; rfl)]
      by_cases g : p3 = 0
      · rw [if_pos g, bd1_mk]; exact Sx.mk ⟨Or.inl ⟨none, (if_pos g).symm⟩, trivial⟩
      · rw [if_neg g, bd1_mk]; exact Sx.mk ⟨Or.inl ⟨none, (if_neg g).symm⟩, trivial⟩
    · have n7 : ¬ nI d = (7 : Int32) := fun z => g7 ((nI_eq (b := 7) (by omega) (by omega)).mp z)
      have hd := M2 (by omega)
      rw [if_neg n7, if_neg n7]
      by_cases g : p3 = 0
      · rw [if_pos g, bd1_mk]; exact Sx.mk ⟨Or.inr ⟨d, hd, least, (if_pos g).symm⟩, trivial⟩
      · rw [if_neg g, bd1_mk]; exact Sx.mk ⟨Or.inr ⟨d, hd, least, (if_neg g).symm⟩, trivial⟩
