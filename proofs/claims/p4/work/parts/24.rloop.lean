/-! pure: the reference's loops over its states (own rows) -/
theorem p34 {bs : Nat → Int32} {pe : Nat → Int64} {k T p q R : Nat} {β : Nat → Nat} {π : Nat → Nat → Nat} (hb : RB bs k β) (hK : BK β) (hp : PK π) (hP : RP pe T π) (hN : NK T p q R) {t0 j0 u0 : Nat} (ht : t0 ≤ T) (hj : j0 ≤ t0) (hu : u0 < 2) : ∀ (i n m0 : Nat) (wo ho : Nat → Int64) (ac : Nat → Int32), 8 ≤ m0 + 2 * i → m0 ≤ 9 → m0 % 2 = hiF β (π t0 j0) → GD π T p q R β (LD t0 j0 u0 m0) wo ho ac → Sx (lpX9_plays_34 (nI k) (nI t0) (nI j0) (nI u0) bs (nI T) (nI p) (nI q) (nI R) pe (n + i + 1) (nI m0) wo ho ac) (fun z => GD π T p q R β (LD t0 j0 (u0 + 1) 0) z.1 z.2.1 z.2.2) := by
  intro i
  induction i with
  | zero =>
    intro n m0 wo ho ac h8 h9 hm hg
    rw [lpX9_plays_34.eq_2]
    refine Sx.p (show (8 : Int32) ≤ nI m0 from nI_le (a := 8) (by omega) (by omega)) (Sx.mk (hg.sub ?_))
    intro t j u m a b c
    omega
  | succ i ih =>
    intro n m0 wo ho ac h8 h9 hm hg
    rw [lpX9_plays_34.eq_2]
    by_cases hm8 : 8 ≤ m0
    · refine Sx.p (show (8 : Int32) ≤ nI m0 from nI_le (a := 8) (by omega) (by omega)) (Sx.mk (hg.sub ?_))
      intro t j u m a b c
      omega
    · refine Sx.n (show ¬ (8 : Int32) ≤ nI m0 from nI_ge (b := 8) (by omega) (by omega)) ?_
      refine Sx.e1 (st9 t0 (by omega) j0 (by omega) u0 hu) ?_
      by_cases hs : (t0 = 0 → u0 = 0) ∧ (u0 = 1 → 0 < j0 ∨ t0 = 0) ∧ (t0 = 0 ∨ u0 = 1 ∨ j0 < t0)
      · rw [if_pos hs, if_neg one0]
        have hok : okS t0 j0 u0 := by
          obtain ⟨s1, s2, s3⟩ := hs
          refine ⟨hj, hu, s1, ?_, ?_⟩
          · intro e; rcases s2 e with h | h
            · exact h
            · have := s1 h; omega
          · intro a b; omega
        have hstep : Sx (if nI t0 = nI T then bd3 (fX9_laysEnd (nI k) (nI j0) (nI u0) (nI m0) bs (nI T) pe wo ho ac) (fun x y z => some (x, y, z)) else bd3 (fX9_laysState (nI k) (nI t0) (nI j0) (nI u0) (nI m0) bs (nI T) (nI p) (nI q) (nI R) pe wo ho ac) (fun x y z => some (x, y, z))) (fun z => GD π T p q R β (LD t0 j0 u0 (m0 + 2)) z.1 z.2.1 z.2.2) := by
          have hD : ∀ t j u m, t ≤ T → okM π β t j u m → LD t0 j0 u0 (m0 + 2) t j u m → LD t0 j0 u0 m0 t j u m ∨ (t = t0 ∧ j = j0 ∧ u = u0 ∧ m = m0) := by
            intro t j u m a b c
            by_cases e : t = t0 ∧ j = j0 ∧ u = u0
            · obtain ⟨rfl, rfl, rfl⟩ := e
              have := b.2.2
              omega
            · omega
          by_cases hT : t0 = T
          · subst hT
            refine Sx.p rfl (Sx.e3 (en9 hb hK hp hP hN.1.2 (by omega) hok) (Sx.mk ?_))
            refine hg.up hN.1.2 (Nat.le_refl _) hok (by omega) hD ?_ ?_ ?_
            · rw [Nat.sub_self]; rfl
            · unfold hoS; rw [if_pos rfl]
            · unfold acS; rw [if_pos rfl]
          · have hlt : t0 < T := by omega
            have g1 := hg (t0 + 1) (j0 + 1) 1 (mkF π β m0 (t0 + 1) (j0 + 1)) (by omega) ⟨by omega, mkF_lt _ _ _ _ _, mkF_2 _ _ _ _ _⟩ (by omega)
            have g0 := hg (t0 + 1) j0 0 (mkF π β m0 (t0 + 1) j0) (by omega) ⟨by omega, mkF_lt _ _ _ _ _, mkF_2 _ _ _ _ _⟩ (by omega)
            have hl : T - (t0 + 1) ≤ 6 := by omega
            refine Sx.n (fun e => hT ((nI_eq (by omega) (by omega)).mp e)) (Sx.e3 (ls9 hb hK hp hP hN (by omega) hok hlt g1.1 g0.1 (vG_b hp hK hN (bV_SK hp hK) hl _ _ _) (vG_b hp hK hN (bV_SK hp hK) hl _ _ _)) (Sx.mk ?_))
            obtain ⟨n', hn'⟩ : ∃ n', T - t0 = n' + 1 := ⟨T - t0 - 1, by omega⟩
            have hn2 : T - (t0 + 1) = n' := by omega
            have ht1 : t0 + 1 = T - n' := by omega
            have ht2 : T - (n' + 1) = t0 := by omega
            refine hg.up hN.1.2 ht hok (by omega) hD ?_ ?_ ?_
            · rw [hn', hn2, ht1, vG_s, ht2]; rfl
            · unfold hoS; rw [if_neg hT, hn', hn2, ht1]; rfl
            · unfold acS; rw [if_neg hT, hn', hn2, ht1]; rfl
        refine Sx.b3 hstep ?_
        intro a0 a1 a2 hq
        rw [nm_mk, i_2, nI_add]
        have := ih n (m0 + 2) a0 a1 a2 (by omega) (by omega) (by omega) hq
        rwa [show n + (i + 1) = n + i + 1 by omega]
      · rw [if_neg hs, if_pos rfl]
        refine Sx.mk (hg.sub ?_)
        intro t j u m a b c
        by_cases e : t = t0 ∧ j = j0 ∧ u = u0
        · obtain ⟨rfl, rfl, rfl⟩ := e
          exact absurd (by omega) hs
        · omega
theorem p19 {bs : Nat → Int32} {pe : Nat → Int64} {k T p q R : Nat} {β : Nat → Nat} {π : Nat → Nat → Nat} (hb : RB bs k β) (hK : BK β) (hp : PK π) (hP : RP pe T π) (hN : NK T p q R) {t0 j0 : Nat} (ht : t0 ≤ T) (hj : j0 ≤ t0) : ∀ (i n u0 : Nat) (wo ho : Nat → Int64) (ac : Nat → Int32), u0 + i = 2 → GD π T p q R β (LD t0 j0 u0 0) wo ho ac → Sx (lpX9_plays_19 (nI k) (nI t0) (nI j0) bs (nI T) (nI p) (nI q) (nI R) pe (n + i + 1) (nI u0) wo ho ac) (fun z => GD π T p q R β (LD t0 (j0 + 1) 0 0) z.1 z.2.1 z.2.2) := by
  intro i
  induction i with
  | zero =>
    intro n u0 wo ho ac hi hg
    rw [lpX9_plays_19.eq_2]
    refine Sx.p (show (2 : Int32) ≤ nI u0 from nI_le (a := 2) (by omega) (by omega)) (Sx.mk (hg.sub ?_))
    intro t j u m a b c
    omega
  | succ i ih =>
    intro n u0 wo ho ac hi hg
    rw [lpX9_plays_19.eq_2]
    refine Sx.n (show ¬ (2 : Int32) ≤ nI u0 from nI_ge (b := 2) (by omega) (by omega)) ?_
    refine Sx.e1 (hi9 hb hK hp hP hN.1.2 hj ht) ?_
    have hh := hiF_lt β (π t0 j0)
    obtain ⟨n', hn'⟩ := fuN 5 (by omega)
    rw [hn']
    refine Sx.b3 (p34 hb hK hp hP hN ht hj (by omega) 4 n' (hiF β (π t0 j0)) wo ho ac (by omega) (by omega) (by omega) (hg.sub ?_)) ?_
    · intro t j u m a b c
      by_cases e : t = t0 ∧ j = j0 ∧ u = u0
      · obtain ⟨rfl, rfl, rfl⟩ := e
        have := b.2.2
        omega
      · omega
    · intro a0 a1 a2 hq
      rw [nm_mk, nI_1]
      have := ih n (u0 + 1) a0 a1 a2 (by omega) hq
      rwa [show n + (i + 1) = n + i + 1 by omega]
theorem p11 {bs : Nat → Int32} {pe : Nat → Int64} {k T p q R : Nat} {β : Nat → Nat} {π : Nat → Nat → Nat} (hb : RB bs k β) (hK : BK β) (hp : PK π) (hP : RP pe T π) (hN : NK T p q R) {t0 : Nat} (ht : t0 ≤ T) : ∀ (i n j0 : Nat) (wo ho : Nat → Int64) (ac : Nat → Int32), j0 + i = t0 + 1 → GD π T p q R β (LD t0 j0 0 0) wo ho ac → Sx (lpX9_plays_11 (nI k) (nI t0) bs (nI T) (nI p) (nI q) (nI R) pe (n + i + 1) (nI j0) wo ho ac) (fun z => GD π T p q R β (fun t _ _ _ => t0 ≤ t) z.1 z.2.1 z.2.2) := by
  intro i
  induction i with
  | zero =>
    intro n j0 wo ho ac hi hg
    rw [lpX9_plays_11.eq_2]
    refine Sx.p (nI_lt (by omega) (by omega)) (Sx.mk (hg.sub ?_))
    intro t j u m a b c
    omega
  | succ i ih =>
    intro n j0 wo ho ac hi hg
    rw [lpX9_plays_11.eq_2]
    refine Sx.n (nI_nlt (by omega) (by omega)) ?_
    obtain ⟨n', hn'⟩ := fuN 3 (by omega)
    rw [hn', i_0]
    refine Sx.b3 (p19 hb hK hp hP hN ht (by omega) 2 n' 0 wo ho ac (by omega) hg) ?_
    intro a0 a1 a2 hq
    rw [nm_mk, nI_1]
    have := ih n (j0 + 1) a0 a1 a2 (by omega) hq
    rwa [show n + (i + 1) = n + i + 1 by omega]
theorem p5 {bs : Nat → Int32} {pe : Nat → Int64} {k T p q R : Nat} {β : Nat → Nat} {π : Nat → Nat → Nat} (hb : RB bs k β) (hK : BK β) (hp : PK π) (hP : RP pe T π) (hN : NK T p q R) : ∀ (t0 n : Nat) (wo ho : Nat → Int64) (ac : Nat → Int32), t0 ≤ T → GD π T p q R β (fun t _ _ _ => t0 < t) wo ho ac → Sx (lpX9_plays_5 (nI k) bs (nI T) (nI p) (nI q) (nI R) pe (n + t0 + 2) (nI t0) wo ho ac) (fun z => GD π T p q R β (fun _ _ _ _ => True) z.1 z.2.1 z.2.2) := by
  intro t0
  induction t0 with
  | zero =>
    intro n wo ho ac ht hg
    rw [show n + 0 + 2 = (n + 1) + 1 by omega, lpX9_plays_5.eq_2]
    refine Sx.n (nI_pos (by omega)) ?_
    obtain ⟨n', hn'⟩ := fuN 2 (by omega)
    rw [hn', i_0]
    refine Sx.b3 (p11 hb hK hp hP hN ht 1 n' 0 wo ho ac (by omega) (hg.sub (by intro t j u m a b c; omega))) ?_
    intro a0 a1 a2 hq
    rw [nm_mk, lpX9_plays_5.eq_2]
    refine Sx.p (by decide) (Sx.mk (hq.sub ?_))
    intro t j u m a b c
    exact Nat.zero_le _
  | succ t0 ih =>
    intro n wo ho ac ht hg
    rw [show n + (t0 + 1) + 2 = (n + t0 + 2) + 1 by omega, lpX9_plays_5.eq_2]
    refine Sx.n (nI_pos (by omega)) ?_
    obtain ⟨n', hn'⟩ := fuN (t0 + 3) (by omega)
    rw [hn', i_0]
    refine Sx.b3 (p11 hb hK hp hP hN ht (t0 + 2) n' 0 wo ho ac (by omega) (hg.sub (by intro t j u m a b c; omega))) ?_
    intro a0 a1 a2 hq
    rw [nm_mk, pk_m1]
    exact ih n a0 a1 a2 (by omega) (hq.sub (by intro t j u m a b c; omega))
theorem pl9 {bs : Nat → Int32} {pe : Nat → Int64} {k T p q R : Nat} {β : Nat → Nat} {π : Nat → Nat → Nat} (hb : RB bs k β) (hK : BK β) (hp : PK π) (hP : RP pe T π) (hN : NK T p q R) (wo ho : Nat → Int64) (ac : Nat → Int32) : Sx (fX9_plays (nI k) bs (nI T) (nI p) (nI q) (nI R) pe wo ho ac) (fun z => GD π T p q R β (fun _ _ _ _ => True) z.1 z.2.1 z.2.2) := by
  unfold fX9_plays
  obtain ⟨n', hn'⟩ := fuN (T + 2) (by omega)
  rw [hn']
  refine Sx.b3 (p5 hb hK hp hP hN T n' wo ho ac (Nat.le_refl T) ?_) (fun a0 a1 a2 hq => Sx.mk hq)
  intro t j u m a b c
  omega
/-- prices -/
def prF (τ : Nat → Nat) (s t j : Nat) : Nat := if j ≤ t ∧ t ≤ 6 then 100 * (s * τ 2 ^ j * τ 4 ^ (t - j)) / (τ 3 ^ j * τ 5 ^ (t - j)) else 0
abbrev TK (τ : Nat → Nat) : Prop := (1 ≤ τ 0 ∧ τ 0 ≤ 6) ∧ (1 ≤ τ 1 ∧ τ 1 ≤ 1000) ∧ ((1 ≤ τ 2 ∧ τ 2 ≤ 20) ∧ (1 ≤ τ 3 ∧ τ 3 ≤ 20) ∧ (1 ≤ τ 4 ∧ τ 4 ≤ 20) ∧ (1 ≤ τ 5 ∧ τ 5 ≤ 20)) ∧ (1 ≤ τ 6 ∧ τ 6 < τ 7 ∧ τ 7 ≤ 20) ∧ τ 8 ≤ 200
abbrev TR (f : Nat → Int32) (o : Nat) (τ : Nat → Nat) : Prop := ∀ i, i < 9 → f (o + i) = nI (τ i)
theorem pw_le {a n : Nat} (h : a ≤ 20) : a ^ n ≤ 20 ^ n := Nat.pow_le_pow_left h n
theorem pw_pos {a n : Nat} (h : 1 ≤ a) : 1 ≤ a ^ n := Nat.pow_pos h
theorem pw2 {a c j t : Nat} (ha : a ≤ 20) (hc : c ≤ 20) (hj : j ≤ t) (ht : t ≤ 6) : a ^ j * c ^ (t - j) ≤ 64000000 := by
  have h := Nat.mul_le_mul (pw_le ha (n := j)) (pw_le hc (n := t - j))
  rw [← Nat.pow_add, Nat.add_sub_cancel' hj] at h
  exact Nat.le_trans h (Nat.pow_le_pow_right (by omega) ht)
theorem pt_le {τ : Nat → Nat} (hT : TK τ) {s j t : Nat} (hs : s ≤ 1000) (hj : j ≤ t) (ht : t ≤ 6) : s * τ 2 ^ j * τ 4 ^ (t - j) ≤ 64000000000 := by
  rw [Nat.mul_assoc]
  exact Nat.mul_le_mul hs (pw2 (by omega) (by omega) hj ht)
theorem pb_le {τ : Nat → Nat} (hT : TK τ) {j t : Nat} (hj : j ≤ t) (ht : t ≤ 6) : τ 3 ^ j * τ 5 ^ (t - j) ≤ 64000000 := pw2 (by omega) (by omega) hj ht
theorem pb_pos {τ : Nat → Nat} (hT : TK τ) (j t : Nat) : 0 < τ 3 ^ j * τ 5 ^ (t - j) := Nat.mul_pos (pw_pos (by omega)) (pw_pos (by omega))
theorem prF_PK {τ : Nat → Nat} (hT : TK τ) {s : Nat} (hs : s ≤ 1000) : PK (prF τ s) := by
  intro t j
  unfold prF
  split
  · rename_i h
    have := pt_le hT hs h.1 h.2
    exact Nat.le_trans (Nat.div_le_self _ _) (by omega)
  · omega
theorem pr20 {f : Nat → Int32} {o : Nat} {τ : Nat → Nat} (hf : TR f o τ) (ho : o ≤ 9) {t j s : Nat} (ht : t ≤ 6) (hj : j ≤ t) (hs : s ≤ 1000) (hT : TK τ) : ∀ (i n k : Nat), k + i = t → lpX9_prices_20 (nI t) (nI j) (nI o) f (n + i + 1) (nI k) (lN (s * τ 2 ^ (min k j) * τ 4 ^ (k - j))) (lN (τ 3 ^ (min k j) * τ 5 ^ (k - j))) = some (lN (s * τ 2 ^ j * τ 4 ^ (t - j)), lN (τ 3 ^ j * τ 5 ^ (t - j))) := by
  intro i
  induction i with
  | zero =>
    intro n k hk
    rw [lpX9_prices_20.eq_2, if_pos (nI_le (by omega) (by omega)), show k = t by omega, Nat.min_eq_right hj]
  | succ i ih =>
    intro n k hk
    rw [lpX9_prices_20.eq_2, if_neg (nI_ge (by omega) (by omega))]
    by_cases h : j ≤ k
    · rw [if_pos (nI_le h (by omega)), bd1_mk, i_4, nI_add, og32 (by omega) (by omega), nm_mk, bd1_mk, nI_add, nI_1, og32 (by omega) (by omega), nm_mk, nm_mk, nI_clamp (by omega), nI_clamp (by omega), show o + 4 + 1 = o + 5 by omega, hf 4 (by omega), hf 5 (by omega), nI_l (by omega), nI_l (by omega), lN_mul, lN_mul, nI_1]
      have := ih n (k + 1) (by omega)
      rw [show n + (i + 1) = n + i + 1 by omega, ← this]
      congr 2
      · rw [Nat.min_eq_right h, Nat.min_eq_right (by omega), show k + 1 - j = (k - j) + 1 by omega, Nat.pow_succ, Nat.mul_assoc]
      · rw [Nat.min_eq_right h, Nat.min_eq_right (by omega), show k + 1 - j = (k - j) + 1 by omega, Nat.pow_succ, Nat.mul_assoc]
    · rw [if_neg (nI_ge (by omega) (by omega)), bd1_mk, i_2, nI_add, og32 (by omega) (by omega), nm_mk, bd1_mk, nI_add, nI_1, og32 (by omega) (by omega), nm_mk, nm_mk, nI_clamp (by omega), nI_clamp (by omega), show o + 2 + 1 = o + 3 by omega, hf 2 (by omega), hf 3 (by omega), nI_l (by omega), nI_l (by omega), lN_mul, lN_mul, nI_1]
      have := ih n (k + 1) (by omega)
      rw [show n + (i + 1) = n + i + 1 by omega, ← this]
      congr 2
      · rw [Nat.min_eq_left (by omega), Nat.min_eq_left (by omega), show k + 1 - j = 0 by omega, show k - j = 0 by omega, Nat.pow_succ, Nat.pow_zero, Nat.mul_one, Nat.mul_one, Nat.mul_assoc]
      · rw [Nat.min_eq_left (by omega), Nat.min_eq_left (by omega), show k + 1 - j = 0 by omega, show k - j = 0 by omega, Nat.pow_succ, Nat.pow_zero, Nat.mul_one, Nat.mul_one]
theorem pr9 {f : Nat → Int32} {w : Nat} {τ : Nat → Nat} (hf : TR f (9 * w) τ) (hw : w ≤ 1) {t j s : Nat} (ht : t ≤ 6) (hj : j ≤ t) (hs : s ≤ 1000) (hT : TK τ) (a b : Int64) : fX9_prices (nI w) (nI s) (nI t) (nI j) f a b = some (lN (s * τ 2 ^ j * τ 4 ^ (t - j)), lN (τ 3 ^ j * τ 5 ^ (t - j))) := by
  unfold fX9_prices
  obtain ⟨n', hn'⟩ := fuN (t + 1) (by omega)
  have := pr20 hf (by omega) ht hj hs hT t n' 0 (by omega)
  rw [show s * τ 2 ^ (min 0 j) * τ 4 ^ (0 - j) = s by rw [Nat.zero_min, Nat.zero_sub, Nat.pow_zero, Nat.pow_zero, Nat.mul_one, Nat.mul_one], show τ 3 ^ (min 0 j) * τ 5 ^ (0 - j) = 1 by rw [Nat.zero_min, Nat.zero_sub, Nat.pow_zero, Nat.pow_zero]] at this
  rw [nm_mk, nm_mk, i_9, pk_mul, nI_l (by omega), hn', i_0, l_1]
  rw [show n' + (t + 1) = n' + t + 1 by omega, this, bd2_mk]
theorem tk76 {f : Nat → Int32} {w : Nat} {τ : Nat → Nat} (hf : TR f (9 * w) τ) (hw : w ≤ 1) {t s : Nat} (ht : t ≤ 6) (hs : s ≤ 1000) (hT : TK τ) : ∀ (i n j : Nat) (pe : Nat → Int64) (a b : Int64), j + i = t + 1 → (∀ x y, y ≤ x → (x < t ∨ (x = t ∧ y < j)) → pe (7 * x + y) = lN (prF τ s x y)) → Sx (lpX9_takesTree_76 (nI w) (nI s) (nI t) f (n + i + 1) (nI j) pe a b) (fun z => ∀ x y, y ≤ x → x ≤ t → z.1 (7 * x + y) = lN (prF τ s x y)) := by
  intro i
  induction i with
  | zero =>
    intro n j pe a b hi hg
    rw [lpX9_takesTree_76.eq_2]
    refine Sx.p (nI_lt (by omega) (by omega)) (Sx.mk ?_)
    intro x y h1 h2
    exact hg x y h1 (by omega)
  | succ i ih =>
    intro n j pe a b hi hg
    rw [lpX9_takesTree_76.eq_2]
    refine Sx.n (nI_nlt (by omega) (by omega)) ?_
    refine Sx.e2 (pr9 hf hw ht (by omega) hs hT a b) ?_
    have h1 := pt_le hT hs (show j ≤ t by omega) ht
    have h2 := pb_le hT (show j ≤ t by omega) ht
    have h3 := pb_pos hT j t
    refine Sx.og (by unfold nzL; rw [l_0, decide_eq_false (fun h => by rw [pk_lEQ (by omega) (by omega)] at h; omega)]; rfl) ?_
    rw [i_7, pk_mul, nI_add, og32 (by omega) (by omega), nm_mk, nm_mk, nI_clamp (by omega), l_100, lN_mul, pk_lDiv (by omega) h3 (by omega), nI_1, show n + (i + 1) = n + i + 1 by omega]
    refine ih n (j + 1) _ _ _ (by omega) ?_
    intro x y g1 g2
    rw [upL]
    by_cases e : 7 * x + y = 7 * t + j
    · have ex : x = t := by omega
      have ey : y = j := by omega
      subst ex; subst ey
      rw [if_pos rfl]
      unfold prF
      rw [if_pos ⟨g1, ht⟩]
    · rw [if_neg e]
      exact hg x y g1 (by omega)
theorem tk65 {f : Nat → Int32} {w : Nat} {τ : Nat → Nat} (hf : TR f (9 * w) τ) (hw : w ≤ 1) {T s : Nat} (ht : T ≤ 6) (hs : s ≤ 1000) (hT : TK τ) : ∀ (i n t : Nat) (pe : Nat → Int64) (a b : Int64), t + i = T + 1 → (∀ x y, y ≤ x → x < t → pe (7 * x + y) = lN (prF τ s x y)) → Sx (lpX9_takesTree_65 (nI w) (nI s) f (nI T) (n + i + 1) (nI t) pe a b) (fun z => RP z.1 T (prF τ s)) := by
  intro i
  induction i with
  | zero =>
    intro n t pe a b hi hg
    rw [lpX9_takesTree_65.eq_2]
    refine Sx.p (nI_lt (by omega) (by omega)) (Sx.mk ?_)
    intro x y h1 h2
    exact hg x y h1 (by omega)
  | succ i ih =>
    intro n t pe a b hi hg
    rw [lpX9_takesTree_65.eq_2]
    refine Sx.n (nI_nlt (by omega) (by omega)) ?_
    obtain ⟨n', hn'⟩ := fuN (t + 2) (by omega)
    rw [hn', i_0]
    refine Sx.b3 (tk76 hf hw (by omega) hs hT (t + 1) n' 0 pe a b (by omega) (fun x y g1 g2 => hg x y g1 (by omega))) ?_
    intro a0 a1 a2 hq
    rw [nm_mk, nI_1, show n + (i + 1) = n + i + 1 by omega]
    exact ih n (t + 1) _ _ _ (by omega) (fun x y g1 g2 => hq x y g1 (by omega))
theorem tt9 {f : Nat → Int32} {w : Nat} {τ : Nat → Nat} (hf : TR f (9 * w) τ) (hw : w ≤ 1) {s : Nat} (hs : s ≤ 1000) (hT : TK τ) (x0 x1 x2 x3 : Int32) (pe : Nat → Int64) (a b : Int64) : Sx (fX9_takesTree (nI w) (nI s) f x0 x1 x2 x3 pe a b) (fun z => z.1 = nI (τ 0) ∧ z.2.1 = nI (τ 6) ∧ z.2.2.1 = nI (τ 7) ∧ z.2.2.2.1 = nI (τ 8) ∧ RP z.2.2.2.2.1 (τ 0) (prF τ s)) := by
  unfold fX9_takesTree
  rw [i_9, pk_mul, i_0, nI_add, i_6, nI_add, i_7, nI_add, i_8, nI_add, og32 (by omega) (by omega), nm_mk, og32 (by omega) (by omega), nm_mk, og32 (by omega) (by omega), nm_mk, og32 (by omega) (by omega), nm_mk, nI_clamp (by omega), nI_clamp (by omega), nI_clamp (by omega), nI_clamp (by omega), hf 0 (by omega), hf 6 (by omega), hf 7 (by omega), hf 8 (by omega)]
  obtain ⟨n', hn'⟩ := fuN (τ 0 + 2) (by omega)
  rw [hn']
  refine Sx.b3 (tk65 hf hw (by omega) hs hT (τ 0 + 1) n' 0 pe a b (by omega) (fun x y _ h => absurd h (by omega))) ?_
  intro a0 a1 a2 hq
  exact Sx.mk ⟨rfl, rfl, rfl, rfl, hq⟩
