/-! pure: the reference's ways, all; ways by rows (own rows) -/
theorem w53 {bs : Nat → Int32} {pe : Nat → Int64} {k T p q R : Nat} {β : Nat → Nat} {π : Nat → Nat → Nat} (hb : RB bs k β) (hK : BK β) (hp : PK π) (hP : RP pe T π) (hN : NK T p q R) {ac : Nat → Int32} (hA : ∀ t j u m, t ≤ T → okM π β t j u m → ac (atN t j u m) = nI (acS π T p q R β t j u m) ∧ acS π T p q R β t j u m ≤ 6) {t j : Nat} (ht : t < T) (hj : j ≤ t) : ∀ (i n u : Nat) (way : Nat → Int64), u + i = 2 → WI π T p q R β t ((j * 2 + u) * 8) way → Sx (lpX9_laysWays_53 (nI k) (nI t) (nI j) bs (nI p) (nI q) pe ac (n + i + 1) (nI u) way) (fun z => WI π T p q R β t ((j + 1) * 16) z) := by
  intro i
  induction i with
  | zero =>
    intro n u way hi hw
    rw [lpX9_laysWays_53.eq_2]
    refine Sx.p (show (2 : Int32) ≤ nI u from nI_le (a := 2) (by omega) (by omega)) (Sx.mk ?_)
    rw [show (j * 2 + u) * 8 = (j + 1) * 16 by omega] at hw
    exact hw
  | succ i ih =>
    intro n u way hi hw
    rw [lpX9_laysWays_53.eq_2]
    refine Sx.n (show ¬ (2 : Int32) ≤ nI u from nI_ge (b := 2) (by omega) (by omega)) ?_
    obtain ⟨n', hn'⟩ := fuN 9 (by omega)
    rw [hn', i_0]
    refine Sx.b1 (w62 hb hK hp hP hN hA ht hj (show u < 2 by omega) 8 n' 0 way (by omega) hw) ?_
    intro z hz
    rw [nm_mk, nI_1, show n + (i + 1) = n + i + 1 by omega]
    refine ih n (u + 1) z (by omega) ?_
    rw [show (j * 2 + (u + 1)) * 8 = (j * 2 + u) * 8 + 8 by omega]
    exact hz
theorem w45 {bs : Nat → Int32} {pe : Nat → Int64} {k T p q R : Nat} {β : Nat → Nat} {π : Nat → Nat → Nat} (hb : RB bs k β) (hK : BK β) (hp : PK π) (hP : RP pe T π) (hN : NK T p q R) {ac : Nat → Int32} (hA : ∀ t j u m, t ≤ T → okM π β t j u m → ac (atN t j u m) = nI (acS π T p q R β t j u m) ∧ acS π T p q R β t j u m ≤ 6) {t : Nat} (ht : t < T) : ∀ (i n j : Nat) (way : Nat → Int64), j + i = t + 1 → WI π T p q R β t (j * 16) way → Sx (lpX9_laysWays_45 (nI k) (nI t) bs (nI p) (nI q) pe ac (n + i + 1) (nI j) way) (fun z => WI π T p q R β t (16 * (t + 1)) z) := by
  intro i
  induction i with
  | zero =>
    intro n j way hi hw
    rw [lpX9_laysWays_45.eq_2]
    refine Sx.p (nI_lt (by omega) (by omega)) (Sx.mk ?_)
    rw [show j * 16 = 16 * (t + 1) by omega] at hw
    exact hw
  | succ i ih =>
    intro n j way hi hw
    rw [lpX9_laysWays_45.eq_2]
    refine Sx.n (nI_nlt (by omega) (by omega)) ?_
    obtain ⟨n', hn'⟩ := fuN 3 (by omega)
    rw [hn', i_0]
    refine Sx.b1 (w53 hb hK hp hP hN hA ht (show j ≤ t by omega) 2 n' 0 way (by omega) (by rw [show (j * 2 + 0) * 8 = j * 16 by omega]; exact hw)) ?_
    intro z hz
    rw [nm_mk, nI_1, show n + (i + 1) = n + i + 1 by omega]
    exact ih n (j + 1) z (by omega) hz
theorem WI.nxt {π : Nat → Nat → Nat} {T p q R : Nat} {β : Nat → Nat} {t : Nat} {way : Nat → Int64} (ht : t < 6) (h : WI π T p q R β t (16 * (t + 1)) way) : WI π T p q R β (t + 1) 0 way := by
  refine ⟨fun s x h1 h2 => ?_, fun s x h1 h2 h3 => ?_⟩
  · by_cases e : s = t + 1
    · subst e
      rw [h.2 (t + 1) x (by omega) (by omega) h2, if_pos rfl]
      congr 1
      refine (sm_tail (by omega) (fun i g1 g2 => ?_)).symm
      refine ctb_0 (Or.inl ?_)
      by_cases g : wy π T p q R β t i = 0
      · exact g
      · have := wy_lt g
        omega
    · exact h.1 s x (by omega) h2
  · rw [h.2 s x (by omega) h2 h3, if_neg (by omega)]
    split <;> rfl
theorem w35 {bs : Nat → Int32} {pe : Nat → Int64} {k T p q R : Nat} {β : Nat → Nat} {π : Nat → Nat → Nat} (hb : RB bs k β) (hK : BK β) (hp : PK π) (hP : RP pe T π) (hN : NK T p q R) {ac : Nat → Int32} (hA : ∀ t j u m, t ≤ T → okM π β t j u m → ac (atN t j u m) = nI (acS π T p q R β t j u m) ∧ acS π T p q R β t j u m ≤ 6) : ∀ (i n t : Nat) (way : Nat → Int64), t + i = T → WI π T p q R β t 0 way → Sx (lpX9_laysWays_35 (nI k) bs (nI T) (nI p) (nI q) pe ac (n + i + 1) (nI t) way) (fun z => WI π T p q R β T 0 z) := by
  intro i
  induction i with
  | zero =>
    intro n t way hi hw
    rw [lpX9_laysWays_35.eq_2]
    refine Sx.p (nI_le (by omega) (by omega)) (Sx.mk ?_)
    rw [show t = T by omega] at hw
    exact hw
  | succ i ih =>
    intro n t way hi hw
    rw [lpX9_laysWays_35.eq_2]
    refine Sx.n (nI_ge (by omega) (by omega)) ?_
    obtain ⟨n', hn'⟩ := fuN (t + 2) (by omega)
    rw [hn', i_0]
    refine Sx.b1 (w45 hb hK hp hP hN hA (show t < T by omega) (t + 1) n' 0 way (by omega) (by rw [Nat.zero_mul]; exact hw)) ?_
    intro z hz
    rw [nm_mk, nI_1, show n + (i + 1) = n + i + 1 by omega]
    exact ih n (t + 1) z (by omega) (hz.nxt (by omega))
theorem w2 (k : Int32) : ∀ (i n x : Nat) (way : Nat → Int64), x + i = 784 → (∀ y, y < x → way y = 0) → Sx (lpX9_laysWays_2 k (n + i + 1) (nI x) way) (fun z => ∀ y, y < 784 → z y = 0) := by
  intro i
  induction i with
  | zero =>
    intro n x way hi hg
    rw [lpX9_laysWays_2.eq_2]
    exact Sx.p (show (784 : Int32) ≤ nI x from nI_le (a := 784) (by omega) (by omega)) (Sx.mk (fun y hy => hg y (by omega)))
  | succ i ih =>
    intro n x way hi hg
    rw [lpX9_laysWays_2.eq_2]
    refine Sx.n (show ¬ (784 : Int32) ≤ nI x from nI_ge (b := 784) (by omega) (by omega)) ?_
    rw [og32 (by omega) (by omega), nm_mk, nm_mk, nI_clamp (by omega), nI_1, show n + (i + 1) = n + i + 1 by omega]
    refine ih n (x + 1) _ (by omega) ?_
    intro y hy
    rw [upL]
    by_cases e : y = x
    · rw [if_pos e]
    · rw [if_neg e]; exact hg y (by omega)
/-- all ways -/
def WW (π : Nat → Nat → Nat) (T p q R : Nat) (β : Nat → Nat) (way : Nat → Int64) : Prop := ∀ s x, s < 7 → x < 112 → way (112 * s + x) = lN (if s ≤ T then wy π T p q R β s x else 0)
theorem lw9 {bs : Nat → Int32} {pe : Nat → Int64} {k T p q R : Nat} {β : Nat → Nat} {π : Nat → Nat → Nat} (hb : RB bs k β) (hK : BK β) (hp : PK π) (hP : RP pe T π) (hN : NK T p q R) {ac : Nat → Int32} (hA : ∀ t j u m, t ≤ T → okM π β t j u m → ac (atN t j u m) = nI (acS π T p q R β t j u m) ∧ acS π T p q R β t j u m ≤ 6) (way : Nat → Int64) : Sx (fX9_laysWays (nI k) bs (nI T) (nI p) (nI q) pe way ac) (fun z => WW π T p q R β z) := by
  unfold fX9_laysWays
  obtain ⟨n1, hn1⟩ := fuN 785 (by omega)
  obtain ⟨n2, hn2⟩ := fuN (T + 1) (by omega)
  refine Sx.b1 (P := fun z => ∀ y, y < 784 → z y = 0) (by rw [hn1, i_0]; exact w2 (nI k) 784 n1 0 way (by omega) (fun y hy => absurd hy (by omega))) ?_
  intro w hw
  have hl := hiF_lt β (π 0 0)
  have e0 : atN 0 0 0 (hiF β (π 0 0)) = hiF β (π 0 0) := by unfold atN; omega
  refine Sx.e1 (be9 hb hK hp hP hN.1.2) ?_
  rw [e0, og32 (by omega) (by omega), nm_mk, nI_clamp (by omega), hn2, i_0, show n2 + (T + 1) = n2 + T + 1 by omega]
  refine Sx.b1 (w35 hb hK hp hP hN hA T n2 0 _ (by omega) ⟨fun s x h1 h2 => ?_, fun s x h1 h2 h3 => ?_⟩) (fun z hz => Sx.mk ?_)
  · have : s = 0 := by omega
    subst this
    rw [upL, Nat.mul_zero, Nat.zero_add]
    show _ = lN (if x = hiF β (π 0 0) then 1 else 0)
    by_cases e : x = hiF β (π 0 0)
    · rw [if_pos e, if_pos e]; rfl
    · rw [if_neg e, if_neg e, hw x (by omega)]; rfl
  · rw [upL, if_neg (by omega), hw _ (by omega)]
    split <;> rfl
  · intro s x h1 h2
    by_cases e : s ≤ T
    · rw [if_pos e]; exact hz.1 s x e h2
    · rw [if_neg e, hz.2 s x (by omega) h1 h2]
      split <;> rfl
/-- rows by their places among a day's states -/
def xR (π : Nat → Nat → Nat) (β : Nat → Nat) (r : Nat) : Nat := (uR r * 2 + bR r) * 8 + mR π β r
theorem xR_p (π : Nat → Nat → Nat) (β : Nat → Nat) {r : Nat} (h1 : 1 ≤ r) (h : r < 128) : xR π β r / 16 = uR r ∧ xR π β r / 8 % 2 = bR r ∧ xR π β r % 8 = mR π β r ∧ xR π β r < 112 := by
  obtain ⟨⟨b1, b2, b3⟩, b4, b5, b6⟩ := row_b1 r h h1
  have := mR_lt π β r
  unfold xR
  refine ⟨by omega, by omega, by omega, by omega⟩
theorem aT_x (π : Nat → Nat → Nat) (β : Nat → Nat) (r : Nat) : aT π β r = 112 * dR r + xR π β r := by unfold aT xR; rw [atN_x]
abbrev CT (A : Nat → Nat) (r : Nat) : Prop := ∀ i, i < dR r → A (pfx r i) = 0
theorem pf_s : ∀ r, r < 64 → 1 ≤ r → ∀ b, b < 2 → ∀ i, i < 7 → i ≤ dR r → pfx (2 * r + b) i = pfx r i := by decide +kernel
theorem CT_s {A : Nat → Nat} {r b : Nat} (h1 : 1 ≤ r) (h : r < 64) (hb : b < 2) : CT A (2 * r + b) ↔ CT A r ∧ A r = 0 := by
  obtain ⟨c1, _, _, _⟩ := row_s r h h1 b hb
  have hd := (row_b1 r (by omega) h1).1.1
  constructor
  · intro g
    refine ⟨fun i hi => ?_, ?_⟩
    · have := g i (by omega)
      rwa [pf_s r h h1 b hb i (by omega) (by omega)] at this
    · have := g (dR r) (by omega)
      rwa [pf_s r h h1 b hb (dR r) (by omega) (Nat.le_refl _), pfd] at this
  · intro g i hi
    rw [c1] at hi
    rw [pf_s r h h1 b hb i (by omega) (by omega)]
    by_cases e : i = dR r
    · rw [e, pfd]; exact g.2
    · exact g.1 i (by omega)
def cw (p q : Nat) (A : Nat → Nat) (r : Nat) : Nat := if CT A r then p ^ uR r * (q - p) ^ (dR r - uR r) else 0
theorem cw_1 {p q : Nat} {A : Nat → Nat} {r : Nat} (h1 : 1 ≤ r) (h : r < 64) : cw p q A (2 * r + 1) = if A r = 0 then cw p q A r * p else 0 := by
  obtain ⟨c1, c2, _, _⟩ := row_s r h h1 1 (by omega)
  have hu := (row_b1 r (by omega) h1).1.2.1
  have hs := CT_s (A := A) h1 h (show 1 < 2 by omega)
  unfold cw
  by_cases g : A r = 0
  · rw [if_pos g]
    by_cases g2 : CT A r
    · rw [if_pos g2, if_pos (hs.mpr ⟨g2, g⟩), c1, c2, Nat.pow_succ, show dR r + 1 - (uR r + 1) = dR r - uR r by omega, Nat.mul_right_comm]
    · rw [if_neg g2, if_neg (fun z => g2 (hs.mp z).1), Nat.zero_mul]
  · rw [if_neg g, if_neg (fun z => g (hs.mp z).2)]
theorem cw_0 {p q : Nat} {A : Nat → Nat} {r : Nat} (h1 : 1 ≤ r) (h : r < 64) : cw p q A (2 * r) = if A r = 0 then cw p q A r * (q - p) else 0 := by
  obtain ⟨c1, c2, _, _⟩ := row_s r h h1 0 (by omega)
  have hu := (row_b1 r (by omega) h1).1.2.1
  have hs := CT_s (A := A) h1 h (show 0 < 2 by omega)
  rw [Nat.add_zero] at c1 c2 hs
  unfold cw
  by_cases g : A r = 0
  · rw [if_pos g]
    by_cases g2 : CT A r
    · rw [if_pos g2, if_pos (hs.mpr ⟨g2, g⟩), c1, c2, Nat.add_zero, show dR r + 1 - uR r = (dR r - uR r) + 1 by omega, Nat.pow_succ, Nat.mul_assoc]
    · rw [if_neg g2, if_neg (fun z => g2 (hs.mp z).1), Nat.zero_mul]
  · rw [if_neg g, if_neg (fun z => g (hs.mp z).2)]
theorem AC_r (π : Nat → Nat → Nat) (T p q R : Nat) (β : Nat → Nat) {r : Nat} (h1 : 1 ≤ r) (h : r < 128) : AC π T p q R β (dR r) (xR π β r) = aR π T p q R β (bV π β) (bA π β) r := by
  obtain ⟨e1, e2, e3, _⟩ := xR_p π β h1 h
  unfold AC
  rw [e1, e2, e3]
  rfl
theorem nx_r (π : Nat → Nat → Nat) (β : Nat → Nat) {r b : Nat} (h1 : 1 ≤ r) (h : r < 64) (hb : b < 2) : nx π β (dR r) (xR π β r) b = xR π β (2 * r + b) := by
  obtain ⟨e1, e2, e3, _⟩ := xR_p π β h1 (show r < 128 by omega)
  obtain ⟨c1, c2, c3, _⟩ := row_s r h h1 b hb
  unfold nx
  rw [e1, e3]
  unfold xR
  rw [c2, c3, mR_s π β h1 h hb]
/-- sums over states are sums over rows -/
theorem wyE (π : Nat → Nat → Nat) (T p q R : Nat) (β : Nat → Nat) : ∀ t, t ≤ 6 → ∀ g : Nat → Nat, sm (fun x => wy π T p q R β t x * g x) 112 = sm (fun i => cw p q (aR π T p q R β (bV π β) (bA π β)) (2 ^ t + i) * g (xR π β (2 ^ t + i))) (2 ^ t) := by
  intro t
  induction t with
  | zero =>
    intro _ g
    have hl := hiF_lt β (π 0 0)
    have e : sm (fun x => wy π T p q R β 0 x * g x) 112 = sm (fun x => if hiF β (π 0 0) = x then g x else 0) 112 := by
      refine sm_congr 112 (fun x _ => ?_)
      show (if x = hiF β (π 0 0) then 1 else 0) * g x = _
      by_cases h : x = hiF β (π 0 0)
      · rw [if_pos h, if_pos h.symm, Nat.one_mul]
      · rw [if_neg h, if_neg (fun z => h z.symm), Nat.zero_mul]
    rw [e, sm_one (f := g), if_pos (by omega)]
    show _ = 0 + cw p q (aR π T p q R β (bV π β) (bA π β)) 1 * g (xR π β 1)
    have d1 : dR 1 = 0 := by decide +kernel
    have u1 : uR 1 = 0 := by decide +kernel
    have b1 : bR 1 = 0 := by decide +kernel
    unfold cw xR
    rw [if_pos (show CT (aR π T p q R β (bV π β) (bA π β)) 1 from fun i hi => absurd hi (by rw [d1]; omega)), d1, u1, b1, mR_1]
    simp
  | succ t ih =>
    intro ht g
    rw [wyF π T p q R β (by omega) g, ih (by omega), Nat.pow_succ, Nat.mul_comm (2 ^ t) 2, sm_two]
    refine sm_congr (2 ^ t) (fun i hi => ?_)
    have hb2 := p2b t (by omega)
    have h5 : 2 ^ t ≤ 32 := Nat.pow_le_pow_right (by omega) (show t ≤ 5 by omega)
    have hd := dR_eq (2 ^ t + i) (by omega) t (by omega) (by omega) (by omega)
    have r1 : 1 ≤ 2 ^ t + i := by omega
    have r6 : 2 ^ t + i < 64 := by omega
    have e0 : 2 * 2 ^ t + 2 * i = 2 * (2 ^ t + i) := by omega
    have e1 : 2 * 2 ^ t + (2 * i + 1) = 2 * (2 ^ t + i) + 1 := by omega
    rw [e0, e1, cw_0 r1 r6, cw_1 r1 r6]
    have a := AC_r π T p q R β r1 (show 2 ^ t + i < 128 by omega)
    have n1 := nx_r π β r1 r6 (show 1 < 2 by omega)
    have n0 := nx_r π β r1 r6 (show 0 < 2 by omega)
    rw [hd] at a n1 n0
    rw [Nat.add_zero] at n0
    rw [a, n1, n0]
    by_cases g0 : aR π T p q R β (bV π β) (bA π β) (2 ^ t + i) = 0
    · rw [if_pos g0, if_pos g0, if_pos g0, Nat.mul_add, Nat.mul_assoc, Nat.mul_assoc, Nat.add_comm]
    · rw [if_neg g0, if_neg g0, if_neg g0, Nat.mul_zero, Nat.zero_mul, Nat.zero_mul]
/-- a state that can be come to -/
theorem wy_in (π : Nat → Nat → Nat) {T p q R : Nat} (β : Nat → Nat) (hp : 1 ≤ p ∧ p < q) {t x : Nat} (ht : t ≤ 6) (hx : x < 112) : wy π T p q R β t x ≠ 0 ↔ ∃ i, i < 2 ^ t ∧ CT (aR π T p q R β (bV π β) (bA π β)) (2 ^ t + i) ∧ xR π β (2 ^ t + i) = x := by
  have hE := wyE π T p q R β t ht (fun y => if x = y then 1 else 0)
  have e1 : sm (fun y => wy π T p q R β t y * (if x = y then 1 else 0)) 112 = wy π T p q R β t x := by
    have : sm (fun y => wy π T p q R β t y * (if x = y then 1 else 0)) 112 = sm (fun y => if x = y then wy π T p q R β t y else 0) 112 := by
      refine sm_congr 112 (fun y _ => ?_)
      by_cases h : x = y
      · rw [if_pos h, if_pos h, Nat.mul_one]
      · rw [if_neg h, if_neg h, Nat.mul_zero]
    rw [this, sm_one (f := fun y => wy π T p q R β t y), if_pos hx]
  rw [e1] at hE
  rw [hE]
  constructor
  · intro h
    obtain ⟨i, hi, hc⟩ := sm_pos _ h
    by_cases g : x = xR π β (2 ^ t + i)
    · refine ⟨i, hi, ?_, g.symm⟩
      rw [if_pos g, Nat.mul_one] at hc
      unfold cw at hc
      by_cases g2 : CT (aR π T p q R β (bV π β) (bA π β)) (2 ^ t + i)
      · exact g2
      · rw [if_neg g2] at hc; exact absurd rfl hc
    · rw [if_neg g, Nat.mul_zero] at hc; exact absurd rfl hc
  · rintro ⟨i, hi, hc, rfl⟩
    have h1 := sm_mem (f := fun i' => cw p q (aR π T p q R β (bV π β) (bA π β)) (2 ^ t + i') * (if xR π β (2 ^ t + i) = xR π β (2 ^ t + i') then 1 else 0)) (2 ^ t) i hi
    rw [if_pos rfl, Nat.mul_one] at h1
    have h2 : 0 < cw p q (aR π T p q R β (bV π β) (bA π β)) (2 ^ t + i) := by
      unfold cw
      rw [if_pos hc]
      exact Nat.mul_pos (Nat.pow_pos (by omega)) (Nat.pow_pos (by omega))
    omega
