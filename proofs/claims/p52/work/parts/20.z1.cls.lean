section
/-! pure: the class's tree, bond, one row (own rows) -/
theorem cl_lit : Int32.toNatClampNeg 0 = 0 ∧ Int32.toNatClampNeg 1 = 1 ∧ Int32.toNatClampNeg 2 = 2 ∧ Int32.toNatClampNeg 3 = 3 ∧ Int32.toNatClampNeg 4 = 4 ∧ Int32.toNatClampNeg 5 = 5 ∧ Int32.toNatClampNeg 6 = 6 ∧ Int32.toNatClampNeg 7 = 7 ∧ Int32.toNatClampNeg 8 = 8 ∧ Int32.toNatClampNeg 9 = 9 ∧ Int32.toNatClampNeg 36 = 36 := by decide +kernel
theorem cl_0 : Int32.toNatClampNeg 0 = 0 := cl_lit.1
theorem cl_1 : Int32.toNatClampNeg 1 = 1 := cl_lit.2.1
theorem cl_2 : Int32.toNatClampNeg 2 = 2 := cl_lit.2.2.1
theorem cl_3 : Int32.toNatClampNeg 3 = 3 := cl_lit.2.2.2.1
theorem cl_4 : Int32.toNatClampNeg 4 = 4 := cl_lit.2.2.2.2.1
theorem cl_5 : Int32.toNatClampNeg 5 = 5 := cl_lit.2.2.2.2.2.1
theorem cl_6 : Int32.toNatClampNeg 6 = 6 := cl_lit.2.2.2.2.2.2.1
theorem cl_7 : Int32.toNatClampNeg 7 = 7 := cl_lit.2.2.2.2.2.2.2.1
theorem cl_8 : Int32.toNatClampNeg 8 = 8 := cl_lit.2.2.2.2.2.2.2.2.1
theorem cl_9 : Int32.toNatClampNeg 9 = 9 := cl_lit.2.2.2.2.2.2.2.2.2.1
theorem cl_36 : Int32.toNatClampNeg 36 = 36 := cl_lit.2.2.2.2.2.2.2.2.2.2
abbrev TC (f : Nat → Int32) (τ : Nat → Nat) : Prop := ∀ i, i < 9 → f i = nI (τ i)
abbrev CB (ts : Nat → Int32) (β : Nat → Nat) : Prop := ((ts 0 = nI (β 0) ∧ ts 1 = nI (β 1)) ∧ (ts 2 = nI (β 21) ∧ ts 3 = nI (β 22)) ∧ (ts 4 = nI (β 23) ∧ ts 5 = nI (β 24) ∧ ts 6 = nI (β 25)) ∧ ts 7 = nI (β 26)) ∧ (∀ t, 1 ≤ t → t ≤ 6 → ts (10 + t) = nI (β (2 + t))) ∧ (∀ t, t < 6 → ts (20 + t) = iC (β (9 + t))) ∧ (∀ t, t < 6 → ts (30 + t) = iC (β (15 + t)))
theorem ld8 {f : Nat → Int32} {τ : Nat → Nat} (hf : TC f τ) (hT : TK τ) : fX7_lastDay f = some (nI (τ 0)) := by
  unfold fX7_lastDay
  rw [cl_0, hf 0 (by omega), if_neg (show ¬ (6 : Int32) < nI (τ 0) from nI_nlt (a := 6) (by omega) (by omega))]
theorem pw5 (b : Nat) {k : Nat} (hk : k ≤ 6) : ∀ (i n j : Nat), j + i = k → lpX8_power_5 (lN b) (nI k) (n + i + 1) (lN (b ^ j)) (nI j) = some (lN (b ^ k)) := by
  intro i
  induction i with
  | zero =>
    intro n j h
    rw [lpX8_power_5.eq_2, if_pos (nI_le (by omega) (by omega)), show j = k by omega]
  | succ i ih =>
    intro n j h
    rw [lpX8_power_5.eq_2, if_neg (nI_ge (by omega) (by omega)), nm_mk, nm_mk, nI_1, lN_mul, ← Nat.pow_succ, show n + (i + 1) = n + i + 1 by omega, ih n (j + 1) (by omega)]
theorem pw8 (b : Nat) {k : Nat} (hk : k ≤ 6) : fX8_power (lN b) (nI k) = some (lN (b ^ k)) := by
  unfold fX8_power
  obtain ⟨n, hn⟩ := fuN (k + 1) (by omega)
  have := pw5 b hk k n 0 (by omega)
  rw [Nat.pow_zero] at this
  rw [hn, l_1, i_0, show n + (k + 1) = n + k + 1 by omega, this, bd1_mk]
theorem pe8 {f : Nat → Int32} {τ : Nat → Nat} (hf : TC f τ) (hT : TK τ) {t j : Nat} (hj : j ≤ t) (ht : t ≤ 6) : fX7_pence (nI t) (nI j) f = some (lN (prF τ (τ 1) t j)) := by
  unfold fX7_pence fX7_priceTop fX7_priceBottom fX8_through
  rw [cl_1, cl_2, cl_3, cl_4, cl_5, hf 1 (by omega), hf 2 (by omega), hf 3 (by omega), hf 4 (by omega), hf 5 (by omega), nI_l (n := τ 1) (by omega), nI_l (n := τ 2) (by omega), nI_l (n := τ 3) (by omega), nI_l (n := τ 4) (by omega), nI_l (n := τ 5) (by omega), pw8 _ (by omega), bd1_mk, pk_sub hj, pw8 _ (by omega), bd1_mk, bd1_mk, pw8 _ (by omega), bd1_mk, pw8 _ (by omega), bd1_mk, bd1_mk, lN_mul, lN_mul, lN_mul, l_100, lN_mul]
  have h1 := pt_le hT (s := τ 1) (by omega) hj ht
  have h2 := pb_le hT hj ht
  have h3 := pb_pos hT j t
  have h4 : ¬ lN (τ 3 ^ j * τ 5 ^ (t - j)) = 0 := fun h => by rw [l_0, pk_lEQ (by omega) (by omega)] at h; omega
  rw [if_neg h4, og_mk, bd1_mk, bd1_mk, pk_lDiv (by omega) h3 (by omega)]
  · unfold prF
    rw [if_pos ⟨hj, ht⟩]
  · unfold nzL
    rw [decide_eq_false h4]; rfl
theorem day8 : ∀ r, r < 128 → 1 ≤ r → fX8_dayOf (nI r) = some (nI (dR r)) := by decide +kernel
theorem ups8 : ∀ r, r < 128 → 1 ≤ r → fX8_upsOf (nI r) = some (nI (uR r)) := by decide +kernel
theorem isr8 : ∀ r, r < 128 → 1 ≤ r → fX8_isRow (nI r) = some 1 := by decide +kernel
theorem va8 {f : Nat → Int64} {r : Nat} (h1 : 1 ≤ r) (h : r < 128) : fX5_valueAt (nI r) f = some (f r) := by
  unfold fX5_valueAt
  rw [isr8 r h h1, bd1_mk, if_neg one0, og32 h (by omega), bd1_mk, nI_clamp (by omega)]
theorem hoA8 {f : Nat → Int64} {r : Nat} (h1 : 1 ≤ r) (h : r < 128) : fX5_holdAt (nI r) f = some (f r) := by
  unfold fX5_holdAt
  rw [isr8 r h h1, bd1_mk, if_neg one0, og32 h (by omega), bd1_mk, nI_clamp (by omega)]
theorem tuA8 {f : Nat → Int64} {r : Nat} (h1 : 1 ≤ r) (h : r < 128) : fX5_turnedAt (nI r) f = some (f r) := by
  unfold fX5_turnedAt
  rw [isr8 r h h1, bd1_mk, if_neg one0, og32 h (by omega), bd1_mk, nI_clamp (by omega)]
theorem caA8 {f : Nat → Int64} {r : Nat} (h1 : 1 ≤ r) (h : r < 128) : fX5_calledAt (nI r) f = some (f r) := by
  unfold fX5_calledAt
  rw [isr8 r h h1, bd1_mk, if_neg one0, og32 h (by omega), bd1_mk, nI_clamp (by omega)]
theorem peA8 {f : Nat → Int64} {r : Nat} (h1 : 1 ≤ r) (h : r < 128) : fX5_penceAt (nI r) f = some (f r) := by
  unfold fX5_penceAt
  rw [isr8 r h h1, bd1_mk, if_neg one0, og32 h (by omega), bd1_mk, nI_clamp (by omega)]
theorem maA8 {f : Nat → Int32} {r : Nat} (h1 : 1 ≤ r) (h : r < 128) : fX5_marksAt (nI r) f = some (f r) := by
  unfold fX5_marksAt
  rw [isr8 r h h1, bd1_mk, if_neg one0, og32 h (by omega), bd1_mk, nI_clamp (by omega)]
theorem acA8 {f : Nat → Int32} {r : Nat} (h1 : 1 ≤ r) (h : r < 128) : fX5_actAt (nI r) f = some (f r) := by
  unfold fX5_actAt
  rw [isr8 r h h1, bd1_mk, if_neg one0, og32 h (by omega), bd1_mk, nI_clamp (by omega)]
theorem co8 {ts : Nat → Int32} {β : Nat → Nat} (hb : CB ts β) {t : Nat} (ht : t ≤ 6) : fX0_couponOn (nI t) ts = some (nI (cpF β t)) := by
  unfold fX0_couponOn cpF
  by_cases h : 1 ≤ t
  · rw [win1 t 1 6 ⟨h, ht⟩, bd1_mk, if_neg one0, i_10, nI_add, og32 (by omega) (by omega), bd1_mk, nI_clamp (by omega), hb.2.1 t h ht, if_pos ⟨h, ht⟩]
  · rw [win0 t 1 6 (by omega), bd1_mk, if_pos rfl, bd1_mk, if_neg (by omega)]; rfl
theorem ca8 {ts : Nat → Int32} {β : Nat → Nat} (hb : CB ts β) {t : Nat} (ht : t ≤ 6) : fX0_callOn (nI t) ts = some (iC (caL β t)) := by
  unfold fX0_callOn caL
  by_cases h : t < 6
  · rw [win1 t 0 5 (by omega), bd1_mk, if_neg one0, i_20, nI_add, og32 (by omega) (by omega), bd1_mk, nI_clamp (by omega), hb.2.2.1 t h, if_pos h]
  · rw [win0 t 0 5 (by omega), bd1_mk, if_pos rfl, bd1_mk, if_neg h]; rfl
theorem pu8 {ts : Nat → Int32} {β : Nat → Nat} (hb : CB ts β) {t : Nat} (ht : t ≤ 6) : fX0_putOn (nI t) ts = some (iC (puL β t)) := by
  unfold fX0_putOn puL
  by_cases h : t < 6
  · rw [win1 t 0 5 (by omega), bd1_mk, if_neg one0, i_30, nI_add, og32 (by omega) (by omega), bd1_mk, nI_clamp (by omega), hb.2.2.2 t h, if_pos h]
  · rw [win0 t 0 5 (by omega), bd1_mk, if_pos rfl, bd1_mk, if_neg h]; rfl
theorem mt8 {ts : Nat → Int32} {β : Nat → Nat} (hb : CB ts β) (hK : BK β) {t : Nat} (ht : t ≤ 6) : fX0_mayTurnOn (nI t) ts = some (if inW β t then 1 else 0) := by
  unfold fX0_mayTurnOn
  rw [cl_2, cl_3, hb.1.2.1.1, hb.1.2.1.2, win (by omega) (by omega) (by omega), bd1_mk, og_mk _ b01]
theorem hdt : ∀ m, m < 8 → ∀ w, w < 4 → 1 ≤ w → fJ6_bitCount_0f7a4 (nI m &&& ((1 <<< (nI w &&& 31)) - 1)) = some (nI (m % 2 + (if 2 ≤ w then m / 2 % 2 else 0) + (if 3 ≤ w then m / 4 % 2 else 0))) := by decide +kernel
theorem hd8 {ts : Nat → Int32} {β : Nat → Nat} (hb : CB ts β) (hK : BK β) {m : Nat} (hm : m < 8) : fX0_highDays (nI m) ts = some (nI (hdF β m)) := by
  unfold fX0_highDays
  rw [cl_5, hb.1.2.2.1.2.1, hdt m hm (β 24) (by omega) (by omega), bd1_mk]
  rfl
theorem tw8 {ts : Nat → Int32} {β : Nat → Nat} (hb : CB ts β) (hK : BK β) {x y : Nat} (hx : x ≤ 6400000000000) (hy : y ≤ 6400000000000) : fX0_turnedWorth (lN x) (lN y) ts = some (lN (twF β x y)) := by
  unfold fX0_turnedWorth
  have hs := shF_le (β := β) hK.2.1 hx
  have hc := caF_le (β := β) hK.2.1 hx hy
  have p1 := Nat.mul_le_mul hK.2.1 hx
  have p2 := Nat.mul_le_mul hK.2.1 (show x + y ≤ 12800000000000 by omega)
  have h26 := hK.2.2.2.2.2.2.2.2.2.2
  rw [cl_1, cl_7, hb.1.1.2, hb.1.2.2.2, nI_l (n := β 1) (by omega), nm_mk, nm_mk, lN_mul, l_100, pk_lDiv (by omega) (by omega) (by omega), lN_add, lN_mul, l_200, pk_lDiv (by omega) (by omega) (by omega)]
  show (if nI (β 26) = 0 then some (lN (shF β x)) else if nI (β 26) = 1 then some (lN (caF β x y)) else if nI (β 26) = 2 then some (if lN (caF β x y) < lN (shF β x) then lN (caF β x y) else lN (shF β x)) else some (if lN (caF β x y) < lN (shF β x) then lN (shF β x) else lN (caF β x y))) = some (lN (if β 26 = 0 then shF β x else if β 26 = 1 then caF β x y else if β 26 = 2 then min (shF β x) (caF β x y) else max (shF β x) (caF β x y)))
  generalize shF β x = S at *
  generalize caF β x y = C at *
  rcases (show β 26 = 0 ∨ β 26 = 1 ∨ β 26 = 2 ∨ β 26 = 3 by omega) with h | h | h | h
  · rw [h]; rfl
  · rw [h]; rfl
  · rw [h]
    show some (if lN C < lN S then lN C else lN S) = some (lN (min S C))
    by_cases g : C < S
    · rw [if_pos ((pk_lLT (by omega) (by omega)).mpr g), Nat.min_eq_right (by omega)]
    · rw [if_neg (fun q => g ((pk_lLT (by omega) (by omega)).mp q)), Nat.min_eq_left (by omega)]
  · rw [h]
    show some (if lN C < lN S then lN S else lN C) = some (lN (max S C))
    by_cases g : C < S
    · rw [if_pos ((pk_lLT (by omega) (by omega)).mpr g), Nat.max_eq_left (by omega)]
    · rw [if_neg (fun q => g ((pk_lLT (by omega) (by omega)).mp q)), Nat.max_eq_right (by omega)]
/-- what CALLED gives in a row, 0: not free or no call -/
def cdF (π : Nat → Nat → Nat) (β : Nat → Nat) (r : Nat) : Nat := if frF β (dR r) (mR π β r) then cgS π β (dR r) (uR r) (bR r) else 0
def CL (π : Nat → Nat → Nat) (β : Nat → Nat) (N : Nat) (pe tu ca : Nat → Int64) (ma : Nat → Int32) : Prop := ∀ r, 1 ≤ r → r < N → pe r = lN (π (dR r) (uR r)) ∧ tu r = lC (tuS π β (dR r) (uR r) (bR r)) ∧ ca r = lC (cdF π β r) ∧ ma r = nI (mR π β r)
theorem rdiv : ∀ r, r < 128 → (nI r / 2 : Int32) = nI (r / 2) := by decide +kernel
theorem mk7 : ∀ m, m < 8 → ∀ h, h < 2 → ((nI m * 2 + nI h) &&& 7 : Int32) = nI (2 * m % 8 + h) := by decide +kernel
theorem lC_neg' {e : Nat} (h : e < 2 ^ 63) : (lC e < 0) = (e = 0) := propext (lC_neg h)
theorem lr8 {ts : Nat → Int32} {β : Nat → Nat} {π : Nat → Nat → Nat} (hb : CB ts β) (hK : BK β) (hp : PK π) {r : Nat} (h1 : 1 ≤ r) (h : r < 128) {pu pe tu ca : Nat → Int64} {ma : Nat → Int32} (hpu : pu (uR r) = lN (π (dR r) (uR r))) (hL : CL π β r pe tu ca ma) : Sx (fX5_layOutRow (nI r) (nI (dR r)) ts pu pe tu ca ma) (fun z => CL π β (r + 1) z.1 z.2.1 z.2.2.1 z.2.2.2) := by
  obtain ⟨⟨b1, b2, b3⟩, b4, b5, b6⟩ := row_b1 r h h1
  unfold fX5_layOutRow
  rw [ups8 r h h1, bd1_mk, isr8 r h h1, bd1_mk, if_neg one0, win1 (uR r) 0 6 (by omega), bd1_mk, if_neg one0, og32 (by omega) (by omega), og32 h (by omega), nm_mk, nI_clamp (n := r) (by omega), nI_clamp (n := uR r) (by omega), hpu]
  have hx := hp (dR r) (uR r)
  have hy := ahF_le hp (dR r) (uR r) (bR r)
  have e1 : (if nI r ≤ 1 then og (okI (nI r) 128) (some (vp_updL pe r (lN (π (dR r) (uR r))) r)) else og (okI (nI r / 2) 128) (some (vp_updL pe r (lN (π (dR r) (uR r))) (Int32.toNatClampNeg (nI r / 2))))) = some (lN (ahF π (dR r) (uR r) (bR r))) := by
    by_cases g : r = 1
    · subst g
      rw [if_pos (by decide), og32 h (by omega), upL, if_pos rfl]; rfl
    · obtain ⟨c1, c2, c3, _⟩ := row_s (r / 2) (by omega) (by omega) (r % 2) (by omega)
      rw [show 2 * (r / 2) + r % 2 = r by omega] at c1 c2 c3
      rw [if_neg (show ¬ nI r ≤ 1 from nI_ge (b := r) (a := 1) (by omega) (by omega)), rdiv r h, og32 (by omega) (by omega), nI_clamp (by omega), upL, if_neg (by omega), (hL (r / 2) (by omega) (by omega)).1]
      unfold ahF
      rw [if_neg (by omega), c1, c2, c3, Nat.add_sub_cancel, Nat.add_sub_cancel]
  have e2 : (if nI r ≤ 1 then some (0 : Int32) else og (okI (nI r / 2) 128) (some (ma (Int32.toNatClampNeg (nI r / 2))))) = some (nI (if r = 1 then 0 else mR π β (r / 2))) := by
    by_cases g : r = 1
    · subst g
      rw [if_pos (by decide), if_pos rfl]; rfl
    · rw [if_neg (show ¬ nI r ≤ 1 from nI_ge (b := r) (a := 1) (by omega) (by omega)), rdiv r h, og32 (by omega) (by omega), nI_clamp (by omega), (hL (r / 2) (by omega) (by omega)).2.2.2, if_neg g]
  have em : mR π β r = 2 * (if r = 1 then 0 else mR π β (r / 2)) % 8 + hiF β (π (dR r) (uR r)) := by
    by_cases g : r = 1
    · subst g; rw [if_pos rfl, mR_1]
      show _ = 2 * 0 % 8 + hiF β (π 0 0)
      omega
    · obtain ⟨c1, c2, _, _⟩ := row_s (r / 2) (by omega) (by omega) (r % 2) (by omega)
      have := mR_s π β (r := r / 2) (b := r % 2) (by omega) (by omega) (by omega)
      rw [show 2 * (r / 2) + r % 2 = r by omega] at c1 c2 this
      rw [if_neg g, this, c1, c2]; rfl
  have hm8 : (if r = 1 then 0 else mR π β (r / 2)) < 8 := by
    split
    · omega
    · exact mR_lt _ _ _
  rw [e1, bd1_mk, e2, bd1_mk, og32 h (by omega)]
  unfold fX0_softLevel fX0_softLeast
  rw [bd1_mk, upL, if_pos rfl, cl_6, hb.1.2.2.1.2.2, nI_l (by omega)]
  have e3 : (if lN (π (dR r) (uR r)) < lN (β 25) then some (0 : Int32) else some 1) = some (nI (hiF β (π (dR r) (uR r)))) := by
    unfold hiF
    by_cases g : β 25 ≤ π (dR r) (uR r)
    · rw [if_neg (by rw [pk_lLT (by omega) (by omega)]; omega), if_pos g]; rfl
    · rw [if_pos (by rw [pk_lLT (by omega) (by omega)]; omega), if_neg g]; rfl
  rw [e3, bd1_mk, og32 h (by omega), nm_mk, mk7 _ hm8 _ (hiF_lt _ _), ← em, mt8 hb hK (by omega), bd1_mk, og32 h (by omega)]
  have e4 : (if (if inW β (dR r) then (1 : Int32) else 0) = 0 then some (-2 : Int64) else bd1 (fX0_turnedWorth (lN (π (dR r) (uR r))) (lN (ahF π (dR r) (uR r) (bR r))) ts) (fun r65 => some (r65))) = some (lC (tuS π β (dR r) (uR r) (bR r))) := by
    unfold tuS tuF
    by_cases g : inW β (dR r)
    · rw [if_pos g, if_neg one0, tw8 hb hK hx hy, bd1_mk, if_pos g, lC_s]
    · rw [if_neg g, if_pos rfl, if_neg g]; rfl
  rw [e4, bd1_mk, og32 h (by omega), nm_mk, ca8 hb (by omega), bd1_mk, upS, if_pos rfl, upL, if_pos rfl, hd8 hb hK (mR_lt _ _ _), og32 h (by omega), cl_4, hb.1.2.2.1.1]
  have hca := caL_le hK (dR r)
  have hd := hdF_lt β (mR π β r)
  have e5 : (if iC (caL β (dR r)) < 0 then some (0 : Int32) else bd1 (some (nI (hdF β (mR π β r)))) (fun r57 => bd1 (some (nI (β 23))) (fun r60 => if r57 < r60 then some 0 else some 1))) = some (if frF β (dR r) (mR π β r) then 1 else 0) := by
    by_cases g : caL β (dR r) = 0
    · rw [if_pos ((iC_neg (by omega)).mpr g), if_neg (fun q => q.1 g)]
    · rw [if_neg (fun q => g ((iC_neg (by omega)).mp q)), bd1_mk, bd1_mk]
      by_cases g2 : β 23 ≤ hdF β (mR π β r)
      · rw [if_neg (nI_nlt g2 (by omega)), if_pos ⟨g, g2⟩]
      · rw [if_pos (nI_lt (by omega) (by omega)), if_neg (fun q => g2 q.2)]
  have htu := tuS_le hp hK (dR r) (uR r) (bR r)
  have e6 : (if (if frF β (dR r) (mR π β r) then (1 : Int32) else 0) = 0 then some (-2 : Int64) else bd1 (some (iC (caL β (dR r)))) (fun r52 => og (okI (nI r) 128) (some (if lC (tuS π β (dR r) (uR r) (bR r)) < r52.toInt64 then r52.toInt64 else lC (tuS π β (dR r) (uR r) (bR r)))))) = some (lC (cdF π β r)) := by
    unfold cdF
    by_cases g : frF β (dR r) (mR π β r)
    · rw [if_pos g, if_neg one0, bd1_mk, og32 h (by omega), iC_l (by omega), lC_max (by omega) (by omega), if_pos g]
      unfold cgS
      rw [Nat.max_comm]
    · rw [if_neg g, if_pos rfl, if_neg g]; rfl
  rw [e5, bd1_mk, e6, bd1_mk, og32 h (by omega), nm_mk]
  refine Sx.mk ?_
  intro r' a b
  show vp_updL pe r (lN (π (dR r) (uR r))) r' = _ ∧ vp_updL tu r (lC (tuS π β (dR r) (uR r) (bR r))) r' = _ ∧ vp_updL ca r (lC (cdF π β r)) r' = _ ∧ upd ma r (nI (mR π β r)) r' = _
  rw [upL, upL, upL, upS]
  by_cases e : r' = r
  · subst e
    rw [if_pos rfl, if_pos rfl, if_pos rfl, if_pos rfl]
    exact ⟨rfl, rfl, rfl, rfl⟩
  · rw [if_neg e, if_neg e, if_neg e, if_neg e]
    exact hL r' a (by omega)
end
section
/-! pure: the class's rows played (own rows) -/
def vR (π : Nat → Nat → Nat) (T p q R : Nat) (β : Nat → Nat) (σ : Nat → Nat → Nat → Nat → Nat → Nat) (r : Nat) : Nat := vG π T p q R β σ (T - dR r) (uR r) (bR r) (mR π β r)
def hR (π : Nat → Nat → Nat) (T p q R : Nat) (β : Nat → Nat) (σ : Nat → Nat → Nat → Nat → Nat → Nat) (r : Nat) : Nat := hG π T p q R β σ (T - dR r - 1) (uR r) (mR π β r)
def aR (π : Nat → Nat → Nat) (T p q R : Nat) (β : Nat → Nat) (σ α : Nat → Nat → Nat → Nat → Nat → Nat) (r : Nat) : Nat := if dR r = T then enA π T β (uR r) (bR r) else α (dR r) (uR r) (bR r) (mR π β r) (hR π T p q R β σ r)
def CV (π : Nat → Nat → Nat) (T p q R : Nat) (β : Nat → Nat) (σ α : Nat → Nat → Nat → Nat → Nat → Nat) (N : Nat) (ho va : Nat → Int64) (ac : Nat → Int32) : Prop := ∀ r, N ≤ r → 1 ≤ r → r < 2 * 2 ^ T → va r = lN (vR π T p q R β σ r) ∧ (ho r = if dR r = T then -2 else lN (hR π T p q R β σ r)) ∧ ac r = nI (aR π T p q R β σ α r)
theorem p2T {T : Nat} (hT : T ≤ 6) : 2 * 2 ^ T ≤ 128 := by
  have := Nat.pow_le_pow_right (show 0 < 2 by omega) hT
  omega
theorem sr8 {ho va : Nat → Int64} {ac : Nat → Int32} {r : Nat} (h1 : 1 ≤ r) (h : r < 128) (x z : Int64) (y : Int32) : fX5_setRow (nI r) x y z ho va ac = some (vp_updL ho r x, vp_updL va r z, upd ac r y) := by
  unfold fX5_setRow
  rw [isr8 r h h1, bd1_mk, if_neg one0, og32 h (by omega), nm_mk, og32 h (by omega), nm_mk, og32 h (by omega), nm_mk, bd3_mk, nI_clamp (by omega)]
theorem lo8 (r : Nat) {b : Nat} (hb : b < 2) : fX8_longer (nI r) (nI b) = some (nI (2 * r + b)) := by
  unfold fX8_longer
  rcases (show b = 0 ∨ b = 1 by omega) with rfl | rfl
  · rw [if_pos (show nI 0 = (0 : Int32) from rfl), bd1_mk, i_2, pk_mul, i_0, nI_add, Nat.mul_comm]
  · rw [if_neg (show ¬ nI 1 = (0 : Int32) from one0), bd1_mk, i_2, pk_mul, i_1, nI_add, Nat.mul_comm]
theorem me8 {f : Nat → Int32} {τ : Nat → Nat} (hf : TC f τ) (hT : TK τ) {a b : Nat} (ha : a ≤ 64000000010000) (hb : b ≤ 64000000010000) : fX7_meanOf (lN a) (lN b) f = some (lN (mn (τ 6) (τ 7) (τ 8) a b)) := by
  unfold fX7_meanOf fX8_through
  have hin := mn_in (p := τ 6) (q := τ 7) (by omega) (by omega) ha hb
  have hq := Nat.mul_le_mul (show τ 7 ≤ 20 by omega) (show 1000 + τ 8 ≤ 1200 by omega)
  have hq0 : 0 < τ 7 * (1000 + τ 8) := Nat.mul_pos (by omega) (by omega)
  have h4 : ¬ lN (τ 7 * (1000 + τ 8)) = 0 := fun h => by rw [l_0, pk_lEQ (by omega) (by omega)] at h; omega
  rw [cl_6, cl_7, cl_8, hf 6 (by omega), hf 7 (by omega), hf 8 (by omega), nm_mk, nm_mk, nm_mk, i_1000, nI_add, pk_mul, nI_l (n := τ 7 * (1000 + τ 8)) (by omega), pk_sub (by omega), nI_l (n := τ 6) (by omega), nI_l (n := τ 7 - τ 6) (by omega), lN_mul, lN_mul, lN_add, l_1000, lN_mul, if_neg h4, og_mk, bd1_mk, bd1_mk, pk_lDiv hin hq0 (by omega)]
  · rfl
  · unfold nzL
    rw [decide_eq_false h4]; rfl
theorem lb8 {f : Nat → Int32} {τ : Nat → Nat} (hf : TC f τ) (hT : TK τ) {va : Nat → Int64} {r a b : Nat} (h1 : 1 ≤ r) (h : r < 64) (e1 : va (2 * r + 1) = lN a) (e0 : va (2 * r) = lN b) (ha : a ≤ 64000000010000) (hb : b ≤ 64000000010000) : fX5_lookBack (nI r) f va = some (lN (mn (τ 6) (τ 7) (τ 8) a b)) := by
  unfold fX5_lookBack
  rw [i_1, lo8 r (by omega), bd1_mk, va8 (by omega) (by omega), bd1_mk, i_0, lo8 r (by omega), bd1_mk, Nat.add_zero (2 * r), va8 (by omega) (by omega), bd1_mk, e1, e0, me8 hf hT ha hb, bd1_mk]
theorem anw {h pu tu : Nat} (hh : h + 1 < 2 ^ 63) (hp : pu < 2 ^ 63) (ht : tu < 2 ^ 63) : fX5_actWhenNotCalled (lN h) (lC pu) (lC tu) = some (nI (if pu ≤ h + 1 ∧ tu ≤ h + 1 then 0 else if pu ≠ 0 ∧ tu ≤ pu then 1 else 2)) := by
  unfold fX5_actWhenNotCalled
  rw [lCN]
  simp only [lC_lt (a := h + 1) (b := pu) hh hp, lC_lt (a := h + 1) (b := tu) hh ht, lC_lt (a := pu) (b := tu) hp ht, lC_neg hp]
  by_cases g1 : h + 1 < pu
  · rw [if_pos g1, if_neg (by omega : ¬ pu = 0), if_neg (by omega : ¬ (pu ≤ h + 1 ∧ tu ≤ h + 1))]
    by_cases g2 : pu < tu
    · rw [if_pos g2, if_neg (by omega)]; rfl
    · rw [if_neg g2, if_pos (by omega)]; rfl
  · rw [if_neg g1]
    by_cases g3 : h + 1 < tu
    · rw [if_pos g3, if_neg (by omega : ¬ (pu ≤ h + 1 ∧ tu ≤ h + 1)), if_neg (by omega : ¬ (pu ≠ 0 ∧ tu ≤ pu)), if_pos (by omega : pu < tu)]
      by_cases g4 : pu = 0
      · rw [if_pos g4]; rfl
      · rw [if_neg g4]; rfl
    · rw [if_neg g3, if_pos (by omega)]; rfl
theorem aoc {ts : Nat → Int32} {β : Nat → Nat} {π : Nat → Nat → Nat} (hb : CB ts β) (hK : BK β) (hp : PK π) {tu : Nat → Int64} {r : Nat} (h1 : 1 ≤ r) (h : r < 128) (et : tu r = lC (tuS π β (dR r) (uR r) (bR r))) : fX5_actOfCall (nI r) (nI (dR r)) ts tu = some (nI (if caL β (dR r) < tuS π β (dR r) (uR r) (bR r) then 4 else 3)) := by
  obtain ⟨⟨b1, b2, b3⟩, b4, b5, b6⟩ := row_b1 r h h1
  have hc := caL_le hK (dR r)
  have ht := tuS_le hp hK (dR r) (uR r) (bR r)
  unfold fX5_actOfCall
  rw [tuA8 h1 h, bd1_mk, ca8 hb (by omega), bd1_mk, iC_l (by omega), et, ite_so, bd1_mk]
  by_cases g : caL β (dR r) < tuS π β (dR r) (uR r) (bR r)
  · rw [if_pos g, if_neg (fun q => by rw [lC_le (by omega) (by omega)] at q; omega)]; rfl
  · rw [if_neg g, if_pos ((lC_le (by omega) (by omega)).mpr (by omega))]; rfl
theorem cd_0 {π : Nat → Nat → Nat} {β : Nat → Nat} {r : Nat} : cdF π β r = 0 ↔ ¬ frF β (dR r) (mR π β r) := by
  unfold cdF
  by_cases h : frF β (dR r) (mR π β r)
  · rw [if_pos h]
    have : caL β (dR r) ≤ cgS π β (dR r) (uR r) (bR r) := Nat.le_max_left _ _
    have := h.1
    exact ⟨fun q => by omega, fun q => absurd h q⟩
  · rw [if_neg h]
    exact ⟨fun _ => h, fun _ => rfl⟩
theorem cd_s {π : Nat → Nat → Nat} {β : Nat → Nat} {r : Nat} (h : frF β (dR r) (mR π β r)) : cdF π β r = cgS π β (dR r) (uR r) (bR r) := if_pos h
theorem cd_le {π : Nat → Nat → Nat} {β : Nat → Nat} (hp : PK π) (hK : BK β) (r : Nat) : cdF π β r ≤ 64000000000001 := by
  unfold cdF
  split
  · exact cgS_le hp hK _ _ _
  · omega
theorem cb8 {f ts : Nat → Int32} {τ β : Nat → Nat} {π : Nat → Nat → Nat} (hf : TC f τ) (hT : TK τ) (hb : CB ts β) (hK : BK β) (hp : PK π) {tu ca ho va : Nat → Int64} {ac : Nat → Int32} {r a b : Nat} (h1 : 1 ≤ r) (h : r < 64) (et : tu r = lC (tuS π β (dR r) (uR r) (bR r))) (ec : ca r = lC (cdF π β r)) (e1 : va (2 * r + 1) = lN a) (e0 : va (2 * r) = lN b) (ha : a ≤ 64000000007000) (hbb : b ≤ 64000000007000) : fX5_chooseBest (nI r) (nI (dR r)) f ts tu ca ho va ac = some (vp_updL ho r (lN (mn (τ 6) (τ 7) (τ 8) a b)), vp_updL va r (lN (bV π β (dR r) (uR r) (bR r) (mR π β r) (mn (τ 6) (τ 7) (τ 8) a b))), upd ac r (nI (bA π β (dR r) (uR r) (bR r) (mR π β r) (mn (τ 6) (τ 7) (τ 8) a b)))) := by
  obtain ⟨⟨b1, b2, b3⟩, b4, b5, b6⟩ := row_b1 r (by omega) h1
  have hcp := cpF_le hK (dR r)
  have hpu := puL_le hK (dR r)
  have htu := tuS_le hp hK (dR r) (uR r) (bR r)
  have hcd := cd_le hp hK r
  have hh : mn (τ 6) (τ 7) (τ 8) a b ≤ 64000000007000 := mn_le (by omega) (by omega) ha hbb
  unfold fX5_chooseBest
  rw [lb8 hf hT h1 h e1 e0 (by omega) (by omega), bd1_mk, pu8 hb (by omega), bd1_mk, nm_mk, tuA8 h1 (by omega), bd1_mk, caA8 h1 (by omega), bd1_mk, et, ec, iC_l (e := puL β (dR r)) (by omega), lC_max (by omega) (by omega), aoc hb hK hp h1 (by omega) et, co8 hb (by omega), anw (by omega) (by omega) (by omega)]
  generalize mn (τ 6) (τ 7) (τ 8) a b = m at *
  unfold bV bA bG
  by_cases hi : icF π β (dR r) (uR r) (bR r) (mR π β r) m
  · have h6 := cd_s hi.1
    have h7 : ¬ lC (cdF π β r) < 0 := fun q => by rw [lC_neg (by omega)] at q; exact cd_0.mp q hi.1
    have h8 : ¬ lN m ≤ lC (cdF π β r) := by rw [lCN, lC_le (by omega) (by omega), h6]; have := hi.2; omega
    rw [if_neg h7, if_neg h8, bd1_mk, if_neg one0, bd1_mk, nm_mk, bd1_mk, if_neg one0, if_pos hi, if_pos hi, ← h6]
    obtain ⟨x, hx⟩ : ∃ x, max (max (puL β (dR r)) (tuS π β (dR r) (uR r) (bR r))) (cdF π β r) = x + 1 := ⟨max (max (puL β (dR r)) (tuS π β (dR r) (uR r) (bR r))) (cdF π β r) - 1, by have : ¬ cdF π β r = 0 := fun q => cd_0.mp q hi.1; omega⟩
    rw [Nat.max_comm (tuS π β (dR r) (uR r) (bR r)), lC_max (by omega) (by omega), hx, lC_s, Nat.add_sub_cancel]
    by_cases g1 : cdF π β r < puL β (dR r)
    · rw [if_neg (fun q => by rw [lC_le (by omega) (by omega)] at q; omega), if_pos g1, bd1_mk, bd1_mk, bd1_mk, sr8 h1 (by omega), bd3_mk, nI_l (by omega), lN_add]; rfl
    · rw [if_pos ((lC_le (by omega) (by omega)).mpr (by omega)), if_neg g1, bd1_mk, bd1_mk, bd1_mk, bd1_mk, sr8 h1 (by omega), bd3_mk, nI_l (by omega), lN_add]
  · have hj : (if lC (cdF π β r) < 0 then some (0 : Int32) else if lN m ≤ lC (cdF π β r) then some 0 else some 1) = some 0 := by
      by_cases hfr : frF β (dR r) (mR π β r)
      · have h7 : ¬ lC (cdF π β r) < 0 := fun q => by rw [lC_neg (by omega)] at q; exact cd_0.mp q hfr
        rw [if_neg h7, if_pos]
        rw [lCN, lC_le (by omega) (by omega), cd_s hfr]
        have := fun g => hi ⟨hfr, g⟩
        omega
      · rw [if_pos ((lC_neg (by omega)).mpr (cd_0.mpr hfr))]
    rw [hj, bd1_mk, if_pos rfl, bd1_mk, nm_mk, bd1_mk, if_pos rfl, bd1_mk, bd1_mk, if_neg hi, if_neg hi]
    obtain ⟨x, hx⟩ : ∃ x, max (max (puL β (dR r)) (tuS π β (dR r) (uR r) (bR r))) (m + 1) = x + 1 := ⟨max (max (puL β (dR r)) (tuS π β (dR r) (uR r) (bR r))) (m + 1) - 1, by omega⟩
    rw [Nat.max_comm (tuS π β (dR r) (uR r) (bR r)), lCN m, lC_max (by omega) (by omega), hx, lC_s x, Nat.add_sub_cancel, sr8 h1 (by omega), bd3_mk, nI_l (by omega), lN_add]
theorem el8 {f ts : Nat → Int32} {τ β : Nat → Nat} {π : Nat → Nat → Nat} (hf : TC f τ) (hT : TK τ) (hb : CB ts β) (hK : BK β) (hp : PK π) {tu ho va : Nat → Int64} {ac : Nat → Int32} {r : Nat} (h1 : 1 ≤ r) (h : r < 128) (hd : dR r = τ 0) (et : tu r = lC (tuS π β (dR r) (uR r) (bR r))) : fX5_endOnLastDay (nI r) f ts tu ho va ac = some (vp_updL ho r (-2), vp_updL va r (lN (enV π (τ 0) β (uR r) (bR r))), upd ac r (nI (enA π (τ 0) β (uR r) (bR r)))) := by
  have hcp := cpF_le hK (τ 0)
  rw [hd] at et
  have htu := tuS_le hp hK (τ 0) (uR r) (bR r)
  have hfa := hK.1
  unfold fX5_endOnLastDay fX0_face enV enA
  rw [ld8 hf hT, bd1_mk, co8 hb (by omega), bd1_mk, tuA8 h1 h, bd1_mk, bd1_mk, et, cl_0, hb.1.1.1, nI_l (n := β 0) (by omega), lCN (β 0), nI_l (n := cpF β (τ 0)) (by omega)]
  by_cases g : β 0 + 1 < tuS π β (τ 0) (uR r) (bR r)
  · rw [if_neg (fun q => by rw [lC_le (by omega) (by omega)] at q; omega), if_pos g, Nat.max_eq_right (by omega), sr8 h1 h, bd3_mk, bd3_mk]
    obtain ⟨x, hx⟩ : ∃ x, tuS π β (τ 0) (uR r) (bR r) = x + 1 := ⟨tuS π β (τ 0) (uR r) (bR r) - 1, by omega⟩
    rw [hx, lC_s, lN_add, Nat.add_sub_cancel]; rfl
  · rw [if_pos ((lC_le (by omega) (by omega)).mpr (by omega)), if_neg g, Nat.max_eq_left (by omega), bd1_mk, nI_add, nI_l (by omega), sr8 h1 h, bd3_mk, bd3_mk, Nat.add_sub_cancel]; rfl
theorem rb8 {ts : Nat → Int32} {β : Nat → Nat} {f : Nat → Int32} {τ : Nat → Nat} {π : Nat → Nat → Nat} (hf : TC f τ) (hT : TK τ) (hb : CB ts β) (hK : BK β) (hp : PK π) {pe tu ca ho va : Nat → Int64} {ac : Nat → Int32} {r a b x y : Nat} (hx : x ≤ 1000000) (hy : y ≤ 1000000) (h1 : 1 ≤ r) (h : r < 64) (ep : pe r = lN (π (dR r) (uR r))) (et : tu r = lC (tuS π β (dR r) (uR r) (bR r))) (ec : ca r = lC (cdF π β r)) (e1 : va (2 * r + 1) = lN a) (e0 : va (2 * r) = lN b) (ha : a ≤ 64000000007000) (hbb : b ≤ 64000000007000) : fX5_chooseByRule (nI r) (nI (dR r)) (nI x) (nI y) f ts pe tu ca ho va ac = some (vp_updL ho r (lN (mn (τ 6) (τ 7) (τ 8) a b)), vp_updL va r (lN (rV x y π β (dR r) (uR r) (bR r) (mR π β r) (mn (τ 6) (τ 7) (τ 8) a b))), upd ac r (nI (rA x y π β (dR r) (uR r) (bR r) (mR π β r)))) := by
  obtain ⟨⟨b1, b2, b3⟩, b4, b5, b6⟩ := row_b1 r (by omega) h1
  have hcp := cpF_le hK (dR r)
  have hpe := hp (dR r) (uR r)
  have htu := tuS_le hp hK (dR r) (uR r) (bR r)
  have hcd := cd_le hp hK r
  have hh : mn (τ 6) (τ 7) (τ 8) a b ≤ 64000000007000 := mn_le (by omega) (by omega) ha hbb
  unfold fX5_chooseByRule
  simp only [lb8 hf hT h1 h e1 e0 (show a ≤ 64000000010000 by omega) (show b ≤ 64000000010000 by omega), bd1_mk, co8 hb (show dR r ≤ 6 by omega), tuA8 (f := tu) h1 (show r < 128 by omega), caA8 (f := ca) h1 (show r < 128 by omega), peA8 (f := pe) h1 (show r < 128 by omega), et, ec, ep, aoc hb hK hp h1 (show r < 128 by omega) et, sr8 h1 (show r < 128 by omega), bd3_mk, nI_l (n := cpF β (dR r)) (by omega), nI_l (n := x) (by omega), nI_l (n := y) (by omega), lC_neg (e := tuS π β (dR r) (uR r) (bR r)) (by omega), lC_neg (e := cdF π β r) (by omega), pk_lLT (a := π (dR r) (uR r)) (b := x) (by omega) (by omega), pk_lLT (a := π (dR r) (uR r)) (b := y) (by omega) (by omega), cd_0]
  generalize mn (τ 6) (τ 7) (τ 8) a b = m at *
  unfold rV rA
  have hC : (if ¬ frF β (dR r) (mR π β r) then some (vp_updL ho r (lN m), vp_updL va r (lN (cpF β (dR r)) + lN m), upd ac r 0) else if π (dR r) (uR r) < y then some (vp_updL ho r (lN m), vp_updL va r (lN (cpF β (dR r)) + lN m), upd ac r 0) else some (vp_updL ho r (lN m), vp_updL va r (lN (cpF β (dR r)) + lC (cdF π β r)), upd ac r (nI (if caL β (dR r) < tuS π β (dR r) (uR r) (bR r) then 4 else 3)))) = some (vp_updL ho r (lN m), vp_updL va r (lN (cpF β (dR r) + if rC π β y (dR r) (uR r) (mR π β r) then cgS π β (dR r) (uR r) (bR r) - 1 else m)), upd ac r (nI (if rC π β y (dR r) (uR r) (mR π β r) then (if caL β (dR r) < tuS π β (dR r) (uR r) (bR r) then 4 else 3) else 0))) := by
    by_cases g1 : frF β (dR r) (mR π β r)
    · rw [if_neg (fun q => q g1)]
      by_cases g2 : π (dR r) (uR r) < y
      · rw [if_pos g2, if_neg (fun q : rC π β y (dR r) (uR r) (mR π β r) => by have := q.2; omega), if_neg (fun q : rC π β y (dR r) (uR r) (mR π β r) => by have := q.2; omega), lN_add]; rfl
      · rw [if_neg g2, if_pos (show rC π β y (dR r) (uR r) (mR π β r) from ⟨g1, by omega⟩), if_pos (show rC π β y (dR r) (uR r) (mR π β r) from ⟨g1, by omega⟩), ← cd_s g1]
        obtain ⟨z, hz⟩ : ∃ z, cdF π β r = z + 1 := ⟨cdF π β r - 1, by have : ¬ cdF π β r = 0 := fun q => cd_0.mp q g1; omega⟩
        rw [hz, lC_s, lN_add, Nat.add_sub_cancel]
    · rw [if_pos g1, if_neg (fun q : rC π β y (dR r) (uR r) (mR π β r) => g1 q.1), if_neg (fun q : rC π β y (dR r) (uR r) (mR π β r) => g1 q.1), lN_add]; rfl
  rw [hC]
  by_cases g3 : tuS π β (dR r) (uR r) (bR r) = 0
  · rw [if_pos g3, bd3_mk, if_neg (fun q : rT π β x (dR r) (uR r) (bR r) => q.1 g3), if_neg (fun q : rT π β x (dR r) (uR r) (bR r) => q.1 g3)]
  · rw [if_neg g3]
    by_cases g4 : π (dR r) (uR r) < x
    · rw [if_pos g4, bd3_mk, if_neg (fun q : rT π β x (dR r) (uR r) (bR r) => by have := q.2; omega), if_neg (fun q : rT π β x (dR r) (uR r) (bR r) => by have := q.2; omega)]
    · rw [if_neg g4, bd3_mk, if_pos (show rT π β x (dR r) (uR r) (bR r) from ⟨g3, by omega⟩), if_pos (show rT π β x (dR r) (uR r) (bR r) from ⟨g3, by omega⟩)]
      obtain ⟨z, hz⟩ : ∃ z, tuS π β (dR r) (uR r) (bR r) = z + 1 := ⟨tuS π β (dR r) (uR r) (bR r) - 1, by omega⟩
      rw [hz, lC_s, lN_add, Nat.add_sub_cancel]; rfl
end
section
/-! pure: the class's loops over its rows (own rows) -/
theorem dR_eq : ∀ r, r < 128 → ∀ t, t < 7 → 2 ^ t ≤ r → r < 2 * 2 ^ t → dR r = t := by decide +kernel
theorem sh2 : ∀ d, d < 7 → (2 : Int32) <<< (nI d &&& 31) = nI (2 * 2 ^ d) := by decide +kernel
theorem sh1 : ∀ d, d < 7 → (1 : Int32) <<< (nI d &&& 31) = nI (2 ^ d) := by decide +kernel
theorem lrt : ∀ d, d < 7 → (if ((2 : Int32) <<< (nI d &&& 31)) < 128 then ((2 : Int32) <<< (nI d &&& 31)) else 128) - 1 = nI (2 * 2 ^ d - 1) := by decide +kernel
theorem p2b : ∀ d, d < 7 → 1 ≤ 2 ^ d ∧ 2 ^ d ≤ 64 := by decide +kernel
theorem lr8' {f : Nat → Int32} {τ : Nat → Nat} (hf : TC f τ) (hT : TK τ) : fX5_lastRow f = some (nI (2 * 2 ^ τ 0 - 1)) := by
  unfold fX5_lastRow
  rw [ld8 hf hT, bd1_mk, lrt (τ 0) (by omega)]
theorem ra8 {f : Nat → Int32} {τ : Nat → Nat} (hf : TC f τ) (hT : TK τ) : fX5_rowsAheadOfLastDay f = some (nI (2 ^ τ 0 - 1)) := by
  unfold fX5_rowsAheadOfLastDay
  have := p2b (τ 0) (by omega)
  rw [ld8 hf hT, bd1_mk, sh1 (τ 0) (by omega), i_1, pk_sub (by omega)]
theorem lo15 {f : Nat → Int32} {τ : Nat → Nat} (hf : TC f τ) (hT : TK τ) {t : Nat} (ht : t ≤ 6) : ∀ (i n j : Nat) (pu : Nat → Int64), j + i = t + 1 → (∀ y, y < j → pu y = lN (prF τ (τ 1) t y)) → Sx (lpX5_layOut_15 (nI t) f (n + i + 1) (nI j) pu) (fun z => ∀ y, y ≤ t → z y = lN (prF τ (τ 1) t y)) := by
  intro i
  induction i with
  | zero =>
    intro n j pu hi hg
    rw [lpX5_layOut_15.eq_2]
    exact Sx.p (nI_lt (by omega) (by omega)) (Sx.mk (fun y hy => hg y (by omega)))
  | succ i ih =>
    intro n j pu hi hg
    rw [lpX5_layOut_15.eq_2]
    refine Sx.n (nI_nlt (by omega) (by omega)) (Sx.n (show ¬ (6 : Int32) < nI j from nI_nlt (a := 6) (by omega) (by omega)) ?_)
    refine Sx.e1 (pe8 hf hT (by omega) ht) ?_
    rw [og32 (by omega) (by omega), nm_mk, nm_mk, nI_clamp (by omega), nI_1, show n + (i + 1) = n + i + 1 by omega]
    refine ih n (j + 1) _ (by omega) ?_
    intro y hy
    rw [upL]
    by_cases e : y = j
    · subst e; rw [if_pos rfl]
    · rw [if_neg e]; exact hg y (by omega)
theorem lo51 {ts : Nat → Int32} {β : Nat → Nat} {π : Nat → Nat → Nat} (hb : CB ts β) (hK : BK β) (hp : PK π) {t : Nat} (ht : t ≤ 6) {pu : Nat → Int64} (hpu : ∀ y, y ≤ t → pu y = lN (π t y)) : ∀ (i n r : Nat) (pe tu ca : Nat → Int64) (ma : Nat → Int32), r + i = 2 * 2 ^ t → 2 ^ t ≤ r → CL π β r pe tu ca ma → Sx (lpX5_layOut_51 (nI t) ts pu (n + i + 1) (nI r) pe tu ca ma) (fun z => CL π β (2 * 2 ^ t) z.1 z.2.1 z.2.2.1 z.2.2.2) := by
  have hb2 := p2b t (by omega)
  intro i
  induction i with
  | zero =>
    intro n r pe tu ca ma hi hr hg
    rw [lpX5_layOut_51.eq_2, sh2 t (by omega)]
    refine Sx.p (nI_le (by omega) (by omega)) (Sx.mk ?_)
    rw [show r = 2 * 2 ^ t by omega] at hg
    exact hg
  | succ i ih =>
    intro n r pe tu ca ma hi hr hg
    rw [lpX5_layOut_51.eq_2, sh2 t (by omega)]
    refine Sx.n (nI_ge (by omega) (by omega)) ?_
    have hd := dR_eq r (by omega) t (by omega) hr (by omega)
    have hl := lr8 hb hK hp (r := r) (by omega) (by omega) (pu := pu) (by rw [hd]; exact hpu _ (by have := (row_b1 r (by omega) (by omega)).1.2.1; omega)) hg
    rw [hd] at hl
    refine Sx.b4 hl ?_
    intro a0 a1 a2 a3 hq
    rw [nm_mk, nI_1, show n + (i + 1) = n + i + 1 by omega]
    exact ih n (r + 1) _ _ _ _ (by omega) (by omega) hq
theorem lo2 {f ts : Nat → Int32} {τ β : Nat → Nat} (hf : TC f τ) (hT : TK τ) (hb : CB ts β) (hK : BK β) : ∀ (i n t : Nat) (pu pe tu ca : Nat → Int64) (ma : Nat → Int32), t + i = τ 0 + 1 → CL (prF τ (τ 1)) β (2 ^ t) pe tu ca ma → Sx (lpX5_layOut_2 f ts (n + i + 1) (nI t) pu pe tu ca ma) (fun z => CL (prF τ (τ 1)) β (2 * 2 ^ τ 0) z.2.1 z.2.2.1 z.2.2.2.1 z.2.2.2.2) := by
  intro i
  induction i with
  | zero =>
    intro n t pu pe tu ca ma hi hg
    rw [lpX5_layOut_2.eq_2]
    refine Sx.e1 (ld8 hf hT) (Sx.p (nI_lt (by omega) (by omega)) (Sx.mk ?_))
    rw [show t = τ 0 + 1 by omega, Nat.pow_succ, Nat.mul_comm] at hg
    exact hg
  | succ i ih =>
    intro n t pu pe tu ca ma hi hg
    have hb2 := p2b t (by omega)
    rw [lpX5_layOut_2.eq_2]
    refine Sx.e1 (ld8 hf hT) (Sx.n (nI_nlt (by omega) (by omega)) ?_)
    obtain ⟨n1, hn1⟩ := fuN (t + 2) (by omega)
    obtain ⟨n2, hn2⟩ := fuN (2 ^ t + 1) (by omega)
    refine Sx.b1 (P := fun z => ∀ y, y ≤ t → z y = lN (prF τ (τ 1) t y)) (by rw [hn1, i_0]; exact lo15 hf hT (by omega) (t + 1) n1 0 pu (by omega) (fun y hy => absurd hy (by omega))) ?_
    intro pu' hpu'
    rw [nm_mk, sh1 t (by omega), hn2]
    refine Sx.b4 (lo51 hb hK (prF_PK hT (by omega)) (by omega) hpu' (2 ^ t) n2 (2 ^ t) pe tu ca ma (by omega) (Nat.le_refl _) hg) ?_
    intro a0 a1 a2 a3 hq
    rw [nm_mk, nI_1, show n + (i + 1) = n + i + 1 by omega]
    refine ih n (t + 1) _ _ _ _ _ (by omega) ?_
    rw [Nat.pow_succ, Nat.mul_comm]
    exact hq
/-- rows' values by their next rows -/
theorem vR_T {π : Nat → Nat → Nat} {T p q R : Nat} {β : Nat → Nat} {σ : Nat → Nat → Nat → Nat → Nat → Nat} {r : Nat} (h : dR r = T) : vR π T p q R β σ r = enV π T β (uR r) (bR r) := by
  unfold vR
  rw [h, Nat.sub_self]; rfl
theorem vR_s {π : Nat → Nat → Nat} {T p q R : Nat} {β : Nat → Nat} {σ : Nat → Nat → Nat → Nat → Nat → Nat} {r : Nat} (h : dR r < T) : vR π T p q R β σ r = σ (dR r) (uR r) (bR r) (mR π β r) (hR π T p q R β σ r) := by
  unfold vR hR
  obtain ⟨n, hn⟩ : ∃ n, T - dR r = n + 1 := ⟨T - dR r - 1, by omega⟩
  rw [hn, vG_s, show T - (n + 1) = dR r by omega]; rfl
theorem hR_s {π : Nat → Nat → Nat} {T p q R : Nat} {β : Nat → Nat} {σ : Nat → Nat → Nat → Nat → Nat → Nat} {r : Nat} (h1 : 1 ≤ r) (h6 : r < 64) (h : dR r < T) : hR π T p q R β σ r = mn p q R (vR π T p q R β σ (2 * r + 1)) (vR π T p q R β σ (2 * r)) := by
  obtain ⟨c1, c2, c3, _⟩ := row_s r h6 h1 1 (by omega)
  obtain ⟨d1, d2, d3, _⟩ := row_s r h6 h1 0 (by omega)
  have e1 := mR_s π β h1 h6 (show 1 < 2 by omega)
  have e0 := mR_s π β h1 h6 (show 0 < 2 by omega)
  rw [Nat.add_zero] at d1 d2 d3 e0
  unfold hR vR hG
  rw [c1, c2, c3, d1, d2, d3, e1, e0, show T - (dR r + 1) = T - dR r - 1 by omega, show T - (T - dR r - 1) = dR r + 1 by omega]
  rfl
theorem vR_b {π : Nat → Nat → Nat} {T p q R : Nat} {β : Nat → Nat} {σ : Nat → Nat → Nat → Nat → Nat → Nat} (hp : PK π) (hb : BK β) (hn : NK T p q R) (hs : SK σ) (r : Nat) : vR π T p q R β σ r ≤ 64000000007000 := vG_b hp hb hn hs (by omega) _ _ _
theorem lo83 {f ts : Nat → Int32} {τ β : Nat → Nat} {π : Nat → Nat → Nat} (hf : TC f τ) (hT : TK τ) (hb : CB ts β) (hK : BK β) (hp : PK π) {pe tu ca : Nat → Int64} {ma : Nat → Int32} (hL : CL π β (2 * 2 ^ τ 0) pe tu ca ma) (σ α : Nat → Nat → Nat → Nat → Nat → Nat) : ∀ (i n r : Nat) (ho va : Nat → Int64) (ac : Nat → Int32), r + i = 2 * 2 ^ τ 0 → 2 ^ τ 0 ≤ r → (∀ r', 2 ^ τ 0 ≤ r' → r' < r → va r' = lN (vR π (τ 0) (τ 6) (τ 7) (τ 8) β σ r') ∧ (ho r' = if dR r' = τ 0 then -2 else lN (hR π (τ 0) (τ 6) (τ 7) (τ 8) β σ r')) ∧ ac r' = nI (aR π (τ 0) (τ 6) (τ 7) (τ 8) β σ α r')) → Sx (lpX5_layOut_83 f ts tu (n + i + 1) (nI r) ho va ac) (fun z => CV π (τ 0) (τ 6) (τ 7) (τ 8) β σ α (2 ^ τ 0) z.1 z.2.1 z.2.2) := by
  have hb2 := p2b (τ 0) (by omega)
  intro i
  induction i with
  | zero =>
    intro n r ho va ac hi hr hg
    rw [lpX5_layOut_83.eq_2]
    refine Sx.e1 (lr8' hf hT) (Sx.p (nI_lt (by omega) (by omega)) (Sx.mk ?_))
    intro r' a b c
    exact hg r' a (by omega)
  | succ i ih =>
    intro n r ho va ac hi hr hg
    rw [lpX5_layOut_83.eq_2]
    refine Sx.e1 (lr8' hf hT) (Sx.n (nI_nlt (by omega) (by omega)) ?_)
    have hd := dR_eq r (by omega) (τ 0) (by omega) hr (by omega)
    refine Sx.e3 (el8 hf hT hb hK hp (by omega) (by omega) hd (hL r (by omega) (by omega)).2.1) ?_
    rw [nm_mk, nI_1, show n + (i + 1) = n + i + 1 by omega]
    refine ih n (r + 1) _ _ _ (by omega) (by omega) ?_
    intro r' a b
    rw [upL, upL, upS]
    by_cases e : r' = r
    · subst e
      rw [if_pos rfl, if_pos rfl, if_pos rfl, if_pos hd, vR_T hd]
      unfold aR
      rw [if_pos hd]
      exact ⟨rfl, rfl, rfl⟩
    · rw [if_neg e, if_neg e, if_neg e]
      exact hg r' a (by omega)
theorem lay8 {f ts : Nat → Int32} {τ β : Nat → Nat} (hf : TC f τ) (hT : TK τ) (hb : CB ts β) (hK : BK β) (σ α : Nat → Nat → Nat → Nat → Nat → Nat) (pu pe tu ca ho va : Nat → Int64) (ma ac : Nat → Int32) : Sx (fX5_layOut f ts pu pe tu ca ho va ma ac) (fun z => CL (prF τ (τ 1)) β (2 * 2 ^ τ 0) z.2.1 z.2.2.1 z.2.2.2.1 z.2.2.2.2.2.2.1 ∧ CV (prF τ (τ 1)) (τ 0) (τ 6) (τ 7) (τ 8) β σ α (2 ^ τ 0) z.2.2.2.2.1 z.2.2.2.2.2.1 z.2.2.2.2.2.2.2) := by
  have hb2 := p2b (τ 0) (by omega)
  unfold fX5_layOut
  obtain ⟨n1, hn1⟩ := fuN (τ 0 + 2) (by omega)
  obtain ⟨n2, hn2⟩ := fuN (2 ^ τ 0 + 1) (by omega)
  refine Sx.b5 (P := fun z => CL (prF τ (τ 1)) β (2 * 2 ^ τ 0) z.2.1 z.2.2.1 z.2.2.2.1 z.2.2.2.2) (by rw [hn1, i_0]; exact lo2 hf hT hb hK (τ 0 + 1) n1 0 pu pe tu ca ma (by omega) (fun r a b => absurd b (by omega))) ?_
  intro a0 a1 a2 a3 a4 hL
  refine Sx.e1 (ra8 hf hT) ?_
  rw [nm_mk, nI_1, Nat.sub_add_cancel (by omega), hn2]
  refine Sx.b3 (lo83 hf hT hb hK (prF_PK hT (by omega)) hL σ α (2 ^ τ 0) n2 (2 ^ τ 0) ho va ac (by omega) (Nat.le_refl _) (fun r' a b => absurd b (by omega))) ?_
  intro b0 b1 b2 hV
  exact Sx.mk ⟨hL, hV⟩
theorem CV.up {π : Nat → Nat → Nat} {T p q R : Nat} {β : Nat → Nat} {σ α : Nat → Nat → Nat → Nat → Nat → Nat} {r : Nat} {ho va : Nat → Int64} {ac : Nat → Int32} (h1 : 1 ≤ r) (h6 : r < 64) (hd : dR r < T) (h : CV π T p q R β σ α (r + 1) ho va ac) {x y : Int64} {z : Int32} (ex : x = lN (mn p q R (vR π T p q R β σ (2 * r + 1)) (vR π T p q R β σ (2 * r)))) (ey : y = lN (σ (dR r) (uR r) (bR r) (mR π β r) (mn p q R (vR π T p q R β σ (2 * r + 1)) (vR π T p q R β σ (2 * r))))) (ez : z = nI (α (dR r) (uR r) (bR r) (mR π β r) (mn p q R (vR π T p q R β σ (2 * r + 1)) (vR π T p q R β σ (2 * r))))) : CV π T p q R β σ α r (vp_updL ho r x) (vp_updL va r y) (upd ac r z) := by
  intro r' a b c
  rw [upL, upL, upS]
  by_cases e : r' = r
  · subst e
    rw [if_pos rfl, if_pos rfl, if_pos rfl, if_neg (show ¬ dR r' = T by omega), vR_s hd, hR_s h1 h6 hd]
    unfold aR
    rw [if_neg (show ¬ dR r' = T by omega), hR_s h1 h6 hd]
    exact ⟨ey, ex, ez⟩
  · rw [if_neg e, if_neg e, if_neg e]
    exact h r' (by omega) b c
theorem row_lt {r T : Nat} (h1 : 1 ≤ r) (h : r < 2 ^ T) (hT : T ≤ 6) : dR r < T ∧ 2 * r + 1 < 2 * 2 ^ T := by
  have hb2 := p2b T (by omega)
  obtain ⟨⟨b1, b2, b3⟩, b4, b5, b6⟩ := row_b1 r (by omega) h1
  refine ⟨?_, by omega⟩
  by_cases g : dR r < T
  · exact g
  · have := Nat.pow_le_pow_right (show 0 < 2 by omega) (show T ≤ dR r by omega)
    omega
theorem pb9 {f ts : Nat → Int32} {τ β : Nat → Nat} {π : Nat → Nat → Nat} (hf : TC f τ) (hT : TK τ) (hb : CB ts β) (hK : BK β) (hp : PK π) {pe tu ca : Nat → Int64} {ma : Nat → Int32} (hL : CL π β (2 * 2 ^ τ 0) pe tu ca ma) : ∀ (r n : Nat) (ho va : Nat → Int64) (ac : Nat → Int32), r < 2 ^ τ 0 → CV π (τ 0) (τ 6) (τ 7) (τ 8) β (bV π β) (bA π β) (r + 1) ho va ac → Sx (lpX5_playBest_9 f ts tu ca (n + r + 1) (nI r) ho va ac) (fun z => CV π (τ 0) (τ 6) (τ 7) (τ 8) β (bV π β) (bA π β) 1 z.1 z.2.1 z.2.2) := by
  have hb2 := p2b (τ 0) (by omega)
  intro r
  induction r with
  | zero =>
    intro n ho va ac hr hg
    rw [lpX5_playBest_9.eq_2]
    exact Sx.p (show nI 0 < (1 : Int32) by decide) (Sx.mk hg)
  | succ r ih =>
    intro n ho va ac hr hg
    rw [lpX5_playBest_9.eq_2]
    obtain ⟨g1, g2⟩ := row_lt (show 1 ≤ r + 1 by omega) hr (by omega)
    refine Sx.n (show ¬ nI (r + 1) < (1 : Int32) from nI_nlt (b := 1) (by omega) (by omega)) ?_
    refine Sx.e1 (day8 (r + 1) (by omega) (by omega)) ?_
    have v1 := (hg (2 * (r + 1) + 1) (by omega) (by omega) (by omega)).1
    have v0 := (hg (2 * (r + 1)) (by omega) (by omega) (by omega)).1
    have hl := hL (r + 1) (by omega) (by omega)
    have hN : NK (τ 0) (τ 6) (τ 7) (τ 8) := ⟨by omega, by omega, by omega⟩
    refine Sx.e3 (cb8 hf hT hb hK hp (by omega) (by omega) hl.2.1 hl.2.2.1 v1 v0 (vR_b hp hK hN (bV_SK hp hK) _) (vR_b hp hK hN (bV_SK hp hK) _)) ?_
    rw [nm_mk, pk_m1, show n + (r + 1) = n + r + 1 by omega]
    exact ih n _ _ _ (by omega) (hg.up (by omega) (by omega) g1 rfl rfl rfl)
theorem pr9' {f ts : Nat → Int32} {τ β : Nat → Nat} {π : Nat → Nat → Nat} (hf : TC f τ) (hT : TK τ) (hb : CB ts β) (hK : BK β) (hp : PK π) {x y : Nat} (hx : x ≤ 1000000) (hy : y ≤ 1000000) {pe tu ca : Nat → Int64} {ma : Nat → Int32} (hL : CL π β (2 * 2 ^ τ 0) pe tu ca ma) : ∀ (r n : Nat) (ho va : Nat → Int64) (ac : Nat → Int32), r < 2 ^ τ 0 → CV π (τ 0) (τ 6) (τ 7) (τ 8) β (rV x y π β) (fun t j u m _ => rA x y π β t j u m) (r + 1) ho va ac → Sx (lpX5_playByRule_9 (nI x) (nI y) f ts pe tu ca (n + r + 1) (nI r) ho va ac) (fun z => CV π (τ 0) (τ 6) (τ 7) (τ 8) β (rV x y π β) (fun t j u m _ => rA x y π β t j u m) 1 z.1 z.2.1 z.2.2) := by
  have hb2 := p2b (τ 0) (by omega)
  intro r
  induction r with
  | zero =>
    intro n ho va ac hr hg
    rw [lpX5_playByRule_9.eq_2]
    exact Sx.p (show nI 0 < (1 : Int32) by decide) (Sx.mk hg)
  | succ r ih =>
    intro n ho va ac hr hg
    rw [lpX5_playByRule_9.eq_2]
    obtain ⟨g1, g2⟩ := row_lt (show 1 ≤ r + 1 by omega) hr (by omega)
    refine Sx.n (show ¬ nI (r + 1) < (1 : Int32) from nI_nlt (b := 1) (by omega) (by omega)) ?_
    refine Sx.e1 (day8 (r + 1) (by omega) (by omega)) ?_
    have v1 := (hg (2 * (r + 1) + 1) (by omega) (by omega) (by omega)).1
    have v0 := (hg (2 * (r + 1)) (by omega) (by omega) (by omega)).1
    have hl := hL (r + 1) (by omega) (by omega)
    have hN : NK (τ 0) (τ 6) (τ 7) (τ 8) := ⟨by omega, by omega, by omega⟩
    refine Sx.e3 (rb8 hf hT hb hK hp hx hy (by omega) (by omega) hl.1 hl.2.1 hl.2.2.1 v1 v0 (vR_b hp hK hN (rV_SK x y hp hK) _) (vR_b hp hK hN (rV_SK x y hp hK) _)) ?_
    rw [nm_mk, pk_m1, show n + (r + 1) = n + r + 1 by omega]
    exact ih n _ _ _ (by omega) (hg.up (by omega) (by omega) g1 rfl rfl rfl)
/-- a sheet, played best -/
def SB (τ β : Nat → Nat) (pe tu ca ho va : Nat → Int64) (ma ac : Nat → Int32) : Prop := CL (prF τ (τ 1)) β (2 * 2 ^ τ 0) pe tu ca ma ∧ CV (prF τ (τ 1)) (τ 0) (τ 6) (τ 7) (τ 8) β (bV (prF τ (τ 1)) β) (bA (prF τ (τ 1)) β) 1 ho va ac
theorem pb8 {f ts : Nat → Int32} {τ β : Nat → Nat} (hf : TC f τ) (hT : TK τ) (hb : CB ts β) (hK : BK β) (pu pe tu ca ho va : Nat → Int64) (ma ac : Nat → Int32) : Sx (fX5_playBest f ts pu pe tu ca ho va ma ac) (fun z => SB τ β z.2.1 z.2.2.1 z.2.2.2.1 z.2.2.2.2.1 z.2.2.2.2.2.1 z.2.2.2.2.2.2.1 z.2.2.2.2.2.2.2) := by
  have hb2 := p2b (τ 0) (by omega)
  unfold fX5_playBest
  refine Sx.b8 (lay8 hf hT hb hK (bV (prF τ (τ 1)) β) (bA (prF τ (τ 1)) β) pu pe tu ca ho va ma ac) ?_
  intro a0 a1 a2 a3 a4 a5 a6 a7 hq
  refine Sx.e1 (ra8 hf hT) ?_
  obtain ⟨n2, hn2⟩ := fuN (2 ^ τ 0) (by omega)
  rw [hn2, show n2 + 2 ^ τ 0 = n2 + (2 ^ τ 0 - 1) + 1 by omega]
  refine Sx.b3 (pb9 hf hT hb hK (prF_PK hT (by omega)) hq.1 (2 ^ τ 0 - 1) n2 _ _ _ (by omega) (by rw [Nat.sub_add_cancel (by omega)]; exact hq.2)) ?_
  intro b0 b1 b2 hV
  exact Sx.mk ⟨hq.1, hV⟩
def SR (x y : Nat) (τ β : Nat → Nat) (pe tu ca ho va : Nat → Int64) (ma ac : Nat → Int32) : Prop := CL (prF τ (τ 1)) β (2 * 2 ^ τ 0) pe tu ca ma ∧ CV (prF τ (τ 1)) (τ 0) (τ 6) (τ 7) (τ 8) β (rV x y (prF τ (τ 1)) β) (fun t j u m _ => rA x y (prF τ (τ 1)) β t j u m) 1 ho va ac
theorem prl8 {f ts : Nat → Int32} {τ β : Nat → Nat} (hf : TC f τ) (hT : TK τ) (hb : CB ts β) (hK : BK β) {x y : Nat} (hx : x ≤ 1000000) (hy : y ≤ 1000000) (pu pe tu ca ho va : Nat → Int64) (ma ac : Nat → Int32) : Sx (fX5_playByRule (nI x) (nI y) f ts pu pe tu ca ho va ma ac) (fun z => SR x y τ β z.2.1 z.2.2.1 z.2.2.2.1 z.2.2.2.2.1 z.2.2.2.2.2.1 z.2.2.2.2.2.2.1 z.2.2.2.2.2.2.2) := by
  have hb2 := p2b (τ 0) (by omega)
  unfold fX5_playByRule
  refine Sx.b8 (lay8 hf hT hb hK (rV x y (prF τ (τ 1)) β) (fun t j u m _ => rA x y (prF τ (τ 1)) β t j u m) pu pe tu ca ho va ma ac) ?_
  intro a0 a1 a2 a3 a4 a5 a6 a7 hq
  refine Sx.e1 (ra8 hf hT) ?_
  obtain ⟨n2, hn2⟩ := fuN (2 ^ τ 0) (by omega)
  rw [hn2, show n2 + 2 ^ τ 0 = n2 + (2 ^ τ 0 - 1) + 1 by omega]
  refine Sx.b3 (pr9' hf hT hb hK (prF_PK hT (by omega)) hx hy hq.1 (2 ^ τ 0 - 1) n2 _ _ _ (by omega) (by rw [Nat.sub_add_cancel (by omega)]; exact hq.2)) ?_
  intro b0 b1 b2 hV
  exact Sx.mk ⟨hq.1, hV⟩
end
section
/-! pure: the value on day 0, both sides; copies (own rows) -/
def V0 (π : Nat → Nat → Nat) (T p q R : Nat) (β : Nat → Nat) : Nat := vG π T p q R β (bV π β) T 0 0 (hiF β (π 0 0))
def V1 (τ β : Nat → Nat) : Nat := V0 (prF τ (τ 1)) (τ 0) (τ 6) (τ 7) (τ 8) β
theorem V0_b {π : Nat → Nat → Nat} {T p q R : Nat} {β : Nat → Nat} (hp : PK π) (hb : BK β) (hn : NK T p q R) : V0 π T p q R β ≤ 64000000007000 := vG_b hp hb hn (bV_SK hp hb) (by omega) _ _ _
theorem TK.n {τ : Nat → Nat} (h : TK τ) : NK (τ 0) (τ 6) (τ 7) (τ 8) := ⟨by omega, by omega, by omega⟩
theorem V1_b {τ β : Nat → Nat} (hT : TK τ) (hb : BK β) : V1 τ β ≤ 64000000007000 := V0_b (prF_PK hT (by omega)) hb hT.n
theorem vR_1 (π : Nat → Nat → Nat) (T p q R : Nat) (β : Nat → Nat) (σ : Nat → Nat → Nat → Nat → Nat → Nat) : vR π T p q R β σ 1 = vG π T p q R β σ T 0 0 (hiF β (π 0 0)) := by
  unfold vR
  rw [mR_1, show dR 1 = 0 by decide +kernel, show uR 1 = 0 by decide +kernel, show bR 1 = 0 by decide +kernel, Nat.sub_zero]
theorem root8 {τ β : Nat → Nat} {pe tu ca ho va : Nat → Int64} {ma ac : Nat → Int32} (hS : SB τ β pe tu ca ho va ma ac) : fX5_valueAt 1 va = some (lN (V1 τ β)) := by
  have h2 := Nat.two_pow_pos (τ 0)
  rw [i_1, va8 (by omega) (by omega), (hS.2 1 (Nat.le_refl 1) (Nat.le_refl 1) (by omega)).1, vR_1]
  rfl
theorem rootR {x y : Nat} {τ β : Nat → Nat} {pe tu ca ho va : Nat → Int64} {ma ac : Nat → Int32} (hS : SR x y τ β pe tu ca ho va ma ac) : fX5_valueAt 1 va = some (lN (vG (prF τ (τ 1)) (τ 0) (τ 6) (τ 7) (τ 8) β (rV x y (prF τ (τ 1)) β) (τ 0) 0 0 (hiF β (prF τ (τ 1) 0 0)))) := by
  have h2 := Nat.two_pow_pos (τ 0)
  rw [i_1, va8 (by omega) (by omega), (hS.2 1 (Nat.le_refl 1) (Nat.le_refl 1) (by omega)).1, vR_1]
theorem be9 {bs : Nat → Int32} {pe : Nat → Int64} {k T : Nat} {β : Nat → Nat} {π : Nat → Nat → Nat} (hb : RB bs k β) (hK : BK β) (hp : PK π) (hP : RP pe T π) (hT : T ≤ 6) : fX9_begin (nI k) bs pe = some (nI (atN 0 0 0 (hiF β (π 0 0)))) := by
  unfold fX9_begin
  rw [i_0, hi9 hb hK hp hP hT (Nat.le_refl 0) (Nat.zero_le T), bd1_mk, at9, bd1_mk]
theorem ok0 (π : Nat → Nat → Nat) (β : Nat → Nat) : okM π β 0 0 0 (hiF β (π 0 0)) := by
  have := hiF_lt β (π 0 0)
  exact ⟨by omega, by omega, by omega⟩
theorem vo9 {bs : Nat → Int32} {pe : Nat → Int64} {k T p q R : Nat} {β : Nat → Nat} {π : Nat → Nat → Nat} (hb : RB bs k β) (hK : BK β) (hp : PK π) (hP : RP pe T π) (hN : NK T p q R) (wo ho : Nat → Int64) (ac : Nat → Int32) : Sx (fX9_valueOf (nI k) bs (nI T) (nI p) (nI q) (nI R) pe wo ho ac) (fun z => z.1 = lN (V0 π T p q R β)) := by
  unfold fX9_valueOf
  refine Sx.b3 (pl9 hb hK hp hP hN wo ho ac) ?_
  intro a0 a1 a2 hg
  refine Sx.e1 (be9 hb hK hp hP hN.1.2) ?_
  have hl := hiF_lt β (π 0 0)
  have h784 : atN 0 0 0 (hiF β (π 0 0)) < 784 := atN_lt (by omega) (by omega) (by omega) (by omega)
  rw [og32 h784 (by omega), nI_clamp (by omega)]
  refine Sx.mk ?_
  exact (hg 0 0 0 (hiF β (π 0 0)) (Nat.zero_le T) (ok0 π β) trivial).1
theorem isb9' {k : Nat} (h : k < 3) : fX9_isBond (nI k) = some 1 := by
  unfold fX9_isBond
  rw [in_eq (A := 0) (B := 2) rfl rfl, bd1_mk, og_mk _ boB_bI, bI_t]
  rw [inr_nI (by omega)]; omega
theorem isb9n {x : Int32} (h : ¬ inr x 0 2) : fX9_isBond x = some 0 := by
  unfold fX9_isBond
  rw [in_eq (A := 0) (B := 2) rfl rfl, bd1_mk, og_mk _ boB_bI, bI_f h]
theorem isb8' {k : Nat} (h : k < 3) : fX8_isBond (nI k) = some 1 := by
  unfold fX8_isBond
  rw [wi_eq (A := 0) (B := 2) rfl rfl, bd1_mk, og_mk _ boB_bI, bI_t]
  rw [inr_nI (by omega)]; omega
theorem isb8n {x : Int32} (h : ¬ inr x 0 2) : fX8_isBond x = some 0 := by
  unfold fX8_isBond
  rw [wi_eq (A := 0) (B := 2) rfl rfl, bd1_mk, og_mk _ boB_bI, bI_f h]
/-- copies of the class -/
theorem TC.cpy {f g : Nat → Int32} {τ : Nat → Nat} (h : TC f τ) : TC (va_cpy f g 0 0 9) τ := by
  intro i hi
  rw [pk_cpy_in (by omega) (by omega), Nat.zero_add, Nat.sub_zero, h i hi]
theorem cpy36 {f g : Nat → Int32} {i : Nat} (h : i < 36) : va_cpy f g 0 0 36 i = f i := by
  rw [pk_cpy_in (by omega) (by omega), Nat.zero_add, Nat.sub_zero]
theorem CB.of {f g : Nat → Int32} {β : Nat → Nat} (h : CB f β) (e : ∀ i, i < 36 → g i = f i) : CB g β := by
  obtain ⟨⟨⟨a0, a1⟩, ⟨a2, a3⟩, ⟨a4, a5, a6⟩, a7⟩, b1, b2, b3⟩ := h
  refine ⟨⟨⟨?_, ?_⟩, ⟨?_, ?_⟩, ⟨?_, ?_, ?_⟩, ?_⟩, fun t h1 h2 => ?_, fun t h1 => ?_, fun t h1 => ?_⟩
  · rw [e 0 (by omega), a0]
  · rw [e 1 (by omega), a1]
  · rw [e 2 (by omega), a2]
  · rw [e 3 (by omega), a3]
  · rw [e 4 (by omega), a4]
  · rw [e 5 (by omega), a5]
  · rw [e 6 (by omega), a6]
  · rw [e 7 (by omega), a7]
  · rw [e (10 + t) (by omega), b1 t h1 h2]
  · rw [e (20 + t) (by omega), b2 t h1]
  · rw [e (30 + t) (by omega), b3 t h1]
theorem CB.cpy {f g : Nat → Int32} {β : Nat → Nat} (h : CB f β) : CB (va_cpy f g 0 0 36) β := h.of (fun _ hi => cpy36 hi)
def bsel {α : Type} (k : Nat) (b0 b1 b2 : α) : α := if k = 0 then b0 else if k = 1 then b1 else b2
theorem tkx8 (st sb d1 d2 : Nat → Int32) : fX5_take st sb d1 d2 = some (va_cpy d1 st 0 0 9, va_cpy d2 sb 0 0 36) := by
  unfold fX5_take fX7_takeFrom fX0_takeFrom
  rw [cl_0, cl_9, cl_36]; rfl
theorem sel8 {k : Nat} (hk : k < 3) (st sb d1 b0 b1 b2 : Nat → Int32) : (if nI k = 0 then bd2 (fX5_take st sb d1 b0) (fun x y => some (x, y)) else if nI k = 1 then bd2 (fX5_take st sb d1 b1) (fun x y => some (x, y)) else bd2 (fX5_take st sb d1 b2) (fun x y => some (x, y))) = some (va_cpy d1 st 0 0 9, va_cpy (bsel k b0 b1 b2) sb 0 0 36) := by
  rcases (show k = 0 ∨ k = 1 ∨ k = 2 by omega) with rfl | rfl | rfl
  · rw [if_pos (show nI 0 = (0 : Int32) from rfl), tkx8, bd2_mk]; rfl
  · rw [if_neg (show ¬ nI 1 = (0 : Int32) from one0), if_pos (show nI 1 = (1 : Int32) from rfl), tkx8, bd2_mk]; rfl
  · rw [if_neg (show ¬ nI 2 = (0 : Int32) by decide), if_neg (show ¬ nI 2 = (1 : Int32) by decide), tkx8, bd2_mk]; rfl
/-- the class's three bonds -/
abbrev CB3 (b0 b1 b2 : Nat → Int32) (B : Nat → Nat → Nat) : Prop := ∀ k, k < 3 → CB (bsel k b0 b1 b2) (B k) ∧ BK (B k)
theorem wo8 {k : Nat} (hk : k < 3) {tr b0 b1 b2 : Nat → Int32} {τ : Nat → Nat} {B : Nat → Nat → Nat} (hf : TC tr τ) (hT : TK τ) (hB : CB3 b0 b1 b2 B) (st sb : Nat → Int32) (pu pe tu ca ho va : Nat → Int64) (ma ac : Nat → Int32) : Sx (fX8_workOut (nI k) tr b0 b1 b2 st sb pu pe tu ca ho va ma ac) (fun z => TC z.1 τ ∧ CB z.2.1 (B k) ∧ SB τ (B k) z.2.2.2.1 z.2.2.2.2.1 z.2.2.2.2.2.1 z.2.2.2.2.2.2.1 z.2.2.2.2.2.2.2.1 z.2.2.2.2.2.2.2.2.1 z.2.2.2.2.2.2.2.2.2) := by
  unfold fX8_workOut
  rw [isb8' hk, bd1_mk, if_neg one0, og32 (by omega) (by omega), sel8 hk, bd2_mk]
  have hc : CB (va_cpy (bsel k b0 b1 b2) sb 0 0 36) (B k) := (hB k hk).1.cpy
  refine Sx.b10 (P := fun z => TC z.1 τ ∧ CB z.2.1 (B k) ∧ SB τ (B k) z.2.2.2.1 z.2.2.2.2.1 z.2.2.2.2.2.1 z.2.2.2.2.2.2.1 z.2.2.2.2.2.2.2.1 z.2.2.2.2.2.2.2.2.1 z.2.2.2.2.2.2.2.2.2) (Sx.b8 (pb8 (TC.cpy hf) hT hc (hB k hk).2 pu pe tu ca ho va ma ac) ?_) (fun _ _ _ _ _ _ _ _ _ _ h => Sx.mk h)
  intro a0 a1 a2 a3 a4 a5 a6 a7 hs
  exact Sx.mk ⟨TC.cpy hf, hc, hs⟩
/-- the reference's bonds: one set, copies -/
theorem se9 {bs : Nat → Int32} {k a : Nat} (h : 27 * k + a < 135) (v : Int32) : fX9_sets (nI k) (nI a) v bs = some (upd bs (27 * k + a) v) := by
  unfold fX9_sets
  rw [i_27, pk_mul, nI_add, og32 h (by omega), nm_mk, nI_clamp (by omega)]
theorem co2 {k l : Nat} (hk : k < 5) (hl : l < 5) (hkl : k ≠ l) (b0 : Nat → Int32) : ∀ (i n x : Nat) (bs : Nat → Int32), x + i = 27 → (∀ y, bs y = if 27 * l ≤ y ∧ y < 27 * l + x then b0 (y - 27 * l + 27 * k) else b0 y) → Sx (lpX9_copies_2 (nI k) (nI l) (n + i + 1) (nI x) bs) (fun z => ∀ y, z y = if 27 * l ≤ y ∧ y < 27 * l + 27 then b0 (y - 27 * l + 27 * k) else b0 y) := by
  intro i
  induction i with
  | zero =>
    intro n x bs hi hg
    rw [lpX9_copies_2.eq_2, show x = 27 by omega]
    refine Sx.p (show (27 : Int32) ≤ nI 27 from nI_le (a := 27) (Nat.le_refl _) (by omega)) (Sx.mk ?_)
    rw [show x = 27 by omega] at hg
    exact hg
  | succ i ih =>
    intro n x bs hi hg
    rw [lpX9_copies_2.eq_2]
    refine Sx.n (show ¬ (27 : Int32) ≤ nI x from nI_ge (b := 27) (by omega) (by omega)) ?_
    have e : fX9_of (nI k) (nI x) bs = some (b0 (27 * k + x)) := by
      unfold fX9_of
      rw [i_27, pk_mul, nI_add, og32 (by omega) (by omega), nI_clamp (by omega), hg, if_neg (by omega)]
    refine Sx.e1 e (Sx.e1 (se9 (by omega) _) ?_)
    rw [nm_mk, nI_1, show n + (i + 1) = n + i + 1 by omega]
    refine ih n (x + 1) _ (by omega) ?_
    intro y
    rw [upS]
    by_cases h : y = 27 * l + x
    · rw [if_pos h, if_pos (by omega)]
      congr 1
      omega
    · rw [if_neg h, hg]
      by_cases h2 : 27 * l ≤ y ∧ y < 27 * l + x
      · rw [if_pos h2, if_pos (by omega)]
      · rw [if_neg h2, if_neg (by omega)]
/-- outside the block of bond l nothing changes -/
abbrev FrB (l : Nat) (bs bs' : Nat → Int32) : Prop := ∀ y, ¬ (27 * l ≤ y ∧ y < 27 * l + 27) → bs' y = bs y
theorem cy9 {k l : Nat} (hk : k < 5) (hl : l < 5) (hkl : k ≠ l) {bs : Nat → Int32} {β : Nat → Nat} (hb : RB bs k β) : Sx (fX9_copies (nI k) (nI l) bs) (fun z => RB z l β ∧ FrB l bs z) := by
  unfold fX9_copies
  obtain ⟨n, hn⟩ := fuN 28 (by omega)
  rw [hn, i_0]
  refine Sx.b1 (co2 hk hl hkl bs 27 n 0 bs (by omega) (fun y => by rw [if_neg (by omega)])) ?_
  intro z hz
  refine Sx.mk ⟨⟨hl, fun i hi => ?_⟩, fun y hy => ?_⟩
  · rw [hz, if_pos (by omega), show 27 * l + i - 27 * l + 27 * k = 27 * k + i by omega, hb.2 i hi]
  · rw [hz, if_neg hy]
theorem RB.fr {bs bs' : Nat → Int32} {k l : Nat} {β : Nat → Nat} (h : RB bs k β) (hkl : k ≠ l) (hf : FrB l bs bs') : RB bs' k β := by
  refine ⟨h.1, fun i hi => ?_⟩
  rw [hf _ (by omega), h.2 i hi]
/-- one number of a bond -/
def bup (β : Nat → Nat) (a v : Nat) : Nat → Nat := fun i => if i = a then v else β i
theorem RB.up {bs : Nat → Int32} {k : Nat} {β : Nat → Nat} (h : RB bs k β) {a : Nat} (ha : a < 27) {v : Nat} {x : Int32} (hx : x = rI (bup β a v) a) : RB (upd bs (27 * k + a) x) k (bup β a v) := by
  refine ⟨h.1, fun i hi => ?_⟩
  rw [upS]
  by_cases e : i = a
  · subst e; rw [if_pos rfl, hx]
  · rw [if_neg (by omega), h.2 i hi]
    unfold rI bup
    rw [if_neg e]
theorem FrB.up {bs : Nat → Int32} {k a : Nat} (ha : a < 27) (x : Int32) : FrB k bs (upd bs (27 * k + a) x) := by
  intro y hy
  rw [upS, if_neg (by omega)]
theorem FrB.refl (k : Nat) (bs : Nat → Int32) : FrB k bs bs := fun _ _ => rfl
theorem FrB.tr {k : Nat} {a b c : Nat → Int32} (h : FrB k a b) (g : FrB k b c) : FrB k a c := fun y hy => (g y hy).trans (h y hy)
end
section
/-! pure: the value rises with coupon and ratio, falls with the rate; least ones (own rows) -/
theorem bG_eq (π : Nat → Nat → Nat) (β : Nat → Nat) (t j u m h : Nat) : bG π β t j u m h = max (max (puL β t) (tuS π β t j u)) (if frF β t m then min (cgS π β t j u) (h + 1) else h + 1) := by
  unfold bG
  by_cases h1 : frF β t m
  · rw [if_pos h1]
    by_cases h2 : cgS π β t j u < h + 1
    · rw [if_pos ⟨h1, h2⟩, Nat.min_eq_left (by omega)]
    · rw [if_neg (fun q => h2 q.2), Nat.min_eq_right (by omega)]
  · rw [if_neg h1, if_neg (fun q => h1 q.1)]
theorem mn_mono {p q R R' a b a' b' : Nat} (hq : 1 ≤ q) (hR : R' ≤ R) (ha : a ≤ a') (hb : b ≤ b') : mn p q R a b ≤ mn p q R' a' b' := by
  unfold mn
  refine Nat.div_le_div ?_ ?_ ?_
  · exact Nat.mul_le_mul (Nat.add_le_add (Nat.mul_le_mul (Nat.le_refl p) ha) (Nat.mul_le_mul (Nat.le_refl _) hb)) (Nat.le_refl _)
  · exact Nat.mul_le_mul (Nat.le_refl q) (by omega)
  · exact Nat.pos_iff_ne_zero.mp (Nat.mul_pos hq (by omega))
/-- two bonds, the one no more than the other -/
abbrev BL (π : Nat → Nat → Nat) (β β' : Nat → Nat) : Prop := β 0 ≤ β' 0 ∧ β 23 = β' 23 ∧ β 24 = β' 24 ∧ β 25 = β' 25 ∧ (∀ t, caL β t = caL β' t) ∧ (∀ t, puL β t = puL β' t) ∧ (∀ t, cpF β t ≤ cpF β' t) ∧ (∀ t j u, tuS π β t j u ≤ tuS π β' t j u)
theorem vG_mono {π : Nat → Nat → Nat} {T p q R R' : Nat} {β β' : Nat → Nat} (hq : 1 ≤ q) (hR : R' ≤ R) (h : BL π β β') : ∀ n j u m, vG π T p q R β (bV π β) n j u m ≤ vG π T p q R' β' (bV π β') n j u m := by
  obtain ⟨h0, h23, h24, h25, hca, hpu, hcp, htu⟩ := h
  have hhi : ∀ x, hiF β x = hiF β' x := fun x => by unfold hiF; rw [h25]
  have hmk : ∀ m t j, mkF π β m t j = mkF π β' m t j := fun m t j => by unfold mkF; rw [hhi]
  intro n
  induction n with
  | zero =>
    intro j u m
    rw [vG_0, vG_0]
    unfold enV
    have := hcp T
    have := htu T j u
    omega
  | succ n ih =>
    intro j u m
    rw [vG_s, vG_s]
    have hh : hG π T p q R β (bV π β) n j m ≤ hG π T p q R' β' (bV π β') n j m := by
      unfold hG
      refine mn_mono hq hR ?_ ?_
      · rw [hmk]; exact ih _ _ _
      · rw [hmk]; exact ih _ _ _
    generalize hG π T p q R β (bV π β) n j m = a at hh ⊢
    generalize hG π T p q R' β' (bV π β') n j m = b at hh ⊢
    generalize T - (n + 1) = t
    unfold bV
    rw [bG_eq, bG_eq]
    have e1 := hcp t
    have e2 := htu t j u
    have e3 := hpu t
    have e4 := hca t
    have e5 : hdF β m = hdF β' m := by unfold hdF; rw [h24]
    have e6 : cgS π β t j u ≤ cgS π β' t j u := by unfold cgS; omega
    by_cases g : frF β t m
    · have g' : frF β' t m := by unfold frF; rw [← e4, ← h23, ← e5]; exact g
      rw [if_pos g, if_pos g']
      omega
    · have g' : ¬ frF β' t m := by unfold frF; rw [← e4, ← h23, ← e5]; exact g
      rw [if_neg g, if_neg g']
      omega
theorem V0_mono {π : Nat → Nat → Nat} {T p q R R' : Nat} {β β' : Nat → Nat} (hq : 1 ≤ q) (hR : R' ≤ R) (h : BL π β β') : V0 π T p q R β ≤ V0 π T p q R' β' := by
  unfold V0
  have e : hiF β (π 0 0) = hiF β' (π 0 0) := by unfold hiF; rw [h.2.2.2.1]
  rw [e]
  exact vG_mono hq hR h _ _ _ _
def setc (β : Nat → Nat) (c : Nat) : Nat → Nat := fun i => if 3 ≤ i ∧ i ≤ 8 then c else β i
theorem setc_n (β : Nat → Nat) (c : Nat) {i : Nat} (h : ¬ (3 ≤ i ∧ i ≤ 8)) : setc β c i = β i := if_neg h
theorem setc_y (β : Nat → Nat) (c : Nat) {i : Nat} (h : 3 ≤ i ∧ i ≤ 8) : setc β c i = c := if_pos h
theorem setc_BK {β : Nat → Nat} (h : BK β) {c : Nat} (hc : c ≤ 1000) : BK (setc β c) := by
  obtain ⟨a, b, c1, d, e, f, g, i, j, k, l⟩ := h
  refine ⟨?_, ?_, ?_, ?_, ?_, ?_, ?_, ?_, ?_, ?_, ?_⟩
  · rw [setc_n _ _ (by omega)]; exact a
  · rw [setc_n _ _ (by omega)]; exact b
  · intro t h1 h2; rw [setc_y _ _ (by omega)]; exact hc
  · intro t h1; rw [setc_n _ _ (by omega)]; exact d t h1
  · intro t h1; rw [setc_n _ _ (by omega)]; exact e t h1
  all_goals rw [setc_n _ _ (by omega)]; assumption
theorem setc_BL (π : Nat → Nat → Nat) (β : Nat → Nat) {c c' : Nat} (h : c ≤ c') : BL π (setc β c) (setc β c') := by
  have e : ∀ {i}, ¬ (3 ≤ i ∧ i ≤ 8) → setc β c i = setc β c' i := fun hi => by rw [setc_n _ _ hi, setc_n _ _ hi]
  refine ⟨by rw [e (by omega)]; exact Nat.le_refl _, e (by omega), e (by omega), e (by omega), ?_, ?_, ?_, ?_⟩
  · intro t; unfold caL; split
    · exact e (by omega)
    · rfl
  · intro t; unfold puL; split
    · exact e (by omega)
    · rfl
  · intro t; unfold cpF; split
    · rw [setc_y _ _ (by omega), setc_y _ _ (by omega)]; exact h
    · exact Nat.le_refl _
  · intro t j u
    unfold tuS tuF twF shF caF inW
    rw [e (i := 21) (by omega), e (i := 22) (by omega), e (i := 26) (by omega), e (i := 1) (by omega)]
    exact Nat.le_refl _
theorem bup_s (β : Nat → Nat) (a v : Nat) : bup β a v a = v := if_pos rfl
theorem bup_n (β : Nat → Nat) {a i : Nat} (v : Nat) (h : i ≠ a) : bup β a v i = β i := if_neg h
theorem bup1_BK {β : Nat → Nat} (h : BK β) {c : Nat} (hc : c ≤ 1000) : BK (bup β 1 c) := by
  obtain ⟨a, b, c1, d, e, f, g, i, j, k, l⟩ := h
  refine ⟨?_, ?_, ?_, ?_, ?_, ?_, ?_, ?_, ?_, ?_, ?_⟩
  · rw [bup_n _ _ (by omega)]; exact a
  · rw [bup_s]; exact hc
  · intro t h1 h2; rw [bup_n _ _ (by omega)]; exact c1 t h1 h2
  · intro t h1; rw [bup_n _ _ (by omega)]; exact d t h1
  · intro t h1; rw [bup_n _ _ (by omega)]; exact e t h1
  all_goals rw [bup_n _ _ (by omega)]; assumption
theorem bup1_BL (π : Nat → Nat → Nat) (β : Nat → Nat) {c c' : Nat} (h : c ≤ c') : BL π (bup β 1 c) (bup β 1 c') := by
  have e : ∀ {i}, i ≠ 1 → bup β 1 c i = bup β 1 c' i := fun hi => by rw [bup_n _ _ hi, bup_n _ _ hi]
  refine ⟨by rw [e (by omega)]; exact Nat.le_refl _, e (by omega), e (by omega), e (by omega), ?_, ?_, ?_, ?_⟩
  · intro t; unfold caL; split
    · exact e (by omega)
    · rfl
  · intro t; unfold puL; split
    · exact e (by omega)
    · rfl
  · intro t; unfold cpF; split
    · rw [e (by omega)]; exact Nat.le_refl _
    · exact Nat.le_refl _
  · intro t j u
    have s : ∀ x, shF (bup β 1 c) x ≤ shF (bup β 1 c') x := fun x => by
      unfold shF; rw [bup_s, bup_s]; exact Nat.div_le_div_right (Nat.mul_le_mul h (Nat.le_refl _))
    have k : ∀ x y, caF (bup β 1 c) x y ≤ caF (bup β 1 c') x y := fun x y => by
      unfold caF; rw [bup_s, bup_s]; exact Nat.div_le_div_right (Nat.mul_le_mul h (Nat.le_refl _))
    have s1 := s (π t j)
    have k1 := k (π t j) (ahF π t j u)
    unfold tuS tuF twF inW
    rw [e (i := 21) (by omega), e (i := 22) (by omega), e (i := 26) (by omega)]
    split
    · split
      · omega
      · split
        · omega
        · split <;> omega
    · exact Nat.le_refl _
/-- the least of P up to N -/
def Fa (P : Nat → Prop) (N : Nat) (x : Int32) : Prop := (∃ c, c ≤ N ∧ P c ∧ (∀ d, d < c → ¬ P d) ∧ x = nI c) ∨ ((∀ c, c ≤ N → ¬ P c) ∧ x = -2)
theorem Fa.u {P : Nat → Prop} {N : Nat} {x y : Int32} (hx : Fa P N x) (hy : Fa P N y) : x = y := by
  rcases hx with ⟨c, a1, a2, a3, rfl⟩ | ⟨a1, rfl⟩
  · rcases hy with ⟨d, b1, b2, b3, rfl⟩ | ⟨b1, rfl⟩
    · have h1 : ¬ d < c := fun q => a3 d q b2
      have h2 : ¬ c < d := fun q => b3 c q a2
      rw [show c = d by omega]
    · exact absurd a2 (b1 c a1)
  · rcases hy with ⟨d, b1, b2, b3, rfl⟩ | ⟨b1, rfl⟩
    · exact absurd b2 (a1 d b1)
    · rfl
theorem FU_big : 100000 ≤ FU := Nat.le_of_ble_eq_true rfl
theorem fuB (k : Nat) (h : k ≤ 100000) : ∃ n, FU = n + k := ⟨FU - k, by have := FU_big; omega⟩
theorem m1s (a : Nat) {s : Nat} (h : 1 ≤ s) : nI a - 1 + nI s = nI (a + s - 1) := by
  obtain ⟨t, rfl⟩ : ∃ t, s = 1 + t := ⟨s - 1, by omega⟩
  rw [← nI_add 1 t, ← Int32.add_assoc, i_1, Int32.sub_add_cancel, nI_add]
  congr 1
  omega
theorem m1t {a : Nat} (h : a < 2 ^ 30) : (nI a - 1).toInt = (a : Int) - 1 := by
  rw [i_1, pk_sub_toInt h (by omega)]
  rfl
/-- what a halving knows -/
abbrev Hv (P : Nat → Prop) (N a w : Nat) : Prop := a ≤ N + 1 ∧ (∀ c, c < a → ¬ P c) ∧ (∀ c, a + w ≤ c + 1 → c ≤ N → P c)
theorem Hv.end {P : Nat → Prop} {N a : Nat} (hN : N ≤ 1000) (h : Hv P N a 1) : Fa P N (if nI N ≤ nI a - 1 then -2 else nI a - 1 + 1) := by
  by_cases g : N < a
  · rw [if_pos]
    · right
      exact ⟨fun c hc => h.2.1 c (by omega), rfl⟩
    · rw [Int32.le_iff_toInt_le, m1t (by omega), nI_toInt (by omega)]; omega
  · rw [if_neg]
    · left
      refine ⟨a, by omega, h.2.2 a (by omega) (by omega), h.2.1, ?_⟩
      rw [i_1, Int32.sub_add_cancel]
    · rw [Int32.le_iff_toInt_le, m1t (by omega), nI_toInt (by omega)]; omega
theorem Hv.skip {P : Nat → Prop} {N a w w' : Nat} (h : Hv P N a w) (g : N + 1 < a + w') : Hv P N a w' := ⟨h.1, h.2.1, fun c h1 h2 => absurd h2 (by omega)⟩
theorem Hv.fair {P : Nat → Prop} {N a w w' : Nat} (hm : ∀ c d, c ≤ d → d ≤ N → P c → P d) (h : Hv P N a w) (g : a + w' ≤ N + 1) (hw : 1 ≤ w') (hP : P (a + w' - 1)) : Hv P N a w' := ⟨h.1, h.2.1, fun c h1 h2 => hm (a + w' - 1) c (by omega) h2 hP⟩
theorem Hv.un {P : Nat → Prop} {N a w w' : Nat} (hm : ∀ c d, c ≤ d → d ≤ N → P c → P d) (h : Hv P N a w) (g : a + w' ≤ N + 1) (hw : 1 ≤ w') (e : w = 2 * w') (hP : ¬ P (a + w' - 1)) : Hv P N (a + w') w' := ⟨g, fun c h1 h2 => hP (hm c (a + w' - 1) (by omega) (by omega) h2), fun c h1 h2 => h.2.2 c (by omega) h2⟩
end
