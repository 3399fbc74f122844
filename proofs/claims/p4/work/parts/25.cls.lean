/-! pure: the class's tree, bond, one row (own rows) -/
theorem cl_lit : Int32.toNatClampNeg 0 = 0 ∧ Int32.toNatClampNeg 1 = 1 ∧ Int32.toNatClampNeg 2 = 2 ∧ Int32.toNatClampNeg 3 = 3 ∧ Int32.toNatClampNeg 4 = 4 ∧ Int32.toNatClampNeg 5 = 5 ∧ Int32.toNatClampNeg 6 = 6 ∧ Int32.toNatClampNeg 7 = 7 ∧ Int32.toNatClampNeg 8 = 8 ∧ Int32.toNatClampNeg 9 = 9 ∧ Int32.toNatClampNeg 36 = 36 := by decide +kernel
theorem cl_0 : Int32.toNatClampNeg 0 = 0 := cl_lit.1
theorem cl_1 : Int32.toNatClampNeg 1 = 1 := cl_lit.2.1
theorem cl_2 : Int32.toNatClampNeg 2 = 2 := cl_lit.2.2.1
theorem cl_3 : Int32.toNatClampNeg 3 = 3 := cl_lit.2.2.2.1
theorem cl_4 : Int32.toNatClampNeg 4 = 4 := cl_lit.2.2.2.2.1
theorem cl_5 : Int32.toNatClampNeg 5 = 5 := cl_lit.2.2.2.2.2.1
theorem cl_6 : Int32.toNatClampNeg 6 = 6 := cl_lit.2.2.2.2.2.2.1
theorem cl_7 : Int32.toNatClampNeg 7 = 7 := cl_lit.2.2.2.2.2.2.2.1
theorem cl_8 : Int32.toNatClampNeg 8 = 8 := cl_lit.2.2.2.2.2.2.2.2.1
theorem cl_9 : Int32.toNatClampNeg 9 = 9 := cl_lit.2.2.2.2.2.2.2.2.2.1
theorem cl_36 : Int32.toNatClampNeg 36 = 36 := cl_lit.2.2.2.2.2.2.2.2.2.2
abbrev TC (f : Nat → Int32) (τ : Nat → Nat) : Prop := ∀ i, i < 9 → f i = nI (τ i)
abbrev CB (ts : Nat → Int32) (β : Nat → Nat) : Prop := ((ts 0 = nI (β 0) ∧ ts 1 = nI (β 1)) ∧ (ts 2 = nI (β 21) ∧ ts 3 = nI (β 22)) ∧ (ts 4 = nI (β 23) ∧ ts 5 = nI (β 24) ∧ ts 6 = nI (β 25)) ∧ ts 7 = nI (β 26)) ∧ (∀ t, 1 ≤ t → t ≤ 6 → ts (10 + t) = nI (β (2 + t))) ∧ (∀ t, t < 6 → ts (20 + t) = iC (β (9 + t))) ∧ (∀ t, t < 6 → ts (30 + t) = iC (β (15 + t)))
theorem ld8 {f : Nat → Int32} {τ : Nat → Nat} (hf : TC f τ) (hT : TK τ) : fX7_lastDay f = some (nI (τ 0)) := by
  unfold fX7_lastDay
  rw [cl_0, hf 0 (by omega), if_neg (show ¬ (6 : Int32) < nI (τ 0) from nI_nlt (a := 6) (by omega) (by omega))]
theorem pw5 (b : Nat) {k : Nat} (hk : k ≤ 6) : ∀ (i n j : Nat), j + i = k → lpX8_power_5 (lN b) (nI k) (n + i + 1) (lN (b ^ j)) (nI j) = some (lN (b ^ k)) := by
  intro i
  induction i with
  | zero =>
    intro n j h
    rw [lpX8_power_5.eq_2, if_pos (nI_le (by omega) (by omega)), show j = k by omega]
  | succ i ih =>
    intro n j h
    rw [lpX8_power_5.eq_2, if_neg (nI_ge (by omega) (by omega)), nm_mk, nm_mk, nI_1, lN_mul, ← Nat.pow_succ, show n + (i + 1) = n + i + 1 by omega, ih n (j + 1) (by omega)]
theorem pw8 (b : Nat) {k : Nat} (hk : k ≤ 6) : fX8_power (lN b) (nI k) = some (lN (b ^ k)) := by
  unfold fX8_power
  obtain ⟨n, hn⟩ := fuN (k + 1) (by omega)
  have := pw5 b hk k n 0 (by omega)
  rw [Nat.pow_zero] at this
  rw [hn, l_1, i_0, show n + (k + 1) = n + k + 1 by omega, this, bd1_mk]
theorem pe8 {f : Nat → Int32} {τ : Nat → Nat} (hf : TC f τ) (hT : TK τ) {t j : Nat} (hj : j ≤ t) (ht : t ≤ 6) : fX7_pence (nI t) (nI j) f = some (lN (prF τ (τ 1) t j)) := by
  unfold fX7_pence fX7_priceTop fX7_priceBottom fX8_through
  rw [cl_1, cl_2, cl_3, cl_4, cl_5, hf 1 (by omega), hf 2 (by omega), hf 3 (by omega), hf 4 (by omega), hf 5 (by omega), nI_l (n := τ 1) (by omega), nI_l (n := τ 2) (by omega), nI_l (n := τ 3) (by omega), nI_l (n := τ 4) (by omega), nI_l (n := τ 5) (by omega), pw8 _ (by omega), bd1_mk, pk_sub hj, pw8 _ (by omega), bd1_mk, bd1_mk, pw8 _ (by omega), bd1_mk, pw8 _ (by omega), bd1_mk, bd1_mk, lN_mul, lN_mul, lN_mul, l_100, lN_mul]
  have h1 := pt_le hT (s := τ 1) (by omega) hj ht
  have h2 := pb_le hT hj ht
  have h3 := pb_pos hT j t
  have h4 : ¬ lN (τ 3 ^ j * τ 5 ^ (t - j)) = 0 := fun h => by rw [l_0, pk_lEQ (by omega) (by omega)] at h; omega
  rw [if_neg h4, og_mk, bd1_mk, bd1_mk, pk_lDiv (by omega) h3 (by omega)]
  · unfold prF
    rw [if_pos ⟨hj, ht⟩]
  · unfold nzL
    rw [decide_eq_false h4]; rfl
theorem day8 : ∀ r, r < 128 → 1 ≤ r → fX8_dayOf (nI r) = some (nI (dR r)) := by decide +kernel
theorem ups8 : ∀ r, r < 128 → 1 ≤ r → fX8_upsOf (nI r) = some (nI (uR r)) := by decide +kernel
theorem isr8 : ∀ r, r < 128 → 1 ≤ r → fX8_isRow (nI r) = some 1 := by decide +kernel
theorem va8 {f : Nat → Int64} {r : Nat} (h1 : 1 ≤ r) (h : r < 128) : fX5_valueAt (nI r) f = some (f r) := by
  unfold fX5_valueAt
  rw [isr8 r h h1, bd1_mk, if_neg one0, og32 h (by omega), bd1_mk, nI_clamp (by omega)]
theorem hoA8 {f : Nat → Int64} {r : Nat} (h1 : 1 ≤ r) (h : r < 128) : fX5_holdAt (nI r) f = some (f r) := by
  unfold fX5_holdAt
  rw [isr8 r h h1, bd1_mk, if_neg one0, og32 h (by omega), bd1_mk, nI_clamp (by omega)]
theorem tuA8 {f : Nat → Int64} {r : Nat} (h1 : 1 ≤ r) (h : r < 128) : fX5_turnedAt (nI r) f = some (f r) := by
  unfold fX5_turnedAt
  rw [isr8 r h h1, bd1_mk, if_neg one0, og32 h (by omega), bd1_mk, nI_clamp (by omega)]
theorem caA8 {f : Nat → Int64} {r : Nat} (h1 : 1 ≤ r) (h : r < 128) : fX5_calledAt (nI r) f = some (f r) := by
  unfold fX5_calledAt
  rw [isr8 r h h1, bd1_mk, if_neg one0, og32 h (by omega), bd1_mk, nI_clamp (by omega)]
theorem peA8 {f : Nat → Int64} {r : Nat} (h1 : 1 ≤ r) (h : r < 128) : fX5_penceAt (nI r) f = some (f r) := by
  unfold fX5_penceAt
  rw [isr8 r h h1, bd1_mk, if_neg one0, og32 h (by omega), bd1_mk, nI_clamp (by omega)]
theorem maA8 {f : Nat → Int32} {r : Nat} (h1 : 1 ≤ r) (h : r < 128) : fX5_marksAt (nI r) f = some (f r) := by
  unfold fX5_marksAt
  rw [isr8 r h h1, bd1_mk, if_neg one0, og32 h (by omega), bd1_mk, nI_clamp (by omega)]
theorem acA8 {f : Nat → Int32} {r : Nat} (h1 : 1 ≤ r) (h : r < 128) : fX5_actAt (nI r) f = some (f r) := by
  unfold fX5_actAt
  rw [isr8 r h h1, bd1_mk, if_neg one0, og32 h (by omega), bd1_mk, nI_clamp (by omega)]
theorem co8 {ts : Nat → Int32} {β : Nat → Nat} (hb : CB ts β) {t : Nat} (ht : t ≤ 6) : fX0_couponOn (nI t) ts = some (nI (cpF β t)) := by
  unfold fX0_couponOn cpF
  by_cases h : 1 ≤ t
  · rw [win1 t 1 6 ⟨h, ht⟩, bd1_mk, if_neg one0, i_10, nI_add, og32 (by omega) (by omega), bd1_mk, nI_clamp (by omega), hb.2.1 t h ht, if_pos ⟨h, ht⟩]
  · rw [win0 t 1 6 (by omega), bd1_mk, if_pos rfl, bd1_mk, if_neg (by omega)]; rfl
theorem ca8 {ts : Nat → Int32} {β : Nat → Nat} (hb : CB ts β) {t : Nat} (ht : t ≤ 6) : fX0_callOn (nI t) ts = some (iC (caL β t)) := by
  unfold fX0_callOn caL
  by_cases h : t < 6
  · rw [win1 t 0 5 (by omega), bd1_mk, if_neg one0, i_20, nI_add, og32 (by omega) (by omega), bd1_mk, nI_clamp (by omega), hb.2.2.1 t h, if_pos h]
  · rw [win0 t 0 5 (by omega), bd1_mk, if_pos rfl, bd1_mk, if_neg h]; rfl
theorem pu8 {ts : Nat → Int32} {β : Nat → Nat} (hb : CB ts β) {t : Nat} (ht : t ≤ 6) : fX0_putOn (nI t) ts = some (iC (puL β t)) := by
  unfold fX0_putOn puL
  by_cases h : t < 6
  · rw [win1 t 0 5 (by omega), bd1_mk, if_neg one0, i_30, nI_add, og32 (by omega) (by omega), bd1_mk, nI_clamp (by omega), hb.2.2.2 t h, if_pos h]
  · rw [win0 t 0 5 (by omega), bd1_mk, if_pos rfl, bd1_mk, if_neg h]; rfl
theorem mt8 {ts : Nat → Int32} {β : Nat → Nat} (hb : CB ts β) (hK : BK β) {t : Nat} (ht : t ≤ 6) : fX0_mayTurnOn (nI t) ts = some (if inW β t then 1 else 0) := by
  unfold fX0_mayTurnOn
  rw [cl_2, cl_3, hb.1.2.1.1, hb.1.2.1.2, win (by omega) (by omega) (by omega), bd1_mk, og_mk _ b01]
theorem hdt : ∀ m, m < 8 → ∀ w, w < 4 → 1 ≤ w → fJ6_bitCount_0f7a4 (nI m &&& ((1 <<< (nI w &&& 31)) - 1)) = some (nI (m % 2 + (if 2 ≤ w then m / 2 % 2 else 0) + (if 3 ≤ w then m / 4 % 2 else 0))) := by decide +kernel
theorem hd8 {ts : Nat → Int32} {β : Nat → Nat} (hb : CB ts β) (hK : BK β) {m : Nat} (hm : m < 8) : fX0_highDays (nI m) ts = some (nI (hdF β m)) := by
  unfold fX0_highDays
  rw [cl_5, hb.1.2.2.1.2.1, hdt m hm (β 24) (by omega) (by omega), bd1_mk]
  rfl
theorem tw8 {ts : Nat → Int32} {β : Nat → Nat} (hb : CB ts β) (hK : BK β) {x y : Nat} (hx : x ≤ 6400000000000) (hy : y ≤ 6400000000000) : fX0_turnedWorth (lN x) (lN y) ts = some (lN (twF β x y)) := by
  unfold fX0_turnedWorth
  have hs := shF_le (β := β) hK.2.1 hx
  have hc := caF_le (β := β) hK.2.1 hx hy
  have p1 := Nat.mul_le_mul hK.2.1 hx
  have p2 := Nat.mul_le_mul hK.2.1 (show x + y ≤ 12800000000000 by omega)
  have h26 := hK.2.2.2.2.2.2.2.2.2.2
  rw [cl_1, cl_7, hb.1.1.2, hb.1.2.2.2, nI_l (n := β 1) (by omega), nm_mk, nm_mk, lN_mul, l_100, pk_lDiv (by omega) (by omega) (by omega), lN_add, lN_mul, l_200, pk_lDiv (by omega) (by omega) (by omega)]
  show (if nI (β 26) = 0 then some (lN (shF β x)) else if nI (β 26) = 1 then some (lN (caF β x y)) else if nI (β 26) = 2 then some (if lN (caF β x y) < lN (shF β x) then lN (caF β x y) else lN (shF β x)) else some (if lN (caF β x y) < lN (shF β x) then lN (shF β x) else lN (caF β x y))) = some (lN (if β 26 = 0 then shF β x else if β 26 = 1 then caF β x y else if β 26 = 2 then min (shF β x) (caF β x y) else max (shF β x) (caF β x y)))
  generalize shF β x = S at *
  generalize caF β x y = C at *
  rcases (show β 26 = 0 ∨ β 26 = 1 ∨ β 26 = 2 ∨ β 26 = 3 by omega) with h | h | h | h
  · rw [h]; rfl
  · rw [h]; rfl
  · rw [h]
    show some (if lN C < lN S then lN C else lN S) = some (lN (min S C))
    by_cases g : C < S
    · rw [if_pos ((pk_lLT (by omega) (by omega)).mpr g), Nat.min_eq_right (by omega)]
    · rw [if_neg (fun q => g ((pk_lLT (by omega) (by omega)).mp q)), Nat.min_eq_left (by omega)]
  · rw [h]
    show some (if lN C < lN S then lN S else lN C) = some (lN (max S C))
    by_cases g : C < S
    · rw [if_pos ((pk_lLT (by omega) (by omega)).mpr g), Nat.max_eq_left (by omega)]
    · rw [if_neg (fun q => g ((pk_lLT (by omega) (by omega)).mp q)), Nat.max_eq_right (by omega)]
/-- what CALLED gives in a row, 0: not free or no call -/
def cdF (π : Nat → Nat → Nat) (β : Nat → Nat) (r : Nat) : Nat := if frF β (dR r) (mR π β r) then cgS π β (dR r) (uR r) (bR r) else 0
def CL (π : Nat → Nat → Nat) (β : Nat → Nat) (N : Nat) (pe tu ca : Nat → Int64) (ma : Nat → Int32) : Prop := ∀ r, 1 ≤ r → r < N → pe r = lN (π (dR r) (uR r)) ∧ tu r = lC (tuS π β (dR r) (uR r) (bR r)) ∧ ca r = lC (cdF π β r) ∧ ma r = nI (mR π β r)
theorem rdiv : ∀ r, r < 128 → (nI r / 2 : Int32) = nI (r / 2) := by decide +kernel
theorem mk7 : ∀ m, m < 8 → ∀ h, h < 2 → ((nI m * 2 + nI h) &&& 7 : Int32) = nI (2 * m % 8 + h) := by decide +kernel
theorem lC_neg' {e : Nat} (h : e < 2 ^ 63) : (lC e < 0) = (e = 0) := propext (lC_neg h)
theorem lr8 {ts : Nat → Int32} {β : Nat → Nat} {π : Nat → Nat → Nat} (hb : CB ts β) (hK : BK β) (hp : PK π) {r : Nat} (h1 : 1 ≤ r) (h : r < 128) {pu pe tu ca : Nat → Int64} {ma : Nat → Int32} (hpu : pu (uR r) = lN (π (dR r) (uR r))) (hL : CL π β r pe tu ca ma) : Sx (fX5_layOutRow (nI r) (nI (dR r)) ts pu pe tu ca ma) (fun z => CL π β (r + 1) z.1 z.2.1 z.2.2.1 z.2.2.2) := by
  obtain ⟨⟨b1, b2, b3⟩, b4, b5, b6⟩ := row_b1 r h h1
  unfold fX5_layOutRow
  rw [ups8 r h h1, bd1_mk, isr8 r h h1, bd1_mk, if_neg one0, win1 (uR r) 0 6 (by omega), bd1_mk, if_neg one0, og32 (by omega) (by omega), og32 h (by omega), nm_mk, nI_clamp (n := r) (by omega), nI_clamp (n := uR r) (by omega), hpu]
  have hx := hp (dR r) (uR r)
  have hy := ahF_le hp (dR r) (uR r) (bR r)
  have e1 : (if nI r ≤ 1 then og (okI (nI r) 128) (some (vp_updL pe r (lN (π (dR r) (uR r))) r)) else og (okI (nI r / 2) 128) (some (vp_updL pe r (lN (π (dR r) (uR r))) (Int32.toNatClampNeg (nI r / 2))))) = some (lN (ahF π (dR r) (uR r) (bR r))) := by
    by_cases g : r = 1
    · subst g
      rw [if_pos (by decide), og32 h (by omega), upL, if_pos rfl]; rfl
    · obtain ⟨c1, c2, c3, _⟩ := row_s (r / 2) (by omega) (by omega) (r % 2) (by omega)
      rw [show 2 * (r / 2) + r % 2 = r by omega] at c1 c2 c3
      rw [if_neg (show ¬ nI r ≤ 1 from nI_ge (b := r) (a := 1) (by omega) (by omega)), rdiv r h, og32 (by omega) (by omega), nI_clamp (by omega), upL, if_neg (by omega), (hL (r / 2) (by omega) (by omega)).1]
      unfold ahF
      rw [if_neg (by omega), c1, c2, c3, Nat.add_sub_cancel, Nat.add_sub_cancel]
  have e2 : (if nI r ≤ 1 then some (0 : Int32) else og (okI (nI r / 2) 128) (some (ma (Int32.toNatClampNeg (nI r / 2))))) = some (nI (if r = 1 then 0 else mR π β (r / 2))) := by
    by_cases g : r = 1
    · subst g
      rw [if_pos (by decide), if_pos rfl]; rfl
    · rw [if_neg (show ¬ nI r ≤ 1 from nI_ge (b := r) (a := 1) (by omega) (by omega)), rdiv r h, og32 (by omega) (by omega), nI_clamp (by omega), (hL (r / 2) (by omega) (by omega)).2.2.2, if_neg g]
  have em : mR π β r = 2 * (if r = 1 then 0 else mR π β (r / 2)) % 8 + hiF β (π (dR r) (uR r)) := by
    by_cases g : r = 1
    · subst g; rw [if_pos rfl, mR_1]
      show _ = 2 * 0 % 8 + hiF β (π 0 0)
      omega
    · obtain ⟨c1, c2, _, _⟩ := row_s (r / 2) (by omega) (by omega) (r % 2) (by omega)
      have := mR_s π β (r := r / 2) (b := r % 2) (by omega) (by omega) (by omega)
      rw [show 2 * (r / 2) + r % 2 = r by omega] at c1 c2 this
      rw [if_neg g, this, c1, c2]; rfl
  have hm8 : (if r = 1 then 0 else mR π β (r / 2)) < 8 := by
    split
    · omega
    · exact mR_lt _ _ _
  rw [e1, bd1_mk, e2, bd1_mk, og32 h (by omega)]
  unfold fX0_softLevel fX0_softLeast
  rw [bd1_mk, upL, if_pos rfl, cl_6, hb.1.2.2.1.2.2, nI_l (by omega)]
  have e3 : (if lN (π (dR r) (uR r)) < lN (β 25) then some (0 : Int32) else some 1) = some (nI (hiF β (π (dR r) (uR r)))) := by
    unfold hiF
    by_cases g : β 25 ≤ π (dR r) (uR r)
    · rw [if_neg (by rw [pk_lLT (by omega) (by omega)]; omega), if_pos g]; rfl
    · rw [if_pos (by rw [pk_lLT (by omega) (by omega)]; omega), if_neg g]; rfl
  rw [e3, bd1_mk, og32 h (by omega), nm_mk, mk7 _ hm8 _ (hiF_lt _ _), ← em, mt8 hb hK (by omega), bd1_mk, og32 h (by omega)]
  have e4 : (if (if inW β (dR r) then (1 : Int32) else 0) = 0 then some (-2 : Int64) else bd1 (fX0_turnedWorth (lN (π (dR r) (uR r))) (lN (ahF π (dR r) (uR r) (bR r))) ts) (fun r65 => some (r65))) = some (lC (tuS π β (dR r) (uR r) (bR r))) := by
    unfold tuS tuF
    by_cases g : inW β (dR r)
    · rw [if_pos g, if_neg one0, tw8 hb hK hx hy, bd1_mk, if_pos g, lC_s]
    · rw [if_neg g, if_pos rfl, if_neg g]; rfl
  rw [e4, bd1_mk, og32 h (by omega), nm_mk, ca8 hb (by omega), bd1_mk, upS, if_pos rfl, upL, if_pos rfl, hd8 hb hK (mR_lt _ _ _), og32 h (by omega), cl_4, hb.1.2.2.1.1]
  have hca := caL_le hK (dR r)
  have hd := hdF_lt β (mR π β r)
  have e5 : (if iC (caL β (dR r)) < 0 then some (0 : Int32) else bd1 (some (nI (hdF β (mR π β r)))) (fun r57 => bd1 (some (nI (β 23))) (fun r60 => if r57 < r60 then some 0 else some 1))) = some (if frF β (dR r) (mR π β r) then 1 else 0) := by
    by_cases g : caL β (dR r) = 0
    · rw [if_pos ((iC_neg (by omega)).mpr g), if_neg (fun q => q.1 g)]
    · rw [if_neg (fun q => g ((iC_neg (by omega)).mp q)), bd1_mk, bd1_mk]
      by_cases g2 : β 23 ≤ hdF β (mR π β r)
      · rw [if_neg (nI_nlt g2 (by omega)), if_pos ⟨g, g2⟩]
      · rw [if_pos (nI_lt (by omega) (by omega)), if_neg (fun q => g2 q.2)]
  have htu := tuS_le hp hK (dR r) (uR r) (bR r)
  have e6 : (if (if frF β (dR r) (mR π β r) then (1 : Int32) else 0) = 0 then some (-2 : Int64) else bd1 (some (iC (caL β (dR r)))) (fun r52 => og (okI (nI r) 128) (some (if lC (tuS π β (dR r) (uR r) (bR r)) < r52.toInt64 then r52.toInt64 else lC (tuS π β (dR r) (uR r) (bR r)))))) = some (lC (cdF π β r)) := by
    unfold cdF
    by_cases g : frF β (dR r) (mR π β r)
    · rw [if_pos g, if_neg one0, bd1_mk, og32 h (by omega), iC_l (by omega), lC_max (by omega) (by omega), if_pos g]
      unfold cgS
      rw [Nat.max_comm]
    · rw [if_neg g, if_pos rfl, if_neg g]; rfl
  rw [e5, bd1_mk, e6, bd1_mk, og32 h (by omega), nm_mk]
  refine Sx.mk ?_
  intro r' a b
  show vp_updL pe r (lN (π (dR r) (uR r))) r' = _ ∧ vp_updL tu r (lC (tuS π β (dR r) (uR r) (bR r))) r' = _ ∧ vp_updL ca r (lC (cdF π β r)) r' = _ ∧ upd ma r (nI (mR π β r)) r' = _
  rw [upL, upL, upL, upS]
  by_cases e : r' = r
  · subst e
    rw [if_pos rfl, if_pos rfl, if_pos rfl, if_pos rfl]
    exact ⟨rfl, rfl, rfl, rfl⟩
  · rw [if_neg e, if_neg e, if_neg e, if_neg e]
    exact hL r' a (by omega)
