/-! pure: the reference's bond, prices, one state (own rows) -/
def rI (β : Nat → Nat) (i : Nat) : Int32 := if 9 ≤ i ∧ i < 21 then iM (β i) else nI (β i)
theorem rI_n {β : Nat → Nat} {i : Nat} (h : ¬ (9 ≤ i ∧ i < 21)) : rI β i = nI (β i) := if_neg h
theorem rI_m {β : Nat → Nat} {i : Nat} (h : 9 ≤ i ∧ i < 21) : rI β i = iM (β i) := if_pos h
abbrev RB (bs : Nat → Int32) (k : Nat) (β : Nat → Nat) : Prop := k < 5 ∧ ∀ i, i < 27 → bs (27 * k + i) = rI β i
abbrev RP (pe : Nat → Int64) (T : Nat) (π : Nat → Nat → Nat) : Prop := ∀ t j, j ≤ t → t ≤ T → pe (7 * t + j) = lN (π t j)
def atN (t j u m : Nat) : Nat := ((7 * t + j) * 2 + u) * 8 + m
theorem of9 {bs : Nat → Int32} {k : Nat} {β : Nat → Nat} (hb : RB bs k β) {a : Nat} (ha : a < 27) : fX9_of (nI k) (nI a) bs = some (rI β a) := by
  unfold fX9_of
  rw [i_27, pk_mul, nI_add, og32 (by omega) (by omega), nI_clamp (by omega), hb.2 a ha]
theorem of9n {bs : Nat → Int32} {k : Nat} {β : Nat → Nat} (hb : RB bs k β) {x : Int32} (a : Nat) (ha : a < 27) (hn : ¬ (9 ≤ a ∧ a < 21)) (hx : x = nI a := by rfl) : fX9_of (nI k) x bs = some (nI (β a)) := by
  subst hx; rw [of9 hb ha, rI_n hn]
theorem hi9 {bs : Nat → Int32} {pe : Nat → Int64} {k T : Nat} {β : Nat → Nat} {π : Nat → Nat → Nat} (hb : RB bs k β) (hK : BK β) (hp : PK π) (hP : RP pe T π) (hT : T ≤ 6) {t j : Nat} (hj : j ≤ t) (ht : t ≤ T) : fX9_isHigh (nI k) (nI t) (nI j) bs pe = some (nI (hiF β (π t j))) := by
  unfold fX9_isHigh
  have hx := hp t j
  rw [i_7, pk_mul, nI_add, og32 (by omega) (by omega), nI_clamp (by omega), hP t j hj ht, of9n hb 25 (by omega) (by omega), bd1_mk, nI_l (by omega), ite_so, bd1_mk]
  unfold hiF
  by_cases h : β 25 ≤ π t j
  · rw [if_pos h, if_neg (by rw [pk_lLT (by omega) (by omega)]; omega)]; rfl
  · rw [if_neg h, if_pos (by rw [pk_lLT (by omega) (by omega)]; omega)]; rfl
theorem wi9 {bs : Nat → Int32} {k : Nat} {β : Nat → Nat} (hb : RB bs k β) (hK : BK β) {t : Nat} (ht : t ≤ 6) : fX9_inWindow (nI k) (nI t) bs = some (if inW β t then 1 else 0) := by
  unfold fX9_inWindow
  rw [of9n hb 21 (by omega) (by omega), bd1_mk, of9n hb 22 (by omega) (by omega), bd1_mk, nI_l (n := β 21) (by omega), nI_l (n := β 22) (by omega), iin (by omega) (by omega) (by omega), bd1_mk, og_mk _ b01]
/-- a state that there is -/
abbrev okS (t j u : Nat) : Prop := j ≤ t ∧ u < 2 ∧ (t = 0 → u = 0) ∧ (u = 1 → 0 < j) ∧ (t ≠ 0 → u = 0 → j < t)
theorem one0 : ¬ (1 : Int32) = 0 := by decide
theorem tu9 {bs : Nat → Int32} {pe : Nat → Int64} {k T : Nat} {β : Nat → Nat} {π : Nat → Nat → Nat} (hb : RB bs k β) (hK : BK β) (hp : PK π) (hP : RP pe T π) (hT : T ≤ 6) {t j u : Nat} (ho : okS t j u) (ht : t ≤ T) : fX9_turned (nI k) (nI t) (nI j) (nI u) bs pe = some (lM (tuS π β t j u)) := by
  unfold fX9_turned
  rw [wi9 hb hK (by omega), bd1_mk]
  unfold tuS tuF
  by_cases hw : inW β t
  · rw [if_pos hw, if_neg one0, if_pos hw, lM_s]
    have hx := hp t j
    have hy := ahF_le hp t j u
    have hs := shF_le (β := β) hK.2.1 hx
    have hc := caF_le (β := β) hK.2.1 hx hy
    have e1 : (if nI t = 0 then some (pe (7 * t + j)) else og (okI (((7 * (nI t - 1)) + nI j) - nI u) 49) (some (pe (Int32.toNatClampNeg (((7 * (nI t - 1)) + nI j) - nI u))))) = some (lN (ahF π t j u)) := by
      unfold ahF
      by_cases h0 : t = 0
      · rw [if_pos h0, if_pos (by rw [h0]; rfl), hP t j ho.1 ht]
      · rw [if_neg h0, if_neg (nI_ne0 (by omega) (by omega)), i_1, pk_sub (by omega), i_7, pk_mul, nI_add, pk_sub (by omega), og32 (by omega) (by omega), nI_clamp (by omega), show 7 * (t - 1) + j - u = 7 * (t - 1) + (j - u) by omega, hP (t - 1) (j - u) (by omega) (by omega)]
    have p1 := Nat.mul_le_mul hK.2.1 hx
    have p2 := Nat.mul_le_mul hK.2.1 (show π t j + ahF π t j u ≤ 12800000000000 by omega)
    rw [i_7, pk_mul, nI_add, og32 (by omega) (by omega), nm_mk, nI_clamp (by omega)]
    rw [show (nI 7) = 7 from rfl, e1, bd1_mk, of9n hb 1 (by omega) (by omega), bd1_mk, nm_mk, bd1_mk, nm_mk, of9n hb 26 (by omega) (by omega), bd1_mk, hP t j ho.1 ht, nI_l (by omega), l_100, lN_mul, pk_lDiv (by omega) (by omega) (by omega), lN_add, lN_mul, l_200, pk_lDiv (by omega) (by omega) (by omega)]
    show _ = some (lN (if β 26 = 0 then shF β (π t j) else if β 26 = 1 then caF β (π t j) (ahF π t j u) else if β 26 = 2 then min (shF β (π t j)) (caF β (π t j) (ahF π t j u)) else max (shF β (π t j)) (caF β (π t j) (ahF π t j u))))
    show (if nI (β 26) = 0 then some (lN (shF β (π t j))) else if nI (β 26) = 1 then some (lN (caF β (π t j) (ahF π t j u))) else if nI (β 26) = 2 then bd1 (if lN (caF β (π t j) (ahF π t j u)) ≤ lN (shF β (π t j)) then some (lN (caF β (π t j) (ahF π t j u))) else some (lN (shF β (π t j)))) (fun (j22 : Int64) => some (j22)) else bd1 (if lN (caF β (π t j) (ahF π t j u)) ≤ lN (shF β (π t j)) then some (lN (shF β (π t j))) else some (lN (caF β (π t j) (ahF π t j u)))) (fun (j26 : Int64) => some (j26))) = _
    generalize shF β (π t j) = S at *
    generalize caF β (π t j) (ahF π t j u) = C at *
    have h26 := hK.2.2.2.2.2.2.2.2.2.2
    rw [bd1_id, bd1_id]
    rcases (show β 26 = 0 ∨ β 26 = 1 ∨ β 26 = 2 ∨ β 26 = 3 by omega) with h | h | h | h
    · rw [h]; rfl
    · rw [h]; rfl
    · rw [h]
      show (if lN C ≤ lN S then some (lN C) else some (lN S)) = some (lN (min S C))
      by_cases g : C ≤ S
      · rw [if_pos ((pk_lLE (by omega) (by omega)).mpr g), Nat.min_eq_right g]
      · rw [if_neg (fun q => g ((pk_lLE (by omega) (by omega)).mp q)), Nat.min_eq_left (by omega)]
    · rw [h]
      show (if lN C ≤ lN S then some (lN S) else some (lN C)) = some (lN (max S C))
      by_cases g : C ≤ S
      · rw [if_pos ((pk_lLE (by omega) (by omega)).mpr g), Nat.max_eq_left g]
      · rw [if_neg (fun q => g ((pk_lLE (by omega) (by omega)).mp q)), Nat.max_eq_right (by omega)]
  · rw [if_neg hw, if_pos rfl, if_neg hw]; rfl
theorem bitm : ∀ m, m < 8 → ∀ i, i < 3 → ((nI m >>> (nI i &&& 31)) &&& 1) = nI (m / 2 ^ i % 2) := by decide +kernel
theorem mk9 {bs : Nat → Int32} {k : Nat} {β : Nat → Nat} (hb : RB bs k β) (hK : BK β) {m : Nat} (hm : m < 8) : fX9_marksNow (nI k) (nI m) bs = some (nI (hdF β m)) := by
  unfold fX9_marksNow hdF
  obtain ⟨n, hn⟩ := fuN 4 (by omega)
  rw [hn, i_0]
  have b0 := bitm m hm 0 (by omega)
  have b1 := bitm m hm 1 (by omega)
  have b2 := bitm m hm 2 (by omega)
  have e24 := of9n hb (x := 24) 24 (by omega) (by omega)
  have h24 := hK.2.2.2.2.2.2.2.2.1
  rw [lpX9_marksNow_5.eq_2, e24, bd1_mk, if_neg (nI_ge (by omega) (by omega)), nm_mk, nm_mk, b0, nI_add, nI_1]
  rw [lpX9_marksNow_5.eq_2, e24, bd1_mk]
  by_cases h1 : β 24 = 1
  · rw [if_pos (nI_le (by omega) (by omega)), bd1_mk, h1]
    show some (nI (0 + m / 1 % 2)) = some (nI (m % 2 + 0 + 0))
    rw [Nat.zero_add, Nat.div_one]; rfl
  · rw [if_neg (nI_ge (by omega) (by omega)), nm_mk, nm_mk, b1, nI_add, nI_1, lpX9_marksNow_5.eq_2, e24, bd1_mk]
    by_cases h2 : β 24 = 2
    · rw [if_pos (nI_le (by omega) (by omega)), bd1_mk, h2]
      show some (nI (0 + m / 1 % 2 + m / 2 % 2)) = some (nI (m % 2 + m / 2 % 2 + 0))
      rw [Nat.zero_add, Nat.div_one]; rfl
    · rw [if_neg (nI_ge (by omega) (by omega)), nm_mk, nm_mk, b2, nI_add, nI_1, lpX9_marksNow_5.eq_2, e24, bd1_mk, if_pos (nI_le (by omega) (by omega)), bd1_mk, show β 24 = 3 by omega]
      show some (nI (0 + m / 1 % 2 + m / 2 % 2 + m / 4 % 2)) = some (nI (m % 2 + m / 2 % 2 + m / 4 % 2))
      rw [Nat.zero_add, Nat.div_one]
theorem ca9 {bs : Nat → Int32} {k T : Nat} {β : Nat → Nat} (hb : RB bs k β) (hT : T ≤ 6) {t : Nat} (ht : t < T) : fX9_callOf (nI k) (nI t) bs (nI T) = some (iM (caL β t)) := by
  unfold fX9_callOf caL
  rw [if_neg (nI_ge ht (by omega)), i_9, nI_add, of9 hb (by omega), bd1_mk, bd1_mk, rI_m (by omega), if_pos (by omega)]
theorem ca9T {bs : Nat → Int32} {k T : Nat} (hT : T ≤ 6) : fX9_callOf (nI k) (nI T) bs (nI T) = some (-1) := by
  unfold fX9_callOf
  rw [if_pos (nI_le (Nat.le_refl T) (by omega)), bd1_mk]
theorem pu9 {bs : Nat → Int32} {k T : Nat} {β : Nat → Nat} (hb : RB bs k β) (hT : T ≤ 6) {t : Nat} (ht : t < T) : fX9_putOf (nI k) (nI t) bs (nI T) = some (iM (puL β t)) := by
  unfold fX9_putOf puL
  rw [if_neg (nI_ge ht (by omega)), i_15, nI_add, of9 hb (by omega), bd1_mk, bd1_mk, rI_m (by omega), if_pos (by omega)]
theorem pu9T {bs : Nat → Int32} {k T : Nat} (hT : T ≤ 6) : fX9_putOf (nI k) (nI T) bs (nI T) = some (-1) := by
  unfold fX9_putOf
  rw [if_pos (nI_le (Nat.le_refl T) (by omega)), bd1_mk]
theorem hdF_lt (β : Nat → Nat) (m : Nat) : hdF β m ≤ 3 := by
  unfold hdF
  split <;> split <;> omega
theorem fr9 {bs : Nat → Int32} {k T : Nat} {β : Nat → Nat} (hb : RB bs k β) (hK : BK β) (hT : T ≤ 6) {t m : Nat} (ht : t < T) (hm : m < 8) : fX9_isFree (nI k) (nI t) (nI m) bs (nI T) = some (if frF β t m then 1 else 0) := by
  unfold fX9_isFree
  have hc := caL_le hK t
  have hd := hdF_lt β m
  have e23 := hK.2.2.2.2.2.2.2.1
  rw [ca9 hb hT ht, bd1_mk, mk9 hb hK hm, bd1_mk, of9n hb 23 (by omega) (by omega), bd1_mk]
  by_cases h : caL β t = 0
  · rw [if_pos ((iM_m1 (by omega)).mpr h), bd1_mk, if_neg (fun q => q.1 h)]; rfl
  · rw [if_neg (fun q => h ((iM_m1 (by omega)).mp q))]
    by_cases g : β 23 ≤ hdF β m
    · rw [if_neg (nI_nlt g (by omega)), bd1_mk, if_pos ⟨h, g⟩]; rfl
    · rw [if_pos (nI_lt (by omega) (by omega)), bd1_mk, if_neg (fun q => g q.2)]; rfl
theorem cp9 {bs : Nat → Int32} {k : Nat} {β : Nat → Nat} (hb : RB bs k β) {t : Nat} (ht : t ≤ 6) : fX9_couponOf (nI k) (nI t) bs = some (nI (cpF β t)) := by
  unfold fX9_couponOf cpF
  by_cases h : t = 0
  · rw [if_pos (by rw [h]; rfl), if_neg (by omega)]; rfl
  · rw [if_neg (nI_ne0 (by omega) (by omega)), i_2, nI_add, of9 hb (by omega), bd1_mk, bd1_mk, rI_n (by omega), if_pos (by omega)]
theorem shm : ∀ m, m < 8 → ∀ h, h < 2 → (((nI m <<< ((1 : Int32) &&& 31)) &&& 7) ||| nI h) = nI (2 * m % 8 + h) := by decide +kernel
theorem at9 (t j u m : Nat) : fX9_at (nI t) (nI j) (nI u) (nI m) = some (nI (atN t j u m)) := by
  unfold fX9_at atN
  rw [i_7, i_2, i_8, pk_mul, nI_add, pk_mul, nI_add, pk_mul, nI_add]
theorem th9 {bs : Nat → Int32} {pe : Nat → Int64} {k T : Nat} {β : Nat → Nat} {π : Nat → Nat → Nat} (hb : RB bs k β) (hK : BK β) (hp : PK π) (hP : RP pe T π) (hT : T ≤ 6) {t j m b : Nat} (u : Int32) (hj : j ≤ t) (hm : m < 8) (hbb : b < 2) (ht : t < T) : fX9_then (nI k) (nI t) (nI j) u (nI m) (nI b) bs pe = some (nI (atN (t + 1) (j + b) b (mkF π β m (t + 1) (j + b)))) := by
  unfold fX9_then
  rw [nI_1, nI_add, hi9 hb hK hp hP hT (by omega) (by omega), bd1_mk, shm m hm _ (hiF_lt _ _), at9, bd1_mk]
  rfl
theorem mo9 {a b : Nat} (ha : a < 2 ^ 63) (hb : b < 2 ^ 63) : fX9_more (lM a) (lM b) = some (lM (max a b)) := by
  unfold fX9_more
  rw [ite_so, bd1_mk, lM_max ha hb]
theorem cg9 {bs : Nat → Int32} {pe : Nat → Int64} {k T : Nat} {β : Nat → Nat} {π : Nat → Nat → Nat} (hb : RB bs k β) (hK : BK β) (hp : PK π) (hP : RP pe T π) (hT : T ≤ 6) {t j u : Nat} (ho : okS t j u) (ht : t < T) : fX9_called (nI k) (nI t) (nI j) (nI u) bs (nI T) pe = some (lM (cgS π β t j u)) := by
  unfold fX9_called
  have h1 := caL_le hK t
  have h2 := tuS_le hp hK t j u
  rw [ca9 hb hT ht, bd1_mk, tu9 hb hK hp hP hT ho (by omega), bd1_mk, iM_l (by omega), mo9 (by omega) (by omega), bd1_mk]
  rfl
theorem atN_lt {t j u m : Nat} (ht : t ≤ 6) (hj : j ≤ t) (hu : u < 2) (hm : m < 8) : atN t j u m < 784 := by
  unfold atN; omega
theorem ho9 {bs : Nat → Int32} {pe wo : Nat → Int64} {k T p q R : Nat} {β : Nat → Nat} {π : Nat → Nat → Nat} (hb : RB bs k β) (hK : BK β) (hp : PK π) (hP : RP pe T π) (hN : NK T p q R) {t j m va vb : Nat} (u : Int32) (hj : j ≤ t) (hm : m < 8) (ht : t < T) (h1 : wo (atN (t + 1) (j + 1) 1 (mkF π β m (t + 1) (j + 1))) = lN va) (h0 : wo (atN (t + 1) j 0 (mkF π β m (t + 1) j)) = lN vb) (ha : va ≤ 64000000010000) (hbb : vb ≤ 64000000010000) : fX9_holds (nI k) (nI t) (nI j) u (nI m) bs (nI p) (nI q) (nI R) pe wo = some (lN (mn p q R va vb)) := by
  unfold fX9_holds
  have l1 : atN (t + 1) (j + 1) 1 (mkF π β m (t + 1) (j + 1)) < 784 := atN_lt (by omega) (by omega) (by omega) (mkF_lt _ _ _ _ _)
  have l0 : atN (t + 1) j 0 (mkF π β m (t + 1) j) < 784 := atN_lt (by omega) (by omega) (by omega) (mkF_lt _ _ _ _ _)
  have t0 := th9 hb hK hp hP hN.1.2 (b := 0) u hj hm (by omega) ht
  have hin := mn_in (p := p) (q := q) hN.2.1.2.2 (by omega) ha hbb
  have hq := Nat.mul_le_mul hN.2.1.2.2 (show 1000 + R ≤ 1200 by omega)
  have hq0 : 0 < q * (1000 + R) := Nat.mul_pos (by omega) (by omega)
  rw [i_1, th9 hb hK hp hP hN.1.2 u hj hm (by omega) ht, bd1_mk, og32 l1 (by omega), nm_mk, nI_clamp (by omega), h1, i_0]
  rw [t0, bd1_mk, Nat.add_zero j, og32 l0 (by omega), nm_mk, nI_clamp (by omega), h0, i_1000, nI_add, pk_mul, nI_l (n := q * (1000 + R)) (by omega), pk_sub (by omega), nI_l (n := p) (by omega), nI_l (n := q - p) (by omega), lN_mul, lN_mul, lN_add, l_1000, lN_mul, og_mk, pk_lDiv hin hq0 (by omega)]
  · rfl
  · unfold nzL
    rw [l_0, decide_eq_false (fun h => by rw [pk_lEQ (by omega) (by omega)] at h; omega)]
    rfl
