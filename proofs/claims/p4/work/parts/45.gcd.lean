/-! pure: greatest divisors, prices (own rows) -/
theorem gcd_s (x y : Nat) : Nat.gcd x y = Nat.gcd y (x % y) := by rw [Nat.gcd_comm x y, Nat.gcd_rec, Nat.gcd_comm]
theorem half2 {x y : Nat} (h0 : x % y ≠ 0) (hy : y ≠ 0) : 2 * (y % (x % y)) < y := by
  have h1 : x % y < y := Nat.mod_lt _ (by omega)
  have h2 : y % (x % y) < x % y := Nat.mod_lt _ (by omega)
  have h3 := Nat.div_add_mod y (x % y)
  have h4 : 1 ≤ y / (x % y) := (Nat.le_div_iff_mul_le (by omega)).mpr (by omega)
  have h5 := Nat.mul_le_mul (Nat.le_refl (x % y)) h4
  omega
theorem lnz {y : Nat} (h : y ≠ 0) (hb : y < 2 ^ 63) : ¬ lN y = 0 := fun e => h (by rw [l_0, pk_lEQ hb (by omega)] at e; exact e)
theorem lnzb {y : Nat} (h : y ≠ 0) (hb : y < 2 ^ 63) : nzL (lN y) = true := by unfold nzL; rw [decide_eq_false (lnz h hb)]; rfl
theorem gd9 : ∀ (k x y c n : Nat), y < 2 ^ k → x < 2 ^ 63 → y < 2 ^ 63 → c + 2 * k ≤ 99 → lpX8_greatestDivisor_9 (n + 2 * k + 1) (lN x) (lN y) (nI c) = some (lN (Nat.gcd x y)) := by
  intro k
  induction k with
  | zero =>
    intro x y c n h1 h2 h3 h4
    have : y = 0 := by omega
    subst this
    rw [lpX8_greatestDivisor_9.eq_2, if_neg (show ¬ (100 : Int32) ≤ nI c from nI_ge (b := 100) (by omega) (by omega)), if_pos (show lN 0 = (0 : Int64) from rfl), Nat.gcd_zero_right]
  | succ k ih =>
    intro x y c n h1 h2 h3 h4
    rw [show n + 2 * (k + 1) + 1 = (n + 2 * k + 2) + 1 by omega, lpX8_greatestDivisor_9.eq_2, if_neg (show ¬ (100 : Int32) ≤ nI c from nI_ge (b := 100) (by omega) (by omega))]
    by_cases hy : y = 0
    · subst hy; rw [if_pos (show lN 0 = (0 : Int64) from rfl), Nat.gcd_zero_right]
    · have hm : x % y < y := Nat.mod_lt _ (by omega)
      rw [if_neg (lnz hy h3), og_mk _ (lnzb hy h3), nm_mk, nm_mk, pk_lRem h2 (by omega) h3, nI_1, gcd_s x y, show n + 2 * k + 2 = (n + 2 * k + 1) + 1 by omega, lpX8_greatestDivisor_9.eq_2, if_neg (show ¬ (100 : Int32) ≤ nI (c + 1) from nI_ge (b := 100) (by omega) (by omega))]
      by_cases hz : x % y = 0
      · rw [hz, if_pos (show lN 0 = (0 : Int64) from rfl), Nat.gcd_zero_right]
      · have h5 := half2 hz hy
        rw [Nat.pow_succ] at h1
        rw [if_neg (lnz hz (by omega)), og_mk _ (lnzb hz (by omega)), nm_mk, nm_mk, pk_lRem h3 (by omega) (by omega), nI_1, gcd_s y (x % y)]
        exact ih (x % y) (y % (x % y)) (c + 1 + 1) n (by omega) (by omega) (by omega) (by omega)
theorem gd8 {x y : Nat} (hx : x < 2 ^ 63) (hy : y ≤ 64000000) : fX8_greatestDivisor (lN x) (lN y) = some (lN (Nat.gcd x y)) := by
  unfold fX8_greatestDivisor
  obtain ⟨n, hn⟩ := fuN 53 (by omega)
  rw [hn, i_0, gd9 26 x y 0 n (by omega) hx (by omega) (by omega), bd1_mk]
theorem co17 : ∀ (k x y n : Nat), y < 2 ^ k → x < 2 ^ 63 → y < 2 ^ 63 → lpX9_common_17 (n + 2 * k + 1) (lN x) (lN y) = some (lN (Nat.gcd x y)) := by
  intro k
  induction k with
  | zero =>
    intro x y n h1 h2 h3
    have : y = 0 := by omega
    subst this
    rw [lpX9_common_17.eq_2, if_pos (show lN 0 = (0 : Int64) from rfl), Nat.gcd_zero_right]
  | succ k ih =>
    intro x y n h1 h2 h3
    rw [show n + 2 * (k + 1) + 1 = (n + 2 * k + 2) + 1 by omega, lpX9_common_17.eq_2]
    by_cases hy : y = 0
    · subst hy; rw [if_pos (show lN 0 = (0 : Int64) from rfl), Nat.gcd_zero_right]
    · have hm : x % y < y := Nat.mod_lt _ (by omega)
      rw [if_neg (lnz hy h3), og_mk _ (lnzb hy h3), nm_mk, pk_lRem h2 (by omega) h3, gcd_s x y, show n + 2 * k + 2 = (n + 2 * k + 1) + 1 by omega, lpX9_common_17.eq_2]
      by_cases hz : x % y = 0
      · rw [hz, if_pos (show lN 0 = (0 : Int64) from rfl), Nat.gcd_zero_right]
      · have h5 := half2 hz hy
        rw [Nat.pow_succ] at h1
        rw [if_neg (lnz hz (by omega)), og_mk _ (lnzb hz (by omega)), nm_mk, pk_lRem h3 (by omega) (by omega), gcd_s y (x % y)]
        exact ih (x % y) (y % (x % y)) n (by omega) (by omega) (by omega)
theorem co9 {x y : Nat} (hx : x < 2 ^ 63) (hy : y ≤ 64000000) : fX9_common (lN x) (lN y) = some (lN (Nat.gcd x y)) := by
  unfold fX9_common
  obtain ⟨n, hn⟩ := fuN 53 (by omega)
  have h0 : (0 : Int64) ≤ lN x := (pk_lLE (a := 0) (by omega) hx).mpr (Nat.zero_le x)
  rw [if_pos h0, bd1_mk, hn, co17 26 x y n (by omega) hx (by omega), bd1_mk]
theorem gc_b {x y : Nat} (hy : 0 < y) : 0 < Nat.gcd x y ∧ Nat.gcd x y ≤ y := ⟨Nat.gcd_pos_of_pos_right x hy, Nat.gcd_le_right x hy⟩
theorem thr8 {a g : Nat} (ha : a < 2 ^ 63) (hg : 0 < g) (hb : g < 2 ^ 63) : fX8_through (lN a) (lN g) = some (lN (a / g)) := by
  unfold fX8_through
  rw [if_neg (lnz (by omega) hb), og_mk _ (lnzb (by omega) hb), bd1_mk, pk_lDiv ha hg hb]
theorem lt8 {a b w : Nat} (ha : a < 2 ^ 63) (hb : 0 < b) (hb2 : b ≤ 64000000) (hw : w < 2) : fX8_inLowestTerms (lN a) (lN b) (nI w) = some (lN ((if w = 0 then a else b) / Nat.gcd a b)) := by
  unfold fX8_inLowestTerms
  obtain ⟨g1, g2⟩ := gc_b (x := a) hb
  rcases (show w = 0 ∨ w = 1 by omega) with rfl | rfl
  · rw [if_pos (show nI 0 = (0 : Int32) from rfl), bd1_mk, gd8 ha hb2, bd1_mk, thr8 ha g1 (by omega), bd1_mk, if_pos rfl]
  · rw [if_neg (show ¬ nI 1 = (0 : Int32) from one0), bd1_mk, gd8 ha hb2, bd1_mk, thr8 (by omega) g1 (by omega), bd1_mk, if_neg (by omega)]
theorem pt9 {a b w : Nat} (ha : a < 2 ^ 63) (hb : 0 < b) (hb2 : b ≤ 64000000) (hw : w < 2) : fX9_part (lN a) (lN b) (nI w) = some (lN ((if w = 0 then a else b) / Nat.gcd a b)) := by
  unfold fX9_part
  obtain ⟨g1, g2⟩ := gc_b (x := a) hb
  have hz := lnzb (show Nat.gcd a b ≠ 0 by omega) (by omega)
  rcases (show w = 0 ∨ w = 1 by omega) with rfl | rfl
  · rw [co9 ha hb2, bd1_mk, if_pos (show nI 0 = (0 : Int32) from rfl), og_mk _ hz, bd1_mk, pk_lDiv ha g1 (by omega), if_pos rfl]
  · rw [co9 ha hb2, bd1_mk, if_neg (show ¬ nI 1 = (0 : Int32) from one0), og_mk _ hz, bd1_mk, pk_lDiv (by omega) g1 (by omega), if_neg (by omega)]
theorem pT8 {f : Nat → Int32} {τ : Nat → Nat} (hf : TC f τ) (hT : TK τ) {t j : Nat} (hj : j ≤ t) (ht : t ≤ 6) : fX7_priceTop (nI t) (nI j) f = some (lN (τ 1 * τ 2 ^ j * τ 4 ^ (t - j))) := by
  unfold fX7_priceTop
  rw [cl_1, cl_2, cl_4, hf 1 (by omega), hf 2 (by omega), hf 4 (by omega), nI_l (n := τ 1) (by omega), nI_l (n := τ 2) (by omega), nI_l (n := τ 4) (by omega), pw8 _ (by omega), bd1_mk, pk_sub hj, pw8 _ (by omega), bd1_mk, lN_mul, lN_mul]
theorem pB8 {f : Nat → Int32} {τ : Nat → Nat} (hf : TC f τ) (hT : TK τ) {t j : Nat} (hj : j ≤ t) (ht : t ≤ 6) : fX7_priceBottom (nI t) (nI j) f = some (lN (τ 3 ^ j * τ 5 ^ (t - j))) := by
  unfold fX7_priceBottom
  rw [cl_3, cl_5, hf 3 (by omega), hf 5 (by omega), nI_l (n := τ 3) (by omega), nI_l (n := τ 5) (by omega), pw8 _ (by omega), bd1_mk, pk_sub hj, pw8 _ (by omega), bd1_mk, lN_mul]
theorem q_price {tr tree : Nat → Int32} {τ : Nat → Nat} (hf : TC tr τ) (hf9 : TR tree 0 τ) (hT : TK τ) (p1 p2 p3 : Int32) (a b : Int64) : ∃ v s, fX8_price p1 p2 p3 tr = some v ∧ fX9_price p1 p2 p3 tree a b = some (v, s) := by
  by_cases h1 : inr p1 0 (τ 0)
  rotate_left
  · exact ⟨-1, (a, b), by unfold fX8_price; rw [isd8n hf hT h1, bd1_mk, if_pos rfl], by unfold fX9_price; rw [isd9n hf9 hT h1, bd1_mk, if_pos rfl]⟩
  obtain ⟨t, rfl, _, t2, t3⟩ := inr_n h1 (Int.le_refl 0)
  by_cases h2 : inr p2 0 (t : Int)
  rotate_left
  · exact ⟨-1, (a, b), by unfold fX8_price; rw [isd8y hf hT h1, bd1_mk, if_neg one0, wi0 h2 rfl (nI_toInt t3), bd1_mk, if_pos rfl], by unfold fX9_price; rw [isd9y hf9 hT h1, bd1_mk, if_neg one0, in0 h2 rfl (by rw [Int32.toInt_toInt64, nI_toInt t3]), bd1_mk, if_pos rfl]⟩
  obtain ⟨j, rfl, _, j2, _⟩ := inr_n h2 (Int.le_refl 0)
  by_cases h3 : inr p3 0 2
  rotate_left
  · exact ⟨-1, (a, b), by unfold fX8_price; rw [isd8y hf hT h1, bd1_mk, if_neg one0, wi1 h2 rfl (nI_toInt t3), bd1_mk, if_neg one0, wi0 h3, bd1_mk, if_pos rfl], by unfold fX9_price; rw [isd9y hf9 hT h1, bd1_mk, if_neg one0, in1 h2 rfl (by rw [Int32.toInt_toInt64, nI_toInt t3]), bd1_mk, if_neg one0, in0 h3, bd1_mk, if_pos rfl]⟩
  obtain ⟨w, rfl, _, w2, _⟩ := inr_n h3 (by decide)
  have hj : j ≤ t := by omega
  have ht : t ≤ 6 := by omega
  have k1 := pt_le hT (s := τ 1) (by omega) hj ht
  have k2 := pb_le hT hj ht
  have k3 := pb_pos hT j t
  obtain ⟨g1, g2⟩ := gc_b (x := τ 1 * τ 2 ^ j * τ 4 ^ (t - j)) k3
  have e9 : fX9_prices 0 (tree (Int32.toNatClampNeg 1)) (nI t) (nI j) tree a b = some (lN (τ 1 * τ 2 ^ j * τ 4 ^ (t - j)), lN (τ 3 ^ j * τ 5 ^ (t - j))) := by
    rw [cl_1, tr0 hf9 (by omega)]
    exact pr9 (w := 0) hf9 (by omega) ht hj (by omega) hT a b
  refine ⟨lN (if w = 0 then prF τ (τ 1) t j else if w = 1 then τ 1 * τ 2 ^ j * τ 4 ^ (t - j) / Nat.gcd (τ 1 * τ 2 ^ j * τ 4 ^ (t - j)) (τ 3 ^ j * τ 5 ^ (t - j)) else τ 3 ^ j * τ 5 ^ (t - j) / Nat.gcd (τ 1 * τ 2 ^ j * τ 4 ^ (t - j)) (τ 3 ^ j * τ 5 ^ (t - j))), (lN (τ 1 * τ 2 ^ j * τ 4 ^ (t - j)), lN (τ 3 ^ j * τ 5 ^ (t - j))), ?_, ?_⟩
  · unfold fX8_price
    rw [isd8y hf hT h1, bd1_mk, if_neg one0, wi1 h2 rfl (nI_toInt t3), bd1_mk, if_neg one0, wi1 h3, bd1_mk, if_neg one0, pe8 hf hT hj ht, bd1_mk, pT8 hf hT hj ht, bd1_mk, pB8 hf hT hj ht, bd1_mk]
    rcases (show w = 0 ∨ w = 1 ∨ w = 2 by omega) with rfl | rfl | rfl
    · rw [if_pos (show nI 0 = (0 : Int32) from rfl), if_pos rfl]
    · rw [if_neg (show ¬ nI 1 = (0 : Int32) from one0), if_pos (show nI 1 = (1 : Int32) from rfl), bd1_mk, gd8 (by omega) k2, bd1_mk, thr8 (by omega) g1 (by omega), bd1_mk]; rfl
    · rw [if_neg (show ¬ nI 2 = (0 : Int32) by decide), if_neg (show ¬ nI 2 = (1 : Int32) by decide), bd1_mk, gd8 (by omega) k2, bd1_mk, thr8 (by omega) g1 (by omega), bd1_mk]; rfl
  · unfold fX9_price
    rw [isd9y hf9 hT h1, bd1_mk, if_neg one0, in1 h2 rfl (by rw [Int32.toInt_toInt64, nI_toInt t3]), bd1_mk, if_neg one0, in1 h3, bd1_mk, if_neg one0, e9, bd2_mk, co9 (by omega) k2, bd1_mk]
    have hz := lnzb (show Nat.gcd (τ 1 * τ 2 ^ j * τ 4 ^ (t - j)) (τ 3 ^ j * τ 5 ^ (t - j)) ≠ 0 by omega) (by omega)
    rcases (show w = 0 ∨ w = 1 ∨ w = 2 by omega) with rfl | rfl | rfl
    · rw [if_pos (show nI 0 = (0 : Int32) from rfl), og_mk _ (lnzb (by omega) (by omega)), bd1_mk, l_100, lN_mul, pk_lDiv (by omega) k3 (by omega), if_pos rfl]
      unfold prF
      rw [if_pos ⟨hj, ht⟩]
    · rw [if_neg (show ¬ nI 1 = (0 : Int32) from one0), if_pos (show nI 1 = (1 : Int32) from rfl), og_mk _ hz, bd1_mk, pk_lDiv (by omega) g1 (by omega)]; rfl
    · rw [if_neg (show ¬ nI 2 = (0 : Int32) by decide), if_neg (show ¬ nI 2 = (1 : Int32) by decide), og_mk _ hz, bd1_mk, pk_lDiv (by omega) g1 (by omega)]; rfl
