section
/-! pure: ends, life: both sides (own rows) -/
theorem ct2 {A : Nat → Nat} {ac : Nat → Int32} {r : Nat} (h1 : 1 ≤ r) (h : r < 128) (hA : ∀ i, i ≤ dR r → ac (pfx r i) = nI (A (pfx r i)) ∧ A (pfx r i) ≤ 6) : ∀ (i n x : Nat), x + i = dR r → (∀ y, y < x → A (pfx r y) = 0) → lpX5_isComeTo_2 (nI r) ac (n + i + 1) (nI x) = some (if CT A r then 1 else 0) := by
  have hd6 := (row_b1 r h h1).1.1
  intro i
  induction i with
  | zero =>
    intro n x hi hg
    rw [lpX5_isComeTo_2.eq_2, day8 r h h1, bd1_mk, if_pos (nI_le (by omega) (by omega)), if_pos (show CT A r from fun j hj => hg j (by omega))]
  | succ i ih =>
    intro n x hi hg
    obtain ⟨g3, g4, g5⟩ := pf1 r h h1 x (by omega) (by omega)
    rw [lpX5_isComeTo_2.eq_2, day8 r h h1, bd1_mk, if_neg (nI_ge (by omega) (by omega)), rod8 r h h1 x (by omega) (by omega), bd1_mk, acA8 g4 g5, bd1_mk, (hA x (by omega)).1]
    by_cases g : A (pfx r x) = 0
    · rw [if_pos (by rw [g]; rfl), nm_mk, nI_1, show n + (i + 1) = n + i + 1 by omega]
      refine ih n (x + 1) (by omega) (fun y hy => ?_)
      by_cases e : y = x
      · rw [e]; exact g
      · exact hg y (by omega)
    · rw [if_neg (nI_ne0 (by omega) (by have := (hA x (by omega)).2; omega)), if_neg (fun z : CT A r => g (z x (by omega)))]
theorem ct8 {A : Nat → Nat} {ac : Nat → Int32} {r : Nat} (h1 : 1 ≤ r) (h : r < 128) (hA : ∀ i, i ≤ dR r → ac (pfx r i) = nI (A (pfx r i)) ∧ A (pfx r i) ≤ 6) : fX5_isComeTo (nI r) ac = some (if CT A r then 1 else 0) := by
  have hd6 := (row_b1 r h h1).1.1
  unfold fX5_isComeTo
  obtain ⟨n, hn⟩ := fuN (dR r + 1) (by omega)
  rw [hn, i_0, show n + (dR r + 1) = n + dR r + 1 by omega, ct2 h1 h hA (dR r) n 0 (by omega) (fun y hy => absurd hy (by omega)), bd1_mk]
  by_cases g : CT A r
  · rw [if_pos g, if_pos g]; rfl
  · rw [if_neg g, if_neg g]; rfl
theorem co8' {f : Nat → Int32} {τ : Nat → Nat} (hf : TC f τ) (hT : TK τ) {d u : Nat} (hu : u ≤ d) (hd : d ≤ τ 0) : fX7_chanceOf (nI d) (nI u) f = some (lN (τ 6 ^ u * (τ 7 - τ 6) ^ (d - u) * τ 7 ^ (τ 0 - d))) := by
  unfold fX7_chanceOf
  rw [cl_6, cl_7, hf 6 (by omega), hf 7 (by omega), nm_mk, nm_mk, nI_l (n := τ 6) (by omega), pw8 _ (by omega), bd1_mk, pk_sub (by omega), nI_l (n := τ 7 - τ 6) (by omega), pk_sub hu, pw8 _ (by omega), bd1_mk, ld8 hf hT, bd1_mk, nI_l (n := τ 7) (by omega), pk_sub hd, pw8 _ (by omega), bd1_mk, lN_mul, lN_mul]
theorem cwh8 {f : Nat → Int32} {τ : Nat → Nat} (hf : TC f τ) (hT : TK τ) : fX7_chanceWhole f = some (lN (τ 7 ^ τ 0)) := by
  unfold fX7_chanceWhole
  rw [ld8 hf hT, bd1_mk, cl_7, hf 7 (by omega), nI_l (by omega), pw8 _ (by omega), bd1_mk]
/-- a row's part of a sum: g by its day and its place -/
def rwT (p q : Nat) (A : Nat → Nat) (G : Nat → Nat → Nat) (X : Nat → Nat) (r : Nat) : Nat := if r = 0 then 0 else cw p q A r * G (dR r) (X r)
theorem rw_sum {π : Nat → Nat → Nat} {T p q R : Nat} {β : Nat → Nat} (hT : T ≤ 6) (G : Nat → Nat → Nat) : sm (rwT p q (aR π T p q R β (bV π β) (bA π β)) G (xR π β)) (2 * 2 ^ T) = sm (fun t => sm (fun x => wy π T p q R β t x * G t x) 112) (T + 1) := by
  rw [sm_rows _ rfl]
  refine sm_congr (T + 1) (fun t ht => ?_)
  rw [wyE π T p q R β t (by omega)]
  refine sm_congr (2 ^ t) (fun i hi => ?_)
  have hb2 := p2b t (by omega)
  have hd := dR_eq (2 ^ t + i) (by omega) t (by omega) (by omega) (by omega)
  unfold rwT
  rw [if_neg (by omega), hd]
theorem wy_sum {π : Nat → Nat → Nat} {T p q R : Nat} {β : Nat → Nat} {way : Nat → Int64} (hT : T ≤ 6) (hW : WW π T p q R β way) (G : Nat → Nat → Nat) (h : Nat → Nat) (hh : ∀ s x, s < 7 → x < 112 → h (112 * s + x) = if s ≤ T then wy π T p q R β s x * G s x else 0) : sm h 784 = sm (fun t => sm (fun x => wy π T p q R β t x * G t x) 112) (T + 1) := by
  rw [show 784 = 112 * 7 by rfl, sm_blk]
  have e : sm (fun t => sm (fun i => h (112 * t + i)) 112) 7 = sm (fun t => if t ≤ T then sm (fun x => wy π T p q R β t x * G t x) 112 else 0) 7 := by
    refine sm_congr 7 (fun t ht => ?_)
    by_cases g : t ≤ T
    · rw [if_pos g]
      refine sm_congr 112 (fun x hx => ?_)
      rw [hh t x ht hx, if_pos g]
    · rw [if_neg g, ← sm_zero 112]
      refine sm_congr 112 (fun x hx => ?_)
      rw [hh t x ht hx, if_neg g]
  rw [e, sm_tail (m := T + 1) (n := 7) (by omega) (fun i h1 h2 => if_neg (by omega))]
  exact sm_congr (T + 1) (fun t ht => if_pos (by omega))
theorem G_b {π : Nat → Nat → Nat} {T p q R : Nat} {β : Nat → Nat} (hN : NK T p q R) {G : Nat → Nat → Nat} (hG : ∀ t x, t ≤ T → G t x ≤ 6 * q ^ (T - t)) : sm (fun t => sm (fun x => wy π T p q R β t x * G t x) 112) (T + 1) ≤ 7 * (6 * 64000000) := by
  have h1 : ∀ t, t < T + 1 → sm (fun x => wy π T p q R β t x * G t x) 112 ≤ 6 * 64000000 := by
    intro t ht
    refine Nat.le_trans (sm_le (g := fun x => wy π T p q R β t x * (6 * q ^ (T - t))) 112 (fun x _ => Nat.mul_le_mul (Nat.le_refl _) (hG t x (by omega)))) ?_
    rw [sm_mul]
    refine Nat.le_trans (Nat.mul_le_mul (wy_tot (by omega) t (by omega)) (Nat.le_refl _)) ?_
    rw [Nat.mul_left_comm, ← Nat.pow_add, Nat.add_sub_cancel' (by omega)]
    refine Nat.mul_le_mul (Nat.le_refl 6) ?_
    have h4 := Nat.pow_le_pow_left (show q ≤ 20 by omega) T
    have h5 : 20 ^ T ≤ 20 ^ 6 := Nat.pow_le_pow_right (by omega) hN.1.2
    have h6 : (20 : Nat) ^ 6 = 64000000 := rfl
    exact Nat.le_trans h4 (by rw [← h6]; exact h5)
  refine Nat.le_trans (sm_le (g := fun _ => 6 * 64000000) (T + 1) h1) ?_
  have h7 : ∀ n, sm (fun _ => 6 * 64000000) n = n * (6 * 64000000) := by
    intro n
    induction n with
    | zero => rfl
    | succ n ih => show sm (fun _ => 6 * 64000000) n + 6 * 64000000 = _; rw [ih]; omega
  rw [h7]
  exact Nat.mul_le_mul (by omega) (Nat.le_refl _)
def Ge (π : Nat → Nat → Nat) (T p q R : Nat) (β : Nat → Nat) (a t x : Nat) : Nat := if AC π T p q R β t x = a then q ^ (T - t) else 0
def Gl (π : Nat → Nat → Nat) (T p q R : Nat) (β : Nat → Nat) (t x : Nat) : Nat := if AC π T p q R β t x = 0 then 0 else q ^ (T - t) * t
/-- the class's sums over rows -/
theorem ce5 {f : Nat → Int32} {τ β : Nat → Nat} (hf : TC f τ) (hT : TK τ) {ac : Nat → Int32} (hA : ∀ r, 1 ≤ r → r < 128 → dR r ≤ τ 0 → ac r = nI (A1 τ β r) ∧ A1 τ β r ≤ 6) {a : Nat} (ha : a ≤ 6) : ∀ (i n r s : Nat), r + i = 2 * 2 ^ τ 0 → 1 ≤ r → lpX5_chanceOfEnd_5 (nI a) f ac (n + i + 1) (lN s) (nI r) = some (lN (s + sm (fun x => rwT (τ 6) (τ 7) (A1 τ β) (Ge (prF τ (τ 1)) (τ 0) (τ 6) (τ 7) (τ 8) β a) (xR (prF τ (τ 1)) β) (r + x)) i)) := by
  have hb2 := p2b (τ 0) (by omega)
  intro i
  induction i with
  | zero =>
    intro n r s hi h1
    rw [lpX5_chanceOfEnd_5.eq_2, lr8' hf hT, bd1_mk, if_pos (nI_lt (by omega) (by omega))]; rfl
  | succ i ih =>
    intro n r s hi h1
    have hr : r < 128 := by omega
    obtain ⟨⟨b1, b2, b3⟩, b4, b5, b6⟩ := row_b1 r hr h1
    have hdT : dR r ≤ τ 0 := by
      by_cases g : dR r ≤ τ 0
      · exact g
      · have := Nat.pow_le_pow_right (show 0 < 2 by omega) (show τ 0 + 1 ≤ dR r by omega)
        rw [Nat.pow_succ] at this
        omega
    obtain ⟨a1, a2⟩ := hA r h1 hr hdT
    have hAr : ∀ j, j ≤ dR r → ac (pfx r j) = nI (A1 τ β (pfx r j)) ∧ A1 τ β (pfx r j) ≤ 6 := by
      intro j hj
      obtain ⟨q1, q2, q3⟩ := pf1 r hr h1 j (by omega) hj
      exact hA _ q2 q3 (by omega)
    have e : sm (fun x => rwT (τ 6) (τ 7) (A1 τ β) (Ge (prF τ (τ 1)) (τ 0) (τ 6) (τ 7) (τ 8) β a) (xR (prF τ (τ 1)) β) (r + x)) (i + 1) = rwT (τ 6) (τ 7) (A1 τ β) (Ge (prF τ (τ 1)) (τ 0) (τ 6) (τ 7) (τ 8) β a) (xR (prF τ (τ 1)) β) r + sm (fun x => rwT (τ 6) (τ 7) (A1 τ β) (Ge (prF τ (τ 1)) (τ 0) (τ 6) (τ 7) (τ 8) β a) (xR (prF τ (τ 1)) β) (r + 1 + x)) i := by
      rw [Nat.add_comm i 1, sm_app]
      have e1 : sm (fun x => rwT (τ 6) (τ 7) (A1 τ β) (Ge (prF τ (τ 1)) (τ 0) (τ 6) (τ 7) (τ 8) β a) (xR (prF τ (τ 1)) β) (r + x)) 1 = rwT (τ 6) (τ 7) (A1 τ β) (Ge (prF τ (τ 1)) (τ 0) (τ 6) (τ 7) (τ 8) β a) (xR (prF τ (τ 1)) β) r := Nat.zero_add _
      rw [e1]
      congr 1
      exact sm_congr i (fun x _ => by rw [Nat.add_assoc])
    have hrw : rwT (τ 6) (τ 7) (A1 τ β) (Ge (prF τ (τ 1)) (τ 0) (τ 6) (τ 7) (τ 8) β a) (xR (prF τ (τ 1)) β) r = if A1 τ β r = a ∧ CT (A1 τ β) r then τ 6 ^ uR r * (τ 7 - τ 6) ^ (dR r - uR r) * τ 7 ^ (τ 0 - dR r) else 0 := by
      unfold rwT Ge cw
      rw [if_neg (by omega), AC_r _ _ _ _ _ _ h1 hr]
      by_cases g1 : A1 τ β r = a
      · rw [if_pos (show aR (prF τ (τ 1)) (τ 0) (τ 6) (τ 7) (τ 8) β (bV (prF τ (τ 1)) β) (bA (prF τ (τ 1)) β) r = a from g1)]
        by_cases g2 : CT (A1 τ β) r
        · rw [if_pos g2, if_pos ⟨g1, g2⟩]
        · rw [if_neg g2, if_neg (fun z => g2 z.2), Nat.zero_mul]
      · rw [if_neg (show ¬ aR (prF τ (τ 1)) (τ 0) (τ 6) (τ 7) (τ 8) β (bV (prF τ (τ 1)) β) (bA (prF τ (τ 1)) β) r = a from g1), if_neg (show ¬ (A1 τ β r = a ∧ CT (A1 τ β) r) from fun z => g1 z.1), Nat.mul_zero]
    rw [lpX5_chanceOfEnd_5.eq_2, lr8' hf hT, bd1_mk, if_neg (nI_nlt (by omega) (by omega)), acA8 h1 hr, bd1_mk, a1, e, hrw]
    by_cases g1 : A1 τ β r = a
    · rw [if_pos (by rw [g1]), ct8 h1 hr hAr, bd1_mk]
      by_cases g2 : CT (A1 τ β) r
      · rw [if_pos g2, if_neg one0, day8 r hr h1, bd1_mk, ups8 r hr h1, bd1_mk, co8' hf hT b2 hdT, bd1_mk, nm_mk, bd1_mk, nm_mk, lN_add, nI_1, if_pos ⟨g1, g2⟩, show n + (i + 1) = n + i + 1 by omega, ih n (r + 1) _ (by omega) (by omega), Nat.add_assoc]
      · rw [if_neg g2, if_pos rfl, bd1_mk, nm_mk, nI_1, if_neg (fun z => g2 z.2), Nat.zero_add, show n + (i + 1) = n + i + 1 by omega, ih n (r + 1) _ (by omega) (by omega)]
    · rw [if_neg (fun z => g1 ((nI_eq (by omega) (by omega)).mp z)), bd1_mk, nm_mk, nI_1, if_neg (fun z => g1 z.1), Nat.zero_add, show n + (i + 1) = n + i + 1 by omega, ih n (r + 1) _ (by omega) (by omega)]
theorem cl4 {f : Nat → Int32} {τ β : Nat → Nat} (hf : TC f τ) (hT : TK τ) {ac : Nat → Int32} (hA : ∀ r, 1 ≤ r → r < 128 → dR r ≤ τ 0 → ac r = nI (A1 τ β r) ∧ A1 τ β r ≤ 6) : ∀ (i n r s : Nat), r + i = 2 * 2 ^ τ 0 → 1 ≤ r → lpX5_chancesTimesDays_4 f ac (n + i + 1) (lN s) (nI r) = some (lN (s + sm (fun x => rwT (τ 6) (τ 7) (A1 τ β) (Gl (prF τ (τ 1)) (τ 0) (τ 6) (τ 7) (τ 8) β) (xR (prF τ (τ 1)) β) (r + x)) i)) := by
  have hb2 := p2b (τ 0) (by omega)
  intro i
  induction i with
  | zero =>
    intro n r s hi h1
    rw [lpX5_chancesTimesDays_4.eq_2, lr8' hf hT, bd1_mk, if_pos (nI_lt (by omega) (by omega))]; rfl
  | succ i ih =>
    intro n r s hi h1
    have hr : r < 128 := by omega
    obtain ⟨⟨b1, b2, b3⟩, b4, b5, b6⟩ := row_b1 r hr h1
    have hdT : dR r ≤ τ 0 := by
      by_cases g : dR r ≤ τ 0
      · exact g
      · have := Nat.pow_le_pow_right (show 0 < 2 by omega) (show τ 0 + 1 ≤ dR r by omega)
        rw [Nat.pow_succ] at this
        omega
    obtain ⟨a1, a2⟩ := hA r h1 hr hdT
    have hAr : ∀ j, j ≤ dR r → ac (pfx r j) = nI (A1 τ β (pfx r j)) ∧ A1 τ β (pfx r j) ≤ 6 := by
      intro j hj
      obtain ⟨q1, q2, q3⟩ := pf1 r hr h1 j (by omega) hj
      exact hA _ q2 q3 (by omega)
    have e : sm (fun x => rwT (τ 6) (τ 7) (A1 τ β) (Gl (prF τ (τ 1)) (τ 0) (τ 6) (τ 7) (τ 8) β) (xR (prF τ (τ 1)) β) (r + x)) (i + 1) = rwT (τ 6) (τ 7) (A1 τ β) (Gl (prF τ (τ 1)) (τ 0) (τ 6) (τ 7) (τ 8) β) (xR (prF τ (τ 1)) β) r + sm (fun x => rwT (τ 6) (τ 7) (A1 τ β) (Gl (prF τ (τ 1)) (τ 0) (τ 6) (τ 7) (τ 8) β) (xR (prF τ (τ 1)) β) (r + 1 + x)) i := by
      rw [Nat.add_comm i 1, sm_app]
      have e1 : sm (fun x => rwT (τ 6) (τ 7) (A1 τ β) (Gl (prF τ (τ 1)) (τ 0) (τ 6) (τ 7) (τ 8) β) (xR (prF τ (τ 1)) β) (r + x)) 1 = rwT (τ 6) (τ 7) (A1 τ β) (Gl (prF τ (τ 1)) (τ 0) (τ 6) (τ 7) (τ 8) β) (xR (prF τ (τ 1)) β) r := Nat.zero_add _
      rw [e1]
      congr 1
      exact sm_congr i (fun x _ => by rw [Nat.add_assoc])
    have hrw : rwT (τ 6) (τ 7) (A1 τ β) (Gl (prF τ (τ 1)) (τ 0) (τ 6) (τ 7) (τ 8) β) (xR (prF τ (τ 1)) β) r = if A1 τ β r ≠ 0 ∧ CT (A1 τ β) r then dR r * (τ 6 ^ uR r * (τ 7 - τ 6) ^ (dR r - uR r) * τ 7 ^ (τ 0 - dR r)) else 0 := by
      unfold rwT Gl cw
      rw [if_neg (by omega), AC_r _ _ _ _ _ _ h1 hr]
      by_cases g1 : A1 τ β r = 0
      · rw [if_pos (show aR (prF τ (τ 1)) (τ 0) (τ 6) (τ 7) (τ 8) β (bV (prF τ (τ 1)) β) (bA (prF τ (τ 1)) β) r = 0 from g1), if_neg (show ¬ (A1 τ β r ≠ 0 ∧ CT (A1 τ β) r) from fun z => z.1 g1), Nat.mul_zero]
      · rw [if_neg (show ¬ aR (prF τ (τ 1)) (τ 0) (τ 6) (τ 7) (τ 8) β (bV (prF τ (τ 1)) β) (bA (prF τ (τ 1)) β) r = 0 from g1)]
        by_cases g2 : CT (A1 τ β) r
        · rw [if_pos g2, if_pos ⟨g1, g2⟩, ← Nat.mul_assoc, Nat.mul_comm]
        · rw [if_neg g2, if_neg (fun z => g2 z.2), Nat.zero_mul]
    rw [lpX5_chancesTimesDays_4.eq_2, lr8' hf hT, bd1_mk, if_neg (nI_nlt (by omega) (by omega)), acA8 h1 hr, bd1_mk, a1, e, hrw]
    by_cases g1 : A1 τ β r = 0
    · rw [if_pos (by rw [g1]; rfl), bd1_mk, nm_mk, nI_1, if_neg (fun z => z.1 g1), Nat.zero_add, show n + (i + 1) = n + i + 1 by omega, ih n (r + 1) _ (by omega) (by omega)]
    · rw [if_neg (nI_ne0 (by omega) (by omega)), ct8 h1 hr hAr, bd1_mk]
      by_cases g2 : CT (A1 τ β) r
      · rw [if_pos g2, if_neg one0, day8 r hr h1, bd1_mk, bd1_mk, ups8 r hr h1, bd1_mk, co8' hf hT b2 hdT, bd1_mk, nm_mk, bd1_mk, nm_mk, nI_l (n := dR r) (by omega), lN_mul, lN_add, nI_1, if_pos ⟨g1, g2⟩, show n + (i + 1) = n + i + 1 by omega, ih n (r + 1) _ (by omega) (by omega), Nat.add_assoc]
      · rw [if_neg g2, if_pos rfl, bd1_mk, nm_mk, nI_1, if_neg (fun z => g2 z.2), Nat.zero_add, show n + (i + 1) = n + i + 1 by omega, ih n (r + 1) _ (by omega) (by omega)]
end
section
/-! pure: ends, life: the reference's sums; both sides (own rows) -/
theorem rpx5 (q : Nat) (hq : q ≤ 20) {k : Nat} (hk : k ≤ 6) : ∀ (i n j : Nat), j + i = k → lpX9_power_5 (nI k) (nI q) (n + i + 1) (lN (q ^ j)) (nI j) = some (lN (q ^ k)) := by
  intro i
  induction i with
  | zero =>
    intro n j h
    rw [lpX9_power_5.eq_2, if_pos (nI_le (by omega) (by omega)), show j = k by omega]
  | succ i ih =>
    intro n j h
    rw [lpX9_power_5.eq_2, if_neg (nI_ge (by omega) (by omega)), nm_mk, nm_mk, nI_1, nI_l (by omega), lN_mul, ← Nat.pow_succ, show n + (i + 1) = n + i + 1 by omega, ih n (j + 1) (by omega)]
theorem rp9 {q k : Nat} (hq : q ≤ 20) (hk : k ≤ 6) : fX9_power (nI k) (nI q) = some (lN (q ^ k)) := by
  unfold fX9_power
  obtain ⟨n, hn⟩ := fuN (k + 1) (by omega)
  have := rpx5 q hq hk k n 0 (by omega)
  rw [Nat.pow_zero] at this
  rw [hn, l_1, i_0, show n + (k + 1) = n + k + 1 by omega, this, bd1_mk]
theorem day9 {x : Nat} (h : x < 784) : fX9_dayOf (nI x) = some (nI (x / 112)) := by
  unfold fX9_dayOf
  rw [i_112, pk_div (by omega) (by omega) (by omega)]
abbrev WA (π : Nat → Nat → Nat) (T p q R : Nat) (β : Nat → Nat) (way : Nat → Int64) (ac : Nat → Int32) : Prop := WW π T p q R β way ∧ ∀ s x, s ≤ T → wy π T p q R β s x ≠ 0 → ac (112 * s + x) = nI (AC π T p q R β s x) ∧ AC π T p q R β s x ≤ 6
def hX (π : Nat → Nat → Nat) (T p q R : Nat) (β : Nat → Nat) (G : Nat → Nat → Nat) (z : Nat) : Nat := if z / 112 ≤ T then wy π T p q R β (z / 112) (z % 112) * G (z / 112) (z % 112) else 0
theorem hX_d {π : Nat → Nat → Nat} {T p q R : Nat} {β : Nat → Nat} {G : Nat → Nat → Nat} : ∀ s x, s < 7 → x < 112 → hX π T p q R β G (112 * s + x) = if s ≤ T then wy π T p q R β s x * G s x else 0 := by
  intro s x h1 h2
  unfold hX
  rw [show (112 * s + x) / 112 = s by omega, show (112 * s + x) % 112 = x by omega]
theorem sm_1 (f : Nat → Nat) (x i : Nat) : sm (fun y => f (x + y)) (i + 1) = f x + sm (fun y => f (x + 1 + y)) i := by
  rw [Nat.add_comm i 1, sm_app]
  have e1 : sm (fun y => f (x + y)) 1 = f x := Nat.zero_add _
  rw [e1]
  congr 1
  exact sm_congr i (fun y _ => by rw [Nat.add_assoc])
theorem wz {π : Nat → Nat → Nat} {T p q R : Nat} {β : Nat → Nat} {way : Nat → Int64} (hN : NK T p q R) (hW : WW π T p q R β way) {x : Nat} (hx : x < 784) : (way x ≤ 0 ↔ ¬ (x / 112 ≤ T ∧ wy π T p q R β (x / 112) (x % 112) ≠ 0)) ∧ (way x = 0 ↔ ¬ (x / 112 ≤ T ∧ wy π T p q R β (x / 112) (x % 112) ≠ 0)) ∧ (x / 112 ≤ T → way x = lN (wy π T p q R β (x / 112) (x % 112))) := by
  have h := hW (x / 112) (x % 112) (by omega) (by omega)
  rw [show 112 * (x / 112) + x % 112 = x by omega] at h
  have hb : (if x / 112 ≤ T then wy π T p q R β (x / 112) (x % 112) else 0) ≤ 64000000 := by
    split
    · exact wy_b (by omega) (by omega) (by omega)
    · omega
  have hi : (if x / 112 ≤ T then wy π T p q R β (x / 112) (x % 112) else 0) = 0 ↔ ¬ (x / 112 ≤ T ∧ wy π T p q R β (x / 112) (x % 112) ≠ 0) := by
    by_cases g : x / 112 ≤ T
    · rw [if_pos g]
      exact ⟨fun z q => q.2 z, fun z => Decidable.byContradiction (fun q => z ⟨g, q⟩)⟩
    · rw [if_neg g]
      exact ⟨fun _ q => g q.1, fun _ => rfl⟩
  refine ⟨?_, ?_, fun g => by rw [h, if_pos g]⟩
  · rw [h, ← hi, l_0, pk_lLE (by omega) (by omega)]; omega
  · rw [h, ← hi, l_0, pk_lEQ (by omega) (by omega)]
theorem en44 {π : Nat → Nat → Nat} {T p q R : Nat} {β : Nat → Nat} {way : Nat → Int64} {ac : Nat → Int32} (hN : NK T p q R) (hW : WA π T p q R β way ac) {a : Nat} (ha : a ≤ 6) (w : Int32) : ∀ (i n x s : Nat), x + i = 784 → lpX9_ends_44 (nI a) w (nI T) (nI q) way ac (n + i + 1) (lN s) (nI x) = some (lN (s + sm (fun y => hX π T p q R β (Ge π T p q R β a) (x + y)) i)) := by
  intro i
  induction i with
  | zero =>
    intro n x s hi
    rw [lpX9_ends_44.eq_2, if_pos (show (784 : Int32) ≤ nI x from nI_le (a := 784) (by omega) (by omega))]; rfl
  | succ i ih =>
    intro n x s hi
    obtain ⟨z1, z2, z3⟩ := wz hN hW.1 (show x < 784 by omega)
    have hs := sm_1 (hX π T p q R β (Ge π T p q R β a)) x i
    rw [lpX9_ends_44.eq_2, if_neg (show ¬ (784 : Int32) ≤ nI x from nI_ge (b := 784) (by omega) (by omega)), og32 (by omega) (by omega), nI_clamp (by omega), hs]
    by_cases g : x / 112 ≤ T ∧ wy π T p q R β (x / 112) (x % 112) ≠ 0
    · obtain ⟨a1, a2⟩ := hW.2 (x / 112) (x % 112) g.1 g.2
      rw [show 112 * (x / 112) + x % 112 = x by omega] at a1
      rw [if_neg (fun z => z1.mp z g), og32 (by omega) (by omega), a1]
      have hx0 : hX π T p q R β (Ge π T p q R β a) x = if AC π T p q R β (x / 112) (x % 112) = a then wy π T p q R β (x / 112) (x % 112) * q ^ (T - x / 112) else 0 := by
        unfold hX Ge
        rw [if_pos g.1]
        split
        · rfl
        · exact Nat.mul_zero _
      rw [hx0]
      by_cases g2 : AC π T p q R β (x / 112) (x % 112) = a
      · rw [if_pos (by rw [g2]), og32 (by omega) (by omega), day9 (by omega), bd1_mk, pk_sub g.1, rp9 (by omega) (by omega), bd1_mk, nm_mk, bd1_mk, nm_mk, z3 g.1, lN_mul, lN_add, nI_1, if_pos g2, show n + (i + 1) = n + i + 1 by omega, ih n (x + 1) _ (by omega), Nat.add_assoc]
      · rw [if_neg (fun z => g2 ((nI_eq (by omega) (by omega)).mp z)), bd1_mk, nm_mk, nI_1, if_neg g2, Nat.zero_add, show n + (i + 1) = n + i + 1 by omega, ih n (x + 1) _ (by omega)]
    · have hx0 : hX π T p q R β (Ge π T p q R β a) x = 0 := by
        unfold hX
        split
        · rename_i h1
          have : wy π T p q R β (x / 112) (x % 112) = 0 := Decidable.byContradiction (fun z => g ⟨h1, z⟩)
          rw [this, Nat.zero_mul]
        · rfl
      rw [if_pos (z1.mpr g), bd1_mk, nm_mk, nI_1, hx0, Nat.zero_add, show n + (i + 1) = n + i + 1 by omega, ih n (x + 1) _ (by omega)]
theorem li31 {π : Nat → Nat → Nat} {T p q R : Nat} {β : Nat → Nat} {way : Nat → Int64} {ac : Nat → Int32} (hN : NK T p q R) (hW : WA π T p q R β way ac) (w : Int32) : ∀ (i n x s : Nat), x + i = 784 → lpX9_life_31 w (nI T) (nI q) way ac (n + i + 1) (lN s) (nI x) = some (lN (s + sm (fun y => hX π T p q R β (Gl π T p q R β) (x + y)) i)) := by
  intro i
  induction i with
  | zero =>
    intro n x s hi
    rw [lpX9_life_31.eq_2, if_pos (show (784 : Int32) ≤ nI x from nI_le (a := 784) (by omega) (by omega))]; rfl
  | succ i ih =>
    intro n x s hi
    obtain ⟨z1, z2, z3⟩ := wz hN hW.1 (show x < 784 by omega)
    have hs := sm_1 (hX π T p q R β (Gl π T p q R β)) x i
    rw [lpX9_life_31.eq_2, if_neg (show ¬ (784 : Int32) ≤ nI x from nI_ge (b := 784) (by omega) (by omega)), og32 (by omega) (by omega), nI_clamp (by omega), hs]
    by_cases g : x / 112 ≤ T ∧ wy π T p q R β (x / 112) (x % 112) ≠ 0
    · obtain ⟨a1, a2⟩ := hW.2 (x / 112) (x % 112) g.1 g.2
      rw [show 112 * (x / 112) + x % 112 = x by omega] at a1
      rw [if_neg (fun z => z1.mp z g), og32 (by omega) (by omega), a1]
      have hx0 : hX π T p q R β (Gl π T p q R β) x = if AC π T p q R β (x / 112) (x % 112) = 0 then 0 else wy π T p q R β (x / 112) (x % 112) * q ^ (T - x / 112) * (x / 112) := by
        unfold hX Gl
        rw [if_pos g.1]
        split
        · exact Nat.mul_zero _
        · exact (Nat.mul_assoc _ _ _).symm
      rw [hx0]
      by_cases g2 : AC π T p q R β (x / 112) (x % 112) = 0
      · rw [if_pos (by rw [g2]; rfl), bd1_mk, nm_mk, nI_1, if_pos g2, Nat.zero_add, show n + (i + 1) = n + i + 1 by omega, ih n (x + 1) _ (by omega)]
      · rw [if_neg (nI_ne0 (by omega) (by omega)), og32 (by omega) (by omega), day9 (by omega), bd1_mk, pk_sub g.1, rp9 (by omega) (by omega), bd1_mk, bd1_mk, nm_mk, bd1_mk, nm_mk, z3 g.1, lN_mul, nI_l (by omega), lN_mul, lN_add, nI_1, if_neg g2, show n + (i + 1) = n + i + 1 by omega, ih n (x + 1) _ (by omega), Nat.add_assoc]
    · have hx0 : hX π T p q R β (Gl π T p q R β) x = 0 := by
        unfold hX
        split
        · rename_i h1
          have : wy π T p q R β (x / 112) (x % 112) = 0 := Decidable.byContradiction (fun z => g ⟨h1, z⟩)
          rw [this, Nat.zero_mul]
        · rfl
      rw [if_pos (z1.mpr g), bd1_mk, nm_mk, nI_1, hx0, Nat.zero_add, show n + (i + 1) = n + i + 1 by omega, ih n (x + 1) _ (by omega)]
/-- acts by rows are no more than 6 -/
theorem acS_6 (π : Nat → Nat → Nat) (T p q R : Nat) (β : Nat → Nat) (t j u m : Nat) : acS π T p q R β t j u m ≤ 6 := by
  unfold acS
  split
  · unfold enA; split <;> omega
  · have := (bA_k π β t j u m (hG π T p q R β (bV π β) (T - t - 1) j m)).1
    omega
theorem GD.wa {π : Nat → Nat → Nat} {T p q R : Nat} {β : Nat → Nat} {wo ho : Nat → Int64} {ac : Nat → Int32} (h : GD π T p q R β (fun _ _ _ _ => True) wo ho ac) {way : Nat → Int64} (hW : WW π T p q R β way) : WA π T p q R β way ac := by
  refine ⟨hW, fun s x h1 h2 => ⟨?_, acS_6 _ _ _ _ _ _ _ _ _ _⟩⟩
  have hok := wy_ok π T p q R β s x h2
  have := (h s (x / 16) (x / 8 % 2) (x % 8) h1 hok trivial).2.2
  rw [atN_x, show (x / 16 * 2 + x / 8 % 2) * 8 + x % 8 = x by omega] at this
  exact this
theorem la9 {tree bs : Nat → Int32} {τ β : Nat → Nat} (hf9 : TR tree 0 τ) (hT : TK τ) {k : Nat} (hk : k < 3) (hb : RB bs k β) (hK : BK β) (x0 x1 x2 x3 : Int32) (pe9 : Nat → Int64) (a9 b9 : Int64) (wo9 ho9 wa9 : Nat → Int64) (ac9 : Nat → Int32) : Sx (fX9_laysAll (nI k) tree bs x0 x1 x2 x3 pe9 a9 b9 wo9 ho9 wa9 ac9) (fun z => z.1 = nI (τ 0) ∧ z.2.1 = nI (τ 6) ∧ z.2.2.1 = nI (τ 7) ∧ z.2.2.2.1 = nI (τ 8) ∧ RP z.2.2.2.2.1 (τ 0) (prF τ (τ 1)) ∧ GD (prF τ (τ 1)) (τ 0) (τ 6) (τ 7) (τ 8) β (fun _ _ _ _ => True) z.2.2.2.2.2.2.2.1 z.2.2.2.2.2.2.2.2.1 z.2.2.2.2.2.2.2.2.2.2 ∧ WA (prF τ (τ 1)) (τ 0) (τ 6) (τ 7) (τ 8) β z.2.2.2.2.2.2.2.2.2.1 z.2.2.2.2.2.2.2.2.2.2) := by
  unfold fX9_laysAll
  refine Sx.b10 (pn9 hf9 hT hk hb hK x0 x1 x2 x3 pe9 a9 b9 wo9 ho9 ac9) ?_
  rintro d0 d1 d2 d3 pe' d5 d6 d7 d8 d9 ⟨rfl, rfl, rfl, rfl, hP, hG⟩
  dsimp only at hP hG ⊢
  refine Sx.b1 (lw9 hb hK (prF_PK hT (by omega)) hP hT.n (fun t j u m h1 h2 => ⟨(hG t j u m h1 h2 trivial).2.2, acS_6 _ _ _ _ _ _ _ _ _ _⟩) wa9) ?_
  intro z hz
  exact Sx.mk ⟨rfl, rfl, rfl, rfl, hP, hG, hG.wa hz⟩
/-- the sum of both sides -/
def sE (τ β : Nat → Nat) (a : Nat) : Nat := sm (fun t => sm (fun x => wy (prF τ (τ 1)) (τ 0) (τ 6) (τ 7) (τ 8) β t x * Ge (prF τ (τ 1)) (τ 0) (τ 6) (τ 7) (τ 8) β a t x) 112) (τ 0 + 1)
def sL (τ β : Nat → Nat) : Nat := sm (fun t => sm (fun x => wy (prF τ (τ 1)) (τ 0) (τ 6) (τ 7) (τ 8) β t x * Gl (prF τ (τ 1)) (τ 0) (τ 6) (τ 7) (τ 8) β t x) 112) (τ 0 + 1)
theorem sE_b {τ : Nat → Nat} (hT : TK τ) (β : Nat → Nat) (a : Nat) : sE τ β a ≤ 7 * (6 * 64000000) := by
  refine G_b hT.n (fun t x ht => ?_)
  unfold Ge
  split
  · omega
  · omega
theorem sL_b {τ : Nat → Nat} (hT : TK τ) (β : Nat → Nat) : sL τ β ≤ 7 * (6 * 64000000) := by
  refine G_b hT.n (fun t x ht => ?_)
  unfold Gl
  split
  · omega
  · rw [Nat.mul_comm]; exact Nat.mul_le_mul (by omega) (Nat.le_refl _)
theorem qT_b {τ : Nat → Nat} (hT : TK τ) : 0 < τ 7 ^ τ 0 ∧ τ 7 ^ τ 0 ≤ 64000000 := by
  refine ⟨Nat.pow_pos (by omega), ?_⟩
  have h4 := Nat.pow_le_pow_left (show τ 7 ≤ 20 by omega) (τ 0)
  have h5 : 20 ^ τ 0 ≤ 20 ^ 6 := Nat.pow_le_pow_right (by omega) hT.1.2
  have h6 : (20 : Nat) ^ 6 = 64000000 := rfl
  exact Nat.le_trans h4 (by rw [← h6]; exact h5)
theorem cE8 {f : Nat → Int32} {τ β : Nat → Nat} (hf : TC f τ) (hT : TK τ) {ac : Nat → Int32} (hA : ∀ r, 1 ≤ r → r < 128 → dR r ≤ τ 0 → ac r = nI (A1 τ β r) ∧ A1 τ β r ≤ 6) {a : Nat} (ha : a ≤ 6) : fX5_chanceOfEnd (nI a) f ac = some (lN (sE τ β a)) := by
  have hb2 := p2b (τ 0) (by omega)
  unfold fX5_chanceOfEnd
  obtain ⟨n, hn⟩ := fuN (2 * 2 ^ τ 0) (by omega)
  have h := ce5 hf hT hA ha (2 * 2 ^ τ 0 - 1) n 1 0 (by omega) (by omega)
  have hs := rw_sum (π := prF τ (τ 1)) (T := τ 0) (p := τ 6) (q := τ 7) (R := τ 8) (β := β) (by omega) (Ge (prF τ (τ 1)) (τ 0) (τ 6) (τ 7) (τ 8) β a)
  rw [show 2 * 2 ^ τ 0 = 1 + (2 * 2 ^ τ 0 - 1) by omega, sm_app] at hs
  have e1 : sm (rwT (τ 6) (τ 7) (aR (prF τ (τ 1)) (τ 0) (τ 6) (τ 7) (τ 8) β (bV (prF τ (τ 1)) β) (bA (prF τ (τ 1)) β)) (Ge (prF τ (τ 1)) (τ 0) (τ 6) (τ 7) (τ 8) β a) (xR (prF τ (τ 1)) β)) 1 = 0 := rfl
  rw [e1, Nat.zero_add] at hs
  rw [hn, show n + 2 * 2 ^ τ 0 = n + (2 * 2 ^ τ 0 - 1) + 1 by omega, i_1, l_0, h, bd1_mk, Nat.zero_add]
  exact congrArg (fun z => some (lN z)) hs
theorem cL8 {f : Nat → Int32} {τ β : Nat → Nat} (hf : TC f τ) (hT : TK τ) {ac : Nat → Int32} (hA : ∀ r, 1 ≤ r → r < 128 → dR r ≤ τ 0 → ac r = nI (A1 τ β r) ∧ A1 τ β r ≤ 6) : fX5_chancesTimesDays f ac = some (lN (sL τ β)) := by
  have hb2 := p2b (τ 0) (by omega)
  unfold fX5_chancesTimesDays
  obtain ⟨n, hn⟩ := fuN (2 * 2 ^ τ 0) (by omega)
  have h := cl4 hf hT hA (2 * 2 ^ τ 0 - 1) n 1 0 (by omega) (by omega)
  have hs := rw_sum (π := prF τ (τ 1)) (T := τ 0) (p := τ 6) (q := τ 7) (R := τ 8) (β := β) (by omega) (Gl (prF τ (τ 1)) (τ 0) (τ 6) (τ 7) (τ 8) β)
  rw [show 2 * 2 ^ τ 0 = 1 + (2 * 2 ^ τ 0 - 1) by omega, sm_app] at hs
  have e1 : sm (rwT (τ 6) (τ 7) (aR (prF τ (τ 1)) (τ 0) (τ 6) (τ 7) (τ 8) β (bV (prF τ (τ 1)) β) (bA (prF τ (τ 1)) β)) (Gl (prF τ (τ 1)) (τ 0) (τ 6) (τ 7) (τ 8) β) (xR (prF τ (τ 1)) β)) 1 = 0 := rfl
  rw [e1, Nat.zero_add] at hs
  rw [hn, show n + 2 * 2 ^ τ 0 = n + (2 * 2 ^ τ 0 - 1) + 1 by omega, i_1, l_0, h, bd1_mk, Nat.zero_add]
  exact congrArg (fun z => some (lN z)) hs
theorem SB.a6 {τ β : Nat → Nat} (hT : TK τ) {pe tu ca ho va : Nat → Int64} {ma ac : Nat → Int32} (hS : SB τ β pe tu ca ho va ma ac) : ∀ r, 1 ≤ r → r < 128 → dR r ≤ τ 0 → ac r = nI (A1 τ β r) ∧ A1 τ β r ≤ 6 := fun r h1 h2 h3 => ⟨(hS.a hT r h1 h2 h3).1, (hS.a hT r h1 h2 h3).2.1.1⟩
theorem q_ends {tr b0 b1 b2 tree bs : Nat → Int32} {τ : Nat → Nat} {B : Nat → Nat → Nat} (hf : TC tr τ) (hf9 : TR tree 0 τ) (hT : TK τ) (hB : CB3 b0 b1 b2 B) (hb9 : ∀ k, k < 3 → RB bs k (B k)) (p1 p2 p3 : Int32) (st sb : Nat → Int32) (pu pe tu ca ho va : Nat → Int64) (ma ac : Nat → Int32) (x0 x1 x2 x3 : Int32) (pe9 : Nat → Int64) (a9 b9 : Int64) (wo9 ho9 wa9 : Nat → Int64) (ac9 : Nat → Int32) : Sx2 (fX8_ends p1 p2 p3 tr b0 b1 b2 st sb pu pe tu ca ho va ma ac) (fX9_ends p1 p2 p3 tree bs x0 x1 x2 x3 pe9 a9 b9 wo9 ho9 wa9 ac9) (fun _ _ => True) := by
  by_cases h1 : inr p1 0 2
  rotate_left
  · exact Sx2.mk (by unfold fX8_ends; rw [isb8n h1, bd1_mk, if_pos rfl]) (by unfold fX9_ends; rw [isb9n h1, bd1_mk, if_pos rfl]) (trivial)
  by_cases h2 : inr p2 1 6
  rotate_left
  · exact Sx2.mk (by unfold fX8_ends; rw [isb8y h1, bd1_mk, if_neg one0, wi0 h2, bd1_mk, if_pos rfl]) (by unfold fX9_ends; rw [isb9y h1, bd1_mk, if_neg one0, in0 h2, bd1_mk, if_pos rfl]) (trivial)
  by_cases h3 : inr p3 0 1
  rotate_left
  · exact Sx2.mk (by unfold fX8_ends; rw [isb8y h1, bd1_mk, if_neg one0, wi1 h2, bd1_mk, if_neg one0, wi0 h3, bd1_mk, if_pos rfl]) (by unfold fX9_ends; rw [isb9y h1, bd1_mk, if_neg one0, in1 h2, bd1_mk, if_neg one0, in0 h3, bd1_mk, if_pos rfl]) (trivial)
  obtain ⟨k, rfl, _, hk, _⟩ := inr_n h1 (by decide)
  have hk3 : k < 3 := by omega
  obtain ⟨a, rfl, _, a2, _⟩ := inr_n h2 (by decide)
  obtain ⟨w, rfl, _, w2, _⟩ := inr_n h3 (by decide)
  have hS := sE_b hT (B k) a
  obtain ⟨q1, q2⟩ := qT_b hT
  refine Sx2.val (v := lN ((if w = 0 then sE τ (B k) a else τ 7 ^ τ 0) / Nat.gcd (sE τ (B k) a) (τ 7 ^ τ 0))) ?_ ?_
  · unfold fX8_ends
    rw [isb8y h1, bd1_mk, if_neg one0, wi1 h2, bd1_mk, if_neg one0, wi1 h3, bd1_mk, if_neg one0]
    refine Sx.b10 (wo8 hk3 hf hT hB st sb pu pe tu ca ho va ma ac) ?_
    rintro c0 c1 c2 c3 c4 c5 c6 c7 c8 c9 ⟨hc, hcb, hsb⟩
    dsimp only at hc hcb hsb
    exact Sx.e1 (cE8 hc hT (hsb.a6 hT) (show a ≤ 6 by omega)) (Sx.e1 (cwh8 hc hT) (Sx.e1 (lt8 (by omega) q1 q2 (by omega)) (Sx.mk rfl)))
  · unfold fX9_ends
    rw [isb9y h1, bd1_mk, if_neg one0, in1 h2, bd1_mk, if_neg one0, in1 h3, bd1_mk, if_neg one0]
    refine Sx.b11 (la9 hf9 hT hk3 (hb9 k hk3) (hB k hk3).2 x0 x1 x2 x3 pe9 a9 b9 wo9 ho9 wa9 ac9) ?_
    rintro d0 d1 d2 d3 pe' d5 d6 d7 d8 d9 d10 ⟨rfl, rfl, rfl, rfl, hP, hG, hWA⟩
    dsimp only at hP hG hWA ⊢
    obtain ⟨n, hn⟩ := fuN 785 (by omega)
    have he := en44 hT.n hWA (show a ≤ 6 by omega) (nI w) 784 n 0 0 (by omega)
    have hs := wy_sum (by omega) hWA.1 (Ge (prF τ (τ 1)) (τ 0) (τ 6) (τ 7) (τ 8) (B k) a) _ hX_d
    have e2 : sm (fun y => hX (prF τ (τ 1)) (τ 0) (τ 6) (τ 7) (τ 8) (B k) (Ge (prF τ (τ 1)) (τ 0) (τ 6) (τ 7) (τ 8) (B k) a) (0 + y)) 784 = sE τ (B k) a := by
      refine Eq.trans (sm_congr 784 (fun y _ => by rw [Nat.zero_add])) hs
    rw [e2, Nat.zero_add] at he
    rw [hn, i_0, l_0]
    exact Sx.e1 he (Sx.e1 (rp9 (by omega) (by omega)) (Sx.e1 (pt9 (by omega) q1 q2 (by omega)) (Sx.mk ⟨rfl, trivial⟩)))
theorem q_life {tr b0 b1 b2 tree bs : Nat → Int32} {τ : Nat → Nat} {B : Nat → Nat → Nat} (hf : TC tr τ) (hf9 : TR tree 0 τ) (hT : TK τ) (hB : CB3 b0 b1 b2 B) (hb9 : ∀ k, k < 3 → RB bs k (B k)) (p1 p2 : Int32) (st sb : Nat → Int32) (pu pe tu ca ho va : Nat → Int64) (ma ac : Nat → Int32) (x0 x1 x2 x3 : Int32) (pe9 : Nat → Int64) (a9 b9 : Int64) (wo9 ho9 wa9 : Nat → Int64) (ac9 : Nat → Int32) : Sx2 (fX8_life p1 p2 tr b0 b1 b2 st sb pu pe tu ca ho va ma ac) (fX9_life p1 p2 tree bs x0 x1 x2 x3 pe9 a9 b9 wo9 ho9 wa9 ac9) (fun _ _ => True) := by
  by_cases h1 : inr p1 0 2
  rotate_left
  · exact Sx2.mk (by unfold fX8_life; rw [isb8n h1, bd1_mk, if_pos rfl]) (by unfold fX9_life; rw [isb9n h1, bd1_mk, if_pos rfl]) (trivial)
  by_cases h2 : inr p2 0 1
  rotate_left
  · exact Sx2.mk (by unfold fX8_life; rw [isb8y h1, bd1_mk, if_neg one0, wi0 h2, bd1_mk, if_pos rfl]) (by unfold fX9_life; rw [isb9y h1, bd1_mk, if_neg one0, in0 h2, bd1_mk, if_pos rfl]) (trivial)
  obtain ⟨k, rfl, _, hk, _⟩ := inr_n h1 (by decide)
  have hk3 : k < 3 := by omega
  obtain ⟨w, rfl, _, w2, _⟩ := inr_n h2 (by decide)
  have hS := sL_b hT (B k)
  obtain ⟨q1, q2⟩ := qT_b hT
  refine Sx2.val (v := lN ((if w = 0 then sL τ (B k) else τ 7 ^ τ 0) / Nat.gcd (sL τ (B k)) (τ 7 ^ τ 0))) ?_ ?_
  · unfold fX8_life
    rw [isb8y h1, bd1_mk, if_neg one0, wi1 h2, bd1_mk, if_neg one0]
    refine Sx.b10 (wo8 hk3 hf hT hB st sb pu pe tu ca ho va ma ac) ?_
    rintro c0 c1 c2 c3 c4 c5 c6 c7 c8 c9 ⟨hc, hcb, hsb⟩
    dsimp only at hc hcb hsb
    exact Sx.e1 (cL8 hc hT (hsb.a6 hT)) (Sx.e1 (cwh8 hc hT) (Sx.e1 (lt8 (by omega) q1 q2 (by omega)) (Sx.mk rfl)))
  · unfold fX9_life
    rw [isb9y h1, bd1_mk, if_neg one0, in1 h2, bd1_mk, if_neg one0]
    refine Sx.b11 (la9 hf9 hT hk3 (hb9 k hk3) (hB k hk3).2 x0 x1 x2 x3 pe9 a9 b9 wo9 ho9 wa9 ac9) ?_
    rintro d0 d1 d2 d3 pe' d5 d6 d7 d8 d9 d10 ⟨rfl, rfl, rfl, rfl, hP, hG, hWA⟩
    dsimp only at hP hG hWA ⊢
    obtain ⟨n, hn⟩ := fuN 785 (by omega)
    have he := li31 hT.n hWA (nI w) 784 n 0 0 (by omega)
    have hs := wy_sum (by omega) hWA.1 (Gl (prF τ (τ 1)) (τ 0) (τ 6) (τ 7) (τ 8) (B k)) _ hX_d
    have e2 : sm (fun y => hX (prF τ (τ 1)) (τ 0) (τ 6) (τ 7) (τ 8) (B k) (Gl (prF τ (τ 1)) (τ 0) (τ 6) (τ 7) (τ 8) (B k)) (0 + y)) 784 = sL τ (B k) := by
      refine Eq.trans (sm_congr 784 (fun y _ => by rw [Nat.zero_add])) hs
    rw [e2, Nat.zero_add] at he
    rw [hn, i_0, l_0]
    exact Sx.e1 he (Sx.e1 (rp9 (by omega) (by omega)) (Sx.e1 (pt9 (by omega) q1 q2 (by omega)) (Sx.mk ⟨rfl, trivial⟩)))
end
section
/-! pure: states that can be come to: both sides (own rows) -/
def kR (π : Nat → Nat → Nat) (β : Nat → Nat) (r : Nat) : Nat := uR r * 16 + mR π β r * 2 + bR r
def ph (x : Nat) : Nat := x / 16 * 16 + x % 8 * 2 + x / 8 % 2
def ps (y : Nat) : Nat := (y / 16 * 2 + y % 2) * 8 + y / 2 % 8
theorem ph_ps {x : Nat} : ph (ps x) = x := by
  unfold ph ps
  have hx : x = x / 16 * 16 + x / 2 % 8 * 2 + x % 2 := by omega
  have hb : x % 2 < 2 := by omega
  have hm : x / 2 % 8 < 8 := by omega
  generalize x / 16 = a at *
  generalize x / 2 % 8 = m at *
  generalize x % 2 = b at *
  have h1 : ((a * 2 + b) * 8 + m) / 16 = a := by omega
  have h2 : ((a * 2 + b) * 8 + m) % 8 = m := by omega
  have h3 : ((a * 2 + b) * 8 + m) / 8 = a * 2 + b := by omega
  rw [h1, h2, h3]; omega
theorem ps_ph {x : Nat} : ps (ph x) = x := by
  unfold ph ps
  have hx : x = (x / 16 * 2 + x / 8 % 2) * 8 + x % 8 := by omega
  have hb : x / 8 % 2 < 2 := by omega
  have hm : x % 8 < 8 := by omega
  generalize x / 16 = a at *
  generalize x / 8 % 2 = b at *
  generalize x % 8 = m at *
  have h1 : (a * 16 + m * 2 + b) / 16 = a := by omega
  have h2 : (a * 16 + m * 2 + b) % 2 = b := by omega
  have h3 : (a * 16 + m * 2 + b) / 2 = a * 8 + m := by omega
  rw [h1, h2, h3]; omega
theorem ph_lt {x : Nat} (h : x < 112) : ph x < 112 := by unfold ph; omega
theorem ps_lt {x : Nat} (h : x < 112) : ps x < 112 := by unfold ps; omega
theorem kR_p (π : Nat → Nat → Nat) (β : Nat → Nat) {r : Nat} (h1 : 1 ≤ r) (h : r < 128) : kR π β r = ph (xR π β r) ∧ kR π β r < 112 := by
  obtain ⟨e1, e2, e3, e4⟩ := xR_p π β h1 h
  have hk : kR π β r = ph (xR π β r) := by unfold kR ph; rw [e1, e2, e3]
  exact ⟨hk, by rw [hk]; exact ph_lt e4⟩
theorem sm_ph (f : Nat → Nat) : sm (fun x => f (ph x)) 112 = sm f 112 := by
  rw [show 112 = 16 * 7 by rfl, sm_blk, sm_blk]
  refine sm_congr 7 (fun j hj => ?_)
  show 0 + f (ph (16 * j + 0)) + f (ph (16 * j + 1)) + f (ph (16 * j + 2)) + f (ph (16 * j + 3)) + f (ph (16 * j + 4)) + f (ph (16 * j + 5)) + f (ph (16 * j + 6)) + f (ph (16 * j + 7)) + f (ph (16 * j + 8)) + f (ph (16 * j + 9)) + f (ph (16 * j + 10)) + f (ph (16 * j + 11)) + f (ph (16 * j + 12)) + f (ph (16 * j + 13)) + f (ph (16 * j + 14)) + f (ph (16 * j + 15)) = 0 + f (16 * j + 0) + f (16 * j + 1) + f (16 * j + 2) + f (16 * j + 3) + f (16 * j + 4) + f (16 * j + 5) + f (16 * j + 6) + f (16 * j + 7) + f (16 * j + 8) + f (16 * j + 9) + f (16 * j + 10) + f (16 * j + 11) + f (16 * j + 12) + f (16 * j + 13) + f (16 * j + 14) + f (16 * j + 15)
  rw [show ph (16 * j + 0) = 16 * j + 0 by unfold ph; omega, show ph (16 * j + 1) = 16 * j + 2 by unfold ph; omega, show ph (16 * j + 2) = 16 * j + 4 by unfold ph; omega, show ph (16 * j + 3) = 16 * j + 6 by unfold ph; omega, show ph (16 * j + 4) = 16 * j + 8 by unfold ph; omega, show ph (16 * j + 5) = 16 * j + 10 by unfold ph; omega, show ph (16 * j + 6) = 16 * j + 12 by unfold ph; omega, show ph (16 * j + 7) = 16 * j + 14 by unfold ph; omega, show ph (16 * j + 8) = 16 * j + 1 by unfold ph; omega, show ph (16 * j + 9) = 16 * j + 3 by unfold ph; omega, show ph (16 * j + 10) = 16 * j + 5 by unfold ph; omega, show ph (16 * j + 11) = 16 * j + 7 by unfold ph; omega, show ph (16 * j + 12) = 16 * j + 9 by unfold ph; omega, show ph (16 * j + 13) = 16 * j + 11 by unfold ph; omega, show ph (16 * j + 14) = 16 * j + 13 by unfold ph; omega, show ph (16 * j + 15) = 16 * j + 15 by unfold ph; omega]
  omega
/-- the first row of a key -/
def rkN (A : Nat → Nat) (K : Nat → Nat) (b : Nat) : Nat → Nat → Nat
  | 0, _ => 0
  | n + 1, y => if rkN A K b n y = 0 ∧ CT A (b + n) ∧ K (b + n) = y then b + n else rkN A K b n y
theorem rk_in {A K : Nat → Nat} {b : Nat} (hb : 1 ≤ b) (y : Nat) : ∀ n, (rkN A K b n y ≠ 0 → ∃ i, i < n ∧ rkN A K b n y = b + i ∧ CT A (b + i) ∧ K (b + i) = y) ∧ ((∃ i, i < n ∧ CT A (b + i) ∧ K (b + i) = y) → rkN A K b n y ≠ 0) := by
  intro n
  induction n with
  | zero => exact ⟨fun h => absurd rfl h, fun ⟨i, h, _⟩ => absurd h (by omega)⟩
  | succ n ih =>
    unfold rkN
    by_cases g : rkN A K b n y = 0 ∧ CT A (b + n) ∧ K (b + n) = y
    · rw [if_pos g]
      exact ⟨fun _ => ⟨n, by omega, rfl, g.2.1, g.2.2⟩, fun _ => by omega⟩
    · rw [if_neg g]
      refine ⟨fun h => ?_, fun ⟨i, h1, h2, h3⟩ => ?_⟩
      · obtain ⟨i, a, c⟩ := ih.1 h
        exact ⟨i, by omega, c⟩
      · by_cases e : i = n
        · subst e
          intro h0
          exact g ⟨h0, h2, h3⟩
        · exact ih.2 ⟨i, by omega, h2, h3⟩
def ind (x : Nat) : Nat := if x = 0 then 0 else 1
theorem cam8 : ∀ r, r < 128 → 1 ≤ r → fX8_cameUp (nI r) = some (nI (bR r)) := by decide +kernel
theorem ga2 (t : Int32) : ∀ (i n x : Nat) (rk : Nat → Int32), x + i = 112 → (∀ y, y < x → rk y = 0) → Sx (lpX5_gatherStates_2 t (n + i + 1) (nI x) rk) (fun z => ∀ y, y < 112 → z y = 0) := by
  intro i
  induction i with
  | zero =>
    intro n x rk hi hg
    rw [lpX5_gatherStates_2.eq_2]
    exact Sx.p (show (112 : Int32) ≤ nI x from nI_le (a := 112) (by omega) (by omega)) (Sx.mk (fun y hy => hg y (by omega)))
  | succ i ih =>
    intro n x rk hi hg
    rw [lpX5_gatherStates_2.eq_2]
    refine Sx.n (show ¬ (112 : Int32) ≤ nI x from nI_ge (b := 112) (by omega) (by omega)) ?_
    rw [og32 (by omega) (by omega), nm_mk, nm_mk, nI_clamp (by omega), nI_1, show n + (i + 1) = n + i + 1 by omega]
    refine ih n (x + 1) _ (by omega) ?_
    intro y hy
    rw [upS]
    by_cases e : y = x
    · rw [if_pos e]
    · rw [if_neg e]; exact hg y (by omega)
theorem ga27 {π : Nat → Nat → Nat} {β : Nat → Nat} {A : Nat → Nat} {ma ac : Nat → Int32} {t : Nat} (ht : t ≤ 6) (hA : ∀ r, 1 ≤ r → r < 128 → dR r ≤ t → ac r = nI (A r) ∧ A r ≤ 6) (hM : ∀ r, 1 ≤ r → r < 128 → dR r ≤ t → ma r = nI (mR π β r)) : ∀ (i n m : Nat) (rk : Nat → Int32), m + i = 2 ^ t → (∀ y, y < 112 → rk y = nI (rkN A (kR π β) (2 ^ t) m y)) → Sx (lpX5_gatherStates_27 (nI t) ma ac (n + i + 1) (nI (sm (fun y => ind (rkN A (kR π β) (2 ^ t) m y)) 112)) (nI (2 ^ t + m)) rk) (fun z => z.1 = nI (sm (fun y => ind (rkN A (kR π β) (2 ^ t) (2 ^ t) y)) 112) ∧ ∀ y, y < 112 → z.2 y = nI (rkN A (kR π β) (2 ^ t) (2 ^ t) y)) := by
  have hb2 := p2b t (by omega)
  intro i
  induction i with
  | zero =>
    intro n m rk hi hg
    rw [lpX5_gatherStates_27.eq_2, sh2 t (by omega)]
    refine Sx.p (nI_le (by omega) (by omega)) (Sx.mk ?_)
    rw [show m = 2 ^ t by omega] at hg ⊢
    exact ⟨rfl, hg⟩
  | succ i ih =>
    intro n m rk hi hg
    have hr1 : 1 ≤ 2 ^ t + m := by omega
    have hr : 2 ^ t + m < 128 := by omega
    have hd := dR_eq (2 ^ t + m) hr t (by omega) (by omega) (by omega)
    obtain ⟨⟨b1, b2, b3⟩, b4, b5, b6⟩ := row_b1 (2 ^ t + m) hr hr1
    have hm8 := mR_lt π β (2 ^ t + m)
    have hk := (kR_p π β hr1 hr).2
    have hAr : ∀ j, j ≤ dR (2 ^ t + m) → ac (pfx (2 ^ t + m) j) = nI (A (pfx (2 ^ t + m) j)) ∧ A (pfx (2 ^ t + m) j) ≤ 6 := by
      intro j hj
      obtain ⟨q1, q2, q3⟩ := pf1 _ hr hr1 j (by omega) hj
      exact hA _ q2 q3 (by omega)
    rw [lpX5_gatherStates_27.eq_2, sh2 t (by omega)]
    refine Sx.n (nI_ge (by omega) (by omega)) (Sx.n (show ¬ (128 : Int32) ≤ nI (2 ^ t + m) from nI_ge (b := 128) (by omega) (by omega)) ?_)
    refine Sx.e1 (ups8 _ hr hr1) (Sx.e1 (maA8 hr1 hr) (Sx.e1 (cam8 _ hr hr1) ?_))
    have eb : (if nI (bR (2 ^ t + m)) = 0 then some (0 : Int32) else some 1) = some (nI (bR (2 ^ t + m))) := by
      rcases (show bR (2 ^ t + m) = 0 ∨ bR (2 ^ t + m) = 1 by omega) with e | e
      · rw [e]; rfl
      · rw [e]; rfl
    refine Sx.e1 eb ?_
    rw [hM _ hr1 hr (by omega), i_16, pk_mul, i_2, pk_mul, nI_add, nI_add, nm_mk, show uR (2 ^ t + m) * 16 + mR π β (2 ^ t + m) * 2 + bR (2 ^ t + m) = kR π β (2 ^ t + m) from rfl]
    show Sx (bd1 (fX8_within (nI (kR π β (2 ^ t + m))) 0 111) _) _
    refine Sx.e1 (win1 (kR π β (2 ^ t + m)) 0 111 (by omega)) ?_
    refine Sx.b2 (P := fun z => z.1 = nI (sm (fun y => ind (rkN A (kR π β) (2 ^ t) (m + 1) y)) 112) ∧ ∀ y, y < 112 → z.2 y = nI (rkN A (kR π β) (2 ^ t) (m + 1) y)) ?_ ?_
    · refine Sx.n one0 ?_
      rw [og32 hk (by omega), nI_clamp (by omega), hg _ hk]
      have hsame : (rkN A (kR π β) (2 ^ t) m (kR π β (2 ^ t + m)) ≠ 0 ∨ ¬ CT A (2 ^ t + m)) → ∀ y, rkN A (kR π β) (2 ^ t) (m + 1) y = rkN A (kR π β) (2 ^ t) m y := by
        intro h y
        show (if rkN A (kR π β) (2 ^ t) m y = 0 ∧ CT A (2 ^ t + m) ∧ kR π β (2 ^ t + m) = y then 2 ^ t + m else rkN A (kR π β) (2 ^ t) m y) = _
        rw [if_neg]
        rintro ⟨z1, z2, z3⟩
        subst z3
        rcases h with h | h
        · exact h z1
        · exact h z2
      have hkeep : (rkN A (kR π β) (2 ^ t) m (kR π β (2 ^ t + m)) ≠ 0 ∨ ¬ CT A (2 ^ t + m)) → nI (sm (fun y => ind (rkN A (kR π β) (2 ^ t) m y)) 112) = nI (sm (fun y => ind (rkN A (kR π β) (2 ^ t) (m + 1) y)) 112) ∧ ∀ y, y < 112 → rk y = nI (rkN A (kR π β) (2 ^ t) (m + 1) y) := by
        intro h
        have hs := hsame h
        refine ⟨?_, fun y hy => by rw [hs y]; exact hg y hy⟩
        refine congrArg nI ?_
        exact sm_congr 112 (fun y _ => by rw [hs y])
      have hrk : rkN A (kR π β) (2 ^ t) m (kR π β (2 ^ t + m)) < 128 := by
        by_cases g : rkN A (kR π β) (2 ^ t) m (kR π β (2 ^ t + m)) = 0
        · omega
        · obtain ⟨i', a1, a2, _⟩ := (rk_in (show 1 ≤ 2 ^ t by omega) _ m).1 g
          omega
      by_cases g : rkN A (kR π β) (2 ^ t) m (kR π β (2 ^ t + m)) = 0
      · refine Sx.p (by rw [g]; rfl) (Sx.e1 (ct8 hr1 hr hAr) ?_)
        by_cases g2 : CT A (2 ^ t + m)
        · rw [if_pos g2, if_neg one0, og32 hk (by omega), nm_mk, nm_mk, nI_1]
          refine Sx.mk ⟨?_, fun y hy => ?_⟩
          · show nI (sm (fun y => ind (rkN A (kR π β) (2 ^ t) m y)) 112 + 1) = _
            refine congrArg nI ?_
            have e : ∀ y, ind (rkN A (kR π β) (2 ^ t) (m + 1) y) = ind (rkN A (kR π β) (2 ^ t) m y) + (if kR π β (2 ^ t + m) = y then 1 else 0) := by
              intro y
              show ind (if rkN A (kR π β) (2 ^ t) m y = 0 ∧ CT A (2 ^ t + m) ∧ kR π β (2 ^ t + m) = y then 2 ^ t + m else rkN A (kR π β) (2 ^ t) m y) = _
              by_cases q : kR π β (2 ^ t + m) = y
              · subst q
                rw [if_pos ⟨g, g2, rfl⟩, if_pos rfl, g]
                unfold ind
                rw [if_neg (by omega), if_pos rfl]
              · rw [if_neg (fun z => q z.2.2), if_neg q]
                rfl
            rw [sm_congr (g := fun y => ind (rkN A (kR π β) (2 ^ t) m y) + (if kR π β (2 ^ t + m) = y then 1 else 0)) 112 (fun y _ => e y), sm_add, sm_one (f := fun _ => 1), if_pos hk]
          · show upd rk (kR π β (2 ^ t + m)) (nI (2 ^ t + m)) y = nI (if rkN A (kR π β) (2 ^ t) m y = 0 ∧ CT A (2 ^ t + m) ∧ kR π β (2 ^ t + m) = y then 2 ^ t + m else rkN A (kR π β) (2 ^ t) m y)
            rw [upS]
            by_cases q : y = kR π β (2 ^ t + m)
            · subst q
              rw [if_pos rfl, if_pos ⟨g, g2, rfl⟩]
            · rw [if_neg q, if_neg (fun z => q z.2.2.symm), hg y hy]
        · rw [if_neg g2, if_pos rfl]
          exact Sx.mk (hkeep (Or.inr g2))
      · refine Sx.n (nI_ne0 (by omega) (by omega)) (Sx.mk (hkeep (Or.inl g)))
    · rintro a0 a1 ⟨rfl, h2⟩
      dsimp only at h2 ⊢
      rw [nm_mk, nI_1, Nat.add_assoc, show n + (i + 1) = n + i + 1 by omega]
      exact ih n (m + 1) a1 (by omega) h2
/-- the rows of the keys of a day -/
def RKt (τ β : Nat → Nat) (t y : Nat) : Nat := rkN (A1 τ β) (kR (prF τ (τ 1)) β) (2 ^ t) (2 ^ t) y
def cnt (τ β : Nat → Nat) (t : Nat) : Nat := sm (fun y => ind (RKt τ β t y)) 112
theorem ga8 {τ β : Nat → Nat} (hT : TK τ) {pe tu ca ho va : Nat → Int64} {ma ac : Nat → Int32} (hS : SB τ β pe tu ca ho va ma ac) {t : Nat} (ht : t ≤ τ 0) (rok : Nat → Int32) : Sx (fX5_gatherStates (nI t) ma ac rok) (fun z => z.1 = nI (cnt τ β t) ∧ ∀ y, y < 112 → z.2 y = nI (RKt τ β t y)) := by
  have hb2 := p2b t (by omega)
  unfold fX5_gatherStates
  obtain ⟨n1, hn1⟩ := fuN 113 (by omega)
  obtain ⟨n2, hn2⟩ := fuN (2 ^ t + 1) (by omega)
  refine Sx.b1 (P := fun z => ∀ y, y < 112 → z y = 0) (by rw [hn1, i_0]; exact ga2 (nI t) 112 n1 0 rok (by omega) (fun y hy => absurd hy (by omega))) ?_
  intro z hz
  rw [nm_mk, sh1 t (by omega), hn2, show n2 + (2 ^ t + 1) = n2 + 2 ^ t + 1 by omega]
  have h0 : sm (fun y => ind (rkN (A1 τ β) (kR (prF τ (τ 1)) β) (2 ^ t) 0 y)) 112 = 0 := sm_zero 112
  have := ga27 (π := prF τ (τ 1)) (β := β) (A := A1 τ β) (ma := ma) (ac := ac) (t := t) (by omega) (fun r h1 h2 h3 => hS.a6 hT r h1 h2 (by omega)) (fun r h1 h2 h3 => (hS.1 r h1 (row_T hT h1 h2 (by omega))).2.2.2) (2 ^ t) n2 0 z (by omega) (fun y hy => by rw [hz y hy]; rfl)
  rw [h0, Nat.add_zero] at this
  exact Sx.b2 this (fun _ _ h => Sx.mk h)
/-- present on both sides -/
theorem pr_in {τ β : Nat → Nat} (hT : TK τ) {t x : Nat} (ht : t ≤ τ 0) (hx : x < 112) : wy (prF τ (τ 1)) (τ 0) (τ 6) (τ 7) (τ 8) β t x ≠ 0 ↔ RKt τ β t (ph x) ≠ 0 := by
  have hb2 := p2b t (by omega)
  rw [wy_in (prF τ (τ 1)) β (by omega) (by omega) hx]
  have hr := rk_in (A := A1 τ β) (K := kR (prF τ (τ 1)) β) (b := 2 ^ t) (by omega) (ph x) (2 ^ t)
  constructor
  · rintro ⟨i, h1, h2, h3⟩
    refine hr.2 ⟨i, h1, h2, ?_⟩
    rw [(kR_p (prF τ (τ 1)) β (show 1 ≤ 2 ^ t + i by omega) (by omega)).1, h3]
  · intro h
    obtain ⟨i, h1, _, h2, h3⟩ := hr.1 h
    refine ⟨i, h1, h2, ?_⟩
    rw [(kR_p (prF τ (τ 1)) β (show 1 ≤ 2 ^ t + i by omega) (by omega)).1] at h3
    have := congrArg ps h3
    rwa [ps_ph, ps_ph] at this
theorem cnt_x {τ β : Nat → Nat} (hT : TK τ) {t : Nat} (ht : t ≤ τ 0) : sm (fun x => ind (wy (prF τ (τ 1)) (τ 0) (τ 6) (τ 7) (τ 8) β t x)) 112 = cnt τ β t := by
  unfold cnt
  rw [← sm_ph (fun y => ind (RKt τ β t y))]
  refine sm_congr 112 (fun x hx => ?_)
  have := pr_in (β := β) hT ht hx
  unfold ind
  by_cases g : wy (prF τ (τ 1)) (τ 0) (τ 6) (τ 7) (τ 8) β t x = 0
  · rw [if_pos g, if_pos (Decidable.byContradiction (fun q => this.mpr q g))]
  · rw [if_neg g, if_neg (this.mp g)]
theorem st38 {π : Nat → Nat → Nat} {T p q R : Nat} {β : Nat → Nat} {way : Nat → Int64} (hN : NK T p q R) (hW : WW π T p q R β way) {t : Nat} (ht : t ≤ T) : ∀ (i n x c : Nat), x + i = 112 → c + i < 2 ^ 30 → lpX9_states_38 (nI t) way (n + i + 1) (nI c) (nI (112 * t + x)) = some (nI (c + sm (fun y => ind (wy π T p q R β t (x + y))) i)) := by
  intro i
  induction i with
  | zero =>
    intro n x c hi hc
    rw [lpX9_states_38.eq_2, i_112, pk_mul, nI_add, if_pos (nI_le (by omega) (by omega))]; rfl
  | succ i ih =>
    intro n x c hi hc
    obtain ⟨z1, z2, z3⟩ := wz hN hW (show 112 * t + x < 784 by omega)
    rw [show (112 * t + x) / 112 = t by omega, show (112 * t + x) % 112 = x by omega] at z1
    have hs := sm_1 (fun y => ind (wy π T p q R β t y)) x i
    rw [lpX9_states_38.eq_2, i_112, pk_mul, nI_add, if_neg (nI_ge (by omega) (by omega)), og32 (by omega) (by omega), nI_clamp (by omega), hs]
    have e : (if way (112 * t + x) ≤ 0 then some (0 : Int32) else some 1) = some (nI (ind (wy π T p q R β t x))) := by
      unfold ind
      by_cases g : wy π T p q R β t x = 0
      · rw [if_pos (z1.mpr (fun q => q.2 g)), if_pos g]; rfl
      · rw [if_neg (fun q => z1.mp q ⟨ht, g⟩), if_neg g]; rfl
    have hi1 : ind (wy π T p q R β t x) ≤ 1 := by unfold ind; split <;> omega
    rw [e, bd1_mk, nm_mk, nm_mk, nI_add, nI_1, Nat.add_assoc, show n + (i + 1) = n + i + 1 by omega, ih n (x + 1) _ (by omega) (by omega), Nat.add_assoc]
theorem q_states {tr b0 b1 b2 tree bs : Nat → Int32} {τ : Nat → Nat} {B : Nat → Nat → Nat} (hf : TC tr τ) (hf9 : TR tree 0 τ) (hT : TK τ) (hB : CB3 b0 b1 b2 B) (hb9 : ∀ k, k < 3 → RB bs k (B k)) (p1 p2 : Int32) (st sb : Nat → Int32) (pu pe tu ca ho va : Nat → Int64) (ma ac : Nat → Int32) (rok : Nat → Int32) (x0 x1 x2 x3 : Int32) (pe9 : Nat → Int64) (a9 b9 : Int64) (wo9 ho9 wa9 : Nat → Int64) (ac9 : Nat → Int32) : Sx2 (fX8_states p1 p2 tr b0 b1 b2 st sb pu pe tu ca ho va ma ac rok) (fX9_states p1 p2 tree bs x0 x1 x2 x3 pe9 a9 b9 wo9 ho9 wa9 ac9) (fun _ _ => True) := by
  by_cases h1 : inr p1 0 2
  rotate_left
  · exact Sx2.mk (by unfold fX8_states; rw [isb8n h1, bd1_mk, if_pos rfl]) (by unfold fX9_states; rw [isb9n h1, bd1_mk, if_pos rfl]) (trivial)
  by_cases h2 : inr p2 0 (τ 0)
  rotate_left
  · exact Sx2.mk (by unfold fX8_states; rw [isb8y h1, bd1_mk, if_neg one0, isd8n hf hT h2, bd1_mk, if_pos rfl]) (by unfold fX9_states; rw [isb9y h1, bd1_mk, if_neg one0, isd9n hf9 hT h2, bd1_mk, if_pos rfl]) (trivial)
  obtain ⟨k, rfl, _, hk, _⟩ := inr_n h1 (by decide)
  have hk3 : k < 3 := by omega
  obtain ⟨t, rfl, _, t2, _⟩ := inr_n h2 (Int.le_refl 0)
  refine Sx2.val (v := nI (cnt τ (B k) t)) ?_ ?_
  · unfold fX8_states
    rw [isb8y h1, bd1_mk, if_neg one0, isd8y hf hT h2, bd1_mk, if_neg one0]
    refine Sx.b10 (wo8 hk3 hf hT hB st sb pu pe tu ca ho va ma ac) ?_
    rintro c0 c1 c2 c3 c4 c5 c6 c7 c8 c9 ⟨hc, hcb, hsb⟩
    dsimp only at hc hcb hsb
    exact Sx.b2 (ga8 hT hsb (by omega) rok) (fun _ _ h => Sx.mk h.1)
  · unfold fX9_states
    rw [isb9y h1, bd1_mk, if_neg one0, isd9y hf9 hT h2, bd1_mk, if_neg one0]
    refine Sx.b11 (la9 hf9 hT hk3 (hb9 k hk3) (hB k hk3).2 x0 x1 x2 x3 pe9 a9 b9 wo9 ho9 wa9 ac9) ?_
    rintro d0 d1 d2 d3 pe' d5 d6 d7 d8 d9 d10 ⟨rfl, rfl, rfl, rfl, hP, hG, hWA⟩
    dsimp only at hP hG hWA ⊢
    obtain ⟨n, hn⟩ := fuN 113 (by omega)
    have he := st38 hT.n hWA.1 (show t ≤ τ 0 by omega) 112 n 0 0 (by omega) (by omega)
    have e2 : sm (fun y => ind (wy (prF τ (τ 1)) (τ 0) (τ 6) (τ 7) (τ 8) (B k) t (0 + y))) 112 = cnt τ (B k) t := by
      refine Eq.trans (sm_congr 112 (fun y _ => by rw [Nat.zero_add])) (cnt_x hT (by omega))
    rw [e2, Nat.zero_add, Nat.add_zero] at he
    rw [nm_mk, i_112, pk_mul, hn, i_0]
    exact Sx.e1 he (Sx.mk ⟨rfl, trivial⟩)
end
section
/-! pure: tables (own rows) -/
def fd (P : Nat → Nat) : Nat → Nat → Nat → Nat × Nat
  | 0, x, l => (x, l)
  | n + 1, x, l => if P x = 0 then fd P n (x + 1) l else if l = 0 then (x, 0) else fd P n (x + 1) (l - 1)
theorem fd_p (P : Nat → Nat) : ∀ n x l, x ≤ (fd P n x l).1 ∧ (fd P n x l).1 ≤ x + n ∧ ((fd P n x l).1 < x + n → P (fd P n x l).1 ≠ 0 ∧ l = sm (fun y => ind (P (x + y))) ((fd P n x l).1 - x) ∧ (fd P n x l).2 = 0) ∧ ((fd P n x l).1 < x + n ↔ l < sm (fun y => ind (P (x + y))) n) ∧ (fd P n x l).2 ≤ l := by
  intro n
  induction n with
  | zero =>
    intro x l
    refine ⟨Nat.le_refl _, Nat.le_refl _, fun h => absurd h (Nat.lt_irrefl _), ⟨fun h => absurd h (Nat.lt_irrefl _), fun h => absurd h (Nat.not_lt_zero l)⟩, Nat.le_refl _⟩
  | succ n ih =>
    intro x l
    have hs : ∀ m, sm (fun y => ind (P (x + y))) (m + 1) = ind (P x) + sm (fun y => ind (P (x + 1 + y))) m := by
      intro m
      exact sm_1 (fun y => ind (P y)) x m
    unfold fd
    by_cases g : P x = 0
    · rw [if_pos g]
      obtain ⟨a, b, c, d, e⟩ := ih (x + 1) l
      have h0 : ind (P x) = 0 := by unfold ind; rw [if_pos g]
      refine ⟨by omega, by omega, fun h => ?_, ?_, e⟩
      · obtain ⟨c1, c2, c3⟩ := c (by omega)
        refine ⟨c1, ?_, c3⟩
        rw [show (fd P n (x + 1) l).1 - x = ((fd P n (x + 1) l).1 - (x + 1)) + 1 by omega, hs, h0, Nat.zero_add]
        exact c2
      · rw [hs, h0, Nat.zero_add, ← d]
        omega
    · rw [if_neg g]
      have h1 : ind (P x) = 1 := by unfold ind; rw [if_neg g]
      by_cases g2 : l = 0
      · rw [if_pos g2]
        refine ⟨Nat.le_refl _, by omega, fun _ => ⟨g, ?_, rfl⟩, ?_, by omega⟩
        · show l = sm _ (x - x)
          rw [Nat.sub_self, g2]; rfl
        · rw [hs, h1]
          constructor
          · intro _; omega
          · intro _; show x < x + (n + 1); omega
      · rw [if_neg g2]
        obtain ⟨a, b, c, d, e⟩ := ih (x + 1) (l - 1)
        refine ⟨by omega, by omega, fun h => ?_, ?_, by omega⟩
        · obtain ⟨c1, c2, c3⟩ := c (by omega)
          refine ⟨c1, ?_, c3⟩
          rw [show (fd P n (x + 1) (l - 1)).1 - x = ((fd P n (x + 1) (l - 1)).1 - (x + 1)) + 1 by omega, hs, h1]
          omega
        · rw [hs, h1]
          omega
theorem fd_app (P : Nat → Nat) (b : Nat) : ∀ a x l, fd P (a + b) x l = if (fd P a x l).1 < x + a then fd P a x l else fd P b (x + a) (fd P a x l).2 := by
  intro a
  induction a with
  | zero =>
    intro x l
    rw [Nat.zero_add]
    show _ = if x < x + 0 then _ else fd P b (x + 0) l
    rw [if_neg (by omega), Nat.add_zero]
  | succ a ih =>
    intro x l
    rw [show a + 1 + b = (a + b) + 1 by omega]
    show (if P x = 0 then fd P (a + b) (x + 1) l else if l = 0 then (x, 0) else fd P (a + b) (x + 1) (l - 1)) = if (if P x = 0 then fd P a (x + 1) l else if l = 0 then (x, 0) else fd P a (x + 1) (l - 1)).1 < x + (a + 1) then (if P x = 0 then fd P a (x + 1) l else if l = 0 then (x, 0) else fd P a (x + 1) (l - 1)) else fd P b (x + (a + 1)) (if P x = 0 then fd P a (x + 1) l else if l = 0 then (x, 0) else fd P a (x + 1) (l - 1)).2
    by_cases g : P x = 0
    · rw [if_pos g, if_pos g, ih, show x + 1 + a = x + (a + 1) by omega]
    · rw [if_neg g, if_neg g]
      by_cases g2 : l = 0
      · rw [if_pos g2, if_pos g2, if_pos (show x < x + (a + 1) by omega)]
      · rw [if_neg g2, if_neg g2, ih, show x + 1 + a = x + (a + 1) by omega]
theorem fd_congr {P Q : Nat → Nat} : ∀ n x l, (∀ y, x ≤ y → y < x + n → (P y = 0 ↔ Q y = 0)) → fd P n x l = fd Q n x l := by
  intro n
  induction n with
  | zero => intro x l _; rfl
  | succ n ih =>
    intro x l h
    show (if P x = 0 then fd P n (x + 1) l else if l = 0 then (x, 0) else fd P n (x + 1) (l - 1)) = if Q x = 0 then fd Q n (x + 1) l else if l = 0 then (x, 0) else fd Q n (x + 1) (l - 1)
    have e1 := ih (x + 1) l (fun y h1 h2 => h y (by omega) (by omega))
    have e2 := ih (x + 1) (l - 1) (fun y h1 h2 => h y (by omega) (by omega))
    by_cases g : P x = 0
    · rw [if_pos g, if_pos ((h x (by omega) (by omega)).mp g), e1]
    · rw [if_neg g, if_neg (fun q => g ((h x (by omega) (by omega)).mpr q)), e2]
theorem fd_at {P : Nat → Nat} {y : Nat} (hP : P y ≠ 0) : ∀ n x, x ≤ y → y < x + n → fd P n x (sm (fun z => ind (P (x + z))) (y - x)) = (y, 0) := by
  intro n
  induction n with
  | zero => intro x h1 h2; omega
  | succ n ih =>
    intro x h1 h2
    show (if P x = 0 then fd P n (x + 1) (sm (fun z => ind (P (x + z))) (y - x)) else if sm (fun z => ind (P (x + z))) (y - x) = 0 then (x, 0) else fd P n (x + 1) (sm (fun z => ind (P (x + z))) (y - x) - 1)) = _
    by_cases e : x = y
    · subst e
      rw [if_neg hP, Nat.sub_self]; rfl
    · have hs : sm (fun z => ind (P (x + z))) (y - x) = ind (P x) + sm (fun z => ind (P (x + 1 + z))) (y - (x + 1)) := by
        rw [show y - x = (y - (x + 1)) + 1 by omega]
        exact sm_1 (fun y => ind (P y)) x _
      by_cases g : P x = 0
      · have h0 : ind (P x) = 0 := by unfold ind; rw [if_pos g]
        rw [if_pos g, hs, h0, Nat.zero_add, ih (x + 1) (by omega) (by omega)]
      · have h0 : ind (P x) = 1 := by unfold ind; rw [if_neg g]
        rw [if_neg g, hs, h0, if_neg (by omega), Nat.add_sub_cancel_left, ih (x + 1) (by omega) (by omega)]
/-- the class's row of state l -/
theorem sr4 {P : Nat → Nat} {rk : Nat → Int32} (hP : ∀ y, y < 112 → rk y = nI (P y) ∧ P y < 128) : ∀ (i n x l : Nat), x + i = 112 → l < 2 ^ 31 → lpX5_stateRow_4 rk (n + i + 1) (nI l) (nI x) = some (if (fd P i x l).1 < 112 then (0, nI (fd P i x l).1) else (1, nI 112)) := by
  intro i
  induction i with
  | zero =>
    intro n x l hi hl
    rw [lpX5_stateRow_4.eq_2, if_pos (show (112 : Int32) ≤ nI x from nI_le (a := 112) (by omega) (by omega))]
    show _ = some (if x < 112 then (0, nI x) else (1, nI 112))
    rw [if_neg (by omega), show x = 112 by omega]
  | succ i ih =>
    intro n x l hi hl
    obtain ⟨p1, p2⟩ := hP x (by omega)
    rw [lpX5_stateRow_4.eq_2, if_neg (show ¬ (112 : Int32) ≤ nI x from nI_ge (b := 112) (by omega) (by omega)), og32 (by omega) (by omega), nI_clamp (by omega), p1]
    show _ = some (if (if P x = 0 then fd P i (x + 1) l else if l = 0 then (x, 0) else fd P i (x + 1) (l - 1)).1 < 112 then (0, nI (if P x = 0 then fd P i (x + 1) l else if l = 0 then (x, 0) else fd P i (x + 1) (l - 1)).1) else (1, nI 112))
    by_cases g : P x = 0
    · rw [if_pos (by rw [g]; rfl), nm_mk, nI_1, show n + (i + 1) = n + i + 1 by omega, ih n (x + 1) l (by omega) hl, if_pos g]
    · rw [if_neg (nI_ne0 (by omega) (by omega)), if_neg g]
      by_cases g2 : l = 0
      · rw [if_pos g2, if_pos (by rw [g2]; rfl), if_pos (show x < 112 by omega)]
      · obtain ⟨l', rfl⟩ : ∃ l', l = l' + 1 := ⟨l - 1, by omega⟩
        rw [if_neg g2, if_neg (nI_ne0 (by omega) hl), nm_mk, nm_mk, pk_m1, nI_1, show n + (i + 1) = n + i + 1 by omega, ih n (x + 1) l' (by omega) (by omega), Nat.add_sub_cancel]
theorem sr8' {P : Nat → Nat} {rk : Nat → Int32} (hP : ∀ y, y < 112 → rk y = nI (P y) ∧ P y < 128) {l : Nat} (hl : l < 2 ^ 31) (hf : (fd P 112 0 l).1 < 112) : fX5_stateRow (nI l) rk = some (nI (P (fd P 112 0 l).1)) := by
  unfold fX5_stateRow
  obtain ⟨n, hn⟩ := fuN 113 (by omega)
  rw [hn, i_0, sr4 hP 112 n 0 l (by omega) hl, if_pos hf, bd2_mk, if_pos rfl, og32 hf (by omega), nI_clamp (by omega), (hP _ hf).1]
/-- the reference's loops of a table -/
theorem ps_c {j m u : Nat} (hm : m < 8) (hu : u < 2) : ps (16 * j + 2 * m + u) = (j * 2 + u) * 8 + m := by unfold ps; omega
theorem t74' {π : Nat → Nat → Nat} {T p q R : Nat} {β : Nat → Nat} {way : Nat → Int64} (hN : NK T p q R) (hW : WW π T p q R β way) {t : Nat} (ht : t ≤ T) (w : Int32) {j m : Nat} (hj : j ≤ t) (hm : m < 8) : ∀ (i n u l : Nat), u + i = 2 → l < 2 ^ 31 → lpX9_table_74 (nI t) w (nI j) (nI m) way (n + i + 1) (nI l) (nI u) = some (if (fd (fun y => wy π T p q R β t (ps y)) i (16 * j + 2 * m + u) l).1 < 16 * j + 2 * m + 2 then (0, nI 0, nI ((fd (fun y => wy π T p q R β t (ps y)) i (16 * j + 2 * m + u) l).1 - (16 * j + 2 * m)), nI (112 * t + ps (fd (fun y => wy π T p q R β t (ps y)) i (16 * j + 2 * m + u) l).1)) else (1, nI (fd (fun y => wy π T p q R β t (ps y)) i (16 * j + 2 * m + u) l).2, nI 2, 0)) := by
  intro i
  induction i with
  | zero =>
    intro n u l hi hl
    rw [lpX9_table_74.eq_2, if_pos (show (2 : Int32) ≤ nI u from nI_le (a := 2) (by omega) (by omega))]
    show _ = some (if 16 * j + 2 * m + u < 16 * j + 2 * m + 2 then _ else (1, nI l, nI 2, 0))
    rw [if_neg (by omega), show u = 2 by omega]
  | succ i ih =>
    intro n u l hi hl
    have hx : (j * 2 + u) * 8 + m < 112 := by omega
    have hw := hW t ((j * 2 + u) * 8 + m) (by omega) hx
    rw [if_pos ht, ← atN_x] at hw
    have hb := wy_b (π := π) (T := T) (R := R) (β := β) (p := p) (q := q) (by omega) (by omega) (t := t) (x := (j * 2 + u) * 8 + m) (by omega)
    have l1 : atN t j u m < 784 := atN_lt (by omega) (by omega) (by omega) hm
    have hps := ps_c (j := j) hm (show u < 2 by omega)
    rw [lpX9_table_74.eq_2, if_neg (show ¬ (2 : Int32) ≤ nI u from nI_ge (b := 2) (by omega) (by omega)), at9, bd1_mk, og32 l1 (by omega), nI_clamp (by omega), hw]
    have hfd : fd (fun y => wy π T p q R β t (ps y)) (i + 1) (16 * j + 2 * m + u) l = if wy π T p q R β t ((j * 2 + u) * 8 + m) = 0 then fd (fun y => wy π T p q R β t (ps y)) i (16 * j + 2 * m + (u + 1)) l else if l = 0 then (16 * j + 2 * m + u, 0) else fd (fun y => wy π T p q R β t (ps y)) i (16 * j + 2 * m + (u + 1)) (l - 1) := by
      rw [← hps]; rfl
    rw [hfd]
    by_cases g : wy π T p q R β t ((j * 2 + u) * 8 + m) = 0
    · rw [if_pos (by rw [g]; rfl), nm_mk, nI_1, show n + (i + 1) = n + i + 1 by omega, ih n (u + 1) l (by omega) hl, if_pos g]
    · rw [if_neg (lnz g (by omega)), if_neg g]
      by_cases g2 : l = 0
      · rw [if_pos g2, if_pos (by rw [g2]; rfl), if_pos (show 16 * j + 2 * m + u < 16 * j + 2 * m + 2 by omega)]
        show some (0, nI l, nI u, nI (atN t j u m)) = some (0, nI 0, nI (16 * j + 2 * m + u - (16 * j + 2 * m)), nI (112 * t + ps (16 * j + 2 * m + u)))
        rw [g2, Nat.add_sub_cancel_left, hps, atN_x]
      · rw [if_neg g2, if_neg (nI_ne0 (by omega) hl), nm_mk, nm_mk, i_1, pk_sub (by omega), nI_add, show n + (i + 1) = n + i + 1 by omega, ih n (u + 1) (l - 1) (by omega) (by omega)]
theorem t64' {π : Nat → Nat → Nat} {T p q R : Nat} {β : Nat → Nat} {way : Nat → Int64} (hN : NK T p q R) (hW : WW π T p q R β way) {t : Nat} (ht : t ≤ T) (w : Int32) {j : Nat} (hj : j ≤ t) : ∀ (i n m l : Nat), m + i = 8 → l < 2 ^ 31 → lpX9_table_64 (nI t) w (nI j) way (n + i + 1) (nI l) (nI m) = some (if (fd (fun y => wy π T p q R β t (ps y)) (2 * i) (16 * j + 2 * m) l).1 < 16 * j + 16 then (0, 0, nI ((fd (fun y => wy π T p q R β t (ps y)) (2 * i) (16 * j + 2 * m) l).1 / 2 % 8), nI ((fd (fun y => wy π T p q R β t (ps y)) (2 * i) (16 * j + 2 * m) l).1 % 2), nI (112 * t + ps (fd (fun y => wy π T p q R β t (ps y)) (2 * i) (16 * j + 2 * m) l).1)) else (1, nI (fd (fun y => wy π T p q R β t (ps y)) (2 * i) (16 * j + 2 * m) l).2, nI 8, 0, 0)) := by
  intro i
  induction i with
  | zero =>
    intro n m l hi hl
    rw [lpX9_table_64.eq_2, if_pos (show (8 : Int32) ≤ nI m from nI_le (a := 8) (by omega) (by omega))]
    show _ = some (if 16 * j + 2 * m < 16 * j + 16 then _ else (1, nI l, nI 8, 0, 0))
    rw [if_neg (by omega), show m = 8 by omega]
  | succ i ih =>
    intro n m l hi hl
    obtain ⟨n', hn'⟩ := fuN 3 (by omega)
    have h4 := t74' hN hW ht w hj (show m < 8 by omega) 2 n' 0 l (by omega) hl
    rw [Nat.add_zero (16 * j + 2 * m)] at h4
    have hap := fd_app (fun y => wy π T p q R β t (ps y)) (2 * i) 2 (16 * j + 2 * m) l
    rw [show 2 + 2 * i = 2 * (i + 1) by omega] at hap
    obtain ⟨f1, f2, f3, _, f5⟩ := fd_p (fun y => wy π T p q R β t (ps y)) 2 (16 * j + 2 * m) l
    rw [lpX9_table_64.eq_2, if_neg (show ¬ (8 : Int32) ≤ nI m from nI_ge (b := 8) (by omega) (by omega)), hn', i_0, h4, hap]
    by_cases g : (fd (fun y => wy π T p q R β t (ps y)) 2 (16 * j + 2 * m) l).1 < 16 * j + 2 * m + 2
    · rw [if_pos g, if_pos g, bd4_mk, if_pos rfl, if_pos (show (fd (fun y => wy π T p q R β t (ps y)) 2 (16 * j + 2 * m) l).1 < 16 * j + 16 by omega)]
      generalize (fd (fun y => wy π T p q R β t (ps y)) 2 (16 * j + 2 * m) l).1 = z at *
      rw [show z / 2 % 8 = m by omega, show z - (16 * j + 2 * m) = z % 2 by omega]
    · rw [if_neg g, if_neg g, bd4_mk, if_neg (by decide), nm_mk, nI_1, show n + (i + 1) = n + i + 1 by omega, ih n (m + 1) _ (by omega) (by omega), show 16 * j + 2 * (m + 1) = 16 * j + 2 * m + 2 by omega]; rfl
theorem t55' {π : Nat → Nat → Nat} {T p q R : Nat} {β : Nat → Nat} {way : Nat → Int64} (hN : NK T p q R) (hW : WW π T p q R β way) {t : Nat} (ht : t ≤ T) (w : Int32) : ∀ (i n j l : Nat), j + i = t + 1 → l < 2 ^ 31 → lpX9_table_55 (nI t) w way (n + i + 1) (nI l) (nI j) = some (if (fd (fun y => wy π T p q R β t (ps y)) (16 * i) (16 * j) l).1 < 16 * (t + 1) then (0, nI ((fd (fun y => wy π T p q R β t (ps y)) (16 * i) (16 * j) l).1 / 16), nI ((fd (fun y => wy π T p q R β t (ps y)) (16 * i) (16 * j) l).1 / 2 % 8), nI ((fd (fun y => wy π T p q R β t (ps y)) (16 * i) (16 * j) l).1 % 2), nI (112 * t + ps (fd (fun y => wy π T p q R β t (ps y)) (16 * i) (16 * j) l).1)) else (1, nI (t + 1), 0, 0, 0)) := by
  intro i
  induction i with
  | zero =>
    intro n j l hi hl
    rw [lpX9_table_55.eq_2, if_pos (nI_lt (by omega) (by omega))]
    show _ = some (if 16 * j < 16 * (t + 1) then _ else (1, nI (t + 1), 0, 0, 0))
    rw [if_neg (by omega), show j = t + 1 by omega]
  | succ i ih =>
    intro n j l hi hl
    obtain ⟨n', hn'⟩ := fuN 9 (by omega)
    have h4 := t64' hN hW ht w (show j ≤ t by omega) 8 n' 0 l (by omega) hl
    rw [show 16 * j + 2 * 0 = 16 * j by omega, show 2 * 8 = 16 by rfl] at h4
    have hap := fd_app (fun y => wy π T p q R β t (ps y)) (16 * i) 16 (16 * j) l
    rw [show 16 + 16 * i = 16 * (i + 1) by omega] at hap
    obtain ⟨f1, f2, f3, _, f5⟩ := fd_p (fun y => wy π T p q R β t (ps y)) 16 (16 * j) l
    rw [lpX9_table_55.eq_2, if_neg (nI_nlt (by omega) (by omega)), hn', i_0, h4, hap]
    by_cases g : (fd (fun y => wy π T p q R β t (ps y)) 16 (16 * j) l).1 < 16 * j + 16
    · rw [if_pos g, if_pos g, bd5_mk, if_pos rfl, if_pos (show (fd (fun y => wy π T p q R β t (ps y)) 16 (16 * j) l).1 < 16 * (t + 1) by omega)]
      generalize (fd (fun y => wy π T p q R β t (ps y)) 16 (16 * j) l).1 = z at *
      rw [show z / 16 = j by omega]
    · rw [if_neg g, if_neg g, bd5_mk, if_neg (by decide), nm_mk, nI_1, show n + (i + 1) = n + i + 1 by omega, ih n (j + 1) _ (by omega) (by omega), show 16 * (j + 1) = 16 * j + 16 by omega]; rfl
end
section
/-! pure: table, first, days: both sides (own rows) -/
theorem ps_8 (x : Nat) : ps x / 8 % 2 = x % 2 := by
  unfold ps
  have hb : x % 2 < 2 := by omega
  have hm : x / 2 % 8 < 8 := by omega
  generalize x / 16 = a at *
  generalize x / 2 % 8 = m at *
  generalize x % 2 = b at *
  have h3 : ((a * 2 + b) * 8 + m) / 8 = a * 2 + b := by omega
  rw [h3]; omega
theorem RK_p {τ β : Nat → Nat} (hT : TK τ) {t y : Nat} (ht : t ≤ τ 0) (h : RKt τ β t y ≠ 0) : 1 ≤ RKt τ β t y ∧ RKt τ β t y < 128 ∧ dR (RKt τ β t y) = t ∧ CT (A1 τ β) (RKt τ β t y) ∧ kR (prF τ (τ 1)) β (RKt τ β t y) = y := by
  have hb2 := p2b t (by omega)
  obtain ⟨i, h1, h2, h3, h4⟩ := (rk_in (A := A1 τ β) (K := kR (prF τ (τ 1)) β) (b := 2 ^ t) (by omega) y (2 ^ t)).1 h
  have e : RKt τ β t y = 2 ^ t + i := h2
  rw [e]
  exact ⟨by omega, by omega, dR_eq _ (by omega) t (by omega) (by omega) (by omega), h3, h4⟩
theorem RK_b {τ β : Nat → Nat} (hT : TK τ) {t : Nat} (ht : t ≤ τ 0) (y : Nat) : RKt τ β t y < 128 := by
  by_cases h : RKt τ β t y = 0
  · omega
  · exact (RK_p hT ht h).2.1
theorem RK_x {τ β : Nat → Nat} (hT : TK τ) {t y : Nat} (ht : t ≤ τ 0) (h : RKt τ β t y ≠ 0) : uR (RKt τ β t y) = y / 16 ∧ mR (prF τ (τ 1)) β (RKt τ β t y) = y / 2 % 8 ∧ bR (RKt τ β t y) = y % 2 := by
  obtain ⟨h1, h2, h3, h4, h5⟩ := RK_p hT ht h
  have hm := mR_lt (prF τ (τ 1)) β (RKt τ β t y)
  have hb := (row_b1 _ h2 h1).2.1
  unfold kR at h5
  refine ⟨by omega, by omega, by omega⟩
theorem RK_w {τ β : Nat → Nat} (hT : TK τ) {t y : Nat} (ht : t ≤ τ 0) (hy : y < 112) : RKt τ β t y = 0 ↔ wy (prF τ (τ 1)) (τ 0) (τ 6) (τ 7) (τ 8) β t (ps y) = 0 := by
  have := pr_in (β := β) hT ht (ps_lt hy)
  rw [ph_ps] at this
  constructor
  · intro h; exact Decidable.byContradiction (fun q => this.mp q h)
  · intro h; exact Decidable.byContradiction (fun q => this.mpr q h)
/-- both sides find the same -/
theorem fd_w {τ β : Nat → Nat} (hT : TK τ) {t : Nat} (ht : t ≤ τ 0) (l : Nat) : ((fd (fun y => wy (prF τ (τ 1)) (τ 0) (τ 6) (τ 7) (τ 8) β t (ps y)) (16 * (t + 1)) 0 l).1 < 16 * (t + 1) ↔ (fd (RKt τ β t) 112 0 l).1 < 112) ∧ ((fd (RKt τ β t) 112 0 l).1 < 112 → fd (fun y => wy (prF τ (τ 1)) (τ 0) (τ 6) (τ 7) (τ 8) β t (ps y)) (16 * (t + 1)) 0 l = fd (RKt τ β t) 112 0 l) := by
  have hap := fd_app (RKt τ β t) (112 - 16 * (t + 1)) (16 * (t + 1)) 0 l
  rw [show 16 * (t + 1) + (112 - 16 * (t + 1)) = 112 by omega, Nat.zero_add] at hap
  have hc : fd (RKt τ β t) (16 * (t + 1)) 0 l = fd (fun y => wy (prF τ (τ 1)) (τ 0) (τ 6) (τ 7) (τ 8) β t (ps y)) (16 * (t + 1)) 0 l := fd_congr _ _ _ (fun y h1 h2 => RK_w hT ht (by omega))
  rw [hc] at hap
  have hz : ∀ l', (fd (RKt τ β t) (112 - 16 * (t + 1)) (16 * (t + 1)) l').1 < 112 → False := by
    intro l' h
    obtain ⟨f1, f2, f3, _, _⟩ := fd_p (RKt τ β t) (112 - 16 * (t + 1)) (16 * (t + 1)) l'
    have h3 := (f3 (by omega)).1
    have h4 : wy (prF τ (τ 1)) (τ 0) (τ 6) (τ 7) (τ 8) β t (ps (fd (RKt τ β t) (112 - 16 * (t + 1)) (16 * (t + 1)) l').1) ≠ 0 := fun q => h3 ((RK_w hT ht h).mpr q)
    have h5 := wy_lt h4
    unfold ps at h5
    omega
  by_cases g : (fd (fun y => wy (prF τ (τ 1)) (τ 0) (τ 6) (τ 7) (τ 8) β t (ps y)) (16 * (t + 1)) 0 l).1 < 16 * (t + 1)
  · rw [if_pos g] at hap
    rw [hap]
    exact ⟨⟨fun _ => by omega, fun _ => g⟩, fun _ => rfl⟩
  · rw [if_neg g] at hap
    rw [hap]
    exact ⟨⟨fun h => absurd h g, fun h => (hz _ h).elim⟩, fun h => (hz _ h).elim⟩
theorem fd_c {τ β : Nat → Nat} {t l : Nat} : (fd (RKt τ β t) 112 0 l).1 < 112 ↔ l < cnt τ β t := by
  have h := (fd_p (RKt τ β t) 112 0 l).2.2.2.1
  rw [Nat.zero_add] at h
  rw [h]
  unfold cnt
  have : sm (fun y => ind (RKt τ β t (0 + y))) 112 = sm (fun y => ind (RKt τ β t y)) 112 := sm_congr 112 (fun y _ => by rw [Nat.zero_add])
  rw [this]
theorem cnt_b (τ β : Nat → Nat) (t : Nat) : cnt τ β t ≤ 112 := by
  have h7 : ∀ n, sm (fun _ => 1) n = n := by
    intro n
    induction n with
    | zero => rfl
    | succ n ih => show sm (fun _ => 1) n + 1 = _; rw [ih]
  have := sm_le (f := fun y => ind (RKt τ β t y)) (g := fun _ => 1) 112 (fun y _ => by unfold ind; split <;> omega)
  rw [h7] at this
  exact this
/-- the answer of table at a key -/
def tbV (τ β : Nat → Nat) (t y w : Nat) : Int64 := if w = 0 then lN (y / 16) else if w = 1 then lN (y / 2 % 8) else if w = 2 then lN (y % 2) else if w = 3 then lN (vG (prF τ (τ 1)) (τ 0) (τ 6) (τ 7) (τ 8) β (bV (prF τ (τ 1)) β) (τ 0 - t) (y / 16) (y % 2) (y / 2 % 8)) else lN (acS (prF τ (τ 1)) (τ 0) (τ 6) (τ 7) (τ 8) β t (y / 16) (y % 2) (y / 2 % 8))
def tbA (τ β : Nat → Nat) (t l w : Nat) : Int64 := if l < cnt τ β t then tbV τ β t (fd (RKt τ β t) 112 0 l).1 w else -2
theorem A1_s {τ β : Nat → Nat} (hT : TK τ) {t y : Nat} (ht : t ≤ τ 0) (h : RKt τ β t y ≠ 0) : A1 τ β (RKt τ β t y) = acS (prF τ (τ 1)) (τ 0) (τ 6) (τ 7) (τ 8) β t (y / 16) (y % 2) (y / 2 % 8) := by
  obtain ⟨h1, h2, h3, h4, h5⟩ := RK_p hT ht h
  obtain ⟨x1, x2, x3⟩ := RK_x hT ht h
  have := AC_r (prF τ (τ 1)) (τ 0) (τ 6) (τ 7) (τ 8) β h1 h2
  unfold A1
  rw [← this]
  obtain ⟨e1, e2, e3, _⟩ := xR_p (prF τ (τ 1)) β h1 h2
  unfold AC
  rw [e1, e2, e3, h3, x1, x2, x3]
theorem q_table {tr b0 b1 b2 tree bs : Nat → Int32} {τ : Nat → Nat} {B : Nat → Nat → Nat} (hf : TC tr τ) (hf9 : TR tree 0 τ) (hT : TK τ) (hB : CB3 b0 b1 b2 B) (hb9 : ∀ k, k < 3 → RB bs k (B k)) (p1 p2 p3 p4 : Int32) (st sb : Nat → Int32) (pu pe tu ca ho va : Nat → Int64) (ma ac : Nat → Int32) (rok : Nat → Int32) (x0 x1 x2 x3 : Int32) (pe9 : Nat → Int64) (a9 b9 : Int64) (wo9 ho9 wa9 : Nat → Int64) (ac9 : Nat → Int32) : Sx2 (fX8_table p1 p2 p3 p4 tr b0 b1 b2 st sb pu pe tu ca ho va ma ac rok) (fX9_table p1 p2 p3 p4 tree bs x0 x1 x2 x3 pe9 a9 b9 wo9 ho9 wa9 ac9) (fun _ _ => True) := by
  by_cases h1 : inr p1 0 2
  rotate_left
  · exact Sx2.mk (by unfold fX8_table; rw [isb8n h1, bd1_mk, if_pos rfl]) (by unfold fX9_table; rw [isb9n h1, bd1_mk, if_pos rfl]) (trivial)
  by_cases h2 : inr p2 0 (τ 0)
  rotate_left
  · exact Sx2.mk (by unfold fX8_table; rw [isb8y h1, bd1_mk, if_neg one0, isd8n hf hT h2, bd1_mk, if_pos rfl]) (by unfold fX9_table; rw [isb9y h1, bd1_mk, if_neg one0, isd9n hf9 hT h2, bd1_mk, if_pos rfl]) (trivial)
  by_cases h3 : p3 < 0
  · exact Sx2.mk (by unfold fX8_table; rw [isb8y h1, bd1_mk, if_neg one0, isd8y hf hT h2, bd1_mk, if_neg one0, if_pos h3]) (by unfold fX9_table; rw [isb9y h1, bd1_mk, if_neg one0, isd9y hf9 hT h2, bd1_mk, if_neg one0, if_pos h3]) trivial
  by_cases h4 : inr p4 0 4
  rotate_left
  · exact Sx2.mk (by unfold fX8_table; rw [isb8y h1, bd1_mk, if_neg one0, isd8y hf hT h2, bd1_mk, if_neg one0, if_neg h3, wi0 h4, bd1_mk, if_pos rfl]) (by unfold fX9_table; rw [isb9y h1, bd1_mk, if_neg one0, isd9y hf9 hT h2, bd1_mk, if_neg one0, if_neg h3, in0 h4, bd1_mk, if_pos rfl]) trivial
  obtain ⟨k, rfl, _, hk, _⟩ := inr_n h1 (by decide)
  have hk3 : k < 3 := by omega
  obtain ⟨t, rfl, _, t2, _⟩ := inr_n h2 (Int.le_refl 0)
  obtain ⟨w, rfl, _, w2, _⟩ := inr_n h4 (by decide)
  obtain ⟨l, hl, rfl⟩ := nI_of h3
  have ht : t ≤ τ 0 := by omega
  have hcb := cnt_b τ (B k) t
  refine Sx2.val (v := tbA τ (B k) t l w) ?_ ?_
  · unfold fX8_table
    rw [isb8y h1, bd1_mk, if_neg one0, isd8y hf hT h2, bd1_mk, if_neg one0, if_neg h3, wi1 h4, bd1_mk, if_neg one0]
    refine Sx.b10 (wo8 hk3 hf hT hB st sb pu pe tu ca ho va ma ac) ?_
    rintro c0 c1 c2 c3 c4 c5 c6 c7 c8 c9 ⟨hc, hcb', hsb⟩
    dsimp only at hc hcb' hsb
    refine Sx.b2 (ga8 hT hsb ht rok) ?_
    rintro z0 rk ⟨rfl, hrk⟩
    dsimp only at hrk ⊢
    unfold tbA
    by_cases g : l < cnt τ (B k) t
    · rw [if_pos g]
      have hf1 := fd_c.mpr g
      have hP : RKt τ (B k) t (fd (RKt τ (B k) t) 112 0 l).1 ≠ 0 := ((fd_p (RKt τ (B k) t) 112 0 l).2.2.1 (by omega)).1
      obtain ⟨r1, r2, r3, r4, r5⟩ := RK_p hT ht hP
      obtain ⟨u1, u2, u3⟩ := RK_x hT ht hP
      have hA := A1_s hT ht hP
      have hro := row_T hT r1 r2 (by omega)
      refine Sx.p (nI_lt g (by omega)) (Sx.e1 (sr8' (fun y hy => ⟨hrk y hy, RK_b hT ht y⟩) hl hf1) ?_)
      generalize hY : (fd (RKt τ (B k) t) 112 0 l).1 = Y at *
      unfold tbV
      rcases (show w = 0 ∨ w = 1 ∨ w = 2 ∨ w = 3 ∨ w = 4 by omega) with rfl | rfl | rfl | rfl | rfl
      · refine Sx.p rfl (Sx.e1 (ups8 _ r2 r1) (Sx.mk ?_))
        rw [if_pos rfl, u1, nI_l (by omega)]
      · refine Sx.n (by decide) (Sx.p rfl (Sx.e1 (maA8 r1 r2) (Sx.mk ?_)))
        show Int32.toInt64 (c8 (RKt τ (B k) t Y)) = _
        rw [(hsb.1 _ r1 hro).2.2.2, u2, nI_l (by omega), if_neg (by omega), if_pos rfl]
      · refine Sx.n (by decide) (Sx.n (by decide) (Sx.p rfl (Sx.e1 (cam8 _ r2 r1) ?_)))
        rw [u3]
        rcases (show Y % 2 = 0 ∨ Y % 2 = 1 by omega) with e | e
        · rw [e]; exact Sx.e1 (if_pos rfl) (Sx.mk rfl)
        · rw [e]; exact Sx.e1 (if_neg one0) (Sx.mk rfl)
      · refine Sx.n (by decide) (Sx.n (by decide) (Sx.n (by decide) (Sx.p rfl (Sx.e1 (va8 r1 r2) (Sx.mk ?_)))))
        show c7 (RKt τ (B k) t Y) = _
        rw [(hsb.2 _ r1 r1 hro).1]
        unfold vR
        rw [r3, u1, u2, u3, if_neg (by omega), if_neg (by omega), if_neg (by omega), if_pos rfl]
      · refine Sx.n (by decide) (Sx.n (by decide) (Sx.n (by decide) (Sx.n (by decide) (Sx.e1 (acA8 r1 r2) (Sx.mk ?_)))))
        show Int32.toInt64 (c9 (RKt τ (B k) t Y)) = _
        have ha6 := acS_6 (prF τ (τ 1)) (τ 0) (τ 6) (τ 7) (τ 8) (B k) t (Y / 16) (Y % 2) (Y / 2 % 8)
        rw [(hsb.a6 hT _ r1 r2 (by omega)).1, hA, nI_l (by omega), if_neg (by omega), if_neg (by omega), if_neg (by omega), if_neg (by omega)]
    · rw [if_neg g]
      exact Sx.n (nI_nlt (by omega) (by omega)) (Sx.mk rfl)
  · unfold fX9_table
    rw [isb9y h1, bd1_mk, if_neg one0, isd9y hf9 hT h2, bd1_mk, if_neg one0, if_neg h3, in1 h4, bd1_mk, if_neg one0]
    refine Sx.b11 (la9 hf9 hT hk3 (hb9 k hk3) (hB k hk3).2 x0 x1 x2 x3 pe9 a9 b9 wo9 ho9 wa9 ac9) ?_
    rintro d0 d1 d2 d3 pe' d5 d6 d7 d8 d9 d10 ⟨rfl, rfl, rfl, rfl, hP, hG, hWA⟩
    dsimp only at hP hG hWA ⊢
    obtain ⟨n, hn⟩ := fuN (t + 2) (by omega)
    have he := t55' hT.n hWA.1 ht (nI w) (t + 1) n 0 l (by omega) hl
    rw [Nat.mul_zero] at he
    obtain ⟨hw1, hw2⟩ := fd_w (β := B k) hT ht l
    rw [hn, i_0, show n + (t + 2) = n + (t + 1) + 1 by omega, he]
    unfold tbA
    by_cases g : l < cnt τ (B k) t
    · have hf1 := fd_c.mpr g
      rw [if_pos (hw1.mpr hf1), if_pos g, hw2 hf1, bd5_mk]
      have hP : RKt τ (B k) t (fd (RKt τ (B k) t) 112 0 l).1 ≠ 0 := ((fd_p (RKt τ (B k) t) 112 0 l).2.2.1 (by omega)).1
      generalize hY : (fd (RKt τ (B k) t) 112 0 l).1 = Y at *
      have hwy : wy (prF τ (τ 1)) (τ 0) (τ 6) (τ 7) (τ 8) (B k) t (ps Y) ≠ 0 := fun q => hP ((RK_w hT ht hf1).mpr q)
      have hok := wy_ok _ _ _ _ _ _ t _ hwy
      have q1 : ps Y / 16 = Y / 16 := by unfold ps; omega
      have q2 : ps Y / 8 % 2 = Y % 2 := ps_8 Y
      have q3 : ps Y % 8 = Y / 2 % 8 := by unfold ps; omega
      rw [q1, q2, q3] at hok
      obtain ⟨g1, g2, g3⟩ := hG t (Y / 16) (Y % 2) (Y / 2 % 8) ht hok trivial
      have hat : atN t (Y / 16) (Y % 2) (Y / 2 % 8) = 112 * t + ps Y := by rw [atN_x]; unfold ps; rfl
      rw [hat] at g1 g3
      have hpl := ps_lt hf1
      refine Sx.p rfl ?_
      unfold tbV
      rcases (show w = 0 ∨ w = 1 ∨ w = 2 ∨ w = 3 ∨ w = 4 by omega) with rfl | rfl | rfl | rfl | rfl
      · refine Sx.e1 (if_pos rfl) (Sx.mk ⟨?_, trivial⟩)
        rw [if_pos rfl, nI_l (by omega)]
      · refine Sx.e1 (a0 := Int32.toInt64 (nI (Y / 2 % 8))) (by rw [if_neg (show ¬ nI 1 = nI 0 by decide)]; rfl) (Sx.mk ⟨?_, trivial⟩)
        rw [nI_l (by omega), if_neg (by omega), if_pos rfl]
      · refine Sx.e1 (a0 := Int32.toInt64 (nI (Y % 2))) (by rw [if_neg (show ¬ nI 2 = nI 0 by decide)]; rfl) (Sx.mk ⟨?_, trivial⟩)
        rw [nI_l (by omega), if_neg (by omega), if_neg (by omega), if_pos rfl]
      · refine Sx.e1 (a0 := d7 (112 * t + ps Y)) (by rw [if_neg (show ¬ nI 3 = nI 0 by decide), if_neg (show ¬ nI 3 = (1 : Int32) by decide), if_neg (show ¬ nI 3 = (2 : Int32) by decide), if_pos (show nI 3 = (3 : Int32) from rfl), og32 (by omega) (by omega), nI_clamp (by omega)]) (Sx.mk ⟨?_, trivial⟩)
        show d7 (112 * t + ps Y) = _
        rw [g1, if_neg (by omega), if_neg (by omega), if_neg (by omega), if_pos rfl]
      · have ha6 := acS_6 (prF τ (τ 1)) (τ 0) (τ 6) (τ 7) (τ 8) (B k) t (Y / 16) (Y % 2) (Y / 2 % 8)
        refine Sx.e1 (a0 := Int32.toInt64 (d10 (112 * t + ps Y))) (by rw [if_neg (show ¬ nI 4 = nI 0 by decide), if_neg (show ¬ nI 4 = (1 : Int32) by decide), if_neg (show ¬ nI 4 = (2 : Int32) by decide), if_neg (show ¬ nI 4 = (3 : Int32) by decide), og32 (by omega) (by omega), nI_clamp (by omega)]) (Sx.mk ⟨?_, trivial⟩)
        show Int32.toInt64 (d10 (112 * t + ps Y)) = _
        rw [g3, nI_l (by omega), if_neg (by omega), if_neg (by omega), if_neg (by omega), if_neg (by omega)]
    · rw [if_neg (fun q => g (fd_c.mp (hw1.mp q))), if_neg g, bd5_mk]
      exact Sx.n (by decide) (Sx.mk ⟨rfl, trivial⟩)
end
section
/-! pure: first, days: both sides (own rows) -/
abbrev SA (c : Int32) (a : Nat) : Prop := (c = 0 ∧ (a = 2 ∨ a = 6)) ∨ (c ≠ 0 ∧ (a = 3 ∨ a = 4))
def acY (τ β : Nat → Nat) (t y : Nat) : Nat := acS (prF τ (τ 1)) (τ 0) (τ 6) (τ 7) (τ 8) β t (y / 16) (y % 2) (y / 2 % 8)
def SP (τ β : Nat → Nat) (t : Nat) (c : Int32) (j : Nat) : Prop := ∃ y, y < 112 ∧ y / 16 = j ∧ RKt τ β t y ≠ 0 ∧ SA c (acY τ β t y)
def kl (τ β : Nat → Nat) (t l : Nat) : Nat := (fd (RKt τ β t) 112 0 l).1
theorem sm_mo (f : Nat → Nat) {m n : Nat} (h : m ≤ n) : sm f m ≤ sm f n := by
  obtain ⟨d, rfl⟩ : ∃ d, n = m + d := ⟨n - m, by omega⟩
  rw [sm_app]; omega
theorem sm_0 (f : Nat → Nat) (n : Nat) : sm (fun y => f (0 + y)) n = sm f n := sm_congr n (fun y _ => by rw [Nat.zero_add])
theorem kl_p {τ β : Nat → Nat} {t l : Nat} (h : l < cnt τ β t) : kl τ β t l < 112 ∧ RKt τ β t (kl τ β t l) ≠ 0 ∧ l = sm (fun y => ind (RKt τ β t y)) (kl τ β t l) := by
  have h1 := fd_c.mpr h
  obtain ⟨_, _, f3, _, _⟩ := fd_p (RKt τ β t) 112 0 l
  obtain ⟨a, b, _⟩ := f3 (by omega)
  rw [Nat.sub_zero, sm_0 (fun y => ind (RKt τ β t y))] at b
  exact ⟨h1, a, b⟩
theorem kl_at {τ β : Nat → Nat} {t y : Nat} (hy : y < 112) (h : RKt τ β t y ≠ 0) : ∃ l, l < cnt τ β t ∧ kl τ β t l = y ∧ l = sm (fun y => ind (RKt τ β t y)) y := by
  have := fd_at h 112 0 (by omega) (by omega)
  rw [Nat.sub_zero, sm_0 (fun y => ind (RKt τ β t y))] at this
  refine ⟨_, ?_, ?_, rfl⟩
  · refine fd_c.mp ?_
    rw [this]; exact hy
  · unfold kl; rw [this]
theorem Fa_c {τ β : Nat → Nat} {t : Nat} {c : Int32} {l : Nat} (hl : l < cnt τ β t) (hs : SA c (acY τ β t (kl τ β t l))) (hn : ∀ l', l' < l → ¬ SA c (acY τ β t (kl τ β t l'))) : Fa (SP τ β t c) 6 (nI (kl τ β t l / 16)) := by
  obtain ⟨a, b, e⟩ := kl_p hl
  refine Or.inl ⟨kl τ β t l / 16, by omega, ⟨_, a, rfl, b, hs⟩, fun d hd => ?_, rfl⟩
  rintro ⟨y, y1, y2, y3, y4⟩
  obtain ⟨l', _, e1, e2⟩ := kl_at y1 y3
  have hlt : y < kl τ β t l := by omega
  have h1 := sm_mo (fun y => ind (RKt τ β t y)) (show y + 1 ≤ kl τ β t l by omega)
  have h2 : sm (fun y => ind (RKt τ β t y)) (y + 1) = sm (fun y => ind (RKt τ β t y)) y + 1 := by
    show _ + ind (RKt τ β t y) = _
    unfold ind; rw [if_neg y3]
  refine hn l' (by omega) ?_
  rw [e1]; exact y4
theorem Fa_n {τ β : Nat → Nat} {t : Nat} {c : Int32} (hn : ∀ l', l' < cnt τ β t → ¬ SA c (acY τ β t (kl τ β t l'))) : Fa (SP τ β t c) 6 (-2) := by
  refine Or.inr ⟨fun d _ => ?_, rfl⟩
  rintro ⟨y, y1, y2, y3, y4⟩
  obtain ⟨l', h1, e1, _⟩ := kl_at y1 y3
  refine hn l' h1 ?_
  rw [e1]; exact y4
theorem fi35 {τ β : Nat → Nat} (hT : TK τ) {t : Nat} (ht : t ≤ τ 0) (c : Int32) {ac rk : Nat → Int32} (hA : ∀ r, 1 ≤ r → r < 128 → dR r ≤ τ 0 → ac r = nI (A1 τ β r) ∧ A1 τ β r ≤ 6) (hrk : ∀ y, y < 112 → rk y = nI (RKt τ β t y)) : ∀ (i n l : Nat), l + i = cnt τ β t → (∀ l', l' < l → ¬ SA c (acY τ β t (kl τ β t l'))) → Sx (lpX8_first_35 c (nI (cnt τ β t)) ac rk (n + i + 1) (nI l)) (fun z => (z.1 = 2 ∧ ∀ l', l' < cnt τ β t → ¬ SA c (acY τ β t (kl τ β t l'))) ∨ ((z.1 = 0 ∨ z.1 = 1) ∧ ∃ l, l < cnt τ β t ∧ z.2 = nI (RKt τ β t (kl τ β t l)) ∧ SA c (acY τ β t (kl τ β t l)) ∧ ∀ l', l' < l → ¬ SA c (acY τ β t (kl τ β t l')))) := by
  have hcb := cnt_b τ β t
  intro i
  induction i with
  | zero =>
    intro n l hi hg
    rw [lpX8_first_35.eq_2]
    exact Sx.p (nI_le (by omega) (by omega)) (Sx.mk (Or.inl ⟨rfl, fun l' h => hg l' (by omega)⟩))
  | succ i ih =>
    intro n l hi hg
    obtain ⟨k1, k2, k3⟩ := kl_p (τ := τ) (β := β) (t := t) (l := l) (by omega)
    obtain ⟨r1, r2, r3, r4, r5⟩ := RK_p hT ht k2
    have hA1 := A1_s hT ht k2
    obtain ⟨a1, a2⟩ := hA _ r1 r2 (by omega)
    rw [lpX8_first_35.eq_2]
    refine Sx.n (nI_ge (by omega) (by omega)) (Sx.e1 (sr8' (fun y hy => ⟨hrk y hy, RK_b hT ht y⟩) (by omega) k1) (Sx.e1 (acA8 r1 r2) ?_))
    rw [show (fd (RKt τ β t) 112 0 l).1 = kl τ β t l from rfl, a1, hA1]
    have ha : acS (prF τ (τ 1)) (τ 0) (τ 6) (τ 7) (τ 8) β t (kl τ β t l / 16) (kl τ β t l % 2) (kl τ β t l / 2 % 8) = acY τ β t (kl τ β t l) := rfl
    rw [ha] at hA1 ⊢
    rw [hA1] at a2
    generalize hX : acY τ β t (kl τ β t l) = X at *
    have e1 : (if nI X = 3 then some (1 : Int32) else if nI X = 4 then some 1 else some 0) = some (if X = 3 ∨ X = 4 then 1 else 0) := by
      rcases (show X = 0 ∨ X = 1 ∨ X = 2 ∨ X = 3 ∨ X = 4 ∨ X = 5 ∨ X = 6 by omega) with rfl | rfl | rfl | rfl | rfl | rfl | rfl <;> decide
    have e2 : (if nI X = 2 then some (1 : Int32) else if nI X = 6 then some 1 else some 0) = some (if X = 2 ∨ X = 6 then 1 else 0) := by
      rcases (show X = 0 ∨ X = 1 ∨ X = 2 ∨ X = 3 ∨ X = 4 ∨ X = 5 ∨ X = 6 by omega) with rfl | rfl | rfl | rfl | rfl | rfl | rfl <;> decide
    refine Sx.e1 e1 (Sx.e1 e2 ?_)
    have hnext : ¬ SA c X → Sx (nm (nI l + 1) (fun w => lpX8_first_35 c (nI (cnt τ β t)) ac rk (n + (i + 1)) w)) (fun z => (z.1 = 2 ∧ ∀ l', l' < cnt τ β t → ¬ SA c (acY τ β t (kl τ β t l'))) ∨ ((z.1 = 0 ∨ z.1 = 1) ∧ ∃ l, l < cnt τ β t ∧ z.2 = nI (RKt τ β t (kl τ β t l)) ∧ SA c (acY τ β t (kl τ β t l)) ∧ ∀ l', l' < l → ¬ SA c (acY τ β t (kl τ β t l')))) := by
      intro hn
      rw [nm_mk, nI_1, show n + (i + 1) = n + i + 1 by omega]
      refine ih n (l + 1) (by omega) (fun l' h => ?_)
      by_cases e : l' = l
      · rw [e, hX]; exact hn
      · exact hg l' (by omega)
    have hfound : SA c X → ∃ l, l < cnt τ β t ∧ nI (RKt τ β t (kl τ β t l)) = nI (RKt τ β t (kl τ β t l)) ∧ SA c (acY τ β t (kl τ β t l)) := fun h => ⟨l, by omega, rfl, by rw [hX]; exact h⟩
    by_cases hc : c = 0
    · refine Sx.p hc ?_
      by_cases g : X = 2 ∨ X = 6
      · rw [if_pos g]
        exact Sx.n one0 (Sx.mk (Or.inr ⟨Or.inr rfl, l, by omega, rfl, by rw [hX]; exact Or.inl ⟨hc, g⟩, hg⟩))
      · rw [if_neg g]
        exact Sx.p rfl (hnext (fun q => by rcases q with q | q; exact g q.2; exact q.1 hc))
    · refine Sx.n hc ?_
      by_cases g : X = 3 ∨ X = 4
      · rw [if_pos g]
        exact Sx.n one0 (Sx.mk (Or.inr ⟨Or.inl rfl, l, by omega, rfl, by rw [hX]; exact Or.inr ⟨hc, g⟩, hg⟩))
      · rw [if_neg g]
        exact Sx.p rfl (hnext (fun q => by rcases q with q | q; exact hc q.1; exact g q.2))
theorem fi36 {π : Nat → Nat → Nat} {T p q R : Nat} {β : Nat → Nat} {way : Nat → Int64} {ac : Nat → Int32} (hN : NK T p q R) (hW : WA π T p q R β way ac) {t : Nat} (ht : t ≤ T) (c : Int32) : ∀ (i n x : Nat), x + i = 112 → (∀ x', x' < x → wy π T p q R β t x' ≠ 0 → ¬ SA c (AC π T p q R β t x')) → Sx (lpX9_first_36 (nI t) c way ac (n + i + 1) (nI (112 * t + x))) (fun z => (z.1 = 1 ∧ ∀ x', x' < 112 → wy π T p q R β t x' ≠ 0 → ¬ SA c (AC π T p q R β t x')) ∨ (z.1 = 0 ∧ ∃ x, x < 112 ∧ z.2 = nI (112 * t + x) ∧ wy π T p q R β t x ≠ 0 ∧ SA c (AC π T p q R β t x) ∧ ∀ x', x' < x → wy π T p q R β t x' ≠ 0 → ¬ SA c (AC π T p q R β t x'))) := by
  intro i
  induction i with
  | zero =>
    intro n x hi hg
    rw [lpX9_first_36.eq_2, i_112, pk_mul, nI_add]
    exact Sx.p (nI_le (by omega) (by omega)) (Sx.mk (Or.inl ⟨rfl, fun x' h => hg x' (by omega)⟩))
  | succ i ih =>
    intro n x hi hg
    obtain ⟨z1, z2, z3⟩ := wz hN hW.1 (show 112 * t + x < 784 by omega)
    rw [show (112 * t + x) / 112 = t by omega, show (112 * t + x) % 112 = x by omega] at z2
    rw [lpX9_first_36.eq_2, i_112, pk_mul, nI_add]
    refine Sx.n (nI_ge (by omega) (by omega)) ?_
    rw [og32 (by omega) (by omega), nI_clamp (by omega), og32 (by omega) (by omega), og32 (by omega) (by omega)]
    have hnext : (wy π T p q R β t x ≠ 0 → ¬ SA c (AC π T p q R β t x)) → Sx (nm (nI (112 * t + x) + 1) (fun w => lpX9_first_36 (nI t) c way ac (n + (i + 1)) w)) (fun z => (z.1 = 1 ∧ ∀ x', x' < 112 → wy π T p q R β t x' ≠ 0 → ¬ SA c (AC π T p q R β t x')) ∨ (z.1 = 0 ∧ ∃ x, x < 112 ∧ z.2 = nI (112 * t + x) ∧ wy π T p q R β t x ≠ 0 ∧ SA c (AC π T p q R β t x) ∧ ∀ x', x' < x → wy π T p q R β t x' ≠ 0 → ¬ SA c (AC π T p q R β t x'))) := by
      intro hn
      rw [nm_mk, nI_1, Nat.add_assoc, show n + (i + 1) = n + i + 1 by omega]
      refine ih n (x + 1) (by omega) (fun x' h1 h2 => ?_)
      by_cases e : x' = x
      · subst e; exact hn h2
      · exact hg x' (by omega) h2
    by_cases g0 : wy π T p q R β t x = 0
    · exact Sx.p (z2.mpr (fun q => q.2 g0)) (hnext (fun q => absurd g0 q))
    · refine Sx.n (fun q => z2.mp q ⟨ht, g0⟩) ?_
      obtain ⟨a1, a2⟩ := hW.2 t x ht g0
      rw [a1]
      generalize hX : AC π T p q R β t x = X at *
      refine Sx.b1 (P := fun z => z = if SA c X then 1 else 0) ?_ ?_
      · by_cases hc : c = 0
        · refine Sx.p hc ?_
          by_cases g2 : X = 2
          · refine Sx.p (by rw [g2]; rfl) (Sx.mk ?_)
            rw [if_pos (Or.inl ⟨hc, Or.inl g2⟩)]
          · refine Sx.n (fun q => g2 ((nI_eq (b := 2) (by omega) (by omega)).mp q)) ?_
            by_cases g6 : X = 6
            · refine Sx.p (by rw [g6]; rfl) (Sx.mk ?_)
              rw [if_pos (Or.inl ⟨hc, Or.inr g6⟩)]
            · refine Sx.n (fun q => g6 ((nI_eq (b := 6) (by omega) (by omega)).mp q)) (Sx.mk ?_)
              rw [if_neg (fun q => by rcases q with q | q; exact q.2.elim g2 g6; exact q.1 hc)]
        · refine Sx.n hc ?_
          have h34 := iin (n := X) (a := 3) (b := 4) (by omega) (by omega) (by omega)
          rw [og32 (by omega) (by omega)]
          refine Sx.e1 h34 (Sx.mk ?_)
          by_cases g : X = 3 ∨ X = 4
          · rw [if_pos (by omega), if_pos (Or.inr ⟨hc, g⟩)]
          · rw [if_neg (by omega), if_neg (fun q => by rcases q with q | q; exact hc q.1; exact g q.2)]
      · rintro z rfl
        by_cases g : SA c X
        · rw [if_pos g]
          exact Sx.n one0 (Sx.mk (Or.inr ⟨rfl, x, by omega, rfl, g0, by rw [hX]; exact g, hg⟩))
        · rw [if_neg g]
          exact Sx.p rfl (hnext (fun _ => g))
theorem ph_2 (x : Nat) : ph x / 2 % 8 = x % 8 := by
  unfold ph
  have hb : x / 8 % 2 < 2 := by omega
  have hm : x % 8 < 8 := by omega
  generalize x / 16 = a at *
  generalize x / 8 % 2 = b at *
  generalize x % 8 = m at *
  have h3 : (a * 16 + m * 2 + b) / 2 = a * 8 + m := by omega
  rw [h3]; omega
theorem acY_x {τ β : Nat → Nat} {t x : Nat} : acY τ β t (ph x) = AC (prF τ (τ 1)) (τ 0) (τ 6) (τ 7) (τ 8) β t x := by
  unfold acY AC
  rw [show ph x / 16 = x / 16 by unfold ph; omega, show ph x % 2 = x / 8 % 2 by unfold ph; omega, ph_2 x]
theorem Fa_x {τ β : Nat → Nat} (hT : TK τ) {t : Nat} (ht : t ≤ τ 0) {c : Int32} {x : Nat} (hx : x < 112) (hw : wy (prF τ (τ 1)) (τ 0) (τ 6) (τ 7) (τ 8) β t x ≠ 0) (hs : SA c (AC (prF τ (τ 1)) (τ 0) (τ 6) (τ 7) (τ 8) β t x)) (hn : ∀ x', x' < x → wy (prF τ (τ 1)) (τ 0) (τ 6) (τ 7) (τ 8) β t x' ≠ 0 → ¬ SA c (AC (prF τ (τ 1)) (τ 0) (τ 6) (τ 7) (τ 8) β t x')) : Fa (SP τ β t c) 6 (nI (x / 16)) := by
  refine Or.inl ⟨x / 16, by omega, ⟨ph x, ph_lt hx, by unfold ph; omega, (pr_in hT ht hx).mp hw, by rw [acY_x]; exact hs⟩, fun d hd => ?_, rfl⟩
  rintro ⟨y, y1, y2, y3, y4⟩
  have h1 : wy (prF τ (τ 1)) (τ 0) (τ 6) (τ 7) (τ 8) β t (ps y) ≠ 0 := fun q => y3 ((RK_w hT ht y1).mpr q)
  refine hn (ps y) (by unfold ps; omega) h1 ?_
  rw [← acY_x, ph_ps]; exact y4
theorem Fa_y {τ β : Nat → Nat} (hT : TK τ) {t : Nat} (ht : t ≤ τ 0) {c : Int32} (hn : ∀ x', x' < 112 → wy (prF τ (τ 1)) (τ 0) (τ 6) (τ 7) (τ 8) β t x' ≠ 0 → ¬ SA c (AC (prF τ (τ 1)) (τ 0) (τ 6) (τ 7) (τ 8) β t x')) : Fa (SP τ β t c) 6 (-2) := by
  refine Or.inr ⟨fun d _ => ?_, rfl⟩
  rintro ⟨y, y1, y2, y3, y4⟩
  have h1 : wy (prF τ (τ 1)) (τ 0) (τ 6) (τ 7) (τ 8) β t (ps y) ≠ 0 := fun q => y3 ((RK_w hT ht y1).mpr q)
  refine hn (ps y) (ps_lt y1) h1 ?_
  rw [← acY_x, ph_ps]; exact y4
theorem q_first {tr b0 b1 b2 tree bs : Nat → Int32} {τ : Nat → Nat} {B : Nat → Nat → Nat} (hf : TC tr τ) (hf9 : TR tree 0 τ) (hT : TK τ) (hB : CB3 b0 b1 b2 B) (hb9 : ∀ k, k < 3 → RB bs k (B k)) (p1 p2 p3 : Int32) (st sb : Nat → Int32) (pu pe tu ca ho va : Nat → Int64) (ma ac : Nat → Int32) (rok : Nat → Int32) (x0 x1 x2 x3 : Int32) (pe9 : Nat → Int64) (a9 b9 : Int64) (wo9 ho9 wa9 : Nat → Int64) (ac9 : Nat → Int32) : Sx2 (fX8_first p1 p2 p3 tr b0 b1 b2 st sb pu pe tu ca ho va ma ac rok) (fX9_first p1 p2 p3 tree bs x0 x1 x2 x3 pe9 a9 b9 wo9 ho9 wa9 ac9) (fun _ _ => True) := by
  by_cases h1 : inr p1 0 2
  rotate_left
  · exact Sx2.mk (by unfold fX8_first; rw [isb8n h1, bd1_mk, if_pos rfl]) (by unfold fX9_first; rw [isb9n h1, bd1_mk, if_pos rfl]) (trivial)
  by_cases h2 : inr p2 0 (τ 0)
  rotate_left
  · exact Sx2.mk (by unfold fX8_first; rw [isb8y h1, bd1_mk, if_neg one0, isd8n hf hT h2, bd1_mk, if_pos rfl]) (by unfold fX9_first; rw [isb9y h1, bd1_mk, if_neg one0, isd9n hf9 hT h2, bd1_mk, if_pos rfl]) (trivial)
  obtain ⟨k, rfl, _, hk, _⟩ := inr_n h1 (by decide)
  have hk3 : k < 3 := by omega
  obtain ⟨t, rfl, _, t2, _⟩ := inr_n h2 (Int.le_refl 0)
  have ht : t ≤ τ 0 := by omega
  have hcb := cnt_b τ (B k) t
  refine Sx2.rel (P := Fa (SP τ (B k) t p3) 6) (fun _ _ a b => a.u b) ?_ ?_
  · unfold fX8_first
    rw [isb8y h1, bd1_mk, if_neg one0, isd8y hf hT h2, bd1_mk, if_neg one0]
    refine Sx.b10 (wo8 hk3 hf hT hB st sb pu pe tu ca ho va ma ac) ?_
    rintro c0 c1 c2 c3 c4 c5 c6 c7 c8 c9 ⟨hc, hcb', hsb⟩
    dsimp only at hc hcb' hsb
    refine Sx.b2 (ga8 hT hsb ht rok) ?_
    rintro z0 rk ⟨rfl, hrk⟩
    dsimp only at hrk ⊢
    obtain ⟨n, hn⟩ := fuN (cnt τ (B k) t + 1) (by omega)
    rw [hn, i_0, show n + (cnt τ (B k) t + 1) = n + cnt τ (B k) t + 1 by omega]
    refine Sx.b2 (fi35 hT ht p3 (hsb.a6 hT) hrk (cnt τ (B k) t) n 0 (by omega) (fun l' h => absurd h (by omega))) ?_
    intro tg rw' h
    dsimp only at h
    rcases h with ⟨rfl, h⟩ | ⟨htg, l, hl, rfl, hs, hn'⟩
    · exact Sx.n (by decide) (Sx.n (by decide) (Sx.mk (Fa_n h)))
    · obtain ⟨k1, k2, k3⟩ := kl_p hl
      obtain ⟨r1, r2, r3, r4, r5⟩ := RK_p hT ht k2
      have hu := (RK_x hT ht k2).1
      have hF := Fa_c hl hs hn'
      have hup := ups8 _ r2 r1
      rw [hu] at hup
      rcases htg with rfl | rfl
      · exact Sx.p rfl (Sx.e1 hup (Sx.mk hF))
      · exact Sx.n (by decide) (Sx.p rfl (Sx.e1 hup (Sx.mk hF)))
  · unfold fX9_first
    rw [isb9y h1, bd1_mk, if_neg one0, isd9y hf9 hT h2, bd1_mk, if_neg one0]
    refine Sx.b11 (la9 hf9 hT hk3 (hb9 k hk3) (hB k hk3).2 x0 x1 x2 x3 pe9 a9 b9 wo9 ho9 wa9 ac9) ?_
    rintro d0 d1 d2 d3 pe' d5 d6 d7 d8 d9 d10 ⟨rfl, rfl, rfl, rfl, hP, hG, hWA⟩
    dsimp only at hP hG hWA ⊢
    obtain ⟨n, hn⟩ := fuN 113 (by omega)
    have he := fi36 hT.n hWA ht p3 112 n 0 (by omega) (fun x' h => absurd h (by omega))
    rw [Nat.add_zero] at he
    rw [nm_mk, i_112, pk_mul, hn]
    refine Sx.b2 he ?_
    intro tg z h
    dsimp only at h
    rcases h with ⟨rfl, h⟩ | ⟨rfl, x, hx, rfl, hw, hs, hn'⟩
    · exact Sx.n (by decide) (Sx.mk ⟨Fa_y hT ht h, trivial⟩)
    · refine Sx.p rfl (Sx.mk ⟨?_, trivial⟩)
      show Fa _ 6 ((nI (112 * t + x) / 16) - (nI (112 * t + x) / 16) / 7 * 7)
      rw [i_16, pk_div (by omega) (by omega) (by omega), i_7, pk_rem (by omega) (by omega) (by omega), show (112 * t + x) / 16 % 7 = x / 16 by omega]
      exact Fa_x hT ht hx hw hs hn'
/-- days as bits -/
theorem orb : ∀ v, v < 128 → ∀ d, d < 7 → nI v ||| ((1 : Int32) <<< (nI d &&& 31)) = nI (v ||| 2 ^ d) ∧ v ||| 2 ^ d < 128 := by decide +kernel
theorem tb_or (v d e : Nat) : (v ||| 2 ^ d).testBit e = (v.testBit e || decide (d = e)) := by
  rw [Nat.testBit_or, Nat.testBit_two_pow]
theorem bit_u {v w : Nat} (hv : v < 128) (hw : w < 128) (h : ∀ d, d < 7 → v.testBit d = w.testBit d) : v = w := by
  refine Nat.eq_of_testBit_eq (fun d => ?_)
  by_cases g : d < 7
  · exact h d g
  · have h7 : 128 ≤ 2 ^ d := by
      have := Nat.pow_le_pow_right (show 0 < 2 by omega) (show 7 ≤ d by omega)
      omega
    rw [Nat.testBit_lt_two_pow (by omega), Nat.testBit_lt_two_pow (by omega)]
def DQ (v : Nat) (Q : Nat → Prop) : Prop := v < 128 ∧ ∀ d, d < 7 → (v.testBit d = true ↔ Q d)
theorem DQ.same {v : Nat} {Q Q' : Nat → Prop} (h : DQ v Q) (e : ∀ d, d < 7 → (Q d ↔ Q' d)) : DQ v Q' := ⟨h.1, fun d hd => (h.2 d hd).trans (e d hd)⟩
theorem DQ.add {v e : Nat} {Q Q' : Nat → Prop} (he : e < 7) (h : DQ v Q) (g : ∀ d, d < 7 → (Q' d ↔ Q d ∨ d = e)) : DQ (v ||| 2 ^ e) Q' := by
  refine ⟨(orb v h.1 e he).2, fun d hd => ?_⟩
  rw [tb_or, Bool.or_eq_true, decide_eq_true_iff, h.2 d hd, g d hd]
  exact ⟨fun q => q.imp id Eq.symm, fun q => q.imp id Eq.symm⟩
theorem DQ.u {v w : Nat} {Q Q' : Nat → Prop} (h : DQ v Q) (g : DQ w Q') (e : ∀ d, d < 7 → (Q d ↔ Q' d)) : v = w := by
  refine bit_u h.1 g.1 (fun d hd => ?_)
  have := (h.2 d hd).trans ((e d hd).trans (g.2 d hd).symm)
  cases hx : v.testBit d <;> cases hy : w.testBit d
  · rfl
  · rw [hx, hy] at this; exact absurd (this.mpr rfl) (by decide)
  · rw [hx, hy] at this; exact absurd (this.mp rfl) (by decide)
  · rfl
def Q8 (τ β : Nat → Nat) (a r d : Nat) : Prop := ∃ r', 1 ≤ r' ∧ r' < r ∧ dR r' = d ∧ A1 τ β r' = a ∧ CT (A1 τ β) r'
theorem da29 {f : Nat → Int32} {τ β : Nat → Nat} (hf : TC f τ) (hT : TK τ) {ac : Nat → Int32} (hA : ∀ r, 1 ≤ r → r < 128 → dR r ≤ τ 0 → ac r = nI (A1 τ β r) ∧ A1 τ β r ≤ 6) {a : Nat} (ha : a ≤ 6) : ∀ (i n r v : Nat), r + i = 2 * 2 ^ τ 0 → 1 ≤ r → DQ v (Q8 τ β a r) → Sx (lpX8_days_29 (nI a) f ac (n + i + 1) (nI v) (nI r)) (fun z => ∃ v, z = nI v ∧ DQ v (Q8 τ β a (2 * 2 ^ τ 0))) := by
  have hb2 := p2b (τ 0) (by omega)
  intro i
  induction i with
  | zero =>
    intro n r v hi h1 hg
    rw [lpX8_days_29.eq_2]
    refine Sx.e1 (lr8' hf hT) (Sx.p (nI_lt (by omega) (by omega)) (Sx.mk ⟨v, rfl, ?_⟩))
    rw [show r = 2 * 2 ^ τ 0 by omega] at hg
    exact hg
  | succ i ih =>
    intro n r v hi h1 hg
    have hr : r < 128 := by omega
    obtain ⟨⟨b1, b2, b3⟩, b4, b5, b6⟩ := row_b1 r hr h1
    have hdT : dR r ≤ τ 0 := by
      by_cases g : dR r ≤ τ 0
      · exact g
      · have := Nat.pow_le_pow_right (show 0 < 2 by omega) (show τ 0 + 1 ≤ dR r by omega)
        rw [Nat.pow_succ] at this
        omega
    obtain ⟨a1, a2⟩ := hA r h1 hr hdT
    have hAr : ∀ j, j ≤ dR r → ac (pfx r j) = nI (A1 τ β (pfx r j)) ∧ A1 τ β (pfx r j) ≤ 6 := by
      intro j hj
      obtain ⟨q1, q2, q3⟩ := pf1 r hr h1 j (by omega) hj
      exact hA _ q2 q3 (by omega)
    rw [lpX8_days_29.eq_2]
    refine Sx.e1 (lr8' hf hT) (Sx.n (nI_nlt (by omega) (by omega)) (Sx.e1 (acA8 h1 hr) ?_))
    rw [a1]
    refine Sx.b1 (P := fun z => ∃ v, z = nI v ∧ DQ v (Q8 τ β a (r + 1))) ?_ ?_
    · have hskip : ¬ (A1 τ β r = a ∧ CT (A1 τ β) r) → DQ v (Q8 τ β a (r + 1)) := by
        intro hn
        refine hg.same (fun d _ => ?_)
        constructor
        · rintro ⟨r', q1, q2, q3⟩; exact ⟨r', q1, by omega, q3⟩
        · rintro ⟨r', q1, q2, q3, q4, q5⟩
          by_cases e : r' = r
          · subst e; exact absurd ⟨q4, q5⟩ hn
          · exact ⟨r', q1, by omega, q3, q4, q5⟩
      by_cases g1 : A1 τ β r = a
      · refine Sx.p (by rw [g1]) (Sx.e1 (ct8 h1 hr hAr) ?_)
        by_cases g2 : CT (A1 τ β) r
        · rw [if_pos g2, if_neg one0]
          refine Sx.e1 (day8 r hr h1) ?_
          rw [nm_mk, (orb v hg.1 (dR r) (by omega)).1]
          refine Sx.mk ⟨_, rfl, hg.add (by omega) (fun d _ => ?_)⟩
          constructor
          · rintro ⟨r', q1, q2, q3, q4, q5⟩
            by_cases e : r' = r
            · subst e; exact Or.inr q3.symm
            · exact Or.inl ⟨r', q1, by omega, q3, q4, q5⟩
          · rintro (⟨r', q1, q2, q3⟩ | rfl)
            · exact ⟨r', q1, by omega, q3⟩
            · exact ⟨r, h1, by omega, rfl, g1, g2⟩
        · rw [if_neg g2, if_pos rfl]
          exact Sx.mk ⟨v, rfl, hskip (fun z => g2 z.2)⟩
      · refine Sx.n (fun z => g1 ((nI_eq (by omega) (by omega)).mp z)) (Sx.mk ⟨v, rfl, hskip (fun z => g1 z.1)⟩)
    · rintro z ⟨v', rfl, hv'⟩
      rw [nm_mk, nI_1, show n + (i + 1) = n + i + 1 by omega]
      exact ih n (r + 1) v' (by omega) (by omega) hv'
def Q9 (π : Nat → Nat → Nat) (T p q R : Nat) (β : Nat → Nat) (a x d : Nat) : Prop := ∃ x', x' < x ∧ x' / 112 = d ∧ d ≤ T ∧ wy π T p q R β d (x' % 112) ≠ 0 ∧ AC π T p q R β d (x' % 112) = a
theorem da31 {π : Nat → Nat → Nat} {T p q R : Nat} {β : Nat → Nat} {way : Nat → Int64} {ac : Nat → Int32} (hN : NK T p q R) (hW : WA π T p q R β way ac) {a : Nat} (ha : a ≤ 6) : ∀ (i n x v : Nat), x + i = 784 → DQ v (Q9 π T p q R β a x) → Sx (lpX9_days_31 (nI a) way ac (n + i + 1) (nI v) (nI x)) (fun z => ∃ v, z = nI v ∧ DQ v (Q9 π T p q R β a 784)) := by
  intro i
  induction i with
  | zero =>
    intro n x v hi hg
    rw [lpX9_days_31.eq_2]
    refine Sx.p (show (784 : Int32) ≤ nI x from nI_le (a := 784) (by omega) (by omega)) (Sx.mk ⟨v, rfl, ?_⟩)
    rw [show x = 784 by omega] at hg
    exact hg
  | succ i ih =>
    intro n x v hi hg
    obtain ⟨z1, z2, z3⟩ := wz hN hW.1 (show x < 784 by omega)
    rw [lpX9_days_31.eq_2]
    refine Sx.n (show ¬ (784 : Int32) ≤ nI x from nI_ge (b := 784) (by omega) (by omega)) ?_
    rw [og32 (by omega) (by omega), nI_clamp (by omega)]
    refine Sx.b1 (P := fun z => ∃ v, z = nI v ∧ DQ v (Q9 π T p q R β a (x + 1))) ?_ ?_
    · have hskip : ¬ (x / 112 ≤ T ∧ wy π T p q R β (x / 112) (x % 112) ≠ 0 ∧ AC π T p q R β (x / 112) (x % 112) = a) → DQ v (Q9 π T p q R β a (x + 1)) := by
        intro hn
        refine hg.same (fun d _ => ?_)
        constructor
        · rintro ⟨x', q1, q2⟩; exact ⟨x', by omega, q2⟩
        · rintro ⟨x', q1, q2, q3, q4, q5⟩
          by_cases e : x' = x
          · subst e; subst q2; exact absurd ⟨q3, q4, q5⟩ hn
          · exact ⟨x', by omega, q2, q3, q4, q5⟩
      by_cases g : x / 112 ≤ T ∧ wy π T p q R β (x / 112) (x % 112) ≠ 0
      · obtain ⟨a1, a2⟩ := hW.2 (x / 112) (x % 112) g.1 g.2
        rw [show 112 * (x / 112) + x % 112 = x by omega] at a1
        refine Sx.n (fun z => z1.mp z g) ?_
        rw [og32 (by omega) (by omega), a1]
        by_cases g2 : AC π T p q R β (x / 112) (x % 112) = a
        · refine Sx.p (by rw [g2]) (Sx.e1 (day9 (by omega)) ?_)
          rw [nm_mk, (orb v hg.1 (x / 112) (by omega)).1]
          refine Sx.mk ⟨_, rfl, hg.add (by omega) (fun d _ => ?_)⟩
          constructor
          · rintro ⟨x', q1, q2, q3⟩
            by_cases e : x' = x
            · subst e; exact Or.inr q2.symm
            · exact Or.inl ⟨x', by omega, q2, q3⟩
          · rintro (⟨x', q1, q2⟩ | rfl)
            · exact ⟨x', by omega, q2⟩
            · exact ⟨x, by omega, rfl, g.1, g.2, g2⟩
        · exact Sx.n (fun z => g2 ((nI_eq (by omega) (by omega)).mp z)) (Sx.mk ⟨v, rfl, hskip (fun z => g2 z.2.2)⟩)
      · exact Sx.p (z1.mpr g) (Sx.mk ⟨v, rfl, hskip (fun z => g ⟨z.1, z.2.1⟩)⟩)
    · rintro z ⟨v', rfl, hv'⟩
      rw [nm_mk, nI_1, show n + (i + 1) = n + i + 1 by omega]
      exact ih n (x + 1) v' (by omega) hv'
theorem Q89 {τ β : Nat → Nat} (hT : TK τ) (a : Nat) : ∀ d, d < 7 → (Q8 τ β a (2 * 2 ^ τ 0) d ↔ Q9 (prF τ (τ 1)) (τ 0) (τ 6) (τ 7) (τ 8) β a 784 d) := by
  have hb2 := p2b (τ 0) (by omega)
  intro d hd
  constructor
  · rintro ⟨r, q1, q2, q3, q4, q5⟩
    have hr : r < 128 := by omega
    obtain ⟨⟨b1, b2, b3⟩, b4, b5, b6⟩ := row_b1 r hr q1
    have hdT : d ≤ τ 0 := by
      by_cases g : dR r ≤ τ 0
      · omega
      · have := Nat.pow_le_pow_right (show 0 < 2 by omega) (show τ 0 + 1 ≤ dR r by omega)
        rw [Nat.pow_succ] at this
        omega
    obtain ⟨e1, e2, e3, e4⟩ := xR_p (prF τ (τ 1)) β q1 hr
    have hac := AC_r (prF τ (τ 1)) (τ 0) (τ 6) (τ 7) (τ 8) β q1 hr
    rw [q3] at b5 b6 hac
    refine ⟨112 * d + xR (prF τ (τ 1)) β r, by omega, by omega, hdT, ?_, ?_⟩
    · rw [show (112 * d + xR (prF τ (τ 1)) β r) % 112 = xR (prF τ (τ 1)) β r by omega]
      refine (wy_in (prF τ (τ 1)) β (by omega) (by omega) e4).mpr ⟨r - 2 ^ d, by omega, ?_, ?_⟩
      · rw [show 2 ^ d + (r - 2 ^ d) = r by omega]; exact q5
      · rw [show 2 ^ d + (r - 2 ^ d) = r by omega]
    · rw [show (112 * d + xR (prF τ (τ 1)) β r) % 112 = xR (prF τ (τ 1)) β r by omega, hac]
      exact q4
  · rintro ⟨x, q1, q2, q3, q4, q5⟩
    have hbd := p2b d hd
    obtain ⟨i, h1, h2, h3⟩ := (wy_in (prF τ (τ 1)) β (by omega) (by omega) (show x % 112 < 112 by omega)).mp q4
    have hdr := dR_eq (2 ^ d + i) (by omega) d hd (by omega) (by omega)
    have hac := AC_r (prF τ (τ 1)) (τ 0) (τ 6) (τ 7) (τ 8) β (show 1 ≤ 2 ^ d + i by omega) (show 2 ^ d + i < 128 by omega)
    rw [hdr, h3, q5] at hac
    have hpw := Nat.pow_le_pow_right (show 0 < 2 by omega) q3
    exact ⟨2 ^ d + i, by omega, by omega, hdr, hac.symm, h2⟩
theorem q_days {tr b0 b1 b2 tree bs : Nat → Int32} {τ : Nat → Nat} {B : Nat → Nat → Nat} (hf : TC tr τ) (hf9 : TR tree 0 τ) (hT : TK τ) (hB : CB3 b0 b1 b2 B) (hb9 : ∀ k, k < 3 → RB bs k (B k)) (p1 p2 : Int32) (st sb : Nat → Int32) (pu pe tu ca ho va : Nat → Int64) (ma ac : Nat → Int32) (x0 x1 x2 x3 : Int32) (pe9 : Nat → Int64) (a9 b9 : Int64) (wo9 ho9 wa9 : Nat → Int64) (ac9 : Nat → Int32) : Sx2 (fX8_days p1 p2 tr b0 b1 b2 st sb pu pe tu ca ho va ma ac) (fX9_days p1 p2 tree bs x0 x1 x2 x3 pe9 a9 b9 wo9 ho9 wa9 ac9) (fun _ _ => True) := by
  by_cases h1 : inr p1 0 2
  rotate_left
  · exact Sx2.mk (by unfold fX8_days; rw [isb8n h1, bd1_mk, if_pos rfl]) (by unfold fX9_days; rw [isb9n h1, bd1_mk, if_pos rfl]) (trivial)
  by_cases h2 : inr p2 0 6
  rotate_left
  · exact Sx2.mk (by unfold fX8_days; rw [isb8y h1, bd1_mk, if_neg one0, wi0 h2, bd1_mk, if_pos rfl]) (by unfold fX9_days; rw [isb9y h1, bd1_mk, if_neg one0, in0 h2, bd1_mk, if_pos rfl]) (trivial)
  obtain ⟨k, rfl, _, hk, _⟩ := inr_n h1 (by decide)
  have hk3 : k < 3 := by omega
  obtain ⟨a, rfl, _, a2, _⟩ := inr_n h2 (by decide)
  have hb2 := p2b (τ 0) (by omega)
  refine Sx2.rel (P := fun z => ∃ v, z = nI v ∧ DQ v (Q9 (prF τ (τ 1)) (τ 0) (τ 6) (τ 7) (τ 8) (B k) a 784)) ?_ ?_ ?_
  · rintro x y ⟨v, rfl, hv⟩ ⟨w, rfl, hw⟩
    rw [hv.u hw (fun _ _ => Iff.rfl)]
  · unfold fX8_days
    rw [isb8y h1, bd1_mk, if_neg one0, wi1 h2, bd1_mk, if_neg one0]
    refine Sx.b10 (wo8 hk3 hf hT hB st sb pu pe tu ca ho va ma ac) ?_
    rintro c0 c1 c2 c3 c4 c5 c6 c7 c8 c9 ⟨hc, hcb', hsb⟩
    dsimp only at hc hcb' hsb
    obtain ⟨n, hn⟩ := fuN (2 * 2 ^ τ 0) (by omega)
    rw [hn, show n + 2 * 2 ^ τ 0 = n + (2 * 2 ^ τ 0 - 1) + 1 by omega, i_0, i_1]
    refine Sx.b1 (da29 hc hT (hsb.a6 hT) (show a ≤ 6 by omega) (2 * 2 ^ τ 0 - 1) n 1 0 (by omega) (by omega) ⟨by omega, fun d _ => ⟨fun q => by rw [Nat.zero_testBit] at q; exact absurd q (by decide), fun ⟨r', q1, q2, _⟩ => absurd q2 (by omega)⟩⟩) ?_
    rintro z ⟨v, rfl, hv⟩
    exact Sx.mk ⟨v, rfl, hv.same (Q89 hT a)⟩
  · unfold fX9_days
    rw [isb9y h1, bd1_mk, if_neg one0, in1 h2, bd1_mk, if_neg one0]
    refine Sx.b11 (la9 hf9 hT hk3 (hb9 k hk3) (hB k hk3).2 x0 x1 x2 x3 pe9 a9 b9 wo9 ho9 wa9 ac9) ?_
    rintro d0 d1 d2 d3 pe' d5 d6 d7 d8 d9 d10 ⟨rfl, rfl, rfl, rfl, hP, hG, hWA⟩
    dsimp only at hP hG hWA ⊢
    obtain ⟨n, hn⟩ := fuN 785 (by omega)
    rw [hn, i_0]
    refine Sx.b1 (da31 hT.n hWA (show a ≤ 6 by omega) 784 n 0 0 (by omega) ⟨by omega, fun d _ => ⟨fun q => by rw [Nat.zero_testBit] at q; exact absurd q (by decide), fun ⟨x', q1, _⟩ => absurd q1 (by omega)⟩⟩) ?_
    intro z hz
    exact Sx.mk ⟨hz, trivial⟩
end
