/-! pure: ends, life: both sides (own rows) -/
theorem ct2 {A : Nat → Nat} {ac : Nat → Int32} {r : Nat} (h1 : 1 ≤ r) (h : r < 128) (hA : ∀ i, i ≤ dR r → ac (pfx r i) = nI (A (pfx r i)) ∧ A (pfx r i) ≤ 6) : ∀ (i n x : Nat), x + i = dR r → (∀ y, y < x → A (pfx r y) = 0) → lpX5_isComeTo_2 (nI r) ac (n + i + 1) (nI x) = some (if CT A r then 1 else 0) := by
  have hd6 := (row_b1 r h h1).1.1
  intro i
  induction i with
  | zero =>
    intro n x hi hg
    rw [lpX5_isComeTo_2.eq_2, day8 r h h1, bd1_mk, if_pos (nI_le (by omega) (by omega)), if_pos (show CT A r from fun j hj => hg j (by omega))]
  | succ i ih =>
    intro n x hi hg
    obtain ⟨g3, g4, g5⟩ := pf1 r h h1 x (by omega) (by omega)
    rw [lpX5_isComeTo_2.eq_2, day8 r h h1, bd1_mk, if_neg (nI_ge (by omega) (by omega)), rod8 r h h1 x (by omega) (by omega), bd1_mk, acA8 g4 g5, bd1_mk, (hA x (by omega)).1]
    by_cases g : A (pfx r x) = 0
    · rw [if_pos (by rw [g]; rfl), nm_mk, nI_1, show n + (i + 1) = n + i + 1 by omega]
      refine ih n (x + 1) (by omega) (fun y hy => ?_)
      by_cases e : y = x
      · rw [e]; exact g
      · exact hg y (by omega)
    · rw [if_neg (nI_ne0 (by omega) (by have := (hA x (by omega)).2; omega)), if_neg (fun z : CT A r => g (z x (by omega)))]
theorem ct8 {A : Nat → Nat} {ac : Nat → Int32} {r : Nat} (h1 : 1 ≤ r) (h : r < 128) (hA : ∀ i, i ≤ dR r → ac (pfx r i) = nI (A (pfx r i)) ∧ A (pfx r i) ≤ 6) : fX5_isComeTo (nI r) ac = some (if CT A r then 1 else 0) := by
  have hd6 := (row_b1 r h h1).1.1
  unfold fX5_isComeTo
  obtain ⟨n, hn⟩ := fuN (dR r + 1) (by omega)
  rw [hn, i_0, show n + (dR r + 1) = n + dR r + 1 by omega, ct2 h1 h hA (dR r) n 0 (by omega) (fun y hy => absurd hy (by omega)), bd1_mk]
  by_cases g : CT A r
  · rw [if_pos g, if_pos g]; rfl
  · rw [if_neg g, if_neg g]; rfl
theorem co8' {f : Nat → Int32} {τ : Nat → Nat} (hf : TC f τ) (hT : TK τ) {d u : Nat} (hu : u ≤ d) (hd : d ≤ τ 0) : fX7_chanceOf (nI d) (nI u) f = some (lN (τ 6 ^ u * (τ 7 - τ 6) ^ (d - u) * τ 7 ^ (τ 0 - d))) := by
  unfold fX7_chanceOf
  rw [cl_6, cl_7, hf 6 (by omega), hf 7 (by omega), nm_mk, nm_mk, nI_l (n := τ 6) (by omega), pw8 _ (by omega), bd1_mk, pk_sub (by omega), nI_l (n := τ 7 - τ 6) (by omega), pk_sub hu, pw8 _ (by omega), bd1_mk, ld8 hf hT, bd1_mk, nI_l (n := τ 7) (by omega), pk_sub hd, pw8 _ (by omega), bd1_mk, lN_mul, lN_mul]
theorem cwh8 {f : Nat → Int32} {τ : Nat → Nat} (hf : TC f τ) (hT : TK τ) : fX7_chanceWhole f = some (lN (τ 7 ^ τ 0)) := by
  unfold fX7_chanceWhole
  rw [ld8 hf hT, bd1_mk, cl_7, hf 7 (by omega), nI_l (by omega), pw8 _ (by omega), bd1_mk]
/-- a row's part of a sum: g by its day and its place -/
def rwT (p q : Nat) (A : Nat → Nat) (G : Nat → Nat → Nat) (X : Nat → Nat) (r : Nat) : Nat := if r = 0 then 0 else cw p q A r * G (dR r) (X r)
theorem rw_sum {π : Nat → Nat → Nat} {T p q R : Nat} {β : Nat → Nat} (hT : T ≤ 6) (G : Nat → Nat → Nat) : sm (rwT p q (aR π T p q R β (bV π β) (bA π β)) G (xR π β)) (2 * 2 ^ T) = sm (fun t => sm (fun x => wy π T p q R β t x * G t x) 112) (T + 1) := by
  rw [sm_rows _ rfl]
  refine sm_congr (T + 1) (fun t ht => ?_)
  rw [wyE π T p q R β t (by omega)]
  refine sm_congr (2 ^ t) (fun i hi => ?_)
  have hb2 := p2b t (by omega)
  have hd := dR_eq (2 ^ t + i) (by omega) t (by omega) (by omega) (by omega)
  unfold rwT
  rw [if_neg (by omega), hd]
theorem wy_sum {π : Nat → Nat → Nat} {T p q R : Nat} {β : Nat → Nat} {way : Nat → Int64} (hT : T ≤ 6) (hW : WW π T p q R β way) (G : Nat → Nat → Nat) (h : Nat → Nat) (hh : ∀ s x, s < 7 → x < 112 → h (112 * s + x) = if s ≤ T then wy π T p q R β s x * G s x else 0) : sm h 784 = sm (fun t => sm (fun x => wy π T p q R β t x * G t x) 112) (T + 1) := by
  rw [show 784 = 112 * 7 by rfl, sm_blk]
  have e : sm (fun t => sm (fun i => h (112 * t + i)) 112) 7 = sm (fun t => if t ≤ T then sm (fun x => wy π T p q R β t x * G t x) 112 else 0) 7 := by
    refine sm_congr 7 (fun t ht => ?_)
    by_cases g : t ≤ T
    · rw [if_pos g]
      refine sm_congr 112 (fun x hx => ?_)
      rw [hh t x ht hx, if_pos g]
    · rw [if_neg g, ← sm_zero 112]
      refine sm_congr 112 (fun x hx => ?_)
      rw [hh t x ht hx, if_neg g]
  rw [e, sm_tail (m := T + 1) (n := 7) (by omega) (fun i h1 h2 => if_neg (by omega))]
  exact sm_congr (T + 1) (fun t ht => if_pos (by omega))
theorem G_b {π : Nat → Nat → Nat} {T p q R : Nat} {β : Nat → Nat} (hN : NK T p q R) {G : Nat → Nat → Nat} (hG : ∀ t x, t ≤ T → G t x ≤ 6 * q ^ (T - t)) : sm (fun t => sm (fun x => wy π T p q R β t x * G t x) 112) (T + 1) ≤ 7 * (6 * 64000000) := by
  have h1 : ∀ t, t < T + 1 → sm (fun x => wy π T p q R β t x * G t x) 112 ≤ 6 * 64000000 := by
    intro t ht
    refine Nat.le_trans (sm_le (g := fun x => wy π T p q R β t x * (6 * q ^ (T - t))) 112 (fun x _ => Nat.mul_le_mul (Nat.le_refl _) (hG t x (by omega)))) ?_
    rw [sm_mul]
    refine Nat.le_trans (Nat.mul_le_mul (wy_tot (by omega) t (by omega)) (Nat.le_refl _)) ?_
    rw [Nat.mul_left_comm, ← Nat.pow_add, Nat.add_sub_cancel' (by omega)]
    refine Nat.mul_le_mul (Nat.le_refl 6) ?_
    have h4 := Nat.pow_le_pow_left (show q ≤ 20 by omega) T
    have h5 : 20 ^ T ≤ 20 ^ 6 := Nat.pow_le_pow_right (by omega) hN.1.2
    have h6 : (20 : Nat) ^ 6 = 64000000 := rfl
    exact Nat.le_trans h4 (by rw [← h6]; exact h5)
  refine Nat.le_trans (sm_le (g := fun _ => 6 * 64000000) (T + 1) h1) ?_
  have h7 : ∀ n, sm (fun _ => 6 * 64000000) n = n * (6 * 64000000) := by
    intro n
    induction n with
    | zero => rfl
    | succ n ih => show sm (fun _ => 6 * 64000000) n + 6 * 64000000 = _; rw [ih]; omega
  rw [h7]
  exact Nat.mul_le_mul (by omega) (Nat.le_refl _)
def Ge (π : Nat → Nat → Nat) (T p q R : Nat) (β : Nat → Nat) (a t x : Nat) : Nat := if AC π T p q R β t x = a then q ^ (T - t) else 0
def Gl (π : Nat → Nat → Nat) (T p q R : Nat) (β : Nat → Nat) (t x : Nat) : Nat := if AC π T p q R β t x = 0 then 0 else q ^ (T - t) * t
/-- the class's sums over rows -/
theorem ce5 {f : Nat → Int32} {τ β : Nat → Nat} (hf : TC f τ) (hT : TK τ) {ac : Nat → Int32} (hA : ∀ r, 1 ≤ r → r < 128 → dR r ≤ τ 0 → ac r = nI (A1 τ β r) ∧ A1 τ β r ≤ 6) {a : Nat} (ha : a ≤ 6) : ∀ (i n r s : Nat), r + i = 2 * 2 ^ τ 0 → 1 ≤ r → lpX5_chanceOfEnd_5 (nI a) f ac (n + i + 1) (lN s) (nI r) = some (lN (s + sm (fun x => rwT (τ 6) (τ 7) (A1 τ β) (Ge (prF τ (τ 1)) (τ 0) (τ 6) (τ 7) (τ 8) β a) (xR (prF τ (τ 1)) β) (r + x)) i)) := by
  have hb2 := p2b (τ 0) (by omega)
  intro i
  induction i with
  | zero =>
    intro n r s hi h1
    rw [lpX5_chanceOfEnd_5.eq_2, lr8' hf hT, bd1_mk, if_pos (nI_lt (by omega) (by omega))]; rfl
  | succ i ih =>
    intro n r s hi h1
    have hr : r < 128 := by omega
    obtain ⟨⟨b1, b2, b3⟩, b4, b5, b6⟩ := row_b1 r hr h1
    have hdT : dR r ≤ τ 0 := by
      by_cases g : dR r ≤ τ 0
      · exact g
      · have := Nat.pow_le_pow_right (show 0 < 2 by omega) (show τ 0 + 1 ≤ dR r by omega)
        rw [Nat.pow_succ] at this
        omega
    obtain ⟨a1, a2⟩ := hA r h1 hr hdT
    have hAr : ∀ j, j ≤ dR r → ac (pfx r j) = nI (A1 τ β (pfx r j)) ∧ A1 τ β (pfx r j) ≤ 6 := by
      intro j hj
      obtain ⟨q1, q2, q3⟩ := pf1 r hr h1 j (by omega) hj
      exact hA _ q2 q3 (by omega)
    have e : sm (fun x => rwT (τ 6) (τ 7) (A1 τ β) (Ge (prF τ (τ 1)) (τ 0) (τ 6) (τ 7) (τ 8) β a) (xR (prF τ (τ 1)) β) (r + x)) (i + 1) = rwT (τ 6) (τ 7) (A1 τ β) (Ge (prF τ (τ 1)) (τ 0) (τ 6) (τ 7) (τ 8) β a) (xR (prF τ (τ 1)) β) r + sm (fun x => rwT (τ 6) (τ 7) (A1 τ β) (Ge (prF τ (τ 1)) (τ 0) (τ 6) (τ 7) (τ 8) β a) (xR (prF τ (τ 1)) β) (r + 1 + x)) i := by
      rw [Nat.add_comm i 1, sm_app]
      have e1 : sm (fun x => rwT (τ 6) (τ 7) (A1 τ β) (Ge (prF τ (τ 1)) (τ 0) (τ 6) (τ 7) (τ 8) β a) (xR (prF τ (τ 1)) β) (r + x)) 1 = rwT (τ 6) (τ 7) (A1 τ β) (Ge (prF τ (τ 1)) (τ 0) (τ 6) (τ 7) (τ 8) β a) (xR (prF τ (τ 1)) β) r := Nat.zero_add _
      rw [e1]
      congr 1
      exact sm_congr i (fun x _ => by rw [Nat.add_assoc])
    have hrw : rwT (τ 6) (τ 7) (A1 τ β) (Ge (prF τ (τ 1)) (τ 0) (τ 6) (τ 7) (τ 8) β a) (xR (prF τ (τ 1)) β) r = if A1 τ β r = a ∧ CT (A1 τ β) r then τ 6 ^ uR r * (τ 7 - τ 6) ^ (dR r - uR r) * τ 7 ^ (τ 0 - dR r) else 0 := by
      unfold rwT Ge cw
      rw [if_neg (by omega), AC_r _ _ _ _ _ _ h1 hr]
      by_cases g1 : A1 τ β r = a
      · rw [if_pos (show aR (prF τ (τ 1)) (τ 0) (τ 6) (τ 7) (τ 8) β (bV (prF τ (τ 1)) β) (bA (prF τ (τ 1)) β) r = a from g1)]
        by_cases g2 : CT (A1 τ β) r
        · rw [if_pos g2, if_pos ⟨g1, g2⟩]
        · rw [if_neg g2, if_neg (fun z => g2 z.2), Nat.zero_mul]
      · rw [if_neg (show ¬ aR (prF τ (τ 1)) (τ 0) (τ 6) (τ 7) (τ 8) β (bV (prF τ (τ 1)) β) (bA (prF τ (τ 1)) β) r = a from g1), if_neg (show ¬ (A1 τ β r = a ∧ CT (A1 τ β) r) from fun z => g1 z.1), Nat.mul_zero]
    rw [lpX5_chanceOfEnd_5.eq_2, lr8' hf hT, bd1_mk, if_neg (nI_nlt (by omega) (by omega)), acA8 h1 hr, bd1_mk, a1, e, hrw]
    by_cases g1 : A1 τ β r = a
    · rw [if_pos (by rw [g1]), ct8 h1 hr hAr, bd1_mk]
      by_cases g2 : CT (A1 τ β) r
      · rw [if_pos g2, if_neg one0, day8 r hr h1, bd1_mk, ups8 r hr h1, bd1_mk, co8' hf hT b2 hdT, bd1_mk, nm_mk, bd1_mk, nm_mk, lN_add, nI_1, if_pos ⟨g1, g2⟩, show n + (i + 1) = n + i + 1 by omega, ih n (r + 1) _ (by omega) (by omega), Nat.add_assoc]
      · rw [if_neg g2, if_pos rfl, bd1_mk, nm_mk, nI_1, if_neg (fun z => g2 z.2), Nat.zero_add, show n + (i + 1) = n + i + 1 by omega, ih n (r + 1) _ (by omega) (by omega)]
    · rw [if_neg (fun z => g1 ((nI_eq (by omega) (by omega)).mp z)), bd1_mk, nm_mk, nI_1, if_neg (fun z => g1 z.1), Nat.zero_add, show n + (i + 1) = n + i + 1 by omega, ih n (r + 1) _ (by omega) (by omega)]
theorem cl4 {f : Nat → Int32} {τ β : Nat → Nat} (hf : TC f τ) (hT : TK τ) {ac : Nat → Int32} (hA : ∀ r, 1 ≤ r → r < 128 → dR r ≤ τ 0 → ac r = nI (A1 τ β r) ∧ A1 τ β r ≤ 6) : ∀ (i n r s : Nat), r + i = 2 * 2 ^ τ 0 → 1 ≤ r → lpX5_chancesTimesDays_4 f ac (n + i + 1) (lN s) (nI r) = some (lN (s + sm (fun x => rwT (τ 6) (τ 7) (A1 τ β) (Gl (prF τ (τ 1)) (τ 0) (τ 6) (τ 7) (τ 8) β) (xR (prF τ (τ 1)) β) (r + x)) i)) := by
  have hb2 := p2b (τ 0) (by omega)
  intro i
  induction i with
  | zero =>
    intro n r s hi h1
    rw [lpX5_chancesTimesDays_4.eq_2, lr8' hf hT, bd1_mk, if_pos (nI_lt (by omega) (by omega))]; rfl
  | succ i ih =>
    intro n r s hi h1
    have hr : r < 128 := by omega
    obtain ⟨⟨b1, b2, b3⟩, b4, b5, b6⟩ := row_b1 r hr h1
    have hdT : dR r ≤ τ 0 := by
      by_cases g : dR r ≤ τ 0
      · exact g
      · have := Nat.pow_le_pow_right (show 0 < 2 by omega) (show τ 0 + 1 ≤ dR r by omega)
        rw [Nat.pow_succ] at this
        omega
    obtain ⟨a1, a2⟩ := hA r h1 hr hdT
    have hAr : ∀ j, j ≤ dR r → ac (pfx r j) = nI (A1 τ β (pfx r j)) ∧ A1 τ β (pfx r j) ≤ 6 := by
      intro j hj
      obtain ⟨q1, q2, q3⟩ := pf1 r hr h1 j (by omega) hj
      exact hA _ q2 q3 (by omega)
    have e : sm (fun x => rwT (τ 6) (τ 7) (A1 τ β) (Gl (prF τ (τ 1)) (τ 0) (τ 6) (τ 7) (τ 8) β) (xR (prF τ (τ 1)) β) (r + x)) (i + 1) = rwT (τ 6) (τ 7) (A1 τ β) (Gl (prF τ (τ 1)) (τ 0) (τ 6) (τ 7) (τ 8) β) (xR (prF τ (τ 1)) β) r + sm (fun x => rwT (τ 6) (τ 7) (A1 τ β) (Gl (prF τ (τ 1)) (τ 0) (τ 6) (τ 7) (τ 8) β) (xR (prF τ (τ 1)) β) (r + 1 + x)) i := by
      rw [Nat.add_comm i 1, sm_app]
      have e1 : sm (fun x => rwT (τ 6) (τ 7) (A1 τ β) (Gl (prF τ (τ 1)) (τ 0) (τ 6) (τ 7) (τ 8) β) (xR (prF τ (τ 1)) β) (r + x)) 1 = rwT (τ 6) (τ 7) (A1 τ β) (Gl (prF τ (τ 1)) (τ 0) (τ 6) (τ 7) (τ 8) β) (xR (prF τ (τ 1)) β) r := Nat.zero_add _
      rw [e1]
      congr 1
      exact sm_congr i (fun x _ => by rw [Nat.add_assoc])
    have hrw : rwT (τ 6) (τ 7) (A1 τ β) (Gl (prF τ (τ 1)) (τ 0) (τ 6) (τ 7) (τ 8) β) (xR (prF τ (τ 1)) β) r = if A1 τ β r ≠ 0 ∧ CT (A1 τ β) r then dR r * (τ 6 ^ uR r * (τ 7 - τ 6) ^ (dR r - uR r) * τ 7 ^ (τ 0 - dR r)) else 0 := by
      unfold rwT Gl cw
      rw [if_neg (by omega), AC_r _ _ _ _ _ _ h1 hr]
      by_cases g1 : A1 τ β r = 0
      · rw [if_pos (show aR (prF τ (τ 1)) (τ 0) (τ 6) (τ 7) (τ 8) β (bV (prF τ (τ 1)) β) (bA (prF τ (τ 1)) β) r = 0 from g1), if_neg (show ¬ (A1 τ β r ≠ 0 ∧ CT (A1 τ β) r) from fun z => z.1 g1), Nat.mul_zero]
      · rw [if_neg (show ¬ aR (prF τ (τ 1)) (τ 0) (τ 6) (τ 7) (τ 8) β (bV (prF τ (τ 1)) β) (bA (prF τ (τ 1)) β) r = 0 from g1)]
        by_cases g2 : CT (A1 τ β) r
        · rw [if_pos g2, if_pos ⟨g1, g2⟩, ← Nat.mul_assoc, Nat.mul_comm]
        · rw [if_neg g2, if_neg (fun z => g2 z.2), Nat.zero_mul]
    rw [lpX5_chancesTimesDays_4.eq_2, lr8' hf hT, bd1_mk, if_neg (nI_nlt (by omega) (by omega)), acA8 h1 hr, bd1_mk, a1, e, hrw]
    by_cases g1 : A1 τ β r = 0
    · rw [if_pos (by rw [g1]; rfl), bd1_mk, nm_mk, nI_1, if_neg (fun z => z.1 g1), Nat.zero_add, show n + (i + 1) = n + i + 1 by omega, ih n (r + 1) _ (by omega) (by omega)]
    · rw [if_neg (nI_ne0 (by omega) (by omega)), ct8 h1 hr hAr, bd1_mk]
      by_cases g2 : CT (A1 τ β) r
      · rw [if_pos g2, if_neg one0, day8 r hr h1, bd1_mk, bd1_mk, ups8 r hr h1, bd1_mk, co8' hf hT b2 hdT, bd1_mk, nm_mk, bd1_mk, nm_mk, nI_l (n := dR r) (by omega), lN_mul, lN_add, nI_1, if_pos ⟨g1, g2⟩, show n + (i + 1) = n + i + 1 by omega, ih n (r + 1) _ (by omega) (by omega), Nat.add_assoc]
      · rw [if_neg g2, if_pos rfl, bd1_mk, nm_mk, nI_1, if_neg (fun z => g2 z.2), Nat.zero_add, show n + (i + 1) = n + i + 1 by omega, ih n (r + 1) _ (by omega) (by omega)]
