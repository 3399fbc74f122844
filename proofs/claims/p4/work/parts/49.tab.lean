/-! pure: tables (own rows) -/
def fd (P : Nat → Nat) : Nat → Nat → Nat → Nat × Nat
  | 0, x, l => (x, l)
  | n + 1, x, l => if P x = 0 then fd P n (x + 1) l else if l = 0 then (x, 0) else fd P n (x + 1) (l - 1)
theorem fd_p (P : Nat → Nat) : ∀ n x l, x ≤ (fd P n x l).1 ∧ (fd P n x l).1 ≤ x + n ∧ ((fd P n x l).1 < x + n → P (fd P n x l).1 ≠ 0 ∧ l = sm (fun y => ind (P (x + y))) ((fd P n x l).1 - x) ∧ (fd P n x l).2 = 0) ∧ ((fd P n x l).1 < x + n ↔ l < sm (fun y => ind (P (x + y))) n) ∧ (fd P n x l).2 ≤ l := by
  intro n
  induction n with
  | zero =>
    intro x l
    refine ⟨Nat.le_refl _, Nat.le_refl _, fun h => absurd h (Nat.lt_irrefl _), ⟨fun h => absurd h (Nat.lt_irrefl _), fun h => absurd h (Nat.not_lt_zero l)⟩, Nat.le_refl _⟩
  | succ n ih =>
    intro x l
    have hs : ∀ m, sm (fun y => ind (P (x + y))) (m + 1) = ind (P x) + sm (fun y => ind (P (x + 1 + y))) m := by
      intro m
      exact sm_1 (fun y => ind (P y)) x m
    unfold fd
    by_cases g : P x = 0
    · rw [if_pos g]
      obtain ⟨a, b, c, d, e⟩ := ih (x + 1) l
      have h0 : ind (P x) = 0 := by unfold ind; rw [if_pos g]
      refine ⟨by omega, by omega, fun h => ?_, ?_, e⟩
      · obtain ⟨c1, c2, c3⟩ := c (by omega)
        refine ⟨c1, ?_, c3⟩
        rw [show (fd P n (x + 1) l).1 - x = ((fd P n (x + 1) l).1 - (x + 1)) + 1 by omega, hs, h0, Nat.zero_add]
        exact c2
      · rw [hs, h0, Nat.zero_add, ← d]
        omega
    · rw [if_neg g]
      have h1 : ind (P x) = 1 := by unfold ind; rw [if_neg g]
      by_cases g2 : l = 0
      · rw [if_pos g2]
        refine ⟨Nat.le_refl _, by omega, fun _ => ⟨g, ?_, rfl⟩, ?_, by omega⟩
        · show l = sm _ (x - x)
          rw [Nat.sub_self, g2]; rfl
        · rw [hs, h1]
          constructor
          · intro _; omega
          · intro _; show x < x + (n + 1); omega
      · rw [if_neg g2]
        obtain ⟨a, b, c, d, e⟩ := ih (x + 1) (l - 1)
        refine ⟨by omega, by omega, fun h => ?_, ?_, by omega⟩
        · obtain ⟨c1, c2, c3⟩ := c (by omega)
          refine ⟨c1, ?_, c3⟩
          rw [show (fd P n (x + 1) (l - 1)).1 - x = ((fd P n (x + 1) (l - 1)).1 - (x + 1)) + 1 by omega, hs, h1]
          omega
        · rw [hs, h1]
          omega
theorem fd_app (P : Nat → Nat) (b : Nat) : ∀ a x l, fd P (a + b) x l = if (fd P a x l).1 < x + a then fd P a x l else fd P b (x + a) (fd P a x l).2 := by
  intro a
  induction a with
  | zero =>
    intro x l
    rw [Nat.zero_add]
    show _ = if x < x + 0 then _ else fd P b (x + 0) l
    rw [if_neg (by omega), Nat.add_zero]
  | succ a ih =>
    intro x l
    rw [show a + 1 + b = (a + b) + 1 by omega]
    show (if P x = 0 then fd P (a + b) (x + 1) l else if l = 0 then (x, 0) else fd P (a + b) (x + 1) (l - 1)) = if (if P x = 0 then fd P a (x + 1) l else if l = 0 then (x, 0) else fd P a (x + 1) (l - 1)).1 < x + (a + 1) then (if P x = 0 then fd P a (x + 1) l else if l = 0 then (x, 0) else fd P a (x + 1) (l - 1)) else fd P b (x + (a + 1)) (if P x = 0 then fd P a (x + 1) l else if l = 0 then (x, 0) else fd P a (x + 1) (l - 1)).2
    by_cases g : P x = 0
    · rw [if_pos g, if_pos g, ih, show x + 1 + a = x + (a + 1) by omega]
    · rw [if_neg g, if_neg g]
      by_cases g2 : l = 0
      · rw [if_pos g2, if_pos g2, if_pos (show x < x + (a + 1) by omega)]
      · rw [if_neg g2, if_neg g2, ih, show x + 1 + a = x + (a + 1) by omega]
theorem fd_congr {P Q : Nat → Nat} : ∀ n x l, (∀ y, x ≤ y → y < x + n → (P y = 0 ↔ Q y = 0)) → fd P n x l = fd Q n x l := by
  intro n
  induction n with
  | zero => intro x l _; rfl
  | succ n ih =>
    intro x l h
    show (if P x = 0 then fd P n (x + 1) l else if l = 0 then (x, 0) else fd P n (x + 1) (l - 1)) = if Q x = 0 then fd Q n (x + 1) l else if l = 0 then (x, 0) else fd Q n (x + 1) (l - 1)
    have e1 := ih (x + 1) l (fun y h1 h2 => h y (by omega) (by omega))
    have e2 := ih (x + 1) (l - 1) (fun y h1 h2 => h y (by omega) (by omega))
    by_cases g : P x = 0
    · rw [if_pos g, if_pos ((h x (by omega) (by omega)).mp g), e1]
    · rw [if_neg g, if_neg (fun q => g ((h x (by omega) (by omega)).mpr q)), e2]
theorem fd_at {P : Nat → Nat} {y : Nat} (hP : P y ≠ 0) : ∀ n x, x ≤ y → y < x + n → fd P n x (sm (fun z => ind (P (x + z))) (y - x)) = (y, 0) := by
  intro n
  induction n with
  | zero => intro x h1 h2; omega
  | succ n ih =>
    intro x h1 h2
    show (if P x = 0 then fd P n (x + 1) (sm (fun z => ind (P (x + z))) (y - x)) else if sm (fun z => ind (P (x + z))) (y - x) = 0 then (x, 0) else fd P n (x + 1) (sm (fun z => ind (P (x + z))) (y - x) - 1)) = _
    by_cases e : x = y
    · subst e
      rw [if_neg hP, Nat.sub_self]; rfl
    · have hs : sm (fun z => ind (P (x + z))) (y - x) = ind (P x) + sm (fun z => ind (P (x + 1 + z))) (y - (x + 1)) := by
        rw [show y - x = (y - (x + 1)) + 1 by omega]
        exact sm_1 (fun y => ind (P y)) x _
      by_cases g : P x = 0
      · have h0 : ind (P x) = 0 := by unfold ind; rw [if_pos g]
        rw [if_pos g, hs, h0, Nat.zero_add, ih (x + 1) (by omega) (by omega)]
      · have h0 : ind (P x) = 1 := by unfold ind; rw [if_neg g]
        rw [if_neg g, hs, h0, if_neg (by omega), Nat.add_sub_cancel_left, ih (x + 1) (by omega) (by omega)]
/-- the class's row of state l -/
theorem sr4 {P : Nat → Nat} {rk : Nat → Int32} (hP : ∀ y, y < 112 → rk y = nI (P y) ∧ P y < 128) : ∀ (i n x l : Nat), x + i = 112 → l < 2 ^ 31 → lpX5_stateRow_4 rk (n + i + 1) (nI l) (nI x) = some (if (fd P i x l).1 < 112 then (0, nI (fd P i x l).1) else (1, nI 112)) := by
  intro i
  induction i with
  | zero =>
    intro n x l hi hl
    rw [lpX5_stateRow_4.eq_2, if_pos (show (112 : Int32) ≤ nI x from nI_le (a := 112) (by omega) (by omega))]
    show _ = some (if x < 112 then (0, nI x) else (1, nI 112))
    rw [if_neg (by omega), show x = 112 by omega]
  | succ i ih =>
    intro n x l hi hl
    obtain ⟨p1, p2⟩ := hP x (by omega)
    rw [lpX5_stateRow_4.eq_2, if_neg (show ¬ (112 : Int32) ≤ nI x from nI_ge (b := 112) (by omega) (by omega)), og32 (by omega) (by omega), nI_clamp (by omega), p1]
    show _ = some (if (if P x = 0 then fd P i (x + 1) l else if l = 0 then (x, 0) else fd P i (x + 1) (l - 1)).1 < 112 then (0, nI (if P x = 0 then fd P i (x + 1) l else if l = 0 then (x, 0) else fd P i (x + 1) (l - 1)).1) else (1, nI 112))
    by_cases g : P x = 0
    · rw [if_pos (by rw [g]; rfl), nm_mk, nI_1, show n + (i + 1) = n + i + 1 by omega, ih n (x + 1) l (by omega) hl, if_pos g]
    · rw [if_neg (nI_ne0 (by omega) (by omega)), if_neg g]
      by_cases g2 : l = 0
      · rw [if_pos g2, if_pos (by rw [g2]; rfl), if_pos (show x < 112 by omega)]
      · obtain ⟨l', rfl⟩ : ∃ l', l = l' + 1 := ⟨l - 1, by omega⟩
        rw [if_neg g2, if_neg (nI_ne0 (by omega) hl), nm_mk, nm_mk, pk_m1, nI_1, show n + (i + 1) = n + i + 1 by omega, ih n (x + 1) l' (by omega) (by omega), Nat.add_sub_cancel]
theorem sr8' {P : Nat → Nat} {rk : Nat → Int32} (hP : ∀ y, y < 112 → rk y = nI (P y) ∧ P y < 128) {l : Nat} (hl : l < 2 ^ 31) (hf : (fd P 112 0 l).1 < 112) : fX5_stateRow (nI l) rk = some (nI (P (fd P 112 0 l).1)) := by
  unfold fX5_stateRow
  obtain ⟨n, hn⟩ := fuN 113 (by omega)
  rw [hn, i_0, sr4 hP 112 n 0 l (by omega) hl, if_pos hf, bd2_mk, if_pos rfl, og32 hf (by omega), nI_clamp (by omega), (hP _ hf).1]
/-- the reference's loops of a table -/
theorem ps_c {j m u : Nat} (hm : m < 8) (hu : u < 2) : ps (16 * j + 2 * m + u) = (j * 2 + u) * 8 + m := by unfold ps; omega
theorem t74' {π : Nat → Nat → Nat} {T p q R : Nat} {β : Nat → Nat} {way : Nat → Int64} (hN : NK T p q R) (hW : WW π T p q R β way) {t : Nat} (ht : t ≤ T) (w : Int32) {j m : Nat} (hj : j ≤ t) (hm : m < 8) : ∀ (i n u l : Nat), u + i = 2 → l < 2 ^ 31 → lpX9_table_74 (nI t) w (nI j) (nI m) way (n + i + 1) (nI l) (nI u) = some (if (fd (fun y => wy π T p q R β t (ps y)) i (16 * j + 2 * m + u) l).1 < 16 * j + 2 * m + 2 then (0, nI 0, nI ((fd (fun y => wy π T p q R β t (ps y)) i (16 * j + 2 * m + u) l).1 - (16 * j + 2 * m)), nI (112 * t + ps (fd (fun y => wy π T p q R β t (ps y)) i (16 * j + 2 * m + u) l).1)) else (1, nI (fd (fun y => wy π T p q R β t (ps y)) i (16 * j + 2 * m + u) l).2, nI 2, 0)) := by
  intro i
  induction i with
  | zero =>
    intro n u l hi hl
    rw [lpX9_table_74.eq_2, if_pos (show (2 : Int32) ≤ nI u from nI_le (a := 2) (by omega) (by omega))]
    show _ = some (if 16 * j + 2 * m + u < 16 * j + 2 * m + 2 then _ else (1, nI l, nI 2, 0))
    rw [if_neg (by omega), show u = 2 by omega]
  | succ i ih =>
    intro n u l hi hl
    have hx : (j * 2 + u) * 8 + m < 112 := by omega
    have hw := hW t ((j * 2 + u) * 8 + m) (by omega) hx
    rw [if_pos ht, ← atN_x] at hw
    have hb := wy_b (π := π) (T := T) (R := R) (β := β) (p := p) (q := q) (by omega) (by omega) (t := t) (x := (j * 2 + u) * 8 + m) (by omega)
    have l1 : atN t j u m < 784 := atN_lt (by omega) (by omega) (by omega) hm
    have hps := ps_c (j := j) hm (show u < 2 by omega)
    rw [lpX9_table_74.eq_2, if_neg (show ¬ (2 : Int32) ≤ nI u from nI_ge (b := 2) (by omega) (by omega)), at9, bd1_mk, og32 l1 (by omega), nI_clamp (by omega), hw]
    have hfd : fd (fun y => wy π T p q R β t (ps y)) (i + 1) (16 * j + 2 * m + u) l = if wy π T p q R β t ((j * 2 + u) * 8 + m) = 0 then fd (fun y => wy π T p q R β t (ps y)) i (16 * j + 2 * m + (u + 1)) l else if l = 0 then (16 * j + 2 * m + u, 0) else fd (fun y => wy π T p q R β t (ps y)) i (16 * j + 2 * m + (u + 1)) (l - 1) := by
      rw [← hps]; rfl
    rw [hfd]
    by_cases g : wy π T p q R β t ((j * 2 + u) * 8 + m) = 0
    · rw [if_pos (by rw [g]; rfl), nm_mk, nI_1, show n + (i + 1) = n + i + 1 by omega, ih n (u + 1) l (by omega) hl, if_pos g]
    · rw [if_neg (lnz g (by omega)), if_neg g]
      by_cases g2 : l = 0
      · rw [if_pos g2, if_pos (by rw [g2]; rfl), if_pos (show 16 * j + 2 * m + u < 16 * j + 2 * m + 2 by omega)]
        show some (0, nI l, nI u, nI (atN t j u m)) = some (0, nI 0, nI (16 * j + 2 * m + u - (16 * j + 2 * m)), nI (112 * t + ps (16 * j + 2 * m + u)))
        rw [g2, Nat.add_sub_cancel_left, hps, atN_x]
      · rw [if_neg g2, if_neg (nI_ne0 (by omega) hl), nm_mk, nm_mk, i_1, pk_sub (by omega), nI_add, show n + (i + 1) = n + i + 1 by omega, ih n (u + 1) (l - 1) (by omega) (by omega)]
theorem t64' {π : Nat → Nat → Nat} {T p q R : Nat} {β : Nat → Nat} {way : Nat → Int64} (hN : NK T p q R) (hW : WW π T p q R β way) {t : Nat} (ht : t ≤ T) (w : Int32) {j : Nat} (hj : j ≤ t) : ∀ (i n m l : Nat), m + i = 8 → l < 2 ^ 31 → lpX9_table_64 (nI t) w (nI j) way (n + i + 1) (nI l) (nI m) = some (if (fd (fun y => wy π T p q R β t (ps y)) (2 * i) (16 * j + 2 * m) l).1 < 16 * j + 16 then (0, 0, nI ((fd (fun y => wy π T p q R β t (ps y)) (2 * i) (16 * j + 2 * m) l).1 / 2 % 8), nI ((fd (fun y => wy π T p q R β t (ps y)) (2 * i) (16 * j + 2 * m) l).1 % 2), nI (112 * t + ps (fd (fun y => wy π T p q R β t (ps y)) (2 * i) (16 * j + 2 * m) l).1)) else (1, nI (fd (fun y => wy π T p q R β t (ps y)) (2 * i) (16 * j + 2 * m) l).2, nI 8, 0, 0)) := by
  intro i
  induction i with
  | zero =>
    intro n m l hi hl
    rw [lpX9_table_64.eq_2, if_pos (show (8 : Int32) ≤ nI m from nI_le (a := 8) (by omega) (by omega))]
    show _ = some (if 16 * j + 2 * m < 16 * j + 16 then _ else (1, nI l, nI 8, 0, 0))
    rw [if_neg (by omega), show m = 8 by omega]
  | succ i ih =>
    intro n m l hi hl
    obtain ⟨n', hn'⟩ := fuN 3 (by omega)
    have h4 := t74' hN hW ht w hj (show m < 8 by omega) 2 n' 0 l (by omega) hl
    rw [Nat.add_zero (16 * j + 2 * m)] at h4
    have hap := fd_app (fun y => wy π T p q R β t (ps y)) (2 * i) 2 (16 * j + 2 * m) l
    rw [show 2 + 2 * i = 2 * (i + 1) by omega] at hap
    obtain ⟨f1, f2, f3, _, f5⟩ := fd_p (fun y => wy π T p q R β t (ps y)) 2 (16 * j + 2 * m) l
    rw [lpX9_table_64.eq_2, if_neg (show ¬ (8 : Int32) ≤ nI m from nI_ge (b := 8) (by omega) (by omega)), hn', i_0, h4, hap]
    by_cases g : (fd (fun y => wy π T p q R β t (ps y)) 2 (16 * j + 2 * m) l).1 < 16 * j + 2 * m + 2
    · rw [if_pos g, if_pos g, bd4_mk, if_pos rfl, if_pos (show (fd (fun y => wy π T p q R β t (ps y)) 2 (16 * j + 2 * m) l).1 < 16 * j + 16 by omega)]
      generalize (fd (fun y => wy π T p q R β t (ps y)) 2 (16 * j + 2 * m) l).1 = z at *
      rw [show z / 2 % 8 = m by omega, show z - (16 * j + 2 * m) = z % 2 by omega]
    · rw [if_neg g, if_neg g, bd4_mk, if_neg (by decide), nm_mk, nI_1, show n + (i + 1) = n + i + 1 by omega, ih n (m + 1) _ (by omega) (by omega), show 16 * j + 2 * (m + 1) = 16 * j + 2 * m + 2 by omega]; rfl
theorem t55' {π : Nat → Nat → Nat} {T p q R : Nat} {β : Nat → Nat} {way : Nat → Int64} (hN : NK T p q R) (hW : WW π T p q R β way) {t : Nat} (ht : t ≤ T) (w : Int32) : ∀ (i n j l : Nat), j + i = t + 1 → l < 2 ^ 31 → lpX9_table_55 (nI t) w way (n + i + 1) (nI l) (nI j) = some (if (fd (fun y => wy π T p q R β t (ps y)) (16 * i) (16 * j) l).1 < 16 * (t + 1) then (0, nI ((fd (fun y => wy π T p q R β t (ps y)) (16 * i) (16 * j) l).1 / 16), nI ((fd (fun y => wy π T p q R β t (ps y)) (16 * i) (16 * j) l).1 / 2 % 8), nI ((fd (fun y => wy π T p q R β t (ps y)) (16 * i) (16 * j) l).1 % 2), nI (112 * t + ps (fd (fun y => wy π T p q R β t (ps y)) (16 * i) (16 * j) l).1)) else (1, nI (t + 1), 0, 0, 0)) := by
  intro i
  induction i with
  | zero =>
    intro n j l hi hl
    rw [lpX9_table_55.eq_2, if_pos (nI_lt (by omega) (by omega))]
    show _ = some (if 16 * j < 16 * (t + 1) then _ else (1, nI (t + 1), 0, 0, 0))
    rw [if_neg (by omega), show j = t + 1 by omega]
  | succ i ih =>
    intro n j l hi hl
    obtain ⟨n', hn'⟩ := fuN 9 (by omega)
    have h4 := t64' hN hW ht w (show j ≤ t by omega) 8 n' 0 l (by omega) hl
    rw [show 16 * j + 2 * 0 = 16 * j by omega, show 2 * 8 = 16 by rfl] at h4
    have hap := fd_app (fun y => wy π T p q R β t (ps y)) (16 * i) 16 (16 * j) l
    rw [show 16 + 16 * i = 16 * (i + 1) by omega] at hap
    obtain ⟨f1, f2, f3, _, f5⟩ := fd_p (fun y => wy π T p q R β t (ps y)) 16 (16 * j) l
    rw [lpX9_table_55.eq_2, if_neg (nI_nlt (by omega) (by omega)), hn', i_0, h4, hap]
    by_cases g : (fd (fun y => wy π T p q R β t (ps y)) 16 (16 * j) l).1 < 16 * j + 16
    · rw [if_pos g, if_pos g, bd5_mk, if_pos rfl, if_pos (show (fd (fun y => wy π T p q R β t (ps y)) 16 (16 * j) l).1 < 16 * (t + 1) by omega)]
      generalize (fd (fun y => wy π T p q R β t (ps y)) 16 (16 * j) l).1 = z at *
      rw [show z / 16 = j by omega]
    · rw [if_neg g, if_neg g, bd5_mk, if_neg (by decide), nm_mk, nI_1, show n + (i + 1) = n + i + 1 by omega, ih n (j + 1) _ (by omega) (by omega), show 16 * (j + 1) = 16 * j + 16 by omega]; rfl
