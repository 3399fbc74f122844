/-! pure: sums (own rows) -/
def sm (f : Nat → Nat) : Nat → Nat
  | 0 => 0
  | n + 1 => sm f n + f n
theorem sm_congr {f g : Nat → Nat} : ∀ n, (∀ i, i < n → f i = g i) → sm f n = sm g n := by
  intro n
  induction n with
  | zero => intro _; rfl
  | succ n ih =>
    intro h
    show sm f n + f n = sm g n + g n
    rw [ih (fun i hi => h i (by omega)), h n (by omega)]
theorem sm_add (f g : Nat → Nat) : ∀ n, sm (fun i => f i + g i) n = sm f n + sm g n := by
  intro n
  induction n with
  | zero => rfl
  | succ n ih =>
    show sm (fun i => f i + g i) n + (f n + g n) = sm f n + f n + (sm g n + g n)
    rw [ih]; omega
theorem sm_mul (f : Nat → Nat) (c : Nat) : ∀ n, sm (fun i => f i * c) n = sm f n * c := by
  intro n
  induction n with
  | zero => exact (Nat.zero_mul c).symm
  | succ n ih =>
    show sm (fun i => f i * c) n + f n * c = (sm f n + f n) * c
    rw [ih, Nat.add_mul]
theorem sm_zero : ∀ n, sm (fun _ => 0) n = 0 := by
  intro n
  induction n with
  | zero => rfl
  | succ n ih => exact ih
theorem sm_swap (f : Nat → Nat → Nat) (m : Nat) : ∀ n, sm (fun i => sm (fun j => f i j) m) n = sm (fun j => sm (fun i => f i j) n) m := by
  intro n
  induction n with
  | zero => exact (sm_zero m).symm
  | succ n ih =>
    show sm (fun i => sm (fun j => f i j) m) n + sm (fun j => f n j) m = sm (fun j => sm (fun i => f i j) n + f n j) m
    rw [ih, sm_add]
theorem sm_one {f : Nat → Nat} {a : Nat} : ∀ n, sm (fun i => if a = i then f i else 0) n = if a < n then f a else 0 := by
  intro n
  induction n with
  | zero => rfl
  | succ n ih =>
    show sm (fun i => if a = i then f i else 0) n + (if a = n then f n else 0) = _
    rw [ih]
    by_cases h : a = n
    · subst h
      rw [if_neg (Nat.lt_irrefl a), if_pos rfl, if_pos (by omega), Nat.zero_add]
    · rw [if_neg h]
      by_cases g : a < n
      · rw [if_pos g, if_pos (by omega), Nat.add_zero]
      · rw [if_neg g, if_neg (by omega)]
theorem sm_two (f : Nat → Nat) : ∀ n, sm f (2 * n) = sm (fun i => f (2 * i) + f (2 * i + 1)) n := by
  intro n
  induction n with
  | zero => rfl
  | succ n ih =>
    show sm f (2 * n) + f (2 * n) + f (2 * n + 1) = sm (fun i => f (2 * i) + f (2 * i + 1)) n + (f (2 * n) + f (2 * n + 1))
    rw [ih]; omega
theorem sm_app (f : Nat → Nat) (m : Nat) : ∀ n, sm f (m + n) = sm f m + sm (fun i => f (m + i)) n := by
  intro n
  induction n with
  | zero => rfl
  | succ n ih =>
    show sm f (m + n) + f (m + n) = sm f m + (sm (fun i => f (m + i)) n + f (m + n))
    rw [ih]; omega
theorem sm_blk (f : Nat → Nat) (c : Nat) : ∀ n, sm f (c * n) = sm (fun t => sm (fun i => f (c * t + i)) c) n := by
  intro n
  induction n with
  | zero => rfl
  | succ n ih =>
    rw [Nat.mul_succ, sm_app, ih]; rfl
theorem sm_le {f g : Nat → Nat} : ∀ n, (∀ i, i < n → f i ≤ g i) → sm f n ≤ sm g n := by
  intro n
  induction n with
  | zero => intro _; exact Nat.le_refl 0
  | succ n ih =>
    intro h
    exact Nat.add_le_add (ih (fun i hi => h i (by omega))) (h n (by omega))
theorem sm_mem {f : Nat → Nat} : ∀ n i, i < n → f i ≤ sm f n := by
  intro n
  induction n with
  | zero => intro i h; omega
  | succ n ih =>
    intro i h
    show f i ≤ sm f n + f n
    by_cases e : i = n
    · subst e; omega
    · have := ih i (by omega); omega
theorem sm_pos {f : Nat → Nat} : ∀ n, sm f n ≠ 0 → ∃ i, i < n ∧ f i ≠ 0 := by
  intro n
  induction n with
  | zero => intro h; exact absurd rfl h
  | succ n ih =>
    intro h
    by_cases g : f n = 0
    · obtain ⟨i, h1, h2⟩ := ih (fun q => h (by show sm f n + f n = 0; omega))
      exact ⟨i, by omega, h2⟩
    · exact ⟨n, by omega, g⟩
theorem sm_tail {f : Nat → Nat} {m n : Nat} (h : m ≤ n) (h0 : ∀ i, m ≤ i → i < n → f i = 0) : sm f n = sm f m := by
  obtain ⟨d, rfl⟩ : ∃ d, n = m + d := ⟨n - m, by omega⟩
  rw [sm_app, sm_congr (g := fun _ => 0) d (fun i hi => h0 (m + i) (by omega) (by omega)), sm_zero]
  omega
/-- rows of all days up to T, day by day -/
theorem sm_rows (f : Nat → Nat) (h0 : f 0 = 0) : ∀ T, sm f (2 * 2 ^ T) = sm (fun t => sm (fun i => f (2 ^ t + i)) (2 ^ t)) (T + 1) := by
  intro T
  induction T with
  | zero =>
    show 0 + f 0 + f 1 = 0 + (0 + f (2 ^ 0 + 0))
    rw [h0, Nat.pow_zero, Nat.add_zero 1]; omega
  | succ T ih =>
    have e : 2 * 2 ^ (T + 1) = 2 * 2 ^ T + 2 ^ (T + 1) := by rw [Nat.pow_succ]; omega
    rw [e, sm_app, ih]
    have e2 : 2 * 2 ^ T = 2 ^ (T + 1) := by rw [Nat.pow_succ]; omega
    rw [e2]; rfl
