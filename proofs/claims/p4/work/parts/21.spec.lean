/-! pure: what a bond is worth, by states (own rows). Of a bond: 0 face, 1 ratio, 2+t coupon, 9+t call and 15+t put (one more, 0: none), 21, 22 window, 23, 24, 25 soft, 26 settling -/
def hiF (β : Nat → Nat) (x : Nat) : Nat := if β 25 ≤ x then 1 else 0
def shF (β : Nat → Nat) (now : Nat) : Nat := β 1 * now / 100
def caF (β : Nat → Nat) (now ah : Nat) : Nat := β 1 * (now + ah) / 200
def twF (β : Nat → Nat) (now ah : Nat) : Nat := if β 26 = 0 then shF β now else if β 26 = 1 then caF β now ah else if β 26 = 2 then min (shF β now) (caF β now ah) else max (shF β now) (caF β now ah)
abbrev inW (β : Nat → Nat) (t : Nat) : Prop := β 21 ≤ t ∧ t ≤ β 22
def tuF (β : Nat → Nat) (t now ah : Nat) : Nat := if inW β t then twF β now ah + 1 else 0
def ahF (π : Nat → Nat → Nat) (t j u : Nat) : Nat := if t = 0 then π t j else π (t - 1) (j - u)
def tuS (π : Nat → Nat → Nat) (β : Nat → Nat) (t j u : Nat) : Nat := tuF β t (π t j) (ahF π t j u)
def hdF (β : Nat → Nat) (m : Nat) : Nat := m % 2 + (if 2 ≤ β 24 then m / 2 % 2 else 0) + (if 3 ≤ β 24 then m / 4 % 2 else 0)
def caL (β : Nat → Nat) (t : Nat) : Nat := if t < 6 then β (9 + t) else 0
def puL (β : Nat → Nat) (t : Nat) : Nat := if t < 6 then β (15 + t) else 0
def cpF (β : Nat → Nat) (t : Nat) : Nat := if 1 ≤ t ∧ t ≤ 6 then β (2 + t) else 0
abbrev frF (β : Nat → Nat) (t m : Nat) : Prop := caL β t ≠ 0 ∧ β 23 ≤ hdF β m
def cgS (π : Nat → Nat → Nat) (β : Nat → Nat) (t j u : Nat) : Nat := max (caL β t) (tuS π β t j u)
def mn (p q R a b : Nat) : Nat := (p * a + (q - p) * b) * 1000 / (q * (1000 + R))
def mkF (π : Nat → Nat → Nat) (β : Nat → Nat) (m t j : Nat) : Nat := 2 * m % 8 + hiF β (π t j)
abbrev icF (π : Nat → Nat → Nat) (β : Nat → Nat) (t j u m h : Nat) : Prop := frF β t m ∧ cgS π β t j u < h + 1
def bG (π : Nat → Nat → Nat) (β : Nat → Nat) (t j u m h : Nat) : Nat := max (max (puL β t) (tuS π β t j u)) (if icF π β t j u m h then cgS π β t j u else h + 1)
def bV (π : Nat → Nat → Nat) (β : Nat → Nat) (t j u m h : Nat) : Nat := cpF β t + (bG π β t j u m h - 1)
def bA (π : Nat → Nat → Nat) (β : Nat → Nat) (t j u m h : Nat) : Nat := if icF π β t j u m h then (if cgS π β t j u < puL β t then 1 else if caL β t < tuS π β t j u then 4 else 3) else if puL β t ≤ h + 1 ∧ tuS π β t j u ≤ h + 1 then 0 else if puL β t ≠ 0 ∧ tuS π β t j u ≤ puL β t then 1 else 2
abbrev rT (π : Nat → Nat → Nat) (β : Nat → Nat) (x : Nat) (t j u : Nat) : Prop := tuS π β t j u ≠ 0 ∧ x ≤ π t j
abbrev rC (π : Nat → Nat → Nat) (β : Nat → Nat) (y : Nat) (t j m : Nat) : Prop := frF β t m ∧ y ≤ π t j
def rV (x y : Nat) (π : Nat → Nat → Nat) (β : Nat → Nat) (t j u m h : Nat) : Nat := cpF β t + (if rT π β x t j u then tuS π β t j u - 1 else if rC π β y t j m then cgS π β t j u - 1 else h)
def rA (x y : Nat) (π : Nat → Nat → Nat) (β : Nat → Nat) (t j u m : Nat) : Nat := if rT π β x t j u then 2 else if rC π β y t j m then (if caL β t < tuS π β t j u then 4 else 3) else 0
def enV (π : Nat → Nat → Nat) (T : Nat) (β : Nat → Nat) (j u : Nat) : Nat := cpF β T + (max (β 0 + 1) (tuS π β T j u) - 1)
def enA (π : Nat → Nat → Nat) (T : Nat) (β : Nat → Nat) (j u : Nat) : Nat := if β 0 + 1 < tuS π β T j u then 6 else 5
/-- the value with n days left; σ: what a state makes of its hold -/
def vG (π : Nat → Nat → Nat) (T p q R : Nat) (β : Nat → Nat) (σ : Nat → Nat → Nat → Nat → Nat → Nat) : Nat → Nat → Nat → Nat → Nat
  | 0, j, u, _ => enV π T β j u
  | n + 1, j, u, m => σ (T - (n + 1)) j u m (mn p q R (vG π T p q R β σ n (j + 1) 1 (mkF π β m (T - n) (j + 1))) (vG π T p q R β σ n j 0 (mkF π β m (T - n) j)))
def hG (π : Nat → Nat → Nat) (T p q R : Nat) (β : Nat → Nat) (σ : Nat → Nat → Nat → Nat → Nat → Nat) (n j m : Nat) : Nat := mn p q R (vG π T p q R β σ n (j + 1) 1 (mkF π β m (T - n) (j + 1))) (vG π T p q R β σ n j 0 (mkF π β m (T - n) j))
theorem vG_s (π : Nat → Nat → Nat) (T p q R : Nat) (β : Nat → Nat) (σ : Nat → Nat → Nat → Nat → Nat → Nat) (n j u m : Nat) : vG π T p q R β σ (n + 1) j u m = σ (T - (n + 1)) j u m (hG π T p q R β σ n j m) := rfl
theorem vG_0 (π : Nat → Nat → Nat) (T p q R : Nat) (β : Nat → Nat) (σ : Nat → Nat → Nat → Nat → Nat → Nat) (j u m : Nat) : vG π T p q R β σ 0 j u m = enV π T β j u := rfl
/-- bounds -/
abbrev BK (β : Nat → Nat) : Prop := (1 ≤ β 0 ∧ β 0 ≤ 1000000) ∧ β 1 ≤ 1000 ∧ (∀ t, 1 ≤ t → t ≤ 6 → β (2 + t) ≤ 1000) ∧ (∀ t, t < 6 → β (9 + t) ≤ 1000001) ∧ (∀ t, t < 6 → β (15 + t) ≤ 1000001) ∧ β 21 ≤ 7 ∧ β 22 ≤ 7 ∧ β 23 ≤ 3 ∧ (1 ≤ β 24 ∧ β 24 ≤ 3) ∧ β 25 ≤ 1000000 ∧ β 26 ≤ 3
abbrev PK (π : Nat → Nat → Nat) : Prop := ∀ t j, π t j ≤ 6400000000000
abbrev NK (T p q R : Nat) : Prop := (1 ≤ T ∧ T ≤ 6) ∧ (1 ≤ p ∧ p < q ∧ q ≤ 20) ∧ R ≤ 200
abbrev SK (σ : Nat → Nat → Nat → Nat → Nat → Nat) : Prop := ∀ t j u m h M, h ≤ M → 64000000000000 ≤ M → σ t j u m h ≤ M + 1000
theorem caL_le {β : Nat → Nat} (h : BK β) (t : Nat) : caL β t ≤ 1000001 := by
  unfold caL
  split
  · exact h.2.2.2.1 t (by omega)
  · omega
theorem puL_le {β : Nat → Nat} (h : BK β) (t : Nat) : puL β t ≤ 1000001 := by
  unfold puL
  split
  · exact h.2.2.2.2.1 t (by omega)
  · omega
theorem cpF_le {β : Nat → Nat} (h : BK β) (t : Nat) : cpF β t ≤ 1000 := by
  unfold cpF
  split
  · rename_i g; exact h.2.2.1 t g.1 g.2
  · omega
theorem shF_le {β : Nat → Nat} {x : Nat} (h : β 1 ≤ 1000) (hx : x ≤ 6400000000000) : shF β x ≤ 64000000000000 := by
  unfold shF
  have := Nat.mul_le_mul h hx
  omega
theorem caF_le {β : Nat → Nat} {x y : Nat} (h : β 1 ≤ 1000) (hx : x ≤ 6400000000000) (hy : y ≤ 6400000000000) : caF β x y ≤ 64000000000000 := by
  unfold caF
  have := Nat.mul_le_mul h (show x + y ≤ 12800000000000 by omega)
  omega
theorem twF_le {β : Nat → Nat} {x y : Nat} (h : β 1 ≤ 1000) (hx : x ≤ 6400000000000) (hy : y ≤ 6400000000000) : twF β x y ≤ 64000000000000 := by
  have a := shF_le h hx
  have b := caF_le h hx hy
  unfold twF
  split
  · exact a
  · split
    · exact b
    · split <;> omega
theorem ahF_le {π : Nat → Nat → Nat} (hp : PK π) (t j u : Nat) : ahF π t j u ≤ 6400000000000 := by
  unfold ahF
  split <;> exact hp _ _
theorem tuS_le {π : Nat → Nat → Nat} {β : Nat → Nat} (hp : PK π) (h : BK β) (t j u : Nat) : tuS π β t j u ≤ 64000000000001 := by
  unfold tuS tuF
  have := twF_le (β := β) h.2.1 (hp t j) (ahF_le hp t j u)
  split <;> omega
theorem cgS_le {π : Nat → Nat → Nat} {β : Nat → Nat} (hp : PK π) (h : BK β) (t j u : Nat) : cgS π β t j u ≤ 64000000000001 := by
  have a := tuS_le hp h t j u
  have b := caL_le h t
  unfold cgS
  omega
theorem enV_le {π : Nat → Nat → Nat} {β : Nat → Nat} (hp : PK π) (h : BK β) (T j u : Nat) : enV π T β j u ≤ 64000000001000 := by
  have a := tuS_le hp h T j u
  have b := cpF_le h T
  have c := h.1.2
  unfold enV
  omega
theorem mn_le {p q R a b M : Nat} (hq : 1 ≤ q) (hp : p ≤ q) (ha : a ≤ M) (hb : b ≤ M) : mn p q R a b ≤ M := by
  unfold mn
  refine Nat.div_le_of_le_mul ?_
  have h1 := Nat.mul_le_mul (Nat.le_refl p) ha
  have h2 := Nat.mul_le_mul (Nat.le_refl (q - p)) hb
  have h3 : p * M + (q - p) * M = q * M := by rw [← Nat.add_mul, Nat.add_sub_cancel' hp]
  have h4 : (p * a + (q - p) * b) * 1000 ≤ q * M * 1000 := Nat.mul_le_mul (by omega) (Nat.le_refl _)
  have h5 : q * M * 1000 ≤ q * (1000 + R) * M := by
    rw [Nat.mul_right_comm q (1000 + R) M]
    exact Nat.mul_le_mul (Nat.le_refl _) (by omega)
  exact Nat.le_trans h4 h5
theorem mn_in {p q a b : Nat} (hq : q ≤ 20) (hp : p ≤ q) (ha : a ≤ 64000000010000) (hb : b ≤ 64000000010000) : (p * a + (q - p) * b) * 1000 < 2 ^ 63 := by
  have h1 := Nat.mul_le_mul (Nat.le_refl p) ha
  have h2 := Nat.mul_le_mul (Nat.le_refl (q - p)) hb
  have h3 : p * 64000000010000 + (q - p) * 64000000010000 = q * 64000000010000 := by rw [← Nat.add_mul, Nat.add_sub_cancel' hp]
  omega
theorem bV_SK {π : Nat → Nat → Nat} {β : Nat → Nat} (hp : PK π) (hb : BK β) : SK (bV π β) := by
  intro t j u m h M h1 h2
  have a := tuS_le hp hb t j u
  have b := puL_le hb t
  have c := cgS_le hp hb t j u
  have d := cpF_le hb t
  unfold bV bG
  split <;> omega
theorem rV_SK {π : Nat → Nat → Nat} {β : Nat → Nat} (x y : Nat) (hp : PK π) (hb : BK β) : SK (rV x y π β) := by
  intro t j u m h M h1 h2
  have a := tuS_le hp hb t j u
  have c := cgS_le hp hb t j u
  have d := cpF_le hb t
  unfold rV
  split
  · omega
  · split <;> omega
theorem vG_le {π : Nat → Nat → Nat} {T p q R : Nat} {β : Nat → Nat} {σ : Nat → Nat → Nat → Nat → Nat → Nat} (hp : PK π) (hb : BK β) (hn : NK T p q R) (hs : SK σ) : ∀ n j u m, vG π T p q R β σ n j u m ≤ 64000000000000 + 1000 * (n + 1) := by
  intro n
  induction n with
  | zero => intro j u m; rw [vG_0]; have := enV_le hp hb T j u; omega
  | succ n ih =>
    intro j u m
    rw [vG_s]
    refine Nat.le_trans (hs (T - (n + 1)) j u m (hG π T p q R β σ n j m) (64000000000000 + 1000 * (n + 1)) (mn_le (by omega) (by omega) (ih _ _ _) (ih _ _ _)) (by omega)) ?_
    omega
theorem vG_b {π : Nat → Nat → Nat} {T p q R : Nat} {β : Nat → Nat} {σ : Nat → Nat → Nat → Nat → Nat → Nat} (hp : PK π) (hb : BK β) (hn : NK T p q R) (hs : SK σ) {n : Nat} (h : n ≤ 6) (j u m : Nat) : vG π T p q R β σ n j u m ≤ 64000000007000 := by
  refine Nat.le_trans (vG_le hp hb hn hs n j u m) ?_
  omega
theorem hG_b {π : Nat → Nat → Nat} {T p q R : Nat} {β : Nat → Nat} {σ : Nat → Nat → Nat → Nat → Nat → Nat} (hp : PK π) (hb : BK β) (hn : NK T p q R) (hs : SK σ) {n : Nat} (h : n ≤ 6) (j m : Nat) : hG π T p q R β σ n j m ≤ 64000000007000 := mn_le (by omega) (by omega) (vG_b hp hb hn hs h _ _ _) (vG_b hp hb hn hs h _ _ _)
theorem hiF_lt (β : Nat → Nat) (x : Nat) : hiF β x < 2 := by unfold hiF; split <;> omega
theorem mkF_lt (π : Nat → Nat → Nat) (β : Nat → Nat) (m t j : Nat) : mkF π β m t j < 8 := by
  have := hiF_lt β (π t j)
  unfold mkF
  omega
theorem mkF_2 (π : Nat → Nat → Nat) (β : Nat → Nat) (m t j : Nat) : mkF π β m t j % 2 = hiF β (π t j) := by
  have := hiF_lt β (π t j)
  unfold mkF
  omega
/-- rows of moves: a leading 1, then the moves -/
def dR (r : Nat) : Nat := Nat.log2 r
def pcN : Nat → Nat → Nat
  | 0, _ => 0
  | n + 1, r => r % 2 + pcN n (r / 2)
def uR (r : Nat) : Nat := pcN 7 r - 1
def bR (r : Nat) : Nat := if r ≤ 1 then 0 else r % 2
def mRn (π : Nat → Nat → Nat) (β : Nat → Nat) : Nat → Nat → Nat
  | 0, _ => hiF β (π 0 0)
  | d + 1, r => mkF π β (mRn π β d (r / 2)) (d + 1) (uR r)
def mR (π : Nat → Nat → Nat) (β : Nat → Nat) (r : Nat) : Nat := mRn π β (dR r) r
theorem row_s : ∀ r, r < 64 → 1 ≤ r → ∀ b, b < 2 → dR (2 * r + b) = dR r + 1 ∧ uR (2 * r + b) = uR r + b ∧ bR (2 * r + b) = b ∧ (2 * r + b) / 2 = r := by decide +kernel
theorem row_b1 : ∀ r, r < 128 → 1 ≤ r → (dR r ≤ 6 ∧ uR r ≤ dR r ∧ bR r ≤ uR r) ∧ (bR r < 2 ∧ 2 ^ dR r ≤ r ∧ r < 2 * 2 ^ dR r) := by decide +kernel
theorem row_b2 : ∀ r, r < 128 → 1 ≤ r → (dR r = 0 → bR r = 0) ∧ (bR r = 1 → 0 < uR r) := by decide +kernel
theorem row_b3 : ∀ r, r < 128 → 1 ≤ r → (¬ dR r = 0 → (bR r = 0 → uR r < dR r)) := by decide +kernel
theorem mR_1 (π : Nat → Nat → Nat) (β : Nat → Nat) : mR π β 1 = hiF β (π 0 0) := rfl
theorem mR_s (π : Nat → Nat → Nat) (β : Nat → Nat) {r b : Nat} (h1 : 1 ≤ r) (h : r < 64) (hb : b < 2) : mR π β (2 * r + b) = mkF π β (mR π β r) (dR r + 1) (uR r + b) := by
  obtain ⟨e1, e2, _, e4⟩ := row_s r h h1 b hb
  unfold mR
  rw [e1]
  show mkF π β (mRn π β (dR r) ((2 * r + b) / 2)) (dR r + 1) (uR (2 * r + b)) = _
  rw [e4, e2]
theorem mR_lt (π : Nat → Nat → Nat) (β : Nat → Nat) (r : Nat) : mR π β r < 8 := by
  unfold mR
  cases dR r with
  | zero => have := hiF_lt β (π 0 0); show hiF β (π 0 0) < 8; omega
  | succ d => exact mkF_lt _ _ _ _ _
theorem mR_2 (π : Nat → Nat → Nat) (β : Nat → Nat) {r : Nat} (h1 : 1 ≤ r) (h : r < 128) : mR π β r % 2 = hiF β (π (dR r) (uR r)) := by
  by_cases h2 : r = 1
  · subst h2
    have := hiF_lt β (π 0 0)
    rw [mR_1]
    show _ = hiF β (π 0 0)
    omega
  · have e : r = 2 * (r / 2) + r % 2 := by omega
    obtain ⟨e1, e2, _, _⟩ := row_s (r / 2) (by omega) (by omega) (r % 2) (by omega)
    rw [← e] at e1 e2
    rw [e1, e2]
    conv => lhs; rw [e]
    rw [mR_s π β (by omega) (by omega) (by omega), mkF_2]
