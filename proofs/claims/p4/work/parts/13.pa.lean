/-! own pure rows: truth as 0 and 1, ranges, small numbers -/
def bI (p : Prop) [Decidable p] : Int32 := if p then 1 else 0
theorem bI_t {p : Prop} [Decidable p] (h : p) : bI p = 1 := if_pos h
theorem bI_f {p : Prop} [Decidable p] (h : ¬ p) : bI p = 0 := if_neg h
theorem bI_0 {p : Prop} [Decidable p] : (bI p = 0) ↔ ¬ p := by
  by_cases h : p
  · rw [bI_t h]; exact ⟨fun q => absurd q (by decide), fun q => absurd h q⟩
  · rw [bI_f h]; exact ⟨fun _ => h, fun _ => rfl⟩
theorem bI_n0 {p : Prop} [Decidable p] : (¬ bI p = 0) ↔ p := by
  rw [bI_0]; exact ⟨fun h => Decidable.not_not.mp h, fun h q => q h⟩
theorem boB_bI {p : Prop} [Decidable p] : boB (bI p) = true := by
  by_cases h : p
  · rw [bI_t h]; rfl
  · rw [bI_f h]; rfl
theorem bI_congr {p q : Prop} [Decidable p] [Decidable q] (h : p ↔ q) : bI p = bI q := by
  by_cases hp : p
  · rw [bI_t hp, bI_t (h.mp hp)]
  · rw [bI_f hp, bI_f (fun z => hp (h.mpr z))]
theorem ite_bI {α : Type} {p : Prop} [Decidable p] (a b : α) : (if bI p = 0 then a else b) = if p then b else a := by
  by_cases h : p
  · rw [bI_t h, if_pos h, if_neg (by decide)]
  · rw [bI_f h, if_neg h, if_pos rfl]
theorem ite_n {α : Type} {p : Prop} [Decidable p] (a b : α) : (if ¬ p then a else b) = if p then b else a := by
  by_cases h : p
  · rw [if_pos h, if_neg (fun q => q h)]
  · rw [if_neg h, if_pos h]
theorem ite_bd {α β : Type} {p : Prop} [Decidable p] (a b : α) (k : α → Option β) : bd1 (if p then some a else some b) k = k (if p then a else b) := by
  by_cases h : p
  · rw [if_pos h, if_pos h]; rfl
  · rw [if_neg h, if_neg h]; rfl
theorem bd1_id {α : Type} (o : Option α) : bd1 o (fun x => some x) = o := by cases o <;> rfl
/-- a number of the script lies in a range -/
abbrev inr (x : Int32) (a b : Int) : Prop := a ≤ x.toInt ∧ x.toInt ≤ b
theorem inr_n {x : Int32} {a b : Int} (h : inr x a b) (ha : 0 ≤ a) : ∃ n : Nat, x = nI n ∧ a ≤ (n : Int) ∧ (n : Int) ≤ b ∧ n < 2 ^ 31 := by
  have h0 : 0 ≤ x.toInt := Int.le_trans ha h.1
  have hlt := Int32.toInt_lt x
  refine ⟨x.toInt.toNat, ?_, by omega, by omega, by omega⟩
  refine Int32.toInt_inj.mp ?_
  rw [nI_toInt (by omega)]
  omega
theorem inr_nI {n : Nat} {a b : Int} (hn : n < 2 ^ 31) : inr (nI n) a b ↔ a ≤ (n : Int) ∧ (n : Int) ≤ b := by
  unfold inr
  rw [nI_toInt hn]
theorem in_eq {x : Int32} {a b : Int64} {A B : Int} (ha : a.toInt = A) (hb : b.toInt = B) : fX9_in (Int32.toInt64 x) a b = some (bI (inr x A B)) := by
  subst ha; subst hb
  have e := Int32.toInt_toInt64 x
  unfold fX9_in
  by_cases h1 : Int32.toInt64 x < a
  · rw [if_pos h1, bI_f (fun q => by rw [Int64.lt_iff_toInt_lt, e] at h1; exact absurd q.1 (Int.not_le.mpr h1))]; rfl
  · rw [if_neg h1]
    rw [Int64.lt_iff_toInt_lt, e, Int.not_lt] at h1
    by_cases h2 : b < Int32.toInt64 x
    · rw [if_pos h2, bI_f (fun q => by rw [Int64.lt_iff_toInt_lt, e] at h2; exact absurd q.2 (Int.not_le.mpr h2))]; rfl
    · rw [if_neg h2]
      rw [Int64.lt_iff_toInt_lt, e, Int.not_lt] at h2
      rw [bI_t ⟨h1, h2⟩]; rfl
theorem wi_eq {x a b : Int32} {A B : Int} (ha : a.toInt = A) (hb : b.toInt = B) : fX8_within x a b = some (bI (inr x A B)) := by
  subst ha; subst hb
  unfold fX8_within
  by_cases h1 : x < a
  · rw [if_pos h1, bI_f (fun q => by rw [Int32.lt_iff_toInt_lt] at h1; exact absurd q.1 (Int.not_le.mpr h1))]; rfl
  · rw [if_neg h1]
    rw [Int32.lt_iff_toInt_lt, Int.not_lt] at h1
    by_cases h2 : b < x
    · rw [if_pos h2, bI_f (fun q => by rw [Int32.lt_iff_toInt_lt] at h2; exact absurd q.2 (Int.not_le.mpr h2))]; rfl
    · rw [if_neg h2]
      rw [Int32.lt_iff_toInt_lt, Int.not_lt] at h2
      rw [bI_t ⟨h1, h2⟩]; rfl
theorem okI_nI {n N : Nat} (h : n < N) (hN : N < 2 ^ 31) : okI (nI n) N = true := by
  unfold okI
  rw [nI_clamp (by omega)]
  simp [h, nI_pos' (show n < 2 ^ 31 by omega)]
/-- a loop's fuel: by what is left to do -/
theorem fu_s (k : Nat) (h : k ≤ 900) : ∃ n, FU = n + k + 1 := ⟨FU - k - 1, by have := FU_ge; omega⟩
/-- what a loop does: the answer by the number of rounds left -/
theorem loopN {σ : Type} {P : Nat → σ → Prop} (m : Nat) (F : Nat → σ → Prop) (h0 : ∀ n s, P 0 s → F (n + 1) s) (hs : ∀ n k s, P (k + 1) s → (∀ s', P k s' → F n s') → F (n + 1) s) : ∀ k n s, P k s → F (n + k + 1) s := by
  intro k
  induction k with
  | zero => intro n s h; exact h0 n s h
  | succ k ih =>
    intro n s h
    exact hs (n + k + 1) k s h (fun s' h' => ih n s' h')
/-- none as -1 (the reference), as -2 (the class); e is one more than the number, 0: none -/
def lM (e : Nat) : Int64 := if e = 0 then -1 else lN (e - 1)
def lC (e : Nat) : Int64 := if e = 0 then -2 else lN (e - 1)
def iM (e : Nat) : Int32 := if e = 0 then -1 else nI (e - 1)
def iC (e : Nat) : Int32 := if e = 0 then -2 else nI (e - 1)
theorem lM_s (n : Nat) : lM (n + 1) = lN n := if_neg (by omega)
theorem lC_s (n : Nat) : lC (n + 1) = lN n := if_neg (by omega)
theorem iM_s (n : Nat) : iM (n + 1) = nI n := if_neg (by omega)
theorem iC_s (n : Nat) : iC (n + 1) = nI n := if_neg (by omega)
theorem lM_T {e : Nat} (h : e < 2 ^ 63) : (lM e).toInt = (e : Int) - 1 := by
  cases e with
  | zero => rfl
  | succ n => rw [lM_s, pk_lT (by omega)]; omega
theorem lC_T {e : Nat} (h : e < 2 ^ 63) : (lC e).toInt = if e = 0 then -2 else (e : Int) - 1 := by
  cases e with
  | zero => rfl
  | succ n => rw [lC_s, pk_lT (by omega), if_neg (by omega)]; omega
theorem iM_T {e : Nat} (h : e < 2 ^ 31) : (iM e).toInt = (e : Int) - 1 := by
  cases e with
  | zero => rfl
  | succ n => rw [iM_s, nI_toInt (by omega)]; omega
theorem iC_T {e : Nat} (h : e < 2 ^ 31) : (iC e).toInt = if e = 0 then -2 else (e : Int) - 1 := by
  cases e with
  | zero => rfl
  | succ n => rw [iC_s, nI_toInt (by omega), if_neg (by omega)]; omega
theorem iM_l {e : Nat} (h : e < 2 ^ 31) : (iM e).toInt64 = lM e := by
  refine Int64.toInt_inj.mp ?_
  rw [Int32.toInt_toInt64, iM_T h, lM_T (by omega)]
theorem iC_l {e : Nat} (h : e < 2 ^ 31) : (iC e).toInt64 = lC e := by
  refine Int64.toInt_inj.mp ?_
  rw [Int32.toInt_toInt64, iC_T h, lC_T (by omega)]
theorem lM_lt {a b : Nat} (ha : a < 2 ^ 63) (hb : b < 2 ^ 63) : lM a < lM b ↔ a < b := by
  rw [Int64.lt_iff_toInt_lt, lM_T ha, lM_T hb]; omega
theorem lM_le {a b : Nat} (ha : a < 2 ^ 63) (hb : b < 2 ^ 63) : lM a ≤ lM b ↔ a ≤ b := by
  rw [Int64.le_iff_toInt_le, lM_T ha, lM_T hb]; omega
theorem lM_eq {a b : Nat} (ha : a < 2 ^ 63) (hb : b < 2 ^ 63) : lM a = lM b ↔ a = b := by
  rw [← Int64.toInt_inj, lM_T ha, lM_T hb]; omega
theorem lC_lt {a b : Nat} (ha : a < 2 ^ 63) (hb : b < 2 ^ 63) : lC a < lC b ↔ a < b := by
  rw [Int64.lt_iff_toInt_lt, lC_T ha, lC_T hb]; split <;> split <;> omega
theorem lC_le {a b : Nat} (ha : a < 2 ^ 63) (hb : b < 2 ^ 63) : lC a ≤ lC b ↔ a ≤ b := by
  rw [Int64.le_iff_toInt_le, lC_T ha, lC_T hb]; split <;> split <;> omega
theorem lC_neg {e : Nat} (h : e < 2 ^ 63) : lC e < 0 ↔ e = 0 := by
  rw [Int64.lt_iff_toInt_lt, lC_T h, Int64.toInt_zero]; split <;> omega
theorem iC_neg {e : Nat} (h : e < 2 ^ 31) : iC e < 0 ↔ e = 0 := by
  rw [Int32.lt_iff_toInt_lt, iC_T h, Int32.toInt_zero]; split <;> omega
theorem lM_m1 {e : Nat} (h : e < 2 ^ 63) : lM e = -1 ↔ e = 0 := by
  rw [show (-1 : Int64) = lM 0 from rfl, lM_eq h (by omega)]
theorem iM_m1 {e : Nat} (h : e < 2 ^ 31) : iM e = -1 ↔ e = 0 := by
  rw [← Int32.toInt_inj, iM_T h]
  show (e : Int) - 1 = -1 ↔ _
  omega
/-- the greater of two -/
theorem ifmax (a b : Nat) : (if a < b then b else a) = max a b := by
  rw [Nat.max_def]; split <;> split <;> omega
theorem ifmax' (a b : Nat) : (if b < a then a else b) = max a b := by
  rw [Nat.max_def]; split <;> split <;> omega
theorem ifmin (a b : Nat) : (if b < a then b else a) = min a b := by
  rw [Nat.min_def]; split <;> split <;> omega
/-- Bond.dropRights -/
def drF (k : Nat) (f : Nat → Int32) : Nat → Int32 := fun i => if k ≤ i ∧ i < k + 6 then -2 else f i
theorem xset {k : Nat} (h : k < 36) (v : Int32) (f : Nat → Int32) : fX0_set (nI k) v f = some (upd f k v) := by
  unfold fX0_set
  rw [if_neg (nI_pos (by omega)), if_neg (show ¬ (36 : Int32) ≤ nI k from nI_ge (b := 36) h (by omega)), og_mk _ (okI_nI h (by omega)), nm_mk, nI_clamp (by omega)]
  rfl
theorem dr_loop (k : Nat) (hk : k + 6 ≤ 36) : ∀ (j n : Nat) (f : Nat → Int32), j ≤ 6 → lpX0_dropRights_2 (nI k) (n + j + 1) (nI (6 - j)) f = some (fun i => if k + (6 - j) ≤ i ∧ i < k + 6 then -2 else f i) := by
  intro j
  induction j with
  | zero =>
    intro n f _
    rw [lpX0_dropRights_2.eq_2, if_pos (show (6 : Int32) ≤ nI (6 - 0) from nI_le (a := 6) (b := 6) (Nat.le_refl 6) (by omega))]
    congr 1
    funext i
    rw [if_neg (by omega)]
  | succ j ih =>
    intro n f hj
    rw [show n + (j + 1) + 1 = (n + j + 1) + 1 by omega, lpX0_dropRights_2.eq_2, if_neg (show ¬ (6 : Int32) ≤ nI (6 - (j + 1)) from nI_ge (b := 6) (by omega) (by omega)), nI_add, xset (by omega), bd1_mk, nm_mk, nI_1, show 6 - (j + 1) + 1 = 6 - j by omega, ih n _ (by omega)]
    congr 1
    funext i
    unfold upd
    by_cases h1 : i = k + (6 - (j + 1))
    · subst h1
      rw [if_pos rfl, ite_self, if_pos (by omega)]
    · rw [if_neg h1]
      by_cases h2 : k + (6 - j) ≤ i ∧ i < k + 6
      · rw [if_pos h2, if_pos (by omega)]
      · rw [if_neg h2, if_neg (by omega)]
theorem xdrop (k : Nat) (hk : k + 6 ≤ 36) (f : Nat → Int32) : fX0_dropRights (nI k) f = some (drF k f) := by
  unfold fX0_dropRights
  obtain ⟨n, hn⟩ := fu_s 6 (by omega)
  rw [hn, show (0 : Int32) = nI (6 - 6) from rfl, dr_loop k hk 6 n f (Nat.le_refl 6)]
  rfl
theorem dr_eq20 (f : Nat → Int32) : fX0_dropRights 20 f = some (drF 20 f) := xdrop 20 (by omega) f
theorem dr_eq30 (f : Nat → Int32) : fX0_dropRights 30 f = some (drF 30 f) := xdrop 30 (by omega) f
def tP0 : Nat → Int32 := upd (upd (upd (upd (upd (upd (upd (upd (upd (fun _ => 0) (Int32.toNatClampNeg 0) 3) (Int32.toNatClampNeg 1) 100) (Int32.toNatClampNeg 2) 6) (Int32.toNatClampNeg 3) 5) (Int32.toNatClampNeg 4) 5) (Int32.toNatClampNeg 5) 6) (Int32.toNatClampNeg 6) 1) (Int32.toNatClampNeg 7) 2) (Int32.toNatClampNeg 8) 0
def bT0 : Nat → Int32 := drF 30 (drF 20 (upd (upd (upd (upd (fun _ => 0) (Int32.toNatClampNeg 0) 10000) (Int32.toNatClampNeg 1) 100) (Int32.toNatClampNeg 3) 6) (Int32.toNatClampNeg 5) 1))
