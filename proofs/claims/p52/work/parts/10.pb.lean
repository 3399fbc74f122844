/-! the words of the pure side (own rows): guards, named values, results bound -/
/-- the words of the pure side: a guard, a named value, results bound -/
def og {α : Type} (c : Bool) (k : Option α) : Option α := if c = true then k else none
theorem og_some {α : Type} {c : Bool} {k : Option α} {z : α} (h : og c k = some z) : c = true ∧ k = some z := by
  unfold og at h
  by_cases hc : c = true
  · rw [if_pos hc] at h; exact ⟨hc, h⟩
  · rw [if_neg hc] at h; cases h
def nm {α β : Type} (e : α) (k : α → Option β) : Option β := k e
theorem nm_at {α β : Type} {e v : α} {k : α → Option β} {z : β} (h : nm e k = some z) (ev : v = e) : k v = some z := by
  subst ev; exact h
theorem ifp {α : Type} {c : Prop} {_ : Decidable c} {A B : Option α} {z : α} (hc : c) (h : (if c then A else B) = some z) : A = some z := by rwa [if_pos hc] at h
theorem ifn {α : Type} {c : Prop} {_ : Decidable c} {A B : Option α} {z : α} (hc : ¬ c) (h : (if c then A else B) = some z) : B = some z := by rwa [if_neg hc] at h
def jp {α β : Type} (k : α) (f : α → β) : β := f k
def okI (i : Int32) (n : Nat) : Bool := decide (0 ≤ i) && decide (i.toNatClampNeg < n)
theorem okI_in {i : Int32} {n : Nat} (h : okI i n = true) : vp_in i n := by
  unfold okI at h
  rw [Bool.and_eq_true] at h
  have h1 := of_decide_eq_true h.1
  have h2 := of_decide_eq_true h.2
  rw [Int32.le_iff_toInt_le] at h1
  exact fun q => q.elim (fun q => by rw [Int32.lt_iff_toInt_lt] at q; exact absurd h1 (Int.not_le.mpr q)) (fun q => absurd h2 (Nat.not_lt.mpr q))
def nzI (y : Int32) : Bool := !decide (y = 0)
theorem nzI_ne {y : Int32} (h : nzI y = true) : ¬ y = 0 := by
  unfold nzI at h
  intro q
  rw [decide_eq_true q] at h
  cases h
def nzL (y : Int64) : Bool := !decide (y = 0)
theorem nzL_ne {y : Int64} (h : nzL y = true) : ¬ y = 0 := by
  unfold nzL at h
  intro q
  rw [decide_eq_true q] at h
  cases h
def boB (r : Int32) : Bool := decide (r = 0) || decide (r = 1)
theorem boB_nar {r : Int32} (h : boB r = true) : narrow .boolean (.int r) = .int r := by
  unfold boB at h
  rw [Bool.or_eq_true] at h
  rcases h with h | h
  · rw [of_decide_eq_true h]; rfl
  · rw [of_decide_eq_true h]; rfl
theorem boB_fit {r : Int32} (h : boB r = true) : fits .boolean (.int r) = true := by
  unfold boB at h
  rw [Bool.or_eq_true] at h
  rcases h with h | h
  · rw [of_decide_eq_true h]; rfl
  · rw [of_decide_eq_true h]; rfl
theorem lc_lt {x y : Int64} : lg_cmp x y < 0 ↔ x < y := by
  unfold lg_cmp
  by_cases h1 : x > y
  · rw [if_pos h1]; exact ⟨fun h => absurd h (by decide), fun h => absurd h (Int64.lt_asymm h1)⟩
  · rw [if_neg h1]
    by_cases h2 : x = y
    · rw [if_pos h2]; exact ⟨fun h => absurd h (by decide), fun h => by rw [h2] at h; exact absurd h (Int64.lt_irrefl)⟩
    · rw [if_neg h2]
      refine ⟨fun _ => ?_, fun _ => by decide⟩
      rw [Int64.lt_iff_toInt_lt]
      have h3 : ¬ y.toInt < x.toInt := fun h => h1 (Int64.lt_iff_toInt_lt.mpr h)
      have h4 : x.toInt ≠ y.toInt := fun h => h2 (Int64.toInt_inj.mp h)
      omega
theorem lc_ge {x y : Int64} : 0 ≤ lg_cmp x y ↔ y ≤ x := lg_cmp_ge x y
theorem lc_le {x y : Int64} : lg_cmp x y ≤ 0 ↔ x ≤ y := lg_cmp_le x y
theorem lc_gt {x y : Int64} : 0 < lg_cmp x y ↔ y < x := by
  have h : 0 < lg_cmp x y ↔ ¬ lg_cmp x y ≤ 0 := by rw [Int32.not_le]
  rw [h, lg_cmp_le, Int64.not_le]
theorem lc_eq {x y : Int64} : lg_cmp x y = 0 ↔ x = y := by
  unfold lg_cmp
  by_cases h1 : x > y
  · rw [if_pos h1]; exact ⟨fun h => absurd h (by decide), fun h => by rw [h] at h1; exact absurd h1 (Int64.lt_irrefl)⟩
  · rw [if_neg h1]
    by_cases h2 : x = y
    · rw [if_pos h2]; exact ⟨fun _ => h2, fun _ => rfl⟩
    · rw [if_neg h2]; exact ⟨fun h => absurd h (by decide), fun h => absurd h h2⟩
def FU : Nat := 1048576
def bd1 {T0 Z : Type} (o : Option (T0)) (k : T0 → Option Z) : Option Z := match o with
  | none => none
  | some (a0) => k a0
theorem bd1_some {T0 Z : Type} {o : Option (T0)} {k : T0 → Option Z} {z : Z} (h : bd1 o k = some z) : ∃ a0, o = some (a0) ∧ k a0 = some z := by
  cases o with
  | none => cases h
  | some v => exact ⟨v, rfl, h⟩
theorem bd1_mk {T0 Z : Type} (a0 : T0) (k : T0 → Option Z) : bd1 (some (a0)) k = k a0 := rfl
def bd2 {T0 T1 Z : Type} (o : Option (T0 × T1)) (k : T0 → T1 → Option Z) : Option Z := match o with
  | none => none
  | some (a0, a1) => k a0 a1
theorem bd2_some {T0 T1 Z : Type} {o : Option (T0 × T1)} {k : T0 → T1 → Option Z} {z : Z} (h : bd2 o k = some z) : ∃ a0 a1, o = some (a0, a1) ∧ k a0 a1 = some z := by
  cases o with
  | none => cases h
  | some v => obtain ⟨a0, a1⟩ := v; exact ⟨a0, a1, rfl, h⟩
theorem bd2_mk {T0 T1 Z : Type} (a0 : T0) (a1 : T1) (k : T0 → T1 → Option Z) : bd2 (some (a0, a1)) k = k a0 a1 := rfl
def bd3 {T0 T1 T2 Z : Type} (o : Option (T0 × T1 × T2)) (k : T0 → T1 → T2 → Option Z) : Option Z := match o with
  | none => none
  | some (a0, a1, a2) => k a0 a1 a2
theorem bd3_some {T0 T1 T2 Z : Type} {o : Option (T0 × T1 × T2)} {k : T0 → T1 → T2 → Option Z} {z : Z} (h : bd3 o k = some z) : ∃ a0 a1 a2, o = some (a0, a1, a2) ∧ k a0 a1 a2 = some z := by
  cases o with
  | none => cases h
  | some v => obtain ⟨a0, a1, a2⟩ := v; exact ⟨a0, a1, a2, rfl, h⟩
theorem bd3_mk {T0 T1 T2 Z : Type} (a0 : T0) (a1 : T1) (a2 : T2) (k : T0 → T1 → T2 → Option Z) : bd3 (some (a0, a1, a2)) k = k a0 a1 a2 := rfl
def bd4 {T0 T1 T2 T3 Z : Type} (o : Option (T0 × T1 × T2 × T3)) (k : T0 → T1 → T2 → T3 → Option Z) : Option Z := match o with
  | none => none
  | some (a0, a1, a2, a3) => k a0 a1 a2 a3
theorem bd4_some {T0 T1 T2 T3 Z : Type} {o : Option (T0 × T1 × T2 × T3)} {k : T0 → T1 → T2 → T3 → Option Z} {z : Z} (h : bd4 o k = some z) : ∃ a0 a1 a2 a3, o = some (a0, a1, a2, a3) ∧ k a0 a1 a2 a3 = some z := by
  cases o with
  | none => cases h
  | some v => obtain ⟨a0, a1, a2, a3⟩ := v; exact ⟨a0, a1, a2, a3, rfl, h⟩
theorem bd4_mk {T0 T1 T2 T3 Z : Type} (a0 : T0) (a1 : T1) (a2 : T2) (a3 : T3) (k : T0 → T1 → T2 → T3 → Option Z) : bd4 (some (a0, a1, a2, a3)) k = k a0 a1 a2 a3 := rfl
def bd5 {T0 T1 T2 T3 T4 Z : Type} (o : Option (T0 × T1 × T2 × T3 × T4)) (k : T0 → T1 → T2 → T3 → T4 → Option Z) : Option Z := match o with
  | none => none
  | some (a0, a1, a2, a3, a4) => k a0 a1 a2 a3 a4
theorem bd5_some {T0 T1 T2 T3 T4 Z : Type} {o : Option (T0 × T1 × T2 × T3 × T4)} {k : T0 → T1 → T2 → T3 → T4 → Option Z} {z : Z} (h : bd5 o k = some z) : ∃ a0 a1 a2 a3 a4, o = some (a0, a1, a2, a3, a4) ∧ k a0 a1 a2 a3 a4 = some z := by
  cases o with
  | none => cases h
  | some v => obtain ⟨a0, a1, a2, a3, a4⟩ := v; exact ⟨a0, a1, a2, a3, a4, rfl, h⟩
theorem bd5_mk {T0 T1 T2 T3 T4 Z : Type} (a0 : T0) (a1 : T1) (a2 : T2) (a3 : T3) (a4 : T4) (k : T0 → T1 → T2 → T3 → T4 → Option Z) : bd5 (some (a0, a1, a2, a3, a4)) k = k a0 a1 a2 a3 a4 := rfl
def bd6 {T0 T1 T2 T3 T4 T5 Z : Type} (o : Option (T0 × T1 × T2 × T3 × T4 × T5)) (k : T0 → T1 → T2 → T3 → T4 → T5 → Option Z) : Option Z := match o with
  | none => none
  | some (a0, a1, a2, a3, a4, a5) => k a0 a1 a2 a3 a4 a5
theorem bd6_some {T0 T1 T2 T3 T4 T5 Z : Type} {o : Option (T0 × T1 × T2 × T3 × T4 × T5)} {k : T0 → T1 → T2 → T3 → T4 → T5 → Option Z} {z : Z} (h : bd6 o k = some z) : ∃ a0 a1 a2 a3 a4 a5, o = some (a0, a1, a2, a3, a4, a5) ∧ k a0 a1 a2 a3 a4 a5 = some z := by
  cases o with
  | none => cases h
  | some v => obtain ⟨a0, a1, a2, a3, a4, a5⟩ := v; exact ⟨a0, a1, a2, a3, a4, a5, rfl, h⟩
theorem bd6_mk {T0 T1 T2 T3 T4 T5 Z : Type} (a0 : T0) (a1 : T1) (a2 : T2) (a3 : T3) (a4 : T4) (a5 : T5) (k : T0 → T1 → T2 → T3 → T4 → T5 → Option Z) : bd6 (some (a0, a1, a2, a3, a4, a5)) k = k a0 a1 a2 a3 a4 a5 := rfl
def bd7 {T0 T1 T2 T3 T4 T5 T6 Z : Type} (o : Option (T0 × T1 × T2 × T3 × T4 × T5 × T6)) (k : T0 → T1 → T2 → T3 → T4 → T5 → T6 → Option Z) : Option Z := match o with
  | none => none
  | some (a0, a1, a2, a3, a4, a5, a6) => k a0 a1 a2 a3 a4 a5 a6
theorem bd7_some {T0 T1 T2 T3 T4 T5 T6 Z : Type} {o : Option (T0 × T1 × T2 × T3 × T4 × T5 × T6)} {k : T0 → T1 → T2 → T3 → T4 → T5 → T6 → Option Z} {z : Z} (h : bd7 o k = some z) : ∃ a0 a1 a2 a3 a4 a5 a6, o = some (a0, a1, a2, a3, a4, a5, a6) ∧ k a0 a1 a2 a3 a4 a5 a6 = some z := by
  cases o with
  | none => cases h
  | some v => obtain ⟨a0, a1, a2, a3, a4, a5, a6⟩ := v; exact ⟨a0, a1, a2, a3, a4, a5, a6, rfl, h⟩
theorem bd7_mk {T0 T1 T2 T3 T4 T5 T6 Z : Type} (a0 : T0) (a1 : T1) (a2 : T2) (a3 : T3) (a4 : T4) (a5 : T5) (a6 : T6) (k : T0 → T1 → T2 → T3 → T4 → T5 → T6 → Option Z) : bd7 (some (a0, a1, a2, a3, a4, a5, a6)) k = k a0 a1 a2 a3 a4 a5 a6 := rfl
def bd8 {T0 T1 T2 T3 T4 T5 T6 T7 Z : Type} (o : Option (T0 × T1 × T2 × T3 × T4 × T5 × T6 × T7)) (k : T0 → T1 → T2 → T3 → T4 → T5 → T6 → T7 → Option Z) : Option Z := match o with
  | none => none
  | some (a0, a1, a2, a3, a4, a5, a6, a7) => k a0 a1 a2 a3 a4 a5 a6 a7
theorem bd8_some {T0 T1 T2 T3 T4 T5 T6 T7 Z : Type} {o : Option (T0 × T1 × T2 × T3 × T4 × T5 × T6 × T7)} {k : T0 → T1 → T2 → T3 → T4 → T5 → T6 → T7 → Option Z} {z : Z} (h : bd8 o k = some z) : ∃ a0 a1 a2 a3 a4 a5 a6 a7, o = some (a0, a1, a2, a3, a4, a5, a6, a7) ∧ k a0 a1 a2 a3 a4 a5 a6 a7 = some z := by
  cases o with
  | none => cases h
  | some v => obtain ⟨a0, a1, a2, a3, a4, a5, a6, a7⟩ := v; exact ⟨a0, a1, a2, a3, a4, a5, a6, a7, rfl, h⟩
theorem bd8_mk {T0 T1 T2 T3 T4 T5 T6 T7 Z : Type} (a0 : T0) (a1 : T1) (a2 : T2) (a3 : T3) (a4 : T4) (a5 : T5) (a6 : T6) (a7 : T7) (k : T0 → T1 → T2 → T3 → T4 → T5 → T6 → T7 → Option Z) : bd8 (some (a0, a1, a2, a3, a4, a5, a6, a7)) k = k a0 a1 a2 a3 a4 a5 a6 a7 := rfl
def bd9 {T0 T1 T2 T3 T4 T5 T6 T7 T8 Z : Type} (o : Option (T0 × T1 × T2 × T3 × T4 × T5 × T6 × T7 × T8)) (k : T0 → T1 → T2 → T3 → T4 → T5 → T6 → T7 → T8 → Option Z) : Option Z := match o with
  | none => none
  | some (a0, a1, a2, a3, a4, a5, a6, a7, a8) => k a0 a1 a2 a3 a4 a5 a6 a7 a8
theorem bd9_some {T0 T1 T2 T3 T4 T5 T6 T7 T8 Z : Type} {o : Option (T0 × T1 × T2 × T3 × T4 × T5 × T6 × T7 × T8)} {k : T0 → T1 → T2 → T3 → T4 → T5 → T6 → T7 → T8 → Option Z} {z : Z} (h : bd9 o k = some z) : ∃ a0 a1 a2 a3 a4 a5 a6 a7 a8, o = some (a0, a1, a2, a3, a4, a5, a6, a7, a8) ∧ k a0 a1 a2 a3 a4 a5 a6 a7 a8 = some z := by
  cases o with
  | none => cases h
  | some v => obtain ⟨a0, a1, a2, a3, a4, a5, a6, a7, a8⟩ := v; exact ⟨a0, a1, a2, a3, a4, a5, a6, a7, a8, rfl, h⟩
theorem bd9_mk {T0 T1 T2 T3 T4 T5 T6 T7 T8 Z : Type} (a0 : T0) (a1 : T1) (a2 : T2) (a3 : T3) (a4 : T4) (a5 : T5) (a6 : T6) (a7 : T7) (a8 : T8) (k : T0 → T1 → T2 → T3 → T4 → T5 → T6 → T7 → T8 → Option Z) : bd9 (some (a0, a1, a2, a3, a4, a5, a6, a7, a8)) k = k a0 a1 a2 a3 a4 a5 a6 a7 a8 := rfl
def bd10 {T0 T1 T2 T3 T4 T5 T6 T7 T8 T9 Z : Type} (o : Option (T0 × T1 × T2 × T3 × T4 × T5 × T6 × T7 × T8 × T9)) (k : T0 → T1 → T2 → T3 → T4 → T5 → T6 → T7 → T8 → T9 → Option Z) : Option Z := match o with
  | none => none
  | some (a0, a1, a2, a3, a4, a5, a6, a7, a8, a9) => k a0 a1 a2 a3 a4 a5 a6 a7 a8 a9
theorem bd10_some {T0 T1 T2 T3 T4 T5 T6 T7 T8 T9 Z : Type} {o : Option (T0 × T1 × T2 × T3 × T4 × T5 × T6 × T7 × T8 × T9)} {k : T0 → T1 → T2 → T3 → T4 → T5 → T6 → T7 → T8 → T9 → Option Z} {z : Z} (h : bd10 o k = some z) : ∃ a0 a1 a2 a3 a4 a5 a6 a7 a8 a9, o = some (a0, a1, a2, a3, a4, a5, a6, a7, a8, a9) ∧ k a0 a1 a2 a3 a4 a5 a6 a7 a8 a9 = some z := by
  cases o with
  | none => cases h
  | some v => obtain ⟨a0, a1, a2, a3, a4, a5, a6, a7, a8, a9⟩ := v; exact ⟨a0, a1, a2, a3, a4, a5, a6, a7, a8, a9, rfl, h⟩
theorem bd10_mk {T0 T1 T2 T3 T4 T5 T6 T7 T8 T9 Z : Type} (a0 : T0) (a1 : T1) (a2 : T2) (a3 : T3) (a4 : T4) (a5 : T5) (a6 : T6) (a7 : T7) (a8 : T8) (a9 : T9) (k : T0 → T1 → T2 → T3 → T4 → T5 → T6 → T7 → T8 → T9 → Option Z) : bd10 (some (a0, a1, a2, a3, a4, a5, a6, a7, a8, a9)) k = k a0 a1 a2 a3 a4 a5 a6 a7 a8 a9 := rfl
def bd11 {T0 T1 T2 T3 T4 T5 T6 T7 T8 T9 T10 Z : Type} (o : Option (T0 × T1 × T2 × T3 × T4 × T5 × T6 × T7 × T8 × T9 × T10)) (k : T0 → T1 → T2 → T3 → T4 → T5 → T6 → T7 → T8 → T9 → T10 → Option Z) : Option Z := match o with
  | none => none
  | some (a0, a1, a2, a3, a4, a5, a6, a7, a8, a9, a10) => k a0 a1 a2 a3 a4 a5 a6 a7 a8 a9 a10
theorem bd11_some {T0 T1 T2 T3 T4 T5 T6 T7 T8 T9 T10 Z : Type} {o : Option (T0 × T1 × T2 × T3 × T4 × T5 × T6 × T7 × T8 × T9 × T10)} {k : T0 → T1 → T2 → T3 → T4 → T5 → T6 → T7 → T8 → T9 → T10 → Option Z} {z : Z} (h : bd11 o k = some z) : ∃ a0 a1 a2 a3 a4 a5 a6 a7 a8 a9 a10, o = some (a0, a1, a2, a3, a4, a5, a6, a7, a8, a9, a10) ∧ k a0 a1 a2 a3 a4 a5 a6 a7 a8 a9 a10 = some z := by
  cases o with
  | none => cases h
  | some v => obtain ⟨a0, a1, a2, a3, a4, a5, a6, a7, a8, a9, a10⟩ := v; exact ⟨a0, a1, a2, a3, a4, a5, a6, a7, a8, a9, a10, rfl, h⟩
theorem bd11_mk {T0 T1 T2 T3 T4 T5 T6 T7 T8 T9 T10 Z : Type} (a0 : T0) (a1 : T1) (a2 : T2) (a3 : T3) (a4 : T4) (a5 : T5) (a6 : T6) (a7 : T7) (a8 : T8) (a9 : T9) (a10 : T10) (k : T0 → T1 → T2 → T3 → T4 → T5 → T6 → T7 → T8 → T9 → T10 → Option Z) : bd11 (some (a0, a1, a2, a3, a4, a5, a6, a7, a8, a9, a10)) k = k a0 a1 a2 a3 a4 a5 a6 a7 a8 a9 a10 := rfl
def bd12 {T0 T1 T2 T3 T4 T5 T6 T7 T8 T9 T10 T11 Z : Type} (o : Option (T0 × T1 × T2 × T3 × T4 × T5 × T6 × T7 × T8 × T9 × T10 × T11)) (k : T0 → T1 → T2 → T3 → T4 → T5 → T6 → T7 → T8 → T9 → T10 → T11 → Option Z) : Option Z := match o with
  | none => none
  | some (a0, a1, a2, a3, a4, a5, a6, a7, a8, a9, a10, a11) => k a0 a1 a2 a3 a4 a5 a6 a7 a8 a9 a10 a11
theorem bd12_some {T0 T1 T2 T3 T4 T5 T6 T7 T8 T9 T10 T11 Z : Type} {o : Option (T0 × T1 × T2 × T3 × T4 × T5 × T6 × T7 × T8 × T9 × T10 × T11)} {k : T0 → T1 → T2 → T3 → T4 → T5 → T6 → T7 → T8 → T9 → T10 → T11 → Option Z} {z : Z} (h : bd12 o k = some z) : ∃ a0 a1 a2 a3 a4 a5 a6 a7 a8 a9 a10 a11, o = some (a0, a1, a2, a3, a4, a5, a6, a7, a8, a9, a10, a11) ∧ k a0 a1 a2 a3 a4 a5 a6 a7 a8 a9 a10 a11 = some z := by
  cases o with
  | none => cases h
  | some v => obtain ⟨a0, a1, a2, a3, a4, a5, a6, a7, a8, a9, a10, a11⟩ := v; exact ⟨a0, a1, a2, a3, a4, a5, a6, a7, a8, a9, a10, a11, rfl, h⟩
theorem bd12_mk {T0 T1 T2 T3 T4 T5 T6 T7 T8 T9 T10 T11 Z : Type} (a0 : T0) (a1 : T1) (a2 : T2) (a3 : T3) (a4 : T4) (a5 : T5) (a6 : T6) (a7 : T7) (a8 : T8) (a9 : T9) (a10 : T10) (a11 : T11) (k : T0 → T1 → T2 → T3 → T4 → T5 → T6 → T7 → T8 → T9 → T10 → T11 → Option Z) : bd12 (some (a0, a1, a2, a3, a4, a5, a6, a7, a8, a9, a10, a11)) k = k a0 a1 a2 a3 a4 a5 a6 a7 a8 a9 a10 a11 := rfl
def bd13 {T0 T1 T2 T3 T4 T5 T6 T7 T8 T9 T10 T11 T12 Z : Type} (o : Option (T0 × T1 × T2 × T3 × T4 × T5 × T6 × T7 × T8 × T9 × T10 × T11 × T12)) (k : T0 → T1 → T2 → T3 → T4 → T5 → T6 → T7 → T8 → T9 → T10 → T11 → T12 → Option Z) : Option Z := match o with
  | none => none
  | some (a0, a1, a2, a3, a4, a5, a6, a7, a8, a9, a10, a11, a12) => k a0 a1 a2 a3 a4 a5 a6 a7 a8 a9 a10 a11 a12
theorem bd13_some {T0 T1 T2 T3 T4 T5 T6 T7 T8 T9 T10 T11 T12 Z : Type} {o : Option (T0 × T1 × T2 × T3 × T4 × T5 × T6 × T7 × T8 × T9 × T10 × T11 × T12)} {k : T0 → T1 → T2 → T3 → T4 → T5 → T6 → T7 → T8 → T9 → T10 → T11 → T12 → Option Z} {z : Z} (h : bd13 o k = some z) : ∃ a0 a1 a2 a3 a4 a5 a6 a7 a8 a9 a10 a11 a12, o = some (a0, a1, a2, a3, a4, a5, a6, a7, a8, a9, a10, a11, a12) ∧ k a0 a1 a2 a3 a4 a5 a6 a7 a8 a9 a10 a11 a12 = some z := by
  cases o with
  | none => cases h
  | some v => obtain ⟨a0, a1, a2, a3, a4, a5, a6, a7, a8, a9, a10, a11, a12⟩ := v; exact ⟨a0, a1, a2, a3, a4, a5, a6, a7, a8, a9, a10, a11, a12, rfl, h⟩
theorem bd13_mk {T0 T1 T2 T3 T4 T5 T6 T7 T8 T9 T10 T11 T12 Z : Type} (a0 : T0) (a1 : T1) (a2 : T2) (a3 : T3) (a4 : T4) (a5 : T5) (a6 : T6) (a7 : T7) (a8 : T8) (a9 : T9) (a10 : T10) (a11 : T11) (a12 : T12) (k : T0 → T1 → T2 → T3 → T4 → T5 → T6 → T7 → T8 → T9 → T10 → T11 → T12 → Option Z) : bd13 (some (a0, a1, a2, a3, a4, a5, a6, a7, a8, a9, a10, a11, a12)) k = k a0 a1 a2 a3 a4 a5 a6 a7 a8 a9 a10 a11 a12 := rfl
def bd14 {T0 T1 T2 T3 T4 T5 T6 T7 T8 T9 T10 T11 T12 T13 Z : Type} (o : Option (T0 × T1 × T2 × T3 × T4 × T5 × T6 × T7 × T8 × T9 × T10 × T11 × T12 × T13)) (k : T0 → T1 → T2 → T3 → T4 → T5 → T6 → T7 → T8 → T9 → T10 → T11 → T12 → T13 → Option Z) : Option Z := match o with
  | none => none
  | some (a0, a1, a2, a3, a4, a5, a6, a7, a8, a9, a10, a11, a12, a13) => k a0 a1 a2 a3 a4 a5 a6 a7 a8 a9 a10 a11 a12 a13
theorem bd14_some {T0 T1 T2 T3 T4 T5 T6 T7 T8 T9 T10 T11 T12 T13 Z : Type} {o : Option (T0 × T1 × T2 × T3 × T4 × T5 × T6 × T7 × T8 × T9 × T10 × T11 × T12 × T13)} {k : T0 → T1 → T2 → T3 → T4 → T5 → T6 → T7 → T8 → T9 → T10 → T11 → T12 → T13 → Option Z} {z : Z} (h : bd14 o k = some z) : ∃ a0 a1 a2 a3 a4 a5 a6 a7 a8 a9 a10 a11 a12 a13, o = some (a0, a1, a2, a3, a4, a5, a6, a7, a8, a9, a10, a11, a12, a13) ∧ k a0 a1 a2 a3 a4 a5 a6 a7 a8 a9 a10 a11 a12 a13 = some z := by
  cases o with
  | none => cases h
  | some v => obtain ⟨a0, a1, a2, a3, a4, a5, a6, a7, a8, a9, a10, a11, a12, a13⟩ := v; exact ⟨a0, a1, a2, a3, a4, a5, a6, a7, a8, a9, a10, a11, a12, a13, rfl, h⟩
theorem bd14_mk {T0 T1 T2 T3 T4 T5 T6 T7 T8 T9 T10 T11 T12 T13 Z : Type} (a0 : T0) (a1 : T1) (a2 : T2) (a3 : T3) (a4 : T4) (a5 : T5) (a6 : T6) (a7 : T7) (a8 : T8) (a9 : T9) (a10 : T10) (a11 : T11) (a12 : T12) (a13 : T13) (k : T0 → T1 → T2 → T3 → T4 → T5 → T6 → T7 → T8 → T9 → T10 → T11 → T12 → T13 → Option Z) : bd14 (some (a0, a1, a2, a3, a4, a5, a6, a7, a8, a9, a10, a11, a12, a13)) k = k a0 a1 a2 a3 a4 a5 a6 a7 a8 a9 a10 a11 a12 a13 := rfl
def bd15 {T0 T1 T2 T3 T4 T5 T6 T7 T8 T9 T10 T11 T12 T13 T14 Z : Type} (o : Option (T0 × T1 × T2 × T3 × T4 × T5 × T6 × T7 × T8 × T9 × T10 × T11 × T12 × T13 × T14)) (k : T0 → T1 → T2 → T3 → T4 → T5 → T6 → T7 → T8 → T9 → T10 → T11 → T12 → T13 → T14 → Option Z) : Option Z := match o with
  | none => none
  | some (a0, a1, a2, a3, a4, a5, a6, a7, a8, a9, a10, a11, a12, a13, a14) => k a0 a1 a2 a3 a4 a5 a6 a7 a8 a9 a10 a11 a12 a13 a14
theorem bd15_some {T0 T1 T2 T3 T4 T5 T6 T7 T8 T9 T10 T11 T12 T13 T14 Z : Type} {o : Option (T0 × T1 × T2 × T3 × T4 × T5 × T6 × T7 × T8 × T9 × T10 × T11 × T12 × T13 × T14)} {k : T0 → T1 → T2 → T3 → T4 → T5 → T6 → T7 → T8 → T9 → T10 → T11 → T12 → T13 → T14 → Option Z} {z : Z} (h : bd15 o k = some z) : ∃ a0 a1 a2 a3 a4 a5 a6 a7 a8 a9 a10 a11 a12 a13 a14, o = some (a0, a1, a2, a3, a4, a5, a6, a7, a8, a9, a10, a11, a12, a13, a14) ∧ k a0 a1 a2 a3 a4 a5 a6 a7 a8 a9 a10 a11 a12 a13 a14 = some z := by
  cases o with
  | none => cases h
  | some v => obtain ⟨a0, a1, a2, a3, a4, a5, a6, a7, a8, a9, a10, a11, a12, a13, a14⟩ := v; exact ⟨a0, a1, a2, a3, a4, a5, a6, a7, a8, a9, a10, a11, a12, a13, a14, rfl, h⟩
theorem bd15_mk {T0 T1 T2 T3 T4 T5 T6 T7 T8 T9 T10 T11 T12 T13 T14 Z : Type} (a0 : T0) (a1 : T1) (a2 : T2) (a3 : T3) (a4 : T4) (a5 : T5) (a6 : T6) (a7 : T7) (a8 : T8) (a9 : T9) (a10 : T10) (a11 : T11) (a12 : T12) (a13 : T13) (a14 : T14) (k : T0 → T1 → T2 → T3 → T4 → T5 → T6 → T7 → T8 → T9 → T10 → T11 → T12 → T13 → T14 → Option Z) : bd15 (some (a0, a1, a2, a3, a4, a5, a6, a7, a8, a9, a10, a11, a12, a13, a14)) k = k a0 a1 a2 a3 a4 a5 a6 a7 a8 a9 a10 a11 a12 a13 a14 := rfl
def bd16 {T0 T1 T2 T3 T4 T5 T6 T7 T8 T9 T10 T11 T12 T13 T14 T15 Z : Type} (o : Option (T0 × T1 × T2 × T3 × T4 × T5 × T6 × T7 × T8 × T9 × T10 × T11 × T12 × T13 × T14 × T15)) (k : T0 → T1 → T2 → T3 → T4 → T5 → T6 → T7 → T8 → T9 → T10 → T11 → T12 → T13 → T14 → T15 → Option Z) : Option Z := match o with
  | none => none
  | some (a0, a1, a2, a3, a4, a5, a6, a7, a8, a9, a10, a11, a12, a13, a14, a15) => k a0 a1 a2 a3 a4 a5 a6 a7 a8 a9 a10 a11 a12 a13 a14 a15
theorem bd16_some {T0 T1 T2 T3 T4 T5 T6 T7 T8 T9 T10 T11 T12 T13 T14 T15 Z : Type} {o : Option (T0 × T1 × T2 × T3 × T4 × T5 × T6 × T7 × T8 × T9 × T10 × T11 × T12 × T13 × T14 × T15)} {k : T0 → T1 → T2 → T3 → T4 → T5 → T6 → T7 → T8 → T9 → T10 → T11 → T12 → T13 → T14 → T15 → Option Z} {z : Z} (h : bd16 o k = some z) : ∃ a0 a1 a2 a3 a4 a5 a6 a7 a8 a9 a10 a11 a12 a13 a14 a15, o = some (a0, a1, a2, a3, a4, a5, a6, a7, a8, a9, a10, a11, a12, a13, a14, a15) ∧ k a0 a1 a2 a3 a4 a5 a6 a7 a8 a9 a10 a11 a12 a13 a14 a15 = some z := by
  cases o with
  | none => cases h
  | some v => obtain ⟨a0, a1, a2, a3, a4, a5, a6, a7, a8, a9, a10, a11, a12, a13, a14, a15⟩ := v; exact ⟨a0, a1, a2, a3, a4, a5, a6, a7, a8, a9, a10, a11, a12, a13, a14, a15, rfl, h⟩
theorem bd16_mk {T0 T1 T2 T3 T4 T5 T6 T7 T8 T9 T10 T11 T12 T13 T14 T15 Z : Type} (a0 : T0) (a1 : T1) (a2 : T2) (a3 : T3) (a4 : T4) (a5 : T5) (a6 : T6) (a7 : T7) (a8 : T8) (a9 : T9) (a10 : T10) (a11 : T11) (a12 : T12) (a13 : T13) (a14 : T14) (a15 : T15) (k : T0 → T1 → T2 → T3 → T4 → T5 → T6 → T7 → T8 → T9 → T10 → T11 → T12 → T13 → T14 → T15 → Option Z) : bd16 (some (a0, a1, a2, a3, a4, a5, a6, a7, a8, a9, a10, a11, a12, a13, a14, a15)) k = k a0 a1 a2 a3 a4 a5 a6 a7 a8 a9 a10 a11 a12 a13 a14 a15 := rfl
theorem nm_mk {α β : Type} (e : α) (k : α → Option β) : nm e k = k e := rfl
theorem og_mk {α : Type} {c : Bool} (k : Option α) (h : c = true) : og c k = k := if_pos h
theorem FU_ge : 1000 ≤ FU := Nat.le_of_ble_eq_true rfl
