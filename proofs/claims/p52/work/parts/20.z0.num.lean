section
/-! pure: steps and numbers (own rows) -/
def Sx {α : Type} (o : Option α) (Q : α → Prop) : Prop := ∃ a, o = some a ∧ Q a
theorem Sx.mk {α : Type} {a : α} {Q : α → Prop} (h : Q a) : Sx (some a) Q := ⟨a, rfl, h⟩
theorem Sx.eq {α : Type} {o : Option α} {a : α} {Q : α → Prop} (e : o = some a) (h : Q a) : Sx o Q := ⟨a, e, h⟩
theorem Sx.imp {α : Type} {o : Option α} {Q R : α → Prop} (h : Sx o Q) (g : ∀ a, Q a → R a) : Sx o R := by
  obtain ⟨a, e, q⟩ := h; exact ⟨a, e, g a q⟩
theorem Sx.og {α : Type} {c : Bool} {k : Option α} {Q : α → Prop} (hc : c = true) (h : Sx k Q) : Sx (og c k) Q := by
  rw [og_mk _ hc]; exact h
theorem Sx.nm {α β : Type} {e : α} {k : α → Option β} {Q : β → Prop} (h : Sx (k e) Q) : Sx (nm e k) Q := h
theorem Sx.it {α : Type} {c : Prop} [Decidable c] {a b : Option α} {Q : α → Prop} (h1 : c → Sx a Q) (h2 : ¬ c → Sx b Q) : Sx (if c then a else b) Q := by
  by_cases h : c
  · rw [if_pos h]; exact h1 h
  · rw [if_neg h]; exact h2 h
theorem Sx.p {α : Type} {c : Prop} [Decidable c] {a b : Option α} {Q : α → Prop} (hc : c) (h : Sx a Q) : Sx (if c then a else b) Q := by rw [if_pos hc]; exact h
theorem Sx.n {α : Type} {c : Prop} [Decidable c] {a b : Option α} {Q : α → Prop} (hc : ¬ c) (h : Sx b Q) : Sx (if c then a else b) Q := by rw [if_neg hc]; exact h
theorem Sx.e1 {T0 Z : Type} {o : Option (T0)} {k : T0 → Option Z} {Q : Z → Prop} {a0 : T0} (e : o = some a0) (h : Sx (k a0) Q) : Sx (bd1 o k) Q := by rw [e]; exact h
theorem Sx.b1 {T0 Z : Type} {o : Option (T0)} {k : T0 → Option Z} {Q : Z → Prop} {P : T0 → Prop} (h : Sx o P) (g : ∀ a0, P a0 → Sx (k a0) Q) : Sx (bd1 o k) Q := by
  obtain ⟨a0, e, q⟩ := h
  rw [e]; exact g a0 q
theorem Sx.e2 {T0 T1 Z : Type} {o : Option (T0 × T1)} {k : T0 → T1 → Option Z} {Q : Z → Prop} {a0 : T0} {a1 : T1} (e : o = some (a0, a1)) (h : Sx (k a0 a1) Q) : Sx (bd2 o k) Q := by rw [e]; exact h
theorem Sx.b2 {T0 T1 Z : Type} {o : Option (T0 × T1)} {k : T0 → T1 → Option Z} {Q : Z → Prop} {P : T0 × T1 → Prop} (h : Sx o P) (g : ∀ a0 a1, P (a0, a1) → Sx (k a0 a1) Q) : Sx (bd2 o k) Q := by
  obtain ⟨⟨a0, a1⟩, e, q⟩ := h
  rw [e]; exact g a0 a1 q
theorem Sx.e3 {T0 T1 T2 Z : Type} {o : Option (T0 × T1 × T2)} {k : T0 → T1 → T2 → Option Z} {Q : Z → Prop} {a0 : T0} {a1 : T1} {a2 : T2} (e : o = some (a0, a1, a2)) (h : Sx (k a0 a1 a2) Q) : Sx (bd3 o k) Q := by rw [e]; exact h
theorem Sx.b3 {T0 T1 T2 Z : Type} {o : Option (T0 × T1 × T2)} {k : T0 → T1 → T2 → Option Z} {Q : Z → Prop} {P : T0 × T1 × T2 → Prop} (h : Sx o P) (g : ∀ a0 a1 a2, P (a0, a1, a2) → Sx (k a0 a1 a2) Q) : Sx (bd3 o k) Q := by
  obtain ⟨⟨a0, a1, a2⟩, e, q⟩ := h
  rw [e]; exact g a0 a1 a2 q
theorem Sx.e4 {T0 T1 T2 T3 Z : Type} {o : Option (T0 × T1 × T2 × T3)} {k : T0 → T1 → T2 → T3 → Option Z} {Q : Z → Prop} {a0 : T0} {a1 : T1} {a2 : T2} {a3 : T3} (e : o = some (a0, a1, a2, a3)) (h : Sx (k a0 a1 a2 a3) Q) : Sx (bd4 o k) Q := by rw [e]; exact h
theorem Sx.b4 {T0 T1 T2 T3 Z : Type} {o : Option (T0 × T1 × T2 × T3)} {k : T0 → T1 → T2 → T3 → Option Z} {Q : Z → Prop} {P : T0 × T1 × T2 × T3 → Prop} (h : Sx o P) (g : ∀ a0 a1 a2 a3, P (a0, a1, a2, a3) → Sx (k a0 a1 a2 a3) Q) : Sx (bd4 o k) Q := by
  obtain ⟨⟨a0, a1, a2, a3⟩, e, q⟩ := h
  rw [e]; exact g a0 a1 a2 a3 q
theorem Sx.e5 {T0 T1 T2 T3 T4 Z : Type} {o : Option (T0 × T1 × T2 × T3 × T4)} {k : T0 → T1 → T2 → T3 → T4 → Option Z} {Q : Z → Prop} {a0 : T0} {a1 : T1} {a2 : T2} {a3 : T3} {a4 : T4} (e : o = some (a0, a1, a2, a3, a4)) (h : Sx (k a0 a1 a2 a3 a4) Q) : Sx (bd5 o k) Q := by rw [e]; exact h
theorem Sx.b5 {T0 T1 T2 T3 T4 Z : Type} {o : Option (T0 × T1 × T2 × T3 × T4)} {k : T0 → T1 → T2 → T3 → T4 → Option Z} {Q : Z → Prop} {P : T0 × T1 × T2 × T3 × T4 → Prop} (h : Sx o P) (g : ∀ a0 a1 a2 a3 a4, P (a0, a1, a2, a3, a4) → Sx (k a0 a1 a2 a3 a4) Q) : Sx (bd5 o k) Q := by
  obtain ⟨⟨a0, a1, a2, a3, a4⟩, e, q⟩ := h
  rw [e]; exact g a0 a1 a2 a3 a4 q
theorem Sx.e6 {T0 T1 T2 T3 T4 T5 Z : Type} {o : Option (T0 × T1 × T2 × T3 × T4 × T5)} {k : T0 → T1 → T2 → T3 → T4 → T5 → Option Z} {Q : Z → Prop} {a0 : T0} {a1 : T1} {a2 : T2} {a3 : T3} {a4 : T4} {a5 : T5} (e : o = some (a0, a1, a2, a3, a4, a5)) (h : Sx (k a0 a1 a2 a3 a4 a5) Q) : Sx (bd6 o k) Q := by rw [e]; exact h
theorem Sx.b6 {T0 T1 T2 T3 T4 T5 Z : Type} {o : Option (T0 × T1 × T2 × T3 × T4 × T5)} {k : T0 → T1 → T2 → T3 → T4 → T5 → Option Z} {Q : Z → Prop} {P : T0 × T1 × T2 × T3 × T4 × T5 → Prop} (h : Sx o P) (g : ∀ a0 a1 a2 a3 a4 a5, P (a0, a1, a2, a3, a4, a5) → Sx (k a0 a1 a2 a3 a4 a5) Q) : Sx (bd6 o k) Q := by
  obtain ⟨⟨a0, a1, a2, a3, a4, a5⟩, e, q⟩ := h
  rw [e]; exact g a0 a1 a2 a3 a4 a5 q
theorem Sx.e7 {T0 T1 T2 T3 T4 T5 T6 Z : Type} {o : Option (T0 × T1 × T2 × T3 × T4 × T5 × T6)} {k : T0 → T1 → T2 → T3 → T4 → T5 → T6 → Option Z} {Q : Z → Prop} {a0 : T0} {a1 : T1} {a2 : T2} {a3 : T3} {a4 : T4} {a5 : T5} {a6 : T6} (e : o = some (a0, a1, a2, a3, a4, a5, a6)) (h : Sx (k a0 a1 a2 a3 a4 a5 a6) Q) : Sx (bd7 o k) Q := by rw [e]; exact h
theorem Sx.b7 {T0 T1 T2 T3 T4 T5 T6 Z : Type} {o : Option (T0 × T1 × T2 × T3 × T4 × T5 × T6)} {k : T0 → T1 → T2 → T3 → T4 → T5 → T6 → Option Z} {Q : Z → Prop} {P : T0 × T1 × T2 × T3 × T4 × T5 × T6 → Prop} (h : Sx o P) (g : ∀ a0 a1 a2 a3 a4 a5 a6, P (a0, a1, a2, a3, a4, a5, a6) → Sx (k a0 a1 a2 a3 a4 a5 a6) Q) : Sx (bd7 o k) Q := by
  obtain ⟨⟨a0, a1, a2, a3, a4, a5, a6⟩, e, q⟩ := h
  rw [e]; exact g a0 a1 a2 a3 a4 a5 a6 q
theorem Sx.e8 {T0 T1 T2 T3 T4 T5 T6 T7 Z : Type} {o : Option (T0 × T1 × T2 × T3 × T4 × T5 × T6 × T7)} {k : T0 → T1 → T2 → T3 → T4 → T5 → T6 → T7 → Option Z} {Q : Z → Prop} {a0 : T0} {a1 : T1} {a2 : T2} {a3 : T3} {a4 : T4} {a5 : T5} {a6 : T6} {a7 : T7} (e : o = some (a0, a1, a2, a3, a4, a5, a6, a7)) (h : Sx (k a0 a1 a2 a3 a4 a5 a6 a7) Q) : Sx (bd8 o k) Q := by rw [e]; exact h
theorem Sx.b8 {T0 T1 T2 T3 T4 T5 T6 T7 Z : Type} {o : Option (T0 × T1 × T2 × T3 × T4 × T5 × T6 × T7)} {k : T0 → T1 → T2 → T3 → T4 → T5 → T6 → T7 → Option Z} {Q : Z → Prop} {P : T0 × T1 × T2 × T3 × T4 × T5 × T6 × T7 → Prop} (h : Sx o P) (g : ∀ a0 a1 a2 a3 a4 a5 a6 a7, P (a0, a1, a2, a3, a4, a5, a6, a7) → Sx (k a0 a1 a2 a3 a4 a5 a6 a7) Q) : Sx (bd8 o k) Q := by
  obtain ⟨⟨a0, a1, a2, a3, a4, a5, a6, a7⟩, e, q⟩ := h
  rw [e]; exact g a0 a1 a2 a3 a4 a5 a6 a7 q
theorem Sx.e9 {T0 T1 T2 T3 T4 T5 T6 T7 T8 Z : Type} {o : Option (T0 × T1 × T2 × T3 × T4 × T5 × T6 × T7 × T8)} {k : T0 → T1 → T2 → T3 → T4 → T5 → T6 → T7 → T8 → Option Z} {Q : Z → Prop} {a0 : T0} {a1 : T1} {a2 : T2} {a3 : T3} {a4 : T4} {a5 : T5} {a6 : T6} {a7 : T7} {a8 : T8} (e : o = some (a0, a1, a2, a3, a4, a5, a6, a7, a8)) (h : Sx (k a0 a1 a2 a3 a4 a5 a6 a7 a8) Q) : Sx (bd9 o k) Q := by rw [e]; exact h
theorem Sx.b9 {T0 T1 T2 T3 T4 T5 T6 T7 T8 Z : Type} {o : Option (T0 × T1 × T2 × T3 × T4 × T5 × T6 × T7 × T8)} {k : T0 → T1 → T2 → T3 → T4 → T5 → T6 → T7 → T8 → Option Z} {Q : Z → Prop} {P : T0 × T1 × T2 × T3 × T4 × T5 × T6 × T7 × T8 → Prop} (h : Sx o P) (g : ∀ a0 a1 a2 a3 a4 a5 a6 a7 a8, P (a0, a1, a2, a3, a4, a5, a6, a7, a8) → Sx (k a0 a1 a2 a3 a4 a5 a6 a7 a8) Q) : Sx (bd9 o k) Q := by
  obtain ⟨⟨a0, a1, a2, a3, a4, a5, a6, a7, a8⟩, e, q⟩ := h
  rw [e]; exact g a0 a1 a2 a3 a4 a5 a6 a7 a8 q
theorem Sx.e10 {T0 T1 T2 T3 T4 T5 T6 T7 T8 T9 Z : Type} {o : Option (T0 × T1 × T2 × T3 × T4 × T5 × T6 × T7 × T8 × T9)} {k : T0 → T1 → T2 → T3 → T4 → T5 → T6 → T7 → T8 → T9 → Option Z} {Q : Z → Prop} {a0 : T0} {a1 : T1} {a2 : T2} {a3 : T3} {a4 : T4} {a5 : T5} {a6 : T6} {a7 : T7} {a8 : T8} {a9 : T9} (e : o = some (a0, a1, a2, a3, a4, a5, a6, a7, a8, a9)) (h : Sx (k a0 a1 a2 a3 a4 a5 a6 a7 a8 a9) Q) : Sx (bd10 o k) Q := by rw [e]; exact h
theorem Sx.b10 {T0 T1 T2 T3 T4 T5 T6 T7 T8 T9 Z : Type} {o : Option (T0 × T1 × T2 × T3 × T4 × T5 × T6 × T7 × T8 × T9)} {k : T0 → T1 → T2 → T3 → T4 → T5 → T6 → T7 → T8 → T9 → Option Z} {Q : Z → Prop} {P : T0 × T1 × T2 × T3 × T4 × T5 × T6 × T7 × T8 × T9 → Prop} (h : Sx o P) (g : ∀ a0 a1 a2 a3 a4 a5 a6 a7 a8 a9, P (a0, a1, a2, a3, a4, a5, a6, a7, a8, a9) → Sx (k a0 a1 a2 a3 a4 a5 a6 a7 a8 a9) Q) : Sx (bd10 o k) Q := by
  obtain ⟨⟨a0, a1, a2, a3, a4, a5, a6, a7, a8, a9⟩, e, q⟩ := h
  rw [e]; exact g a0 a1 a2 a3 a4 a5 a6 a7 a8 a9 q
theorem Sx.e11 {T0 T1 T2 T3 T4 T5 T6 T7 T8 T9 T10 Z : Type} {o : Option (T0 × T1 × T2 × T3 × T4 × T5 × T6 × T7 × T8 × T9 × T10)} {k : T0 → T1 → T2 → T3 → T4 → T5 → T6 → T7 → T8 → T9 → T10 → Option Z} {Q : Z → Prop} {a0 : T0} {a1 : T1} {a2 : T2} {a3 : T3} {a4 : T4} {a5 : T5} {a6 : T6} {a7 : T7} {a8 : T8} {a9 : T9} {a10 : T10} (e : o = some (a0, a1, a2, a3, a4, a5, a6, a7, a8, a9, a10)) (h : Sx (k a0 a1 a2 a3 a4 a5 a6 a7 a8 a9 a10) Q) : Sx (bd11 o k) Q := by rw [e]; exact h
theorem Sx.b11 {T0 T1 T2 T3 T4 T5 T6 T7 T8 T9 T10 Z : Type} {o : Option (T0 × T1 × T2 × T3 × T4 × T5 × T6 × T7 × T8 × T9 × T10)} {k : T0 → T1 → T2 → T3 → T4 → T5 → T6 → T7 → T8 → T9 → T10 → Option Z} {Q : Z → Prop} {P : T0 × T1 × T2 × T3 × T4 × T5 × T6 × T7 × T8 × T9 × T10 → Prop} (h : Sx o P) (g : ∀ a0 a1 a2 a3 a4 a5 a6 a7 a8 a9 a10, P (a0, a1, a2, a3, a4, a5, a6, a7, a8, a9, a10) → Sx (k a0 a1 a2 a3 a4 a5 a6 a7 a8 a9 a10) Q) : Sx (bd11 o k) Q := by
  obtain ⟨⟨a0, a1, a2, a3, a4, a5, a6, a7, a8, a9, a10⟩, e, q⟩ := h
  rw [e]; exact g a0 a1 a2 a3 a4 a5 a6 a7 a8 a9 a10 q
theorem Sx.e12 {T0 T1 T2 T3 T4 T5 T6 T7 T8 T9 T10 T11 Z : Type} {o : Option (T0 × T1 × T2 × T3 × T4 × T5 × T6 × T7 × T8 × T9 × T10 × T11)} {k : T0 → T1 → T2 → T3 → T4 → T5 → T6 → T7 → T8 → T9 → T10 → T11 → Option Z} {Q : Z → Prop} {a0 : T0} {a1 : T1} {a2 : T2} {a3 : T3} {a4 : T4} {a5 : T5} {a6 : T6} {a7 : T7} {a8 : T8} {a9 : T9} {a10 : T10} {a11 : T11} (e : o = some (a0, a1, a2, a3, a4, a5, a6, a7, a8, a9, a10, a11)) (h : Sx (k a0 a1 a2 a3 a4 a5 a6 a7 a8 a9 a10 a11) Q) : Sx (bd12 o k) Q := by rw [e]; exact h
theorem Sx.b12 {T0 T1 T2 T3 T4 T5 T6 T7 T8 T9 T10 T11 Z : Type} {o : Option (T0 × T1 × T2 × T3 × T4 × T5 × T6 × T7 × T8 × T9 × T10 × T11)} {k : T0 → T1 → T2 → T3 → T4 → T5 → T6 → T7 → T8 → T9 → T10 → T11 → Option Z} {Q : Z → Prop} {P : T0 × T1 × T2 × T3 × T4 × T5 × T6 × T7 × T8 × T9 × T10 × T11 → Prop} (h : Sx o P) (g : ∀ a0 a1 a2 a3 a4 a5 a6 a7 a8 a9 a10 a11, P (a0, a1, a2, a3, a4, a5, a6, a7, a8, a9, a10, a11) → Sx (k a0 a1 a2 a3 a4 a5 a6 a7 a8 a9 a10 a11) Q) : Sx (bd12 o k) Q := by
  obtain ⟨⟨a0, a1, a2, a3, a4, a5, a6, a7, a8, a9, a10, a11⟩, e, q⟩ := h
  rw [e]; exact g a0 a1 a2 a3 a4 a5 a6 a7 a8 a9 a10 a11 q
theorem Sx.e13 {T0 T1 T2 T3 T4 T5 T6 T7 T8 T9 T10 T11 T12 Z : Type} {o : Option (T0 × T1 × T2 × T3 × T4 × T5 × T6 × T7 × T8 × T9 × T10 × T11 × T12)} {k : T0 → T1 → T2 → T3 → T4 → T5 → T6 → T7 → T8 → T9 → T10 → T11 → T12 → Option Z} {Q : Z → Prop} {a0 : T0} {a1 : T1} {a2 : T2} {a3 : T3} {a4 : T4} {a5 : T5} {a6 : T6} {a7 : T7} {a8 : T8} {a9 : T9} {a10 : T10} {a11 : T11} {a12 : T12} (e : o = some (a0, a1, a2, a3, a4, a5, a6, a7, a8, a9, a10, a11, a12)) (h : Sx (k a0 a1 a2 a3 a4 a5 a6 a7 a8 a9 a10 a11 a12) Q) : Sx (bd13 o k) Q := by rw [e]; exact h
theorem Sx.b13 {T0 T1 T2 T3 T4 T5 T6 T7 T8 T9 T10 T11 T12 Z : Type} {o : Option (T0 × T1 × T2 × T3 × T4 × T5 × T6 × T7 × T8 × T9 × T10 × T11 × T12)} {k : T0 → T1 → T2 → T3 → T4 → T5 → T6 → T7 → T8 → T9 → T10 → T11 → T12 → Option Z} {Q : Z → Prop} {P : T0 × T1 × T2 × T3 × T4 × T5 × T6 × T7 × T8 × T9 × T10 × T11 × T12 → Prop} (h : Sx o P) (g : ∀ a0 a1 a2 a3 a4 a5 a6 a7 a8 a9 a10 a11 a12, P (a0, a1, a2, a3, a4, a5, a6, a7, a8, a9, a10, a11, a12) → Sx (k a0 a1 a2 a3 a4 a5 a6 a7 a8 a9 a10 a11 a12) Q) : Sx (bd13 o k) Q := by
  obtain ⟨⟨a0, a1, a2, a3, a4, a5, a6, a7, a8, a9, a10, a11, a12⟩, e, q⟩ := h
  rw [e]; exact g a0 a1 a2 a3 a4 a5 a6 a7 a8 a9 a10 a11 a12 q
theorem Sx.e14 {T0 T1 T2 T3 T4 T5 T6 T7 T8 T9 T10 T11 T12 T13 Z : Type} {o : Option (T0 × T1 × T2 × T3 × T4 × T5 × T6 × T7 × T8 × T9 × T10 × T11 × T12 × T13)} {k : T0 → T1 → T2 → T3 → T4 → T5 → T6 → T7 → T8 → T9 → T10 → T11 → T12 → T13 → Option Z} {Q : Z → Prop} {a0 : T0} {a1 : T1} {a2 : T2} {a3 : T3} {a4 : T4} {a5 : T5} {a6 : T6} {a7 : T7} {a8 : T8} {a9 : T9} {a10 : T10} {a11 : T11} {a12 : T12} {a13 : T13} (e : o = some (a0, a1, a2, a3, a4, a5, a6, a7, a8, a9, a10, a11, a12, a13)) (h : Sx (k a0 a1 a2 a3 a4 a5 a6 a7 a8 a9 a10 a11 a12 a13) Q) : Sx (bd14 o k) Q := by rw [e]; exact h
theorem Sx.b14 {T0 T1 T2 T3 T4 T5 T6 T7 T8 T9 T10 T11 T12 T13 Z : Type} {o : Option (T0 × T1 × T2 × T3 × T4 × T5 × T6 × T7 × T8 × T9 × T10 × T11 × T12 × T13)} {k : T0 → T1 → T2 → T3 → T4 → T5 → T6 → T7 → T8 → T9 → T10 → T11 → T12 → T13 → Option Z} {Q : Z → Prop} {P : T0 × T1 × T2 × T3 × T4 × T5 × T6 × T7 × T8 × T9 × T10 × T11 × T12 × T13 → Prop} (h : Sx o P) (g : ∀ a0 a1 a2 a3 a4 a5 a6 a7 a8 a9 a10 a11 a12 a13, P (a0, a1, a2, a3, a4, a5, a6, a7, a8, a9, a10, a11, a12, a13) → Sx (k a0 a1 a2 a3 a4 a5 a6 a7 a8 a9 a10 a11 a12 a13) Q) : Sx (bd14 o k) Q := by
  obtain ⟨⟨a0, a1, a2, a3, a4, a5, a6, a7, a8, a9, a10, a11, a12, a13⟩, e, q⟩ := h
  rw [e]; exact g a0 a1 a2 a3 a4 a5 a6 a7 a8 a9 a10 a11 a12 a13 q
theorem Sx.e15 {T0 T1 T2 T3 T4 T5 T6 T7 T8 T9 T10 T11 T12 T13 T14 Z : Type} {o : Option (T0 × T1 × T2 × T3 × T4 × T5 × T6 × T7 × T8 × T9 × T10 × T11 × T12 × T13 × T14)} {k : T0 → T1 → T2 → T3 → T4 → T5 → T6 → T7 → T8 → T9 → T10 → T11 → T12 → T13 → T14 → Option Z} {Q : Z → Prop} {a0 : T0} {a1 : T1} {a2 : T2} {a3 : T3} {a4 : T4} {a5 : T5} {a6 : T6} {a7 : T7} {a8 : T8} {a9 : T9} {a10 : T10} {a11 : T11} {a12 : T12} {a13 : T13} {a14 : T14} (e : o = some (a0, a1, a2, a3, a4, a5, a6, a7, a8, a9, a10, a11, a12, a13, a14)) (h : Sx (k a0 a1 a2 a3 a4 a5 a6 a7 a8 a9 a10 a11 a12 a13 a14) Q) : Sx (bd15 o k) Q := by rw [e]; exact h
theorem Sx.b15 {T0 T1 T2 T3 T4 T5 T6 T7 T8 T9 T10 T11 T12 T13 T14 Z : Type} {o : Option (T0 × T1 × T2 × T3 × T4 × T5 × T6 × T7 × T8 × T9 × T10 × T11 × T12 × T13 × T14)} {k : T0 → T1 → T2 → T3 → T4 → T5 → T6 → T7 → T8 → T9 → T10 → T11 → T12 → T13 → T14 → Option Z} {Q : Z → Prop} {P : T0 × T1 × T2 × T3 × T4 × T5 × T6 × T7 × T8 × T9 × T10 × T11 × T12 × T13 × T14 → Prop} (h : Sx o P) (g : ∀ a0 a1 a2 a3 a4 a5 a6 a7 a8 a9 a10 a11 a12 a13 a14, P (a0, a1, a2, a3, a4, a5, a6, a7, a8, a9, a10, a11, a12, a13, a14) → Sx (k a0 a1 a2 a3 a4 a5 a6 a7 a8 a9 a10 a11 a12 a13 a14) Q) : Sx (bd15 o k) Q := by
  obtain ⟨⟨a0, a1, a2, a3, a4, a5, a6, a7, a8, a9, a10, a11, a12, a13, a14⟩, e, q⟩ := h
  rw [e]; exact g a0 a1 a2 a3 a4 a5 a6 a7 a8 a9 a10 a11 a12 a13 a14 q
theorem Sx.e16 {T0 T1 T2 T3 T4 T5 T6 T7 T8 T9 T10 T11 T12 T13 T14 T15 Z : Type} {o : Option (T0 × T1 × T2 × T3 × T4 × T5 × T6 × T7 × T8 × T9 × T10 × T11 × T12 × T13 × T14 × T15)} {k : T0 → T1 → T2 → T3 → T4 → T5 → T6 → T7 → T8 → T9 → T10 → T11 → T12 → T13 → T14 → T15 → Option Z} {Q : Z → Prop} {a0 : T0} {a1 : T1} {a2 : T2} {a3 : T3} {a4 : T4} {a5 : T5} {a6 : T6} {a7 : T7} {a8 : T8} {a9 : T9} {a10 : T10} {a11 : T11} {a12 : T12} {a13 : T13} {a14 : T14} {a15 : T15} (e : o = some (a0, a1, a2, a3, a4, a5, a6, a7, a8, a9, a10, a11, a12, a13, a14, a15)) (h : Sx (k a0 a1 a2 a3 a4 a5 a6 a7 a8 a9 a10 a11 a12 a13 a14 a15) Q) : Sx (bd16 o k) Q := by rw [e]; exact h
theorem Sx.b16 {T0 T1 T2 T3 T4 T5 T6 T7 T8 T9 T10 T11 T12 T13 T14 T15 Z : Type} {o : Option (T0 × T1 × T2 × T3 × T4 × T5 × T6 × T7 × T8 × T9 × T10 × T11 × T12 × T13 × T14 × T15)} {k : T0 → T1 → T2 → T3 → T4 → T5 → T6 → T7 → T8 → T9 → T10 → T11 → T12 → T13 → T14 → T15 → Option Z} {Q : Z → Prop} {P : T0 × T1 × T2 × T3 × T4 × T5 × T6 × T7 × T8 × T9 × T10 × T11 × T12 × T13 × T14 × T15 → Prop} (h : Sx o P) (g : ∀ a0 a1 a2 a3 a4 a5 a6 a7 a8 a9 a10 a11 a12 a13 a14 a15, P (a0, a1, a2, a3, a4, a5, a6, a7, a8, a9, a10, a11, a12, a13, a14, a15) → Sx (k a0 a1 a2 a3 a4 a5 a6 a7 a8 a9 a10 a11 a12 a13 a14 a15) Q) : Sx (bd16 o k) Q := by
  obtain ⟨⟨a0, a1, a2, a3, a4, a5, a6, a7, a8, a9, a10, a11, a12, a13, a14, a15⟩, e, q⟩ := h
  rw [e]; exact g a0 a1 a2 a3 a4 a5 a6 a7 a8 a9 a10 a11 a12 a13 a14 a15 q
theorem i_0 : (0 : Int32) = nI 0 := rfl
theorem i_1 : (1 : Int32) = nI 1 := rfl
theorem i_2 : (2 : Int32) = nI 2 := rfl
theorem i_3 : (3 : Int32) = nI 3 := rfl
theorem i_4 : (4 : Int32) = nI 4 := rfl
theorem i_5 : (5 : Int32) = nI 5 := rfl
theorem i_6 : (6 : Int32) = nI 6 := rfl
theorem i_7 : (7 : Int32) = nI 7 := rfl
theorem i_8 : (8 : Int32) = nI 8 := rfl
theorem i_9 : (9 : Int32) = nI 9 := rfl
theorem i_10 : (10 : Int32) = nI 10 := rfl
theorem i_11 : (11 : Int32) = nI 11 := rfl
theorem i_15 : (15 : Int32) = nI 15 := rfl
theorem i_16 : (16 : Int32) = nI 16 := rfl
theorem i_17 : (17 : Int32) = nI 17 := rfl
theorem i_18 : (18 : Int32) = nI 18 := rfl
theorem i_20 : (20 : Int32) = nI 20 := rfl
theorem i_21 : (21 : Int32) = nI 21 := rfl
theorem i_22 : (22 : Int32) = nI 22 := rfl
theorem i_23 : (23 : Int32) = nI 23 := rfl
theorem i_24 : (24 : Int32) = nI 24 := rfl
theorem i_25 : (25 : Int32) = nI 25 := rfl
theorem i_26 : (26 : Int32) = nI 26 := rfl
theorem i_27 : (27 : Int32) = nI 27 := rfl
theorem i_30 : (30 : Int32) = nI 30 := rfl
theorem i_31 : (31 : Int32) = nI 31 := rfl
theorem i_32 : (32 : Int32) = nI 32 := rfl
theorem i_35 : (35 : Int32) = nI 35 := rfl
theorem i_36 : (36 : Int32) = nI 36 := rfl
theorem i_45 : (45 : Int32) = nI 45 := rfl
theorem i_47 : (47 : Int32) = nI 47 := rfl
theorem i_48 : (48 : Int32) = nI 48 := rfl
theorem i_49 : (49 : Int32) = nI 49 := rfl
theorem i_57 : (57 : Int32) = nI 57 := rfl
theorem i_58 : (58 : Int32) = nI 58 := rfl
theorem i_63 : (63 : Int32) = nI 63 := rfl
theorem i_99 : (99 : Int32) = nI 99 := rfl
theorem i_100 : (100 : Int32) = nI 100 := rfl
theorem i_111 : (111 : Int32) = nI 111 := rfl
theorem i_112 : (112 : Int32) = nI 112 := rfl
theorem i_127 : (127 : Int32) = nI 127 := rfl
theorem i_128 : (128 : Int32) = nI 128 := rfl
theorem i_135 : (135 : Int32) = nI 135 := rfl
theorem i_178 : (178 : Int32) = nI 178 := rfl
theorem i_200 : (200 : Int32) = nI 200 := rfl
theorem i_255 : (255 : Int32) = nI 255 := rfl
theorem i_512 : (512 : Int32) = nI 512 := rfl
theorem i_784 : (784 : Int32) = nI 784 := rfl
theorem i_1000 : (1000 : Int32) = nI 1000 := rfl
theorem i_1424 : (1424 : Int32) = nI 1424 := rfl
theorem i_13849 : (13849 : Int32) = nI 13849 := rfl
theorem i_25173 : (25173 : Int32) = nI 25173 := rfl
theorem i_65535 : (65535 : Int32) = nI 65535 := rfl
theorem i_65536 : (65536 : Int32) = nI 65536 := rfl
theorem i_1000000 : (1000000 : Int32) = nI 1000000 := rfl
theorem l_0 : (0 : Int64) = lN 0 := rfl
theorem l_1 : (1 : Int64) = lN 1 := rfl
theorem l_2 : (2 : Int64) = lN 2 := rfl
theorem l_3 : (3 : Int64) = lN 3 := rfl
theorem l_20 : (20 : Int64) = lN 20 := rfl
theorem l_49 : (49 : Int64) = lN 49 := rfl
theorem l_100 : (100 : Int64) = lN 100 := rfl
theorem l_200 : (200 : Int64) = lN 200 := rfl
theorem l_1000 : (1000 : Int64) = lN 1000 := rfl
theorem l_100000 : (100000 : Int64) = lN 100000 := rfl
theorem l_1000000 : (1000000 : Int64) = lN 1000000 := rfl
theorem l_65535 : (65535 : Int64) = lN 65535 := rfl
theorem og32 {α : Type} {n N : Nat} {k : Option α} (h : n < N) (hN : N < 2 ^ 31) : og (okI (nI n) N) k = k := og_mk _ (okI_nI h hN)
theorem bd1_s {α β : Type} (a : α) (k : α → Option β) : bd1 (some a) k = k a := rfl
theorem ite_so {α : Type} {c : Prop} [Decidable c] (a b : α) : (if c then some a else some b) = some (if c then a else b) := by
  by_cases h : c
  · rw [if_pos h, if_pos h]
  · rw [if_neg h, if_neg h]
theorem b01 {c : Prop} [Decidable c] : boB (if c then (1 : Int32) else 0) = true := by
  by_cases h : c
  · rw [if_pos h]; rfl
  · rw [if_neg h]; rfl
theorem win {n a b : Nat} (hn : n < 2 ^ 31) (ha : a < 2 ^ 31) (hb : b < 2 ^ 31) : fX8_within (nI n) (nI a) (nI b) = some (if a ≤ n ∧ n ≤ b then 1 else 0) := by
  rw [wi_eq (nI_toInt ha) (nI_toInt hb)]
  unfold bI inr
  rw [nI_toInt hn]
  congr 1
  by_cases h : a ≤ n ∧ n ≤ b
  · rw [if_pos h, if_pos (by omega)]
  · rw [if_neg h, if_neg (by omega)]
theorem win1 {x y z : Int32} (n a b : Nat) (h : a ≤ n ∧ n ≤ b) (hn : n < 2 ^ 31 := by omega) (ha : a < 2 ^ 31 := by omega) (hb : b < 2 ^ 31 := by omega) (hx : x = nI n := by rfl) (hy : y = nI a := by rfl) (hz : z = nI b := by rfl) : fX8_within x y z = some 1 := by
  subst hx; subst hy; subst hz
  rw [win hn ha hb, if_pos h]
theorem win0 {x y z : Int32} (n a b : Nat) (h : ¬ (a ≤ n ∧ n ≤ b)) (hn : n < 2 ^ 31 := by omega) (ha : a < 2 ^ 31 := by omega) (hb : b < 2 ^ 31 := by omega) (hx : x = nI n := by rfl) (hy : y = nI a := by rfl) (hz : z = nI b := by rfl) : fX8_within x y z = some 0 := by
  subst hx; subst hy; subst hz
  rw [win hn ha hb, if_neg h]
theorem iin {n a b : Nat} (hn : n < 2 ^ 31) (ha : a < 2 ^ 63) (hb : b < 2 ^ 63) : fX9_in (Int32.toInt64 (nI n)) (lN a) (lN b) = some (if a ≤ n ∧ n ≤ b then 1 else 0) := by
  rw [in_eq (pk_lT ha) (pk_lT hb)]
  unfold bI inr
  rw [nI_toInt hn]
  congr 1
  by_cases h : a ≤ n ∧ n ≤ b
  · rw [if_pos h, if_pos (by omega)]
  · rw [if_neg h, if_neg (by omega)]
theorem iMT {e : Nat} (h : e < 2 ^ 31) : (iM e).toInt = (e : Int) - 1 := iM_T h
theorem iMl {e : Nat} (h : e < 2 ^ 31) : (iM e).toInt64 = lM e := iM_l h
theorem iCl {e : Nat} (h : e < 2 ^ 31) : (iC e).toInt64 = lC e := iC_l h
theorem lMN (n : Nat) : lN n = lM (n + 1) := (lM_s n).symm
theorem lCN (n : Nat) : lN n = lC (n + 1) := (lC_s n).symm
theorem lM_max {a b : Nat} (ha : a < 2 ^ 63) (hb : b < 2 ^ 63) : (if lM a ≤ lM b then lM b else lM a) = lM (max a b) := by
  by_cases h : a ≤ b
  · rw [if_pos ((lM_le ha hb).mpr h), Nat.max_eq_right h]
  · rw [if_neg (fun q => h ((lM_le ha hb).mp q)), Nat.max_eq_left (by omega)]
theorem lC_max {a b : Nat} (ha : a < 2 ^ 63) (hb : b < 2 ^ 63) : (if lC a < lC b then lC b else lC a) = lC (max a b) := by
  by_cases h : a < b
  · rw [if_pos ((lC_lt ha hb).mpr h), Nat.max_eq_right (by omega)]
  · rw [if_neg (fun q => h ((lC_lt ha hb).mp q)), Nat.max_eq_left (by omega)]
theorem upS {f : Nat → Int32} {k j : Nat} {x : Int32} : upd f k x j = if j = k then x else f j := rfl
theorem upL {f : Nat → Int64} {k j : Nat} {x : Int64} : vp_updL f k x j = if j = k then x else f j := rfl
theorem fuN (k : Nat) (h : k ≤ 1000) : ∃ n, FU = n + k := ⟨FU - k, by have := FU_ge; omega⟩
end
section
/-! pure: what a bond is worth, by states (own rows). Of a bond: 0 face, 1 ratio, 2+t coupon, 9+t call and 15+t put (one more, 0: none), 21, 22 window, 23, 24, 25 soft, 26 settling -/
def hiF (β : Nat → Nat) (x : Nat) : Nat := if β 25 ≤ x then 1 else 0
def shF (β : Nat → Nat) (now : Nat) : Nat := β 1 * now / 100
def caF (β : Nat → Nat) (now ah : Nat) : Nat := β 1 * (now + ah) / 200
def twF (β : Nat → Nat) (now ah : Nat) : Nat := if β 26 = 0 then shF β now else if β 26 = 1 then caF β now ah else if β 26 = 2 then min (shF β now) (caF β now ah) else max (shF β now) (caF β now ah)
abbrev inW (β : Nat → Nat) (t : Nat) : Prop := β 21 ≤ t ∧ t ≤ β 22
def tuF (β : Nat → Nat) (t now ah : Nat) : Nat := if inW β t then twF β now ah + 1 else 0
def ahF (π : Nat → Nat → Nat) (t j u : Nat) : Nat := if t = 0 then π t j else π (t - 1) (j - u)
def tuS (π : Nat → Nat → Nat) (β : Nat → Nat) (t j u : Nat) : Nat := tuF β t (π t j) (ahF π t j u)
def hdF (β : Nat → Nat) (m : Nat) : Nat := m % 2 + (if 2 ≤ β 24 then m / 2 % 2 else 0) + (if 3 ≤ β 24 then m / 4 % 2 else 0)
def caL (β : Nat → Nat) (t : Nat) : Nat := if t < 6 then β (9 + t) else 0
def puL (β : Nat → Nat) (t : Nat) : Nat := if t < 6 then β (15 + t) else 0
def cpF (β : Nat → Nat) (t : Nat) : Nat := if 1 ≤ t ∧ t ≤ 6 then β (2 + t) else 0
abbrev frF (β : Nat → Nat) (t m : Nat) : Prop := caL β t ≠ 0 ∧ β 23 ≤ hdF β m
def cgS (π : Nat → Nat → Nat) (β : Nat → Nat) (t j u : Nat) : Nat := max (caL β t) (tuS π β t j u)
def mn (p q R a b : Nat) : Nat := (p * a + (q - p) * b) * 1000 / (q * (1000 + R))
def mkF (π : Nat → Nat → Nat) (β : Nat → Nat) (m t j : Nat) : Nat := 2 * m % 8 + hiF β (π t j)
abbrev icF (π : Nat → Nat → Nat) (β : Nat → Nat) (t j u m h : Nat) : Prop := frF β t m ∧ cgS π β t j u < h + 1
def bG (π : Nat → Nat → Nat) (β : Nat → Nat) (t j u m h : Nat) : Nat := max (max (puL β t) (tuS π β t j u)) (if icF π β t j u m h then cgS π β t j u else h + 1)
def bV (π : Nat → Nat → Nat) (β : Nat → Nat) (t j u m h : Nat) : Nat := cpF β t + (bG π β t j u m h - 1)
def bA (π : Nat → Nat → Nat) (β : Nat → Nat) (t j u m h : Nat) : Nat := if icF π β t j u m h then (if cgS π β t j u < puL β t then 1 else if caL β t < tuS π β t j u then 4 else 3) else if puL β t ≤ h + 1 ∧ tuS π β t j u ≤ h + 1 then 0 else if puL β t ≠ 0 ∧ tuS π β t j u ≤ puL β t then 1 else 2
abbrev rT (π : Nat → Nat → Nat) (β : Nat → Nat) (x : Nat) (t j u : Nat) : Prop := tuS π β t j u ≠ 0 ∧ x ≤ π t j
abbrev rC (π : Nat → Nat → Nat) (β : Nat → Nat) (y : Nat) (t j m : Nat) : Prop := frF β t m ∧ y ≤ π t j
def rV (x y : Nat) (π : Nat → Nat → Nat) (β : Nat → Nat) (t j u m h : Nat) : Nat := cpF β t + (if rT π β x t j u then tuS π β t j u - 1 else if rC π β y t j m then cgS π β t j u - 1 else h)
def rA (x y : Nat) (π : Nat → Nat → Nat) (β : Nat → Nat) (t j u m : Nat) : Nat := if rT π β x t j u then 2 else if rC π β y t j m then (if caL β t < tuS π β t j u then 4 else 3) else 0
def enV (π : Nat → Nat → Nat) (T : Nat) (β : Nat → Nat) (j u : Nat) : Nat := cpF β T + (max (β 0 + 1) (tuS π β T j u) - 1)
def enA (π : Nat → Nat → Nat) (T : Nat) (β : Nat → Nat) (j u : Nat) : Nat := if β 0 + 1 < tuS π β T j u then 6 else 5
/-- the value with n days left; σ: what a state makes of its hold -/
def vG (π : Nat → Nat → Nat) (T p q R : Nat) (β : Nat → Nat) (σ : Nat → Nat → Nat → Nat → Nat → Nat) : Nat → Nat → Nat → Nat → Nat
  | 0, j, u, _ => enV π T β j u
  | n + 1, j, u, m => σ (T - (n + 1)) j u m (mn p q R (vG π T p q R β σ n (j + 1) 1 (mkF π β m (T - n) (j + 1))) (vG π T p q R β σ n j 0 (mkF π β m (T - n) j)))
def hG (π : Nat → Nat → Nat) (T p q R : Nat) (β : Nat → Nat) (σ : Nat → Nat → Nat → Nat → Nat → Nat) (n j m : Nat) : Nat := mn p q R (vG π T p q R β σ n (j + 1) 1 (mkF π β m (T - n) (j + 1))) (vG π T p q R β σ n j 0 (mkF π β m (T - n) j))
theorem vG_s (π : Nat → Nat → Nat) (T p q R : Nat) (β : Nat → Nat) (σ : Nat → Nat → Nat → Nat → Nat → Nat) (n j u m : Nat) : vG π T p q R β σ (n + 1) j u m = σ (T - (n + 1)) j u m (hG π T p q R β σ n j m) := rfl
theorem vG_0 (π : Nat → Nat → Nat) (T p q R : Nat) (β : Nat → Nat) (σ : Nat → Nat → Nat → Nat → Nat → Nat) (j u m : Nat) : vG π T p q R β σ 0 j u m = enV π T β j u := rfl
/-- bounds -/
abbrev BK (β : Nat → Nat) : Prop := (1 ≤ β 0 ∧ β 0 ≤ 1000000) ∧ β 1 ≤ 1000 ∧ (∀ t, 1 ≤ t → t ≤ 6 → β (2 + t) ≤ 1000) ∧ (∀ t, t < 6 → β (9 + t) ≤ 1000001) ∧ (∀ t, t < 6 → β (15 + t) ≤ 1000001) ∧ β 21 ≤ 7 ∧ β 22 ≤ 7 ∧ β 23 ≤ 3 ∧ (1 ≤ β 24 ∧ β 24 ≤ 3) ∧ β 25 ≤ 1000000 ∧ β 26 ≤ 3
abbrev PK (π : Nat → Nat → Nat) : Prop := ∀ t j, π t j ≤ 6400000000000
abbrev NK (T p q R : Nat) : Prop := (1 ≤ T ∧ T ≤ 6) ∧ (1 ≤ p ∧ p < q ∧ q ≤ 20) ∧ R ≤ 200
abbrev SK (σ : Nat → Nat → Nat → Nat → Nat → Nat) : Prop := ∀ t j u m h M, h ≤ M → 64000000000000 ≤ M → σ t j u m h ≤ M + 1000
theorem caL_le {β : Nat → Nat} (h : BK β) (t : Nat) : caL β t ≤ 1000001 := by
  unfold caL
  split
  · exact h.2.2.2.1 t (by omega)
  · omega
theorem puL_le {β : Nat → Nat} (h : BK β) (t : Nat) : puL β t ≤ 1000001 := by
  unfold puL
  split
  · exact h.2.2.2.2.1 t (by omega)
  · omega
theorem cpF_le {β : Nat → Nat} (h : BK β) (t : Nat) : cpF β t ≤ 1000 := by
  unfold cpF
  split
  · rename_i g; exact h.2.2.1 t g.1 g.2
  · omega
theorem shF_le {β : Nat → Nat} {x : Nat} (h : β 1 ≤ 1000) (hx : x ≤ 6400000000000) : shF β x ≤ 64000000000000 := by
  unfold shF
  have := Nat.mul_le_mul h hx
  omega
theorem caF_le {β : Nat → Nat} {x y : Nat} (h : β 1 ≤ 1000) (hx : x ≤ 6400000000000) (hy : y ≤ 6400000000000) : caF β x y ≤ 64000000000000 := by
  unfold caF
  have := Nat.mul_le_mul h (show x + y ≤ 12800000000000 by omega)
  omega
theorem twF_le {β : Nat → Nat} {x y : Nat} (h : β 1 ≤ 1000) (hx : x ≤ 6400000000000) (hy : y ≤ 6400000000000) : twF β x y ≤ 64000000000000 := by
  have a := shF_le h hx
  have b := caF_le h hx hy
  unfold twF
  split
  · exact a
  · split
    · exact b
    · split <;> omega
theorem ahF_le {π : Nat → Nat → Nat} (hp : PK π) (t j u : Nat) : ahF π t j u ≤ 6400000000000 := by
  unfold ahF
  split <;> exact hp _ _
theorem tuS_le {π : Nat → Nat → Nat} {β : Nat → Nat} (hp : PK π) (h : BK β) (t j u : Nat) : tuS π β t j u ≤ 64000000000001 := by
  unfold tuS tuF
  have := twF_le (β := β) h.2.1 (hp t j) (ahF_le hp t j u)
  split <;> omega
theorem cgS_le {π : Nat → Nat → Nat} {β : Nat → Nat} (hp : PK π) (h : BK β) (t j u : Nat) : cgS π β t j u ≤ 64000000000001 := by
  have a := tuS_le hp h t j u
  have b := caL_le h t
  unfold cgS
  omega
theorem enV_le {π : Nat → Nat → Nat} {β : Nat → Nat} (hp : PK π) (h : BK β) (T j u : Nat) : enV π T β j u ≤ 64000000001000 := by
  have a := tuS_le hp h T j u
  have b := cpF_le h T
  have c := h.1.2
  unfold enV
  omega
theorem mn_le {p q R a b M : Nat} (hq : 1 ≤ q) (hp : p ≤ q) (ha : a ≤ M) (hb : b ≤ M) : mn p q R a b ≤ M := by
  unfold mn
  refine Nat.div_le_of_le_mul ?_
  have h1 := Nat.mul_le_mul (Nat.le_refl p) ha
  have h2 := Nat.mul_le_mul (Nat.le_refl (q - p)) hb
  have h3 : p * M + (q - p) * M = q * M := by rw [← Nat.add_mul, Nat.add_sub_cancel' hp]
  have h4 : (p * a + (q - p) * b) * 1000 ≤ q * M * 1000 := Nat.mul_le_mul (by omega) (Nat.le_refl _)
  have h5 : q * M * 1000 ≤ q * (1000 + R) * M := by
    rw [Nat.mul_right_comm q (1000 + R) M]
    exact Nat.mul_le_mul (Nat.le_refl _) (by omega)
  exact Nat.le_trans h4 h5
theorem mn_in {p q a b : Nat} (hq : q ≤ 20) (hp : p ≤ q) (ha : a ≤ 64000000010000) (hb : b ≤ 64000000010000) : (p * a + (q - p) * b) * 1000 < 2 ^ 63 := by
  have h1 := Nat.mul_le_mul (Nat.le_refl p) ha
  have h2 := Nat.mul_le_mul (Nat.le_refl (q - p)) hb
  have h3 : p * 64000000010000 + (q - p) * 64000000010000 = q * 64000000010000 := by rw [← Nat.add_mul, Nat.add_sub_cancel' hp]
  omega
theorem bV_SK {π : Nat → Nat → Nat} {β : Nat → Nat} (hp : PK π) (hb : BK β) : SK (bV π β) := by
  intro t j u m h M h1 h2
  have a := tuS_le hp hb t j u
  have b := puL_le hb t
  have c := cgS_le hp hb t j u
  have d := cpF_le hb t
  unfold bV bG
  split <;> omega
theorem rV_SK {π : Nat → Nat → Nat} {β : Nat → Nat} (x y : Nat) (hp : PK π) (hb : BK β) : SK (rV x y π β) := by
  intro t j u m h M h1 h2
  have a := tuS_le hp hb t j u
  have c := cgS_le hp hb t j u
  have d := cpF_le hb t
  unfold rV
  split
  · omega
  · split <;> omega
theorem vG_le {π : Nat → Nat → Nat} {T p q R : Nat} {β : Nat → Nat} {σ : Nat → Nat → Nat → Nat → Nat → Nat} (hp : PK π) (hb : BK β) (hn : NK T p q R) (hs : SK σ) : ∀ n j u m, vG π T p q R β σ n j u m ≤ 64000000000000 + 1000 * (n + 1) := by
  intro n
  induction n with
  | zero => intro j u m; rw [vG_0]; have := enV_le hp hb T j u; omega
  | succ n ih =>
    intro j u m
    rw [vG_s]
    refine Nat.le_trans (hs (T - (n + 1)) j u m (hG π T p q R β σ n j m) (64000000000000 + 1000 * (n + 1)) (mn_le (by omega) (by omega) (ih _ _ _) (ih _ _ _)) (by omega)) ?_
    omega
theorem vG_b {π : Nat → Nat → Nat} {T p q R : Nat} {β : Nat → Nat} {σ : Nat → Nat → Nat → Nat → Nat → Nat} (hp : PK π) (hb : BK β) (hn : NK T p q R) (hs : SK σ) {n : Nat} (h : n ≤ 6) (j u m : Nat) : vG π T p q R β σ n j u m ≤ 64000000007000 := by
  refine Nat.le_trans (vG_le hp hb hn hs n j u m) ?_
  omega
theorem hG_b {π : Nat → Nat → Nat} {T p q R : Nat} {β : Nat → Nat} {σ : Nat → Nat → Nat → Nat → Nat → Nat} (hp : PK π) (hb : BK β) (hn : NK T p q R) (hs : SK σ) {n : Nat} (h : n ≤ 6) (j m : Nat) : hG π T p q R β σ n j m ≤ 64000000007000 := mn_le (by omega) (by omega) (vG_b hp hb hn hs h _ _ _) (vG_b hp hb hn hs h _ _ _)
theorem hiF_lt (β : Nat → Nat) (x : Nat) : hiF β x < 2 := by unfold hiF; split <;> omega
theorem mkF_lt (π : Nat → Nat → Nat) (β : Nat → Nat) (m t j : Nat) : mkF π β m t j < 8 := by
  have := hiF_lt β (π t j)
  unfold mkF
  omega
theorem mkF_2 (π : Nat → Nat → Nat) (β : Nat → Nat) (m t j : Nat) : mkF π β m t j % 2 = hiF β (π t j) := by
  have := hiF_lt β (π t j)
  unfold mkF
  omega
/-- rows of moves: a leading 1, then the moves -/
def dR (r : Nat) : Nat := Nat.log2 r
def pcN : Nat → Nat → Nat
  | 0, _ => 0
  | n + 1, r => r % 2 + pcN n (r / 2)
def uR (r : Nat) : Nat := pcN 7 r - 1
def bR (r : Nat) : Nat := if r ≤ 1 then 0 else r % 2
def mRn (π : Nat → Nat → Nat) (β : Nat → Nat) : Nat → Nat → Nat
  | 0, _ => hiF β (π 0 0)
  | d + 1, r => mkF π β (mRn π β d (r / 2)) (d + 1) (uR r)
def mR (π : Nat → Nat → Nat) (β : Nat → Nat) (r : Nat) : Nat := mRn π β (dR r) r
theorem row_s : ∀ r, r < 64 → 1 ≤ r → ∀ b, b < 2 → dR (2 * r + b) = dR r + 1 ∧ uR (2 * r + b) = uR r + b ∧ bR (2 * r + b) = b ∧ (2 * r + b) / 2 = r := by decide +kernel
theorem row_b1 : ∀ r, r < 128 → 1 ≤ r → (dR r ≤ 6 ∧ uR r ≤ dR r ∧ bR r ≤ uR r) ∧ (bR r < 2 ∧ 2 ^ dR r ≤ r ∧ r < 2 * 2 ^ dR r) := by decide +kernel
theorem row_b2 : ∀ r, r < 128 → 1 ≤ r → (dR r = 0 → bR r = 0) ∧ (bR r = 1 → 0 < uR r) := by decide +kernel
theorem row_b3 : ∀ r, r < 128 → 1 ≤ r → (¬ dR r = 0 → (bR r = 0 → uR r < dR r)) := by decide +kernel
theorem mR_1 (π : Nat → Nat → Nat) (β : Nat → Nat) : mR π β 1 = hiF β (π 0 0) := rfl
theorem mR_s (π : Nat → Nat → Nat) (β : Nat → Nat) {r b : Nat} (h1 : 1 ≤ r) (h : r < 64) (hb : b < 2) : mR π β (2 * r + b) = mkF π β (mR π β r) (dR r + 1) (uR r + b) := by
  obtain ⟨e1, e2, _, e4⟩ := row_s r h h1 b hb
  unfold mR
  rw [e1]
  show mkF π β (mRn π β (dR r) ((2 * r + b) / 2)) (dR r + 1) (uR (2 * r + b)) = _
  rw [e4, e2]
theorem mR_lt (π : Nat → Nat → Nat) (β : Nat → Nat) (r : Nat) : mR π β r < 8 := by
  unfold mR
  cases dR r with
  | zero => have := hiF_lt β (π 0 0); show hiF β (π 0 0) < 8; omega
  | succ d => exact mkF_lt _ _ _ _ _
theorem mR_2 (π : Nat → Nat → Nat) (β : Nat → Nat) {r : Nat} (h1 : 1 ≤ r) (h : r < 128) : mR π β r % 2 = hiF β (π (dR r) (uR r)) := by
  by_cases h2 : r = 1
  · subst h2
    have := hiF_lt β (π 0 0)
    rw [mR_1]
    show _ = hiF β (π 0 0)
    omega
  · have e : r = 2 * (r / 2) + r % 2 := by omega
    obtain ⟨e1, e2, _, _⟩ := row_s (r / 2) (by omega) (by omega) (r % 2) (by omega)
    rw [← e] at e1 e2
    rw [e1, e2]
    conv => lhs; rw [e]
    rw [mR_s π β (by omega) (by omega) (by omega), mkF_2]
end
section
/-! pure: the reference's bond, prices, one state (own rows) -/
def rI (β : Nat → Nat) (i : Nat) : Int32 := if 9 ≤ i ∧ i < 21 then iM (β i) else nI (β i)
theorem rI_n {β : Nat → Nat} {i : Nat} (h : ¬ (9 ≤ i ∧ i < 21)) : rI β i = nI (β i) := if_neg h
theorem rI_m {β : Nat → Nat} {i : Nat} (h : 9 ≤ i ∧ i < 21) : rI β i = iM (β i) := if_pos h
abbrev RB (bs : Nat → Int32) (k : Nat) (β : Nat → Nat) : Prop := k < 5 ∧ ∀ i, i < 27 → bs (27 * k + i) = rI β i
abbrev RP (pe : Nat → Int64) (T : Nat) (π : Nat → Nat → Nat) : Prop := ∀ t j, j ≤ t → t ≤ T → pe (7 * t + j) = lN (π t j)
def atN (t j u m : Nat) : Nat := ((7 * t + j) * 2 + u) * 8 + m
theorem of9 {bs : Nat → Int32} {k : Nat} {β : Nat → Nat} (hb : RB bs k β) {a : Nat} (ha : a < 27) : fX9_of (nI k) (nI a) bs = some (rI β a) := by
  unfold fX9_of
  rw [i_27, pk_mul, nI_add, og32 (by omega) (by omega), nI_clamp (by omega), hb.2 a ha]
theorem of9n {bs : Nat → Int32} {k : Nat} {β : Nat → Nat} (hb : RB bs k β) {x : Int32} (a : Nat) (ha : a < 27) (hn : ¬ (9 ≤ a ∧ a < 21)) (hx : x = nI a := by rfl) : fX9_of (nI k) x bs = some (nI (β a)) := by
  subst hx; rw [of9 hb ha, rI_n hn]
theorem hi9 {bs : Nat → Int32} {pe : Nat → Int64} {k T : Nat} {β : Nat → Nat} {π : Nat → Nat → Nat} (hb : RB bs k β) (hK : BK β) (hp : PK π) (hP : RP pe T π) (hT : T ≤ 6) {t j : Nat} (hj : j ≤ t) (ht : t ≤ T) : fX9_isHigh (nI k) (nI t) (nI j) bs pe = some (nI (hiF β (π t j))) := by
  unfold fX9_isHigh
  have hx := hp t j
  rw [i_7, pk_mul, nI_add, og32 (by omega) (by omega), nI_clamp (by omega), hP t j hj ht, of9n hb 25 (by omega) (by omega), bd1_mk, nI_l (by omega), ite_so, bd1_mk]
  unfold hiF
  by_cases h : β 25 ≤ π t j
  · rw [if_pos h, if_neg (by rw [pk_lLT (by omega) (by omega)]; omega)]; rfl
  · rw [if_neg h, if_pos (by rw [pk_lLT (by omega) (by omega)]; omega)]; rfl
theorem wi9 {bs : Nat → Int32} {k : Nat} {β : Nat → Nat} (hb : RB bs k β) (hK : BK β) {t : Nat} (ht : t ≤ 6) : fX9_inWindow (nI k) (nI t) bs = some (if inW β t then 1 else 0) := by
  unfold fX9_inWindow
  rw [of9n hb 21 (by omega) (by omega), bd1_mk, of9n hb 22 (by omega) (by omega), bd1_mk, nI_l (n := β 21) (by omega), nI_l (n := β 22) (by omega), iin (by omega) (by omega) (by omega), bd1_mk, og_mk _ b01]
/-- a state that there is -/
abbrev okS (t j u : Nat) : Prop := j ≤ t ∧ u < 2 ∧ (t = 0 → u = 0) ∧ (u = 1 → 0 < j) ∧ (t ≠ 0 → u = 0 → j < t)
theorem one0 : ¬ (1 : Int32) = 0 := by decide
theorem tu9 {bs : Nat → Int32} {pe : Nat → Int64} {k T : Nat} {β : Nat → Nat} {π : Nat → Nat → Nat} (hb : RB bs k β) (hK : BK β) (hp : PK π) (hP : RP pe T π) (hT : T ≤ 6) {t j u : Nat} (ho : okS t j u) (ht : t ≤ T) : fX9_turned (nI k) (nI t) (nI j) (nI u) bs pe = some (lM (tuS π β t j u)) := by
  unfold fX9_turned
  rw [wi9 hb hK (by omega), bd1_mk]
  unfold tuS tuF
  by_cases hw : inW β t
  · rw [if_pos hw, if_neg one0, if_pos hw, lM_s]
    have hx := hp t j
    have hy := ahF_le hp t j u
    have hs := shF_le (β := β) hK.2.1 hx
    have hc := caF_le (β := β) hK.2.1 hx hy
    have e1 : (if nI t = 0 then some (pe (7 * t + j)) else og (okI (((7 * (nI t - 1)) + nI j) - nI u) 49) (some (pe (Int32.toNatClampNeg (((7 * (nI t - 1)) + nI j) - nI u))))) = some (lN (ahF π t j u)) := by
      unfold ahF
      by_cases h0 : t = 0
      · rw [if_pos h0, if_pos (by rw [h0]; rfl), hP t j ho.1 ht]
      · rw [if_neg h0, if_neg (nI_ne0 (by omega) (by omega)), i_1, pk_sub (by omega), i_7, pk_mul, nI_add, pk_sub (by omega), og32 (by omega) (by omega), nI_clamp (by omega), show 7 * (t - 1) + j - u = 7 * (t - 1) + (j - u) by omega, hP (t - 1) (j - u) (by omega) (by omega)]
    have p1 := Nat.mul_le_mul hK.2.1 hx
    have p2 := Nat.mul_le_mul hK.2.1 (show π t j + ahF π t j u ≤ 12800000000000 by omega)
    rw [i_7, pk_mul, nI_add, og32 (by omega) (by omega), nm_mk, nI_clamp (by omega)]
    rw [show (nI 7) = 7 from rfl, e1, bd1_mk, of9n hb 1 (by omega) (by omega), bd1_mk, nm_mk, bd1_mk, nm_mk, of9n hb 26 (by omega) (by omega), bd1_mk, hP t j ho.1 ht, nI_l (by omega), l_100, lN_mul, pk_lDiv (by omega) (by omega) (by omega), lN_add, lN_mul, l_200, pk_lDiv (by omega) (by omega) (by omega)]
    show _ = some (lN (if β 26 = 0 then shF β (π t j) else if β 26 = 1 then caF β (π t j) (ahF π t j u) else if β 26 = 2 then min (shF β (π t j)) (caF β (π t j) (ahF π t j u)) else max (shF β (π t j)) (caF β (π t j) (ahF π t j u))))
    show (if nI (β 26) = 0 then some (lN (shF β (π t j))) else if nI (β 26) = 1 then some (lN (caF β (π t j) (ahF π t j u))) else if nI (β 26) = 2 then bd1 (if lN (caF β (π t j) (ahF π t j u)) ≤ lN (shF β (π t j)) then some (lN (caF β (π t j) (ahF π t j u))) else some (lN (shF β (π t j)))) (fun (j22 : Int64) => some (j22)) else bd1 (if lN (caF β (π t j) (ahF π t j u)) ≤ lN (shF β (π t j)) then some (lN (shF β (π t j))) else some (lN (caF β (π t j) (ahF π t j u)))) (fun (j26 : Int64) => some (j26))) = _
    generalize shF β (π t j) = S at *
    generalize caF β (π t j) (ahF π t j u) = C at *
    have h26 := hK.2.2.2.2.2.2.2.2.2.2
    rw [bd1_id, bd1_id]
    rcases (show β 26 = 0 ∨ β 26 = 1 ∨ β 26 = 2 ∨ β 26 = 3 by omega) with h | h | h | h
    · rw [h]; rfl
    · rw [h]; rfl
    · rw [h]
      show (if lN C ≤ lN S then some (lN C) else some (lN S)) = some (lN (min S C))
      by_cases g : C ≤ S
      · rw [if_pos ((pk_lLE (by omega) (by omega)).mpr g), Nat.min_eq_right g]
      · rw [if_neg (fun q => g ((pk_lLE (by omega) (by omega)).mp q)), Nat.min_eq_left (by omega)]
    · rw [h]
      show (if lN C ≤ lN S then some (lN S) else some (lN C)) = some (lN (max S C))
      by_cases g : C ≤ S
      · rw [if_pos ((pk_lLE (by omega) (by omega)).mpr g), Nat.max_eq_left g]
      · rw [if_neg (fun q => g ((pk_lLE (by omega) (by omega)).mp q)), Nat.max_eq_right (by omega)]
  · rw [if_neg hw, if_pos rfl, if_neg hw]; rfl
theorem bitm : ∀ m, m < 8 → ∀ i, i < 3 → ((nI m >>> (nI i &&& 31)) &&& 1) = nI (m / 2 ^ i % 2) := by decide +kernel
theorem mk9 {bs : Nat → Int32} {k : Nat} {β : Nat → Nat} (hb : RB bs k β) (hK : BK β) {m : Nat} (hm : m < 8) : fX9_marksNow (nI k) (nI m) bs = some (nI (hdF β m)) := by
  unfold fX9_marksNow hdF
  obtain ⟨n, hn⟩ := fuN 4 (by omega)
  rw [hn, i_0]
  have b0 := bitm m hm 0 (by omega)
  have b1 := bitm m hm 1 (by omega)
  have b2 := bitm m hm 2 (by omega)
  have e24 := of9n hb (x := 24) 24 (by omega) (by omega)
  have h24 := hK.2.2.2.2.2.2.2.2.1
  rw [lpX9_marksNow_5.eq_2, e24, bd1_mk, if_neg (nI_ge (by omega) (by omega)), nm_mk, nm_mk, b0, nI_add, nI_1]
  rw [lpX9_marksNow_5.eq_2, e24, bd1_mk]
  by_cases h1 : β 24 = 1
  · rw [if_pos (nI_le (by omega) (by omega)), bd1_mk, h1]
    show some (nI (0 + m / 1 % 2)) = some (nI (m % 2 + 0 + 0))
    rw [Nat.zero_add, Nat.div_one]; rfl
  · rw [if_neg (nI_ge (by omega) (by omega)), nm_mk, nm_mk, b1, nI_add, nI_1, lpX9_marksNow_5.eq_2, e24, bd1_mk]
    by_cases h2 : β 24 = 2
    · rw [if_pos (nI_le (by omega) (by omega)), bd1_mk, h2]
      show some (nI (0 + m / 1 % 2 + m / 2 % 2)) = some (nI (m % 2 + m / 2 % 2 + 0))
      rw [Nat.zero_add, Nat.div_one]; rfl
    · rw [if_neg (nI_ge (by omega) (by omega)), nm_mk, nm_mk, b2, nI_add, nI_1, lpX9_marksNow_5.eq_2, e24, bd1_mk, if_pos (nI_le (by omega) (by omega)), bd1_mk, show β 24 = 3 by omega]
      show some (nI (0 + m / 1 % 2 + m / 2 % 2 + m / 4 % 2)) = some (nI (m % 2 + m / 2 % 2 + m / 4 % 2))
      rw [Nat.zero_add, Nat.div_one]
theorem ca9 {bs : Nat → Int32} {k T : Nat} {β : Nat → Nat} (hb : RB bs k β) (hT : T ≤ 6) {t : Nat} (ht : t < T) : fX9_callOf (nI k) (nI t) bs (nI T) = some (iM (caL β t)) := by
  unfold fX9_callOf caL
  rw [if_neg (nI_ge ht (by omega)), i_9, nI_add, of9 hb (by omega), bd1_mk, bd1_mk, rI_m (by omega), if_pos (by omega)]
theorem ca9T {bs : Nat → Int32} {k T : Nat} (hT : T ≤ 6) : fX9_callOf (nI k) (nI T) bs (nI T) = some (-1) := by
  unfold fX9_callOf
  rw [if_pos (nI_le (Nat.le_refl T) (by omega)), bd1_mk]
theorem pu9 {bs : Nat → Int32} {k T : Nat} {β : Nat → Nat} (hb : RB bs k β) (hT : T ≤ 6) {t : Nat} (ht : t < T) : fX9_putOf (nI k) (nI t) bs (nI T) = some (iM (puL β t)) := by
  unfold fX9_putOf puL
  rw [if_neg (nI_ge ht (by omega)), i_15, nI_add, of9 hb (by omega), bd1_mk, bd1_mk, rI_m (by omega), if_pos (by omega)]
theorem pu9T {bs : Nat → Int32} {k T : Nat} (hT : T ≤ 6) : fX9_putOf (nI k) (nI T) bs (nI T) = some (-1) := by
  unfold fX9_putOf
  rw [if_pos (nI_le (Nat.le_refl T) (by omega)), bd1_mk]
theorem hdF_lt (β : Nat → Nat) (m : Nat) : hdF β m ≤ 3 := by
  unfold hdF
  split <;> split <;> omega
theorem fr9 {bs : Nat → Int32} {k T : Nat} {β : Nat → Nat} (hb : RB bs k β) (hK : BK β) (hT : T ≤ 6) {t m : Nat} (ht : t < T) (hm : m < 8) : fX9_isFree (nI k) (nI t) (nI m) bs (nI T) = some (if frF β t m then 1 else 0) := by
  unfold fX9_isFree
  have hc := caL_le hK t
  have hd := hdF_lt β m
  have e23 := hK.2.2.2.2.2.2.2.1
  rw [ca9 hb hT ht, bd1_mk, mk9 hb hK hm, bd1_mk, of9n hb 23 (by omega) (by omega), bd1_mk]
  by_cases h : caL β t = 0
  · rw [if_pos ((iM_m1 (by omega)).mpr h), bd1_mk, if_neg (fun q => q.1 h)]; rfl
  · rw [if_neg (fun q => h ((iM_m1 (by omega)).mp q))]
    by_cases g : β 23 ≤ hdF β m
    · rw [if_neg (nI_nlt g (by omega)), bd1_mk, if_pos ⟨h, g⟩]; rfl
    · rw [if_pos (nI_lt (by omega) (by omega)), bd1_mk, if_neg (fun q => g q.2)]; rfl
theorem cp9 {bs : Nat → Int32} {k : Nat} {β : Nat → Nat} (hb : RB bs k β) {t : Nat} (ht : t ≤ 6) : fX9_couponOf (nI k) (nI t) bs = some (nI (cpF β t)) := by
  unfold fX9_couponOf cpF
  by_cases h : t = 0
  · rw [if_pos (by rw [h]; rfl), if_neg (by omega)]; rfl
  · rw [if_neg (nI_ne0 (by omega) (by omega)), i_2, nI_add, of9 hb (by omega), bd1_mk, bd1_mk, rI_n (by omega), if_pos (by omega)]
theorem shm : ∀ m, m < 8 → ∀ h, h < 2 → (((nI m <<< ((1 : Int32) &&& 31)) &&& 7) ||| nI h) = nI (2 * m % 8 + h) := by decide +kernel
theorem at9 (t j u m : Nat) : fX9_at (nI t) (nI j) (nI u) (nI m) = some (nI (atN t j u m)) := by
  unfold fX9_at atN
  rw [i_7, i_2, i_8, pk_mul, nI_add, pk_mul, nI_add, pk_mul, nI_add]
theorem th9 {bs : Nat → Int32} {pe : Nat → Int64} {k T : Nat} {β : Nat → Nat} {π : Nat → Nat → Nat} (hb : RB bs k β) (hK : BK β) (hp : PK π) (hP : RP pe T π) (hT : T ≤ 6) {t j m b : Nat} (u : Int32) (hj : j ≤ t) (hm : m < 8) (hbb : b < 2) (ht : t < T) : fX9_then (nI k) (nI t) (nI j) u (nI m) (nI b) bs pe = some (nI (atN (t + 1) (j + b) b (mkF π β m (t + 1) (j + b)))) := by
  unfold fX9_then
  rw [nI_1, nI_add, hi9 hb hK hp hP hT (by omega) (by omega), bd1_mk, shm m hm _ (hiF_lt _ _), at9, bd1_mk]
  rfl
theorem mo9 {a b : Nat} (ha : a < 2 ^ 63) (hb : b < 2 ^ 63) : fX9_more (lM a) (lM b) = some (lM (max a b)) := by
  unfold fX9_more
  rw [ite_so, bd1_mk, lM_max ha hb]
theorem cg9 {bs : Nat → Int32} {pe : Nat → Int64} {k T : Nat} {β : Nat → Nat} {π : Nat → Nat → Nat} (hb : RB bs k β) (hK : BK β) (hp : PK π) (hP : RP pe T π) (hT : T ≤ 6) {t j u : Nat} (ho : okS t j u) (ht : t < T) : fX9_called (nI k) (nI t) (nI j) (nI u) bs (nI T) pe = some (lM (cgS π β t j u)) := by
  unfold fX9_called
  have h1 := caL_le hK t
  have h2 := tuS_le hp hK t j u
  rw [ca9 hb hT ht, bd1_mk, tu9 hb hK hp hP hT ho (by omega), bd1_mk, iM_l (by omega), mo9 (by omega) (by omega), bd1_mk]
  rfl
theorem atN_lt {t j u m : Nat} (ht : t ≤ 6) (hj : j ≤ t) (hu : u < 2) (hm : m < 8) : atN t j u m < 784 := by
  unfold atN; omega
theorem ho9 {bs : Nat → Int32} {pe wo : Nat → Int64} {k T p q R : Nat} {β : Nat → Nat} {π : Nat → Nat → Nat} (hb : RB bs k β) (hK : BK β) (hp : PK π) (hP : RP pe T π) (hN : NK T p q R) {t j m va vb : Nat} (u : Int32) (hj : j ≤ t) (hm : m < 8) (ht : t < T) (h1 : wo (atN (t + 1) (j + 1) 1 (mkF π β m (t + 1) (j + 1))) = lN va) (h0 : wo (atN (t + 1) j 0 (mkF π β m (t + 1) j)) = lN vb) (ha : va ≤ 64000000010000) (hbb : vb ≤ 64000000010000) : fX9_holds (nI k) (nI t) (nI j) u (nI m) bs (nI p) (nI q) (nI R) pe wo = some (lN (mn p q R va vb)) := by
  unfold fX9_holds
  have l1 : atN (t + 1) (j + 1) 1 (mkF π β m (t + 1) (j + 1)) < 784 := atN_lt (by omega) (by omega) (by omega) (mkF_lt _ _ _ _ _)
  have l0 : atN (t + 1) j 0 (mkF π β m (t + 1) j) < 784 := atN_lt (by omega) (by omega) (by omega) (mkF_lt _ _ _ _ _)
  have t0 := th9 hb hK hp hP hN.1.2 (b := 0) u hj hm (by omega) ht
  have hin := mn_in (p := p) (q := q) hN.2.1.2.2 (by omega) ha hbb
  have hq := Nat.mul_le_mul hN.2.1.2.2 (show 1000 + R ≤ 1200 by omega)
  have hq0 : 0 < q * (1000 + R) := Nat.mul_pos (by omega) (by omega)
  rw [i_1, th9 hb hK hp hP hN.1.2 u hj hm (by omega) ht, bd1_mk, og32 l1 (by omega), nm_mk, nI_clamp (by omega), h1, i_0]
  rw [t0, bd1_mk, Nat.add_zero j, og32 l0 (by omega), nm_mk, nI_clamp (by omega), h0, i_1000, nI_add, pk_mul, nI_l (n := q * (1000 + R)) (by omega), pk_sub (by omega), nI_l (n := p) (by omega), nI_l (n := q - p) (by omega), lN_mul, lN_mul, lN_add, l_1000, lN_mul, og_mk, pk_lDiv hin hq0 (by omega)]
  · rfl
  · unfold nzL
    rw [l_0, decide_eq_false (fun h => by rw [pk_lEQ (by omega) (by omega)] at h; omega)]
    rfl
end
section
/-! pure: the reference's states laid (own rows) -/
theorem en9 {bs : Nat → Int32} {pe wo ho : Nat → Int64} {ac : Nat → Int32} {k T : Nat} {β : Nat → Nat} {π : Nat → Nat → Nat} (hb : RB bs k β) (hK : BK β) (hp : PK π) (hP : RP pe T π) (hT : T ≤ 6) {j u m : Nat} (hm : m < 8) (hok : okS T j u) : fX9_laysEnd (nI k) (nI j) (nI u) (nI m) bs (nI T) pe wo ho ac = some (vp_updL wo (atN T j u m) (lN (enV π T β j u)), vp_updL ho (atN T j u m) (lN (β 0)), upd ac (atN T j u m) (nI (enA π T β j u))) := by
  unfold fX9_laysEnd
  have l1 : atN T j u m < 784 := atN_lt (by omega) (by omega) (by omega) hm
  have ht := tuS_le hp hK T j u
  have hf := hK.1.2
  have e0 := of9n hb (x := 0) 0 (by omega) (by omega)
  rw [tu9 hb hK hp hP hT hok (Nat.le_refl T), bd1_mk, at9, bd1_mk, e0, bd1_mk, ite_so, bd1_mk, og32 l1 (by omega), nm_mk, bd1_mk, og32 l1 (by omega), nm_mk, cp9 hb hT, bd1_mk, bd1_mk, nI_l (n := β 0) (by omega), lMN, mo9 (by omega) (by omega), bd1_mk, og32 l1 (by omega), nm_mk, nI_clamp (by omega)]
  have e1 : (if lM (tuS π β T j u) ≤ lM (β 0 + 1) then (5 : Int32) else 6) = nI (enA π T β j u) := by
    unfold enA
    by_cases h : β 0 + 1 < tuS π β T j u
    · rw [if_pos h, if_neg (fun q => by rw [lM_le (by omega) (by omega)] at q; omega)]; rfl
    · rw [if_neg h, if_pos ((lM_le (by omega) (by omega)).mpr (by omega))]; rfl
  have hcp := cpF_le hK T
  have e2 : (nI (cpF β T)).toInt64 + lM (max (β 0 + 1) (tuS π β T j u)) = lN (enV π T β j u) := by
    rw [nI_l (by omega)]
    obtain ⟨x, hx⟩ : ∃ x, max (β 0 + 1) (tuS π β T j u) = x + 1 := ⟨max (β 0 + 1) (tuS π β T j u) - 1, by omega⟩
    unfold enV
    rw [hx, lM_s, lN_add, Nat.add_sub_cancel]
  rw [e1, e2, lM_s]
theorem ls9 {bs : Nat → Int32} {pe wo ho : Nat → Int64} {ac : Nat → Int32} {k T p q R : Nat} {β : Nat → Nat} {π : Nat → Nat → Nat} (hb : RB bs k β) (hK : BK β) (hp : PK π) (hP : RP pe T π) (hN : NK T p q R) {t j u m va vb : Nat} (hm : m < 8) (hok : okS t j u) (ht : t < T) (h1 : wo (atN (t + 1) (j + 1) 1 (mkF π β m (t + 1) (j + 1))) = lN va) (h0 : wo (atN (t + 1) j 0 (mkF π β m (t + 1) j)) = lN vb) (ha : va ≤ 64000000007000) (hbb : vb ≤ 64000000007000) : fX9_laysState (nI k) (nI t) (nI j) (nI u) (nI m) bs (nI T) (nI p) (nI q) (nI R) pe wo ho ac = some (vp_updL wo (atN t j u m) (lN (bV π β t j u m (mn p q R va vb))), vp_updL ho (atN t j u m) (lN (mn p q R va vb)), upd ac (atN t j u m) (nI (bA π β t j u m (mn p q R va vb)))) := by
  unfold fX9_laysState
  have l1 : atN t j u m < 784 := atN_lt (by omega) (by omega) (by omega) hm
  have htu := tuS_le hp hK t j u
  have hpu := puL_le hK t
  have hcg := cgS_le hp hK t j u
  have hca := caL_le hK t
  have hcp := cpF_le hK t
  have hh : mn p q R va vb ≤ 64000000007000 := mn_le (by omega) (by omega) ha hbb
  rw [at9, bd1_mk, tu9 hb hK hp hP hN.1.2 hok (by omega), bd1_mk, pu9 hb hN.1.2 ht, bd1_mk, nm_mk, ho9 hb hK hp hP hN _ (by omega) hm ht h1 h0 (by omega) (by omega), bd1_mk, cg9 hb hK hp hP hN.1.2 hok ht, bd1_mk, fr9 hb hK hN.1.2 ht hm, bd1_mk, cp9 hb (by omega), iM_l (e := puL β t) (by omega), mo9 (a := puL β t) (by omega) (by omega), ca9 hb hN.1.2 ht, nI_clamp (by omega)]
  generalize mn p q R va vb = h at *
  have hbg : ∀ x, x ≤ 64000000007001 → max (max (puL β t) (tuS π β t j u)) x ≤ 64000000007001 := fun x hx => by omega
  unfold bV bA bG
  by_cases hi : icF π β t j u m h
  · have hr : ¬ lN h ≤ lM (cgS π β t j u) := by rw [lMN, lM_le (by omega) (by omega)]; have := hi.2; omega
    rw [if_pos hi.1, if_neg one0, if_neg hr, bd1_mk, og32 l1 (by omega), nm_mk, bd1_mk, bd1_mk, if_neg one0, bd1_mk, nI_l (n := cpF β t) (by omega), mo9 (by omega) (by omega), bd1_mk, og32 l1 (by omega), nm_mk, if_neg one0, if_pos hi, if_pos hi]
    have hx : ∃ x, max (max (puL β t) (tuS π β t j u)) (cgS π β t j u) = x + 1 := ⟨max (max (puL β t) (tuS π β t j u)) (cgS π β t j u) - 1, by have := hi.1.1; have : caL β t ≤ cgS π β t j u := Nat.le_max_left _ _; omega⟩
    obtain ⟨x, hx⟩ := hx
    rw [hx, lM_s, lN_add, Nat.add_sub_cancel]
    by_cases g1 : cgS π β t j u < puL β t
    · rw [if_pos g1, if_neg (fun q => by rw [lM_le (by omega) (by omega)] at q; omega), bd1_mk, og32 l1 (by omega), nm_mk, bd1_mk]; rfl
    · rw [if_neg g1, if_pos ((lM_le (by omega) (by omega)).mpr (by omega)), bd1_mk, iM_l (e := caL β t) (by omega), ite_so, bd1_mk, og32 l1 (by omega), nm_mk, bd1_mk]
      by_cases g2 : caL β t < tuS π β t j u
      · rw [if_pos g2, if_neg (fun q => by rw [lM_le (by omega) (by omega)] at q; omega)]; rfl
      · rw [if_neg g2, if_pos ((lM_le (by omega) (by omega)).mpr (by omega))]; rfl
  · have hj : (if (if frF β t m then (1 : Int32) else 0) = 0 then some (0 : Int32) else if lN h ≤ lM (cgS π β t j u) then some 0 else some 1) = some 0 := by
      by_cases hf : frF β t m
      · rw [if_pos hf, if_neg one0, if_pos]
        rw [lMN, lM_le (by omega) (by omega)]
        have := fun g => hi ⟨hf, g⟩
        omega
      · rw [if_neg hf, if_pos rfl]
    rw [hj, bd1_mk, og32 l1 (by omega), nm_mk, bd1_mk, bd1_mk, if_pos rfl, bd1_mk, nI_l (n := cpF β t) (by omega), lMN h, mo9 (by omega) (by omega), bd1_mk, og32 l1 (by omega), nm_mk, if_pos rfl, if_neg hi, if_neg hi]
    obtain ⟨x, hx⟩ : ∃ x, max (max (puL β t) (tuS π β t j u)) (h + 1) = x + 1 := ⟨max (max (puL β t) (tuS π β t j u)) (h + 1) - 1, by omega⟩
    rw [hx, lM_s, lM_s, lN_add, Nat.add_sub_cancel, ← lM_s h]
    have e3 : (if lM (h + 1) < lM (puL β t) then if lM (puL β t) = -1 then some (2 : Int32) else if lM (puL β t) < lM (tuS π β t j u) then some 2 else some 1 else if lM (h + 1) < lM (tuS π β t j u) then if lM (puL β t) = -1 then some 2 else if lM (puL β t) < lM (tuS π β t j u) then some 2 else some 1 else some 0) = some (nI (if puL β t ≤ h + 1 ∧ tuS π β t j u ≤ h + 1 then 0 else if puL β t ≠ 0 ∧ tuS π β t j u ≤ puL β t then 1 else 2)) := by
      simp only [lM_lt (a := h + 1) (b := puL β t) (by omega) (by omega), lM_lt (a := h + 1) (b := tuS π β t j u) (by omega) (by omega), lM_lt (a := puL β t) (b := tuS π β t j u) (by omega) (by omega), lM_m1 (e := puL β t) (by omega)]
      by_cases g1 : h + 1 < puL β t
      · rw [if_pos g1, if_neg (by omega : ¬ puL β t = 0), if_neg (by omega : ¬ (puL β t ≤ h + 1 ∧ tuS π β t j u ≤ h + 1))]
        by_cases g2 : puL β t < tuS π β t j u
        · rw [if_pos g2, if_neg (by omega)]; rfl
        · rw [if_neg g2, if_pos (by omega)]; rfl
      · rw [if_neg g1]
        by_cases g3 : h + 1 < tuS π β t j u
        · rw [if_pos g3, if_neg (by omega : ¬ (puL β t ≤ h + 1 ∧ tuS π β t j u ≤ h + 1)), if_neg (by omega : ¬ (puL β t ≠ 0 ∧ tuS π β t j u ≤ puL β t)), if_pos (by omega : puL β t < tuS π β t j u)]
          by_cases g4 : puL β t = 0
          · rw [if_pos g4]; rfl
          · rw [if_neg g4]; rfl
        · rw [if_neg g3, if_pos (by omega)]; rfl
    rw [e3, bd1_mk, og32 l1 (by omega), nm_mk, bd1_mk]
theorem st9 : ∀ t, t < 7 → ∀ j, j < 7 → ∀ u, u < 2 → fX9_isState (nI t) (nI j) (nI u) = some (if (t = 0 → u = 0) ∧ (u = 1 → 0 < j ∨ t = 0) ∧ (t = 0 ∨ u = 1 ∨ j < t) then 1 else 0) := by decide +kernel
/-- what the arrays hold of the states of D -/
def hoS (π : Nat → Nat → Nat) (T p q R : Nat) (β : Nat → Nat) (t j m : Nat) : Nat := if t = T then β 0 else hG π T p q R β (bV π β) (T - t - 1) j m
def acS (π : Nat → Nat → Nat) (T p q R : Nat) (β : Nat → Nat) (t j u m : Nat) : Nat := if t = T then enA π T β j u else bA π β t j u m (hG π T p q R β (bV π β) (T - t - 1) j m)
abbrev okM (π : Nat → Nat → Nat) (β : Nat → Nat) (t j u m : Nat) : Prop := okS t j u ∧ m < 8 ∧ m % 2 = hiF β (π t j)
def GD (π : Nat → Nat → Nat) (T p q R : Nat) (β : Nat → Nat) (D : Nat → Nat → Nat → Nat → Prop) (wo ho : Nat → Int64) (ac : Nat → Int32) : Prop := ∀ t j u m, t ≤ T → okM π β t j u m → D t j u m → wo (atN t j u m) = lN (vG π T p q R β (bV π β) (T - t) j u m) ∧ ho (atN t j u m) = lN (hoS π T p q R β t j m) ∧ ac (atN t j u m) = nI (acS π T p q R β t j u m)
abbrev LD (t0 j0 u0 m0 t j u m : Nat) : Prop := t0 < t ∨ (t = t0 ∧ (j < j0 ∨ (j = j0 ∧ (u < u0 ∨ (u = u0 ∧ m < m0)))))
theorem GD.sub {π : Nat → Nat → Nat} {T p q R : Nat} {β : Nat → Nat} {D D' : Nat → Nat → Nat → Nat → Prop} {wo ho : Nat → Int64} {ac : Nat → Int32} (h : GD π T p q R β D wo ho ac) (g : ∀ t j u m, t ≤ T → okM π β t j u m → D' t j u m → D t j u m) : GD π T p q R β D' wo ho ac := fun t j u m a b c => h t j u m a b (g t j u m a b c)
theorem atN_inj {t j u m t' j' u' m' : Nat} (hj : j < 7) (hu : u < 2) (hm : m < 8) (hj' : j' < 7) (hu' : u' < 2) (hm' : m' < 8) (h : atN t j u m = atN t' j' u' m') : t = t' ∧ j = j' ∧ u = u' ∧ m = m' := by
  unfold atN at h; omega
theorem GD.up {π : Nat → Nat → Nat} {T p q R : Nat} {β : Nat → Nat} {D D' : Nat → Nat → Nat → Nat → Prop} {wo ho : Nat → Int64} {ac : Nat → Int32} {t0 j0 u0 m0 : Nat} (hT : T ≤ 6) (ht : t0 ≤ T) (hk : okS t0 j0 u0) (hm : m0 < 8) (h : GD π T p q R β D wo ho ac) (g : ∀ t j u m, t ≤ T → okM π β t j u m → D' t j u m → D t j u m ∨ (t = t0 ∧ j = j0 ∧ u = u0 ∧ m = m0)) {a : Int64} {b : Int64} {c : Int32} (ea : a = lN (vG π T p q R β (bV π β) (T - t0) j0 u0 m0)) (eb : b = lN (hoS π T p q R β t0 j0 m0)) (ec : c = nI (acS π T p q R β t0 j0 u0 m0)) : GD π T p q R β D' (vp_updL wo (atN t0 j0 u0 m0) a) (vp_updL ho (atN t0 j0 u0 m0) b) (upd ac (atN t0 j0 u0 m0) c) := by
  intro t j u m h1 h2 h3
  rw [upL, upL, upS]
  by_cases e : atN t j u m = atN t0 j0 u0 m0
  · obtain ⟨rfl, rfl, rfl, rfl⟩ := atN_inj (by omega) (by omega) (by omega) (by omega) (by omega) (by omega) e
    rw [if_pos rfl, if_pos rfl, if_pos rfl]
    exact ⟨ea, eb, ec⟩
  · rw [if_neg e, if_neg e, if_neg e]
    rcases g t j u m h1 h2 h3 with g | ⟨rfl, rfl, rfl, rfl⟩
    · exact h t j u m h1 h2 g
    · exact absurd rfl e
end
section
/-! pure: the reference's loops over its states (own rows) -/
theorem p34 {bs : Nat → Int32} {pe : Nat → Int64} {k T p q R : Nat} {β : Nat → Nat} {π : Nat → Nat → Nat} (hb : RB bs k β) (hK : BK β) (hp : PK π) (hP : RP pe T π) (hN : NK T p q R) {t0 j0 u0 : Nat} (ht : t0 ≤ T) (hj : j0 ≤ t0) (hu : u0 < 2) : ∀ (i n m0 : Nat) (wo ho : Nat → Int64) (ac : Nat → Int32), 8 ≤ m0 + 2 * i → m0 ≤ 9 → m0 % 2 = hiF β (π t0 j0) → GD π T p q R β (LD t0 j0 u0 m0) wo ho ac → Sx (lpX9_plays_34 (nI k) (nI t0) (nI j0) (nI u0) bs (nI T) (nI p) (nI q) (nI R) pe (n + i + 1) (nI m0) wo ho ac) (fun z => GD π T p q R β (LD t0 j0 (u0 + 1) 0) z.1 z.2.1 z.2.2) := by
  intro i
  induction i with
  | zero =>
    intro n m0 wo ho ac h8 h9 hm hg
    rw [lpX9_plays_34.eq_2]
    refine Sx.p (show (8 : Int32) ≤ nI m0 from nI_le (a := 8) (by omega) (by omega)) (Sx.mk (hg.sub ?_))
    intro t j u m a b c
    omega
  | succ i ih =>
    intro n m0 wo ho ac h8 h9 hm hg
    rw [lpX9_plays_34.eq_2]
    by_cases hm8 : 8 ≤ m0
    · refine Sx.p (show (8 : Int32) ≤ nI m0 from nI_le (a := 8) (by omega) (by omega)) (Sx.mk (hg.sub ?_))
      intro t j u m a b c
      omega
    · refine Sx.n (show ¬ (8 : Int32) ≤ nI m0 from nI_ge (b := 8) (by omega) (by omega)) ?_
      refine Sx.e1 (st9 t0 (by omega) j0 (by omega) u0 hu) ?_
      by_cases hs : (t0 = 0 → u0 = 0) ∧ (u0 = 1 → 0 < j0 ∨ t0 = 0) ∧ (t0 = 0 ∨ u0 = 1 ∨ j0 < t0)
      · rw [if_pos hs, if_neg one0]
        have hok : okS t0 j0 u0 := by
          obtain ⟨s1, s2, s3⟩ := hs
          refine ⟨hj, hu, s1, ?_, ?_⟩
          · intro e; rcases s2 e with h | h
            · exact h
            · have := s1 h; omega
          · intro a b; omega
        have hstep : Sx (if nI t0 = nI T then bd3 (fX9_laysEnd (nI k) (nI j0) (nI u0) (nI m0) bs (nI T) pe wo ho ac) (fun x y z => some (x, y, z)) else bd3 (fX9_laysState (nI k) (nI t0) (nI j0) (nI u0) (nI m0) bs (nI T) (nI p) (nI q) (nI R) pe wo ho ac) (fun x y z => some (x, y, z))) (fun z => GD π T p q R β (LD t0 j0 u0 (m0 + 2)) z.1 z.2.1 z.2.2) := by
          have hD : ∀ t j u m, t ≤ T → okM π β t j u m → LD t0 j0 u0 (m0 + 2) t j u m → LD t0 j0 u0 m0 t j u m ∨ (t = t0 ∧ j = j0 ∧ u = u0 ∧ m = m0) := by
            intro t j u m a b c
            by_cases e : t = t0 ∧ j = j0 ∧ u = u0
            · obtain ⟨rfl, rfl, rfl⟩ := e
              have := b.2.2
              omega
            · omega
          by_cases hT : t0 = T
          · subst hT
            refine Sx.p rfl (Sx.e3 (en9 hb hK hp hP hN.1.2 (by omega) hok) (Sx.mk ?_))
            refine hg.up hN.1.2 (Nat.le_refl _) hok (by omega) hD ?_ ?_ ?_
            · rw [Nat.sub_self]; rfl
            · unfold hoS; rw [if_pos rfl]
            · unfold acS; rw [if_pos rfl]
          · have hlt : t0 < T := by omega
            have g1 := hg (t0 + 1) (j0 + 1) 1 (mkF π β m0 (t0 + 1) (j0 + 1)) (by omega) ⟨by omega, mkF_lt _ _ _ _ _, mkF_2 _ _ _ _ _⟩ (by omega)
            have g0 := hg (t0 + 1) j0 0 (mkF π β m0 (t0 + 1) j0) (by omega) ⟨by omega, mkF_lt _ _ _ _ _, mkF_2 _ _ _ _ _⟩ (by omega)
            have hl : T - (t0 + 1) ≤ 6 := by omega
            refine Sx.n (fun e => hT ((nI_eq (by omega) (by omega)).mp e)) (Sx.e3 (ls9 hb hK hp hP hN (by omega) hok hlt g1.1 g0.1 (vG_b hp hK hN (bV_SK hp hK) hl _ _ _) (vG_b hp hK hN (bV_SK hp hK) hl _ _ _)) (Sx.mk ?_))
            obtain ⟨n', hn'⟩ : ∃ n', T - t0 = n' + 1 := ⟨T - t0 - 1, by omega⟩
            have hn2 : T - (t0 + 1) = n' := by omega
            have ht1 : t0 + 1 = T - n' := by omega
            have ht2 : T - (n' + 1) = t0 := by omega
            refine hg.up hN.1.2 ht hok (by omega) hD ?_ ?_ ?_
            · rw [hn', hn2, ht1, vG_s, ht2]; rfl
            · unfold hoS; rw [if_neg hT, hn', hn2, ht1]; rfl
            · unfold acS; rw [if_neg hT, hn', hn2, ht1]; rfl
        refine Sx.b3 hstep ?_
        intro a0 a1 a2 hq
        rw [nm_mk, i_2, nI_add]
        have := ih n (m0 + 2) a0 a1 a2 (by omega) (by omega) (by omega) hq
        rwa [show n + (i + 1) = n + i + 1 by omega]
      · rw [if_neg hs, if_pos rfl]
        refine Sx.mk (hg.sub ?_)
        intro t j u m a b c
        by_cases e : t = t0 ∧ j = j0 ∧ u = u0
        · obtain ⟨rfl, rfl, rfl⟩ := e
          exact absurd (by omega) hs
        · omega
theorem p19 {bs : Nat → Int32} {pe : Nat → Int64} {k T p q R : Nat} {β : Nat → Nat} {π : Nat → Nat → Nat} (hb : RB bs k β) (hK : BK β) (hp : PK π) (hP : RP pe T π) (hN : NK T p q R) {t0 j0 : Nat} (ht : t0 ≤ T) (hj : j0 ≤ t0) : ∀ (i n u0 : Nat) (wo ho : Nat → Int64) (ac : Nat → Int32), u0 + i = 2 → GD π T p q R β (LD t0 j0 u0 0) wo ho ac → Sx (lpX9_plays_19 (nI k) (nI t0) (nI j0) bs (nI T) (nI p) (nI q) (nI R) pe (n + i + 1) (nI u0) wo ho ac) (fun z => GD π T p q R β (LD t0 (j0 + 1) 0 0) z.1 z.2.1 z.2.2) := by
  intro i
  induction i with
  | zero =>
    intro n u0 wo ho ac hi hg
    rw [lpX9_plays_19.eq_2]
    refine Sx.p (show (2 : Int32) ≤ nI u0 from nI_le (a := 2) (by omega) (by omega)) (Sx.mk (hg.sub ?_))
    intro t j u m a b c
    omega
  | succ i ih =>
    intro n u0 wo ho ac hi hg
    rw [lpX9_plays_19.eq_2]
    refine Sx.n (show ¬ (2 : Int32) ≤ nI u0 from nI_ge (b := 2) (by omega) (by omega)) ?_
    refine Sx.e1 (hi9 hb hK hp hP hN.1.2 hj ht) ?_
    have hh := hiF_lt β (π t0 j0)
    obtain ⟨n', hn'⟩ := fuN 5 (by omega)
    rw [hn']
    refine Sx.b3 (p34 hb hK hp hP hN ht hj (by omega) 4 n' (hiF β (π t0 j0)) wo ho ac (by omega) (by omega) (by omega) (hg.sub ?_)) ?_
    · intro t j u m a b c
      by_cases e : t = t0 ∧ j = j0 ∧ u = u0
      · obtain ⟨rfl, rfl, rfl⟩ := e
        have := b.2.2
        omega
      · omega
    · intro a0 a1 a2 hq
      rw [nm_mk, nI_1]
      have := ih n (u0 + 1) a0 a1 a2 (by omega) hq
      rwa [show n + (i + 1) = n + i + 1 by omega]
theorem p11 {bs : Nat → Int32} {pe : Nat → Int64} {k T p q R : Nat} {β : Nat → Nat} {π : Nat → Nat → Nat} (hb : RB bs k β) (hK : BK β) (hp : PK π) (hP : RP pe T π) (hN : NK T p q R) {t0 : Nat} (ht : t0 ≤ T) : ∀ (i n j0 : Nat) (wo ho : Nat → Int64) (ac : Nat → Int32), j0 + i = t0 + 1 → GD π T p q R β (LD t0 j0 0 0) wo ho ac → Sx (lpX9_plays_11 (nI k) (nI t0) bs (nI T) (nI p) (nI q) (nI R) pe (n + i + 1) (nI j0) wo ho ac) (fun z => GD π T p q R β (fun t _ _ _ => t0 ≤ t) z.1 z.2.1 z.2.2) := by
  intro i
  induction i with
  | zero =>
    intro n j0 wo ho ac hi hg
    rw [lpX9_plays_11.eq_2]
    refine Sx.p (nI_lt (by omega) (by omega)) (Sx.mk (hg.sub ?_))
    intro t j u m a b c
    omega
  | succ i ih =>
    intro n j0 wo ho ac hi hg
    rw [lpX9_plays_11.eq_2]
    refine Sx.n (nI_nlt (by omega) (by omega)) ?_
    obtain ⟨n', hn'⟩ := fuN 3 (by omega)
    rw [hn', i_0]
    refine Sx.b3 (p19 hb hK hp hP hN ht (by omega) 2 n' 0 wo ho ac (by omega) hg) ?_
    intro a0 a1 a2 hq
    rw [nm_mk, nI_1]
    have := ih n (j0 + 1) a0 a1 a2 (by omega) hq
    rwa [show n + (i + 1) = n + i + 1 by omega]
theorem p5 {bs : Nat → Int32} {pe : Nat → Int64} {k T p q R : Nat} {β : Nat → Nat} {π : Nat → Nat → Nat} (hb : RB bs k β) (hK : BK β) (hp : PK π) (hP : RP pe T π) (hN : NK T p q R) : ∀ (t0 n : Nat) (wo ho : Nat → Int64) (ac : Nat → Int32), t0 ≤ T → GD π T p q R β (fun t _ _ _ => t0 < t) wo ho ac → Sx (lpX9_plays_5 (nI k) bs (nI T) (nI p) (nI q) (nI R) pe (n + t0 + 2) (nI t0) wo ho ac) (fun z => GD π T p q R β (fun _ _ _ _ => True) z.1 z.2.1 z.2.2) := by
  intro t0
  induction t0 with
  | zero =>
    intro n wo ho ac ht hg
    rw [show n + 0 + 2 = (n + 1) + 1 by omega, lpX9_plays_5.eq_2]
    refine Sx.n (nI_pos (by omega)) ?_
    obtain ⟨n', hn'⟩ := fuN 2 (by omega)
    rw [hn', i_0]
    refine Sx.b3 (p11 hb hK hp hP hN ht 1 n' 0 wo ho ac (by omega) (hg.sub (by intro t j u m a b c; omega))) ?_
    intro a0 a1 a2 hq
    rw [nm_mk, lpX9_plays_5.eq_2]
    refine Sx.p (by decide) (Sx.mk (hq.sub ?_))
    intro t j u m a b c
    exact Nat.zero_le _
  | succ t0 ih =>
    intro n wo ho ac ht hg
    rw [show n + (t0 + 1) + 2 = (n + t0 + 2) + 1 by omega, lpX9_plays_5.eq_2]
    refine Sx.n (nI_pos (by omega)) ?_
    obtain ⟨n', hn'⟩ := fuN (t0 + 3) (by omega)
    rw [hn', i_0]
    refine Sx.b3 (p11 hb hK hp hP hN ht (t0 + 2) n' 0 wo ho ac (by omega) (hg.sub (by intro t j u m a b c; omega))) ?_
    intro a0 a1 a2 hq
    rw [nm_mk, pk_m1]
    exact ih n a0 a1 a2 (by omega) (hq.sub (by intro t j u m a b c; omega))
theorem pl9 {bs : Nat → Int32} {pe : Nat → Int64} {k T p q R : Nat} {β : Nat → Nat} {π : Nat → Nat → Nat} (hb : RB bs k β) (hK : BK β) (hp : PK π) (hP : RP pe T π) (hN : NK T p q R) (wo ho : Nat → Int64) (ac : Nat → Int32) : Sx (fX9_plays (nI k) bs (nI T) (nI p) (nI q) (nI R) pe wo ho ac) (fun z => GD π T p q R β (fun _ _ _ _ => True) z.1 z.2.1 z.2.2) := by
  unfold fX9_plays
  obtain ⟨n', hn'⟩ := fuN (T + 2) (by omega)
  rw [hn']
  refine Sx.b3 (p5 hb hK hp hP hN T n' wo ho ac (Nat.le_refl T) ?_) (fun a0 a1 a2 hq => Sx.mk hq)
  intro t j u m a b c
  omega
/-- prices -/
def prF (τ : Nat → Nat) (s t j : Nat) : Nat := if j ≤ t ∧ t ≤ 6 then 100 * (s * τ 2 ^ j * τ 4 ^ (t - j)) / (τ 3 ^ j * τ 5 ^ (t - j)) else 0
abbrev TK (τ : Nat → Nat) : Prop := (1 ≤ τ 0 ∧ τ 0 ≤ 6) ∧ (1 ≤ τ 1 ∧ τ 1 ≤ 1000) ∧ ((1 ≤ τ 2 ∧ τ 2 ≤ 20) ∧ (1 ≤ τ 3 ∧ τ 3 ≤ 20) ∧ (1 ≤ τ 4 ∧ τ 4 ≤ 20) ∧ (1 ≤ τ 5 ∧ τ 5 ≤ 20)) ∧ (1 ≤ τ 6 ∧ τ 6 < τ 7 ∧ τ 7 ≤ 20) ∧ τ 8 ≤ 200
abbrev TR (f : Nat → Int32) (o : Nat) (τ : Nat → Nat) : Prop := ∀ i, i < 9 → f (o + i) = nI (τ i)
theorem pw_le {a n : Nat} (h : a ≤ 20) : a ^ n ≤ 20 ^ n := Nat.pow_le_pow_left h n
theorem pw_pos {a n : Nat} (h : 1 ≤ a) : 1 ≤ a ^ n := Nat.pow_pos h
theorem pw2 {a c j t : Nat} (ha : a ≤ 20) (hc : c ≤ 20) (hj : j ≤ t) (ht : t ≤ 6) : a ^ j * c ^ (t - j) ≤ 64000000 := by
  have h := Nat.mul_le_mul (pw_le ha (n := j)) (pw_le hc (n := t - j))
  rw [← Nat.pow_add, Nat.add_sub_cancel' hj] at h
  exact Nat.le_trans h (Nat.pow_le_pow_right (by omega) ht)
theorem pt_le {τ : Nat → Nat} (hT : TK τ) {s j t : Nat} (hs : s ≤ 1000) (hj : j ≤ t) (ht : t ≤ 6) : s * τ 2 ^ j * τ 4 ^ (t - j) ≤ 64000000000 := by
  rw [Nat.mul_assoc]
  exact Nat.mul_le_mul hs (pw2 (by omega) (by omega) hj ht)
theorem pb_le {τ : Nat → Nat} (hT : TK τ) {j t : Nat} (hj : j ≤ t) (ht : t ≤ 6) : τ 3 ^ j * τ 5 ^ (t - j) ≤ 64000000 := pw2 (by omega) (by omega) hj ht
theorem pb_pos {τ : Nat → Nat} (hT : TK τ) (j t : Nat) : 0 < τ 3 ^ j * τ 5 ^ (t - j) := Nat.mul_pos (pw_pos (by omega)) (pw_pos (by omega))
theorem prF_PK {τ : Nat → Nat} (hT : TK τ) {s : Nat} (hs : s ≤ 1000) : PK (prF τ s) := by
  intro t j
  unfold prF
  split
  · rename_i h
    have := pt_le hT hs h.1 h.2
    exact Nat.le_trans (Nat.div_le_self _ _) (by omega)
  · omega
theorem pr20 {f : Nat → Int32} {o : Nat} {τ : Nat → Nat} (hf : TR f o τ) (ho : o ≤ 9) {t j s : Nat} (ht : t ≤ 6) (hj : j ≤ t) (hs : s ≤ 1000) (hT : TK τ) : ∀ (i n k : Nat), k + i = t → lpX9_prices_20 (nI t) (nI j) (nI o) f (n + i + 1) (nI k) (lN (s * τ 2 ^ (min k j) * τ 4 ^ (k - j))) (lN (τ 3 ^ (min k j) * τ 5 ^ (k - j))) = some (lN (s * τ 2 ^ j * τ 4 ^ (t - j)), lN (τ 3 ^ j * τ 5 ^ (t - j))) := by
  intro i
  induction i with
  | zero =>
    intro n k hk
    rw [lpX9_prices_20.eq_2, if_pos (nI_le (by omega) (by omega)), show k = t by omega, Nat.min_eq_right hj]
  | succ i ih =>
    intro n k hk
    rw [lpX9_prices_20.eq_2, if_neg (nI_ge (by omega) (by omega))]
    by_cases h : j ≤ k
    · rw [if_pos (nI_le h (by omega)), bd1_mk, i_4, nI_add, og32 (by omega) (by omega), nm_mk, bd1_mk, nI_add, nI_1, og32 (by omega) (by omega), nm_mk, nm_mk, nI_clamp (by omega), nI_clamp (by omega), show o + 4 + 1 = o + 5 by omega, hf 4 (by omega), hf 5 (by omega), nI_l (by omega), nI_l (by omega), lN_mul, lN_mul, nI_1]
      have := ih n (k + 1) (by omega)
      rw [show n + (i + 1) = n + i + 1 by omega, ← this]
      congr 2
      · rw [Nat.min_eq_right h, Nat.min_eq_right (by omega), show k + 1 - j = (k - j) + 1 by omega, Nat.pow_succ, Nat.mul_assoc]
      · rw [Nat.min_eq_right h, Nat.min_eq_right (by omega), show k + 1 - j = (k - j) + 1 by omega, Nat.pow_succ, Nat.mul_assoc]
    · rw [if_neg (nI_ge (by omega) (by omega)), bd1_mk, i_2, nI_add, og32 (by omega) (by omega), nm_mk, bd1_mk, nI_add, nI_1, og32 (by omega) (by omega), nm_mk, nm_mk, nI_clamp (by omega), nI_clamp (by omega), show o + 2 + 1 = o + 3 by omega, hf 2 (by omega), hf 3 (by omega), nI_l (by omega), nI_l (by omega), lN_mul, lN_mul, nI_1]
      have := ih n (k + 1) (by omega)
      rw [show n + (i + 1) = n + i + 1 by omega, ← this]
      congr 2
      · rw [Nat.min_eq_left (by omega), Nat.min_eq_left (by omega), show k + 1 - j = 0 by omega, show k - j = 0 by omega, Nat.pow_succ, Nat.pow_zero, Nat.mul_one, Nat.mul_one, Nat.mul_assoc]
      · rw [Nat.min_eq_left (by omega), Nat.min_eq_left (by omega), show k + 1 - j = 0 by omega, show k - j = 0 by omega, Nat.pow_succ, Nat.pow_zero, Nat.mul_one, Nat.mul_one]
theorem pr9 {f : Nat → Int32} {w : Nat} {τ : Nat → Nat} (hf : TR f (9 * w) τ) (hw : w ≤ 1) {t j s : Nat} (ht : t ≤ 6) (hj : j ≤ t) (hs : s ≤ 1000) (hT : TK τ) (a b : Int64) : fX9_prices (nI w) (nI s) (nI t) (nI j) f a b = some (lN (s * τ 2 ^ j * τ 4 ^ (t - j)), lN (τ 3 ^ j * τ 5 ^ (t - j))) := by
  unfold fX9_prices
  obtain ⟨n', hn'⟩ := fuN (t + 1) (by omega)
  have := pr20 hf (by omega) ht hj hs hT t n' 0 (by omega)
  rw [show s * τ 2 ^ (min 0 j) * τ 4 ^ (0 - j) = s by rw [Nat.zero_min, Nat.zero_sub, Nat.pow_zero, Nat.pow_zero, Nat.mul_one, Nat.mul_one], show τ 3 ^ (min 0 j) * τ 5 ^ (0 - j) = 1 by rw [Nat.zero_min, Nat.zero_sub, Nat.pow_zero, Nat.pow_zero]] at this
  rw [nm_mk, nm_mk, i_9, pk_mul, nI_l (by omega), hn', i_0, l_1]
  rw [show n' + (t + 1) = n' + t + 1 by omega, this, bd2_mk]
theorem tk76 {f : Nat → Int32} {w : Nat} {τ : Nat → Nat} (hf : TR f (9 * w) τ) (hw : w ≤ 1) {t s : Nat} (ht : t ≤ 6) (hs : s ≤ 1000) (hT : TK τ) : ∀ (i n j : Nat) (pe : Nat → Int64) (a b : Int64), j + i = t + 1 → (∀ x y, y ≤ x → (x < t ∨ (x = t ∧ y < j)) → pe (7 * x + y) = lN (prF τ s x y)) → Sx (lpX9_takesTree_76 (nI w) (nI s) (nI t) f (n + i + 1) (nI j) pe a b) (fun z => ∀ x y, y ≤ x → x ≤ t → z.1 (7 * x + y) = lN (prF τ s x y)) := by
  intro i
  induction i with
  | zero =>
    intro n j pe a b hi hg
    rw [lpX9_takesTree_76.eq_2]
    refine Sx.p (nI_lt (by omega) (by omega)) (Sx.mk ?_)
    intro x y h1 h2
    exact hg x y h1 (by omega)
  | succ i ih =>
    intro n j pe a b hi hg
    rw [lpX9_takesTree_76.eq_2]
    refine Sx.n (nI_nlt (by omega) (by omega)) ?_
    refine Sx.e2 (pr9 hf hw ht (by omega) hs hT a b) ?_
    have h1 := pt_le hT hs (show j ≤ t by omega) ht
    have h2 := pb_le hT (show j ≤ t by omega) ht
    have h3 := pb_pos hT j t
    refine Sx.og (by unfold nzL; rw [l_0, decide_eq_false (fun h => by rw [pk_lEQ (by omega) (by omega)] at h; omega)]; rfl) ?_
    rw [i_7, pk_mul, nI_add, og32 (by omega) (by omega), nm_mk, nm_mk, nI_clamp (by omega), l_100, lN_mul, pk_lDiv (by omega) h3 (by omega), nI_1, show n + (i + 1) = n + i + 1 by omega]
    refine ih n (j + 1) _ _ _ (by omega) ?_
    intro x y g1 g2
    rw [upL]
    by_cases e : 7 * x + y = 7 * t + j
    · have ex : x = t := by omega
      have ey : y = j := by omega
      subst ex; subst ey
      rw [if_pos rfl]
      unfold prF
      rw [if_pos ⟨g1, ht⟩]
    · rw [if_neg e]
      exact hg x y g1 (by omega)
theorem tk65 {f : Nat → Int32} {w : Nat} {τ : Nat → Nat} (hf : TR f (9 * w) τ) (hw : w ≤ 1) {T s : Nat} (ht : T ≤ 6) (hs : s ≤ 1000) (hT : TK τ) : ∀ (i n t : Nat) (pe : Nat → Int64) (a b : Int64), t + i = T + 1 → (∀ x y, y ≤ x → x < t → pe (7 * x + y) = lN (prF τ s x y)) → Sx (lpX9_takesTree_65 (nI w) (nI s) f (nI T) (n + i + 1) (nI t) pe a b) (fun z => RP z.1 T (prF τ s)) := by
  intro i
  induction i with
  | zero =>
    intro n t pe a b hi hg
    rw [lpX9_takesTree_65.eq_2]
    refine Sx.p (nI_lt (by omega) (by omega)) (Sx.mk ?_)
    intro x y h1 h2
    exact hg x y h1 (by omega)
  | succ i ih =>
    intro n t pe a b hi hg
    rw [lpX9_takesTree_65.eq_2]
    refine Sx.n (nI_nlt (by omega) (by omega)) ?_
    obtain ⟨n', hn'⟩ := fuN (t + 2) (by omega)
    rw [hn', i_0]
    refine Sx.b3 (tk76 hf hw (by omega) hs hT (t + 1) n' 0 pe a b (by omega) (fun x y g1 g2 => hg x y g1 (by omega))) ?_
    intro a0 a1 a2 hq
    rw [nm_mk, nI_1, show n + (i + 1) = n + i + 1 by omega]
    exact ih n (t + 1) _ _ _ (by omega) (fun x y g1 g2 => hq x y g1 (by omega))
theorem tt9 {f : Nat → Int32} {w : Nat} {τ : Nat → Nat} (hf : TR f (9 * w) τ) (hw : w ≤ 1) {s : Nat} (hs : s ≤ 1000) (hT : TK τ) (x0 x1 x2 x3 : Int32) (pe : Nat → Int64) (a b : Int64) : Sx (fX9_takesTree (nI w) (nI s) f x0 x1 x2 x3 pe a b) (fun z => z.1 = nI (τ 0) ∧ z.2.1 = nI (τ 6) ∧ z.2.2.1 = nI (τ 7) ∧ z.2.2.2.1 = nI (τ 8) ∧ RP z.2.2.2.2.1 (τ 0) (prF τ s)) := by
  unfold fX9_takesTree
  rw [i_9, pk_mul, i_0, nI_add, i_6, nI_add, i_7, nI_add, i_8, nI_add, og32 (by omega) (by omega), nm_mk, og32 (by omega) (by omega), nm_mk, og32 (by omega) (by omega), nm_mk, og32 (by omega) (by omega), nm_mk, nI_clamp (by omega), nI_clamp (by omega), nI_clamp (by omega), nI_clamp (by omega), hf 0 (by omega), hf 6 (by omega), hf 7 (by omega), hf 8 (by omega)]
  obtain ⟨n', hn'⟩ := fuN (τ 0 + 2) (by omega)
  rw [hn']
  refine Sx.b3 (tk65 hf hw (by omega) hs hT (τ 0 + 1) n' 0 pe a b (by omega) (fun x y _ h => absurd h (by omega))) ?_
  intro a0 a1 a2 hq
  exact Sx.mk ⟨rfl, rfl, rfl, rfl, hq⟩
end
