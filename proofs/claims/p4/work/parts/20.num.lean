/-! pure: steps and numbers (own rows) -/
def Sx {α : Type} (o : Option α) (Q : α → Prop) : Prop := ∃ a, o = some a ∧ Q a
theorem Sx.mk {α : Type} {a : α} {Q : α → Prop} (h : Q a) : Sx (some a) Q := ⟨a, rfl, h⟩
theorem Sx.eq {α : Type} {o : Option α} {a : α} {Q : α → Prop} (e : o = some a) (h : Q a) : Sx o Q := ⟨a, e, h⟩
theorem Sx.imp {α : Type} {o : Option α} {Q R : α → Prop} (h : Sx o Q) (g : ∀ a, Q a → R a) : Sx o R := by
  obtain ⟨a, e, q⟩ := h; exact ⟨a, e, g a q⟩
theorem Sx.og {α : Type} {c : Bool} {k : Option α} {Q : α → Prop} (hc : c = true) (h : Sx k Q) : Sx (og c k) Q := by
  rw [og_mk _ hc]; exact h
theorem Sx.nm {α β : Type} {e : α} {k : α → Option β} {Q : β → Prop} (h : Sx (k e) Q) : Sx (nm e k) Q := h
theorem Sx.it {α : Type} {c : Prop} [Decidable c] {a b : Option α} {Q : α → Prop} (h1 : c → Sx a Q) (h2 : ¬ c → Sx b Q) : Sx (if c then a else b) Q := by
  by_cases h : c
  · rw [if_pos h]; exact h1 h
  · rw [if_neg h]; exact h2 h
theorem Sx.p {α : Type} {c : Prop} [Decidable c] {a b : Option α} {Q : α → Prop} (hc : c) (h : Sx a Q) : Sx (if c then a else b) Q := by rw [if_pos hc]; exact h
theorem Sx.n {α : Type} {c : Prop} [Decidable c] {a b : Option α} {Q : α → Prop} (hc : ¬ c) (h : Sx b Q) : Sx (if c then a else b) Q := by rw [if_neg hc]; exact h
theorem Sx.e1 {T0 Z : Type} {o : Option (T0)} {k : T0 → Option Z} {Q : Z → Prop} {a0 : T0} (e : o = some a0) (h : Sx (k a0) Q) : Sx (bd1 o k) Q := by rw [e]; exact h
theorem Sx.b1 {T0 Z : Type} {o : Option (T0)} {k : T0 → Option Z} {Q : Z → Prop} {P : T0 → Prop} (h : Sx o P) (g : ∀ a0, P a0 → Sx (k a0) Q) : Sx (bd1 o k) Q := by
  obtain ⟨a0, e, q⟩ := h
  rw [e]; exact g a0 q
theorem Sx.e2 {T0 T1 Z : Type} {o : Option (T0 × T1)} {k : T0 → T1 → Option Z} {Q : Z → Prop} {a0 : T0} {a1 : T1} (e : o = some (a0, a1)) (h : Sx (k a0 a1) Q) : Sx (bd2 o k) Q := by rw [e]; exact h
theorem Sx.b2 {T0 T1 Z : Type} {o : Option (T0 × T1)} {k : T0 → T1 → Option Z} {Q : Z → Prop} {P : T0 × T1 → Prop} (h : Sx o P) (g : ∀ a0 a1, P (a0, a1) → Sx (k a0 a1) Q) : Sx (bd2 o k) Q := by
  obtain ⟨⟨a0, a1⟩, e, q⟩ := h
  rw [e]; exact g a0 a1 q
theorem Sx.e3 {T0 T1 T2 Z : Type} {o : Option (T0 × T1 × T2)} {k : T0 → T1 → T2 → Option Z} {Q : Z → Prop} {a0 : T0} {a1 : T1} {a2 : T2} (e : o = some (a0, a1, a2)) (h : Sx (k a0 a1 a2) Q) : Sx (bd3 o k) Q := by rw [e]; exact h
theorem Sx.b3 {T0 T1 T2 Z : Type} {o : Option (T0 × T1 × T2)} {k : T0 → T1 → T2 → Option Z} {Q : Z → Prop} {P : T0 × T1 × T2 → Prop} (h : Sx o P) (g : ∀ a0 a1 a2, P (a0, a1, a2) → Sx (k a0 a1 a2) Q) : Sx (bd3 o k) Q := by
  obtain ⟨⟨a0, a1, a2⟩, e, q⟩ := h
  rw [e]; exact g a0 a1 a2 q
theorem Sx.e4 {T0 T1 T2 T3 Z : Type} {o : Option (T0 × T1 × T2 × T3)} {k : T0 → T1 → T2 → T3 → Option Z} {Q : Z → Prop} {a0 : T0} {a1 : T1} {a2 : T2} {a3 : T3} (e : o = some (a0, a1, a2, a3)) (h : Sx (k a0 a1 a2 a3) Q) : Sx (bd4 o k) Q := by rw [e]; exact h
theorem Sx.b4 {T0 T1 T2 T3 Z : Type} {o : Option (T0 × T1 × T2 × T3)} {k : T0 → T1 → T2 → T3 → Option Z} {Q : Z → Prop} {P : T0 × T1 × T2 × T3 → Prop} (h : Sx o P) (g : ∀ a0 a1 a2 a3, P (a0, a1, a2, a3) → Sx (k a0 a1 a2 a3) Q) : Sx (bd4 o k) Q := by
  obtain ⟨⟨a0, a1, a2, a3⟩, e, q⟩ := h
  rw [e]; exact g a0 a1 a2 a3 q
theorem Sx.e5 {T0 T1 T2 T3 T4 Z : Type} {o : Option (T0 × T1 × T2 × T3 × T4)} {k : T0 → T1 → T2 → T3 → T4 → Option Z} {Q : Z → Prop} {a0 : T0} {a1 : T1} {a2 : T2} {a3 : T3} {a4 : T4} (e : o = some (a0, a1, a2, a3, a4)) (h : Sx (k a0 a1 a2 a3 a4) Q) : Sx (bd5 o k) Q := by rw [e]; exact h
theorem Sx.b5 {T0 T1 T2 T3 T4 Z : Type} {o : Option (T0 × T1 × T2 × T3 × T4)} {k : T0 → T1 → T2 → T3 → T4 → Option Z} {Q : Z → Prop} {P : T0 × T1 × T2 × T3 × T4 → Prop} (h : Sx o P) (g : ∀ a0 a1 a2 a3 a4, P (a0, a1, a2, a3, a4) → Sx (k a0 a1 a2 a3 a4) Q) : Sx (bd5 o k) Q := by
  obtain ⟨⟨a0, a1, a2, a3, a4⟩, e, q⟩ := h
  rw [e]; exact g a0 a1 a2 a3 a4 q
theorem Sx.e6 {T0 T1 T2 T3 T4 T5 Z : Type} {o : Option (T0 × T1 × T2 × T3 × T4 × T5)} {k : T0 → T1 → T2 → T3 → T4 → T5 → Option Z} {Q : Z → Prop} {a0 : T0} {a1 : T1} {a2 : T2} {a3 : T3} {a4 : T4} {a5 : T5} (e : o = some (a0, a1, a2, a3, a4, a5)) (h : Sx (k a0 a1 a2 a3 a4 a5) Q) : Sx (bd6 o k) Q := by rw [e]; exact h
theorem Sx.b6 {T0 T1 T2 T3 T4 T5 Z : Type} {o : Option (T0 × T1 × T2 × T3 × T4 × T5)} {k : T0 → T1 → T2 → T3 → T4 → T5 → Option Z} {Q : Z → Prop} {P : T0 × T1 × T2 × T3 × T4 × T5 → Prop} (h : Sx o P) (g : ∀ a0 a1 a2 a3 a4 a5, P (a0, a1, a2, a3, a4, a5) → Sx (k a0 a1 a2 a3 a4 a5) Q) : Sx (bd6 o k) Q := by
  obtain ⟨⟨a0, a1, a2, a3, a4, a5⟩, e, q⟩ := h
  rw [e]; exact g a0 a1 a2 a3 a4 a5 q
theorem Sx.e7 {T0 T1 T2 T3 T4 T5 T6 Z : Type} {o : Option (T0 × T1 × T2 × T3 × T4 × T5 × T6)} {k : T0 → T1 → T2 → T3 → T4 → T5 → T6 → Option Z} {Q : Z → Prop} {a0 : T0} {a1 : T1} {a2 : T2} {a3 : T3} {a4 : T4} {a5 : T5} {a6 : T6} (e : o = some (a0, a1, a2, a3, a4, a5, a6)) (h : Sx (k a0 a1 a2 a3 a4 a5 a6) Q) : Sx (bd7 o k) Q := by rw [e]; exact h
theorem Sx.b7 {T0 T1 T2 T3 T4 T5 T6 Z : Type} {o : Option (T0 × T1 × T2 × T3 × T4 × T5 × T6)} {k : T0 → T1 → T2 → T3 → T4 → T5 → T6 → Option Z} {Q : Z → Prop} {P : T0 × T1 × T2 × T3 × T4 × T5 × T6 → Prop} (h : Sx o P) (g : ∀ a0 a1 a2 a3 a4 a5 a6, P (a0, a1, a2, a3, a4, a5, a6) → Sx (k a0 a1 a2 a3 a4 a5 a6) Q) : Sx (bd7 o k) Q := by
  obtain ⟨⟨a0, a1, a2, a3, a4, a5, a6⟩, e, q⟩ := h
  rw [e]; exact g a0 a1 a2 a3 a4 a5 a6 q
theorem Sx.e8 {T0 T1 T2 T3 T4 T5 T6 T7 Z : Type} {o : Option (T0 × T1 × T2 × T3 × T4 × T5 × T6 × T7)} {k : T0 → T1 → T2 → T3 → T4 → T5 → T6 → T7 → Option Z} {Q : Z → Prop} {a0 : T0} {a1 : T1} {a2 : T2} {a3 : T3} {a4 : T4} {a5 : T5} {a6 : T6} {a7 : T7} (e : o = some (a0, a1, a2, a3, a4, a5, a6, a7)) (h : Sx (k a0 a1 a2 a3 a4 a5 a6 a7) Q) : Sx (bd8 o k) Q := by rw [e]; exact h
theorem Sx.b8 {T0 T1 T2 T3 T4 T5 T6 T7 Z : Type} {o : Option (T0 × T1 × T2 × T3 × T4 × T5 × T6 × T7)} {k : T0 → T1 → T2 → T3 → T4 → T5 → T6 → T7 → Option Z} {Q : Z → Prop} {P : T0 × T1 × T2 × T3 × T4 × T5 × T6 × T7 → Prop} (h : Sx o P) (g : ∀ a0 a1 a2 a3 a4 a5 a6 a7, P (a0, a1, a2, a3, a4, a5, a6, a7) → Sx (k a0 a1 a2 a3 a4 a5 a6 a7) Q) : Sx (bd8 o k) Q := by
  obtain ⟨⟨a0, a1, a2, a3, a4, a5, a6, a7⟩, e, q⟩ := h
  rw [e]; exact g a0 a1 a2 a3 a4 a5 a6 a7 q
theorem Sx.e9 {T0 T1 T2 T3 T4 T5 T6 T7 T8 Z : Type} {o : Option (T0 × T1 × T2 × T3 × T4 × T5 × T6 × T7 × T8)} {k : T0 → T1 → T2 → T3 → T4 → T5 → T6 → T7 → T8 → Option Z} {Q : Z → Prop} {a0 : T0} {a1 : T1} {a2 : T2} {a3 : T3} {a4 : T4} {a5 : T5} {a6 : T6} {a7 : T7} {a8 : T8} (e : o = some (a0, a1, a2, a3, a4, a5, a6, a7, a8)) (h : Sx (k a0 a1 a2 a3 a4 a5 a6 a7 a8) Q) : Sx (bd9 o k) Q := by rw [e]; exact h
theorem Sx.b9 {T0 T1 T2 T3 T4 T5 T6 T7 T8 Z : Type} {o : Option (T0 × T1 × T2 × T3 × T4 × T5 × T6 × T7 × T8)} {k : T0 → T1 → T2 → T3 → T4 → T5 → T6 → T7 → T8 → Option Z} {Q : Z → Prop} {P : T0 × T1 × T2 × T3 × T4 × T5 × T6 × T7 × T8 → Prop} (h : Sx o P) (g : ∀ a0 a1 a2 a3 a4 a5 a6 a7 a8, P (a0, a1, a2, a3, a4, a5, a6, a7, a8) → Sx (k a0 a1 a2 a3 a4 a5 a6 a7 a8) Q) : Sx (bd9 o k) Q := by
  obtain ⟨⟨a0, a1, a2, a3, a4, a5, a6, a7, a8⟩, e, q⟩ := h
  rw [e]; exact g a0 a1 a2 a3 a4 a5 a6 a7 a8 q
theorem Sx.e10 {T0 T1 T2 T3 T4 T5 T6 T7 T8 T9 Z : Type} {o : Option (T0 × T1 × T2 × T3 × T4 × T5 × T6 × T7 × T8 × T9)} {k : T0 → T1 → T2 → T3 → T4 → T5 → T6 → T7 → T8 → T9 → Option Z} {Q : Z → Prop} {a0 : T0} {a1 : T1} {a2 : T2} {a3 : T3} {a4 : T4} {a5 : T5} {a6 : T6} {a7 : T7} {a8 : T8} {a9 : T9} (e : o = some (a0, a1, a2, a3, a4, a5, a6, a7, a8, a9)) (h : Sx (k a0 a1 a2 a3 a4 a5 a6 a7 a8 a9) Q) : Sx (bd10 o k) Q := by rw [e]; exact h
theorem Sx.b10 {T0 T1 T2 T3 T4 T5 T6 T7 T8 T9 Z : Type} {o : Option (T0 × T1 × T2 × T3 × T4 × T5 × T6 × T7 × T8 × T9)} {k : T0 → T1 → T2 → T3 → T4 → T5 → T6 → T7 → T8 → T9 → Option Z} {Q : Z → Prop} {P : T0 × T1 × T2 × T3 × T4 × T5 × T6 × T7 × T8 × T9 → Prop} (h : Sx o P) (g : ∀ a0 a1 a2 a3 a4 a5 a6 a7 a8 a9, P (a0, a1, a2, a3, a4, a5, a6, a7, a8, a9) → Sx (k a0 a1 a2 a3 a4 a5 a6 a7 a8 a9) Q) : Sx (bd10 o k) Q := by
  obtain ⟨⟨a0, a1, a2, a3, a4, a5, a6, a7, a8, a9⟩, e, q⟩ := h
  rw [e]; exact g a0 a1 a2 a3 a4 a5 a6 a7 a8 a9 q
theorem Sx.e11 {T0 T1 T2 T3 T4 T5 T6 T7 T8 T9 T10 Z : Type} {o : Option (T0 × T1 × T2 × T3 × T4 × T5 × T6 × T7 × T8 × T9 × T10)} {k : T0 → T1 → T2 → T3 → T4 → T5 → T6 → T7 → T8 → T9 → T10 → Option Z} {Q : Z → Prop} {a0 : T0} {a1 : T1} {a2 : T2} {a3 : T3} {a4 : T4} {a5 : T5} {a6 : T6} {a7 : T7} {a8 : T8} {a9 : T9} {a10 : T10} (e : o = some (a0, a1, a2, a3, a4, a5, a6, a7, a8, a9, a10)) (h : Sx (k a0 a1 a2 a3 a4 a5 a6 a7 a8 a9 a10) Q) : Sx (bd11 o k) Q := by rw [e]; exact h
theorem Sx.b11 {T0 T1 T2 T3 T4 T5 T6 T7 T8 T9 T10 Z : Type} {o : Option (T0 × T1 × T2 × T3 × T4 × T5 × T6 × T7 × T8 × T9 × T10)} {k : T0 → T1 → T2 → T3 → T4 → T5 → T6 → T7 → T8 → T9 → T10 → Option Z} {Q : Z → Prop} {P : T0 × T1 × T2 × T3 × T4 × T5 × T6 × T7 × T8 × T9 × T10 → Prop} (h : Sx o P) (g : ∀ a0 a1 a2 a3 a4 a5 a6 a7 a8 a9 a10, P (a0, a1, a2, a3, a4, a5, a6, a7, a8, a9, a10) → Sx (k a0 a1 a2 a3 a4 a5 a6 a7 a8 a9 a10) Q) : Sx (bd11 o k) Q := by
  obtain ⟨⟨a0, a1, a2, a3, a4, a5, a6, a7, a8, a9, a10⟩, e, q⟩ := h
  rw [e]; exact g a0 a1 a2 a3 a4 a5 a6 a7 a8 a9 a10 q
theorem Sx.e12 {T0 T1 T2 T3 T4 T5 T6 T7 T8 T9 T10 T11 Z : Type} {o : Option (T0 × T1 × T2 × T3 × T4 × T5 × T6 × T7 × T8 × T9 × T10 × T11)} {k : T0 → T1 → T2 → T3 → T4 → T5 → T6 → T7 → T8 → T9 → T10 → T11 → Option Z} {Q : Z → Prop} {a0 : T0} {a1 : T1} {a2 : T2} {a3 : T3} {a4 : T4} {a5 : T5} {a6 : T6} {a7 : T7} {a8 : T8} {a9 : T9} {a10 : T10} {a11 : T11} (e : o = some (a0, a1, a2, a3, a4, a5, a6, a7, a8, a9, a10, a11)) (h : Sx (k a0 a1 a2 a3 a4 a5 a6 a7 a8 a9 a10 a11) Q) : Sx (bd12 o k) Q := by rw [e]; exact h
theorem Sx.b12 {T0 T1 T2 T3 T4 T5 T6 T7 T8 T9 T10 T11 Z : Type} {o : Option (T0 × T1 × T2 × T3 × T4 × T5 × T6 × T7 × T8 × T9 × T10 × T11)} {k : T0 → T1 → T2 → T3 → T4 → T5 → T6 → T7 → T8 → T9 → T10 → T11 → Option Z} {Q : Z → Prop} {P : T0 × T1 × T2 × T3 × T4 × T5 × T6 × T7 × T8 × T9 × T10 × T11 → Prop} (h : Sx o P) (g : ∀ a0 a1 a2 a3 a4 a5 a6 a7 a8 a9 a10 a11, P (a0, a1, a2, a3, a4, a5, a6, a7, a8, a9, a10, a11) → Sx (k a0 a1 a2 a3 a4 a5 a6 a7 a8 a9 a10 a11) Q) : Sx (bd12 o k) Q := by
  obtain ⟨⟨a0, a1, a2, a3, a4, a5, a6, a7, a8, a9, a10, a11⟩, e, q⟩ := h
  rw [e]; exact g a0 a1 a2 a3 a4 a5 a6 a7 a8 a9 a10 a11 q
theorem Sx.e13 {T0 T1 T2 T3 T4 T5 T6 T7 T8 T9 T10 T11 T12 Z : Type} {o : Option (T0 × T1 × T2 × T3 × T4 × T5 × T6 × T7 × T8 × T9 × T10 × T11 × T12)} {k : T0 → T1 → T2 → T3 → T4 → T5 → T6 → T7 → T8 → T9 → T10 → T11 → T12 → Option Z} {Q : Z → Prop} {a0 : T0} {a1 : T1} {a2 : T2} {a3 : T3} {a4 : T4} {a5 : T5} {a6 : T6} {a7 : T7} {a8 : T8} {a9 : T9} {a10 : T10} {a11 : T11} {a12 : T12} (e : o = some (a0, a1, a2, a3, a4, a5, a6, a7, a8, a9, a10, a11, a12)) (h : Sx (k a0 a1 a2 a3 a4 a5 a6 a7 a8 a9 a10 a11 a12) Q) : Sx (bd13 o k) Q := by rw [e]; exact h
theorem Sx.b13 {T0 T1 T2 T3 T4 T5 T6 T7 T8 T9 T10 T11 T12 Z : Type} {o : Option (T0 × T1 × T2 × T3 × T4 × T5 × T6 × T7 × T8 × T9 × T10 × T11 × T12)} {k : T0 → T1 → T2 → T3 → T4 → T5 → T6 → T7 → T8 → T9 → T10 → T11 → T12 → Option Z} {Q : Z → Prop} {P : T0 × T1 × T2 × T3 × T4 × T5 × T6 × T7 × T8 × T9 × T10 × T11 × T12 → Prop} (h : Sx o P) (g : ∀ a0 a1 a2 a3 a4 a5 a6 a7 a8 a9 a10 a11 a12, P (a0, a1, a2, a3, a4, a5, a6, a7, a8, a9, a10, a11, a12) → Sx (k a0 a1 a2 a3 a4 a5 a6 a7 a8 a9 a10 a11 a12) Q) : Sx (bd13 o k) Q := by
  obtain ⟨⟨a0, a1, a2, a3, a4, a5, a6, a7, a8, a9, a10, a11, a12⟩, e, q⟩ := h
  rw [e]; exact g a0 a1 a2 a3 a4 a5 a6 a7 a8 a9 a10 a11 a12 q
theorem Sx.e14 {T0 T1 T2 T3 T4 T5 T6 T7 T8 T9 T10 T11 T12 T13 Z : Type} {o : Option (T0 × T1 × T2 × T3 × T4 × T5 × T6 × T7 × T8 × T9 × T10 × T11 × T12 × T13)} {k : T0 → T1 → T2 → T3 → T4 → T5 → T6 → T7 → T8 → T9 → T10 → T11 → T12 → T13 → Option Z} {Q : Z → Prop} {a0 : T0} {a1 : T1} {a2 : T2} {a3 : T3} {a4 : T4} {a5 : T5} {a6 : T6} {a7 : T7} {a8 : T8} {a9 : T9} {a10 : T10} {a11 : T11} {a12 : T12} {a13 : T13} (e : o = some (a0, a1, a2, a3, a4, a5, a6, a7, a8, a9, a10, a11, a12, a13)) (h : Sx (k a0 a1 a2 a3 a4 a5 a6 a7 a8 a9 a10 a11 a12 a13) Q) : Sx (bd14 o k) Q := by rw [e]; exact h
theorem Sx.b14 {T0 T1 T2 T3 T4 T5 T6 T7 T8 T9 T10 T11 T12 T13 Z : Type} {o : Option (T0 × T1 × T2 × T3 × T4 × T5 × T6 × T7 × T8 × T9 × T10 × T11 × T12 × T13)} {k : T0 → T1 → T2 → T3 → T4 → T5 → T6 → T7 → T8 → T9 → T10 → T11 → T12 → T13 → Option Z} {Q : Z → Prop} {P : T0 × T1 × T2 × T3 × T4 × T5 × T6 × T7 × T8 × T9 × T10 × T11 × T12 × T13 → Prop} (h : Sx o P) (g : ∀ a0 a1 a2 a3 a4 a5 a6 a7 a8 a9 a10 a11 a12 a13, P (a0, a1, a2, a3, a4, a5, a6, a7, a8, a9, a10, a11, a12, a13) → Sx (k a0 a1 a2 a3 a4 a5 a6 a7 a8 a9 a10 a11 a12 a13) Q) : Sx (bd14 o k) Q := by
  obtain ⟨⟨a0, a1, a2, a3, a4, a5, a6, a7, a8, a9, a10, a11, a12, a13⟩, e, q⟩ := h
  rw [e]; exact g a0 a1 a2 a3 a4 a5 a6 a7 a8 a9 a10 a11 a12 a13 q
theorem Sx.e15 {T0 T1 T2 T3 T4 T5 T6 T7 T8 T9 T10 T11 T12 T13 T14 Z : Type} {o : Option (T0 × T1 × T2 × T3 × T4 × T5 × T6 × T7 × T8 × T9 × T10 × T11 × T12 × T13 × T14)} {k : T0 → T1 → T2 → T3 → T4 → T5 → T6 → T7 → T8 → T9 → T10 → T11 → T12 → T13 → T14 → Option Z} {Q : Z → Prop} {a0 : T0} {a1 : T1} {a2 : T2} {a3 : T3} {a4 : T4} {a5 : T5} {a6 : T6} {a7 : T7} {a8 : T8} {a9 : T9} {a10 : T10} {a11 : T11} {a12 : T12} {a13 : T13} {a14 : T14} (e : o = some (a0, a1, a2, a3, a4, a5, a6, a7, a8, a9, a10, a11, a12, a13, a14)) (h : Sx (k a0 a1 a2 a3 a4 a5 a6 a7 a8 a9 a10 a11 a12 a13 a14) Q) : Sx (bd15 o k) Q := by rw [e]; exact h
theorem Sx.b15 {T0 T1 T2 T3 T4 T5 T6 T7 T8 T9 T10 T11 T12 T13 T14 Z : Type} {o : Option (T0 × T1 × T2 × T3 × T4 × T5 × T6 × T7 × T8 × T9 × T10 × T11 × T12 × T13 × T14)} {k : T0 → T1 → T2 → T3 → T4 → T5 → T6 → T7 → T8 → T9 → T10 → T11 → T12 → T13 → T14 → Option Z} {Q : Z → Prop} {P : T0 × T1 × T2 × T3 × T4 × T5 × T6 × T7 × T8 × T9 × T10 × T11 × T12 × T13 × T14 → Prop} (h : Sx o P) (g : ∀ a0 a1 a2 a3 a4 a5 a6 a7 a8 a9 a10 a11 a12 a13 a14, P (a0, a1, a2, a3, a4, a5, a6, a7, a8, a9, a10, a11, a12, a13, a14) → Sx (k a0 a1 a2 a3 a4 a5 a6 a7 a8 a9 a10 a11 a12 a13 a14) Q) : Sx (bd15 o k) Q := by
  obtain ⟨⟨a0, a1, a2, a3, a4, a5, a6, a7, a8, a9, a10, a11, a12, a13, a14⟩, e, q⟩ := h
  rw [e]; exact g a0 a1 a2 a3 a4 a5 a6 a7 a8 a9 a10 a11 a12 a13 a14 q
theorem Sx.e16 {T0 T1 T2 T3 T4 T5 T6 T7 T8 T9 T10 T11 T12 T13 T14 T15 Z : Type} {o : Option (T0 × T1 × T2 × T3 × T4 × T5 × T6 × T7 × T8 × T9 × T10 × T11 × T12 × T13 × T14 × T15)} {k : T0 → T1 → T2 → T3 → T4 → T5 → T6 → T7 → T8 → T9 → T10 → T11 → T12 → T13 → T14 → T15 → Option Z} {Q : Z → Prop} {a0 : T0} {a1 : T1} {a2 : T2} {a3 : T3} {a4 : T4} {a5 : T5} {a6 : T6} {a7 : T7} {a8 : T8} {a9 : T9} {a10 : T10} {a11 : T11} {a12 : T12} {a13 : T13} {a14 : T14} {a15 : T15} (e : o = some (a0, a1, a2, a3, a4, a5, a6, a7, a8, a9, a10, a11, a12, a13, a14, a15)) (h : Sx (k a0 a1 a2 a3 a4 a5 a6 a7 a8 a9 a10 a11 a12 a13 a14 a15) Q) : Sx (bd16 o k) Q := by rw [e]; exact h
theorem Sx.b16 {T0 T1 T2 T3 T4 T5 T6 T7 T8 T9 T10 T11 T12 T13 T14 T15 Z : Type} {o : Option (T0 × T1 × T2 × T3 × T4 × T5 × T6 × T7 × T8 × T9 × T10 × T11 × T12 × T13 × T14 × T15)} {k : T0 → T1 → T2 → T3 → T4 → T5 → T6 → T7 → T8 → T9 → T10 → T11 → T12 → T13 → T14 → T15 → Option Z} {Q : Z → Prop} {P : T0 × T1 × T2 × T3 × T4 × T5 × T6 × T7 × T8 × T9 × T10 × T11 × T12 × T13 × T14 × T15 → Prop} (h : Sx o P) (g : ∀ a0 a1 a2 a3 a4 a5 a6 a7 a8 a9 a10 a11 a12 a13 a14 a15, P (a0, a1, a2, a3, a4, a5, a6, a7, a8, a9, a10, a11, a12, a13, a14, a15) → Sx (k a0 a1 a2 a3 a4 a5 a6 a7 a8 a9 a10 a11 a12 a13 a14 a15) Q) : Sx (bd16 o k) Q := by
  obtain ⟨⟨a0, a1, a2, a3, a4, a5, a6, a7, a8, a9, a10, a11, a12, a13, a14, a15⟩, e, q⟩ := h
  rw [e]; exact g a0 a1 a2 a3 a4 a5 a6 a7 a8 a9 a10 a11 a12 a13 a14 a15 q
theorem i_0 : (0 : Int32) = nI 0 := rfl
theorem i_1 : (1 : Int32) = nI 1 := rfl
theorem i_2 : (2 : Int32) = nI 2 := rfl
theorem i_3 : (3 : Int32) = nI 3 := rfl
theorem i_4 : (4 : Int32) = nI 4 := rfl
theorem i_5 : (5 : Int32) = nI 5 := rfl
theorem i_6 : (6 : Int32) = nI 6 := rfl
theorem i_7 : (7 : Int32) = nI 7 := rfl
theorem i_8 : (8 : Int32) = nI 8 := rfl
theorem i_9 : (9 : Int32) = nI 9 := rfl
theorem i_10 : (10 : Int32) = nI 10 := rfl
theorem i_11 : (11 : Int32) = nI 11 := rfl
theorem i_15 : (15 : Int32) = nI 15 := rfl
theorem i_16 : (16 : Int32) = nI 16 := rfl
theorem i_17 : (17 : Int32) = nI 17 := rfl
theorem i_18 : (18 : Int32) = nI 18 := rfl
theorem i_20 : (20 : Int32) = nI 20 := rfl
theorem i_21 : (21 : Int32) = nI 21 := rfl
theorem i_22 : (22 : Int32) = nI 22 := rfl
theorem i_23 : (23 : Int32) = nI 23 := rfl
theorem i_24 : (24 : Int32) = nI 24 := rfl
theorem i_25 : (25 : Int32) = nI 25 := rfl
theorem i_26 : (26 : Int32) = nI 26 := rfl
theorem i_27 : (27 : Int32) = nI 27 := rfl
theorem i_30 : (30 : Int32) = nI 30 := rfl
theorem i_31 : (31 : Int32) = nI 31 := rfl
theorem i_32 : (32 : Int32) = nI 32 := rfl
theorem i_35 : (35 : Int32) = nI 35 := rfl
theorem i_36 : (36 : Int32) = nI 36 := rfl
theorem i_45 : (45 : Int32) = nI 45 := rfl
theorem i_47 : (47 : Int32) = nI 47 := rfl
theorem i_48 : (48 : Int32) = nI 48 := rfl
theorem i_49 : (49 : Int32) = nI 49 := rfl
theorem i_57 : (57 : Int32) = nI 57 := rfl
theorem i_58 : (58 : Int32) = nI 58 := rfl
theorem i_63 : (63 : Int32) = nI 63 := rfl
theorem i_99 : (99 : Int32) = nI 99 := rfl
theorem i_100 : (100 : Int32) = nI 100 := rfl
theorem i_111 : (111 : Int32) = nI 111 := rfl
theorem i_112 : (112 : Int32) = nI 112 := rfl
theorem i_127 : (127 : Int32) = nI 127 := rfl
theorem i_128 : (128 : Int32) = nI 128 := rfl
theorem i_135 : (135 : Int32) = nI 135 := rfl
theorem i_178 : (178 : Int32) = nI 178 := rfl
theorem i_200 : (200 : Int32) = nI 200 := rfl
theorem i_255 : (255 : Int32) = nI 255 := rfl
theorem i_512 : (512 : Int32) = nI 512 := rfl
theorem i_784 : (784 : Int32) = nI 784 := rfl
theorem i_1000 : (1000 : Int32) = nI 1000 := rfl
theorem i_1424 : (1424 : Int32) = nI 1424 := rfl
theorem i_13849 : (13849 : Int32) = nI 13849 := rfl
theorem i_25173 : (25173 : Int32) = nI 25173 := rfl
theorem i_65535 : (65535 : Int32) = nI 65535 := rfl
theorem i_65536 : (65536 : Int32) = nI 65536 := rfl
theorem i_1000000 : (1000000 : Int32) = nI 1000000 := rfl
theorem l_0 : (0 : Int64) = lN 0 := rfl
theorem l_1 : (1 : Int64) = lN 1 := rfl
theorem l_2 : (2 : Int64) = lN 2 := rfl
theorem l_3 : (3 : Int64) = lN 3 := rfl
theorem l_20 : (20 : Int64) = lN 20 := rfl
theorem l_49 : (49 : Int64) = lN 49 := rfl
theorem l_100 : (100 : Int64) = lN 100 := rfl
theorem l_200 : (200 : Int64) = lN 200 := rfl
theorem l_1000 : (1000 : Int64) = lN 1000 := rfl
theorem l_100000 : (100000 : Int64) = lN 100000 := rfl
theorem l_1000000 : (1000000 : Int64) = lN 1000000 := rfl
theorem l_65535 : (65535 : Int64) = lN 65535 := rfl
theorem og32 {α : Type} {n N : Nat} {k : Option α} (h : n < N) (hN : N < 2 ^ 31) : og (okI (nI n) N) k = k := og_mk _ (okI_nI h hN)
theorem bd1_s {α β : Type} (a : α) (k : α → Option β) : bd1 (some a) k = k a := rfl
theorem ite_so {α : Type} {c : Prop} [Decidable c] (a b : α) : (if c then some a else some b) = some (if c then a else b) := by
  by_cases h : c
  · rw [if_pos h, if_pos h]
  · rw [if_neg h, if_neg h]
theorem b01 {c : Prop} [Decidable c] : boB (if c then (1 : Int32) else 0) = true := by
  by_cases h : c
  · rw [if_pos h]; rfl
  · rw [if_neg h]; rfl
theorem win {n a b : Nat} (hn : n < 2 ^ 31) (ha : a < 2 ^ 31) (hb : b < 2 ^ 31) : fX8_within (nI n) (nI a) (nI b) = some (if a ≤ n ∧ n ≤ b then 1 else 0) := by
  rw [wi_eq (nI_toInt ha) (nI_toInt hb)]
  unfold bI inr
  rw [nI_toInt hn]
  congr 1
  by_cases h : a ≤ n ∧ n ≤ b
  · rw [if_pos h, if_pos (by omega)]
  · rw [if_neg h, if_neg (by omega)]
theorem win1 {x y z : Int32} (n a b : Nat) (h : a ≤ n ∧ n ≤ b) (hn : n < 2 ^ 31 := by omega) (ha : a < 2 ^ 31 := by omega) (hb : b < 2 ^ 31 := by omega) (hx : x = nI n := by rfl) (hy : y = nI a := by rfl) (hz : z = nI b := by rfl) : fX8_within x y z = some 1 := by
  subst hx; subst hy; subst hz
  rw [win hn ha hb, if_pos h]
theorem win0 {x y z : Int32} (n a b : Nat) (h : ¬ (a ≤ n ∧ n ≤ b)) (hn : n < 2 ^ 31 := by omega) (ha : a < 2 ^ 31 := by omega) (hb : b < 2 ^ 31 := by omega) (hx : x = nI n := by rfl) (hy : y = nI a := by rfl) (hz : z = nI b := by rfl) : fX8_within x y z = some 0 := by
  subst hx; subst hy; subst hz
  rw [win hn ha hb, if_neg h]
theorem iin {n a b : Nat} (hn : n < 2 ^ 31) (ha : a < 2 ^ 63) (hb : b < 2 ^ 63) : fX9_in (Int32.toInt64 (nI n)) (lN a) (lN b) = some (if a ≤ n ∧ n ≤ b then 1 else 0) := by
  rw [in_eq (pk_lT ha) (pk_lT hb)]
  unfold bI inr
  rw [nI_toInt hn]
  congr 1
  by_cases h : a ≤ n ∧ n ≤ b
  · rw [if_pos h, if_pos (by omega)]
  · rw [if_neg h, if_neg (by omega)]
theorem iMT {e : Nat} (h : e < 2 ^ 31) : (iM e).toInt = (e : Int) - 1 := iM_T h
theorem iMl {e : Nat} (h : e < 2 ^ 31) : (iM e).toInt64 = lM e := iM_l h
theorem iCl {e : Nat} (h : e < 2 ^ 31) : (iC e).toInt64 = lC e := iC_l h
theorem lMN (n : Nat) : lN n = lM (n + 1) := (lM_s n).symm
theorem lCN (n : Nat) : lN n = lC (n + 1) := (lC_s n).symm
theorem lM_max {a b : Nat} (ha : a < 2 ^ 63) (hb : b < 2 ^ 63) : (if lM a ≤ lM b then lM b else lM a) = lM (max a b) := by
  by_cases h : a ≤ b
  · rw [if_pos ((lM_le ha hb).mpr h), Nat.max_eq_right h]
  · rw [if_neg (fun q => h ((lM_le ha hb).mp q)), Nat.max_eq_left (by omega)]
theorem lC_max {a b : Nat} (ha : a < 2 ^ 63) (hb : b < 2 ^ 63) : (if lC a < lC b then lC b else lC a) = lC (max a b) := by
  by_cases h : a < b
  · rw [if_pos ((lC_lt ha hb).mpr h), Nat.max_eq_right (by omega)]
  · rw [if_neg (fun q => h ((lC_lt ha hb).mp q)), Nat.max_eq_left (by omega)]
theorem upS {f : Nat → Int32} {k j : Nat} {x : Int32} : upd f k x j = if j = k then x else f j := rfl
theorem upL {f : Nat → Int64} {k j : Nat} {x : Int64} : vp_updL f k x j = if j = k then x else f j := rfl
theorem fuN (k : Nat) (h : k ≤ 1000) : ∃ n, FU = n + k := ⟨FU - k, by have := FU_ge; omega⟩
