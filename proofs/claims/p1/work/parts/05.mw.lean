/-! results bound: own rows, by program -/
def FU : Nat := 1048576
theorem gPreS0 {s : State} {H : Heap} {av : List Value} {D : va_G} {dA : Nat → ClassId} (hK : gK D dA s) : PreS s H (gP av D dA [] H.size) av := gPreS (A := fun _ => True) (fun k q h => by simp at h) hK ⟨fun i j p q h => by simp at h, fun k q h => by simp at h⟩
section TBT
variable {p : Program} {l : Launch} {e : Env} {R : Room} {s : State} {m : MethodId} {args : Array Value} {below : List Frame} {meth : Method} {c : Code} {H : Heap} {locs : List Loc} {cells slots : Nat} {Q : State → Prop}
variable {cc : ByteArray} {pc : Nat} {ls : Array Slot} {rest : List Value}
theorem tb_tableD (hexec : p.tables.exec = Jvm.exec) (hb : c.code = cc) {dflt lo hi : Int} {offs : Array Int} {len : Nat} {x : Int32} {tgt : Nat} {gs : List Int} (hdg : decode cc pc = .ok (.tableswitch dflt lo hi offs, len)) (hg : ∀ z ∈ gs, offs[(z - lo).toNat]? = some dflt) (hz : ¬ x.toInt < lo → ¬ hi < x.toInt → x.toInt ∈ gs) (ht : (pc : Int) + dflt = (tgt : Int))
    (k : W p l e R s m args below meth c H locs cells slots Q (F0 m tgt ls rest)) : W p l e R s m args below meth c H locs cells slots Q (F0 m pc ls (.int x :: rest)) := by
  by_cases h : x.toInt < lo ∨ hi < x.toInt
  · exact lv_tableOut hexec hb hdg h ht k
  · have h1 : ¬ x.toInt < lo := fun q => h (Or.inl q)
    have h2 : ¬ hi < x.toInt := fun q => h (Or.inr q)
    exact lv_tableIn hexec hb hdg h1 h2 (hg _ (hz h1 h2)) ht k
end TBT
def bd1 {T0 Z : Type} (o : Option (T0)) (k : T0 → Option Z) : Option Z := match o with
  | none => none
  | some (a0) => k a0
theorem bd1_some {T0 Z : Type} {o : Option (T0)} {k : T0 → Option Z} {z : Z} (h : bd1 o k = some z) : ∃ a0, o = some (a0) ∧ k a0 = some z := by
  cases o with
  | none => cases h
  | some v => exact ⟨v, rfl, h⟩
def bd2 {T0 T1 Z : Type} (o : Option (T0 × T1)) (k : T0 → T1 → Option Z) : Option Z := match o with
  | none => none
  | some (a0, a1) => k a0 a1
theorem bd2_some {T0 T1 Z : Type} {o : Option (T0 × T1)} {k : T0 → T1 → Option Z} {z : Z} (h : bd2 o k = some z) : ∃ a0 a1, o = some (a0, a1) ∧ k a0 a1 = some z := by
  cases o with
  | none => cases h
  | some v => obtain ⟨a0, a1⟩ := v; exact ⟨a0, a1, rfl, h⟩
def bd3 {T0 T1 T2 Z : Type} (o : Option (T0 × T1 × T2)) (k : T0 → T1 → T2 → Option Z) : Option Z := match o with
  | none => none
  | some (a0, a1, a2) => k a0 a1 a2
theorem bd3_some {T0 T1 T2 Z : Type} {o : Option (T0 × T1 × T2)} {k : T0 → T1 → T2 → Option Z} {z : Z} (h : bd3 o k = some z) : ∃ a0 a1 a2, o = some (a0, a1, a2) ∧ k a0 a1 a2 = some z := by
  cases o with
  | none => cases h
  | some v => obtain ⟨a0, a1, a2⟩ := v; exact ⟨a0, a1, a2, rfl, h⟩
def bd4 {T0 T1 T2 T3 Z : Type} (o : Option (T0 × T1 × T2 × T3)) (k : T0 → T1 → T2 → T3 → Option Z) : Option Z := match o with
  | none => none
  | some (a0, a1, a2, a3) => k a0 a1 a2 a3
theorem bd4_some {T0 T1 T2 T3 Z : Type} {o : Option (T0 × T1 × T2 × T3)} {k : T0 → T1 → T2 → T3 → Option Z} {z : Z} (h : bd4 o k = some z) : ∃ a0 a1 a2 a3, o = some (a0, a1, a2, a3) ∧ k a0 a1 a2 a3 = some z := by
  cases o with
  | none => cases h
  | some v => obtain ⟨a0, a1, a2, a3⟩ := v; exact ⟨a0, a1, a2, a3, rfl, h⟩
def bd5 {T0 T1 T2 T3 T4 Z : Type} (o : Option (T0 × T1 × T2 × T3 × T4)) (k : T0 → T1 → T2 → T3 → T4 → Option Z) : Option Z := match o with
  | none => none
  | some (a0, a1, a2, a3, a4) => k a0 a1 a2 a3 a4
theorem bd5_some {T0 T1 T2 T3 T4 Z : Type} {o : Option (T0 × T1 × T2 × T3 × T4)} {k : T0 → T1 → T2 → T3 → T4 → Option Z} {z : Z} (h : bd5 o k = some z) : ∃ a0 a1 a2 a3 a4, o = some (a0, a1, a2, a3, a4) ∧ k a0 a1 a2 a3 a4 = some z := by
  cases o with
  | none => cases h
  | some v => obtain ⟨a0, a1, a2, a3, a4⟩ := v; exact ⟨a0, a1, a2, a3, a4, rfl, h⟩
def bd6 {T0 T1 T2 T3 T4 T5 Z : Type} (o : Option (T0 × T1 × T2 × T3 × T4 × T5)) (k : T0 → T1 → T2 → T3 → T4 → T5 → Option Z) : Option Z := match o with
  | none => none
  | some (a0, a1, a2, a3, a4, a5) => k a0 a1 a2 a3 a4 a5
theorem bd6_some {T0 T1 T2 T3 T4 T5 Z : Type} {o : Option (T0 × T1 × T2 × T3 × T4 × T5)} {k : T0 → T1 → T2 → T3 → T4 → T5 → Option Z} {z : Z} (h : bd6 o k = some z) : ∃ a0 a1 a2 a3 a4 a5, o = some (a0, a1, a2, a3, a4, a5) ∧ k a0 a1 a2 a3 a4 a5 = some z := by
  cases o with
  | none => cases h
  | some v => obtain ⟨a0, a1, a2, a3, a4, a5⟩ := v; exact ⟨a0, a1, a2, a3, a4, a5, rfl, h⟩
def bd7 {T0 T1 T2 T3 T4 T5 T6 Z : Type} (o : Option (T0 × T1 × T2 × T3 × T4 × T5 × T6)) (k : T0 → T1 → T2 → T3 → T4 → T5 → T6 → Option Z) : Option Z := match o with
  | none => none
  | some (a0, a1, a2, a3, a4, a5, a6) => k a0 a1 a2 a3 a4 a5 a6
theorem bd7_some {T0 T1 T2 T3 T4 T5 T6 Z : Type} {o : Option (T0 × T1 × T2 × T3 × T4 × T5 × T6)} {k : T0 → T1 → T2 → T3 → T4 → T5 → T6 → Option Z} {z : Z} (h : bd7 o k = some z) : ∃ a0 a1 a2 a3 a4 a5 a6, o = some (a0, a1, a2, a3, a4, a5, a6) ∧ k a0 a1 a2 a3 a4 a5 a6 = some z := by
  cases o with
  | none => cases h
  | some v => obtain ⟨a0, a1, a2, a3, a4, a5, a6⟩ := v; exact ⟨a0, a1, a2, a3, a4, a5, a6, rfl, h⟩
def bd8 {T0 T1 T2 T3 T4 T5 T6 T7 Z : Type} (o : Option (T0 × T1 × T2 × T3 × T4 × T5 × T6 × T7)) (k : T0 → T1 → T2 → T3 → T4 → T5 → T6 → T7 → Option Z) : Option Z := match o with
  | none => none
  | some (a0, a1, a2, a3, a4, a5, a6, a7) => k a0 a1 a2 a3 a4 a5 a6 a7
theorem bd8_some {T0 T1 T2 T3 T4 T5 T6 T7 Z : Type} {o : Option (T0 × T1 × T2 × T3 × T4 × T5 × T6 × T7)} {k : T0 → T1 → T2 → T3 → T4 → T5 → T6 → T7 → Option Z} {z : Z} (h : bd8 o k = some z) : ∃ a0 a1 a2 a3 a4 a5 a6 a7, o = some (a0, a1, a2, a3, a4, a5, a6, a7) ∧ k a0 a1 a2 a3 a4 a5 a6 a7 = some z := by
  cases o with
  | none => cases h
  | some v => obtain ⟨a0, a1, a2, a3, a4, a5, a6, a7⟩ := v; exact ⟨a0, a1, a2, a3, a4, a5, a6, a7, rfl, h⟩
def bd9 {T0 T1 T2 T3 T4 T5 T6 T7 T8 Z : Type} (o : Option (T0 × T1 × T2 × T3 × T4 × T5 × T6 × T7 × T8)) (k : T0 → T1 → T2 → T3 → T4 → T5 → T6 → T7 → T8 → Option Z) : Option Z := match o with
  | none => none
  | some (a0, a1, a2, a3, a4, a5, a6, a7, a8) => k a0 a1 a2 a3 a4 a5 a6 a7 a8
theorem bd9_some {T0 T1 T2 T3 T4 T5 T6 T7 T8 Z : Type} {o : Option (T0 × T1 × T2 × T3 × T4 × T5 × T6 × T7 × T8)} {k : T0 → T1 → T2 → T3 → T4 → T5 → T6 → T7 → T8 → Option Z} {z : Z} (h : bd9 o k = some z) : ∃ a0 a1 a2 a3 a4 a5 a6 a7 a8, o = some (a0, a1, a2, a3, a4, a5, a6, a7, a8) ∧ k a0 a1 a2 a3 a4 a5 a6 a7 a8 = some z := by
  cases o with
  | none => cases h
  | some v => obtain ⟨a0, a1, a2, a3, a4, a5, a6, a7, a8⟩ := v; exact ⟨a0, a1, a2, a3, a4, a5, a6, a7, a8, rfl, h⟩
def bd10 {T0 T1 T2 T3 T4 T5 T6 T7 T8 T9 Z : Type} (o : Option (T0 × T1 × T2 × T3 × T4 × T5 × T6 × T7 × T8 × T9)) (k : T0 → T1 → T2 → T3 → T4 → T5 → T6 → T7 → T8 → T9 → Option Z) : Option Z := match o with
  | none => none
  | some (a0, a1, a2, a3, a4, a5, a6, a7, a8, a9) => k a0 a1 a2 a3 a4 a5 a6 a7 a8 a9
theorem bd10_some {T0 T1 T2 T3 T4 T5 T6 T7 T8 T9 Z : Type} {o : Option (T0 × T1 × T2 × T3 × T4 × T5 × T6 × T7 × T8 × T9)} {k : T0 → T1 → T2 → T3 → T4 → T5 → T6 → T7 → T8 → T9 → Option Z} {z : Z} (h : bd10 o k = some z) : ∃ a0 a1 a2 a3 a4 a5 a6 a7 a8 a9, o = some (a0, a1, a2, a3, a4, a5, a6, a7, a8, a9) ∧ k a0 a1 a2 a3 a4 a5 a6 a7 a8 a9 = some z := by
  cases o with
  | none => cases h
  | some v => obtain ⟨a0, a1, a2, a3, a4, a5, a6, a7, a8, a9⟩ := v; exact ⟨a0, a1, a2, a3, a4, a5, a6, a7, a8, a9, rfl, h⟩
def bd11 {T0 T1 T2 T3 T4 T5 T6 T7 T8 T9 T10 Z : Type} (o : Option (T0 × T1 × T2 × T3 × T4 × T5 × T6 × T7 × T8 × T9 × T10)) (k : T0 → T1 → T2 → T3 → T4 → T5 → T6 → T7 → T8 → T9 → T10 → Option Z) : Option Z := match o with
  | none => none
  | some (a0, a1, a2, a3, a4, a5, a6, a7, a8, a9, a10) => k a0 a1 a2 a3 a4 a5 a6 a7 a8 a9 a10
theorem bd11_some {T0 T1 T2 T3 T4 T5 T6 T7 T8 T9 T10 Z : Type} {o : Option (T0 × T1 × T2 × T3 × T4 × T5 × T6 × T7 × T8 × T9 × T10)} {k : T0 → T1 → T2 → T3 → T4 → T5 → T6 → T7 → T8 → T9 → T10 → Option Z} {z : Z} (h : bd11 o k = some z) : ∃ a0 a1 a2 a3 a4 a5 a6 a7 a8 a9 a10, o = some (a0, a1, a2, a3, a4, a5, a6, a7, a8, a9, a10) ∧ k a0 a1 a2 a3 a4 a5 a6 a7 a8 a9 a10 = some z := by
  cases o with
  | none => cases h
  | some v => obtain ⟨a0, a1, a2, a3, a4, a5, a6, a7, a8, a9, a10⟩ := v; exact ⟨a0, a1, a2, a3, a4, a5, a6, a7, a8, a9, a10, rfl, h⟩
def bd12 {T0 T1 T2 T3 T4 T5 T6 T7 T8 T9 T10 T11 Z : Type} (o : Option (T0 × T1 × T2 × T3 × T4 × T5 × T6 × T7 × T8 × T9 × T10 × T11)) (k : T0 → T1 → T2 → T3 → T4 → T5 → T6 → T7 → T8 → T9 → T10 → T11 → Option Z) : Option Z := match o with
  | none => none
  | some (a0, a1, a2, a3, a4, a5, a6, a7, a8, a9, a10, a11) => k a0 a1 a2 a3 a4 a5 a6 a7 a8 a9 a10 a11
theorem bd12_some {T0 T1 T2 T3 T4 T5 T6 T7 T8 T9 T10 T11 Z : Type} {o : Option (T0 × T1 × T2 × T3 × T4 × T5 × T6 × T7 × T8 × T9 × T10 × T11)} {k : T0 → T1 → T2 → T3 → T4 → T5 → T6 → T7 → T8 → T9 → T10 → T11 → Option Z} {z : Z} (h : bd12 o k = some z) : ∃ a0 a1 a2 a3 a4 a5 a6 a7 a8 a9 a10 a11, o = some (a0, a1, a2, a3, a4, a5, a6, a7, a8, a9, a10, a11) ∧ k a0 a1 a2 a3 a4 a5 a6 a7 a8 a9 a10 a11 = some z := by
  cases o with
  | none => cases h
  | some v => obtain ⟨a0, a1, a2, a3, a4, a5, a6, a7, a8, a9, a10, a11⟩ := v; exact ⟨a0, a1, a2, a3, a4, a5, a6, a7, a8, a9, a10, a11, rfl, h⟩
def bd13 {T0 T1 T2 T3 T4 T5 T6 T7 T8 T9 T10 T11 T12 Z : Type} (o : Option (T0 × T1 × T2 × T3 × T4 × T5 × T6 × T7 × T8 × T9 × T10 × T11 × T12)) (k : T0 → T1 → T2 → T3 → T4 → T5 → T6 → T7 → T8 → T9 → T10 → T11 → T12 → Option Z) : Option Z := match o with
  | none => none
  | some (a0, a1, a2, a3, a4, a5, a6, a7, a8, a9, a10, a11, a12) => k a0 a1 a2 a3 a4 a5 a6 a7 a8 a9 a10 a11 a12
theorem bd13_some {T0 T1 T2 T3 T4 T5 T6 T7 T8 T9 T10 T11 T12 Z : Type} {o : Option (T0 × T1 × T2 × T3 × T4 × T5 × T6 × T7 × T8 × T9 × T10 × T11 × T12)} {k : T0 → T1 → T2 → T3 → T4 → T5 → T6 → T7 → T8 → T9 → T10 → T11 → T12 → Option Z} {z : Z} (h : bd13 o k = some z) : ∃ a0 a1 a2 a3 a4 a5 a6 a7 a8 a9 a10 a11 a12, o = some (a0, a1, a2, a3, a4, a5, a6, a7, a8, a9, a10, a11, a12) ∧ k a0 a1 a2 a3 a4 a5 a6 a7 a8 a9 a10 a11 a12 = some z := by
  cases o with
  | none => cases h
  | some v => obtain ⟨a0, a1, a2, a3, a4, a5, a6, a7, a8, a9, a10, a11, a12⟩ := v; exact ⟨a0, a1, a2, a3, a4, a5, a6, a7, a8, a9, a10, a11, a12, rfl, h⟩
def bd14 {T0 T1 T2 T3 T4 T5 T6 T7 T8 T9 T10 T11 T12 T13 Z : Type} (o : Option (T0 × T1 × T2 × T3 × T4 × T5 × T6 × T7 × T8 × T9 × T10 × T11 × T12 × T13)) (k : T0 → T1 → T2 → T3 → T4 → T5 → T6 → T7 → T8 → T9 → T10 → T11 → T12 → T13 → Option Z) : Option Z := match o with
  | none => none
  | some (a0, a1, a2, a3, a4, a5, a6, a7, a8, a9, a10, a11, a12, a13) => k a0 a1 a2 a3 a4 a5 a6 a7 a8 a9 a10 a11 a12 a13
theorem bd14_some {T0 T1 T2 T3 T4 T5 T6 T7 T8 T9 T10 T11 T12 T13 Z : Type} {o : Option (T0 × T1 × T2 × T3 × T4 × T5 × T6 × T7 × T8 × T9 × T10 × T11 × T12 × T13)} {k : T0 → T1 → T2 → T3 → T4 → T5 → T6 → T7 → T8 → T9 → T10 → T11 → T12 → T13 → Option Z} {z : Z} (h : bd14 o k = some z) : ∃ a0 a1 a2 a3 a4 a5 a6 a7 a8 a9 a10 a11 a12 a13, o = some (a0, a1, a2, a3, a4, a5, a6, a7, a8, a9, a10, a11, a12, a13) ∧ k a0 a1 a2 a3 a4 a5 a6 a7 a8 a9 a10 a11 a12 a13 = some z := by
  cases o with
  | none => cases h
  | some v => obtain ⟨a0, a1, a2, a3, a4, a5, a6, a7, a8, a9, a10, a11, a12, a13⟩ := v; exact ⟨a0, a1, a2, a3, a4, a5, a6, a7, a8, a9, a10, a11, a12, a13, rfl, h⟩
def mW (dA : Nat → ClassId) (ad : Nat → Nat) (c_tape : Nat → Int32) (c_taped : Int32) (c_tree : Nat → Int32) (c_bonds : Nat → Int32) (c_moves : Nat → Int32) (c_handMoves : Nat → Int32) (c_moved : Int32) (c_days : Int32) (c_likely : Int32) (c_outOf : Int32) (c_rateNow : Int32) (c_pence : Nat → Int64) (c_top : Int64) (c_bottom : Int64) (c_spot : Int32) (c_textLong : Int32) (c_fault : Int32) (c_number : Int32) (c_numberAt : Int32) (c_figures : Int32) (c_written : Int32) (c_wanted : Int32) (c_found : Int32) (c_drawnNow : Int32) (c_worth : Nat → Int64) (c_hold : Nat → Int64) (c_way : Nat → Int64) (c_acts : Nat → Int32) (c_sDay : Int32) (c_sUps : Int32) (c_sUp : Int32) (c_sMarks : Int32) (c_paidAll : Int64) (c_isPlayed : Int32) (c_isOn : Int32) (c_handMoved : Int32) (c_handPaid : Int64) (c_regret : Int64) (c_aside : Nat → Int32) (c_other : Nat → Int64) (c_states : Int32) (c_kept : Nat → Int32) (c_keptLong : Nat → Int64) (c_keptAt : Int32) (c_isTaking : Int32) : va_W := [(ad 0, .inr (9, [.ref (ad 1), .int c_taped, .ref (ad 2), .ref (ad 3), .ref (ad 4), .ref (ad 5), .int c_moved, .int c_days, .int c_likely, .int c_outOf, .int c_rateNow, .ref (ad 6), .long c_top, .long c_bottom, .int c_spot, .int c_textLong, .int c_fault, .int c_number, .int c_numberAt, .int c_figures, .int c_written, .int c_wanted, .int c_found, .int c_drawnNow, .ref (ad 7), .ref (ad 8), .ref (ad 9), .ref (ad 10), .int c_sDay, .int c_sUps, .int c_sUp, .int c_sMarks, .long c_paidAll, .int c_isPlayed, .int c_isOn, .int c_handMoved, .long c_handPaid, .long c_regret, .ref (ad 11), .ref (ad 12), .int c_states, .ref (ad 13), .ref (ad 14), .int c_keptAt, .int c_isTaking])), (ad 1, .inl (dA 2, 200, .inl c_tape)), (ad 2, .inl (dA 0, 18, .inl c_tree)), (ad 3, .inl (dA 0, 135, .inl c_bonds)), (ad 4, .inl (dA 0, 6, .inl c_moves)), (ad 5, .inl (dA 0, 6, .inl c_handMoves)), (ad 6, .inl (dA 1, 49, .inr (.inl c_pence))), (ad 7, .inl (dA 1, 784, .inr (.inl c_worth))), (ad 8, .inl (dA 1, 784, .inr (.inl c_hold))), (ad 9, .inl (dA 1, 784, .inr (.inl c_way))), (ad 10, .inl (dA 0, 784, .inl c_acts)), (ad 11, .inl (dA 0, 6, .inl c_aside)), (ad 12, .inl (dA 1, 784, .inr (.inl c_other))), (ad 13, .inl (dA 0, 1424, .inl c_kept)), (ad 14, .inl (dA 1, 16, .inr (.inl c_keptLong)))]
