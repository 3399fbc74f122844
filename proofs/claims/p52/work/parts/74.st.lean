
theorem gCINL {R : Room} {s : State} {args : Array Value} {own : String} {index maxL : Nat} {y : MethodName} {bytes : ByteArray} {rm : Room} {mc ms : Nat} (n : Nat) (ht : ∀ w ∈ lw_tbl, w.before args s = true)
    (hc : Cond.code y bytes maxL none ∈ gw) (hl : Cond.methodLink own index y ∈ gw) (hi : Cond.instanceMethod y ∈ gw) (hin : Cond.initialized y.cls ∈ gw) (hnm : y.name = "<init>")
    (hd : y.cls ≠ "java/lang/invoke/MethodHandle" ∧ y.cls ≠ "java/lang/invoke/VarHandle" ∧ (parseMethodDescriptor y.desc).map (fun d => d.parameters.length) = some n) (hrc : rm.cells = mc) (hrs : rm.slots = ms) (hR : rm.frames + 1 ≤ R.frames ∧ 8 + (maxL + 11) + rm.locals ≤ R.locals) :
    CallB R s args own index y bytes maxL none (wq (.code y bytes maxL none)) rm mc ms n ∧ y.name = "<init>" ∧ (Cond.instanceMethod y).before args s = true :=
  ⟨callB_of n ht (gw_L hc) rfl hrc hrs (ht _ (gw_tbl hin)) (ht _ (gw_tbl hl)) hd hR, hnm, ht _ (gw_tbl hi)⟩

theorem gAC {args : Array Value} {s : State} {ty : FieldType} (h : (Cond.arrayClass ty).before args s = true) : ∃ cA, ArrOfT s cA ty ∧ s.vm.findClass ("[" ++ ty.toString) = some cA := by
  obtain ⟨c, k, comp, h1, h2, h3⟩ := Cond.arrayClass_spec h
  exact ⟨c, fun n z => ⟨(fun k h => by cases h), k, h2, comp, h3⟩, h1⟩
theorem gAO {args : Array Value} {s : State} {C : String} (h : (Cond.arrayOver (.object C)).before args s = true) : ∃ cA, ArrOfT s cA (.object C) ∧ va_RA s cA (.object C) := by
  obtain ⟨comp, c, k, h1, h2, h3, h4, h5⟩ := Cond.arrayOver_spec h
  exact ⟨c, fun n z => ⟨(fun k h => by cases h), k, h3, comp, h4⟩, k, comp, h3, h4, h1, h5⟩
def lwS : Cond := Jvm.Cond.and given_1 narrow_1
theorem lw_d1 : ∀ j, j < 100 → (flatC lwS)[24 + j]? = some (Cond.eq (.elem (.static "java/lang/Integer" "DigitOnes" "[B") (.int (Int32.ofNat j))) (.int (dgO j))) := by decide +kernel
theorem lw_d2 : ∀ j, j < 100 → (flatC lwS)[127 + j]? = some (Cond.eq (.elem (.static "java/lang/Integer" "DigitTens" "[B") (.int (Int32.ofNat j))) (.int (dgT j))) := by decide +kernel
theorem gTof {args : Array Value} {s : State} (hts : ∀ w ∈ lw_tbl, w.before args s = true) (hgv : lwS.before args s = true) : ∃ d1 d2, gT d1 d2 (fun q : Nat => s.heap.size ≤ q) s s.heap := by
  have hf := flat_of_before lwS hgv
  have hA : ∀ a : Nat, a < s.heap.size → ¬ (fun q : Nat => s.heap.size ≤ q) a := fun a h => Nat.not_le.mpr h
  obtain ⟨d1, e1, h1⟩ := va_Tof (tm := .static "java/lang/Integer" "DigitOnes" "[B") (ty := .byte) (N := 100) (f := fun j => .int (dgO j)) (by decide) (hf _ (List.mem_of_getElem? (i := 22) (by decide +kernel))) (va_eqv (u := .int 100) (hf _ (List.mem_of_getElem? (i := 23) (by decide +kernel))) rfl) (fun j hj => va_eqv (hf _ (List.mem_of_getElem? (lw_d1 j hj))) rfl) hA
  obtain ⟨d2, e2, h2⟩ := va_Tof (tm := .static "java/lang/Integer" "DigitTens" "[B") (ty := .byte) (N := 100) (f := fun j => .int (dgT j)) (by decide) (hf _ (List.mem_of_getElem? (i := 125) (by decide +kernel))) (va_eqv (u := .int 100) (hf _ (List.mem_of_getElem? (i := 126) (by decide +kernel))) rfl) (fun j hj => va_eqv (hf _ (List.mem_of_getElem? (lw_d2 j hj))) rfl) hA
  refine ⟨d1, d2, va_Zof (hts _ (tk1 (List.mem_of_getElem? (i := 224) rfl))) (hts _ (tk1 (List.mem_of_getElem? (i := 11) rfl))) (va_eqv (u := .int 1) (hf _ (List.mem_of_getElem? (i := 4) (by decide +kernel))) rfl) hA, va_Zof (hts _ (tk5 (List.mem_of_getElem? (i := 131) rfl))) (hts _ (tk1 (List.mem_of_getElem? (i := 16) rfl))) e1 hA, h1, va_Zof (hts _ (tk5 (List.mem_of_getElem? (i := 133) rfl))) (hts _ (tk1 (List.mem_of_getElem? (i := 16) rfl))) e2 hA, h2, va_Zqof (hts _ (tk5 (List.mem_of_getElem? (i := 92) rfl))) (hts _ (tk1 (List.mem_of_getElem? (i := 22) rfl))) (hf _ (List.mem_of_getElem? (i := 17) (by decide +kernel))) hA, ?_⟩
  exact ⟨Cond.privateMethod_at (hts _ wpJ5_ensureCapacityInternal_d00df), Cond.privateMethod_at (hts _ wpJ5_newCapacity_0f7a4)⟩
theorem gEof {args : Array Value} {s : State} (hts : ∀ w ∈ lw_tbl, w.before args s = true) (hgv : lwS.before args s = true) : ∃ kad, gEn kad (fun q : Nat => s.heap.size ≤ q) s s.heap := by
  have hf := flat_of_before lwS hgv
  have hA : ∀ a : Nat, a < s.heap.size → ¬ (fun q : Nat => s.heap.size ≤ q) a := fun a h => Nat.not_le.mpr h
  refine va_Enof ?_ (hts _ (tk1 (List.mem_of_getElem? (i := 18) rfl))) ?_ ?_ ?_ hA
  · intro i hi
    match i, hi with
    | 0, _ => exact hts _ (tk4 (List.mem_of_getElem? (i := 105) rfl))
    | 1, _ => exact hts _ (tk4 (List.mem_of_getElem? (i := 116) rfl))
    | 2, _ => exact hts _ (tk4 (List.mem_of_getElem? (i := 118) rfl))
    | n + 3, h => exact absurd h (Nat.not_lt.mpr (Nat.le_add_left _ n))
  · intro i hi
    match i, hi with
    | 0, _ => exact hf _ (List.mem_of_getElem? (i := 5) (by decide +kernel))
    | 1, _ => exact hf _ (List.mem_of_getElem? (i := 8) (by decide +kernel))
    | 2, _ => exact hf _ (List.mem_of_getElem? (i := 12) (by decide +kernel))
    | n + 3, h => exact absurd h (Nat.not_lt.mpr (Nat.le_add_left _ n))
  · intro q hq i hi
    rw [List.mem_singleton] at hq
    subst hq
    match i, hi with
    | 0, _ => exact hf _ (List.mem_of_getElem? (i := 7) (by decide +kernel))
    | 1, _ => exact hf _ (List.mem_of_getElem? (i := 10) (by decide +kernel))
    | 2, _ => exact hf _ (List.mem_of_getElem? (i := 14) (by decide +kernel))
    | n + 3, h => exact absurd h (Nat.not_lt.mpr (Nat.le_add_left _ n))
  · have h01 : (Cond.not (.eq (.static "TurnedBonds$FairKind" "COUPON" "LTurnedBonds$FairKind;") (.static "TurnedBonds$FairKind" "RATIO" "LTurnedBonds$FairKind;"))).before args s = true := hf _ (List.mem_of_getElem? (i := 11) (by decide +kernel))
    have h02 : (Cond.not (.eq (.static "TurnedBonds$FairKind" "COUPON" "LTurnedBonds$FairKind;") (.static "TurnedBonds$FairKind" "RATE" "LTurnedBonds$FairKind;"))).before args s = true := hf _ (List.mem_of_getElem? (i := 15) (by decide +kernel))
    have h12 : (Cond.not (.eq (.static "TurnedBonds$FairKind" "RATIO" "LTurnedBonds$FairKind;") (.static "TurnedBonds$FairKind" "RATE" "LTurnedBonds$FairKind;"))).before args s = true := hf _ (List.mem_of_getElem? (i := 16) (by decide +kernel))
    intro i j hi hj hij
    match i, j, hi, hj, hij with
    | 0, 0, _, _, h => exact absurd rfl h
    | 1, 1, _, _, h => exact absurd rfl h
    | 2, 2, _, _, h => exact absurd rfl h
    | 0, 1, _, _, _ => exact Or.inl h01
    | 1, 0, _, _, _ => exact Or.inr h01
    | 0, 2, _, _, _ => exact Or.inl h02
    | 2, 0, _, _, _ => exact Or.inr h02
    | 1, 2, _, _, _ => exact Or.inl h12
    | 2, 1, _, _, _ => exact Or.inr h12
    | n + 3, _, h, _, _ => exact absurd h (Nat.not_lt.mpr (Nat.le_add_left _ n))
    | _, n + 3, _, h, _ => exact absurd h (Nat.not_lt.mpr (Nat.le_add_left _ n))
theorem gKof {args : Array Value} {s : State} (hts : ∀ w ∈ lw_tbl, w.before args s = true) : ∃ dC dI dA, gK (dC, dI) dA s := by
  obtain ⟨c0, i0, hk0⟩ := u_known (C := RJ4) (T := TJ4) (N := 4) (n := 4) hts (fun w h => gw_tbl (inJ4 w h)) (hts _ (gw_tbl wbJ4))
  obtain ⟨c1, i1, hk1⟩ := u_known (C := RX0) (T := TX0) (N := 1) (n := 1) hts (fun w h => gw_tbl (inX0 w h)) (hts _ (gw_tbl wbX0))
  obtain ⟨c2, i2, hk2⟩ := u_known (C := RX1) (T := TX1) (N := 1) (n := 1) hts (fun w h => gw_tbl (inX1 w h)) (hts _ (gw_tbl wbX1))
  obtain ⟨c3, i3, hk3⟩ := u_known (C := RX3) (T := TX3) (N := 7) (n := 7) hts (fun w h => gw_tbl (inX3 w h)) (hts _ (gw_tbl wbX3))
  obtain ⟨c4, i4, hk4⟩ := u_known (C := RX4) (T := TX4) (N := 4) (n := 4) hts (fun w h => gw_tbl (inX4 w h)) (hts _ (gw_tbl wbX4))
  obtain ⟨c5, i5, hk5⟩ := u_known (C := RX5) (T := TX5) (N := 11) (n := 11) hts (fun w h => gw_tbl (inX5 w h)) (hts _ (gw_tbl wbX5))
  obtain ⟨c6, i6, hk6⟩ := u_known (C := RX6) (T := TX6) (N := 8) (n := 8) hts (fun w h => gw_tbl (inX6 w h)) (hts _ (gw_tbl wbX6))
  obtain ⟨c7, i7, hk7⟩ := u_known (C := RX7) (T := TX7) (N := 1) (n := 1) hts (fun w h => gw_tbl (inX7 w h)) (hts _ (gw_tbl wbX7))
  obtain ⟨c8, i8, hk8⟩ := u_known (C := RX8) (T := TX8) (N := 8) (n := 8) hts (fun w h => gw_tbl (inX8 w h)) (hts _ (gw_tbl wbX8))
  obtain ⟨c9, i9, hk9⟩ := u_known (C := RX9) (T := TX9) (N := 45) (n := 45) hts (fun w h => gw_tbl (inX9 w h)) (hts _ (gw_tbl wbX9))
  obtain ⟨a0, ha0, hb0⟩ := gAC (hts _ (gw_tbl wa_int))
  obtain ⟨a1, ha1, hb1⟩ := gAC (hts _ (gw_tbl wa_long))
  obtain ⟨a2, ha2, hb2⟩ := gAC (hts _ (gw_tbl wa_byte))
  obtain ⟨a3, ha3, hb3⟩ := gAO (hts _ wu_Bond)
  obtain ⟨a4, ha4, hb4⟩ := gAO (hts _ wu_Kept)
  refine ⟨fun k => if k = 0 then c0 else if k = 1 then c1 else if k = 2 then c2 else if k = 3 then c3 else if k = 4 then c4 else if k = 5 then c5 else if k = 6 then c6 else if k = 7 then c7 else if k = 8 then c8 else c9, fun k => if k = 0 then i0 else if k = 1 then i1 else if k = 2 then i2 else if k = 3 then i3 else if k = 4 then i4 else if k = 5 then i5 else if k = 6 then i6 else if k = 7 then i7 else if k = 8 then i8 else i9, fun k => if k = 0 then a0 else if k = 1 then a1 else if k = 2 then a2 else if k = 3 then a3 else a4, ⟨?_, ?_⟩, ?_⟩
  · intro k q hq
    match k, hq with
    | 0, hq => cases hq; exact hk0
    | 1, hq => cases hq; exact hk1
    | 2, hq => cases hq; exact hk2
    | 3, hq => cases hq; exact hk3
    | 4, hq => cases hq; exact hk4
    | 5, hq => cases hq; exact hk5
    | 6, hq => cases hq; exact hk6
    | 7, hq => cases hq; exact hk7
    | 8, hq => cases hq; exact hk8
    | 9, hq => cases hq; exact hk9
    | n + 10, hq => exact absurd (List.getElem?_eq_some_iff.mp hq).1 (Nat.not_lt.mpr (Nat.le_add_left _ n))
  · intro k q hq
    match k, hq with
    | 0, hq => cases hq; exact ⟨ha0, hb0⟩
    | 1, hq => cases hq; exact ⟨ha1, hb1⟩
    | 2, hq => cases hq; exact ⟨ha2, hb2⟩
    | 3, hq => cases hq; exact ⟨ha3, hb3⟩
    | 4, hq => cases hq; exact ⟨ha4, hb4⟩
    | n + 5, hq => exact absurd (List.getElem?_eq_some_iff.mp hq).1 (Nat.not_lt.mpr (Nat.le_add_left _ n))
  · intro w hw hn
    refine va_Nw.of ?_ (hts w hw)
    cases w <;> first | rfl | cases hn

set_option maxHeartbeats 8000000 in
set_option maxRecDepth 100000 in
theorem law_begin {p : Program} {l : Launch} {e : Env} {s : State} {m : MethodId} {below : List Frame} {meth : Method} {c : Code} {b L : Nat} {xs : Nat → Int32} {Q : State → Prop} {o_c_tree : Nat → Int32} {o_c_bonds : Nat → Int32} (hf : fX9_init = some (o_c_tree, o_c_bonds)) (C0 : lw_At p s m meth c b L xs)
    (kk : ∀ (dC : Nat → ClassId) (dI : Nat → Nat → Nat) (dA : Nat → ClassId) (d1 d2 : Nat) (kad ad am : Nat → Nat) (H : Heap) (locs : List Loc) (ls : Array Slot), gK (dC, dI) dA s → gE s → gT d1 d2 (fun q : Nat => s.heap.size ≤ q) s s.heap → gEn kad (fun q : Nat => s.heap.size ≤ q) s s.heap → lv_has ls 4 (lwL b (ad 0) (am 0) 0) → va_P (dC, dI) vwCl (wX8 dA ad 0 0 0 0 0 0 0 (fun _ => 0) bT0 1 tP0 bT0 bT0 bT0 0 0 1 0 0 tP0 bT0 (fun _ => none) tP0 bT0 (fun _ => 0) (fun _ => 0) (fun _ => 0) (fun _ => 0) (fun _ => 0) (fun _ => 0) (fun _ => 0) (fun _ => 0) (fun _ => 0) tP0 bT0 (fun _ => 0) (fun _ => 0) (fun _ => 0) (fun _ => 0) (fun _ => 0) (fun _ => 0) (fun _ => 0) (fun _ => 0) (fun _ => 0) 0 0 0 0 16 (fun _ => 0) ++ (kW dA [] ++ mW dA am (fun _ => 0) 0 o_c_tree o_c_bonds (fun _ => 0) (fun _ => 0) 0 0 0 0 0 (fun _ => 0) 0 0 0 0 0 0 0 0 0 0 0 0 (fun _ => 0) (fun _ => 0) (fun _ => 0) (fun _ => 0) 0 0 0 0 0 0 0 0 0 0 (fun _ => 0) (fun _ => 0) 0 (fun _ => 0) (fun _ => 0) 0 0)) H → va_D (fun q : Nat => s.heap.size ≤ q) (wX8 dA ad 0 0 0 0 0 0 0 (fun _ => 0) bT0 1 tP0 bT0 bT0 bT0 0 0 1 0 0 tP0 bT0 (fun _ => none) tP0 bT0 (fun _ => 0) (fun _ => 0) (fun _ => 0) (fun _ => 0) (fun _ => 0) (fun _ => 0) (fun _ => 0) (fun _ => 0) (fun _ => 0) tP0 bT0 (fun _ => 0) (fun _ => 0) (fun _ => 0) (fun _ => 0) (fun _ => 0) (fun _ => 0) (fun _ => 0) (fun _ => 0) (fun _ => 0) 0 0 0 0 16 (fun _ => 0) ++ (kW dA [] ++ mW dA am (fun _ => 0) 0 o_c_tree o_c_bonds (fun _ => 0) (fun _ => 0) 0 0 0 0 0 (fun _ => 0) 0 0 0 0 0 0 0 0 0 0 0 0 (fun _ => 0) (fun _ => 0) (fun _ => 0) (fun _ => 0) 0 0 0 0 0 0 0 0 0 0 (fun _ => 0) (fun _ => 0) 0 (fun _ => 0) (fun _ => 0) 0 0)) → va_S (fun q : Nat => s.heap.size ≤ q) s.heap H locs → W p l e room_1 s m #[Value.ref b] below meth c H locs 67 8435 Q (F0 m 18 ls [])) : W p l e room_1 s m #[Value.ref b] below meth c s.heap [] 0 0 Q (entryFrame m ([Value.ref b] : List Value).toArray 4) := by
  obtain ⟨hx, hb, hr, hml, hown, hts, hX, hbl, hlocks, hgv⟩ := C0
  have hA : ∀ q : Nat, s.heap.size ≤ q → (fun q : Nat => s.heap.size ≤ q) q := fun _ h => h
  obtain ⟨dC, dI, dA, hK⟩ := gKof hts
  obtain ⟨d1, d2, hT⟩ := gTof hts hgv
  obtain ⟨kad, hF⟩ := gEof hts hgv
  have hE : gE s := ⟨va_AO.of (hts _ wu_Bond), va_AO.of (hts _ wu_Kept)⟩
  have hS : va_S (fun q : Nat => s.heap.size ≤ q) s.heap s.heap [] := va_S.rf
  have hP : va_P (dC, dI) vwCl [] s.heap := fun k q h => by simp at h
  have hD : va_D (fun q : Nat => s.heap.size ≤ q) [] := ⟨fun i j p q h => by simp at h, fun k q h => by simp at h⟩
  have hl := lv_entry ([.ref b]) (n := 4) (Nat.le_of_ble_eq_true rfl)
  rw [lg_entry_eq]
  generalize (lg_sl ([.ref b]) ++ List.replicate (4 - (lg_sl ([.ref b])).length) Slot.unset).toArray = ls at hl ⊢
  have hl : lv_has ls 4 [(0, .ref b)] := hl
  refine va_new (ci := 8) (fs := [.null, .null, .null, .int 0, .null, .null, .null, .null]) (C := RX8) (T := TX8) (N := 8) hx hb hts (fun w h => gw_tbl (inX8 w h)) tyX8 tyX8_ok hown (hts _ (gw_tbl wjL_7)) (hts _ (gw_tbl wbX8)) (hts _ (gw_tbl wnX8)) hK.1 hP hD hS hA rfl (fun j hj => by match j, hj with | 0, _ => rfl | 1, _ => rfl | 2, _ => rfl | 3, _ => rfl | 4, _ => rfl | 5, _ => rfl | 6, _ => rfl | 7, _ => rfl | n + 8, h => exact absurd h (Nat.not_lt.mpr (Nat.le_add_left _ n))) (Nat.le_of_ble_eq_true rfl) (Nat.le_of_ble_eq_true rfl) dL_law_0 (fun q8 H hP hD hS => ?_)
  have hP : va_P (dC, dI) vwCl [(q8, .inr (8, [.null, .null, .null, .int 0, .null, .null, .null, .null]))] H := hP
  have hD : va_D (fun q : Nat => s.heap.size ≤ q) [(q8, .inr (8, [.null, .null, .null, .int 0, .null, .null, .null, .null]))] := hD
  refine lv_dup hx hb dL_law_3 rfl ?_
  have z1 : ([(q8, .inr (8, [.null, .null, .null, .int 0, .null, .null, .null, .null]))] : va_W).Perm ([(q8, .inr (8, [.null, .null, .null, .int 0, .null, .null, .null, .null]))] ++ []) := by rw [List.append_nil]
  have hFr := pfree z1 hD hS hA
  have hSo := hS
  refine va_callv (va_runI (As := []) (rest := [.ref q8]) ⟨hx, hb, hml, hown, hts⟩ (iX8 l dC dI dA d1 d2 q8 H.size) (gCINL 0 hts wcX8_init wmL_9 wiX8_init wnX8 rfl (by decide +kernel) rfl rfl ⟨Nat.le_of_ble_eq_true rfl, Nat.le_of_ble_eq_true rfl⟩) (gPreX hE hT hS hA hP hK hD) rfl rfl hl.1 rfl (lv_room (Nat.le_of_ble_eq_true rfl)) dL_law_4 ⟨Nat.le_of_ble_eq_true rfl, Nat.le_of_ble_eq_true rfl⟩) hS (fun q _ h => hFr q h) hFr (fun ad t H1 locs ht hvm hw hB hz hk hS => ?_)
  replace hw : ad 0 = q8 := hw
  subst hw
  obtain ⟨hP, hD⟩ := pjoin (w1 := wX8 dA ad 0 0 0 0 0 0 0 (fun _ => 0) bT0 1 tP0 bT0 bT0 bT0 0 0 1 0 0 tP0 bT0 (fun _ => none) tP0 bT0 (fun _ => 0) (fun _ => 0) (fun _ => 0) (fun _ => 0) (fun _ => 0) (fun _ => 0) (fun _ => 0) (fun _ => 0) (fun _ => 0) tP0 bT0 (fun _ => 0) (fun _ => 0) (fun _ => 0) (fun _ => 0) (fun _ => 0) (fun _ => 0) (fun _ => 0) (fun _ => 0) (fun _ => 0) 0 0 0 0 16 (fun _ => 0)) (wf := wX8 dA ad 0 0 0 0 0 0 0 (fun _ => 0) bT0 1 tP0 bT0 bT0 bT0 0 0 1 0 0 tP0 bT0 (fun _ => none) tP0 bT0 (fun _ => 0) (fun _ => 0) (fun _ => 0) (fun _ => 0) (fun _ => 0) (fun _ => 0) (fun _ => 0) (fun _ => 0) (fun _ => 0) tP0 bT0 (fun _ => 0) (fun _ => 0) (fun _ => 0) (fun _ => 0) (fun _ => 0) (fun _ => 0) (fun _ => 0) (fun _ => 0) (fun _ => 0) 0 0 0 0 16 (fun _ => 0)) z1 (by rw [List.append_nil]) hP hD hSo hA hk (by rw [← ht]; exact hB.1) hB.2
  clear hSo hFr hk hB hz ht hvm z1
  refine lv_astore_n (lv' := [(1, .ref (ad 0)), (0, .ref b)]) hx hb dL_law_7 rfl hl (by decide) rfl (fun ls hl => ?_)
  refine va_new (ci := 9) (fs := [.null, .int 0, .null, .null, .null, .null, .int 0, .int 0, .int 0, .int 0, .int 0, .null, .long 0, .long 0, .int 0, .int 0, .int 0, .int 0, .int 0, .int 0, .int 0, .int 0, .int 0, .int 0, .null, .null, .null, .null, .int 0, .int 0, .int 0, .int 0, .long 0, .int 0, .int 0, .int 0, .long 0, .long 0, .null, .null, .int 0, .null, .null, .int 0, .int 0]) (C := RX9) (T := TX9) (N := 45) hx hb hts (fun w h => gw_tbl (inX9 w h)) tyX9 tyX9_ok hown (hts _ (gw_tbl wjL_10)) (hts _ (gw_tbl wbX9)) (hts _ (gw_tbl wnX9)) hK.1 hP hD hS hA rfl (fun j hj => by match j, hj with | 0, _ => rfl | 1, _ => rfl | 2, _ => rfl | 3, _ => rfl | 4, _ => rfl | 5, _ => rfl | 6, _ => rfl | 7, _ => rfl | 8, _ => rfl | 9, _ => rfl | 10, _ => rfl | 11, _ => rfl | 12, _ => rfl | 13, _ => rfl | 14, _ => rfl | 15, _ => rfl | 16, _ => rfl | 17, _ => rfl | 18, _ => rfl | 19, _ => rfl | 20, _ => rfl | 21, _ => rfl | 22, _ => rfl | 23, _ => rfl | 24, _ => rfl | 25, _ => rfl | 26, _ => rfl | 27, _ => rfl | 28, _ => rfl | 29, _ => rfl | 30, _ => rfl | 31, _ => rfl | 32, _ => rfl | 33, _ => rfl | 34, _ => rfl | 35, _ => rfl | 36, _ => rfl | 37, _ => rfl | 38, _ => rfl | 39, _ => rfl | 40, _ => rfl | 41, _ => rfl | 42, _ => rfl | 43, _ => rfl | 44, _ => rfl | n + 45, h => exact absurd h (Nat.not_lt.mpr (Nat.le_add_left _ n))) (Nat.le_of_ble_eq_true rfl) (Nat.le_of_ble_eq_true rfl) dL_law_8 (fun q9 H hP hD hS => ?_)
  refine lv_dup hx hb dL_law_11 rfl ?_
  have z2 : (wX8 dA ad 0 0 0 0 0 0 0 (fun _ => 0) bT0 1 tP0 bT0 bT0 bT0 0 0 1 0 0 tP0 bT0 (fun _ => none) tP0 bT0 (fun _ => 0) (fun _ => 0) (fun _ => 0) (fun _ => 0) (fun _ => 0) (fun _ => 0) (fun _ => 0) (fun _ => 0) (fun _ => 0) tP0 bT0 (fun _ => 0) (fun _ => 0) (fun _ => 0) (fun _ => 0) (fun _ => 0) (fun _ => 0) (fun _ => 0) (fun _ => 0) (fun _ => 0) 0 0 0 0 16 (fun _ => 0) ++ [(q9, .inr (9, [.null, .int 0, .null, .null, .null, .null, .int 0, .int 0, .int 0, .int 0, .int 0, .null, .long 0, .long 0, .int 0, .int 0, .int 0, .int 0, .int 0, .int 0, .int 0, .int 0, .int 0, .int 0, .null, .null, .null, .null, .int 0, .int 0, .int 0, .int 0, .long 0, .int 0, .int 0, .int 0, .long 0, .long 0, .null, .null, .int 0, .null, .null, .int 0, .int 0]))] : va_W).Perm ([(q9, .inr (9, [.null, .int 0, .null, .null, .null, .null, .int 0, .int 0, .int 0, .int 0, .int 0, .null, .long 0, .long 0, .int 0, .int 0, .int 0, .int 0, .int 0, .int 0, .int 0, .int 0, .int 0, .int 0, .null, .null, .null, .null, .int 0, .int 0, .int 0, .int 0, .long 0, .int 0, .int 0, .int 0, .long 0, .long 0, .null, .null, .int 0, .null, .null, .int 0, .int 0]))] ++ wX8 dA ad 0 0 0 0 0 0 0 (fun _ => 0) bT0 1 tP0 bT0 bT0 bT0 0 0 1 0 0 tP0 bT0 (fun _ => none) tP0 bT0 (fun _ => 0) (fun _ => 0) (fun _ => 0) (fun _ => 0) (fun _ => 0) (fun _ => 0) (fun _ => 0) (fun _ => 0) (fun _ => 0) tP0 bT0 (fun _ => 0) (fun _ => 0) (fun _ => 0) (fun _ => 0) (fun _ => 0) (fun _ => 0) (fun _ => 0) (fun _ => 0) (fun _ => 0) 0 0 0 0 16 (fun _ => 0)) := List.perm_append_comm
  have hFr := pfree z2 hD hS hA
  have hSo := hS
  refine va_callv (va_runI (As := []) (rest := [.ref q9]) ⟨hx, hb, hml, hown, hts⟩ (iX9 l dC dI dA q9 H.size hf) (gCINL 0 hts wcX9_init wmL_12 wiX9_init wnX9 rfl (by decide +kernel) rfl rfl ⟨Nat.le_of_ble_eq_true rfl, Nat.le_of_ble_eq_true rfl⟩) (gPreS (psub z2 hP) hK (psubD z2 hD)) rfl rfl hl.1 rfl (lv_room (Nat.le_of_ble_eq_true rfl)) dL_law_12 ⟨Nat.le_of_ble_eq_true rfl, Nat.le_of_ble_eq_true rfl⟩) hS (fun q _ h => hFr q h) hFr (fun am t H1 locs ht hvm hw hB hz hk hS => ?_)
  replace hw : am 0 = q9 := hw
  subst hw
  obtain ⟨hP, hD⟩ := pjoin (w1 := mW dA am (fun _ => 0) 0 o_c_tree o_c_bonds (fun _ => 0) (fun _ => 0) 0 0 0 0 0 (fun _ => 0) 0 0 0 0 0 0 0 0 0 0 0 0 (fun _ => 0) (fun _ => 0) (fun _ => 0) (fun _ => 0) 0 0 0 0 0 0 0 0 0 0 (fun _ => 0) (fun _ => 0) 0 (fun _ => 0) (fun _ => 0) 0 0) (wf := wX8 dA ad 0 0 0 0 0 0 0 (fun _ => 0) bT0 1 tP0 bT0 bT0 bT0 0 0 1 0 0 tP0 bT0 (fun _ => none) tP0 bT0 (fun _ => 0) (fun _ => 0) (fun _ => 0) (fun _ => 0) (fun _ => 0) (fun _ => 0) (fun _ => 0) (fun _ => 0) (fun _ => 0) tP0 bT0 (fun _ => 0) (fun _ => 0) (fun _ => 0) (fun _ => 0) (fun _ => 0) (fun _ => 0) (fun _ => 0) (fun _ => 0) (fun _ => 0) 0 0 0 0 16 (fun _ => 0) ++ (kW dA [] ++ mW dA am (fun _ => 0) 0 o_c_tree o_c_bonds (fun _ => 0) (fun _ => 0) 0 0 0 0 0 (fun _ => 0) 0 0 0 0 0 0 0 0 0 0 0 0 (fun _ => 0) (fun _ => 0) (fun _ => 0) (fun _ => 0) 0 0 0 0 0 0 0 0 0 0 (fun _ => 0) (fun _ => 0) 0 (fun _ => 0) (fun _ => 0) 0 0)) z2 List.perm_append_comm hP hD hSo hA hk (by rw [← ht]; exact hB.1) hB.2
  clear hSo hFr hk hB hz ht hvm z2
  refine lv_astore_n (lv' := [(2, .ref (am 0)), (1, .ref (ad 0)), (0, .ref b)]) hx hb dL_law_15 rfl hl (by decide) rfl (fun ls hl => ?_)
  refine lv_iconst (v := nI 0) hx hb dL_law_16 rfl ?_
  refine lv_istore_n (lv' := lwL b (ad 0) (am 0) 0) hx hb dL_law_17 rfl hl (by decide) rfl (fun ls hl => ?_)
  exact kk dC dI dA d1 d2 kad ad am _ _ ls hK hE hT hF hl hP hD hS
