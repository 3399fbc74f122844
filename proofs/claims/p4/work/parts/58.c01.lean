theorem ccX5_X7_takeFrom {R : Room} {s : State} {args : Array Value} {c0 : Cond} (ht : ∀ w ∈ wq c0, w.before args s = true) (hR : rmX7_takeFrom.frames + 1 ≤ R.frames ∧ 8 + (2 + 11) + rmX7_takeFrom.locals ≤ R.locals) : CallW R s args RX5 RX7 54 yX7_takeFrom cX7_takeFrom 2 none (wq (.code yX7_takeFrom cX7_takeFrom 2 none)) rmX7_takeFrom 0 0 1 := gCW 1 ht wcX7_takeFrom wmX5_54 wiX7_takeFrom weX7_takeFrom wnX7 (by decide +kernel) rfl rfl hR
theorem ccX5_X0_takeFrom {R : Room} {s : State} {args : Array Value} {c0 : Cond} (ht : ∀ w ∈ wq c0, w.before args s = true) (hR : rmX0_takeFrom.frames + 1 ≤ R.frames ∧ 8 + (2 + 11) + rmX0_takeFrom.locals ≤ R.locals) : CallW R s args RX5 RX0 58 yX0_takeFrom cX0_takeFrom 2 none (wq (.code yX0_takeFrom cX0_takeFrom 2 none)) rmX0_takeFrom 0 0 1 := gCW 1 ht wcX0_takeFrom wmX5_58 wiX0_takeFrom weX0_takeFrom wnX0 (by decide +kernel) rfl rfl hR
abbrev rmX5_take : Room := { frames := 2, cells := 0, slots := 0, locals := 81 }
set_option maxHeartbeats 4000000 in
set_option maxRecDepth 100000 in
theorem tX5_take (l : Launch) (dC : Nat → ClassId) (dI : Nat → Nat → Nat) (dA : Nat → ClassId) (ad : Nat → Nat) (ad1 : Nat → Nat) (ad2 : Nat → Nat) (sz : Nat) {c_tree_parts : Nat → Int32} {c_bond_terms : Nat → Int32} {c_penceByUps : Nat → Int64} {c_pence : Nat → Int64} {c_turned : Nat → Int64} {c_called : Nat → Int64} {c_hold : Nat → Int64} {c_value : Nat → Int64} {c_marks : Nat → Int32} {c_act : Nat → Int32} {c_rowOfKey : Nat → Int32} {d1_parts : Nat → Int32} {d2_terms : Nat → Int32} {o_c_tree_parts : Nat → Int32} {o_c_bond_terms : Nat → Int32} (hf : fX5_take c_tree_parts c_bond_terms d1_parts d2_terms = some (o_c_tree_parts, o_c_bond_terms)) : Met l yX5_take (wq (Cond.code yX5_take cX5_take 3 none)) rmX5_take (gP [.ref (ad 0), .ref (ad1 0), .ref (ad2 0)] (dC, dI) dA ((wX5 dA ad c_tree_parts c_bond_terms c_penceByUps c_pence c_turned c_called c_hold c_value c_marks c_act c_rowOfKey) ++ ((wX7 dA ad1 d1_parts) ++ (wX0 dA ad2 d2_terms))) sz) (gQv (dC, dI) ((wX5 dA ad o_c_tree_parts o_c_bond_terms c_penceByUps c_pence c_turned c_called c_hold c_value c_marks c_act c_rowOfKey) ++ ((wX7 dA ad1 d1_parts) ++ (wX0 dA ad2 d2_terms))) (va_A ((wX5 dA ad c_tree_parts c_bond_terms c_penceByUps c_pence c_turned c_called c_hold c_value c_marks c_act c_rowOfKey) ++ ((wX7 dA ad1 d1_parts) ++ (wX0 dA ad2 d2_terms))) sz)) 0 0 (va_A ((wX5 dA ad c_tree_parts c_bond_terms c_penceByUps c_pence c_turned c_called c_hold c_value c_marks c_act c_rowOfKey) ++ ((wX7 dA ad1 d1_parts) ++ (wX0 dA ad2 d2_terms))) sz) := by
  refine Met.ofW (cc := cX5_take) (maxL := 3) (ret := none) (by decide) rfl ?_
  intro p e s m args below meth c s₁ B hml hv
  obtain ⟨rfl, hsz, hP, hK, hD0⟩ := hv
  have hx := B.exec
  have hb := B.bytes
  have hr := B.returns
  have hts := atoms_spec (ws := wq (Cond.code yX5_take cX5_take 3 none)) B.pre
  have hown : s.vm.findClass RX5 = some m.cls := findClass_of_methodNamed B.named
  have hlocks := B.notSynchronized
  clear B
  subst hsz
  have hD := hD0.self (sz := s.heap.size)
  generalize hAe : va_A ((wX5 dA ad c_tree_parts c_bond_terms c_penceByUps c_pence c_turned c_called c_hold c_value c_marks c_act c_rowOfKey) ++ ((wX7 dA ad1 d1_parts) ++ (wX0 dA ad2 d2_terms))) s.heap.size = A at hD ⊢
  have hA : ∀ q : Nat, s.heap.size ≤ q → A q := fun q h => by rw [← hAe]; exact Or.inr h
  clear hAe hD0
  have hS : va_S A s.heap s.heap [] := va_S.rf
  have hl := lv_entry ([.ref (ad 0), .ref (ad1 0), .ref (ad2 0)]) (n := 3) (Nat.le_of_ble_eq_true rfl)
  rw [lg_entry_eq]
  generalize (lg_sl ([.ref (ad 0), .ref (ad1 0), .ref (ad2 0)]) ++ List.replicate (3 - (lg_sl ([.ref (ad 0), .ref (ad1 0), .ref (ad2 0)])).length) Slot.unset).toArray = ls at hl ⊢
  have hl : lv_has ls 3 [(0, .ref (ad 0)), (1, .ref (ad1 0)), (2, .ref (ad2 0))] := hl
  change W p l e rmX5_take s m ([.ref (ad 0), .ref (ad1 0), .ref (ad2 0)] : List Value).toArray below meth c s.heap [] 0 0 _ _
  unfold fX5_take at hf
  refine lv_aload_n hx hb dX5_take_0 rfl (lv_at hl 0 rfl) ?_
  refine va_get (D := (dC, dI)) (ci := 5) (v := .ref (ad 1)) (C := RX5) (T := TX5) (N := 11) hx hb hts (fun w h => gw_mem (inX5 w h)) hown hK.1 hP 0 rfl rfl 0 (by decide) (hts _ (gw_mem wfX5_12)) (fun _ h9 => h9) rfl dX5_take_1 ?_
  refine lv_aload_n hx hb dX5_take_4 rfl (lv_at hl 1 rfl) ?_
  obtain ⟨c_tree_parts_1, v2, hf⟩ := bd1_some hf
  have z3 := sg2 (ws := ((wX5 dA ad c_tree_parts c_bond_terms c_penceByUps c_pence c_turned c_called c_hold c_value c_marks c_act c_rowOfKey) ++ ((wX7 dA ad1 d1_parts) ++ (wX0 dA ad2 d2_terms)))) (s0 := (((wX5 dA ad c_tree_parts c_bond_terms c_penceByUps c_pence c_turned c_called c_hold c_value c_marks c_act c_rowOfKey) ++ ((wX7 dA ad1 d1_parts) ++ (wX0 dA ad2 d2_terms)))).take 1) (s1 := ((((wX5 dA ad c_tree_parts c_bond_terms c_penceByUps c_pence c_turned c_called c_hold c_value c_marks c_act c_rowOfKey) ++ ((wX7 dA ad1 d1_parts) ++ (wX0 dA ad2 d2_terms)))).drop 3).take 11) (s2 := (((wX5 dA ad c_tree_parts c_bond_terms c_penceByUps c_pence c_turned c_called c_hold c_value c_marks c_act c_rowOfKey) ++ ((wX7 dA ad1 d1_parts) ++ (wX0 dA ad2 d2_terms)))).drop 16) (x1 := (wX7 dA (fun i => ad (i + 1)) c_tree_parts)) (x2 := (wX7 dA ad1 d1_parts)) rfl
  refine gpv (wf := ((wX5 dA ad c_tree_parts_1 c_bond_terms c_penceByUps c_pence c_turned c_called c_hold c_value c_marks c_act c_rowOfKey) ++ ((wX7 dA ad1 d1_parts) ++ (wX0 dA ad2 d2_terms)))) (va_runV (As := [.ref (ad1 0)]) (rest := []) ⟨hx, hb, hml, hown, hts⟩ (tX7_takeFrom l dC dI dA (fun i => ad (i + 1)) ad1 s.heap.size v2) (ccX5_X7_takeFrom hts ⟨Nat.le_of_ble_eq_true rfl, Nat.le_of_ble_eq_true rfl⟩) (gPreV (ci := 7) (q0 := 0) (psub z3 hP) hK (psubD z3 hD) rfl rfl) rfl rfl hl.1 rfl (lv_room (Nat.le_of_ble_eq_true rfl)) dX5_take_5 ⟨Nat.le_of_ble_eq_true rfl, Nat.le_of_ble_eq_true rfl⟩) hP hD hS hA z3 (sg2 (s0 := (((wX5 dA ad c_tree_parts c_bond_terms c_penceByUps c_pence c_turned c_called c_hold c_value c_marks c_act c_rowOfKey) ++ ((wX7 dA ad1 d1_parts) ++ (wX0 dA ad2 d2_terms)))).take 1) (s1 := ((((wX5 dA ad c_tree_parts c_bond_terms c_penceByUps c_pence c_turned c_called c_hold c_value c_marks c_act c_rowOfKey) ++ ((wX7 dA ad1 d1_parts) ++ (wX0 dA ad2 d2_terms)))).drop 3).take 11) (s2 := (((wX5 dA ad c_tree_parts c_bond_terms c_penceByUps c_pence c_turned c_called c_hold c_value c_marks c_act c_rowOfKey) ++ ((wX7 dA ad1 d1_parts) ++ (wX0 dA ad2 d2_terms)))).drop 16) (x1 := (wX7 dA (fun i => ad (i + 1)) c_tree_parts_1)) (x2 := (wX7 dA ad1 d1_parts)) rfl) (fun H locs hP hD hS => ?_)
  refine lv_aload_n hx hb dX5_take_8 rfl (lv_at hl 0 rfl) ?_
  refine va_get (D := (dC, dI)) (ci := 5) (v := .ref (ad 3)) (C := RX5) (T := TX5) (N := 11) hx hb hts (fun w h => gw_mem (inX5 w h)) hown hK.1 hP 0 rfl rfl 1 (by decide) (hts _ (gw_mem wfX5_21)) (fun _ h9 => h9) rfl dX5_take_9 ?_
  refine lv_aload_n hx hb dX5_take_12 rfl (lv_at hl 2 rfl) ?_
  obtain ⟨c_bond_terms_4, v5, hf⟩ := bd1_some hf
  have z6 := sg2 (ws := ((wX5 dA ad c_tree_parts_1 c_bond_terms c_penceByUps c_pence c_turned c_called c_hold c_value c_marks c_act c_rowOfKey) ++ ((wX7 dA ad1 d1_parts) ++ (wX0 dA ad2 d2_terms)))) (s0 := (((wX5 dA ad c_tree_parts_1 c_bond_terms c_penceByUps c_pence c_turned c_called c_hold c_value c_marks c_act c_rowOfKey) ++ ((wX7 dA ad1 d1_parts) ++ (wX0 dA ad2 d2_terms)))).take 3) (s1 := ((((wX5 dA ad c_tree_parts_1 c_bond_terms c_penceByUps c_pence c_turned c_called c_hold c_value c_marks c_act c_rowOfKey) ++ ((wX7 dA ad1 d1_parts) ++ (wX0 dA ad2 d2_terms)))).drop 5).take 11) (s2 := (((wX5 dA ad c_tree_parts_1 c_bond_terms c_penceByUps c_pence c_turned c_called c_hold c_value c_marks c_act c_rowOfKey) ++ ((wX7 dA ad1 d1_parts) ++ (wX0 dA ad2 d2_terms)))).drop 18) (x1 := (wX0 dA (fun i => ad (i + 3)) c_bond_terms)) (x2 := (wX0 dA ad2 d2_terms)) rfl
  refine gpv (wf := ((wX5 dA ad c_tree_parts_1 c_bond_terms_4 c_penceByUps c_pence c_turned c_called c_hold c_value c_marks c_act c_rowOfKey) ++ ((wX7 dA ad1 d1_parts) ++ (wX0 dA ad2 d2_terms)))) (va_runV (As := [.ref (ad2 0)]) (rest := []) ⟨hx, hb, hml, hown, hts⟩ (tX0_takeFrom l dC dI dA (fun i => ad (i + 3)) ad2 H.size v5) (ccX5_X0_takeFrom hts ⟨Nat.le_of_ble_eq_true rfl, Nat.le_of_ble_eq_true rfl⟩) (gPreV (ci := 1) (q0 := 0) (psub z6 hP) hK (psubD z6 hD) rfl rfl) rfl rfl hl.1 rfl (lv_room (Nat.le_of_ble_eq_true rfl)) dX5_take_13 ⟨Nat.le_of_ble_eq_true rfl, Nat.le_of_ble_eq_true rfl⟩) hP hD hS hA z6 (sg2 (s0 := (((wX5 dA ad c_tree_parts_1 c_bond_terms c_penceByUps c_pence c_turned c_called c_hold c_value c_marks c_act c_rowOfKey) ++ ((wX7 dA ad1 d1_parts) ++ (wX0 dA ad2 d2_terms)))).take 3) (s1 := ((((wX5 dA ad c_tree_parts_1 c_bond_terms c_penceByUps c_pence c_turned c_called c_hold c_value c_marks c_act c_rowOfKey) ++ ((wX7 dA ad1 d1_parts) ++ (wX0 dA ad2 d2_terms)))).drop 5).take 11) (s2 := (((wX5 dA ad c_tree_parts_1 c_bond_terms c_penceByUps c_pence c_turned c_called c_hold c_value c_marks c_act c_rowOfKey) ++ ((wX7 dA ad1 d1_parts) ++ (wX0 dA ad2 d2_terms)))).drop 18) (x1 := (wX0 dA (fun i => ad (i + 3)) c_bond_terms_4)) (x2 := (wX0 dA ad2 d2_terms)) rfl) (fun H locs hP hD hS => ?_)
  cases hf
  exact W.vret hx hb hr (fun t ht _ => gqv hP hD hS ht) hS.2.2 dX5_take_16
theorem ccX5_X7_lastDay {R : Room} {s : State} {args : Array Value} {c0 : Cond} (ht : ∀ w ∈ wq c0, w.before args s = true) (hR : rmX7_lastDay.frames + 1 ≤ R.frames ∧ 8 + (1 + 11) + rmX7_lastDay.locals ≤ R.locals) : CallW R s args RX5 RX7 61 yX7_lastDay cX7_lastDay 1 (some .int) (wq (.code yX7_lastDay cX7_lastDay 1 (some .int))) rmX7_lastDay 0 0 0 := gCW 0 ht wcX7_lastDay wmX5_61 wiX7_lastDay weX7_lastDay wnX7 (by decide +kernel) rfl rfl hR
abbrev rmX5_lastRow : Room := { frames := 2, cells := 0, slots := 0, locals := 43 }
set_option maxHeartbeats 4000000 in
set_option maxRecDepth 100000 in
theorem tX5_lastRow (l : Launch) (dC : Nat → ClassId) (dI : Nat → Nat → Nat) (dA : Nat → ClassId) (ad : Nat → Nat) (sz : Nat) {c_tree_parts : Nat → Int32} {c_bond_terms : Nat → Int32} {c_penceByUps : Nat → Int64} {c_pence : Nat → Int64} {c_turned : Nat → Int64} {c_called : Nat → Int64} {c_hold : Nat → Int64} {c_value : Nat → Int64} {c_marks : Nat → Int32} {c_act : Nat → Int32} {c_rowOfKey : Nat → Int32} {r : Int32} (hf : fX5_lastRow c_tree_parts = some (r)) : Met l yX5_lastRow (wq (Cond.code yX5_lastRow cX5_lastRow 1 (some .int))) rmX5_lastRow (gP [.ref (ad 0)] (dC, dI) dA (wX5 dA ad c_tree_parts c_bond_terms c_penceByUps c_pence c_turned c_called c_hold c_value c_marks c_act c_rowOfKey) sz) (gQi (dC, dI) r (wX5 dA ad c_tree_parts c_bond_terms c_penceByUps c_pence c_turned c_called c_hold c_value c_marks c_act c_rowOfKey) (va_A (wX5 dA ad c_tree_parts c_bond_terms c_penceByUps c_pence c_turned c_called c_hold c_value c_marks c_act c_rowOfKey) sz)) 0 0 (va_A (wX5 dA ad c_tree_parts c_bond_terms c_penceByUps c_pence c_turned c_called c_hold c_value c_marks c_act c_rowOfKey) sz) := by
  refine Met.ofW (cc := cX5_lastRow) (maxL := 1) (ret := (some .int)) (by decide) rfl ?_
  intro p e s m args below meth c s₁ B hml hv
  obtain ⟨rfl, hsz, hP, hK, hD0⟩ := hv
  have hx := B.exec
  have hb := B.bytes
  have hr := B.returns
  have hts := atoms_spec (ws := wq (Cond.code yX5_lastRow cX5_lastRow 1 (some .int))) B.pre
  have hown : s.vm.findClass RX5 = some m.cls := findClass_of_methodNamed B.named
  have hlocks := B.notSynchronized
  clear B
  subst hsz
  have hD := hD0.self (sz := s.heap.size)
  generalize hAe : va_A (wX5 dA ad c_tree_parts c_bond_terms c_penceByUps c_pence c_turned c_called c_hold c_value c_marks c_act c_rowOfKey) s.heap.size = A at hD ⊢
  have hA : ∀ q : Nat, s.heap.size ≤ q → A q := fun q h => by rw [← hAe]; exact Or.inr h
  clear hAe hD0
  have hS : va_S A s.heap s.heap [] := va_S.rf
  have hl := lv_entry ([.ref (ad 0)]) (n := 1) (Nat.le_of_ble_eq_true rfl)
  rw [lg_entry_eq]
  generalize (lg_sl ([.ref (ad 0)]) ++ List.replicate (1 - (lg_sl ([.ref (ad 0)])).length) Slot.unset).toArray = ls at hl ⊢
  have hl : lv_has ls 1 [(0, .ref (ad 0))] := hl
  change W p l e rmX5_lastRow s m ([.ref (ad 0)] : List Value).toArray below meth c s.heap [] 0 0 _ _
  unfold fX5_lastRow at hf
  refine lv_sipush (v := 128) hx hb dX5_lastRow_0 (by decide) ?_
  refine lv_iconst (v := 2) hx hb dX5_lastRow_3 (by decide) ?_
  refine lv_aload_n hx hb dX5_lastRow_4 rfl (lv_at hl 0 rfl) ?_
  refine va_get (D := (dC, dI)) (ci := 5) (v := .ref (ad 1)) (C := RX5) (T := TX5) (N := 11) hx hb hts (fun w h => gw_mem (inX5 w h)) hown hK.1 hP 0 rfl rfl 0 (by decide) (hts _ (gw_mem wfX5_12)) (fun _ h9 => h9) rfl dX5_lastRow_5 ?_
  obtain ⟨r1, v2, hf⟩ := bd1_some hf
  have z3 := sg1 (ws := (wX5 dA ad c_tree_parts c_bond_terms c_penceByUps c_pence c_turned c_called c_hold c_value c_marks c_act c_rowOfKey)) (s0 := ((wX5 dA ad c_tree_parts c_bond_terms c_penceByUps c_pence c_turned c_called c_hold c_value c_marks c_act c_rowOfKey)).take 1) (s1 := ((wX5 dA ad c_tree_parts c_bond_terms c_penceByUps c_pence c_turned c_called c_hold c_value c_marks c_act c_rowOfKey)).drop 3) (x1 := (wX7 dA (fun i => ad (i + 1)) c_tree_parts)) rfl
  refine gpi (wf := (wX5 dA ad c_tree_parts c_bond_terms c_penceByUps c_pence c_turned c_called c_hold c_value c_marks c_act c_rowOfKey)) (va_runV (As := []) (rest := [.int 2, .int 128]) ⟨hx, hb, hml, hown, hts⟩ (tX7_lastDay l dC dI dA (fun i => ad (i + 1)) s.heap.size v2) (ccX5_X7_lastDay hts ⟨Nat.le_of_ble_eq_true rfl, Nat.le_of_ble_eq_true rfl⟩) (gPreV (ci := 7) (q0 := 0) (psub z3 hP) hK (psubD z3 hD) rfl rfl) rfl rfl hl.1 rfl (lv_room (Nat.le_of_ble_eq_true rfl)) dX5_lastRow_8 ⟨Nat.le_of_ble_eq_true rfl, Nat.le_of_ble_eq_true rfl⟩) hP hD hS hA z3 (sg1 (s0 := ((wX5 dA ad c_tree_parts c_bond_terms c_penceByUps c_pence c_turned c_called c_hold c_value c_marks c_act c_rowOfKey)).take 1) (s1 := ((wX5 dA ad c_tree_parts c_bond_terms c_penceByUps c_pence c_turned c_called c_hold c_value c_marks c_act c_rowOfKey)).drop 3) (x1 := (wX7 dA (fun i => ad (i + 1)) c_tree_parts)) rfl) (fun H locs hP hD hS => ?_)
  refine lv_ishl hx hb dX5_lastRow_11 ?_
  refine va_mmin hx hb (hml.trans hl.1.symm) hown (hts _ (gw_mem wmX5_65)) (hts _ (gw_mem wtJ9_min_7cf53)) (hts _ (gw_mem wnJ9)) (hts _ (gw_mem wcJ9_min_7cf53)) (Nat.le_of_ble_eq_true rfl) (Nat.le_of_ble_eq_true rfl) (Nat.le_of_ble_eq_true rfl) (Nat.le_of_ble_eq_true rfl) dX5_lastRow_12 ?_
  refine lv_iconst (v := 1) hx hb dX5_lastRow_15 (by decide) ?_
  refine lv_isub hx hb dX5_lastRow_16 ?_
  cases hf
  exact W.iret hx hb hr (fun t ht _ => gqi hP hD hS ht) hS.2.2 dX5_lastRow_17
abbrev rmX8_isRow : Room := { frames := 0, cells := 0, slots := 0, locals := 0 }
set_option maxHeartbeats 4000000 in
set_option maxRecDepth 100000 in
theorem tX8_isRow (l : Launch) (dC : Nat → ClassId) (dI : Nat → Nat → Nat) (dA : Nat → ClassId) (sz : Nat) {p0 : Int32} {r : Int32} (hf : fX8_isRow p0 = some (r)) : Met l yX8_isRow (wq (Cond.code yX8_isRow cX8_isRow 1 (some .boolean))) rmX8_isRow (gP [.int p0] (dC, dI) dA [] sz) (gQi (dC, dI) r [] (va_A [] sz)) 0 0 (va_A [] sz) := by
  refine Met.ofW (cc := cX8_isRow) (maxL := 1) (ret := (some .boolean)) (by decide) rfl ?_
  intro p e s m args below meth c s₁ B hml hv
  obtain ⟨rfl, hsz, hP, hK, hD0⟩ := hv
  have hx := B.exec
  have hb := B.bytes
  have hr := B.returns
  have hts := atoms_spec (ws := wq (Cond.code yX8_isRow cX8_isRow 1 (some .boolean))) B.pre
  have hown : s.vm.findClass RX8 = some m.cls := findClass_of_methodNamed B.named
  have hlocks := B.notSynchronized
  clear B
  subst hsz
  have hD := hD0.self (sz := s.heap.size)
  generalize hAe : va_A [] s.heap.size = A at hD ⊢
  have hA : ∀ q : Nat, s.heap.size ≤ q → A q := fun q h => by rw [← hAe]; exact Or.inr h
  clear hAe hD0
  have hS : va_S A s.heap s.heap [] := va_S.rf
  have hl := lv_entry ([.int p0]) (n := 1) (Nat.le_of_ble_eq_true rfl)
  rw [lg_entry_eq]
  generalize (lg_sl ([.int p0]) ++ List.replicate (1 - (lg_sl ([.int p0])).length) Slot.unset).toArray = ls at hl ⊢
  have hl : lv_has ls 1 [(0, .int p0)] := hl
  change W p l e rmX8_isRow s m ([.int p0] : List Value).toArray below meth c s.heap [] 0 0 _ _
  unfold fX8_isRow at hf
  refine lv_iconst (v := 1) hx hb dX8_isRow_0 (by decide) ?_
  refine lv_iload_n hx hb dX8_isRow_1 rfl (lv_at hl 0 rfl) ?_
  obtain ⟨j2, v4, hf⟩ := bd1_some hf
  have J3 : ∀ (H : Heap) (locs : List Loc) (ls : Array Slot), va_P (dC, dI) vwCl [] H → va_D A [] → va_S A s.heap H locs → lv_has ls 1 [] → W p l e rmX8_isRow s m ([.int p0] : List Value).toArray below meth c H locs 0 0 (MQ below (gQi (dC, dI) r [] A) ([.int p0] : List Value).toArray s 0 0 A) (F0 m 17 ls [.int j2]) := by
    intro H locs ls hP hD hS hl
    obtain ⟨h5, hf⟩ := og_some hf
    cases hf
    exact W.zret (ty := .boolean) hx hb hr (boB_nar h5) (fun t ht _ => gqi hP hD hS ht) hS.2.2 dX8_isRow_17
  replace hf := v4
  clear v4
  refine lv_icmp_gt (tgt := 16) hx hb dX8_isRow_2 (by decide) (fun k1 => ?_) (fun k1 => ?_)
  · replace hf := ifp k1 hf
    refine lv_iconst (v := 0) hx hb dX8_isRow_16 (by decide) ?_
    cases hf
    exact J3 _ _ _ hP hD hS (lv_sub hl [] rfl)
  · replace hf := ifn k1 hf
    refine lv_iload_n hx hb dX8_isRow_5 rfl (lv_at hl 0 rfl) ?_
    refine lv_sipush (v := 128) hx hb dX8_isRow_6 (by decide) ?_
    refine lv_icmp_ge (tgt := 16) hx hb dX8_isRow_9 (by decide) (fun k6 => ?_) (fun k6 => ?_)
    · replace hf := ifp k6 hf
      refine lv_iconst (v := 0) hx hb dX8_isRow_16 (by decide) ?_
      cases hf
      exact J3 _ _ _ hP hD hS (lv_sub hl [] rfl)
    · replace hf := ifn k6 hf
      refine lv_iconst (v := 1) hx hb dX8_isRow_12 (by decide) ?_
      refine lv_goto (tgt := 17) hx hb dX8_isRow_13 (by decide) ?_
      cases hf
      exact J3 _ _ _ hP hD hS (lv_sub hl [] rfl)
theorem ccX5_X8_isRow {R : Room} {s : State} {args : Array Value} {c0 : Cond} (hN : gN s) (ht : ∀ w ∈ wq c0, w.before args s = true) (hR : rmX8_isRow.frames + 1 ≤ R.frames ∧ 8 + (1 + 11) + rmX8_isRow.locals ≤ R.locals) : va_CN R s args RX5 71 yX8_isRow RX8 cX8_isRow 1 (some .boolean) (wq (.code yX8_isRow cX8_isRow 1 (some .boolean))) rmX8_isRow 0 0 1 ∧ (Cond.static yX8_isRow).before args s = true ∧ True := gCSN 1 hN ht wcX8_isRow wmX5_71 wtX8_isRow wnX8 (by decide +kernel) rfl rfl hR
abbrev rmX5_valueAt : Room := { frames := 1, cells := 0, slots := 0, locals := 20 }
set_option maxHeartbeats 4000000 in
set_option maxRecDepth 100000 in
theorem tX5_valueAt (l : Launch) (dC : Nat → ClassId) (dI : Nat → Nat → Nat) (dA : Nat → ClassId) (ad : Nat → Nat) (sz : Nat) {p1 : Int32} {c_tree_parts : Nat → Int32} {c_bond_terms : Nat → Int32} {c_penceByUps : Nat → Int64} {c_pence : Nat → Int64} {c_turned : Nat → Int64} {c_called : Nat → Int64} {c_hold : Nat → Int64} {c_value : Nat → Int64} {c_marks : Nat → Int32} {c_act : Nat → Int32} {c_rowOfKey : Nat → Int32} {r : Int64} (hf : fX5_valueAt p1 c_value = some (r)) : Met l yX5_valueAt (wq (Cond.code yX5_valueAt cX5_valueAt 2 (some .long))) rmX5_valueAt (gP [.ref (ad 0), .int p1] (dC, dI) dA (wX5 dA ad c_tree_parts c_bond_terms c_penceByUps c_pence c_turned c_called c_hold c_value c_marks c_act c_rowOfKey) sz) (gQl (dC, dI) r (wX5 dA ad c_tree_parts c_bond_terms c_penceByUps c_pence c_turned c_called c_hold c_value c_marks c_act c_rowOfKey) (va_A (wX5 dA ad c_tree_parts c_bond_terms c_penceByUps c_pence c_turned c_called c_hold c_value c_marks c_act c_rowOfKey) sz)) 0 0 (va_A (wX5 dA ad c_tree_parts c_bond_terms c_penceByUps c_pence c_turned c_called c_hold c_value c_marks c_act c_rowOfKey) sz) := by
  refine Met.ofW (cc := cX5_valueAt) (maxL := 2) (ret := (some .long)) (by decide) rfl ?_
  intro p e s m args below meth c s₁ B hml hv
  obtain ⟨rfl, hsz, hP, hK, hD0⟩ := hv
  have hx := B.exec
  have hb := B.bytes
  have hr := B.returns
  have hts := atoms_spec (ws := wq (Cond.code yX5_valueAt cX5_valueAt 2 (some .long))) B.pre
  have hown : s.vm.findClass RX5 = some m.cls := findClass_of_methodNamed B.named
  have hlocks := B.notSynchronized
  clear B
  subst hsz
  have hD := hD0.self (sz := s.heap.size)
  generalize hAe : va_A (wX5 dA ad c_tree_parts c_bond_terms c_penceByUps c_pence c_turned c_called c_hold c_value c_marks c_act c_rowOfKey) s.heap.size = A at hD ⊢
  have hA : ∀ q : Nat, s.heap.size ≤ q → A q := fun q h => by rw [← hAe]; exact Or.inr h
  clear hAe hD0
  have hS : va_S A s.heap s.heap [] := va_S.rf
  have hl := lv_entry ([.ref (ad 0), .int p1]) (n := 2) (Nat.le_of_ble_eq_true rfl)
  rw [lg_entry_eq]
  generalize (lg_sl ([.ref (ad 0), .int p1]) ++ List.replicate (2 - (lg_sl ([.ref (ad 0), .int p1])).length) Slot.unset).toArray = ls at hl ⊢
  have hl : lv_has ls 2 [(0, .ref (ad 0)), (1, .int p1)] := hl
  change W p l e rmX5_valueAt s m ([.ref (ad 0), .int p1] : List Value).toArray below meth c s.heap [] 0 0 _ _
  unfold fX5_valueAt at hf
  refine lv_iload_n hx hb dX5_valueAt_0 rfl (lv_at hl 1 rfl) ?_
  obtain ⟨r1, v2, hf⟩ := bd1_some hf
  refine gci0 (va_runSN (As := [.int p1]) (rest := []) ⟨hx, hb, hml, hown, hts⟩ (tX8_isRow l dC dI dA s.heap.size v2) (ccX5_X8_isRow hK.2 hts ⟨Nat.le_of_ble_eq_true rfl, Nat.le_of_ble_eq_true rfl⟩) (gPreS0 hK) rfl rfl hl.1 rfl (lv_room (Nat.le_of_ble_eq_true rfl)) dX5_valueAt_1 ⟨Nat.le_of_ble_eq_true rfl, Nat.le_of_ble_eq_true rfl⟩) hP hS hA (fun H locs hP hS => ?_)
  obtain ⟨j4, v6, hf⟩ := bd1_some hf
  have J5 : ∀ (H : Heap) (locs : List Loc) (ls : Array Slot), va_P (dC, dI) vwCl (wX5 dA ad c_tree_parts c_bond_terms c_penceByUps c_pence c_turned c_called c_hold c_value c_marks c_act c_rowOfKey) H → va_D A (wX5 dA ad c_tree_parts c_bond_terms c_penceByUps c_pence c_turned c_called c_hold c_value c_marks c_act c_rowOfKey) → va_S A s.heap H locs → lv_has ls 2 [] → W p l e rmX5_valueAt s m ([.ref (ad 0), .int p1] : List Value).toArray below meth c H locs 0 0 (MQ below (gQl (dC, dI) r (wX5 dA ad c_tree_parts c_bond_terms c_penceByUps c_pence c_turned c_called c_hold c_value c_marks c_act c_rowOfKey) A) ([.ref (ad 0), .int p1] : List Value).toArray s 0 0 A) (F0 m 17 ls [.long j4]) := by
    intro H locs ls hP hD hS hl
    cases hf
    exact W.lret hx hb hr (fun t ht _ => gql hP hD hS ht) hS.2.2 dX5_valueAt_17
  replace hf := v6
  clear v6
  refine lv_if_eq (tgt := 16) hx hb dX5_valueAt_4 (by decide) (fun k3 => ?_) (fun k3 => ?_)
  · replace hf := ifp k3 hf
    refine lv_lconst (v := 0) hx hb dX5_valueAt_16 rfl ?_
    cases hf
    exact J5 _ _ _ hP hD hS (lv_sub hl [] rfl)
  · replace hf := ifn k3 hf
    refine lv_aload_n hx hb dX5_valueAt_7 rfl (lv_at hl 0 rfl) ?_
    refine va_get (D := (dC, dI)) (ci := 5) (v := .ref (ad 10)) (C := RX5) (T := TX5) (N := 11) hx hb hts (fun w h => gw_mem (inX5 w h)) hown hK.1 hP 0 rfl rfl 7 (by decide) (hts _ (gw_mem wfX5_41)) (fun _ h9 => h9) rfl dX5_valueAt_8 ?_
    refine lv_iload_n hx hb dX5_valueAt_11 rfl (lv_at hl 1 rfl) ?_
    obtain ⟨h7, hf⟩ := og_some hf
    refine va_lald hx hb hK.1 hP 10 1 rfl rfl (okI_in h7) dX5_valueAt_12 ?_
    refine lv_goto (tgt := 17) hx hb dX5_valueAt_13 (by decide) ?_
    cases hf
    exact J5 _ _ _ hP hD hS (lv_sub hl [] rfl)
abbrev rmX5_holdAt : Room := { frames := 1, cells := 0, slots := 0, locals := 20 }
set_option maxHeartbeats 4000000 in
set_option maxRecDepth 100000 in
theorem tX5_holdAt (l : Launch) (dC : Nat → ClassId) (dI : Nat → Nat → Nat) (dA : Nat → ClassId) (ad : Nat → Nat) (sz : Nat) {p1 : Int32} {c_tree_parts : Nat → Int32} {c_bond_terms : Nat → Int32} {c_penceByUps : Nat → Int64} {c_pence : Nat → Int64} {c_turned : Nat → Int64} {c_called : Nat → Int64} {c_hold : Nat → Int64} {c_value : Nat → Int64} {c_marks : Nat → Int32} {c_act : Nat → Int32} {c_rowOfKey : Nat → Int32} {r : Int64} (hf : fX5_holdAt p1 c_hold = some (r)) : Met l yX5_holdAt (wq (Cond.code yX5_holdAt cX5_holdAt 2 (some .long))) rmX5_holdAt (gP [.ref (ad 0), .int p1] (dC, dI) dA (wX5 dA ad c_tree_parts c_bond_terms c_penceByUps c_pence c_turned c_called c_hold c_value c_marks c_act c_rowOfKey) sz) (gQl (dC, dI) r (wX5 dA ad c_tree_parts c_bond_terms c_penceByUps c_pence c_turned c_called c_hold c_value c_marks c_act c_rowOfKey) (va_A (wX5 dA ad c_tree_parts c_bond_terms c_penceByUps c_pence c_turned c_called c_hold c_value c_marks c_act c_rowOfKey) sz)) 0 0 (va_A (wX5 dA ad c_tree_parts c_bond_terms c_penceByUps c_pence c_turned c_called c_hold c_value c_marks c_act c_rowOfKey) sz) := by
  refine Met.ofW (cc := cX5_holdAt) (maxL := 2) (ret := (some .long)) (by decide) rfl ?_
  intro p e s m args below meth c s₁ B hml hv
  obtain ⟨rfl, hsz, hP, hK, hD0⟩ := hv
  have hx := B.exec
  have hb := B.bytes
  have hr := B.returns
  have hts := atoms_spec (ws := wq (Cond.code yX5_holdAt cX5_holdAt 2 (some .long))) B.pre
  have hown : s.vm.findClass RX5 = some m.cls := findClass_of_methodNamed B.named
  have hlocks := B.notSynchronized
  clear B
  subst hsz
  have hD := hD0.self (sz := s.heap.size)
  generalize hAe : va_A (wX5 dA ad c_tree_parts c_bond_terms c_penceByUps c_pence c_turned c_called c_hold c_value c_marks c_act c_rowOfKey) s.heap.size = A at hD ⊢
  have hA : ∀ q : Nat, s.heap.size ≤ q → A q := fun q h => by rw [← hAe]; exact Or.inr h
  clear hAe hD0
  have hS : va_S A s.heap s.heap [] := va_S.rf
  have hl := lv_entry ([.ref (ad 0), .int p1]) (n := 2) (Nat.le_of_ble_eq_true rfl)
  rw [lg_entry_eq]
  generalize (lg_sl ([.ref (ad 0), .int p1]) ++ List.replicate (2 - (lg_sl ([.ref (ad 0), .int p1])).length) Slot.unset).toArray = ls at hl ⊢
  have hl : lv_has ls 2 [(0, .ref (ad 0)), (1, .int p1)] := hl
  change W p l e rmX5_holdAt s m ([.ref (ad 0), .int p1] : List Value).toArray below meth c s.heap [] 0 0 _ _
  unfold fX5_holdAt at hf
  refine lv_iload_n hx hb dX5_holdAt_0 rfl (lv_at hl 1 rfl) ?_
  obtain ⟨r1, v2, hf⟩ := bd1_some hf
  refine gci0 (va_runSN (As := [.int p1]) (rest := []) ⟨hx, hb, hml, hown, hts⟩ (tX8_isRow l dC dI dA s.heap.size v2) (ccX5_X8_isRow hK.2 hts ⟨Nat.le_of_ble_eq_true rfl, Nat.le_of_ble_eq_true rfl⟩) (gPreS0 hK) rfl rfl hl.1 rfl (lv_room (Nat.le_of_ble_eq_true rfl)) dX5_holdAt_1 ⟨Nat.le_of_ble_eq_true rfl, Nat.le_of_ble_eq_true rfl⟩) hP hS hA (fun H locs hP hS => ?_)
  obtain ⟨j4, v6, hf⟩ := bd1_some hf
  have J5 : ∀ (H : Heap) (locs : List Loc) (ls : Array Slot), va_P (dC, dI) vwCl (wX5 dA ad c_tree_parts c_bond_terms c_penceByUps c_pence c_turned c_called c_hold c_value c_marks c_act c_rowOfKey) H → va_D A (wX5 dA ad c_tree_parts c_bond_terms c_penceByUps c_pence c_turned c_called c_hold c_value c_marks c_act c_rowOfKey) → va_S A s.heap H locs → lv_has ls 2 [] → W p l e rmX5_holdAt s m ([.ref (ad 0), .int p1] : List Value).toArray below meth c H locs 0 0 (MQ below (gQl (dC, dI) r (wX5 dA ad c_tree_parts c_bond_terms c_penceByUps c_pence c_turned c_called c_hold c_value c_marks c_act c_rowOfKey) A) ([.ref (ad 0), .int p1] : List Value).toArray s 0 0 A) (F0 m 19 ls [.long j4]) := by
    intro H locs ls hP hD hS hl
    cases hf
    exact W.lret hx hb hr (fun t ht _ => gql hP hD hS ht) hS.2.2 dX5_holdAt_19
  replace hf := v6
  clear v6
  refine lv_if_eq (tgt := 16) hx hb dX5_holdAt_4 (by decide) (fun k3 => ?_) (fun k3 => ?_)
  · replace hf := ifp k3 hf
    refine lv_ldc2 (v := (-2)) hx hb hown (hts _ (gw_mem wkX5_75)) dX5_holdAt_16 ?_
    cases hf
    exact J5 _ _ _ hP hD hS (lv_sub hl [] rfl)
  · replace hf := ifn k3 hf
    refine lv_aload_n hx hb dX5_holdAt_7 rfl (lv_at hl 0 rfl) ?_
    refine va_get (D := (dC, dI)) (ci := 5) (v := .ref (ad 9)) (C := RX5) (T := TX5) (N := 11) hx hb hts (fun w h => gw_mem (inX5 w h)) hown hK.1 hP 0 rfl rfl 6 (by decide) (hts _ (gw_mem wfX5_38)) (fun _ h9 => h9) rfl dX5_holdAt_8 ?_
    refine lv_iload_n hx hb dX5_holdAt_11 rfl (lv_at hl 1 rfl) ?_
    obtain ⟨h7, hf⟩ := og_some hf
    refine va_lald hx hb hK.1 hP 9 1 rfl rfl (okI_in h7) dX5_holdAt_12 ?_
    refine lv_goto (tgt := 19) hx hb dX5_holdAt_13 (by decide) ?_
    cases hf
    exact J5 _ _ _ hP hD hS (lv_sub hl [] rfl)
abbrev rmX5_turnedAt : Room := { frames := 1, cells := 0, slots := 0, locals := 20 }
set_option maxHeartbeats 4000000 in
set_option maxRecDepth 100000 in
theorem tX5_turnedAt (l : Launch) (dC : Nat → ClassId) (dI : Nat → Nat → Nat) (dA : Nat → ClassId) (ad : Nat → Nat) (sz : Nat) {p1 : Int32} {c_tree_parts : Nat → Int32} {c_bond_terms : Nat → Int32} {c_penceByUps : Nat → Int64} {c_pence : Nat → Int64} {c_turned : Nat → Int64} {c_called : Nat → Int64} {c_hold : Nat → Int64} {c_value : Nat → Int64} {c_marks : Nat → Int32} {c_act : Nat → Int32} {c_rowOfKey : Nat → Int32} {r : Int64} (hf : fX5_turnedAt p1 c_turned = some (r)) : Met l yX5_turnedAt (wq (Cond.code yX5_turnedAt cX5_turnedAt 2 (some .long))) rmX5_turnedAt (gP [.ref (ad 0), .int p1] (dC, dI) dA (wX5 dA ad c_tree_parts c_bond_terms c_penceByUps c_pence c_turned c_called c_hold c_value c_marks c_act c_rowOfKey) sz) (gQl (dC, dI) r (wX5 dA ad c_tree_parts c_bond_terms c_penceByUps c_pence c_turned c_called c_hold c_value c_marks c_act c_rowOfKey) (va_A (wX5 dA ad c_tree_parts c_bond_terms c_penceByUps c_pence c_turned c_called c_hold c_value c_marks c_act c_rowOfKey) sz)) 0 0 (va_A (wX5 dA ad c_tree_parts c_bond_terms c_penceByUps c_pence c_turned c_called c_hold c_value c_marks c_act c_rowOfKey) sz) := by
  refine Met.ofW (cc := cX5_turnedAt) (maxL := 2) (ret := (some .long)) (by decide) rfl ?_
  intro p e s m args below meth c s₁ B hml hv
  obtain ⟨rfl, hsz, hP, hK, hD0⟩ := hv
  have hx := B.exec
  have hb := B.bytes
  have hr := B.returns
  have hts := atoms_spec (ws := wq (Cond.code yX5_turnedAt cX5_turnedAt 2 (some .long))) B.pre
  have hown : s.vm.findClass RX5 = some m.cls := findClass_of_methodNamed B.named
  have hlocks := B.notSynchronized
  clear B
  subst hsz
  have hD := hD0.self (sz := s.heap.size)
  generalize hAe : va_A (wX5 dA ad c_tree_parts c_bond_terms c_penceByUps c_pence c_turned c_called c_hold c_value c_marks c_act c_rowOfKey) s.heap.size = A at hD ⊢
  have hA : ∀ q : Nat, s.heap.size ≤ q → A q := fun q h => by rw [← hAe]; exact Or.inr h
  clear hAe hD0
  have hS : va_S A s.heap s.heap [] := va_S.rf
  have hl := lv_entry ([.ref (ad 0), .int p1]) (n := 2) (Nat.le_of_ble_eq_true rfl)
  rw [lg_entry_eq]
  generalize (lg_sl ([.ref (ad 0), .int p1]) ++ List.replicate (2 - (lg_sl ([.ref (ad 0), .int p1])).length) Slot.unset).toArray = ls at hl ⊢
  have hl : lv_has ls 2 [(0, .ref (ad 0)), (1, .int p1)] := hl
  change W p l e rmX5_turnedAt s m ([.ref (ad 0), .int p1] : List Value).toArray below meth c s.heap [] 0 0 _ _
  unfold fX5_turnedAt at hf
  refine lv_iload_n hx hb dX5_turnedAt_0 rfl (lv_at hl 1 rfl) ?_
  obtain ⟨r1, v2, hf⟩ := bd1_some hf
  refine gci0 (va_runSN (As := [.int p1]) (rest := []) ⟨hx, hb, hml, hown, hts⟩ (tX8_isRow l dC dI dA s.heap.size v2) (ccX5_X8_isRow hK.2 hts ⟨Nat.le_of_ble_eq_true rfl, Nat.le_of_ble_eq_true rfl⟩) (gPreS0 hK) rfl rfl hl.1 rfl (lv_room (Nat.le_of_ble_eq_true rfl)) dX5_turnedAt_1 ⟨Nat.le_of_ble_eq_true rfl, Nat.le_of_ble_eq_true rfl⟩) hP hS hA (fun H locs hP hS => ?_)
  obtain ⟨j4, v6, hf⟩ := bd1_some hf
  have J5 : ∀ (H : Heap) (locs : List Loc) (ls : Array Slot), va_P (dC, dI) vwCl (wX5 dA ad c_tree_parts c_bond_terms c_penceByUps c_pence c_turned c_called c_hold c_value c_marks c_act c_rowOfKey) H → va_D A (wX5 dA ad c_tree_parts c_bond_terms c_penceByUps c_pence c_turned c_called c_hold c_value c_marks c_act c_rowOfKey) → va_S A s.heap H locs → lv_has ls 2 [] → W p l e rmX5_turnedAt s m ([.ref (ad 0), .int p1] : List Value).toArray below meth c H locs 0 0 (MQ below (gQl (dC, dI) r (wX5 dA ad c_tree_parts c_bond_terms c_penceByUps c_pence c_turned c_called c_hold c_value c_marks c_act c_rowOfKey) A) ([.ref (ad 0), .int p1] : List Value).toArray s 0 0 A) (F0 m 19 ls [.long j4]) := by
    intro H locs ls hP hD hS hl
    cases hf
    exact W.lret hx hb hr (fun t ht _ => gql hP hD hS ht) hS.2.2 dX5_turnedAt_19
  replace hf := v6
  clear v6
  refine lv_if_eq (tgt := 16) hx hb dX5_turnedAt_4 (by decide) (fun k3 => ?_) (fun k3 => ?_)
  · replace hf := ifp k3 hf
    refine lv_ldc2 (v := (-2)) hx hb hown (hts _ (gw_mem wkX5_75)) dX5_turnedAt_16 ?_
    cases hf
    exact J5 _ _ _ hP hD hS (lv_sub hl [] rfl)
  · replace hf := ifn k3 hf
    refine lv_aload_n hx hb dX5_turnedAt_7 rfl (lv_at hl 0 rfl) ?_
    refine va_get (D := (dC, dI)) (ci := 5) (v := .ref (ad 7)) (C := RX5) (T := TX5) (N := 11) hx hb hts (fun w h => gw_mem (inX5 w h)) hown hK.1 hP 0 rfl rfl 4 (by decide) (hts _ (gw_mem wfX5_32)) (fun _ h9 => h9) rfl dX5_turnedAt_8 ?_
    refine lv_iload_n hx hb dX5_turnedAt_11 rfl (lv_at hl 1 rfl) ?_
    obtain ⟨h7, hf⟩ := og_some hf
    refine va_lald hx hb hK.1 hP 7 1 rfl rfl (okI_in h7) dX5_turnedAt_12 ?_
    refine lv_goto (tgt := 19) hx hb dX5_turnedAt_13 (by decide) ?_
    cases hf
    exact J5 _ _ _ hP hD hS (lv_sub hl [] rfl)
abbrev rmX5_calledAt : Room := { frames := 1, cells := 0, slots := 0, locals := 20 }
set_option maxHeartbeats 4000000 in
set_option maxRecDepth 100000 in
theorem tX5_calledAt (l : Launch) (dC : Nat → ClassId) (dI : Nat → Nat → Nat) (dA : Nat → ClassId) (ad : Nat → Nat) (sz : Nat) {p1 : Int32} {c_tree_parts : Nat → Int32} {c_bond_terms : Nat → Int32} {c_penceByUps : Nat → Int64} {c_pence : Nat → Int64} {c_turned : Nat → Int64} {c_called : Nat → Int64} {c_hold : Nat → Int64} {c_value : Nat → Int64} {c_marks : Nat → Int32} {c_act : Nat → Int32} {c_rowOfKey : Nat → Int32} {r : Int64} (hf : fX5_calledAt p1 c_called = some (r)) : Met l yX5_calledAt (wq (Cond.code yX5_calledAt cX5_calledAt 2 (some .long))) rmX5_calledAt (gP [.ref (ad 0), .int p1] (dC, dI) dA (wX5 dA ad c_tree_parts c_bond_terms c_penceByUps c_pence c_turned c_called c_hold c_value c_marks c_act c_rowOfKey) sz) (gQl (dC, dI) r (wX5 dA ad c_tree_parts c_bond_terms c_penceByUps c_pence c_turned c_called c_hold c_value c_marks c_act c_rowOfKey) (va_A (wX5 dA ad c_tree_parts c_bond_terms c_penceByUps c_pence c_turned c_called c_hold c_value c_marks c_act c_rowOfKey) sz)) 0 0 (va_A (wX5 dA ad c_tree_parts c_bond_terms c_penceByUps c_pence c_turned c_called c_hold c_value c_marks c_act c_rowOfKey) sz) := by
  refine Met.ofW (cc := cX5_calledAt) (maxL := 2) (ret := (some .long)) (by decide) rfl ?_
  intro p e s m args below meth c s₁ B hml hv
  obtain ⟨rfl, hsz, hP, hK, hD0⟩ := hv
  have hx := B.exec
  have hb := B.bytes
  have hr := B.returns
  have hts := atoms_spec (ws := wq (Cond.code yX5_calledAt cX5_calledAt 2 (some .long))) B.pre
  have hown : s.vm.findClass RX5 = some m.cls := findClass_of_methodNamed B.named
  have hlocks := B.notSynchronized
  clear B
  subst hsz
  have hD := hD0.self (sz := s.heap.size)
  generalize hAe : va_A (wX5 dA ad c_tree_parts c_bond_terms c_penceByUps c_pence c_turned c_called c_hold c_value c_marks c_act c_rowOfKey) s.heap.size = A at hD ⊢
  have hA : ∀ q : Nat, s.heap.size ≤ q → A q := fun q h => by rw [← hAe]; exact Or.inr h
  clear hAe hD0
  have hS : va_S A s.heap s.heap [] := va_S.rf
  have hl := lv_entry ([.ref (ad 0), .int p1]) (n := 2) (Nat.le_of_ble_eq_true rfl)
  rw [lg_entry_eq]
  generalize (lg_sl ([.ref (ad 0), .int p1]) ++ List.replicate (2 - (lg_sl ([.ref (ad 0), .int p1])).length) Slot.unset).toArray = ls at hl ⊢
  have hl : lv_has ls 2 [(0, .ref (ad 0)), (1, .int p1)] := hl
  change W p l e rmX5_calledAt s m ([.ref (ad 0), .int p1] : List Value).toArray below meth c s.heap [] 0 0 _ _
  unfold fX5_calledAt at hf
  refine lv_iload_n hx hb dX5_calledAt_0 rfl (lv_at hl 1 rfl) ?_
  obtain ⟨r1, v2, hf⟩ := bd1_some hf
  refine gci0 (va_runSN (As := [.int p1]) (rest := []) ⟨hx, hb, hml, hown, hts⟩ (tX8_isRow l dC dI dA s.heap.size v2) (ccX5_X8_isRow hK.2 hts ⟨Nat.le_of_ble_eq_true rfl, Nat.le_of_ble_eq_true rfl⟩) (gPreS0 hK) rfl rfl hl.1 rfl (lv_room (Nat.le_of_ble_eq_true rfl)) dX5_calledAt_1 ⟨Nat.le_of_ble_eq_true rfl, Nat.le_of_ble_eq_true rfl⟩) hP hS hA (fun H locs hP hS => ?_)
  obtain ⟨j4, v6, hf⟩ := bd1_some hf
  have J5 : ∀ (H : Heap) (locs : List Loc) (ls : Array Slot), va_P (dC, dI) vwCl (wX5 dA ad c_tree_parts c_bond_terms c_penceByUps c_pence c_turned c_called c_hold c_value c_marks c_act c_rowOfKey) H → va_D A (wX5 dA ad c_tree_parts c_bond_terms c_penceByUps c_pence c_turned c_called c_hold c_value c_marks c_act c_rowOfKey) → va_S A s.heap H locs → lv_has ls 2 [] → W p l e rmX5_calledAt s m ([.ref (ad 0), .int p1] : List Value).toArray below meth c H locs 0 0 (MQ below (gQl (dC, dI) r (wX5 dA ad c_tree_parts c_bond_terms c_penceByUps c_pence c_turned c_called c_hold c_value c_marks c_act c_rowOfKey) A) ([.ref (ad 0), .int p1] : List Value).toArray s 0 0 A) (F0 m 19 ls [.long j4]) := by
    intro H locs ls hP hD hS hl
    cases hf
    exact W.lret hx hb hr (fun t ht _ => gql hP hD hS ht) hS.2.2 dX5_calledAt_19
  replace hf := v6
  clear v6
  refine lv_if_eq (tgt := 16) hx hb dX5_calledAt_4 (by decide) (fun k3 => ?_) (fun k3 => ?_)
  · replace hf := ifp k3 hf
    refine lv_ldc2 (v := (-2)) hx hb hown (hts _ (gw_mem wkX5_75)) dX5_calledAt_16 ?_
    cases hf
    exact J5 _ _ _ hP hD hS (lv_sub hl [] rfl)
  · replace hf := ifn k3 hf
    refine lv_aload_n hx hb dX5_calledAt_7 rfl (lv_at hl 0 rfl) ?_
    refine va_get (D := (dC, dI)) (ci := 5) (v := .ref (ad 8)) (C := RX5) (T := TX5) (N := 11) hx hb hts (fun w h => gw_mem (inX5 w h)) hown hK.1 hP 0 rfl rfl 5 (by decide) (hts _ (gw_mem wfX5_35)) (fun _ h9 => h9) rfl dX5_calledAt_8 ?_
    refine lv_iload_n hx hb dX5_calledAt_11 rfl (lv_at hl 1 rfl) ?_
    obtain ⟨h7, hf⟩ := og_some hf
    refine va_lald hx hb hK.1 hP 8 1 rfl rfl (okI_in h7) dX5_calledAt_12 ?_
    refine lv_goto (tgt := 19) hx hb dX5_calledAt_13 (by decide) ?_
    cases hf
    exact J5 _ _ _ hP hD hS (lv_sub hl [] rfl)
abbrev rmX5_penceAt : Room := { frames := 1, cells := 0, slots := 0, locals := 20 }
set_option maxHeartbeats 4000000 in
set_option maxRecDepth 100000 in
theorem tX5_penceAt (l : Launch) (dC : Nat → ClassId) (dI : Nat → Nat → Nat) (dA : Nat → ClassId) (ad : Nat → Nat) (sz : Nat) {p1 : Int32} {c_tree_parts : Nat → Int32} {c_bond_terms : Nat → Int32} {c_penceByUps : Nat → Int64} {c_pence : Nat → Int64} {c_turned : Nat → Int64} {c_called : Nat → Int64} {c_hold : Nat → Int64} {c_value : Nat → Int64} {c_marks : Nat → Int32} {c_act : Nat → Int32} {c_rowOfKey : Nat → Int32} {r : Int64} (hf : fX5_penceAt p1 c_pence = some (r)) : Met l yX5_penceAt (wq (Cond.code yX5_penceAt cX5_penceAt 2 (some .long))) rmX5_penceAt (gP [.ref (ad 0), .int p1] (dC, dI) dA (wX5 dA ad c_tree_parts c_bond_terms c_penceByUps c_pence c_turned c_called c_hold c_value c_marks c_act c_rowOfKey) sz) (gQl (dC, dI) r (wX5 dA ad c_tree_parts c_bond_terms c_penceByUps c_pence c_turned c_called c_hold c_value c_marks c_act c_rowOfKey) (va_A (wX5 dA ad c_tree_parts c_bond_terms c_penceByUps c_pence c_turned c_called c_hold c_value c_marks c_act c_rowOfKey) sz)) 0 0 (va_A (wX5 dA ad c_tree_parts c_bond_terms c_penceByUps c_pence c_turned c_called c_hold c_value c_marks c_act c_rowOfKey) sz) := by
  refine Met.ofW (cc := cX5_penceAt) (maxL := 2) (ret := (some .long)) (by decide) rfl ?_
  intro p e s m args below meth c s₁ B hml hv
  obtain ⟨rfl, hsz, hP, hK, hD0⟩ := hv
  have hx := B.exec
  have hb := B.bytes
  have hr := B.returns
  have hts := atoms_spec (ws := wq (Cond.code yX5_penceAt cX5_penceAt 2 (some .long))) B.pre
  have hown : s.vm.findClass RX5 = some m.cls := findClass_of_methodNamed B.named
  have hlocks := B.notSynchronized
  clear B
  subst hsz
  have hD := hD0.self (sz := s.heap.size)
  generalize hAe : va_A (wX5 dA ad c_tree_parts c_bond_terms c_penceByUps c_pence c_turned c_called c_hold c_value c_marks c_act c_rowOfKey) s.heap.size = A at hD ⊢
  have hA : ∀ q : Nat, s.heap.size ≤ q → A q := fun q h => by rw [← hAe]; exact Or.inr h
  clear hAe hD0
  have hS : va_S A s.heap s.heap [] := va_S.rf
  have hl := lv_entry ([.ref (ad 0), .int p1]) (n := 2) (Nat.le_of_ble_eq_true rfl)
  rw [lg_entry_eq]
  generalize (lg_sl ([.ref (ad 0), .int p1]) ++ List.replicate (2 - (lg_sl ([.ref (ad 0), .int p1])).length) Slot.unset).toArray = ls at hl ⊢
  have hl : lv_has ls 2 [(0, .ref (ad 0)), (1, .int p1)] := hl
  change W p l e rmX5_penceAt s m ([.ref (ad 0), .int p1] : List Value).toArray below meth c s.heap [] 0 0 _ _
  unfold fX5_penceAt at hf
  refine lv_iload_n hx hb dX5_penceAt_0 rfl (lv_at hl 1 rfl) ?_
  obtain ⟨r1, v2, hf⟩ := bd1_some hf
  refine gci0 (va_runSN (As := [.int p1]) (rest := []) ⟨hx, hb, hml, hown, hts⟩ (tX8_isRow l dC dI dA s.heap.size v2) (ccX5_X8_isRow hK.2 hts ⟨Nat.le_of_ble_eq_true rfl, Nat.le_of_ble_eq_true rfl⟩) (gPreS0 hK) rfl rfl hl.1 rfl (lv_room (Nat.le_of_ble_eq_true rfl)) dX5_penceAt_1 ⟨Nat.le_of_ble_eq_true rfl, Nat.le_of_ble_eq_true rfl⟩) hP hS hA (fun H locs hP hS => ?_)
  obtain ⟨j4, v6, hf⟩ := bd1_some hf
  have J5 : ∀ (H : Heap) (locs : List Loc) (ls : Array Slot), va_P (dC, dI) vwCl (wX5 dA ad c_tree_parts c_bond_terms c_penceByUps c_pence c_turned c_called c_hold c_value c_marks c_act c_rowOfKey) H → va_D A (wX5 dA ad c_tree_parts c_bond_terms c_penceByUps c_pence c_turned c_called c_hold c_value c_marks c_act c_rowOfKey) → va_S A s.heap H locs → lv_has ls 2 [] → W p l e rmX5_penceAt s m ([.ref (ad 0), .int p1] : List Value).toArray below meth c H locs 0 0 (MQ below (gQl (dC, dI) r (wX5 dA ad c_tree_parts c_bond_terms c_penceByUps c_pence c_turned c_called c_hold c_value c_marks c_act c_rowOfKey) A) ([.ref (ad 0), .int p1] : List Value).toArray s 0 0 A) (F0 m 17 ls [.long j4]) := by
    intro H locs ls hP hD hS hl
    cases hf
    exact W.lret hx hb hr (fun t ht _ => gql hP hD hS ht) hS.2.2 dX5_penceAt_17
  replace hf := v6
  clear v6
  refine lv_if_eq (tgt := 16) hx hb dX5_penceAt_4 (by decide) (fun k3 => ?_) (fun k3 => ?_)
  · replace hf := ifp k3 hf
    refine lv_lconst (v := 0) hx hb dX5_penceAt_16 rfl ?_
    cases hf
    exact J5 _ _ _ hP hD hS (lv_sub hl [] rfl)
  · replace hf := ifn k3 hf
    refine lv_aload_n hx hb dX5_penceAt_7 rfl (lv_at hl 0 rfl) ?_
    refine va_get (D := (dC, dI)) (ci := 5) (v := .ref (ad 6)) (C := RX5) (T := TX5) (N := 11) hx hb hts (fun w h => gw_mem (inX5 w h)) hown hK.1 hP 0 rfl rfl 3 (by decide) (hts _ (gw_mem wfX5_29)) (fun _ h9 => h9) rfl dX5_penceAt_8 ?_
    refine lv_iload_n hx hb dX5_penceAt_11 rfl (lv_at hl 1 rfl) ?_
    obtain ⟨h7, hf⟩ := og_some hf
    refine va_lald hx hb hK.1 hP 6 1 rfl rfl (okI_in h7) dX5_penceAt_12 ?_
    refine lv_goto (tgt := 17) hx hb dX5_penceAt_13 (by decide) ?_
    cases hf
    exact J5 _ _ _ hP hD hS (lv_sub hl [] rfl)
abbrev rmX5_marksAt : Room := { frames := 1, cells := 0, slots := 0, locals := 20 }
set_option maxHeartbeats 4000000 in
set_option maxRecDepth 100000 in
theorem tX5_marksAt (l : Launch) (dC : Nat → ClassId) (dI : Nat → Nat → Nat) (dA : Nat → ClassId) (ad : Nat → Nat) (sz : Nat) {p1 : Int32} {c_tree_parts : Nat → Int32} {c_bond_terms : Nat → Int32} {c_penceByUps : Nat → Int64} {c_pence : Nat → Int64} {c_turned : Nat → Int64} {c_called : Nat → Int64} {c_hold : Nat → Int64} {c_value : Nat → Int64} {c_marks : Nat → Int32} {c_act : Nat → Int32} {c_rowOfKey : Nat → Int32} {r : Int32} (hf : fX5_marksAt p1 c_marks = some (r)) : Met l yX5_marksAt (wq (Cond.code yX5_marksAt cX5_marksAt 2 (some .int))) rmX5_marksAt (gP [.ref (ad 0), .int p1] (dC, dI) dA (wX5 dA ad c_tree_parts c_bond_terms c_penceByUps c_pence c_turned c_called c_hold c_value c_marks c_act c_rowOfKey) sz) (gQi (dC, dI) r (wX5 dA ad c_tree_parts c_bond_terms c_penceByUps c_pence c_turned c_called c_hold c_value c_marks c_act c_rowOfKey) (va_A (wX5 dA ad c_tree_parts c_bond_terms c_penceByUps c_pence c_turned c_called c_hold c_value c_marks c_act c_rowOfKey) sz)) 0 0 (va_A (wX5 dA ad c_tree_parts c_bond_terms c_penceByUps c_pence c_turned c_called c_hold c_value c_marks c_act c_rowOfKey) sz) := by
  refine Met.ofW (cc := cX5_marksAt) (maxL := 2) (ret := (some .int)) (by decide) rfl ?_
  intro p e s m args below meth c s₁ B hml hv
  obtain ⟨rfl, hsz, hP, hK, hD0⟩ := hv
  have hx := B.exec
  have hb := B.bytes
  have hr := B.returns
  have hts := atoms_spec (ws := wq (Cond.code yX5_marksAt cX5_marksAt 2 (some .int))) B.pre
  have hown : s.vm.findClass RX5 = some m.cls := findClass_of_methodNamed B.named
  have hlocks := B.notSynchronized
  clear B
  subst hsz
  have hD := hD0.self (sz := s.heap.size)
  generalize hAe : va_A (wX5 dA ad c_tree_parts c_bond_terms c_penceByUps c_pence c_turned c_called c_hold c_value c_marks c_act c_rowOfKey) s.heap.size = A at hD ⊢
  have hA : ∀ q : Nat, s.heap.size ≤ q → A q := fun q h => by rw [← hAe]; exact Or.inr h
  clear hAe hD0
  have hS : va_S A s.heap s.heap [] := va_S.rf
  have hl := lv_entry ([.ref (ad 0), .int p1]) (n := 2) (Nat.le_of_ble_eq_true rfl)
  rw [lg_entry_eq]
  generalize (lg_sl ([.ref (ad 0), .int p1]) ++ List.replicate (2 - (lg_sl ([.ref (ad 0), .int p1])).length) Slot.unset).toArray = ls at hl ⊢
  have hl : lv_has ls 2 [(0, .ref (ad 0)), (1, .int p1)] := hl
  change W p l e rmX5_marksAt s m ([.ref (ad 0), .int p1] : List Value).toArray below meth c s.heap [] 0 0 _ _
  unfold fX5_marksAt at hf
  refine lv_iload_n hx hb dX5_marksAt_0 rfl (lv_at hl 1 rfl) ?_
  obtain ⟨r1, v2, hf⟩ := bd1_some hf
  refine gci0 (va_runSN (As := [.int p1]) (rest := []) ⟨hx, hb, hml, hown, hts⟩ (tX8_isRow l dC dI dA s.heap.size v2) (ccX5_X8_isRow hK.2 hts ⟨Nat.le_of_ble_eq_true rfl, Nat.le_of_ble_eq_true rfl⟩) (gPreS0 hK) rfl rfl hl.1 rfl (lv_room (Nat.le_of_ble_eq_true rfl)) dX5_marksAt_1 ⟨Nat.le_of_ble_eq_true rfl, Nat.le_of_ble_eq_true rfl⟩) hP hS hA (fun H locs hP hS => ?_)
  obtain ⟨j4, v6, hf⟩ := bd1_some hf
  have J5 : ∀ (H : Heap) (locs : List Loc) (ls : Array Slot), va_P (dC, dI) vwCl (wX5 dA ad c_tree_parts c_bond_terms c_penceByUps c_pence c_turned c_called c_hold c_value c_marks c_act c_rowOfKey) H → va_D A (wX5 dA ad c_tree_parts c_bond_terms c_penceByUps c_pence c_turned c_called c_hold c_value c_marks c_act c_rowOfKey) → va_S A s.heap H locs → lv_has ls 2 [] → W p l e rmX5_marksAt s m ([.ref (ad 0), .int p1] : List Value).toArray below meth c H locs 0 0 (MQ below (gQi (dC, dI) r (wX5 dA ad c_tree_parts c_bond_terms c_penceByUps c_pence c_turned c_called c_hold c_value c_marks c_act c_rowOfKey) A) ([.ref (ad 0), .int p1] : List Value).toArray s 0 0 A) (F0 m 17 ls [.int j4]) := by
    intro H locs ls hP hD hS hl
    cases hf
    exact W.iret hx hb hr (fun t ht _ => gqi hP hD hS ht) hS.2.2 dX5_marksAt_17
  replace hf := v6
  clear v6
  refine lv_if_eq (tgt := 16) hx hb dX5_marksAt_4 (by decide) (fun k3 => ?_) (fun k3 => ?_)
  · replace hf := ifp k3 hf
    refine lv_iconst (v := 0) hx hb dX5_marksAt_16 (by decide) ?_
    cases hf
    exact J5 _ _ _ hP hD hS (lv_sub hl [] rfl)
  · replace hf := ifn k3 hf
    refine lv_aload_n hx hb dX5_marksAt_7 rfl (lv_at hl 0 rfl) ?_
    refine va_get (D := (dC, dI)) (ci := 5) (v := .ref (ad 11)) (C := RX5) (T := TX5) (N := 11) hx hb hts (fun w h => gw_mem (inX5 w h)) hown hK.1 hP 0 rfl rfl 8 (by decide) (hts _ (gw_mem wfX5_44)) (fun _ h9 => h9) rfl dX5_marksAt_8 ?_
    refine lv_iload_n hx hb dX5_marksAt_11 rfl (lv_at hl 1 rfl) ?_
    obtain ⟨h7, hf⟩ := og_some hf
    refine va_iald hx hb hK.1 hP 11 0 rfl rfl (okI_in h7) dX5_marksAt_12 ?_
    refine lv_goto (tgt := 17) hx hb dX5_marksAt_13 (by decide) ?_
    cases hf
    exact J5 _ _ _ hP hD hS (lv_sub hl [] rfl)
abbrev rmX5_actAt : Room := { frames := 1, cells := 0, slots := 0, locals := 20 }
set_option maxHeartbeats 4000000 in
set_option maxRecDepth 100000 in
theorem tX5_actAt (l : Launch) (dC : Nat → ClassId) (dI : Nat → Nat → Nat) (dA : Nat → ClassId) (ad : Nat → Nat) (sz : Nat) {p1 : Int32} {c_tree_parts : Nat → Int32} {c_bond_terms : Nat → Int32} {c_penceByUps : Nat → Int64} {c_pence : Nat → Int64} {c_turned : Nat → Int64} {c_called : Nat → Int64} {c_hold : Nat → Int64} {c_value : Nat → Int64} {c_marks : Nat → Int32} {c_act : Nat → Int32} {c_rowOfKey : Nat → Int32} {r : Int32} (hf : fX5_actAt p1 c_act = some (r)) : Met l yX5_actAt (wq (Cond.code yX5_actAt cX5_actAt 2 (some .int))) rmX5_actAt (gP [.ref (ad 0), .int p1] (dC, dI) dA (wX5 dA ad c_tree_parts c_bond_terms c_penceByUps c_pence c_turned c_called c_hold c_value c_marks c_act c_rowOfKey) sz) (gQi (dC, dI) r (wX5 dA ad c_tree_parts c_bond_terms c_penceByUps c_pence c_turned c_called c_hold c_value c_marks c_act c_rowOfKey) (va_A (wX5 dA ad c_tree_parts c_bond_terms c_penceByUps c_pence c_turned c_called c_hold c_value c_marks c_act c_rowOfKey) sz)) 0 0 (va_A (wX5 dA ad c_tree_parts c_bond_terms c_penceByUps c_pence c_turned c_called c_hold c_value c_marks c_act c_rowOfKey) sz) := by
  refine Met.ofW (cc := cX5_actAt) (maxL := 2) (ret := (some .int)) (by decide) rfl ?_
  intro p e s m args below meth c s₁ B hml hv
  obtain ⟨rfl, hsz, hP, hK, hD0⟩ := hv
  have hx := B.exec
  have hb := B.bytes
  have hr := B.returns
  have hts := atoms_spec (ws := wq (Cond.code yX5_actAt cX5_actAt 2 (some .int))) B.pre
  have hown : s.vm.findClass RX5 = some m.cls := findClass_of_methodNamed B.named
  have hlocks := B.notSynchronized
  clear B
  subst hsz
  have hD := hD0.self (sz := s.heap.size)
  generalize hAe : va_A (wX5 dA ad c_tree_parts c_bond_terms c_penceByUps c_pence c_turned c_called c_hold c_value c_marks c_act c_rowOfKey) s.heap.size = A at hD ⊢
  have hA : ∀ q : Nat, s.heap.size ≤ q → A q := fun q h => by rw [← hAe]; exact Or.inr h
  clear hAe hD0
  have hS : va_S A s.heap s.heap [] := va_S.rf
  have hl := lv_entry ([.ref (ad 0), .int p1]) (n := 2) (Nat.le_of_ble_eq_true rfl)
  rw [lg_entry_eq]
  generalize (lg_sl ([.ref (ad 0), .int p1]) ++ List.replicate (2 - (lg_sl ([.ref (ad 0), .int p1])).length) Slot.unset).toArray = ls at hl ⊢
  have hl : lv_has ls 2 [(0, .ref (ad 0)), (1, .int p1)] := hl
  change W p l e rmX5_actAt s m ([.ref (ad 0), .int p1] : List Value).toArray below meth c s.heap [] 0 0 _ _
  unfold fX5_actAt at hf
  refine lv_iload_n hx hb dX5_actAt_0 rfl (lv_at hl 1 rfl) ?_
  obtain ⟨r1, v2, hf⟩ := bd1_some hf
  refine gci0 (va_runSN (As := [.int p1]) (rest := []) ⟨hx, hb, hml, hown, hts⟩ (tX8_isRow l dC dI dA s.heap.size v2) (ccX5_X8_isRow hK.2 hts ⟨Nat.le_of_ble_eq_true rfl, Nat.le_of_ble_eq_true rfl⟩) (gPreS0 hK) rfl rfl hl.1 rfl (lv_room (Nat.le_of_ble_eq_true rfl)) dX5_actAt_1 ⟨Nat.le_of_ble_eq_true rfl, Nat.le_of_ble_eq_true rfl⟩) hP hS hA (fun H locs hP hS => ?_)
  obtain ⟨j4, v6, hf⟩ := bd1_some hf
  have J5 : ∀ (H : Heap) (locs : List Loc) (ls : Array Slot), va_P (dC, dI) vwCl (wX5 dA ad c_tree_parts c_bond_terms c_penceByUps c_pence c_turned c_called c_hold c_value c_marks c_act c_rowOfKey) H → va_D A (wX5 dA ad c_tree_parts c_bond_terms c_penceByUps c_pence c_turned c_called c_hold c_value c_marks c_act c_rowOfKey) → va_S A s.heap H locs → lv_has ls 2 [] → W p l e rmX5_actAt s m ([.ref (ad 0), .int p1] : List Value).toArray below meth c H locs 0 0 (MQ below (gQi (dC, dI) r (wX5 dA ad c_tree_parts c_bond_terms c_penceByUps c_pence c_turned c_called c_hold c_value c_marks c_act c_rowOfKey) A) ([.ref (ad 0), .int p1] : List Value).toArray s 0 0 A) (F0 m 17 ls [.int j4]) := by
    intro H locs ls hP hD hS hl
    cases hf
    exact W.iret hx hb hr (fun t ht _ => gqi hP hD hS ht) hS.2.2 dX5_actAt_17
  replace hf := v6
  clear v6
  refine lv_if_eq (tgt := 16) hx hb dX5_actAt_4 (by decide) (fun k3 => ?_) (fun k3 => ?_)
  · replace hf := ifp k3 hf
    refine lv_iconst (v := 0) hx hb dX5_actAt_16 (by decide) ?_
    cases hf
    exact J5 _ _ _ hP hD hS (lv_sub hl [] rfl)
  · replace hf := ifn k3 hf
    refine lv_aload_n hx hb dX5_actAt_7 rfl (lv_at hl 0 rfl) ?_
    refine va_get (D := (dC, dI)) (ci := 5) (v := .ref (ad 12)) (C := RX5) (T := TX5) (N := 11) hx hb hts (fun w h => gw_mem (inX5 w h)) hown hK.1 hP 0 rfl rfl 9 (by decide) (hts _ (gw_mem wfX5_48)) (fun _ h9 => h9) rfl dX5_actAt_8 ?_
    refine lv_iload_n hx hb dX5_actAt_11 rfl (lv_at hl 1 rfl) ?_
    obtain ⟨h7, hf⟩ := og_some hf
    refine va_iald hx hb hK.1 hP 12 0 rfl rfl (okI_in h7) dX5_actAt_12 ?_
    refine lv_goto (tgt := 17) hx hb dX5_actAt_13 (by decide) ?_
    cases hf
    exact J5 _ _ _ hP hD hS (lv_sub hl [] rfl)
theorem ccX5_X0_callOn {R : Room} {s : State} {args : Array Value} {c0 : Cond} (ht : ∀ w ∈ wq c0, w.before args s = true) (hR : rmX0_callOn.frames + 1 ≤ R.frames ∧ 8 + (2 + 11) + rmX0_callOn.locals ≤ R.locals) : CallW R s args RX5 RX0 125 yX0_callOn cX0_callOn 2 (some .int) (wq (.code yX0_callOn cX0_callOn 2 (some .int))) rmX0_callOn 0 0 1 := gCW 1 ht wcX0_callOn wmX5_125 wiX0_callOn weX0_callOn wnX0 (by decide +kernel) rfl rfl hR
theorem ccX5_X5_turnedAt {R : Room} {s : State} {args : Array Value} {c0 : Cond} (ht : ∀ w ∈ wq c0, w.before args s = true) (hR : rmX5_turnedAt.frames + 1 ≤ R.frames ∧ 8 + (2 + 11) + rmX5_turnedAt.locals ≤ R.locals) : CallW R s args RX5 RX5 140 yX5_turnedAt cX5_turnedAt 2 (some .long) (wq (.code yX5_turnedAt cX5_turnedAt 2 (some .long))) rmX5_turnedAt 0 0 1 := gCW 1 ht wcX5_turnedAt wmX5_140 wiX5_turnedAt weX5_turnedAt wnX5 (by decide +kernel) rfl rfl hR
abbrev rmX5_actOfCall : Room := { frames := 2, cells := 0, slots := 0, locals := 43 }
set_option maxHeartbeats 4000000 in
set_option maxRecDepth 100000 in
theorem tX5_actOfCall (l : Launch) (dC : Nat → ClassId) (dI : Nat → Nat → Nat) (dA : Nat → ClassId) (ad : Nat → Nat) (sz : Nat) {p1 : Int32} {p2 : Int32} {c_tree_parts : Nat → Int32} {c_bond_terms : Nat → Int32} {c_penceByUps : Nat → Int64} {c_pence : Nat → Int64} {c_turned : Nat → Int64} {c_called : Nat → Int64} {c_hold : Nat → Int64} {c_value : Nat → Int64} {c_marks : Nat → Int32} {c_act : Nat → Int32} {c_rowOfKey : Nat → Int32} {r : Int32} (hf : fX5_actOfCall p1 p2 c_bond_terms c_turned = some (r)) : Met l yX5_actOfCall (wq (Cond.code yX5_actOfCall cX5_actOfCall 3 (some .int))) rmX5_actOfCall (gP [.ref (ad 0), .int p1, .int p2] (dC, dI) dA (wX5 dA ad c_tree_parts c_bond_terms c_penceByUps c_pence c_turned c_called c_hold c_value c_marks c_act c_rowOfKey) sz) (gQi (dC, dI) r (wX5 dA ad c_tree_parts c_bond_terms c_penceByUps c_pence c_turned c_called c_hold c_value c_marks c_act c_rowOfKey) (va_A (wX5 dA ad c_tree_parts c_bond_terms c_penceByUps c_pence c_turned c_called c_hold c_value c_marks c_act c_rowOfKey) sz)) 0 0 (va_A (wX5 dA ad c_tree_parts c_bond_terms c_penceByUps c_pence c_turned c_called c_hold c_value c_marks c_act c_rowOfKey) sz) := by
  refine Met.ofW (cc := cX5_actOfCall) (maxL := 3) (ret := (some .int)) (by decide) rfl ?_
  intro p e s m args below meth c s₁ B hml hv
  obtain ⟨rfl, hsz, hP, hK, hD0⟩ := hv
  have hx := B.exec
  have hb := B.bytes
  have hr := B.returns
  have hts := atoms_spec (ws := wq (Cond.code yX5_actOfCall cX5_actOfCall 3 (some .int))) B.pre
  have hown : s.vm.findClass RX5 = some m.cls := findClass_of_methodNamed B.named
  have hlocks := B.notSynchronized
  clear B
  subst hsz
  have hD := hD0.self (sz := s.heap.size)
  generalize hAe : va_A (wX5 dA ad c_tree_parts c_bond_terms c_penceByUps c_pence c_turned c_called c_hold c_value c_marks c_act c_rowOfKey) s.heap.size = A at hD ⊢
  have hA : ∀ q : Nat, s.heap.size ≤ q → A q := fun q h => by rw [← hAe]; exact Or.inr h
  clear hAe hD0
  have hS : va_S A s.heap s.heap [] := va_S.rf
  have hl := lv_entry ([.ref (ad 0), .int p1, .int p2]) (n := 3) (Nat.le_of_ble_eq_true rfl)
  rw [lg_entry_eq]
  generalize (lg_sl ([.ref (ad 0), .int p1, .int p2]) ++ List.replicate (3 - (lg_sl ([.ref (ad 0), .int p1, .int p2])).length) Slot.unset).toArray = ls at hl ⊢
  have hl : lv_has ls 3 [(0, .ref (ad 0)), (1, .int p1), (2, .int p2)] := hl
  change W p l e rmX5_actOfCall s m ([.ref (ad 0), .int p1, .int p2] : List Value).toArray below meth c s.heap [] 0 0 _ _
  unfold fX5_actOfCall at hf
  refine lv_aload_n hx hb dX5_actOfCall_0 rfl (lv_at hl 0 rfl) ?_
  refine lv_iload_n hx hb dX5_actOfCall_1 rfl (lv_at hl 1 rfl) ?_
  obtain ⟨r1, v2, hf⟩ := bd1_some hf
  refine gcl (va_runV (As := [.int p1]) (rest := []) ⟨hx, hb, hml, hown, hts⟩ (tX5_turnedAt l dC dI dA ad s.heap.size v2) (ccX5_X5_turnedAt hts ⟨Nat.le_of_ble_eq_true rfl, Nat.le_of_ble_eq_true rfl⟩) (gPreV (ci := 5) (q0 := 0) hP hK hD rfl rfl) rfl rfl hl.1 rfl (lv_room (Nat.le_of_ble_eq_true rfl)) dX5_actOfCall_2 ⟨Nat.le_of_ble_eq_true rfl, Nat.le_of_ble_eq_true rfl⟩) hD hS hA (fun H locs hP hD hS => ?_)
  refine lv_aload_n hx hb dX5_actOfCall_5 rfl (lv_at hl 0 rfl) ?_
  refine va_get (D := (dC, dI)) (ci := 5) (v := .ref (ad 3)) (C := RX5) (T := TX5) (N := 11) hx hb hts (fun w h => gw_mem (inX5 w h)) hown hK.1 hP 0 rfl rfl 1 (by decide) (hts _ (gw_mem wfX5_21)) (fun _ h9 => h9) rfl dX5_actOfCall_6 ?_
  refine lv_iload_n hx hb dX5_actOfCall_9 rfl (lv_at hl 2 rfl) ?_
  obtain ⟨r3, v4, hf⟩ := bd1_some hf
  have z5 := sg1 (ws := (wX5 dA ad c_tree_parts c_bond_terms c_penceByUps c_pence c_turned c_called c_hold c_value c_marks c_act c_rowOfKey)) (s0 := ((wX5 dA ad c_tree_parts c_bond_terms c_penceByUps c_pence c_turned c_called c_hold c_value c_marks c_act c_rowOfKey)).take 3) (s1 := ((wX5 dA ad c_tree_parts c_bond_terms c_penceByUps c_pence c_turned c_called c_hold c_value c_marks c_act c_rowOfKey)).drop 5) (x1 := (wX0 dA (fun i => ad (i + 3)) c_bond_terms)) rfl
  refine gpi (wf := (wX5 dA ad c_tree_parts c_bond_terms c_penceByUps c_pence c_turned c_called c_hold c_value c_marks c_act c_rowOfKey)) (va_runV (As := [.int p2]) (rest := [.long r1]) ⟨hx, hb, hml, hown, hts⟩ (tX0_callOn l dC dI dA (fun i => ad (i + 3)) H.size v4) (ccX5_X0_callOn hts ⟨Nat.le_of_ble_eq_true rfl, Nat.le_of_ble_eq_true rfl⟩) (gPreV (ci := 1) (q0 := 0) (psub z5 hP) hK (psubD z5 hD) rfl rfl) rfl rfl hl.1 rfl (lv_room (Nat.le_of_ble_eq_true rfl)) dX5_actOfCall_10 ⟨Nat.le_of_ble_eq_true rfl, Nat.le_of_ble_eq_true rfl⟩) hP hD hS hA z5 (sg1 (s0 := ((wX5 dA ad c_tree_parts c_bond_terms c_penceByUps c_pence c_turned c_called c_hold c_value c_marks c_act c_rowOfKey)).take 3) (s1 := ((wX5 dA ad c_tree_parts c_bond_terms c_penceByUps c_pence c_turned c_called c_hold c_value c_marks c_act c_rowOfKey)).drop 5) (x1 := (wX0 dA (fun i => ad (i + 3)) c_bond_terms)) rfl) (fun H locs hP hD hS => ?_)
  refine lv_i2l hx hb dX5_actOfCall_13 rfl ?_
  refine W.lcmp hx hb dX5_actOfCall_14 ?_
  obtain ⟨j7, v9, hf⟩ := bd1_some hf
  have J8 : ∀ (H : Heap) (locs : List Loc) (ls : Array Slot), va_P (dC, dI) vwCl (wX5 dA ad c_tree_parts c_bond_terms c_penceByUps c_pence c_turned c_called c_hold c_value c_marks c_act c_rowOfKey) H → va_D A (wX5 dA ad c_tree_parts c_bond_terms c_penceByUps c_pence c_turned c_called c_hold c_value c_marks c_act c_rowOfKey) → va_S A s.heap H locs → lv_has ls 3 [] → W p l e rmX5_actOfCall s m ([.ref (ad 0), .int p1, .int p2] : List Value).toArray below meth c H locs 0 0 (MQ below (gQi (dC, dI) r (wX5 dA ad c_tree_parts c_bond_terms c_penceByUps c_pence c_turned c_called c_hold c_value c_marks c_act c_rowOfKey) A) ([.ref (ad 0), .int p1, .int p2] : List Value).toArray s 0 0 A) (F0 m 23 ls [.int j7]) := by
    intro H locs ls hP hD hS hl
    cases hf
    exact W.iret hx hb hr (fun t ht _ => gqi hP hD hS ht) hS.2.2 dX5_actOfCall_23
  replace hf := v9
  clear v9
  refine lv_if_le (tgt := 22) hx hb dX5_actOfCall_15 (by decide) (fun k6 => ?_) (fun k6 => ?_)
  · replace hf := ifp (lc_le.mp k6) hf
    refine lv_iconst (v := 3) hx hb dX5_actOfCall_22 (by decide) ?_
    cases hf
    exact J8 _ _ _ hP hD hS (lv_sub hl [] rfl)
  · replace hf := ifn (fun h => k6 (lc_le.mpr h)) hf
    refine lv_iconst (v := 4) hx hb dX5_actOfCall_18 (by decide) ?_
    refine lv_goto (tgt := 23) hx hb dX5_actOfCall_19 (by decide) ?_
    cases hf
    exact J8 _ _ _ hP hD hS (lv_sub hl [] rfl)
abbrev rmX5_actWhenNotCalled : Room := { frames := 0, cells := 0, slots := 0, locals := 0 }
set_option maxHeartbeats 4000000 in
set_option maxRecDepth 100000 in
theorem tX5_actWhenNotCalled (l : Launch) (dC : Nat → ClassId) (dI : Nat → Nat → Nat) (dA : Nat → ClassId) (sz : Nat) {p0 : Int64} {p2 : Int64} {p4 : Int64} {r : Int32} (hf : fX5_actWhenNotCalled p0 p2 p4 = some (r)) : Met l yX5_actWhenNotCalled (wq (Cond.code yX5_actWhenNotCalled cX5_actWhenNotCalled 6 (some .int))) rmX5_actWhenNotCalled (gP [.long p0, .long p2, .long p4] (dC, dI) dA [] sz) (gQi (dC, dI) r [] (va_A [] sz)) 0 0 (va_A [] sz) := by
  refine Met.ofW (cc := cX5_actWhenNotCalled) (maxL := 6) (ret := (some .int)) (by decide) rfl ?_
  intro p e s m args below meth c s₁ B hml hv
  obtain ⟨rfl, hsz, hP, hK, hD0⟩ := hv
  have hx := B.exec
  have hb := B.bytes
  have hr := B.returns
  have hts := atoms_spec (ws := wq (Cond.code yX5_actWhenNotCalled cX5_actWhenNotCalled 6 (some .int))) B.pre
  have hown : s.vm.findClass RX5 = some m.cls := findClass_of_methodNamed B.named
  have hlocks := B.notSynchronized
  clear B
  subst hsz
  have hD := hD0.self (sz := s.heap.size)
  generalize hAe : va_A [] s.heap.size = A at hD ⊢
  have hA : ∀ q : Nat, s.heap.size ≤ q → A q := fun q h => by rw [← hAe]; exact Or.inr h
  clear hAe hD0
  have hS : va_S A s.heap s.heap [] := va_S.rf
  have hl := lv_entry ([.long p0, .long p2, .long p4]) (n := 6) (Nat.le_of_ble_eq_true rfl)
  rw [lg_entry_eq]
  generalize (lg_sl ([.long p0, .long p2, .long p4]) ++ List.replicate (6 - (lg_sl ([.long p0, .long p2, .long p4])).length) Slot.unset).toArray = ls at hl ⊢
  have hl : lv_has ls 6 [(0, .long p0), (2, .long p2), (4, .long p4)] := hl
  change W p l e rmX5_actWhenNotCalled s m ([.long p0, .long p2, .long p4] : List Value).toArray below meth c s.heap [] 0 0 _ _
  unfold fX5_actWhenNotCalled at hf
  refine lv_lload_n hx hb dX5_actWhenNotCalled_0 rfl (lv_at hl 1 rfl) ?_
  refine lv_lload_n hx hb dX5_actWhenNotCalled_1 rfl (lv_at hl 0 rfl) ?_
  refine W.lcmp hx hb dX5_actWhenNotCalled_2 ?_
  refine lv_if_gt (tgt := 15) hx hb dX5_actWhenNotCalled_3 (by decide) (fun k1 => ?_) (fun k1 => ?_)
  · replace hf := ifp (lc_gt.mp k1) hf
    refine lv_lload_n hx hb dX5_actWhenNotCalled_15 rfl (lv_at hl 1 rfl) ?_
    refine lv_lconst (v := 0) hx hb dX5_actWhenNotCalled_16 rfl ?_
    refine W.lcmp hx hb dX5_actWhenNotCalled_17 ?_
    obtain ⟨j3, v5, hf⟩ := bd1_some hf
    have J4 : ∀ (H : Heap) (locs : List Loc) (ls : Array Slot), va_P (dC, dI) vwCl [] H → va_D A [] → va_S A s.heap H locs → lv_has ls 6 [] → W p l e rmX5_actWhenNotCalled s m ([.long p0, .long p2, .long p4] : List Value).toArray below meth c H locs 0 0 (MQ below (gQi (dC, dI) r [] A) ([.long p0, .long p2, .long p4] : List Value).toArray s 0 0 A) (F0 m 33 ls [.int j3]) := by
      intro H locs ls hP hD hS hl
      cases hf
      exact W.iret hx hb hr (fun t ht _ => gqi hP hD hS ht) hS.2.2 dX5_actWhenNotCalled_33
    replace hf := v5
    clear v5
    refine lv_if_lt (tgt := 32) hx hb dX5_actWhenNotCalled_18 (by decide) (fun k2 => ?_) (fun k2 => ?_)
    · replace hf := ifp (lc_lt.mp k2) hf
      refine lv_iconst (v := 2) hx hb dX5_actWhenNotCalled_32 (by decide) ?_
      cases hf
      exact J4 _ _ _ hP hD hS (lv_sub hl [] rfl)
    · replace hf := ifn (fun h => k2 (lc_lt.mpr h)) hf
      refine lv_lload_n hx hb dX5_actWhenNotCalled_21 rfl (lv_at hl 1 rfl) ?_
      refine lv_lload hx hb dX5_actWhenNotCalled_22 (lv_at hl 2 rfl) ?_
      refine W.lcmp hx hb dX5_actWhenNotCalled_24 ?_
      refine lv_if_lt (tgt := 32) hx hb dX5_actWhenNotCalled_25 (by decide) (fun k6 => ?_) (fun k6 => ?_)
      · replace hf := ifp (lc_lt.mp k6) hf
        refine lv_iconst (v := 2) hx hb dX5_actWhenNotCalled_32 (by decide) ?_
        cases hf
        exact J4 _ _ _ hP hD hS (lv_sub hl [] rfl)
      · replace hf := ifn (fun h => k6 (lc_lt.mpr h)) hf
        refine lv_iconst (v := 1) hx hb dX5_actWhenNotCalled_28 (by decide) ?_
        refine lv_goto (tgt := 33) hx hb dX5_actWhenNotCalled_29 (by decide) ?_
        cases hf
        exact J4 _ _ _ hP hD hS (lv_sub hl [] rfl)
  · replace hf := ifn (fun h => k1 (lc_gt.mpr h)) hf
    refine lv_lload hx hb dX5_actWhenNotCalled_6 (lv_at hl 2 rfl) ?_
    refine lv_lload_n hx hb dX5_actWhenNotCalled_8 rfl (lv_at hl 0 rfl) ?_
    refine W.lcmp hx hb dX5_actWhenNotCalled_9 ?_
    refine lv_if_gt (tgt := 15) hx hb dX5_actWhenNotCalled_10 (by decide) (fun k7 => ?_) (fun k7 => ?_)
    · replace hf := ifp (lc_gt.mp k7) hf
      refine lv_lload_n hx hb dX5_actWhenNotCalled_15 rfl (lv_at hl 1 rfl) ?_
      refine lv_lconst (v := 0) hx hb dX5_actWhenNotCalled_16 rfl ?_
      refine W.lcmp hx hb dX5_actWhenNotCalled_17 ?_
      obtain ⟨j9, v11, hf⟩ := bd1_some hf
      have J10 : ∀ (H : Heap) (locs : List Loc) (ls : Array Slot), va_P (dC, dI) vwCl [] H → va_D A [] → va_S A s.heap H locs → lv_has ls 6 [] → W p l e rmX5_actWhenNotCalled s m ([.long p0, .long p2, .long p4] : List Value).toArray below meth c H locs 0 0 (MQ below (gQi (dC, dI) r [] A) ([.long p0, .long p2, .long p4] : List Value).toArray s 0 0 A) (F0 m 33 ls [.int j9]) := by
        intro H locs ls hP hD hS hl
        cases hf
        exact W.iret hx hb hr (fun t ht _ => gqi hP hD hS ht) hS.2.2 dX5_actWhenNotCalled_33
      replace hf := v11
      clear v11
      refine lv_if_lt (tgt := 32) hx hb dX5_actWhenNotCalled_18 (by decide) (fun k8 => ?_) (fun k8 => ?_)
      · replace hf := ifp (lc_lt.mp k8) hf
        refine lv_iconst (v := 2) hx hb dX5_actWhenNotCalled_32 (by decide) ?_
        cases hf
        exact J10 _ _ _ hP hD hS (lv_sub hl [] rfl)
      · replace hf := ifn (fun h => k8 (lc_lt.mpr h)) hf
        refine lv_lload_n hx hb dX5_actWhenNotCalled_21 rfl (lv_at hl 1 rfl) ?_
        refine lv_lload hx hb dX5_actWhenNotCalled_22 (lv_at hl 2 rfl) ?_
        refine W.lcmp hx hb dX5_actWhenNotCalled_24 ?_
        refine lv_if_lt (tgt := 32) hx hb dX5_actWhenNotCalled_25 (by decide) (fun k12 => ?_) (fun k12 => ?_)
        · replace hf := ifp (lc_lt.mp k12) hf
          refine lv_iconst (v := 2) hx hb dX5_actWhenNotCalled_32 (by decide) ?_
          cases hf
          exact J10 _ _ _ hP hD hS (lv_sub hl [] rfl)
        · replace hf := ifn (fun h => k12 (lc_lt.mpr h)) hf
          refine lv_iconst (v := 1) hx hb dX5_actWhenNotCalled_28 (by decide) ?_
          refine lv_goto (tgt := 33) hx hb dX5_actWhenNotCalled_29 (by decide) ?_
          cases hf
          exact J10 _ _ _ hP hD hS (lv_sub hl [] rfl)
    · replace hf := ifn (fun h => k7 (lc_gt.mpr h)) hf
      refine lv_iconst (v := 0) hx hb dX5_actWhenNotCalled_13 (by decide) ?_
      cases hf
      exact W.iret hx hb hr (fun t ht _ => gqi hP hD hS ht) hS.2.2 dX5_actWhenNotCalled_14
theorem ccX5_X8_longer {R : Room} {s : State} {args : Array Value} {c0 : Cond} (hN : gN s) (ht : ∀ w ∈ wq c0, w.before args s = true) (hR : rmX8_longer.frames + 1 ≤ R.frames ∧ 8 + (2 + 11) + rmX8_longer.locals ≤ R.locals) : va_CN R s args RX5 170 yX8_longer RX8 cX8_longer 2 (some .int) (wq (.code yX8_longer cX8_longer 2 (some .int))) rmX8_longer 0 0 2 ∧ (Cond.static yX8_longer).before args s = true ∧ True := gCSN 2 hN ht wcX8_longer wmX5_170 wtX8_longer wnX8 (by decide +kernel) rfl rfl hR
theorem ccX5_X5_valueAt {R : Room} {s : State} {args : Array Value} {c0 : Cond} (ht : ∀ w ∈ wq c0, w.before args s = true) (hR : rmX5_valueAt.frames + 1 ≤ R.frames ∧ 8 + (2 + 11) + rmX5_valueAt.locals ≤ R.locals) : CallW R s args RX5 RX5 174 yX5_valueAt cX5_valueAt 2 (some .long) (wq (.code yX5_valueAt cX5_valueAt 2 (some .long))) rmX5_valueAt 0 0 1 := gCW 1 ht wcX5_valueAt wmX5_174 wiX5_valueAt weX5_valueAt wnX5 (by decide +kernel) rfl rfl hR
theorem ccX5_X7_meanOf {R : Room} {s : State} {args : Array Value} {c0 : Cond} (ht : ∀ w ∈ wq c0, w.before args s = true) (hR : rmX7_meanOf.frames + 1 ≤ R.frames ∧ 8 + (9 + 11) + rmX7_meanOf.locals ≤ R.locals) : CallW R s args RX5 RX7 177 yX7_meanOf cX7_meanOf 9 (some .long) (wq (.code yX7_meanOf cX7_meanOf 9 (some .long))) rmX7_meanOf 0 0 2 := gCW 2 ht wcX7_meanOf wmX5_177 wiX7_meanOf weX7_meanOf wnX7 (by decide +kernel) rfl rfl hR
abbrev rmX5_lookBack : Room := { frames := 2, cells := 0, slots := 0, locals := 51 }
set_option maxHeartbeats 4000000 in
set_option maxRecDepth 100000 in
theorem tX5_lookBack (l : Launch) (dC : Nat → ClassId) (dI : Nat → Nat → Nat) (dA : Nat → ClassId) (ad : Nat → Nat) (sz : Nat) {p1 : Int32} {c_tree_parts : Nat → Int32} {c_bond_terms : Nat → Int32} {c_penceByUps : Nat → Int64} {c_pence : Nat → Int64} {c_turned : Nat → Int64} {c_called : Nat → Int64} {c_hold : Nat → Int64} {c_value : Nat → Int64} {c_marks : Nat → Int32} {c_act : Nat → Int32} {c_rowOfKey : Nat → Int32} {r : Int64} (hf : fX5_lookBack p1 c_tree_parts c_value = some (r)) : Met l yX5_lookBack (wq (Cond.code yX5_lookBack cX5_lookBack 2 (some .long))) rmX5_lookBack (gP [.ref (ad 0), .int p1] (dC, dI) dA (wX5 dA ad c_tree_parts c_bond_terms c_penceByUps c_pence c_turned c_called c_hold c_value c_marks c_act c_rowOfKey) sz) (gQl (dC, dI) r (wX5 dA ad c_tree_parts c_bond_terms c_penceByUps c_pence c_turned c_called c_hold c_value c_marks c_act c_rowOfKey) (va_A (wX5 dA ad c_tree_parts c_bond_terms c_penceByUps c_pence c_turned c_called c_hold c_value c_marks c_act c_rowOfKey) sz)) 0 0 (va_A (wX5 dA ad c_tree_parts c_bond_terms c_penceByUps c_pence c_turned c_called c_hold c_value c_marks c_act c_rowOfKey) sz) := by
  refine Met.ofW (cc := cX5_lookBack) (maxL := 2) (ret := (some .long)) (by decide) rfl ?_
  intro p e s m args below meth c s₁ B hml hv
  obtain ⟨rfl, hsz, hP, hK, hD0⟩ := hv
  have hx := B.exec
  have hb := B.bytes
  have hr := B.returns
  have hts := atoms_spec (ws := wq (Cond.code yX5_lookBack cX5_lookBack 2 (some .long))) B.pre
  have hown : s.vm.findClass RX5 = some m.cls := findClass_of_methodNamed B.named
  have hlocks := B.notSynchronized
  clear B
  subst hsz
  have hD := hD0.self (sz := s.heap.size)
  generalize hAe : va_A (wX5 dA ad c_tree_parts c_bond_terms c_penceByUps c_pence c_turned c_called c_hold c_value c_marks c_act c_rowOfKey) s.heap.size = A at hD ⊢
  have hA : ∀ q : Nat, s.heap.size ≤ q → A q := fun q h => by rw [← hAe]; exact Or.inr h
  clear hAe hD0
  have hS : va_S A s.heap s.heap [] := va_S.rf
  have hl := lv_entry ([.ref (ad 0), .int p1]) (n := 2) (Nat.le_of_ble_eq_true rfl)
  rw [lg_entry_eq]
  generalize (lg_sl ([.ref (ad 0), .int p1]) ++ List.replicate (2 - (lg_sl ([.ref (ad 0), .int p1])).length) Slot.unset).toArray = ls at hl ⊢
  have hl : lv_has ls 2 [(0, .ref (ad 0)), (1, .int p1)] := hl
  change W p l e rmX5_lookBack s m ([.ref (ad 0), .int p1] : List Value).toArray below meth c s.heap [] 0 0 _ _
  unfold fX5_lookBack at hf
  refine lv_aload_n hx hb dX5_lookBack_0 rfl (lv_at hl 0 rfl) ?_
  refine va_get (D := (dC, dI)) (ci := 5) (v := .ref (ad 1)) (C := RX5) (T := TX5) (N := 11) hx hb hts (fun w h => gw_mem (inX5 w h)) hown hK.1 hP 0 rfl rfl 0 (by decide) (hts _ (gw_mem wfX5_12)) (fun _ h9 => h9) rfl dX5_lookBack_1 ?_
  refine lv_aload_n hx hb dX5_lookBack_4 rfl (lv_at hl 0 rfl) ?_
  refine lv_iload_n hx hb dX5_lookBack_5 rfl (lv_at hl 1 rfl) ?_
  refine lv_iconst (v := 1) hx hb dX5_lookBack_6 (by decide) ?_
  obtain ⟨r1, v2, hf⟩ := bd1_some hf
  refine gci0 (va_runSN (As := [.int p1, .int 1]) (rest := [.ref (ad 0), .ref (ad 1)]) ⟨hx, hb, hml, hown, hts⟩ (tX8_longer l dC dI dA s.heap.size v2) (ccX5_X8_longer hK.2 hts ⟨Nat.le_of_ble_eq_true rfl, Nat.le_of_ble_eq_true rfl⟩) (gPreS0 hK) rfl rfl hl.1 rfl (lv_room (Nat.le_of_ble_eq_true rfl)) dX5_lookBack_7 ⟨Nat.le_of_ble_eq_true rfl, Nat.le_of_ble_eq_true rfl⟩) hP hS hA (fun H locs hP hS => ?_)
  obtain ⟨r3, v4, hf⟩ := bd1_some hf
  refine gcl (va_runV (As := [.int r1]) (rest := [.ref (ad 1)]) ⟨hx, hb, hml, hown, hts⟩ (tX5_valueAt l dC dI dA ad H.size v4) (ccX5_X5_valueAt hts ⟨Nat.le_of_ble_eq_true rfl, Nat.le_of_ble_eq_true rfl⟩) (gPreV (ci := 5) (q0 := 0) hP hK hD rfl rfl) rfl rfl hl.1 rfl (lv_room (Nat.le_of_ble_eq_true rfl)) dX5_lookBack_10 ⟨Nat.le_of_ble_eq_true rfl, Nat.le_of_ble_eq_true rfl⟩) hD hS hA (fun H locs hP hD hS => ?_)
  refine lv_aload_n hx hb dX5_lookBack_13 rfl (lv_at hl 0 rfl) ?_
  refine lv_iload_n hx hb dX5_lookBack_14 rfl (lv_at hl 1 rfl) ?_
  refine lv_iconst (v := 0) hx hb dX5_lookBack_15 (by decide) ?_
  obtain ⟨r5, v6, hf⟩ := bd1_some hf
  refine gci0 (va_runSN (As := [.int p1, .int 0]) (rest := [.ref (ad 0), .long r3, .ref (ad 1)]) ⟨hx, hb, hml, hown, hts⟩ (tX8_longer l dC dI dA H.size v6) (ccX5_X8_longer hK.2 hts ⟨Nat.le_of_ble_eq_true rfl, Nat.le_of_ble_eq_true rfl⟩) (gPreS0 hK) rfl rfl hl.1 rfl (lv_room (Nat.le_of_ble_eq_true rfl)) dX5_lookBack_16 ⟨Nat.le_of_ble_eq_true rfl, Nat.le_of_ble_eq_true rfl⟩) hP hS hA (fun H locs hP hS => ?_)
  obtain ⟨r7, v8, hf⟩ := bd1_some hf
  refine gcl (va_runV (As := [.int r5]) (rest := [.long r3, .ref (ad 1)]) ⟨hx, hb, hml, hown, hts⟩ (tX5_valueAt l dC dI dA ad H.size v8) (ccX5_X5_valueAt hts ⟨Nat.le_of_ble_eq_true rfl, Nat.le_of_ble_eq_true rfl⟩) (gPreV (ci := 5) (q0 := 0) hP hK hD rfl rfl) rfl rfl hl.1 rfl (lv_room (Nat.le_of_ble_eq_true rfl)) dX5_lookBack_19 ⟨Nat.le_of_ble_eq_true rfl, Nat.le_of_ble_eq_true rfl⟩) hD hS hA (fun H locs hP hD hS => ?_)
  obtain ⟨r9, v10, hf⟩ := bd1_some hf
  have z11 := sg1 (ws := (wX5 dA ad c_tree_parts c_bond_terms c_penceByUps c_pence c_turned c_called c_hold c_value c_marks c_act c_rowOfKey)) (s0 := ((wX5 dA ad c_tree_parts c_bond_terms c_penceByUps c_pence c_turned c_called c_hold c_value c_marks c_act c_rowOfKey)).take 1) (s1 := ((wX5 dA ad c_tree_parts c_bond_terms c_penceByUps c_pence c_turned c_called c_hold c_value c_marks c_act c_rowOfKey)).drop 3) (x1 := (wX7 dA (fun i => ad (i + 1)) c_tree_parts)) rfl
  refine gpl (wf := (wX5 dA ad c_tree_parts c_bond_terms c_penceByUps c_pence c_turned c_called c_hold c_value c_marks c_act c_rowOfKey)) (va_runV (As := [.long r3, .long r7]) (rest := []) ⟨hx, hb, hml, hown, hts⟩ (tX7_meanOf l dC dI dA (fun i => ad (i + 1)) H.size v10) (ccX5_X7_meanOf hts ⟨Nat.le_of_ble_eq_true rfl, Nat.le_of_ble_eq_true rfl⟩) (gPreV (ci := 7) (q0 := 0) (psub z11 hP) hK (psubD z11 hD) rfl rfl) rfl rfl hl.1 rfl (lv_room (Nat.le_of_ble_eq_true rfl)) dX5_lookBack_22 ⟨Nat.le_of_ble_eq_true rfl, Nat.le_of_ble_eq_true rfl⟩) hP hD hS hA z11 (sg1 (s0 := ((wX5 dA ad c_tree_parts c_bond_terms c_penceByUps c_pence c_turned c_called c_hold c_value c_marks c_act c_rowOfKey)).take 1) (s1 := ((wX5 dA ad c_tree_parts c_bond_terms c_penceByUps c_pence c_turned c_called c_hold c_value c_marks c_act c_rowOfKey)).drop 3) (x1 := (wX7 dA (fun i => ad (i + 1)) c_tree_parts)) rfl) (fun H locs hP hD hS => ?_)
  cases hf
  exact W.lret hx hb hr (fun t ht _ => gql hP hD hS ht) hS.2.2 dX5_lookBack_25
abbrev rmX5_setRow : Room := { frames := 1, cells := 0, slots := 0, locals := 20 }
set_option maxHeartbeats 4000000 in
set_option maxRecDepth 100000 in
theorem tX5_setRow (l : Launch) (dC : Nat → ClassId) (dI : Nat → Nat → Nat) (dA : Nat → ClassId) (ad : Nat → Nat) (sz : Nat) {p1 : Int32} {p2 : Int64} {p4 : Int32} {p5 : Int64} {c_tree_parts : Nat → Int32} {c_bond_terms : Nat → Int32} {c_penceByUps : Nat → Int64} {c_pence : Nat → Int64} {c_turned : Nat → Int64} {c_called : Nat → Int64} {c_hold : Nat → Int64} {c_value : Nat → Int64} {c_marks : Nat → Int32} {c_act : Nat → Int32} {c_rowOfKey : Nat → Int32} {o_c_hold : Nat → Int64} {o_c_value : Nat → Int64} {o_c_act : Nat → Int32} (hf : fX5_setRow p1 p2 p4 p5 c_hold c_value c_act = some (o_c_hold, o_c_value, o_c_act)) : Met l yX5_setRow (wq (Cond.code yX5_setRow cX5_setRow 7 none)) rmX5_setRow (gP [.ref (ad 0), .int p1, .long p2, .int p4, .long p5] (dC, dI) dA (wX5 dA ad c_tree_parts c_bond_terms c_penceByUps c_pence c_turned c_called c_hold c_value c_marks c_act c_rowOfKey) sz) (gQv (dC, dI) (wX5 dA ad c_tree_parts c_bond_terms c_penceByUps c_pence c_turned c_called o_c_hold o_c_value c_marks o_c_act c_rowOfKey) (va_A (wX5 dA ad c_tree_parts c_bond_terms c_penceByUps c_pence c_turned c_called c_hold c_value c_marks c_act c_rowOfKey) sz)) 0 0 (va_A (wX5 dA ad c_tree_parts c_bond_terms c_penceByUps c_pence c_turned c_called c_hold c_value c_marks c_act c_rowOfKey) sz) := by
  refine Met.ofW (cc := cX5_setRow) (maxL := 7) (ret := none) (by decide) rfl ?_
  intro p e s m args below meth c s₁ B hml hv
  obtain ⟨rfl, hsz, hP, hK, hD0⟩ := hv
  have hx := B.exec
  have hb := B.bytes
  have hr := B.returns
  have hts := atoms_spec (ws := wq (Cond.code yX5_setRow cX5_setRow 7 none)) B.pre
  have hown : s.vm.findClass RX5 = some m.cls := findClass_of_methodNamed B.named
  have hlocks := B.notSynchronized
  clear B
  subst hsz
  have hD := hD0.self (sz := s.heap.size)
  generalize hAe : va_A (wX5 dA ad c_tree_parts c_bond_terms c_penceByUps c_pence c_turned c_called c_hold c_value c_marks c_act c_rowOfKey) s.heap.size = A at hD ⊢
  have hA : ∀ q : Nat, s.heap.size ≤ q → A q := fun q h => by rw [← hAe]; exact Or.inr h
  clear hAe hD0
  have hS : va_S A s.heap s.heap [] := va_S.rf
  have hl := lv_entry ([.ref (ad 0), .int p1, .long p2, .int p4, .long p5]) (n := 7) (Nat.le_of_ble_eq_true rfl)
  rw [lg_entry_eq]
  generalize (lg_sl ([.ref (ad 0), .int p1, .long p2, .int p4, .long p5]) ++ List.replicate (7 - (lg_sl ([.ref (ad 0), .int p1, .long p2, .int p4, .long p5])).length) Slot.unset).toArray = ls at hl ⊢
  have hl : lv_has ls 7 [(0, .ref (ad 0)), (1, .int p1), (2, .long p2), (4, .int p4), (5, .long p5)] := hl
  change W p l e rmX5_setRow s m ([.ref (ad 0), .int p1, .long p2, .int p4, .long p5] : List Value).toArray below meth c s.heap [] 0 0 _ _
  unfold fX5_setRow at hf
  refine lv_iload_n hx hb dX5_setRow_0 rfl (lv_at hl 1 rfl) ?_
  obtain ⟨r1, v2, hf⟩ := bd1_some hf
  refine gci0 (va_runSN (As := [.int p1]) (rest := []) ⟨hx, hb, hml, hown, hts⟩ (tX8_isRow l dC dI dA s.heap.size v2) (ccX5_X8_isRow hK.2 hts ⟨Nat.le_of_ble_eq_true rfl, Nat.le_of_ble_eq_true rfl⟩) (gPreS0 hK) rfl rfl hl.1 rfl (lv_room (Nat.le_of_ble_eq_true rfl)) dX5_setRow_1 ⟨Nat.le_of_ble_eq_true rfl, Nat.le_of_ble_eq_true rfl⟩) hP hS hA (fun H locs hP hS => ?_)
  obtain ⟨c_hold_4, c_value_5, c_act_6, v8, hf⟩ := bd3_some hf
  have J7 : ∀ (H : Heap) (locs : List Loc) (ls : Array Slot), va_P (dC, dI) vwCl (wX5 dA ad c_tree_parts c_bond_terms c_penceByUps c_pence c_turned c_called c_hold_4 c_value_5 c_marks c_act_6 c_rowOfKey) H → va_D A (wX5 dA ad c_tree_parts c_bond_terms c_penceByUps c_pence c_turned c_called c_hold_4 c_value_5 c_marks c_act_6 c_rowOfKey) → va_S A s.heap H locs → lv_has ls 7 [] → W p l e rmX5_setRow s m ([.ref (ad 0), .int p1, .long p2, .int p4, .long p5] : List Value).toArray below meth c H locs 0 0 (MQ below (gQv (dC, dI) (wX5 dA ad c_tree_parts c_bond_terms c_penceByUps c_pence c_turned c_called o_c_hold o_c_value c_marks o_c_act c_rowOfKey) A) ([.ref (ad 0), .int p1, .long p2, .int p4, .long p5] : List Value).toArray s 0 0 A) (F0 m 30 ls []) := by
    intro H locs ls hP hD hS hl
    cases hf
    exact W.vret hx hb hr (fun t ht _ => gqv hP hD hS ht) hS.2.2 dX5_setRow_30
  replace hf := v8
  clear v8
  refine lv_if_eq (tgt := 30) hx hb dX5_setRow_4 (by decide) (fun k3 => ?_) (fun k3 => ?_)
  · replace hf := ifp k3 hf
    cases hf
    exact J7 _ _ _ hP hD hS (lv_sub hl [] rfl)
  · replace hf := ifn k3 hf
    refine lv_aload_n hx hb dX5_setRow_7 rfl (lv_at hl 0 rfl) ?_
    refine va_get (D := (dC, dI)) (ci := 5) (v := .ref (ad 9)) (C := RX5) (T := TX5) (N := 11) hx hb hts (fun w h => gw_mem (inX5 w h)) hown hK.1 hP 0 rfl rfl 6 (by decide) (hts _ (gw_mem wfX5_38)) (fun _ h9 => h9) rfl dX5_setRow_8 ?_
    refine lv_iload_n hx hb dX5_setRow_11 rfl (lv_at hl 1 rfl) ?_
    refine lv_lload_n hx hb dX5_setRow_12 rfl (lv_at hl 2 rfl) ?_
    obtain ⟨h9, hf⟩ := og_some hf
    obtain ⟨w10, ew10⟩ : ∃ y : Nat → Int64, y = vp_updL c_hold (Int32.toNatClampNeg p1) p2 := ⟨_, rfl⟩
    replace hf := nm_at hf ew10
    refine va_last hx hb hK.1 hP hD hS 9 1 rfl rfl (okI_in h9) dX5_setRow_13 (fun H locs hP hD hS => ?_)
    have hP : va_P (dC, dI) vwCl (wX5 dA ad c_tree_parts c_bond_terms c_penceByUps c_pence c_turned c_called w10 c_value c_marks c_act c_rowOfKey) H := by rw [ew10]; exact hP
    have hD : va_D A (wX5 dA ad c_tree_parts c_bond_terms c_penceByUps c_pence c_turned c_called w10 c_value c_marks c_act c_rowOfKey) := by rw [ew10]; exact hD
    refine lv_aload_n hx hb dX5_setRow_14 rfl (lv_at hl 0 rfl) ?_
    refine va_get (D := (dC, dI)) (ci := 5) (v := .ref (ad 12)) (C := RX5) (T := TX5) (N := 11) hx hb hts (fun w h => gw_mem (inX5 w h)) hown hK.1 hP 0 rfl rfl 9 (by decide) (hts _ (gw_mem wfX5_48)) (fun _ h9 => h9) rfl dX5_setRow_15 ?_
    refine lv_iload_n hx hb dX5_setRow_18 rfl (lv_at hl 1 rfl) ?_
    refine lv_iload hx hb dX5_setRow_19 (lv_at hl 3 rfl) ?_
    obtain ⟨h11, hf⟩ := og_some hf
    obtain ⟨w12, ew12⟩ : ∃ y : Nat → Int32, y = upd c_act (Int32.toNatClampNeg p1) p4 := ⟨_, rfl⟩
    replace hf := nm_at hf ew12
    refine va_iast hx hb hK.1 hP hD hS 12 0 rfl rfl (okI_in h11) dX5_setRow_21 (fun H locs hP hD hS => ?_)
    have hP : va_P (dC, dI) vwCl (wX5 dA ad c_tree_parts c_bond_terms c_penceByUps c_pence c_turned c_called w10 c_value c_marks w12 c_rowOfKey) H := by rw [ew12]; exact hP
    have hD : va_D A (wX5 dA ad c_tree_parts c_bond_terms c_penceByUps c_pence c_turned c_called w10 c_value c_marks w12 c_rowOfKey) := by rw [ew12]; exact hD
    refine lv_aload_n hx hb dX5_setRow_22 rfl (lv_at hl 0 rfl) ?_
    refine va_get (D := (dC, dI)) (ci := 5) (v := .ref (ad 10)) (C := RX5) (T := TX5) (N := 11) hx hb hts (fun w h => gw_mem (inX5 w h)) hown hK.1 hP 0 rfl rfl 7 (by decide) (hts _ (gw_mem wfX5_41)) (fun _ h9 => h9) rfl dX5_setRow_23 ?_
    refine lv_iload_n hx hb dX5_setRow_26 rfl (lv_at hl 1 rfl) ?_
    refine lv_lload hx hb dX5_setRow_27 (lv_at hl 4 rfl) ?_
    obtain ⟨h13, hf⟩ := og_some hf
    obtain ⟨w14, ew14⟩ : ∃ y : Nat → Int64, y = vp_updL c_value (Int32.toNatClampNeg p1) p5 := ⟨_, rfl⟩
    replace hf := nm_at hf ew14
    refine va_last hx hb hK.1 hP hD hS 10 1 rfl rfl (okI_in h13) dX5_setRow_29 (fun H locs hP hD hS => ?_)
    have hP : va_P (dC, dI) vwCl (wX5 dA ad c_tree_parts c_bond_terms c_penceByUps c_pence c_turned c_called w10 w14 c_marks w12 c_rowOfKey) H := by rw [ew14]; exact hP
    have hD : va_D A (wX5 dA ad c_tree_parts c_bond_terms c_penceByUps c_pence c_turned c_called w10 w14 c_marks w12 c_rowOfKey) := by rw [ew14]; exact hD
    cases hf
    exact J7 _ _ _ hP hD hS (lv_sub hl [] rfl)
theorem ccX5_X0_couponOn {R : Room} {s : State} {args : Array Value} {c0 : Cond} (ht : ∀ w ∈ wq c0, w.before args s = true) (hR : rmX0_couponOn.frames + 1 ≤ R.frames ∧ 8 + (2 + 11) + rmX0_couponOn.locals ≤ R.locals) : CallW R s args RX5 RX0 137 yX0_couponOn cX0_couponOn 2 (some .int) (wq (.code yX0_couponOn cX0_couponOn 2 (some .int))) rmX0_couponOn 0 0 1 := gCW 1 ht wcX0_couponOn wmX5_137 wiX0_couponOn weX0_couponOn wnX0 (by decide +kernel) rfl rfl hR
theorem ccX5_X5_setRow {R : Room} {s : State} {args : Array Value} {c0 : Cond} (ht : ∀ w ∈ wq c0, w.before args s = true) (hR : rmX5_setRow.frames + 1 ≤ R.frames ∧ 8 + (7 + 11) + rmX5_setRow.locals ≤ R.locals) : CallW R s args RX5 RX5 147 yX5_setRow cX5_setRow 7 none (wq (.code yX5_setRow cX5_setRow 7 none)) rmX5_setRow 0 0 4 := gCW 4 ht wcX5_setRow wmX5_147 wiX5_setRow weX5_setRow wnX5 (by decide +kernel) rfl rfl hR
theorem ccX5_X5_lookBack {R : Room} {s : State} {args : Array Value} {c0 : Cond} (ht : ∀ w ∈ wq c0, w.before args s = true) (hR : rmX5_lookBack.frames + 1 ≤ R.frames ∧ 8 + (2 + 11) + rmX5_lookBack.locals ≤ R.locals) : CallW R s args RX5 RX5 151 yX5_lookBack cX5_lookBack 2 (some .long) (wq (.code yX5_lookBack cX5_lookBack 2 (some .long))) rmX5_lookBack 0 0 1 := gCW 1 ht wcX5_lookBack wmX5_151 wiX5_lookBack weX5_lookBack wnX5 (by decide +kernel) rfl rfl hR
theorem ccX5_X0_putOn {R : Room} {s : State} {args : Array Value} {c0 : Cond} (ht : ∀ w ∈ wq c0, w.before args s = true) (hR : rmX0_putOn.frames + 1 ≤ R.frames ∧ 8 + (2 + 11) + rmX0_putOn.locals ≤ R.locals) : CallW R s args RX5 RX0 154 yX0_putOn cX0_putOn 2 (some .int) (wq (.code yX0_putOn cX0_putOn 2 (some .int))) rmX0_putOn 0 0 1 := gCW 1 ht wcX0_putOn wmX5_154 wiX0_putOn weX0_putOn wnX0 (by decide +kernel) rfl rfl hR
theorem ccX5_X5_calledAt {R : Room} {s : State} {args : Array Value} {c0 : Cond} (ht : ∀ w ∈ wq c0, w.before args s = true) (hR : rmX5_calledAt.frames + 1 ≤ R.frames ∧ 8 + (2 + 11) + rmX5_calledAt.locals ≤ R.locals) : CallW R s args RX5 RX5 157 yX5_calledAt cX5_calledAt 2 (some .long) (wq (.code yX5_calledAt cX5_calledAt 2 (some .long))) rmX5_calledAt 0 0 1 := gCW 1 ht wcX5_calledAt wmX5_157 wiX5_calledAt weX5_calledAt wnX5 (by decide +kernel) rfl rfl hR
theorem ccX5_X5_actWhenNotCalled {R : Room} {s : State} {args : Array Value} {c0 : Cond} (ht : ∀ w ∈ wq c0, w.before args s = true) (hR : rmX5_actWhenNotCalled.frames + 1 ≤ R.frames ∧ 8 + (6 + 11) + rmX5_actWhenNotCalled.locals ≤ R.locals) : CallB R s args RX5 160 yX5_actWhenNotCalled cX5_actWhenNotCalled 6 (some .int) (wq (.code yX5_actWhenNotCalled cX5_actWhenNotCalled 6 (some .int))) rmX5_actWhenNotCalled 0 0 3 ∧ (Cond.static yX5_actWhenNotCalled).before args s = true := gCS 3 ht wcX5_actWhenNotCalled wmX5_160 wtX5_actWhenNotCalled wnX5 (by decide +kernel) rfl rfl hR
theorem ccX5_X5_actOfCall {R : Room} {s : State} {args : Array Value} {c0 : Cond} (ht : ∀ w ∈ wq c0, w.before args s = true) (hR : rmX5_actOfCall.frames + 1 ≤ R.frames ∧ 8 + (3 + 11) + rmX5_actOfCall.locals ≤ R.locals) : CallW R s args RX5 RX5 164 yX5_actOfCall cX5_actOfCall 3 (some .int) (wq (.code yX5_actOfCall cX5_actOfCall 3 (some .int))) rmX5_actOfCall 0 0 2 := gCW 2 ht wcX5_actOfCall wmX5_164 wiX5_actOfCall weX5_actOfCall wnX5 (by decide +kernel) rfl rfl hR
abbrev rmX5_chooseBest : Room := { frames := 3, cells := 0, slots := 0, locals := 72 }
set_option maxHeartbeats 4000000 in
set_option maxRecDepth 100000 in
theorem tX5_chooseBest (l : Launch) (dC : Nat → ClassId) (dI : Nat → Nat → Nat) (dA : Nat → ClassId) (ad : Nat → Nat) (sz : Nat) {p1 : Int32} {p2 : Int32} {c_tree_parts : Nat → Int32} {c_bond_terms : Nat → Int32} {c_penceByUps : Nat → Int64} {c_pence : Nat → Int64} {c_turned : Nat → Int64} {c_called : Nat → Int64} {c_hold : Nat → Int64} {c_value : Nat → Int64} {c_marks : Nat → Int32} {c_act : Nat → Int32} {c_rowOfKey : Nat → Int32} {o_c_hold : Nat → Int64} {o_c_value : Nat → Int64} {o_c_act : Nat → Int32} (hf : fX5_chooseBest p1 p2 c_tree_parts c_bond_terms c_turned c_called c_hold c_value c_act = some (o_c_hold, o_c_value, o_c_act)) : Met l yX5_chooseBest (wq (Cond.code yX5_chooseBest cX5_chooseBest 15 none)) rmX5_chooseBest (gP [.ref (ad 0), .int p1, .int p2] (dC, dI) dA (wX5 dA ad c_tree_parts c_bond_terms c_penceByUps c_pence c_turned c_called c_hold c_value c_marks c_act c_rowOfKey) sz) (gQv (dC, dI) (wX5 dA ad c_tree_parts c_bond_terms c_penceByUps c_pence c_turned c_called o_c_hold o_c_value c_marks o_c_act c_rowOfKey) (va_A (wX5 dA ad c_tree_parts c_bond_terms c_penceByUps c_pence c_turned c_called c_hold c_value c_marks c_act c_rowOfKey) sz)) 0 0 (va_A (wX5 dA ad c_tree_parts c_bond_terms c_penceByUps c_pence c_turned c_called c_hold c_value c_marks c_act c_rowOfKey) sz) := by
  refine Met.ofW (cc := cX5_chooseBest) (maxL := 15) (ret := none) (by decide) rfl ?_
  intro p e s m args below meth c s₁ B hml hv
  obtain ⟨rfl, hsz, hP, hK, hD0⟩ := hv
  have hx := B.exec
  have hb := B.bytes
  have hr := B.returns
  have hts := atoms_spec (ws := wq (Cond.code yX5_chooseBest cX5_chooseBest 15 none)) B.pre
  have hown : s.vm.findClass RX5 = some m.cls := findClass_of_methodNamed B.named
  have hlocks := B.notSynchronized
  clear B
  subst hsz
  have hD := hD0.self (sz := s.heap.size)
  generalize hAe : va_A (wX5 dA ad c_tree_parts c_bond_terms c_penceByUps c_pence c_turned c_called c_hold c_value c_marks c_act c_rowOfKey) s.heap.size = A at hD ⊢
  have hA : ∀ q : Nat, s.heap.size ≤ q → A q := fun q h => by rw [← hAe]; exact Or.inr h
  clear hAe hD0
  have hS : va_S A s.heap s.heap [] := va_S.rf
  have hl := lv_entry ([.ref (ad 0), .int p1, .int p2]) (n := 15) (Nat.le_of_ble_eq_true rfl)
  rw [lg_entry_eq]
  generalize (lg_sl ([.ref (ad 0), .int p1, .int p2]) ++ List.replicate (15 - (lg_sl ([.ref (ad 0), .int p1, .int p2])).length) Slot.unset).toArray = ls at hl ⊢
  have hl : lv_has ls 15 [(0, .ref (ad 0)), (1, .int p1), (2, .int p2)] := hl
  change W p l e rmX5_chooseBest s m ([.ref (ad 0), .int p1, .int p2] : List Value).toArray below meth c s.heap [] 0 0 _ _
  unfold fX5_chooseBest at hf
  refine lv_aload_n hx hb dX5_chooseBest_0 rfl (lv_at hl 0 rfl) ?_
  refine lv_iload_n hx hb dX5_chooseBest_1 rfl (lv_at hl 1 rfl) ?_
  obtain ⟨r1, v2, hf⟩ := bd1_some hf
  refine gcl (va_runV (As := [.int p1]) (rest := []) ⟨hx, hb, hml, hown, hts⟩ (tX5_lookBack l dC dI dA ad s.heap.size v2) (ccX5_X5_lookBack hts ⟨Nat.le_of_ble_eq_true rfl, Nat.le_of_ble_eq_true rfl⟩) (gPreV (ci := 5) (q0 := 0) hP hK hD rfl rfl) rfl rfl hl.1 rfl (lv_room (Nat.le_of_ble_eq_true rfl)) dX5_chooseBest_2 ⟨Nat.le_of_ble_eq_true rfl, Nat.le_of_ble_eq_true rfl⟩) hD hS hA (fun H locs hP hD hS => ?_)
  refine lv_lstore_n (lv' := [(3, .long r1), (0, .ref (ad 0)), (1, .int p1), (2, .int p2)]) hx hb dX5_chooseBest_5 rfl hl (by decide) rfl (fun ls hl => ?_)
  refine lv_aload_n hx hb dX5_chooseBest_6 rfl (lv_at hl 1 rfl) ?_
  refine va_get (D := (dC, dI)) (ci := 5) (v := .ref (ad 3)) (C := RX5) (T := TX5) (N := 11) hx hb hts (fun w h => gw_mem (inX5 w h)) hown hK.1 hP 0 rfl rfl 1 (by decide) (hts _ (gw_mem wfX5_21)) (fun _ h9 => h9) rfl dX5_chooseBest_7 ?_
  refine lv_iload_n hx hb dX5_chooseBest_10 rfl (lv_at hl 3 rfl) ?_
  obtain ⟨r3, v4, hf⟩ := bd1_some hf
  have z5 := sg1 (ws := (wX5 dA ad c_tree_parts c_bond_terms c_penceByUps c_pence c_turned c_called c_hold c_value c_marks c_act c_rowOfKey)) (s0 := ((wX5 dA ad c_tree_parts c_bond_terms c_penceByUps c_pence c_turned c_called c_hold c_value c_marks c_act c_rowOfKey)).take 3) (s1 := ((wX5 dA ad c_tree_parts c_bond_terms c_penceByUps c_pence c_turned c_called c_hold c_value c_marks c_act c_rowOfKey)).drop 5) (x1 := (wX0 dA (fun i => ad (i + 3)) c_bond_terms)) rfl
  refine gpi (wf := (wX5 dA ad c_tree_parts c_bond_terms c_penceByUps c_pence c_turned c_called c_hold c_value c_marks c_act c_rowOfKey)) (va_runV (As := [.int p2]) (rest := []) ⟨hx, hb, hml, hown, hts⟩ (tX0_putOn l dC dI dA (fun i => ad (i + 3)) H.size v4) (ccX5_X0_putOn hts ⟨Nat.le_of_ble_eq_true rfl, Nat.le_of_ble_eq_true rfl⟩) (gPreV (ci := 1) (q0 := 0) (psub z5 hP) hK (psubD z5 hD) rfl rfl) rfl rfl hl.1 rfl (lv_room (Nat.le_of_ble_eq_true rfl)) dX5_chooseBest_11 ⟨Nat.le_of_ble_eq_true rfl, Nat.le_of_ble_eq_true rfl⟩) hP hD hS hA z5 (sg1 (s0 := ((wX5 dA ad c_tree_parts c_bond_terms c_penceByUps c_pence c_turned c_called c_hold c_value c_marks c_act c_rowOfKey)).take 3) (s1 := ((wX5 dA ad c_tree_parts c_bond_terms c_penceByUps c_pence c_turned c_called c_hold c_value c_marks c_act c_rowOfKey)).drop 5) (x1 := (wX0 dA (fun i => ad (i + 3)) c_bond_terms)) rfl) (fun H locs hP hD hS => ?_)
  refine lv_i2l hx hb dX5_chooseBest_14 rfl ?_
  refine lv_topl (fun w6 ew6 => ?_)
  replace hf := nm_at hf ew6
  refine lv_lstore (lv' := [(5, .long w6), (3, .long r1), (0, .ref (ad 0)), (1, .int p1), (2, .int p2)]) hx hb dX5_chooseBest_15 hl (by decide) rfl (fun ls hl => ?_)
  refine lv_aload_n hx hb dX5_chooseBest_17 rfl (lv_at hl 2 rfl) ?_
  refine lv_iload_n hx hb dX5_chooseBest_18 rfl (lv_at hl 3 rfl) ?_
  obtain ⟨r7, v8, hf⟩ := bd1_some hf
  refine gcl (va_runV (As := [.int p1]) (rest := []) ⟨hx, hb, hml, hown, hts⟩ (tX5_turnedAt l dC dI dA ad H.size v8) (ccX5_X5_turnedAt hts ⟨Nat.le_of_ble_eq_true rfl, Nat.le_of_ble_eq_true rfl⟩) (gPreV (ci := 5) (q0 := 0) hP hK hD rfl rfl) rfl rfl hl.1 rfl (lv_room (Nat.le_of_ble_eq_true rfl)) dX5_chooseBest_19 ⟨Nat.le_of_ble_eq_true rfl, Nat.le_of_ble_eq_true rfl⟩) hD hS hA (fun H locs hP hD hS => ?_)
  refine lv_lstore (lv' := [(7, .long r7), (5, .long w6), (3, .long r1), (0, .ref (ad 0)), (1, .int p1), (2, .int p2)]) hx hb dX5_chooseBest_22 hl (by decide) rfl (fun ls hl => ?_)
  refine lv_aload_n hx hb dX5_chooseBest_24 rfl (lv_at hl 3 rfl) ?_
  refine lv_iload_n hx hb dX5_chooseBest_25 rfl (lv_at hl 4 rfl) ?_
  obtain ⟨r9, v10, hf⟩ := bd1_some hf
  refine gcl (va_runV (As := [.int p1]) (rest := []) ⟨hx, hb, hml, hown, hts⟩ (tX5_calledAt l dC dI dA ad H.size v10) (ccX5_X5_calledAt hts ⟨Nat.le_of_ble_eq_true rfl, Nat.le_of_ble_eq_true rfl⟩) (gPreV (ci := 5) (q0 := 0) hP hK hD rfl rfl) rfl rfl hl.1 rfl (lv_room (Nat.le_of_ble_eq_true rfl)) dX5_chooseBest_26 ⟨Nat.le_of_ble_eq_true rfl, Nat.le_of_ble_eq_true rfl⟩) hD hS hA (fun H locs hP hD hS => ?_)
  refine lv_lstore (lv' := [(9, .long r9), (7, .long r7), (5, .long w6), (3, .long r1), (0, .ref (ad 0)), (1, .int p1), (2, .int p2)]) hx hb dX5_chooseBest_29 hl (by decide) rfl (fun ls hl => ?_)
  refine lv_lload hx hb dX5_chooseBest_31 (lv_at hl 0 rfl) ?_
  refine lv_lconst (v := 0) hx hb dX5_chooseBest_33 rfl ?_
  refine W.lcmp hx hb dX5_chooseBest_34 ?_
  obtain ⟨j12, v14, hf⟩ := bd1_some hf
  have J13 : ∀ (H : Heap) (locs : List Loc) (ls : Array Slot), va_P (dC, dI) vwCl (wX5 dA ad c_tree_parts c_bond_terms c_penceByUps c_pence c_turned c_called c_hold c_value c_marks c_act c_rowOfKey) H → va_D A (wX5 dA ad c_tree_parts c_bond_terms c_penceByUps c_pence c_turned c_called c_hold c_value c_marks c_act c_rowOfKey) → va_S A s.heap H locs → lv_has ls 15 [(0, .ref (ad 0)), (1, .int p1), (2, .int p2), (3, .long r1), (5, .long w6), (7, .long r7), (9, .long r9)] → W p l e rmX5_chooseBest s m ([.ref (ad 0), .int p1, .int p2] : List Value).toArray below meth c H locs 0 0 (MQ below (gQv (dC, dI) (wX5 dA ad c_tree_parts c_bond_terms c_penceByUps c_pence c_turned c_called o_c_hold o_c_value c_marks o_c_act c_rowOfKey) A) ([.ref (ad 0), .int p1, .int p2] : List Value).toArray s 0 0 A) (F0 m 50 ls [.int j12]) := by
    intro H locs ls hP hD hS hl
    refine lv_istore (lv' := [(11, .int j12), (0, .ref (ad 0)), (1, .int p1), (2, .int p2), (3, .long r1), (5, .long w6), (7, .long r7), (9, .long r9)]) hx hb dX5_chooseBest_50 hl (by decide) rfl (fun ls hl => ?_)
    refine lv_iload hx hb dX5_chooseBest_52 (lv_at hl 0 rfl) ?_
    obtain ⟨j16, v18, hf⟩ := bd1_some hf
    have J17 : ∀ (H : Heap) (locs : List Loc) (ls : Array Slot), va_P (dC, dI) vwCl (wX5 dA ad c_tree_parts c_bond_terms c_penceByUps c_pence c_turned c_called c_hold c_value c_marks c_act c_rowOfKey) H → va_D A (wX5 dA ad c_tree_parts c_bond_terms c_penceByUps c_pence c_turned c_called c_hold c_value c_marks c_act c_rowOfKey) → va_S A s.heap H locs → lv_has ls 15 [(0, .ref (ad 0)), (1, .int p1), (2, .int p2), (3, .long r1), (5, .long w6), (7, .long r7), (9, .long r9), (11, .int j12)] → W p l e rmX5_chooseBest s m ([.ref (ad 0), .int p1, .int p2] : List Value).toArray below meth c H locs 0 0 (MQ below (gQv (dC, dI) (wX5 dA ad c_tree_parts c_bond_terms c_penceByUps c_pence c_turned c_called o_c_hold o_c_value c_marks o_c_act c_rowOfKey) A) ([.ref (ad 0), .int p1, .int p2] : List Value).toArray s 0 0 A) (F0 m 63 ls [.long j16]) := by
      intro H locs ls hP hD hS hl
      refine lv_lload hx hb dX5_chooseBest_63 (lv_at hl 4 rfl) ?_
      refine lv_lload hx hb dX5_chooseBest_65 (lv_at hl 5 rfl) ?_
      refine va_mmax_long hx hb (hml.trans hl.1.symm) hown (hts _ (gw_mem wmX5_134)) (hts _ (gw_mem wtJ9_max_f86c9)) (hts _ (gw_mem wnJ9)) (hts _ (gw_mem wcJ9_max_f86c9)) (Nat.le_of_ble_eq_true rfl) (Nat.le_of_ble_eq_true rfl) (Nat.le_of_ble_eq_true rfl) (Nat.le_of_ble_eq_true rfl) dX5_chooseBest_67 ?_
      refine va_mmax_long hx hb (hml.trans hl.1.symm) hown (hts _ (gw_mem wmX5_134)) (hts _ (gw_mem wtJ9_max_f86c9)) (hts _ (gw_mem wnJ9)) (hts _ (gw_mem wcJ9_max_f86c9)) (Nat.le_of_ble_eq_true rfl) (Nat.le_of_ble_eq_true rfl) (Nat.le_of_ble_eq_true rfl) (Nat.le_of_ble_eq_true rfl) dX5_chooseBest_70 ?_
      refine lv_topl (fun w19 ew19 => ?_)
      replace hf := nm_at hf ew19
      refine lv_lstore (lv' := [(12, .long w19), (0, .ref (ad 0)), (1, .int p1), (2, .int p2), (3, .long r1), (5, .long w6), (7, .long r7), (9, .long r9), (11, .int j12)]) hx hb dX5_chooseBest_73 hl (by decide) rfl (fun ls hl => ?_)
      refine lv_lload_n hx hb dX5_chooseBest_75 rfl (lv_at hl 4 rfl) ?_
      refine lv_lload hx hb dX5_chooseBest_76 (lv_at hl 5 rfl) ?_
      refine lv_lload hx hb dX5_chooseBest_78 (lv_at hl 6 rfl) ?_
      obtain ⟨r20, v21, hf⟩ := bd1_some hf
      refine gci0 (va_runS (As := [.long r1, .long w6, .long r7]) (rest := []) ⟨hx, hb, hml, hown, hts⟩ (tX5_actWhenNotCalled l dC dI dA H.size v21) (ccX5_X5_actWhenNotCalled hts ⟨Nat.le_of_ble_eq_true rfl, Nat.le_of_ble_eq_true rfl⟩) (gPreS0 hK) rfl rfl hl.1 rfl (lv_room (Nat.le_of_ble_eq_true rfl)) dX5_chooseBest_80 ⟨Nat.le_of_ble_eq_true rfl, Nat.le_of_ble_eq_true rfl⟩) hP hS hA (fun H locs hP hS => ?_)
      refine lv_istore (lv' := [(14, .int r20), (12, .long w19), (0, .ref (ad 0)), (1, .int p1), (2, .int p2), (3, .long r1), (5, .long w6), (7, .long r7), (9, .long r9), (11, .int j12)]) hx hb dX5_chooseBest_83 hl (by decide) rfl (fun ls hl => ?_)
      refine lv_iload hx hb dX5_chooseBest_85 (lv_at hl 9 rfl) ?_
      obtain ⟨j23, v25, hf⟩ := bd1_some hf
      have J24 : ∀ (H : Heap) (locs : List Loc) (ls : Array Slot), va_P (dC, dI) vwCl (wX5 dA ad c_tree_parts c_bond_terms c_penceByUps c_pence c_turned c_called c_hold c_value c_marks c_act c_rowOfKey) H → va_D A (wX5 dA ad c_tree_parts c_bond_terms c_penceByUps c_pence c_turned c_called c_hold c_value c_marks c_act c_rowOfKey) → va_S A s.heap H locs → lv_has ls 15 [(0, .ref (ad 0)), (1, .int p1), (2, .int p2), (3, .long r1), (12, .long w19), (14, .int j23)] → W p l e rmX5_chooseBest s m ([.ref (ad 0), .int p1, .int p2] : List Value).toArray below meth c H locs 0 0 (MQ below (gQv (dC, dI) (wX5 dA ad c_tree_parts c_bond_terms c_penceByUps c_pence c_turned c_called o_c_hold o_c_value c_marks o_c_act c_rowOfKey) A) ([.ref (ad 0), .int p1, .int p2] : List Value).toArray s 0 0 A) (F0 m 110 ls []) := by
        intro H locs ls hP hD hS hl
        refine lv_aload_n hx hb dX5_chooseBest_110 rfl (lv_at hl 0 rfl) ?_
        refine lv_iload_n hx hb dX5_chooseBest_111 rfl (lv_at hl 1 rfl) ?_
        refine lv_lload_n hx hb dX5_chooseBest_112 rfl (lv_at hl 3 rfl) ?_
        refine lv_iload hx hb dX5_chooseBest_113 (lv_at hl 5 rfl) ?_
        refine lv_aload_n hx hb dX5_chooseBest_115 rfl (lv_at hl 0 rfl) ?_
        refine va_get (D := (dC, dI)) (ci := 5) (v := .ref (ad 3)) (C := RX5) (T := TX5) (N := 11) hx hb hts (fun w h => gw_mem (inX5 w h)) hown hK.1 hP 0 rfl rfl 1 (by decide) (hts _ (gw_mem wfX5_21)) (fun _ h9 => h9) rfl dX5_chooseBest_116 ?_
        refine lv_iload_n hx hb dX5_chooseBest_119 rfl (lv_at hl 2 rfl) ?_
        obtain ⟨r26, v27, hf⟩ := bd1_some hf
        have z28 := sg1 (ws := (wX5 dA ad c_tree_parts c_bond_terms c_penceByUps c_pence c_turned c_called c_hold c_value c_marks c_act c_rowOfKey)) (s0 := ((wX5 dA ad c_tree_parts c_bond_terms c_penceByUps c_pence c_turned c_called c_hold c_value c_marks c_act c_rowOfKey)).take 3) (s1 := ((wX5 dA ad c_tree_parts c_bond_terms c_penceByUps c_pence c_turned c_called c_hold c_value c_marks c_act c_rowOfKey)).drop 5) (x1 := (wX0 dA (fun i => ad (i + 3)) c_bond_terms)) rfl
        refine gpi (wf := (wX5 dA ad c_tree_parts c_bond_terms c_penceByUps c_pence c_turned c_called c_hold c_value c_marks c_act c_rowOfKey)) (va_runV (As := [.int p2]) (rest := [.int j23, .long r1, .int p1, .ref (ad 0)]) ⟨hx, hb, hml, hown, hts⟩ (tX0_couponOn l dC dI dA (fun i => ad (i + 3)) H.size v27) (ccX5_X0_couponOn hts ⟨Nat.le_of_ble_eq_true rfl, Nat.le_of_ble_eq_true rfl⟩) (gPreV (ci := 1) (q0 := 0) (psub z28 hP) hK (psubD z28 hD) rfl rfl) rfl rfl hl.1 rfl (lv_room (Nat.le_of_ble_eq_true rfl)) dX5_chooseBest_120 ⟨Nat.le_of_ble_eq_true rfl, Nat.le_of_ble_eq_true rfl⟩) hP hD hS hA z28 (sg1 (s0 := ((wX5 dA ad c_tree_parts c_bond_terms c_penceByUps c_pence c_turned c_called c_hold c_value c_marks c_act c_rowOfKey)).take 3) (s1 := ((wX5 dA ad c_tree_parts c_bond_terms c_penceByUps c_pence c_turned c_called c_hold c_value c_marks c_act c_rowOfKey)).drop 5) (x1 := (wX0 dA (fun i => ad (i + 3)) c_bond_terms)) rfl) (fun H locs hP hD hS => ?_)
        refine lv_i2l hx hb dX5_chooseBest_123 rfl ?_
        refine lv_lload hx hb dX5_chooseBest_124 (lv_at hl 4 rfl) ?_
        refine lv_ladd hx hb dX5_chooseBest_126 ?_
        obtain ⟨c_hold_29, c_value_30, c_act_31, v32, hf⟩ := bd3_some hf
        refine gcv (va_runV (As := [.int p1, .long r1, .int j23, .long ((Int32.toInt64 r26) + w19)]) (rest := []) ⟨hx, hb, hml, hown, hts⟩ (tX5_setRow l dC dI dA ad H.size v32) (ccX5_X5_setRow hts ⟨Nat.le_of_ble_eq_true rfl, Nat.le_of_ble_eq_true rfl⟩) (gPreV (ci := 5) (q0 := 0) hP hK hD rfl rfl) rfl rfl hl.1 rfl (lv_room (Nat.le_of_ble_eq_true rfl)) dX5_chooseBest_127 ⟨Nat.le_of_ble_eq_true rfl, Nat.le_of_ble_eq_true rfl⟩) hD hS hA (fun H locs hP hD hS => ?_)
        cases hf
        exact W.vret hx hb hr (fun t ht _ => gqv hP hD hS ht) hS.2.2 dX5_chooseBest_130
      replace hf := v25
      clear v25
      refine lv_if_eq (tgt := 110) hx hb dX5_chooseBest_87 (by decide) (fun k22 => ?_) (fun k22 => ?_)
      · replace hf := ifp k22 hf
        cases hf
        exact J24 _ _ _ hP hD hS (lv_sub hl [2, 3, 4, 5, 1, 0] rfl)
      · replace hf := ifn k22 hf
        refine lv_lload hx hb dX5_chooseBest_90 (lv_at hl 6 rfl) ?_
        refine lv_lload hx hb dX5_chooseBest_92 (lv_at hl 8 rfl) ?_
        refine W.lcmp hx hb dX5_chooseBest_94 ?_
        obtain ⟨j34, v36, hf⟩ := bd1_some hf
        have J35 : ∀ (H : Heap) (locs : List Loc) (ls : Array Slot), va_P (dC, dI) vwCl (wX5 dA ad c_tree_parts c_bond_terms c_penceByUps c_pence c_turned c_called c_hold c_value c_marks c_act c_rowOfKey) H → va_D A (wX5 dA ad c_tree_parts c_bond_terms c_penceByUps c_pence c_turned c_called c_hold c_value c_marks c_act c_rowOfKey) → va_S A s.heap H locs → lv_has ls 15 [(0, .ref (ad 0)), (1, .int p1), (2, .int p2), (3, .long r1), (12, .long w19)] → W p l e rmX5_chooseBest s m ([.ref (ad 0), .int p1, .int p2] : List Value).toArray below meth c H locs 0 0 (MQ below (gQv (dC, dI) (wX5 dA ad c_tree_parts c_bond_terms c_penceByUps c_pence c_turned c_called o_c_hold o_c_value c_marks o_c_act c_rowOfKey) A) ([.ref (ad 0), .int p1, .int p2] : List Value).toArray s 0 0 A) (F0 m 108 ls [.int j34]) := by
          intro H locs ls hP hD hS hl
          refine lv_istore (lv' := [(14, .int j34), (0, .ref (ad 0)), (1, .int p1), (2, .int p2), (3, .long r1), (12, .long w19)]) hx hb dX5_chooseBest_108 hl (by decide) rfl (fun ls hl => ?_)
          cases hf
          exact J24 _ _ _ hP hD hS (lv_sub hl [1, 2, 3, 4, 5, 0] rfl)
        replace hf := v36
        clear v36
        refine lv_if_le (tgt := 102) hx hb dX5_chooseBest_95 (by decide) (fun k33 => ?_) (fun k33 => ?_)
        · replace hf := ifp (lc_le.mp k33) hf
          refine lv_aload_n hx hb dX5_chooseBest_102 rfl (lv_at hl 2 rfl) ?_
          refine lv_iload_n hx hb dX5_chooseBest_103 rfl (lv_at hl 3 rfl) ?_
          refine lv_iload_n hx hb dX5_chooseBest_104 rfl (lv_at hl 4 rfl) ?_
          obtain ⟨r37, v38, hf⟩ := bd1_some hf
          refine gci (va_runV (As := [.int p1, .int p2]) (rest := []) ⟨hx, hb, hml, hown, hts⟩ (tX5_actOfCall l dC dI dA ad H.size v38) (ccX5_X5_actOfCall hts ⟨Nat.le_of_ble_eq_true rfl, Nat.le_of_ble_eq_true rfl⟩) (gPreV (ci := 5) (q0 := 0) hP hK hD rfl rfl) rfl rfl hl.1 rfl (lv_room (Nat.le_of_ble_eq_true rfl)) dX5_chooseBest_105 ⟨Nat.le_of_ble_eq_true rfl, Nat.le_of_ble_eq_true rfl⟩) hD hS hA (fun H locs hP hD hS => ?_)
          cases hf
          exact J35 _ _ _ hP hD hS (lv_sub hl [2, 3, 4, 5, 1] rfl)
        · replace hf := ifn (fun h => k33 (lc_le.mpr h)) hf
          refine lv_iconst (v := 1) hx hb dX5_chooseBest_98 (by decide) ?_
          refine lv_goto (tgt := 108) hx hb dX5_chooseBest_99 (by decide) ?_
          cases hf
          exact J35 _ _ _ hP hD hS (lv_sub hl [2, 3, 4, 5, 1] rfl)
    replace hf := v18
    clear v18
    refine lv_if_eq (tgt := 62) hx hb dX5_chooseBest_54 (by decide) (fun k15 => ?_) (fun k15 => ?_)
    · replace hf := ifp k15 hf
      refine lv_lload_n hx hb dX5_chooseBest_62 rfl (lv_at hl 4 rfl) ?_
      cases hf
      exact J17 _ _ _ hP hD hS (lv_sub hl [1, 2, 3, 4, 5, 6, 7, 0] rfl)
    · replace hf := ifn k15 hf
      refine lv_lload hx hb dX5_chooseBest_57 (lv_at hl 7 rfl) ?_
      refine lv_goto (tgt := 63) hx hb dX5_chooseBest_59 (by decide) ?_
      cases hf
      exact J17 _ _ _ hP hD hS (lv_sub hl [1, 2, 3, 4, 5, 6, 7, 0] rfl)
  replace hf := v14
  clear v14
  refine lv_if_lt (tgt := 49) hx hb dX5_chooseBest_35 (by decide) (fun k11 => ?_) (fun k11 => ?_)
  · replace hf := ifp (lc_lt.mp k11) hf
    refine lv_iconst (v := 0) hx hb dX5_chooseBest_49 (by decide) ?_
    cases hf
    exact J13 _ _ _ hP hD hS (lv_sub hl [4, 5, 6, 3, 2, 1, 0] rfl)
  · replace hf := ifn (fun h => k11 (lc_lt.mpr h)) hf
    refine lv_lload hx hb dX5_chooseBest_38 (lv_at hl 0 rfl) ?_
    refine lv_lload_n hx hb dX5_chooseBest_40 rfl (lv_at hl 3 rfl) ?_
    refine W.lcmp hx hb dX5_chooseBest_41 ?_
    refine lv_if_ge (tgt := 49) hx hb dX5_chooseBest_42 (by decide) (fun k39 => ?_) (fun k39 => ?_)
    · replace hf := ifp (lc_ge.mp k39) hf
      refine lv_iconst (v := 0) hx hb dX5_chooseBest_49 (by decide) ?_
      cases hf
      exact J13 _ _ _ hP hD hS (lv_sub hl [4, 5, 6, 3, 2, 1, 0] rfl)
    · replace hf := ifn (fun h => k39 (lc_ge.mpr h)) hf
      refine lv_iconst (v := 1) hx hb dX5_chooseBest_45 (by decide) ?_
      refine lv_goto (tgt := 50) hx hb dX5_chooseBest_46 (by decide) ?_
      cases hf
      exact J13 _ _ _ hP hD hS (lv_sub hl [4, 5, 6, 3, 2, 1, 0] rfl)
theorem ccX5_X0_face {R : Room} {s : State} {args : Array Value} {c0 : Cond} (ht : ∀ w ∈ wq c0, w.before args s = true) (hR : rmX0_face.frames + 1 ≤ R.frames ∧ 8 + (1 + 11) + rmX0_face.locals ≤ R.locals) : CallW R s args RX5 RX0 144 yX0_face cX0_face 1 (some .int) (wq (.code yX0_face cX0_face 1 (some .int))) rmX0_face 0 0 0 := gCW 0 ht wcX0_face wmX5_144 wiX0_face weX0_face wnX0 (by decide +kernel) rfl rfl hR
abbrev rmX5_endOnLastDay : Room := { frames := 2, cells := 0, slots := 0, locals := 46 }
set_option maxHeartbeats 4000000 in
set_option maxRecDepth 100000 in
theorem tX5_endOnLastDay (l : Launch) (dC : Nat → ClassId) (dI : Nat → Nat → Nat) (dA : Nat → ClassId) (ad : Nat → Nat) (sz : Nat) {p1 : Int32} {c_tree_parts : Nat → Int32} {c_bond_terms : Nat → Int32} {c_penceByUps : Nat → Int64} {c_pence : Nat → Int64} {c_turned : Nat → Int64} {c_called : Nat → Int64} {c_hold : Nat → Int64} {c_value : Nat → Int64} {c_marks : Nat → Int32} {c_act : Nat → Int32} {c_rowOfKey : Nat → Int32} {o_c_hold : Nat → Int64} {o_c_value : Nat → Int64} {o_c_act : Nat → Int32} (hf : fX5_endOnLastDay p1 c_tree_parts c_bond_terms c_turned c_hold c_value c_act = some (o_c_hold, o_c_value, o_c_act)) : Met l yX5_endOnLastDay (wq (Cond.code yX5_endOnLastDay cX5_endOnLastDay 5 none)) rmX5_endOnLastDay (gP [.ref (ad 0), .int p1] (dC, dI) dA (wX5 dA ad c_tree_parts c_bond_terms c_penceByUps c_pence c_turned c_called c_hold c_value c_marks c_act c_rowOfKey) sz) (gQv (dC, dI) (wX5 dA ad c_tree_parts c_bond_terms c_penceByUps c_pence c_turned c_called o_c_hold o_c_value c_marks o_c_act c_rowOfKey) (va_A (wX5 dA ad c_tree_parts c_bond_terms c_penceByUps c_pence c_turned c_called c_hold c_value c_marks c_act c_rowOfKey) sz)) 0 0 (va_A (wX5 dA ad c_tree_parts c_bond_terms c_penceByUps c_pence c_turned c_called c_hold c_value c_marks c_act c_rowOfKey) sz) := by
  refine Met.ofW (cc := cX5_endOnLastDay) (maxL := 5) (ret := none) (by decide) rfl ?_
  intro p e s m args below meth c s₁ B hml hv
  obtain ⟨rfl, hsz, hP, hK, hD0⟩ := hv
  have hx := B.exec
  have hb := B.bytes
  have hr := B.returns
  have hts := atoms_spec (ws := wq (Cond.code yX5_endOnLastDay cX5_endOnLastDay 5 none)) B.pre
  have hown : s.vm.findClass RX5 = some m.cls := findClass_of_methodNamed B.named
  have hlocks := B.notSynchronized
  clear B
  subst hsz
  have hD := hD0.self (sz := s.heap.size)
  generalize hAe : va_A (wX5 dA ad c_tree_parts c_bond_terms c_penceByUps c_pence c_turned c_called c_hold c_value c_marks c_act c_rowOfKey) s.heap.size = A at hD ⊢
  have hA : ∀ q : Nat, s.heap.size ≤ q → A q := fun q h => by rw [← hAe]; exact Or.inr h
  clear hAe hD0
  have hS : va_S A s.heap s.heap [] := va_S.rf
  have hl := lv_entry ([.ref (ad 0), .int p1]) (n := 5) (Nat.le_of_ble_eq_true rfl)
  rw [lg_entry_eq]
  generalize (lg_sl ([.ref (ad 0), .int p1]) ++ List.replicate (5 - (lg_sl ([.ref (ad 0), .int p1])).length) Slot.unset).toArray = ls at hl ⊢
  have hl : lv_has ls 5 [(0, .ref (ad 0)), (1, .int p1)] := hl
  change W p l e rmX5_endOnLastDay s m ([.ref (ad 0), .int p1] : List Value).toArray below meth c s.heap [] 0 0 _ _
  unfold fX5_endOnLastDay at hf
  refine lv_aload_n hx hb dX5_endOnLastDay_0 rfl (lv_at hl 0 rfl) ?_
  refine va_get (D := (dC, dI)) (ci := 5) (v := .ref (ad 3)) (C := RX5) (T := TX5) (N := 11) hx hb hts (fun w h => gw_mem (inX5 w h)) hown hK.1 hP 0 rfl rfl 1 (by decide) (hts _ (gw_mem wfX5_21)) (fun _ h9 => h9) rfl dX5_endOnLastDay_1 ?_
  refine lv_aload_n hx hb dX5_endOnLastDay_4 rfl (lv_at hl 0 rfl) ?_
  refine va_get (D := (dC, dI)) (ci := 5) (v := .ref (ad 1)) (C := RX5) (T := TX5) (N := 11) hx hb hts (fun w h => gw_mem (inX5 w h)) hown hK.1 hP 0 rfl rfl 0 (by decide) (hts _ (gw_mem wfX5_12)) (fun _ h9 => h9) rfl dX5_endOnLastDay_5 ?_
  obtain ⟨r1, v2, hf⟩ := bd1_some hf
  have z3 := sg1 (ws := (wX5 dA ad c_tree_parts c_bond_terms c_penceByUps c_pence c_turned c_called c_hold c_value c_marks c_act c_rowOfKey)) (s0 := ((wX5 dA ad c_tree_parts c_bond_terms c_penceByUps c_pence c_turned c_called c_hold c_value c_marks c_act c_rowOfKey)).take 1) (s1 := ((wX5 dA ad c_tree_parts c_bond_terms c_penceByUps c_pence c_turned c_called c_hold c_value c_marks c_act c_rowOfKey)).drop 3) (x1 := (wX7 dA (fun i => ad (i + 1)) c_tree_parts)) rfl
  refine gpi (wf := (wX5 dA ad c_tree_parts c_bond_terms c_penceByUps c_pence c_turned c_called c_hold c_value c_marks c_act c_rowOfKey)) (va_runV (As := []) (rest := [.ref (ad 3)]) ⟨hx, hb, hml, hown, hts⟩ (tX7_lastDay l dC dI dA (fun i => ad (i + 1)) s.heap.size v2) (ccX5_X7_lastDay hts ⟨Nat.le_of_ble_eq_true rfl, Nat.le_of_ble_eq_true rfl⟩) (gPreV (ci := 7) (q0 := 0) (psub z3 hP) hK (psubD z3 hD) rfl rfl) rfl rfl hl.1 rfl (lv_room (Nat.le_of_ble_eq_true rfl)) dX5_endOnLastDay_8 ⟨Nat.le_of_ble_eq_true rfl, Nat.le_of_ble_eq_true rfl⟩) hP hD hS hA z3 (sg1 (s0 := ((wX5 dA ad c_tree_parts c_bond_terms c_penceByUps c_pence c_turned c_called c_hold c_value c_marks c_act c_rowOfKey)).take 1) (s1 := ((wX5 dA ad c_tree_parts c_bond_terms c_penceByUps c_pence c_turned c_called c_hold c_value c_marks c_act c_rowOfKey)).drop 3) (x1 := (wX7 dA (fun i => ad (i + 1)) c_tree_parts)) rfl) (fun H locs hP hD hS => ?_)
  obtain ⟨r4, v5, hf⟩ := bd1_some hf
  have z6 := sg1 (ws := (wX5 dA ad c_tree_parts c_bond_terms c_penceByUps c_pence c_turned c_called c_hold c_value c_marks c_act c_rowOfKey)) (s0 := ((wX5 dA ad c_tree_parts c_bond_terms c_penceByUps c_pence c_turned c_called c_hold c_value c_marks c_act c_rowOfKey)).take 3) (s1 := ((wX5 dA ad c_tree_parts c_bond_terms c_penceByUps c_pence c_turned c_called c_hold c_value c_marks c_act c_rowOfKey)).drop 5) (x1 := (wX0 dA (fun i => ad (i + 3)) c_bond_terms)) rfl
  refine gpi (wf := (wX5 dA ad c_tree_parts c_bond_terms c_penceByUps c_pence c_turned c_called c_hold c_value c_marks c_act c_rowOfKey)) (va_runV (As := [.int r1]) (rest := []) ⟨hx, hb, hml, hown, hts⟩ (tX0_couponOn l dC dI dA (fun i => ad (i + 3)) H.size v5) (ccX5_X0_couponOn hts ⟨Nat.le_of_ble_eq_true rfl, Nat.le_of_ble_eq_true rfl⟩) (gPreV (ci := 1) (q0 := 0) (psub z6 hP) hK (psubD z6 hD) rfl rfl) rfl rfl hl.1 rfl (lv_room (Nat.le_of_ble_eq_true rfl)) dX5_endOnLastDay_11 ⟨Nat.le_of_ble_eq_true rfl, Nat.le_of_ble_eq_true rfl⟩) hP hD hS hA z6 (sg1 (s0 := ((wX5 dA ad c_tree_parts c_bond_terms c_penceByUps c_pence c_turned c_called c_hold c_value c_marks c_act c_rowOfKey)).take 3) (s1 := ((wX5 dA ad c_tree_parts c_bond_terms c_penceByUps c_pence c_turned c_called c_hold c_value c_marks c_act c_rowOfKey)).drop 5) (x1 := (wX0 dA (fun i => ad (i + 3)) c_bond_terms)) rfl) (fun H locs hP hD hS => ?_)
  refine lv_istore_n (lv' := [(2, .int r4), (0, .ref (ad 0)), (1, .int p1)]) hx hb dX5_endOnLastDay_14 rfl hl (by decide) rfl (fun ls hl => ?_)
  refine lv_aload_n hx hb dX5_endOnLastDay_15 rfl (lv_at hl 1 rfl) ?_
  refine lv_iload_n hx hb dX5_endOnLastDay_16 rfl (lv_at hl 2 rfl) ?_
  obtain ⟨r7, v8, hf⟩ := bd1_some hf
  refine gcl (va_runV (As := [.int p1]) (rest := []) ⟨hx, hb, hml, hown, hts⟩ (tX5_turnedAt l dC dI dA ad H.size v8) (ccX5_X5_turnedAt hts ⟨Nat.le_of_ble_eq_true rfl, Nat.le_of_ble_eq_true rfl⟩) (gPreV (ci := 5) (q0 := 0) hP hK hD rfl rfl) rfl rfl hl.1 rfl (lv_room (Nat.le_of_ble_eq_true rfl)) dX5_endOnLastDay_17 ⟨Nat.le_of_ble_eq_true rfl, Nat.le_of_ble_eq_true rfl⟩) hD hS hA (fun H locs hP hD hS => ?_)
  refine lv_lstore_n (lv' := [(3, .long r7), (2, .int r4), (0, .ref (ad 0)), (1, .int p1)]) hx hb dX5_endOnLastDay_20 rfl hl (by decide) rfl (fun ls hl => ?_)
  refine lv_lload_n hx hb dX5_endOnLastDay_21 rfl (lv_at hl 0 rfl) ?_
  refine lv_aload_n hx hb dX5_endOnLastDay_22 rfl (lv_at hl 2 rfl) ?_
  refine va_get (D := (dC, dI)) (ci := 5) (v := .ref (ad 3)) (C := RX5) (T := TX5) (N := 11) hx hb hts (fun w h => gw_mem (inX5 w h)) hown hK.1 hP 0 rfl rfl 1 (by decide) (hts _ (gw_mem wfX5_21)) (fun _ h9 => h9) rfl dX5_endOnLastDay_23 ?_
  obtain ⟨r9, v10, hf⟩ := bd1_some hf
  have z11 := sg1 (ws := (wX5 dA ad c_tree_parts c_bond_terms c_penceByUps c_pence c_turned c_called c_hold c_value c_marks c_act c_rowOfKey)) (s0 := ((wX5 dA ad c_tree_parts c_bond_terms c_penceByUps c_pence c_turned c_called c_hold c_value c_marks c_act c_rowOfKey)).take 3) (s1 := ((wX5 dA ad c_tree_parts c_bond_terms c_penceByUps c_pence c_turned c_called c_hold c_value c_marks c_act c_rowOfKey)).drop 5) (x1 := (wX0 dA (fun i => ad (i + 3)) c_bond_terms)) rfl
  refine gpi (wf := (wX5 dA ad c_tree_parts c_bond_terms c_penceByUps c_pence c_turned c_called c_hold c_value c_marks c_act c_rowOfKey)) (va_runV (As := []) (rest := [.long r7]) ⟨hx, hb, hml, hown, hts⟩ (tX0_face l dC dI dA (fun i => ad (i + 3)) H.size v10) (ccX5_X0_face hts ⟨Nat.le_of_ble_eq_true rfl, Nat.le_of_ble_eq_true rfl⟩) (gPreV (ci := 1) (q0 := 0) (psub z11 hP) hK (psubD z11 hD) rfl rfl) rfl rfl hl.1 rfl (lv_room (Nat.le_of_ble_eq_true rfl)) dX5_endOnLastDay_26 ⟨Nat.le_of_ble_eq_true rfl, Nat.le_of_ble_eq_true rfl⟩) hP hD hS hA z11 (sg1 (s0 := ((wX5 dA ad c_tree_parts c_bond_terms c_penceByUps c_pence c_turned c_called c_hold c_value c_marks c_act c_rowOfKey)).take 3) (s1 := ((wX5 dA ad c_tree_parts c_bond_terms c_penceByUps c_pence c_turned c_called c_hold c_value c_marks c_act c_rowOfKey)).drop 5) (x1 := (wX0 dA (fun i => ad (i + 3)) c_bond_terms)) rfl) (fun H locs hP hD hS => ?_)
  refine lv_i2l hx hb dX5_endOnLastDay_29 rfl ?_
  refine W.lcmp hx hb dX5_endOnLastDay_30 ?_
  obtain ⟨c_hold_13, c_value_14, c_act_15, v17, hf⟩ := bd3_some hf
  have J16 : ∀ (H : Heap) (locs : List Loc) (ls : Array Slot), va_P (dC, dI) vwCl (wX5 dA ad c_tree_parts c_bond_terms c_penceByUps c_pence c_turned c_called c_hold_13 c_value_14 c_marks c_act_15 c_rowOfKey) H → va_D A (wX5 dA ad c_tree_parts c_bond_terms c_penceByUps c_pence c_turned c_called c_hold_13 c_value_14 c_marks c_act_15 c_rowOfKey) → va_S A s.heap H locs → lv_has ls 5 [] → W p l e rmX5_endOnLastDay s m ([.ref (ad 0), .int p1] : List Value).toArray below meth c H locs 0 0 (MQ below (gQv (dC, dI) (wX5 dA ad c_tree_parts c_bond_terms c_penceByUps c_pence c_turned c_called o_c_hold o_c_value c_marks o_c_act c_rowOfKey) A) ([.ref (ad 0), .int p1] : List Value).toArray s 0 0 A) (F0 m 70 ls []) := by
    intro H locs ls hP hD hS hl
    cases hf
    exact W.vret hx hb hr (fun t ht _ => gqv hP hD hS ht) hS.2.2 dX5_endOnLastDay_70
  replace hf := v17
  clear v17
  refine lv_if_le (tgt := 51) hx hb dX5_endOnLastDay_31 (by decide) (fun k12 => ?_) (fun k12 => ?_)
  · replace hf := ifp (lc_le.mp k12) hf
    refine lv_aload_n hx hb dX5_endOnLastDay_51 rfl (lv_at hl 2 rfl) ?_
    refine lv_iload_n hx hb dX5_endOnLastDay_52 rfl (lv_at hl 3 rfl) ?_
    refine lv_ldc2 (v := (-2)) hx hb hown (hts _ (gw_mem wkX5_75)) dX5_endOnLastDay_53 ?_
    refine lv_iconst (v := 5) hx hb dX5_endOnLastDay_56 (by decide) ?_
    refine lv_iload_n hx hb dX5_endOnLastDay_57 rfl (lv_at hl 1 rfl) ?_
    refine lv_aload_n hx hb dX5_endOnLastDay_58 rfl (lv_at hl 2 rfl) ?_
    refine va_get (D := (dC, dI)) (ci := 5) (v := .ref (ad 3)) (C := RX5) (T := TX5) (N := 11) hx hb hts (fun w h => gw_mem (inX5 w h)) hown hK.1 hP 0 rfl rfl 1 (by decide) (hts _ (gw_mem wfX5_21)) (fun _ h9 => h9) rfl dX5_endOnLastDay_59 ?_
    obtain ⟨r18, v19, hf⟩ := bd1_some hf
    have z20 := sg1 (ws := (wX5 dA ad c_tree_parts c_bond_terms c_penceByUps c_pence c_turned c_called c_hold c_value c_marks c_act c_rowOfKey)) (s0 := ((wX5 dA ad c_tree_parts c_bond_terms c_penceByUps c_pence c_turned c_called c_hold c_value c_marks c_act c_rowOfKey)).take 3) (s1 := ((wX5 dA ad c_tree_parts c_bond_terms c_penceByUps c_pence c_turned c_called c_hold c_value c_marks c_act c_rowOfKey)).drop 5) (x1 := (wX0 dA (fun i => ad (i + 3)) c_bond_terms)) rfl
    refine gpi (wf := (wX5 dA ad c_tree_parts c_bond_terms c_penceByUps c_pence c_turned c_called c_hold c_value c_marks c_act c_rowOfKey)) (va_runV (As := []) (rest := [.int r4, .int 5, .long (-2), .int p1, .ref (ad 0)]) ⟨hx, hb, hml, hown, hts⟩ (tX0_face l dC dI dA (fun i => ad (i + 3)) H.size v19) (ccX5_X0_face hts ⟨Nat.le_of_ble_eq_true rfl, Nat.le_of_ble_eq_true rfl⟩) (gPreV (ci := 1) (q0 := 0) (psub z20 hP) hK (psubD z20 hD) rfl rfl) rfl rfl hl.1 rfl (lv_room (Nat.le_of_ble_eq_true rfl)) dX5_endOnLastDay_62 ⟨Nat.le_of_ble_eq_true rfl, Nat.le_of_ble_eq_true rfl⟩) hP hD hS hA z20 (sg1 (s0 := ((wX5 dA ad c_tree_parts c_bond_terms c_penceByUps c_pence c_turned c_called c_hold c_value c_marks c_act c_rowOfKey)).take 3) (s1 := ((wX5 dA ad c_tree_parts c_bond_terms c_penceByUps c_pence c_turned c_called c_hold c_value c_marks c_act c_rowOfKey)).drop 5) (x1 := (wX0 dA (fun i => ad (i + 3)) c_bond_terms)) rfl) (fun H locs hP hD hS => ?_)
    refine lv_iadd hx hb dX5_endOnLastDay_65 ?_
    refine lv_i2l hx hb dX5_endOnLastDay_66 rfl ?_
    obtain ⟨c_hold_21, c_value_22, c_act_23, v24, hf⟩ := bd3_some hf
    refine gcv (va_runV (As := [.int p1, .long (-2), .int 5, .long (Int32.toInt64 (r4 + r18))]) (rest := []) ⟨hx, hb, hml, hown, hts⟩ (tX5_setRow l dC dI dA ad H.size v24) (ccX5_X5_setRow hts ⟨Nat.le_of_ble_eq_true rfl, Nat.le_of_ble_eq_true rfl⟩) (gPreV (ci := 5) (q0 := 0) hP hK hD rfl rfl) rfl rfl hl.1 rfl (lv_room (Nat.le_of_ble_eq_true rfl)) dX5_endOnLastDay_67 ⟨Nat.le_of_ble_eq_true rfl, Nat.le_of_ble_eq_true rfl⟩) hD hS hA (fun H locs hP hD hS => ?_)
    cases hf
    exact J16 _ _ _ hP hD hS (lv_sub hl [] rfl)
  · replace hf := ifn (fun h => k12 (lc_le.mpr h)) hf
    refine lv_aload_n hx hb dX5_endOnLastDay_34 rfl (lv_at hl 2 rfl) ?_
    refine lv_iload_n hx hb dX5_endOnLastDay_35 rfl (lv_at hl 3 rfl) ?_
    refine lv_ldc2 (v := (-2)) hx hb hown (hts _ (gw_mem wkX5_75)) dX5_endOnLastDay_36 ?_
    refine lv_bipush (v := 6) hx hb dX5_endOnLastDay_39 (by decide) ?_
    refine lv_iload_n hx hb dX5_endOnLastDay_41 rfl (lv_at hl 1 rfl) ?_
    refine lv_i2l hx hb dX5_endOnLastDay_42 rfl ?_
    refine lv_lload_n hx hb dX5_endOnLastDay_43 rfl (lv_at hl 0 rfl) ?_
    refine lv_ladd hx hb dX5_endOnLastDay_44 ?_
    obtain ⟨c_hold_25, c_value_26, c_act_27, v28, hf⟩ := bd3_some hf
    refine gcv (va_runV (As := [.int p1, .long (-2), .int 6, .long ((Int32.toInt64 r4) + r7)]) (rest := []) ⟨hx, hb, hml, hown, hts⟩ (tX5_setRow l dC dI dA ad H.size v28) (ccX5_X5_setRow hts ⟨Nat.le_of_ble_eq_true rfl, Nat.le_of_ble_eq_true rfl⟩) (gPreV (ci := 5) (q0 := 0) hP hK hD rfl rfl) rfl rfl hl.1 rfl (lv_room (Nat.le_of_ble_eq_true rfl)) dX5_endOnLastDay_45 ⟨Nat.le_of_ble_eq_true rfl, Nat.le_of_ble_eq_true rfl⟩) hD hS hA (fun H locs hP hD hS => ?_)
    refine lv_goto (tgt := 70) hx hb dX5_endOnLastDay_48 (by decide) ?_
    cases hf
    exact J16 _ _ _ hP hD hS (lv_sub hl [] rfl)
theorem ccX8_J6_bitCount_0f7a4 {R : Room} {s : State} {args : Array Value} {c0 : Cond} (ht : ∀ w ∈ wq c0, w.before args s = true) (hR : rmJ6_bitCount_0f7a4.frames + 1 ≤ R.frames ∧ 8 + (1 + 11) + rmJ6_bitCount_0f7a4.locals ≤ R.locals) : CallB R s args RX8 367 yJ6_bitCount_0f7a4 cJ6_bitCount_0f7a4 1 (some .int) (wq (.code yJ6_bitCount_0f7a4 cJ6_bitCount_0f7a4 1 (some .int))) rmJ6_bitCount_0f7a4 0 0 1 ∧ (Cond.static yJ6_bitCount_0f7a4).before args s = true := gCS 1 ht wcJ6_bitCount_0f7a4 wmX8_367 wtJ6_bitCount_0f7a4 wnJ6 (by decide +kernel) rfl rfl hR
abbrev rmX8_upsOf : Room := { frames := 1, cells := 0, slots := 0, locals := 20 }
set_option maxHeartbeats 4000000 in
set_option maxRecDepth 100000 in
theorem tX8_upsOf (l : Launch) (dC : Nat → ClassId) (dI : Nat → Nat → Nat) (dA : Nat → ClassId) (sz : Nat) {p0 : Int32} {r : Int32} (hf : fX8_upsOf p0 = some (r)) : Met l yX8_upsOf (wq (Cond.code yX8_upsOf cX8_upsOf 1 (some .int))) rmX8_upsOf (gP [.int p0] (dC, dI) dA [] sz) (gQi (dC, dI) r [] (va_A [] sz)) 0 0 (va_A [] sz) := by
  refine Met.ofW (cc := cX8_upsOf) (maxL := 1) (ret := (some .int)) (by decide) rfl ?_
  intro p e s m args below meth c s₁ B hml hv
  obtain ⟨rfl, hsz, hP, hK, hD0⟩ := hv
  have hx := B.exec
  have hb := B.bytes
  have hr := B.returns
  have hts := atoms_spec (ws := wq (Cond.code yX8_upsOf cX8_upsOf 1 (some .int))) B.pre
  have hown : s.vm.findClass RX8 = some m.cls := findClass_of_methodNamed B.named
  have hlocks := B.notSynchronized
  clear B
  subst hsz
  have hD := hD0.self (sz := s.heap.size)
  generalize hAe : va_A [] s.heap.size = A at hD ⊢
  have hA : ∀ q : Nat, s.heap.size ≤ q → A q := fun q h => by rw [← hAe]; exact Or.inr h
  clear hAe hD0
  have hS : va_S A s.heap s.heap [] := va_S.rf
  have hl := lv_entry ([.int p0]) (n := 1) (Nat.le_of_ble_eq_true rfl)
  rw [lg_entry_eq]
  generalize (lg_sl ([.int p0]) ++ List.replicate (1 - (lg_sl ([.int p0])).length) Slot.unset).toArray = ls at hl ⊢
  have hl : lv_has ls 1 [(0, .int p0)] := hl
  change W p l e rmX8_upsOf s m ([.int p0] : List Value).toArray below meth c s.heap [] 0 0 _ _
  unfold fX8_upsOf at hf
  refine lv_iload_n hx hb dX8_upsOf_0 rfl (lv_at hl 0 rfl) ?_
  refine lv_iconst (v := 1) hx hb dX8_upsOf_1 (by decide) ?_
  obtain ⟨j2, v4, hf⟩ := bd1_some hf
  have J3 : ∀ (H : Heap) (locs : List Loc) (ls : Array Slot), va_P (dC, dI) vwCl [] H → va_D A [] → va_S A s.heap H locs → lv_has ls 1 [] → W p l e rmX8_upsOf s m ([.int p0] : List Value).toArray below meth c H locs 0 0 (MQ below (gQi (dC, dI) r [] A) ([.int p0] : List Value).toArray s 0 0 A) (F0 m 15 ls [.int j2]) := by
    intro H locs ls hP hD hS hl
    cases hf
    exact W.iret hx hb hr (fun t ht _ => gqi hP hD hS ht) hS.2.2 dX8_upsOf_15
  replace hf := v4
  clear v4
  refine lv_icmp_ge (tgt := 9) hx hb dX8_upsOf_2 (by decide) (fun k1 => ?_) (fun k1 => ?_)
  · replace hf := ifp k1 hf
    refine lv_iload_n hx hb dX8_upsOf_9 rfl (lv_at hl 0 rfl) ?_
    obtain ⟨r5, v6, hf⟩ := bd1_some hf
    refine gci0 (va_runS (As := [.int p0]) (rest := []) ⟨hx, hb, hml, hown, hts⟩ (tJ6_bitCount_0f7a4 l dC dI dA s.heap.size v6) (ccX8_J6_bitCount_0f7a4 hts ⟨Nat.le_of_ble_eq_true rfl, Nat.le_of_ble_eq_true rfl⟩) (gPreS0 hK) rfl rfl hl.1 rfl (lv_room (Nat.le_of_ble_eq_true rfl)) dX8_upsOf_10 ⟨Nat.le_of_ble_eq_true rfl, Nat.le_of_ble_eq_true rfl⟩) hP hS hA (fun H locs hP hS => ?_)
    refine lv_iconst (v := 1) hx hb dX8_upsOf_13 (by decide) ?_
    refine lv_isub hx hb dX8_upsOf_14 ?_
    cases hf
    exact J3 _ _ _ hP hD hS (lv_sub hl [] rfl)
  · replace hf := ifn k1 hf
    refine lv_iconst (v := 0) hx hb dX8_upsOf_5 (by decide) ?_
    refine lv_goto (tgt := 15) hx hb dX8_upsOf_6 (by decide) ?_
    cases hf
    exact J3 _ _ _ hP hD hS (lv_sub hl [] rfl)
theorem ccX5_X8_upsOf {R : Room} {s : State} {args : Array Value} {c0 : Cond} (hN : gN s) (ht : ∀ w ∈ wq c0, w.before args s = true) (hR : rmX8_upsOf.frames + 1 ≤ R.frames ∧ 8 + (1 + 11) + rmX8_upsOf.locals ≤ R.locals) : va_CN R s args RX5 108 yX8_upsOf RX8 cX8_upsOf 1 (some .int) (wq (.code yX8_upsOf cX8_upsOf 1 (some .int))) rmX8_upsOf 0 0 1 ∧ (Cond.static yX8_upsOf).before args s = true ∧ True := gCSN 1 hN ht wcX8_upsOf wmX5_108 wtX8_upsOf wnX8 (by decide +kernel) rfl rfl hR
theorem ccX5_X8_within {R : Room} {s : State} {args : Array Value} {c0 : Cond} (hN : gN s) (ht : ∀ w ∈ wq c0, w.before args s = true) (hR : rmX8_within.frames + 1 ≤ R.frames ∧ 8 + (3 + 11) + rmX8_within.locals ≤ R.locals) : va_CN R s args RX5 111 yX8_within RX8 cX8_within 3 (some .boolean) (wq (.code yX8_within cX8_within 3 (some .boolean))) rmX8_within 0 0 3 ∧ (Cond.static yX8_within).before args s = true ∧ True := gCSN 3 hN ht wcX8_within wmX5_111 wtX8_within wnX8 (by decide +kernel) rfl rfl hR
theorem ccX5_X0_softLevel {R : Room} {s : State} {args : Array Value} {c0 : Cond} (ht : ∀ w ∈ wq c0, w.before args s = true) (hR : rmX0_softLevel.frames + 1 ≤ R.frames ∧ 8 + (1 + 11) + rmX0_softLevel.locals ≤ R.locals) : CallW R s args RX5 RX0 115 yX0_softLevel cX0_softLevel 1 (some .int) (wq (.code yX0_softLevel cX0_softLevel 1 (some .int))) rmX0_softLevel 0 0 0 := gCW 0 ht wcX0_softLevel wmX5_115 wiX0_softLevel weX0_softLevel wnX0 (by decide +kernel) rfl rfl hR
theorem ccX5_X0_mayTurnOn {R : Room} {s : State} {args : Array Value} {c0 : Cond} (ht : ∀ w ∈ wq c0, w.before args s = true) (hR : rmX0_mayTurnOn.frames + 1 ≤ R.frames ∧ 8 + (2 + 11) + rmX0_mayTurnOn.locals ≤ R.locals) : CallW R s args RX5 RX0 118 yX0_mayTurnOn cX0_mayTurnOn 2 (some .boolean) (wq (.code yX0_mayTurnOn cX0_mayTurnOn 2 (some .boolean))) rmX0_mayTurnOn 0 0 1 := gCW 1 ht wcX0_mayTurnOn wmX5_118 wiX0_mayTurnOn weX0_mayTurnOn wnX0 (by decide +kernel) rfl rfl hR
theorem ccX5_X0_turnedWorth {R : Room} {s : State} {args : Array Value} {c0 : Cond} (ht : ∀ w ∈ wq c0, w.before args s = true) (hR : rmX0_turnedWorth.frames + 1 ≤ R.frames ∧ 8 + (9 + 11) + rmX0_turnedWorth.locals ≤ R.locals) : CallW R s args RX5 RX0 121 yX0_turnedWorth cX0_turnedWorth 9 (some .long) (wq (.code yX0_turnedWorth cX0_turnedWorth 9 (some .long))) rmX0_turnedWorth 0 0 2 := gCW 2 ht wcX0_turnedWorth wmX5_121 wiX0_turnedWorth weX0_turnedWorth wnX0 (by decide +kernel) rfl rfl hR
theorem ccX5_X0_highDays {R : Room} {s : State} {args : Array Value} {c0 : Cond} (ht : ∀ w ∈ wq c0, w.before args s = true) (hR : rmX0_highDays.frames + 1 ≤ R.frames ∧ 8 + (2 + 11) + rmX0_highDays.locals ≤ R.locals) : CallW R s args RX5 RX0 128 yX0_highDays cX0_highDays 2 (some .int) (wq (.code yX0_highDays cX0_highDays 2 (some .int))) rmX0_highDays 0 0 1 := gCW 1 ht wcX0_highDays wmX5_128 wiX0_highDays weX0_highDays wnX0 (by decide +kernel) rfl rfl hR
theorem ccX5_X0_softLeast {R : Room} {s : State} {args : Array Value} {c0 : Cond} (ht : ∀ w ∈ wq c0, w.before args s = true) (hR : rmX0_softLeast.frames + 1 ≤ R.frames ∧ 8 + (1 + 11) + rmX0_softLeast.locals ≤ R.locals) : CallW R s args RX5 RX0 131 yX0_softLeast cX0_softLeast 1 (some .int) (wq (.code yX0_softLeast cX0_softLeast 1 (some .int))) rmX0_softLeast 0 0 0 := gCW 0 ht wcX0_softLeast wmX5_131 wiX0_softLeast weX0_softLeast wnX0 (by decide +kernel) rfl rfl hR
abbrev rmX5_layOutRow : Room := { frames := 2, cells := 0, slots := 0, locals := 51 }
set_option maxHeartbeats 4000000 in
set_option maxRecDepth 100000 in
theorem tX5_layOutRow (l : Launch) (dC : Nat → ClassId) (dI : Nat → Nat → Nat) (dA : Nat → ClassId) (ad : Nat → Nat) (sz : Nat) {p1 : Int32} {p2 : Int32} {c_tree_parts : Nat → Int32} {c_bond_terms : Nat → Int32} {c_penceByUps : Nat → Int64} {c_pence : Nat → Int64} {c_turned : Nat → Int64} {c_called : Nat → Int64} {c_hold : Nat → Int64} {c_value : Nat → Int64} {c_marks : Nat → Int32} {c_act : Nat → Int32} {c_rowOfKey : Nat → Int32} {o_c_pence : Nat → Int64} {o_c_turned : Nat → Int64} {o_c_called : Nat → Int64} {o_c_marks : Nat → Int32} (hf : fX5_layOutRow p1 p2 c_bond_terms c_penceByUps c_pence c_turned c_called c_marks = some (o_c_pence, o_c_turned, o_c_called, o_c_marks)) : Met l yX5_layOutRow (wq (Cond.code yX5_layOutRow cX5_layOutRow 9 none)) rmX5_layOutRow (gP [.ref (ad 0), .int p1, .int p2] (dC, dI) dA (wX5 dA ad c_tree_parts c_bond_terms c_penceByUps c_pence c_turned c_called c_hold c_value c_marks c_act c_rowOfKey) sz) (gQv (dC, dI) (wX5 dA ad c_tree_parts c_bond_terms c_penceByUps o_c_pence o_c_turned o_c_called c_hold c_value o_c_marks c_act c_rowOfKey) (va_A (wX5 dA ad c_tree_parts c_bond_terms c_penceByUps c_pence c_turned c_called c_hold c_value c_marks c_act c_rowOfKey) sz)) 0 0 (va_A (wX5 dA ad c_tree_parts c_bond_terms c_penceByUps c_pence c_turned c_called c_hold c_value c_marks c_act c_rowOfKey) sz) := by
  refine Met.ofW (cc := cX5_layOutRow) (maxL := 9) (ret := none) (by decide) rfl ?_
  intro p e s m args below meth c s₁ B hml hv
  obtain ⟨rfl, hsz, hP, hK, hD0⟩ := hv
  have hx := B.exec
  have hb := B.bytes
  have hr := B.returns
  have hts := atoms_spec (ws := wq (Cond.code yX5_layOutRow cX5_layOutRow 9 none)) B.pre
  have hown : s.vm.findClass RX5 = some m.cls := findClass_of_methodNamed B.named
  have hlocks := B.notSynchronized
  clear B
  subst hsz
  have hD := hD0.self (sz := s.heap.size)
  generalize hAe : va_A (wX5 dA ad c_tree_parts c_bond_terms c_penceByUps c_pence c_turned c_called c_hold c_value c_marks c_act c_rowOfKey) s.heap.size = A at hD ⊢
  have hA : ∀ q : Nat, s.heap.size ≤ q → A q := fun q h => by rw [← hAe]; exact Or.inr h
  clear hAe hD0
  have hS : va_S A s.heap s.heap [] := va_S.rf
  have hl := lv_entry ([.ref (ad 0), .int p1, .int p2]) (n := 9) (Nat.le_of_ble_eq_true rfl)
  rw [lg_entry_eq]
  generalize (lg_sl ([.ref (ad 0), .int p1, .int p2]) ++ List.replicate (9 - (lg_sl ([.ref (ad 0), .int p1, .int p2])).length) Slot.unset).toArray = ls at hl ⊢
  have hl : lv_has ls 9 [(0, .ref (ad 0)), (1, .int p1), (2, .int p2)] := hl
  change W p l e rmX5_layOutRow s m ([.ref (ad 0), .int p1, .int p2] : List Value).toArray below meth c s.heap [] 0 0 _ _
  unfold fX5_layOutRow at hf
  refine lv_iload_n hx hb dX5_layOutRow_0 rfl (lv_at hl 1 rfl) ?_
  obtain ⟨r1, v2, hf⟩ := bd1_some hf
  refine gci0 (va_runSN (As := [.int p1]) (rest := []) ⟨hx, hb, hml, hown, hts⟩ (tX8_upsOf l dC dI dA s.heap.size v2) (ccX5_X8_upsOf hK.2 hts ⟨Nat.le_of_ble_eq_true rfl, Nat.le_of_ble_eq_true rfl⟩) (gPreS0 hK) rfl rfl hl.1 rfl (lv_room (Nat.le_of_ble_eq_true rfl)) dX5_layOutRow_1 ⟨Nat.le_of_ble_eq_true rfl, Nat.le_of_ble_eq_true rfl⟩) hP hS hA (fun H locs hP hS => ?_)
  refine lv_istore_n (lv' := [(3, .int r1), (0, .ref (ad 0)), (1, .int p1), (2, .int p2)]) hx hb dX5_layOutRow_4 rfl hl (by decide) rfl (fun ls hl => ?_)
  refine lv_iload_n hx hb dX5_layOutRow_5 rfl (lv_at hl 2 rfl) ?_
  obtain ⟨r3, v4, hf⟩ := bd1_some hf
  refine gci0 (va_runSN (As := [.int p1]) (rest := []) ⟨hx, hb, hml, hown, hts⟩ (tX8_isRow l dC dI dA H.size v4) (ccX5_X8_isRow hK.2 hts ⟨Nat.le_of_ble_eq_true rfl, Nat.le_of_ble_eq_true rfl⟩) (gPreS0 hK) rfl rfl hl.1 rfl (lv_room (Nat.le_of_ble_eq_true rfl)) dX5_layOutRow_6 ⟨Nat.le_of_ble_eq_true rfl, Nat.le_of_ble_eq_true rfl⟩) hP hS hA (fun H locs hP hS => ?_)
  refine lv_if_eq (tgt := 22) hx hb dX5_layOutRow_9 (by decide) (fun k5 => ?_) (fun k5 => ?_)
  · replace hf := ifp k5 hf
    cases hf
    exact W.vret hx hb hr (fun t ht _ => gqv hP hD hS ht) hS.2.2 dX5_layOutRow_22
  · replace hf := ifn k5 hf
    refine lv_iload_n hx hb dX5_layOutRow_12 rfl (lv_at hl 0 rfl) ?_
    refine lv_iconst (v := 0) hx hb dX5_layOutRow_13 (by decide) ?_
    refine lv_bipush (v := 6) hx hb dX5_layOutRow_14 (by decide) ?_
    obtain ⟨r6, v7, hf⟩ := bd1_some hf
    refine gci0 (va_runSN (As := [.int r1, .int 0, .int 6]) (rest := []) ⟨hx, hb, hml, hown, hts⟩ (tX8_within l dC dI dA H.size v7) (ccX5_X8_within hK.2 hts ⟨Nat.le_of_ble_eq_true rfl, Nat.le_of_ble_eq_true rfl⟩) (gPreS0 hK) rfl rfl hl.1 rfl (lv_room (Nat.le_of_ble_eq_true rfl)) dX5_layOutRow_16 ⟨Nat.le_of_ble_eq_true rfl, Nat.le_of_ble_eq_true rfl⟩) hP hS hA (fun H locs hP hS => ?_)
    refine lv_if_ne (tgt := 23) hx hb dX5_layOutRow_19 (by decide) (fun k8 => ?_) (fun k8 => ?_)
    · replace hf := ifn k8 hf
      refine lv_aload_n hx hb dX5_layOutRow_23 rfl (lv_at hl 1 rfl) ?_
      refine va_get (D := (dC, dI)) (ci := 5) (v := .ref (ad 6)) (C := RX5) (T := TX5) (N := 11) hx hb hts (fun w h => gw_mem (inX5 w h)) hown hK.1 hP 0 rfl rfl 3 (by decide) (hts _ (gw_mem wfX5_29)) (fun _ h9 => h9) rfl dX5_layOutRow_24 ?_
      refine lv_iload_n hx hb dX5_layOutRow_27 rfl (lv_at hl 2 rfl) ?_
      refine lv_aload_n hx hb dX5_layOutRow_28 rfl (lv_at hl 1 rfl) ?_
      refine va_get (D := (dC, dI)) (ci := 5) (v := .ref (ad 5)) (C := RX5) (T := TX5) (N := 11) hx hb hts (fun w h => gw_mem (inX5 w h)) hown hK.1 hP 0 rfl rfl 2 (by decide) (hts _ (gw_mem wfX5_25)) (fun _ h9 => h9) rfl dX5_layOutRow_29 ?_
      refine lv_iload_n hx hb dX5_layOutRow_32 rfl (lv_at hl 0 rfl) ?_
      obtain ⟨h9, hf⟩ := og_some hf
      refine va_lald hx hb hK.1 hP 5 1 rfl rfl (okI_in h9) dX5_layOutRow_33 ?_
      obtain ⟨h10, hf⟩ := og_some hf
      obtain ⟨w11, ew11⟩ : ∃ y : Nat → Int64, y = vp_updL c_pence (Int32.toNatClampNeg p1) (c_penceByUps (Int32.toNatClampNeg r1)) := ⟨_, rfl⟩
      replace hf := nm_at hf ew11
      refine va_last hx hb hK.1 hP hD hS 6 1 rfl rfl (okI_in h10) dX5_layOutRow_34 (fun H locs hP hD hS => ?_)
      have hP : va_P (dC, dI) vwCl (wX5 dA ad c_tree_parts c_bond_terms c_penceByUps w11 c_turned c_called c_hold c_value c_marks c_act c_rowOfKey) H := by rw [ew11]; exact hP
      have hD : va_D A (wX5 dA ad c_tree_parts c_bond_terms c_penceByUps w11 c_turned c_called c_hold c_value c_marks c_act c_rowOfKey) := by rw [ew11]; exact hD
      refine lv_iload_n hx hb dX5_layOutRow_35 rfl (lv_at hl 2 rfl) ?_
      refine lv_iconst (v := 1) hx hb dX5_layOutRow_36 (by decide) ?_
      obtain ⟨j13, v15, hf⟩ := bd1_some hf
      have J14 : ∀ (H : Heap) (locs : List Loc) (ls : Array Slot), va_P (dC, dI) vwCl (wX5 dA ad c_tree_parts c_bond_terms c_penceByUps w11 c_turned c_called c_hold c_value c_marks c_act c_rowOfKey) H → va_D A (wX5 dA ad c_tree_parts c_bond_terms c_penceByUps w11 c_turned c_called c_hold c_value c_marks c_act c_rowOfKey) → va_S A s.heap H locs → lv_has ls 9 [(0, .ref (ad 0)), (1, .int p1), (2, .int p2)] → W p l e rmX5_layOutRow s m ([.ref (ad 0), .int p1, .int p2] : List Value).toArray below meth c H locs 0 0 (MQ below (gQv (dC, dI) (wX5 dA ad c_tree_parts c_bond_terms c_penceByUps o_c_pence o_c_turned o_c_called c_hold c_value o_c_marks c_act c_rowOfKey) A) ([.ref (ad 0), .int p1, .int p2] : List Value).toArray s 0 0 A) (F0 m 57 ls [.long j13]) := by
        intro H locs ls hP hD hS hl
        refine lv_lstore (lv' := [(4, .long j13), (0, .ref (ad 0)), (1, .int p1), (2, .int p2)]) hx hb dX5_layOutRow_57 hl (by decide) rfl (fun ls hl => ?_)
        refine lv_iload_n hx hb dX5_layOutRow_59 rfl (lv_at hl 2 rfl) ?_
        refine lv_iconst (v := 1) hx hb dX5_layOutRow_60 (by decide) ?_
        obtain ⟨j17, v19, hf⟩ := bd1_some hf
        have J18 : ∀ (H : Heap) (locs : List Loc) (ls : Array Slot), va_P (dC, dI) vwCl (wX5 dA ad c_tree_parts c_bond_terms c_penceByUps w11 c_turned c_called c_hold c_value c_marks c_act c_rowOfKey) H → va_D A (wX5 dA ad c_tree_parts c_bond_terms c_penceByUps w11 c_turned c_called c_hold c_value c_marks c_act c_rowOfKey) → va_S A s.heap H locs → lv_has ls 9 [(0, .ref (ad 0)), (1, .int p1), (2, .int p2), (4, .long j13)] → W p l e rmX5_layOutRow s m ([.ref (ad 0), .int p1, .int p2] : List Value).toArray below meth c H locs 0 0 (MQ below (gQv (dC, dI) (wX5 dA ad c_tree_parts c_bond_terms c_penceByUps o_c_pence o_c_turned o_c_called c_hold c_value o_c_marks c_act c_rowOfKey) A) ([.ref (ad 0), .int p1, .int p2] : List Value).toArray s 0 0 A) (F0 m 76 ls [.int j17]) := by
          intro H locs ls hP hD hS hl
          refine lv_istore (lv' := [(6, .int j17), (0, .ref (ad 0)), (1, .int p1), (2, .int p2), (4, .long j13)]) hx hb dX5_layOutRow_76 hl (by decide) rfl (fun ls hl => ?_)
          refine lv_aload_n hx hb dX5_layOutRow_78 rfl (lv_at hl 1 rfl) ?_
          refine va_get (D := (dC, dI)) (ci := 5) (v := .ref (ad 6)) (C := RX5) (T := TX5) (N := 11) hx hb hts (fun w h => gw_mem (inX5 w h)) hown hK.1 hP 0 rfl rfl 3 (by decide) (hts _ (gw_mem wfX5_29)) (fun _ h9 => h9) rfl dX5_layOutRow_79 ?_
          refine lv_iload_n hx hb dX5_layOutRow_82 rfl (lv_at hl 2 rfl) ?_
          obtain ⟨h20, hf⟩ := og_some hf
          refine va_lald hx hb hK.1 hP 6 1 rfl rfl (okI_in h20) dX5_layOutRow_83 ?_
          refine lv_aload_n hx hb dX5_layOutRow_84 rfl (lv_at hl 1 rfl) ?_
          refine va_get (D := (dC, dI)) (ci := 5) (v := .ref (ad 3)) (C := RX5) (T := TX5) (N := 11) hx hb hts (fun w h => gw_mem (inX5 w h)) hown hK.1 hP 0 rfl rfl 1 (by decide) (hts _ (gw_mem wfX5_21)) (fun _ h9 => h9) rfl dX5_layOutRow_85 ?_
          obtain ⟨r21, v22, hf⟩ := bd1_some hf
          have z23 := sg1 (ws := (wX5 dA ad c_tree_parts c_bond_terms c_penceByUps w11 c_turned c_called c_hold c_value c_marks c_act c_rowOfKey)) (s0 := ((wX5 dA ad c_tree_parts c_bond_terms c_penceByUps w11 c_turned c_called c_hold c_value c_marks c_act c_rowOfKey)).take 3) (s1 := ((wX5 dA ad c_tree_parts c_bond_terms c_penceByUps w11 c_turned c_called c_hold c_value c_marks c_act c_rowOfKey)).drop 5) (x1 := (wX0 dA (fun i => ad (i + 3)) c_bond_terms)) rfl
          refine gpi (wf := (wX5 dA ad c_tree_parts c_bond_terms c_penceByUps w11 c_turned c_called c_hold c_value c_marks c_act c_rowOfKey)) (va_runV (As := []) (rest := [.long (w11 (Int32.toNatClampNeg p1))]) ⟨hx, hb, hml, hown, hts⟩ (tX0_softLevel l dC dI dA (fun i => ad (i + 3)) H.size v22) (ccX5_X0_softLevel hts ⟨Nat.le_of_ble_eq_true rfl, Nat.le_of_ble_eq_true rfl⟩) (gPreV (ci := 1) (q0 := 0) (psub z23 hP) hK (psubD z23 hD) rfl rfl) rfl rfl hl.1 rfl (lv_room (Nat.le_of_ble_eq_true rfl)) dX5_layOutRow_88 ⟨Nat.le_of_ble_eq_true rfl, Nat.le_of_ble_eq_true rfl⟩) hP hD hS hA z23 (sg1 (s0 := ((wX5 dA ad c_tree_parts c_bond_terms c_penceByUps w11 c_turned c_called c_hold c_value c_marks c_act c_rowOfKey)).take 3) (s1 := ((wX5 dA ad c_tree_parts c_bond_terms c_penceByUps w11 c_turned c_called c_hold c_value c_marks c_act c_rowOfKey)).drop 5) (x1 := (wX0 dA (fun i => ad (i + 3)) c_bond_terms)) rfl) (fun H locs hP hD hS => ?_)
          refine lv_i2l hx hb dX5_layOutRow_91 rfl ?_
          refine W.lcmp hx hb dX5_layOutRow_92 ?_
          obtain ⟨j25, v27, hf⟩ := bd1_some hf
          have J26 : ∀ (H : Heap) (locs : List Loc) (ls : Array Slot), va_P (dC, dI) vwCl (wX5 dA ad c_tree_parts c_bond_terms c_penceByUps w11 c_turned c_called c_hold c_value c_marks c_act c_rowOfKey) H → va_D A (wX5 dA ad c_tree_parts c_bond_terms c_penceByUps w11 c_turned c_called c_hold c_value c_marks c_act c_rowOfKey) → va_S A s.heap H locs → lv_has ls 9 [(0, .ref (ad 0)), (1, .int p1), (2, .int p2), (4, .long j13), (6, .int j17)] → W p l e rmX5_layOutRow s m ([.ref (ad 0), .int p1, .int p2] : List Value).toArray below meth c H locs 0 0 (MQ below (gQv (dC, dI) (wX5 dA ad c_tree_parts c_bond_terms c_penceByUps o_c_pence o_c_turned o_c_called c_hold c_value o_c_marks c_act c_rowOfKey) A) ([.ref (ad 0), .int p1, .int p2] : List Value).toArray s 0 0 A) (F0 m 101 ls [.int j25]) := by
            intro H locs ls hP hD hS hl
            refine lv_istore (lv' := [(7, .int j25), (0, .ref (ad 0)), (1, .int p1), (2, .int p2), (4, .long j13), (6, .int j17)]) hx hb dX5_layOutRow_101 hl (by decide) rfl (fun ls hl => ?_)
            refine lv_aload_n hx hb dX5_layOutRow_103 rfl (lv_at hl 1 rfl) ?_
            refine va_get (D := (dC, dI)) (ci := 5) (v := .ref (ad 11)) (C := RX5) (T := TX5) (N := 11) hx hb hts (fun w h => gw_mem (inX5 w h)) hown hK.1 hP 0 rfl rfl 8 (by decide) (hts _ (gw_mem wfX5_44)) (fun _ h9 => h9) rfl dX5_layOutRow_104 ?_
            refine lv_iload_n hx hb dX5_layOutRow_107 rfl (lv_at hl 2 rfl) ?_
            refine lv_iload hx hb dX5_layOutRow_108 (lv_at hl 5 rfl) ?_
            refine lv_iconst (v := 2) hx hb dX5_layOutRow_110 (by decide) ?_
            refine lv_imul hx hb dX5_layOutRow_111 ?_
            refine lv_iload hx hb dX5_layOutRow_112 (lv_at hl 0 rfl) ?_
            refine lv_iadd hx hb dX5_layOutRow_114 ?_
            refine lv_bipush (v := 7) hx hb dX5_layOutRow_115 (by decide) ?_
            refine lv_iand hx hb dX5_layOutRow_117 ?_
            obtain ⟨h28, hf⟩ := og_some hf
            obtain ⟨w29, ew29⟩ : ∃ y : Nat → Int32, y = upd c_marks (Int32.toNatClampNeg p1) (((j17 * 2) + j25) &&& 7) := ⟨_, rfl⟩
            replace hf := nm_at hf ew29
            refine va_iast hx hb hK.1 hP hD hS 11 0 rfl rfl (okI_in h28) dX5_layOutRow_118 (fun H locs hP hD hS => ?_)
            have hP : va_P (dC, dI) vwCl (wX5 dA ad c_tree_parts c_bond_terms c_penceByUps w11 c_turned c_called c_hold c_value w29 c_act c_rowOfKey) H := by rw [ew29]; exact hP
            have hD : va_D A (wX5 dA ad c_tree_parts c_bond_terms c_penceByUps w11 c_turned c_called c_hold c_value w29 c_act c_rowOfKey) := by rw [ew29]; exact hD
            refine lv_aload_n hx hb dX5_layOutRow_119 rfl (lv_at hl 1 rfl) ?_
            refine va_get (D := (dC, dI)) (ci := 5) (v := .ref (ad 7)) (C := RX5) (T := TX5) (N := 11) hx hb hts (fun w h => gw_mem (inX5 w h)) hown hK.1 hP 0 rfl rfl 4 (by decide) (hts _ (gw_mem wfX5_32)) (fun _ h9 => h9) rfl dX5_layOutRow_120 ?_
            refine lv_iload_n hx hb dX5_layOutRow_123 rfl (lv_at hl 2 rfl) ?_
            refine lv_aload_n hx hb dX5_layOutRow_124 rfl (lv_at hl 1 rfl) ?_
            refine va_get (D := (dC, dI)) (ci := 5) (v := .ref (ad 3)) (C := RX5) (T := TX5) (N := 11) hx hb hts (fun w h => gw_mem (inX5 w h)) hown hK.1 hP 0 rfl rfl 1 (by decide) (hts _ (gw_mem wfX5_21)) (fun _ h9 => h9) rfl dX5_layOutRow_125 ?_
            refine lv_iload_n hx hb dX5_layOutRow_128 rfl (lv_at hl 3 rfl) ?_
            obtain ⟨r30, v31, hf⟩ := bd1_some hf
            have z32 := sg1 (ws := (wX5 dA ad c_tree_parts c_bond_terms c_penceByUps w11 c_turned c_called c_hold c_value w29 c_act c_rowOfKey)) (s0 := ((wX5 dA ad c_tree_parts c_bond_terms c_penceByUps w11 c_turned c_called c_hold c_value w29 c_act c_rowOfKey)).take 3) (s1 := ((wX5 dA ad c_tree_parts c_bond_terms c_penceByUps w11 c_turned c_called c_hold c_value w29 c_act c_rowOfKey)).drop 5) (x1 := (wX0 dA (fun i => ad (i + 3)) c_bond_terms)) rfl
            refine gpi (wf := (wX5 dA ad c_tree_parts c_bond_terms c_penceByUps w11 c_turned c_called c_hold c_value w29 c_act c_rowOfKey)) (va_runV (As := [.int p2]) (rest := [.int p1, .ref (ad 7)]) ⟨hx, hb, hml, hown, hts⟩ (tX0_mayTurnOn l dC dI dA (fun i => ad (i + 3)) H.size v31) (ccX5_X0_mayTurnOn hts ⟨Nat.le_of_ble_eq_true rfl, Nat.le_of_ble_eq_true rfl⟩) (gPreV (ci := 1) (q0 := 0) (psub z32 hP) hK (psubD z32 hD) rfl rfl) rfl rfl hl.1 rfl (lv_room (Nat.le_of_ble_eq_true rfl)) dX5_layOutRow_129 ⟨Nat.le_of_ble_eq_true rfl, Nat.le_of_ble_eq_true rfl⟩) hP hD hS hA z32 (sg1 (s0 := ((wX5 dA ad c_tree_parts c_bond_terms c_penceByUps w11 c_turned c_called c_hold c_value w29 c_act c_rowOfKey)).take 3) (s1 := ((wX5 dA ad c_tree_parts c_bond_terms c_penceByUps w11 c_turned c_called c_hold c_value w29 c_act c_rowOfKey)).drop 5) (x1 := (wX0 dA (fun i => ad (i + 3)) c_bond_terms)) rfl) (fun H locs hP hD hS => ?_)
            obtain ⟨j34, v36, hf⟩ := bd1_some hf
            have J35 : ∀ (H : Heap) (locs : List Loc) (ls : Array Slot), va_P (dC, dI) vwCl (wX5 dA ad c_tree_parts c_bond_terms c_penceByUps w11 c_turned c_called c_hold c_value w29 c_act c_rowOfKey) H → va_D A (wX5 dA ad c_tree_parts c_bond_terms c_penceByUps w11 c_turned c_called c_hold c_value w29 c_act c_rowOfKey) → va_S A s.heap H locs → lv_has ls 9 [(0, .ref (ad 0)), (1, .int p1), (2, .int p2)] → W p l e rmX5_layOutRow s m ([.ref (ad 0), .int p1, .int p2] : List Value).toArray below meth c H locs 0 0 (MQ below (gQv (dC, dI) (wX5 dA ad c_tree_parts c_bond_terms c_penceByUps o_c_pence o_c_turned o_c_called c_hold c_value o_c_marks c_act c_rowOfKey) A) ([.ref (ad 0), .int p1, .int p2] : List Value).toArray s 0 0 A) (F0 m 156 ls [.long j34, .int p1, .ref (ad 7)]) := by
              intro H locs ls hP hD hS hl
              obtain ⟨h37, hf⟩ := og_some hf
              obtain ⟨w38, ew38⟩ : ∃ y : Nat → Int64, y = vp_updL c_turned (Int32.toNatClampNeg p1) j34 := ⟨_, rfl⟩
              replace hf := nm_at hf ew38
              refine va_last hx hb hK.1 hP hD hS 7 1 rfl rfl (okI_in h37) dX5_layOutRow_156 (fun H locs hP hD hS => ?_)
              have hP : va_P (dC, dI) vwCl (wX5 dA ad c_tree_parts c_bond_terms c_penceByUps w11 w38 c_called c_hold c_value w29 c_act c_rowOfKey) H := by rw [ew38]; exact hP
              have hD : va_D A (wX5 dA ad c_tree_parts c_bond_terms c_penceByUps w11 w38 c_called c_hold c_value w29 c_act c_rowOfKey) := by rw [ew38]; exact hD
              refine lv_aload_n hx hb dX5_layOutRow_157 rfl (lv_at hl 0 rfl) ?_
              refine va_get (D := (dC, dI)) (ci := 5) (v := .ref (ad 3)) (C := RX5) (T := TX5) (N := 11) hx hb hts (fun w h => gw_mem (inX5 w h)) hown hK.1 hP 0 rfl rfl 1 (by decide) (hts _ (gw_mem wfX5_21)) (fun _ h9 => h9) rfl dX5_layOutRow_158 ?_
              refine lv_iload_n hx hb dX5_layOutRow_161 rfl (lv_at hl 2 rfl) ?_
              obtain ⟨r39, v40, hf⟩ := bd1_some hf
              have z41 := sg1 (ws := (wX5 dA ad c_tree_parts c_bond_terms c_penceByUps w11 w38 c_called c_hold c_value w29 c_act c_rowOfKey)) (s0 := ((wX5 dA ad c_tree_parts c_bond_terms c_penceByUps w11 w38 c_called c_hold c_value w29 c_act c_rowOfKey)).take 3) (s1 := ((wX5 dA ad c_tree_parts c_bond_terms c_penceByUps w11 w38 c_called c_hold c_value w29 c_act c_rowOfKey)).drop 5) (x1 := (wX0 dA (fun i => ad (i + 3)) c_bond_terms)) rfl
              refine gpi (wf := (wX5 dA ad c_tree_parts c_bond_terms c_penceByUps w11 w38 c_called c_hold c_value w29 c_act c_rowOfKey)) (va_runV (As := [.int p2]) (rest := []) ⟨hx, hb, hml, hown, hts⟩ (tX0_callOn l dC dI dA (fun i => ad (i + 3)) H.size v40) (ccX5_X0_callOn hts ⟨Nat.le_of_ble_eq_true rfl, Nat.le_of_ble_eq_true rfl⟩) (gPreV (ci := 1) (q0 := 0) (psub z41 hP) hK (psubD z41 hD) rfl rfl) rfl rfl hl.1 rfl (lv_room (Nat.le_of_ble_eq_true rfl)) dX5_layOutRow_162 ⟨Nat.le_of_ble_eq_true rfl, Nat.le_of_ble_eq_true rfl⟩) hP hD hS hA z41 (sg1 (s0 := ((wX5 dA ad c_tree_parts c_bond_terms c_penceByUps w11 w38 c_called c_hold c_value w29 c_act c_rowOfKey)).take 3) (s1 := ((wX5 dA ad c_tree_parts c_bond_terms c_penceByUps w11 w38 c_called c_hold c_value w29 c_act c_rowOfKey)).drop 5) (x1 := (wX0 dA (fun i => ad (i + 3)) c_bond_terms)) rfl) (fun H locs hP hD hS => ?_)
              obtain ⟨j43, v45, hf⟩ := bd1_some hf
              have J44 : ∀ (H : Heap) (locs : List Loc) (ls : Array Slot), va_P (dC, dI) vwCl (wX5 dA ad c_tree_parts c_bond_terms c_penceByUps w11 w38 c_called c_hold c_value w29 c_act c_rowOfKey) H → va_D A (wX5 dA ad c_tree_parts c_bond_terms c_penceByUps w11 w38 c_called c_hold c_value w29 c_act c_rowOfKey) → va_S A s.heap H locs → lv_has ls 9 [(0, .ref (ad 0)), (1, .int p1), (2, .int p2)] → W p l e rmX5_layOutRow s m ([.ref (ad 0), .int p1, .int p2] : List Value).toArray below meth c H locs 0 0 (MQ below (gQv (dC, dI) (wX5 dA ad c_tree_parts c_bond_terms c_penceByUps o_c_pence o_c_turned o_c_called c_hold c_value o_c_marks c_act c_rowOfKey) A) ([.ref (ad 0), .int p1, .int p2] : List Value).toArray s 0 0 A) (F0 m 196 ls [.int j43]) := by
                intro H locs ls hP hD hS hl
                refine lv_istore (lv' := [(8, .int j43), (0, .ref (ad 0)), (1, .int p1), (2, .int p2)]) hx hb dX5_layOutRow_196 hl (by decide) rfl (fun ls hl => ?_)
                refine lv_aload_n hx hb dX5_layOutRow_198 rfl (lv_at hl 1 rfl) ?_
                refine va_get (D := (dC, dI)) (ci := 5) (v := .ref (ad 8)) (C := RX5) (T := TX5) (N := 11) hx hb hts (fun w h => gw_mem (inX5 w h)) hown hK.1 hP 0 rfl rfl 5 (by decide) (hts _ (gw_mem wfX5_35)) (fun _ h9 => h9) rfl dX5_layOutRow_199 ?_
                refine lv_iload_n hx hb dX5_layOutRow_202 rfl (lv_at hl 2 rfl) ?_
                refine lv_iload hx hb dX5_layOutRow_203 (lv_at hl 0 rfl) ?_
                obtain ⟨j47, v49, hf⟩ := bd1_some hf
                have J48 : ∀ (H : Heap) (locs : List Loc) (ls : Array Slot), va_P (dC, dI) vwCl (wX5 dA ad c_tree_parts c_bond_terms c_penceByUps w11 w38 c_called c_hold c_value w29 c_act c_rowOfKey) H → va_D A (wX5 dA ad c_tree_parts c_bond_terms c_penceByUps w11 w38 c_called c_hold c_value w29 c_act c_rowOfKey) → va_S A s.heap H locs → lv_has ls 9 [] → W p l e rmX5_layOutRow s m ([.ref (ad 0), .int p1, .int p2] : List Value).toArray below meth c H locs 0 0 (MQ below (gQv (dC, dI) (wX5 dA ad c_tree_parts c_bond_terms c_penceByUps o_c_pence o_c_turned o_c_called c_hold c_value o_c_marks c_act c_rowOfKey) A) ([.ref (ad 0), .int p1, .int p2] : List Value).toArray s 0 0 A) (F0 m 232 ls [.long j47, .int p1, .ref (ad 8)]) := by
                  intro H locs ls hP hD hS hl
                  obtain ⟨h50, hf⟩ := og_some hf
                  obtain ⟨w51, ew51⟩ : ∃ y : Nat → Int64, y = vp_updL c_called (Int32.toNatClampNeg p1) j47 := ⟨_, rfl⟩
                  replace hf := nm_at hf ew51
                  refine va_last hx hb hK.1 hP hD hS 8 1 rfl rfl (okI_in h50) dX5_layOutRow_232 (fun H locs hP hD hS => ?_)
                  have hP : va_P (dC, dI) vwCl (wX5 dA ad c_tree_parts c_bond_terms c_penceByUps w11 w38 w51 c_hold c_value w29 c_act c_rowOfKey) H := by rw [ew51]; exact hP
                  have hD : va_D A (wX5 dA ad c_tree_parts c_bond_terms c_penceByUps w11 w38 w51 c_hold c_value w29 c_act c_rowOfKey) := by rw [ew51]; exact hD
                  cases hf
                  exact W.vret hx hb hr (fun t ht _ => gqv hP hD hS ht) hS.2.2 dX5_layOutRow_233
                replace hf := v49
                clear v49
                refine lv_if_eq (tgt := 229) hx hb dX5_layOutRow_205 (by decide) (fun k46 => ?_) (fun k46 => ?_)
                · replace hf := ifp k46 hf
                  refine lv_ldc2 (v := (-2)) hx hb hown (hts _ (gw_mem wkX5_75)) dX5_layOutRow_229 ?_
                  cases hf
                  exact J48 _ _ _ hP hD hS (lv_sub hl [] rfl)
                · replace hf := ifn k46 hf
                  refine lv_aload_n hx hb dX5_layOutRow_208 rfl (lv_at hl 1 rfl) ?_
                  refine va_get (D := (dC, dI)) (ci := 5) (v := .ref (ad 3)) (C := RX5) (T := TX5) (N := 11) hx hb hts (fun w h => gw_mem (inX5 w h)) hown hK.1 hP 0 rfl rfl 1 (by decide) (hts _ (gw_mem wfX5_21)) (fun _ h9 => h9) rfl dX5_layOutRow_209 ?_
                  refine lv_iload_n hx hb dX5_layOutRow_212 rfl (lv_at hl 3 rfl) ?_
                  obtain ⟨r52, v53, hf⟩ := bd1_some hf
                  have z54 := sg1 (ws := (wX5 dA ad c_tree_parts c_bond_terms c_penceByUps w11 w38 c_called c_hold c_value w29 c_act c_rowOfKey)) (s0 := ((wX5 dA ad c_tree_parts c_bond_terms c_penceByUps w11 w38 c_called c_hold c_value w29 c_act c_rowOfKey)).take 3) (s1 := ((wX5 dA ad c_tree_parts c_bond_terms c_penceByUps w11 w38 c_called c_hold c_value w29 c_act c_rowOfKey)).drop 5) (x1 := (wX0 dA (fun i => ad (i + 3)) c_bond_terms)) rfl
                  refine gpi (wf := (wX5 dA ad c_tree_parts c_bond_terms c_penceByUps w11 w38 c_called c_hold c_value w29 c_act c_rowOfKey)) (va_runV (As := [.int p2]) (rest := [.int p1, .ref (ad 8)]) ⟨hx, hb, hml, hown, hts⟩ (tX0_callOn l dC dI dA (fun i => ad (i + 3)) H.size v53) (ccX5_X0_callOn hts ⟨Nat.le_of_ble_eq_true rfl, Nat.le_of_ble_eq_true rfl⟩) (gPreV (ci := 1) (q0 := 0) (psub z54 hP) hK (psubD z54 hD) rfl rfl) rfl rfl hl.1 rfl (lv_room (Nat.le_of_ble_eq_true rfl)) dX5_layOutRow_213 ⟨Nat.le_of_ble_eq_true rfl, Nat.le_of_ble_eq_true rfl⟩) hP hD hS hA z54 (sg1 (s0 := ((wX5 dA ad c_tree_parts c_bond_terms c_penceByUps w11 w38 c_called c_hold c_value w29 c_act c_rowOfKey)).take 3) (s1 := ((wX5 dA ad c_tree_parts c_bond_terms c_penceByUps w11 w38 c_called c_hold c_value w29 c_act c_rowOfKey)).drop 5) (x1 := (wX0 dA (fun i => ad (i + 3)) c_bond_terms)) rfl) (fun H locs hP hD hS => ?_)
                  refine lv_i2l hx hb dX5_layOutRow_216 rfl ?_
                  refine lv_aload_n hx hb dX5_layOutRow_217 rfl (lv_at hl 1 rfl) ?_
                  refine va_get (D := (dC, dI)) (ci := 5) (v := .ref (ad 7)) (C := RX5) (T := TX5) (N := 11) hx hb hts (fun w h => gw_mem (inX5 w h)) hown hK.1 hP 0 rfl rfl 4 (by decide) (hts _ (gw_mem wfX5_32)) (fun _ h9 => h9) rfl dX5_layOutRow_218 ?_
                  refine lv_iload_n hx hb dX5_layOutRow_221 rfl (lv_at hl 2 rfl) ?_
                  obtain ⟨h55, hf⟩ := og_some hf
                  refine va_lald hx hb hK.1 hP 7 1 rfl rfl (okI_in h55) dX5_layOutRow_222 ?_
                  refine va_mmax_long hx hb (hml.trans hl.1.symm) hown (hts _ (gw_mem wmX5_134)) (hts _ (gw_mem wtJ9_max_f86c9)) (hts _ (gw_mem wnJ9)) (hts _ (gw_mem wcJ9_max_f86c9)) (Nat.le_of_ble_eq_true rfl) (Nat.le_of_ble_eq_true rfl) (Nat.le_of_ble_eq_true rfl) (Nat.le_of_ble_eq_true rfl) dX5_layOutRow_223 ?_
                  refine lv_goto (tgt := 232) hx hb dX5_layOutRow_226 (by decide) ?_
                  cases hf
                  exact J48 _ _ _ hP hD hS (lv_sub hl [] rfl)
              replace hf := v45
              clear v45
              refine lv_if_lt (tgt := 195) hx hb dX5_layOutRow_165 (by decide) (fun k42 => ?_) (fun k42 => ?_)
              · replace hf := ifp k42 hf
                refine lv_iconst (v := 0) hx hb dX5_layOutRow_195 (by decide) ?_
                cases hf
                exact J44 _ _ _ hP hD hS (lv_sub hl [0, 1, 2] rfl)
              · replace hf := ifn k42 hf
                refine lv_aload_n hx hb dX5_layOutRow_168 rfl (lv_at hl 0 rfl) ?_
                refine va_get (D := (dC, dI)) (ci := 5) (v := .ref (ad 3)) (C := RX5) (T := TX5) (N := 11) hx hb hts (fun w h => gw_mem (inX5 w h)) hown hK.1 hP 0 rfl rfl 1 (by decide) (hts _ (gw_mem wfX5_21)) (fun _ h9 => h9) rfl dX5_layOutRow_169 ?_
                refine lv_aload_n hx hb dX5_layOutRow_172 rfl (lv_at hl 0 rfl) ?_
                refine va_get (D := (dC, dI)) (ci := 5) (v := .ref (ad 11)) (C := RX5) (T := TX5) (N := 11) hx hb hts (fun w h => gw_mem (inX5 w h)) hown hK.1 hP 0 rfl rfl 8 (by decide) (hts _ (gw_mem wfX5_44)) (fun _ h9 => h9) rfl dX5_layOutRow_173 ?_
                refine lv_iload_n hx hb dX5_layOutRow_176 rfl (lv_at hl 1 rfl) ?_
                obtain ⟨h56, hf⟩ := og_some hf
                refine va_iald hx hb hK.1 hP 11 0 rfl rfl (okI_in h56) dX5_layOutRow_177 ?_
                obtain ⟨r57, v58, hf⟩ := bd1_some hf
                have z59 := sg1 (ws := (wX5 dA ad c_tree_parts c_bond_terms c_penceByUps w11 w38 c_called c_hold c_value w29 c_act c_rowOfKey)) (s0 := ((wX5 dA ad c_tree_parts c_bond_terms c_penceByUps w11 w38 c_called c_hold c_value w29 c_act c_rowOfKey)).take 3) (s1 := ((wX5 dA ad c_tree_parts c_bond_terms c_penceByUps w11 w38 c_called c_hold c_value w29 c_act c_rowOfKey)).drop 5) (x1 := (wX0 dA (fun i => ad (i + 3)) c_bond_terms)) rfl
                refine gpi (wf := (wX5 dA ad c_tree_parts c_bond_terms c_penceByUps w11 w38 c_called c_hold c_value w29 c_act c_rowOfKey)) (va_runV (As := [.int (w29 (Int32.toNatClampNeg p1))]) (rest := []) ⟨hx, hb, hml, hown, hts⟩ (tX0_highDays l dC dI dA (fun i => ad (i + 3)) H.size v58) (ccX5_X0_highDays hts ⟨Nat.le_of_ble_eq_true rfl, Nat.le_of_ble_eq_true rfl⟩) (gPreV (ci := 1) (q0 := 0) (psub z59 hP) hK (psubD z59 hD) rfl rfl) rfl rfl hl.1 rfl (lv_room (Nat.le_of_ble_eq_true rfl)) dX5_layOutRow_178 ⟨Nat.le_of_ble_eq_true rfl, Nat.le_of_ble_eq_true rfl⟩) hP hD hS hA z59 (sg1 (s0 := ((wX5 dA ad c_tree_parts c_bond_terms c_penceByUps w11 w38 c_called c_hold c_value w29 c_act c_rowOfKey)).take 3) (s1 := ((wX5 dA ad c_tree_parts c_bond_terms c_penceByUps w11 w38 c_called c_hold c_value w29 c_act c_rowOfKey)).drop 5) (x1 := (wX0 dA (fun i => ad (i + 3)) c_bond_terms)) rfl) (fun H locs hP hD hS => ?_)
                refine lv_aload_n hx hb dX5_layOutRow_181 rfl (lv_at hl 0 rfl) ?_
                refine va_get (D := (dC, dI)) (ci := 5) (v := .ref (ad 3)) (C := RX5) (T := TX5) (N := 11) hx hb hts (fun w h => gw_mem (inX5 w h)) hown hK.1 hP 0 rfl rfl 1 (by decide) (hts _ (gw_mem wfX5_21)) (fun _ h9 => h9) rfl dX5_layOutRow_182 ?_
                obtain ⟨r60, v61, hf⟩ := bd1_some hf
                have z62 := sg1 (ws := (wX5 dA ad c_tree_parts c_bond_terms c_penceByUps w11 w38 c_called c_hold c_value w29 c_act c_rowOfKey)) (s0 := ((wX5 dA ad c_tree_parts c_bond_terms c_penceByUps w11 w38 c_called c_hold c_value w29 c_act c_rowOfKey)).take 3) (s1 := ((wX5 dA ad c_tree_parts c_bond_terms c_penceByUps w11 w38 c_called c_hold c_value w29 c_act c_rowOfKey)).drop 5) (x1 := (wX0 dA (fun i => ad (i + 3)) c_bond_terms)) rfl
                refine gpi (wf := (wX5 dA ad c_tree_parts c_bond_terms c_penceByUps w11 w38 c_called c_hold c_value w29 c_act c_rowOfKey)) (va_runV (As := []) (rest := [.int r57]) ⟨hx, hb, hml, hown, hts⟩ (tX0_softLeast l dC dI dA (fun i => ad (i + 3)) H.size v61) (ccX5_X0_softLeast hts ⟨Nat.le_of_ble_eq_true rfl, Nat.le_of_ble_eq_true rfl⟩) (gPreV (ci := 1) (q0 := 0) (psub z62 hP) hK (psubD z62 hD) rfl rfl) rfl rfl hl.1 rfl (lv_room (Nat.le_of_ble_eq_true rfl)) dX5_layOutRow_185 ⟨Nat.le_of_ble_eq_true rfl, Nat.le_of_ble_eq_true rfl⟩) hP hD hS hA z62 (sg1 (s0 := ((wX5 dA ad c_tree_parts c_bond_terms c_penceByUps w11 w38 c_called c_hold c_value w29 c_act c_rowOfKey)).take 3) (s1 := ((wX5 dA ad c_tree_parts c_bond_terms c_penceByUps w11 w38 c_called c_hold c_value w29 c_act c_rowOfKey)).drop 5) (x1 := (wX0 dA (fun i => ad (i + 3)) c_bond_terms)) rfl) (fun H locs hP hD hS => ?_)
                refine lv_icmp_lt (tgt := 195) hx hb dX5_layOutRow_188 (by decide) (fun k63 => ?_) (fun k63 => ?_)
                · replace hf := ifp k63 hf
                  refine lv_iconst (v := 0) hx hb dX5_layOutRow_195 (by decide) ?_
                  cases hf
                  exact J44 _ _ _ hP hD hS (lv_sub hl [0, 1, 2] rfl)
                · replace hf := ifn k63 hf
                  refine lv_iconst (v := 1) hx hb dX5_layOutRow_191 (by decide) ?_
                  refine lv_goto (tgt := 196) hx hb dX5_layOutRow_192 (by decide) ?_
                  cases hf
                  exact J44 _ _ _ hP hD hS (lv_sub hl [0, 1, 2] rfl)
            replace hf := v36
            clear v36
            refine lv_if_eq (tgt := 153) hx hb dX5_layOutRow_132 (by decide) (fun k33 => ?_) (fun k33 => ?_)
            · replace hf := ifp k33 hf
              refine lv_ldc2 (v := (-2)) hx hb hown (hts _ (gw_mem wkX5_75)) dX5_layOutRow_153 ?_
              cases hf
              exact J35 _ _ _ hP hD hS (lv_sub hl [1, 2, 3] rfl)
            · replace hf := ifn k33 hf
              refine lv_aload_n hx hb dX5_layOutRow_135 rfl (lv_at hl 1 rfl) ?_
              refine va_get (D := (dC, dI)) (ci := 5) (v := .ref (ad 3)) (C := RX5) (T := TX5) (N := 11) hx hb hts (fun w h => gw_mem (inX5 w h)) hown hK.1 hP 0 rfl rfl 1 (by decide) (hts _ (gw_mem wfX5_21)) (fun _ h9 => h9) rfl dX5_layOutRow_136 ?_
              refine lv_aload_n hx hb dX5_layOutRow_139 rfl (lv_at hl 1 rfl) ?_
              refine va_get (D := (dC, dI)) (ci := 5) (v := .ref (ad 6)) (C := RX5) (T := TX5) (N := 11) hx hb hts (fun w h => gw_mem (inX5 w h)) hown hK.1 hP 0 rfl rfl 3 (by decide) (hts _ (gw_mem wfX5_29)) (fun _ h9 => h9) rfl dX5_layOutRow_140 ?_
              refine lv_iload_n hx hb dX5_layOutRow_143 rfl (lv_at hl 2 rfl) ?_
              obtain ⟨h64, hf⟩ := og_some hf
              refine va_lald hx hb hK.1 hP 6 1 rfl rfl (okI_in h64) dX5_layOutRow_144 ?_
              refine lv_lload hx hb dX5_layOutRow_145 (lv_at hl 4 rfl) ?_
              obtain ⟨r65, v66, hf⟩ := bd1_some hf
              have z67 := sg1 (ws := (wX5 dA ad c_tree_parts c_bond_terms c_penceByUps w11 c_turned c_called c_hold c_value w29 c_act c_rowOfKey)) (s0 := ((wX5 dA ad c_tree_parts c_bond_terms c_penceByUps w11 c_turned c_called c_hold c_value w29 c_act c_rowOfKey)).take 3) (s1 := ((wX5 dA ad c_tree_parts c_bond_terms c_penceByUps w11 c_turned c_called c_hold c_value w29 c_act c_rowOfKey)).drop 5) (x1 := (wX0 dA (fun i => ad (i + 3)) c_bond_terms)) rfl
              refine gpl (wf := (wX5 dA ad c_tree_parts c_bond_terms c_penceByUps w11 c_turned c_called c_hold c_value w29 c_act c_rowOfKey)) (va_runV (As := [.long (w11 (Int32.toNatClampNeg p1)), .long j13]) (rest := [.int p1, .ref (ad 7)]) ⟨hx, hb, hml, hown, hts⟩ (tX0_turnedWorth l dC dI dA (fun i => ad (i + 3)) H.size v66) (ccX5_X0_turnedWorth hts ⟨Nat.le_of_ble_eq_true rfl, Nat.le_of_ble_eq_true rfl⟩) (gPreV (ci := 1) (q0 := 0) (psub z67 hP) hK (psubD z67 hD) rfl rfl) rfl rfl hl.1 rfl (lv_room (Nat.le_of_ble_eq_true rfl)) dX5_layOutRow_147 ⟨Nat.le_of_ble_eq_true rfl, Nat.le_of_ble_eq_true rfl⟩) hP hD hS hA z67 (sg1 (s0 := ((wX5 dA ad c_tree_parts c_bond_terms c_penceByUps w11 c_turned c_called c_hold c_value w29 c_act c_rowOfKey)).take 3) (s1 := ((wX5 dA ad c_tree_parts c_bond_terms c_penceByUps w11 c_turned c_called c_hold c_value w29 c_act c_rowOfKey)).drop 5) (x1 := (wX0 dA (fun i => ad (i + 3)) c_bond_terms)) rfl) (fun H locs hP hD hS => ?_)
              refine lv_goto (tgt := 156) hx hb dX5_layOutRow_150 (by decide) ?_
              cases hf
              exact J35 _ _ _ hP hD hS (lv_sub hl [1, 2, 3] rfl)
          replace hf := v27
          clear v27
          refine lv_if_lt (tgt := 100) hx hb dX5_layOutRow_93 (by decide) (fun k24 => ?_) (fun k24 => ?_)
          · replace hf := ifp (lc_lt.mp k24) hf
            refine lv_iconst (v := 0) hx hb dX5_layOutRow_100 (by decide) ?_
            cases hf
            exact J26 _ _ _ hP hD hS (lv_sub hl [1, 2, 3, 4, 0] rfl)
          · replace hf := ifn (fun h => k24 (lc_lt.mpr h)) hf
            refine lv_iconst (v := 1) hx hb dX5_layOutRow_96 (by decide) ?_
            refine lv_goto (tgt := 101) hx hb dX5_layOutRow_97 (by decide) ?_
            cases hf
            exact J26 _ _ _ hP hD hS (lv_sub hl [1, 2, 3, 4, 0] rfl)
        replace hf := v19
        clear v19
        refine lv_icmp_le (tgt := 75) hx hb dX5_layOutRow_61 (by decide) (fun k16 => ?_) (fun k16 => ?_)
        · replace hf := ifp k16 hf
          refine lv_iconst (v := 0) hx hb dX5_layOutRow_75 (by decide) ?_
          cases hf
          exact J18 _ _ _ hP hD hS (lv_sub hl [1, 2, 3, 0] rfl)
        · replace hf := ifn k16 hf
          refine lv_aload_n hx hb dX5_layOutRow_64 rfl (lv_at hl 1 rfl) ?_
          refine va_get (D := (dC, dI)) (ci := 5) (v := .ref (ad 11)) (C := RX5) (T := TX5) (N := 11) hx hb hts (fun w h => gw_mem (inX5 w h)) hown hK.1 hP 0 rfl rfl 8 (by decide) (hts _ (gw_mem wfX5_44)) (fun _ h9 => h9) rfl dX5_layOutRow_65 ?_
          refine lv_iload_n hx hb dX5_layOutRow_68 rfl (lv_at hl 2 rfl) ?_
          refine lv_iconst (v := 2) hx hb dX5_layOutRow_69 (by decide) ?_
          refine lv_idiv hx hb dX5_layOutRow_70 (by decide) ?_
          obtain ⟨h68, hf⟩ := og_some hf
          refine va_iald hx hb hK.1 hP 11 0 rfl rfl (okI_in h68) dX5_layOutRow_71 ?_
          refine lv_goto (tgt := 76) hx hb dX5_layOutRow_72 (by decide) ?_
          cases hf
          exact J18 _ _ _ hP hD hS (lv_sub hl [1, 2, 3, 0] rfl)
      replace hf := v15
      clear v15
      refine lv_icmp_le (tgt := 51) hx hb dX5_layOutRow_37 (by decide) (fun k12 => ?_) (fun k12 => ?_)
      · replace hf := ifp k12 hf
        refine lv_aload_n hx hb dX5_layOutRow_51 rfl (lv_at hl 1 rfl) ?_
        refine va_get (D := (dC, dI)) (ci := 5) (v := .ref (ad 6)) (C := RX5) (T := TX5) (N := 11) hx hb hts (fun w h => gw_mem (inX5 w h)) hown hK.1 hP 0 rfl rfl 3 (by decide) (hts _ (gw_mem wfX5_29)) (fun _ h9 => h9) rfl dX5_layOutRow_52 ?_
        refine lv_iload_n hx hb dX5_layOutRow_55 rfl (lv_at hl 2 rfl) ?_
        obtain ⟨h69, hf⟩ := og_some hf
        refine va_lald hx hb hK.1 hP 6 1 rfl rfl (okI_in h69) dX5_layOutRow_56 ?_
        cases hf
        exact J14 _ _ _ hP hD hS (lv_sub hl [1, 2, 3] rfl)
      · replace hf := ifn k12 hf
        refine lv_aload_n hx hb dX5_layOutRow_40 rfl (lv_at hl 1 rfl) ?_
        refine va_get (D := (dC, dI)) (ci := 5) (v := .ref (ad 6)) (C := RX5) (T := TX5) (N := 11) hx hb hts (fun w h => gw_mem (inX5 w h)) hown hK.1 hP 0 rfl rfl 3 (by decide) (hts _ (gw_mem wfX5_29)) (fun _ h9 => h9) rfl dX5_layOutRow_41 ?_
        refine lv_iload_n hx hb dX5_layOutRow_44 rfl (lv_at hl 2 rfl) ?_
        refine lv_iconst (v := 2) hx hb dX5_layOutRow_45 (by decide) ?_
        refine lv_idiv hx hb dX5_layOutRow_46 (by decide) ?_
        obtain ⟨h70, hf⟩ := og_some hf
        refine va_lald hx hb hK.1 hP 6 1 rfl rfl (okI_in h70) dX5_layOutRow_47 ?_
        refine lv_goto (tgt := 57) hx hb dX5_layOutRow_48 (by decide) ?_
        cases hf
        exact J14 _ _ _ hP hD hS (lv_sub hl [1, 2, 3] rfl)
    · replace hf := ifp k8 hf
      cases hf
      exact W.vret hx hb hr (fun t ht _ => gqv hP hD hS ht) hS.2.2 dX5_layOutRow_22
abbrev rmX5_rowsAheadOfLastDay : Room := { frames := 2, cells := 0, slots := 0, locals := 43 }
set_option maxHeartbeats 4000000 in
set_option maxRecDepth 100000 in
theorem tX5_rowsAheadOfLastDay (l : Launch) (dC : Nat → ClassId) (dI : Nat → Nat → Nat) (dA : Nat → ClassId) (ad : Nat → Nat) (sz : Nat) {c_tree_parts : Nat → Int32} {c_bond_terms : Nat → Int32} {c_penceByUps : Nat → Int64} {c_pence : Nat → Int64} {c_turned : Nat → Int64} {c_called : Nat → Int64} {c_hold : Nat → Int64} {c_value : Nat → Int64} {c_marks : Nat → Int32} {c_act : Nat → Int32} {c_rowOfKey : Nat → Int32} {r : Int32} (hf : fX5_rowsAheadOfLastDay c_tree_parts = some (r)) : Met l yX5_rowsAheadOfLastDay (wq (Cond.code yX5_rowsAheadOfLastDay cX5_rowsAheadOfLastDay 1 (some .int))) rmX5_rowsAheadOfLastDay (gP [.ref (ad 0)] (dC, dI) dA (wX5 dA ad c_tree_parts c_bond_terms c_penceByUps c_pence c_turned c_called c_hold c_value c_marks c_act c_rowOfKey) sz) (gQi (dC, dI) r (wX5 dA ad c_tree_parts c_bond_terms c_penceByUps c_pence c_turned c_called c_hold c_value c_marks c_act c_rowOfKey) (va_A (wX5 dA ad c_tree_parts c_bond_terms c_penceByUps c_pence c_turned c_called c_hold c_value c_marks c_act c_rowOfKey) sz)) 0 0 (va_A (wX5 dA ad c_tree_parts c_bond_terms c_penceByUps c_pence c_turned c_called c_hold c_value c_marks c_act c_rowOfKey) sz) := by
  refine Met.ofW (cc := cX5_rowsAheadOfLastDay) (maxL := 1) (ret := (some .int)) (by decide) rfl ?_
  intro p e s m args below meth c s₁ B hml hv
  obtain ⟨rfl, hsz, hP, hK, hD0⟩ := hv
  have hx := B.exec
  have hb := B.bytes
  have hr := B.returns
  have hts := atoms_spec (ws := wq (Cond.code yX5_rowsAheadOfLastDay cX5_rowsAheadOfLastDay 1 (some .int))) B.pre
  have hown : s.vm.findClass RX5 = some m.cls := findClass_of_methodNamed B.named
  have hlocks := B.notSynchronized
  clear B
  subst hsz
  have hD := hD0.self (sz := s.heap.size)
  generalize hAe : va_A (wX5 dA ad c_tree_parts c_bond_terms c_penceByUps c_pence c_turned c_called c_hold c_value c_marks c_act c_rowOfKey) s.heap.size = A at hD ⊢
  have hA : ∀ q : Nat, s.heap.size ≤ q → A q := fun q h => by rw [← hAe]; exact Or.inr h
  clear hAe hD0
  have hS : va_S A s.heap s.heap [] := va_S.rf
  have hl := lv_entry ([.ref (ad 0)]) (n := 1) (Nat.le_of_ble_eq_true rfl)
  rw [lg_entry_eq]
  generalize (lg_sl ([.ref (ad 0)]) ++ List.replicate (1 - (lg_sl ([.ref (ad 0)])).length) Slot.unset).toArray = ls at hl ⊢
  have hl : lv_has ls 1 [(0, .ref (ad 0))] := hl
  change W p l e rmX5_rowsAheadOfLastDay s m ([.ref (ad 0)] : List Value).toArray below meth c s.heap [] 0 0 _ _
  unfold fX5_rowsAheadOfLastDay at hf
  refine lv_iconst (v := 1) hx hb dX5_rowsAheadOfLastDay_0 (by decide) ?_
  refine lv_aload_n hx hb dX5_rowsAheadOfLastDay_1 rfl (lv_at hl 0 rfl) ?_
  refine va_get (D := (dC, dI)) (ci := 5) (v := .ref (ad 1)) (C := RX5) (T := TX5) (N := 11) hx hb hts (fun w h => gw_mem (inX5 w h)) hown hK.1 hP 0 rfl rfl 0 (by decide) (hts _ (gw_mem wfX5_12)) (fun _ h9 => h9) rfl dX5_rowsAheadOfLastDay_2 ?_
  obtain ⟨r1, v2, hf⟩ := bd1_some hf
  have z3 := sg1 (ws := (wX5 dA ad c_tree_parts c_bond_terms c_penceByUps c_pence c_turned c_called c_hold c_value c_marks c_act c_rowOfKey)) (s0 := ((wX5 dA ad c_tree_parts c_bond_terms c_penceByUps c_pence c_turned c_called c_hold c_value c_marks c_act c_rowOfKey)).take 1) (s1 := ((wX5 dA ad c_tree_parts c_bond_terms c_penceByUps c_pence c_turned c_called c_hold c_value c_marks c_act c_rowOfKey)).drop 3) (x1 := (wX7 dA (fun i => ad (i + 1)) c_tree_parts)) rfl
  refine gpi (wf := (wX5 dA ad c_tree_parts c_bond_terms c_penceByUps c_pence c_turned c_called c_hold c_value c_marks c_act c_rowOfKey)) (va_runV (As := []) (rest := [.int 1]) ⟨hx, hb, hml, hown, hts⟩ (tX7_lastDay l dC dI dA (fun i => ad (i + 1)) s.heap.size v2) (ccX5_X7_lastDay hts ⟨Nat.le_of_ble_eq_true rfl, Nat.le_of_ble_eq_true rfl⟩) (gPreV (ci := 7) (q0 := 0) (psub z3 hP) hK (psubD z3 hD) rfl rfl) rfl rfl hl.1 rfl (lv_room (Nat.le_of_ble_eq_true rfl)) dX5_rowsAheadOfLastDay_5 ⟨Nat.le_of_ble_eq_true rfl, Nat.le_of_ble_eq_true rfl⟩) hP hD hS hA z3 (sg1 (s0 := ((wX5 dA ad c_tree_parts c_bond_terms c_penceByUps c_pence c_turned c_called c_hold c_value c_marks c_act c_rowOfKey)).take 1) (s1 := ((wX5 dA ad c_tree_parts c_bond_terms c_penceByUps c_pence c_turned c_called c_hold c_value c_marks c_act c_rowOfKey)).drop 3) (x1 := (wX7 dA (fun i => ad (i + 1)) c_tree_parts)) rfl) (fun H locs hP hD hS => ?_)
  refine lv_ishl hx hb dX5_rowsAheadOfLastDay_8 ?_
  refine lv_iconst (v := 1) hx hb dX5_rowsAheadOfLastDay_9 (by decide) ?_
  refine lv_isub hx hb dX5_rowsAheadOfLastDay_10 ?_
  cases hf
  exact W.iret hx hb hr (fun t ht _ => gqi hP hD hS ht) hS.2.2 dX5_rowsAheadOfLastDay_11
theorem ccX5_X5_lastRow {R : Room} {s : State} {args : Array Value} {c0 : Cond} (ht : ∀ w ∈ wq c0, w.before args s = true) (hR : rmX5_lastRow.frames + 1 ≤ R.frames ∧ 8 + (1 + 11) + rmX5_lastRow.locals ≤ R.locals) : CallW R s args RX5 RX5 101 yX5_lastRow cX5_lastRow 1 (some .int) (wq (.code yX5_lastRow cX5_lastRow 1 (some .int))) rmX5_lastRow 0 0 0 := gCW 0 ht wcX5_lastRow wmX5_101 wiX5_lastRow weX5_lastRow wnX5 (by decide +kernel) rfl rfl hR
theorem ccX5_X5_endOnLastDay {R : Room} {s : State} {args : Array Value} {c0 : Cond} (ht : ∀ w ∈ wq c0, w.before args s = true) (hR : rmX5_endOnLastDay.frames + 1 ≤ R.frames ∧ 8 + (5 + 11) + rmX5_endOnLastDay.locals ≤ R.locals) : CallW R s args RX5 RX5 104 yX5_endOnLastDay cX5_endOnLastDay 5 none (wq (.code yX5_endOnLastDay cX5_endOnLastDay 5 none)) rmX5_endOnLastDay 0 0 1 := gCW 1 ht wcX5_endOnLastDay wmX5_104 wiX5_endOnLastDay weX5_endOnLastDay wnX5 (by decide +kernel) rfl rfl hR
theorem ccX5_X5_rowsAheadOfLastDay {R : Room} {s : State} {args : Array Value} {c0 : Cond} (ht : ∀ w ∈ wq c0, w.before args s = true) (hR : rmX5_rowsAheadOfLastDay.frames + 1 ≤ R.frames ∧ 8 + (1 + 11) + rmX5_rowsAheadOfLastDay.locals ≤ R.locals) : CallW R s args RX5 RX5 80 yX5_rowsAheadOfLastDay cX5_rowsAheadOfLastDay 1 (some .int) (wq (.code yX5_rowsAheadOfLastDay cX5_rowsAheadOfLastDay 1 (some .int))) rmX5_rowsAheadOfLastDay 0 0 0 := gCW 0 ht wcX5_rowsAheadOfLastDay wmX5_80 wiX5_rowsAheadOfLastDay weX5_rowsAheadOfLastDay wnX5 (by decide +kernel) rfl rfl hR
theorem ccX5_X7_pence {R : Room} {s : State} {args : Array Value} {c0 : Cond} (ht : ∀ w ∈ wq c0, w.before args s = true) (hR : rmX7_pence.frames + 1 ≤ R.frames ∧ 8 + (3 + 11) + rmX7_pence.locals ≤ R.locals) : CallW R s args RX5 RX7 95 yX7_pence cX7_pence 3 (some .long) (wq (.code yX7_pence cX7_pence 3 (some .long))) rmX7_pence 0 0 2 := gCW 2 ht wcX7_pence wmX5_95 wiX7_pence weX7_pence wnX7 (by decide +kernel) rfl rfl hR
theorem ccX5_X5_layOutRow {R : Room} {s : State} {args : Array Value} {c0 : Cond} (ht : ∀ w ∈ wq c0, w.before args s = true) (hR : rmX5_layOutRow.frames + 1 ≤ R.frames ∧ 8 + (9 + 11) + rmX5_layOutRow.locals ≤ R.locals) : CallW R s args RX5 RX5 98 yX5_layOutRow cX5_layOutRow 9 none (wq (.code yX5_layOutRow cX5_layOutRow 9 none)) rmX5_layOutRow 0 0 2 := gCW 2 ht wcX5_layOutRow wmX5_98 wiX5_layOutRow weX5_layOutRow wnX5 (by decide +kernel) rfl rfl hR
abbrev rmX5_layOut : Room := { frames := 3, cells := 0, slots := 0, locals := 79 }
set_option maxHeartbeats 4000000 in
set_option maxRecDepth 100000 in
theorem tX5_layOut (l : Launch) (dC : Nat → ClassId) (dI : Nat → Nat → Nat) (dA : Nat → ClassId) (ad : Nat → Nat) (sz : Nat) {c_tree_parts : Nat → Int32} {c_bond_terms : Nat → Int32} {c_penceByUps : Nat → Int64} {c_pence : Nat → Int64} {c_turned : Nat → Int64} {c_called : Nat → Int64} {c_hold : Nat → Int64} {c_value : Nat → Int64} {c_marks : Nat → Int32} {c_act : Nat → Int32} {c_rowOfKey : Nat → Int32} {o_c_penceByUps : Nat → Int64} {o_c_pence : Nat → Int64} {o_c_turned : Nat → Int64} {o_c_called : Nat → Int64} {o_c_hold : Nat → Int64} {o_c_value : Nat → Int64} {o_c_marks : Nat → Int32} {o_c_act : Nat → Int32} (hf : fX5_layOut c_tree_parts c_bond_terms c_penceByUps c_pence c_turned c_called c_hold c_value c_marks c_act = some (o_c_penceByUps, o_c_pence, o_c_turned, o_c_called, o_c_hold, o_c_value, o_c_marks, o_c_act)) : Met l yX5_layOut (wq (Cond.code yX5_layOut cX5_layOut 3 none)) rmX5_layOut (gP [.ref (ad 0)] (dC, dI) dA (wX5 dA ad c_tree_parts c_bond_terms c_penceByUps c_pence c_turned c_called c_hold c_value c_marks c_act c_rowOfKey) sz) (gQv (dC, dI) (wX5 dA ad c_tree_parts c_bond_terms o_c_penceByUps o_c_pence o_c_turned o_c_called o_c_hold o_c_value o_c_marks o_c_act c_rowOfKey) (va_A (wX5 dA ad c_tree_parts c_bond_terms c_penceByUps c_pence c_turned c_called c_hold c_value c_marks c_act c_rowOfKey) sz)) 0 0 (va_A (wX5 dA ad c_tree_parts c_bond_terms c_penceByUps c_pence c_turned c_called c_hold c_value c_marks c_act c_rowOfKey) sz) := by
  refine Met.ofW (cc := cX5_layOut) (maxL := 3) (ret := none) (by decide) rfl ?_
  intro p e s m args below meth c s₁ B hml hv
  obtain ⟨rfl, hsz, hP, hK, hD0⟩ := hv
  have hx := B.exec
  have hb := B.bytes
  have hr := B.returns
  have hts := atoms_spec (ws := wq (Cond.code yX5_layOut cX5_layOut 3 none)) B.pre
  have hown : s.vm.findClass RX5 = some m.cls := findClass_of_methodNamed B.named
  have hlocks := B.notSynchronized
  clear B
  subst hsz
  have hD := hD0.self (sz := s.heap.size)
  generalize hAe : va_A (wX5 dA ad c_tree_parts c_bond_terms c_penceByUps c_pence c_turned c_called c_hold c_value c_marks c_act c_rowOfKey) s.heap.size = A at hD ⊢
  have hA : ∀ q : Nat, s.heap.size ≤ q → A q := fun q h => by rw [← hAe]; exact Or.inr h
  clear hAe hD0
  have hS : va_S A s.heap s.heap [] := va_S.rf
  have hl := lv_entry ([.ref (ad 0)]) (n := 3) (Nat.le_of_ble_eq_true rfl)
  rw [lg_entry_eq]
  generalize (lg_sl ([.ref (ad 0)]) ++ List.replicate (3 - (lg_sl ([.ref (ad 0)])).length) Slot.unset).toArray = ls at hl ⊢
  have hl : lv_has ls 3 [(0, .ref (ad 0))] := hl
  change W p l e rmX5_layOut s m ([.ref (ad 0)] : List Value).toArray below meth c s.heap [] 0 0 _ _
  generalize hQ : MQ below (gQv (dC, dI) (wX5 dA ad c_tree_parts c_bond_terms o_c_penceByUps o_c_pence o_c_turned o_c_called o_c_hold o_c_value o_c_marks o_c_act c_rowOfKey) A) ([.ref (ad 0)] : List Value).toArray s 0 0 A = Q
  have LP83 : ∀ (n : Nat) (c_tree_parts : Nat → Int32) (c_bond_terms : Nat → Int32) (c_turned : Nat → Int64) (c_penceByUps : Nat → Int64) (c_pence : Nat → Int64) (c_called : Nat → Int64) (c_marks : Nat → Int32) (c_rowOfKey : Nat → Int32) (x1 : Int32) (c_hold : Nat → Int64) (c_value : Nat → Int64) (c_act : Nat → Int32) (o_c_hold : Nat → Int64) (o_c_value : Nat → Int64) (o_c_act : Nat → Int32) (H : Heap) (locs : List Loc) (ls : Array Slot), va_P (dC, dI) vwCl (wX5 dA ad c_tree_parts c_bond_terms c_penceByUps c_pence c_turned c_called c_hold c_value c_marks c_act c_rowOfKey) H → va_D A (wX5 dA ad c_tree_parts c_bond_terms c_penceByUps c_pence c_turned c_called c_hold c_value c_marks c_act c_rowOfKey) → va_S A s.heap H locs → lpX5_layOut_83 c_tree_parts c_bond_terms c_turned n x1 c_hold c_value c_act = some (o_c_hold, o_c_value, o_c_act) → lv_has ls 3 [(0, .ref (ad 0)), (1, .int x1)] → (∀ (H : Heap) (locs : List Loc) (ls : Array Slot), va_P (dC, dI) vwCl (wX5 dA ad c_tree_parts c_bond_terms c_penceByUps c_pence c_turned c_called o_c_hold o_c_value c_marks o_c_act c_rowOfKey) H → va_D A (wX5 dA ad c_tree_parts c_bond_terms c_penceByUps c_pence c_turned c_called o_c_hold o_c_value c_marks o_c_act c_rowOfKey) → va_S A s.heap H locs → lv_has ls 3 [] → W p l e rmX5_layOut s m ([.ref (ad 0)] : List Value).toArray below meth c H locs 0 0 Q (F0 m 102 ls [])) → W p l e rmX5_layOut s m ([.ref (ad 0)] : List Value).toArray below meth c H locs 0 0 Q (F0 m 83 ls []) := by
    intro n
    induction n with
    | zero =>
      intro c_tree_parts c_bond_terms c_turned c_penceByUps c_pence c_called c_marks c_rowOfKey x1 c_hold c_value c_act o_c_hold o_c_value o_c_act H locs ls hP hD hS hf hl hk
      cases hf
    | succ n ih83 =>
      intro c_tree_parts c_bond_terms c_turned c_penceByUps c_pence c_called c_marks c_rowOfKey x1 c_hold c_value c_act o_c_hold o_c_value o_c_act H locs ls hP hD hS hf hl hk
      rw [lpX5_layOut_83.eq_2] at hf
      refine lv_iload_n hx hb dX5_layOut_83 rfl (lv_at hl 1 rfl) ?_
      refine lv_aload_n hx hb dX5_layOut_84 rfl (lv_at hl 0 rfl) ?_
      obtain ⟨r42, v43, hf⟩ := bd1_some hf
      refine gci (va_runV (As := []) (rest := [.int x1]) ⟨hx, hb, hml, hown, hts⟩ (tX5_lastRow l dC dI dA ad H.size v43) (ccX5_X5_lastRow hts ⟨Nat.le_of_ble_eq_true rfl, Nat.le_of_ble_eq_true rfl⟩) (gPreV (ci := 5) (q0 := 0) hP hK hD rfl rfl) rfl rfl hl.1 rfl (lv_room (Nat.le_of_ble_eq_true rfl)) dX5_layOut_85 ⟨Nat.le_of_ble_eq_true rfl, Nat.le_of_ble_eq_true rfl⟩) hD hS hA (fun H locs hP hD hS => ?_)
      refine lv_icmp_gt (tgt := 102) hx hb dX5_layOut_88 (by decide) (fun k44 => ?_) (fun k44 => ?_)
      · replace hf := ifp k44 hf
        cases hf
        exact hk _ _ _ hP hD hS (lv_sub hl [] rfl)
      · replace hf := ifn k44 hf
        refine lv_aload_n hx hb dX5_layOut_91 rfl (lv_at hl 0 rfl) ?_
        refine lv_iload_n hx hb dX5_layOut_92 rfl (lv_at hl 1 rfl) ?_
        obtain ⟨c_hold_45, c_value_46, c_act_47, v48, hf⟩ := bd3_some hf
        refine gcv (va_runV (As := [.int x1]) (rest := []) ⟨hx, hb, hml, hown, hts⟩ (tX5_endOnLastDay l dC dI dA ad H.size v48) (ccX5_X5_endOnLastDay hts ⟨Nat.le_of_ble_eq_true rfl, Nat.le_of_ble_eq_true rfl⟩) (gPreV (ci := 5) (q0 := 0) hP hK hD rfl rfl) rfl rfl hl.1 rfl (lv_room (Nat.le_of_ble_eq_true rfl)) dX5_layOut_93 ⟨Nat.le_of_ble_eq_true rfl, Nat.le_of_ble_eq_true rfl⟩) hD hS hA (fun H locs hP hD hS => ?_)
        obtain ⟨w49, ew49⟩ : ∃ y : Int32, y = x1 + 1 := ⟨_, rfl⟩
        replace hf := nm_at hf ew49
        refine lv_iinc (v := w49) (lv' := [(1, .int w49), (0, .ref (ad 0))]) hx hb dX5_layOut_96 hl (k := 1) rfl (by rw [ew49]; rfl) (by decide) rfl (fun ls hl => ?_)
        refine lv_goto (tgt := 83) hx hb dX5_layOut_99 (by decide) ?_
        exact ih83 _ _ _ _ _ _ _ _ _ _ _ _ _ _ _ _ _ _ hP hD hS hf (lv_sub hl [1, 0] rfl) hk
  have LP51 : ∀ (n : Nat) (x1 : Int32) (c_bond_terms : Nat → Int32) (c_penceByUps : Nat → Int64) (c_tree_parts : Nat → Int32) (c_hold : Nat → Int64) (c_value : Nat → Int64) (c_act : Nat → Int32) (c_rowOfKey : Nat → Int32) (x2 : Int32) (c_pence : Nat → Int64) (c_turned : Nat → Int64) (c_called : Nat → Int64) (c_marks : Nat → Int32) (o_c_pence : Nat → Int64) (o_c_turned : Nat → Int64) (o_c_called : Nat → Int64) (o_c_marks : Nat → Int32) (H : Heap) (locs : List Loc) (ls : Array Slot), va_P (dC, dI) vwCl (wX5 dA ad c_tree_parts c_bond_terms c_penceByUps c_pence c_turned c_called c_hold c_value c_marks c_act c_rowOfKey) H → va_D A (wX5 dA ad c_tree_parts c_bond_terms c_penceByUps c_pence c_turned c_called c_hold c_value c_marks c_act c_rowOfKey) → va_S A s.heap H locs → lpX5_layOut_51 x1 c_bond_terms c_penceByUps n x2 c_pence c_turned c_called c_marks = some (o_c_pence, o_c_turned, o_c_called, o_c_marks) → lv_has ls 3 [(0, .ref (ad 0)), (1, .int x1), (2, .int x2)] → (∀ (H : Heap) (locs : List Loc) (ls : Array Slot), va_P (dC, dI) vwCl (wX5 dA ad c_tree_parts c_bond_terms c_penceByUps o_c_pence o_c_turned o_c_called c_hold c_value o_c_marks c_act c_rowOfKey) H → va_D A (wX5 dA ad c_tree_parts c_bond_terms c_penceByUps o_c_pence o_c_turned o_c_called c_hold c_value o_c_marks c_act c_rowOfKey) → va_S A s.heap H locs → lv_has ls 3 [(0, .ref (ad 0)), (1, .int x1)] → W p l e rmX5_layOut s m ([.ref (ad 0)] : List Value).toArray below meth c H locs 0 0 Q (F0 m 70 ls [])) → W p l e rmX5_layOut s m ([.ref (ad 0)] : List Value).toArray below meth c H locs 0 0 Q (F0 m 51 ls []) := by
    intro n
    induction n with
    | zero =>
      intro x1 c_bond_terms c_penceByUps c_tree_parts c_hold c_value c_act c_rowOfKey x2 c_pence c_turned c_called c_marks o_c_pence o_c_turned o_c_called o_c_marks H locs ls hP hD hS hf hl hk
      cases hf
    | succ n ih51 =>
      intro x1 c_bond_terms c_penceByUps c_tree_parts c_hold c_value c_act c_rowOfKey x2 c_pence c_turned c_called c_marks o_c_pence o_c_turned o_c_called o_c_marks H locs ls hP hD hS hf hl hk
      rw [lpX5_layOut_51.eq_2] at hf
      refine lv_iload_n hx hb dX5_layOut_51 rfl (lv_at hl 2 rfl) ?_
      refine lv_iconst (v := 2) hx hb dX5_layOut_52 (by decide) ?_
      refine lv_iload_n hx hb dX5_layOut_53 rfl (lv_at hl 1 rfl) ?_
      refine lv_ishl hx hb dX5_layOut_54 ?_
      refine lv_icmp_ge (tgt := 70) hx hb dX5_layOut_55 (by decide) (fun k35 => ?_) (fun k35 => ?_)
      · replace hf := ifp k35 hf
        cases hf
        exact hk _ _ _ hP hD hS (lv_sub hl [0, 1] rfl)
      · replace hf := ifn k35 hf
        refine lv_aload_n hx hb dX5_layOut_58 rfl (lv_at hl 0 rfl) ?_
        refine lv_iload_n hx hb dX5_layOut_59 rfl (lv_at hl 2 rfl) ?_
        refine lv_iload_n hx hb dX5_layOut_60 rfl (lv_at hl 1 rfl) ?_
        obtain ⟨c_pence_36, c_turned_37, c_called_38, c_marks_39, v40, hf⟩ := bd4_some hf
        refine gcv (va_runV (As := [.int x2, .int x1]) (rest := []) ⟨hx, hb, hml, hown, hts⟩ (tX5_layOutRow l dC dI dA ad H.size v40) (ccX5_X5_layOutRow hts ⟨Nat.le_of_ble_eq_true rfl, Nat.le_of_ble_eq_true rfl⟩) (gPreV (ci := 5) (q0 := 0) hP hK hD rfl rfl) rfl rfl hl.1 rfl (lv_room (Nat.le_of_ble_eq_true rfl)) dX5_layOut_61 ⟨Nat.le_of_ble_eq_true rfl, Nat.le_of_ble_eq_true rfl⟩) hD hS hA (fun H locs hP hD hS => ?_)
        obtain ⟨w41, ew41⟩ : ∃ y : Int32, y = x2 + 1 := ⟨_, rfl⟩
        replace hf := nm_at hf ew41
        refine lv_iinc (v := w41) (lv' := [(2, .int w41), (0, .ref (ad 0)), (1, .int x1)]) hx hb dX5_layOut_64 hl (k := 2) rfl (by rw [ew41]; rfl) (by decide) rfl (fun ls hl => ?_)
        refine lv_goto (tgt := 51) hx hb dX5_layOut_67 (by decide) ?_
        exact ih51 _ _ _ _ _ _ _ _ _ _ _ _ _ _ _ _ _ _ _ _ hP hD hS hf (lv_sub hl [1, 2, 0] rfl) hk
  have LP15 : ∀ (n : Nat) (x1 : Int32) (c_tree_parts : Nat → Int32) (c_bond_terms : Nat → Int32) (c_pence : Nat → Int64) (c_turned : Nat → Int64) (c_called : Nat → Int64) (c_hold : Nat → Int64) (c_value : Nat → Int64) (c_marks : Nat → Int32) (c_act : Nat → Int32) (c_rowOfKey : Nat → Int32) (x2 : Int32) (c_penceByUps : Nat → Int64) (o_c_penceByUps : Nat → Int64) (H : Heap) (locs : List Loc) (ls : Array Slot), va_P (dC, dI) vwCl (wX5 dA ad c_tree_parts c_bond_terms c_penceByUps c_pence c_turned c_called c_hold c_value c_marks c_act c_rowOfKey) H → va_D A (wX5 dA ad c_tree_parts c_bond_terms c_penceByUps c_pence c_turned c_called c_hold c_value c_marks c_act c_rowOfKey) → va_S A s.heap H locs → lpX5_layOut_15 x1 c_tree_parts n x2 c_penceByUps = some (o_c_penceByUps) → lv_has ls 3 [(0, .ref (ad 0)), (1, .int x1), (2, .int x2)] → (∀ (H : Heap) (locs : List Loc) (ls : Array Slot), va_P (dC, dI) vwCl (wX5 dA ad c_tree_parts c_bond_terms o_c_penceByUps c_pence c_turned c_called c_hold c_value c_marks c_act c_rowOfKey) H → va_D A (wX5 dA ad c_tree_parts c_bond_terms o_c_penceByUps c_pence c_turned c_called c_hold c_value c_marks c_act c_rowOfKey) → va_S A s.heap H locs → lv_has ls 3 [(0, .ref (ad 0)), (1, .int x1)] → W p l e rmX5_layOut s m ([.ref (ad 0)] : List Value).toArray below meth c H locs 0 0 Q (F0 m 47 ls [])) → W p l e rmX5_layOut s m ([.ref (ad 0)] : List Value).toArray below meth c H locs 0 0 Q (F0 m 15 ls []) := by
    intro n
    induction n with
    | zero =>
      intro x1 c_tree_parts c_bond_terms c_pence c_turned c_called c_hold c_value c_marks c_act c_rowOfKey x2 c_penceByUps o_c_penceByUps H locs ls hP hD hS hf hl hk
      cases hf
    | succ n ih15 =>
      intro x1 c_tree_parts c_bond_terms c_pence c_turned c_called c_hold c_value c_marks c_act c_rowOfKey x2 c_penceByUps o_c_penceByUps H locs ls hP hD hS hf hl hk
      rw [lpX5_layOut_15.eq_2] at hf
      refine lv_iload_n hx hb dX5_layOut_15 rfl (lv_at hl 2 rfl) ?_
      refine lv_iload_n hx hb dX5_layOut_16 rfl (lv_at hl 1 rfl) ?_
      refine lv_icmp_gt (tgt := 47) hx hb dX5_layOut_17 (by decide) (fun k27 => ?_) (fun k27 => ?_)
      · replace hf := ifp k27 hf
        cases hf
        exact hk _ _ _ hP hD hS (lv_sub hl [0, 1] rfl)
      · replace hf := ifn k27 hf
        refine lv_iload_n hx hb dX5_layOut_20 rfl (lv_at hl 2 rfl) ?_
        refine lv_bipush (v := 6) hx hb dX5_layOut_21 (by decide) ?_
        refine lv_icmp_gt (tgt := 47) hx hb dX5_layOut_23 (by decide) (fun k28 => ?_) (fun k28 => ?_)
        · replace hf := ifp k28 hf
          cases hf
          exact hk _ _ _ hP hD hS (lv_sub hl [0, 1] rfl)
        · replace hf := ifn k28 hf
          refine lv_aload_n hx hb dX5_layOut_26 rfl (lv_at hl 0 rfl) ?_
          refine va_get (D := (dC, dI)) (ci := 5) (v := .ref (ad 5)) (C := RX5) (T := TX5) (N := 11) hx hb hts (fun w h => gw_mem (inX5 w h)) hown hK.1 hP 0 rfl rfl 2 (by decide) (hts _ (gw_mem wfX5_25)) (fun _ h9 => h9) rfl dX5_layOut_27 ?_
          refine lv_iload_n hx hb dX5_layOut_30 rfl (lv_at hl 2 rfl) ?_
          refine lv_aload_n hx hb dX5_layOut_31 rfl (lv_at hl 0 rfl) ?_
          refine va_get (D := (dC, dI)) (ci := 5) (v := .ref (ad 1)) (C := RX5) (T := TX5) (N := 11) hx hb hts (fun w h => gw_mem (inX5 w h)) hown hK.1 hP 0 rfl rfl 0 (by decide) (hts _ (gw_mem wfX5_12)) (fun _ h9 => h9) rfl dX5_layOut_32 ?_
          refine lv_iload_n hx hb dX5_layOut_35 rfl (lv_at hl 1 rfl) ?_
          refine lv_iload_n hx hb dX5_layOut_36 rfl (lv_at hl 2 rfl) ?_
          obtain ⟨r29, v30, hf⟩ := bd1_some hf
          have z31 := sg1 (ws := (wX5 dA ad c_tree_parts c_bond_terms c_penceByUps c_pence c_turned c_called c_hold c_value c_marks c_act c_rowOfKey)) (s0 := ((wX5 dA ad c_tree_parts c_bond_terms c_penceByUps c_pence c_turned c_called c_hold c_value c_marks c_act c_rowOfKey)).take 1) (s1 := ((wX5 dA ad c_tree_parts c_bond_terms c_penceByUps c_pence c_turned c_called c_hold c_value c_marks c_act c_rowOfKey)).drop 3) (x1 := (wX7 dA (fun i => ad (i + 1)) c_tree_parts)) rfl
          refine gpl (wf := (wX5 dA ad c_tree_parts c_bond_terms c_penceByUps c_pence c_turned c_called c_hold c_value c_marks c_act c_rowOfKey)) (va_runV (As := [.int x1, .int x2]) (rest := [.int x2, .ref (ad 5)]) ⟨hx, hb, hml, hown, hts⟩ (tX7_pence l dC dI dA (fun i => ad (i + 1)) H.size v30) (ccX5_X7_pence hts ⟨Nat.le_of_ble_eq_true rfl, Nat.le_of_ble_eq_true rfl⟩) (gPreV (ci := 7) (q0 := 0) (psub z31 hP) hK (psubD z31 hD) rfl rfl) rfl rfl hl.1 rfl (lv_room (Nat.le_of_ble_eq_true rfl)) dX5_layOut_37 ⟨Nat.le_of_ble_eq_true rfl, Nat.le_of_ble_eq_true rfl⟩) hP hD hS hA z31 (sg1 (s0 := ((wX5 dA ad c_tree_parts c_bond_terms c_penceByUps c_pence c_turned c_called c_hold c_value c_marks c_act c_rowOfKey)).take 1) (s1 := ((wX5 dA ad c_tree_parts c_bond_terms c_penceByUps c_pence c_turned c_called c_hold c_value c_marks c_act c_rowOfKey)).drop 3) (x1 := (wX7 dA (fun i => ad (i + 1)) c_tree_parts)) rfl) (fun H locs hP hD hS => ?_)
          obtain ⟨h32, hf⟩ := og_some hf
          obtain ⟨w33, ew33⟩ : ∃ y : Nat → Int64, y = vp_updL c_penceByUps (Int32.toNatClampNeg x2) r29 := ⟨_, rfl⟩
          replace hf := nm_at hf ew33
          refine va_last hx hb hK.1 hP hD hS 5 1 rfl rfl (okI_in h32) dX5_layOut_40 (fun H locs hP hD hS => ?_)
          have hP : va_P (dC, dI) vwCl (wX5 dA ad c_tree_parts c_bond_terms w33 c_pence c_turned c_called c_hold c_value c_marks c_act c_rowOfKey) H := by rw [ew33]; exact hP
          have hD : va_D A (wX5 dA ad c_tree_parts c_bond_terms w33 c_pence c_turned c_called c_hold c_value c_marks c_act c_rowOfKey) := by rw [ew33]; exact hD
          obtain ⟨w34, ew34⟩ : ∃ y : Int32, y = x2 + 1 := ⟨_, rfl⟩
          replace hf := nm_at hf ew34
          refine lv_iinc (v := w34) (lv' := [(2, .int w34), (0, .ref (ad 0)), (1, .int x1)]) hx hb dX5_layOut_41 hl (k := 2) rfl (by rw [ew34]; rfl) (by decide) rfl (fun ls hl => ?_)
          refine lv_goto (tgt := 15) hx hb dX5_layOut_44 (by decide) ?_
          exact ih15 _ _ _ _ _ _ _ _ _ _ _ _ _ _ _ _ _ hP hD hS hf (lv_sub hl [1, 2, 0] rfl) hk
  have LP2 : ∀ (n : Nat) (c_tree_parts : Nat → Int32) (c_bond_terms : Nat → Int32) (c_hold : Nat → Int64) (c_value : Nat → Int64) (c_act : Nat → Int32) (c_rowOfKey : Nat → Int32) (x1 : Int32) (c_penceByUps : Nat → Int64) (c_pence : Nat → Int64) (c_turned : Nat → Int64) (c_called : Nat → Int64) (c_marks : Nat → Int32) (o_c_penceByUps : Nat → Int64) (o_c_pence : Nat → Int64) (o_c_turned : Nat → Int64) (o_c_called : Nat → Int64) (o_c_marks : Nat → Int32) (H : Heap) (locs : List Loc) (ls : Array Slot), va_P (dC, dI) vwCl (wX5 dA ad c_tree_parts c_bond_terms c_penceByUps c_pence c_turned c_called c_hold c_value c_marks c_act c_rowOfKey) H → va_D A (wX5 dA ad c_tree_parts c_bond_terms c_penceByUps c_pence c_turned c_called c_hold c_value c_marks c_act c_rowOfKey) → va_S A s.heap H locs → lpX5_layOut_2 c_tree_parts c_bond_terms n x1 c_penceByUps c_pence c_turned c_called c_marks = some (o_c_penceByUps, o_c_pence, o_c_turned, o_c_called, o_c_marks) → lv_has ls 3 [(0, .ref (ad 0)), (1, .int x1)] → (∀ (H : Heap) (locs : List Loc) (ls : Array Slot), va_P (dC, dI) vwCl (wX5 dA ad c_tree_parts c_bond_terms o_c_penceByUps o_c_pence o_c_turned o_c_called c_hold c_value o_c_marks c_act c_rowOfKey) H → va_D A (wX5 dA ad c_tree_parts c_bond_terms o_c_penceByUps o_c_pence o_c_turned o_c_called c_hold c_value o_c_marks c_act c_rowOfKey) → va_S A s.heap H locs → lv_has ls 3 [(0, .ref (ad 0))] → W p l e rmX5_layOut s m ([.ref (ad 0)] : List Value).toArray below meth c H locs 0 0 Q (F0 m 76 ls [])) → W p l e rmX5_layOut s m ([.ref (ad 0)] : List Value).toArray below meth c H locs 0 0 Q (F0 m 2 ls []) := by
    intro n
    induction n with
    | zero =>
      intro c_tree_parts c_bond_terms c_hold c_value c_act c_rowOfKey x1 c_penceByUps c_pence c_turned c_called c_marks o_c_penceByUps o_c_pence o_c_turned o_c_called o_c_marks H locs ls hP hD hS hf hl hk
      cases hf
    | succ n ih2 =>
      intro c_tree_parts c_bond_terms c_hold c_value c_act c_rowOfKey x1 c_penceByUps c_pence c_turned c_called c_marks o_c_penceByUps o_c_pence o_c_turned o_c_called o_c_marks H locs ls hP hD hS hf hl hk
      rw [lpX5_layOut_2.eq_2] at hf
      refine lv_iload_n hx hb dX5_layOut_2 rfl (lv_at hl 1 rfl) ?_
      refine lv_aload_n hx hb dX5_layOut_3 rfl (lv_at hl 0 rfl) ?_
      refine va_get (D := (dC, dI)) (ci := 5) (v := .ref (ad 1)) (C := RX5) (T := TX5) (N := 11) hx hb hts (fun w h => gw_mem (inX5 w h)) hown hK.1 hP 0 rfl rfl 0 (by decide) (hts _ (gw_mem wfX5_12)) (fun _ h9 => h9) rfl dX5_layOut_4 ?_
      obtain ⟨r14, v15, hf⟩ := bd1_some hf
      have z16 := sg1 (ws := (wX5 dA ad c_tree_parts c_bond_terms c_penceByUps c_pence c_turned c_called c_hold c_value c_marks c_act c_rowOfKey)) (s0 := ((wX5 dA ad c_tree_parts c_bond_terms c_penceByUps c_pence c_turned c_called c_hold c_value c_marks c_act c_rowOfKey)).take 1) (s1 := ((wX5 dA ad c_tree_parts c_bond_terms c_penceByUps c_pence c_turned c_called c_hold c_value c_marks c_act c_rowOfKey)).drop 3) (x1 := (wX7 dA (fun i => ad (i + 1)) c_tree_parts)) rfl
      refine gpi (wf := (wX5 dA ad c_tree_parts c_bond_terms c_penceByUps c_pence c_turned c_called c_hold c_value c_marks c_act c_rowOfKey)) (va_runV (As := []) (rest := [.int x1]) ⟨hx, hb, hml, hown, hts⟩ (tX7_lastDay l dC dI dA (fun i => ad (i + 1)) H.size v15) (ccX5_X7_lastDay hts ⟨Nat.le_of_ble_eq_true rfl, Nat.le_of_ble_eq_true rfl⟩) (gPreV (ci := 7) (q0 := 0) (psub z16 hP) hK (psubD z16 hD) rfl rfl) rfl rfl hl.1 rfl (lv_room (Nat.le_of_ble_eq_true rfl)) dX5_layOut_7 ⟨Nat.le_of_ble_eq_true rfl, Nat.le_of_ble_eq_true rfl⟩) hP hD hS hA z16 (sg1 (s0 := ((wX5 dA ad c_tree_parts c_bond_terms c_penceByUps c_pence c_turned c_called c_hold c_value c_marks c_act c_rowOfKey)).take 1) (s1 := ((wX5 dA ad c_tree_parts c_bond_terms c_penceByUps c_pence c_turned c_called c_hold c_value c_marks c_act c_rowOfKey)).drop 3) (x1 := (wX7 dA (fun i => ad (i + 1)) c_tree_parts)) rfl) (fun H locs hP hD hS => ?_)
      refine lv_icmp_gt (tgt := 76) hx hb dX5_layOut_10 (by decide) (fun k17 => ?_) (fun k17 => ?_)
      · replace hf := ifp k17 hf
        cases hf
        exact hk _ _ _ hP hD hS (lv_sub hl [0] rfl)
      · replace hf := ifn k17 hf
        refine lv_iconst (v := 0) hx hb dX5_layOut_13 (by decide) ?_
        refine lv_istore_n (lv' := [(2, .int 0), (0, .ref (ad 0)), (1, .int x1)]) hx hb dX5_layOut_14 rfl hl (by decide) rfl (fun ls hl => ?_)
        obtain ⟨c_penceByUps_18, v19, hf⟩ := bd1_some hf
        refine LP15 FU _ _ _ _ _ _ _ _ _ _ _ _ _ _ _ _ _ hP hD hS v19 (lv_sub hl [1, 2, 0] rfl) (fun H locs ls hP hD hS hl => ?_)
        refine lv_iconst (v := 1) hx hb dX5_layOut_47 (by decide) ?_
        refine lv_iload_n hx hb dX5_layOut_48 rfl (lv_at hl 1 rfl) ?_
        refine lv_ishl hx hb dX5_layOut_49 ?_
        refine lv_topi (fun w20 ew20 => ?_)
        replace hf := nm_at hf ew20
        refine lv_istore_n (lv' := [(2, .int w20), (0, .ref (ad 0)), (1, .int x1)]) hx hb dX5_layOut_50 rfl hl (by decide) rfl (fun ls hl => ?_)
        obtain ⟨c_pence_21, c_turned_22, c_called_23, c_marks_24, v25, hf⟩ := bd4_some hf
        refine LP51 FU _ _ _ _ _ _ _ _ _ _ _ _ _ _ _ _ _ _ _ _ hP hD hS v25 (lv_sub hl [1, 2, 0] rfl) (fun H locs ls hP hD hS hl => ?_)
        obtain ⟨w26, ew26⟩ : ∃ y : Int32, y = x1 + 1 := ⟨_, rfl⟩
        replace hf := nm_at hf ew26
        refine lv_iinc (v := w26) (lv' := [(1, .int w26), (0, .ref (ad 0))]) hx hb dX5_layOut_70 hl (k := 1) rfl (by rw [ew26]; rfl) (by decide) rfl (fun ls hl => ?_)
        refine lv_goto (tgt := 2) hx hb dX5_layOut_73 (by decide) ?_
        exact ih2 _ _ _ _ _ _ _ _ _ _ _ _ _ _ _ _ _ _ _ _ hP hD hS hf (lv_sub hl [1, 0] rfl) hk
  subst hQ
  unfold fX5_layOut at hf
  refine lv_iconst (v := 0) hx hb dX5_layOut_0 (by decide) ?_
  refine lv_istore_n (lv' := [(1, .int 0), (0, .ref (ad 0))]) hx hb dX5_layOut_1 rfl hl (by decide) rfl (fun ls hl => ?_)
  obtain ⟨c_penceByUps_1, c_pence_2, c_turned_3, c_called_4, c_marks_5, v6, hf⟩ := bd5_some hf
  refine LP2 FU _ _ _ _ _ _ _ _ _ _ _ _ _ _ _ _ _ _ _ _ hP hD hS v6 (lv_sub hl [1, 0] rfl) (fun H locs ls hP hD hS hl => ?_)
  refine lv_aload_n hx hb dX5_layOut_76 rfl (lv_at hl 0 rfl) ?_
  obtain ⟨r7, v8, hf⟩ := bd1_some hf
  refine gci (va_runV (As := []) (rest := []) ⟨hx, hb, hml, hown, hts⟩ (tX5_rowsAheadOfLastDay l dC dI dA ad H.size v8) (ccX5_X5_rowsAheadOfLastDay hts ⟨Nat.le_of_ble_eq_true rfl, Nat.le_of_ble_eq_true rfl⟩) (gPreV (ci := 5) (q0 := 0) hP hK hD rfl rfl) rfl rfl hl.1 rfl (lv_room (Nat.le_of_ble_eq_true rfl)) dX5_layOut_77 ⟨Nat.le_of_ble_eq_true rfl, Nat.le_of_ble_eq_true rfl⟩) hD hS hA (fun H locs hP hD hS => ?_)
  refine lv_iconst (v := 1) hx hb dX5_layOut_80 (by decide) ?_
  refine lv_iadd hx hb dX5_layOut_81 ?_
  refine lv_topi (fun w9 ew9 => ?_)
  replace hf := nm_at hf ew9
  refine lv_istore_n (lv' := [(1, .int w9), (0, .ref (ad 0))]) hx hb dX5_layOut_82 rfl hl (by decide) rfl (fun ls hl => ?_)
  obtain ⟨c_hold_10, c_value_11, c_act_12, v13, hf⟩ := bd3_some hf
  refine LP83 FU _ _ _ _ _ _ _ _ _ _ _ _ _ _ _ _ _ _ hP hD hS v13 (lv_sub hl [1, 0] rfl) (fun H locs ls hP hD hS hl => ?_)
  cases hf
  exact W.vret hx hb hr (fun t ht _ => gqv hP hD hS ht) hS.2.2 dX5_layOut_102
theorem ccX5_X5_layOut {R : Room} {s : State} {args : Array Value} {c0 : Cond} (ht : ∀ w ∈ wq c0, w.before args s = true) (hR : rmX5_layOut.frames + 1 ≤ R.frames ∧ 8 + (3 + 11) + rmX5_layOut.locals ≤ R.locals) : CallW R s args RX5 RX5 77 yX5_layOut cX5_layOut 3 none (wq (.code yX5_layOut cX5_layOut 3 none)) rmX5_layOut 0 0 0 := gCW 0 ht wcX5_layOut wmX5_77 wiX5_layOut weX5_layOut wnX5 (by decide +kernel) rfl rfl hR
theorem ccX5_X8_dayOf {R : Room} {s : State} {args : Array Value} {c0 : Cond} (hN : gN s) (ht : ∀ w ∈ wq c0, w.before args s = true) (hR : rmX8_dayOf.frames + 1 ≤ R.frames ∧ 8 + (2 + 11) + rmX8_dayOf.locals ≤ R.locals) : va_CN R s args RX5 83 yX8_dayOf RX8 cX8_dayOf 2 (some .int) (wq (.code yX8_dayOf cX8_dayOf 2 (some .int))) rmX8_dayOf 0 0 1 ∧ (Cond.static yX8_dayOf).before args s = true ∧ True := gCSN 1 hN ht wcX8_dayOf wmX5_83 wtX8_dayOf wnX8 (by decide +kernel) rfl rfl hR
theorem ccX5_X5_chooseBest {R : Room} {s : State} {args : Array Value} {c0 : Cond} (ht : ∀ w ∈ wq c0, w.before args s = true) (hR : rmX5_chooseBest.frames + 1 ≤ R.frames ∧ 8 + (15 + 11) + rmX5_chooseBest.locals ≤ R.locals) : CallW R s args RX5 RX5 87 yX5_chooseBest cX5_chooseBest 15 none (wq (.code yX5_chooseBest cX5_chooseBest 15 none)) rmX5_chooseBest 0 0 2 := gCW 2 ht wcX5_chooseBest wmX5_87 wiX5_chooseBest weX5_chooseBest wnX5 (by decide +kernel) rfl rfl hR
abbrev rmX5_playBest : Room := { frames := 4, cells := 0, slots := 0, locals := 106 }
set_option maxHeartbeats 4000000 in
set_option maxRecDepth 100000 in
theorem tX5_playBest (l : Launch) (dC : Nat → ClassId) (dI : Nat → Nat → Nat) (dA : Nat → ClassId) (ad : Nat → Nat) (sz : Nat) {c_tree_parts : Nat → Int32} {c_bond_terms : Nat → Int32} {c_penceByUps : Nat → Int64} {c_pence : Nat → Int64} {c_turned : Nat → Int64} {c_called : Nat → Int64} {c_hold : Nat → Int64} {c_value : Nat → Int64} {c_marks : Nat → Int32} {c_act : Nat → Int32} {c_rowOfKey : Nat → Int32} {o_c_penceByUps : Nat → Int64} {o_c_pence : Nat → Int64} {o_c_turned : Nat → Int64} {o_c_called : Nat → Int64} {o_c_hold : Nat → Int64} {o_c_value : Nat → Int64} {o_c_marks : Nat → Int32} {o_c_act : Nat → Int32} (hf : fX5_playBest c_tree_parts c_bond_terms c_penceByUps c_pence c_turned c_called c_hold c_value c_marks c_act = some (o_c_penceByUps, o_c_pence, o_c_turned, o_c_called, o_c_hold, o_c_value, o_c_marks, o_c_act)) : Met l yX5_playBest (wq (Cond.code yX5_playBest cX5_playBest 2 none)) rmX5_playBest (gP [.ref (ad 0)] (dC, dI) dA (wX5 dA ad c_tree_parts c_bond_terms c_penceByUps c_pence c_turned c_called c_hold c_value c_marks c_act c_rowOfKey) sz) (gQv (dC, dI) (wX5 dA ad c_tree_parts c_bond_terms o_c_penceByUps o_c_pence o_c_turned o_c_called o_c_hold o_c_value o_c_marks o_c_act c_rowOfKey) (va_A (wX5 dA ad c_tree_parts c_bond_terms c_penceByUps c_pence c_turned c_called c_hold c_value c_marks c_act c_rowOfKey) sz)) 0 0 (va_A (wX5 dA ad c_tree_parts c_bond_terms c_penceByUps c_pence c_turned c_called c_hold c_value c_marks c_act c_rowOfKey) sz) := by
  refine Met.ofW (cc := cX5_playBest) (maxL := 2) (ret := none) (by decide) rfl ?_
  intro p e s m args below meth c s₁ B hml hv
  obtain ⟨rfl, hsz, hP, hK, hD0⟩ := hv
  have hx := B.exec
  have hb := B.bytes
  have hr := B.returns
  have hts := atoms_spec (ws := wq (Cond.code yX5_playBest cX5_playBest 2 none)) B.pre
  have hown : s.vm.findClass RX5 = some m.cls := findClass_of_methodNamed B.named
  have hlocks := B.notSynchronized
  clear B
  subst hsz
  have hD := hD0.self (sz := s.heap.size)
  generalize hAe : va_A (wX5 dA ad c_tree_parts c_bond_terms c_penceByUps c_pence c_turned c_called c_hold c_value c_marks c_act c_rowOfKey) s.heap.size = A at hD ⊢
  have hA : ∀ q : Nat, s.heap.size ≤ q → A q := fun q h => by rw [← hAe]; exact Or.inr h
  clear hAe hD0
  have hS : va_S A s.heap s.heap [] := va_S.rf
  have hl := lv_entry ([.ref (ad 0)]) (n := 2) (Nat.le_of_ble_eq_true rfl)
  rw [lg_entry_eq]
  generalize (lg_sl ([.ref (ad 0)]) ++ List.replicate (2 - (lg_sl ([.ref (ad 0)])).length) Slot.unset).toArray = ls at hl ⊢
  have hl : lv_has ls 2 [(0, .ref (ad 0))] := hl
  change W p l e rmX5_playBest s m ([.ref (ad 0)] : List Value).toArray below meth c s.heap [] 0 0 _ _
  generalize hQ : MQ below (gQv (dC, dI) (wX5 dA ad c_tree_parts c_bond_terms o_c_penceByUps o_c_pence o_c_turned o_c_called o_c_hold o_c_value o_c_marks o_c_act c_rowOfKey) A) ([.ref (ad 0)] : List Value).toArray s 0 0 A = Q
  have LP9 : ∀ (n : Nat) (c_tree_parts : Nat → Int32) (c_bond_terms : Nat → Int32) (c_turned : Nat → Int64) (c_called : Nat → Int64) (c_penceByUps : Nat → Int64) (c_pence : Nat → Int64) (c_marks : Nat → Int32) (c_rowOfKey : Nat → Int32) (x1 : Int32) (c_hold : Nat → Int64) (c_value : Nat → Int64) (c_act : Nat → Int32) (o_c_hold : Nat → Int64) (o_c_value : Nat → Int64) (o_c_act : Nat → Int32) (H : Heap) (locs : List Loc) (ls : Array Slot), va_P (dC, dI) vwCl (wX5 dA ad c_tree_parts c_bond_terms c_penceByUps c_pence c_turned c_called c_hold c_value c_marks c_act c_rowOfKey) H → va_D A (wX5 dA ad c_tree_parts c_bond_terms c_penceByUps c_pence c_turned c_called c_hold c_value c_marks c_act c_rowOfKey) → va_S A s.heap H locs → lpX5_playBest_9 c_tree_parts c_bond_terms c_turned c_called n x1 c_hold c_value c_act = some (o_c_hold, o_c_value, o_c_act) → lv_has ls 2 [(0, .ref (ad 0)), (1, .int x1)] → (∀ (H : Heap) (locs : List Loc) (ls : Array Slot), va_P (dC, dI) vwCl (wX5 dA ad c_tree_parts c_bond_terms c_penceByUps c_pence c_turned c_called o_c_hold o_c_value c_marks o_c_act c_rowOfKey) H → va_D A (wX5 dA ad c_tree_parts c_bond_terms c_penceByUps c_pence c_turned c_called o_c_hold o_c_value c_marks o_c_act c_rowOfKey) → va_S A s.heap H locs → lv_has ls 2 [] → W p l e rmX5_playBest s m ([.ref (ad 0)] : List Value).toArray below meth c H locs 0 0 Q (F0 m 29 ls [])) → W p l e rmX5_playBest s m ([.ref (ad 0)] : List Value).toArray below meth c H locs 0 0 Q (F0 m 9 ls []) := by
    intro n
    induction n with
    | zero =>
      intro c_tree_parts c_bond_terms c_turned c_called c_penceByUps c_pence c_marks c_rowOfKey x1 c_hold c_value c_act o_c_hold o_c_value o_c_act H locs ls hP hD hS hf hl hk
      cases hf
    | succ n ih9 =>
      intro c_tree_parts c_bond_terms c_turned c_called c_penceByUps c_pence c_marks c_rowOfKey x1 c_hold c_value c_act o_c_hold o_c_value o_c_act H locs ls hP hD hS hf hl hk
      rw [lpX5_playBest_9.eq_2] at hf
      refine lv_iload_n hx hb dX5_playBest_9 rfl (lv_at hl 1 rfl) ?_
      refine lv_iconst (v := 1) hx hb dX5_playBest_10 (by decide) ?_
      refine lv_icmp_lt (tgt := 29) hx hb dX5_playBest_11 (by decide) (fun k16 => ?_) (fun k16 => ?_)
      · replace hf := ifp k16 hf
        cases hf
        exact hk _ _ _ hP hD hS (lv_sub hl [] rfl)
      · replace hf := ifn k16 hf
        refine lv_aload_n hx hb dX5_playBest_14 rfl (lv_at hl 0 rfl) ?_
        refine lv_iload_n hx hb dX5_playBest_15 rfl (lv_at hl 1 rfl) ?_
        refine lv_iload_n hx hb dX5_playBest_16 rfl (lv_at hl 1 rfl) ?_
        obtain ⟨r17, v18, hf⟩ := bd1_some hf
        refine gci0 (va_runSN (As := [.int x1]) (rest := [.int x1, .ref (ad 0)]) ⟨hx, hb, hml, hown, hts⟩ (tX8_dayOf l dC dI dA H.size v18) (ccX5_X8_dayOf hK.2 hts ⟨Nat.le_of_ble_eq_true rfl, Nat.le_of_ble_eq_true rfl⟩) (gPreS0 hK) rfl rfl hl.1 rfl (lv_room (Nat.le_of_ble_eq_true rfl)) dX5_playBest_17 ⟨Nat.le_of_ble_eq_true rfl, Nat.le_of_ble_eq_true rfl⟩) hP hS hA (fun H locs hP hS => ?_)
        obtain ⟨c_hold_19, c_value_20, c_act_21, v22, hf⟩ := bd3_some hf
        refine gcv (va_runV (As := [.int x1, .int r17]) (rest := []) ⟨hx, hb, hml, hown, hts⟩ (tX5_chooseBest l dC dI dA ad H.size v22) (ccX5_X5_chooseBest hts ⟨Nat.le_of_ble_eq_true rfl, Nat.le_of_ble_eq_true rfl⟩) (gPreV (ci := 5) (q0 := 0) hP hK hD rfl rfl) rfl rfl hl.1 rfl (lv_room (Nat.le_of_ble_eq_true rfl)) dX5_playBest_20 ⟨Nat.le_of_ble_eq_true rfl, Nat.le_of_ble_eq_true rfl⟩) hD hS hA (fun H locs hP hD hS => ?_)
        obtain ⟨w23, ew23⟩ : ∃ y : Int32, y = x1 + (-1) := ⟨_, rfl⟩
        replace hf := nm_at hf ew23
        refine lv_iinc (v := w23) (lv' := [(1, .int w23), (0, .ref (ad 0))]) hx hb dX5_playBest_23 hl (k := 1) rfl (by rw [ew23]; rfl) (by decide) rfl (fun ls hl => ?_)
        refine lv_goto (tgt := 9) hx hb dX5_playBest_26 (by decide) ?_
        exact ih9 _ _ _ _ _ _ _ _ _ _ _ _ _ _ _ _ _ _ hP hD hS hf (lv_sub hl [1, 0] rfl) hk
  subst hQ
  unfold fX5_playBest at hf
  refine lv_aload_n hx hb dX5_playBest_0 rfl (lv_at hl 0 rfl) ?_
  obtain ⟨c_penceByUps_1, c_pence_2, c_turned_3, c_called_4, c_hold_5, c_value_6, c_marks_7, c_act_8, v9, hf⟩ := bd8_some hf
  refine gcv (va_runV (As := []) (rest := []) ⟨hx, hb, hml, hown, hts⟩ (tX5_layOut l dC dI dA ad s.heap.size v9) (ccX5_X5_layOut hts ⟨Nat.le_of_ble_eq_true rfl, Nat.le_of_ble_eq_true rfl⟩) (gPreV (ci := 5) (q0 := 0) hP hK hD rfl rfl) rfl rfl hl.1 rfl (lv_room (Nat.le_of_ble_eq_true rfl)) dX5_playBest_1 ⟨Nat.le_of_ble_eq_true rfl, Nat.le_of_ble_eq_true rfl⟩) hD hS hA (fun H locs hP hD hS => ?_)
  refine lv_aload_n hx hb dX5_playBest_4 rfl (lv_at hl 0 rfl) ?_
  obtain ⟨r10, v11, hf⟩ := bd1_some hf
  refine gci (va_runV (As := []) (rest := []) ⟨hx, hb, hml, hown, hts⟩ (tX5_rowsAheadOfLastDay l dC dI dA ad H.size v11) (ccX5_X5_rowsAheadOfLastDay hts ⟨Nat.le_of_ble_eq_true rfl, Nat.le_of_ble_eq_true rfl⟩) (gPreV (ci := 5) (q0 := 0) hP hK hD rfl rfl) rfl rfl hl.1 rfl (lv_room (Nat.le_of_ble_eq_true rfl)) dX5_playBest_5 ⟨Nat.le_of_ble_eq_true rfl, Nat.le_of_ble_eq_true rfl⟩) hD hS hA (fun H locs hP hD hS => ?_)
  refine lv_istore_n (lv' := [(1, .int r10), (0, .ref (ad 0))]) hx hb dX5_playBest_8 rfl hl (by decide) rfl (fun ls hl => ?_)
  obtain ⟨c_hold_12, c_value_13, c_act_14, v15, hf⟩ := bd3_some hf
  refine LP9 FU _ _ _ _ _ _ _ _ _ _ _ _ _ _ _ _ _ _ hP hD hS v15 (lv_sub hl [1, 0] rfl) (fun H locs ls hP hD hS hl => ?_)
  cases hf
  exact W.vret hx hb hr (fun t ht _ => gqv hP hD hS ht) hS.2.2 dX5_playBest_29
