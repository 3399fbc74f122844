abbrev rmX9_dayOf : Room := { frames := 0, cells := 0, slots := 0, locals := 0 }
set_option maxHeartbeats 4000000 in
set_option maxRecDepth 100000 in
theorem tX9_dayOf (l : Launch) (dC : Nat → ClassId) (dI : Nat → Nat → Nat) (dA : Nat → ClassId) (sz : Nat) {p0 : Int32} {r : Int32} (hf : fX9_dayOf p0 = some (r)) : Met l yX9_dayOf (wq (Cond.code yX9_dayOf cX9_dayOf 1 (some .int))) rmX9_dayOf (gP [.int p0] (dC, dI) dA [] sz) (gQi (dC, dI) r [] (va_A [] sz)) 0 0 (va_A [] sz) := by
  refine Met.ofW (cc := cX9_dayOf) (maxL := 1) (ret := (some .int)) (by decide) rfl ?_
  intro p e s m args below meth c s₁ B hml hv
  obtain ⟨rfl, hsz, hP, hK, hD0⟩ := hv
  have hx := B.exec
  have hb := B.bytes
  have hr := B.returns
  have hts := atoms_spec (ws := wq (Cond.code yX9_dayOf cX9_dayOf 1 (some .int))) B.pre
  have hown : s.vm.findClass RX9 = some m.cls := findClass_of_methodNamed B.named
  have hlocks := B.notSynchronized
  clear B
  subst hsz
  have hD := hD0.self (sz := s.heap.size)
  generalize hAe : va_A [] s.heap.size = A at hD ⊢
  have hA : ∀ q : Nat, s.heap.size ≤ q → A q := fun q h => by rw [← hAe]; exact Or.inr h
  clear hAe hD0
  have hS : va_S A s.heap s.heap [] := va_S.rf
  have hl := lv_entry ([.int p0]) (n := 1) (Nat.le_of_ble_eq_true rfl)
  rw [lg_entry_eq]
  generalize (lg_sl ([.int p0]) ++ List.replicate (1 - (lg_sl ([.int p0])).length) Slot.unset).toArray = ls at hl ⊢
  have hl : lv_has ls 1 [(0, .int p0)] := hl
  change W p l e rmX9_dayOf s m ([.int p0] : List Value).toArray below meth c s.heap [] 0 0 _ _
  unfold fX9_dayOf at hf
  refine lv_iload_n hx hb dX9_dayOf_0 rfl (lv_at hl 0 rfl) ?_
  refine lv_bipush (v := 112) hx hb dX9_dayOf_1 (by decide) ?_
  refine lv_idiv hx hb dX9_dayOf_3 (by decide) ?_
  cases hf
  exact W.iret hx hb hr (fun t ht _ => gqi hP hD hS ht) hS.2.2 dX9_dayOf_4
theorem ccX9_X9_laysWays {R : Room} {s : State} {args : Array Value} {c0 : Cond} (ht : ∀ w ∈ wq c0, w.before args s = true) (hR : rmX9_laysWays.frames + 1 ≤ R.frames ∧ 8 + (9 + 11) + rmX9_laysWays.locals ≤ R.locals) : CallW R s args RX9 RX9 366 yX9_laysWays cX9_laysWays 9 none (wq (.code yX9_laysWays cX9_laysWays 9 none)) rmX9_laysWays 0 0 1 := gCW 1 ht wcX9_laysWays wmX9_366 wiX9_laysWays weX9_laysWays wnX9 (by decide +kernel) rfl rfl hR
abbrev rmX9_laysAll : Room := { frames := 7, cells := 0, slots := 0, locals := 184 }
set_option maxHeartbeats 4000000 in
set_option maxRecDepth 100000 in
theorem tX9_laysAll (l : Launch) (dC : Nat → ClassId) (dI : Nat → Nat → Nat) (dA : Nat → ClassId) (ad : Nat → Nat) (sz : Nat) {p1 : Int32} {c_tape : Nat → Int32} {c_taped : Int32} {c_tree : Nat → Int32} {c_bonds : Nat → Int32} {c_moves : Nat → Int32} {c_handMoves : Nat → Int32} {c_moved : Int32} {c_days : Int32} {c_likely : Int32} {c_outOf : Int32} {c_rateNow : Int32} {c_pence : Nat → Int64} {c_top : Int64} {c_bottom : Int64} {c_spot : Int32} {c_textLong : Int32} {c_fault : Int32} {c_number : Int32} {c_numberAt : Int32} {c_figures : Int32} {c_written : Int32} {c_wanted : Int32} {c_found : Int32} {c_drawnNow : Int32} {c_worth : Nat → Int64} {c_hold : Nat → Int64} {c_way : Nat → Int64} {c_acts : Nat → Int32} {c_sDay : Int32} {c_sUps : Int32} {c_sUp : Int32} {c_sMarks : Int32} {c_paidAll : Int64} {c_isPlayed : Int32} {c_isOn : Int32} {c_handMoved : Int32} {c_handPaid : Int64} {c_regret : Int64} {c_aside : Nat → Int32} {c_other : Nat → Int64} {c_states : Int32} {c_kept : Nat → Int32} {c_keptLong : Nat → Int64} {c_keptAt : Int32} {c_isTaking : Int32} {o_c_days : Int32} {o_c_likely : Int32} {o_c_outOf : Int32} {o_c_rateNow : Int32} {o_c_pence : Nat → Int64} {o_c_top : Int64} {o_c_bottom : Int64} {o_c_worth : Nat → Int64} {o_c_hold : Nat → Int64} {o_c_way : Nat → Int64} {o_c_acts : Nat → Int32} (hf : fX9_laysAll p1 c_tree c_bonds c_days c_likely c_outOf c_rateNow c_pence c_top c_bottom c_worth c_hold c_way c_acts = some (o_c_days, o_c_likely, o_c_outOf, o_c_rateNow, o_c_pence, o_c_top, o_c_bottom, o_c_worth, o_c_hold, o_c_way, o_c_acts)) : Met l yX9_laysAll (wq (Cond.code yX9_laysAll cX9_laysAll 2 none)) rmX9_laysAll (gP [.ref (ad 0), .int p1] (dC, dI) dA (mW dA ad c_tape c_taped c_tree c_bonds c_moves c_handMoves c_moved c_days c_likely c_outOf c_rateNow c_pence c_top c_bottom c_spot c_textLong c_fault c_number c_numberAt c_figures c_written c_wanted c_found c_drawnNow c_worth c_hold c_way c_acts c_sDay c_sUps c_sUp c_sMarks c_paidAll c_isPlayed c_isOn c_handMoved c_handPaid c_regret c_aside c_other c_states c_kept c_keptLong c_keptAt c_isTaking) sz) (gQv (dC, dI) (mW dA ad c_tape c_taped c_tree c_bonds c_moves c_handMoves c_moved o_c_days o_c_likely o_c_outOf o_c_rateNow o_c_pence o_c_top o_c_bottom c_spot c_textLong c_fault c_number c_numberAt c_figures c_written c_wanted c_found c_drawnNow o_c_worth o_c_hold o_c_way o_c_acts c_sDay c_sUps c_sUp c_sMarks c_paidAll c_isPlayed c_isOn c_handMoved c_handPaid c_regret c_aside c_other c_states c_kept c_keptLong c_keptAt c_isTaking) (va_A (mW dA ad c_tape c_taped c_tree c_bonds c_moves c_handMoves c_moved c_days c_likely c_outOf c_rateNow c_pence c_top c_bottom c_spot c_textLong c_fault c_number c_numberAt c_figures c_written c_wanted c_found c_drawnNow c_worth c_hold c_way c_acts c_sDay c_sUps c_sUp c_sMarks c_paidAll c_isPlayed c_isOn c_handMoved c_handPaid c_regret c_aside c_other c_states c_kept c_keptLong c_keptAt c_isTaking) sz)) 0 0 (va_A (mW dA ad c_tape c_taped c_tree c_bonds c_moves c_handMoves c_moved c_days c_likely c_outOf c_rateNow c_pence c_top c_bottom c_spot c_textLong c_fault c_number c_numberAt c_figures c_written c_wanted c_found c_drawnNow c_worth c_hold c_way c_acts c_sDay c_sUps c_sUp c_sMarks c_paidAll c_isPlayed c_isOn c_handMoved c_handPaid c_regret c_aside c_other c_states c_kept c_keptLong c_keptAt c_isTaking) sz) := by
  refine Met.ofW (cc := cX9_laysAll) (maxL := 2) (ret := none) (by decide) rfl ?_
  intro p e s m args below meth c s₁ B hml hv
  obtain ⟨rfl, hsz, hP, hK, hD0⟩ := hv
  have hx := B.exec
  have hb := B.bytes
  have hr := B.returns
  have hts := atoms_spec (ws := wq (Cond.code yX9_laysAll cX9_laysAll 2 none)) B.pre
  have hown : s.vm.findClass RX9 = some m.cls := findClass_of_methodNamed B.named
  have hlocks := B.notSynchronized
  clear B
  subst hsz
  have hD := hD0.self (sz := s.heap.size)
  generalize hAe : va_A (mW dA ad c_tape c_taped c_tree c_bonds c_moves c_handMoves c_moved c_days c_likely c_outOf c_rateNow c_pence c_top c_bottom c_spot c_textLong c_fault c_number c_numberAt c_figures c_written c_wanted c_found c_drawnNow c_worth c_hold c_way c_acts c_sDay c_sUps c_sUp c_sMarks c_paidAll c_isPlayed c_isOn c_handMoved c_handPaid c_regret c_aside c_other c_states c_kept c_keptLong c_keptAt c_isTaking) s.heap.size = A at hD ⊢
  have hA : ∀ q : Nat, s.heap.size ≤ q → A q := fun q h => by rw [← hAe]; exact Or.inr h
  clear hAe hD0
  have hS : va_S A s.heap s.heap [] := va_S.rf
  have hl := lv_entry ([.ref (ad 0), .int p1]) (n := 2) (Nat.le_of_ble_eq_true rfl)
  rw [lg_entry_eq]
  generalize (lg_sl ([.ref (ad 0), .int p1]) ++ List.replicate (2 - (lg_sl ([.ref (ad 0), .int p1])).length) Slot.unset).toArray = ls at hl ⊢
  have hl : lv_has ls 2 [(0, .ref (ad 0)), (1, .int p1)] := hl
  change W p l e rmX9_laysAll s m ([.ref (ad 0), .int p1] : List Value).toArray below meth c s.heap [] 0 0 _ _
  unfold fX9_laysAll at hf
  refine lv_aload_n hx hb dX9_laysAll_0 rfl (lv_at hl 0 rfl) ?_
  refine lv_iload_n hx hb dX9_laysAll_1 rfl (lv_at hl 1 rfl) ?_
  obtain ⟨c_days_1, c_likely_2, c_outOf_3, c_rateNow_4, c_pence_5, c_top_6, c_bottom_7, c_worth_8, c_hold_9, c_acts_10, v11, hf⟩ := bd10_some hf
  refine gcv (va_runV (As := [.int p1]) (rest := []) ⟨hx, hb, hml, hown, hts⟩ (tX9_playsNow l dC dI dA ad s.heap.size v11) (ccX9_X9_playsNow hts ⟨Nat.le_of_ble_eq_true rfl, Nat.le_of_ble_eq_true rfl⟩) (gPreV (ci := 9) (q0 := 0) hP hK hD rfl rfl) rfl rfl hl.1 rfl (lv_room (Nat.le_of_ble_eq_true rfl)) dX9_laysAll_2 ⟨Nat.le_of_ble_eq_true rfl, Nat.le_of_ble_eq_true rfl⟩) hD hS hA (fun H locs hP hD hS => ?_)
  refine lv_aload_n hx hb dX9_laysAll_5 rfl (lv_at hl 0 rfl) ?_
  refine lv_iload_n hx hb dX9_laysAll_6 rfl (lv_at hl 1 rfl) ?_
  obtain ⟨c_way_12, v13, hf⟩ := bd1_some hf
  refine gcv (va_runV (As := [.int p1]) (rest := []) ⟨hx, hb, hml, hown, hts⟩ (tX9_laysWays l dC dI dA ad H.size v13) (ccX9_X9_laysWays hts ⟨Nat.le_of_ble_eq_true rfl, Nat.le_of_ble_eq_true rfl⟩) (gPreV (ci := 9) (q0 := 0) hP hK hD rfl rfl) rfl rfl hl.1 rfl (lv_room (Nat.le_of_ble_eq_true rfl)) dX9_laysAll_7 ⟨Nat.le_of_ble_eq_true rfl, Nat.le_of_ble_eq_true rfl⟩) hD hS hA (fun H locs hP hD hS => ?_)
  cases hf
  exact W.vret hx hb hr (fun t ht _ => gqv hP hD hS ht) hS.2.2 dX9_laysAll_10
abbrev rmX9_power : Room := { frames := 0, cells := 0, slots := 0, locals := 0 }
set_option maxHeartbeats 4000000 in
set_option maxRecDepth 100000 in
theorem tX9_power (l : Launch) (dC : Nat → ClassId) (dI : Nat → Nat → Nat) (dA : Nat → ClassId) (ad : Nat → Nat) (sz : Nat) {p1 : Int32} {c_tape : Nat → Int32} {c_taped : Int32} {c_tree : Nat → Int32} {c_bonds : Nat → Int32} {c_moves : Nat → Int32} {c_handMoves : Nat → Int32} {c_moved : Int32} {c_days : Int32} {c_likely : Int32} {c_outOf : Int32} {c_rateNow : Int32} {c_pence : Nat → Int64} {c_top : Int64} {c_bottom : Int64} {c_spot : Int32} {c_textLong : Int32} {c_fault : Int32} {c_number : Int32} {c_numberAt : Int32} {c_figures : Int32} {c_written : Int32} {c_wanted : Int32} {c_found : Int32} {c_drawnNow : Int32} {c_worth : Nat → Int64} {c_hold : Nat → Int64} {c_way : Nat → Int64} {c_acts : Nat → Int32} {c_sDay : Int32} {c_sUps : Int32} {c_sUp : Int32} {c_sMarks : Int32} {c_paidAll : Int64} {c_isPlayed : Int32} {c_isOn : Int32} {c_handMoved : Int32} {c_handPaid : Int64} {c_regret : Int64} {c_aside : Nat → Int32} {c_other : Nat → Int64} {c_states : Int32} {c_kept : Nat → Int32} {c_keptLong : Nat → Int64} {c_keptAt : Int32} {c_isTaking : Int32} {r : Int64} (hf : fX9_power p1 c_outOf = some (r)) : Met l yX9_power (wq (Cond.code yX9_power cX9_power 5 (some .long))) rmX9_power (gP [.ref (ad 0), .int p1] (dC, dI) dA (mW dA ad c_tape c_taped c_tree c_bonds c_moves c_handMoves c_moved c_days c_likely c_outOf c_rateNow c_pence c_top c_bottom c_spot c_textLong c_fault c_number c_numberAt c_figures c_written c_wanted c_found c_drawnNow c_worth c_hold c_way c_acts c_sDay c_sUps c_sUp c_sMarks c_paidAll c_isPlayed c_isOn c_handMoved c_handPaid c_regret c_aside c_other c_states c_kept c_keptLong c_keptAt c_isTaking) sz) (gQl (dC, dI) r (mW dA ad c_tape c_taped c_tree c_bonds c_moves c_handMoves c_moved c_days c_likely c_outOf c_rateNow c_pence c_top c_bottom c_spot c_textLong c_fault c_number c_numberAt c_figures c_written c_wanted c_found c_drawnNow c_worth c_hold c_way c_acts c_sDay c_sUps c_sUp c_sMarks c_paidAll c_isPlayed c_isOn c_handMoved c_handPaid c_regret c_aside c_other c_states c_kept c_keptLong c_keptAt c_isTaking) (va_A (mW dA ad c_tape c_taped c_tree c_bonds c_moves c_handMoves c_moved c_days c_likely c_outOf c_rateNow c_pence c_top c_bottom c_spot c_textLong c_fault c_number c_numberAt c_figures c_written c_wanted c_found c_drawnNow c_worth c_hold c_way c_acts c_sDay c_sUps c_sUp c_sMarks c_paidAll c_isPlayed c_isOn c_handMoved c_handPaid c_regret c_aside c_other c_states c_kept c_keptLong c_keptAt c_isTaking) sz)) 0 0 (va_A (mW dA ad c_tape c_taped c_tree c_bonds c_moves c_handMoves c_moved c_days c_likely c_outOf c_rateNow c_pence c_top c_bottom c_spot c_textLong c_fault c_number c_numberAt c_figures c_written c_wanted c_found c_drawnNow c_worth c_hold c_way c_acts c_sDay c_sUps c_sUp c_sMarks c_paidAll c_isPlayed c_isOn c_handMoved c_handPaid c_regret c_aside c_other c_states c_kept c_keptLong c_keptAt c_isTaking) sz) := by
  refine Met.ofW (cc := cX9_power) (maxL := 5) (ret := (some .long)) (by decide) rfl ?_
  intro p e s m args below meth c s₁ B hml hv
  obtain ⟨rfl, hsz, hP, hK, hD0⟩ := hv
  have hx := B.exec
  have hb := B.bytes
  have hr := B.returns
  have hts := atoms_spec (ws := wq (Cond.code yX9_power cX9_power 5 (some .long))) B.pre
  have hown : s.vm.findClass RX9 = some m.cls := findClass_of_methodNamed B.named
  have hlocks := B.notSynchronized
  clear B
  subst hsz
  have hD := hD0.self (sz := s.heap.size)
  generalize hAe : va_A (mW dA ad c_tape c_taped c_tree c_bonds c_moves c_handMoves c_moved c_days c_likely c_outOf c_rateNow c_pence c_top c_bottom c_spot c_textLong c_fault c_number c_numberAt c_figures c_written c_wanted c_found c_drawnNow c_worth c_hold c_way c_acts c_sDay c_sUps c_sUp c_sMarks c_paidAll c_isPlayed c_isOn c_handMoved c_handPaid c_regret c_aside c_other c_states c_kept c_keptLong c_keptAt c_isTaking) s.heap.size = A at hD ⊢
  have hA : ∀ q : Nat, s.heap.size ≤ q → A q := fun q h => by rw [← hAe]; exact Or.inr h
  clear hAe hD0
  have hS : va_S A s.heap s.heap [] := va_S.rf
  have hl := lv_entry ([.ref (ad 0), .int p1]) (n := 5) (Nat.le_of_ble_eq_true rfl)
  rw [lg_entry_eq]
  generalize (lg_sl ([.ref (ad 0), .int p1]) ++ List.replicate (5 - (lg_sl ([.ref (ad 0), .int p1])).length) Slot.unset).toArray = ls at hl ⊢
  have hl : lv_has ls 5 [(0, .ref (ad 0)), (1, .int p1)] := hl
  change W p l e rmX9_power s m ([.ref (ad 0), .int p1] : List Value).toArray below meth c s.heap [] 0 0 _ _
  generalize hQ : MQ below (gQl (dC, dI) r (mW dA ad c_tape c_taped c_tree c_bonds c_moves c_handMoves c_moved c_days c_likely c_outOf c_rateNow c_pence c_top c_bottom c_spot c_textLong c_fault c_number c_numberAt c_figures c_written c_wanted c_found c_drawnNow c_worth c_hold c_way c_acts c_sDay c_sUps c_sUp c_sMarks c_paidAll c_isPlayed c_isOn c_handMoved c_handPaid c_regret c_aside c_other c_states c_kept c_keptLong c_keptAt c_isTaking) A) ([.ref (ad 0), .int p1] : List Value).toArray s 0 0 A = Q
  have LP5 : ∀ (n : Nat) (x1 : Int32) (c_outOf : Int32) (c_tape : Nat → Int32) (c_taped : Int32) (c_tree : Nat → Int32) (c_bonds : Nat → Int32) (c_moves : Nat → Int32) (c_handMoves : Nat → Int32) (c_moved : Int32) (c_days : Int32) (c_likely : Int32) (c_rateNow : Int32) (c_pence : Nat → Int64) (c_top : Int64) (c_bottom : Int64) (c_spot : Int32) (c_textLong : Int32) (c_fault : Int32) (c_number : Int32) (c_numberAt : Int32) (c_figures : Int32) (c_written : Int32) (c_wanted : Int32) (c_found : Int32) (c_drawnNow : Int32) (c_worth : Nat → Int64) (c_hold : Nat → Int64) (c_way : Nat → Int64) (c_acts : Nat → Int32) (c_sDay : Int32) (c_sUps : Int32) (c_sUp : Int32) (c_sMarks : Int32) (c_paidAll : Int64) (c_isPlayed : Int32) (c_isOn : Int32) (c_handMoved : Int32) (c_handPaid : Int64) (c_regret : Int64) (c_aside : Nat → Int32) (c_other : Nat → Int64) (c_states : Int32) (c_kept : Nat → Int32) (c_keptLong : Nat → Int64) (c_keptAt : Int32) (c_isTaking : Int32) (x2 : Int64) (x4 : Int32) (o2 : Int64) (H : Heap) (locs : List Loc) (ls : Array Slot), va_P (dC, dI) vwCl (mW dA ad c_tape c_taped c_tree c_bonds c_moves c_handMoves c_moved c_days c_likely c_outOf c_rateNow c_pence c_top c_bottom c_spot c_textLong c_fault c_number c_numberAt c_figures c_written c_wanted c_found c_drawnNow c_worth c_hold c_way c_acts c_sDay c_sUps c_sUp c_sMarks c_paidAll c_isPlayed c_isOn c_handMoved c_handPaid c_regret c_aside c_other c_states c_kept c_keptLong c_keptAt c_isTaking) H → va_D A (mW dA ad c_tape c_taped c_tree c_bonds c_moves c_handMoves c_moved c_days c_likely c_outOf c_rateNow c_pence c_top c_bottom c_spot c_textLong c_fault c_number c_numberAt c_figures c_written c_wanted c_found c_drawnNow c_worth c_hold c_way c_acts c_sDay c_sUps c_sUp c_sMarks c_paidAll c_isPlayed c_isOn c_handMoved c_handPaid c_regret c_aside c_other c_states c_kept c_keptLong c_keptAt c_isTaking) → va_S A s.heap H locs → lpX9_power_5 x1 c_outOf n x2 x4 = some (o2) → lv_has ls 5 [(0, .ref (ad 0)), (1, .int x1), (2, .long x2), (4, .int x4)] → (∀ (H : Heap) (locs : List Loc) (ls : Array Slot), va_P (dC, dI) vwCl (mW dA ad c_tape c_taped c_tree c_bonds c_moves c_handMoves c_moved c_days c_likely c_outOf c_rateNow c_pence c_top c_bottom c_spot c_textLong c_fault c_number c_numberAt c_figures c_written c_wanted c_found c_drawnNow c_worth c_hold c_way c_acts c_sDay c_sUps c_sUp c_sMarks c_paidAll c_isPlayed c_isOn c_handMoved c_handPaid c_regret c_aside c_other c_states c_kept c_keptLong c_keptAt c_isTaking) H → va_D A (mW dA ad c_tape c_taped c_tree c_bonds c_moves c_handMoves c_moved c_days c_likely c_outOf c_rateNow c_pence c_top c_bottom c_spot c_textLong c_fault c_number c_numberAt c_figures c_written c_wanted c_found c_drawnNow c_worth c_hold c_way c_acts c_sDay c_sUps c_sUp c_sMarks c_paidAll c_isPlayed c_isOn c_handMoved c_handPaid c_regret c_aside c_other c_states c_kept c_keptLong c_keptAt c_isTaking) → va_S A s.heap H locs → lv_has ls 5 [(2, .long o2)] → W p l e rmX9_power s m ([.ref (ad 0), .int p1] : List Value).toArray below meth c H locs 0 0 Q (F0 m 25 ls [])) → W p l e rmX9_power s m ([.ref (ad 0), .int p1] : List Value).toArray below meth c H locs 0 0 Q (F0 m 5 ls []) := by
    intro n
    induction n with
    | zero =>
      intro x1 c_outOf c_tape c_taped c_tree c_bonds c_moves c_handMoves c_moved c_days c_likely c_rateNow c_pence c_top c_bottom c_spot c_textLong c_fault c_number c_numberAt c_figures c_written c_wanted c_found c_drawnNow c_worth c_hold c_way c_acts c_sDay c_sUps c_sUp c_sMarks c_paidAll c_isPlayed c_isOn c_handMoved c_handPaid c_regret c_aside c_other c_states c_kept c_keptLong c_keptAt c_isTaking x2 x4 o2 H locs ls hP hD hS hf hl hk
      cases hf
    | succ n ih5 =>
      intro x1 c_outOf c_tape c_taped c_tree c_bonds c_moves c_handMoves c_moved c_days c_likely c_rateNow c_pence c_top c_bottom c_spot c_textLong c_fault c_number c_numberAt c_figures c_written c_wanted c_found c_drawnNow c_worth c_hold c_way c_acts c_sDay c_sUps c_sUp c_sMarks c_paidAll c_isPlayed c_isOn c_handMoved c_handPaid c_regret c_aside c_other c_states c_kept c_keptLong c_keptAt c_isTaking x2 x4 o2 H locs ls hP hD hS hf hl hk
      rw [lpX9_power_5.eq_2] at hf
      refine lv_iload hx hb dX9_power_5 (lv_at hl 3 rfl) ?_
      refine lv_iload_n hx hb dX9_power_7 rfl (lv_at hl 1 rfl) ?_
      refine lv_icmp_ge (tgt := 25) hx hb dX9_power_8 (by decide) (fun k3 => ?_) (fun k3 => ?_)
      · replace hf := ifp k3 hf
        cases hf
        exact hk _ _ _ hP hD hS (lv_sub hl [2] rfl)
      · replace hf := ifn k3 hf
        refine lv_lload_n hx hb dX9_power_11 rfl (lv_at hl 2 rfl) ?_
        refine lv_aload_n hx hb dX9_power_12 rfl (lv_at hl 0 rfl) ?_
        refine va_get (D := (dC, dI)) (ci := 9) (v := .int c_outOf) (C := RX9) (T := TX9) (N := 45) hx hb hts (fun w h => gw_mem (inX9 w h)) hown hK.1 hP 0 rfl rfl 9 (by decide) (hts _ (gw_mem wfX9_100)) (fun _ h9 => h9) rfl dX9_power_13 ?_
        refine lv_i2l hx hb dX9_power_16 rfl ?_
        refine lv_lmul hx hb dX9_power_17 ?_
        refine lv_topl (fun w4 ew4 => ?_)
        replace hf := nm_at hf ew4
        refine lv_lstore_n (lv' := [(2, .long w4), (0, .ref (ad 0)), (1, .int x1), (4, .int x4)]) hx hb dX9_power_18 rfl hl (by decide) rfl (fun ls hl => ?_)
        obtain ⟨w5, ew5⟩ : ∃ y : Int32, y = x4 + 1 := ⟨_, rfl⟩
        replace hf := nm_at hf ew5
        refine lv_iinc (v := w5) (lv' := [(4, .int w5), (2, .long w4), (0, .ref (ad 0)), (1, .int x1)]) hx hb dX9_power_19 hl (k := 3) rfl (by rw [ew5]; rfl) (by decide) rfl (fun ls hl => ?_)
        refine lv_goto (tgt := 5) hx hb dX9_power_22 (by decide) ?_
        exact ih5 _ _ _ _ _ _ _ _ _ _ _ _ _ _ _ _ _ _ _ _ _ _ _ _ _ _ _ _ _ _ _ _ _ _ _ _ _ _ _ _ _ _ _ _ _ _ _ _ _ _ _ _ hP hD hS hf (lv_sub hl [2, 3, 1, 0] rfl) hk
  subst hQ
  unfold fX9_power at hf
  refine lv_lconst (v := 1) hx hb dX9_power_0 rfl ?_
  refine lv_lstore_n (lv' := [(2, .long 1), (0, .ref (ad 0)), (1, .int p1)]) hx hb dX9_power_1 rfl hl (by decide) rfl (fun ls hl => ?_)
  refine lv_iconst (v := 0) hx hb dX9_power_2 (by decide) ?_
  refine lv_istore (lv' := [(4, .int 0), (2, .long 1), (0, .ref (ad 0)), (1, .int p1)]) hx hb dX9_power_3 hl (by decide) rfl (fun ls hl => ?_)
  obtain ⟨x1, v2, hf⟩ := bd1_some hf
  refine LP5 FU _ _ _ _ _ _ _ _ _ _ _ _ _ _ _ _ _ _ _ _ _ _ _ _ _ _ _ _ _ _ _ _ _ _ _ _ _ _ _ _ _ _ _ _ _ _ _ _ _ _ _ _ hP hD hS v2 (lv_sub hl [2, 3, 1, 0] rfl) (fun H locs ls hP hD hS hl => ?_)
  refine lv_lload_n hx hb dX9_power_25 rfl (lv_at hl 0 rfl) ?_
  cases hf
  exact W.lret hx hb hr (fun t ht _ => gql hP hD hS ht) hS.2.2 dX9_power_26
abbrev rmX9_part : Room := { frames := 1, cells := 0, slots := 0, locals := 29 }
set_option maxHeartbeats 4000000 in
set_option maxRecDepth 100000 in
theorem tX9_part (l : Launch) (dC : Nat → ClassId) (dI : Nat → Nat → Nat) (dA : Nat → ClassId) (ad : Nat → Nat) (sz : Nat) {p1 : Int64} {p3 : Int64} {p5 : Int32} {c_tape : Nat → Int32} {c_taped : Int32} {c_tree : Nat → Int32} {c_bonds : Nat → Int32} {c_moves : Nat → Int32} {c_handMoves : Nat → Int32} {c_moved : Int32} {c_days : Int32} {c_likely : Int32} {c_outOf : Int32} {c_rateNow : Int32} {c_pence : Nat → Int64} {c_top : Int64} {c_bottom : Int64} {c_spot : Int32} {c_textLong : Int32} {c_fault : Int32} {c_number : Int32} {c_numberAt : Int32} {c_figures : Int32} {c_written : Int32} {c_wanted : Int32} {c_found : Int32} {c_drawnNow : Int32} {c_worth : Nat → Int64} {c_hold : Nat → Int64} {c_way : Nat → Int64} {c_acts : Nat → Int32} {c_sDay : Int32} {c_sUps : Int32} {c_sUp : Int32} {c_sMarks : Int32} {c_paidAll : Int64} {c_isPlayed : Int32} {c_isOn : Int32} {c_handMoved : Int32} {c_handPaid : Int64} {c_regret : Int64} {c_aside : Nat → Int32} {c_other : Nat → Int64} {c_states : Int32} {c_kept : Nat → Int32} {c_keptLong : Nat → Int64} {c_keptAt : Int32} {c_isTaking : Int32} {r : Int64} (hf : fX9_part p1 p3 p5 = some (r)) : Met l yX9_part (wq (Cond.code yX9_part cX9_part 8 (some .long))) rmX9_part (gP [.ref (ad 0), .long p1, .long p3, .int p5] (dC, dI) dA (mW dA ad c_tape c_taped c_tree c_bonds c_moves c_handMoves c_moved c_days c_likely c_outOf c_rateNow c_pence c_top c_bottom c_spot c_textLong c_fault c_number c_numberAt c_figures c_written c_wanted c_found c_drawnNow c_worth c_hold c_way c_acts c_sDay c_sUps c_sUp c_sMarks c_paidAll c_isPlayed c_isOn c_handMoved c_handPaid c_regret c_aside c_other c_states c_kept c_keptLong c_keptAt c_isTaking) sz) (gQl (dC, dI) r (mW dA ad c_tape c_taped c_tree c_bonds c_moves c_handMoves c_moved c_days c_likely c_outOf c_rateNow c_pence c_top c_bottom c_spot c_textLong c_fault c_number c_numberAt c_figures c_written c_wanted c_found c_drawnNow c_worth c_hold c_way c_acts c_sDay c_sUps c_sUp c_sMarks c_paidAll c_isPlayed c_isOn c_handMoved c_handPaid c_regret c_aside c_other c_states c_kept c_keptLong c_keptAt c_isTaking) (va_A (mW dA ad c_tape c_taped c_tree c_bonds c_moves c_handMoves c_moved c_days c_likely c_outOf c_rateNow c_pence c_top c_bottom c_spot c_textLong c_fault c_number c_numberAt c_figures c_written c_wanted c_found c_drawnNow c_worth c_hold c_way c_acts c_sDay c_sUps c_sUp c_sMarks c_paidAll c_isPlayed c_isOn c_handMoved c_handPaid c_regret c_aside c_other c_states c_kept c_keptLong c_keptAt c_isTaking) sz)) 0 0 (va_A (mW dA ad c_tape c_taped c_tree c_bonds c_moves c_handMoves c_moved c_days c_likely c_outOf c_rateNow c_pence c_top c_bottom c_spot c_textLong c_fault c_number c_numberAt c_figures c_written c_wanted c_found c_drawnNow c_worth c_hold c_way c_acts c_sDay c_sUps c_sUp c_sMarks c_paidAll c_isPlayed c_isOn c_handMoved c_handPaid c_regret c_aside c_other c_states c_kept c_keptLong c_keptAt c_isTaking) sz) := by
  refine Met.ofW (cc := cX9_part) (maxL := 8) (ret := (some .long)) (by decide) rfl ?_
  intro p e s m args below meth c s₁ B hml hv
  obtain ⟨rfl, hsz, hP, hK, hD0⟩ := hv
  have hx := B.exec
  have hb := B.bytes
  have hr := B.returns
  have hts := atoms_spec (ws := wq (Cond.code yX9_part cX9_part 8 (some .long))) B.pre
  have hown : s.vm.findClass RX9 = some m.cls := findClass_of_methodNamed B.named
  have hlocks := B.notSynchronized
  clear B
  subst hsz
  have hD := hD0.self (sz := s.heap.size)
  generalize hAe : va_A (mW dA ad c_tape c_taped c_tree c_bonds c_moves c_handMoves c_moved c_days c_likely c_outOf c_rateNow c_pence c_top c_bottom c_spot c_textLong c_fault c_number c_numberAt c_figures c_written c_wanted c_found c_drawnNow c_worth c_hold c_way c_acts c_sDay c_sUps c_sUp c_sMarks c_paidAll c_isPlayed c_isOn c_handMoved c_handPaid c_regret c_aside c_other c_states c_kept c_keptLong c_keptAt c_isTaking) s.heap.size = A at hD ⊢
  have hA : ∀ q : Nat, s.heap.size ≤ q → A q := fun q h => by rw [← hAe]; exact Or.inr h
  clear hAe hD0
  have hS : va_S A s.heap s.heap [] := va_S.rf
  have hl := lv_entry ([.ref (ad 0), .long p1, .long p3, .int p5]) (n := 8) (Nat.le_of_ble_eq_true rfl)
  rw [lg_entry_eq]
  generalize (lg_sl ([.ref (ad 0), .long p1, .long p3, .int p5]) ++ List.replicate (8 - (lg_sl ([.ref (ad 0), .long p1, .long p3, .int p5])).length) Slot.unset).toArray = ls at hl ⊢
  have hl : lv_has ls 8 [(0, .ref (ad 0)), (1, .long p1), (3, .long p3), (5, .int p5)] := hl
  change W p l e rmX9_part s m ([.ref (ad 0), .long p1, .long p3, .int p5] : List Value).toArray below meth c s.heap [] 0 0 _ _
  unfold fX9_part at hf
  refine lv_lload_n hx hb dX9_part_0 rfl (lv_at hl 1 rfl) ?_
  refine lv_lload_n hx hb dX9_part_1 rfl (lv_at hl 2 rfl) ?_
  obtain ⟨r1, v2, hf⟩ := bd1_some hf
  refine gcl0 (va_runS (As := [.long p1, .long p3]) (rest := []) ⟨hx, hb, hml, hown, hts⟩ (tX9_common l dC dI dA s.heap.size v2) (ccX9_X9_common hts ⟨Nat.le_of_ble_eq_true rfl, Nat.le_of_ble_eq_true rfl⟩) (gPreS0 hK) rfl rfl hl.1 rfl (lv_room (Nat.le_of_ble_eq_true rfl)) dX9_part_2 ⟨Nat.le_of_ble_eq_true rfl, Nat.le_of_ble_eq_true rfl⟩) hP hS hA (fun H locs hP hS => ?_)
  refine lv_lstore (lv' := [(6, .long r1), (0, .ref (ad 0)), (1, .long p1), (3, .long p3), (5, .int p5)]) hx hb dX9_part_5 hl (by decide) rfl (fun ls hl => ?_)
  refine lv_iload hx hb dX9_part_7 (lv_at hl 4 rfl) ?_
  obtain ⟨j4, v6, hf⟩ := bd1_some hf
  have J5 : ∀ (H : Heap) (locs : List Loc) (ls : Array Slot), va_P (dC, dI) vwCl (mW dA ad c_tape c_taped c_tree c_bonds c_moves c_handMoves c_moved c_days c_likely c_outOf c_rateNow c_pence c_top c_bottom c_spot c_textLong c_fault c_number c_numberAt c_figures c_written c_wanted c_found c_drawnNow c_worth c_hold c_way c_acts c_sDay c_sUps c_sUp c_sMarks c_paidAll c_isPlayed c_isOn c_handMoved c_handPaid c_regret c_aside c_other c_states c_kept c_keptLong c_keptAt c_isTaking) H → va_D A (mW dA ad c_tape c_taped c_tree c_bonds c_moves c_handMoves c_moved c_days c_likely c_outOf c_rateNow c_pence c_top c_bottom c_spot c_textLong c_fault c_number c_numberAt c_figures c_written c_wanted c_found c_drawnNow c_worth c_hold c_way c_acts c_sDay c_sUps c_sUp c_sMarks c_paidAll c_isPlayed c_isOn c_handMoved c_handPaid c_regret c_aside c_other c_states c_kept c_keptLong c_keptAt c_isTaking) → va_S A s.heap H locs → lv_has ls 8 [] → W p l e rmX9_part s m ([.ref (ad 0), .long p1, .long p3, .int p5] : List Value).toArray below meth c H locs 0 0 (MQ below (gQl (dC, dI) r (mW dA ad c_tape c_taped c_tree c_bonds c_moves c_handMoves c_moved c_days c_likely c_outOf c_rateNow c_pence c_top c_bottom c_spot c_textLong c_fault c_number c_numberAt c_figures c_written c_wanted c_found c_drawnNow c_worth c_hold c_way c_acts c_sDay c_sUps c_sUp c_sMarks c_paidAll c_isPlayed c_isOn c_handMoved c_handPaid c_regret c_aside c_other c_states c_kept c_keptLong c_keptAt c_isTaking) A) ([.ref (ad 0), .long p1, .long p3, .int p5] : List Value).toArray s 0 0 A) (F0 m 23 ls [.long j4]) := by
    intro H locs ls hP hD hS hl
    cases hf
    exact W.lret hx hb hr (fun t ht _ => gql hP hD hS ht) hS.2.2 dX9_part_23
  replace hf := v6
  clear v6
  refine lv_if_ne (tgt := 19) hx hb dX9_part_9 (by decide) (fun k3 => ?_) (fun k3 => ?_)
  · replace hf := ifn k3 hf
    refine lv_lload_n hx hb dX9_part_19 rfl (lv_at hl 3 rfl) ?_
    refine lv_lload hx hb dX9_part_20 (lv_at hl 0 rfl) ?_
    obtain ⟨h7, hf⟩ := og_some hf
    refine lv_ldiv hx hb dX9_part_22 (nzL_ne h7) ?_
    cases hf
    exact J5 _ _ _ hP hD hS (lv_sub hl [] rfl)
  · replace hf := ifp k3 hf
    refine lv_lload_n hx hb dX9_part_12 rfl (lv_at hl 2 rfl) ?_
    refine lv_lload hx hb dX9_part_13 (lv_at hl 0 rfl) ?_
    obtain ⟨h8, hf⟩ := og_some hf
    refine lv_ldiv hx hb dX9_part_15 (nzL_ne h8) ?_
    refine lv_goto (tgt := 23) hx hb dX9_part_16 (by decide) ?_
    cases hf
    exact J5 _ _ _ hP hD hS (lv_sub hl [] rfl)
theorem ccX9_X9_laysAll {R : Room} {s : State} {args : Array Value} {c0 : Cond} (ht : ∀ w ∈ wq c0, w.before args s = true) (hR : rmX9_laysAll.frames + 1 ≤ R.frames ∧ 8 + (2 + 11) + rmX9_laysAll.locals ≤ R.locals) : CallW R s args RX9 RX9 369 yX9_laysAll cX9_laysAll 2 none (wq (.code yX9_laysAll cX9_laysAll 2 none)) rmX9_laysAll 0 0 1 := gCW 1 ht wcX9_laysAll wmX9_369 wiX9_laysAll weX9_laysAll wnX9 (by decide +kernel) rfl rfl hR
theorem ccX9_X9_dayOf {R : Room} {s : State} {args : Array Value} {c0 : Cond} (ht : ∀ w ∈ wq c0, w.before args s = true) (hR : rmX9_dayOf.frames + 1 ≤ R.frames ∧ 8 + (1 + 11) + rmX9_dayOf.locals ≤ R.locals) : CallB R s args RX9 372 yX9_dayOf cX9_dayOf 1 (some .int) (wq (.code yX9_dayOf cX9_dayOf 1 (some .int))) rmX9_dayOf 0 0 1 ∧ (Cond.static yX9_dayOf).before args s = true := gCS 1 ht wcX9_dayOf wmX9_372 wtX9_dayOf wnX9 (by decide +kernel) rfl rfl hR
theorem ccX9_X9_power {R : Room} {s : State} {args : Array Value} {c0 : Cond} (ht : ∀ w ∈ wq c0, w.before args s = true) (hR : rmX9_power.frames + 1 ≤ R.frames ∧ 8 + (5 + 11) + rmX9_power.locals ≤ R.locals) : CallW R s args RX9 RX9 375 yX9_power cX9_power 5 (some .long) (wq (.code yX9_power cX9_power 5 (some .long))) rmX9_power 0 0 1 := gCW 1 ht wcX9_power wmX9_375 wiX9_power weX9_power wnX9 (by decide +kernel) rfl rfl hR
theorem ccX9_X9_part {R : Room} {s : State} {args : Array Value} {c0 : Cond} (ht : ∀ w ∈ wq c0, w.before args s = true) (hR : rmX9_part.frames + 1 ≤ R.frames ∧ 8 + (8 + 11) + rmX9_part.locals ≤ R.locals) : CallW R s args RX9 RX9 378 yX9_part cX9_part 8 (some .long) (wq (.code yX9_part cX9_part 8 (some .long))) rmX9_part 0 0 3 := gCW 3 ht wcX9_part wmX9_378 wiX9_part weX9_part wnX9 (by decide +kernel) rfl rfl hR
abbrev rmX9_ends : Room := { frames := 8, cells := 0, slots := 0, locals := 205 }
set_option maxHeartbeats 4000000 in
set_option maxRecDepth 100000 in
theorem tX9_ends (l : Launch) (dC : Nat → ClassId) (dI : Nat → Nat → Nat) (dA : Nat → ClassId) (ad : Nat → Nat) (sz : Nat) {p1 : Int32} {p2 : Int32} {p3 : Int32} {c_tape : Nat → Int32} {c_taped : Int32} {c_tree : Nat → Int32} {c_bonds : Nat → Int32} {c_moves : Nat → Int32} {c_handMoves : Nat → Int32} {c_moved : Int32} {c_days : Int32} {c_likely : Int32} {c_outOf : Int32} {c_rateNow : Int32} {c_pence : Nat → Int64} {c_top : Int64} {c_bottom : Int64} {c_spot : Int32} {c_textLong : Int32} {c_fault : Int32} {c_number : Int32} {c_numberAt : Int32} {c_figures : Int32} {c_written : Int32} {c_wanted : Int32} {c_found : Int32} {c_drawnNow : Int32} {c_worth : Nat → Int64} {c_hold : Nat → Int64} {c_way : Nat → Int64} {c_acts : Nat → Int32} {c_sDay : Int32} {c_sUps : Int32} {c_sUp : Int32} {c_sMarks : Int32} {c_paidAll : Int64} {c_isPlayed : Int32} {c_isOn : Int32} {c_handMoved : Int32} {c_handPaid : Int64} {c_regret : Int64} {c_aside : Nat → Int32} {c_other : Nat → Int64} {c_states : Int32} {c_kept : Nat → Int32} {c_keptLong : Nat → Int64} {c_keptAt : Int32} {c_isTaking : Int32} {r : Int64} {o_c_days : Int32} {o_c_likely : Int32} {o_c_outOf : Int32} {o_c_rateNow : Int32} {o_c_pence : Nat → Int64} {o_c_top : Int64} {o_c_bottom : Int64} {o_c_worth : Nat → Int64} {o_c_hold : Nat → Int64} {o_c_way : Nat → Int64} {o_c_acts : Nat → Int32} (hf : fX9_ends p1 p2 p3 c_tree c_bonds c_days c_likely c_outOf c_rateNow c_pence c_top c_bottom c_worth c_hold c_way c_acts = some (r, o_c_days, o_c_likely, o_c_outOf, o_c_rateNow, o_c_pence, o_c_top, o_c_bottom, o_c_worth, o_c_hold, o_c_way, o_c_acts)) : Met l yX9_ends (wq (Cond.code yX9_ends cX9_ends 7 (some .long))) rmX9_ends (gP [.ref (ad 0), .int p1, .int p2, .int p3] (dC, dI) dA (mW dA ad c_tape c_taped c_tree c_bonds c_moves c_handMoves c_moved c_days c_likely c_outOf c_rateNow c_pence c_top c_bottom c_spot c_textLong c_fault c_number c_numberAt c_figures c_written c_wanted c_found c_drawnNow c_worth c_hold c_way c_acts c_sDay c_sUps c_sUp c_sMarks c_paidAll c_isPlayed c_isOn c_handMoved c_handPaid c_regret c_aside c_other c_states c_kept c_keptLong c_keptAt c_isTaking) sz) (gQl (dC, dI) r (mW dA ad c_tape c_taped c_tree c_bonds c_moves c_handMoves c_moved o_c_days o_c_likely o_c_outOf o_c_rateNow o_c_pence o_c_top o_c_bottom c_spot c_textLong c_fault c_number c_numberAt c_figures c_written c_wanted c_found c_drawnNow o_c_worth o_c_hold o_c_way o_c_acts c_sDay c_sUps c_sUp c_sMarks c_paidAll c_isPlayed c_isOn c_handMoved c_handPaid c_regret c_aside c_other c_states c_kept c_keptLong c_keptAt c_isTaking) (va_A (mW dA ad c_tape c_taped c_tree c_bonds c_moves c_handMoves c_moved c_days c_likely c_outOf c_rateNow c_pence c_top c_bottom c_spot c_textLong c_fault c_number c_numberAt c_figures c_written c_wanted c_found c_drawnNow c_worth c_hold c_way c_acts c_sDay c_sUps c_sUp c_sMarks c_paidAll c_isPlayed c_isOn c_handMoved c_handPaid c_regret c_aside c_other c_states c_kept c_keptLong c_keptAt c_isTaking) sz)) 0 0 (va_A (mW dA ad c_tape c_taped c_tree c_bonds c_moves c_handMoves c_moved c_days c_likely c_outOf c_rateNow c_pence c_top c_bottom c_spot c_textLong c_fault c_number c_numberAt c_figures c_written c_wanted c_found c_drawnNow c_worth c_hold c_way c_acts c_sDay c_sUps c_sUp c_sMarks c_paidAll c_isPlayed c_isOn c_handMoved c_handPaid c_regret c_aside c_other c_states c_kept c_keptLong c_keptAt c_isTaking) sz) := by
  refine Met.ofW (cc := cX9_ends) (maxL := 7) (ret := (some .long)) (by decide) rfl ?_
  intro p e s m args below meth c s₁ B hml hv
  obtain ⟨rfl, hsz, hP, hK, hD0⟩ := hv
  have hx := B.exec
  have hb := B.bytes
  have hr := B.returns
  have hts := atoms_spec (ws := wq (Cond.code yX9_ends cX9_ends 7 (some .long))) B.pre
  have hown : s.vm.findClass RX9 = some m.cls := findClass_of_methodNamed B.named
  have hlocks := B.notSynchronized
  clear B
  subst hsz
  have hD := hD0.self (sz := s.heap.size)
  generalize hAe : va_A (mW dA ad c_tape c_taped c_tree c_bonds c_moves c_handMoves c_moved c_days c_likely c_outOf c_rateNow c_pence c_top c_bottom c_spot c_textLong c_fault c_number c_numberAt c_figures c_written c_wanted c_found c_drawnNow c_worth c_hold c_way c_acts c_sDay c_sUps c_sUp c_sMarks c_paidAll c_isPlayed c_isOn c_handMoved c_handPaid c_regret c_aside c_other c_states c_kept c_keptLong c_keptAt c_isTaking) s.heap.size = A at hD ⊢
  have hA : ∀ q : Nat, s.heap.size ≤ q → A q := fun q h => by rw [← hAe]; exact Or.inr h
  clear hAe hD0
  have hS : va_S A s.heap s.heap [] := va_S.rf
  have hl := lv_entry ([.ref (ad 0), .int p1, .int p2, .int p3]) (n := 7) (Nat.le_of_ble_eq_true rfl)
  rw [lg_entry_eq]
  generalize (lg_sl ([.ref (ad 0), .int p1, .int p2, .int p3]) ++ List.replicate (7 - (lg_sl ([.ref (ad 0), .int p1, .int p2, .int p3])).length) Slot.unset).toArray = ls at hl ⊢
  have hl : lv_has ls 7 [(0, .ref (ad 0)), (1, .int p1), (2, .int p2), (3, .int p3)] := hl
  change W p l e rmX9_ends s m ([.ref (ad 0), .int p1, .int p2, .int p3] : List Value).toArray below meth c s.heap [] 0 0 _ _
  generalize hQ : MQ below (gQl (dC, dI) r (mW dA ad c_tape c_taped c_tree c_bonds c_moves c_handMoves c_moved o_c_days o_c_likely o_c_outOf o_c_rateNow o_c_pence o_c_top o_c_bottom c_spot c_textLong c_fault c_number c_numberAt c_figures c_written c_wanted c_found c_drawnNow o_c_worth o_c_hold o_c_way o_c_acts c_sDay c_sUps c_sUp c_sMarks c_paidAll c_isPlayed c_isOn c_handMoved c_handPaid c_regret c_aside c_other c_states c_kept c_keptLong c_keptAt c_isTaking) A) ([.ref (ad 0), .int p1, .int p2, .int p3] : List Value).toArray s 0 0 A = Q
  have LP44 : ∀ (n : Nat) (x2 : Int32) (x3 : Int32) (c_days : Int32) (c_outOf : Int32) (c_way : Nat → Int64) (c_acts : Nat → Int32) (c_tape : Nat → Int32) (c_taped : Int32) (c_tree : Nat → Int32) (c_bonds : Nat → Int32) (c_moves : Nat → Int32) (c_handMoves : Nat → Int32) (c_moved : Int32) (c_likely : Int32) (c_rateNow : Int32) (c_pence : Nat → Int64) (c_top : Int64) (c_bottom : Int64) (c_spot : Int32) (c_textLong : Int32) (c_fault : Int32) (c_number : Int32) (c_numberAt : Int32) (c_figures : Int32) (c_written : Int32) (c_wanted : Int32) (c_found : Int32) (c_drawnNow : Int32) (c_worth : Nat → Int64) (c_hold : Nat → Int64) (c_sDay : Int32) (c_sUps : Int32) (c_sUp : Int32) (c_sMarks : Int32) (c_paidAll : Int64) (c_isPlayed : Int32) (c_isOn : Int32) (c_handMoved : Int32) (c_handPaid : Int64) (c_regret : Int64) (c_aside : Nat → Int32) (c_other : Nat → Int64) (c_states : Int32) (c_kept : Nat → Int32) (c_keptLong : Nat → Int64) (c_keptAt : Int32) (c_isTaking : Int32) (x4 : Int64) (x6 : Int32) (o4 : Int64) (H : Heap) (locs : List Loc) (ls : Array Slot), va_P (dC, dI) vwCl (mW dA ad c_tape c_taped c_tree c_bonds c_moves c_handMoves c_moved c_days c_likely c_outOf c_rateNow c_pence c_top c_bottom c_spot c_textLong c_fault c_number c_numberAt c_figures c_written c_wanted c_found c_drawnNow c_worth c_hold c_way c_acts c_sDay c_sUps c_sUp c_sMarks c_paidAll c_isPlayed c_isOn c_handMoved c_handPaid c_regret c_aside c_other c_states c_kept c_keptLong c_keptAt c_isTaking) H → va_D A (mW dA ad c_tape c_taped c_tree c_bonds c_moves c_handMoves c_moved c_days c_likely c_outOf c_rateNow c_pence c_top c_bottom c_spot c_textLong c_fault c_number c_numberAt c_figures c_written c_wanted c_found c_drawnNow c_worth c_hold c_way c_acts c_sDay c_sUps c_sUp c_sMarks c_paidAll c_isPlayed c_isOn c_handMoved c_handPaid c_regret c_aside c_other c_states c_kept c_keptLong c_keptAt c_isTaking) → va_S A s.heap H locs → lpX9_ends_44 x2 x3 c_days c_outOf c_way c_acts n x4 x6 = some (o4) → lv_has ls 7 [(0, .ref (ad 0)), (2, .int x2), (3, .int x3), (4, .long x4), (6, .int x6)] → (∀ (H : Heap) (locs : List Loc) (ls : Array Slot), va_P (dC, dI) vwCl (mW dA ad c_tape c_taped c_tree c_bonds c_moves c_handMoves c_moved c_days c_likely c_outOf c_rateNow c_pence c_top c_bottom c_spot c_textLong c_fault c_number c_numberAt c_figures c_written c_wanted c_found c_drawnNow c_worth c_hold c_way c_acts c_sDay c_sUps c_sUp c_sMarks c_paidAll c_isPlayed c_isOn c_handMoved c_handPaid c_regret c_aside c_other c_states c_kept c_keptLong c_keptAt c_isTaking) H → va_D A (mW dA ad c_tape c_taped c_tree c_bonds c_moves c_handMoves c_moved c_days c_likely c_outOf c_rateNow c_pence c_top c_bottom c_spot c_textLong c_fault c_number c_numberAt c_figures c_written c_wanted c_found c_drawnNow c_worth c_hold c_way c_acts c_sDay c_sUps c_sUp c_sMarks c_paidAll c_isPlayed c_isOn c_handMoved c_handPaid c_regret c_aside c_other c_states c_kept c_keptLong c_keptAt c_isTaking) → va_S A s.heap H locs → lv_has ls 7 [(0, .ref (ad 0)), (3, .int x3), (4, .long o4)] → W p l e rmX9_ends s m ([.ref (ad 0), .int p1, .int p2, .int p3] : List Value).toArray below meth c H locs 0 0 Q (F0 m 108 ls [])) → W p l e rmX9_ends s m ([.ref (ad 0), .int p1, .int p2, .int p3] : List Value).toArray below meth c H locs 0 0 Q (F0 m 44 ls []) := by
    intro n
    induction n with
    | zero =>
      intro x2 x3 c_days c_outOf c_way c_acts c_tape c_taped c_tree c_bonds c_moves c_handMoves c_moved c_likely c_rateNow c_pence c_top c_bottom c_spot c_textLong c_fault c_number c_numberAt c_figures c_written c_wanted c_found c_drawnNow c_worth c_hold c_sDay c_sUps c_sUp c_sMarks c_paidAll c_isPlayed c_isOn c_handMoved c_handPaid c_regret c_aside c_other c_states c_kept c_keptLong c_keptAt c_isTaking x4 x6 o4 H locs ls hP hD hS hf hl hk
      cases hf
    | succ n ih44 =>
      intro x2 x3 c_days c_outOf c_way c_acts c_tape c_taped c_tree c_bonds c_moves c_handMoves c_moved c_likely c_rateNow c_pence c_top c_bottom c_spot c_textLong c_fault c_number c_numberAt c_figures c_written c_wanted c_found c_drawnNow c_worth c_hold c_sDay c_sUps c_sUp c_sMarks c_paidAll c_isPlayed c_isOn c_handMoved c_handPaid c_regret c_aside c_other c_states c_kept c_keptLong c_keptAt c_isTaking x4 x6 o4 H locs ls hP hD hS hf hl hk
      rw [lpX9_ends_44.eq_2] at hf
      refine lv_iload hx hb dX9_ends_44 (lv_at hl 4 rfl) ?_
      refine lv_sipush (v := 784) hx hb dX9_ends_46 (by decide) ?_
      refine lv_icmp_ge (tgt := 108) hx hb dX9_ends_49 (by decide) (fun k28 => ?_) (fun k28 => ?_)
      · replace hf := ifp k28 hf
        cases hf
        exact hk _ _ _ hP hD hS (lv_sub hl [0, 2, 3] rfl)
      · replace hf := ifn k28 hf
        refine lv_aload_n hx hb dX9_ends_52 rfl (lv_at hl 0 rfl) ?_
        refine va_get (D := (dC, dI)) (ci := 9) (v := .ref (ad 9)) (C := RX9) (T := TX9) (N := 45) hx hb hts (fun w h => gw_mem (inX9 w h)) hown hK.1 hP 0 rfl rfl 26 (by decide) (hts _ (gw_mem wfX9_36)) (fun _ h9 => h9) rfl dX9_ends_53 ?_
        refine lv_iload hx hb dX9_ends_56 (lv_at hl 4 rfl) ?_
        obtain ⟨h29, hf⟩ := og_some hf
        refine va_lald hx hb hK.1 hP 9 1 rfl rfl (okI_in h29) dX9_ends_58 ?_
        refine lv_lconst (v := 0) hx hb dX9_ends_59 rfl ?_
        refine W.lcmp hx hb dX9_ends_60 ?_
        obtain ⟨j31, v33, hf⟩ := bd1_some hf
        have J32 : ∀ (H : Heap) (locs : List Loc) (ls : Array Slot), va_P (dC, dI) vwCl (mW dA ad c_tape c_taped c_tree c_bonds c_moves c_handMoves c_moved c_days c_likely c_outOf c_rateNow c_pence c_top c_bottom c_spot c_textLong c_fault c_number c_numberAt c_figures c_written c_wanted c_found c_drawnNow c_worth c_hold c_way c_acts c_sDay c_sUps c_sUp c_sMarks c_paidAll c_isPlayed c_isOn c_handMoved c_handPaid c_regret c_aside c_other c_states c_kept c_keptLong c_keptAt c_isTaking) H → va_D A (mW dA ad c_tape c_taped c_tree c_bonds c_moves c_handMoves c_moved c_days c_likely c_outOf c_rateNow c_pence c_top c_bottom c_spot c_textLong c_fault c_number c_numberAt c_figures c_written c_wanted c_found c_drawnNow c_worth c_hold c_way c_acts c_sDay c_sUps c_sUp c_sMarks c_paidAll c_isPlayed c_isOn c_handMoved c_handPaid c_regret c_aside c_other c_states c_kept c_keptLong c_keptAt c_isTaking) → va_S A s.heap H locs → lv_has ls 7 [(0, .ref (ad 0)), (2, .int x2), (3, .int x3), (4, .long j31), (6, .int x6)] → W p l e rmX9_ends s m ([.ref (ad 0), .int p1, .int p2, .int p3] : List Value).toArray below meth c H locs 0 0 Q (F0 m 102 ls []) := by
          intro H locs ls hP hD hS hl
          obtain ⟨w34, ew34⟩ : ∃ y : Int32, y = x6 + 1 := ⟨_, rfl⟩
          replace hf := nm_at hf ew34
          refine lv_iinc (v := w34) (lv' := [(6, .int w34), (0, .ref (ad 0)), (2, .int x2), (3, .int x3), (4, .long j31)]) hx hb dX9_ends_102 hl (k := 4) rfl (by rw [ew34]; rfl) (by decide) rfl (fun ls hl => ?_)
          refine lv_goto (tgt := 44) hx hb dX9_ends_105 (by decide) ?_
          exact ih44 _ _ _ _ _ _ _ _ _ _ _ _ _ _ _ _ _ _ _ _ _ _ _ _ _ _ _ _ _ _ _ _ _ _ _ _ _ _ _ _ _ _ _ _ _ _ _ _ _ _ _ _ _ hP hD hS hf (lv_sub hl [1, 2, 3, 4, 0] rfl) hk
        replace hf := v33
        clear v33
        refine lv_if_le (tgt := 102) hx hb dX9_ends_61 (by decide) (fun k30 => ?_) (fun k30 => ?_)
        · replace hf := ifp (lc_le.mp k30) hf
          cases hf
          exact J32 _ _ _ hP hD hS (lv_sub hl [0, 1, 2, 3, 4] rfl)
        · replace hf := ifn (fun h => k30 (lc_le.mpr h)) hf
          refine lv_aload_n hx hb dX9_ends_64 rfl (lv_at hl 0 rfl) ?_
          refine va_get (D := (dC, dI)) (ci := 9) (v := .ref (ad 10)) (C := RX9) (T := TX9) (N := 45) hx hb hts (fun w h => gw_mem (inX9 w h)) hown hK.1 hP 0 rfl rfl 27 (by decide) (hts _ (gw_mem wfX9_39)) (fun _ h9 => h9) rfl dX9_ends_65 ?_
          refine lv_iload hx hb dX9_ends_68 (lv_at hl 4 rfl) ?_
          obtain ⟨h35, hf⟩ := og_some hf
          refine va_iald hx hb hK.1 hP 10 0 rfl rfl (okI_in h35) dX9_ends_70 ?_
          refine lv_iload_n hx hb dX9_ends_71 rfl (lv_at hl 1 rfl) ?_
          refine lv_icmp_ne (tgt := 102) hx hb dX9_ends_72 (by decide) (fun k36 => ?_) (fun k36 => ?_)
          · replace hf := ifn k36 hf
            cases hf
            exact J32 _ _ _ hP hD hS (lv_sub hl [0, 1, 2, 3, 4] rfl)
          · replace hf := ifp k36 hf
            refine lv_lload hx hb dX9_ends_75 (lv_at hl 3 rfl) ?_
            refine lv_aload_n hx hb dX9_ends_77 rfl (lv_at hl 0 rfl) ?_
            refine va_get (D := (dC, dI)) (ci := 9) (v := .ref (ad 9)) (C := RX9) (T := TX9) (N := 45) hx hb hts (fun w h => gw_mem (inX9 w h)) hown hK.1 hP 0 rfl rfl 26 (by decide) (hts _ (gw_mem wfX9_36)) (fun _ h9 => h9) rfl dX9_ends_78 ?_
            refine lv_iload hx hb dX9_ends_81 (lv_at hl 4 rfl) ?_
            obtain ⟨h37, hf⟩ := og_some hf
            refine va_lald hx hb hK.1 hP 9 1 rfl rfl (okI_in h37) dX9_ends_83 ?_
            refine lv_aload_n hx hb dX9_ends_84 rfl (lv_at hl 0 rfl) ?_
            refine lv_aload_n hx hb dX9_ends_85 rfl (lv_at hl 0 rfl) ?_
            refine va_get (D := (dC, dI)) (ci := 9) (v := .int c_days) (C := RX9) (T := TX9) (N := 45) hx hb hts (fun w h => gw_mem (inX9 w h)) hown hK.1 hP 0 rfl rfl 7 (by decide) (hts _ (gw_mem wfX9_94)) (fun _ h9 => h9) rfl dX9_ends_86 ?_
            refine lv_iload hx hb dX9_ends_89 (lv_at hl 4 rfl) ?_
            obtain ⟨r38, v39, hf⟩ := bd1_some hf
            refine gci0 (va_runS (As := [.int x6]) (rest := [.int c_days, .ref (ad 0), .long (c_way (Int32.toNatClampNeg x6)), .long x4]) ⟨hx, hb, hml, hown, hts⟩ (tX9_dayOf l dC dI dA H.size v39) (ccX9_X9_dayOf hts ⟨Nat.le_of_ble_eq_true rfl, Nat.le_of_ble_eq_true rfl⟩) (gPreS0 hK) rfl rfl hl.1 rfl (lv_room (Nat.le_of_ble_eq_true rfl)) dX9_ends_91 ⟨Nat.le_of_ble_eq_true rfl, Nat.le_of_ble_eq_true rfl⟩) hP hS hA (fun H locs hP hS => ?_)
            refine lv_isub hx hb dX9_ends_94 ?_
            obtain ⟨r40, v41, hf⟩ := bd1_some hf
            refine gcl (va_runV (As := [.int (c_days - r38)]) (rest := [.long (c_way (Int32.toNatClampNeg x6)), .long x4]) ⟨hx, hb, hml, hown, hts⟩ (tX9_power l dC dI dA ad H.size v41) (ccX9_X9_power hts ⟨Nat.le_of_ble_eq_true rfl, Nat.le_of_ble_eq_true rfl⟩) (gPreV (ci := 9) (q0 := 0) hP hK hD rfl rfl) rfl rfl hl.1 rfl (lv_room (Nat.le_of_ble_eq_true rfl)) dX9_ends_95 ⟨Nat.le_of_ble_eq_true rfl, Nat.le_of_ble_eq_true rfl⟩) hD hS hA (fun H locs hP hD hS => ?_)
            refine lv_lmul hx hb dX9_ends_98 ?_
            refine lv_ladd hx hb dX9_ends_99 ?_
            refine lv_topl (fun w42 ew42 => ?_)
            replace hf := nm_at hf ew42
            refine lv_lstore (lv' := [(4, .long w42), (0, .ref (ad 0)), (2, .int x2), (3, .int x3), (6, .int x6)]) hx hb dX9_ends_100 hl (by decide) rfl (fun ls hl => ?_)
            cases hf
            exact J32 _ _ _ hP hD hS (lv_sub hl [1, 2, 3, 0, 4] rfl)
  subst hQ
  unfold fX9_ends at hf
  refine lv_iload_n hx hb dX9_ends_0 rfl (lv_at hl 1 rfl) ?_
  obtain ⟨r1, v2, hf⟩ := bd1_some hf
  refine gci0 (va_runS (As := [.int p1]) (rest := []) ⟨hx, hb, hml, hown, hts⟩ (tX9_isBond l dC dI dA s.heap.size v2) (ccX9_X9_isBond hts ⟨Nat.le_of_ble_eq_true rfl, Nat.le_of_ble_eq_true rfl⟩) (gPreS0 hK) rfl rfl hl.1 rfl (lv_room (Nat.le_of_ble_eq_true rfl)) dX9_ends_1 ⟨Nat.le_of_ble_eq_true rfl, Nat.le_of_ble_eq_true rfl⟩) hP hS hA (fun H locs hP hS => ?_)
  refine lv_if_eq (tgt := 29) hx hb dX9_ends_4 (by decide) (fun k3 => ?_) (fun k3 => ?_)
  · replace hf := ifp k3 hf
    refine lv_ldc2 (v := (-1)) hx hb hown (hts _ (gw_mem wkX9_116)) dX9_ends_29 ?_
    cases hf
    exact W.lret hx hb hr (fun t ht _ => gql hP hD hS ht) hS.2.2 dX9_ends_32
  · replace hf := ifn k3 hf
    refine lv_iload_n hx hb dX9_ends_7 rfl (lv_at hl 2 rfl) ?_
    refine lv_i2l hx hb dX9_ends_8 rfl ?_
    refine lv_lconst (v := 1) hx hb dX9_ends_9 rfl ?_
    refine lv_ldc2 (v := 6) hx hb hown (hts _ (gw_mem wkX9_72)) dX9_ends_10 ?_
    obtain ⟨r4, v5, hf⟩ := bd1_some hf
    refine gci0 (va_runS (As := [.long (Int32.toInt64 p2), .long 1, .long 6]) (rest := []) ⟨hx, hb, hml, hown, hts⟩ (tX9_in l dC dI dA H.size v5) (ccX9_X9_in hts ⟨Nat.le_of_ble_eq_true rfl, Nat.le_of_ble_eq_true rfl⟩) (gPreS0 hK) rfl rfl hl.1 rfl (lv_room (Nat.le_of_ble_eq_true rfl)) dX9_ends_13 ⟨Nat.le_of_ble_eq_true rfl, Nat.le_of_ble_eq_true rfl⟩) hP hS hA (fun H locs hP hS => ?_)
    refine lv_if_eq (tgt := 29) hx hb dX9_ends_16 (by decide) (fun k6 => ?_) (fun k6 => ?_)
    · replace hf := ifp k6 hf
      refine lv_ldc2 (v := (-1)) hx hb hown (hts _ (gw_mem wkX9_116)) dX9_ends_29 ?_
      cases hf
      exact W.lret hx hb hr (fun t ht _ => gql hP hD hS ht) hS.2.2 dX9_ends_32
    · replace hf := ifn k6 hf
      refine lv_iload_n hx hb dX9_ends_19 rfl (lv_at hl 3 rfl) ?_
      refine lv_i2l hx hb dX9_ends_20 rfl ?_
      refine lv_lconst (v := 0) hx hb dX9_ends_21 rfl ?_
      refine lv_lconst (v := 1) hx hb dX9_ends_22 rfl ?_
      obtain ⟨r7, v8, hf⟩ := bd1_some hf
      refine gci0 (va_runS (As := [.long (Int32.toInt64 p3), .long 0, .long 1]) (rest := []) ⟨hx, hb, hml, hown, hts⟩ (tX9_in l dC dI dA H.size v8) (ccX9_X9_in hts ⟨Nat.le_of_ble_eq_true rfl, Nat.le_of_ble_eq_true rfl⟩) (gPreS0 hK) rfl rfl hl.1 rfl (lv_room (Nat.le_of_ble_eq_true rfl)) dX9_ends_23 ⟨Nat.le_of_ble_eq_true rfl, Nat.le_of_ble_eq_true rfl⟩) hP hS hA (fun H locs hP hS => ?_)
      refine lv_if_ne (tgt := 33) hx hb dX9_ends_26 (by decide) (fun k9 => ?_) (fun k9 => ?_)
      · replace hf := ifn k9 hf
        refine lv_aload_n hx hb dX9_ends_33 rfl (lv_at hl 0 rfl) ?_
        refine lv_iload_n hx hb dX9_ends_34 rfl (lv_at hl 1 rfl) ?_
        obtain ⟨c_days_10, c_likely_11, c_outOf_12, c_rateNow_13, c_pence_14, c_top_15, c_bottom_16, c_worth_17, c_hold_18, c_way_19, c_acts_20, v21, hf⟩ := bd11_some hf
        refine gcv (va_runV (As := [.int p1]) (rest := []) ⟨hx, hb, hml, hown, hts⟩ (tX9_laysAll l dC dI dA ad H.size v21) (ccX9_X9_laysAll hts ⟨Nat.le_of_ble_eq_true rfl, Nat.le_of_ble_eq_true rfl⟩) (gPreV (ci := 9) (q0 := 0) hP hK hD rfl rfl) rfl rfl hl.1 rfl (lv_room (Nat.le_of_ble_eq_true rfl)) dX9_ends_35 ⟨Nat.le_of_ble_eq_true rfl, Nat.le_of_ble_eq_true rfl⟩) hD hS hA (fun H locs hP hD hS => ?_)
        refine lv_lconst (v := 0) hx hb dX9_ends_38 rfl ?_
        refine lv_lstore (lv' := [(4, .long 0), (0, .ref (ad 0)), (1, .int p1), (2, .int p2), (3, .int p3)]) hx hb dX9_ends_39 hl (by decide) rfl (fun ls hl => ?_)
        refine lv_iconst (v := 0) hx hb dX9_ends_41 (by decide) ?_
        refine lv_istore (lv' := [(6, .int 0), (4, .long 0), (0, .ref (ad 0)), (1, .int p1), (2, .int p2), (3, .int p3)]) hx hb dX9_ends_42 hl (by decide) rfl (fun ls hl => ?_)
        obtain ⟨x22, v23, hf⟩ := bd1_some hf
        refine LP44 FU _ _ _ _ _ _ _ _ _ _ _ _ _ _ _ _ _ _ _ _ _ _ _ _ _ _ _ _ _ _ _ _ _ _ _ _ _ _ _ _ _ _ _ _ _ _ _ _ _ _ _ _ _ hP hD hS v23 (lv_sub hl [2, 4, 5, 1, 0] rfl) (fun H locs ls hP hD hS hl => ?_)
        refine lv_aload_n hx hb dX9_ends_108 rfl (lv_at hl 0 rfl) ?_
        refine lv_lload hx hb dX9_ends_109 (lv_at hl 2 rfl) ?_
        refine lv_aload_n hx hb dX9_ends_111 rfl (lv_at hl 0 rfl) ?_
        refine lv_aload_n hx hb dX9_ends_112 rfl (lv_at hl 0 rfl) ?_
        refine va_get (D := (dC, dI)) (ci := 9) (v := .int c_days_10) (C := RX9) (T := TX9) (N := 45) hx hb hts (fun w h => gw_mem (inX9 w h)) hown hK.1 hP 0 rfl rfl 7 (by decide) (hts _ (gw_mem wfX9_94)) (fun _ h9 => h9) rfl dX9_ends_113 ?_
        obtain ⟨r24, v25, hf⟩ := bd1_some hf
        refine gcl (va_runV (As := [.int c_days_10]) (rest := [.long x22, .ref (ad 0)]) ⟨hx, hb, hml, hown, hts⟩ (tX9_power l dC dI dA ad H.size v25) (ccX9_X9_power hts ⟨Nat.le_of_ble_eq_true rfl, Nat.le_of_ble_eq_true rfl⟩) (gPreV (ci := 9) (q0 := 0) hP hK hD rfl rfl) rfl rfl hl.1 rfl (lv_room (Nat.le_of_ble_eq_true rfl)) dX9_ends_116 ⟨Nat.le_of_ble_eq_true rfl, Nat.le_of_ble_eq_true rfl⟩) hD hS hA (fun H locs hP hD hS => ?_)
        refine lv_iload_n hx hb dX9_ends_119 rfl (lv_at hl 1 rfl) ?_
        obtain ⟨r26, v27, hf⟩ := bd1_some hf
        refine gcl (va_runV (As := [.long x22, .long r24, .int p3]) (rest := []) ⟨hx, hb, hml, hown, hts⟩ (tX9_part l dC dI dA ad H.size v27) (ccX9_X9_part hts ⟨Nat.le_of_ble_eq_true rfl, Nat.le_of_ble_eq_true rfl⟩) (gPreV (ci := 9) (q0 := 0) hP hK hD rfl rfl) rfl rfl hl.1 rfl (lv_room (Nat.le_of_ble_eq_true rfl)) dX9_ends_120 ⟨Nat.le_of_ble_eq_true rfl, Nat.le_of_ble_eq_true rfl⟩) hD hS hA (fun H locs hP hD hS => ?_)
        cases hf
        exact W.lret hx hb hr (fun t ht _ => gql hP hD hS ht) hS.2.2 dX9_ends_123
      · replace hf := ifp k9 hf
        refine lv_ldc2 (v := (-1)) hx hb hown (hts _ (gw_mem wkX9_116)) dX9_ends_29 ?_
        cases hf
        exact W.lret hx hb hr (fun t ht _ => gql hP hD hS ht) hS.2.2 dX9_ends_32
abbrev rmX9_life : Room := { frames := 8, cells := 0, slots := 0, locals := 205 }
set_option maxHeartbeats 4000000 in
set_option maxRecDepth 100000 in
theorem tX9_life (l : Launch) (dC : Nat → ClassId) (dI : Nat → Nat → Nat) (dA : Nat → ClassId) (ad : Nat → Nat) (sz : Nat) {p1 : Int32} {p2 : Int32} {c_tape : Nat → Int32} {c_taped : Int32} {c_tree : Nat → Int32} {c_bonds : Nat → Int32} {c_moves : Nat → Int32} {c_handMoves : Nat → Int32} {c_moved : Int32} {c_days : Int32} {c_likely : Int32} {c_outOf : Int32} {c_rateNow : Int32} {c_pence : Nat → Int64} {c_top : Int64} {c_bottom : Int64} {c_spot : Int32} {c_textLong : Int32} {c_fault : Int32} {c_number : Int32} {c_numberAt : Int32} {c_figures : Int32} {c_written : Int32} {c_wanted : Int32} {c_found : Int32} {c_drawnNow : Int32} {c_worth : Nat → Int64} {c_hold : Nat → Int64} {c_way : Nat → Int64} {c_acts : Nat → Int32} {c_sDay : Int32} {c_sUps : Int32} {c_sUp : Int32} {c_sMarks : Int32} {c_paidAll : Int64} {c_isPlayed : Int32} {c_isOn : Int32} {c_handMoved : Int32} {c_handPaid : Int64} {c_regret : Int64} {c_aside : Nat → Int32} {c_other : Nat → Int64} {c_states : Int32} {c_kept : Nat → Int32} {c_keptLong : Nat → Int64} {c_keptAt : Int32} {c_isTaking : Int32} {r : Int64} {o_c_days : Int32} {o_c_likely : Int32} {o_c_outOf : Int32} {o_c_rateNow : Int32} {o_c_pence : Nat → Int64} {o_c_top : Int64} {o_c_bottom : Int64} {o_c_worth : Nat → Int64} {o_c_hold : Nat → Int64} {o_c_way : Nat → Int64} {o_c_acts : Nat → Int32} (hf : fX9_life p1 p2 c_tree c_bonds c_days c_likely c_outOf c_rateNow c_pence c_top c_bottom c_worth c_hold c_way c_acts = some (r, o_c_days, o_c_likely, o_c_outOf, o_c_rateNow, o_c_pence, o_c_top, o_c_bottom, o_c_worth, o_c_hold, o_c_way, o_c_acts)) : Met l yX9_life (wq (Cond.code yX9_life cX9_life 6 (some .long))) rmX9_life (gP [.ref (ad 0), .int p1, .int p2] (dC, dI) dA (mW dA ad c_tape c_taped c_tree c_bonds c_moves c_handMoves c_moved c_days c_likely c_outOf c_rateNow c_pence c_top c_bottom c_spot c_textLong c_fault c_number c_numberAt c_figures c_written c_wanted c_found c_drawnNow c_worth c_hold c_way c_acts c_sDay c_sUps c_sUp c_sMarks c_paidAll c_isPlayed c_isOn c_handMoved c_handPaid c_regret c_aside c_other c_states c_kept c_keptLong c_keptAt c_isTaking) sz) (gQl (dC, dI) r (mW dA ad c_tape c_taped c_tree c_bonds c_moves c_handMoves c_moved o_c_days o_c_likely o_c_outOf o_c_rateNow o_c_pence o_c_top o_c_bottom c_spot c_textLong c_fault c_number c_numberAt c_figures c_written c_wanted c_found c_drawnNow o_c_worth o_c_hold o_c_way o_c_acts c_sDay c_sUps c_sUp c_sMarks c_paidAll c_isPlayed c_isOn c_handMoved c_handPaid c_regret c_aside c_other c_states c_kept c_keptLong c_keptAt c_isTaking) (va_A (mW dA ad c_tape c_taped c_tree c_bonds c_moves c_handMoves c_moved c_days c_likely c_outOf c_rateNow c_pence c_top c_bottom c_spot c_textLong c_fault c_number c_numberAt c_figures c_written c_wanted c_found c_drawnNow c_worth c_hold c_way c_acts c_sDay c_sUps c_sUp c_sMarks c_paidAll c_isPlayed c_isOn c_handMoved c_handPaid c_regret c_aside c_other c_states c_kept c_keptLong c_keptAt c_isTaking) sz)) 0 0 (va_A (mW dA ad c_tape c_taped c_tree c_bonds c_moves c_handMoves c_moved c_days c_likely c_outOf c_rateNow c_pence c_top c_bottom c_spot c_textLong c_fault c_number c_numberAt c_figures c_written c_wanted c_found c_drawnNow c_worth c_hold c_way c_acts c_sDay c_sUps c_sUp c_sMarks c_paidAll c_isPlayed c_isOn c_handMoved c_handPaid c_regret c_aside c_other c_states c_kept c_keptLong c_keptAt c_isTaking) sz) := by
  refine Met.ofW (cc := cX9_life) (maxL := 6) (ret := (some .long)) (by decide) rfl ?_
  intro p e s m args below meth c s₁ B hml hv
  obtain ⟨rfl, hsz, hP, hK, hD0⟩ := hv
  have hx := B.exec
  have hb := B.bytes
  have hr := B.returns
  have hts := atoms_spec (ws := wq (Cond.code yX9_life cX9_life 6 (some .long))) B.pre
  have hown : s.vm.findClass RX9 = some m.cls := findClass_of_methodNamed B.named
  have hlocks := B.notSynchronized
  clear B
  subst hsz
  have hD := hD0.self (sz := s.heap.size)
  generalize hAe : va_A (mW dA ad c_tape c_taped c_tree c_bonds c_moves c_handMoves c_moved c_days c_likely c_outOf c_rateNow c_pence c_top c_bottom c_spot c_textLong c_fault c_number c_numberAt c_figures c_written c_wanted c_found c_drawnNow c_worth c_hold c_way c_acts c_sDay c_sUps c_sUp c_sMarks c_paidAll c_isPlayed c_isOn c_handMoved c_handPaid c_regret c_aside c_other c_states c_kept c_keptLong c_keptAt c_isTaking) s.heap.size = A at hD ⊢
  have hA : ∀ q : Nat, s.heap.size ≤ q → A q := fun q h => by rw [← hAe]; exact Or.inr h
  clear hAe hD0
  have hS : va_S A s.heap s.heap [] := va_S.rf
  have hl := lv_entry ([.ref (ad 0), .int p1, .int p2]) (n := 6) (Nat.le_of_ble_eq_true rfl)
  rw [lg_entry_eq]
  generalize (lg_sl ([.ref (ad 0), .int p1, .int p2]) ++ List.replicate (6 - (lg_sl ([.ref (ad 0), .int p1, .int p2])).length) Slot.unset).toArray = ls at hl ⊢
  have hl : lv_has ls 6 [(0, .ref (ad 0)), (1, .int p1), (2, .int p2)] := hl
  change W p l e rmX9_life s m ([.ref (ad 0), .int p1, .int p2] : List Value).toArray below meth c s.heap [] 0 0 _ _
  generalize hQ : MQ below (gQl (dC, dI) r (mW dA ad c_tape c_taped c_tree c_bonds c_moves c_handMoves c_moved o_c_days o_c_likely o_c_outOf o_c_rateNow o_c_pence o_c_top o_c_bottom c_spot c_textLong c_fault c_number c_numberAt c_figures c_written c_wanted c_found c_drawnNow o_c_worth o_c_hold o_c_way o_c_acts c_sDay c_sUps c_sUp c_sMarks c_paidAll c_isPlayed c_isOn c_handMoved c_handPaid c_regret c_aside c_other c_states c_kept c_keptLong c_keptAt c_isTaking) A) ([.ref (ad 0), .int p1, .int p2] : List Value).toArray s 0 0 A = Q
  have LP31 : ∀ (n : Nat) (x2 : Int32) (c_days : Int32) (c_outOf : Int32) (c_way : Nat → Int64) (c_acts : Nat → Int32) (c_tape : Nat → Int32) (c_taped : Int32) (c_tree : Nat → Int32) (c_bonds : Nat → Int32) (c_moves : Nat → Int32) (c_handMoves : Nat → Int32) (c_moved : Int32) (c_likely : Int32) (c_rateNow : Int32) (c_pence : Nat → Int64) (c_top : Int64) (c_bottom : Int64) (c_spot : Int32) (c_textLong : Int32) (c_fault : Int32) (c_number : Int32) (c_numberAt : Int32) (c_figures : Int32) (c_written : Int32) (c_wanted : Int32) (c_found : Int32) (c_drawnNow : Int32) (c_worth : Nat → Int64) (c_hold : Nat → Int64) (c_sDay : Int32) (c_sUps : Int32) (c_sUp : Int32) (c_sMarks : Int32) (c_paidAll : Int64) (c_isPlayed : Int32) (c_isOn : Int32) (c_handMoved : Int32) (c_handPaid : Int64) (c_regret : Int64) (c_aside : Nat → Int32) (c_other : Nat → Int64) (c_states : Int32) (c_kept : Nat → Int32) (c_keptLong : Nat → Int64) (c_keptAt : Int32) (c_isTaking : Int32) (x3 : Int64) (x5 : Int32) (o3 : Int64) (H : Heap) (locs : List Loc) (ls : Array Slot), va_P (dC, dI) vwCl (mW dA ad c_tape c_taped c_tree c_bonds c_moves c_handMoves c_moved c_days c_likely c_outOf c_rateNow c_pence c_top c_bottom c_spot c_textLong c_fault c_number c_numberAt c_figures c_written c_wanted c_found c_drawnNow c_worth c_hold c_way c_acts c_sDay c_sUps c_sUp c_sMarks c_paidAll c_isPlayed c_isOn c_handMoved c_handPaid c_regret c_aside c_other c_states c_kept c_keptLong c_keptAt c_isTaking) H → va_D A (mW dA ad c_tape c_taped c_tree c_bonds c_moves c_handMoves c_moved c_days c_likely c_outOf c_rateNow c_pence c_top c_bottom c_spot c_textLong c_fault c_number c_numberAt c_figures c_written c_wanted c_found c_drawnNow c_worth c_hold c_way c_acts c_sDay c_sUps c_sUp c_sMarks c_paidAll c_isPlayed c_isOn c_handMoved c_handPaid c_regret c_aside c_other c_states c_kept c_keptLong c_keptAt c_isTaking) → va_S A s.heap H locs → lpX9_life_31 x2 c_days c_outOf c_way c_acts n x3 x5 = some (o3) → lv_has ls 6 [(0, .ref (ad 0)), (2, .int x2), (3, .long x3), (5, .int x5)] → (∀ (H : Heap) (locs : List Loc) (ls : Array Slot), va_P (dC, dI) vwCl (mW dA ad c_tape c_taped c_tree c_bonds c_moves c_handMoves c_moved c_days c_likely c_outOf c_rateNow c_pence c_top c_bottom c_spot c_textLong c_fault c_number c_numberAt c_figures c_written c_wanted c_found c_drawnNow c_worth c_hold c_way c_acts c_sDay c_sUps c_sUp c_sMarks c_paidAll c_isPlayed c_isOn c_handMoved c_handPaid c_regret c_aside c_other c_states c_kept c_keptLong c_keptAt c_isTaking) H → va_D A (mW dA ad c_tape c_taped c_tree c_bonds c_moves c_handMoves c_moved c_days c_likely c_outOf c_rateNow c_pence c_top c_bottom c_spot c_textLong c_fault c_number c_numberAt c_figures c_written c_wanted c_found c_drawnNow c_worth c_hold c_way c_acts c_sDay c_sUps c_sUp c_sMarks c_paidAll c_isPlayed c_isOn c_handMoved c_handPaid c_regret c_aside c_other c_states c_kept c_keptLong c_keptAt c_isTaking) → va_S A s.heap H locs → lv_has ls 6 [(0, .ref (ad 0)), (2, .int x2), (3, .long o3)] → W p l e rmX9_life s m ([.ref (ad 0), .int p1, .int p2] : List Value).toArray below meth c H locs 0 0 Q (F0 m 99 ls [])) → W p l e rmX9_life s m ([.ref (ad 0), .int p1, .int p2] : List Value).toArray below meth c H locs 0 0 Q (F0 m 31 ls []) := by
    intro n
    induction n with
    | zero =>
      intro x2 c_days c_outOf c_way c_acts c_tape c_taped c_tree c_bonds c_moves c_handMoves c_moved c_likely c_rateNow c_pence c_top c_bottom c_spot c_textLong c_fault c_number c_numberAt c_figures c_written c_wanted c_found c_drawnNow c_worth c_hold c_sDay c_sUps c_sUp c_sMarks c_paidAll c_isPlayed c_isOn c_handMoved c_handPaid c_regret c_aside c_other c_states c_kept c_keptLong c_keptAt c_isTaking x3 x5 o3 H locs ls hP hD hS hf hl hk
      cases hf
    | succ n ih31 =>
      intro x2 c_days c_outOf c_way c_acts c_tape c_taped c_tree c_bonds c_moves c_handMoves c_moved c_likely c_rateNow c_pence c_top c_bottom c_spot c_textLong c_fault c_number c_numberAt c_figures c_written c_wanted c_found c_drawnNow c_worth c_hold c_sDay c_sUps c_sUp c_sMarks c_paidAll c_isPlayed c_isOn c_handMoved c_handPaid c_regret c_aside c_other c_states c_kept c_keptLong c_keptAt c_isTaking x3 x5 o3 H locs ls hP hD hS hf hl hk
      rw [lpX9_life_31.eq_2] at hf
      refine lv_iload hx hb dX9_life_31 (lv_at hl 3 rfl) ?_
      refine lv_sipush (v := 784) hx hb dX9_life_33 (by decide) ?_
      refine lv_icmp_ge (tgt := 99) hx hb dX9_life_36 (by decide) (fun k25 => ?_) (fun k25 => ?_)
      · replace hf := ifp k25 hf
        cases hf
        exact hk _ _ _ hP hD hS (lv_sub hl [0, 1, 2] rfl)
      · replace hf := ifn k25 hf
        refine lv_aload_n hx hb dX9_life_39 rfl (lv_at hl 0 rfl) ?_
        refine va_get (D := (dC, dI)) (ci := 9) (v := .ref (ad 9)) (C := RX9) (T := TX9) (N := 45) hx hb hts (fun w h => gw_mem (inX9 w h)) hown hK.1 hP 0 rfl rfl 26 (by decide) (hts _ (gw_mem wfX9_36)) (fun _ h9 => h9) rfl dX9_life_40 ?_
        refine lv_iload hx hb dX9_life_43 (lv_at hl 3 rfl) ?_
        obtain ⟨h26, hf⟩ := og_some hf
        refine va_lald hx hb hK.1 hP 9 1 rfl rfl (okI_in h26) dX9_life_45 ?_
        refine lv_lconst (v := 0) hx hb dX9_life_46 rfl ?_
        refine W.lcmp hx hb dX9_life_47 ?_
        obtain ⟨j28, v30, hf⟩ := bd1_some hf
        have J29 : ∀ (H : Heap) (locs : List Loc) (ls : Array Slot), va_P (dC, dI) vwCl (mW dA ad c_tape c_taped c_tree c_bonds c_moves c_handMoves c_moved c_days c_likely c_outOf c_rateNow c_pence c_top c_bottom c_spot c_textLong c_fault c_number c_numberAt c_figures c_written c_wanted c_found c_drawnNow c_worth c_hold c_way c_acts c_sDay c_sUps c_sUp c_sMarks c_paidAll c_isPlayed c_isOn c_handMoved c_handPaid c_regret c_aside c_other c_states c_kept c_keptLong c_keptAt c_isTaking) H → va_D A (mW dA ad c_tape c_taped c_tree c_bonds c_moves c_handMoves c_moved c_days c_likely c_outOf c_rateNow c_pence c_top c_bottom c_spot c_textLong c_fault c_number c_numberAt c_figures c_written c_wanted c_found c_drawnNow c_worth c_hold c_way c_acts c_sDay c_sUps c_sUp c_sMarks c_paidAll c_isPlayed c_isOn c_handMoved c_handPaid c_regret c_aside c_other c_states c_kept c_keptLong c_keptAt c_isTaking) → va_S A s.heap H locs → lv_has ls 6 [(0, .ref (ad 0)), (2, .int x2), (3, .long j28), (5, .int x5)] → W p l e rmX9_life s m ([.ref (ad 0), .int p1, .int p2] : List Value).toArray below meth c H locs 0 0 Q (F0 m 93 ls []) := by
          intro H locs ls hP hD hS hl
          obtain ⟨w31, ew31⟩ : ∃ y : Int32, y = x5 + 1 := ⟨_, rfl⟩
          replace hf := nm_at hf ew31
          refine lv_iinc (v := w31) (lv' := [(5, .int w31), (0, .ref (ad 0)), (2, .int x2), (3, .long j28)]) hx hb dX9_life_93 hl (k := 3) rfl (by rw [ew31]; rfl) (by decide) rfl (fun ls hl => ?_)
          refine lv_goto (tgt := 31) hx hb dX9_life_96 (by decide) ?_
          exact ih31 _ _ _ _ _ _ _ _ _ _ _ _ _ _ _ _ _ _ _ _ _ _ _ _ _ _ _ _ _ _ _ _ _ _ _ _ _ _ _ _ _ _ _ _ _ _ _ _ _ _ _ _ hP hD hS hf (lv_sub hl [1, 2, 3, 0] rfl) hk
        replace hf := v30
        clear v30
        refine lv_if_le (tgt := 93) hx hb dX9_life_48 (by decide) (fun k27 => ?_) (fun k27 => ?_)
        · replace hf := ifp (lc_le.mp k27) hf
          cases hf
          exact J29 _ _ _ hP hD hS (lv_sub hl [0, 1, 2, 3] rfl)
        · replace hf := ifn (fun h => k27 (lc_le.mpr h)) hf
          refine lv_aload_n hx hb dX9_life_51 rfl (lv_at hl 0 rfl) ?_
          refine va_get (D := (dC, dI)) (ci := 9) (v := .ref (ad 10)) (C := RX9) (T := TX9) (N := 45) hx hb hts (fun w h => gw_mem (inX9 w h)) hown hK.1 hP 0 rfl rfl 27 (by decide) (hts _ (gw_mem wfX9_39)) (fun _ h9 => h9) rfl dX9_life_52 ?_
          refine lv_iload hx hb dX9_life_55 (lv_at hl 3 rfl) ?_
          obtain ⟨h32, hf⟩ := og_some hf
          refine va_iald hx hb hK.1 hP 10 0 rfl rfl (okI_in h32) dX9_life_57 ?_
          refine lv_if_eq (tgt := 93) hx hb dX9_life_58 (by decide) (fun k33 => ?_) (fun k33 => ?_)
          · replace hf := ifp k33 hf
            cases hf
            exact J29 _ _ _ hP hD hS (lv_sub hl [0, 1, 2, 3] rfl)
          · replace hf := ifn k33 hf
            refine lv_lload_n hx hb dX9_life_61 rfl (lv_at hl 2 rfl) ?_
            refine lv_aload_n hx hb dX9_life_62 rfl (lv_at hl 0 rfl) ?_
            refine va_get (D := (dC, dI)) (ci := 9) (v := .ref (ad 9)) (C := RX9) (T := TX9) (N := 45) hx hb hts (fun w h => gw_mem (inX9 w h)) hown hK.1 hP 0 rfl rfl 26 (by decide) (hts _ (gw_mem wfX9_36)) (fun _ h9 => h9) rfl dX9_life_63 ?_
            refine lv_iload hx hb dX9_life_66 (lv_at hl 3 rfl) ?_
            obtain ⟨h34, hf⟩ := og_some hf
            refine va_lald hx hb hK.1 hP 9 1 rfl rfl (okI_in h34) dX9_life_68 ?_
            refine lv_aload_n hx hb dX9_life_69 rfl (lv_at hl 0 rfl) ?_
            refine lv_aload_n hx hb dX9_life_70 rfl (lv_at hl 0 rfl) ?_
            refine va_get (D := (dC, dI)) (ci := 9) (v := .int c_days) (C := RX9) (T := TX9) (N := 45) hx hb hts (fun w h => gw_mem (inX9 w h)) hown hK.1 hP 0 rfl rfl 7 (by decide) (hts _ (gw_mem wfX9_94)) (fun _ h9 => h9) rfl dX9_life_71 ?_
            refine lv_iload hx hb dX9_life_74 (lv_at hl 3 rfl) ?_
            obtain ⟨r35, v36, hf⟩ := bd1_some hf
            refine gci0 (va_runS (As := [.int x5]) (rest := [.int c_days, .ref (ad 0), .long (c_way (Int32.toNatClampNeg x5)), .long x3]) ⟨hx, hb, hml, hown, hts⟩ (tX9_dayOf l dC dI dA H.size v36) (ccX9_X9_dayOf hts ⟨Nat.le_of_ble_eq_true rfl, Nat.le_of_ble_eq_true rfl⟩) (gPreS0 hK) rfl rfl hl.1 rfl (lv_room (Nat.le_of_ble_eq_true rfl)) dX9_life_76 ⟨Nat.le_of_ble_eq_true rfl, Nat.le_of_ble_eq_true rfl⟩) hP hS hA (fun H locs hP hS => ?_)
            refine lv_isub hx hb dX9_life_79 ?_
            obtain ⟨r37, v38, hf⟩ := bd1_some hf
            refine gcl (va_runV (As := [.int (c_days - r35)]) (rest := [.long (c_way (Int32.toNatClampNeg x5)), .long x3]) ⟨hx, hb, hml, hown, hts⟩ (tX9_power l dC dI dA ad H.size v38) (ccX9_X9_power hts ⟨Nat.le_of_ble_eq_true rfl, Nat.le_of_ble_eq_true rfl⟩) (gPreV (ci := 9) (q0 := 0) hP hK hD rfl rfl) rfl rfl hl.1 rfl (lv_room (Nat.le_of_ble_eq_true rfl)) dX9_life_80 ⟨Nat.le_of_ble_eq_true rfl, Nat.le_of_ble_eq_true rfl⟩) hD hS hA (fun H locs hP hD hS => ?_)
            refine lv_lmul hx hb dX9_life_83 ?_
            refine lv_iload hx hb dX9_life_84 (lv_at hl 3 rfl) ?_
            obtain ⟨r39, v40, hf⟩ := bd1_some hf
            refine gci0 (va_runS (As := [.int x5]) (rest := [.long ((c_way (Int32.toNatClampNeg x5)) * r37), .long x3]) ⟨hx, hb, hml, hown, hts⟩ (tX9_dayOf l dC dI dA H.size v40) (ccX9_X9_dayOf hts ⟨Nat.le_of_ble_eq_true rfl, Nat.le_of_ble_eq_true rfl⟩) (gPreS0 hK) rfl rfl hl.1 rfl (lv_room (Nat.le_of_ble_eq_true rfl)) dX9_life_86 ⟨Nat.le_of_ble_eq_true rfl, Nat.le_of_ble_eq_true rfl⟩) hP hS hA (fun H locs hP hS => ?_)
            refine lv_i2l hx hb dX9_life_89 rfl ?_
            refine lv_lmul hx hb dX9_life_90 ?_
            refine lv_ladd hx hb dX9_life_91 ?_
            refine lv_topl (fun w41 ew41 => ?_)
            replace hf := nm_at hf ew41
            refine lv_lstore_n (lv' := [(3, .long w41), (0, .ref (ad 0)), (2, .int x2), (5, .int x5)]) hx hb dX9_life_92 rfl hl (by decide) rfl (fun ls hl => ?_)
            cases hf
            exact J29 _ _ _ hP hD hS (lv_sub hl [1, 2, 0, 3] rfl)
  subst hQ
  unfold fX9_life at hf
  refine lv_iload_n hx hb dX9_life_0 rfl (lv_at hl 1 rfl) ?_
  obtain ⟨r1, v2, hf⟩ := bd1_some hf
  refine gci0 (va_runS (As := [.int p1]) (rest := []) ⟨hx, hb, hml, hown, hts⟩ (tX9_isBond l dC dI dA s.heap.size v2) (ccX9_X9_isBond hts ⟨Nat.le_of_ble_eq_true rfl, Nat.le_of_ble_eq_true rfl⟩) (gPreS0 hK) rfl rfl hl.1 rfl (lv_room (Nat.le_of_ble_eq_true rfl)) dX9_life_1 ⟨Nat.le_of_ble_eq_true rfl, Nat.le_of_ble_eq_true rfl⟩) hP hS hA (fun H locs hP hS => ?_)
  refine lv_if_eq (tgt := 17) hx hb dX9_life_4 (by decide) (fun k3 => ?_) (fun k3 => ?_)
  · replace hf := ifp k3 hf
    refine lv_ldc2 (v := (-1)) hx hb hown (hts _ (gw_mem wkX9_116)) dX9_life_17 ?_
    cases hf
    exact W.lret hx hb hr (fun t ht _ => gql hP hD hS ht) hS.2.2 dX9_life_20
  · replace hf := ifn k3 hf
    refine lv_iload_n hx hb dX9_life_7 rfl (lv_at hl 2 rfl) ?_
    refine lv_i2l hx hb dX9_life_8 rfl ?_
    refine lv_lconst (v := 0) hx hb dX9_life_9 rfl ?_
    refine lv_lconst (v := 1) hx hb dX9_life_10 rfl ?_
    obtain ⟨r4, v5, hf⟩ := bd1_some hf
    refine gci0 (va_runS (As := [.long (Int32.toInt64 p2), .long 0, .long 1]) (rest := []) ⟨hx, hb, hml, hown, hts⟩ (tX9_in l dC dI dA H.size v5) (ccX9_X9_in hts ⟨Nat.le_of_ble_eq_true rfl, Nat.le_of_ble_eq_true rfl⟩) (gPreS0 hK) rfl rfl hl.1 rfl (lv_room (Nat.le_of_ble_eq_true rfl)) dX9_life_11 ⟨Nat.le_of_ble_eq_true rfl, Nat.le_of_ble_eq_true rfl⟩) hP hS hA (fun H locs hP hS => ?_)
    refine lv_if_ne (tgt := 21) hx hb dX9_life_14 (by decide) (fun k6 => ?_) (fun k6 => ?_)
    · replace hf := ifn k6 hf
      refine lv_aload_n hx hb dX9_life_21 rfl (lv_at hl 0 rfl) ?_
      refine lv_iload_n hx hb dX9_life_22 rfl (lv_at hl 1 rfl) ?_
      obtain ⟨c_days_7, c_likely_8, c_outOf_9, c_rateNow_10, c_pence_11, c_top_12, c_bottom_13, c_worth_14, c_hold_15, c_way_16, c_acts_17, v18, hf⟩ := bd11_some hf
      refine gcv (va_runV (As := [.int p1]) (rest := []) ⟨hx, hb, hml, hown, hts⟩ (tX9_laysAll l dC dI dA ad H.size v18) (ccX9_X9_laysAll hts ⟨Nat.le_of_ble_eq_true rfl, Nat.le_of_ble_eq_true rfl⟩) (gPreV (ci := 9) (q0 := 0) hP hK hD rfl rfl) rfl rfl hl.1 rfl (lv_room (Nat.le_of_ble_eq_true rfl)) dX9_life_23 ⟨Nat.le_of_ble_eq_true rfl, Nat.le_of_ble_eq_true rfl⟩) hD hS hA (fun H locs hP hD hS => ?_)
      refine lv_lconst (v := 0) hx hb dX9_life_26 rfl ?_
      refine lv_lstore_n (lv' := [(3, .long 0), (0, .ref (ad 0)), (1, .int p1), (2, .int p2)]) hx hb dX9_life_27 rfl hl (by decide) rfl (fun ls hl => ?_)
      refine lv_iconst (v := 0) hx hb dX9_life_28 (by decide) ?_
      refine lv_istore (lv' := [(5, .int 0), (3, .long 0), (0, .ref (ad 0)), (1, .int p1), (2, .int p2)]) hx hb dX9_life_29 hl (by decide) rfl (fun ls hl => ?_)
      obtain ⟨x19, v20, hf⟩ := bd1_some hf
      refine LP31 FU _ _ _ _ _ _ _ _ _ _ _ _ _ _ _ _ _ _ _ _ _ _ _ _ _ _ _ _ _ _ _ _ _ _ _ _ _ _ _ _ _ _ _ _ _ _ _ _ _ _ _ _ hP hD hS v20 (lv_sub hl [2, 4, 1, 0] rfl) (fun H locs ls hP hD hS hl => ?_)
      refine lv_aload_n hx hb dX9_life_99 rfl (lv_at hl 0 rfl) ?_
      refine lv_lload_n hx hb dX9_life_100 rfl (lv_at hl 2 rfl) ?_
      refine lv_aload_n hx hb dX9_life_101 rfl (lv_at hl 0 rfl) ?_
      refine lv_aload_n hx hb dX9_life_102 rfl (lv_at hl 0 rfl) ?_
      refine va_get (D := (dC, dI)) (ci := 9) (v := .int c_days_7) (C := RX9) (T := TX9) (N := 45) hx hb hts (fun w h => gw_mem (inX9 w h)) hown hK.1 hP 0 rfl rfl 7 (by decide) (hts _ (gw_mem wfX9_94)) (fun _ h9 => h9) rfl dX9_life_103 ?_
      obtain ⟨r21, v22, hf⟩ := bd1_some hf
      refine gcl (va_runV (As := [.int c_days_7]) (rest := [.long x19, .ref (ad 0)]) ⟨hx, hb, hml, hown, hts⟩ (tX9_power l dC dI dA ad H.size v22) (ccX9_X9_power hts ⟨Nat.le_of_ble_eq_true rfl, Nat.le_of_ble_eq_true rfl⟩) (gPreV (ci := 9) (q0 := 0) hP hK hD rfl rfl) rfl rfl hl.1 rfl (lv_room (Nat.le_of_ble_eq_true rfl)) dX9_life_106 ⟨Nat.le_of_ble_eq_true rfl, Nat.le_of_ble_eq_true rfl⟩) hD hS hA (fun H locs hP hD hS => ?_)
      refine lv_iload_n hx hb dX9_life_109 rfl (lv_at hl 1 rfl) ?_
      obtain ⟨r23, v24, hf⟩ := bd1_some hf
      refine gcl (va_runV (As := [.long x19, .long r21, .int p2]) (rest := []) ⟨hx, hb, hml, hown, hts⟩ (tX9_part l dC dI dA ad H.size v24) (ccX9_X9_part hts ⟨Nat.le_of_ble_eq_true rfl, Nat.le_of_ble_eq_true rfl⟩) (gPreV (ci := 9) (q0 := 0) hP hK hD rfl rfl) rfl rfl hl.1 rfl (lv_room (Nat.le_of_ble_eq_true rfl)) dX9_life_110 ⟨Nat.le_of_ble_eq_true rfl, Nat.le_of_ble_eq_true rfl⟩) hD hS hA (fun H locs hP hD hS => ?_)
      cases hf
      exact W.lret hx hb hr (fun t ht _ => gql hP hD hS ht) hS.2.2 dX9_life_113
    · replace hf := ifp k6 hf
      refine lv_ldc2 (v := (-1)) hx hb hown (hts _ (gw_mem wkX9_116)) dX9_life_17 ?_
      cases hf
      exact W.lret hx hb hr (fun t ht _ => gql hP hD hS ht) hS.2.2 dX9_life_20
abbrev rmX9_states : Room := { frames := 8, cells := 0, slots := 0, locals := 205 }
set_option maxHeartbeats 4000000 in
set_option maxRecDepth 100000 in
theorem tX9_states (l : Launch) (dC : Nat → ClassId) (dI : Nat → Nat → Nat) (dA : Nat → ClassId) (ad : Nat → Nat) (sz : Nat) {p1 : Int32} {p2 : Int32} {c_tape : Nat → Int32} {c_taped : Int32} {c_tree : Nat → Int32} {c_bonds : Nat → Int32} {c_moves : Nat → Int32} {c_handMoves : Nat → Int32} {c_moved : Int32} {c_days : Int32} {c_likely : Int32} {c_outOf : Int32} {c_rateNow : Int32} {c_pence : Nat → Int64} {c_top : Int64} {c_bottom : Int64} {c_spot : Int32} {c_textLong : Int32} {c_fault : Int32} {c_number : Int32} {c_numberAt : Int32} {c_figures : Int32} {c_written : Int32} {c_wanted : Int32} {c_found : Int32} {c_drawnNow : Int32} {c_worth : Nat → Int64} {c_hold : Nat → Int64} {c_way : Nat → Int64} {c_acts : Nat → Int32} {c_sDay : Int32} {c_sUps : Int32} {c_sUp : Int32} {c_sMarks : Int32} {c_paidAll : Int64} {c_isPlayed : Int32} {c_isOn : Int32} {c_handMoved : Int32} {c_handPaid : Int64} {c_regret : Int64} {c_aside : Nat → Int32} {c_other : Nat → Int64} {c_states : Int32} {c_kept : Nat → Int32} {c_keptLong : Nat → Int64} {c_keptAt : Int32} {c_isTaking : Int32} {r : Int32} {o_c_days : Int32} {o_c_likely : Int32} {o_c_outOf : Int32} {o_c_rateNow : Int32} {o_c_pence : Nat → Int64} {o_c_top : Int64} {o_c_bottom : Int64} {o_c_worth : Nat → Int64} {o_c_hold : Nat → Int64} {o_c_way : Nat → Int64} {o_c_acts : Nat → Int32} (hf : fX9_states p1 p2 c_tree c_bonds c_days c_likely c_outOf c_rateNow c_pence c_top c_bottom c_worth c_hold c_way c_acts = some (r, o_c_days, o_c_likely, o_c_outOf, o_c_rateNow, o_c_pence, o_c_top, o_c_bottom, o_c_worth, o_c_hold, o_c_way, o_c_acts)) : Met l yX9_states (wq (Cond.code yX9_states cX9_states 5 (some .int))) rmX9_states (gP [.ref (ad 0), .int p1, .int p2] (dC, dI) dA (mW dA ad c_tape c_taped c_tree c_bonds c_moves c_handMoves c_moved c_days c_likely c_outOf c_rateNow c_pence c_top c_bottom c_spot c_textLong c_fault c_number c_numberAt c_figures c_written c_wanted c_found c_drawnNow c_worth c_hold c_way c_acts c_sDay c_sUps c_sUp c_sMarks c_paidAll c_isPlayed c_isOn c_handMoved c_handPaid c_regret c_aside c_other c_states c_kept c_keptLong c_keptAt c_isTaking) sz) (gQi (dC, dI) r (mW dA ad c_tape c_taped c_tree c_bonds c_moves c_handMoves c_moved o_c_days o_c_likely o_c_outOf o_c_rateNow o_c_pence o_c_top o_c_bottom c_spot c_textLong c_fault c_number c_numberAt c_figures c_written c_wanted c_found c_drawnNow o_c_worth o_c_hold o_c_way o_c_acts c_sDay c_sUps c_sUp c_sMarks c_paidAll c_isPlayed c_isOn c_handMoved c_handPaid c_regret c_aside c_other c_states c_kept c_keptLong c_keptAt c_isTaking) (va_A (mW dA ad c_tape c_taped c_tree c_bonds c_moves c_handMoves c_moved c_days c_likely c_outOf c_rateNow c_pence c_top c_bottom c_spot c_textLong c_fault c_number c_numberAt c_figures c_written c_wanted c_found c_drawnNow c_worth c_hold c_way c_acts c_sDay c_sUps c_sUp c_sMarks c_paidAll c_isPlayed c_isOn c_handMoved c_handPaid c_regret c_aside c_other c_states c_kept c_keptLong c_keptAt c_isTaking) sz)) 0 0 (va_A (mW dA ad c_tape c_taped c_tree c_bonds c_moves c_handMoves c_moved c_days c_likely c_outOf c_rateNow c_pence c_top c_bottom c_spot c_textLong c_fault c_number c_numberAt c_figures c_written c_wanted c_found c_drawnNow c_worth c_hold c_way c_acts c_sDay c_sUps c_sUp c_sMarks c_paidAll c_isPlayed c_isOn c_handMoved c_handPaid c_regret c_aside c_other c_states c_kept c_keptLong c_keptAt c_isTaking) sz) := by
  refine Met.ofW (cc := cX9_states) (maxL := 5) (ret := (some .int)) (by decide) rfl ?_
  intro p e s m args below meth c s₁ B hml hv
  obtain ⟨rfl, hsz, hP, hK, hD0⟩ := hv
  have hx := B.exec
  have hb := B.bytes
  have hr := B.returns
  have hts := atoms_spec (ws := wq (Cond.code yX9_states cX9_states 5 (some .int))) B.pre
  have hown : s.vm.findClass RX9 = some m.cls := findClass_of_methodNamed B.named
  have hlocks := B.notSynchronized
  clear B
  subst hsz
  have hD := hD0.self (sz := s.heap.size)
  generalize hAe : va_A (mW dA ad c_tape c_taped c_tree c_bonds c_moves c_handMoves c_moved c_days c_likely c_outOf c_rateNow c_pence c_top c_bottom c_spot c_textLong c_fault c_number c_numberAt c_figures c_written c_wanted c_found c_drawnNow c_worth c_hold c_way c_acts c_sDay c_sUps c_sUp c_sMarks c_paidAll c_isPlayed c_isOn c_handMoved c_handPaid c_regret c_aside c_other c_states c_kept c_keptLong c_keptAt c_isTaking) s.heap.size = A at hD ⊢
  have hA : ∀ q : Nat, s.heap.size ≤ q → A q := fun q h => by rw [← hAe]; exact Or.inr h
  clear hAe hD0
  have hS : va_S A s.heap s.heap [] := va_S.rf
  have hl := lv_entry ([.ref (ad 0), .int p1, .int p2]) (n := 5) (Nat.le_of_ble_eq_true rfl)
  rw [lg_entry_eq]
  generalize (lg_sl ([.ref (ad 0), .int p1, .int p2]) ++ List.replicate (5 - (lg_sl ([.ref (ad 0), .int p1, .int p2])).length) Slot.unset).toArray = ls at hl ⊢
  have hl : lv_has ls 5 [(0, .ref (ad 0)), (1, .int p1), (2, .int p2)] := hl
  change W p l e rmX9_states s m ([.ref (ad 0), .int p1, .int p2] : List Value).toArray below meth c s.heap [] 0 0 _ _
  generalize hQ : MQ below (gQi (dC, dI) r (mW dA ad c_tape c_taped c_tree c_bonds c_moves c_handMoves c_moved o_c_days o_c_likely o_c_outOf o_c_rateNow o_c_pence o_c_top o_c_bottom c_spot c_textLong c_fault c_number c_numberAt c_figures c_written c_wanted c_found c_drawnNow o_c_worth o_c_hold o_c_way o_c_acts c_sDay c_sUps c_sUp c_sMarks c_paidAll c_isPlayed c_isOn c_handMoved c_handPaid c_regret c_aside c_other c_states c_kept c_keptLong c_keptAt c_isTaking) A) ([.ref (ad 0), .int p1, .int p2] : List Value).toArray s 0 0 A = Q
  have LP38 : ∀ (n : Nat) (x2 : Int32) (c_way : Nat → Int64) (c_tape : Nat → Int32) (c_taped : Int32) (c_tree : Nat → Int32) (c_bonds : Nat → Int32) (c_moves : Nat → Int32) (c_handMoves : Nat → Int32) (c_moved : Int32) (c_days : Int32) (c_likely : Int32) (c_outOf : Int32) (c_rateNow : Int32) (c_pence : Nat → Int64) (c_top : Int64) (c_bottom : Int64) (c_spot : Int32) (c_textLong : Int32) (c_fault : Int32) (c_number : Int32) (c_numberAt : Int32) (c_figures : Int32) (c_written : Int32) (c_wanted : Int32) (c_found : Int32) (c_drawnNow : Int32) (c_worth : Nat → Int64) (c_hold : Nat → Int64) (c_acts : Nat → Int32) (c_sDay : Int32) (c_sUps : Int32) (c_sUp : Int32) (c_sMarks : Int32) (c_paidAll : Int64) (c_isPlayed : Int32) (c_isOn : Int32) (c_handMoved : Int32) (c_handPaid : Int64) (c_regret : Int64) (c_aside : Nat → Int32) (c_other : Nat → Int64) (c_states : Int32) (c_kept : Nat → Int32) (c_keptLong : Nat → Int64) (c_keptAt : Int32) (c_isTaking : Int32) (x3 : Int32) (x4 : Int32) (o3 : Int32) (H : Heap) (locs : List Loc) (ls : Array Slot), va_P (dC, dI) vwCl (mW dA ad c_tape c_taped c_tree c_bonds c_moves c_handMoves c_moved c_days c_likely c_outOf c_rateNow c_pence c_top c_bottom c_spot c_textLong c_fault c_number c_numberAt c_figures c_written c_wanted c_found c_drawnNow c_worth c_hold c_way c_acts c_sDay c_sUps c_sUp c_sMarks c_paidAll c_isPlayed c_isOn c_handMoved c_handPaid c_regret c_aside c_other c_states c_kept c_keptLong c_keptAt c_isTaking) H → va_D A (mW dA ad c_tape c_taped c_tree c_bonds c_moves c_handMoves c_moved c_days c_likely c_outOf c_rateNow c_pence c_top c_bottom c_spot c_textLong c_fault c_number c_numberAt c_figures c_written c_wanted c_found c_drawnNow c_worth c_hold c_way c_acts c_sDay c_sUps c_sUp c_sMarks c_paidAll c_isPlayed c_isOn c_handMoved c_handPaid c_regret c_aside c_other c_states c_kept c_keptLong c_keptAt c_isTaking) → va_S A s.heap H locs → lpX9_states_38 x2 c_way n x3 x4 = some (o3) → lv_has ls 5 [(0, .ref (ad 0)), (2, .int x2), (3, .int x3), (4, .int x4)] → (∀ (H : Heap) (locs : List Loc) (ls : Array Slot), va_P (dC, dI) vwCl (mW dA ad c_tape c_taped c_tree c_bonds c_moves c_handMoves c_moved c_days c_likely c_outOf c_rateNow c_pence c_top c_bottom c_spot c_textLong c_fault c_number c_numberAt c_figures c_written c_wanted c_found c_drawnNow c_worth c_hold c_way c_acts c_sDay c_sUps c_sUp c_sMarks c_paidAll c_isPlayed c_isOn c_handMoved c_handPaid c_regret c_aside c_other c_states c_kept c_keptLong c_keptAt c_isTaking) H → va_D A (mW dA ad c_tape c_taped c_tree c_bonds c_moves c_handMoves c_moved c_days c_likely c_outOf c_rateNow c_pence c_top c_bottom c_spot c_textLong c_fault c_number c_numberAt c_figures c_written c_wanted c_found c_drawnNow c_worth c_hold c_way c_acts c_sDay c_sUps c_sUp c_sMarks c_paidAll c_isPlayed c_isOn c_handMoved c_handPaid c_regret c_aside c_other c_states c_kept c_keptLong c_keptAt c_isTaking) → va_S A s.heap H locs → lv_has ls 5 [(3, .int o3)] → W p l e rmX9_states s m ([.ref (ad 0), .int p1, .int p2] : List Value).toArray below meth c H locs 0 0 Q (F0 m 76 ls [])) → W p l e rmX9_states s m ([.ref (ad 0), .int p1, .int p2] : List Value).toArray below meth c H locs 0 0 Q (F0 m 38 ls []) := by
    intro n
    induction n with
    | zero =>
      intro x2 c_way c_tape c_taped c_tree c_bonds c_moves c_handMoves c_moved c_days c_likely c_outOf c_rateNow c_pence c_top c_bottom c_spot c_textLong c_fault c_number c_numberAt c_figures c_written c_wanted c_found c_drawnNow c_worth c_hold c_acts c_sDay c_sUps c_sUp c_sMarks c_paidAll c_isPlayed c_isOn c_handMoved c_handPaid c_regret c_aside c_other c_states c_kept c_keptLong c_keptAt c_isTaking x3 x4 o3 H locs ls hP hD hS hf hl hk
      cases hf
    | succ n ih38 =>
      intro x2 c_way c_tape c_taped c_tree c_bonds c_moves c_handMoves c_moved c_days c_likely c_outOf c_rateNow c_pence c_top c_bottom c_spot c_textLong c_fault c_number c_numberAt c_figures c_written c_wanted c_found c_drawnNow c_worth c_hold c_acts c_sDay c_sUps c_sUp c_sMarks c_paidAll c_isPlayed c_isOn c_handMoved c_handPaid c_regret c_aside c_other c_states c_kept c_keptLong c_keptAt c_isTaking x3 x4 o3 H locs ls hP hD hS hf hl hk
      rw [lpX9_states_38.eq_2] at hf
      refine lv_iload hx hb dX9_states_38 (lv_at hl 3 rfl) ?_
      refine lv_bipush (v := 112) hx hb dX9_states_40 (by decide) ?_
      refine lv_iload_n hx hb dX9_states_42 rfl (lv_at hl 1 rfl) ?_
      refine lv_imul hx hb dX9_states_43 ?_
      refine lv_bipush (v := 112) hx hb dX9_states_44 (by decide) ?_
      refine lv_iadd hx hb dX9_states_46 ?_
      refine lv_icmp_ge (tgt := 76) hx hb dX9_states_47 (by decide) (fun k22 => ?_) (fun k22 => ?_)
      · replace hf := ifp k22 hf
        cases hf
        exact hk _ _ _ hP hD hS (lv_sub hl [2] rfl)
      · replace hf := ifn k22 hf
        refine lv_iload_n hx hb dX9_states_50 rfl (lv_at hl 2 rfl) ?_
        refine lv_aload_n hx hb dX9_states_51 rfl (lv_at hl 0 rfl) ?_
        refine va_get (D := (dC, dI)) (ci := 9) (v := .ref (ad 9)) (C := RX9) (T := TX9) (N := 45) hx hb hts (fun w h => gw_mem (inX9 w h)) hown hK.1 hP 0 rfl rfl 26 (by decide) (hts _ (gw_mem wfX9_36)) (fun _ h9 => h9) rfl dX9_states_52 ?_
        refine lv_iload hx hb dX9_states_55 (lv_at hl 3 rfl) ?_
        obtain ⟨h23, hf⟩ := og_some hf
        refine va_lald hx hb hK.1 hP 9 1 rfl rfl (okI_in h23) dX9_states_57 ?_
        refine lv_lconst (v := 0) hx hb dX9_states_58 rfl ?_
        refine W.lcmp hx hb dX9_states_59 ?_
        obtain ⟨j25, v27, hf⟩ := bd1_some hf
        have J26 : ∀ (H : Heap) (locs : List Loc) (ls : Array Slot), va_P (dC, dI) vwCl (mW dA ad c_tape c_taped c_tree c_bonds c_moves c_handMoves c_moved c_days c_likely c_outOf c_rateNow c_pence c_top c_bottom c_spot c_textLong c_fault c_number c_numberAt c_figures c_written c_wanted c_found c_drawnNow c_worth c_hold c_way c_acts c_sDay c_sUps c_sUp c_sMarks c_paidAll c_isPlayed c_isOn c_handMoved c_handPaid c_regret c_aside c_other c_states c_kept c_keptLong c_keptAt c_isTaking) H → va_D A (mW dA ad c_tape c_taped c_tree c_bonds c_moves c_handMoves c_moved c_days c_likely c_outOf c_rateNow c_pence c_top c_bottom c_spot c_textLong c_fault c_number c_numberAt c_figures c_written c_wanted c_found c_drawnNow c_worth c_hold c_way c_acts c_sDay c_sUps c_sUp c_sMarks c_paidAll c_isPlayed c_isOn c_handMoved c_handPaid c_regret c_aside c_other c_states c_kept c_keptLong c_keptAt c_isTaking) → va_S A s.heap H locs → lv_has ls 5 [(0, .ref (ad 0)), (2, .int x2), (4, .int x4)] → W p l e rmX9_states s m ([.ref (ad 0), .int p1, .int p2] : List Value).toArray below meth c H locs 0 0 Q (F0 m 68 ls [.int j25, .int x3]) := by
          intro H locs ls hP hD hS hl
          refine lv_iadd hx hb dX9_states_68 ?_
          refine lv_topi (fun w28 ew28 => ?_)
          replace hf := nm_at hf ew28
          refine lv_istore_n (lv' := [(3, .int w28), (0, .ref (ad 0)), (2, .int x2), (4, .int x4)]) hx hb dX9_states_69 rfl hl (by decide) rfl (fun ls hl => ?_)
          obtain ⟨w29, ew29⟩ : ∃ y : Int32, y = x4 + 1 := ⟨_, rfl⟩
          replace hf := nm_at hf ew29
          refine lv_iinc (v := w29) (lv' := [(4, .int w29), (3, .int w28), (0, .ref (ad 0)), (2, .int x2)]) hx hb dX9_states_70 hl (k := 3) rfl (by rw [ew29]; rfl) (by decide) rfl (fun ls hl => ?_)
          refine lv_goto (tgt := 38) hx hb dX9_states_73 (by decide) ?_
          exact ih38 _ _ _ _ _ _ _ _ _ _ _ _ _ _ _ _ _ _ _ _ _ _ _ _ _ _ _ _ _ _ _ _ _ _ _ _ _ _ _ _ _ _ _ _ _ _ _ _ _ _ _ _ hP hD hS hf (lv_sub hl [2, 3, 1, 0] rfl) hk
        replace hf := v27
        clear v27
        refine lv_if_le (tgt := 67) hx hb dX9_states_60 (by decide) (fun k24 => ?_) (fun k24 => ?_)
        · replace hf := ifp (lc_le.mp k24) hf
          refine lv_iconst (v := 0) hx hb dX9_states_67 (by decide) ?_
          cases hf
          exact J26 _ _ _ hP hD hS (lv_sub hl [0, 1, 3] rfl)
        · replace hf := ifn (fun h => k24 (lc_le.mpr h)) hf
          refine lv_iconst (v := 1) hx hb dX9_states_63 (by decide) ?_
          refine lv_goto (tgt := 68) hx hb dX9_states_64 (by decide) ?_
          cases hf
          exact J26 _ _ _ hP hD hS (lv_sub hl [0, 1, 3] rfl)
  subst hQ
  unfold fX9_states at hf
  refine lv_iload_n hx hb dX9_states_0 rfl (lv_at hl 1 rfl) ?_
  obtain ⟨r1, v2, hf⟩ := bd1_some hf
  refine gci0 (va_runS (As := [.int p1]) (rest := []) ⟨hx, hb, hml, hown, hts⟩ (tX9_isBond l dC dI dA s.heap.size v2) (ccX9_X9_isBond hts ⟨Nat.le_of_ble_eq_true rfl, Nat.le_of_ble_eq_true rfl⟩) (gPreS0 hK) rfl rfl hl.1 rfl (lv_room (Nat.le_of_ble_eq_true rfl)) dX9_states_1 ⟨Nat.le_of_ble_eq_true rfl, Nat.le_of_ble_eq_true rfl⟩) hP hS hA (fun H locs hP hS => ?_)
  refine lv_if_eq (tgt := 23) hx hb dX9_states_4 (by decide) (fun k3 => ?_) (fun k3 => ?_)
  · replace hf := ifp k3 hf
    refine lv_iconst (v := (-1)) hx hb dX9_states_23 (by decide) ?_
    cases hf
    exact W.iret hx hb hr (fun t ht _ => gqi hP hD hS ht) hS.2.2 dX9_states_24
  · replace hf := ifn k3 hf
    refine lv_iload_n hx hb dX9_states_7 rfl (lv_at hl 2 rfl) ?_
    refine lv_i2l hx hb dX9_states_8 rfl ?_
    refine lv_lconst (v := 0) hx hb dX9_states_9 rfl ?_
    refine lv_aload_n hx hb dX9_states_10 rfl (lv_at hl 0 rfl) ?_
    refine va_get (D := (dC, dI)) (ci := 9) (v := .ref (ad 2)) (C := RX9) (T := TX9) (N := 45) hx hb hts (fun w h => gw_mem (inX9 w h)) hown hK.1 hP 0 rfl rfl 2 (by decide) (hts _ (gw_mem wfX9_13)) (fun _ h9 => h9) rfl dX9_states_11 ?_
    refine lv_iconst (v := 0) hx hb dX9_states_14 (by decide) ?_
    refine va_iald hx hb hK.1 hP 2 0 rfl rfl (okI_in (by decide)) dX9_states_15 ?_
    refine lv_i2l hx hb dX9_states_16 rfl ?_
    obtain ⟨r4, v5, hf⟩ := bd1_some hf
    refine gci0 (va_runS (As := [.long (Int32.toInt64 p2), .long 0, .long (Int32.toInt64 (c_tree (Int32.toNatClampNeg 0)))]) (rest := []) ⟨hx, hb, hml, hown, hts⟩ (tX9_in l dC dI dA H.size v5) (ccX9_X9_in hts ⟨Nat.le_of_ble_eq_true rfl, Nat.le_of_ble_eq_true rfl⟩) (gPreS0 hK) rfl rfl hl.1 rfl (lv_room (Nat.le_of_ble_eq_true rfl)) dX9_states_17 ⟨Nat.le_of_ble_eq_true rfl, Nat.le_of_ble_eq_true rfl⟩) hP hS hA (fun H locs hP hS => ?_)
    refine lv_if_ne (tgt := 25) hx hb dX9_states_20 (by decide) (fun k6 => ?_) (fun k6 => ?_)
    · replace hf := ifn k6 hf
      refine lv_aload_n hx hb dX9_states_25 rfl (lv_at hl 0 rfl) ?_
      refine lv_iload_n hx hb dX9_states_26 rfl (lv_at hl 1 rfl) ?_
      obtain ⟨c_days_7, c_likely_8, c_outOf_9, c_rateNow_10, c_pence_11, c_top_12, c_bottom_13, c_worth_14, c_hold_15, c_way_16, c_acts_17, v18, hf⟩ := bd11_some hf
      refine gcv (va_runV (As := [.int p1]) (rest := []) ⟨hx, hb, hml, hown, hts⟩ (tX9_laysAll l dC dI dA ad H.size v18) (ccX9_X9_laysAll hts ⟨Nat.le_of_ble_eq_true rfl, Nat.le_of_ble_eq_true rfl⟩) (gPreV (ci := 9) (q0 := 0) hP hK hD rfl rfl) rfl rfl hl.1 rfl (lv_room (Nat.le_of_ble_eq_true rfl)) dX9_states_27 ⟨Nat.le_of_ble_eq_true rfl, Nat.le_of_ble_eq_true rfl⟩) hD hS hA (fun H locs hP hD hS => ?_)
      refine lv_iconst (v := 0) hx hb dX9_states_30 (by decide) ?_
      refine lv_istore_n (lv' := [(3, .int 0), (0, .ref (ad 0)), (1, .int p1), (2, .int p2)]) hx hb dX9_states_31 rfl hl (by decide) rfl (fun ls hl => ?_)
      refine lv_bipush (v := 112) hx hb dX9_states_32 (by decide) ?_
      refine lv_iload_n hx hb dX9_states_34 rfl (lv_at hl 3 rfl) ?_
      refine lv_imul hx hb dX9_states_35 ?_
      refine lv_topi (fun w19 ew19 => ?_)
      replace hf := nm_at hf ew19
      refine lv_istore (lv' := [(4, .int w19), (3, .int 0), (0, .ref (ad 0)), (1, .int p1), (2, .int p2)]) hx hb dX9_states_36 hl (by decide) rfl (fun ls hl => ?_)
      obtain ⟨x20, v21, hf⟩ := bd1_some hf
      refine LP38 FU _ _ _ _ _ _ _ _ _ _ _ _ _ _ _ _ _ _ _ _ _ _ _ _ _ _ _ _ _ _ _ _ _ _ _ _ _ _ _ _ _ _ _ _ _ _ _ _ _ _ _ _ hP hD hS v21 (lv_sub hl [2, 4, 1, 0] rfl) (fun H locs ls hP hD hS hl => ?_)
      refine lv_iload_n hx hb dX9_states_76 rfl (lv_at hl 0 rfl) ?_
      cases hf
      exact W.iret hx hb hr (fun t ht _ => gqi hP hD hS ht) hS.2.2 dX9_states_77
    · replace hf := ifp k6 hf
      refine lv_iconst (v := (-1)) hx hb dX9_states_23 (by decide) ?_
      cases hf
      exact W.iret hx hb hr (fun t ht _ => gqi hP hD hS ht) hS.2.2 dX9_states_24
abbrev rmX9_first : Room := { frames := 8, cells := 0, slots := 0, locals := 205 }
set_option maxHeartbeats 4000000 in
set_option maxRecDepth 100000 in
theorem tX9_first (l : Launch) (dC : Nat → ClassId) (dI : Nat → Nat → Nat) (dA : Nat → ClassId) (ad : Nat → Nat) (sz : Nat) {p1 : Int32} {p2 : Int32} {p3 : Int32} {c_tape : Nat → Int32} {c_taped : Int32} {c_tree : Nat → Int32} {c_bonds : Nat → Int32} {c_moves : Nat → Int32} {c_handMoves : Nat → Int32} {c_moved : Int32} {c_days : Int32} {c_likely : Int32} {c_outOf : Int32} {c_rateNow : Int32} {c_pence : Nat → Int64} {c_top : Int64} {c_bottom : Int64} {c_spot : Int32} {c_textLong : Int32} {c_fault : Int32} {c_number : Int32} {c_numberAt : Int32} {c_figures : Int32} {c_written : Int32} {c_wanted : Int32} {c_found : Int32} {c_drawnNow : Int32} {c_worth : Nat → Int64} {c_hold : Nat → Int64} {c_way : Nat → Int64} {c_acts : Nat → Int32} {c_sDay : Int32} {c_sUps : Int32} {c_sUp : Int32} {c_sMarks : Int32} {c_paidAll : Int64} {c_isPlayed : Int32} {c_isOn : Int32} {c_handMoved : Int32} {c_handPaid : Int64} {c_regret : Int64} {c_aside : Nat → Int32} {c_other : Nat → Int64} {c_states : Int32} {c_kept : Nat → Int32} {c_keptLong : Nat → Int64} {c_keptAt : Int32} {c_isTaking : Int32} {r : Int32} {o_c_days : Int32} {o_c_likely : Int32} {o_c_outOf : Int32} {o_c_rateNow : Int32} {o_c_pence : Nat → Int64} {o_c_top : Int64} {o_c_bottom : Int64} {o_c_worth : Nat → Int64} {o_c_hold : Nat → Int64} {o_c_way : Nat → Int64} {o_c_acts : Nat → Int32} (hf : fX9_first p1 p2 p3 c_tree c_bonds c_days c_likely c_outOf c_rateNow c_pence c_top c_bottom c_worth c_hold c_way c_acts = some (r, o_c_days, o_c_likely, o_c_outOf, o_c_rateNow, o_c_pence, o_c_top, o_c_bottom, o_c_worth, o_c_hold, o_c_way, o_c_acts)) : Met l yX9_first (wq (Cond.code yX9_first cX9_first 6 (some .int))) rmX9_first (gP [.ref (ad 0), .int p1, .int p2, .int p3] (dC, dI) dA (mW dA ad c_tape c_taped c_tree c_bonds c_moves c_handMoves c_moved c_days c_likely c_outOf c_rateNow c_pence c_top c_bottom c_spot c_textLong c_fault c_number c_numberAt c_figures c_written c_wanted c_found c_drawnNow c_worth c_hold c_way c_acts c_sDay c_sUps c_sUp c_sMarks c_paidAll c_isPlayed c_isOn c_handMoved c_handPaid c_regret c_aside c_other c_states c_kept c_keptLong c_keptAt c_isTaking) sz) (gQi (dC, dI) r (mW dA ad c_tape c_taped c_tree c_bonds c_moves c_handMoves c_moved o_c_days o_c_likely o_c_outOf o_c_rateNow o_c_pence o_c_top o_c_bottom c_spot c_textLong c_fault c_number c_numberAt c_figures c_written c_wanted c_found c_drawnNow o_c_worth o_c_hold o_c_way o_c_acts c_sDay c_sUps c_sUp c_sMarks c_paidAll c_isPlayed c_isOn c_handMoved c_handPaid c_regret c_aside c_other c_states c_kept c_keptLong c_keptAt c_isTaking) (va_A (mW dA ad c_tape c_taped c_tree c_bonds c_moves c_handMoves c_moved c_days c_likely c_outOf c_rateNow c_pence c_top c_bottom c_spot c_textLong c_fault c_number c_numberAt c_figures c_written c_wanted c_found c_drawnNow c_worth c_hold c_way c_acts c_sDay c_sUps c_sUp c_sMarks c_paidAll c_isPlayed c_isOn c_handMoved c_handPaid c_regret c_aside c_other c_states c_kept c_keptLong c_keptAt c_isTaking) sz)) 0 0 (va_A (mW dA ad c_tape c_taped c_tree c_bonds c_moves c_handMoves c_moved c_days c_likely c_outOf c_rateNow c_pence c_top c_bottom c_spot c_textLong c_fault c_number c_numberAt c_figures c_written c_wanted c_found c_drawnNow c_worth c_hold c_way c_acts c_sDay c_sUps c_sUp c_sMarks c_paidAll c_isPlayed c_isOn c_handMoved c_handPaid c_regret c_aside c_other c_states c_kept c_keptLong c_keptAt c_isTaking) sz) := by
  refine Met.ofW (cc := cX9_first) (maxL := 6) (ret := (some .int)) (by decide) rfl ?_
  intro p e s m args below meth c s₁ B hml hv
  obtain ⟨rfl, hsz, hP, hK, hD0⟩ := hv
  have hx := B.exec
  have hb := B.bytes
  have hr := B.returns
  have hts := atoms_spec (ws := wq (Cond.code yX9_first cX9_first 6 (some .int))) B.pre
  have hown : s.vm.findClass RX9 = some m.cls := findClass_of_methodNamed B.named
  have hlocks := B.notSynchronized
  clear B
  subst hsz
  have hD := hD0.self (sz := s.heap.size)
  generalize hAe : va_A (mW dA ad c_tape c_taped c_tree c_bonds c_moves c_handMoves c_moved c_days c_likely c_outOf c_rateNow c_pence c_top c_bottom c_spot c_textLong c_fault c_number c_numberAt c_figures c_written c_wanted c_found c_drawnNow c_worth c_hold c_way c_acts c_sDay c_sUps c_sUp c_sMarks c_paidAll c_isPlayed c_isOn c_handMoved c_handPaid c_regret c_aside c_other c_states c_kept c_keptLong c_keptAt c_isTaking) s.heap.size = A at hD ⊢
  have hA : ∀ q : Nat, s.heap.size ≤ q → A q := fun q h => by rw [← hAe]; exact Or.inr h
  clear hAe hD0
  have hS : va_S A s.heap s.heap [] := va_S.rf
  have hl := lv_entry ([.ref (ad 0), .int p1, .int p2, .int p3]) (n := 6) (Nat.le_of_ble_eq_true rfl)
  rw [lg_entry_eq]
  generalize (lg_sl ([.ref (ad 0), .int p1, .int p2, .int p3]) ++ List.replicate (6 - (lg_sl ([.ref (ad 0), .int p1, .int p2, .int p3])).length) Slot.unset).toArray = ls at hl ⊢
  have hl : lv_has ls 6 [(0, .ref (ad 0)), (1, .int p1), (2, .int p2), (3, .int p3)] := hl
  change W p l e rmX9_first s m ([.ref (ad 0), .int p1, .int p2, .int p3] : List Value).toArray below meth c s.heap [] 0 0 _ _
  generalize hQ : MQ below (gQi (dC, dI) r (mW dA ad c_tape c_taped c_tree c_bonds c_moves c_handMoves c_moved o_c_days o_c_likely o_c_outOf o_c_rateNow o_c_pence o_c_top o_c_bottom c_spot c_textLong c_fault c_number c_numberAt c_figures c_written c_wanted c_found c_drawnNow o_c_worth o_c_hold o_c_way o_c_acts c_sDay c_sUps c_sUp c_sMarks c_paidAll c_isPlayed c_isOn c_handMoved c_handPaid c_regret c_aside c_other c_states c_kept c_keptLong c_keptAt c_isTaking) A) ([.ref (ad 0), .int p1, .int p2, .int p3] : List Value).toArray s 0 0 A = Q
  have LP36 : ∀ (n : Nat) (x2 : Int32) (x3 : Int32) (c_way : Nat → Int64) (c_acts : Nat → Int32) (c_tape : Nat → Int32) (c_taped : Int32) (c_tree : Nat → Int32) (c_bonds : Nat → Int32) (c_moves : Nat → Int32) (c_handMoves : Nat → Int32) (c_moved : Int32) (c_days : Int32) (c_likely : Int32) (c_outOf : Int32) (c_rateNow : Int32) (c_pence : Nat → Int64) (c_top : Int64) (c_bottom : Int64) (c_spot : Int32) (c_textLong : Int32) (c_fault : Int32) (c_number : Int32) (c_numberAt : Int32) (c_figures : Int32) (c_written : Int32) (c_wanted : Int32) (c_found : Int32) (c_drawnNow : Int32) (c_worth : Nat → Int64) (c_hold : Nat → Int64) (c_sDay : Int32) (c_sUps : Int32) (c_sUp : Int32) (c_sMarks : Int32) (c_paidAll : Int64) (c_isPlayed : Int32) (c_isOn : Int32) (c_handMoved : Int32) (c_handPaid : Int64) (c_regret : Int64) (c_aside : Nat → Int32) (c_other : Nat → Int64) (c_states : Int32) (c_kept : Nat → Int32) (c_keptLong : Nat → Int64) (c_keptAt : Int32) (c_isTaking : Int32) (x4 : Int32) (tgo : Nat) (o4 : Int32) (H : Heap) (locs : List Loc) (ls : Array Slot), va_P (dC, dI) vwCl (mW dA ad c_tape c_taped c_tree c_bonds c_moves c_handMoves c_moved c_days c_likely c_outOf c_rateNow c_pence c_top c_bottom c_spot c_textLong c_fault c_number c_numberAt c_figures c_written c_wanted c_found c_drawnNow c_worth c_hold c_way c_acts c_sDay c_sUps c_sUp c_sMarks c_paidAll c_isPlayed c_isOn c_handMoved c_handPaid c_regret c_aside c_other c_states c_kept c_keptLong c_keptAt c_isTaking) H → va_D A (mW dA ad c_tape c_taped c_tree c_bonds c_moves c_handMoves c_moved c_days c_likely c_outOf c_rateNow c_pence c_top c_bottom c_spot c_textLong c_fault c_number c_numberAt c_figures c_written c_wanted c_found c_drawnNow c_worth c_hold c_way c_acts c_sDay c_sUps c_sUp c_sMarks c_paidAll c_isPlayed c_isOn c_handMoved c_handPaid c_regret c_aside c_other c_states c_kept c_keptLong c_keptAt c_isTaking) → va_S A s.heap H locs → lpX9_first_36 x2 x3 c_way c_acts n x4 = some (tgo, o4) → lv_has ls 6 [(0, .ref (ad 0)), (2, .int x2), (3, .int x3), (4, .int x4)] → (tgo = 0 → ∀ (H : Heap) (locs : List Loc) (ls : Array Slot), va_P (dC, dI) vwCl (mW dA ad c_tape c_taped c_tree c_bonds c_moves c_handMoves c_moved c_days c_likely c_outOf c_rateNow c_pence c_top c_bottom c_spot c_textLong c_fault c_number c_numberAt c_figures c_written c_wanted c_found c_drawnNow c_worth c_hold c_way c_acts c_sDay c_sUps c_sUp c_sMarks c_paidAll c_isPlayed c_isOn c_handMoved c_handPaid c_regret c_aside c_other c_states c_kept c_keptLong c_keptAt c_isTaking) H → va_D A (mW dA ad c_tape c_taped c_tree c_bonds c_moves c_handMoves c_moved c_days c_likely c_outOf c_rateNow c_pence c_top c_bottom c_spot c_textLong c_fault c_number c_numberAt c_figures c_written c_wanted c_found c_drawnNow c_worth c_hold c_way c_acts c_sDay c_sUps c_sUp c_sMarks c_paidAll c_isPlayed c_isOn c_handMoved c_handPaid c_regret c_aside c_other c_states c_kept c_keptLong c_keptAt c_isTaking) → va_S A s.heap H locs → lv_has ls 6 [(4, .int o4)] → W p l e rmX9_first s m ([.ref (ad 0), .int p1, .int p2, .int p3] : List Value).toArray below meth c H locs 0 0 Q (F0 m 122 ls [])) → (tgo = 1 → ∀ (H : Heap) (locs : List Loc) (ls : Array Slot), va_P (dC, dI) vwCl (mW dA ad c_tape c_taped c_tree c_bonds c_moves c_handMoves c_moved c_days c_likely c_outOf c_rateNow c_pence c_top c_bottom c_spot c_textLong c_fault c_number c_numberAt c_figures c_written c_wanted c_found c_drawnNow c_worth c_hold c_way c_acts c_sDay c_sUps c_sUp c_sMarks c_paidAll c_isPlayed c_isOn c_handMoved c_handPaid c_regret c_aside c_other c_states c_kept c_keptLong c_keptAt c_isTaking) H → va_D A (mW dA ad c_tape c_taped c_tree c_bonds c_moves c_handMoves c_moved c_days c_likely c_outOf c_rateNow c_pence c_top c_bottom c_spot c_textLong c_fault c_number c_numberAt c_figures c_written c_wanted c_found c_drawnNow c_worth c_hold c_way c_acts c_sDay c_sUps c_sUp c_sMarks c_paidAll c_isPlayed c_isOn c_handMoved c_handPaid c_regret c_aside c_other c_states c_kept c_keptLong c_keptAt c_isTaking) → va_S A s.heap H locs → lv_has ls 6 [] → W p l e rmX9_first s m ([.ref (ad 0), .int p1, .int p2, .int p3] : List Value).toArray below meth c H locs 0 0 Q (F0 m 137 ls [])) → W p l e rmX9_first s m ([.ref (ad 0), .int p1, .int p2, .int p3] : List Value).toArray below meth c H locs 0 0 Q (F0 m 36 ls []) := by
    intro n
    induction n with
    | zero =>
      intro x2 x3 c_way c_acts c_tape c_taped c_tree c_bonds c_moves c_handMoves c_moved c_days c_likely c_outOf c_rateNow c_pence c_top c_bottom c_spot c_textLong c_fault c_number c_numberAt c_figures c_written c_wanted c_found c_drawnNow c_worth c_hold c_sDay c_sUps c_sUp c_sMarks c_paidAll c_isPlayed c_isOn c_handMoved c_handPaid c_regret c_aside c_other c_states c_kept c_keptLong c_keptAt c_isTaking x4 tgo o4 H locs ls hP hD hS hf hl hk0 hk1
      cases hf
    | succ n ih36 =>
      intro x2 x3 c_way c_acts c_tape c_taped c_tree c_bonds c_moves c_handMoves c_moved c_days c_likely c_outOf c_rateNow c_pence c_top c_bottom c_spot c_textLong c_fault c_number c_numberAt c_figures c_written c_wanted c_found c_drawnNow c_worth c_hold c_sDay c_sUps c_sUp c_sMarks c_paidAll c_isPlayed c_isOn c_handMoved c_handPaid c_regret c_aside c_other c_states c_kept c_keptLong c_keptAt c_isTaking x4 tgo o4 H locs ls hP hD hS hf hl hk0 hk1
      rw [lpX9_first_36.eq_2] at hf
      refine lv_iload hx hb dX9_first_36 (lv_at hl 3 rfl) ?_
      refine lv_bipush (v := 112) hx hb dX9_first_38 (by decide) ?_
      refine lv_iload_n hx hb dX9_first_40 rfl (lv_at hl 1 rfl) ?_
      refine lv_imul hx hb dX9_first_41 ?_
      refine lv_bipush (v := 112) hx hb dX9_first_42 (by decide) ?_
      refine lv_iadd hx hb dX9_first_44 ?_
      refine lv_icmp_ge (tgt := 137) hx hb dX9_first_45 (by decide) (fun k23 => ?_) (fun k23 => ?_)
      · replace hf := ifp k23 hf
        cases hf
        exact hk1 rfl _ _ _ hP hD hS (lv_sub hl [] rfl)
      · replace hf := ifn k23 hf
        refine lv_aload_n hx hb dX9_first_48 rfl (lv_at hl 0 rfl) ?_
        refine va_get (D := (dC, dI)) (ci := 9) (v := .ref (ad 9)) (C := RX9) (T := TX9) (N := 45) hx hb hts (fun w h => gw_mem (inX9 w h)) hown hK.1 hP 0 rfl rfl 26 (by decide) (hts _ (gw_mem wfX9_36)) (fun _ h9 => h9) rfl dX9_first_49 ?_
        refine lv_iload hx hb dX9_first_52 (lv_at hl 3 rfl) ?_
        obtain ⟨h24, hf⟩ := og_some hf
        refine va_lald hx hb hK.1 hP 9 1 rfl rfl (okI_in h24) dX9_first_54 ?_
        refine lv_lconst (v := 0) hx hb dX9_first_55 rfl ?_
        refine W.lcmp hx hb dX9_first_56 ?_
        refine lv_if_ne (tgt := 63) hx hb dX9_first_57 (by decide) (fun k25 => ?_) (fun k25 => ?_)
        · replace hf := ifn (fun h => k25 (lc_eq.mpr h)) hf
          refine lv_iload_n hx hb dX9_first_63 rfl (lv_at hl 2 rfl) ?_
          obtain ⟨j27, v29, hf⟩ := bd1_some hf
          have J28 : ∀ (H : Heap) (locs : List Loc) (ls : Array Slot), va_P (dC, dI) vwCl (mW dA ad c_tape c_taped c_tree c_bonds c_moves c_handMoves c_moved c_days c_likely c_outOf c_rateNow c_pence c_top c_bottom c_spot c_textLong c_fault c_number c_numberAt c_figures c_written c_wanted c_found c_drawnNow c_worth c_hold c_way c_acts c_sDay c_sUps c_sUp c_sMarks c_paidAll c_isPlayed c_isOn c_handMoved c_handPaid c_regret c_aside c_other c_states c_kept c_keptLong c_keptAt c_isTaking) H → va_D A (mW dA ad c_tape c_taped c_tree c_bonds c_moves c_handMoves c_moved c_days c_likely c_outOf c_rateNow c_pence c_top c_bottom c_spot c_textLong c_fault c_number c_numberAt c_figures c_written c_wanted c_found c_drawnNow c_worth c_hold c_way c_acts c_sDay c_sUps c_sUp c_sMarks c_paidAll c_isPlayed c_isOn c_handMoved c_handPaid c_regret c_aside c_other c_states c_kept c_keptLong c_keptAt c_isTaking) → va_S A s.heap H locs → lv_has ls 6 [(0, .ref (ad 0)), (2, .int x2), (3, .int x3), (4, .int x4)] → W p l e rmX9_first s m ([.ref (ad 0), .int p1, .int p2, .int p3] : List Value).toArray below meth c H locs 0 0 Q (F0 m 115 ls [.int j27]) := by
            intro H locs ls hP hD hS hl
            refine lv_istore (lv' := [(5, .int j27), (0, .ref (ad 0)), (2, .int x2), (3, .int x3), (4, .int x4)]) hx hb dX9_first_115 hl (by decide) rfl (fun ls hl => ?_)
            refine lv_iload hx hb dX9_first_117 (lv_at hl 0 rfl) ?_
            refine lv_if_eq (tgt := 131) hx hb dX9_first_119 (by decide) (fun k30 => ?_) (fun k30 => ?_)
            · replace hf := ifp k30 hf
              obtain ⟨w31, ew31⟩ : ∃ y : Int32, y = x4 + 1 := ⟨_, rfl⟩
              replace hf := nm_at hf ew31
              refine lv_iinc (v := w31) (lv' := [(4, .int w31), (5, .int j27), (0, .ref (ad 0)), (2, .int x2), (3, .int x3)]) hx hb dX9_first_131 hl (k := 4) rfl (by rw [ew31]; rfl) (by decide) rfl (fun ls hl => ?_)
              refine lv_goto (tgt := 36) hx hb dX9_first_134 (by decide) ?_
              exact ih36 _ _ _ _ _ _ _ _ _ _ _ _ _ _ _ _ _ _ _ _ _ _ _ _ _ _ _ _ _ _ _ _ _ _ _ _ _ _ _ _ _ _ _ _ _ _ _ _ _ _ _ _ _ hP hD hS hf (lv_sub hl [2, 3, 4, 0] rfl) hk0 hk1
            · replace hf := ifn k30 hf
              cases hf
              exact hk0 rfl _ _ _ hP hD hS (lv_sub hl [4] rfl)
          replace hf := v29
          clear v29
          refine lv_if_eq (tgt := 87) hx hb dX9_first_64 (by decide) (fun k26 => ?_) (fun k26 => ?_)
          · replace hf := ifp k26 hf
            refine lv_aload_n hx hb dX9_first_87 rfl (lv_at hl 0 rfl) ?_
            refine va_get (D := (dC, dI)) (ci := 9) (v := .ref (ad 10)) (C := RX9) (T := TX9) (N := 45) hx hb hts (fun w h => gw_mem (inX9 w h)) hown hK.1 hP 0 rfl rfl 27 (by decide) (hts _ (gw_mem wfX9_39)) (fun _ h9 => h9) rfl dX9_first_88 ?_
            refine lv_iload hx hb dX9_first_91 (lv_at hl 3 rfl) ?_
            obtain ⟨h32, hf⟩ := og_some hf
            refine va_iald hx hb hK.1 hP 10 0 rfl rfl (okI_in h32) dX9_first_93 ?_
            refine lv_iconst (v := 2) hx hb dX9_first_94 (by decide) ?_
            refine lv_icmp_eq (tgt := 110) hx hb dX9_first_95 (by decide) (fun k33 => ?_) (fun k33 => ?_)
            · replace hf := ifp k33 hf
              refine lv_iconst (v := 1) hx hb dX9_first_110 (by decide) ?_
              refine lv_goto (tgt := 115) hx hb dX9_first_111 (by decide) ?_
              cases hf
              exact J28 _ _ _ hP hD hS (lv_sub hl [0, 1, 2, 3] rfl)
            · replace hf := ifn k33 hf
              refine lv_aload_n hx hb dX9_first_98 rfl (lv_at hl 0 rfl) ?_
              refine va_get (D := (dC, dI)) (ci := 9) (v := .ref (ad 10)) (C := RX9) (T := TX9) (N := 45) hx hb hts (fun w h => gw_mem (inX9 w h)) hown hK.1 hP 0 rfl rfl 27 (by decide) (hts _ (gw_mem wfX9_39)) (fun _ h9 => h9) rfl dX9_first_99 ?_
              refine lv_iload hx hb dX9_first_102 (lv_at hl 3 rfl) ?_
              obtain ⟨h34, hf⟩ := og_some hf
              refine va_iald hx hb hK.1 hP 10 0 rfl rfl (okI_in h34) dX9_first_104 ?_
              refine lv_bipush (v := 6) hx hb dX9_first_105 (by decide) ?_
              refine lv_icmp_ne (tgt := 114) hx hb dX9_first_107 (by decide) (fun k35 => ?_) (fun k35 => ?_)
              · replace hf := ifn k35 hf
                refine lv_iconst (v := 0) hx hb dX9_first_114 (by decide) ?_
                cases hf
                exact J28 _ _ _ hP hD hS (lv_sub hl [0, 1, 2, 3] rfl)
              · replace hf := ifp k35 hf
                refine lv_iconst (v := 1) hx hb dX9_first_110 (by decide) ?_
                refine lv_goto (tgt := 115) hx hb dX9_first_111 (by decide) ?_
                cases hf
                exact J28 _ _ _ hP hD hS (lv_sub hl [0, 1, 2, 3] rfl)
          · replace hf := ifn k26 hf
            refine lv_aload_n hx hb dX9_first_67 rfl (lv_at hl 0 rfl) ?_
            refine va_get (D := (dC, dI)) (ci := 9) (v := .ref (ad 10)) (C := RX9) (T := TX9) (N := 45) hx hb hts (fun w h => gw_mem (inX9 w h)) hown hK.1 hP 0 rfl rfl 27 (by decide) (hts _ (gw_mem wfX9_39)) (fun _ h9 => h9) rfl dX9_first_68 ?_
            refine lv_iload hx hb dX9_first_71 (lv_at hl 3 rfl) ?_
            obtain ⟨h36, hf⟩ := og_some hf
            refine va_iald hx hb hK.1 hP 10 0 rfl rfl (okI_in h36) dX9_first_73 ?_
            refine lv_i2l hx hb dX9_first_74 rfl ?_
            refine lv_ldc2 (v := 3) hx hb hown (hts _ (gw_mem wkX9_142)) dX9_first_75 ?_
            refine lv_ldc2 (v := 4) hx hb hown (hts _ (gw_mem wkX9_147)) dX9_first_78 ?_
            obtain ⟨r37, v38, hf⟩ := bd1_some hf
            refine gci0 (va_runS (As := [.long (Int32.toInt64 (c_acts (Int32.toNatClampNeg x4))), .long 3, .long 4]) (rest := []) ⟨hx, hb, hml, hown, hts⟩ (tX9_in l dC dI dA H.size v38) (ccX9_X9_in hts ⟨Nat.le_of_ble_eq_true rfl, Nat.le_of_ble_eq_true rfl⟩) (gPreS0 hK) rfl rfl hl.1 rfl (lv_room (Nat.le_of_ble_eq_true rfl)) dX9_first_81 ⟨Nat.le_of_ble_eq_true rfl, Nat.le_of_ble_eq_true rfl⟩) hP hS hA (fun H locs hP hS => ?_)
            refine lv_goto (tgt := 115) hx hb dX9_first_84 (by decide) ?_
            cases hf
            exact J28 _ _ _ hP hD hS (lv_sub hl [0, 1, 2, 3] rfl)
        · replace hf := ifp (lc_eq.mp k25) hf
          refine lv_goto (tgt := 131) hx hb dX9_first_60 (by decide) ?_
          obtain ⟨w39, ew39⟩ : ∃ y : Int32, y = x4 + 1 := ⟨_, rfl⟩
          replace hf := nm_at hf ew39
          refine lv_iinc (v := w39) (lv' := [(4, .int w39), (0, .ref (ad 0)), (2, .int x2), (3, .int x3)]) hx hb dX9_first_131 hl (k := 3) rfl (by rw [ew39]; rfl) (by decide) rfl (fun ls hl => ?_)
          refine lv_goto (tgt := 36) hx hb dX9_first_134 (by decide) ?_
          exact ih36 _ _ _ _ _ _ _ _ _ _ _ _ _ _ _ _ _ _ _ _ _ _ _ _ _ _ _ _ _ _ _ _ _ _ _ _ _ _ _ _ _ _ _ _ _ _ _ _ _ _ _ _ _ hP hD hS hf (lv_sub hl [1, 2, 3, 0] rfl) hk0 hk1
  subst hQ
  unfold fX9_first at hf
  refine lv_iload_n hx hb dX9_first_0 rfl (lv_at hl 1 rfl) ?_
  obtain ⟨r1, v2, hf⟩ := bd1_some hf
  refine gci0 (va_runS (As := [.int p1]) (rest := []) ⟨hx, hb, hml, hown, hts⟩ (tX9_isBond l dC dI dA s.heap.size v2) (ccX9_X9_isBond hts ⟨Nat.le_of_ble_eq_true rfl, Nat.le_of_ble_eq_true rfl⟩) (gPreS0 hK) rfl rfl hl.1 rfl (lv_room (Nat.le_of_ble_eq_true rfl)) dX9_first_1 ⟨Nat.le_of_ble_eq_true rfl, Nat.le_of_ble_eq_true rfl⟩) hP hS hA (fun H locs hP hS => ?_)
  refine lv_if_eq (tgt := 23) hx hb dX9_first_4 (by decide) (fun k3 => ?_) (fun k3 => ?_)
  · replace hf := ifp k3 hf
    refine lv_iconst (v := (-1)) hx hb dX9_first_23 (by decide) ?_
    cases hf
    exact W.iret hx hb hr (fun t ht _ => gqi hP hD hS ht) hS.2.2 dX9_first_24
  · replace hf := ifn k3 hf
    refine lv_iload_n hx hb dX9_first_7 rfl (lv_at hl 2 rfl) ?_
    refine lv_i2l hx hb dX9_first_8 rfl ?_
    refine lv_lconst (v := 0) hx hb dX9_first_9 rfl ?_
    refine lv_aload_n hx hb dX9_first_10 rfl (lv_at hl 0 rfl) ?_
    refine va_get (D := (dC, dI)) (ci := 9) (v := .ref (ad 2)) (C := RX9) (T := TX9) (N := 45) hx hb hts (fun w h => gw_mem (inX9 w h)) hown hK.1 hP 0 rfl rfl 2 (by decide) (hts _ (gw_mem wfX9_13)) (fun _ h9 => h9) rfl dX9_first_11 ?_
    refine lv_iconst (v := 0) hx hb dX9_first_14 (by decide) ?_
    refine va_iald hx hb hK.1 hP 2 0 rfl rfl (okI_in (by decide)) dX9_first_15 ?_
    refine lv_i2l hx hb dX9_first_16 rfl ?_
    obtain ⟨r4, v5, hf⟩ := bd1_some hf
    refine gci0 (va_runS (As := [.long (Int32.toInt64 p2), .long 0, .long (Int32.toInt64 (c_tree (Int32.toNatClampNeg 0)))]) (rest := []) ⟨hx, hb, hml, hown, hts⟩ (tX9_in l dC dI dA H.size v5) (ccX9_X9_in hts ⟨Nat.le_of_ble_eq_true rfl, Nat.le_of_ble_eq_true rfl⟩) (gPreS0 hK) rfl rfl hl.1 rfl (lv_room (Nat.le_of_ble_eq_true rfl)) dX9_first_17 ⟨Nat.le_of_ble_eq_true rfl, Nat.le_of_ble_eq_true rfl⟩) hP hS hA (fun H locs hP hS => ?_)
    refine lv_if_ne (tgt := 25) hx hb dX9_first_20 (by decide) (fun k6 => ?_) (fun k6 => ?_)
    · replace hf := ifn k6 hf
      refine lv_aload_n hx hb dX9_first_25 rfl (lv_at hl 0 rfl) ?_
      refine lv_iload_n hx hb dX9_first_26 rfl (lv_at hl 1 rfl) ?_
      obtain ⟨c_days_7, c_likely_8, c_outOf_9, c_rateNow_10, c_pence_11, c_top_12, c_bottom_13, c_worth_14, c_hold_15, c_way_16, c_acts_17, v18, hf⟩ := bd11_some hf
      refine gcv (va_runV (As := [.int p1]) (rest := []) ⟨hx, hb, hml, hown, hts⟩ (tX9_laysAll l dC dI dA ad H.size v18) (ccX9_X9_laysAll hts ⟨Nat.le_of_ble_eq_true rfl, Nat.le_of_ble_eq_true rfl⟩) (gPreV (ci := 9) (q0 := 0) hP hK hD rfl rfl) rfl rfl hl.1 rfl (lv_room (Nat.le_of_ble_eq_true rfl)) dX9_first_27 ⟨Nat.le_of_ble_eq_true rfl, Nat.le_of_ble_eq_true rfl⟩) hD hS hA (fun H locs hP hD hS => ?_)
      refine lv_bipush (v := 112) hx hb dX9_first_30 (by decide) ?_
      refine lv_iload_n hx hb dX9_first_32 rfl (lv_at hl 2 rfl) ?_
      refine lv_imul hx hb dX9_first_33 ?_
      refine lv_topi (fun w19 ew19 => ?_)
      replace hf := nm_at hf ew19
      refine lv_istore (lv' := [(4, .int w19), (0, .ref (ad 0)), (1, .int p1), (2, .int p2), (3, .int p3)]) hx hb dX9_first_34 hl (by decide) rfl (fun ls hl => ?_)
      obtain ⟨tg20, x21, v22, hf⟩ := bd2_some hf
      refine LP36 FU _ _ _ _ _ _ _ _ _ _ _ _ _ _ _ _ _ _ _ _ _ _ _ _ _ _ _ _ _ _ _ _ _ _ _ _ _ _ _ _ _ _ _ _ _ _ _ _ _ _ _ _ _ hP hD hS v22 (lv_sub hl [1, 3, 4, 0] rfl) (fun etg20 H locs ls hP hD hS hl => ?_) (fun etg20 H locs ls hP hD hS hl => ?_)
      · replace hf := ifp etg20 hf
        refine lv_iload hx hb dX9_first_122 (lv_at hl 0 rfl) ?_
        refine lv_bipush (v := 16) hx hb dX9_first_124 (by decide) ?_
        refine lv_idiv hx hb dX9_first_126 (by decide) ?_
        refine lv_bipush (v := 7) hx hb dX9_first_127 (by decide) ?_
        refine lv_irem hx hb dX9_first_129 (by decide) ?_
        cases hf
        exact W.iret hx hb hr (fun t ht _ => gqi hP hD hS ht) hS.2.2 dX9_first_130
      · replace hf := ifn (c := tg20 = 0) (by rw [etg20]; decide) hf
        refine lv_bipush (v := (-2)) hx hb dX9_first_137 (by decide) ?_
        cases hf
        exact W.iret hx hb hr (fun t ht _ => gqi hP hD hS ht) hS.2.2 dX9_first_139
    · replace hf := ifp k6 hf
      refine lv_iconst (v := (-1)) hx hb dX9_first_23 (by decide) ?_
      cases hf
      exact W.iret hx hb hr (fun t ht _ => gqi hP hD hS ht) hS.2.2 dX9_first_24
abbrev rmX9_days : Room := { frames := 8, cells := 0, slots := 0, locals := 205 }
set_option maxHeartbeats 4000000 in
set_option maxRecDepth 100000 in
theorem tX9_days (l : Launch) (dC : Nat → ClassId) (dI : Nat → Nat → Nat) (dA : Nat → ClassId) (ad : Nat → Nat) (sz : Nat) {p1 : Int32} {p2 : Int32} {c_tape : Nat → Int32} {c_taped : Int32} {c_tree : Nat → Int32} {c_bonds : Nat → Int32} {c_moves : Nat → Int32} {c_handMoves : Nat → Int32} {c_moved : Int32} {c_days : Int32} {c_likely : Int32} {c_outOf : Int32} {c_rateNow : Int32} {c_pence : Nat → Int64} {c_top : Int64} {c_bottom : Int64} {c_spot : Int32} {c_textLong : Int32} {c_fault : Int32} {c_number : Int32} {c_numberAt : Int32} {c_figures : Int32} {c_written : Int32} {c_wanted : Int32} {c_found : Int32} {c_drawnNow : Int32} {c_worth : Nat → Int64} {c_hold : Nat → Int64} {c_way : Nat → Int64} {c_acts : Nat → Int32} {c_sDay : Int32} {c_sUps : Int32} {c_sUp : Int32} {c_sMarks : Int32} {c_paidAll : Int64} {c_isPlayed : Int32} {c_isOn : Int32} {c_handMoved : Int32} {c_handPaid : Int64} {c_regret : Int64} {c_aside : Nat → Int32} {c_other : Nat → Int64} {c_states : Int32} {c_kept : Nat → Int32} {c_keptLong : Nat → Int64} {c_keptAt : Int32} {c_isTaking : Int32} {r : Int32} {o_c_days : Int32} {o_c_likely : Int32} {o_c_outOf : Int32} {o_c_rateNow : Int32} {o_c_pence : Nat → Int64} {o_c_top : Int64} {o_c_bottom : Int64} {o_c_worth : Nat → Int64} {o_c_hold : Nat → Int64} {o_c_way : Nat → Int64} {o_c_acts : Nat → Int32} (hf : fX9_days p1 p2 c_tree c_bonds c_days c_likely c_outOf c_rateNow c_pence c_top c_bottom c_worth c_hold c_way c_acts = some (r, o_c_days, o_c_likely, o_c_outOf, o_c_rateNow, o_c_pence, o_c_top, o_c_bottom, o_c_worth, o_c_hold, o_c_way, o_c_acts)) : Met l yX9_days (wq (Cond.code yX9_days cX9_days 5 (some .int))) rmX9_days (gP [.ref (ad 0), .int p1, .int p2] (dC, dI) dA (mW dA ad c_tape c_taped c_tree c_bonds c_moves c_handMoves c_moved c_days c_likely c_outOf c_rateNow c_pence c_top c_bottom c_spot c_textLong c_fault c_number c_numberAt c_figures c_written c_wanted c_found c_drawnNow c_worth c_hold c_way c_acts c_sDay c_sUps c_sUp c_sMarks c_paidAll c_isPlayed c_isOn c_handMoved c_handPaid c_regret c_aside c_other c_states c_kept c_keptLong c_keptAt c_isTaking) sz) (gQi (dC, dI) r (mW dA ad c_tape c_taped c_tree c_bonds c_moves c_handMoves c_moved o_c_days o_c_likely o_c_outOf o_c_rateNow o_c_pence o_c_top o_c_bottom c_spot c_textLong c_fault c_number c_numberAt c_figures c_written c_wanted c_found c_drawnNow o_c_worth o_c_hold o_c_way o_c_acts c_sDay c_sUps c_sUp c_sMarks c_paidAll c_isPlayed c_isOn c_handMoved c_handPaid c_regret c_aside c_other c_states c_kept c_keptLong c_keptAt c_isTaking) (va_A (mW dA ad c_tape c_taped c_tree c_bonds c_moves c_handMoves c_moved c_days c_likely c_outOf c_rateNow c_pence c_top c_bottom c_spot c_textLong c_fault c_number c_numberAt c_figures c_written c_wanted c_found c_drawnNow c_worth c_hold c_way c_acts c_sDay c_sUps c_sUp c_sMarks c_paidAll c_isPlayed c_isOn c_handMoved c_handPaid c_regret c_aside c_other c_states c_kept c_keptLong c_keptAt c_isTaking) sz)) 0 0 (va_A (mW dA ad c_tape c_taped c_tree c_bonds c_moves c_handMoves c_moved c_days c_likely c_outOf c_rateNow c_pence c_top c_bottom c_spot c_textLong c_fault c_number c_numberAt c_figures c_written c_wanted c_found c_drawnNow c_worth c_hold c_way c_acts c_sDay c_sUps c_sUp c_sMarks c_paidAll c_isPlayed c_isOn c_handMoved c_handPaid c_regret c_aside c_other c_states c_kept c_keptLong c_keptAt c_isTaking) sz) := by
  refine Met.ofW (cc := cX9_days) (maxL := 5) (ret := (some .int)) (by decide) rfl ?_
  intro p e s m args below meth c s₁ B hml hv
  obtain ⟨rfl, hsz, hP, hK, hD0⟩ := hv
  have hx := B.exec
  have hb := B.bytes
  have hr := B.returns
  have hts := atoms_spec (ws := wq (Cond.code yX9_days cX9_days 5 (some .int))) B.pre
  have hown : s.vm.findClass RX9 = some m.cls := findClass_of_methodNamed B.named
  have hlocks := B.notSynchronized
  clear B
  subst hsz
  have hD := hD0.self (sz := s.heap.size)
  generalize hAe : va_A (mW dA ad c_tape c_taped c_tree c_bonds c_moves c_handMoves c_moved c_days c_likely c_outOf c_rateNow c_pence c_top c_bottom c_spot c_textLong c_fault c_number c_numberAt c_figures c_written c_wanted c_found c_drawnNow c_worth c_hold c_way c_acts c_sDay c_sUps c_sUp c_sMarks c_paidAll c_isPlayed c_isOn c_handMoved c_handPaid c_regret c_aside c_other c_states c_kept c_keptLong c_keptAt c_isTaking) s.heap.size = A at hD ⊢
  have hA : ∀ q : Nat, s.heap.size ≤ q → A q := fun q h => by rw [← hAe]; exact Or.inr h
  clear hAe hD0
  have hS : va_S A s.heap s.heap [] := va_S.rf
  have hl := lv_entry ([.ref (ad 0), .int p1, .int p2]) (n := 5) (Nat.le_of_ble_eq_true rfl)
  rw [lg_entry_eq]
  generalize (lg_sl ([.ref (ad 0), .int p1, .int p2]) ++ List.replicate (5 - (lg_sl ([.ref (ad 0), .int p1, .int p2])).length) Slot.unset).toArray = ls at hl ⊢
  have hl : lv_has ls 5 [(0, .ref (ad 0)), (1, .int p1), (2, .int p2)] := hl
  change W p l e rmX9_days s m ([.ref (ad 0), .int p1, .int p2] : List Value).toArray below meth c s.heap [] 0 0 _ _
  generalize hQ : MQ below (gQi (dC, dI) r (mW dA ad c_tape c_taped c_tree c_bonds c_moves c_handMoves c_moved o_c_days o_c_likely o_c_outOf o_c_rateNow o_c_pence o_c_top o_c_bottom c_spot c_textLong c_fault c_number c_numberAt c_figures c_written c_wanted c_found c_drawnNow o_c_worth o_c_hold o_c_way o_c_acts c_sDay c_sUps c_sUp c_sMarks c_paidAll c_isPlayed c_isOn c_handMoved c_handPaid c_regret c_aside c_other c_states c_kept c_keptLong c_keptAt c_isTaking) A) ([.ref (ad 0), .int p1, .int p2] : List Value).toArray s 0 0 A = Q
  have LP31 : ∀ (n : Nat) (x2 : Int32) (c_way : Nat → Int64) (c_acts : Nat → Int32) (c_tape : Nat → Int32) (c_taped : Int32) (c_tree : Nat → Int32) (c_bonds : Nat → Int32) (c_moves : Nat → Int32) (c_handMoves : Nat → Int32) (c_moved : Int32) (c_days : Int32) (c_likely : Int32) (c_outOf : Int32) (c_rateNow : Int32) (c_pence : Nat → Int64) (c_top : Int64) (c_bottom : Int64) (c_spot : Int32) (c_textLong : Int32) (c_fault : Int32) (c_number : Int32) (c_numberAt : Int32) (c_figures : Int32) (c_written : Int32) (c_wanted : Int32) (c_found : Int32) (c_drawnNow : Int32) (c_worth : Nat → Int64) (c_hold : Nat → Int64) (c_sDay : Int32) (c_sUps : Int32) (c_sUp : Int32) (c_sMarks : Int32) (c_paidAll : Int64) (c_isPlayed : Int32) (c_isOn : Int32) (c_handMoved : Int32) (c_handPaid : Int64) (c_regret : Int64) (c_aside : Nat → Int32) (c_other : Nat → Int64) (c_states : Int32) (c_kept : Nat → Int32) (c_keptLong : Nat → Int64) (c_keptAt : Int32) (c_isTaking : Int32) (x3 : Int32) (x4 : Int32) (o3 : Int32) (H : Heap) (locs : List Loc) (ls : Array Slot), va_P (dC, dI) vwCl (mW dA ad c_tape c_taped c_tree c_bonds c_moves c_handMoves c_moved c_days c_likely c_outOf c_rateNow c_pence c_top c_bottom c_spot c_textLong c_fault c_number c_numberAt c_figures c_written c_wanted c_found c_drawnNow c_worth c_hold c_way c_acts c_sDay c_sUps c_sUp c_sMarks c_paidAll c_isPlayed c_isOn c_handMoved c_handPaid c_regret c_aside c_other c_states c_kept c_keptLong c_keptAt c_isTaking) H → va_D A (mW dA ad c_tape c_taped c_tree c_bonds c_moves c_handMoves c_moved c_days c_likely c_outOf c_rateNow c_pence c_top c_bottom c_spot c_textLong c_fault c_number c_numberAt c_figures c_written c_wanted c_found c_drawnNow c_worth c_hold c_way c_acts c_sDay c_sUps c_sUp c_sMarks c_paidAll c_isPlayed c_isOn c_handMoved c_handPaid c_regret c_aside c_other c_states c_kept c_keptLong c_keptAt c_isTaking) → va_S A s.heap H locs → lpX9_days_31 x2 c_way c_acts n x3 x4 = some (o3) → lv_has ls 5 [(0, .ref (ad 0)), (2, .int x2), (3, .int x3), (4, .int x4)] → (∀ (H : Heap) (locs : List Loc) (ls : Array Slot), va_P (dC, dI) vwCl (mW dA ad c_tape c_taped c_tree c_bonds c_moves c_handMoves c_moved c_days c_likely c_outOf c_rateNow c_pence c_top c_bottom c_spot c_textLong c_fault c_number c_numberAt c_figures c_written c_wanted c_found c_drawnNow c_worth c_hold c_way c_acts c_sDay c_sUps c_sUp c_sMarks c_paidAll c_isPlayed c_isOn c_handMoved c_handPaid c_regret c_aside c_other c_states c_kept c_keptLong c_keptAt c_isTaking) H → va_D A (mW dA ad c_tape c_taped c_tree c_bonds c_moves c_handMoves c_moved c_days c_likely c_outOf c_rateNow c_pence c_top c_bottom c_spot c_textLong c_fault c_number c_numberAt c_figures c_written c_wanted c_found c_drawnNow c_worth c_hold c_way c_acts c_sDay c_sUps c_sUp c_sMarks c_paidAll c_isPlayed c_isOn c_handMoved c_handPaid c_regret c_aside c_other c_states c_kept c_keptLong c_keptAt c_isTaking) → va_S A s.heap H locs → lv_has ls 5 [(3, .int o3)] → W p l e rmX9_days s m ([.ref (ad 0), .int p1, .int p2] : List Value).toArray below meth c H locs 0 0 Q (F0 m 78 ls [])) → W p l e rmX9_days s m ([.ref (ad 0), .int p1, .int p2] : List Value).toArray below meth c H locs 0 0 Q (F0 m 31 ls []) := by
    intro n
    induction n with
    | zero =>
      intro x2 c_way c_acts c_tape c_taped c_tree c_bonds c_moves c_handMoves c_moved c_days c_likely c_outOf c_rateNow c_pence c_top c_bottom c_spot c_textLong c_fault c_number c_numberAt c_figures c_written c_wanted c_found c_drawnNow c_worth c_hold c_sDay c_sUps c_sUp c_sMarks c_paidAll c_isPlayed c_isOn c_handMoved c_handPaid c_regret c_aside c_other c_states c_kept c_keptLong c_keptAt c_isTaking x3 x4 o3 H locs ls hP hD hS hf hl hk
      cases hf
    | succ n ih31 =>
      intro x2 c_way c_acts c_tape c_taped c_tree c_bonds c_moves c_handMoves c_moved c_days c_likely c_outOf c_rateNow c_pence c_top c_bottom c_spot c_textLong c_fault c_number c_numberAt c_figures c_written c_wanted c_found c_drawnNow c_worth c_hold c_sDay c_sUps c_sUp c_sMarks c_paidAll c_isPlayed c_isOn c_handMoved c_handPaid c_regret c_aside c_other c_states c_kept c_keptLong c_keptAt c_isTaking x3 x4 o3 H locs ls hP hD hS hf hl hk
      rw [lpX9_days_31.eq_2] at hf
      refine lv_iload hx hb dX9_days_31 (lv_at hl 3 rfl) ?_
      refine lv_sipush (v := 784) hx hb dX9_days_33 (by decide) ?_
      refine lv_icmp_ge (tgt := 78) hx hb dX9_days_36 (by decide) (fun k21 => ?_) (fun k21 => ?_)
      · replace hf := ifp k21 hf
        cases hf
        exact hk _ _ _ hP hD hS (lv_sub hl [2] rfl)
      · replace hf := ifn k21 hf
        refine lv_aload_n hx hb dX9_days_39 rfl (lv_at hl 0 rfl) ?_
        refine va_get (D := (dC, dI)) (ci := 9) (v := .ref (ad 9)) (C := RX9) (T := TX9) (N := 45) hx hb hts (fun w h => gw_mem (inX9 w h)) hown hK.1 hP 0 rfl rfl 26 (by decide) (hts _ (gw_mem wfX9_36)) (fun _ h9 => h9) rfl dX9_days_40 ?_
        refine lv_iload hx hb dX9_days_43 (lv_at hl 3 rfl) ?_
        obtain ⟨h22, hf⟩ := og_some hf
        refine va_lald hx hb hK.1 hP 9 1 rfl rfl (okI_in h22) dX9_days_45 ?_
        refine lv_lconst (v := 0) hx hb dX9_days_46 rfl ?_
        refine W.lcmp hx hb dX9_days_47 ?_
        obtain ⟨j24, v26, hf⟩ := bd1_some hf
        have J25 : ∀ (H : Heap) (locs : List Loc) (ls : Array Slot), va_P (dC, dI) vwCl (mW dA ad c_tape c_taped c_tree c_bonds c_moves c_handMoves c_moved c_days c_likely c_outOf c_rateNow c_pence c_top c_bottom c_spot c_textLong c_fault c_number c_numberAt c_figures c_written c_wanted c_found c_drawnNow c_worth c_hold c_way c_acts c_sDay c_sUps c_sUp c_sMarks c_paidAll c_isPlayed c_isOn c_handMoved c_handPaid c_regret c_aside c_other c_states c_kept c_keptLong c_keptAt c_isTaking) H → va_D A (mW dA ad c_tape c_taped c_tree c_bonds c_moves c_handMoves c_moved c_days c_likely c_outOf c_rateNow c_pence c_top c_bottom c_spot c_textLong c_fault c_number c_numberAt c_figures c_written c_wanted c_found c_drawnNow c_worth c_hold c_way c_acts c_sDay c_sUps c_sUp c_sMarks c_paidAll c_isPlayed c_isOn c_handMoved c_handPaid c_regret c_aside c_other c_states c_kept c_keptLong c_keptAt c_isTaking) → va_S A s.heap H locs → lv_has ls 5 [(0, .ref (ad 0)), (2, .int x2), (3, .int j24), (4, .int x4)] → W p l e rmX9_days s m ([.ref (ad 0), .int p1, .int p2] : List Value).toArray below meth c H locs 0 0 Q (F0 m 72 ls []) := by
          intro H locs ls hP hD hS hl
          obtain ⟨w27, ew27⟩ : ∃ y : Int32, y = x4 + 1 := ⟨_, rfl⟩
          replace hf := nm_at hf ew27
          refine lv_iinc (v := w27) (lv' := [(4, .int w27), (0, .ref (ad 0)), (2, .int x2), (3, .int j24)]) hx hb dX9_days_72 hl (k := 3) rfl (by rw [ew27]; rfl) (by decide) rfl (fun ls hl => ?_)
          refine lv_goto (tgt := 31) hx hb dX9_days_75 (by decide) ?_
          exact ih31 _ _ _ _ _ _ _ _ _ _ _ _ _ _ _ _ _ _ _ _ _ _ _ _ _ _ _ _ _ _ _ _ _ _ _ _ _ _ _ _ _ _ _ _ _ _ _ _ _ _ _ _ hP hD hS hf (lv_sub hl [1, 2, 3, 0] rfl) hk
        replace hf := v26
        clear v26
        refine lv_if_le (tgt := 72) hx hb dX9_days_48 (by decide) (fun k23 => ?_) (fun k23 => ?_)
        · replace hf := ifp (lc_le.mp k23) hf
          cases hf
          exact J25 _ _ _ hP hD hS (lv_sub hl [0, 1, 2, 3] rfl)
        · replace hf := ifn (fun h => k23 (lc_le.mpr h)) hf
          refine lv_aload_n hx hb dX9_days_51 rfl (lv_at hl 0 rfl) ?_
          refine va_get (D := (dC, dI)) (ci := 9) (v := .ref (ad 10)) (C := RX9) (T := TX9) (N := 45) hx hb hts (fun w h => gw_mem (inX9 w h)) hown hK.1 hP 0 rfl rfl 27 (by decide) (hts _ (gw_mem wfX9_39)) (fun _ h9 => h9) rfl dX9_days_52 ?_
          refine lv_iload hx hb dX9_days_55 (lv_at hl 3 rfl) ?_
          obtain ⟨h28, hf⟩ := og_some hf
          refine va_iald hx hb hK.1 hP 10 0 rfl rfl (okI_in h28) dX9_days_57 ?_
          refine lv_iload_n hx hb dX9_days_58 rfl (lv_at hl 1 rfl) ?_
          refine lv_icmp_ne (tgt := 72) hx hb dX9_days_59 (by decide) (fun k29 => ?_) (fun k29 => ?_)
          · replace hf := ifn k29 hf
            cases hf
            exact J25 _ _ _ hP hD hS (lv_sub hl [0, 1, 2, 3] rfl)
          · replace hf := ifp k29 hf
            refine lv_iload_n hx hb dX9_days_62 rfl (lv_at hl 2 rfl) ?_
            refine lv_iconst (v := 1) hx hb dX9_days_63 (by decide) ?_
            refine lv_iload hx hb dX9_days_64 (lv_at hl 3 rfl) ?_
            obtain ⟨r30, v31, hf⟩ := bd1_some hf
            refine gci0 (va_runS (As := [.int x4]) (rest := [.int 1, .int x3]) ⟨hx, hb, hml, hown, hts⟩ (tX9_dayOf l dC dI dA H.size v31) (ccX9_X9_dayOf hts ⟨Nat.le_of_ble_eq_true rfl, Nat.le_of_ble_eq_true rfl⟩) (gPreS0 hK) rfl rfl hl.1 rfl (lv_room (Nat.le_of_ble_eq_true rfl)) dX9_days_66 ⟨Nat.le_of_ble_eq_true rfl, Nat.le_of_ble_eq_true rfl⟩) hP hS hA (fun H locs hP hS => ?_)
            refine lv_ishl hx hb dX9_days_69 ?_
            refine lv_ior hx hb dX9_days_70 ?_
            refine lv_topi (fun w32 ew32 => ?_)
            replace hf := nm_at hf ew32
            refine lv_istore_n (lv' := [(3, .int w32), (0, .ref (ad 0)), (2, .int x2), (4, .int x4)]) hx hb dX9_days_71 rfl hl (by decide) rfl (fun ls hl => ?_)
            cases hf
            exact J25 _ _ _ hP hD hS (lv_sub hl [1, 2, 0, 3] rfl)
  subst hQ
  unfold fX9_days at hf
  refine lv_iload_n hx hb dX9_days_0 rfl (lv_at hl 1 rfl) ?_
  obtain ⟨r1, v2, hf⟩ := bd1_some hf
  refine gci0 (va_runS (As := [.int p1]) (rest := []) ⟨hx, hb, hml, hown, hts⟩ (tX9_isBond l dC dI dA s.heap.size v2) (ccX9_X9_isBond hts ⟨Nat.le_of_ble_eq_true rfl, Nat.le_of_ble_eq_true rfl⟩) (gPreS0 hK) rfl rfl hl.1 rfl (lv_room (Nat.le_of_ble_eq_true rfl)) dX9_days_1 ⟨Nat.le_of_ble_eq_true rfl, Nat.le_of_ble_eq_true rfl⟩) hP hS hA (fun H locs hP hS => ?_)
  refine lv_if_eq (tgt := 19) hx hb dX9_days_4 (by decide) (fun k3 => ?_) (fun k3 => ?_)
  · replace hf := ifp k3 hf
    refine lv_iconst (v := (-1)) hx hb dX9_days_19 (by decide) ?_
    cases hf
    exact W.iret hx hb hr (fun t ht _ => gqi hP hD hS ht) hS.2.2 dX9_days_20
  · replace hf := ifn k3 hf
    refine lv_iload_n hx hb dX9_days_7 rfl (lv_at hl 2 rfl) ?_
    refine lv_i2l hx hb dX9_days_8 rfl ?_
    refine lv_lconst (v := 0) hx hb dX9_days_9 rfl ?_
    refine lv_ldc2 (v := 6) hx hb hown (hts _ (gw_mem wkX9_72)) dX9_days_10 ?_
    obtain ⟨r4, v5, hf⟩ := bd1_some hf
    refine gci0 (va_runS (As := [.long (Int32.toInt64 p2), .long 0, .long 6]) (rest := []) ⟨hx, hb, hml, hown, hts⟩ (tX9_in l dC dI dA H.size v5) (ccX9_X9_in hts ⟨Nat.le_of_ble_eq_true rfl, Nat.le_of_ble_eq_true rfl⟩) (gPreS0 hK) rfl rfl hl.1 rfl (lv_room (Nat.le_of_ble_eq_true rfl)) dX9_days_13 ⟨Nat.le_of_ble_eq_true rfl, Nat.le_of_ble_eq_true rfl⟩) hP hS hA (fun H locs hP hS => ?_)
    refine lv_if_ne (tgt := 21) hx hb dX9_days_16 (by decide) (fun k6 => ?_) (fun k6 => ?_)
    · replace hf := ifn k6 hf
      refine lv_aload_n hx hb dX9_days_21 rfl (lv_at hl 0 rfl) ?_
      refine lv_iload_n hx hb dX9_days_22 rfl (lv_at hl 1 rfl) ?_
      obtain ⟨c_days_7, c_likely_8, c_outOf_9, c_rateNow_10, c_pence_11, c_top_12, c_bottom_13, c_worth_14, c_hold_15, c_way_16, c_acts_17, v18, hf⟩ := bd11_some hf
      refine gcv (va_runV (As := [.int p1]) (rest := []) ⟨hx, hb, hml, hown, hts⟩ (tX9_laysAll l dC dI dA ad H.size v18) (ccX9_X9_laysAll hts ⟨Nat.le_of_ble_eq_true rfl, Nat.le_of_ble_eq_true rfl⟩) (gPreV (ci := 9) (q0 := 0) hP hK hD rfl rfl) rfl rfl hl.1 rfl (lv_room (Nat.le_of_ble_eq_true rfl)) dX9_days_23 ⟨Nat.le_of_ble_eq_true rfl, Nat.le_of_ble_eq_true rfl⟩) hD hS hA (fun H locs hP hD hS => ?_)
      refine lv_iconst (v := 0) hx hb dX9_days_26 (by decide) ?_
      refine lv_istore_n (lv' := [(3, .int 0), (0, .ref (ad 0)), (1, .int p1), (2, .int p2)]) hx hb dX9_days_27 rfl hl (by decide) rfl (fun ls hl => ?_)
      refine lv_iconst (v := 0) hx hb dX9_days_28 (by decide) ?_
      refine lv_istore (lv' := [(4, .int 0), (3, .int 0), (0, .ref (ad 0)), (1, .int p1), (2, .int p2)]) hx hb dX9_days_29 hl (by decide) rfl (fun ls hl => ?_)
      obtain ⟨x19, v20, hf⟩ := bd1_some hf
      refine LP31 FU _ _ _ _ _ _ _ _ _ _ _ _ _ _ _ _ _ _ _ _ _ _ _ _ _ _ _ _ _ _ _ _ _ _ _ _ _ _ _ _ _ _ _ _ _ _ _ _ _ _ _ _ hP hD hS v20 (lv_sub hl [2, 4, 1, 0] rfl) (fun H locs ls hP hD hS hl => ?_)
      refine lv_iload_n hx hb dX9_days_78 rfl (lv_at hl 0 rfl) ?_
      cases hf
      exact W.iret hx hb hr (fun t ht _ => gqi hP hD hS ht) hS.2.2 dX9_days_79
    · replace hf := ifp k6 hf
      refine lv_iconst (v := (-1)) hx hb dX9_days_19 (by decide) ?_
      cases hf
      exact W.iret hx hb hr (fun t ht _ => gqi hP hD hS ht) hS.2.2 dX9_days_20
abbrev rmX9_table : Room := { frames := 8, cells := 0, slots := 0, locals := 205 }
set_option maxHeartbeats 4000000 in
set_option maxRecDepth 100000 in
theorem tX9_table (l : Launch) (dC : Nat → ClassId) (dI : Nat → Nat → Nat) (dA : Nat → ClassId) (ad : Nat → Nat) (sz : Nat) {p1 : Int32} {p2 : Int32} {p3 : Int32} {p4 : Int32} {c_tape : Nat → Int32} {c_taped : Int32} {c_tree : Nat → Int32} {c_bonds : Nat → Int32} {c_moves : Nat → Int32} {c_handMoves : Nat → Int32} {c_moved : Int32} {c_days : Int32} {c_likely : Int32} {c_outOf : Int32} {c_rateNow : Int32} {c_pence : Nat → Int64} {c_top : Int64} {c_bottom : Int64} {c_spot : Int32} {c_textLong : Int32} {c_fault : Int32} {c_number : Int32} {c_numberAt : Int32} {c_figures : Int32} {c_written : Int32} {c_wanted : Int32} {c_found : Int32} {c_drawnNow : Int32} {c_worth : Nat → Int64} {c_hold : Nat → Int64} {c_way : Nat → Int64} {c_acts : Nat → Int32} {c_sDay : Int32} {c_sUps : Int32} {c_sUp : Int32} {c_sMarks : Int32} {c_paidAll : Int64} {c_isPlayed : Int32} {c_isOn : Int32} {c_handMoved : Int32} {c_handPaid : Int64} {c_regret : Int64} {c_aside : Nat → Int32} {c_other : Nat → Int64} {c_states : Int32} {c_kept : Nat → Int32} {c_keptLong : Nat → Int64} {c_keptAt : Int32} {c_isTaking : Int32} {r : Int64} {o_c_days : Int32} {o_c_likely : Int32} {o_c_outOf : Int32} {o_c_rateNow : Int32} {o_c_pence : Nat → Int64} {o_c_top : Int64} {o_c_bottom : Int64} {o_c_worth : Nat → Int64} {o_c_hold : Nat → Int64} {o_c_way : Nat → Int64} {o_c_acts : Nat → Int32} (hf : fX9_table p1 p2 p3 p4 c_tree c_bonds c_days c_likely c_outOf c_rateNow c_pence c_top c_bottom c_worth c_hold c_way c_acts = some (r, o_c_days, o_c_likely, o_c_outOf, o_c_rateNow, o_c_pence, o_c_top, o_c_bottom, o_c_worth, o_c_hold, o_c_way, o_c_acts)) : Met l yX9_table (wq (Cond.code yX9_table cX9_table 10 (some .long))) rmX9_table (gP [.ref (ad 0), .int p1, .int p2, .int p3, .int p4] (dC, dI) dA (mW dA ad c_tape c_taped c_tree c_bonds c_moves c_handMoves c_moved c_days c_likely c_outOf c_rateNow c_pence c_top c_bottom c_spot c_textLong c_fault c_number c_numberAt c_figures c_written c_wanted c_found c_drawnNow c_worth c_hold c_way c_acts c_sDay c_sUps c_sUp c_sMarks c_paidAll c_isPlayed c_isOn c_handMoved c_handPaid c_regret c_aside c_other c_states c_kept c_keptLong c_keptAt c_isTaking) sz) (gQl (dC, dI) r (mW dA ad c_tape c_taped c_tree c_bonds c_moves c_handMoves c_moved o_c_days o_c_likely o_c_outOf o_c_rateNow o_c_pence o_c_top o_c_bottom c_spot c_textLong c_fault c_number c_numberAt c_figures c_written c_wanted c_found c_drawnNow o_c_worth o_c_hold o_c_way o_c_acts c_sDay c_sUps c_sUp c_sMarks c_paidAll c_isPlayed c_isOn c_handMoved c_handPaid c_regret c_aside c_other c_states c_kept c_keptLong c_keptAt c_isTaking) (va_A (mW dA ad c_tape c_taped c_tree c_bonds c_moves c_handMoves c_moved c_days c_likely c_outOf c_rateNow c_pence c_top c_bottom c_spot c_textLong c_fault c_number c_numberAt c_figures c_written c_wanted c_found c_drawnNow c_worth c_hold c_way c_acts c_sDay c_sUps c_sUp c_sMarks c_paidAll c_isPlayed c_isOn c_handMoved c_handPaid c_regret c_aside c_other c_states c_kept c_keptLong c_keptAt c_isTaking) sz)) 0 0 (va_A (mW dA ad c_tape c_taped c_tree c_bonds c_moves c_handMoves c_moved c_days c_likely c_outOf c_rateNow c_pence c_top c_bottom c_spot c_textLong c_fault c_number c_numberAt c_figures c_written c_wanted c_found c_drawnNow c_worth c_hold c_way c_acts c_sDay c_sUps c_sUp c_sMarks c_paidAll c_isPlayed c_isOn c_handMoved c_handPaid c_regret c_aside c_other c_states c_kept c_keptLong c_keptAt c_isTaking) sz) := by
  refine Met.ofW (cc := cX9_table) (maxL := 10) (ret := (some .long)) (by decide) rfl ?_
  intro p e s m args below meth c s₁ B hml hv
  obtain ⟨rfl, hsz, hP, hK, hD0⟩ := hv
  have hx := B.exec
  have hb := B.bytes
  have hr := B.returns
  have hts := atoms_spec (ws := wq (Cond.code yX9_table cX9_table 10 (some .long))) B.pre
  have hown : s.vm.findClass RX9 = some m.cls := findClass_of_methodNamed B.named
  have hlocks := B.notSynchronized
  clear B
  subst hsz
  have hD := hD0.self (sz := s.heap.size)
  generalize hAe : va_A (mW dA ad c_tape c_taped c_tree c_bonds c_moves c_handMoves c_moved c_days c_likely c_outOf c_rateNow c_pence c_top c_bottom c_spot c_textLong c_fault c_number c_numberAt c_figures c_written c_wanted c_found c_drawnNow c_worth c_hold c_way c_acts c_sDay c_sUps c_sUp c_sMarks c_paidAll c_isPlayed c_isOn c_handMoved c_handPaid c_regret c_aside c_other c_states c_kept c_keptLong c_keptAt c_isTaking) s.heap.size = A at hD ⊢
  have hA : ∀ q : Nat, s.heap.size ≤ q → A q := fun q h => by rw [← hAe]; exact Or.inr h
  clear hAe hD0
  have hS : va_S A s.heap s.heap [] := va_S.rf
  have hl := lv_entry ([.ref (ad 0), .int p1, .int p2, .int p3, .int p4]) (n := 10) (Nat.le_of_ble_eq_true rfl)
  rw [lg_entry_eq]
  generalize (lg_sl ([.ref (ad 0), .int p1, .int p2, .int p3, .int p4]) ++ List.replicate (10 - (lg_sl ([.ref (ad 0), .int p1, .int p2, .int p3, .int p4])).length) Slot.unset).toArray = ls at hl ⊢
  have hl : lv_has ls 10 [(0, .ref (ad 0)), (1, .int p1), (2, .int p2), (3, .int p3), (4, .int p4)] := hl
  change W p l e rmX9_table s m ([.ref (ad 0), .int p1, .int p2, .int p3, .int p4] : List Value).toArray below meth c s.heap [] 0 0 _ _
  generalize hQ : MQ below (gQl (dC, dI) r (mW dA ad c_tape c_taped c_tree c_bonds c_moves c_handMoves c_moved o_c_days o_c_likely o_c_outOf o_c_rateNow o_c_pence o_c_top o_c_bottom c_spot c_textLong c_fault c_number c_numberAt c_figures c_written c_wanted c_found c_drawnNow o_c_worth o_c_hold o_c_way o_c_acts c_sDay c_sUps c_sUp c_sMarks c_paidAll c_isPlayed c_isOn c_handMoved c_handPaid c_regret c_aside c_other c_states c_kept c_keptLong c_keptAt c_isTaking) A) ([.ref (ad 0), .int p1, .int p2, .int p3, .int p4] : List Value).toArray s 0 0 A = Q
  have LP74 : ∀ (n : Nat) (x2 : Int32) (x4 : Int32) (x6 : Int32) (x7 : Int32) (c_way : Nat → Int64) (c_tape : Nat → Int32) (c_taped : Int32) (c_tree : Nat → Int32) (c_bonds : Nat → Int32) (c_moves : Nat → Int32) (c_handMoves : Nat → Int32) (c_moved : Int32) (c_days : Int32) (c_likely : Int32) (c_outOf : Int32) (c_rateNow : Int32) (c_pence : Nat → Int64) (c_top : Int64) (c_bottom : Int64) (c_spot : Int32) (c_textLong : Int32) (c_fault : Int32) (c_number : Int32) (c_numberAt : Int32) (c_figures : Int32) (c_written : Int32) (c_wanted : Int32) (c_found : Int32) (c_drawnNow : Int32) (c_worth : Nat → Int64) (c_hold : Nat → Int64) (c_acts : Nat → Int32) (c_sDay : Int32) (c_sUps : Int32) (c_sUp : Int32) (c_sMarks : Int32) (c_paidAll : Int64) (c_isPlayed : Int32) (c_isOn : Int32) (c_handMoved : Int32) (c_handPaid : Int64) (c_regret : Int64) (c_aside : Nat → Int32) (c_other : Nat → Int64) (c_states : Int32) (c_kept : Nat → Int32) (c_keptLong : Nat → Int64) (c_keptAt : Int32) (c_isTaking : Int32) (x5 : Int32) (x8 : Int32) (tgo : Nat) (o5 : Int32) (o8 : Int32) (o9 : Int32) (H : Heap) (locs : List Loc) (ls : Array Slot), va_P (dC, dI) vwCl (mW dA ad c_tape c_taped c_tree c_bonds c_moves c_handMoves c_moved c_days c_likely c_outOf c_rateNow c_pence c_top c_bottom c_spot c_textLong c_fault c_number c_numberAt c_figures c_written c_wanted c_found c_drawnNow c_worth c_hold c_way c_acts c_sDay c_sUps c_sUp c_sMarks c_paidAll c_isPlayed c_isOn c_handMoved c_handPaid c_regret c_aside c_other c_states c_kept c_keptLong c_keptAt c_isTaking) H → va_D A (mW dA ad c_tape c_taped c_tree c_bonds c_moves c_handMoves c_moved c_days c_likely c_outOf c_rateNow c_pence c_top c_bottom c_spot c_textLong c_fault c_number c_numberAt c_figures c_written c_wanted c_found c_drawnNow c_worth c_hold c_way c_acts c_sDay c_sUps c_sUp c_sMarks c_paidAll c_isPlayed c_isOn c_handMoved c_handPaid c_regret c_aside c_other c_states c_kept c_keptLong c_keptAt c_isTaking) → va_S A s.heap H locs → lpX9_table_74 x2 x4 x6 x7 c_way n x5 x8 = some (tgo, o5, o8, o9) → lv_has ls 10 [(0, .ref (ad 0)), (2, .int x2), (4, .int x4), (5, .int x5), (6, .int x6), (7, .int x7), (8, .int x8)] → (tgo = 0 → ∀ (H : Heap) (locs : List Loc) (ls : Array Slot), va_P (dC, dI) vwCl (mW dA ad c_tape c_taped c_tree c_bonds c_moves c_handMoves c_moved c_days c_likely c_outOf c_rateNow c_pence c_top c_bottom c_spot c_textLong c_fault c_number c_numberAt c_figures c_written c_wanted c_found c_drawnNow c_worth c_hold c_way c_acts c_sDay c_sUps c_sUp c_sMarks c_paidAll c_isPlayed c_isOn c_handMoved c_handPaid c_regret c_aside c_other c_states c_kept c_keptLong c_keptAt c_isTaking) H → va_D A (mW dA ad c_tape c_taped c_tree c_bonds c_moves c_handMoves c_moved c_days c_likely c_outOf c_rateNow c_pence c_top c_bottom c_spot c_textLong c_fault c_number c_numberAt c_figures c_written c_wanted c_found c_drawnNow c_worth c_hold c_way c_acts c_sDay c_sUps c_sUp c_sMarks c_paidAll c_isPlayed c_isOn c_handMoved c_handPaid c_regret c_aside c_other c_states c_kept c_keptLong c_keptAt c_isTaking) → va_S A s.heap H locs → lv_has ls 10 [(0, .ref (ad 0)), (4, .int x4), (6, .int x6), (7, .int x7), (8, .int o8), (9, .int o9)] → W p l e rmX9_table s m ([.ref (ad 0), .int p1, .int p2, .int p3, .int p4] : List Value).toArray below meth c H locs 0 0 Q (F0 m 112 ls [])) → (tgo = 1 → ∀ (H : Heap) (locs : List Loc) (ls : Array Slot), va_P (dC, dI) vwCl (mW dA ad c_tape c_taped c_tree c_bonds c_moves c_handMoves c_moved c_days c_likely c_outOf c_rateNow c_pence c_top c_bottom c_spot c_textLong c_fault c_number c_numberAt c_figures c_written c_wanted c_found c_drawnNow c_worth c_hold c_way c_acts c_sDay c_sUps c_sUp c_sMarks c_paidAll c_isPlayed c_isOn c_handMoved c_handPaid c_regret c_aside c_other c_states c_kept c_keptLong c_keptAt c_isTaking) H → va_D A (mW dA ad c_tape c_taped c_tree c_bonds c_moves c_handMoves c_moved c_days c_likely c_outOf c_rateNow c_pence c_top c_bottom c_spot c_textLong c_fault c_number c_numberAt c_figures c_written c_wanted c_found c_drawnNow c_worth c_hold c_way c_acts c_sDay c_sUps c_sUp c_sMarks c_paidAll c_isPlayed c_isOn c_handMoved c_handPaid c_regret c_aside c_other c_states c_kept c_keptLong c_keptAt c_isTaking) → va_S A s.heap H locs → lv_has ls 10 [(0, .ref (ad 0)), (2, .int x2), (4, .int x4), (5, .int o5), (6, .int x6), (7, .int x7)] → W p l e rmX9_table s m ([.ref (ad 0), .int p1, .int p2, .int p3, .int p4] : List Value).toArray below meth c H locs 0 0 Q (F0 m 184 ls [])) → W p l e rmX9_table s m ([.ref (ad 0), .int p1, .int p2, .int p3, .int p4] : List Value).toArray below meth c H locs 0 0 Q (F0 m 74 ls []) := by
    intro n
    induction n with
    | zero =>
      intro x2 x4 x6 x7 c_way c_tape c_taped c_tree c_bonds c_moves c_handMoves c_moved c_days c_likely c_outOf c_rateNow c_pence c_top c_bottom c_spot c_textLong c_fault c_number c_numberAt c_figures c_written c_wanted c_found c_drawnNow c_worth c_hold c_acts c_sDay c_sUps c_sUp c_sMarks c_paidAll c_isPlayed c_isOn c_handMoved c_handPaid c_regret c_aside c_other c_states c_kept c_keptLong c_keptAt c_isTaking x5 x8 tgo o5 o8 o9 H locs ls hP hD hS hf hl hk0 hk1
      cases hf
    | succ n ih74 =>
      intro x2 x4 x6 x7 c_way c_tape c_taped c_tree c_bonds c_moves c_handMoves c_moved c_days c_likely c_outOf c_rateNow c_pence c_top c_bottom c_spot c_textLong c_fault c_number c_numberAt c_figures c_written c_wanted c_found c_drawnNow c_worth c_hold c_acts c_sDay c_sUps c_sUp c_sMarks c_paidAll c_isPlayed c_isOn c_handMoved c_handPaid c_regret c_aside c_other c_states c_kept c_keptLong c_keptAt c_isTaking x5 x8 tgo o5 o8 o9 H locs ls hP hD hS hf hl hk0 hk1
      rw [lpX9_table_74.eq_2] at hf
      refine lv_iload hx hb dX9_table_74 (lv_at hl 6 rfl) ?_
      refine lv_iconst (v := 2) hx hb dX9_table_76 (by decide) ?_
      refine lv_icmp_ge (tgt := 184) hx hb dX9_table_77 (by decide) (fun k53 => ?_) (fun k53 => ?_)
      · replace hf := ifp k53 hf
        cases hf
        exact hk1 rfl _ _ _ hP hD hS (lv_sub hl [0, 1, 2, 3, 4, 5] rfl)
      · replace hf := ifn k53 hf
        refine lv_iload_n hx hb dX9_table_80 rfl (lv_at hl 1 rfl) ?_
        refine lv_iload hx hb dX9_table_81 (lv_at hl 4 rfl) ?_
        refine lv_iload hx hb dX9_table_83 (lv_at hl 6 rfl) ?_
        refine lv_iload hx hb dX9_table_85 (lv_at hl 5 rfl) ?_
        obtain ⟨r54, v55, hf⟩ := bd1_some hf
        refine gci0 (va_runS (As := [.int x2, .int x6, .int x8, .int x7]) (rest := []) ⟨hx, hb, hml, hown, hts⟩ (tX9_at l dC dI dA H.size v55) (ccX9_X9_at hts ⟨Nat.le_of_ble_eq_true rfl, Nat.le_of_ble_eq_true rfl⟩) (gPreS0 hK) rfl rfl hl.1 rfl (lv_room (Nat.le_of_ble_eq_true rfl)) dX9_table_87 ⟨Nat.le_of_ble_eq_true rfl, Nat.le_of_ble_eq_true rfl⟩) hP hS hA (fun H locs hP hS => ?_)
        refine lv_istore (lv' := [(9, .int r54), (0, .ref (ad 0)), (2, .int x2), (4, .int x4), (5, .int x5), (6, .int x6), (7, .int x7), (8, .int x8)]) hx hb dX9_table_90 hl (by decide) rfl (fun ls hl => ?_)
        refine lv_aload_n hx hb dX9_table_92 rfl (lv_at hl 1 rfl) ?_
        refine va_get (D := (dC, dI)) (ci := 9) (v := .ref (ad 9)) (C := RX9) (T := TX9) (N := 45) hx hb hts (fun w h => gw_mem (inX9 w h)) hown hK.1 hP 0 rfl rfl 26 (by decide) (hts _ (gw_mem wfX9_36)) (fun _ h9 => h9) rfl dX9_table_93 ?_
        refine lv_iload hx hb dX9_table_96 (lv_at hl 0 rfl) ?_
        obtain ⟨h56, hf⟩ := og_some hf
        refine va_lald hx hb hK.1 hP 9 1 rfl rfl (okI_in h56) dX9_table_98 ?_
        refine lv_lconst (v := 0) hx hb dX9_table_99 rfl ?_
        refine W.lcmp hx hb dX9_table_100 ?_
        refine lv_if_ne (tgt := 107) hx hb dX9_table_101 (by decide) (fun k57 => ?_) (fun k57 => ?_)
        · replace hf := ifn (fun h => k57 (lc_eq.mpr h)) hf
          refine lv_iload hx hb dX9_table_107 (lv_at hl 4 rfl) ?_
          refine lv_if_ne (tgt := 172) hx hb dX9_table_109 (by decide) (fun k58 => ?_) (fun k58 => ?_)
          · replace hf := ifn k58 hf
            refine lv_iload hx hb dX9_table_172 (lv_at hl 4 rfl) ?_
            refine lv_iconst (v := 1) hx hb dX9_table_174 (by decide) ?_
            refine lv_isub hx hb dX9_table_175 ?_
            refine lv_topi (fun w59 ew59 => ?_)
            replace hf := nm_at hf ew59
            refine lv_istore (lv' := [(5, .int w59), (9, .int r54), (0, .ref (ad 0)), (2, .int x2), (4, .int x4), (6, .int x6), (7, .int x7), (8, .int x8)]) hx hb dX9_table_176 hl (by decide) rfl (fun ls hl => ?_)
            obtain ⟨w60, ew60⟩ : ∃ y : Int32, y = x8 + 1 := ⟨_, rfl⟩
            replace hf := nm_at hf ew60
            refine lv_iinc (v := w60) (lv' := [(8, .int w60), (5, .int w59), (9, .int r54), (0, .ref (ad 0)), (2, .int x2), (4, .int x4), (6, .int x6), (7, .int x7)]) hx hb dX9_table_178 hl (k := 7) rfl (by rw [ew60]; rfl) (by decide) rfl (fun ls hl => ?_)
            refine lv_goto (tgt := 74) hx hb dX9_table_181 (by decide) ?_
            exact ih74 _ _ _ _ _ _ _ _ _ _ _ _ _ _ _ _ _ _ _ _ _ _ _ _ _ _ _ _ _ _ _ _ _ _ _ _ _ _ _ _ _ _ _ _ _ _ _ _ _ _ _ _ _ _ _ _ _ _ hP hD hS hf (lv_sub hl [3, 4, 5, 1, 6, 7, 0] rfl) hk0 hk1
          · replace hf := ifp k58 hf
            cases hf
            exact hk0 rfl _ _ _ hP hD hS (lv_sub hl [1, 3, 5, 6, 7, 0] rfl)
        · replace hf := ifp (lc_eq.mp k57) hf
          refine lv_goto (tgt := 178) hx hb dX9_table_104 (by decide) ?_
          obtain ⟨w61, ew61⟩ : ∃ y : Int32, y = x8 + 1 := ⟨_, rfl⟩
          replace hf := nm_at hf ew61
          refine lv_iinc (v := w61) (lv' := [(8, .int w61), (9, .int r54), (0, .ref (ad 0)), (2, .int x2), (4, .int x4), (5, .int x5), (6, .int x6), (7, .int x7)]) hx hb dX9_table_178 hl (k := 7) rfl (by rw [ew61]; rfl) (by decide) rfl (fun ls hl => ?_)
          refine lv_goto (tgt := 74) hx hb dX9_table_181 (by decide) ?_
          exact ih74 _ _ _ _ _ _ _ _ _ _ _ _ _ _ _ _ _ _ _ _ _ _ _ _ _ _ _ _ _ _ _ _ _ _ _ _ _ _ _ _ _ _ _ _ _ _ _ _ _ _ _ _ _ _ _ _ _ _ hP hD hS hf (lv_sub hl [2, 3, 4, 5, 6, 7, 0] rfl) hk0 hk1
  have LP64 : ∀ (n : Nat) (x2 : Int32) (x4 : Int32) (x6 : Int32) (c_way : Nat → Int64) (c_tape : Nat → Int32) (c_taped : Int32) (c_tree : Nat → Int32) (c_bonds : Nat → Int32) (c_moves : Nat → Int32) (c_handMoves : Nat → Int32) (c_moved : Int32) (c_days : Int32) (c_likely : Int32) (c_outOf : Int32) (c_rateNow : Int32) (c_pence : Nat → Int64) (c_top : Int64) (c_bottom : Int64) (c_spot : Int32) (c_textLong : Int32) (c_fault : Int32) (c_number : Int32) (c_numberAt : Int32) (c_figures : Int32) (c_written : Int32) (c_wanted : Int32) (c_found : Int32) (c_drawnNow : Int32) (c_worth : Nat → Int64) (c_hold : Nat → Int64) (c_acts : Nat → Int32) (c_sDay : Int32) (c_sUps : Int32) (c_sUp : Int32) (c_sMarks : Int32) (c_paidAll : Int64) (c_isPlayed : Int32) (c_isOn : Int32) (c_handMoved : Int32) (c_handPaid : Int64) (c_regret : Int64) (c_aside : Nat → Int32) (c_other : Nat → Int64) (c_states : Int32) (c_kept : Nat → Int32) (c_keptLong : Nat → Int64) (c_keptAt : Int32) (c_isTaking : Int32) (x5 : Int32) (x7 : Int32) (tgo : Nat) (o5 : Int32) (o7 : Int32) (o8 : Int32) (o9 : Int32) (H : Heap) (locs : List Loc) (ls : Array Slot), va_P (dC, dI) vwCl (mW dA ad c_tape c_taped c_tree c_bonds c_moves c_handMoves c_moved c_days c_likely c_outOf c_rateNow c_pence c_top c_bottom c_spot c_textLong c_fault c_number c_numberAt c_figures c_written c_wanted c_found c_drawnNow c_worth c_hold c_way c_acts c_sDay c_sUps c_sUp c_sMarks c_paidAll c_isPlayed c_isOn c_handMoved c_handPaid c_regret c_aside c_other c_states c_kept c_keptLong c_keptAt c_isTaking) H → va_D A (mW dA ad c_tape c_taped c_tree c_bonds c_moves c_handMoves c_moved c_days c_likely c_outOf c_rateNow c_pence c_top c_bottom c_spot c_textLong c_fault c_number c_numberAt c_figures c_written c_wanted c_found c_drawnNow c_worth c_hold c_way c_acts c_sDay c_sUps c_sUp c_sMarks c_paidAll c_isPlayed c_isOn c_handMoved c_handPaid c_regret c_aside c_other c_states c_kept c_keptLong c_keptAt c_isTaking) → va_S A s.heap H locs → lpX9_table_64 x2 x4 x6 c_way n x5 x7 = some (tgo, o5, o7, o8, o9) → lv_has ls 10 [(0, .ref (ad 0)), (2, .int x2), (4, .int x4), (5, .int x5), (6, .int x6), (7, .int x7)] → (tgo = 0 → ∀ (H : Heap) (locs : List Loc) (ls : Array Slot), va_P (dC, dI) vwCl (mW dA ad c_tape c_taped c_tree c_bonds c_moves c_handMoves c_moved c_days c_likely c_outOf c_rateNow c_pence c_top c_bottom c_spot c_textLong c_fault c_number c_numberAt c_figures c_written c_wanted c_found c_drawnNow c_worth c_hold c_way c_acts c_sDay c_sUps c_sUp c_sMarks c_paidAll c_isPlayed c_isOn c_handMoved c_handPaid c_regret c_aside c_other c_states c_kept c_keptLong c_keptAt c_isTaking) H → va_D A (mW dA ad c_tape c_taped c_tree c_bonds c_moves c_handMoves c_moved c_days c_likely c_outOf c_rateNow c_pence c_top c_bottom c_spot c_textLong c_fault c_number c_numberAt c_figures c_written c_wanted c_found c_drawnNow c_worth c_hold c_way c_acts c_sDay c_sUps c_sUp c_sMarks c_paidAll c_isPlayed c_isOn c_handMoved c_handPaid c_regret c_aside c_other c_states c_kept c_keptLong c_keptAt c_isTaking) → va_S A s.heap H locs → lv_has ls 10 [(0, .ref (ad 0)), (4, .int x4), (6, .int x6), (7, .int o7), (8, .int o8), (9, .int o9)] → W p l e rmX9_table s m ([.ref (ad 0), .int p1, .int p2, .int p3, .int p4] : List Value).toArray below meth c H locs 0 0 Q (F0 m 112 ls [])) → (tgo = 1 → ∀ (H : Heap) (locs : List Loc) (ls : Array Slot), va_P (dC, dI) vwCl (mW dA ad c_tape c_taped c_tree c_bonds c_moves c_handMoves c_moved c_days c_likely c_outOf c_rateNow c_pence c_top c_bottom c_spot c_textLong c_fault c_number c_numberAt c_figures c_written c_wanted c_found c_drawnNow c_worth c_hold c_way c_acts c_sDay c_sUps c_sUp c_sMarks c_paidAll c_isPlayed c_isOn c_handMoved c_handPaid c_regret c_aside c_other c_states c_kept c_keptLong c_keptAt c_isTaking) H → va_D A (mW dA ad c_tape c_taped c_tree c_bonds c_moves c_handMoves c_moved c_days c_likely c_outOf c_rateNow c_pence c_top c_bottom c_spot c_textLong c_fault c_number c_numberAt c_figures c_written c_wanted c_found c_drawnNow c_worth c_hold c_way c_acts c_sDay c_sUps c_sUp c_sMarks c_paidAll c_isPlayed c_isOn c_handMoved c_handPaid c_regret c_aside c_other c_states c_kept c_keptLong c_keptAt c_isTaking) → va_S A s.heap H locs → lv_has ls 10 [(0, .ref (ad 0)), (2, .int x2), (4, .int x4), (5, .int o5), (6, .int x6)] → W p l e rmX9_table s m ([.ref (ad 0), .int p1, .int p2, .int p3, .int p4] : List Value).toArray below meth c H locs 0 0 Q (F0 m 190 ls [])) → W p l e rmX9_table s m ([.ref (ad 0), .int p1, .int p2, .int p3, .int p4] : List Value).toArray below meth c H locs 0 0 Q (F0 m 64 ls []) := by
    intro n
    induction n with
    | zero =>
      intro x2 x4 x6 c_way c_tape c_taped c_tree c_bonds c_moves c_handMoves c_moved c_days c_likely c_outOf c_rateNow c_pence c_top c_bottom c_spot c_textLong c_fault c_number c_numberAt c_figures c_written c_wanted c_found c_drawnNow c_worth c_hold c_acts c_sDay c_sUps c_sUp c_sMarks c_paidAll c_isPlayed c_isOn c_handMoved c_handPaid c_regret c_aside c_other c_states c_kept c_keptLong c_keptAt c_isTaking x5 x7 tgo o5 o7 o8 o9 H locs ls hP hD hS hf hl hk0 hk1
      cases hf
    | succ n ih64 =>
      intro x2 x4 x6 c_way c_tape c_taped c_tree c_bonds c_moves c_handMoves c_moved c_days c_likely c_outOf c_rateNow c_pence c_top c_bottom c_spot c_textLong c_fault c_number c_numberAt c_figures c_written c_wanted c_found c_drawnNow c_worth c_hold c_acts c_sDay c_sUps c_sUp c_sMarks c_paidAll c_isPlayed c_isOn c_handMoved c_handPaid c_regret c_aside c_other c_states c_kept c_keptLong c_keptAt c_isTaking x5 x7 tgo o5 o7 o8 o9 H locs ls hP hD hS hf hl hk0 hk1
      rw [lpX9_table_64.eq_2] at hf
      refine lv_iload hx hb dX9_table_64 (lv_at hl 5 rfl) ?_
      refine lv_bipush (v := 8) hx hb dX9_table_66 (by decide) ?_
      refine lv_icmp_ge (tgt := 190) hx hb dX9_table_68 (by decide) (fun k46 => ?_) (fun k46 => ?_)
      · replace hf := ifp k46 hf
        cases hf
        exact hk1 rfl _ _ _ hP hD hS (lv_sub hl [0, 1, 2, 3, 4] rfl)
      · replace hf := ifn k46 hf
        refine lv_iconst (v := 0) hx hb dX9_table_71 (by decide) ?_
        refine lv_istore (lv' := [(8, .int 0), (0, .ref (ad 0)), (2, .int x2), (4, .int x4), (5, .int x5), (6, .int x6), (7, .int x7)]) hx hb dX9_table_72 hl (by decide) rfl (fun ls hl => ?_)
        obtain ⟨tg47, x48, x49, x50, v51, hf⟩ := bd4_some hf
        refine LP74 FU _ _ _ _ _ _ _ _ _ _ _ _ _ _ _ _ _ _ _ _ _ _ _ _ _ _ _ _ _ _ _ _ _ _ _ _ _ _ _ _ _ _ _ _ _ _ _ _ _ _ _ _ _ _ _ _ _ _ hP hD hS v51 (lv_sub hl [1, 2, 3, 4, 5, 6, 0] rfl) (fun etg47 H locs ls hP hD hS hl => ?_) (fun etg47 H locs ls hP hD hS hl => ?_)
        · replace hf := ifp etg47 hf
          cases hf
          exact hk0 rfl _ _ _ hP hD hS (lv_sub hl [0, 1, 2, 3, 4, 5] rfl)
        · replace hf := ifn (c := tg47 = 0) (by rw [etg47]; decide) hf
          obtain ⟨w52, ew52⟩ : ∃ y : Int32, y = x7 + 1 := ⟨_, rfl⟩
          replace hf := nm_at hf ew52
          refine lv_iinc (v := w52) (lv' := [(7, .int w52), (0, .ref (ad 0)), (2, .int x2), (4, .int x4), (5, .int x48), (6, .int x6)]) hx hb dX9_table_184 hl (k := 5) rfl (by rw [ew52]; rfl) (by decide) rfl (fun ls hl => ?_)
          refine lv_goto (tgt := 64) hx hb dX9_table_187 (by decide) ?_
          exact ih64 _ _ _ _ _ _ _ _ _ _ _ _ _ _ _ _ _ _ _ _ _ _ _ _ _ _ _ _ _ _ _ _ _ _ _ _ _ _ _ _ _ _ _ _ _ _ _ _ _ _ _ _ _ _ _ _ _ _ hP hD hS hf (lv_sub hl [1, 2, 3, 4, 5, 0] rfl) hk0 hk1
  have LP55 : ∀ (n : Nat) (x2 : Int32) (x4 : Int32) (c_way : Nat → Int64) (c_tape : Nat → Int32) (c_taped : Int32) (c_tree : Nat → Int32) (c_bonds : Nat → Int32) (c_moves : Nat → Int32) (c_handMoves : Nat → Int32) (c_moved : Int32) (c_days : Int32) (c_likely : Int32) (c_outOf : Int32) (c_rateNow : Int32) (c_pence : Nat → Int64) (c_top : Int64) (c_bottom : Int64) (c_spot : Int32) (c_textLong : Int32) (c_fault : Int32) (c_number : Int32) (c_numberAt : Int32) (c_figures : Int32) (c_written : Int32) (c_wanted : Int32) (c_found : Int32) (c_drawnNow : Int32) (c_worth : Nat → Int64) (c_hold : Nat → Int64) (c_acts : Nat → Int32) (c_sDay : Int32) (c_sUps : Int32) (c_sUp : Int32) (c_sMarks : Int32) (c_paidAll : Int64) (c_isPlayed : Int32) (c_isOn : Int32) (c_handMoved : Int32) (c_handPaid : Int64) (c_regret : Int64) (c_aside : Nat → Int32) (c_other : Nat → Int64) (c_states : Int32) (c_kept : Nat → Int32) (c_keptLong : Nat → Int64) (c_keptAt : Int32) (c_isTaking : Int32) (x5 : Int32) (x6 : Int32) (tgo : Nat) (o6 : Int32) (o7 : Int32) (o8 : Int32) (o9 : Int32) (H : Heap) (locs : List Loc) (ls : Array Slot), va_P (dC, dI) vwCl (mW dA ad c_tape c_taped c_tree c_bonds c_moves c_handMoves c_moved c_days c_likely c_outOf c_rateNow c_pence c_top c_bottom c_spot c_textLong c_fault c_number c_numberAt c_figures c_written c_wanted c_found c_drawnNow c_worth c_hold c_way c_acts c_sDay c_sUps c_sUp c_sMarks c_paidAll c_isPlayed c_isOn c_handMoved c_handPaid c_regret c_aside c_other c_states c_kept c_keptLong c_keptAt c_isTaking) H → va_D A (mW dA ad c_tape c_taped c_tree c_bonds c_moves c_handMoves c_moved c_days c_likely c_outOf c_rateNow c_pence c_top c_bottom c_spot c_textLong c_fault c_number c_numberAt c_figures c_written c_wanted c_found c_drawnNow c_worth c_hold c_way c_acts c_sDay c_sUps c_sUp c_sMarks c_paidAll c_isPlayed c_isOn c_handMoved c_handPaid c_regret c_aside c_other c_states c_kept c_keptLong c_keptAt c_isTaking) → va_S A s.heap H locs → lpX9_table_55 x2 x4 c_way n x5 x6 = some (tgo, o6, o7, o8, o9) → lv_has ls 10 [(0, .ref (ad 0)), (2, .int x2), (4, .int x4), (5, .int x5), (6, .int x6)] → (tgo = 0 → ∀ (H : Heap) (locs : List Loc) (ls : Array Slot), va_P (dC, dI) vwCl (mW dA ad c_tape c_taped c_tree c_bonds c_moves c_handMoves c_moved c_days c_likely c_outOf c_rateNow c_pence c_top c_bottom c_spot c_textLong c_fault c_number c_numberAt c_figures c_written c_wanted c_found c_drawnNow c_worth c_hold c_way c_acts c_sDay c_sUps c_sUp c_sMarks c_paidAll c_isPlayed c_isOn c_handMoved c_handPaid c_regret c_aside c_other c_states c_kept c_keptLong c_keptAt c_isTaking) H → va_D A (mW dA ad c_tape c_taped c_tree c_bonds c_moves c_handMoves c_moved c_days c_likely c_outOf c_rateNow c_pence c_top c_bottom c_spot c_textLong c_fault c_number c_numberAt c_figures c_written c_wanted c_found c_drawnNow c_worth c_hold c_way c_acts c_sDay c_sUps c_sUp c_sMarks c_paidAll c_isPlayed c_isOn c_handMoved c_handPaid c_regret c_aside c_other c_states c_kept c_keptLong c_keptAt c_isTaking) → va_S A s.heap H locs → lv_has ls 10 [(0, .ref (ad 0)), (4, .int x4), (6, .int o6), (7, .int o7), (8, .int o8), (9, .int o9)] → W p l e rmX9_table s m ([.ref (ad 0), .int p1, .int p2, .int p3, .int p4] : List Value).toArray below meth c H locs 0 0 Q (F0 m 112 ls [])) → (tgo = 1 → ∀ (H : Heap) (locs : List Loc) (ls : Array Slot), va_P (dC, dI) vwCl (mW dA ad c_tape c_taped c_tree c_bonds c_moves c_handMoves c_moved c_days c_likely c_outOf c_rateNow c_pence c_top c_bottom c_spot c_textLong c_fault c_number c_numberAt c_figures c_written c_wanted c_found c_drawnNow c_worth c_hold c_way c_acts c_sDay c_sUps c_sUp c_sMarks c_paidAll c_isPlayed c_isOn c_handMoved c_handPaid c_regret c_aside c_other c_states c_kept c_keptLong c_keptAt c_isTaking) H → va_D A (mW dA ad c_tape c_taped c_tree c_bonds c_moves c_handMoves c_moved c_days c_likely c_outOf c_rateNow c_pence c_top c_bottom c_spot c_textLong c_fault c_number c_numberAt c_figures c_written c_wanted c_found c_drawnNow c_worth c_hold c_way c_acts c_sDay c_sUps c_sUp c_sMarks c_paidAll c_isPlayed c_isOn c_handMoved c_handPaid c_regret c_aside c_other c_states c_kept c_keptLong c_keptAt c_isTaking) → va_S A s.heap H locs → lv_has ls 10 [] → W p l e rmX9_table s m ([.ref (ad 0), .int p1, .int p2, .int p3, .int p4] : List Value).toArray below meth c H locs 0 0 Q (F0 m 196 ls [])) → W p l e rmX9_table s m ([.ref (ad 0), .int p1, .int p2, .int p3, .int p4] : List Value).toArray below meth c H locs 0 0 Q (F0 m 55 ls []) := by
    intro n
    induction n with
    | zero =>
      intro x2 x4 c_way c_tape c_taped c_tree c_bonds c_moves c_handMoves c_moved c_days c_likely c_outOf c_rateNow c_pence c_top c_bottom c_spot c_textLong c_fault c_number c_numberAt c_figures c_written c_wanted c_found c_drawnNow c_worth c_hold c_acts c_sDay c_sUps c_sUp c_sMarks c_paidAll c_isPlayed c_isOn c_handMoved c_handPaid c_regret c_aside c_other c_states c_kept c_keptLong c_keptAt c_isTaking x5 x6 tgo o6 o7 o8 o9 H locs ls hP hD hS hf hl hk0 hk1
      cases hf
    | succ n ih55 =>
      intro x2 x4 c_way c_tape c_taped c_tree c_bonds c_moves c_handMoves c_moved c_days c_likely c_outOf c_rateNow c_pence c_top c_bottom c_spot c_textLong c_fault c_number c_numberAt c_figures c_written c_wanted c_found c_drawnNow c_worth c_hold c_acts c_sDay c_sUps c_sUp c_sMarks c_paidAll c_isPlayed c_isOn c_handMoved c_handPaid c_regret c_aside c_other c_states c_kept c_keptLong c_keptAt c_isTaking x5 x6 tgo o6 o7 o8 o9 H locs ls hP hD hS hf hl hk0 hk1
      rw [lpX9_table_55.eq_2] at hf
      refine lv_iload hx hb dX9_table_55 (lv_at hl 4 rfl) ?_
      refine lv_iload_n hx hb dX9_table_57 rfl (lv_at hl 1 rfl) ?_
      refine lv_icmp_gt (tgt := 196) hx hb dX9_table_58 (by decide) (fun k38 => ?_) (fun k38 => ?_)
      · replace hf := ifp k38 hf
        cases hf
        exact hk1 rfl _ _ _ hP hD hS (lv_sub hl [] rfl)
      · replace hf := ifn k38 hf
        refine lv_iconst (v := 0) hx hb dX9_table_61 (by decide) ?_
        refine lv_istore (lv' := [(7, .int 0), (0, .ref (ad 0)), (2, .int x2), (4, .int x4), (5, .int x5), (6, .int x6)]) hx hb dX9_table_62 hl (by decide) rfl (fun ls hl => ?_)
        obtain ⟨tg39, x40, x41, x42, x43, v44, hf⟩ := bd5_some hf
        refine LP64 FU _ _ _ _ _ _ _ _ _ _ _ _ _ _ _ _ _ _ _ _ _ _ _ _ _ _ _ _ _ _ _ _ _ _ _ _ _ _ _ _ _ _ _ _ _ _ _ _ _ _ _ _ _ _ _ _ _ _ hP hD hS v44 (lv_sub hl [1, 2, 3, 4, 5, 0] rfl) (fun etg39 H locs ls hP hD hS hl => ?_) (fun etg39 H locs ls hP hD hS hl => ?_)
        · replace hf := ifp etg39 hf
          cases hf
          exact hk0 rfl _ _ _ hP hD hS (lv_sub hl [0, 1, 2, 3, 4, 5] rfl)
        · replace hf := ifn (c := tg39 = 0) (by rw [etg39]; decide) hf
          obtain ⟨w45, ew45⟩ : ∃ y : Int32, y = x6 + 1 := ⟨_, rfl⟩
          replace hf := nm_at hf ew45
          refine lv_iinc (v := w45) (lv' := [(6, .int w45), (0, .ref (ad 0)), (2, .int x2), (4, .int x4), (5, .int x40)]) hx hb dX9_table_190 hl (k := 4) rfl (by rw [ew45]; rfl) (by decide) rfl (fun ls hl => ?_)
          refine lv_goto (tgt := 55) hx hb dX9_table_193 (by decide) ?_
          exact ih55 _ _ _ _ _ _ _ _ _ _ _ _ _ _ _ _ _ _ _ _ _ _ _ _ _ _ _ _ _ _ _ _ _ _ _ _ _ _ _ _ _ _ _ _ _ _ _ _ _ _ _ _ _ _ _ _ _ hP hD hS hf (lv_sub hl [1, 2, 3, 4, 0] rfl) hk0 hk1
  subst hQ
  unfold fX9_table at hf
  refine lv_iload_n hx hb dX9_table_0 rfl (lv_at hl 1 rfl) ?_
  obtain ⟨r1, v2, hf⟩ := bd1_some hf
  refine gci0 (va_runS (As := [.int p1]) (rest := []) ⟨hx, hb, hml, hown, hts⟩ (tX9_isBond l dC dI dA s.heap.size v2) (ccX9_X9_isBond hts ⟨Nat.le_of_ble_eq_true rfl, Nat.le_of_ble_eq_true rfl⟩) (gPreS0 hK) rfl rfl hl.1 rfl (lv_room (Nat.le_of_ble_eq_true rfl)) dX9_table_1 ⟨Nat.le_of_ble_eq_true rfl, Nat.le_of_ble_eq_true rfl⟩) hP hS hA (fun H locs hP hS => ?_)
  refine lv_if_eq (tgt := 40) hx hb dX9_table_4 (by decide) (fun k3 => ?_) (fun k3 => ?_)
  · replace hf := ifp k3 hf
    refine lv_ldc2 (v := (-1)) hx hb hown (hts _ (gw_mem wkX9_116)) dX9_table_40 ?_
    cases hf
    exact W.lret hx hb hr (fun t ht _ => gql hP hD hS ht) hS.2.2 dX9_table_43
  · replace hf := ifn k3 hf
    refine lv_iload_n hx hb dX9_table_7 rfl (lv_at hl 2 rfl) ?_
    refine lv_i2l hx hb dX9_table_8 rfl ?_
    refine lv_lconst (v := 0) hx hb dX9_table_9 rfl ?_
    refine lv_aload_n hx hb dX9_table_10 rfl (lv_at hl 0 rfl) ?_
    refine va_get (D := (dC, dI)) (ci := 9) (v := .ref (ad 2)) (C := RX9) (T := TX9) (N := 45) hx hb hts (fun w h => gw_mem (inX9 w h)) hown hK.1 hP 0 rfl rfl 2 (by decide) (hts _ (gw_mem wfX9_13)) (fun _ h9 => h9) rfl dX9_table_11 ?_
    refine lv_iconst (v := 0) hx hb dX9_table_14 (by decide) ?_
    refine va_iald hx hb hK.1 hP 2 0 rfl rfl (okI_in (by decide)) dX9_table_15 ?_
    refine lv_i2l hx hb dX9_table_16 rfl ?_
    obtain ⟨r4, v5, hf⟩ := bd1_some hf
    refine gci0 (va_runS (As := [.long (Int32.toInt64 p2), .long 0, .long (Int32.toInt64 (c_tree (Int32.toNatClampNeg 0)))]) (rest := []) ⟨hx, hb, hml, hown, hts⟩ (tX9_in l dC dI dA H.size v5) (ccX9_X9_in hts ⟨Nat.le_of_ble_eq_true rfl, Nat.le_of_ble_eq_true rfl⟩) (gPreS0 hK) rfl rfl hl.1 rfl (lv_room (Nat.le_of_ble_eq_true rfl)) dX9_table_17 ⟨Nat.le_of_ble_eq_true rfl, Nat.le_of_ble_eq_true rfl⟩) hP hS hA (fun H locs hP hS => ?_)
    refine lv_if_eq (tgt := 40) hx hb dX9_table_20 (by decide) (fun k6 => ?_) (fun k6 => ?_)
    · replace hf := ifp k6 hf
      refine lv_ldc2 (v := (-1)) hx hb hown (hts _ (gw_mem wkX9_116)) dX9_table_40 ?_
      cases hf
      exact W.lret hx hb hr (fun t ht _ => gql hP hD hS ht) hS.2.2 dX9_table_43
    · replace hf := ifn k6 hf
      refine lv_iload_n hx hb dX9_table_23 rfl (lv_at hl 3 rfl) ?_
      refine lv_if_lt (tgt := 40) hx hb dX9_table_24 (by decide) (fun k7 => ?_) (fun k7 => ?_)
      · replace hf := ifp k7 hf
        refine lv_ldc2 (v := (-1)) hx hb hown (hts _ (gw_mem wkX9_116)) dX9_table_40 ?_
        cases hf
        exact W.lret hx hb hr (fun t ht _ => gql hP hD hS ht) hS.2.2 dX9_table_43
      · replace hf := ifn k7 hf
        refine lv_iload hx hb dX9_table_27 (lv_at hl 4 rfl) ?_
        refine lv_i2l hx hb dX9_table_29 rfl ?_
        refine lv_lconst (v := 0) hx hb dX9_table_30 rfl ?_
        refine lv_ldc2 (v := 4) hx hb hown (hts _ (gw_mem wkX9_147)) dX9_table_31 ?_
        obtain ⟨r8, v9, hf⟩ := bd1_some hf
        refine gci0 (va_runS (As := [.long (Int32.toInt64 p4), .long 0, .long 4]) (rest := []) ⟨hx, hb, hml, hown, hts⟩ (tX9_in l dC dI dA H.size v9) (ccX9_X9_in hts ⟨Nat.le_of_ble_eq_true rfl, Nat.le_of_ble_eq_true rfl⟩) (gPreS0 hK) rfl rfl hl.1 rfl (lv_room (Nat.le_of_ble_eq_true rfl)) dX9_table_34 ⟨Nat.le_of_ble_eq_true rfl, Nat.le_of_ble_eq_true rfl⟩) hP hS hA (fun H locs hP hS => ?_)
        refine lv_if_ne (tgt := 44) hx hb dX9_table_37 (by decide) (fun k10 => ?_) (fun k10 => ?_)
        · replace hf := ifn k10 hf
          refine lv_aload_n hx hb dX9_table_44 rfl (lv_at hl 0 rfl) ?_
          refine lv_iload_n hx hb dX9_table_45 rfl (lv_at hl 1 rfl) ?_
          obtain ⟨c_days_11, c_likely_12, c_outOf_13, c_rateNow_14, c_pence_15, c_top_16, c_bottom_17, c_worth_18, c_hold_19, c_way_20, c_acts_21, v22, hf⟩ := bd11_some hf
          refine gcv (va_runV (As := [.int p1]) (rest := []) ⟨hx, hb, hml, hown, hts⟩ (tX9_laysAll l dC dI dA ad H.size v22) (ccX9_X9_laysAll hts ⟨Nat.le_of_ble_eq_true rfl, Nat.le_of_ble_eq_true rfl⟩) (gPreV (ci := 9) (q0 := 0) hP hK hD rfl rfl) rfl rfl hl.1 rfl (lv_room (Nat.le_of_ble_eq_true rfl)) dX9_table_46 ⟨Nat.le_of_ble_eq_true rfl, Nat.le_of_ble_eq_true rfl⟩) hD hS hA (fun H locs hP hD hS => ?_)
          refine lv_iload_n hx hb dX9_table_49 rfl (lv_at hl 3 rfl) ?_
          refine lv_istore (lv' := [(5, .int p3), (0, .ref (ad 0)), (1, .int p1), (2, .int p2), (3, .int p3), (4, .int p4)]) hx hb dX9_table_50 hl (by decide) rfl (fun ls hl => ?_)
          refine lv_iconst (v := 0) hx hb dX9_table_52 (by decide) ?_
          refine lv_istore (lv' := [(6, .int 0), (5, .int p3), (0, .ref (ad 0)), (1, .int p1), (2, .int p2), (3, .int p3), (4, .int p4)]) hx hb dX9_table_53 hl (by decide) rfl (fun ls hl => ?_)
          obtain ⟨tg23, x24, x25, x26, x27, v28, hf⟩ := bd5_some hf
          refine LP55 FU _ _ _ _ _ _ _ _ _ _ _ _ _ _ _ _ _ _ _ _ _ _ _ _ _ _ _ _ _ _ _ _ _ _ _ _ _ _ _ _ _ _ _ _ _ _ _ _ _ _ _ _ _ _ _ _ _ hP hD hS v28 (lv_sub hl [2, 4, 6, 1, 0] rfl) (fun etg23 H locs ls hP hD hS hl => ?_) (fun etg23 H locs ls hP hD hS hl => ?_)
          · replace hf := ifp etg23 hf
            refine lv_iload hx hb dX9_table_112 (lv_at hl 1 rfl) ?_
            obtain ⟨j30, v32, hf⟩ := bd1_some hf
            have J31 : ∀ (H : Heap) (locs : List Loc) (ls : Array Slot), va_P (dC, dI) vwCl (mW dA ad c_tape c_taped c_tree c_bonds c_moves c_handMoves c_moved c_days_11 c_likely_12 c_outOf_13 c_rateNow_14 c_pence_15 c_top_16 c_bottom_17 c_spot c_textLong c_fault c_number c_numberAt c_figures c_written c_wanted c_found c_drawnNow c_worth_18 c_hold_19 c_way_20 c_acts_21 c_sDay c_sUps c_sUp c_sMarks c_paidAll c_isPlayed c_isOn c_handMoved c_handPaid c_regret c_aside c_other c_states c_kept c_keptLong c_keptAt c_isTaking) H → va_D A (mW dA ad c_tape c_taped c_tree c_bonds c_moves c_handMoves c_moved c_days_11 c_likely_12 c_outOf_13 c_rateNow_14 c_pence_15 c_top_16 c_bottom_17 c_spot c_textLong c_fault c_number c_numberAt c_figures c_written c_wanted c_found c_drawnNow c_worth_18 c_hold_19 c_way_20 c_acts_21 c_sDay c_sUps c_sUp c_sMarks c_paidAll c_isPlayed c_isOn c_handMoved c_handPaid c_regret c_aside c_other c_states c_kept c_keptLong c_keptAt c_isTaking) → va_S A s.heap H locs → lv_has ls 10 [] → W p l e rmX9_table s m ([.ref (ad 0), .int p1, .int p2, .int p3, .int p4] : List Value).toArray below meth c H locs 0 0 (MQ below (gQl (dC, dI) r (mW dA ad c_tape c_taped c_tree c_bonds c_moves c_handMoves c_moved o_c_days o_c_likely o_c_outOf o_c_rateNow o_c_pence o_c_top o_c_bottom c_spot c_textLong c_fault c_number c_numberAt c_figures c_written c_wanted c_found c_drawnNow o_c_worth o_c_hold o_c_way o_c_acts c_sDay c_sUps c_sUp c_sMarks c_paidAll c_isPlayed c_isOn c_handMoved c_handPaid c_regret c_aside c_other c_states c_kept c_keptLong c_keptAt c_isTaking) A) ([.ref (ad 0), .int p1, .int p2, .int p3, .int p4] : List Value).toArray s 0 0 A) (F0 m 171 ls [.long j30]) := by
              intro H locs ls hP hD hS hl
              cases hf
              exact W.lret hx hb hr (fun t ht _ => gql hP hD hS ht) hS.2.2 dX9_table_171
            replace hf := v32
            clear v32
            refine lv_if_ne (tgt := 123) hx hb dX9_table_114 (by decide) (fun k29 => ?_) (fun k29 => ?_)
            · replace hf := ifn k29 hf
              refine lv_iload hx hb dX9_table_123 (lv_at hl 1 rfl) ?_
              refine lv_iconst (v := 1) hx hb dX9_table_125 (by decide) ?_
              refine lv_icmp_ne (tgt := 135) hx hb dX9_table_126 (by decide) (fun k33 => ?_) (fun k33 => ?_)
              · replace hf := ifn k33 hf
                refine lv_iload hx hb dX9_table_135 (lv_at hl 1 rfl) ?_
                refine lv_iconst (v := 2) hx hb dX9_table_137 (by decide) ?_
                refine lv_icmp_ne (tgt := 147) hx hb dX9_table_138 (by decide) (fun k34 => ?_) (fun k34 => ?_)
                · replace hf := ifn k34 hf
                  refine lv_iload hx hb dX9_table_147 (lv_at hl 1 rfl) ?_
                  refine lv_iconst (v := 3) hx hb dX9_table_149 (by decide) ?_
                  refine lv_icmp_ne (tgt := 163) hx hb dX9_table_150 (by decide) (fun k35 => ?_) (fun k35 => ?_)
                  · replace hf := ifn k35 hf
                    refine lv_aload_n hx hb dX9_table_163 rfl (lv_at hl 0 rfl) ?_
                    refine va_get (D := (dC, dI)) (ci := 9) (v := .ref (ad 10)) (C := RX9) (T := TX9) (N := 45) hx hb hts (fun w h => gw_mem (inX9 w h)) hown hK.1 hP 0 rfl rfl 27 (by decide) (hts _ (gw_mem wfX9_39)) (fun _ h9 => h9) rfl dX9_table_164 ?_
                    refine lv_iload hx hb dX9_table_167 (lv_at hl 5 rfl) ?_
                    obtain ⟨h36, hf⟩ := og_some hf
                    refine va_iald hx hb hK.1 hP 10 0 rfl rfl (okI_in h36) dX9_table_169 ?_
                    refine lv_i2l hx hb dX9_table_170 rfl ?_
                    cases hf
                    exact J31 _ _ _ hP hD hS (lv_sub hl [] rfl)
                  · replace hf := ifp k35 hf
                    refine lv_aload_n hx hb dX9_table_153 rfl (lv_at hl 0 rfl) ?_
                    refine va_get (D := (dC, dI)) (ci := 9) (v := .ref (ad 7)) (C := RX9) (T := TX9) (N := 45) hx hb hts (fun w h => gw_mem (inX9 w h)) hown hK.1 hP 0 rfl rfl 24 (by decide) (hts _ (gw_mem wfX9_30)) (fun _ h9 => h9) rfl dX9_table_154 ?_
                    refine lv_iload hx hb dX9_table_157 (lv_at hl 5 rfl) ?_
                    obtain ⟨h37, hf⟩ := og_some hf
                    refine va_lald hx hb hK.1 hP 7 1 rfl rfl (okI_in h37) dX9_table_159 ?_
                    refine lv_goto (tgt := 171) hx hb dX9_table_160 (by decide) ?_
                    cases hf
                    exact J31 _ _ _ hP hD hS (lv_sub hl [] rfl)
                · replace hf := ifp k34 hf
                  refine lv_iload hx hb dX9_table_141 (lv_at hl 4 rfl) ?_
                  refine lv_i2l hx hb dX9_table_143 rfl ?_
                  refine lv_goto (tgt := 171) hx hb dX9_table_144 (by decide) ?_
                  cases hf
                  exact J31 _ _ _ hP hD hS (lv_sub hl [] rfl)
              · replace hf := ifp k33 hf
                refine lv_iload hx hb dX9_table_129 (lv_at hl 3 rfl) ?_
                refine lv_i2l hx hb dX9_table_131 rfl ?_
                refine lv_goto (tgt := 171) hx hb dX9_table_132 (by decide) ?_
                cases hf
                exact J31 _ _ _ hP hD hS (lv_sub hl [] rfl)
            · replace hf := ifp k29 hf
              refine lv_iload hx hb dX9_table_117 (lv_at hl 2 rfl) ?_
              refine lv_i2l hx hb dX9_table_119 rfl ?_
              refine lv_goto (tgt := 171) hx hb dX9_table_120 (by decide) ?_
              cases hf
              exact J31 _ _ _ hP hD hS (lv_sub hl [] rfl)
          · replace hf := ifn (c := tg23 = 0) (by rw [etg23]; decide) hf
            refine lv_ldc2 (v := (-2)) hx hb hown (hts _ (gw_mem wkX9_343)) dX9_table_196 ?_
            cases hf
            exact W.lret hx hb hr (fun t ht _ => gql hP hD hS ht) hS.2.2 dX9_table_199
        · replace hf := ifp k10 hf
          refine lv_ldc2 (v := (-1)) hx hb hown (hts _ (gw_mem wkX9_116)) dX9_table_40 ?_
          cases hf
          exact W.lret hx hb hr (fun t ht _ => gql hP hD hS ht) hS.2.2 dX9_table_43
abbrev rmX9_rise : Room := { frames := 0, cells := 0, slots := 0, locals := 0 }
set_option maxHeartbeats 4000000 in
set_option maxRecDepth 100000 in
theorem tX9_rise (l : Launch) (dC : Nat → ClassId) (dI : Nat → Nat → Nat) (dA : Nat → ClassId) (ad : Nat → Nat) (sz : Nat) {c_tape : Nat → Int32} {c_taped : Int32} {c_tree : Nat → Int32} {c_bonds : Nat → Int32} {c_moves : Nat → Int32} {c_handMoves : Nat → Int32} {c_moved : Int32} {c_days : Int32} {c_likely : Int32} {c_outOf : Int32} {c_rateNow : Int32} {c_pence : Nat → Int64} {c_top : Int64} {c_bottom : Int64} {c_spot : Int32} {c_textLong : Int32} {c_fault : Int32} {c_number : Int32} {c_numberAt : Int32} {c_figures : Int32} {c_written : Int32} {c_wanted : Int32} {c_found : Int32} {c_drawnNow : Int32} {c_worth : Nat → Int64} {c_hold : Nat → Int64} {c_way : Nat → Int64} {c_acts : Nat → Int32} {c_sDay : Int32} {c_sUps : Int32} {c_sUp : Int32} {c_sMarks : Int32} {c_paidAll : Int64} {c_isPlayed : Int32} {c_isOn : Int32} {c_handMoved : Int32} {c_handPaid : Int64} {c_regret : Int64} {c_aside : Nat → Int32} {c_other : Nat → Int64} {c_states : Int32} {c_kept : Nat → Int32} {c_keptLong : Nat → Int64} {c_keptAt : Int32} {c_isTaking : Int32} {r : Int64} (hf : fX9_rise c_pence c_sDay c_sUps = some (r)) : Met l yX9_rise (wq (Cond.code yX9_rise cX9_rise 1 (some .long))) rmX9_rise (gP [.ref (ad 0)] (dC, dI) dA (mW dA ad c_tape c_taped c_tree c_bonds c_moves c_handMoves c_moved c_days c_likely c_outOf c_rateNow c_pence c_top c_bottom c_spot c_textLong c_fault c_number c_numberAt c_figures c_written c_wanted c_found c_drawnNow c_worth c_hold c_way c_acts c_sDay c_sUps c_sUp c_sMarks c_paidAll c_isPlayed c_isOn c_handMoved c_handPaid c_regret c_aside c_other c_states c_kept c_keptLong c_keptAt c_isTaking) sz) (gQl (dC, dI) r (mW dA ad c_tape c_taped c_tree c_bonds c_moves c_handMoves c_moved c_days c_likely c_outOf c_rateNow c_pence c_top c_bottom c_spot c_textLong c_fault c_number c_numberAt c_figures c_written c_wanted c_found c_drawnNow c_worth c_hold c_way c_acts c_sDay c_sUps c_sUp c_sMarks c_paidAll c_isPlayed c_isOn c_handMoved c_handPaid c_regret c_aside c_other c_states c_kept c_keptLong c_keptAt c_isTaking) (va_A (mW dA ad c_tape c_taped c_tree c_bonds c_moves c_handMoves c_moved c_days c_likely c_outOf c_rateNow c_pence c_top c_bottom c_spot c_textLong c_fault c_number c_numberAt c_figures c_written c_wanted c_found c_drawnNow c_worth c_hold c_way c_acts c_sDay c_sUps c_sUp c_sMarks c_paidAll c_isPlayed c_isOn c_handMoved c_handPaid c_regret c_aside c_other c_states c_kept c_keptLong c_keptAt c_isTaking) sz)) 0 0 (va_A (mW dA ad c_tape c_taped c_tree c_bonds c_moves c_handMoves c_moved c_days c_likely c_outOf c_rateNow c_pence c_top c_bottom c_spot c_textLong c_fault c_number c_numberAt c_figures c_written c_wanted c_found c_drawnNow c_worth c_hold c_way c_acts c_sDay c_sUps c_sUp c_sMarks c_paidAll c_isPlayed c_isOn c_handMoved c_handPaid c_regret c_aside c_other c_states c_kept c_keptLong c_keptAt c_isTaking) sz) := by
  refine Met.ofW (cc := cX9_rise) (maxL := 1) (ret := (some .long)) (by decide) rfl ?_
  intro p e s m args below meth c s₁ B hml hv
  obtain ⟨rfl, hsz, hP, hK, hD0⟩ := hv
  have hx := B.exec
  have hb := B.bytes
  have hr := B.returns
  have hts := atoms_spec (ws := wq (Cond.code yX9_rise cX9_rise 1 (some .long))) B.pre
  have hown : s.vm.findClass RX9 = some m.cls := findClass_of_methodNamed B.named
  have hlocks := B.notSynchronized
  clear B
  subst hsz
  have hD := hD0.self (sz := s.heap.size)
  generalize hAe : va_A (mW dA ad c_tape c_taped c_tree c_bonds c_moves c_handMoves c_moved c_days c_likely c_outOf c_rateNow c_pence c_top c_bottom c_spot c_textLong c_fault c_number c_numberAt c_figures c_written c_wanted c_found c_drawnNow c_worth c_hold c_way c_acts c_sDay c_sUps c_sUp c_sMarks c_paidAll c_isPlayed c_isOn c_handMoved c_handPaid c_regret c_aside c_other c_states c_kept c_keptLong c_keptAt c_isTaking) s.heap.size = A at hD ⊢
  have hA : ∀ q : Nat, s.heap.size ≤ q → A q := fun q h => by rw [← hAe]; exact Or.inr h
  clear hAe hD0
  have hS : va_S A s.heap s.heap [] := va_S.rf
  have hl := lv_entry ([.ref (ad 0)]) (n := 1) (Nat.le_of_ble_eq_true rfl)
  rw [lg_entry_eq]
  generalize (lg_sl ([.ref (ad 0)]) ++ List.replicate (1 - (lg_sl ([.ref (ad 0)])).length) Slot.unset).toArray = ls at hl ⊢
  have hl : lv_has ls 1 [(0, .ref (ad 0))] := hl
  change W p l e rmX9_rise s m ([.ref (ad 0)] : List Value).toArray below meth c s.heap [] 0 0 _ _
  unfold fX9_rise at hf
  refine lv_aload_n hx hb dX9_rise_0 rfl (lv_at hl 0 rfl) ?_
  refine va_get (D := (dC, dI)) (ci := 9) (v := .ref (ad 6)) (C := RX9) (T := TX9) (N := 45) hx hb hts (fun w h => gw_mem (inX9 w h)) hown hK.1 hP 0 rfl rfl 11 (by decide) (hts _ (gw_mem wfX9_26)) (fun _ h9 => h9) rfl dX9_rise_1 ?_
  refine lv_bipush (v := 7) hx hb dX9_rise_4 (by decide) ?_
  refine lv_aload_n hx hb dX9_rise_6 rfl (lv_at hl 0 rfl) ?_
  refine va_get (D := (dC, dI)) (ci := 9) (v := .int c_sDay) (C := RX9) (T := TX9) (N := 45) hx hb hts (fun w h => gw_mem (inX9 w h)) hown hK.1 hP 0 rfl rfl 28 (by decide) (hts _ (gw_mem wfX9_316)) (fun _ h9 => h9) rfl dX9_rise_7 ?_
  refine lv_iconst (v := 1) hx hb dX9_rise_10 (by decide) ?_
  refine lv_iadd hx hb dX9_rise_11 ?_
  refine lv_imul hx hb dX9_rise_12 ?_
  refine lv_aload_n hx hb dX9_rise_13 rfl (lv_at hl 0 rfl) ?_
  refine va_get (D := (dC, dI)) (ci := 9) (v := .int c_sUps) (C := RX9) (T := TX9) (N := 45) hx hb hts (fun w h => gw_mem (inX9 w h)) hown hK.1 hP 0 rfl rfl 29 (by decide) (hts _ (gw_mem wfX9_319)) (fun _ h9 => h9) rfl dX9_rise_14 ?_
  refine lv_iadd hx hb dX9_rise_17 ?_
  refine lv_iconst (v := 1) hx hb dX9_rise_18 (by decide) ?_
  refine lv_iadd hx hb dX9_rise_19 ?_
  obtain ⟨h1, hf⟩ := og_some hf
  refine va_lald hx hb hK.1 hP 6 1 rfl rfl (okI_in h1) dX9_rise_20 ?_
  refine lv_aload_n hx hb dX9_rise_21 rfl (lv_at hl 0 rfl) ?_
  refine va_get (D := (dC, dI)) (ci := 9) (v := .ref (ad 6)) (C := RX9) (T := TX9) (N := 45) hx hb hts (fun w h => gw_mem (inX9 w h)) hown hK.1 hP 0 rfl rfl 11 (by decide) (hts _ (gw_mem wfX9_26)) (fun _ h9 => h9) rfl dX9_rise_22 ?_
  refine lv_bipush (v := 7) hx hb dX9_rise_25 (by decide) ?_
  refine lv_aload_n hx hb dX9_rise_27 rfl (lv_at hl 0 rfl) ?_
  refine va_get (D := (dC, dI)) (ci := 9) (v := .int c_sDay) (C := RX9) (T := TX9) (N := 45) hx hb hts (fun w h => gw_mem (inX9 w h)) hown hK.1 hP 0 rfl rfl 28 (by decide) (hts _ (gw_mem wfX9_316)) (fun _ h9 => h9) rfl dX9_rise_28 ?_
  refine lv_iconst (v := 1) hx hb dX9_rise_31 (by decide) ?_
  refine lv_iadd hx hb dX9_rise_32 ?_
  refine lv_imul hx hb dX9_rise_33 ?_
  refine lv_aload_n hx hb dX9_rise_34 rfl (lv_at hl 0 rfl) ?_
  refine va_get (D := (dC, dI)) (ci := 9) (v := .int c_sUps) (C := RX9) (T := TX9) (N := 45) hx hb hts (fun w h => gw_mem (inX9 w h)) hown hK.1 hP 0 rfl rfl 29 (by decide) (hts _ (gw_mem wfX9_319)) (fun _ h9 => h9) rfl dX9_rise_35 ?_
  refine lv_iadd hx hb dX9_rise_38 ?_
  obtain ⟨h2, hf⟩ := og_some hf
  refine va_lald hx hb hK.1 hP 6 1 rfl rfl (okI_in h2) dX9_rise_39 ?_
  refine lv_lsub hx hb dX9_rise_40 ?_
  cases hf
  exact W.lret hx hb hr (fun t ht _ => gql hP hD hS ht) hS.2.2 dX9_rise_41
theorem ccX9_X9_rise {R : Room} {s : State} {args : Array Value} {c0 : Cond} (ht : ∀ w ∈ wq c0, w.before args s = true) (hR : rmX9_rise.frames + 1 ≤ R.frames ∧ 8 + (1 + 11) + rmX9_rise.locals ≤ R.locals) : CallW R s args RX9 RX9 382 yX9_rise cX9_rise 1 (some .long) (wq (.code yX9_rise cX9_rise 1 (some .long))) rmX9_rise 0 0 0 := gCW 0 ht wcX9_rise wmX9_382 wiX9_rise weX9_rise wnX9 (by decide +kernel) rfl rfl hR
abbrev rmX9_heldOf : Room := { frames := 3, cells := 0, slots := 0, locals := 71 }
set_option maxHeartbeats 4000000 in
set_option maxRecDepth 100000 in
theorem tX9_heldOf (l : Launch) (dC : Nat → ClassId) (dI : Nat → Nat → Nat) (dA : Nat → ClassId) (ad : Nat → Nat) (sz : Nat) {p1 : Int32} {c_tape : Nat → Int32} {c_taped : Int32} {c_tree : Nat → Int32} {c_bonds : Nat → Int32} {c_moves : Nat → Int32} {c_handMoves : Nat → Int32} {c_moved : Int32} {c_days : Int32} {c_likely : Int32} {c_outOf : Int32} {c_rateNow : Int32} {c_pence : Nat → Int64} {c_top : Int64} {c_bottom : Int64} {c_spot : Int32} {c_textLong : Int32} {c_fault : Int32} {c_number : Int32} {c_numberAt : Int32} {c_figures : Int32} {c_written : Int32} {c_wanted : Int32} {c_found : Int32} {c_drawnNow : Int32} {c_worth : Nat → Int64} {c_hold : Nat → Int64} {c_way : Nat → Int64} {c_acts : Nat → Int32} {c_sDay : Int32} {c_sUps : Int32} {c_sUp : Int32} {c_sMarks : Int32} {c_paidAll : Int64} {c_isPlayed : Int32} {c_isOn : Int32} {c_handMoved : Int32} {c_handPaid : Int64} {c_regret : Int64} {c_aside : Nat → Int32} {c_other : Nat → Int64} {c_states : Int32} {c_kept : Nat → Int32} {c_keptLong : Nat → Int64} {c_keptAt : Int32} {c_isTaking : Int32} {r : Int64} (hf : fX9_heldOf p1 c_bonds c_pence c_worth c_sDay c_sUps c_sUp c_sMarks = some (r)) : Met l yX9_heldOf (wq (Cond.code yX9_heldOf cX9_heldOf 6 (some .long))) rmX9_heldOf (gP [.ref (ad 0), .int p1] (dC, dI) dA (mW dA ad c_tape c_taped c_tree c_bonds c_moves c_handMoves c_moved c_days c_likely c_outOf c_rateNow c_pence c_top c_bottom c_spot c_textLong c_fault c_number c_numberAt c_figures c_written c_wanted c_found c_drawnNow c_worth c_hold c_way c_acts c_sDay c_sUps c_sUp c_sMarks c_paidAll c_isPlayed c_isOn c_handMoved c_handPaid c_regret c_aside c_other c_states c_kept c_keptLong c_keptAt c_isTaking) sz) (gQl (dC, dI) r (mW dA ad c_tape c_taped c_tree c_bonds c_moves c_handMoves c_moved c_days c_likely c_outOf c_rateNow c_pence c_top c_bottom c_spot c_textLong c_fault c_number c_numberAt c_figures c_written c_wanted c_found c_drawnNow c_worth c_hold c_way c_acts c_sDay c_sUps c_sUp c_sMarks c_paidAll c_isPlayed c_isOn c_handMoved c_handPaid c_regret c_aside c_other c_states c_kept c_keptLong c_keptAt c_isTaking) (va_A (mW dA ad c_tape c_taped c_tree c_bonds c_moves c_handMoves c_moved c_days c_likely c_outOf c_rateNow c_pence c_top c_bottom c_spot c_textLong c_fault c_number c_numberAt c_figures c_written c_wanted c_found c_drawnNow c_worth c_hold c_way c_acts c_sDay c_sUps c_sUp c_sMarks c_paidAll c_isPlayed c_isOn c_handMoved c_handPaid c_regret c_aside c_other c_states c_kept c_keptLong c_keptAt c_isTaking) sz)) 0 0 (va_A (mW dA ad c_tape c_taped c_tree c_bonds c_moves c_handMoves c_moved c_days c_likely c_outOf c_rateNow c_pence c_top c_bottom c_spot c_textLong c_fault c_number c_numberAt c_figures c_written c_wanted c_found c_drawnNow c_worth c_hold c_way c_acts c_sDay c_sUps c_sUp c_sMarks c_paidAll c_isPlayed c_isOn c_handMoved c_handPaid c_regret c_aside c_other c_states c_kept c_keptLong c_keptAt c_isTaking) sz) := by
  refine Met.ofW (cc := cX9_heldOf) (maxL := 6) (ret := (some .long)) (by decide) rfl ?_
  intro p e s m args below meth c s₁ B hml hv
  obtain ⟨rfl, hsz, hP, hK, hD0⟩ := hv
  have hx := B.exec
  have hb := B.bytes
  have hr := B.returns
  have hts := atoms_spec (ws := wq (Cond.code yX9_heldOf cX9_heldOf 6 (some .long))) B.pre
  have hown : s.vm.findClass RX9 = some m.cls := findClass_of_methodNamed B.named
  have hlocks := B.notSynchronized
  clear B
  subst hsz
  have hD := hD0.self (sz := s.heap.size)
  generalize hAe : va_A (mW dA ad c_tape c_taped c_tree c_bonds c_moves c_handMoves c_moved c_days c_likely c_outOf c_rateNow c_pence c_top c_bottom c_spot c_textLong c_fault c_number c_numberAt c_figures c_written c_wanted c_found c_drawnNow c_worth c_hold c_way c_acts c_sDay c_sUps c_sUp c_sMarks c_paidAll c_isPlayed c_isOn c_handMoved c_handPaid c_regret c_aside c_other c_states c_kept c_keptLong c_keptAt c_isTaking) s.heap.size = A at hD ⊢
  have hA : ∀ q : Nat, s.heap.size ≤ q → A q := fun q h => by rw [← hAe]; exact Or.inr h
  clear hAe hD0
  have hS : va_S A s.heap s.heap [] := va_S.rf
  have hl := lv_entry ([.ref (ad 0), .int p1]) (n := 6) (Nat.le_of_ble_eq_true rfl)
  rw [lg_entry_eq]
  generalize (lg_sl ([.ref (ad 0), .int p1]) ++ List.replicate (6 - (lg_sl ([.ref (ad 0), .int p1])).length) Slot.unset).toArray = ls at hl ⊢
  have hl : lv_has ls 6 [(0, .ref (ad 0)), (1, .int p1)] := hl
  change W p l e rmX9_heldOf s m ([.ref (ad 0), .int p1] : List Value).toArray below meth c s.heap [] 0 0 _ _
  unfold fX9_heldOf at hf
  refine lv_aload_n hx hb dX9_heldOf_0 rfl (lv_at hl 0 rfl) ?_
  refine va_get (D := (dC, dI)) (ci := 9) (v := .ref (ad 7)) (C := RX9) (T := TX9) (N := 45) hx hb hts (fun w h => gw_mem (inX9 w h)) hown hK.1 hP 0 rfl rfl 24 (by decide) (hts _ (gw_mem wfX9_30)) (fun _ h9 => h9) rfl dX9_heldOf_1 ?_
  refine lv_aload_n hx hb dX9_heldOf_4 rfl (lv_at hl 0 rfl) ?_
  refine lv_iload_n hx hb dX9_heldOf_5 rfl (lv_at hl 1 rfl) ?_
  refine lv_aload_n hx hb dX9_heldOf_6 rfl (lv_at hl 0 rfl) ?_
  refine va_get (D := (dC, dI)) (ci := 9) (v := .int c_sDay) (C := RX9) (T := TX9) (N := 45) hx hb hts (fun w h => gw_mem (inX9 w h)) hown hK.1 hP 0 rfl rfl 28 (by decide) (hts _ (gw_mem wfX9_316)) (fun _ h9 => h9) rfl dX9_heldOf_7 ?_
  refine lv_aload_n hx hb dX9_heldOf_10 rfl (lv_at hl 0 rfl) ?_
  refine va_get (D := (dC, dI)) (ci := 9) (v := .int c_sUps) (C := RX9) (T := TX9) (N := 45) hx hb hts (fun w h => gw_mem (inX9 w h)) hown hK.1 hP 0 rfl rfl 29 (by decide) (hts _ (gw_mem wfX9_319)) (fun _ h9 => h9) rfl dX9_heldOf_11 ?_
  refine lv_aload_n hx hb dX9_heldOf_14 rfl (lv_at hl 0 rfl) ?_
  refine va_get (D := (dC, dI)) (ci := 9) (v := .int c_sUp) (C := RX9) (T := TX9) (N := 45) hx hb hts (fun w h => gw_mem (inX9 w h)) hown hK.1 hP 0 rfl rfl 30 (by decide) (hts _ (gw_mem wfX9_322)) (fun _ h9 => h9) rfl dX9_heldOf_15 ?_
  refine lv_aload_n hx hb dX9_heldOf_18 rfl (lv_at hl 0 rfl) ?_
  refine va_get (D := (dC, dI)) (ci := 9) (v := .int c_sMarks) (C := RX9) (T := TX9) (N := 45) hx hb hts (fun w h => gw_mem (inX9 w h)) hown hK.1 hP 0 rfl rfl 31 (by decide) (hts _ (gw_mem wfX9_325)) (fun _ h9 => h9) rfl dX9_heldOf_19 ?_
  refine lv_iconst (v := 1) hx hb dX9_heldOf_22 (by decide) ?_
  obtain ⟨r1, v2, hf⟩ := bd1_some hf
  refine gci (va_runV (As := [.int p1, .int c_sDay, .int c_sUps, .int c_sUp, .int c_sMarks, .int 1]) (rest := [.ref (ad 7)]) ⟨hx, hb, hml, hown, hts⟩ (tX9_then l dC dI dA ad s.heap.size v2) (ccX9_X9_then hts ⟨Nat.le_of_ble_eq_true rfl, Nat.le_of_ble_eq_true rfl⟩) (gPreV (ci := 9) (q0 := 0) hP hK hD rfl rfl) rfl rfl hl.1 rfl (lv_room (Nat.le_of_ble_eq_true rfl)) dX9_heldOf_23 ⟨Nat.le_of_ble_eq_true rfl, Nat.le_of_ble_eq_true rfl⟩) hD hS hA (fun H locs hP hD hS => ?_)
  obtain ⟨h3, hf⟩ := og_some hf
  refine va_lald hx hb hK.1 hP 7 1 rfl rfl (okI_in h3) dX9_heldOf_26 ?_
  refine lv_topl (fun w4 ew4 => ?_)
  replace hf := nm_at hf ew4
  refine lv_lstore_n (lv' := [(2, .long w4), (0, .ref (ad 0)), (1, .int p1)]) hx hb dX9_heldOf_27 rfl hl (by decide) rfl (fun ls hl => ?_)
  refine lv_aload_n hx hb dX9_heldOf_28 rfl (lv_at hl 1 rfl) ?_
  refine va_get (D := (dC, dI)) (ci := 9) (v := .ref (ad 7)) (C := RX9) (T := TX9) (N := 45) hx hb hts (fun w h => gw_mem (inX9 w h)) hown hK.1 hP 0 rfl rfl 24 (by decide) (hts _ (gw_mem wfX9_30)) (fun _ h9 => h9) rfl dX9_heldOf_29 ?_
  refine lv_aload_n hx hb dX9_heldOf_32 rfl (lv_at hl 1 rfl) ?_
  refine lv_iload_n hx hb dX9_heldOf_33 rfl (lv_at hl 2 rfl) ?_
  refine lv_aload_n hx hb dX9_heldOf_34 rfl (lv_at hl 1 rfl) ?_
  refine va_get (D := (dC, dI)) (ci := 9) (v := .int c_sDay) (C := RX9) (T := TX9) (N := 45) hx hb hts (fun w h => gw_mem (inX9 w h)) hown hK.1 hP 0 rfl rfl 28 (by decide) (hts _ (gw_mem wfX9_316)) (fun _ h9 => h9) rfl dX9_heldOf_35 ?_
  refine lv_aload_n hx hb dX9_heldOf_38 rfl (lv_at hl 1 rfl) ?_
  refine va_get (D := (dC, dI)) (ci := 9) (v := .int c_sUps) (C := RX9) (T := TX9) (N := 45) hx hb hts (fun w h => gw_mem (inX9 w h)) hown hK.1 hP 0 rfl rfl 29 (by decide) (hts _ (gw_mem wfX9_319)) (fun _ h9 => h9) rfl dX9_heldOf_39 ?_
  refine lv_aload_n hx hb dX9_heldOf_42 rfl (lv_at hl 1 rfl) ?_
  refine va_get (D := (dC, dI)) (ci := 9) (v := .int c_sUp) (C := RX9) (T := TX9) (N := 45) hx hb hts (fun w h => gw_mem (inX9 w h)) hown hK.1 hP 0 rfl rfl 30 (by decide) (hts _ (gw_mem wfX9_322)) (fun _ h9 => h9) rfl dX9_heldOf_43 ?_
  refine lv_aload_n hx hb dX9_heldOf_46 rfl (lv_at hl 1 rfl) ?_
  refine va_get (D := (dC, dI)) (ci := 9) (v := .int c_sMarks) (C := RX9) (T := TX9) (N := 45) hx hb hts (fun w h => gw_mem (inX9 w h)) hown hK.1 hP 0 rfl rfl 31 (by decide) (hts _ (gw_mem wfX9_325)) (fun _ h9 => h9) rfl dX9_heldOf_47 ?_
  refine lv_iconst (v := 0) hx hb dX9_heldOf_50 (by decide) ?_
  obtain ⟨r5, v6, hf⟩ := bd1_some hf
  refine gci (va_runV (As := [.int p1, .int c_sDay, .int c_sUps, .int c_sUp, .int c_sMarks, .int 0]) (rest := [.ref (ad 7)]) ⟨hx, hb, hml, hown, hts⟩ (tX9_then l dC dI dA ad H.size v6) (ccX9_X9_then hts ⟨Nat.le_of_ble_eq_true rfl, Nat.le_of_ble_eq_true rfl⟩) (gPreV (ci := 9) (q0 := 0) hP hK hD rfl rfl) rfl rfl hl.1 rfl (lv_room (Nat.le_of_ble_eq_true rfl)) dX9_heldOf_51 ⟨Nat.le_of_ble_eq_true rfl, Nat.le_of_ble_eq_true rfl⟩) hD hS hA (fun H locs hP hD hS => ?_)
  obtain ⟨h7, hf⟩ := og_some hf
  refine va_lald hx hb hK.1 hP 7 1 rfl rfl (okI_in h7) dX9_heldOf_54 ?_
  refine lv_topl (fun w8 ew8 => ?_)
  replace hf := nm_at hf ew8
  refine lv_lstore (lv' := [(4, .long w8), (2, .long w4), (0, .ref (ad 0)), (1, .int p1)]) hx hb dX9_heldOf_55 hl (by decide) rfl (fun ls hl => ?_)
  refine lv_ldc2 (v := 1000) hx hb hown (hts _ (gw_mem wkX9_74)) dX9_heldOf_57 ?_
  refine lv_lload_n hx hb dX9_heldOf_60 rfl (lv_at hl 1 rfl) ?_
  refine lv_lload hx hb dX9_heldOf_61 (lv_at hl 0 rfl) ?_
  refine lv_lsub hx hb dX9_heldOf_63 ?_
  refine lv_lmul hx hb dX9_heldOf_64 ?_
  refine lv_aload_n hx hb dX9_heldOf_65 rfl (lv_at hl 2 rfl) ?_
  obtain ⟨r9, v10, hf⟩ := bd1_some hf
  refine gcl (va_runV (As := []) (rest := [.long (1000 * (w4 - w8))]) ⟨hx, hb, hml, hown, hts⟩ (tX9_rise l dC dI dA ad H.size v10) (ccX9_X9_rise hts ⟨Nat.le_of_ble_eq_true rfl, Nat.le_of_ble_eq_true rfl⟩) (gPreV (ci := 9) (q0 := 0) hP hK hD rfl rfl) rfl rfl hl.1 rfl (lv_room (Nat.le_of_ble_eq_true rfl)) dX9_heldOf_66 ⟨Nat.le_of_ble_eq_true rfl, Nat.le_of_ble_eq_true rfl⟩) hD hS hA (fun H locs hP hD hS => ?_)
  obtain ⟨h11, hf⟩ := og_some hf
  refine lv_ldiv hx hb dX9_heldOf_69 (nzL_ne h11) ?_
  cases hf
  exact W.lret hx hb hr (fun t ht _ => gql hP hD hS ht) hS.2.2 dX9_heldOf_70
theorem ccX9_X9_heldOf {R : Room} {s : State} {args : Array Value} {c0 : Cond} (ht : ∀ w ∈ wq c0, w.before args s = true) (hR : rmX9_heldOf.frames + 1 ≤ R.frames ∧ 8 + (6 + 11) + rmX9_heldOf.locals ≤ R.locals) : CallW R s args RX9 RX9 388 yX9_heldOf cX9_heldOf 6 (some .long) (wq (.code yX9_heldOf cX9_heldOf 6 (some .long))) rmX9_heldOf 0 0 1 := gCW 1 ht wcX9_heldOf wmX9_388 wiX9_heldOf weX9_heldOf wnX9 (by decide +kernel) rfl rfl hR
abbrev rmX9_held : Room := { frames := 7, cells := 0, slots := 0, locals := 184 }
set_option maxHeartbeats 4000000 in
set_option maxRecDepth 100000 in
theorem tX9_held (l : Launch) (dC : Nat → ClassId) (dI : Nat → Nat → Nat) (dA : Nat → ClassId) (ad : Nat → Nat) (sz : Nat) {p1 : Int32} {c_tape : Nat → Int32} {c_taped : Int32} {c_tree : Nat → Int32} {c_bonds : Nat → Int32} {c_moves : Nat → Int32} {c_handMoves : Nat → Int32} {c_moved : Int32} {c_days : Int32} {c_likely : Int32} {c_outOf : Int32} {c_rateNow : Int32} {c_pence : Nat → Int64} {c_top : Int64} {c_bottom : Int64} {c_spot : Int32} {c_textLong : Int32} {c_fault : Int32} {c_number : Int32} {c_numberAt : Int32} {c_figures : Int32} {c_written : Int32} {c_wanted : Int32} {c_found : Int32} {c_drawnNow : Int32} {c_worth : Nat → Int64} {c_hold : Nat → Int64} {c_way : Nat → Int64} {c_acts : Nat → Int32} {c_sDay : Int32} {c_sUps : Int32} {c_sUp : Int32} {c_sMarks : Int32} {c_paidAll : Int64} {c_isPlayed : Int32} {c_isOn : Int32} {c_handMoved : Int32} {c_handPaid : Int64} {c_regret : Int64} {c_aside : Nat → Int32} {c_other : Nat → Int64} {c_states : Int32} {c_kept : Nat → Int32} {c_keptLong : Nat → Int64} {c_keptAt : Int32} {c_isTaking : Int32} {r : Int64} {o_c_days : Int32} {o_c_likely : Int32} {o_c_outOf : Int32} {o_c_rateNow : Int32} {o_c_pence : Nat → Int64} {o_c_top : Int64} {o_c_bottom : Int64} {o_c_worth : Nat → Int64} {o_c_hold : Nat → Int64} {o_c_acts : Nat → Int32} {o_c_sDay : Int32} {o_c_sUps : Int32} {o_c_sUp : Int32} {o_c_sMarks : Int32} (hf : fX9_held p1 c_tree c_bonds c_moves c_moved c_days c_likely c_outOf c_rateNow c_pence c_top c_bottom c_worth c_hold c_acts c_sDay c_sUps c_sUp c_sMarks = some (r, o_c_days, o_c_likely, o_c_outOf, o_c_rateNow, o_c_pence, o_c_top, o_c_bottom, o_c_worth, o_c_hold, o_c_acts, o_c_sDay, o_c_sUps, o_c_sUp, o_c_sMarks)) : Met l yX9_held (wq (Cond.code yX9_held cX9_held 2 (some .long))) rmX9_held (gP [.ref (ad 0), .int p1] (dC, dI) dA (mW dA ad c_tape c_taped c_tree c_bonds c_moves c_handMoves c_moved c_days c_likely c_outOf c_rateNow c_pence c_top c_bottom c_spot c_textLong c_fault c_number c_numberAt c_figures c_written c_wanted c_found c_drawnNow c_worth c_hold c_way c_acts c_sDay c_sUps c_sUp c_sMarks c_paidAll c_isPlayed c_isOn c_handMoved c_handPaid c_regret c_aside c_other c_states c_kept c_keptLong c_keptAt c_isTaking) sz) (gQl (dC, dI) r (mW dA ad c_tape c_taped c_tree c_bonds c_moves c_handMoves c_moved o_c_days o_c_likely o_c_outOf o_c_rateNow o_c_pence o_c_top o_c_bottom c_spot c_textLong c_fault c_number c_numberAt c_figures c_written c_wanted c_found c_drawnNow o_c_worth o_c_hold c_way o_c_acts o_c_sDay o_c_sUps o_c_sUp o_c_sMarks c_paidAll c_isPlayed c_isOn c_handMoved c_handPaid c_regret c_aside c_other c_states c_kept c_keptLong c_keptAt c_isTaking) (va_A (mW dA ad c_tape c_taped c_tree c_bonds c_moves c_handMoves c_moved c_days c_likely c_outOf c_rateNow c_pence c_top c_bottom c_spot c_textLong c_fault c_number c_numberAt c_figures c_written c_wanted c_found c_drawnNow c_worth c_hold c_way c_acts c_sDay c_sUps c_sUp c_sMarks c_paidAll c_isPlayed c_isOn c_handMoved c_handPaid c_regret c_aside c_other c_states c_kept c_keptLong c_keptAt c_isTaking) sz)) 0 0 (va_A (mW dA ad c_tape c_taped c_tree c_bonds c_moves c_handMoves c_moved c_days c_likely c_outOf c_rateNow c_pence c_top c_bottom c_spot c_textLong c_fault c_number c_numberAt c_figures c_written c_wanted c_found c_drawnNow c_worth c_hold c_way c_acts c_sDay c_sUps c_sUp c_sMarks c_paidAll c_isPlayed c_isOn c_handMoved c_handPaid c_regret c_aside c_other c_states c_kept c_keptLong c_keptAt c_isTaking) sz) := by
  refine Met.ofW (cc := cX9_held) (maxL := 2) (ret := (some .long)) (by decide) rfl ?_
  intro p e s m args below meth c s₁ B hml hv
  obtain ⟨rfl, hsz, hP, hK, hD0⟩ := hv
  have hx := B.exec
  have hb := B.bytes
  have hr := B.returns
  have hts := atoms_spec (ws := wq (Cond.code yX9_held cX9_held 2 (some .long))) B.pre
  have hown : s.vm.findClass RX9 = some m.cls := findClass_of_methodNamed B.named
  have hlocks := B.notSynchronized
  clear B
  subst hsz
  have hD := hD0.self (sz := s.heap.size)
  generalize hAe : va_A (mW dA ad c_tape c_taped c_tree c_bonds c_moves c_handMoves c_moved c_days c_likely c_outOf c_rateNow c_pence c_top c_bottom c_spot c_textLong c_fault c_number c_numberAt c_figures c_written c_wanted c_found c_drawnNow c_worth c_hold c_way c_acts c_sDay c_sUps c_sUp c_sMarks c_paidAll c_isPlayed c_isOn c_handMoved c_handPaid c_regret c_aside c_other c_states c_kept c_keptLong c_keptAt c_isTaking) s.heap.size = A at hD ⊢
  have hA : ∀ q : Nat, s.heap.size ≤ q → A q := fun q h => by rw [← hAe]; exact Or.inr h
  clear hAe hD0
  have hS : va_S A s.heap s.heap [] := va_S.rf
  have hl := lv_entry ([.ref (ad 0), .int p1]) (n := 2) (Nat.le_of_ble_eq_true rfl)
  rw [lg_entry_eq]
  generalize (lg_sl ([.ref (ad 0), .int p1]) ++ List.replicate (2 - (lg_sl ([.ref (ad 0), .int p1])).length) Slot.unset).toArray = ls at hl ⊢
  have hl : lv_has ls 2 [(0, .ref (ad 0)), (1, .int p1)] := hl
  change W p l e rmX9_held s m ([.ref (ad 0), .int p1] : List Value).toArray below meth c s.heap [] 0 0 _ _
  unfold fX9_held at hf
  refine lv_iload_n hx hb dX9_held_0 rfl (lv_at hl 1 rfl) ?_
  obtain ⟨r1, v2, hf⟩ := bd1_some hf
  refine gci0 (va_runS (As := [.int p1]) (rest := []) ⟨hx, hb, hml, hown, hts⟩ (tX9_isBond l dC dI dA s.heap.size v2) (ccX9_X9_isBond hts ⟨Nat.le_of_ble_eq_true rfl, Nat.le_of_ble_eq_true rfl⟩) (gPreS0 hK) rfl rfl hl.1 rfl (lv_room (Nat.le_of_ble_eq_true rfl)) dX9_held_1 ⟨Nat.le_of_ble_eq_true rfl, Nat.le_of_ble_eq_true rfl⟩) hP hS hA (fun H locs hP hS => ?_)
  refine lv_if_ne (tgt := 11) hx hb dX9_held_4 (by decide) (fun k3 => ?_) (fun k3 => ?_)
  · replace hf := ifn k3 hf
    refine lv_aload_n hx hb dX9_held_11 rfl (lv_at hl 0 rfl) ?_
    refine lv_iload_n hx hb dX9_held_12 rfl (lv_at hl 1 rfl) ?_
    obtain ⟨c_days_4, c_likely_5, c_outOf_6, c_rateNow_7, c_pence_8, c_top_9, c_bottom_10, c_worth_11, c_hold_12, c_acts_13, v14, hf⟩ := bd10_some hf
    refine gcv (va_runV (As := [.int p1]) (rest := []) ⟨hx, hb, hml, hown, hts⟩ (tX9_playsNow l dC dI dA ad H.size v14) (ccX9_X9_playsNow hts ⟨Nat.le_of_ble_eq_true rfl, Nat.le_of_ble_eq_true rfl⟩) (gPreV (ci := 9) (q0 := 0) hP hK hD rfl rfl) rfl rfl hl.1 rfl (lv_room (Nat.le_of_ble_eq_true rfl)) dX9_held_13 ⟨Nat.le_of_ble_eq_true rfl, Nat.le_of_ble_eq_true rfl⟩) hD hS hA (fun H locs hP hD hS => ?_)
    refine lv_aload_n hx hb dX9_held_16 rfl (lv_at hl 0 rfl) ?_
    refine lv_iload_n hx hb dX9_held_17 rfl (lv_at hl 1 rfl) ?_
    refine lv_aload_n hx hb dX9_held_18 rfl (lv_at hl 0 rfl) ?_
    refine va_get (D := (dC, dI)) (ci := 9) (v := .int c_moved) (C := RX9) (T := TX9) (N := 45) hx hb hts (fun w h => gw_mem (inX9 w h)) hown hK.1 hP 0 rfl rfl 6 (by decide) (hts _ (gw_mem wfX9_76)) (fun _ h9 => h9) rfl dX9_held_19 ?_
    obtain ⟨c_sDay_15, c_sUps_16, c_sUp_17, c_sMarks_18, v19, hf⟩ := bd4_some hf
    refine gcv (va_runV (As := [.int p1, .int c_moved]) (rest := []) ⟨hx, hb, hml, hown, hts⟩ (tX9_follows l dC dI dA ad H.size v19) (ccX9_X9_follows hts ⟨Nat.le_of_ble_eq_true rfl, Nat.le_of_ble_eq_true rfl⟩) (gPreV (ci := 9) (q0 := 0) hP hK hD rfl rfl) rfl rfl hl.1 rfl (lv_room (Nat.le_of_ble_eq_true rfl)) dX9_held_22 ⟨Nat.le_of_ble_eq_true rfl, Nat.le_of_ble_eq_true rfl⟩) hD hS hA (fun H locs hP hD hS => ?_)
    refine lv_aload_n hx hb dX9_held_25 rfl (lv_at hl 0 rfl) ?_
    refine va_get (D := (dC, dI)) (ci := 9) (v := .int c_sDay_15) (C := RX9) (T := TX9) (N := 45) hx hb hts (fun w h => gw_mem (inX9 w h)) hown hK.1 hP 0 rfl rfl 28 (by decide) (hts _ (gw_mem wfX9_316)) (fun _ h9 => h9) rfl dX9_held_26 ?_
    refine lv_aload_n hx hb dX9_held_29 rfl (lv_at hl 0 rfl) ?_
    refine va_get (D := (dC, dI)) (ci := 9) (v := .int c_days_4) (C := RX9) (T := TX9) (N := 45) hx hb hts (fun w h => gw_mem (inX9 w h)) hown hK.1 hP 0 rfl rfl 7 (by decide) (hts _ (gw_mem wfX9_94)) (fun _ h9 => h9) rfl dX9_held_30 ?_
    obtain ⟨j21, v23, hf⟩ := bd1_some hf
    have J22 : ∀ (H : Heap) (locs : List Loc) (ls : Array Slot), va_P (dC, dI) vwCl (mW dA ad c_tape c_taped c_tree c_bonds c_moves c_handMoves c_moved c_days_4 c_likely_5 c_outOf_6 c_rateNow_7 c_pence_8 c_top_9 c_bottom_10 c_spot c_textLong c_fault c_number c_numberAt c_figures c_written c_wanted c_found c_drawnNow c_worth_11 c_hold_12 c_way c_acts_13 c_sDay_15 c_sUps_16 c_sUp_17 c_sMarks_18 c_paidAll c_isPlayed c_isOn c_handMoved c_handPaid c_regret c_aside c_other c_states c_kept c_keptLong c_keptAt c_isTaking) H → va_D A (mW dA ad c_tape c_taped c_tree c_bonds c_moves c_handMoves c_moved c_days_4 c_likely_5 c_outOf_6 c_rateNow_7 c_pence_8 c_top_9 c_bottom_10 c_spot c_textLong c_fault c_number c_numberAt c_figures c_written c_wanted c_found c_drawnNow c_worth_11 c_hold_12 c_way c_acts_13 c_sDay_15 c_sUps_16 c_sUp_17 c_sMarks_18 c_paidAll c_isPlayed c_isOn c_handMoved c_handPaid c_regret c_aside c_other c_states c_kept c_keptLong c_keptAt c_isTaking) → va_S A s.heap H locs → lv_has ls 2 [] → W p l e rmX9_held s m ([.ref (ad 0), .int p1] : List Value).toArray below meth c H locs 0 0 (MQ below (gQl (dC, dI) r (mW dA ad c_tape c_taped c_tree c_bonds c_moves c_handMoves c_moved o_c_days o_c_likely o_c_outOf o_c_rateNow o_c_pence o_c_top o_c_bottom c_spot c_textLong c_fault c_number c_numberAt c_figures c_written c_wanted c_found c_drawnNow o_c_worth o_c_hold c_way o_c_acts o_c_sDay o_c_sUps o_c_sUp o_c_sMarks c_paidAll c_isPlayed c_isOn c_handMoved c_handPaid c_regret c_aside c_other c_states c_kept c_keptLong c_keptAt c_isTaking) A) ([.ref (ad 0), .int p1] : List Value).toArray s 0 0 A) (F0 m 62 ls [.long j21]) := by
      intro H locs ls hP hD hS hl
      cases hf
      exact W.lret hx hb hr (fun t ht _ => gql hP hD hS ht) hS.2.2 dX9_held_62
    replace hf := v23
    clear v23
    refine lv_icmp_ne (tgt := 42) hx hb dX9_held_33 (by decide) (fun k20 => ?_) (fun k20 => ?_)
    · replace hf := ifn k20 hf
      refine lv_aload_n hx hb dX9_held_42 rfl (lv_at hl 0 rfl) ?_
      obtain ⟨r24, v25, hf⟩ := bd1_some hf
      refine gcl (va_runV (As := []) (rest := []) ⟨hx, hb, hml, hown, hts⟩ (tX9_rise l dC dI dA ad H.size v25) (ccX9_X9_rise hts ⟨Nat.le_of_ble_eq_true rfl, Nat.le_of_ble_eq_true rfl⟩) (gPreV (ci := 9) (q0 := 0) hP hK hD rfl rfl) rfl rfl hl.1 rfl (lv_room (Nat.le_of_ble_eq_true rfl)) dX9_held_43 ⟨Nat.le_of_ble_eq_true rfl, Nat.le_of_ble_eq_true rfl⟩) hD hS hA (fun H locs hP hD hS => ?_)
      refine lv_lconst (v := 0) hx hb dX9_held_46 rfl ?_
      refine W.lcmp hx hb dX9_held_47 ?_
      refine lv_if_ne (tgt := 57) hx hb dX9_held_48 (by decide) (fun k26 => ?_) (fun k26 => ?_)
      · replace hf := ifn (fun h => k26 (lc_eq.mpr h)) hf
        refine lv_aload_n hx hb dX9_held_57 rfl (lv_at hl 0 rfl) ?_
        refine lv_iload_n hx hb dX9_held_58 rfl (lv_at hl 1 rfl) ?_
        obtain ⟨r27, v28, hf⟩ := bd1_some hf
        refine gcl (va_runV (As := [.int p1]) (rest := []) ⟨hx, hb, hml, hown, hts⟩ (tX9_heldOf l dC dI dA ad H.size v28) (ccX9_X9_heldOf hts ⟨Nat.le_of_ble_eq_true rfl, Nat.le_of_ble_eq_true rfl⟩) (gPreV (ci := 9) (q0 := 0) hP hK hD rfl rfl) rfl rfl hl.1 rfl (lv_room (Nat.le_of_ble_eq_true rfl)) dX9_held_59 ⟨Nat.le_of_ble_eq_true rfl, Nat.le_of_ble_eq_true rfl⟩) hD hS hA (fun H locs hP hD hS => ?_)
        cases hf
        exact J22 _ _ _ hP hD hS (lv_sub hl [] rfl)
      · replace hf := ifp (lc_eq.mp k26) hf
        refine lv_ldc2 (v := (-3)) hx hb hown (hts _ (gw_mem wkX9_386)) dX9_held_51 ?_
        refine lv_goto (tgt := 62) hx hb dX9_held_54 (by decide) ?_
        cases hf
        exact J22 _ _ _ hP hD hS (lv_sub hl [] rfl)
    · replace hf := ifp k20 hf
      refine lv_ldc2 (v := (-2)) hx hb hown (hts _ (gw_mem wkX9_343)) dX9_held_36 ?_
      refine lv_goto (tgt := 62) hx hb dX9_held_39 (by decide) ?_
      cases hf
      exact J22 _ _ _ hP hD hS (lv_sub hl [] rfl)
  · replace hf := ifp k3 hf
    refine lv_ldc2 (v := (-9223372036854775808)) hx hb hown (hts _ (gw_mem wkX9_364)) dX9_held_7 ?_
    cases hf
    exact W.lret hx hb hr (fun t ht _ => gql hP hD hS ht) hS.2.2 dX9_held_10
