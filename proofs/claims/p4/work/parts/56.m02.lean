abbrev rmX9_readsWindow : Room := { frames := 4, cells := 0, slots := 0, locals := 90 }
set_option maxHeartbeats 4000000 in
set_option maxRecDepth 100000 in
theorem tX9_readsWindow (l : Launch) (dC : Nat → ClassId) (dI : Nat → Nat → Nat) (dA : Nat → ClassId) (ad : Nat → Nat) (sz : Nat) {c_tape : Nat → Int32} {c_taped : Int32} {c_tree : Nat → Int32} {c_bonds : Nat → Int32} {c_moves : Nat → Int32} {c_handMoves : Nat → Int32} {c_moved : Int32} {c_days : Int32} {c_likely : Int32} {c_outOf : Int32} {c_rateNow : Int32} {c_pence : Nat → Int64} {c_top : Int64} {c_bottom : Int64} {c_spot : Int32} {c_textLong : Int32} {c_fault : Int32} {c_number : Int32} {c_numberAt : Int32} {c_figures : Int32} {c_written : Int32} {c_wanted : Int32} {c_found : Int32} {c_drawnNow : Int32} {c_worth : Nat → Int64} {c_hold : Nat → Int64} {c_way : Nat → Int64} {c_acts : Nat → Int32} {c_sDay : Int32} {c_sUps : Int32} {c_sUp : Int32} {c_sMarks : Int32} {c_paidAll : Int64} {c_isPlayed : Int32} {c_isOn : Int32} {c_handMoved : Int32} {c_handPaid : Int64} {c_regret : Int64} {c_aside : Nat → Int32} {c_other : Nat → Int64} {c_states : Int32} {c_kept : Nat → Int32} {c_keptLong : Nat → Int64} {c_keptAt : Int32} {c_isTaking : Int32} {o_c_bonds : Nat → Int32} {o_c_spot : Int32} {o_c_fault : Int32} {o_c_number : Int32} {o_c_numberAt : Int32} {o_c_figures : Int32} (hf : fX9_readsWindow c_tape c_bonds c_spot c_textLong c_fault c_number c_numberAt c_figures = some (o_c_bonds, o_c_spot, o_c_fault, o_c_number, o_c_numberAt, o_c_figures)) : Met l yX9_readsWindow (wq (Cond.code yX9_readsWindow cX9_readsWindow 2 none)) rmX9_readsWindow (gP [.ref (ad 0)] (dC, dI) dA (mW dA ad c_tape c_taped c_tree c_bonds c_moves c_handMoves c_moved c_days c_likely c_outOf c_rateNow c_pence c_top c_bottom c_spot c_textLong c_fault c_number c_numberAt c_figures c_written c_wanted c_found c_drawnNow c_worth c_hold c_way c_acts c_sDay c_sUps c_sUp c_sMarks c_paidAll c_isPlayed c_isOn c_handMoved c_handPaid c_regret c_aside c_other c_states c_kept c_keptLong c_keptAt c_isTaking) sz) (gQv (dC, dI) (mW dA ad c_tape c_taped c_tree o_c_bonds c_moves c_handMoves c_moved c_days c_likely c_outOf c_rateNow c_pence c_top c_bottom o_c_spot c_textLong o_c_fault o_c_number o_c_numberAt o_c_figures c_written c_wanted c_found c_drawnNow c_worth c_hold c_way c_acts c_sDay c_sUps c_sUp c_sMarks c_paidAll c_isPlayed c_isOn c_handMoved c_handPaid c_regret c_aside c_other c_states c_kept c_keptLong c_keptAt c_isTaking) (va_A (mW dA ad c_tape c_taped c_tree c_bonds c_moves c_handMoves c_moved c_days c_likely c_outOf c_rateNow c_pence c_top c_bottom c_spot c_textLong c_fault c_number c_numberAt c_figures c_written c_wanted c_found c_drawnNow c_worth c_hold c_way c_acts c_sDay c_sUps c_sUp c_sMarks c_paidAll c_isPlayed c_isOn c_handMoved c_handPaid c_regret c_aside c_other c_states c_kept c_keptLong c_keptAt c_isTaking) sz)) 0 0 (va_A (mW dA ad c_tape c_taped c_tree c_bonds c_moves c_handMoves c_moved c_days c_likely c_outOf c_rateNow c_pence c_top c_bottom c_spot c_textLong c_fault c_number c_numberAt c_figures c_written c_wanted c_found c_drawnNow c_worth c_hold c_way c_acts c_sDay c_sUps c_sUp c_sMarks c_paidAll c_isPlayed c_isOn c_handMoved c_handPaid c_regret c_aside c_other c_states c_kept c_keptLong c_keptAt c_isTaking) sz) := by
  refine Met.ofW (cc := cX9_readsWindow) (maxL := 2) (ret := none) (by decide) rfl ?_
  intro p e s m args below meth c s₁ B hml hv
  obtain ⟨rfl, hsz, hP, hK, hD0⟩ := hv
  have hx := B.exec
  have hb := B.bytes
  have hr := B.returns
  have hts := atoms_spec (ws := wq (Cond.code yX9_readsWindow cX9_readsWindow 2 none)) B.pre
  have hown : s.vm.findClass RX9 = some m.cls := findClass_of_methodNamed B.named
  have hlocks := B.notSynchronized
  clear B
  subst hsz
  have hD := hD0.self (sz := s.heap.size)
  generalize hAe : va_A (mW dA ad c_tape c_taped c_tree c_bonds c_moves c_handMoves c_moved c_days c_likely c_outOf c_rateNow c_pence c_top c_bottom c_spot c_textLong c_fault c_number c_numberAt c_figures c_written c_wanted c_found c_drawnNow c_worth c_hold c_way c_acts c_sDay c_sUps c_sUp c_sMarks c_paidAll c_isPlayed c_isOn c_handMoved c_handPaid c_regret c_aside c_other c_states c_kept c_keptLong c_keptAt c_isTaking) s.heap.size = A at hD ⊢
  have hA : ∀ q : Nat, s.heap.size ≤ q → A q := fun q h => by rw [← hAe]; exact Or.inr h
  clear hAe hD0
  have hS : va_S A s.heap s.heap [] := va_S.rf
  have hl := lv_entry ([.ref (ad 0)]) (n := 2) (Nat.le_of_ble_eq_true rfl)
  rw [lg_entry_eq]
  generalize (lg_sl ([.ref (ad 0)]) ++ List.replicate (2 - (lg_sl ([.ref (ad 0)])).length) Slot.unset).toArray = ls at hl ⊢
  have hl : lv_has ls 2 [(0, .ref (ad 0))] := hl
  change W p l e rmX9_readsWindow s m ([.ref (ad 0)] : List Value).toArray below meth c s.heap [] 0 0 _ _
  unfold fX9_readsWindow at hf
  refine lv_aload_n hx hb dX9_readsWindow_0 rfl (lv_at hl 0 rfl) ?_
  refine lv_iconst (v := 1) hx hb dX9_readsWindow_1 (by decide) ?_
  refine lv_iconst (v := 0) hx hb dX9_readsWindow_2 (by decide) ?_
  refine lv_bipush (v := 6) hx hb dX9_readsWindow_3 (by decide) ?_
  obtain ⟨r1, c_spot_2, c_fault_3, c_number_4, c_numberAt_5, c_figures_6, v7, hf⟩ := bd6_some hf
  refine gci (va_runV (As := [.int 1, .int 0, .int 6]) (rest := []) ⟨hx, hb, hml, hown, hts⟩ (tX9_reads l dC dI dA ad s.heap.size v7) (ccX9_X9_reads hts ⟨Nat.le_of_ble_eq_true rfl, Nat.le_of_ble_eq_true rfl⟩) (gPreV (ci := 9) (q0 := 0) hP hK hD rfl rfl) rfl rfl hl.1 rfl (lv_room (Nat.le_of_ble_eq_true rfl)) dX9_readsWindow_5 ⟨Nat.le_of_ble_eq_true rfl, Nat.le_of_ble_eq_true rfl⟩) hD hS hA (fun H locs hP hD hS => ?_)
  refine lv_if_ne (tgt := 12) hx hb dX9_readsWindow_8 (by decide) (fun k8 => ?_) (fun k8 => ?_)
  · replace hf := ifn k8 hf
    refine lv_aload_n hx hb dX9_readsWindow_12 rfl (lv_at hl 0 rfl) ?_
    refine va_get (D := (dC, dI)) (ci := 9) (v := .int c_number_4) (C := RX9) (T := TX9) (N := 45) hx hb hts (fun w h => gw_mem (inX9 w h)) hown hK.1 hP 0 rfl rfl 17 (by decide) (hts _ (gw_mem wfX9_184)) (fun _ h9 => h9) rfl dX9_readsWindow_13 ?_
    refine lv_istore_n (lv' := [(1, .int c_number_4), (0, .ref (ad 0))]) hx hb dX9_readsWindow_16 rfl hl (by decide) rfl (fun ls hl => ?_)
    refine lv_aload_n hx hb dX9_readsWindow_17 rfl (lv_at hl 1 rfl) ?_
    refine lv_bipush (v := 45) hx hb dX9_readsWindow_18 (by decide) ?_
    obtain ⟨r9, c_spot_10, c_fault_11, v12, hf⟩ := bd3_some hf
    refine gci (va_runV (As := [.int 45]) (rest := []) ⟨hx, hb, hml, hown, hts⟩ (tX9_passes l dC dI dA ad H.size v12) (ccX9_X9_passes hts ⟨Nat.le_of_ble_eq_true rfl, Nat.le_of_ble_eq_true rfl⟩) (gPreV (ci := 9) (q0 := 0) hP hK hD rfl rfl) rfl rfl hl.1 rfl (lv_room (Nat.le_of_ble_eq_true rfl)) dX9_readsWindow_20 ⟨Nat.le_of_ble_eq_true rfl, Nat.le_of_ble_eq_true rfl⟩) hD hS hA (fun H locs hP hD hS => ?_)
    refine lv_if_eq (tgt := 37) hx hb dX9_readsWindow_23 (by decide) (fun k13 => ?_) (fun k13 => ?_)
    · replace hf := ifp k13 hf
      cases hf
      exact W.vret hx hb hr (fun t ht _ => gqv hP hD hS ht) hS.2.2 dX9_readsWindow_37
    · replace hf := ifn k13 hf
      refine lv_aload_n hx hb dX9_readsWindow_26 rfl (lv_at hl 1 rfl) ?_
      refine lv_iconst (v := 1) hx hb dX9_readsWindow_27 (by decide) ?_
      refine lv_iload_n hx hb dX9_readsWindow_28 rfl (lv_at hl 0 rfl) ?_
      refine lv_bipush (v := 6) hx hb dX9_readsWindow_29 (by decide) ?_
      obtain ⟨r14, c_spot_15, c_fault_16, c_number_17, c_numberAt_18, c_figures_19, v20, hf⟩ := bd6_some hf
      refine gci (va_runV (As := [.int 1, .int c_number_4, .int 6]) (rest := []) ⟨hx, hb, hml, hown, hts⟩ (tX9_reads l dC dI dA ad H.size v20) (ccX9_X9_reads hts ⟨Nat.le_of_ble_eq_true rfl, Nat.le_of_ble_eq_true rfl⟩) (gPreV (ci := 9) (q0 := 0) hP hK hD rfl rfl) rfl rfl hl.1 rfl (lv_room (Nat.le_of_ble_eq_true rfl)) dX9_readsWindow_31 ⟨Nat.le_of_ble_eq_true rfl, Nat.le_of_ble_eq_true rfl⟩) hD hS hA (fun H locs hP hD hS => ?_)
      refine lv_if_ne (tgt := 38) hx hb dX9_readsWindow_34 (by decide) (fun k21 => ?_) (fun k21 => ?_)
      · replace hf := ifn k21 hf
        refine lv_aload_n hx hb dX9_readsWindow_38 rfl (lv_at hl 1 rfl) ?_
        refine lv_iconst (v := 3) hx hb dX9_readsWindow_39 (by decide) ?_
        refine lv_bipush (v := 21) hx hb dX9_readsWindow_40 (by decide) ?_
        refine lv_iload_n hx hb dX9_readsWindow_42 rfl (lv_at hl 0 rfl) ?_
        obtain ⟨c_bonds_22, v23, hf⟩ := bd1_some hf
        refine gcv (va_runV (As := [.int 3, .int 21, .int c_number_4]) (rest := []) ⟨hx, hb, hml, hown, hts⟩ (tX9_sets l dC dI dA ad H.size v23) (ccX9_X9_sets hts ⟨Nat.le_of_ble_eq_true rfl, Nat.le_of_ble_eq_true rfl⟩) (gPreV (ci := 9) (q0 := 0) hP hK hD rfl rfl) rfl rfl hl.1 rfl (lv_room (Nat.le_of_ble_eq_true rfl)) dX9_readsWindow_43 ⟨Nat.le_of_ble_eq_true rfl, Nat.le_of_ble_eq_true rfl⟩) hD hS hA (fun H locs hP hD hS => ?_)
        refine lv_aload_n hx hb dX9_readsWindow_46 rfl (lv_at hl 1 rfl) ?_
        refine lv_iconst (v := 3) hx hb dX9_readsWindow_47 (by decide) ?_
        refine lv_bipush (v := 22) hx hb dX9_readsWindow_48 (by decide) ?_
        refine lv_aload_n hx hb dX9_readsWindow_50 rfl (lv_at hl 1 rfl) ?_
        refine va_get (D := (dC, dI)) (ci := 9) (v := .int c_number_17) (C := RX9) (T := TX9) (N := 45) hx hb hts (fun w h => gw_mem (inX9 w h)) hown hK.1 hP 0 rfl rfl 17 (by decide) (hts _ (gw_mem wfX9_184)) (fun _ h9 => h9) rfl dX9_readsWindow_51 ?_
        obtain ⟨c_bonds_24, v25, hf⟩ := bd1_some hf
        refine gcv (va_runV (As := [.int 3, .int 22, .int c_number_17]) (rest := []) ⟨hx, hb, hml, hown, hts⟩ (tX9_sets l dC dI dA ad H.size v25) (ccX9_X9_sets hts ⟨Nat.le_of_ble_eq_true rfl, Nat.le_of_ble_eq_true rfl⟩) (gPreV (ci := 9) (q0 := 0) hP hK hD rfl rfl) rfl rfl hl.1 rfl (lv_room (Nat.le_of_ble_eq_true rfl)) dX9_readsWindow_54 ⟨Nat.le_of_ble_eq_true rfl, Nat.le_of_ble_eq_true rfl⟩) hD hS hA (fun H locs hP hD hS => ?_)
        cases hf
        exact W.vret hx hb hr (fun t ht _ => gqv hP hD hS ht) hS.2.2 dX9_readsWindow_57
      · replace hf := ifp k21 hf
        cases hf
        exact W.vret hx hb hr (fun t ht _ => gqv hP hD hS ht) hS.2.2 dX9_readsWindow_37
  · replace hf := ifp k8 hf
    cases hf
    exact W.vret hx hb hr (fun t ht _ => gqv hP hD hS ht) hS.2.2 dX9_readsWindow_11
abbrev rmX9_readsSoft : Room := { frames := 4, cells := 0, slots := 0, locals := 90 }
set_option maxHeartbeats 4000000 in
set_option maxRecDepth 100000 in
theorem tX9_readsSoft (l : Launch) (dC : Nat → ClassId) (dI : Nat → Nat → Nat) (dA : Nat → ClassId) (ad : Nat → Nat) (sz : Nat) {c_tape : Nat → Int32} {c_taped : Int32} {c_tree : Nat → Int32} {c_bonds : Nat → Int32} {c_moves : Nat → Int32} {c_handMoves : Nat → Int32} {c_moved : Int32} {c_days : Int32} {c_likely : Int32} {c_outOf : Int32} {c_rateNow : Int32} {c_pence : Nat → Int64} {c_top : Int64} {c_bottom : Int64} {c_spot : Int32} {c_textLong : Int32} {c_fault : Int32} {c_number : Int32} {c_numberAt : Int32} {c_figures : Int32} {c_written : Int32} {c_wanted : Int32} {c_found : Int32} {c_drawnNow : Int32} {c_worth : Nat → Int64} {c_hold : Nat → Int64} {c_way : Nat → Int64} {c_acts : Nat → Int32} {c_sDay : Int32} {c_sUps : Int32} {c_sUp : Int32} {c_sMarks : Int32} {c_paidAll : Int64} {c_isPlayed : Int32} {c_isOn : Int32} {c_handMoved : Int32} {c_handPaid : Int64} {c_regret : Int64} {c_aside : Nat → Int32} {c_other : Nat → Int64} {c_states : Int32} {c_kept : Nat → Int32} {c_keptLong : Nat → Int64} {c_keptAt : Int32} {c_isTaking : Int32} {o_c_bonds : Nat → Int32} {o_c_spot : Int32} {o_c_fault : Int32} {o_c_number : Int32} {o_c_numberAt : Int32} {o_c_figures : Int32} (hf : fX9_readsSoft c_tape c_bonds c_spot c_textLong c_fault c_number c_numberAt c_figures = some (o_c_bonds, o_c_spot, o_c_fault, o_c_number, o_c_numberAt, o_c_figures)) : Met l yX9_readsSoft (wq (Cond.code yX9_readsSoft cX9_readsSoft 3 none)) rmX9_readsSoft (gP [.ref (ad 0)] (dC, dI) dA (mW dA ad c_tape c_taped c_tree c_bonds c_moves c_handMoves c_moved c_days c_likely c_outOf c_rateNow c_pence c_top c_bottom c_spot c_textLong c_fault c_number c_numberAt c_figures c_written c_wanted c_found c_drawnNow c_worth c_hold c_way c_acts c_sDay c_sUps c_sUp c_sMarks c_paidAll c_isPlayed c_isOn c_handMoved c_handPaid c_regret c_aside c_other c_states c_kept c_keptLong c_keptAt c_isTaking) sz) (gQv (dC, dI) (mW dA ad c_tape c_taped c_tree o_c_bonds c_moves c_handMoves c_moved c_days c_likely c_outOf c_rateNow c_pence c_top c_bottom o_c_spot c_textLong o_c_fault o_c_number o_c_numberAt o_c_figures c_written c_wanted c_found c_drawnNow c_worth c_hold c_way c_acts c_sDay c_sUps c_sUp c_sMarks c_paidAll c_isPlayed c_isOn c_handMoved c_handPaid c_regret c_aside c_other c_states c_kept c_keptLong c_keptAt c_isTaking) (va_A (mW dA ad c_tape c_taped c_tree c_bonds c_moves c_handMoves c_moved c_days c_likely c_outOf c_rateNow c_pence c_top c_bottom c_spot c_textLong c_fault c_number c_numberAt c_figures c_written c_wanted c_found c_drawnNow c_worth c_hold c_way c_acts c_sDay c_sUps c_sUp c_sMarks c_paidAll c_isPlayed c_isOn c_handMoved c_handPaid c_regret c_aside c_other c_states c_kept c_keptLong c_keptAt c_isTaking) sz)) 0 0 (va_A (mW dA ad c_tape c_taped c_tree c_bonds c_moves c_handMoves c_moved c_days c_likely c_outOf c_rateNow c_pence c_top c_bottom c_spot c_textLong c_fault c_number c_numberAt c_figures c_written c_wanted c_found c_drawnNow c_worth c_hold c_way c_acts c_sDay c_sUps c_sUp c_sMarks c_paidAll c_isPlayed c_isOn c_handMoved c_handPaid c_regret c_aside c_other c_states c_kept c_keptLong c_keptAt c_isTaking) sz) := by
  refine Met.ofW (cc := cX9_readsSoft) (maxL := 3) (ret := none) (by decide) rfl ?_
  intro p e s m args below meth c s₁ B hml hv
  obtain ⟨rfl, hsz, hP, hK, hD0⟩ := hv
  have hx := B.exec
  have hb := B.bytes
  have hr := B.returns
  have hts := atoms_spec (ws := wq (Cond.code yX9_readsSoft cX9_readsSoft 3 none)) B.pre
  have hown : s.vm.findClass RX9 = some m.cls := findClass_of_methodNamed B.named
  have hlocks := B.notSynchronized
  clear B
  subst hsz
  have hD := hD0.self (sz := s.heap.size)
  generalize hAe : va_A (mW dA ad c_tape c_taped c_tree c_bonds c_moves c_handMoves c_moved c_days c_likely c_outOf c_rateNow c_pence c_top c_bottom c_spot c_textLong c_fault c_number c_numberAt c_figures c_written c_wanted c_found c_drawnNow c_worth c_hold c_way c_acts c_sDay c_sUps c_sUp c_sMarks c_paidAll c_isPlayed c_isOn c_handMoved c_handPaid c_regret c_aside c_other c_states c_kept c_keptLong c_keptAt c_isTaking) s.heap.size = A at hD ⊢
  have hA : ∀ q : Nat, s.heap.size ≤ q → A q := fun q h => by rw [← hAe]; exact Or.inr h
  clear hAe hD0
  have hS : va_S A s.heap s.heap [] := va_S.rf
  have hl := lv_entry ([.ref (ad 0)]) (n := 3) (Nat.le_of_ble_eq_true rfl)
  rw [lg_entry_eq]
  generalize (lg_sl ([.ref (ad 0)]) ++ List.replicate (3 - (lg_sl ([.ref (ad 0)])).length) Slot.unset).toArray = ls at hl ⊢
  have hl : lv_has ls 3 [(0, .ref (ad 0))] := hl
  change W p l e rmX9_readsSoft s m ([.ref (ad 0)] : List Value).toArray below meth c s.heap [] 0 0 _ _
  unfold fX9_readsSoft at hf
  refine lv_aload_n hx hb dX9_readsSoft_0 rfl (lv_at hl 0 rfl) ?_
  refine lv_iconst (v := 1) hx hb dX9_readsSoft_1 (by decide) ?_
  refine lv_iconst (v := 0) hx hb dX9_readsSoft_2 (by decide) ?_
  refine lv_iconst (v := 3) hx hb dX9_readsSoft_3 (by decide) ?_
  obtain ⟨r1, c_spot_2, c_fault_3, c_number_4, c_numberAt_5, c_figures_6, v7, hf⟩ := bd6_some hf
  refine gci (va_runV (As := [.int 1, .int 0, .int 3]) (rest := []) ⟨hx, hb, hml, hown, hts⟩ (tX9_reads l dC dI dA ad s.heap.size v7) (ccX9_X9_reads hts ⟨Nat.le_of_ble_eq_true rfl, Nat.le_of_ble_eq_true rfl⟩) (gPreV (ci := 9) (q0 := 0) hP hK hD rfl rfl) rfl rfl hl.1 rfl (lv_room (Nat.le_of_ble_eq_true rfl)) dX9_readsSoft_4 ⟨Nat.le_of_ble_eq_true rfl, Nat.le_of_ble_eq_true rfl⟩) hD hS hA (fun H locs hP hD hS => ?_)
  refine lv_if_ne (tgt := 11) hx hb dX9_readsSoft_7 (by decide) (fun k8 => ?_) (fun k8 => ?_)
  · replace hf := ifn k8 hf
    refine lv_aload_n hx hb dX9_readsSoft_11 rfl (lv_at hl 0 rfl) ?_
    refine va_get (D := (dC, dI)) (ci := 9) (v := .int c_number_4) (C := RX9) (T := TX9) (N := 45) hx hb hts (fun w h => gw_mem (inX9 w h)) hown hK.1 hP 0 rfl rfl 17 (by decide) (hts _ (gw_mem wfX9_184)) (fun _ h9 => h9) rfl dX9_readsSoft_12 ?_
    refine lv_istore_n (lv' := [(1, .int c_number_4), (0, .ref (ad 0))]) hx hb dX9_readsSoft_15 rfl hl (by decide) rfl (fun ls hl => ?_)
    refine lv_aload_n hx hb dX9_readsSoft_16 rfl (lv_at hl 1 rfl) ?_
    refine lv_bipush (v := 47) hx hb dX9_readsSoft_17 (by decide) ?_
    obtain ⟨r9, c_spot_10, c_fault_11, v12, hf⟩ := bd3_some hf
    refine gci (va_runV (As := [.int 47]) (rest := []) ⟨hx, hb, hml, hown, hts⟩ (tX9_passes l dC dI dA ad H.size v12) (ccX9_X9_passes hts ⟨Nat.le_of_ble_eq_true rfl, Nat.le_of_ble_eq_true rfl⟩) (gPreV (ci := 9) (q0 := 0) hP hK hD rfl rfl) rfl rfl hl.1 rfl (lv_room (Nat.le_of_ble_eq_true rfl)) dX9_readsSoft_19 ⟨Nat.le_of_ble_eq_true rfl, Nat.le_of_ble_eq_true rfl⟩) hD hS hA (fun H locs hP hD hS => ?_)
    refine lv_if_eq (tgt := 44) hx hb dX9_readsSoft_22 (by decide) (fun k13 => ?_) (fun k13 => ?_)
    · replace hf := ifp k13 hf
      cases hf
      exact W.vret hx hb hr (fun t ht _ => gqv hP hD hS ht) hS.2.2 dX9_readsSoft_44
    · replace hf := ifn k13 hf
      refine lv_aload_n hx hb dX9_readsSoft_25 rfl (lv_at hl 1 rfl) ?_
      refine lv_iconst (v := 1) hx hb dX9_readsSoft_26 (by decide) ?_
      refine lv_iload_n hx hb dX9_readsSoft_27 rfl (lv_at hl 0 rfl) ?_
      refine lv_iconst (v := 1) hx hb dX9_readsSoft_28 (by decide) ?_
      obtain ⟨j15, v17, hf⟩ := bd1_some hf
      have J16 : ∀ (H : Heap) (locs : List Loc) (ls : Array Slot), va_P (dC, dI) vwCl (mW dA ad c_tape c_taped c_tree c_bonds c_moves c_handMoves c_moved c_days c_likely c_outOf c_rateNow c_pence c_top c_bottom c_spot_10 c_textLong c_fault_11 c_number_4 c_numberAt_5 c_figures_6 c_written c_wanted c_found c_drawnNow c_worth c_hold c_way c_acts c_sDay c_sUps c_sUp c_sMarks c_paidAll c_isPlayed c_isOn c_handMoved c_handPaid c_regret c_aside c_other c_states c_kept c_keptLong c_keptAt c_isTaking) H → va_D A (mW dA ad c_tape c_taped c_tree c_bonds c_moves c_handMoves c_moved c_days c_likely c_outOf c_rateNow c_pence c_top c_bottom c_spot_10 c_textLong c_fault_11 c_number_4 c_numberAt_5 c_figures_6 c_written c_wanted c_found c_drawnNow c_worth c_hold c_way c_acts c_sDay c_sUps c_sUp c_sMarks c_paidAll c_isPlayed c_isOn c_handMoved c_handPaid c_regret c_aside c_other c_states c_kept c_keptLong c_keptAt c_isTaking) → va_S A s.heap H locs → lv_has ls 3 [(0, .ref (ad 0)), (1, .int c_number_4)] → W p l e rmX9_readsSoft s m ([.ref (ad 0)] : List Value).toArray below meth c H locs 0 0 (MQ below (gQv (dC, dI) (mW dA ad c_tape c_taped c_tree o_c_bonds c_moves c_handMoves c_moved c_days c_likely c_outOf c_rateNow c_pence c_top c_bottom o_c_spot c_textLong o_c_fault o_c_number o_c_numberAt o_c_figures c_written c_wanted c_found c_drawnNow c_worth c_hold c_way c_acts c_sDay c_sUps c_sUp c_sMarks c_paidAll c_isPlayed c_isOn c_handMoved c_handPaid c_regret c_aside c_other c_states c_kept c_keptLong c_keptAt c_isTaking) A) ([.ref (ad 0)] : List Value).toArray s 0 0 A) (F0 m 37 ls [.int j15, .int 1, .ref (ad 0)]) := by
        intro H locs ls hP hD hS hl
        refine lv_iconst (v := 3) hx hb dX9_readsSoft_37 (by decide) ?_
        obtain ⟨r18, c_spot_19, c_fault_20, c_number_21, c_numberAt_22, c_figures_23, v24, hf⟩ := bd6_some hf
        refine gci (va_runV (As := [.int 1, .int j15, .int 3]) (rest := []) ⟨hx, hb, hml, hown, hts⟩ (tX9_reads l dC dI dA ad H.size v24) (ccX9_X9_reads hts ⟨Nat.le_of_ble_eq_true rfl, Nat.le_of_ble_eq_true rfl⟩) (gPreV (ci := 9) (q0 := 0) hP hK hD rfl rfl) rfl rfl hl.1 rfl (lv_room (Nat.le_of_ble_eq_true rfl)) dX9_readsSoft_38 ⟨Nat.le_of_ble_eq_true rfl, Nat.le_of_ble_eq_true rfl⟩) hD hS hA (fun H locs hP hD hS => ?_)
        refine lv_if_ne (tgt := 45) hx hb dX9_readsSoft_41 (by decide) (fun k25 => ?_) (fun k25 => ?_)
        · replace hf := ifn k25 hf
          refine lv_aload_n hx hb dX9_readsSoft_45 rfl (lv_at hl 0 rfl) ?_
          refine va_get (D := (dC, dI)) (ci := 9) (v := .int c_number_21) (C := RX9) (T := TX9) (N := 45) hx hb hts (fun w h => gw_mem (inX9 w h)) hown hK.1 hP 0 rfl rfl 17 (by decide) (hts _ (gw_mem wfX9_184)) (fun _ h9 => h9) rfl dX9_readsSoft_46 ?_
          refine lv_istore_n (lv' := [(2, .int c_number_21), (0, .ref (ad 0)), (1, .int c_number_4)]) hx hb dX9_readsSoft_49 rfl hl (by decide) rfl (fun ls hl => ?_)
          refine lv_aload_n hx hb dX9_readsSoft_50 rfl (lv_at hl 1 rfl) ?_
          refine lv_bipush (v := 47) hx hb dX9_readsSoft_51 (by decide) ?_
          obtain ⟨r26, c_spot_27, c_fault_28, v29, hf⟩ := bd3_some hf
          refine gci (va_runV (As := [.int 47]) (rest := []) ⟨hx, hb, hml, hown, hts⟩ (tX9_passes l dC dI dA ad H.size v29) (ccX9_X9_passes hts ⟨Nat.le_of_ble_eq_true rfl, Nat.le_of_ble_eq_true rfl⟩) (gPreV (ci := 9) (q0 := 0) hP hK hD rfl rfl) rfl rfl hl.1 rfl (lv_room (Nat.le_of_ble_eq_true rfl)) dX9_readsSoft_53 ⟨Nat.le_of_ble_eq_true rfl, Nat.le_of_ble_eq_true rfl⟩) hD hS hA (fun H locs hP hD hS => ?_)
          obtain ⟨c_bonds_31, c_spot_32, c_fault_33, c_number_34, c_numberAt_35, c_figures_36, v38, hf⟩ := bd6_some hf
          have J37 : ∀ (H : Heap) (locs : List Loc) (ls : Array Slot), va_P (dC, dI) vwCl (mW dA ad c_tape c_taped c_tree c_bonds_31 c_moves c_handMoves c_moved c_days c_likely c_outOf c_rateNow c_pence c_top c_bottom c_spot_32 c_textLong c_fault_33 c_number_34 c_numberAt_35 c_figures_36 c_written c_wanted c_found c_drawnNow c_worth c_hold c_way c_acts c_sDay c_sUps c_sUp c_sMarks c_paidAll c_isPlayed c_isOn c_handMoved c_handPaid c_regret c_aside c_other c_states c_kept c_keptLong c_keptAt c_isTaking) H → va_D A (mW dA ad c_tape c_taped c_tree c_bonds_31 c_moves c_handMoves c_moved c_days c_likely c_outOf c_rateNow c_pence c_top c_bottom c_spot_32 c_textLong c_fault_33 c_number_34 c_numberAt_35 c_figures_36 c_written c_wanted c_found c_drawnNow c_worth c_hold c_way c_acts c_sDay c_sUps c_sUp c_sMarks c_paidAll c_isPlayed c_isOn c_handMoved c_handPaid c_regret c_aside c_other c_states c_kept c_keptLong c_keptAt c_isTaking) → va_S A s.heap H locs → lv_has ls 3 [] → W p l e rmX9_readsSoft s m ([.ref (ad 0)] : List Value).toArray below meth c H locs 0 0 (MQ below (gQv (dC, dI) (mW dA ad c_tape c_taped c_tree o_c_bonds c_moves c_handMoves c_moved c_days c_likely c_outOf c_rateNow c_pence c_top c_bottom o_c_spot c_textLong o_c_fault o_c_number o_c_numberAt o_c_figures c_written c_wanted c_found c_drawnNow c_worth c_hold c_way c_acts c_sDay c_sUps c_sUp c_sMarks c_paidAll c_isPlayed c_isOn c_handMoved c_handPaid c_regret c_aside c_other c_states c_kept c_keptLong c_keptAt c_isTaking) A) ([.ref (ad 0)] : List Value).toArray s 0 0 A) (F0 m 82 ls []) := by
            intro H locs ls hP hD hS hl
            cases hf
            exact W.vret hx hb hr (fun t ht _ => gqv hP hD hS ht) hS.2.2 dX9_readsSoft_82
          replace hf := v38
          clear v38
          refine lv_if_eq (tgt := 82) hx hb dX9_readsSoft_56 (by decide) (fun k30 => ?_) (fun k30 => ?_)
          · replace hf := ifp k30 hf
            cases hf
            exact J37 _ _ _ hP hD hS (lv_sub hl [] rfl)
          · replace hf := ifn k30 hf
            refine lv_aload_n hx hb dX9_readsSoft_59 rfl (lv_at hl 1 rfl) ?_
            refine lv_bipush (v := 7) hx hb dX9_readsSoft_60 (by decide) ?_
            refine lv_iconst (v := 0) hx hb dX9_readsSoft_62 (by decide) ?_
            refine lv_ldc (v := 1000000) hx hb hown (hts _ (gw_mem wkX9_206)) dX9_readsSoft_63 ?_
            obtain ⟨r39, c_spot_40, c_fault_41, c_number_42, c_numberAt_43, c_figures_44, v45, hf⟩ := bd6_some hf
            refine gci (va_runV (As := [.int 7, .int 0, .int 1000000]) (rest := []) ⟨hx, hb, hml, hown, hts⟩ (tX9_reads l dC dI dA ad H.size v45) (ccX9_X9_reads hts ⟨Nat.le_of_ble_eq_true rfl, Nat.le_of_ble_eq_true rfl⟩) (gPreV (ci := 9) (q0 := 0) hP hK hD rfl rfl) rfl rfl hl.1 rfl (lv_room (Nat.le_of_ble_eq_true rfl)) dX9_readsSoft_65 ⟨Nat.le_of_ble_eq_true rfl, Nat.le_of_ble_eq_true rfl⟩) hD hS hA (fun H locs hP hD hS => ?_)
            refine lv_if_eq (tgt := 82) hx hb dX9_readsSoft_68 (by decide) (fun k46 => ?_) (fun k46 => ?_)
            · replace hf := ifp k46 hf
              cases hf
              exact J37 _ _ _ hP hD hS (lv_sub hl [] rfl)
            · replace hf := ifn k46 hf
              refine lv_aload_n hx hb dX9_readsSoft_71 rfl (lv_at hl 1 rfl) ?_
              refine lv_iconst (v := 3) hx hb dX9_readsSoft_72 (by decide) ?_
              refine lv_iload_n hx hb dX9_readsSoft_73 rfl (lv_at hl 2 rfl) ?_
              refine lv_iload_n hx hb dX9_readsSoft_74 rfl (lv_at hl 0 rfl) ?_
              refine lv_aload_n hx hb dX9_readsSoft_75 rfl (lv_at hl 1 rfl) ?_
              refine va_get (D := (dC, dI)) (ci := 9) (v := .int c_number_42) (C := RX9) (T := TX9) (N := 45) hx hb hts (fun w h => gw_mem (inX9 w h)) hown hK.1 hP 0 rfl rfl 17 (by decide) (hts _ (gw_mem wfX9_184)) (fun _ h9 => h9) rfl dX9_readsSoft_76 ?_
              obtain ⟨c_bonds_47, v48, hf⟩ := bd1_some hf
              refine gcv (va_runV (As := [.int 3, .int c_number_4, .int c_number_21, .int c_number_42]) (rest := []) ⟨hx, hb, hml, hown, hts⟩ (tX9_softens l dC dI dA ad H.size v48) (ccX9_X9_softens hts ⟨Nat.le_of_ble_eq_true rfl, Nat.le_of_ble_eq_true rfl⟩) (gPreV (ci := 9) (q0 := 0) hP hK hD rfl rfl) rfl rfl hl.1 rfl (lv_room (Nat.le_of_ble_eq_true rfl)) dX9_readsSoft_79 ⟨Nat.le_of_ble_eq_true rfl, Nat.le_of_ble_eq_true rfl⟩) hD hS hA (fun H locs hP hD hS => ?_)
              cases hf
              exact J37 _ _ _ hP hD hS (lv_sub hl [] rfl)
        · replace hf := ifp k25 hf
          cases hf
          exact W.vret hx hb hr (fun t ht _ => gqv hP hD hS ht) hS.2.2 dX9_readsSoft_44
      replace hf := v17
      clear v17
      refine lv_icmp_le (tgt := 36) hx hb dX9_readsSoft_29 (by decide) (fun k14 => ?_) (fun k14 => ?_)
      · replace hf := ifp k14 hf
        refine lv_iconst (v := 1) hx hb dX9_readsSoft_36 (by decide) ?_
        cases hf
        exact J16 _ _ _ hP hD hS (lv_sub hl [1, 0] rfl)
      · replace hf := ifn k14 hf
        refine lv_iload_n hx hb dX9_readsSoft_32 rfl (lv_at hl 0 rfl) ?_
        refine lv_goto (tgt := 37) hx hb dX9_readsSoft_33 (by decide) ?_
        cases hf
        exact J16 _ _ _ hP hD hS (lv_sub hl [1, 0] rfl)
  · replace hf := ifp k8 hf
    cases hf
    exact W.vret hx hb hr (fun t ht _ => gqv hP hD hS ht) hS.2.2 dX9_readsSoft_10
theorem ccX9_X9_readsCoupon {R : Room} {s : State} {args : Array Value} {c0 : Cond} (ht : ∀ w ∈ wq c0, w.before args s = true) (hR : rmX9_readsCoupon.frames + 1 ≤ R.frames ∧ 8 + (4 + 11) + rmX9_readsCoupon.locals ≤ R.locals) : CallW R s args RX9 RX9 207 yX9_readsCoupon cX9_readsCoupon 4 none (wq (.code yX9_readsCoupon cX9_readsCoupon 4 none)) rmX9_readsCoupon 0 0 0 := gCW 0 ht wcX9_readsCoupon wmX9_207 wiX9_readsCoupon weX9_readsCoupon wnX9 (by decide +kernel) rfl rfl hR
theorem ccX9_X9_readsPrice {R : Room} {s : State} {args : Array Value} {c0 : Cond} (ht : ∀ w ∈ wq c0, w.before args s = true) (hR : rmX9_readsPrice.frames + 1 ≤ R.frames ∧ 8 + (3 + 11) + rmX9_readsPrice.locals ≤ R.locals) : CallW R s args RX9 RX9 210 yX9_readsPrice cX9_readsPrice 3 none (wq (.code yX9_readsPrice cX9_readsPrice 3 none)) rmX9_readsPrice 0 0 1 := gCW 1 ht wcX9_readsPrice wmX9_210 wiX9_readsPrice weX9_readsPrice wnX9 (by decide +kernel) rfl rfl hR
theorem ccX9_X9_readsWindow {R : Room} {s : State} {args : Array Value} {c0 : Cond} (ht : ∀ w ∈ wq c0, w.before args s = true) (hR : rmX9_readsWindow.frames + 1 ≤ R.frames ∧ 8 + (2 + 11) + rmX9_readsWindow.locals ≤ R.locals) : CallW R s args RX9 RX9 213 yX9_readsWindow cX9_readsWindow 2 none (wq (.code yX9_readsWindow cX9_readsWindow 2 none)) rmX9_readsWindow 0 0 0 := gCW 0 ht wcX9_readsWindow wmX9_213 wiX9_readsWindow weX9_readsWindow wnX9 (by decide +kernel) rfl rfl hR
theorem ccX9_X9_readsSoft {R : Room} {s : State} {args : Array Value} {c0 : Cond} (ht : ∀ w ∈ wq c0, w.before args s = true) (hR : rmX9_readsSoft.frames + 1 ≤ R.frames ∧ 8 + (3 + 11) + rmX9_readsSoft.locals ≤ R.locals) : CallW R s args RX9 RX9 216 yX9_readsSoft cX9_readsSoft 3 none (wq (.code yX9_readsSoft cX9_readsSoft 3 none)) rmX9_readsSoft 0 0 0 := gCW 0 ht wcX9_readsSoft wmX9_216 wiX9_readsSoft weX9_readsSoft wnX9 (by decide +kernel) rfl rfl hR
abbrev rmX9_readsClause : Room := { frames := 5, cells := 0, slots := 0, locals := 113 }
set_option maxHeartbeats 4000000 in
set_option maxRecDepth 100000 in
theorem tX9_readsClause (l : Launch) (dC : Nat → ClassId) (dI : Nat → Nat → Nat) (dA : Nat → ClassId) (ad : Nat → Nat) (sz : Nat) {p1 : Int32} {c_tape : Nat → Int32} {c_taped : Int32} {c_tree : Nat → Int32} {c_bonds : Nat → Int32} {c_moves : Nat → Int32} {c_handMoves : Nat → Int32} {c_moved : Int32} {c_days : Int32} {c_likely : Int32} {c_outOf : Int32} {c_rateNow : Int32} {c_pence : Nat → Int64} {c_top : Int64} {c_bottom : Int64} {c_spot : Int32} {c_textLong : Int32} {c_fault : Int32} {c_number : Int32} {c_numberAt : Int32} {c_figures : Int32} {c_written : Int32} {c_wanted : Int32} {c_found : Int32} {c_drawnNow : Int32} {c_worth : Nat → Int64} {c_hold : Nat → Int64} {c_way : Nat → Int64} {c_acts : Nat → Int32} {c_sDay : Int32} {c_sUps : Int32} {c_sUp : Int32} {c_sMarks : Int32} {c_paidAll : Int64} {c_isPlayed : Int32} {c_isOn : Int32} {c_handMoved : Int32} {c_handPaid : Int64} {c_regret : Int64} {c_aside : Nat → Int32} {c_other : Nat → Int64} {c_states : Int32} {c_kept : Nat → Int32} {c_keptLong : Nat → Int64} {c_keptAt : Int32} {c_isTaking : Int32} {o_c_bonds : Nat → Int32} {o_c_spot : Int32} {o_c_fault : Int32} {o_c_number : Int32} {o_c_numberAt : Int32} {o_c_figures : Int32} (hf : fX9_readsClause p1 c_tape c_bonds c_spot c_textLong c_fault c_number c_numberAt c_figures = some (o_c_bonds, o_c_spot, o_c_fault, o_c_number, o_c_numberAt, o_c_figures)) : Met l yX9_readsClause (wq (Cond.code yX9_readsClause cX9_readsClause 2 none)) rmX9_readsClause (gP [.ref (ad 0), .int p1] (dC, dI) dA (mW dA ad c_tape c_taped c_tree c_bonds c_moves c_handMoves c_moved c_days c_likely c_outOf c_rateNow c_pence c_top c_bottom c_spot c_textLong c_fault c_number c_numberAt c_figures c_written c_wanted c_found c_drawnNow c_worth c_hold c_way c_acts c_sDay c_sUps c_sUp c_sMarks c_paidAll c_isPlayed c_isOn c_handMoved c_handPaid c_regret c_aside c_other c_states c_kept c_keptLong c_keptAt c_isTaking) sz) (gQv (dC, dI) (mW dA ad c_tape c_taped c_tree o_c_bonds c_moves c_handMoves c_moved c_days c_likely c_outOf c_rateNow c_pence c_top c_bottom o_c_spot c_textLong o_c_fault o_c_number o_c_numberAt o_c_figures c_written c_wanted c_found c_drawnNow c_worth c_hold c_way c_acts c_sDay c_sUps c_sUp c_sMarks c_paidAll c_isPlayed c_isOn c_handMoved c_handPaid c_regret c_aside c_other c_states c_kept c_keptLong c_keptAt c_isTaking) (va_A (mW dA ad c_tape c_taped c_tree c_bonds c_moves c_handMoves c_moved c_days c_likely c_outOf c_rateNow c_pence c_top c_bottom c_spot c_textLong c_fault c_number c_numberAt c_figures c_written c_wanted c_found c_drawnNow c_worth c_hold c_way c_acts c_sDay c_sUps c_sUp c_sMarks c_paidAll c_isPlayed c_isOn c_handMoved c_handPaid c_regret c_aside c_other c_states c_kept c_keptLong c_keptAt c_isTaking) sz)) 0 0 (va_A (mW dA ad c_tape c_taped c_tree c_bonds c_moves c_handMoves c_moved c_days c_likely c_outOf c_rateNow c_pence c_top c_bottom c_spot c_textLong c_fault c_number c_numberAt c_figures c_written c_wanted c_found c_drawnNow c_worth c_hold c_way c_acts c_sDay c_sUps c_sUp c_sMarks c_paidAll c_isPlayed c_isOn c_handMoved c_handPaid c_regret c_aside c_other c_states c_kept c_keptLong c_keptAt c_isTaking) sz) := by
  refine Met.ofW (cc := cX9_readsClause) (maxL := 2) (ret := none) (by decide) rfl ?_
  intro p e s m args below meth c s₁ B hml hv
  obtain ⟨rfl, hsz, hP, hK, hD0⟩ := hv
  have hx := B.exec
  have hb := B.bytes
  have hr := B.returns
  have hts := atoms_spec (ws := wq (Cond.code yX9_readsClause cX9_readsClause 2 none)) B.pre
  have hown : s.vm.findClass RX9 = some m.cls := findClass_of_methodNamed B.named
  have hlocks := B.notSynchronized
  clear B
  subst hsz
  have hD := hD0.self (sz := s.heap.size)
  generalize hAe : va_A (mW dA ad c_tape c_taped c_tree c_bonds c_moves c_handMoves c_moved c_days c_likely c_outOf c_rateNow c_pence c_top c_bottom c_spot c_textLong c_fault c_number c_numberAt c_figures c_written c_wanted c_found c_drawnNow c_worth c_hold c_way c_acts c_sDay c_sUps c_sUp c_sMarks c_paidAll c_isPlayed c_isOn c_handMoved c_handPaid c_regret c_aside c_other c_states c_kept c_keptLong c_keptAt c_isTaking) s.heap.size = A at hD ⊢
  have hA : ∀ q : Nat, s.heap.size ≤ q → A q := fun q h => by rw [← hAe]; exact Or.inr h
  clear hAe hD0
  have hS : va_S A s.heap s.heap [] := va_S.rf
  have hl := lv_entry ([.ref (ad 0), .int p1]) (n := 2) (Nat.le_of_ble_eq_true rfl)
  rw [lg_entry_eq]
  generalize (lg_sl ([.ref (ad 0), .int p1]) ++ List.replicate (2 - (lg_sl ([.ref (ad 0), .int p1])).length) Slot.unset).toArray = ls at hl ⊢
  have hl : lv_has ls 2 [(0, .ref (ad 0)), (1, .int p1)] := hl
  change W p l e rmX9_readsClause s m ([.ref (ad 0), .int p1] : List Value).toArray below meth c s.heap [] 0 0 _ _
  unfold fX9_readsClause at hf
  refine lv_aload_n hx hb dX9_readsClause_0 rfl (lv_at hl 0 rfl) ?_
  refine lv_aload_n hx hb dX9_readsClause_1 rfl (lv_at hl 0 rfl) ?_
  refine va_get (D := (dC, dI)) (ci := 9) (v := .int c_spot) (C := RX9) (T := TX9) (N := 45) hx hb hts (fun w h => gw_mem (inX9 w h)) hown hK.1 hP 0 rfl rfl 14 (by decide) (hts _ (gw_mem wfX9_164)) (fun _ h9 => h9) rfl dX9_readsClause_2 ?_
  refine lv_iconst (v := 1) hx hb dX9_readsClause_5 (by decide) ?_
  refine lv_iadd hx hb dX9_readsClause_6 ?_
  refine lv_topi (fun w1 ew1 => ?_)
  replace hf := nm_at hf ew1
  refine va_put (D := (dC, dI)) (ci := 9) (v := .int w1) (ty := .int) (C := RX9) (T := TX9) (N := 45) hx hb hts (fun w h => gw_mem (inX9 w h)) tyX9 tyX9_ok nmX9 hown hK.1 hP hD hS 0 rfl rfl 14 (by decide) (hts _ (gw_mem wfX9_164)) (fun _ h9 => h9) rfl (by decide +kernel) rfl rfl (Nat.le_of_ble_eq_true rfl) dX9_readsClause_7 (fun H locs hP hD hS => ?_)
  have hP : va_P (dC, dI) vwCl (mW dA ad c_tape c_taped c_tree c_bonds c_moves c_handMoves c_moved c_days c_likely c_outOf c_rateNow c_pence c_top c_bottom w1 c_textLong c_fault c_number c_numberAt c_figures c_written c_wanted c_found c_drawnNow c_worth c_hold c_way c_acts c_sDay c_sUps c_sUp c_sMarks c_paidAll c_isPlayed c_isOn c_handMoved c_handPaid c_regret c_aside c_other c_states c_kept c_keptLong c_keptAt c_isTaking) H := hP
  have hD : va_D A (mW dA ad c_tape c_taped c_tree c_bonds c_moves c_handMoves c_moved c_days c_likely c_outOf c_rateNow c_pence c_top c_bottom w1 c_textLong c_fault c_number c_numberAt c_figures c_written c_wanted c_found c_drawnNow c_worth c_hold c_way c_acts c_sDay c_sUps c_sUp c_sMarks c_paidAll c_isPlayed c_isOn c_handMoved c_handPaid c_regret c_aside c_other c_states c_kept c_keptLong c_keptAt c_isTaking) := hD
  refine lv_iload_n hx hb dX9_readsClause_10 rfl (lv_at hl 1 rfl) ?_
  obtain ⟨c_bonds_2, c_spot_3, c_fault_4, c_number_5, c_numberAt_6, c_figures_7, v9, hf⟩ := bd6_some hf
  have J8 : ∀ (H : Heap) (locs : List Loc) (ls : Array Slot), va_P (dC, dI) vwCl (mW dA ad c_tape c_taped c_tree c_bonds_2 c_moves c_handMoves c_moved c_days c_likely c_outOf c_rateNow c_pence c_top c_bottom c_spot_3 c_textLong c_fault_4 c_number_5 c_numberAt_6 c_figures_7 c_written c_wanted c_found c_drawnNow c_worth c_hold c_way c_acts c_sDay c_sUps c_sUp c_sMarks c_paidAll c_isPlayed c_isOn c_handMoved c_handPaid c_regret c_aside c_other c_states c_kept c_keptLong c_keptAt c_isTaking) H → va_D A (mW dA ad c_tape c_taped c_tree c_bonds_2 c_moves c_handMoves c_moved c_days c_likely c_outOf c_rateNow c_pence c_top c_bottom c_spot_3 c_textLong c_fault_4 c_number_5 c_numberAt_6 c_figures_7 c_written c_wanted c_found c_drawnNow c_worth c_hold c_way c_acts c_sDay c_sUps c_sUp c_sMarks c_paidAll c_isPlayed c_isOn c_handMoved c_handPaid c_regret c_aside c_other c_states c_kept c_keptLong c_keptAt c_isTaking) → va_S A s.heap H locs → lv_has ls 2 [] → W p l e rmX9_readsClause s m ([.ref (ad 0), .int p1] : List Value).toArray below meth c H locs 0 0 (MQ below (gQv (dC, dI) (mW dA ad c_tape c_taped c_tree o_c_bonds c_moves c_handMoves c_moved c_days c_likely c_outOf c_rateNow c_pence c_top c_bottom o_c_spot c_textLong o_c_fault o_c_number o_c_numberAt o_c_figures c_written c_wanted c_found c_drawnNow c_worth c_hold c_way c_acts c_sDay c_sUps c_sUp c_sMarks c_paidAll c_isPlayed c_isOn c_handMoved c_handPaid c_regret c_aside c_other c_states c_kept c_keptLong c_keptAt c_isTaking) A) ([.ref (ad 0), .int p1] : List Value).toArray s 0 0 A) (F0 m 254 ls []) := by
    intro H locs ls hP hD hS hl
    cases hf
    exact W.vret hx hb hr (fun t ht _ => gqv hP hD hS ht) hS.2.2 dX9_readsClause_254
  replace hf := v9
  clear v9
  by_cases k10 : p1 = 99
  · replace hf := ifp k10 hf
    refine lv_tableIn (tgt := 171) hx hb dX9_readsClause_11 (by rw [k10]; decide) (by rw [k10]; decide) (by rw [k10]; rfl) (by decide) ?_
    refine lv_aload_n hx hb dX9_readsClause_171 rfl (lv_at hl 0 rfl) ?_
    obtain ⟨c_bonds_11, c_spot_12, c_fault_13, c_number_14, c_numberAt_15, c_figures_16, v17, hf⟩ := bd6_some hf
    refine gcv (va_runV (As := []) (rest := []) ⟨hx, hb, hml, hown, hts⟩ (tX9_readsCoupon l dC dI dA ad H.size v17) (ccX9_X9_readsCoupon hts ⟨Nat.le_of_ble_eq_true rfl, Nat.le_of_ble_eq_true rfl⟩) (gPreV (ci := 9) (q0 := 0) hP hK hD rfl rfl) rfl rfl hl.1 rfl (lv_room (Nat.le_of_ble_eq_true rfl)) dX9_readsClause_172 ⟨Nat.le_of_ble_eq_true rfl, Nat.le_of_ble_eq_true rfl⟩) hD hS hA (fun H locs hP hD hS => ?_)
    refine lv_goto (tgt := 254) hx hb dX9_readsClause_175 (by decide) ?_
    cases hf
    exact J8 _ _ _ hP hD hS (lv_sub hl [] rfl)
  · replace hf := ifn k10 hf
    by_cases k18 : p1 = 102
    · replace hf := ifp k18 hf
      refine lv_tableIn (tgt := 120) hx hb dX9_readsClause_11 (by rw [k18]; decide) (by rw [k18]; decide) (by rw [k18]; rfl) (by decide) ?_
      refine lv_aload_n hx hb dX9_readsClause_120 rfl (lv_at hl 0 rfl) ?_
      refine lv_bipush (v := 7) hx hb dX9_readsClause_121 (by decide) ?_
      refine lv_iconst (v := 1) hx hb dX9_readsClause_123 (by decide) ?_
      refine lv_ldc (v := 1000000) hx hb hown (hts _ (gw_mem wkX9_206)) dX9_readsClause_124 ?_
      obtain ⟨r19, c_spot_20, c_fault_21, c_number_22, c_numberAt_23, c_figures_24, v25, hf⟩ := bd6_some hf
      refine gci (va_runV (As := [.int 7, .int 1, .int 1000000]) (rest := []) ⟨hx, hb, hml, hown, hts⟩ (tX9_reads l dC dI dA ad H.size v25) (ccX9_X9_reads hts ⟨Nat.le_of_ble_eq_true rfl, Nat.le_of_ble_eq_true rfl⟩) (gPreV (ci := 9) (q0 := 0) hP hK hD rfl rfl) rfl rfl hl.1 rfl (lv_room (Nat.le_of_ble_eq_true rfl)) dX9_readsClause_126 ⟨Nat.le_of_ble_eq_true rfl, Nat.le_of_ble_eq_true rfl⟩) hD hS hA (fun H locs hP hD hS => ?_)
      refine lv_if_eq (tgt := 254) hx hb dX9_readsClause_129 (by decide) (fun k26 => ?_) (fun k26 => ?_)
      · replace hf := ifp k26 hf
        cases hf
        exact J8 _ _ _ hP hD hS (lv_sub hl [] rfl)
      · replace hf := ifn k26 hf
        refine lv_aload_n hx hb dX9_readsClause_132 rfl (lv_at hl 0 rfl) ?_
        refine lv_iconst (v := 3) hx hb dX9_readsClause_133 (by decide) ?_
        refine lv_iconst (v := 0) hx hb dX9_readsClause_134 (by decide) ?_
        refine lv_aload_n hx hb dX9_readsClause_135 rfl (lv_at hl 0 rfl) ?_
        refine va_get (D := (dC, dI)) (ci := 9) (v := .int c_number_22) (C := RX9) (T := TX9) (N := 45) hx hb hts (fun w h => gw_mem (inX9 w h)) hown hK.1 hP 0 rfl rfl 17 (by decide) (hts _ (gw_mem wfX9_184)) (fun _ h9 => h9) rfl dX9_readsClause_136 ?_
        obtain ⟨c_bonds_27, v28, hf⟩ := bd1_some hf
        refine gcv (va_runV (As := [.int 3, .int 0, .int c_number_22]) (rest := []) ⟨hx, hb, hml, hown, hts⟩ (tX9_sets l dC dI dA ad H.size v28) (ccX9_X9_sets hts ⟨Nat.le_of_ble_eq_true rfl, Nat.le_of_ble_eq_true rfl⟩) (gPreV (ci := 9) (q0 := 0) hP hK hD rfl rfl) rfl rfl hl.1 rfl (lv_room (Nat.le_of_ble_eq_true rfl)) dX9_readsClause_139 ⟨Nat.le_of_ble_eq_true rfl, Nat.le_of_ble_eq_true rfl⟩) hD hS hA (fun H locs hP hD hS => ?_)
        refine lv_goto (tgt := 254) hx hb dX9_readsClause_142 (by decide) ?_
        cases hf
        exact J8 _ _ _ hP hD hS (lv_sub hl [] rfl)
    · replace hf := ifn k18 hf
      by_cases k29 : p1 = 107
      · replace hf := ifp k29 hf
        refine lv_tableIn (tgt := 178) hx hb dX9_readsClause_11 (by rw [k29]; decide) (by rw [k29]; decide) (by rw [k29]; rfl) (by decide) ?_
        refine lv_aload_n hx hb dX9_readsClause_178 rfl (lv_at hl 0 rfl) ?_
        refine lv_bipush (v := 9) hx hb dX9_readsClause_179 (by decide) ?_
        obtain ⟨c_bonds_30, c_spot_31, c_fault_32, c_number_33, c_numberAt_34, c_figures_35, v36, hf⟩ := bd6_some hf
        refine gcv (va_runV (As := [.int 9]) (rest := []) ⟨hx, hb, hml, hown, hts⟩ (tX9_readsPrice l dC dI dA ad H.size v36) (ccX9_X9_readsPrice hts ⟨Nat.le_of_ble_eq_true rfl, Nat.le_of_ble_eq_true rfl⟩) (gPreV (ci := 9) (q0 := 0) hP hK hD rfl rfl) rfl rfl hl.1 rfl (lv_room (Nat.le_of_ble_eq_true rfl)) dX9_readsClause_181 ⟨Nat.le_of_ble_eq_true rfl, Nat.le_of_ble_eq_true rfl⟩) hD hS hA (fun H locs hP hD hS => ?_)
        refine lv_goto (tgt := 254) hx hb dX9_readsClause_184 (by decide) ?_
        cases hf
        exact J8 _ _ _ hP hD hS (lv_sub hl [] rfl)
      · replace hf := ifn k29 hf
        by_cases k37 : p1 = 110
        · replace hf := ifp k37 hf
          refine lv_tableIn (tgt := 145) hx hb dX9_readsClause_11 (by rw [k37]; decide) (by rw [k37]; decide) (by rw [k37]; rfl) (by decide) ?_
          refine lv_aload_n hx hb dX9_readsClause_145 rfl (lv_at hl 0 rfl) ?_
          refine lv_bipush (v := 7) hx hb dX9_readsClause_146 (by decide) ?_
          refine lv_iconst (v := 0) hx hb dX9_readsClause_148 (by decide) ?_
          refine lv_sipush (v := 1000) hx hb dX9_readsClause_149 (by decide) ?_
          obtain ⟨r38, c_spot_39, c_fault_40, c_number_41, c_numberAt_42, c_figures_43, v44, hf⟩ := bd6_some hf
          refine gci (va_runV (As := [.int 7, .int 0, .int 1000]) (rest := []) ⟨hx, hb, hml, hown, hts⟩ (tX9_reads l dC dI dA ad H.size v44) (ccX9_X9_reads hts ⟨Nat.le_of_ble_eq_true rfl, Nat.le_of_ble_eq_true rfl⟩) (gPreV (ci := 9) (q0 := 0) hP hK hD rfl rfl) rfl rfl hl.1 rfl (lv_room (Nat.le_of_ble_eq_true rfl)) dX9_readsClause_152 ⟨Nat.le_of_ble_eq_true rfl, Nat.le_of_ble_eq_true rfl⟩) hD hS hA (fun H locs hP hD hS => ?_)
          refine lv_if_eq (tgt := 254) hx hb dX9_readsClause_155 (by decide) (fun k45 => ?_) (fun k45 => ?_)
          · replace hf := ifp k45 hf
            cases hf
            exact J8 _ _ _ hP hD hS (lv_sub hl [] rfl)
          · replace hf := ifn k45 hf
            refine lv_aload_n hx hb dX9_readsClause_158 rfl (lv_at hl 0 rfl) ?_
            refine lv_iconst (v := 3) hx hb dX9_readsClause_159 (by decide) ?_
            refine lv_iconst (v := 1) hx hb dX9_readsClause_160 (by decide) ?_
            refine lv_aload_n hx hb dX9_readsClause_161 rfl (lv_at hl 0 rfl) ?_
            refine va_get (D := (dC, dI)) (ci := 9) (v := .int c_number_41) (C := RX9) (T := TX9) (N := 45) hx hb hts (fun w h => gw_mem (inX9 w h)) hown hK.1 hP 0 rfl rfl 17 (by decide) (hts _ (gw_mem wfX9_184)) (fun _ h9 => h9) rfl dX9_readsClause_162 ?_
            obtain ⟨c_bonds_46, v47, hf⟩ := bd1_some hf
            refine gcv (va_runV (As := [.int 3, .int 1, .int c_number_41]) (rest := []) ⟨hx, hb, hml, hown, hts⟩ (tX9_sets l dC dI dA ad H.size v47) (ccX9_X9_sets hts ⟨Nat.le_of_ble_eq_true rfl, Nat.le_of_ble_eq_true rfl⟩) (gPreV (ci := 9) (q0 := 0) hP hK hD rfl rfl) rfl rfl hl.1 rfl (lv_room (Nat.le_of_ble_eq_true rfl)) dX9_readsClause_165 ⟨Nat.le_of_ble_eq_true rfl, Nat.le_of_ble_eq_true rfl⟩) hD hS hA (fun H locs hP hD hS => ?_)
            refine lv_goto (tgt := 254) hx hb dX9_readsClause_168 (by decide) ?_
            cases hf
            exact J8 _ _ _ hP hD hS (lv_sub hl [] rfl)
        · replace hf := ifn k37 hf
          by_cases k48 : p1 = 112
          · replace hf := ifp k48 hf
            refine lv_tableIn (tgt := 187) hx hb dX9_readsClause_11 (by rw [k48]; decide) (by rw [k48]; decide) (by rw [k48]; rfl) (by decide) ?_
            refine lv_aload_n hx hb dX9_readsClause_187 rfl (lv_at hl 0 rfl) ?_
            refine lv_bipush (v := 15) hx hb dX9_readsClause_188 (by decide) ?_
            obtain ⟨c_bonds_49, c_spot_50, c_fault_51, c_number_52, c_numberAt_53, c_figures_54, v55, hf⟩ := bd6_some hf
            refine gcv (va_runV (As := [.int 15]) (rest := []) ⟨hx, hb, hml, hown, hts⟩ (tX9_readsPrice l dC dI dA ad H.size v55) (ccX9_X9_readsPrice hts ⟨Nat.le_of_ble_eq_true rfl, Nat.le_of_ble_eq_true rfl⟩) (gPreV (ci := 9) (q0 := 0) hP hK hD rfl rfl) rfl rfl hl.1 rfl (lv_room (Nat.le_of_ble_eq_true rfl)) dX9_readsClause_190 ⟨Nat.le_of_ble_eq_true rfl, Nat.le_of_ble_eq_true rfl⟩) hD hS hA (fun H locs hP hD hS => ?_)
            refine lv_goto (tgt := 254) hx hb dX9_readsClause_193 (by decide) ?_
            cases hf
            exact J8 _ _ _ hP hD hS (lv_sub hl [] rfl)
          · replace hf := ifn k48 hf
            by_cases k56 : p1 = 115
            · replace hf := ifp k56 hf
              refine lv_tableIn (tgt := 203) hx hb dX9_readsClause_11 (by rw [k56]; decide) (by rw [k56]; decide) (by rw [k56]; rfl) (by decide) ?_
              refine lv_aload_n hx hb dX9_readsClause_203 rfl (lv_at hl 0 rfl) ?_
              obtain ⟨c_bonds_57, c_spot_58, c_fault_59, c_number_60, c_numberAt_61, c_figures_62, v63, hf⟩ := bd6_some hf
              refine gcv (va_runV (As := []) (rest := []) ⟨hx, hb, hml, hown, hts⟩ (tX9_readsSoft l dC dI dA ad H.size v63) (ccX9_X9_readsSoft hts ⟨Nat.le_of_ble_eq_true rfl, Nat.le_of_ble_eq_true rfl⟩) (gPreV (ci := 9) (q0 := 0) hP hK hD rfl rfl) rfl rfl hl.1 rfl (lv_room (Nat.le_of_ble_eq_true rfl)) dX9_readsClause_204 ⟨Nat.le_of_ble_eq_true rfl, Nat.le_of_ble_eq_true rfl⟩) hD hS hA (fun H locs hP hD hS => ?_)
              refine lv_goto (tgt := 254) hx hb dX9_readsClause_207 (by decide) ?_
              cases hf
              exact J8 _ _ _ hP hD hS (lv_sub hl [] rfl)
            · replace hf := ifn k56 hf
              by_cases k64 : p1 = 119
              · replace hf := ifp k64 hf
                refine lv_tableIn (tgt := 196) hx hb dX9_readsClause_11 (by rw [k64]; decide) (by rw [k64]; decide) (by rw [k64]; rfl) (by decide) ?_
                refine lv_aload_n hx hb dX9_readsClause_196 rfl (lv_at hl 0 rfl) ?_
                obtain ⟨c_bonds_65, c_spot_66, c_fault_67, c_number_68, c_numberAt_69, c_figures_70, v71, hf⟩ := bd6_some hf
                refine gcv (va_runV (As := []) (rest := []) ⟨hx, hb, hml, hown, hts⟩ (tX9_readsWindow l dC dI dA ad H.size v71) (ccX9_X9_readsWindow hts ⟨Nat.le_of_ble_eq_true rfl, Nat.le_of_ble_eq_true rfl⟩) (gPreV (ci := 9) (q0 := 0) hP hK hD rfl rfl) rfl rfl hl.1 rfl (lv_room (Nat.le_of_ble_eq_true rfl)) dX9_readsClause_197 ⟨Nat.le_of_ble_eq_true rfl, Nat.le_of_ble_eq_true rfl⟩) hD hS hA (fun H locs hP hD hS => ?_)
                refine lv_goto (tgt := 254) hx hb dX9_readsClause_200 (by decide) ?_
                cases hf
                exact J8 _ _ _ hP hD hS (lv_sub hl [] rfl)
              · replace hf := ifn k64 hf
                by_cases k72 : p1 = 122
                · replace hf := ifp k72 hf
                  refine lv_tableIn (tgt := 210) hx hb dX9_readsClause_11 (by rw [k72]; decide) (by rw [k72]; decide) (by rw [k72]; rfl) (by decide) ?_
                  refine lv_aload_n hx hb dX9_readsClause_210 rfl (lv_at hl 0 rfl) ?_
                  refine lv_iconst (v := 1) hx hb dX9_readsClause_211 (by decide) ?_
                  refine lv_iconst (v := 0) hx hb dX9_readsClause_212 (by decide) ?_
                  refine lv_iconst (v := 3) hx hb dX9_readsClause_213 (by decide) ?_
                  obtain ⟨r73, c_spot_74, c_fault_75, c_number_76, c_numberAt_77, c_figures_78, v79, hf⟩ := bd6_some hf
                  refine gci (va_runV (As := [.int 1, .int 0, .int 3]) (rest := []) ⟨hx, hb, hml, hown, hts⟩ (tX9_reads l dC dI dA ad H.size v79) (ccX9_X9_reads hts ⟨Nat.le_of_ble_eq_true rfl, Nat.le_of_ble_eq_true rfl⟩) (gPreV (ci := 9) (q0 := 0) hP hK hD rfl rfl) rfl rfl hl.1 rfl (lv_room (Nat.le_of_ble_eq_true rfl)) dX9_readsClause_214 ⟨Nat.le_of_ble_eq_true rfl, Nat.le_of_ble_eq_true rfl⟩) hD hS hA (fun H locs hP hD hS => ?_)
                  refine lv_if_eq (tgt := 254) hx hb dX9_readsClause_217 (by decide) (fun k80 => ?_) (fun k80 => ?_)
                  · replace hf := ifp k80 hf
                    cases hf
                    exact J8 _ _ _ hP hD hS (lv_sub hl [] rfl)
                  · replace hf := ifn k80 hf
                    refine lv_aload_n hx hb dX9_readsClause_220 rfl (lv_at hl 0 rfl) ?_
                    refine lv_iconst (v := 3) hx hb dX9_readsClause_221 (by decide) ?_
                    refine lv_bipush (v := 26) hx hb dX9_readsClause_222 (by decide) ?_
                    refine lv_aload_n hx hb dX9_readsClause_224 rfl (lv_at hl 0 rfl) ?_
                    refine va_get (D := (dC, dI)) (ci := 9) (v := .int c_number_76) (C := RX9) (T := TX9) (N := 45) hx hb hts (fun w h => gw_mem (inX9 w h)) hown hK.1 hP 0 rfl rfl 17 (by decide) (hts _ (gw_mem wfX9_184)) (fun _ h9 => h9) rfl dX9_readsClause_225 ?_
                    obtain ⟨c_bonds_81, v82, hf⟩ := bd1_some hf
                    refine gcv (va_runV (As := [.int 3, .int 26, .int c_number_76]) (rest := []) ⟨hx, hb, hml, hown, hts⟩ (tX9_sets l dC dI dA ad H.size v82) (ccX9_X9_sets hts ⟨Nat.le_of_ble_eq_true rfl, Nat.le_of_ble_eq_true rfl⟩) (gPreV (ci := 9) (q0 := 0) hP hK hD rfl rfl) rfl rfl hl.1 rfl (lv_room (Nat.le_of_ble_eq_true rfl)) dX9_readsClause_228 ⟨Nat.le_of_ble_eq_true rfl, Nat.le_of_ble_eq_true rfl⟩) hD hS hA (fun H locs hP hD hS => ?_)
                    refine lv_goto (tgt := 254) hx hb dX9_readsClause_231 (by decide) ?_
                    cases hf
                    exact J8 _ _ _ hP hD hS (lv_sub hl [] rfl)
                · replace hf := ifn k72 hf
                  have uk10 := lv_neT (a := 99) k10 (by decide)
                  have uk18 := lv_neT (a := 102) k18 (by decide)
                  have uk29 := lv_neT (a := 107) k29 (by decide)
                  have uk37 := lv_neT (a := 110) k37 (by decide)
                  have uk48 := lv_neT (a := 112) k48 (by decide)
                  have uk56 := lv_neT (a := 115) k56 (by decide)
                  have uk64 := lv_neT (a := 119) k64 (by decide)
                  have uk72 := lv_neT (a := 122) k72 (by decide)
                  refine tb_tableD (tgt := 234) (gs := [100, 101, 103, 104, 105, 106, 108, 109, 111, 113, 114, 116, 117, 118, 120, 121]) hx hb dX9_readsClause_11 (by decide +kernel) (fun h1 h2 => by simp only [List.mem_cons, List.not_mem_nil, or_false]; omega) (by decide) ?_
                  refine lv_aload_n hx hb dX9_readsClause_234 rfl (lv_at hl 0 rfl) ?_
                  refine lv_aload_n hx hb dX9_readsClause_235 rfl (lv_at hl 0 rfl) ?_
                  refine va_get (D := (dC, dI)) (ci := 9) (v := .int w1) (C := RX9) (T := TX9) (N := 45) hx hb hts (fun w h => gw_mem (inX9 w h)) hown hK.1 hP 0 rfl rfl 14 (by decide) (hts _ (gw_mem wfX9_164)) (fun _ h9 => h9) rfl dX9_readsClause_236 ?_
                  refine lv_iconst (v := 1) hx hb dX9_readsClause_239 (by decide) ?_
                  refine lv_isub hx hb dX9_readsClause_240 ?_
                  refine lv_topi (fun w83 ew83 => ?_)
                  replace hf := nm_at hf ew83
                  refine va_put (D := (dC, dI)) (ci := 9) (v := .int w83) (ty := .int) (C := RX9) (T := TX9) (N := 45) hx hb hts (fun w h => gw_mem (inX9 w h)) tyX9 tyX9_ok nmX9 hown hK.1 hP hD hS 0 rfl rfl 14 (by decide) (hts _ (gw_mem wfX9_164)) (fun _ h9 => h9) rfl (by decide +kernel) rfl rfl (Nat.le_of_ble_eq_true rfl) dX9_readsClause_241 (fun H locs hP hD hS => ?_)
                  have hP : va_P (dC, dI) vwCl (mW dA ad c_tape c_taped c_tree c_bonds c_moves c_handMoves c_moved c_days c_likely c_outOf c_rateNow c_pence c_top c_bottom w83 c_textLong c_fault c_number c_numberAt c_figures c_written c_wanted c_found c_drawnNow c_worth c_hold c_way c_acts c_sDay c_sUps c_sUp c_sMarks c_paidAll c_isPlayed c_isOn c_handMoved c_handPaid c_regret c_aside c_other c_states c_kept c_keptLong c_keptAt c_isTaking) H := hP
                  have hD : va_D A (mW dA ad c_tape c_taped c_tree c_bonds c_moves c_handMoves c_moved c_days c_likely c_outOf c_rateNow c_pence c_top c_bottom w83 c_textLong c_fault c_number c_numberAt c_figures c_written c_wanted c_found c_drawnNow c_worth c_hold c_way c_acts c_sDay c_sUps c_sUp c_sMarks c_paidAll c_isPlayed c_isOn c_handMoved c_handPaid c_regret c_aside c_other c_states c_kept c_keptLong c_keptAt c_isTaking) := hD
                  refine lv_aload_n hx hb dX9_readsClause_244 rfl (lv_at hl 0 rfl) ?_
                  refine lv_iconst (v := 1) hx hb dX9_readsClause_245 (by decide) ?_
                  refine lv_aload_n hx hb dX9_readsClause_246 rfl (lv_at hl 0 rfl) ?_
                  refine va_get (D := (dC, dI)) (ci := 9) (v := .int w83) (C := RX9) (T := TX9) (N := 45) hx hb hts (fun w h => gw_mem (inX9 w h)) hown hK.1 hP 0 rfl rfl 14 (by decide) (hts _ (gw_mem wfX9_164)) (fun _ h9 => h9) rfl dX9_readsClause_247 ?_
                  obtain ⟨r84, c_fault_85, v86, hf⟩ := bd2_some hf
                  refine gci (va_runV (As := [.int 1, .int w83]) (rest := []) ⟨hx, hb, hml, hown, hts⟩ (tX9_wrong l dC dI dA ad H.size v86) (ccX9_X9_wrong hts ⟨Nat.le_of_ble_eq_true rfl, Nat.le_of_ble_eq_true rfl⟩) (gPreV (ci := 9) (q0 := 0) hP hK hD rfl rfl) rfl rfl hl.1 rfl (lv_room (Nat.le_of_ble_eq_true rfl)) dX9_readsClause_250 ⟨Nat.le_of_ble_eq_true rfl, Nat.le_of_ble_eq_true rfl⟩) hD hS hA (fun H locs hP hD hS => ?_)
                  refine lv_pop hx hb dX9_readsClause_253 rfl ?_
                  cases hf
                  exact J8 _ _ _ hP hD hS (lv_sub hl [] rfl)
theorem ccX9_X9_readsClause {R : Room} {s : State} {args : Array Value} {c0 : Cond} (ht : ∀ w ∈ wq c0, w.before args s = true) (hR : rmX9_readsClause.frames + 1 ≤ R.frames ∧ 8 + (2 + 11) + rmX9_readsClause.locals ≤ R.locals) : CallW R s args RX9 RX9 219 yX9_readsClause cX9_readsClause 2 none (wq (.code yX9_readsClause cX9_readsClause 2 none)) rmX9_readsClause 0 0 1 := gCW 1 ht wcX9_readsClause wmX9_219 wiX9_readsClause weX9_readsClause wnX9 (by decide +kernel) rfl rfl hR
abbrev rmX9_terms : Room := { frames := 6, cells := 0, slots := 0, locals := 134 }
set_option maxHeartbeats 4000000 in
set_option maxRecDepth 100000 in
theorem tX9_terms (l : Launch) (dC : Nat → ClassId) (dI : Nat → Nat → Nat) (dA : Nat → ClassId) (ad : Nat → Nat) (sz : Nat) {p1 : Int32} {p2 : Int32} {c_tape : Nat → Int32} {c_taped : Int32} {c_tree : Nat → Int32} {c_bonds : Nat → Int32} {c_moves : Nat → Int32} {c_handMoves : Nat → Int32} {c_moved : Int32} {c_days : Int32} {c_likely : Int32} {c_outOf : Int32} {c_rateNow : Int32} {c_pence : Nat → Int64} {c_top : Int64} {c_bottom : Int64} {c_spot : Int32} {c_textLong : Int32} {c_fault : Int32} {c_number : Int32} {c_numberAt : Int32} {c_figures : Int32} {c_written : Int32} {c_wanted : Int32} {c_found : Int32} {c_drawnNow : Int32} {c_worth : Nat → Int64} {c_hold : Nat → Int64} {c_way : Nat → Int64} {c_acts : Nat → Int32} {c_sDay : Int32} {c_sUps : Int32} {c_sUp : Int32} {c_sMarks : Int32} {c_paidAll : Int64} {c_isPlayed : Int32} {c_isOn : Int32} {c_handMoved : Int32} {c_handPaid : Int64} {c_regret : Int64} {c_aside : Nat → Int32} {c_other : Nat → Int64} {c_states : Int32} {c_kept : Nat → Int32} {c_keptLong : Nat → Int64} {c_keptAt : Int32} {c_isTaking : Int32} {r : Int32} {o_c_taped : Int32} {o_c_bonds : Nat → Int32} {o_c_spot : Int32} {o_c_textLong : Int32} {o_c_fault : Int32} {o_c_number : Int32} {o_c_numberAt : Int32} {o_c_figures : Int32} (hf : fX9_terms p1 p2 c_tape c_taped c_bonds c_spot c_textLong c_fault c_number c_numberAt c_figures = some (r, o_c_taped, o_c_bonds, o_c_spot, o_c_textLong, o_c_fault, o_c_number, o_c_numberAt, o_c_figures)) : Met l yX9_terms (wq (Cond.code yX9_terms cX9_terms 4 (some .int))) rmX9_terms (gP [.ref (ad 0), .int p1, .int p2] (dC, dI) dA (mW dA ad c_tape c_taped c_tree c_bonds c_moves c_handMoves c_moved c_days c_likely c_outOf c_rateNow c_pence c_top c_bottom c_spot c_textLong c_fault c_number c_numberAt c_figures c_written c_wanted c_found c_drawnNow c_worth c_hold c_way c_acts c_sDay c_sUps c_sUp c_sMarks c_paidAll c_isPlayed c_isOn c_handMoved c_handPaid c_regret c_aside c_other c_states c_kept c_keptLong c_keptAt c_isTaking) sz) (gQi (dC, dI) r (mW dA ad c_tape o_c_taped c_tree o_c_bonds c_moves c_handMoves c_moved c_days c_likely c_outOf c_rateNow c_pence c_top c_bottom o_c_spot o_c_textLong o_c_fault o_c_number o_c_numberAt o_c_figures c_written c_wanted c_found c_drawnNow c_worth c_hold c_way c_acts c_sDay c_sUps c_sUp c_sMarks c_paidAll c_isPlayed c_isOn c_handMoved c_handPaid c_regret c_aside c_other c_states c_kept c_keptLong c_keptAt c_isTaking) (va_A (mW dA ad c_tape c_taped c_tree c_bonds c_moves c_handMoves c_moved c_days c_likely c_outOf c_rateNow c_pence c_top c_bottom c_spot c_textLong c_fault c_number c_numberAt c_figures c_written c_wanted c_found c_drawnNow c_worth c_hold c_way c_acts c_sDay c_sUps c_sUp c_sMarks c_paidAll c_isPlayed c_isOn c_handMoved c_handPaid c_regret c_aside c_other c_states c_kept c_keptLong c_keptAt c_isTaking) sz)) 0 0 (va_A (mW dA ad c_tape c_taped c_tree c_bonds c_moves c_handMoves c_moved c_days c_likely c_outOf c_rateNow c_pence c_top c_bottom c_spot c_textLong c_fault c_number c_numberAt c_figures c_written c_wanted c_found c_drawnNow c_worth c_hold c_way c_acts c_sDay c_sUps c_sUp c_sMarks c_paidAll c_isPlayed c_isOn c_handMoved c_handPaid c_regret c_aside c_other c_states c_kept c_keptLong c_keptAt c_isTaking) sz) := by
  refine Met.ofW (cc := cX9_terms) (maxL := 4) (ret := (some .int)) (by decide) rfl ?_
  intro p e s m args below meth c s₁ B hml hv
  obtain ⟨rfl, hsz, hP, hK, hD0⟩ := hv
  have hx := B.exec
  have hb := B.bytes
  have hr := B.returns
  have hts := atoms_spec (ws := wq (Cond.code yX9_terms cX9_terms 4 (some .int))) B.pre
  have hown : s.vm.findClass RX9 = some m.cls := findClass_of_methodNamed B.named
  have hlocks := B.notSynchronized
  clear B
  subst hsz
  have hD := hD0.self (sz := s.heap.size)
  generalize hAe : va_A (mW dA ad c_tape c_taped c_tree c_bonds c_moves c_handMoves c_moved c_days c_likely c_outOf c_rateNow c_pence c_top c_bottom c_spot c_textLong c_fault c_number c_numberAt c_figures c_written c_wanted c_found c_drawnNow c_worth c_hold c_way c_acts c_sDay c_sUps c_sUp c_sMarks c_paidAll c_isPlayed c_isOn c_handMoved c_handPaid c_regret c_aside c_other c_states c_kept c_keptLong c_keptAt c_isTaking) s.heap.size = A at hD ⊢
  have hA : ∀ q : Nat, s.heap.size ≤ q → A q := fun q h => by rw [← hAe]; exact Or.inr h
  clear hAe hD0
  have hS : va_S A s.heap s.heap [] := va_S.rf
  have hl := lv_entry ([.ref (ad 0), .int p1, .int p2]) (n := 4) (Nat.le_of_ble_eq_true rfl)
  rw [lg_entry_eq]
  generalize (lg_sl ([.ref (ad 0), .int p1, .int p2]) ++ List.replicate (4 - (lg_sl ([.ref (ad 0), .int p1, .int p2])).length) Slot.unset).toArray = ls at hl ⊢
  have hl : lv_has ls 4 [(0, .ref (ad 0)), (1, .int p1), (2, .int p2)] := hl
  change W p l e rmX9_terms s m ([.ref (ad 0), .int p1, .int p2] : List Value).toArray below meth c s.heap [] 0 0 _ _
  generalize hQ : MQ below (gQi (dC, dI) r (mW dA ad c_tape o_c_taped c_tree o_c_bonds c_moves c_handMoves c_moved c_days c_likely c_outOf c_rateNow c_pence c_top c_bottom o_c_spot o_c_textLong o_c_fault o_c_number o_c_numberAt o_c_figures c_written c_wanted c_found c_drawnNow c_worth c_hold c_way c_acts c_sDay c_sUps c_sUp c_sMarks c_paidAll c_isPlayed c_isOn c_handMoved c_handPaid c_regret c_aside c_other c_states c_kept c_keptLong c_keptAt c_isTaking) A) ([.ref (ad 0), .int p1, .int p2] : List Value).toArray s 0 0 A = Q
  have LP57 : ∀ (n : Nat) (x1 : Int32) (c_tape : Nat → Int32) (c_textLong : Int32) (c_taped : Int32) (c_tree : Nat → Int32) (c_moves : Nat → Int32) (c_handMoves : Nat → Int32) (c_moved : Int32) (c_days : Int32) (c_likely : Int32) (c_outOf : Int32) (c_rateNow : Int32) (c_pence : Nat → Int64) (c_top : Int64) (c_bottom : Int64) (c_written : Int32) (c_wanted : Int32) (c_found : Int32) (c_drawnNow : Int32) (c_worth : Nat → Int64) (c_hold : Nat → Int64) (c_way : Nat → Int64) (c_acts : Nat → Int32) (c_sDay : Int32) (c_sUps : Int32) (c_sUp : Int32) (c_sMarks : Int32) (c_paidAll : Int64) (c_isPlayed : Int32) (c_isOn : Int32) (c_handMoved : Int32) (c_handPaid : Int64) (c_regret : Int64) (c_aside : Nat → Int32) (c_other : Nat → Int64) (c_states : Int32) (c_kept : Nat → Int32) (c_keptLong : Nat → Int64) (c_keptAt : Int32) (c_isTaking : Int32) (x3 : Int32) (c_bonds : Nat → Int32) (c_spot : Int32) (c_fault : Int32) (c_number : Int32) (c_numberAt : Int32) (c_figures : Int32) (o3 : Int32) (o_c_bonds : Nat → Int32) (o_c_spot : Int32) (o_c_fault : Int32) (o_c_number : Int32) (o_c_numberAt : Int32) (o_c_figures : Int32) (H : Heap) (locs : List Loc) (ls : Array Slot), va_P (dC, dI) vwCl (mW dA ad c_tape c_taped c_tree c_bonds c_moves c_handMoves c_moved c_days c_likely c_outOf c_rateNow c_pence c_top c_bottom c_spot c_textLong c_fault c_number c_numberAt c_figures c_written c_wanted c_found c_drawnNow c_worth c_hold c_way c_acts c_sDay c_sUps c_sUp c_sMarks c_paidAll c_isPlayed c_isOn c_handMoved c_handPaid c_regret c_aside c_other c_states c_kept c_keptLong c_keptAt c_isTaking) H → va_D A (mW dA ad c_tape c_taped c_tree c_bonds c_moves c_handMoves c_moved c_days c_likely c_outOf c_rateNow c_pence c_top c_bottom c_spot c_textLong c_fault c_number c_numberAt c_figures c_written c_wanted c_found c_drawnNow c_worth c_hold c_way c_acts c_sDay c_sUps c_sUp c_sMarks c_paidAll c_isPlayed c_isOn c_handMoved c_handPaid c_regret c_aside c_other c_states c_kept c_keptLong c_keptAt c_isTaking) → va_S A s.heap H locs → lpX9_terms_57 x1 c_tape c_textLong n x3 c_bonds c_spot c_fault c_number c_numberAt c_figures = some (o3, o_c_bonds, o_c_spot, o_c_fault, o_c_number, o_c_numberAt, o_c_figures) → lv_has ls 4 [(0, .ref (ad 0)), (1, .int x1), (3, .int x3)] → (∀ (H : Heap) (locs : List Loc) (ls : Array Slot), va_P (dC, dI) vwCl (mW dA ad c_tape c_taped c_tree o_c_bonds c_moves c_handMoves c_moved c_days c_likely c_outOf c_rateNow c_pence c_top c_bottom o_c_spot c_textLong o_c_fault o_c_number o_c_numberAt o_c_figures c_written c_wanted c_found c_drawnNow c_worth c_hold c_way c_acts c_sDay c_sUps c_sUp c_sMarks c_paidAll c_isPlayed c_isOn c_handMoved c_handPaid c_regret c_aside c_other c_states c_kept c_keptLong c_keptAt c_isTaking) H → va_D A (mW dA ad c_tape c_taped c_tree o_c_bonds c_moves c_handMoves c_moved c_days c_likely c_outOf c_rateNow c_pence c_top c_bottom o_c_spot c_textLong o_c_fault o_c_number o_c_numberAt o_c_figures c_written c_wanted c_found c_drawnNow c_worth c_hold c_way c_acts c_sDay c_sUps c_sUp c_sMarks c_paidAll c_isPlayed c_isOn c_handMoved c_handPaid c_regret c_aside c_other c_states c_kept c_keptLong c_keptAt c_isTaking) → va_S A s.heap H locs → lv_has ls 4 [(0, .ref (ad 0)), (1, .int x1), (3, .int o3)] → W p l e rmX9_terms s m ([.ref (ad 0), .int p1, .int p2] : List Value).toArray below meth c H locs 0 0 Q (F0 m 91 ls [])) → W p l e rmX9_terms s m ([.ref (ad 0), .int p1, .int p2] : List Value).toArray below meth c H locs 0 0 Q (F0 m 57 ls []) := by
    intro n
    induction n with
    | zero =>
      intro x1 c_tape c_textLong c_taped c_tree c_moves c_handMoves c_moved c_days c_likely c_outOf c_rateNow c_pence c_top c_bottom c_written c_wanted c_found c_drawnNow c_worth c_hold c_way c_acts c_sDay c_sUps c_sUp c_sMarks c_paidAll c_isPlayed c_isOn c_handMoved c_handPaid c_regret c_aside c_other c_states c_kept c_keptLong c_keptAt c_isTaking x3 c_bonds c_spot c_fault c_number c_numberAt c_figures o3 o_c_bonds o_c_spot o_c_fault o_c_number o_c_numberAt o_c_figures H locs ls hP hD hS hf hl hk
      cases hf
    | succ n ih57 =>
      intro x1 c_tape c_textLong c_taped c_tree c_moves c_handMoves c_moved c_days c_likely c_outOf c_rateNow c_pence c_top c_bottom c_written c_wanted c_found c_drawnNow c_worth c_hold c_way c_acts c_sDay c_sUps c_sUp c_sMarks c_paidAll c_isPlayed c_isOn c_handMoved c_handPaid c_regret c_aside c_other c_states c_kept c_keptLong c_keptAt c_isTaking x3 c_bonds c_spot c_fault c_number c_numberAt c_figures o3 o_c_bonds o_c_spot o_c_fault o_c_number o_c_numberAt o_c_figures H locs ls hP hD hS hf hl hk
      rw [lpX9_terms_57.eq_2] at hf
      refine lv_aload_n hx hb dX9_terms_57 rfl (lv_at hl 0 rfl) ?_
      refine va_get (D := (dC, dI)) (ci := 9) (v := .int c_fault) (C := RX9) (T := TX9) (N := 45) hx hb hts (fun w h => gw_mem (inX9 w h)) hown hK.1 hP 0 rfl rfl 16 (by decide) (hts _ (gw_mem wfX9_170)) (fun _ h9 => h9) rfl dX9_terms_58 ?_
      refine lv_if_ne (tgt := 91) hx hb dX9_terms_61 (by decide) (fun k21 => ?_) (fun k21 => ?_)
      · replace hf := ifn k21 hf
        cases hf
        exact hk _ _ _ hP hD hS (lv_sub hl [0, 1, 2] rfl)
      · replace hf := ifp k21 hf
        refine lv_iload_n hx hb dX9_terms_64 rfl (lv_at hl 2 rfl) ?_
        refine lv_if_eq (tgt := 76) hx hb dX9_terms_65 (by decide) (fun k22 => ?_) (fun k22 => ?_)
        · replace hf := ifp k22 hf
          refine lv_aload_n hx hb dX9_terms_76 rfl (lv_at hl 0 rfl) ?_
          refine lv_aload_n hx hb dX9_terms_77 rfl (lv_at hl 0 rfl) ?_
          obtain ⟨r23, c_spot_24, v25, hf⟩ := bd2_some hf
          refine gci (va_runV (As := []) (rest := [.ref (ad 0)]) ⟨hx, hb, hml, hown, hts⟩ (tX9_see l dC dI dA ad H.size v25) (ccX9_X9_see hts ⟨Nat.le_of_ble_eq_true rfl, Nat.le_of_ble_eq_true rfl⟩) (gPreV (ci := 9) (q0 := 0) hP hK hD rfl rfl) rfl rfl hl.1 rfl (lv_room (Nat.le_of_ble_eq_true rfl)) dX9_terms_78 ⟨Nat.le_of_ble_eq_true rfl, Nat.le_of_ble_eq_true rfl⟩) hD hS hA (fun H locs hP hD hS => ?_)
          obtain ⟨c_bonds_26, c_spot_27, c_fault_28, c_number_29, c_numberAt_30, c_figures_31, v32, hf⟩ := bd6_some hf
          refine gcv (va_runV (As := [.int r23]) (rest := []) ⟨hx, hb, hml, hown, hts⟩ (tX9_readsClause l dC dI dA ad H.size v32) (ccX9_X9_readsClause hts ⟨Nat.le_of_ble_eq_true rfl, Nat.le_of_ble_eq_true rfl⟩) (gPreV (ci := 9) (q0 := 0) hP hK hD rfl rfl) rfl rfl hl.1 rfl (lv_room (Nat.le_of_ble_eq_true rfl)) dX9_terms_81 ⟨Nat.le_of_ble_eq_true rfl, Nat.le_of_ble_eq_true rfl⟩) hD hS hA (fun H locs hP hD hS => ?_)
          refine lv_iload_n hx hb dX9_terms_84 rfl (lv_at hl 2 rfl) ?_
          refine lv_iconst (v := 1) hx hb dX9_terms_85 (by decide) ?_
          refine lv_iadd hx hb dX9_terms_86 ?_
          refine lv_topi (fun w33 ew33 => ?_)
          replace hf := nm_at hf ew33
          refine lv_istore_n (lv' := [(3, .int w33), (0, .ref (ad 0)), (1, .int x1)]) hx hb dX9_terms_87 rfl hl (by decide) rfl (fun ls hl => ?_)
          refine lv_goto (tgt := 57) hx hb dX9_terms_88 (by decide) ?_
          exact ih57 _ _ _ _ _ _ _ _ _ _ _ _ _ _ _ _ _ _ _ _ _ _ _ _ _ _ _ _ _ _ _ _ _ _ _ _ _ _ _ _ _ _ _ _ _ _ _ _ _ _ _ _ _ _ _ _ _ hP hD hS hf (lv_sub hl [1, 2, 0] rfl) hk
        · replace hf := ifn k22 hf
          refine lv_aload_n hx hb dX9_terms_68 rfl (lv_at hl 0 rfl) ?_
          obtain ⟨r34, c_spot_35, v36, hf⟩ := bd2_some hf
          refine gci (va_runV (As := []) (rest := []) ⟨hx, hb, hml, hown, hts⟩ (tX9_see l dC dI dA ad H.size v36) (ccX9_X9_see hts ⟨Nat.le_of_ble_eq_true rfl, Nat.le_of_ble_eq_true rfl⟩) (gPreV (ci := 9) (q0 := 0) hP hK hD rfl rfl) rfl rfl hl.1 rfl (lv_room (Nat.le_of_ble_eq_true rfl)) dX9_terms_69 ⟨Nat.le_of_ble_eq_true rfl, Nat.le_of_ble_eq_true rfl⟩) hD hS hA (fun H locs hP hD hS => ?_)
          refine lv_iconst (v := (-1)) hx hb dX9_terms_72 (by decide) ?_
          refine lv_icmp_eq (tgt := 91) hx hb dX9_terms_73 (by decide) (fun k37 => ?_) (fun k37 => ?_)
          · replace hf := ifp k37 hf
            cases hf
            exact hk _ _ _ hP hD hS (lv_sub hl [0, 1, 2] rfl)
          · replace hf := ifn k37 hf
            refine lv_aload_n hx hb dX9_terms_76 rfl (lv_at hl 0 rfl) ?_
            refine lv_aload_n hx hb dX9_terms_77 rfl (lv_at hl 0 rfl) ?_
            obtain ⟨r38, c_spot_39, v40, hf⟩ := bd2_some hf
            refine gci (va_runV (As := []) (rest := [.ref (ad 0)]) ⟨hx, hb, hml, hown, hts⟩ (tX9_see l dC dI dA ad H.size v40) (ccX9_X9_see hts ⟨Nat.le_of_ble_eq_true rfl, Nat.le_of_ble_eq_true rfl⟩) (gPreV (ci := 9) (q0 := 0) hP hK hD rfl rfl) rfl rfl hl.1 rfl (lv_room (Nat.le_of_ble_eq_true rfl)) dX9_terms_78 ⟨Nat.le_of_ble_eq_true rfl, Nat.le_of_ble_eq_true rfl⟩) hD hS hA (fun H locs hP hD hS => ?_)
            obtain ⟨c_bonds_41, c_spot_42, c_fault_43, c_number_44, c_numberAt_45, c_figures_46, v47, hf⟩ := bd6_some hf
            refine gcv (va_runV (As := [.int r38]) (rest := []) ⟨hx, hb, hml, hown, hts⟩ (tX9_readsClause l dC dI dA ad H.size v47) (ccX9_X9_readsClause hts ⟨Nat.le_of_ble_eq_true rfl, Nat.le_of_ble_eq_true rfl⟩) (gPreV (ci := 9) (q0 := 0) hP hK hD rfl rfl) rfl rfl hl.1 rfl (lv_room (Nat.le_of_ble_eq_true rfl)) dX9_terms_81 ⟨Nat.le_of_ble_eq_true rfl, Nat.le_of_ble_eq_true rfl⟩) hD hS hA (fun H locs hP hD hS => ?_)
            refine lv_iload_n hx hb dX9_terms_84 rfl (lv_at hl 2 rfl) ?_
            refine lv_iconst (v := 1) hx hb dX9_terms_85 (by decide) ?_
            refine lv_iadd hx hb dX9_terms_86 ?_
            refine lv_topi (fun w48 ew48 => ?_)
            replace hf := nm_at hf ew48
            refine lv_istore_n (lv' := [(3, .int w48), (0, .ref (ad 0)), (1, .int x1)]) hx hb dX9_terms_87 rfl hl (by decide) rfl (fun ls hl => ?_)
            refine lv_goto (tgt := 57) hx hb dX9_terms_88 (by decide) ?_
            exact ih57 _ _ _ _ _ _ _ _ _ _ _ _ _ _ _ _ _ _ _ _ _ _ _ _ _ _ _ _ _ _ _ _ _ _ _ _ _ _ _ _ _ _ _ _ _ _ _ _ _ _ _ _ _ _ _ _ _ hP hD hS hf (lv_sub hl [1, 2, 0] rfl) hk
  subst hQ
  unfold fX9_terms at hf
  refine lv_iload_n hx hb dX9_terms_0 rfl (lv_at hl 1 rfl) ?_
  obtain ⟨r1, v2, hf⟩ := bd1_some hf
  refine gci0 (va_runS (As := [.int p1]) (rest := []) ⟨hx, hb, hml, hown, hts⟩ (tX9_isBond l dC dI dA s.heap.size v2) (ccX9_X9_isBond hts ⟨Nat.le_of_ble_eq_true rfl, Nat.le_of_ble_eq_true rfl⟩) (gPreS0 hK) rfl rfl hl.1 rfl (lv_room (Nat.le_of_ble_eq_true rfl)) dX9_terms_1 ⟨Nat.le_of_ble_eq_true rfl, Nat.le_of_ble_eq_true rfl⟩) hP hS hA (fun H locs hP hS => ?_)
  refine lv_if_eq (tgt := 27) hx hb dX9_terms_4 (by decide) (fun k3 => ?_) (fun k3 => ?_)
  · replace hf := ifp k3 hf
    refine lv_iconst (v := (-1)) hx hb dX9_terms_27 (by decide) ?_
    cases hf
    exact W.iret hx hb hr (fun t ht _ => gqi hP hD hS ht) hS.2.2 dX9_terms_28
  · replace hf := ifn k3 hf
    refine lv_iload_n hx hb dX9_terms_7 rfl (lv_at hl 2 rfl) ?_
    refine lv_i2l hx hb dX9_terms_8 rfl ?_
    refine lv_lconst (v := 1) hx hb dX9_terms_9 rfl ?_
    refine lv_ldc2 (v := 100) hx hb hown (hts _ (gw_mem wkX9_110)) dX9_terms_10 ?_
    obtain ⟨r4, v5, hf⟩ := bd1_some hf
    refine gci0 (va_runS (As := [.long (Int32.toInt64 p2), .long 1, .long 100]) (rest := []) ⟨hx, hb, hml, hown, hts⟩ (tX9_in l dC dI dA H.size v5) (ccX9_X9_in hts ⟨Nat.le_of_ble_eq_true rfl, Nat.le_of_ble_eq_true rfl⟩) (gPreS0 hK) rfl rfl hl.1 rfl (lv_room (Nat.le_of_ble_eq_true rfl)) dX9_terms_13 ⟨Nat.le_of_ble_eq_true rfl, Nat.le_of_ble_eq_true rfl⟩) hP hS hA (fun H locs hP hS => ?_)
    refine lv_if_eq (tgt := 27) hx hb dX9_terms_16 (by decide) (fun k6 => ?_) (fun k6 => ?_)
    · replace hf := ifp k6 hf
      refine lv_iconst (v := (-1)) hx hb dX9_terms_27 (by decide) ?_
      cases hf
      exact W.iret hx hb hr (fun t ht _ => gqi hP hD hS ht) hS.2.2 dX9_terms_28
    · replace hf := ifn k6 hf
      refine lv_iload_n hx hb dX9_terms_19 rfl (lv_at hl 2 rfl) ?_
      refine lv_aload_n hx hb dX9_terms_20 rfl (lv_at hl 0 rfl) ?_
      refine va_get (D := (dC, dI)) (ci := 9) (v := .int c_taped) (C := RX9) (T := TX9) (N := 45) hx hb hts (fun w h => gw_mem (inX9 w h)) hown hK.1 hP 0 rfl rfl 1 (by decide) (hts _ (gw_mem wfX9_64)) (fun _ h9 => h9) rfl dX9_terms_21 ?_
      refine lv_icmp_le (tgt := 29) hx hb dX9_terms_24 (by decide) (fun k7 => ?_) (fun k7 => ?_)
      · replace hf := ifp k7 hf
        refine lv_aload_n hx hb dX9_terms_29 rfl (lv_at hl 0 rfl) ?_
        refine lv_iconst (v := 0) hx hb dX9_terms_30 (by decide) ?_
        refine va_put (D := (dC, dI)) (ci := 9) (v := .int 0) (ty := .int) (C := RX9) (T := TX9) (N := 45) hx hb hts (fun w h => gw_mem (inX9 w h)) tyX9 tyX9_ok nmX9 hown hK.1 hP hD hS 0 rfl rfl 1 (by decide) (hts _ (gw_mem wfX9_64)) (fun _ h9 => h9) rfl (by decide +kernel) rfl rfl (Nat.le_of_ble_eq_true rfl) dX9_terms_31 (fun H locs hP hD hS => ?_)
        have hP : va_P (dC, dI) vwCl (mW dA ad c_tape 0 c_tree c_bonds c_moves c_handMoves c_moved c_days c_likely c_outOf c_rateNow c_pence c_top c_bottom c_spot c_textLong c_fault c_number c_numberAt c_figures c_written c_wanted c_found c_drawnNow c_worth c_hold c_way c_acts c_sDay c_sUps c_sUp c_sMarks c_paidAll c_isPlayed c_isOn c_handMoved c_handPaid c_regret c_aside c_other c_states c_kept c_keptLong c_keptAt c_isTaking) H := hP
        have hD : va_D A (mW dA ad c_tape 0 c_tree c_bonds c_moves c_handMoves c_moved c_days c_likely c_outOf c_rateNow c_pence c_top c_bottom c_spot c_textLong c_fault c_number c_numberAt c_figures c_written c_wanted c_found c_drawnNow c_worth c_hold c_way c_acts c_sDay c_sUps c_sUp c_sMarks c_paidAll c_isPlayed c_isOn c_handMoved c_handPaid c_regret c_aside c_other c_states c_kept c_keptLong c_keptAt c_isTaking) := hD
        refine lv_aload_n hx hb dX9_terms_34 rfl (lv_at hl 0 rfl) ?_
        refine lv_iload_n hx hb dX9_terms_35 rfl (lv_at hl 2 rfl) ?_
        refine va_put (D := (dC, dI)) (ci := 9) (v := .int p2) (ty := .int) (C := RX9) (T := TX9) (N := 45) hx hb hts (fun w h => gw_mem (inX9 w h)) tyX9 tyX9_ok nmX9 hown hK.1 hP hD hS 0 rfl rfl 15 (by decide) (hts _ (gw_mem wfX9_167)) (fun _ h9 => h9) rfl (by decide +kernel) rfl rfl (Nat.le_of_ble_eq_true rfl) dX9_terms_36 (fun H locs hP hD hS => ?_)
        have hP : va_P (dC, dI) vwCl (mW dA ad c_tape 0 c_tree c_bonds c_moves c_handMoves c_moved c_days c_likely c_outOf c_rateNow c_pence c_top c_bottom c_spot p2 c_fault c_number c_numberAt c_figures c_written c_wanted c_found c_drawnNow c_worth c_hold c_way c_acts c_sDay c_sUps c_sUp c_sMarks c_paidAll c_isPlayed c_isOn c_handMoved c_handPaid c_regret c_aside c_other c_states c_kept c_keptLong c_keptAt c_isTaking) H := hP
        have hD : va_D A (mW dA ad c_tape 0 c_tree c_bonds c_moves c_handMoves c_moved c_days c_likely c_outOf c_rateNow c_pence c_top c_bottom c_spot p2 c_fault c_number c_numberAt c_figures c_written c_wanted c_found c_drawnNow c_worth c_hold c_way c_acts c_sDay c_sUps c_sUp c_sMarks c_paidAll c_isPlayed c_isOn c_handMoved c_handPaid c_regret c_aside c_other c_states c_kept c_keptLong c_keptAt c_isTaking) := hD
        refine lv_aload_n hx hb dX9_terms_39 rfl (lv_at hl 0 rfl) ?_
        refine lv_iconst (v := 0) hx hb dX9_terms_40 (by decide) ?_
        refine va_put (D := (dC, dI)) (ci := 9) (v := .int 0) (ty := .int) (C := RX9) (T := TX9) (N := 45) hx hb hts (fun w h => gw_mem (inX9 w h)) tyX9 tyX9_ok nmX9 hown hK.1 hP hD hS 0 rfl rfl 14 (by decide) (hts _ (gw_mem wfX9_164)) (fun _ h9 => h9) rfl (by decide +kernel) rfl rfl (Nat.le_of_ble_eq_true rfl) dX9_terms_41 (fun H locs hP hD hS => ?_)
        have hP : va_P (dC, dI) vwCl (mW dA ad c_tape 0 c_tree c_bonds c_moves c_handMoves c_moved c_days c_likely c_outOf c_rateNow c_pence c_top c_bottom 0 p2 c_fault c_number c_numberAt c_figures c_written c_wanted c_found c_drawnNow c_worth c_hold c_way c_acts c_sDay c_sUps c_sUp c_sMarks c_paidAll c_isPlayed c_isOn c_handMoved c_handPaid c_regret c_aside c_other c_states c_kept c_keptLong c_keptAt c_isTaking) H := hP
        have hD : va_D A (mW dA ad c_tape 0 c_tree c_bonds c_moves c_handMoves c_moved c_days c_likely c_outOf c_rateNow c_pence c_top c_bottom 0 p2 c_fault c_number c_numberAt c_figures c_written c_wanted c_found c_drawnNow c_worth c_hold c_way c_acts c_sDay c_sUps c_sUp c_sMarks c_paidAll c_isPlayed c_isOn c_handMoved c_handPaid c_regret c_aside c_other c_states c_kept c_keptLong c_keptAt c_isTaking) := hD
        refine lv_aload_n hx hb dX9_terms_44 rfl (lv_at hl 0 rfl) ?_
        refine lv_iconst (v := 0) hx hb dX9_terms_45 (by decide) ?_
        refine va_put (D := (dC, dI)) (ci := 9) (v := .int 0) (ty := .int) (C := RX9) (T := TX9) (N := 45) hx hb hts (fun w h => gw_mem (inX9 w h)) tyX9 tyX9_ok nmX9 hown hK.1 hP hD hS 0 rfl rfl 16 (by decide) (hts _ (gw_mem wfX9_170)) (fun _ h9 => h9) rfl (by decide +kernel) rfl rfl (Nat.le_of_ble_eq_true rfl) dX9_terms_46 (fun H locs hP hD hS => ?_)
        have hP : va_P (dC, dI) vwCl (mW dA ad c_tape 0 c_tree c_bonds c_moves c_handMoves c_moved c_days c_likely c_outOf c_rateNow c_pence c_top c_bottom 0 p2 0 c_number c_numberAt c_figures c_written c_wanted c_found c_drawnNow c_worth c_hold c_way c_acts c_sDay c_sUps c_sUp c_sMarks c_paidAll c_isPlayed c_isOn c_handMoved c_handPaid c_regret c_aside c_other c_states c_kept c_keptLong c_keptAt c_isTaking) H := hP
        have hD : va_D A (mW dA ad c_tape 0 c_tree c_bonds c_moves c_handMoves c_moved c_days c_likely c_outOf c_rateNow c_pence c_top c_bottom 0 p2 0 c_number c_numberAt c_figures c_written c_wanted c_found c_drawnNow c_worth c_hold c_way c_acts c_sDay c_sUps c_sUp c_sMarks c_paidAll c_isPlayed c_isOn c_handMoved c_handPaid c_regret c_aside c_other c_states c_kept c_keptLong c_keptAt c_isTaking) := hD
        refine lv_aload_n hx hb dX9_terms_49 rfl (lv_at hl 0 rfl) ?_
        refine lv_iload_n hx hb dX9_terms_50 rfl (lv_at hl 1 rfl) ?_
        refine lv_iconst (v := 3) hx hb dX9_terms_51 (by decide) ?_
        obtain ⟨c_bonds_8, v9, hf⟩ := bd1_some hf
        refine gcv (va_runV (As := [.int p1, .int 3]) (rest := []) ⟨hx, hb, hml, hown, hts⟩ (tX9_copies l dC dI dA ad H.size v9) (ccX9_X9_copies hts ⟨Nat.le_of_ble_eq_true rfl, Nat.le_of_ble_eq_true rfl⟩) (gPreV (ci := 9) (q0 := 0) hP hK hD rfl rfl) rfl rfl hl.1 rfl (lv_room (Nat.le_of_ble_eq_true rfl)) dX9_terms_52 ⟨Nat.le_of_ble_eq_true rfl, Nat.le_of_ble_eq_true rfl⟩) hD hS hA (fun H locs hP hD hS => ?_)
        refine lv_iconst (v := 0) hx hb dX9_terms_55 (by decide) ?_
        refine lv_istore_n (lv' := [(3, .int 0), (0, .ref (ad 0)), (1, .int p1), (2, .int p2)]) hx hb dX9_terms_56 rfl hl (by decide) rfl (fun ls hl => ?_)
        obtain ⟨x10, c_bonds_11, c_spot_12, c_fault_13, c_number_14, c_numberAt_15, c_figures_16, v17, hf⟩ := bd7_some hf
        refine LP57 FU _ _ _ _ _ _ _ _ _ _ _ _ _ _ _ _ _ _ _ _ _ _ _ _ _ _ _ _ _ _ _ _ _ _ _ _ _ _ _ _ _ _ _ _ _ _ _ _ _ _ _ _ _ _ _ _ _ hP hD hS v17 (lv_sub hl [1, 2, 0] rfl) (fun H locs ls hP hD hS hl => ?_)
        refine lv_aload_n hx hb dX9_terms_91 rfl (lv_at hl 0 rfl) ?_
        refine va_get (D := (dC, dI)) (ci := 9) (v := .int c_fault_13) (C := RX9) (T := TX9) (N := 45) hx hb hts (fun w h => gw_mem (inX9 w h)) hown hK.1 hP 0 rfl rfl 16 (by decide) (hts _ (gw_mem wfX9_170)) (fun _ h9 => h9) rfl dX9_terms_92 ?_
        refine lv_if_eq (tgt := 103) hx hb dX9_terms_95 (by decide) (fun k18 => ?_) (fun k18 => ?_)
        · replace hf := ifp k18 hf
          refine lv_aload_n hx hb dX9_terms_103 rfl (lv_at hl 0 rfl) ?_
          refine lv_iconst (v := 3) hx hb dX9_terms_104 (by decide) ?_
          refine lv_iload_n hx hb dX9_terms_105 rfl (lv_at hl 1 rfl) ?_
          obtain ⟨c_bonds_19, v20, hf⟩ := bd1_some hf
          refine gcv (va_runV (As := [.int 3, .int p1]) (rest := []) ⟨hx, hb, hml, hown, hts⟩ (tX9_copies l dC dI dA ad H.size v20) (ccX9_X9_copies hts ⟨Nat.le_of_ble_eq_true rfl, Nat.le_of_ble_eq_true rfl⟩) (gPreV (ci := 9) (q0 := 0) hP hK hD rfl rfl) rfl rfl hl.1 rfl (lv_room (Nat.le_of_ble_eq_true rfl)) dX9_terms_106 ⟨Nat.le_of_ble_eq_true rfl, Nat.le_of_ble_eq_true rfl⟩) hD hS hA (fun H locs hP hD hS => ?_)
          refine lv_iload_n hx hb dX9_terms_109 rfl (lv_at hl 2 rfl) ?_
          cases hf
          exact W.iret hx hb hr (fun t ht _ => gqi hP hD hS ht) hS.2.2 dX9_terms_110
        · replace hf := ifn k18 hf
          refine lv_aload_n hx hb dX9_terms_98 rfl (lv_at hl 0 rfl) ?_
          refine va_get (D := (dC, dI)) (ci := 9) (v := .int c_fault_13) (C := RX9) (T := TX9) (N := 45) hx hb hts (fun w h => gw_mem (inX9 w h)) hown hK.1 hP 0 rfl rfl 16 (by decide) (hts _ (gw_mem wfX9_170)) (fun _ h9 => h9) rfl dX9_terms_99 ?_
          cases hf
          exact W.iret hx hb hr (fun t ht _ => gqi hP hD hS ht) hS.2.2 dX9_terms_102
      · replace hf := ifn k7 hf
        refine lv_iconst (v := (-1)) hx hb dX9_terms_27 (by decide) ?_
        cases hf
        exact W.iret hx hb hr (fun t ht _ => gqi hP hD hS ht) hS.2.2 dX9_terms_28
abbrev rmX9_writes : Room := { frames := 0, cells := 0, slots := 0, locals := 0 }
set_option maxHeartbeats 4000000 in
set_option maxRecDepth 100000 in
theorem tX9_writes (l : Launch) (dC : Nat → ClassId) (dI : Nat → Nat → Nat) (dA : Nat → ClassId) (ad : Nat → Nat) (sz : Nat) {p1 : Int32} {c_tape : Nat → Int32} {c_taped : Int32} {c_tree : Nat → Int32} {c_bonds : Nat → Int32} {c_moves : Nat → Int32} {c_handMoves : Nat → Int32} {c_moved : Int32} {c_days : Int32} {c_likely : Int32} {c_outOf : Int32} {c_rateNow : Int32} {c_pence : Nat → Int64} {c_top : Int64} {c_bottom : Int64} {c_spot : Int32} {c_textLong : Int32} {c_fault : Int32} {c_number : Int32} {c_numberAt : Int32} {c_figures : Int32} {c_written : Int32} {c_wanted : Int32} {c_found : Int32} {c_drawnNow : Int32} {c_worth : Nat → Int64} {c_hold : Nat → Int64} {c_way : Nat → Int64} {c_acts : Nat → Int32} {c_sDay : Int32} {c_sUps : Int32} {c_sUp : Int32} {c_sMarks : Int32} {c_paidAll : Int64} {c_isPlayed : Int32} {c_isOn : Int32} {c_handMoved : Int32} {c_handPaid : Int64} {c_regret : Int64} {c_aside : Nat → Int32} {c_other : Nat → Int64} {c_states : Int32} {c_kept : Nat → Int32} {c_keptLong : Nat → Int64} {c_keptAt : Int32} {c_isTaking : Int32} {o_c_written : Int32} {o_c_found : Int32} (hf : fX9_writes p1 c_written c_wanted c_found = some (o_c_written, o_c_found)) : Met l yX9_writes (wq (Cond.code yX9_writes cX9_writes 2 none)) rmX9_writes (gP [.ref (ad 0), .int p1] (dC, dI) dA (mW dA ad c_tape c_taped c_tree c_bonds c_moves c_handMoves c_moved c_days c_likely c_outOf c_rateNow c_pence c_top c_bottom c_spot c_textLong c_fault c_number c_numberAt c_figures c_written c_wanted c_found c_drawnNow c_worth c_hold c_way c_acts c_sDay c_sUps c_sUp c_sMarks c_paidAll c_isPlayed c_isOn c_handMoved c_handPaid c_regret c_aside c_other c_states c_kept c_keptLong c_keptAt c_isTaking) sz) (gQv (dC, dI) (mW dA ad c_tape c_taped c_tree c_bonds c_moves c_handMoves c_moved c_days c_likely c_outOf c_rateNow c_pence c_top c_bottom c_spot c_textLong c_fault c_number c_numberAt c_figures o_c_written c_wanted o_c_found c_drawnNow c_worth c_hold c_way c_acts c_sDay c_sUps c_sUp c_sMarks c_paidAll c_isPlayed c_isOn c_handMoved c_handPaid c_regret c_aside c_other c_states c_kept c_keptLong c_keptAt c_isTaking) (va_A (mW dA ad c_tape c_taped c_tree c_bonds c_moves c_handMoves c_moved c_days c_likely c_outOf c_rateNow c_pence c_top c_bottom c_spot c_textLong c_fault c_number c_numberAt c_figures c_written c_wanted c_found c_drawnNow c_worth c_hold c_way c_acts c_sDay c_sUps c_sUp c_sMarks c_paidAll c_isPlayed c_isOn c_handMoved c_handPaid c_regret c_aside c_other c_states c_kept c_keptLong c_keptAt c_isTaking) sz)) 0 0 (va_A (mW dA ad c_tape c_taped c_tree c_bonds c_moves c_handMoves c_moved c_days c_likely c_outOf c_rateNow c_pence c_top c_bottom c_spot c_textLong c_fault c_number c_numberAt c_figures c_written c_wanted c_found c_drawnNow c_worth c_hold c_way c_acts c_sDay c_sUps c_sUp c_sMarks c_paidAll c_isPlayed c_isOn c_handMoved c_handPaid c_regret c_aside c_other c_states c_kept c_keptLong c_keptAt c_isTaking) sz) := by
  refine Met.ofW (cc := cX9_writes) (maxL := 2) (ret := none) (by decide) rfl ?_
  intro p e s m args below meth c s₁ B hml hv
  obtain ⟨rfl, hsz, hP, hK, hD0⟩ := hv
  have hx := B.exec
  have hb := B.bytes
  have hr := B.returns
  have hts := atoms_spec (ws := wq (Cond.code yX9_writes cX9_writes 2 none)) B.pre
  have hown : s.vm.findClass RX9 = some m.cls := findClass_of_methodNamed B.named
  have hlocks := B.notSynchronized
  clear B
  subst hsz
  have hD := hD0.self (sz := s.heap.size)
  generalize hAe : va_A (mW dA ad c_tape c_taped c_tree c_bonds c_moves c_handMoves c_moved c_days c_likely c_outOf c_rateNow c_pence c_top c_bottom c_spot c_textLong c_fault c_number c_numberAt c_figures c_written c_wanted c_found c_drawnNow c_worth c_hold c_way c_acts c_sDay c_sUps c_sUp c_sMarks c_paidAll c_isPlayed c_isOn c_handMoved c_handPaid c_regret c_aside c_other c_states c_kept c_keptLong c_keptAt c_isTaking) s.heap.size = A at hD ⊢
  have hA : ∀ q : Nat, s.heap.size ≤ q → A q := fun q h => by rw [← hAe]; exact Or.inr h
  clear hAe hD0
  have hS : va_S A s.heap s.heap [] := va_S.rf
  have hl := lv_entry ([.ref (ad 0), .int p1]) (n := 2) (Nat.le_of_ble_eq_true rfl)
  rw [lg_entry_eq]
  generalize (lg_sl ([.ref (ad 0), .int p1]) ++ List.replicate (2 - (lg_sl ([.ref (ad 0), .int p1])).length) Slot.unset).toArray = ls at hl ⊢
  have hl : lv_has ls 2 [(0, .ref (ad 0)), (1, .int p1)] := hl
  change W p l e rmX9_writes s m ([.ref (ad 0), .int p1] : List Value).toArray below meth c s.heap [] 0 0 _ _
  unfold fX9_writes at hf
  refine lv_aload_n hx hb dX9_writes_0 rfl (lv_at hl 0 rfl) ?_
  refine va_get (D := (dC, dI)) (ci := 9) (v := .int c_written) (C := RX9) (T := TX9) (N := 45) hx hb hts (fun w h => gw_mem (inX9 w h)) hown hK.1 hP 0 rfl rfl 20 (by decide) (hts _ (gw_mem wfX9_222)) (fun _ h9 => h9) rfl dX9_writes_1 ?_
  refine lv_aload_n hx hb dX9_writes_4 rfl (lv_at hl 0 rfl) ?_
  refine va_get (D := (dC, dI)) (ci := 9) (v := .int c_wanted) (C := RX9) (T := TX9) (N := 45) hx hb hts (fun w h => gw_mem (inX9 w h)) hown hK.1 hP 0 rfl rfl 21 (by decide) (hts _ (gw_mem wfX9_225)) (fun _ h9 => h9) rfl dX9_writes_5 ?_
  obtain ⟨c_found_2, v4, hf⟩ := bd1_some hf
  have J3 : ∀ (H : Heap) (locs : List Loc) (ls : Array Slot), va_P (dC, dI) vwCl (mW dA ad c_tape c_taped c_tree c_bonds c_moves c_handMoves c_moved c_days c_likely c_outOf c_rateNow c_pence c_top c_bottom c_spot c_textLong c_fault c_number c_numberAt c_figures c_written c_wanted c_found_2 c_drawnNow c_worth c_hold c_way c_acts c_sDay c_sUps c_sUp c_sMarks c_paidAll c_isPlayed c_isOn c_handMoved c_handPaid c_regret c_aside c_other c_states c_kept c_keptLong c_keptAt c_isTaking) H → va_D A (mW dA ad c_tape c_taped c_tree c_bonds c_moves c_handMoves c_moved c_days c_likely c_outOf c_rateNow c_pence c_top c_bottom c_spot c_textLong c_fault c_number c_numberAt c_figures c_written c_wanted c_found_2 c_drawnNow c_worth c_hold c_way c_acts c_sDay c_sUps c_sUp c_sMarks c_paidAll c_isPlayed c_isOn c_handMoved c_handPaid c_regret c_aside c_other c_states c_kept c_keptLong c_keptAt c_isTaking) → va_S A s.heap H locs → lv_has ls 2 [(0, .ref (ad 0))] → W p l e rmX9_writes s m ([.ref (ad 0), .int p1] : List Value).toArray below meth c H locs 0 0 (MQ below (gQv (dC, dI) (mW dA ad c_tape c_taped c_tree c_bonds c_moves c_handMoves c_moved c_days c_likely c_outOf c_rateNow c_pence c_top c_bottom c_spot c_textLong c_fault c_number c_numberAt c_figures o_c_written c_wanted o_c_found c_drawnNow c_worth c_hold c_way c_acts c_sDay c_sUps c_sUp c_sMarks c_paidAll c_isPlayed c_isOn c_handMoved c_handPaid c_regret c_aside c_other c_states c_kept c_keptLong c_keptAt c_isTaking) A) ([.ref (ad 0), .int p1] : List Value).toArray s 0 0 A) (F0 m 16 ls []) := by
    intro H locs ls hP hD hS hl
    refine lv_aload_n hx hb dX9_writes_16 rfl (lv_at hl 0 rfl) ?_
    refine lv_aload_n hx hb dX9_writes_17 rfl (lv_at hl 0 rfl) ?_
    refine va_get (D := (dC, dI)) (ci := 9) (v := .int c_written) (C := RX9) (T := TX9) (N := 45) hx hb hts (fun w h => gw_mem (inX9 w h)) hown hK.1 hP 0 rfl rfl 20 (by decide) (hts _ (gw_mem wfX9_222)) (fun _ h9 => h9) rfl dX9_writes_18 ?_
    refine lv_iconst (v := 1) hx hb dX9_writes_21 (by decide) ?_
    refine lv_iadd hx hb dX9_writes_22 ?_
    refine lv_topi (fun w5 ew5 => ?_)
    replace hf := nm_at hf ew5
    refine va_put (D := (dC, dI)) (ci := 9) (v := .int w5) (ty := .int) (C := RX9) (T := TX9) (N := 45) hx hb hts (fun w h => gw_mem (inX9 w h)) tyX9 tyX9_ok nmX9 hown hK.1 hP hD hS 0 rfl rfl 20 (by decide) (hts _ (gw_mem wfX9_222)) (fun _ h9 => h9) rfl (by decide +kernel) rfl rfl (Nat.le_of_ble_eq_true rfl) dX9_writes_23 (fun H locs hP hD hS => ?_)
    have hP : va_P (dC, dI) vwCl (mW dA ad c_tape c_taped c_tree c_bonds c_moves c_handMoves c_moved c_days c_likely c_outOf c_rateNow c_pence c_top c_bottom c_spot c_textLong c_fault c_number c_numberAt c_figures w5 c_wanted c_found_2 c_drawnNow c_worth c_hold c_way c_acts c_sDay c_sUps c_sUp c_sMarks c_paidAll c_isPlayed c_isOn c_handMoved c_handPaid c_regret c_aside c_other c_states c_kept c_keptLong c_keptAt c_isTaking) H := hP
    have hD : va_D A (mW dA ad c_tape c_taped c_tree c_bonds c_moves c_handMoves c_moved c_days c_likely c_outOf c_rateNow c_pence c_top c_bottom c_spot c_textLong c_fault c_number c_numberAt c_figures w5 c_wanted c_found_2 c_drawnNow c_worth c_hold c_way c_acts c_sDay c_sUps c_sUp c_sMarks c_paidAll c_isPlayed c_isOn c_handMoved c_handPaid c_regret c_aside c_other c_states c_kept c_keptLong c_keptAt c_isTaking) := hD
    cases hf
    exact W.vret hx hb hr (fun t ht _ => gqv hP hD hS ht) hS.2.2 dX9_writes_26
  replace hf := v4
  clear v4
  refine lv_icmp_ne (tgt := 16) hx hb dX9_writes_8 (by decide) (fun k1 => ?_) (fun k1 => ?_)
  · replace hf := ifn k1 hf
    cases hf
    exact J3 _ _ _ hP hD hS (lv_sub hl [0] rfl)
  · replace hf := ifp k1 hf
    refine lv_aload_n hx hb dX9_writes_11 rfl (lv_at hl 0 rfl) ?_
    refine lv_iload_n hx hb dX9_writes_12 rfl (lv_at hl 1 rfl) ?_
    refine va_put (D := (dC, dI)) (ci := 9) (v := .int p1) (ty := .int) (C := RX9) (T := TX9) (N := 45) hx hb hts (fun w h => gw_mem (inX9 w h)) tyX9 tyX9_ok nmX9 hown hK.1 hP hD hS 0 rfl rfl 22 (by decide) (hts _ (gw_mem wfX9_228)) (fun _ h9 => h9) rfl (by decide +kernel) rfl rfl (Nat.le_of_ble_eq_true rfl) dX9_writes_13 (fun H locs hP hD hS => ?_)
    have hP : va_P (dC, dI) vwCl (mW dA ad c_tape c_taped c_tree c_bonds c_moves c_handMoves c_moved c_days c_likely c_outOf c_rateNow c_pence c_top c_bottom c_spot c_textLong c_fault c_number c_numberAt c_figures c_written c_wanted p1 c_drawnNow c_worth c_hold c_way c_acts c_sDay c_sUps c_sUp c_sMarks c_paidAll c_isPlayed c_isOn c_handMoved c_handPaid c_regret c_aside c_other c_states c_kept c_keptLong c_keptAt c_isTaking) H := hP
    have hD : va_D A (mW dA ad c_tape c_taped c_tree c_bonds c_moves c_handMoves c_moved c_days c_likely c_outOf c_rateNow c_pence c_top c_bottom c_spot c_textLong c_fault c_number c_numberAt c_figures c_written c_wanted p1 c_drawnNow c_worth c_hold c_way c_acts c_sDay c_sUps c_sUp c_sMarks c_paidAll c_isPlayed c_isOn c_handMoved c_handPaid c_regret c_aside c_other c_states c_kept c_keptLong c_keptAt c_isTaking) := hD
    cases hf
    exact J3 _ _ _ hP hD hS (lv_sub hl [0] rfl)
theorem ccX9_X9_writes {R : Room} {s : State} {args : Array Value} {c0 : Cond} (ht : ∀ w ∈ wq c0, w.before args s = true) (hR : rmX9_writes.frames + 1 ≤ R.frames ∧ 8 + (2 + 11) + rmX9_writes.locals ≤ R.locals) : CallW R s args RX9 RX9 231 yX9_writes cX9_writes 2 none (wq (.code yX9_writes cX9_writes 2 none)) rmX9_writes 0 0 1 := gCW 1 ht wcX9_writes wmX9_231 wiX9_writes weX9_writes wnX9 (by decide +kernel) rfl rfl hR
abbrev rmX9_writesNumber : Room := { frames := 1, cells := 0, slots := 0, locals := 21 }
set_option maxHeartbeats 4000000 in
set_option maxRecDepth 100000 in
theorem tX9_writesNumber (l : Launch) (dC : Nat → ClassId) (dI : Nat → Nat → Nat) (dA : Nat → ClassId) (ad : Nat → Nat) (sz : Nat) {p1 : Int32} {c_tape : Nat → Int32} {c_taped : Int32} {c_tree : Nat → Int32} {c_bonds : Nat → Int32} {c_moves : Nat → Int32} {c_handMoves : Nat → Int32} {c_moved : Int32} {c_days : Int32} {c_likely : Int32} {c_outOf : Int32} {c_rateNow : Int32} {c_pence : Nat → Int64} {c_top : Int64} {c_bottom : Int64} {c_spot : Int32} {c_textLong : Int32} {c_fault : Int32} {c_number : Int32} {c_numberAt : Int32} {c_figures : Int32} {c_written : Int32} {c_wanted : Int32} {c_found : Int32} {c_drawnNow : Int32} {c_worth : Nat → Int64} {c_hold : Nat → Int64} {c_way : Nat → Int64} {c_acts : Nat → Int32} {c_sDay : Int32} {c_sUps : Int32} {c_sUp : Int32} {c_sMarks : Int32} {c_paidAll : Int64} {c_isPlayed : Int32} {c_isOn : Int32} {c_handMoved : Int32} {c_handPaid : Int64} {c_regret : Int64} {c_aside : Nat → Int32} {c_other : Nat → Int64} {c_states : Int32} {c_kept : Nat → Int32} {c_keptLong : Nat → Int64} {c_keptAt : Int32} {c_isTaking : Int32} {o_c_written : Int32} {o_c_found : Int32} (hf : fX9_writesNumber p1 c_written c_wanted c_found = some (o_c_written, o_c_found)) : Met l yX9_writesNumber (wq (Cond.code yX9_writesNumber cX9_writesNumber 3 none)) rmX9_writesNumber (gP [.ref (ad 0), .int p1] (dC, dI) dA (mW dA ad c_tape c_taped c_tree c_bonds c_moves c_handMoves c_moved c_days c_likely c_outOf c_rateNow c_pence c_top c_bottom c_spot c_textLong c_fault c_number c_numberAt c_figures c_written c_wanted c_found c_drawnNow c_worth c_hold c_way c_acts c_sDay c_sUps c_sUp c_sMarks c_paidAll c_isPlayed c_isOn c_handMoved c_handPaid c_regret c_aside c_other c_states c_kept c_keptLong c_keptAt c_isTaking) sz) (gQv (dC, dI) (mW dA ad c_tape c_taped c_tree c_bonds c_moves c_handMoves c_moved c_days c_likely c_outOf c_rateNow c_pence c_top c_bottom c_spot c_textLong c_fault c_number c_numberAt c_figures o_c_written c_wanted o_c_found c_drawnNow c_worth c_hold c_way c_acts c_sDay c_sUps c_sUp c_sMarks c_paidAll c_isPlayed c_isOn c_handMoved c_handPaid c_regret c_aside c_other c_states c_kept c_keptLong c_keptAt c_isTaking) (va_A (mW dA ad c_tape c_taped c_tree c_bonds c_moves c_handMoves c_moved c_days c_likely c_outOf c_rateNow c_pence c_top c_bottom c_spot c_textLong c_fault c_number c_numberAt c_figures c_written c_wanted c_found c_drawnNow c_worth c_hold c_way c_acts c_sDay c_sUps c_sUp c_sMarks c_paidAll c_isPlayed c_isOn c_handMoved c_handPaid c_regret c_aside c_other c_states c_kept c_keptLong c_keptAt c_isTaking) sz)) 0 0 (va_A (mW dA ad c_tape c_taped c_tree c_bonds c_moves c_handMoves c_moved c_days c_likely c_outOf c_rateNow c_pence c_top c_bottom c_spot c_textLong c_fault c_number c_numberAt c_figures c_written c_wanted c_found c_drawnNow c_worth c_hold c_way c_acts c_sDay c_sUps c_sUp c_sMarks c_paidAll c_isPlayed c_isOn c_handMoved c_handPaid c_regret c_aside c_other c_states c_kept c_keptLong c_keptAt c_isTaking) sz) := by
  refine Met.ofW (cc := cX9_writesNumber) (maxL := 3) (ret := none) (by decide) rfl ?_
  intro p e s m args below meth c s₁ B hml hv
  obtain ⟨rfl, hsz, hP, hK, hD0⟩ := hv
  have hx := B.exec
  have hb := B.bytes
  have hr := B.returns
  have hts := atoms_spec (ws := wq (Cond.code yX9_writesNumber cX9_writesNumber 3 none)) B.pre
  have hown : s.vm.findClass RX9 = some m.cls := findClass_of_methodNamed B.named
  have hlocks := B.notSynchronized
  clear B
  subst hsz
  have hD := hD0.self (sz := s.heap.size)
  generalize hAe : va_A (mW dA ad c_tape c_taped c_tree c_bonds c_moves c_handMoves c_moved c_days c_likely c_outOf c_rateNow c_pence c_top c_bottom c_spot c_textLong c_fault c_number c_numberAt c_figures c_written c_wanted c_found c_drawnNow c_worth c_hold c_way c_acts c_sDay c_sUps c_sUp c_sMarks c_paidAll c_isPlayed c_isOn c_handMoved c_handPaid c_regret c_aside c_other c_states c_kept c_keptLong c_keptAt c_isTaking) s.heap.size = A at hD ⊢
  have hA : ∀ q : Nat, s.heap.size ≤ q → A q := fun q h => by rw [← hAe]; exact Or.inr h
  clear hAe hD0
  have hS : va_S A s.heap s.heap [] := va_S.rf
  have hl := lv_entry ([.ref (ad 0), .int p1]) (n := 3) (Nat.le_of_ble_eq_true rfl)
  rw [lg_entry_eq]
  generalize (lg_sl ([.ref (ad 0), .int p1]) ++ List.replicate (3 - (lg_sl ([.ref (ad 0), .int p1])).length) Slot.unset).toArray = ls at hl ⊢
  have hl : lv_has ls 3 [(0, .ref (ad 0)), (1, .int p1)] := hl
  change W p l e rmX9_writesNumber s m ([.ref (ad 0), .int p1] : List Value).toArray below meth c s.heap [] 0 0 _ _
  generalize hQ : MQ below (gQv (dC, dI) (mW dA ad c_tape c_taped c_tree c_bonds c_moves c_handMoves c_moved c_days c_likely c_outOf c_rateNow c_pence c_top c_bottom c_spot c_textLong c_fault c_number c_numberAt c_figures o_c_written c_wanted o_c_found c_drawnNow c_worth c_hold c_way c_acts c_sDay c_sUps c_sUp c_sMarks c_paidAll c_isPlayed c_isOn c_handMoved c_handPaid c_regret c_aside c_other c_states c_kept c_keptLong c_keptAt c_isTaking) A) ([.ref (ad 0), .int p1] : List Value).toArray s 0 0 A = Q
  have LP3 : ∀ (n : Nat) (x1 : Int32) (c_wanted : Int32) (c_tape : Nat → Int32) (c_taped : Int32) (c_tree : Nat → Int32) (c_bonds : Nat → Int32) (c_moves : Nat → Int32) (c_handMoves : Nat → Int32) (c_moved : Int32) (c_days : Int32) (c_likely : Int32) (c_outOf : Int32) (c_rateNow : Int32) (c_pence : Nat → Int64) (c_top : Int64) (c_bottom : Int64) (c_spot : Int32) (c_textLong : Int32) (c_fault : Int32) (c_number : Int32) (c_numberAt : Int32) (c_figures : Int32) (c_drawnNow : Int32) (c_worth : Nat → Int64) (c_hold : Nat → Int64) (c_way : Nat → Int64) (c_acts : Nat → Int32) (c_sDay : Int32) (c_sUps : Int32) (c_sUp : Int32) (c_sMarks : Int32) (c_paidAll : Int64) (c_isPlayed : Int32) (c_isOn : Int32) (c_handMoved : Int32) (c_handPaid : Int64) (c_regret : Int64) (c_aside : Nat → Int32) (c_other : Nat → Int64) (c_states : Int32) (c_kept : Nat → Int32) (c_keptLong : Nat → Int64) (c_keptAt : Int32) (c_isTaking : Int32) (x2 : Int32) (c_written : Int32) (c_found : Int32) (o_c_written : Int32) (o_c_found : Int32) (H : Heap) (locs : List Loc) (ls : Array Slot), va_P (dC, dI) vwCl (mW dA ad c_tape c_taped c_tree c_bonds c_moves c_handMoves c_moved c_days c_likely c_outOf c_rateNow c_pence c_top c_bottom c_spot c_textLong c_fault c_number c_numberAt c_figures c_written c_wanted c_found c_drawnNow c_worth c_hold c_way c_acts c_sDay c_sUps c_sUp c_sMarks c_paidAll c_isPlayed c_isOn c_handMoved c_handPaid c_regret c_aside c_other c_states c_kept c_keptLong c_keptAt c_isTaking) H → va_D A (mW dA ad c_tape c_taped c_tree c_bonds c_moves c_handMoves c_moved c_days c_likely c_outOf c_rateNow c_pence c_top c_bottom c_spot c_textLong c_fault c_number c_numberAt c_figures c_written c_wanted c_found c_drawnNow c_worth c_hold c_way c_acts c_sDay c_sUps c_sUp c_sMarks c_paidAll c_isPlayed c_isOn c_handMoved c_handPaid c_regret c_aside c_other c_states c_kept c_keptLong c_keptAt c_isTaking) → va_S A s.heap H locs → lpX9_writesNumber_3 x1 c_wanted n x2 c_written c_found = some (o_c_written, o_c_found) → lv_has ls 3 [(0, .ref (ad 0)), (1, .int x1), (2, .int x2)] → (∀ (H : Heap) (locs : List Loc) (ls : Array Slot), va_P (dC, dI) vwCl (mW dA ad c_tape c_taped c_tree c_bonds c_moves c_handMoves c_moved c_days c_likely c_outOf c_rateNow c_pence c_top c_bottom c_spot c_textLong c_fault c_number c_numberAt c_figures o_c_written c_wanted o_c_found c_drawnNow c_worth c_hold c_way c_acts c_sDay c_sUps c_sUp c_sMarks c_paidAll c_isPlayed c_isOn c_handMoved c_handPaid c_regret c_aside c_other c_states c_kept c_keptLong c_keptAt c_isTaking) H → va_D A (mW dA ad c_tape c_taped c_tree c_bonds c_moves c_handMoves c_moved c_days c_likely c_outOf c_rateNow c_pence c_top c_bottom c_spot c_textLong c_fault c_number c_numberAt c_figures o_c_written c_wanted o_c_found c_drawnNow c_worth c_hold c_way c_acts c_sDay c_sUps c_sUp c_sMarks c_paidAll c_isPlayed c_isOn c_handMoved c_handPaid c_regret c_aside c_other c_states c_kept c_keptLong c_keptAt c_isTaking) → va_S A s.heap H locs → lv_has ls 3 [] → W p l e rmX9_writesNumber s m ([.ref (ad 0), .int p1] : List Value).toArray below meth c H locs 0 0 Q (F0 m 38 ls [])) → W p l e rmX9_writesNumber s m ([.ref (ad 0), .int p1] : List Value).toArray below meth c H locs 0 0 Q (F0 m 3 ls []) := by
    intro n
    induction n with
    | zero =>
      intro x1 c_wanted c_tape c_taped c_tree c_bonds c_moves c_handMoves c_moved c_days c_likely c_outOf c_rateNow c_pence c_top c_bottom c_spot c_textLong c_fault c_number c_numberAt c_figures c_drawnNow c_worth c_hold c_way c_acts c_sDay c_sUps c_sUp c_sMarks c_paidAll c_isPlayed c_isOn c_handMoved c_handPaid c_regret c_aside c_other c_states c_kept c_keptLong c_keptAt c_isTaking x2 c_written c_found o_c_written o_c_found H locs ls hP hD hS hf hl hk
      cases hf
    | succ n ih3 =>
      intro x1 c_wanted c_tape c_taped c_tree c_bonds c_moves c_handMoves c_moved c_days c_likely c_outOf c_rateNow c_pence c_top c_bottom c_spot c_textLong c_fault c_number c_numberAt c_figures c_drawnNow c_worth c_hold c_way c_acts c_sDay c_sUps c_sUp c_sMarks c_paidAll c_isPlayed c_isOn c_handMoved c_handPaid c_regret c_aside c_other c_states c_kept c_keptLong c_keptAt c_isTaking x2 c_written c_found o_c_written o_c_found H locs ls hP hD hS hf hl hk
      rw [lpX9_writesNumber_3.eq_2] at hf
      refine lv_iload_n hx hb dX9_writesNumber_3 rfl (lv_at hl 2 rfl) ?_
      refine lv_if_le (tgt := 38) hx hb dX9_writesNumber_4 (by decide) (fun k4 => ?_) (fun k4 => ?_)
      · replace hf := ifp k4 hf
        cases hf
        exact hk _ _ _ hP hD hS (lv_sub hl [] rfl)
      · replace hf := ifn k4 hf
        refine lv_iload_n hx hb dX9_writesNumber_7 rfl (lv_at hl 1 rfl) ?_
        refine lv_iload_n hx hb dX9_writesNumber_8 rfl (lv_at hl 2 rfl) ?_
        obtain ⟨c_written_6, c_found_7, v9, hf⟩ := bd2_some hf
        have J8 : ∀ (H : Heap) (locs : List Loc) (ls : Array Slot), va_P (dC, dI) vwCl (mW dA ad c_tape c_taped c_tree c_bonds c_moves c_handMoves c_moved c_days c_likely c_outOf c_rateNow c_pence c_top c_bottom c_spot c_textLong c_fault c_number c_numberAt c_figures c_written_6 c_wanted c_found_7 c_drawnNow c_worth c_hold c_way c_acts c_sDay c_sUps c_sUp c_sMarks c_paidAll c_isPlayed c_isOn c_handMoved c_handPaid c_regret c_aside c_other c_states c_kept c_keptLong c_keptAt c_isTaking) H → va_D A (mW dA ad c_tape c_taped c_tree c_bonds c_moves c_handMoves c_moved c_days c_likely c_outOf c_rateNow c_pence c_top c_bottom c_spot c_textLong c_fault c_number c_numberAt c_figures c_written_6 c_wanted c_found_7 c_drawnNow c_worth c_hold c_way c_acts c_sDay c_sUps c_sUp c_sMarks c_paidAll c_isPlayed c_isOn c_handMoved c_handPaid c_regret c_aside c_other c_states c_kept c_keptLong c_keptAt c_isTaking) → va_S A s.heap H locs → lv_has ls 3 [(0, .ref (ad 0)), (1, .int x1), (2, .int x2)] → W p l e rmX9_writesNumber s m ([.ref (ad 0), .int p1] : List Value).toArray below meth c H locs 0 0 Q (F0 m 30 ls []) := by
          intro H locs ls hP hD hS hl
          refine lv_iload_n hx hb dX9_writesNumber_30 rfl (lv_at hl 2 rfl) ?_
          refine lv_bipush (v := 10) hx hb dX9_writesNumber_31 (by decide) ?_
          refine lv_idiv hx hb dX9_writesNumber_33 (by decide) ?_
          refine lv_topi (fun w10 ew10 => ?_)
          replace hf := nm_at hf ew10
          refine lv_istore_n (lv' := [(2, .int w10), (0, .ref (ad 0)), (1, .int x1)]) hx hb dX9_writesNumber_34 rfl hl (by decide) rfl (fun ls hl => ?_)
          refine lv_goto (tgt := 3) hx hb dX9_writesNumber_35 (by decide) ?_
          exact ih3 _ _ _ _ _ _ _ _ _ _ _ _ _ _ _ _ _ _ _ _ _ _ _ _ _ _ _ _ _ _ _ _ _ _ _ _ _ _ _ _ _ _ _ _ _ _ _ _ _ _ _ _ hP hD hS hf (lv_sub hl [1, 2, 0] rfl) hk
        replace hf := v9
        clear v9
        refine lv_icmp_ge (tgt := 17) hx hb dX9_writesNumber_9 (by decide) (fun k5 => ?_) (fun k5 => ?_)
        · replace hf := ifp k5 hf
          refine lv_aload_n hx hb dX9_writesNumber_17 rfl (lv_at hl 0 rfl) ?_
          refine lv_bipush (v := 48) hx hb dX9_writesNumber_18 (by decide) ?_
          refine lv_iload_n hx hb dX9_writesNumber_20 rfl (lv_at hl 1 rfl) ?_
          refine lv_iload_n hx hb dX9_writesNumber_21 rfl (lv_at hl 2 rfl) ?_
          obtain ⟨h11, hf⟩ := og_some hf
          refine lv_idiv hx hb dX9_writesNumber_22 (nzI_ne h11) ?_
          refine lv_bipush (v := 10) hx hb dX9_writesNumber_23 (by decide) ?_
          refine lv_irem hx hb dX9_writesNumber_25 (by decide) ?_
          refine lv_iadd hx hb dX9_writesNumber_26 ?_
          obtain ⟨c_written_12, c_found_13, v14, hf⟩ := bd2_some hf
          refine gcv (va_runV (As := [.int (48 + ((x1 / x2) - (x1 / x2) / 10 * 10))]) (rest := []) ⟨hx, hb, hml, hown, hts⟩ (tX9_writes l dC dI dA ad H.size v14) (ccX9_X9_writes hts ⟨Nat.le_of_ble_eq_true rfl, Nat.le_of_ble_eq_true rfl⟩) (gPreV (ci := 9) (q0 := 0) hP hK hD rfl rfl) rfl rfl hl.1 rfl (lv_room (Nat.le_of_ble_eq_true rfl)) dX9_writesNumber_27 ⟨Nat.le_of_ble_eq_true rfl, Nat.le_of_ble_eq_true rfl⟩) hD hS hA (fun H locs hP hD hS => ?_)
          cases hf
          exact J8 _ _ _ hP hD hS (lv_sub hl [0, 1, 2] rfl)
        · replace hf := ifn k5 hf
          refine lv_iload_n hx hb dX9_writesNumber_12 rfl (lv_at hl 2 rfl) ?_
          refine lv_iconst (v := 1) hx hb dX9_writesNumber_13 (by decide) ?_
          refine lv_icmp_ne (tgt := 30) hx hb dX9_writesNumber_14 (by decide) (fun k15 => ?_) (fun k15 => ?_)
          · replace hf := ifn k15 hf
            cases hf
            exact J8 _ _ _ hP hD hS (lv_sub hl [0, 1, 2] rfl)
          · replace hf := ifp k15 hf
            refine lv_aload_n hx hb dX9_writesNumber_17 rfl (lv_at hl 0 rfl) ?_
            refine lv_bipush (v := 48) hx hb dX9_writesNumber_18 (by decide) ?_
            refine lv_iload_n hx hb dX9_writesNumber_20 rfl (lv_at hl 1 rfl) ?_
            refine lv_iload_n hx hb dX9_writesNumber_21 rfl (lv_at hl 2 rfl) ?_
            obtain ⟨h16, hf⟩ := og_some hf
            refine lv_idiv hx hb dX9_writesNumber_22 (nzI_ne h16) ?_
            refine lv_bipush (v := 10) hx hb dX9_writesNumber_23 (by decide) ?_
            refine lv_irem hx hb dX9_writesNumber_25 (by decide) ?_
            refine lv_iadd hx hb dX9_writesNumber_26 ?_
            obtain ⟨c_written_17, c_found_18, v19, hf⟩ := bd2_some hf
            refine gcv (va_runV (As := [.int (48 + ((x1 / x2) - (x1 / x2) / 10 * 10))]) (rest := []) ⟨hx, hb, hml, hown, hts⟩ (tX9_writes l dC dI dA ad H.size v19) (ccX9_X9_writes hts ⟨Nat.le_of_ble_eq_true rfl, Nat.le_of_ble_eq_true rfl⟩) (gPreV (ci := 9) (q0 := 0) hP hK hD rfl rfl) rfl rfl hl.1 rfl (lv_room (Nat.le_of_ble_eq_true rfl)) dX9_writesNumber_27 ⟨Nat.le_of_ble_eq_true rfl, Nat.le_of_ble_eq_true rfl⟩) hD hS hA (fun H locs hP hD hS => ?_)
            cases hf
            exact J8 _ _ _ hP hD hS (lv_sub hl [0, 1, 2] rfl)
  subst hQ
  unfold fX9_writesNumber at hf
  refine lv_ldc (v := 1000000) hx hb hown (hts _ (gw_mem wkX9_206)) dX9_writesNumber_0 ?_
  refine lv_istore_n (lv' := [(2, .int 1000000), (0, .ref (ad 0)), (1, .int p1)]) hx hb dX9_writesNumber_2 rfl hl (by decide) rfl (fun ls hl => ?_)
  obtain ⟨c_written_1, c_found_2, v3, hf⟩ := bd2_some hf
  refine LP3 FU _ _ _ _ _ _ _ _ _ _ _ _ _ _ _ _ _ _ _ _ _ _ _ _ _ _ _ _ _ _ _ _ _ _ _ _ _ _ _ _ _ _ _ _ _ _ _ _ _ _ _ _ hP hD hS v3 (lv_sub hl [1, 2, 0] rfl) (fun H locs ls hP hD hS hl => ?_)
  cases hf
  exact W.vret hx hb hr (fun t ht _ => gqv hP hD hS ht) hS.2.2 dX9_writesNumber_38
theorem ccX9_X9_writesNumber {R : Room} {s : State} {args : Array Value} {c0 : Cond} (ht : ∀ w ∈ wq c0, w.before args s = true) (hR : rmX9_writesNumber.frames + 1 ≤ R.frames ∧ 8 + (3 + 11) + rmX9_writesNumber.locals ≤ R.locals) : CallW R s args RX9 RX9 234 yX9_writesNumber cX9_writesNumber 3 none (wq (.code yX9_writesNumber cX9_writesNumber 3 none)) rmX9_writesNumber 0 0 1 := gCW 1 ht wcX9_writesNumber wmX9_234 wiX9_writesNumber weX9_writesNumber wnX9 (by decide +kernel) rfl rfl hR
abbrev rmX9_writesDays : Room := { frames := 2, cells := 0, slots := 0, locals := 43 }
set_option maxHeartbeats 4000000 in
set_option maxRecDepth 100000 in
theorem tX9_writesDays (l : Launch) (dC : Nat → ClassId) (dI : Nat → Nat → Nat) (dA : Nat → ClassId) (ad : Nat → Nat) (sz : Nat) {p1 : Int32} {p2 : Int32} {p3 : Int32} {p4 : Int32} {p5 : Int32} {p6 : Int32} {c_tape : Nat → Int32} {c_taped : Int32} {c_tree : Nat → Int32} {c_bonds : Nat → Int32} {c_moves : Nat → Int32} {c_handMoves : Nat → Int32} {c_moved : Int32} {c_days : Int32} {c_likely : Int32} {c_outOf : Int32} {c_rateNow : Int32} {c_pence : Nat → Int64} {c_top : Int64} {c_bottom : Int64} {c_spot : Int32} {c_textLong : Int32} {c_fault : Int32} {c_number : Int32} {c_numberAt : Int32} {c_figures : Int32} {c_written : Int32} {c_wanted : Int32} {c_found : Int32} {c_drawnNow : Int32} {c_worth : Nat → Int64} {c_hold : Nat → Int64} {c_way : Nat → Int64} {c_acts : Nat → Int32} {c_sDay : Int32} {c_sUps : Int32} {c_sUp : Int32} {c_sMarks : Int32} {c_paidAll : Int64} {c_isPlayed : Int32} {c_isOn : Int32} {c_handMoved : Int32} {c_handPaid : Int64} {c_regret : Int64} {c_aside : Nat → Int32} {c_other : Nat → Int64} {c_states : Int32} {c_kept : Nat → Int32} {c_keptLong : Nat → Int64} {c_keptAt : Int32} {c_isTaking : Int32} {o_c_written : Int32} {o_c_found : Int32} (hf : fX9_writesDays p1 p2 p3 p4 p5 p6 c_bonds c_written c_wanted c_found = some (o_c_written, o_c_found)) : Met l yX9_writesDays (wq (Cond.code yX9_writesDays cX9_writesDays 8 none)) rmX9_writesDays (gP [.ref (ad 0), .int p1, .int p2, .int p3, .int p4, .int p5, .int p6] (dC, dI) dA (mW dA ad c_tape c_taped c_tree c_bonds c_moves c_handMoves c_moved c_days c_likely c_outOf c_rateNow c_pence c_top c_bottom c_spot c_textLong c_fault c_number c_numberAt c_figures c_written c_wanted c_found c_drawnNow c_worth c_hold c_way c_acts c_sDay c_sUps c_sUp c_sMarks c_paidAll c_isPlayed c_isOn c_handMoved c_handPaid c_regret c_aside c_other c_states c_kept c_keptLong c_keptAt c_isTaking) sz) (gQv (dC, dI) (mW dA ad c_tape c_taped c_tree c_bonds c_moves c_handMoves c_moved c_days c_likely c_outOf c_rateNow c_pence c_top c_bottom c_spot c_textLong c_fault c_number c_numberAt c_figures o_c_written c_wanted o_c_found c_drawnNow c_worth c_hold c_way c_acts c_sDay c_sUps c_sUp c_sMarks c_paidAll c_isPlayed c_isOn c_handMoved c_handPaid c_regret c_aside c_other c_states c_kept c_keptLong c_keptAt c_isTaking) (va_A (mW dA ad c_tape c_taped c_tree c_bonds c_moves c_handMoves c_moved c_days c_likely c_outOf c_rateNow c_pence c_top c_bottom c_spot c_textLong c_fault c_number c_numberAt c_figures c_written c_wanted c_found c_drawnNow c_worth c_hold c_way c_acts c_sDay c_sUps c_sUp c_sMarks c_paidAll c_isPlayed c_isOn c_handMoved c_handPaid c_regret c_aside c_other c_states c_kept c_keptLong c_keptAt c_isTaking) sz)) 0 0 (va_A (mW dA ad c_tape c_taped c_tree c_bonds c_moves c_handMoves c_moved c_days c_likely c_outOf c_rateNow c_pence c_top c_bottom c_spot c_textLong c_fault c_number c_numberAt c_figures c_written c_wanted c_found c_drawnNow c_worth c_hold c_way c_acts c_sDay c_sUps c_sUp c_sMarks c_paidAll c_isPlayed c_isOn c_handMoved c_handPaid c_regret c_aside c_other c_states c_kept c_keptLong c_keptAt c_isTaking) sz) := by
  refine Met.ofW (cc := cX9_writesDays) (maxL := 8) (ret := none) (by decide) rfl ?_
  intro p e s m args below meth c s₁ B hml hv
  obtain ⟨rfl, hsz, hP, hK, hD0⟩ := hv
  have hx := B.exec
  have hb := B.bytes
  have hr := B.returns
  have hts := atoms_spec (ws := wq (Cond.code yX9_writesDays cX9_writesDays 8 none)) B.pre
  have hown : s.vm.findClass RX9 = some m.cls := findClass_of_methodNamed B.named
  have hlocks := B.notSynchronized
  clear B
  subst hsz
  have hD := hD0.self (sz := s.heap.size)
  generalize hAe : va_A (mW dA ad c_tape c_taped c_tree c_bonds c_moves c_handMoves c_moved c_days c_likely c_outOf c_rateNow c_pence c_top c_bottom c_spot c_textLong c_fault c_number c_numberAt c_figures c_written c_wanted c_found c_drawnNow c_worth c_hold c_way c_acts c_sDay c_sUps c_sUp c_sMarks c_paidAll c_isPlayed c_isOn c_handMoved c_handPaid c_regret c_aside c_other c_states c_kept c_keptLong c_keptAt c_isTaking) s.heap.size = A at hD ⊢
  have hA : ∀ q : Nat, s.heap.size ≤ q → A q := fun q h => by rw [← hAe]; exact Or.inr h
  clear hAe hD0
  have hS : va_S A s.heap s.heap [] := va_S.rf
  have hl := lv_entry ([.ref (ad 0), .int p1, .int p2, .int p3, .int p4, .int p5, .int p6]) (n := 8) (Nat.le_of_ble_eq_true rfl)
  rw [lg_entry_eq]
  generalize (lg_sl ([.ref (ad 0), .int p1, .int p2, .int p3, .int p4, .int p5, .int p6]) ++ List.replicate (8 - (lg_sl ([.ref (ad 0), .int p1, .int p2, .int p3, .int p4, .int p5, .int p6])).length) Slot.unset).toArray = ls at hl ⊢
  have hl : lv_has ls 8 [(0, .ref (ad 0)), (1, .int p1), (2, .int p2), (3, .int p3), (4, .int p4), (5, .int p5), (6, .int p6)] := hl
  change W p l e rmX9_writesDays s m ([.ref (ad 0), .int p1, .int p2, .int p3, .int p4, .int p5, .int p6] : List Value).toArray below meth c s.heap [] 0 0 _ _
  generalize hQ : MQ below (gQv (dC, dI) (mW dA ad c_tape c_taped c_tree c_bonds c_moves c_handMoves c_moved c_days c_likely c_outOf c_rateNow c_pence c_top c_bottom c_spot c_textLong c_fault c_number c_numberAt c_figures o_c_written c_wanted o_c_found c_drawnNow c_worth c_hold c_way c_acts c_sDay c_sUps c_sUp c_sMarks c_paidAll c_isPlayed c_isOn c_handMoved c_handPaid c_regret c_aside c_other c_states c_kept c_keptLong c_keptAt c_isTaking) A) ([.ref (ad 0), .int p1, .int p2, .int p3, .int p4, .int p5, .int p6] : List Value).toArray s 0 0 A = Q
  have LP4 : ∀ (n : Nat) (x1 : Int32) (x2 : Int32) (x3 : Int32) (x5 : Int32) (x6 : Int32) (c_bonds : Nat → Int32) (c_wanted : Int32) (c_tape : Nat → Int32) (c_taped : Int32) (c_tree : Nat → Int32) (c_moves : Nat → Int32) (c_handMoves : Nat → Int32) (c_moved : Int32) (c_days : Int32) (c_likely : Int32) (c_outOf : Int32) (c_rateNow : Int32) (c_pence : Nat → Int64) (c_top : Int64) (c_bottom : Int64) (c_spot : Int32) (c_textLong : Int32) (c_fault : Int32) (c_number : Int32) (c_numberAt : Int32) (c_figures : Int32) (c_drawnNow : Int32) (c_worth : Nat → Int64) (c_hold : Nat → Int64) (c_way : Nat → Int64) (c_acts : Nat → Int32) (c_sDay : Int32) (c_sUps : Int32) (c_sUp : Int32) (c_sMarks : Int32) (c_paidAll : Int64) (c_isPlayed : Int32) (c_isOn : Int32) (c_handMoved : Int32) (c_handPaid : Int64) (c_regret : Int64) (c_aside : Nat → Int32) (c_other : Nat → Int64) (c_states : Int32) (c_kept : Nat → Int32) (c_keptLong : Nat → Int64) (c_keptAt : Int32) (c_isTaking : Int32) (x7 : Int32) (c_written : Int32) (c_found : Int32) (o_c_written : Int32) (o_c_found : Int32) (H : Heap) (locs : List Loc) (ls : Array Slot), va_P (dC, dI) vwCl (mW dA ad c_tape c_taped c_tree c_bonds c_moves c_handMoves c_moved c_days c_likely c_outOf c_rateNow c_pence c_top c_bottom c_spot c_textLong c_fault c_number c_numberAt c_figures c_written c_wanted c_found c_drawnNow c_worth c_hold c_way c_acts c_sDay c_sUps c_sUp c_sMarks c_paidAll c_isPlayed c_isOn c_handMoved c_handPaid c_regret c_aside c_other c_states c_kept c_keptLong c_keptAt c_isTaking) H → va_D A (mW dA ad c_tape c_taped c_tree c_bonds c_moves c_handMoves c_moved c_days c_likely c_outOf c_rateNow c_pence c_top c_bottom c_spot c_textLong c_fault c_number c_numberAt c_figures c_written c_wanted c_found c_drawnNow c_worth c_hold c_way c_acts c_sDay c_sUps c_sUp c_sMarks c_paidAll c_isPlayed c_isOn c_handMoved c_handPaid c_regret c_aside c_other c_states c_kept c_keptLong c_keptAt c_isTaking) → va_S A s.heap H locs → lpX9_writesDays_4 x1 x2 x3 x5 x6 c_bonds c_wanted n x7 c_written c_found = some (o_c_written, o_c_found) → lv_has ls 8 [(0, .ref (ad 0)), (1, .int x1), (2, .int x2), (3, .int x3), (5, .int x5), (6, .int x6), (7, .int x7)] → (∀ (H : Heap) (locs : List Loc) (ls : Array Slot), va_P (dC, dI) vwCl (mW dA ad c_tape c_taped c_tree c_bonds c_moves c_handMoves c_moved c_days c_likely c_outOf c_rateNow c_pence c_top c_bottom c_spot c_textLong c_fault c_number c_numberAt c_figures o_c_written c_wanted o_c_found c_drawnNow c_worth c_hold c_way c_acts c_sDay c_sUps c_sUp c_sMarks c_paidAll c_isPlayed c_isOn c_handMoved c_handPaid c_regret c_aside c_other c_states c_kept c_keptLong c_keptAt c_isTaking) H → va_D A (mW dA ad c_tape c_taped c_tree c_bonds c_moves c_handMoves c_moved c_days c_likely c_outOf c_rateNow c_pence c_top c_bottom c_spot c_textLong c_fault c_number c_numberAt c_figures o_c_written c_wanted o_c_found c_drawnNow c_worth c_hold c_way c_acts c_sDay c_sUps c_sUp c_sMarks c_paidAll c_isPlayed c_isOn c_handMoved c_handPaid c_regret c_aside c_other c_states c_kept c_keptLong c_keptAt c_isTaking) → va_S A s.heap H locs → lv_has ls 8 [] → W p l e rmX9_writesDays s m ([.ref (ad 0), .int p1, .int p2, .int p3, .int p4, .int p5, .int p6] : List Value).toArray below meth c H locs 0 0 Q (F0 m 64 ls [])) → W p l e rmX9_writesDays s m ([.ref (ad 0), .int p1, .int p2, .int p3, .int p4, .int p5, .int p6] : List Value).toArray below meth c H locs 0 0 Q (F0 m 4 ls []) := by
    intro n
    induction n with
    | zero =>
      intro x1 x2 x3 x5 x6 c_bonds c_wanted c_tape c_taped c_tree c_moves c_handMoves c_moved c_days c_likely c_outOf c_rateNow c_pence c_top c_bottom c_spot c_textLong c_fault c_number c_numberAt c_figures c_drawnNow c_worth c_hold c_way c_acts c_sDay c_sUps c_sUp c_sMarks c_paidAll c_isPlayed c_isOn c_handMoved c_handPaid c_regret c_aside c_other c_states c_kept c_keptLong c_keptAt c_isTaking x7 c_written c_found o_c_written o_c_found H locs ls hP hD hS hf hl hk
      cases hf
    | succ n ih4 =>
      intro x1 x2 x3 x5 x6 c_bonds c_wanted c_tape c_taped c_tree c_moves c_handMoves c_moved c_days c_likely c_outOf c_rateNow c_pence c_top c_bottom c_spot c_textLong c_fault c_number c_numberAt c_figures c_drawnNow c_worth c_hold c_way c_acts c_sDay c_sUps c_sUp c_sMarks c_paidAll c_isPlayed c_isOn c_handMoved c_handPaid c_regret c_aside c_other c_states c_kept c_keptLong c_keptAt c_isTaking x7 c_written c_found o_c_written o_c_found H locs ls hP hD hS hf hl hk
      rw [lpX9_writesDays_4.eq_2] at hf
      refine lv_iload hx hb dX9_writesDays_4 (lv_at hl 6 rfl) ?_
      refine lv_iload hx hb dX9_writesDays_6 (lv_at hl 4 rfl) ?_
      refine lv_icmp_gt (tgt := 64) hx hb dX9_writesDays_8 (by decide) (fun k4 => ?_) (fun k4 => ?_)
      · replace hf := ifp k4 hf
        cases hf
        exact hk _ _ _ hP hD hS (lv_sub hl [] rfl)
      · replace hf := ifn k4 hf
        refine lv_aload_n hx hb dX9_writesDays_11 rfl (lv_at hl 0 rfl) ?_
        refine lv_iload_n hx hb dX9_writesDays_12 rfl (lv_at hl 2 rfl) ?_
        refine lv_iload_n hx hb dX9_writesDays_13 rfl (lv_at hl 3 rfl) ?_
        refine lv_iload hx hb dX9_writesDays_14 (lv_at hl 6 rfl) ?_
        refine lv_iadd hx hb dX9_writesDays_16 ?_
        obtain ⟨r5, v6, hf⟩ := bd1_some hf
        refine gci (va_runV (As := [.int x2, .int (x3 + x7)]) (rest := []) ⟨hx, hb, hml, hown, hts⟩ (tX9_of l dC dI dA ad H.size v6) (ccX9_X9_of hts ⟨Nat.le_of_ble_eq_true rfl, Nat.le_of_ble_eq_true rfl⟩) (gPreV (ci := 9) (q0 := 0) hP hK hD rfl rfl) rfl rfl hl.1 rfl (lv_room (Nat.le_of_ble_eq_true rfl)) dX9_writesDays_17 ⟨Nat.le_of_ble_eq_true rfl, Nat.le_of_ble_eq_true rfl⟩) hD hS hA (fun H locs hP hD hS => ?_)
        refine lv_iload hx hb dX9_writesDays_20 (lv_at hl 5 rfl) ?_
        obtain ⟨c_written_8, c_found_9, v11, hf⟩ := bd2_some hf
        have J10 : ∀ (H : Heap) (locs : List Loc) (ls : Array Slot), va_P (dC, dI) vwCl (mW dA ad c_tape c_taped c_tree c_bonds c_moves c_handMoves c_moved c_days c_likely c_outOf c_rateNow c_pence c_top c_bottom c_spot c_textLong c_fault c_number c_numberAt c_figures c_written_8 c_wanted c_found_9 c_drawnNow c_worth c_hold c_way c_acts c_sDay c_sUps c_sUp c_sMarks c_paidAll c_isPlayed c_isOn c_handMoved c_handPaid c_regret c_aside c_other c_states c_kept c_keptLong c_keptAt c_isTaking) H → va_D A (mW dA ad c_tape c_taped c_tree c_bonds c_moves c_handMoves c_moved c_days c_likely c_outOf c_rateNow c_pence c_top c_bottom c_spot c_textLong c_fault c_number c_numberAt c_figures c_written_8 c_wanted c_found_9 c_drawnNow c_worth c_hold c_way c_acts c_sDay c_sUps c_sUp c_sMarks c_paidAll c_isPlayed c_isOn c_handMoved c_handPaid c_regret c_aside c_other c_states c_kept c_keptLong c_keptAt c_isTaking) → va_S A s.heap H locs → lv_has ls 8 [(0, .ref (ad 0)), (1, .int x1), (2, .int x2), (3, .int x3), (5, .int x5), (6, .int x6), (7, .int x7)] → W p l e rmX9_writesDays s m ([.ref (ad 0), .int p1, .int p2, .int p3, .int p4, .int p5, .int p6] : List Value).toArray below meth c H locs 0 0 Q (F0 m 58 ls []) := by
          intro H locs ls hP hD hS hl
          obtain ⟨w12, ew12⟩ : ∃ y : Int32, y = x7 + 1 := ⟨_, rfl⟩
          replace hf := nm_at hf ew12
          refine lv_iinc (v := w12) (lv' := [(7, .int w12), (0, .ref (ad 0)), (1, .int x1), (2, .int x2), (3, .int x3), (5, .int x5), (6, .int x6)]) hx hb dX9_writesDays_58 hl (k := 6) rfl (by rw [ew12]; rfl) (by decide) rfl (fun ls hl => ?_)
          refine lv_goto (tgt := 4) hx hb dX9_writesDays_61 (by decide) ?_
          exact ih4 _ _ _ _ _ _ _ _ _ _ _ _ _ _ _ _ _ _ _ _ _ _ _ _ _ _ _ _ _ _ _ _ _ _ _ _ _ _ _ _ _ _ _ _ _ _ _ _ _ _ _ _ _ _ _ _ hP hD hS hf (lv_sub hl [1, 2, 3, 4, 5, 6, 0] rfl) hk
        replace hf := v11
        clear v11
        refine lv_icmp_ge (tgt := 28) hx hb dX9_writesDays_22 (by decide) (fun k7 => ?_) (fun k7 => ?_)
        · replace hf := ifp k7 hf
          refine lv_aload_n hx hb dX9_writesDays_28 rfl (lv_at hl 0 rfl) ?_
          refine lv_iload_n hx hb dX9_writesDays_29 rfl (lv_at hl 1 rfl) ?_
          obtain ⟨c_written_13, c_found_14, v15, hf⟩ := bd2_some hf
          refine gcv (va_runV (As := [.int x1]) (rest := []) ⟨hx, hb, hml, hown, hts⟩ (tX9_writes l dC dI dA ad H.size v15) (ccX9_X9_writes hts ⟨Nat.le_of_ble_eq_true rfl, Nat.le_of_ble_eq_true rfl⟩) (gPreV (ci := 9) (q0 := 0) hP hK hD rfl rfl) rfl rfl hl.1 rfl (lv_room (Nat.le_of_ble_eq_true rfl)) dX9_writesDays_30 ⟨Nat.le_of_ble_eq_true rfl, Nat.le_of_ble_eq_true rfl⟩) hD hS hA (fun H locs hP hD hS => ?_)
          refine lv_aload_n hx hb dX9_writesDays_33 rfl (lv_at hl 0 rfl) ?_
          refine lv_iload hx hb dX9_writesDays_34 (lv_at hl 6 rfl) ?_
          obtain ⟨c_written_16, c_found_17, v18, hf⟩ := bd2_some hf
          refine gcv (va_runV (As := [.int x7]) (rest := []) ⟨hx, hb, hml, hown, hts⟩ (tX9_writesNumber l dC dI dA ad H.size v18) (ccX9_X9_writesNumber hts ⟨Nat.le_of_ble_eq_true rfl, Nat.le_of_ble_eq_true rfl⟩) (gPreV (ci := 9) (q0 := 0) hP hK hD rfl rfl) rfl rfl hl.1 rfl (lv_room (Nat.le_of_ble_eq_true rfl)) dX9_writesDays_36 ⟨Nat.le_of_ble_eq_true rfl, Nat.le_of_ble_eq_true rfl⟩) hD hS hA (fun H locs hP hD hS => ?_)
          refine lv_aload_n hx hb dX9_writesDays_39 rfl (lv_at hl 0 rfl) ?_
          refine lv_bipush (v := 58) hx hb dX9_writesDays_40 (by decide) ?_
          obtain ⟨c_written_19, c_found_20, v21, hf⟩ := bd2_some hf
          refine gcv (va_runV (As := [.int 58]) (rest := []) ⟨hx, hb, hml, hown, hts⟩ (tX9_writes l dC dI dA ad H.size v21) (ccX9_X9_writes hts ⟨Nat.le_of_ble_eq_true rfl, Nat.le_of_ble_eq_true rfl⟩) (gPreV (ci := 9) (q0 := 0) hP hK hD rfl rfl) rfl rfl hl.1 rfl (lv_room (Nat.le_of_ble_eq_true rfl)) dX9_writesDays_42 ⟨Nat.le_of_ble_eq_true rfl, Nat.le_of_ble_eq_true rfl⟩) hD hS hA (fun H locs hP hD hS => ?_)
          refine lv_aload_n hx hb dX9_writesDays_45 rfl (lv_at hl 0 rfl) ?_
          refine lv_aload_n hx hb dX9_writesDays_46 rfl (lv_at hl 0 rfl) ?_
          refine lv_iload_n hx hb dX9_writesDays_47 rfl (lv_at hl 2 rfl) ?_
          refine lv_iload_n hx hb dX9_writesDays_48 rfl (lv_at hl 3 rfl) ?_
          refine lv_iload hx hb dX9_writesDays_49 (lv_at hl 6 rfl) ?_
          refine lv_iadd hx hb dX9_writesDays_51 ?_
          obtain ⟨r22, v23, hf⟩ := bd1_some hf
          refine gci (va_runV (As := [.int x2, .int (x3 + x7)]) (rest := [.ref (ad 0)]) ⟨hx, hb, hml, hown, hts⟩ (tX9_of l dC dI dA ad H.size v23) (ccX9_X9_of hts ⟨Nat.le_of_ble_eq_true rfl, Nat.le_of_ble_eq_true rfl⟩) (gPreV (ci := 9) (q0 := 0) hP hK hD rfl rfl) rfl rfl hl.1 rfl (lv_room (Nat.le_of_ble_eq_true rfl)) dX9_writesDays_52 ⟨Nat.le_of_ble_eq_true rfl, Nat.le_of_ble_eq_true rfl⟩) hD hS hA (fun H locs hP hD hS => ?_)
          obtain ⟨c_written_24, c_found_25, v26, hf⟩ := bd2_some hf
          refine gcv (va_runV (As := [.int r22]) (rest := []) ⟨hx, hb, hml, hown, hts⟩ (tX9_writesNumber l dC dI dA ad H.size v26) (ccX9_X9_writesNumber hts ⟨Nat.le_of_ble_eq_true rfl, Nat.le_of_ble_eq_true rfl⟩) (gPreV (ci := 9) (q0 := 0) hP hK hD rfl rfl) rfl rfl hl.1 rfl (lv_room (Nat.le_of_ble_eq_true rfl)) dX9_writesDays_55 ⟨Nat.le_of_ble_eq_true rfl, Nat.le_of_ble_eq_true rfl⟩) hD hS hA (fun H locs hP hD hS => ?_)
          cases hf
          exact J10 _ _ _ hP hD hS (lv_sub hl [0, 1, 2, 3, 4, 5, 6] rfl)
        · replace hf := ifn k7 hf
          refine lv_goto (tgt := 58) hx hb dX9_writesDays_25 (by decide) ?_
          cases hf
          exact J10 _ _ _ hP hD hS (lv_sub hl [0, 1, 2, 3, 4, 5, 6] rfl)
  subst hQ
  unfold fX9_writesDays at hf
  refine lv_iload hx hb dX9_writesDays_0 (lv_at hl 4 rfl) ?_
  refine lv_istore (lv' := [(7, .int p4), (0, .ref (ad 0)), (1, .int p1), (2, .int p2), (3, .int p3), (4, .int p4), (5, .int p5), (6, .int p6)]) hx hb dX9_writesDays_2 hl (by decide) rfl (fun ls hl => ?_)
  obtain ⟨c_written_1, c_found_2, v3, hf⟩ := bd2_some hf
  refine LP4 FU _ _ _ _ _ _ _ _ _ _ _ _ _ _ _ _ _ _ _ _ _ _ _ _ _ _ _ _ _ _ _ _ _ _ _ _ _ _ _ _ _ _ _ _ _ _ _ _ _ _ _ _ _ _ _ _ hP hD hS v3 (lv_sub hl [1, 2, 3, 4, 6, 7, 0] rfl) (fun H locs ls hP hD hS hl => ?_)
  cases hf
  exact W.vret hx hb hr (fun t ht _ => gqv hP hD hS ht) hS.2.2 dX9_writesDays_64
theorem ccX9_X9_writesDays {R : Room} {s : State} {args : Array Value} {c0 : Cond} (ht : ∀ w ∈ wq c0, w.before args s = true) (hR : rmX9_writesDays.frames + 1 ≤ R.frames ∧ 8 + (8 + 11) + rmX9_writesDays.locals ≤ R.locals) : CallW R s args RX9 RX9 237 yX9_writesDays cX9_writesDays 8 none (wq (.code yX9_writesDays cX9_writesDays 8 none)) rmX9_writesDays 0 0 6 := gCW 6 ht wcX9_writesDays wmX9_237 wiX9_writesDays weX9_writesDays wnX9 (by decide +kernel) rfl rfl hR
abbrev rmX9_letter : Room := { frames := 3, cells := 0, slots := 0, locals := 70 }
set_option maxHeartbeats 4000000 in
set_option maxRecDepth 100000 in
theorem tX9_letter (l : Launch) (dC : Nat → ClassId) (dI : Nat → Nat → Nat) (dA : Nat → ClassId) (ad : Nat → Nat) (sz : Nat) {p1 : Int32} {p2 : Int32} {c_tape : Nat → Int32} {c_taped : Int32} {c_tree : Nat → Int32} {c_bonds : Nat → Int32} {c_moves : Nat → Int32} {c_handMoves : Nat → Int32} {c_moved : Int32} {c_days : Int32} {c_likely : Int32} {c_outOf : Int32} {c_rateNow : Int32} {c_pence : Nat → Int64} {c_top : Int64} {c_bottom : Int64} {c_spot : Int32} {c_textLong : Int32} {c_fault : Int32} {c_number : Int32} {c_numberAt : Int32} {c_figures : Int32} {c_written : Int32} {c_wanted : Int32} {c_found : Int32} {c_drawnNow : Int32} {c_worth : Nat → Int64} {c_hold : Nat → Int64} {c_way : Nat → Int64} {c_acts : Nat → Int32} {c_sDay : Int32} {c_sUps : Int32} {c_sUp : Int32} {c_sMarks : Int32} {c_paidAll : Int64} {c_isPlayed : Int32} {c_isOn : Int32} {c_handMoved : Int32} {c_handPaid : Int64} {c_regret : Int64} {c_aside : Nat → Int32} {c_other : Nat → Int64} {c_states : Int32} {c_kept : Nat → Int32} {c_keptLong : Nat → Int64} {c_keptAt : Int32} {c_isTaking : Int32} {r : Int32} {o_c_written : Int32} {o_c_wanted : Int32} {o_c_found : Int32} (hf : fX9_letter p1 p2 c_bonds c_written c_wanted c_found = some (r, o_c_written, o_c_wanted, o_c_found)) : Met l yX9_letter (wq (Cond.code yX9_letter cX9_letter 3 (some .int))) rmX9_letter (gP [.ref (ad 0), .int p1, .int p2] (dC, dI) dA (mW dA ad c_tape c_taped c_tree c_bonds c_moves c_handMoves c_moved c_days c_likely c_outOf c_rateNow c_pence c_top c_bottom c_spot c_textLong c_fault c_number c_numberAt c_figures c_written c_wanted c_found c_drawnNow c_worth c_hold c_way c_acts c_sDay c_sUps c_sUp c_sMarks c_paidAll c_isPlayed c_isOn c_handMoved c_handPaid c_regret c_aside c_other c_states c_kept c_keptLong c_keptAt c_isTaking) sz) (gQi (dC, dI) r (mW dA ad c_tape c_taped c_tree c_bonds c_moves c_handMoves c_moved c_days c_likely c_outOf c_rateNow c_pence c_top c_bottom c_spot c_textLong c_fault c_number c_numberAt c_figures o_c_written o_c_wanted o_c_found c_drawnNow c_worth c_hold c_way c_acts c_sDay c_sUps c_sUp c_sMarks c_paidAll c_isPlayed c_isOn c_handMoved c_handPaid c_regret c_aside c_other c_states c_kept c_keptLong c_keptAt c_isTaking) (va_A (mW dA ad c_tape c_taped c_tree c_bonds c_moves c_handMoves c_moved c_days c_likely c_outOf c_rateNow c_pence c_top c_bottom c_spot c_textLong c_fault c_number c_numberAt c_figures c_written c_wanted c_found c_drawnNow c_worth c_hold c_way c_acts c_sDay c_sUps c_sUp c_sMarks c_paidAll c_isPlayed c_isOn c_handMoved c_handPaid c_regret c_aside c_other c_states c_kept c_keptLong c_keptAt c_isTaking) sz)) 0 0 (va_A (mW dA ad c_tape c_taped c_tree c_bonds c_moves c_handMoves c_moved c_days c_likely c_outOf c_rateNow c_pence c_top c_bottom c_spot c_textLong c_fault c_number c_numberAt c_figures c_written c_wanted c_found c_drawnNow c_worth c_hold c_way c_acts c_sDay c_sUps c_sUp c_sMarks c_paidAll c_isPlayed c_isOn c_handMoved c_handPaid c_regret c_aside c_other c_states c_kept c_keptLong c_keptAt c_isTaking) sz) := by
  refine Met.ofW (cc := cX9_letter) (maxL := 3) (ret := (some .int)) (by decide) rfl ?_
  intro p e s m args below meth c s₁ B hml hv
  obtain ⟨rfl, hsz, hP, hK, hD0⟩ := hv
  have hx := B.exec
  have hb := B.bytes
  have hr := B.returns
  have hts := atoms_spec (ws := wq (Cond.code yX9_letter cX9_letter 3 (some .int))) B.pre
  have hown : s.vm.findClass RX9 = some m.cls := findClass_of_methodNamed B.named
  have hlocks := B.notSynchronized
  clear B
  subst hsz
  have hD := hD0.self (sz := s.heap.size)
  generalize hAe : va_A (mW dA ad c_tape c_taped c_tree c_bonds c_moves c_handMoves c_moved c_days c_likely c_outOf c_rateNow c_pence c_top c_bottom c_spot c_textLong c_fault c_number c_numberAt c_figures c_written c_wanted c_found c_drawnNow c_worth c_hold c_way c_acts c_sDay c_sUps c_sUp c_sMarks c_paidAll c_isPlayed c_isOn c_handMoved c_handPaid c_regret c_aside c_other c_states c_kept c_keptLong c_keptAt c_isTaking) s.heap.size = A at hD ⊢
  have hA : ∀ q : Nat, s.heap.size ≤ q → A q := fun q h => by rw [← hAe]; exact Or.inr h
  clear hAe hD0
  have hS : va_S A s.heap s.heap [] := va_S.rf
  have hl := lv_entry ([.ref (ad 0), .int p1, .int p2]) (n := 3) (Nat.le_of_ble_eq_true rfl)
  rw [lg_entry_eq]
  generalize (lg_sl ([.ref (ad 0), .int p1, .int p2]) ++ List.replicate (3 - (lg_sl ([.ref (ad 0), .int p1, .int p2])).length) Slot.unset).toArray = ls at hl ⊢
  have hl : lv_has ls 3 [(0, .ref (ad 0)), (1, .int p1), (2, .int p2)] := hl
  change W p l e rmX9_letter s m ([.ref (ad 0), .int p1, .int p2] : List Value).toArray below meth c s.heap [] 0 0 _ _
  unfold fX9_letter at hf
  refine lv_iload_n hx hb dX9_letter_0 rfl (lv_at hl 1 rfl) ?_
  obtain ⟨r1, v2, hf⟩ := bd1_some hf
  refine gci0 (va_runS (As := [.int p1]) (rest := []) ⟨hx, hb, hml, hown, hts⟩ (tX9_isBond l dC dI dA s.heap.size v2) (ccX9_X9_isBond hts ⟨Nat.le_of_ble_eq_true rfl, Nat.le_of_ble_eq_true rfl⟩) (gPreS0 hK) rfl rfl hl.1 rfl (lv_room (Nat.le_of_ble_eq_true rfl)) dX9_letter_1 ⟨Nat.le_of_ble_eq_true rfl, Nat.le_of_ble_eq_true rfl⟩) hP hS hA (fun H locs hP hS => ?_)
  refine lv_if_eq (tgt := 12) hx hb dX9_letter_4 (by decide) (fun k3 => ?_) (fun k3 => ?_)
  · replace hf := ifp k3 hf
    refine lv_iconst (v := (-1)) hx hb dX9_letter_12 (by decide) ?_
    cases hf
    exact W.iret hx hb hr (fun t ht _ => gqi hP hD hS ht) hS.2.2 dX9_letter_13
  · replace hf := ifn k3 hf
    refine lv_iload_n hx hb dX9_letter_7 rfl (lv_at hl 2 rfl) ?_
    refine lv_iconst (v := (-1)) hx hb dX9_letter_8 (by decide) ?_
    refine lv_icmp_ge (tgt := 14) hx hb dX9_letter_9 (by decide) (fun k4 => ?_) (fun k4 => ?_)
    · replace hf := ifp k4 hf
      refine lv_aload_n hx hb dX9_letter_14 rfl (lv_at hl 0 rfl) ?_
      refine lv_iconst (v := 0) hx hb dX9_letter_15 (by decide) ?_
      refine va_put (D := (dC, dI)) (ci := 9) (v := .int 0) (ty := .int) (C := RX9) (T := TX9) (N := 45) hx hb hts (fun w h => gw_mem (inX9 w h)) tyX9 tyX9_ok nmX9 hown hK.1 hP hD hS 0 rfl rfl 20 (by decide) (hts _ (gw_mem wfX9_222)) (fun _ h9 => h9) rfl (by decide +kernel) rfl rfl (Nat.le_of_ble_eq_true rfl) dX9_letter_16 (fun H locs hP hD hS => ?_)
      have hP : va_P (dC, dI) vwCl (mW dA ad c_tape c_taped c_tree c_bonds c_moves c_handMoves c_moved c_days c_likely c_outOf c_rateNow c_pence c_top c_bottom c_spot c_textLong c_fault c_number c_numberAt c_figures 0 c_wanted c_found c_drawnNow c_worth c_hold c_way c_acts c_sDay c_sUps c_sUp c_sMarks c_paidAll c_isPlayed c_isOn c_handMoved c_handPaid c_regret c_aside c_other c_states c_kept c_keptLong c_keptAt c_isTaking) H := hP
      have hD : va_D A (mW dA ad c_tape c_taped c_tree c_bonds c_moves c_handMoves c_moved c_days c_likely c_outOf c_rateNow c_pence c_top c_bottom c_spot c_textLong c_fault c_number c_numberAt c_figures 0 c_wanted c_found c_drawnNow c_worth c_hold c_way c_acts c_sDay c_sUps c_sUp c_sMarks c_paidAll c_isPlayed c_isOn c_handMoved c_handPaid c_regret c_aside c_other c_states c_kept c_keptLong c_keptAt c_isTaking) := hD
      refine lv_aload_n hx hb dX9_letter_19 rfl (lv_at hl 0 rfl) ?_
      refine lv_iload_n hx hb dX9_letter_20 rfl (lv_at hl 2 rfl) ?_
      refine va_put (D := (dC, dI)) (ci := 9) (v := .int p2) (ty := .int) (C := RX9) (T := TX9) (N := 45) hx hb hts (fun w h => gw_mem (inX9 w h)) tyX9 tyX9_ok nmX9 hown hK.1 hP hD hS 0 rfl rfl 21 (by decide) (hts _ (gw_mem wfX9_225)) (fun _ h9 => h9) rfl (by decide +kernel) rfl rfl (Nat.le_of_ble_eq_true rfl) dX9_letter_21 (fun H locs hP hD hS => ?_)
      have hP : va_P (dC, dI) vwCl (mW dA ad c_tape c_taped c_tree c_bonds c_moves c_handMoves c_moved c_days c_likely c_outOf c_rateNow c_pence c_top c_bottom c_spot c_textLong c_fault c_number c_numberAt c_figures 0 p2 c_found c_drawnNow c_worth c_hold c_way c_acts c_sDay c_sUps c_sUp c_sMarks c_paidAll c_isPlayed c_isOn c_handMoved c_handPaid c_regret c_aside c_other c_states c_kept c_keptLong c_keptAt c_isTaking) H := hP
      have hD : va_D A (mW dA ad c_tape c_taped c_tree c_bonds c_moves c_handMoves c_moved c_days c_likely c_outOf c_rateNow c_pence c_top c_bottom c_spot c_textLong c_fault c_number c_numberAt c_figures 0 p2 c_found c_drawnNow c_worth c_hold c_way c_acts c_sDay c_sUps c_sUp c_sMarks c_paidAll c_isPlayed c_isOn c_handMoved c_handPaid c_regret c_aside c_other c_states c_kept c_keptLong c_keptAt c_isTaking) := hD
      refine lv_aload_n hx hb dX9_letter_24 rfl (lv_at hl 0 rfl) ?_
      refine lv_bipush (v := 102) hx hb dX9_letter_25 (by decide) ?_
      obtain ⟨c_written_5, c_found_6, v7, hf⟩ := bd2_some hf
      refine gcv (va_runV (As := [.int 102]) (rest := []) ⟨hx, hb, hml, hown, hts⟩ (tX9_writes l dC dI dA ad H.size v7) (ccX9_X9_writes hts ⟨Nat.le_of_ble_eq_true rfl, Nat.le_of_ble_eq_true rfl⟩) (gPreV (ci := 9) (q0 := 0) hP hK hD rfl rfl) rfl rfl hl.1 rfl (lv_room (Nat.le_of_ble_eq_true rfl)) dX9_letter_27 ⟨Nat.le_of_ble_eq_true rfl, Nat.le_of_ble_eq_true rfl⟩) hD hS hA (fun H locs hP hD hS => ?_)
      refine lv_aload_n hx hb dX9_letter_30 rfl (lv_at hl 0 rfl) ?_
      refine lv_aload_n hx hb dX9_letter_31 rfl (lv_at hl 0 rfl) ?_
      refine lv_iload_n hx hb dX9_letter_32 rfl (lv_at hl 1 rfl) ?_
      refine lv_iconst (v := 0) hx hb dX9_letter_33 (by decide) ?_
      obtain ⟨r8, v9, hf⟩ := bd1_some hf
      refine gci (va_runV (As := [.int p1, .int 0]) (rest := [.ref (ad 0)]) ⟨hx, hb, hml, hown, hts⟩ (tX9_of l dC dI dA ad H.size v9) (ccX9_X9_of hts ⟨Nat.le_of_ble_eq_true rfl, Nat.le_of_ble_eq_true rfl⟩) (gPreV (ci := 9) (q0 := 0) hP hK hD rfl rfl) rfl rfl hl.1 rfl (lv_room (Nat.le_of_ble_eq_true rfl)) dX9_letter_34 ⟨Nat.le_of_ble_eq_true rfl, Nat.le_of_ble_eq_true rfl⟩) hD hS hA (fun H locs hP hD hS => ?_)
      obtain ⟨c_written_10, c_found_11, v12, hf⟩ := bd2_some hf
      refine gcv (va_runV (As := [.int r8]) (rest := []) ⟨hx, hb, hml, hown, hts⟩ (tX9_writesNumber l dC dI dA ad H.size v12) (ccX9_X9_writesNumber hts ⟨Nat.le_of_ble_eq_true rfl, Nat.le_of_ble_eq_true rfl⟩) (gPreV (ci := 9) (q0 := 0) hP hK hD rfl rfl) rfl rfl hl.1 rfl (lv_room (Nat.le_of_ble_eq_true rfl)) dX9_letter_37 ⟨Nat.le_of_ble_eq_true rfl, Nat.le_of_ble_eq_true rfl⟩) hD hS hA (fun H locs hP hD hS => ?_)
      refine lv_aload_n hx hb dX9_letter_40 rfl (lv_at hl 0 rfl) ?_
      refine lv_bipush (v := 110) hx hb dX9_letter_41 (by decide) ?_
      obtain ⟨c_written_13, c_found_14, v15, hf⟩ := bd2_some hf
      refine gcv (va_runV (As := [.int 110]) (rest := []) ⟨hx, hb, hml, hown, hts⟩ (tX9_writes l dC dI dA ad H.size v15) (ccX9_X9_writes hts ⟨Nat.le_of_ble_eq_true rfl, Nat.le_of_ble_eq_true rfl⟩) (gPreV (ci := 9) (q0 := 0) hP hK hD rfl rfl) rfl rfl hl.1 rfl (lv_room (Nat.le_of_ble_eq_true rfl)) dX9_letter_43 ⟨Nat.le_of_ble_eq_true rfl, Nat.le_of_ble_eq_true rfl⟩) hD hS hA (fun H locs hP hD hS => ?_)
      refine lv_aload_n hx hb dX9_letter_46 rfl (lv_at hl 0 rfl) ?_
      refine lv_aload_n hx hb dX9_letter_47 rfl (lv_at hl 0 rfl) ?_
      refine lv_iload_n hx hb dX9_letter_48 rfl (lv_at hl 1 rfl) ?_
      refine lv_iconst (v := 1) hx hb dX9_letter_49 (by decide) ?_
      obtain ⟨r16, v17, hf⟩ := bd1_some hf
      refine gci (va_runV (As := [.int p1, .int 1]) (rest := [.ref (ad 0)]) ⟨hx, hb, hml, hown, hts⟩ (tX9_of l dC dI dA ad H.size v17) (ccX9_X9_of hts ⟨Nat.le_of_ble_eq_true rfl, Nat.le_of_ble_eq_true rfl⟩) (gPreV (ci := 9) (q0 := 0) hP hK hD rfl rfl) rfl rfl hl.1 rfl (lv_room (Nat.le_of_ble_eq_true rfl)) dX9_letter_50 ⟨Nat.le_of_ble_eq_true rfl, Nat.le_of_ble_eq_true rfl⟩) hD hS hA (fun H locs hP hD hS => ?_)
      obtain ⟨c_written_18, c_found_19, v20, hf⟩ := bd2_some hf
      refine gcv (va_runV (As := [.int r16]) (rest := []) ⟨hx, hb, hml, hown, hts⟩ (tX9_writesNumber l dC dI dA ad H.size v20) (ccX9_X9_writesNumber hts ⟨Nat.le_of_ble_eq_true rfl, Nat.le_of_ble_eq_true rfl⟩) (gPreV (ci := 9) (q0 := 0) hP hK hD rfl rfl) rfl rfl hl.1 rfl (lv_room (Nat.le_of_ble_eq_true rfl)) dX9_letter_53 ⟨Nat.le_of_ble_eq_true rfl, Nat.le_of_ble_eq_true rfl⟩) hD hS hA (fun H locs hP hD hS => ?_)
      refine lv_aload_n hx hb dX9_letter_56 rfl (lv_at hl 0 rfl) ?_
      refine lv_bipush (v := 99) hx hb dX9_letter_57 (by decide) ?_
      refine lv_iload_n hx hb dX9_letter_59 rfl (lv_at hl 1 rfl) ?_
      refine lv_iconst (v := 2) hx hb dX9_letter_60 (by decide) ?_
      refine lv_iconst (v := 1) hx hb dX9_letter_61 (by decide) ?_
      refine lv_bipush (v := 6) hx hb dX9_letter_62 (by decide) ?_
      refine lv_iconst (v := 1) hx hb dX9_letter_64 (by decide) ?_
      obtain ⟨c_written_21, c_found_22, v23, hf⟩ := bd2_some hf
      refine gcv (va_runV (As := [.int 99, .int p1, .int 2, .int 1, .int 6, .int 1]) (rest := []) ⟨hx, hb, hml, hown, hts⟩ (tX9_writesDays l dC dI dA ad H.size v23) (ccX9_X9_writesDays hts ⟨Nat.le_of_ble_eq_true rfl, Nat.le_of_ble_eq_true rfl⟩) (gPreV (ci := 9) (q0 := 0) hP hK hD rfl rfl) rfl rfl hl.1 rfl (lv_room (Nat.le_of_ble_eq_true rfl)) dX9_letter_65 ⟨Nat.le_of_ble_eq_true rfl, Nat.le_of_ble_eq_true rfl⟩) hD hS hA (fun H locs hP hD hS => ?_)
      refine lv_aload_n hx hb dX9_letter_68 rfl (lv_at hl 0 rfl) ?_
      refine lv_bipush (v := 107) hx hb dX9_letter_69 (by decide) ?_
      refine lv_iload_n hx hb dX9_letter_71 rfl (lv_at hl 1 rfl) ?_
      refine lv_bipush (v := 9) hx hb dX9_letter_72 (by decide) ?_
      refine lv_iconst (v := 0) hx hb dX9_letter_74 (by decide) ?_
      refine lv_iconst (v := 5) hx hb dX9_letter_75 (by decide) ?_
      refine lv_iconst (v := 0) hx hb dX9_letter_76 (by decide) ?_
      obtain ⟨c_written_24, c_found_25, v26, hf⟩ := bd2_some hf
      refine gcv (va_runV (As := [.int 107, .int p1, .int 9, .int 0, .int 5, .int 0]) (rest := []) ⟨hx, hb, hml, hown, hts⟩ (tX9_writesDays l dC dI dA ad H.size v26) (ccX9_X9_writesDays hts ⟨Nat.le_of_ble_eq_true rfl, Nat.le_of_ble_eq_true rfl⟩) (gPreV (ci := 9) (q0 := 0) hP hK hD rfl rfl) rfl rfl hl.1 rfl (lv_room (Nat.le_of_ble_eq_true rfl)) dX9_letter_77 ⟨Nat.le_of_ble_eq_true rfl, Nat.le_of_ble_eq_true rfl⟩) hD hS hA (fun H locs hP hD hS => ?_)
      refine lv_aload_n hx hb dX9_letter_80 rfl (lv_at hl 0 rfl) ?_
      refine lv_bipush (v := 112) hx hb dX9_letter_81 (by decide) ?_
      refine lv_iload_n hx hb dX9_letter_83 rfl (lv_at hl 1 rfl) ?_
      refine lv_bipush (v := 15) hx hb dX9_letter_84 (by decide) ?_
      refine lv_iconst (v := 0) hx hb dX9_letter_86 (by decide) ?_
      refine lv_iconst (v := 5) hx hb dX9_letter_87 (by decide) ?_
      refine lv_iconst (v := 0) hx hb dX9_letter_88 (by decide) ?_
      obtain ⟨c_written_27, c_found_28, v29, hf⟩ := bd2_some hf
      refine gcv (va_runV (As := [.int 112, .int p1, .int 15, .int 0, .int 5, .int 0]) (rest := []) ⟨hx, hb, hml, hown, hts⟩ (tX9_writesDays l dC dI dA ad H.size v29) (ccX9_X9_writesDays hts ⟨Nat.le_of_ble_eq_true rfl, Nat.le_of_ble_eq_true rfl⟩) (gPreV (ci := 9) (q0 := 0) hP hK hD rfl rfl) rfl rfl hl.1 rfl (lv_room (Nat.le_of_ble_eq_true rfl)) dX9_letter_89 ⟨Nat.le_of_ble_eq_true rfl, Nat.le_of_ble_eq_true rfl⟩) hD hS hA (fun H locs hP hD hS => ?_)
      refine lv_aload_n hx hb dX9_letter_92 rfl (lv_at hl 0 rfl) ?_
      refine lv_bipush (v := 119) hx hb dX9_letter_93 (by decide) ?_
      obtain ⟨c_written_30, c_found_31, v32, hf⟩ := bd2_some hf
      refine gcv (va_runV (As := [.int 119]) (rest := []) ⟨hx, hb, hml, hown, hts⟩ (tX9_writes l dC dI dA ad H.size v32) (ccX9_X9_writes hts ⟨Nat.le_of_ble_eq_true rfl, Nat.le_of_ble_eq_true rfl⟩) (gPreV (ci := 9) (q0 := 0) hP hK hD rfl rfl) rfl rfl hl.1 rfl (lv_room (Nat.le_of_ble_eq_true rfl)) dX9_letter_95 ⟨Nat.le_of_ble_eq_true rfl, Nat.le_of_ble_eq_true rfl⟩) hD hS hA (fun H locs hP hD hS => ?_)
      refine lv_aload_n hx hb dX9_letter_98 rfl (lv_at hl 0 rfl) ?_
      refine lv_aload_n hx hb dX9_letter_99 rfl (lv_at hl 0 rfl) ?_
      refine lv_iload_n hx hb dX9_letter_100 rfl (lv_at hl 1 rfl) ?_
      refine lv_bipush (v := 21) hx hb dX9_letter_101 (by decide) ?_
      obtain ⟨r33, v34, hf⟩ := bd1_some hf
      refine gci (va_runV (As := [.int p1, .int 21]) (rest := [.ref (ad 0)]) ⟨hx, hb, hml, hown, hts⟩ (tX9_of l dC dI dA ad H.size v34) (ccX9_X9_of hts ⟨Nat.le_of_ble_eq_true rfl, Nat.le_of_ble_eq_true rfl⟩) (gPreV (ci := 9) (q0 := 0) hP hK hD rfl rfl) rfl rfl hl.1 rfl (lv_room (Nat.le_of_ble_eq_true rfl)) dX9_letter_103 ⟨Nat.le_of_ble_eq_true rfl, Nat.le_of_ble_eq_true rfl⟩) hD hS hA (fun H locs hP hD hS => ?_)
      obtain ⟨c_written_35, c_found_36, v37, hf⟩ := bd2_some hf
      refine gcv (va_runV (As := [.int r33]) (rest := []) ⟨hx, hb, hml, hown, hts⟩ (tX9_writesNumber l dC dI dA ad H.size v37) (ccX9_X9_writesNumber hts ⟨Nat.le_of_ble_eq_true rfl, Nat.le_of_ble_eq_true rfl⟩) (gPreV (ci := 9) (q0 := 0) hP hK hD rfl rfl) rfl rfl hl.1 rfl (lv_room (Nat.le_of_ble_eq_true rfl)) dX9_letter_106 ⟨Nat.le_of_ble_eq_true rfl, Nat.le_of_ble_eq_true rfl⟩) hD hS hA (fun H locs hP hD hS => ?_)
      refine lv_aload_n hx hb dX9_letter_109 rfl (lv_at hl 0 rfl) ?_
      refine lv_bipush (v := 45) hx hb dX9_letter_110 (by decide) ?_
      obtain ⟨c_written_38, c_found_39, v40, hf⟩ := bd2_some hf
      refine gcv (va_runV (As := [.int 45]) (rest := []) ⟨hx, hb, hml, hown, hts⟩ (tX9_writes l dC dI dA ad H.size v40) (ccX9_X9_writes hts ⟨Nat.le_of_ble_eq_true rfl, Nat.le_of_ble_eq_true rfl⟩) (gPreV (ci := 9) (q0 := 0) hP hK hD rfl rfl) rfl rfl hl.1 rfl (lv_room (Nat.le_of_ble_eq_true rfl)) dX9_letter_112 ⟨Nat.le_of_ble_eq_true rfl, Nat.le_of_ble_eq_true rfl⟩) hD hS hA (fun H locs hP hD hS => ?_)
      refine lv_aload_n hx hb dX9_letter_115 rfl (lv_at hl 0 rfl) ?_
      refine lv_aload_n hx hb dX9_letter_116 rfl (lv_at hl 0 rfl) ?_
      refine lv_iload_n hx hb dX9_letter_117 rfl (lv_at hl 1 rfl) ?_
      refine lv_bipush (v := 22) hx hb dX9_letter_118 (by decide) ?_
      obtain ⟨r41, v42, hf⟩ := bd1_some hf
      refine gci (va_runV (As := [.int p1, .int 22]) (rest := [.ref (ad 0)]) ⟨hx, hb, hml, hown, hts⟩ (tX9_of l dC dI dA ad H.size v42) (ccX9_X9_of hts ⟨Nat.le_of_ble_eq_true rfl, Nat.le_of_ble_eq_true rfl⟩) (gPreV (ci := 9) (q0 := 0) hP hK hD rfl rfl) rfl rfl hl.1 rfl (lv_room (Nat.le_of_ble_eq_true rfl)) dX9_letter_120 ⟨Nat.le_of_ble_eq_true rfl, Nat.le_of_ble_eq_true rfl⟩) hD hS hA (fun H locs hP hD hS => ?_)
      obtain ⟨c_written_43, c_found_44, v45, hf⟩ := bd2_some hf
      refine gcv (va_runV (As := [.int r41]) (rest := []) ⟨hx, hb, hml, hown, hts⟩ (tX9_writesNumber l dC dI dA ad H.size v45) (ccX9_X9_writesNumber hts ⟨Nat.le_of_ble_eq_true rfl, Nat.le_of_ble_eq_true rfl⟩) (gPreV (ci := 9) (q0 := 0) hP hK hD rfl rfl) rfl rfl hl.1 rfl (lv_room (Nat.le_of_ble_eq_true rfl)) dX9_letter_123 ⟨Nat.le_of_ble_eq_true rfl, Nat.le_of_ble_eq_true rfl⟩) hD hS hA (fun H locs hP hD hS => ?_)
      refine lv_aload_n hx hb dX9_letter_126 rfl (lv_at hl 0 rfl) ?_
      refine lv_bipush (v := 115) hx hb dX9_letter_127 (by decide) ?_
      obtain ⟨c_written_46, c_found_47, v48, hf⟩ := bd2_some hf
      refine gcv (va_runV (As := [.int 115]) (rest := []) ⟨hx, hb, hml, hown, hts⟩ (tX9_writes l dC dI dA ad H.size v48) (ccX9_X9_writes hts ⟨Nat.le_of_ble_eq_true rfl, Nat.le_of_ble_eq_true rfl⟩) (gPreV (ci := 9) (q0 := 0) hP hK hD rfl rfl) rfl rfl hl.1 rfl (lv_room (Nat.le_of_ble_eq_true rfl)) dX9_letter_129 ⟨Nat.le_of_ble_eq_true rfl, Nat.le_of_ble_eq_true rfl⟩) hD hS hA (fun H locs hP hD hS => ?_)
      refine lv_aload_n hx hb dX9_letter_132 rfl (lv_at hl 0 rfl) ?_
      refine lv_aload_n hx hb dX9_letter_133 rfl (lv_at hl 0 rfl) ?_
      refine lv_iload_n hx hb dX9_letter_134 rfl (lv_at hl 1 rfl) ?_
      refine lv_bipush (v := 23) hx hb dX9_letter_135 (by decide) ?_
      obtain ⟨r49, v50, hf⟩ := bd1_some hf
      refine gci (va_runV (As := [.int p1, .int 23]) (rest := [.ref (ad 0)]) ⟨hx, hb, hml, hown, hts⟩ (tX9_of l dC dI dA ad H.size v50) (ccX9_X9_of hts ⟨Nat.le_of_ble_eq_true rfl, Nat.le_of_ble_eq_true rfl⟩) (gPreV (ci := 9) (q0 := 0) hP hK hD rfl rfl) rfl rfl hl.1 rfl (lv_room (Nat.le_of_ble_eq_true rfl)) dX9_letter_137 ⟨Nat.le_of_ble_eq_true rfl, Nat.le_of_ble_eq_true rfl⟩) hD hS hA (fun H locs hP hD hS => ?_)
      obtain ⟨c_written_51, c_found_52, v53, hf⟩ := bd2_some hf
      refine gcv (va_runV (As := [.int r49]) (rest := []) ⟨hx, hb, hml, hown, hts⟩ (tX9_writesNumber l dC dI dA ad H.size v53) (ccX9_X9_writesNumber hts ⟨Nat.le_of_ble_eq_true rfl, Nat.le_of_ble_eq_true rfl⟩) (gPreV (ci := 9) (q0 := 0) hP hK hD rfl rfl) rfl rfl hl.1 rfl (lv_room (Nat.le_of_ble_eq_true rfl)) dX9_letter_140 ⟨Nat.le_of_ble_eq_true rfl, Nat.le_of_ble_eq_true rfl⟩) hD hS hA (fun H locs hP hD hS => ?_)
      refine lv_aload_n hx hb dX9_letter_143 rfl (lv_at hl 0 rfl) ?_
      refine lv_bipush (v := 47) hx hb dX9_letter_144 (by decide) ?_
      obtain ⟨c_written_54, c_found_55, v56, hf⟩ := bd2_some hf
      refine gcv (va_runV (As := [.int 47]) (rest := []) ⟨hx, hb, hml, hown, hts⟩ (tX9_writes l dC dI dA ad H.size v56) (ccX9_X9_writes hts ⟨Nat.le_of_ble_eq_true rfl, Nat.le_of_ble_eq_true rfl⟩) (gPreV (ci := 9) (q0 := 0) hP hK hD rfl rfl) rfl rfl hl.1 rfl (lv_room (Nat.le_of_ble_eq_true rfl)) dX9_letter_146 ⟨Nat.le_of_ble_eq_true rfl, Nat.le_of_ble_eq_true rfl⟩) hD hS hA (fun H locs hP hD hS => ?_)
      refine lv_aload_n hx hb dX9_letter_149 rfl (lv_at hl 0 rfl) ?_
      refine lv_aload_n hx hb dX9_letter_150 rfl (lv_at hl 0 rfl) ?_
      refine lv_iload_n hx hb dX9_letter_151 rfl (lv_at hl 1 rfl) ?_
      refine lv_bipush (v := 24) hx hb dX9_letter_152 (by decide) ?_
      obtain ⟨r57, v58, hf⟩ := bd1_some hf
      refine gci (va_runV (As := [.int p1, .int 24]) (rest := [.ref (ad 0)]) ⟨hx, hb, hml, hown, hts⟩ (tX9_of l dC dI dA ad H.size v58) (ccX9_X9_of hts ⟨Nat.le_of_ble_eq_true rfl, Nat.le_of_ble_eq_true rfl⟩) (gPreV (ci := 9) (q0 := 0) hP hK hD rfl rfl) rfl rfl hl.1 rfl (lv_room (Nat.le_of_ble_eq_true rfl)) dX9_letter_154 ⟨Nat.le_of_ble_eq_true rfl, Nat.le_of_ble_eq_true rfl⟩) hD hS hA (fun H locs hP hD hS => ?_)
      obtain ⟨c_written_59, c_found_60, v61, hf⟩ := bd2_some hf
      refine gcv (va_runV (As := [.int r57]) (rest := []) ⟨hx, hb, hml, hown, hts⟩ (tX9_writesNumber l dC dI dA ad H.size v61) (ccX9_X9_writesNumber hts ⟨Nat.le_of_ble_eq_true rfl, Nat.le_of_ble_eq_true rfl⟩) (gPreV (ci := 9) (q0 := 0) hP hK hD rfl rfl) rfl rfl hl.1 rfl (lv_room (Nat.le_of_ble_eq_true rfl)) dX9_letter_157 ⟨Nat.le_of_ble_eq_true rfl, Nat.le_of_ble_eq_true rfl⟩) hD hS hA (fun H locs hP hD hS => ?_)
      refine lv_aload_n hx hb dX9_letter_160 rfl (lv_at hl 0 rfl) ?_
      refine lv_bipush (v := 47) hx hb dX9_letter_161 (by decide) ?_
      obtain ⟨c_written_62, c_found_63, v64, hf⟩ := bd2_some hf
      refine gcv (va_runV (As := [.int 47]) (rest := []) ⟨hx, hb, hml, hown, hts⟩ (tX9_writes l dC dI dA ad H.size v64) (ccX9_X9_writes hts ⟨Nat.le_of_ble_eq_true rfl, Nat.le_of_ble_eq_true rfl⟩) (gPreV (ci := 9) (q0 := 0) hP hK hD rfl rfl) rfl rfl hl.1 rfl (lv_room (Nat.le_of_ble_eq_true rfl)) dX9_letter_163 ⟨Nat.le_of_ble_eq_true rfl, Nat.le_of_ble_eq_true rfl⟩) hD hS hA (fun H locs hP hD hS => ?_)
      refine lv_aload_n hx hb dX9_letter_166 rfl (lv_at hl 0 rfl) ?_
      refine lv_aload_n hx hb dX9_letter_167 rfl (lv_at hl 0 rfl) ?_
      refine lv_iload_n hx hb dX9_letter_168 rfl (lv_at hl 1 rfl) ?_
      refine lv_bipush (v := 25) hx hb dX9_letter_169 (by decide) ?_
      obtain ⟨r65, v66, hf⟩ := bd1_some hf
      refine gci (va_runV (As := [.int p1, .int 25]) (rest := [.ref (ad 0)]) ⟨hx, hb, hml, hown, hts⟩ (tX9_of l dC dI dA ad H.size v66) (ccX9_X9_of hts ⟨Nat.le_of_ble_eq_true rfl, Nat.le_of_ble_eq_true rfl⟩) (gPreV (ci := 9) (q0 := 0) hP hK hD rfl rfl) rfl rfl hl.1 rfl (lv_room (Nat.le_of_ble_eq_true rfl)) dX9_letter_171 ⟨Nat.le_of_ble_eq_true rfl, Nat.le_of_ble_eq_true rfl⟩) hD hS hA (fun H locs hP hD hS => ?_)
      obtain ⟨c_written_67, c_found_68, v69, hf⟩ := bd2_some hf
      refine gcv (va_runV (As := [.int r65]) (rest := []) ⟨hx, hb, hml, hown, hts⟩ (tX9_writesNumber l dC dI dA ad H.size v69) (ccX9_X9_writesNumber hts ⟨Nat.le_of_ble_eq_true rfl, Nat.le_of_ble_eq_true rfl⟩) (gPreV (ci := 9) (q0 := 0) hP hK hD rfl rfl) rfl rfl hl.1 rfl (lv_room (Nat.le_of_ble_eq_true rfl)) dX9_letter_174 ⟨Nat.le_of_ble_eq_true rfl, Nat.le_of_ble_eq_true rfl⟩) hD hS hA (fun H locs hP hD hS => ?_)
      refine lv_aload_n hx hb dX9_letter_177 rfl (lv_at hl 0 rfl) ?_
      refine lv_bipush (v := 122) hx hb dX9_letter_178 (by decide) ?_
      obtain ⟨c_written_70, c_found_71, v72, hf⟩ := bd2_some hf
      refine gcv (va_runV (As := [.int 122]) (rest := []) ⟨hx, hb, hml, hown, hts⟩ (tX9_writes l dC dI dA ad H.size v72) (ccX9_X9_writes hts ⟨Nat.le_of_ble_eq_true rfl, Nat.le_of_ble_eq_true rfl⟩) (gPreV (ci := 9) (q0 := 0) hP hK hD rfl rfl) rfl rfl hl.1 rfl (lv_room (Nat.le_of_ble_eq_true rfl)) dX9_letter_180 ⟨Nat.le_of_ble_eq_true rfl, Nat.le_of_ble_eq_true rfl⟩) hD hS hA (fun H locs hP hD hS => ?_)
      refine lv_aload_n hx hb dX9_letter_183 rfl (lv_at hl 0 rfl) ?_
      refine lv_aload_n hx hb dX9_letter_184 rfl (lv_at hl 0 rfl) ?_
      refine lv_iload_n hx hb dX9_letter_185 rfl (lv_at hl 1 rfl) ?_
      refine lv_bipush (v := 26) hx hb dX9_letter_186 (by decide) ?_
      obtain ⟨r73, v74, hf⟩ := bd1_some hf
      refine gci (va_runV (As := [.int p1, .int 26]) (rest := [.ref (ad 0)]) ⟨hx, hb, hml, hown, hts⟩ (tX9_of l dC dI dA ad H.size v74) (ccX9_X9_of hts ⟨Nat.le_of_ble_eq_true rfl, Nat.le_of_ble_eq_true rfl⟩) (gPreV (ci := 9) (q0 := 0) hP hK hD rfl rfl) rfl rfl hl.1 rfl (lv_room (Nat.le_of_ble_eq_true rfl)) dX9_letter_188 ⟨Nat.le_of_ble_eq_true rfl, Nat.le_of_ble_eq_true rfl⟩) hD hS hA (fun H locs hP hD hS => ?_)
      obtain ⟨c_written_75, c_found_76, v77, hf⟩ := bd2_some hf
      refine gcv (va_runV (As := [.int r73]) (rest := []) ⟨hx, hb, hml, hown, hts⟩ (tX9_writesNumber l dC dI dA ad H.size v77) (ccX9_X9_writesNumber hts ⟨Nat.le_of_ble_eq_true rfl, Nat.le_of_ble_eq_true rfl⟩) (gPreV (ci := 9) (q0 := 0) hP hK hD rfl rfl) rfl rfl hl.1 rfl (lv_room (Nat.le_of_ble_eq_true rfl)) dX9_letter_191 ⟨Nat.le_of_ble_eq_true rfl, Nat.le_of_ble_eq_true rfl⟩) hD hS hA (fun H locs hP hD hS => ?_)
      refine lv_iload_n hx hb dX9_letter_194 rfl (lv_at hl 2 rfl) ?_
      refine lv_iconst (v := (-1)) hx hb dX9_letter_195 (by decide) ?_
      obtain ⟨j79, v81, hf⟩ := bd1_some hf
      have J80 : ∀ (H : Heap) (locs : List Loc) (ls : Array Slot), va_P (dC, dI) vwCl (mW dA ad c_tape c_taped c_tree c_bonds c_moves c_handMoves c_moved c_days c_likely c_outOf c_rateNow c_pence c_top c_bottom c_spot c_textLong c_fault c_number c_numberAt c_figures c_written_75 p2 c_found_76 c_drawnNow c_worth c_hold c_way c_acts c_sDay c_sUps c_sUp c_sMarks c_paidAll c_isPlayed c_isOn c_handMoved c_handPaid c_regret c_aside c_other c_states c_kept c_keptLong c_keptAt c_isTaking) H → va_D A (mW dA ad c_tape c_taped c_tree c_bonds c_moves c_handMoves c_moved c_days c_likely c_outOf c_rateNow c_pence c_top c_bottom c_spot c_textLong c_fault c_number c_numberAt c_figures c_written_75 p2 c_found_76 c_drawnNow c_worth c_hold c_way c_acts c_sDay c_sUps c_sUp c_sMarks c_paidAll c_isPlayed c_isOn c_handMoved c_handPaid c_regret c_aside c_other c_states c_kept c_keptLong c_keptAt c_isTaking) → va_S A s.heap H locs → lv_has ls 3 [] → W p l e rmX9_letter s m ([.ref (ad 0), .int p1, .int p2] : List Value).toArray below meth c H locs 0 0 (MQ below (gQi (dC, dI) r (mW dA ad c_tape c_taped c_tree c_bonds c_moves c_handMoves c_moved c_days c_likely c_outOf c_rateNow c_pence c_top c_bottom c_spot c_textLong c_fault c_number c_numberAt c_figures o_c_written o_c_wanted o_c_found c_drawnNow c_worth c_hold c_way c_acts c_sDay c_sUps c_sUp c_sMarks c_paidAll c_isPlayed c_isOn c_handMoved c_handPaid c_regret c_aside c_other c_states c_kept c_keptLong c_keptAt c_isTaking) A) ([.ref (ad 0), .int p1, .int p2] : List Value).toArray s 0 0 A) (F0 m 223 ls [.int j79]) := by
        intro H locs ls hP hD hS hl
        cases hf
        exact W.iret hx hb hr (fun t ht _ => gqi hP hD hS ht) hS.2.2 dX9_letter_223
      replace hf := v81
      clear v81
      refine lv_icmp_ne (tgt := 206) hx hb dX9_letter_196 (by decide) (fun k78 => ?_) (fun k78 => ?_)
      · replace hf := ifn k78 hf
        refine lv_iload_n hx hb dX9_letter_206 rfl (lv_at hl 2 rfl) ?_
        refine lv_aload_n hx hb dX9_letter_207 rfl (lv_at hl 0 rfl) ?_
        refine va_get (D := (dC, dI)) (ci := 9) (v := .int c_written_75) (C := RX9) (T := TX9) (N := 45) hx hb hts (fun w h => gw_mem (inX9 w h)) hown hK.1 hP 0 rfl rfl 20 (by decide) (hts _ (gw_mem wfX9_222)) (fun _ h9 => h9) rfl dX9_letter_208 ?_
        refine lv_icmp_ge (tgt := 221) hx hb dX9_letter_211 (by decide) (fun k82 => ?_) (fun k82 => ?_)
        · replace hf := ifp k82 hf
          refine lv_bipush (v := (-2)) hx hb dX9_letter_221 (by decide) ?_
          cases hf
          exact J80 _ _ _ hP hD hS (lv_sub hl [] rfl)
        · replace hf := ifn k82 hf
          refine lv_aload_n hx hb dX9_letter_214 rfl (lv_at hl 0 rfl) ?_
          refine va_get (D := (dC, dI)) (ci := 9) (v := .int c_found_76) (C := RX9) (T := TX9) (N := 45) hx hb hts (fun w h => gw_mem (inX9 w h)) hown hK.1 hP 0 rfl rfl 22 (by decide) (hts _ (gw_mem wfX9_228)) (fun _ h9 => h9) rfl dX9_letter_215 ?_
          refine lv_goto (tgt := 223) hx hb dX9_letter_218 (by decide) ?_
          cases hf
          exact J80 _ _ _ hP hD hS (lv_sub hl [] rfl)
      · replace hf := ifp k78 hf
        refine lv_aload_n hx hb dX9_letter_199 rfl (lv_at hl 0 rfl) ?_
        refine va_get (D := (dC, dI)) (ci := 9) (v := .int c_written_75) (C := RX9) (T := TX9) (N := 45) hx hb hts (fun w h => gw_mem (inX9 w h)) hown hK.1 hP 0 rfl rfl 20 (by decide) (hts _ (gw_mem wfX9_222)) (fun _ h9 => h9) rfl dX9_letter_200 ?_
        refine lv_goto (tgt := 223) hx hb dX9_letter_203 (by decide) ?_
        cases hf
        exact J80 _ _ _ hP hD hS (lv_sub hl [] rfl)
    · replace hf := ifn k4 hf
      refine lv_iconst (v := (-1)) hx hb dX9_letter_12 (by decide) ?_
      cases hf
      exact W.iret hx hb hr (fun t ht _ => gqi hP hD hS ht) hS.2.2 dX9_letter_13
abbrev rmX9_path : Room := { frames := 1, cells := 0, slots := 0, locals := 25 }
set_option maxHeartbeats 4000000 in
set_option maxRecDepth 100000 in
theorem tX9_path (l : Launch) (dC : Nat → ClassId) (dI : Nat → Nat → Nat) (dA : Nat → ClassId) (ad : Nat → Nat) (sz : Nat) {p1 : Int32} {c_tape : Nat → Int32} {c_taped : Int32} {c_tree : Nat → Int32} {c_bonds : Nat → Int32} {c_moves : Nat → Int32} {c_handMoves : Nat → Int32} {c_moved : Int32} {c_days : Int32} {c_likely : Int32} {c_outOf : Int32} {c_rateNow : Int32} {c_pence : Nat → Int64} {c_top : Int64} {c_bottom : Int64} {c_spot : Int32} {c_textLong : Int32} {c_fault : Int32} {c_number : Int32} {c_numberAt : Int32} {c_figures : Int32} {c_written : Int32} {c_wanted : Int32} {c_found : Int32} {c_drawnNow : Int32} {c_worth : Nat → Int64} {c_hold : Nat → Int64} {c_way : Nat → Int64} {c_acts : Nat → Int32} {c_sDay : Int32} {c_sUps : Int32} {c_sUp : Int32} {c_sMarks : Int32} {c_paidAll : Int64} {c_isPlayed : Int32} {c_isOn : Int32} {c_handMoved : Int32} {c_handPaid : Int64} {c_regret : Int64} {c_aside : Nat → Int32} {c_other : Nat → Int64} {c_states : Int32} {c_kept : Nat → Int32} {c_keptLong : Nat → Int64} {c_keptAt : Int32} {c_isTaking : Int32} {r : Int32} {o_c_taped : Int32} {o_c_moves : Nat → Int32} {o_c_moved : Int32} (hf : fX9_path p1 c_tape c_taped c_tree c_moves c_moved = some (r, o_c_taped, o_c_moves, o_c_moved)) : Met l yX9_path (wq (Cond.code yX9_path cX9_path 4 (some .int))) rmX9_path (gP [.ref (ad 0), .int p1] (dC, dI) dA (mW dA ad c_tape c_taped c_tree c_bonds c_moves c_handMoves c_moved c_days c_likely c_outOf c_rateNow c_pence c_top c_bottom c_spot c_textLong c_fault c_number c_numberAt c_figures c_written c_wanted c_found c_drawnNow c_worth c_hold c_way c_acts c_sDay c_sUps c_sUp c_sMarks c_paidAll c_isPlayed c_isOn c_handMoved c_handPaid c_regret c_aside c_other c_states c_kept c_keptLong c_keptAt c_isTaking) sz) (gQi (dC, dI) r (mW dA ad c_tape o_c_taped c_tree c_bonds o_c_moves c_handMoves o_c_moved c_days c_likely c_outOf c_rateNow c_pence c_top c_bottom c_spot c_textLong c_fault c_number c_numberAt c_figures c_written c_wanted c_found c_drawnNow c_worth c_hold c_way c_acts c_sDay c_sUps c_sUp c_sMarks c_paidAll c_isPlayed c_isOn c_handMoved c_handPaid c_regret c_aside c_other c_states c_kept c_keptLong c_keptAt c_isTaking) (va_A (mW dA ad c_tape c_taped c_tree c_bonds c_moves c_handMoves c_moved c_days c_likely c_outOf c_rateNow c_pence c_top c_bottom c_spot c_textLong c_fault c_number c_numberAt c_figures c_written c_wanted c_found c_drawnNow c_worth c_hold c_way c_acts c_sDay c_sUps c_sUp c_sMarks c_paidAll c_isPlayed c_isOn c_handMoved c_handPaid c_regret c_aside c_other c_states c_kept c_keptLong c_keptAt c_isTaking) sz)) 0 0 (va_A (mW dA ad c_tape c_taped c_tree c_bonds c_moves c_handMoves c_moved c_days c_likely c_outOf c_rateNow c_pence c_top c_bottom c_spot c_textLong c_fault c_number c_numberAt c_figures c_written c_wanted c_found c_drawnNow c_worth c_hold c_way c_acts c_sDay c_sUps c_sUp c_sMarks c_paidAll c_isPlayed c_isOn c_handMoved c_handPaid c_regret c_aside c_other c_states c_kept c_keptLong c_keptAt c_isTaking) sz) := by
  refine Met.ofW (cc := cX9_path) (maxL := 4) (ret := (some .int)) (by decide) rfl ?_
  intro p e s m args below meth c s₁ B hml hv
  obtain ⟨rfl, hsz, hP, hK, hD0⟩ := hv
  have hx := B.exec
  have hb := B.bytes
  have hr := B.returns
  have hts := atoms_spec (ws := wq (Cond.code yX9_path cX9_path 4 (some .int))) B.pre
  have hown : s.vm.findClass RX9 = some m.cls := findClass_of_methodNamed B.named
  have hlocks := B.notSynchronized
  clear B
  subst hsz
  have hD := hD0.self (sz := s.heap.size)
  generalize hAe : va_A (mW dA ad c_tape c_taped c_tree c_bonds c_moves c_handMoves c_moved c_days c_likely c_outOf c_rateNow c_pence c_top c_bottom c_spot c_textLong c_fault c_number c_numberAt c_figures c_written c_wanted c_found c_drawnNow c_worth c_hold c_way c_acts c_sDay c_sUps c_sUp c_sMarks c_paidAll c_isPlayed c_isOn c_handMoved c_handPaid c_regret c_aside c_other c_states c_kept c_keptLong c_keptAt c_isTaking) s.heap.size = A at hD ⊢
  have hA : ∀ q : Nat, s.heap.size ≤ q → A q := fun q h => by rw [← hAe]; exact Or.inr h
  clear hAe hD0
  have hS : va_S A s.heap s.heap [] := va_S.rf
  have hl := lv_entry ([.ref (ad 0), .int p1]) (n := 4) (Nat.le_of_ble_eq_true rfl)
  rw [lg_entry_eq]
  generalize (lg_sl ([.ref (ad 0), .int p1]) ++ List.replicate (4 - (lg_sl ([.ref (ad 0), .int p1])).length) Slot.unset).toArray = ls at hl ⊢
  have hl : lv_has ls 4 [(0, .ref (ad 0)), (1, .int p1)] := hl
  change W p l e rmX9_path s m ([.ref (ad 0), .int p1] : List Value).toArray below meth c s.heap [] 0 0 _ _
  generalize hQ : MQ below (gQi (dC, dI) r (mW dA ad c_tape o_c_taped c_tree c_bonds o_c_moves c_handMoves o_c_moved c_days c_likely c_outOf c_rateNow c_pence c_top c_bottom c_spot c_textLong c_fault c_number c_numberAt c_figures c_written c_wanted c_found c_drawnNow c_worth c_hold c_way c_acts c_sDay c_sUps c_sUp c_sMarks c_paidAll c_isPlayed c_isOn c_handMoved c_handPaid c_regret c_aside c_other c_states c_kept c_keptLong c_keptAt c_isTaking) A) ([.ref (ad 0), .int p1] : List Value).toArray s 0 0 A = Q
  have LP92 : ∀ (n : Nat) (x1 : Int32) (x2 : Int32) (c_tape : Nat → Int32) (c_taped : Int32) (c_tree : Nat → Int32) (c_bonds : Nat → Int32) (c_handMoves : Nat → Int32) (c_moved : Int32) (c_days : Int32) (c_likely : Int32) (c_outOf : Int32) (c_rateNow : Int32) (c_pence : Nat → Int64) (c_top : Int64) (c_bottom : Int64) (c_spot : Int32) (c_textLong : Int32) (c_fault : Int32) (c_number : Int32) (c_numberAt : Int32) (c_figures : Int32) (c_written : Int32) (c_wanted : Int32) (c_found : Int32) (c_drawnNow : Int32) (c_worth : Nat → Int64) (c_hold : Nat → Int64) (c_way : Nat → Int64) (c_acts : Nat → Int32) (c_sDay : Int32) (c_sUps : Int32) (c_sUp : Int32) (c_sMarks : Int32) (c_paidAll : Int64) (c_isPlayed : Int32) (c_isOn : Int32) (c_handMoved : Int32) (c_handPaid : Int64) (c_regret : Int64) (c_aside : Nat → Int32) (c_other : Nat → Int64) (c_states : Int32) (c_kept : Nat → Int32) (c_keptLong : Nat → Int64) (c_keptAt : Int32) (c_isTaking : Int32) (x3 : Int32) (c_moves : Nat → Int32) (o_c_moves : Nat → Int32) (H : Heap) (locs : List Loc) (ls : Array Slot), va_P (dC, dI) vwCl (mW dA ad c_tape c_taped c_tree c_bonds c_moves c_handMoves c_moved c_days c_likely c_outOf c_rateNow c_pence c_top c_bottom c_spot c_textLong c_fault c_number c_numberAt c_figures c_written c_wanted c_found c_drawnNow c_worth c_hold c_way c_acts c_sDay c_sUps c_sUp c_sMarks c_paidAll c_isPlayed c_isOn c_handMoved c_handPaid c_regret c_aside c_other c_states c_kept c_keptLong c_keptAt c_isTaking) H → va_D A (mW dA ad c_tape c_taped c_tree c_bonds c_moves c_handMoves c_moved c_days c_likely c_outOf c_rateNow c_pence c_top c_bottom c_spot c_textLong c_fault c_number c_numberAt c_figures c_written c_wanted c_found c_drawnNow c_worth c_hold c_way c_acts c_sDay c_sUps c_sUp c_sMarks c_paidAll c_isPlayed c_isOn c_handMoved c_handPaid c_regret c_aside c_other c_states c_kept c_keptLong c_keptAt c_isTaking) → va_S A s.heap H locs → lpX9_path_92 x1 x2 c_tape n x3 c_moves = some (o_c_moves) → lv_has ls 4 [(0, .ref (ad 0)), (1, .int x1), (2, .int x2), (3, .int x3)] → (∀ (H : Heap) (locs : List Loc) (ls : Array Slot), va_P (dC, dI) vwCl (mW dA ad c_tape c_taped c_tree c_bonds o_c_moves c_handMoves c_moved c_days c_likely c_outOf c_rateNow c_pence c_top c_bottom c_spot c_textLong c_fault c_number c_numberAt c_figures c_written c_wanted c_found c_drawnNow c_worth c_hold c_way c_acts c_sDay c_sUps c_sUp c_sMarks c_paidAll c_isPlayed c_isOn c_handMoved c_handPaid c_regret c_aside c_other c_states c_kept c_keptLong c_keptAt c_isTaking) H → va_D A (mW dA ad c_tape c_taped c_tree c_bonds o_c_moves c_handMoves c_moved c_days c_likely c_outOf c_rateNow c_pence c_top c_bottom c_spot c_textLong c_fault c_number c_numberAt c_figures c_written c_wanted c_found c_drawnNow c_worth c_hold c_way c_acts c_sDay c_sUps c_sUp c_sMarks c_paidAll c_isPlayed c_isOn c_handMoved c_handPaid c_regret c_aside c_other c_states c_kept c_keptLong c_keptAt c_isTaking) → va_S A s.heap H locs → lv_has ls 4 [(0, .ref (ad 0)), (1, .int x1), (2, .int x2)] → W p l e rmX9_path s m ([.ref (ad 0), .int p1] : List Value).toArray below meth c H locs 0 0 Q (F0 m 125 ls [])) → W p l e rmX9_path s m ([.ref (ad 0), .int p1] : List Value).toArray below meth c H locs 0 0 Q (F0 m 92 ls []) := by
    intro n
    induction n with
    | zero =>
      intro x1 x2 c_tape c_taped c_tree c_bonds c_handMoves c_moved c_days c_likely c_outOf c_rateNow c_pence c_top c_bottom c_spot c_textLong c_fault c_number c_numberAt c_figures c_written c_wanted c_found c_drawnNow c_worth c_hold c_way c_acts c_sDay c_sUps c_sUp c_sMarks c_paidAll c_isPlayed c_isOn c_handMoved c_handPaid c_regret c_aside c_other c_states c_kept c_keptLong c_keptAt c_isTaking x3 c_moves o_c_moves H locs ls hP hD hS hf hl hk
      cases hf
    | succ n ih92 =>
      intro x1 x2 c_tape c_taped c_tree c_bonds c_handMoves c_moved c_days c_likely c_outOf c_rateNow c_pence c_top c_bottom c_spot c_textLong c_fault c_number c_numberAt c_figures c_written c_wanted c_found c_drawnNow c_worth c_hold c_way c_acts c_sDay c_sUps c_sUp c_sMarks c_paidAll c_isPlayed c_isOn c_handMoved c_handPaid c_regret c_aside c_other c_states c_kept c_keptLong c_keptAt c_isTaking x3 c_moves o_c_moves H locs ls hP hD hS hf hl hk
      rw [lpX9_path_92.eq_2] at hf
      refine lv_iload_n hx hb dX9_path_92 rfl (lv_at hl 3 rfl) ?_
      refine lv_iload_n hx hb dX9_path_93 rfl (lv_at hl 1 rfl) ?_
      refine lv_icmp_ge (tgt := 125) hx hb dX9_path_94 (by decide) (fun k29 => ?_) (fun k29 => ?_)
      · replace hf := ifp k29 hf
        cases hf
        exact hk _ _ _ hP hD hS (lv_sub hl [0, 1, 2] rfl)
      · replace hf := ifn k29 hf
        refine lv_aload_n hx hb dX9_path_97 rfl (lv_at hl 0 rfl) ?_
        refine va_get (D := (dC, dI)) (ci := 9) (v := .ref (ad 4)) (C := RX9) (T := TX9) (N := 45) hx hb hts (fun w h => gw_mem (inX9 w h)) hown hK.1 hP 0 rfl rfl 4 (by decide) (hts _ (gw_mem wfX9_20)) (fun _ h9 => h9) rfl dX9_path_98 ?_
        refine lv_iload_n hx hb dX9_path_101 rfl (lv_at hl 3 rfl) ?_
        refine lv_aload_n hx hb dX9_path_102 rfl (lv_at hl 0 rfl) ?_
        refine va_get (D := (dC, dI)) (ci := 9) (v := .ref (ad 1)) (C := RX9) (T := TX9) (N := 45) hx hb hts (fun w h => gw_mem (inX9 w h)) hown hK.1 hP 0 rfl rfl 0 (by decide) (hts _ (gw_mem wfX9_7)) (fun _ h9 => h9) rfl dX9_path_103 ?_
        refine lv_iload_n hx hb dX9_path_106 rfl (lv_at hl 3 rfl) ?_
        obtain ⟨h30, hf⟩ := og_some hf
        refine va_bald hx hb hK.1 hP 1 2 rfl rfl (okI_in h30) dX9_path_107 ?_
        refine lv_bipush (v := 117) hx hb dX9_path_108 (by decide) ?_
        obtain ⟨j32, v34, hf⟩ := bd1_some hf
        have J33 : ∀ (H : Heap) (locs : List Loc) (ls : Array Slot), va_P (dC, dI) vwCl (mW dA ad c_tape c_taped c_tree c_bonds c_moves c_handMoves c_moved c_days c_likely c_outOf c_rateNow c_pence c_top c_bottom c_spot c_textLong c_fault c_number c_numberAt c_figures c_written c_wanted c_found c_drawnNow c_worth c_hold c_way c_acts c_sDay c_sUps c_sUp c_sMarks c_paidAll c_isPlayed c_isOn c_handMoved c_handPaid c_regret c_aside c_other c_states c_kept c_keptLong c_keptAt c_isTaking) H → va_D A (mW dA ad c_tape c_taped c_tree c_bonds c_moves c_handMoves c_moved c_days c_likely c_outOf c_rateNow c_pence c_top c_bottom c_spot c_textLong c_fault c_number c_numberAt c_figures c_written c_wanted c_found c_drawnNow c_worth c_hold c_way c_acts c_sDay c_sUps c_sUp c_sMarks c_paidAll c_isPlayed c_isOn c_handMoved c_handPaid c_regret c_aside c_other c_states c_kept c_keptLong c_keptAt c_isTaking) → va_S A s.heap H locs → lv_has ls 4 [(0, .ref (ad 0)), (1, .int x1), (2, .int x2), (3, .int x3)] → W p l e rmX9_path s m ([.ref (ad 0), .int p1] : List Value).toArray below meth c H locs 0 0 Q (F0 m 118 ls [.int j32, .int x3, .ref (ad 4)]) := by
          intro H locs ls hP hD hS hl
          obtain ⟨h35, hf⟩ := og_some hf
          obtain ⟨w36, ew36⟩ : ∃ y : Nat → Int32, y = upd c_moves (Int32.toNatClampNeg x3) j32 := ⟨_, rfl⟩
          replace hf := nm_at hf ew36
          refine va_iast hx hb hK.1 hP hD hS 4 0 rfl rfl (okI_in h35) dX9_path_118 (fun H locs hP hD hS => ?_)
          have hP : va_P (dC, dI) vwCl (mW dA ad c_tape c_taped c_tree c_bonds w36 c_handMoves c_moved c_days c_likely c_outOf c_rateNow c_pence c_top c_bottom c_spot c_textLong c_fault c_number c_numberAt c_figures c_written c_wanted c_found c_drawnNow c_worth c_hold c_way c_acts c_sDay c_sUps c_sUp c_sMarks c_paidAll c_isPlayed c_isOn c_handMoved c_handPaid c_regret c_aside c_other c_states c_kept c_keptLong c_keptAt c_isTaking) H := by rw [ew36]; exact hP
          have hD : va_D A (mW dA ad c_tape c_taped c_tree c_bonds w36 c_handMoves c_moved c_days c_likely c_outOf c_rateNow c_pence c_top c_bottom c_spot c_textLong c_fault c_number c_numberAt c_figures c_written c_wanted c_found c_drawnNow c_worth c_hold c_way c_acts c_sDay c_sUps c_sUp c_sMarks c_paidAll c_isPlayed c_isOn c_handMoved c_handPaid c_regret c_aside c_other c_states c_kept c_keptLong c_keptAt c_isTaking) := by rw [ew36]; exact hD
          obtain ⟨w37, ew37⟩ : ∃ y : Int32, y = x3 + 1 := ⟨_, rfl⟩
          replace hf := nm_at hf ew37
          refine lv_iinc (v := w37) (lv' := [(3, .int w37), (0, .ref (ad 0)), (1, .int x1), (2, .int x2)]) hx hb dX9_path_119 hl (k := 3) rfl (by rw [ew37]; rfl) (by decide) rfl (fun ls hl => ?_)
          refine lv_goto (tgt := 92) hx hb dX9_path_122 (by decide) ?_
          exact ih92 _ _ _ _ _ _ _ _ _ _ _ _ _ _ _ _ _ _ _ _ _ _ _ _ _ _ _ _ _ _ _ _ _ _ _ _ _ _ _ _ _ _ _ _ _ _ _ _ _ _ _ _ hP hD hS hf (lv_sub hl [1, 2, 3, 0] rfl) hk
        replace hf := v34
        clear v34
        refine lv_icmp_ne (tgt := 117) hx hb dX9_path_110 (by decide) (fun k31 => ?_) (fun k31 => ?_)
        · replace hf := ifn k31 hf
          refine lv_iconst (v := 0) hx hb dX9_path_117 (by decide) ?_
          cases hf
          exact J33 _ _ _ hP hD hS (lv_sub hl [0, 1, 2, 3] rfl)
        · replace hf := ifp k31 hf
          refine lv_iconst (v := 1) hx hb dX9_path_113 (by decide) ?_
          refine lv_goto (tgt := 118) hx hb dX9_path_114 (by decide) ?_
          cases hf
          exact J33 _ _ _ hP hD hS (lv_sub hl [0, 1, 2, 3] rfl)
  have LP35 : ∀ (n : Nat) (x1 : Int32) (c_tape : Nat → Int32) (c_taped : Int32) (c_tree : Nat → Int32) (c_bonds : Nat → Int32) (c_moves : Nat → Int32) (c_handMoves : Nat → Int32) (c_moved : Int32) (c_days : Int32) (c_likely : Int32) (c_outOf : Int32) (c_rateNow : Int32) (c_pence : Nat → Int64) (c_top : Int64) (c_bottom : Int64) (c_spot : Int32) (c_textLong : Int32) (c_fault : Int32) (c_number : Int32) (c_numberAt : Int32) (c_figures : Int32) (c_written : Int32) (c_wanted : Int32) (c_found : Int32) (c_drawnNow : Int32) (c_worth : Nat → Int64) (c_hold : Nat → Int64) (c_way : Nat → Int64) (c_acts : Nat → Int32) (c_sDay : Int32) (c_sUps : Int32) (c_sUp : Int32) (c_sMarks : Int32) (c_paidAll : Int64) (c_isPlayed : Int32) (c_isOn : Int32) (c_handMoved : Int32) (c_handPaid : Int64) (c_regret : Int64) (c_aside : Nat → Int32) (c_other : Nat → Int64) (c_states : Int32) (c_kept : Nat → Int32) (c_keptLong : Nat → Int64) (c_keptAt : Int32) (c_isTaking : Int32) (x2 : Int32) (x3 : Int32) (tgo : Nat) (o2 : Int32) (H : Heap) (locs : List Loc) (ls : Array Slot), va_P (dC, dI) vwCl (mW dA ad c_tape c_taped c_tree c_bonds c_moves c_handMoves c_moved c_days c_likely c_outOf c_rateNow c_pence c_top c_bottom c_spot c_textLong c_fault c_number c_numberAt c_figures c_written c_wanted c_found c_drawnNow c_worth c_hold c_way c_acts c_sDay c_sUps c_sUp c_sMarks c_paidAll c_isPlayed c_isOn c_handMoved c_handPaid c_regret c_aside c_other c_states c_kept c_keptLong c_keptAt c_isTaking) H → va_D A (mW dA ad c_tape c_taped c_tree c_bonds c_moves c_handMoves c_moved c_days c_likely c_outOf c_rateNow c_pence c_top c_bottom c_spot c_textLong c_fault c_number c_numberAt c_figures c_written c_wanted c_found c_drawnNow c_worth c_hold c_way c_acts c_sDay c_sUps c_sUp c_sMarks c_paidAll c_isPlayed c_isOn c_handMoved c_handPaid c_regret c_aside c_other c_states c_kept c_keptLong c_keptAt c_isTaking) → va_S A s.heap H locs → lpX9_path_35 x1 c_tape n x2 x3 = some (tgo, o2) → lv_has ls 4 [(0, .ref (ad 0)), (1, .int x1), (2, .int x2), (3, .int x3)] → (tgo = 0 → ∀ (H : Heap) (locs : List Loc) (ls : Array Slot), va_P (dC, dI) vwCl (mW dA ad c_tape c_taped c_tree c_bonds c_moves c_handMoves c_moved c_days c_likely c_outOf c_rateNow c_pence c_top c_bottom c_spot c_textLong c_fault c_number c_numberAt c_figures c_written c_wanted c_found c_drawnNow c_worth c_hold c_way c_acts c_sDay c_sUps c_sUp c_sMarks c_paidAll c_isPlayed c_isOn c_handMoved c_handPaid c_regret c_aside c_other c_states c_kept c_keptLong c_keptAt c_isTaking) H → va_D A (mW dA ad c_tape c_taped c_tree c_bonds c_moves c_handMoves c_moved c_days c_likely c_outOf c_rateNow c_pence c_top c_bottom c_spot c_textLong c_fault c_number c_numberAt c_figures c_written c_wanted c_found c_drawnNow c_worth c_hold c_way c_acts c_sDay c_sUps c_sUp c_sMarks c_paidAll c_isPlayed c_isOn c_handMoved c_handPaid c_regret c_aside c_other c_states c_kept c_keptLong c_keptAt c_isTaking) → va_S A s.heap H locs → lv_has ls 4 [] → W p l e rmX9_path s m ([.ref (ad 0), .int p1] : List Value).toArray below meth c H locs 0 0 Q (F0 m 62 ls [])) → (tgo = 1 → ∀ (H : Heap) (locs : List Loc) (ls : Array Slot), va_P (dC, dI) vwCl (mW dA ad c_tape c_taped c_tree c_bonds c_moves c_handMoves c_moved c_days c_likely c_outOf c_rateNow c_pence c_top c_bottom c_spot c_textLong c_fault c_number c_numberAt c_figures c_written c_wanted c_found c_drawnNow c_worth c_hold c_way c_acts c_sDay c_sUps c_sUp c_sMarks c_paidAll c_isPlayed c_isOn c_handMoved c_handPaid c_regret c_aside c_other c_states c_kept c_keptLong c_keptAt c_isTaking) H → va_D A (mW dA ad c_tape c_taped c_tree c_bonds c_moves c_handMoves c_moved c_days c_likely c_outOf c_rateNow c_pence c_top c_bottom c_spot c_textLong c_fault c_number c_numberAt c_figures c_written c_wanted c_found c_drawnNow c_worth c_hold c_way c_acts c_sDay c_sUps c_sUp c_sMarks c_paidAll c_isPlayed c_isOn c_handMoved c_handPaid c_regret c_aside c_other c_states c_kept c_keptLong c_keptAt c_isTaking) → va_S A s.heap H locs → lv_has ls 4 [(0, .ref (ad 0)), (1, .int x1), (2, .int o2)] → W p l e rmX9_path s m ([.ref (ad 0), .int p1] : List Value).toArray below meth c H locs 0 0 Q (F0 m 90 ls [])) → W p l e rmX9_path s m ([.ref (ad 0), .int p1] : List Value).toArray below meth c H locs 0 0 Q (F0 m 35 ls []) := by
    intro n
    induction n with
    | zero =>
      intro x1 c_tape c_taped c_tree c_bonds c_moves c_handMoves c_moved c_days c_likely c_outOf c_rateNow c_pence c_top c_bottom c_spot c_textLong c_fault c_number c_numberAt c_figures c_written c_wanted c_found c_drawnNow c_worth c_hold c_way c_acts c_sDay c_sUps c_sUp c_sMarks c_paidAll c_isPlayed c_isOn c_handMoved c_handPaid c_regret c_aside c_other c_states c_kept c_keptLong c_keptAt c_isTaking x2 x3 tgo o2 H locs ls hP hD hS hf hl hk0 hk1
      cases hf
    | succ n ih35 =>
      intro x1 c_tape c_taped c_tree c_bonds c_moves c_handMoves c_moved c_days c_likely c_outOf c_rateNow c_pence c_top c_bottom c_spot c_textLong c_fault c_number c_numberAt c_figures c_written c_wanted c_found c_drawnNow c_worth c_hold c_way c_acts c_sDay c_sUps c_sUp c_sMarks c_paidAll c_isPlayed c_isOn c_handMoved c_handPaid c_regret c_aside c_other c_states c_kept c_keptLong c_keptAt c_isTaking x2 x3 tgo o2 H locs ls hP hD hS hf hl hk0 hk1
      rw [lpX9_path_35.eq_2] at hf
      refine lv_iload_n hx hb dX9_path_35 rfl (lv_at hl 3 rfl) ?_
      refine lv_iload_n hx hb dX9_path_36 rfl (lv_at hl 1 rfl) ?_
      refine lv_icmp_ge (tgt := 90) hx hb dX9_path_37 (by decide) (fun k10 => ?_) (fun k10 => ?_)
      · replace hf := ifp k10 hf
        cases hf
        exact hk1 rfl _ _ _ hP hD hS (lv_sub hl [0, 1, 2] rfl)
      · replace hf := ifn k10 hf
        refine lv_aload_n hx hb dX9_path_40 rfl (lv_at hl 0 rfl) ?_
        refine va_get (D := (dC, dI)) (ci := 9) (v := .ref (ad 1)) (C := RX9) (T := TX9) (N := 45) hx hb hts (fun w h => gw_mem (inX9 w h)) hown hK.1 hP 0 rfl rfl 0 (by decide) (hts _ (gw_mem wfX9_7)) (fun _ h9 => h9) rfl dX9_path_41 ?_
        refine lv_iload_n hx hb dX9_path_44 rfl (lv_at hl 3 rfl) ?_
        obtain ⟨h11, hf⟩ := og_some hf
        refine va_bald hx hb hK.1 hP 1 2 rfl rfl (okI_in h11) dX9_path_45 ?_
        refine lv_bipush (v := 117) hx hb dX9_path_46 (by decide) ?_
        refine lv_icmp_eq (tgt := 65) hx hb dX9_path_48 (by decide) (fun k12 => ?_) (fun k12 => ?_)
        · replace hf := ifp k12 hf
          refine lv_iload_n hx hb dX9_path_65 rfl (lv_at hl 2 rfl) ?_
          refine lv_aload_n hx hb dX9_path_66 rfl (lv_at hl 0 rfl) ?_
          refine va_get (D := (dC, dI)) (ci := 9) (v := .ref (ad 1)) (C := RX9) (T := TX9) (N := 45) hx hb hts (fun w h => gw_mem (inX9 w h)) hown hK.1 hP 0 rfl rfl 0 (by decide) (hts _ (gw_mem wfX9_7)) (fun _ h9 => h9) rfl dX9_path_67 ?_
          refine lv_iload_n hx hb dX9_path_70 rfl (lv_at hl 3 rfl) ?_
          obtain ⟨h13, hf⟩ := og_some hf
          refine va_bald hx hb hK.1 hP 1 2 rfl rfl (okI_in h13) dX9_path_71 ?_
          refine lv_bipush (v := 117) hx hb dX9_path_72 (by decide) ?_
          obtain ⟨j15, v17, hf⟩ := bd1_some hf
          have J16 : ∀ (H : Heap) (locs : List Loc) (ls : Array Slot), va_P (dC, dI) vwCl (mW dA ad c_tape c_taped c_tree c_bonds c_moves c_handMoves c_moved c_days c_likely c_outOf c_rateNow c_pence c_top c_bottom c_spot c_textLong c_fault c_number c_numberAt c_figures c_written c_wanted c_found c_drawnNow c_worth c_hold c_way c_acts c_sDay c_sUps c_sUp c_sMarks c_paidAll c_isPlayed c_isOn c_handMoved c_handPaid c_regret c_aside c_other c_states c_kept c_keptLong c_keptAt c_isTaking) H → va_D A (mW dA ad c_tape c_taped c_tree c_bonds c_moves c_handMoves c_moved c_days c_likely c_outOf c_rateNow c_pence c_top c_bottom c_spot c_textLong c_fault c_number c_numberAt c_figures c_written c_wanted c_found c_drawnNow c_worth c_hold c_way c_acts c_sDay c_sUps c_sUp c_sMarks c_paidAll c_isPlayed c_isOn c_handMoved c_handPaid c_regret c_aside c_other c_states c_kept c_keptLong c_keptAt c_isTaking) → va_S A s.heap H locs → lv_has ls 4 [(0, .ref (ad 0)), (1, .int x1), (3, .int x3)] → W p l e rmX9_path s m ([.ref (ad 0), .int p1] : List Value).toArray below meth c H locs 0 0 Q (F0 m 82 ls [.int j15, .int x2]) := by
            intro H locs ls hP hD hS hl
            refine lv_iadd hx hb dX9_path_82 ?_
            refine lv_topi (fun w18 ew18 => ?_)
            replace hf := nm_at hf ew18
            refine lv_istore_n (lv' := [(2, .int w18), (0, .ref (ad 0)), (1, .int x1), (3, .int x3)]) hx hb dX9_path_83 rfl hl (by decide) rfl (fun ls hl => ?_)
            obtain ⟨w19, ew19⟩ : ∃ y : Int32, y = x3 + 1 := ⟨_, rfl⟩
            replace hf := nm_at hf ew19
            refine lv_iinc (v := w19) (lv' := [(3, .int w19), (2, .int w18), (0, .ref (ad 0)), (1, .int x1)]) hx hb dX9_path_84 hl (k := 3) rfl (by rw [ew19]; rfl) (by decide) rfl (fun ls hl => ?_)
            refine lv_goto (tgt := 35) hx hb dX9_path_87 (by decide) ?_
            exact ih35 _ _ _ _ _ _ _ _ _ _ _ _ _ _ _ _ _ _ _ _ _ _ _ _ _ _ _ _ _ _ _ _ _ _ _ _ _ _ _ _ _ _ _ _ _ _ _ _ _ _ _ _ _ hP hD hS hf (lv_sub hl [2, 3, 1, 0] rfl) hk0 hk1
          replace hf := v17
          clear v17
          refine lv_icmp_ne (tgt := 81) hx hb dX9_path_74 (by decide) (fun k14 => ?_) (fun k14 => ?_)
          · replace hf := ifn k14 hf
            refine lv_iconst (v := 0) hx hb dX9_path_81 (by decide) ?_
            cases hf
            exact J16 _ _ _ hP hD hS (lv_sub hl [0, 1, 3] rfl)
          · replace hf := ifp k14 hf
            refine lv_iconst (v := 1) hx hb dX9_path_77 (by decide) ?_
            refine lv_goto (tgt := 82) hx hb dX9_path_78 (by decide) ?_
            cases hf
            exact J16 _ _ _ hP hD hS (lv_sub hl [0, 1, 3] rfl)
        · replace hf := ifn k12 hf
          refine lv_aload_n hx hb dX9_path_51 rfl (lv_at hl 0 rfl) ?_
          refine va_get (D := (dC, dI)) (ci := 9) (v := .ref (ad 1)) (C := RX9) (T := TX9) (N := 45) hx hb hts (fun w h => gw_mem (inX9 w h)) hown hK.1 hP 0 rfl rfl 0 (by decide) (hts _ (gw_mem wfX9_7)) (fun _ h9 => h9) rfl dX9_path_52 ?_
          refine lv_iload_n hx hb dX9_path_55 rfl (lv_at hl 3 rfl) ?_
          obtain ⟨h20, hf⟩ := og_some hf
          refine va_bald hx hb hK.1 hP 1 2 rfl rfl (okI_in h20) dX9_path_56 ?_
          refine lv_bipush (v := 100) hx hb dX9_path_57 (by decide) ?_
          refine lv_icmp_eq (tgt := 65) hx hb dX9_path_59 (by decide) (fun k21 => ?_) (fun k21 => ?_)
          · replace hf := ifp k21 hf
            refine lv_iload_n hx hb dX9_path_65 rfl (lv_at hl 2 rfl) ?_
            refine lv_aload_n hx hb dX9_path_66 rfl (lv_at hl 0 rfl) ?_
            refine va_get (D := (dC, dI)) (ci := 9) (v := .ref (ad 1)) (C := RX9) (T := TX9) (N := 45) hx hb hts (fun w h => gw_mem (inX9 w h)) hown hK.1 hP 0 rfl rfl 0 (by decide) (hts _ (gw_mem wfX9_7)) (fun _ h9 => h9) rfl dX9_path_67 ?_
            refine lv_iload_n hx hb dX9_path_70 rfl (lv_at hl 3 rfl) ?_
            obtain ⟨h22, hf⟩ := og_some hf
            refine va_bald hx hb hK.1 hP 1 2 rfl rfl (okI_in h22) dX9_path_71 ?_
            refine lv_bipush (v := 117) hx hb dX9_path_72 (by decide) ?_
            obtain ⟨j24, v26, hf⟩ := bd1_some hf
            have J25 : ∀ (H : Heap) (locs : List Loc) (ls : Array Slot), va_P (dC, dI) vwCl (mW dA ad c_tape c_taped c_tree c_bonds c_moves c_handMoves c_moved c_days c_likely c_outOf c_rateNow c_pence c_top c_bottom c_spot c_textLong c_fault c_number c_numberAt c_figures c_written c_wanted c_found c_drawnNow c_worth c_hold c_way c_acts c_sDay c_sUps c_sUp c_sMarks c_paidAll c_isPlayed c_isOn c_handMoved c_handPaid c_regret c_aside c_other c_states c_kept c_keptLong c_keptAt c_isTaking) H → va_D A (mW dA ad c_tape c_taped c_tree c_bonds c_moves c_handMoves c_moved c_days c_likely c_outOf c_rateNow c_pence c_top c_bottom c_spot c_textLong c_fault c_number c_numberAt c_figures c_written c_wanted c_found c_drawnNow c_worth c_hold c_way c_acts c_sDay c_sUps c_sUp c_sMarks c_paidAll c_isPlayed c_isOn c_handMoved c_handPaid c_regret c_aside c_other c_states c_kept c_keptLong c_keptAt c_isTaking) → va_S A s.heap H locs → lv_has ls 4 [(0, .ref (ad 0)), (1, .int x1), (3, .int x3)] → W p l e rmX9_path s m ([.ref (ad 0), .int p1] : List Value).toArray below meth c H locs 0 0 Q (F0 m 82 ls [.int j24, .int x2]) := by
              intro H locs ls hP hD hS hl
              refine lv_iadd hx hb dX9_path_82 ?_
              refine lv_topi (fun w27 ew27 => ?_)
              replace hf := nm_at hf ew27
              refine lv_istore_n (lv' := [(2, .int w27), (0, .ref (ad 0)), (1, .int x1), (3, .int x3)]) hx hb dX9_path_83 rfl hl (by decide) rfl (fun ls hl => ?_)
              obtain ⟨w28, ew28⟩ : ∃ y : Int32, y = x3 + 1 := ⟨_, rfl⟩
              replace hf := nm_at hf ew28
              refine lv_iinc (v := w28) (lv' := [(3, .int w28), (2, .int w27), (0, .ref (ad 0)), (1, .int x1)]) hx hb dX9_path_84 hl (k := 3) rfl (by rw [ew28]; rfl) (by decide) rfl (fun ls hl => ?_)
              refine lv_goto (tgt := 35) hx hb dX9_path_87 (by decide) ?_
              exact ih35 _ _ _ _ _ _ _ _ _ _ _ _ _ _ _ _ _ _ _ _ _ _ _ _ _ _ _ _ _ _ _ _ _ _ _ _ _ _ _ _ _ _ _ _ _ _ _ _ _ _ _ _ _ hP hD hS hf (lv_sub hl [2, 3, 1, 0] rfl) hk0 hk1
            replace hf := v26
            clear v26
            refine lv_icmp_ne (tgt := 81) hx hb dX9_path_74 (by decide) (fun k23 => ?_) (fun k23 => ?_)
            · replace hf := ifn k23 hf
              refine lv_iconst (v := 0) hx hb dX9_path_81 (by decide) ?_
              cases hf
              exact J25 _ _ _ hP hD hS (lv_sub hl [0, 1, 3] rfl)
            · replace hf := ifp k23 hf
              refine lv_iconst (v := 1) hx hb dX9_path_77 (by decide) ?_
              refine lv_goto (tgt := 82) hx hb dX9_path_78 (by decide) ?_
              cases hf
              exact J25 _ _ _ hP hD hS (lv_sub hl [0, 1, 3] rfl)
          · replace hf := ifn k21 hf
            cases hf
            exact hk0 rfl _ _ _ hP hD hS (lv_sub hl [] rfl)
  subst hQ
  unfold fX9_path at hf
  refine lv_iload_n hx hb dX9_path_0 rfl (lv_at hl 1 rfl) ?_
  refine lv_i2l hx hb dX9_path_1 rfl ?_
  refine lv_lconst (v := 0) hx hb dX9_path_2 rfl ?_
  refine lv_aload_n hx hb dX9_path_3 rfl (lv_at hl 0 rfl) ?_
  refine va_get (D := (dC, dI)) (ci := 9) (v := .ref (ad 2)) (C := RX9) (T := TX9) (N := 45) hx hb hts (fun w h => gw_mem (inX9 w h)) hown hK.1 hP 0 rfl rfl 2 (by decide) (hts _ (gw_mem wfX9_13)) (fun _ h9 => h9) rfl dX9_path_4 ?_
  refine lv_iconst (v := 0) hx hb dX9_path_7 (by decide) ?_
  refine va_iald hx hb hK.1 hP 2 0 rfl rfl (okI_in (by decide)) dX9_path_8 ?_
  refine lv_i2l hx hb dX9_path_9 rfl ?_
  obtain ⟨r1, v2, hf⟩ := bd1_some hf
  refine gci0 (va_runS (As := [.long (Int32.toInt64 p1), .long 0, .long (Int32.toInt64 (c_tree (Int32.toNatClampNeg 0)))]) (rest := []) ⟨hx, hb, hml, hown, hts⟩ (tX9_in l dC dI dA s.heap.size v2) (ccX9_X9_in hts ⟨Nat.le_of_ble_eq_true rfl, Nat.le_of_ble_eq_true rfl⟩) (gPreS0 hK) rfl rfl hl.1 rfl (lv_room (Nat.le_of_ble_eq_true rfl)) dX9_path_10 ⟨Nat.le_of_ble_eq_true rfl, Nat.le_of_ble_eq_true rfl⟩) hP hS hA (fun H locs hP hS => ?_)
  refine lv_if_eq (tgt := 24) hx hb dX9_path_13 (by decide) (fun k3 => ?_) (fun k3 => ?_)
  · replace hf := ifp k3 hf
    refine lv_iconst (v := (-1)) hx hb dX9_path_24 (by decide) ?_
    cases hf
    exact W.iret hx hb hr (fun t ht _ => gqi hP hD hS ht) hS.2.2 dX9_path_25
  · replace hf := ifn k3 hf
    refine lv_iload_n hx hb dX9_path_16 rfl (lv_at hl 1 rfl) ?_
    refine lv_aload_n hx hb dX9_path_17 rfl (lv_at hl 0 rfl) ?_
    refine va_get (D := (dC, dI)) (ci := 9) (v := .int c_taped) (C := RX9) (T := TX9) (N := 45) hx hb hts (fun w h => gw_mem (inX9 w h)) hown hK.1 hP 0 rfl rfl 1 (by decide) (hts _ (gw_mem wfX9_64)) (fun _ h9 => h9) rfl dX9_path_18 ?_
    refine lv_icmp_le (tgt := 26) hx hb dX9_path_21 (by decide) (fun k4 => ?_) (fun k4 => ?_)
    · replace hf := ifp k4 hf
      refine lv_aload_n hx hb dX9_path_26 rfl (lv_at hl 0 rfl) ?_
      refine lv_iconst (v := 0) hx hb dX9_path_27 (by decide) ?_
      refine va_put (D := (dC, dI)) (ci := 9) (v := .int 0) (ty := .int) (C := RX9) (T := TX9) (N := 45) hx hb hts (fun w h => gw_mem (inX9 w h)) tyX9 tyX9_ok nmX9 hown hK.1 hP hD hS 0 rfl rfl 1 (by decide) (hts _ (gw_mem wfX9_64)) (fun _ h9 => h9) rfl (by decide +kernel) rfl rfl (Nat.le_of_ble_eq_true rfl) dX9_path_28 (fun H locs hP hD hS => ?_)
      have hP : va_P (dC, dI) vwCl (mW dA ad c_tape 0 c_tree c_bonds c_moves c_handMoves c_moved c_days c_likely c_outOf c_rateNow c_pence c_top c_bottom c_spot c_textLong c_fault c_number c_numberAt c_figures c_written c_wanted c_found c_drawnNow c_worth c_hold c_way c_acts c_sDay c_sUps c_sUp c_sMarks c_paidAll c_isPlayed c_isOn c_handMoved c_handPaid c_regret c_aside c_other c_states c_kept c_keptLong c_keptAt c_isTaking) H := hP
      have hD : va_D A (mW dA ad c_tape 0 c_tree c_bonds c_moves c_handMoves c_moved c_days c_likely c_outOf c_rateNow c_pence c_top c_bottom c_spot c_textLong c_fault c_number c_numberAt c_figures c_written c_wanted c_found c_drawnNow c_worth c_hold c_way c_acts c_sDay c_sUps c_sUp c_sMarks c_paidAll c_isPlayed c_isOn c_handMoved c_handPaid c_regret c_aside c_other c_states c_kept c_keptLong c_keptAt c_isTaking) := hD
      refine lv_iconst (v := 0) hx hb dX9_path_31 (by decide) ?_
      refine lv_istore_n (lv' := [(2, .int 0), (0, .ref (ad 0)), (1, .int p1)]) hx hb dX9_path_32 rfl hl (by decide) rfl (fun ls hl => ?_)
      refine lv_iconst (v := 0) hx hb dX9_path_33 (by decide) ?_
      refine lv_istore_n (lv' := [(3, .int 0), (2, .int 0), (0, .ref (ad 0)), (1, .int p1)]) hx hb dX9_path_34 rfl hl (by decide) rfl (fun ls hl => ?_)
      obtain ⟨tg5, x6, v7, hf⟩ := bd2_some hf
      refine LP35 FU _ _ _ _ _ _ _ _ _ _ _ _ _ _ _ _ _ _ _ _ _ _ _ _ _ _ _ _ _ _ _ _ _ _ _ _ _ _ _ _ _ _ _ _ _ _ _ _ _ _ _ _ _ hP hD hS v7 (lv_sub hl [2, 3, 1, 0] rfl) (fun etg5 H locs ls hP hD hS hl => ?_) (fun etg5 H locs ls hP hD hS hl => ?_)
      · replace hf := ifp etg5 hf
        refine lv_bipush (v := (-2)) hx hb dX9_path_62 (by decide) ?_
        cases hf
        exact W.iret hx hb hr (fun t ht _ => gqi hP hD hS ht) hS.2.2 dX9_path_64
      · replace hf := ifn (c := tg5 = 0) (by rw [etg5]; decide) hf
        refine lv_iconst (v := 0) hx hb dX9_path_90 (by decide) ?_
        refine lv_istore_n (lv' := [(3, .int 0), (0, .ref (ad 0)), (1, .int p1), (2, .int x6)]) hx hb dX9_path_91 rfl hl (by decide) rfl (fun ls hl => ?_)
        obtain ⟨c_moves_8, v9, hf⟩ := bd1_some hf
        refine LP92 FU _ _ _ _ _ _ _ _ _ _ _ _ _ _ _ _ _ _ _ _ _ _ _ _ _ _ _ _ _ _ _ _ _ _ _ _ _ _ _ _ _ _ _ _ _ _ _ _ _ _ _ _ hP hD hS v9 (lv_sub hl [1, 2, 3, 0] rfl) (fun H locs ls hP hD hS hl => ?_)
        refine lv_aload_n hx hb dX9_path_125 rfl (lv_at hl 0 rfl) ?_
        refine lv_iload_n hx hb dX9_path_126 rfl (lv_at hl 1 rfl) ?_
        refine va_put (D := (dC, dI)) (ci := 9) (v := .int p1) (ty := .int) (C := RX9) (T := TX9) (N := 45) hx hb hts (fun w h => gw_mem (inX9 w h)) tyX9 tyX9_ok nmX9 hown hK.1 hP hD hS 0 rfl rfl 6 (by decide) (hts _ (gw_mem wfX9_76)) (fun _ h9 => h9) rfl (by decide +kernel) rfl rfl (Nat.le_of_ble_eq_true rfl) dX9_path_127 (fun H locs hP hD hS => ?_)
        have hP : va_P (dC, dI) vwCl (mW dA ad c_tape 0 c_tree c_bonds c_moves_8 c_handMoves p1 c_days c_likely c_outOf c_rateNow c_pence c_top c_bottom c_spot c_textLong c_fault c_number c_numberAt c_figures c_written c_wanted c_found c_drawnNow c_worth c_hold c_way c_acts c_sDay c_sUps c_sUp c_sMarks c_paidAll c_isPlayed c_isOn c_handMoved c_handPaid c_regret c_aside c_other c_states c_kept c_keptLong c_keptAt c_isTaking) H := hP
        have hD : va_D A (mW dA ad c_tape 0 c_tree c_bonds c_moves_8 c_handMoves p1 c_days c_likely c_outOf c_rateNow c_pence c_top c_bottom c_spot c_textLong c_fault c_number c_numberAt c_figures c_written c_wanted c_found c_drawnNow c_worth c_hold c_way c_acts c_sDay c_sUps c_sUp c_sMarks c_paidAll c_isPlayed c_isOn c_handMoved c_handPaid c_regret c_aside c_other c_states c_kept c_keptLong c_keptAt c_isTaking) := hD
        refine lv_iload_n hx hb dX9_path_130 rfl (lv_at hl 2 rfl) ?_
        cases hf
        exact W.iret hx hb hr (fun t ht _ => gqi hP hD hS ht) hS.2.2 dX9_path_131
    · replace hf := ifn k4 hf
      refine lv_iconst (v := (-1)) hx hb dX9_path_24 (by decide) ?_
      cases hf
      exact W.iret hx hb hr (fun t ht _ => gqi hP hD hS ht) hS.2.2 dX9_path_25
abbrev rmX9_draw : Room := { frames := 0, cells := 0, slots := 0, locals := 0 }
set_option maxHeartbeats 4000000 in
set_option maxRecDepth 100000 in
theorem tX9_draw (l : Launch) (dC : Nat → ClassId) (dI : Nat → Nat → Nat) (dA : Nat → ClassId) (ad : Nat → Nat) (sz : Nat) {p1 : Int32} {c_tape : Nat → Int32} {c_taped : Int32} {c_tree : Nat → Int32} {c_bonds : Nat → Int32} {c_moves : Nat → Int32} {c_handMoves : Nat → Int32} {c_moved : Int32} {c_days : Int32} {c_likely : Int32} {c_outOf : Int32} {c_rateNow : Int32} {c_pence : Nat → Int64} {c_top : Int64} {c_bottom : Int64} {c_spot : Int32} {c_textLong : Int32} {c_fault : Int32} {c_number : Int32} {c_numberAt : Int32} {c_figures : Int32} {c_written : Int32} {c_wanted : Int32} {c_found : Int32} {c_drawnNow : Int32} {c_worth : Nat → Int64} {c_hold : Nat → Int64} {c_way : Nat → Int64} {c_acts : Nat → Int32} {c_sDay : Int32} {c_sUps : Int32} {c_sUp : Int32} {c_sMarks : Int32} {c_paidAll : Int64} {c_isPlayed : Int32} {c_isOn : Int32} {c_handMoved : Int32} {c_handPaid : Int64} {c_regret : Int64} {c_aside : Nat → Int32} {c_other : Nat → Int64} {c_states : Int32} {c_kept : Nat → Int32} {c_keptLong : Nat → Int64} {c_keptAt : Int32} {c_isTaking : Int32} {r : Int32} {o_c_drawnNow : Int32} (hf : fX9_draw p1 c_drawnNow = some (r, o_c_drawnNow)) : Met l yX9_draw (wq (Cond.code yX9_draw cX9_draw 2 (some .int))) rmX9_draw (gP [.ref (ad 0), .int p1] (dC, dI) dA (mW dA ad c_tape c_taped c_tree c_bonds c_moves c_handMoves c_moved c_days c_likely c_outOf c_rateNow c_pence c_top c_bottom c_spot c_textLong c_fault c_number c_numberAt c_figures c_written c_wanted c_found c_drawnNow c_worth c_hold c_way c_acts c_sDay c_sUps c_sUp c_sMarks c_paidAll c_isPlayed c_isOn c_handMoved c_handPaid c_regret c_aside c_other c_states c_kept c_keptLong c_keptAt c_isTaking) sz) (gQi (dC, dI) r (mW dA ad c_tape c_taped c_tree c_bonds c_moves c_handMoves c_moved c_days c_likely c_outOf c_rateNow c_pence c_top c_bottom c_spot c_textLong c_fault c_number c_numberAt c_figures c_written c_wanted c_found o_c_drawnNow c_worth c_hold c_way c_acts c_sDay c_sUps c_sUp c_sMarks c_paidAll c_isPlayed c_isOn c_handMoved c_handPaid c_regret c_aside c_other c_states c_kept c_keptLong c_keptAt c_isTaking) (va_A (mW dA ad c_tape c_taped c_tree c_bonds c_moves c_handMoves c_moved c_days c_likely c_outOf c_rateNow c_pence c_top c_bottom c_spot c_textLong c_fault c_number c_numberAt c_figures c_written c_wanted c_found c_drawnNow c_worth c_hold c_way c_acts c_sDay c_sUps c_sUp c_sMarks c_paidAll c_isPlayed c_isOn c_handMoved c_handPaid c_regret c_aside c_other c_states c_kept c_keptLong c_keptAt c_isTaking) sz)) 0 0 (va_A (mW dA ad c_tape c_taped c_tree c_bonds c_moves c_handMoves c_moved c_days c_likely c_outOf c_rateNow c_pence c_top c_bottom c_spot c_textLong c_fault c_number c_numberAt c_figures c_written c_wanted c_found c_drawnNow c_worth c_hold c_way c_acts c_sDay c_sUps c_sUp c_sMarks c_paidAll c_isPlayed c_isOn c_handMoved c_handPaid c_regret c_aside c_other c_states c_kept c_keptLong c_keptAt c_isTaking) sz) := by
  refine Met.ofW (cc := cX9_draw) (maxL := 2) (ret := (some .int)) (by decide) rfl ?_
  intro p e s m args below meth c s₁ B hml hv
  obtain ⟨rfl, hsz, hP, hK, hD0⟩ := hv
  have hx := B.exec
  have hb := B.bytes
  have hr := B.returns
  have hts := atoms_spec (ws := wq (Cond.code yX9_draw cX9_draw 2 (some .int))) B.pre
  have hown : s.vm.findClass RX9 = some m.cls := findClass_of_methodNamed B.named
  have hlocks := B.notSynchronized
  clear B
  subst hsz
  have hD := hD0.self (sz := s.heap.size)
  generalize hAe : va_A (mW dA ad c_tape c_taped c_tree c_bonds c_moves c_handMoves c_moved c_days c_likely c_outOf c_rateNow c_pence c_top c_bottom c_spot c_textLong c_fault c_number c_numberAt c_figures c_written c_wanted c_found c_drawnNow c_worth c_hold c_way c_acts c_sDay c_sUps c_sUp c_sMarks c_paidAll c_isPlayed c_isOn c_handMoved c_handPaid c_regret c_aside c_other c_states c_kept c_keptLong c_keptAt c_isTaking) s.heap.size = A at hD ⊢
  have hA : ∀ q : Nat, s.heap.size ≤ q → A q := fun q h => by rw [← hAe]; exact Or.inr h
  clear hAe hD0
  have hS : va_S A s.heap s.heap [] := va_S.rf
  have hl := lv_entry ([.ref (ad 0), .int p1]) (n := 2) (Nat.le_of_ble_eq_true rfl)
  rw [lg_entry_eq]
  generalize (lg_sl ([.ref (ad 0), .int p1]) ++ List.replicate (2 - (lg_sl ([.ref (ad 0), .int p1])).length) Slot.unset).toArray = ls at hl ⊢
  have hl : lv_has ls 2 [(0, .ref (ad 0)), (1, .int p1)] := hl
  change W p l e rmX9_draw s m ([.ref (ad 0), .int p1] : List Value).toArray below meth c s.heap [] 0 0 _ _
  unfold fX9_draw at hf
  refine lv_aload_n hx hb dX9_draw_0 rfl (lv_at hl 0 rfl) ?_
  refine lv_sipush (v := 25173) hx hb dX9_draw_1 (by decide) ?_
  refine lv_aload_n hx hb dX9_draw_4 rfl (lv_at hl 0 rfl) ?_
  refine va_get (D := (dC, dI)) (ci := 9) (v := .int c_drawnNow) (C := RX9) (T := TX9) (N := 45) hx hb hts (fun w h => gw_mem (inX9 w h)) hown hK.1 hP 0 rfl rfl 23 (by decide) (hts _ (gw_mem wfX9_241)) (fun _ h9 => h9) rfl dX9_draw_5 ?_
  refine lv_imul hx hb dX9_draw_8 ?_
  refine lv_sipush (v := 13849) hx hb dX9_draw_9 (by decide) ?_
  refine lv_iadd hx hb dX9_draw_12 ?_
  refine lv_ldc (v := 65536) hx hb hown (hts _ (gw_mem wkX9_244)) dX9_draw_13 ?_
  refine lv_irem hx hb dX9_draw_15 (by decide) ?_
  refine lv_topi (fun w1 ew1 => ?_)
  replace hf := nm_at hf ew1
  refine va_put (D := (dC, dI)) (ci := 9) (v := .int w1) (ty := .int) (C := RX9) (T := TX9) (N := 45) hx hb hts (fun w h => gw_mem (inX9 w h)) tyX9 tyX9_ok nmX9 hown hK.1 hP hD hS 0 rfl rfl 23 (by decide) (hts _ (gw_mem wfX9_241)) (fun _ h9 => h9) rfl (by decide +kernel) rfl rfl (Nat.le_of_ble_eq_true rfl) dX9_draw_16 (fun H locs hP hD hS => ?_)
  have hP : va_P (dC, dI) vwCl (mW dA ad c_tape c_taped c_tree c_bonds c_moves c_handMoves c_moved c_days c_likely c_outOf c_rateNow c_pence c_top c_bottom c_spot c_textLong c_fault c_number c_numberAt c_figures c_written c_wanted c_found w1 c_worth c_hold c_way c_acts c_sDay c_sUps c_sUp c_sMarks c_paidAll c_isPlayed c_isOn c_handMoved c_handPaid c_regret c_aside c_other c_states c_kept c_keptLong c_keptAt c_isTaking) H := hP
  have hD : va_D A (mW dA ad c_tape c_taped c_tree c_bonds c_moves c_handMoves c_moved c_days c_likely c_outOf c_rateNow c_pence c_top c_bottom c_spot c_textLong c_fault c_number c_numberAt c_figures c_written c_wanted c_found w1 c_worth c_hold c_way c_acts c_sDay c_sUps c_sUp c_sMarks c_paidAll c_isPlayed c_isOn c_handMoved c_handPaid c_regret c_aside c_other c_states c_kept c_keptLong c_keptAt c_isTaking) := hD
  refine lv_aload_n hx hb dX9_draw_19 rfl (lv_at hl 0 rfl) ?_
  refine va_get (D := (dC, dI)) (ci := 9) (v := .int w1) (C := RX9) (T := TX9) (N := 45) hx hb hts (fun w h => gw_mem (inX9 w h)) hown hK.1 hP 0 rfl rfl 23 (by decide) (hts _ (gw_mem wfX9_241)) (fun _ h9 => h9) rfl dX9_draw_20 ?_
  refine lv_iconst (v := 4) hx hb dX9_draw_23 (by decide) ?_
  refine lv_idiv hx hb dX9_draw_24 (by decide) ?_
  refine lv_iload_n hx hb dX9_draw_25 rfl (lv_at hl 1 rfl) ?_
  obtain ⟨h2, hf⟩ := og_some hf
  refine lv_irem hx hb dX9_draw_26 (nzI_ne h2) ?_
  cases hf
  exact W.iret hx hb hr (fun t ht _ => gqi hP hD hS ht) hS.2.2 dX9_draw_27
theorem ccX9_X9_draw {R : Room} {s : State} {args : Array Value} {c0 : Cond} (ht : ∀ w ∈ wq c0, w.before args s = true) (hR : rmX9_draw.frames + 1 ≤ R.frames ∧ 8 + (2 + 11) + rmX9_draw.locals ≤ R.locals) : CallW R s args RX9 RX9 246 yX9_draw cX9_draw 2 (some .int) (wq (.code yX9_draw cX9_draw 2 (some .int))) rmX9_draw 0 0 1 := gCW 1 ht wcX9_draw wmX9_246 wiX9_draw weX9_draw wnX9 (by decide +kernel) rfl rfl hR
abbrev rmX9_drawn : Room := { frames := 1, cells := 0, slots := 0, locals := 25 }
set_option maxHeartbeats 4000000 in
set_option maxRecDepth 100000 in
theorem tX9_drawn (l : Launch) (dC : Nat → ClassId) (dI : Nat → Nat → Nat) (dA : Nat → ClassId) (ad : Nat → Nat) (sz : Nat) {p1 : Int32} {p2 : Int32} {c_tape : Nat → Int32} {c_taped : Int32} {c_tree : Nat → Int32} {c_bonds : Nat → Int32} {c_moves : Nat → Int32} {c_handMoves : Nat → Int32} {c_moved : Int32} {c_days : Int32} {c_likely : Int32} {c_outOf : Int32} {c_rateNow : Int32} {c_pence : Nat → Int64} {c_top : Int64} {c_bottom : Int64} {c_spot : Int32} {c_textLong : Int32} {c_fault : Int32} {c_number : Int32} {c_numberAt : Int32} {c_figures : Int32} {c_written : Int32} {c_wanted : Int32} {c_found : Int32} {c_drawnNow : Int32} {c_worth : Nat → Int64} {c_hold : Nat → Int64} {c_way : Nat → Int64} {c_acts : Nat → Int32} {c_sDay : Int32} {c_sUps : Int32} {c_sUp : Int32} {c_sMarks : Int32} {c_paidAll : Int64} {c_isPlayed : Int32} {c_isOn : Int32} {c_handMoved : Int32} {c_handPaid : Int64} {c_regret : Int64} {c_aside : Nat → Int32} {c_other : Nat → Int64} {c_states : Int32} {c_kept : Nat → Int32} {c_keptLong : Nat → Int64} {c_keptAt : Int32} {c_isTaking : Int32} {r : Int32} {o_c_moves : Nat → Int32} {o_c_moved : Int32} {o_c_drawnNow : Int32} (hf : fX9_drawn p1 p2 c_tree c_moves c_moved c_drawnNow = some (r, o_c_moves, o_c_moved, o_c_drawnNow)) : Met l yX9_drawn (wq (Cond.code yX9_drawn cX9_drawn 5 (some .int))) rmX9_drawn (gP [.ref (ad 0), .int p1, .int p2] (dC, dI) dA (mW dA ad c_tape c_taped c_tree c_bonds c_moves c_handMoves c_moved c_days c_likely c_outOf c_rateNow c_pence c_top c_bottom c_spot c_textLong c_fault c_number c_numberAt c_figures c_written c_wanted c_found c_drawnNow c_worth c_hold c_way c_acts c_sDay c_sUps c_sUp c_sMarks c_paidAll c_isPlayed c_isOn c_handMoved c_handPaid c_regret c_aside c_other c_states c_kept c_keptLong c_keptAt c_isTaking) sz) (gQi (dC, dI) r (mW dA ad c_tape c_taped c_tree c_bonds o_c_moves c_handMoves o_c_moved c_days c_likely c_outOf c_rateNow c_pence c_top c_bottom c_spot c_textLong c_fault c_number c_numberAt c_figures c_written c_wanted c_found o_c_drawnNow c_worth c_hold c_way c_acts c_sDay c_sUps c_sUp c_sMarks c_paidAll c_isPlayed c_isOn c_handMoved c_handPaid c_regret c_aside c_other c_states c_kept c_keptLong c_keptAt c_isTaking) (va_A (mW dA ad c_tape c_taped c_tree c_bonds c_moves c_handMoves c_moved c_days c_likely c_outOf c_rateNow c_pence c_top c_bottom c_spot c_textLong c_fault c_number c_numberAt c_figures c_written c_wanted c_found c_drawnNow c_worth c_hold c_way c_acts c_sDay c_sUps c_sUp c_sMarks c_paidAll c_isPlayed c_isOn c_handMoved c_handPaid c_regret c_aside c_other c_states c_kept c_keptLong c_keptAt c_isTaking) sz)) 0 0 (va_A (mW dA ad c_tape c_taped c_tree c_bonds c_moves c_handMoves c_moved c_days c_likely c_outOf c_rateNow c_pence c_top c_bottom c_spot c_textLong c_fault c_number c_numberAt c_figures c_written c_wanted c_found c_drawnNow c_worth c_hold c_way c_acts c_sDay c_sUps c_sUp c_sMarks c_paidAll c_isPlayed c_isOn c_handMoved c_handPaid c_regret c_aside c_other c_states c_kept c_keptLong c_keptAt c_isTaking) sz) := by
  refine Met.ofW (cc := cX9_drawn) (maxL := 5) (ret := (some .int)) (by decide) rfl ?_
  intro p e s m args below meth c s₁ B hml hv
  obtain ⟨rfl, hsz, hP, hK, hD0⟩ := hv
  have hx := B.exec
  have hb := B.bytes
  have hr := B.returns
  have hts := atoms_spec (ws := wq (Cond.code yX9_drawn cX9_drawn 5 (some .int))) B.pre
  have hown : s.vm.findClass RX9 = some m.cls := findClass_of_methodNamed B.named
  have hlocks := B.notSynchronized
  clear B
  subst hsz
  have hD := hD0.self (sz := s.heap.size)
  generalize hAe : va_A (mW dA ad c_tape c_taped c_tree c_bonds c_moves c_handMoves c_moved c_days c_likely c_outOf c_rateNow c_pence c_top c_bottom c_spot c_textLong c_fault c_number c_numberAt c_figures c_written c_wanted c_found c_drawnNow c_worth c_hold c_way c_acts c_sDay c_sUps c_sUp c_sMarks c_paidAll c_isPlayed c_isOn c_handMoved c_handPaid c_regret c_aside c_other c_states c_kept c_keptLong c_keptAt c_isTaking) s.heap.size = A at hD ⊢
  have hA : ∀ q : Nat, s.heap.size ≤ q → A q := fun q h => by rw [← hAe]; exact Or.inr h
  clear hAe hD0
  have hS : va_S A s.heap s.heap [] := va_S.rf
  have hl := lv_entry ([.ref (ad 0), .int p1, .int p2]) (n := 5) (Nat.le_of_ble_eq_true rfl)
  rw [lg_entry_eq]
  generalize (lg_sl ([.ref (ad 0), .int p1, .int p2]) ++ List.replicate (5 - (lg_sl ([.ref (ad 0), .int p1, .int p2])).length) Slot.unset).toArray = ls at hl ⊢
  have hl : lv_has ls 5 [(0, .ref (ad 0)), (1, .int p1), (2, .int p2)] := hl
  change W p l e rmX9_drawn s m ([.ref (ad 0), .int p1, .int p2] : List Value).toArray below meth c s.heap [] 0 0 _ _
  generalize hQ : MQ below (gQi (dC, dI) r (mW dA ad c_tape c_taped c_tree c_bonds o_c_moves c_handMoves o_c_moved c_days c_likely c_outOf c_rateNow c_pence c_top c_bottom c_spot c_textLong c_fault c_number c_numberAt c_figures c_written c_wanted c_found o_c_drawnNow c_worth c_hold c_way c_acts c_sDay c_sUps c_sUp c_sMarks c_paidAll c_isPlayed c_isOn c_handMoved c_handPaid c_regret c_aside c_other c_states c_kept c_keptLong c_keptAt c_isTaking) A) ([.ref (ad 0), .int p1, .int p2] : List Value).toArray s 0 0 A = Q
  have LP31 : ∀ (n : Nat) (x2 : Int32) (c_tree : Nat → Int32) (c_tape : Nat → Int32) (c_taped : Int32) (c_bonds : Nat → Int32) (c_handMoves : Nat → Int32) (c_moved : Int32) (c_days : Int32) (c_likely : Int32) (c_outOf : Int32) (c_rateNow : Int32) (c_pence : Nat → Int64) (c_top : Int64) (c_bottom : Int64) (c_spot : Int32) (c_textLong : Int32) (c_fault : Int32) (c_number : Int32) (c_numberAt : Int32) (c_figures : Int32) (c_written : Int32) (c_wanted : Int32) (c_found : Int32) (c_worth : Nat → Int64) (c_hold : Nat → Int64) (c_way : Nat → Int64) (c_acts : Nat → Int32) (c_sDay : Int32) (c_sUps : Int32) (c_sUp : Int32) (c_sMarks : Int32) (c_paidAll : Int64) (c_isPlayed : Int32) (c_isOn : Int32) (c_handMoved : Int32) (c_handPaid : Int64) (c_regret : Int64) (c_aside : Nat → Int32) (c_other : Nat → Int64) (c_states : Int32) (c_kept : Nat → Int32) (c_keptLong : Nat → Int64) (c_keptAt : Int32) (c_isTaking : Int32) (x3 : Int32) (x4 : Int32) (c_moves : Nat → Int32) (c_drawnNow : Int32) (o3 : Int32) (o_c_moves : Nat → Int32) (o_c_drawnNow : Int32) (H : Heap) (locs : List Loc) (ls : Array Slot), va_P (dC, dI) vwCl (mW dA ad c_tape c_taped c_tree c_bonds c_moves c_handMoves c_moved c_days c_likely c_outOf c_rateNow c_pence c_top c_bottom c_spot c_textLong c_fault c_number c_numberAt c_figures c_written c_wanted c_found c_drawnNow c_worth c_hold c_way c_acts c_sDay c_sUps c_sUp c_sMarks c_paidAll c_isPlayed c_isOn c_handMoved c_handPaid c_regret c_aside c_other c_states c_kept c_keptLong c_keptAt c_isTaking) H → va_D A (mW dA ad c_tape c_taped c_tree c_bonds c_moves c_handMoves c_moved c_days c_likely c_outOf c_rateNow c_pence c_top c_bottom c_spot c_textLong c_fault c_number c_numberAt c_figures c_written c_wanted c_found c_drawnNow c_worth c_hold c_way c_acts c_sDay c_sUps c_sUp c_sMarks c_paidAll c_isPlayed c_isOn c_handMoved c_handPaid c_regret c_aside c_other c_states c_kept c_keptLong c_keptAt c_isTaking) → va_S A s.heap H locs → lpX9_drawn_31 x2 c_tree n x3 x4 c_moves c_drawnNow = some (o3, o_c_moves, o_c_drawnNow) → lv_has ls 5 [(0, .ref (ad 0)), (2, .int x2), (3, .int x3), (4, .int x4)] → (∀ (H : Heap) (locs : List Loc) (ls : Array Slot), va_P (dC, dI) vwCl (mW dA ad c_tape c_taped c_tree c_bonds o_c_moves c_handMoves c_moved c_days c_likely c_outOf c_rateNow c_pence c_top c_bottom c_spot c_textLong c_fault c_number c_numberAt c_figures c_written c_wanted c_found o_c_drawnNow c_worth c_hold c_way c_acts c_sDay c_sUps c_sUp c_sMarks c_paidAll c_isPlayed c_isOn c_handMoved c_handPaid c_regret c_aside c_other c_states c_kept c_keptLong c_keptAt c_isTaking) H → va_D A (mW dA ad c_tape c_taped c_tree c_bonds o_c_moves c_handMoves c_moved c_days c_likely c_outOf c_rateNow c_pence c_top c_bottom c_spot c_textLong c_fault c_number c_numberAt c_figures c_written c_wanted c_found o_c_drawnNow c_worth c_hold c_way c_acts c_sDay c_sUps c_sUp c_sMarks c_paidAll c_isPlayed c_isOn c_handMoved c_handPaid c_regret c_aside c_other c_states c_kept c_keptLong c_keptAt c_isTaking) → va_S A s.heap H locs → lv_has ls 5 [(0, .ref (ad 0)), (2, .int x2), (3, .int o3)] → W p l e rmX9_drawn s m ([.ref (ad 0), .int p1, .int p2] : List Value).toArray below meth c H locs 0 0 Q (F0 m 86 ls [])) → W p l e rmX9_drawn s m ([.ref (ad 0), .int p1, .int p2] : List Value).toArray below meth c H locs 0 0 Q (F0 m 31 ls []) := by
    intro n
    induction n with
    | zero =>
      intro x2 c_tree c_tape c_taped c_bonds c_handMoves c_moved c_days c_likely c_outOf c_rateNow c_pence c_top c_bottom c_spot c_textLong c_fault c_number c_numberAt c_figures c_written c_wanted c_found c_worth c_hold c_way c_acts c_sDay c_sUps c_sUp c_sMarks c_paidAll c_isPlayed c_isOn c_handMoved c_handPaid c_regret c_aside c_other c_states c_kept c_keptLong c_keptAt c_isTaking x3 x4 c_moves c_drawnNow o3 o_c_moves o_c_drawnNow H locs ls hP hD hS hf hl hk
      cases hf
    | succ n ih31 =>
      intro x2 c_tree c_tape c_taped c_bonds c_handMoves c_moved c_days c_likely c_outOf c_rateNow c_pence c_top c_bottom c_spot c_textLong c_fault c_number c_numberAt c_figures c_written c_wanted c_found c_worth c_hold c_way c_acts c_sDay c_sUps c_sUp c_sMarks c_paidAll c_isPlayed c_isOn c_handMoved c_handPaid c_regret c_aside c_other c_states c_kept c_keptLong c_keptAt c_isTaking x3 x4 c_moves c_drawnNow o3 o_c_moves o_c_drawnNow H locs ls hP hD hS hf hl hk
      rw [lpX9_drawn_31.eq_2] at hf
      refine lv_iload hx hb dX9_drawn_31 (lv_at hl 3 rfl) ?_
      refine lv_iload_n hx hb dX9_drawn_33 rfl (lv_at hl 1 rfl) ?_
      refine lv_icmp_ge (tgt := 86) hx hb dX9_drawn_34 (by decide) (fun k9 => ?_) (fun k9 => ?_)
      · replace hf := ifp k9 hf
        cases hf
        exact hk _ _ _ hP hD hS (lv_sub hl [0, 1, 2] rfl)
      · replace hf := ifn k9 hf
        refine lv_aload_n hx hb dX9_drawn_37 rfl (lv_at hl 0 rfl) ?_
        refine va_get (D := (dC, dI)) (ci := 9) (v := .ref (ad 4)) (C := RX9) (T := TX9) (N := 45) hx hb hts (fun w h => gw_mem (inX9 w h)) hown hK.1 hP 0 rfl rfl 4 (by decide) (hts _ (gw_mem wfX9_20)) (fun _ h9 => h9) rfl dX9_drawn_38 ?_
        refine lv_iload hx hb dX9_drawn_41 (lv_at hl 3 rfl) ?_
        refine lv_aload_n hx hb dX9_drawn_43 rfl (lv_at hl 0 rfl) ?_
        refine lv_aload_n hx hb dX9_drawn_44 rfl (lv_at hl 0 rfl) ?_
        refine va_get (D := (dC, dI)) (ci := 9) (v := .ref (ad 2)) (C := RX9) (T := TX9) (N := 45) hx hb hts (fun w h => gw_mem (inX9 w h)) hown hK.1 hP 0 rfl rfl 2 (by decide) (hts _ (gw_mem wfX9_13)) (fun _ h9 => h9) rfl dX9_drawn_45 ?_
        refine lv_bipush (v := 7) hx hb dX9_drawn_48 (by decide) ?_
        refine va_iald hx hb hK.1 hP 2 0 rfl rfl (okI_in (by decide)) dX9_drawn_50 ?_
        obtain ⟨r10, c_drawnNow_11, v12, hf⟩ := bd2_some hf
        refine gci (va_runV (As := [.int (c_tree (Int32.toNatClampNeg 7))]) (rest := [.int x4, .ref (ad 4)]) ⟨hx, hb, hml, hown, hts⟩ (tX9_draw l dC dI dA ad H.size v12) (ccX9_X9_draw hts ⟨Nat.le_of_ble_eq_true rfl, Nat.le_of_ble_eq_true rfl⟩) (gPreV (ci := 9) (q0 := 0) hP hK hD rfl rfl) rfl rfl hl.1 rfl (lv_room (Nat.le_of_ble_eq_true rfl)) dX9_drawn_51 ⟨Nat.le_of_ble_eq_true rfl, Nat.le_of_ble_eq_true rfl⟩) hD hS hA (fun H locs hP hD hS => ?_)
        refine lv_aload_n hx hb dX9_drawn_54 rfl (lv_at hl 0 rfl) ?_
        refine va_get (D := (dC, dI)) (ci := 9) (v := .ref (ad 2)) (C := RX9) (T := TX9) (N := 45) hx hb hts (fun w h => gw_mem (inX9 w h)) hown hK.1 hP 0 rfl rfl 2 (by decide) (hts _ (gw_mem wfX9_13)) (fun _ h9 => h9) rfl dX9_drawn_55 ?_
        refine lv_bipush (v := 6) hx hb dX9_drawn_58 (by decide) ?_
        refine va_iald hx hb hK.1 hP 2 0 rfl rfl (okI_in (by decide)) dX9_drawn_60 ?_
        obtain ⟨j14, v16, hf⟩ := bd1_some hf
        have J15 : ∀ (H : Heap) (locs : List Loc) (ls : Array Slot), va_P (dC, dI) vwCl (mW dA ad c_tape c_taped c_tree c_bonds c_moves c_handMoves c_moved c_days c_likely c_outOf c_rateNow c_pence c_top c_bottom c_spot c_textLong c_fault c_number c_numberAt c_figures c_written c_wanted c_found c_drawnNow_11 c_worth c_hold c_way c_acts c_sDay c_sUps c_sUp c_sMarks c_paidAll c_isPlayed c_isOn c_handMoved c_handPaid c_regret c_aside c_other c_states c_kept c_keptLong c_keptAt c_isTaking) H → va_D A (mW dA ad c_tape c_taped c_tree c_bonds c_moves c_handMoves c_moved c_days c_likely c_outOf c_rateNow c_pence c_top c_bottom c_spot c_textLong c_fault c_number c_numberAt c_figures c_written c_wanted c_found c_drawnNow_11 c_worth c_hold c_way c_acts c_sDay c_sUps c_sUp c_sMarks c_paidAll c_isPlayed c_isOn c_handMoved c_handPaid c_regret c_aside c_other c_states c_kept c_keptLong c_keptAt c_isTaking) → va_S A s.heap H locs → lv_has ls 5 [(0, .ref (ad 0)), (2, .int x2), (3, .int x3), (4, .int x4)] → W p l e rmX9_drawn s m ([.ref (ad 0), .int p1, .int p2] : List Value).toArray below meth c H locs 0 0 Q (F0 m 69 ls [.int j14, .int x4, .ref (ad 4)]) := by
          intro H locs ls hP hD hS hl
          obtain ⟨h17, hf⟩ := og_some hf
          obtain ⟨w18, ew18⟩ : ∃ y : Nat → Int32, y = upd c_moves (Int32.toNatClampNeg x4) j14 := ⟨_, rfl⟩
          replace hf := nm_at hf ew18
          refine va_iast hx hb hK.1 hP hD hS 4 0 rfl rfl (okI_in h17) dX9_drawn_69 (fun H locs hP hD hS => ?_)
          have hP : va_P (dC, dI) vwCl (mW dA ad c_tape c_taped c_tree c_bonds w18 c_handMoves c_moved c_days c_likely c_outOf c_rateNow c_pence c_top c_bottom c_spot c_textLong c_fault c_number c_numberAt c_figures c_written c_wanted c_found c_drawnNow_11 c_worth c_hold c_way c_acts c_sDay c_sUps c_sUp c_sMarks c_paidAll c_isPlayed c_isOn c_handMoved c_handPaid c_regret c_aside c_other c_states c_kept c_keptLong c_keptAt c_isTaking) H := by rw [ew18]; exact hP
          have hD : va_D A (mW dA ad c_tape c_taped c_tree c_bonds w18 c_handMoves c_moved c_days c_likely c_outOf c_rateNow c_pence c_top c_bottom c_spot c_textLong c_fault c_number c_numberAt c_figures c_written c_wanted c_found c_drawnNow_11 c_worth c_hold c_way c_acts c_sDay c_sUps c_sUp c_sMarks c_paidAll c_isPlayed c_isOn c_handMoved c_handPaid c_regret c_aside c_other c_states c_kept c_keptLong c_keptAt c_isTaking) := by rw [ew18]; exact hD
          refine lv_iload_n hx hb dX9_drawn_70 rfl (lv_at hl 2 rfl) ?_
          refine lv_aload_n hx hb dX9_drawn_71 rfl (lv_at hl 0 rfl) ?_
          refine va_get (D := (dC, dI)) (ci := 9) (v := .ref (ad 4)) (C := RX9) (T := TX9) (N := 45) hx hb hts (fun w h => gw_mem (inX9 w h)) hown hK.1 hP 0 rfl rfl 4 (by decide) (hts _ (gw_mem wfX9_20)) (fun _ h9 => h9) rfl dX9_drawn_72 ?_
          refine lv_iload hx hb dX9_drawn_75 (lv_at hl 3 rfl) ?_
          obtain ⟨h19, hf⟩ := og_some hf
          refine va_iald hx hb hK.1 hP 4 0 rfl rfl (okI_in h19) dX9_drawn_77 ?_
          refine lv_iadd hx hb dX9_drawn_78 ?_
          refine lv_topi (fun w20 ew20 => ?_)
          replace hf := nm_at hf ew20
          refine lv_istore_n (lv' := [(3, .int w20), (0, .ref (ad 0)), (2, .int x2), (4, .int x4)]) hx hb dX9_drawn_79 rfl hl (by decide) rfl (fun ls hl => ?_)
          obtain ⟨w21, ew21⟩ : ∃ y : Int32, y = x4 + 1 := ⟨_, rfl⟩
          replace hf := nm_at hf ew21
          refine lv_iinc (v := w21) (lv' := [(4, .int w21), (3, .int w20), (0, .ref (ad 0)), (2, .int x2)]) hx hb dX9_drawn_80 hl (k := 3) rfl (by rw [ew21]; rfl) (by decide) rfl (fun ls hl => ?_)
          refine lv_goto (tgt := 31) hx hb dX9_drawn_83 (by decide) ?_
          exact ih31 _ _ _ _ _ _ _ _ _ _ _ _ _ _ _ _ _ _ _ _ _ _ _ _ _ _ _ _ _ _ _ _ _ _ _ _ _ _ _ _ _ _ _ _ _ _ _ _ _ _ _ _ _ _ hP hD hS hf (lv_sub hl [2, 3, 1, 0] rfl) hk
        replace hf := v16
        clear v16
        refine lv_icmp_ge (tgt := 68) hx hb dX9_drawn_61 (by decide) (fun k13 => ?_) (fun k13 => ?_)
        · replace hf := ifp k13 hf
          refine lv_iconst (v := 0) hx hb dX9_drawn_68 (by decide) ?_
          cases hf
          exact J15 _ _ _ hP hD hS (lv_sub hl [0, 1, 2, 3] rfl)
        · replace hf := ifn k13 hf
          refine lv_iconst (v := 1) hx hb dX9_drawn_64 (by decide) ?_
          refine lv_goto (tgt := 69) hx hb dX9_drawn_65 (by decide) ?_
          cases hf
          exact J15 _ _ _ hP hD hS (lv_sub hl [0, 1, 2, 3] rfl)
  subst hQ
  unfold fX9_drawn at hf
  refine lv_iload_n hx hb dX9_drawn_0 rfl (lv_at hl 2 rfl) ?_
  refine lv_i2l hx hb dX9_drawn_1 rfl ?_
  refine lv_lconst (v := 0) hx hb dX9_drawn_2 rfl ?_
  refine lv_aload_n hx hb dX9_drawn_3 rfl (lv_at hl 0 rfl) ?_
  refine va_get (D := (dC, dI)) (ci := 9) (v := .ref (ad 2)) (C := RX9) (T := TX9) (N := 45) hx hb hts (fun w h => gw_mem (inX9 w h)) hown hK.1 hP 0 rfl rfl 2 (by decide) (hts _ (gw_mem wfX9_13)) (fun _ h9 => h9) rfl dX9_drawn_4 ?_
  refine lv_iconst (v := 0) hx hb dX9_drawn_7 (by decide) ?_
  refine va_iald hx hb hK.1 hP 2 0 rfl rfl (okI_in (by decide)) dX9_drawn_8 ?_
  refine lv_i2l hx hb dX9_drawn_9 rfl ?_
  obtain ⟨r1, v2, hf⟩ := bd1_some hf
  refine gci0 (va_runS (As := [.long (Int32.toInt64 p2), .long 0, .long (Int32.toInt64 (c_tree (Int32.toNatClampNeg 0)))]) (rest := []) ⟨hx, hb, hml, hown, hts⟩ (tX9_in l dC dI dA s.heap.size v2) (ccX9_X9_in hts ⟨Nat.le_of_ble_eq_true rfl, Nat.le_of_ble_eq_true rfl⟩) (gPreS0 hK) rfl rfl hl.1 rfl (lv_room (Nat.le_of_ble_eq_true rfl)) dX9_drawn_10 ⟨Nat.le_of_ble_eq_true rfl, Nat.le_of_ble_eq_true rfl⟩) hP hS hA (fun H locs hP hS => ?_)
  refine lv_if_ne (tgt := 18) hx hb dX9_drawn_13 (by decide) (fun k3 => ?_) (fun k3 => ?_)
  · replace hf := ifn k3 hf
    refine lv_aload_n hx hb dX9_drawn_18 rfl (lv_at hl 0 rfl) ?_
    refine lv_iload_n hx hb dX9_drawn_19 rfl (lv_at hl 1 rfl) ?_
    refine lv_ldc (v := 65535) hx hb hown (hts _ (gw_mem wkX9_245)) dX9_drawn_20 ?_
    refine lv_iand hx hb dX9_drawn_22 ?_
    refine lv_topi (fun w4 ew4 => ?_)
    replace hf := nm_at hf ew4
    refine va_put (D := (dC, dI)) (ci := 9) (v := .int w4) (ty := .int) (C := RX9) (T := TX9) (N := 45) hx hb hts (fun w h => gw_mem (inX9 w h)) tyX9 tyX9_ok nmX9 hown hK.1 hP hD hS 0 rfl rfl 23 (by decide) (hts _ (gw_mem wfX9_241)) (fun _ h9 => h9) rfl (by decide +kernel) rfl rfl (Nat.le_of_ble_eq_true rfl) dX9_drawn_23 (fun H locs hP hD hS => ?_)
    have hP : va_P (dC, dI) vwCl (mW dA ad c_tape c_taped c_tree c_bonds c_moves c_handMoves c_moved c_days c_likely c_outOf c_rateNow c_pence c_top c_bottom c_spot c_textLong c_fault c_number c_numberAt c_figures c_written c_wanted c_found w4 c_worth c_hold c_way c_acts c_sDay c_sUps c_sUp c_sMarks c_paidAll c_isPlayed c_isOn c_handMoved c_handPaid c_regret c_aside c_other c_states c_kept c_keptLong c_keptAt c_isTaking) H := hP
    have hD : va_D A (mW dA ad c_tape c_taped c_tree c_bonds c_moves c_handMoves c_moved c_days c_likely c_outOf c_rateNow c_pence c_top c_bottom c_spot c_textLong c_fault c_number c_numberAt c_figures c_written c_wanted c_found w4 c_worth c_hold c_way c_acts c_sDay c_sUps c_sUp c_sMarks c_paidAll c_isPlayed c_isOn c_handMoved c_handPaid c_regret c_aside c_other c_states c_kept c_keptLong c_keptAt c_isTaking) := hD
    refine lv_iconst (v := 0) hx hb dX9_drawn_26 (by decide) ?_
    refine lv_istore_n (lv' := [(3, .int 0), (0, .ref (ad 0)), (1, .int p1), (2, .int p2)]) hx hb dX9_drawn_27 rfl hl (by decide) rfl (fun ls hl => ?_)
    refine lv_iconst (v := 0) hx hb dX9_drawn_28 (by decide) ?_
    refine lv_istore (lv' := [(4, .int 0), (3, .int 0), (0, .ref (ad 0)), (1, .int p1), (2, .int p2)]) hx hb dX9_drawn_29 hl (by decide) rfl (fun ls hl => ?_)
    obtain ⟨x5, c_moves_6, c_drawnNow_7, v8, hf⟩ := bd3_some hf
    refine LP31 FU _ _ _ _ _ _ _ _ _ _ _ _ _ _ _ _ _ _ _ _ _ _ _ _ _ _ _ _ _ _ _ _ _ _ _ _ _ _ _ _ _ _ _ _ _ _ _ _ _ _ _ _ _ _ hP hD hS v8 (lv_sub hl [2, 4, 1, 0] rfl) (fun H locs ls hP hD hS hl => ?_)
    refine lv_aload_n hx hb dX9_drawn_86 rfl (lv_at hl 0 rfl) ?_
    refine lv_iload_n hx hb dX9_drawn_87 rfl (lv_at hl 1 rfl) ?_
    refine va_put (D := (dC, dI)) (ci := 9) (v := .int p2) (ty := .int) (C := RX9) (T := TX9) (N := 45) hx hb hts (fun w h => gw_mem (inX9 w h)) tyX9 tyX9_ok nmX9 hown hK.1 hP hD hS 0 rfl rfl 6 (by decide) (hts _ (gw_mem wfX9_76)) (fun _ h9 => h9) rfl (by decide +kernel) rfl rfl (Nat.le_of_ble_eq_true rfl) dX9_drawn_88 (fun H locs hP hD hS => ?_)
    have hP : va_P (dC, dI) vwCl (mW dA ad c_tape c_taped c_tree c_bonds c_moves_6 c_handMoves p2 c_days c_likely c_outOf c_rateNow c_pence c_top c_bottom c_spot c_textLong c_fault c_number c_numberAt c_figures c_written c_wanted c_found c_drawnNow_7 c_worth c_hold c_way c_acts c_sDay c_sUps c_sUp c_sMarks c_paidAll c_isPlayed c_isOn c_handMoved c_handPaid c_regret c_aside c_other c_states c_kept c_keptLong c_keptAt c_isTaking) H := hP
    have hD : va_D A (mW dA ad c_tape c_taped c_tree c_bonds c_moves_6 c_handMoves p2 c_days c_likely c_outOf c_rateNow c_pence c_top c_bottom c_spot c_textLong c_fault c_number c_numberAt c_figures c_written c_wanted c_found c_drawnNow_7 c_worth c_hold c_way c_acts c_sDay c_sUps c_sUp c_sMarks c_paidAll c_isPlayed c_isOn c_handMoved c_handPaid c_regret c_aside c_other c_states c_kept c_keptLong c_keptAt c_isTaking) := hD
    refine lv_iload_n hx hb dX9_drawn_91 rfl (lv_at hl 2 rfl) ?_
    cases hf
    exact W.iret hx hb hr (fun t ht _ => gqi hP hD hS ht) hS.2.2 dX9_drawn_92
  · replace hf := ifp k3 hf
    refine lv_iconst (v := (-1)) hx hb dX9_drawn_16 (by decide) ?_
    cases hf
    exact W.iret hx hb hr (fun t ht _ => gqi hP hD hS ht) hS.2.2 dX9_drawn_17
