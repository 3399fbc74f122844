abbrev rmX9_told2 : Room := { frames := 0, cells := 0, slots := 0, locals := 0 }
set_option maxHeartbeats 4000000 in
set_option maxRecDepth 100000 in
theorem tX9_told2 (l : Launch) (dC : Nat → ClassId) (dI : Nat → Nat → Nat) (dA : Nat → ClassId) (ad : Nat → Nat) (sz : Nat) {p1 : Int32} {c_tape : Nat → Int32} {c_taped : Int32} {c_tree : Nat → Int32} {c_bonds : Nat → Int32} {c_moves : Nat → Int32} {c_handMoves : Nat → Int32} {c_moved : Int32} {c_days : Int32} {c_likely : Int32} {c_outOf : Int32} {c_rateNow : Int32} {c_pence : Nat → Int64} {c_top : Int64} {c_bottom : Int64} {c_spot : Int32} {c_textLong : Int32} {c_fault : Int32} {c_number : Int32} {c_numberAt : Int32} {c_figures : Int32} {c_written : Int32} {c_wanted : Int32} {c_found : Int32} {c_drawnNow : Int32} {c_worth : Nat → Int64} {c_hold : Nat → Int64} {c_way : Nat → Int64} {c_acts : Nat → Int32} {c_sDay : Int32} {c_sUps : Int32} {c_sUp : Int32} {c_sMarks : Int32} {c_paidAll : Int64} {c_isPlayed : Int32} {c_isOn : Int32} {c_handMoved : Int32} {c_handPaid : Int64} {c_regret : Int64} {c_aside : Nat → Int32} {c_other : Nat → Int64} {c_states : Int32} {c_kept : Nat → Int32} {c_keptLong : Nat → Int64} {c_keptAt : Int32} {c_isTaking : Int32} {r : Int32} (hf : fX9_told2 p1 = some (r)) : Met l yX9_told2 (wq (Cond.code yX9_told2 cX9_told2 2 (some .int))) rmX9_told2 (gP [.ref (ad 0), .int p1] (dC, dI) dA (mW dA ad c_tape c_taped c_tree c_bonds c_moves c_handMoves c_moved c_days c_likely c_outOf c_rateNow c_pence c_top c_bottom c_spot c_textLong c_fault c_number c_numberAt c_figures c_written c_wanted c_found c_drawnNow c_worth c_hold c_way c_acts c_sDay c_sUps c_sUp c_sMarks c_paidAll c_isPlayed c_isOn c_handMoved c_handPaid c_regret c_aside c_other c_states c_kept c_keptLong c_keptAt c_isTaking) sz) (gQi (dC, dI) r (mW dA ad c_tape c_taped c_tree c_bonds c_moves c_handMoves c_moved c_days c_likely c_outOf c_rateNow c_pence c_top c_bottom c_spot c_textLong c_fault c_number c_numberAt c_figures c_written c_wanted c_found c_drawnNow c_worth c_hold c_way c_acts c_sDay c_sUps c_sUp c_sMarks c_paidAll c_isPlayed c_isOn c_handMoved c_handPaid c_regret c_aside c_other c_states c_kept c_keptLong c_keptAt c_isTaking) (va_A (mW dA ad c_tape c_taped c_tree c_bonds c_moves c_handMoves c_moved c_days c_likely c_outOf c_rateNow c_pence c_top c_bottom c_spot c_textLong c_fault c_number c_numberAt c_figures c_written c_wanted c_found c_drawnNow c_worth c_hold c_way c_acts c_sDay c_sUps c_sUp c_sMarks c_paidAll c_isPlayed c_isOn c_handMoved c_handPaid c_regret c_aside c_other c_states c_kept c_keptLong c_keptAt c_isTaking) sz)) 0 0 (va_A (mW dA ad c_tape c_taped c_tree c_bonds c_moves c_handMoves c_moved c_days c_likely c_outOf c_rateNow c_pence c_top c_bottom c_spot c_textLong c_fault c_number c_numberAt c_figures c_written c_wanted c_found c_drawnNow c_worth c_hold c_way c_acts c_sDay c_sUps c_sUp c_sMarks c_paidAll c_isPlayed c_isOn c_handMoved c_handPaid c_regret c_aside c_other c_states c_kept c_keptLong c_keptAt c_isTaking) sz) := by
  refine Met.ofW (cc := cX9_told2) (maxL := 2) (ret := (some .int)) (by decide) rfl ?_
  intro p e s m args below meth c s₁ B hml hv
  obtain ⟨rfl, hsz, hP, hK, hD0⟩ := hv
  have hx := B.exec
  have hb := B.bytes
  have hr := B.returns
  have hts := atoms_spec (ws := wq (Cond.code yX9_told2 cX9_told2 2 (some .int))) B.pre
  have hown : s.vm.findClass RX9 = some m.cls := findClass_of_methodNamed B.named
  have hlocks := B.notSynchronized
  clear B
  subst hsz
  have hD := hD0.self (sz := s.heap.size)
  generalize hAe : va_A (mW dA ad c_tape c_taped c_tree c_bonds c_moves c_handMoves c_moved c_days c_likely c_outOf c_rateNow c_pence c_top c_bottom c_spot c_textLong c_fault c_number c_numberAt c_figures c_written c_wanted c_found c_drawnNow c_worth c_hold c_way c_acts c_sDay c_sUps c_sUp c_sMarks c_paidAll c_isPlayed c_isOn c_handMoved c_handPaid c_regret c_aside c_other c_states c_kept c_keptLong c_keptAt c_isTaking) s.heap.size = A at hD ⊢
  have hA : ∀ q : Nat, s.heap.size ≤ q → A q := fun q h => by rw [← hAe]; exact Or.inr h
  clear hAe hD0
  have hS : va_S A s.heap s.heap [] := va_S.rf
  have hl := lv_entry ([.ref (ad 0), .int p1]) (n := 2) (Nat.le_of_ble_eq_true rfl)
  rw [lg_entry_eq]
  generalize (lg_sl ([.ref (ad 0), .int p1]) ++ List.replicate (2 - (lg_sl ([.ref (ad 0), .int p1])).length) Slot.unset).toArray = ls at hl ⊢
  have hl : lv_has ls 2 [(0, .ref (ad 0)), (1, .int p1)] := hl
  change W p l e rmX9_told2 s m ([.ref (ad 0), .int p1] : List Value).toArray below meth c s.heap [] 0 0 _ _
  unfold fX9_told2 at hf
  refine lv_iload_n hx hb dX9_told2_0 rfl (lv_at hl 1 rfl) ?_
  refine lv_iconst (v := (-1)) hx hb dX9_told2_1 (by decide) ?_
  obtain ⟨j2, v4, hf⟩ := bd1_some hf
  have J3 : ∀ (H : Heap) (locs : List Loc) (ls : Array Slot), va_P (dC, dI) vwCl (mW dA ad c_tape c_taped c_tree c_bonds c_moves c_handMoves c_moved c_days c_likely c_outOf c_rateNow c_pence c_top c_bottom c_spot c_textLong c_fault c_number c_numberAt c_figures c_written c_wanted c_found c_drawnNow c_worth c_hold c_way c_acts c_sDay c_sUps c_sUp c_sMarks c_paidAll c_isPlayed c_isOn c_handMoved c_handPaid c_regret c_aside c_other c_states c_kept c_keptLong c_keptAt c_isTaking) H → va_D A (mW dA ad c_tape c_taped c_tree c_bonds c_moves c_handMoves c_moved c_days c_likely c_outOf c_rateNow c_pence c_top c_bottom c_spot c_textLong c_fault c_number c_numberAt c_figures c_written c_wanted c_found c_drawnNow c_worth c_hold c_way c_acts c_sDay c_sUps c_sUp c_sMarks c_paidAll c_isPlayed c_isOn c_handMoved c_handPaid c_regret c_aside c_other c_states c_kept c_keptLong c_keptAt c_isTaking) → va_S A s.heap H locs → lv_has ls 2 [] → W p l e rmX9_told2 s m ([.ref (ad 0), .int p1] : List Value).toArray below meth c H locs 0 0 (MQ below (gQi (dC, dI) r (mW dA ad c_tape c_taped c_tree c_bonds c_moves c_handMoves c_moved c_days c_likely c_outOf c_rateNow c_pence c_top c_bottom c_spot c_textLong c_fault c_number c_numberAt c_figures c_written c_wanted c_found c_drawnNow c_worth c_hold c_way c_acts c_sDay c_sUps c_sUp c_sMarks c_paidAll c_isPlayed c_isOn c_handMoved c_handPaid c_regret c_aside c_other c_states c_kept c_keptLong c_keptAt c_isTaking) A) ([.ref (ad 0), .int p1] : List Value).toArray s 0 0 A) (F0 m 11 ls [.int j2]) := by
    intro H locs ls hP hD hS hl
    cases hf
    exact W.iret hx hb hr (fun t ht _ => gqi hP hD hS ht) hS.2.2 dX9_told2_11
  replace hf := v4
  clear v4
  refine lv_icmp_ne (tgt := 10) hx hb dX9_told2_2 (by decide) (fun k1 => ?_) (fun k1 => ?_)
  · replace hf := ifn k1 hf
    refine lv_iload_n hx hb dX9_told2_10 rfl (lv_at hl 1 rfl) ?_
    cases hf
    exact J3 _ _ _ hP hD hS (lv_sub hl [] rfl)
  · replace hf := ifp k1 hf
    refine lv_bipush (v := (-2)) hx hb dX9_told2_5 (by decide) ?_
    refine lv_goto (tgt := 11) hx hb dX9_told2_7 (by decide) ?_
    cases hf
    exact J3 _ _ _ hP hD hS (lv_sub hl [] rfl)
theorem ccX9_X9_told2 {R : Room} {s : State} {args : Array Value} {c0 : Cond} (ht : ∀ w ∈ wq c0, w.before args s = true) (hR : rmX9_told2.frames + 1 ≤ R.frames ∧ 8 + (2 + 11) + rmX9_told2.locals ≤ R.locals) : CallW R s args RX9 RX9 134 yX9_told2 cX9_told2 2 (some .int) (wq (.code yX9_told2 cX9_told2 2 (some .int))) rmX9_told2 0 0 1 := gCW 1 ht wcX9_told2 wmX9_134 wiX9_told2 weX9_told2 wnX9 (by decide +kernel) rfl rfl hR
abbrev rmX9_tells : Room := { frames := 2, cells := 0, slots := 0, locals := 45 }
set_option maxHeartbeats 4000000 in
set_option maxRecDepth 100000 in
theorem tX9_tells (l : Launch) (dC : Nat → ClassId) (dI : Nat → Nat → Nat) (dA : Nat → ClassId) (ad : Nat → Nat) (sz : Nat) {p1 : Int32} {p2 : Int32} {p3 : Int32} {p4 : Int32} {c_tape : Nat → Int32} {c_taped : Int32} {c_tree : Nat → Int32} {c_bonds : Nat → Int32} {c_moves : Nat → Int32} {c_handMoves : Nat → Int32} {c_moved : Int32} {c_days : Int32} {c_likely : Int32} {c_outOf : Int32} {c_rateNow : Int32} {c_pence : Nat → Int64} {c_top : Int64} {c_bottom : Int64} {c_spot : Int32} {c_textLong : Int32} {c_fault : Int32} {c_number : Int32} {c_numberAt : Int32} {c_figures : Int32} {c_written : Int32} {c_wanted : Int32} {c_found : Int32} {c_drawnNow : Int32} {c_worth : Nat → Int64} {c_hold : Nat → Int64} {c_way : Nat → Int64} {c_acts : Nat → Int32} {c_sDay : Int32} {c_sUps : Int32} {c_sUp : Int32} {c_sMarks : Int32} {c_paidAll : Int64} {c_isPlayed : Int32} {c_isOn : Int32} {c_handMoved : Int32} {c_handPaid : Int64} {c_regret : Int64} {c_aside : Nat → Int32} {c_other : Nat → Int64} {c_states : Int32} {c_kept : Nat → Int32} {c_keptLong : Nat → Int64} {c_keptAt : Int32} {c_isTaking : Int32} {r : Int32} {o_c_bonds : Nat → Int32} (hf : fX9_tells p1 p2 p3 p4 c_bonds = some (r, o_c_bonds)) : Met l yX9_tells (wq (Cond.code yX9_tells cX9_tells 6 (some .int))) rmX9_tells (gP [.ref (ad 0), .int p1, .int p2, .int p3, .int p4] (dC, dI) dA (mW dA ad c_tape c_taped c_tree c_bonds c_moves c_handMoves c_moved c_days c_likely c_outOf c_rateNow c_pence c_top c_bottom c_spot c_textLong c_fault c_number c_numberAt c_figures c_written c_wanted c_found c_drawnNow c_worth c_hold c_way c_acts c_sDay c_sUps c_sUp c_sMarks c_paidAll c_isPlayed c_isOn c_handMoved c_handPaid c_regret c_aside c_other c_states c_kept c_keptLong c_keptAt c_isTaking) sz) (gQi (dC, dI) r (mW dA ad c_tape c_taped c_tree o_c_bonds c_moves c_handMoves c_moved c_days c_likely c_outOf c_rateNow c_pence c_top c_bottom c_spot c_textLong c_fault c_number c_numberAt c_figures c_written c_wanted c_found c_drawnNow c_worth c_hold c_way c_acts c_sDay c_sUps c_sUp c_sMarks c_paidAll c_isPlayed c_isOn c_handMoved c_handPaid c_regret c_aside c_other c_states c_kept c_keptLong c_keptAt c_isTaking) (va_A (mW dA ad c_tape c_taped c_tree c_bonds c_moves c_handMoves c_moved c_days c_likely c_outOf c_rateNow c_pence c_top c_bottom c_spot c_textLong c_fault c_number c_numberAt c_figures c_written c_wanted c_found c_drawnNow c_worth c_hold c_way c_acts c_sDay c_sUps c_sUp c_sMarks c_paidAll c_isPlayed c_isOn c_handMoved c_handPaid c_regret c_aside c_other c_states c_kept c_keptLong c_keptAt c_isTaking) sz)) 0 0 (va_A (mW dA ad c_tape c_taped c_tree c_bonds c_moves c_handMoves c_moved c_days c_likely c_outOf c_rateNow c_pence c_top c_bottom c_spot c_textLong c_fault c_number c_numberAt c_figures c_written c_wanted c_found c_drawnNow c_worth c_hold c_way c_acts c_sDay c_sUps c_sUp c_sMarks c_paidAll c_isPlayed c_isOn c_handMoved c_handPaid c_regret c_aside c_other c_states c_kept c_keptLong c_keptAt c_isTaking) sz) := by
  refine Met.ofW (cc := cX9_tells) (maxL := 6) (ret := (some .int)) (by decide) rfl ?_
  intro p e s m args below meth c s₁ B hml hv
  obtain ⟨rfl, hsz, hP, hK, hD0⟩ := hv
  have hx := B.exec
  have hb := B.bytes
  have hr := B.returns
  have hts := atoms_spec (ws := wq (Cond.code yX9_tells cX9_tells 6 (some .int))) B.pre
  have hown : s.vm.findClass RX9 = some m.cls := findClass_of_methodNamed B.named
  have hlocks := B.notSynchronized
  clear B
  subst hsz
  have hD := hD0.self (sz := s.heap.size)
  generalize hAe : va_A (mW dA ad c_tape c_taped c_tree c_bonds c_moves c_handMoves c_moved c_days c_likely c_outOf c_rateNow c_pence c_top c_bottom c_spot c_textLong c_fault c_number c_numberAt c_figures c_written c_wanted c_found c_drawnNow c_worth c_hold c_way c_acts c_sDay c_sUps c_sUp c_sMarks c_paidAll c_isPlayed c_isOn c_handMoved c_handPaid c_regret c_aside c_other c_states c_kept c_keptLong c_keptAt c_isTaking) s.heap.size = A at hD ⊢
  have hA : ∀ q : Nat, s.heap.size ≤ q → A q := fun q h => by rw [← hAe]; exact Or.inr h
  clear hAe hD0
  have hS : va_S A s.heap s.heap [] := va_S.rf
  have hl := lv_entry ([.ref (ad 0), .int p1, .int p2, .int p3, .int p4]) (n := 6) (Nat.le_of_ble_eq_true rfl)
  rw [lg_entry_eq]
  generalize (lg_sl ([.ref (ad 0), .int p1, .int p2, .int p3, .int p4]) ++ List.replicate (6 - (lg_sl ([.ref (ad 0), .int p1, .int p2, .int p3, .int p4])).length) Slot.unset).toArray = ls at hl ⊢
  have hl : lv_has ls 6 [(0, .ref (ad 0)), (1, .int p1), (2, .int p2), (3, .int p3), (4, .int p4)] := hl
  change W p l e rmX9_tells s m ([.ref (ad 0), .int p1, .int p2, .int p3, .int p4] : List Value).toArray below meth c s.heap [] 0 0 _ _
  unfold fX9_tells at hf
  refine lv_iload_n hx hb dX9_tells_0 rfl (lv_at hl 1 rfl) ?_
  obtain ⟨r1, v2, hf⟩ := bd1_some hf
  refine gci0 (va_runS (As := [.int p1]) (rest := []) ⟨hx, hb, hml, hown, hts⟩ (tX9_isBond l dC dI dA s.heap.size v2) (ccX9_X9_isBond hts ⟨Nat.le_of_ble_eq_true rfl, Nat.le_of_ble_eq_true rfl⟩) (gPreS0 hK) rfl rfl hl.1 rfl (lv_room (Nat.le_of_ble_eq_true rfl)) dX9_tells_1 ⟨Nat.le_of_ble_eq_true rfl, Nat.le_of_ble_eq_true rfl⟩) hP hS hA (fun H locs hP hS => ?_)
  refine lv_if_eq (tgt := 34) hx hb dX9_tells_4 (by decide) (fun k3 => ?_) (fun k3 => ?_)
  · replace hf := ifp k3 hf
    refine lv_iconst (v := (-1)) hx hb dX9_tells_34 (by decide) ?_
    cases hf
    exact W.iret hx hb hr (fun t ht _ => gqi hP hD hS ht) hS.2.2 dX9_tells_35
  · replace hf := ifn k3 hf
    refine lv_iload_n hx hb dX9_tells_7 rfl (lv_at hl 3 rfl) ?_
    refine lv_i2l hx hb dX9_tells_8 rfl ?_
    refine lv_lconst (v := 0) hx hb dX9_tells_9 rfl ?_
    refine lv_ldc2 (v := 5) hx hb hown (hts _ (gw_mem wkX9_132)) dX9_tells_10 ?_
    obtain ⟨r4, v5, hf⟩ := bd1_some hf
    refine gci0 (va_runS (As := [.long (Int32.toInt64 p3), .long 0, .long 5]) (rest := []) ⟨hx, hb, hml, hown, hts⟩ (tX9_in l dC dI dA H.size v5) (ccX9_X9_in hts ⟨Nat.le_of_ble_eq_true rfl, Nat.le_of_ble_eq_true rfl⟩) (gPreS0 hK) rfl rfl hl.1 rfl (lv_room (Nat.le_of_ble_eq_true rfl)) dX9_tells_13 ⟨Nat.le_of_ble_eq_true rfl, Nat.le_of_ble_eq_true rfl⟩) hP hS hA (fun H locs hP hS => ?_)
    refine lv_if_eq (tgt := 34) hx hb dX9_tells_16 (by decide) (fun k6 => ?_) (fun k6 => ?_)
    · replace hf := ifp k6 hf
      refine lv_iconst (v := (-1)) hx hb dX9_tells_34 (by decide) ?_
      cases hf
      exact W.iret hx hb hr (fun t ht _ => gqi hP hD hS ht) hS.2.2 dX9_tells_35
    · replace hf := ifn k6 hf
      refine lv_iload hx hb dX9_tells_19 (lv_at hl 4 rfl) ?_
      refine lv_i2l hx hb dX9_tells_21 rfl ?_
      refine lv_ldc2 (v := (-1)) hx hb hown (hts _ (gw_mem wkX9_116)) dX9_tells_22 ?_
      refine lv_ldc2 (v := 1000000) hx hb hown (hts _ (gw_mem wkX9_130)) dX9_tells_25 ?_
      obtain ⟨r7, v8, hf⟩ := bd1_some hf
      refine gci0 (va_runS (As := [.long (Int32.toInt64 p4), .long (-1), .long 1000000]) (rest := []) ⟨hx, hb, hml, hown, hts⟩ (tX9_in l dC dI dA H.size v8) (ccX9_X9_in hts ⟨Nat.le_of_ble_eq_true rfl, Nat.le_of_ble_eq_true rfl⟩) (gPreS0 hK) rfl rfl hl.1 rfl (lv_room (Nat.le_of_ble_eq_true rfl)) dX9_tells_28 ⟨Nat.le_of_ble_eq_true rfl, Nat.le_of_ble_eq_true rfl⟩) hP hS hA (fun H locs hP hS => ?_)
      refine lv_if_ne (tgt := 36) hx hb dX9_tells_31 (by decide) (fun k9 => ?_) (fun k9 => ?_)
      · replace hf := ifn k9 hf
        refine lv_aload_n hx hb dX9_tells_36 rfl (lv_at hl 0 rfl) ?_
        refine lv_iload_n hx hb dX9_tells_37 rfl (lv_at hl 1 rfl) ?_
        refine lv_iload_n hx hb dX9_tells_38 rfl (lv_at hl 2 rfl) ?_
        refine lv_iload_n hx hb dX9_tells_39 rfl (lv_at hl 3 rfl) ?_
        refine lv_iadd hx hb dX9_tells_40 ?_
        obtain ⟨r10, v11, hf⟩ := bd1_some hf
        refine gci (va_runV (As := [.int p1, .int (p2 + p3)]) (rest := []) ⟨hx, hb, hml, hown, hts⟩ (tX9_of l dC dI dA ad H.size v11) (ccX9_X9_of hts ⟨Nat.le_of_ble_eq_true rfl, Nat.le_of_ble_eq_true rfl⟩) (gPreV (ci := 9) (q0 := 0) hP hK hD rfl rfl) rfl rfl hl.1 rfl (lv_room (Nat.le_of_ble_eq_true rfl)) dX9_tells_41 ⟨Nat.le_of_ble_eq_true rfl, Nat.le_of_ble_eq_true rfl⟩) hD hS hA (fun H locs hP hD hS => ?_)
        refine lv_istore (lv' := [(5, .int r10), (0, .ref (ad 0)), (1, .int p1), (2, .int p2), (3, .int p3), (4, .int p4)]) hx hb dX9_tells_44 hl (by decide) rfl (fun ls hl => ?_)
        refine lv_aload_n hx hb dX9_tells_46 rfl (lv_at hl 1 rfl) ?_
        refine lv_iload_n hx hb dX9_tells_47 rfl (lv_at hl 2 rfl) ?_
        refine lv_iload_n hx hb dX9_tells_48 rfl (lv_at hl 3 rfl) ?_
        refine lv_iload_n hx hb dX9_tells_49 rfl (lv_at hl 4 rfl) ?_
        refine lv_iadd hx hb dX9_tells_50 ?_
        refine lv_iload hx hb dX9_tells_51 (lv_at hl 5 rfl) ?_
        obtain ⟨c_bonds_12, v13, hf⟩ := bd1_some hf
        refine gcv (va_runV (As := [.int p1, .int (p2 + p3), .int p4]) (rest := []) ⟨hx, hb, hml, hown, hts⟩ (tX9_sets l dC dI dA ad H.size v13) (ccX9_X9_sets hts ⟨Nat.le_of_ble_eq_true rfl, Nat.le_of_ble_eq_true rfl⟩) (gPreV (ci := 9) (q0 := 0) hP hK hD rfl rfl) rfl rfl hl.1 rfl (lv_room (Nat.le_of_ble_eq_true rfl)) dX9_tells_53 ⟨Nat.le_of_ble_eq_true rfl, Nat.le_of_ble_eq_true rfl⟩) hD hS hA (fun H locs hP hD hS => ?_)
        refine lv_aload_n hx hb dX9_tells_56 rfl (lv_at hl 1 rfl) ?_
        refine lv_iload hx hb dX9_tells_57 (lv_at hl 0 rfl) ?_
        obtain ⟨r14, v15, hf⟩ := bd1_some hf
        refine gci (va_runV (As := [.int r10]) (rest := []) ⟨hx, hb, hml, hown, hts⟩ (tX9_told2 l dC dI dA ad H.size v15) (ccX9_X9_told2 hts ⟨Nat.le_of_ble_eq_true rfl, Nat.le_of_ble_eq_true rfl⟩) (gPreV (ci := 9) (q0 := 0) hP hK hD rfl rfl) rfl rfl hl.1 rfl (lv_room (Nat.le_of_ble_eq_true rfl)) dX9_tells_59 ⟨Nat.le_of_ble_eq_true rfl, Nat.le_of_ble_eq_true rfl⟩) hD hS hA (fun H locs hP hD hS => ?_)
        cases hf
        exact W.iret hx hb hr (fun t ht _ => gqi hP hD hS ht) hS.2.2 dX9_tells_62
      · replace hf := ifp k9 hf
        refine lv_iconst (v := (-1)) hx hb dX9_tells_34 (by decide) ?_
        cases hf
        exact W.iret hx hb hr (fun t ht _ => gqi hP hD hS ht) hS.2.2 dX9_tells_35
theorem ccX9_X9_tells {R : Room} {s : State} {args : Array Value} {c0 : Cond} (ht : ∀ w ∈ wq c0, w.before args s = true) (hR : rmX9_tells.frames + 1 ≤ R.frames ∧ 8 + (6 + 11) + rmX9_tells.locals ≤ R.locals) : CallW R s args RX9 RX9 138 yX9_tells cX9_tells 6 (some .int) (wq (.code yX9_tells cX9_tells 6 (some .int))) rmX9_tells 0 0 4 := gCW 4 ht wcX9_tells wmX9_138 wiX9_tells weX9_tells wnX9 (by decide +kernel) rfl rfl hR
abbrev rmX9_call : Room := { frames := 3, cells := 0, slots := 0, locals := 70 }
set_option maxHeartbeats 4000000 in
set_option maxRecDepth 100000 in
theorem tX9_call (l : Launch) (dC : Nat → ClassId) (dI : Nat → Nat → Nat) (dA : Nat → ClassId) (ad : Nat → Nat) (sz : Nat) {p1 : Int32} {p2 : Int32} {p3 : Int32} {c_tape : Nat → Int32} {c_taped : Int32} {c_tree : Nat → Int32} {c_bonds : Nat → Int32} {c_moves : Nat → Int32} {c_handMoves : Nat → Int32} {c_moved : Int32} {c_days : Int32} {c_likely : Int32} {c_outOf : Int32} {c_rateNow : Int32} {c_pence : Nat → Int64} {c_top : Int64} {c_bottom : Int64} {c_spot : Int32} {c_textLong : Int32} {c_fault : Int32} {c_number : Int32} {c_numberAt : Int32} {c_figures : Int32} {c_written : Int32} {c_wanted : Int32} {c_found : Int32} {c_drawnNow : Int32} {c_worth : Nat → Int64} {c_hold : Nat → Int64} {c_way : Nat → Int64} {c_acts : Nat → Int32} {c_sDay : Int32} {c_sUps : Int32} {c_sUp : Int32} {c_sMarks : Int32} {c_paidAll : Int64} {c_isPlayed : Int32} {c_isOn : Int32} {c_handMoved : Int32} {c_handPaid : Int64} {c_regret : Int64} {c_aside : Nat → Int32} {c_other : Nat → Int64} {c_states : Int32} {c_kept : Nat → Int32} {c_keptLong : Nat → Int64} {c_keptAt : Int32} {c_isTaking : Int32} {r : Int32} {o_c_bonds : Nat → Int32} (hf : fX9_call p1 p2 p3 c_bonds = some (r, o_c_bonds)) : Met l yX9_call (wq (Cond.code yX9_call cX9_call 4 (some .int))) rmX9_call (gP [.ref (ad 0), .int p1, .int p2, .int p3] (dC, dI) dA (mW dA ad c_tape c_taped c_tree c_bonds c_moves c_handMoves c_moved c_days c_likely c_outOf c_rateNow c_pence c_top c_bottom c_spot c_textLong c_fault c_number c_numberAt c_figures c_written c_wanted c_found c_drawnNow c_worth c_hold c_way c_acts c_sDay c_sUps c_sUp c_sMarks c_paidAll c_isPlayed c_isOn c_handMoved c_handPaid c_regret c_aside c_other c_states c_kept c_keptLong c_keptAt c_isTaking) sz) (gQi (dC, dI) r (mW dA ad c_tape c_taped c_tree o_c_bonds c_moves c_handMoves c_moved c_days c_likely c_outOf c_rateNow c_pence c_top c_bottom c_spot c_textLong c_fault c_number c_numberAt c_figures c_written c_wanted c_found c_drawnNow c_worth c_hold c_way c_acts c_sDay c_sUps c_sUp c_sMarks c_paidAll c_isPlayed c_isOn c_handMoved c_handPaid c_regret c_aside c_other c_states c_kept c_keptLong c_keptAt c_isTaking) (va_A (mW dA ad c_tape c_taped c_tree c_bonds c_moves c_handMoves c_moved c_days c_likely c_outOf c_rateNow c_pence c_top c_bottom c_spot c_textLong c_fault c_number c_numberAt c_figures c_written c_wanted c_found c_drawnNow c_worth c_hold c_way c_acts c_sDay c_sUps c_sUp c_sMarks c_paidAll c_isPlayed c_isOn c_handMoved c_handPaid c_regret c_aside c_other c_states c_kept c_keptLong c_keptAt c_isTaking) sz)) 0 0 (va_A (mW dA ad c_tape c_taped c_tree c_bonds c_moves c_handMoves c_moved c_days c_likely c_outOf c_rateNow c_pence c_top c_bottom c_spot c_textLong c_fault c_number c_numberAt c_figures c_written c_wanted c_found c_drawnNow c_worth c_hold c_way c_acts c_sDay c_sUps c_sUp c_sMarks c_paidAll c_isPlayed c_isOn c_handMoved c_handPaid c_regret c_aside c_other c_states c_kept c_keptLong c_keptAt c_isTaking) sz) := by
  refine Met.ofW (cc := cX9_call) (maxL := 4) (ret := (some .int)) (by decide) rfl ?_
  intro p e s m args below meth c s₁ B hml hv
  obtain ⟨rfl, hsz, hP, hK, hD0⟩ := hv
  have hx := B.exec
  have hb := B.bytes
  have hr := B.returns
  have hts := atoms_spec (ws := wq (Cond.code yX9_call cX9_call 4 (some .int))) B.pre
  have hown : s.vm.findClass RX9 = some m.cls := findClass_of_methodNamed B.named
  have hlocks := B.notSynchronized
  clear B
  subst hsz
  have hD := hD0.self (sz := s.heap.size)
  generalize hAe : va_A (mW dA ad c_tape c_taped c_tree c_bonds c_moves c_handMoves c_moved c_days c_likely c_outOf c_rateNow c_pence c_top c_bottom c_spot c_textLong c_fault c_number c_numberAt c_figures c_written c_wanted c_found c_drawnNow c_worth c_hold c_way c_acts c_sDay c_sUps c_sUp c_sMarks c_paidAll c_isPlayed c_isOn c_handMoved c_handPaid c_regret c_aside c_other c_states c_kept c_keptLong c_keptAt c_isTaking) s.heap.size = A at hD ⊢
  have hA : ∀ q : Nat, s.heap.size ≤ q → A q := fun q h => by rw [← hAe]; exact Or.inr h
  clear hAe hD0
  have hS : va_S A s.heap s.heap [] := va_S.rf
  have hl := lv_entry ([.ref (ad 0), .int p1, .int p2, .int p3]) (n := 4) (Nat.le_of_ble_eq_true rfl)
  rw [lg_entry_eq]
  generalize (lg_sl ([.ref (ad 0), .int p1, .int p2, .int p3]) ++ List.replicate (4 - (lg_sl ([.ref (ad 0), .int p1, .int p2, .int p3])).length) Slot.unset).toArray = ls at hl ⊢
  have hl : lv_has ls 4 [(0, .ref (ad 0)), (1, .int p1), (2, .int p2), (3, .int p3)] := hl
  change W p l e rmX9_call s m ([.ref (ad 0), .int p1, .int p2, .int p3] : List Value).toArray below meth c s.heap [] 0 0 _ _
  unfold fX9_call at hf
  refine lv_aload_n hx hb dX9_call_0 rfl (lv_at hl 0 rfl) ?_
  refine lv_iload_n hx hb dX9_call_1 rfl (lv_at hl 1 rfl) ?_
  refine lv_bipush (v := 9) hx hb dX9_call_2 (by decide) ?_
  refine lv_iload_n hx hb dX9_call_4 rfl (lv_at hl 2 rfl) ?_
  refine lv_iload_n hx hb dX9_call_5 rfl (lv_at hl 3 rfl) ?_
  obtain ⟨r1, c_bonds_2, v3, hf⟩ := bd2_some hf
  refine gci (va_runV (As := [.int p1, .int 9, .int p2, .int p3]) (rest := []) ⟨hx, hb, hml, hown, hts⟩ (tX9_tells l dC dI dA ad s.heap.size v3) (ccX9_X9_tells hts ⟨Nat.le_of_ble_eq_true rfl, Nat.le_of_ble_eq_true rfl⟩) (gPreV (ci := 9) (q0 := 0) hP hK hD rfl rfl) rfl rfl hl.1 rfl (lv_room (Nat.le_of_ble_eq_true rfl)) dX9_call_6 ⟨Nat.le_of_ble_eq_true rfl, Nat.le_of_ble_eq_true rfl⟩) hD hS hA (fun H locs hP hD hS => ?_)
  cases hf
  exact W.iret hx hb hr (fun t ht _ => gqi hP hD hS ht) hS.2.2 dX9_call_9
abbrev rmX9_put : Room := { frames := 3, cells := 0, slots := 0, locals := 70 }
set_option maxHeartbeats 4000000 in
set_option maxRecDepth 100000 in
theorem tX9_put (l : Launch) (dC : Nat → ClassId) (dI : Nat → Nat → Nat) (dA : Nat → ClassId) (ad : Nat → Nat) (sz : Nat) {p1 : Int32} {p2 : Int32} {p3 : Int32} {c_tape : Nat → Int32} {c_taped : Int32} {c_tree : Nat → Int32} {c_bonds : Nat → Int32} {c_moves : Nat → Int32} {c_handMoves : Nat → Int32} {c_moved : Int32} {c_days : Int32} {c_likely : Int32} {c_outOf : Int32} {c_rateNow : Int32} {c_pence : Nat → Int64} {c_top : Int64} {c_bottom : Int64} {c_spot : Int32} {c_textLong : Int32} {c_fault : Int32} {c_number : Int32} {c_numberAt : Int32} {c_figures : Int32} {c_written : Int32} {c_wanted : Int32} {c_found : Int32} {c_drawnNow : Int32} {c_worth : Nat → Int64} {c_hold : Nat → Int64} {c_way : Nat → Int64} {c_acts : Nat → Int32} {c_sDay : Int32} {c_sUps : Int32} {c_sUp : Int32} {c_sMarks : Int32} {c_paidAll : Int64} {c_isPlayed : Int32} {c_isOn : Int32} {c_handMoved : Int32} {c_handPaid : Int64} {c_regret : Int64} {c_aside : Nat → Int32} {c_other : Nat → Int64} {c_states : Int32} {c_kept : Nat → Int32} {c_keptLong : Nat → Int64} {c_keptAt : Int32} {c_isTaking : Int32} {r : Int32} {o_c_bonds : Nat → Int32} (hf : fX9_put p1 p2 p3 c_bonds = some (r, o_c_bonds)) : Met l yX9_put (wq (Cond.code yX9_put cX9_put 4 (some .int))) rmX9_put (gP [.ref (ad 0), .int p1, .int p2, .int p3] (dC, dI) dA (mW dA ad c_tape c_taped c_tree c_bonds c_moves c_handMoves c_moved c_days c_likely c_outOf c_rateNow c_pence c_top c_bottom c_spot c_textLong c_fault c_number c_numberAt c_figures c_written c_wanted c_found c_drawnNow c_worth c_hold c_way c_acts c_sDay c_sUps c_sUp c_sMarks c_paidAll c_isPlayed c_isOn c_handMoved c_handPaid c_regret c_aside c_other c_states c_kept c_keptLong c_keptAt c_isTaking) sz) (gQi (dC, dI) r (mW dA ad c_tape c_taped c_tree o_c_bonds c_moves c_handMoves c_moved c_days c_likely c_outOf c_rateNow c_pence c_top c_bottom c_spot c_textLong c_fault c_number c_numberAt c_figures c_written c_wanted c_found c_drawnNow c_worth c_hold c_way c_acts c_sDay c_sUps c_sUp c_sMarks c_paidAll c_isPlayed c_isOn c_handMoved c_handPaid c_regret c_aside c_other c_states c_kept c_keptLong c_keptAt c_isTaking) (va_A (mW dA ad c_tape c_taped c_tree c_bonds c_moves c_handMoves c_moved c_days c_likely c_outOf c_rateNow c_pence c_top c_bottom c_spot c_textLong c_fault c_number c_numberAt c_figures c_written c_wanted c_found c_drawnNow c_worth c_hold c_way c_acts c_sDay c_sUps c_sUp c_sMarks c_paidAll c_isPlayed c_isOn c_handMoved c_handPaid c_regret c_aside c_other c_states c_kept c_keptLong c_keptAt c_isTaking) sz)) 0 0 (va_A (mW dA ad c_tape c_taped c_tree c_bonds c_moves c_handMoves c_moved c_days c_likely c_outOf c_rateNow c_pence c_top c_bottom c_spot c_textLong c_fault c_number c_numberAt c_figures c_written c_wanted c_found c_drawnNow c_worth c_hold c_way c_acts c_sDay c_sUps c_sUp c_sMarks c_paidAll c_isPlayed c_isOn c_handMoved c_handPaid c_regret c_aside c_other c_states c_kept c_keptLong c_keptAt c_isTaking) sz) := by
  refine Met.ofW (cc := cX9_put) (maxL := 4) (ret := (some .int)) (by decide) rfl ?_
  intro p e s m args below meth c s₁ B hml hv
  obtain ⟨rfl, hsz, hP, hK, hD0⟩ := hv
  have hx := B.exec
  have hb := B.bytes
  have hr := B.returns
  have hts := atoms_spec (ws := wq (Cond.code yX9_put cX9_put 4 (some .int))) B.pre
  have hown : s.vm.findClass RX9 = some m.cls := findClass_of_methodNamed B.named
  have hlocks := B.notSynchronized
  clear B
  subst hsz
  have hD := hD0.self (sz := s.heap.size)
  generalize hAe : va_A (mW dA ad c_tape c_taped c_tree c_bonds c_moves c_handMoves c_moved c_days c_likely c_outOf c_rateNow c_pence c_top c_bottom c_spot c_textLong c_fault c_number c_numberAt c_figures c_written c_wanted c_found c_drawnNow c_worth c_hold c_way c_acts c_sDay c_sUps c_sUp c_sMarks c_paidAll c_isPlayed c_isOn c_handMoved c_handPaid c_regret c_aside c_other c_states c_kept c_keptLong c_keptAt c_isTaking) s.heap.size = A at hD ⊢
  have hA : ∀ q : Nat, s.heap.size ≤ q → A q := fun q h => by rw [← hAe]; exact Or.inr h
  clear hAe hD0
  have hS : va_S A s.heap s.heap [] := va_S.rf
  have hl := lv_entry ([.ref (ad 0), .int p1, .int p2, .int p3]) (n := 4) (Nat.le_of_ble_eq_true rfl)
  rw [lg_entry_eq]
  generalize (lg_sl ([.ref (ad 0), .int p1, .int p2, .int p3]) ++ List.replicate (4 - (lg_sl ([.ref (ad 0), .int p1, .int p2, .int p3])).length) Slot.unset).toArray = ls at hl ⊢
  have hl : lv_has ls 4 [(0, .ref (ad 0)), (1, .int p1), (2, .int p2), (3, .int p3)] := hl
  change W p l e rmX9_put s m ([.ref (ad 0), .int p1, .int p2, .int p3] : List Value).toArray below meth c s.heap [] 0 0 _ _
  unfold fX9_put at hf
  refine lv_aload_n hx hb dX9_put_0 rfl (lv_at hl 0 rfl) ?_
  refine lv_iload_n hx hb dX9_put_1 rfl (lv_at hl 1 rfl) ?_
  refine lv_bipush (v := 15) hx hb dX9_put_2 (by decide) ?_
  refine lv_iload_n hx hb dX9_put_4 rfl (lv_at hl 2 rfl) ?_
  refine lv_iload_n hx hb dX9_put_5 rfl (lv_at hl 3 rfl) ?_
  obtain ⟨r1, c_bonds_2, v3, hf⟩ := bd2_some hf
  refine gci (va_runV (As := [.int p1, .int 15, .int p2, .int p3]) (rest := []) ⟨hx, hb, hml, hown, hts⟩ (tX9_tells l dC dI dA ad s.heap.size v3) (ccX9_X9_tells hts ⟨Nat.le_of_ble_eq_true rfl, Nat.le_of_ble_eq_true rfl⟩) (gPreV (ci := 9) (q0 := 0) hP hK hD rfl rfl) rfl rfl hl.1 rfl (lv_room (Nat.le_of_ble_eq_true rfl)) dX9_put_6 ⟨Nat.le_of_ble_eq_true rfl, Nat.le_of_ble_eq_true rfl⟩) hD hS hA (fun H locs hP hD hS => ?_)
  cases hf
  exact W.iret hx hb hr (fun t ht _ => gqi hP hD hS ht) hS.2.2 dX9_put_9
abbrev rmX9_window : Room := { frames := 2, cells := 0, slots := 0, locals := 45 }
set_option maxHeartbeats 4000000 in
set_option maxRecDepth 100000 in
theorem tX9_window (l : Launch) (dC : Nat → ClassId) (dI : Nat → Nat → Nat) (dA : Nat → ClassId) (ad : Nat → Nat) (sz : Nat) {p1 : Int32} {p2 : Int32} {p3 : Int32} {c_tape : Nat → Int32} {c_taped : Int32} {c_tree : Nat → Int32} {c_bonds : Nat → Int32} {c_moves : Nat → Int32} {c_handMoves : Nat → Int32} {c_moved : Int32} {c_days : Int32} {c_likely : Int32} {c_outOf : Int32} {c_rateNow : Int32} {c_pence : Nat → Int64} {c_top : Int64} {c_bottom : Int64} {c_spot : Int32} {c_textLong : Int32} {c_fault : Int32} {c_number : Int32} {c_numberAt : Int32} {c_figures : Int32} {c_written : Int32} {c_wanted : Int32} {c_found : Int32} {c_drawnNow : Int32} {c_worth : Nat → Int64} {c_hold : Nat → Int64} {c_way : Nat → Int64} {c_acts : Nat → Int32} {c_sDay : Int32} {c_sUps : Int32} {c_sUp : Int32} {c_sMarks : Int32} {c_paidAll : Int64} {c_isPlayed : Int32} {c_isOn : Int32} {c_handMoved : Int32} {c_handPaid : Int64} {c_regret : Int64} {c_aside : Nat → Int32} {c_other : Nat → Int64} {c_states : Int32} {c_kept : Nat → Int32} {c_keptLong : Nat → Int64} {c_keptAt : Int32} {c_isTaking : Int32} {r : Int32} {o_c_bonds : Nat → Int32} (hf : fX9_window p1 p2 p3 c_bonds = some (r, o_c_bonds)) : Met l yX9_window (wq (Cond.code yX9_window cX9_window 4 (some .boolean))) rmX9_window (gP [.ref (ad 0), .int p1, .int p2, .int p3] (dC, dI) dA (mW dA ad c_tape c_taped c_tree c_bonds c_moves c_handMoves c_moved c_days c_likely c_outOf c_rateNow c_pence c_top c_bottom c_spot c_textLong c_fault c_number c_numberAt c_figures c_written c_wanted c_found c_drawnNow c_worth c_hold c_way c_acts c_sDay c_sUps c_sUp c_sMarks c_paidAll c_isPlayed c_isOn c_handMoved c_handPaid c_regret c_aside c_other c_states c_kept c_keptLong c_keptAt c_isTaking) sz) (gQi (dC, dI) r (mW dA ad c_tape c_taped c_tree o_c_bonds c_moves c_handMoves c_moved c_days c_likely c_outOf c_rateNow c_pence c_top c_bottom c_spot c_textLong c_fault c_number c_numberAt c_figures c_written c_wanted c_found c_drawnNow c_worth c_hold c_way c_acts c_sDay c_sUps c_sUp c_sMarks c_paidAll c_isPlayed c_isOn c_handMoved c_handPaid c_regret c_aside c_other c_states c_kept c_keptLong c_keptAt c_isTaking) (va_A (mW dA ad c_tape c_taped c_tree c_bonds c_moves c_handMoves c_moved c_days c_likely c_outOf c_rateNow c_pence c_top c_bottom c_spot c_textLong c_fault c_number c_numberAt c_figures c_written c_wanted c_found c_drawnNow c_worth c_hold c_way c_acts c_sDay c_sUps c_sUp c_sMarks c_paidAll c_isPlayed c_isOn c_handMoved c_handPaid c_regret c_aside c_other c_states c_kept c_keptLong c_keptAt c_isTaking) sz)) 0 0 (va_A (mW dA ad c_tape c_taped c_tree c_bonds c_moves c_handMoves c_moved c_days c_likely c_outOf c_rateNow c_pence c_top c_bottom c_spot c_textLong c_fault c_number c_numberAt c_figures c_written c_wanted c_found c_drawnNow c_worth c_hold c_way c_acts c_sDay c_sUps c_sUp c_sMarks c_paidAll c_isPlayed c_isOn c_handMoved c_handPaid c_regret c_aside c_other c_states c_kept c_keptLong c_keptAt c_isTaking) sz) := by
  refine Met.ofW (cc := cX9_window) (maxL := 4) (ret := (some .boolean)) (by decide) rfl ?_
  intro p e s m args below meth c s₁ B hml hv
  obtain ⟨rfl, hsz, hP, hK, hD0⟩ := hv
  have hx := B.exec
  have hb := B.bytes
  have hr := B.returns
  have hts := atoms_spec (ws := wq (Cond.code yX9_window cX9_window 4 (some .boolean))) B.pre
  have hown : s.vm.findClass RX9 = some m.cls := findClass_of_methodNamed B.named
  have hlocks := B.notSynchronized
  clear B
  subst hsz
  have hD := hD0.self (sz := s.heap.size)
  generalize hAe : va_A (mW dA ad c_tape c_taped c_tree c_bonds c_moves c_handMoves c_moved c_days c_likely c_outOf c_rateNow c_pence c_top c_bottom c_spot c_textLong c_fault c_number c_numberAt c_figures c_written c_wanted c_found c_drawnNow c_worth c_hold c_way c_acts c_sDay c_sUps c_sUp c_sMarks c_paidAll c_isPlayed c_isOn c_handMoved c_handPaid c_regret c_aside c_other c_states c_kept c_keptLong c_keptAt c_isTaking) s.heap.size = A at hD ⊢
  have hA : ∀ q : Nat, s.heap.size ≤ q → A q := fun q h => by rw [← hAe]; exact Or.inr h
  clear hAe hD0
  have hS : va_S A s.heap s.heap [] := va_S.rf
  have hl := lv_entry ([.ref (ad 0), .int p1, .int p2, .int p3]) (n := 4) (Nat.le_of_ble_eq_true rfl)
  rw [lg_entry_eq]
  generalize (lg_sl ([.ref (ad 0), .int p1, .int p2, .int p3]) ++ List.replicate (4 - (lg_sl ([.ref (ad 0), .int p1, .int p2, .int p3])).length) Slot.unset).toArray = ls at hl ⊢
  have hl : lv_has ls 4 [(0, .ref (ad 0)), (1, .int p1), (2, .int p2), (3, .int p3)] := hl
  change W p l e rmX9_window s m ([.ref (ad 0), .int p1, .int p2, .int p3] : List Value).toArray below meth c s.heap [] 0 0 _ _
  unfold fX9_window at hf
  refine lv_iload_n hx hb dX9_window_0 rfl (lv_at hl 1 rfl) ?_
  obtain ⟨r1, v2, hf⟩ := bd1_some hf
  refine gci0 (va_runS (As := [.int p1]) (rest := []) ⟨hx, hb, hml, hown, hts⟩ (tX9_isBond l dC dI dA s.heap.size v2) (ccX9_X9_isBond hts ⟨Nat.le_of_ble_eq_true rfl, Nat.le_of_ble_eq_true rfl⟩) (gPreS0 hK) rfl rfl hl.1 rfl (lv_room (Nat.le_of_ble_eq_true rfl)) dX9_window_1 ⟨Nat.le_of_ble_eq_true rfl, Nat.le_of_ble_eq_true rfl⟩) hP hS hA (fun H locs hP hS => ?_)
  refine lv_if_eq (tgt := 32) hx hb dX9_window_4 (by decide) (fun k3 => ?_) (fun k3 => ?_)
  · replace hf := ifp k3 hf
    refine lv_iconst (v := 0) hx hb dX9_window_32 (by decide) ?_
    cases hf
    exact W.zret (ty := .boolean) hx hb hr rfl (fun t ht _ => gqi hP hD hS ht) hS.2.2 dX9_window_33
  · replace hf := ifn k3 hf
    refine lv_iload_n hx hb dX9_window_7 rfl (lv_at hl 2 rfl) ?_
    refine lv_i2l hx hb dX9_window_8 rfl ?_
    refine lv_lconst (v := 0) hx hb dX9_window_9 rfl ?_
    refine lv_ldc2 (v := 6) hx hb hown (hts _ (gw_mem wkX9_72)) dX9_window_10 ?_
    obtain ⟨r4, v5, hf⟩ := bd1_some hf
    refine gci0 (va_runS (As := [.long (Int32.toInt64 p2), .long 0, .long 6]) (rest := []) ⟨hx, hb, hml, hown, hts⟩ (tX9_in l dC dI dA H.size v5) (ccX9_X9_in hts ⟨Nat.le_of_ble_eq_true rfl, Nat.le_of_ble_eq_true rfl⟩) (gPreS0 hK) rfl rfl hl.1 rfl (lv_room (Nat.le_of_ble_eq_true rfl)) dX9_window_13 ⟨Nat.le_of_ble_eq_true rfl, Nat.le_of_ble_eq_true rfl⟩) hP hS hA (fun H locs hP hS => ?_)
    refine lv_if_eq (tgt := 32) hx hb dX9_window_16 (by decide) (fun k6 => ?_) (fun k6 => ?_)
    · replace hf := ifp k6 hf
      refine lv_iconst (v := 0) hx hb dX9_window_32 (by decide) ?_
      cases hf
      exact W.zret (ty := .boolean) hx hb hr rfl (fun t ht _ => gqi hP hD hS ht) hS.2.2 dX9_window_33
    · replace hf := ifn k6 hf
      refine lv_iload_n hx hb dX9_window_19 rfl (lv_at hl 3 rfl) ?_
      refine lv_i2l hx hb dX9_window_20 rfl ?_
      refine lv_iload_n hx hb dX9_window_21 rfl (lv_at hl 2 rfl) ?_
      refine lv_i2l hx hb dX9_window_22 rfl ?_
      refine lv_ldc2 (v := 6) hx hb hown (hts _ (gw_mem wkX9_72)) dX9_window_23 ?_
      obtain ⟨r7, v8, hf⟩ := bd1_some hf
      refine gci0 (va_runS (As := [.long (Int32.toInt64 p3), .long (Int32.toInt64 p2), .long 6]) (rest := []) ⟨hx, hb, hml, hown, hts⟩ (tX9_in l dC dI dA H.size v8) (ccX9_X9_in hts ⟨Nat.le_of_ble_eq_true rfl, Nat.le_of_ble_eq_true rfl⟩) (gPreS0 hK) rfl rfl hl.1 rfl (lv_room (Nat.le_of_ble_eq_true rfl)) dX9_window_26 ⟨Nat.le_of_ble_eq_true rfl, Nat.le_of_ble_eq_true rfl⟩) hP hS hA (fun H locs hP hS => ?_)
      refine lv_if_ne (tgt := 34) hx hb dX9_window_29 (by decide) (fun k9 => ?_) (fun k9 => ?_)
      · replace hf := ifn k9 hf
        refine lv_aload_n hx hb dX9_window_34 rfl (lv_at hl 0 rfl) ?_
        refine lv_iload_n hx hb dX9_window_35 rfl (lv_at hl 1 rfl) ?_
        refine lv_bipush (v := 21) hx hb dX9_window_36 (by decide) ?_
        refine lv_iload_n hx hb dX9_window_38 rfl (lv_at hl 2 rfl) ?_
        obtain ⟨c_bonds_10, v11, hf⟩ := bd1_some hf
        refine gcv (va_runV (As := [.int p1, .int 21, .int p2]) (rest := []) ⟨hx, hb, hml, hown, hts⟩ (tX9_sets l dC dI dA ad H.size v11) (ccX9_X9_sets hts ⟨Nat.le_of_ble_eq_true rfl, Nat.le_of_ble_eq_true rfl⟩) (gPreV (ci := 9) (q0 := 0) hP hK hD rfl rfl) rfl rfl hl.1 rfl (lv_room (Nat.le_of_ble_eq_true rfl)) dX9_window_39 ⟨Nat.le_of_ble_eq_true rfl, Nat.le_of_ble_eq_true rfl⟩) hD hS hA (fun H locs hP hD hS => ?_)
        refine lv_aload_n hx hb dX9_window_42 rfl (lv_at hl 0 rfl) ?_
        refine lv_iload_n hx hb dX9_window_43 rfl (lv_at hl 1 rfl) ?_
        refine lv_bipush (v := 22) hx hb dX9_window_44 (by decide) ?_
        refine lv_iload_n hx hb dX9_window_46 rfl (lv_at hl 3 rfl) ?_
        obtain ⟨c_bonds_12, v13, hf⟩ := bd1_some hf
        refine gcv (va_runV (As := [.int p1, .int 22, .int p3]) (rest := []) ⟨hx, hb, hml, hown, hts⟩ (tX9_sets l dC dI dA ad H.size v13) (ccX9_X9_sets hts ⟨Nat.le_of_ble_eq_true rfl, Nat.le_of_ble_eq_true rfl⟩) (gPreV (ci := 9) (q0 := 0) hP hK hD rfl rfl) rfl rfl hl.1 rfl (lv_room (Nat.le_of_ble_eq_true rfl)) dX9_window_47 ⟨Nat.le_of_ble_eq_true rfl, Nat.le_of_ble_eq_true rfl⟩) hD hS hA (fun H locs hP hD hS => ?_)
        refine lv_iconst (v := 1) hx hb dX9_window_50 (by decide) ?_
        cases hf
        exact W.zret (ty := .boolean) hx hb hr rfl (fun t ht _ => gqi hP hD hS ht) hS.2.2 dX9_window_51
      · replace hf := ifp k9 hf
        refine lv_iconst (v := 0) hx hb dX9_window_32 (by decide) ?_
        cases hf
        exact W.zret (ty := .boolean) hx hb hr rfl (fun t ht _ => gqi hP hD hS ht) hS.2.2 dX9_window_33
abbrev rmX9_softens : Room := { frames := 1, cells := 0, slots := 0, locals := 23 }
set_option maxHeartbeats 4000000 in
set_option maxRecDepth 100000 in
theorem tX9_softens (l : Launch) (dC : Nat → ClassId) (dI : Nat → Nat → Nat) (dA : Nat → ClassId) (ad : Nat → Nat) (sz : Nat) {p1 : Int32} {p2 : Int32} {p3 : Int32} {p4 : Int32} {c_tape : Nat → Int32} {c_taped : Int32} {c_tree : Nat → Int32} {c_bonds : Nat → Int32} {c_moves : Nat → Int32} {c_handMoves : Nat → Int32} {c_moved : Int32} {c_days : Int32} {c_likely : Int32} {c_outOf : Int32} {c_rateNow : Int32} {c_pence : Nat → Int64} {c_top : Int64} {c_bottom : Int64} {c_spot : Int32} {c_textLong : Int32} {c_fault : Int32} {c_number : Int32} {c_numberAt : Int32} {c_figures : Int32} {c_written : Int32} {c_wanted : Int32} {c_found : Int32} {c_drawnNow : Int32} {c_worth : Nat → Int64} {c_hold : Nat → Int64} {c_way : Nat → Int64} {c_acts : Nat → Int32} {c_sDay : Int32} {c_sUps : Int32} {c_sUp : Int32} {c_sMarks : Int32} {c_paidAll : Int64} {c_isPlayed : Int32} {c_isOn : Int32} {c_handMoved : Int32} {c_handPaid : Int64} {c_regret : Int64} {c_aside : Nat → Int32} {c_other : Nat → Int64} {c_states : Int32} {c_kept : Nat → Int32} {c_keptLong : Nat → Int64} {c_keptAt : Int32} {c_isTaking : Int32} {o_c_bonds : Nat → Int32} (hf : fX9_softens p1 p2 p3 p4 c_bonds = some (o_c_bonds)) : Met l yX9_softens (wq (Cond.code yX9_softens cX9_softens 5 none)) rmX9_softens (gP [.ref (ad 0), .int p1, .int p2, .int p3, .int p4] (dC, dI) dA (mW dA ad c_tape c_taped c_tree c_bonds c_moves c_handMoves c_moved c_days c_likely c_outOf c_rateNow c_pence c_top c_bottom c_spot c_textLong c_fault c_number c_numberAt c_figures c_written c_wanted c_found c_drawnNow c_worth c_hold c_way c_acts c_sDay c_sUps c_sUp c_sMarks c_paidAll c_isPlayed c_isOn c_handMoved c_handPaid c_regret c_aside c_other c_states c_kept c_keptLong c_keptAt c_isTaking) sz) (gQv (dC, dI) (mW dA ad c_tape c_taped c_tree o_c_bonds c_moves c_handMoves c_moved c_days c_likely c_outOf c_rateNow c_pence c_top c_bottom c_spot c_textLong c_fault c_number c_numberAt c_figures c_written c_wanted c_found c_drawnNow c_worth c_hold c_way c_acts c_sDay c_sUps c_sUp c_sMarks c_paidAll c_isPlayed c_isOn c_handMoved c_handPaid c_regret c_aside c_other c_states c_kept c_keptLong c_keptAt c_isTaking) (va_A (mW dA ad c_tape c_taped c_tree c_bonds c_moves c_handMoves c_moved c_days c_likely c_outOf c_rateNow c_pence c_top c_bottom c_spot c_textLong c_fault c_number c_numberAt c_figures c_written c_wanted c_found c_drawnNow c_worth c_hold c_way c_acts c_sDay c_sUps c_sUp c_sMarks c_paidAll c_isPlayed c_isOn c_handMoved c_handPaid c_regret c_aside c_other c_states c_kept c_keptLong c_keptAt c_isTaking) sz)) 0 0 (va_A (mW dA ad c_tape c_taped c_tree c_bonds c_moves c_handMoves c_moved c_days c_likely c_outOf c_rateNow c_pence c_top c_bottom c_spot c_textLong c_fault c_number c_numberAt c_figures c_written c_wanted c_found c_drawnNow c_worth c_hold c_way c_acts c_sDay c_sUps c_sUp c_sMarks c_paidAll c_isPlayed c_isOn c_handMoved c_handPaid c_regret c_aside c_other c_states c_kept c_keptLong c_keptAt c_isTaking) sz) := by
  refine Met.ofW (cc := cX9_softens) (maxL := 5) (ret := none) (by decide) rfl ?_
  intro p e s m args below meth c s₁ B hml hv
  obtain ⟨rfl, hsz, hP, hK, hD0⟩ := hv
  have hx := B.exec
  have hb := B.bytes
  have hr := B.returns
  have hts := atoms_spec (ws := wq (Cond.code yX9_softens cX9_softens 5 none)) B.pre
  have hown : s.vm.findClass RX9 = some m.cls := findClass_of_methodNamed B.named
  have hlocks := B.notSynchronized
  clear B
  subst hsz
  have hD := hD0.self (sz := s.heap.size)
  generalize hAe : va_A (mW dA ad c_tape c_taped c_tree c_bonds c_moves c_handMoves c_moved c_days c_likely c_outOf c_rateNow c_pence c_top c_bottom c_spot c_textLong c_fault c_number c_numberAt c_figures c_written c_wanted c_found c_drawnNow c_worth c_hold c_way c_acts c_sDay c_sUps c_sUp c_sMarks c_paidAll c_isPlayed c_isOn c_handMoved c_handPaid c_regret c_aside c_other c_states c_kept c_keptLong c_keptAt c_isTaking) s.heap.size = A at hD ⊢
  have hA : ∀ q : Nat, s.heap.size ≤ q → A q := fun q h => by rw [← hAe]; exact Or.inr h
  clear hAe hD0
  have hS : va_S A s.heap s.heap [] := va_S.rf
  have hl := lv_entry ([.ref (ad 0), .int p1, .int p2, .int p3, .int p4]) (n := 5) (Nat.le_of_ble_eq_true rfl)
  rw [lg_entry_eq]
  generalize (lg_sl ([.ref (ad 0), .int p1, .int p2, .int p3, .int p4]) ++ List.replicate (5 - (lg_sl ([.ref (ad 0), .int p1, .int p2, .int p3, .int p4])).length) Slot.unset).toArray = ls at hl ⊢
  have hl : lv_has ls 5 [(0, .ref (ad 0)), (1, .int p1), (2, .int p2), (3, .int p3), (4, .int p4)] := hl
  change W p l e rmX9_softens s m ([.ref (ad 0), .int p1, .int p2, .int p3, .int p4] : List Value).toArray below meth c s.heap [] 0 0 _ _
  unfold fX9_softens at hf
  refine lv_aload_n hx hb dX9_softens_0 rfl (lv_at hl 0 rfl) ?_
  refine lv_iload_n hx hb dX9_softens_1 rfl (lv_at hl 1 rfl) ?_
  refine lv_bipush (v := 23) hx hb dX9_softens_2 (by decide) ?_
  refine lv_iload_n hx hb dX9_softens_4 rfl (lv_at hl 2 rfl) ?_
  obtain ⟨c_bonds_1, v2, hf⟩ := bd1_some hf
  refine gcv (va_runV (As := [.int p1, .int 23, .int p2]) (rest := []) ⟨hx, hb, hml, hown, hts⟩ (tX9_sets l dC dI dA ad s.heap.size v2) (ccX9_X9_sets hts ⟨Nat.le_of_ble_eq_true rfl, Nat.le_of_ble_eq_true rfl⟩) (gPreV (ci := 9) (q0 := 0) hP hK hD rfl rfl) rfl rfl hl.1 rfl (lv_room (Nat.le_of_ble_eq_true rfl)) dX9_softens_5 ⟨Nat.le_of_ble_eq_true rfl, Nat.le_of_ble_eq_true rfl⟩) hD hS hA (fun H locs hP hD hS => ?_)
  refine lv_aload_n hx hb dX9_softens_8 rfl (lv_at hl 0 rfl) ?_
  refine lv_iload_n hx hb dX9_softens_9 rfl (lv_at hl 1 rfl) ?_
  refine lv_bipush (v := 24) hx hb dX9_softens_10 (by decide) ?_
  refine lv_iload_n hx hb dX9_softens_12 rfl (lv_at hl 3 rfl) ?_
  obtain ⟨c_bonds_3, v4, hf⟩ := bd1_some hf
  refine gcv (va_runV (As := [.int p1, .int 24, .int p3]) (rest := []) ⟨hx, hb, hml, hown, hts⟩ (tX9_sets l dC dI dA ad H.size v4) (ccX9_X9_sets hts ⟨Nat.le_of_ble_eq_true rfl, Nat.le_of_ble_eq_true rfl⟩) (gPreV (ci := 9) (q0 := 0) hP hK hD rfl rfl) rfl rfl hl.1 rfl (lv_room (Nat.le_of_ble_eq_true rfl)) dX9_softens_13 ⟨Nat.le_of_ble_eq_true rfl, Nat.le_of_ble_eq_true rfl⟩) hD hS hA (fun H locs hP hD hS => ?_)
  refine lv_aload_n hx hb dX9_softens_16 rfl (lv_at hl 0 rfl) ?_
  refine lv_iload_n hx hb dX9_softens_17 rfl (lv_at hl 1 rfl) ?_
  refine lv_bipush (v := 25) hx hb dX9_softens_18 (by decide) ?_
  refine lv_iload hx hb dX9_softens_20 (lv_at hl 4 rfl) ?_
  obtain ⟨c_bonds_5, v6, hf⟩ := bd1_some hf
  refine gcv (va_runV (As := [.int p1, .int 25, .int p4]) (rest := []) ⟨hx, hb, hml, hown, hts⟩ (tX9_sets l dC dI dA ad H.size v6) (ccX9_X9_sets hts ⟨Nat.le_of_ble_eq_true rfl, Nat.le_of_ble_eq_true rfl⟩) (gPreV (ci := 9) (q0 := 0) hP hK hD rfl rfl) rfl rfl hl.1 rfl (lv_room (Nat.le_of_ble_eq_true rfl)) dX9_softens_22 ⟨Nat.le_of_ble_eq_true rfl, Nat.le_of_ble_eq_true rfl⟩) hD hS hA (fun H locs hP hD hS => ?_)
  cases hf
  exact W.vret hx hb hr (fun t ht _ => gqv hP hD hS ht) hS.2.2 dX9_softens_25
theorem ccX9_X9_softens {R : Room} {s : State} {args : Array Value} {c0 : Cond} (ht : ∀ w ∈ wq c0, w.before args s = true) (hR : rmX9_softens.frames + 1 ≤ R.frames ∧ 8 + (5 + 11) + rmX9_softens.locals ≤ R.locals) : CallW R s args RX9 RX9 144 yX9_softens cX9_softens 5 none (wq (.code yX9_softens cX9_softens 5 none)) rmX9_softens 0 0 4 := gCW 4 ht wcX9_softens wmX9_144 wiX9_softens weX9_softens wnX9 (by decide +kernel) rfl rfl hR
abbrev rmX9_soft : Room := { frames := 2, cells := 0, slots := 0, locals := 47 }
set_option maxHeartbeats 4000000 in
set_option maxRecDepth 100000 in
theorem tX9_soft (l : Launch) (dC : Nat → ClassId) (dI : Nat → Nat → Nat) (dA : Nat → ClassId) (ad : Nat → Nat) (sz : Nat) {p1 : Int32} {p2 : Int32} {p3 : Int32} {p4 : Int32} {c_tape : Nat → Int32} {c_taped : Int32} {c_tree : Nat → Int32} {c_bonds : Nat → Int32} {c_moves : Nat → Int32} {c_handMoves : Nat → Int32} {c_moved : Int32} {c_days : Int32} {c_likely : Int32} {c_outOf : Int32} {c_rateNow : Int32} {c_pence : Nat → Int64} {c_top : Int64} {c_bottom : Int64} {c_spot : Int32} {c_textLong : Int32} {c_fault : Int32} {c_number : Int32} {c_numberAt : Int32} {c_figures : Int32} {c_written : Int32} {c_wanted : Int32} {c_found : Int32} {c_drawnNow : Int32} {c_worth : Nat → Int64} {c_hold : Nat → Int64} {c_way : Nat → Int64} {c_acts : Nat → Int32} {c_sDay : Int32} {c_sUps : Int32} {c_sUp : Int32} {c_sMarks : Int32} {c_paidAll : Int64} {c_isPlayed : Int32} {c_isOn : Int32} {c_handMoved : Int32} {c_handPaid : Int64} {c_regret : Int64} {c_aside : Nat → Int32} {c_other : Nat → Int64} {c_states : Int32} {c_kept : Nat → Int32} {c_keptLong : Nat → Int64} {c_keptAt : Int32} {c_isTaking : Int32} {r : Int32} {o_c_bonds : Nat → Int32} (hf : fX9_soft p1 p2 p3 p4 c_bonds = some (r, o_c_bonds)) : Met l yX9_soft (wq (Cond.code yX9_soft cX9_soft 5 (some .boolean))) rmX9_soft (gP [.ref (ad 0), .int p1, .int p2, .int p3, .int p4] (dC, dI) dA (mW dA ad c_tape c_taped c_tree c_bonds c_moves c_handMoves c_moved c_days c_likely c_outOf c_rateNow c_pence c_top c_bottom c_spot c_textLong c_fault c_number c_numberAt c_figures c_written c_wanted c_found c_drawnNow c_worth c_hold c_way c_acts c_sDay c_sUps c_sUp c_sMarks c_paidAll c_isPlayed c_isOn c_handMoved c_handPaid c_regret c_aside c_other c_states c_kept c_keptLong c_keptAt c_isTaking) sz) (gQi (dC, dI) r (mW dA ad c_tape c_taped c_tree o_c_bonds c_moves c_handMoves c_moved c_days c_likely c_outOf c_rateNow c_pence c_top c_bottom c_spot c_textLong c_fault c_number c_numberAt c_figures c_written c_wanted c_found c_drawnNow c_worth c_hold c_way c_acts c_sDay c_sUps c_sUp c_sMarks c_paidAll c_isPlayed c_isOn c_handMoved c_handPaid c_regret c_aside c_other c_states c_kept c_keptLong c_keptAt c_isTaking) (va_A (mW dA ad c_tape c_taped c_tree c_bonds c_moves c_handMoves c_moved c_days c_likely c_outOf c_rateNow c_pence c_top c_bottom c_spot c_textLong c_fault c_number c_numberAt c_figures c_written c_wanted c_found c_drawnNow c_worth c_hold c_way c_acts c_sDay c_sUps c_sUp c_sMarks c_paidAll c_isPlayed c_isOn c_handMoved c_handPaid c_regret c_aside c_other c_states c_kept c_keptLong c_keptAt c_isTaking) sz)) 0 0 (va_A (mW dA ad c_tape c_taped c_tree c_bonds c_moves c_handMoves c_moved c_days c_likely c_outOf c_rateNow c_pence c_top c_bottom c_spot c_textLong c_fault c_number c_numberAt c_figures c_written c_wanted c_found c_drawnNow c_worth c_hold c_way c_acts c_sDay c_sUps c_sUp c_sMarks c_paidAll c_isPlayed c_isOn c_handMoved c_handPaid c_regret c_aside c_other c_states c_kept c_keptLong c_keptAt c_isTaking) sz) := by
  refine Met.ofW (cc := cX9_soft) (maxL := 5) (ret := (some .boolean)) (by decide) rfl ?_
  intro p e s m args below meth c s₁ B hml hv
  obtain ⟨rfl, hsz, hP, hK, hD0⟩ := hv
  have hx := B.exec
  have hb := B.bytes
  have hr := B.returns
  have hts := atoms_spec (ws := wq (Cond.code yX9_soft cX9_soft 5 (some .boolean))) B.pre
  have hown : s.vm.findClass RX9 = some m.cls := findClass_of_methodNamed B.named
  have hlocks := B.notSynchronized
  clear B
  subst hsz
  have hD := hD0.self (sz := s.heap.size)
  generalize hAe : va_A (mW dA ad c_tape c_taped c_tree c_bonds c_moves c_handMoves c_moved c_days c_likely c_outOf c_rateNow c_pence c_top c_bottom c_spot c_textLong c_fault c_number c_numberAt c_figures c_written c_wanted c_found c_drawnNow c_worth c_hold c_way c_acts c_sDay c_sUps c_sUp c_sMarks c_paidAll c_isPlayed c_isOn c_handMoved c_handPaid c_regret c_aside c_other c_states c_kept c_keptLong c_keptAt c_isTaking) s.heap.size = A at hD ⊢
  have hA : ∀ q : Nat, s.heap.size ≤ q → A q := fun q h => by rw [← hAe]; exact Or.inr h
  clear hAe hD0
  have hS : va_S A s.heap s.heap [] := va_S.rf
  have hl := lv_entry ([.ref (ad 0), .int p1, .int p2, .int p3, .int p4]) (n := 5) (Nat.le_of_ble_eq_true rfl)
  rw [lg_entry_eq]
  generalize (lg_sl ([.ref (ad 0), .int p1, .int p2, .int p3, .int p4]) ++ List.replicate (5 - (lg_sl ([.ref (ad 0), .int p1, .int p2, .int p3, .int p4])).length) Slot.unset).toArray = ls at hl ⊢
  have hl : lv_has ls 5 [(0, .ref (ad 0)), (1, .int p1), (2, .int p2), (3, .int p3), (4, .int p4)] := hl
  change W p l e rmX9_soft s m ([.ref (ad 0), .int p1, .int p2, .int p3, .int p4] : List Value).toArray below meth c s.heap [] 0 0 _ _
  unfold fX9_soft at hf
  refine lv_iload_n hx hb dX9_soft_0 rfl (lv_at hl 1 rfl) ?_
  obtain ⟨r1, v2, hf⟩ := bd1_some hf
  refine gci0 (va_runS (As := [.int p1]) (rest := []) ⟨hx, hb, hml, hown, hts⟩ (tX9_isBond l dC dI dA s.heap.size v2) (ccX9_X9_isBond hts ⟨Nat.le_of_ble_eq_true rfl, Nat.le_of_ble_eq_true rfl⟩) (gPreS0 hK) rfl rfl hl.1 rfl (lv_room (Nat.le_of_ble_eq_true rfl)) dX9_soft_1 ⟨Nat.le_of_ble_eq_true rfl, Nat.le_of_ble_eq_true rfl⟩) hP hS hA (fun H locs hP hS => ?_)
  refine lv_if_eq (tgt := 43) hx hb dX9_soft_4 (by decide) (fun k3 => ?_) (fun k3 => ?_)
  · replace hf := ifp k3 hf
    refine lv_iconst (v := 0) hx hb dX9_soft_43 (by decide) ?_
    cases hf
    exact W.zret (ty := .boolean) hx hb hr rfl (fun t ht _ => gqi hP hD hS ht) hS.2.2 dX9_soft_44
  · replace hf := ifn k3 hf
    refine lv_iload_n hx hb dX9_soft_7 rfl (lv_at hl 3 rfl) ?_
    refine lv_i2l hx hb dX9_soft_8 rfl ?_
    refine lv_lconst (v := 1) hx hb dX9_soft_9 rfl ?_
    refine lv_ldc2 (v := 3) hx hb hown (hts _ (gw_mem wkX9_142)) dX9_soft_10 ?_
    obtain ⟨r4, v5, hf⟩ := bd1_some hf
    refine gci0 (va_runS (As := [.long (Int32.toInt64 p3), .long 1, .long 3]) (rest := []) ⟨hx, hb, hml, hown, hts⟩ (tX9_in l dC dI dA H.size v5) (ccX9_X9_in hts ⟨Nat.le_of_ble_eq_true rfl, Nat.le_of_ble_eq_true rfl⟩) (gPreS0 hK) rfl rfl hl.1 rfl (lv_room (Nat.le_of_ble_eq_true rfl)) dX9_soft_13 ⟨Nat.le_of_ble_eq_true rfl, Nat.le_of_ble_eq_true rfl⟩) hP hS hA (fun H locs hP hS => ?_)
    refine lv_if_eq (tgt := 43) hx hb dX9_soft_16 (by decide) (fun k6 => ?_) (fun k6 => ?_)
    · replace hf := ifp k6 hf
      refine lv_iconst (v := 0) hx hb dX9_soft_43 (by decide) ?_
      cases hf
      exact W.zret (ty := .boolean) hx hb hr rfl (fun t ht _ => gqi hP hD hS ht) hS.2.2 dX9_soft_44
    · replace hf := ifn k6 hf
      refine lv_iload_n hx hb dX9_soft_19 rfl (lv_at hl 2 rfl) ?_
      refine lv_i2l hx hb dX9_soft_20 rfl ?_
      refine lv_lconst (v := 0) hx hb dX9_soft_21 rfl ?_
      refine lv_iload_n hx hb dX9_soft_22 rfl (lv_at hl 3 rfl) ?_
      refine lv_i2l hx hb dX9_soft_23 rfl ?_
      obtain ⟨r7, v8, hf⟩ := bd1_some hf
      refine gci0 (va_runS (As := [.long (Int32.toInt64 p2), .long 0, .long (Int32.toInt64 p3)]) (rest := []) ⟨hx, hb, hml, hown, hts⟩ (tX9_in l dC dI dA H.size v8) (ccX9_X9_in hts ⟨Nat.le_of_ble_eq_true rfl, Nat.le_of_ble_eq_true rfl⟩) (gPreS0 hK) rfl rfl hl.1 rfl (lv_room (Nat.le_of_ble_eq_true rfl)) dX9_soft_24 ⟨Nat.le_of_ble_eq_true rfl, Nat.le_of_ble_eq_true rfl⟩) hP hS hA (fun H locs hP hS => ?_)
      refine lv_if_eq (tgt := 43) hx hb dX9_soft_27 (by decide) (fun k9 => ?_) (fun k9 => ?_)
      · replace hf := ifp k9 hf
        refine lv_iconst (v := 0) hx hb dX9_soft_43 (by decide) ?_
        cases hf
        exact W.zret (ty := .boolean) hx hb hr rfl (fun t ht _ => gqi hP hD hS ht) hS.2.2 dX9_soft_44
      · replace hf := ifn k9 hf
        refine lv_iload hx hb dX9_soft_30 (lv_at hl 4 rfl) ?_
        refine lv_i2l hx hb dX9_soft_32 rfl ?_
        refine lv_lconst (v := 0) hx hb dX9_soft_33 rfl ?_
        refine lv_ldc2 (v := 1000000) hx hb hown (hts _ (gw_mem wkX9_130)) dX9_soft_34 ?_
        obtain ⟨r10, v11, hf⟩ := bd1_some hf
        refine gci0 (va_runS (As := [.long (Int32.toInt64 p4), .long 0, .long 1000000]) (rest := []) ⟨hx, hb, hml, hown, hts⟩ (tX9_in l dC dI dA H.size v11) (ccX9_X9_in hts ⟨Nat.le_of_ble_eq_true rfl, Nat.le_of_ble_eq_true rfl⟩) (gPreS0 hK) rfl rfl hl.1 rfl (lv_room (Nat.le_of_ble_eq_true rfl)) dX9_soft_37 ⟨Nat.le_of_ble_eq_true rfl, Nat.le_of_ble_eq_true rfl⟩) hP hS hA (fun H locs hP hS => ?_)
        refine lv_if_ne (tgt := 45) hx hb dX9_soft_40 (by decide) (fun k12 => ?_) (fun k12 => ?_)
        · replace hf := ifn k12 hf
          refine lv_aload_n hx hb dX9_soft_45 rfl (lv_at hl 0 rfl) ?_
          refine lv_iload_n hx hb dX9_soft_46 rfl (lv_at hl 1 rfl) ?_
          refine lv_iload_n hx hb dX9_soft_47 rfl (lv_at hl 2 rfl) ?_
          refine lv_iload_n hx hb dX9_soft_48 rfl (lv_at hl 3 rfl) ?_
          refine lv_iload hx hb dX9_soft_49 (lv_at hl 4 rfl) ?_
          obtain ⟨c_bonds_13, v14, hf⟩ := bd1_some hf
          refine gcv (va_runV (As := [.int p1, .int p2, .int p3, .int p4]) (rest := []) ⟨hx, hb, hml, hown, hts⟩ (tX9_softens l dC dI dA ad H.size v14) (ccX9_X9_softens hts ⟨Nat.le_of_ble_eq_true rfl, Nat.le_of_ble_eq_true rfl⟩) (gPreV (ci := 9) (q0 := 0) hP hK hD rfl rfl) rfl rfl hl.1 rfl (lv_room (Nat.le_of_ble_eq_true rfl)) dX9_soft_51 ⟨Nat.le_of_ble_eq_true rfl, Nat.le_of_ble_eq_true rfl⟩) hD hS hA (fun H locs hP hD hS => ?_)
          refine lv_iconst (v := 1) hx hb dX9_soft_54 (by decide) ?_
          cases hf
          exact W.zret (ty := .boolean) hx hb hr rfl (fun t ht _ => gqi hP hD hS ht) hS.2.2 dX9_soft_55
        · replace hf := ifp k12 hf
          refine lv_iconst (v := 0) hx hb dX9_soft_43 (by decide) ?_
          cases hf
          exact W.zret (ty := .boolean) hx hb hr rfl (fun t ht _ => gqi hP hD hS ht) hS.2.2 dX9_soft_44
abbrev rmX9_settle : Room := { frames := 2, cells := 0, slots := 0, locals := 45 }
set_option maxHeartbeats 4000000 in
set_option maxRecDepth 100000 in
theorem tX9_settle (l : Launch) (dC : Nat → ClassId) (dI : Nat → Nat → Nat) (dA : Nat → ClassId) (ad : Nat → Nat) (sz : Nat) {p1 : Int32} {p2 : Int32} {c_tape : Nat → Int32} {c_taped : Int32} {c_tree : Nat → Int32} {c_bonds : Nat → Int32} {c_moves : Nat → Int32} {c_handMoves : Nat → Int32} {c_moved : Int32} {c_days : Int32} {c_likely : Int32} {c_outOf : Int32} {c_rateNow : Int32} {c_pence : Nat → Int64} {c_top : Int64} {c_bottom : Int64} {c_spot : Int32} {c_textLong : Int32} {c_fault : Int32} {c_number : Int32} {c_numberAt : Int32} {c_figures : Int32} {c_written : Int32} {c_wanted : Int32} {c_found : Int32} {c_drawnNow : Int32} {c_worth : Nat → Int64} {c_hold : Nat → Int64} {c_way : Nat → Int64} {c_acts : Nat → Int32} {c_sDay : Int32} {c_sUps : Int32} {c_sUp : Int32} {c_sMarks : Int32} {c_paidAll : Int64} {c_isPlayed : Int32} {c_isOn : Int32} {c_handMoved : Int32} {c_handPaid : Int64} {c_regret : Int64} {c_aside : Nat → Int32} {c_other : Nat → Int64} {c_states : Int32} {c_kept : Nat → Int32} {c_keptLong : Nat → Int64} {c_keptAt : Int32} {c_isTaking : Int32} {r : Int32} {o_c_bonds : Nat → Int32} (hf : fX9_settle p1 p2 c_bonds = some (r, o_c_bonds)) : Met l yX9_settle (wq (Cond.code yX9_settle cX9_settle 4 (some .int))) rmX9_settle (gP [.ref (ad 0), .int p1, .int p2] (dC, dI) dA (mW dA ad c_tape c_taped c_tree c_bonds c_moves c_handMoves c_moved c_days c_likely c_outOf c_rateNow c_pence c_top c_bottom c_spot c_textLong c_fault c_number c_numberAt c_figures c_written c_wanted c_found c_drawnNow c_worth c_hold c_way c_acts c_sDay c_sUps c_sUp c_sMarks c_paidAll c_isPlayed c_isOn c_handMoved c_handPaid c_regret c_aside c_other c_states c_kept c_keptLong c_keptAt c_isTaking) sz) (gQi (dC, dI) r (mW dA ad c_tape c_taped c_tree o_c_bonds c_moves c_handMoves c_moved c_days c_likely c_outOf c_rateNow c_pence c_top c_bottom c_spot c_textLong c_fault c_number c_numberAt c_figures c_written c_wanted c_found c_drawnNow c_worth c_hold c_way c_acts c_sDay c_sUps c_sUp c_sMarks c_paidAll c_isPlayed c_isOn c_handMoved c_handPaid c_regret c_aside c_other c_states c_kept c_keptLong c_keptAt c_isTaking) (va_A (mW dA ad c_tape c_taped c_tree c_bonds c_moves c_handMoves c_moved c_days c_likely c_outOf c_rateNow c_pence c_top c_bottom c_spot c_textLong c_fault c_number c_numberAt c_figures c_written c_wanted c_found c_drawnNow c_worth c_hold c_way c_acts c_sDay c_sUps c_sUp c_sMarks c_paidAll c_isPlayed c_isOn c_handMoved c_handPaid c_regret c_aside c_other c_states c_kept c_keptLong c_keptAt c_isTaking) sz)) 0 0 (va_A (mW dA ad c_tape c_taped c_tree c_bonds c_moves c_handMoves c_moved c_days c_likely c_outOf c_rateNow c_pence c_top c_bottom c_spot c_textLong c_fault c_number c_numberAt c_figures c_written c_wanted c_found c_drawnNow c_worth c_hold c_way c_acts c_sDay c_sUps c_sUp c_sMarks c_paidAll c_isPlayed c_isOn c_handMoved c_handPaid c_regret c_aside c_other c_states c_kept c_keptLong c_keptAt c_isTaking) sz) := by
  refine Met.ofW (cc := cX9_settle) (maxL := 4) (ret := (some .int)) (by decide) rfl ?_
  intro p e s m args below meth c s₁ B hml hv
  obtain ⟨rfl, hsz, hP, hK, hD0⟩ := hv
  have hx := B.exec
  have hb := B.bytes
  have hr := B.returns
  have hts := atoms_spec (ws := wq (Cond.code yX9_settle cX9_settle 4 (some .int))) B.pre
  have hown : s.vm.findClass RX9 = some m.cls := findClass_of_methodNamed B.named
  have hlocks := B.notSynchronized
  clear B
  subst hsz
  have hD := hD0.self (sz := s.heap.size)
  generalize hAe : va_A (mW dA ad c_tape c_taped c_tree c_bonds c_moves c_handMoves c_moved c_days c_likely c_outOf c_rateNow c_pence c_top c_bottom c_spot c_textLong c_fault c_number c_numberAt c_figures c_written c_wanted c_found c_drawnNow c_worth c_hold c_way c_acts c_sDay c_sUps c_sUp c_sMarks c_paidAll c_isPlayed c_isOn c_handMoved c_handPaid c_regret c_aside c_other c_states c_kept c_keptLong c_keptAt c_isTaking) s.heap.size = A at hD ⊢
  have hA : ∀ q : Nat, s.heap.size ≤ q → A q := fun q h => by rw [← hAe]; exact Or.inr h
  clear hAe hD0
  have hS : va_S A s.heap s.heap [] := va_S.rf
  have hl := lv_entry ([.ref (ad 0), .int p1, .int p2]) (n := 4) (Nat.le_of_ble_eq_true rfl)
  rw [lg_entry_eq]
  generalize (lg_sl ([.ref (ad 0), .int p1, .int p2]) ++ List.replicate (4 - (lg_sl ([.ref (ad 0), .int p1, .int p2])).length) Slot.unset).toArray = ls at hl ⊢
  have hl : lv_has ls 4 [(0, .ref (ad 0)), (1, .int p1), (2, .int p2)] := hl
  change W p l e rmX9_settle s m ([.ref (ad 0), .int p1, .int p2] : List Value).toArray below meth c s.heap [] 0 0 _ _
  unfold fX9_settle at hf
  refine lv_iload_n hx hb dX9_settle_0 rfl (lv_at hl 1 rfl) ?_
  obtain ⟨r1, v2, hf⟩ := bd1_some hf
  refine gci0 (va_runS (As := [.int p1]) (rest := []) ⟨hx, hb, hml, hown, hts⟩ (tX9_isBond l dC dI dA s.heap.size v2) (ccX9_X9_isBond hts ⟨Nat.le_of_ble_eq_true rfl, Nat.le_of_ble_eq_true rfl⟩) (gPreS0 hK) rfl rfl hl.1 rfl (lv_room (Nat.le_of_ble_eq_true rfl)) dX9_settle_1 ⟨Nat.le_of_ble_eq_true rfl, Nat.le_of_ble_eq_true rfl⟩) hP hS hA (fun H locs hP hS => ?_)
  refine lv_if_eq (tgt := 19) hx hb dX9_settle_4 (by decide) (fun k3 => ?_) (fun k3 => ?_)
  · replace hf := ifp k3 hf
    refine lv_iconst (v := (-1)) hx hb dX9_settle_19 (by decide) ?_
    cases hf
    exact W.iret hx hb hr (fun t ht _ => gqi hP hD hS ht) hS.2.2 dX9_settle_20
  · replace hf := ifn k3 hf
    refine lv_iload_n hx hb dX9_settle_7 rfl (lv_at hl 2 rfl) ?_
    refine lv_i2l hx hb dX9_settle_8 rfl ?_
    refine lv_lconst (v := 0) hx hb dX9_settle_9 rfl ?_
    refine lv_ldc2 (v := 3) hx hb hown (hts _ (gw_mem wkX9_142)) dX9_settle_10 ?_
    obtain ⟨r4, v5, hf⟩ := bd1_some hf
    refine gci0 (va_runS (As := [.long (Int32.toInt64 p2), .long 0, .long 3]) (rest := []) ⟨hx, hb, hml, hown, hts⟩ (tX9_in l dC dI dA H.size v5) (ccX9_X9_in hts ⟨Nat.le_of_ble_eq_true rfl, Nat.le_of_ble_eq_true rfl⟩) (gPreS0 hK) rfl rfl hl.1 rfl (lv_room (Nat.le_of_ble_eq_true rfl)) dX9_settle_13 ⟨Nat.le_of_ble_eq_true rfl, Nat.le_of_ble_eq_true rfl⟩) hP hS hA (fun H locs hP hS => ?_)
    refine lv_if_ne (tgt := 21) hx hb dX9_settle_16 (by decide) (fun k6 => ?_) (fun k6 => ?_)
    · replace hf := ifn k6 hf
      refine lv_aload_n hx hb dX9_settle_21 rfl (lv_at hl 0 rfl) ?_
      refine lv_iload_n hx hb dX9_settle_22 rfl (lv_at hl 1 rfl) ?_
      refine lv_bipush (v := 26) hx hb dX9_settle_23 (by decide) ?_
      obtain ⟨r7, v8, hf⟩ := bd1_some hf
      refine gci (va_runV (As := [.int p1, .int 26]) (rest := []) ⟨hx, hb, hml, hown, hts⟩ (tX9_of l dC dI dA ad H.size v8) (ccX9_X9_of hts ⟨Nat.le_of_ble_eq_true rfl, Nat.le_of_ble_eq_true rfl⟩) (gPreV (ci := 9) (q0 := 0) hP hK hD rfl rfl) rfl rfl hl.1 rfl (lv_room (Nat.le_of_ble_eq_true rfl)) dX9_settle_25 ⟨Nat.le_of_ble_eq_true rfl, Nat.le_of_ble_eq_true rfl⟩) hD hS hA (fun H locs hP hD hS => ?_)
      refine lv_istore_n (lv' := [(3, .int r7), (0, .ref (ad 0)), (1, .int p1), (2, .int p2)]) hx hb dX9_settle_28 rfl hl (by decide) rfl (fun ls hl => ?_)
      refine lv_aload_n hx hb dX9_settle_29 rfl (lv_at hl 1 rfl) ?_
      refine lv_iload_n hx hb dX9_settle_30 rfl (lv_at hl 2 rfl) ?_
      refine lv_bipush (v := 26) hx hb dX9_settle_31 (by decide) ?_
      refine lv_iload_n hx hb dX9_settle_33 rfl (lv_at hl 3 rfl) ?_
      obtain ⟨c_bonds_9, v10, hf⟩ := bd1_some hf
      refine gcv (va_runV (As := [.int p1, .int 26, .int p2]) (rest := []) ⟨hx, hb, hml, hown, hts⟩ (tX9_sets l dC dI dA ad H.size v10) (ccX9_X9_sets hts ⟨Nat.le_of_ble_eq_true rfl, Nat.le_of_ble_eq_true rfl⟩) (gPreV (ci := 9) (q0 := 0) hP hK hD rfl rfl) rfl rfl hl.1 rfl (lv_room (Nat.le_of_ble_eq_true rfl)) dX9_settle_34 ⟨Nat.le_of_ble_eq_true rfl, Nat.le_of_ble_eq_true rfl⟩) hD hS hA (fun H locs hP hD hS => ?_)
      refine lv_iload_n hx hb dX9_settle_37 rfl (lv_at hl 0 rfl) ?_
      cases hf
      exact W.iret hx hb hr (fun t ht _ => gqi hP hD hS ht) hS.2.2 dX9_settle_38
    · replace hf := ifp k6 hf
      refine lv_iconst (v := (-1)) hx hb dX9_settle_19 (by decide) ?_
      cases hf
      exact W.iret hx hb hr (fun t ht _ => gqi hP hD hS ht) hS.2.2 dX9_settle_20
abbrev rmX9_told : Room := { frames := 2, cells := 0, slots := 0, locals := 45 }
set_option maxHeartbeats 4000000 in
set_option maxRecDepth 100000 in
theorem tX9_told (l : Launch) (dC : Nat → ClassId) (dI : Nat → Nat → Nat) (dA : Nat → ClassId) (ad : Nat → Nat) (sz : Nat) {p1 : Int32} {p2 : Int32} {c_tape : Nat → Int32} {c_taped : Int32} {c_tree : Nat → Int32} {c_bonds : Nat → Int32} {c_moves : Nat → Int32} {c_handMoves : Nat → Int32} {c_moved : Int32} {c_days : Int32} {c_likely : Int32} {c_outOf : Int32} {c_rateNow : Int32} {c_pence : Nat → Int64} {c_top : Int64} {c_bottom : Int64} {c_spot : Int32} {c_textLong : Int32} {c_fault : Int32} {c_number : Int32} {c_numberAt : Int32} {c_figures : Int32} {c_written : Int32} {c_wanted : Int32} {c_found : Int32} {c_drawnNow : Int32} {c_worth : Nat → Int64} {c_hold : Nat → Int64} {c_way : Nat → Int64} {c_acts : Nat → Int32} {c_sDay : Int32} {c_sUps : Int32} {c_sUp : Int32} {c_sMarks : Int32} {c_paidAll : Int64} {c_isPlayed : Int32} {c_isOn : Int32} {c_handMoved : Int32} {c_handPaid : Int64} {c_regret : Int64} {c_aside : Nat → Int32} {c_other : Nat → Int64} {c_states : Int32} {c_kept : Nat → Int32} {c_keptLong : Nat → Int64} {c_keptAt : Int32} {c_isTaking : Int32} {r : Int32} (hf : fX9_told p1 p2 c_bonds = some (r)) : Met l yX9_told (wq (Cond.code yX9_told cX9_told 3 (some .int))) rmX9_told (gP [.ref (ad 0), .int p1, .int p2] (dC, dI) dA (mW dA ad c_tape c_taped c_tree c_bonds c_moves c_handMoves c_moved c_days c_likely c_outOf c_rateNow c_pence c_top c_bottom c_spot c_textLong c_fault c_number c_numberAt c_figures c_written c_wanted c_found c_drawnNow c_worth c_hold c_way c_acts c_sDay c_sUps c_sUp c_sMarks c_paidAll c_isPlayed c_isOn c_handMoved c_handPaid c_regret c_aside c_other c_states c_kept c_keptLong c_keptAt c_isTaking) sz) (gQi (dC, dI) r (mW dA ad c_tape c_taped c_tree c_bonds c_moves c_handMoves c_moved c_days c_likely c_outOf c_rateNow c_pence c_top c_bottom c_spot c_textLong c_fault c_number c_numberAt c_figures c_written c_wanted c_found c_drawnNow c_worth c_hold c_way c_acts c_sDay c_sUps c_sUp c_sMarks c_paidAll c_isPlayed c_isOn c_handMoved c_handPaid c_regret c_aside c_other c_states c_kept c_keptLong c_keptAt c_isTaking) (va_A (mW dA ad c_tape c_taped c_tree c_bonds c_moves c_handMoves c_moved c_days c_likely c_outOf c_rateNow c_pence c_top c_bottom c_spot c_textLong c_fault c_number c_numberAt c_figures c_written c_wanted c_found c_drawnNow c_worth c_hold c_way c_acts c_sDay c_sUps c_sUp c_sMarks c_paidAll c_isPlayed c_isOn c_handMoved c_handPaid c_regret c_aside c_other c_states c_kept c_keptLong c_keptAt c_isTaking) sz)) 0 0 (va_A (mW dA ad c_tape c_taped c_tree c_bonds c_moves c_handMoves c_moved c_days c_likely c_outOf c_rateNow c_pence c_top c_bottom c_spot c_textLong c_fault c_number c_numberAt c_figures c_written c_wanted c_found c_drawnNow c_worth c_hold c_way c_acts c_sDay c_sUps c_sUp c_sMarks c_paidAll c_isPlayed c_isOn c_handMoved c_handPaid c_regret c_aside c_other c_states c_kept c_keptLong c_keptAt c_isTaking) sz) := by
  refine Met.ofW (cc := cX9_told) (maxL := 3) (ret := (some .int)) (by decide) rfl ?_
  intro p e s m args below meth c s₁ B hml hv
  obtain ⟨rfl, hsz, hP, hK, hD0⟩ := hv
  have hx := B.exec
  have hb := B.bytes
  have hr := B.returns
  have hts := atoms_spec (ws := wq (Cond.code yX9_told cX9_told 3 (some .int))) B.pre
  have hown : s.vm.findClass RX9 = some m.cls := findClass_of_methodNamed B.named
  have hlocks := B.notSynchronized
  clear B
  subst hsz
  have hD := hD0.self (sz := s.heap.size)
  generalize hAe : va_A (mW dA ad c_tape c_taped c_tree c_bonds c_moves c_handMoves c_moved c_days c_likely c_outOf c_rateNow c_pence c_top c_bottom c_spot c_textLong c_fault c_number c_numberAt c_figures c_written c_wanted c_found c_drawnNow c_worth c_hold c_way c_acts c_sDay c_sUps c_sUp c_sMarks c_paidAll c_isPlayed c_isOn c_handMoved c_handPaid c_regret c_aside c_other c_states c_kept c_keptLong c_keptAt c_isTaking) s.heap.size = A at hD ⊢
  have hA : ∀ q : Nat, s.heap.size ≤ q → A q := fun q h => by rw [← hAe]; exact Or.inr h
  clear hAe hD0
  have hS : va_S A s.heap s.heap [] := va_S.rf
  have hl := lv_entry ([.ref (ad 0), .int p1, .int p2]) (n := 3) (Nat.le_of_ble_eq_true rfl)
  rw [lg_entry_eq]
  generalize (lg_sl ([.ref (ad 0), .int p1, .int p2]) ++ List.replicate (3 - (lg_sl ([.ref (ad 0), .int p1, .int p2])).length) Slot.unset).toArray = ls at hl ⊢
  have hl : lv_has ls 3 [(0, .ref (ad 0)), (1, .int p1), (2, .int p2)] := hl
  change W p l e rmX9_told s m ([.ref (ad 0), .int p1, .int p2] : List Value).toArray below meth c s.heap [] 0 0 _ _
  unfold fX9_told at hf
  refine lv_iload_n hx hb dX9_told_0 rfl (lv_at hl 1 rfl) ?_
  obtain ⟨r1, v2, hf⟩ := bd1_some hf
  refine gci0 (va_runS (As := [.int p1]) (rest := []) ⟨hx, hb, hml, hown, hts⟩ (tX9_isBond l dC dI dA s.heap.size v2) (ccX9_X9_isBond hts ⟨Nat.le_of_ble_eq_true rfl, Nat.le_of_ble_eq_true rfl⟩) (gPreS0 hK) rfl rfl hl.1 rfl (lv_room (Nat.le_of_ble_eq_true rfl)) dX9_told_1 ⟨Nat.le_of_ble_eq_true rfl, Nat.le_of_ble_eq_true rfl⟩) hP hS hA (fun H locs hP hS => ?_)
  refine lv_if_ne (tgt := 9) hx hb dX9_told_4 (by decide) (fun k3 => ?_) (fun k3 => ?_)
  · replace hf := ifn k3 hf
    refine lv_iload_n hx hb dX9_told_9 rfl (lv_at hl 2 rfl) ?_
    refine lv_i2l hx hb dX9_told_10 rfl ?_
    refine lv_lconst (v := 0) hx hb dX9_told_11 rfl ?_
    refine lv_lconst (v := 1) hx hb dX9_told_12 rfl ?_
    obtain ⟨r4, v5, hf⟩ := bd1_some hf
    refine gci0 (va_runS (As := [.long (Int32.toInt64 p2), .long 0, .long 1]) (rest := []) ⟨hx, hb, hml, hown, hts⟩ (tX9_in l dC dI dA H.size v5) (ccX9_X9_in hts ⟨Nat.le_of_ble_eq_true rfl, Nat.le_of_ble_eq_true rfl⟩) (gPreS0 hK) rfl rfl hl.1 rfl (lv_room (Nat.le_of_ble_eq_true rfl)) dX9_told_13 ⟨Nat.le_of_ble_eq_true rfl, Nat.le_of_ble_eq_true rfl⟩) hP hS hA (fun H locs hP hS => ?_)
    refine lv_if_eq (tgt := 26) hx hb dX9_told_16 (by decide) (fun k6 => ?_) (fun k6 => ?_)
    · replace hf := ifp k6 hf
      refine lv_iload_n hx hb dX9_told_26 rfl (lv_at hl 2 rfl) ?_
      refine lv_i2l hx hb dX9_told_27 rfl ?_
      refine lv_ldc2 (v := 2) hx hb hown (hts _ (gw_mem wkX9_58)) dX9_told_28 ?_
      refine lv_ldc2 (v := 3) hx hb hown (hts _ (gw_mem wkX9_142)) dX9_told_31 ?_
      obtain ⟨r7, v8, hf⟩ := bd1_some hf
      refine gci0 (va_runS (As := [.long (Int32.toInt64 p2), .long 2, .long 3]) (rest := []) ⟨hx, hb, hml, hown, hts⟩ (tX9_in l dC dI dA H.size v8) (ccX9_X9_in hts ⟨Nat.le_of_ble_eq_true rfl, Nat.le_of_ble_eq_true rfl⟩) (gPreS0 hK) rfl rfl hl.1 rfl (lv_room (Nat.le_of_ble_eq_true rfl)) dX9_told_34 ⟨Nat.le_of_ble_eq_true rfl, Nat.le_of_ble_eq_true rfl⟩) hP hS hA (fun H locs hP hS => ?_)
      refine lv_if_eq (tgt := 52) hx hb dX9_told_37 (by decide) (fun k9 => ?_) (fun k9 => ?_)
      · replace hf := ifp k9 hf
        refine lv_iload_n hx hb dX9_told_52 rfl (lv_at hl 2 rfl) ?_
        refine lv_i2l hx hb dX9_told_53 rfl ?_
        refine lv_ldc2 (v := 4) hx hb hown (hts _ (gw_mem wkX9_147)) dX9_told_54 ?_
        refine lv_ldc2 (v := 7) hx hb hown (hts _ (gw_mem wkX9_149)) dX9_told_57 ?_
        obtain ⟨r10, v11, hf⟩ := bd1_some hf
        refine gci0 (va_runS (As := [.long (Int32.toInt64 p2), .long 4, .long 7]) (rest := []) ⟨hx, hb, hml, hown, hts⟩ (tX9_in l dC dI dA H.size v11) (ccX9_X9_in hts ⟨Nat.le_of_ble_eq_true rfl, Nat.le_of_ble_eq_true rfl⟩) (gPreS0 hK) rfl rfl hl.1 rfl (lv_room (Nat.le_of_ble_eq_true rfl)) dX9_told_60 ⟨Nat.le_of_ble_eq_true rfl, Nat.le_of_ble_eq_true rfl⟩) hP hS hA (fun H locs hP hS => ?_)
        refine lv_if_eq (tgt := 78) hx hb dX9_told_63 (by decide) (fun k12 => ?_) (fun k12 => ?_)
        · replace hf := ifp k12 hf
          refine lv_iload_n hx hb dX9_told_78 rfl (lv_at hl 2 rfl) ?_
          refine lv_i2l hx hb dX9_told_79 rfl ?_
          refine lv_ldc2 (v := 11) hx hb hown (hts _ (gw_mem wkX9_151)) dX9_told_80 ?_
          refine lv_ldc2 (v := 16) hx hb hown (hts _ (gw_mem wkX9_153)) dX9_told_83 ?_
          obtain ⟨r13, v14, hf⟩ := bd1_some hf
          refine gci0 (va_runS (As := [.long (Int32.toInt64 p2), .long 11, .long 16]) (rest := []) ⟨hx, hb, hml, hown, hts⟩ (tX9_in l dC dI dA H.size v14) (ccX9_X9_in hts ⟨Nat.le_of_ble_eq_true rfl, Nat.le_of_ble_eq_true rfl⟩) (gPreS0 hK) rfl rfl hl.1 rfl (lv_room (Nat.le_of_ble_eq_true rfl)) dX9_told_86 ⟨Nat.le_of_ble_eq_true rfl, Nat.le_of_ble_eq_true rfl⟩) hP hS hA (fun H locs hP hS => ?_)
          refine lv_if_eq (tgt := 104) hx hb dX9_told_89 (by decide) (fun k15 => ?_) (fun k15 => ?_)
          · replace hf := ifp k15 hf
            refine lv_iload_n hx hb dX9_told_104 rfl (lv_at hl 2 rfl) ?_
            refine lv_i2l hx hb dX9_told_105 rfl ?_
            refine lv_ldc2 (v := 20) hx hb hown (hts _ (gw_mem wkX9_79)) dX9_told_106 ?_
            refine lv_ldc2 (v := 25) hx hb hown (hts _ (gw_mem wkX9_155)) dX9_told_109 ?_
            obtain ⟨r16, v17, hf⟩ := bd1_some hf
            refine gci0 (va_runS (As := [.long (Int32.toInt64 p2), .long 20, .long 25]) (rest := []) ⟨hx, hb, hml, hown, hts⟩ (tX9_in l dC dI dA H.size v17) (ccX9_X9_in hts ⟨Nat.le_of_ble_eq_true rfl, Nat.le_of_ble_eq_true rfl⟩) (gPreS0 hK) rfl rfl hl.1 rfl (lv_room (Nat.le_of_ble_eq_true rfl)) dX9_told_112 ⟨Nat.le_of_ble_eq_true rfl, Nat.le_of_ble_eq_true rfl⟩) hP hS hA (fun H locs hP hS => ?_)
            refine lv_if_eq (tgt := 135) hx hb dX9_told_115 (by decide) (fun k18 => ?_) (fun k18 => ?_)
            · replace hf := ifp k18 hf
              refine lv_iload_n hx hb dX9_told_135 rfl (lv_at hl 2 rfl) ?_
              refine lv_i2l hx hb dX9_told_136 rfl ?_
              refine lv_ldc2 (v := 30) hx hb hown (hts _ (gw_mem wkX9_157)) dX9_told_137 ?_
              refine lv_ldc2 (v := 35) hx hb hown (hts _ (gw_mem wkX9_159)) dX9_told_140 ?_
              obtain ⟨r19, v20, hf⟩ := bd1_some hf
              refine gci0 (va_runS (As := [.long (Int32.toInt64 p2), .long 30, .long 35]) (rest := []) ⟨hx, hb, hml, hown, hts⟩ (tX9_in l dC dI dA H.size v20) (ccX9_X9_in hts ⟨Nat.le_of_ble_eq_true rfl, Nat.le_of_ble_eq_true rfl⟩) (gPreS0 hK) rfl rfl hl.1 rfl (lv_room (Nat.le_of_ble_eq_true rfl)) dX9_told_143 ⟨Nat.le_of_ble_eq_true rfl, Nat.le_of_ble_eq_true rfl⟩) hP hS hA (fun H locs hP hS => ?_)
              obtain ⟨j22, v24, hf⟩ := bd1_some hf
              have J23 : ∀ (H : Heap) (locs : List Loc) (ls : Array Slot), va_P (dC, dI) vwCl (mW dA ad c_tape c_taped c_tree c_bonds c_moves c_handMoves c_moved c_days c_likely c_outOf c_rateNow c_pence c_top c_bottom c_spot c_textLong c_fault c_number c_numberAt c_figures c_written c_wanted c_found c_drawnNow c_worth c_hold c_way c_acts c_sDay c_sUps c_sUp c_sMarks c_paidAll c_isPlayed c_isOn c_handMoved c_handPaid c_regret c_aside c_other c_states c_kept c_keptLong c_keptAt c_isTaking) H → va_D A (mW dA ad c_tape c_taped c_tree c_bonds c_moves c_handMoves c_moved c_days c_likely c_outOf c_rateNow c_pence c_top c_bottom c_spot c_textLong c_fault c_number c_numberAt c_figures c_written c_wanted c_found c_drawnNow c_worth c_hold c_way c_acts c_sDay c_sUps c_sUp c_sMarks c_paidAll c_isPlayed c_isOn c_handMoved c_handPaid c_regret c_aside c_other c_states c_kept c_keptLong c_keptAt c_isTaking) → va_S A s.heap H locs → lv_has ls 3 [] → W p l e rmX9_told s m ([.ref (ad 0), .int p1, .int p2] : List Value).toArray below meth c H locs 0 0 (MQ below (gQi (dC, dI) r (mW dA ad c_tape c_taped c_tree c_bonds c_moves c_handMoves c_moved c_days c_likely c_outOf c_rateNow c_pence c_top c_bottom c_spot c_textLong c_fault c_number c_numberAt c_figures c_written c_wanted c_found c_drawnNow c_worth c_hold c_way c_acts c_sDay c_sUps c_sUp c_sMarks c_paidAll c_isPlayed c_isOn c_handMoved c_handPaid c_regret c_aside c_other c_states c_kept c_keptLong c_keptAt c_isTaking) A) ([.ref (ad 0), .int p1, .int p2] : List Value).toArray s 0 0 A) (F0 m 169 ls [.int j22]) := by
                intro H locs ls hP hD hS hl
                cases hf
                exact W.iret hx hb hr (fun t ht _ => gqi hP hD hS ht) hS.2.2 dX9_told_169
              replace hf := v24
              clear v24
              refine lv_if_eq (tgt := 168) hx hb dX9_told_146 (by decide) (fun k21 => ?_) (fun k21 => ?_)
              · replace hf := ifp k21 hf
                refine lv_iconst (v := (-1)) hx hb dX9_told_168 (by decide) ?_
                cases hf
                exact J23 _ _ _ hP hD hS (lv_sub hl [] rfl)
              · replace hf := ifn k21 hf
                refine lv_aload_n hx hb dX9_told_149 rfl (lv_at hl 0 rfl) ?_
                refine lv_aload_n hx hb dX9_told_150 rfl (lv_at hl 0 rfl) ?_
                refine lv_iload_n hx hb dX9_told_151 rfl (lv_at hl 1 rfl) ?_
                refine lv_bipush (v := 15) hx hb dX9_told_152 (by decide) ?_
                refine lv_iload_n hx hb dX9_told_154 rfl (lv_at hl 2 rfl) ?_
                refine lv_iadd hx hb dX9_told_155 ?_
                refine lv_bipush (v := 30) hx hb dX9_told_156 (by decide) ?_
                refine lv_isub hx hb dX9_told_158 ?_
                obtain ⟨r25, v26, hf⟩ := bd1_some hf
                refine gci (va_runV (As := [.int p1, .int ((15 + p2) - 30)]) (rest := [.ref (ad 0)]) ⟨hx, hb, hml, hown, hts⟩ (tX9_of l dC dI dA ad H.size v26) (ccX9_X9_of hts ⟨Nat.le_of_ble_eq_true rfl, Nat.le_of_ble_eq_true rfl⟩) (gPreV (ci := 9) (q0 := 0) hP hK hD rfl rfl) rfl rfl hl.1 rfl (lv_room (Nat.le_of_ble_eq_true rfl)) dX9_told_159 ⟨Nat.le_of_ble_eq_true rfl, Nat.le_of_ble_eq_true rfl⟩) hD hS hA (fun H locs hP hD hS => ?_)
                obtain ⟨r27, v28, hf⟩ := bd1_some hf
                refine gci (va_runV (As := [.int r25]) (rest := []) ⟨hx, hb, hml, hown, hts⟩ (tX9_told2 l dC dI dA ad H.size v28) (ccX9_X9_told2 hts ⟨Nat.le_of_ble_eq_true rfl, Nat.le_of_ble_eq_true rfl⟩) (gPreV (ci := 9) (q0 := 0) hP hK hD rfl rfl) rfl rfl hl.1 rfl (lv_room (Nat.le_of_ble_eq_true rfl)) dX9_told_162 ⟨Nat.le_of_ble_eq_true rfl, Nat.le_of_ble_eq_true rfl⟩) hD hS hA (fun H locs hP hD hS => ?_)
                refine lv_goto (tgt := 169) hx hb dX9_told_165 (by decide) ?_
                cases hf
                exact J23 _ _ _ hP hD hS (lv_sub hl [] rfl)
            · replace hf := ifn k18 hf
              refine lv_aload_n hx hb dX9_told_118 rfl (lv_at hl 0 rfl) ?_
              refine lv_aload_n hx hb dX9_told_119 rfl (lv_at hl 0 rfl) ?_
              refine lv_iload_n hx hb dX9_told_120 rfl (lv_at hl 1 rfl) ?_
              refine lv_bipush (v := 9) hx hb dX9_told_121 (by decide) ?_
              refine lv_iload_n hx hb dX9_told_123 rfl (lv_at hl 2 rfl) ?_
              refine lv_iadd hx hb dX9_told_124 ?_
              refine lv_bipush (v := 20) hx hb dX9_told_125 (by decide) ?_
              refine lv_isub hx hb dX9_told_127 ?_
              obtain ⟨r29, v30, hf⟩ := bd1_some hf
              refine gci (va_runV (As := [.int p1, .int ((9 + p2) - 20)]) (rest := [.ref (ad 0)]) ⟨hx, hb, hml, hown, hts⟩ (tX9_of l dC dI dA ad H.size v30) (ccX9_X9_of hts ⟨Nat.le_of_ble_eq_true rfl, Nat.le_of_ble_eq_true rfl⟩) (gPreV (ci := 9) (q0 := 0) hP hK hD rfl rfl) rfl rfl hl.1 rfl (lv_room (Nat.le_of_ble_eq_true rfl)) dX9_told_128 ⟨Nat.le_of_ble_eq_true rfl, Nat.le_of_ble_eq_true rfl⟩) hD hS hA (fun H locs hP hD hS => ?_)
              obtain ⟨r31, v32, hf⟩ := bd1_some hf
              refine gci (va_runV (As := [.int r29]) (rest := []) ⟨hx, hb, hml, hown, hts⟩ (tX9_told2 l dC dI dA ad H.size v32) (ccX9_X9_told2 hts ⟨Nat.le_of_ble_eq_true rfl, Nat.le_of_ble_eq_true rfl⟩) (gPreV (ci := 9) (q0 := 0) hP hK hD rfl rfl) rfl rfl hl.1 rfl (lv_room (Nat.le_of_ble_eq_true rfl)) dX9_told_131 ⟨Nat.le_of_ble_eq_true rfl, Nat.le_of_ble_eq_true rfl⟩) hD hS hA (fun H locs hP hD hS => ?_)
              cases hf
              exact W.iret hx hb hr (fun t ht _ => gqi hP hD hS ht) hS.2.2 dX9_told_134
          · replace hf := ifn k15 hf
            refine lv_aload_n hx hb dX9_told_92 rfl (lv_at hl 0 rfl) ?_
            refine lv_iload_n hx hb dX9_told_93 rfl (lv_at hl 1 rfl) ?_
            refine lv_iconst (v := 2) hx hb dX9_told_94 (by decide) ?_
            refine lv_iload_n hx hb dX9_told_95 rfl (lv_at hl 2 rfl) ?_
            refine lv_iadd hx hb dX9_told_96 ?_
            refine lv_bipush (v := 10) hx hb dX9_told_97 (by decide) ?_
            refine lv_isub hx hb dX9_told_99 ?_
            obtain ⟨r33, v34, hf⟩ := bd1_some hf
            refine gci (va_runV (As := [.int p1, .int ((2 + p2) - 10)]) (rest := []) ⟨hx, hb, hml, hown, hts⟩ (tX9_of l dC dI dA ad H.size v34) (ccX9_X9_of hts ⟨Nat.le_of_ble_eq_true rfl, Nat.le_of_ble_eq_true rfl⟩) (gPreV (ci := 9) (q0 := 0) hP hK hD rfl rfl) rfl rfl hl.1 rfl (lv_room (Nat.le_of_ble_eq_true rfl)) dX9_told_100 ⟨Nat.le_of_ble_eq_true rfl, Nat.le_of_ble_eq_true rfl⟩) hD hS hA (fun H locs hP hD hS => ?_)
            cases hf
            exact W.iret hx hb hr (fun t ht _ => gqi hP hD hS ht) hS.2.2 dX9_told_103
        · replace hf := ifn k12 hf
          refine lv_aload_n hx hb dX9_told_66 rfl (lv_at hl 0 rfl) ?_
          refine lv_iload_n hx hb dX9_told_67 rfl (lv_at hl 1 rfl) ?_
          refine lv_bipush (v := 23) hx hb dX9_told_68 (by decide) ?_
          refine lv_iload_n hx hb dX9_told_70 rfl (lv_at hl 2 rfl) ?_
          refine lv_iadd hx hb dX9_told_71 ?_
          refine lv_iconst (v := 4) hx hb dX9_told_72 (by decide) ?_
          refine lv_isub hx hb dX9_told_73 ?_
          obtain ⟨r35, v36, hf⟩ := bd1_some hf
          refine gci (va_runV (As := [.int p1, .int ((23 + p2) - 4)]) (rest := []) ⟨hx, hb, hml, hown, hts⟩ (tX9_of l dC dI dA ad H.size v36) (ccX9_X9_of hts ⟨Nat.le_of_ble_eq_true rfl, Nat.le_of_ble_eq_true rfl⟩) (gPreV (ci := 9) (q0 := 0) hP hK hD rfl rfl) rfl rfl hl.1 rfl (lv_room (Nat.le_of_ble_eq_true rfl)) dX9_told_74 ⟨Nat.le_of_ble_eq_true rfl, Nat.le_of_ble_eq_true rfl⟩) hD hS hA (fun H locs hP hD hS => ?_)
          cases hf
          exact W.iret hx hb hr (fun t ht _ => gqi hP hD hS ht) hS.2.2 dX9_told_77
      · replace hf := ifn k9 hf
        refine lv_aload_n hx hb dX9_told_40 rfl (lv_at hl 0 rfl) ?_
        refine lv_iload_n hx hb dX9_told_41 rfl (lv_at hl 1 rfl) ?_
        refine lv_bipush (v := 21) hx hb dX9_told_42 (by decide) ?_
        refine lv_iload_n hx hb dX9_told_44 rfl (lv_at hl 2 rfl) ?_
        refine lv_iadd hx hb dX9_told_45 ?_
        refine lv_iconst (v := 2) hx hb dX9_told_46 (by decide) ?_
        refine lv_isub hx hb dX9_told_47 ?_
        obtain ⟨r37, v38, hf⟩ := bd1_some hf
        refine gci (va_runV (As := [.int p1, .int ((21 + p2) - 2)]) (rest := []) ⟨hx, hb, hml, hown, hts⟩ (tX9_of l dC dI dA ad H.size v38) (ccX9_X9_of hts ⟨Nat.le_of_ble_eq_true rfl, Nat.le_of_ble_eq_true rfl⟩) (gPreV (ci := 9) (q0 := 0) hP hK hD rfl rfl) rfl rfl hl.1 rfl (lv_room (Nat.le_of_ble_eq_true rfl)) dX9_told_48 ⟨Nat.le_of_ble_eq_true rfl, Nat.le_of_ble_eq_true rfl⟩) hD hS hA (fun H locs hP hD hS => ?_)
        cases hf
        exact W.iret hx hb hr (fun t ht _ => gqi hP hD hS ht) hS.2.2 dX9_told_51
    · replace hf := ifn k6 hf
      refine lv_aload_n hx hb dX9_told_19 rfl (lv_at hl 0 rfl) ?_
      refine lv_iload_n hx hb dX9_told_20 rfl (lv_at hl 1 rfl) ?_
      refine lv_iload_n hx hb dX9_told_21 rfl (lv_at hl 2 rfl) ?_
      obtain ⟨r39, v40, hf⟩ := bd1_some hf
      refine gci (va_runV (As := [.int p1, .int p2]) (rest := []) ⟨hx, hb, hml, hown, hts⟩ (tX9_of l dC dI dA ad H.size v40) (ccX9_X9_of hts ⟨Nat.le_of_ble_eq_true rfl, Nat.le_of_ble_eq_true rfl⟩) (gPreV (ci := 9) (q0 := 0) hP hK hD rfl rfl) rfl rfl hl.1 rfl (lv_room (Nat.le_of_ble_eq_true rfl)) dX9_told_22 ⟨Nat.le_of_ble_eq_true rfl, Nat.le_of_ble_eq_true rfl⟩) hD hS hA (fun H locs hP hD hS => ?_)
      cases hf
      exact W.iret hx hb hr (fun t ht _ => gqi hP hD hS ht) hS.2.2 dX9_told_25
  · replace hf := ifp k3 hf
    refine lv_iconst (v := (-1)) hx hb dX9_told_7 (by decide) ?_
    cases hf
    exact W.iret hx hb hr (fun t ht _ => gqi hP hD hS ht) hS.2.2 dX9_told_8
theorem ccX9_X9_copies {R : Room} {s : State} {args : Array Value} {c0 : Cond} (ht : ∀ w ∈ wq c0, w.before args s = true) (hR : rmX9_copies.frames + 1 ≤ R.frames ∧ 8 + (4 + 11) + rmX9_copies.locals ≤ R.locals) : CallW R s args RX9 RX9 161 yX9_copies cX9_copies 4 none (wq (.code yX9_copies cX9_copies 4 none)) rmX9_copies 0 0 2 := gCW 2 ht wcX9_copies wmX9_161 wiX9_copies weX9_copies wnX9 (by decide +kernel) rfl rfl hR
abbrev rmX9_copy : Room := { frames := 2, cells := 0, slots := 0, locals := 46 }
set_option maxHeartbeats 4000000 in
set_option maxRecDepth 100000 in
theorem tX9_copy (l : Launch) (dC : Nat → ClassId) (dI : Nat → Nat → Nat) (dA : Nat → ClassId) (ad : Nat → Nat) (sz : Nat) {p1 : Int32} {p2 : Int32} {c_tape : Nat → Int32} {c_taped : Int32} {c_tree : Nat → Int32} {c_bonds : Nat → Int32} {c_moves : Nat → Int32} {c_handMoves : Nat → Int32} {c_moved : Int32} {c_days : Int32} {c_likely : Int32} {c_outOf : Int32} {c_rateNow : Int32} {c_pence : Nat → Int64} {c_top : Int64} {c_bottom : Int64} {c_spot : Int32} {c_textLong : Int32} {c_fault : Int32} {c_number : Int32} {c_numberAt : Int32} {c_figures : Int32} {c_written : Int32} {c_wanted : Int32} {c_found : Int32} {c_drawnNow : Int32} {c_worth : Nat → Int64} {c_hold : Nat → Int64} {c_way : Nat → Int64} {c_acts : Nat → Int32} {c_sDay : Int32} {c_sUps : Int32} {c_sUp : Int32} {c_sMarks : Int32} {c_paidAll : Int64} {c_isPlayed : Int32} {c_isOn : Int32} {c_handMoved : Int32} {c_handPaid : Int64} {c_regret : Int64} {c_aside : Nat → Int32} {c_other : Nat → Int64} {c_states : Int32} {c_kept : Nat → Int32} {c_keptLong : Nat → Int64} {c_keptAt : Int32} {c_isTaking : Int32} {r : Int32} {o_c_bonds : Nat → Int32} (hf : fX9_copy p1 p2 c_bonds = some (r, o_c_bonds)) : Met l yX9_copy (wq (Cond.code yX9_copy cX9_copy 3 (some .boolean))) rmX9_copy (gP [.ref (ad 0), .int p1, .int p2] (dC, dI) dA (mW dA ad c_tape c_taped c_tree c_bonds c_moves c_handMoves c_moved c_days c_likely c_outOf c_rateNow c_pence c_top c_bottom c_spot c_textLong c_fault c_number c_numberAt c_figures c_written c_wanted c_found c_drawnNow c_worth c_hold c_way c_acts c_sDay c_sUps c_sUp c_sMarks c_paidAll c_isPlayed c_isOn c_handMoved c_handPaid c_regret c_aside c_other c_states c_kept c_keptLong c_keptAt c_isTaking) sz) (gQi (dC, dI) r (mW dA ad c_tape c_taped c_tree o_c_bonds c_moves c_handMoves c_moved c_days c_likely c_outOf c_rateNow c_pence c_top c_bottom c_spot c_textLong c_fault c_number c_numberAt c_figures c_written c_wanted c_found c_drawnNow c_worth c_hold c_way c_acts c_sDay c_sUps c_sUp c_sMarks c_paidAll c_isPlayed c_isOn c_handMoved c_handPaid c_regret c_aside c_other c_states c_kept c_keptLong c_keptAt c_isTaking) (va_A (mW dA ad c_tape c_taped c_tree c_bonds c_moves c_handMoves c_moved c_days c_likely c_outOf c_rateNow c_pence c_top c_bottom c_spot c_textLong c_fault c_number c_numberAt c_figures c_written c_wanted c_found c_drawnNow c_worth c_hold c_way c_acts c_sDay c_sUps c_sUp c_sMarks c_paidAll c_isPlayed c_isOn c_handMoved c_handPaid c_regret c_aside c_other c_states c_kept c_keptLong c_keptAt c_isTaking) sz)) 0 0 (va_A (mW dA ad c_tape c_taped c_tree c_bonds c_moves c_handMoves c_moved c_days c_likely c_outOf c_rateNow c_pence c_top c_bottom c_spot c_textLong c_fault c_number c_numberAt c_figures c_written c_wanted c_found c_drawnNow c_worth c_hold c_way c_acts c_sDay c_sUps c_sUp c_sMarks c_paidAll c_isPlayed c_isOn c_handMoved c_handPaid c_regret c_aside c_other c_states c_kept c_keptLong c_keptAt c_isTaking) sz) := by
  refine Met.ofW (cc := cX9_copy) (maxL := 3) (ret := (some .boolean)) (by decide) rfl ?_
  intro p e s m args below meth c s₁ B hml hv
  obtain ⟨rfl, hsz, hP, hK, hD0⟩ := hv
  have hx := B.exec
  have hb := B.bytes
  have hr := B.returns
  have hts := atoms_spec (ws := wq (Cond.code yX9_copy cX9_copy 3 (some .boolean))) B.pre
  have hown : s.vm.findClass RX9 = some m.cls := findClass_of_methodNamed B.named
  have hlocks := B.notSynchronized
  clear B
  subst hsz
  have hD := hD0.self (sz := s.heap.size)
  generalize hAe : va_A (mW dA ad c_tape c_taped c_tree c_bonds c_moves c_handMoves c_moved c_days c_likely c_outOf c_rateNow c_pence c_top c_bottom c_spot c_textLong c_fault c_number c_numberAt c_figures c_written c_wanted c_found c_drawnNow c_worth c_hold c_way c_acts c_sDay c_sUps c_sUp c_sMarks c_paidAll c_isPlayed c_isOn c_handMoved c_handPaid c_regret c_aside c_other c_states c_kept c_keptLong c_keptAt c_isTaking) s.heap.size = A at hD ⊢
  have hA : ∀ q : Nat, s.heap.size ≤ q → A q := fun q h => by rw [← hAe]; exact Or.inr h
  clear hAe hD0
  have hS : va_S A s.heap s.heap [] := va_S.rf
  have hl := lv_entry ([.ref (ad 0), .int p1, .int p2]) (n := 3) (Nat.le_of_ble_eq_true rfl)
  rw [lg_entry_eq]
  generalize (lg_sl ([.ref (ad 0), .int p1, .int p2]) ++ List.replicate (3 - (lg_sl ([.ref (ad 0), .int p1, .int p2])).length) Slot.unset).toArray = ls at hl ⊢
  have hl : lv_has ls 3 [(0, .ref (ad 0)), (1, .int p1), (2, .int p2)] := hl
  change W p l e rmX9_copy s m ([.ref (ad 0), .int p1, .int p2] : List Value).toArray below meth c s.heap [] 0 0 _ _
  unfold fX9_copy at hf
  refine lv_iload_n hx hb dX9_copy_0 rfl (lv_at hl 1 rfl) ?_
  obtain ⟨r1, v2, hf⟩ := bd1_some hf
  refine gci0 (va_runS (As := [.int p1]) (rest := []) ⟨hx, hb, hml, hown, hts⟩ (tX9_isBond l dC dI dA s.heap.size v2) (ccX9_X9_isBond hts ⟨Nat.le_of_ble_eq_true rfl, Nat.le_of_ble_eq_true rfl⟩) (gPreS0 hK) rfl rfl hl.1 rfl (lv_room (Nat.le_of_ble_eq_true rfl)) dX9_copy_1 ⟨Nat.le_of_ble_eq_true rfl, Nat.le_of_ble_eq_true rfl⟩) hP hS hA (fun H locs hP hS => ?_)
  refine lv_if_eq (tgt := 19) hx hb dX9_copy_4 (by decide) (fun k3 => ?_) (fun k3 => ?_)
  · replace hf := ifp k3 hf
    refine lv_iconst (v := 0) hx hb dX9_copy_19 (by decide) ?_
    cases hf
    exact W.zret (ty := .boolean) hx hb hr rfl (fun t ht _ => gqi hP hD hS ht) hS.2.2 dX9_copy_20
  · replace hf := ifn k3 hf
    refine lv_iload_n hx hb dX9_copy_7 rfl (lv_at hl 2 rfl) ?_
    obtain ⟨r4, v5, hf⟩ := bd1_some hf
    refine gci0 (va_runS (As := [.int p2]) (rest := []) ⟨hx, hb, hml, hown, hts⟩ (tX9_isBond l dC dI dA H.size v5) (ccX9_X9_isBond hts ⟨Nat.le_of_ble_eq_true rfl, Nat.le_of_ble_eq_true rfl⟩) (gPreS0 hK) rfl rfl hl.1 rfl (lv_room (Nat.le_of_ble_eq_true rfl)) dX9_copy_8 ⟨Nat.le_of_ble_eq_true rfl, Nat.le_of_ble_eq_true rfl⟩) hP hS hA (fun H locs hP hS => ?_)
    refine lv_if_eq (tgt := 19) hx hb dX9_copy_11 (by decide) (fun k6 => ?_) (fun k6 => ?_)
    · replace hf := ifp k6 hf
      refine lv_iconst (v := 0) hx hb dX9_copy_19 (by decide) ?_
      cases hf
      exact W.zret (ty := .boolean) hx hb hr rfl (fun t ht _ => gqi hP hD hS ht) hS.2.2 dX9_copy_20
    · replace hf := ifn k6 hf
      refine lv_iload_n hx hb dX9_copy_14 rfl (lv_at hl 1 rfl) ?_
      refine lv_iload_n hx hb dX9_copy_15 rfl (lv_at hl 2 rfl) ?_
      refine lv_icmp_ne (tgt := 21) hx hb dX9_copy_16 (by decide) (fun k7 => ?_) (fun k7 => ?_)
      · replace hf := ifn k7 hf
        refine lv_aload_n hx hb dX9_copy_21 rfl (lv_at hl 0 rfl) ?_
        refine lv_iload_n hx hb dX9_copy_22 rfl (lv_at hl 1 rfl) ?_
        refine lv_iload_n hx hb dX9_copy_23 rfl (lv_at hl 2 rfl) ?_
        obtain ⟨c_bonds_8, v9, hf⟩ := bd1_some hf
        refine gcv (va_runV (As := [.int p1, .int p2]) (rest := []) ⟨hx, hb, hml, hown, hts⟩ (tX9_copies l dC dI dA ad H.size v9) (ccX9_X9_copies hts ⟨Nat.le_of_ble_eq_true rfl, Nat.le_of_ble_eq_true rfl⟩) (gPreV (ci := 9) (q0 := 0) hP hK hD rfl rfl) rfl rfl hl.1 rfl (lv_room (Nat.le_of_ble_eq_true rfl)) dX9_copy_24 ⟨Nat.le_of_ble_eq_true rfl, Nat.le_of_ble_eq_true rfl⟩) hD hS hA (fun H locs hP hD hS => ?_)
        refine lv_iconst (v := 1) hx hb dX9_copy_27 (by decide) ?_
        cases hf
        exact W.zret (ty := .boolean) hx hb hr rfl (fun t ht _ => gqi hP hD hS ht) hS.2.2 dX9_copy_28
      · replace hf := ifp k7 hf
        refine lv_iconst (v := 0) hx hb dX9_copy_19 (by decide) ?_
        cases hf
        exact W.zret (ty := .boolean) hx hb hr rfl (fun t ht _ => gqi hP hD hS ht) hS.2.2 dX9_copy_20
abbrev rmX9_see : Room := { frames := 0, cells := 0, slots := 0, locals := 0 }
set_option maxHeartbeats 4000000 in
set_option maxRecDepth 100000 in
theorem tX9_see (l : Launch) (dC : Nat → ClassId) (dI : Nat → Nat → Nat) (dA : Nat → ClassId) (ad : Nat → Nat) (sz : Nat) {c_tape : Nat → Int32} {c_taped : Int32} {c_tree : Nat → Int32} {c_bonds : Nat → Int32} {c_moves : Nat → Int32} {c_handMoves : Nat → Int32} {c_moved : Int32} {c_days : Int32} {c_likely : Int32} {c_outOf : Int32} {c_rateNow : Int32} {c_pence : Nat → Int64} {c_top : Int64} {c_bottom : Int64} {c_spot : Int32} {c_textLong : Int32} {c_fault : Int32} {c_number : Int32} {c_numberAt : Int32} {c_figures : Int32} {c_written : Int32} {c_wanted : Int32} {c_found : Int32} {c_drawnNow : Int32} {c_worth : Nat → Int64} {c_hold : Nat → Int64} {c_way : Nat → Int64} {c_acts : Nat → Int32} {c_sDay : Int32} {c_sUps : Int32} {c_sUp : Int32} {c_sMarks : Int32} {c_paidAll : Int64} {c_isPlayed : Int32} {c_isOn : Int32} {c_handMoved : Int32} {c_handPaid : Int64} {c_regret : Int64} {c_aside : Nat → Int32} {c_other : Nat → Int64} {c_states : Int32} {c_kept : Nat → Int32} {c_keptLong : Nat → Int64} {c_keptAt : Int32} {c_isTaking : Int32} {r : Int32} {o_c_spot : Int32} (hf : fX9_see c_tape c_spot c_textLong = some (r, o_c_spot)) : Met l yX9_see (wq (Cond.code yX9_see cX9_see 1 (some .int))) rmX9_see (gP [.ref (ad 0)] (dC, dI) dA (mW dA ad c_tape c_taped c_tree c_bonds c_moves c_handMoves c_moved c_days c_likely c_outOf c_rateNow c_pence c_top c_bottom c_spot c_textLong c_fault c_number c_numberAt c_figures c_written c_wanted c_found c_drawnNow c_worth c_hold c_way c_acts c_sDay c_sUps c_sUp c_sMarks c_paidAll c_isPlayed c_isOn c_handMoved c_handPaid c_regret c_aside c_other c_states c_kept c_keptLong c_keptAt c_isTaking) sz) (gQi (dC, dI) r (mW dA ad c_tape c_taped c_tree c_bonds c_moves c_handMoves c_moved c_days c_likely c_outOf c_rateNow c_pence c_top c_bottom o_c_spot c_textLong c_fault c_number c_numberAt c_figures c_written c_wanted c_found c_drawnNow c_worth c_hold c_way c_acts c_sDay c_sUps c_sUp c_sMarks c_paidAll c_isPlayed c_isOn c_handMoved c_handPaid c_regret c_aside c_other c_states c_kept c_keptLong c_keptAt c_isTaking) (va_A (mW dA ad c_tape c_taped c_tree c_bonds c_moves c_handMoves c_moved c_days c_likely c_outOf c_rateNow c_pence c_top c_bottom c_spot c_textLong c_fault c_number c_numberAt c_figures c_written c_wanted c_found c_drawnNow c_worth c_hold c_way c_acts c_sDay c_sUps c_sUp c_sMarks c_paidAll c_isPlayed c_isOn c_handMoved c_handPaid c_regret c_aside c_other c_states c_kept c_keptLong c_keptAt c_isTaking) sz)) 0 0 (va_A (mW dA ad c_tape c_taped c_tree c_bonds c_moves c_handMoves c_moved c_days c_likely c_outOf c_rateNow c_pence c_top c_bottom c_spot c_textLong c_fault c_number c_numberAt c_figures c_written c_wanted c_found c_drawnNow c_worth c_hold c_way c_acts c_sDay c_sUps c_sUp c_sMarks c_paidAll c_isPlayed c_isOn c_handMoved c_handPaid c_regret c_aside c_other c_states c_kept c_keptLong c_keptAt c_isTaking) sz) := by
  refine Met.ofW (cc := cX9_see) (maxL := 1) (ret := (some .int)) (by decide) rfl ?_
  intro p e s m args below meth c s₁ B hml hv
  obtain ⟨rfl, hsz, hP, hK, hD0⟩ := hv
  have hx := B.exec
  have hb := B.bytes
  have hr := B.returns
  have hts := atoms_spec (ws := wq (Cond.code yX9_see cX9_see 1 (some .int))) B.pre
  have hown : s.vm.findClass RX9 = some m.cls := findClass_of_methodNamed B.named
  have hlocks := B.notSynchronized
  clear B
  subst hsz
  have hD := hD0.self (sz := s.heap.size)
  generalize hAe : va_A (mW dA ad c_tape c_taped c_tree c_bonds c_moves c_handMoves c_moved c_days c_likely c_outOf c_rateNow c_pence c_top c_bottom c_spot c_textLong c_fault c_number c_numberAt c_figures c_written c_wanted c_found c_drawnNow c_worth c_hold c_way c_acts c_sDay c_sUps c_sUp c_sMarks c_paidAll c_isPlayed c_isOn c_handMoved c_handPaid c_regret c_aside c_other c_states c_kept c_keptLong c_keptAt c_isTaking) s.heap.size = A at hD ⊢
  have hA : ∀ q : Nat, s.heap.size ≤ q → A q := fun q h => by rw [← hAe]; exact Or.inr h
  clear hAe hD0
  have hS : va_S A s.heap s.heap [] := va_S.rf
  have hl := lv_entry ([.ref (ad 0)]) (n := 1) (Nat.le_of_ble_eq_true rfl)
  rw [lg_entry_eq]
  generalize (lg_sl ([.ref (ad 0)]) ++ List.replicate (1 - (lg_sl ([.ref (ad 0)])).length) Slot.unset).toArray = ls at hl ⊢
  have hl : lv_has ls 1 [(0, .ref (ad 0))] := hl
  change W p l e rmX9_see s m ([.ref (ad 0)] : List Value).toArray below meth c s.heap [] 0 0 _ _
  generalize hQ : MQ below (gQi (dC, dI) r (mW dA ad c_tape c_taped c_tree c_bonds c_moves c_handMoves c_moved c_days c_likely c_outOf c_rateNow c_pence c_top c_bottom o_c_spot c_textLong c_fault c_number c_numberAt c_figures c_written c_wanted c_found c_drawnNow c_worth c_hold c_way c_acts c_sDay c_sUps c_sUp c_sMarks c_paidAll c_isPlayed c_isOn c_handMoved c_handPaid c_regret c_aside c_other c_states c_kept c_keptLong c_keptAt c_isTaking) A) ([.ref (ad 0)] : List Value).toArray s 0 0 A = Q
  have LP0 : ∀ (n : Nat) (c_tape : Nat → Int32) (c_textLong : Int32) (c_taped : Int32) (c_tree : Nat → Int32) (c_bonds : Nat → Int32) (c_moves : Nat → Int32) (c_handMoves : Nat → Int32) (c_moved : Int32) (c_days : Int32) (c_likely : Int32) (c_outOf : Int32) (c_rateNow : Int32) (c_pence : Nat → Int64) (c_top : Int64) (c_bottom : Int64) (c_fault : Int32) (c_number : Int32) (c_numberAt : Int32) (c_figures : Int32) (c_written : Int32) (c_wanted : Int32) (c_found : Int32) (c_drawnNow : Int32) (c_worth : Nat → Int64) (c_hold : Nat → Int64) (c_way : Nat → Int64) (c_acts : Nat → Int32) (c_sDay : Int32) (c_sUps : Int32) (c_sUp : Int32) (c_sMarks : Int32) (c_paidAll : Int64) (c_isPlayed : Int32) (c_isOn : Int32) (c_handMoved : Int32) (c_handPaid : Int64) (c_regret : Int64) (c_aside : Nat → Int32) (c_other : Nat → Int64) (c_states : Int32) (c_kept : Nat → Int32) (c_keptLong : Nat → Int64) (c_keptAt : Int32) (c_isTaking : Int32) (c_spot : Int32) (o_c_spot : Int32) (H : Heap) (locs : List Loc) (ls : Array Slot), va_P (dC, dI) vwCl (mW dA ad c_tape c_taped c_tree c_bonds c_moves c_handMoves c_moved c_days c_likely c_outOf c_rateNow c_pence c_top c_bottom c_spot c_textLong c_fault c_number c_numberAt c_figures c_written c_wanted c_found c_drawnNow c_worth c_hold c_way c_acts c_sDay c_sUps c_sUp c_sMarks c_paidAll c_isPlayed c_isOn c_handMoved c_handPaid c_regret c_aside c_other c_states c_kept c_keptLong c_keptAt c_isTaking) H → va_D A (mW dA ad c_tape c_taped c_tree c_bonds c_moves c_handMoves c_moved c_days c_likely c_outOf c_rateNow c_pence c_top c_bottom c_spot c_textLong c_fault c_number c_numberAt c_figures c_written c_wanted c_found c_drawnNow c_worth c_hold c_way c_acts c_sDay c_sUps c_sUp c_sMarks c_paidAll c_isPlayed c_isOn c_handMoved c_handPaid c_regret c_aside c_other c_states c_kept c_keptLong c_keptAt c_isTaking) → va_S A s.heap H locs → lpX9_see_0 c_tape c_textLong n c_spot = some (o_c_spot) → lv_has ls 1 [(0, .ref (ad 0))] → (∀ (H : Heap) (locs : List Loc) (ls : Array Slot), va_P (dC, dI) vwCl (mW dA ad c_tape c_taped c_tree c_bonds c_moves c_handMoves c_moved c_days c_likely c_outOf c_rateNow c_pence c_top c_bottom o_c_spot c_textLong c_fault c_number c_numberAt c_figures c_written c_wanted c_found c_drawnNow c_worth c_hold c_way c_acts c_sDay c_sUps c_sUp c_sMarks c_paidAll c_isPlayed c_isOn c_handMoved c_handPaid c_regret c_aside c_other c_states c_kept c_keptLong c_keptAt c_isTaking) H → va_D A (mW dA ad c_tape c_taped c_tree c_bonds c_moves c_handMoves c_moved c_days c_likely c_outOf c_rateNow c_pence c_top c_bottom o_c_spot c_textLong c_fault c_number c_numberAt c_figures c_written c_wanted c_found c_drawnNow c_worth c_hold c_way c_acts c_sDay c_sUps c_sUp c_sMarks c_paidAll c_isPlayed c_isOn c_handMoved c_handPaid c_regret c_aside c_other c_states c_kept c_keptLong c_keptAt c_isTaking) → va_S A s.heap H locs → lv_has ls 1 [(0, .ref (ad 0))] → W p l e rmX9_see s m ([.ref (ad 0)] : List Value).toArray below meth c H locs 0 0 Q (F0 m 38 ls [])) → W p l e rmX9_see s m ([.ref (ad 0)] : List Value).toArray below meth c H locs 0 0 Q (F0 m 0 ls []) := by
    intro n
    induction n with
    | zero =>
      intro c_tape c_textLong c_taped c_tree c_bonds c_moves c_handMoves c_moved c_days c_likely c_outOf c_rateNow c_pence c_top c_bottom c_fault c_number c_numberAt c_figures c_written c_wanted c_found c_drawnNow c_worth c_hold c_way c_acts c_sDay c_sUps c_sUp c_sMarks c_paidAll c_isPlayed c_isOn c_handMoved c_handPaid c_regret c_aside c_other c_states c_kept c_keptLong c_keptAt c_isTaking c_spot o_c_spot H locs ls hP hD hS hf hl hk
      cases hf
    | succ n ih0 =>
      intro c_tape c_textLong c_taped c_tree c_bonds c_moves c_handMoves c_moved c_days c_likely c_outOf c_rateNow c_pence c_top c_bottom c_fault c_number c_numberAt c_figures c_written c_wanted c_found c_drawnNow c_worth c_hold c_way c_acts c_sDay c_sUps c_sUp c_sMarks c_paidAll c_isPlayed c_isOn c_handMoved c_handPaid c_regret c_aside c_other c_states c_kept c_keptLong c_keptAt c_isTaking c_spot o_c_spot H locs ls hP hD hS hf hl hk
      rw [lpX9_see_0.eq_2] at hf
      refine lv_aload_n hx hb dX9_see_0 rfl (lv_at hl 0 rfl) ?_
      refine va_get (D := (dC, dI)) (ci := 9) (v := .int c_spot) (C := RX9) (T := TX9) (N := 45) hx hb hts (fun w h => gw_mem (inX9 w h)) hown hK.1 hP 0 rfl rfl 14 (by decide) (hts _ (gw_mem wfX9_164)) (fun _ h9 => h9) rfl dX9_see_1 ?_
      refine lv_aload_n hx hb dX9_see_4 rfl (lv_at hl 0 rfl) ?_
      refine va_get (D := (dC, dI)) (ci := 9) (v := .int c_textLong) (C := RX9) (T := TX9) (N := 45) hx hb hts (fun w h => gw_mem (inX9 w h)) hown hK.1 hP 0 rfl rfl 15 (by decide) (hts _ (gw_mem wfX9_167)) (fun _ h9 => h9) rfl dX9_see_5 ?_
      refine lv_icmp_ge (tgt := 38) hx hb dX9_see_8 (by decide) (fun k8 => ?_) (fun k8 => ?_)
      · replace hf := ifp k8 hf
        cases hf
        exact hk _ _ _ hP hD hS (lv_sub hl [0] rfl)
      · replace hf := ifn k8 hf
        refine lv_aload_n hx hb dX9_see_11 rfl (lv_at hl 0 rfl) ?_
        refine va_get (D := (dC, dI)) (ci := 9) (v := .ref (ad 1)) (C := RX9) (T := TX9) (N := 45) hx hb hts (fun w h => gw_mem (inX9 w h)) hown hK.1 hP 0 rfl rfl 0 (by decide) (hts _ (gw_mem wfX9_7)) (fun _ h9 => h9) rfl dX9_see_12 ?_
        refine lv_aload_n hx hb dX9_see_15 rfl (lv_at hl 0 rfl) ?_
        refine va_get (D := (dC, dI)) (ci := 9) (v := .int c_spot) (C := RX9) (T := TX9) (N := 45) hx hb hts (fun w h => gw_mem (inX9 w h)) hown hK.1 hP 0 rfl rfl 14 (by decide) (hts _ (gw_mem wfX9_164)) (fun _ h9 => h9) rfl dX9_see_16 ?_
        obtain ⟨h9, hf⟩ := og_some hf
        refine va_bald hx hb hK.1 hP 1 2 rfl rfl (okI_in h9) dX9_see_19 ?_
        refine lv_bipush (v := 32) hx hb dX9_see_20 (by decide) ?_
        refine lv_icmp_ne (tgt := 38) hx hb dX9_see_22 (by decide) (fun k10 => ?_) (fun k10 => ?_)
        · replace hf := ifn k10 hf
          cases hf
          exact hk _ _ _ hP hD hS (lv_sub hl [0] rfl)
        · replace hf := ifp k10 hf
          refine lv_aload_n hx hb dX9_see_25 rfl (lv_at hl 0 rfl) ?_
          refine lv_aload_n hx hb dX9_see_26 rfl (lv_at hl 0 rfl) ?_
          refine va_get (D := (dC, dI)) (ci := 9) (v := .int c_spot) (C := RX9) (T := TX9) (N := 45) hx hb hts (fun w h => gw_mem (inX9 w h)) hown hK.1 hP 0 rfl rfl 14 (by decide) (hts _ (gw_mem wfX9_164)) (fun _ h9 => h9) rfl dX9_see_27 ?_
          refine lv_iconst (v := 1) hx hb dX9_see_30 (by decide) ?_
          refine lv_iadd hx hb dX9_see_31 ?_
          refine lv_topi (fun w11 ew11 => ?_)
          replace hf := nm_at hf ew11
          refine va_put (D := (dC, dI)) (ci := 9) (v := .int w11) (ty := .int) (C := RX9) (T := TX9) (N := 45) hx hb hts (fun w h => gw_mem (inX9 w h)) tyX9 tyX9_ok nmX9 hown hK.1 hP hD hS 0 rfl rfl 14 (by decide) (hts _ (gw_mem wfX9_164)) (fun _ h9 => h9) rfl (by decide +kernel) rfl rfl (Nat.le_of_ble_eq_true rfl) dX9_see_32 (fun H locs hP hD hS => ?_)
          have hP : va_P (dC, dI) vwCl (mW dA ad c_tape c_taped c_tree c_bonds c_moves c_handMoves c_moved c_days c_likely c_outOf c_rateNow c_pence c_top c_bottom w11 c_textLong c_fault c_number c_numberAt c_figures c_written c_wanted c_found c_drawnNow c_worth c_hold c_way c_acts c_sDay c_sUps c_sUp c_sMarks c_paidAll c_isPlayed c_isOn c_handMoved c_handPaid c_regret c_aside c_other c_states c_kept c_keptLong c_keptAt c_isTaking) H := hP
          have hD : va_D A (mW dA ad c_tape c_taped c_tree c_bonds c_moves c_handMoves c_moved c_days c_likely c_outOf c_rateNow c_pence c_top c_bottom w11 c_textLong c_fault c_number c_numberAt c_figures c_written c_wanted c_found c_drawnNow c_worth c_hold c_way c_acts c_sDay c_sUps c_sUp c_sMarks c_paidAll c_isPlayed c_isOn c_handMoved c_handPaid c_regret c_aside c_other c_states c_kept c_keptLong c_keptAt c_isTaking) := hD
          refine lv_goto (tgt := 0) hx hb dX9_see_35 (by decide) ?_
          exact ih0 _ _ _ _ _ _ _ _ _ _ _ _ _ _ _ _ _ _ _ _ _ _ _ _ _ _ _ _ _ _ _ _ _ _ _ _ _ _ _ _ _ _ _ _ _ _ _ _ _ hP hD hS hf (lv_sub hl [0] rfl) hk
  subst hQ
  unfold fX9_see at hf
  obtain ⟨c_spot_1, v2, hf⟩ := bd1_some hf
  refine LP0 FU _ _ _ _ _ _ _ _ _ _ _ _ _ _ _ _ _ _ _ _ _ _ _ _ _ _ _ _ _ _ _ _ _ _ _ _ _ _ _ _ _ _ _ _ _ _ _ _ _ hP hD hS v2 (lv_sub hl [0] rfl) (fun H locs ls hP hD hS hl => ?_)
  refine lv_aload_n hx hb dX9_see_38 rfl (lv_at hl 0 rfl) ?_
  refine va_get (D := (dC, dI)) (ci := 9) (v := .int c_spot_1) (C := RX9) (T := TX9) (N := 45) hx hb hts (fun w h => gw_mem (inX9 w h)) hown hK.1 hP 0 rfl rfl 14 (by decide) (hts _ (gw_mem wfX9_164)) (fun _ h9 => h9) rfl dX9_see_39 ?_
  refine lv_aload_n hx hb dX9_see_42 rfl (lv_at hl 0 rfl) ?_
  refine va_get (D := (dC, dI)) (ci := 9) (v := .int c_textLong) (C := RX9) (T := TX9) (N := 45) hx hb hts (fun w h => gw_mem (inX9 w h)) hown hK.1 hP 0 rfl rfl 15 (by decide) (hts _ (gw_mem wfX9_167)) (fun _ h9 => h9) rfl dX9_see_43 ?_
  obtain ⟨j4, v6, hf⟩ := bd1_some hf
  have J5 : ∀ (H : Heap) (locs : List Loc) (ls : Array Slot), va_P (dC, dI) vwCl (mW dA ad c_tape c_taped c_tree c_bonds c_moves c_handMoves c_moved c_days c_likely c_outOf c_rateNow c_pence c_top c_bottom c_spot_1 c_textLong c_fault c_number c_numberAt c_figures c_written c_wanted c_found c_drawnNow c_worth c_hold c_way c_acts c_sDay c_sUps c_sUp c_sMarks c_paidAll c_isPlayed c_isOn c_handMoved c_handPaid c_regret c_aside c_other c_states c_kept c_keptLong c_keptAt c_isTaking) H → va_D A (mW dA ad c_tape c_taped c_tree c_bonds c_moves c_handMoves c_moved c_days c_likely c_outOf c_rateNow c_pence c_top c_bottom c_spot_1 c_textLong c_fault c_number c_numberAt c_figures c_written c_wanted c_found c_drawnNow c_worth c_hold c_way c_acts c_sDay c_sUps c_sUp c_sMarks c_paidAll c_isPlayed c_isOn c_handMoved c_handPaid c_regret c_aside c_other c_states c_kept c_keptLong c_keptAt c_isTaking) → va_S A s.heap H locs → lv_has ls 1 [] → W p l e rmX9_see s m ([.ref (ad 0)] : List Value).toArray below meth c H locs 0 0 (MQ below (gQi (dC, dI) r (mW dA ad c_tape c_taped c_tree c_bonds c_moves c_handMoves c_moved c_days c_likely c_outOf c_rateNow c_pence c_top c_bottom o_c_spot c_textLong c_fault c_number c_numberAt c_figures c_written c_wanted c_found c_drawnNow c_worth c_hold c_way c_acts c_sDay c_sUps c_sUp c_sMarks c_paidAll c_isPlayed c_isOn c_handMoved c_handPaid c_regret c_aside c_other c_states c_kept c_keptLong c_keptAt c_isTaking) A) ([.ref (ad 0)] : List Value).toArray s 0 0 A) (F0 m 66 ls [.int j4]) := by
    intro H locs ls hP hD hS hl
    cases hf
    exact W.iret hx hb hr (fun t ht _ => gqi hP hD hS ht) hS.2.2 dX9_see_66
  replace hf := v6
  clear v6
  refine lv_icmp_ge (tgt := 65) hx hb dX9_see_46 (by decide) (fun k3 => ?_) (fun k3 => ?_)
  · replace hf := ifp k3 hf
    refine lv_iconst (v := (-1)) hx hb dX9_see_65 (by decide) ?_
    cases hf
    exact J5 _ _ _ hP hD hS (lv_sub hl [] rfl)
  · replace hf := ifn k3 hf
    refine lv_aload_n hx hb dX9_see_49 rfl (lv_at hl 0 rfl) ?_
    refine va_get (D := (dC, dI)) (ci := 9) (v := .ref (ad 1)) (C := RX9) (T := TX9) (N := 45) hx hb hts (fun w h => gw_mem (inX9 w h)) hown hK.1 hP 0 rfl rfl 0 (by decide) (hts _ (gw_mem wfX9_7)) (fun _ h9 => h9) rfl dX9_see_50 ?_
    refine lv_aload_n hx hb dX9_see_53 rfl (lv_at hl 0 rfl) ?_
    refine va_get (D := (dC, dI)) (ci := 9) (v := .int c_spot_1) (C := RX9) (T := TX9) (N := 45) hx hb hts (fun w h => gw_mem (inX9 w h)) hown hK.1 hP 0 rfl rfl 14 (by decide) (hts _ (gw_mem wfX9_164)) (fun _ h9 => h9) rfl dX9_see_54 ?_
    obtain ⟨h7, hf⟩ := og_some hf
    refine va_bald hx hb hK.1 hP 1 2 rfl rfl (okI_in h7) dX9_see_57 ?_
    refine lv_sipush (v := 255) hx hb dX9_see_58 (by decide) ?_
    refine lv_iand hx hb dX9_see_61 ?_
    refine lv_goto (tgt := 66) hx hb dX9_see_62 (by decide) ?_
    cases hf
    exact J5 _ _ _ hP hD hS (lv_sub hl [] rfl)
abbrev rmX9_wrong : Room := { frames := 0, cells := 0, slots := 0, locals := 0 }
set_option maxHeartbeats 4000000 in
set_option maxRecDepth 100000 in
theorem tX9_wrong (l : Launch) (dC : Nat → ClassId) (dI : Nat → Nat → Nat) (dA : Nat → ClassId) (ad : Nat → Nat) (sz : Nat) {p1 : Int32} {p2 : Int32} {c_tape : Nat → Int32} {c_taped : Int32} {c_tree : Nat → Int32} {c_bonds : Nat → Int32} {c_moves : Nat → Int32} {c_handMoves : Nat → Int32} {c_moved : Int32} {c_days : Int32} {c_likely : Int32} {c_outOf : Int32} {c_rateNow : Int32} {c_pence : Nat → Int64} {c_top : Int64} {c_bottom : Int64} {c_spot : Int32} {c_textLong : Int32} {c_fault : Int32} {c_number : Int32} {c_numberAt : Int32} {c_figures : Int32} {c_written : Int32} {c_wanted : Int32} {c_found : Int32} {c_drawnNow : Int32} {c_worth : Nat → Int64} {c_hold : Nat → Int64} {c_way : Nat → Int64} {c_acts : Nat → Int32} {c_sDay : Int32} {c_sUps : Int32} {c_sUp : Int32} {c_sMarks : Int32} {c_paidAll : Int64} {c_isPlayed : Int32} {c_isOn : Int32} {c_handMoved : Int32} {c_handPaid : Int64} {c_regret : Int64} {c_aside : Nat → Int32} {c_other : Nat → Int64} {c_states : Int32} {c_kept : Nat → Int32} {c_keptLong : Nat → Int64} {c_keptAt : Int32} {c_isTaking : Int32} {r : Int32} {o_c_fault : Int32} (hf : fX9_wrong p1 p2 c_fault = some (r, o_c_fault)) : Met l yX9_wrong (wq (Cond.code yX9_wrong cX9_wrong 3 (some .boolean))) rmX9_wrong (gP [.ref (ad 0), .int p1, .int p2] (dC, dI) dA (mW dA ad c_tape c_taped c_tree c_bonds c_moves c_handMoves c_moved c_days c_likely c_outOf c_rateNow c_pence c_top c_bottom c_spot c_textLong c_fault c_number c_numberAt c_figures c_written c_wanted c_found c_drawnNow c_worth c_hold c_way c_acts c_sDay c_sUps c_sUp c_sMarks c_paidAll c_isPlayed c_isOn c_handMoved c_handPaid c_regret c_aside c_other c_states c_kept c_keptLong c_keptAt c_isTaking) sz) (gQi (dC, dI) r (mW dA ad c_tape c_taped c_tree c_bonds c_moves c_handMoves c_moved c_days c_likely c_outOf c_rateNow c_pence c_top c_bottom c_spot c_textLong o_c_fault c_number c_numberAt c_figures c_written c_wanted c_found c_drawnNow c_worth c_hold c_way c_acts c_sDay c_sUps c_sUp c_sMarks c_paidAll c_isPlayed c_isOn c_handMoved c_handPaid c_regret c_aside c_other c_states c_kept c_keptLong c_keptAt c_isTaking) (va_A (mW dA ad c_tape c_taped c_tree c_bonds c_moves c_handMoves c_moved c_days c_likely c_outOf c_rateNow c_pence c_top c_bottom c_spot c_textLong c_fault c_number c_numberAt c_figures c_written c_wanted c_found c_drawnNow c_worth c_hold c_way c_acts c_sDay c_sUps c_sUp c_sMarks c_paidAll c_isPlayed c_isOn c_handMoved c_handPaid c_regret c_aside c_other c_states c_kept c_keptLong c_keptAt c_isTaking) sz)) 0 0 (va_A (mW dA ad c_tape c_taped c_tree c_bonds c_moves c_handMoves c_moved c_days c_likely c_outOf c_rateNow c_pence c_top c_bottom c_spot c_textLong c_fault c_number c_numberAt c_figures c_written c_wanted c_found c_drawnNow c_worth c_hold c_way c_acts c_sDay c_sUps c_sUp c_sMarks c_paidAll c_isPlayed c_isOn c_handMoved c_handPaid c_regret c_aside c_other c_states c_kept c_keptLong c_keptAt c_isTaking) sz) := by
  refine Met.ofW (cc := cX9_wrong) (maxL := 3) (ret := (some .boolean)) (by decide) rfl ?_
  intro p e s m args below meth c s₁ B hml hv
  obtain ⟨rfl, hsz, hP, hK, hD0⟩ := hv
  have hx := B.exec
  have hb := B.bytes
  have hr := B.returns
  have hts := atoms_spec (ws := wq (Cond.code yX9_wrong cX9_wrong 3 (some .boolean))) B.pre
  have hown : s.vm.findClass RX9 = some m.cls := findClass_of_methodNamed B.named
  have hlocks := B.notSynchronized
  clear B
  subst hsz
  have hD := hD0.self (sz := s.heap.size)
  generalize hAe : va_A (mW dA ad c_tape c_taped c_tree c_bonds c_moves c_handMoves c_moved c_days c_likely c_outOf c_rateNow c_pence c_top c_bottom c_spot c_textLong c_fault c_number c_numberAt c_figures c_written c_wanted c_found c_drawnNow c_worth c_hold c_way c_acts c_sDay c_sUps c_sUp c_sMarks c_paidAll c_isPlayed c_isOn c_handMoved c_handPaid c_regret c_aside c_other c_states c_kept c_keptLong c_keptAt c_isTaking) s.heap.size = A at hD ⊢
  have hA : ∀ q : Nat, s.heap.size ≤ q → A q := fun q h => by rw [← hAe]; exact Or.inr h
  clear hAe hD0
  have hS : va_S A s.heap s.heap [] := va_S.rf
  have hl := lv_entry ([.ref (ad 0), .int p1, .int p2]) (n := 3) (Nat.le_of_ble_eq_true rfl)
  rw [lg_entry_eq]
  generalize (lg_sl ([.ref (ad 0), .int p1, .int p2]) ++ List.replicate (3 - (lg_sl ([.ref (ad 0), .int p1, .int p2])).length) Slot.unset).toArray = ls at hl ⊢
  have hl : lv_has ls 3 [(0, .ref (ad 0)), (1, .int p1), (2, .int p2)] := hl
  change W p l e rmX9_wrong s m ([.ref (ad 0), .int p1, .int p2] : List Value).toArray below meth c s.heap [] 0 0 _ _
  unfold fX9_wrong at hf
  refine lv_aload_n hx hb dX9_wrong_0 rfl (lv_at hl 0 rfl) ?_
  refine va_get (D := (dC, dI)) (ci := 9) (v := .int c_fault) (C := RX9) (T := TX9) (N := 45) hx hb hts (fun w h => gw_mem (inX9 w h)) hown hK.1 hP 0 rfl rfl 16 (by decide) (hts _ (gw_mem wfX9_170)) (fun _ h9 => h9) rfl dX9_wrong_1 ?_
  obtain ⟨c_fault_2, v4, hf⟩ := bd1_some hf
  have J3 : ∀ (H : Heap) (locs : List Loc) (ls : Array Slot), va_P (dC, dI) vwCl (mW dA ad c_tape c_taped c_tree c_bonds c_moves c_handMoves c_moved c_days c_likely c_outOf c_rateNow c_pence c_top c_bottom c_spot c_textLong c_fault_2 c_number c_numberAt c_figures c_written c_wanted c_found c_drawnNow c_worth c_hold c_way c_acts c_sDay c_sUps c_sUp c_sMarks c_paidAll c_isPlayed c_isOn c_handMoved c_handPaid c_regret c_aside c_other c_states c_kept c_keptLong c_keptAt c_isTaking) H → va_D A (mW dA ad c_tape c_taped c_tree c_bonds c_moves c_handMoves c_moved c_days c_likely c_outOf c_rateNow c_pence c_top c_bottom c_spot c_textLong c_fault_2 c_number c_numberAt c_figures c_written c_wanted c_found c_drawnNow c_worth c_hold c_way c_acts c_sDay c_sUps c_sUp c_sMarks c_paidAll c_isPlayed c_isOn c_handMoved c_handPaid c_regret c_aside c_other c_states c_kept c_keptLong c_keptAt c_isTaking) → va_S A s.heap H locs → lv_has ls 3 [] → W p l e rmX9_wrong s m ([.ref (ad 0), .int p1, .int p2] : List Value).toArray below meth c H locs 0 0 (MQ below (gQi (dC, dI) r (mW dA ad c_tape c_taped c_tree c_bonds c_moves c_handMoves c_moved c_days c_likely c_outOf c_rateNow c_pence c_top c_bottom c_spot c_textLong o_c_fault c_number c_numberAt c_figures c_written c_wanted c_found c_drawnNow c_worth c_hold c_way c_acts c_sDay c_sUps c_sUp c_sMarks c_paidAll c_isPlayed c_isOn c_handMoved c_handPaid c_regret c_aside c_other c_states c_kept c_keptLong c_keptAt c_isTaking) A) ([.ref (ad 0), .int p1, .int p2] : List Value).toArray s 0 0 A) (F0 m 18 ls []) := by
    intro H locs ls hP hD hS hl
    refine lv_iconst (v := 0) hx hb dX9_wrong_18 (by decide) ?_
    cases hf
    exact W.zret (ty := .boolean) hx hb hr rfl (fun t ht _ => gqi hP hD hS ht) hS.2.2 dX9_wrong_19
  replace hf := v4
  clear v4
  refine lv_if_ne (tgt := 18) hx hb dX9_wrong_4 (by decide) (fun k1 => ?_) (fun k1 => ?_)
  · replace hf := ifn k1 hf
    cases hf
    exact J3 _ _ _ hP hD hS (lv_sub hl [] rfl)
  · replace hf := ifp k1 hf
    refine lv_aload_n hx hb dX9_wrong_7 rfl (lv_at hl 0 rfl) ?_
    refine lv_sipush (v := (-1000)) hx hb dX9_wrong_8 (by decide) ?_
    refine lv_iload_n hx hb dX9_wrong_11 rfl (lv_at hl 1 rfl) ?_
    refine lv_imul hx hb dX9_wrong_12 ?_
    refine lv_iload_n hx hb dX9_wrong_13 rfl (lv_at hl 2 rfl) ?_
    refine lv_isub hx hb dX9_wrong_14 ?_
    refine lv_topi (fun w5 ew5 => ?_)
    replace hf := nm_at hf ew5
    refine va_put (D := (dC, dI)) (ci := 9) (v := .int w5) (ty := .int) (C := RX9) (T := TX9) (N := 45) hx hb hts (fun w h => gw_mem (inX9 w h)) tyX9 tyX9_ok nmX9 hown hK.1 hP hD hS 0 rfl rfl 16 (by decide) (hts _ (gw_mem wfX9_170)) (fun _ h9 => h9) rfl (by decide +kernel) rfl rfl (Nat.le_of_ble_eq_true rfl) dX9_wrong_15 (fun H locs hP hD hS => ?_)
    have hP : va_P (dC, dI) vwCl (mW dA ad c_tape c_taped c_tree c_bonds c_moves c_handMoves c_moved c_days c_likely c_outOf c_rateNow c_pence c_top c_bottom c_spot c_textLong w5 c_number c_numberAt c_figures c_written c_wanted c_found c_drawnNow c_worth c_hold c_way c_acts c_sDay c_sUps c_sUp c_sMarks c_paidAll c_isPlayed c_isOn c_handMoved c_handPaid c_regret c_aside c_other c_states c_kept c_keptLong c_keptAt c_isTaking) H := hP
    have hD : va_D A (mW dA ad c_tape c_taped c_tree c_bonds c_moves c_handMoves c_moved c_days c_likely c_outOf c_rateNow c_pence c_top c_bottom c_spot c_textLong w5 c_number c_numberAt c_figures c_written c_wanted c_found c_drawnNow c_worth c_hold c_way c_acts c_sDay c_sUps c_sUp c_sMarks c_paidAll c_isPlayed c_isOn c_handMoved c_handPaid c_regret c_aside c_other c_states c_kept c_keptLong c_keptAt c_isTaking) := hD
    cases hf
    exact J3 _ _ _ hP hD hS (lv_sub hl [] rfl)
abbrev rmX9_isFigure : Room := { frames := 1, cells := 0, slots := 0, locals := 25 }
set_option maxHeartbeats 4000000 in
set_option maxRecDepth 100000 in
theorem tX9_isFigure (l : Launch) (dC : Nat → ClassId) (dI : Nat → Nat → Nat) (dA : Nat → ClassId) (sz : Nat) {p0 : Int32} {r : Int32} (hf : fX9_isFigure p0 = some (r)) : Met l yX9_isFigure (wq (Cond.code yX9_isFigure cX9_isFigure 1 (some .boolean))) rmX9_isFigure (gP [.int p0] (dC, dI) dA [] sz) (gQi (dC, dI) r [] (va_A [] sz)) 0 0 (va_A [] sz) := by
  refine Met.ofW (cc := cX9_isFigure) (maxL := 1) (ret := (some .boolean)) (by decide) rfl ?_
  intro p e s m args below meth c s₁ B hml hv
  obtain ⟨rfl, hsz, hP, hK, hD0⟩ := hv
  have hx := B.exec
  have hb := B.bytes
  have hr := B.returns
  have hts := atoms_spec (ws := wq (Cond.code yX9_isFigure cX9_isFigure 1 (some .boolean))) B.pre
  have hown : s.vm.findClass RX9 = some m.cls := findClass_of_methodNamed B.named
  have hlocks := B.notSynchronized
  clear B
  subst hsz
  have hD := hD0.self (sz := s.heap.size)
  generalize hAe : va_A [] s.heap.size = A at hD ⊢
  have hA : ∀ q : Nat, s.heap.size ≤ q → A q := fun q h => by rw [← hAe]; exact Or.inr h
  clear hAe hD0
  have hS : va_S A s.heap s.heap [] := va_S.rf
  have hl := lv_entry ([.int p0]) (n := 1) (Nat.le_of_ble_eq_true rfl)
  rw [lg_entry_eq]
  generalize (lg_sl ([.int p0]) ++ List.replicate (1 - (lg_sl ([.int p0])).length) Slot.unset).toArray = ls at hl ⊢
  have hl : lv_has ls 1 [(0, .int p0)] := hl
  change W p l e rmX9_isFigure s m ([.int p0] : List Value).toArray below meth c s.heap [] 0 0 _ _
  unfold fX9_isFigure at hf
  refine lv_iload_n hx hb dX9_isFigure_0 rfl (lv_at hl 0 rfl) ?_
  refine lv_i2l hx hb dX9_isFigure_1 rfl ?_
  refine lv_ldc2 (v := 48) hx hb hown (hts _ (gw_mem wkX9_173)) dX9_isFigure_2 ?_
  refine lv_ldc2 (v := 57) hx hb hown (hts _ (gw_mem wkX9_175)) dX9_isFigure_5 ?_
  obtain ⟨r1, v2, hf⟩ := bd1_some hf
  refine gci0 (va_runS (As := [.long (Int32.toInt64 p0), .long 48, .long 57]) (rest := []) ⟨hx, hb, hml, hown, hts⟩ (tX9_in l dC dI dA s.heap.size v2) (ccX9_X9_in hts ⟨Nat.le_of_ble_eq_true rfl, Nat.le_of_ble_eq_true rfl⟩) (gPreS0 hK) rfl rfl hl.1 rfl (lv_room (Nat.le_of_ble_eq_true rfl)) dX9_isFigure_8 ⟨Nat.le_of_ble_eq_true rfl, Nat.le_of_ble_eq_true rfl⟩) hP hS hA (fun H locs hP hS => ?_)
  obtain ⟨h3, hf⟩ := og_some hf
  cases hf
  exact W.zret (ty := .boolean) hx hb hr (boB_nar h3) (fun t ht _ => gqi hP hD hS ht) hS.2.2 dX9_isFigure_11
theorem ccX9_X9_see {R : Room} {s : State} {args : Array Value} {c0 : Cond} (ht : ∀ w ∈ wq c0, w.before args s = true) (hR : rmX9_see.frames + 1 ≤ R.frames ∧ 8 + (1 + 11) + rmX9_see.locals ≤ R.locals) : CallW R s args RX9 RX9 177 yX9_see cX9_see 1 (some .int) (wq (.code yX9_see cX9_see 1 (some .int))) rmX9_see 0 0 0 := gCW 0 ht wcX9_see wmX9_177 wiX9_see weX9_see wnX9 (by decide +kernel) rfl rfl hR
theorem ccX9_X9_isFigure {R : Room} {s : State} {args : Array Value} {c0 : Cond} (ht : ∀ w ∈ wq c0, w.before args s = true) (hR : rmX9_isFigure.frames + 1 ≤ R.frames ∧ 8 + (1 + 11) + rmX9_isFigure.locals ≤ R.locals) : CallB R s args RX9 190 yX9_isFigure cX9_isFigure 1 (some .boolean) (wq (.code yX9_isFigure cX9_isFigure 1 (some .boolean))) rmX9_isFigure 0 0 1 ∧ (Cond.static yX9_isFigure).before args s = true := gCS 1 ht wcX9_isFigure wmX9_190 wtX9_isFigure wnX9 (by decide +kernel) rfl rfl hR
theorem ccX9_X9_wrong {R : Room} {s : State} {args : Array Value} {c0 : Cond} (ht : ∀ w ∈ wq c0, w.before args s = true) (hR : rmX9_wrong.frames + 1 ≤ R.frames ∧ 8 + (3 + 11) + rmX9_wrong.locals ≤ R.locals) : CallW R s args RX9 RX9 193 yX9_wrong cX9_wrong 3 (some .boolean) (wq (.code yX9_wrong cX9_wrong 3 (some .boolean))) rmX9_wrong 0 0 2 := gCW 2 ht wcX9_wrong wmX9_193 wiX9_wrong weX9_wrong wnX9 (by decide +kernel) rfl rfl hR
abbrev rmX9_counts : Room := { frames := 2, cells := 0, slots := 0, locals := 45 }
set_option maxHeartbeats 4000000 in
set_option maxRecDepth 100000 in
theorem tX9_counts (l : Launch) (dC : Nat → ClassId) (dI : Nat → Nat → Nat) (dA : Nat → ClassId) (ad : Nat → Nat) (sz : Nat) {p1 : Int32} {c_tape : Nat → Int32} {c_taped : Int32} {c_tree : Nat → Int32} {c_bonds : Nat → Int32} {c_moves : Nat → Int32} {c_handMoves : Nat → Int32} {c_moved : Int32} {c_days : Int32} {c_likely : Int32} {c_outOf : Int32} {c_rateNow : Int32} {c_pence : Nat → Int64} {c_top : Int64} {c_bottom : Int64} {c_spot : Int32} {c_textLong : Int32} {c_fault : Int32} {c_number : Int32} {c_numberAt : Int32} {c_figures : Int32} {c_written : Int32} {c_wanted : Int32} {c_found : Int32} {c_drawnNow : Int32} {c_worth : Nat → Int64} {c_hold : Nat → Int64} {c_way : Nat → Int64} {c_acts : Nat → Int32} {c_sDay : Int32} {c_sUps : Int32} {c_sUp : Int32} {c_sMarks : Int32} {c_paidAll : Int64} {c_isPlayed : Int32} {c_isOn : Int32} {c_handMoved : Int32} {c_handPaid : Int64} {c_regret : Int64} {c_aside : Nat → Int32} {c_other : Nat → Int64} {c_states : Int32} {c_kept : Nat → Int32} {c_keptLong : Nat → Int64} {c_keptAt : Int32} {c_isTaking : Int32} {r : Int32} {o_c_spot : Int32} {o_c_fault : Int32} {o_c_number : Int32} {o_c_numberAt : Int32} {o_c_figures : Int32} (hf : fX9_counts p1 c_tape c_spot c_textLong c_fault c_number c_numberAt c_figures = some (r, o_c_spot, o_c_fault, o_c_number, o_c_numberAt, o_c_figures)) : Met l yX9_counts (wq (Cond.code yX9_counts cX9_counts 3 (some .boolean))) rmX9_counts (gP [.ref (ad 0), .int p1] (dC, dI) dA (mW dA ad c_tape c_taped c_tree c_bonds c_moves c_handMoves c_moved c_days c_likely c_outOf c_rateNow c_pence c_top c_bottom c_spot c_textLong c_fault c_number c_numberAt c_figures c_written c_wanted c_found c_drawnNow c_worth c_hold c_way c_acts c_sDay c_sUps c_sUp c_sMarks c_paidAll c_isPlayed c_isOn c_handMoved c_handPaid c_regret c_aside c_other c_states c_kept c_keptLong c_keptAt c_isTaking) sz) (gQi (dC, dI) r (mW dA ad c_tape c_taped c_tree c_bonds c_moves c_handMoves c_moved c_days c_likely c_outOf c_rateNow c_pence c_top c_bottom o_c_spot c_textLong o_c_fault o_c_number o_c_numberAt o_c_figures c_written c_wanted c_found c_drawnNow c_worth c_hold c_way c_acts c_sDay c_sUps c_sUp c_sMarks c_paidAll c_isPlayed c_isOn c_handMoved c_handPaid c_regret c_aside c_other c_states c_kept c_keptLong c_keptAt c_isTaking) (va_A (mW dA ad c_tape c_taped c_tree c_bonds c_moves c_handMoves c_moved c_days c_likely c_outOf c_rateNow c_pence c_top c_bottom c_spot c_textLong c_fault c_number c_numberAt c_figures c_written c_wanted c_found c_drawnNow c_worth c_hold c_way c_acts c_sDay c_sUps c_sUp c_sMarks c_paidAll c_isPlayed c_isOn c_handMoved c_handPaid c_regret c_aside c_other c_states c_kept c_keptLong c_keptAt c_isTaking) sz)) 0 0 (va_A (mW dA ad c_tape c_taped c_tree c_bonds c_moves c_handMoves c_moved c_days c_likely c_outOf c_rateNow c_pence c_top c_bottom c_spot c_textLong c_fault c_number c_numberAt c_figures c_written c_wanted c_found c_drawnNow c_worth c_hold c_way c_acts c_sDay c_sUps c_sUp c_sMarks c_paidAll c_isPlayed c_isOn c_handMoved c_handPaid c_regret c_aside c_other c_states c_kept c_keptLong c_keptAt c_isTaking) sz) := by
  refine Met.ofW (cc := cX9_counts) (maxL := 3) (ret := (some .boolean)) (by decide) rfl ?_
  intro p e s m args below meth c s₁ B hml hv
  obtain ⟨rfl, hsz, hP, hK, hD0⟩ := hv
  have hx := B.exec
  have hb := B.bytes
  have hr := B.returns
  have hts := atoms_spec (ws := wq (Cond.code yX9_counts cX9_counts 3 (some .boolean))) B.pre
  have hown : s.vm.findClass RX9 = some m.cls := findClass_of_methodNamed B.named
  have hlocks := B.notSynchronized
  clear B
  subst hsz
  have hD := hD0.self (sz := s.heap.size)
  generalize hAe : va_A (mW dA ad c_tape c_taped c_tree c_bonds c_moves c_handMoves c_moved c_days c_likely c_outOf c_rateNow c_pence c_top c_bottom c_spot c_textLong c_fault c_number c_numberAt c_figures c_written c_wanted c_found c_drawnNow c_worth c_hold c_way c_acts c_sDay c_sUps c_sUp c_sMarks c_paidAll c_isPlayed c_isOn c_handMoved c_handPaid c_regret c_aside c_other c_states c_kept c_keptLong c_keptAt c_isTaking) s.heap.size = A at hD ⊢
  have hA : ∀ q : Nat, s.heap.size ≤ q → A q := fun q h => by rw [← hAe]; exact Or.inr h
  clear hAe hD0
  have hS : va_S A s.heap s.heap [] := va_S.rf
  have hl := lv_entry ([.ref (ad 0), .int p1]) (n := 3) (Nat.le_of_ble_eq_true rfl)
  rw [lg_entry_eq]
  generalize (lg_sl ([.ref (ad 0), .int p1]) ++ List.replicate (3 - (lg_sl ([.ref (ad 0), .int p1])).length) Slot.unset).toArray = ls at hl ⊢
  have hl : lv_has ls 3 [(0, .ref (ad 0)), (1, .int p1)] := hl
  change W p l e rmX9_counts s m ([.ref (ad 0), .int p1] : List Value).toArray below meth c s.heap [] 0 0 _ _
  generalize hQ : MQ below (gQi (dC, dI) r (mW dA ad c_tape c_taped c_tree c_bonds c_moves c_handMoves c_moved c_days c_likely c_outOf c_rateNow c_pence c_top c_bottom o_c_spot c_textLong o_c_fault o_c_number o_c_numberAt o_c_figures c_written c_wanted c_found c_drawnNow c_worth c_hold c_way c_acts c_sDay c_sUps c_sUp c_sMarks c_paidAll c_isPlayed c_isOn c_handMoved c_handPaid c_regret c_aside c_other c_states c_kept c_keptLong c_keptAt c_isTaking) A) ([.ref (ad 0), .int p1] : List Value).toArray s 0 0 A = Q
  have LP40 : ∀ (n : Nat) (x1 : Int32) (c_tape : Nat → Int32) (c_textLong : Int32) (c_taped : Int32) (c_tree : Nat → Int32) (c_bonds : Nat → Int32) (c_moves : Nat → Int32) (c_handMoves : Nat → Int32) (c_moved : Int32) (c_days : Int32) (c_likely : Int32) (c_outOf : Int32) (c_rateNow : Int32) (c_pence : Nat → Int64) (c_top : Int64) (c_bottom : Int64) (c_fault : Int32) (c_numberAt : Int32) (c_written : Int32) (c_wanted : Int32) (c_found : Int32) (c_drawnNow : Int32) (c_worth : Nat → Int64) (c_hold : Nat → Int64) (c_way : Nat → Int64) (c_acts : Nat → Int32) (c_sDay : Int32) (c_sUps : Int32) (c_sUp : Int32) (c_sMarks : Int32) (c_paidAll : Int64) (c_isPlayed : Int32) (c_isOn : Int32) (c_handMoved : Int32) (c_handPaid : Int64) (c_regret : Int64) (c_aside : Nat → Int32) (c_other : Nat → Int64) (c_states : Int32) (c_kept : Nat → Int32) (c_keptLong : Nat → Int64) (c_keptAt : Int32) (c_isTaking : Int32) (c_spot : Int32) (c_number : Int32) (c_figures : Int32) (o_c_spot : Int32) (o_c_number : Int32) (o_c_figures : Int32) (H : Heap) (locs : List Loc) (ls : Array Slot), va_P (dC, dI) vwCl (mW dA ad c_tape c_taped c_tree c_bonds c_moves c_handMoves c_moved c_days c_likely c_outOf c_rateNow c_pence c_top c_bottom c_spot c_textLong c_fault c_number c_numberAt c_figures c_written c_wanted c_found c_drawnNow c_worth c_hold c_way c_acts c_sDay c_sUps c_sUp c_sMarks c_paidAll c_isPlayed c_isOn c_handMoved c_handPaid c_regret c_aside c_other c_states c_kept c_keptLong c_keptAt c_isTaking) H → va_D A (mW dA ad c_tape c_taped c_tree c_bonds c_moves c_handMoves c_moved c_days c_likely c_outOf c_rateNow c_pence c_top c_bottom c_spot c_textLong c_fault c_number c_numberAt c_figures c_written c_wanted c_found c_drawnNow c_worth c_hold c_way c_acts c_sDay c_sUps c_sUp c_sMarks c_paidAll c_isPlayed c_isOn c_handMoved c_handPaid c_regret c_aside c_other c_states c_kept c_keptLong c_keptAt c_isTaking) → va_S A s.heap H locs → lpX9_counts_40 x1 c_tape c_textLong n c_spot c_number c_figures = some (o_c_spot, o_c_number, o_c_figures) → lv_has ls 3 [(0, .ref (ad 0)), (1, .int x1)] → (∀ (H : Heap) (locs : List Loc) (ls : Array Slot), va_P (dC, dI) vwCl (mW dA ad c_tape c_taped c_tree c_bonds c_moves c_handMoves c_moved c_days c_likely c_outOf c_rateNow c_pence c_top c_bottom o_c_spot c_textLong c_fault o_c_number c_numberAt o_c_figures c_written c_wanted c_found c_drawnNow c_worth c_hold c_way c_acts c_sDay c_sUps c_sUp c_sMarks c_paidAll c_isPlayed c_isOn c_handMoved c_handPaid c_regret c_aside c_other c_states c_kept c_keptLong c_keptAt c_isTaking) H → va_D A (mW dA ad c_tape c_taped c_tree c_bonds c_moves c_handMoves c_moved c_days c_likely c_outOf c_rateNow c_pence c_top c_bottom o_c_spot c_textLong c_fault o_c_number c_numberAt o_c_figures c_written c_wanted c_found c_drawnNow c_worth c_hold c_way c_acts c_sDay c_sUps c_sUp c_sMarks c_paidAll c_isPlayed c_isOn c_handMoved c_handPaid c_regret c_aside c_other c_states c_kept c_keptLong c_keptAt c_isTaking) → va_S A s.heap H locs → lv_has ls 3 [(0, .ref (ad 0)), (1, .int x1)] → W p l e rmX9_counts s m ([.ref (ad 0), .int p1] : List Value).toArray below meth c H locs 0 0 Q (F0 m 121 ls [])) → W p l e rmX9_counts s m ([.ref (ad 0), .int p1] : List Value).toArray below meth c H locs 0 0 Q (F0 m 40 ls []) := by
    intro n
    induction n with
    | zero =>
      intro x1 c_tape c_textLong c_taped c_tree c_bonds c_moves c_handMoves c_moved c_days c_likely c_outOf c_rateNow c_pence c_top c_bottom c_fault c_numberAt c_written c_wanted c_found c_drawnNow c_worth c_hold c_way c_acts c_sDay c_sUps c_sUp c_sMarks c_paidAll c_isPlayed c_isOn c_handMoved c_handPaid c_regret c_aside c_other c_states c_kept c_keptLong c_keptAt c_isTaking c_spot c_number c_figures o_c_spot o_c_number o_c_figures H locs ls hP hD hS hf hl hk
      cases hf
    | succ n ih40 =>
      intro x1 c_tape c_textLong c_taped c_tree c_bonds c_moves c_handMoves c_moved c_days c_likely c_outOf c_rateNow c_pence c_top c_bottom c_fault c_numberAt c_written c_wanted c_found c_drawnNow c_worth c_hold c_way c_acts c_sDay c_sUps c_sUp c_sMarks c_paidAll c_isPlayed c_isOn c_handMoved c_handPaid c_regret c_aside c_other c_states c_kept c_keptLong c_keptAt c_isTaking c_spot c_number c_figures o_c_spot o_c_number o_c_figures H locs ls hP hD hS hf hl hk
      rw [lpX9_counts_40.eq_2] at hf
      refine lv_aload_n hx hb dX9_counts_40 rfl (lv_at hl 0 rfl) ?_
      refine va_get (D := (dC, dI)) (ci := 9) (v := .int c_spot) (C := RX9) (T := TX9) (N := 45) hx hb hts (fun w h => gw_mem (inX9 w h)) hown hK.1 hP 0 rfl rfl 14 (by decide) (hts _ (gw_mem wfX9_164)) (fun _ h9 => h9) rfl dX9_counts_41 ?_
      refine lv_aload_n hx hb dX9_counts_44 rfl (lv_at hl 0 rfl) ?_
      refine va_get (D := (dC, dI)) (ci := 9) (v := .int c_textLong) (C := RX9) (T := TX9) (N := 45) hx hb hts (fun w h => gw_mem (inX9 w h)) hown hK.1 hP 0 rfl rfl 15 (by decide) (hts _ (gw_mem wfX9_167)) (fun _ h9 => h9) rfl dX9_counts_45 ?_
      refine lv_icmp_ge (tgt := 121) hx hb dX9_counts_48 (by decide) (fun k25 => ?_) (fun k25 => ?_)
      · replace hf := ifp k25 hf
        cases hf
        exact hk _ _ _ hP hD hS (lv_sub hl [0, 1] rfl)
      · replace hf := ifn k25 hf
        refine lv_aload_n hx hb dX9_counts_51 rfl (lv_at hl 0 rfl) ?_
        refine va_get (D := (dC, dI)) (ci := 9) (v := .int c_figures) (C := RX9) (T := TX9) (N := 45) hx hb hts (fun w h => gw_mem (inX9 w h)) hown hK.1 hP 0 rfl rfl 19 (by decide) (hts _ (gw_mem wfX9_187)) (fun _ h9 => h9) rfl dX9_counts_52 ?_
        refine lv_iload_n hx hb dX9_counts_55 rfl (lv_at hl 1 rfl) ?_
        refine lv_icmp_ge (tgt := 121) hx hb dX9_counts_56 (by decide) (fun k26 => ?_) (fun k26 => ?_)
        · replace hf := ifp k26 hf
          cases hf
          exact hk _ _ _ hP hD hS (lv_sub hl [0, 1] rfl)
        · replace hf := ifn k26 hf
          refine lv_aload_n hx hb dX9_counts_59 rfl (lv_at hl 0 rfl) ?_
          refine va_get (D := (dC, dI)) (ci := 9) (v := .ref (ad 1)) (C := RX9) (T := TX9) (N := 45) hx hb hts (fun w h => gw_mem (inX9 w h)) hown hK.1 hP 0 rfl rfl 0 (by decide) (hts _ (gw_mem wfX9_7)) (fun _ h9 => h9) rfl dX9_counts_60 ?_
          refine lv_aload_n hx hb dX9_counts_63 rfl (lv_at hl 0 rfl) ?_
          refine va_get (D := (dC, dI)) (ci := 9) (v := .int c_spot) (C := RX9) (T := TX9) (N := 45) hx hb hts (fun w h => gw_mem (inX9 w h)) hown hK.1 hP 0 rfl rfl 14 (by decide) (hts _ (gw_mem wfX9_164)) (fun _ h9 => h9) rfl dX9_counts_64 ?_
          obtain ⟨h27, hf⟩ := og_some hf
          refine va_bald hx hb hK.1 hP 1 2 rfl rfl (okI_in h27) dX9_counts_67 ?_
          obtain ⟨r28, v29, hf⟩ := bd1_some hf
          refine gci0 (va_runS (As := [.int (c_tape (Int32.toNatClampNeg c_spot))]) (rest := []) ⟨hx, hb, hml, hown, hts⟩ (tX9_isFigure l dC dI dA H.size v29) (ccX9_X9_isFigure hts ⟨Nat.le_of_ble_eq_true rfl, Nat.le_of_ble_eq_true rfl⟩) (gPreS0 hK) rfl rfl hl.1 rfl (lv_room (Nat.le_of_ble_eq_true rfl)) dX9_counts_68 ⟨Nat.le_of_ble_eq_true rfl, Nat.le_of_ble_eq_true rfl⟩) hP hS hA (fun H locs hP hS => ?_)
          refine lv_if_eq (tgt := 121) hx hb dX9_counts_71 (by decide) (fun k30 => ?_) (fun k30 => ?_)
          · replace hf := ifp k30 hf
            cases hf
            exact hk _ _ _ hP hD hS (lv_sub hl [0, 1] rfl)
          · replace hf := ifn k30 hf
            refine lv_aload_n hx hb dX9_counts_74 rfl (lv_at hl 0 rfl) ?_
            refine lv_bipush (v := 10) hx hb dX9_counts_75 (by decide) ?_
            refine lv_aload_n hx hb dX9_counts_77 rfl (lv_at hl 0 rfl) ?_
            refine va_get (D := (dC, dI)) (ci := 9) (v := .int c_number) (C := RX9) (T := TX9) (N := 45) hx hb hts (fun w h => gw_mem (inX9 w h)) hown hK.1 hP 0 rfl rfl 17 (by decide) (hts _ (gw_mem wfX9_184)) (fun _ h9 => h9) rfl dX9_counts_78 ?_
            refine lv_imul hx hb dX9_counts_81 ?_
            refine lv_aload_n hx hb dX9_counts_82 rfl (lv_at hl 0 rfl) ?_
            refine va_get (D := (dC, dI)) (ci := 9) (v := .ref (ad 1)) (C := RX9) (T := TX9) (N := 45) hx hb hts (fun w h => gw_mem (inX9 w h)) hown hK.1 hP 0 rfl rfl 0 (by decide) (hts _ (gw_mem wfX9_7)) (fun _ h9 => h9) rfl dX9_counts_83 ?_
            refine lv_aload_n hx hb dX9_counts_86 rfl (lv_at hl 0 rfl) ?_
            refine va_get (D := (dC, dI)) (ci := 9) (v := .int c_spot) (C := RX9) (T := TX9) (N := 45) hx hb hts (fun w h => gw_mem (inX9 w h)) hown hK.1 hP 0 rfl rfl 14 (by decide) (hts _ (gw_mem wfX9_164)) (fun _ h9 => h9) rfl dX9_counts_87 ?_
            obtain ⟨h31, hf⟩ := og_some hf
            refine va_bald hx hb hK.1 hP 1 2 rfl rfl (okI_in h31) dX9_counts_90 ?_
            refine lv_iadd hx hb dX9_counts_91 ?_
            refine lv_bipush (v := 48) hx hb dX9_counts_92 (by decide) ?_
            refine lv_isub hx hb dX9_counts_94 ?_
            refine lv_topi (fun w32 ew32 => ?_)
            replace hf := nm_at hf ew32
            refine va_put (D := (dC, dI)) (ci := 9) (v := .int w32) (ty := .int) (C := RX9) (T := TX9) (N := 45) hx hb hts (fun w h => gw_mem (inX9 w h)) tyX9 tyX9_ok nmX9 hown hK.1 hP hD hS 0 rfl rfl 17 (by decide) (hts _ (gw_mem wfX9_184)) (fun _ h9 => h9) rfl (by decide +kernel) rfl rfl (Nat.le_of_ble_eq_true rfl) dX9_counts_95 (fun H locs hP hD hS => ?_)
            have hP : va_P (dC, dI) vwCl (mW dA ad c_tape c_taped c_tree c_bonds c_moves c_handMoves c_moved c_days c_likely c_outOf c_rateNow c_pence c_top c_bottom c_spot c_textLong c_fault w32 c_numberAt c_figures c_written c_wanted c_found c_drawnNow c_worth c_hold c_way c_acts c_sDay c_sUps c_sUp c_sMarks c_paidAll c_isPlayed c_isOn c_handMoved c_handPaid c_regret c_aside c_other c_states c_kept c_keptLong c_keptAt c_isTaking) H := hP
            have hD : va_D A (mW dA ad c_tape c_taped c_tree c_bonds c_moves c_handMoves c_moved c_days c_likely c_outOf c_rateNow c_pence c_top c_bottom c_spot c_textLong c_fault w32 c_numberAt c_figures c_written c_wanted c_found c_drawnNow c_worth c_hold c_way c_acts c_sDay c_sUps c_sUp c_sMarks c_paidAll c_isPlayed c_isOn c_handMoved c_handPaid c_regret c_aside c_other c_states c_kept c_keptLong c_keptAt c_isTaking) := hD
            refine lv_aload_n hx hb dX9_counts_98 rfl (lv_at hl 0 rfl) ?_
            refine lv_aload_n hx hb dX9_counts_99 rfl (lv_at hl 0 rfl) ?_
            refine va_get (D := (dC, dI)) (ci := 9) (v := .int c_figures) (C := RX9) (T := TX9) (N := 45) hx hb hts (fun w h => gw_mem (inX9 w h)) hown hK.1 hP 0 rfl rfl 19 (by decide) (hts _ (gw_mem wfX9_187)) (fun _ h9 => h9) rfl dX9_counts_100 ?_
            refine lv_iconst (v := 1) hx hb dX9_counts_103 (by decide) ?_
            refine lv_iadd hx hb dX9_counts_104 ?_
            refine lv_topi (fun w33 ew33 => ?_)
            replace hf := nm_at hf ew33
            refine va_put (D := (dC, dI)) (ci := 9) (v := .int w33) (ty := .int) (C := RX9) (T := TX9) (N := 45) hx hb hts (fun w h => gw_mem (inX9 w h)) tyX9 tyX9_ok nmX9 hown hK.1 hP hD hS 0 rfl rfl 19 (by decide) (hts _ (gw_mem wfX9_187)) (fun _ h9 => h9) rfl (by decide +kernel) rfl rfl (Nat.le_of_ble_eq_true rfl) dX9_counts_105 (fun H locs hP hD hS => ?_)
            have hP : va_P (dC, dI) vwCl (mW dA ad c_tape c_taped c_tree c_bonds c_moves c_handMoves c_moved c_days c_likely c_outOf c_rateNow c_pence c_top c_bottom c_spot c_textLong c_fault w32 c_numberAt w33 c_written c_wanted c_found c_drawnNow c_worth c_hold c_way c_acts c_sDay c_sUps c_sUp c_sMarks c_paidAll c_isPlayed c_isOn c_handMoved c_handPaid c_regret c_aside c_other c_states c_kept c_keptLong c_keptAt c_isTaking) H := hP
            have hD : va_D A (mW dA ad c_tape c_taped c_tree c_bonds c_moves c_handMoves c_moved c_days c_likely c_outOf c_rateNow c_pence c_top c_bottom c_spot c_textLong c_fault w32 c_numberAt w33 c_written c_wanted c_found c_drawnNow c_worth c_hold c_way c_acts c_sDay c_sUps c_sUp c_sMarks c_paidAll c_isPlayed c_isOn c_handMoved c_handPaid c_regret c_aside c_other c_states c_kept c_keptLong c_keptAt c_isTaking) := hD
            refine lv_aload_n hx hb dX9_counts_108 rfl (lv_at hl 0 rfl) ?_
            refine lv_aload_n hx hb dX9_counts_109 rfl (lv_at hl 0 rfl) ?_
            refine va_get (D := (dC, dI)) (ci := 9) (v := .int c_spot) (C := RX9) (T := TX9) (N := 45) hx hb hts (fun w h => gw_mem (inX9 w h)) hown hK.1 hP 0 rfl rfl 14 (by decide) (hts _ (gw_mem wfX9_164)) (fun _ h9 => h9) rfl dX9_counts_110 ?_
            refine lv_iconst (v := 1) hx hb dX9_counts_113 (by decide) ?_
            refine lv_iadd hx hb dX9_counts_114 ?_
            refine lv_topi (fun w34 ew34 => ?_)
            replace hf := nm_at hf ew34
            refine va_put (D := (dC, dI)) (ci := 9) (v := .int w34) (ty := .int) (C := RX9) (T := TX9) (N := 45) hx hb hts (fun w h => gw_mem (inX9 w h)) tyX9 tyX9_ok nmX9 hown hK.1 hP hD hS 0 rfl rfl 14 (by decide) (hts _ (gw_mem wfX9_164)) (fun _ h9 => h9) rfl (by decide +kernel) rfl rfl (Nat.le_of_ble_eq_true rfl) dX9_counts_115 (fun H locs hP hD hS => ?_)
            have hP : va_P (dC, dI) vwCl (mW dA ad c_tape c_taped c_tree c_bonds c_moves c_handMoves c_moved c_days c_likely c_outOf c_rateNow c_pence c_top c_bottom w34 c_textLong c_fault w32 c_numberAt w33 c_written c_wanted c_found c_drawnNow c_worth c_hold c_way c_acts c_sDay c_sUps c_sUp c_sMarks c_paidAll c_isPlayed c_isOn c_handMoved c_handPaid c_regret c_aside c_other c_states c_kept c_keptLong c_keptAt c_isTaking) H := hP
            have hD : va_D A (mW dA ad c_tape c_taped c_tree c_bonds c_moves c_handMoves c_moved c_days c_likely c_outOf c_rateNow c_pence c_top c_bottom w34 c_textLong c_fault w32 c_numberAt w33 c_written c_wanted c_found c_drawnNow c_worth c_hold c_way c_acts c_sDay c_sUps c_sUp c_sMarks c_paidAll c_isPlayed c_isOn c_handMoved c_handPaid c_regret c_aside c_other c_states c_kept c_keptLong c_keptAt c_isTaking) := hD
            refine lv_goto (tgt := 40) hx hb dX9_counts_118 (by decide) ?_
            exact ih40 _ _ _ _ _ _ _ _ _ _ _ _ _ _ _ _ _ _ _ _ _ _ _ _ _ _ _ _ _ _ _ _ _ _ _ _ _ _ _ _ _ _ _ _ _ _ _ _ _ _ _ _ hP hD hS hf (lv_sub hl [0, 1] rfl) hk
  subst hQ
  unfold fX9_counts at hf
  refine lv_aload_n hx hb dX9_counts_0 rfl (lv_at hl 0 rfl) ?_
  obtain ⟨r1, c_spot_2, v3, hf⟩ := bd2_some hf
  refine gci (va_runV (As := []) (rest := []) ⟨hx, hb, hml, hown, hts⟩ (tX9_see l dC dI dA ad s.heap.size v3) (ccX9_X9_see hts ⟨Nat.le_of_ble_eq_true rfl, Nat.le_of_ble_eq_true rfl⟩) (gPreV (ci := 9) (q0 := 0) hP hK hD rfl rfl) rfl rfl hl.1 rfl (lv_room (Nat.le_of_ble_eq_true rfl)) dX9_counts_1 ⟨Nat.le_of_ble_eq_true rfl, Nat.le_of_ble_eq_true rfl⟩) hD hS hA (fun H locs hP hD hS => ?_)
  refine lv_istore_n (lv' := [(2, .int r1), (0, .ref (ad 0)), (1, .int p1)]) hx hb dX9_counts_4 rfl hl (by decide) rfl (fun ls hl => ?_)
  refine lv_aload_n hx hb dX9_counts_5 rfl (lv_at hl 1 rfl) ?_
  refine lv_aload_n hx hb dX9_counts_6 rfl (lv_at hl 1 rfl) ?_
  refine va_get (D := (dC, dI)) (ci := 9) (v := .int c_spot_2) (C := RX9) (T := TX9) (N := 45) hx hb hts (fun w h => gw_mem (inX9 w h)) hown hK.1 hP 0 rfl rfl 14 (by decide) (hts _ (gw_mem wfX9_164)) (fun _ h9 => h9) rfl dX9_counts_7 ?_
  refine va_put (D := (dC, dI)) (ci := 9) (v := .int c_spot_2) (ty := .int) (C := RX9) (T := TX9) (N := 45) hx hb hts (fun w h => gw_mem (inX9 w h)) tyX9 tyX9_ok nmX9 hown hK.1 hP hD hS 0 rfl rfl 18 (by decide) (hts _ (gw_mem wfX9_181)) (fun _ h9 => h9) rfl (by decide +kernel) rfl rfl (Nat.le_of_ble_eq_true rfl) dX9_counts_10 (fun H locs hP hD hS => ?_)
  have hP : va_P (dC, dI) vwCl (mW dA ad c_tape c_taped c_tree c_bonds c_moves c_handMoves c_moved c_days c_likely c_outOf c_rateNow c_pence c_top c_bottom c_spot_2 c_textLong c_fault c_number c_spot_2 c_figures c_written c_wanted c_found c_drawnNow c_worth c_hold c_way c_acts c_sDay c_sUps c_sUp c_sMarks c_paidAll c_isPlayed c_isOn c_handMoved c_handPaid c_regret c_aside c_other c_states c_kept c_keptLong c_keptAt c_isTaking) H := hP
  have hD : va_D A (mW dA ad c_tape c_taped c_tree c_bonds c_moves c_handMoves c_moved c_days c_likely c_outOf c_rateNow c_pence c_top c_bottom c_spot_2 c_textLong c_fault c_number c_spot_2 c_figures c_written c_wanted c_found c_drawnNow c_worth c_hold c_way c_acts c_sDay c_sUps c_sUp c_sMarks c_paidAll c_isPlayed c_isOn c_handMoved c_handPaid c_regret c_aside c_other c_states c_kept c_keptLong c_keptAt c_isTaking) := hD
  refine lv_aload_n hx hb dX9_counts_13 rfl (lv_at hl 1 rfl) ?_
  refine lv_iconst (v := 0) hx hb dX9_counts_14 (by decide) ?_
  refine va_put (D := (dC, dI)) (ci := 9) (v := .int 0) (ty := .int) (C := RX9) (T := TX9) (N := 45) hx hb hts (fun w h => gw_mem (inX9 w h)) tyX9 tyX9_ok nmX9 hown hK.1 hP hD hS 0 rfl rfl 17 (by decide) (hts _ (gw_mem wfX9_184)) (fun _ h9 => h9) rfl (by decide +kernel) rfl rfl (Nat.le_of_ble_eq_true rfl) dX9_counts_15 (fun H locs hP hD hS => ?_)
  have hP : va_P (dC, dI) vwCl (mW dA ad c_tape c_taped c_tree c_bonds c_moves c_handMoves c_moved c_days c_likely c_outOf c_rateNow c_pence c_top c_bottom c_spot_2 c_textLong c_fault 0 c_spot_2 c_figures c_written c_wanted c_found c_drawnNow c_worth c_hold c_way c_acts c_sDay c_sUps c_sUp c_sMarks c_paidAll c_isPlayed c_isOn c_handMoved c_handPaid c_regret c_aside c_other c_states c_kept c_keptLong c_keptAt c_isTaking) H := hP
  have hD : va_D A (mW dA ad c_tape c_taped c_tree c_bonds c_moves c_handMoves c_moved c_days c_likely c_outOf c_rateNow c_pence c_top c_bottom c_spot_2 c_textLong c_fault 0 c_spot_2 c_figures c_written c_wanted c_found c_drawnNow c_worth c_hold c_way c_acts c_sDay c_sUps c_sUp c_sMarks c_paidAll c_isPlayed c_isOn c_handMoved c_handPaid c_regret c_aside c_other c_states c_kept c_keptLong c_keptAt c_isTaking) := hD
  refine lv_aload_n hx hb dX9_counts_18 rfl (lv_at hl 1 rfl) ?_
  refine lv_iconst (v := 0) hx hb dX9_counts_19 (by decide) ?_
  refine va_put (D := (dC, dI)) (ci := 9) (v := .int 0) (ty := .int) (C := RX9) (T := TX9) (N := 45) hx hb hts (fun w h => gw_mem (inX9 w h)) tyX9 tyX9_ok nmX9 hown hK.1 hP hD hS 0 rfl rfl 19 (by decide) (hts _ (gw_mem wfX9_187)) (fun _ h9 => h9) rfl (by decide +kernel) rfl rfl (Nat.le_of_ble_eq_true rfl) dX9_counts_20 (fun H locs hP hD hS => ?_)
  have hP : va_P (dC, dI) vwCl (mW dA ad c_tape c_taped c_tree c_bonds c_moves c_handMoves c_moved c_days c_likely c_outOf c_rateNow c_pence c_top c_bottom c_spot_2 c_textLong c_fault 0 c_spot_2 0 c_written c_wanted c_found c_drawnNow c_worth c_hold c_way c_acts c_sDay c_sUps c_sUp c_sMarks c_paidAll c_isPlayed c_isOn c_handMoved c_handPaid c_regret c_aside c_other c_states c_kept c_keptLong c_keptAt c_isTaking) H := hP
  have hD : va_D A (mW dA ad c_tape c_taped c_tree c_bonds c_moves c_handMoves c_moved c_days c_likely c_outOf c_rateNow c_pence c_top c_bottom c_spot_2 c_textLong c_fault 0 c_spot_2 0 c_written c_wanted c_found c_drawnNow c_worth c_hold c_way c_acts c_sDay c_sUps c_sUp c_sMarks c_paidAll c_isPlayed c_isOn c_handMoved c_handPaid c_regret c_aside c_other c_states c_kept c_keptLong c_keptAt c_isTaking) := hD
  refine lv_iload_n hx hb dX9_counts_23 rfl (lv_at hl 0 rfl) ?_
  obtain ⟨r4, v5, hf⟩ := bd1_some hf
  refine gci0 (va_runS (As := [.int r1]) (rest := []) ⟨hx, hb, hml, hown, hts⟩ (tX9_isFigure l dC dI dA H.size v5) (ccX9_X9_isFigure hts ⟨Nat.le_of_ble_eq_true rfl, Nat.le_of_ble_eq_true rfl⟩) (gPreS0 hK) rfl rfl hl.1 rfl (lv_room (Nat.le_of_ble_eq_true rfl)) dX9_counts_24 ⟨Nat.le_of_ble_eq_true rfl, Nat.le_of_ble_eq_true rfl⟩) hP hS hA (fun H locs hP hS => ?_)
  refine lv_if_ne (tgt := 40) hx hb dX9_counts_27 (by decide) (fun k6 => ?_) (fun k6 => ?_)
  · replace hf := ifn k6 hf
    obtain ⟨c_spot_7, c_number_8, c_figures_9, v10, hf⟩ := bd3_some hf
    refine LP40 FU _ _ _ _ _ _ _ _ _ _ _ _ _ _ _ _ _ _ _ _ _ _ _ _ _ _ _ _ _ _ _ _ _ _ _ _ _ _ _ _ _ _ _ _ _ _ _ _ _ _ _ _ hP hD hS v10 (lv_sub hl [1, 2] rfl) (fun H locs ls hP hD hS hl => ?_)
    refine lv_iload_n hx hb dX9_counts_121 rfl (lv_at hl 1 rfl) ?_
    refine lv_iconst (v := 1) hx hb dX9_counts_122 (by decide) ?_
    refine lv_icmp_le (tgt := 162) hx hb dX9_counts_123 (by decide) (fun k11 => ?_) (fun k11 => ?_)
    · replace hf := ifp k11 hf
      refine lv_iconst (v := 1) hx hb dX9_counts_162 (by decide) ?_
      cases hf
      exact W.zret (ty := .boolean) hx hb hr rfl (fun t ht _ => gqi hP hD hS ht) hS.2.2 dX9_counts_163
    · replace hf := ifn k11 hf
      refine lv_aload_n hx hb dX9_counts_126 rfl (lv_at hl 0 rfl) ?_
      refine va_get (D := (dC, dI)) (ci := 9) (v := .int c_spot_7) (C := RX9) (T := TX9) (N := 45) hx hb hts (fun w h => gw_mem (inX9 w h)) hown hK.1 hP 0 rfl rfl 14 (by decide) (hts _ (gw_mem wfX9_164)) (fun _ h9 => h9) rfl dX9_counts_127 ?_
      refine lv_aload_n hx hb dX9_counts_130 rfl (lv_at hl 0 rfl) ?_
      refine va_get (D := (dC, dI)) (ci := 9) (v := .int c_textLong) (C := RX9) (T := TX9) (N := 45) hx hb hts (fun w h => gw_mem (inX9 w h)) hown hK.1 hP 0 rfl rfl 15 (by decide) (hts _ (gw_mem wfX9_167)) (fun _ h9 => h9) rfl dX9_counts_131 ?_
      refine lv_icmp_ge (tgt := 162) hx hb dX9_counts_134 (by decide) (fun k12 => ?_) (fun k12 => ?_)
      · replace hf := ifp k12 hf
        refine lv_iconst (v := 1) hx hb dX9_counts_162 (by decide) ?_
        cases hf
        exact W.zret (ty := .boolean) hx hb hr rfl (fun t ht _ => gqi hP hD hS ht) hS.2.2 dX9_counts_163
      · replace hf := ifn k12 hf
        refine lv_aload_n hx hb dX9_counts_137 rfl (lv_at hl 0 rfl) ?_
        refine va_get (D := (dC, dI)) (ci := 9) (v := .ref (ad 1)) (C := RX9) (T := TX9) (N := 45) hx hb hts (fun w h => gw_mem (inX9 w h)) hown hK.1 hP 0 rfl rfl 0 (by decide) (hts _ (gw_mem wfX9_7)) (fun _ h9 => h9) rfl dX9_counts_138 ?_
        refine lv_aload_n hx hb dX9_counts_141 rfl (lv_at hl 0 rfl) ?_
        refine va_get (D := (dC, dI)) (ci := 9) (v := .int c_spot_7) (C := RX9) (T := TX9) (N := 45) hx hb hts (fun w h => gw_mem (inX9 w h)) hown hK.1 hP 0 rfl rfl 14 (by decide) (hts _ (gw_mem wfX9_164)) (fun _ h9 => h9) rfl dX9_counts_142 ?_
        obtain ⟨h13, hf⟩ := og_some hf
        refine va_bald hx hb hK.1 hP 1 2 rfl rfl (okI_in h13) dX9_counts_145 ?_
        obtain ⟨r14, v15, hf⟩ := bd1_some hf
        refine gci0 (va_runS (As := [.int (c_tape (Int32.toNatClampNeg c_spot_7))]) (rest := []) ⟨hx, hb, hml, hown, hts⟩ (tX9_isFigure l dC dI dA H.size v15) (ccX9_X9_isFigure hts ⟨Nat.le_of_ble_eq_true rfl, Nat.le_of_ble_eq_true rfl⟩) (gPreS0 hK) rfl rfl hl.1 rfl (lv_room (Nat.le_of_ble_eq_true rfl)) dX9_counts_146 ⟨Nat.le_of_ble_eq_true rfl, Nat.le_of_ble_eq_true rfl⟩) hP hS hA (fun H locs hP hS => ?_)
        refine lv_if_eq (tgt := 162) hx hb dX9_counts_149 (by decide) (fun k16 => ?_) (fun k16 => ?_)
        · replace hf := ifp k16 hf
          refine lv_iconst (v := 1) hx hb dX9_counts_162 (by decide) ?_
          cases hf
          exact W.zret (ty := .boolean) hx hb hr rfl (fun t ht _ => gqi hP hD hS ht) hS.2.2 dX9_counts_163
        · replace hf := ifn k16 hf
          refine lv_aload_n hx hb dX9_counts_152 rfl (lv_at hl 0 rfl) ?_
          refine lv_iconst (v := 2) hx hb dX9_counts_153 (by decide) ?_
          refine lv_aload_n hx hb dX9_counts_154 rfl (lv_at hl 0 rfl) ?_
          refine va_get (D := (dC, dI)) (ci := 9) (v := .int c_spot_7) (C := RX9) (T := TX9) (N := 45) hx hb hts (fun w h => gw_mem (inX9 w h)) hown hK.1 hP 0 rfl rfl 14 (by decide) (hts _ (gw_mem wfX9_164)) (fun _ h9 => h9) rfl dX9_counts_155 ?_
          obtain ⟨r17, c_fault_18, v19, hf⟩ := bd2_some hf
          refine gci (va_runV (As := [.int 2, .int c_spot_7]) (rest := []) ⟨hx, hb, hml, hown, hts⟩ (tX9_wrong l dC dI dA ad H.size v19) (ccX9_X9_wrong hts ⟨Nat.le_of_ble_eq_true rfl, Nat.le_of_ble_eq_true rfl⟩) (gPreV (ci := 9) (q0 := 0) hP hK hD rfl rfl) rfl rfl hl.1 rfl (lv_room (Nat.le_of_ble_eq_true rfl)) dX9_counts_158 ⟨Nat.le_of_ble_eq_true rfl, Nat.le_of_ble_eq_true rfl⟩) hD hS hA (fun H locs hP hD hS => ?_)
          obtain ⟨h20, hf⟩ := og_some hf
          cases hf
          exact W.zret (ty := .boolean) hx hb hr (boB_nar h20) (fun t ht _ => gqi hP hD hS ht) hS.2.2 dX9_counts_161
  · replace hf := ifp k6 hf
    refine lv_aload_n hx hb dX9_counts_30 rfl (lv_at hl 1 rfl) ?_
    refine lv_iconst (v := 1) hx hb dX9_counts_31 (by decide) ?_
    refine lv_aload_n hx hb dX9_counts_32 rfl (lv_at hl 1 rfl) ?_
    refine va_get (D := (dC, dI)) (ci := 9) (v := .int c_spot_2) (C := RX9) (T := TX9) (N := 45) hx hb hts (fun w h => gw_mem (inX9 w h)) hown hK.1 hP 0 rfl rfl 14 (by decide) (hts _ (gw_mem wfX9_164)) (fun _ h9 => h9) rfl dX9_counts_33 ?_
    obtain ⟨r21, c_fault_22, v23, hf⟩ := bd2_some hf
    refine gci (va_runV (As := [.int 1, .int c_spot_2]) (rest := []) ⟨hx, hb, hml, hown, hts⟩ (tX9_wrong l dC dI dA ad H.size v23) (ccX9_X9_wrong hts ⟨Nat.le_of_ble_eq_true rfl, Nat.le_of_ble_eq_true rfl⟩) (gPreV (ci := 9) (q0 := 0) hP hK hD rfl rfl) rfl rfl hl.1 rfl (lv_room (Nat.le_of_ble_eq_true rfl)) dX9_counts_36 ⟨Nat.le_of_ble_eq_true rfl, Nat.le_of_ble_eq_true rfl⟩) hD hS hA (fun H locs hP hD hS => ?_)
    obtain ⟨h24, hf⟩ := og_some hf
    cases hf
    exact W.zret (ty := .boolean) hx hb hr (boB_nar h24) (fun t ht _ => gqi hP hD hS ht) hS.2.2 dX9_counts_39
theorem ccX9_X9_counts {R : Room} {s : State} {args : Array Value} {c0 : Cond} (ht : ∀ w ∈ wq c0, w.before args s = true) (hR : rmX9_counts.frames + 1 ≤ R.frames ∧ 8 + (3 + 11) + rmX9_counts.locals ≤ R.locals) : CallW R s args RX9 RX9 196 yX9_counts cX9_counts 3 (some .boolean) (wq (.code yX9_counts cX9_counts 3 (some .boolean))) rmX9_counts 0 0 1 := gCW 1 ht wcX9_counts wmX9_196 wiX9_counts weX9_counts wnX9 (by decide +kernel) rfl rfl hR
abbrev rmX9_reads : Room := { frames := 3, cells := 0, slots := 0, locals := 67 }
set_option maxHeartbeats 4000000 in
set_option maxRecDepth 100000 in
theorem tX9_reads (l : Launch) (dC : Nat → ClassId) (dI : Nat → Nat → Nat) (dA : Nat → ClassId) (ad : Nat → Nat) (sz : Nat) {p1 : Int32} {p2 : Int32} {p3 : Int32} {c_tape : Nat → Int32} {c_taped : Int32} {c_tree : Nat → Int32} {c_bonds : Nat → Int32} {c_moves : Nat → Int32} {c_handMoves : Nat → Int32} {c_moved : Int32} {c_days : Int32} {c_likely : Int32} {c_outOf : Int32} {c_rateNow : Int32} {c_pence : Nat → Int64} {c_top : Int64} {c_bottom : Int64} {c_spot : Int32} {c_textLong : Int32} {c_fault : Int32} {c_number : Int32} {c_numberAt : Int32} {c_figures : Int32} {c_written : Int32} {c_wanted : Int32} {c_found : Int32} {c_drawnNow : Int32} {c_worth : Nat → Int64} {c_hold : Nat → Int64} {c_way : Nat → Int64} {c_acts : Nat → Int32} {c_sDay : Int32} {c_sUps : Int32} {c_sUp : Int32} {c_sMarks : Int32} {c_paidAll : Int64} {c_isPlayed : Int32} {c_isOn : Int32} {c_handMoved : Int32} {c_handPaid : Int64} {c_regret : Int64} {c_aside : Nat → Int32} {c_other : Nat → Int64} {c_states : Int32} {c_kept : Nat → Int32} {c_keptLong : Nat → Int64} {c_keptAt : Int32} {c_isTaking : Int32} {r : Int32} {o_c_spot : Int32} {o_c_fault : Int32} {o_c_number : Int32} {o_c_numberAt : Int32} {o_c_figures : Int32} (hf : fX9_reads p1 p2 p3 c_tape c_spot c_textLong c_fault c_number c_numberAt c_figures = some (r, o_c_spot, o_c_fault, o_c_number, o_c_numberAt, o_c_figures)) : Met l yX9_reads (wq (Cond.code yX9_reads cX9_reads 4 (some .boolean))) rmX9_reads (gP [.ref (ad 0), .int p1, .int p2, .int p3] (dC, dI) dA (mW dA ad c_tape c_taped c_tree c_bonds c_moves c_handMoves c_moved c_days c_likely c_outOf c_rateNow c_pence c_top c_bottom c_spot c_textLong c_fault c_number c_numberAt c_figures c_written c_wanted c_found c_drawnNow c_worth c_hold c_way c_acts c_sDay c_sUps c_sUp c_sMarks c_paidAll c_isPlayed c_isOn c_handMoved c_handPaid c_regret c_aside c_other c_states c_kept c_keptLong c_keptAt c_isTaking) sz) (gQi (dC, dI) r (mW dA ad c_tape c_taped c_tree c_bonds c_moves c_handMoves c_moved c_days c_likely c_outOf c_rateNow c_pence c_top c_bottom o_c_spot c_textLong o_c_fault o_c_number o_c_numberAt o_c_figures c_written c_wanted c_found c_drawnNow c_worth c_hold c_way c_acts c_sDay c_sUps c_sUp c_sMarks c_paidAll c_isPlayed c_isOn c_handMoved c_handPaid c_regret c_aside c_other c_states c_kept c_keptLong c_keptAt c_isTaking) (va_A (mW dA ad c_tape c_taped c_tree c_bonds c_moves c_handMoves c_moved c_days c_likely c_outOf c_rateNow c_pence c_top c_bottom c_spot c_textLong c_fault c_number c_numberAt c_figures c_written c_wanted c_found c_drawnNow c_worth c_hold c_way c_acts c_sDay c_sUps c_sUp c_sMarks c_paidAll c_isPlayed c_isOn c_handMoved c_handPaid c_regret c_aside c_other c_states c_kept c_keptLong c_keptAt c_isTaking) sz)) 0 0 (va_A (mW dA ad c_tape c_taped c_tree c_bonds c_moves c_handMoves c_moved c_days c_likely c_outOf c_rateNow c_pence c_top c_bottom c_spot c_textLong c_fault c_number c_numberAt c_figures c_written c_wanted c_found c_drawnNow c_worth c_hold c_way c_acts c_sDay c_sUps c_sUp c_sMarks c_paidAll c_isPlayed c_isOn c_handMoved c_handPaid c_regret c_aside c_other c_states c_kept c_keptLong c_keptAt c_isTaking) sz) := by
  refine Met.ofW (cc := cX9_reads) (maxL := 4) (ret := (some .boolean)) (by decide) rfl ?_
  intro p e s m args below meth c s₁ B hml hv
  obtain ⟨rfl, hsz, hP, hK, hD0⟩ := hv
  have hx := B.exec
  have hb := B.bytes
  have hr := B.returns
  have hts := atoms_spec (ws := wq (Cond.code yX9_reads cX9_reads 4 (some .boolean))) B.pre
  have hown : s.vm.findClass RX9 = some m.cls := findClass_of_methodNamed B.named
  have hlocks := B.notSynchronized
  clear B
  subst hsz
  have hD := hD0.self (sz := s.heap.size)
  generalize hAe : va_A (mW dA ad c_tape c_taped c_tree c_bonds c_moves c_handMoves c_moved c_days c_likely c_outOf c_rateNow c_pence c_top c_bottom c_spot c_textLong c_fault c_number c_numberAt c_figures c_written c_wanted c_found c_drawnNow c_worth c_hold c_way c_acts c_sDay c_sUps c_sUp c_sMarks c_paidAll c_isPlayed c_isOn c_handMoved c_handPaid c_regret c_aside c_other c_states c_kept c_keptLong c_keptAt c_isTaking) s.heap.size = A at hD ⊢
  have hA : ∀ q : Nat, s.heap.size ≤ q → A q := fun q h => by rw [← hAe]; exact Or.inr h
  clear hAe hD0
  have hS : va_S A s.heap s.heap [] := va_S.rf
  have hl := lv_entry ([.ref (ad 0), .int p1, .int p2, .int p3]) (n := 4) (Nat.le_of_ble_eq_true rfl)
  rw [lg_entry_eq]
  generalize (lg_sl ([.ref (ad 0), .int p1, .int p2, .int p3]) ++ List.replicate (4 - (lg_sl ([.ref (ad 0), .int p1, .int p2, .int p3])).length) Slot.unset).toArray = ls at hl ⊢
  have hl : lv_has ls 4 [(0, .ref (ad 0)), (1, .int p1), (2, .int p2), (3, .int p3)] := hl
  change W p l e rmX9_reads s m ([.ref (ad 0), .int p1, .int p2, .int p3] : List Value).toArray below meth c s.heap [] 0 0 _ _
  unfold fX9_reads at hf
  refine lv_aload_n hx hb dX9_reads_0 rfl (lv_at hl 0 rfl) ?_
  refine lv_iload_n hx hb dX9_reads_1 rfl (lv_at hl 1 rfl) ?_
  obtain ⟨r1, c_spot_2, c_fault_3, c_number_4, c_numberAt_5, c_figures_6, v7, hf⟩ := bd6_some hf
  refine gci (va_runV (As := [.int p1]) (rest := []) ⟨hx, hb, hml, hown, hts⟩ (tX9_counts l dC dI dA ad s.heap.size v7) (ccX9_X9_counts hts ⟨Nat.le_of_ble_eq_true rfl, Nat.le_of_ble_eq_true rfl⟩) (gPreV (ci := 9) (q0 := 0) hP hK hD rfl rfl) rfl rfl hl.1 rfl (lv_room (Nat.le_of_ble_eq_true rfl)) dX9_reads_2 ⟨Nat.le_of_ble_eq_true rfl, Nat.le_of_ble_eq_true rfl⟩) hD hS hA (fun H locs hP hD hS => ?_)
  refine lv_if_ne (tgt := 10) hx hb dX9_reads_5 (by decide) (fun k8 => ?_) (fun k8 => ?_)
  · replace hf := ifn k8 hf
    refine lv_aload_n hx hb dX9_reads_10 rfl (lv_at hl 0 rfl) ?_
    refine va_get (D := (dC, dI)) (ci := 9) (v := .int c_number_4) (C := RX9) (T := TX9) (N := 45) hx hb hts (fun w h => gw_mem (inX9 w h)) hown hK.1 hP 0 rfl rfl 17 (by decide) (hts _ (gw_mem wfX9_184)) (fun _ h9 => h9) rfl dX9_reads_11 ?_
    refine lv_i2l hx hb dX9_reads_14 rfl ?_
    refine lv_iload_n hx hb dX9_reads_15 rfl (lv_at hl 2 rfl) ?_
    refine lv_i2l hx hb dX9_reads_16 rfl ?_
    refine lv_iload_n hx hb dX9_reads_17 rfl (lv_at hl 3 rfl) ?_
    refine lv_i2l hx hb dX9_reads_18 rfl ?_
    obtain ⟨r9, v10, hf⟩ := bd1_some hf
    refine gci0 (va_runS (As := [.long (Int32.toInt64 c_number_4), .long (Int32.toInt64 p2), .long (Int32.toInt64 p3)]) (rest := []) ⟨hx, hb, hml, hown, hts⟩ (tX9_in l dC dI dA H.size v10) (ccX9_X9_in hts ⟨Nat.le_of_ble_eq_true rfl, Nat.le_of_ble_eq_true rfl⟩) (gPreS0 hK) rfl rfl hl.1 rfl (lv_room (Nat.le_of_ble_eq_true rfl)) dX9_reads_19 ⟨Nat.le_of_ble_eq_true rfl, Nat.le_of_ble_eq_true rfl⟩) hP hS hA (fun H locs hP hS => ?_)
    obtain ⟨j12, c_fault_13, v15, hf⟩ := bd2_some hf
    have J14 : ∀ (H : Heap) (locs : List Loc) (ls : Array Slot), va_P (dC, dI) vwCl (mW dA ad c_tape c_taped c_tree c_bonds c_moves c_handMoves c_moved c_days c_likely c_outOf c_rateNow c_pence c_top c_bottom c_spot_2 c_textLong c_fault_13 c_number_4 c_numberAt_5 c_figures_6 c_written c_wanted c_found c_drawnNow c_worth c_hold c_way c_acts c_sDay c_sUps c_sUp c_sMarks c_paidAll c_isPlayed c_isOn c_handMoved c_handPaid c_regret c_aside c_other c_states c_kept c_keptLong c_keptAt c_isTaking) H → va_D A (mW dA ad c_tape c_taped c_tree c_bonds c_moves c_handMoves c_moved c_days c_likely c_outOf c_rateNow c_pence c_top c_bottom c_spot_2 c_textLong c_fault_13 c_number_4 c_numberAt_5 c_figures_6 c_written c_wanted c_found c_drawnNow c_worth c_hold c_way c_acts c_sDay c_sUps c_sUp c_sMarks c_paidAll c_isPlayed c_isOn c_handMoved c_handPaid c_regret c_aside c_other c_states c_kept c_keptLong c_keptAt c_isTaking) → va_S A s.heap H locs → lv_has ls 4 [] → W p l e rmX9_reads s m ([.ref (ad 0), .int p1, .int p2, .int p3] : List Value).toArray below meth c H locs 0 0 (MQ below (gQi (dC, dI) r (mW dA ad c_tape c_taped c_tree c_bonds c_moves c_handMoves c_moved c_days c_likely c_outOf c_rateNow c_pence c_top c_bottom o_c_spot c_textLong o_c_fault o_c_number o_c_numberAt o_c_figures c_written c_wanted c_found c_drawnNow c_worth c_hold c_way c_acts c_sDay c_sUps c_sUp c_sMarks c_paidAll c_isPlayed c_isOn c_handMoved c_handPaid c_regret c_aside c_other c_states c_kept c_keptLong c_keptAt c_isTaking) A) ([.ref (ad 0), .int p1, .int p2, .int p3] : List Value).toArray s 0 0 A) (F0 m 42 ls [.int j12]) := by
      intro H locs ls hP hD hS hl
      obtain ⟨h16, hf⟩ := og_some hf
      cases hf
      exact W.zret (ty := .boolean) hx hb hr (boB_nar h16) (fun t ht _ => gqi hP hD hS ht) hS.2.2 dX9_reads_42
    replace hf := v15
    clear v15
    refine lv_if_ne (tgt := 37) hx hb dX9_reads_22 (by decide) (fun k11 => ?_) (fun k11 => ?_)
    · replace hf := ifn k11 hf
      refine lv_iconst (v := 1) hx hb dX9_reads_37 (by decide) ?_
      refine lv_goto (tgt := 42) hx hb dX9_reads_38 (by decide) ?_
      cases hf
      exact J14 _ _ _ hP hD hS (lv_sub hl [] rfl)
    · replace hf := ifp k11 hf
      refine lv_aload_n hx hb dX9_reads_25 rfl (lv_at hl 0 rfl) ?_
      refine lv_iconst (v := 3) hx hb dX9_reads_26 (by decide) ?_
      refine lv_aload_n hx hb dX9_reads_27 rfl (lv_at hl 0 rfl) ?_
      refine va_get (D := (dC, dI)) (ci := 9) (v := .int c_numberAt_5) (C := RX9) (T := TX9) (N := 45) hx hb hts (fun w h => gw_mem (inX9 w h)) hown hK.1 hP 0 rfl rfl 18 (by decide) (hts _ (gw_mem wfX9_181)) (fun _ h9 => h9) rfl dX9_reads_28 ?_
      obtain ⟨r17, c_fault_18, v19, hf⟩ := bd2_some hf
      refine gci (va_runV (As := [.int 3, .int c_numberAt_5]) (rest := []) ⟨hx, hb, hml, hown, hts⟩ (tX9_wrong l dC dI dA ad H.size v19) (ccX9_X9_wrong hts ⟨Nat.le_of_ble_eq_true rfl, Nat.le_of_ble_eq_true rfl⟩) (gPreV (ci := 9) (q0 := 0) hP hK hD rfl rfl) rfl rfl hl.1 rfl (lv_room (Nat.le_of_ble_eq_true rfl)) dX9_reads_31 ⟨Nat.le_of_ble_eq_true rfl, Nat.le_of_ble_eq_true rfl⟩) hD hS hA (fun H locs hP hD hS => ?_)
      refine lv_if_eq (tgt := 41) hx hb dX9_reads_34 (by decide) (fun k20 => ?_) (fun k20 => ?_)
      · replace hf := ifp k20 hf
        refine lv_iconst (v := 0) hx hb dX9_reads_41 (by decide) ?_
        cases hf
        exact J14 _ _ _ hP hD hS (lv_sub hl [] rfl)
      · replace hf := ifn k20 hf
        refine lv_iconst (v := 1) hx hb dX9_reads_37 (by decide) ?_
        refine lv_goto (tgt := 42) hx hb dX9_reads_38 (by decide) ?_
        cases hf
        exact J14 _ _ _ hP hD hS (lv_sub hl [] rfl)
  · replace hf := ifp k8 hf
    refine lv_iconst (v := 0) hx hb dX9_reads_8 (by decide) ?_
    cases hf
    exact W.zret (ty := .boolean) hx hb hr rfl (fun t ht _ => gqi hP hD hS ht) hS.2.2 dX9_reads_9
abbrev rmX9_passes : Room := { frames := 1, cells := 0, slots := 0, locals := 22 }
set_option maxHeartbeats 4000000 in
set_option maxRecDepth 100000 in
theorem tX9_passes (l : Launch) (dC : Nat → ClassId) (dI : Nat → Nat → Nat) (dA : Nat → ClassId) (ad : Nat → Nat) (sz : Nat) {p1 : Int32} {c_tape : Nat → Int32} {c_taped : Int32} {c_tree : Nat → Int32} {c_bonds : Nat → Int32} {c_moves : Nat → Int32} {c_handMoves : Nat → Int32} {c_moved : Int32} {c_days : Int32} {c_likely : Int32} {c_outOf : Int32} {c_rateNow : Int32} {c_pence : Nat → Int64} {c_top : Int64} {c_bottom : Int64} {c_spot : Int32} {c_textLong : Int32} {c_fault : Int32} {c_number : Int32} {c_numberAt : Int32} {c_figures : Int32} {c_written : Int32} {c_wanted : Int32} {c_found : Int32} {c_drawnNow : Int32} {c_worth : Nat → Int64} {c_hold : Nat → Int64} {c_way : Nat → Int64} {c_acts : Nat → Int32} {c_sDay : Int32} {c_sUps : Int32} {c_sUp : Int32} {c_sMarks : Int32} {c_paidAll : Int64} {c_isPlayed : Int32} {c_isOn : Int32} {c_handMoved : Int32} {c_handPaid : Int64} {c_regret : Int64} {c_aside : Nat → Int32} {c_other : Nat → Int64} {c_states : Int32} {c_kept : Nat → Int32} {c_keptLong : Nat → Int64} {c_keptAt : Int32} {c_isTaking : Int32} {r : Int32} {o_c_spot : Int32} {o_c_fault : Int32} (hf : fX9_passes p1 c_tape c_spot c_textLong c_fault = some (r, o_c_spot, o_c_fault)) : Met l yX9_passes (wq (Cond.code yX9_passes cX9_passes 2 (some .boolean))) rmX9_passes (gP [.ref (ad 0), .int p1] (dC, dI) dA (mW dA ad c_tape c_taped c_tree c_bonds c_moves c_handMoves c_moved c_days c_likely c_outOf c_rateNow c_pence c_top c_bottom c_spot c_textLong c_fault c_number c_numberAt c_figures c_written c_wanted c_found c_drawnNow c_worth c_hold c_way c_acts c_sDay c_sUps c_sUp c_sMarks c_paidAll c_isPlayed c_isOn c_handMoved c_handPaid c_regret c_aside c_other c_states c_kept c_keptLong c_keptAt c_isTaking) sz) (gQi (dC, dI) r (mW dA ad c_tape c_taped c_tree c_bonds c_moves c_handMoves c_moved c_days c_likely c_outOf c_rateNow c_pence c_top c_bottom o_c_spot c_textLong o_c_fault c_number c_numberAt c_figures c_written c_wanted c_found c_drawnNow c_worth c_hold c_way c_acts c_sDay c_sUps c_sUp c_sMarks c_paidAll c_isPlayed c_isOn c_handMoved c_handPaid c_regret c_aside c_other c_states c_kept c_keptLong c_keptAt c_isTaking) (va_A (mW dA ad c_tape c_taped c_tree c_bonds c_moves c_handMoves c_moved c_days c_likely c_outOf c_rateNow c_pence c_top c_bottom c_spot c_textLong c_fault c_number c_numberAt c_figures c_written c_wanted c_found c_drawnNow c_worth c_hold c_way c_acts c_sDay c_sUps c_sUp c_sMarks c_paidAll c_isPlayed c_isOn c_handMoved c_handPaid c_regret c_aside c_other c_states c_kept c_keptLong c_keptAt c_isTaking) sz)) 0 0 (va_A (mW dA ad c_tape c_taped c_tree c_bonds c_moves c_handMoves c_moved c_days c_likely c_outOf c_rateNow c_pence c_top c_bottom c_spot c_textLong c_fault c_number c_numberAt c_figures c_written c_wanted c_found c_drawnNow c_worth c_hold c_way c_acts c_sDay c_sUps c_sUp c_sMarks c_paidAll c_isPlayed c_isOn c_handMoved c_handPaid c_regret c_aside c_other c_states c_kept c_keptLong c_keptAt c_isTaking) sz) := by
  refine Met.ofW (cc := cX9_passes) (maxL := 2) (ret := (some .boolean)) (by decide) rfl ?_
  intro p e s m args below meth c s₁ B hml hv
  obtain ⟨rfl, hsz, hP, hK, hD0⟩ := hv
  have hx := B.exec
  have hb := B.bytes
  have hr := B.returns
  have hts := atoms_spec (ws := wq (Cond.code yX9_passes cX9_passes 2 (some .boolean))) B.pre
  have hown : s.vm.findClass RX9 = some m.cls := findClass_of_methodNamed B.named
  have hlocks := B.notSynchronized
  clear B
  subst hsz
  have hD := hD0.self (sz := s.heap.size)
  generalize hAe : va_A (mW dA ad c_tape c_taped c_tree c_bonds c_moves c_handMoves c_moved c_days c_likely c_outOf c_rateNow c_pence c_top c_bottom c_spot c_textLong c_fault c_number c_numberAt c_figures c_written c_wanted c_found c_drawnNow c_worth c_hold c_way c_acts c_sDay c_sUps c_sUp c_sMarks c_paidAll c_isPlayed c_isOn c_handMoved c_handPaid c_regret c_aside c_other c_states c_kept c_keptLong c_keptAt c_isTaking) s.heap.size = A at hD ⊢
  have hA : ∀ q : Nat, s.heap.size ≤ q → A q := fun q h => by rw [← hAe]; exact Or.inr h
  clear hAe hD0
  have hS : va_S A s.heap s.heap [] := va_S.rf
  have hl := lv_entry ([.ref (ad 0), .int p1]) (n := 2) (Nat.le_of_ble_eq_true rfl)
  rw [lg_entry_eq]
  generalize (lg_sl ([.ref (ad 0), .int p1]) ++ List.replicate (2 - (lg_sl ([.ref (ad 0), .int p1])).length) Slot.unset).toArray = ls at hl ⊢
  have hl : lv_has ls 2 [(0, .ref (ad 0)), (1, .int p1)] := hl
  change W p l e rmX9_passes s m ([.ref (ad 0), .int p1] : List Value).toArray below meth c s.heap [] 0 0 _ _
  unfold fX9_passes at hf
  refine lv_aload_n hx hb dX9_passes_0 rfl (lv_at hl 0 rfl) ?_
  refine va_get (D := (dC, dI)) (ci := 9) (v := .int c_fault) (C := RX9) (T := TX9) (N := 45) hx hb hts (fun w h => gw_mem (inX9 w h)) hown hK.1 hP 0 rfl rfl 16 (by decide) (hts _ (gw_mem wfX9_170)) (fun _ h9 => h9) rfl dX9_passes_1 ?_
  refine lv_if_eq (tgt := 9) hx hb dX9_passes_4 (by decide) (fun k1 => ?_) (fun k1 => ?_)
  · replace hf := ifp k1 hf
    refine lv_aload_n hx hb dX9_passes_9 rfl (lv_at hl 0 rfl) ?_
    obtain ⟨r2, c_spot_3, v4, hf⟩ := bd2_some hf
    refine gci (va_runV (As := []) (rest := []) ⟨hx, hb, hml, hown, hts⟩ (tX9_see l dC dI dA ad s.heap.size v4) (ccX9_X9_see hts ⟨Nat.le_of_ble_eq_true rfl, Nat.le_of_ble_eq_true rfl⟩) (gPreV (ci := 9) (q0 := 0) hP hK hD rfl rfl) rfl rfl hl.1 rfl (lv_room (Nat.le_of_ble_eq_true rfl)) dX9_passes_10 ⟨Nat.le_of_ble_eq_true rfl, Nat.le_of_ble_eq_true rfl⟩) hD hS hA (fun H locs hP hD hS => ?_)
    refine lv_iload_n hx hb dX9_passes_13 rfl (lv_at hl 1 rfl) ?_
    refine lv_icmp_eq (tgt := 27) hx hb dX9_passes_14 (by decide) (fun k5 => ?_) (fun k5 => ?_)
    · replace hf := ifp k5 hf
      refine lv_aload_n hx hb dX9_passes_27 rfl (lv_at hl 0 rfl) ?_
      refine lv_aload_n hx hb dX9_passes_28 rfl (lv_at hl 0 rfl) ?_
      refine va_get (D := (dC, dI)) (ci := 9) (v := .int c_spot_3) (C := RX9) (T := TX9) (N := 45) hx hb hts (fun w h => gw_mem (inX9 w h)) hown hK.1 hP 0 rfl rfl 14 (by decide) (hts _ (gw_mem wfX9_164)) (fun _ h9 => h9) rfl dX9_passes_29 ?_
      refine lv_iconst (v := 1) hx hb dX9_passes_32 (by decide) ?_
      refine lv_iadd hx hb dX9_passes_33 ?_
      refine lv_topi (fun w6 ew6 => ?_)
      replace hf := nm_at hf ew6
      refine va_put (D := (dC, dI)) (ci := 9) (v := .int w6) (ty := .int) (C := RX9) (T := TX9) (N := 45) hx hb hts (fun w h => gw_mem (inX9 w h)) tyX9 tyX9_ok nmX9 hown hK.1 hP hD hS 0 rfl rfl 14 (by decide) (hts _ (gw_mem wfX9_164)) (fun _ h9 => h9) rfl (by decide +kernel) rfl rfl (Nat.le_of_ble_eq_true rfl) dX9_passes_34 (fun H locs hP hD hS => ?_)
      have hP : va_P (dC, dI) vwCl (mW dA ad c_tape c_taped c_tree c_bonds c_moves c_handMoves c_moved c_days c_likely c_outOf c_rateNow c_pence c_top c_bottom w6 c_textLong c_fault c_number c_numberAt c_figures c_written c_wanted c_found c_drawnNow c_worth c_hold c_way c_acts c_sDay c_sUps c_sUp c_sMarks c_paidAll c_isPlayed c_isOn c_handMoved c_handPaid c_regret c_aside c_other c_states c_kept c_keptLong c_keptAt c_isTaking) H := hP
      have hD : va_D A (mW dA ad c_tape c_taped c_tree c_bonds c_moves c_handMoves c_moved c_days c_likely c_outOf c_rateNow c_pence c_top c_bottom w6 c_textLong c_fault c_number c_numberAt c_figures c_written c_wanted c_found c_drawnNow c_worth c_hold c_way c_acts c_sDay c_sUps c_sUp c_sMarks c_paidAll c_isPlayed c_isOn c_handMoved c_handPaid c_regret c_aside c_other c_states c_kept c_keptLong c_keptAt c_isTaking) := hD
      refine lv_iconst (v := 1) hx hb dX9_passes_37 (by decide) ?_
      cases hf
      exact W.zret (ty := .boolean) hx hb hr rfl (fun t ht _ => gqi hP hD hS ht) hS.2.2 dX9_passes_38
    · replace hf := ifn k5 hf
      refine lv_aload_n hx hb dX9_passes_17 rfl (lv_at hl 0 rfl) ?_
      refine lv_iconst (v := 1) hx hb dX9_passes_18 (by decide) ?_
      refine lv_aload_n hx hb dX9_passes_19 rfl (lv_at hl 0 rfl) ?_
      refine va_get (D := (dC, dI)) (ci := 9) (v := .int c_spot_3) (C := RX9) (T := TX9) (N := 45) hx hb hts (fun w h => gw_mem (inX9 w h)) hown hK.1 hP 0 rfl rfl 14 (by decide) (hts _ (gw_mem wfX9_164)) (fun _ h9 => h9) rfl dX9_passes_20 ?_
      obtain ⟨r7, c_fault_8, v9, hf⟩ := bd2_some hf
      refine gci (va_runV (As := [.int 1, .int c_spot_3]) (rest := []) ⟨hx, hb, hml, hown, hts⟩ (tX9_wrong l dC dI dA ad H.size v9) (ccX9_X9_wrong hts ⟨Nat.le_of_ble_eq_true rfl, Nat.le_of_ble_eq_true rfl⟩) (gPreV (ci := 9) (q0 := 0) hP hK hD rfl rfl) rfl rfl hl.1 rfl (lv_room (Nat.le_of_ble_eq_true rfl)) dX9_passes_23 ⟨Nat.le_of_ble_eq_true rfl, Nat.le_of_ble_eq_true rfl⟩) hD hS hA (fun H locs hP hD hS => ?_)
      obtain ⟨h10, hf⟩ := og_some hf
      cases hf
      exact W.zret (ty := .boolean) hx hb hr (boB_nar h10) (fun t ht _ => gqi hP hD hS ht) hS.2.2 dX9_passes_26
  · replace hf := ifn k1 hf
    refine lv_iconst (v := 0) hx hb dX9_passes_7 (by decide) ?_
    cases hf
    exact W.zret (ty := .boolean) hx hb hr rfl (fun t ht _ => gqi hP hD hS ht) hS.2.2 dX9_passes_8
theorem ccX9_X9_reads {R : Room} {s : State} {args : Array Value} {c0 : Cond} (ht : ∀ w ∈ wq c0, w.before args s = true) (hR : rmX9_reads.frames + 1 ≤ R.frames ∧ 8 + (4 + 11) + rmX9_reads.locals ≤ R.locals) : CallW R s args RX9 RX9 199 yX9_reads cX9_reads 4 (some .boolean) (wq (.code yX9_reads cX9_reads 4 (some .boolean))) rmX9_reads 0 0 3 := gCW 3 ht wcX9_reads wmX9_199 wiX9_reads weX9_reads wnX9 (by decide +kernel) rfl rfl hR
abbrev rmX9_readsCoupon : Room := { frames := 4, cells := 0, slots := 0, locals := 90 }
set_option maxHeartbeats 4000000 in
set_option maxRecDepth 100000 in
theorem tX9_readsCoupon (l : Launch) (dC : Nat → ClassId) (dI : Nat → Nat → Nat) (dA : Nat → ClassId) (ad : Nat → Nat) (sz : Nat) {c_tape : Nat → Int32} {c_taped : Int32} {c_tree : Nat → Int32} {c_bonds : Nat → Int32} {c_moves : Nat → Int32} {c_handMoves : Nat → Int32} {c_moved : Int32} {c_days : Int32} {c_likely : Int32} {c_outOf : Int32} {c_rateNow : Int32} {c_pence : Nat → Int64} {c_top : Int64} {c_bottom : Int64} {c_spot : Int32} {c_textLong : Int32} {c_fault : Int32} {c_number : Int32} {c_numberAt : Int32} {c_figures : Int32} {c_written : Int32} {c_wanted : Int32} {c_found : Int32} {c_drawnNow : Int32} {c_worth : Nat → Int64} {c_hold : Nat → Int64} {c_way : Nat → Int64} {c_acts : Nat → Int32} {c_sDay : Int32} {c_sUps : Int32} {c_sUp : Int32} {c_sMarks : Int32} {c_paidAll : Int64} {c_isPlayed : Int32} {c_isOn : Int32} {c_handMoved : Int32} {c_handPaid : Int64} {c_regret : Int64} {c_aside : Nat → Int32} {c_other : Nat → Int64} {c_states : Int32} {c_kept : Nat → Int32} {c_keptLong : Nat → Int64} {c_keptAt : Int32} {c_isTaking : Int32} {o_c_bonds : Nat → Int32} {o_c_spot : Int32} {o_c_fault : Int32} {o_c_number : Int32} {o_c_numberAt : Int32} {o_c_figures : Int32} (hf : fX9_readsCoupon c_tape c_bonds c_spot c_textLong c_fault c_number c_numberAt c_figures = some (o_c_bonds, o_c_spot, o_c_fault, o_c_number, o_c_numberAt, o_c_figures)) : Met l yX9_readsCoupon (wq (Cond.code yX9_readsCoupon cX9_readsCoupon 4 none)) rmX9_readsCoupon (gP [.ref (ad 0)] (dC, dI) dA (mW dA ad c_tape c_taped c_tree c_bonds c_moves c_handMoves c_moved c_days c_likely c_outOf c_rateNow c_pence c_top c_bottom c_spot c_textLong c_fault c_number c_numberAt c_figures c_written c_wanted c_found c_drawnNow c_worth c_hold c_way c_acts c_sDay c_sUps c_sUp c_sMarks c_paidAll c_isPlayed c_isOn c_handMoved c_handPaid c_regret c_aside c_other c_states c_kept c_keptLong c_keptAt c_isTaking) sz) (gQv (dC, dI) (mW dA ad c_tape c_taped c_tree o_c_bonds c_moves c_handMoves c_moved c_days c_likely c_outOf c_rateNow c_pence c_top c_bottom o_c_spot c_textLong o_c_fault o_c_number o_c_numberAt o_c_figures c_written c_wanted c_found c_drawnNow c_worth c_hold c_way c_acts c_sDay c_sUps c_sUp c_sMarks c_paidAll c_isPlayed c_isOn c_handMoved c_handPaid c_regret c_aside c_other c_states c_kept c_keptLong c_keptAt c_isTaking) (va_A (mW dA ad c_tape c_taped c_tree c_bonds c_moves c_handMoves c_moved c_days c_likely c_outOf c_rateNow c_pence c_top c_bottom c_spot c_textLong c_fault c_number c_numberAt c_figures c_written c_wanted c_found c_drawnNow c_worth c_hold c_way c_acts c_sDay c_sUps c_sUp c_sMarks c_paidAll c_isPlayed c_isOn c_handMoved c_handPaid c_regret c_aside c_other c_states c_kept c_keptLong c_keptAt c_isTaking) sz)) 0 0 (va_A (mW dA ad c_tape c_taped c_tree c_bonds c_moves c_handMoves c_moved c_days c_likely c_outOf c_rateNow c_pence c_top c_bottom c_spot c_textLong c_fault c_number c_numberAt c_figures c_written c_wanted c_found c_drawnNow c_worth c_hold c_way c_acts c_sDay c_sUps c_sUp c_sMarks c_paidAll c_isPlayed c_isOn c_handMoved c_handPaid c_regret c_aside c_other c_states c_kept c_keptLong c_keptAt c_isTaking) sz) := by
  refine Met.ofW (cc := cX9_readsCoupon) (maxL := 4) (ret := none) (by decide) rfl ?_
  intro p e s m args below meth c s₁ B hml hv
  obtain ⟨rfl, hsz, hP, hK, hD0⟩ := hv
  have hx := B.exec
  have hb := B.bytes
  have hr := B.returns
  have hts := atoms_spec (ws := wq (Cond.code yX9_readsCoupon cX9_readsCoupon 4 none)) B.pre
  have hown : s.vm.findClass RX9 = some m.cls := findClass_of_methodNamed B.named
  have hlocks := B.notSynchronized
  clear B
  subst hsz
  have hD := hD0.self (sz := s.heap.size)
  generalize hAe : va_A (mW dA ad c_tape c_taped c_tree c_bonds c_moves c_handMoves c_moved c_days c_likely c_outOf c_rateNow c_pence c_top c_bottom c_spot c_textLong c_fault c_number c_numberAt c_figures c_written c_wanted c_found c_drawnNow c_worth c_hold c_way c_acts c_sDay c_sUps c_sUp c_sMarks c_paidAll c_isPlayed c_isOn c_handMoved c_handPaid c_regret c_aside c_other c_states c_kept c_keptLong c_keptAt c_isTaking) s.heap.size = A at hD ⊢
  have hA : ∀ q : Nat, s.heap.size ≤ q → A q := fun q h => by rw [← hAe]; exact Or.inr h
  clear hAe hD0
  have hS : va_S A s.heap s.heap [] := va_S.rf
  have hl := lv_entry ([.ref (ad 0)]) (n := 4) (Nat.le_of_ble_eq_true rfl)
  rw [lg_entry_eq]
  generalize (lg_sl ([.ref (ad 0)]) ++ List.replicate (4 - (lg_sl ([.ref (ad 0)])).length) Slot.unset).toArray = ls at hl ⊢
  have hl : lv_has ls 4 [(0, .ref (ad 0))] := hl
  change W p l e rmX9_readsCoupon s m ([.ref (ad 0)] : List Value).toArray below meth c s.heap [] 0 0 _ _
  generalize hQ : MQ below (gQv (dC, dI) (mW dA ad c_tape c_taped c_tree o_c_bonds c_moves c_handMoves c_moved c_days c_likely c_outOf c_rateNow c_pence c_top c_bottom o_c_spot c_textLong o_c_fault o_c_number o_c_numberAt o_c_figures c_written c_wanted c_found c_drawnNow c_worth c_hold c_way c_acts c_sDay c_sUps c_sUp c_sMarks c_paidAll c_isPlayed c_isOn c_handMoved c_handPaid c_regret c_aside c_other c_states c_kept c_keptLong c_keptAt c_isTaking) A) ([.ref (ad 0)] : List Value).toArray s 0 0 A = Q
  have LP129 : ∀ (n : Nat) (c_number : Int32) (c_tape : Nat → Int32) (c_taped : Int32) (c_tree : Nat → Int32) (c_moves : Nat → Int32) (c_handMoves : Nat → Int32) (c_moved : Int32) (c_days : Int32) (c_likely : Int32) (c_outOf : Int32) (c_rateNow : Int32) (c_pence : Nat → Int64) (c_top : Int64) (c_bottom : Int64) (c_spot : Int32) (c_textLong : Int32) (c_fault : Int32) (c_numberAt : Int32) (c_figures : Int32) (c_written : Int32) (c_wanted : Int32) (c_found : Int32) (c_drawnNow : Int32) (c_worth : Nat → Int64) (c_hold : Nat → Int64) (c_way : Nat → Int64) (c_acts : Nat → Int32) (c_sDay : Int32) (c_sUps : Int32) (c_sUp : Int32) (c_sMarks : Int32) (c_paidAll : Int64) (c_isPlayed : Int32) (c_isOn : Int32) (c_handMoved : Int32) (c_handPaid : Int64) (c_regret : Int64) (c_aside : Nat → Int32) (c_other : Nat → Int64) (c_states : Int32) (c_kept : Nat → Int32) (c_keptLong : Nat → Int64) (c_keptAt : Int32) (c_isTaking : Int32) (x3 : Int32) (c_bonds : Nat → Int32) (o_c_bonds : Nat → Int32) (H : Heap) (locs : List Loc) (ls : Array Slot), va_P (dC, dI) vwCl (mW dA ad c_tape c_taped c_tree c_bonds c_moves c_handMoves c_moved c_days c_likely c_outOf c_rateNow c_pence c_top c_bottom c_spot c_textLong c_fault c_number c_numberAt c_figures c_written c_wanted c_found c_drawnNow c_worth c_hold c_way c_acts c_sDay c_sUps c_sUp c_sMarks c_paidAll c_isPlayed c_isOn c_handMoved c_handPaid c_regret c_aside c_other c_states c_kept c_keptLong c_keptAt c_isTaking) H → va_D A (mW dA ad c_tape c_taped c_tree c_bonds c_moves c_handMoves c_moved c_days c_likely c_outOf c_rateNow c_pence c_top c_bottom c_spot c_textLong c_fault c_number c_numberAt c_figures c_written c_wanted c_found c_drawnNow c_worth c_hold c_way c_acts c_sDay c_sUps c_sUp c_sMarks c_paidAll c_isPlayed c_isOn c_handMoved c_handPaid c_regret c_aside c_other c_states c_kept c_keptLong c_keptAt c_isTaking) → va_S A s.heap H locs → lpX9_readsCoupon_129 c_number n x3 c_bonds = some (o_c_bonds) → lv_has ls 4 [(0, .ref (ad 0)), (3, .int x3)] → (∀ (H : Heap) (locs : List Loc) (ls : Array Slot), va_P (dC, dI) vwCl (mW dA ad c_tape c_taped c_tree o_c_bonds c_moves c_handMoves c_moved c_days c_likely c_outOf c_rateNow c_pence c_top c_bottom c_spot c_textLong c_fault c_number c_numberAt c_figures c_written c_wanted c_found c_drawnNow c_worth c_hold c_way c_acts c_sDay c_sUps c_sUp c_sMarks c_paidAll c_isPlayed c_isOn c_handMoved c_handPaid c_regret c_aside c_other c_states c_kept c_keptLong c_keptAt c_isTaking) H → va_D A (mW dA ad c_tape c_taped c_tree o_c_bonds c_moves c_handMoves c_moved c_days c_likely c_outOf c_rateNow c_pence c_top c_bottom c_spot c_textLong c_fault c_number c_numberAt c_figures c_written c_wanted c_found c_drawnNow c_worth c_hold c_way c_acts c_sDay c_sUps c_sUp c_sMarks c_paidAll c_isPlayed c_isOn c_handMoved c_handPaid c_regret c_aside c_other c_states c_kept c_keptLong c_keptAt c_isTaking) → va_S A s.heap H locs → lv_has ls 4 [] → W p l e rmX9_readsCoupon s m ([.ref (ad 0)] : List Value).toArray below meth c H locs 0 0 Q (F0 m 153 ls [])) → W p l e rmX9_readsCoupon s m ([.ref (ad 0)] : List Value).toArray below meth c H locs 0 0 Q (F0 m 129 ls []) := by
    intro n
    induction n with
    | zero =>
      intro c_number c_tape c_taped c_tree c_moves c_handMoves c_moved c_days c_likely c_outOf c_rateNow c_pence c_top c_bottom c_spot c_textLong c_fault c_numberAt c_figures c_written c_wanted c_found c_drawnNow c_worth c_hold c_way c_acts c_sDay c_sUps c_sUp c_sMarks c_paidAll c_isPlayed c_isOn c_handMoved c_handPaid c_regret c_aside c_other c_states c_kept c_keptLong c_keptAt c_isTaking x3 c_bonds o_c_bonds H locs ls hP hD hS hf hl hk
      cases hf
    | succ n ih129 =>
      intro c_number c_tape c_taped c_tree c_moves c_handMoves c_moved c_days c_likely c_outOf c_rateNow c_pence c_top c_bottom c_spot c_textLong c_fault c_numberAt c_figures c_written c_wanted c_found c_drawnNow c_worth c_hold c_way c_acts c_sDay c_sUps c_sUp c_sMarks c_paidAll c_isPlayed c_isOn c_handMoved c_handPaid c_regret c_aside c_other c_states c_kept c_keptLong c_keptAt c_isTaking x3 c_bonds o_c_bonds H locs ls hP hD hS hf hl hk
      rw [lpX9_readsCoupon_129.eq_2] at hf
      refine lv_iload_n hx hb dX9_readsCoupon_129 rfl (lv_at hl 1 rfl) ?_
      refine lv_bipush (v := 6) hx hb dX9_readsCoupon_130 (by decide) ?_
      refine lv_icmp_gt (tgt := 153) hx hb dX9_readsCoupon_132 (by decide) (fun k47 => ?_) (fun k47 => ?_)
      · replace hf := ifp k47 hf
        cases hf
        exact hk _ _ _ hP hD hS (lv_sub hl [] rfl)
      · replace hf := ifn k47 hf
        refine lv_aload_n hx hb dX9_readsCoupon_135 rfl (lv_at hl 0 rfl) ?_
        refine lv_iconst (v := 3) hx hb dX9_readsCoupon_136 (by decide) ?_
        refine lv_iconst (v := 2) hx hb dX9_readsCoupon_137 (by decide) ?_
        refine lv_iload_n hx hb dX9_readsCoupon_138 rfl (lv_at hl 1 rfl) ?_
        refine lv_iadd hx hb dX9_readsCoupon_139 ?_
        refine lv_aload_n hx hb dX9_readsCoupon_140 rfl (lv_at hl 0 rfl) ?_
        refine va_get (D := (dC, dI)) (ci := 9) (v := .int c_number) (C := RX9) (T := TX9) (N := 45) hx hb hts (fun w h => gw_mem (inX9 w h)) hown hK.1 hP 0 rfl rfl 17 (by decide) (hts _ (gw_mem wfX9_184)) (fun _ h9 => h9) rfl dX9_readsCoupon_141 ?_
        obtain ⟨c_bonds_48, v49, hf⟩ := bd1_some hf
        refine gcv (va_runV (As := [.int 3, .int (2 + x3), .int c_number]) (rest := []) ⟨hx, hb, hml, hown, hts⟩ (tX9_sets l dC dI dA ad H.size v49) (ccX9_X9_sets hts ⟨Nat.le_of_ble_eq_true rfl, Nat.le_of_ble_eq_true rfl⟩) (gPreV (ci := 9) (q0 := 0) hP hK hD rfl rfl) rfl rfl hl.1 rfl (lv_room (Nat.le_of_ble_eq_true rfl)) dX9_readsCoupon_144 ⟨Nat.le_of_ble_eq_true rfl, Nat.le_of_ble_eq_true rfl⟩) hD hS hA (fun H locs hP hD hS => ?_)
        obtain ⟨w50, ew50⟩ : ∃ y : Int32, y = x3 + 1 := ⟨_, rfl⟩
        replace hf := nm_at hf ew50
        refine lv_iinc (v := w50) (lv' := [(3, .int w50), (0, .ref (ad 0))]) hx hb dX9_readsCoupon_147 hl (k := 1) rfl (by rw [ew50]; rfl) (by decide) rfl (fun ls hl => ?_)
        refine lv_goto (tgt := 129) hx hb dX9_readsCoupon_150 (by decide) ?_
        exact ih129 _ _ _ _ _ _ _ _ _ _ _ _ _ _ _ _ _ _ _ _ _ _ _ _ _ _ _ _ _ _ _ _ _ _ _ _ _ _ _ _ _ _ _ _ _ _ _ _ _ _ hP hD hS hf (lv_sub hl [1, 0] rfl) hk
  subst hQ
  unfold fX9_readsCoupon at hf
  refine lv_aload_n hx hb dX9_readsCoupon_0 rfl (lv_at hl 0 rfl) ?_
  refine lv_bipush (v := 7) hx hb dX9_readsCoupon_1 (by decide) ?_
  obtain ⟨r1, c_spot_2, c_fault_3, c_number_4, c_numberAt_5, c_figures_6, v7, hf⟩ := bd6_some hf
  refine gci (va_runV (As := [.int 7]) (rest := []) ⟨hx, hb, hml, hown, hts⟩ (tX9_counts l dC dI dA ad s.heap.size v7) (ccX9_X9_counts hts ⟨Nat.le_of_ble_eq_true rfl, Nat.le_of_ble_eq_true rfl⟩) (gPreV (ci := 9) (q0 := 0) hP hK hD rfl rfl) rfl rfl hl.1 rfl (lv_room (Nat.le_of_ble_eq_true rfl)) dX9_readsCoupon_3 ⟨Nat.le_of_ble_eq_true rfl, Nat.le_of_ble_eq_true rfl⟩) hD hS hA (fun H locs hP hD hS => ?_)
  refine lv_if_ne (tgt := 10) hx hb dX9_readsCoupon_6 (by decide) (fun k8 => ?_) (fun k8 => ?_)
  · replace hf := ifn k8 hf
    refine lv_aload_n hx hb dX9_readsCoupon_10 rfl (lv_at hl 0 rfl) ?_
    refine va_get (D := (dC, dI)) (ci := 9) (v := .int c_figures_6) (C := RX9) (T := TX9) (N := 45) hx hb hts (fun w h => gw_mem (inX9 w h)) hown hK.1 hP 0 rfl rfl 19 (by decide) (hts _ (gw_mem wfX9_187)) (fun _ h9 => h9) rfl dX9_readsCoupon_11 ?_
    refine lv_iconst (v := 1) hx hb dX9_readsCoupon_14 (by decide) ?_
    obtain ⟨j10, c_spot_11, v13, hf⟩ := bd2_some hf
    have J12 : ∀ (H : Heap) (locs : List Loc) (ls : Array Slot), va_P (dC, dI) vwCl (mW dA ad c_tape c_taped c_tree c_bonds c_moves c_handMoves c_moved c_days c_likely c_outOf c_rateNow c_pence c_top c_bottom c_spot_11 c_textLong c_fault_3 c_number_4 c_numberAt_5 c_figures_6 c_written c_wanted c_found c_drawnNow c_worth c_hold c_way c_acts c_sDay c_sUps c_sUp c_sMarks c_paidAll c_isPlayed c_isOn c_handMoved c_handPaid c_regret c_aside c_other c_states c_kept c_keptLong c_keptAt c_isTaking) H → va_D A (mW dA ad c_tape c_taped c_tree c_bonds c_moves c_handMoves c_moved c_days c_likely c_outOf c_rateNow c_pence c_top c_bottom c_spot_11 c_textLong c_fault_3 c_number_4 c_numberAt_5 c_figures_6 c_written c_wanted c_found c_drawnNow c_worth c_hold c_way c_acts c_sDay c_sUps c_sUp c_sMarks c_paidAll c_isPlayed c_isOn c_handMoved c_handPaid c_regret c_aside c_other c_states c_kept c_keptLong c_keptAt c_isTaking) → va_S A s.heap H locs → lv_has ls 4 [(0, .ref (ad 0))] → W p l e rmX9_readsCoupon s m ([.ref (ad 0)] : List Value).toArray below meth c H locs 0 0 (MQ below (gQv (dC, dI) (mW dA ad c_tape c_taped c_tree o_c_bonds c_moves c_handMoves c_moved c_days c_likely c_outOf c_rateNow c_pence c_top c_bottom o_c_spot c_textLong o_c_fault o_c_number o_c_numberAt o_c_figures c_written c_wanted c_found c_drawnNow c_worth c_hold c_way c_acts c_sDay c_sUps c_sUp c_sMarks c_paidAll c_isPlayed c_isOn c_handMoved c_handPaid c_regret c_aside c_other c_states c_kept c_keptLong c_keptAt c_isTaking) A) ([.ref (ad 0)] : List Value).toArray s 0 0 A) (F0 m 32 ls [.int j10]) := by
      intro H locs ls hP hD hS hl
      refine lv_istore_n (lv' := [(1, .int j10), (0, .ref (ad 0))]) hx hb dX9_readsCoupon_32 rfl hl (by decide) rfl (fun ls hl => ?_)
      refine lv_aload_n hx hb dX9_readsCoupon_33 rfl (lv_at hl 1 rfl) ?_
      refine va_get (D := (dC, dI)) (ci := 9) (v := .int c_number_4) (C := RX9) (T := TX9) (N := 45) hx hb hts (fun w h => gw_mem (inX9 w h)) hown hK.1 hP 0 rfl rfl 17 (by decide) (hts _ (gw_mem wfX9_184)) (fun _ h9 => h9) rfl dX9_readsCoupon_34 ?_
      refine lv_istore_n (lv' := [(2, .int c_number_4), (1, .int j10), (0, .ref (ad 0))]) hx hb dX9_readsCoupon_37 rfl hl (by decide) rfl (fun ls hl => ?_)
      refine lv_iload_n hx hb dX9_readsCoupon_38 rfl (lv_at hl 1 rfl) ?_
      refine lv_if_eq (tgt := 101) hx hb dX9_readsCoupon_39 (by decide) (fun k14 => ?_) (fun k14 => ?_)
      · replace hf := ifp k14 hf
        refine lv_aload_n hx hb dX9_readsCoupon_101 rfl (lv_at hl 2 rfl) ?_
        refine va_get (D := (dC, dI)) (ci := 9) (v := .int c_number_4) (C := RX9) (T := TX9) (N := 45) hx hb hts (fun w h => gw_mem (inX9 w h)) hown hK.1 hP 0 rfl rfl 17 (by decide) (hts _ (gw_mem wfX9_184)) (fun _ h9 => h9) rfl dX9_readsCoupon_102 ?_
        refine lv_i2l hx hb dX9_readsCoupon_105 rfl ?_
        refine lv_lconst (v := 0) hx hb dX9_readsCoupon_106 rfl ?_
        refine lv_ldc2 (v := 1000) hx hb hown (hts _ (gw_mem wkX9_74)) dX9_readsCoupon_107 ?_
        obtain ⟨r15, v16, hf⟩ := bd1_some hf
        refine gci0 (va_runS (As := [.long (Int32.toInt64 c_number_4), .long 0, .long 1000]) (rest := []) ⟨hx, hb, hml, hown, hts⟩ (tX9_in l dC dI dA H.size v16) (ccX9_X9_in hts ⟨Nat.le_of_ble_eq_true rfl, Nat.le_of_ble_eq_true rfl⟩) (gPreS0 hK) rfl rfl hl.1 rfl (lv_room (Nat.le_of_ble_eq_true rfl)) dX9_readsCoupon_110 ⟨Nat.le_of_ble_eq_true rfl, Nat.le_of_ble_eq_true rfl⟩) hP hS hA (fun H locs hP hS => ?_)
        refine lv_if_ne (tgt := 127) hx hb dX9_readsCoupon_113 (by decide) (fun k17 => ?_) (fun k17 => ?_)
        · replace hf := ifn k17 hf
          refine lv_iconst (v := 1) hx hb dX9_readsCoupon_127 (by decide) ?_
          refine lv_istore_n (lv' := [(3, .int 1), (2, .int c_number_4), (1, .int j10), (0, .ref (ad 0))]) hx hb dX9_readsCoupon_128 rfl hl (by decide) rfl (fun ls hl => ?_)
          obtain ⟨c_bonds_18, v19, hf⟩ := bd1_some hf
          refine LP129 FU _ _ _ _ _ _ _ _ _ _ _ _ _ _ _ _ _ _ _ _ _ _ _ _ _ _ _ _ _ _ _ _ _ _ _ _ _ _ _ _ _ _ _ _ _ _ _ _ _ _ hP hD hS v19 (lv_sub hl [3, 0] rfl) (fun H locs ls hP hD hS hl => ?_)
          cases hf
          exact W.vret hx hb hr (fun t ht _ => gqv hP hD hS ht) hS.2.2 dX9_readsCoupon_153
        · replace hf := ifp k17 hf
          refine lv_aload_n hx hb dX9_readsCoupon_116 rfl (lv_at hl 2 rfl) ?_
          refine lv_iconst (v := 3) hx hb dX9_readsCoupon_117 (by decide) ?_
          refine lv_aload_n hx hb dX9_readsCoupon_118 rfl (lv_at hl 2 rfl) ?_
          refine va_get (D := (dC, dI)) (ci := 9) (v := .int c_numberAt_5) (C := RX9) (T := TX9) (N := 45) hx hb hts (fun w h => gw_mem (inX9 w h)) hown hK.1 hP 0 rfl rfl 18 (by decide) (hts _ (gw_mem wfX9_181)) (fun _ h9 => h9) rfl dX9_readsCoupon_119 ?_
          obtain ⟨r20, c_fault_21, v22, hf⟩ := bd2_some hf
          refine gci (va_runV (As := [.int 3, .int c_numberAt_5]) (rest := []) ⟨hx, hb, hml, hown, hts⟩ (tX9_wrong l dC dI dA ad H.size v22) (ccX9_X9_wrong hts ⟨Nat.le_of_ble_eq_true rfl, Nat.le_of_ble_eq_true rfl⟩) (gPreV (ci := 9) (q0 := 0) hP hK hD rfl rfl) rfl rfl hl.1 rfl (lv_room (Nat.le_of_ble_eq_true rfl)) dX9_readsCoupon_122 ⟨Nat.le_of_ble_eq_true rfl, Nat.le_of_ble_eq_true rfl⟩) hD hS hA (fun H locs hP hD hS => ?_)
          refine lv_pop hx hb dX9_readsCoupon_125 rfl ?_
          cases hf
          exact W.vret hx hb hr (fun t ht _ => gqv hP hD hS ht) hS.2.2 dX9_readsCoupon_126
      · replace hf := ifn k14 hf
        refine lv_iload_n hx hb dX9_readsCoupon_42 rfl (lv_at hl 0 rfl) ?_
        refine lv_i2l hx hb dX9_readsCoupon_43 rfl ?_
        refine lv_lconst (v := 1) hx hb dX9_readsCoupon_44 rfl ?_
        refine lv_ldc2 (v := 6) hx hb hown (hts _ (gw_mem wkX9_72)) dX9_readsCoupon_45 ?_
        obtain ⟨r23, v24, hf⟩ := bd1_some hf
        refine gci0 (va_runS (As := [.long (Int32.toInt64 c_number_4), .long 1, .long 6]) (rest := []) ⟨hx, hb, hml, hown, hts⟩ (tX9_in l dC dI dA H.size v24) (ccX9_X9_in hts ⟨Nat.le_of_ble_eq_true rfl, Nat.le_of_ble_eq_true rfl⟩) (gPreS0 hK) rfl rfl hl.1 rfl (lv_room (Nat.le_of_ble_eq_true rfl)) dX9_readsCoupon_48 ⟨Nat.le_of_ble_eq_true rfl, Nat.le_of_ble_eq_true rfl⟩) hP hS hA (fun H locs hP hS => ?_)
        refine lv_if_ne (tgt := 65) hx hb dX9_readsCoupon_51 (by decide) (fun k25 => ?_) (fun k25 => ?_)
        · replace hf := ifn k25 hf
          refine lv_aload_n hx hb dX9_readsCoupon_65 rfl (lv_at hl 2 rfl) ?_
          refine lv_aload_n hx hb dX9_readsCoupon_66 rfl (lv_at hl 2 rfl) ?_
          refine va_get (D := (dC, dI)) (ci := 9) (v := .int c_spot_11) (C := RX9) (T := TX9) (N := 45) hx hb hts (fun w h => gw_mem (inX9 w h)) hown hK.1 hP 0 rfl rfl 14 (by decide) (hts _ (gw_mem wfX9_164)) (fun _ h9 => h9) rfl dX9_readsCoupon_67 ?_
          refine lv_iconst (v := 1) hx hb dX9_readsCoupon_70 (by decide) ?_
          refine lv_iadd hx hb dX9_readsCoupon_71 ?_
          refine lv_topi (fun w26 ew26 => ?_)
          replace hf := nm_at hf ew26
          refine va_put (D := (dC, dI)) (ci := 9) (v := .int w26) (ty := .int) (C := RX9) (T := TX9) (N := 45) hx hb hts (fun w h => gw_mem (inX9 w h)) tyX9 tyX9_ok nmX9 hown hK.1 hP hD hS 0 rfl rfl 14 (by decide) (hts _ (gw_mem wfX9_164)) (fun _ h9 => h9) rfl (by decide +kernel) rfl rfl (Nat.le_of_ble_eq_true rfl) dX9_readsCoupon_72 (fun H locs hP hD hS => ?_)
          have hP : va_P (dC, dI) vwCl (mW dA ad c_tape c_taped c_tree c_bonds c_moves c_handMoves c_moved c_days c_likely c_outOf c_rateNow c_pence c_top c_bottom w26 c_textLong c_fault_3 c_number_4 c_numberAt_5 c_figures_6 c_written c_wanted c_found c_drawnNow c_worth c_hold c_way c_acts c_sDay c_sUps c_sUp c_sMarks c_paidAll c_isPlayed c_isOn c_handMoved c_handPaid c_regret c_aside c_other c_states c_kept c_keptLong c_keptAt c_isTaking) H := hP
          have hD : va_D A (mW dA ad c_tape c_taped c_tree c_bonds c_moves c_handMoves c_moved c_days c_likely c_outOf c_rateNow c_pence c_top c_bottom w26 c_textLong c_fault_3 c_number_4 c_numberAt_5 c_figures_6 c_written c_wanted c_found c_drawnNow c_worth c_hold c_way c_acts c_sDay c_sUps c_sUp c_sMarks c_paidAll c_isPlayed c_isOn c_handMoved c_handPaid c_regret c_aside c_other c_states c_kept c_keptLong c_keptAt c_isTaking) := hD
          refine lv_aload_n hx hb dX9_readsCoupon_75 rfl (lv_at hl 2 rfl) ?_
          refine lv_bipush (v := 7) hx hb dX9_readsCoupon_76 (by decide) ?_
          refine lv_iconst (v := 0) hx hb dX9_readsCoupon_78 (by decide) ?_
          refine lv_sipush (v := 1000) hx hb dX9_readsCoupon_79 (by decide) ?_
          obtain ⟨r27, c_spot_28, c_fault_29, c_number_30, c_numberAt_31, c_figures_32, v33, hf⟩ := bd6_some hf
          refine gci (va_runV (As := [.int 7, .int 0, .int 1000]) (rest := []) ⟨hx, hb, hml, hown, hts⟩ (tX9_reads l dC dI dA ad H.size v33) (ccX9_X9_reads hts ⟨Nat.le_of_ble_eq_true rfl, Nat.le_of_ble_eq_true rfl⟩) (gPreV (ci := 9) (q0 := 0) hP hK hD rfl rfl) rfl rfl hl.1 rfl (lv_room (Nat.le_of_ble_eq_true rfl)) dX9_readsCoupon_82 ⟨Nat.le_of_ble_eq_true rfl, Nat.le_of_ble_eq_true rfl⟩) hD hS hA (fun H locs hP hD hS => ?_)
          obtain ⟨c_bonds_35, v37, hf⟩ := bd1_some hf
          have J36 : ∀ (H : Heap) (locs : List Loc) (ls : Array Slot), va_P (dC, dI) vwCl (mW dA ad c_tape c_taped c_tree c_bonds_35 c_moves c_handMoves c_moved c_days c_likely c_outOf c_rateNow c_pence c_top c_bottom c_spot_28 c_textLong c_fault_29 c_number_30 c_numberAt_31 c_figures_32 c_written c_wanted c_found c_drawnNow c_worth c_hold c_way c_acts c_sDay c_sUps c_sUp c_sMarks c_paidAll c_isPlayed c_isOn c_handMoved c_handPaid c_regret c_aside c_other c_states c_kept c_keptLong c_keptAt c_isTaking) H → va_D A (mW dA ad c_tape c_taped c_tree c_bonds_35 c_moves c_handMoves c_moved c_days c_likely c_outOf c_rateNow c_pence c_top c_bottom c_spot_28 c_textLong c_fault_29 c_number_30 c_numberAt_31 c_figures_32 c_written c_wanted c_found c_drawnNow c_worth c_hold c_way c_acts c_sDay c_sUps c_sUp c_sMarks c_paidAll c_isPlayed c_isOn c_handMoved c_handPaid c_regret c_aside c_other c_states c_kept c_keptLong c_keptAt c_isTaking) → va_S A s.heap H locs → lv_has ls 4 [] → W p l e rmX9_readsCoupon s m ([.ref (ad 0)] : List Value).toArray below meth c H locs 0 0 (MQ below (gQv (dC, dI) (mW dA ad c_tape c_taped c_tree o_c_bonds c_moves c_handMoves c_moved c_days c_likely c_outOf c_rateNow c_pence c_top c_bottom o_c_spot c_textLong o_c_fault o_c_number o_c_numberAt o_c_figures c_written c_wanted c_found c_drawnNow c_worth c_hold c_way c_acts c_sDay c_sUps c_sUp c_sMarks c_paidAll c_isPlayed c_isOn c_handMoved c_handPaid c_regret c_aside c_other c_states c_kept c_keptLong c_keptAt c_isTaking) A) ([.ref (ad 0)] : List Value).toArray s 0 0 A) (F0 m 100 ls []) := by
            intro H locs ls hP hD hS hl
            cases hf
            exact W.vret hx hb hr (fun t ht _ => gqv hP hD hS ht) hS.2.2 dX9_readsCoupon_100
          replace hf := v37
          clear v37
          refine lv_if_eq (tgt := 100) hx hb dX9_readsCoupon_85 (by decide) (fun k34 => ?_) (fun k34 => ?_)
          · replace hf := ifp k34 hf
            cases hf
            exact J36 _ _ _ hP hD hS (lv_sub hl [] rfl)
          · replace hf := ifn k34 hf
            refine lv_aload_n hx hb dX9_readsCoupon_88 rfl (lv_at hl 2 rfl) ?_
            refine lv_iconst (v := 3) hx hb dX9_readsCoupon_89 (by decide) ?_
            refine lv_iconst (v := 2) hx hb dX9_readsCoupon_90 (by decide) ?_
            refine lv_iload_n hx hb dX9_readsCoupon_91 rfl (lv_at hl 0 rfl) ?_
            refine lv_iadd hx hb dX9_readsCoupon_92 ?_
            refine lv_aload_n hx hb dX9_readsCoupon_93 rfl (lv_at hl 2 rfl) ?_
            refine va_get (D := (dC, dI)) (ci := 9) (v := .int c_number_30) (C := RX9) (T := TX9) (N := 45) hx hb hts (fun w h => gw_mem (inX9 w h)) hown hK.1 hP 0 rfl rfl 17 (by decide) (hts _ (gw_mem wfX9_184)) (fun _ h9 => h9) rfl dX9_readsCoupon_94 ?_
            obtain ⟨c_bonds_38, v39, hf⟩ := bd1_some hf
            refine gcv (va_runV (As := [.int 3, .int (2 + c_number_4), .int c_number_30]) (rest := []) ⟨hx, hb, hml, hown, hts⟩ (tX9_sets l dC dI dA ad H.size v39) (ccX9_X9_sets hts ⟨Nat.le_of_ble_eq_true rfl, Nat.le_of_ble_eq_true rfl⟩) (gPreV (ci := 9) (q0 := 0) hP hK hD rfl rfl) rfl rfl hl.1 rfl (lv_room (Nat.le_of_ble_eq_true rfl)) dX9_readsCoupon_97 ⟨Nat.le_of_ble_eq_true rfl, Nat.le_of_ble_eq_true rfl⟩) hD hS hA (fun H locs hP hD hS => ?_)
            cases hf
            exact J36 _ _ _ hP hD hS (lv_sub hl [] rfl)
        · replace hf := ifp k25 hf
          refine lv_aload_n hx hb dX9_readsCoupon_54 rfl (lv_at hl 2 rfl) ?_
          refine lv_iconst (v := 3) hx hb dX9_readsCoupon_55 (by decide) ?_
          refine lv_aload_n hx hb dX9_readsCoupon_56 rfl (lv_at hl 2 rfl) ?_
          refine va_get (D := (dC, dI)) (ci := 9) (v := .int c_numberAt_5) (C := RX9) (T := TX9) (N := 45) hx hb hts (fun w h => gw_mem (inX9 w h)) hown hK.1 hP 0 rfl rfl 18 (by decide) (hts _ (gw_mem wfX9_181)) (fun _ h9 => h9) rfl dX9_readsCoupon_57 ?_
          obtain ⟨r40, c_fault_41, v42, hf⟩ := bd2_some hf
          refine gci (va_runV (As := [.int 3, .int c_numberAt_5]) (rest := []) ⟨hx, hb, hml, hown, hts⟩ (tX9_wrong l dC dI dA ad H.size v42) (ccX9_X9_wrong hts ⟨Nat.le_of_ble_eq_true rfl, Nat.le_of_ble_eq_true rfl⟩) (gPreV (ci := 9) (q0 := 0) hP hK hD rfl rfl) rfl rfl hl.1 rfl (lv_room (Nat.le_of_ble_eq_true rfl)) dX9_readsCoupon_60 ⟨Nat.le_of_ble_eq_true rfl, Nat.le_of_ble_eq_true rfl⟩) hD hS hA (fun H locs hP hD hS => ?_)
          refine lv_pop hx hb dX9_readsCoupon_63 rfl ?_
          cases hf
          exact W.vret hx hb hr (fun t ht _ => gqv hP hD hS ht) hS.2.2 dX9_readsCoupon_64
    replace hf := v13
    clear v13
    refine lv_icmp_ne (tgt := 31) hx hb dX9_readsCoupon_15 (by decide) (fun k9 => ?_) (fun k9 => ?_)
    · replace hf := ifn k9 hf
      refine lv_iconst (v := 0) hx hb dX9_readsCoupon_31 (by decide) ?_
      cases hf
      exact J12 _ _ _ hP hD hS (lv_sub hl [0] rfl)
    · replace hf := ifp k9 hf
      refine lv_aload_n hx hb dX9_readsCoupon_18 rfl (lv_at hl 0 rfl) ?_
      obtain ⟨r43, c_spot_44, v45, hf⟩ := bd2_some hf
      refine gci (va_runV (As := []) (rest := []) ⟨hx, hb, hml, hown, hts⟩ (tX9_see l dC dI dA ad H.size v45) (ccX9_X9_see hts ⟨Nat.le_of_ble_eq_true rfl, Nat.le_of_ble_eq_true rfl⟩) (gPreV (ci := 9) (q0 := 0) hP hK hD rfl rfl) rfl rfl hl.1 rfl (lv_room (Nat.le_of_ble_eq_true rfl)) dX9_readsCoupon_19 ⟨Nat.le_of_ble_eq_true rfl, Nat.le_of_ble_eq_true rfl⟩) hD hS hA (fun H locs hP hD hS => ?_)
      refine lv_bipush (v := 58) hx hb dX9_readsCoupon_22 (by decide) ?_
      refine lv_icmp_ne (tgt := 31) hx hb dX9_readsCoupon_24 (by decide) (fun k46 => ?_) (fun k46 => ?_)
      · replace hf := ifn k46 hf
        refine lv_iconst (v := 0) hx hb dX9_readsCoupon_31 (by decide) ?_
        cases hf
        exact J12 _ _ _ hP hD hS (lv_sub hl [0] rfl)
      · replace hf := ifp k46 hf
        refine lv_iconst (v := 1) hx hb dX9_readsCoupon_27 (by decide) ?_
        refine lv_goto (tgt := 32) hx hb dX9_readsCoupon_28 (by decide) ?_
        cases hf
        exact J12 _ _ _ hP hD hS (lv_sub hl [0] rfl)
  · replace hf := ifp k8 hf
    cases hf
    exact W.vret hx hb hr (fun t ht _ => gqv hP hD hS ht) hS.2.2 dX9_readsCoupon_9
theorem ccX9_X9_passes {R : Room} {s : State} {args : Array Value} {c0 : Cond} (ht : ∀ w ∈ wq c0, w.before args s = true) (hR : rmX9_passes.frames + 1 ≤ R.frames ∧ 8 + (2 + 11) + rmX9_passes.locals ≤ R.locals) : CallW R s args RX9 RX9 203 yX9_passes cX9_passes 2 (some .boolean) (wq (.code yX9_passes cX9_passes 2 (some .boolean))) rmX9_passes 0 0 1 := gCW 1 ht wcX9_passes wmX9_203 wiX9_passes weX9_passes wnX9 (by decide +kernel) rfl rfl hR
abbrev rmX9_readsPrice : Room := { frames := 4, cells := 0, slots := 0, locals := 90 }
set_option maxHeartbeats 4000000 in
set_option maxRecDepth 100000 in
theorem tX9_readsPrice (l : Launch) (dC : Nat → ClassId) (dI : Nat → Nat → Nat) (dA : Nat → ClassId) (ad : Nat → Nat) (sz : Nat) {p1 : Int32} {c_tape : Nat → Int32} {c_taped : Int32} {c_tree : Nat → Int32} {c_bonds : Nat → Int32} {c_moves : Nat → Int32} {c_handMoves : Nat → Int32} {c_moved : Int32} {c_days : Int32} {c_likely : Int32} {c_outOf : Int32} {c_rateNow : Int32} {c_pence : Nat → Int64} {c_top : Int64} {c_bottom : Int64} {c_spot : Int32} {c_textLong : Int32} {c_fault : Int32} {c_number : Int32} {c_numberAt : Int32} {c_figures : Int32} {c_written : Int32} {c_wanted : Int32} {c_found : Int32} {c_drawnNow : Int32} {c_worth : Nat → Int64} {c_hold : Nat → Int64} {c_way : Nat → Int64} {c_acts : Nat → Int32} {c_sDay : Int32} {c_sUps : Int32} {c_sUp : Int32} {c_sMarks : Int32} {c_paidAll : Int64} {c_isPlayed : Int32} {c_isOn : Int32} {c_handMoved : Int32} {c_handPaid : Int64} {c_regret : Int64} {c_aside : Nat → Int32} {c_other : Nat → Int64} {c_states : Int32} {c_kept : Nat → Int32} {c_keptLong : Nat → Int64} {c_keptAt : Int32} {c_isTaking : Int32} {o_c_bonds : Nat → Int32} {o_c_spot : Int32} {o_c_fault : Int32} {o_c_number : Int32} {o_c_numberAt : Int32} {o_c_figures : Int32} (hf : fX9_readsPrice p1 c_tape c_bonds c_spot c_textLong c_fault c_number c_numberAt c_figures = some (o_c_bonds, o_c_spot, o_c_fault, o_c_number, o_c_numberAt, o_c_figures)) : Met l yX9_readsPrice (wq (Cond.code yX9_readsPrice cX9_readsPrice 3 none)) rmX9_readsPrice (gP [.ref (ad 0), .int p1] (dC, dI) dA (mW dA ad c_tape c_taped c_tree c_bonds c_moves c_handMoves c_moved c_days c_likely c_outOf c_rateNow c_pence c_top c_bottom c_spot c_textLong c_fault c_number c_numberAt c_figures c_written c_wanted c_found c_drawnNow c_worth c_hold c_way c_acts c_sDay c_sUps c_sUp c_sMarks c_paidAll c_isPlayed c_isOn c_handMoved c_handPaid c_regret c_aside c_other c_states c_kept c_keptLong c_keptAt c_isTaking) sz) (gQv (dC, dI) (mW dA ad c_tape c_taped c_tree o_c_bonds c_moves c_handMoves c_moved c_days c_likely c_outOf c_rateNow c_pence c_top c_bottom o_c_spot c_textLong o_c_fault o_c_number o_c_numberAt o_c_figures c_written c_wanted c_found c_drawnNow c_worth c_hold c_way c_acts c_sDay c_sUps c_sUp c_sMarks c_paidAll c_isPlayed c_isOn c_handMoved c_handPaid c_regret c_aside c_other c_states c_kept c_keptLong c_keptAt c_isTaking) (va_A (mW dA ad c_tape c_taped c_tree c_bonds c_moves c_handMoves c_moved c_days c_likely c_outOf c_rateNow c_pence c_top c_bottom c_spot c_textLong c_fault c_number c_numberAt c_figures c_written c_wanted c_found c_drawnNow c_worth c_hold c_way c_acts c_sDay c_sUps c_sUp c_sMarks c_paidAll c_isPlayed c_isOn c_handMoved c_handPaid c_regret c_aside c_other c_states c_kept c_keptLong c_keptAt c_isTaking) sz)) 0 0 (va_A (mW dA ad c_tape c_taped c_tree c_bonds c_moves c_handMoves c_moved c_days c_likely c_outOf c_rateNow c_pence c_top c_bottom c_spot c_textLong c_fault c_number c_numberAt c_figures c_written c_wanted c_found c_drawnNow c_worth c_hold c_way c_acts c_sDay c_sUps c_sUp c_sMarks c_paidAll c_isPlayed c_isOn c_handMoved c_handPaid c_regret c_aside c_other c_states c_kept c_keptLong c_keptAt c_isTaking) sz) := by
  refine Met.ofW (cc := cX9_readsPrice) (maxL := 3) (ret := none) (by decide) rfl ?_
  intro p e s m args below meth c s₁ B hml hv
  obtain ⟨rfl, hsz, hP, hK, hD0⟩ := hv
  have hx := B.exec
  have hb := B.bytes
  have hr := B.returns
  have hts := atoms_spec (ws := wq (Cond.code yX9_readsPrice cX9_readsPrice 3 none)) B.pre
  have hown : s.vm.findClass RX9 = some m.cls := findClass_of_methodNamed B.named
  have hlocks := B.notSynchronized
  clear B
  subst hsz
  have hD := hD0.self (sz := s.heap.size)
  generalize hAe : va_A (mW dA ad c_tape c_taped c_tree c_bonds c_moves c_handMoves c_moved c_days c_likely c_outOf c_rateNow c_pence c_top c_bottom c_spot c_textLong c_fault c_number c_numberAt c_figures c_written c_wanted c_found c_drawnNow c_worth c_hold c_way c_acts c_sDay c_sUps c_sUp c_sMarks c_paidAll c_isPlayed c_isOn c_handMoved c_handPaid c_regret c_aside c_other c_states c_kept c_keptLong c_keptAt c_isTaking) s.heap.size = A at hD ⊢
  have hA : ∀ q : Nat, s.heap.size ≤ q → A q := fun q h => by rw [← hAe]; exact Or.inr h
  clear hAe hD0
  have hS : va_S A s.heap s.heap [] := va_S.rf
  have hl := lv_entry ([.ref (ad 0), .int p1]) (n := 3) (Nat.le_of_ble_eq_true rfl)
  rw [lg_entry_eq]
  generalize (lg_sl ([.ref (ad 0), .int p1]) ++ List.replicate (3 - (lg_sl ([.ref (ad 0), .int p1])).length) Slot.unset).toArray = ls at hl ⊢
  have hl : lv_has ls 3 [(0, .ref (ad 0)), (1, .int p1)] := hl
  change W p l e rmX9_readsPrice s m ([.ref (ad 0), .int p1] : List Value).toArray below meth c s.heap [] 0 0 _ _
  unfold fX9_readsPrice at hf
  refine lv_aload_n hx hb dX9_readsPrice_0 rfl (lv_at hl 0 rfl) ?_
  refine lv_iconst (v := 1) hx hb dX9_readsPrice_1 (by decide) ?_
  refine lv_iconst (v := 0) hx hb dX9_readsPrice_2 (by decide) ?_
  refine lv_iconst (v := 5) hx hb dX9_readsPrice_3 (by decide) ?_
  obtain ⟨r1, c_spot_2, c_fault_3, c_number_4, c_numberAt_5, c_figures_6, v7, hf⟩ := bd6_some hf
  refine gci (va_runV (As := [.int 1, .int 0, .int 5]) (rest := []) ⟨hx, hb, hml, hown, hts⟩ (tX9_reads l dC dI dA ad s.heap.size v7) (ccX9_X9_reads hts ⟨Nat.le_of_ble_eq_true rfl, Nat.le_of_ble_eq_true rfl⟩) (gPreV (ci := 9) (q0 := 0) hP hK hD rfl rfl) rfl rfl hl.1 rfl (lv_room (Nat.le_of_ble_eq_true rfl)) dX9_readsPrice_4 ⟨Nat.le_of_ble_eq_true rfl, Nat.le_of_ble_eq_true rfl⟩) hD hS hA (fun H locs hP hD hS => ?_)
  refine lv_if_ne (tgt := 11) hx hb dX9_readsPrice_7 (by decide) (fun k8 => ?_) (fun k8 => ?_)
  · replace hf := ifn k8 hf
    refine lv_aload_n hx hb dX9_readsPrice_11 rfl (lv_at hl 0 rfl) ?_
    refine va_get (D := (dC, dI)) (ci := 9) (v := .int c_number_4) (C := RX9) (T := TX9) (N := 45) hx hb hts (fun w h => gw_mem (inX9 w h)) hown hK.1 hP 0 rfl rfl 17 (by decide) (hts _ (gw_mem wfX9_184)) (fun _ h9 => h9) rfl dX9_readsPrice_12 ?_
    refine lv_istore_n (lv' := [(2, .int c_number_4), (0, .ref (ad 0)), (1, .int p1)]) hx hb dX9_readsPrice_15 rfl hl (by decide) rfl (fun ls hl => ?_)
    refine lv_aload_n hx hb dX9_readsPrice_16 rfl (lv_at hl 1 rfl) ?_
    refine lv_bipush (v := 58) hx hb dX9_readsPrice_17 (by decide) ?_
    obtain ⟨r9, c_spot_10, c_fault_11, v12, hf⟩ := bd3_some hf
    refine gci (va_runV (As := [.int 58]) (rest := []) ⟨hx, hb, hml, hown, hts⟩ (tX9_passes l dC dI dA ad H.size v12) (ccX9_X9_passes hts ⟨Nat.le_of_ble_eq_true rfl, Nat.le_of_ble_eq_true rfl⟩) (gPreV (ci := 9) (q0 := 0) hP hK hD rfl rfl) rfl rfl hl.1 rfl (lv_room (Nat.le_of_ble_eq_true rfl)) dX9_readsPrice_19 ⟨Nat.le_of_ble_eq_true rfl, Nat.le_of_ble_eq_true rfl⟩) hD hS hA (fun H locs hP hD hS => ?_)
    refine lv_if_ne (tgt := 26) hx hb dX9_readsPrice_22 (by decide) (fun k13 => ?_) (fun k13 => ?_)
    · replace hf := ifn k13 hf
      refine lv_aload_n hx hb dX9_readsPrice_26 rfl (lv_at hl 1 rfl) ?_
      obtain ⟨r14, c_spot_15, v16, hf⟩ := bd2_some hf
      refine gci (va_runV (As := []) (rest := []) ⟨hx, hb, hml, hown, hts⟩ (tX9_see l dC dI dA ad H.size v16) (ccX9_X9_see hts ⟨Nat.le_of_ble_eq_true rfl, Nat.le_of_ble_eq_true rfl⟩) (gPreV (ci := 9) (q0 := 0) hP hK hD rfl rfl) rfl rfl hl.1 rfl (lv_room (Nat.le_of_ble_eq_true rfl)) dX9_readsPrice_27 ⟨Nat.le_of_ble_eq_true rfl, Nat.le_of_ble_eq_true rfl⟩) hD hS hA (fun H locs hP hD hS => ?_)
      refine lv_bipush (v := 45) hx hb dX9_readsPrice_30 (by decide) ?_
      obtain ⟨c_bonds_18, c_spot_19, c_fault_20, c_number_21, c_numberAt_22, c_figures_23, v25, hf⟩ := bd6_some hf
      have J24 : ∀ (H : Heap) (locs : List Loc) (ls : Array Slot), va_P (dC, dI) vwCl (mW dA ad c_tape c_taped c_tree c_bonds_18 c_moves c_handMoves c_moved c_days c_likely c_outOf c_rateNow c_pence c_top c_bottom c_spot_19 c_textLong c_fault_20 c_number_21 c_numberAt_22 c_figures_23 c_written c_wanted c_found c_drawnNow c_worth c_hold c_way c_acts c_sDay c_sUps c_sUp c_sMarks c_paidAll c_isPlayed c_isOn c_handMoved c_handPaid c_regret c_aside c_other c_states c_kept c_keptLong c_keptAt c_isTaking) H → va_D A (mW dA ad c_tape c_taped c_tree c_bonds_18 c_moves c_handMoves c_moved c_days c_likely c_outOf c_rateNow c_pence c_top c_bottom c_spot_19 c_textLong c_fault_20 c_number_21 c_numberAt_22 c_figures_23 c_written c_wanted c_found c_drawnNow c_worth c_hold c_way c_acts c_sDay c_sUps c_sUp c_sMarks c_paidAll c_isPlayed c_isOn c_handMoved c_handPaid c_regret c_aside c_other c_states c_kept c_keptLong c_keptAt c_isTaking) → va_S A s.heap H locs → lv_has ls 3 [] → W p l e rmX9_readsPrice s m ([.ref (ad 0), .int p1] : List Value).toArray below meth c H locs 0 0 (MQ below (gQv (dC, dI) (mW dA ad c_tape c_taped c_tree o_c_bonds c_moves c_handMoves c_moved c_days c_likely c_outOf c_rateNow c_pence c_top c_bottom o_c_spot c_textLong o_c_fault o_c_number o_c_numberAt o_c_figures c_written c_wanted c_found c_drawnNow c_worth c_hold c_way c_acts c_sDay c_sUps c_sUp c_sMarks c_paidAll c_isPlayed c_isOn c_handMoved c_handPaid c_regret c_aside c_other c_states c_kept c_keptLong c_keptAt c_isTaking) A) ([.ref (ad 0), .int p1] : List Value).toArray s 0 0 A) (F0 m 81 ls []) := by
        intro H locs ls hP hD hS hl
        cases hf
        exact W.vret hx hb hr (fun t ht _ => gqv hP hD hS ht) hS.2.2 dX9_readsPrice_81
      replace hf := v25
      clear v25
      refine lv_icmp_ne (tgt := 57) hx hb dX9_readsPrice_32 (by decide) (fun k17 => ?_) (fun k17 => ?_)
      · replace hf := ifn k17 hf
        refine lv_aload_n hx hb dX9_readsPrice_57 rfl (lv_at hl 1 rfl) ?_
        refine lv_bipush (v := 7) hx hb dX9_readsPrice_58 (by decide) ?_
        refine lv_iconst (v := 0) hx hb dX9_readsPrice_60 (by decide) ?_
        refine lv_ldc (v := 1000000) hx hb hown (hts _ (gw_mem wkX9_206)) dX9_readsPrice_61 ?_
        obtain ⟨r26, c_spot_27, c_fault_28, c_number_29, c_numberAt_30, c_figures_31, v32, hf⟩ := bd6_some hf
        refine gci (va_runV (As := [.int 7, .int 0, .int 1000000]) (rest := []) ⟨hx, hb, hml, hown, hts⟩ (tX9_reads l dC dI dA ad H.size v32) (ccX9_X9_reads hts ⟨Nat.le_of_ble_eq_true rfl, Nat.le_of_ble_eq_true rfl⟩) (gPreV (ci := 9) (q0 := 0) hP hK hD rfl rfl) rfl rfl hl.1 rfl (lv_room (Nat.le_of_ble_eq_true rfl)) dX9_readsPrice_63 ⟨Nat.le_of_ble_eq_true rfl, Nat.le_of_ble_eq_true rfl⟩) hD hS hA (fun H locs hP hD hS => ?_)
        refine lv_if_eq (tgt := 81) hx hb dX9_readsPrice_66 (by decide) (fun k33 => ?_) (fun k33 => ?_)
        · replace hf := ifp k33 hf
          cases hf
          exact J24 _ _ _ hP hD hS (lv_sub hl [] rfl)
        · replace hf := ifn k33 hf
          refine lv_aload_n hx hb dX9_readsPrice_69 rfl (lv_at hl 1 rfl) ?_
          refine lv_iconst (v := 3) hx hb dX9_readsPrice_70 (by decide) ?_
          refine lv_iload_n hx hb dX9_readsPrice_71 rfl (lv_at hl 2 rfl) ?_
          refine lv_iload_n hx hb dX9_readsPrice_72 rfl (lv_at hl 0 rfl) ?_
          refine lv_iadd hx hb dX9_readsPrice_73 ?_
          refine lv_aload_n hx hb dX9_readsPrice_74 rfl (lv_at hl 1 rfl) ?_
          refine va_get (D := (dC, dI)) (ci := 9) (v := .int c_number_29) (C := RX9) (T := TX9) (N := 45) hx hb hts (fun w h => gw_mem (inX9 w h)) hown hK.1 hP 0 rfl rfl 17 (by decide) (hts _ (gw_mem wfX9_184)) (fun _ h9 => h9) rfl dX9_readsPrice_75 ?_
          obtain ⟨c_bonds_34, v35, hf⟩ := bd1_some hf
          refine gcv (va_runV (As := [.int 3, .int (p1 + c_number_4), .int c_number_29]) (rest := []) ⟨hx, hb, hml, hown, hts⟩ (tX9_sets l dC dI dA ad H.size v35) (ccX9_X9_sets hts ⟨Nat.le_of_ble_eq_true rfl, Nat.le_of_ble_eq_true rfl⟩) (gPreV (ci := 9) (q0 := 0) hP hK hD rfl rfl) rfl rfl hl.1 rfl (lv_room (Nat.le_of_ble_eq_true rfl)) dX9_readsPrice_78 ⟨Nat.le_of_ble_eq_true rfl, Nat.le_of_ble_eq_true rfl⟩) hD hS hA (fun H locs hP hD hS => ?_)
          cases hf
          exact J24 _ _ _ hP hD hS (lv_sub hl [] rfl)
      · replace hf := ifp k17 hf
        refine lv_aload_n hx hb dX9_readsPrice_35 rfl (lv_at hl 1 rfl) ?_
        refine lv_aload_n hx hb dX9_readsPrice_36 rfl (lv_at hl 1 rfl) ?_
        refine va_get (D := (dC, dI)) (ci := 9) (v := .int c_spot_15) (C := RX9) (T := TX9) (N := 45) hx hb hts (fun w h => gw_mem (inX9 w h)) hown hK.1 hP 0 rfl rfl 14 (by decide) (hts _ (gw_mem wfX9_164)) (fun _ h9 => h9) rfl dX9_readsPrice_37 ?_
        refine lv_iconst (v := 1) hx hb dX9_readsPrice_40 (by decide) ?_
        refine lv_iadd hx hb dX9_readsPrice_41 ?_
        refine lv_topi (fun w36 ew36 => ?_)
        replace hf := nm_at hf ew36
        refine va_put (D := (dC, dI)) (ci := 9) (v := .int w36) (ty := .int) (C := RX9) (T := TX9) (N := 45) hx hb hts (fun w h => gw_mem (inX9 w h)) tyX9 tyX9_ok nmX9 hown hK.1 hP hD hS 0 rfl rfl 14 (by decide) (hts _ (gw_mem wfX9_164)) (fun _ h9 => h9) rfl (by decide +kernel) rfl rfl (Nat.le_of_ble_eq_true rfl) dX9_readsPrice_42 (fun H locs hP hD hS => ?_)
        have hP : va_P (dC, dI) vwCl (mW dA ad c_tape c_taped c_tree c_bonds c_moves c_handMoves c_moved c_days c_likely c_outOf c_rateNow c_pence c_top c_bottom w36 c_textLong c_fault_11 c_number_4 c_numberAt_5 c_figures_6 c_written c_wanted c_found c_drawnNow c_worth c_hold c_way c_acts c_sDay c_sUps c_sUp c_sMarks c_paidAll c_isPlayed c_isOn c_handMoved c_handPaid c_regret c_aside c_other c_states c_kept c_keptLong c_keptAt c_isTaking) H := hP
        have hD : va_D A (mW dA ad c_tape c_taped c_tree c_bonds c_moves c_handMoves c_moved c_days c_likely c_outOf c_rateNow c_pence c_top c_bottom w36 c_textLong c_fault_11 c_number_4 c_numberAt_5 c_figures_6 c_written c_wanted c_found c_drawnNow c_worth c_hold c_way c_acts c_sDay c_sUps c_sUp c_sMarks c_paidAll c_isPlayed c_isOn c_handMoved c_handPaid c_regret c_aside c_other c_states c_kept c_keptLong c_keptAt c_isTaking) := hD
        refine lv_aload_n hx hb dX9_readsPrice_45 rfl (lv_at hl 1 rfl) ?_
        refine lv_iconst (v := 3) hx hb dX9_readsPrice_46 (by decide) ?_
        refine lv_iload_n hx hb dX9_readsPrice_47 rfl (lv_at hl 2 rfl) ?_
        refine lv_iload_n hx hb dX9_readsPrice_48 rfl (lv_at hl 0 rfl) ?_
        refine lv_iadd hx hb dX9_readsPrice_49 ?_
        refine lv_iconst (v := (-1)) hx hb dX9_readsPrice_50 (by decide) ?_
        obtain ⟨c_bonds_37, v38, hf⟩ := bd1_some hf
        refine gcv (va_runV (As := [.int 3, .int (p1 + c_number_4), .int (-1)]) (rest := []) ⟨hx, hb, hml, hown, hts⟩ (tX9_sets l dC dI dA ad H.size v38) (ccX9_X9_sets hts ⟨Nat.le_of_ble_eq_true rfl, Nat.le_of_ble_eq_true rfl⟩) (gPreV (ci := 9) (q0 := 0) hP hK hD rfl rfl) rfl rfl hl.1 rfl (lv_room (Nat.le_of_ble_eq_true rfl)) dX9_readsPrice_51 ⟨Nat.le_of_ble_eq_true rfl, Nat.le_of_ble_eq_true rfl⟩) hD hS hA (fun H locs hP hD hS => ?_)
        refine lv_goto (tgt := 81) hx hb dX9_readsPrice_54 (by decide) ?_
        cases hf
        exact J24 _ _ _ hP hD hS (lv_sub hl [] rfl)
    · replace hf := ifp k13 hf
      cases hf
      exact W.vret hx hb hr (fun t ht _ => gqv hP hD hS ht) hS.2.2 dX9_readsPrice_25
  · replace hf := ifp k8 hf
    cases hf
    exact W.vret hx hb hr (fun t ht _ => gqv hP hD hS ht) hS.2.2 dX9_readsPrice_10
