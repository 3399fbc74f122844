abbrev rmX9_regrets : Room := { frames := 5, cells := 0, slots := 0, locals := 127 }
set_option maxHeartbeats 4000000 in
set_option maxRecDepth 100000 in
theorem tX9_regrets (l : Launch) (dC : Nat → ClassId) (dI : Nat → Nat → Nat) (dA : Nat → ClassId) (ad : Nat → Nat) (sz : Nat) {p1 : Int32} {c_tape : Nat → Int32} {c_taped : Int32} {c_tree : Nat → Int32} {c_bonds : Nat → Int32} {c_moves : Nat → Int32} {c_handMoves : Nat → Int32} {c_moved : Int32} {c_days : Int32} {c_likely : Int32} {c_outOf : Int32} {c_rateNow : Int32} {c_pence : Nat → Int64} {c_top : Int64} {c_bottom : Int64} {c_spot : Int32} {c_textLong : Int32} {c_fault : Int32} {c_number : Int32} {c_numberAt : Int32} {c_figures : Int32} {c_written : Int32} {c_wanted : Int32} {c_found : Int32} {c_drawnNow : Int32} {c_worth : Nat → Int64} {c_hold : Nat → Int64} {c_way : Nat → Int64} {c_acts : Nat → Int32} {c_sDay : Int32} {c_sUps : Int32} {c_sUp : Int32} {c_sMarks : Int32} {c_paidAll : Int64} {c_isPlayed : Int32} {c_isOn : Int32} {c_handMoved : Int32} {c_handPaid : Int64} {c_regret : Int64} {c_aside : Nat → Int32} {c_other : Nat → Int64} {c_states : Int32} {c_kept : Nat → Int32} {c_keptLong : Nat → Int64} {c_keptAt : Int32} {c_isTaking : Int32} {o_c_regret : Int64} (hf : fX9_regrets p1 c_bonds c_days c_pence c_worth c_hold c_sDay c_sUps c_sUp c_sMarks c_regret = some (o_c_regret)) : Met l yX9_regrets (wq (Cond.code yX9_regrets cX9_regrets 4 none)) rmX9_regrets (gP [.ref (ad 0), .int p1] (dC, dI) dA (mW dA ad c_tape c_taped c_tree c_bonds c_moves c_handMoves c_moved c_days c_likely c_outOf c_rateNow c_pence c_top c_bottom c_spot c_textLong c_fault c_number c_numberAt c_figures c_written c_wanted c_found c_drawnNow c_worth c_hold c_way c_acts c_sDay c_sUps c_sUp c_sMarks c_paidAll c_isPlayed c_isOn c_handMoved c_handPaid c_regret c_aside c_other c_states c_kept c_keptLong c_keptAt c_isTaking) sz) (gQv (dC, dI) (mW dA ad c_tape c_taped c_tree c_bonds c_moves c_handMoves c_moved c_days c_likely c_outOf c_rateNow c_pence c_top c_bottom c_spot c_textLong c_fault c_number c_numberAt c_figures c_written c_wanted c_found c_drawnNow c_worth c_hold c_way c_acts c_sDay c_sUps c_sUp c_sMarks c_paidAll c_isPlayed c_isOn c_handMoved c_handPaid o_c_regret c_aside c_other c_states c_kept c_keptLong c_keptAt c_isTaking) (va_A (mW dA ad c_tape c_taped c_tree c_bonds c_moves c_handMoves c_moved c_days c_likely c_outOf c_rateNow c_pence c_top c_bottom c_spot c_textLong c_fault c_number c_numberAt c_figures c_written c_wanted c_found c_drawnNow c_worth c_hold c_way c_acts c_sDay c_sUps c_sUp c_sMarks c_paidAll c_isPlayed c_isOn c_handMoved c_handPaid c_regret c_aside c_other c_states c_kept c_keptLong c_keptAt c_isTaking) sz)) 0 0 (va_A (mW dA ad c_tape c_taped c_tree c_bonds c_moves c_handMoves c_moved c_days c_likely c_outOf c_rateNow c_pence c_top c_bottom c_spot c_textLong c_fault c_number c_numberAt c_figures c_written c_wanted c_found c_drawnNow c_worth c_hold c_way c_acts c_sDay c_sUps c_sUp c_sMarks c_paidAll c_isPlayed c_isOn c_handMoved c_handPaid c_regret c_aside c_other c_states c_kept c_keptLong c_keptAt c_isTaking) sz) := by
  refine Met.ofW (cc := cX9_regrets) (maxL := 4) (ret := none) (by decide) rfl ?_
  intro p e s m args below meth c s₁ B hml hv
  obtain ⟨rfl, hsz, hP, hK, hD0⟩ := hv
  have hx := B.exec
  have hb := B.bytes
  have hr := B.returns
  have hts := atoms_spec (ws := wq (Cond.code yX9_regrets cX9_regrets 4 none)) B.pre
  have hown : s.vm.findClass RX9 = some m.cls := findClass_of_methodNamed B.named
  have hlocks := B.notSynchronized
  clear B
  subst hsz
  have hD := hD0.self (sz := s.heap.size)
  generalize hAe : va_A (mW dA ad c_tape c_taped c_tree c_bonds c_moves c_handMoves c_moved c_days c_likely c_outOf c_rateNow c_pence c_top c_bottom c_spot c_textLong c_fault c_number c_numberAt c_figures c_written c_wanted c_found c_drawnNow c_worth c_hold c_way c_acts c_sDay c_sUps c_sUp c_sMarks c_paidAll c_isPlayed c_isOn c_handMoved c_handPaid c_regret c_aside c_other c_states c_kept c_keptLong c_keptAt c_isTaking) s.heap.size = A at hD ⊢
  have hA : ∀ q : Nat, s.heap.size ≤ q → A q := fun q h => by rw [← hAe]; exact Or.inr h
  clear hAe hD0
  have hS : va_S A s.heap s.heap [] := va_S.rf
  have hl := lv_entry ([.ref (ad 0), .int p1]) (n := 4) (Nat.le_of_ble_eq_true rfl)
  rw [lg_entry_eq]
  generalize (lg_sl ([.ref (ad 0), .int p1]) ++ List.replicate (4 - (lg_sl ([.ref (ad 0), .int p1])).length) Slot.unset).toArray = ls at hl ⊢
  have hl : lv_has ls 4 [(0, .ref (ad 0)), (1, .int p1)] := hl
  change W p l e rmX9_regrets s m ([.ref (ad 0), .int p1] : List Value).toArray below meth c s.heap [] 0 0 _ _
  unfold fX9_regrets at hf
  refine lv_aload_n hx hb dX9_regrets_0 rfl (lv_at hl 0 rfl) ?_
  refine va_get (D := (dC, dI)) (ci := 9) (v := .ref (ad 7)) (C := RX9) (T := TX9) (N := 45) hx hb hts (fun w h => gw_mem (inX9 w h)) hown hK.1 hP 0 rfl rfl 24 (by decide) (hts _ (gw_mem wfX9_30)) (fun _ h9 => h9) rfl dX9_regrets_1 ?_
  refine lv_aload_n hx hb dX9_regrets_4 rfl (lv_at hl 0 rfl) ?_
  obtain ⟨r1, v2, hf⟩ := bd1_some hf
  refine gci (va_runV (As := []) (rest := [.ref (ad 7)]) ⟨hx, hb, hml, hown, hts⟩ (tX9_hereNow l dC dI dA ad s.heap.size v2) (ccX9_X9_hereNow hts ⟨Nat.le_of_ble_eq_true rfl, Nat.le_of_ble_eq_true rfl⟩) (gPreV (ci := 9) (q0 := 0) hP hK hD rfl rfl) rfl rfl hl.1 rfl (lv_room (Nat.le_of_ble_eq_true rfl)) dX9_regrets_5 ⟨Nat.le_of_ble_eq_true rfl, Nat.le_of_ble_eq_true rfl⟩) hD hS hA (fun H locs hP hD hS => ?_)
  obtain ⟨h3, hf⟩ := og_some hf
  refine va_lald hx hb hK.1 hP 7 1 rfl rfl (okI_in h3) dX9_regrets_8 ?_
  refine lv_aload_n hx hb dX9_regrets_9 rfl (lv_at hl 0 rfl) ?_
  refine lv_iconst (v := 4) hx hb dX9_regrets_10 (by decide) ?_
  refine lv_iload_n hx hb dX9_regrets_11 rfl (lv_at hl 1 rfl) ?_
  obtain ⟨r4, v5, hf⟩ := bd1_some hf
  refine gcl (va_runV (As := [.int 4, .int p1]) (rest := [.long (c_worth (Int32.toNatClampNeg r1))]) ⟨hx, hb, hml, hown, hts⟩ (tX9_givesBy l dC dI dA ad H.size v5) (ccX9_X9_givesBy hts ⟨Nat.le_of_ble_eq_true rfl, Nat.le_of_ble_eq_true rfl⟩) (gPreV (ci := 9) (q0 := 0) hP hK hD rfl rfl) rfl rfl hl.1 rfl (lv_room (Nat.le_of_ble_eq_true rfl)) dX9_regrets_12 ⟨Nat.le_of_ble_eq_true rfl, Nat.le_of_ble_eq_true rfl⟩) hD hS hA (fun H locs hP hD hS => ?_)
  refine lv_lsub hx hb dX9_regrets_15 ?_
  refine lv_topl (fun w6 ew6 => ?_)
  replace hf := nm_at hf ew6
  refine lv_lstore_n (lv' := [(2, .long w6), (0, .ref (ad 0)), (1, .int p1)]) hx hb dX9_regrets_16 rfl hl (by decide) rfl (fun ls hl => ?_)
  refine lv_aload_n hx hb dX9_regrets_17 rfl (lv_at hl 1 rfl) ?_
  refine lv_aload_n hx hb dX9_regrets_18 rfl (lv_at hl 1 rfl) ?_
  refine va_get (D := (dC, dI)) (ci := 9) (v := .long c_regret) (C := RX9) (T := TX9) (N := 45) hx hb hts (fun w h => gw_mem (inX9 w h)) hown hK.1 hP 0 rfl rfl 37 (by decide) (hts _ (gw_mem wfX9_422)) (fun _ h9 => h9) rfl dX9_regrets_19 ?_
  refine lv_lload_n hx hb dX9_regrets_22 rfl (lv_at hl 0 rfl) ?_
  refine lv_lconst (v := 0) hx hb dX9_regrets_23 rfl ?_
  refine W.lcmp hx hb dX9_regrets_24 ?_
  obtain ⟨j8, v10, hf⟩ := bd1_some hf
  have J9 : ∀ (H : Heap) (locs : List Loc) (ls : Array Slot), va_P (dC, dI) vwCl (mW dA ad c_tape c_taped c_tree c_bonds c_moves c_handMoves c_moved c_days c_likely c_outOf c_rateNow c_pence c_top c_bottom c_spot c_textLong c_fault c_number c_numberAt c_figures c_written c_wanted c_found c_drawnNow c_worth c_hold c_way c_acts c_sDay c_sUps c_sUp c_sMarks c_paidAll c_isPlayed c_isOn c_handMoved c_handPaid c_regret c_aside c_other c_states c_kept c_keptLong c_keptAt c_isTaking) H → va_D A (mW dA ad c_tape c_taped c_tree c_bonds c_moves c_handMoves c_moved c_days c_likely c_outOf c_rateNow c_pence c_top c_bottom c_spot c_textLong c_fault c_number c_numberAt c_figures c_written c_wanted c_found c_drawnNow c_worth c_hold c_way c_acts c_sDay c_sUps c_sUp c_sMarks c_paidAll c_isPlayed c_isOn c_handMoved c_handPaid c_regret c_aside c_other c_states c_kept c_keptLong c_keptAt c_isTaking) → va_S A s.heap H locs → lv_has ls 4 [] → W p l e rmX9_regrets s m ([.ref (ad 0), .int p1] : List Value).toArray below meth c H locs 0 0 (MQ below (gQv (dC, dI) (mW dA ad c_tape c_taped c_tree c_bonds c_moves c_handMoves c_moved c_days c_likely c_outOf c_rateNow c_pence c_top c_bottom c_spot c_textLong c_fault c_number c_numberAt c_figures c_written c_wanted c_found c_drawnNow c_worth c_hold c_way c_acts c_sDay c_sUps c_sUp c_sMarks c_paidAll c_isPlayed c_isOn c_handMoved c_handPaid o_c_regret c_aside c_other c_states c_kept c_keptLong c_keptAt c_isTaking) A) ([.ref (ad 0), .int p1] : List Value).toArray s 0 0 A) (F0 m 34 ls [.long j8, .long c_regret, .ref (ad 0)]) := by
    intro H locs ls hP hD hS hl
    refine lv_ladd hx hb dX9_regrets_34 ?_
    refine lv_topl (fun w11 ew11 => ?_)
    replace hf := nm_at hf ew11
    refine va_put (D := (dC, dI)) (ci := 9) (v := .long w11) (ty := .long) (C := RX9) (T := TX9) (N := 45) hx hb hts (fun w h => gw_mem (inX9 w h)) tyX9 tyX9_ok nmX9 hown hK.1 hP hD hS 0 rfl rfl 37 (by decide) (hts _ (gw_mem wfX9_422)) (fun _ h9 => h9) rfl (by decide +kernel) rfl rfl (Nat.le_of_ble_eq_true rfl) dX9_regrets_35 (fun H locs hP hD hS => ?_)
    have hP : va_P (dC, dI) vwCl (mW dA ad c_tape c_taped c_tree c_bonds c_moves c_handMoves c_moved c_days c_likely c_outOf c_rateNow c_pence c_top c_bottom c_spot c_textLong c_fault c_number c_numberAt c_figures c_written c_wanted c_found c_drawnNow c_worth c_hold c_way c_acts c_sDay c_sUps c_sUp c_sMarks c_paidAll c_isPlayed c_isOn c_handMoved c_handPaid w11 c_aside c_other c_states c_kept c_keptLong c_keptAt c_isTaking) H := hP
    have hD : va_D A (mW dA ad c_tape c_taped c_tree c_bonds c_moves c_handMoves c_moved c_days c_likely c_outOf c_rateNow c_pence c_top c_bottom c_spot c_textLong c_fault c_number c_numberAt c_figures c_written c_wanted c_found c_drawnNow c_worth c_hold c_way c_acts c_sDay c_sUps c_sUp c_sMarks c_paidAll c_isPlayed c_isOn c_handMoved c_handPaid w11 c_aside c_other c_states c_kept c_keptLong c_keptAt c_isTaking) := hD
    cases hf
    exact W.vret hx hb hr (fun t ht _ => gqv hP hD hS ht) hS.2.2 dX9_regrets_38
  replace hf := v10
  clear v10
  refine lv_if_ge (tgt := 33) hx hb dX9_regrets_25 (by decide) (fun k7 => ?_) (fun k7 => ?_)
  · replace hf := ifp (lc_ge.mp k7) hf
    refine lv_lload_n hx hb dX9_regrets_33 rfl (lv_at hl 0 rfl) ?_
    cases hf
    exact J9 _ _ _ hP hD hS (lv_sub hl [] rfl)
  · replace hf := ifn (fun h => k7 (lc_ge.mpr h)) hf
    refine lv_lload_n hx hb dX9_regrets_28 rfl (lv_at hl 0 rfl) ?_
    refine lv_lneg hx hb dX9_regrets_29 ?_
    refine lv_goto (tgt := 34) hx hb dX9_regrets_30 (by decide) ?_
    cases hf
    exact J9 _ _ _ hP hD hS (lv_sub hl [] rfl)
theorem ccX9_X9_regrets {R : Room} {s : State} {args : Array Value} {c0 : Cond} (ht : ∀ w ∈ wq c0, w.before args s = true) (hR : rmX9_regrets.frames + 1 ≤ R.frames ∧ 8 + (4 + 11) + rmX9_regrets.locals ≤ R.locals) : CallW R s args RX9 RX9 428 yX9_regrets cX9_regrets 4 none (wq (.code yX9_regrets cX9_regrets 4 none)) rmX9_regrets 0 0 1 := gCW 1 ht wcX9_regrets wmX9_428 wiX9_regrets weX9_regrets wnX9 (by decide +kernel) rfl rfl hR
abbrev rmX9_go : Room := { frames := 7, cells := 0, slots := 0, locals := 184 }
set_option maxHeartbeats 4000000 in
set_option maxRecDepth 100000 in
theorem tX9_go (l : Launch) (dC : Nat → ClassId) (dI : Nat → Nat → Nat) (dA : Nat → ClassId) (ad : Nat → Nat) (sz : Nat) {p1 : Int32} {c_tape : Nat → Int32} {c_taped : Int32} {c_tree : Nat → Int32} {c_bonds : Nat → Int32} {c_moves : Nat → Int32} {c_handMoves : Nat → Int32} {c_moved : Int32} {c_days : Int32} {c_likely : Int32} {c_outOf : Int32} {c_rateNow : Int32} {c_pence : Nat → Int64} {c_top : Int64} {c_bottom : Int64} {c_spot : Int32} {c_textLong : Int32} {c_fault : Int32} {c_number : Int32} {c_numberAt : Int32} {c_figures : Int32} {c_written : Int32} {c_wanted : Int32} {c_found : Int32} {c_drawnNow : Int32} {c_worth : Nat → Int64} {c_hold : Nat → Int64} {c_way : Nat → Int64} {c_acts : Nat → Int32} {c_sDay : Int32} {c_sUps : Int32} {c_sUp : Int32} {c_sMarks : Int32} {c_paidAll : Int64} {c_isPlayed : Int32} {c_isOn : Int32} {c_handMoved : Int32} {c_handPaid : Int64} {c_regret : Int64} {c_aside : Nat → Int32} {c_other : Nat → Int64} {c_states : Int32} {c_kept : Nat → Int32} {c_keptLong : Nat → Int64} {c_keptAt : Int32} {c_isTaking : Int32} {r : Int32} {o_c_handMoves : Nat → Int32} {o_c_days : Int32} {o_c_likely : Int32} {o_c_outOf : Int32} {o_c_rateNow : Int32} {o_c_pence : Nat → Int64} {o_c_top : Int64} {o_c_bottom : Int64} {o_c_worth : Nat → Int64} {o_c_hold : Nat → Int64} {o_c_acts : Nat → Int32} {o_c_sDay : Int32} {o_c_sUps : Int32} {o_c_sUp : Int32} {o_c_sMarks : Int32} {o_c_handMoved : Int32} {o_c_handPaid : Int64} {o_c_regret : Int64} (hf : fX9_go p1 c_tree c_bonds c_handMoves c_days c_likely c_outOf c_rateNow c_pence c_top c_bottom c_worth c_hold c_acts c_sDay c_sUps c_sUp c_sMarks c_isPlayed c_isOn c_handMoved c_handPaid c_regret = some (r, o_c_handMoves, o_c_days, o_c_likely, o_c_outOf, o_c_rateNow, o_c_pence, o_c_top, o_c_bottom, o_c_worth, o_c_hold, o_c_acts, o_c_sDay, o_c_sUps, o_c_sUp, o_c_sMarks, o_c_handMoved, o_c_handPaid, o_c_regret)) : Met l yX9_go (wq (Cond.code yX9_go cX9_go 2 (some .int))) rmX9_go (gP [.ref (ad 0), .int p1] (dC, dI) dA (mW dA ad c_tape c_taped c_tree c_bonds c_moves c_handMoves c_moved c_days c_likely c_outOf c_rateNow c_pence c_top c_bottom c_spot c_textLong c_fault c_number c_numberAt c_figures c_written c_wanted c_found c_drawnNow c_worth c_hold c_way c_acts c_sDay c_sUps c_sUp c_sMarks c_paidAll c_isPlayed c_isOn c_handMoved c_handPaid c_regret c_aside c_other c_states c_kept c_keptLong c_keptAt c_isTaking) sz) (gQi (dC, dI) r (mW dA ad c_tape c_taped c_tree c_bonds c_moves o_c_handMoves c_moved o_c_days o_c_likely o_c_outOf o_c_rateNow o_c_pence o_c_top o_c_bottom c_spot c_textLong c_fault c_number c_numberAt c_figures c_written c_wanted c_found c_drawnNow o_c_worth o_c_hold c_way o_c_acts o_c_sDay o_c_sUps o_c_sUp o_c_sMarks c_paidAll c_isPlayed c_isOn o_c_handMoved o_c_handPaid o_c_regret c_aside c_other c_states c_kept c_keptLong c_keptAt c_isTaking) (va_A (mW dA ad c_tape c_taped c_tree c_bonds c_moves c_handMoves c_moved c_days c_likely c_outOf c_rateNow c_pence c_top c_bottom c_spot c_textLong c_fault c_number c_numberAt c_figures c_written c_wanted c_found c_drawnNow c_worth c_hold c_way c_acts c_sDay c_sUps c_sUp c_sMarks c_paidAll c_isPlayed c_isOn c_handMoved c_handPaid c_regret c_aside c_other c_states c_kept c_keptLong c_keptAt c_isTaking) sz)) 0 0 (va_A (mW dA ad c_tape c_taped c_tree c_bonds c_moves c_handMoves c_moved c_days c_likely c_outOf c_rateNow c_pence c_top c_bottom c_spot c_textLong c_fault c_number c_numberAt c_figures c_written c_wanted c_found c_drawnNow c_worth c_hold c_way c_acts c_sDay c_sUps c_sUp c_sMarks c_paidAll c_isPlayed c_isOn c_handMoved c_handPaid c_regret c_aside c_other c_states c_kept c_keptLong c_keptAt c_isTaking) sz) := by
  refine Met.ofW (cc := cX9_go) (maxL := 2) (ret := (some .int)) (by decide) rfl ?_
  intro p e s m args below meth c s₁ B hml hv
  obtain ⟨rfl, hsz, hP, hK, hD0⟩ := hv
  have hx := B.exec
  have hb := B.bytes
  have hr := B.returns
  have hts := atoms_spec (ws := wq (Cond.code yX9_go cX9_go 2 (some .int))) B.pre
  have hown : s.vm.findClass RX9 = some m.cls := findClass_of_methodNamed B.named
  have hlocks := B.notSynchronized
  clear B
  subst hsz
  have hD := hD0.self (sz := s.heap.size)
  generalize hAe : va_A (mW dA ad c_tape c_taped c_tree c_bonds c_moves c_handMoves c_moved c_days c_likely c_outOf c_rateNow c_pence c_top c_bottom c_spot c_textLong c_fault c_number c_numberAt c_figures c_written c_wanted c_found c_drawnNow c_worth c_hold c_way c_acts c_sDay c_sUps c_sUp c_sMarks c_paidAll c_isPlayed c_isOn c_handMoved c_handPaid c_regret c_aside c_other c_states c_kept c_keptLong c_keptAt c_isTaking) s.heap.size = A at hD ⊢
  have hA : ∀ q : Nat, s.heap.size ≤ q → A q := fun q h => by rw [← hAe]; exact Or.inr h
  clear hAe hD0
  have hS : va_S A s.heap s.heap [] := va_S.rf
  have hl := lv_entry ([.ref (ad 0), .int p1]) (n := 2) (Nat.le_of_ble_eq_true rfl)
  rw [lg_entry_eq]
  generalize (lg_sl ([.ref (ad 0), .int p1]) ++ List.replicate (2 - (lg_sl ([.ref (ad 0), .int p1])).length) Slot.unset).toArray = ls at hl ⊢
  have hl : lv_has ls 2 [(0, .ref (ad 0)), (1, .int p1)] := hl
  change W p l e rmX9_go s m ([.ref (ad 0), .int p1] : List Value).toArray below meth c s.heap [] 0 0 _ _
  unfold fX9_go at hf
  refine lv_aload_n hx hb dX9_go_0 rfl (lv_at hl 0 rfl) ?_
  refine va_get (D := (dC, dI)) (ci := 9) (v := .int c_isPlayed) (C := RX9) (T := TX9) (N := 45) hx hb hts (fun w h => gw_mem (inX9 w h)) hown hK.1 hP 0 rfl rfl 33 (by decide) (hts _ (gw_mem wfX9_412)) (fun _ h9 => h9) rfl dX9_go_1 ?_
  refine lv_if_ne (tgt := 9) hx hb dX9_go_4 (by decide) (fun k1 => ?_) (fun k1 => ?_)
  · replace hf := ifn k1 hf
    refine lv_aload_n hx hb dX9_go_9 rfl (lv_at hl 0 rfl) ?_
    obtain ⟨c_days_2, c_likely_3, c_outOf_4, c_rateNow_5, c_pence_6, c_top_7, c_bottom_8, c_worth_9, c_hold_10, c_acts_11, c_sDay_12, c_sUps_13, c_sUp_14, c_sMarks_15, v16, hf⟩ := bd14_some hf
    refine gcv (va_runV (As := []) (rest := []) ⟨hx, hb, hml, hown, hts⟩ (tX9_standsByHand l dC dI dA ad s.heap.size v16) (ccX9_X9_standsByHand hts ⟨Nat.le_of_ble_eq_true rfl, Nat.le_of_ble_eq_true rfl⟩) (gPreV (ci := 9) (q0 := 0) hP hK hD rfl rfl) rfl rfl hl.1 rfl (lv_room (Nat.le_of_ble_eq_true rfl)) dX9_go_10 ⟨Nat.le_of_ble_eq_true rfl, Nat.le_of_ble_eq_true rfl⟩) hD hS hA (fun H locs hP hD hS => ?_)
    refine lv_aload_n hx hb dX9_go_13 rfl (lv_at hl 0 rfl) ?_
    refine va_get (D := (dC, dI)) (ci := 9) (v := .int c_isOn) (C := RX9) (T := TX9) (N := 45) hx hb hts (fun w h => gw_mem (inX9 w h)) hown hK.1 hP 0 rfl rfl 34 (by decide) (hts _ (gw_mem wfX9_416)) (fun _ h9 => h9) rfl dX9_go_14 ?_
    refine lv_if_eq (tgt := 31) hx hb dX9_go_17 (by decide) (fun k17 => ?_) (fun k17 => ?_)
    · replace hf := ifp k17 hf
      refine lv_bipush (v := (-2)) hx hb dX9_go_31 (by decide) ?_
      cases hf
      exact W.iret hx hb hr (fun t ht _ => gqi hP hD hS ht) hS.2.2 dX9_go_33
    · replace hf := ifn k17 hf
      refine lv_aload_n hx hb dX9_go_20 rfl (lv_at hl 0 rfl) ?_
      refine va_get (D := (dC, dI)) (ci := 9) (v := .int c_sDay_12) (C := RX9) (T := TX9) (N := 45) hx hb hts (fun w h => gw_mem (inX9 w h)) hown hK.1 hP 0 rfl rfl 28 (by decide) (hts _ (gw_mem wfX9_316)) (fun _ h9 => h9) rfl dX9_go_21 ?_
      refine lv_aload_n hx hb dX9_go_24 rfl (lv_at hl 0 rfl) ?_
      refine va_get (D := (dC, dI)) (ci := 9) (v := .int c_days_2) (C := RX9) (T := TX9) (N := 45) hx hb hts (fun w h => gw_mem (inX9 w h)) hown hK.1 hP 0 rfl rfl 7 (by decide) (hts _ (gw_mem wfX9_94)) (fun _ h9 => h9) rfl dX9_go_25 ?_
      refine lv_icmp_ne (tgt := 34) hx hb dX9_go_28 (by decide) (fun k18 => ?_) (fun k18 => ?_)
      · replace hf := ifn k18 hf
        refine lv_aload_n hx hb dX9_go_34 rfl (lv_at hl 0 rfl) ?_
        refine lv_iconst (v := 0) hx hb dX9_go_35 (by decide) ?_
        obtain ⟨c_regret_19, v20, hf⟩ := bd1_some hf
        refine gcv (va_runV (As := [.int 0]) (rest := []) ⟨hx, hb, hml, hown, hts⟩ (tX9_regrets l dC dI dA ad H.size v20) (ccX9_X9_regrets hts ⟨Nat.le_of_ble_eq_true rfl, Nat.le_of_ble_eq_true rfl⟩) (gPreV (ci := 9) (q0 := 0) hP hK hD rfl rfl) rfl rfl hl.1 rfl (lv_room (Nat.le_of_ble_eq_true rfl)) dX9_go_36 ⟨Nat.le_of_ble_eq_true rfl, Nat.le_of_ble_eq_true rfl⟩) hD hS hA (fun H locs hP hD hS => ?_)
        refine lv_aload_n hx hb dX9_go_39 rfl (lv_at hl 0 rfl) ?_
        refine va_get (D := (dC, dI)) (ci := 9) (v := .ref (ad 5)) (C := RX9) (T := TX9) (N := 45) hx hb hts (fun w h => gw_mem (inX9 w h)) hown hK.1 hP 0 rfl rfl 5 (by decide) (hts _ (gw_mem wfX9_23)) (fun _ h9 => h9) rfl dX9_go_40 ?_
        refine lv_aload_n hx hb dX9_go_43 rfl (lv_at hl 0 rfl) ?_
        refine va_get (D := (dC, dI)) (ci := 9) (v := .int c_handMoved) (C := RX9) (T := TX9) (N := 45) hx hb hts (fun w h => gw_mem (inX9 w h)) hown hK.1 hP 0 rfl rfl 35 (by decide) (hts _ (gw_mem wfX9_409)) (fun _ h9 => h9) rfl dX9_go_44 ?_
        refine lv_iload_n hx hb dX9_go_47 rfl (lv_at hl 1 rfl) ?_
        obtain ⟨j22, v24, hf⟩ := bd1_some hf
        have J23 : ∀ (H : Heap) (locs : List Loc) (ls : Array Slot), va_P (dC, dI) vwCl (mW dA ad c_tape c_taped c_tree c_bonds c_moves c_handMoves c_moved c_days_2 c_likely_3 c_outOf_4 c_rateNow_5 c_pence_6 c_top_7 c_bottom_8 c_spot c_textLong c_fault c_number c_numberAt c_figures c_written c_wanted c_found c_drawnNow c_worth_9 c_hold_10 c_way c_acts_11 c_sDay_12 c_sUps_13 c_sUp_14 c_sMarks_15 c_paidAll c_isPlayed c_isOn c_handMoved c_handPaid c_regret_19 c_aside c_other c_states c_kept c_keptLong c_keptAt c_isTaking) H → va_D A (mW dA ad c_tape c_taped c_tree c_bonds c_moves c_handMoves c_moved c_days_2 c_likely_3 c_outOf_4 c_rateNow_5 c_pence_6 c_top_7 c_bottom_8 c_spot c_textLong c_fault c_number c_numberAt c_figures c_written c_wanted c_found c_drawnNow c_worth_9 c_hold_10 c_way c_acts_11 c_sDay_12 c_sUps_13 c_sUp_14 c_sMarks_15 c_paidAll c_isPlayed c_isOn c_handMoved c_handPaid c_regret_19 c_aside c_other c_states c_kept c_keptLong c_keptAt c_isTaking) → va_S A s.heap H locs → lv_has ls 2 [(0, .ref (ad 0))] → W p l e rmX9_go s m ([.ref (ad 0), .int p1] : List Value).toArray below meth c H locs 0 0 (MQ below (gQi (dC, dI) r (mW dA ad c_tape c_taped c_tree c_bonds c_moves o_c_handMoves c_moved o_c_days o_c_likely o_c_outOf o_c_rateNow o_c_pence o_c_top o_c_bottom c_spot c_textLong c_fault c_number c_numberAt c_figures c_written c_wanted c_found c_drawnNow o_c_worth o_c_hold c_way o_c_acts o_c_sDay o_c_sUps o_c_sUp o_c_sMarks c_paidAll c_isPlayed c_isOn o_c_handMoved o_c_handPaid o_c_regret c_aside c_other c_states c_kept c_keptLong c_keptAt c_isTaking) A) ([.ref (ad 0), .int p1] : List Value).toArray s 0 0 A) (F0 m 56 ls [.int j22, .int c_handMoved, .ref (ad 5)]) := by
          intro H locs ls hP hD hS hl
          obtain ⟨h25, hf⟩ := og_some hf
          obtain ⟨w26, ew26⟩ : ∃ y : Nat → Int32, y = upd c_handMoves (Int32.toNatClampNeg c_handMoved) j22 := ⟨_, rfl⟩
          replace hf := nm_at hf ew26
          refine va_iast hx hb hK.1 hP hD hS 5 0 rfl rfl (okI_in h25) dX9_go_56 (fun H locs hP hD hS => ?_)
          have hP : va_P (dC, dI) vwCl (mW dA ad c_tape c_taped c_tree c_bonds c_moves w26 c_moved c_days_2 c_likely_3 c_outOf_4 c_rateNow_5 c_pence_6 c_top_7 c_bottom_8 c_spot c_textLong c_fault c_number c_numberAt c_figures c_written c_wanted c_found c_drawnNow c_worth_9 c_hold_10 c_way c_acts_11 c_sDay_12 c_sUps_13 c_sUp_14 c_sMarks_15 c_paidAll c_isPlayed c_isOn c_handMoved c_handPaid c_regret_19 c_aside c_other c_states c_kept c_keptLong c_keptAt c_isTaking) H := by rw [ew26]; exact hP
          have hD : va_D A (mW dA ad c_tape c_taped c_tree c_bonds c_moves w26 c_moved c_days_2 c_likely_3 c_outOf_4 c_rateNow_5 c_pence_6 c_top_7 c_bottom_8 c_spot c_textLong c_fault c_number c_numberAt c_figures c_written c_wanted c_found c_drawnNow c_worth_9 c_hold_10 c_way c_acts_11 c_sDay_12 c_sUps_13 c_sUp_14 c_sMarks_15 c_paidAll c_isPlayed c_isOn c_handMoved c_handPaid c_regret_19 c_aside c_other c_states c_kept c_keptLong c_keptAt c_isTaking) := by rw [ew26]; exact hD
          refine lv_aload_n hx hb dX9_go_57 rfl (lv_at hl 0 rfl) ?_
          refine lv_aload_n hx hb dX9_go_58 rfl (lv_at hl 0 rfl) ?_
          refine va_get (D := (dC, dI)) (ci := 9) (v := .int c_handMoved) (C := RX9) (T := TX9) (N := 45) hx hb hts (fun w h => gw_mem (inX9 w h)) hown hK.1 hP 0 rfl rfl 35 (by decide) (hts _ (gw_mem wfX9_409)) (fun _ h9 => h9) rfl dX9_go_59 ?_
          refine lv_iconst (v := 1) hx hb dX9_go_62 (by decide) ?_
          refine lv_iadd hx hb dX9_go_63 ?_
          refine lv_topi (fun w27 ew27 => ?_)
          replace hf := nm_at hf ew27
          refine va_put (D := (dC, dI)) (ci := 9) (v := .int w27) (ty := .int) (C := RX9) (T := TX9) (N := 45) hx hb hts (fun w h => gw_mem (inX9 w h)) tyX9 tyX9_ok nmX9 hown hK.1 hP hD hS 0 rfl rfl 35 (by decide) (hts _ (gw_mem wfX9_409)) (fun _ h9 => h9) rfl (by decide +kernel) rfl rfl (Nat.le_of_ble_eq_true rfl) dX9_go_64 (fun H locs hP hD hS => ?_)
          have hP : va_P (dC, dI) vwCl (mW dA ad c_tape c_taped c_tree c_bonds c_moves w26 c_moved c_days_2 c_likely_3 c_outOf_4 c_rateNow_5 c_pence_6 c_top_7 c_bottom_8 c_spot c_textLong c_fault c_number c_numberAt c_figures c_written c_wanted c_found c_drawnNow c_worth_9 c_hold_10 c_way c_acts_11 c_sDay_12 c_sUps_13 c_sUp_14 c_sMarks_15 c_paidAll c_isPlayed c_isOn w27 c_handPaid c_regret_19 c_aside c_other c_states c_kept c_keptLong c_keptAt c_isTaking) H := hP
          have hD : va_D A (mW dA ad c_tape c_taped c_tree c_bonds c_moves w26 c_moved c_days_2 c_likely_3 c_outOf_4 c_rateNow_5 c_pence_6 c_top_7 c_bottom_8 c_spot c_textLong c_fault c_number c_numberAt c_figures c_written c_wanted c_found c_drawnNow c_worth_9 c_hold_10 c_way c_acts_11 c_sDay_12 c_sUps_13 c_sUp_14 c_sMarks_15 c_paidAll c_isPlayed c_isOn w27 c_handPaid c_regret_19 c_aside c_other c_states c_kept c_keptLong c_keptAt c_isTaking) := hD
          refine lv_aload_n hx hb dX9_go_67 rfl (lv_at hl 0 rfl) ?_
          refine lv_aload_n hx hb dX9_go_68 rfl (lv_at hl 0 rfl) ?_
          refine va_get (D := (dC, dI)) (ci := 9) (v := .long c_handPaid) (C := RX9) (T := TX9) (N := 45) hx hb hts (fun w h => gw_mem (inX9 w h)) hown hK.1 hP 0 rfl rfl 36 (by decide) (hts _ (gw_mem wfX9_419)) (fun _ h9 => h9) rfl dX9_go_69 ?_
          refine lv_aload_n hx hb dX9_go_72 rfl (lv_at hl 0 rfl) ?_
          refine lv_iconst (v := 4) hx hb dX9_go_73 (by decide) ?_
          refine lv_aload_n hx hb dX9_go_74 rfl (lv_at hl 0 rfl) ?_
          refine va_get (D := (dC, dI)) (ci := 9) (v := .int w27) (C := RX9) (T := TX9) (N := 45) hx hb hts (fun w h => gw_mem (inX9 w h)) hown hK.1 hP 0 rfl rfl 35 (by decide) (hts _ (gw_mem wfX9_409)) (fun _ h9 => h9) rfl dX9_go_75 ?_
          obtain ⟨r28, v29, hf⟩ := bd1_some hf
          refine gci (va_runV (As := [.int 4, .int w27]) (rest := [.long c_handPaid, .ref (ad 0)]) ⟨hx, hb, hml, hown, hts⟩ (tX9_couponOf l dC dI dA ad H.size v29) (ccX9_X9_couponOf hts ⟨Nat.le_of_ble_eq_true rfl, Nat.le_of_ble_eq_true rfl⟩) (gPreV (ci := 9) (q0 := 0) hP hK hD rfl rfl) rfl rfl hl.1 rfl (lv_room (Nat.le_of_ble_eq_true rfl)) dX9_go_78 ⟨Nat.le_of_ble_eq_true rfl, Nat.le_of_ble_eq_true rfl⟩) hD hS hA (fun H locs hP hD hS => ?_)
          refine lv_i2l hx hb dX9_go_81 rfl ?_
          refine lv_ladd hx hb dX9_go_82 ?_
          refine lv_topl (fun w30 ew30 => ?_)
          replace hf := nm_at hf ew30
          refine va_put (D := (dC, dI)) (ci := 9) (v := .long w30) (ty := .long) (C := RX9) (T := TX9) (N := 45) hx hb hts (fun w h => gw_mem (inX9 w h)) tyX9 tyX9_ok nmX9 hown hK.1 hP hD hS 0 rfl rfl 36 (by decide) (hts _ (gw_mem wfX9_419)) (fun _ h9 => h9) rfl (by decide +kernel) rfl rfl (Nat.le_of_ble_eq_true rfl) dX9_go_83 (fun H locs hP hD hS => ?_)
          have hP : va_P (dC, dI) vwCl (mW dA ad c_tape c_taped c_tree c_bonds c_moves w26 c_moved c_days_2 c_likely_3 c_outOf_4 c_rateNow_5 c_pence_6 c_top_7 c_bottom_8 c_spot c_textLong c_fault c_number c_numberAt c_figures c_written c_wanted c_found c_drawnNow c_worth_9 c_hold_10 c_way c_acts_11 c_sDay_12 c_sUps_13 c_sUp_14 c_sMarks_15 c_paidAll c_isPlayed c_isOn w27 w30 c_regret_19 c_aside c_other c_states c_kept c_keptLong c_keptAt c_isTaking) H := hP
          have hD : va_D A (mW dA ad c_tape c_taped c_tree c_bonds c_moves w26 c_moved c_days_2 c_likely_3 c_outOf_4 c_rateNow_5 c_pence_6 c_top_7 c_bottom_8 c_spot c_textLong c_fault c_number c_numberAt c_figures c_written c_wanted c_found c_drawnNow c_worth_9 c_hold_10 c_way c_acts_11 c_sDay_12 c_sUps_13 c_sUp_14 c_sMarks_15 c_paidAll c_isPlayed c_isOn w27 w30 c_regret_19 c_aside c_other c_states c_kept c_keptLong c_keptAt c_isTaking) := hD
          refine lv_aload_n hx hb dX9_go_86 rfl (lv_at hl 0 rfl) ?_
          refine va_get (D := (dC, dI)) (ci := 9) (v := .int w27) (C := RX9) (T := TX9) (N := 45) hx hb hts (fun w h => gw_mem (inX9 w h)) hown hK.1 hP 0 rfl rfl 35 (by decide) (hts _ (gw_mem wfX9_409)) (fun _ h9 => h9) rfl dX9_go_87 ?_
          cases hf
          exact W.iret hx hb hr (fun t ht _ => gqi hP hD hS ht) hS.2.2 dX9_go_90
        replace hf := v24
        clear v24
        refine lv_if_eq (tgt := 55) hx hb dX9_go_48 (by decide) (fun k21 => ?_) (fun k21 => ?_)
        · replace hf := ifp k21 hf
          refine lv_iconst (v := 0) hx hb dX9_go_55 (by decide) ?_
          cases hf
          exact J23 _ _ _ hP hD hS (lv_sub hl [0] rfl)
        · replace hf := ifn k21 hf
          refine lv_iconst (v := 1) hx hb dX9_go_51 (by decide) ?_
          refine lv_goto (tgt := 56) hx hb dX9_go_52 (by decide) ?_
          cases hf
          exact J23 _ _ _ hP hD hS (lv_sub hl [0] rfl)
      · replace hf := ifp k18 hf
        refine lv_bipush (v := (-2)) hx hb dX9_go_31 (by decide) ?_
        cases hf
        exact W.iret hx hb hr (fun t ht _ => gqi hP hD hS ht) hS.2.2 dX9_go_33
  · replace hf := ifp k1 hf
    refine lv_iconst (v := (-1)) hx hb dX9_go_7 (by decide) ?_
    cases hf
    exact W.iret hx hb hr (fun t ht _ => gqi hP hD hS ht) hS.2.2 dX9_go_8
abbrev rmX9_does : Room := { frames := 7, cells := 0, slots := 0, locals := 184 }
set_option maxHeartbeats 4000000 in
set_option maxRecDepth 100000 in
theorem tX9_does (l : Launch) (dC : Nat → ClassId) (dI : Nat → Nat → Nat) (dA : Nat → ClassId) (ad : Nat → Nat) (sz : Nat) {p1 : Int32} {c_tape : Nat → Int32} {c_taped : Int32} {c_tree : Nat → Int32} {c_bonds : Nat → Int32} {c_moves : Nat → Int32} {c_handMoves : Nat → Int32} {c_moved : Int32} {c_days : Int32} {c_likely : Int32} {c_outOf : Int32} {c_rateNow : Int32} {c_pence : Nat → Int64} {c_top : Int64} {c_bottom : Int64} {c_spot : Int32} {c_textLong : Int32} {c_fault : Int32} {c_number : Int32} {c_numberAt : Int32} {c_figures : Int32} {c_written : Int32} {c_wanted : Int32} {c_found : Int32} {c_drawnNow : Int32} {c_worth : Nat → Int64} {c_hold : Nat → Int64} {c_way : Nat → Int64} {c_acts : Nat → Int32} {c_sDay : Int32} {c_sUps : Int32} {c_sUp : Int32} {c_sMarks : Int32} {c_paidAll : Int64} {c_isPlayed : Int32} {c_isOn : Int32} {c_handMoved : Int32} {c_handPaid : Int64} {c_regret : Int64} {c_aside : Nat → Int32} {c_other : Nat → Int64} {c_states : Int32} {c_kept : Nat → Int32} {c_keptLong : Nat → Int64} {c_keptAt : Int32} {c_isTaking : Int32} {r : Int64} {o_c_days : Int32} {o_c_likely : Int32} {o_c_outOf : Int32} {o_c_rateNow : Int32} {o_c_pence : Nat → Int64} {o_c_top : Int64} {o_c_bottom : Int64} {o_c_worth : Nat → Int64} {o_c_hold : Nat → Int64} {o_c_acts : Nat → Int32} {o_c_sDay : Int32} {o_c_sUps : Int32} {o_c_sUp : Int32} {o_c_sMarks : Int32} {o_c_isOn : Int32} {o_c_handPaid : Int64} {o_c_regret : Int64} (hf : fX9_does p1 c_tree c_bonds c_handMoves c_days c_likely c_outOf c_rateNow c_pence c_top c_bottom c_worth c_hold c_acts c_sDay c_sUps c_sUp c_sMarks c_isPlayed c_isOn c_handMoved c_handPaid c_regret = some (r, o_c_days, o_c_likely, o_c_outOf, o_c_rateNow, o_c_pence, o_c_top, o_c_bottom, o_c_worth, o_c_hold, o_c_acts, o_c_sDay, o_c_sUps, o_c_sUp, o_c_sMarks, o_c_isOn, o_c_handPaid, o_c_regret)) : Met l yX9_does (wq (Cond.code yX9_does cX9_does 4 (some .long))) rmX9_does (gP [.ref (ad 0), .int p1] (dC, dI) dA (mW dA ad c_tape c_taped c_tree c_bonds c_moves c_handMoves c_moved c_days c_likely c_outOf c_rateNow c_pence c_top c_bottom c_spot c_textLong c_fault c_number c_numberAt c_figures c_written c_wanted c_found c_drawnNow c_worth c_hold c_way c_acts c_sDay c_sUps c_sUp c_sMarks c_paidAll c_isPlayed c_isOn c_handMoved c_handPaid c_regret c_aside c_other c_states c_kept c_keptLong c_keptAt c_isTaking) sz) (gQl (dC, dI) r (mW dA ad c_tape c_taped c_tree c_bonds c_moves c_handMoves c_moved o_c_days o_c_likely o_c_outOf o_c_rateNow o_c_pence o_c_top o_c_bottom c_spot c_textLong c_fault c_number c_numberAt c_figures c_written c_wanted c_found c_drawnNow o_c_worth o_c_hold c_way o_c_acts o_c_sDay o_c_sUps o_c_sUp o_c_sMarks c_paidAll c_isPlayed o_c_isOn c_handMoved o_c_handPaid o_c_regret c_aside c_other c_states c_kept c_keptLong c_keptAt c_isTaking) (va_A (mW dA ad c_tape c_taped c_tree c_bonds c_moves c_handMoves c_moved c_days c_likely c_outOf c_rateNow c_pence c_top c_bottom c_spot c_textLong c_fault c_number c_numberAt c_figures c_written c_wanted c_found c_drawnNow c_worth c_hold c_way c_acts c_sDay c_sUps c_sUp c_sMarks c_paidAll c_isPlayed c_isOn c_handMoved c_handPaid c_regret c_aside c_other c_states c_kept c_keptLong c_keptAt c_isTaking) sz)) 0 0 (va_A (mW dA ad c_tape c_taped c_tree c_bonds c_moves c_handMoves c_moved c_days c_likely c_outOf c_rateNow c_pence c_top c_bottom c_spot c_textLong c_fault c_number c_numberAt c_figures c_written c_wanted c_found c_drawnNow c_worth c_hold c_way c_acts c_sDay c_sUps c_sUp c_sMarks c_paidAll c_isPlayed c_isOn c_handMoved c_handPaid c_regret c_aside c_other c_states c_kept c_keptLong c_keptAt c_isTaking) sz) := by
  refine Met.ofW (cc := cX9_does) (maxL := 4) (ret := (some .long)) (by decide) rfl ?_
  intro p e s m args below meth c s₁ B hml hv
  obtain ⟨rfl, hsz, hP, hK, hD0⟩ := hv
  have hx := B.exec
  have hb := B.bytes
  have hr := B.returns
  have hts := atoms_spec (ws := wq (Cond.code yX9_does cX9_does 4 (some .long))) B.pre
  have hown : s.vm.findClass RX9 = some m.cls := findClass_of_methodNamed B.named
  have hlocks := B.notSynchronized
  clear B
  subst hsz
  have hD := hD0.self (sz := s.heap.size)
  generalize hAe : va_A (mW dA ad c_tape c_taped c_tree c_bonds c_moves c_handMoves c_moved c_days c_likely c_outOf c_rateNow c_pence c_top c_bottom c_spot c_textLong c_fault c_number c_numberAt c_figures c_written c_wanted c_found c_drawnNow c_worth c_hold c_way c_acts c_sDay c_sUps c_sUp c_sMarks c_paidAll c_isPlayed c_isOn c_handMoved c_handPaid c_regret c_aside c_other c_states c_kept c_keptLong c_keptAt c_isTaking) s.heap.size = A at hD ⊢
  have hA : ∀ q : Nat, s.heap.size ≤ q → A q := fun q h => by rw [← hAe]; exact Or.inr h
  clear hAe hD0
  have hS : va_S A s.heap s.heap [] := va_S.rf
  have hl := lv_entry ([.ref (ad 0), .int p1]) (n := 4) (Nat.le_of_ble_eq_true rfl)
  rw [lg_entry_eq]
  generalize (lg_sl ([.ref (ad 0), .int p1]) ++ List.replicate (4 - (lg_sl ([.ref (ad 0), .int p1])).length) Slot.unset).toArray = ls at hl ⊢
  have hl : lv_has ls 4 [(0, .ref (ad 0)), (1, .int p1)] := hl
  change W p l e rmX9_does s m ([.ref (ad 0), .int p1] : List Value).toArray below meth c s.heap [] 0 0 _ _
  unfold fX9_does at hf
  refine lv_aload_n hx hb dX9_does_0 rfl (lv_at hl 0 rfl) ?_
  refine va_get (D := (dC, dI)) (ci := 9) (v := .int c_isPlayed) (C := RX9) (T := TX9) (N := 45) hx hb hts (fun w h => gw_mem (inX9 w h)) hown hK.1 hP 0 rfl rfl 33 (by decide) (hts _ (gw_mem wfX9_412)) (fun _ h9 => h9) rfl dX9_does_1 ?_
  refine lv_if_eq (tgt := 19) hx hb dX9_does_4 (by decide) (fun k1 => ?_) (fun k1 => ?_)
  · replace hf := ifp k1 hf
    refine lv_ldc2 (v := (-1)) hx hb hown (hts _ (gw_mem wkX9_116)) dX9_does_19 ?_
    cases hf
    exact W.lret hx hb hr (fun t ht _ => gql hP hD hS ht) hS.2.2 dX9_does_22
  · replace hf := ifn k1 hf
    refine lv_iload_n hx hb dX9_does_7 rfl (lv_at hl 1 rfl) ?_
    refine lv_i2l hx hb dX9_does_8 rfl ?_
    refine lv_lconst (v := 0) hx hb dX9_does_9 rfl ?_
    refine lv_ldc2 (v := 3) hx hb hown (hts _ (gw_mem wkX9_142)) dX9_does_10 ?_
    obtain ⟨r2, v3, hf⟩ := bd1_some hf
    refine gci0 (va_runS (As := [.long (Int32.toInt64 p1), .long 0, .long 3]) (rest := []) ⟨hx, hb, hml, hown, hts⟩ (tX9_in l dC dI dA s.heap.size v3) (ccX9_X9_in hts ⟨Nat.le_of_ble_eq_true rfl, Nat.le_of_ble_eq_true rfl⟩) (gPreS0 hK) rfl rfl hl.1 rfl (lv_room (Nat.le_of_ble_eq_true rfl)) dX9_does_13 ⟨Nat.le_of_ble_eq_true rfl, Nat.le_of_ble_eq_true rfl⟩) hP hS hA (fun H locs hP hS => ?_)
    refine lv_if_ne (tgt := 23) hx hb dX9_does_16 (by decide) (fun k4 => ?_) (fun k4 => ?_)
    · replace hf := ifn k4 hf
      refine lv_aload_n hx hb dX9_does_23 rfl (lv_at hl 0 rfl) ?_
      obtain ⟨c_days_5, c_likely_6, c_outOf_7, c_rateNow_8, c_pence_9, c_top_10, c_bottom_11, c_worth_12, c_hold_13, c_acts_14, c_sDay_15, c_sUps_16, c_sUp_17, c_sMarks_18, v19, hf⟩ := bd14_some hf
      refine gcv (va_runV (As := []) (rest := []) ⟨hx, hb, hml, hown, hts⟩ (tX9_standsByHand l dC dI dA ad H.size v19) (ccX9_X9_standsByHand hts ⟨Nat.le_of_ble_eq_true rfl, Nat.le_of_ble_eq_true rfl⟩) (gPreV (ci := 9) (q0 := 0) hP hK hD rfl rfl) rfl rfl hl.1 rfl (lv_room (Nat.le_of_ble_eq_true rfl)) dX9_does_24 ⟨Nat.le_of_ble_eq_true rfl, Nat.le_of_ble_eq_true rfl⟩) hD hS hA (fun H locs hP hD hS => ?_)
      refine lv_aload_n hx hb dX9_does_27 rfl (lv_at hl 0 rfl) ?_
      refine va_get (D := (dC, dI)) (ci := 9) (v := .int c_isOn) (C := RX9) (T := TX9) (N := 45) hx hb hts (fun w h => gw_mem (inX9 w h)) hown hK.1 hP 0 rfl rfl 34 (by decide) (hts _ (gw_mem wfX9_416)) (fun _ h9 => h9) rfl dX9_does_28 ?_
      refine lv_if_eq (tgt := 49) hx hb dX9_does_31 (by decide) (fun k20 => ?_) (fun k20 => ?_)
      · replace hf := ifp k20 hf
        refine lv_ldc2 (v := (-2)) hx hb hown (hts _ (gw_mem wkX9_343)) dX9_does_49 ?_
        cases hf
        exact W.lret hx hb hr (fun t ht _ => gql hP hD hS ht) hS.2.2 dX9_does_52
      · replace hf := ifn k20 hf
        refine lv_iload_n hx hb dX9_does_34 rfl (lv_at hl 1 rfl) ?_
        refine lv_if_ne (tgt := 53) hx hb dX9_does_35 (by decide) (fun k21 => ?_) (fun k21 => ?_)
        · replace hf := ifn k21 hf
          refine lv_aload_n hx hb dX9_does_53 rfl (lv_at hl 0 rfl) ?_
          refine lv_iconst (v := 4) hx hb dX9_does_54 (by decide) ?_
          refine lv_iload_n hx hb dX9_does_55 rfl (lv_at hl 1 rfl) ?_
          obtain ⟨r22, v23, hf⟩ := bd1_some hf
          refine gcl (va_runV (As := [.int 4, .int p1]) (rest := []) ⟨hx, hb, hml, hown, hts⟩ (tX9_givesBy l dC dI dA ad H.size v23) (ccX9_X9_givesBy hts ⟨Nat.le_of_ble_eq_true rfl, Nat.le_of_ble_eq_true rfl⟩) (gPreV (ci := 9) (q0 := 0) hP hK hD rfl rfl) rfl rfl hl.1 rfl (lv_room (Nat.le_of_ble_eq_true rfl)) dX9_does_56 ⟨Nat.le_of_ble_eq_true rfl, Nat.le_of_ble_eq_true rfl⟩) hD hS hA (fun H locs hP hD hS => ?_)
          refine lv_lstore_n (lv' := [(2, .long r22), (0, .ref (ad 0)), (1, .int p1)]) hx hb dX9_does_59 rfl hl (by decide) rfl (fun ls hl => ?_)
          refine lv_lload_n hx hb dX9_does_60 rfl (lv_at hl 0 rfl) ?_
          refine lv_lconst (v := 0) hx hb dX9_does_61 rfl ?_
          refine W.lcmp hx hb dX9_does_62 ?_
          refine lv_if_ge (tgt := 70) hx hb dX9_does_63 (by decide) (fun k24 => ?_) (fun k24 => ?_)
          · replace hf := ifp (lc_ge.mp k24) hf
            refine lv_aload_n hx hb dX9_does_70 rfl (lv_at hl 1 rfl) ?_
            refine lv_iload_n hx hb dX9_does_71 rfl (lv_at hl 2 rfl) ?_
            obtain ⟨c_regret_25, v26, hf⟩ := bd1_some hf
            refine gcv (va_runV (As := [.int p1]) (rest := []) ⟨hx, hb, hml, hown, hts⟩ (tX9_regrets l dC dI dA ad H.size v26) (ccX9_X9_regrets hts ⟨Nat.le_of_ble_eq_true rfl, Nat.le_of_ble_eq_true rfl⟩) (gPreV (ci := 9) (q0 := 0) hP hK hD rfl rfl) rfl rfl hl.1 rfl (lv_room (Nat.le_of_ble_eq_true rfl)) dX9_does_72 ⟨Nat.le_of_ble_eq_true rfl, Nat.le_of_ble_eq_true rfl⟩) hD hS hA (fun H locs hP hD hS => ?_)
            refine lv_aload_n hx hb dX9_does_75 rfl (lv_at hl 1 rfl) ?_
            refine lv_aload_n hx hb dX9_does_76 rfl (lv_at hl 1 rfl) ?_
            refine va_get (D := (dC, dI)) (ci := 9) (v := .long c_handPaid) (C := RX9) (T := TX9) (N := 45) hx hb hts (fun w h => gw_mem (inX9 w h)) hown hK.1 hP 0 rfl rfl 36 (by decide) (hts _ (gw_mem wfX9_419)) (fun _ h9 => h9) rfl dX9_does_77 ?_
            refine lv_lload_n hx hb dX9_does_80 rfl (lv_at hl 0 rfl) ?_
            refine lv_ladd hx hb dX9_does_81 ?_
            refine lv_aload_n hx hb dX9_does_82 rfl (lv_at hl 1 rfl) ?_
            refine lv_iconst (v := 4) hx hb dX9_does_83 (by decide) ?_
            refine lv_aload_n hx hb dX9_does_84 rfl (lv_at hl 1 rfl) ?_
            refine va_get (D := (dC, dI)) (ci := 9) (v := .int c_sDay_15) (C := RX9) (T := TX9) (N := 45) hx hb hts (fun w h => gw_mem (inX9 w h)) hown hK.1 hP 0 rfl rfl 28 (by decide) (hts _ (gw_mem wfX9_316)) (fun _ h9 => h9) rfl dX9_does_85 ?_
            obtain ⟨r27, v28, hf⟩ := bd1_some hf
            refine gci (va_runV (As := [.int 4, .int c_sDay_15]) (rest := [.long (c_handPaid + r22), .ref (ad 0)]) ⟨hx, hb, hml, hown, hts⟩ (tX9_couponOf l dC dI dA ad H.size v28) (ccX9_X9_couponOf hts ⟨Nat.le_of_ble_eq_true rfl, Nat.le_of_ble_eq_true rfl⟩) (gPreV (ci := 9) (q0 := 0) hP hK hD rfl rfl) rfl rfl hl.1 rfl (lv_room (Nat.le_of_ble_eq_true rfl)) dX9_does_88 ⟨Nat.le_of_ble_eq_true rfl, Nat.le_of_ble_eq_true rfl⟩) hD hS hA (fun H locs hP hD hS => ?_)
            refine lv_i2l hx hb dX9_does_91 rfl ?_
            refine lv_lsub hx hb dX9_does_92 ?_
            refine lv_topl (fun w29 ew29 => ?_)
            replace hf := nm_at hf ew29
            refine va_put (D := (dC, dI)) (ci := 9) (v := .long w29) (ty := .long) (C := RX9) (T := TX9) (N := 45) hx hb hts (fun w h => gw_mem (inX9 w h)) tyX9 tyX9_ok nmX9 hown hK.1 hP hD hS 0 rfl rfl 36 (by decide) (hts _ (gw_mem wfX9_419)) (fun _ h9 => h9) rfl (by decide +kernel) rfl rfl (Nat.le_of_ble_eq_true rfl) dX9_does_93 (fun H locs hP hD hS => ?_)
            have hP : va_P (dC, dI) vwCl (mW dA ad c_tape c_taped c_tree c_bonds c_moves c_handMoves c_moved c_days_5 c_likely_6 c_outOf_7 c_rateNow_8 c_pence_9 c_top_10 c_bottom_11 c_spot c_textLong c_fault c_number c_numberAt c_figures c_written c_wanted c_found c_drawnNow c_worth_12 c_hold_13 c_way c_acts_14 c_sDay_15 c_sUps_16 c_sUp_17 c_sMarks_18 c_paidAll c_isPlayed c_isOn c_handMoved w29 c_regret_25 c_aside c_other c_states c_kept c_keptLong c_keptAt c_isTaking) H := hP
            have hD : va_D A (mW dA ad c_tape c_taped c_tree c_bonds c_moves c_handMoves c_moved c_days_5 c_likely_6 c_outOf_7 c_rateNow_8 c_pence_9 c_top_10 c_bottom_11 c_spot c_textLong c_fault c_number c_numberAt c_figures c_written c_wanted c_found c_drawnNow c_worth_12 c_hold_13 c_way c_acts_14 c_sDay_15 c_sUps_16 c_sUp_17 c_sMarks_18 c_paidAll c_isPlayed c_isOn c_handMoved w29 c_regret_25 c_aside c_other c_states c_kept c_keptLong c_keptAt c_isTaking) := hD
            refine lv_aload_n hx hb dX9_does_96 rfl (lv_at hl 1 rfl) ?_
            refine lv_iconst (v := 0) hx hb dX9_does_97 (by decide) ?_
            refine va_put (D := (dC, dI)) (ci := 9) (v := .int 0) (ty := .boolean) (C := RX9) (T := TX9) (N := 45) hx hb hts (fun w h => gw_mem (inX9 w h)) tyX9 tyX9_ok nmX9 hown hK.1 hP hD hS 0 rfl rfl 34 (by decide) (hts _ (gw_mem wfX9_416)) (fun _ h9 => h9) rfl (by decide +kernel) rfl rfl (Nat.le_of_ble_eq_true rfl) dX9_does_98 (fun H locs hP hD hS => ?_)
            have hP : va_P (dC, dI) vwCl (mW dA ad c_tape c_taped c_tree c_bonds c_moves c_handMoves c_moved c_days_5 c_likely_6 c_outOf_7 c_rateNow_8 c_pence_9 c_top_10 c_bottom_11 c_spot c_textLong c_fault c_number c_numberAt c_figures c_written c_wanted c_found c_drawnNow c_worth_12 c_hold_13 c_way c_acts_14 c_sDay_15 c_sUps_16 c_sUp_17 c_sMarks_18 c_paidAll c_isPlayed 0 c_handMoved w29 c_regret_25 c_aside c_other c_states c_kept c_keptLong c_keptAt c_isTaking) H := hP
            have hD : va_D A (mW dA ad c_tape c_taped c_tree c_bonds c_moves c_handMoves c_moved c_days_5 c_likely_6 c_outOf_7 c_rateNow_8 c_pence_9 c_top_10 c_bottom_11 c_spot c_textLong c_fault c_number c_numberAt c_figures c_written c_wanted c_found c_drawnNow c_worth_12 c_hold_13 c_way c_acts_14 c_sDay_15 c_sUps_16 c_sUp_17 c_sMarks_18 c_paidAll c_isPlayed 0 c_handMoved w29 c_regret_25 c_aside c_other c_states c_kept c_keptLong c_keptAt c_isTaking) := hD
            refine lv_aload_n hx hb dX9_does_101 rfl (lv_at hl 1 rfl) ?_
            refine va_get (D := (dC, dI)) (ci := 9) (v := .long w29) (C := RX9) (T := TX9) (N := 45) hx hb hts (fun w h => gw_mem (inX9 w h)) hown hK.1 hP 0 rfl rfl 36 (by decide) (hts _ (gw_mem wfX9_419)) (fun _ h9 => h9) rfl dX9_does_102 ?_
            cases hf
            exact W.lret hx hb hr (fun t ht _ => gql hP hD hS ht) hS.2.2 dX9_does_105
          · replace hf := ifn (fun h => k24 (lc_ge.mpr h)) hf
            refine lv_ldc2 (v := (-3)) hx hb hown (hts _ (gw_mem wkX9_386)) dX9_does_66 ?_
            cases hf
            exact W.lret hx hb hr (fun t ht _ => gql hP hD hS ht) hS.2.2 dX9_does_69
        · replace hf := ifp k21 hf
          refine lv_aload_n hx hb dX9_does_38 rfl (lv_at hl 0 rfl) ?_
          refine va_get (D := (dC, dI)) (ci := 9) (v := .int c_sDay_15) (C := RX9) (T := TX9) (N := 45) hx hb hts (fun w h => gw_mem (inX9 w h)) hown hK.1 hP 0 rfl rfl 28 (by decide) (hts _ (gw_mem wfX9_316)) (fun _ h9 => h9) rfl dX9_does_39 ?_
          refine lv_aload_n hx hb dX9_does_42 rfl (lv_at hl 0 rfl) ?_
          refine va_get (D := (dC, dI)) (ci := 9) (v := .int c_days_5) (C := RX9) (T := TX9) (N := 45) hx hb hts (fun w h => gw_mem (inX9 w h)) hown hK.1 hP 0 rfl rfl 7 (by decide) (hts _ (gw_mem wfX9_94)) (fun _ h9 => h9) rfl dX9_does_43 ?_
          refine lv_icmp_ge (tgt := 53) hx hb dX9_does_46 (by decide) (fun k30 => ?_) (fun k30 => ?_)
          · replace hf := ifp k30 hf
            refine lv_aload_n hx hb dX9_does_53 rfl (lv_at hl 0 rfl) ?_
            refine lv_iconst (v := 4) hx hb dX9_does_54 (by decide) ?_
            refine lv_iload_n hx hb dX9_does_55 rfl (lv_at hl 1 rfl) ?_
            obtain ⟨r31, v32, hf⟩ := bd1_some hf
            refine gcl (va_runV (As := [.int 4, .int p1]) (rest := []) ⟨hx, hb, hml, hown, hts⟩ (tX9_givesBy l dC dI dA ad H.size v32) (ccX9_X9_givesBy hts ⟨Nat.le_of_ble_eq_true rfl, Nat.le_of_ble_eq_true rfl⟩) (gPreV (ci := 9) (q0 := 0) hP hK hD rfl rfl) rfl rfl hl.1 rfl (lv_room (Nat.le_of_ble_eq_true rfl)) dX9_does_56 ⟨Nat.le_of_ble_eq_true rfl, Nat.le_of_ble_eq_true rfl⟩) hD hS hA (fun H locs hP hD hS => ?_)
            refine lv_lstore_n (lv' := [(2, .long r31), (0, .ref (ad 0)), (1, .int p1)]) hx hb dX9_does_59 rfl hl (by decide) rfl (fun ls hl => ?_)
            refine lv_lload_n hx hb dX9_does_60 rfl (lv_at hl 0 rfl) ?_
            refine lv_lconst (v := 0) hx hb dX9_does_61 rfl ?_
            refine W.lcmp hx hb dX9_does_62 ?_
            refine lv_if_ge (tgt := 70) hx hb dX9_does_63 (by decide) (fun k33 => ?_) (fun k33 => ?_)
            · replace hf := ifp (lc_ge.mp k33) hf
              refine lv_aload_n hx hb dX9_does_70 rfl (lv_at hl 1 rfl) ?_
              refine lv_iload_n hx hb dX9_does_71 rfl (lv_at hl 2 rfl) ?_
              obtain ⟨c_regret_34, v35, hf⟩ := bd1_some hf
              refine gcv (va_runV (As := [.int p1]) (rest := []) ⟨hx, hb, hml, hown, hts⟩ (tX9_regrets l dC dI dA ad H.size v35) (ccX9_X9_regrets hts ⟨Nat.le_of_ble_eq_true rfl, Nat.le_of_ble_eq_true rfl⟩) (gPreV (ci := 9) (q0 := 0) hP hK hD rfl rfl) rfl rfl hl.1 rfl (lv_room (Nat.le_of_ble_eq_true rfl)) dX9_does_72 ⟨Nat.le_of_ble_eq_true rfl, Nat.le_of_ble_eq_true rfl⟩) hD hS hA (fun H locs hP hD hS => ?_)
              refine lv_aload_n hx hb dX9_does_75 rfl (lv_at hl 1 rfl) ?_
              refine lv_aload_n hx hb dX9_does_76 rfl (lv_at hl 1 rfl) ?_
              refine va_get (D := (dC, dI)) (ci := 9) (v := .long c_handPaid) (C := RX9) (T := TX9) (N := 45) hx hb hts (fun w h => gw_mem (inX9 w h)) hown hK.1 hP 0 rfl rfl 36 (by decide) (hts _ (gw_mem wfX9_419)) (fun _ h9 => h9) rfl dX9_does_77 ?_
              refine lv_lload_n hx hb dX9_does_80 rfl (lv_at hl 0 rfl) ?_
              refine lv_ladd hx hb dX9_does_81 ?_
              refine lv_aload_n hx hb dX9_does_82 rfl (lv_at hl 1 rfl) ?_
              refine lv_iconst (v := 4) hx hb dX9_does_83 (by decide) ?_
              refine lv_aload_n hx hb dX9_does_84 rfl (lv_at hl 1 rfl) ?_
              refine va_get (D := (dC, dI)) (ci := 9) (v := .int c_sDay_15) (C := RX9) (T := TX9) (N := 45) hx hb hts (fun w h => gw_mem (inX9 w h)) hown hK.1 hP 0 rfl rfl 28 (by decide) (hts _ (gw_mem wfX9_316)) (fun _ h9 => h9) rfl dX9_does_85 ?_
              obtain ⟨r36, v37, hf⟩ := bd1_some hf
              refine gci (va_runV (As := [.int 4, .int c_sDay_15]) (rest := [.long (c_handPaid + r31), .ref (ad 0)]) ⟨hx, hb, hml, hown, hts⟩ (tX9_couponOf l dC dI dA ad H.size v37) (ccX9_X9_couponOf hts ⟨Nat.le_of_ble_eq_true rfl, Nat.le_of_ble_eq_true rfl⟩) (gPreV (ci := 9) (q0 := 0) hP hK hD rfl rfl) rfl rfl hl.1 rfl (lv_room (Nat.le_of_ble_eq_true rfl)) dX9_does_88 ⟨Nat.le_of_ble_eq_true rfl, Nat.le_of_ble_eq_true rfl⟩) hD hS hA (fun H locs hP hD hS => ?_)
              refine lv_i2l hx hb dX9_does_91 rfl ?_
              refine lv_lsub hx hb dX9_does_92 ?_
              refine lv_topl (fun w38 ew38 => ?_)
              replace hf := nm_at hf ew38
              refine va_put (D := (dC, dI)) (ci := 9) (v := .long w38) (ty := .long) (C := RX9) (T := TX9) (N := 45) hx hb hts (fun w h => gw_mem (inX9 w h)) tyX9 tyX9_ok nmX9 hown hK.1 hP hD hS 0 rfl rfl 36 (by decide) (hts _ (gw_mem wfX9_419)) (fun _ h9 => h9) rfl (by decide +kernel) rfl rfl (Nat.le_of_ble_eq_true rfl) dX9_does_93 (fun H locs hP hD hS => ?_)
              have hP : va_P (dC, dI) vwCl (mW dA ad c_tape c_taped c_tree c_bonds c_moves c_handMoves c_moved c_days_5 c_likely_6 c_outOf_7 c_rateNow_8 c_pence_9 c_top_10 c_bottom_11 c_spot c_textLong c_fault c_number c_numberAt c_figures c_written c_wanted c_found c_drawnNow c_worth_12 c_hold_13 c_way c_acts_14 c_sDay_15 c_sUps_16 c_sUp_17 c_sMarks_18 c_paidAll c_isPlayed c_isOn c_handMoved w38 c_regret_34 c_aside c_other c_states c_kept c_keptLong c_keptAt c_isTaking) H := hP
              have hD : va_D A (mW dA ad c_tape c_taped c_tree c_bonds c_moves c_handMoves c_moved c_days_5 c_likely_6 c_outOf_7 c_rateNow_8 c_pence_9 c_top_10 c_bottom_11 c_spot c_textLong c_fault c_number c_numberAt c_figures c_written c_wanted c_found c_drawnNow c_worth_12 c_hold_13 c_way c_acts_14 c_sDay_15 c_sUps_16 c_sUp_17 c_sMarks_18 c_paidAll c_isPlayed c_isOn c_handMoved w38 c_regret_34 c_aside c_other c_states c_kept c_keptLong c_keptAt c_isTaking) := hD
              refine lv_aload_n hx hb dX9_does_96 rfl (lv_at hl 1 rfl) ?_
              refine lv_iconst (v := 0) hx hb dX9_does_97 (by decide) ?_
              refine va_put (D := (dC, dI)) (ci := 9) (v := .int 0) (ty := .boolean) (C := RX9) (T := TX9) (N := 45) hx hb hts (fun w h => gw_mem (inX9 w h)) tyX9 tyX9_ok nmX9 hown hK.1 hP hD hS 0 rfl rfl 34 (by decide) (hts _ (gw_mem wfX9_416)) (fun _ h9 => h9) rfl (by decide +kernel) rfl rfl (Nat.le_of_ble_eq_true rfl) dX9_does_98 (fun H locs hP hD hS => ?_)
              have hP : va_P (dC, dI) vwCl (mW dA ad c_tape c_taped c_tree c_bonds c_moves c_handMoves c_moved c_days_5 c_likely_6 c_outOf_7 c_rateNow_8 c_pence_9 c_top_10 c_bottom_11 c_spot c_textLong c_fault c_number c_numberAt c_figures c_written c_wanted c_found c_drawnNow c_worth_12 c_hold_13 c_way c_acts_14 c_sDay_15 c_sUps_16 c_sUp_17 c_sMarks_18 c_paidAll c_isPlayed 0 c_handMoved w38 c_regret_34 c_aside c_other c_states c_kept c_keptLong c_keptAt c_isTaking) H := hP
              have hD : va_D A (mW dA ad c_tape c_taped c_tree c_bonds c_moves c_handMoves c_moved c_days_5 c_likely_6 c_outOf_7 c_rateNow_8 c_pence_9 c_top_10 c_bottom_11 c_spot c_textLong c_fault c_number c_numberAt c_figures c_written c_wanted c_found c_drawnNow c_worth_12 c_hold_13 c_way c_acts_14 c_sDay_15 c_sUps_16 c_sUp_17 c_sMarks_18 c_paidAll c_isPlayed 0 c_handMoved w38 c_regret_34 c_aside c_other c_states c_kept c_keptLong c_keptAt c_isTaking) := hD
              refine lv_aload_n hx hb dX9_does_101 rfl (lv_at hl 1 rfl) ?_
              refine va_get (D := (dC, dI)) (ci := 9) (v := .long w38) (C := RX9) (T := TX9) (N := 45) hx hb hts (fun w h => gw_mem (inX9 w h)) hown hK.1 hP 0 rfl rfl 36 (by decide) (hts _ (gw_mem wfX9_419)) (fun _ h9 => h9) rfl dX9_does_102 ?_
              cases hf
              exact W.lret hx hb hr (fun t ht _ => gql hP hD hS ht) hS.2.2 dX9_does_105
            · replace hf := ifn (fun h => k33 (lc_ge.mpr h)) hf
              refine lv_ldc2 (v := (-3)) hx hb hown (hts _ (gw_mem wkX9_386)) dX9_does_66 ?_
              cases hf
              exact W.lret hx hb hr (fun t ht _ => gql hP hD hS ht) hS.2.2 dX9_does_69
          · replace hf := ifn k30 hf
            refine lv_ldc2 (v := (-2)) hx hb hown (hts _ (gw_mem wkX9_343)) dX9_does_49 ?_
            cases hf
            exact W.lret hx hb hr (fun t ht _ => gql hP hD hS ht) hS.2.2 dX9_does_52
    · replace hf := ifp k4 hf
      refine lv_ldc2 (v := (-1)) hx hb hown (hts _ (gw_mem wkX9_116)) dX9_does_19 ?_
      cases hf
      exact W.lret hx hb hr (fun t ht _ => gql hP hD hS ht) hS.2.2 dX9_does_22
abbrev rmX9_byHand : Room := { frames := 7, cells := 0, slots := 0, locals := 184 }
set_option maxHeartbeats 4000000 in
set_option maxRecDepth 100000 in
theorem tX9_byHand (l : Launch) (dC : Nat → ClassId) (dI : Nat → Nat → Nat) (dA : Nat → ClassId) (ad : Nat → Nat) (sz : Nat) {p1 : Int32} {c_tape : Nat → Int32} {c_taped : Int32} {c_tree : Nat → Int32} {c_bonds : Nat → Int32} {c_moves : Nat → Int32} {c_handMoves : Nat → Int32} {c_moved : Int32} {c_days : Int32} {c_likely : Int32} {c_outOf : Int32} {c_rateNow : Int32} {c_pence : Nat → Int64} {c_top : Int64} {c_bottom : Int64} {c_spot : Int32} {c_textLong : Int32} {c_fault : Int32} {c_number : Int32} {c_numberAt : Int32} {c_figures : Int32} {c_written : Int32} {c_wanted : Int32} {c_found : Int32} {c_drawnNow : Int32} {c_worth : Nat → Int64} {c_hold : Nat → Int64} {c_way : Nat → Int64} {c_acts : Nat → Int32} {c_sDay : Int32} {c_sUps : Int32} {c_sUp : Int32} {c_sMarks : Int32} {c_paidAll : Int64} {c_isPlayed : Int32} {c_isOn : Int32} {c_handMoved : Int32} {c_handPaid : Int64} {c_regret : Int64} {c_aside : Nat → Int32} {c_other : Nat → Int64} {c_states : Int32} {c_kept : Nat → Int32} {c_keptLong : Nat → Int64} {c_keptAt : Int32} {c_isTaking : Int32} {r : Int64} {o_c_days : Int32} {o_c_likely : Int32} {o_c_outOf : Int32} {o_c_rateNow : Int32} {o_c_pence : Nat → Int64} {o_c_top : Int64} {o_c_bottom : Int64} {o_c_worth : Nat → Int64} {o_c_hold : Nat → Int64} {o_c_acts : Nat → Int32} {o_c_sDay : Int32} {o_c_sUps : Int32} {o_c_sUp : Int32} {o_c_sMarks : Int32} (hf : fX9_byHand p1 c_tree c_bonds c_handMoves c_days c_likely c_outOf c_rateNow c_pence c_top c_bottom c_worth c_hold c_acts c_sDay c_sUps c_sUp c_sMarks c_isPlayed c_isOn c_handMoved c_handPaid c_regret = some (r, o_c_days, o_c_likely, o_c_outOf, o_c_rateNow, o_c_pence, o_c_top, o_c_bottom, o_c_worth, o_c_hold, o_c_acts, o_c_sDay, o_c_sUps, o_c_sUp, o_c_sMarks)) : Met l yX9_byHand (wq (Cond.code yX9_byHand cX9_byHand 2 (some .long))) rmX9_byHand (gP [.ref (ad 0), .int p1] (dC, dI) dA (mW dA ad c_tape c_taped c_tree c_bonds c_moves c_handMoves c_moved c_days c_likely c_outOf c_rateNow c_pence c_top c_bottom c_spot c_textLong c_fault c_number c_numberAt c_figures c_written c_wanted c_found c_drawnNow c_worth c_hold c_way c_acts c_sDay c_sUps c_sUp c_sMarks c_paidAll c_isPlayed c_isOn c_handMoved c_handPaid c_regret c_aside c_other c_states c_kept c_keptLong c_keptAt c_isTaking) sz) (gQl (dC, dI) r (mW dA ad c_tape c_taped c_tree c_bonds c_moves c_handMoves c_moved o_c_days o_c_likely o_c_outOf o_c_rateNow o_c_pence o_c_top o_c_bottom c_spot c_textLong c_fault c_number c_numberAt c_figures c_written c_wanted c_found c_drawnNow o_c_worth o_c_hold c_way o_c_acts o_c_sDay o_c_sUps o_c_sUp o_c_sMarks c_paidAll c_isPlayed c_isOn c_handMoved c_handPaid c_regret c_aside c_other c_states c_kept c_keptLong c_keptAt c_isTaking) (va_A (mW dA ad c_tape c_taped c_tree c_bonds c_moves c_handMoves c_moved c_days c_likely c_outOf c_rateNow c_pence c_top c_bottom c_spot c_textLong c_fault c_number c_numberAt c_figures c_written c_wanted c_found c_drawnNow c_worth c_hold c_way c_acts c_sDay c_sUps c_sUp c_sMarks c_paidAll c_isPlayed c_isOn c_handMoved c_handPaid c_regret c_aside c_other c_states c_kept c_keptLong c_keptAt c_isTaking) sz)) 0 0 (va_A (mW dA ad c_tape c_taped c_tree c_bonds c_moves c_handMoves c_moved c_days c_likely c_outOf c_rateNow c_pence c_top c_bottom c_spot c_textLong c_fault c_number c_numberAt c_figures c_written c_wanted c_found c_drawnNow c_worth c_hold c_way c_acts c_sDay c_sUps c_sUp c_sMarks c_paidAll c_isPlayed c_isOn c_handMoved c_handPaid c_regret c_aside c_other c_states c_kept c_keptLong c_keptAt c_isTaking) sz) := by
  refine Met.ofW (cc := cX9_byHand) (maxL := 2) (ret := (some .long)) (by decide) rfl ?_
  intro p e s m args below meth c s₁ B hml hv
  obtain ⟨rfl, hsz, hP, hK, hD0⟩ := hv
  have hx := B.exec
  have hb := B.bytes
  have hr := B.returns
  have hts := atoms_spec (ws := wq (Cond.code yX9_byHand cX9_byHand 2 (some .long))) B.pre
  have hown : s.vm.findClass RX9 = some m.cls := findClass_of_methodNamed B.named
  have hlocks := B.notSynchronized
  clear B
  subst hsz
  have hD := hD0.self (sz := s.heap.size)
  generalize hAe : va_A (mW dA ad c_tape c_taped c_tree c_bonds c_moves c_handMoves c_moved c_days c_likely c_outOf c_rateNow c_pence c_top c_bottom c_spot c_textLong c_fault c_number c_numberAt c_figures c_written c_wanted c_found c_drawnNow c_worth c_hold c_way c_acts c_sDay c_sUps c_sUp c_sMarks c_paidAll c_isPlayed c_isOn c_handMoved c_handPaid c_regret c_aside c_other c_states c_kept c_keptLong c_keptAt c_isTaking) s.heap.size = A at hD ⊢
  have hA : ∀ q : Nat, s.heap.size ≤ q → A q := fun q h => by rw [← hAe]; exact Or.inr h
  clear hAe hD0
  have hS : va_S A s.heap s.heap [] := va_S.rf
  have hl := lv_entry ([.ref (ad 0), .int p1]) (n := 2) (Nat.le_of_ble_eq_true rfl)
  rw [lg_entry_eq]
  generalize (lg_sl ([.ref (ad 0), .int p1]) ++ List.replicate (2 - (lg_sl ([.ref (ad 0), .int p1])).length) Slot.unset).toArray = ls at hl ⊢
  have hl : lv_has ls 2 [(0, .ref (ad 0)), (1, .int p1)] := hl
  change W p l e rmX9_byHand s m ([.ref (ad 0), .int p1] : List Value).toArray below meth c s.heap [] 0 0 _ _
  unfold fX9_byHand at hf
  refine lv_aload_n hx hb dX9_byHand_0 rfl (lv_at hl 0 rfl) ?_
  refine va_get (D := (dC, dI)) (ci := 9) (v := .int c_isPlayed) (C := RX9) (T := TX9) (N := 45) hx hb hts (fun w h => gw_mem (inX9 w h)) hown hK.1 hP 0 rfl rfl 33 (by decide) (hts _ (gw_mem wfX9_412)) (fun _ h9 => h9) rfl dX9_byHand_1 ?_
  refine lv_if_eq (tgt := 19) hx hb dX9_byHand_4 (by decide) (fun k1 => ?_) (fun k1 => ?_)
  · replace hf := ifp k1 hf
    refine lv_ldc2 (v := (-1)) hx hb hown (hts _ (gw_mem wkX9_116)) dX9_byHand_19 ?_
    cases hf
    exact W.lret hx hb hr (fun t ht _ => gql hP hD hS ht) hS.2.2 dX9_byHand_22
  · replace hf := ifn k1 hf
    refine lv_iload_n hx hb dX9_byHand_7 rfl (lv_at hl 1 rfl) ?_
    refine lv_i2l hx hb dX9_byHand_8 rfl ?_
    refine lv_lconst (v := 0) hx hb dX9_byHand_9 rfl ?_
    refine lv_ldc2 (v := 4) hx hb hown (hts _ (gw_mem wkX9_147)) dX9_byHand_10 ?_
    obtain ⟨r2, v3, hf⟩ := bd1_some hf
    refine gci0 (va_runS (As := [.long (Int32.toInt64 p1), .long 0, .long 4]) (rest := []) ⟨hx, hb, hml, hown, hts⟩ (tX9_in l dC dI dA s.heap.size v3) (ccX9_X9_in hts ⟨Nat.le_of_ble_eq_true rfl, Nat.le_of_ble_eq_true rfl⟩) (gPreS0 hK) rfl rfl hl.1 rfl (lv_room (Nat.le_of_ble_eq_true rfl)) dX9_byHand_13 ⟨Nat.le_of_ble_eq_true rfl, Nat.le_of_ble_eq_true rfl⟩) hP hS hA (fun H locs hP hS => ?_)
    refine lv_if_ne (tgt := 23) hx hb dX9_byHand_16 (by decide) (fun k4 => ?_) (fun k4 => ?_)
    · replace hf := ifn k4 hf
      refine lv_aload_n hx hb dX9_byHand_23 rfl (lv_at hl 0 rfl) ?_
      obtain ⟨c_days_5, c_likely_6, c_outOf_7, c_rateNow_8, c_pence_9, c_top_10, c_bottom_11, c_worth_12, c_hold_13, c_acts_14, c_sDay_15, c_sUps_16, c_sUp_17, c_sMarks_18, v19, hf⟩ := bd14_some hf
      refine gcv (va_runV (As := []) (rest := []) ⟨hx, hb, hml, hown, hts⟩ (tX9_standsByHand l dC dI dA ad H.size v19) (ccX9_X9_standsByHand hts ⟨Nat.le_of_ble_eq_true rfl, Nat.le_of_ble_eq_true rfl⟩) (gPreV (ci := 9) (q0 := 0) hP hK hD rfl rfl) rfl rfl hl.1 rfl (lv_room (Nat.le_of_ble_eq_true rfl)) dX9_byHand_24 ⟨Nat.le_of_ble_eq_true rfl, Nat.le_of_ble_eq_true rfl⟩) hD hS hA (fun H locs hP hD hS => ?_)
      refine lv_iload_n hx hb dX9_byHand_27 rfl (lv_at hl 1 rfl) ?_
      obtain ⟨j21, v23, hf⟩ := bd1_some hf
      have J22 : ∀ (H : Heap) (locs : List Loc) (ls : Array Slot), va_P (dC, dI) vwCl (mW dA ad c_tape c_taped c_tree c_bonds c_moves c_handMoves c_moved c_days_5 c_likely_6 c_outOf_7 c_rateNow_8 c_pence_9 c_top_10 c_bottom_11 c_spot c_textLong c_fault c_number c_numberAt c_figures c_written c_wanted c_found c_drawnNow c_worth_12 c_hold_13 c_way c_acts_14 c_sDay_15 c_sUps_16 c_sUp_17 c_sMarks_18 c_paidAll c_isPlayed c_isOn c_handMoved c_handPaid c_regret c_aside c_other c_states c_kept c_keptLong c_keptAt c_isTaking) H → va_D A (mW dA ad c_tape c_taped c_tree c_bonds c_moves c_handMoves c_moved c_days_5 c_likely_6 c_outOf_7 c_rateNow_8 c_pence_9 c_top_10 c_bottom_11 c_spot c_textLong c_fault c_number c_numberAt c_figures c_written c_wanted c_found c_drawnNow c_worth_12 c_hold_13 c_way c_acts_14 c_sDay_15 c_sUps_16 c_sUp_17 c_sMarks_18 c_paidAll c_isPlayed c_isOn c_handMoved c_handPaid c_regret c_aside c_other c_states c_kept c_keptLong c_keptAt c_isTaking) → va_S A s.heap H locs → lv_has ls 2 [] → W p l e rmX9_byHand s m ([.ref (ad 0), .int p1] : List Value).toArray below meth c H locs 0 0 (MQ below (gQl (dC, dI) r (mW dA ad c_tape c_taped c_tree c_bonds c_moves c_handMoves c_moved o_c_days o_c_likely o_c_outOf o_c_rateNow o_c_pence o_c_top o_c_bottom c_spot c_textLong c_fault c_number c_numberAt c_figures c_written c_wanted c_found c_drawnNow o_c_worth o_c_hold c_way o_c_acts o_c_sDay o_c_sUps o_c_sUp o_c_sMarks c_paidAll c_isPlayed c_isOn c_handMoved c_handPaid c_regret c_aside c_other c_states c_kept c_keptLong c_keptAt c_isTaking) A) ([.ref (ad 0), .int p1] : List Value).toArray s 0 0 A) (F0 m 93 ls [.long j21]) := by
        intro H locs ls hP hD hS hl
        cases hf
        exact W.lret hx hb hr (fun t ht _ => gql hP hD hS ht) hS.2.2 dX9_byHand_93
      replace hf := v23
      clear v23
      refine lv_if_ne (tgt := 46) hx hb dX9_byHand_28 (by decide) (fun k20 => ?_) (fun k20 => ?_)
      · replace hf := ifn k20 hf
        refine lv_iload_n hx hb dX9_byHand_46 rfl (lv_at hl 1 rfl) ?_
        refine lv_iconst (v := 1) hx hb dX9_byHand_47 (by decide) ?_
        refine lv_icmp_ne (tgt := 59) hx hb dX9_byHand_48 (by decide) (fun k24 => ?_) (fun k24 => ?_)
        · replace hf := ifn k24 hf
          refine lv_iload_n hx hb dX9_byHand_59 rfl (lv_at hl 1 rfl) ?_
          refine lv_iconst (v := 2) hx hb dX9_byHand_60 (by decide) ?_
          refine lv_icmp_ne (tgt := 71) hx hb dX9_byHand_61 (by decide) (fun k25 => ?_) (fun k25 => ?_)
          · replace hf := ifn k25 hf
            refine lv_iload_n hx hb dX9_byHand_71 rfl (lv_at hl 1 rfl) ?_
            refine lv_iconst (v := 3) hx hb dX9_byHand_72 (by decide) ?_
            refine lv_icmp_ne (tgt := 83) hx hb dX9_byHand_73 (by decide) (fun k26 => ?_) (fun k26 => ?_)
            · replace hf := ifn k26 hf
              refine lv_aload_n hx hb dX9_byHand_83 rfl (lv_at hl 0 rfl) ?_
              refine va_get (D := (dC, dI)) (ci := 9) (v := .ref (ad 10)) (C := RX9) (T := TX9) (N := 45) hx hb hts (fun w h => gw_mem (inX9 w h)) hown hK.1 hP 0 rfl rfl 27 (by decide) (hts _ (gw_mem wfX9_39)) (fun _ h9 => h9) rfl dX9_byHand_84 ?_
              refine lv_aload_n hx hb dX9_byHand_87 rfl (lv_at hl 0 rfl) ?_
              obtain ⟨r27, v28, hf⟩ := bd1_some hf
              refine gci (va_runV (As := []) (rest := [.ref (ad 10)]) ⟨hx, hb, hml, hown, hts⟩ (tX9_hereNow l dC dI dA ad H.size v28) (ccX9_X9_hereNow hts ⟨Nat.le_of_ble_eq_true rfl, Nat.le_of_ble_eq_true rfl⟩) (gPreV (ci := 9) (q0 := 0) hP hK hD rfl rfl) rfl rfl hl.1 rfl (lv_room (Nat.le_of_ble_eq_true rfl)) dX9_byHand_88 ⟨Nat.le_of_ble_eq_true rfl, Nat.le_of_ble_eq_true rfl⟩) hD hS hA (fun H locs hP hD hS => ?_)
              obtain ⟨h29, hf⟩ := og_some hf
              refine va_iald hx hb hK.1 hP 10 0 rfl rfl (okI_in h29) dX9_byHand_91 ?_
              refine lv_i2l hx hb dX9_byHand_92 rfl ?_
              cases hf
              exact J22 _ _ _ hP hD hS (lv_sub hl [] rfl)
            · replace hf := ifp k26 hf
              refine lv_aload_n hx hb dX9_byHand_76 rfl (lv_at hl 0 rfl) ?_
              refine va_get (D := (dC, dI)) (ci := 9) (v := .long c_regret) (C := RX9) (T := TX9) (N := 45) hx hb hts (fun w h => gw_mem (inX9 w h)) hown hK.1 hP 0 rfl rfl 37 (by decide) (hts _ (gw_mem wfX9_422)) (fun _ h9 => h9) rfl dX9_byHand_77 ?_
              refine lv_goto (tgt := 93) hx hb dX9_byHand_80 (by decide) ?_
              cases hf
              exact J22 _ _ _ hP hD hS (lv_sub hl [] rfl)
          · replace hf := ifp k25 hf
            refine lv_aload_n hx hb dX9_byHand_64 rfl (lv_at hl 0 rfl) ?_
            refine va_get (D := (dC, dI)) (ci := 9) (v := .long c_handPaid) (C := RX9) (T := TX9) (N := 45) hx hb hts (fun w h => gw_mem (inX9 w h)) hown hK.1 hP 0 rfl rfl 36 (by decide) (hts _ (gw_mem wfX9_419)) (fun _ h9 => h9) rfl dX9_byHand_65 ?_
            refine lv_goto (tgt := 93) hx hb dX9_byHand_68 (by decide) ?_
            cases hf
            exact J22 _ _ _ hP hD hS (lv_sub hl [] rfl)
        · replace hf := ifp k24 hf
          refine lv_aload_n hx hb dX9_byHand_51 rfl (lv_at hl 0 rfl) ?_
          refine va_get (D := (dC, dI)) (ci := 9) (v := .int c_sDay_15) (C := RX9) (T := TX9) (N := 45) hx hb hts (fun w h => gw_mem (inX9 w h)) hown hK.1 hP 0 rfl rfl 28 (by decide) (hts _ (gw_mem wfX9_316)) (fun _ h9 => h9) rfl dX9_byHand_52 ?_
          refine lv_i2l hx hb dX9_byHand_55 rfl ?_
          refine lv_goto (tgt := 93) hx hb dX9_byHand_56 (by decide) ?_
          cases hf
          exact J22 _ _ _ hP hD hS (lv_sub hl [] rfl)
      · replace hf := ifp k20 hf
        refine lv_aload_n hx hb dX9_byHand_31 rfl (lv_at hl 0 rfl) ?_
        refine va_get (D := (dC, dI)) (ci := 9) (v := .int c_isOn) (C := RX9) (T := TX9) (N := 45) hx hb hts (fun w h => gw_mem (inX9 w h)) hown hK.1 hP 0 rfl rfl 34 (by decide) (hts _ (gw_mem wfX9_416)) (fun _ h9 => h9) rfl dX9_byHand_32 ?_
        refine lv_if_eq (tgt := 42) hx hb dX9_byHand_35 (by decide) (fun k30 => ?_) (fun k30 => ?_)
        · replace hf := ifp k30 hf
          refine lv_lconst (v := 0) hx hb dX9_byHand_42 rfl ?_
          refine lv_goto (tgt := 93) hx hb dX9_byHand_43 (by decide) ?_
          cases hf
          exact J22 _ _ _ hP hD hS (lv_sub hl [] rfl)
        · replace hf := ifn k30 hf
          refine lv_lconst (v := 1) hx hb dX9_byHand_38 rfl ?_
          refine lv_goto (tgt := 93) hx hb dX9_byHand_39 (by decide) ?_
          cases hf
          exact J22 _ _ _ hP hD hS (lv_sub hl [] rfl)
    · replace hf := ifp k4 hf
      refine lv_ldc2 (v := (-1)) hx hb hown (hts _ (gw_mem wkX9_116)) dX9_byHand_19 ?_
      cases hf
      exact W.lret hx hb hr (fun t ht _ => gql hP hD hS ht) hS.2.2 dX9_byHand_22
abbrev rmX9_laysByRule : Room := { frames := 4, cells := 0, slots := 0, locals := 103 }
set_option maxHeartbeats 4000000 in
set_option maxRecDepth 100000 in
theorem tX9_laysByRule (l : Launch) (dC : Nat → ClassId) (dI : Nat → Nat → Nat) (dA : Nat → ClassId) (ad : Nat → Nat) (sz : Nat) {p1 : Int32} {p2 : Int32} {p3 : Int32} {p4 : Int32} {p5 : Int32} {p6 : Int32} {p7 : Int32} {c_tape : Nat → Int32} {c_taped : Int32} {c_tree : Nat → Int32} {c_bonds : Nat → Int32} {c_moves : Nat → Int32} {c_handMoves : Nat → Int32} {c_moved : Int32} {c_days : Int32} {c_likely : Int32} {c_outOf : Int32} {c_rateNow : Int32} {c_pence : Nat → Int64} {c_top : Int64} {c_bottom : Int64} {c_spot : Int32} {c_textLong : Int32} {c_fault : Int32} {c_number : Int32} {c_numberAt : Int32} {c_figures : Int32} {c_written : Int32} {c_wanted : Int32} {c_found : Int32} {c_drawnNow : Int32} {c_worth : Nat → Int64} {c_hold : Nat → Int64} {c_way : Nat → Int64} {c_acts : Nat → Int32} {c_sDay : Int32} {c_sUps : Int32} {c_sUp : Int32} {c_sMarks : Int32} {c_paidAll : Int64} {c_isPlayed : Int32} {c_isOn : Int32} {c_handMoved : Int32} {c_handPaid : Int64} {c_regret : Int64} {c_aside : Nat → Int32} {c_other : Nat → Int64} {c_states : Int32} {c_kept : Nat → Int32} {c_keptLong : Nat → Int64} {c_keptAt : Int32} {c_isTaking : Int32} {o_c_worth : Nat → Int64} {o_c_acts : Nat → Int32} (hf : fX9_laysByRule p1 p2 p3 p4 p5 p6 p7 c_bonds c_days c_likely c_outOf c_rateNow c_pence c_worth c_acts = some (o_c_worth, o_c_acts)) : Met l yX9_laysByRule (wq (Cond.code yX9_laysByRule cX9_laysByRule 11 none)) rmX9_laysByRule (gP [.ref (ad 0), .int p1, .int p2, .int p3, .int p4, .int p5, .int p6, .int p7] (dC, dI) dA (mW dA ad c_tape c_taped c_tree c_bonds c_moves c_handMoves c_moved c_days c_likely c_outOf c_rateNow c_pence c_top c_bottom c_spot c_textLong c_fault c_number c_numberAt c_figures c_written c_wanted c_found c_drawnNow c_worth c_hold c_way c_acts c_sDay c_sUps c_sUp c_sMarks c_paidAll c_isPlayed c_isOn c_handMoved c_handPaid c_regret c_aside c_other c_states c_kept c_keptLong c_keptAt c_isTaking) sz) (gQv (dC, dI) (mW dA ad c_tape c_taped c_tree c_bonds c_moves c_handMoves c_moved c_days c_likely c_outOf c_rateNow c_pence c_top c_bottom c_spot c_textLong c_fault c_number c_numberAt c_figures c_written c_wanted c_found c_drawnNow o_c_worth c_hold c_way o_c_acts c_sDay c_sUps c_sUp c_sMarks c_paidAll c_isPlayed c_isOn c_handMoved c_handPaid c_regret c_aside c_other c_states c_kept c_keptLong c_keptAt c_isTaking) (va_A (mW dA ad c_tape c_taped c_tree c_bonds c_moves c_handMoves c_moved c_days c_likely c_outOf c_rateNow c_pence c_top c_bottom c_spot c_textLong c_fault c_number c_numberAt c_figures c_written c_wanted c_found c_drawnNow c_worth c_hold c_way c_acts c_sDay c_sUps c_sUp c_sMarks c_paidAll c_isPlayed c_isOn c_handMoved c_handPaid c_regret c_aside c_other c_states c_kept c_keptLong c_keptAt c_isTaking) sz)) 0 0 (va_A (mW dA ad c_tape c_taped c_tree c_bonds c_moves c_handMoves c_moved c_days c_likely c_outOf c_rateNow c_pence c_top c_bottom c_spot c_textLong c_fault c_number c_numberAt c_figures c_written c_wanted c_found c_drawnNow c_worth c_hold c_way c_acts c_sDay c_sUps c_sUp c_sMarks c_paidAll c_isPlayed c_isOn c_handMoved c_handPaid c_regret c_aside c_other c_states c_kept c_keptLong c_keptAt c_isTaking) sz) := by
  refine Met.ofW (cc := cX9_laysByRule) (maxL := 11) (ret := none) (by decide) rfl ?_
  intro p e s m args below meth c s₁ B hml hv
  obtain ⟨rfl, hsz, hP, hK, hD0⟩ := hv
  have hx := B.exec
  have hb := B.bytes
  have hr := B.returns
  have hts := atoms_spec (ws := wq (Cond.code yX9_laysByRule cX9_laysByRule 11 none)) B.pre
  have hown : s.vm.findClass RX9 = some m.cls := findClass_of_methodNamed B.named
  have hlocks := B.notSynchronized
  clear B
  subst hsz
  have hD := hD0.self (sz := s.heap.size)
  generalize hAe : va_A (mW dA ad c_tape c_taped c_tree c_bonds c_moves c_handMoves c_moved c_days c_likely c_outOf c_rateNow c_pence c_top c_bottom c_spot c_textLong c_fault c_number c_numberAt c_figures c_written c_wanted c_found c_drawnNow c_worth c_hold c_way c_acts c_sDay c_sUps c_sUp c_sMarks c_paidAll c_isPlayed c_isOn c_handMoved c_handPaid c_regret c_aside c_other c_states c_kept c_keptLong c_keptAt c_isTaking) s.heap.size = A at hD ⊢
  have hA : ∀ q : Nat, s.heap.size ≤ q → A q := fun q h => by rw [← hAe]; exact Or.inr h
  clear hAe hD0
  have hS : va_S A s.heap s.heap [] := va_S.rf
  have hl := lv_entry ([.ref (ad 0), .int p1, .int p2, .int p3, .int p4, .int p5, .int p6, .int p7]) (n := 11) (Nat.le_of_ble_eq_true rfl)
  rw [lg_entry_eq]
  generalize (lg_sl ([.ref (ad 0), .int p1, .int p2, .int p3, .int p4, .int p5, .int p6, .int p7]) ++ List.replicate (11 - (lg_sl ([.ref (ad 0), .int p1, .int p2, .int p3, .int p4, .int p5, .int p6, .int p7])).length) Slot.unset).toArray = ls at hl ⊢
  have hl : lv_has ls 11 [(0, .ref (ad 0)), (1, .int p1), (2, .int p2), (3, .int p3), (4, .int p4), (5, .int p5), (6, .int p6), (7, .int p7)] := hl
  change W p l e rmX9_laysByRule s m ([.ref (ad 0), .int p1, .int p2, .int p3, .int p4, .int p5, .int p6, .int p7] : List Value).toArray below meth c s.heap [] 0 0 _ _
  unfold fX9_laysByRule at hf
  refine lv_iload_n hx hb dX9_laysByRule_0 rfl (lv_at hl 2 rfl) ?_
  refine lv_iload_n hx hb dX9_laysByRule_1 rfl (lv_at hl 3 rfl) ?_
  refine lv_iload hx hb dX9_laysByRule_2 (lv_at hl 4 rfl) ?_
  refine lv_iload hx hb dX9_laysByRule_4 (lv_at hl 5 rfl) ?_
  obtain ⟨r1, v2, hf⟩ := bd1_some hf
  refine gci0 (va_runS (As := [.int p2, .int p3, .int p4, .int p5]) (rest := []) ⟨hx, hb, hml, hown, hts⟩ (tX9_at l dC dI dA s.heap.size v2) (ccX9_X9_at hts ⟨Nat.le_of_ble_eq_true rfl, Nat.le_of_ble_eq_true rfl⟩) (gPreS0 hK) rfl rfl hl.1 rfl (lv_room (Nat.le_of_ble_eq_true rfl)) dX9_laysByRule_6 ⟨Nat.le_of_ble_eq_true rfl, Nat.le_of_ble_eq_true rfl⟩) hP hS hA (fun H locs hP hS => ?_)
  refine lv_istore (lv' := [(8, .int r1), (0, .ref (ad 0)), (1, .int p1), (2, .int p2), (3, .int p3), (4, .int p4), (5, .int p5), (6, .int p6), (7, .int p7)]) hx hb dX9_laysByRule_9 hl (by decide) rfl (fun ls hl => ?_)
  refine lv_aload_n hx hb dX9_laysByRule_11 rfl (lv_at hl 1 rfl) ?_
  refine lv_iload_n hx hb dX9_laysByRule_12 rfl (lv_at hl 2 rfl) ?_
  refine lv_iload_n hx hb dX9_laysByRule_13 rfl (lv_at hl 3 rfl) ?_
  refine lv_iload_n hx hb dX9_laysByRule_14 rfl (lv_at hl 4 rfl) ?_
  refine lv_iload hx hb dX9_laysByRule_15 (lv_at hl 5 rfl) ?_
  obtain ⟨r3, v4, hf⟩ := bd1_some hf
  refine gcl (va_runV (As := [.int p1, .int p2, .int p3, .int p4]) (rest := []) ⟨hx, hb, hml, hown, hts⟩ (tX9_turned l dC dI dA ad H.size v4) (ccX9_X9_turned hts ⟨Nat.le_of_ble_eq_true rfl, Nat.le_of_ble_eq_true rfl⟩) (gPreV (ci := 9) (q0 := 0) hP hK hD rfl rfl) rfl rfl hl.1 rfl (lv_room (Nat.le_of_ble_eq_true rfl)) dX9_laysByRule_17 ⟨Nat.le_of_ble_eq_true rfl, Nat.le_of_ble_eq_true rfl⟩) hD hS hA (fun H locs hP hD hS => ?_)
  refine lv_lstore (lv' := [(9, .long r3), (8, .int r1), (0, .ref (ad 0)), (1, .int p1), (2, .int p2), (3, .int p3), (4, .int p4), (5, .int p5), (6, .int p6), (7, .int p7)]) hx hb dX9_laysByRule_20 hl (by decide) rfl (fun ls hl => ?_)
  refine lv_lload hx hb dX9_laysByRule_22 (lv_at hl 0 rfl) ?_
  refine lv_ldc2 (v := (-1)) hx hb hown (hts _ (gw_mem wkX9_116)) dX9_laysByRule_24 ?_
  refine W.lcmp hx hb dX9_laysByRule_27 ?_
  obtain ⟨c_worth_6, c_acts_7, v9, hf⟩ := bd2_some hf
  have J8 : ∀ (H : Heap) (locs : List Loc) (ls : Array Slot), va_P (dC, dI) vwCl (mW dA ad c_tape c_taped c_tree c_bonds c_moves c_handMoves c_moved c_days c_likely c_outOf c_rateNow c_pence c_top c_bottom c_spot c_textLong c_fault c_number c_numberAt c_figures c_written c_wanted c_found c_drawnNow c_worth_6 c_hold c_way c_acts_7 c_sDay c_sUps c_sUp c_sMarks c_paidAll c_isPlayed c_isOn c_handMoved c_handPaid c_regret c_aside c_other c_states c_kept c_keptLong c_keptAt c_isTaking) H → va_D A (mW dA ad c_tape c_taped c_tree c_bonds c_moves c_handMoves c_moved c_days c_likely c_outOf c_rateNow c_pence c_top c_bottom c_spot c_textLong c_fault c_number c_numberAt c_figures c_written c_wanted c_found c_drawnNow c_worth_6 c_hold c_way c_acts_7 c_sDay c_sUps c_sUp c_sMarks c_paidAll c_isPlayed c_isOn c_handMoved c_handPaid c_regret c_aside c_other c_states c_kept c_keptLong c_keptAt c_isTaking) → va_S A s.heap H locs → lv_has ls 11 [] → W p l e rmX9_laysByRule s m ([.ref (ad 0), .int p1, .int p2, .int p3, .int p4, .int p5, .int p6, .int p7] : List Value).toArray below meth c H locs 0 0 (MQ below (gQv (dC, dI) (mW dA ad c_tape c_taped c_tree c_bonds c_moves c_handMoves c_moved c_days c_likely c_outOf c_rateNow c_pence c_top c_bottom c_spot c_textLong c_fault c_number c_numberAt c_figures c_written c_wanted c_found c_drawnNow o_c_worth c_hold c_way o_c_acts c_sDay c_sUps c_sUp c_sMarks c_paidAll c_isPlayed c_isOn c_handMoved c_handPaid c_regret c_aside c_other c_states c_kept c_keptLong c_keptAt c_isTaking) A) ([.ref (ad 0), .int p1, .int p2, .int p3, .int p4, .int p5, .int p6, .int p7] : List Value).toArray s 0 0 A) (F0 m 192 ls []) := by
    intro H locs ls hP hD hS hl
    cases hf
    exact W.vret hx hb hr (fun t ht _ => gqv hP hD hS ht) hS.2.2 dX9_laysByRule_192
  replace hf := v9
  clear v9
  refine lv_if_eq (tgt := 77) hx hb dX9_laysByRule_28 (by decide) (fun k5 => ?_) (fun k5 => ?_)
  · replace hf := ifp (lc_eq.mp k5) hf
    refine lv_aload_n hx hb dX9_laysByRule_77 rfl (lv_at hl 2 rfl) ?_
    refine lv_iload_n hx hb dX9_laysByRule_78 rfl (lv_at hl 3 rfl) ?_
    refine lv_iload_n hx hb dX9_laysByRule_79 rfl (lv_at hl 4 rfl) ?_
    refine lv_iload hx hb dX9_laysByRule_80 (lv_at hl 7 rfl) ?_
    obtain ⟨r10, v11, hf⟩ := bd1_some hf
    refine gci (va_runV (As := [.int p1, .int p2, .int p5]) (rest := []) ⟨hx, hb, hml, hown, hts⟩ (tX9_isFree l dC dI dA ad H.size v11) (ccX9_X9_isFree hts ⟨Nat.le_of_ble_eq_true rfl, Nat.le_of_ble_eq_true rfl⟩) (gPreV (ci := 9) (q0 := 0) hP hK hD rfl rfl) rfl rfl hl.1 rfl (lv_room (Nat.le_of_ble_eq_true rfl)) dX9_laysByRule_82 ⟨Nat.le_of_ble_eq_true rfl, Nat.le_of_ble_eq_true rfl⟩) hD hS hA (fun H locs hP hD hS => ?_)
    refine lv_if_eq (tgt := 158) hx hb dX9_laysByRule_85 (by decide) (fun k12 => ?_) (fun k12 => ?_)
    · replace hf := ifp k12 hf
      refine lv_aload_n hx hb dX9_laysByRule_158 rfl (lv_at hl 2 rfl) ?_
      refine va_get (D := (dC, dI)) (ci := 9) (v := .ref (ad 10)) (C := RX9) (T := TX9) (N := 45) hx hb hts (fun w h => gw_mem (inX9 w h)) hown hK.1 hP 0 rfl rfl 27 (by decide) (hts _ (gw_mem wfX9_39)) (fun _ h9 => h9) rfl dX9_laysByRule_159 ?_
      refine lv_iload hx hb dX9_laysByRule_162 (lv_at hl 1 rfl) ?_
      refine lv_iconst (v := 0) hx hb dX9_laysByRule_164 (by decide) ?_
      obtain ⟨h13, hf⟩ := og_some hf
      obtain ⟨w14, ew14⟩ : ∃ y : Nat → Int32, y = upd c_acts (Int32.toNatClampNeg r1) 0 := ⟨_, rfl⟩
      replace hf := nm_at hf ew14
      refine va_iast hx hb hK.1 hP hD hS 10 0 rfl rfl (okI_in h13) dX9_laysByRule_165 (fun H locs hP hD hS => ?_)
      have hP : va_P (dC, dI) vwCl (mW dA ad c_tape c_taped c_tree c_bonds c_moves c_handMoves c_moved c_days c_likely c_outOf c_rateNow c_pence c_top c_bottom c_spot c_textLong c_fault c_number c_numberAt c_figures c_written c_wanted c_found c_drawnNow c_worth c_hold c_way w14 c_sDay c_sUps c_sUp c_sMarks c_paidAll c_isPlayed c_isOn c_handMoved c_handPaid c_regret c_aside c_other c_states c_kept c_keptLong c_keptAt c_isTaking) H := by rw [ew14]; exact hP
      have hD : va_D A (mW dA ad c_tape c_taped c_tree c_bonds c_moves c_handMoves c_moved c_days c_likely c_outOf c_rateNow c_pence c_top c_bottom c_spot c_textLong c_fault c_number c_numberAt c_figures c_written c_wanted c_found c_drawnNow c_worth c_hold c_way w14 c_sDay c_sUps c_sUp c_sMarks c_paidAll c_isPlayed c_isOn c_handMoved c_handPaid c_regret c_aside c_other c_states c_kept c_keptLong c_keptAt c_isTaking) := by rw [ew14]; exact hD
      refine lv_aload_n hx hb dX9_laysByRule_166 rfl (lv_at hl 2 rfl) ?_
      refine va_get (D := (dC, dI)) (ci := 9) (v := .ref (ad 7)) (C := RX9) (T := TX9) (N := 45) hx hb hts (fun w h => gw_mem (inX9 w h)) hown hK.1 hP 0 rfl rfl 24 (by decide) (hts _ (gw_mem wfX9_30)) (fun _ h9 => h9) rfl dX9_laysByRule_167 ?_
      refine lv_iload hx hb dX9_laysByRule_170 (lv_at hl 1 rfl) ?_
      refine lv_aload_n hx hb dX9_laysByRule_172 rfl (lv_at hl 2 rfl) ?_
      refine lv_iload_n hx hb dX9_laysByRule_173 rfl (lv_at hl 3 rfl) ?_
      refine lv_iload_n hx hb dX9_laysByRule_174 rfl (lv_at hl 4 rfl) ?_
      obtain ⟨r15, v16, hf⟩ := bd1_some hf
      refine gci (va_runV (As := [.int p1, .int p2]) (rest := [.int r1, .ref (ad 7)]) ⟨hx, hb, hml, hown, hts⟩ (tX9_couponOf l dC dI dA ad H.size v16) (ccX9_X9_couponOf hts ⟨Nat.le_of_ble_eq_true rfl, Nat.le_of_ble_eq_true rfl⟩) (gPreV (ci := 9) (q0 := 0) hP hK hD rfl rfl) rfl rfl hl.1 rfl (lv_room (Nat.le_of_ble_eq_true rfl)) dX9_laysByRule_175 ⟨Nat.le_of_ble_eq_true rfl, Nat.le_of_ble_eq_true rfl⟩) hD hS hA (fun H locs hP hD hS => ?_)
      refine lv_i2l hx hb dX9_laysByRule_178 rfl ?_
      refine lv_aload_n hx hb dX9_laysByRule_179 rfl (lv_at hl 2 rfl) ?_
      refine lv_iload_n hx hb dX9_laysByRule_180 rfl (lv_at hl 3 rfl) ?_
      refine lv_iload_n hx hb dX9_laysByRule_181 rfl (lv_at hl 4 rfl) ?_
      refine lv_iload_n hx hb dX9_laysByRule_182 rfl (lv_at hl 5 rfl) ?_
      refine lv_iload hx hb dX9_laysByRule_183 (lv_at hl 6 rfl) ?_
      refine lv_iload hx hb dX9_laysByRule_185 (lv_at hl 7 rfl) ?_
      obtain ⟨r17, v18, hf⟩ := bd1_some hf
      refine gcl (va_runV (As := [.int p1, .int p2, .int p3, .int p4, .int p5]) (rest := [.long (Int32.toInt64 r15), .int r1, .ref (ad 7)]) ⟨hx, hb, hml, hown, hts⟩ (tX9_holds l dC dI dA ad H.size v18) (ccX9_X9_holds hts ⟨Nat.le_of_ble_eq_true rfl, Nat.le_of_ble_eq_true rfl⟩) (gPreV (ci := 9) (q0 := 0) hP hK hD rfl rfl) rfl rfl hl.1 rfl (lv_room (Nat.le_of_ble_eq_true rfl)) dX9_laysByRule_187 ⟨Nat.le_of_ble_eq_true rfl, Nat.le_of_ble_eq_true rfl⟩) hD hS hA (fun H locs hP hD hS => ?_)
      refine lv_ladd hx hb dX9_laysByRule_190 ?_
      obtain ⟨h19, hf⟩ := og_some hf
      obtain ⟨w20, ew20⟩ : ∃ y : Nat → Int64, y = vp_updL c_worth (Int32.toNatClampNeg r1) ((Int32.toInt64 r15) + r17) := ⟨_, rfl⟩
      replace hf := nm_at hf ew20
      refine va_last hx hb hK.1 hP hD hS 7 1 rfl rfl (okI_in h19) dX9_laysByRule_191 (fun H locs hP hD hS => ?_)
      have hP : va_P (dC, dI) vwCl (mW dA ad c_tape c_taped c_tree c_bonds c_moves c_handMoves c_moved c_days c_likely c_outOf c_rateNow c_pence c_top c_bottom c_spot c_textLong c_fault c_number c_numberAt c_figures c_written c_wanted c_found c_drawnNow w20 c_hold c_way w14 c_sDay c_sUps c_sUp c_sMarks c_paidAll c_isPlayed c_isOn c_handMoved c_handPaid c_regret c_aside c_other c_states c_kept c_keptLong c_keptAt c_isTaking) H := by rw [ew20]; exact hP
      have hD : va_D A (mW dA ad c_tape c_taped c_tree c_bonds c_moves c_handMoves c_moved c_days c_likely c_outOf c_rateNow c_pence c_top c_bottom c_spot c_textLong c_fault c_number c_numberAt c_figures c_written c_wanted c_found c_drawnNow w20 c_hold c_way w14 c_sDay c_sUps c_sUp c_sMarks c_paidAll c_isPlayed c_isOn c_handMoved c_handPaid c_regret c_aside c_other c_states c_kept c_keptLong c_keptAt c_isTaking) := by rw [ew20]; exact hD
      cases hf
      exact J8 _ _ _ hP hD hS (lv_sub hl [] rfl)
    · replace hf := ifn k12 hf
      refine lv_aload_n hx hb dX9_laysByRule_88 rfl (lv_at hl 2 rfl) ?_
      refine va_get (D := (dC, dI)) (ci := 9) (v := .ref (ad 6)) (C := RX9) (T := TX9) (N := 45) hx hb hts (fun w h => gw_mem (inX9 w h)) hown hK.1 hP 0 rfl rfl 11 (by decide) (hts _ (gw_mem wfX9_26)) (fun _ h9 => h9) rfl dX9_laysByRule_89 ?_
      refine lv_bipush (v := 7) hx hb dX9_laysByRule_92 (by decide) ?_
      refine lv_iload_n hx hb dX9_laysByRule_94 rfl (lv_at hl 4 rfl) ?_
      refine lv_imul hx hb dX9_laysByRule_95 ?_
      refine lv_iload_n hx hb dX9_laysByRule_96 rfl (lv_at hl 5 rfl) ?_
      refine lv_iadd hx hb dX9_laysByRule_97 ?_
      obtain ⟨h21, hf⟩ := og_some hf
      refine va_lald hx hb hK.1 hP 6 1 rfl rfl (okI_in h21) dX9_laysByRule_98 ?_
      refine lv_iload hx hb dX9_laysByRule_99 (lv_at hl 9 rfl) ?_
      refine lv_i2l hx hb dX9_laysByRule_101 rfl ?_
      refine W.lcmp hx hb dX9_laysByRule_102 ?_
      refine lv_if_lt (tgt := 158) hx hb dX9_laysByRule_103 (by decide) (fun k22 => ?_) (fun k22 => ?_)
      · replace hf := ifp (lc_lt.mp k22) hf
        refine lv_aload_n hx hb dX9_laysByRule_158 rfl (lv_at hl 2 rfl) ?_
        refine va_get (D := (dC, dI)) (ci := 9) (v := .ref (ad 10)) (C := RX9) (T := TX9) (N := 45) hx hb hts (fun w h => gw_mem (inX9 w h)) hown hK.1 hP 0 rfl rfl 27 (by decide) (hts _ (gw_mem wfX9_39)) (fun _ h9 => h9) rfl dX9_laysByRule_159 ?_
        refine lv_iload hx hb dX9_laysByRule_162 (lv_at hl 1 rfl) ?_
        refine lv_iconst (v := 0) hx hb dX9_laysByRule_164 (by decide) ?_
        obtain ⟨h23, hf⟩ := og_some hf
        obtain ⟨w24, ew24⟩ : ∃ y : Nat → Int32, y = upd c_acts (Int32.toNatClampNeg r1) 0 := ⟨_, rfl⟩
        replace hf := nm_at hf ew24
        refine va_iast hx hb hK.1 hP hD hS 10 0 rfl rfl (okI_in h23) dX9_laysByRule_165 (fun H locs hP hD hS => ?_)
        have hP : va_P (dC, dI) vwCl (mW dA ad c_tape c_taped c_tree c_bonds c_moves c_handMoves c_moved c_days c_likely c_outOf c_rateNow c_pence c_top c_bottom c_spot c_textLong c_fault c_number c_numberAt c_figures c_written c_wanted c_found c_drawnNow c_worth c_hold c_way w24 c_sDay c_sUps c_sUp c_sMarks c_paidAll c_isPlayed c_isOn c_handMoved c_handPaid c_regret c_aside c_other c_states c_kept c_keptLong c_keptAt c_isTaking) H := by rw [ew24]; exact hP
        have hD : va_D A (mW dA ad c_tape c_taped c_tree c_bonds c_moves c_handMoves c_moved c_days c_likely c_outOf c_rateNow c_pence c_top c_bottom c_spot c_textLong c_fault c_number c_numberAt c_figures c_written c_wanted c_found c_drawnNow c_worth c_hold c_way w24 c_sDay c_sUps c_sUp c_sMarks c_paidAll c_isPlayed c_isOn c_handMoved c_handPaid c_regret c_aside c_other c_states c_kept c_keptLong c_keptAt c_isTaking) := by rw [ew24]; exact hD
        refine lv_aload_n hx hb dX9_laysByRule_166 rfl (lv_at hl 2 rfl) ?_
        refine va_get (D := (dC, dI)) (ci := 9) (v := .ref (ad 7)) (C := RX9) (T := TX9) (N := 45) hx hb hts (fun w h => gw_mem (inX9 w h)) hown hK.1 hP 0 rfl rfl 24 (by decide) (hts _ (gw_mem wfX9_30)) (fun _ h9 => h9) rfl dX9_laysByRule_167 ?_
        refine lv_iload hx hb dX9_laysByRule_170 (lv_at hl 1 rfl) ?_
        refine lv_aload_n hx hb dX9_laysByRule_172 rfl (lv_at hl 2 rfl) ?_
        refine lv_iload_n hx hb dX9_laysByRule_173 rfl (lv_at hl 3 rfl) ?_
        refine lv_iload_n hx hb dX9_laysByRule_174 rfl (lv_at hl 4 rfl) ?_
        obtain ⟨r25, v26, hf⟩ := bd1_some hf
        refine gci (va_runV (As := [.int p1, .int p2]) (rest := [.int r1, .ref (ad 7)]) ⟨hx, hb, hml, hown, hts⟩ (tX9_couponOf l dC dI dA ad H.size v26) (ccX9_X9_couponOf hts ⟨Nat.le_of_ble_eq_true rfl, Nat.le_of_ble_eq_true rfl⟩) (gPreV (ci := 9) (q0 := 0) hP hK hD rfl rfl) rfl rfl hl.1 rfl (lv_room (Nat.le_of_ble_eq_true rfl)) dX9_laysByRule_175 ⟨Nat.le_of_ble_eq_true rfl, Nat.le_of_ble_eq_true rfl⟩) hD hS hA (fun H locs hP hD hS => ?_)
        refine lv_i2l hx hb dX9_laysByRule_178 rfl ?_
        refine lv_aload_n hx hb dX9_laysByRule_179 rfl (lv_at hl 2 rfl) ?_
        refine lv_iload_n hx hb dX9_laysByRule_180 rfl (lv_at hl 3 rfl) ?_
        refine lv_iload_n hx hb dX9_laysByRule_181 rfl (lv_at hl 4 rfl) ?_
        refine lv_iload_n hx hb dX9_laysByRule_182 rfl (lv_at hl 5 rfl) ?_
        refine lv_iload hx hb dX9_laysByRule_183 (lv_at hl 6 rfl) ?_
        refine lv_iload hx hb dX9_laysByRule_185 (lv_at hl 7 rfl) ?_
        obtain ⟨r27, v28, hf⟩ := bd1_some hf
        refine gcl (va_runV (As := [.int p1, .int p2, .int p3, .int p4, .int p5]) (rest := [.long (Int32.toInt64 r25), .int r1, .ref (ad 7)]) ⟨hx, hb, hml, hown, hts⟩ (tX9_holds l dC dI dA ad H.size v28) (ccX9_X9_holds hts ⟨Nat.le_of_ble_eq_true rfl, Nat.le_of_ble_eq_true rfl⟩) (gPreV (ci := 9) (q0 := 0) hP hK hD rfl rfl) rfl rfl hl.1 rfl (lv_room (Nat.le_of_ble_eq_true rfl)) dX9_laysByRule_187 ⟨Nat.le_of_ble_eq_true rfl, Nat.le_of_ble_eq_true rfl⟩) hD hS hA (fun H locs hP hD hS => ?_)
        refine lv_ladd hx hb dX9_laysByRule_190 ?_
        obtain ⟨h29, hf⟩ := og_some hf
        obtain ⟨w30, ew30⟩ : ∃ y : Nat → Int64, y = vp_updL c_worth (Int32.toNatClampNeg r1) ((Int32.toInt64 r25) + r27) := ⟨_, rfl⟩
        replace hf := nm_at hf ew30
        refine va_last hx hb hK.1 hP hD hS 7 1 rfl rfl (okI_in h29) dX9_laysByRule_191 (fun H locs hP hD hS => ?_)
        have hP : va_P (dC, dI) vwCl (mW dA ad c_tape c_taped c_tree c_bonds c_moves c_handMoves c_moved c_days c_likely c_outOf c_rateNow c_pence c_top c_bottom c_spot c_textLong c_fault c_number c_numberAt c_figures c_written c_wanted c_found c_drawnNow w30 c_hold c_way w24 c_sDay c_sUps c_sUp c_sMarks c_paidAll c_isPlayed c_isOn c_handMoved c_handPaid c_regret c_aside c_other c_states c_kept c_keptLong c_keptAt c_isTaking) H := by rw [ew30]; exact hP
        have hD : va_D A (mW dA ad c_tape c_taped c_tree c_bonds c_moves c_handMoves c_moved c_days c_likely c_outOf c_rateNow c_pence c_top c_bottom c_spot c_textLong c_fault c_number c_numberAt c_figures c_written c_wanted c_found c_drawnNow w30 c_hold c_way w24 c_sDay c_sUps c_sUp c_sMarks c_paidAll c_isPlayed c_isOn c_handMoved c_handPaid c_regret c_aside c_other c_states c_kept c_keptLong c_keptAt c_isTaking) := by rw [ew30]; exact hD
        cases hf
        exact J8 _ _ _ hP hD hS (lv_sub hl [] rfl)
      · replace hf := ifn (fun h => k22 (lc_lt.mpr h)) hf
        refine lv_aload_n hx hb dX9_laysByRule_106 rfl (lv_at hl 2 rfl) ?_
        refine va_get (D := (dC, dI)) (ci := 9) (v := .ref (ad 10)) (C := RX9) (T := TX9) (N := 45) hx hb hts (fun w h => gw_mem (inX9 w h)) hown hK.1 hP 0 rfl rfl 27 (by decide) (hts _ (gw_mem wfX9_39)) (fun _ h9 => h9) rfl dX9_laysByRule_107 ?_
        refine lv_iload hx hb dX9_laysByRule_110 (lv_at hl 1 rfl) ?_
        refine lv_lload hx hb dX9_laysByRule_112 (lv_at hl 0 rfl) ?_
        refine lv_aload_n hx hb dX9_laysByRule_114 rfl (lv_at hl 2 rfl) ?_
        refine lv_iload_n hx hb dX9_laysByRule_115 rfl (lv_at hl 3 rfl) ?_
        refine lv_iload_n hx hb dX9_laysByRule_116 rfl (lv_at hl 4 rfl) ?_
        obtain ⟨r31, v32, hf⟩ := bd1_some hf
        refine gci (va_runV (As := [.int p1, .int p2]) (rest := [.long r3, .int r1, .ref (ad 10)]) ⟨hx, hb, hml, hown, hts⟩ (tX9_callOf l dC dI dA ad H.size v32) (ccX9_X9_callOf hts ⟨Nat.le_of_ble_eq_true rfl, Nat.le_of_ble_eq_true rfl⟩) (gPreV (ci := 9) (q0 := 0) hP hK hD rfl rfl) rfl rfl hl.1 rfl (lv_room (Nat.le_of_ble_eq_true rfl)) dX9_laysByRule_117 ⟨Nat.le_of_ble_eq_true rfl, Nat.le_of_ble_eq_true rfl⟩) hD hS hA (fun H locs hP hD hS => ?_)
        refine lv_i2l hx hb dX9_laysByRule_120 rfl ?_
        refine W.lcmp hx hb dX9_laysByRule_121 ?_
        obtain ⟨j34, v36, hf⟩ := bd1_some hf
        have J35 : ∀ (H : Heap) (locs : List Loc) (ls : Array Slot), va_P (dC, dI) vwCl (mW dA ad c_tape c_taped c_tree c_bonds c_moves c_handMoves c_moved c_days c_likely c_outOf c_rateNow c_pence c_top c_bottom c_spot c_textLong c_fault c_number c_numberAt c_figures c_written c_wanted c_found c_drawnNow c_worth c_hold c_way c_acts c_sDay c_sUps c_sUp c_sMarks c_paidAll c_isPlayed c_isOn c_handMoved c_handPaid c_regret c_aside c_other c_states c_kept c_keptLong c_keptAt c_isTaking) H → va_D A (mW dA ad c_tape c_taped c_tree c_bonds c_moves c_handMoves c_moved c_days c_likely c_outOf c_rateNow c_pence c_top c_bottom c_spot c_textLong c_fault c_number c_numberAt c_figures c_written c_wanted c_found c_drawnNow c_worth c_hold c_way c_acts c_sDay c_sUps c_sUp c_sMarks c_paidAll c_isPlayed c_isOn c_handMoved c_handPaid c_regret c_aside c_other c_states c_kept c_keptLong c_keptAt c_isTaking) → va_S A s.heap H locs → lv_has ls 11 [(0, .ref (ad 0)), (1, .int p1), (2, .int p2), (3, .int p3), (4, .int p4), (8, .int r1)] → W p l e rmX9_laysByRule s m ([.ref (ad 0), .int p1, .int p2, .int p3, .int p4, .int p5, .int p6, .int p7] : List Value).toArray below meth c H locs 0 0 (MQ below (gQv (dC, dI) (mW dA ad c_tape c_taped c_tree c_bonds c_moves c_handMoves c_moved c_days c_likely c_outOf c_rateNow c_pence c_top c_bottom c_spot c_textLong c_fault c_number c_numberAt c_figures c_written c_wanted c_found c_drawnNow o_c_worth c_hold c_way o_c_acts c_sDay c_sUps c_sUp c_sMarks c_paidAll c_isPlayed c_isOn c_handMoved c_handPaid c_regret c_aside c_other c_states c_kept c_keptLong c_keptAt c_isTaking) A) ([.ref (ad 0), .int p1, .int p2, .int p3, .int p4, .int p5, .int p6, .int p7] : List Value).toArray s 0 0 A) (F0 m 130 ls [.int j34, .int r1, .ref (ad 10)]) := by
          intro H locs ls hP hD hS hl
          obtain ⟨h37, hf⟩ := og_some hf
          obtain ⟨w38, ew38⟩ : ∃ y : Nat → Int32, y = upd c_acts (Int32.toNatClampNeg r1) j34 := ⟨_, rfl⟩
          replace hf := nm_at hf ew38
          refine va_iast hx hb hK.1 hP hD hS 10 0 rfl rfl (okI_in h37) dX9_laysByRule_130 (fun H locs hP hD hS => ?_)
          have hP : va_P (dC, dI) vwCl (mW dA ad c_tape c_taped c_tree c_bonds c_moves c_handMoves c_moved c_days c_likely c_outOf c_rateNow c_pence c_top c_bottom c_spot c_textLong c_fault c_number c_numberAt c_figures c_written c_wanted c_found c_drawnNow c_worth c_hold c_way w38 c_sDay c_sUps c_sUp c_sMarks c_paidAll c_isPlayed c_isOn c_handMoved c_handPaid c_regret c_aside c_other c_states c_kept c_keptLong c_keptAt c_isTaking) H := by rw [ew38]; exact hP
          have hD : va_D A (mW dA ad c_tape c_taped c_tree c_bonds c_moves c_handMoves c_moved c_days c_likely c_outOf c_rateNow c_pence c_top c_bottom c_spot c_textLong c_fault c_number c_numberAt c_figures c_written c_wanted c_found c_drawnNow c_worth c_hold c_way w38 c_sDay c_sUps c_sUp c_sMarks c_paidAll c_isPlayed c_isOn c_handMoved c_handPaid c_regret c_aside c_other c_states c_kept c_keptLong c_keptAt c_isTaking) := by rw [ew38]; exact hD
          refine lv_aload_n hx hb dX9_laysByRule_131 rfl (lv_at hl 0 rfl) ?_
          refine va_get (D := (dC, dI)) (ci := 9) (v := .ref (ad 7)) (C := RX9) (T := TX9) (N := 45) hx hb hts (fun w h => gw_mem (inX9 w h)) hown hK.1 hP 0 rfl rfl 24 (by decide) (hts _ (gw_mem wfX9_30)) (fun _ h9 => h9) rfl dX9_laysByRule_132 ?_
          refine lv_iload hx hb dX9_laysByRule_135 (lv_at hl 5 rfl) ?_
          refine lv_aload_n hx hb dX9_laysByRule_137 rfl (lv_at hl 0 rfl) ?_
          refine lv_iload_n hx hb dX9_laysByRule_138 rfl (lv_at hl 1 rfl) ?_
          refine lv_iload_n hx hb dX9_laysByRule_139 rfl (lv_at hl 2 rfl) ?_
          obtain ⟨r39, v40, hf⟩ := bd1_some hf
          refine gci (va_runV (As := [.int p1, .int p2]) (rest := [.int r1, .ref (ad 7)]) ⟨hx, hb, hml, hown, hts⟩ (tX9_couponOf l dC dI dA ad H.size v40) (ccX9_X9_couponOf hts ⟨Nat.le_of_ble_eq_true rfl, Nat.le_of_ble_eq_true rfl⟩) (gPreV (ci := 9) (q0 := 0) hP hK hD rfl rfl) rfl rfl hl.1 rfl (lv_room (Nat.le_of_ble_eq_true rfl)) dX9_laysByRule_140 ⟨Nat.le_of_ble_eq_true rfl, Nat.le_of_ble_eq_true rfl⟩) hD hS hA (fun H locs hP hD hS => ?_)
          refine lv_i2l hx hb dX9_laysByRule_143 rfl ?_
          refine lv_aload_n hx hb dX9_laysByRule_144 rfl (lv_at hl 0 rfl) ?_
          refine lv_iload_n hx hb dX9_laysByRule_145 rfl (lv_at hl 1 rfl) ?_
          refine lv_iload_n hx hb dX9_laysByRule_146 rfl (lv_at hl 2 rfl) ?_
          refine lv_iload_n hx hb dX9_laysByRule_147 rfl (lv_at hl 3 rfl) ?_
          refine lv_iload hx hb dX9_laysByRule_148 (lv_at hl 4 rfl) ?_
          obtain ⟨r41, v42, hf⟩ := bd1_some hf
          refine gcl (va_runV (As := [.int p1, .int p2, .int p3, .int p4]) (rest := [.long (Int32.toInt64 r39), .int r1, .ref (ad 7)]) ⟨hx, hb, hml, hown, hts⟩ (tX9_called l dC dI dA ad H.size v42) (ccX9_X9_called hts ⟨Nat.le_of_ble_eq_true rfl, Nat.le_of_ble_eq_true rfl⟩) (gPreV (ci := 9) (q0 := 0) hP hK hD rfl rfl) rfl rfl hl.1 rfl (lv_room (Nat.le_of_ble_eq_true rfl)) dX9_laysByRule_150 ⟨Nat.le_of_ble_eq_true rfl, Nat.le_of_ble_eq_true rfl⟩) hD hS hA (fun H locs hP hD hS => ?_)
          refine lv_ladd hx hb dX9_laysByRule_153 ?_
          obtain ⟨h43, hf⟩ := og_some hf
          obtain ⟨w44, ew44⟩ : ∃ y : Nat → Int64, y = vp_updL c_worth (Int32.toNatClampNeg r1) ((Int32.toInt64 r39) + r41) := ⟨_, rfl⟩
          replace hf := nm_at hf ew44
          refine va_last hx hb hK.1 hP hD hS 7 1 rfl rfl (okI_in h43) dX9_laysByRule_154 (fun H locs hP hD hS => ?_)
          have hP : va_P (dC, dI) vwCl (mW dA ad c_tape c_taped c_tree c_bonds c_moves c_handMoves c_moved c_days c_likely c_outOf c_rateNow c_pence c_top c_bottom c_spot c_textLong c_fault c_number c_numberAt c_figures c_written c_wanted c_found c_drawnNow w44 c_hold c_way w38 c_sDay c_sUps c_sUp c_sMarks c_paidAll c_isPlayed c_isOn c_handMoved c_handPaid c_regret c_aside c_other c_states c_kept c_keptLong c_keptAt c_isTaking) H := by rw [ew44]; exact hP
          have hD : va_D A (mW dA ad c_tape c_taped c_tree c_bonds c_moves c_handMoves c_moved c_days c_likely c_outOf c_rateNow c_pence c_top c_bottom c_spot c_textLong c_fault c_number c_numberAt c_figures c_written c_wanted c_found c_drawnNow w44 c_hold c_way w38 c_sDay c_sUps c_sUp c_sMarks c_paidAll c_isPlayed c_isOn c_handMoved c_handPaid c_regret c_aside c_other c_states c_kept c_keptLong c_keptAt c_isTaking) := by rw [ew44]; exact hD
          refine lv_goto (tgt := 192) hx hb dX9_laysByRule_155 (by decide) ?_
          cases hf
          exact J8 _ _ _ hP hD hS (lv_sub hl [] rfl)
        replace hf := v36
        clear v36
        refine lv_if_le (tgt := 129) hx hb dX9_laysByRule_122 (by decide) (fun k33 => ?_) (fun k33 => ?_)
        · replace hf := ifp (lc_le.mp k33) hf
          refine lv_iconst (v := 3) hx hb dX9_laysByRule_129 (by decide) ?_
          cases hf
          exact J35 _ _ _ hP hD hS (lv_sub hl [2, 3, 4, 5, 6, 1] rfl)
        · replace hf := ifn (fun h => k33 (lc_le.mpr h)) hf
          refine lv_iconst (v := 4) hx hb dX9_laysByRule_125 (by decide) ?_
          refine lv_goto (tgt := 130) hx hb dX9_laysByRule_126 (by decide) ?_
          cases hf
          exact J35 _ _ _ hP hD hS (lv_sub hl [2, 3, 4, 5, 6, 1] rfl)
  · replace hf := ifn (fun h => k5 (lc_eq.mpr h)) hf
    refine lv_aload_n hx hb dX9_laysByRule_31 rfl (lv_at hl 2 rfl) ?_
    refine va_get (D := (dC, dI)) (ci := 9) (v := .ref (ad 6)) (C := RX9) (T := TX9) (N := 45) hx hb hts (fun w h => gw_mem (inX9 w h)) hown hK.1 hP 0 rfl rfl 11 (by decide) (hts _ (gw_mem wfX9_26)) (fun _ h9 => h9) rfl dX9_laysByRule_32 ?_
    refine lv_bipush (v := 7) hx hb dX9_laysByRule_35 (by decide) ?_
    refine lv_iload_n hx hb dX9_laysByRule_37 rfl (lv_at hl 4 rfl) ?_
    refine lv_imul hx hb dX9_laysByRule_38 ?_
    refine lv_iload_n hx hb dX9_laysByRule_39 rfl (lv_at hl 5 rfl) ?_
    refine lv_iadd hx hb dX9_laysByRule_40 ?_
    obtain ⟨h45, hf⟩ := og_some hf
    refine va_lald hx hb hK.1 hP 6 1 rfl rfl (okI_in h45) dX9_laysByRule_41 ?_
    refine lv_iload hx hb dX9_laysByRule_42 (lv_at hl 8 rfl) ?_
    refine lv_i2l hx hb dX9_laysByRule_44 rfl ?_
    refine W.lcmp hx hb dX9_laysByRule_45 ?_
    refine lv_if_lt (tgt := 77) hx hb dX9_laysByRule_46 (by decide) (fun k46 => ?_) (fun k46 => ?_)
    · replace hf := ifp (lc_lt.mp k46) hf
      refine lv_aload_n hx hb dX9_laysByRule_77 rfl (lv_at hl 2 rfl) ?_
      refine lv_iload_n hx hb dX9_laysByRule_78 rfl (lv_at hl 3 rfl) ?_
      refine lv_iload_n hx hb dX9_laysByRule_79 rfl (lv_at hl 4 rfl) ?_
      refine lv_iload hx hb dX9_laysByRule_80 (lv_at hl 7 rfl) ?_
      obtain ⟨r47, v48, hf⟩ := bd1_some hf
      refine gci (va_runV (As := [.int p1, .int p2, .int p5]) (rest := []) ⟨hx, hb, hml, hown, hts⟩ (tX9_isFree l dC dI dA ad H.size v48) (ccX9_X9_isFree hts ⟨Nat.le_of_ble_eq_true rfl, Nat.le_of_ble_eq_true rfl⟩) (gPreV (ci := 9) (q0 := 0) hP hK hD rfl rfl) rfl rfl hl.1 rfl (lv_room (Nat.le_of_ble_eq_true rfl)) dX9_laysByRule_82 ⟨Nat.le_of_ble_eq_true rfl, Nat.le_of_ble_eq_true rfl⟩) hD hS hA (fun H locs hP hD hS => ?_)
      refine lv_if_eq (tgt := 158) hx hb dX9_laysByRule_85 (by decide) (fun k49 => ?_) (fun k49 => ?_)
      · replace hf := ifp k49 hf
        refine lv_aload_n hx hb dX9_laysByRule_158 rfl (lv_at hl 2 rfl) ?_
        refine va_get (D := (dC, dI)) (ci := 9) (v := .ref (ad 10)) (C := RX9) (T := TX9) (N := 45) hx hb hts (fun w h => gw_mem (inX9 w h)) hown hK.1 hP 0 rfl rfl 27 (by decide) (hts _ (gw_mem wfX9_39)) (fun _ h9 => h9) rfl dX9_laysByRule_159 ?_
        refine lv_iload hx hb dX9_laysByRule_162 (lv_at hl 1 rfl) ?_
        refine lv_iconst (v := 0) hx hb dX9_laysByRule_164 (by decide) ?_
        obtain ⟨h50, hf⟩ := og_some hf
        obtain ⟨w51, ew51⟩ : ∃ y : Nat → Int32, y = upd c_acts (Int32.toNatClampNeg r1) 0 := ⟨_, rfl⟩
        replace hf := nm_at hf ew51
        refine va_iast hx hb hK.1 hP hD hS 10 0 rfl rfl (okI_in h50) dX9_laysByRule_165 (fun H locs hP hD hS => ?_)
        have hP : va_P (dC, dI) vwCl (mW dA ad c_tape c_taped c_tree c_bonds c_moves c_handMoves c_moved c_days c_likely c_outOf c_rateNow c_pence c_top c_bottom c_spot c_textLong c_fault c_number c_numberAt c_figures c_written c_wanted c_found c_drawnNow c_worth c_hold c_way w51 c_sDay c_sUps c_sUp c_sMarks c_paidAll c_isPlayed c_isOn c_handMoved c_handPaid c_regret c_aside c_other c_states c_kept c_keptLong c_keptAt c_isTaking) H := by rw [ew51]; exact hP
        have hD : va_D A (mW dA ad c_tape c_taped c_tree c_bonds c_moves c_handMoves c_moved c_days c_likely c_outOf c_rateNow c_pence c_top c_bottom c_spot c_textLong c_fault c_number c_numberAt c_figures c_written c_wanted c_found c_drawnNow c_worth c_hold c_way w51 c_sDay c_sUps c_sUp c_sMarks c_paidAll c_isPlayed c_isOn c_handMoved c_handPaid c_regret c_aside c_other c_states c_kept c_keptLong c_keptAt c_isTaking) := by rw [ew51]; exact hD
        refine lv_aload_n hx hb dX9_laysByRule_166 rfl (lv_at hl 2 rfl) ?_
        refine va_get (D := (dC, dI)) (ci := 9) (v := .ref (ad 7)) (C := RX9) (T := TX9) (N := 45) hx hb hts (fun w h => gw_mem (inX9 w h)) hown hK.1 hP 0 rfl rfl 24 (by decide) (hts _ (gw_mem wfX9_30)) (fun _ h9 => h9) rfl dX9_laysByRule_167 ?_
        refine lv_iload hx hb dX9_laysByRule_170 (lv_at hl 1 rfl) ?_
        refine lv_aload_n hx hb dX9_laysByRule_172 rfl (lv_at hl 2 rfl) ?_
        refine lv_iload_n hx hb dX9_laysByRule_173 rfl (lv_at hl 3 rfl) ?_
        refine lv_iload_n hx hb dX9_laysByRule_174 rfl (lv_at hl 4 rfl) ?_
        obtain ⟨r52, v53, hf⟩ := bd1_some hf
        refine gci (va_runV (As := [.int p1, .int p2]) (rest := [.int r1, .ref (ad 7)]) ⟨hx, hb, hml, hown, hts⟩ (tX9_couponOf l dC dI dA ad H.size v53) (ccX9_X9_couponOf hts ⟨Nat.le_of_ble_eq_true rfl, Nat.le_of_ble_eq_true rfl⟩) (gPreV (ci := 9) (q0 := 0) hP hK hD rfl rfl) rfl rfl hl.1 rfl (lv_room (Nat.le_of_ble_eq_true rfl)) dX9_laysByRule_175 ⟨Nat.le_of_ble_eq_true rfl, Nat.le_of_ble_eq_true rfl⟩) hD hS hA (fun H locs hP hD hS => ?_)
        refine lv_i2l hx hb dX9_laysByRule_178 rfl ?_
        refine lv_aload_n hx hb dX9_laysByRule_179 rfl (lv_at hl 2 rfl) ?_
        refine lv_iload_n hx hb dX9_laysByRule_180 rfl (lv_at hl 3 rfl) ?_
        refine lv_iload_n hx hb dX9_laysByRule_181 rfl (lv_at hl 4 rfl) ?_
        refine lv_iload_n hx hb dX9_laysByRule_182 rfl (lv_at hl 5 rfl) ?_
        refine lv_iload hx hb dX9_laysByRule_183 (lv_at hl 6 rfl) ?_
        refine lv_iload hx hb dX9_laysByRule_185 (lv_at hl 7 rfl) ?_
        obtain ⟨r54, v55, hf⟩ := bd1_some hf
        refine gcl (va_runV (As := [.int p1, .int p2, .int p3, .int p4, .int p5]) (rest := [.long (Int32.toInt64 r52), .int r1, .ref (ad 7)]) ⟨hx, hb, hml, hown, hts⟩ (tX9_holds l dC dI dA ad H.size v55) (ccX9_X9_holds hts ⟨Nat.le_of_ble_eq_true rfl, Nat.le_of_ble_eq_true rfl⟩) (gPreV (ci := 9) (q0 := 0) hP hK hD rfl rfl) rfl rfl hl.1 rfl (lv_room (Nat.le_of_ble_eq_true rfl)) dX9_laysByRule_187 ⟨Nat.le_of_ble_eq_true rfl, Nat.le_of_ble_eq_true rfl⟩) hD hS hA (fun H locs hP hD hS => ?_)
        refine lv_ladd hx hb dX9_laysByRule_190 ?_
        obtain ⟨h56, hf⟩ := og_some hf
        obtain ⟨w57, ew57⟩ : ∃ y : Nat → Int64, y = vp_updL c_worth (Int32.toNatClampNeg r1) ((Int32.toInt64 r52) + r54) := ⟨_, rfl⟩
        replace hf := nm_at hf ew57
        refine va_last hx hb hK.1 hP hD hS 7 1 rfl rfl (okI_in h56) dX9_laysByRule_191 (fun H locs hP hD hS => ?_)
        have hP : va_P (dC, dI) vwCl (mW dA ad c_tape c_taped c_tree c_bonds c_moves c_handMoves c_moved c_days c_likely c_outOf c_rateNow c_pence c_top c_bottom c_spot c_textLong c_fault c_number c_numberAt c_figures c_written c_wanted c_found c_drawnNow w57 c_hold c_way w51 c_sDay c_sUps c_sUp c_sMarks c_paidAll c_isPlayed c_isOn c_handMoved c_handPaid c_regret c_aside c_other c_states c_kept c_keptLong c_keptAt c_isTaking) H := by rw [ew57]; exact hP
        have hD : va_D A (mW dA ad c_tape c_taped c_tree c_bonds c_moves c_handMoves c_moved c_days c_likely c_outOf c_rateNow c_pence c_top c_bottom c_spot c_textLong c_fault c_number c_numberAt c_figures c_written c_wanted c_found c_drawnNow w57 c_hold c_way w51 c_sDay c_sUps c_sUp c_sMarks c_paidAll c_isPlayed c_isOn c_handMoved c_handPaid c_regret c_aside c_other c_states c_kept c_keptLong c_keptAt c_isTaking) := by rw [ew57]; exact hD
        cases hf
        exact J8 _ _ _ hP hD hS (lv_sub hl [] rfl)
      · replace hf := ifn k49 hf
        refine lv_aload_n hx hb dX9_laysByRule_88 rfl (lv_at hl 2 rfl) ?_
        refine va_get (D := (dC, dI)) (ci := 9) (v := .ref (ad 6)) (C := RX9) (T := TX9) (N := 45) hx hb hts (fun w h => gw_mem (inX9 w h)) hown hK.1 hP 0 rfl rfl 11 (by decide) (hts _ (gw_mem wfX9_26)) (fun _ h9 => h9) rfl dX9_laysByRule_89 ?_
        refine lv_bipush (v := 7) hx hb dX9_laysByRule_92 (by decide) ?_
        refine lv_iload_n hx hb dX9_laysByRule_94 rfl (lv_at hl 4 rfl) ?_
        refine lv_imul hx hb dX9_laysByRule_95 ?_
        refine lv_iload_n hx hb dX9_laysByRule_96 rfl (lv_at hl 5 rfl) ?_
        refine lv_iadd hx hb dX9_laysByRule_97 ?_
        obtain ⟨h58, hf⟩ := og_some hf
        refine va_lald hx hb hK.1 hP 6 1 rfl rfl (okI_in h58) dX9_laysByRule_98 ?_
        refine lv_iload hx hb dX9_laysByRule_99 (lv_at hl 9 rfl) ?_
        refine lv_i2l hx hb dX9_laysByRule_101 rfl ?_
        refine W.lcmp hx hb dX9_laysByRule_102 ?_
        refine lv_if_lt (tgt := 158) hx hb dX9_laysByRule_103 (by decide) (fun k59 => ?_) (fun k59 => ?_)
        · replace hf := ifp (lc_lt.mp k59) hf
          refine lv_aload_n hx hb dX9_laysByRule_158 rfl (lv_at hl 2 rfl) ?_
          refine va_get (D := (dC, dI)) (ci := 9) (v := .ref (ad 10)) (C := RX9) (T := TX9) (N := 45) hx hb hts (fun w h => gw_mem (inX9 w h)) hown hK.1 hP 0 rfl rfl 27 (by decide) (hts _ (gw_mem wfX9_39)) (fun _ h9 => h9) rfl dX9_laysByRule_159 ?_
          refine lv_iload hx hb dX9_laysByRule_162 (lv_at hl 1 rfl) ?_
          refine lv_iconst (v := 0) hx hb dX9_laysByRule_164 (by decide) ?_
          obtain ⟨h60, hf⟩ := og_some hf
          obtain ⟨w61, ew61⟩ : ∃ y : Nat → Int32, y = upd c_acts (Int32.toNatClampNeg r1) 0 := ⟨_, rfl⟩
          replace hf := nm_at hf ew61
          refine va_iast hx hb hK.1 hP hD hS 10 0 rfl rfl (okI_in h60) dX9_laysByRule_165 (fun H locs hP hD hS => ?_)
          have hP : va_P (dC, dI) vwCl (mW dA ad c_tape c_taped c_tree c_bonds c_moves c_handMoves c_moved c_days c_likely c_outOf c_rateNow c_pence c_top c_bottom c_spot c_textLong c_fault c_number c_numberAt c_figures c_written c_wanted c_found c_drawnNow c_worth c_hold c_way w61 c_sDay c_sUps c_sUp c_sMarks c_paidAll c_isPlayed c_isOn c_handMoved c_handPaid c_regret c_aside c_other c_states c_kept c_keptLong c_keptAt c_isTaking) H := by rw [ew61]; exact hP
          have hD : va_D A (mW dA ad c_tape c_taped c_tree c_bonds c_moves c_handMoves c_moved c_days c_likely c_outOf c_rateNow c_pence c_top c_bottom c_spot c_textLong c_fault c_number c_numberAt c_figures c_written c_wanted c_found c_drawnNow c_worth c_hold c_way w61 c_sDay c_sUps c_sUp c_sMarks c_paidAll c_isPlayed c_isOn c_handMoved c_handPaid c_regret c_aside c_other c_states c_kept c_keptLong c_keptAt c_isTaking) := by rw [ew61]; exact hD
          refine lv_aload_n hx hb dX9_laysByRule_166 rfl (lv_at hl 2 rfl) ?_
          refine va_get (D := (dC, dI)) (ci := 9) (v := .ref (ad 7)) (C := RX9) (T := TX9) (N := 45) hx hb hts (fun w h => gw_mem (inX9 w h)) hown hK.1 hP 0 rfl rfl 24 (by decide) (hts _ (gw_mem wfX9_30)) (fun _ h9 => h9) rfl dX9_laysByRule_167 ?_
          refine lv_iload hx hb dX9_laysByRule_170 (lv_at hl 1 rfl) ?_
          refine lv_aload_n hx hb dX9_laysByRule_172 rfl (lv_at hl 2 rfl) ?_
          refine lv_iload_n hx hb dX9_laysByRule_173 rfl (lv_at hl 3 rfl) ?_
          refine lv_iload_n hx hb dX9_laysByRule_174 rfl (lv_at hl 4 rfl) ?_
          obtain ⟨r62, v63, hf⟩ := bd1_some hf
          refine gci (va_runV (As := [.int p1, .int p2]) (rest := [.int r1, .ref (ad 7)]) ⟨hx, hb, hml, hown, hts⟩ (tX9_couponOf l dC dI dA ad H.size v63) (ccX9_X9_couponOf hts ⟨Nat.le_of_ble_eq_true rfl, Nat.le_of_ble_eq_true rfl⟩) (gPreV (ci := 9) (q0 := 0) hP hK hD rfl rfl) rfl rfl hl.1 rfl (lv_room (Nat.le_of_ble_eq_true rfl)) dX9_laysByRule_175 ⟨Nat.le_of_ble_eq_true rfl, Nat.le_of_ble_eq_true rfl⟩) hD hS hA (fun H locs hP hD hS => ?_)
          refine lv_i2l hx hb dX9_laysByRule_178 rfl ?_
          refine lv_aload_n hx hb dX9_laysByRule_179 rfl (lv_at hl 2 rfl) ?_
          refine lv_iload_n hx hb dX9_laysByRule_180 rfl (lv_at hl 3 rfl) ?_
          refine lv_iload_n hx hb dX9_laysByRule_181 rfl (lv_at hl 4 rfl) ?_
          refine lv_iload_n hx hb dX9_laysByRule_182 rfl (lv_at hl 5 rfl) ?_
          refine lv_iload hx hb dX9_laysByRule_183 (lv_at hl 6 rfl) ?_
          refine lv_iload hx hb dX9_laysByRule_185 (lv_at hl 7 rfl) ?_
          obtain ⟨r64, v65, hf⟩ := bd1_some hf
          refine gcl (va_runV (As := [.int p1, .int p2, .int p3, .int p4, .int p5]) (rest := [.long (Int32.toInt64 r62), .int r1, .ref (ad 7)]) ⟨hx, hb, hml, hown, hts⟩ (tX9_holds l dC dI dA ad H.size v65) (ccX9_X9_holds hts ⟨Nat.le_of_ble_eq_true rfl, Nat.le_of_ble_eq_true rfl⟩) (gPreV (ci := 9) (q0 := 0) hP hK hD rfl rfl) rfl rfl hl.1 rfl (lv_room (Nat.le_of_ble_eq_true rfl)) dX9_laysByRule_187 ⟨Nat.le_of_ble_eq_true rfl, Nat.le_of_ble_eq_true rfl⟩) hD hS hA (fun H locs hP hD hS => ?_)
          refine lv_ladd hx hb dX9_laysByRule_190 ?_
          obtain ⟨h66, hf⟩ := og_some hf
          obtain ⟨w67, ew67⟩ : ∃ y : Nat → Int64, y = vp_updL c_worth (Int32.toNatClampNeg r1) ((Int32.toInt64 r62) + r64) := ⟨_, rfl⟩
          replace hf := nm_at hf ew67
          refine va_last hx hb hK.1 hP hD hS 7 1 rfl rfl (okI_in h66) dX9_laysByRule_191 (fun H locs hP hD hS => ?_)
          have hP : va_P (dC, dI) vwCl (mW dA ad c_tape c_taped c_tree c_bonds c_moves c_handMoves c_moved c_days c_likely c_outOf c_rateNow c_pence c_top c_bottom c_spot c_textLong c_fault c_number c_numberAt c_figures c_written c_wanted c_found c_drawnNow w67 c_hold c_way w61 c_sDay c_sUps c_sUp c_sMarks c_paidAll c_isPlayed c_isOn c_handMoved c_handPaid c_regret c_aside c_other c_states c_kept c_keptLong c_keptAt c_isTaking) H := by rw [ew67]; exact hP
          have hD : va_D A (mW dA ad c_tape c_taped c_tree c_bonds c_moves c_handMoves c_moved c_days c_likely c_outOf c_rateNow c_pence c_top c_bottom c_spot c_textLong c_fault c_number c_numberAt c_figures c_written c_wanted c_found c_drawnNow w67 c_hold c_way w61 c_sDay c_sUps c_sUp c_sMarks c_paidAll c_isPlayed c_isOn c_handMoved c_handPaid c_regret c_aside c_other c_states c_kept c_keptLong c_keptAt c_isTaking) := by rw [ew67]; exact hD
          cases hf
          exact J8 _ _ _ hP hD hS (lv_sub hl [] rfl)
        · replace hf := ifn (fun h => k59 (lc_lt.mpr h)) hf
          refine lv_aload_n hx hb dX9_laysByRule_106 rfl (lv_at hl 2 rfl) ?_
          refine va_get (D := (dC, dI)) (ci := 9) (v := .ref (ad 10)) (C := RX9) (T := TX9) (N := 45) hx hb hts (fun w h => gw_mem (inX9 w h)) hown hK.1 hP 0 rfl rfl 27 (by decide) (hts _ (gw_mem wfX9_39)) (fun _ h9 => h9) rfl dX9_laysByRule_107 ?_
          refine lv_iload hx hb dX9_laysByRule_110 (lv_at hl 1 rfl) ?_
          refine lv_lload hx hb dX9_laysByRule_112 (lv_at hl 0 rfl) ?_
          refine lv_aload_n hx hb dX9_laysByRule_114 rfl (lv_at hl 2 rfl) ?_
          refine lv_iload_n hx hb dX9_laysByRule_115 rfl (lv_at hl 3 rfl) ?_
          refine lv_iload_n hx hb dX9_laysByRule_116 rfl (lv_at hl 4 rfl) ?_
          obtain ⟨r68, v69, hf⟩ := bd1_some hf
          refine gci (va_runV (As := [.int p1, .int p2]) (rest := [.long r3, .int r1, .ref (ad 10)]) ⟨hx, hb, hml, hown, hts⟩ (tX9_callOf l dC dI dA ad H.size v69) (ccX9_X9_callOf hts ⟨Nat.le_of_ble_eq_true rfl, Nat.le_of_ble_eq_true rfl⟩) (gPreV (ci := 9) (q0 := 0) hP hK hD rfl rfl) rfl rfl hl.1 rfl (lv_room (Nat.le_of_ble_eq_true rfl)) dX9_laysByRule_117 ⟨Nat.le_of_ble_eq_true rfl, Nat.le_of_ble_eq_true rfl⟩) hD hS hA (fun H locs hP hD hS => ?_)
          refine lv_i2l hx hb dX9_laysByRule_120 rfl ?_
          refine W.lcmp hx hb dX9_laysByRule_121 ?_
          obtain ⟨j71, v73, hf⟩ := bd1_some hf
          have J72 : ∀ (H : Heap) (locs : List Loc) (ls : Array Slot), va_P (dC, dI) vwCl (mW dA ad c_tape c_taped c_tree c_bonds c_moves c_handMoves c_moved c_days c_likely c_outOf c_rateNow c_pence c_top c_bottom c_spot c_textLong c_fault c_number c_numberAt c_figures c_written c_wanted c_found c_drawnNow c_worth c_hold c_way c_acts c_sDay c_sUps c_sUp c_sMarks c_paidAll c_isPlayed c_isOn c_handMoved c_handPaid c_regret c_aside c_other c_states c_kept c_keptLong c_keptAt c_isTaking) H → va_D A (mW dA ad c_tape c_taped c_tree c_bonds c_moves c_handMoves c_moved c_days c_likely c_outOf c_rateNow c_pence c_top c_bottom c_spot c_textLong c_fault c_number c_numberAt c_figures c_written c_wanted c_found c_drawnNow c_worth c_hold c_way c_acts c_sDay c_sUps c_sUp c_sMarks c_paidAll c_isPlayed c_isOn c_handMoved c_handPaid c_regret c_aside c_other c_states c_kept c_keptLong c_keptAt c_isTaking) → va_S A s.heap H locs → lv_has ls 11 [(0, .ref (ad 0)), (1, .int p1), (2, .int p2), (3, .int p3), (4, .int p4), (8, .int r1)] → W p l e rmX9_laysByRule s m ([.ref (ad 0), .int p1, .int p2, .int p3, .int p4, .int p5, .int p6, .int p7] : List Value).toArray below meth c H locs 0 0 (MQ below (gQv (dC, dI) (mW dA ad c_tape c_taped c_tree c_bonds c_moves c_handMoves c_moved c_days c_likely c_outOf c_rateNow c_pence c_top c_bottom c_spot c_textLong c_fault c_number c_numberAt c_figures c_written c_wanted c_found c_drawnNow o_c_worth c_hold c_way o_c_acts c_sDay c_sUps c_sUp c_sMarks c_paidAll c_isPlayed c_isOn c_handMoved c_handPaid c_regret c_aside c_other c_states c_kept c_keptLong c_keptAt c_isTaking) A) ([.ref (ad 0), .int p1, .int p2, .int p3, .int p4, .int p5, .int p6, .int p7] : List Value).toArray s 0 0 A) (F0 m 130 ls [.int j71, .int r1, .ref (ad 10)]) := by
            intro H locs ls hP hD hS hl
            obtain ⟨h74, hf⟩ := og_some hf
            obtain ⟨w75, ew75⟩ : ∃ y : Nat → Int32, y = upd c_acts (Int32.toNatClampNeg r1) j71 := ⟨_, rfl⟩
            replace hf := nm_at hf ew75
            refine va_iast hx hb hK.1 hP hD hS 10 0 rfl rfl (okI_in h74) dX9_laysByRule_130 (fun H locs hP hD hS => ?_)
            have hP : va_P (dC, dI) vwCl (mW dA ad c_tape c_taped c_tree c_bonds c_moves c_handMoves c_moved c_days c_likely c_outOf c_rateNow c_pence c_top c_bottom c_spot c_textLong c_fault c_number c_numberAt c_figures c_written c_wanted c_found c_drawnNow c_worth c_hold c_way w75 c_sDay c_sUps c_sUp c_sMarks c_paidAll c_isPlayed c_isOn c_handMoved c_handPaid c_regret c_aside c_other c_states c_kept c_keptLong c_keptAt c_isTaking) H := by rw [ew75]; exact hP
            have hD : va_D A (mW dA ad c_tape c_taped c_tree c_bonds c_moves c_handMoves c_moved c_days c_likely c_outOf c_rateNow c_pence c_top c_bottom c_spot c_textLong c_fault c_number c_numberAt c_figures c_written c_wanted c_found c_drawnNow c_worth c_hold c_way w75 c_sDay c_sUps c_sUp c_sMarks c_paidAll c_isPlayed c_isOn c_handMoved c_handPaid c_regret c_aside c_other c_states c_kept c_keptLong c_keptAt c_isTaking) := by rw [ew75]; exact hD
            refine lv_aload_n hx hb dX9_laysByRule_131 rfl (lv_at hl 0 rfl) ?_
            refine va_get (D := (dC, dI)) (ci := 9) (v := .ref (ad 7)) (C := RX9) (T := TX9) (N := 45) hx hb hts (fun w h => gw_mem (inX9 w h)) hown hK.1 hP 0 rfl rfl 24 (by decide) (hts _ (gw_mem wfX9_30)) (fun _ h9 => h9) rfl dX9_laysByRule_132 ?_
            refine lv_iload hx hb dX9_laysByRule_135 (lv_at hl 5 rfl) ?_
            refine lv_aload_n hx hb dX9_laysByRule_137 rfl (lv_at hl 0 rfl) ?_
            refine lv_iload_n hx hb dX9_laysByRule_138 rfl (lv_at hl 1 rfl) ?_
            refine lv_iload_n hx hb dX9_laysByRule_139 rfl (lv_at hl 2 rfl) ?_
            obtain ⟨r76, v77, hf⟩ := bd1_some hf
            refine gci (va_runV (As := [.int p1, .int p2]) (rest := [.int r1, .ref (ad 7)]) ⟨hx, hb, hml, hown, hts⟩ (tX9_couponOf l dC dI dA ad H.size v77) (ccX9_X9_couponOf hts ⟨Nat.le_of_ble_eq_true rfl, Nat.le_of_ble_eq_true rfl⟩) (gPreV (ci := 9) (q0 := 0) hP hK hD rfl rfl) rfl rfl hl.1 rfl (lv_room (Nat.le_of_ble_eq_true rfl)) dX9_laysByRule_140 ⟨Nat.le_of_ble_eq_true rfl, Nat.le_of_ble_eq_true rfl⟩) hD hS hA (fun H locs hP hD hS => ?_)
            refine lv_i2l hx hb dX9_laysByRule_143 rfl ?_
            refine lv_aload_n hx hb dX9_laysByRule_144 rfl (lv_at hl 0 rfl) ?_
            refine lv_iload_n hx hb dX9_laysByRule_145 rfl (lv_at hl 1 rfl) ?_
            refine lv_iload_n hx hb dX9_laysByRule_146 rfl (lv_at hl 2 rfl) ?_
            refine lv_iload_n hx hb dX9_laysByRule_147 rfl (lv_at hl 3 rfl) ?_
            refine lv_iload hx hb dX9_laysByRule_148 (lv_at hl 4 rfl) ?_
            obtain ⟨r78, v79, hf⟩ := bd1_some hf
            refine gcl (va_runV (As := [.int p1, .int p2, .int p3, .int p4]) (rest := [.long (Int32.toInt64 r76), .int r1, .ref (ad 7)]) ⟨hx, hb, hml, hown, hts⟩ (tX9_called l dC dI dA ad H.size v79) (ccX9_X9_called hts ⟨Nat.le_of_ble_eq_true rfl, Nat.le_of_ble_eq_true rfl⟩) (gPreV (ci := 9) (q0 := 0) hP hK hD rfl rfl) rfl rfl hl.1 rfl (lv_room (Nat.le_of_ble_eq_true rfl)) dX9_laysByRule_150 ⟨Nat.le_of_ble_eq_true rfl, Nat.le_of_ble_eq_true rfl⟩) hD hS hA (fun H locs hP hD hS => ?_)
            refine lv_ladd hx hb dX9_laysByRule_153 ?_
            obtain ⟨h80, hf⟩ := og_some hf
            obtain ⟨w81, ew81⟩ : ∃ y : Nat → Int64, y = vp_updL c_worth (Int32.toNatClampNeg r1) ((Int32.toInt64 r76) + r78) := ⟨_, rfl⟩
            replace hf := nm_at hf ew81
            refine va_last hx hb hK.1 hP hD hS 7 1 rfl rfl (okI_in h80) dX9_laysByRule_154 (fun H locs hP hD hS => ?_)
            have hP : va_P (dC, dI) vwCl (mW dA ad c_tape c_taped c_tree c_bonds c_moves c_handMoves c_moved c_days c_likely c_outOf c_rateNow c_pence c_top c_bottom c_spot c_textLong c_fault c_number c_numberAt c_figures c_written c_wanted c_found c_drawnNow w81 c_hold c_way w75 c_sDay c_sUps c_sUp c_sMarks c_paidAll c_isPlayed c_isOn c_handMoved c_handPaid c_regret c_aside c_other c_states c_kept c_keptLong c_keptAt c_isTaking) H := by rw [ew81]; exact hP
            have hD : va_D A (mW dA ad c_tape c_taped c_tree c_bonds c_moves c_handMoves c_moved c_days c_likely c_outOf c_rateNow c_pence c_top c_bottom c_spot c_textLong c_fault c_number c_numberAt c_figures c_written c_wanted c_found c_drawnNow w81 c_hold c_way w75 c_sDay c_sUps c_sUp c_sMarks c_paidAll c_isPlayed c_isOn c_handMoved c_handPaid c_regret c_aside c_other c_states c_kept c_keptLong c_keptAt c_isTaking) := by rw [ew81]; exact hD
            refine lv_goto (tgt := 192) hx hb dX9_laysByRule_155 (by decide) ?_
            cases hf
            exact J8 _ _ _ hP hD hS (lv_sub hl [] rfl)
          replace hf := v73
          clear v73
          refine lv_if_le (tgt := 129) hx hb dX9_laysByRule_122 (by decide) (fun k70 => ?_) (fun k70 => ?_)
          · replace hf := ifp (lc_le.mp k70) hf
            refine lv_iconst (v := 3) hx hb dX9_laysByRule_129 (by decide) ?_
            cases hf
            exact J72 _ _ _ hP hD hS (lv_sub hl [2, 3, 4, 5, 6, 1] rfl)
          · replace hf := ifn (fun h => k70 (lc_le.mpr h)) hf
            refine lv_iconst (v := 4) hx hb dX9_laysByRule_125 (by decide) ?_
            refine lv_goto (tgt := 130) hx hb dX9_laysByRule_126 (by decide) ?_
            cases hf
            exact J72 _ _ _ hP hD hS (lv_sub hl [2, 3, 4, 5, 6, 1] rfl)
    · replace hf := ifn (fun h => k46 (lc_lt.mpr h)) hf
      refine lv_aload_n hx hb dX9_laysByRule_49 rfl (lv_at hl 2 rfl) ?_
      refine va_get (D := (dC, dI)) (ci := 9) (v := .ref (ad 10)) (C := RX9) (T := TX9) (N := 45) hx hb hts (fun w h => gw_mem (inX9 w h)) hown hK.1 hP 0 rfl rfl 27 (by decide) (hts _ (gw_mem wfX9_39)) (fun _ h9 => h9) rfl dX9_laysByRule_50 ?_
      refine lv_iload hx hb dX9_laysByRule_53 (lv_at hl 1 rfl) ?_
      refine lv_iconst (v := 2) hx hb dX9_laysByRule_55 (by decide) ?_
      obtain ⟨h82, hf⟩ := og_some hf
      obtain ⟨w83, ew83⟩ : ∃ y : Nat → Int32, y = upd c_acts (Int32.toNatClampNeg r1) 2 := ⟨_, rfl⟩
      replace hf := nm_at hf ew83
      refine va_iast hx hb hK.1 hP hD hS 10 0 rfl rfl (okI_in h82) dX9_laysByRule_56 (fun H locs hP hD hS => ?_)
      have hP : va_P (dC, dI) vwCl (mW dA ad c_tape c_taped c_tree c_bonds c_moves c_handMoves c_moved c_days c_likely c_outOf c_rateNow c_pence c_top c_bottom c_spot c_textLong c_fault c_number c_numberAt c_figures c_written c_wanted c_found c_drawnNow c_worth c_hold c_way w83 c_sDay c_sUps c_sUp c_sMarks c_paidAll c_isPlayed c_isOn c_handMoved c_handPaid c_regret c_aside c_other c_states c_kept c_keptLong c_keptAt c_isTaking) H := by rw [ew83]; exact hP
      have hD : va_D A (mW dA ad c_tape c_taped c_tree c_bonds c_moves c_handMoves c_moved c_days c_likely c_outOf c_rateNow c_pence c_top c_bottom c_spot c_textLong c_fault c_number c_numberAt c_figures c_written c_wanted c_found c_drawnNow c_worth c_hold c_way w83 c_sDay c_sUps c_sUp c_sMarks c_paidAll c_isPlayed c_isOn c_handMoved c_handPaid c_regret c_aside c_other c_states c_kept c_keptLong c_keptAt c_isTaking) := by rw [ew83]; exact hD
      refine lv_aload_n hx hb dX9_laysByRule_57 rfl (lv_at hl 2 rfl) ?_
      refine va_get (D := (dC, dI)) (ci := 9) (v := .ref (ad 7)) (C := RX9) (T := TX9) (N := 45) hx hb hts (fun w h => gw_mem (inX9 w h)) hown hK.1 hP 0 rfl rfl 24 (by decide) (hts _ (gw_mem wfX9_30)) (fun _ h9 => h9) rfl dX9_laysByRule_58 ?_
      refine lv_iload hx hb dX9_laysByRule_61 (lv_at hl 1 rfl) ?_
      refine lv_aload_n hx hb dX9_laysByRule_63 rfl (lv_at hl 2 rfl) ?_
      refine lv_iload_n hx hb dX9_laysByRule_64 rfl (lv_at hl 3 rfl) ?_
      refine lv_iload_n hx hb dX9_laysByRule_65 rfl (lv_at hl 4 rfl) ?_
      obtain ⟨r84, v85, hf⟩ := bd1_some hf
      refine gci (va_runV (As := [.int p1, .int p2]) (rest := [.int r1, .ref (ad 7)]) ⟨hx, hb, hml, hown, hts⟩ (tX9_couponOf l dC dI dA ad H.size v85) (ccX9_X9_couponOf hts ⟨Nat.le_of_ble_eq_true rfl, Nat.le_of_ble_eq_true rfl⟩) (gPreV (ci := 9) (q0 := 0) hP hK hD rfl rfl) rfl rfl hl.1 rfl (lv_room (Nat.le_of_ble_eq_true rfl)) dX9_laysByRule_66 ⟨Nat.le_of_ble_eq_true rfl, Nat.le_of_ble_eq_true rfl⟩) hD hS hA (fun H locs hP hD hS => ?_)
      refine lv_i2l hx hb dX9_laysByRule_69 rfl ?_
      refine lv_lload hx hb dX9_laysByRule_70 (lv_at hl 0 rfl) ?_
      refine lv_ladd hx hb dX9_laysByRule_72 ?_
      obtain ⟨h86, hf⟩ := og_some hf
      obtain ⟨w87, ew87⟩ : ∃ y : Nat → Int64, y = vp_updL c_worth (Int32.toNatClampNeg r1) ((Int32.toInt64 r84) + r3) := ⟨_, rfl⟩
      replace hf := nm_at hf ew87
      refine va_last hx hb hK.1 hP hD hS 7 1 rfl rfl (okI_in h86) dX9_laysByRule_73 (fun H locs hP hD hS => ?_)
      have hP : va_P (dC, dI) vwCl (mW dA ad c_tape c_taped c_tree c_bonds c_moves c_handMoves c_moved c_days c_likely c_outOf c_rateNow c_pence c_top c_bottom c_spot c_textLong c_fault c_number c_numberAt c_figures c_written c_wanted c_found c_drawnNow w87 c_hold c_way w83 c_sDay c_sUps c_sUp c_sMarks c_paidAll c_isPlayed c_isOn c_handMoved c_handPaid c_regret c_aside c_other c_states c_kept c_keptLong c_keptAt c_isTaking) H := by rw [ew87]; exact hP
      have hD : va_D A (mW dA ad c_tape c_taped c_tree c_bonds c_moves c_handMoves c_moved c_days c_likely c_outOf c_rateNow c_pence c_top c_bottom c_spot c_textLong c_fault c_number c_numberAt c_figures c_written c_wanted c_found c_drawnNow w87 c_hold c_way w83 c_sDay c_sUps c_sUp c_sMarks c_paidAll c_isPlayed c_isOn c_handMoved c_handPaid c_regret c_aside c_other c_states c_kept c_keptLong c_keptAt c_isTaking) := by rw [ew87]; exact hD
      refine lv_goto (tgt := 192) hx hb dX9_laysByRule_74 (by decide) ?_
      cases hf
      exact J8 _ _ _ hP hD hS (lv_sub hl [] rfl)
theorem ccX9_X9_laysByRule {R : Room} {s : State} {args : Array Value} {c0 : Cond} (ht : ∀ w ∈ wq c0, w.before args s = true) (hR : rmX9_laysByRule.frames + 1 ≤ R.frames ∧ 8 + (11 + 11) + rmX9_laysByRule.locals ≤ R.locals) : CallW R s args RX9 RX9 431 yX9_laysByRule cX9_laysByRule 11 none (wq (.code yX9_laysByRule cX9_laysByRule 11 none)) rmX9_laysByRule 0 0 7 := gCW 7 ht wcX9_laysByRule wmX9_431 wiX9_laysByRule weX9_laysByRule wnX9 (by decide +kernel) rfl rfl hR
abbrev rmX9_byRule : Room := { frames := 7, cells := 0, slots := 0, locals := 184 }
set_option maxHeartbeats 4000000 in
set_option maxRecDepth 100000 in
theorem tX9_byRule (l : Launch) (dC : Nat → ClassId) (dI : Nat → Nat → Nat) (dA : Nat → ClassId) (ad : Nat → Nat) (sz : Nat) {p1 : Int32} {p2 : Int32} {p3 : Int32} {p4 : Int32} {c_tape : Nat → Int32} {c_taped : Int32} {c_tree : Nat → Int32} {c_bonds : Nat → Int32} {c_moves : Nat → Int32} {c_handMoves : Nat → Int32} {c_moved : Int32} {c_days : Int32} {c_likely : Int32} {c_outOf : Int32} {c_rateNow : Int32} {c_pence : Nat → Int64} {c_top : Int64} {c_bottom : Int64} {c_spot : Int32} {c_textLong : Int32} {c_fault : Int32} {c_number : Int32} {c_numberAt : Int32} {c_figures : Int32} {c_written : Int32} {c_wanted : Int32} {c_found : Int32} {c_drawnNow : Int32} {c_worth : Nat → Int64} {c_hold : Nat → Int64} {c_way : Nat → Int64} {c_acts : Nat → Int32} {c_sDay : Int32} {c_sUps : Int32} {c_sUp : Int32} {c_sMarks : Int32} {c_paidAll : Int64} {c_isPlayed : Int32} {c_isOn : Int32} {c_handMoved : Int32} {c_handPaid : Int64} {c_regret : Int64} {c_aside : Nat → Int32} {c_other : Nat → Int64} {c_states : Int32} {c_kept : Nat → Int32} {c_keptLong : Nat → Int64} {c_keptAt : Int32} {c_isTaking : Int32} {r : Int64} {o_c_days : Int32} {o_c_likely : Int32} {o_c_outOf : Int32} {o_c_rateNow : Int32} {o_c_pence : Nat → Int64} {o_c_top : Int64} {o_c_bottom : Int64} {o_c_worth : Nat → Int64} {o_c_hold : Nat → Int64} {o_c_acts : Nat → Int32} {o_c_sDay : Int32} {o_c_sUps : Int32} {o_c_sUp : Int32} {o_c_sMarks : Int32} (hf : fX9_byRule p1 p2 p3 p4 c_tree c_bonds c_moves c_moved c_days c_likely c_outOf c_rateNow c_pence c_top c_bottom c_worth c_hold c_acts c_sDay c_sUps c_sUp c_sMarks = some (r, o_c_days, o_c_likely, o_c_outOf, o_c_rateNow, o_c_pence, o_c_top, o_c_bottom, o_c_worth, o_c_hold, o_c_acts, o_c_sDay, o_c_sUps, o_c_sUp, o_c_sMarks)) : Met l yX9_byRule (wq (Cond.code yX9_byRule cX9_byRule 9 (some .long))) rmX9_byRule (gP [.ref (ad 0), .int p1, .int p2, .int p3, .int p4] (dC, dI) dA (mW dA ad c_tape c_taped c_tree c_bonds c_moves c_handMoves c_moved c_days c_likely c_outOf c_rateNow c_pence c_top c_bottom c_spot c_textLong c_fault c_number c_numberAt c_figures c_written c_wanted c_found c_drawnNow c_worth c_hold c_way c_acts c_sDay c_sUps c_sUp c_sMarks c_paidAll c_isPlayed c_isOn c_handMoved c_handPaid c_regret c_aside c_other c_states c_kept c_keptLong c_keptAt c_isTaking) sz) (gQl (dC, dI) r (mW dA ad c_tape c_taped c_tree c_bonds c_moves c_handMoves c_moved o_c_days o_c_likely o_c_outOf o_c_rateNow o_c_pence o_c_top o_c_bottom c_spot c_textLong c_fault c_number c_numberAt c_figures c_written c_wanted c_found c_drawnNow o_c_worth o_c_hold c_way o_c_acts o_c_sDay o_c_sUps o_c_sUp o_c_sMarks c_paidAll c_isPlayed c_isOn c_handMoved c_handPaid c_regret c_aside c_other c_states c_kept c_keptLong c_keptAt c_isTaking) (va_A (mW dA ad c_tape c_taped c_tree c_bonds c_moves c_handMoves c_moved c_days c_likely c_outOf c_rateNow c_pence c_top c_bottom c_spot c_textLong c_fault c_number c_numberAt c_figures c_written c_wanted c_found c_drawnNow c_worth c_hold c_way c_acts c_sDay c_sUps c_sUp c_sMarks c_paidAll c_isPlayed c_isOn c_handMoved c_handPaid c_regret c_aside c_other c_states c_kept c_keptLong c_keptAt c_isTaking) sz)) 0 0 (va_A (mW dA ad c_tape c_taped c_tree c_bonds c_moves c_handMoves c_moved c_days c_likely c_outOf c_rateNow c_pence c_top c_bottom c_spot c_textLong c_fault c_number c_numberAt c_figures c_written c_wanted c_found c_drawnNow c_worth c_hold c_way c_acts c_sDay c_sUps c_sUp c_sMarks c_paidAll c_isPlayed c_isOn c_handMoved c_handPaid c_regret c_aside c_other c_states c_kept c_keptLong c_keptAt c_isTaking) sz) := by
  refine Met.ofW (cc := cX9_byRule) (maxL := 9) (ret := (some .long)) (by decide) rfl ?_
  intro p e s m args below meth c s₁ B hml hv
  obtain ⟨rfl, hsz, hP, hK, hD0⟩ := hv
  have hx := B.exec
  have hb := B.bytes
  have hr := B.returns
  have hts := atoms_spec (ws := wq (Cond.code yX9_byRule cX9_byRule 9 (some .long))) B.pre
  have hown : s.vm.findClass RX9 = some m.cls := findClass_of_methodNamed B.named
  have hlocks := B.notSynchronized
  clear B
  subst hsz
  have hD := hD0.self (sz := s.heap.size)
  generalize hAe : va_A (mW dA ad c_tape c_taped c_tree c_bonds c_moves c_handMoves c_moved c_days c_likely c_outOf c_rateNow c_pence c_top c_bottom c_spot c_textLong c_fault c_number c_numberAt c_figures c_written c_wanted c_found c_drawnNow c_worth c_hold c_way c_acts c_sDay c_sUps c_sUp c_sMarks c_paidAll c_isPlayed c_isOn c_handMoved c_handPaid c_regret c_aside c_other c_states c_kept c_keptLong c_keptAt c_isTaking) s.heap.size = A at hD ⊢
  have hA : ∀ q : Nat, s.heap.size ≤ q → A q := fun q h => by rw [← hAe]; exact Or.inr h
  clear hAe hD0
  have hS : va_S A s.heap s.heap [] := va_S.rf
  have hl := lv_entry ([.ref (ad 0), .int p1, .int p2, .int p3, .int p4]) (n := 9) (Nat.le_of_ble_eq_true rfl)
  rw [lg_entry_eq]
  generalize (lg_sl ([.ref (ad 0), .int p1, .int p2, .int p3, .int p4]) ++ List.replicate (9 - (lg_sl ([.ref (ad 0), .int p1, .int p2, .int p3, .int p4])).length) Slot.unset).toArray = ls at hl ⊢
  have hl : lv_has ls 9 [(0, .ref (ad 0)), (1, .int p1), (2, .int p2), (3, .int p3), (4, .int p4)] := hl
  change W p l e rmX9_byRule s m ([.ref (ad 0), .int p1, .int p2, .int p3, .int p4] : List Value).toArray below meth c s.heap [] 0 0 _ _
  generalize hQ : MQ below (gQl (dC, dI) r (mW dA ad c_tape c_taped c_tree c_bonds c_moves c_handMoves c_moved o_c_days o_c_likely o_c_outOf o_c_rateNow o_c_pence o_c_top o_c_bottom c_spot c_textLong c_fault c_number c_numberAt c_figures c_written c_wanted c_found c_drawnNow o_c_worth o_c_hold c_way o_c_acts o_c_sDay o_c_sUps o_c_sUp o_c_sMarks c_paidAll c_isPlayed c_isOn c_handMoved c_handPaid c_regret c_aside c_other c_states c_kept c_keptLong c_keptAt c_isTaking) A) ([.ref (ad 0), .int p1, .int p2, .int p3, .int p4] : List Value).toArray s 0 0 A = Q
  have LP83 : ∀ (n : Nat) (x1 : Int32) (x2 : Int32) (x3 : Int32) (x4 : Int32) (x5 : Int32) (x6 : Int32) (x7 : Int32) (c_bonds : Nat → Int32) (c_days : Int32) (c_likely : Int32) (c_outOf : Int32) (c_rateNow : Int32) (c_pence : Nat → Int64) (c_tape : Nat → Int32) (c_taped : Int32) (c_tree : Nat → Int32) (c_moves : Nat → Int32) (c_handMoves : Nat → Int32) (c_moved : Int32) (c_top : Int64) (c_bottom : Int64) (c_spot : Int32) (c_textLong : Int32) (c_fault : Int32) (c_number : Int32) (c_numberAt : Int32) (c_figures : Int32) (c_written : Int32) (c_wanted : Int32) (c_found : Int32) (c_drawnNow : Int32) (c_hold : Nat → Int64) (c_way : Nat → Int64) (c_sDay : Int32) (c_sUps : Int32) (c_sUp : Int32) (c_sMarks : Int32) (c_paidAll : Int64) (c_isPlayed : Int32) (c_isOn : Int32) (c_handMoved : Int32) (c_handPaid : Int64) (c_regret : Int64) (c_aside : Nat → Int32) (c_other : Nat → Int64) (c_states : Int32) (c_kept : Nat → Int32) (c_keptLong : Nat → Int64) (c_keptAt : Int32) (c_isTaking : Int32) (x8 : Int32) (c_worth : Nat → Int64) (c_acts : Nat → Int32) (o_c_worth : Nat → Int64) (o_c_acts : Nat → Int32) (H : Heap) (locs : List Loc) (ls : Array Slot), va_P (dC, dI) vwCl (mW dA ad c_tape c_taped c_tree c_bonds c_moves c_handMoves c_moved c_days c_likely c_outOf c_rateNow c_pence c_top c_bottom c_spot c_textLong c_fault c_number c_numberAt c_figures c_written c_wanted c_found c_drawnNow c_worth c_hold c_way c_acts c_sDay c_sUps c_sUp c_sMarks c_paidAll c_isPlayed c_isOn c_handMoved c_handPaid c_regret c_aside c_other c_states c_kept c_keptLong c_keptAt c_isTaking) H → va_D A (mW dA ad c_tape c_taped c_tree c_bonds c_moves c_handMoves c_moved c_days c_likely c_outOf c_rateNow c_pence c_top c_bottom c_spot c_textLong c_fault c_number c_numberAt c_figures c_written c_wanted c_found c_drawnNow c_worth c_hold c_way c_acts c_sDay c_sUps c_sUp c_sMarks c_paidAll c_isPlayed c_isOn c_handMoved c_handPaid c_regret c_aside c_other c_states c_kept c_keptLong c_keptAt c_isTaking) → va_S A s.heap H locs → lpX9_byRule_83 x1 x2 x3 x4 x5 x6 x7 c_bonds c_days c_likely c_outOf c_rateNow c_pence n x8 c_worth c_acts = some (o_c_worth, o_c_acts) → lv_has ls 9 [(0, .ref (ad 0)), (1, .int x1), (2, .int x2), (3, .int x3), (4, .int x4), (5, .int x5), (6, .int x6), (7, .int x7), (8, .int x8)] → (∀ (H : Heap) (locs : List Loc) (ls : Array Slot), va_P (dC, dI) vwCl (mW dA ad c_tape c_taped c_tree c_bonds c_moves c_handMoves c_moved c_days c_likely c_outOf c_rateNow c_pence c_top c_bottom c_spot c_textLong c_fault c_number c_numberAt c_figures c_written c_wanted c_found c_drawnNow o_c_worth c_hold c_way o_c_acts c_sDay c_sUps c_sUp c_sMarks c_paidAll c_isPlayed c_isOn c_handMoved c_handPaid c_regret c_aside c_other c_states c_kept c_keptLong c_keptAt c_isTaking) H → va_D A (mW dA ad c_tape c_taped c_tree c_bonds c_moves c_handMoves c_moved c_days c_likely c_outOf c_rateNow c_pence c_top c_bottom c_spot c_textLong c_fault c_number c_numberAt c_figures c_written c_wanted c_found c_drawnNow o_c_worth c_hold c_way o_c_acts c_sDay c_sUps c_sUp c_sMarks c_paidAll c_isPlayed c_isOn c_handMoved c_handPaid c_regret c_aside c_other c_states c_kept c_keptLong c_keptAt c_isTaking) → va_S A s.heap H locs → lv_has ls 9 [(0, .ref (ad 0)), (1, .int x1), (2, .int x2), (3, .int x3), (4, .int x4), (5, .int x5), (6, .int x6), (7, .int x7)] → W p l e rmX9_byRule s m ([.ref (ad 0), .int p1, .int p2, .int p3, .int p4] : List Value).toArray below meth c H locs 0 0 Q (F0 m 126 ls [])) → W p l e rmX9_byRule s m ([.ref (ad 0), .int p1, .int p2, .int p3, .int p4] : List Value).toArray below meth c H locs 0 0 Q (F0 m 83 ls []) := by
    intro n
    induction n with
    | zero =>
      intro x1 x2 x3 x4 x5 x6 x7 c_bonds c_days c_likely c_outOf c_rateNow c_pence c_tape c_taped c_tree c_moves c_handMoves c_moved c_top c_bottom c_spot c_textLong c_fault c_number c_numberAt c_figures c_written c_wanted c_found c_drawnNow c_hold c_way c_sDay c_sUps c_sUp c_sMarks c_paidAll c_isPlayed c_isOn c_handMoved c_handPaid c_regret c_aside c_other c_states c_kept c_keptLong c_keptAt c_isTaking x8 c_worth c_acts o_c_worth o_c_acts H locs ls hP hD hS hf hl hk
      cases hf
    | succ n ih83 =>
      intro x1 x2 x3 x4 x5 x6 x7 c_bonds c_days c_likely c_outOf c_rateNow c_pence c_tape c_taped c_tree c_moves c_handMoves c_moved c_top c_bottom c_spot c_textLong c_fault c_number c_numberAt c_figures c_written c_wanted c_found c_drawnNow c_hold c_way c_sDay c_sUps c_sUp c_sMarks c_paidAll c_isPlayed c_isOn c_handMoved c_handPaid c_regret c_aside c_other c_states c_kept c_keptLong c_keptAt c_isTaking x8 c_worth c_acts o_c_worth o_c_acts H locs ls hP hD hS hf hl hk
      rw [lpX9_byRule_83.eq_2] at hf
      refine lv_iload hx hb dX9_byRule_83 (lv_at hl 8 rfl) ?_
      refine lv_bipush (v := 8) hx hb dX9_byRule_85 (by decide) ?_
      refine lv_icmp_ge (tgt := 126) hx hb dX9_byRule_87 (by decide) (fun k54 => ?_) (fun k54 => ?_)
      · replace hf := ifp k54 hf
        cases hf
        exact hk _ _ _ hP hD hS (lv_sub hl [0, 1, 2, 3, 4, 5, 6, 7] rfl)
      · replace hf := ifn k54 hf
        refine lv_iload hx hb dX9_byRule_90 (lv_at hl 5 rfl) ?_
        refine lv_iload hx hb dX9_byRule_92 (lv_at hl 6 rfl) ?_
        refine lv_iload hx hb dX9_byRule_94 (lv_at hl 7 rfl) ?_
        obtain ⟨r55, v56, hf⟩ := bd1_some hf
        refine gci0 (va_runS (As := [.int x5, .int x6, .int x7]) (rest := []) ⟨hx, hb, hml, hown, hts⟩ (tX9_isState l dC dI dA H.size v56) (ccX9_X9_isState hts ⟨Nat.le_of_ble_eq_true rfl, Nat.le_of_ble_eq_true rfl⟩) (gPreS0 hK) rfl rfl hl.1 rfl (lv_room (Nat.le_of_ble_eq_true rfl)) dX9_byRule_96 ⟨Nat.le_of_ble_eq_true rfl, Nat.le_of_ble_eq_true rfl⟩) hP hS hA (fun H locs hP hS => ?_)
        refine lv_if_eq (tgt := 126) hx hb dX9_byRule_99 (by decide) (fun k57 => ?_) (fun k57 => ?_)
        · replace hf := ifp k57 hf
          cases hf
          exact hk _ _ _ hP hD hS (lv_sub hl [0, 1, 2, 3, 4, 5, 6, 7] rfl)
        · replace hf := ifn k57 hf
          refine lv_aload_n hx hb dX9_byRule_102 rfl (lv_at hl 0 rfl) ?_
          refine lv_iload_n hx hb dX9_byRule_103 rfl (lv_at hl 1 rfl) ?_
          refine lv_iload hx hb dX9_byRule_104 (lv_at hl 5 rfl) ?_
          refine lv_iload hx hb dX9_byRule_106 (lv_at hl 6 rfl) ?_
          refine lv_iload hx hb dX9_byRule_108 (lv_at hl 7 rfl) ?_
          refine lv_iload hx hb dX9_byRule_110 (lv_at hl 8 rfl) ?_
          refine lv_iload_n hx hb dX9_byRule_112 rfl (lv_at hl 2 rfl) ?_
          refine lv_iload_n hx hb dX9_byRule_113 rfl (lv_at hl 3 rfl) ?_
          obtain ⟨c_worth_58, c_acts_59, v60, hf⟩ := bd2_some hf
          refine gcv (va_runV (As := [.int x1, .int x5, .int x6, .int x7, .int x8, .int x2, .int x3]) (rest := []) ⟨hx, hb, hml, hown, hts⟩ (tX9_laysByRule l dC dI dA ad H.size v60) (ccX9_X9_laysByRule hts ⟨Nat.le_of_ble_eq_true rfl, Nat.le_of_ble_eq_true rfl⟩) (gPreV (ci := 9) (q0 := 0) hP hK hD rfl rfl) rfl rfl hl.1 rfl (lv_room (Nat.le_of_ble_eq_true rfl)) dX9_byRule_114 ⟨Nat.le_of_ble_eq_true rfl, Nat.le_of_ble_eq_true rfl⟩) hD hS hA (fun H locs hP hD hS => ?_)
          refine lv_iload hx hb dX9_byRule_117 (lv_at hl 8 rfl) ?_
          refine lv_iconst (v := 2) hx hb dX9_byRule_119 (by decide) ?_
          refine lv_iadd hx hb dX9_byRule_120 ?_
          refine lv_topi (fun w61 ew61 => ?_)
          replace hf := nm_at hf ew61
          refine lv_istore (lv' := [(8, .int w61), (0, .ref (ad 0)), (1, .int x1), (2, .int x2), (3, .int x3), (4, .int x4), (5, .int x5), (6, .int x6), (7, .int x7)]) hx hb dX9_byRule_121 hl (by decide) rfl (fun ls hl => ?_)
          refine lv_goto (tgt := 83) hx hb dX9_byRule_123 (by decide) ?_
          exact ih83 _ _ _ _ _ _ _ _ _ _ _ _ _ _ _ _ _ _ _ _ _ _ _ _ _ _ _ _ _ _ _ _ _ _ _ _ _ _ _ _ _ _ _ _ _ _ _ _ _ _ _ _ _ _ _ _ _ _ hP hD hS hf (lv_sub hl [1, 2, 3, 4, 5, 6, 7, 8, 0] rfl) hk
  have LP66 : ∀ (n : Nat) (x1 : Int32) (x2 : Int32) (x3 : Int32) (x4 : Int32) (x5 : Int32) (x6 : Int32) (c_bonds : Nat → Int32) (c_days : Int32) (c_likely : Int32) (c_outOf : Int32) (c_rateNow : Int32) (c_pence : Nat → Int64) (c_tape : Nat → Int32) (c_taped : Int32) (c_tree : Nat → Int32) (c_moves : Nat → Int32) (c_handMoves : Nat → Int32) (c_moved : Int32) (c_top : Int64) (c_bottom : Int64) (c_spot : Int32) (c_textLong : Int32) (c_fault : Int32) (c_number : Int32) (c_numberAt : Int32) (c_figures : Int32) (c_written : Int32) (c_wanted : Int32) (c_found : Int32) (c_drawnNow : Int32) (c_hold : Nat → Int64) (c_way : Nat → Int64) (c_sDay : Int32) (c_sUps : Int32) (c_sUp : Int32) (c_sMarks : Int32) (c_paidAll : Int64) (c_isPlayed : Int32) (c_isOn : Int32) (c_handMoved : Int32) (c_handPaid : Int64) (c_regret : Int64) (c_aside : Nat → Int32) (c_other : Nat → Int64) (c_states : Int32) (c_kept : Nat → Int32) (c_keptLong : Nat → Int64) (c_keptAt : Int32) (c_isTaking : Int32) (x7 : Int32) (c_worth : Nat → Int64) (c_acts : Nat → Int32) (o_c_worth : Nat → Int64) (o_c_acts : Nat → Int32) (H : Heap) (locs : List Loc) (ls : Array Slot), va_P (dC, dI) vwCl (mW dA ad c_tape c_taped c_tree c_bonds c_moves c_handMoves c_moved c_days c_likely c_outOf c_rateNow c_pence c_top c_bottom c_spot c_textLong c_fault c_number c_numberAt c_figures c_written c_wanted c_found c_drawnNow c_worth c_hold c_way c_acts c_sDay c_sUps c_sUp c_sMarks c_paidAll c_isPlayed c_isOn c_handMoved c_handPaid c_regret c_aside c_other c_states c_kept c_keptLong c_keptAt c_isTaking) H → va_D A (mW dA ad c_tape c_taped c_tree c_bonds c_moves c_handMoves c_moved c_days c_likely c_outOf c_rateNow c_pence c_top c_bottom c_spot c_textLong c_fault c_number c_numberAt c_figures c_written c_wanted c_found c_drawnNow c_worth c_hold c_way c_acts c_sDay c_sUps c_sUp c_sMarks c_paidAll c_isPlayed c_isOn c_handMoved c_handPaid c_regret c_aside c_other c_states c_kept c_keptLong c_keptAt c_isTaking) → va_S A s.heap H locs → lpX9_byRule_66 x1 x2 x3 x4 x5 x6 c_bonds c_days c_likely c_outOf c_rateNow c_pence n x7 c_worth c_acts = some (o_c_worth, o_c_acts) → lv_has ls 9 [(0, .ref (ad 0)), (1, .int x1), (2, .int x2), (3, .int x3), (4, .int x4), (5, .int x5), (6, .int x6), (7, .int x7)] → (∀ (H : Heap) (locs : List Loc) (ls : Array Slot), va_P (dC, dI) vwCl (mW dA ad c_tape c_taped c_tree c_bonds c_moves c_handMoves c_moved c_days c_likely c_outOf c_rateNow c_pence c_top c_bottom c_spot c_textLong c_fault c_number c_numberAt c_figures c_written c_wanted c_found c_drawnNow o_c_worth c_hold c_way o_c_acts c_sDay c_sUps c_sUp c_sMarks c_paidAll c_isPlayed c_isOn c_handMoved c_handPaid c_regret c_aside c_other c_states c_kept c_keptLong c_keptAt c_isTaking) H → va_D A (mW dA ad c_tape c_taped c_tree c_bonds c_moves c_handMoves c_moved c_days c_likely c_outOf c_rateNow c_pence c_top c_bottom c_spot c_textLong c_fault c_number c_numberAt c_figures c_written c_wanted c_found c_drawnNow o_c_worth c_hold c_way o_c_acts c_sDay c_sUps c_sUp c_sMarks c_paidAll c_isPlayed c_isOn c_handMoved c_handPaid c_regret c_aside c_other c_states c_kept c_keptLong c_keptAt c_isTaking) → va_S A s.heap H locs → lv_has ls 9 [(0, .ref (ad 0)), (1, .int x1), (2, .int x2), (3, .int x3), (4, .int x4), (5, .int x5), (6, .int x6)] → W p l e rmX9_byRule s m ([.ref (ad 0), .int p1, .int p2, .int p3, .int p4] : List Value).toArray below meth c H locs 0 0 Q (F0 m 132 ls [])) → W p l e rmX9_byRule s m ([.ref (ad 0), .int p1, .int p2, .int p3, .int p4] : List Value).toArray below meth c H locs 0 0 Q (F0 m 66 ls []) := by
    intro n
    induction n with
    | zero =>
      intro x1 x2 x3 x4 x5 x6 c_bonds c_days c_likely c_outOf c_rateNow c_pence c_tape c_taped c_tree c_moves c_handMoves c_moved c_top c_bottom c_spot c_textLong c_fault c_number c_numberAt c_figures c_written c_wanted c_found c_drawnNow c_hold c_way c_sDay c_sUps c_sUp c_sMarks c_paidAll c_isPlayed c_isOn c_handMoved c_handPaid c_regret c_aside c_other c_states c_kept c_keptLong c_keptAt c_isTaking x7 c_worth c_acts o_c_worth o_c_acts H locs ls hP hD hS hf hl hk
      cases hf
    | succ n ih66 =>
      intro x1 x2 x3 x4 x5 x6 c_bonds c_days c_likely c_outOf c_rateNow c_pence c_tape c_taped c_tree c_moves c_handMoves c_moved c_top c_bottom c_spot c_textLong c_fault c_number c_numberAt c_figures c_written c_wanted c_found c_drawnNow c_hold c_way c_sDay c_sUps c_sUp c_sMarks c_paidAll c_isPlayed c_isOn c_handMoved c_handPaid c_regret c_aside c_other c_states c_kept c_keptLong c_keptAt c_isTaking x7 c_worth c_acts o_c_worth o_c_acts H locs ls hP hD hS hf hl hk
      rw [lpX9_byRule_66.eq_2] at hf
      refine lv_iload hx hb dX9_byRule_66 (lv_at hl 7 rfl) ?_
      refine lv_iconst (v := 2) hx hb dX9_byRule_68 (by decide) ?_
      refine lv_icmp_ge (tgt := 132) hx hb dX9_byRule_69 (by decide) (fun k47 => ?_) (fun k47 => ?_)
      · replace hf := ifp k47 hf
        cases hf
        exact hk _ _ _ hP hD hS (lv_sub hl [0, 1, 2, 3, 4, 5, 6] rfl)
      · replace hf := ifn k47 hf
        refine lv_aload_n hx hb dX9_byRule_72 rfl (lv_at hl 0 rfl) ?_
        refine lv_iload_n hx hb dX9_byRule_73 rfl (lv_at hl 1 rfl) ?_
        refine lv_iload hx hb dX9_byRule_74 (lv_at hl 5 rfl) ?_
        refine lv_iload hx hb dX9_byRule_76 (lv_at hl 6 rfl) ?_
        obtain ⟨r48, v49, hf⟩ := bd1_some hf
        refine gci (va_runV (As := [.int x1, .int x5, .int x6]) (rest := []) ⟨hx, hb, hml, hown, hts⟩ (tX9_isHigh l dC dI dA ad H.size v49) (ccX9_X9_isHigh hts ⟨Nat.le_of_ble_eq_true rfl, Nat.le_of_ble_eq_true rfl⟩) (gPreV (ci := 9) (q0 := 0) hP hK hD rfl rfl) rfl rfl hl.1 rfl (lv_room (Nat.le_of_ble_eq_true rfl)) dX9_byRule_78 ⟨Nat.le_of_ble_eq_true rfl, Nat.le_of_ble_eq_true rfl⟩) hD hS hA (fun H locs hP hD hS => ?_)
        refine lv_istore (lv' := [(8, .int r48), (0, .ref (ad 0)), (1, .int x1), (2, .int x2), (3, .int x3), (4, .int x4), (5, .int x5), (6, .int x6), (7, .int x7)]) hx hb dX9_byRule_81 hl (by decide) rfl (fun ls hl => ?_)
        obtain ⟨c_worth_50, c_acts_51, v52, hf⟩ := bd2_some hf
        refine LP83 FU _ _ _ _ _ _ _ _ _ _ _ _ _ _ _ _ _ _ _ _ _ _ _ _ _ _ _ _ _ _ _ _ _ _ _ _ _ _ _ _ _ _ _ _ _ _ _ _ _ _ _ _ _ _ _ _ _ _ hP hD hS v52 (lv_sub hl [1, 2, 3, 4, 5, 6, 7, 8, 0] rfl) (fun H locs ls hP hD hS hl => ?_)
        obtain ⟨w53, ew53⟩ : ∃ y : Int32, y = x7 + 1 := ⟨_, rfl⟩
        replace hf := nm_at hf ew53
        refine lv_iinc (v := w53) (lv' := [(7, .int w53), (0, .ref (ad 0)), (1, .int x1), (2, .int x2), (3, .int x3), (4, .int x4), (5, .int x5), (6, .int x6)]) hx hb dX9_byRule_126 hl (k := 7) rfl (by rw [ew53]; rfl) (by decide) rfl (fun ls hl => ?_)
        refine lv_goto (tgt := 66) hx hb dX9_byRule_129 (by decide) ?_
        exact ih66 _ _ _ _ _ _ _ _ _ _ _ _ _ _ _ _ _ _ _ _ _ _ _ _ _ _ _ _ _ _ _ _ _ _ _ _ _ _ _ _ _ _ _ _ _ _ _ _ _ _ _ _ _ _ _ _ _ hP hD hS hf (lv_sub hl [1, 2, 3, 4, 5, 6, 7, 0] rfl) hk
  have LP56 : ∀ (n : Nat) (x1 : Int32) (x2 : Int32) (x3 : Int32) (x4 : Int32) (x5 : Int32) (c_bonds : Nat → Int32) (c_days : Int32) (c_likely : Int32) (c_outOf : Int32) (c_rateNow : Int32) (c_pence : Nat → Int64) (c_tape : Nat → Int32) (c_taped : Int32) (c_tree : Nat → Int32) (c_moves : Nat → Int32) (c_handMoves : Nat → Int32) (c_moved : Int32) (c_top : Int64) (c_bottom : Int64) (c_spot : Int32) (c_textLong : Int32) (c_fault : Int32) (c_number : Int32) (c_numberAt : Int32) (c_figures : Int32) (c_written : Int32) (c_wanted : Int32) (c_found : Int32) (c_drawnNow : Int32) (c_hold : Nat → Int64) (c_way : Nat → Int64) (c_sDay : Int32) (c_sUps : Int32) (c_sUp : Int32) (c_sMarks : Int32) (c_paidAll : Int64) (c_isPlayed : Int32) (c_isOn : Int32) (c_handMoved : Int32) (c_handPaid : Int64) (c_regret : Int64) (c_aside : Nat → Int32) (c_other : Nat → Int64) (c_states : Int32) (c_kept : Nat → Int32) (c_keptLong : Nat → Int64) (c_keptAt : Int32) (c_isTaking : Int32) (x6 : Int32) (c_worth : Nat → Int64) (c_acts : Nat → Int32) (o_c_worth : Nat → Int64) (o_c_acts : Nat → Int32) (H : Heap) (locs : List Loc) (ls : Array Slot), va_P (dC, dI) vwCl (mW dA ad c_tape c_taped c_tree c_bonds c_moves c_handMoves c_moved c_days c_likely c_outOf c_rateNow c_pence c_top c_bottom c_spot c_textLong c_fault c_number c_numberAt c_figures c_written c_wanted c_found c_drawnNow c_worth c_hold c_way c_acts c_sDay c_sUps c_sUp c_sMarks c_paidAll c_isPlayed c_isOn c_handMoved c_handPaid c_regret c_aside c_other c_states c_kept c_keptLong c_keptAt c_isTaking) H → va_D A (mW dA ad c_tape c_taped c_tree c_bonds c_moves c_handMoves c_moved c_days c_likely c_outOf c_rateNow c_pence c_top c_bottom c_spot c_textLong c_fault c_number c_numberAt c_figures c_written c_wanted c_found c_drawnNow c_worth c_hold c_way c_acts c_sDay c_sUps c_sUp c_sMarks c_paidAll c_isPlayed c_isOn c_handMoved c_handPaid c_regret c_aside c_other c_states c_kept c_keptLong c_keptAt c_isTaking) → va_S A s.heap H locs → lpX9_byRule_56 x1 x2 x3 x4 x5 c_bonds c_days c_likely c_outOf c_rateNow c_pence n x6 c_worth c_acts = some (o_c_worth, o_c_acts) → lv_has ls 9 [(0, .ref (ad 0)), (1, .int x1), (2, .int x2), (3, .int x3), (4, .int x4), (5, .int x5), (6, .int x6)] → (∀ (H : Heap) (locs : List Loc) (ls : Array Slot), va_P (dC, dI) vwCl (mW dA ad c_tape c_taped c_tree c_bonds c_moves c_handMoves c_moved c_days c_likely c_outOf c_rateNow c_pence c_top c_bottom c_spot c_textLong c_fault c_number c_numberAt c_figures c_written c_wanted c_found c_drawnNow o_c_worth c_hold c_way o_c_acts c_sDay c_sUps c_sUp c_sMarks c_paidAll c_isPlayed c_isOn c_handMoved c_handPaid c_regret c_aside c_other c_states c_kept c_keptLong c_keptAt c_isTaking) H → va_D A (mW dA ad c_tape c_taped c_tree c_bonds c_moves c_handMoves c_moved c_days c_likely c_outOf c_rateNow c_pence c_top c_bottom c_spot c_textLong c_fault c_number c_numberAt c_figures c_written c_wanted c_found c_drawnNow o_c_worth c_hold c_way o_c_acts c_sDay c_sUps c_sUp c_sMarks c_paidAll c_isPlayed c_isOn c_handMoved c_handPaid c_regret c_aside c_other c_states c_kept c_keptLong c_keptAt c_isTaking) → va_S A s.heap H locs → lv_has ls 9 [(0, .ref (ad 0)), (1, .int x1), (2, .int x2), (3, .int x3), (4, .int x4), (5, .int x5)] → W p l e rmX9_byRule s m ([.ref (ad 0), .int p1, .int p2, .int p3, .int p4] : List Value).toArray below meth c H locs 0 0 Q (F0 m 138 ls [])) → W p l e rmX9_byRule s m ([.ref (ad 0), .int p1, .int p2, .int p3, .int p4] : List Value).toArray below meth c H locs 0 0 Q (F0 m 56 ls []) := by
    intro n
    induction n with
    | zero =>
      intro x1 x2 x3 x4 x5 c_bonds c_days c_likely c_outOf c_rateNow c_pence c_tape c_taped c_tree c_moves c_handMoves c_moved c_top c_bottom c_spot c_textLong c_fault c_number c_numberAt c_figures c_written c_wanted c_found c_drawnNow c_hold c_way c_sDay c_sUps c_sUp c_sMarks c_paidAll c_isPlayed c_isOn c_handMoved c_handPaid c_regret c_aside c_other c_states c_kept c_keptLong c_keptAt c_isTaking x6 c_worth c_acts o_c_worth o_c_acts H locs ls hP hD hS hf hl hk
      cases hf
    | succ n ih56 =>
      intro x1 x2 x3 x4 x5 c_bonds c_days c_likely c_outOf c_rateNow c_pence c_tape c_taped c_tree c_moves c_handMoves c_moved c_top c_bottom c_spot c_textLong c_fault c_number c_numberAt c_figures c_written c_wanted c_found c_drawnNow c_hold c_way c_sDay c_sUps c_sUp c_sMarks c_paidAll c_isPlayed c_isOn c_handMoved c_handPaid c_regret c_aside c_other c_states c_kept c_keptLong c_keptAt c_isTaking x6 c_worth c_acts o_c_worth o_c_acts H locs ls hP hD hS hf hl hk
      rw [lpX9_byRule_56.eq_2] at hf
      refine lv_iload hx hb dX9_byRule_56 (lv_at hl 6 rfl) ?_
      refine lv_iload hx hb dX9_byRule_58 (lv_at hl 5 rfl) ?_
      refine lv_icmp_gt (tgt := 138) hx hb dX9_byRule_60 (by decide) (fun k42 => ?_) (fun k42 => ?_)
      · replace hf := ifp k42 hf
        cases hf
        exact hk _ _ _ hP hD hS (lv_sub hl [0, 1, 2, 3, 4, 5] rfl)
      · replace hf := ifn k42 hf
        refine lv_iconst (v := 0) hx hb dX9_byRule_63 (by decide) ?_
        refine lv_istore (lv' := [(7, .int 0), (0, .ref (ad 0)), (1, .int x1), (2, .int x2), (3, .int x3), (4, .int x4), (5, .int x5), (6, .int x6)]) hx hb dX9_byRule_64 hl (by decide) rfl (fun ls hl => ?_)
        obtain ⟨c_worth_43, c_acts_44, v45, hf⟩ := bd2_some hf
        refine LP66 FU _ _ _ _ _ _ _ _ _ _ _ _ _ _ _ _ _ _ _ _ _ _ _ _ _ _ _ _ _ _ _ _ _ _ _ _ _ _ _ _ _ _ _ _ _ _ _ _ _ _ _ _ _ _ _ _ _ hP hD hS v45 (lv_sub hl [1, 2, 3, 4, 5, 6, 7, 0] rfl) (fun H locs ls hP hD hS hl => ?_)
        obtain ⟨w46, ew46⟩ : ∃ y : Int32, y = x6 + 1 := ⟨_, rfl⟩
        replace hf := nm_at hf ew46
        refine lv_iinc (v := w46) (lv' := [(6, .int w46), (0, .ref (ad 0)), (1, .int x1), (2, .int x2), (3, .int x3), (4, .int x4), (5, .int x5)]) hx hb dX9_byRule_132 hl (k := 6) rfl (by rw [ew46]; rfl) (by decide) rfl (fun ls hl => ?_)
        refine lv_goto (tgt := 56) hx hb dX9_byRule_135 (by decide) ?_
        exact ih56 _ _ _ _ _ _ _ _ _ _ _ _ _ _ _ _ _ _ _ _ _ _ _ _ _ _ _ _ _ _ _ _ _ _ _ _ _ _ _ _ _ _ _ _ _ _ _ _ _ _ _ _ _ _ _ _ hP hD hS hf (lv_sub hl [1, 2, 3, 4, 5, 6, 0] rfl) hk
  have LP48 : ∀ (n : Nat) (x1 : Int32) (x2 : Int32) (x3 : Int32) (x4 : Int32) (c_bonds : Nat → Int32) (c_days : Int32) (c_likely : Int32) (c_outOf : Int32) (c_rateNow : Int32) (c_pence : Nat → Int64) (c_tape : Nat → Int32) (c_taped : Int32) (c_tree : Nat → Int32) (c_moves : Nat → Int32) (c_handMoves : Nat → Int32) (c_moved : Int32) (c_top : Int64) (c_bottom : Int64) (c_spot : Int32) (c_textLong : Int32) (c_fault : Int32) (c_number : Int32) (c_numberAt : Int32) (c_figures : Int32) (c_written : Int32) (c_wanted : Int32) (c_found : Int32) (c_drawnNow : Int32) (c_hold : Nat → Int64) (c_way : Nat → Int64) (c_sDay : Int32) (c_sUps : Int32) (c_sUp : Int32) (c_sMarks : Int32) (c_paidAll : Int64) (c_isPlayed : Int32) (c_isOn : Int32) (c_handMoved : Int32) (c_handPaid : Int64) (c_regret : Int64) (c_aside : Nat → Int32) (c_other : Nat → Int64) (c_states : Int32) (c_kept : Nat → Int32) (c_keptLong : Nat → Int64) (c_keptAt : Int32) (c_isTaking : Int32) (x5 : Int32) (c_worth : Nat → Int64) (c_acts : Nat → Int32) (o_c_worth : Nat → Int64) (o_c_acts : Nat → Int32) (H : Heap) (locs : List Loc) (ls : Array Slot), va_P (dC, dI) vwCl (mW dA ad c_tape c_taped c_tree c_bonds c_moves c_handMoves c_moved c_days c_likely c_outOf c_rateNow c_pence c_top c_bottom c_spot c_textLong c_fault c_number c_numberAt c_figures c_written c_wanted c_found c_drawnNow c_worth c_hold c_way c_acts c_sDay c_sUps c_sUp c_sMarks c_paidAll c_isPlayed c_isOn c_handMoved c_handPaid c_regret c_aside c_other c_states c_kept c_keptLong c_keptAt c_isTaking) H → va_D A (mW dA ad c_tape c_taped c_tree c_bonds c_moves c_handMoves c_moved c_days c_likely c_outOf c_rateNow c_pence c_top c_bottom c_spot c_textLong c_fault c_number c_numberAt c_figures c_written c_wanted c_found c_drawnNow c_worth c_hold c_way c_acts c_sDay c_sUps c_sUp c_sMarks c_paidAll c_isPlayed c_isOn c_handMoved c_handPaid c_regret c_aside c_other c_states c_kept c_keptLong c_keptAt c_isTaking) → va_S A s.heap H locs → lpX9_byRule_48 x1 x2 x3 x4 c_bonds c_days c_likely c_outOf c_rateNow c_pence n x5 c_worth c_acts = some (o_c_worth, o_c_acts) → lv_has ls 9 [(0, .ref (ad 0)), (1, .int x1), (2, .int x2), (3, .int x3), (4, .int x4), (5, .int x5)] → (∀ (H : Heap) (locs : List Loc) (ls : Array Slot), va_P (dC, dI) vwCl (mW dA ad c_tape c_taped c_tree c_bonds c_moves c_handMoves c_moved c_days c_likely c_outOf c_rateNow c_pence c_top c_bottom c_spot c_textLong c_fault c_number c_numberAt c_figures c_written c_wanted c_found c_drawnNow o_c_worth c_hold c_way o_c_acts c_sDay c_sUps c_sUp c_sMarks c_paidAll c_isPlayed c_isOn c_handMoved c_handPaid c_regret c_aside c_other c_states c_kept c_keptLong c_keptAt c_isTaking) H → va_D A (mW dA ad c_tape c_taped c_tree c_bonds c_moves c_handMoves c_moved c_days c_likely c_outOf c_rateNow c_pence c_top c_bottom c_spot c_textLong c_fault c_number c_numberAt c_figures c_written c_wanted c_found c_drawnNow o_c_worth c_hold c_way o_c_acts c_sDay c_sUps c_sUp c_sMarks c_paidAll c_isPlayed c_isOn c_handMoved c_handPaid c_regret c_aside c_other c_states c_kept c_keptLong c_keptAt c_isTaking) → va_S A s.heap H locs → lv_has ls 9 [(0, .ref (ad 0)), (1, .int x1), (4, .int x4)] → W p l e rmX9_byRule s m ([.ref (ad 0), .int p1, .int p2, .int p3, .int p4] : List Value).toArray below meth c H locs 0 0 Q (F0 m 144 ls [])) → W p l e rmX9_byRule s m ([.ref (ad 0), .int p1, .int p2, .int p3, .int p4] : List Value).toArray below meth c H locs 0 0 Q (F0 m 48 ls []) := by
    intro n
    induction n with
    | zero =>
      intro x1 x2 x3 x4 c_bonds c_days c_likely c_outOf c_rateNow c_pence c_tape c_taped c_tree c_moves c_handMoves c_moved c_top c_bottom c_spot c_textLong c_fault c_number c_numberAt c_figures c_written c_wanted c_found c_drawnNow c_hold c_way c_sDay c_sUps c_sUp c_sMarks c_paidAll c_isPlayed c_isOn c_handMoved c_handPaid c_regret c_aside c_other c_states c_kept c_keptLong c_keptAt c_isTaking x5 c_worth c_acts o_c_worth o_c_acts H locs ls hP hD hS hf hl hk
      cases hf
    | succ n ih48 =>
      intro x1 x2 x3 x4 c_bonds c_days c_likely c_outOf c_rateNow c_pence c_tape c_taped c_tree c_moves c_handMoves c_moved c_top c_bottom c_spot c_textLong c_fault c_number c_numberAt c_figures c_written c_wanted c_found c_drawnNow c_hold c_way c_sDay c_sUps c_sUp c_sMarks c_paidAll c_isPlayed c_isOn c_handMoved c_handPaid c_regret c_aside c_other c_states c_kept c_keptLong c_keptAt c_isTaking x5 c_worth c_acts o_c_worth o_c_acts H locs ls hP hD hS hf hl hk
      rw [lpX9_byRule_48.eq_2] at hf
      refine lv_iload hx hb dX9_byRule_48 (lv_at hl 5 rfl) ?_
      refine lv_if_lt (tgt := 144) hx hb dX9_byRule_50 (by decide) (fun k37 => ?_) (fun k37 => ?_)
      · replace hf := ifp k37 hf
        cases hf
        exact hk _ _ _ hP hD hS (lv_sub hl [0, 1, 4] rfl)
      · replace hf := ifn k37 hf
        refine lv_iconst (v := 0) hx hb dX9_byRule_53 (by decide) ?_
        refine lv_istore (lv' := [(6, .int 0), (0, .ref (ad 0)), (1, .int x1), (2, .int x2), (3, .int x3), (4, .int x4), (5, .int x5)]) hx hb dX9_byRule_54 hl (by decide) rfl (fun ls hl => ?_)
        obtain ⟨c_worth_38, c_acts_39, v40, hf⟩ := bd2_some hf
        refine LP56 FU _ _ _ _ _ _ _ _ _ _ _ _ _ _ _ _ _ _ _ _ _ _ _ _ _ _ _ _ _ _ _ _ _ _ _ _ _ _ _ _ _ _ _ _ _ _ _ _ _ _ _ _ _ _ _ _ hP hD hS v40 (lv_sub hl [1, 2, 3, 4, 5, 6, 0] rfl) (fun H locs ls hP hD hS hl => ?_)
        obtain ⟨w41, ew41⟩ : ∃ y : Int32, y = x5 + (-1) := ⟨_, rfl⟩
        replace hf := nm_at hf ew41
        refine lv_iinc (v := w41) (lv' := [(5, .int w41), (0, .ref (ad 0)), (1, .int x1), (2, .int x2), (3, .int x3), (4, .int x4)]) hx hb dX9_byRule_138 hl (k := 5) rfl (by rw [ew41]; rfl) (by decide) rfl (fun ls hl => ?_)
        refine lv_goto (tgt := 48) hx hb dX9_byRule_141 (by decide) ?_
        exact ih48 _ _ _ _ _ _ _ _ _ _ _ _ _ _ _ _ _ _ _ _ _ _ _ _ _ _ _ _ _ _ _ _ _ _ _ _ _ _ _ _ _ _ _ _ _ _ _ _ _ _ _ _ _ _ _ hP hD hS hf (lv_sub hl [1, 2, 3, 4, 5, 0] rfl) hk
  subst hQ
  unfold fX9_byRule at hf
  refine lv_iload_n hx hb dX9_byRule_0 rfl (lv_at hl 1 rfl) ?_
  obtain ⟨r1, v2, hf⟩ := bd1_some hf
  refine gci0 (va_runS (As := [.int p1]) (rest := []) ⟨hx, hb, hml, hown, hts⟩ (tX9_isBond l dC dI dA s.heap.size v2) (ccX9_X9_isBond hts ⟨Nat.le_of_ble_eq_true rfl, Nat.le_of_ble_eq_true rfl⟩) (gPreS0 hK) rfl rfl hl.1 rfl (lv_room (Nat.le_of_ble_eq_true rfl)) dX9_byRule_1 ⟨Nat.le_of_ble_eq_true rfl, Nat.le_of_ble_eq_true rfl⟩) hP hS hA (fun H locs hP hS => ?_)
  refine lv_if_eq (tgt := 31) hx hb dX9_byRule_4 (by decide) (fun k3 => ?_) (fun k3 => ?_)
  · replace hf := ifp k3 hf
    refine lv_ldc2 (v := (-1)) hx hb hown (hts _ (gw_mem wkX9_116)) dX9_byRule_31 ?_
    cases hf
    exact W.lret hx hb hr (fun t ht _ => gql hP hD hS ht) hS.2.2 dX9_byRule_34
  · replace hf := ifn k3 hf
    refine lv_iload_n hx hb dX9_byRule_7 rfl (lv_at hl 2 rfl) ?_
    refine lv_i2l hx hb dX9_byRule_8 rfl ?_
    refine lv_lconst (v := 0) hx hb dX9_byRule_9 rfl ?_
    refine lv_ldc2 (v := 1000000) hx hb hown (hts _ (gw_mem wkX9_130)) dX9_byRule_10 ?_
    obtain ⟨r4, v5, hf⟩ := bd1_some hf
    refine gci0 (va_runS (As := [.long (Int32.toInt64 p2), .long 0, .long 1000000]) (rest := []) ⟨hx, hb, hml, hown, hts⟩ (tX9_in l dC dI dA H.size v5) (ccX9_X9_in hts ⟨Nat.le_of_ble_eq_true rfl, Nat.le_of_ble_eq_true rfl⟩) (gPreS0 hK) rfl rfl hl.1 rfl (lv_room (Nat.le_of_ble_eq_true rfl)) dX9_byRule_13 ⟨Nat.le_of_ble_eq_true rfl, Nat.le_of_ble_eq_true rfl⟩) hP hS hA (fun H locs hP hS => ?_)
    refine lv_if_eq (tgt := 31) hx hb dX9_byRule_16 (by decide) (fun k6 => ?_) (fun k6 => ?_)
    · replace hf := ifp k6 hf
      refine lv_ldc2 (v := (-1)) hx hb hown (hts _ (gw_mem wkX9_116)) dX9_byRule_31 ?_
      cases hf
      exact W.lret hx hb hr (fun t ht _ => gql hP hD hS ht) hS.2.2 dX9_byRule_34
    · replace hf := ifn k6 hf
      refine lv_iload_n hx hb dX9_byRule_19 rfl (lv_at hl 3 rfl) ?_
      refine lv_i2l hx hb dX9_byRule_20 rfl ?_
      refine lv_lconst (v := 0) hx hb dX9_byRule_21 rfl ?_
      refine lv_ldc2 (v := 1000000) hx hb hown (hts _ (gw_mem wkX9_130)) dX9_byRule_22 ?_
      obtain ⟨r7, v8, hf⟩ := bd1_some hf
      refine gci0 (va_runS (As := [.long (Int32.toInt64 p3), .long 0, .long 1000000]) (rest := []) ⟨hx, hb, hml, hown, hts⟩ (tX9_in l dC dI dA H.size v8) (ccX9_X9_in hts ⟨Nat.le_of_ble_eq_true rfl, Nat.le_of_ble_eq_true rfl⟩) (gPreS0 hK) rfl rfl hl.1 rfl (lv_room (Nat.le_of_ble_eq_true rfl)) dX9_byRule_25 ⟨Nat.le_of_ble_eq_true rfl, Nat.le_of_ble_eq_true rfl⟩) hP hS hA (fun H locs hP hS => ?_)
      refine lv_if_ne (tgt := 35) hx hb dX9_byRule_28 (by decide) (fun k9 => ?_) (fun k9 => ?_)
      · replace hf := ifn k9 hf
        refine lv_aload_n hx hb dX9_byRule_35 rfl (lv_at hl 0 rfl) ?_
        refine lv_iload_n hx hb dX9_byRule_36 rfl (lv_at hl 1 rfl) ?_
        obtain ⟨c_days_10, c_likely_11, c_outOf_12, c_rateNow_13, c_pence_14, c_top_15, c_bottom_16, c_worth_17, c_hold_18, c_acts_19, v20, hf⟩ := bd10_some hf
        refine gcv (va_runV (As := [.int p1]) (rest := []) ⟨hx, hb, hml, hown, hts⟩ (tX9_playsNow l dC dI dA ad H.size v20) (ccX9_X9_playsNow hts ⟨Nat.le_of_ble_eq_true rfl, Nat.le_of_ble_eq_true rfl⟩) (gPreV (ci := 9) (q0 := 0) hP hK hD rfl rfl) rfl rfl hl.1 rfl (lv_room (Nat.le_of_ble_eq_true rfl)) dX9_byRule_37 ⟨Nat.le_of_ble_eq_true rfl, Nat.le_of_ble_eq_true rfl⟩) hD hS hA (fun H locs hP hD hS => ?_)
        refine lv_aload_n hx hb dX9_byRule_40 rfl (lv_at hl 0 rfl) ?_
        refine va_get (D := (dC, dI)) (ci := 9) (v := .int c_days_10) (C := RX9) (T := TX9) (N := 45) hx hb hts (fun w h => gw_mem (inX9 w h)) hown hK.1 hP 0 rfl rfl 7 (by decide) (hts _ (gw_mem wfX9_94)) (fun _ h9 => h9) rfl dX9_byRule_41 ?_
        refine lv_iconst (v := 1) hx hb dX9_byRule_44 (by decide) ?_
        refine lv_isub hx hb dX9_byRule_45 ?_
        refine lv_topi (fun w21 ew21 => ?_)
        replace hf := nm_at hf ew21
        refine lv_istore (lv' := [(5, .int w21), (0, .ref (ad 0)), (1, .int p1), (2, .int p2), (3, .int p3), (4, .int p4)]) hx hb dX9_byRule_46 hl (by decide) rfl (fun ls hl => ?_)
        obtain ⟨c_worth_22, c_acts_23, v24, hf⟩ := bd2_some hf
        refine LP48 FU _ _ _ _ _ _ _ _ _ _ _ _ _ _ _ _ _ _ _ _ _ _ _ _ _ _ _ _ _ _ _ _ _ _ _ _ _ _ _ _ _ _ _ _ _ _ _ _ _ _ _ _ _ _ _ hP hD hS v24 (lv_sub hl [1, 2, 3, 4, 5, 0] rfl) (fun H locs ls hP hD hS hl => ?_)
        refine lv_iload hx hb dX9_byRule_144 (lv_at hl 2 rfl) ?_
        refine lv_if_ne (tgt := 160) hx hb dX9_byRule_146 (by decide) (fun k25 => ?_) (fun k25 => ?_)
        · replace hf := ifn k25 hf
          refine lv_aload_n hx hb dX9_byRule_160 rfl (lv_at hl 0 rfl) ?_
          refine lv_iload_n hx hb dX9_byRule_161 rfl (lv_at hl 1 rfl) ?_
          refine lv_aload_n hx hb dX9_byRule_162 rfl (lv_at hl 0 rfl) ?_
          refine va_get (D := (dC, dI)) (ci := 9) (v := .int c_moved) (C := RX9) (T := TX9) (N := 45) hx hb hts (fun w h => gw_mem (inX9 w h)) hown hK.1 hP 0 rfl rfl 6 (by decide) (hts _ (gw_mem wfX9_76)) (fun _ h9 => h9) rfl dX9_byRule_163 ?_
          obtain ⟨c_sDay_26, c_sUps_27, c_sUp_28, c_sMarks_29, v30, hf⟩ := bd4_some hf
          refine gcv (va_runV (As := [.int p1, .int c_moved]) (rest := []) ⟨hx, hb, hml, hown, hts⟩ (tX9_follows l dC dI dA ad H.size v30) (ccX9_X9_follows hts ⟨Nat.le_of_ble_eq_true rfl, Nat.le_of_ble_eq_true rfl⟩) (gPreV (ci := 9) (q0 := 0) hP hK hD rfl rfl) rfl rfl hl.1 rfl (lv_room (Nat.le_of_ble_eq_true rfl)) dX9_byRule_166 ⟨Nat.le_of_ble_eq_true rfl, Nat.le_of_ble_eq_true rfl⟩) hD hS hA (fun H locs hP hD hS => ?_)
          refine lv_aload_n hx hb dX9_byRule_169 rfl (lv_at hl 0 rfl) ?_
          refine va_get (D := (dC, dI)) (ci := 9) (v := .ref (ad 10)) (C := RX9) (T := TX9) (N := 45) hx hb hts (fun w h => gw_mem (inX9 w h)) hown hK.1 hP 0 rfl rfl 27 (by decide) (hts _ (gw_mem wfX9_39)) (fun _ h9 => h9) rfl dX9_byRule_170 ?_
          refine lv_aload_n hx hb dX9_byRule_173 rfl (lv_at hl 0 rfl) ?_
          obtain ⟨r31, v32, hf⟩ := bd1_some hf
          refine gci (va_runV (As := []) (rest := [.ref (ad 10)]) ⟨hx, hb, hml, hown, hts⟩ (tX9_hereNow l dC dI dA ad H.size v32) (ccX9_X9_hereNow hts ⟨Nat.le_of_ble_eq_true rfl, Nat.le_of_ble_eq_true rfl⟩) (gPreV (ci := 9) (q0 := 0) hP hK hD rfl rfl) rfl rfl hl.1 rfl (lv_room (Nat.le_of_ble_eq_true rfl)) dX9_byRule_174 ⟨Nat.le_of_ble_eq_true rfl, Nat.le_of_ble_eq_true rfl⟩) hD hS hA (fun H locs hP hD hS => ?_)
          obtain ⟨h33, hf⟩ := og_some hf
          refine va_iald hx hb hK.1 hP 10 0 rfl rfl (okI_in h33) dX9_byRule_177 ?_
          refine lv_i2l hx hb dX9_byRule_178 rfl ?_
          cases hf
          exact W.lret hx hb hr (fun t ht _ => gql hP hD hS ht) hS.2.2 dX9_byRule_179
        · replace hf := ifp k25 hf
          refine lv_aload_n hx hb dX9_byRule_149 rfl (lv_at hl 0 rfl) ?_
          refine va_get (D := (dC, dI)) (ci := 9) (v := .ref (ad 7)) (C := RX9) (T := TX9) (N := 45) hx hb hts (fun w h => gw_mem (inX9 w h)) hown hK.1 hP 0 rfl rfl 24 (by decide) (hts _ (gw_mem wfX9_30)) (fun _ h9 => h9) rfl dX9_byRule_150 ?_
          refine lv_aload_n hx hb dX9_byRule_153 rfl (lv_at hl 0 rfl) ?_
          refine lv_iload_n hx hb dX9_byRule_154 rfl (lv_at hl 1 rfl) ?_
          obtain ⟨r34, v35, hf⟩ := bd1_some hf
          refine gci (va_runV (As := [.int p1]) (rest := [.ref (ad 7)]) ⟨hx, hb, hml, hown, hts⟩ (tX9_begin l dC dI dA ad H.size v35) (ccX9_X9_begin hts ⟨Nat.le_of_ble_eq_true rfl, Nat.le_of_ble_eq_true rfl⟩) (gPreV (ci := 9) (q0 := 0) hP hK hD rfl rfl) rfl rfl hl.1 rfl (lv_room (Nat.le_of_ble_eq_true rfl)) dX9_byRule_155 ⟨Nat.le_of_ble_eq_true rfl, Nat.le_of_ble_eq_true rfl⟩) hD hS hA (fun H locs hP hD hS => ?_)
          obtain ⟨h36, hf⟩ := og_some hf
          refine va_lald hx hb hK.1 hP 7 1 rfl rfl (okI_in h36) dX9_byRule_158 ?_
          cases hf
          exact W.lret hx hb hr (fun t ht _ => gql hP hD hS ht) hS.2.2 dX9_byRule_159
      · replace hf := ifp k9 hf
        refine lv_ldc2 (v := (-1)) hx hb hown (hts _ (gw_mem wkX9_116)) dX9_byRule_31 ?_
        cases hf
        exact W.lret hx hb hr (fun t ht _ => gql hP hD hS ht) hS.2.2 dX9_byRule_34
abbrev rmX9_swaps : Room := { frames := 0, cells := 0, slots := 0, locals := 0 }
set_option maxHeartbeats 4000000 in
set_option maxRecDepth 100000 in
theorem tX9_swaps (l : Launch) (dC : Nat → ClassId) (dI : Nat → Nat → Nat) (dA : Nat → ClassId) (ad : Nat → Nat) (sz : Nat) {c_tape : Nat → Int32} {c_taped : Int32} {c_tree : Nat → Int32} {c_bonds : Nat → Int32} {c_moves : Nat → Int32} {c_handMoves : Nat → Int32} {c_moved : Int32} {c_days : Int32} {c_likely : Int32} {c_outOf : Int32} {c_rateNow : Int32} {c_pence : Nat → Int64} {c_top : Int64} {c_bottom : Int64} {c_spot : Int32} {c_textLong : Int32} {c_fault : Int32} {c_number : Int32} {c_numberAt : Int32} {c_figures : Int32} {c_written : Int32} {c_wanted : Int32} {c_found : Int32} {c_drawnNow : Int32} {c_worth : Nat → Int64} {c_hold : Nat → Int64} {c_way : Nat → Int64} {c_acts : Nat → Int32} {c_sDay : Int32} {c_sUps : Int32} {c_sUp : Int32} {c_sMarks : Int32} {c_paidAll : Int64} {c_isPlayed : Int32} {c_isOn : Int32} {c_handMoved : Int32} {c_handPaid : Int64} {c_regret : Int64} {c_aside : Nat → Int32} {c_other : Nat → Int64} {c_states : Int32} {c_kept : Nat → Int32} {c_keptLong : Nat → Int64} {c_keptAt : Int32} {c_isTaking : Int32} {o_c_moves : Nat → Int32} {o_c_aside : Nat → Int32} (hf : fX9_swaps c_moves c_aside = some (o_c_moves, o_c_aside)) : Met l yX9_swaps (wq (Cond.code yX9_swaps cX9_swaps 3 none)) rmX9_swaps (gP [.ref (ad 0)] (dC, dI) dA (mW dA ad c_tape c_taped c_tree c_bonds c_moves c_handMoves c_moved c_days c_likely c_outOf c_rateNow c_pence c_top c_bottom c_spot c_textLong c_fault c_number c_numberAt c_figures c_written c_wanted c_found c_drawnNow c_worth c_hold c_way c_acts c_sDay c_sUps c_sUp c_sMarks c_paidAll c_isPlayed c_isOn c_handMoved c_handPaid c_regret c_aside c_other c_states c_kept c_keptLong c_keptAt c_isTaking) sz) (gQv (dC, dI) (mW dA ad c_tape c_taped c_tree c_bonds o_c_moves c_handMoves c_moved c_days c_likely c_outOf c_rateNow c_pence c_top c_bottom c_spot c_textLong c_fault c_number c_numberAt c_figures c_written c_wanted c_found c_drawnNow c_worth c_hold c_way c_acts c_sDay c_sUps c_sUp c_sMarks c_paidAll c_isPlayed c_isOn c_handMoved c_handPaid c_regret o_c_aside c_other c_states c_kept c_keptLong c_keptAt c_isTaking) (va_A (mW dA ad c_tape c_taped c_tree c_bonds c_moves c_handMoves c_moved c_days c_likely c_outOf c_rateNow c_pence c_top c_bottom c_spot c_textLong c_fault c_number c_numberAt c_figures c_written c_wanted c_found c_drawnNow c_worth c_hold c_way c_acts c_sDay c_sUps c_sUp c_sMarks c_paidAll c_isPlayed c_isOn c_handMoved c_handPaid c_regret c_aside c_other c_states c_kept c_keptLong c_keptAt c_isTaking) sz)) 0 0 (va_A (mW dA ad c_tape c_taped c_tree c_bonds c_moves c_handMoves c_moved c_days c_likely c_outOf c_rateNow c_pence c_top c_bottom c_spot c_textLong c_fault c_number c_numberAt c_figures c_written c_wanted c_found c_drawnNow c_worth c_hold c_way c_acts c_sDay c_sUps c_sUp c_sMarks c_paidAll c_isPlayed c_isOn c_handMoved c_handPaid c_regret c_aside c_other c_states c_kept c_keptLong c_keptAt c_isTaking) sz) := by
  refine Met.ofW (cc := cX9_swaps) (maxL := 3) (ret := none) (by decide) rfl ?_
  intro p e s m args below meth c s₁ B hml hv
  obtain ⟨rfl, hsz, hP, hK, hD0⟩ := hv
  have hx := B.exec
  have hb := B.bytes
  have hr := B.returns
  have hts := atoms_spec (ws := wq (Cond.code yX9_swaps cX9_swaps 3 none)) B.pre
  have hown : s.vm.findClass RX9 = some m.cls := findClass_of_methodNamed B.named
  have hlocks := B.notSynchronized
  clear B
  subst hsz
  have hD := hD0.self (sz := s.heap.size)
  generalize hAe : va_A (mW dA ad c_tape c_taped c_tree c_bonds c_moves c_handMoves c_moved c_days c_likely c_outOf c_rateNow c_pence c_top c_bottom c_spot c_textLong c_fault c_number c_numberAt c_figures c_written c_wanted c_found c_drawnNow c_worth c_hold c_way c_acts c_sDay c_sUps c_sUp c_sMarks c_paidAll c_isPlayed c_isOn c_handMoved c_handPaid c_regret c_aside c_other c_states c_kept c_keptLong c_keptAt c_isTaking) s.heap.size = A at hD ⊢
  have hA : ∀ q : Nat, s.heap.size ≤ q → A q := fun q h => by rw [← hAe]; exact Or.inr h
  clear hAe hD0
  have hS : va_S A s.heap s.heap [] := va_S.rf
  have hl := lv_entry ([.ref (ad 0)]) (n := 3) (Nat.le_of_ble_eq_true rfl)
  rw [lg_entry_eq]
  generalize (lg_sl ([.ref (ad 0)]) ++ List.replicate (3 - (lg_sl ([.ref (ad 0)])).length) Slot.unset).toArray = ls at hl ⊢
  have hl : lv_has ls 3 [(0, .ref (ad 0))] := hl
  change W p l e rmX9_swaps s m ([.ref (ad 0)] : List Value).toArray below meth c s.heap [] 0 0 _ _
  generalize hQ : MQ below (gQv (dC, dI) (mW dA ad c_tape c_taped c_tree c_bonds o_c_moves c_handMoves c_moved c_days c_likely c_outOf c_rateNow c_pence c_top c_bottom c_spot c_textLong c_fault c_number c_numberAt c_figures c_written c_wanted c_found c_drawnNow c_worth c_hold c_way c_acts c_sDay c_sUps c_sUp c_sMarks c_paidAll c_isPlayed c_isOn c_handMoved c_handPaid c_regret o_c_aside c_other c_states c_kept c_keptLong c_keptAt c_isTaking) A) ([.ref (ad 0)] : List Value).toArray s 0 0 A = Q
  have LP2 : ∀ (n : Nat) (c_tape : Nat → Int32) (c_taped : Int32) (c_tree : Nat → Int32) (c_bonds : Nat → Int32) (c_handMoves : Nat → Int32) (c_moved : Int32) (c_days : Int32) (c_likely : Int32) (c_outOf : Int32) (c_rateNow : Int32) (c_pence : Nat → Int64) (c_top : Int64) (c_bottom : Int64) (c_spot : Int32) (c_textLong : Int32) (c_fault : Int32) (c_number : Int32) (c_numberAt : Int32) (c_figures : Int32) (c_written : Int32) (c_wanted : Int32) (c_found : Int32) (c_drawnNow : Int32) (c_worth : Nat → Int64) (c_hold : Nat → Int64) (c_way : Nat → Int64) (c_acts : Nat → Int32) (c_sDay : Int32) (c_sUps : Int32) (c_sUp : Int32) (c_sMarks : Int32) (c_paidAll : Int64) (c_isPlayed : Int32) (c_isOn : Int32) (c_handMoved : Int32) (c_handPaid : Int64) (c_regret : Int64) (c_other : Nat → Int64) (c_states : Int32) (c_kept : Nat → Int32) (c_keptLong : Nat → Int64) (c_keptAt : Int32) (c_isTaking : Int32) (x1 : Int32) (c_moves : Nat → Int32) (c_aside : Nat → Int32) (o_c_moves : Nat → Int32) (o_c_aside : Nat → Int32) (H : Heap) (locs : List Loc) (ls : Array Slot), va_P (dC, dI) vwCl (mW dA ad c_tape c_taped c_tree c_bonds c_moves c_handMoves c_moved c_days c_likely c_outOf c_rateNow c_pence c_top c_bottom c_spot c_textLong c_fault c_number c_numberAt c_figures c_written c_wanted c_found c_drawnNow c_worth c_hold c_way c_acts c_sDay c_sUps c_sUp c_sMarks c_paidAll c_isPlayed c_isOn c_handMoved c_handPaid c_regret c_aside c_other c_states c_kept c_keptLong c_keptAt c_isTaking) H → va_D A (mW dA ad c_tape c_taped c_tree c_bonds c_moves c_handMoves c_moved c_days c_likely c_outOf c_rateNow c_pence c_top c_bottom c_spot c_textLong c_fault c_number c_numberAt c_figures c_written c_wanted c_found c_drawnNow c_worth c_hold c_way c_acts c_sDay c_sUps c_sUp c_sMarks c_paidAll c_isPlayed c_isOn c_handMoved c_handPaid c_regret c_aside c_other c_states c_kept c_keptLong c_keptAt c_isTaking) → va_S A s.heap H locs → lpX9_swaps_2  n x1 c_moves c_aside = some (o_c_moves, o_c_aside) → lv_has ls 3 [(0, .ref (ad 0)), (1, .int x1)] → (∀ (H : Heap) (locs : List Loc) (ls : Array Slot), va_P (dC, dI) vwCl (mW dA ad c_tape c_taped c_tree c_bonds o_c_moves c_handMoves c_moved c_days c_likely c_outOf c_rateNow c_pence c_top c_bottom c_spot c_textLong c_fault c_number c_numberAt c_figures c_written c_wanted c_found c_drawnNow c_worth c_hold c_way c_acts c_sDay c_sUps c_sUp c_sMarks c_paidAll c_isPlayed c_isOn c_handMoved c_handPaid c_regret o_c_aside c_other c_states c_kept c_keptLong c_keptAt c_isTaking) H → va_D A (mW dA ad c_tape c_taped c_tree c_bonds o_c_moves c_handMoves c_moved c_days c_likely c_outOf c_rateNow c_pence c_top c_bottom c_spot c_textLong c_fault c_number c_numberAt c_figures c_written c_wanted c_found c_drawnNow c_worth c_hold c_way c_acts c_sDay c_sUps c_sUp c_sMarks c_paidAll c_isPlayed c_isOn c_handMoved c_handPaid c_regret o_c_aside c_other c_states c_kept c_keptLong c_keptAt c_isTaking) → va_S A s.heap H locs → lv_has ls 3 [] → W p l e rmX9_swaps s m ([.ref (ad 0)] : List Value).toArray below meth c H locs 0 0 Q (F0 m 40 ls [])) → W p l e rmX9_swaps s m ([.ref (ad 0)] : List Value).toArray below meth c H locs 0 0 Q (F0 m 2 ls []) := by
    intro n
    induction n with
    | zero =>
      intro c_tape c_taped c_tree c_bonds c_handMoves c_moved c_days c_likely c_outOf c_rateNow c_pence c_top c_bottom c_spot c_textLong c_fault c_number c_numberAt c_figures c_written c_wanted c_found c_drawnNow c_worth c_hold c_way c_acts c_sDay c_sUps c_sUp c_sMarks c_paidAll c_isPlayed c_isOn c_handMoved c_handPaid c_regret c_other c_states c_kept c_keptLong c_keptAt c_isTaking x1 c_moves c_aside o_c_moves o_c_aside H locs ls hP hD hS hf hl hk
      cases hf
    | succ n ih2 =>
      intro c_tape c_taped c_tree c_bonds c_handMoves c_moved c_days c_likely c_outOf c_rateNow c_pence c_top c_bottom c_spot c_textLong c_fault c_number c_numberAt c_figures c_written c_wanted c_found c_drawnNow c_worth c_hold c_way c_acts c_sDay c_sUps c_sUp c_sMarks c_paidAll c_isPlayed c_isOn c_handMoved c_handPaid c_regret c_other c_states c_kept c_keptLong c_keptAt c_isTaking x1 c_moves c_aside o_c_moves o_c_aside H locs ls hP hD hS hf hl hk
      rw [lpX9_swaps_2.eq_2] at hf
      refine lv_iload_n hx hb dX9_swaps_2 rfl (lv_at hl 1 rfl) ?_
      refine lv_bipush (v := 6) hx hb dX9_swaps_3 (by decide) ?_
      refine lv_icmp_ge (tgt := 40) hx hb dX9_swaps_5 (by decide) (fun k4 => ?_) (fun k4 => ?_)
      · replace hf := ifp k4 hf
        cases hf
        exact hk _ _ _ hP hD hS (lv_sub hl [] rfl)
      · replace hf := ifn k4 hf
        refine lv_aload_n hx hb dX9_swaps_8 rfl (lv_at hl 0 rfl) ?_
        refine va_get (D := (dC, dI)) (ci := 9) (v := .ref (ad 11)) (C := RX9) (T := TX9) (N := 45) hx hb hts (fun w h => gw_mem (inX9 w h)) hown hK.1 hP 0 rfl rfl 38 (by decide) (hts _ (gw_mem wfX9_42)) (fun _ h9 => h9) rfl dX9_swaps_9 ?_
        refine lv_iload_n hx hb dX9_swaps_12 rfl (lv_at hl 1 rfl) ?_
        obtain ⟨h5, hf⟩ := og_some hf
        refine va_iald hx hb hK.1 hP 11 0 rfl rfl (okI_in h5) dX9_swaps_13 ?_
        refine lv_topi (fun w6 ew6 => ?_)
        replace hf := nm_at hf ew6
        refine lv_istore_n (lv' := [(2, .int w6), (0, .ref (ad 0)), (1, .int x1)]) hx hb dX9_swaps_14 rfl hl (by decide) rfl (fun ls hl => ?_)
        refine lv_aload_n hx hb dX9_swaps_15 rfl (lv_at hl 1 rfl) ?_
        refine va_get (D := (dC, dI)) (ci := 9) (v := .ref (ad 11)) (C := RX9) (T := TX9) (N := 45) hx hb hts (fun w h => gw_mem (inX9 w h)) hown hK.1 hP 0 rfl rfl 38 (by decide) (hts _ (gw_mem wfX9_42)) (fun _ h9 => h9) rfl dX9_swaps_16 ?_
        refine lv_iload_n hx hb dX9_swaps_19 rfl (lv_at hl 2 rfl) ?_
        refine lv_aload_n hx hb dX9_swaps_20 rfl (lv_at hl 1 rfl) ?_
        refine va_get (D := (dC, dI)) (ci := 9) (v := .ref (ad 4)) (C := RX9) (T := TX9) (N := 45) hx hb hts (fun w h => gw_mem (inX9 w h)) hown hK.1 hP 0 rfl rfl 4 (by decide) (hts _ (gw_mem wfX9_20)) (fun _ h9 => h9) rfl dX9_swaps_21 ?_
        refine lv_iload_n hx hb dX9_swaps_24 rfl (lv_at hl 2 rfl) ?_
        obtain ⟨h7, hf⟩ := og_some hf
        refine va_iald hx hb hK.1 hP 4 0 rfl rfl (okI_in h7) dX9_swaps_25 ?_
        obtain ⟨h8, hf⟩ := og_some hf
        obtain ⟨w9, ew9⟩ : ∃ y : Nat → Int32, y = upd c_aside (Int32.toNatClampNeg x1) (c_moves (Int32.toNatClampNeg x1)) := ⟨_, rfl⟩
        replace hf := nm_at hf ew9
        refine va_iast hx hb hK.1 hP hD hS 11 0 rfl rfl (okI_in h8) dX9_swaps_26 (fun H locs hP hD hS => ?_)
        have hP : va_P (dC, dI) vwCl (mW dA ad c_tape c_taped c_tree c_bonds c_moves c_handMoves c_moved c_days c_likely c_outOf c_rateNow c_pence c_top c_bottom c_spot c_textLong c_fault c_number c_numberAt c_figures c_written c_wanted c_found c_drawnNow c_worth c_hold c_way c_acts c_sDay c_sUps c_sUp c_sMarks c_paidAll c_isPlayed c_isOn c_handMoved c_handPaid c_regret w9 c_other c_states c_kept c_keptLong c_keptAt c_isTaking) H := by rw [ew9]; exact hP
        have hD : va_D A (mW dA ad c_tape c_taped c_tree c_bonds c_moves c_handMoves c_moved c_days c_likely c_outOf c_rateNow c_pence c_top c_bottom c_spot c_textLong c_fault c_number c_numberAt c_figures c_written c_wanted c_found c_drawnNow c_worth c_hold c_way c_acts c_sDay c_sUps c_sUp c_sMarks c_paidAll c_isPlayed c_isOn c_handMoved c_handPaid c_regret w9 c_other c_states c_kept c_keptLong c_keptAt c_isTaking) := by rw [ew9]; exact hD
        refine lv_aload_n hx hb dX9_swaps_27 rfl (lv_at hl 1 rfl) ?_
        refine va_get (D := (dC, dI)) (ci := 9) (v := .ref (ad 4)) (C := RX9) (T := TX9) (N := 45) hx hb hts (fun w h => gw_mem (inX9 w h)) hown hK.1 hP 0 rfl rfl 4 (by decide) (hts _ (gw_mem wfX9_20)) (fun _ h9 => h9) rfl dX9_swaps_28 ?_
        refine lv_iload_n hx hb dX9_swaps_31 rfl (lv_at hl 2 rfl) ?_
        refine lv_iload_n hx hb dX9_swaps_32 rfl (lv_at hl 0 rfl) ?_
        obtain ⟨h10, hf⟩ := og_some hf
        obtain ⟨w11, ew11⟩ : ∃ y : Nat → Int32, y = upd c_moves (Int32.toNatClampNeg x1) w6 := ⟨_, rfl⟩
        replace hf := nm_at hf ew11
        refine va_iast hx hb hK.1 hP hD hS 4 0 rfl rfl (okI_in h10) dX9_swaps_33 (fun H locs hP hD hS => ?_)
        have hP : va_P (dC, dI) vwCl (mW dA ad c_tape c_taped c_tree c_bonds w11 c_handMoves c_moved c_days c_likely c_outOf c_rateNow c_pence c_top c_bottom c_spot c_textLong c_fault c_number c_numberAt c_figures c_written c_wanted c_found c_drawnNow c_worth c_hold c_way c_acts c_sDay c_sUps c_sUp c_sMarks c_paidAll c_isPlayed c_isOn c_handMoved c_handPaid c_regret w9 c_other c_states c_kept c_keptLong c_keptAt c_isTaking) H := by rw [ew11]; exact hP
        have hD : va_D A (mW dA ad c_tape c_taped c_tree c_bonds w11 c_handMoves c_moved c_days c_likely c_outOf c_rateNow c_pence c_top c_bottom c_spot c_textLong c_fault c_number c_numberAt c_figures c_written c_wanted c_found c_drawnNow c_worth c_hold c_way c_acts c_sDay c_sUps c_sUp c_sMarks c_paidAll c_isPlayed c_isOn c_handMoved c_handPaid c_regret w9 c_other c_states c_kept c_keptLong c_keptAt c_isTaking) := by rw [ew11]; exact hD
        obtain ⟨w12, ew12⟩ : ∃ y : Int32, y = x1 + 1 := ⟨_, rfl⟩
        replace hf := nm_at hf ew12
        refine lv_iinc (v := w12) (lv' := [(1, .int w12), (2, .int w6), (0, .ref (ad 0))]) hx hb dX9_swaps_34 hl (k := 2) rfl (by rw [ew12]; rfl) (by decide) rfl (fun ls hl => ?_)
        refine lv_goto (tgt := 2) hx hb dX9_swaps_37 (by decide) ?_
        exact ih2 _ _ _ _ _ _ _ _ _ _ _ _ _ _ _ _ _ _ _ _ _ _ _ _ _ _ _ _ _ _ _ _ _ _ _ _ _ _ _ _ _ _ _ _ _ _ _ _ _ _ _ hP hD hS hf (lv_sub hl [2, 0] rfl) hk
  subst hQ
  unfold fX9_swaps at hf
  refine lv_iconst (v := 0) hx hb dX9_swaps_0 (by decide) ?_
  refine lv_istore_n (lv' := [(1, .int 0), (0, .ref (ad 0))]) hx hb dX9_swaps_1 rfl hl (by decide) rfl (fun ls hl => ?_)
  obtain ⟨c_moves_1, c_aside_2, v3, hf⟩ := bd2_some hf
  refine LP2 FU _ _ _ _ _ _ _ _ _ _ _ _ _ _ _ _ _ _ _ _ _ _ _ _ _ _ _ _ _ _ _ _ _ _ _ _ _ _ _ _ _ _ _ _ _ _ _ _ _ _ _ hP hD hS v3 (lv_sub hl [1, 0] rfl) (fun H locs ls hP hD hS hl => ?_)
  cases hf
  exact W.vret hx hb hr (fun t ht _ => gqv hP hD hS ht) hS.2.2 dX9_swaps_40
theorem ccX9_X9_swaps {R : Room} {s : State} {args : Array Value} {c0 : Cond} (ht : ∀ w ∈ wq c0, w.before args s = true) (hR : rmX9_swaps.frames + 1 ≤ R.frames ∧ 8 + (3 + 11) + rmX9_swaps.locals ≤ R.locals) : CallW R s args RX9 RX9 435 yX9_swaps cX9_swaps 3 none (wq (.code yX9_swaps cX9_swaps 3 none)) rmX9_swaps 0 0 0 := gCW 0 ht wcX9_swaps wmX9_435 wiX9_swaps weX9_swaps wnX9 (by decide +kernel) rfl rfl hR
abbrev rmX9_run : Room := { frames := 7, cells := 0, slots := 0, locals := 184 }
set_option maxHeartbeats 4000000 in
set_option maxRecDepth 100000 in
theorem tX9_run (l : Launch) (dC : Nat → ClassId) (dI : Nat → Nat → Nat) (dA : Nat → ClassId) (ad : Nat → Nat) (sz : Nat) {p1 : Int32} {p2 : Int32} {p3 : Int32} {c_tape : Nat → Int32} {c_taped : Int32} {c_tree : Nat → Int32} {c_bonds : Nat → Int32} {c_moves : Nat → Int32} {c_handMoves : Nat → Int32} {c_moved : Int32} {c_days : Int32} {c_likely : Int32} {c_outOf : Int32} {c_rateNow : Int32} {c_pence : Nat → Int64} {c_top : Int64} {c_bottom : Int64} {c_spot : Int32} {c_textLong : Int32} {c_fault : Int32} {c_number : Int32} {c_numberAt : Int32} {c_figures : Int32} {c_written : Int32} {c_wanted : Int32} {c_found : Int32} {c_drawnNow : Int32} {c_worth : Nat → Int64} {c_hold : Nat → Int64} {c_way : Nat → Int64} {c_acts : Nat → Int32} {c_sDay : Int32} {c_sUps : Int32} {c_sUp : Int32} {c_sMarks : Int32} {c_paidAll : Int64} {c_isPlayed : Int32} {c_isOn : Int32} {c_handMoved : Int32} {c_handPaid : Int64} {c_regret : Int64} {c_aside : Nat → Int32} {c_other : Nat → Int64} {c_states : Int32} {c_kept : Nat → Int32} {c_keptLong : Nat → Int64} {c_keptAt : Int32} {c_isTaking : Int32} {r : Int64} {o_c_moves : Nat → Int32} {o_c_days : Int32} {o_c_likely : Int32} {o_c_outOf : Int32} {o_c_rateNow : Int32} {o_c_pence : Nat → Int64} {o_c_top : Int64} {o_c_bottom : Int64} {o_c_drawnNow : Int32} {o_c_worth : Nat → Int64} {o_c_hold : Nat → Int64} {o_c_acts : Nat → Int32} {o_c_sDay : Int32} {o_c_sUps : Int32} {o_c_sUp : Int32} {o_c_sMarks : Int32} {o_c_paidAll : Int64} {o_c_aside : Nat → Int32} (hf : fX9_run p1 p2 p3 c_tree c_bonds c_moves c_days c_likely c_outOf c_rateNow c_pence c_top c_bottom c_drawnNow c_worth c_hold c_acts c_sDay c_sUps c_sUp c_sMarks c_paidAll c_aside = some (r, o_c_moves, o_c_days, o_c_likely, o_c_outOf, o_c_rateNow, o_c_pence, o_c_top, o_c_bottom, o_c_drawnNow, o_c_worth, o_c_hold, o_c_acts, o_c_sDay, o_c_sUps, o_c_sUp, o_c_sMarks, o_c_paidAll, o_c_aside)) : Met l yX9_run (wq (Cond.code yX9_run cX9_run 8 (some .long))) rmX9_run (gP [.ref (ad 0), .int p1, .int p2, .int p3] (dC, dI) dA (mW dA ad c_tape c_taped c_tree c_bonds c_moves c_handMoves c_moved c_days c_likely c_outOf c_rateNow c_pence c_top c_bottom c_spot c_textLong c_fault c_number c_numberAt c_figures c_written c_wanted c_found c_drawnNow c_worth c_hold c_way c_acts c_sDay c_sUps c_sUp c_sMarks c_paidAll c_isPlayed c_isOn c_handMoved c_handPaid c_regret c_aside c_other c_states c_kept c_keptLong c_keptAt c_isTaking) sz) (gQl (dC, dI) r (mW dA ad c_tape c_taped c_tree c_bonds o_c_moves c_handMoves c_moved o_c_days o_c_likely o_c_outOf o_c_rateNow o_c_pence o_c_top o_c_bottom c_spot c_textLong c_fault c_number c_numberAt c_figures c_written c_wanted c_found o_c_drawnNow o_c_worth o_c_hold c_way o_c_acts o_c_sDay o_c_sUps o_c_sUp o_c_sMarks o_c_paidAll c_isPlayed c_isOn c_handMoved c_handPaid c_regret o_c_aside c_other c_states c_kept c_keptLong c_keptAt c_isTaking) (va_A (mW dA ad c_tape c_taped c_tree c_bonds c_moves c_handMoves c_moved c_days c_likely c_outOf c_rateNow c_pence c_top c_bottom c_spot c_textLong c_fault c_number c_numberAt c_figures c_written c_wanted c_found c_drawnNow c_worth c_hold c_way c_acts c_sDay c_sUps c_sUp c_sMarks c_paidAll c_isPlayed c_isOn c_handMoved c_handPaid c_regret c_aside c_other c_states c_kept c_keptLong c_keptAt c_isTaking) sz)) 0 0 (va_A (mW dA ad c_tape c_taped c_tree c_bonds c_moves c_handMoves c_moved c_days c_likely c_outOf c_rateNow c_pence c_top c_bottom c_spot c_textLong c_fault c_number c_numberAt c_figures c_written c_wanted c_found c_drawnNow c_worth c_hold c_way c_acts c_sDay c_sUps c_sUp c_sMarks c_paidAll c_isPlayed c_isOn c_handMoved c_handPaid c_regret c_aside c_other c_states c_kept c_keptLong c_keptAt c_isTaking) sz) := by
  refine Met.ofW (cc := cX9_run) (maxL := 8) (ret := (some .long)) (by decide) rfl ?_
  intro p e s m args below meth c s₁ B hml hv
  obtain ⟨rfl, hsz, hP, hK, hD0⟩ := hv
  have hx := B.exec
  have hb := B.bytes
  have hr := B.returns
  have hts := atoms_spec (ws := wq (Cond.code yX9_run cX9_run 8 (some .long))) B.pre
  have hown : s.vm.findClass RX9 = some m.cls := findClass_of_methodNamed B.named
  have hlocks := B.notSynchronized
  clear B
  subst hsz
  have hD := hD0.self (sz := s.heap.size)
  generalize hAe : va_A (mW dA ad c_tape c_taped c_tree c_bonds c_moves c_handMoves c_moved c_days c_likely c_outOf c_rateNow c_pence c_top c_bottom c_spot c_textLong c_fault c_number c_numberAt c_figures c_written c_wanted c_found c_drawnNow c_worth c_hold c_way c_acts c_sDay c_sUps c_sUp c_sMarks c_paidAll c_isPlayed c_isOn c_handMoved c_handPaid c_regret c_aside c_other c_states c_kept c_keptLong c_keptAt c_isTaking) s.heap.size = A at hD ⊢
  have hA : ∀ q : Nat, s.heap.size ≤ q → A q := fun q h => by rw [← hAe]; exact Or.inr h
  clear hAe hD0
  have hS : va_S A s.heap s.heap [] := va_S.rf
  have hl := lv_entry ([.ref (ad 0), .int p1, .int p2, .int p3]) (n := 8) (Nat.le_of_ble_eq_true rfl)
  rw [lg_entry_eq]
  generalize (lg_sl ([.ref (ad 0), .int p1, .int p2, .int p3]) ++ List.replicate (8 - (lg_sl ([.ref (ad 0), .int p1, .int p2, .int p3])).length) Slot.unset).toArray = ls at hl ⊢
  have hl : lv_has ls 8 [(0, .ref (ad 0)), (1, .int p1), (2, .int p2), (3, .int p3)] := hl
  change W p l e rmX9_run s m ([.ref (ad 0), .int p1, .int p2, .int p3] : List Value).toArray below meth c s.heap [] 0 0 _ _
  generalize hQ : MQ below (gQl (dC, dI) r (mW dA ad c_tape c_taped c_tree c_bonds o_c_moves c_handMoves c_moved o_c_days o_c_likely o_c_outOf o_c_rateNow o_c_pence o_c_top o_c_bottom c_spot c_textLong c_fault c_number c_numberAt c_figures c_written c_wanted c_found o_c_drawnNow o_c_worth o_c_hold c_way o_c_acts o_c_sDay o_c_sUps o_c_sUp o_c_sMarks o_c_paidAll c_isPlayed c_isOn c_handMoved c_handPaid c_regret o_c_aside c_other c_states c_kept c_keptLong c_keptAt c_isTaking) A) ([.ref (ad 0), .int p1, .int p2, .int p3] : List Value).toArray s 0 0 A = Q
  have LP55 : ∀ (n : Nat) (x1 : Int32) (x3 : Int32) (x4 : Int64) (x6 : Int32) (c_days : Int32) (c_likely : Int32) (c_outOf : Int32) (c_tape : Nat → Int32) (c_taped : Int32) (c_tree : Nat → Int32) (c_bonds : Nat → Int32) (c_handMoves : Nat → Int32) (c_moved : Int32) (c_rateNow : Int32) (c_pence : Nat → Int64) (c_top : Int64) (c_bottom : Int64) (c_spot : Int32) (c_textLong : Int32) (c_fault : Int32) (c_number : Int32) (c_numberAt : Int32) (c_figures : Int32) (c_written : Int32) (c_wanted : Int32) (c_found : Int32) (c_worth : Nat → Int64) (c_hold : Nat → Int64) (c_way : Nat → Int64) (c_acts : Nat → Int32) (c_sDay : Int32) (c_sUps : Int32) (c_sUp : Int32) (c_sMarks : Int32) (c_paidAll : Int64) (c_isPlayed : Int32) (c_isOn : Int32) (c_handMoved : Int32) (c_handPaid : Int64) (c_regret : Int64) (c_aside : Nat → Int32) (c_other : Nat → Int64) (c_states : Int32) (c_kept : Nat → Int32) (c_keptLong : Nat → Int64) (c_keptAt : Int32) (c_isTaking : Int32) (x7 : Int32) (c_moves : Nat → Int32) (c_drawnNow : Int32) (o_c_moves : Nat → Int32) (o_c_drawnNow : Int32) (H : Heap) (locs : List Loc) (ls : Array Slot), va_P (dC, dI) vwCl (mW dA ad c_tape c_taped c_tree c_bonds c_moves c_handMoves c_moved c_days c_likely c_outOf c_rateNow c_pence c_top c_bottom c_spot c_textLong c_fault c_number c_numberAt c_figures c_written c_wanted c_found c_drawnNow c_worth c_hold c_way c_acts c_sDay c_sUps c_sUp c_sMarks c_paidAll c_isPlayed c_isOn c_handMoved c_handPaid c_regret c_aside c_other c_states c_kept c_keptLong c_keptAt c_isTaking) H → va_D A (mW dA ad c_tape c_taped c_tree c_bonds c_moves c_handMoves c_moved c_days c_likely c_outOf c_rateNow c_pence c_top c_bottom c_spot c_textLong c_fault c_number c_numberAt c_figures c_written c_wanted c_found c_drawnNow c_worth c_hold c_way c_acts c_sDay c_sUps c_sUp c_sMarks c_paidAll c_isPlayed c_isOn c_handMoved c_handPaid c_regret c_aside c_other c_states c_kept c_keptLong c_keptAt c_isTaking) → va_S A s.heap H locs → lpX9_run_55 x1 x3 x4 x6 c_days c_likely c_outOf n x7 c_moves c_drawnNow = some (o_c_moves, o_c_drawnNow) → lv_has ls 8 [(0, .ref (ad 0)), (1, .int x1), (3, .int x3), (4, .long x4), (6, .int x6), (7, .int x7)] → (∀ (H : Heap) (locs : List Loc) (ls : Array Slot), va_P (dC, dI) vwCl (mW dA ad c_tape c_taped c_tree c_bonds o_c_moves c_handMoves c_moved c_days c_likely c_outOf c_rateNow c_pence c_top c_bottom c_spot c_textLong c_fault c_number c_numberAt c_figures c_written c_wanted c_found o_c_drawnNow c_worth c_hold c_way c_acts c_sDay c_sUps c_sUp c_sMarks c_paidAll c_isPlayed c_isOn c_handMoved c_handPaid c_regret c_aside c_other c_states c_kept c_keptLong c_keptAt c_isTaking) H → va_D A (mW dA ad c_tape c_taped c_tree c_bonds o_c_moves c_handMoves c_moved c_days c_likely c_outOf c_rateNow c_pence c_top c_bottom c_spot c_textLong c_fault c_number c_numberAt c_figures c_written c_wanted c_found o_c_drawnNow c_worth c_hold c_way c_acts c_sDay c_sUps c_sUp c_sMarks c_paidAll c_isPlayed c_isOn c_handMoved c_handPaid c_regret c_aside c_other c_states c_kept c_keptLong c_keptAt c_isTaking) → va_S A s.heap H locs → lv_has ls 8 [(0, .ref (ad 0)), (1, .int x1), (3, .int x3), (4, .long x4), (6, .int x6)] → W p l e rmX9_run s m ([.ref (ad 0), .int p1, .int p2, .int p3] : List Value).toArray below meth c H locs 0 0 Q (F0 m 97 ls [])) → W p l e rmX9_run s m ([.ref (ad 0), .int p1, .int p2, .int p3] : List Value).toArray below meth c H locs 0 0 Q (F0 m 55 ls []) := by
    intro n
    induction n with
    | zero =>
      intro x1 x3 x4 x6 c_days c_likely c_outOf c_tape c_taped c_tree c_bonds c_handMoves c_moved c_rateNow c_pence c_top c_bottom c_spot c_textLong c_fault c_number c_numberAt c_figures c_written c_wanted c_found c_worth c_hold c_way c_acts c_sDay c_sUps c_sUp c_sMarks c_paidAll c_isPlayed c_isOn c_handMoved c_handPaid c_regret c_aside c_other c_states c_kept c_keptLong c_keptAt c_isTaking x7 c_moves c_drawnNow o_c_moves o_c_drawnNow H locs ls hP hD hS hf hl hk
      cases hf
    | succ n ih55 =>
      intro x1 x3 x4 x6 c_days c_likely c_outOf c_tape c_taped c_tree c_bonds c_handMoves c_moved c_rateNow c_pence c_top c_bottom c_spot c_textLong c_fault c_number c_numberAt c_figures c_written c_wanted c_found c_worth c_hold c_way c_acts c_sDay c_sUps c_sUp c_sMarks c_paidAll c_isPlayed c_isOn c_handMoved c_handPaid c_regret c_aside c_other c_states c_kept c_keptLong c_keptAt c_isTaking x7 c_moves c_drawnNow o_c_moves o_c_drawnNow H locs ls hP hD hS hf hl hk
      rw [lpX9_run_55.eq_2] at hf
      refine lv_iload hx hb dX9_run_55 (lv_at hl 5 rfl) ?_
      refine lv_aload_n hx hb dX9_run_57 rfl (lv_at hl 0 rfl) ?_
      refine va_get (D := (dC, dI)) (ci := 9) (v := .int c_days) (C := RX9) (T := TX9) (N := 45) hx hb hts (fun w h => gw_mem (inX9 w h)) hown hK.1 hP 0 rfl rfl 7 (by decide) (hts _ (gw_mem wfX9_94)) (fun _ h9 => h9) rfl dX9_run_58 ?_
      refine lv_icmp_ge (tgt := 97) hx hb dX9_run_61 (by decide) (fun k50 => ?_) (fun k50 => ?_)
      · replace hf := ifp k50 hf
        cases hf
        exact hk _ _ _ hP hD hS (lv_sub hl [0, 1, 2, 3, 4] rfl)
      · replace hf := ifn k50 hf
        refine lv_aload_n hx hb dX9_run_64 rfl (lv_at hl 0 rfl) ?_
        refine va_get (D := (dC, dI)) (ci := 9) (v := .ref (ad 4)) (C := RX9) (T := TX9) (N := 45) hx hb hts (fun w h => gw_mem (inX9 w h)) hown hK.1 hP 0 rfl rfl 4 (by decide) (hts _ (gw_mem wfX9_20)) (fun _ h9 => h9) rfl dX9_run_65 ?_
        refine lv_iload hx hb dX9_run_68 (lv_at hl 5 rfl) ?_
        refine lv_aload_n hx hb dX9_run_70 rfl (lv_at hl 0 rfl) ?_
        refine lv_aload_n hx hb dX9_run_71 rfl (lv_at hl 0 rfl) ?_
        refine va_get (D := (dC, dI)) (ci := 9) (v := .int c_outOf) (C := RX9) (T := TX9) (N := 45) hx hb hts (fun w h => gw_mem (inX9 w h)) hown hK.1 hP 0 rfl rfl 9 (by decide) (hts _ (gw_mem wfX9_100)) (fun _ h9 => h9) rfl dX9_run_72 ?_
        obtain ⟨r51, c_drawnNow_52, v53, hf⟩ := bd2_some hf
        refine gci (va_runV (As := [.int c_outOf]) (rest := [.int x7, .ref (ad 4)]) ⟨hx, hb, hml, hown, hts⟩ (tX9_draw l dC dI dA ad H.size v53) (ccX9_X9_draw hts ⟨Nat.le_of_ble_eq_true rfl, Nat.le_of_ble_eq_true rfl⟩) (gPreV (ci := 9) (q0 := 0) hP hK hD rfl rfl) rfl rfl hl.1 rfl (lv_room (Nat.le_of_ble_eq_true rfl)) dX9_run_75 ⟨Nat.le_of_ble_eq_true rfl, Nat.le_of_ble_eq_true rfl⟩) hD hS hA (fun H locs hP hD hS => ?_)
        refine lv_aload_n hx hb dX9_run_78 rfl (lv_at hl 0 rfl) ?_
        refine va_get (D := (dC, dI)) (ci := 9) (v := .int c_likely) (C := RX9) (T := TX9) (N := 45) hx hb hts (fun w h => gw_mem (inX9 w h)) hown hK.1 hP 0 rfl rfl 8 (by decide) (hts _ (gw_mem wfX9_97)) (fun _ h9 => h9) rfl dX9_run_79 ?_
        obtain ⟨j55, v57, hf⟩ := bd1_some hf
        have J56 : ∀ (H : Heap) (locs : List Loc) (ls : Array Slot), va_P (dC, dI) vwCl (mW dA ad c_tape c_taped c_tree c_bonds c_moves c_handMoves c_moved c_days c_likely c_outOf c_rateNow c_pence c_top c_bottom c_spot c_textLong c_fault c_number c_numberAt c_figures c_written c_wanted c_found c_drawnNow_52 c_worth c_hold c_way c_acts c_sDay c_sUps c_sUp c_sMarks c_paidAll c_isPlayed c_isOn c_handMoved c_handPaid c_regret c_aside c_other c_states c_kept c_keptLong c_keptAt c_isTaking) H → va_D A (mW dA ad c_tape c_taped c_tree c_bonds c_moves c_handMoves c_moved c_days c_likely c_outOf c_rateNow c_pence c_top c_bottom c_spot c_textLong c_fault c_number c_numberAt c_figures c_written c_wanted c_found c_drawnNow_52 c_worth c_hold c_way c_acts c_sDay c_sUps c_sUp c_sMarks c_paidAll c_isPlayed c_isOn c_handMoved c_handPaid c_regret c_aside c_other c_states c_kept c_keptLong c_keptAt c_isTaking) → va_S A s.heap H locs → lv_has ls 8 [(0, .ref (ad 0)), (1, .int x1), (3, .int x3), (4, .long x4), (6, .int x6), (7, .int x7)] → W p l e rmX9_run s m ([.ref (ad 0), .int p1, .int p2, .int p3] : List Value).toArray below meth c H locs 0 0 Q (F0 m 90 ls [.int j55, .int x7, .ref (ad 4)]) := by
          intro H locs ls hP hD hS hl
          obtain ⟨h58, hf⟩ := og_some hf
          obtain ⟨w59, ew59⟩ : ∃ y : Nat → Int32, y = upd c_moves (Int32.toNatClampNeg x7) j55 := ⟨_, rfl⟩
          replace hf := nm_at hf ew59
          refine va_iast hx hb hK.1 hP hD hS 4 0 rfl rfl (okI_in h58) dX9_run_90 (fun H locs hP hD hS => ?_)
          have hP : va_P (dC, dI) vwCl (mW dA ad c_tape c_taped c_tree c_bonds w59 c_handMoves c_moved c_days c_likely c_outOf c_rateNow c_pence c_top c_bottom c_spot c_textLong c_fault c_number c_numberAt c_figures c_written c_wanted c_found c_drawnNow_52 c_worth c_hold c_way c_acts c_sDay c_sUps c_sUp c_sMarks c_paidAll c_isPlayed c_isOn c_handMoved c_handPaid c_regret c_aside c_other c_states c_kept c_keptLong c_keptAt c_isTaking) H := by rw [ew59]; exact hP
          have hD : va_D A (mW dA ad c_tape c_taped c_tree c_bonds w59 c_handMoves c_moved c_days c_likely c_outOf c_rateNow c_pence c_top c_bottom c_spot c_textLong c_fault c_number c_numberAt c_figures c_written c_wanted c_found c_drawnNow_52 c_worth c_hold c_way c_acts c_sDay c_sUps c_sUp c_sMarks c_paidAll c_isPlayed c_isOn c_handMoved c_handPaid c_regret c_aside c_other c_states c_kept c_keptLong c_keptAt c_isTaking) := by rw [ew59]; exact hD
          obtain ⟨w60, ew60⟩ : ∃ y : Int32, y = x7 + 1 := ⟨_, rfl⟩
          replace hf := nm_at hf ew60
          refine lv_iinc (v := w60) (lv' := [(7, .int w60), (0, .ref (ad 0)), (1, .int x1), (3, .int x3), (4, .long x4), (6, .int x6)]) hx hb dX9_run_91 hl (k := 5) rfl (by rw [ew60]; rfl) (by decide) rfl (fun ls hl => ?_)
          refine lv_goto (tgt := 55) hx hb dX9_run_94 (by decide) ?_
          exact ih55 _ _ _ _ _ _ _ _ _ _ _ _ _ _ _ _ _ _ _ _ _ _ _ _ _ _ _ _ _ _ _ _ _ _ _ _ _ _ _ _ _ _ _ _ _ _ _ _ _ _ _ _ _ _ _ hP hD hS hf (lv_sub hl [1, 2, 3, 4, 5, 0] rfl) hk
        replace hf := v57
        clear v57
        refine lv_icmp_ge (tgt := 89) hx hb dX9_run_82 (by decide) (fun k54 => ?_) (fun k54 => ?_)
        · replace hf := ifp k54 hf
          refine lv_iconst (v := 0) hx hb dX9_run_89 (by decide) ?_
          cases hf
          exact J56 _ _ _ hP hD hS (lv_sub hl [0, 1, 2, 3, 4, 5] rfl)
        · replace hf := ifn k54 hf
          refine lv_iconst (v := 1) hx hb dX9_run_85 (by decide) ?_
          refine lv_goto (tgt := 90) hx hb dX9_run_86 (by decide) ?_
          cases hf
          exact J56 _ _ _ hP hD hS (lv_sub hl [0, 1, 2, 3, 4, 5] rfl)
  have LP46 : ∀ (n : Nat) (x1 : Int32) (x3 : Int32) (c_bonds : Nat → Int32) (c_days : Int32) (c_likely : Int32) (c_outOf : Int32) (c_pence : Nat → Int64) (c_acts : Nat → Int32) (c_tape : Nat → Int32) (c_taped : Int32) (c_tree : Nat → Int32) (c_handMoves : Nat → Int32) (c_moved : Int32) (c_rateNow : Int32) (c_top : Int64) (c_bottom : Int64) (c_spot : Int32) (c_textLong : Int32) (c_fault : Int32) (c_number : Int32) (c_numberAt : Int32) (c_figures : Int32) (c_written : Int32) (c_wanted : Int32) (c_found : Int32) (c_worth : Nat → Int64) (c_hold : Nat → Int64) (c_way : Nat → Int64) (c_isPlayed : Int32) (c_isOn : Int32) (c_handMoved : Int32) (c_handPaid : Int64) (c_regret : Int64) (c_aside : Nat → Int32) (c_other : Nat → Int64) (c_states : Int32) (c_kept : Nat → Int32) (c_keptLong : Nat → Int64) (c_keptAt : Int32) (c_isTaking : Int32) (x4 : Int64) (x6 : Int32) (c_moves : Nat → Int32) (c_drawnNow : Int32) (c_sDay : Int32) (c_sUps : Int32) (c_sUp : Int32) (c_sMarks : Int32) (c_paidAll : Int64) (o4 : Int64) (o_c_moves : Nat → Int32) (o_c_drawnNow : Int32) (o_c_sDay : Int32) (o_c_sUps : Int32) (o_c_sUp : Int32) (o_c_sMarks : Int32) (o_c_paidAll : Int64) (H : Heap) (locs : List Loc) (ls : Array Slot), va_P (dC, dI) vwCl (mW dA ad c_tape c_taped c_tree c_bonds c_moves c_handMoves c_moved c_days c_likely c_outOf c_rateNow c_pence c_top c_bottom c_spot c_textLong c_fault c_number c_numberAt c_figures c_written c_wanted c_found c_drawnNow c_worth c_hold c_way c_acts c_sDay c_sUps c_sUp c_sMarks c_paidAll c_isPlayed c_isOn c_handMoved c_handPaid c_regret c_aside c_other c_states c_kept c_keptLong c_keptAt c_isTaking) H → va_D A (mW dA ad c_tape c_taped c_tree c_bonds c_moves c_handMoves c_moved c_days c_likely c_outOf c_rateNow c_pence c_top c_bottom c_spot c_textLong c_fault c_number c_numberAt c_figures c_written c_wanted c_found c_drawnNow c_worth c_hold c_way c_acts c_sDay c_sUps c_sUp c_sMarks c_paidAll c_isPlayed c_isOn c_handMoved c_handPaid c_regret c_aside c_other c_states c_kept c_keptLong c_keptAt c_isTaking) → va_S A s.heap H locs → lpX9_run_46 x1 x3 c_bonds c_days c_likely c_outOf c_pence c_acts n x4 x6 c_moves c_drawnNow c_sDay c_sUps c_sUp c_sMarks c_paidAll = some (o4, o_c_moves, o_c_drawnNow, o_c_sDay, o_c_sUps, o_c_sUp, o_c_sMarks, o_c_paidAll) → lv_has ls 8 [(0, .ref (ad 0)), (1, .int x1), (3, .int x3), (4, .long x4), (6, .int x6)] → (∀ (H : Heap) (locs : List Loc) (ls : Array Slot), va_P (dC, dI) vwCl (mW dA ad c_tape c_taped c_tree c_bonds o_c_moves c_handMoves c_moved c_days c_likely c_outOf c_rateNow c_pence c_top c_bottom c_spot c_textLong c_fault c_number c_numberAt c_figures c_written c_wanted c_found o_c_drawnNow c_worth c_hold c_way c_acts o_c_sDay o_c_sUps o_c_sUp o_c_sMarks o_c_paidAll c_isPlayed c_isOn c_handMoved c_handPaid c_regret c_aside c_other c_states c_kept c_keptLong c_keptAt c_isTaking) H → va_D A (mW dA ad c_tape c_taped c_tree c_bonds o_c_moves c_handMoves c_moved c_days c_likely c_outOf c_rateNow c_pence c_top c_bottom c_spot c_textLong c_fault c_number c_numberAt c_figures c_written c_wanted c_found o_c_drawnNow c_worth c_hold c_way c_acts o_c_sDay o_c_sUps o_c_sUp o_c_sMarks o_c_paidAll c_isPlayed c_isOn c_handMoved c_handPaid c_regret c_aside c_other c_states c_kept c_keptLong c_keptAt c_isTaking) → va_S A s.heap H locs → lv_has ls 8 [(0, .ref (ad 0)), (4, .long o4)] → W p l e rmX9_run s m ([.ref (ad 0), .int p1, .int p2, .int p3] : List Value).toArray below meth c H locs 0 0 Q (F0 m 133 ls [])) → W p l e rmX9_run s m ([.ref (ad 0), .int p1, .int p2, .int p3] : List Value).toArray below meth c H locs 0 0 Q (F0 m 46 ls []) := by
    intro n
    induction n with
    | zero =>
      intro x1 x3 c_bonds c_days c_likely c_outOf c_pence c_acts c_tape c_taped c_tree c_handMoves c_moved c_rateNow c_top c_bottom c_spot c_textLong c_fault c_number c_numberAt c_figures c_written c_wanted c_found c_worth c_hold c_way c_isPlayed c_isOn c_handMoved c_handPaid c_regret c_aside c_other c_states c_kept c_keptLong c_keptAt c_isTaking x4 x6 c_moves c_drawnNow c_sDay c_sUps c_sUp c_sMarks c_paidAll o4 o_c_moves o_c_drawnNow o_c_sDay o_c_sUps o_c_sUp o_c_sMarks o_c_paidAll H locs ls hP hD hS hf hl hk
      cases hf
    | succ n ih46 =>
      intro x1 x3 c_bonds c_days c_likely c_outOf c_pence c_acts c_tape c_taped c_tree c_handMoves c_moved c_rateNow c_top c_bottom c_spot c_textLong c_fault c_number c_numberAt c_figures c_written c_wanted c_found c_worth c_hold c_way c_isPlayed c_isOn c_handMoved c_handPaid c_regret c_aside c_other c_states c_kept c_keptLong c_keptAt c_isTaking x4 x6 c_moves c_drawnNow c_sDay c_sUps c_sUp c_sMarks c_paidAll o4 o_c_moves o_c_drawnNow o_c_sDay o_c_sUps o_c_sUp o_c_sMarks o_c_paidAll H locs ls hP hD hS hf hl hk
      rw [lpX9_run_46.eq_2] at hf
      refine lv_iload hx hb dX9_run_46 (lv_at hl 4 rfl) ?_
      refine lv_iload_n hx hb dX9_run_48 rfl (lv_at hl 2 rfl) ?_
      refine lv_icmp_ge (tgt := 133) hx hb dX9_run_49 (by decide) (fun k34 => ?_) (fun k34 => ?_)
      · replace hf := ifp k34 hf
        cases hf
        exact hk _ _ _ hP hD hS (lv_sub hl [0, 3] rfl)
      · replace hf := ifn k34 hf
        refine lv_iconst (v := 0) hx hb dX9_run_52 (by decide) ?_
        refine lv_istore (lv' := [(7, .int 0), (0, .ref (ad 0)), (1, .int x1), (3, .int x3), (4, .long x4), (6, .int x6)]) hx hb dX9_run_53 hl (by decide) rfl (fun ls hl => ?_)
        obtain ⟨c_moves_35, c_drawnNow_36, v37, hf⟩ := bd2_some hf
        refine LP55 FU _ _ _ _ _ _ _ _ _ _ _ _ _ _ _ _ _ _ _ _ _ _ _ _ _ _ _ _ _ _ _ _ _ _ _ _ _ _ _ _ _ _ _ _ _ _ _ _ _ _ _ _ _ _ _ hP hD hS v37 (lv_sub hl [1, 2, 3, 4, 5, 0] rfl) (fun H locs ls hP hD hS hl => ?_)
        refine lv_aload_n hx hb dX9_run_97 rfl (lv_at hl 0 rfl) ?_
        refine lv_iload_n hx hb dX9_run_98 rfl (lv_at hl 1 rfl) ?_
        refine lv_aload_n hx hb dX9_run_99 rfl (lv_at hl 0 rfl) ?_
        refine va_get (D := (dC, dI)) (ci := 9) (v := .int c_days) (C := RX9) (T := TX9) (N := 45) hx hb hts (fun w h => gw_mem (inX9 w h)) hown hK.1 hP 0 rfl rfl 7 (by decide) (hts _ (gw_mem wfX9_94)) (fun _ h9 => h9) rfl dX9_run_100 ?_
        obtain ⟨r38, c_sDay_39, c_sUps_40, c_sUp_41, c_sMarks_42, c_paidAll_43, v44, hf⟩ := bd6_some hf
        refine gci (va_runV (As := [.int x1, .int c_days]) (rest := []) ⟨hx, hb, hml, hown, hts⟩ (tX9_endsAlong l dC dI dA ad H.size v44) (ccX9_X9_endsAlong hts ⟨Nat.le_of_ble_eq_true rfl, Nat.le_of_ble_eq_true rfl⟩) (gPreV (ci := 9) (q0 := 0) hP hK hD rfl rfl) rfl rfl hl.1 rfl (lv_room (Nat.le_of_ble_eq_true rfl)) dX9_run_103 ⟨Nat.le_of_ble_eq_true rfl, Nat.le_of_ble_eq_true rfl⟩) hD hS hA (fun H locs hP hD hS => ?_)
        refine lv_istore (lv' := [(7, .int r38), (0, .ref (ad 0)), (1, .int x1), (3, .int x3), (4, .long x4), (6, .int x6)]) hx hb dX9_run_106 hl (by decide) rfl (fun ls hl => ?_)
        refine lv_iload hx hb dX9_run_108 (lv_at hl 0 rfl) ?_
        obtain ⟨j46, v48, hf⟩ := bd1_some hf
        have J47 : ∀ (H : Heap) (locs : List Loc) (ls : Array Slot), va_P (dC, dI) vwCl (mW dA ad c_tape c_taped c_tree c_bonds c_moves_35 c_handMoves c_moved c_days c_likely c_outOf c_rateNow c_pence c_top c_bottom c_spot c_textLong c_fault c_number c_numberAt c_figures c_written c_wanted c_found c_drawnNow_36 c_worth c_hold c_way c_acts c_sDay_39 c_sUps_40 c_sUp_41 c_sMarks_42 c_paidAll_43 c_isPlayed c_isOn c_handMoved c_handPaid c_regret c_aside c_other c_states c_kept c_keptLong c_keptAt c_isTaking) H → va_D A (mW dA ad c_tape c_taped c_tree c_bonds c_moves_35 c_handMoves c_moved c_days c_likely c_outOf c_rateNow c_pence c_top c_bottom c_spot c_textLong c_fault c_number c_numberAt c_figures c_written c_wanted c_found c_drawnNow_36 c_worth c_hold c_way c_acts c_sDay_39 c_sUps_40 c_sUp_41 c_sMarks_42 c_paidAll_43 c_isPlayed c_isOn c_handMoved c_handPaid c_regret c_aside c_other c_states c_kept c_keptLong c_keptAt c_isTaking) → va_S A s.heap H locs → lv_has ls 8 [(0, .ref (ad 0)), (1, .int x1), (3, .int x3), (6, .int x6)] → W p l e rmX9_run s m ([.ref (ad 0), .int p1, .int p2, .int p3] : List Value).toArray below meth c H locs 0 0 Q (F0 m 125 ls [.long j46]) := by
          intro H locs ls hP hD hS hl
          refine lv_lstore (lv' := [(4, .long j46), (0, .ref (ad 0)), (1, .int x1), (3, .int x3), (6, .int x6)]) hx hb dX9_run_125 hl (by decide) rfl (fun ls hl => ?_)
          obtain ⟨w49, ew49⟩ : ∃ y : Int32, y = x6 + 1 := ⟨_, rfl⟩
          replace hf := nm_at hf ew49
          refine lv_iinc (v := w49) (lv' := [(6, .int w49), (4, .long j46), (0, .ref (ad 0)), (1, .int x1), (3, .int x3)]) hx hb dX9_run_127 hl (k := 4) rfl (by rw [ew49]; rfl) (by decide) rfl (fun ls hl => ?_)
          refine lv_goto (tgt := 46) hx hb dX9_run_130 (by decide) ?_
          exact ih46 _ _ _ _ _ _ _ _ _ _ _ _ _ _ _ _ _ _ _ _ _ _ _ _ _ _ _ _ _ _ _ _ _ _ _ _ _ _ _ _ _ _ _ _ _ _ _ _ _ _ _ _ _ _ _ _ _ _ _ _ hP hD hS hf (lv_sub hl [2, 3, 4, 1, 0] rfl) hk
        replace hf := v48
        clear v48
        refine lv_if_eq (tgt := 123) hx hb dX9_run_110 (by decide) (fun k45 => ?_) (fun k45 => ?_)
        · replace hf := ifp k45 hf
          refine lv_lload hx hb dX9_run_123 (lv_at hl 4 rfl) ?_
          cases hf
          exact J47 _ _ _ hP hD hS (lv_sub hl [1, 2, 3, 5] rfl)
        · replace hf := ifn k45 hf
          refine lv_lload hx hb dX9_run_113 (lv_at hl 4 rfl) ?_
          refine lv_aload_n hx hb dX9_run_115 rfl (lv_at hl 1 rfl) ?_
          refine va_get (D := (dC, dI)) (ci := 9) (v := .long c_paidAll_43) (C := RX9) (T := TX9) (N := 45) hx hb hts (fun w h => gw_mem (inX9 w h)) hown hK.1 hP 0 rfl rfl 32 (by decide) (hts _ (gw_mem wfX9_345)) (fun _ h9 => h9) rfl dX9_run_116 ?_
          refine lv_ladd hx hb dX9_run_119 ?_
          refine lv_goto (tgt := 125) hx hb dX9_run_120 (by decide) ?_
          cases hf
          exact J47 _ _ _ hP hD hS (lv_sub hl [1, 2, 3, 5] rfl)
  subst hQ
  unfold fX9_run at hf
  refine lv_iload_n hx hb dX9_run_0 rfl (lv_at hl 1 rfl) ?_
  obtain ⟨r1, v2, hf⟩ := bd1_some hf
  refine gci0 (va_runS (As := [.int p1]) (rest := []) ⟨hx, hb, hml, hown, hts⟩ (tX9_isBond l dC dI dA s.heap.size v2) (ccX9_X9_isBond hts ⟨Nat.le_of_ble_eq_true rfl, Nat.le_of_ble_eq_true rfl⟩) (gPreS0 hK) rfl rfl hl.1 rfl (lv_room (Nat.le_of_ble_eq_true rfl)) dX9_run_1 ⟨Nat.le_of_ble_eq_true rfl, Nat.le_of_ble_eq_true rfl⟩) hP hS hA (fun H locs hP hS => ?_)
  refine lv_if_eq (tgt := 19) hx hb dX9_run_4 (by decide) (fun k3 => ?_) (fun k3 => ?_)
  · replace hf := ifp k3 hf
    refine lv_ldc2 (v := (-1)) hx hb hown (hts _ (gw_mem wkX9_116)) dX9_run_19 ?_
    cases hf
    exact W.lret hx hb hr (fun t ht _ => gql hP hD hS ht) hS.2.2 dX9_run_22
  · replace hf := ifn k3 hf
    refine lv_iload_n hx hb dX9_run_7 rfl (lv_at hl 3 rfl) ?_
    refine lv_i2l hx hb dX9_run_8 rfl ?_
    refine lv_lconst (v := 1) hx hb dX9_run_9 rfl ?_
    refine lv_ldc2 (v := 100) hx hb hown (hts _ (gw_mem wkX9_110)) dX9_run_10 ?_
    obtain ⟨r4, v5, hf⟩ := bd1_some hf
    refine gci0 (va_runS (As := [.long (Int32.toInt64 p3), .long 1, .long 100]) (rest := []) ⟨hx, hb, hml, hown, hts⟩ (tX9_in l dC dI dA H.size v5) (ccX9_X9_in hts ⟨Nat.le_of_ble_eq_true rfl, Nat.le_of_ble_eq_true rfl⟩) (gPreS0 hK) rfl rfl hl.1 rfl (lv_room (Nat.le_of_ble_eq_true rfl)) dX9_run_13 ⟨Nat.le_of_ble_eq_true rfl, Nat.le_of_ble_eq_true rfl⟩) hP hS hA (fun H locs hP hS => ?_)
    refine lv_if_ne (tgt := 23) hx hb dX9_run_16 (by decide) (fun k6 => ?_) (fun k6 => ?_)
    · replace hf := ifn k6 hf
      refine lv_aload_n hx hb dX9_run_23 rfl (lv_at hl 0 rfl) ?_
      refine lv_iload_n hx hb dX9_run_24 rfl (lv_at hl 1 rfl) ?_
      obtain ⟨c_days_7, c_likely_8, c_outOf_9, c_rateNow_10, c_pence_11, c_top_12, c_bottom_13, c_worth_14, c_hold_15, c_acts_16, v17, hf⟩ := bd10_some hf
      refine gcv (va_runV (As := [.int p1]) (rest := []) ⟨hx, hb, hml, hown, hts⟩ (tX9_playsNow l dC dI dA ad H.size v17) (ccX9_X9_playsNow hts ⟨Nat.le_of_ble_eq_true rfl, Nat.le_of_ble_eq_true rfl⟩) (gPreV (ci := 9) (q0 := 0) hP hK hD rfl rfl) rfl rfl hl.1 rfl (lv_room (Nat.le_of_ble_eq_true rfl)) dX9_run_25 ⟨Nat.le_of_ble_eq_true rfl, Nat.le_of_ble_eq_true rfl⟩) hD hS hA (fun H locs hP hD hS => ?_)
      refine lv_aload_n hx hb dX9_run_28 rfl (lv_at hl 0 rfl) ?_
      obtain ⟨c_moves_18, c_aside_19, v20, hf⟩ := bd2_some hf
      refine gcv (va_runV (As := []) (rest := []) ⟨hx, hb, hml, hown, hts⟩ (tX9_swaps l dC dI dA ad H.size v20) (ccX9_X9_swaps hts ⟨Nat.le_of_ble_eq_true rfl, Nat.le_of_ble_eq_true rfl⟩) (gPreV (ci := 9) (q0 := 0) hP hK hD rfl rfl) rfl rfl hl.1 rfl (lv_room (Nat.le_of_ble_eq_true rfl)) dX9_run_29 ⟨Nat.le_of_ble_eq_true rfl, Nat.le_of_ble_eq_true rfl⟩) hD hS hA (fun H locs hP hD hS => ?_)
      refine lv_aload_n hx hb dX9_run_32 rfl (lv_at hl 0 rfl) ?_
      refine lv_iload_n hx hb dX9_run_33 rfl (lv_at hl 2 rfl) ?_
      refine lv_ldc (v := 65535) hx hb hown (hts _ (gw_mem wkX9_245)) dX9_run_34 ?_
      refine lv_iand hx hb dX9_run_36 ?_
      refine lv_topi (fun w21 ew21 => ?_)
      replace hf := nm_at hf ew21
      refine va_put (D := (dC, dI)) (ci := 9) (v := .int w21) (ty := .int) (C := RX9) (T := TX9) (N := 45) hx hb hts (fun w h => gw_mem (inX9 w h)) tyX9 tyX9_ok nmX9 hown hK.1 hP hD hS 0 rfl rfl 23 (by decide) (hts _ (gw_mem wfX9_241)) (fun _ h9 => h9) rfl (by decide +kernel) rfl rfl (Nat.le_of_ble_eq_true rfl) dX9_run_37 (fun H locs hP hD hS => ?_)
      have hP : va_P (dC, dI) vwCl (mW dA ad c_tape c_taped c_tree c_bonds c_moves_18 c_handMoves c_moved c_days_7 c_likely_8 c_outOf_9 c_rateNow_10 c_pence_11 c_top_12 c_bottom_13 c_spot c_textLong c_fault c_number c_numberAt c_figures c_written c_wanted c_found w21 c_worth_14 c_hold_15 c_way c_acts_16 c_sDay c_sUps c_sUp c_sMarks c_paidAll c_isPlayed c_isOn c_handMoved c_handPaid c_regret c_aside_19 c_other c_states c_kept c_keptLong c_keptAt c_isTaking) H := hP
      have hD : va_D A (mW dA ad c_tape c_taped c_tree c_bonds c_moves_18 c_handMoves c_moved c_days_7 c_likely_8 c_outOf_9 c_rateNow_10 c_pence_11 c_top_12 c_bottom_13 c_spot c_textLong c_fault c_number c_numberAt c_figures c_written c_wanted c_found w21 c_worth_14 c_hold_15 c_way c_acts_16 c_sDay c_sUps c_sUp c_sMarks c_paidAll c_isPlayed c_isOn c_handMoved c_handPaid c_regret c_aside_19 c_other c_states c_kept c_keptLong c_keptAt c_isTaking) := hD
      refine lv_lconst (v := 0) hx hb dX9_run_40 rfl ?_
      refine lv_lstore (lv' := [(4, .long 0), (0, .ref (ad 0)), (1, .int p1), (2, .int p2), (3, .int p3)]) hx hb dX9_run_41 hl (by decide) rfl (fun ls hl => ?_)
      refine lv_iconst (v := 0) hx hb dX9_run_43 (by decide) ?_
      refine lv_istore (lv' := [(6, .int 0), (4, .long 0), (0, .ref (ad 0)), (1, .int p1), (2, .int p2), (3, .int p3)]) hx hb dX9_run_44 hl (by decide) rfl (fun ls hl => ?_)
      obtain ⟨x22, c_moves_23, c_drawnNow_24, c_sDay_25, c_sUps_26, c_sUp_27, c_sMarks_28, c_paidAll_29, v30, hf⟩ := bd8_some hf
      refine LP46 FU _ _ _ _ _ _ _ _ _ _ _ _ _ _ _ _ _ _ _ _ _ _ _ _ _ _ _ _ _ _ _ _ _ _ _ _ _ _ _ _ _ _ _ _ _ _ _ _ _ _ _ _ _ _ _ _ _ _ _ _ hP hD hS v30 (lv_sub hl [2, 3, 5, 1, 0] rfl) (fun H locs ls hP hD hS hl => ?_)
      refine lv_aload_n hx hb dX9_run_133 rfl (lv_at hl 0 rfl) ?_
      obtain ⟨c_moves_31, c_aside_32, v33, hf⟩ := bd2_some hf
      refine gcv (va_runV (As := []) (rest := []) ⟨hx, hb, hml, hown, hts⟩ (tX9_swaps l dC dI dA ad H.size v33) (ccX9_X9_swaps hts ⟨Nat.le_of_ble_eq_true rfl, Nat.le_of_ble_eq_true rfl⟩) (gPreV (ci := 9) (q0 := 0) hP hK hD rfl rfl) rfl rfl hl.1 rfl (lv_room (Nat.le_of_ble_eq_true rfl)) dX9_run_134 ⟨Nat.le_of_ble_eq_true rfl, Nat.le_of_ble_eq_true rfl⟩) hD hS hA (fun H locs hP hD hS => ?_)
      refine lv_lload hx hb dX9_run_137 (lv_at hl 1 rfl) ?_
      cases hf
      exact W.lret hx hb hr (fun t ht _ => gql hP hD hS ht) hS.2.2 dX9_run_139
    · replace hf := ifp k6 hf
      refine lv_ldc2 (v := (-1)) hx hb hown (hts _ (gw_mem wkX9_116)) dX9_run_19 ?_
      cases hf
      exact W.lret hx hb hr (fun t ht _ => gql hP hD hS ht) hS.2.2 dX9_run_22
