def fX9_draw (p1 : Int32) (c_drawnNow : Int32) : Option (Int32 × Int32) := nm (((25173 * c_drawnNow) + 13849) - ((25173 * c_drawnNow) + 13849) / 65536 * 65536) (fun w1 => og (nzI p1) (some ((w1 / 4) - (w1 / 4) / p1 * p1, w1)))
abbrev rmX9_draw : Room := { frames := 0, cells := 0, slots := 0, locals := 0 }
set_option maxHeartbeats 4000000 in
set_option maxRecDepth 100000 in
theorem tX9_draw (l : Launch) (dC : Nat → ClassId) (dI : Nat → Nat → Nat) (dA : Nat → ClassId) (ad : Nat → Nat) (sz : Nat) {p1 : Int32} {c_tape : Nat → Int32} {c_taped : Int32} {c_tree : Nat → Int32} {c_bonds : Nat → Int32} {c_moves : Nat → Int32} {c_handMoves : Nat → Int32} {c_moved : Int32} {c_days : Int32} {c_likely : Int32} {c_outOf : Int32} {c_rateNow : Int32} {c_pence : Nat → Int64} {c_top : Int64} {c_bottom : Int64} {c_spot : Int32} {c_textLong : Int32} {c_fault : Int32} {c_number : Int32} {c_numberAt : Int32} {c_figures : Int32} {c_written : Int32} {c_wanted : Int32} {c_found : Int32} {c_drawnNow : Int32} {c_worth : Nat → Int64} {c_hold : Nat → Int64} {c_way : Nat → Int64} {c_acts : Nat → Int32} {c_sDay : Int32} {c_sUps : Int32} {c_sUp : Int32} {c_sMarks : Int32} {c_paidAll : Int64} {c_isPlayed : Int32} {c_isOn : Int32} {c_handMoved : Int32} {c_handPaid : Int64} {c_regret : Int64} {c_aside : Nat → Int32} {c_other : Nat → Int64} {c_states : Int32} {c_kept : Nat → Int32} {c_keptLong : Nat → Int64} {c_keptAt : Int32} {c_isTaking : Int32} {r : Int32} {o_c_drawnNow : Int32} (hf : fX9_draw p1 c_drawnNow = some (r, o_c_drawnNow)) : Met l yX9_draw (wq (Cond.code yX9_draw cX9_draw 2 (some .int))) rmX9_draw (gP [.ref (ad 0), .int p1] (dC, dI) dA (mW dA ad c_tape c_taped c_tree c_bonds c_moves c_handMoves c_moved c_days c_likely c_outOf c_rateNow c_pence c_top c_bottom c_spot c_textLong c_fault c_number c_numberAt c_figures c_written c_wanted c_found c_drawnNow c_worth c_hold c_way c_acts c_sDay c_sUps c_sUp c_sMarks c_paidAll c_isPlayed c_isOn c_handMoved c_handPaid c_regret c_aside c_other c_states c_kept c_keptLong c_keptAt c_isTaking) sz) (gQi (dC, dI) r (mW dA ad c_tape c_taped c_tree c_bonds c_moves c_handMoves c_moved c_days c_likely c_outOf c_rateNow c_pence c_top c_bottom c_spot c_textLong c_fault c_number c_numberAt c_figures c_written c_wanted c_found o_c_drawnNow c_worth c_hold c_way c_acts c_sDay c_sUps c_sUp c_sMarks c_paidAll c_isPlayed c_isOn c_handMoved c_handPaid c_regret c_aside c_other c_states c_kept c_keptLong c_keptAt c_isTaking) (va_A (mW dA ad c_tape c_taped c_tree c_bonds c_moves c_handMoves c_moved c_days c_likely c_outOf c_rateNow c_pence c_top c_bottom c_spot c_textLong c_fault c_number c_numberAt c_figures c_written c_wanted c_found c_drawnNow c_worth c_hold c_way c_acts c_sDay c_sUps c_sUp c_sMarks c_paidAll c_isPlayed c_isOn c_handMoved c_handPaid c_regret c_aside c_other c_states c_kept c_keptLong c_keptAt c_isTaking) sz)) 0 0 (va_A (mW dA ad c_tape c_taped c_tree c_bonds c_moves c_handMoves c_moved c_days c_likely c_outOf c_rateNow c_pence c_top c_bottom c_spot c_textLong c_fault c_number c_numberAt c_figures c_written c_wanted c_found c_drawnNow c_worth c_hold c_way c_acts c_sDay c_sUps c_sUp c_sMarks c_paidAll c_isPlayed c_isOn c_handMoved c_handPaid c_regret c_aside c_other c_states c_kept c_keptLong c_keptAt c_isTaking) sz) := by
  refine Met.ofW (cc := cX9_draw) (maxL := 2) (ret := (some .int)) (by decide) rfl ?_
  intro p e s m args below meth c s₁ B hml hv
  obtain ⟨rfl, hsz, hP, hK, hD0⟩ := hv
  have hx := B.exec
  have hb := B.bytes
  have hr := B.returns
  have hts := atoms_spec (ws := wq (Cond.code yX9_draw cX9_draw 2 (some .int))) B.pre
  have hown : s.vm.findClass RX9 = some m.cls := findClass_of_methodNamed B.named
  have hlocks := B.notSynchronized
  clear B
  subst hsz
  have hD := hD0.self (sz := s.heap.size)
  generalize hAe : va_A (mW dA ad c_tape c_taped c_tree c_bonds c_moves c_handMoves c_moved c_days c_likely c_outOf c_rateNow c_pence c_top c_bottom c_spot c_textLong c_fault c_number c_numberAt c_figures c_written c_wanted c_found c_drawnNow c_worth c_hold c_way c_acts c_sDay c_sUps c_sUp c_sMarks c_paidAll c_isPlayed c_isOn c_handMoved c_handPaid c_regret c_aside c_other c_states c_kept c_keptLong c_keptAt c_isTaking) s.heap.size = A at hD ⊢
  have hA : ∀ q : Nat, s.heap.size ≤ q → A q := fun q h => by rw [← hAe]; exact Or.inr h
  clear hAe hD0
  have hS : va_S A s.heap s.heap [] := va_S.rf
  have hl := lv_entry ([.ref (ad 0), .int p1]) (n := 2) (Nat.le_of_ble_eq_true rfl)
  rw [lg_entry_eq]
  generalize (lg_sl ([.ref (ad 0), .int p1]) ++ List.replicate (2 - (lg_sl ([.ref (ad 0), .int p1])).length) Slot.unset).toArray = ls at hl ⊢
  have hl : lv_has ls 2 [(0, .ref (ad 0)), (1, .int p1)] := hl
  change W p l e rmX9_draw s m ([.ref (ad 0), .int p1] : List Value).toArray below meth c s.heap [] 0 0 _ _
  unfold fX9_draw at hf
  refine lv_aload_n hx hb dX9_draw_0 rfl (lv_at hl 0 rfl) ?_
  refine lv_sipush (v := 25173) hx hb dX9_draw_1 (by decide) ?_
  refine lv_aload_n hx hb dX9_draw_4 rfl (lv_at hl 0 rfl) ?_
  refine va_get (D := (dC, dI)) (ci := 9) (v := .int c_drawnNow) (C := RX9) (T := TX9) (N := 45) hx hb hts (fun w h => gw_mem (inX9 w h)) hown hK.1 hP 0 rfl rfl 23 (by decide) (hts _ (gw_mem wfX9_241)) (fun _ h9 => h9) rfl dX9_draw_5 ?_
  refine lv_imul hx hb dX9_draw_8 ?_
  refine lv_sipush (v := 13849) hx hb dX9_draw_9 (by decide) ?_
  refine lv_iadd hx hb dX9_draw_12 ?_
  refine lv_ldc (v := 65536) hx hb hown (hts _ (gw_mem wkX9_244)) dX9_draw_13 ?_
  refine lv_irem hx hb dX9_draw_15 (by decide) ?_
  refine lv_topi (fun w1 ew1 => ?_)
  replace hf := nm_at hf ew1
  refine va_put (D := (dC, dI)) (ci := 9) (v := .int w1) (ty := .int) (C := RX9) (T := TX9) (N := 45) hx hb hts (fun w h => gw_mem (inX9 w h)) tyX9 tyX9_ok nmX9 hown hK.1 hP hD hS 0 rfl rfl 23 (by decide) (hts _ (gw_mem wfX9_241)) (fun _ h9 => h9) rfl (by decide +kernel) rfl rfl (Nat.le_of_ble_eq_true rfl) dX9_draw_16 (fun H locs hP hD hS => ?_)
  have hP : va_P (dC, dI) vwCl (mW dA ad c_tape c_taped c_tree c_bonds c_moves c_handMoves c_moved c_days c_likely c_outOf c_rateNow c_pence c_top c_bottom c_spot c_textLong c_fault c_number c_numberAt c_figures c_written c_wanted c_found w1 c_worth c_hold c_way c_acts c_sDay c_sUps c_sUp c_sMarks c_paidAll c_isPlayed c_isOn c_handMoved c_handPaid c_regret c_aside c_other c_states c_kept c_keptLong c_keptAt c_isTaking) H := hP
  have hD : va_D A (mW dA ad c_tape c_taped c_tree c_bonds c_moves c_handMoves c_moved c_days c_likely c_outOf c_rateNow c_pence c_top c_bottom c_spot c_textLong c_fault c_number c_numberAt c_figures c_written c_wanted c_found w1 c_worth c_hold c_way c_acts c_sDay c_sUps c_sUp c_sMarks c_paidAll c_isPlayed c_isOn c_handMoved c_handPaid c_regret c_aside c_other c_states c_kept c_keptLong c_keptAt c_isTaking) := hD
  refine lv_aload_n hx hb dX9_draw_19 rfl (lv_at hl 0 rfl) ?_
  refine va_get (D := (dC, dI)) (ci := 9) (v := .int w1) (C := RX9) (T := TX9) (N := 45) hx hb hts (fun w h => gw_mem (inX9 w h)) hown hK.1 hP 0 rfl rfl 23 (by decide) (hts _ (gw_mem wfX9_241)) (fun _ h9 => h9) rfl dX9_draw_20 ?_
  refine lv_iconst (v := 4) hx hb dX9_draw_23 (by decide) ?_
  refine lv_idiv hx hb dX9_draw_24 (by decide) ?_
  refine lv_iload_n hx hb dX9_draw_25 rfl (lv_at hl 1 rfl) ?_
  obtain ⟨h2, hf⟩ := og_some hf
  refine lv_irem hx hb dX9_draw_26 (nzI_ne h2) ?_
  cases hf
  exact W.iret hx hb hr (fun t ht _ => gqi hP hD hS ht) hS.2.2 dX9_draw_27
theorem ccX9_X9_draw {R : Room} {s : State} {args : Array Value} {c0 : Cond} (ht : ∀ w ∈ wq c0, w.before args s = true) (hR : rmX9_draw.frames + 1 ≤ R.frames ∧ 8 + (2 + 11) + rmX9_draw.locals ≤ R.locals) : CallW R s args RX9 RX9 246 yX9_draw cX9_draw 2 (some .int) (wq (.code yX9_draw cX9_draw 2 (some .int))) rmX9_draw 0 0 1 := gCW 1 ht wcX9_draw wmX9_246 wiX9_draw weX9_draw wnX9 (by decide +kernel) rfl rfl hR
def lpX9_drawn_31 (x2 : Int32) (c_tree : Nat → Int32) : Nat → Int32 → Int32 → (Nat → Int32) → Int32 → Option (Int32 × (Nat → Int32) × Int32)
  | 0, _, _, _, _ => none
  | n + 1, x3, x4, c_moves, c_drawnNow => if x2 ≤ x4 then some (x3, c_moves, c_drawnNow) else bd2 (fX9_draw (c_tree (Int32.toNatClampNeg 7)) c_drawnNow) (fun r10 c_drawnNow_11 => if (c_tree (Int32.toNatClampNeg 6)) ≤ r10 then og (okI x4 6) (nm (upd c_moves (Int32.toNatClampNeg x4) 0) (fun w15 => og (okI x4 6) (nm (x3 + (w15 (Int32.toNatClampNeg x4))) (fun w17 => nm (x4 + 1) (fun w18 => lpX9_drawn_31 x2 c_tree n w17 w18 w15 c_drawnNow_11))))) else og (okI x4 6) (nm (upd c_moves (Int32.toNatClampNeg x4) 1) (fun w20 => og (okI x4 6) (nm (x3 + (w20 (Int32.toNatClampNeg x4))) (fun w22 => nm (x4 + 1) (fun w23 => lpX9_drawn_31 x2 c_tree n w22 w23 w20 c_drawnNow_11))))))
def fX9_drawn (p1 : Int32) (p2 : Int32) (c_tree : Nat → Int32) (c_moves : Nat → Int32) (c_moved : Int32) (c_drawnNow : Int32) : Option (Int32 × (Nat → Int32) × Int32 × Int32) := bd1 (fX9_in (Int32.toInt64 p2) 0 (Int32.toInt64 (c_tree (Int32.toNatClampNeg 0)))) (fun r1 => if r1 = 0 then some ((-1), c_moves, c_moved, c_drawnNow) else nm (p1 &&& 65535) (fun w4 => bd3 (lpX9_drawn_31 p2 c_tree FU 0 0 c_moves w4) (fun x5 c_moves_6 c_drawnNow_7 => some (x5, c_moves_6, p2, c_drawnNow_7))))
abbrev rmX9_drawn : Room := { frames := 1, cells := 0, slots := 0, locals := 25 }
set_option maxHeartbeats 4000000 in
set_option maxRecDepth 100000 in
theorem tX9_drawn (l : Launch) (dC : Nat → ClassId) (dI : Nat → Nat → Nat) (dA : Nat → ClassId) (ad : Nat → Nat) (sz : Nat) {p1 : Int32} {p2 : Int32} {c_tape : Nat → Int32} {c_taped : Int32} {c_tree : Nat → Int32} {c_bonds : Nat → Int32} {c_moves : Nat → Int32} {c_handMoves : Nat → Int32} {c_moved : Int32} {c_days : Int32} {c_likely : Int32} {c_outOf : Int32} {c_rateNow : Int32} {c_pence : Nat → Int64} {c_top : Int64} {c_bottom : Int64} {c_spot : Int32} {c_textLong : Int32} {c_fault : Int32} {c_number : Int32} {c_numberAt : Int32} {c_figures : Int32} {c_written : Int32} {c_wanted : Int32} {c_found : Int32} {c_drawnNow : Int32} {c_worth : Nat → Int64} {c_hold : Nat → Int64} {c_way : Nat → Int64} {c_acts : Nat → Int32} {c_sDay : Int32} {c_sUps : Int32} {c_sUp : Int32} {c_sMarks : Int32} {c_paidAll : Int64} {c_isPlayed : Int32} {c_isOn : Int32} {c_handMoved : Int32} {c_handPaid : Int64} {c_regret : Int64} {c_aside : Nat → Int32} {c_other : Nat → Int64} {c_states : Int32} {c_kept : Nat → Int32} {c_keptLong : Nat → Int64} {c_keptAt : Int32} {c_isTaking : Int32} {r : Int32} {o_c_moves : Nat → Int32} {o_c_moved : Int32} {o_c_drawnNow : Int32} (hf : fX9_drawn p1 p2 c_tree c_moves c_moved c_drawnNow = some (r, o_c_moves, o_c_moved, o_c_drawnNow)) : Met l yX9_drawn (wq (Cond.code yX9_drawn cX9_drawn 5 (some .int))) rmX9_drawn (gP [.ref (ad 0), .int p1, .int p2] (dC, dI) dA (mW dA ad c_tape c_taped c_tree c_bonds c_moves c_handMoves c_moved c_days c_likely c_outOf c_rateNow c_pence c_top c_bottom c_spot c_textLong c_fault c_number c_numberAt c_figures c_written c_wanted c_found c_drawnNow c_worth c_hold c_way c_acts c_sDay c_sUps c_sUp c_sMarks c_paidAll c_isPlayed c_isOn c_handMoved c_handPaid c_regret c_aside c_other c_states c_kept c_keptLong c_keptAt c_isTaking) sz) (gQi (dC, dI) r (mW dA ad c_tape c_taped c_tree c_bonds o_c_moves c_handMoves o_c_moved c_days c_likely c_outOf c_rateNow c_pence c_top c_bottom c_spot c_textLong c_fault c_number c_numberAt c_figures c_written c_wanted c_found o_c_drawnNow c_worth c_hold c_way c_acts c_sDay c_sUps c_sUp c_sMarks c_paidAll c_isPlayed c_isOn c_handMoved c_handPaid c_regret c_aside c_other c_states c_kept c_keptLong c_keptAt c_isTaking) (va_A (mW dA ad c_tape c_taped c_tree c_bonds c_moves c_handMoves c_moved c_days c_likely c_outOf c_rateNow c_pence c_top c_bottom c_spot c_textLong c_fault c_number c_numberAt c_figures c_written c_wanted c_found c_drawnNow c_worth c_hold c_way c_acts c_sDay c_sUps c_sUp c_sMarks c_paidAll c_isPlayed c_isOn c_handMoved c_handPaid c_regret c_aside c_other c_states c_kept c_keptLong c_keptAt c_isTaking) sz)) 0 0 (va_A (mW dA ad c_tape c_taped c_tree c_bonds c_moves c_handMoves c_moved c_days c_likely c_outOf c_rateNow c_pence c_top c_bottom c_spot c_textLong c_fault c_number c_numberAt c_figures c_written c_wanted c_found c_drawnNow c_worth c_hold c_way c_acts c_sDay c_sUps c_sUp c_sMarks c_paidAll c_isPlayed c_isOn c_handMoved c_handPaid c_regret c_aside c_other c_states c_kept c_keptLong c_keptAt c_isTaking) sz) := by
  refine Met.ofW (cc := cX9_drawn) (maxL := 5) (ret := (some .int)) (by decide) rfl ?_
  intro p e s m args below meth c s₁ B hml hv
  obtain ⟨rfl, hsz, hP, hK, hD0⟩ := hv
  have hx := B.exec
  have hb := B.bytes
  have hr := B.returns
  have hts := atoms_spec (ws := wq (Cond.code yX9_drawn cX9_drawn 5 (some .int))) B.pre
  have hown : s.vm.findClass RX9 = some m.cls := findClass_of_methodNamed B.named
  have hlocks := B.notSynchronized
  clear B
  subst hsz
  have hD := hD0.self (sz := s.heap.size)
  generalize hAe : va_A (mW dA ad c_tape c_taped c_tree c_bonds c_moves c_handMoves c_moved c_days c_likely c_outOf c_rateNow c_pence c_top c_bottom c_spot c_textLong c_fault c_number c_numberAt c_figures c_written c_wanted c_found c_drawnNow c_worth c_hold c_way c_acts c_sDay c_sUps c_sUp c_sMarks c_paidAll c_isPlayed c_isOn c_handMoved c_handPaid c_regret c_aside c_other c_states c_kept c_keptLong c_keptAt c_isTaking) s.heap.size = A at hD ⊢
  have hA : ∀ q : Nat, s.heap.size ≤ q → A q := fun q h => by rw [← hAe]; exact Or.inr h
  clear hAe hD0
  have hS : va_S A s.heap s.heap [] := va_S.rf
  have hl := lv_entry ([.ref (ad 0), .int p1, .int p2]) (n := 5) (Nat.le_of_ble_eq_true rfl)
  rw [lg_entry_eq]
  generalize (lg_sl ([.ref (ad 0), .int p1, .int p2]) ++ List.replicate (5 - (lg_sl ([.ref (ad 0), .int p1, .int p2])).length) Slot.unset).toArray = ls at hl ⊢
  have hl : lv_has ls 5 [(0, .ref (ad 0)), (1, .int p1), (2, .int p2)] := hl
  change W p l e rmX9_drawn s m ([.ref (ad 0), .int p1, .int p2] : List Value).toArray below meth c s.heap [] 0 0 _ _
  generalize hQ : MQ below (gQi (dC, dI) r (mW dA ad c_tape c_taped c_tree c_bonds o_c_moves c_handMoves o_c_moved c_days c_likely c_outOf c_rateNow c_pence c_top c_bottom c_spot c_textLong c_fault c_number c_numberAt c_figures c_written c_wanted c_found o_c_drawnNow c_worth c_hold c_way c_acts c_sDay c_sUps c_sUp c_sMarks c_paidAll c_isPlayed c_isOn c_handMoved c_handPaid c_regret c_aside c_other c_states c_kept c_keptLong c_keptAt c_isTaking) A) ([.ref (ad 0), .int p1, .int p2] : List Value).toArray s 0 0 A = Q
  have LP31 : ∀ (n : Nat) (x2 : Int32) (c_tree : Nat → Int32) (c_tape : Nat → Int32) (c_taped : Int32) (c_bonds : Nat → Int32) (c_handMoves : Nat → Int32) (c_moved : Int32) (c_days : Int32) (c_likely : Int32) (c_outOf : Int32) (c_rateNow : Int32) (c_pence : Nat → Int64) (c_top : Int64) (c_bottom : Int64) (c_spot : Int32) (c_textLong : Int32) (c_fault : Int32) (c_number : Int32) (c_numberAt : Int32) (c_figures : Int32) (c_written : Int32) (c_wanted : Int32) (c_found : Int32) (c_worth : Nat → Int64) (c_hold : Nat → Int64) (c_way : Nat → Int64) (c_acts : Nat → Int32) (c_sDay : Int32) (c_sUps : Int32) (c_sUp : Int32) (c_sMarks : Int32) (c_paidAll : Int64) (c_isPlayed : Int32) (c_isOn : Int32) (c_handMoved : Int32) (c_handPaid : Int64) (c_regret : Int64) (c_aside : Nat → Int32) (c_other : Nat → Int64) (c_states : Int32) (c_kept : Nat → Int32) (c_keptLong : Nat → Int64) (c_keptAt : Int32) (c_isTaking : Int32) (x3 : Int32) (x4 : Int32) (c_moves : Nat → Int32) (c_drawnNow : Int32) (o3 : Int32) (o_c_moves : Nat → Int32) (o_c_drawnNow : Int32) (H : Heap) (locs : List Loc) (ls : Array Slot), va_P (dC, dI) vwCl (mW dA ad c_tape c_taped c_tree c_bonds c_moves c_handMoves c_moved c_days c_likely c_outOf c_rateNow c_pence c_top c_bottom c_spot c_textLong c_fault c_number c_numberAt c_figures c_written c_wanted c_found c_drawnNow c_worth c_hold c_way c_acts c_sDay c_sUps c_sUp c_sMarks c_paidAll c_isPlayed c_isOn c_handMoved c_handPaid c_regret c_aside c_other c_states c_kept c_keptLong c_keptAt c_isTaking) H → va_D A (mW dA ad c_tape c_taped c_tree c_bonds c_moves c_handMoves c_moved c_days c_likely c_outOf c_rateNow c_pence c_top c_bottom c_spot c_textLong c_fault c_number c_numberAt c_figures c_written c_wanted c_found c_drawnNow c_worth c_hold c_way c_acts c_sDay c_sUps c_sUp c_sMarks c_paidAll c_isPlayed c_isOn c_handMoved c_handPaid c_regret c_aside c_other c_states c_kept c_keptLong c_keptAt c_isTaking) → va_S A s.heap H locs → lpX9_drawn_31 x2 c_tree n x3 x4 c_moves c_drawnNow = some (o3, o_c_moves, o_c_drawnNow) → lv_has ls 5 [(0, .ref (ad 0)), (2, .int x2), (3, .int x3), (4, .int x4)] → (∀ (H : Heap) (locs : List Loc) (ls : Array Slot), va_P (dC, dI) vwCl (mW dA ad c_tape c_taped c_tree c_bonds o_c_moves c_handMoves c_moved c_days c_likely c_outOf c_rateNow c_pence c_top c_bottom c_spot c_textLong c_fault c_number c_numberAt c_figures c_written c_wanted c_found o_c_drawnNow c_worth c_hold c_way c_acts c_sDay c_sUps c_sUp c_sMarks c_paidAll c_isPlayed c_isOn c_handMoved c_handPaid c_regret c_aside c_other c_states c_kept c_keptLong c_keptAt c_isTaking) H → va_D A (mW dA ad c_tape c_taped c_tree c_bonds o_c_moves c_handMoves c_moved c_days c_likely c_outOf c_rateNow c_pence c_top c_bottom c_spot c_textLong c_fault c_number c_numberAt c_figures c_written c_wanted c_found o_c_drawnNow c_worth c_hold c_way c_acts c_sDay c_sUps c_sUp c_sMarks c_paidAll c_isPlayed c_isOn c_handMoved c_handPaid c_regret c_aside c_other c_states c_kept c_keptLong c_keptAt c_isTaking) → va_S A s.heap H locs → lv_has ls 5 [(0, .ref (ad 0)), (2, .int x2), (3, .int o3)] → W p l e rmX9_drawn s m ([.ref (ad 0), .int p1, .int p2] : List Value).toArray below meth c H locs 0 0 Q (F0 m 86 ls [])) → W p l e rmX9_drawn s m ([.ref (ad 0), .int p1, .int p2] : List Value).toArray below meth c H locs 0 0 Q (F0 m 31 ls []) := by
    intro n
    induction n with
    | zero =>
      intro x2 c_tree c_tape c_taped c_bonds c_handMoves c_moved c_days c_likely c_outOf c_rateNow c_pence c_top c_bottom c_spot c_textLong c_fault c_number c_numberAt c_figures c_written c_wanted c_found c_worth c_hold c_way c_acts c_sDay c_sUps c_sUp c_sMarks c_paidAll c_isPlayed c_isOn c_handMoved c_handPaid c_regret c_aside c_other c_states c_kept c_keptLong c_keptAt c_isTaking x3 x4 c_moves c_drawnNow o3 o_c_moves o_c_drawnNow H locs ls hP hD hS hf hl hk
      cases hf
    | succ n ih31 =>
      intro x2 c_tree c_tape c_taped c_bonds c_handMoves c_moved c_days c_likely c_outOf c_rateNow c_pence c_top c_bottom c_spot c_textLong c_fault c_number c_numberAt c_figures c_written c_wanted c_found c_worth c_hold c_way c_acts c_sDay c_sUps c_sUp c_sMarks c_paidAll c_isPlayed c_isOn c_handMoved c_handPaid c_regret c_aside c_other c_states c_kept c_keptLong c_keptAt c_isTaking x3 x4 c_moves c_drawnNow o3 o_c_moves o_c_drawnNow H locs ls hP hD hS hf hl hk
      rw [lpX9_drawn_31.eq_2] at hf
      refine lv_iload hx hb dX9_drawn_31 (lv_at hl 3 rfl) ?_
      refine lv_iload_n hx hb dX9_drawn_33 rfl (lv_at hl 1 rfl) ?_
      refine lv_icmp_ge (tgt := 86) hx hb dX9_drawn_34 (by decide) (fun k9 => ?_) (fun k9 => ?_)
      · replace hf := ifp k9 hf
        cases hf
        exact hk _ _ _ hP hD hS (lv_sub hl [0, 1, 2] rfl)
      · replace hf := ifn k9 hf
        refine lv_aload_n hx hb dX9_drawn_37 rfl (lv_at hl 0 rfl) ?_
        refine va_get (D := (dC, dI)) (ci := 9) (v := .ref (ad 4)) (C := RX9) (T := TX9) (N := 45) hx hb hts (fun w h => gw_mem (inX9 w h)) hown hK.1 hP 0 rfl rfl 4 (by decide) (hts _ (gw_mem wfX9_20)) (fun _ h9 => h9) rfl dX9_drawn_38 ?_
        refine lv_iload hx hb dX9_drawn_41 (lv_at hl 3 rfl) ?_
        refine lv_aload_n hx hb dX9_drawn_43 rfl (lv_at hl 0 rfl) ?_
        refine lv_aload_n hx hb dX9_drawn_44 rfl (lv_at hl 0 rfl) ?_
        refine va_get (D := (dC, dI)) (ci := 9) (v := .ref (ad 2)) (C := RX9) (T := TX9) (N := 45) hx hb hts (fun w h => gw_mem (inX9 w h)) hown hK.1 hP 0 rfl rfl 2 (by decide) (hts _ (gw_mem wfX9_13)) (fun _ h9 => h9) rfl dX9_drawn_45 ?_
        refine lv_bipush (v := 7) hx hb dX9_drawn_48 (by decide) ?_
        refine va_iald hx hb hK.1 hP 2 0 rfl rfl (okI_in (by decide)) dX9_drawn_50 ?_
        obtain ⟨r10, c_drawnNow_11, v12, hf⟩ := bd2_some hf
        refine gci (va_runV (As := [.int (c_tree (Int32.toNatClampNeg 7))]) (rest := [.int x4, .ref (ad 4)]) ⟨hx, hb, hml, hown, hts⟩ (tX9_draw l dC dI dA ad H.size v12) (ccX9_X9_draw hts ⟨Nat.le_of_ble_eq_true rfl, Nat.le_of_ble_eq_true rfl⟩) (gPreV (ci := 9) (q0 := 0) hP hK hD rfl rfl) rfl rfl hl.1 rfl (lv_room (Nat.le_of_ble_eq_true rfl)) dX9_drawn_51 ⟨Nat.le_of_ble_eq_true rfl, Nat.le_of_ble_eq_true rfl⟩) hD hS hA (fun H locs hP hD hS => ?_)
        refine lv_aload_n hx hb dX9_drawn_54 rfl (lv_at hl 0 rfl) ?_
        refine va_get (D := (dC, dI)) (ci := 9) (v := .ref (ad 2)) (C := RX9) (T := TX9) (N := 45) hx hb hts (fun w h => gw_mem (inX9 w h)) hown hK.1 hP 0 rfl rfl 2 (by decide) (hts _ (gw_mem wfX9_13)) (fun _ h9 => h9) rfl dX9_drawn_55 ?_
        refine lv_bipush (v := 6) hx hb dX9_drawn_58 (by decide) ?_
        refine va_iald hx hb hK.1 hP 2 0 rfl rfl (okI_in (by decide)) dX9_drawn_60 ?_
        refine lv_icmp_ge (tgt := 68) hx hb dX9_drawn_61 (by decide) (fun k13 => ?_) (fun k13 => ?_)
        · replace hf := ifp k13 hf
          refine lv_iconst (v := 0) hx hb dX9_drawn_68 (by decide) ?_
          obtain ⟨h14, hf⟩ := og_some hf
          obtain ⟨w15, ew15⟩ : ∃ y : Nat → Int32, y = upd c_moves (Int32.toNatClampNeg x4) 0 := ⟨_, rfl⟩
          replace hf := nm_at hf ew15
          refine va_iast hx hb hK.1 hP hD hS 4 0 rfl rfl (okI_in h14) dX9_drawn_69 (fun H locs hP hD hS => ?_)
          have hP : va_P (dC, dI) vwCl (mW dA ad c_tape c_taped c_tree c_bonds w15 c_handMoves c_moved c_days c_likely c_outOf c_rateNow c_pence c_top c_bottom c_spot c_textLong c_fault c_number c_numberAt c_figures c_written c_wanted c_found c_drawnNow_11 c_worth c_hold c_way c_acts c_sDay c_sUps c_sUp c_sMarks c_paidAll c_isPlayed c_isOn c_handMoved c_handPaid c_regret c_aside c_other c_states c_kept c_keptLong c_keptAt c_isTaking) H := by rw [ew15]; exact hP
          have hD : va_D A (mW dA ad c_tape c_taped c_tree c_bonds w15 c_handMoves c_moved c_days c_likely c_outOf c_rateNow c_pence c_top c_bottom c_spot c_textLong c_fault c_number c_numberAt c_figures c_written c_wanted c_found c_drawnNow_11 c_worth c_hold c_way c_acts c_sDay c_sUps c_sUp c_sMarks c_paidAll c_isPlayed c_isOn c_handMoved c_handPaid c_regret c_aside c_other c_states c_kept c_keptLong c_keptAt c_isTaking) := by rw [ew15]; exact hD
          refine lv_iload_n hx hb dX9_drawn_70 rfl (lv_at hl 2 rfl) ?_
          refine lv_aload_n hx hb dX9_drawn_71 rfl (lv_at hl 0 rfl) ?_
          refine va_get (D := (dC, dI)) (ci := 9) (v := .ref (ad 4)) (C := RX9) (T := TX9) (N := 45) hx hb hts (fun w h => gw_mem (inX9 w h)) hown hK.1 hP 0 rfl rfl 4 (by decide) (hts _ (gw_mem wfX9_20)) (fun _ h9 => h9) rfl dX9_drawn_72 ?_
          refine lv_iload hx hb dX9_drawn_75 (lv_at hl 3 rfl) ?_
          obtain ⟨h16, hf⟩ := og_some hf
          refine va_iald hx hb hK.1 hP 4 0 rfl rfl (okI_in h16) dX9_drawn_77 ?_
          refine lv_iadd hx hb dX9_drawn_78 ?_
          refine lv_topi (fun w17 ew17 => ?_)
          replace hf := nm_at hf ew17
          refine lv_istore_n (lv' := [(3, .int w17), (0, .ref (ad 0)), (2, .int x2), (4, .int x4)]) hx hb dX9_drawn_79 rfl hl (by decide) rfl (fun ls hl => ?_)
          obtain ⟨w18, ew18⟩ : ∃ y : Int32, y = x4 + 1 := ⟨_, rfl⟩
          replace hf := nm_at hf ew18
          refine lv_iinc (v := w18) (lv' := [(4, .int w18), (3, .int w17), (0, .ref (ad 0)), (2, .int x2)]) hx hb dX9_drawn_80 hl (k := 3) rfl (by rw [ew18]; rfl) (by decide) rfl (fun ls hl => ?_)
          refine lv_goto (tgt := 31) hx hb dX9_drawn_83 (by decide) ?_
          exact ih31 _ _ _ _ _ _ _ _ _ _ _ _ _ _ _ _ _ _ _ _ _ _ _ _ _ _ _ _ _ _ _ _ _ _ _ _ _ _ _ _ _ _ _ _ _ _ _ _ _ _ _ _ _ _ hP hD hS hf (lv_sub hl [2, 3, 1, 0] rfl) hk
        · replace hf := ifn k13 hf
          refine lv_iconst (v := 1) hx hb dX9_drawn_64 (by decide) ?_
          refine lv_goto (tgt := 69) hx hb dX9_drawn_65 (by decide) ?_
          obtain ⟨h19, hf⟩ := og_some hf
          obtain ⟨w20, ew20⟩ : ∃ y : Nat → Int32, y = upd c_moves (Int32.toNatClampNeg x4) 1 := ⟨_, rfl⟩
          replace hf := nm_at hf ew20
          refine va_iast hx hb hK.1 hP hD hS 4 0 rfl rfl (okI_in h19) dX9_drawn_69 (fun H locs hP hD hS => ?_)
          have hP : va_P (dC, dI) vwCl (mW dA ad c_tape c_taped c_tree c_bonds w20 c_handMoves c_moved c_days c_likely c_outOf c_rateNow c_pence c_top c_bottom c_spot c_textLong c_fault c_number c_numberAt c_figures c_written c_wanted c_found c_drawnNow_11 c_worth c_hold c_way c_acts c_sDay c_sUps c_sUp c_sMarks c_paidAll c_isPlayed c_isOn c_handMoved c_handPaid c_regret c_aside c_other c_states c_kept c_keptLong c_keptAt c_isTaking) H := by rw [ew20]; exact hP
          have hD : va_D A (mW dA ad c_tape c_taped c_tree c_bonds w20 c_handMoves c_moved c_days c_likely c_outOf c_rateNow c_pence c_top c_bottom c_spot c_textLong c_fault c_number c_numberAt c_figures c_written c_wanted c_found c_drawnNow_11 c_worth c_hold c_way c_acts c_sDay c_sUps c_sUp c_sMarks c_paidAll c_isPlayed c_isOn c_handMoved c_handPaid c_regret c_aside c_other c_states c_kept c_keptLong c_keptAt c_isTaking) := by rw [ew20]; exact hD
          refine lv_iload_n hx hb dX9_drawn_70 rfl (lv_at hl 2 rfl) ?_
          refine lv_aload_n hx hb dX9_drawn_71 rfl (lv_at hl 0 rfl) ?_
          refine va_get (D := (dC, dI)) (ci := 9) (v := .ref (ad 4)) (C := RX9) (T := TX9) (N := 45) hx hb hts (fun w h => gw_mem (inX9 w h)) hown hK.1 hP 0 rfl rfl 4 (by decide) (hts _ (gw_mem wfX9_20)) (fun _ h9 => h9) rfl dX9_drawn_72 ?_
          refine lv_iload hx hb dX9_drawn_75 (lv_at hl 3 rfl) ?_
          obtain ⟨h21, hf⟩ := og_some hf
          refine va_iald hx hb hK.1 hP 4 0 rfl rfl (okI_in h21) dX9_drawn_77 ?_
          refine lv_iadd hx hb dX9_drawn_78 ?_
          refine lv_topi (fun w22 ew22 => ?_)
          replace hf := nm_at hf ew22
          refine lv_istore_n (lv' := [(3, .int w22), (0, .ref (ad 0)), (2, .int x2), (4, .int x4)]) hx hb dX9_drawn_79 rfl hl (by decide) rfl (fun ls hl => ?_)
          obtain ⟨w23, ew23⟩ : ∃ y : Int32, y = x4 + 1 := ⟨_, rfl⟩
          replace hf := nm_at hf ew23
          refine lv_iinc (v := w23) (lv' := [(4, .int w23), (3, .int w22), (0, .ref (ad 0)), (2, .int x2)]) hx hb dX9_drawn_80 hl (k := 3) rfl (by rw [ew23]; rfl) (by decide) rfl (fun ls hl => ?_)
          refine lv_goto (tgt := 31) hx hb dX9_drawn_83 (by decide) ?_
          exact ih31 _ _ _ _ _ _ _ _ _ _ _ _ _ _ _ _ _ _ _ _ _ _ _ _ _ _ _ _ _ _ _ _ _ _ _ _ _ _ _ _ _ _ _ _ _ _ _ _ _ _ _ _ _ _ hP hD hS hf (lv_sub hl [2, 3, 1, 0] rfl) hk
  subst hQ
  unfold fX9_drawn at hf
  refine lv_iload_n hx hb dX9_drawn_0 rfl (lv_at hl 2 rfl) ?_
  refine lv_i2l hx hb dX9_drawn_1 rfl ?_
  refine lv_lconst (v := 0) hx hb dX9_drawn_2 rfl ?_
  refine lv_aload_n hx hb dX9_drawn_3 rfl (lv_at hl 0 rfl) ?_
  refine va_get (D := (dC, dI)) (ci := 9) (v := .ref (ad 2)) (C := RX9) (T := TX9) (N := 45) hx hb hts (fun w h => gw_mem (inX9 w h)) hown hK.1 hP 0 rfl rfl 2 (by decide) (hts _ (gw_mem wfX9_13)) (fun _ h9 => h9) rfl dX9_drawn_4 ?_
  refine lv_iconst (v := 0) hx hb dX9_drawn_7 (by decide) ?_
  refine va_iald hx hb hK.1 hP 2 0 rfl rfl (okI_in (by decide)) dX9_drawn_8 ?_
  refine lv_i2l hx hb dX9_drawn_9 rfl ?_
  obtain ⟨r1, v2, hf⟩ := bd1_some hf
  refine gci0 (va_runS (As := [.long (Int32.toInt64 p2), .long 0, .long (Int32.toInt64 (c_tree (Int32.toNatClampNeg 0)))]) (rest := []) ⟨hx, hb, hml, hown, hts⟩ (tX9_in l dC dI dA s.heap.size v2) (ccX9_X9_in hts ⟨Nat.le_of_ble_eq_true rfl, Nat.le_of_ble_eq_true rfl⟩) (gPreS0 hK) rfl rfl hl.1 rfl (lv_room (Nat.le_of_ble_eq_true rfl)) dX9_drawn_10 ⟨Nat.le_of_ble_eq_true rfl, Nat.le_of_ble_eq_true rfl⟩) hP hS hA (fun H locs hP hS => ?_)
  refine lv_if_ne (tgt := 18) hx hb dX9_drawn_13 (by decide) (fun k3 => ?_) (fun k3 => ?_)
  · replace hf := ifn k3 hf
    refine lv_aload_n hx hb dX9_drawn_18 rfl (lv_at hl 0 rfl) ?_
    refine lv_iload_n hx hb dX9_drawn_19 rfl (lv_at hl 1 rfl) ?_
    refine lv_ldc (v := 65535) hx hb hown (hts _ (gw_mem wkX9_245)) dX9_drawn_20 ?_
    refine lv_iand hx hb dX9_drawn_22 ?_
    refine lv_topi (fun w4 ew4 => ?_)
    replace hf := nm_at hf ew4
    refine va_put (D := (dC, dI)) (ci := 9) (v := .int w4) (ty := .int) (C := RX9) (T := TX9) (N := 45) hx hb hts (fun w h => gw_mem (inX9 w h)) tyX9 tyX9_ok nmX9 hown hK.1 hP hD hS 0 rfl rfl 23 (by decide) (hts _ (gw_mem wfX9_241)) (fun _ h9 => h9) rfl (by decide +kernel) rfl rfl (Nat.le_of_ble_eq_true rfl) dX9_drawn_23 (fun H locs hP hD hS => ?_)
    have hP : va_P (dC, dI) vwCl (mW dA ad c_tape c_taped c_tree c_bonds c_moves c_handMoves c_moved c_days c_likely c_outOf c_rateNow c_pence c_top c_bottom c_spot c_textLong c_fault c_number c_numberAt c_figures c_written c_wanted c_found w4 c_worth c_hold c_way c_acts c_sDay c_sUps c_sUp c_sMarks c_paidAll c_isPlayed c_isOn c_handMoved c_handPaid c_regret c_aside c_other c_states c_kept c_keptLong c_keptAt c_isTaking) H := hP
    have hD : va_D A (mW dA ad c_tape c_taped c_tree c_bonds c_moves c_handMoves c_moved c_days c_likely c_outOf c_rateNow c_pence c_top c_bottom c_spot c_textLong c_fault c_number c_numberAt c_figures c_written c_wanted c_found w4 c_worth c_hold c_way c_acts c_sDay c_sUps c_sUp c_sMarks c_paidAll c_isPlayed c_isOn c_handMoved c_handPaid c_regret c_aside c_other c_states c_kept c_keptLong c_keptAt c_isTaking) := hD
    refine lv_iconst (v := 0) hx hb dX9_drawn_26 (by decide) ?_
    refine lv_istore_n (lv' := [(3, .int 0), (0, .ref (ad 0)), (1, .int p1), (2, .int p2)]) hx hb dX9_drawn_27 rfl hl (by decide) rfl (fun ls hl => ?_)
    refine lv_iconst (v := 0) hx hb dX9_drawn_28 (by decide) ?_
    refine lv_istore (lv' := [(4, .int 0), (3, .int 0), (0, .ref (ad 0)), (1, .int p1), (2, .int p2)]) hx hb dX9_drawn_29 hl (by decide) rfl (fun ls hl => ?_)
    obtain ⟨x5, c_moves_6, c_drawnNow_7, v8, hf⟩ := bd3_some hf
    refine LP31 FU _ _ _ _ _ _ _ _ _ _ _ _ _ _ _ _ _ _ _ _ _ _ _ _ _ _ _ _ _ _ _ _ _ _ _ _ _ _ _ _ _ _ _ _ _ _ _ _ _ _ _ _ _ _ hP hD hS v8 (lv_sub hl [2, 4, 1, 0] rfl) (fun H locs ls hP hD hS hl => ?_)
    refine lv_aload_n hx hb dX9_drawn_86 rfl (lv_at hl 0 rfl) ?_
    refine lv_iload_n hx hb dX9_drawn_87 rfl (lv_at hl 1 rfl) ?_
    refine va_put (D := (dC, dI)) (ci := 9) (v := .int p2) (ty := .int) (C := RX9) (T := TX9) (N := 45) hx hb hts (fun w h => gw_mem (inX9 w h)) tyX9 tyX9_ok nmX9 hown hK.1 hP hD hS 0 rfl rfl 6 (by decide) (hts _ (gw_mem wfX9_76)) (fun _ h9 => h9) rfl (by decide +kernel) rfl rfl (Nat.le_of_ble_eq_true rfl) dX9_drawn_88 (fun H locs hP hD hS => ?_)
    have hP : va_P (dC, dI) vwCl (mW dA ad c_tape c_taped c_tree c_bonds c_moves_6 c_handMoves p2 c_days c_likely c_outOf c_rateNow c_pence c_top c_bottom c_spot c_textLong c_fault c_number c_numberAt c_figures c_written c_wanted c_found c_drawnNow_7 c_worth c_hold c_way c_acts c_sDay c_sUps c_sUp c_sMarks c_paidAll c_isPlayed c_isOn c_handMoved c_handPaid c_regret c_aside c_other c_states c_kept c_keptLong c_keptAt c_isTaking) H := hP
    have hD : va_D A (mW dA ad c_tape c_taped c_tree c_bonds c_moves_6 c_handMoves p2 c_days c_likely c_outOf c_rateNow c_pence c_top c_bottom c_spot c_textLong c_fault c_number c_numberAt c_figures c_written c_wanted c_found c_drawnNow_7 c_worth c_hold c_way c_acts c_sDay c_sUps c_sUp c_sMarks c_paidAll c_isPlayed c_isOn c_handMoved c_handPaid c_regret c_aside c_other c_states c_kept c_keptLong c_keptAt c_isTaking) := hD
    refine lv_iload_n hx hb dX9_drawn_91 rfl (lv_at hl 2 rfl) ?_
    cases hf
    exact W.iret hx hb hr (fun t ht _ => gqi hP hD hS ht) hS.2.2 dX9_drawn_92
  · replace hf := ifp k3 hf
    refine lv_iconst (v := (-1)) hx hb dX9_drawn_16 (by decide) ?_
    cases hf
    exact W.iret hx hb hr (fun t ht _ => gqi hP hD hS ht) hS.2.2 dX9_drawn_17
def lpX9_ups_4 (c_moves : Nat → Int32) (c_moved : Int32) : Nat → Int32 → Int32 → Option (Int32)
  | 0, _, _ => none
  | n + 1, x1, x2 => if c_moved ≤ x2 then some (x1) else og (okI x2 6) (nm (x1 + (c_moves (Int32.toNatClampNeg x2))) (fun w5 => nm (x2 + 1) (fun w6 => lpX9_ups_4 c_moves c_moved n w5 w6)))
def fX9_ups (c_moves : Nat → Int32) (c_moved : Int32) : Option (Int32) := bd1 (lpX9_ups_4 c_moves c_moved FU 0 0) (fun x1 => some (x1))
abbrev rmX9_ups : Room := { frames := 0, cells := 0, slots := 0, locals := 0 }
set_option maxHeartbeats 4000000 in
set_option maxRecDepth 100000 in
theorem tX9_ups (l : Launch) (dC : Nat → ClassId) (dI : Nat → Nat → Nat) (dA : Nat → ClassId) (ad : Nat → Nat) (sz : Nat) {c_tape : Nat → Int32} {c_taped : Int32} {c_tree : Nat → Int32} {c_bonds : Nat → Int32} {c_moves : Nat → Int32} {c_handMoves : Nat → Int32} {c_moved : Int32} {c_days : Int32} {c_likely : Int32} {c_outOf : Int32} {c_rateNow : Int32} {c_pence : Nat → Int64} {c_top : Int64} {c_bottom : Int64} {c_spot : Int32} {c_textLong : Int32} {c_fault : Int32} {c_number : Int32} {c_numberAt : Int32} {c_figures : Int32} {c_written : Int32} {c_wanted : Int32} {c_found : Int32} {c_drawnNow : Int32} {c_worth : Nat → Int64} {c_hold : Nat → Int64} {c_way : Nat → Int64} {c_acts : Nat → Int32} {c_sDay : Int32} {c_sUps : Int32} {c_sUp : Int32} {c_sMarks : Int32} {c_paidAll : Int64} {c_isPlayed : Int32} {c_isOn : Int32} {c_handMoved : Int32} {c_handPaid : Int64} {c_regret : Int64} {c_aside : Nat → Int32} {c_other : Nat → Int64} {c_states : Int32} {c_kept : Nat → Int32} {c_keptLong : Nat → Int64} {c_keptAt : Int32} {c_isTaking : Int32} {r : Int32} (hf : fX9_ups c_moves c_moved = some (r)) : Met l yX9_ups (wq (Cond.code yX9_ups cX9_ups 3 (some .int))) rmX9_ups (gP [.ref (ad 0)] (dC, dI) dA (mW dA ad c_tape c_taped c_tree c_bonds c_moves c_handMoves c_moved c_days c_likely c_outOf c_rateNow c_pence c_top c_bottom c_spot c_textLong c_fault c_number c_numberAt c_figures c_written c_wanted c_found c_drawnNow c_worth c_hold c_way c_acts c_sDay c_sUps c_sUp c_sMarks c_paidAll c_isPlayed c_isOn c_handMoved c_handPaid c_regret c_aside c_other c_states c_kept c_keptLong c_keptAt c_isTaking) sz) (gQi (dC, dI) r (mW dA ad c_tape c_taped c_tree c_bonds c_moves c_handMoves c_moved c_days c_likely c_outOf c_rateNow c_pence c_top c_bottom c_spot c_textLong c_fault c_number c_numberAt c_figures c_written c_wanted c_found c_drawnNow c_worth c_hold c_way c_acts c_sDay c_sUps c_sUp c_sMarks c_paidAll c_isPlayed c_isOn c_handMoved c_handPaid c_regret c_aside c_other c_states c_kept c_keptLong c_keptAt c_isTaking) (va_A (mW dA ad c_tape c_taped c_tree c_bonds c_moves c_handMoves c_moved c_days c_likely c_outOf c_rateNow c_pence c_top c_bottom c_spot c_textLong c_fault c_number c_numberAt c_figures c_written c_wanted c_found c_drawnNow c_worth c_hold c_way c_acts c_sDay c_sUps c_sUp c_sMarks c_paidAll c_isPlayed c_isOn c_handMoved c_handPaid c_regret c_aside c_other c_states c_kept c_keptLong c_keptAt c_isTaking) sz)) 0 0 (va_A (mW dA ad c_tape c_taped c_tree c_bonds c_moves c_handMoves c_moved c_days c_likely c_outOf c_rateNow c_pence c_top c_bottom c_spot c_textLong c_fault c_number c_numberAt c_figures c_written c_wanted c_found c_drawnNow c_worth c_hold c_way c_acts c_sDay c_sUps c_sUp c_sMarks c_paidAll c_isPlayed c_isOn c_handMoved c_handPaid c_regret c_aside c_other c_states c_kept c_keptLong c_keptAt c_isTaking) sz) := by
  refine Met.ofW (cc := cX9_ups) (maxL := 3) (ret := (some .int)) (by decide) rfl ?_
  intro p e s m args below meth c s₁ B hml hv
  obtain ⟨rfl, hsz, hP, hK, hD0⟩ := hv
  have hx := B.exec
  have hb := B.bytes
  have hr := B.returns
  have hts := atoms_spec (ws := wq (Cond.code yX9_ups cX9_ups 3 (some .int))) B.pre
  have hown : s.vm.findClass RX9 = some m.cls := findClass_of_methodNamed B.named
  have hlocks := B.notSynchronized
  clear B
  subst hsz
  have hD := hD0.self (sz := s.heap.size)
  generalize hAe : va_A (mW dA ad c_tape c_taped c_tree c_bonds c_moves c_handMoves c_moved c_days c_likely c_outOf c_rateNow c_pence c_top c_bottom c_spot c_textLong c_fault c_number c_numberAt c_figures c_written c_wanted c_found c_drawnNow c_worth c_hold c_way c_acts c_sDay c_sUps c_sUp c_sMarks c_paidAll c_isPlayed c_isOn c_handMoved c_handPaid c_regret c_aside c_other c_states c_kept c_keptLong c_keptAt c_isTaking) s.heap.size = A at hD ⊢
  have hA : ∀ q : Nat, s.heap.size ≤ q → A q := fun q h => by rw [← hAe]; exact Or.inr h
  clear hAe hD0
  have hS : va_S A s.heap s.heap [] := va_S.rf
  have hl := lv_entry ([.ref (ad 0)]) (n := 3) (Nat.le_of_ble_eq_true rfl)
  rw [lg_entry_eq]
  generalize (lg_sl ([.ref (ad 0)]) ++ List.replicate (3 - (lg_sl ([.ref (ad 0)])).length) Slot.unset).toArray = ls at hl ⊢
  have hl : lv_has ls 3 [(0, .ref (ad 0))] := hl
  change W p l e rmX9_ups s m ([.ref (ad 0)] : List Value).toArray below meth c s.heap [] 0 0 _ _
  generalize hQ : MQ below (gQi (dC, dI) r (mW dA ad c_tape c_taped c_tree c_bonds c_moves c_handMoves c_moved c_days c_likely c_outOf c_rateNow c_pence c_top c_bottom c_spot c_textLong c_fault c_number c_numberAt c_figures c_written c_wanted c_found c_drawnNow c_worth c_hold c_way c_acts c_sDay c_sUps c_sUp c_sMarks c_paidAll c_isPlayed c_isOn c_handMoved c_handPaid c_regret c_aside c_other c_states c_kept c_keptLong c_keptAt c_isTaking) A) ([.ref (ad 0)] : List Value).toArray s 0 0 A = Q
  have LP4 : ∀ (n : Nat) (c_moves : Nat → Int32) (c_moved : Int32) (c_tape : Nat → Int32) (c_taped : Int32) (c_tree : Nat → Int32) (c_bonds : Nat → Int32) (c_handMoves : Nat → Int32) (c_days : Int32) (c_likely : Int32) (c_outOf : Int32) (c_rateNow : Int32) (c_pence : Nat → Int64) (c_top : Int64) (c_bottom : Int64) (c_spot : Int32) (c_textLong : Int32) (c_fault : Int32) (c_number : Int32) (c_numberAt : Int32) (c_figures : Int32) (c_written : Int32) (c_wanted : Int32) (c_found : Int32) (c_drawnNow : Int32) (c_worth : Nat → Int64) (c_hold : Nat → Int64) (c_way : Nat → Int64) (c_acts : Nat → Int32) (c_sDay : Int32) (c_sUps : Int32) (c_sUp : Int32) (c_sMarks : Int32) (c_paidAll : Int64) (c_isPlayed : Int32) (c_isOn : Int32) (c_handMoved : Int32) (c_handPaid : Int64) (c_regret : Int64) (c_aside : Nat → Int32) (c_other : Nat → Int64) (c_states : Int32) (c_kept : Nat → Int32) (c_keptLong : Nat → Int64) (c_keptAt : Int32) (c_isTaking : Int32) (x1 : Int32) (x2 : Int32) (o1 : Int32) (H : Heap) (locs : List Loc) (ls : Array Slot), va_P (dC, dI) vwCl (mW dA ad c_tape c_taped c_tree c_bonds c_moves c_handMoves c_moved c_days c_likely c_outOf c_rateNow c_pence c_top c_bottom c_spot c_textLong c_fault c_number c_numberAt c_figures c_written c_wanted c_found c_drawnNow c_worth c_hold c_way c_acts c_sDay c_sUps c_sUp c_sMarks c_paidAll c_isPlayed c_isOn c_handMoved c_handPaid c_regret c_aside c_other c_states c_kept c_keptLong c_keptAt c_isTaking) H → va_D A (mW dA ad c_tape c_taped c_tree c_bonds c_moves c_handMoves c_moved c_days c_likely c_outOf c_rateNow c_pence c_top c_bottom c_spot c_textLong c_fault c_number c_numberAt c_figures c_written c_wanted c_found c_drawnNow c_worth c_hold c_way c_acts c_sDay c_sUps c_sUp c_sMarks c_paidAll c_isPlayed c_isOn c_handMoved c_handPaid c_regret c_aside c_other c_states c_kept c_keptLong c_keptAt c_isTaking) → va_S A s.heap H locs → lpX9_ups_4 c_moves c_moved n x1 x2 = some (o1) → lv_has ls 3 [(0, .ref (ad 0)), (1, .int x1), (2, .int x2)] → (∀ (H : Heap) (locs : List Loc) (ls : Array Slot), va_P (dC, dI) vwCl (mW dA ad c_tape c_taped c_tree c_bonds c_moves c_handMoves c_moved c_days c_likely c_outOf c_rateNow c_pence c_top c_bottom c_spot c_textLong c_fault c_number c_numberAt c_figures c_written c_wanted c_found c_drawnNow c_worth c_hold c_way c_acts c_sDay c_sUps c_sUp c_sMarks c_paidAll c_isPlayed c_isOn c_handMoved c_handPaid c_regret c_aside c_other c_states c_kept c_keptLong c_keptAt c_isTaking) H → va_D A (mW dA ad c_tape c_taped c_tree c_bonds c_moves c_handMoves c_moved c_days c_likely c_outOf c_rateNow c_pence c_top c_bottom c_spot c_textLong c_fault c_number c_numberAt c_figures c_written c_wanted c_found c_drawnNow c_worth c_hold c_way c_acts c_sDay c_sUps c_sUp c_sMarks c_paidAll c_isPlayed c_isOn c_handMoved c_handPaid c_regret c_aside c_other c_states c_kept c_keptLong c_keptAt c_isTaking) → va_S A s.heap H locs → lv_has ls 3 [(1, .int o1)] → W p l e rmX9_ups s m ([.ref (ad 0)] : List Value).toArray below meth c H locs 0 0 Q (F0 m 27 ls [])) → W p l e rmX9_ups s m ([.ref (ad 0)] : List Value).toArray below meth c H locs 0 0 Q (F0 m 4 ls []) := by
    intro n
    induction n with
    | zero =>
      intro c_moves c_moved c_tape c_taped c_tree c_bonds c_handMoves c_days c_likely c_outOf c_rateNow c_pence c_top c_bottom c_spot c_textLong c_fault c_number c_numberAt c_figures c_written c_wanted c_found c_drawnNow c_worth c_hold c_way c_acts c_sDay c_sUps c_sUp c_sMarks c_paidAll c_isPlayed c_isOn c_handMoved c_handPaid c_regret c_aside c_other c_states c_kept c_keptLong c_keptAt c_isTaking x1 x2 o1 H locs ls hP hD hS hf hl hk
      cases hf
    | succ n ih4 =>
      intro c_moves c_moved c_tape c_taped c_tree c_bonds c_handMoves c_days c_likely c_outOf c_rateNow c_pence c_top c_bottom c_spot c_textLong c_fault c_number c_numberAt c_figures c_written c_wanted c_found c_drawnNow c_worth c_hold c_way c_acts c_sDay c_sUps c_sUp c_sMarks c_paidAll c_isPlayed c_isOn c_handMoved c_handPaid c_regret c_aside c_other c_states c_kept c_keptLong c_keptAt c_isTaking x1 x2 o1 H locs ls hP hD hS hf hl hk
      rw [lpX9_ups_4.eq_2] at hf
      refine lv_iload_n hx hb dX9_ups_4 rfl (lv_at hl 2 rfl) ?_
      refine lv_aload_n hx hb dX9_ups_5 rfl (lv_at hl 0 rfl) ?_
      refine va_get (D := (dC, dI)) (ci := 9) (v := .int c_moved) (C := RX9) (T := TX9) (N := 45) hx hb hts (fun w h => gw_mem (inX9 w h)) hown hK.1 hP 0 rfl rfl 6 (by decide) (hts _ (gw_mem wfX9_76)) (fun _ h9 => h9) rfl dX9_ups_6 ?_
      refine lv_icmp_ge (tgt := 27) hx hb dX9_ups_9 (by decide) (fun k3 => ?_) (fun k3 => ?_)
      · replace hf := ifp k3 hf
        cases hf
        exact hk _ _ _ hP hD hS (lv_sub hl [1] rfl)
      · replace hf := ifn k3 hf
        refine lv_iload_n hx hb dX9_ups_12 rfl (lv_at hl 1 rfl) ?_
        refine lv_aload_n hx hb dX9_ups_13 rfl (lv_at hl 0 rfl) ?_
        refine va_get (D := (dC, dI)) (ci := 9) (v := .ref (ad 4)) (C := RX9) (T := TX9) (N := 45) hx hb hts (fun w h => gw_mem (inX9 w h)) hown hK.1 hP 0 rfl rfl 4 (by decide) (hts _ (gw_mem wfX9_20)) (fun _ h9 => h9) rfl dX9_ups_14 ?_
        refine lv_iload_n hx hb dX9_ups_17 rfl (lv_at hl 2 rfl) ?_
        obtain ⟨h4, hf⟩ := og_some hf
        refine va_iald hx hb hK.1 hP 4 0 rfl rfl (okI_in h4) dX9_ups_18 ?_
        refine lv_iadd hx hb dX9_ups_19 ?_
        refine lv_topi (fun w5 ew5 => ?_)
        replace hf := nm_at hf ew5
        refine lv_istore_n (lv' := [(1, .int w5), (0, .ref (ad 0)), (2, .int x2)]) hx hb dX9_ups_20 rfl hl (by decide) rfl (fun ls hl => ?_)
        obtain ⟨w6, ew6⟩ : ∃ y : Int32, y = x2 + 1 := ⟨_, rfl⟩
        replace hf := nm_at hf ew6
        refine lv_iinc (v := w6) (lv' := [(2, .int w6), (1, .int w5), (0, .ref (ad 0))]) hx hb dX9_ups_21 hl (k := 2) rfl (by rw [ew6]; rfl) (by decide) rfl (fun ls hl => ?_)
        refine lv_goto (tgt := 4) hx hb dX9_ups_24 (by decide) ?_
        exact ih4 _ _ _ _ _ _ _ _ _ _ _ _ _ _ _ _ _ _ _ _ _ _ _ _ _ _ _ _ _ _ _ _ _ _ _ _ _ _ _ _ _ _ _ _ _ _ _ _ _ _ _ hP hD hS hf (lv_sub hl [2, 1, 0] rfl) hk
  subst hQ
  unfold fX9_ups at hf
  refine lv_iconst (v := 0) hx hb dX9_ups_0 (by decide) ?_
  refine lv_istore_n (lv' := [(1, .int 0), (0, .ref (ad 0))]) hx hb dX9_ups_1 rfl hl (by decide) rfl (fun ls hl => ?_)
  refine lv_iconst (v := 0) hx hb dX9_ups_2 (by decide) ?_
  refine lv_istore_n (lv' := [(2, .int 0), (1, .int 0), (0, .ref (ad 0))]) hx hb dX9_ups_3 rfl hl (by decide) rfl (fun ls hl => ?_)
  obtain ⟨x1, v2, hf⟩ := bd1_some hf
  refine LP4 FU _ _ _ _ _ _ _ _ _ _ _ _ _ _ _ _ _ _ _ _ _ _ _ _ _ _ _ _ _ _ _ _ _ _ _ _ _ _ _ _ _ _ _ _ _ _ _ _ _ _ _ hP hD hS v2 (lv_sub hl [2, 1, 0] rfl) (fun H locs ls hP hD hS hl => ?_)
  refine lv_iload_n hx hb dX9_ups_27 rfl (lv_at hl 0 rfl) ?_
  cases hf
  exact W.iret hx hb hr (fun t ht _ => gqi hP hD hS ht) hS.2.2 dX9_ups_28
theorem ccX9_X9_ups {R : Room} {s : State} {args : Array Value} {c0 : Cond} (ht : ∀ w ∈ wq c0, w.before args s = true) (hR : rmX9_ups.frames + 1 ≤ R.frames ∧ 8 + (3 + 11) + rmX9_ups.locals ≤ R.locals) : CallW R s args RX9 RX9 249 yX9_ups cX9_ups 3 (some .int) (wq (.code yX9_ups cX9_ups 3 (some .int))) rmX9_ups 0 0 0 := gCW 0 ht wcX9_ups wmX9_249 wiX9_ups weX9_ups wnX9 (by decide +kernel) rfl rfl hR
def fX9_went (p1 : Int32) (c_moves : Nat → Int32) (c_moved : Int32) : Option (Int32) := if p1 = 0 then some (c_moved) else if p1 = 1 then bd1 (fX9_ups c_moves c_moved) (fun r7 => some (r7)) else bd1 (fX9_in (Int32.toInt64 p1) 10 (Int32.toInt64 (9 + c_moved))) (fun r3 => if r3 = 0 then some ((-1)) else og (okI (p1 - 10) 6) (some (c_moves (Int32.toNatClampNeg (p1 - 10)))))
abbrev rmX9_went : Room := { frames := 1, cells := 0, slots := 0, locals := 25 }
set_option maxHeartbeats 4000000 in
set_option maxRecDepth 100000 in
theorem tX9_went (l : Launch) (dC : Nat → ClassId) (dI : Nat → Nat → Nat) (dA : Nat → ClassId) (ad : Nat → Nat) (sz : Nat) {p1 : Int32} {c_tape : Nat → Int32} {c_taped : Int32} {c_tree : Nat → Int32} {c_bonds : Nat → Int32} {c_moves : Nat → Int32} {c_handMoves : Nat → Int32} {c_moved : Int32} {c_days : Int32} {c_likely : Int32} {c_outOf : Int32} {c_rateNow : Int32} {c_pence : Nat → Int64} {c_top : Int64} {c_bottom : Int64} {c_spot : Int32} {c_textLong : Int32} {c_fault : Int32} {c_number : Int32} {c_numberAt : Int32} {c_figures : Int32} {c_written : Int32} {c_wanted : Int32} {c_found : Int32} {c_drawnNow : Int32} {c_worth : Nat → Int64} {c_hold : Nat → Int64} {c_way : Nat → Int64} {c_acts : Nat → Int32} {c_sDay : Int32} {c_sUps : Int32} {c_sUp : Int32} {c_sMarks : Int32} {c_paidAll : Int64} {c_isPlayed : Int32} {c_isOn : Int32} {c_handMoved : Int32} {c_handPaid : Int64} {c_regret : Int64} {c_aside : Nat → Int32} {c_other : Nat → Int64} {c_states : Int32} {c_kept : Nat → Int32} {c_keptLong : Nat → Int64} {c_keptAt : Int32} {c_isTaking : Int32} {r : Int32} (hf : fX9_went p1 c_moves c_moved = some (r)) : Met l yX9_went (wq (Cond.code yX9_went cX9_went 2 (some .int))) rmX9_went (gP [.ref (ad 0), .int p1] (dC, dI) dA (mW dA ad c_tape c_taped c_tree c_bonds c_moves c_handMoves c_moved c_days c_likely c_outOf c_rateNow c_pence c_top c_bottom c_spot c_textLong c_fault c_number c_numberAt c_figures c_written c_wanted c_found c_drawnNow c_worth c_hold c_way c_acts c_sDay c_sUps c_sUp c_sMarks c_paidAll c_isPlayed c_isOn c_handMoved c_handPaid c_regret c_aside c_other c_states c_kept c_keptLong c_keptAt c_isTaking) sz) (gQi (dC, dI) r (mW dA ad c_tape c_taped c_tree c_bonds c_moves c_handMoves c_moved c_days c_likely c_outOf c_rateNow c_pence c_top c_bottom c_spot c_textLong c_fault c_number c_numberAt c_figures c_written c_wanted c_found c_drawnNow c_worth c_hold c_way c_acts c_sDay c_sUps c_sUp c_sMarks c_paidAll c_isPlayed c_isOn c_handMoved c_handPaid c_regret c_aside c_other c_states c_kept c_keptLong c_keptAt c_isTaking) (va_A (mW dA ad c_tape c_taped c_tree c_bonds c_moves c_handMoves c_moved c_days c_likely c_outOf c_rateNow c_pence c_top c_bottom c_spot c_textLong c_fault c_number c_numberAt c_figures c_written c_wanted c_found c_drawnNow c_worth c_hold c_way c_acts c_sDay c_sUps c_sUp c_sMarks c_paidAll c_isPlayed c_isOn c_handMoved c_handPaid c_regret c_aside c_other c_states c_kept c_keptLong c_keptAt c_isTaking) sz)) 0 0 (va_A (mW dA ad c_tape c_taped c_tree c_bonds c_moves c_handMoves c_moved c_days c_likely c_outOf c_rateNow c_pence c_top c_bottom c_spot c_textLong c_fault c_number c_numberAt c_figures c_written c_wanted c_found c_drawnNow c_worth c_hold c_way c_acts c_sDay c_sUps c_sUp c_sMarks c_paidAll c_isPlayed c_isOn c_handMoved c_handPaid c_regret c_aside c_other c_states c_kept c_keptLong c_keptAt c_isTaking) sz) := by
  refine Met.ofW (cc := cX9_went) (maxL := 2) (ret := (some .int)) (by decide) rfl ?_
  intro p e s m args below meth c s₁ B hml hv
  obtain ⟨rfl, hsz, hP, hK, hD0⟩ := hv
  have hx := B.exec
  have hb := B.bytes
  have hr := B.returns
  have hts := atoms_spec (ws := wq (Cond.code yX9_went cX9_went 2 (some .int))) B.pre
  have hown : s.vm.findClass RX9 = some m.cls := findClass_of_methodNamed B.named
  have hlocks := B.notSynchronized
  clear B
  subst hsz
  have hD := hD0.self (sz := s.heap.size)
  generalize hAe : va_A (mW dA ad c_tape c_taped c_tree c_bonds c_moves c_handMoves c_moved c_days c_likely c_outOf c_rateNow c_pence c_top c_bottom c_spot c_textLong c_fault c_number c_numberAt c_figures c_written c_wanted c_found c_drawnNow c_worth c_hold c_way c_acts c_sDay c_sUps c_sUp c_sMarks c_paidAll c_isPlayed c_isOn c_handMoved c_handPaid c_regret c_aside c_other c_states c_kept c_keptLong c_keptAt c_isTaking) s.heap.size = A at hD ⊢
  have hA : ∀ q : Nat, s.heap.size ≤ q → A q := fun q h => by rw [← hAe]; exact Or.inr h
  clear hAe hD0
  have hS : va_S A s.heap s.heap [] := va_S.rf
  have hl := lv_entry ([.ref (ad 0), .int p1]) (n := 2) (Nat.le_of_ble_eq_true rfl)
  rw [lg_entry_eq]
  generalize (lg_sl ([.ref (ad 0), .int p1]) ++ List.replicate (2 - (lg_sl ([.ref (ad 0), .int p1])).length) Slot.unset).toArray = ls at hl ⊢
  have hl : lv_has ls 2 [(0, .ref (ad 0)), (1, .int p1)] := hl
  change W p l e rmX9_went s m ([.ref (ad 0), .int p1] : List Value).toArray below meth c s.heap [] 0 0 _ _
  unfold fX9_went at hf
  refine lv_iload_n hx hb dX9_went_0 rfl (lv_at hl 1 rfl) ?_
  refine lv_if_ne (tgt := 9) hx hb dX9_went_1 (by decide) (fun k1 => ?_) (fun k1 => ?_)
  · replace hf := ifn k1 hf
    refine lv_iload_n hx hb dX9_went_9 rfl (lv_at hl 1 rfl) ?_
    refine lv_iconst (v := 1) hx hb dX9_went_10 (by decide) ?_
    refine lv_icmp_ne (tgt := 19) hx hb dX9_went_11 (by decide) (fun k2 => ?_) (fun k2 => ?_)
    · replace hf := ifn k2 hf
      refine lv_iload_n hx hb dX9_went_19 rfl (lv_at hl 1 rfl) ?_
      refine lv_i2l hx hb dX9_went_20 rfl ?_
      refine lv_ldc2 (v := 10) hx hb hown (hts _ (gw_mem wkX9_252)) dX9_went_21 ?_
      refine lv_bipush (v := 9) hx hb dX9_went_24 (by decide) ?_
      refine lv_aload_n hx hb dX9_went_26 rfl (lv_at hl 0 rfl) ?_
      refine va_get (D := (dC, dI)) (ci := 9) (v := .int c_moved) (C := RX9) (T := TX9) (N := 45) hx hb hts (fun w h => gw_mem (inX9 w h)) hown hK.1 hP 0 rfl rfl 6 (by decide) (hts _ (gw_mem wfX9_76)) (fun _ h9 => h9) rfl dX9_went_27 ?_
      refine lv_iadd hx hb dX9_went_30 ?_
      refine lv_i2l hx hb dX9_went_31 rfl ?_
      obtain ⟨r3, v4, hf⟩ := bd1_some hf
      refine gci0 (va_runS (As := [.long (Int32.toInt64 p1), .long 10, .long (Int32.toInt64 (9 + c_moved))]) (rest := []) ⟨hx, hb, hml, hown, hts⟩ (tX9_in l dC dI dA s.heap.size v4) (ccX9_X9_in hts ⟨Nat.le_of_ble_eq_true rfl, Nat.le_of_ble_eq_true rfl⟩) (gPreS0 hK) rfl rfl hl.1 rfl (lv_room (Nat.le_of_ble_eq_true rfl)) dX9_went_32 ⟨Nat.le_of_ble_eq_true rfl, Nat.le_of_ble_eq_true rfl⟩) hP hS hA (fun H locs hP hS => ?_)
      refine lv_if_eq (tgt := 50) hx hb dX9_went_35 (by decide) (fun k5 => ?_) (fun k5 => ?_)
      · replace hf := ifp k5 hf
        refine lv_iconst (v := (-1)) hx hb dX9_went_50 (by decide) ?_
        cases hf
        exact W.iret hx hb hr (fun t ht _ => gqi hP hD hS ht) hS.2.2 dX9_went_51
      · replace hf := ifn k5 hf
        refine lv_aload_n hx hb dX9_went_38 rfl (lv_at hl 0 rfl) ?_
        refine va_get (D := (dC, dI)) (ci := 9) (v := .ref (ad 4)) (C := RX9) (T := TX9) (N := 45) hx hb hts (fun w h => gw_mem (inX9 w h)) hown hK.1 hP 0 rfl rfl 4 (by decide) (hts _ (gw_mem wfX9_20)) (fun _ h9 => h9) rfl dX9_went_39 ?_
        refine lv_iload_n hx hb dX9_went_42 rfl (lv_at hl 1 rfl) ?_
        refine lv_bipush (v := 10) hx hb dX9_went_43 (by decide) ?_
        refine lv_isub hx hb dX9_went_45 ?_
        obtain ⟨h6, hf⟩ := og_some hf
        refine va_iald hx hb hK.1 hP 4 0 rfl rfl (okI_in h6) dX9_went_46 ?_
        refine lv_goto (tgt := 51) hx hb dX9_went_47 (by decide) ?_
        cases hf
        exact W.iret hx hb hr (fun t ht _ => gqi hP hD hS ht) hS.2.2 dX9_went_51
    · replace hf := ifp k2 hf
      refine lv_aload_n hx hb dX9_went_14 rfl (lv_at hl 0 rfl) ?_
      obtain ⟨r7, v8, hf⟩ := bd1_some hf
      refine gci (va_runV (As := []) (rest := []) ⟨hx, hb, hml, hown, hts⟩ (tX9_ups l dC dI dA ad s.heap.size v8) (ccX9_X9_ups hts ⟨Nat.le_of_ble_eq_true rfl, Nat.le_of_ble_eq_true rfl⟩) (gPreV (ci := 9) (q0 := 0) hP hK hD rfl rfl) rfl rfl hl.1 rfl (lv_room (Nat.le_of_ble_eq_true rfl)) dX9_went_15 ⟨Nat.le_of_ble_eq_true rfl, Nat.le_of_ble_eq_true rfl⟩) hD hS hA (fun H locs hP hD hS => ?_)
      cases hf
      exact W.iret hx hb hr (fun t ht _ => gqi hP hD hS ht) hS.2.2 dX9_went_18
  · replace hf := ifp k1 hf
    refine lv_aload_n hx hb dX9_went_4 rfl (lv_at hl 0 rfl) ?_
    refine va_get (D := (dC, dI)) (ci := 9) (v := .int c_moved) (C := RX9) (T := TX9) (N := 45) hx hb hts (fun w h => gw_mem (inX9 w h)) hown hK.1 hP 0 rfl rfl 6 (by decide) (hts _ (gw_mem wfX9_76)) (fun _ h9 => h9) rfl dX9_went_5 ?_
    cases hf
    exact W.iret hx hb hr (fun t ht _ => gqi hP hD hS ht) hS.2.2 dX9_went_8
def fX9_at (p0 : Int32) (p1 : Int32) (p2 : Int32) (p3 : Int32) : Option (Int32) := some ((((((7 * p0) + p1) * 2) + p2) * 8) + p3)
abbrev rmX9_at : Room := { frames := 0, cells := 0, slots := 0, locals := 0 }
set_option maxHeartbeats 4000000 in
set_option maxRecDepth 100000 in
theorem tX9_at (l : Launch) (dC : Nat → ClassId) (dI : Nat → Nat → Nat) (dA : Nat → ClassId) (sz : Nat) {p0 : Int32} {p1 : Int32} {p2 : Int32} {p3 : Int32} {r : Int32} (hf : fX9_at p0 p1 p2 p3 = some (r)) : Met l yX9_at (wq (Cond.code yX9_at cX9_at 4 (some .int))) rmX9_at (gP [.int p0, .int p1, .int p2, .int p3] (dC, dI) dA [] sz) (gQi (dC, dI) r [] (va_A [] sz)) 0 0 (va_A [] sz) := by
  refine Met.ofW (cc := cX9_at) (maxL := 4) (ret := (some .int)) (by decide) rfl ?_
  intro p e s m args below meth c s₁ B hml hv
  obtain ⟨rfl, hsz, hP, hK, hD0⟩ := hv
  have hx := B.exec
  have hb := B.bytes
  have hr := B.returns
  have hts := atoms_spec (ws := wq (Cond.code yX9_at cX9_at 4 (some .int))) B.pre
  have hown : s.vm.findClass RX9 = some m.cls := findClass_of_methodNamed B.named
  have hlocks := B.notSynchronized
  clear B
  subst hsz
  have hD := hD0.self (sz := s.heap.size)
  generalize hAe : va_A [] s.heap.size = A at hD ⊢
  have hA : ∀ q : Nat, s.heap.size ≤ q → A q := fun q h => by rw [← hAe]; exact Or.inr h
  clear hAe hD0
  have hS : va_S A s.heap s.heap [] := va_S.rf
  have hl := lv_entry ([.int p0, .int p1, .int p2, .int p3]) (n := 4) (Nat.le_of_ble_eq_true rfl)
  rw [lg_entry_eq]
  generalize (lg_sl ([.int p0, .int p1, .int p2, .int p3]) ++ List.replicate (4 - (lg_sl ([.int p0, .int p1, .int p2, .int p3])).length) Slot.unset).toArray = ls at hl ⊢
  have hl : lv_has ls 4 [(0, .int p0), (1, .int p1), (2, .int p2), (3, .int p3)] := hl
  change W p l e rmX9_at s m ([.int p0, .int p1, .int p2, .int p3] : List Value).toArray below meth c s.heap [] 0 0 _ _
  unfold fX9_at at hf
  refine lv_bipush (v := 7) hx hb dX9_at_0 (by decide) ?_
  refine lv_iload_n hx hb dX9_at_2 rfl (lv_at hl 0 rfl) ?_
  refine lv_imul hx hb dX9_at_3 ?_
  refine lv_iload_n hx hb dX9_at_4 rfl (lv_at hl 1 rfl) ?_
  refine lv_iadd hx hb dX9_at_5 ?_
  refine lv_iconst (v := 2) hx hb dX9_at_6 (by decide) ?_
  refine lv_imul hx hb dX9_at_7 ?_
  refine lv_iload_n hx hb dX9_at_8 rfl (lv_at hl 2 rfl) ?_
  refine lv_iadd hx hb dX9_at_9 ?_
  refine lv_bipush (v := 8) hx hb dX9_at_10 (by decide) ?_
  refine lv_imul hx hb dX9_at_12 ?_
  refine lv_iload_n hx hb dX9_at_13 rfl (lv_at hl 3 rfl) ?_
  refine lv_iadd hx hb dX9_at_14 ?_
  cases hf
  exact W.iret hx hb hr (fun t ht _ => gqi hP hD hS ht) hS.2.2 dX9_at_15
def fX9_isHigh (p1 : Int32) (p2 : Int32) (p3 : Int32) (c_bonds : Nat → Int32) (c_pence : Nat → Int64) : Option (Int32) := og (okI ((7 * p2) + p3) 49) (bd1 (fX9_of p1 25 c_bonds) (fun r2 => if (c_pence (Int32.toNatClampNeg ((7 * p2) + p3))) < (Int32.toInt64 r2) then some (0) else some (1)))
abbrev rmX9_isHigh : Room := { frames := 1, cells := 0, slots := 0, locals := 22 }
set_option maxHeartbeats 4000000 in
set_option maxRecDepth 100000 in
theorem tX9_isHigh (l : Launch) (dC : Nat → ClassId) (dI : Nat → Nat → Nat) (dA : Nat → ClassId) (ad : Nat → Nat) (sz : Nat) {p1 : Int32} {p2 : Int32} {p3 : Int32} {c_tape : Nat → Int32} {c_taped : Int32} {c_tree : Nat → Int32} {c_bonds : Nat → Int32} {c_moves : Nat → Int32} {c_handMoves : Nat → Int32} {c_moved : Int32} {c_days : Int32} {c_likely : Int32} {c_outOf : Int32} {c_rateNow : Int32} {c_pence : Nat → Int64} {c_top : Int64} {c_bottom : Int64} {c_spot : Int32} {c_textLong : Int32} {c_fault : Int32} {c_number : Int32} {c_numberAt : Int32} {c_figures : Int32} {c_written : Int32} {c_wanted : Int32} {c_found : Int32} {c_drawnNow : Int32} {c_worth : Nat → Int64} {c_hold : Nat → Int64} {c_way : Nat → Int64} {c_acts : Nat → Int32} {c_sDay : Int32} {c_sUps : Int32} {c_sUp : Int32} {c_sMarks : Int32} {c_paidAll : Int64} {c_isPlayed : Int32} {c_isOn : Int32} {c_handMoved : Int32} {c_handPaid : Int64} {c_regret : Int64} {c_aside : Nat → Int32} {c_other : Nat → Int64} {c_states : Int32} {c_kept : Nat → Int32} {c_keptLong : Nat → Int64} {c_keptAt : Int32} {c_isTaking : Int32} {r : Int32} (hf : fX9_isHigh p1 p2 p3 c_bonds c_pence = some (r)) : Met l yX9_isHigh (wq (Cond.code yX9_isHigh cX9_isHigh 4 (some .int))) rmX9_isHigh (gP [.ref (ad 0), .int p1, .int p2, .int p3] (dC, dI) dA (mW dA ad c_tape c_taped c_tree c_bonds c_moves c_handMoves c_moved c_days c_likely c_outOf c_rateNow c_pence c_top c_bottom c_spot c_textLong c_fault c_number c_numberAt c_figures c_written c_wanted c_found c_drawnNow c_worth c_hold c_way c_acts c_sDay c_sUps c_sUp c_sMarks c_paidAll c_isPlayed c_isOn c_handMoved c_handPaid c_regret c_aside c_other c_states c_kept c_keptLong c_keptAt c_isTaking) sz) (gQi (dC, dI) r (mW dA ad c_tape c_taped c_tree c_bonds c_moves c_handMoves c_moved c_days c_likely c_outOf c_rateNow c_pence c_top c_bottom c_spot c_textLong c_fault c_number c_numberAt c_figures c_written c_wanted c_found c_drawnNow c_worth c_hold c_way c_acts c_sDay c_sUps c_sUp c_sMarks c_paidAll c_isPlayed c_isOn c_handMoved c_handPaid c_regret c_aside c_other c_states c_kept c_keptLong c_keptAt c_isTaking) (va_A (mW dA ad c_tape c_taped c_tree c_bonds c_moves c_handMoves c_moved c_days c_likely c_outOf c_rateNow c_pence c_top c_bottom c_spot c_textLong c_fault c_number c_numberAt c_figures c_written c_wanted c_found c_drawnNow c_worth c_hold c_way c_acts c_sDay c_sUps c_sUp c_sMarks c_paidAll c_isPlayed c_isOn c_handMoved c_handPaid c_regret c_aside c_other c_states c_kept c_keptLong c_keptAt c_isTaking) sz)) 0 0 (va_A (mW dA ad c_tape c_taped c_tree c_bonds c_moves c_handMoves c_moved c_days c_likely c_outOf c_rateNow c_pence c_top c_bottom c_spot c_textLong c_fault c_number c_numberAt c_figures c_written c_wanted c_found c_drawnNow c_worth c_hold c_way c_acts c_sDay c_sUps c_sUp c_sMarks c_paidAll c_isPlayed c_isOn c_handMoved c_handPaid c_regret c_aside c_other c_states c_kept c_keptLong c_keptAt c_isTaking) sz) := by
  refine Met.ofW (cc := cX9_isHigh) (maxL := 4) (ret := (some .int)) (by decide) rfl ?_
  intro p e s m args below meth c s₁ B hml hv
  obtain ⟨rfl, hsz, hP, hK, hD0⟩ := hv
  have hx := B.exec
  have hb := B.bytes
  have hr := B.returns
  have hts := atoms_spec (ws := wq (Cond.code yX9_isHigh cX9_isHigh 4 (some .int))) B.pre
  have hown : s.vm.findClass RX9 = some m.cls := findClass_of_methodNamed B.named
  have hlocks := B.notSynchronized
  clear B
  subst hsz
  have hD := hD0.self (sz := s.heap.size)
  generalize hAe : va_A (mW dA ad c_tape c_taped c_tree c_bonds c_moves c_handMoves c_moved c_days c_likely c_outOf c_rateNow c_pence c_top c_bottom c_spot c_textLong c_fault c_number c_numberAt c_figures c_written c_wanted c_found c_drawnNow c_worth c_hold c_way c_acts c_sDay c_sUps c_sUp c_sMarks c_paidAll c_isPlayed c_isOn c_handMoved c_handPaid c_regret c_aside c_other c_states c_kept c_keptLong c_keptAt c_isTaking) s.heap.size = A at hD ⊢
  have hA : ∀ q : Nat, s.heap.size ≤ q → A q := fun q h => by rw [← hAe]; exact Or.inr h
  clear hAe hD0
  have hS : va_S A s.heap s.heap [] := va_S.rf
  have hl := lv_entry ([.ref (ad 0), .int p1, .int p2, .int p3]) (n := 4) (Nat.le_of_ble_eq_true rfl)
  rw [lg_entry_eq]
  generalize (lg_sl ([.ref (ad 0), .int p1, .int p2, .int p3]) ++ List.replicate (4 - (lg_sl ([.ref (ad 0), .int p1, .int p2, .int p3])).length) Slot.unset).toArray = ls at hl ⊢
  have hl : lv_has ls 4 [(0, .ref (ad 0)), (1, .int p1), (2, .int p2), (3, .int p3)] := hl
  change W p l e rmX9_isHigh s m ([.ref (ad 0), .int p1, .int p2, .int p3] : List Value).toArray below meth c s.heap [] 0 0 _ _
  unfold fX9_isHigh at hf
  refine lv_aload_n hx hb dX9_isHigh_0 rfl (lv_at hl 0 rfl) ?_
  refine va_get (D := (dC, dI)) (ci := 9) (v := .ref (ad 6)) (C := RX9) (T := TX9) (N := 45) hx hb hts (fun w h => gw_mem (inX9 w h)) hown hK.1 hP 0 rfl rfl 11 (by decide) (hts _ (gw_mem wfX9_26)) (fun _ h9 => h9) rfl dX9_isHigh_1 ?_
  refine lv_bipush (v := 7) hx hb dX9_isHigh_4 (by decide) ?_
  refine lv_iload_n hx hb dX9_isHigh_6 rfl (lv_at hl 2 rfl) ?_
  refine lv_imul hx hb dX9_isHigh_7 ?_
  refine lv_iload_n hx hb dX9_isHigh_8 rfl (lv_at hl 3 rfl) ?_
  refine lv_iadd hx hb dX9_isHigh_9 ?_
  obtain ⟨h1, hf⟩ := og_some hf
  refine va_lald hx hb hK.1 hP 6 1 rfl rfl (okI_in h1) dX9_isHigh_10 ?_
  refine lv_aload_n hx hb dX9_isHigh_11 rfl (lv_at hl 0 rfl) ?_
  refine lv_iload_n hx hb dX9_isHigh_12 rfl (lv_at hl 1 rfl) ?_
  refine lv_bipush (v := 25) hx hb dX9_isHigh_13 (by decide) ?_
  obtain ⟨r2, v3, hf⟩ := bd1_some hf
  refine gci (va_runV (As := [.int p1, .int 25]) (rest := [.long (c_pence (Int32.toNatClampNeg ((7 * p2) + p3)))]) ⟨hx, hb, hml, hown, hts⟩ (tX9_of l dC dI dA ad s.heap.size v3) (ccX9_X9_of hts ⟨Nat.le_of_ble_eq_true rfl, Nat.le_of_ble_eq_true rfl⟩) (gPreV (ci := 9) (q0 := 0) hP hK hD rfl rfl) rfl rfl hl.1 rfl (lv_room (Nat.le_of_ble_eq_true rfl)) dX9_isHigh_15 ⟨Nat.le_of_ble_eq_true rfl, Nat.le_of_ble_eq_true rfl⟩) hD hS hA (fun H locs hP hD hS => ?_)
  refine lv_i2l hx hb dX9_isHigh_18 rfl ?_
  refine W.lcmp hx hb dX9_isHigh_19 ?_
  refine lv_if_lt (tgt := 27) hx hb dX9_isHigh_20 (by decide) (fun k4 => ?_) (fun k4 => ?_)
  · replace hf := ifp (lc_lt.mp k4) hf
    refine lv_iconst (v := 0) hx hb dX9_isHigh_27 (by decide) ?_
    cases hf
    exact W.iret hx hb hr (fun t ht _ => gqi hP hD hS ht) hS.2.2 dX9_isHigh_28
  · replace hf := ifn (fun h => k4 (lc_lt.mpr h)) hf
    refine lv_iconst (v := 1) hx hb dX9_isHigh_23 (by decide) ?_
    refine lv_goto (tgt := 28) hx hb dX9_isHigh_24 (by decide) ?_
    cases hf
    exact W.iret hx hb hr (fun t ht _ => gqi hP hD hS ht) hS.2.2 dX9_isHigh_28
def fX9_inWindow (p1 : Int32) (p2 : Int32) (c_bonds : Nat → Int32) : Option (Int32) := bd1 (fX9_of p1 21 c_bonds) (fun r1 => bd1 (fX9_of p1 22 c_bonds) (fun r3 => bd1 (fX9_in (Int32.toInt64 p2) (Int32.toInt64 r1) (Int32.toInt64 r3)) (fun r5 => og (boB r5) (some (r5)))))
abbrev rmX9_inWindow : Room := { frames := 1, cells := 0, slots := 0, locals := 25 }
set_option maxHeartbeats 4000000 in
set_option maxRecDepth 100000 in
theorem tX9_inWindow (l : Launch) (dC : Nat → ClassId) (dI : Nat → Nat → Nat) (dA : Nat → ClassId) (ad : Nat → Nat) (sz : Nat) {p1 : Int32} {p2 : Int32} {c_tape : Nat → Int32} {c_taped : Int32} {c_tree : Nat → Int32} {c_bonds : Nat → Int32} {c_moves : Nat → Int32} {c_handMoves : Nat → Int32} {c_moved : Int32} {c_days : Int32} {c_likely : Int32} {c_outOf : Int32} {c_rateNow : Int32} {c_pence : Nat → Int64} {c_top : Int64} {c_bottom : Int64} {c_spot : Int32} {c_textLong : Int32} {c_fault : Int32} {c_number : Int32} {c_numberAt : Int32} {c_figures : Int32} {c_written : Int32} {c_wanted : Int32} {c_found : Int32} {c_drawnNow : Int32} {c_worth : Nat → Int64} {c_hold : Nat → Int64} {c_way : Nat → Int64} {c_acts : Nat → Int32} {c_sDay : Int32} {c_sUps : Int32} {c_sUp : Int32} {c_sMarks : Int32} {c_paidAll : Int64} {c_isPlayed : Int32} {c_isOn : Int32} {c_handMoved : Int32} {c_handPaid : Int64} {c_regret : Int64} {c_aside : Nat → Int32} {c_other : Nat → Int64} {c_states : Int32} {c_kept : Nat → Int32} {c_keptLong : Nat → Int64} {c_keptAt : Int32} {c_isTaking : Int32} {r : Int32} (hf : fX9_inWindow p1 p2 c_bonds = some (r)) : Met l yX9_inWindow (wq (Cond.code yX9_inWindow cX9_inWindow 3 (some .boolean))) rmX9_inWindow (gP [.ref (ad 0), .int p1, .int p2] (dC, dI) dA (mW dA ad c_tape c_taped c_tree c_bonds c_moves c_handMoves c_moved c_days c_likely c_outOf c_rateNow c_pence c_top c_bottom c_spot c_textLong c_fault c_number c_numberAt c_figures c_written c_wanted c_found c_drawnNow c_worth c_hold c_way c_acts c_sDay c_sUps c_sUp c_sMarks c_paidAll c_isPlayed c_isOn c_handMoved c_handPaid c_regret c_aside c_other c_states c_kept c_keptLong c_keptAt c_isTaking) sz) (gQi (dC, dI) r (mW dA ad c_tape c_taped c_tree c_bonds c_moves c_handMoves c_moved c_days c_likely c_outOf c_rateNow c_pence c_top c_bottom c_spot c_textLong c_fault c_number c_numberAt c_figures c_written c_wanted c_found c_drawnNow c_worth c_hold c_way c_acts c_sDay c_sUps c_sUp c_sMarks c_paidAll c_isPlayed c_isOn c_handMoved c_handPaid c_regret c_aside c_other c_states c_kept c_keptLong c_keptAt c_isTaking) (va_A (mW dA ad c_tape c_taped c_tree c_bonds c_moves c_handMoves c_moved c_days c_likely c_outOf c_rateNow c_pence c_top c_bottom c_spot c_textLong c_fault c_number c_numberAt c_figures c_written c_wanted c_found c_drawnNow c_worth c_hold c_way c_acts c_sDay c_sUps c_sUp c_sMarks c_paidAll c_isPlayed c_isOn c_handMoved c_handPaid c_regret c_aside c_other c_states c_kept c_keptLong c_keptAt c_isTaking) sz)) 0 0 (va_A (mW dA ad c_tape c_taped c_tree c_bonds c_moves c_handMoves c_moved c_days c_likely c_outOf c_rateNow c_pence c_top c_bottom c_spot c_textLong c_fault c_number c_numberAt c_figures c_written c_wanted c_found c_drawnNow c_worth c_hold c_way c_acts c_sDay c_sUps c_sUp c_sMarks c_paidAll c_isPlayed c_isOn c_handMoved c_handPaid c_regret c_aside c_other c_states c_kept c_keptLong c_keptAt c_isTaking) sz) := by
  refine Met.ofW (cc := cX9_inWindow) (maxL := 3) (ret := (some .boolean)) (by decide) rfl ?_
  intro p e s m args below meth c s₁ B hml hv
  obtain ⟨rfl, hsz, hP, hK, hD0⟩ := hv
  have hx := B.exec
  have hb := B.bytes
  have hr := B.returns
  have hts := atoms_spec (ws := wq (Cond.code yX9_inWindow cX9_inWindow 3 (some .boolean))) B.pre
  have hown : s.vm.findClass RX9 = some m.cls := findClass_of_methodNamed B.named
  have hlocks := B.notSynchronized
  clear B
  subst hsz
  have hD := hD0.self (sz := s.heap.size)
  generalize hAe : va_A (mW dA ad c_tape c_taped c_tree c_bonds c_moves c_handMoves c_moved c_days c_likely c_outOf c_rateNow c_pence c_top c_bottom c_spot c_textLong c_fault c_number c_numberAt c_figures c_written c_wanted c_found c_drawnNow c_worth c_hold c_way c_acts c_sDay c_sUps c_sUp c_sMarks c_paidAll c_isPlayed c_isOn c_handMoved c_handPaid c_regret c_aside c_other c_states c_kept c_keptLong c_keptAt c_isTaking) s.heap.size = A at hD ⊢
  have hA : ∀ q : Nat, s.heap.size ≤ q → A q := fun q h => by rw [← hAe]; exact Or.inr h
  clear hAe hD0
  have hS : va_S A s.heap s.heap [] := va_S.rf
  have hl := lv_entry ([.ref (ad 0), .int p1, .int p2]) (n := 3) (Nat.le_of_ble_eq_true rfl)
  rw [lg_entry_eq]
  generalize (lg_sl ([.ref (ad 0), .int p1, .int p2]) ++ List.replicate (3 - (lg_sl ([.ref (ad 0), .int p1, .int p2])).length) Slot.unset).toArray = ls at hl ⊢
  have hl : lv_has ls 3 [(0, .ref (ad 0)), (1, .int p1), (2, .int p2)] := hl
  change W p l e rmX9_inWindow s m ([.ref (ad 0), .int p1, .int p2] : List Value).toArray below meth c s.heap [] 0 0 _ _
  unfold fX9_inWindow at hf
  refine lv_iload_n hx hb dX9_inWindow_0 rfl (lv_at hl 2 rfl) ?_
  refine lv_i2l hx hb dX9_inWindow_1 rfl ?_
  refine lv_aload_n hx hb dX9_inWindow_2 rfl (lv_at hl 0 rfl) ?_
  refine lv_iload_n hx hb dX9_inWindow_3 rfl (lv_at hl 1 rfl) ?_
  refine lv_bipush (v := 21) hx hb dX9_inWindow_4 (by decide) ?_
  obtain ⟨r1, v2, hf⟩ := bd1_some hf
  refine gci (va_runV (As := [.int p1, .int 21]) (rest := [.long (Int32.toInt64 p2)]) ⟨hx, hb, hml, hown, hts⟩ (tX9_of l dC dI dA ad s.heap.size v2) (ccX9_X9_of hts ⟨Nat.le_of_ble_eq_true rfl, Nat.le_of_ble_eq_true rfl⟩) (gPreV (ci := 9) (q0 := 0) hP hK hD rfl rfl) rfl rfl hl.1 rfl (lv_room (Nat.le_of_ble_eq_true rfl)) dX9_inWindow_6 ⟨Nat.le_of_ble_eq_true rfl, Nat.le_of_ble_eq_true rfl⟩) hD hS hA (fun H locs hP hD hS => ?_)
  refine lv_i2l hx hb dX9_inWindow_9 rfl ?_
  refine lv_aload_n hx hb dX9_inWindow_10 rfl (lv_at hl 0 rfl) ?_
  refine lv_iload_n hx hb dX9_inWindow_11 rfl (lv_at hl 1 rfl) ?_
  refine lv_bipush (v := 22) hx hb dX9_inWindow_12 (by decide) ?_
  obtain ⟨r3, v4, hf⟩ := bd1_some hf
  refine gci (va_runV (As := [.int p1, .int 22]) (rest := [.long (Int32.toInt64 r1), .long (Int32.toInt64 p2)]) ⟨hx, hb, hml, hown, hts⟩ (tX9_of l dC dI dA ad H.size v4) (ccX9_X9_of hts ⟨Nat.le_of_ble_eq_true rfl, Nat.le_of_ble_eq_true rfl⟩) (gPreV (ci := 9) (q0 := 0) hP hK hD rfl rfl) rfl rfl hl.1 rfl (lv_room (Nat.le_of_ble_eq_true rfl)) dX9_inWindow_14 ⟨Nat.le_of_ble_eq_true rfl, Nat.le_of_ble_eq_true rfl⟩) hD hS hA (fun H locs hP hD hS => ?_)
  refine lv_i2l hx hb dX9_inWindow_17 rfl ?_
  obtain ⟨r5, v6, hf⟩ := bd1_some hf
  refine gci0 (va_runS (As := [.long (Int32.toInt64 p2), .long (Int32.toInt64 r1), .long (Int32.toInt64 r3)]) (rest := []) ⟨hx, hb, hml, hown, hts⟩ (tX9_in l dC dI dA H.size v6) (ccX9_X9_in hts ⟨Nat.le_of_ble_eq_true rfl, Nat.le_of_ble_eq_true rfl⟩) (gPreS0 hK) rfl rfl hl.1 rfl (lv_room (Nat.le_of_ble_eq_true rfl)) dX9_inWindow_18 ⟨Nat.le_of_ble_eq_true rfl, Nat.le_of_ble_eq_true rfl⟩) hP hS hA (fun H locs hP hS => ?_)
  obtain ⟨h7, hf⟩ := og_some hf
  cases hf
  exact W.zret (ty := .boolean) hx hb hr (boB_nar h7) (fun t ht _ => gqi hP hD hS ht) hS.2.2 dX9_inWindow_21
theorem ccX9_X9_inWindow {R : Room} {s : State} {args : Array Value} {c0 : Cond} (ht : ∀ w ∈ wq c0, w.before args s = true) (hR : rmX9_inWindow.frames + 1 ≤ R.frames ∧ 8 + (3 + 11) + rmX9_inWindow.locals ≤ R.locals) : CallW R s args RX9 RX9 254 yX9_inWindow cX9_inWindow 3 (some .boolean) (wq (.code yX9_inWindow cX9_inWindow 3 (some .boolean))) rmX9_inWindow 0 0 2 := gCW 2 ht wcX9_inWindow wmX9_254 wiX9_inWindow weX9_inWindow wnX9 (by decide +kernel) rfl rfl hR
def fX9_turned (p1 : Int32) (p2 : Int32) (p3 : Int32) (p4 : Int32) (c_bonds : Nat → Int32) (c_pence : Nat → Int64) : Option (Int64) := bd1 (fX9_inWindow p1 p2 c_bonds) (fun r1 => if r1 = 0 then some ((-1)) else og (okI ((7 * p2) + p3) 49) (nm (c_pence (Int32.toNatClampNeg ((7 * p2) + p3))) (fun w5 => if p2 = 0 then bd1 (fX9_of p1 1 c_bonds) (fun r22 => nm (((Int32.toInt64 r22) * w5) / 100) (fun w24 => bd1 (fX9_of p1 1 c_bonds) (fun r25 => nm (((Int32.toInt64 r25) * (w5 + w5)) / 200) (fun w27 => bd1 (fX9_of p1 26 c_bonds) (fun r28 => if r28 = 0 then some (w24) else if r28 = 1 then some (w27) else if r28 = 2 then if w27 ≤ w24 then some (w27) else some (w24) else if w27 ≤ w24 then some (w24) else some (w27)))))) else og (okI (((7 * (p2 - 1)) + p3) - p4) 49) (nm (c_pence (Int32.toNatClampNeg (((7 * (p2 - 1)) + p3) - p4))) (fun w8 => bd1 (fX9_of p1 1 c_bonds) (fun r9 => nm (((Int32.toInt64 r9) * w5) / 100) (fun w11 => bd1 (fX9_of p1 1 c_bonds) (fun r12 => nm (((Int32.toInt64 r12) * (w5 + w8)) / 200) (fun w14 => bd1 (fX9_of p1 26 c_bonds) (fun r15 => if r15 = 0 then some (w11) else if r15 = 1 then some (w14) else if r15 = 2 then if w14 ≤ w11 then some (w14) else some (w11) else if w14 ≤ w11 then some (w11) else some (w14)))))))))))
abbrev rmX9_turned : Room := { frames := 2, cells := 0, slots := 0, locals := 47 }
set_option maxHeartbeats 4000000 in
set_option maxRecDepth 100000 in
theorem tX9_turned (l : Launch) (dC : Nat → ClassId) (dI : Nat → Nat → Nat) (dA : Nat → ClassId) (ad : Nat → Nat) (sz : Nat) {p1 : Int32} {p2 : Int32} {p3 : Int32} {p4 : Int32} {c_tape : Nat → Int32} {c_taped : Int32} {c_tree : Nat → Int32} {c_bonds : Nat → Int32} {c_moves : Nat → Int32} {c_handMoves : Nat → Int32} {c_moved : Int32} {c_days : Int32} {c_likely : Int32} {c_outOf : Int32} {c_rateNow : Int32} {c_pence : Nat → Int64} {c_top : Int64} {c_bottom : Int64} {c_spot : Int32} {c_textLong : Int32} {c_fault : Int32} {c_number : Int32} {c_numberAt : Int32} {c_figures : Int32} {c_written : Int32} {c_wanted : Int32} {c_found : Int32} {c_drawnNow : Int32} {c_worth : Nat → Int64} {c_hold : Nat → Int64} {c_way : Nat → Int64} {c_acts : Nat → Int32} {c_sDay : Int32} {c_sUps : Int32} {c_sUp : Int32} {c_sMarks : Int32} {c_paidAll : Int64} {c_isPlayed : Int32} {c_isOn : Int32} {c_handMoved : Int32} {c_handPaid : Int64} {c_regret : Int64} {c_aside : Nat → Int32} {c_other : Nat → Int64} {c_states : Int32} {c_kept : Nat → Int32} {c_keptLong : Nat → Int64} {c_keptAt : Int32} {c_isTaking : Int32} {r : Int64} (hf : fX9_turned p1 p2 p3 p4 c_bonds c_pence = some (r)) : Met l yX9_turned (wq (Cond.code yX9_turned cX9_turned 13 (some .long))) rmX9_turned (gP [.ref (ad 0), .int p1, .int p2, .int p3, .int p4] (dC, dI) dA (mW dA ad c_tape c_taped c_tree c_bonds c_moves c_handMoves c_moved c_days c_likely c_outOf c_rateNow c_pence c_top c_bottom c_spot c_textLong c_fault c_number c_numberAt c_figures c_written c_wanted c_found c_drawnNow c_worth c_hold c_way c_acts c_sDay c_sUps c_sUp c_sMarks c_paidAll c_isPlayed c_isOn c_handMoved c_handPaid c_regret c_aside c_other c_states c_kept c_keptLong c_keptAt c_isTaking) sz) (gQl (dC, dI) r (mW dA ad c_tape c_taped c_tree c_bonds c_moves c_handMoves c_moved c_days c_likely c_outOf c_rateNow c_pence c_top c_bottom c_spot c_textLong c_fault c_number c_numberAt c_figures c_written c_wanted c_found c_drawnNow c_worth c_hold c_way c_acts c_sDay c_sUps c_sUp c_sMarks c_paidAll c_isPlayed c_isOn c_handMoved c_handPaid c_regret c_aside c_other c_states c_kept c_keptLong c_keptAt c_isTaking) (va_A (mW dA ad c_tape c_taped c_tree c_bonds c_moves c_handMoves c_moved c_days c_likely c_outOf c_rateNow c_pence c_top c_bottom c_spot c_textLong c_fault c_number c_numberAt c_figures c_written c_wanted c_found c_drawnNow c_worth c_hold c_way c_acts c_sDay c_sUps c_sUp c_sMarks c_paidAll c_isPlayed c_isOn c_handMoved c_handPaid c_regret c_aside c_other c_states c_kept c_keptLong c_keptAt c_isTaking) sz)) 0 0 (va_A (mW dA ad c_tape c_taped c_tree c_bonds c_moves c_handMoves c_moved c_days c_likely c_outOf c_rateNow c_pence c_top c_bottom c_spot c_textLong c_fault c_number c_numberAt c_figures c_written c_wanted c_found c_drawnNow c_worth c_hold c_way c_acts c_sDay c_sUps c_sUp c_sMarks c_paidAll c_isPlayed c_isOn c_handMoved c_handPaid c_regret c_aside c_other c_states c_kept c_keptLong c_keptAt c_isTaking) sz) := by
  refine Met.ofW (cc := cX9_turned) (maxL := 13) (ret := (some .long)) (by decide) rfl ?_
  intro p e s m args below meth c s₁ B hml hv
  obtain ⟨rfl, hsz, hP, hK, hD0⟩ := hv
  have hx := B.exec
  have hb := B.bytes
  have hr := B.returns
  have hts := atoms_spec (ws := wq (Cond.code yX9_turned cX9_turned 13 (some .long))) B.pre
  have hown : s.vm.findClass RX9 = some m.cls := findClass_of_methodNamed B.named
  have hlocks := B.notSynchronized
  clear B
  subst hsz
  have hD := hD0.self (sz := s.heap.size)
  generalize hAe : va_A (mW dA ad c_tape c_taped c_tree c_bonds c_moves c_handMoves c_moved c_days c_likely c_outOf c_rateNow c_pence c_top c_bottom c_spot c_textLong c_fault c_number c_numberAt c_figures c_written c_wanted c_found c_drawnNow c_worth c_hold c_way c_acts c_sDay c_sUps c_sUp c_sMarks c_paidAll c_isPlayed c_isOn c_handMoved c_handPaid c_regret c_aside c_other c_states c_kept c_keptLong c_keptAt c_isTaking) s.heap.size = A at hD ⊢
  have hA : ∀ q : Nat, s.heap.size ≤ q → A q := fun q h => by rw [← hAe]; exact Or.inr h
  clear hAe hD0
  have hS : va_S A s.heap s.heap [] := va_S.rf
  have hl := lv_entry ([.ref (ad 0), .int p1, .int p2, .int p3, .int p4]) (n := 13) (Nat.le_of_ble_eq_true rfl)
  rw [lg_entry_eq]
  generalize (lg_sl ([.ref (ad 0), .int p1, .int p2, .int p3, .int p4]) ++ List.replicate (13 - (lg_sl ([.ref (ad 0), .int p1, .int p2, .int p3, .int p4])).length) Slot.unset).toArray = ls at hl ⊢
  have hl : lv_has ls 13 [(0, .ref (ad 0)), (1, .int p1), (2, .int p2), (3, .int p3), (4, .int p4)] := hl
  change W p l e rmX9_turned s m ([.ref (ad 0), .int p1, .int p2, .int p3, .int p4] : List Value).toArray below meth c s.heap [] 0 0 _ _
  unfold fX9_turned at hf
  refine lv_aload_n hx hb dX9_turned_0 rfl (lv_at hl 0 rfl) ?_
  refine lv_iload_n hx hb dX9_turned_1 rfl (lv_at hl 1 rfl) ?_
  refine lv_iload_n hx hb dX9_turned_2 rfl (lv_at hl 2 rfl) ?_
  obtain ⟨r1, v2, hf⟩ := bd1_some hf
  refine gci (va_runV (As := [.int p1, .int p2]) (rest := []) ⟨hx, hb, hml, hown, hts⟩ (tX9_inWindow l dC dI dA ad s.heap.size v2) (ccX9_X9_inWindow hts ⟨Nat.le_of_ble_eq_true rfl, Nat.le_of_ble_eq_true rfl⟩) (gPreV (ci := 9) (q0 := 0) hP hK hD rfl rfl) rfl rfl hl.1 rfl (lv_room (Nat.le_of_ble_eq_true rfl)) dX9_turned_3 ⟨Nat.le_of_ble_eq_true rfl, Nat.le_of_ble_eq_true rfl⟩) hD hS hA (fun H locs hP hD hS => ?_)
  refine lv_if_ne (tgt := 13) hx hb dX9_turned_6 (by decide) (fun k3 => ?_) (fun k3 => ?_)
  · replace hf := ifn k3 hf
    refine lv_aload_n hx hb dX9_turned_13 rfl (lv_at hl 0 rfl) ?_
    refine va_get (D := (dC, dI)) (ci := 9) (v := .ref (ad 6)) (C := RX9) (T := TX9) (N := 45) hx hb hts (fun w h => gw_mem (inX9 w h)) hown hK.1 hP 0 rfl rfl 11 (by decide) (hts _ (gw_mem wfX9_26)) (fun _ h9 => h9) rfl dX9_turned_14 ?_
    refine lv_bipush (v := 7) hx hb dX9_turned_17 (by decide) ?_
    refine lv_iload_n hx hb dX9_turned_19 rfl (lv_at hl 2 rfl) ?_
    refine lv_imul hx hb dX9_turned_20 ?_
    refine lv_iload_n hx hb dX9_turned_21 rfl (lv_at hl 3 rfl) ?_
    refine lv_iadd hx hb dX9_turned_22 ?_
    obtain ⟨h4, hf⟩ := og_some hf
    refine va_lald hx hb hK.1 hP 6 1 rfl rfl (okI_in h4) dX9_turned_23 ?_
    refine lv_topl (fun w5 ew5 => ?_)
    replace hf := nm_at hf ew5
    refine lv_lstore (lv' := [(5, .long w5), (0, .ref (ad 0)), (1, .int p1), (2, .int p2), (3, .int p3), (4, .int p4)]) hx hb dX9_turned_24 hl (by decide) rfl (fun ls hl => ?_)
    refine lv_iload_n hx hb dX9_turned_26 rfl (lv_at hl 3 rfl) ?_
    refine lv_if_ne (tgt := 35) hx hb dX9_turned_27 (by decide) (fun k6 => ?_) (fun k6 => ?_)
    · replace hf := ifn k6 hf
      refine lv_aload_n hx hb dX9_turned_35 rfl (lv_at hl 1 rfl) ?_
      refine va_get (D := (dC, dI)) (ci := 9) (v := .ref (ad 6)) (C := RX9) (T := TX9) (N := 45) hx hb hts (fun w h => gw_mem (inX9 w h)) hown hK.1 hP 0 rfl rfl 11 (by decide) (hts _ (gw_mem wfX9_26)) (fun _ h9 => h9) rfl dX9_turned_36 ?_
      refine lv_bipush (v := 7) hx hb dX9_turned_39 (by decide) ?_
      refine lv_iload_n hx hb dX9_turned_41 rfl (lv_at hl 3 rfl) ?_
      refine lv_iconst (v := 1) hx hb dX9_turned_42 (by decide) ?_
      refine lv_isub hx hb dX9_turned_43 ?_
      refine lv_imul hx hb dX9_turned_44 ?_
      refine lv_iload_n hx hb dX9_turned_45 rfl (lv_at hl 4 rfl) ?_
      refine lv_iadd hx hb dX9_turned_46 ?_
      refine lv_iload hx hb dX9_turned_47 (lv_at hl 5 rfl) ?_
      refine lv_isub hx hb dX9_turned_49 ?_
      obtain ⟨h7, hf⟩ := og_some hf
      refine va_lald hx hb hK.1 hP 6 1 rfl rfl (okI_in h7) dX9_turned_50 ?_
      refine lv_topl (fun w8 ew8 => ?_)
      replace hf := nm_at hf ew8
      refine lv_lstore (lv' := [(7, .long w8), (5, .long w5), (0, .ref (ad 0)), (1, .int p1), (2, .int p2), (3, .int p3), (4, .int p4)]) hx hb dX9_turned_51 hl (by decide) rfl (fun ls hl => ?_)
      refine lv_aload_n hx hb dX9_turned_53 rfl (lv_at hl 2 rfl) ?_
      refine lv_iload_n hx hb dX9_turned_54 rfl (lv_at hl 3 rfl) ?_
      refine lv_iconst (v := 1) hx hb dX9_turned_55 (by decide) ?_
      obtain ⟨r9, v10, hf⟩ := bd1_some hf
      refine gci (va_runV (As := [.int p1, .int 1]) (rest := []) ⟨hx, hb, hml, hown, hts⟩ (tX9_of l dC dI dA ad H.size v10) (ccX9_X9_of hts ⟨Nat.le_of_ble_eq_true rfl, Nat.le_of_ble_eq_true rfl⟩) (gPreV (ci := 9) (q0 := 0) hP hK hD rfl rfl) rfl rfl hl.1 rfl (lv_room (Nat.le_of_ble_eq_true rfl)) dX9_turned_56 ⟨Nat.le_of_ble_eq_true rfl, Nat.le_of_ble_eq_true rfl⟩) hD hS hA (fun H locs hP hD hS => ?_)
      refine lv_i2l hx hb dX9_turned_59 rfl ?_
      refine lv_lload hx hb dX9_turned_60 (lv_at hl 1 rfl) ?_
      refine lv_lmul hx hb dX9_turned_62 ?_
      refine lv_ldc2 (v := 100) hx hb hown (hts _ (gw_mem wkX9_110)) dX9_turned_63 ?_
      refine lv_ldiv hx hb dX9_turned_66 (by decide) ?_
      refine lv_topl (fun w11 ew11 => ?_)
      replace hf := nm_at hf ew11
      refine lv_lstore (lv' := [(9, .long w11), (7, .long w8), (5, .long w5), (0, .ref (ad 0)), (1, .int p1), (2, .int p2), (3, .int p3), (4, .int p4)]) hx hb dX9_turned_67 hl (by decide) rfl (fun ls hl => ?_)
      refine lv_aload_n hx hb dX9_turned_69 rfl (lv_at hl 3 rfl) ?_
      refine lv_iload_n hx hb dX9_turned_70 rfl (lv_at hl 4 rfl) ?_
      refine lv_iconst (v := 1) hx hb dX9_turned_71 (by decide) ?_
      obtain ⟨r12, v13, hf⟩ := bd1_some hf
      refine gci (va_runV (As := [.int p1, .int 1]) (rest := []) ⟨hx, hb, hml, hown, hts⟩ (tX9_of l dC dI dA ad H.size v13) (ccX9_X9_of hts ⟨Nat.le_of_ble_eq_true rfl, Nat.le_of_ble_eq_true rfl⟩) (gPreV (ci := 9) (q0 := 0) hP hK hD rfl rfl) rfl rfl hl.1 rfl (lv_room (Nat.le_of_ble_eq_true rfl)) dX9_turned_72 ⟨Nat.le_of_ble_eq_true rfl, Nat.le_of_ble_eq_true rfl⟩) hD hS hA (fun H locs hP hD hS => ?_)
      refine lv_i2l hx hb dX9_turned_75 rfl ?_
      refine lv_lload hx hb dX9_turned_76 (lv_at hl 2 rfl) ?_
      refine lv_lload hx hb dX9_turned_78 (lv_at hl 1 rfl) ?_
      refine lv_ladd hx hb dX9_turned_80 ?_
      refine lv_lmul hx hb dX9_turned_81 ?_
      refine lv_ldc2 (v := 200) hx hb hown (hts _ (gw_mem wkX9_85)) dX9_turned_82 ?_
      refine lv_ldiv hx hb dX9_turned_85 (by decide) ?_
      refine lv_topl (fun w14 ew14 => ?_)
      replace hf := nm_at hf ew14
      refine lv_lstore (lv' := [(11, .long w14), (9, .long w11), (7, .long w8), (5, .long w5), (0, .ref (ad 0)), (1, .int p1), (2, .int p2), (3, .int p3), (4, .int p4)]) hx hb dX9_turned_86 hl (by decide) rfl (fun ls hl => ?_)
      refine lv_aload_n hx hb dX9_turned_88 rfl (lv_at hl 4 rfl) ?_
      refine lv_iload_n hx hb dX9_turned_89 rfl (lv_at hl 5 rfl) ?_
      refine lv_bipush (v := 26) hx hb dX9_turned_90 (by decide) ?_
      obtain ⟨r15, v16, hf⟩ := bd1_some hf
      refine gci (va_runV (As := [.int p1, .int 26]) (rest := []) ⟨hx, hb, hml, hown, hts⟩ (tX9_of l dC dI dA ad H.size v16) (ccX9_X9_of hts ⟨Nat.le_of_ble_eq_true rfl, Nat.le_of_ble_eq_true rfl⟩) (gPreV (ci := 9) (q0 := 0) hP hK hD rfl rfl) rfl rfl hl.1 rfl (lv_room (Nat.le_of_ble_eq_true rfl)) dX9_turned_92 ⟨Nat.le_of_ble_eq_true rfl, Nat.le_of_ble_eq_true rfl⟩) hD hS hA (fun H locs hP hD hS => ?_)
      by_cases k17 : r15 = 0
      · replace hf := ifp k17 hf
        refine lv_tableIn (tgt := 120) hx hb dX9_turned_95 (by rw [k17]; decide) (by rw [k17]; decide) (by rw [k17]; rfl) (by decide) ?_
        refine lv_lload hx hb dX9_turned_120 (lv_at hl 1 rfl) ?_
        cases hf
        exact W.lret hx hb hr (fun t ht _ => gql hP hD hS ht) hS.2.2 dX9_turned_122
      · replace hf := ifn k17 hf
        by_cases k18 : r15 = 1
        · replace hf := ifp k18 hf
          refine lv_tableIn (tgt := 123) hx hb dX9_turned_95 (by rw [k18]; decide) (by rw [k18]; decide) (by rw [k18]; rfl) (by decide) ?_
          refine lv_lload hx hb dX9_turned_123 (lv_at hl 0 rfl) ?_
          cases hf
          exact W.lret hx hb hr (fun t ht _ => gql hP hD hS ht) hS.2.2 dX9_turned_125
        · replace hf := ifn k18 hf
          by_cases k19 : r15 = 2
          · replace hf := ifp k19 hf
            refine lv_tableIn (tgt := 126) hx hb dX9_turned_95 (by rw [k19]; decide) (by rw [k19]; decide) (by rw [k19]; rfl) (by decide) ?_
            refine lv_lload hx hb dX9_turned_126 (lv_at hl 1 rfl) ?_
            refine lv_lload hx hb dX9_turned_128 (lv_at hl 0 rfl) ?_
            refine W.lcmp hx hb dX9_turned_130 ?_
            refine lv_if_ge (tgt := 139) hx hb dX9_turned_131 (by decide) (fun k20 => ?_) (fun k20 => ?_)
            · replace hf := ifp (lc_ge.mp k20) hf
              refine lv_lload hx hb dX9_turned_139 (lv_at hl 0 rfl) ?_
              cases hf
              exact W.lret hx hb hr (fun t ht _ => gql hP hD hS ht) hS.2.2 dX9_turned_141
            · replace hf := ifn (fun h => k20 (lc_ge.mpr h)) hf
              refine lv_lload hx hb dX9_turned_134 (lv_at hl 1 rfl) ?_
              refine lv_goto (tgt := 141) hx hb dX9_turned_136 (by decide) ?_
              cases hf
              exact W.lret hx hb hr (fun t ht _ => gql hP hD hS ht) hS.2.2 dX9_turned_141
          · replace hf := ifn k19 hf
            have uk17 := lv_neT (a := 0) k17 (by decide)
            have uk18 := lv_neT (a := 1) k18 (by decide)
            have uk19 := lv_neT (a := 2) k19 (by decide)
            refine lv_tableOut (tgt := 142) hx hb dX9_turned_95 (by omega) (by decide) ?_
            refine lv_lload hx hb dX9_turned_142 (lv_at hl 1 rfl) ?_
            refine lv_lload hx hb dX9_turned_144 (lv_at hl 0 rfl) ?_
            refine W.lcmp hx hb dX9_turned_146 ?_
            refine lv_if_ge (tgt := 155) hx hb dX9_turned_147 (by decide) (fun k21 => ?_) (fun k21 => ?_)
            · replace hf := ifp (lc_ge.mp k21) hf
              refine lv_lload hx hb dX9_turned_155 (lv_at hl 1 rfl) ?_
              cases hf
              exact W.lret hx hb hr (fun t ht _ => gql hP hD hS ht) hS.2.2 dX9_turned_157
            · replace hf := ifn (fun h => k21 (lc_ge.mpr h)) hf
              refine lv_lload hx hb dX9_turned_150 (lv_at hl 0 rfl) ?_
              refine lv_goto (tgt := 157) hx hb dX9_turned_152 (by decide) ?_
              cases hf
              exact W.lret hx hb hr (fun t ht _ => gql hP hD hS ht) hS.2.2 dX9_turned_157
    · replace hf := ifp k6 hf
      refine lv_lload hx hb dX9_turned_30 (lv_at hl 0 rfl) ?_
      refine lv_goto (tgt := 51) hx hb dX9_turned_32 (by decide) ?_
      refine lv_lstore (lv' := [(7, .long w5), (5, .long w5), (0, .ref (ad 0)), (1, .int p1), (2, .int p2), (3, .int p3), (4, .int p4)]) hx hb dX9_turned_51 hl (by decide) rfl (fun ls hl => ?_)
      refine lv_aload_n hx hb dX9_turned_53 rfl (lv_at hl 2 rfl) ?_
      refine lv_iload_n hx hb dX9_turned_54 rfl (lv_at hl 3 rfl) ?_
      refine lv_iconst (v := 1) hx hb dX9_turned_55 (by decide) ?_
      obtain ⟨r22, v23, hf⟩ := bd1_some hf
      refine gci (va_runV (As := [.int p1, .int 1]) (rest := []) ⟨hx, hb, hml, hown, hts⟩ (tX9_of l dC dI dA ad H.size v23) (ccX9_X9_of hts ⟨Nat.le_of_ble_eq_true rfl, Nat.le_of_ble_eq_true rfl⟩) (gPreV (ci := 9) (q0 := 0) hP hK hD rfl rfl) rfl rfl hl.1 rfl (lv_room (Nat.le_of_ble_eq_true rfl)) dX9_turned_56 ⟨Nat.le_of_ble_eq_true rfl, Nat.le_of_ble_eq_true rfl⟩) hD hS hA (fun H locs hP hD hS => ?_)
      refine lv_i2l hx hb dX9_turned_59 rfl ?_
      refine lv_lload hx hb dX9_turned_60 (lv_at hl 1 rfl) ?_
      refine lv_lmul hx hb dX9_turned_62 ?_
      refine lv_ldc2 (v := 100) hx hb hown (hts _ (gw_mem wkX9_110)) dX9_turned_63 ?_
      refine lv_ldiv hx hb dX9_turned_66 (by decide) ?_
      refine lv_topl (fun w24 ew24 => ?_)
      replace hf := nm_at hf ew24
      refine lv_lstore (lv' := [(9, .long w24), (7, .long w5), (5, .long w5), (0, .ref (ad 0)), (1, .int p1), (2, .int p2), (3, .int p3), (4, .int p4)]) hx hb dX9_turned_67 hl (by decide) rfl (fun ls hl => ?_)
      refine lv_aload_n hx hb dX9_turned_69 rfl (lv_at hl 3 rfl) ?_
      refine lv_iload_n hx hb dX9_turned_70 rfl (lv_at hl 4 rfl) ?_
      refine lv_iconst (v := 1) hx hb dX9_turned_71 (by decide) ?_
      obtain ⟨r25, v26, hf⟩ := bd1_some hf
      refine gci (va_runV (As := [.int p1, .int 1]) (rest := []) ⟨hx, hb, hml, hown, hts⟩ (tX9_of l dC dI dA ad H.size v26) (ccX9_X9_of hts ⟨Nat.le_of_ble_eq_true rfl, Nat.le_of_ble_eq_true rfl⟩) (gPreV (ci := 9) (q0 := 0) hP hK hD rfl rfl) rfl rfl hl.1 rfl (lv_room (Nat.le_of_ble_eq_true rfl)) dX9_turned_72 ⟨Nat.le_of_ble_eq_true rfl, Nat.le_of_ble_eq_true rfl⟩) hD hS hA (fun H locs hP hD hS => ?_)
      refine lv_i2l hx hb dX9_turned_75 rfl ?_
      refine lv_lload hx hb dX9_turned_76 (lv_at hl 2 rfl) ?_
      refine lv_lload hx hb dX9_turned_78 (lv_at hl 1 rfl) ?_
      refine lv_ladd hx hb dX9_turned_80 ?_
      refine lv_lmul hx hb dX9_turned_81 ?_
      refine lv_ldc2 (v := 200) hx hb hown (hts _ (gw_mem wkX9_85)) dX9_turned_82 ?_
      refine lv_ldiv hx hb dX9_turned_85 (by decide) ?_
      refine lv_topl (fun w27 ew27 => ?_)
      replace hf := nm_at hf ew27
      refine lv_lstore (lv' := [(11, .long w27), (9, .long w24), (7, .long w5), (5, .long w5), (0, .ref (ad 0)), (1, .int p1), (2, .int p2), (3, .int p3), (4, .int p4)]) hx hb dX9_turned_86 hl (by decide) rfl (fun ls hl => ?_)
      refine lv_aload_n hx hb dX9_turned_88 rfl (lv_at hl 4 rfl) ?_
      refine lv_iload_n hx hb dX9_turned_89 rfl (lv_at hl 5 rfl) ?_
      refine lv_bipush (v := 26) hx hb dX9_turned_90 (by decide) ?_
      obtain ⟨r28, v29, hf⟩ := bd1_some hf
      refine gci (va_runV (As := [.int p1, .int 26]) (rest := []) ⟨hx, hb, hml, hown, hts⟩ (tX9_of l dC dI dA ad H.size v29) (ccX9_X9_of hts ⟨Nat.le_of_ble_eq_true rfl, Nat.le_of_ble_eq_true rfl⟩) (gPreV (ci := 9) (q0 := 0) hP hK hD rfl rfl) rfl rfl hl.1 rfl (lv_room (Nat.le_of_ble_eq_true rfl)) dX9_turned_92 ⟨Nat.le_of_ble_eq_true rfl, Nat.le_of_ble_eq_true rfl⟩) hD hS hA (fun H locs hP hD hS => ?_)
      by_cases k30 : r28 = 0
      · replace hf := ifp k30 hf
        refine lv_tableIn (tgt := 120) hx hb dX9_turned_95 (by rw [k30]; decide) (by rw [k30]; decide) (by rw [k30]; rfl) (by decide) ?_
        refine lv_lload hx hb dX9_turned_120 (lv_at hl 1 rfl) ?_
        cases hf
        exact W.lret hx hb hr (fun t ht _ => gql hP hD hS ht) hS.2.2 dX9_turned_122
      · replace hf := ifn k30 hf
        by_cases k31 : r28 = 1
        · replace hf := ifp k31 hf
          refine lv_tableIn (tgt := 123) hx hb dX9_turned_95 (by rw [k31]; decide) (by rw [k31]; decide) (by rw [k31]; rfl) (by decide) ?_
          refine lv_lload hx hb dX9_turned_123 (lv_at hl 0 rfl) ?_
          cases hf
          exact W.lret hx hb hr (fun t ht _ => gql hP hD hS ht) hS.2.2 dX9_turned_125
        · replace hf := ifn k31 hf
          by_cases k32 : r28 = 2
          · replace hf := ifp k32 hf
            refine lv_tableIn (tgt := 126) hx hb dX9_turned_95 (by rw [k32]; decide) (by rw [k32]; decide) (by rw [k32]; rfl) (by decide) ?_
            refine lv_lload hx hb dX9_turned_126 (lv_at hl 1 rfl) ?_
            refine lv_lload hx hb dX9_turned_128 (lv_at hl 0 rfl) ?_
            refine W.lcmp hx hb dX9_turned_130 ?_
            refine lv_if_ge (tgt := 139) hx hb dX9_turned_131 (by decide) (fun k33 => ?_) (fun k33 => ?_)
            · replace hf := ifp (lc_ge.mp k33) hf
              refine lv_lload hx hb dX9_turned_139 (lv_at hl 0 rfl) ?_
              cases hf
              exact W.lret hx hb hr (fun t ht _ => gql hP hD hS ht) hS.2.2 dX9_turned_141
            · replace hf := ifn (fun h => k33 (lc_ge.mpr h)) hf
              refine lv_lload hx hb dX9_turned_134 (lv_at hl 1 rfl) ?_
              refine lv_goto (tgt := 141) hx hb dX9_turned_136 (by decide) ?_
              cases hf
              exact W.lret hx hb hr (fun t ht _ => gql hP hD hS ht) hS.2.2 dX9_turned_141
          · replace hf := ifn k32 hf
            have uk30 := lv_neT (a := 0) k30 (by decide)
            have uk31 := lv_neT (a := 1) k31 (by decide)
            have uk32 := lv_neT (a := 2) k32 (by decide)
            refine lv_tableOut (tgt := 142) hx hb dX9_turned_95 (by omega) (by decide) ?_
            refine lv_lload hx hb dX9_turned_142 (lv_at hl 1 rfl) ?_
            refine lv_lload hx hb dX9_turned_144 (lv_at hl 0 rfl) ?_
            refine W.lcmp hx hb dX9_turned_146 ?_
            refine lv_if_ge (tgt := 155) hx hb dX9_turned_147 (by decide) (fun k34 => ?_) (fun k34 => ?_)
            · replace hf := ifp (lc_ge.mp k34) hf
              refine lv_lload hx hb dX9_turned_155 (lv_at hl 1 rfl) ?_
              cases hf
              exact W.lret hx hb hr (fun t ht _ => gql hP hD hS ht) hS.2.2 dX9_turned_157
            · replace hf := ifn (fun h => k34 (lc_ge.mpr h)) hf
              refine lv_lload hx hb dX9_turned_150 (lv_at hl 0 rfl) ?_
              refine lv_goto (tgt := 157) hx hb dX9_turned_152 (by decide) ?_
              cases hf
              exact W.lret hx hb hr (fun t ht _ => gql hP hD hS ht) hS.2.2 dX9_turned_157
  · replace hf := ifp k3 hf
    refine lv_ldc2 (v := (-1)) hx hb hown (hts _ (gw_mem wkX9_116)) dX9_turned_9 ?_
    cases hf
    exact W.lret hx hb hr (fun t ht _ => gql hP hD hS ht) hS.2.2 dX9_turned_12
def lpX9_marksNow_5 (x1 : Int32) (x2 : Int32) (c_bonds : Nat → Int32) : Nat → Int32 → Int32 → Option (Int32)
  | 0, _, _ => none
  | n + 1, x3, x4 => bd1 (fX9_of x1 24 c_bonds) (fun r3 => if r3 ≤ x4 then some (x3) else nm (x3 + ((x2 >>> (x4 &&& 31)) &&& 1)) (fun w6 => nm (x4 + 1) (fun w7 => lpX9_marksNow_5 x1 x2 c_bonds n w6 w7)))
def fX9_marksNow (p1 : Int32) (p2 : Int32) (c_bonds : Nat → Int32) : Option (Int32) := bd1 (lpX9_marksNow_5 p1 p2 c_bonds FU 0 0) (fun x1 => some (x1))
abbrev rmX9_marksNow : Room := { frames := 1, cells := 0, slots := 0, locals := 22 }
set_option maxHeartbeats 4000000 in
set_option maxRecDepth 100000 in
theorem tX9_marksNow (l : Launch) (dC : Nat → ClassId) (dI : Nat → Nat → Nat) (dA : Nat → ClassId) (ad : Nat → Nat) (sz : Nat) {p1 : Int32} {p2 : Int32} {c_tape : Nat → Int32} {c_taped : Int32} {c_tree : Nat → Int32} {c_bonds : Nat → Int32} {c_moves : Nat → Int32} {c_handMoves : Nat → Int32} {c_moved : Int32} {c_days : Int32} {c_likely : Int32} {c_outOf : Int32} {c_rateNow : Int32} {c_pence : Nat → Int64} {c_top : Int64} {c_bottom : Int64} {c_spot : Int32} {c_textLong : Int32} {c_fault : Int32} {c_number : Int32} {c_numberAt : Int32} {c_figures : Int32} {c_written : Int32} {c_wanted : Int32} {c_found : Int32} {c_drawnNow : Int32} {c_worth : Nat → Int64} {c_hold : Nat → Int64} {c_way : Nat → Int64} {c_acts : Nat → Int32} {c_sDay : Int32} {c_sUps : Int32} {c_sUp : Int32} {c_sMarks : Int32} {c_paidAll : Int64} {c_isPlayed : Int32} {c_isOn : Int32} {c_handMoved : Int32} {c_handPaid : Int64} {c_regret : Int64} {c_aside : Nat → Int32} {c_other : Nat → Int64} {c_states : Int32} {c_kept : Nat → Int32} {c_keptLong : Nat → Int64} {c_keptAt : Int32} {c_isTaking : Int32} {r : Int32} (hf : fX9_marksNow p1 p2 c_bonds = some (r)) : Met l yX9_marksNow (wq (Cond.code yX9_marksNow cX9_marksNow 5 (some .int))) rmX9_marksNow (gP [.ref (ad 0), .int p1, .int p2] (dC, dI) dA (mW dA ad c_tape c_taped c_tree c_bonds c_moves c_handMoves c_moved c_days c_likely c_outOf c_rateNow c_pence c_top c_bottom c_spot c_textLong c_fault c_number c_numberAt c_figures c_written c_wanted c_found c_drawnNow c_worth c_hold c_way c_acts c_sDay c_sUps c_sUp c_sMarks c_paidAll c_isPlayed c_isOn c_handMoved c_handPaid c_regret c_aside c_other c_states c_kept c_keptLong c_keptAt c_isTaking) sz) (gQi (dC, dI) r (mW dA ad c_tape c_taped c_tree c_bonds c_moves c_handMoves c_moved c_days c_likely c_outOf c_rateNow c_pence c_top c_bottom c_spot c_textLong c_fault c_number c_numberAt c_figures c_written c_wanted c_found c_drawnNow c_worth c_hold c_way c_acts c_sDay c_sUps c_sUp c_sMarks c_paidAll c_isPlayed c_isOn c_handMoved c_handPaid c_regret c_aside c_other c_states c_kept c_keptLong c_keptAt c_isTaking) (va_A (mW dA ad c_tape c_taped c_tree c_bonds c_moves c_handMoves c_moved c_days c_likely c_outOf c_rateNow c_pence c_top c_bottom c_spot c_textLong c_fault c_number c_numberAt c_figures c_written c_wanted c_found c_drawnNow c_worth c_hold c_way c_acts c_sDay c_sUps c_sUp c_sMarks c_paidAll c_isPlayed c_isOn c_handMoved c_handPaid c_regret c_aside c_other c_states c_kept c_keptLong c_keptAt c_isTaking) sz)) 0 0 (va_A (mW dA ad c_tape c_taped c_tree c_bonds c_moves c_handMoves c_moved c_days c_likely c_outOf c_rateNow c_pence c_top c_bottom c_spot c_textLong c_fault c_number c_numberAt c_figures c_written c_wanted c_found c_drawnNow c_worth c_hold c_way c_acts c_sDay c_sUps c_sUp c_sMarks c_paidAll c_isPlayed c_isOn c_handMoved c_handPaid c_regret c_aside c_other c_states c_kept c_keptLong c_keptAt c_isTaking) sz) := by
  refine Met.ofW (cc := cX9_marksNow) (maxL := 5) (ret := (some .int)) (by decide) rfl ?_
  intro p e s m args below meth c s₁ B hml hv
  obtain ⟨rfl, hsz, hP, hK, hD0⟩ := hv
  have hx := B.exec
  have hb := B.bytes
  have hr := B.returns
  have hts := atoms_spec (ws := wq (Cond.code yX9_marksNow cX9_marksNow 5 (some .int))) B.pre
  have hown : s.vm.findClass RX9 = some m.cls := findClass_of_methodNamed B.named
  have hlocks := B.notSynchronized
  clear B
  subst hsz
  have hD := hD0.self (sz := s.heap.size)
  generalize hAe : va_A (mW dA ad c_tape c_taped c_tree c_bonds c_moves c_handMoves c_moved c_days c_likely c_outOf c_rateNow c_pence c_top c_bottom c_spot c_textLong c_fault c_number c_numberAt c_figures c_written c_wanted c_found c_drawnNow c_worth c_hold c_way c_acts c_sDay c_sUps c_sUp c_sMarks c_paidAll c_isPlayed c_isOn c_handMoved c_handPaid c_regret c_aside c_other c_states c_kept c_keptLong c_keptAt c_isTaking) s.heap.size = A at hD ⊢
  have hA : ∀ q : Nat, s.heap.size ≤ q → A q := fun q h => by rw [← hAe]; exact Or.inr h
  clear hAe hD0
  have hS : va_S A s.heap s.heap [] := va_S.rf
  have hl := lv_entry ([.ref (ad 0), .int p1, .int p2]) (n := 5) (Nat.le_of_ble_eq_true rfl)
  rw [lg_entry_eq]
  generalize (lg_sl ([.ref (ad 0), .int p1, .int p2]) ++ List.replicate (5 - (lg_sl ([.ref (ad 0), .int p1, .int p2])).length) Slot.unset).toArray = ls at hl ⊢
  have hl : lv_has ls 5 [(0, .ref (ad 0)), (1, .int p1), (2, .int p2)] := hl
  change W p l e rmX9_marksNow s m ([.ref (ad 0), .int p1, .int p2] : List Value).toArray below meth c s.heap [] 0 0 _ _
  generalize hQ : MQ below (gQi (dC, dI) r (mW dA ad c_tape c_taped c_tree c_bonds c_moves c_handMoves c_moved c_days c_likely c_outOf c_rateNow c_pence c_top c_bottom c_spot c_textLong c_fault c_number c_numberAt c_figures c_written c_wanted c_found c_drawnNow c_worth c_hold c_way c_acts c_sDay c_sUps c_sUp c_sMarks c_paidAll c_isPlayed c_isOn c_handMoved c_handPaid c_regret c_aside c_other c_states c_kept c_keptLong c_keptAt c_isTaking) A) ([.ref (ad 0), .int p1, .int p2] : List Value).toArray s 0 0 A = Q
  have LP5 : ∀ (n : Nat) (x1 : Int32) (x2 : Int32) (c_bonds : Nat → Int32) (c_tape : Nat → Int32) (c_taped : Int32) (c_tree : Nat → Int32) (c_moves : Nat → Int32) (c_handMoves : Nat → Int32) (c_moved : Int32) (c_days : Int32) (c_likely : Int32) (c_outOf : Int32) (c_rateNow : Int32) (c_pence : Nat → Int64) (c_top : Int64) (c_bottom : Int64) (c_spot : Int32) (c_textLong : Int32) (c_fault : Int32) (c_number : Int32) (c_numberAt : Int32) (c_figures : Int32) (c_written : Int32) (c_wanted : Int32) (c_found : Int32) (c_drawnNow : Int32) (c_worth : Nat → Int64) (c_hold : Nat → Int64) (c_way : Nat → Int64) (c_acts : Nat → Int32) (c_sDay : Int32) (c_sUps : Int32) (c_sUp : Int32) (c_sMarks : Int32) (c_paidAll : Int64) (c_isPlayed : Int32) (c_isOn : Int32) (c_handMoved : Int32) (c_handPaid : Int64) (c_regret : Int64) (c_aside : Nat → Int32) (c_other : Nat → Int64) (c_states : Int32) (c_kept : Nat → Int32) (c_keptLong : Nat → Int64) (c_keptAt : Int32) (c_isTaking : Int32) (x3 : Int32) (x4 : Int32) (o3 : Int32) (H : Heap) (locs : List Loc) (ls : Array Slot), va_P (dC, dI) vwCl (mW dA ad c_tape c_taped c_tree c_bonds c_moves c_handMoves c_moved c_days c_likely c_outOf c_rateNow c_pence c_top c_bottom c_spot c_textLong c_fault c_number c_numberAt c_figures c_written c_wanted c_found c_drawnNow c_worth c_hold c_way c_acts c_sDay c_sUps c_sUp c_sMarks c_paidAll c_isPlayed c_isOn c_handMoved c_handPaid c_regret c_aside c_other c_states c_kept c_keptLong c_keptAt c_isTaking) H → va_D A (mW dA ad c_tape c_taped c_tree c_bonds c_moves c_handMoves c_moved c_days c_likely c_outOf c_rateNow c_pence c_top c_bottom c_spot c_textLong c_fault c_number c_numberAt c_figures c_written c_wanted c_found c_drawnNow c_worth c_hold c_way c_acts c_sDay c_sUps c_sUp c_sMarks c_paidAll c_isPlayed c_isOn c_handMoved c_handPaid c_regret c_aside c_other c_states c_kept c_keptLong c_keptAt c_isTaking) → va_S A s.heap H locs → lpX9_marksNow_5 x1 x2 c_bonds n x3 x4 = some (o3) → lv_has ls 5 [(0, .ref (ad 0)), (1, .int x1), (2, .int x2), (3, .int x3), (4, .int x4)] → (∀ (H : Heap) (locs : List Loc) (ls : Array Slot), va_P (dC, dI) vwCl (mW dA ad c_tape c_taped c_tree c_bonds c_moves c_handMoves c_moved c_days c_likely c_outOf c_rateNow c_pence c_top c_bottom c_spot c_textLong c_fault c_number c_numberAt c_figures c_written c_wanted c_found c_drawnNow c_worth c_hold c_way c_acts c_sDay c_sUps c_sUp c_sMarks c_paidAll c_isPlayed c_isOn c_handMoved c_handPaid c_regret c_aside c_other c_states c_kept c_keptLong c_keptAt c_isTaking) H → va_D A (mW dA ad c_tape c_taped c_tree c_bonds c_moves c_handMoves c_moved c_days c_likely c_outOf c_rateNow c_pence c_top c_bottom c_spot c_textLong c_fault c_number c_numberAt c_figures c_written c_wanted c_found c_drawnNow c_worth c_hold c_way c_acts c_sDay c_sUps c_sUp c_sMarks c_paidAll c_isPlayed c_isOn c_handMoved c_handPaid c_regret c_aside c_other c_states c_kept c_keptLong c_keptAt c_isTaking) → va_S A s.heap H locs → lv_has ls 5 [(3, .int o3)] → W p l e rmX9_marksNow s m ([.ref (ad 0), .int p1, .int p2] : List Value).toArray below meth c H locs 0 0 Q (F0 m 32 ls [])) → W p l e rmX9_marksNow s m ([.ref (ad 0), .int p1, .int p2] : List Value).toArray below meth c H locs 0 0 Q (F0 m 5 ls []) := by
    intro n
    induction n with
    | zero =>
      intro x1 x2 c_bonds c_tape c_taped c_tree c_moves c_handMoves c_moved c_days c_likely c_outOf c_rateNow c_pence c_top c_bottom c_spot c_textLong c_fault c_number c_numberAt c_figures c_written c_wanted c_found c_drawnNow c_worth c_hold c_way c_acts c_sDay c_sUps c_sUp c_sMarks c_paidAll c_isPlayed c_isOn c_handMoved c_handPaid c_regret c_aside c_other c_states c_kept c_keptLong c_keptAt c_isTaking x3 x4 o3 H locs ls hP hD hS hf hl hk
      cases hf
    | succ n ih5 =>
      intro x1 x2 c_bonds c_tape c_taped c_tree c_moves c_handMoves c_moved c_days c_likely c_outOf c_rateNow c_pence c_top c_bottom c_spot c_textLong c_fault c_number c_numberAt c_figures c_written c_wanted c_found c_drawnNow c_worth c_hold c_way c_acts c_sDay c_sUps c_sUp c_sMarks c_paidAll c_isPlayed c_isOn c_handMoved c_handPaid c_regret c_aside c_other c_states c_kept c_keptLong c_keptAt c_isTaking x3 x4 o3 H locs ls hP hD hS hf hl hk
      rw [lpX9_marksNow_5.eq_2] at hf
      refine lv_iload hx hb dX9_marksNow_5 (lv_at hl 4 rfl) ?_
      refine lv_aload_n hx hb dX9_marksNow_7 rfl (lv_at hl 0 rfl) ?_
      refine lv_iload_n hx hb dX9_marksNow_8 rfl (lv_at hl 1 rfl) ?_
      refine lv_bipush (v := 24) hx hb dX9_marksNow_9 (by decide) ?_
      obtain ⟨r3, v4, hf⟩ := bd1_some hf
      refine gci (va_runV (As := [.int x1, .int 24]) (rest := [.int x4]) ⟨hx, hb, hml, hown, hts⟩ (tX9_of l dC dI dA ad H.size v4) (ccX9_X9_of hts ⟨Nat.le_of_ble_eq_true rfl, Nat.le_of_ble_eq_true rfl⟩) (gPreV (ci := 9) (q0 := 0) hP hK hD rfl rfl) rfl rfl hl.1 rfl (lv_room (Nat.le_of_ble_eq_true rfl)) dX9_marksNow_11 ⟨Nat.le_of_ble_eq_true rfl, Nat.le_of_ble_eq_true rfl⟩) hD hS hA (fun H locs hP hD hS => ?_)
      refine lv_icmp_ge (tgt := 32) hx hb dX9_marksNow_14 (by decide) (fun k5 => ?_) (fun k5 => ?_)
      · replace hf := ifp k5 hf
        cases hf
        exact hk _ _ _ hP hD hS (lv_sub hl [3] rfl)
      · replace hf := ifn k5 hf
        refine lv_iload_n hx hb dX9_marksNow_17 rfl (lv_at hl 3 rfl) ?_
        refine lv_iload_n hx hb dX9_marksNow_18 rfl (lv_at hl 2 rfl) ?_
        refine lv_iload hx hb dX9_marksNow_19 (lv_at hl 4 rfl) ?_
        refine lv_ishr hx hb dX9_marksNow_21 ?_
        refine lv_iconst (v := 1) hx hb dX9_marksNow_22 (by decide) ?_
        refine lv_iand hx hb dX9_marksNow_23 ?_
        refine lv_iadd hx hb dX9_marksNow_24 ?_
        refine lv_topi (fun w6 ew6 => ?_)
        replace hf := nm_at hf ew6
        refine lv_istore_n (lv' := [(3, .int w6), (0, .ref (ad 0)), (1, .int x1), (2, .int x2), (4, .int x4)]) hx hb dX9_marksNow_25 rfl hl (by decide) rfl (fun ls hl => ?_)
        obtain ⟨w7, ew7⟩ : ∃ y : Int32, y = x4 + 1 := ⟨_, rfl⟩
        replace hf := nm_at hf ew7
        refine lv_iinc (v := w7) (lv' := [(4, .int w7), (3, .int w6), (0, .ref (ad 0)), (1, .int x1), (2, .int x2)]) hx hb dX9_marksNow_26 hl (k := 4) rfl (by rw [ew7]; rfl) (by decide) rfl (fun ls hl => ?_)
        refine lv_goto (tgt := 5) hx hb dX9_marksNow_29 (by decide) ?_
        exact ih5 _ _ _ _ _ _ _ _ _ _ _ _ _ _ _ _ _ _ _ _ _ _ _ _ _ _ _ _ _ _ _ _ _ _ _ _ _ _ _ _ _ _ _ _ _ _ _ _ _ _ _ _ _ hP hD hS hf (lv_sub hl [2, 3, 4, 1, 0] rfl) hk
  subst hQ
  unfold fX9_marksNow at hf
  refine lv_iconst (v := 0) hx hb dX9_marksNow_0 (by decide) ?_
  refine lv_istore_n (lv' := [(3, .int 0), (0, .ref (ad 0)), (1, .int p1), (2, .int p2)]) hx hb dX9_marksNow_1 rfl hl (by decide) rfl (fun ls hl => ?_)
  refine lv_iconst (v := 0) hx hb dX9_marksNow_2 (by decide) ?_
  refine lv_istore (lv' := [(4, .int 0), (3, .int 0), (0, .ref (ad 0)), (1, .int p1), (2, .int p2)]) hx hb dX9_marksNow_3 hl (by decide) rfl (fun ls hl => ?_)
  obtain ⟨x1, v2, hf⟩ := bd1_some hf
  refine LP5 FU _ _ _ _ _ _ _ _ _ _ _ _ _ _ _ _ _ _ _ _ _ _ _ _ _ _ _ _ _ _ _ _ _ _ _ _ _ _ _ _ _ _ _ _ _ _ _ _ _ _ _ _ _ hP hD hS v2 (lv_sub hl [2, 3, 4, 1, 0] rfl) (fun H locs ls hP hD hS hl => ?_)
  refine lv_iload_n hx hb dX9_marksNow_32 rfl (lv_at hl 0 rfl) ?_
  cases hf
  exact W.iret hx hb hr (fun t ht _ => gqi hP hD hS ht) hS.2.2 dX9_marksNow_33
def fX9_callOf (p1 : Int32) (p2 : Int32) (c_bonds : Nat → Int32) (c_days : Int32) : Option (Int32) := if c_days ≤ p2 then some ((-1)) else bd1 (fX9_of p1 (9 + p2) c_bonds) (fun r2 => some (r2))
abbrev rmX9_callOf : Room := { frames := 1, cells := 0, slots := 0, locals := 22 }
set_option maxHeartbeats 4000000 in
set_option maxRecDepth 100000 in
theorem tX9_callOf (l : Launch) (dC : Nat → ClassId) (dI : Nat → Nat → Nat) (dA : Nat → ClassId) (ad : Nat → Nat) (sz : Nat) {p1 : Int32} {p2 : Int32} {c_tape : Nat → Int32} {c_taped : Int32} {c_tree : Nat → Int32} {c_bonds : Nat → Int32} {c_moves : Nat → Int32} {c_handMoves : Nat → Int32} {c_moved : Int32} {c_days : Int32} {c_likely : Int32} {c_outOf : Int32} {c_rateNow : Int32} {c_pence : Nat → Int64} {c_top : Int64} {c_bottom : Int64} {c_spot : Int32} {c_textLong : Int32} {c_fault : Int32} {c_number : Int32} {c_numberAt : Int32} {c_figures : Int32} {c_written : Int32} {c_wanted : Int32} {c_found : Int32} {c_drawnNow : Int32} {c_worth : Nat → Int64} {c_hold : Nat → Int64} {c_way : Nat → Int64} {c_acts : Nat → Int32} {c_sDay : Int32} {c_sUps : Int32} {c_sUp : Int32} {c_sMarks : Int32} {c_paidAll : Int64} {c_isPlayed : Int32} {c_isOn : Int32} {c_handMoved : Int32} {c_handPaid : Int64} {c_regret : Int64} {c_aside : Nat → Int32} {c_other : Nat → Int64} {c_states : Int32} {c_kept : Nat → Int32} {c_keptLong : Nat → Int64} {c_keptAt : Int32} {c_isTaking : Int32} {r : Int32} (hf : fX9_callOf p1 p2 c_bonds c_days = some (r)) : Met l yX9_callOf (wq (Cond.code yX9_callOf cX9_callOf 3 (some .int))) rmX9_callOf (gP [.ref (ad 0), .int p1, .int p2] (dC, dI) dA (mW dA ad c_tape c_taped c_tree c_bonds c_moves c_handMoves c_moved c_days c_likely c_outOf c_rateNow c_pence c_top c_bottom c_spot c_textLong c_fault c_number c_numberAt c_figures c_written c_wanted c_found c_drawnNow c_worth c_hold c_way c_acts c_sDay c_sUps c_sUp c_sMarks c_paidAll c_isPlayed c_isOn c_handMoved c_handPaid c_regret c_aside c_other c_states c_kept c_keptLong c_keptAt c_isTaking) sz) (gQi (dC, dI) r (mW dA ad c_tape c_taped c_tree c_bonds c_moves c_handMoves c_moved c_days c_likely c_outOf c_rateNow c_pence c_top c_bottom c_spot c_textLong c_fault c_number c_numberAt c_figures c_written c_wanted c_found c_drawnNow c_worth c_hold c_way c_acts c_sDay c_sUps c_sUp c_sMarks c_paidAll c_isPlayed c_isOn c_handMoved c_handPaid c_regret c_aside c_other c_states c_kept c_keptLong c_keptAt c_isTaking) (va_A (mW dA ad c_tape c_taped c_tree c_bonds c_moves c_handMoves c_moved c_days c_likely c_outOf c_rateNow c_pence c_top c_bottom c_spot c_textLong c_fault c_number c_numberAt c_figures c_written c_wanted c_found c_drawnNow c_worth c_hold c_way c_acts c_sDay c_sUps c_sUp c_sMarks c_paidAll c_isPlayed c_isOn c_handMoved c_handPaid c_regret c_aside c_other c_states c_kept c_keptLong c_keptAt c_isTaking) sz)) 0 0 (va_A (mW dA ad c_tape c_taped c_tree c_bonds c_moves c_handMoves c_moved c_days c_likely c_outOf c_rateNow c_pence c_top c_bottom c_spot c_textLong c_fault c_number c_numberAt c_figures c_written c_wanted c_found c_drawnNow c_worth c_hold c_way c_acts c_sDay c_sUps c_sUp c_sMarks c_paidAll c_isPlayed c_isOn c_handMoved c_handPaid c_regret c_aside c_other c_states c_kept c_keptLong c_keptAt c_isTaking) sz) := by
  refine Met.ofW (cc := cX9_callOf) (maxL := 3) (ret := (some .int)) (by decide) rfl ?_
  intro p e s m args below meth c s₁ B hml hv
  obtain ⟨rfl, hsz, hP, hK, hD0⟩ := hv
  have hx := B.exec
  have hb := B.bytes
  have hr := B.returns
  have hts := atoms_spec (ws := wq (Cond.code yX9_callOf cX9_callOf 3 (some .int))) B.pre
  have hown : s.vm.findClass RX9 = some m.cls := findClass_of_methodNamed B.named
  have hlocks := B.notSynchronized
  clear B
  subst hsz
  have hD := hD0.self (sz := s.heap.size)
  generalize hAe : va_A (mW dA ad c_tape c_taped c_tree c_bonds c_moves c_handMoves c_moved c_days c_likely c_outOf c_rateNow c_pence c_top c_bottom c_spot c_textLong c_fault c_number c_numberAt c_figures c_written c_wanted c_found c_drawnNow c_worth c_hold c_way c_acts c_sDay c_sUps c_sUp c_sMarks c_paidAll c_isPlayed c_isOn c_handMoved c_handPaid c_regret c_aside c_other c_states c_kept c_keptLong c_keptAt c_isTaking) s.heap.size = A at hD ⊢
  have hA : ∀ q : Nat, s.heap.size ≤ q → A q := fun q h => by rw [← hAe]; exact Or.inr h
  clear hAe hD0
  have hS : va_S A s.heap s.heap [] := va_S.rf
  have hl := lv_entry ([.ref (ad 0), .int p1, .int p2]) (n := 3) (Nat.le_of_ble_eq_true rfl)
  rw [lg_entry_eq]
  generalize (lg_sl ([.ref (ad 0), .int p1, .int p2]) ++ List.replicate (3 - (lg_sl ([.ref (ad 0), .int p1, .int p2])).length) Slot.unset).toArray = ls at hl ⊢
  have hl : lv_has ls 3 [(0, .ref (ad 0)), (1, .int p1), (2, .int p2)] := hl
  change W p l e rmX9_callOf s m ([.ref (ad 0), .int p1, .int p2] : List Value).toArray below meth c s.heap [] 0 0 _ _
  unfold fX9_callOf at hf
  refine lv_iload_n hx hb dX9_callOf_0 rfl (lv_at hl 2 rfl) ?_
  refine lv_aload_n hx hb dX9_callOf_1 rfl (lv_at hl 0 rfl) ?_
  refine va_get (D := (dC, dI)) (ci := 9) (v := .int c_days) (C := RX9) (T := TX9) (N := 45) hx hb hts (fun w h => gw_mem (inX9 w h)) hown hK.1 hP 0 rfl rfl 7 (by decide) (hts _ (gw_mem wfX9_94)) (fun _ h9 => h9) rfl dX9_callOf_2 ?_
  refine lv_icmp_ge (tgt := 20) hx hb dX9_callOf_5 (by decide) (fun k1 => ?_) (fun k1 => ?_)
  · replace hf := ifp k1 hf
    refine lv_iconst (v := (-1)) hx hb dX9_callOf_20 (by decide) ?_
    cases hf
    exact W.iret hx hb hr (fun t ht _ => gqi hP hD hS ht) hS.2.2 dX9_callOf_21
  · replace hf := ifn k1 hf
    refine lv_aload_n hx hb dX9_callOf_8 rfl (lv_at hl 0 rfl) ?_
    refine lv_iload_n hx hb dX9_callOf_9 rfl (lv_at hl 1 rfl) ?_
    refine lv_bipush (v := 9) hx hb dX9_callOf_10 (by decide) ?_
    refine lv_iload_n hx hb dX9_callOf_12 rfl (lv_at hl 2 rfl) ?_
    refine lv_iadd hx hb dX9_callOf_13 ?_
    obtain ⟨r2, v3, hf⟩ := bd1_some hf
    refine gci (va_runV (As := [.int p1, .int (9 + p2)]) (rest := []) ⟨hx, hb, hml, hown, hts⟩ (tX9_of l dC dI dA ad s.heap.size v3) (ccX9_X9_of hts ⟨Nat.le_of_ble_eq_true rfl, Nat.le_of_ble_eq_true rfl⟩) (gPreV (ci := 9) (q0 := 0) hP hK hD rfl rfl) rfl rfl hl.1 rfl (lv_room (Nat.le_of_ble_eq_true rfl)) dX9_callOf_14 ⟨Nat.le_of_ble_eq_true rfl, Nat.le_of_ble_eq_true rfl⟩) hD hS hA (fun H locs hP hD hS => ?_)
    refine lv_goto (tgt := 21) hx hb dX9_callOf_17 (by decide) ?_
    cases hf
    exact W.iret hx hb hr (fun t ht _ => gqi hP hD hS ht) hS.2.2 dX9_callOf_21
def fX9_putOf (p1 : Int32) (p2 : Int32) (c_bonds : Nat → Int32) (c_days : Int32) : Option (Int32) := if c_days ≤ p2 then some ((-1)) else bd1 (fX9_of p1 (15 + p2) c_bonds) (fun r2 => some (r2))
abbrev rmX9_putOf : Room := { frames := 1, cells := 0, slots := 0, locals := 22 }
set_option maxHeartbeats 4000000 in
set_option maxRecDepth 100000 in
theorem tX9_putOf (l : Launch) (dC : Nat → ClassId) (dI : Nat → Nat → Nat) (dA : Nat → ClassId) (ad : Nat → Nat) (sz : Nat) {p1 : Int32} {p2 : Int32} {c_tape : Nat → Int32} {c_taped : Int32} {c_tree : Nat → Int32} {c_bonds : Nat → Int32} {c_moves : Nat → Int32} {c_handMoves : Nat → Int32} {c_moved : Int32} {c_days : Int32} {c_likely : Int32} {c_outOf : Int32} {c_rateNow : Int32} {c_pence : Nat → Int64} {c_top : Int64} {c_bottom : Int64} {c_spot : Int32} {c_textLong : Int32} {c_fault : Int32} {c_number : Int32} {c_numberAt : Int32} {c_figures : Int32} {c_written : Int32} {c_wanted : Int32} {c_found : Int32} {c_drawnNow : Int32} {c_worth : Nat → Int64} {c_hold : Nat → Int64} {c_way : Nat → Int64} {c_acts : Nat → Int32} {c_sDay : Int32} {c_sUps : Int32} {c_sUp : Int32} {c_sMarks : Int32} {c_paidAll : Int64} {c_isPlayed : Int32} {c_isOn : Int32} {c_handMoved : Int32} {c_handPaid : Int64} {c_regret : Int64} {c_aside : Nat → Int32} {c_other : Nat → Int64} {c_states : Int32} {c_kept : Nat → Int32} {c_keptLong : Nat → Int64} {c_keptAt : Int32} {c_isTaking : Int32} {r : Int32} (hf : fX9_putOf p1 p2 c_bonds c_days = some (r)) : Met l yX9_putOf (wq (Cond.code yX9_putOf cX9_putOf 3 (some .int))) rmX9_putOf (gP [.ref (ad 0), .int p1, .int p2] (dC, dI) dA (mW dA ad c_tape c_taped c_tree c_bonds c_moves c_handMoves c_moved c_days c_likely c_outOf c_rateNow c_pence c_top c_bottom c_spot c_textLong c_fault c_number c_numberAt c_figures c_written c_wanted c_found c_drawnNow c_worth c_hold c_way c_acts c_sDay c_sUps c_sUp c_sMarks c_paidAll c_isPlayed c_isOn c_handMoved c_handPaid c_regret c_aside c_other c_states c_kept c_keptLong c_keptAt c_isTaking) sz) (gQi (dC, dI) r (mW dA ad c_tape c_taped c_tree c_bonds c_moves c_handMoves c_moved c_days c_likely c_outOf c_rateNow c_pence c_top c_bottom c_spot c_textLong c_fault c_number c_numberAt c_figures c_written c_wanted c_found c_drawnNow c_worth c_hold c_way c_acts c_sDay c_sUps c_sUp c_sMarks c_paidAll c_isPlayed c_isOn c_handMoved c_handPaid c_regret c_aside c_other c_states c_kept c_keptLong c_keptAt c_isTaking) (va_A (mW dA ad c_tape c_taped c_tree c_bonds c_moves c_handMoves c_moved c_days c_likely c_outOf c_rateNow c_pence c_top c_bottom c_spot c_textLong c_fault c_number c_numberAt c_figures c_written c_wanted c_found c_drawnNow c_worth c_hold c_way c_acts c_sDay c_sUps c_sUp c_sMarks c_paidAll c_isPlayed c_isOn c_handMoved c_handPaid c_regret c_aside c_other c_states c_kept c_keptLong c_keptAt c_isTaking) sz)) 0 0 (va_A (mW dA ad c_tape c_taped c_tree c_bonds c_moves c_handMoves c_moved c_days c_likely c_outOf c_rateNow c_pence c_top c_bottom c_spot c_textLong c_fault c_number c_numberAt c_figures c_written c_wanted c_found c_drawnNow c_worth c_hold c_way c_acts c_sDay c_sUps c_sUp c_sMarks c_paidAll c_isPlayed c_isOn c_handMoved c_handPaid c_regret c_aside c_other c_states c_kept c_keptLong c_keptAt c_isTaking) sz) := by
  refine Met.ofW (cc := cX9_putOf) (maxL := 3) (ret := (some .int)) (by decide) rfl ?_
  intro p e s m args below meth c s₁ B hml hv
  obtain ⟨rfl, hsz, hP, hK, hD0⟩ := hv
  have hx := B.exec
  have hb := B.bytes
  have hr := B.returns
  have hts := atoms_spec (ws := wq (Cond.code yX9_putOf cX9_putOf 3 (some .int))) B.pre
  have hown : s.vm.findClass RX9 = some m.cls := findClass_of_methodNamed B.named
  have hlocks := B.notSynchronized
  clear B
  subst hsz
  have hD := hD0.self (sz := s.heap.size)
  generalize hAe : va_A (mW dA ad c_tape c_taped c_tree c_bonds c_moves c_handMoves c_moved c_days c_likely c_outOf c_rateNow c_pence c_top c_bottom c_spot c_textLong c_fault c_number c_numberAt c_figures c_written c_wanted c_found c_drawnNow c_worth c_hold c_way c_acts c_sDay c_sUps c_sUp c_sMarks c_paidAll c_isPlayed c_isOn c_handMoved c_handPaid c_regret c_aside c_other c_states c_kept c_keptLong c_keptAt c_isTaking) s.heap.size = A at hD ⊢
  have hA : ∀ q : Nat, s.heap.size ≤ q → A q := fun q h => by rw [← hAe]; exact Or.inr h
  clear hAe hD0
  have hS : va_S A s.heap s.heap [] := va_S.rf
  have hl := lv_entry ([.ref (ad 0), .int p1, .int p2]) (n := 3) (Nat.le_of_ble_eq_true rfl)
  rw [lg_entry_eq]
  generalize (lg_sl ([.ref (ad 0), .int p1, .int p2]) ++ List.replicate (3 - (lg_sl ([.ref (ad 0), .int p1, .int p2])).length) Slot.unset).toArray = ls at hl ⊢
  have hl : lv_has ls 3 [(0, .ref (ad 0)), (1, .int p1), (2, .int p2)] := hl
  change W p l e rmX9_putOf s m ([.ref (ad 0), .int p1, .int p2] : List Value).toArray below meth c s.heap [] 0 0 _ _
  unfold fX9_putOf at hf
  refine lv_iload_n hx hb dX9_putOf_0 rfl (lv_at hl 2 rfl) ?_
  refine lv_aload_n hx hb dX9_putOf_1 rfl (lv_at hl 0 rfl) ?_
  refine va_get (D := (dC, dI)) (ci := 9) (v := .int c_days) (C := RX9) (T := TX9) (N := 45) hx hb hts (fun w h => gw_mem (inX9 w h)) hown hK.1 hP 0 rfl rfl 7 (by decide) (hts _ (gw_mem wfX9_94)) (fun _ h9 => h9) rfl dX9_putOf_2 ?_
  refine lv_icmp_ge (tgt := 20) hx hb dX9_putOf_5 (by decide) (fun k1 => ?_) (fun k1 => ?_)
  · replace hf := ifp k1 hf
    refine lv_iconst (v := (-1)) hx hb dX9_putOf_20 (by decide) ?_
    cases hf
    exact W.iret hx hb hr (fun t ht _ => gqi hP hD hS ht) hS.2.2 dX9_putOf_21
  · replace hf := ifn k1 hf
    refine lv_aload_n hx hb dX9_putOf_8 rfl (lv_at hl 0 rfl) ?_
    refine lv_iload_n hx hb dX9_putOf_9 rfl (lv_at hl 1 rfl) ?_
    refine lv_bipush (v := 15) hx hb dX9_putOf_10 (by decide) ?_
    refine lv_iload_n hx hb dX9_putOf_12 rfl (lv_at hl 2 rfl) ?_
    refine lv_iadd hx hb dX9_putOf_13 ?_
    obtain ⟨r2, v3, hf⟩ := bd1_some hf
    refine gci (va_runV (As := [.int p1, .int (15 + p2)]) (rest := []) ⟨hx, hb, hml, hown, hts⟩ (tX9_of l dC dI dA ad s.heap.size v3) (ccX9_X9_of hts ⟨Nat.le_of_ble_eq_true rfl, Nat.le_of_ble_eq_true rfl⟩) (gPreV (ci := 9) (q0 := 0) hP hK hD rfl rfl) rfl rfl hl.1 rfl (lv_room (Nat.le_of_ble_eq_true rfl)) dX9_putOf_14 ⟨Nat.le_of_ble_eq_true rfl, Nat.le_of_ble_eq_true rfl⟩) hD hS hA (fun H locs hP hD hS => ?_)
    refine lv_goto (tgt := 21) hx hb dX9_putOf_17 (by decide) ?_
    cases hf
    exact W.iret hx hb hr (fun t ht _ => gqi hP hD hS ht) hS.2.2 dX9_putOf_21
theorem ccX9_X9_callOf {R : Room} {s : State} {args : Array Value} {c0 : Cond} (ht : ∀ w ∈ wq c0, w.before args s = true) (hR : rmX9_callOf.frames + 1 ≤ R.frames ∧ 8 + (3 + 11) + rmX9_callOf.locals ≤ R.locals) : CallW R s args RX9 RX9 257 yX9_callOf cX9_callOf 3 (some .int) (wq (.code yX9_callOf cX9_callOf 3 (some .int))) rmX9_callOf 0 0 2 := gCW 2 ht wcX9_callOf wmX9_257 wiX9_callOf weX9_callOf wnX9 (by decide +kernel) rfl rfl hR
theorem ccX9_X9_marksNow {R : Room} {s : State} {args : Array Value} {c0 : Cond} (ht : ∀ w ∈ wq c0, w.before args s = true) (hR : rmX9_marksNow.frames + 1 ≤ R.frames ∧ 8 + (5 + 11) + rmX9_marksNow.locals ≤ R.locals) : CallW R s args RX9 RX9 260 yX9_marksNow cX9_marksNow 5 (some .int) (wq (.code yX9_marksNow cX9_marksNow 5 (some .int))) rmX9_marksNow 0 0 2 := gCW 2 ht wcX9_marksNow wmX9_260 wiX9_marksNow weX9_marksNow wnX9 (by decide +kernel) rfl rfl hR
def fX9_isFree (p1 : Int32) (p2 : Int32) (p3 : Int32) (c_bonds : Nat → Int32) (c_days : Int32) : Option (Int32) := bd1 (fX9_callOf p1 p2 c_bonds c_days) (fun r1 => if r1 = (-1) then some (0) else bd1 (fX9_marksNow p1 p3 c_bonds) (fun r4 => bd1 (fX9_of p1 23 c_bonds) (fun r6 => if r4 < r6 then some (0) else some (1))))
abbrev rmX9_isFree : Room := { frames := 2, cells := 0, slots := 0, locals := 46 }
set_option maxHeartbeats 4000000 in
set_option maxRecDepth 100000 in
theorem tX9_isFree (l : Launch) (dC : Nat → ClassId) (dI : Nat → Nat → Nat) (dA : Nat → ClassId) (ad : Nat → Nat) (sz : Nat) {p1 : Int32} {p2 : Int32} {p3 : Int32} {c_tape : Nat → Int32} {c_taped : Int32} {c_tree : Nat → Int32} {c_bonds : Nat → Int32} {c_moves : Nat → Int32} {c_handMoves : Nat → Int32} {c_moved : Int32} {c_days : Int32} {c_likely : Int32} {c_outOf : Int32} {c_rateNow : Int32} {c_pence : Nat → Int64} {c_top : Int64} {c_bottom : Int64} {c_spot : Int32} {c_textLong : Int32} {c_fault : Int32} {c_number : Int32} {c_numberAt : Int32} {c_figures : Int32} {c_written : Int32} {c_wanted : Int32} {c_found : Int32} {c_drawnNow : Int32} {c_worth : Nat → Int64} {c_hold : Nat → Int64} {c_way : Nat → Int64} {c_acts : Nat → Int32} {c_sDay : Int32} {c_sUps : Int32} {c_sUp : Int32} {c_sMarks : Int32} {c_paidAll : Int64} {c_isPlayed : Int32} {c_isOn : Int32} {c_handMoved : Int32} {c_handPaid : Int64} {c_regret : Int64} {c_aside : Nat → Int32} {c_other : Nat → Int64} {c_states : Int32} {c_kept : Nat → Int32} {c_keptLong : Nat → Int64} {c_keptAt : Int32} {c_isTaking : Int32} {r : Int32} (hf : fX9_isFree p1 p2 p3 c_bonds c_days = some (r)) : Met l yX9_isFree (wq (Cond.code yX9_isFree cX9_isFree 4 (some .boolean))) rmX9_isFree (gP [.ref (ad 0), .int p1, .int p2, .int p3] (dC, dI) dA (mW dA ad c_tape c_taped c_tree c_bonds c_moves c_handMoves c_moved c_days c_likely c_outOf c_rateNow c_pence c_top c_bottom c_spot c_textLong c_fault c_number c_numberAt c_figures c_written c_wanted c_found c_drawnNow c_worth c_hold c_way c_acts c_sDay c_sUps c_sUp c_sMarks c_paidAll c_isPlayed c_isOn c_handMoved c_handPaid c_regret c_aside c_other c_states c_kept c_keptLong c_keptAt c_isTaking) sz) (gQi (dC, dI) r (mW dA ad c_tape c_taped c_tree c_bonds c_moves c_handMoves c_moved c_days c_likely c_outOf c_rateNow c_pence c_top c_bottom c_spot c_textLong c_fault c_number c_numberAt c_figures c_written c_wanted c_found c_drawnNow c_worth c_hold c_way c_acts c_sDay c_sUps c_sUp c_sMarks c_paidAll c_isPlayed c_isOn c_handMoved c_handPaid c_regret c_aside c_other c_states c_kept c_keptLong c_keptAt c_isTaking) (va_A (mW dA ad c_tape c_taped c_tree c_bonds c_moves c_handMoves c_moved c_days c_likely c_outOf c_rateNow c_pence c_top c_bottom c_spot c_textLong c_fault c_number c_numberAt c_figures c_written c_wanted c_found c_drawnNow c_worth c_hold c_way c_acts c_sDay c_sUps c_sUp c_sMarks c_paidAll c_isPlayed c_isOn c_handMoved c_handPaid c_regret c_aside c_other c_states c_kept c_keptLong c_keptAt c_isTaking) sz)) 0 0 (va_A (mW dA ad c_tape c_taped c_tree c_bonds c_moves c_handMoves c_moved c_days c_likely c_outOf c_rateNow c_pence c_top c_bottom c_spot c_textLong c_fault c_number c_numberAt c_figures c_written c_wanted c_found c_drawnNow c_worth c_hold c_way c_acts c_sDay c_sUps c_sUp c_sMarks c_paidAll c_isPlayed c_isOn c_handMoved c_handPaid c_regret c_aside c_other c_states c_kept c_keptLong c_keptAt c_isTaking) sz) := by
  refine Met.ofW (cc := cX9_isFree) (maxL := 4) (ret := (some .boolean)) (by decide) rfl ?_
  intro p e s m args below meth c s₁ B hml hv
  obtain ⟨rfl, hsz, hP, hK, hD0⟩ := hv
  have hx := B.exec
  have hb := B.bytes
  have hr := B.returns
  have hts := atoms_spec (ws := wq (Cond.code yX9_isFree cX9_isFree 4 (some .boolean))) B.pre
  have hown : s.vm.findClass RX9 = some m.cls := findClass_of_methodNamed B.named
  have hlocks := B.notSynchronized
  clear B
  subst hsz
  have hD := hD0.self (sz := s.heap.size)
  generalize hAe : va_A (mW dA ad c_tape c_taped c_tree c_bonds c_moves c_handMoves c_moved c_days c_likely c_outOf c_rateNow c_pence c_top c_bottom c_spot c_textLong c_fault c_number c_numberAt c_figures c_written c_wanted c_found c_drawnNow c_worth c_hold c_way c_acts c_sDay c_sUps c_sUp c_sMarks c_paidAll c_isPlayed c_isOn c_handMoved c_handPaid c_regret c_aside c_other c_states c_kept c_keptLong c_keptAt c_isTaking) s.heap.size = A at hD ⊢
  have hA : ∀ q : Nat, s.heap.size ≤ q → A q := fun q h => by rw [← hAe]; exact Or.inr h
  clear hAe hD0
  have hS : va_S A s.heap s.heap [] := va_S.rf
  have hl := lv_entry ([.ref (ad 0), .int p1, .int p2, .int p3]) (n := 4) (Nat.le_of_ble_eq_true rfl)
  rw [lg_entry_eq]
  generalize (lg_sl ([.ref (ad 0), .int p1, .int p2, .int p3]) ++ List.replicate (4 - (lg_sl ([.ref (ad 0), .int p1, .int p2, .int p3])).length) Slot.unset).toArray = ls at hl ⊢
  have hl : lv_has ls 4 [(0, .ref (ad 0)), (1, .int p1), (2, .int p2), (3, .int p3)] := hl
  change W p l e rmX9_isFree s m ([.ref (ad 0), .int p1, .int p2, .int p3] : List Value).toArray below meth c s.heap [] 0 0 _ _
  unfold fX9_isFree at hf
  refine lv_aload_n hx hb dX9_isFree_0 rfl (lv_at hl 0 rfl) ?_
  refine lv_iload_n hx hb dX9_isFree_1 rfl (lv_at hl 1 rfl) ?_
  refine lv_iload_n hx hb dX9_isFree_2 rfl (lv_at hl 2 rfl) ?_
  obtain ⟨r1, v2, hf⟩ := bd1_some hf
  refine gci (va_runV (As := [.int p1, .int p2]) (rest := []) ⟨hx, hb, hml, hown, hts⟩ (tX9_callOf l dC dI dA ad s.heap.size v2) (ccX9_X9_callOf hts ⟨Nat.le_of_ble_eq_true rfl, Nat.le_of_ble_eq_true rfl⟩) (gPreV (ci := 9) (q0 := 0) hP hK hD rfl rfl) rfl rfl hl.1 rfl (lv_room (Nat.le_of_ble_eq_true rfl)) dX9_isFree_3 ⟨Nat.le_of_ble_eq_true rfl, Nat.le_of_ble_eq_true rfl⟩) hD hS hA (fun H locs hP hD hS => ?_)
  refine lv_iconst (v := (-1)) hx hb dX9_isFree_6 (by decide) ?_
  refine lv_icmp_eq (tgt := 30) hx hb dX9_isFree_7 (by decide) (fun k3 => ?_) (fun k3 => ?_)
  · replace hf := ifp k3 hf
    refine lv_iconst (v := 0) hx hb dX9_isFree_30 (by decide) ?_
    cases hf
    exact W.zret (ty := .boolean) hx hb hr rfl (fun t ht _ => gqi hP hD hS ht) hS.2.2 dX9_isFree_31
  · replace hf := ifn k3 hf
    refine lv_aload_n hx hb dX9_isFree_10 rfl (lv_at hl 0 rfl) ?_
    refine lv_iload_n hx hb dX9_isFree_11 rfl (lv_at hl 1 rfl) ?_
    refine lv_iload_n hx hb dX9_isFree_12 rfl (lv_at hl 3 rfl) ?_
    obtain ⟨r4, v5, hf⟩ := bd1_some hf
    refine gci (va_runV (As := [.int p1, .int p3]) (rest := []) ⟨hx, hb, hml, hown, hts⟩ (tX9_marksNow l dC dI dA ad H.size v5) (ccX9_X9_marksNow hts ⟨Nat.le_of_ble_eq_true rfl, Nat.le_of_ble_eq_true rfl⟩) (gPreV (ci := 9) (q0 := 0) hP hK hD rfl rfl) rfl rfl hl.1 rfl (lv_room (Nat.le_of_ble_eq_true rfl)) dX9_isFree_13 ⟨Nat.le_of_ble_eq_true rfl, Nat.le_of_ble_eq_true rfl⟩) hD hS hA (fun H locs hP hD hS => ?_)
    refine lv_aload_n hx hb dX9_isFree_16 rfl (lv_at hl 0 rfl) ?_
    refine lv_iload_n hx hb dX9_isFree_17 rfl (lv_at hl 1 rfl) ?_
    refine lv_bipush (v := 23) hx hb dX9_isFree_18 (by decide) ?_
    obtain ⟨r6, v7, hf⟩ := bd1_some hf
    refine gci (va_runV (As := [.int p1, .int 23]) (rest := [.int r4]) ⟨hx, hb, hml, hown, hts⟩ (tX9_of l dC dI dA ad H.size v7) (ccX9_X9_of hts ⟨Nat.le_of_ble_eq_true rfl, Nat.le_of_ble_eq_true rfl⟩) (gPreV (ci := 9) (q0 := 0) hP hK hD rfl rfl) rfl rfl hl.1 rfl (lv_room (Nat.le_of_ble_eq_true rfl)) dX9_isFree_20 ⟨Nat.le_of_ble_eq_true rfl, Nat.le_of_ble_eq_true rfl⟩) hD hS hA (fun H locs hP hD hS => ?_)
    refine lv_icmp_lt (tgt := 30) hx hb dX9_isFree_23 (by decide) (fun k8 => ?_) (fun k8 => ?_)
    · replace hf := ifp k8 hf
      refine lv_iconst (v := 0) hx hb dX9_isFree_30 (by decide) ?_
      cases hf
      exact W.zret (ty := .boolean) hx hb hr rfl (fun t ht _ => gqi hP hD hS ht) hS.2.2 dX9_isFree_31
    · replace hf := ifn k8 hf
      refine lv_iconst (v := 1) hx hb dX9_isFree_26 (by decide) ?_
      refine lv_goto (tgt := 31) hx hb dX9_isFree_27 (by decide) ?_
      cases hf
      exact W.zret (ty := .boolean) hx hb hr rfl (fun t ht _ => gqi hP hD hS ht) hS.2.2 dX9_isFree_31
def fX9_couponOf (p1 : Int32) (p2 : Int32) (c_bonds : Nat → Int32) : Option (Int32) := if p2 = 0 then some (0) else bd1 (fX9_of p1 (2 + p2) c_bonds) (fun r2 => some (r2))
abbrev rmX9_couponOf : Room := { frames := 1, cells := 0, slots := 0, locals := 22 }
set_option maxHeartbeats 4000000 in
set_option maxRecDepth 100000 in
theorem tX9_couponOf (l : Launch) (dC : Nat → ClassId) (dI : Nat → Nat → Nat) (dA : Nat → ClassId) (ad : Nat → Nat) (sz : Nat) {p1 : Int32} {p2 : Int32} {c_tape : Nat → Int32} {c_taped : Int32} {c_tree : Nat → Int32} {c_bonds : Nat → Int32} {c_moves : Nat → Int32} {c_handMoves : Nat → Int32} {c_moved : Int32} {c_days : Int32} {c_likely : Int32} {c_outOf : Int32} {c_rateNow : Int32} {c_pence : Nat → Int64} {c_top : Int64} {c_bottom : Int64} {c_spot : Int32} {c_textLong : Int32} {c_fault : Int32} {c_number : Int32} {c_numberAt : Int32} {c_figures : Int32} {c_written : Int32} {c_wanted : Int32} {c_found : Int32} {c_drawnNow : Int32} {c_worth : Nat → Int64} {c_hold : Nat → Int64} {c_way : Nat → Int64} {c_acts : Nat → Int32} {c_sDay : Int32} {c_sUps : Int32} {c_sUp : Int32} {c_sMarks : Int32} {c_paidAll : Int64} {c_isPlayed : Int32} {c_isOn : Int32} {c_handMoved : Int32} {c_handPaid : Int64} {c_regret : Int64} {c_aside : Nat → Int32} {c_other : Nat → Int64} {c_states : Int32} {c_kept : Nat → Int32} {c_keptLong : Nat → Int64} {c_keptAt : Int32} {c_isTaking : Int32} {r : Int32} (hf : fX9_couponOf p1 p2 c_bonds = some (r)) : Met l yX9_couponOf (wq (Cond.code yX9_couponOf cX9_couponOf 3 (some .int))) rmX9_couponOf (gP [.ref (ad 0), .int p1, .int p2] (dC, dI) dA (mW dA ad c_tape c_taped c_tree c_bonds c_moves c_handMoves c_moved c_days c_likely c_outOf c_rateNow c_pence c_top c_bottom c_spot c_textLong c_fault c_number c_numberAt c_figures c_written c_wanted c_found c_drawnNow c_worth c_hold c_way c_acts c_sDay c_sUps c_sUp c_sMarks c_paidAll c_isPlayed c_isOn c_handMoved c_handPaid c_regret c_aside c_other c_states c_kept c_keptLong c_keptAt c_isTaking) sz) (gQi (dC, dI) r (mW dA ad c_tape c_taped c_tree c_bonds c_moves c_handMoves c_moved c_days c_likely c_outOf c_rateNow c_pence c_top c_bottom c_spot c_textLong c_fault c_number c_numberAt c_figures c_written c_wanted c_found c_drawnNow c_worth c_hold c_way c_acts c_sDay c_sUps c_sUp c_sMarks c_paidAll c_isPlayed c_isOn c_handMoved c_handPaid c_regret c_aside c_other c_states c_kept c_keptLong c_keptAt c_isTaking) (va_A (mW dA ad c_tape c_taped c_tree c_bonds c_moves c_handMoves c_moved c_days c_likely c_outOf c_rateNow c_pence c_top c_bottom c_spot c_textLong c_fault c_number c_numberAt c_figures c_written c_wanted c_found c_drawnNow c_worth c_hold c_way c_acts c_sDay c_sUps c_sUp c_sMarks c_paidAll c_isPlayed c_isOn c_handMoved c_handPaid c_regret c_aside c_other c_states c_kept c_keptLong c_keptAt c_isTaking) sz)) 0 0 (va_A (mW dA ad c_tape c_taped c_tree c_bonds c_moves c_handMoves c_moved c_days c_likely c_outOf c_rateNow c_pence c_top c_bottom c_spot c_textLong c_fault c_number c_numberAt c_figures c_written c_wanted c_found c_drawnNow c_worth c_hold c_way c_acts c_sDay c_sUps c_sUp c_sMarks c_paidAll c_isPlayed c_isOn c_handMoved c_handPaid c_regret c_aside c_other c_states c_kept c_keptLong c_keptAt c_isTaking) sz) := by
  refine Met.ofW (cc := cX9_couponOf) (maxL := 3) (ret := (some .int)) (by decide) rfl ?_
  intro p e s m args below meth c s₁ B hml hv
  obtain ⟨rfl, hsz, hP, hK, hD0⟩ := hv
  have hx := B.exec
  have hb := B.bytes
  have hr := B.returns
  have hts := atoms_spec (ws := wq (Cond.code yX9_couponOf cX9_couponOf 3 (some .int))) B.pre
  have hown : s.vm.findClass RX9 = some m.cls := findClass_of_methodNamed B.named
  have hlocks := B.notSynchronized
  clear B
  subst hsz
  have hD := hD0.self (sz := s.heap.size)
  generalize hAe : va_A (mW dA ad c_tape c_taped c_tree c_bonds c_moves c_handMoves c_moved c_days c_likely c_outOf c_rateNow c_pence c_top c_bottom c_spot c_textLong c_fault c_number c_numberAt c_figures c_written c_wanted c_found c_drawnNow c_worth c_hold c_way c_acts c_sDay c_sUps c_sUp c_sMarks c_paidAll c_isPlayed c_isOn c_handMoved c_handPaid c_regret c_aside c_other c_states c_kept c_keptLong c_keptAt c_isTaking) s.heap.size = A at hD ⊢
  have hA : ∀ q : Nat, s.heap.size ≤ q → A q := fun q h => by rw [← hAe]; exact Or.inr h
  clear hAe hD0
  have hS : va_S A s.heap s.heap [] := va_S.rf
  have hl := lv_entry ([.ref (ad 0), .int p1, .int p2]) (n := 3) (Nat.le_of_ble_eq_true rfl)
  rw [lg_entry_eq]
  generalize (lg_sl ([.ref (ad 0), .int p1, .int p2]) ++ List.replicate (3 - (lg_sl ([.ref (ad 0), .int p1, .int p2])).length) Slot.unset).toArray = ls at hl ⊢
  have hl : lv_has ls 3 [(0, .ref (ad 0)), (1, .int p1), (2, .int p2)] := hl
  change W p l e rmX9_couponOf s m ([.ref (ad 0), .int p1, .int p2] : List Value).toArray below meth c s.heap [] 0 0 _ _
  unfold fX9_couponOf at hf
  refine lv_iload_n hx hb dX9_couponOf_0 rfl (lv_at hl 2 rfl) ?_
  refine lv_if_ne (tgt := 8) hx hb dX9_couponOf_1 (by decide) (fun k1 => ?_) (fun k1 => ?_)
  · replace hf := ifn k1 hf
    refine lv_aload_n hx hb dX9_couponOf_8 rfl (lv_at hl 0 rfl) ?_
    refine lv_iload_n hx hb dX9_couponOf_9 rfl (lv_at hl 1 rfl) ?_
    refine lv_iconst (v := 2) hx hb dX9_couponOf_10 (by decide) ?_
    refine lv_iload_n hx hb dX9_couponOf_11 rfl (lv_at hl 2 rfl) ?_
    refine lv_iadd hx hb dX9_couponOf_12 ?_
    obtain ⟨r2, v3, hf⟩ := bd1_some hf
    refine gci (va_runV (As := [.int p1, .int (2 + p2)]) (rest := []) ⟨hx, hb, hml, hown, hts⟩ (tX9_of l dC dI dA ad s.heap.size v3) (ccX9_X9_of hts ⟨Nat.le_of_ble_eq_true rfl, Nat.le_of_ble_eq_true rfl⟩) (gPreV (ci := 9) (q0 := 0) hP hK hD rfl rfl) rfl rfl hl.1 rfl (lv_room (Nat.le_of_ble_eq_true rfl)) dX9_couponOf_13 ⟨Nat.le_of_ble_eq_true rfl, Nat.le_of_ble_eq_true rfl⟩) hD hS hA (fun H locs hP hD hS => ?_)
    cases hf
    exact W.iret hx hb hr (fun t ht _ => gqi hP hD hS ht) hS.2.2 dX9_couponOf_16
  · replace hf := ifp k1 hf
    refine lv_iconst (v := 0) hx hb dX9_couponOf_4 (by decide) ?_
    refine lv_goto (tgt := 16) hx hb dX9_couponOf_5 (by decide) ?_
    cases hf
    exact W.iret hx hb hr (fun t ht _ => gqi hP hD hS ht) hS.2.2 dX9_couponOf_16
theorem ccX9_X9_isHigh {R : Room} {s : State} {args : Array Value} {c0 : Cond} (ht : ∀ w ∈ wq c0, w.before args s = true) (hR : rmX9_isHigh.frames + 1 ≤ R.frames ∧ 8 + (4 + 11) + rmX9_isHigh.locals ≤ R.locals) : CallW R s args RX9 RX9 263 yX9_isHigh cX9_isHigh 4 (some .int) (wq (.code yX9_isHigh cX9_isHigh 4 (some .int))) rmX9_isHigh 0 0 3 := gCW 3 ht wcX9_isHigh wmX9_263 wiX9_isHigh weX9_isHigh wnX9 (by decide +kernel) rfl rfl hR
theorem ccX9_X9_at {R : Room} {s : State} {args : Array Value} {c0 : Cond} (ht : ∀ w ∈ wq c0, w.before args s = true) (hR : rmX9_at.frames + 1 ≤ R.frames ∧ 8 + (4 + 11) + rmX9_at.locals ≤ R.locals) : CallB R s args RX9 267 yX9_at cX9_at 4 (some .int) (wq (.code yX9_at cX9_at 4 (some .int))) rmX9_at 0 0 4 ∧ (Cond.static yX9_at).before args s = true := gCS 4 ht wcX9_at wmX9_267 wtX9_at wnX9 (by decide +kernel) rfl rfl hR
def fX9_then (p1 : Int32) (p2 : Int32) (p3 : Int32) (p4 : Int32) (p5 : Int32) (p6 : Int32) (c_bonds : Nat → Int32) (c_pence : Nat → Int64) : Option (Int32) := bd1 (fX9_isHigh p1 (p2 + 1) (p3 + p6) c_bonds c_pence) (fun r1 => bd1 (fX9_at (p2 + 1) (p3 + p6) p6 (((p5 <<< (1 &&& 31)) &&& 7) ||| r1)) (fun r3 => some (r3)))
abbrev rmX9_then : Room := { frames := 2, cells := 0, slots := 0, locals := 45 }
set_option maxHeartbeats 4000000 in
set_option maxRecDepth 100000 in
theorem tX9_then (l : Launch) (dC : Nat → ClassId) (dI : Nat → Nat → Nat) (dA : Nat → ClassId) (ad : Nat → Nat) (sz : Nat) {p1 : Int32} {p2 : Int32} {p3 : Int32} {p4 : Int32} {p5 : Int32} {p6 : Int32} {c_tape : Nat → Int32} {c_taped : Int32} {c_tree : Nat → Int32} {c_bonds : Nat → Int32} {c_moves : Nat → Int32} {c_handMoves : Nat → Int32} {c_moved : Int32} {c_days : Int32} {c_likely : Int32} {c_outOf : Int32} {c_rateNow : Int32} {c_pence : Nat → Int64} {c_top : Int64} {c_bottom : Int64} {c_spot : Int32} {c_textLong : Int32} {c_fault : Int32} {c_number : Int32} {c_numberAt : Int32} {c_figures : Int32} {c_written : Int32} {c_wanted : Int32} {c_found : Int32} {c_drawnNow : Int32} {c_worth : Nat → Int64} {c_hold : Nat → Int64} {c_way : Nat → Int64} {c_acts : Nat → Int32} {c_sDay : Int32} {c_sUps : Int32} {c_sUp : Int32} {c_sMarks : Int32} {c_paidAll : Int64} {c_isPlayed : Int32} {c_isOn : Int32} {c_handMoved : Int32} {c_handPaid : Int64} {c_regret : Int64} {c_aside : Nat → Int32} {c_other : Nat → Int64} {c_states : Int32} {c_kept : Nat → Int32} {c_keptLong : Nat → Int64} {c_keptAt : Int32} {c_isTaking : Int32} {r : Int32} (hf : fX9_then p1 p2 p3 p4 p5 p6 c_bonds c_pence = some (r)) : Met l yX9_then (wq (Cond.code yX9_then cX9_then 7 (some .int))) rmX9_then (gP [.ref (ad 0), .int p1, .int p2, .int p3, .int p4, .int p5, .int p6] (dC, dI) dA (mW dA ad c_tape c_taped c_tree c_bonds c_moves c_handMoves c_moved c_days c_likely c_outOf c_rateNow c_pence c_top c_bottom c_spot c_textLong c_fault c_number c_numberAt c_figures c_written c_wanted c_found c_drawnNow c_worth c_hold c_way c_acts c_sDay c_sUps c_sUp c_sMarks c_paidAll c_isPlayed c_isOn c_handMoved c_handPaid c_regret c_aside c_other c_states c_kept c_keptLong c_keptAt c_isTaking) sz) (gQi (dC, dI) r (mW dA ad c_tape c_taped c_tree c_bonds c_moves c_handMoves c_moved c_days c_likely c_outOf c_rateNow c_pence c_top c_bottom c_spot c_textLong c_fault c_number c_numberAt c_figures c_written c_wanted c_found c_drawnNow c_worth c_hold c_way c_acts c_sDay c_sUps c_sUp c_sMarks c_paidAll c_isPlayed c_isOn c_handMoved c_handPaid c_regret c_aside c_other c_states c_kept c_keptLong c_keptAt c_isTaking) (va_A (mW dA ad c_tape c_taped c_tree c_bonds c_moves c_handMoves c_moved c_days c_likely c_outOf c_rateNow c_pence c_top c_bottom c_spot c_textLong c_fault c_number c_numberAt c_figures c_written c_wanted c_found c_drawnNow c_worth c_hold c_way c_acts c_sDay c_sUps c_sUp c_sMarks c_paidAll c_isPlayed c_isOn c_handMoved c_handPaid c_regret c_aside c_other c_states c_kept c_keptLong c_keptAt c_isTaking) sz)) 0 0 (va_A (mW dA ad c_tape c_taped c_tree c_bonds c_moves c_handMoves c_moved c_days c_likely c_outOf c_rateNow c_pence c_top c_bottom c_spot c_textLong c_fault c_number c_numberAt c_figures c_written c_wanted c_found c_drawnNow c_worth c_hold c_way c_acts c_sDay c_sUps c_sUp c_sMarks c_paidAll c_isPlayed c_isOn c_handMoved c_handPaid c_regret c_aside c_other c_states c_kept c_keptLong c_keptAt c_isTaking) sz) := by
  refine Met.ofW (cc := cX9_then) (maxL := 7) (ret := (some .int)) (by decide) rfl ?_
  intro p e s m args below meth c s₁ B hml hv
  obtain ⟨rfl, hsz, hP, hK, hD0⟩ := hv
  have hx := B.exec
  have hb := B.bytes
  have hr := B.returns
  have hts := atoms_spec (ws := wq (Cond.code yX9_then cX9_then 7 (some .int))) B.pre
  have hown : s.vm.findClass RX9 = some m.cls := findClass_of_methodNamed B.named
  have hlocks := B.notSynchronized
  clear B
  subst hsz
  have hD := hD0.self (sz := s.heap.size)
  generalize hAe : va_A (mW dA ad c_tape c_taped c_tree c_bonds c_moves c_handMoves c_moved c_days c_likely c_outOf c_rateNow c_pence c_top c_bottom c_spot c_textLong c_fault c_number c_numberAt c_figures c_written c_wanted c_found c_drawnNow c_worth c_hold c_way c_acts c_sDay c_sUps c_sUp c_sMarks c_paidAll c_isPlayed c_isOn c_handMoved c_handPaid c_regret c_aside c_other c_states c_kept c_keptLong c_keptAt c_isTaking) s.heap.size = A at hD ⊢
  have hA : ∀ q : Nat, s.heap.size ≤ q → A q := fun q h => by rw [← hAe]; exact Or.inr h
  clear hAe hD0
  have hS : va_S A s.heap s.heap [] := va_S.rf
  have hl := lv_entry ([.ref (ad 0), .int p1, .int p2, .int p3, .int p4, .int p5, .int p6]) (n := 7) (Nat.le_of_ble_eq_true rfl)
  rw [lg_entry_eq]
  generalize (lg_sl ([.ref (ad 0), .int p1, .int p2, .int p3, .int p4, .int p5, .int p6]) ++ List.replicate (7 - (lg_sl ([.ref (ad 0), .int p1, .int p2, .int p3, .int p4, .int p5, .int p6])).length) Slot.unset).toArray = ls at hl ⊢
  have hl : lv_has ls 7 [(0, .ref (ad 0)), (1, .int p1), (2, .int p2), (3, .int p3), (4, .int p4), (5, .int p5), (6, .int p6)] := hl
  change W p l e rmX9_then s m ([.ref (ad 0), .int p1, .int p2, .int p3, .int p4, .int p5, .int p6] : List Value).toArray below meth c s.heap [] 0 0 _ _
  unfold fX9_then at hf
  refine lv_iload_n hx hb dX9_then_0 rfl (lv_at hl 2 rfl) ?_
  refine lv_iconst (v := 1) hx hb dX9_then_1 (by decide) ?_
  refine lv_iadd hx hb dX9_then_2 ?_
  refine lv_iload_n hx hb dX9_then_3 rfl (lv_at hl 3 rfl) ?_
  refine lv_iload hx hb dX9_then_4 (lv_at hl 6 rfl) ?_
  refine lv_iadd hx hb dX9_then_6 ?_
  refine lv_iload hx hb dX9_then_7 (lv_at hl 6 rfl) ?_
  refine lv_iload hx hb dX9_then_9 (lv_at hl 5 rfl) ?_
  refine lv_iconst (v := 1) hx hb dX9_then_11 (by decide) ?_
  refine lv_ishl hx hb dX9_then_12 ?_
  refine lv_bipush (v := 7) hx hb dX9_then_13 (by decide) ?_
  refine lv_iand hx hb dX9_then_15 ?_
  refine lv_aload_n hx hb dX9_then_16 rfl (lv_at hl 0 rfl) ?_
  refine lv_iload_n hx hb dX9_then_17 rfl (lv_at hl 1 rfl) ?_
  refine lv_iload_n hx hb dX9_then_18 rfl (lv_at hl 2 rfl) ?_
  refine lv_iconst (v := 1) hx hb dX9_then_19 (by decide) ?_
  refine lv_iadd hx hb dX9_then_20 ?_
  refine lv_iload_n hx hb dX9_then_21 rfl (lv_at hl 3 rfl) ?_
  refine lv_iload hx hb dX9_then_22 (lv_at hl 6 rfl) ?_
  refine lv_iadd hx hb dX9_then_24 ?_
  obtain ⟨r1, v2, hf⟩ := bd1_some hf
  refine gci (va_runV (As := [.int p1, .int (p2 + 1), .int (p3 + p6)]) (rest := [.int ((p5 <<< (1 &&& 31)) &&& 7), .int p6, .int (p3 + p6), .int (p2 + 1)]) ⟨hx, hb, hml, hown, hts⟩ (tX9_isHigh l dC dI dA ad s.heap.size v2) (ccX9_X9_isHigh hts ⟨Nat.le_of_ble_eq_true rfl, Nat.le_of_ble_eq_true rfl⟩) (gPreV (ci := 9) (q0 := 0) hP hK hD rfl rfl) rfl rfl hl.1 rfl (lv_room (Nat.le_of_ble_eq_true rfl)) dX9_then_25 ⟨Nat.le_of_ble_eq_true rfl, Nat.le_of_ble_eq_true rfl⟩) hD hS hA (fun H locs hP hD hS => ?_)
  refine lv_ior hx hb dX9_then_28 ?_
  obtain ⟨r3, v4, hf⟩ := bd1_some hf
  refine gci0 (va_runS (As := [.int (p2 + 1), .int (p3 + p6), .int p6, .int (((p5 <<< (1 &&& 31)) &&& 7) ||| r1)]) (rest := []) ⟨hx, hb, hml, hown, hts⟩ (tX9_at l dC dI dA H.size v4) (ccX9_X9_at hts ⟨Nat.le_of_ble_eq_true rfl, Nat.le_of_ble_eq_true rfl⟩) (gPreS0 hK) rfl rfl hl.1 rfl (lv_room (Nat.le_of_ble_eq_true rfl)) dX9_then_29 ⟨Nat.le_of_ble_eq_true rfl, Nat.le_of_ble_eq_true rfl⟩) hP hS hA (fun H locs hP hS => ?_)
  cases hf
  exact W.iret hx hb hr (fun t ht _ => gqi hP hD hS ht) hS.2.2 dX9_then_32
def fX9_more (p0 : Int64) (p2 : Int64) : Option (Int64) := if p0 ≤ p2 then some (p2) else some (p0)
abbrev rmX9_more : Room := { frames := 0, cells := 0, slots := 0, locals := 0 }
set_option maxHeartbeats 4000000 in
set_option maxRecDepth 100000 in
theorem tX9_more (l : Launch) (dC : Nat → ClassId) (dI : Nat → Nat → Nat) (dA : Nat → ClassId) (sz : Nat) {p0 : Int64} {p2 : Int64} {r : Int64} (hf : fX9_more p0 p2 = some (r)) : Met l yX9_more (wq (Cond.code yX9_more cX9_more 4 (some .long))) rmX9_more (gP [.long p0, .long p2] (dC, dI) dA [] sz) (gQl (dC, dI) r [] (va_A [] sz)) 0 0 (va_A [] sz) := by
  refine Met.ofW (cc := cX9_more) (maxL := 4) (ret := (some .long)) (by decide) rfl ?_
  intro p e s m args below meth c s₁ B hml hv
  obtain ⟨rfl, hsz, hP, hK, hD0⟩ := hv
  have hx := B.exec
  have hb := B.bytes
  have hr := B.returns
  have hts := atoms_spec (ws := wq (Cond.code yX9_more cX9_more 4 (some .long))) B.pre
  have hown : s.vm.findClass RX9 = some m.cls := findClass_of_methodNamed B.named
  have hlocks := B.notSynchronized
  clear B
  subst hsz
  have hD := hD0.self (sz := s.heap.size)
  generalize hAe : va_A [] s.heap.size = A at hD ⊢
  have hA : ∀ q : Nat, s.heap.size ≤ q → A q := fun q h => by rw [← hAe]; exact Or.inr h
  clear hAe hD0
  have hS : va_S A s.heap s.heap [] := va_S.rf
  have hl := lv_entry ([.long p0, .long p2]) (n := 4) (Nat.le_of_ble_eq_true rfl)
  rw [lg_entry_eq]
  generalize (lg_sl ([.long p0, .long p2]) ++ List.replicate (4 - (lg_sl ([.long p0, .long p2])).length) Slot.unset).toArray = ls at hl ⊢
  have hl : lv_has ls 4 [(0, .long p0), (2, .long p2)] := hl
  change W p l e rmX9_more s m ([.long p0, .long p2] : List Value).toArray below meth c s.heap [] 0 0 _ _
  unfold fX9_more at hf
  refine lv_lload_n hx hb dX9_more_0 rfl (lv_at hl 0 rfl) ?_
  refine lv_lload_n hx hb dX9_more_1 rfl (lv_at hl 1 rfl) ?_
  refine W.lcmp hx hb dX9_more_2 ?_
  refine lv_if_le (tgt := 10) hx hb dX9_more_3 (by decide) (fun k1 => ?_) (fun k1 => ?_)
  · replace hf := ifp (lc_le.mp k1) hf
    refine lv_lload_n hx hb dX9_more_10 rfl (lv_at hl 1 rfl) ?_
    cases hf
    exact W.lret hx hb hr (fun t ht _ => gql hP hD hS ht) hS.2.2 dX9_more_11
  · replace hf := ifn (fun h => k1 (lc_le.mpr h)) hf
    refine lv_lload_n hx hb dX9_more_6 rfl (lv_at hl 0 rfl) ?_
    refine lv_goto (tgt := 11) hx hb dX9_more_7 (by decide) ?_
    cases hf
    exact W.lret hx hb hr (fun t ht _ => gql hP hD hS ht) hS.2.2 dX9_more_11
theorem ccX9_X9_turned {R : Room} {s : State} {args : Array Value} {c0 : Cond} (ht : ∀ w ∈ wq c0, w.before args s = true) (hR : rmX9_turned.frames + 1 ≤ R.frames ∧ 8 + (13 + 11) + rmX9_turned.locals ≤ R.locals) : CallW R s args RX9 RX9 270 yX9_turned cX9_turned 13 (some .long) (wq (.code yX9_turned cX9_turned 13 (some .long))) rmX9_turned 0 0 4 := gCW 4 ht wcX9_turned wmX9_270 wiX9_turned weX9_turned wnX9 (by decide +kernel) rfl rfl hR
theorem ccX9_X9_more {R : Room} {s : State} {args : Array Value} {c0 : Cond} (ht : ∀ w ∈ wq c0, w.before args s = true) (hR : rmX9_more.frames + 1 ≤ R.frames ∧ 8 + (4 + 11) + rmX9_more.locals ≤ R.locals) : CallB R s args RX9 274 yX9_more cX9_more 4 (some .long) (wq (.code yX9_more cX9_more 4 (some .long))) rmX9_more 0 0 2 ∧ (Cond.static yX9_more).before args s = true := gCS 2 ht wcX9_more wmX9_274 wtX9_more wnX9 (by decide +kernel) rfl rfl hR
def fX9_called (p1 : Int32) (p2 : Int32) (p3 : Int32) (p4 : Int32) (c_bonds : Nat → Int32) (c_days : Int32) (c_pence : Nat → Int64) : Option (Int64) := bd1 (fX9_callOf p1 p2 c_bonds c_days) (fun r1 => bd1 (fX9_turned p1 p2 p3 p4 c_bonds c_pence) (fun r3 => bd1 (fX9_more (Int32.toInt64 r1) r3) (fun r5 => some (r5))))
abbrev rmX9_called : Room := { frames := 3, cells := 0, slots := 0, locals := 79 }
set_option maxHeartbeats 4000000 in
set_option maxRecDepth 100000 in
theorem tX9_called (l : Launch) (dC : Nat → ClassId) (dI : Nat → Nat → Nat) (dA : Nat → ClassId) (ad : Nat → Nat) (sz : Nat) {p1 : Int32} {p2 : Int32} {p3 : Int32} {p4 : Int32} {c_tape : Nat → Int32} {c_taped : Int32} {c_tree : Nat → Int32} {c_bonds : Nat → Int32} {c_moves : Nat → Int32} {c_handMoves : Nat → Int32} {c_moved : Int32} {c_days : Int32} {c_likely : Int32} {c_outOf : Int32} {c_rateNow : Int32} {c_pence : Nat → Int64} {c_top : Int64} {c_bottom : Int64} {c_spot : Int32} {c_textLong : Int32} {c_fault : Int32} {c_number : Int32} {c_numberAt : Int32} {c_figures : Int32} {c_written : Int32} {c_wanted : Int32} {c_found : Int32} {c_drawnNow : Int32} {c_worth : Nat → Int64} {c_hold : Nat → Int64} {c_way : Nat → Int64} {c_acts : Nat → Int32} {c_sDay : Int32} {c_sUps : Int32} {c_sUp : Int32} {c_sMarks : Int32} {c_paidAll : Int64} {c_isPlayed : Int32} {c_isOn : Int32} {c_handMoved : Int32} {c_handPaid : Int64} {c_regret : Int64} {c_aside : Nat → Int32} {c_other : Nat → Int64} {c_states : Int32} {c_kept : Nat → Int32} {c_keptLong : Nat → Int64} {c_keptAt : Int32} {c_isTaking : Int32} {r : Int64} (hf : fX9_called p1 p2 p3 p4 c_bonds c_days c_pence = some (r)) : Met l yX9_called (wq (Cond.code yX9_called cX9_called 5 (some .long))) rmX9_called (gP [.ref (ad 0), .int p1, .int p2, .int p3, .int p4] (dC, dI) dA (mW dA ad c_tape c_taped c_tree c_bonds c_moves c_handMoves c_moved c_days c_likely c_outOf c_rateNow c_pence c_top c_bottom c_spot c_textLong c_fault c_number c_numberAt c_figures c_written c_wanted c_found c_drawnNow c_worth c_hold c_way c_acts c_sDay c_sUps c_sUp c_sMarks c_paidAll c_isPlayed c_isOn c_handMoved c_handPaid c_regret c_aside c_other c_states c_kept c_keptLong c_keptAt c_isTaking) sz) (gQl (dC, dI) r (mW dA ad c_tape c_taped c_tree c_bonds c_moves c_handMoves c_moved c_days c_likely c_outOf c_rateNow c_pence c_top c_bottom c_spot c_textLong c_fault c_number c_numberAt c_figures c_written c_wanted c_found c_drawnNow c_worth c_hold c_way c_acts c_sDay c_sUps c_sUp c_sMarks c_paidAll c_isPlayed c_isOn c_handMoved c_handPaid c_regret c_aside c_other c_states c_kept c_keptLong c_keptAt c_isTaking) (va_A (mW dA ad c_tape c_taped c_tree c_bonds c_moves c_handMoves c_moved c_days c_likely c_outOf c_rateNow c_pence c_top c_bottom c_spot c_textLong c_fault c_number c_numberAt c_figures c_written c_wanted c_found c_drawnNow c_worth c_hold c_way c_acts c_sDay c_sUps c_sUp c_sMarks c_paidAll c_isPlayed c_isOn c_handMoved c_handPaid c_regret c_aside c_other c_states c_kept c_keptLong c_keptAt c_isTaking) sz)) 0 0 (va_A (mW dA ad c_tape c_taped c_tree c_bonds c_moves c_handMoves c_moved c_days c_likely c_outOf c_rateNow c_pence c_top c_bottom c_spot c_textLong c_fault c_number c_numberAt c_figures c_written c_wanted c_found c_drawnNow c_worth c_hold c_way c_acts c_sDay c_sUps c_sUp c_sMarks c_paidAll c_isPlayed c_isOn c_handMoved c_handPaid c_regret c_aside c_other c_states c_kept c_keptLong c_keptAt c_isTaking) sz) := by
  refine Met.ofW (cc := cX9_called) (maxL := 5) (ret := (some .long)) (by decide) rfl ?_
  intro p e s m args below meth c s₁ B hml hv
  obtain ⟨rfl, hsz, hP, hK, hD0⟩ := hv
  have hx := B.exec
  have hb := B.bytes
  have hr := B.returns
  have hts := atoms_spec (ws := wq (Cond.code yX9_called cX9_called 5 (some .long))) B.pre
  have hown : s.vm.findClass RX9 = some m.cls := findClass_of_methodNamed B.named
  have hlocks := B.notSynchronized
  clear B
  subst hsz
  have hD := hD0.self (sz := s.heap.size)
  generalize hAe : va_A (mW dA ad c_tape c_taped c_tree c_bonds c_moves c_handMoves c_moved c_days c_likely c_outOf c_rateNow c_pence c_top c_bottom c_spot c_textLong c_fault c_number c_numberAt c_figures c_written c_wanted c_found c_drawnNow c_worth c_hold c_way c_acts c_sDay c_sUps c_sUp c_sMarks c_paidAll c_isPlayed c_isOn c_handMoved c_handPaid c_regret c_aside c_other c_states c_kept c_keptLong c_keptAt c_isTaking) s.heap.size = A at hD ⊢
  have hA : ∀ q : Nat, s.heap.size ≤ q → A q := fun q h => by rw [← hAe]; exact Or.inr h
  clear hAe hD0
  have hS : va_S A s.heap s.heap [] := va_S.rf
  have hl := lv_entry ([.ref (ad 0), .int p1, .int p2, .int p3, .int p4]) (n := 5) (Nat.le_of_ble_eq_true rfl)
  rw [lg_entry_eq]
  generalize (lg_sl ([.ref (ad 0), .int p1, .int p2, .int p3, .int p4]) ++ List.replicate (5 - (lg_sl ([.ref (ad 0), .int p1, .int p2, .int p3, .int p4])).length) Slot.unset).toArray = ls at hl ⊢
  have hl : lv_has ls 5 [(0, .ref (ad 0)), (1, .int p1), (2, .int p2), (3, .int p3), (4, .int p4)] := hl
  change W p l e rmX9_called s m ([.ref (ad 0), .int p1, .int p2, .int p3, .int p4] : List Value).toArray below meth c s.heap [] 0 0 _ _
  unfold fX9_called at hf
  refine lv_aload_n hx hb dX9_called_0 rfl (lv_at hl 0 rfl) ?_
  refine lv_iload_n hx hb dX9_called_1 rfl (lv_at hl 1 rfl) ?_
  refine lv_iload_n hx hb dX9_called_2 rfl (lv_at hl 2 rfl) ?_
  obtain ⟨r1, v2, hf⟩ := bd1_some hf
  refine gci (va_runV (As := [.int p1, .int p2]) (rest := []) ⟨hx, hb, hml, hown, hts⟩ (tX9_callOf l dC dI dA ad s.heap.size v2) (ccX9_X9_callOf hts ⟨Nat.le_of_ble_eq_true rfl, Nat.le_of_ble_eq_true rfl⟩) (gPreV (ci := 9) (q0 := 0) hP hK hD rfl rfl) rfl rfl hl.1 rfl (lv_room (Nat.le_of_ble_eq_true rfl)) dX9_called_3 ⟨Nat.le_of_ble_eq_true rfl, Nat.le_of_ble_eq_true rfl⟩) hD hS hA (fun H locs hP hD hS => ?_)
  refine lv_i2l hx hb dX9_called_6 rfl ?_
  refine lv_aload_n hx hb dX9_called_7 rfl (lv_at hl 0 rfl) ?_
  refine lv_iload_n hx hb dX9_called_8 rfl (lv_at hl 1 rfl) ?_
  refine lv_iload_n hx hb dX9_called_9 rfl (lv_at hl 2 rfl) ?_
  refine lv_iload_n hx hb dX9_called_10 rfl (lv_at hl 3 rfl) ?_
  refine lv_iload hx hb dX9_called_11 (lv_at hl 4 rfl) ?_
  obtain ⟨r3, v4, hf⟩ := bd1_some hf
  refine gcl (va_runV (As := [.int p1, .int p2, .int p3, .int p4]) (rest := [.long (Int32.toInt64 r1)]) ⟨hx, hb, hml, hown, hts⟩ (tX9_turned l dC dI dA ad H.size v4) (ccX9_X9_turned hts ⟨Nat.le_of_ble_eq_true rfl, Nat.le_of_ble_eq_true rfl⟩) (gPreV (ci := 9) (q0 := 0) hP hK hD rfl rfl) rfl rfl hl.1 rfl (lv_room (Nat.le_of_ble_eq_true rfl)) dX9_called_13 ⟨Nat.le_of_ble_eq_true rfl, Nat.le_of_ble_eq_true rfl⟩) hD hS hA (fun H locs hP hD hS => ?_)
  obtain ⟨r5, v6, hf⟩ := bd1_some hf
  refine gcl0 (va_runS (As := [.long (Int32.toInt64 r1), .long r3]) (rest := []) ⟨hx, hb, hml, hown, hts⟩ (tX9_more l dC dI dA H.size v6) (ccX9_X9_more hts ⟨Nat.le_of_ble_eq_true rfl, Nat.le_of_ble_eq_true rfl⟩) (gPreS0 hK) rfl rfl hl.1 rfl (lv_room (Nat.le_of_ble_eq_true rfl)) dX9_called_16 ⟨Nat.le_of_ble_eq_true rfl, Nat.le_of_ble_eq_true rfl⟩) hP hS hA (fun H locs hP hS => ?_)
  cases hf
  exact W.lret hx hb hr (fun t ht _ => gql hP hD hS ht) hS.2.2 dX9_called_19
theorem ccX9_X9_then {R : Room} {s : State} {args : Array Value} {c0 : Cond} (ht : ∀ w ∈ wq c0, w.before args s = true) (hR : rmX9_then.frames + 1 ≤ R.frames ∧ 8 + (7 + 11) + rmX9_then.locals ≤ R.locals) : CallW R s args RX9 RX9 277 yX9_then cX9_then 7 (some .int) (wq (.code yX9_then cX9_then 7 (some .int))) rmX9_then 0 0 6 := gCW 6 ht wcX9_then wmX9_277 wiX9_then weX9_then wnX9 (by decide +kernel) rfl rfl hR
def fX9_holds (p1 : Int32) (p2 : Int32) (p3 : Int32) (p4 : Int32) (p5 : Int32) (c_bonds : Nat → Int32) (c_likely : Int32) (c_outOf : Int32) (c_rateNow : Int32) (c_pence : Nat → Int64) (c_worth : Nat → Int64) : Option (Int64) := bd1 (fX9_then p1 p2 p3 p4 p5 1 c_bonds c_pence) (fun r1 => og (okI r1 784) (nm (c_worth (Int32.toNatClampNeg r1)) (fun w4 => bd1 (fX9_then p1 p2 p3 p4 p5 0 c_bonds c_pence) (fun r5 => og (okI r5 784) (nm (c_worth (Int32.toNatClampNeg r5)) (fun w8 => og (nzL (Int32.toInt64 (c_outOf * (1000 + c_rateNow)))) (some (((((Int32.toInt64 c_likely) * w4) + ((Int32.toInt64 (c_outOf - c_likely)) * w8)) * 1000) / (Int32.toInt64 (c_outOf * (1000 + c_rateNow)))))))))))
abbrev rmX9_holds : Room := { frames := 3, cells := 0, slots := 0, locals := 71 }
set_option maxHeartbeats 4000000 in
set_option maxRecDepth 100000 in
theorem tX9_holds (l : Launch) (dC : Nat → ClassId) (dI : Nat → Nat → Nat) (dA : Nat → ClassId) (ad : Nat → Nat) (sz : Nat) {p1 : Int32} {p2 : Int32} {p3 : Int32} {p4 : Int32} {p5 : Int32} {c_tape : Nat → Int32} {c_taped : Int32} {c_tree : Nat → Int32} {c_bonds : Nat → Int32} {c_moves : Nat → Int32} {c_handMoves : Nat → Int32} {c_moved : Int32} {c_days : Int32} {c_likely : Int32} {c_outOf : Int32} {c_rateNow : Int32} {c_pence : Nat → Int64} {c_top : Int64} {c_bottom : Int64} {c_spot : Int32} {c_textLong : Int32} {c_fault : Int32} {c_number : Int32} {c_numberAt : Int32} {c_figures : Int32} {c_written : Int32} {c_wanted : Int32} {c_found : Int32} {c_drawnNow : Int32} {c_worth : Nat → Int64} {c_hold : Nat → Int64} {c_way : Nat → Int64} {c_acts : Nat → Int32} {c_sDay : Int32} {c_sUps : Int32} {c_sUp : Int32} {c_sMarks : Int32} {c_paidAll : Int64} {c_isPlayed : Int32} {c_isOn : Int32} {c_handMoved : Int32} {c_handPaid : Int64} {c_regret : Int64} {c_aside : Nat → Int32} {c_other : Nat → Int64} {c_states : Int32} {c_kept : Nat → Int32} {c_keptLong : Nat → Int64} {c_keptAt : Int32} {c_isTaking : Int32} {r : Int64} (hf : fX9_holds p1 p2 p3 p4 p5 c_bonds c_likely c_outOf c_rateNow c_pence c_worth = some (r)) : Met l yX9_holds (wq (Cond.code yX9_holds cX9_holds 10 (some .long))) rmX9_holds (gP [.ref (ad 0), .int p1, .int p2, .int p3, .int p4, .int p5] (dC, dI) dA (mW dA ad c_tape c_taped c_tree c_bonds c_moves c_handMoves c_moved c_days c_likely c_outOf c_rateNow c_pence c_top c_bottom c_spot c_textLong c_fault c_number c_numberAt c_figures c_written c_wanted c_found c_drawnNow c_worth c_hold c_way c_acts c_sDay c_sUps c_sUp c_sMarks c_paidAll c_isPlayed c_isOn c_handMoved c_handPaid c_regret c_aside c_other c_states c_kept c_keptLong c_keptAt c_isTaking) sz) (gQl (dC, dI) r (mW dA ad c_tape c_taped c_tree c_bonds c_moves c_handMoves c_moved c_days c_likely c_outOf c_rateNow c_pence c_top c_bottom c_spot c_textLong c_fault c_number c_numberAt c_figures c_written c_wanted c_found c_drawnNow c_worth c_hold c_way c_acts c_sDay c_sUps c_sUp c_sMarks c_paidAll c_isPlayed c_isOn c_handMoved c_handPaid c_regret c_aside c_other c_states c_kept c_keptLong c_keptAt c_isTaking) (va_A (mW dA ad c_tape c_taped c_tree c_bonds c_moves c_handMoves c_moved c_days c_likely c_outOf c_rateNow c_pence c_top c_bottom c_spot c_textLong c_fault c_number c_numberAt c_figures c_written c_wanted c_found c_drawnNow c_worth c_hold c_way c_acts c_sDay c_sUps c_sUp c_sMarks c_paidAll c_isPlayed c_isOn c_handMoved c_handPaid c_regret c_aside c_other c_states c_kept c_keptLong c_keptAt c_isTaking) sz)) 0 0 (va_A (mW dA ad c_tape c_taped c_tree c_bonds c_moves c_handMoves c_moved c_days c_likely c_outOf c_rateNow c_pence c_top c_bottom c_spot c_textLong c_fault c_number c_numberAt c_figures c_written c_wanted c_found c_drawnNow c_worth c_hold c_way c_acts c_sDay c_sUps c_sUp c_sMarks c_paidAll c_isPlayed c_isOn c_handMoved c_handPaid c_regret c_aside c_other c_states c_kept c_keptLong c_keptAt c_isTaking) sz) := by
  refine Met.ofW (cc := cX9_holds) (maxL := 10) (ret := (some .long)) (by decide) rfl ?_
  intro p e s m args below meth c s₁ B hml hv
  obtain ⟨rfl, hsz, hP, hK, hD0⟩ := hv
  have hx := B.exec
  have hb := B.bytes
  have hr := B.returns
  have hts := atoms_spec (ws := wq (Cond.code yX9_holds cX9_holds 10 (some .long))) B.pre
  have hown : s.vm.findClass RX9 = some m.cls := findClass_of_methodNamed B.named
  have hlocks := B.notSynchronized
  clear B
  subst hsz
  have hD := hD0.self (sz := s.heap.size)
  generalize hAe : va_A (mW dA ad c_tape c_taped c_tree c_bonds c_moves c_handMoves c_moved c_days c_likely c_outOf c_rateNow c_pence c_top c_bottom c_spot c_textLong c_fault c_number c_numberAt c_figures c_written c_wanted c_found c_drawnNow c_worth c_hold c_way c_acts c_sDay c_sUps c_sUp c_sMarks c_paidAll c_isPlayed c_isOn c_handMoved c_handPaid c_regret c_aside c_other c_states c_kept c_keptLong c_keptAt c_isTaking) s.heap.size = A at hD ⊢
  have hA : ∀ q : Nat, s.heap.size ≤ q → A q := fun q h => by rw [← hAe]; exact Or.inr h
  clear hAe hD0
  have hS : va_S A s.heap s.heap [] := va_S.rf
  have hl := lv_entry ([.ref (ad 0), .int p1, .int p2, .int p3, .int p4, .int p5]) (n := 10) (Nat.le_of_ble_eq_true rfl)
  rw [lg_entry_eq]
  generalize (lg_sl ([.ref (ad 0), .int p1, .int p2, .int p3, .int p4, .int p5]) ++ List.replicate (10 - (lg_sl ([.ref (ad 0), .int p1, .int p2, .int p3, .int p4, .int p5])).length) Slot.unset).toArray = ls at hl ⊢
  have hl : lv_has ls 10 [(0, .ref (ad 0)), (1, .int p1), (2, .int p2), (3, .int p3), (4, .int p4), (5, .int p5)] := hl
  change W p l e rmX9_holds s m ([.ref (ad 0), .int p1, .int p2, .int p3, .int p4, .int p5] : List Value).toArray below meth c s.heap [] 0 0 _ _
  unfold fX9_holds at hf
  refine lv_aload_n hx hb dX9_holds_0 rfl (lv_at hl 0 rfl) ?_
  refine va_get (D := (dC, dI)) (ci := 9) (v := .ref (ad 7)) (C := RX9) (T := TX9) (N := 45) hx hb hts (fun w h => gw_mem (inX9 w h)) hown hK.1 hP 0 rfl rfl 24 (by decide) (hts _ (gw_mem wfX9_30)) (fun _ h9 => h9) rfl dX9_holds_1 ?_
  refine lv_aload_n hx hb dX9_holds_4 rfl (lv_at hl 0 rfl) ?_
  refine lv_iload_n hx hb dX9_holds_5 rfl (lv_at hl 1 rfl) ?_
  refine lv_iload_n hx hb dX9_holds_6 rfl (lv_at hl 2 rfl) ?_
  refine lv_iload_n hx hb dX9_holds_7 rfl (lv_at hl 3 rfl) ?_
  refine lv_iload hx hb dX9_holds_8 (lv_at hl 4 rfl) ?_
  refine lv_iload hx hb dX9_holds_10 (lv_at hl 5 rfl) ?_
  refine lv_iconst (v := 1) hx hb dX9_holds_12 (by decide) ?_
  obtain ⟨r1, v2, hf⟩ := bd1_some hf
  refine gci (va_runV (As := [.int p1, .int p2, .int p3, .int p4, .int p5, .int 1]) (rest := [.ref (ad 7)]) ⟨hx, hb, hml, hown, hts⟩ (tX9_then l dC dI dA ad s.heap.size v2) (ccX9_X9_then hts ⟨Nat.le_of_ble_eq_true rfl, Nat.le_of_ble_eq_true rfl⟩) (gPreV (ci := 9) (q0 := 0) hP hK hD rfl rfl) rfl rfl hl.1 rfl (lv_room (Nat.le_of_ble_eq_true rfl)) dX9_holds_13 ⟨Nat.le_of_ble_eq_true rfl, Nat.le_of_ble_eq_true rfl⟩) hD hS hA (fun H locs hP hD hS => ?_)
  obtain ⟨h3, hf⟩ := og_some hf
  refine va_lald hx hb hK.1 hP 7 1 rfl rfl (okI_in h3) dX9_holds_16 ?_
  refine lv_topl (fun w4 ew4 => ?_)
  replace hf := nm_at hf ew4
  refine lv_lstore (lv' := [(6, .long w4), (0, .ref (ad 0)), (1, .int p1), (2, .int p2), (3, .int p3), (4, .int p4), (5, .int p5)]) hx hb dX9_holds_17 hl (by decide) rfl (fun ls hl => ?_)
  refine lv_aload_n hx hb dX9_holds_19 rfl (lv_at hl 1 rfl) ?_
  refine va_get (D := (dC, dI)) (ci := 9) (v := .ref (ad 7)) (C := RX9) (T := TX9) (N := 45) hx hb hts (fun w h => gw_mem (inX9 w h)) hown hK.1 hP 0 rfl rfl 24 (by decide) (hts _ (gw_mem wfX9_30)) (fun _ h9 => h9) rfl dX9_holds_20 ?_
  refine lv_aload_n hx hb dX9_holds_23 rfl (lv_at hl 1 rfl) ?_
  refine lv_iload_n hx hb dX9_holds_24 rfl (lv_at hl 2 rfl) ?_
  refine lv_iload_n hx hb dX9_holds_25 rfl (lv_at hl 3 rfl) ?_
  refine lv_iload_n hx hb dX9_holds_26 rfl (lv_at hl 4 rfl) ?_
  refine lv_iload hx hb dX9_holds_27 (lv_at hl 5 rfl) ?_
  refine lv_iload hx hb dX9_holds_29 (lv_at hl 6 rfl) ?_
  refine lv_iconst (v := 0) hx hb dX9_holds_31 (by decide) ?_
  obtain ⟨r5, v6, hf⟩ := bd1_some hf
  refine gci (va_runV (As := [.int p1, .int p2, .int p3, .int p4, .int p5, .int 0]) (rest := [.ref (ad 7)]) ⟨hx, hb, hml, hown, hts⟩ (tX9_then l dC dI dA ad H.size v6) (ccX9_X9_then hts ⟨Nat.le_of_ble_eq_true rfl, Nat.le_of_ble_eq_true rfl⟩) (gPreV (ci := 9) (q0 := 0) hP hK hD rfl rfl) rfl rfl hl.1 rfl (lv_room (Nat.le_of_ble_eq_true rfl)) dX9_holds_32 ⟨Nat.le_of_ble_eq_true rfl, Nat.le_of_ble_eq_true rfl⟩) hD hS hA (fun H locs hP hD hS => ?_)
  obtain ⟨h7, hf⟩ := og_some hf
  refine va_lald hx hb hK.1 hP 7 1 rfl rfl (okI_in h7) dX9_holds_35 ?_
  refine lv_topl (fun w8 ew8 => ?_)
  replace hf := nm_at hf ew8
  refine lv_lstore (lv' := [(8, .long w8), (6, .long w4), (0, .ref (ad 0)), (1, .int p1), (2, .int p2), (3, .int p3), (4, .int p4), (5, .int p5)]) hx hb dX9_holds_36 hl (by decide) rfl (fun ls hl => ?_)
  refine lv_aload_n hx hb dX9_holds_38 rfl (lv_at hl 2 rfl) ?_
  refine va_get (D := (dC, dI)) (ci := 9) (v := .int c_likely) (C := RX9) (T := TX9) (N := 45) hx hb hts (fun w h => gw_mem (inX9 w h)) hown hK.1 hP 0 rfl rfl 8 (by decide) (hts _ (gw_mem wfX9_97)) (fun _ h9 => h9) rfl dX9_holds_39 ?_
  refine lv_i2l hx hb dX9_holds_42 rfl ?_
  refine lv_lload hx hb dX9_holds_43 (lv_at hl 1 rfl) ?_
  refine lv_lmul hx hb dX9_holds_45 ?_
  refine lv_aload_n hx hb dX9_holds_46 rfl (lv_at hl 2 rfl) ?_
  refine va_get (D := (dC, dI)) (ci := 9) (v := .int c_outOf) (C := RX9) (T := TX9) (N := 45) hx hb hts (fun w h => gw_mem (inX9 w h)) hown hK.1 hP 0 rfl rfl 9 (by decide) (hts _ (gw_mem wfX9_100)) (fun _ h9 => h9) rfl dX9_holds_47 ?_
  refine lv_aload_n hx hb dX9_holds_50 rfl (lv_at hl 2 rfl) ?_
  refine va_get (D := (dC, dI)) (ci := 9) (v := .int c_likely) (C := RX9) (T := TX9) (N := 45) hx hb hts (fun w h => gw_mem (inX9 w h)) hown hK.1 hP 0 rfl rfl 8 (by decide) (hts _ (gw_mem wfX9_97)) (fun _ h9 => h9) rfl dX9_holds_51 ?_
  refine lv_isub hx hb dX9_holds_54 ?_
  refine lv_i2l hx hb dX9_holds_55 rfl ?_
  refine lv_lload hx hb dX9_holds_56 (lv_at hl 0 rfl) ?_
  refine lv_lmul hx hb dX9_holds_58 ?_
  refine lv_ladd hx hb dX9_holds_59 ?_
  refine lv_ldc2 (v := 1000) hx hb hown (hts _ (gw_mem wkX9_74)) dX9_holds_60 ?_
  refine lv_lmul hx hb dX9_holds_63 ?_
  refine lv_aload_n hx hb dX9_holds_64 rfl (lv_at hl 2 rfl) ?_
  refine va_get (D := (dC, dI)) (ci := 9) (v := .int c_outOf) (C := RX9) (T := TX9) (N := 45) hx hb hts (fun w h => gw_mem (inX9 w h)) hown hK.1 hP 0 rfl rfl 9 (by decide) (hts _ (gw_mem wfX9_100)) (fun _ h9 => h9) rfl dX9_holds_65 ?_
  refine lv_sipush (v := 1000) hx hb dX9_holds_68 (by decide) ?_
  refine lv_aload_n hx hb dX9_holds_71 rfl (lv_at hl 2 rfl) ?_
  refine va_get (D := (dC, dI)) (ci := 9) (v := .int c_rateNow) (C := RX9) (T := TX9) (N := 45) hx hb hts (fun w h => gw_mem (inX9 w h)) hown hK.1 hP 0 rfl rfl 10 (by decide) (hts _ (gw_mem wfX9_103)) (fun _ h9 => h9) rfl dX9_holds_72 ?_
  refine lv_iadd hx hb dX9_holds_75 ?_
  refine lv_imul hx hb dX9_holds_76 ?_
  refine lv_i2l hx hb dX9_holds_77 rfl ?_
  obtain ⟨h9, hf⟩ := og_some hf
  refine lv_ldiv hx hb dX9_holds_78 (nzL_ne h9) ?_
  cases hf
  exact W.lret hx hb hr (fun t ht _ => gql hP hD hS ht) hS.2.2 dX9_holds_79
theorem ccX9_X9_couponOf {R : Room} {s : State} {args : Array Value} {c0 : Cond} (ht : ∀ w ∈ wq c0, w.before args s = true) (hR : rmX9_couponOf.frames + 1 ≤ R.frames ∧ 8 + (3 + 11) + rmX9_couponOf.locals ≤ R.locals) : CallW R s args RX9 RX9 281 yX9_couponOf cX9_couponOf 3 (some .int) (wq (.code yX9_couponOf cX9_couponOf 3 (some .int))) rmX9_couponOf 0 0 2 := gCW 2 ht wcX9_couponOf wmX9_281 wiX9_couponOf weX9_couponOf wnX9 (by decide +kernel) rfl rfl hR
def fX9_laysEnd (p1 : Int32) (p2 : Int32) (p3 : Int32) (p4 : Int32) (c_bonds : Nat → Int32) (c_days : Int32) (c_pence : Nat → Int64) (c_worth : Nat → Int64) (c_hold : Nat → Int64) (c_acts : Nat → Int32) : Option ((Nat → Int64) × (Nat → Int64) × (Nat → Int32)) := bd1 (fX9_turned p1 c_days p2 p3 c_bonds c_pence) (fun r1 => bd1 (fX9_at c_days p2 p3 p4) (fun r3 => bd1 (fX9_of p1 0 c_bonds) (fun r5 => if r1 ≤ (Int32.toInt64 r5) then og (okI r3 784) (nm (upd c_acts (Int32.toNatClampNeg r3) 5) (fun w9 => bd1 (fX9_of p1 0 c_bonds) (fun r10 => og (okI r3 784) (nm (vp_updL c_hold (Int32.toNatClampNeg r3) (Int32.toInt64 r10)) (fun w13 => bd1 (fX9_couponOf p1 c_days c_bonds) (fun r14 => bd1 (fX9_of p1 0 c_bonds) (fun r16 => bd1 (fX9_more (Int32.toInt64 r16) r1) (fun r18 => og (okI r3 784) (nm (vp_updL c_worth (Int32.toNatClampNeg r3) ((Int32.toInt64 r14) + r18)) (fun w21 => some (w21, w13, w9))))))))))) else og (okI r3 784) (nm (upd c_acts (Int32.toNatClampNeg r3) 6) (fun w23 => bd1 (fX9_of p1 0 c_bonds) (fun r24 => og (okI r3 784) (nm (vp_updL c_hold (Int32.toNatClampNeg r3) (Int32.toInt64 r24)) (fun w27 => bd1 (fX9_couponOf p1 c_days c_bonds) (fun r28 => bd1 (fX9_of p1 0 c_bonds) (fun r30 => bd1 (fX9_more (Int32.toInt64 r30) r1) (fun r32 => og (okI r3 784) (nm (vp_updL c_worth (Int32.toNatClampNeg r3) ((Int32.toInt64 r28) + r32)) (fun w35 => some (w35, w27, w23))))))))))))))
abbrev rmX9_laysEnd : Room := { frames := 3, cells := 0, slots := 0, locals := 79 }
set_option maxHeartbeats 4000000 in
set_option maxRecDepth 100000 in
theorem tX9_laysEnd (l : Launch) (dC : Nat → ClassId) (dI : Nat → Nat → Nat) (dA : Nat → ClassId) (ad : Nat → Nat) (sz : Nat) {p1 : Int32} {p2 : Int32} {p3 : Int32} {p4 : Int32} {c_tape : Nat → Int32} {c_taped : Int32} {c_tree : Nat → Int32} {c_bonds : Nat → Int32} {c_moves : Nat → Int32} {c_handMoves : Nat → Int32} {c_moved : Int32} {c_days : Int32} {c_likely : Int32} {c_outOf : Int32} {c_rateNow : Int32} {c_pence : Nat → Int64} {c_top : Int64} {c_bottom : Int64} {c_spot : Int32} {c_textLong : Int32} {c_fault : Int32} {c_number : Int32} {c_numberAt : Int32} {c_figures : Int32} {c_written : Int32} {c_wanted : Int32} {c_found : Int32} {c_drawnNow : Int32} {c_worth : Nat → Int64} {c_hold : Nat → Int64} {c_way : Nat → Int64} {c_acts : Nat → Int32} {c_sDay : Int32} {c_sUps : Int32} {c_sUp : Int32} {c_sMarks : Int32} {c_paidAll : Int64} {c_isPlayed : Int32} {c_isOn : Int32} {c_handMoved : Int32} {c_handPaid : Int64} {c_regret : Int64} {c_aside : Nat → Int32} {c_other : Nat → Int64} {c_states : Int32} {c_kept : Nat → Int32} {c_keptLong : Nat → Int64} {c_keptAt : Int32} {c_isTaking : Int32} {o_c_worth : Nat → Int64} {o_c_hold : Nat → Int64} {o_c_acts : Nat → Int32} (hf : fX9_laysEnd p1 p2 p3 p4 c_bonds c_days c_pence c_worth c_hold c_acts = some (o_c_worth, o_c_hold, o_c_acts)) : Met l yX9_laysEnd (wq (Cond.code yX9_laysEnd cX9_laysEnd 8 none)) rmX9_laysEnd (gP [.ref (ad 0), .int p1, .int p2, .int p3, .int p4] (dC, dI) dA (mW dA ad c_tape c_taped c_tree c_bonds c_moves c_handMoves c_moved c_days c_likely c_outOf c_rateNow c_pence c_top c_bottom c_spot c_textLong c_fault c_number c_numberAt c_figures c_written c_wanted c_found c_drawnNow c_worth c_hold c_way c_acts c_sDay c_sUps c_sUp c_sMarks c_paidAll c_isPlayed c_isOn c_handMoved c_handPaid c_regret c_aside c_other c_states c_kept c_keptLong c_keptAt c_isTaking) sz) (gQv (dC, dI) (mW dA ad c_tape c_taped c_tree c_bonds c_moves c_handMoves c_moved c_days c_likely c_outOf c_rateNow c_pence c_top c_bottom c_spot c_textLong c_fault c_number c_numberAt c_figures c_written c_wanted c_found c_drawnNow o_c_worth o_c_hold c_way o_c_acts c_sDay c_sUps c_sUp c_sMarks c_paidAll c_isPlayed c_isOn c_handMoved c_handPaid c_regret c_aside c_other c_states c_kept c_keptLong c_keptAt c_isTaking) (va_A (mW dA ad c_tape c_taped c_tree c_bonds c_moves c_handMoves c_moved c_days c_likely c_outOf c_rateNow c_pence c_top c_bottom c_spot c_textLong c_fault c_number c_numberAt c_figures c_written c_wanted c_found c_drawnNow c_worth c_hold c_way c_acts c_sDay c_sUps c_sUp c_sMarks c_paidAll c_isPlayed c_isOn c_handMoved c_handPaid c_regret c_aside c_other c_states c_kept c_keptLong c_keptAt c_isTaking) sz)) 0 0 (va_A (mW dA ad c_tape c_taped c_tree c_bonds c_moves c_handMoves c_moved c_days c_likely c_outOf c_rateNow c_pence c_top c_bottom c_spot c_textLong c_fault c_number c_numberAt c_figures c_written c_wanted c_found c_drawnNow c_worth c_hold c_way c_acts c_sDay c_sUps c_sUp c_sMarks c_paidAll c_isPlayed c_isOn c_handMoved c_handPaid c_regret c_aside c_other c_states c_kept c_keptLong c_keptAt c_isTaking) sz) := by
  refine Met.ofW (cc := cX9_laysEnd) (maxL := 8) (ret := none) (by decide) rfl ?_
  intro p e s m args below meth c s₁ B hml hv
  obtain ⟨rfl, hsz, hP, hK, hD0⟩ := hv
  have hx := B.exec
  have hb := B.bytes
  have hr := B.returns
  have hts := atoms_spec (ws := wq (Cond.code yX9_laysEnd cX9_laysEnd 8 none)) B.pre
  have hown : s.vm.findClass RX9 = some m.cls := findClass_of_methodNamed B.named
  have hlocks := B.notSynchronized
  clear B
  subst hsz
  have hD := hD0.self (sz := s.heap.size)
  generalize hAe : va_A (mW dA ad c_tape c_taped c_tree c_bonds c_moves c_handMoves c_moved c_days c_likely c_outOf c_rateNow c_pence c_top c_bottom c_spot c_textLong c_fault c_number c_numberAt c_figures c_written c_wanted c_found c_drawnNow c_worth c_hold c_way c_acts c_sDay c_sUps c_sUp c_sMarks c_paidAll c_isPlayed c_isOn c_handMoved c_handPaid c_regret c_aside c_other c_states c_kept c_keptLong c_keptAt c_isTaking) s.heap.size = A at hD ⊢
  have hA : ∀ q : Nat, s.heap.size ≤ q → A q := fun q h => by rw [← hAe]; exact Or.inr h
  clear hAe hD0
  have hS : va_S A s.heap s.heap [] := va_S.rf
  have hl := lv_entry ([.ref (ad 0), .int p1, .int p2, .int p3, .int p4]) (n := 8) (Nat.le_of_ble_eq_true rfl)
  rw [lg_entry_eq]
  generalize (lg_sl ([.ref (ad 0), .int p1, .int p2, .int p3, .int p4]) ++ List.replicate (8 - (lg_sl ([.ref (ad 0), .int p1, .int p2, .int p3, .int p4])).length) Slot.unset).toArray = ls at hl ⊢
  have hl : lv_has ls 8 [(0, .ref (ad 0)), (1, .int p1), (2, .int p2), (3, .int p3), (4, .int p4)] := hl
  change W p l e rmX9_laysEnd s m ([.ref (ad 0), .int p1, .int p2, .int p3, .int p4] : List Value).toArray below meth c s.heap [] 0 0 _ _
  unfold fX9_laysEnd at hf
  refine lv_aload_n hx hb dX9_laysEnd_0 rfl (lv_at hl 0 rfl) ?_
  refine lv_iload_n hx hb dX9_laysEnd_1 rfl (lv_at hl 1 rfl) ?_
  refine lv_aload_n hx hb dX9_laysEnd_2 rfl (lv_at hl 0 rfl) ?_
  refine va_get (D := (dC, dI)) (ci := 9) (v := .int c_days) (C := RX9) (T := TX9) (N := 45) hx hb hts (fun w h => gw_mem (inX9 w h)) hown hK.1 hP 0 rfl rfl 7 (by decide) (hts _ (gw_mem wfX9_94)) (fun _ h9 => h9) rfl dX9_laysEnd_3 ?_
  refine lv_iload_n hx hb dX9_laysEnd_6 rfl (lv_at hl 2 rfl) ?_
  refine lv_iload_n hx hb dX9_laysEnd_7 rfl (lv_at hl 3 rfl) ?_
  obtain ⟨r1, v2, hf⟩ := bd1_some hf
  refine gcl (va_runV (As := [.int p1, .int c_days, .int p2, .int p3]) (rest := []) ⟨hx, hb, hml, hown, hts⟩ (tX9_turned l dC dI dA ad s.heap.size v2) (ccX9_X9_turned hts ⟨Nat.le_of_ble_eq_true rfl, Nat.le_of_ble_eq_true rfl⟩) (gPreV (ci := 9) (q0 := 0) hP hK hD rfl rfl) rfl rfl hl.1 rfl (lv_room (Nat.le_of_ble_eq_true rfl)) dX9_laysEnd_8 ⟨Nat.le_of_ble_eq_true rfl, Nat.le_of_ble_eq_true rfl⟩) hD hS hA (fun H locs hP hD hS => ?_)
  refine lv_lstore (lv' := [(5, .long r1), (0, .ref (ad 0)), (1, .int p1), (2, .int p2), (3, .int p3), (4, .int p4)]) hx hb dX9_laysEnd_11 hl (by decide) rfl (fun ls hl => ?_)
  refine lv_aload_n hx hb dX9_laysEnd_13 rfl (lv_at hl 1 rfl) ?_
  refine va_get (D := (dC, dI)) (ci := 9) (v := .int c_days) (C := RX9) (T := TX9) (N := 45) hx hb hts (fun w h => gw_mem (inX9 w h)) hown hK.1 hP 0 rfl rfl 7 (by decide) (hts _ (gw_mem wfX9_94)) (fun _ h9 => h9) rfl dX9_laysEnd_14 ?_
  refine lv_iload_n hx hb dX9_laysEnd_17 rfl (lv_at hl 3 rfl) ?_
  refine lv_iload_n hx hb dX9_laysEnd_18 rfl (lv_at hl 4 rfl) ?_
  refine lv_iload hx hb dX9_laysEnd_19 (lv_at hl 5 rfl) ?_
  obtain ⟨r3, v4, hf⟩ := bd1_some hf
  refine gci0 (va_runS (As := [.int c_days, .int p2, .int p3, .int p4]) (rest := []) ⟨hx, hb, hml, hown, hts⟩ (tX9_at l dC dI dA H.size v4) (ccX9_X9_at hts ⟨Nat.le_of_ble_eq_true rfl, Nat.le_of_ble_eq_true rfl⟩) (gPreS0 hK) rfl rfl hl.1 rfl (lv_room (Nat.le_of_ble_eq_true rfl)) dX9_laysEnd_21 ⟨Nat.le_of_ble_eq_true rfl, Nat.le_of_ble_eq_true rfl⟩) hP hS hA (fun H locs hP hS => ?_)
  refine lv_istore (lv' := [(7, .int r3), (5, .long r1), (0, .ref (ad 0)), (1, .int p1), (2, .int p2), (3, .int p3), (4, .int p4)]) hx hb dX9_laysEnd_24 hl (by decide) rfl (fun ls hl => ?_)
  refine lv_aload_n hx hb dX9_laysEnd_26 rfl (lv_at hl 2 rfl) ?_
  refine va_get (D := (dC, dI)) (ci := 9) (v := .ref (ad 10)) (C := RX9) (T := TX9) (N := 45) hx hb hts (fun w h => gw_mem (inX9 w h)) hown hK.1 hP 0 rfl rfl 27 (by decide) (hts _ (gw_mem wfX9_39)) (fun _ h9 => h9) rfl dX9_laysEnd_27 ?_
  refine lv_iload hx hb dX9_laysEnd_30 (lv_at hl 0 rfl) ?_
  refine lv_lload hx hb dX9_laysEnd_32 (lv_at hl 1 rfl) ?_
  refine lv_aload_n hx hb dX9_laysEnd_34 rfl (lv_at hl 2 rfl) ?_
  refine lv_iload_n hx hb dX9_laysEnd_35 rfl (lv_at hl 3 rfl) ?_
  refine lv_iconst (v := 0) hx hb dX9_laysEnd_36 (by decide) ?_
  obtain ⟨r5, v6, hf⟩ := bd1_some hf
  refine gci (va_runV (As := [.int p1, .int 0]) (rest := [.long r1, .int r3, .ref (ad 10)]) ⟨hx, hb, hml, hown, hts⟩ (tX9_of l dC dI dA ad H.size v6) (ccX9_X9_of hts ⟨Nat.le_of_ble_eq_true rfl, Nat.le_of_ble_eq_true rfl⟩) (gPreV (ci := 9) (q0 := 0) hP hK hD rfl rfl) rfl rfl hl.1 rfl (lv_room (Nat.le_of_ble_eq_true rfl)) dX9_laysEnd_37 ⟨Nat.le_of_ble_eq_true rfl, Nat.le_of_ble_eq_true rfl⟩) hD hS hA (fun H locs hP hD hS => ?_)
  refine lv_i2l hx hb dX9_laysEnd_40 rfl ?_
  refine W.lcmp hx hb dX9_laysEnd_41 ?_
  refine lv_if_le (tgt := 50) hx hb dX9_laysEnd_42 (by decide) (fun k7 => ?_) (fun k7 => ?_)
  · replace hf := ifp (lc_le.mp k7) hf
    refine lv_iconst (v := 5) hx hb dX9_laysEnd_50 (by decide) ?_
    obtain ⟨h8, hf⟩ := og_some hf
    obtain ⟨w9, ew9⟩ : ∃ y : Nat → Int32, y = upd c_acts (Int32.toNatClampNeg r3) 5 := ⟨_, rfl⟩
    replace hf := nm_at hf ew9
    refine va_iast hx hb hK.1 hP hD hS 10 0 rfl rfl (okI_in h8) dX9_laysEnd_51 (fun H locs hP hD hS => ?_)
    have hP : va_P (dC, dI) vwCl (mW dA ad c_tape c_taped c_tree c_bonds c_moves c_handMoves c_moved c_days c_likely c_outOf c_rateNow c_pence c_top c_bottom c_spot c_textLong c_fault c_number c_numberAt c_figures c_written c_wanted c_found c_drawnNow c_worth c_hold c_way w9 c_sDay c_sUps c_sUp c_sMarks c_paidAll c_isPlayed c_isOn c_handMoved c_handPaid c_regret c_aside c_other c_states c_kept c_keptLong c_keptAt c_isTaking) H := by rw [ew9]; exact hP
    have hD : va_D A (mW dA ad c_tape c_taped c_tree c_bonds c_moves c_handMoves c_moved c_days c_likely c_outOf c_rateNow c_pence c_top c_bottom c_spot c_textLong c_fault c_number c_numberAt c_figures c_written c_wanted c_found c_drawnNow c_worth c_hold c_way w9 c_sDay c_sUps c_sUp c_sMarks c_paidAll c_isPlayed c_isOn c_handMoved c_handPaid c_regret c_aside c_other c_states c_kept c_keptLong c_keptAt c_isTaking) := by rw [ew9]; exact hD
    refine lv_aload_n hx hb dX9_laysEnd_52 rfl (lv_at hl 2 rfl) ?_
    refine va_get (D := (dC, dI)) (ci := 9) (v := .ref (ad 8)) (C := RX9) (T := TX9) (N := 45) hx hb hts (fun w h => gw_mem (inX9 w h)) hown hK.1 hP 0 rfl rfl 25 (by decide) (hts _ (gw_mem wfX9_33)) (fun _ h9 => h9) rfl dX9_laysEnd_53 ?_
    refine lv_iload hx hb dX9_laysEnd_56 (lv_at hl 0 rfl) ?_
    refine lv_aload_n hx hb dX9_laysEnd_58 rfl (lv_at hl 2 rfl) ?_
    refine lv_iload_n hx hb dX9_laysEnd_59 rfl (lv_at hl 3 rfl) ?_
    refine lv_iconst (v := 0) hx hb dX9_laysEnd_60 (by decide) ?_
    obtain ⟨r10, v11, hf⟩ := bd1_some hf
    refine gci (va_runV (As := [.int p1, .int 0]) (rest := [.int r3, .ref (ad 8)]) ⟨hx, hb, hml, hown, hts⟩ (tX9_of l dC dI dA ad H.size v11) (ccX9_X9_of hts ⟨Nat.le_of_ble_eq_true rfl, Nat.le_of_ble_eq_true rfl⟩) (gPreV (ci := 9) (q0 := 0) hP hK hD rfl rfl) rfl rfl hl.1 rfl (lv_room (Nat.le_of_ble_eq_true rfl)) dX9_laysEnd_61 ⟨Nat.le_of_ble_eq_true rfl, Nat.le_of_ble_eq_true rfl⟩) hD hS hA (fun H locs hP hD hS => ?_)
    refine lv_i2l hx hb dX9_laysEnd_64 rfl ?_
    obtain ⟨h12, hf⟩ := og_some hf
    obtain ⟨w13, ew13⟩ : ∃ y : Nat → Int64, y = vp_updL c_hold (Int32.toNatClampNeg r3) (Int32.toInt64 r10) := ⟨_, rfl⟩
    replace hf := nm_at hf ew13
    refine va_last hx hb hK.1 hP hD hS 8 1 rfl rfl (okI_in h12) dX9_laysEnd_65 (fun H locs hP hD hS => ?_)
    have hP : va_P (dC, dI) vwCl (mW dA ad c_tape c_taped c_tree c_bonds c_moves c_handMoves c_moved c_days c_likely c_outOf c_rateNow c_pence c_top c_bottom c_spot c_textLong c_fault c_number c_numberAt c_figures c_written c_wanted c_found c_drawnNow c_worth w13 c_way w9 c_sDay c_sUps c_sUp c_sMarks c_paidAll c_isPlayed c_isOn c_handMoved c_handPaid c_regret c_aside c_other c_states c_kept c_keptLong c_keptAt c_isTaking) H := by rw [ew13]; exact hP
    have hD : va_D A (mW dA ad c_tape c_taped c_tree c_bonds c_moves c_handMoves c_moved c_days c_likely c_outOf c_rateNow c_pence c_top c_bottom c_spot c_textLong c_fault c_number c_numberAt c_figures c_written c_wanted c_found c_drawnNow c_worth w13 c_way w9 c_sDay c_sUps c_sUp c_sMarks c_paidAll c_isPlayed c_isOn c_handMoved c_handPaid c_regret c_aside c_other c_states c_kept c_keptLong c_keptAt c_isTaking) := by rw [ew13]; exact hD
    refine lv_aload_n hx hb dX9_laysEnd_66 rfl (lv_at hl 2 rfl) ?_
    refine va_get (D := (dC, dI)) (ci := 9) (v := .ref (ad 7)) (C := RX9) (T := TX9) (N := 45) hx hb hts (fun w h => gw_mem (inX9 w h)) hown hK.1 hP 0 rfl rfl 24 (by decide) (hts _ (gw_mem wfX9_30)) (fun _ h9 => h9) rfl dX9_laysEnd_67 ?_
    refine lv_iload hx hb dX9_laysEnd_70 (lv_at hl 0 rfl) ?_
    refine lv_aload_n hx hb dX9_laysEnd_72 rfl (lv_at hl 2 rfl) ?_
    refine lv_iload_n hx hb dX9_laysEnd_73 rfl (lv_at hl 3 rfl) ?_
    refine lv_aload_n hx hb dX9_laysEnd_74 rfl (lv_at hl 2 rfl) ?_
    refine va_get (D := (dC, dI)) (ci := 9) (v := .int c_days) (C := RX9) (T := TX9) (N := 45) hx hb hts (fun w h => gw_mem (inX9 w h)) hown hK.1 hP 0 rfl rfl 7 (by decide) (hts _ (gw_mem wfX9_94)) (fun _ h9 => h9) rfl dX9_laysEnd_75 ?_
    obtain ⟨r14, v15, hf⟩ := bd1_some hf
    refine gci (va_runV (As := [.int p1, .int c_days]) (rest := [.int r3, .ref (ad 7)]) ⟨hx, hb, hml, hown, hts⟩ (tX9_couponOf l dC dI dA ad H.size v15) (ccX9_X9_couponOf hts ⟨Nat.le_of_ble_eq_true rfl, Nat.le_of_ble_eq_true rfl⟩) (gPreV (ci := 9) (q0 := 0) hP hK hD rfl rfl) rfl rfl hl.1 rfl (lv_room (Nat.le_of_ble_eq_true rfl)) dX9_laysEnd_78 ⟨Nat.le_of_ble_eq_true rfl, Nat.le_of_ble_eq_true rfl⟩) hD hS hA (fun H locs hP hD hS => ?_)
    refine lv_i2l hx hb dX9_laysEnd_81 rfl ?_
    refine lv_aload_n hx hb dX9_laysEnd_82 rfl (lv_at hl 2 rfl) ?_
    refine lv_iload_n hx hb dX9_laysEnd_83 rfl (lv_at hl 3 rfl) ?_
    refine lv_iconst (v := 0) hx hb dX9_laysEnd_84 (by decide) ?_
    obtain ⟨r16, v17, hf⟩ := bd1_some hf
    refine gci (va_runV (As := [.int p1, .int 0]) (rest := [.long (Int32.toInt64 r14), .int r3, .ref (ad 7)]) ⟨hx, hb, hml, hown, hts⟩ (tX9_of l dC dI dA ad H.size v17) (ccX9_X9_of hts ⟨Nat.le_of_ble_eq_true rfl, Nat.le_of_ble_eq_true rfl⟩) (gPreV (ci := 9) (q0 := 0) hP hK hD rfl rfl) rfl rfl hl.1 rfl (lv_room (Nat.le_of_ble_eq_true rfl)) dX9_laysEnd_85 ⟨Nat.le_of_ble_eq_true rfl, Nat.le_of_ble_eq_true rfl⟩) hD hS hA (fun H locs hP hD hS => ?_)
    refine lv_i2l hx hb dX9_laysEnd_88 rfl ?_
    refine lv_lload hx hb dX9_laysEnd_89 (lv_at hl 1 rfl) ?_
    obtain ⟨r18, v19, hf⟩ := bd1_some hf
    refine gcl0 (va_runS (As := [.long (Int32.toInt64 r16), .long r1]) (rest := [.long (Int32.toInt64 r14), .int r3, .ref (ad 7)]) ⟨hx, hb, hml, hown, hts⟩ (tX9_more l dC dI dA H.size v19) (ccX9_X9_more hts ⟨Nat.le_of_ble_eq_true rfl, Nat.le_of_ble_eq_true rfl⟩) (gPreS0 hK) rfl rfl hl.1 rfl (lv_room (Nat.le_of_ble_eq_true rfl)) dX9_laysEnd_91 ⟨Nat.le_of_ble_eq_true rfl, Nat.le_of_ble_eq_true rfl⟩) hP hS hA (fun H locs hP hS => ?_)
    refine lv_ladd hx hb dX9_laysEnd_94 ?_
    obtain ⟨h20, hf⟩ := og_some hf
    obtain ⟨w21, ew21⟩ : ∃ y : Nat → Int64, y = vp_updL c_worth (Int32.toNatClampNeg r3) ((Int32.toInt64 r14) + r18) := ⟨_, rfl⟩
    replace hf := nm_at hf ew21
    refine va_last hx hb hK.1 hP hD hS 7 1 rfl rfl (okI_in h20) dX9_laysEnd_95 (fun H locs hP hD hS => ?_)
    have hP : va_P (dC, dI) vwCl (mW dA ad c_tape c_taped c_tree c_bonds c_moves c_handMoves c_moved c_days c_likely c_outOf c_rateNow c_pence c_top c_bottom c_spot c_textLong c_fault c_number c_numberAt c_figures c_written c_wanted c_found c_drawnNow w21 w13 c_way w9 c_sDay c_sUps c_sUp c_sMarks c_paidAll c_isPlayed c_isOn c_handMoved c_handPaid c_regret c_aside c_other c_states c_kept c_keptLong c_keptAt c_isTaking) H := by rw [ew21]; exact hP
    have hD : va_D A (mW dA ad c_tape c_taped c_tree c_bonds c_moves c_handMoves c_moved c_days c_likely c_outOf c_rateNow c_pence c_top c_bottom c_spot c_textLong c_fault c_number c_numberAt c_figures c_written c_wanted c_found c_drawnNow w21 w13 c_way w9 c_sDay c_sUps c_sUp c_sMarks c_paidAll c_isPlayed c_isOn c_handMoved c_handPaid c_regret c_aside c_other c_states c_kept c_keptLong c_keptAt c_isTaking) := by rw [ew21]; exact hD
    cases hf
    exact W.vret hx hb hr (fun t ht _ => gqv hP hD hS ht) hS.2.2 dX9_laysEnd_96
  · replace hf := ifn (fun h => k7 (lc_le.mpr h)) hf
    refine lv_bipush (v := 6) hx hb dX9_laysEnd_45 (by decide) ?_
    refine lv_goto (tgt := 51) hx hb dX9_laysEnd_47 (by decide) ?_
    obtain ⟨h22, hf⟩ := og_some hf
    obtain ⟨w23, ew23⟩ : ∃ y : Nat → Int32, y = upd c_acts (Int32.toNatClampNeg r3) 6 := ⟨_, rfl⟩
    replace hf := nm_at hf ew23
    refine va_iast hx hb hK.1 hP hD hS 10 0 rfl rfl (okI_in h22) dX9_laysEnd_51 (fun H locs hP hD hS => ?_)
    have hP : va_P (dC, dI) vwCl (mW dA ad c_tape c_taped c_tree c_bonds c_moves c_handMoves c_moved c_days c_likely c_outOf c_rateNow c_pence c_top c_bottom c_spot c_textLong c_fault c_number c_numberAt c_figures c_written c_wanted c_found c_drawnNow c_worth c_hold c_way w23 c_sDay c_sUps c_sUp c_sMarks c_paidAll c_isPlayed c_isOn c_handMoved c_handPaid c_regret c_aside c_other c_states c_kept c_keptLong c_keptAt c_isTaking) H := by rw [ew23]; exact hP
    have hD : va_D A (mW dA ad c_tape c_taped c_tree c_bonds c_moves c_handMoves c_moved c_days c_likely c_outOf c_rateNow c_pence c_top c_bottom c_spot c_textLong c_fault c_number c_numberAt c_figures c_written c_wanted c_found c_drawnNow c_worth c_hold c_way w23 c_sDay c_sUps c_sUp c_sMarks c_paidAll c_isPlayed c_isOn c_handMoved c_handPaid c_regret c_aside c_other c_states c_kept c_keptLong c_keptAt c_isTaking) := by rw [ew23]; exact hD
    refine lv_aload_n hx hb dX9_laysEnd_52 rfl (lv_at hl 2 rfl) ?_
    refine va_get (D := (dC, dI)) (ci := 9) (v := .ref (ad 8)) (C := RX9) (T := TX9) (N := 45) hx hb hts (fun w h => gw_mem (inX9 w h)) hown hK.1 hP 0 rfl rfl 25 (by decide) (hts _ (gw_mem wfX9_33)) (fun _ h9 => h9) rfl dX9_laysEnd_53 ?_
    refine lv_iload hx hb dX9_laysEnd_56 (lv_at hl 0 rfl) ?_
    refine lv_aload_n hx hb dX9_laysEnd_58 rfl (lv_at hl 2 rfl) ?_
    refine lv_iload_n hx hb dX9_laysEnd_59 rfl (lv_at hl 3 rfl) ?_
    refine lv_iconst (v := 0) hx hb dX9_laysEnd_60 (by decide) ?_
    obtain ⟨r24, v25, hf⟩ := bd1_some hf
    refine gci (va_runV (As := [.int p1, .int 0]) (rest := [.int r3, .ref (ad 8)]) ⟨hx, hb, hml, hown, hts⟩ (tX9_of l dC dI dA ad H.size v25) (ccX9_X9_of hts ⟨Nat.le_of_ble_eq_true rfl, Nat.le_of_ble_eq_true rfl⟩) (gPreV (ci := 9) (q0 := 0) hP hK hD rfl rfl) rfl rfl hl.1 rfl (lv_room (Nat.le_of_ble_eq_true rfl)) dX9_laysEnd_61 ⟨Nat.le_of_ble_eq_true rfl, Nat.le_of_ble_eq_true rfl⟩) hD hS hA (fun H locs hP hD hS => ?_)
    refine lv_i2l hx hb dX9_laysEnd_64 rfl ?_
    obtain ⟨h26, hf⟩ := og_some hf
    obtain ⟨w27, ew27⟩ : ∃ y : Nat → Int64, y = vp_updL c_hold (Int32.toNatClampNeg r3) (Int32.toInt64 r24) := ⟨_, rfl⟩
    replace hf := nm_at hf ew27
    refine va_last hx hb hK.1 hP hD hS 8 1 rfl rfl (okI_in h26) dX9_laysEnd_65 (fun H locs hP hD hS => ?_)
    have hP : va_P (dC, dI) vwCl (mW dA ad c_tape c_taped c_tree c_bonds c_moves c_handMoves c_moved c_days c_likely c_outOf c_rateNow c_pence c_top c_bottom c_spot c_textLong c_fault c_number c_numberAt c_figures c_written c_wanted c_found c_drawnNow c_worth w27 c_way w23 c_sDay c_sUps c_sUp c_sMarks c_paidAll c_isPlayed c_isOn c_handMoved c_handPaid c_regret c_aside c_other c_states c_kept c_keptLong c_keptAt c_isTaking) H := by rw [ew27]; exact hP
    have hD : va_D A (mW dA ad c_tape c_taped c_tree c_bonds c_moves c_handMoves c_moved c_days c_likely c_outOf c_rateNow c_pence c_top c_bottom c_spot c_textLong c_fault c_number c_numberAt c_figures c_written c_wanted c_found c_drawnNow c_worth w27 c_way w23 c_sDay c_sUps c_sUp c_sMarks c_paidAll c_isPlayed c_isOn c_handMoved c_handPaid c_regret c_aside c_other c_states c_kept c_keptLong c_keptAt c_isTaking) := by rw [ew27]; exact hD
    refine lv_aload_n hx hb dX9_laysEnd_66 rfl (lv_at hl 2 rfl) ?_
    refine va_get (D := (dC, dI)) (ci := 9) (v := .ref (ad 7)) (C := RX9) (T := TX9) (N := 45) hx hb hts (fun w h => gw_mem (inX9 w h)) hown hK.1 hP 0 rfl rfl 24 (by decide) (hts _ (gw_mem wfX9_30)) (fun _ h9 => h9) rfl dX9_laysEnd_67 ?_
    refine lv_iload hx hb dX9_laysEnd_70 (lv_at hl 0 rfl) ?_
    refine lv_aload_n hx hb dX9_laysEnd_72 rfl (lv_at hl 2 rfl) ?_
    refine lv_iload_n hx hb dX9_laysEnd_73 rfl (lv_at hl 3 rfl) ?_
    refine lv_aload_n hx hb dX9_laysEnd_74 rfl (lv_at hl 2 rfl) ?_
    refine va_get (D := (dC, dI)) (ci := 9) (v := .int c_days) (C := RX9) (T := TX9) (N := 45) hx hb hts (fun w h => gw_mem (inX9 w h)) hown hK.1 hP 0 rfl rfl 7 (by decide) (hts _ (gw_mem wfX9_94)) (fun _ h9 => h9) rfl dX9_laysEnd_75 ?_
    obtain ⟨r28, v29, hf⟩ := bd1_some hf
    refine gci (va_runV (As := [.int p1, .int c_days]) (rest := [.int r3, .ref (ad 7)]) ⟨hx, hb, hml, hown, hts⟩ (tX9_couponOf l dC dI dA ad H.size v29) (ccX9_X9_couponOf hts ⟨Nat.le_of_ble_eq_true rfl, Nat.le_of_ble_eq_true rfl⟩) (gPreV (ci := 9) (q0 := 0) hP hK hD rfl rfl) rfl rfl hl.1 rfl (lv_room (Nat.le_of_ble_eq_true rfl)) dX9_laysEnd_78 ⟨Nat.le_of_ble_eq_true rfl, Nat.le_of_ble_eq_true rfl⟩) hD hS hA (fun H locs hP hD hS => ?_)
    refine lv_i2l hx hb dX9_laysEnd_81 rfl ?_
    refine lv_aload_n hx hb dX9_laysEnd_82 rfl (lv_at hl 2 rfl) ?_
    refine lv_iload_n hx hb dX9_laysEnd_83 rfl (lv_at hl 3 rfl) ?_
    refine lv_iconst (v := 0) hx hb dX9_laysEnd_84 (by decide) ?_
    obtain ⟨r30, v31, hf⟩ := bd1_some hf
    refine gci (va_runV (As := [.int p1, .int 0]) (rest := [.long (Int32.toInt64 r28), .int r3, .ref (ad 7)]) ⟨hx, hb, hml, hown, hts⟩ (tX9_of l dC dI dA ad H.size v31) (ccX9_X9_of hts ⟨Nat.le_of_ble_eq_true rfl, Nat.le_of_ble_eq_true rfl⟩) (gPreV (ci := 9) (q0 := 0) hP hK hD rfl rfl) rfl rfl hl.1 rfl (lv_room (Nat.le_of_ble_eq_true rfl)) dX9_laysEnd_85 ⟨Nat.le_of_ble_eq_true rfl, Nat.le_of_ble_eq_true rfl⟩) hD hS hA (fun H locs hP hD hS => ?_)
    refine lv_i2l hx hb dX9_laysEnd_88 rfl ?_
    refine lv_lload hx hb dX9_laysEnd_89 (lv_at hl 1 rfl) ?_
    obtain ⟨r32, v33, hf⟩ := bd1_some hf
    refine gcl0 (va_runS (As := [.long (Int32.toInt64 r30), .long r1]) (rest := [.long (Int32.toInt64 r28), .int r3, .ref (ad 7)]) ⟨hx, hb, hml, hown, hts⟩ (tX9_more l dC dI dA H.size v33) (ccX9_X9_more hts ⟨Nat.le_of_ble_eq_true rfl, Nat.le_of_ble_eq_true rfl⟩) (gPreS0 hK) rfl rfl hl.1 rfl (lv_room (Nat.le_of_ble_eq_true rfl)) dX9_laysEnd_91 ⟨Nat.le_of_ble_eq_true rfl, Nat.le_of_ble_eq_true rfl⟩) hP hS hA (fun H locs hP hS => ?_)
    refine lv_ladd hx hb dX9_laysEnd_94 ?_
    obtain ⟨h34, hf⟩ := og_some hf
    obtain ⟨w35, ew35⟩ : ∃ y : Nat → Int64, y = vp_updL c_worth (Int32.toNatClampNeg r3) ((Int32.toInt64 r28) + r32) := ⟨_, rfl⟩
    replace hf := nm_at hf ew35
    refine va_last hx hb hK.1 hP hD hS 7 1 rfl rfl (okI_in h34) dX9_laysEnd_95 (fun H locs hP hD hS => ?_)
    have hP : va_P (dC, dI) vwCl (mW dA ad c_tape c_taped c_tree c_bonds c_moves c_handMoves c_moved c_days c_likely c_outOf c_rateNow c_pence c_top c_bottom c_spot c_textLong c_fault c_number c_numberAt c_figures c_written c_wanted c_found c_drawnNow w35 w27 c_way w23 c_sDay c_sUps c_sUp c_sMarks c_paidAll c_isPlayed c_isOn c_handMoved c_handPaid c_regret c_aside c_other c_states c_kept c_keptLong c_keptAt c_isTaking) H := by rw [ew35]; exact hP
    have hD : va_D A (mW dA ad c_tape c_taped c_tree c_bonds c_moves c_handMoves c_moved c_days c_likely c_outOf c_rateNow c_pence c_top c_bottom c_spot c_textLong c_fault c_number c_numberAt c_figures c_written c_wanted c_found c_drawnNow w35 w27 c_way w23 c_sDay c_sUps c_sUp c_sMarks c_paidAll c_isPlayed c_isOn c_handMoved c_handPaid c_regret c_aside c_other c_states c_kept c_keptLong c_keptAt c_isTaking) := by rw [ew35]; exact hD
    cases hf
    exact W.vret hx hb hr (fun t ht _ => gqv hP hD hS ht) hS.2.2 dX9_laysEnd_96
theorem ccX9_X9_putOf {R : Room} {s : State} {args : Array Value} {c0 : Cond} (ht : ∀ w ∈ wq c0, w.before args s = true) (hR : rmX9_putOf.frames + 1 ≤ R.frames ∧ 8 + (3 + 11) + rmX9_putOf.locals ≤ R.locals) : CallW R s args RX9 RX9 284 yX9_putOf cX9_putOf 3 (some .int) (wq (.code yX9_putOf cX9_putOf 3 (some .int))) rmX9_putOf 0 0 2 := gCW 2 ht wcX9_putOf wmX9_284 wiX9_putOf weX9_putOf wnX9 (by decide +kernel) rfl rfl hR
theorem ccX9_X9_holds {R : Room} {s : State} {args : Array Value} {c0 : Cond} (ht : ∀ w ∈ wq c0, w.before args s = true) (hR : rmX9_holds.frames + 1 ≤ R.frames ∧ 8 + (10 + 11) + rmX9_holds.locals ≤ R.locals) : CallW R s args RX9 RX9 287 yX9_holds cX9_holds 10 (some .long) (wq (.code yX9_holds cX9_holds 10 (some .long))) rmX9_holds 0 0 5 := gCW 5 ht wcX9_holds wmX9_287 wiX9_holds weX9_holds wnX9 (by decide +kernel) rfl rfl hR
theorem ccX9_X9_called {R : Room} {s : State} {args : Array Value} {c0 : Cond} (ht : ∀ w ∈ wq c0, w.before args s = true) (hR : rmX9_called.frames + 1 ≤ R.frames ∧ 8 + (5 + 11) + rmX9_called.locals ≤ R.locals) : CallW R s args RX9 RX9 291 yX9_called cX9_called 5 (some .long) (wq (.code yX9_called cX9_called 5 (some .long))) rmX9_called 0 0 4 := gCW 4 ht wcX9_called wmX9_291 wiX9_called weX9_called wnX9 (by decide +kernel) rfl rfl hR
theorem ccX9_X9_isFree {R : Room} {s : State} {args : Array Value} {c0 : Cond} (ht : ∀ w ∈ wq c0, w.before args s = true) (hR : rmX9_isFree.frames + 1 ≤ R.frames ∧ 8 + (4 + 11) + rmX9_isFree.locals ≤ R.locals) : CallW R s args RX9 RX9 294 yX9_isFree cX9_isFree 4 (some .boolean) (wq (.code yX9_isFree cX9_isFree 4 (some .boolean))) rmX9_isFree 0 0 3 := gCW 3 ht wcX9_isFree wmX9_294 wiX9_isFree weX9_isFree wnX9 (by decide +kernel) rfl rfl hR
def fX9_laysState (p1 : Int32) (p2 : Int32) (p3 : Int32) (p4 : Int32) (p5 : Int32) (c_bonds : Nat → Int32) (c_days : Int32) (c_likely : Int32) (c_outOf : Int32) (c_rateNow : Int32) (c_pence : Nat → Int64) (c_worth : Nat → Int64) (c_hold : Nat → Int64) (c_acts : Nat → Int32) : Option ((Nat → Int64) × (Nat → Int64) × (Nat → Int32)) := bd1 (fX9_at p2 p3 p4 p5) (fun r1 => bd1 (fX9_turned p1 p2 p3 p4 c_bonds c_pence) (fun r3 => bd1 (fX9_putOf p1 p2 c_bonds c_days) (fun r5 => nm (Int32.toInt64 r5) (fun w7 => bd1 (fX9_holds p1 p2 p3 p4 p5 c_bonds c_likely c_outOf c_rateNow c_pence c_worth) (fun r8 => bd1 (fX9_called p1 p2 p3 p4 c_bonds c_days c_pence) (fun r10 => bd1 (fX9_isFree p1 p2 p5 c_bonds c_days) (fun r12 => if r12 = 0 then og (okI r1 784) (nm (vp_updL c_hold (Int32.toNatClampNeg r1) r8) (fun w16 => bd1 (fX9_couponOf p1 p2 c_bonds) (fun r17 => bd1 (fX9_more w7 r3) (fun r19 => bd1 (fX9_more r19 r8) (fun r22 => og (okI r1 784) (nm (vp_updL c_worth (Int32.toNatClampNeg r1) ((Int32.toInt64 r17) + r22)) (fun w25 => if r8 < w7 then if w7 = (-1) then og (okI r1 784) (nm (upd c_acts (Int32.toNatClampNeg r1) 2) (fun w30 => some (w25, w16, w30))) else if w7 < r3 then og (okI r1 784) (nm (upd c_acts (Int32.toNatClampNeg r1) 2) (fun w33 => some (w25, w16, w33))) else og (okI r1 784) (nm (upd c_acts (Int32.toNatClampNeg r1) 1) (fun w35 => some (w25, w16, w35))) else if r8 < r3 then if w7 = (-1) then og (okI r1 784) (nm (upd c_acts (Int32.toNatClampNeg r1) 2) (fun w39 => some (w25, w16, w39))) else if w7 < r3 then og (okI r1 784) (nm (upd c_acts (Int32.toNatClampNeg r1) 2) (fun w42 => some (w25, w16, w42))) else og (okI r1 784) (nm (upd c_acts (Int32.toNatClampNeg r1) 1) (fun w44 => some (w25, w16, w44))) else og (okI r1 784) (nm (upd c_acts (Int32.toNatClampNeg r1) 0) (fun w46 => some (w25, w16, w46)))))))))) else if r8 ≤ r10 then og (okI r1 784) (nm (vp_updL c_hold (Int32.toNatClampNeg r1) r8) (fun w49 => bd1 (fX9_couponOf p1 p2 c_bonds) (fun r50 => bd1 (fX9_more w7 r3) (fun r52 => bd1 (fX9_more r52 r8) (fun r55 => og (okI r1 784) (nm (vp_updL c_worth (Int32.toNatClampNeg r1) ((Int32.toInt64 r50) + r55)) (fun w58 => if r8 < w7 then if w7 = (-1) then og (okI r1 784) (nm (upd c_acts (Int32.toNatClampNeg r1) 2) (fun w63 => some (w58, w49, w63))) else if w7 < r3 then og (okI r1 784) (nm (upd c_acts (Int32.toNatClampNeg r1) 2) (fun w66 => some (w58, w49, w66))) else og (okI r1 784) (nm (upd c_acts (Int32.toNatClampNeg r1) 1) (fun w68 => some (w58, w49, w68))) else if r8 < r3 then if w7 = (-1) then og (okI r1 784) (nm (upd c_acts (Int32.toNatClampNeg r1) 2) (fun w72 => some (w58, w49, w72))) else if w7 < r3 then og (okI r1 784) (nm (upd c_acts (Int32.toNatClampNeg r1) 2) (fun w75 => some (w58, w49, w75))) else og (okI r1 784) (nm (upd c_acts (Int32.toNatClampNeg r1) 1) (fun w77 => some (w58, w49, w77))) else og (okI r1 784) (nm (upd c_acts (Int32.toNatClampNeg r1) 0) (fun w79 => some (w58, w49, w79)))))))))) else og (okI r1 784) (nm (vp_updL c_hold (Int32.toNatClampNeg r1) r8) (fun w81 => bd1 (fX9_couponOf p1 p2 c_bonds) (fun r82 => bd1 (fX9_more w7 r3) (fun r84 => bd1 (fX9_more r84 r10) (fun r87 => og (okI r1 784) (nm (vp_updL c_worth (Int32.toNatClampNeg r1) ((Int32.toInt64 r82) + r87)) (fun w90 => if w7 ≤ r10 then bd1 (fX9_callOf p1 p2 c_bonds c_days) (fun r93 => if r3 ≤ (Int32.toInt64 r93) then og (okI r1 784) (nm (upd c_acts (Int32.toNatClampNeg r1) 3) (fun w97 => some (w90, w81, w97))) else og (okI r1 784) (nm (upd c_acts (Int32.toNatClampNeg r1) 4) (fun w99 => some (w90, w81, w99)))) else og (okI r1 784) (nm (upd c_acts (Int32.toNatClampNeg r1) 1) (fun w101 => some (w90, w81, w101)))))))))))))))))
abbrev rmX9_laysState : Room := { frames := 4, cells := 0, slots := 0, locals := 103 }
set_option maxHeartbeats 4000000 in
set_option maxRecDepth 100000 in
theorem tX9_laysState (l : Launch) (dC : Nat → ClassId) (dI : Nat → Nat → Nat) (dA : Nat → ClassId) (ad : Nat → Nat) (sz : Nat) {p1 : Int32} {p2 : Int32} {p3 : Int32} {p4 : Int32} {p5 : Int32} {c_tape : Nat → Int32} {c_taped : Int32} {c_tree : Nat → Int32} {c_bonds : Nat → Int32} {c_moves : Nat → Int32} {c_handMoves : Nat → Int32} {c_moved : Int32} {c_days : Int32} {c_likely : Int32} {c_outOf : Int32} {c_rateNow : Int32} {c_pence : Nat → Int64} {c_top : Int64} {c_bottom : Int64} {c_spot : Int32} {c_textLong : Int32} {c_fault : Int32} {c_number : Int32} {c_numberAt : Int32} {c_figures : Int32} {c_written : Int32} {c_wanted : Int32} {c_found : Int32} {c_drawnNow : Int32} {c_worth : Nat → Int64} {c_hold : Nat → Int64} {c_way : Nat → Int64} {c_acts : Nat → Int32} {c_sDay : Int32} {c_sUps : Int32} {c_sUp : Int32} {c_sMarks : Int32} {c_paidAll : Int64} {c_isPlayed : Int32} {c_isOn : Int32} {c_handMoved : Int32} {c_handPaid : Int64} {c_regret : Int64} {c_aside : Nat → Int32} {c_other : Nat → Int64} {c_states : Int32} {c_kept : Nat → Int32} {c_keptLong : Nat → Int64} {c_keptAt : Int32} {c_isTaking : Int32} {o_c_worth : Nat → Int64} {o_c_hold : Nat → Int64} {o_c_acts : Nat → Int32} (hf : fX9_laysState p1 p2 p3 p4 p5 c_bonds c_days c_likely c_outOf c_rateNow c_pence c_worth c_hold c_acts = some (o_c_worth, o_c_hold, o_c_acts)) : Met l yX9_laysState (wq (Cond.code yX9_laysState cX9_laysState 16 none)) rmX9_laysState (gP [.ref (ad 0), .int p1, .int p2, .int p3, .int p4, .int p5] (dC, dI) dA (mW dA ad c_tape c_taped c_tree c_bonds c_moves c_handMoves c_moved c_days c_likely c_outOf c_rateNow c_pence c_top c_bottom c_spot c_textLong c_fault c_number c_numberAt c_figures c_written c_wanted c_found c_drawnNow c_worth c_hold c_way c_acts c_sDay c_sUps c_sUp c_sMarks c_paidAll c_isPlayed c_isOn c_handMoved c_handPaid c_regret c_aside c_other c_states c_kept c_keptLong c_keptAt c_isTaking) sz) (gQv (dC, dI) (mW dA ad c_tape c_taped c_tree c_bonds c_moves c_handMoves c_moved c_days c_likely c_outOf c_rateNow c_pence c_top c_bottom c_spot c_textLong c_fault c_number c_numberAt c_figures c_written c_wanted c_found c_drawnNow o_c_worth o_c_hold c_way o_c_acts c_sDay c_sUps c_sUp c_sMarks c_paidAll c_isPlayed c_isOn c_handMoved c_handPaid c_regret c_aside c_other c_states c_kept c_keptLong c_keptAt c_isTaking) (va_A (mW dA ad c_tape c_taped c_tree c_bonds c_moves c_handMoves c_moved c_days c_likely c_outOf c_rateNow c_pence c_top c_bottom c_spot c_textLong c_fault c_number c_numberAt c_figures c_written c_wanted c_found c_drawnNow c_worth c_hold c_way c_acts c_sDay c_sUps c_sUp c_sMarks c_paidAll c_isPlayed c_isOn c_handMoved c_handPaid c_regret c_aside c_other c_states c_kept c_keptLong c_keptAt c_isTaking) sz)) 0 0 (va_A (mW dA ad c_tape c_taped c_tree c_bonds c_moves c_handMoves c_moved c_days c_likely c_outOf c_rateNow c_pence c_top c_bottom c_spot c_textLong c_fault c_number c_numberAt c_figures c_written c_wanted c_found c_drawnNow c_worth c_hold c_way c_acts c_sDay c_sUps c_sUp c_sMarks c_paidAll c_isPlayed c_isOn c_handMoved c_handPaid c_regret c_aside c_other c_states c_kept c_keptLong c_keptAt c_isTaking) sz) := by
  refine Met.ofW (cc := cX9_laysState) (maxL := 16) (ret := none) (by decide) rfl ?_
  intro p e s m args below meth c s₁ B hml hv
  obtain ⟨rfl, hsz, hP, hK, hD0⟩ := hv
  have hx := B.exec
  have hb := B.bytes
  have hr := B.returns
  have hts := atoms_spec (ws := wq (Cond.code yX9_laysState cX9_laysState 16 none)) B.pre
  have hown : s.vm.findClass RX9 = some m.cls := findClass_of_methodNamed B.named
  have hlocks := B.notSynchronized
  clear B
  subst hsz
  have hD := hD0.self (sz := s.heap.size)
  generalize hAe : va_A (mW dA ad c_tape c_taped c_tree c_bonds c_moves c_handMoves c_moved c_days c_likely c_outOf c_rateNow c_pence c_top c_bottom c_spot c_textLong c_fault c_number c_numberAt c_figures c_written c_wanted c_found c_drawnNow c_worth c_hold c_way c_acts c_sDay c_sUps c_sUp c_sMarks c_paidAll c_isPlayed c_isOn c_handMoved c_handPaid c_regret c_aside c_other c_states c_kept c_keptLong c_keptAt c_isTaking) s.heap.size = A at hD ⊢
  have hA : ∀ q : Nat, s.heap.size ≤ q → A q := fun q h => by rw [← hAe]; exact Or.inr h
  clear hAe hD0
  have hS : va_S A s.heap s.heap [] := va_S.rf
  have hl := lv_entry ([.ref (ad 0), .int p1, .int p2, .int p3, .int p4, .int p5]) (n := 16) (Nat.le_of_ble_eq_true rfl)
  rw [lg_entry_eq]
  generalize (lg_sl ([.ref (ad 0), .int p1, .int p2, .int p3, .int p4, .int p5]) ++ List.replicate (16 - (lg_sl ([.ref (ad 0), .int p1, .int p2, .int p3, .int p4, .int p5])).length) Slot.unset).toArray = ls at hl ⊢
  have hl : lv_has ls 16 [(0, .ref (ad 0)), (1, .int p1), (2, .int p2), (3, .int p3), (4, .int p4), (5, .int p5)] := hl
  change W p l e rmX9_laysState s m ([.ref (ad 0), .int p1, .int p2, .int p3, .int p4, .int p5] : List Value).toArray below meth c s.heap [] 0 0 _ _
  unfold fX9_laysState at hf
  refine lv_iload_n hx hb dX9_laysState_0 rfl (lv_at hl 2 rfl) ?_
  refine lv_iload_n hx hb dX9_laysState_1 rfl (lv_at hl 3 rfl) ?_
  refine lv_iload hx hb dX9_laysState_2 (lv_at hl 4 rfl) ?_
  refine lv_iload hx hb dX9_laysState_4 (lv_at hl 5 rfl) ?_
  obtain ⟨r1, v2, hf⟩ := bd1_some hf
  refine gci0 (va_runS (As := [.int p2, .int p3, .int p4, .int p5]) (rest := []) ⟨hx, hb, hml, hown, hts⟩ (tX9_at l dC dI dA s.heap.size v2) (ccX9_X9_at hts ⟨Nat.le_of_ble_eq_true rfl, Nat.le_of_ble_eq_true rfl⟩) (gPreS0 hK) rfl rfl hl.1 rfl (lv_room (Nat.le_of_ble_eq_true rfl)) dX9_laysState_6 ⟨Nat.le_of_ble_eq_true rfl, Nat.le_of_ble_eq_true rfl⟩) hP hS hA (fun H locs hP hS => ?_)
  refine lv_istore (lv' := [(6, .int r1), (0, .ref (ad 0)), (1, .int p1), (2, .int p2), (3, .int p3), (4, .int p4), (5, .int p5)]) hx hb dX9_laysState_9 hl (by decide) rfl (fun ls hl => ?_)
  refine lv_aload_n hx hb dX9_laysState_11 rfl (lv_at hl 1 rfl) ?_
  refine lv_iload_n hx hb dX9_laysState_12 rfl (lv_at hl 2 rfl) ?_
  refine lv_iload_n hx hb dX9_laysState_13 rfl (lv_at hl 3 rfl) ?_
  refine lv_iload_n hx hb dX9_laysState_14 rfl (lv_at hl 4 rfl) ?_
  refine lv_iload hx hb dX9_laysState_15 (lv_at hl 5 rfl) ?_
  obtain ⟨r3, v4, hf⟩ := bd1_some hf
  refine gcl (va_runV (As := [.int p1, .int p2, .int p3, .int p4]) (rest := []) ⟨hx, hb, hml, hown, hts⟩ (tX9_turned l dC dI dA ad H.size v4) (ccX9_X9_turned hts ⟨Nat.le_of_ble_eq_true rfl, Nat.le_of_ble_eq_true rfl⟩) (gPreV (ci := 9) (q0 := 0) hP hK hD rfl rfl) rfl rfl hl.1 rfl (lv_room (Nat.le_of_ble_eq_true rfl)) dX9_laysState_17 ⟨Nat.le_of_ble_eq_true rfl, Nat.le_of_ble_eq_true rfl⟩) hD hS hA (fun H locs hP hD hS => ?_)
  refine lv_lstore (lv' := [(7, .long r3), (6, .int r1), (0, .ref (ad 0)), (1, .int p1), (2, .int p2), (3, .int p3), (4, .int p4), (5, .int p5)]) hx hb dX9_laysState_20 hl (by decide) rfl (fun ls hl => ?_)
  refine lv_aload_n hx hb dX9_laysState_22 rfl (lv_at hl 2 rfl) ?_
  refine lv_iload_n hx hb dX9_laysState_23 rfl (lv_at hl 3 rfl) ?_
  refine lv_iload_n hx hb dX9_laysState_24 rfl (lv_at hl 4 rfl) ?_
  obtain ⟨r5, v6, hf⟩ := bd1_some hf
  refine gci (va_runV (As := [.int p1, .int p2]) (rest := []) ⟨hx, hb, hml, hown, hts⟩ (tX9_putOf l dC dI dA ad H.size v6) (ccX9_X9_putOf hts ⟨Nat.le_of_ble_eq_true rfl, Nat.le_of_ble_eq_true rfl⟩) (gPreV (ci := 9) (q0 := 0) hP hK hD rfl rfl) rfl rfl hl.1 rfl (lv_room (Nat.le_of_ble_eq_true rfl)) dX9_laysState_25 ⟨Nat.le_of_ble_eq_true rfl, Nat.le_of_ble_eq_true rfl⟩) hD hS hA (fun H locs hP hD hS => ?_)
  refine lv_i2l hx hb dX9_laysState_28 rfl ?_
  refine lv_topl (fun w7 ew7 => ?_)
  replace hf := nm_at hf ew7
  refine lv_lstore (lv' := [(9, .long w7), (7, .long r3), (6, .int r1), (0, .ref (ad 0)), (1, .int p1), (2, .int p2), (3, .int p3), (4, .int p4), (5, .int p5)]) hx hb dX9_laysState_29 hl (by decide) rfl (fun ls hl => ?_)
  refine lv_aload_n hx hb dX9_laysState_31 rfl (lv_at hl 3 rfl) ?_
  refine lv_iload_n hx hb dX9_laysState_32 rfl (lv_at hl 4 rfl) ?_
  refine lv_iload_n hx hb dX9_laysState_33 rfl (lv_at hl 5 rfl) ?_
  refine lv_iload_n hx hb dX9_laysState_34 rfl (lv_at hl 6 rfl) ?_
  refine lv_iload hx hb dX9_laysState_35 (lv_at hl 7 rfl) ?_
  refine lv_iload hx hb dX9_laysState_37 (lv_at hl 8 rfl) ?_
  obtain ⟨r8, v9, hf⟩ := bd1_some hf
  refine gcl (va_runV (As := [.int p1, .int p2, .int p3, .int p4, .int p5]) (rest := []) ⟨hx, hb, hml, hown, hts⟩ (tX9_holds l dC dI dA ad H.size v9) (ccX9_X9_holds hts ⟨Nat.le_of_ble_eq_true rfl, Nat.le_of_ble_eq_true rfl⟩) (gPreV (ci := 9) (q0 := 0) hP hK hD rfl rfl) rfl rfl hl.1 rfl (lv_room (Nat.le_of_ble_eq_true rfl)) dX9_laysState_39 ⟨Nat.le_of_ble_eq_true rfl, Nat.le_of_ble_eq_true rfl⟩) hD hS hA (fun H locs hP hD hS => ?_)
  refine lv_lstore (lv' := [(11, .long r8), (9, .long w7), (7, .long r3), (6, .int r1), (0, .ref (ad 0)), (1, .int p1), (2, .int p2), (3, .int p3), (4, .int p4), (5, .int p5)]) hx hb dX9_laysState_42 hl (by decide) rfl (fun ls hl => ?_)
  refine lv_aload_n hx hb dX9_laysState_44 rfl (lv_at hl 4 rfl) ?_
  refine lv_iload_n hx hb dX9_laysState_45 rfl (lv_at hl 5 rfl) ?_
  refine lv_iload_n hx hb dX9_laysState_46 rfl (lv_at hl 6 rfl) ?_
  refine lv_iload_n hx hb dX9_laysState_47 rfl (lv_at hl 7 rfl) ?_
  refine lv_iload hx hb dX9_laysState_48 (lv_at hl 8 rfl) ?_
  obtain ⟨r10, v11, hf⟩ := bd1_some hf
  refine gcl (va_runV (As := [.int p1, .int p2, .int p3, .int p4]) (rest := []) ⟨hx, hb, hml, hown, hts⟩ (tX9_called l dC dI dA ad H.size v11) (ccX9_X9_called hts ⟨Nat.le_of_ble_eq_true rfl, Nat.le_of_ble_eq_true rfl⟩) (gPreV (ci := 9) (q0 := 0) hP hK hD rfl rfl) rfl rfl hl.1 rfl (lv_room (Nat.le_of_ble_eq_true rfl)) dX9_laysState_50 ⟨Nat.le_of_ble_eq_true rfl, Nat.le_of_ble_eq_true rfl⟩) hD hS hA (fun H locs hP hD hS => ?_)
  refine lv_lstore (lv' := [(13, .long r10), (11, .long r8), (9, .long w7), (7, .long r3), (6, .int r1), (0, .ref (ad 0)), (1, .int p1), (2, .int p2), (3, .int p3), (4, .int p4), (5, .int p5)]) hx hb dX9_laysState_53 hl (by decide) rfl (fun ls hl => ?_)
  refine lv_aload_n hx hb dX9_laysState_55 rfl (lv_at hl 5 rfl) ?_
  refine lv_iload_n hx hb dX9_laysState_56 rfl (lv_at hl 6 rfl) ?_
  refine lv_iload_n hx hb dX9_laysState_57 rfl (lv_at hl 7 rfl) ?_
  refine lv_iload hx hb dX9_laysState_58 (lv_at hl 10 rfl) ?_
  obtain ⟨r12, v13, hf⟩ := bd1_some hf
  refine gci (va_runV (As := [.int p1, .int p2, .int p5]) (rest := []) ⟨hx, hb, hml, hown, hts⟩ (tX9_isFree l dC dI dA ad H.size v13) (ccX9_X9_isFree hts ⟨Nat.le_of_ble_eq_true rfl, Nat.le_of_ble_eq_true rfl⟩) (gPreV (ci := 9) (q0 := 0) hP hK hD rfl rfl) rfl rfl hl.1 rfl (lv_room (Nat.le_of_ble_eq_true rfl)) dX9_laysState_60 ⟨Nat.le_of_ble_eq_true rfl, Nat.le_of_ble_eq_true rfl⟩) hD hS hA (fun H locs hP hD hS => ?_)
  refine lv_if_eq (tgt := 78) hx hb dX9_laysState_63 (by decide) (fun k14 => ?_) (fun k14 => ?_)
  · replace hf := ifp k14 hf
    refine lv_iconst (v := 0) hx hb dX9_laysState_78 (by decide) ?_
    refine lv_istore (lv' := [(15, .int 0), (13, .long r10), (11, .long r8), (9, .long w7), (7, .long r3), (6, .int r1), (0, .ref (ad 0)), (1, .int p1), (2, .int p2), (3, .int p3), (4, .int p4), (5, .int p5)]) hx hb dX9_laysState_79 hl (by decide) rfl (fun ls hl => ?_)
    refine lv_aload_n hx hb dX9_laysState_81 rfl (lv_at hl 6 rfl) ?_
    refine va_get (D := (dC, dI)) (ci := 9) (v := .ref (ad 8)) (C := RX9) (T := TX9) (N := 45) hx hb hts (fun w h => gw_mem (inX9 w h)) hown hK.1 hP 0 rfl rfl 25 (by decide) (hts _ (gw_mem wfX9_33)) (fun _ h9 => h9) rfl dX9_laysState_82 ?_
    refine lv_iload hx hb dX9_laysState_85 (lv_at hl 5 rfl) ?_
    refine lv_lload hx hb dX9_laysState_87 (lv_at hl 2 rfl) ?_
    obtain ⟨h15, hf⟩ := og_some hf
    obtain ⟨w16, ew16⟩ : ∃ y : Nat → Int64, y = vp_updL c_hold (Int32.toNatClampNeg r1) r8 := ⟨_, rfl⟩
    replace hf := nm_at hf ew16
    refine va_last hx hb hK.1 hP hD hS 8 1 rfl rfl (okI_in h15) dX9_laysState_89 (fun H locs hP hD hS => ?_)
    have hP : va_P (dC, dI) vwCl (mW dA ad c_tape c_taped c_tree c_bonds c_moves c_handMoves c_moved c_days c_likely c_outOf c_rateNow c_pence c_top c_bottom c_spot c_textLong c_fault c_number c_numberAt c_figures c_written c_wanted c_found c_drawnNow c_worth w16 c_way c_acts c_sDay c_sUps c_sUp c_sMarks c_paidAll c_isPlayed c_isOn c_handMoved c_handPaid c_regret c_aside c_other c_states c_kept c_keptLong c_keptAt c_isTaking) H := by rw [ew16]; exact hP
    have hD : va_D A (mW dA ad c_tape c_taped c_tree c_bonds c_moves c_handMoves c_moved c_days c_likely c_outOf c_rateNow c_pence c_top c_bottom c_spot c_textLong c_fault c_number c_numberAt c_figures c_written c_wanted c_found c_drawnNow c_worth w16 c_way c_acts c_sDay c_sUps c_sUp c_sMarks c_paidAll c_isPlayed c_isOn c_handMoved c_handPaid c_regret c_aside c_other c_states c_kept c_keptLong c_keptAt c_isTaking) := by rw [ew16]; exact hD
    refine lv_aload_n hx hb dX9_laysState_90 rfl (lv_at hl 6 rfl) ?_
    refine va_get (D := (dC, dI)) (ci := 9) (v := .ref (ad 7)) (C := RX9) (T := TX9) (N := 45) hx hb hts (fun w h => gw_mem (inX9 w h)) hown hK.1 hP 0 rfl rfl 24 (by decide) (hts _ (gw_mem wfX9_30)) (fun _ h9 => h9) rfl dX9_laysState_91 ?_
    refine lv_iload hx hb dX9_laysState_94 (lv_at hl 5 rfl) ?_
    refine lv_aload_n hx hb dX9_laysState_96 rfl (lv_at hl 6 rfl) ?_
    refine lv_iload_n hx hb dX9_laysState_97 rfl (lv_at hl 7 rfl) ?_
    refine lv_iload_n hx hb dX9_laysState_98 rfl (lv_at hl 8 rfl) ?_
    obtain ⟨r17, v18, hf⟩ := bd1_some hf
    refine gci (va_runV (As := [.int p1, .int p2]) (rest := [.int r1, .ref (ad 7)]) ⟨hx, hb, hml, hown, hts⟩ (tX9_couponOf l dC dI dA ad H.size v18) (ccX9_X9_couponOf hts ⟨Nat.le_of_ble_eq_true rfl, Nat.le_of_ble_eq_true rfl⟩) (gPreV (ci := 9) (q0 := 0) hP hK hD rfl rfl) rfl rfl hl.1 rfl (lv_room (Nat.le_of_ble_eq_true rfl)) dX9_laysState_99 ⟨Nat.le_of_ble_eq_true rfl, Nat.le_of_ble_eq_true rfl⟩) hD hS hA (fun H locs hP hD hS => ?_)
    refine lv_i2l hx hb dX9_laysState_102 rfl ?_
    refine lv_lload hx hb dX9_laysState_103 (lv_at hl 3 rfl) ?_
    refine lv_lload hx hb dX9_laysState_105 (lv_at hl 4 rfl) ?_
    obtain ⟨r19, v20, hf⟩ := bd1_some hf
    refine gcl0 (va_runS (As := [.long w7, .long r3]) (rest := [.long (Int32.toInt64 r17), .int r1, .ref (ad 7)]) ⟨hx, hb, hml, hown, hts⟩ (tX9_more l dC dI dA H.size v20) (ccX9_X9_more hts ⟨Nat.le_of_ble_eq_true rfl, Nat.le_of_ble_eq_true rfl⟩) (gPreS0 hK) rfl rfl hl.1 rfl (lv_room (Nat.le_of_ble_eq_true rfl)) dX9_laysState_107 ⟨Nat.le_of_ble_eq_true rfl, Nat.le_of_ble_eq_true rfl⟩) hP hS hA (fun H locs hP hS => ?_)
    refine lv_iload hx hb dX9_laysState_110 (lv_at hl 0 rfl) ?_
    refine lv_if_eq (tgt := 120) hx hb dX9_laysState_112 (by decide) (fun k21 => ?_) (fun k21 => absurd k21 (by decide))
    refine lv_lload hx hb dX9_laysState_120 (lv_at hl 2 rfl) ?_
    obtain ⟨r22, v23, hf⟩ := bd1_some hf
    refine gcl0 (va_runS (As := [.long r19, .long r8]) (rest := [.long (Int32.toInt64 r17), .int r1, .ref (ad 7)]) ⟨hx, hb, hml, hown, hts⟩ (tX9_more l dC dI dA H.size v23) (ccX9_X9_more hts ⟨Nat.le_of_ble_eq_true rfl, Nat.le_of_ble_eq_true rfl⟩) (gPreS0 hK) rfl rfl hl.1 rfl (lv_room (Nat.le_of_ble_eq_true rfl)) dX9_laysState_122 ⟨Nat.le_of_ble_eq_true rfl, Nat.le_of_ble_eq_true rfl⟩) hP hS hA (fun H locs hP hS => ?_)
    refine lv_ladd hx hb dX9_laysState_125 ?_
    obtain ⟨h24, hf⟩ := og_some hf
    obtain ⟨w25, ew25⟩ : ∃ y : Nat → Int64, y = vp_updL c_worth (Int32.toNatClampNeg r1) ((Int32.toInt64 r17) + r22) := ⟨_, rfl⟩
    replace hf := nm_at hf ew25
    refine va_last hx hb hK.1 hP hD hS 7 1 rfl rfl (okI_in h24) dX9_laysState_126 (fun H locs hP hD hS => ?_)
    have hP : va_P (dC, dI) vwCl (mW dA ad c_tape c_taped c_tree c_bonds c_moves c_handMoves c_moved c_days c_likely c_outOf c_rateNow c_pence c_top c_bottom c_spot c_textLong c_fault c_number c_numberAt c_figures c_written c_wanted c_found c_drawnNow w25 w16 c_way c_acts c_sDay c_sUps c_sUp c_sMarks c_paidAll c_isPlayed c_isOn c_handMoved c_handPaid c_regret c_aside c_other c_states c_kept c_keptLong c_keptAt c_isTaking) H := by rw [ew25]; exact hP
    have hD : va_D A (mW dA ad c_tape c_taped c_tree c_bonds c_moves c_handMoves c_moved c_days c_likely c_outOf c_rateNow c_pence c_top c_bottom c_spot c_textLong c_fault c_number c_numberAt c_figures c_written c_wanted c_found c_drawnNow w25 w16 c_way c_acts c_sDay c_sUps c_sUp c_sMarks c_paidAll c_isPlayed c_isOn c_handMoved c_handPaid c_regret c_aside c_other c_states c_kept c_keptLong c_keptAt c_isTaking) := by rw [ew25]; exact hD
    refine lv_iload hx hb dX9_laysState_127 (lv_at hl 0 rfl) ?_
    refine lv_if_eq (tgt := 172) hx hb dX9_laysState_129 (by decide) (fun k26 => ?_) (fun k26 => absurd k26 (by decide))
    refine lv_aload_n hx hb dX9_laysState_172 rfl (lv_at hl 6 rfl) ?_
    refine va_get (D := (dC, dI)) (ci := 9) (v := .ref (ad 10)) (C := RX9) (T := TX9) (N := 45) hx hb hts (fun w h => gw_mem (inX9 w h)) hown hK.1 hP 0 rfl rfl 27 (by decide) (hts _ (gw_mem wfX9_39)) (fun _ h9 => h9) rfl dX9_laysState_173 ?_
    refine lv_iload hx hb dX9_laysState_176 (lv_at hl 5 rfl) ?_
    refine lv_lload hx hb dX9_laysState_178 (lv_at hl 3 rfl) ?_
    refine lv_lload hx hb dX9_laysState_180 (lv_at hl 2 rfl) ?_
    refine W.lcmp hx hb dX9_laysState_182 ?_
    refine lv_if_gt (tgt := 198) hx hb dX9_laysState_183 (by decide) (fun k27 => ?_) (fun k27 => ?_)
    · replace hf := ifp (lc_gt.mp k27) hf
      refine lv_lload hx hb dX9_laysState_198 (lv_at hl 3 rfl) ?_
      refine lv_ldc2 (v := (-1)) hx hb hown (hts _ (gw_mem wkX9_116)) dX9_laysState_200 ?_
      refine W.lcmp hx hb dX9_laysState_203 ?_
      refine lv_if_eq (tgt := 219) hx hb dX9_laysState_204 (by decide) (fun k28 => ?_) (fun k28 => ?_)
      · replace hf := ifp (lc_eq.mp k28) hf
        refine lv_iconst (v := 2) hx hb dX9_laysState_219 (by decide) ?_
        obtain ⟨h29, hf⟩ := og_some hf
        obtain ⟨w30, ew30⟩ : ∃ y : Nat → Int32, y = upd c_acts (Int32.toNatClampNeg r1) 2 := ⟨_, rfl⟩
        replace hf := nm_at hf ew30
        refine va_iast hx hb hK.1 hP hD hS 10 0 rfl rfl (okI_in h29) dX9_laysState_220 (fun H locs hP hD hS => ?_)
        have hP : va_P (dC, dI) vwCl (mW dA ad c_tape c_taped c_tree c_bonds c_moves c_handMoves c_moved c_days c_likely c_outOf c_rateNow c_pence c_top c_bottom c_spot c_textLong c_fault c_number c_numberAt c_figures c_written c_wanted c_found c_drawnNow w25 w16 c_way w30 c_sDay c_sUps c_sUp c_sMarks c_paidAll c_isPlayed c_isOn c_handMoved c_handPaid c_regret c_aside c_other c_states c_kept c_keptLong c_keptAt c_isTaking) H := by rw [ew30]; exact hP
        have hD : va_D A (mW dA ad c_tape c_taped c_tree c_bonds c_moves c_handMoves c_moved c_days c_likely c_outOf c_rateNow c_pence c_top c_bottom c_spot c_textLong c_fault c_number c_numberAt c_figures c_written c_wanted c_found c_drawnNow w25 w16 c_way w30 c_sDay c_sUps c_sUp c_sMarks c_paidAll c_isPlayed c_isOn c_handMoved c_handPaid c_regret c_aside c_other c_states c_kept c_keptLong c_keptAt c_isTaking) := by rw [ew30]; exact hD
        cases hf
        exact W.vret hx hb hr (fun t ht _ => gqv hP hD hS ht) hS.2.2 dX9_laysState_221
      · replace hf := ifn (fun h => k28 (lc_eq.mpr h)) hf
        refine lv_lload hx hb dX9_laysState_207 (lv_at hl 3 rfl) ?_
        refine lv_lload hx hb dX9_laysState_209 (lv_at hl 4 rfl) ?_
        refine W.lcmp hx hb dX9_laysState_211 ?_
        refine lv_if_lt (tgt := 219) hx hb dX9_laysState_212 (by decide) (fun k31 => ?_) (fun k31 => ?_)
        · replace hf := ifp (lc_lt.mp k31) hf
          refine lv_iconst (v := 2) hx hb dX9_laysState_219 (by decide) ?_
          obtain ⟨h32, hf⟩ := og_some hf
          obtain ⟨w33, ew33⟩ : ∃ y : Nat → Int32, y = upd c_acts (Int32.toNatClampNeg r1) 2 := ⟨_, rfl⟩
          replace hf := nm_at hf ew33
          refine va_iast hx hb hK.1 hP hD hS 10 0 rfl rfl (okI_in h32) dX9_laysState_220 (fun H locs hP hD hS => ?_)
          have hP : va_P (dC, dI) vwCl (mW dA ad c_tape c_taped c_tree c_bonds c_moves c_handMoves c_moved c_days c_likely c_outOf c_rateNow c_pence c_top c_bottom c_spot c_textLong c_fault c_number c_numberAt c_figures c_written c_wanted c_found c_drawnNow w25 w16 c_way w33 c_sDay c_sUps c_sUp c_sMarks c_paidAll c_isPlayed c_isOn c_handMoved c_handPaid c_regret c_aside c_other c_states c_kept c_keptLong c_keptAt c_isTaking) H := by rw [ew33]; exact hP
          have hD : va_D A (mW dA ad c_tape c_taped c_tree c_bonds c_moves c_handMoves c_moved c_days c_likely c_outOf c_rateNow c_pence c_top c_bottom c_spot c_textLong c_fault c_number c_numberAt c_figures c_written c_wanted c_found c_drawnNow w25 w16 c_way w33 c_sDay c_sUps c_sUp c_sMarks c_paidAll c_isPlayed c_isOn c_handMoved c_handPaid c_regret c_aside c_other c_states c_kept c_keptLong c_keptAt c_isTaking) := by rw [ew33]; exact hD
          cases hf
          exact W.vret hx hb hr (fun t ht _ => gqv hP hD hS ht) hS.2.2 dX9_laysState_221
        · replace hf := ifn (fun h => k31 (lc_lt.mpr h)) hf
          refine lv_iconst (v := 1) hx hb dX9_laysState_215 (by decide) ?_
          refine lv_goto (tgt := 220) hx hb dX9_laysState_216 (by decide) ?_
          obtain ⟨h34, hf⟩ := og_some hf
          obtain ⟨w35, ew35⟩ : ∃ y : Nat → Int32, y = upd c_acts (Int32.toNatClampNeg r1) 1 := ⟨_, rfl⟩
          replace hf := nm_at hf ew35
          refine va_iast hx hb hK.1 hP hD hS 10 0 rfl rfl (okI_in h34) dX9_laysState_220 (fun H locs hP hD hS => ?_)
          have hP : va_P (dC, dI) vwCl (mW dA ad c_tape c_taped c_tree c_bonds c_moves c_handMoves c_moved c_days c_likely c_outOf c_rateNow c_pence c_top c_bottom c_spot c_textLong c_fault c_number c_numberAt c_figures c_written c_wanted c_found c_drawnNow w25 w16 c_way w35 c_sDay c_sUps c_sUp c_sMarks c_paidAll c_isPlayed c_isOn c_handMoved c_handPaid c_regret c_aside c_other c_states c_kept c_keptLong c_keptAt c_isTaking) H := by rw [ew35]; exact hP
          have hD : va_D A (mW dA ad c_tape c_taped c_tree c_bonds c_moves c_handMoves c_moved c_days c_likely c_outOf c_rateNow c_pence c_top c_bottom c_spot c_textLong c_fault c_number c_numberAt c_figures c_written c_wanted c_found c_drawnNow w25 w16 c_way w35 c_sDay c_sUps c_sUp c_sMarks c_paidAll c_isPlayed c_isOn c_handMoved c_handPaid c_regret c_aside c_other c_states c_kept c_keptLong c_keptAt c_isTaking) := by rw [ew35]; exact hD
          cases hf
          exact W.vret hx hb hr (fun t ht _ => gqv hP hD hS ht) hS.2.2 dX9_laysState_221
    · replace hf := ifn (fun h => k27 (lc_gt.mpr h)) hf
      refine lv_lload hx hb dX9_laysState_186 (lv_at hl 4 rfl) ?_
      refine lv_lload hx hb dX9_laysState_188 (lv_at hl 2 rfl) ?_
      refine W.lcmp hx hb dX9_laysState_190 ?_
      refine lv_if_gt (tgt := 198) hx hb dX9_laysState_191 (by decide) (fun k36 => ?_) (fun k36 => ?_)
      · replace hf := ifp (lc_gt.mp k36) hf
        refine lv_lload hx hb dX9_laysState_198 (lv_at hl 3 rfl) ?_
        refine lv_ldc2 (v := (-1)) hx hb hown (hts _ (gw_mem wkX9_116)) dX9_laysState_200 ?_
        refine W.lcmp hx hb dX9_laysState_203 ?_
        refine lv_if_eq (tgt := 219) hx hb dX9_laysState_204 (by decide) (fun k37 => ?_) (fun k37 => ?_)
        · replace hf := ifp (lc_eq.mp k37) hf
          refine lv_iconst (v := 2) hx hb dX9_laysState_219 (by decide) ?_
          obtain ⟨h38, hf⟩ := og_some hf
          obtain ⟨w39, ew39⟩ : ∃ y : Nat → Int32, y = upd c_acts (Int32.toNatClampNeg r1) 2 := ⟨_, rfl⟩
          replace hf := nm_at hf ew39
          refine va_iast hx hb hK.1 hP hD hS 10 0 rfl rfl (okI_in h38) dX9_laysState_220 (fun H locs hP hD hS => ?_)
          have hP : va_P (dC, dI) vwCl (mW dA ad c_tape c_taped c_tree c_bonds c_moves c_handMoves c_moved c_days c_likely c_outOf c_rateNow c_pence c_top c_bottom c_spot c_textLong c_fault c_number c_numberAt c_figures c_written c_wanted c_found c_drawnNow w25 w16 c_way w39 c_sDay c_sUps c_sUp c_sMarks c_paidAll c_isPlayed c_isOn c_handMoved c_handPaid c_regret c_aside c_other c_states c_kept c_keptLong c_keptAt c_isTaking) H := by rw [ew39]; exact hP
          have hD : va_D A (mW dA ad c_tape c_taped c_tree c_bonds c_moves c_handMoves c_moved c_days c_likely c_outOf c_rateNow c_pence c_top c_bottom c_spot c_textLong c_fault c_number c_numberAt c_figures c_written c_wanted c_found c_drawnNow w25 w16 c_way w39 c_sDay c_sUps c_sUp c_sMarks c_paidAll c_isPlayed c_isOn c_handMoved c_handPaid c_regret c_aside c_other c_states c_kept c_keptLong c_keptAt c_isTaking) := by rw [ew39]; exact hD
          cases hf
          exact W.vret hx hb hr (fun t ht _ => gqv hP hD hS ht) hS.2.2 dX9_laysState_221
        · replace hf := ifn (fun h => k37 (lc_eq.mpr h)) hf
          refine lv_lload hx hb dX9_laysState_207 (lv_at hl 3 rfl) ?_
          refine lv_lload hx hb dX9_laysState_209 (lv_at hl 4 rfl) ?_
          refine W.lcmp hx hb dX9_laysState_211 ?_
          refine lv_if_lt (tgt := 219) hx hb dX9_laysState_212 (by decide) (fun k40 => ?_) (fun k40 => ?_)
          · replace hf := ifp (lc_lt.mp k40) hf
            refine lv_iconst (v := 2) hx hb dX9_laysState_219 (by decide) ?_
            obtain ⟨h41, hf⟩ := og_some hf
            obtain ⟨w42, ew42⟩ : ∃ y : Nat → Int32, y = upd c_acts (Int32.toNatClampNeg r1) 2 := ⟨_, rfl⟩
            replace hf := nm_at hf ew42
            refine va_iast hx hb hK.1 hP hD hS 10 0 rfl rfl (okI_in h41) dX9_laysState_220 (fun H locs hP hD hS => ?_)
            have hP : va_P (dC, dI) vwCl (mW dA ad c_tape c_taped c_tree c_bonds c_moves c_handMoves c_moved c_days c_likely c_outOf c_rateNow c_pence c_top c_bottom c_spot c_textLong c_fault c_number c_numberAt c_figures c_written c_wanted c_found c_drawnNow w25 w16 c_way w42 c_sDay c_sUps c_sUp c_sMarks c_paidAll c_isPlayed c_isOn c_handMoved c_handPaid c_regret c_aside c_other c_states c_kept c_keptLong c_keptAt c_isTaking) H := by rw [ew42]; exact hP
            have hD : va_D A (mW dA ad c_tape c_taped c_tree c_bonds c_moves c_handMoves c_moved c_days c_likely c_outOf c_rateNow c_pence c_top c_bottom c_spot c_textLong c_fault c_number c_numberAt c_figures c_written c_wanted c_found c_drawnNow w25 w16 c_way w42 c_sDay c_sUps c_sUp c_sMarks c_paidAll c_isPlayed c_isOn c_handMoved c_handPaid c_regret c_aside c_other c_states c_kept c_keptLong c_keptAt c_isTaking) := by rw [ew42]; exact hD
            cases hf
            exact W.vret hx hb hr (fun t ht _ => gqv hP hD hS ht) hS.2.2 dX9_laysState_221
          · replace hf := ifn (fun h => k40 (lc_lt.mpr h)) hf
            refine lv_iconst (v := 1) hx hb dX9_laysState_215 (by decide) ?_
            refine lv_goto (tgt := 220) hx hb dX9_laysState_216 (by decide) ?_
            obtain ⟨h43, hf⟩ := og_some hf
            obtain ⟨w44, ew44⟩ : ∃ y : Nat → Int32, y = upd c_acts (Int32.toNatClampNeg r1) 1 := ⟨_, rfl⟩
            replace hf := nm_at hf ew44
            refine va_iast hx hb hK.1 hP hD hS 10 0 rfl rfl (okI_in h43) dX9_laysState_220 (fun H locs hP hD hS => ?_)
            have hP : va_P (dC, dI) vwCl (mW dA ad c_tape c_taped c_tree c_bonds c_moves c_handMoves c_moved c_days c_likely c_outOf c_rateNow c_pence c_top c_bottom c_spot c_textLong c_fault c_number c_numberAt c_figures c_written c_wanted c_found c_drawnNow w25 w16 c_way w44 c_sDay c_sUps c_sUp c_sMarks c_paidAll c_isPlayed c_isOn c_handMoved c_handPaid c_regret c_aside c_other c_states c_kept c_keptLong c_keptAt c_isTaking) H := by rw [ew44]; exact hP
            have hD : va_D A (mW dA ad c_tape c_taped c_tree c_bonds c_moves c_handMoves c_moved c_days c_likely c_outOf c_rateNow c_pence c_top c_bottom c_spot c_textLong c_fault c_number c_numberAt c_figures c_written c_wanted c_found c_drawnNow w25 w16 c_way w44 c_sDay c_sUps c_sUp c_sMarks c_paidAll c_isPlayed c_isOn c_handMoved c_handPaid c_regret c_aside c_other c_states c_kept c_keptLong c_keptAt c_isTaking) := by rw [ew44]; exact hD
            cases hf
            exact W.vret hx hb hr (fun t ht _ => gqv hP hD hS ht) hS.2.2 dX9_laysState_221
      · replace hf := ifn (fun h => k36 (lc_gt.mpr h)) hf
        refine lv_iconst (v := 0) hx hb dX9_laysState_194 (by decide) ?_
        refine lv_goto (tgt := 220) hx hb dX9_laysState_195 (by decide) ?_
        obtain ⟨h45, hf⟩ := og_some hf
        obtain ⟨w46, ew46⟩ : ∃ y : Nat → Int32, y = upd c_acts (Int32.toNatClampNeg r1) 0 := ⟨_, rfl⟩
        replace hf := nm_at hf ew46
        refine va_iast hx hb hK.1 hP hD hS 10 0 rfl rfl (okI_in h45) dX9_laysState_220 (fun H locs hP hD hS => ?_)
        have hP : va_P (dC, dI) vwCl (mW dA ad c_tape c_taped c_tree c_bonds c_moves c_handMoves c_moved c_days c_likely c_outOf c_rateNow c_pence c_top c_bottom c_spot c_textLong c_fault c_number c_numberAt c_figures c_written c_wanted c_found c_drawnNow w25 w16 c_way w46 c_sDay c_sUps c_sUp c_sMarks c_paidAll c_isPlayed c_isOn c_handMoved c_handPaid c_regret c_aside c_other c_states c_kept c_keptLong c_keptAt c_isTaking) H := by rw [ew46]; exact hP
        have hD : va_D A (mW dA ad c_tape c_taped c_tree c_bonds c_moves c_handMoves c_moved c_days c_likely c_outOf c_rateNow c_pence c_top c_bottom c_spot c_textLong c_fault c_number c_numberAt c_figures c_written c_wanted c_found c_drawnNow w25 w16 c_way w46 c_sDay c_sUps c_sUp c_sMarks c_paidAll c_isPlayed c_isOn c_handMoved c_handPaid c_regret c_aside c_other c_states c_kept c_keptLong c_keptAt c_isTaking) := by rw [ew46]; exact hD
        cases hf
        exact W.vret hx hb hr (fun t ht _ => gqv hP hD hS ht) hS.2.2 dX9_laysState_221
  · replace hf := ifn k14 hf
    refine lv_lload hx hb dX9_laysState_66 (lv_at hl 0 rfl) ?_
    refine lv_lload hx hb dX9_laysState_68 (lv_at hl 1 rfl) ?_
    refine W.lcmp hx hb dX9_laysState_70 ?_
    refine lv_if_ge (tgt := 78) hx hb dX9_laysState_71 (by decide) (fun k47 => ?_) (fun k47 => ?_)
    · replace hf := ifp (lc_ge.mp k47) hf
      refine lv_iconst (v := 0) hx hb dX9_laysState_78 (by decide) ?_
      refine lv_istore (lv' := [(15, .int 0), (13, .long r10), (11, .long r8), (9, .long w7), (7, .long r3), (6, .int r1), (0, .ref (ad 0)), (1, .int p1), (2, .int p2), (3, .int p3), (4, .int p4), (5, .int p5)]) hx hb dX9_laysState_79 hl (by decide) rfl (fun ls hl => ?_)
      refine lv_aload_n hx hb dX9_laysState_81 rfl (lv_at hl 6 rfl) ?_
      refine va_get (D := (dC, dI)) (ci := 9) (v := .ref (ad 8)) (C := RX9) (T := TX9) (N := 45) hx hb hts (fun w h => gw_mem (inX9 w h)) hown hK.1 hP 0 rfl rfl 25 (by decide) (hts _ (gw_mem wfX9_33)) (fun _ h9 => h9) rfl dX9_laysState_82 ?_
      refine lv_iload hx hb dX9_laysState_85 (lv_at hl 5 rfl) ?_
      refine lv_lload hx hb dX9_laysState_87 (lv_at hl 2 rfl) ?_
      obtain ⟨h48, hf⟩ := og_some hf
      obtain ⟨w49, ew49⟩ : ∃ y : Nat → Int64, y = vp_updL c_hold (Int32.toNatClampNeg r1) r8 := ⟨_, rfl⟩
      replace hf := nm_at hf ew49
      refine va_last hx hb hK.1 hP hD hS 8 1 rfl rfl (okI_in h48) dX9_laysState_89 (fun H locs hP hD hS => ?_)
      have hP : va_P (dC, dI) vwCl (mW dA ad c_tape c_taped c_tree c_bonds c_moves c_handMoves c_moved c_days c_likely c_outOf c_rateNow c_pence c_top c_bottom c_spot c_textLong c_fault c_number c_numberAt c_figures c_written c_wanted c_found c_drawnNow c_worth w49 c_way c_acts c_sDay c_sUps c_sUp c_sMarks c_paidAll c_isPlayed c_isOn c_handMoved c_handPaid c_regret c_aside c_other c_states c_kept c_keptLong c_keptAt c_isTaking) H := by rw [ew49]; exact hP
      have hD : va_D A (mW dA ad c_tape c_taped c_tree c_bonds c_moves c_handMoves c_moved c_days c_likely c_outOf c_rateNow c_pence c_top c_bottom c_spot c_textLong c_fault c_number c_numberAt c_figures c_written c_wanted c_found c_drawnNow c_worth w49 c_way c_acts c_sDay c_sUps c_sUp c_sMarks c_paidAll c_isPlayed c_isOn c_handMoved c_handPaid c_regret c_aside c_other c_states c_kept c_keptLong c_keptAt c_isTaking) := by rw [ew49]; exact hD
      refine lv_aload_n hx hb dX9_laysState_90 rfl (lv_at hl 6 rfl) ?_
      refine va_get (D := (dC, dI)) (ci := 9) (v := .ref (ad 7)) (C := RX9) (T := TX9) (N := 45) hx hb hts (fun w h => gw_mem (inX9 w h)) hown hK.1 hP 0 rfl rfl 24 (by decide) (hts _ (gw_mem wfX9_30)) (fun _ h9 => h9) rfl dX9_laysState_91 ?_
      refine lv_iload hx hb dX9_laysState_94 (lv_at hl 5 rfl) ?_
      refine lv_aload_n hx hb dX9_laysState_96 rfl (lv_at hl 6 rfl) ?_
      refine lv_iload_n hx hb dX9_laysState_97 rfl (lv_at hl 7 rfl) ?_
      refine lv_iload_n hx hb dX9_laysState_98 rfl (lv_at hl 8 rfl) ?_
      obtain ⟨r50, v51, hf⟩ := bd1_some hf
      refine gci (va_runV (As := [.int p1, .int p2]) (rest := [.int r1, .ref (ad 7)]) ⟨hx, hb, hml, hown, hts⟩ (tX9_couponOf l dC dI dA ad H.size v51) (ccX9_X9_couponOf hts ⟨Nat.le_of_ble_eq_true rfl, Nat.le_of_ble_eq_true rfl⟩) (gPreV (ci := 9) (q0 := 0) hP hK hD rfl rfl) rfl rfl hl.1 rfl (lv_room (Nat.le_of_ble_eq_true rfl)) dX9_laysState_99 ⟨Nat.le_of_ble_eq_true rfl, Nat.le_of_ble_eq_true rfl⟩) hD hS hA (fun H locs hP hD hS => ?_)
      refine lv_i2l hx hb dX9_laysState_102 rfl ?_
      refine lv_lload hx hb dX9_laysState_103 (lv_at hl 3 rfl) ?_
      refine lv_lload hx hb dX9_laysState_105 (lv_at hl 4 rfl) ?_
      obtain ⟨r52, v53, hf⟩ := bd1_some hf
      refine gcl0 (va_runS (As := [.long w7, .long r3]) (rest := [.long (Int32.toInt64 r50), .int r1, .ref (ad 7)]) ⟨hx, hb, hml, hown, hts⟩ (tX9_more l dC dI dA H.size v53) (ccX9_X9_more hts ⟨Nat.le_of_ble_eq_true rfl, Nat.le_of_ble_eq_true rfl⟩) (gPreS0 hK) rfl rfl hl.1 rfl (lv_room (Nat.le_of_ble_eq_true rfl)) dX9_laysState_107 ⟨Nat.le_of_ble_eq_true rfl, Nat.le_of_ble_eq_true rfl⟩) hP hS hA (fun H locs hP hS => ?_)
      refine lv_iload hx hb dX9_laysState_110 (lv_at hl 0 rfl) ?_
      refine lv_if_eq (tgt := 120) hx hb dX9_laysState_112 (by decide) (fun k54 => ?_) (fun k54 => absurd k54 (by decide))
      refine lv_lload hx hb dX9_laysState_120 (lv_at hl 2 rfl) ?_
      obtain ⟨r55, v56, hf⟩ := bd1_some hf
      refine gcl0 (va_runS (As := [.long r52, .long r8]) (rest := [.long (Int32.toInt64 r50), .int r1, .ref (ad 7)]) ⟨hx, hb, hml, hown, hts⟩ (tX9_more l dC dI dA H.size v56) (ccX9_X9_more hts ⟨Nat.le_of_ble_eq_true rfl, Nat.le_of_ble_eq_true rfl⟩) (gPreS0 hK) rfl rfl hl.1 rfl (lv_room (Nat.le_of_ble_eq_true rfl)) dX9_laysState_122 ⟨Nat.le_of_ble_eq_true rfl, Nat.le_of_ble_eq_true rfl⟩) hP hS hA (fun H locs hP hS => ?_)
      refine lv_ladd hx hb dX9_laysState_125 ?_
      obtain ⟨h57, hf⟩ := og_some hf
      obtain ⟨w58, ew58⟩ : ∃ y : Nat → Int64, y = vp_updL c_worth (Int32.toNatClampNeg r1) ((Int32.toInt64 r50) + r55) := ⟨_, rfl⟩
      replace hf := nm_at hf ew58
      refine va_last hx hb hK.1 hP hD hS 7 1 rfl rfl (okI_in h57) dX9_laysState_126 (fun H locs hP hD hS => ?_)
      have hP : va_P (dC, dI) vwCl (mW dA ad c_tape c_taped c_tree c_bonds c_moves c_handMoves c_moved c_days c_likely c_outOf c_rateNow c_pence c_top c_bottom c_spot c_textLong c_fault c_number c_numberAt c_figures c_written c_wanted c_found c_drawnNow w58 w49 c_way c_acts c_sDay c_sUps c_sUp c_sMarks c_paidAll c_isPlayed c_isOn c_handMoved c_handPaid c_regret c_aside c_other c_states c_kept c_keptLong c_keptAt c_isTaking) H := by rw [ew58]; exact hP
      have hD : va_D A (mW dA ad c_tape c_taped c_tree c_bonds c_moves c_handMoves c_moved c_days c_likely c_outOf c_rateNow c_pence c_top c_bottom c_spot c_textLong c_fault c_number c_numberAt c_figures c_written c_wanted c_found c_drawnNow w58 w49 c_way c_acts c_sDay c_sUps c_sUp c_sMarks c_paidAll c_isPlayed c_isOn c_handMoved c_handPaid c_regret c_aside c_other c_states c_kept c_keptLong c_keptAt c_isTaking) := by rw [ew58]; exact hD
      refine lv_iload hx hb dX9_laysState_127 (lv_at hl 0 rfl) ?_
      refine lv_if_eq (tgt := 172) hx hb dX9_laysState_129 (by decide) (fun k59 => ?_) (fun k59 => absurd k59 (by decide))
      refine lv_aload_n hx hb dX9_laysState_172 rfl (lv_at hl 6 rfl) ?_
      refine va_get (D := (dC, dI)) (ci := 9) (v := .ref (ad 10)) (C := RX9) (T := TX9) (N := 45) hx hb hts (fun w h => gw_mem (inX9 w h)) hown hK.1 hP 0 rfl rfl 27 (by decide) (hts _ (gw_mem wfX9_39)) (fun _ h9 => h9) rfl dX9_laysState_173 ?_
      refine lv_iload hx hb dX9_laysState_176 (lv_at hl 5 rfl) ?_
      refine lv_lload hx hb dX9_laysState_178 (lv_at hl 3 rfl) ?_
      refine lv_lload hx hb dX9_laysState_180 (lv_at hl 2 rfl) ?_
      refine W.lcmp hx hb dX9_laysState_182 ?_
      refine lv_if_gt (tgt := 198) hx hb dX9_laysState_183 (by decide) (fun k60 => ?_) (fun k60 => ?_)
      · replace hf := ifp (lc_gt.mp k60) hf
        refine lv_lload hx hb dX9_laysState_198 (lv_at hl 3 rfl) ?_
        refine lv_ldc2 (v := (-1)) hx hb hown (hts _ (gw_mem wkX9_116)) dX9_laysState_200 ?_
        refine W.lcmp hx hb dX9_laysState_203 ?_
        refine lv_if_eq (tgt := 219) hx hb dX9_laysState_204 (by decide) (fun k61 => ?_) (fun k61 => ?_)
        · replace hf := ifp (lc_eq.mp k61) hf
          refine lv_iconst (v := 2) hx hb dX9_laysState_219 (by decide) ?_
          obtain ⟨h62, hf⟩ := og_some hf
          obtain ⟨w63, ew63⟩ : ∃ y : Nat → Int32, y = upd c_acts (Int32.toNatClampNeg r1) 2 := ⟨_, rfl⟩
          replace hf := nm_at hf ew63
          refine va_iast hx hb hK.1 hP hD hS 10 0 rfl rfl (okI_in h62) dX9_laysState_220 (fun H locs hP hD hS => ?_)
          have hP : va_P (dC, dI) vwCl (mW dA ad c_tape c_taped c_tree c_bonds c_moves c_handMoves c_moved c_days c_likely c_outOf c_rateNow c_pence c_top c_bottom c_spot c_textLong c_fault c_number c_numberAt c_figures c_written c_wanted c_found c_drawnNow w58 w49 c_way w63 c_sDay c_sUps c_sUp c_sMarks c_paidAll c_isPlayed c_isOn c_handMoved c_handPaid c_regret c_aside c_other c_states c_kept c_keptLong c_keptAt c_isTaking) H := by rw [ew63]; exact hP
          have hD : va_D A (mW dA ad c_tape c_taped c_tree c_bonds c_moves c_handMoves c_moved c_days c_likely c_outOf c_rateNow c_pence c_top c_bottom c_spot c_textLong c_fault c_number c_numberAt c_figures c_written c_wanted c_found c_drawnNow w58 w49 c_way w63 c_sDay c_sUps c_sUp c_sMarks c_paidAll c_isPlayed c_isOn c_handMoved c_handPaid c_regret c_aside c_other c_states c_kept c_keptLong c_keptAt c_isTaking) := by rw [ew63]; exact hD
          cases hf
          exact W.vret hx hb hr (fun t ht _ => gqv hP hD hS ht) hS.2.2 dX9_laysState_221
        · replace hf := ifn (fun h => k61 (lc_eq.mpr h)) hf
          refine lv_lload hx hb dX9_laysState_207 (lv_at hl 3 rfl) ?_
          refine lv_lload hx hb dX9_laysState_209 (lv_at hl 4 rfl) ?_
          refine W.lcmp hx hb dX9_laysState_211 ?_
          refine lv_if_lt (tgt := 219) hx hb dX9_laysState_212 (by decide) (fun k64 => ?_) (fun k64 => ?_)
          · replace hf := ifp (lc_lt.mp k64) hf
            refine lv_iconst (v := 2) hx hb dX9_laysState_219 (by decide) ?_
            obtain ⟨h65, hf⟩ := og_some hf
            obtain ⟨w66, ew66⟩ : ∃ y : Nat → Int32, y = upd c_acts (Int32.toNatClampNeg r1) 2 := ⟨_, rfl⟩
            replace hf := nm_at hf ew66
            refine va_iast hx hb hK.1 hP hD hS 10 0 rfl rfl (okI_in h65) dX9_laysState_220 (fun H locs hP hD hS => ?_)
            have hP : va_P (dC, dI) vwCl (mW dA ad c_tape c_taped c_tree c_bonds c_moves c_handMoves c_moved c_days c_likely c_outOf c_rateNow c_pence c_top c_bottom c_spot c_textLong c_fault c_number c_numberAt c_figures c_written c_wanted c_found c_drawnNow w58 w49 c_way w66 c_sDay c_sUps c_sUp c_sMarks c_paidAll c_isPlayed c_isOn c_handMoved c_handPaid c_regret c_aside c_other c_states c_kept c_keptLong c_keptAt c_isTaking) H := by rw [ew66]; exact hP
            have hD : va_D A (mW dA ad c_tape c_taped c_tree c_bonds c_moves c_handMoves c_moved c_days c_likely c_outOf c_rateNow c_pence c_top c_bottom c_spot c_textLong c_fault c_number c_numberAt c_figures c_written c_wanted c_found c_drawnNow w58 w49 c_way w66 c_sDay c_sUps c_sUp c_sMarks c_paidAll c_isPlayed c_isOn c_handMoved c_handPaid c_regret c_aside c_other c_states c_kept c_keptLong c_keptAt c_isTaking) := by rw [ew66]; exact hD
            cases hf
            exact W.vret hx hb hr (fun t ht _ => gqv hP hD hS ht) hS.2.2 dX9_laysState_221
          · replace hf := ifn (fun h => k64 (lc_lt.mpr h)) hf
            refine lv_iconst (v := 1) hx hb dX9_laysState_215 (by decide) ?_
            refine lv_goto (tgt := 220) hx hb dX9_laysState_216 (by decide) ?_
            obtain ⟨h67, hf⟩ := og_some hf
            obtain ⟨w68, ew68⟩ : ∃ y : Nat → Int32, y = upd c_acts (Int32.toNatClampNeg r1) 1 := ⟨_, rfl⟩
            replace hf := nm_at hf ew68
            refine va_iast hx hb hK.1 hP hD hS 10 0 rfl rfl (okI_in h67) dX9_laysState_220 (fun H locs hP hD hS => ?_)
            have hP : va_P (dC, dI) vwCl (mW dA ad c_tape c_taped c_tree c_bonds c_moves c_handMoves c_moved c_days c_likely c_outOf c_rateNow c_pence c_top c_bottom c_spot c_textLong c_fault c_number c_numberAt c_figures c_written c_wanted c_found c_drawnNow w58 w49 c_way w68 c_sDay c_sUps c_sUp c_sMarks c_paidAll c_isPlayed c_isOn c_handMoved c_handPaid c_regret c_aside c_other c_states c_kept c_keptLong c_keptAt c_isTaking) H := by rw [ew68]; exact hP
            have hD : va_D A (mW dA ad c_tape c_taped c_tree c_bonds c_moves c_handMoves c_moved c_days c_likely c_outOf c_rateNow c_pence c_top c_bottom c_spot c_textLong c_fault c_number c_numberAt c_figures c_written c_wanted c_found c_drawnNow w58 w49 c_way w68 c_sDay c_sUps c_sUp c_sMarks c_paidAll c_isPlayed c_isOn c_handMoved c_handPaid c_regret c_aside c_other c_states c_kept c_keptLong c_keptAt c_isTaking) := by rw [ew68]; exact hD
            cases hf
            exact W.vret hx hb hr (fun t ht _ => gqv hP hD hS ht) hS.2.2 dX9_laysState_221
      · replace hf := ifn (fun h => k60 (lc_gt.mpr h)) hf
        refine lv_lload hx hb dX9_laysState_186 (lv_at hl 4 rfl) ?_
        refine lv_lload hx hb dX9_laysState_188 (lv_at hl 2 rfl) ?_
        refine W.lcmp hx hb dX9_laysState_190 ?_
        refine lv_if_gt (tgt := 198) hx hb dX9_laysState_191 (by decide) (fun k69 => ?_) (fun k69 => ?_)
        · replace hf := ifp (lc_gt.mp k69) hf
          refine lv_lload hx hb dX9_laysState_198 (lv_at hl 3 rfl) ?_
          refine lv_ldc2 (v := (-1)) hx hb hown (hts _ (gw_mem wkX9_116)) dX9_laysState_200 ?_
          refine W.lcmp hx hb dX9_laysState_203 ?_
          refine lv_if_eq (tgt := 219) hx hb dX9_laysState_204 (by decide) (fun k70 => ?_) (fun k70 => ?_)
          · replace hf := ifp (lc_eq.mp k70) hf
            refine lv_iconst (v := 2) hx hb dX9_laysState_219 (by decide) ?_
            obtain ⟨h71, hf⟩ := og_some hf
            obtain ⟨w72, ew72⟩ : ∃ y : Nat → Int32, y = upd c_acts (Int32.toNatClampNeg r1) 2 := ⟨_, rfl⟩
            replace hf := nm_at hf ew72
            refine va_iast hx hb hK.1 hP hD hS 10 0 rfl rfl (okI_in h71) dX9_laysState_220 (fun H locs hP hD hS => ?_)
            have hP : va_P (dC, dI) vwCl (mW dA ad c_tape c_taped c_tree c_bonds c_moves c_handMoves c_moved c_days c_likely c_outOf c_rateNow c_pence c_top c_bottom c_spot c_textLong c_fault c_number c_numberAt c_figures c_written c_wanted c_found c_drawnNow w58 w49 c_way w72 c_sDay c_sUps c_sUp c_sMarks c_paidAll c_isPlayed c_isOn c_handMoved c_handPaid c_regret c_aside c_other c_states c_kept c_keptLong c_keptAt c_isTaking) H := by rw [ew72]; exact hP
            have hD : va_D A (mW dA ad c_tape c_taped c_tree c_bonds c_moves c_handMoves c_moved c_days c_likely c_outOf c_rateNow c_pence c_top c_bottom c_spot c_textLong c_fault c_number c_numberAt c_figures c_written c_wanted c_found c_drawnNow w58 w49 c_way w72 c_sDay c_sUps c_sUp c_sMarks c_paidAll c_isPlayed c_isOn c_handMoved c_handPaid c_regret c_aside c_other c_states c_kept c_keptLong c_keptAt c_isTaking) := by rw [ew72]; exact hD
            cases hf
            exact W.vret hx hb hr (fun t ht _ => gqv hP hD hS ht) hS.2.2 dX9_laysState_221
          · replace hf := ifn (fun h => k70 (lc_eq.mpr h)) hf
            refine lv_lload hx hb dX9_laysState_207 (lv_at hl 3 rfl) ?_
            refine lv_lload hx hb dX9_laysState_209 (lv_at hl 4 rfl) ?_
            refine W.lcmp hx hb dX9_laysState_211 ?_
            refine lv_if_lt (tgt := 219) hx hb dX9_laysState_212 (by decide) (fun k73 => ?_) (fun k73 => ?_)
            · replace hf := ifp (lc_lt.mp k73) hf
              refine lv_iconst (v := 2) hx hb dX9_laysState_219 (by decide) ?_
              obtain ⟨h74, hf⟩ := og_some hf
              obtain ⟨w75, ew75⟩ : ∃ y : Nat → Int32, y = upd c_acts (Int32.toNatClampNeg r1) 2 := ⟨_, rfl⟩
              replace hf := nm_at hf ew75
              refine va_iast hx hb hK.1 hP hD hS 10 0 rfl rfl (okI_in h74) dX9_laysState_220 (fun H locs hP hD hS => ?_)
              have hP : va_P (dC, dI) vwCl (mW dA ad c_tape c_taped c_tree c_bonds c_moves c_handMoves c_moved c_days c_likely c_outOf c_rateNow c_pence c_top c_bottom c_spot c_textLong c_fault c_number c_numberAt c_figures c_written c_wanted c_found c_drawnNow w58 w49 c_way w75 c_sDay c_sUps c_sUp c_sMarks c_paidAll c_isPlayed c_isOn c_handMoved c_handPaid c_regret c_aside c_other c_states c_kept c_keptLong c_keptAt c_isTaking) H := by rw [ew75]; exact hP
              have hD : va_D A (mW dA ad c_tape c_taped c_tree c_bonds c_moves c_handMoves c_moved c_days c_likely c_outOf c_rateNow c_pence c_top c_bottom c_spot c_textLong c_fault c_number c_numberAt c_figures c_written c_wanted c_found c_drawnNow w58 w49 c_way w75 c_sDay c_sUps c_sUp c_sMarks c_paidAll c_isPlayed c_isOn c_handMoved c_handPaid c_regret c_aside c_other c_states c_kept c_keptLong c_keptAt c_isTaking) := by rw [ew75]; exact hD
              cases hf
              exact W.vret hx hb hr (fun t ht _ => gqv hP hD hS ht) hS.2.2 dX9_laysState_221
            · replace hf := ifn (fun h => k73 (lc_lt.mpr h)) hf
              refine lv_iconst (v := 1) hx hb dX9_laysState_215 (by decide) ?_
              refine lv_goto (tgt := 220) hx hb dX9_laysState_216 (by decide) ?_
              obtain ⟨h76, hf⟩ := og_some hf
              obtain ⟨w77, ew77⟩ : ∃ y : Nat → Int32, y = upd c_acts (Int32.toNatClampNeg r1) 1 := ⟨_, rfl⟩
              replace hf := nm_at hf ew77
              refine va_iast hx hb hK.1 hP hD hS 10 0 rfl rfl (okI_in h76) dX9_laysState_220 (fun H locs hP hD hS => ?_)
              have hP : va_P (dC, dI) vwCl (mW dA ad c_tape c_taped c_tree c_bonds c_moves c_handMoves c_moved c_days c_likely c_outOf c_rateNow c_pence c_top c_bottom c_spot c_textLong c_fault c_number c_numberAt c_figures c_written c_wanted c_found c_drawnNow w58 w49 c_way w77 c_sDay c_sUps c_sUp c_sMarks c_paidAll c_isPlayed c_isOn c_handMoved c_handPaid c_regret c_aside c_other c_states c_kept c_keptLong c_keptAt c_isTaking) H := by rw [ew77]; exact hP
              have hD : va_D A (mW dA ad c_tape c_taped c_tree c_bonds c_moves c_handMoves c_moved c_days c_likely c_outOf c_rateNow c_pence c_top c_bottom c_spot c_textLong c_fault c_number c_numberAt c_figures c_written c_wanted c_found c_drawnNow w58 w49 c_way w77 c_sDay c_sUps c_sUp c_sMarks c_paidAll c_isPlayed c_isOn c_handMoved c_handPaid c_regret c_aside c_other c_states c_kept c_keptLong c_keptAt c_isTaking) := by rw [ew77]; exact hD
              cases hf
              exact W.vret hx hb hr (fun t ht _ => gqv hP hD hS ht) hS.2.2 dX9_laysState_221
        · replace hf := ifn (fun h => k69 (lc_gt.mpr h)) hf
          refine lv_iconst (v := 0) hx hb dX9_laysState_194 (by decide) ?_
          refine lv_goto (tgt := 220) hx hb dX9_laysState_195 (by decide) ?_
          obtain ⟨h78, hf⟩ := og_some hf
          obtain ⟨w79, ew79⟩ : ∃ y : Nat → Int32, y = upd c_acts (Int32.toNatClampNeg r1) 0 := ⟨_, rfl⟩
          replace hf := nm_at hf ew79
          refine va_iast hx hb hK.1 hP hD hS 10 0 rfl rfl (okI_in h78) dX9_laysState_220 (fun H locs hP hD hS => ?_)
          have hP : va_P (dC, dI) vwCl (mW dA ad c_tape c_taped c_tree c_bonds c_moves c_handMoves c_moved c_days c_likely c_outOf c_rateNow c_pence c_top c_bottom c_spot c_textLong c_fault c_number c_numberAt c_figures c_written c_wanted c_found c_drawnNow w58 w49 c_way w79 c_sDay c_sUps c_sUp c_sMarks c_paidAll c_isPlayed c_isOn c_handMoved c_handPaid c_regret c_aside c_other c_states c_kept c_keptLong c_keptAt c_isTaking) H := by rw [ew79]; exact hP
          have hD : va_D A (mW dA ad c_tape c_taped c_tree c_bonds c_moves c_handMoves c_moved c_days c_likely c_outOf c_rateNow c_pence c_top c_bottom c_spot c_textLong c_fault c_number c_numberAt c_figures c_written c_wanted c_found c_drawnNow w58 w49 c_way w79 c_sDay c_sUps c_sUp c_sMarks c_paidAll c_isPlayed c_isOn c_handMoved c_handPaid c_regret c_aside c_other c_states c_kept c_keptLong c_keptAt c_isTaking) := by rw [ew79]; exact hD
          cases hf
          exact W.vret hx hb hr (fun t ht _ => gqv hP hD hS ht) hS.2.2 dX9_laysState_221
    · replace hf := ifn (fun h => k47 (lc_ge.mpr h)) hf
      refine lv_iconst (v := 1) hx hb dX9_laysState_74 (by decide) ?_
      refine lv_goto (tgt := 79) hx hb dX9_laysState_75 (by decide) ?_
      refine lv_istore (lv' := [(15, .int 1), (13, .long r10), (11, .long r8), (9, .long w7), (7, .long r3), (6, .int r1), (0, .ref (ad 0)), (1, .int p1), (2, .int p2), (3, .int p3), (4, .int p4), (5, .int p5)]) hx hb dX9_laysState_79 hl (by decide) rfl (fun ls hl => ?_)
      refine lv_aload_n hx hb dX9_laysState_81 rfl (lv_at hl 6 rfl) ?_
      refine va_get (D := (dC, dI)) (ci := 9) (v := .ref (ad 8)) (C := RX9) (T := TX9) (N := 45) hx hb hts (fun w h => gw_mem (inX9 w h)) hown hK.1 hP 0 rfl rfl 25 (by decide) (hts _ (gw_mem wfX9_33)) (fun _ h9 => h9) rfl dX9_laysState_82 ?_
      refine lv_iload hx hb dX9_laysState_85 (lv_at hl 5 rfl) ?_
      refine lv_lload hx hb dX9_laysState_87 (lv_at hl 2 rfl) ?_
      obtain ⟨h80, hf⟩ := og_some hf
      obtain ⟨w81, ew81⟩ : ∃ y : Nat → Int64, y = vp_updL c_hold (Int32.toNatClampNeg r1) r8 := ⟨_, rfl⟩
      replace hf := nm_at hf ew81
      refine va_last hx hb hK.1 hP hD hS 8 1 rfl rfl (okI_in h80) dX9_laysState_89 (fun H locs hP hD hS => ?_)
      have hP : va_P (dC, dI) vwCl (mW dA ad c_tape c_taped c_tree c_bonds c_moves c_handMoves c_moved c_days c_likely c_outOf c_rateNow c_pence c_top c_bottom c_spot c_textLong c_fault c_number c_numberAt c_figures c_written c_wanted c_found c_drawnNow c_worth w81 c_way c_acts c_sDay c_sUps c_sUp c_sMarks c_paidAll c_isPlayed c_isOn c_handMoved c_handPaid c_regret c_aside c_other c_states c_kept c_keptLong c_keptAt c_isTaking) H := by rw [ew81]; exact hP
      have hD : va_D A (mW dA ad c_tape c_taped c_tree c_bonds c_moves c_handMoves c_moved c_days c_likely c_outOf c_rateNow c_pence c_top c_bottom c_spot c_textLong c_fault c_number c_numberAt c_figures c_written c_wanted c_found c_drawnNow c_worth w81 c_way c_acts c_sDay c_sUps c_sUp c_sMarks c_paidAll c_isPlayed c_isOn c_handMoved c_handPaid c_regret c_aside c_other c_states c_kept c_keptLong c_keptAt c_isTaking) := by rw [ew81]; exact hD
      refine lv_aload_n hx hb dX9_laysState_90 rfl (lv_at hl 6 rfl) ?_
      refine va_get (D := (dC, dI)) (ci := 9) (v := .ref (ad 7)) (C := RX9) (T := TX9) (N := 45) hx hb hts (fun w h => gw_mem (inX9 w h)) hown hK.1 hP 0 rfl rfl 24 (by decide) (hts _ (gw_mem wfX9_30)) (fun _ h9 => h9) rfl dX9_laysState_91 ?_
      refine lv_iload hx hb dX9_laysState_94 (lv_at hl 5 rfl) ?_
      refine lv_aload_n hx hb dX9_laysState_96 rfl (lv_at hl 6 rfl) ?_
      refine lv_iload_n hx hb dX9_laysState_97 rfl (lv_at hl 7 rfl) ?_
      refine lv_iload_n hx hb dX9_laysState_98 rfl (lv_at hl 8 rfl) ?_
      obtain ⟨r82, v83, hf⟩ := bd1_some hf
      refine gci (va_runV (As := [.int p1, .int p2]) (rest := [.int r1, .ref (ad 7)]) ⟨hx, hb, hml, hown, hts⟩ (tX9_couponOf l dC dI dA ad H.size v83) (ccX9_X9_couponOf hts ⟨Nat.le_of_ble_eq_true rfl, Nat.le_of_ble_eq_true rfl⟩) (gPreV (ci := 9) (q0 := 0) hP hK hD rfl rfl) rfl rfl hl.1 rfl (lv_room (Nat.le_of_ble_eq_true rfl)) dX9_laysState_99 ⟨Nat.le_of_ble_eq_true rfl, Nat.le_of_ble_eq_true rfl⟩) hD hS hA (fun H locs hP hD hS => ?_)
      refine lv_i2l hx hb dX9_laysState_102 rfl ?_
      refine lv_lload hx hb dX9_laysState_103 (lv_at hl 3 rfl) ?_
      refine lv_lload hx hb dX9_laysState_105 (lv_at hl 4 rfl) ?_
      obtain ⟨r84, v85, hf⟩ := bd1_some hf
      refine gcl0 (va_runS (As := [.long w7, .long r3]) (rest := [.long (Int32.toInt64 r82), .int r1, .ref (ad 7)]) ⟨hx, hb, hml, hown, hts⟩ (tX9_more l dC dI dA H.size v85) (ccX9_X9_more hts ⟨Nat.le_of_ble_eq_true rfl, Nat.le_of_ble_eq_true rfl⟩) (gPreS0 hK) rfl rfl hl.1 rfl (lv_room (Nat.le_of_ble_eq_true rfl)) dX9_laysState_107 ⟨Nat.le_of_ble_eq_true rfl, Nat.le_of_ble_eq_true rfl⟩) hP hS hA (fun H locs hP hS => ?_)
      refine lv_iload hx hb dX9_laysState_110 (lv_at hl 0 rfl) ?_
      refine lv_if_eq (tgt := 120) hx hb dX9_laysState_112 (by decide) (fun k86 => absurd k86 (by decide)) (fun k86 => ?_)
      refine lv_lload hx hb dX9_laysState_115 (lv_at hl 1 rfl) ?_
      refine lv_goto (tgt := 122) hx hb dX9_laysState_117 (by decide) ?_
      obtain ⟨r87, v88, hf⟩ := bd1_some hf
      refine gcl0 (va_runS (As := [.long r84, .long r10]) (rest := [.long (Int32.toInt64 r82), .int r1, .ref (ad 7)]) ⟨hx, hb, hml, hown, hts⟩ (tX9_more l dC dI dA H.size v88) (ccX9_X9_more hts ⟨Nat.le_of_ble_eq_true rfl, Nat.le_of_ble_eq_true rfl⟩) (gPreS0 hK) rfl rfl hl.1 rfl (lv_room (Nat.le_of_ble_eq_true rfl)) dX9_laysState_122 ⟨Nat.le_of_ble_eq_true rfl, Nat.le_of_ble_eq_true rfl⟩) hP hS hA (fun H locs hP hS => ?_)
      refine lv_ladd hx hb dX9_laysState_125 ?_
      obtain ⟨h89, hf⟩ := og_some hf
      obtain ⟨w90, ew90⟩ : ∃ y : Nat → Int64, y = vp_updL c_worth (Int32.toNatClampNeg r1) ((Int32.toInt64 r82) + r87) := ⟨_, rfl⟩
      replace hf := nm_at hf ew90
      refine va_last hx hb hK.1 hP hD hS 7 1 rfl rfl (okI_in h89) dX9_laysState_126 (fun H locs hP hD hS => ?_)
      have hP : va_P (dC, dI) vwCl (mW dA ad c_tape c_taped c_tree c_bonds c_moves c_handMoves c_moved c_days c_likely c_outOf c_rateNow c_pence c_top c_bottom c_spot c_textLong c_fault c_number c_numberAt c_figures c_written c_wanted c_found c_drawnNow w90 w81 c_way c_acts c_sDay c_sUps c_sUp c_sMarks c_paidAll c_isPlayed c_isOn c_handMoved c_handPaid c_regret c_aside c_other c_states c_kept c_keptLong c_keptAt c_isTaking) H := by rw [ew90]; exact hP
      have hD : va_D A (mW dA ad c_tape c_taped c_tree c_bonds c_moves c_handMoves c_moved c_days c_likely c_outOf c_rateNow c_pence c_top c_bottom c_spot c_textLong c_fault c_number c_numberAt c_figures c_written c_wanted c_found c_drawnNow w90 w81 c_way c_acts c_sDay c_sUps c_sUp c_sMarks c_paidAll c_isPlayed c_isOn c_handMoved c_handPaid c_regret c_aside c_other c_states c_kept c_keptLong c_keptAt c_isTaking) := by rw [ew90]; exact hD
      refine lv_iload hx hb dX9_laysState_127 (lv_at hl 0 rfl) ?_
      refine lv_if_eq (tgt := 172) hx hb dX9_laysState_129 (by decide) (fun k91 => absurd k91 (by decide)) (fun k91 => ?_)
      refine lv_aload_n hx hb dX9_laysState_132 rfl (lv_at hl 6 rfl) ?_
      refine va_get (D := (dC, dI)) (ci := 9) (v := .ref (ad 10)) (C := RX9) (T := TX9) (N := 45) hx hb hts (fun w h => gw_mem (inX9 w h)) hown hK.1 hP 0 rfl rfl 27 (by decide) (hts _ (gw_mem wfX9_39)) (fun _ h9 => h9) rfl dX9_laysState_133 ?_
      refine lv_iload hx hb dX9_laysState_136 (lv_at hl 5 rfl) ?_
      refine lv_lload hx hb dX9_laysState_138 (lv_at hl 3 rfl) ?_
      refine lv_lload hx hb dX9_laysState_140 (lv_at hl 1 rfl) ?_
      refine W.lcmp hx hb dX9_laysState_142 ?_
      refine lv_if_le (tgt := 150) hx hb dX9_laysState_143 (by decide) (fun k92 => ?_) (fun k92 => ?_)
      · replace hf := ifp (lc_le.mp k92) hf
        refine lv_lload hx hb dX9_laysState_150 (lv_at hl 4 rfl) ?_
        refine lv_aload_n hx hb dX9_laysState_152 rfl (lv_at hl 6 rfl) ?_
        refine lv_iload_n hx hb dX9_laysState_153 rfl (lv_at hl 7 rfl) ?_
        refine lv_iload_n hx hb dX9_laysState_154 rfl (lv_at hl 8 rfl) ?_
        obtain ⟨r93, v94, hf⟩ := bd1_some hf
        refine gci (va_runV (As := [.int p1, .int p2]) (rest := [.long r3, .int r1, .ref (ad 10)]) ⟨hx, hb, hml, hown, hts⟩ (tX9_callOf l dC dI dA ad H.size v94) (ccX9_X9_callOf hts ⟨Nat.le_of_ble_eq_true rfl, Nat.le_of_ble_eq_true rfl⟩) (gPreV (ci := 9) (q0 := 0) hP hK hD rfl rfl) rfl rfl hl.1 rfl (lv_room (Nat.le_of_ble_eq_true rfl)) dX9_laysState_155 ⟨Nat.le_of_ble_eq_true rfl, Nat.le_of_ble_eq_true rfl⟩) hD hS hA (fun H locs hP hD hS => ?_)
        refine lv_i2l hx hb dX9_laysState_158 rfl ?_
        refine W.lcmp hx hb dX9_laysState_159 ?_
        refine lv_if_le (tgt := 167) hx hb dX9_laysState_160 (by decide) (fun k95 => ?_) (fun k95 => ?_)
        · replace hf := ifp (lc_le.mp k95) hf
          refine lv_iconst (v := 3) hx hb dX9_laysState_167 (by decide) ?_
          obtain ⟨h96, hf⟩ := og_some hf
          obtain ⟨w97, ew97⟩ : ∃ y : Nat → Int32, y = upd c_acts (Int32.toNatClampNeg r1) 3 := ⟨_, rfl⟩
          replace hf := nm_at hf ew97
          refine va_iast hx hb hK.1 hP hD hS 10 0 rfl rfl (okI_in h96) dX9_laysState_168 (fun H locs hP hD hS => ?_)
          have hP : va_P (dC, dI) vwCl (mW dA ad c_tape c_taped c_tree c_bonds c_moves c_handMoves c_moved c_days c_likely c_outOf c_rateNow c_pence c_top c_bottom c_spot c_textLong c_fault c_number c_numberAt c_figures c_written c_wanted c_found c_drawnNow w90 w81 c_way w97 c_sDay c_sUps c_sUp c_sMarks c_paidAll c_isPlayed c_isOn c_handMoved c_handPaid c_regret c_aside c_other c_states c_kept c_keptLong c_keptAt c_isTaking) H := by rw [ew97]; exact hP
          have hD : va_D A (mW dA ad c_tape c_taped c_tree c_bonds c_moves c_handMoves c_moved c_days c_likely c_outOf c_rateNow c_pence c_top c_bottom c_spot c_textLong c_fault c_number c_numberAt c_figures c_written c_wanted c_found c_drawnNow w90 w81 c_way w97 c_sDay c_sUps c_sUp c_sMarks c_paidAll c_isPlayed c_isOn c_handMoved c_handPaid c_regret c_aside c_other c_states c_kept c_keptLong c_keptAt c_isTaking) := by rw [ew97]; exact hD
          refine lv_goto (tgt := 221) hx hb dX9_laysState_169 (by decide) ?_
          cases hf
          exact W.vret hx hb hr (fun t ht _ => gqv hP hD hS ht) hS.2.2 dX9_laysState_221
        · replace hf := ifn (fun h => k95 (lc_le.mpr h)) hf
          refine lv_iconst (v := 4) hx hb dX9_laysState_163 (by decide) ?_
          refine lv_goto (tgt := 168) hx hb dX9_laysState_164 (by decide) ?_
          obtain ⟨h98, hf⟩ := og_some hf
          obtain ⟨w99, ew99⟩ : ∃ y : Nat → Int32, y = upd c_acts (Int32.toNatClampNeg r1) 4 := ⟨_, rfl⟩
          replace hf := nm_at hf ew99
          refine va_iast hx hb hK.1 hP hD hS 10 0 rfl rfl (okI_in h98) dX9_laysState_168 (fun H locs hP hD hS => ?_)
          have hP : va_P (dC, dI) vwCl (mW dA ad c_tape c_taped c_tree c_bonds c_moves c_handMoves c_moved c_days c_likely c_outOf c_rateNow c_pence c_top c_bottom c_spot c_textLong c_fault c_number c_numberAt c_figures c_written c_wanted c_found c_drawnNow w90 w81 c_way w99 c_sDay c_sUps c_sUp c_sMarks c_paidAll c_isPlayed c_isOn c_handMoved c_handPaid c_regret c_aside c_other c_states c_kept c_keptLong c_keptAt c_isTaking) H := by rw [ew99]; exact hP
          have hD : va_D A (mW dA ad c_tape c_taped c_tree c_bonds c_moves c_handMoves c_moved c_days c_likely c_outOf c_rateNow c_pence c_top c_bottom c_spot c_textLong c_fault c_number c_numberAt c_figures c_written c_wanted c_found c_drawnNow w90 w81 c_way w99 c_sDay c_sUps c_sUp c_sMarks c_paidAll c_isPlayed c_isOn c_handMoved c_handPaid c_regret c_aside c_other c_states c_kept c_keptLong c_keptAt c_isTaking) := by rw [ew99]; exact hD
          refine lv_goto (tgt := 221) hx hb dX9_laysState_169 (by decide) ?_
          cases hf
          exact W.vret hx hb hr (fun t ht _ => gqv hP hD hS ht) hS.2.2 dX9_laysState_221
      · replace hf := ifn (fun h => k92 (lc_le.mpr h)) hf
        refine lv_iconst (v := 1) hx hb dX9_laysState_146 (by decide) ?_
        refine lv_goto (tgt := 168) hx hb dX9_laysState_147 (by decide) ?_
        obtain ⟨h100, hf⟩ := og_some hf
        obtain ⟨w101, ew101⟩ : ∃ y : Nat → Int32, y = upd c_acts (Int32.toNatClampNeg r1) 1 := ⟨_, rfl⟩
        replace hf := nm_at hf ew101
        refine va_iast hx hb hK.1 hP hD hS 10 0 rfl rfl (okI_in h100) dX9_laysState_168 (fun H locs hP hD hS => ?_)
        have hP : va_P (dC, dI) vwCl (mW dA ad c_tape c_taped c_tree c_bonds c_moves c_handMoves c_moved c_days c_likely c_outOf c_rateNow c_pence c_top c_bottom c_spot c_textLong c_fault c_number c_numberAt c_figures c_written c_wanted c_found c_drawnNow w90 w81 c_way w101 c_sDay c_sUps c_sUp c_sMarks c_paidAll c_isPlayed c_isOn c_handMoved c_handPaid c_regret c_aside c_other c_states c_kept c_keptLong c_keptAt c_isTaking) H := by rw [ew101]; exact hP
        have hD : va_D A (mW dA ad c_tape c_taped c_tree c_bonds c_moves c_handMoves c_moved c_days c_likely c_outOf c_rateNow c_pence c_top c_bottom c_spot c_textLong c_fault c_number c_numberAt c_figures c_written c_wanted c_found c_drawnNow w90 w81 c_way w101 c_sDay c_sUps c_sUp c_sMarks c_paidAll c_isPlayed c_isOn c_handMoved c_handPaid c_regret c_aside c_other c_states c_kept c_keptLong c_keptAt c_isTaking) := by rw [ew101]; exact hD
        refine lv_goto (tgt := 221) hx hb dX9_laysState_169 (by decide) ?_
        cases hf
        exact W.vret hx hb hr (fun t ht _ => gqv hP hD hS ht) hS.2.2 dX9_laysState_221
