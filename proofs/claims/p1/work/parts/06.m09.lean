def lpX9_alike_34 (x1 : Int32) (x2 : Int32) (x3 : Int32) (c_worth : Nat → Int64) : Nat → Int32 → (Nat → Int64) → Option ((Nat → Int64))
  | 0, _, _ => none
  | n + 1, x4, c_other => if 784 ≤ x4 then some (c_other) else og (okI x4 784) (og (okI x4 784) (nm (vp_updL c_other (Int32.toNatClampNeg x4) (c_worth (Int32.toNatClampNeg x4))) (fun w78 => nm (x4 + 1) (fun w79 => lpX9_alike_34 x1 x2 x3 c_worth n w79 w78))))
def lpX9_alike_110 (x1 : Int32) (x2 : Int32) (x3 : Int32) (x4 : Int32) (x5 : Int32) (c_bonds : Nat → Int32) (c_days : Int32) (c_pence : Nat → Int64) (c_worth : Nat → Int64) (c_other : Nat → Int64) : Nat → Int32 → Int32 → Int32 → Option (Nat × Int32)
  | 0, _, _, _ => none
  | n + 1, x6, x7, x8 => if x4 ≤ x8 then some (1, x8) else og (okI x6 784) (og (okI x7 784) (if (c_other (Int32.toNatClampNeg x6)) = (c_worth (Int32.toNatClampNeg x7)) then nm (x8 + 1) (fun w68 => if w68 ≤ c_days then nm ((x5 >>> ((w68 - 1) &&& 31)) &&& 1) (fun w70 => bd1 (fX9_then x1 (w68 - 1) ((x6 / 16) - (x6 / 16) / 7 * 7) ((x6 / 8) - (x6 / 8) / 2 * 2) (x6 - x6 / 8 * 8) w70 c_bonds c_pence) (fun r71 => bd1 (fX9_then x2 (w68 - 1) ((x7 / 16) - (x7 / 16) / 7 * 7) ((x7 / 8) - (x7 / 8) / 2 * 2) (x7 - x7 / 8 * 8) w70 c_bonds c_pence) (fun r73 => lpX9_alike_110 x1 x2 x3 x4 x5 c_bonds c_days c_pence c_worth c_other n r71 r73 w68))) else some (0, w68)) else some (1, x8)))
def lpX9_alike_74 (x1 : Int32) (x2 : Int32) (x3 : Int32) (c_bonds : Nat → Int32) (c_days : Int32) (c_pence : Nat → Int64) (c_worth : Nat → Int64) (c_other : Nat → Int64) : Nat → Int32 → Int32 → Int32 → Int32 → Int32 → Int32 → Option (Int32 × Int32 × Int32 × Int32 × Int32)
  | 0, _, _, _, _, _, _ => none
  | n + 1, x4, x5, c_sDay, c_sUps, c_sUp, c_sMarks => if (1 <<< (c_days &&& 31)) ≤ x5 then some (x4, c_sDay, c_sUps, c_sUp, c_sMarks) else bd4 (fX9_starts x1 c_bonds c_pence c_sDay c_sUps c_sUp c_sMarks) (fun c_sDay_37 c_sUps_38 c_sUp_39 c_sMarks_40 => bd1 (fX9_hereNow c_sDay_37 c_sUps_38 c_sUp_39 c_sMarks_40) (fun r42 => bd4 (fX9_starts x2 c_bonds c_pence c_sDay_37 c_sUps_38 c_sUp_39 c_sMarks_40) (fun c_sDay_44 c_sUps_45 c_sUp_46 c_sMarks_47 => bd1 (fX9_hereNow c_sDay_44 c_sUps_45 c_sUp_46 c_sMarks_47) (fun r49 => bd2 (lpX9_alike_110 x1 x2 x3 x4 x5 c_bonds c_days c_pence c_worth c_other FU r42 r49 0) (fun tg51 x52 => if tg51 = 0 then if c_days < x52 then nm (x5 + 1) (fun w55 => lpX9_alike_74 x1 x2 x3 c_bonds c_days c_pence c_worth c_other n x4 w55 c_sDay_44 c_sUps_45 c_sUp_46 c_sMarks_47) else if x4 ≤ x52 then nm (x5 + 1) (fun w57 => lpX9_alike_74 x1 x2 x3 c_bonds c_days c_pence c_worth c_other n x4 w57 c_sDay_44 c_sUps_45 c_sUp_46 c_sMarks_47) else nm (x5 + 1) (fun w58 => lpX9_alike_74 x1 x2 x3 c_bonds c_days c_pence c_worth c_other n x52 w58 c_sDay_44 c_sUps_45 c_sUp_46 c_sMarks_47) else if c_days < x52 then nm (x5 + 1) (fun w60 => lpX9_alike_74 x1 x2 x3 c_bonds c_days c_pence c_worth c_other n x4 w60 c_sDay_44 c_sUps_45 c_sUp_46 c_sMarks_47) else if x4 ≤ x52 then nm (x5 + 1) (fun w62 => lpX9_alike_74 x1 x2 x3 c_bonds c_days c_pence c_worth c_other n x4 w62 c_sDay_44 c_sUps_45 c_sUp_46 c_sMarks_47) else nm (x5 + 1) (fun w63 => lpX9_alike_74 x1 x2 x3 c_bonds c_days c_pence c_worth c_other n x52 w63 c_sDay_44 c_sUps_45 c_sUp_46 c_sMarks_47))))))
def fX9_alike (p1 : Int32) (p2 : Int32) (p3 : Int32) (c_tree : Nat → Int32) (c_bonds : Nat → Int32) (c_days : Int32) (c_likely : Int32) (c_outOf : Int32) (c_rateNow : Int32) (c_pence : Nat → Int64) (c_top : Int64) (c_bottom : Int64) (c_worth : Nat → Int64) (c_hold : Nat → Int64) (c_acts : Nat → Int32) (c_sDay : Int32) (c_sUps : Int32) (c_sUp : Int32) (c_sMarks : Int32) (c_other : Nat → Int64) : Option (Int32 × Int32 × Int32 × Int32 × Int32 × (Nat → Int64) × Int64 × Int64 × (Nat → Int64) × (Nat → Int64) × (Nat → Int32) × Int32 × Int32 × Int32 × Int32 × (Nat → Int64)) := bd1 (fX9_isBond p1) (fun r1 => if r1 = 0 then some ((-1), c_days, c_likely, c_outOf, c_rateNow, c_pence, c_top, c_bottom, c_worth, c_hold, c_acts, c_sDay, c_sUps, c_sUp, c_sMarks, c_other) else bd1 (fX9_isBond p2) (fun r4 => if r4 = 0 then some ((-1), c_days, c_likely, c_outOf, c_rateNow, c_pence, c_top, c_bottom, c_worth, c_hold, c_acts, c_sDay, c_sUps, c_sUp, c_sMarks, c_other) else bd1 (fX9_in (Int32.toInt64 p3) 0 1) (fun r7 => if r7 = 0 then some ((-1), c_days, c_likely, c_outOf, c_rateNow, c_pence, c_top, c_bottom, c_worth, c_hold, c_acts, c_sDay, c_sUps, c_sUp, c_sMarks, c_other) else bd10 (fX9_playsNow p1 c_tree c_bonds c_days c_likely c_outOf c_rateNow c_pence c_top c_bottom c_worth c_hold c_acts) (fun c_days_10 c_likely_11 c_outOf_12 c_rateNow_13 c_pence_14 c_top_15 c_bottom_16 c_worth_17 c_hold_18 c_acts_19 => bd1 (lpX9_alike_34 p1 p2 p3 c_worth_17 FU 0 c_other) (fun c_other_21 => bd3 (fX9_plays p2 c_bonds c_days_10 c_likely_11 c_outOf_12 c_rateNow_13 c_pence_14 c_worth_17 c_hold_18 c_acts_19) (fun c_worth_23 c_hold_24 c_acts_25 => bd5 (lpX9_alike_74 p1 p2 p3 c_bonds c_days_10 c_pence_14 c_worth_23 c_other_21 FU 7 0 c_sDay c_sUps c_sUp c_sMarks) (fun x27 c_sDay_28 c_sUps_29 c_sUp_30 c_sMarks_31 => if p3 = 0 then if x27 = 7 then some (1, c_days_10, c_likely_11, c_outOf_12, c_rateNow_13, c_pence_14, c_top_15, c_bottom_16, c_worth_23, c_hold_24, c_acts_25, c_sDay_28, c_sUps_29, c_sUp_30, c_sMarks_31, c_other_21) else some (0, c_days_10, c_likely_11, c_outOf_12, c_rateNow_13, c_pence_14, c_top_15, c_bottom_16, c_worth_23, c_hold_24, c_acts_25, c_sDay_28, c_sUps_29, c_sUp_30, c_sMarks_31, c_other_21) else if x27 = 7 then some ((-2), c_days_10, c_likely_11, c_outOf_12, c_rateNow_13, c_pence_14, c_top_15, c_bottom_16, c_worth_23, c_hold_24, c_acts_25, c_sDay_28, c_sUps_29, c_sUp_30, c_sMarks_31, c_other_21) else some (x27, c_days_10, c_likely_11, c_outOf_12, c_rateNow_13, c_pence_14, c_top_15, c_bottom_16, c_worth_23, c_hold_24, c_acts_25, c_sDay_28, c_sUps_29, c_sUp_30, c_sMarks_31, c_other_21))))))))
abbrev rmX9_alike : Room := { frames := 7, cells := 0, slots := 0, locals := 184 }
set_option maxHeartbeats 4000000 in
set_option maxRecDepth 100000 in
theorem tX9_alike (l : Launch) (dC : Nat → ClassId) (dI : Nat → Nat → Nat) (dA : Nat → ClassId) (ad : Nat → Nat) (sz : Nat) {p1 : Int32} {p2 : Int32} {p3 : Int32} {c_tape : Nat → Int32} {c_taped : Int32} {c_tree : Nat → Int32} {c_bonds : Nat → Int32} {c_moves : Nat → Int32} {c_handMoves : Nat → Int32} {c_moved : Int32} {c_days : Int32} {c_likely : Int32} {c_outOf : Int32} {c_rateNow : Int32} {c_pence : Nat → Int64} {c_top : Int64} {c_bottom : Int64} {c_spot : Int32} {c_textLong : Int32} {c_fault : Int32} {c_number : Int32} {c_numberAt : Int32} {c_figures : Int32} {c_written : Int32} {c_wanted : Int32} {c_found : Int32} {c_drawnNow : Int32} {c_worth : Nat → Int64} {c_hold : Nat → Int64} {c_way : Nat → Int64} {c_acts : Nat → Int32} {c_sDay : Int32} {c_sUps : Int32} {c_sUp : Int32} {c_sMarks : Int32} {c_paidAll : Int64} {c_isPlayed : Int32} {c_isOn : Int32} {c_handMoved : Int32} {c_handPaid : Int64} {c_regret : Int64} {c_aside : Nat → Int32} {c_other : Nat → Int64} {c_states : Int32} {c_kept : Nat → Int32} {c_keptLong : Nat → Int64} {c_keptAt : Int32} {c_isTaking : Int32} {r : Int32} {o_c_days : Int32} {o_c_likely : Int32} {o_c_outOf : Int32} {o_c_rateNow : Int32} {o_c_pence : Nat → Int64} {o_c_top : Int64} {o_c_bottom : Int64} {o_c_worth : Nat → Int64} {o_c_hold : Nat → Int64} {o_c_acts : Nat → Int32} {o_c_sDay : Int32} {o_c_sUps : Int32} {o_c_sUp : Int32} {o_c_sMarks : Int32} {o_c_other : Nat → Int64} (hf : fX9_alike p1 p2 p3 c_tree c_bonds c_days c_likely c_outOf c_rateNow c_pence c_top c_bottom c_worth c_hold c_acts c_sDay c_sUps c_sUp c_sMarks c_other = some (r, o_c_days, o_c_likely, o_c_outOf, o_c_rateNow, o_c_pence, o_c_top, o_c_bottom, o_c_worth, o_c_hold, o_c_acts, o_c_sDay, o_c_sUps, o_c_sUp, o_c_sMarks, o_c_other)) : Met l yX9_alike (wq (Cond.code yX9_alike cX9_alike 10 (some .int))) rmX9_alike (gP [.ref (ad 0), .int p1, .int p2, .int p3] (dC, dI) dA (mW dA ad c_tape c_taped c_tree c_bonds c_moves c_handMoves c_moved c_days c_likely c_outOf c_rateNow c_pence c_top c_bottom c_spot c_textLong c_fault c_number c_numberAt c_figures c_written c_wanted c_found c_drawnNow c_worth c_hold c_way c_acts c_sDay c_sUps c_sUp c_sMarks c_paidAll c_isPlayed c_isOn c_handMoved c_handPaid c_regret c_aside c_other c_states c_kept c_keptLong c_keptAt c_isTaking) sz) (gQi (dC, dI) r (mW dA ad c_tape c_taped c_tree c_bonds c_moves c_handMoves c_moved o_c_days o_c_likely o_c_outOf o_c_rateNow o_c_pence o_c_top o_c_bottom c_spot c_textLong c_fault c_number c_numberAt c_figures c_written c_wanted c_found c_drawnNow o_c_worth o_c_hold c_way o_c_acts o_c_sDay o_c_sUps o_c_sUp o_c_sMarks c_paidAll c_isPlayed c_isOn c_handMoved c_handPaid c_regret c_aside o_c_other c_states c_kept c_keptLong c_keptAt c_isTaking) (va_A (mW dA ad c_tape c_taped c_tree c_bonds c_moves c_handMoves c_moved c_days c_likely c_outOf c_rateNow c_pence c_top c_bottom c_spot c_textLong c_fault c_number c_numberAt c_figures c_written c_wanted c_found c_drawnNow c_worth c_hold c_way c_acts c_sDay c_sUps c_sUp c_sMarks c_paidAll c_isPlayed c_isOn c_handMoved c_handPaid c_regret c_aside c_other c_states c_kept c_keptLong c_keptAt c_isTaking) sz)) 0 0 (va_A (mW dA ad c_tape c_taped c_tree c_bonds c_moves c_handMoves c_moved c_days c_likely c_outOf c_rateNow c_pence c_top c_bottom c_spot c_textLong c_fault c_number c_numberAt c_figures c_written c_wanted c_found c_drawnNow c_worth c_hold c_way c_acts c_sDay c_sUps c_sUp c_sMarks c_paidAll c_isPlayed c_isOn c_handMoved c_handPaid c_regret c_aside c_other c_states c_kept c_keptLong c_keptAt c_isTaking) sz) := by
  refine Met.ofW (cc := cX9_alike) (maxL := 10) (ret := (some .int)) (by decide) rfl ?_
  intro p e s m args below meth c s₁ B hml hv
  obtain ⟨rfl, hsz, hP, hK, hD0⟩ := hv
  have hx := B.exec
  have hb := B.bytes
  have hr := B.returns
  have hts := atoms_spec (ws := wq (Cond.code yX9_alike cX9_alike 10 (some .int))) B.pre
  have hown : s.vm.findClass RX9 = some m.cls := findClass_of_methodNamed B.named
  have hlocks := B.notSynchronized
  clear B
  subst hsz
  have hD := hD0.self (sz := s.heap.size)
  generalize hAe : va_A (mW dA ad c_tape c_taped c_tree c_bonds c_moves c_handMoves c_moved c_days c_likely c_outOf c_rateNow c_pence c_top c_bottom c_spot c_textLong c_fault c_number c_numberAt c_figures c_written c_wanted c_found c_drawnNow c_worth c_hold c_way c_acts c_sDay c_sUps c_sUp c_sMarks c_paidAll c_isPlayed c_isOn c_handMoved c_handPaid c_regret c_aside c_other c_states c_kept c_keptLong c_keptAt c_isTaking) s.heap.size = A at hD ⊢
  have hA : ∀ q : Nat, s.heap.size ≤ q → A q := fun q h => by rw [← hAe]; exact Or.inr h
  clear hAe hD0
  have hS : va_S A s.heap s.heap [] := va_S.rf
  have hl := lv_entry ([.ref (ad 0), .int p1, .int p2, .int p3]) (n := 10) (Nat.le_of_ble_eq_true rfl)
  rw [lg_entry_eq]
  generalize (lg_sl ([.ref (ad 0), .int p1, .int p2, .int p3]) ++ List.replicate (10 - (lg_sl ([.ref (ad 0), .int p1, .int p2, .int p3])).length) Slot.unset).toArray = ls at hl ⊢
  have hl : lv_has ls 10 [(0, .ref (ad 0)), (1, .int p1), (2, .int p2), (3, .int p3)] := hl
  change W p l e rmX9_alike s m ([.ref (ad 0), .int p1, .int p2, .int p3] : List Value).toArray below meth c s.heap [] 0 0 _ _
  generalize hQ : MQ below (gQi (dC, dI) r (mW dA ad c_tape c_taped c_tree c_bonds c_moves c_handMoves c_moved o_c_days o_c_likely o_c_outOf o_c_rateNow o_c_pence o_c_top o_c_bottom c_spot c_textLong c_fault c_number c_numberAt c_figures c_written c_wanted c_found c_drawnNow o_c_worth o_c_hold c_way o_c_acts o_c_sDay o_c_sUps o_c_sUp o_c_sMarks c_paidAll c_isPlayed c_isOn c_handMoved c_handPaid c_regret c_aside o_c_other c_states c_kept c_keptLong c_keptAt c_isTaking) A) ([.ref (ad 0), .int p1, .int p2, .int p3] : List Value).toArray s 0 0 A = Q
  have LP34 : ∀ (n : Nat) (x1 : Int32) (x2 : Int32) (x3 : Int32) (c_worth : Nat → Int64) (c_tape : Nat → Int32) (c_taped : Int32) (c_tree : Nat → Int32) (c_bonds : Nat → Int32) (c_moves : Nat → Int32) (c_handMoves : Nat → Int32) (c_moved : Int32) (c_days : Int32) (c_likely : Int32) (c_outOf : Int32) (c_rateNow : Int32) (c_pence : Nat → Int64) (c_top : Int64) (c_bottom : Int64) (c_spot : Int32) (c_textLong : Int32) (c_fault : Int32) (c_number : Int32) (c_numberAt : Int32) (c_figures : Int32) (c_written : Int32) (c_wanted : Int32) (c_found : Int32) (c_drawnNow : Int32) (c_hold : Nat → Int64) (c_way : Nat → Int64) (c_acts : Nat → Int32) (c_sDay : Int32) (c_sUps : Int32) (c_sUp : Int32) (c_sMarks : Int32) (c_paidAll : Int64) (c_isPlayed : Int32) (c_isOn : Int32) (c_handMoved : Int32) (c_handPaid : Int64) (c_regret : Int64) (c_aside : Nat → Int32) (c_states : Int32) (c_kept : Nat → Int32) (c_keptLong : Nat → Int64) (c_keptAt : Int32) (c_isTaking : Int32) (x4 : Int32) (c_other : Nat → Int64) (o_c_other : Nat → Int64) (H : Heap) (locs : List Loc) (ls : Array Slot), va_P (dC, dI) vwCl (mW dA ad c_tape c_taped c_tree c_bonds c_moves c_handMoves c_moved c_days c_likely c_outOf c_rateNow c_pence c_top c_bottom c_spot c_textLong c_fault c_number c_numberAt c_figures c_written c_wanted c_found c_drawnNow c_worth c_hold c_way c_acts c_sDay c_sUps c_sUp c_sMarks c_paidAll c_isPlayed c_isOn c_handMoved c_handPaid c_regret c_aside c_other c_states c_kept c_keptLong c_keptAt c_isTaking) H → va_D A (mW dA ad c_tape c_taped c_tree c_bonds c_moves c_handMoves c_moved c_days c_likely c_outOf c_rateNow c_pence c_top c_bottom c_spot c_textLong c_fault c_number c_numberAt c_figures c_written c_wanted c_found c_drawnNow c_worth c_hold c_way c_acts c_sDay c_sUps c_sUp c_sMarks c_paidAll c_isPlayed c_isOn c_handMoved c_handPaid c_regret c_aside c_other c_states c_kept c_keptLong c_keptAt c_isTaking) → va_S A s.heap H locs → lpX9_alike_34 x1 x2 x3 c_worth n x4 c_other = some (o_c_other) → lv_has ls 10 [(0, .ref (ad 0)), (1, .int x1), (2, .int x2), (3, .int x3), (4, .int x4)] → (∀ (H : Heap) (locs : List Loc) (ls : Array Slot), va_P (dC, dI) vwCl (mW dA ad c_tape c_taped c_tree c_bonds c_moves c_handMoves c_moved c_days c_likely c_outOf c_rateNow c_pence c_top c_bottom c_spot c_textLong c_fault c_number c_numberAt c_figures c_written c_wanted c_found c_drawnNow c_worth c_hold c_way c_acts c_sDay c_sUps c_sUp c_sMarks c_paidAll c_isPlayed c_isOn c_handMoved c_handPaid c_regret c_aside o_c_other c_states c_kept c_keptLong c_keptAt c_isTaking) H → va_D A (mW dA ad c_tape c_taped c_tree c_bonds c_moves c_handMoves c_moved c_days c_likely c_outOf c_rateNow c_pence c_top c_bottom c_spot c_textLong c_fault c_number c_numberAt c_figures c_written c_wanted c_found c_drawnNow c_worth c_hold c_way c_acts c_sDay c_sUps c_sUp c_sMarks c_paidAll c_isPlayed c_isOn c_handMoved c_handPaid c_regret c_aside o_c_other c_states c_kept c_keptLong c_keptAt c_isTaking) → va_S A s.heap H locs → lv_has ls 10 [(0, .ref (ad 0)), (1, .int x1), (2, .int x2), (3, .int x3)] → W p l e rmX9_alike s m ([.ref (ad 0), .int p1, .int p2, .int p3] : List Value).toArray below meth c H locs 0 0 Q (F0 m 62 ls [])) → W p l e rmX9_alike s m ([.ref (ad 0), .int p1, .int p2, .int p3] : List Value).toArray below meth c H locs 0 0 Q (F0 m 34 ls []) := by
    intro n
    induction n with
    | zero =>
      intro x1 x2 x3 c_worth c_tape c_taped c_tree c_bonds c_moves c_handMoves c_moved c_days c_likely c_outOf c_rateNow c_pence c_top c_bottom c_spot c_textLong c_fault c_number c_numberAt c_figures c_written c_wanted c_found c_drawnNow c_hold c_way c_acts c_sDay c_sUps c_sUp c_sMarks c_paidAll c_isPlayed c_isOn c_handMoved c_handPaid c_regret c_aside c_states c_kept c_keptLong c_keptAt c_isTaking x4 c_other o_c_other H locs ls hP hD hS hf hl hk
      cases hf
    | succ n ih34 =>
      intro x1 x2 x3 c_worth c_tape c_taped c_tree c_bonds c_moves c_handMoves c_moved c_days c_likely c_outOf c_rateNow c_pence c_top c_bottom c_spot c_textLong c_fault c_number c_numberAt c_figures c_written c_wanted c_found c_drawnNow c_hold c_way c_acts c_sDay c_sUps c_sUp c_sMarks c_paidAll c_isPlayed c_isOn c_handMoved c_handPaid c_regret c_aside c_states c_kept c_keptLong c_keptAt c_isTaking x4 c_other o_c_other H locs ls hP hD hS hf hl hk
      rw [lpX9_alike_34.eq_2] at hf
      refine lv_iload hx hb dX9_alike_34 (lv_at hl 4 rfl) ?_
      refine lv_sipush (v := 784) hx hb dX9_alike_36 (by decide) ?_
      refine lv_icmp_ge (tgt := 62) hx hb dX9_alike_39 (by decide) (fun k75 => ?_) (fun k75 => ?_)
      · replace hf := ifp k75 hf
        cases hf
        exact hk _ _ _ hP hD hS (lv_sub hl [0, 1, 2, 3] rfl)
      · replace hf := ifn k75 hf
        refine lv_aload_n hx hb dX9_alike_42 rfl (lv_at hl 0 rfl) ?_
        refine va_get (D := (dC, dI)) (ci := 9) (v := .ref (ad 12)) (C := RX9) (T := TX9) (N := 45) hx hb hts (fun w h => gw_mem (inX9 w h)) hown hK.1 hP 0 rfl rfl 39 (by decide) (hts _ (gw_mem wfX9_45)) (fun _ h9 => h9) rfl dX9_alike_43 ?_
        refine lv_iload hx hb dX9_alike_46 (lv_at hl 4 rfl) ?_
        refine lv_aload_n hx hb dX9_alike_48 rfl (lv_at hl 0 rfl) ?_
        refine va_get (D := (dC, dI)) (ci := 9) (v := .ref (ad 7)) (C := RX9) (T := TX9) (N := 45) hx hb hts (fun w h => gw_mem (inX9 w h)) hown hK.1 hP 0 rfl rfl 24 (by decide) (hts _ (gw_mem wfX9_30)) (fun _ h9 => h9) rfl dX9_alike_49 ?_
        refine lv_iload hx hb dX9_alike_52 (lv_at hl 4 rfl) ?_
        obtain ⟨h76, hf⟩ := og_some hf
        refine va_lald hx hb hK.1 hP 7 1 rfl rfl (okI_in h76) dX9_alike_54 ?_
        obtain ⟨h77, hf⟩ := og_some hf
        obtain ⟨w78, ew78⟩ : ∃ y : Nat → Int64, y = vp_updL c_other (Int32.toNatClampNeg x4) (c_worth (Int32.toNatClampNeg x4)) := ⟨_, rfl⟩
        replace hf := nm_at hf ew78
        refine va_last hx hb hK.1 hP hD hS 12 1 rfl rfl (okI_in h77) dX9_alike_55 (fun H locs hP hD hS => ?_)
        have hP : va_P (dC, dI) vwCl (mW dA ad c_tape c_taped c_tree c_bonds c_moves c_handMoves c_moved c_days c_likely c_outOf c_rateNow c_pence c_top c_bottom c_spot c_textLong c_fault c_number c_numberAt c_figures c_written c_wanted c_found c_drawnNow c_worth c_hold c_way c_acts c_sDay c_sUps c_sUp c_sMarks c_paidAll c_isPlayed c_isOn c_handMoved c_handPaid c_regret c_aside w78 c_states c_kept c_keptLong c_keptAt c_isTaking) H := by rw [ew78]; exact hP
        have hD : va_D A (mW dA ad c_tape c_taped c_tree c_bonds c_moves c_handMoves c_moved c_days c_likely c_outOf c_rateNow c_pence c_top c_bottom c_spot c_textLong c_fault c_number c_numberAt c_figures c_written c_wanted c_found c_drawnNow c_worth c_hold c_way c_acts c_sDay c_sUps c_sUp c_sMarks c_paidAll c_isPlayed c_isOn c_handMoved c_handPaid c_regret c_aside w78 c_states c_kept c_keptLong c_keptAt c_isTaking) := by rw [ew78]; exact hD
        obtain ⟨w79, ew79⟩ : ∃ y : Int32, y = x4 + 1 := ⟨_, rfl⟩
        replace hf := nm_at hf ew79
        refine lv_iinc (v := w79) (lv' := [(4, .int w79), (0, .ref (ad 0)), (1, .int x1), (2, .int x2), (3, .int x3)]) hx hb dX9_alike_56 hl (k := 4) rfl (by rw [ew79]; rfl) (by decide) rfl (fun ls hl => ?_)
        refine lv_goto (tgt := 34) hx hb dX9_alike_59 (by decide) ?_
        exact ih34 _ _ _ _ _ _ _ _ _ _ _ _ _ _ _ _ _ _ _ _ _ _ _ _ _ _ _ _ _ _ _ _ _ _ _ _ _ _ _ _ _ _ _ _ _ _ _ _ _ _ _ _ _ hP hD hS hf (lv_sub hl [1, 2, 3, 4, 0] rfl) hk
  have LP110 : ∀ (n : Nat) (x1 : Int32) (x2 : Int32) (x3 : Int32) (x4 : Int32) (x5 : Int32) (c_bonds : Nat → Int32) (c_days : Int32) (c_pence : Nat → Int64) (c_worth : Nat → Int64) (c_other : Nat → Int64) (c_tape : Nat → Int32) (c_taped : Int32) (c_tree : Nat → Int32) (c_moves : Nat → Int32) (c_handMoves : Nat → Int32) (c_moved : Int32) (c_likely : Int32) (c_outOf : Int32) (c_rateNow : Int32) (c_top : Int64) (c_bottom : Int64) (c_spot : Int32) (c_textLong : Int32) (c_fault : Int32) (c_number : Int32) (c_numberAt : Int32) (c_figures : Int32) (c_written : Int32) (c_wanted : Int32) (c_found : Int32) (c_drawnNow : Int32) (c_hold : Nat → Int64) (c_way : Nat → Int64) (c_acts : Nat → Int32) (c_sDay : Int32) (c_sUps : Int32) (c_sUp : Int32) (c_sMarks : Int32) (c_paidAll : Int64) (c_isPlayed : Int32) (c_isOn : Int32) (c_handMoved : Int32) (c_handPaid : Int64) (c_regret : Int64) (c_aside : Nat → Int32) (c_states : Int32) (c_kept : Nat → Int32) (c_keptLong : Nat → Int64) (c_keptAt : Int32) (c_isTaking : Int32) (x6 : Int32) (x7 : Int32) (x8 : Int32) (tgo : Nat) (o8 : Int32) (H : Heap) (locs : List Loc) (ls : Array Slot), va_P (dC, dI) vwCl (mW dA ad c_tape c_taped c_tree c_bonds c_moves c_handMoves c_moved c_days c_likely c_outOf c_rateNow c_pence c_top c_bottom c_spot c_textLong c_fault c_number c_numberAt c_figures c_written c_wanted c_found c_drawnNow c_worth c_hold c_way c_acts c_sDay c_sUps c_sUp c_sMarks c_paidAll c_isPlayed c_isOn c_handMoved c_handPaid c_regret c_aside c_other c_states c_kept c_keptLong c_keptAt c_isTaking) H → va_D A (mW dA ad c_tape c_taped c_tree c_bonds c_moves c_handMoves c_moved c_days c_likely c_outOf c_rateNow c_pence c_top c_bottom c_spot c_textLong c_fault c_number c_numberAt c_figures c_written c_wanted c_found c_drawnNow c_worth c_hold c_way c_acts c_sDay c_sUps c_sUp c_sMarks c_paidAll c_isPlayed c_isOn c_handMoved c_handPaid c_regret c_aside c_other c_states c_kept c_keptLong c_keptAt c_isTaking) → va_S A s.heap H locs → lpX9_alike_110 x1 x2 x3 x4 x5 c_bonds c_days c_pence c_worth c_other n x6 x7 x8 = some (tgo, o8) → lv_has ls 10 [(0, .ref (ad 0)), (1, .int x1), (2, .int x2), (3, .int x3), (4, .int x4), (5, .int x5), (6, .int x6), (7, .int x7), (8, .int x8)] → (tgo = 0 → ∀ (H : Heap) (locs : List Loc) (ls : Array Slot), va_P (dC, dI) vwCl (mW dA ad c_tape c_taped c_tree c_bonds c_moves c_handMoves c_moved c_days c_likely c_outOf c_rateNow c_pence c_top c_bottom c_spot c_textLong c_fault c_number c_numberAt c_figures c_written c_wanted c_found c_drawnNow c_worth c_hold c_way c_acts c_sDay c_sUps c_sUp c_sMarks c_paidAll c_isPlayed c_isOn c_handMoved c_handPaid c_regret c_aside c_other c_states c_kept c_keptLong c_keptAt c_isTaking) H → va_D A (mW dA ad c_tape c_taped c_tree c_bonds c_moves c_handMoves c_moved c_days c_likely c_outOf c_rateNow c_pence c_top c_bottom c_spot c_textLong c_fault c_number c_numberAt c_figures c_written c_wanted c_found c_drawnNow c_worth c_hold c_way c_acts c_sDay c_sUps c_sUp c_sMarks c_paidAll c_isPlayed c_isOn c_handMoved c_handPaid c_regret c_aside c_other c_states c_kept c_keptLong c_keptAt c_isTaking) → va_S A s.heap H locs → lv_has ls 10 [(0, .ref (ad 0)), (1, .int x1), (2, .int x2), (3, .int x3), (4, .int x4), (5, .int x5), (8, .int o8)] → W p l e rmX9_alike s m ([.ref (ad 0), .int p1, .int p2, .int p3] : List Value).toArray below meth c H locs 0 0 Q (F0 m 150 ls [])) → (tgo = 1 → ∀ (H : Heap) (locs : List Loc) (ls : Array Slot), va_P (dC, dI) vwCl (mW dA ad c_tape c_taped c_tree c_bonds c_moves c_handMoves c_moved c_days c_likely c_outOf c_rateNow c_pence c_top c_bottom c_spot c_textLong c_fault c_number c_numberAt c_figures c_written c_wanted c_found c_drawnNow c_worth c_hold c_way c_acts c_sDay c_sUps c_sUp c_sMarks c_paidAll c_isPlayed c_isOn c_handMoved c_handPaid c_regret c_aside c_other c_states c_kept c_keptLong c_keptAt c_isTaking) H → va_D A (mW dA ad c_tape c_taped c_tree c_bonds c_moves c_handMoves c_moved c_days c_likely c_outOf c_rateNow c_pence c_top c_bottom c_spot c_textLong c_fault c_number c_numberAt c_figures c_written c_wanted c_found c_drawnNow c_worth c_hold c_way c_acts c_sDay c_sUps c_sUp c_sMarks c_paidAll c_isPlayed c_isOn c_handMoved c_handPaid c_regret c_aside c_other c_states c_kept c_keptLong c_keptAt c_isTaking) → va_S A s.heap H locs → lv_has ls 10 [(0, .ref (ad 0)), (1, .int x1), (2, .int x2), (3, .int x3), (4, .int x4), (5, .int x5), (8, .int o8)] → W p l e rmX9_alike s m ([.ref (ad 0), .int p1, .int p2, .int p3] : List Value).toArray below meth c H locs 0 0 Q (F0 m 233 ls [])) → W p l e rmX9_alike s m ([.ref (ad 0), .int p1, .int p2, .int p3] : List Value).toArray below meth c H locs 0 0 Q (F0 m 110 ls []) := by
    intro n
    induction n with
    | zero =>
      intro x1 x2 x3 x4 x5 c_bonds c_days c_pence c_worth c_other c_tape c_taped c_tree c_moves c_handMoves c_moved c_likely c_outOf c_rateNow c_top c_bottom c_spot c_textLong c_fault c_number c_numberAt c_figures c_written c_wanted c_found c_drawnNow c_hold c_way c_acts c_sDay c_sUps c_sUp c_sMarks c_paidAll c_isPlayed c_isOn c_handMoved c_handPaid c_regret c_aside c_states c_kept c_keptLong c_keptAt c_isTaking x6 x7 x8 tgo o8 H locs ls hP hD hS hf hl hk0 hk1
      cases hf
    | succ n ih110 =>
      intro x1 x2 x3 x4 x5 c_bonds c_days c_pence c_worth c_other c_tape c_taped c_tree c_moves c_handMoves c_moved c_likely c_outOf c_rateNow c_top c_bottom c_spot c_textLong c_fault c_number c_numberAt c_figures c_written c_wanted c_found c_drawnNow c_hold c_way c_acts c_sDay c_sUps c_sUp c_sMarks c_paidAll c_isPlayed c_isOn c_handMoved c_handPaid c_regret c_aside c_states c_kept c_keptLong c_keptAt c_isTaking x6 x7 x8 tgo o8 H locs ls hP hD hS hf hl hk0 hk1
      rw [lpX9_alike_110.eq_2] at hf
      refine lv_iload hx hb dX9_alike_110 (lv_at hl 8 rfl) ?_
      refine lv_iload hx hb dX9_alike_112 (lv_at hl 4 rfl) ?_
      refine lv_icmp_ge (tgt := 233) hx hb dX9_alike_114 (by decide) (fun k64 => ?_) (fun k64 => ?_)
      · replace hf := ifp k64 hf
        cases hf
        exact hk1 rfl _ _ _ hP hD hS (lv_sub hl [0, 1, 2, 3, 4, 5, 8] rfl)
      · replace hf := ifn k64 hf
        refine lv_aload_n hx hb dX9_alike_117 rfl (lv_at hl 0 rfl) ?_
        refine va_get (D := (dC, dI)) (ci := 9) (v := .ref (ad 12)) (C := RX9) (T := TX9) (N := 45) hx hb hts (fun w h => gw_mem (inX9 w h)) hown hK.1 hP 0 rfl rfl 39 (by decide) (hts _ (gw_mem wfX9_45)) (fun _ h9 => h9) rfl dX9_alike_118 ?_
        refine lv_iload hx hb dX9_alike_121 (lv_at hl 6 rfl) ?_
        obtain ⟨h65, hf⟩ := og_some hf
        refine va_lald hx hb hK.1 hP 12 1 rfl rfl (okI_in h65) dX9_alike_123 ?_
        refine lv_aload_n hx hb dX9_alike_124 rfl (lv_at hl 0 rfl) ?_
        refine va_get (D := (dC, dI)) (ci := 9) (v := .ref (ad 7)) (C := RX9) (T := TX9) (N := 45) hx hb hts (fun w h => gw_mem (inX9 w h)) hown hK.1 hP 0 rfl rfl 24 (by decide) (hts _ (gw_mem wfX9_30)) (fun _ h9 => h9) rfl dX9_alike_125 ?_
        refine lv_iload hx hb dX9_alike_128 (lv_at hl 7 rfl) ?_
        obtain ⟨h66, hf⟩ := og_some hf
        refine va_lald hx hb hK.1 hP 7 1 rfl rfl (okI_in h66) dX9_alike_130 ?_
        refine W.lcmp hx hb dX9_alike_131 ?_
        refine lv_if_ne (tgt := 233) hx hb dX9_alike_132 (by decide) (fun k67 => ?_) (fun k67 => ?_)
        · replace hf := ifn (fun h => k67 (lc_eq.mpr h)) hf
          cases hf
          exact hk1 rfl _ _ _ hP hD hS (lv_sub hl [0, 1, 2, 3, 4, 5, 8] rfl)
        · replace hf := ifp (lc_eq.mp k67) hf
          refine lv_iload hx hb dX9_alike_135 (lv_at hl 8 rfl) ?_
          refine lv_iconst (v := 1) hx hb dX9_alike_137 (by decide) ?_
          refine lv_iadd hx hb dX9_alike_138 ?_
          refine lv_topi (fun w68 ew68 => ?_)
          replace hf := nm_at hf ew68
          refine lv_istore (lv' := [(8, .int w68), (0, .ref (ad 0)), (1, .int x1), (2, .int x2), (3, .int x3), (4, .int x4), (5, .int x5), (6, .int x6), (7, .int x7)]) hx hb dX9_alike_139 hl (by decide) rfl (fun ls hl => ?_)
          refine lv_iload hx hb dX9_alike_141 (lv_at hl 0 rfl) ?_
          refine lv_aload_n hx hb dX9_alike_143 rfl (lv_at hl 1 rfl) ?_
          refine va_get (D := (dC, dI)) (ci := 9) (v := .int c_days) (C := RX9) (T := TX9) (N := 45) hx hb hts (fun w h => gw_mem (inX9 w h)) hown hK.1 hP 0 rfl rfl 7 (by decide) (hts _ (gw_mem wfX9_94)) (fun _ h9 => h9) rfl dX9_alike_144 ?_
          refine lv_icmp_le (tgt := 153) hx hb dX9_alike_147 (by decide) (fun k69 => ?_) (fun k69 => ?_)
          · replace hf := ifp k69 hf
            refine lv_iload hx hb dX9_alike_153 (lv_at hl 6 rfl) ?_
            refine lv_iload hx hb dX9_alike_155 (lv_at hl 0 rfl) ?_
            refine lv_iconst (v := 1) hx hb dX9_alike_157 (by decide) ?_
            refine lv_isub hx hb dX9_alike_158 ?_
            refine lv_ishr hx hb dX9_alike_159 ?_
            refine lv_iconst (v := 1) hx hb dX9_alike_160 (by decide) ?_
            refine lv_iand hx hb dX9_alike_161 ?_
            refine lv_topi (fun w70 ew70 => ?_)
            replace hf := nm_at hf ew70
            refine lv_istore (lv' := [(9, .int w70), (8, .int w68), (0, .ref (ad 0)), (1, .int x1), (2, .int x2), (3, .int x3), (4, .int x4), (5, .int x5), (6, .int x6), (7, .int x7)]) hx hb dX9_alike_162 hl (by decide) rfl (fun ls hl => ?_)
            refine lv_aload_n hx hb dX9_alike_164 rfl (lv_at hl 2 rfl) ?_
            refine lv_iload_n hx hb dX9_alike_165 rfl (lv_at hl 3 rfl) ?_
            refine lv_iload hx hb dX9_alike_166 (lv_at hl 1 rfl) ?_
            refine lv_iconst (v := 1) hx hb dX9_alike_168 (by decide) ?_
            refine lv_isub hx hb dX9_alike_169 ?_
            refine lv_iload hx hb dX9_alike_170 (lv_at hl 8 rfl) ?_
            refine lv_bipush (v := 16) hx hb dX9_alike_172 (by decide) ?_
            refine lv_idiv hx hb dX9_alike_174 (by decide) ?_
            refine lv_bipush (v := 7) hx hb dX9_alike_175 (by decide) ?_
            refine lv_irem hx hb dX9_alike_177 (by decide) ?_
            refine lv_iload hx hb dX9_alike_178 (lv_at hl 8 rfl) ?_
            refine lv_bipush (v := 8) hx hb dX9_alike_180 (by decide) ?_
            refine lv_idiv hx hb dX9_alike_182 (by decide) ?_
            refine lv_iconst (v := 2) hx hb dX9_alike_183 (by decide) ?_
            refine lv_irem hx hb dX9_alike_184 (by decide) ?_
            refine lv_iload hx hb dX9_alike_185 (lv_at hl 8 rfl) ?_
            refine lv_bipush (v := 8) hx hb dX9_alike_187 (by decide) ?_
            refine lv_irem hx hb dX9_alike_189 (by decide) ?_
            refine lv_iload hx hb dX9_alike_190 (lv_at hl 0 rfl) ?_
            obtain ⟨r71, v72, hf⟩ := bd1_some hf
            refine gci (va_runV (As := [.int x1, .int (w68 - 1), .int ((x6 / 16) - (x6 / 16) / 7 * 7), .int ((x6 / 8) - (x6 / 8) / 2 * 2), .int (x6 - x6 / 8 * 8), .int w70]) (rest := []) ⟨hx, hb, hml, hown, hts⟩ (tX9_then l dC dI dA ad H.size v72) (ccX9_X9_then hts ⟨Nat.le_of_ble_eq_true rfl, Nat.le_of_ble_eq_true rfl⟩) (gPreV (ci := 9) (q0 := 0) hP hK hD rfl rfl) rfl rfl hl.1 rfl (lv_room (Nat.le_of_ble_eq_true rfl)) dX9_alike_192 ⟨Nat.le_of_ble_eq_true rfl, Nat.le_of_ble_eq_true rfl⟩) hD hS hA (fun H locs hP hD hS => ?_)
            refine lv_istore (lv' := [(6, .int r71), (9, .int w70), (8, .int w68), (0, .ref (ad 0)), (1, .int x1), (2, .int x2), (3, .int x3), (4, .int x4), (5, .int x5), (7, .int x7)]) hx hb dX9_alike_195 hl (by decide) rfl (fun ls hl => ?_)
            refine lv_aload_n hx hb dX9_alike_197 rfl (lv_at hl 3 rfl) ?_
            refine lv_iload_n hx hb dX9_alike_198 rfl (lv_at hl 5 rfl) ?_
            refine lv_iload hx hb dX9_alike_199 (lv_at hl 2 rfl) ?_
            refine lv_iconst (v := 1) hx hb dX9_alike_201 (by decide) ?_
            refine lv_isub hx hb dX9_alike_202 ?_
            refine lv_iload hx hb dX9_alike_203 (lv_at hl 9 rfl) ?_
            refine lv_bipush (v := 16) hx hb dX9_alike_205 (by decide) ?_
            refine lv_idiv hx hb dX9_alike_207 (by decide) ?_
            refine lv_bipush (v := 7) hx hb dX9_alike_208 (by decide) ?_
            refine lv_irem hx hb dX9_alike_210 (by decide) ?_
            refine lv_iload hx hb dX9_alike_211 (lv_at hl 9 rfl) ?_
            refine lv_bipush (v := 8) hx hb dX9_alike_213 (by decide) ?_
            refine lv_idiv hx hb dX9_alike_215 (by decide) ?_
            refine lv_iconst (v := 2) hx hb dX9_alike_216 (by decide) ?_
            refine lv_irem hx hb dX9_alike_217 (by decide) ?_
            refine lv_iload hx hb dX9_alike_218 (lv_at hl 9 rfl) ?_
            refine lv_bipush (v := 8) hx hb dX9_alike_220 (by decide) ?_
            refine lv_irem hx hb dX9_alike_222 (by decide) ?_
            refine lv_iload hx hb dX9_alike_223 (lv_at hl 1 rfl) ?_
            obtain ⟨r73, v74, hf⟩ := bd1_some hf
            refine gci (va_runV (As := [.int x2, .int (w68 - 1), .int ((x7 / 16) - (x7 / 16) / 7 * 7), .int ((x7 / 8) - (x7 / 8) / 2 * 2), .int (x7 - x7 / 8 * 8), .int w70]) (rest := []) ⟨hx, hb, hml, hown, hts⟩ (tX9_then l dC dI dA ad H.size v74) (ccX9_X9_then hts ⟨Nat.le_of_ble_eq_true rfl, Nat.le_of_ble_eq_true rfl⟩) (gPreV (ci := 9) (q0 := 0) hP hK hD rfl rfl) rfl rfl hl.1 rfl (lv_room (Nat.le_of_ble_eq_true rfl)) dX9_alike_225 ⟨Nat.le_of_ble_eq_true rfl, Nat.le_of_ble_eq_true rfl⟩) hD hS hA (fun H locs hP hD hS => ?_)
            refine lv_istore (lv' := [(7, .int r73), (6, .int r71), (9, .int w70), (8, .int w68), (0, .ref (ad 0)), (1, .int x1), (2, .int x2), (3, .int x3), (4, .int x4), (5, .int x5)]) hx hb dX9_alike_228 hl (by decide) rfl (fun ls hl => ?_)
            refine lv_goto (tgt := 110) hx hb dX9_alike_230 (by decide) ?_
            exact ih110 _ _ _ _ _ _ _ _ _ _ _ _ _ _ _ _ _ _ _ _ _ _ _ _ _ _ _ _ _ _ _ _ _ _ _ _ _ _ _ _ _ _ _ _ _ _ _ _ _ _ _ _ _ _ _ _ _ _ hP hD hS hf (lv_sub hl [4, 5, 6, 7, 8, 9, 1, 0, 3] rfl) hk0 hk1
          · replace hf := ifn k69 hf
            cases hf
            exact hk0 rfl _ _ _ hP hD hS (lv_sub hl [1, 2, 3, 4, 5, 6, 0] rfl)
  have LP74 : ∀ (n : Nat) (x1 : Int32) (x2 : Int32) (x3 : Int32) (c_bonds : Nat → Int32) (c_days : Int32) (c_pence : Nat → Int64) (c_worth : Nat → Int64) (c_other : Nat → Int64) (c_tape : Nat → Int32) (c_taped : Int32) (c_tree : Nat → Int32) (c_moves : Nat → Int32) (c_handMoves : Nat → Int32) (c_moved : Int32) (c_likely : Int32) (c_outOf : Int32) (c_rateNow : Int32) (c_top : Int64) (c_bottom : Int64) (c_spot : Int32) (c_textLong : Int32) (c_fault : Int32) (c_number : Int32) (c_numberAt : Int32) (c_figures : Int32) (c_written : Int32) (c_wanted : Int32) (c_found : Int32) (c_drawnNow : Int32) (c_hold : Nat → Int64) (c_way : Nat → Int64) (c_acts : Nat → Int32) (c_paidAll : Int64) (c_isPlayed : Int32) (c_isOn : Int32) (c_handMoved : Int32) (c_handPaid : Int64) (c_regret : Int64) (c_aside : Nat → Int32) (c_states : Int32) (c_kept : Nat → Int32) (c_keptLong : Nat → Int64) (c_keptAt : Int32) (c_isTaking : Int32) (x4 : Int32) (x5 : Int32) (c_sDay : Int32) (c_sUps : Int32) (c_sUp : Int32) (c_sMarks : Int32) (o4 : Int32) (o_c_sDay : Int32) (o_c_sUps : Int32) (o_c_sUp : Int32) (o_c_sMarks : Int32) (H : Heap) (locs : List Loc) (ls : Array Slot), va_P (dC, dI) vwCl (mW dA ad c_tape c_taped c_tree c_bonds c_moves c_handMoves c_moved c_days c_likely c_outOf c_rateNow c_pence c_top c_bottom c_spot c_textLong c_fault c_number c_numberAt c_figures c_written c_wanted c_found c_drawnNow c_worth c_hold c_way c_acts c_sDay c_sUps c_sUp c_sMarks c_paidAll c_isPlayed c_isOn c_handMoved c_handPaid c_regret c_aside c_other c_states c_kept c_keptLong c_keptAt c_isTaking) H → va_D A (mW dA ad c_tape c_taped c_tree c_bonds c_moves c_handMoves c_moved c_days c_likely c_outOf c_rateNow c_pence c_top c_bottom c_spot c_textLong c_fault c_number c_numberAt c_figures c_written c_wanted c_found c_drawnNow c_worth c_hold c_way c_acts c_sDay c_sUps c_sUp c_sMarks c_paidAll c_isPlayed c_isOn c_handMoved c_handPaid c_regret c_aside c_other c_states c_kept c_keptLong c_keptAt c_isTaking) → va_S A s.heap H locs → lpX9_alike_74 x1 x2 x3 c_bonds c_days c_pence c_worth c_other n x4 x5 c_sDay c_sUps c_sUp c_sMarks = some (o4, o_c_sDay, o_c_sUps, o_c_sUp, o_c_sMarks) → lv_has ls 10 [(0, .ref (ad 0)), (1, .int x1), (2, .int x2), (3, .int x3), (4, .int x4), (5, .int x5)] → (∀ (H : Heap) (locs : List Loc) (ls : Array Slot), va_P (dC, dI) vwCl (mW dA ad c_tape c_taped c_tree c_bonds c_moves c_handMoves c_moved c_days c_likely c_outOf c_rateNow c_pence c_top c_bottom c_spot c_textLong c_fault c_number c_numberAt c_figures c_written c_wanted c_found c_drawnNow c_worth c_hold c_way c_acts o_c_sDay o_c_sUps o_c_sUp o_c_sMarks c_paidAll c_isPlayed c_isOn c_handMoved c_handPaid c_regret c_aside c_other c_states c_kept c_keptLong c_keptAt c_isTaking) H → va_D A (mW dA ad c_tape c_taped c_tree c_bonds c_moves c_handMoves c_moved c_days c_likely c_outOf c_rateNow c_pence c_top c_bottom c_spot c_textLong c_fault c_number c_numberAt c_figures c_written c_wanted c_found c_drawnNow c_worth c_hold c_way c_acts o_c_sDay o_c_sUps o_c_sUp o_c_sMarks c_paidAll c_isPlayed c_isOn c_handMoved c_handPaid c_regret c_aside c_other c_states c_kept c_keptLong c_keptAt c_isTaking) → va_S A s.heap H locs → lv_has ls 10 [(3, .int x3), (4, .int o4)] → W p l e rmX9_alike s m ([.ref (ad 0), .int p1, .int p2, .int p3] : List Value).toArray below meth c H locs 0 0 Q (F0 m 264 ls [])) → W p l e rmX9_alike s m ([.ref (ad 0), .int p1, .int p2, .int p3] : List Value).toArray below meth c H locs 0 0 Q (F0 m 74 ls []) := by
    intro n
    induction n with
    | zero =>
      intro x1 x2 x3 c_bonds c_days c_pence c_worth c_other c_tape c_taped c_tree c_moves c_handMoves c_moved c_likely c_outOf c_rateNow c_top c_bottom c_spot c_textLong c_fault c_number c_numberAt c_figures c_written c_wanted c_found c_drawnNow c_hold c_way c_acts c_paidAll c_isPlayed c_isOn c_handMoved c_handPaid c_regret c_aside c_states c_kept c_keptLong c_keptAt c_isTaking x4 x5 c_sDay c_sUps c_sUp c_sMarks o4 o_c_sDay o_c_sUps o_c_sUp o_c_sMarks H locs ls hP hD hS hf hl hk
      cases hf
    | succ n ih74 =>
      intro x1 x2 x3 c_bonds c_days c_pence c_worth c_other c_tape c_taped c_tree c_moves c_handMoves c_moved c_likely c_outOf c_rateNow c_top c_bottom c_spot c_textLong c_fault c_number c_numberAt c_figures c_written c_wanted c_found c_drawnNow c_hold c_way c_acts c_paidAll c_isPlayed c_isOn c_handMoved c_handPaid c_regret c_aside c_states c_kept c_keptLong c_keptAt c_isTaking x4 x5 c_sDay c_sUps c_sUp c_sMarks o4 o_c_sDay o_c_sUps o_c_sUp o_c_sMarks H locs ls hP hD hS hf hl hk
      rw [lpX9_alike_74.eq_2] at hf
      refine lv_iload hx hb dX9_alike_74 (lv_at hl 5 rfl) ?_
      refine lv_iconst (v := 1) hx hb dX9_alike_76 (by decide) ?_
      refine lv_aload_n hx hb dX9_alike_77 rfl (lv_at hl 0 rfl) ?_
      refine va_get (D := (dC, dI)) (ci := 9) (v := .int c_days) (C := RX9) (T := TX9) (N := 45) hx hb hts (fun w h => gw_mem (inX9 w h)) hown hK.1 hP 0 rfl rfl 7 (by decide) (hts _ (gw_mem wfX9_94)) (fun _ h9 => h9) rfl dX9_alike_78 ?_
      refine lv_ishl hx hb dX9_alike_81 ?_
      refine lv_icmp_ge (tgt := 264) hx hb dX9_alike_82 (by decide) (fun k36 => ?_) (fun k36 => ?_)
      · replace hf := ifp k36 hf
        cases hf
        exact hk _ _ _ hP hD hS (lv_sub hl [3, 4] rfl)
      · replace hf := ifn k36 hf
        refine lv_aload_n hx hb dX9_alike_85 rfl (lv_at hl 0 rfl) ?_
        refine lv_iload_n hx hb dX9_alike_86 rfl (lv_at hl 1 rfl) ?_
        obtain ⟨c_sDay_37, c_sUps_38, c_sUp_39, c_sMarks_40, v41, hf⟩ := bd4_some hf
        refine gcv (va_runV (As := [.int x1]) (rest := []) ⟨hx, hb, hml, hown, hts⟩ (tX9_starts l dC dI dA ad H.size v41) (ccX9_X9_starts hts ⟨Nat.le_of_ble_eq_true rfl, Nat.le_of_ble_eq_true rfl⟩) (gPreV (ci := 9) (q0 := 0) hP hK hD rfl rfl) rfl rfl hl.1 rfl (lv_room (Nat.le_of_ble_eq_true rfl)) dX9_alike_87 ⟨Nat.le_of_ble_eq_true rfl, Nat.le_of_ble_eq_true rfl⟩) hD hS hA (fun H locs hP hD hS => ?_)
        refine lv_aload_n hx hb dX9_alike_90 rfl (lv_at hl 0 rfl) ?_
        obtain ⟨r42, v43, hf⟩ := bd1_some hf
        refine gci (va_runV (As := []) (rest := []) ⟨hx, hb, hml, hown, hts⟩ (tX9_hereNow l dC dI dA ad H.size v43) (ccX9_X9_hereNow hts ⟨Nat.le_of_ble_eq_true rfl, Nat.le_of_ble_eq_true rfl⟩) (gPreV (ci := 9) (q0 := 0) hP hK hD rfl rfl) rfl rfl hl.1 rfl (lv_room (Nat.le_of_ble_eq_true rfl)) dX9_alike_91 ⟨Nat.le_of_ble_eq_true rfl, Nat.le_of_ble_eq_true rfl⟩) hD hS hA (fun H locs hP hD hS => ?_)
        refine lv_istore (lv' := [(6, .int r42), (0, .ref (ad 0)), (1, .int x1), (2, .int x2), (3, .int x3), (4, .int x4), (5, .int x5)]) hx hb dX9_alike_94 hl (by decide) rfl (fun ls hl => ?_)
        refine lv_aload_n hx hb dX9_alike_96 rfl (lv_at hl 1 rfl) ?_
        refine lv_iload_n hx hb dX9_alike_97 rfl (lv_at hl 3 rfl) ?_
        obtain ⟨c_sDay_44, c_sUps_45, c_sUp_46, c_sMarks_47, v48, hf⟩ := bd4_some hf
        refine gcv (va_runV (As := [.int x2]) (rest := []) ⟨hx, hb, hml, hown, hts⟩ (tX9_starts l dC dI dA ad H.size v48) (ccX9_X9_starts hts ⟨Nat.le_of_ble_eq_true rfl, Nat.le_of_ble_eq_true rfl⟩) (gPreV (ci := 9) (q0 := 0) hP hK hD rfl rfl) rfl rfl hl.1 rfl (lv_room (Nat.le_of_ble_eq_true rfl)) dX9_alike_98 ⟨Nat.le_of_ble_eq_true rfl, Nat.le_of_ble_eq_true rfl⟩) hD hS hA (fun H locs hP hD hS => ?_)
        refine lv_aload_n hx hb dX9_alike_101 rfl (lv_at hl 1 rfl) ?_
        obtain ⟨r49, v50, hf⟩ := bd1_some hf
        refine gci (va_runV (As := []) (rest := []) ⟨hx, hb, hml, hown, hts⟩ (tX9_hereNow l dC dI dA ad H.size v50) (ccX9_X9_hereNow hts ⟨Nat.le_of_ble_eq_true rfl, Nat.le_of_ble_eq_true rfl⟩) (gPreV (ci := 9) (q0 := 0) hP hK hD rfl rfl) rfl rfl hl.1 rfl (lv_room (Nat.le_of_ble_eq_true rfl)) dX9_alike_102 ⟨Nat.le_of_ble_eq_true rfl, Nat.le_of_ble_eq_true rfl⟩) hD hS hA (fun H locs hP hD hS => ?_)
        refine lv_istore (lv' := [(7, .int r49), (6, .int r42), (0, .ref (ad 0)), (1, .int x1), (2, .int x2), (3, .int x3), (4, .int x4), (5, .int x5)]) hx hb dX9_alike_105 hl (by decide) rfl (fun ls hl => ?_)
        refine lv_iconst (v := 0) hx hb dX9_alike_107 (by decide) ?_
        refine lv_istore (lv' := [(8, .int 0), (7, .int r49), (6, .int r42), (0, .ref (ad 0)), (1, .int x1), (2, .int x2), (3, .int x3), (4, .int x4), (5, .int x5)]) hx hb dX9_alike_108 hl (by decide) rfl (fun ls hl => ?_)
        obtain ⟨tg51, x52, v53, hf⟩ := bd2_some hf
        refine LP110 FU _ _ _ _ _ _ _ _ _ _ _ _ _ _ _ _ _ _ _ _ _ _ _ _ _ _ _ _ _ _ _ _ _ _ _ _ _ _ _ _ _ _ _ _ _ _ _ _ _ _ _ _ _ _ _ _ _ _ hP hD hS v53 (lv_sub hl [3, 4, 5, 6, 7, 8, 2, 1, 0] rfl) (fun etg51 H locs ls hP hD hS hl => ?_) (fun etg51 H locs ls hP hD hS hl => ?_)
        · replace hf := ifp etg51 hf
          refine lv_goto (tgt := 233) hx hb dX9_alike_150 (by decide) ?_
          refine lv_iload hx hb dX9_alike_233 (lv_at hl 6 rfl) ?_
          refine lv_aload_n hx hb dX9_alike_235 rfl (lv_at hl 0 rfl) ?_
          refine va_get (D := (dC, dI)) (ci := 9) (v := .int c_days) (C := RX9) (T := TX9) (N := 45) hx hb hts (fun w h => gw_mem (inX9 w h)) hown hK.1 hP 0 rfl rfl 7 (by decide) (hts _ (gw_mem wfX9_94)) (fun _ h9 => h9) rfl dX9_alike_236 ?_
          refine lv_icmp_gt (tgt := 254) hx hb dX9_alike_239 (by decide) (fun k54 => ?_) (fun k54 => ?_)
          · replace hf := ifp k54 hf
            refine lv_iload hx hb dX9_alike_254 (lv_at hl 4 rfl) ?_
            refine lv_istore (lv' := [(4, .int x4), (0, .ref (ad 0)), (1, .int x1), (2, .int x2), (3, .int x3), (5, .int x5), (8, .int x52)]) hx hb dX9_alike_256 hl (by decide) rfl (fun ls hl => ?_)
            obtain ⟨w55, ew55⟩ : ∃ y : Int32, y = x5 + 1 := ⟨_, rfl⟩
            replace hf := nm_at hf ew55
            refine lv_iinc (v := w55) (lv' := [(5, .int w55), (4, .int x4), (0, .ref (ad 0)), (1, .int x1), (2, .int x2), (3, .int x3), (8, .int x52)]) hx hb dX9_alike_258 hl (k := 5) rfl (by rw [ew55]; rfl) (by decide) rfl (fun ls hl => ?_)
            refine lv_goto (tgt := 74) hx hb dX9_alike_261 (by decide) ?_
            exact ih74 _ _ _ _ _ _ _ _ _ _ _ _ _ _ _ _ _ _ _ _ _ _ _ _ _ _ _ _ _ _ _ _ _ _ _ _ _ _ _ _ _ _ _ _ _ _ _ _ _ _ _ _ _ _ _ _ _ _ hP hD hS hf (lv_sub hl [2, 3, 4, 5, 1, 0] rfl) hk
          · replace hf := ifn k54 hf
            refine lv_iload hx hb dX9_alike_242 (lv_at hl 6 rfl) ?_
            refine lv_iload hx hb dX9_alike_244 (lv_at hl 4 rfl) ?_
            refine lv_icmp_ge (tgt := 254) hx hb dX9_alike_246 (by decide) (fun k56 => ?_) (fun k56 => ?_)
            · replace hf := ifp k56 hf
              refine lv_iload hx hb dX9_alike_254 (lv_at hl 4 rfl) ?_
              refine lv_istore (lv' := [(4, .int x4), (0, .ref (ad 0)), (1, .int x1), (2, .int x2), (3, .int x3), (5, .int x5), (8, .int x52)]) hx hb dX9_alike_256 hl (by decide) rfl (fun ls hl => ?_)
              obtain ⟨w57, ew57⟩ : ∃ y : Int32, y = x5 + 1 := ⟨_, rfl⟩
              replace hf := nm_at hf ew57
              refine lv_iinc (v := w57) (lv' := [(5, .int w57), (4, .int x4), (0, .ref (ad 0)), (1, .int x1), (2, .int x2), (3, .int x3), (8, .int x52)]) hx hb dX9_alike_258 hl (k := 5) rfl (by rw [ew57]; rfl) (by decide) rfl (fun ls hl => ?_)
              refine lv_goto (tgt := 74) hx hb dX9_alike_261 (by decide) ?_
              exact ih74 _ _ _ _ _ _ _ _ _ _ _ _ _ _ _ _ _ _ _ _ _ _ _ _ _ _ _ _ _ _ _ _ _ _ _ _ _ _ _ _ _ _ _ _ _ _ _ _ _ _ _ _ _ _ _ _ _ _ hP hD hS hf (lv_sub hl [2, 3, 4, 5, 1, 0] rfl) hk
            · replace hf := ifn k56 hf
              refine lv_iload hx hb dX9_alike_249 (lv_at hl 6 rfl) ?_
              refine lv_goto (tgt := 256) hx hb dX9_alike_251 (by decide) ?_
              refine lv_istore (lv' := [(4, .int x52), (0, .ref (ad 0)), (1, .int x1), (2, .int x2), (3, .int x3), (5, .int x5), (8, .int x52)]) hx hb dX9_alike_256 hl (by decide) rfl (fun ls hl => ?_)
              obtain ⟨w58, ew58⟩ : ∃ y : Int32, y = x5 + 1 := ⟨_, rfl⟩
              replace hf := nm_at hf ew58
              refine lv_iinc (v := w58) (lv' := [(5, .int w58), (4, .int x52), (0, .ref (ad 0)), (1, .int x1), (2, .int x2), (3, .int x3), (8, .int x52)]) hx hb dX9_alike_258 hl (k := 5) rfl (by rw [ew58]; rfl) (by decide) rfl (fun ls hl => ?_)
              refine lv_goto (tgt := 74) hx hb dX9_alike_261 (by decide) ?_
              exact ih74 _ _ _ _ _ _ _ _ _ _ _ _ _ _ _ _ _ _ _ _ _ _ _ _ _ _ _ _ _ _ _ _ _ _ _ _ _ _ _ _ _ _ _ _ _ _ _ _ _ _ _ _ _ _ _ _ _ _ hP hD hS hf (lv_sub hl [2, 3, 4, 5, 1, 0] rfl) hk
        · replace hf := ifn (c := tg51 = 0) (by rw [etg51]; decide) hf
          refine lv_iload hx hb dX9_alike_233 (lv_at hl 6 rfl) ?_
          refine lv_aload_n hx hb dX9_alike_235 rfl (lv_at hl 0 rfl) ?_
          refine va_get (D := (dC, dI)) (ci := 9) (v := .int c_days) (C := RX9) (T := TX9) (N := 45) hx hb hts (fun w h => gw_mem (inX9 w h)) hown hK.1 hP 0 rfl rfl 7 (by decide) (hts _ (gw_mem wfX9_94)) (fun _ h9 => h9) rfl dX9_alike_236 ?_
          refine lv_icmp_gt (tgt := 254) hx hb dX9_alike_239 (by decide) (fun k59 => ?_) (fun k59 => ?_)
          · replace hf := ifp k59 hf
            refine lv_iload hx hb dX9_alike_254 (lv_at hl 4 rfl) ?_
            refine lv_istore (lv' := [(4, .int x4), (0, .ref (ad 0)), (1, .int x1), (2, .int x2), (3, .int x3), (5, .int x5), (8, .int x52)]) hx hb dX9_alike_256 hl (by decide) rfl (fun ls hl => ?_)
            obtain ⟨w60, ew60⟩ : ∃ y : Int32, y = x5 + 1 := ⟨_, rfl⟩
            replace hf := nm_at hf ew60
            refine lv_iinc (v := w60) (lv' := [(5, .int w60), (4, .int x4), (0, .ref (ad 0)), (1, .int x1), (2, .int x2), (3, .int x3), (8, .int x52)]) hx hb dX9_alike_258 hl (k := 5) rfl (by rw [ew60]; rfl) (by decide) rfl (fun ls hl => ?_)
            refine lv_goto (tgt := 74) hx hb dX9_alike_261 (by decide) ?_
            exact ih74 _ _ _ _ _ _ _ _ _ _ _ _ _ _ _ _ _ _ _ _ _ _ _ _ _ _ _ _ _ _ _ _ _ _ _ _ _ _ _ _ _ _ _ _ _ _ _ _ _ _ _ _ _ _ _ _ _ _ hP hD hS hf (lv_sub hl [2, 3, 4, 5, 1, 0] rfl) hk
          · replace hf := ifn k59 hf
            refine lv_iload hx hb dX9_alike_242 (lv_at hl 6 rfl) ?_
            refine lv_iload hx hb dX9_alike_244 (lv_at hl 4 rfl) ?_
            refine lv_icmp_ge (tgt := 254) hx hb dX9_alike_246 (by decide) (fun k61 => ?_) (fun k61 => ?_)
            · replace hf := ifp k61 hf
              refine lv_iload hx hb dX9_alike_254 (lv_at hl 4 rfl) ?_
              refine lv_istore (lv' := [(4, .int x4), (0, .ref (ad 0)), (1, .int x1), (2, .int x2), (3, .int x3), (5, .int x5), (8, .int x52)]) hx hb dX9_alike_256 hl (by decide) rfl (fun ls hl => ?_)
              obtain ⟨w62, ew62⟩ : ∃ y : Int32, y = x5 + 1 := ⟨_, rfl⟩
              replace hf := nm_at hf ew62
              refine lv_iinc (v := w62) (lv' := [(5, .int w62), (4, .int x4), (0, .ref (ad 0)), (1, .int x1), (2, .int x2), (3, .int x3), (8, .int x52)]) hx hb dX9_alike_258 hl (k := 5) rfl (by rw [ew62]; rfl) (by decide) rfl (fun ls hl => ?_)
              refine lv_goto (tgt := 74) hx hb dX9_alike_261 (by decide) ?_
              exact ih74 _ _ _ _ _ _ _ _ _ _ _ _ _ _ _ _ _ _ _ _ _ _ _ _ _ _ _ _ _ _ _ _ _ _ _ _ _ _ _ _ _ _ _ _ _ _ _ _ _ _ _ _ _ _ _ _ _ _ hP hD hS hf (lv_sub hl [2, 3, 4, 5, 1, 0] rfl) hk
            · replace hf := ifn k61 hf
              refine lv_iload hx hb dX9_alike_249 (lv_at hl 6 rfl) ?_
              refine lv_goto (tgt := 256) hx hb dX9_alike_251 (by decide) ?_
              refine lv_istore (lv' := [(4, .int x52), (0, .ref (ad 0)), (1, .int x1), (2, .int x2), (3, .int x3), (5, .int x5), (8, .int x52)]) hx hb dX9_alike_256 hl (by decide) rfl (fun ls hl => ?_)
              obtain ⟨w63, ew63⟩ : ∃ y : Int32, y = x5 + 1 := ⟨_, rfl⟩
              replace hf := nm_at hf ew63
              refine lv_iinc (v := w63) (lv' := [(5, .int w63), (4, .int x52), (0, .ref (ad 0)), (1, .int x1), (2, .int x2), (3, .int x3), (8, .int x52)]) hx hb dX9_alike_258 hl (k := 5) rfl (by rw [ew63]; rfl) (by decide) rfl (fun ls hl => ?_)
              refine lv_goto (tgt := 74) hx hb dX9_alike_261 (by decide) ?_
              exact ih74 _ _ _ _ _ _ _ _ _ _ _ _ _ _ _ _ _ _ _ _ _ _ _ _ _ _ _ _ _ _ _ _ _ _ _ _ _ _ _ _ _ _ _ _ _ _ _ _ _ _ _ _ _ _ _ _ _ _ hP hD hS hf (lv_sub hl [2, 3, 4, 5, 1, 0] rfl) hk
  subst hQ
  unfold fX9_alike at hf
  refine lv_iload_n hx hb dX9_alike_0 rfl (lv_at hl 1 rfl) ?_
  obtain ⟨r1, v2, hf⟩ := bd1_some hf
  refine gci0 (va_runS (As := [.int p1]) (rest := []) ⟨hx, hb, hml, hown, hts⟩ (tX9_isBond l dC dI dA s.heap.size v2) (ccX9_X9_isBond hts ⟨Nat.le_of_ble_eq_true rfl, Nat.le_of_ble_eq_true rfl⟩) (gPreS0 hK) rfl rfl hl.1 rfl (lv_room (Nat.le_of_ble_eq_true rfl)) dX9_alike_1 ⟨Nat.le_of_ble_eq_true rfl, Nat.le_of_ble_eq_true rfl⟩) hP hS hA (fun H locs hP hS => ?_)
  refine lv_if_eq (tgt := 24) hx hb dX9_alike_4 (by decide) (fun k3 => ?_) (fun k3 => ?_)
  · replace hf := ifp k3 hf
    refine lv_iconst (v := (-1)) hx hb dX9_alike_24 (by decide) ?_
    cases hf
    exact W.iret hx hb hr (fun t ht _ => gqi hP hD hS ht) hS.2.2 dX9_alike_25
  · replace hf := ifn k3 hf
    refine lv_iload_n hx hb dX9_alike_7 rfl (lv_at hl 2 rfl) ?_
    obtain ⟨r4, v5, hf⟩ := bd1_some hf
    refine gci0 (va_runS (As := [.int p2]) (rest := []) ⟨hx, hb, hml, hown, hts⟩ (tX9_isBond l dC dI dA H.size v5) (ccX9_X9_isBond hts ⟨Nat.le_of_ble_eq_true rfl, Nat.le_of_ble_eq_true rfl⟩) (gPreS0 hK) rfl rfl hl.1 rfl (lv_room (Nat.le_of_ble_eq_true rfl)) dX9_alike_8 ⟨Nat.le_of_ble_eq_true rfl, Nat.le_of_ble_eq_true rfl⟩) hP hS hA (fun H locs hP hS => ?_)
    refine lv_if_eq (tgt := 24) hx hb dX9_alike_11 (by decide) (fun k6 => ?_) (fun k6 => ?_)
    · replace hf := ifp k6 hf
      refine lv_iconst (v := (-1)) hx hb dX9_alike_24 (by decide) ?_
      cases hf
      exact W.iret hx hb hr (fun t ht _ => gqi hP hD hS ht) hS.2.2 dX9_alike_25
    · replace hf := ifn k6 hf
      refine lv_iload_n hx hb dX9_alike_14 rfl (lv_at hl 3 rfl) ?_
      refine lv_i2l hx hb dX9_alike_15 rfl ?_
      refine lv_lconst (v := 0) hx hb dX9_alike_16 rfl ?_
      refine lv_lconst (v := 1) hx hb dX9_alike_17 rfl ?_
      obtain ⟨r7, v8, hf⟩ := bd1_some hf
      refine gci0 (va_runS (As := [.long (Int32.toInt64 p3), .long 0, .long 1]) (rest := []) ⟨hx, hb, hml, hown, hts⟩ (tX9_in l dC dI dA H.size v8) (ccX9_X9_in hts ⟨Nat.le_of_ble_eq_true rfl, Nat.le_of_ble_eq_true rfl⟩) (gPreS0 hK) rfl rfl hl.1 rfl (lv_room (Nat.le_of_ble_eq_true rfl)) dX9_alike_18 ⟨Nat.le_of_ble_eq_true rfl, Nat.le_of_ble_eq_true rfl⟩) hP hS hA (fun H locs hP hS => ?_)
      refine lv_if_ne (tgt := 26) hx hb dX9_alike_21 (by decide) (fun k9 => ?_) (fun k9 => ?_)
      · replace hf := ifn k9 hf
        refine lv_aload_n hx hb dX9_alike_26 rfl (lv_at hl 0 rfl) ?_
        refine lv_iload_n hx hb dX9_alike_27 rfl (lv_at hl 1 rfl) ?_
        obtain ⟨c_days_10, c_likely_11, c_outOf_12, c_rateNow_13, c_pence_14, c_top_15, c_bottom_16, c_worth_17, c_hold_18, c_acts_19, v20, hf⟩ := bd10_some hf
        refine gcv (va_runV (As := [.int p1]) (rest := []) ⟨hx, hb, hml, hown, hts⟩ (tX9_playsNow l dC dI dA ad H.size v20) (ccX9_X9_playsNow hts ⟨Nat.le_of_ble_eq_true rfl, Nat.le_of_ble_eq_true rfl⟩) (gPreV (ci := 9) (q0 := 0) hP hK hD rfl rfl) rfl rfl hl.1 rfl (lv_room (Nat.le_of_ble_eq_true rfl)) dX9_alike_28 ⟨Nat.le_of_ble_eq_true rfl, Nat.le_of_ble_eq_true rfl⟩) hD hS hA (fun H locs hP hD hS => ?_)
        refine lv_iconst (v := 0) hx hb dX9_alike_31 (by decide) ?_
        refine lv_istore (lv' := [(4, .int 0), (0, .ref (ad 0)), (1, .int p1), (2, .int p2), (3, .int p3)]) hx hb dX9_alike_32 hl (by decide) rfl (fun ls hl => ?_)
        obtain ⟨c_other_21, v22, hf⟩ := bd1_some hf
        refine LP34 FU _ _ _ _ _ _ _ _ _ _ _ _ _ _ _ _ _ _ _ _ _ _ _ _ _ _ _ _ _ _ _ _ _ _ _ _ _ _ _ _ _ _ _ _ _ _ _ _ _ _ _ _ _ hP hD hS v22 (lv_sub hl [1, 2, 3, 4, 0] rfl) (fun H locs ls hP hD hS hl => ?_)
        refine lv_aload_n hx hb dX9_alike_62 rfl (lv_at hl 0 rfl) ?_
        refine lv_iload_n hx hb dX9_alike_63 rfl (lv_at hl 2 rfl) ?_
        obtain ⟨c_worth_23, c_hold_24, c_acts_25, v26, hf⟩ := bd3_some hf
        refine gcv (va_runV (As := [.int p2]) (rest := []) ⟨hx, hb, hml, hown, hts⟩ (tX9_plays l dC dI dA ad H.size v26) (ccX9_X9_plays hts ⟨Nat.le_of_ble_eq_true rfl, Nat.le_of_ble_eq_true rfl⟩) (gPreV (ci := 9) (q0 := 0) hP hK hD rfl rfl) rfl rfl hl.1 rfl (lv_room (Nat.le_of_ble_eq_true rfl)) dX9_alike_64 ⟨Nat.le_of_ble_eq_true rfl, Nat.le_of_ble_eq_true rfl⟩) hD hS hA (fun H locs hP hD hS => ?_)
        refine lv_bipush (v := 7) hx hb dX9_alike_67 (by decide) ?_
        refine lv_istore (lv' := [(4, .int 7), (0, .ref (ad 0)), (1, .int p1), (2, .int p2), (3, .int p3)]) hx hb dX9_alike_69 hl (by decide) rfl (fun ls hl => ?_)
        refine lv_iconst (v := 0) hx hb dX9_alike_71 (by decide) ?_
        refine lv_istore (lv' := [(5, .int 0), (4, .int 7), (0, .ref (ad 0)), (1, .int p1), (2, .int p2), (3, .int p3)]) hx hb dX9_alike_72 hl (by decide) rfl (fun ls hl => ?_)
        obtain ⟨x27, c_sDay_28, c_sUps_29, c_sUp_30, c_sMarks_31, v32, hf⟩ := bd5_some hf
        refine LP74 FU _ _ _ _ _ _ _ _ _ _ _ _ _ _ _ _ _ _ _ _ _ _ _ _ _ _ _ _ _ _ _ _ _ _ _ _ _ _ _ _ _ _ _ _ _ _ _ _ _ _ _ _ _ _ _ _ _ _ hP hD hS v32 (lv_sub hl [2, 3, 4, 5, 1, 0] rfl) (fun H locs ls hP hD hS hl => ?_)
        refine lv_iload_n hx hb dX9_alike_264 rfl (lv_at hl 0 rfl) ?_
        refine lv_if_ne (tgt := 283) hx hb dX9_alike_265 (by decide) (fun k33 => ?_) (fun k33 => ?_)
        · replace hf := ifn k33 hf
          refine lv_iload hx hb dX9_alike_283 (lv_at hl 1 rfl) ?_
          refine lv_bipush (v := 7) hx hb dX9_alike_285 (by decide) ?_
          refine lv_icmp_ne (tgt := 295) hx hb dX9_alike_287 (by decide) (fun k34 => ?_) (fun k34 => ?_)
          · replace hf := ifn k34 hf
            refine lv_iload hx hb dX9_alike_295 (lv_at hl 1 rfl) ?_
            cases hf
            exact W.iret hx hb hr (fun t ht _ => gqi hP hD hS ht) hS.2.2 dX9_alike_297
          · replace hf := ifp k34 hf
            refine lv_bipush (v := (-2)) hx hb dX9_alike_290 (by decide) ?_
            refine lv_goto (tgt := 297) hx hb dX9_alike_292 (by decide) ?_
            cases hf
            exact W.iret hx hb hr (fun t ht _ => gqi hP hD hS ht) hS.2.2 dX9_alike_297
        · replace hf := ifp k33 hf
          refine lv_iload hx hb dX9_alike_268 (lv_at hl 1 rfl) ?_
          refine lv_bipush (v := 7) hx hb dX9_alike_270 (by decide) ?_
          refine lv_icmp_ne (tgt := 279) hx hb dX9_alike_272 (by decide) (fun k35 => ?_) (fun k35 => ?_)
          · replace hf := ifn k35 hf
            refine lv_iconst (v := 0) hx hb dX9_alike_279 (by decide) ?_
            refine lv_goto (tgt := 297) hx hb dX9_alike_280 (by decide) ?_
            cases hf
            exact W.iret hx hb hr (fun t ht _ => gqi hP hD hS ht) hS.2.2 dX9_alike_297
          · replace hf := ifp k35 hf
            refine lv_iconst (v := 1) hx hb dX9_alike_275 (by decide) ?_
            refine lv_goto (tgt := 297) hx hb dX9_alike_276 (by decide) ?_
            cases hf
            exact W.iret hx hb hr (fun t ht _ => gqi hP hD hS ht) hS.2.2 dX9_alike_297
      · replace hf := ifp k9 hf
        refine lv_iconst (v := (-1)) hx hb dX9_alike_24 (by decide) ?_
        cases hf
        exact W.iret hx hb hr (fun t ht _ => gqi hP hD hS ht) hS.2.2 dX9_alike_25
def lpX9_best_11 (x1 : Int32) (c_bonds : Nat → Int32) (c_days : Int32) (c_likely : Int32) (c_outOf : Int32) (c_rateNow : Int32) (c_pence : Nat → Int64) : Nat → Int32 → Int64 → Int32 → (Nat → Int64) → (Nat → Int64) → (Nat → Int32) → Option (Int32 × (Nat → Int64) × (Nat → Int64) × (Nat → Int32))
  | 0, _, _, _, _, _, _ => none
  | n + 1, x2, x3, x5, c_worth, c_hold, c_acts => if 3 ≤ x5 then some (x2, c_worth, c_hold, c_acts) else bd4 (fX9_valueOf x5 c_bonds c_days c_likely c_outOf c_rateNow c_pence c_worth c_hold c_acts) (fun r15 c_worth_16 c_hold_17 c_acts_18 => if x2 = (-1) then nm (x5 + 1) (fun w21 => lpX9_best_11 x1 c_bonds c_days c_likely c_outOf c_rateNow c_pence n x5 r15 w21 c_worth_16 c_hold_17 c_acts_18) else if x1 = 0 then if r15 < x3 then nm (x5 + 1) (fun w24 => lpX9_best_11 x1 c_bonds c_days c_likely c_outOf c_rateNow c_pence n x5 r15 w24 c_worth_16 c_hold_17 c_acts_18) else nm (x5 + 1) (fun w25 => lpX9_best_11 x1 c_bonds c_days c_likely c_outOf c_rateNow c_pence n x2 x3 w25 c_worth_16 c_hold_17 c_acts_18) else if x3 < r15 then nm (x5 + 1) (fun w27 => lpX9_best_11 x1 c_bonds c_days c_likely c_outOf c_rateNow c_pence n x5 r15 w27 c_worth_16 c_hold_17 c_acts_18) else nm (x5 + 1) (fun w28 => lpX9_best_11 x1 c_bonds c_days c_likely c_outOf c_rateNow c_pence n x2 x3 w28 c_worth_16 c_hold_17 c_acts_18))
def fX9_best (p1 : Int32) (c_tree : Nat → Int32) (c_bonds : Nat → Int32) (c_days : Int32) (c_likely : Int32) (c_outOf : Int32) (c_rateNow : Int32) (c_pence : Nat → Int64) (c_top : Int64) (c_bottom : Int64) (c_worth : Nat → Int64) (c_hold : Nat → Int64) (c_acts : Nat → Int32) : Option (Int32 × Int32 × Int32 × Int32 × Int32 × (Nat → Int64) × Int64 × Int64 × (Nat → Int64) × (Nat → Int64) × (Nat → Int32)) := bd7 (fX9_takesNow c_tree c_days c_likely c_outOf c_rateNow c_pence c_top c_bottom) (fun c_days_1 c_likely_2 c_outOf_3 c_rateNow_4 c_pence_5 c_top_6 c_bottom_7 => bd4 (lpX9_best_11 p1 c_bonds c_days_1 c_likely_2 c_outOf_3 c_rateNow_4 c_pence_5 FU (-1) 0 0 c_worth c_hold c_acts) (fun x9 c_worth_10 c_hold_11 c_acts_12 => some (x9, c_days_1, c_likely_2, c_outOf_3, c_rateNow_4, c_pence_5, c_top_6, c_bottom_7, c_worth_10, c_hold_11, c_acts_12)))
abbrev rmX9_best : Room := { frames := 7, cells := 0, slots := 0, locals := 184 }
set_option maxHeartbeats 4000000 in
set_option maxRecDepth 100000 in
theorem tX9_best (l : Launch) (dC : Nat → ClassId) (dI : Nat → Nat → Nat) (dA : Nat → ClassId) (ad : Nat → Nat) (sz : Nat) {p1 : Int32} {c_tape : Nat → Int32} {c_taped : Int32} {c_tree : Nat → Int32} {c_bonds : Nat → Int32} {c_moves : Nat → Int32} {c_handMoves : Nat → Int32} {c_moved : Int32} {c_days : Int32} {c_likely : Int32} {c_outOf : Int32} {c_rateNow : Int32} {c_pence : Nat → Int64} {c_top : Int64} {c_bottom : Int64} {c_spot : Int32} {c_textLong : Int32} {c_fault : Int32} {c_number : Int32} {c_numberAt : Int32} {c_figures : Int32} {c_written : Int32} {c_wanted : Int32} {c_found : Int32} {c_drawnNow : Int32} {c_worth : Nat → Int64} {c_hold : Nat → Int64} {c_way : Nat → Int64} {c_acts : Nat → Int32} {c_sDay : Int32} {c_sUps : Int32} {c_sUp : Int32} {c_sMarks : Int32} {c_paidAll : Int64} {c_isPlayed : Int32} {c_isOn : Int32} {c_handMoved : Int32} {c_handPaid : Int64} {c_regret : Int64} {c_aside : Nat → Int32} {c_other : Nat → Int64} {c_states : Int32} {c_kept : Nat → Int32} {c_keptLong : Nat → Int64} {c_keptAt : Int32} {c_isTaking : Int32} {r : Int32} {o_c_days : Int32} {o_c_likely : Int32} {o_c_outOf : Int32} {o_c_rateNow : Int32} {o_c_pence : Nat → Int64} {o_c_top : Int64} {o_c_bottom : Int64} {o_c_worth : Nat → Int64} {o_c_hold : Nat → Int64} {o_c_acts : Nat → Int32} (hf : fX9_best p1 c_tree c_bonds c_days c_likely c_outOf c_rateNow c_pence c_top c_bottom c_worth c_hold c_acts = some (r, o_c_days, o_c_likely, o_c_outOf, o_c_rateNow, o_c_pence, o_c_top, o_c_bottom, o_c_worth, o_c_hold, o_c_acts)) : Met l yX9_best (wq (Cond.code yX9_best cX9_best 8 (some .int))) rmX9_best (gP [.ref (ad 0), .int p1] (dC, dI) dA (mW dA ad c_tape c_taped c_tree c_bonds c_moves c_handMoves c_moved c_days c_likely c_outOf c_rateNow c_pence c_top c_bottom c_spot c_textLong c_fault c_number c_numberAt c_figures c_written c_wanted c_found c_drawnNow c_worth c_hold c_way c_acts c_sDay c_sUps c_sUp c_sMarks c_paidAll c_isPlayed c_isOn c_handMoved c_handPaid c_regret c_aside c_other c_states c_kept c_keptLong c_keptAt c_isTaking) sz) (gQi (dC, dI) r (mW dA ad c_tape c_taped c_tree c_bonds c_moves c_handMoves c_moved o_c_days o_c_likely o_c_outOf o_c_rateNow o_c_pence o_c_top o_c_bottom c_spot c_textLong c_fault c_number c_numberAt c_figures c_written c_wanted c_found c_drawnNow o_c_worth o_c_hold c_way o_c_acts c_sDay c_sUps c_sUp c_sMarks c_paidAll c_isPlayed c_isOn c_handMoved c_handPaid c_regret c_aside c_other c_states c_kept c_keptLong c_keptAt c_isTaking) (va_A (mW dA ad c_tape c_taped c_tree c_bonds c_moves c_handMoves c_moved c_days c_likely c_outOf c_rateNow c_pence c_top c_bottom c_spot c_textLong c_fault c_number c_numberAt c_figures c_written c_wanted c_found c_drawnNow c_worth c_hold c_way c_acts c_sDay c_sUps c_sUp c_sMarks c_paidAll c_isPlayed c_isOn c_handMoved c_handPaid c_regret c_aside c_other c_states c_kept c_keptLong c_keptAt c_isTaking) sz)) 0 0 (va_A (mW dA ad c_tape c_taped c_tree c_bonds c_moves c_handMoves c_moved c_days c_likely c_outOf c_rateNow c_pence c_top c_bottom c_spot c_textLong c_fault c_number c_numberAt c_figures c_written c_wanted c_found c_drawnNow c_worth c_hold c_way c_acts c_sDay c_sUps c_sUp c_sMarks c_paidAll c_isPlayed c_isOn c_handMoved c_handPaid c_regret c_aside c_other c_states c_kept c_keptLong c_keptAt c_isTaking) sz) := by
  refine Met.ofW (cc := cX9_best) (maxL := 8) (ret := (some .int)) (by decide) rfl ?_
  intro p e s m args below meth c s₁ B hml hv
  obtain ⟨rfl, hsz, hP, hK, hD0⟩ := hv
  have hx := B.exec
  have hb := B.bytes
  have hr := B.returns
  have hts := atoms_spec (ws := wq (Cond.code yX9_best cX9_best 8 (some .int))) B.pre
  have hown : s.vm.findClass RX9 = some m.cls := findClass_of_methodNamed B.named
  have hlocks := B.notSynchronized
  clear B
  subst hsz
  have hD := hD0.self (sz := s.heap.size)
  generalize hAe : va_A (mW dA ad c_tape c_taped c_tree c_bonds c_moves c_handMoves c_moved c_days c_likely c_outOf c_rateNow c_pence c_top c_bottom c_spot c_textLong c_fault c_number c_numberAt c_figures c_written c_wanted c_found c_drawnNow c_worth c_hold c_way c_acts c_sDay c_sUps c_sUp c_sMarks c_paidAll c_isPlayed c_isOn c_handMoved c_handPaid c_regret c_aside c_other c_states c_kept c_keptLong c_keptAt c_isTaking) s.heap.size = A at hD ⊢
  have hA : ∀ q : Nat, s.heap.size ≤ q → A q := fun q h => by rw [← hAe]; exact Or.inr h
  clear hAe hD0
  have hS : va_S A s.heap s.heap [] := va_S.rf
  have hl := lv_entry ([.ref (ad 0), .int p1]) (n := 8) (Nat.le_of_ble_eq_true rfl)
  rw [lg_entry_eq]
  generalize (lg_sl ([.ref (ad 0), .int p1]) ++ List.replicate (8 - (lg_sl ([.ref (ad 0), .int p1])).length) Slot.unset).toArray = ls at hl ⊢
  have hl : lv_has ls 8 [(0, .ref (ad 0)), (1, .int p1)] := hl
  change W p l e rmX9_best s m ([.ref (ad 0), .int p1] : List Value).toArray below meth c s.heap [] 0 0 _ _
  generalize hQ : MQ below (gQi (dC, dI) r (mW dA ad c_tape c_taped c_tree c_bonds c_moves c_handMoves c_moved o_c_days o_c_likely o_c_outOf o_c_rateNow o_c_pence o_c_top o_c_bottom c_spot c_textLong c_fault c_number c_numberAt c_figures c_written c_wanted c_found c_drawnNow o_c_worth o_c_hold c_way o_c_acts c_sDay c_sUps c_sUp c_sMarks c_paidAll c_isPlayed c_isOn c_handMoved c_handPaid c_regret c_aside c_other c_states c_kept c_keptLong c_keptAt c_isTaking) A) ([.ref (ad 0), .int p1] : List Value).toArray s 0 0 A = Q
  have LP11 : ∀ (n : Nat) (x1 : Int32) (c_bonds : Nat → Int32) (c_days : Int32) (c_likely : Int32) (c_outOf : Int32) (c_rateNow : Int32) (c_pence : Nat → Int64) (c_tape : Nat → Int32) (c_taped : Int32) (c_tree : Nat → Int32) (c_moves : Nat → Int32) (c_handMoves : Nat → Int32) (c_moved : Int32) (c_top : Int64) (c_bottom : Int64) (c_spot : Int32) (c_textLong : Int32) (c_fault : Int32) (c_number : Int32) (c_numberAt : Int32) (c_figures : Int32) (c_written : Int32) (c_wanted : Int32) (c_found : Int32) (c_drawnNow : Int32) (c_way : Nat → Int64) (c_sDay : Int32) (c_sUps : Int32) (c_sUp : Int32) (c_sMarks : Int32) (c_paidAll : Int64) (c_isPlayed : Int32) (c_isOn : Int32) (c_handMoved : Int32) (c_handPaid : Int64) (c_regret : Int64) (c_aside : Nat → Int32) (c_other : Nat → Int64) (c_states : Int32) (c_kept : Nat → Int32) (c_keptLong : Nat → Int64) (c_keptAt : Int32) (c_isTaking : Int32) (x2 : Int32) (x3 : Int64) (x5 : Int32) (c_worth : Nat → Int64) (c_hold : Nat → Int64) (c_acts : Nat → Int32) (o2 : Int32) (o_c_worth : Nat → Int64) (o_c_hold : Nat → Int64) (o_c_acts : Nat → Int32) (H : Heap) (locs : List Loc) (ls : Array Slot), va_P (dC, dI) vwCl (mW dA ad c_tape c_taped c_tree c_bonds c_moves c_handMoves c_moved c_days c_likely c_outOf c_rateNow c_pence c_top c_bottom c_spot c_textLong c_fault c_number c_numberAt c_figures c_written c_wanted c_found c_drawnNow c_worth c_hold c_way c_acts c_sDay c_sUps c_sUp c_sMarks c_paidAll c_isPlayed c_isOn c_handMoved c_handPaid c_regret c_aside c_other c_states c_kept c_keptLong c_keptAt c_isTaking) H → va_D A (mW dA ad c_tape c_taped c_tree c_bonds c_moves c_handMoves c_moved c_days c_likely c_outOf c_rateNow c_pence c_top c_bottom c_spot c_textLong c_fault c_number c_numberAt c_figures c_written c_wanted c_found c_drawnNow c_worth c_hold c_way c_acts c_sDay c_sUps c_sUp c_sMarks c_paidAll c_isPlayed c_isOn c_handMoved c_handPaid c_regret c_aside c_other c_states c_kept c_keptLong c_keptAt c_isTaking) → va_S A s.heap H locs → lpX9_best_11 x1 c_bonds c_days c_likely c_outOf c_rateNow c_pence n x2 x3 x5 c_worth c_hold c_acts = some (o2, o_c_worth, o_c_hold, o_c_acts) → lv_has ls 8 [(0, .ref (ad 0)), (1, .int x1), (2, .int x2), (3, .long x3), (5, .int x5)] → (∀ (H : Heap) (locs : List Loc) (ls : Array Slot), va_P (dC, dI) vwCl (mW dA ad c_tape c_taped c_tree c_bonds c_moves c_handMoves c_moved c_days c_likely c_outOf c_rateNow c_pence c_top c_bottom c_spot c_textLong c_fault c_number c_numberAt c_figures c_written c_wanted c_found c_drawnNow o_c_worth o_c_hold c_way o_c_acts c_sDay c_sUps c_sUp c_sMarks c_paidAll c_isPlayed c_isOn c_handMoved c_handPaid c_regret c_aside c_other c_states c_kept c_keptLong c_keptAt c_isTaking) H → va_D A (mW dA ad c_tape c_taped c_tree c_bonds c_moves c_handMoves c_moved c_days c_likely c_outOf c_rateNow c_pence c_top c_bottom c_spot c_textLong c_fault c_number c_numberAt c_figures c_written c_wanted c_found c_drawnNow o_c_worth o_c_hold c_way o_c_acts c_sDay c_sUps c_sUp c_sMarks c_paidAll c_isPlayed c_isOn c_handMoved c_handPaid c_regret c_aside c_other c_states c_kept c_keptLong c_keptAt c_isTaking) → va_S A s.heap H locs → lv_has ls 8 [(2, .int o2)] → W p l e rmX9_best s m ([.ref (ad 0), .int p1] : List Value).toArray below meth c H locs 0 0 Q (F0 m 66 ls [])) → W p l e rmX9_best s m ([.ref (ad 0), .int p1] : List Value).toArray below meth c H locs 0 0 Q (F0 m 11 ls []) := by
    intro n
    induction n with
    | zero =>
      intro x1 c_bonds c_days c_likely c_outOf c_rateNow c_pence c_tape c_taped c_tree c_moves c_handMoves c_moved c_top c_bottom c_spot c_textLong c_fault c_number c_numberAt c_figures c_written c_wanted c_found c_drawnNow c_way c_sDay c_sUps c_sUp c_sMarks c_paidAll c_isPlayed c_isOn c_handMoved c_handPaid c_regret c_aside c_other c_states c_kept c_keptLong c_keptAt c_isTaking x2 x3 x5 c_worth c_hold c_acts o2 o_c_worth o_c_hold o_c_acts H locs ls hP hD hS hf hl hk
      cases hf
    | succ n ih11 =>
      intro x1 c_bonds c_days c_likely c_outOf c_rateNow c_pence c_tape c_taped c_tree c_moves c_handMoves c_moved c_top c_bottom c_spot c_textLong c_fault c_number c_numberAt c_figures c_written c_wanted c_found c_drawnNow c_way c_sDay c_sUps c_sUp c_sMarks c_paidAll c_isPlayed c_isOn c_handMoved c_handPaid c_regret c_aside c_other c_states c_kept c_keptLong c_keptAt c_isTaking x2 x3 x5 c_worth c_hold c_acts o2 o_c_worth o_c_hold o_c_acts H locs ls hP hD hS hf hl hk
      rw [lpX9_best_11.eq_2] at hf
      refine lv_iload hx hb dX9_best_11 (lv_at hl 4 rfl) ?_
      refine lv_iconst (v := 3) hx hb dX9_best_13 (by decide) ?_
      refine lv_icmp_ge (tgt := 66) hx hb dX9_best_14 (by decide) (fun k14 => ?_) (fun k14 => ?_)
      · replace hf := ifp k14 hf
        cases hf
        exact hk _ _ _ hP hD hS (lv_sub hl [2] rfl)
      · replace hf := ifn k14 hf
        refine lv_aload_n hx hb dX9_best_17 rfl (lv_at hl 0 rfl) ?_
        refine lv_iload hx hb dX9_best_18 (lv_at hl 4 rfl) ?_
        obtain ⟨r15, c_worth_16, c_hold_17, c_acts_18, v19, hf⟩ := bd4_some hf
        refine gcl (va_runV (As := [.int x5]) (rest := []) ⟨hx, hb, hml, hown, hts⟩ (tX9_valueOf l dC dI dA ad H.size v19) (ccX9_X9_valueOf hts ⟨Nat.le_of_ble_eq_true rfl, Nat.le_of_ble_eq_true rfl⟩) (gPreV (ci := 9) (q0 := 0) hP hK hD rfl rfl) rfl rfl hl.1 rfl (lv_room (Nat.le_of_ble_eq_true rfl)) dX9_best_20 ⟨Nat.le_of_ble_eq_true rfl, Nat.le_of_ble_eq_true rfl⟩) hD hS hA (fun H locs hP hD hS => ?_)
        refine lv_lstore (lv' := [(6, .long r15), (0, .ref (ad 0)), (1, .int x1), (2, .int x2), (3, .long x3), (5, .int x5)]) hx hb dX9_best_23 hl (by decide) rfl (fun ls hl => ?_)
        refine lv_iload_n hx hb dX9_best_25 rfl (lv_at hl 3 rfl) ?_
        refine lv_iconst (v := (-1)) hx hb dX9_best_26 (by decide) ?_
        refine lv_icmp_eq (tgt := 54) hx hb dX9_best_27 (by decide) (fun k20 => ?_) (fun k20 => ?_)
        · replace hf := ifp k20 hf
          refine lv_iload hx hb dX9_best_54 (lv_at hl 5 rfl) ?_
          refine lv_istore_n (lv' := [(2, .int x5), (6, .long r15), (0, .ref (ad 0)), (1, .int x1), (3, .long x3), (5, .int x5)]) hx hb dX9_best_56 rfl hl (by decide) rfl (fun ls hl => ?_)
          refine lv_lload hx hb dX9_best_57 (lv_at hl 1 rfl) ?_
          refine lv_lstore_n (lv' := [(3, .long r15), (2, .int x5), (6, .long r15), (0, .ref (ad 0)), (1, .int x1), (5, .int x5)]) hx hb dX9_best_59 rfl hl (by decide) rfl (fun ls hl => ?_)
          obtain ⟨w21, ew21⟩ : ∃ y : Int32, y = x5 + 1 := ⟨_, rfl⟩
          replace hf := nm_at hf ew21
          refine lv_iinc (v := w21) (lv' := [(5, .int w21), (3, .long r15), (2, .int x5), (6, .long r15), (0, .ref (ad 0)), (1, .int x1)]) hx hb dX9_best_60 hl (k := 5) rfl (by rw [ew21]; rfl) (by decide) rfl (fun ls hl => ?_)
          refine lv_goto (tgt := 11) hx hb dX9_best_63 (by decide) ?_
          exact ih11 _ _ _ _ _ _ _ _ _ _ _ _ _ _ _ _ _ _ _ _ _ _ _ _ _ _ _ _ _ _ _ _ _ _ _ _ _ _ _ _ _ _ _ _ _ _ _ _ _ _ _ _ _ _ _ _ hP hD hS hf (lv_sub hl [4, 5, 2, 1, 0] rfl) hk
        · replace hf := ifn k20 hf
          refine lv_iload_n hx hb dX9_best_30 rfl (lv_at hl 2 rfl) ?_
          refine lv_if_eq (tgt := 44) hx hb dX9_best_31 (by decide) (fun k22 => ?_) (fun k22 => ?_)
          · replace hf := ifp k22 hf
            refine lv_lload hx hb dX9_best_44 (lv_at hl 0 rfl) ?_
            refine lv_lload_n hx hb dX9_best_46 rfl (lv_at hl 4 rfl) ?_
            refine W.lcmp hx hb dX9_best_47 ?_
            refine lv_if_lt (tgt := 54) hx hb dX9_best_48 (by decide) (fun k23 => ?_) (fun k23 => ?_)
            · replace hf := ifp (lc_lt.mp k23) hf
              refine lv_iload hx hb dX9_best_54 (lv_at hl 5 rfl) ?_
              refine lv_istore_n (lv' := [(2, .int x5), (6, .long r15), (0, .ref (ad 0)), (1, .int x1), (3, .long x3), (5, .int x5)]) hx hb dX9_best_56 rfl hl (by decide) rfl (fun ls hl => ?_)
              refine lv_lload hx hb dX9_best_57 (lv_at hl 1 rfl) ?_
              refine lv_lstore_n (lv' := [(3, .long r15), (2, .int x5), (6, .long r15), (0, .ref (ad 0)), (1, .int x1), (5, .int x5)]) hx hb dX9_best_59 rfl hl (by decide) rfl (fun ls hl => ?_)
              obtain ⟨w24, ew24⟩ : ∃ y : Int32, y = x5 + 1 := ⟨_, rfl⟩
              replace hf := nm_at hf ew24
              refine lv_iinc (v := w24) (lv' := [(5, .int w24), (3, .long r15), (2, .int x5), (6, .long r15), (0, .ref (ad 0)), (1, .int x1)]) hx hb dX9_best_60 hl (k := 5) rfl (by rw [ew24]; rfl) (by decide) rfl (fun ls hl => ?_)
              refine lv_goto (tgt := 11) hx hb dX9_best_63 (by decide) ?_
              exact ih11 _ _ _ _ _ _ _ _ _ _ _ _ _ _ _ _ _ _ _ _ _ _ _ _ _ _ _ _ _ _ _ _ _ _ _ _ _ _ _ _ _ _ _ _ _ _ _ _ _ _ _ _ _ _ _ _ hP hD hS hf (lv_sub hl [4, 5, 2, 1, 0] rfl) hk
            · replace hf := ifn (fun h => k23 (lc_lt.mpr h)) hf
              refine lv_goto (tgt := 60) hx hb dX9_best_51 (by decide) ?_
              obtain ⟨w25, ew25⟩ : ∃ y : Int32, y = x5 + 1 := ⟨_, rfl⟩
              replace hf := nm_at hf ew25
              refine lv_iinc (v := w25) (lv' := [(5, .int w25), (6, .long r15), (0, .ref (ad 0)), (1, .int x1), (2, .int x2), (3, .long x3)]) hx hb dX9_best_60 hl (k := 5) rfl (by rw [ew25]; rfl) (by decide) rfl (fun ls hl => ?_)
              refine lv_goto (tgt := 11) hx hb dX9_best_63 (by decide) ?_
              exact ih11 _ _ _ _ _ _ _ _ _ _ _ _ _ _ _ _ _ _ _ _ _ _ _ _ _ _ _ _ _ _ _ _ _ _ _ _ _ _ _ _ _ _ _ _ _ _ _ _ _ _ _ _ _ _ _ _ hP hD hS hf (lv_sub hl [2, 3, 4, 5, 0] rfl) hk
          · replace hf := ifn k22 hf
            refine lv_lload hx hb dX9_best_34 (lv_at hl 0 rfl) ?_
            refine lv_lload_n hx hb dX9_best_36 rfl (lv_at hl 4 rfl) ?_
            refine W.lcmp hx hb dX9_best_37 ?_
            refine lv_if_gt (tgt := 54) hx hb dX9_best_38 (by decide) (fun k26 => ?_) (fun k26 => ?_)
            · replace hf := ifp (lc_gt.mp k26) hf
              refine lv_iload hx hb dX9_best_54 (lv_at hl 5 rfl) ?_
              refine lv_istore_n (lv' := [(2, .int x5), (6, .long r15), (0, .ref (ad 0)), (1, .int x1), (3, .long x3), (5, .int x5)]) hx hb dX9_best_56 rfl hl (by decide) rfl (fun ls hl => ?_)
              refine lv_lload hx hb dX9_best_57 (lv_at hl 1 rfl) ?_
              refine lv_lstore_n (lv' := [(3, .long r15), (2, .int x5), (6, .long r15), (0, .ref (ad 0)), (1, .int x1), (5, .int x5)]) hx hb dX9_best_59 rfl hl (by decide) rfl (fun ls hl => ?_)
              obtain ⟨w27, ew27⟩ : ∃ y : Int32, y = x5 + 1 := ⟨_, rfl⟩
              replace hf := nm_at hf ew27
              refine lv_iinc (v := w27) (lv' := [(5, .int w27), (3, .long r15), (2, .int x5), (6, .long r15), (0, .ref (ad 0)), (1, .int x1)]) hx hb dX9_best_60 hl (k := 5) rfl (by rw [ew27]; rfl) (by decide) rfl (fun ls hl => ?_)
              refine lv_goto (tgt := 11) hx hb dX9_best_63 (by decide) ?_
              exact ih11 _ _ _ _ _ _ _ _ _ _ _ _ _ _ _ _ _ _ _ _ _ _ _ _ _ _ _ _ _ _ _ _ _ _ _ _ _ _ _ _ _ _ _ _ _ _ _ _ _ _ _ _ _ _ _ _ hP hD hS hf (lv_sub hl [4, 5, 2, 1, 0] rfl) hk
            · replace hf := ifn (fun h => k26 (lc_gt.mpr h)) hf
              refine lv_goto (tgt := 60) hx hb dX9_best_41 (by decide) ?_
              obtain ⟨w28, ew28⟩ : ∃ y : Int32, y = x5 + 1 := ⟨_, rfl⟩
              replace hf := nm_at hf ew28
              refine lv_iinc (v := w28) (lv' := [(5, .int w28), (6, .long r15), (0, .ref (ad 0)), (1, .int x1), (2, .int x2), (3, .long x3)]) hx hb dX9_best_60 hl (k := 5) rfl (by rw [ew28]; rfl) (by decide) rfl (fun ls hl => ?_)
              refine lv_goto (tgt := 11) hx hb dX9_best_63 (by decide) ?_
              exact ih11 _ _ _ _ _ _ _ _ _ _ _ _ _ _ _ _ _ _ _ _ _ _ _ _ _ _ _ _ _ _ _ _ _ _ _ _ _ _ _ _ _ _ _ _ _ _ _ _ _ _ _ _ _ _ _ _ hP hD hS hf (lv_sub hl [2, 3, 4, 5, 0] rfl) hk
  subst hQ
  unfold fX9_best at hf
  refine lv_aload_n hx hb dX9_best_0 rfl (lv_at hl 0 rfl) ?_
  obtain ⟨c_days_1, c_likely_2, c_outOf_3, c_rateNow_4, c_pence_5, c_top_6, c_bottom_7, v8, hf⟩ := bd7_some hf
  refine gcv (va_runV (As := []) (rest := []) ⟨hx, hb, hml, hown, hts⟩ (tX9_takesNow l dC dI dA ad s.heap.size v8) (ccX9_X9_takesNow hts ⟨Nat.le_of_ble_eq_true rfl, Nat.le_of_ble_eq_true rfl⟩) (gPreV (ci := 9) (q0 := 0) hP hK hD rfl rfl) rfl rfl hl.1 rfl (lv_room (Nat.le_of_ble_eq_true rfl)) dX9_best_1 ⟨Nat.le_of_ble_eq_true rfl, Nat.le_of_ble_eq_true rfl⟩) hD hS hA (fun H locs hP hD hS => ?_)
  refine lv_iconst (v := (-1)) hx hb dX9_best_4 (by decide) ?_
  refine lv_istore_n (lv' := [(2, .int (-1)), (0, .ref (ad 0)), (1, .int p1)]) hx hb dX9_best_5 rfl hl (by decide) rfl (fun ls hl => ?_)
  refine lv_lconst (v := 0) hx hb dX9_best_6 rfl ?_
  refine lv_lstore_n (lv' := [(3, .long 0), (2, .int (-1)), (0, .ref (ad 0)), (1, .int p1)]) hx hb dX9_best_7 rfl hl (by decide) rfl (fun ls hl => ?_)
  refine lv_iconst (v := 0) hx hb dX9_best_8 (by decide) ?_
  refine lv_istore (lv' := [(5, .int 0), (3, .long 0), (2, .int (-1)), (0, .ref (ad 0)), (1, .int p1)]) hx hb dX9_best_9 hl (by decide) rfl (fun ls hl => ?_)
  obtain ⟨x9, c_worth_10, c_hold_11, c_acts_12, v13, hf⟩ := bd4_some hf
  refine LP11 FU _ _ _ _ _ _ _ _ _ _ _ _ _ _ _ _ _ _ _ _ _ _ _ _ _ _ _ _ _ _ _ _ _ _ _ _ _ _ _ _ _ _ _ _ _ _ _ _ _ _ _ _ _ _ _ _ hP hD hS v13 (lv_sub hl [3, 4, 2, 1, 0] rfl) (fun H locs ls hP hD hS hl => ?_)
  refine lv_iload_n hx hb dX9_best_66 rfl (lv_at hl 0 rfl) ?_
  cases hf
  exact W.iret hx hb hr (fun t ht _ => gqi hP hD hS ht) hS.2.2 dX9_best_67
def fX9_book (p1 : Int32) (p2 : Int32) (p3 : Int32) (c_tree : Nat → Int32) (c_bonds : Nat → Int32) (c_days : Int32) (c_likely : Int32) (c_outOf : Int32) (c_rateNow : Int32) (c_pence : Nat → Int64) (c_top : Int64) (c_bottom : Int64) (c_worth : Nat → Int64) (c_hold : Nat → Int64) (c_acts : Nat → Int32) : Option (Int64 × Int32 × Int32 × Int32 × Int32 × (Nat → Int64) × Int64 × Int64 × (Nat → Int64) × (Nat → Int64) × (Nat → Int32)) := bd1 (fX9_in (Int32.toInt64 p1) (-100) 100) (fun r1 => if r1 = 0 then some ((-9223372036854775808), c_days, c_likely, c_outOf, c_rateNow, c_pence, c_top, c_bottom, c_worth, c_hold, c_acts) else bd1 (fX9_in (Int32.toInt64 p2) (-100) 100) (fun r4 => if r4 = 0 then some ((-9223372036854775808), c_days, c_likely, c_outOf, c_rateNow, c_pence, c_top, c_bottom, c_worth, c_hold, c_acts) else bd1 (fX9_in (Int32.toInt64 p3) (-100) 100) (fun r7 => if r7 = 0 then some ((-9223372036854775808), c_days, c_likely, c_outOf, c_rateNow, c_pence, c_top, c_bottom, c_worth, c_hold, c_acts) else bd7 (fX9_takesNow c_tree c_days c_likely c_outOf c_rateNow c_pence c_top c_bottom) (fun c_days_10 c_likely_11 c_outOf_12 c_rateNow_13 c_pence_14 c_top_15 c_bottom_16 => bd4 (fX9_valueOf 0 c_bonds c_days_10 c_likely_11 c_outOf_12 c_rateNow_13 c_pence_14 c_worth c_hold c_acts) (fun r18 c_worth_19 c_hold_20 c_acts_21 => nm ((Int32.toInt64 p1) * r18) (fun w23 => bd4 (fX9_valueOf 1 c_bonds c_days_10 c_likely_11 c_outOf_12 c_rateNow_13 c_pence_14 c_worth_19 c_hold_20 c_acts_21) (fun r24 c_worth_25 c_hold_26 c_acts_27 => nm (w23 + ((Int32.toInt64 p2) * r24)) (fun w29 => bd4 (fX9_valueOf 2 c_bonds c_days_10 c_likely_11 c_outOf_12 c_rateNow_13 c_pence_14 c_worth_25 c_hold_26 c_acts_27) (fun r30 c_worth_31 c_hold_32 c_acts_33 => some (w29 + ((Int32.toInt64 p3) * r30), c_days_10, c_likely_11, c_outOf_12, c_rateNow_13, c_pence_14, c_top_15, c_bottom_16, c_worth_31, c_hold_32, c_acts_33))))))))))
abbrev rmX9_book : Room := { frames := 7, cells := 0, slots := 0, locals := 184 }
set_option maxHeartbeats 4000000 in
set_option maxRecDepth 100000 in
theorem tX9_book (l : Launch) (dC : Nat → ClassId) (dI : Nat → Nat → Nat) (dA : Nat → ClassId) (ad : Nat → Nat) (sz : Nat) {p1 : Int32} {p2 : Int32} {p3 : Int32} {c_tape : Nat → Int32} {c_taped : Int32} {c_tree : Nat → Int32} {c_bonds : Nat → Int32} {c_moves : Nat → Int32} {c_handMoves : Nat → Int32} {c_moved : Int32} {c_days : Int32} {c_likely : Int32} {c_outOf : Int32} {c_rateNow : Int32} {c_pence : Nat → Int64} {c_top : Int64} {c_bottom : Int64} {c_spot : Int32} {c_textLong : Int32} {c_fault : Int32} {c_number : Int32} {c_numberAt : Int32} {c_figures : Int32} {c_written : Int32} {c_wanted : Int32} {c_found : Int32} {c_drawnNow : Int32} {c_worth : Nat → Int64} {c_hold : Nat → Int64} {c_way : Nat → Int64} {c_acts : Nat → Int32} {c_sDay : Int32} {c_sUps : Int32} {c_sUp : Int32} {c_sMarks : Int32} {c_paidAll : Int64} {c_isPlayed : Int32} {c_isOn : Int32} {c_handMoved : Int32} {c_handPaid : Int64} {c_regret : Int64} {c_aside : Nat → Int32} {c_other : Nat → Int64} {c_states : Int32} {c_kept : Nat → Int32} {c_keptLong : Nat → Int64} {c_keptAt : Int32} {c_isTaking : Int32} {r : Int64} {o_c_days : Int32} {o_c_likely : Int32} {o_c_outOf : Int32} {o_c_rateNow : Int32} {o_c_pence : Nat → Int64} {o_c_top : Int64} {o_c_bottom : Int64} {o_c_worth : Nat → Int64} {o_c_hold : Nat → Int64} {o_c_acts : Nat → Int32} (hf : fX9_book p1 p2 p3 c_tree c_bonds c_days c_likely c_outOf c_rateNow c_pence c_top c_bottom c_worth c_hold c_acts = some (r, o_c_days, o_c_likely, o_c_outOf, o_c_rateNow, o_c_pence, o_c_top, o_c_bottom, o_c_worth, o_c_hold, o_c_acts)) : Met l yX9_book (wq (Cond.code yX9_book cX9_book 6 (some .long))) rmX9_book (gP [.ref (ad 0), .int p1, .int p2, .int p3] (dC, dI) dA (mW dA ad c_tape c_taped c_tree c_bonds c_moves c_handMoves c_moved c_days c_likely c_outOf c_rateNow c_pence c_top c_bottom c_spot c_textLong c_fault c_number c_numberAt c_figures c_written c_wanted c_found c_drawnNow c_worth c_hold c_way c_acts c_sDay c_sUps c_sUp c_sMarks c_paidAll c_isPlayed c_isOn c_handMoved c_handPaid c_regret c_aside c_other c_states c_kept c_keptLong c_keptAt c_isTaking) sz) (gQl (dC, dI) r (mW dA ad c_tape c_taped c_tree c_bonds c_moves c_handMoves c_moved o_c_days o_c_likely o_c_outOf o_c_rateNow o_c_pence o_c_top o_c_bottom c_spot c_textLong c_fault c_number c_numberAt c_figures c_written c_wanted c_found c_drawnNow o_c_worth o_c_hold c_way o_c_acts c_sDay c_sUps c_sUp c_sMarks c_paidAll c_isPlayed c_isOn c_handMoved c_handPaid c_regret c_aside c_other c_states c_kept c_keptLong c_keptAt c_isTaking) (va_A (mW dA ad c_tape c_taped c_tree c_bonds c_moves c_handMoves c_moved c_days c_likely c_outOf c_rateNow c_pence c_top c_bottom c_spot c_textLong c_fault c_number c_numberAt c_figures c_written c_wanted c_found c_drawnNow c_worth c_hold c_way c_acts c_sDay c_sUps c_sUp c_sMarks c_paidAll c_isPlayed c_isOn c_handMoved c_handPaid c_regret c_aside c_other c_states c_kept c_keptLong c_keptAt c_isTaking) sz)) 0 0 (va_A (mW dA ad c_tape c_taped c_tree c_bonds c_moves c_handMoves c_moved c_days c_likely c_outOf c_rateNow c_pence c_top c_bottom c_spot c_textLong c_fault c_number c_numberAt c_figures c_written c_wanted c_found c_drawnNow c_worth c_hold c_way c_acts c_sDay c_sUps c_sUp c_sMarks c_paidAll c_isPlayed c_isOn c_handMoved c_handPaid c_regret c_aside c_other c_states c_kept c_keptLong c_keptAt c_isTaking) sz) := by
  refine Met.ofW (cc := cX9_book) (maxL := 6) (ret := (some .long)) (by decide) rfl ?_
  intro p e s m args below meth c s₁ B hml hv
  obtain ⟨rfl, hsz, hP, hK, hD0⟩ := hv
  have hx := B.exec
  have hb := B.bytes
  have hr := B.returns
  have hts := atoms_spec (ws := wq (Cond.code yX9_book cX9_book 6 (some .long))) B.pre
  have hown : s.vm.findClass RX9 = some m.cls := findClass_of_methodNamed B.named
  have hlocks := B.notSynchronized
  clear B
  subst hsz
  have hD := hD0.self (sz := s.heap.size)
  generalize hAe : va_A (mW dA ad c_tape c_taped c_tree c_bonds c_moves c_handMoves c_moved c_days c_likely c_outOf c_rateNow c_pence c_top c_bottom c_spot c_textLong c_fault c_number c_numberAt c_figures c_written c_wanted c_found c_drawnNow c_worth c_hold c_way c_acts c_sDay c_sUps c_sUp c_sMarks c_paidAll c_isPlayed c_isOn c_handMoved c_handPaid c_regret c_aside c_other c_states c_kept c_keptLong c_keptAt c_isTaking) s.heap.size = A at hD ⊢
  have hA : ∀ q : Nat, s.heap.size ≤ q → A q := fun q h => by rw [← hAe]; exact Or.inr h
  clear hAe hD0
  have hS : va_S A s.heap s.heap [] := va_S.rf
  have hl := lv_entry ([.ref (ad 0), .int p1, .int p2, .int p3]) (n := 6) (Nat.le_of_ble_eq_true rfl)
  rw [lg_entry_eq]
  generalize (lg_sl ([.ref (ad 0), .int p1, .int p2, .int p3]) ++ List.replicate (6 - (lg_sl ([.ref (ad 0), .int p1, .int p2, .int p3])).length) Slot.unset).toArray = ls at hl ⊢
  have hl : lv_has ls 6 [(0, .ref (ad 0)), (1, .int p1), (2, .int p2), (3, .int p3)] := hl
  change W p l e rmX9_book s m ([.ref (ad 0), .int p1, .int p2, .int p3] : List Value).toArray below meth c s.heap [] 0 0 _ _
  unfold fX9_book at hf
  refine lv_iload_n hx hb dX9_book_0 rfl (lv_at hl 1 rfl) ?_
  refine lv_i2l hx hb dX9_book_1 rfl ?_
  refine lv_ldc2 (v := (-100)) hx hb hown (hts _ (gw_mem wkX9_438)) dX9_book_2 ?_
  refine lv_ldc2 (v := 100) hx hb hown (hts _ (gw_mem wkX9_110)) dX9_book_5 ?_
  obtain ⟨r1, v2, hf⟩ := bd1_some hf
  refine gci0 (va_runS (As := [.long (Int32.toInt64 p1), .long (-100), .long 100]) (rest := []) ⟨hx, hb, hml, hown, hts⟩ (tX9_in l dC dI dA s.heap.size v2) (ccX9_X9_in hts ⟨Nat.le_of_ble_eq_true rfl, Nat.le_of_ble_eq_true rfl⟩) (gPreS0 hK) rfl rfl hl.1 rfl (lv_room (Nat.le_of_ble_eq_true rfl)) dX9_book_8 ⟨Nat.le_of_ble_eq_true rfl, Nat.le_of_ble_eq_true rfl⟩) hP hS hA (fun H locs hP hS => ?_)
  refine lv_if_eq (tgt := 42) hx hb dX9_book_11 (by decide) (fun k3 => ?_) (fun k3 => ?_)
  · replace hf := ifp k3 hf
    refine lv_ldc2 (v := (-9223372036854775808)) hx hb hown (hts _ (gw_mem wkX9_364)) dX9_book_42 ?_
    cases hf
    exact W.lret hx hb hr (fun t ht _ => gql hP hD hS ht) hS.2.2 dX9_book_45
  · replace hf := ifn k3 hf
    refine lv_iload_n hx hb dX9_book_14 rfl (lv_at hl 2 rfl) ?_
    refine lv_i2l hx hb dX9_book_15 rfl ?_
    refine lv_ldc2 (v := (-100)) hx hb hown (hts _ (gw_mem wkX9_438)) dX9_book_16 ?_
    refine lv_ldc2 (v := 100) hx hb hown (hts _ (gw_mem wkX9_110)) dX9_book_19 ?_
    obtain ⟨r4, v5, hf⟩ := bd1_some hf
    refine gci0 (va_runS (As := [.long (Int32.toInt64 p2), .long (-100), .long 100]) (rest := []) ⟨hx, hb, hml, hown, hts⟩ (tX9_in l dC dI dA H.size v5) (ccX9_X9_in hts ⟨Nat.le_of_ble_eq_true rfl, Nat.le_of_ble_eq_true rfl⟩) (gPreS0 hK) rfl rfl hl.1 rfl (lv_room (Nat.le_of_ble_eq_true rfl)) dX9_book_22 ⟨Nat.le_of_ble_eq_true rfl, Nat.le_of_ble_eq_true rfl⟩) hP hS hA (fun H locs hP hS => ?_)
    refine lv_if_eq (tgt := 42) hx hb dX9_book_25 (by decide) (fun k6 => ?_) (fun k6 => ?_)
    · replace hf := ifp k6 hf
      refine lv_ldc2 (v := (-9223372036854775808)) hx hb hown (hts _ (gw_mem wkX9_364)) dX9_book_42 ?_
      cases hf
      exact W.lret hx hb hr (fun t ht _ => gql hP hD hS ht) hS.2.2 dX9_book_45
    · replace hf := ifn k6 hf
      refine lv_iload_n hx hb dX9_book_28 rfl (lv_at hl 3 rfl) ?_
      refine lv_i2l hx hb dX9_book_29 rfl ?_
      refine lv_ldc2 (v := (-100)) hx hb hown (hts _ (gw_mem wkX9_438)) dX9_book_30 ?_
      refine lv_ldc2 (v := 100) hx hb hown (hts _ (gw_mem wkX9_110)) dX9_book_33 ?_
      obtain ⟨r7, v8, hf⟩ := bd1_some hf
      refine gci0 (va_runS (As := [.long (Int32.toInt64 p3), .long (-100), .long 100]) (rest := []) ⟨hx, hb, hml, hown, hts⟩ (tX9_in l dC dI dA H.size v8) (ccX9_X9_in hts ⟨Nat.le_of_ble_eq_true rfl, Nat.le_of_ble_eq_true rfl⟩) (gPreS0 hK) rfl rfl hl.1 rfl (lv_room (Nat.le_of_ble_eq_true rfl)) dX9_book_36 ⟨Nat.le_of_ble_eq_true rfl, Nat.le_of_ble_eq_true rfl⟩) hP hS hA (fun H locs hP hS => ?_)
      refine lv_if_ne (tgt := 46) hx hb dX9_book_39 (by decide) (fun k9 => ?_) (fun k9 => ?_)
      · replace hf := ifn k9 hf
        refine lv_aload_n hx hb dX9_book_46 rfl (lv_at hl 0 rfl) ?_
        obtain ⟨c_days_10, c_likely_11, c_outOf_12, c_rateNow_13, c_pence_14, c_top_15, c_bottom_16, v17, hf⟩ := bd7_some hf
        refine gcv (va_runV (As := []) (rest := []) ⟨hx, hb, hml, hown, hts⟩ (tX9_takesNow l dC dI dA ad H.size v17) (ccX9_X9_takesNow hts ⟨Nat.le_of_ble_eq_true rfl, Nat.le_of_ble_eq_true rfl⟩) (gPreV (ci := 9) (q0 := 0) hP hK hD rfl rfl) rfl rfl hl.1 rfl (lv_room (Nat.le_of_ble_eq_true rfl)) dX9_book_47 ⟨Nat.le_of_ble_eq_true rfl, Nat.le_of_ble_eq_true rfl⟩) hD hS hA (fun H locs hP hD hS => ?_)
        refine lv_iload_n hx hb dX9_book_50 rfl (lv_at hl 1 rfl) ?_
        refine lv_i2l hx hb dX9_book_51 rfl ?_
        refine lv_aload_n hx hb dX9_book_52 rfl (lv_at hl 0 rfl) ?_
        refine lv_iconst (v := 0) hx hb dX9_book_53 (by decide) ?_
        obtain ⟨r18, c_worth_19, c_hold_20, c_acts_21, v22, hf⟩ := bd4_some hf
        refine gcl (va_runV (As := [.int 0]) (rest := [.long (Int32.toInt64 p1)]) ⟨hx, hb, hml, hown, hts⟩ (tX9_valueOf l dC dI dA ad H.size v22) (ccX9_X9_valueOf hts ⟨Nat.le_of_ble_eq_true rfl, Nat.le_of_ble_eq_true rfl⟩) (gPreV (ci := 9) (q0 := 0) hP hK hD rfl rfl) rfl rfl hl.1 rfl (lv_room (Nat.le_of_ble_eq_true rfl)) dX9_book_54 ⟨Nat.le_of_ble_eq_true rfl, Nat.le_of_ble_eq_true rfl⟩) hD hS hA (fun H locs hP hD hS => ?_)
        refine lv_lmul hx hb dX9_book_57 ?_
        refine lv_topl (fun w23 ew23 => ?_)
        replace hf := nm_at hf ew23
        refine lv_lstore (lv' := [(4, .long w23), (0, .ref (ad 0)), (1, .int p1), (2, .int p2), (3, .int p3)]) hx hb dX9_book_58 hl (by decide) rfl (fun ls hl => ?_)
        refine lv_lload hx hb dX9_book_60 (lv_at hl 0 rfl) ?_
        refine lv_iload_n hx hb dX9_book_62 rfl (lv_at hl 3 rfl) ?_
        refine lv_i2l hx hb dX9_book_63 rfl ?_
        refine lv_aload_n hx hb dX9_book_64 rfl (lv_at hl 1 rfl) ?_
        refine lv_iconst (v := 1) hx hb dX9_book_65 (by decide) ?_
        obtain ⟨r24, c_worth_25, c_hold_26, c_acts_27, v28, hf⟩ := bd4_some hf
        refine gcl (va_runV (As := [.int 1]) (rest := [.long (Int32.toInt64 p2), .long w23]) ⟨hx, hb, hml, hown, hts⟩ (tX9_valueOf l dC dI dA ad H.size v28) (ccX9_X9_valueOf hts ⟨Nat.le_of_ble_eq_true rfl, Nat.le_of_ble_eq_true rfl⟩) (gPreV (ci := 9) (q0 := 0) hP hK hD rfl rfl) rfl rfl hl.1 rfl (lv_room (Nat.le_of_ble_eq_true rfl)) dX9_book_66 ⟨Nat.le_of_ble_eq_true rfl, Nat.le_of_ble_eq_true rfl⟩) hD hS hA (fun H locs hP hD hS => ?_)
        refine lv_lmul hx hb dX9_book_69 ?_
        refine lv_ladd hx hb dX9_book_70 ?_
        refine lv_topl (fun w29 ew29 => ?_)
        replace hf := nm_at hf ew29
        refine lv_lstore (lv' := [(4, .long w29), (0, .ref (ad 0)), (1, .int p1), (2, .int p2), (3, .int p3)]) hx hb dX9_book_71 hl (by decide) rfl (fun ls hl => ?_)
        refine lv_lload hx hb dX9_book_73 (lv_at hl 0 rfl) ?_
        refine lv_iload_n hx hb dX9_book_75 rfl (lv_at hl 4 rfl) ?_
        refine lv_i2l hx hb dX9_book_76 rfl ?_
        refine lv_aload_n hx hb dX9_book_77 rfl (lv_at hl 1 rfl) ?_
        refine lv_iconst (v := 2) hx hb dX9_book_78 (by decide) ?_
        obtain ⟨r30, c_worth_31, c_hold_32, c_acts_33, v34, hf⟩ := bd4_some hf
        refine gcl (va_runV (As := [.int 2]) (rest := [.long (Int32.toInt64 p3), .long w29]) ⟨hx, hb, hml, hown, hts⟩ (tX9_valueOf l dC dI dA ad H.size v34) (ccX9_X9_valueOf hts ⟨Nat.le_of_ble_eq_true rfl, Nat.le_of_ble_eq_true rfl⟩) (gPreV (ci := 9) (q0 := 0) hP hK hD rfl rfl) rfl rfl hl.1 rfl (lv_room (Nat.le_of_ble_eq_true rfl)) dX9_book_79 ⟨Nat.le_of_ble_eq_true rfl, Nat.le_of_ble_eq_true rfl⟩) hD hS hA (fun H locs hP hD hS => ?_)
        refine lv_lmul hx hb dX9_book_82 ?_
        refine lv_ladd hx hb dX9_book_83 ?_
        cases hf
        exact W.lret hx hb hr (fun t ht _ => gql hP hD hS ht) hS.2.2 dX9_book_84
      · replace hf := ifp k9 hf
        refine lv_ldc2 (v := (-9223372036854775808)) hx hb hown (hts _ (gw_mem wkX9_364)) dX9_book_42 ?_
        cases hf
        exact W.lret hx hb hr (fun t ht _ => gql hP hD hS ht) hS.2.2 dX9_book_45
def fX9_keeps (p1 : Int32) (c_kept : Nat → Int32) (c_keptAt : Int32) (c_isTaking : Int32) : Option (Int32 × (Nat → Int32) × Int32) := if c_isTaking = 0 then nm (c_keptAt + 1) (fun w2 => og (okI (w2 - 1) 1424) (some (c_kept (Int32.toNatClampNeg (w2 - 1)), c_kept, w2))) else og (okI c_keptAt 1424) (nm (upd c_kept (Int32.toNatClampNeg c_keptAt) p1) (fun w5 => nm (c_keptAt + 1) (fun w6 => og (okI (w6 - 1) 1424) (some (w5 (Int32.toNatClampNeg (w6 - 1)), w5, w6)))))
abbrev rmX9_keeps : Room := { frames := 0, cells := 0, slots := 0, locals := 0 }
set_option maxHeartbeats 4000000 in
set_option maxRecDepth 100000 in
theorem tX9_keeps (l : Launch) (dC : Nat → ClassId) (dI : Nat → Nat → Nat) (dA : Nat → ClassId) (ad : Nat → Nat) (sz : Nat) {p1 : Int32} {c_tape : Nat → Int32} {c_taped : Int32} {c_tree : Nat → Int32} {c_bonds : Nat → Int32} {c_moves : Nat → Int32} {c_handMoves : Nat → Int32} {c_moved : Int32} {c_days : Int32} {c_likely : Int32} {c_outOf : Int32} {c_rateNow : Int32} {c_pence : Nat → Int64} {c_top : Int64} {c_bottom : Int64} {c_spot : Int32} {c_textLong : Int32} {c_fault : Int32} {c_number : Int32} {c_numberAt : Int32} {c_figures : Int32} {c_written : Int32} {c_wanted : Int32} {c_found : Int32} {c_drawnNow : Int32} {c_worth : Nat → Int64} {c_hold : Nat → Int64} {c_way : Nat → Int64} {c_acts : Nat → Int32} {c_sDay : Int32} {c_sUps : Int32} {c_sUp : Int32} {c_sMarks : Int32} {c_paidAll : Int64} {c_isPlayed : Int32} {c_isOn : Int32} {c_handMoved : Int32} {c_handPaid : Int64} {c_regret : Int64} {c_aside : Nat → Int32} {c_other : Nat → Int64} {c_states : Int32} {c_kept : Nat → Int32} {c_keptLong : Nat → Int64} {c_keptAt : Int32} {c_isTaking : Int32} {r : Int32} {o_c_kept : Nat → Int32} {o_c_keptAt : Int32} (hf : fX9_keeps p1 c_kept c_keptAt c_isTaking = some (r, o_c_kept, o_c_keptAt)) : Met l yX9_keeps (wq (Cond.code yX9_keeps cX9_keeps 2 (some .int))) rmX9_keeps (gP [.ref (ad 0), .int p1] (dC, dI) dA (mW dA ad c_tape c_taped c_tree c_bonds c_moves c_handMoves c_moved c_days c_likely c_outOf c_rateNow c_pence c_top c_bottom c_spot c_textLong c_fault c_number c_numberAt c_figures c_written c_wanted c_found c_drawnNow c_worth c_hold c_way c_acts c_sDay c_sUps c_sUp c_sMarks c_paidAll c_isPlayed c_isOn c_handMoved c_handPaid c_regret c_aside c_other c_states c_kept c_keptLong c_keptAt c_isTaking) sz) (gQi (dC, dI) r (mW dA ad c_tape c_taped c_tree c_bonds c_moves c_handMoves c_moved c_days c_likely c_outOf c_rateNow c_pence c_top c_bottom c_spot c_textLong c_fault c_number c_numberAt c_figures c_written c_wanted c_found c_drawnNow c_worth c_hold c_way c_acts c_sDay c_sUps c_sUp c_sMarks c_paidAll c_isPlayed c_isOn c_handMoved c_handPaid c_regret c_aside c_other c_states o_c_kept c_keptLong o_c_keptAt c_isTaking) (va_A (mW dA ad c_tape c_taped c_tree c_bonds c_moves c_handMoves c_moved c_days c_likely c_outOf c_rateNow c_pence c_top c_bottom c_spot c_textLong c_fault c_number c_numberAt c_figures c_written c_wanted c_found c_drawnNow c_worth c_hold c_way c_acts c_sDay c_sUps c_sUp c_sMarks c_paidAll c_isPlayed c_isOn c_handMoved c_handPaid c_regret c_aside c_other c_states c_kept c_keptLong c_keptAt c_isTaking) sz)) 0 0 (va_A (mW dA ad c_tape c_taped c_tree c_bonds c_moves c_handMoves c_moved c_days c_likely c_outOf c_rateNow c_pence c_top c_bottom c_spot c_textLong c_fault c_number c_numberAt c_figures c_written c_wanted c_found c_drawnNow c_worth c_hold c_way c_acts c_sDay c_sUps c_sUp c_sMarks c_paidAll c_isPlayed c_isOn c_handMoved c_handPaid c_regret c_aside c_other c_states c_kept c_keptLong c_keptAt c_isTaking) sz) := by
  refine Met.ofW (cc := cX9_keeps) (maxL := 2) (ret := (some .int)) (by decide) rfl ?_
  intro p e s m args below meth c s₁ B hml hv
  obtain ⟨rfl, hsz, hP, hK, hD0⟩ := hv
  have hx := B.exec
  have hb := B.bytes
  have hr := B.returns
  have hts := atoms_spec (ws := wq (Cond.code yX9_keeps cX9_keeps 2 (some .int))) B.pre
  have hown : s.vm.findClass RX9 = some m.cls := findClass_of_methodNamed B.named
  have hlocks := B.notSynchronized
  clear B
  subst hsz
  have hD := hD0.self (sz := s.heap.size)
  generalize hAe : va_A (mW dA ad c_tape c_taped c_tree c_bonds c_moves c_handMoves c_moved c_days c_likely c_outOf c_rateNow c_pence c_top c_bottom c_spot c_textLong c_fault c_number c_numberAt c_figures c_written c_wanted c_found c_drawnNow c_worth c_hold c_way c_acts c_sDay c_sUps c_sUp c_sMarks c_paidAll c_isPlayed c_isOn c_handMoved c_handPaid c_regret c_aside c_other c_states c_kept c_keptLong c_keptAt c_isTaking) s.heap.size = A at hD ⊢
  have hA : ∀ q : Nat, s.heap.size ≤ q → A q := fun q h => by rw [← hAe]; exact Or.inr h
  clear hAe hD0
  have hS : va_S A s.heap s.heap [] := va_S.rf
  have hl := lv_entry ([.ref (ad 0), .int p1]) (n := 2) (Nat.le_of_ble_eq_true rfl)
  rw [lg_entry_eq]
  generalize (lg_sl ([.ref (ad 0), .int p1]) ++ List.replicate (2 - (lg_sl ([.ref (ad 0), .int p1])).length) Slot.unset).toArray = ls at hl ⊢
  have hl : lv_has ls 2 [(0, .ref (ad 0)), (1, .int p1)] := hl
  change W p l e rmX9_keeps s m ([.ref (ad 0), .int p1] : List Value).toArray below meth c s.heap [] 0 0 _ _
  unfold fX9_keeps at hf
  refine lv_aload_n hx hb dX9_keeps_0 rfl (lv_at hl 0 rfl) ?_
  refine va_get (D := (dC, dI)) (ci := 9) (v := .int c_isTaking) (C := RX9) (T := TX9) (N := 45) hx hb hts (fun w h => gw_mem (inX9 w h)) hown hK.1 hP 0 rfl rfl 44 (by decide) (hts _ (gw_mem wfX9_440)) (fun _ h9 => h9) rfl dX9_keeps_1 ?_
  refine lv_if_eq (tgt := 17) hx hb dX9_keeps_4 (by decide) (fun k1 => ?_) (fun k1 => ?_)
  · replace hf := ifp k1 hf
    refine lv_aload_n hx hb dX9_keeps_17 rfl (lv_at hl 0 rfl) ?_
    refine lv_aload_n hx hb dX9_keeps_18 rfl (lv_at hl 0 rfl) ?_
    refine va_get (D := (dC, dI)) (ci := 9) (v := .int c_keptAt) (C := RX9) (T := TX9) (N := 45) hx hb hts (fun w h => gw_mem (inX9 w h)) hown hK.1 hP 0 rfl rfl 43 (by decide) (hts _ (gw_mem wfX9_443)) (fun _ h9 => h9) rfl dX9_keeps_19 ?_
    refine lv_iconst (v := 1) hx hb dX9_keeps_22 (by decide) ?_
    refine lv_iadd hx hb dX9_keeps_23 ?_
    refine lv_topi (fun w2 ew2 => ?_)
    replace hf := nm_at hf ew2
    refine va_put (D := (dC, dI)) (ci := 9) (v := .int w2) (ty := .int) (C := RX9) (T := TX9) (N := 45) hx hb hts (fun w h => gw_mem (inX9 w h)) tyX9 tyX9_ok nmX9 hown hK.1 hP hD hS 0 rfl rfl 43 (by decide) (hts _ (gw_mem wfX9_443)) (fun _ h9 => h9) rfl (by decide +kernel) rfl rfl (Nat.le_of_ble_eq_true rfl) dX9_keeps_24 (fun H locs hP hD hS => ?_)
    have hP : va_P (dC, dI) vwCl (mW dA ad c_tape c_taped c_tree c_bonds c_moves c_handMoves c_moved c_days c_likely c_outOf c_rateNow c_pence c_top c_bottom c_spot c_textLong c_fault c_number c_numberAt c_figures c_written c_wanted c_found c_drawnNow c_worth c_hold c_way c_acts c_sDay c_sUps c_sUp c_sMarks c_paidAll c_isPlayed c_isOn c_handMoved c_handPaid c_regret c_aside c_other c_states c_kept c_keptLong w2 c_isTaking) H := hP
    have hD : va_D A (mW dA ad c_tape c_taped c_tree c_bonds c_moves c_handMoves c_moved c_days c_likely c_outOf c_rateNow c_pence c_top c_bottom c_spot c_textLong c_fault c_number c_numberAt c_figures c_written c_wanted c_found c_drawnNow c_worth c_hold c_way c_acts c_sDay c_sUps c_sUp c_sMarks c_paidAll c_isPlayed c_isOn c_handMoved c_handPaid c_regret c_aside c_other c_states c_kept c_keptLong w2 c_isTaking) := hD
    refine lv_aload_n hx hb dX9_keeps_27 rfl (lv_at hl 0 rfl) ?_
    refine va_get (D := (dC, dI)) (ci := 9) (v := .ref (ad 13)) (C := RX9) (T := TX9) (N := 45) hx hb hts (fun w h => gw_mem (inX9 w h)) hown hK.1 hP 0 rfl rfl 41 (by decide) (hts _ (gw_mem wfX9_48)) (fun _ h9 => h9) rfl dX9_keeps_28 ?_
    refine lv_aload_n hx hb dX9_keeps_31 rfl (lv_at hl 0 rfl) ?_
    refine va_get (D := (dC, dI)) (ci := 9) (v := .int w2) (C := RX9) (T := TX9) (N := 45) hx hb hts (fun w h => gw_mem (inX9 w h)) hown hK.1 hP 0 rfl rfl 43 (by decide) (hts _ (gw_mem wfX9_443)) (fun _ h9 => h9) rfl dX9_keeps_32 ?_
    refine lv_iconst (v := 1) hx hb dX9_keeps_35 (by decide) ?_
    refine lv_isub hx hb dX9_keeps_36 ?_
    obtain ⟨h3, hf⟩ := og_some hf
    refine va_iald hx hb hK.1 hP 13 0 rfl rfl (okI_in h3) dX9_keeps_37 ?_
    cases hf
    exact W.iret hx hb hr (fun t ht _ => gqi hP hD hS ht) hS.2.2 dX9_keeps_38
  · replace hf := ifn k1 hf
    refine lv_aload_n hx hb dX9_keeps_7 rfl (lv_at hl 0 rfl) ?_
    refine va_get (D := (dC, dI)) (ci := 9) (v := .ref (ad 13)) (C := RX9) (T := TX9) (N := 45) hx hb hts (fun w h => gw_mem (inX9 w h)) hown hK.1 hP 0 rfl rfl 41 (by decide) (hts _ (gw_mem wfX9_48)) (fun _ h9 => h9) rfl dX9_keeps_8 ?_
    refine lv_aload_n hx hb dX9_keeps_11 rfl (lv_at hl 0 rfl) ?_
    refine va_get (D := (dC, dI)) (ci := 9) (v := .int c_keptAt) (C := RX9) (T := TX9) (N := 45) hx hb hts (fun w h => gw_mem (inX9 w h)) hown hK.1 hP 0 rfl rfl 43 (by decide) (hts _ (gw_mem wfX9_443)) (fun _ h9 => h9) rfl dX9_keeps_12 ?_
    refine lv_iload_n hx hb dX9_keeps_15 rfl (lv_at hl 1 rfl) ?_
    obtain ⟨h4, hf⟩ := og_some hf
    obtain ⟨w5, ew5⟩ : ∃ y : Nat → Int32, y = upd c_kept (Int32.toNatClampNeg c_keptAt) p1 := ⟨_, rfl⟩
    replace hf := nm_at hf ew5
    refine va_iast hx hb hK.1 hP hD hS 13 0 rfl rfl (okI_in h4) dX9_keeps_16 (fun H locs hP hD hS => ?_)
    have hP : va_P (dC, dI) vwCl (mW dA ad c_tape c_taped c_tree c_bonds c_moves c_handMoves c_moved c_days c_likely c_outOf c_rateNow c_pence c_top c_bottom c_spot c_textLong c_fault c_number c_numberAt c_figures c_written c_wanted c_found c_drawnNow c_worth c_hold c_way c_acts c_sDay c_sUps c_sUp c_sMarks c_paidAll c_isPlayed c_isOn c_handMoved c_handPaid c_regret c_aside c_other c_states w5 c_keptLong c_keptAt c_isTaking) H := by rw [ew5]; exact hP
    have hD : va_D A (mW dA ad c_tape c_taped c_tree c_bonds c_moves c_handMoves c_moved c_days c_likely c_outOf c_rateNow c_pence c_top c_bottom c_spot c_textLong c_fault c_number c_numberAt c_figures c_written c_wanted c_found c_drawnNow c_worth c_hold c_way c_acts c_sDay c_sUps c_sUp c_sMarks c_paidAll c_isPlayed c_isOn c_handMoved c_handPaid c_regret c_aside c_other c_states w5 c_keptLong c_keptAt c_isTaking) := by rw [ew5]; exact hD
    refine lv_aload_n hx hb dX9_keeps_17 rfl (lv_at hl 0 rfl) ?_
    refine lv_aload_n hx hb dX9_keeps_18 rfl (lv_at hl 0 rfl) ?_
    refine va_get (D := (dC, dI)) (ci := 9) (v := .int c_keptAt) (C := RX9) (T := TX9) (N := 45) hx hb hts (fun w h => gw_mem (inX9 w h)) hown hK.1 hP 0 rfl rfl 43 (by decide) (hts _ (gw_mem wfX9_443)) (fun _ h9 => h9) rfl dX9_keeps_19 ?_
    refine lv_iconst (v := 1) hx hb dX9_keeps_22 (by decide) ?_
    refine lv_iadd hx hb dX9_keeps_23 ?_
    refine lv_topi (fun w6 ew6 => ?_)
    replace hf := nm_at hf ew6
    refine va_put (D := (dC, dI)) (ci := 9) (v := .int w6) (ty := .int) (C := RX9) (T := TX9) (N := 45) hx hb hts (fun w h => gw_mem (inX9 w h)) tyX9 tyX9_ok nmX9 hown hK.1 hP hD hS 0 rfl rfl 43 (by decide) (hts _ (gw_mem wfX9_443)) (fun _ h9 => h9) rfl (by decide +kernel) rfl rfl (Nat.le_of_ble_eq_true rfl) dX9_keeps_24 (fun H locs hP hD hS => ?_)
    have hP : va_P (dC, dI) vwCl (mW dA ad c_tape c_taped c_tree c_bonds c_moves c_handMoves c_moved c_days c_likely c_outOf c_rateNow c_pence c_top c_bottom c_spot c_textLong c_fault c_number c_numberAt c_figures c_written c_wanted c_found c_drawnNow c_worth c_hold c_way c_acts c_sDay c_sUps c_sUp c_sMarks c_paidAll c_isPlayed c_isOn c_handMoved c_handPaid c_regret c_aside c_other c_states w5 c_keptLong w6 c_isTaking) H := hP
    have hD : va_D A (mW dA ad c_tape c_taped c_tree c_bonds c_moves c_handMoves c_moved c_days c_likely c_outOf c_rateNow c_pence c_top c_bottom c_spot c_textLong c_fault c_number c_numberAt c_figures c_written c_wanted c_found c_drawnNow c_worth c_hold c_way c_acts c_sDay c_sUps c_sUp c_sMarks c_paidAll c_isPlayed c_isOn c_handMoved c_handPaid c_regret c_aside c_other c_states w5 c_keptLong w6 c_isTaking) := hD
    refine lv_aload_n hx hb dX9_keeps_27 rfl (lv_at hl 0 rfl) ?_
    refine va_get (D := (dC, dI)) (ci := 9) (v := .ref (ad 13)) (C := RX9) (T := TX9) (N := 45) hx hb hts (fun w h => gw_mem (inX9 w h)) hown hK.1 hP 0 rfl rfl 41 (by decide) (hts _ (gw_mem wfX9_48)) (fun _ h9 => h9) rfl dX9_keeps_28 ?_
    refine lv_aload_n hx hb dX9_keeps_31 rfl (lv_at hl 0 rfl) ?_
    refine va_get (D := (dC, dI)) (ci := 9) (v := .int w6) (C := RX9) (T := TX9) (N := 45) hx hb hts (fun w h => gw_mem (inX9 w h)) hown hK.1 hP 0 rfl rfl 43 (by decide) (hts _ (gw_mem wfX9_443)) (fun _ h9 => h9) rfl dX9_keeps_32 ?_
    refine lv_iconst (v := 1) hx hb dX9_keeps_35 (by decide) ?_
    refine lv_isub hx hb dX9_keeps_36 ?_
    obtain ⟨h7, hf⟩ := og_some hf
    refine va_iald hx hb hK.1 hP 13 0 rfl rfl (okI_in h7) dX9_keeps_37 ?_
    cases hf
    exact W.iret hx hb hr (fun t ht _ => gqi hP hD hS ht) hS.2.2 dX9_keeps_38
theorem ccX9_X9_keeps {R : Room} {s : State} {args : Array Value} {c0 : Cond} (ht : ∀ w ∈ wq c0, w.before args s = true) (hR : rmX9_keeps.frames + 1 ≤ R.frames ∧ 8 + (2 + 11) + rmX9_keeps.locals ≤ R.locals) : CallW R s args RX9 RX9 449 yX9_keeps cX9_keeps 2 (some .int) (wq (.code yX9_keeps cX9_keeps 2 (some .int))) rmX9_keeps 0 0 1 := gCW 1 ht wcX9_keeps wmX9_449 wiX9_keeps weX9_keeps wnX9 (by decide +kernel) rfl rfl hR
def lpX9_keepsAll_19 (x1 : Int32) (c_isTaking : Int32) : Nat → Int32 → (Nat → Int32) → (Nat → Int32) → Int32 → Option ((Nat → Int32) × (Nat → Int32) × Int32)
  | 0, _, _, _, _ => none
  | n + 1, x2, c_tree, c_kept, c_keptAt => if 18 ≤ x2 then some (c_tree, c_kept, c_keptAt) else og (okI x2 18) (bd3 (fX9_keeps (c_tree (Int32.toNatClampNeg x2)) c_kept c_keptAt c_isTaking) (fun r314 c_kept_315 c_keptAt_316 => og (okI x2 18) (nm (upd c_tree (Int32.toNatClampNeg x2) r314) (fun w319 => nm (x2 + 1) (fun w320 => lpX9_keepsAll_19 x1 c_isTaking n w320 w319 c_kept_315 c_keptAt_316)))))
def lpX9_keepsAll_49 (x1 : Int32) (c_isTaking : Int32) : Nat → Int32 → (Nat → Int32) → (Nat → Int32) → Int32 → Option ((Nat → Int32) × (Nat → Int32) × Int32)
  | 0, _, _, _, _ => none
  | n + 1, x2, c_bonds, c_kept, c_keptAt => if 135 ≤ x2 then some (c_bonds, c_kept, c_keptAt) else og (okI x2 135) (bd3 (fX9_keeps (c_bonds (Int32.toNatClampNeg x2)) c_kept c_keptAt c_isTaking) (fun r305 c_kept_306 c_keptAt_307 => og (okI x2 135) (nm (upd c_bonds (Int32.toNatClampNeg x2) r305) (fun w310 => nm (x2 + 1) (fun w311 => lpX9_keepsAll_49 x1 c_isTaking n w311 w310 c_kept_306 c_keptAt_307)))))
def lpX9_keepsAll_80 (x1 : Int32) (c_isTaking : Int32) : Nat → Int32 → (Nat → Int32) → (Nat → Int32) → (Nat → Int32) → Int32 → Option ((Nat → Int32) × (Nat → Int32) × (Nat → Int32) × Int32)
  | 0, _, _, _, _, _ => none
  | n + 1, x2, c_moves, c_handMoves, c_kept, c_keptAt => if 6 ≤ x2 then some (c_moves, c_handMoves, c_kept, c_keptAt) else og (okI x2 6) (bd3 (fX9_keeps (c_moves (Int32.toNatClampNeg x2)) c_kept c_keptAt c_isTaking) (fun r289 c_kept_290 c_keptAt_291 => og (okI x2 6) (nm (upd c_moves (Int32.toNatClampNeg x2) r289) (fun w294 => og (okI x2 6) (bd3 (fX9_keeps (c_handMoves (Int32.toNatClampNeg x2)) c_kept_290 c_keptAt_291 c_isTaking) (fun r296 c_kept_297 c_keptAt_298 => og (okI x2 6) (nm (upd c_handMoves (Int32.toNatClampNeg x2) r296) (fun w301 => nm (x2 + 1) (fun w302 => lpX9_keepsAll_80 x1 c_isTaking n w302 w294 w301 c_kept_297 c_keptAt_298)))))))))
def fX9_keepsAll (p1 : Int32) (c_tree : Nat → Int32) (c_bonds : Nat → Int32) (c_moves : Nat → Int32) (c_handMoves : Nat → Int32) (c_moved : Int32) (c_isPlayed : Int32) (c_isOn : Int32) (c_handMoved : Int32) (c_handPaid : Int64) (c_regret : Int64) (c_states : Int32) (c_kept : Nat → Int32) (c_keptLong : Nat → Int64) (c_keptAt : Int32) (c_isTaking : Int32) : Option ((Nat → Int32) × (Nat → Int32) × (Nat → Int32) × (Nat → Int32) × Int32 × Int32 × Int32 × Int32 × Int64 × Int64 × (Nat → Int32) × (Nat → Int64) × Int32 × Int32) := og (boB p1) (nm (178 * c_states) (fun w2 => bd3 (lpX9_keepsAll_19 p1 p1 FU 0 c_tree c_kept w2) (fun c_tree_3 c_kept_4 c_keptAt_5 => bd3 (lpX9_keepsAll_49 p1 p1 FU 0 c_bonds c_kept_4 c_keptAt_5) (fun c_bonds_7 c_kept_8 c_keptAt_9 => bd4 (lpX9_keepsAll_80 p1 p1 FU 0 c_moves c_handMoves c_kept_8 c_keptAt_9) (fun c_moves_11 c_handMoves_12 c_kept_13 c_keptAt_14 => bd3 (fX9_keeps c_moved c_kept_13 c_keptAt_14 p1) (fun r16 c_kept_17 c_keptAt_18 => bd3 (fX9_keeps c_handMoved c_kept_17 c_keptAt_18 p1) (fun r20 c_kept_21 c_keptAt_22 => if c_isPlayed = 0 then bd3 (fX9_keeps 0 c_kept_21 c_keptAt_22 p1) (fun r25 c_kept_26 c_keptAt_27 => if r25 = 1 then if c_isOn = 0 then bd3 (fX9_keeps 0 c_kept_26 c_keptAt_27 p1) (fun r94 c_kept_95 c_keptAt_96 => if r94 = 1 then if p1 = 0 then og (okI (2 * c_states) 16) (nm (c_keptLong (Int32.toNatClampNeg (2 * c_states))) (fun w114 => og (okI ((2 * c_states) + 1) 16) (nm (c_keptLong (Int32.toNatClampNeg ((2 * c_states) + 1))) (fun w116 => some (c_tree_3, c_bonds_7, c_moves_11, c_handMoves_12, r16, 1, 1, r20, w114, w116, c_kept_95, c_keptLong, c_keptAt_96, p1))))) else og (okI (2 * c_states) 16) (nm (vp_updL c_keptLong (Int32.toNatClampNeg (2 * c_states)) c_handPaid) (fun w118 => og (okI ((2 * c_states) + 1) 16) (nm (vp_updL w118 (Int32.toNatClampNeg ((2 * c_states) + 1)) c_regret) (fun w120 => og (okI (2 * c_states) 16) (nm (w120 (Int32.toNatClampNeg (2 * c_states))) (fun w122 => og (okI ((2 * c_states) + 1) 16) (nm (w120 (Int32.toNatClampNeg ((2 * c_states) + 1))) (fun w124 => some (c_tree_3, c_bonds_7, c_moves_11, c_handMoves_12, r16, 1, 1, r20, w122, w124, c_kept_95, w120, c_keptAt_96, p1))))))))) else if p1 = 0 then og (okI (2 * c_states) 16) (nm (c_keptLong (Int32.toNatClampNeg (2 * c_states))) (fun w101 => og (okI ((2 * c_states) + 1) 16) (nm (c_keptLong (Int32.toNatClampNeg ((2 * c_states) + 1))) (fun w103 => some (c_tree_3, c_bonds_7, c_moves_11, c_handMoves_12, r16, 1, 0, r20, w101, w103, c_kept_95, c_keptLong, c_keptAt_96, p1))))) else og (okI (2 * c_states) 16) (nm (vp_updL c_keptLong (Int32.toNatClampNeg (2 * c_states)) c_handPaid) (fun w105 => og (okI ((2 * c_states) + 1) 16) (nm (vp_updL w105 (Int32.toNatClampNeg ((2 * c_states) + 1)) c_regret) (fun w107 => og (okI (2 * c_states) 16) (nm (w107 (Int32.toNatClampNeg (2 * c_states))) (fun w109 => og (okI ((2 * c_states) + 1) 16) (nm (w107 (Int32.toNatClampNeg ((2 * c_states) + 1))) (fun w111 => some (c_tree_3, c_bonds_7, c_moves_11, c_handMoves_12, r16, 1, 0, r20, w109, w111, c_kept_95, w107, c_keptAt_96, p1)))))))))) else bd3 (fX9_keeps 1 c_kept_26 c_keptAt_27 p1) (fun r125 c_kept_126 c_keptAt_127 => if r125 = 1 then if p1 = 0 then og (okI (2 * c_states) 16) (nm (c_keptLong (Int32.toNatClampNeg (2 * c_states))) (fun w145 => og (okI ((2 * c_states) + 1) 16) (nm (c_keptLong (Int32.toNatClampNeg ((2 * c_states) + 1))) (fun w147 => some (c_tree_3, c_bonds_7, c_moves_11, c_handMoves_12, r16, 1, 1, r20, w145, w147, c_kept_126, c_keptLong, c_keptAt_127, p1))))) else og (okI (2 * c_states) 16) (nm (vp_updL c_keptLong (Int32.toNatClampNeg (2 * c_states)) c_handPaid) (fun w149 => og (okI ((2 * c_states) + 1) 16) (nm (vp_updL w149 (Int32.toNatClampNeg ((2 * c_states) + 1)) c_regret) (fun w151 => og (okI (2 * c_states) 16) (nm (w151 (Int32.toNatClampNeg (2 * c_states))) (fun w153 => og (okI ((2 * c_states) + 1) 16) (nm (w151 (Int32.toNatClampNeg ((2 * c_states) + 1))) (fun w155 => some (c_tree_3, c_bonds_7, c_moves_11, c_handMoves_12, r16, 1, 1, r20, w153, w155, c_kept_126, w151, c_keptAt_127, p1))))))))) else if p1 = 0 then og (okI (2 * c_states) 16) (nm (c_keptLong (Int32.toNatClampNeg (2 * c_states))) (fun w132 => og (okI ((2 * c_states) + 1) 16) (nm (c_keptLong (Int32.toNatClampNeg ((2 * c_states) + 1))) (fun w134 => some (c_tree_3, c_bonds_7, c_moves_11, c_handMoves_12, r16, 1, 0, r20, w132, w134, c_kept_126, c_keptLong, c_keptAt_127, p1))))) else og (okI (2 * c_states) 16) (nm (vp_updL c_keptLong (Int32.toNatClampNeg (2 * c_states)) c_handPaid) (fun w136 => og (okI ((2 * c_states) + 1) 16) (nm (vp_updL w136 (Int32.toNatClampNeg ((2 * c_states) + 1)) c_regret) (fun w138 => og (okI (2 * c_states) 16) (nm (w138 (Int32.toNatClampNeg (2 * c_states))) (fun w140 => og (okI ((2 * c_states) + 1) 16) (nm (w138 (Int32.toNatClampNeg ((2 * c_states) + 1))) (fun w142 => some (c_tree_3, c_bonds_7, c_moves_11, c_handMoves_12, r16, 1, 0, r20, w140, w142, c_kept_126, w138, c_keptAt_127, p1)))))))))) else if c_isOn = 0 then bd3 (fX9_keeps 0 c_kept_26 c_keptAt_27 p1) (fun r31 c_kept_32 c_keptAt_33 => if r31 = 1 then if p1 = 0 then og (okI (2 * c_states) 16) (nm (c_keptLong (Int32.toNatClampNeg (2 * c_states))) (fun w51 => og (okI ((2 * c_states) + 1) 16) (nm (c_keptLong (Int32.toNatClampNeg ((2 * c_states) + 1))) (fun w53 => some (c_tree_3, c_bonds_7, c_moves_11, c_handMoves_12, r16, 0, 1, r20, w51, w53, c_kept_32, c_keptLong, c_keptAt_33, p1))))) else og (okI (2 * c_states) 16) (nm (vp_updL c_keptLong (Int32.toNatClampNeg (2 * c_states)) c_handPaid) (fun w55 => og (okI ((2 * c_states) + 1) 16) (nm (vp_updL w55 (Int32.toNatClampNeg ((2 * c_states) + 1)) c_regret) (fun w57 => og (okI (2 * c_states) 16) (nm (w57 (Int32.toNatClampNeg (2 * c_states))) (fun w59 => og (okI ((2 * c_states) + 1) 16) (nm (w57 (Int32.toNatClampNeg ((2 * c_states) + 1))) (fun w61 => some (c_tree_3, c_bonds_7, c_moves_11, c_handMoves_12, r16, 0, 1, r20, w59, w61, c_kept_32, w57, c_keptAt_33, p1))))))))) else if p1 = 0 then og (okI (2 * c_states) 16) (nm (c_keptLong (Int32.toNatClampNeg (2 * c_states))) (fun w38 => og (okI ((2 * c_states) + 1) 16) (nm (c_keptLong (Int32.toNatClampNeg ((2 * c_states) + 1))) (fun w40 => some (c_tree_3, c_bonds_7, c_moves_11, c_handMoves_12, r16, 0, 0, r20, w38, w40, c_kept_32, c_keptLong, c_keptAt_33, p1))))) else og (okI (2 * c_states) 16) (nm (vp_updL c_keptLong (Int32.toNatClampNeg (2 * c_states)) c_handPaid) (fun w42 => og (okI ((2 * c_states) + 1) 16) (nm (vp_updL w42 (Int32.toNatClampNeg ((2 * c_states) + 1)) c_regret) (fun w44 => og (okI (2 * c_states) 16) (nm (w44 (Int32.toNatClampNeg (2 * c_states))) (fun w46 => og (okI ((2 * c_states) + 1) 16) (nm (w44 (Int32.toNatClampNeg ((2 * c_states) + 1))) (fun w48 => some (c_tree_3, c_bonds_7, c_moves_11, c_handMoves_12, r16, 0, 0, r20, w46, w48, c_kept_32, w44, c_keptAt_33, p1)))))))))) else bd3 (fX9_keeps 1 c_kept_26 c_keptAt_27 p1) (fun r62 c_kept_63 c_keptAt_64 => if r62 = 1 then if p1 = 0 then og (okI (2 * c_states) 16) (nm (c_keptLong (Int32.toNatClampNeg (2 * c_states))) (fun w82 => og (okI ((2 * c_states) + 1) 16) (nm (c_keptLong (Int32.toNatClampNeg ((2 * c_states) + 1))) (fun w84 => some (c_tree_3, c_bonds_7, c_moves_11, c_handMoves_12, r16, 0, 1, r20, w82, w84, c_kept_63, c_keptLong, c_keptAt_64, p1))))) else og (okI (2 * c_states) 16) (nm (vp_updL c_keptLong (Int32.toNatClampNeg (2 * c_states)) c_handPaid) (fun w86 => og (okI ((2 * c_states) + 1) 16) (nm (vp_updL w86 (Int32.toNatClampNeg ((2 * c_states) + 1)) c_regret) (fun w88 => og (okI (2 * c_states) 16) (nm (w88 (Int32.toNatClampNeg (2 * c_states))) (fun w90 => og (okI ((2 * c_states) + 1) 16) (nm (w88 (Int32.toNatClampNeg ((2 * c_states) + 1))) (fun w92 => some (c_tree_3, c_bonds_7, c_moves_11, c_handMoves_12, r16, 0, 1, r20, w90, w92, c_kept_63, w88, c_keptAt_64, p1))))))))) else if p1 = 0 then og (okI (2 * c_states) 16) (nm (c_keptLong (Int32.toNatClampNeg (2 * c_states))) (fun w69 => og (okI ((2 * c_states) + 1) 16) (nm (c_keptLong (Int32.toNatClampNeg ((2 * c_states) + 1))) (fun w71 => some (c_tree_3, c_bonds_7, c_moves_11, c_handMoves_12, r16, 0, 0, r20, w69, w71, c_kept_63, c_keptLong, c_keptAt_64, p1))))) else og (okI (2 * c_states) 16) (nm (vp_updL c_keptLong (Int32.toNatClampNeg (2 * c_states)) c_handPaid) (fun w73 => og (okI ((2 * c_states) + 1) 16) (nm (vp_updL w73 (Int32.toNatClampNeg ((2 * c_states) + 1)) c_regret) (fun w75 => og (okI (2 * c_states) 16) (nm (w75 (Int32.toNatClampNeg (2 * c_states))) (fun w77 => og (okI ((2 * c_states) + 1) 16) (nm (w75 (Int32.toNatClampNeg ((2 * c_states) + 1))) (fun w79 => some (c_tree_3, c_bonds_7, c_moves_11, c_handMoves_12, r16, 0, 0, r20, w77, w79, c_kept_63, w75, c_keptAt_64, p1))))))))))) else bd3 (fX9_keeps 1 c_kept_21 c_keptAt_22 p1) (fun r156 c_kept_157 c_keptAt_158 => if r156 = 1 then if c_isOn = 0 then bd3 (fX9_keeps 0 c_kept_157 c_keptAt_158 p1) (fun r225 c_kept_226 c_keptAt_227 => if r225 = 1 then if p1 = 0 then og (okI (2 * c_states) 16) (nm (c_keptLong (Int32.toNatClampNeg (2 * c_states))) (fun w245 => og (okI ((2 * c_states) + 1) 16) (nm (c_keptLong (Int32.toNatClampNeg ((2 * c_states) + 1))) (fun w247 => some (c_tree_3, c_bonds_7, c_moves_11, c_handMoves_12, r16, 1, 1, r20, w245, w247, c_kept_226, c_keptLong, c_keptAt_227, p1))))) else og (okI (2 * c_states) 16) (nm (vp_updL c_keptLong (Int32.toNatClampNeg (2 * c_states)) c_handPaid) (fun w249 => og (okI ((2 * c_states) + 1) 16) (nm (vp_updL w249 (Int32.toNatClampNeg ((2 * c_states) + 1)) c_regret) (fun w251 => og (okI (2 * c_states) 16) (nm (w251 (Int32.toNatClampNeg (2 * c_states))) (fun w253 => og (okI ((2 * c_states) + 1) 16) (nm (w251 (Int32.toNatClampNeg ((2 * c_states) + 1))) (fun w255 => some (c_tree_3, c_bonds_7, c_moves_11, c_handMoves_12, r16, 1, 1, r20, w253, w255, c_kept_226, w251, c_keptAt_227, p1))))))))) else if p1 = 0 then og (okI (2 * c_states) 16) (nm (c_keptLong (Int32.toNatClampNeg (2 * c_states))) (fun w232 => og (okI ((2 * c_states) + 1) 16) (nm (c_keptLong (Int32.toNatClampNeg ((2 * c_states) + 1))) (fun w234 => some (c_tree_3, c_bonds_7, c_moves_11, c_handMoves_12, r16, 1, 0, r20, w232, w234, c_kept_226, c_keptLong, c_keptAt_227, p1))))) else og (okI (2 * c_states) 16) (nm (vp_updL c_keptLong (Int32.toNatClampNeg (2 * c_states)) c_handPaid) (fun w236 => og (okI ((2 * c_states) + 1) 16) (nm (vp_updL w236 (Int32.toNatClampNeg ((2 * c_states) + 1)) c_regret) (fun w238 => og (okI (2 * c_states) 16) (nm (w238 (Int32.toNatClampNeg (2 * c_states))) (fun w240 => og (okI ((2 * c_states) + 1) 16) (nm (w238 (Int32.toNatClampNeg ((2 * c_states) + 1))) (fun w242 => some (c_tree_3, c_bonds_7, c_moves_11, c_handMoves_12, r16, 1, 0, r20, w240, w242, c_kept_226, w238, c_keptAt_227, p1)))))))))) else bd3 (fX9_keeps 1 c_kept_157 c_keptAt_158 p1) (fun r256 c_kept_257 c_keptAt_258 => if r256 = 1 then if p1 = 0 then og (okI (2 * c_states) 16) (nm (c_keptLong (Int32.toNatClampNeg (2 * c_states))) (fun w276 => og (okI ((2 * c_states) + 1) 16) (nm (c_keptLong (Int32.toNatClampNeg ((2 * c_states) + 1))) (fun w278 => some (c_tree_3, c_bonds_7, c_moves_11, c_handMoves_12, r16, 1, 1, r20, w276, w278, c_kept_257, c_keptLong, c_keptAt_258, p1))))) else og (okI (2 * c_states) 16) (nm (vp_updL c_keptLong (Int32.toNatClampNeg (2 * c_states)) c_handPaid) (fun w280 => og (okI ((2 * c_states) + 1) 16) (nm (vp_updL w280 (Int32.toNatClampNeg ((2 * c_states) + 1)) c_regret) (fun w282 => og (okI (2 * c_states) 16) (nm (w282 (Int32.toNatClampNeg (2 * c_states))) (fun w284 => og (okI ((2 * c_states) + 1) 16) (nm (w282 (Int32.toNatClampNeg ((2 * c_states) + 1))) (fun w286 => some (c_tree_3, c_bonds_7, c_moves_11, c_handMoves_12, r16, 1, 1, r20, w284, w286, c_kept_257, w282, c_keptAt_258, p1))))))))) else if p1 = 0 then og (okI (2 * c_states) 16) (nm (c_keptLong (Int32.toNatClampNeg (2 * c_states))) (fun w263 => og (okI ((2 * c_states) + 1) 16) (nm (c_keptLong (Int32.toNatClampNeg ((2 * c_states) + 1))) (fun w265 => some (c_tree_3, c_bonds_7, c_moves_11, c_handMoves_12, r16, 1, 0, r20, w263, w265, c_kept_257, c_keptLong, c_keptAt_258, p1))))) else og (okI (2 * c_states) 16) (nm (vp_updL c_keptLong (Int32.toNatClampNeg (2 * c_states)) c_handPaid) (fun w267 => og (okI ((2 * c_states) + 1) 16) (nm (vp_updL w267 (Int32.toNatClampNeg ((2 * c_states) + 1)) c_regret) (fun w269 => og (okI (2 * c_states) 16) (nm (w269 (Int32.toNatClampNeg (2 * c_states))) (fun w271 => og (okI ((2 * c_states) + 1) 16) (nm (w269 (Int32.toNatClampNeg ((2 * c_states) + 1))) (fun w273 => some (c_tree_3, c_bonds_7, c_moves_11, c_handMoves_12, r16, 1, 0, r20, w271, w273, c_kept_257, w269, c_keptAt_258, p1)))))))))) else if c_isOn = 0 then bd3 (fX9_keeps 0 c_kept_157 c_keptAt_158 p1) (fun r162 c_kept_163 c_keptAt_164 => if r162 = 1 then if p1 = 0 then og (okI (2 * c_states) 16) (nm (c_keptLong (Int32.toNatClampNeg (2 * c_states))) (fun w182 => og (okI ((2 * c_states) + 1) 16) (nm (c_keptLong (Int32.toNatClampNeg ((2 * c_states) + 1))) (fun w184 => some (c_tree_3, c_bonds_7, c_moves_11, c_handMoves_12, r16, 0, 1, r20, w182, w184, c_kept_163, c_keptLong, c_keptAt_164, p1))))) else og (okI (2 * c_states) 16) (nm (vp_updL c_keptLong (Int32.toNatClampNeg (2 * c_states)) c_handPaid) (fun w186 => og (okI ((2 * c_states) + 1) 16) (nm (vp_updL w186 (Int32.toNatClampNeg ((2 * c_states) + 1)) c_regret) (fun w188 => og (okI (2 * c_states) 16) (nm (w188 (Int32.toNatClampNeg (2 * c_states))) (fun w190 => og (okI ((2 * c_states) + 1) 16) (nm (w188 (Int32.toNatClampNeg ((2 * c_states) + 1))) (fun w192 => some (c_tree_3, c_bonds_7, c_moves_11, c_handMoves_12, r16, 0, 1, r20, w190, w192, c_kept_163, w188, c_keptAt_164, p1))))))))) else if p1 = 0 then og (okI (2 * c_states) 16) (nm (c_keptLong (Int32.toNatClampNeg (2 * c_states))) (fun w169 => og (okI ((2 * c_states) + 1) 16) (nm (c_keptLong (Int32.toNatClampNeg ((2 * c_states) + 1))) (fun w171 => some (c_tree_3, c_bonds_7, c_moves_11, c_handMoves_12, r16, 0, 0, r20, w169, w171, c_kept_163, c_keptLong, c_keptAt_164, p1))))) else og (okI (2 * c_states) 16) (nm (vp_updL c_keptLong (Int32.toNatClampNeg (2 * c_states)) c_handPaid) (fun w173 => og (okI ((2 * c_states) + 1) 16) (nm (vp_updL w173 (Int32.toNatClampNeg ((2 * c_states) + 1)) c_regret) (fun w175 => og (okI (2 * c_states) 16) (nm (w175 (Int32.toNatClampNeg (2 * c_states))) (fun w177 => og (okI ((2 * c_states) + 1) 16) (nm (w175 (Int32.toNatClampNeg ((2 * c_states) + 1))) (fun w179 => some (c_tree_3, c_bonds_7, c_moves_11, c_handMoves_12, r16, 0, 0, r20, w177, w179, c_kept_163, w175, c_keptAt_164, p1)))))))))) else bd3 (fX9_keeps 1 c_kept_157 c_keptAt_158 p1) (fun r193 c_kept_194 c_keptAt_195 => if r193 = 1 then if p1 = 0 then og (okI (2 * c_states) 16) (nm (c_keptLong (Int32.toNatClampNeg (2 * c_states))) (fun w213 => og (okI ((2 * c_states) + 1) 16) (nm (c_keptLong (Int32.toNatClampNeg ((2 * c_states) + 1))) (fun w215 => some (c_tree_3, c_bonds_7, c_moves_11, c_handMoves_12, r16, 0, 1, r20, w213, w215, c_kept_194, c_keptLong, c_keptAt_195, p1))))) else og (okI (2 * c_states) 16) (nm (vp_updL c_keptLong (Int32.toNatClampNeg (2 * c_states)) c_handPaid) (fun w217 => og (okI ((2 * c_states) + 1) 16) (nm (vp_updL w217 (Int32.toNatClampNeg ((2 * c_states) + 1)) c_regret) (fun w219 => og (okI (2 * c_states) 16) (nm (w219 (Int32.toNatClampNeg (2 * c_states))) (fun w221 => og (okI ((2 * c_states) + 1) 16) (nm (w219 (Int32.toNatClampNeg ((2 * c_states) + 1))) (fun w223 => some (c_tree_3, c_bonds_7, c_moves_11, c_handMoves_12, r16, 0, 1, r20, w221, w223, c_kept_194, w219, c_keptAt_195, p1))))))))) else if p1 = 0 then og (okI (2 * c_states) 16) (nm (c_keptLong (Int32.toNatClampNeg (2 * c_states))) (fun w200 => og (okI ((2 * c_states) + 1) 16) (nm (c_keptLong (Int32.toNatClampNeg ((2 * c_states) + 1))) (fun w202 => some (c_tree_3, c_bonds_7, c_moves_11, c_handMoves_12, r16, 0, 0, r20, w200, w202, c_kept_194, c_keptLong, c_keptAt_195, p1))))) else og (okI (2 * c_states) 16) (nm (vp_updL c_keptLong (Int32.toNatClampNeg (2 * c_states)) c_handPaid) (fun w204 => og (okI ((2 * c_states) + 1) 16) (nm (vp_updL w204 (Int32.toNatClampNeg ((2 * c_states) + 1)) c_regret) (fun w206 => og (okI (2 * c_states) 16) (nm (w206 (Int32.toNatClampNeg (2 * c_states))) (fun w208 => og (okI ((2 * c_states) + 1) 16) (nm (w206 (Int32.toNatClampNeg ((2 * c_states) + 1))) (fun w210 => some (c_tree_3, c_bonds_7, c_moves_11, c_handMoves_12, r16, 0, 0, r20, w208, w210, c_kept_194, w206, c_keptAt_195, p1))))))))))))))))))
abbrev rmX9_keepsAll : Room := { frames := 1, cells := 0, slots := 0, locals := 21 }
set_option maxHeartbeats 4000000 in
set_option maxRecDepth 100000 in
theorem tX9_keepsAll (l : Launch) (dC : Nat → ClassId) (dI : Nat → Nat → Nat) (dA : Nat → ClassId) (ad : Nat → Nat) (sz : Nat) {p1 : Int32} {c_tape : Nat → Int32} {c_taped : Int32} {c_tree : Nat → Int32} {c_bonds : Nat → Int32} {c_moves : Nat → Int32} {c_handMoves : Nat → Int32} {c_moved : Int32} {c_days : Int32} {c_likely : Int32} {c_outOf : Int32} {c_rateNow : Int32} {c_pence : Nat → Int64} {c_top : Int64} {c_bottom : Int64} {c_spot : Int32} {c_textLong : Int32} {c_fault : Int32} {c_number : Int32} {c_numberAt : Int32} {c_figures : Int32} {c_written : Int32} {c_wanted : Int32} {c_found : Int32} {c_drawnNow : Int32} {c_worth : Nat → Int64} {c_hold : Nat → Int64} {c_way : Nat → Int64} {c_acts : Nat → Int32} {c_sDay : Int32} {c_sUps : Int32} {c_sUp : Int32} {c_sMarks : Int32} {c_paidAll : Int64} {c_isPlayed : Int32} {c_isOn : Int32} {c_handMoved : Int32} {c_handPaid : Int64} {c_regret : Int64} {c_aside : Nat → Int32} {c_other : Nat → Int64} {c_states : Int32} {c_kept : Nat → Int32} {c_keptLong : Nat → Int64} {c_keptAt : Int32} {c_isTaking : Int32} {o_c_tree : Nat → Int32} {o_c_bonds : Nat → Int32} {o_c_moves : Nat → Int32} {o_c_handMoves : Nat → Int32} {o_c_moved : Int32} {o_c_isPlayed : Int32} {o_c_isOn : Int32} {o_c_handMoved : Int32} {o_c_handPaid : Int64} {o_c_regret : Int64} {o_c_kept : Nat → Int32} {o_c_keptLong : Nat → Int64} {o_c_keptAt : Int32} {o_c_isTaking : Int32} (hf : fX9_keepsAll p1 c_tree c_bonds c_moves c_handMoves c_moved c_isPlayed c_isOn c_handMoved c_handPaid c_regret c_states c_kept c_keptLong c_keptAt c_isTaking = some (o_c_tree, o_c_bonds, o_c_moves, o_c_handMoves, o_c_moved, o_c_isPlayed, o_c_isOn, o_c_handMoved, o_c_handPaid, o_c_regret, o_c_kept, o_c_keptLong, o_c_keptAt, o_c_isTaking)) : Met l yX9_keepsAll (wq (Cond.code yX9_keepsAll cX9_keepsAll 3 none)) rmX9_keepsAll (gP [.ref (ad 0), .int p1] (dC, dI) dA (mW dA ad c_tape c_taped c_tree c_bonds c_moves c_handMoves c_moved c_days c_likely c_outOf c_rateNow c_pence c_top c_bottom c_spot c_textLong c_fault c_number c_numberAt c_figures c_written c_wanted c_found c_drawnNow c_worth c_hold c_way c_acts c_sDay c_sUps c_sUp c_sMarks c_paidAll c_isPlayed c_isOn c_handMoved c_handPaid c_regret c_aside c_other c_states c_kept c_keptLong c_keptAt c_isTaking) sz) (gQv (dC, dI) (mW dA ad c_tape c_taped o_c_tree o_c_bonds o_c_moves o_c_handMoves o_c_moved c_days c_likely c_outOf c_rateNow c_pence c_top c_bottom c_spot c_textLong c_fault c_number c_numberAt c_figures c_written c_wanted c_found c_drawnNow c_worth c_hold c_way c_acts c_sDay c_sUps c_sUp c_sMarks c_paidAll o_c_isPlayed o_c_isOn o_c_handMoved o_c_handPaid o_c_regret c_aside c_other c_states o_c_kept o_c_keptLong o_c_keptAt o_c_isTaking) (va_A (mW dA ad c_tape c_taped c_tree c_bonds c_moves c_handMoves c_moved c_days c_likely c_outOf c_rateNow c_pence c_top c_bottom c_spot c_textLong c_fault c_number c_numberAt c_figures c_written c_wanted c_found c_drawnNow c_worth c_hold c_way c_acts c_sDay c_sUps c_sUp c_sMarks c_paidAll c_isPlayed c_isOn c_handMoved c_handPaid c_regret c_aside c_other c_states c_kept c_keptLong c_keptAt c_isTaking) sz)) 0 0 (va_A (mW dA ad c_tape c_taped c_tree c_bonds c_moves c_handMoves c_moved c_days c_likely c_outOf c_rateNow c_pence c_top c_bottom c_spot c_textLong c_fault c_number c_numberAt c_figures c_written c_wanted c_found c_drawnNow c_worth c_hold c_way c_acts c_sDay c_sUps c_sUp c_sMarks c_paidAll c_isPlayed c_isOn c_handMoved c_handPaid c_regret c_aside c_other c_states c_kept c_keptLong c_keptAt c_isTaking) sz) := by
  refine Met.ofW (cc := cX9_keepsAll) (maxL := 3) (ret := none) (by decide) rfl ?_
  intro p e s m args below meth c s₁ B hml hv
  obtain ⟨rfl, hsz, hP, hK, hD0⟩ := hv
  have hx := B.exec
  have hb := B.bytes
  have hr := B.returns
  have hts := atoms_spec (ws := wq (Cond.code yX9_keepsAll cX9_keepsAll 3 none)) B.pre
  have hown : s.vm.findClass RX9 = some m.cls := findClass_of_methodNamed B.named
  have hlocks := B.notSynchronized
  clear B
  subst hsz
  have hD := hD0.self (sz := s.heap.size)
  generalize hAe : va_A (mW dA ad c_tape c_taped c_tree c_bonds c_moves c_handMoves c_moved c_days c_likely c_outOf c_rateNow c_pence c_top c_bottom c_spot c_textLong c_fault c_number c_numberAt c_figures c_written c_wanted c_found c_drawnNow c_worth c_hold c_way c_acts c_sDay c_sUps c_sUp c_sMarks c_paidAll c_isPlayed c_isOn c_handMoved c_handPaid c_regret c_aside c_other c_states c_kept c_keptLong c_keptAt c_isTaking) s.heap.size = A at hD ⊢
  have hA : ∀ q : Nat, s.heap.size ≤ q → A q := fun q h => by rw [← hAe]; exact Or.inr h
  clear hAe hD0
  have hS : va_S A s.heap s.heap [] := va_S.rf
  have hl := lv_entry ([.ref (ad 0), .int p1]) (n := 3) (Nat.le_of_ble_eq_true rfl)
  rw [lg_entry_eq]
  generalize (lg_sl ([.ref (ad 0), .int p1]) ++ List.replicate (3 - (lg_sl ([.ref (ad 0), .int p1])).length) Slot.unset).toArray = ls at hl ⊢
  have hl : lv_has ls 3 [(0, .ref (ad 0)), (1, .int p1)] := hl
  change W p l e rmX9_keepsAll s m ([.ref (ad 0), .int p1] : List Value).toArray below meth c s.heap [] 0 0 _ _
  generalize hQ : MQ below (gQv (dC, dI) (mW dA ad c_tape c_taped o_c_tree o_c_bonds o_c_moves o_c_handMoves o_c_moved c_days c_likely c_outOf c_rateNow c_pence c_top c_bottom c_spot c_textLong c_fault c_number c_numberAt c_figures c_written c_wanted c_found c_drawnNow c_worth c_hold c_way c_acts c_sDay c_sUps c_sUp c_sMarks c_paidAll o_c_isPlayed o_c_isOn o_c_handMoved o_c_handPaid o_c_regret c_aside c_other c_states o_c_kept o_c_keptLong o_c_keptAt o_c_isTaking) A) ([.ref (ad 0), .int p1] : List Value).toArray s 0 0 A = Q
  have LP19 : ∀ (n : Nat) (x1 : Int32) (c_isTaking : Int32) (c_tape : Nat → Int32) (c_taped : Int32) (c_bonds : Nat → Int32) (c_moves : Nat → Int32) (c_handMoves : Nat → Int32) (c_moved : Int32) (c_days : Int32) (c_likely : Int32) (c_outOf : Int32) (c_rateNow : Int32) (c_pence : Nat → Int64) (c_top : Int64) (c_bottom : Int64) (c_spot : Int32) (c_textLong : Int32) (c_fault : Int32) (c_number : Int32) (c_numberAt : Int32) (c_figures : Int32) (c_written : Int32) (c_wanted : Int32) (c_found : Int32) (c_drawnNow : Int32) (c_worth : Nat → Int64) (c_hold : Nat → Int64) (c_way : Nat → Int64) (c_acts : Nat → Int32) (c_sDay : Int32) (c_sUps : Int32) (c_sUp : Int32) (c_sMarks : Int32) (c_paidAll : Int64) (c_isPlayed : Int32) (c_isOn : Int32) (c_handMoved : Int32) (c_handPaid : Int64) (c_regret : Int64) (c_aside : Nat → Int32) (c_other : Nat → Int64) (c_states : Int32) (c_keptLong : Nat → Int64) (x2 : Int32) (c_tree : Nat → Int32) (c_kept : Nat → Int32) (c_keptAt : Int32) (o_c_tree : Nat → Int32) (o_c_kept : Nat → Int32) (o_c_keptAt : Int32) (H : Heap) (locs : List Loc) (ls : Array Slot), va_P (dC, dI) vwCl (mW dA ad c_tape c_taped c_tree c_bonds c_moves c_handMoves c_moved c_days c_likely c_outOf c_rateNow c_pence c_top c_bottom c_spot c_textLong c_fault c_number c_numberAt c_figures c_written c_wanted c_found c_drawnNow c_worth c_hold c_way c_acts c_sDay c_sUps c_sUp c_sMarks c_paidAll c_isPlayed c_isOn c_handMoved c_handPaid c_regret c_aside c_other c_states c_kept c_keptLong c_keptAt c_isTaking) H → va_D A (mW dA ad c_tape c_taped c_tree c_bonds c_moves c_handMoves c_moved c_days c_likely c_outOf c_rateNow c_pence c_top c_bottom c_spot c_textLong c_fault c_number c_numberAt c_figures c_written c_wanted c_found c_drawnNow c_worth c_hold c_way c_acts c_sDay c_sUps c_sUp c_sMarks c_paidAll c_isPlayed c_isOn c_handMoved c_handPaid c_regret c_aside c_other c_states c_kept c_keptLong c_keptAt c_isTaking) → va_S A s.heap H locs → lpX9_keepsAll_19 x1 c_isTaking n x2 c_tree c_kept c_keptAt = some (o_c_tree, o_c_kept, o_c_keptAt) → lv_has ls 3 [(0, .ref (ad 0)), (1, .int x1), (2, .int x2)] → (∀ (H : Heap) (locs : List Loc) (ls : Array Slot), va_P (dC, dI) vwCl (mW dA ad c_tape c_taped o_c_tree c_bonds c_moves c_handMoves c_moved c_days c_likely c_outOf c_rateNow c_pence c_top c_bottom c_spot c_textLong c_fault c_number c_numberAt c_figures c_written c_wanted c_found c_drawnNow c_worth c_hold c_way c_acts c_sDay c_sUps c_sUp c_sMarks c_paidAll c_isPlayed c_isOn c_handMoved c_handPaid c_regret c_aside c_other c_states o_c_kept c_keptLong o_c_keptAt c_isTaking) H → va_D A (mW dA ad c_tape c_taped o_c_tree c_bonds c_moves c_handMoves c_moved c_days c_likely c_outOf c_rateNow c_pence c_top c_bottom c_spot c_textLong c_fault c_number c_numberAt c_figures c_written c_wanted c_found c_drawnNow c_worth c_hold c_way c_acts c_sDay c_sUps c_sUp c_sMarks c_paidAll c_isPlayed c_isOn c_handMoved c_handPaid c_regret c_aside c_other c_states o_c_kept c_keptLong o_c_keptAt c_isTaking) → va_S A s.heap H locs → lv_has ls 3 [(0, .ref (ad 0)), (1, .int x1)] → W p l e rmX9_keepsAll s m ([.ref (ad 0), .int p1] : List Value).toArray below meth c H locs 0 0 Q (F0 m 47 ls [])) → W p l e rmX9_keepsAll s m ([.ref (ad 0), .int p1] : List Value).toArray below meth c H locs 0 0 Q (F0 m 19 ls []) := by
    intro n
    induction n with
    | zero =>
      intro x1 c_isTaking c_tape c_taped c_bonds c_moves c_handMoves c_moved c_days c_likely c_outOf c_rateNow c_pence c_top c_bottom c_spot c_textLong c_fault c_number c_numberAt c_figures c_written c_wanted c_found c_drawnNow c_worth c_hold c_way c_acts c_sDay c_sUps c_sUp c_sMarks c_paidAll c_isPlayed c_isOn c_handMoved c_handPaid c_regret c_aside c_other c_states c_keptLong x2 c_tree c_kept c_keptAt o_c_tree o_c_kept o_c_keptAt H locs ls hP hD hS hf hl hk
      cases hf
    | succ n ih19 =>
      intro x1 c_isTaking c_tape c_taped c_bonds c_moves c_handMoves c_moved c_days c_likely c_outOf c_rateNow c_pence c_top c_bottom c_spot c_textLong c_fault c_number c_numberAt c_figures c_written c_wanted c_found c_drawnNow c_worth c_hold c_way c_acts c_sDay c_sUps c_sUp c_sMarks c_paidAll c_isPlayed c_isOn c_handMoved c_handPaid c_regret c_aside c_other c_states c_keptLong x2 c_tree c_kept c_keptAt o_c_tree o_c_kept o_c_keptAt H locs ls hP hD hS hf hl hk
      rw [lpX9_keepsAll_19.eq_2] at hf
      refine lv_iload_n hx hb dX9_keepsAll_19 rfl (lv_at hl 2 rfl) ?_
      refine lv_bipush (v := 18) hx hb dX9_keepsAll_20 (by decide) ?_
      refine lv_icmp_ge (tgt := 47) hx hb dX9_keepsAll_22 (by decide) (fun k312 => ?_) (fun k312 => ?_)
      · replace hf := ifp k312 hf
        cases hf
        exact hk _ _ _ hP hD hS (lv_sub hl [0, 1] rfl)
      · replace hf := ifn k312 hf
        refine lv_aload_n hx hb dX9_keepsAll_25 rfl (lv_at hl 0 rfl) ?_
        refine va_get (D := (dC, dI)) (ci := 9) (v := .ref (ad 2)) (C := RX9) (T := TX9) (N := 45) hx hb hts (fun w h => gw_mem (inX9 w h)) hown hK.1 hP 0 rfl rfl 2 (by decide) (hts _ (gw_mem wfX9_13)) (fun _ h9 => h9) rfl dX9_keepsAll_26 ?_
        refine lv_iload_n hx hb dX9_keepsAll_29 rfl (lv_at hl 2 rfl) ?_
        refine lv_aload_n hx hb dX9_keepsAll_30 rfl (lv_at hl 0 rfl) ?_
        refine lv_aload_n hx hb dX9_keepsAll_31 rfl (lv_at hl 0 rfl) ?_
        refine va_get (D := (dC, dI)) (ci := 9) (v := .ref (ad 2)) (C := RX9) (T := TX9) (N := 45) hx hb hts (fun w h => gw_mem (inX9 w h)) hown hK.1 hP 0 rfl rfl 2 (by decide) (hts _ (gw_mem wfX9_13)) (fun _ h9 => h9) rfl dX9_keepsAll_32 ?_
        refine lv_iload_n hx hb dX9_keepsAll_35 rfl (lv_at hl 2 rfl) ?_
        obtain ⟨h313, hf⟩ := og_some hf
        refine va_iald hx hb hK.1 hP 2 0 rfl rfl (okI_in h313) dX9_keepsAll_36 ?_
        obtain ⟨r314, c_kept_315, c_keptAt_316, v317, hf⟩ := bd3_some hf
        refine gci (va_runV (As := [.int (c_tree (Int32.toNatClampNeg x2))]) (rest := [.int x2, .ref (ad 2)]) ⟨hx, hb, hml, hown, hts⟩ (tX9_keeps l dC dI dA ad H.size v317) (ccX9_X9_keeps hts ⟨Nat.le_of_ble_eq_true rfl, Nat.le_of_ble_eq_true rfl⟩) (gPreV (ci := 9) (q0 := 0) hP hK hD rfl rfl) rfl rfl hl.1 rfl (lv_room (Nat.le_of_ble_eq_true rfl)) dX9_keepsAll_37 ⟨Nat.le_of_ble_eq_true rfl, Nat.le_of_ble_eq_true rfl⟩) hD hS hA (fun H locs hP hD hS => ?_)
        obtain ⟨h318, hf⟩ := og_some hf
        obtain ⟨w319, ew319⟩ : ∃ y : Nat → Int32, y = upd c_tree (Int32.toNatClampNeg x2) r314 := ⟨_, rfl⟩
        replace hf := nm_at hf ew319
        refine va_iast hx hb hK.1 hP hD hS 2 0 rfl rfl (okI_in h318) dX9_keepsAll_40 (fun H locs hP hD hS => ?_)
        have hP : va_P (dC, dI) vwCl (mW dA ad c_tape c_taped w319 c_bonds c_moves c_handMoves c_moved c_days c_likely c_outOf c_rateNow c_pence c_top c_bottom c_spot c_textLong c_fault c_number c_numberAt c_figures c_written c_wanted c_found c_drawnNow c_worth c_hold c_way c_acts c_sDay c_sUps c_sUp c_sMarks c_paidAll c_isPlayed c_isOn c_handMoved c_handPaid c_regret c_aside c_other c_states c_kept_315 c_keptLong c_keptAt_316 c_isTaking) H := by rw [ew319]; exact hP
        have hD : va_D A (mW dA ad c_tape c_taped w319 c_bonds c_moves c_handMoves c_moved c_days c_likely c_outOf c_rateNow c_pence c_top c_bottom c_spot c_textLong c_fault c_number c_numberAt c_figures c_written c_wanted c_found c_drawnNow c_worth c_hold c_way c_acts c_sDay c_sUps c_sUp c_sMarks c_paidAll c_isPlayed c_isOn c_handMoved c_handPaid c_regret c_aside c_other c_states c_kept_315 c_keptLong c_keptAt_316 c_isTaking) := by rw [ew319]; exact hD
        obtain ⟨w320, ew320⟩ : ∃ y : Int32, y = x2 + 1 := ⟨_, rfl⟩
        replace hf := nm_at hf ew320
        refine lv_iinc (v := w320) (lv' := [(2, .int w320), (0, .ref (ad 0)), (1, .int x1)]) hx hb dX9_keepsAll_41 hl (k := 2) rfl (by rw [ew320]; rfl) (by decide) rfl (fun ls hl => ?_)
        refine lv_goto (tgt := 19) hx hb dX9_keepsAll_44 (by decide) ?_
        exact ih19 _ _ _ _ _ _ _ _ _ _ _ _ _ _ _ _ _ _ _ _ _ _ _ _ _ _ _ _ _ _ _ _ _ _ _ _ _ _ _ _ _ _ _ _ _ _ _ _ _ _ _ _ _ hP hD hS hf (lv_sub hl [1, 2, 0] rfl) hk
  have LP49 : ∀ (n : Nat) (x1 : Int32) (c_isTaking : Int32) (c_tape : Nat → Int32) (c_taped : Int32) (c_tree : Nat → Int32) (c_moves : Nat → Int32) (c_handMoves : Nat → Int32) (c_moved : Int32) (c_days : Int32) (c_likely : Int32) (c_outOf : Int32) (c_rateNow : Int32) (c_pence : Nat → Int64) (c_top : Int64) (c_bottom : Int64) (c_spot : Int32) (c_textLong : Int32) (c_fault : Int32) (c_number : Int32) (c_numberAt : Int32) (c_figures : Int32) (c_written : Int32) (c_wanted : Int32) (c_found : Int32) (c_drawnNow : Int32) (c_worth : Nat → Int64) (c_hold : Nat → Int64) (c_way : Nat → Int64) (c_acts : Nat → Int32) (c_sDay : Int32) (c_sUps : Int32) (c_sUp : Int32) (c_sMarks : Int32) (c_paidAll : Int64) (c_isPlayed : Int32) (c_isOn : Int32) (c_handMoved : Int32) (c_handPaid : Int64) (c_regret : Int64) (c_aside : Nat → Int32) (c_other : Nat → Int64) (c_states : Int32) (c_keptLong : Nat → Int64) (x2 : Int32) (c_bonds : Nat → Int32) (c_kept : Nat → Int32) (c_keptAt : Int32) (o_c_bonds : Nat → Int32) (o_c_kept : Nat → Int32) (o_c_keptAt : Int32) (H : Heap) (locs : List Loc) (ls : Array Slot), va_P (dC, dI) vwCl (mW dA ad c_tape c_taped c_tree c_bonds c_moves c_handMoves c_moved c_days c_likely c_outOf c_rateNow c_pence c_top c_bottom c_spot c_textLong c_fault c_number c_numberAt c_figures c_written c_wanted c_found c_drawnNow c_worth c_hold c_way c_acts c_sDay c_sUps c_sUp c_sMarks c_paidAll c_isPlayed c_isOn c_handMoved c_handPaid c_regret c_aside c_other c_states c_kept c_keptLong c_keptAt c_isTaking) H → va_D A (mW dA ad c_tape c_taped c_tree c_bonds c_moves c_handMoves c_moved c_days c_likely c_outOf c_rateNow c_pence c_top c_bottom c_spot c_textLong c_fault c_number c_numberAt c_figures c_written c_wanted c_found c_drawnNow c_worth c_hold c_way c_acts c_sDay c_sUps c_sUp c_sMarks c_paidAll c_isPlayed c_isOn c_handMoved c_handPaid c_regret c_aside c_other c_states c_kept c_keptLong c_keptAt c_isTaking) → va_S A s.heap H locs → lpX9_keepsAll_49 x1 c_isTaking n x2 c_bonds c_kept c_keptAt = some (o_c_bonds, o_c_kept, o_c_keptAt) → lv_has ls 3 [(0, .ref (ad 0)), (1, .int x1), (2, .int x2)] → (∀ (H : Heap) (locs : List Loc) (ls : Array Slot), va_P (dC, dI) vwCl (mW dA ad c_tape c_taped c_tree o_c_bonds c_moves c_handMoves c_moved c_days c_likely c_outOf c_rateNow c_pence c_top c_bottom c_spot c_textLong c_fault c_number c_numberAt c_figures c_written c_wanted c_found c_drawnNow c_worth c_hold c_way c_acts c_sDay c_sUps c_sUp c_sMarks c_paidAll c_isPlayed c_isOn c_handMoved c_handPaid c_regret c_aside c_other c_states o_c_kept c_keptLong o_c_keptAt c_isTaking) H → va_D A (mW dA ad c_tape c_taped c_tree o_c_bonds c_moves c_handMoves c_moved c_days c_likely c_outOf c_rateNow c_pence c_top c_bottom c_spot c_textLong c_fault c_number c_numberAt c_figures c_written c_wanted c_found c_drawnNow c_worth c_hold c_way c_acts c_sDay c_sUps c_sUp c_sMarks c_paidAll c_isPlayed c_isOn c_handMoved c_handPaid c_regret c_aside c_other c_states o_c_kept c_keptLong o_c_keptAt c_isTaking) → va_S A s.heap H locs → lv_has ls 3 [(0, .ref (ad 0)), (1, .int x1)] → W p l e rmX9_keepsAll s m ([.ref (ad 0), .int p1] : List Value).toArray below meth c H locs 0 0 Q (F0 m 78 ls [])) → W p l e rmX9_keepsAll s m ([.ref (ad 0), .int p1] : List Value).toArray below meth c H locs 0 0 Q (F0 m 49 ls []) := by
    intro n
    induction n with
    | zero =>
      intro x1 c_isTaking c_tape c_taped c_tree c_moves c_handMoves c_moved c_days c_likely c_outOf c_rateNow c_pence c_top c_bottom c_spot c_textLong c_fault c_number c_numberAt c_figures c_written c_wanted c_found c_drawnNow c_worth c_hold c_way c_acts c_sDay c_sUps c_sUp c_sMarks c_paidAll c_isPlayed c_isOn c_handMoved c_handPaid c_regret c_aside c_other c_states c_keptLong x2 c_bonds c_kept c_keptAt o_c_bonds o_c_kept o_c_keptAt H locs ls hP hD hS hf hl hk
      cases hf
    | succ n ih49 =>
      intro x1 c_isTaking c_tape c_taped c_tree c_moves c_handMoves c_moved c_days c_likely c_outOf c_rateNow c_pence c_top c_bottom c_spot c_textLong c_fault c_number c_numberAt c_figures c_written c_wanted c_found c_drawnNow c_worth c_hold c_way c_acts c_sDay c_sUps c_sUp c_sMarks c_paidAll c_isPlayed c_isOn c_handMoved c_handPaid c_regret c_aside c_other c_states c_keptLong x2 c_bonds c_kept c_keptAt o_c_bonds o_c_kept o_c_keptAt H locs ls hP hD hS hf hl hk
      rw [lpX9_keepsAll_49.eq_2] at hf
      refine lv_iload_n hx hb dX9_keepsAll_49 rfl (lv_at hl 2 rfl) ?_
      refine lv_sipush (v := 135) hx hb dX9_keepsAll_50 (by decide) ?_
      refine lv_icmp_ge (tgt := 78) hx hb dX9_keepsAll_53 (by decide) (fun k303 => ?_) (fun k303 => ?_)
      · replace hf := ifp k303 hf
        cases hf
        exact hk _ _ _ hP hD hS (lv_sub hl [0, 1] rfl)
      · replace hf := ifn k303 hf
        refine lv_aload_n hx hb dX9_keepsAll_56 rfl (lv_at hl 0 rfl) ?_
        refine va_get (D := (dC, dI)) (ci := 9) (v := .ref (ad 3)) (C := RX9) (T := TX9) (N := 45) hx hb hts (fun w h => gw_mem (inX9 w h)) hown hK.1 hP 0 rfl rfl 3 (by decide) (hts _ (gw_mem wfX9_17)) (fun _ h9 => h9) rfl dX9_keepsAll_57 ?_
        refine lv_iload_n hx hb dX9_keepsAll_60 rfl (lv_at hl 2 rfl) ?_
        refine lv_aload_n hx hb dX9_keepsAll_61 rfl (lv_at hl 0 rfl) ?_
        refine lv_aload_n hx hb dX9_keepsAll_62 rfl (lv_at hl 0 rfl) ?_
        refine va_get (D := (dC, dI)) (ci := 9) (v := .ref (ad 3)) (C := RX9) (T := TX9) (N := 45) hx hb hts (fun w h => gw_mem (inX9 w h)) hown hK.1 hP 0 rfl rfl 3 (by decide) (hts _ (gw_mem wfX9_17)) (fun _ h9 => h9) rfl dX9_keepsAll_63 ?_
        refine lv_iload_n hx hb dX9_keepsAll_66 rfl (lv_at hl 2 rfl) ?_
        obtain ⟨h304, hf⟩ := og_some hf
        refine va_iald hx hb hK.1 hP 3 0 rfl rfl (okI_in h304) dX9_keepsAll_67 ?_
        obtain ⟨r305, c_kept_306, c_keptAt_307, v308, hf⟩ := bd3_some hf
        refine gci (va_runV (As := [.int (c_bonds (Int32.toNatClampNeg x2))]) (rest := [.int x2, .ref (ad 3)]) ⟨hx, hb, hml, hown, hts⟩ (tX9_keeps l dC dI dA ad H.size v308) (ccX9_X9_keeps hts ⟨Nat.le_of_ble_eq_true rfl, Nat.le_of_ble_eq_true rfl⟩) (gPreV (ci := 9) (q0 := 0) hP hK hD rfl rfl) rfl rfl hl.1 rfl (lv_room (Nat.le_of_ble_eq_true rfl)) dX9_keepsAll_68 ⟨Nat.le_of_ble_eq_true rfl, Nat.le_of_ble_eq_true rfl⟩) hD hS hA (fun H locs hP hD hS => ?_)
        obtain ⟨h309, hf⟩ := og_some hf
        obtain ⟨w310, ew310⟩ : ∃ y : Nat → Int32, y = upd c_bonds (Int32.toNatClampNeg x2) r305 := ⟨_, rfl⟩
        replace hf := nm_at hf ew310
        refine va_iast hx hb hK.1 hP hD hS 3 0 rfl rfl (okI_in h309) dX9_keepsAll_71 (fun H locs hP hD hS => ?_)
        have hP : va_P (dC, dI) vwCl (mW dA ad c_tape c_taped c_tree w310 c_moves c_handMoves c_moved c_days c_likely c_outOf c_rateNow c_pence c_top c_bottom c_spot c_textLong c_fault c_number c_numberAt c_figures c_written c_wanted c_found c_drawnNow c_worth c_hold c_way c_acts c_sDay c_sUps c_sUp c_sMarks c_paidAll c_isPlayed c_isOn c_handMoved c_handPaid c_regret c_aside c_other c_states c_kept_306 c_keptLong c_keptAt_307 c_isTaking) H := by rw [ew310]; exact hP
        have hD : va_D A (mW dA ad c_tape c_taped c_tree w310 c_moves c_handMoves c_moved c_days c_likely c_outOf c_rateNow c_pence c_top c_bottom c_spot c_textLong c_fault c_number c_numberAt c_figures c_written c_wanted c_found c_drawnNow c_worth c_hold c_way c_acts c_sDay c_sUps c_sUp c_sMarks c_paidAll c_isPlayed c_isOn c_handMoved c_handPaid c_regret c_aside c_other c_states c_kept_306 c_keptLong c_keptAt_307 c_isTaking) := by rw [ew310]; exact hD
        obtain ⟨w311, ew311⟩ : ∃ y : Int32, y = x2 + 1 := ⟨_, rfl⟩
        replace hf := nm_at hf ew311
        refine lv_iinc (v := w311) (lv' := [(2, .int w311), (0, .ref (ad 0)), (1, .int x1)]) hx hb dX9_keepsAll_72 hl (k := 2) rfl (by rw [ew311]; rfl) (by decide) rfl (fun ls hl => ?_)
        refine lv_goto (tgt := 49) hx hb dX9_keepsAll_75 (by decide) ?_
        exact ih49 _ _ _ _ _ _ _ _ _ _ _ _ _ _ _ _ _ _ _ _ _ _ _ _ _ _ _ _ _ _ _ _ _ _ _ _ _ _ _ _ _ _ _ _ _ _ _ _ _ _ _ _ _ hP hD hS hf (lv_sub hl [1, 2, 0] rfl) hk
  have LP80 : ∀ (n : Nat) (x1 : Int32) (c_isTaking : Int32) (c_tape : Nat → Int32) (c_taped : Int32) (c_tree : Nat → Int32) (c_bonds : Nat → Int32) (c_moved : Int32) (c_days : Int32) (c_likely : Int32) (c_outOf : Int32) (c_rateNow : Int32) (c_pence : Nat → Int64) (c_top : Int64) (c_bottom : Int64) (c_spot : Int32) (c_textLong : Int32) (c_fault : Int32) (c_number : Int32) (c_numberAt : Int32) (c_figures : Int32) (c_written : Int32) (c_wanted : Int32) (c_found : Int32) (c_drawnNow : Int32) (c_worth : Nat → Int64) (c_hold : Nat → Int64) (c_way : Nat → Int64) (c_acts : Nat → Int32) (c_sDay : Int32) (c_sUps : Int32) (c_sUp : Int32) (c_sMarks : Int32) (c_paidAll : Int64) (c_isPlayed : Int32) (c_isOn : Int32) (c_handMoved : Int32) (c_handPaid : Int64) (c_regret : Int64) (c_aside : Nat → Int32) (c_other : Nat → Int64) (c_states : Int32) (c_keptLong : Nat → Int64) (x2 : Int32) (c_moves : Nat → Int32) (c_handMoves : Nat → Int32) (c_kept : Nat → Int32) (c_keptAt : Int32) (o_c_moves : Nat → Int32) (o_c_handMoves : Nat → Int32) (o_c_kept : Nat → Int32) (o_c_keptAt : Int32) (H : Heap) (locs : List Loc) (ls : Array Slot), va_P (dC, dI) vwCl (mW dA ad c_tape c_taped c_tree c_bonds c_moves c_handMoves c_moved c_days c_likely c_outOf c_rateNow c_pence c_top c_bottom c_spot c_textLong c_fault c_number c_numberAt c_figures c_written c_wanted c_found c_drawnNow c_worth c_hold c_way c_acts c_sDay c_sUps c_sUp c_sMarks c_paidAll c_isPlayed c_isOn c_handMoved c_handPaid c_regret c_aside c_other c_states c_kept c_keptLong c_keptAt c_isTaking) H → va_D A (mW dA ad c_tape c_taped c_tree c_bonds c_moves c_handMoves c_moved c_days c_likely c_outOf c_rateNow c_pence c_top c_bottom c_spot c_textLong c_fault c_number c_numberAt c_figures c_written c_wanted c_found c_drawnNow c_worth c_hold c_way c_acts c_sDay c_sUps c_sUp c_sMarks c_paidAll c_isPlayed c_isOn c_handMoved c_handPaid c_regret c_aside c_other c_states c_kept c_keptLong c_keptAt c_isTaking) → va_S A s.heap H locs → lpX9_keepsAll_80 x1 c_isTaking n x2 c_moves c_handMoves c_kept c_keptAt = some (o_c_moves, o_c_handMoves, o_c_kept, o_c_keptAt) → lv_has ls 3 [(0, .ref (ad 0)), (1, .int x1), (2, .int x2)] → (∀ (H : Heap) (locs : List Loc) (ls : Array Slot), va_P (dC, dI) vwCl (mW dA ad c_tape c_taped c_tree c_bonds o_c_moves o_c_handMoves c_moved c_days c_likely c_outOf c_rateNow c_pence c_top c_bottom c_spot c_textLong c_fault c_number c_numberAt c_figures c_written c_wanted c_found c_drawnNow c_worth c_hold c_way c_acts c_sDay c_sUps c_sUp c_sMarks c_paidAll c_isPlayed c_isOn c_handMoved c_handPaid c_regret c_aside c_other c_states o_c_kept c_keptLong o_c_keptAt c_isTaking) H → va_D A (mW dA ad c_tape c_taped c_tree c_bonds o_c_moves o_c_handMoves c_moved c_days c_likely c_outOf c_rateNow c_pence c_top c_bottom c_spot c_textLong c_fault c_number c_numberAt c_figures c_written c_wanted c_found c_drawnNow c_worth c_hold c_way c_acts c_sDay c_sUps c_sUp c_sMarks c_paidAll c_isPlayed c_isOn c_handMoved c_handPaid c_regret c_aside c_other c_states o_c_kept c_keptLong o_c_keptAt c_isTaking) → va_S A s.heap H locs → lv_has ls 3 [(0, .ref (ad 0)), (1, .int x1)] → W p l e rmX9_keepsAll s m ([.ref (ad 0), .int p1] : List Value).toArray below meth c H locs 0 0 Q (F0 m 124 ls [])) → W p l e rmX9_keepsAll s m ([.ref (ad 0), .int p1] : List Value).toArray below meth c H locs 0 0 Q (F0 m 80 ls []) := by
    intro n
    induction n with
    | zero =>
      intro x1 c_isTaking c_tape c_taped c_tree c_bonds c_moved c_days c_likely c_outOf c_rateNow c_pence c_top c_bottom c_spot c_textLong c_fault c_number c_numberAt c_figures c_written c_wanted c_found c_drawnNow c_worth c_hold c_way c_acts c_sDay c_sUps c_sUp c_sMarks c_paidAll c_isPlayed c_isOn c_handMoved c_handPaid c_regret c_aside c_other c_states c_keptLong x2 c_moves c_handMoves c_kept c_keptAt o_c_moves o_c_handMoves o_c_kept o_c_keptAt H locs ls hP hD hS hf hl hk
      cases hf
    | succ n ih80 =>
      intro x1 c_isTaking c_tape c_taped c_tree c_bonds c_moved c_days c_likely c_outOf c_rateNow c_pence c_top c_bottom c_spot c_textLong c_fault c_number c_numberAt c_figures c_written c_wanted c_found c_drawnNow c_worth c_hold c_way c_acts c_sDay c_sUps c_sUp c_sMarks c_paidAll c_isPlayed c_isOn c_handMoved c_handPaid c_regret c_aside c_other c_states c_keptLong x2 c_moves c_handMoves c_kept c_keptAt o_c_moves o_c_handMoves o_c_kept o_c_keptAt H locs ls hP hD hS hf hl hk
      rw [lpX9_keepsAll_80.eq_2] at hf
      refine lv_iload_n hx hb dX9_keepsAll_80 rfl (lv_at hl 2 rfl) ?_
      refine lv_bipush (v := 6) hx hb dX9_keepsAll_81 (by decide) ?_
      refine lv_icmp_ge (tgt := 124) hx hb dX9_keepsAll_83 (by decide) (fun k287 => ?_) (fun k287 => ?_)
      · replace hf := ifp k287 hf
        cases hf
        exact hk _ _ _ hP hD hS (lv_sub hl [0, 1] rfl)
      · replace hf := ifn k287 hf
        refine lv_aload_n hx hb dX9_keepsAll_86 rfl (lv_at hl 0 rfl) ?_
        refine va_get (D := (dC, dI)) (ci := 9) (v := .ref (ad 4)) (C := RX9) (T := TX9) (N := 45) hx hb hts (fun w h => gw_mem (inX9 w h)) hown hK.1 hP 0 rfl rfl 4 (by decide) (hts _ (gw_mem wfX9_20)) (fun _ h9 => h9) rfl dX9_keepsAll_87 ?_
        refine lv_iload_n hx hb dX9_keepsAll_90 rfl (lv_at hl 2 rfl) ?_
        refine lv_aload_n hx hb dX9_keepsAll_91 rfl (lv_at hl 0 rfl) ?_
        refine lv_aload_n hx hb dX9_keepsAll_92 rfl (lv_at hl 0 rfl) ?_
        refine va_get (D := (dC, dI)) (ci := 9) (v := .ref (ad 4)) (C := RX9) (T := TX9) (N := 45) hx hb hts (fun w h => gw_mem (inX9 w h)) hown hK.1 hP 0 rfl rfl 4 (by decide) (hts _ (gw_mem wfX9_20)) (fun _ h9 => h9) rfl dX9_keepsAll_93 ?_
        refine lv_iload_n hx hb dX9_keepsAll_96 rfl (lv_at hl 2 rfl) ?_
        obtain ⟨h288, hf⟩ := og_some hf
        refine va_iald hx hb hK.1 hP 4 0 rfl rfl (okI_in h288) dX9_keepsAll_97 ?_
        obtain ⟨r289, c_kept_290, c_keptAt_291, v292, hf⟩ := bd3_some hf
        refine gci (va_runV (As := [.int (c_moves (Int32.toNatClampNeg x2))]) (rest := [.int x2, .ref (ad 4)]) ⟨hx, hb, hml, hown, hts⟩ (tX9_keeps l dC dI dA ad H.size v292) (ccX9_X9_keeps hts ⟨Nat.le_of_ble_eq_true rfl, Nat.le_of_ble_eq_true rfl⟩) (gPreV (ci := 9) (q0 := 0) hP hK hD rfl rfl) rfl rfl hl.1 rfl (lv_room (Nat.le_of_ble_eq_true rfl)) dX9_keepsAll_98 ⟨Nat.le_of_ble_eq_true rfl, Nat.le_of_ble_eq_true rfl⟩) hD hS hA (fun H locs hP hD hS => ?_)
        obtain ⟨h293, hf⟩ := og_some hf
        obtain ⟨w294, ew294⟩ : ∃ y : Nat → Int32, y = upd c_moves (Int32.toNatClampNeg x2) r289 := ⟨_, rfl⟩
        replace hf := nm_at hf ew294
        refine va_iast hx hb hK.1 hP hD hS 4 0 rfl rfl (okI_in h293) dX9_keepsAll_101 (fun H locs hP hD hS => ?_)
        have hP : va_P (dC, dI) vwCl (mW dA ad c_tape c_taped c_tree c_bonds w294 c_handMoves c_moved c_days c_likely c_outOf c_rateNow c_pence c_top c_bottom c_spot c_textLong c_fault c_number c_numberAt c_figures c_written c_wanted c_found c_drawnNow c_worth c_hold c_way c_acts c_sDay c_sUps c_sUp c_sMarks c_paidAll c_isPlayed c_isOn c_handMoved c_handPaid c_regret c_aside c_other c_states c_kept_290 c_keptLong c_keptAt_291 c_isTaking) H := by rw [ew294]; exact hP
        have hD : va_D A (mW dA ad c_tape c_taped c_tree c_bonds w294 c_handMoves c_moved c_days c_likely c_outOf c_rateNow c_pence c_top c_bottom c_spot c_textLong c_fault c_number c_numberAt c_figures c_written c_wanted c_found c_drawnNow c_worth c_hold c_way c_acts c_sDay c_sUps c_sUp c_sMarks c_paidAll c_isPlayed c_isOn c_handMoved c_handPaid c_regret c_aside c_other c_states c_kept_290 c_keptLong c_keptAt_291 c_isTaking) := by rw [ew294]; exact hD
        refine lv_aload_n hx hb dX9_keepsAll_102 rfl (lv_at hl 0 rfl) ?_
        refine va_get (D := (dC, dI)) (ci := 9) (v := .ref (ad 5)) (C := RX9) (T := TX9) (N := 45) hx hb hts (fun w h => gw_mem (inX9 w h)) hown hK.1 hP 0 rfl rfl 5 (by decide) (hts _ (gw_mem wfX9_23)) (fun _ h9 => h9) rfl dX9_keepsAll_103 ?_
        refine lv_iload_n hx hb dX9_keepsAll_106 rfl (lv_at hl 2 rfl) ?_
        refine lv_aload_n hx hb dX9_keepsAll_107 rfl (lv_at hl 0 rfl) ?_
        refine lv_aload_n hx hb dX9_keepsAll_108 rfl (lv_at hl 0 rfl) ?_
        refine va_get (D := (dC, dI)) (ci := 9) (v := .ref (ad 5)) (C := RX9) (T := TX9) (N := 45) hx hb hts (fun w h => gw_mem (inX9 w h)) hown hK.1 hP 0 rfl rfl 5 (by decide) (hts _ (gw_mem wfX9_23)) (fun _ h9 => h9) rfl dX9_keepsAll_109 ?_
        refine lv_iload_n hx hb dX9_keepsAll_112 rfl (lv_at hl 2 rfl) ?_
        obtain ⟨h295, hf⟩ := og_some hf
        refine va_iald hx hb hK.1 hP 5 0 rfl rfl (okI_in h295) dX9_keepsAll_113 ?_
        obtain ⟨r296, c_kept_297, c_keptAt_298, v299, hf⟩ := bd3_some hf
        refine gci (va_runV (As := [.int (c_handMoves (Int32.toNatClampNeg x2))]) (rest := [.int x2, .ref (ad 5)]) ⟨hx, hb, hml, hown, hts⟩ (tX9_keeps l dC dI dA ad H.size v299) (ccX9_X9_keeps hts ⟨Nat.le_of_ble_eq_true rfl, Nat.le_of_ble_eq_true rfl⟩) (gPreV (ci := 9) (q0 := 0) hP hK hD rfl rfl) rfl rfl hl.1 rfl (lv_room (Nat.le_of_ble_eq_true rfl)) dX9_keepsAll_114 ⟨Nat.le_of_ble_eq_true rfl, Nat.le_of_ble_eq_true rfl⟩) hD hS hA (fun H locs hP hD hS => ?_)
        obtain ⟨h300, hf⟩ := og_some hf
        obtain ⟨w301, ew301⟩ : ∃ y : Nat → Int32, y = upd c_handMoves (Int32.toNatClampNeg x2) r296 := ⟨_, rfl⟩
        replace hf := nm_at hf ew301
        refine va_iast hx hb hK.1 hP hD hS 5 0 rfl rfl (okI_in h300) dX9_keepsAll_117 (fun H locs hP hD hS => ?_)
        have hP : va_P (dC, dI) vwCl (mW dA ad c_tape c_taped c_tree c_bonds w294 w301 c_moved c_days c_likely c_outOf c_rateNow c_pence c_top c_bottom c_spot c_textLong c_fault c_number c_numberAt c_figures c_written c_wanted c_found c_drawnNow c_worth c_hold c_way c_acts c_sDay c_sUps c_sUp c_sMarks c_paidAll c_isPlayed c_isOn c_handMoved c_handPaid c_regret c_aside c_other c_states c_kept_297 c_keptLong c_keptAt_298 c_isTaking) H := by rw [ew301]; exact hP
        have hD : va_D A (mW dA ad c_tape c_taped c_tree c_bonds w294 w301 c_moved c_days c_likely c_outOf c_rateNow c_pence c_top c_bottom c_spot c_textLong c_fault c_number c_numberAt c_figures c_written c_wanted c_found c_drawnNow c_worth c_hold c_way c_acts c_sDay c_sUps c_sUp c_sMarks c_paidAll c_isPlayed c_isOn c_handMoved c_handPaid c_regret c_aside c_other c_states c_kept_297 c_keptLong c_keptAt_298 c_isTaking) := by rw [ew301]; exact hD
        obtain ⟨w302, ew302⟩ : ∃ y : Int32, y = x2 + 1 := ⟨_, rfl⟩
        replace hf := nm_at hf ew302
        refine lv_iinc (v := w302) (lv' := [(2, .int w302), (0, .ref (ad 0)), (1, .int x1)]) hx hb dX9_keepsAll_118 hl (k := 2) rfl (by rw [ew302]; rfl) (by decide) rfl (fun ls hl => ?_)
        refine lv_goto (tgt := 80) hx hb dX9_keepsAll_121 (by decide) ?_
        exact ih80 _ _ _ _ _ _ _ _ _ _ _ _ _ _ _ _ _ _ _ _ _ _ _ _ _ _ _ _ _ _ _ _ _ _ _ _ _ _ _ _ _ _ _ _ _ _ _ _ _ _ _ _ _ _ hP hD hS hf (lv_sub hl [1, 2, 0] rfl) hk
  subst hQ
  unfold fX9_keepsAll at hf
  refine lv_aload_n hx hb dX9_keepsAll_0 rfl (lv_at hl 0 rfl) ?_
  refine lv_iload_n hx hb dX9_keepsAll_1 rfl (lv_at hl 1 rfl) ?_
  obtain ⟨h1, hf⟩ := og_some hf
  refine va_put (D := (dC, dI)) (ci := 9) (v := .int p1) (ty := .boolean) (C := RX9) (T := TX9) (N := 45) hx hb hts (fun w h => gw_mem (inX9 w h)) tyX9 tyX9_ok nmX9 hown hK.1 hP hD hS 0 rfl rfl 44 (by decide) (hts _ (gw_mem wfX9_440)) (fun _ h9 => h9) rfl (by decide +kernel) (boB_nar h1) (boB_fit h1) (Nat.le_of_ble_eq_true rfl) dX9_keepsAll_2 (fun H locs hP hD hS => ?_)
  have hP : va_P (dC, dI) vwCl (mW dA ad c_tape c_taped c_tree c_bonds c_moves c_handMoves c_moved c_days c_likely c_outOf c_rateNow c_pence c_top c_bottom c_spot c_textLong c_fault c_number c_numberAt c_figures c_written c_wanted c_found c_drawnNow c_worth c_hold c_way c_acts c_sDay c_sUps c_sUp c_sMarks c_paidAll c_isPlayed c_isOn c_handMoved c_handPaid c_regret c_aside c_other c_states c_kept c_keptLong c_keptAt p1) H := hP
  have hD : va_D A (mW dA ad c_tape c_taped c_tree c_bonds c_moves c_handMoves c_moved c_days c_likely c_outOf c_rateNow c_pence c_top c_bottom c_spot c_textLong c_fault c_number c_numberAt c_figures c_written c_wanted c_found c_drawnNow c_worth c_hold c_way c_acts c_sDay c_sUps c_sUp c_sMarks c_paidAll c_isPlayed c_isOn c_handMoved c_handPaid c_regret c_aside c_other c_states c_kept c_keptLong c_keptAt p1) := hD
  refine lv_aload_n hx hb dX9_keepsAll_5 rfl (lv_at hl 0 rfl) ?_
  refine lv_sipush (v := 178) hx hb dX9_keepsAll_6 (by decide) ?_
  refine lv_aload_n hx hb dX9_keepsAll_9 rfl (lv_at hl 0 rfl) ?_
  refine va_get (D := (dC, dI)) (ci := 9) (v := .int c_states) (C := RX9) (T := TX9) (N := 45) hx hb hts (fun w h => gw_mem (inX9 w h)) hown hK.1 hP 0 rfl rfl 40 (by decide) (hts _ (gw_mem wfX9_446)) (fun _ h9 => h9) rfl dX9_keepsAll_10 ?_
  refine lv_imul hx hb dX9_keepsAll_13 ?_
  refine lv_topi (fun w2 ew2 => ?_)
  replace hf := nm_at hf ew2
  refine va_put (D := (dC, dI)) (ci := 9) (v := .int w2) (ty := .int) (C := RX9) (T := TX9) (N := 45) hx hb hts (fun w h => gw_mem (inX9 w h)) tyX9 tyX9_ok nmX9 hown hK.1 hP hD hS 0 rfl rfl 43 (by decide) (hts _ (gw_mem wfX9_443)) (fun _ h9 => h9) rfl (by decide +kernel) rfl rfl (Nat.le_of_ble_eq_true rfl) dX9_keepsAll_14 (fun H locs hP hD hS => ?_)
  have hP : va_P (dC, dI) vwCl (mW dA ad c_tape c_taped c_tree c_bonds c_moves c_handMoves c_moved c_days c_likely c_outOf c_rateNow c_pence c_top c_bottom c_spot c_textLong c_fault c_number c_numberAt c_figures c_written c_wanted c_found c_drawnNow c_worth c_hold c_way c_acts c_sDay c_sUps c_sUp c_sMarks c_paidAll c_isPlayed c_isOn c_handMoved c_handPaid c_regret c_aside c_other c_states c_kept c_keptLong w2 p1) H := hP
  have hD : va_D A (mW dA ad c_tape c_taped c_tree c_bonds c_moves c_handMoves c_moved c_days c_likely c_outOf c_rateNow c_pence c_top c_bottom c_spot c_textLong c_fault c_number c_numberAt c_figures c_written c_wanted c_found c_drawnNow c_worth c_hold c_way c_acts c_sDay c_sUps c_sUp c_sMarks c_paidAll c_isPlayed c_isOn c_handMoved c_handPaid c_regret c_aside c_other c_states c_kept c_keptLong w2 p1) := hD
  refine lv_iconst (v := 0) hx hb dX9_keepsAll_17 (by decide) ?_
  refine lv_istore_n (lv' := [(2, .int 0), (0, .ref (ad 0)), (1, .int p1)]) hx hb dX9_keepsAll_18 rfl hl (by decide) rfl (fun ls hl => ?_)
  obtain ⟨c_tree_3, c_kept_4, c_keptAt_5, v6, hf⟩ := bd3_some hf
  refine LP19 FU _ _ _ _ _ _ _ _ _ _ _ _ _ _ _ _ _ _ _ _ _ _ _ _ _ _ _ _ _ _ _ _ _ _ _ _ _ _ _ _ _ _ _ _ _ _ _ _ _ _ _ _ _ hP hD hS v6 (lv_sub hl [1, 2, 0] rfl) (fun H locs ls hP hD hS hl => ?_)
  refine lv_iconst (v := 0) hx hb dX9_keepsAll_47 (by decide) ?_
  refine lv_istore_n (lv' := [(2, .int 0), (0, .ref (ad 0)), (1, .int p1)]) hx hb dX9_keepsAll_48 rfl hl (by decide) rfl (fun ls hl => ?_)
  obtain ⟨c_bonds_7, c_kept_8, c_keptAt_9, v10, hf⟩ := bd3_some hf
  refine LP49 FU _ _ _ _ _ _ _ _ _ _ _ _ _ _ _ _ _ _ _ _ _ _ _ _ _ _ _ _ _ _ _ _ _ _ _ _ _ _ _ _ _ _ _ _ _ _ _ _ _ _ _ _ _ hP hD hS v10 (lv_sub hl [1, 2, 0] rfl) (fun H locs ls hP hD hS hl => ?_)
  refine lv_iconst (v := 0) hx hb dX9_keepsAll_78 (by decide) ?_
  refine lv_istore_n (lv' := [(2, .int 0), (0, .ref (ad 0)), (1, .int p1)]) hx hb dX9_keepsAll_79 rfl hl (by decide) rfl (fun ls hl => ?_)
  obtain ⟨c_moves_11, c_handMoves_12, c_kept_13, c_keptAt_14, v15, hf⟩ := bd4_some hf
  refine LP80 FU _ _ _ _ _ _ _ _ _ _ _ _ _ _ _ _ _ _ _ _ _ _ _ _ _ _ _ _ _ _ _ _ _ _ _ _ _ _ _ _ _ _ _ _ _ _ _ _ _ _ _ _ _ _ hP hD hS v15 (lv_sub hl [1, 2, 0] rfl) (fun H locs ls hP hD hS hl => ?_)
  refine lv_aload_n hx hb dX9_keepsAll_124 rfl (lv_at hl 0 rfl) ?_
  refine lv_aload_n hx hb dX9_keepsAll_125 rfl (lv_at hl 0 rfl) ?_
  refine lv_aload_n hx hb dX9_keepsAll_126 rfl (lv_at hl 0 rfl) ?_
  refine va_get (D := (dC, dI)) (ci := 9) (v := .int c_moved) (C := RX9) (T := TX9) (N := 45) hx hb hts (fun w h => gw_mem (inX9 w h)) hown hK.1 hP 0 rfl rfl 6 (by decide) (hts _ (gw_mem wfX9_76)) (fun _ h9 => h9) rfl dX9_keepsAll_127 ?_
  obtain ⟨r16, c_kept_17, c_keptAt_18, v19, hf⟩ := bd3_some hf
  refine gci (va_runV (As := [.int c_moved]) (rest := [.ref (ad 0)]) ⟨hx, hb, hml, hown, hts⟩ (tX9_keeps l dC dI dA ad H.size v19) (ccX9_X9_keeps hts ⟨Nat.le_of_ble_eq_true rfl, Nat.le_of_ble_eq_true rfl⟩) (gPreV (ci := 9) (q0 := 0) hP hK hD rfl rfl) rfl rfl hl.1 rfl (lv_room (Nat.le_of_ble_eq_true rfl)) dX9_keepsAll_130 ⟨Nat.le_of_ble_eq_true rfl, Nat.le_of_ble_eq_true rfl⟩) hD hS hA (fun H locs hP hD hS => ?_)
  refine va_put (D := (dC, dI)) (ci := 9) (v := .int r16) (ty := .int) (C := RX9) (T := TX9) (N := 45) hx hb hts (fun w h => gw_mem (inX9 w h)) tyX9 tyX9_ok nmX9 hown hK.1 hP hD hS 0 rfl rfl 6 (by decide) (hts _ (gw_mem wfX9_76)) (fun _ h9 => h9) rfl (by decide +kernel) rfl rfl (Nat.le_of_ble_eq_true rfl) dX9_keepsAll_133 (fun H locs hP hD hS => ?_)
  have hP : va_P (dC, dI) vwCl (mW dA ad c_tape c_taped c_tree_3 c_bonds_7 c_moves_11 c_handMoves_12 r16 c_days c_likely c_outOf c_rateNow c_pence c_top c_bottom c_spot c_textLong c_fault c_number c_numberAt c_figures c_written c_wanted c_found c_drawnNow c_worth c_hold c_way c_acts c_sDay c_sUps c_sUp c_sMarks c_paidAll c_isPlayed c_isOn c_handMoved c_handPaid c_regret c_aside c_other c_states c_kept_17 c_keptLong c_keptAt_18 p1) H := hP
  have hD : va_D A (mW dA ad c_tape c_taped c_tree_3 c_bonds_7 c_moves_11 c_handMoves_12 r16 c_days c_likely c_outOf c_rateNow c_pence c_top c_bottom c_spot c_textLong c_fault c_number c_numberAt c_figures c_written c_wanted c_found c_drawnNow c_worth c_hold c_way c_acts c_sDay c_sUps c_sUp c_sMarks c_paidAll c_isPlayed c_isOn c_handMoved c_handPaid c_regret c_aside c_other c_states c_kept_17 c_keptLong c_keptAt_18 p1) := hD
  refine lv_aload_n hx hb dX9_keepsAll_136 rfl (lv_at hl 0 rfl) ?_
  refine lv_aload_n hx hb dX9_keepsAll_137 rfl (lv_at hl 0 rfl) ?_
  refine lv_aload_n hx hb dX9_keepsAll_138 rfl (lv_at hl 0 rfl) ?_
  refine va_get (D := (dC, dI)) (ci := 9) (v := .int c_handMoved) (C := RX9) (T := TX9) (N := 45) hx hb hts (fun w h => gw_mem (inX9 w h)) hown hK.1 hP 0 rfl rfl 35 (by decide) (hts _ (gw_mem wfX9_409)) (fun _ h9 => h9) rfl dX9_keepsAll_139 ?_
  obtain ⟨r20, c_kept_21, c_keptAt_22, v23, hf⟩ := bd3_some hf
  refine gci (va_runV (As := [.int c_handMoved]) (rest := [.ref (ad 0)]) ⟨hx, hb, hml, hown, hts⟩ (tX9_keeps l dC dI dA ad H.size v23) (ccX9_X9_keeps hts ⟨Nat.le_of_ble_eq_true rfl, Nat.le_of_ble_eq_true rfl⟩) (gPreV (ci := 9) (q0 := 0) hP hK hD rfl rfl) rfl rfl hl.1 rfl (lv_room (Nat.le_of_ble_eq_true rfl)) dX9_keepsAll_142 ⟨Nat.le_of_ble_eq_true rfl, Nat.le_of_ble_eq_true rfl⟩) hD hS hA (fun H locs hP hD hS => ?_)
  refine va_put (D := (dC, dI)) (ci := 9) (v := .int r20) (ty := .int) (C := RX9) (T := TX9) (N := 45) hx hb hts (fun w h => gw_mem (inX9 w h)) tyX9 tyX9_ok nmX9 hown hK.1 hP hD hS 0 rfl rfl 35 (by decide) (hts _ (gw_mem wfX9_409)) (fun _ h9 => h9) rfl (by decide +kernel) rfl rfl (Nat.le_of_ble_eq_true rfl) dX9_keepsAll_145 (fun H locs hP hD hS => ?_)
  have hP : va_P (dC, dI) vwCl (mW dA ad c_tape c_taped c_tree_3 c_bonds_7 c_moves_11 c_handMoves_12 r16 c_days c_likely c_outOf c_rateNow c_pence c_top c_bottom c_spot c_textLong c_fault c_number c_numberAt c_figures c_written c_wanted c_found c_drawnNow c_worth c_hold c_way c_acts c_sDay c_sUps c_sUp c_sMarks c_paidAll c_isPlayed c_isOn r20 c_handPaid c_regret c_aside c_other c_states c_kept_21 c_keptLong c_keptAt_22 p1) H := hP
  have hD : va_D A (mW dA ad c_tape c_taped c_tree_3 c_bonds_7 c_moves_11 c_handMoves_12 r16 c_days c_likely c_outOf c_rateNow c_pence c_top c_bottom c_spot c_textLong c_fault c_number c_numberAt c_figures c_written c_wanted c_found c_drawnNow c_worth c_hold c_way c_acts c_sDay c_sUps c_sUp c_sMarks c_paidAll c_isPlayed c_isOn r20 c_handPaid c_regret c_aside c_other c_states c_kept_21 c_keptLong c_keptAt_22 p1) := hD
  refine lv_aload_n hx hb dX9_keepsAll_148 rfl (lv_at hl 0 rfl) ?_
  refine lv_aload_n hx hb dX9_keepsAll_149 rfl (lv_at hl 0 rfl) ?_
  refine lv_aload_n hx hb dX9_keepsAll_150 rfl (lv_at hl 0 rfl) ?_
  refine va_get (D := (dC, dI)) (ci := 9) (v := .int c_isPlayed) (C := RX9) (T := TX9) (N := 45) hx hb hts (fun w h => gw_mem (inX9 w h)) hown hK.1 hP 0 rfl rfl 33 (by decide) (hts _ (gw_mem wfX9_412)) (fun _ h9 => h9) rfl dX9_keepsAll_151 ?_
  refine lv_if_eq (tgt := 161) hx hb dX9_keepsAll_154 (by decide) (fun k24 => ?_) (fun k24 => ?_)
  · replace hf := ifp k24 hf
    refine lv_iconst (v := 0) hx hb dX9_keepsAll_161 (by decide) ?_
    obtain ⟨r25, c_kept_26, c_keptAt_27, v28, hf⟩ := bd3_some hf
    refine gci (va_runV (As := [.int 0]) (rest := [.ref (ad 0)]) ⟨hx, hb, hml, hown, hts⟩ (tX9_keeps l dC dI dA ad H.size v28) (ccX9_X9_keeps hts ⟨Nat.le_of_ble_eq_true rfl, Nat.le_of_ble_eq_true rfl⟩) (gPreV (ci := 9) (q0 := 0) hP hK hD rfl rfl) rfl rfl hl.1 rfl (lv_room (Nat.le_of_ble_eq_true rfl)) dX9_keepsAll_162 ⟨Nat.le_of_ble_eq_true rfl, Nat.le_of_ble_eq_true rfl⟩) hD hS hA (fun H locs hP hD hS => ?_)
    refine lv_iconst (v := 1) hx hb dX9_keepsAll_165 (by decide) ?_
    refine lv_icmp_ne (tgt := 173) hx hb dX9_keepsAll_166 (by decide) (fun k29 => ?_) (fun k29 => ?_)
    · replace hf := ifn k29 hf
      refine lv_iconst (v := 0) hx hb dX9_keepsAll_173 (by decide) ?_
      refine va_put (D := (dC, dI)) (ci := 9) (v := .int 0) (ty := .boolean) (C := RX9) (T := TX9) (N := 45) hx hb hts (fun w h => gw_mem (inX9 w h)) tyX9 tyX9_ok nmX9 hown hK.1 hP hD hS 0 rfl rfl 33 (by decide) (hts _ (gw_mem wfX9_412)) (fun _ h9 => h9) rfl (by decide +kernel) rfl rfl (Nat.le_of_ble_eq_true rfl) dX9_keepsAll_174 (fun H locs hP hD hS => ?_)
      have hP : va_P (dC, dI) vwCl (mW dA ad c_tape c_taped c_tree_3 c_bonds_7 c_moves_11 c_handMoves_12 r16 c_days c_likely c_outOf c_rateNow c_pence c_top c_bottom c_spot c_textLong c_fault c_number c_numberAt c_figures c_written c_wanted c_found c_drawnNow c_worth c_hold c_way c_acts c_sDay c_sUps c_sUp c_sMarks c_paidAll 0 c_isOn r20 c_handPaid c_regret c_aside c_other c_states c_kept_26 c_keptLong c_keptAt_27 p1) H := hP
      have hD : va_D A (mW dA ad c_tape c_taped c_tree_3 c_bonds_7 c_moves_11 c_handMoves_12 r16 c_days c_likely c_outOf c_rateNow c_pence c_top c_bottom c_spot c_textLong c_fault c_number c_numberAt c_figures c_written c_wanted c_found c_drawnNow c_worth c_hold c_way c_acts c_sDay c_sUps c_sUp c_sMarks c_paidAll 0 c_isOn r20 c_handPaid c_regret c_aside c_other c_states c_kept_26 c_keptLong c_keptAt_27 p1) := hD
      refine lv_aload_n hx hb dX9_keepsAll_177 rfl (lv_at hl 0 rfl) ?_
      refine lv_aload_n hx hb dX9_keepsAll_178 rfl (lv_at hl 0 rfl) ?_
      refine lv_aload_n hx hb dX9_keepsAll_179 rfl (lv_at hl 0 rfl) ?_
      refine va_get (D := (dC, dI)) (ci := 9) (v := .int c_isOn) (C := RX9) (T := TX9) (N := 45) hx hb hts (fun w h => gw_mem (inX9 w h)) hown hK.1 hP 0 rfl rfl 34 (by decide) (hts _ (gw_mem wfX9_416)) (fun _ h9 => h9) rfl dX9_keepsAll_180 ?_
      refine lv_if_eq (tgt := 190) hx hb dX9_keepsAll_183 (by decide) (fun k30 => ?_) (fun k30 => ?_)
      · replace hf := ifp k30 hf
        refine lv_iconst (v := 0) hx hb dX9_keepsAll_190 (by decide) ?_
        obtain ⟨r31, c_kept_32, c_keptAt_33, v34, hf⟩ := bd3_some hf
        refine gci (va_runV (As := [.int 0]) (rest := [.ref (ad 0)]) ⟨hx, hb, hml, hown, hts⟩ (tX9_keeps l dC dI dA ad H.size v34) (ccX9_X9_keeps hts ⟨Nat.le_of_ble_eq_true rfl, Nat.le_of_ble_eq_true rfl⟩) (gPreV (ci := 9) (q0 := 0) hP hK hD rfl rfl) rfl rfl hl.1 rfl (lv_room (Nat.le_of_ble_eq_true rfl)) dX9_keepsAll_191 ⟨Nat.le_of_ble_eq_true rfl, Nat.le_of_ble_eq_true rfl⟩) hD hS hA (fun H locs hP hD hS => ?_)
        refine lv_iconst (v := 1) hx hb dX9_keepsAll_194 (by decide) ?_
        refine lv_icmp_ne (tgt := 202) hx hb dX9_keepsAll_195 (by decide) (fun k35 => ?_) (fun k35 => ?_)
        · replace hf := ifn k35 hf
          refine lv_iconst (v := 0) hx hb dX9_keepsAll_202 (by decide) ?_
          refine va_put (D := (dC, dI)) (ci := 9) (v := .int 0) (ty := .boolean) (C := RX9) (T := TX9) (N := 45) hx hb hts (fun w h => gw_mem (inX9 w h)) tyX9 tyX9_ok nmX9 hown hK.1 hP hD hS 0 rfl rfl 34 (by decide) (hts _ (gw_mem wfX9_416)) (fun _ h9 => h9) rfl (by decide +kernel) rfl rfl (Nat.le_of_ble_eq_true rfl) dX9_keepsAll_203 (fun H locs hP hD hS => ?_)
          have hP : va_P (dC, dI) vwCl (mW dA ad c_tape c_taped c_tree_3 c_bonds_7 c_moves_11 c_handMoves_12 r16 c_days c_likely c_outOf c_rateNow c_pence c_top c_bottom c_spot c_textLong c_fault c_number c_numberAt c_figures c_written c_wanted c_found c_drawnNow c_worth c_hold c_way c_acts c_sDay c_sUps c_sUp c_sMarks c_paidAll 0 0 r20 c_handPaid c_regret c_aside c_other c_states c_kept_32 c_keptLong c_keptAt_33 p1) H := hP
          have hD : va_D A (mW dA ad c_tape c_taped c_tree_3 c_bonds_7 c_moves_11 c_handMoves_12 r16 c_days c_likely c_outOf c_rateNow c_pence c_top c_bottom c_spot c_textLong c_fault c_number c_numberAt c_figures c_written c_wanted c_found c_drawnNow c_worth c_hold c_way c_acts c_sDay c_sUps c_sUp c_sMarks c_paidAll 0 0 r20 c_handPaid c_regret c_aside c_other c_states c_kept_32 c_keptLong c_keptAt_33 p1) := hD
          refine lv_iload_n hx hb dX9_keepsAll_206 rfl (lv_at hl 1 rfl) ?_
          refine lv_if_eq (tgt := 242) hx hb dX9_keepsAll_207 (by decide) (fun k36 => ?_) (fun k36 => ?_)
          · replace hf := ifp k36 hf
            refine lv_aload_n hx hb dX9_keepsAll_242 rfl (lv_at hl 0 rfl) ?_
            refine lv_aload_n hx hb dX9_keepsAll_243 rfl (lv_at hl 0 rfl) ?_
            refine va_get (D := (dC, dI)) (ci := 9) (v := .ref (ad 14)) (C := RX9) (T := TX9) (N := 45) hx hb hts (fun w h => gw_mem (inX9 w h)) hown hK.1 hP 0 rfl rfl 42 (by decide) (hts _ (gw_mem wfX9_51)) (fun _ h9 => h9) rfl dX9_keepsAll_244 ?_
            refine lv_iconst (v := 2) hx hb dX9_keepsAll_247 (by decide) ?_
            refine lv_aload_n hx hb dX9_keepsAll_248 rfl (lv_at hl 0 rfl) ?_
            refine va_get (D := (dC, dI)) (ci := 9) (v := .int c_states) (C := RX9) (T := TX9) (N := 45) hx hb hts (fun w h => gw_mem (inX9 w h)) hown hK.1 hP 0 rfl rfl 40 (by decide) (hts _ (gw_mem wfX9_446)) (fun _ h9 => h9) rfl dX9_keepsAll_249 ?_
            refine lv_imul hx hb dX9_keepsAll_252 ?_
            obtain ⟨h37, hf⟩ := og_some hf
            refine va_lald hx hb hK.1 hP 14 1 rfl rfl (okI_in h37) dX9_keepsAll_253 ?_
            refine lv_topl (fun w38 ew38 => ?_)
            replace hf := nm_at hf ew38
            refine va_put (D := (dC, dI)) (ci := 9) (v := .long w38) (ty := .long) (C := RX9) (T := TX9) (N := 45) hx hb hts (fun w h => gw_mem (inX9 w h)) tyX9 tyX9_ok nmX9 hown hK.1 hP hD hS 0 rfl rfl 36 (by decide) (hts _ (gw_mem wfX9_419)) (fun _ h9 => h9) rfl (by decide +kernel) rfl rfl (Nat.le_of_ble_eq_true rfl) dX9_keepsAll_254 (fun H locs hP hD hS => ?_)
            have hP : va_P (dC, dI) vwCl (mW dA ad c_tape c_taped c_tree_3 c_bonds_7 c_moves_11 c_handMoves_12 r16 c_days c_likely c_outOf c_rateNow c_pence c_top c_bottom c_spot c_textLong c_fault c_number c_numberAt c_figures c_written c_wanted c_found c_drawnNow c_worth c_hold c_way c_acts c_sDay c_sUps c_sUp c_sMarks c_paidAll 0 0 r20 w38 c_regret c_aside c_other c_states c_kept_32 c_keptLong c_keptAt_33 p1) H := hP
            have hD : va_D A (mW dA ad c_tape c_taped c_tree_3 c_bonds_7 c_moves_11 c_handMoves_12 r16 c_days c_likely c_outOf c_rateNow c_pence c_top c_bottom c_spot c_textLong c_fault c_number c_numberAt c_figures c_written c_wanted c_found c_drawnNow c_worth c_hold c_way c_acts c_sDay c_sUps c_sUp c_sMarks c_paidAll 0 0 r20 w38 c_regret c_aside c_other c_states c_kept_32 c_keptLong c_keptAt_33 p1) := hD
            refine lv_aload_n hx hb dX9_keepsAll_257 rfl (lv_at hl 0 rfl) ?_
            refine lv_aload_n hx hb dX9_keepsAll_258 rfl (lv_at hl 0 rfl) ?_
            refine va_get (D := (dC, dI)) (ci := 9) (v := .ref (ad 14)) (C := RX9) (T := TX9) (N := 45) hx hb hts (fun w h => gw_mem (inX9 w h)) hown hK.1 hP 0 rfl rfl 42 (by decide) (hts _ (gw_mem wfX9_51)) (fun _ h9 => h9) rfl dX9_keepsAll_259 ?_
            refine lv_iconst (v := 2) hx hb dX9_keepsAll_262 (by decide) ?_
            refine lv_aload_n hx hb dX9_keepsAll_263 rfl (lv_at hl 0 rfl) ?_
            refine va_get (D := (dC, dI)) (ci := 9) (v := .int c_states) (C := RX9) (T := TX9) (N := 45) hx hb hts (fun w h => gw_mem (inX9 w h)) hown hK.1 hP 0 rfl rfl 40 (by decide) (hts _ (gw_mem wfX9_446)) (fun _ h9 => h9) rfl dX9_keepsAll_264 ?_
            refine lv_imul hx hb dX9_keepsAll_267 ?_
            refine lv_iconst (v := 1) hx hb dX9_keepsAll_268 (by decide) ?_
            refine lv_iadd hx hb dX9_keepsAll_269 ?_
            obtain ⟨h39, hf⟩ := og_some hf
            refine va_lald hx hb hK.1 hP 14 1 rfl rfl (okI_in h39) dX9_keepsAll_270 ?_
            refine lv_topl (fun w40 ew40 => ?_)
            replace hf := nm_at hf ew40
            refine va_put (D := (dC, dI)) (ci := 9) (v := .long w40) (ty := .long) (C := RX9) (T := TX9) (N := 45) hx hb hts (fun w h => gw_mem (inX9 w h)) tyX9 tyX9_ok nmX9 hown hK.1 hP hD hS 0 rfl rfl 37 (by decide) (hts _ (gw_mem wfX9_422)) (fun _ h9 => h9) rfl (by decide +kernel) rfl rfl (Nat.le_of_ble_eq_true rfl) dX9_keepsAll_271 (fun H locs hP hD hS => ?_)
            have hP : va_P (dC, dI) vwCl (mW dA ad c_tape c_taped c_tree_3 c_bonds_7 c_moves_11 c_handMoves_12 r16 c_days c_likely c_outOf c_rateNow c_pence c_top c_bottom c_spot c_textLong c_fault c_number c_numberAt c_figures c_written c_wanted c_found c_drawnNow c_worth c_hold c_way c_acts c_sDay c_sUps c_sUp c_sMarks c_paidAll 0 0 r20 w38 w40 c_aside c_other c_states c_kept_32 c_keptLong c_keptAt_33 p1) H := hP
            have hD : va_D A (mW dA ad c_tape c_taped c_tree_3 c_bonds_7 c_moves_11 c_handMoves_12 r16 c_days c_likely c_outOf c_rateNow c_pence c_top c_bottom c_spot c_textLong c_fault c_number c_numberAt c_figures c_written c_wanted c_found c_drawnNow c_worth c_hold c_way c_acts c_sDay c_sUps c_sUp c_sMarks c_paidAll 0 0 r20 w38 w40 c_aside c_other c_states c_kept_32 c_keptLong c_keptAt_33 p1) := hD
            cases hf
            exact W.vret hx hb hr (fun t ht _ => gqv hP hD hS ht) hS.2.2 dX9_keepsAll_274
          · replace hf := ifn k36 hf
            refine lv_aload_n hx hb dX9_keepsAll_210 rfl (lv_at hl 0 rfl) ?_
            refine va_get (D := (dC, dI)) (ci := 9) (v := .ref (ad 14)) (C := RX9) (T := TX9) (N := 45) hx hb hts (fun w h => gw_mem (inX9 w h)) hown hK.1 hP 0 rfl rfl 42 (by decide) (hts _ (gw_mem wfX9_51)) (fun _ h9 => h9) rfl dX9_keepsAll_211 ?_
            refine lv_iconst (v := 2) hx hb dX9_keepsAll_214 (by decide) ?_
            refine lv_aload_n hx hb dX9_keepsAll_215 rfl (lv_at hl 0 rfl) ?_
            refine va_get (D := (dC, dI)) (ci := 9) (v := .int c_states) (C := RX9) (T := TX9) (N := 45) hx hb hts (fun w h => gw_mem (inX9 w h)) hown hK.1 hP 0 rfl rfl 40 (by decide) (hts _ (gw_mem wfX9_446)) (fun _ h9 => h9) rfl dX9_keepsAll_216 ?_
            refine lv_imul hx hb dX9_keepsAll_219 ?_
            refine lv_aload_n hx hb dX9_keepsAll_220 rfl (lv_at hl 0 rfl) ?_
            refine va_get (D := (dC, dI)) (ci := 9) (v := .long c_handPaid) (C := RX9) (T := TX9) (N := 45) hx hb hts (fun w h => gw_mem (inX9 w h)) hown hK.1 hP 0 rfl rfl 36 (by decide) (hts _ (gw_mem wfX9_419)) (fun _ h9 => h9) rfl dX9_keepsAll_221 ?_
            obtain ⟨h41, hf⟩ := og_some hf
            obtain ⟨w42, ew42⟩ : ∃ y : Nat → Int64, y = vp_updL c_keptLong (Int32.toNatClampNeg (2 * c_states)) c_handPaid := ⟨_, rfl⟩
            replace hf := nm_at hf ew42
            refine va_last hx hb hK.1 hP hD hS 14 1 rfl rfl (okI_in h41) dX9_keepsAll_224 (fun H locs hP hD hS => ?_)
            have hP : va_P (dC, dI) vwCl (mW dA ad c_tape c_taped c_tree_3 c_bonds_7 c_moves_11 c_handMoves_12 r16 c_days c_likely c_outOf c_rateNow c_pence c_top c_bottom c_spot c_textLong c_fault c_number c_numberAt c_figures c_written c_wanted c_found c_drawnNow c_worth c_hold c_way c_acts c_sDay c_sUps c_sUp c_sMarks c_paidAll 0 0 r20 c_handPaid c_regret c_aside c_other c_states c_kept_32 w42 c_keptAt_33 p1) H := by rw [ew42]; exact hP
            have hD : va_D A (mW dA ad c_tape c_taped c_tree_3 c_bonds_7 c_moves_11 c_handMoves_12 r16 c_days c_likely c_outOf c_rateNow c_pence c_top c_bottom c_spot c_textLong c_fault c_number c_numberAt c_figures c_written c_wanted c_found c_drawnNow c_worth c_hold c_way c_acts c_sDay c_sUps c_sUp c_sMarks c_paidAll 0 0 r20 c_handPaid c_regret c_aside c_other c_states c_kept_32 w42 c_keptAt_33 p1) := by rw [ew42]; exact hD
            refine lv_aload_n hx hb dX9_keepsAll_225 rfl (lv_at hl 0 rfl) ?_
            refine va_get (D := (dC, dI)) (ci := 9) (v := .ref (ad 14)) (C := RX9) (T := TX9) (N := 45) hx hb hts (fun w h => gw_mem (inX9 w h)) hown hK.1 hP 0 rfl rfl 42 (by decide) (hts _ (gw_mem wfX9_51)) (fun _ h9 => h9) rfl dX9_keepsAll_226 ?_
            refine lv_iconst (v := 2) hx hb dX9_keepsAll_229 (by decide) ?_
            refine lv_aload_n hx hb dX9_keepsAll_230 rfl (lv_at hl 0 rfl) ?_
            refine va_get (D := (dC, dI)) (ci := 9) (v := .int c_states) (C := RX9) (T := TX9) (N := 45) hx hb hts (fun w h => gw_mem (inX9 w h)) hown hK.1 hP 0 rfl rfl 40 (by decide) (hts _ (gw_mem wfX9_446)) (fun _ h9 => h9) rfl dX9_keepsAll_231 ?_
            refine lv_imul hx hb dX9_keepsAll_234 ?_
            refine lv_iconst (v := 1) hx hb dX9_keepsAll_235 (by decide) ?_
            refine lv_iadd hx hb dX9_keepsAll_236 ?_
            refine lv_aload_n hx hb dX9_keepsAll_237 rfl (lv_at hl 0 rfl) ?_
            refine va_get (D := (dC, dI)) (ci := 9) (v := .long c_regret) (C := RX9) (T := TX9) (N := 45) hx hb hts (fun w h => gw_mem (inX9 w h)) hown hK.1 hP 0 rfl rfl 37 (by decide) (hts _ (gw_mem wfX9_422)) (fun _ h9 => h9) rfl dX9_keepsAll_238 ?_
            obtain ⟨h43, hf⟩ := og_some hf
            obtain ⟨w44, ew44⟩ : ∃ y : Nat → Int64, y = vp_updL w42 (Int32.toNatClampNeg ((2 * c_states) + 1)) c_regret := ⟨_, rfl⟩
            replace hf := nm_at hf ew44
            refine va_last hx hb hK.1 hP hD hS 14 1 rfl rfl (okI_in h43) dX9_keepsAll_241 (fun H locs hP hD hS => ?_)
            have hP : va_P (dC, dI) vwCl (mW dA ad c_tape c_taped c_tree_3 c_bonds_7 c_moves_11 c_handMoves_12 r16 c_days c_likely c_outOf c_rateNow c_pence c_top c_bottom c_spot c_textLong c_fault c_number c_numberAt c_figures c_written c_wanted c_found c_drawnNow c_worth c_hold c_way c_acts c_sDay c_sUps c_sUp c_sMarks c_paidAll 0 0 r20 c_handPaid c_regret c_aside c_other c_states c_kept_32 w44 c_keptAt_33 p1) H := by rw [ew44]; exact hP
            have hD : va_D A (mW dA ad c_tape c_taped c_tree_3 c_bonds_7 c_moves_11 c_handMoves_12 r16 c_days c_likely c_outOf c_rateNow c_pence c_top c_bottom c_spot c_textLong c_fault c_number c_numberAt c_figures c_written c_wanted c_found c_drawnNow c_worth c_hold c_way c_acts c_sDay c_sUps c_sUp c_sMarks c_paidAll 0 0 r20 c_handPaid c_regret c_aside c_other c_states c_kept_32 w44 c_keptAt_33 p1) := by rw [ew44]; exact hD
            refine lv_aload_n hx hb dX9_keepsAll_242 rfl (lv_at hl 0 rfl) ?_
            refine lv_aload_n hx hb dX9_keepsAll_243 rfl (lv_at hl 0 rfl) ?_
            refine va_get (D := (dC, dI)) (ci := 9) (v := .ref (ad 14)) (C := RX9) (T := TX9) (N := 45) hx hb hts (fun w h => gw_mem (inX9 w h)) hown hK.1 hP 0 rfl rfl 42 (by decide) (hts _ (gw_mem wfX9_51)) (fun _ h9 => h9) rfl dX9_keepsAll_244 ?_
            refine lv_iconst (v := 2) hx hb dX9_keepsAll_247 (by decide) ?_
            refine lv_aload_n hx hb dX9_keepsAll_248 rfl (lv_at hl 0 rfl) ?_
            refine va_get (D := (dC, dI)) (ci := 9) (v := .int c_states) (C := RX9) (T := TX9) (N := 45) hx hb hts (fun w h => gw_mem (inX9 w h)) hown hK.1 hP 0 rfl rfl 40 (by decide) (hts _ (gw_mem wfX9_446)) (fun _ h9 => h9) rfl dX9_keepsAll_249 ?_
            refine lv_imul hx hb dX9_keepsAll_252 ?_
            obtain ⟨h45, hf⟩ := og_some hf
            refine va_lald hx hb hK.1 hP 14 1 rfl rfl (okI_in h45) dX9_keepsAll_253 ?_
            refine lv_topl (fun w46 ew46 => ?_)
            replace hf := nm_at hf ew46
            refine va_put (D := (dC, dI)) (ci := 9) (v := .long w46) (ty := .long) (C := RX9) (T := TX9) (N := 45) hx hb hts (fun w h => gw_mem (inX9 w h)) tyX9 tyX9_ok nmX9 hown hK.1 hP hD hS 0 rfl rfl 36 (by decide) (hts _ (gw_mem wfX9_419)) (fun _ h9 => h9) rfl (by decide +kernel) rfl rfl (Nat.le_of_ble_eq_true rfl) dX9_keepsAll_254 (fun H locs hP hD hS => ?_)
            have hP : va_P (dC, dI) vwCl (mW dA ad c_tape c_taped c_tree_3 c_bonds_7 c_moves_11 c_handMoves_12 r16 c_days c_likely c_outOf c_rateNow c_pence c_top c_bottom c_spot c_textLong c_fault c_number c_numberAt c_figures c_written c_wanted c_found c_drawnNow c_worth c_hold c_way c_acts c_sDay c_sUps c_sUp c_sMarks c_paidAll 0 0 r20 w46 c_regret c_aside c_other c_states c_kept_32 w44 c_keptAt_33 p1) H := hP
            have hD : va_D A (mW dA ad c_tape c_taped c_tree_3 c_bonds_7 c_moves_11 c_handMoves_12 r16 c_days c_likely c_outOf c_rateNow c_pence c_top c_bottom c_spot c_textLong c_fault c_number c_numberAt c_figures c_written c_wanted c_found c_drawnNow c_worth c_hold c_way c_acts c_sDay c_sUps c_sUp c_sMarks c_paidAll 0 0 r20 w46 c_regret c_aside c_other c_states c_kept_32 w44 c_keptAt_33 p1) := hD
            refine lv_aload_n hx hb dX9_keepsAll_257 rfl (lv_at hl 0 rfl) ?_
            refine lv_aload_n hx hb dX9_keepsAll_258 rfl (lv_at hl 0 rfl) ?_
            refine va_get (D := (dC, dI)) (ci := 9) (v := .ref (ad 14)) (C := RX9) (T := TX9) (N := 45) hx hb hts (fun w h => gw_mem (inX9 w h)) hown hK.1 hP 0 rfl rfl 42 (by decide) (hts _ (gw_mem wfX9_51)) (fun _ h9 => h9) rfl dX9_keepsAll_259 ?_
            refine lv_iconst (v := 2) hx hb dX9_keepsAll_262 (by decide) ?_
            refine lv_aload_n hx hb dX9_keepsAll_263 rfl (lv_at hl 0 rfl) ?_
            refine va_get (D := (dC, dI)) (ci := 9) (v := .int c_states) (C := RX9) (T := TX9) (N := 45) hx hb hts (fun w h => gw_mem (inX9 w h)) hown hK.1 hP 0 rfl rfl 40 (by decide) (hts _ (gw_mem wfX9_446)) (fun _ h9 => h9) rfl dX9_keepsAll_264 ?_
            refine lv_imul hx hb dX9_keepsAll_267 ?_
            refine lv_iconst (v := 1) hx hb dX9_keepsAll_268 (by decide) ?_
            refine lv_iadd hx hb dX9_keepsAll_269 ?_
            obtain ⟨h47, hf⟩ := og_some hf
            refine va_lald hx hb hK.1 hP 14 1 rfl rfl (okI_in h47) dX9_keepsAll_270 ?_
            refine lv_topl (fun w48 ew48 => ?_)
            replace hf := nm_at hf ew48
            refine va_put (D := (dC, dI)) (ci := 9) (v := .long w48) (ty := .long) (C := RX9) (T := TX9) (N := 45) hx hb hts (fun w h => gw_mem (inX9 w h)) tyX9 tyX9_ok nmX9 hown hK.1 hP hD hS 0 rfl rfl 37 (by decide) (hts _ (gw_mem wfX9_422)) (fun _ h9 => h9) rfl (by decide +kernel) rfl rfl (Nat.le_of_ble_eq_true rfl) dX9_keepsAll_271 (fun H locs hP hD hS => ?_)
            have hP : va_P (dC, dI) vwCl (mW dA ad c_tape c_taped c_tree_3 c_bonds_7 c_moves_11 c_handMoves_12 r16 c_days c_likely c_outOf c_rateNow c_pence c_top c_bottom c_spot c_textLong c_fault c_number c_numberAt c_figures c_written c_wanted c_found c_drawnNow c_worth c_hold c_way c_acts c_sDay c_sUps c_sUp c_sMarks c_paidAll 0 0 r20 w46 w48 c_aside c_other c_states c_kept_32 w44 c_keptAt_33 p1) H := hP
            have hD : va_D A (mW dA ad c_tape c_taped c_tree_3 c_bonds_7 c_moves_11 c_handMoves_12 r16 c_days c_likely c_outOf c_rateNow c_pence c_top c_bottom c_spot c_textLong c_fault c_number c_numberAt c_figures c_written c_wanted c_found c_drawnNow c_worth c_hold c_way c_acts c_sDay c_sUps c_sUp c_sMarks c_paidAll 0 0 r20 w46 w48 c_aside c_other c_states c_kept_32 w44 c_keptAt_33 p1) := hD
            cases hf
            exact W.vret hx hb hr (fun t ht _ => gqv hP hD hS ht) hS.2.2 dX9_keepsAll_274
        · replace hf := ifp k35 hf
          refine lv_iconst (v := 1) hx hb dX9_keepsAll_198 (by decide) ?_
          refine lv_goto (tgt := 203) hx hb dX9_keepsAll_199 (by decide) ?_
          refine va_put (D := (dC, dI)) (ci := 9) (v := .int 1) (ty := .boolean) (C := RX9) (T := TX9) (N := 45) hx hb hts (fun w h => gw_mem (inX9 w h)) tyX9 tyX9_ok nmX9 hown hK.1 hP hD hS 0 rfl rfl 34 (by decide) (hts _ (gw_mem wfX9_416)) (fun _ h9 => h9) rfl (by decide +kernel) rfl rfl (Nat.le_of_ble_eq_true rfl) dX9_keepsAll_203 (fun H locs hP hD hS => ?_)
          have hP : va_P (dC, dI) vwCl (mW dA ad c_tape c_taped c_tree_3 c_bonds_7 c_moves_11 c_handMoves_12 r16 c_days c_likely c_outOf c_rateNow c_pence c_top c_bottom c_spot c_textLong c_fault c_number c_numberAt c_figures c_written c_wanted c_found c_drawnNow c_worth c_hold c_way c_acts c_sDay c_sUps c_sUp c_sMarks c_paidAll 0 1 r20 c_handPaid c_regret c_aside c_other c_states c_kept_32 c_keptLong c_keptAt_33 p1) H := hP
          have hD : va_D A (mW dA ad c_tape c_taped c_tree_3 c_bonds_7 c_moves_11 c_handMoves_12 r16 c_days c_likely c_outOf c_rateNow c_pence c_top c_bottom c_spot c_textLong c_fault c_number c_numberAt c_figures c_written c_wanted c_found c_drawnNow c_worth c_hold c_way c_acts c_sDay c_sUps c_sUp c_sMarks c_paidAll 0 1 r20 c_handPaid c_regret c_aside c_other c_states c_kept_32 c_keptLong c_keptAt_33 p1) := hD
          refine lv_iload_n hx hb dX9_keepsAll_206 rfl (lv_at hl 1 rfl) ?_
          refine lv_if_eq (tgt := 242) hx hb dX9_keepsAll_207 (by decide) (fun k49 => ?_) (fun k49 => ?_)
          · replace hf := ifp k49 hf
            refine lv_aload_n hx hb dX9_keepsAll_242 rfl (lv_at hl 0 rfl) ?_
            refine lv_aload_n hx hb dX9_keepsAll_243 rfl (lv_at hl 0 rfl) ?_
            refine va_get (D := (dC, dI)) (ci := 9) (v := .ref (ad 14)) (C := RX9) (T := TX9) (N := 45) hx hb hts (fun w h => gw_mem (inX9 w h)) hown hK.1 hP 0 rfl rfl 42 (by decide) (hts _ (gw_mem wfX9_51)) (fun _ h9 => h9) rfl dX9_keepsAll_244 ?_
            refine lv_iconst (v := 2) hx hb dX9_keepsAll_247 (by decide) ?_
            refine lv_aload_n hx hb dX9_keepsAll_248 rfl (lv_at hl 0 rfl) ?_
            refine va_get (D := (dC, dI)) (ci := 9) (v := .int c_states) (C := RX9) (T := TX9) (N := 45) hx hb hts (fun w h => gw_mem (inX9 w h)) hown hK.1 hP 0 rfl rfl 40 (by decide) (hts _ (gw_mem wfX9_446)) (fun _ h9 => h9) rfl dX9_keepsAll_249 ?_
            refine lv_imul hx hb dX9_keepsAll_252 ?_
            obtain ⟨h50, hf⟩ := og_some hf
            refine va_lald hx hb hK.1 hP 14 1 rfl rfl (okI_in h50) dX9_keepsAll_253 ?_
            refine lv_topl (fun w51 ew51 => ?_)
            replace hf := nm_at hf ew51
            refine va_put (D := (dC, dI)) (ci := 9) (v := .long w51) (ty := .long) (C := RX9) (T := TX9) (N := 45) hx hb hts (fun w h => gw_mem (inX9 w h)) tyX9 tyX9_ok nmX9 hown hK.1 hP hD hS 0 rfl rfl 36 (by decide) (hts _ (gw_mem wfX9_419)) (fun _ h9 => h9) rfl (by decide +kernel) rfl rfl (Nat.le_of_ble_eq_true rfl) dX9_keepsAll_254 (fun H locs hP hD hS => ?_)
            have hP : va_P (dC, dI) vwCl (mW dA ad c_tape c_taped c_tree_3 c_bonds_7 c_moves_11 c_handMoves_12 r16 c_days c_likely c_outOf c_rateNow c_pence c_top c_bottom c_spot c_textLong c_fault c_number c_numberAt c_figures c_written c_wanted c_found c_drawnNow c_worth c_hold c_way c_acts c_sDay c_sUps c_sUp c_sMarks c_paidAll 0 1 r20 w51 c_regret c_aside c_other c_states c_kept_32 c_keptLong c_keptAt_33 p1) H := hP
            have hD : va_D A (mW dA ad c_tape c_taped c_tree_3 c_bonds_7 c_moves_11 c_handMoves_12 r16 c_days c_likely c_outOf c_rateNow c_pence c_top c_bottom c_spot c_textLong c_fault c_number c_numberAt c_figures c_written c_wanted c_found c_drawnNow c_worth c_hold c_way c_acts c_sDay c_sUps c_sUp c_sMarks c_paidAll 0 1 r20 w51 c_regret c_aside c_other c_states c_kept_32 c_keptLong c_keptAt_33 p1) := hD
            refine lv_aload_n hx hb dX9_keepsAll_257 rfl (lv_at hl 0 rfl) ?_
            refine lv_aload_n hx hb dX9_keepsAll_258 rfl (lv_at hl 0 rfl) ?_
            refine va_get (D := (dC, dI)) (ci := 9) (v := .ref (ad 14)) (C := RX9) (T := TX9) (N := 45) hx hb hts (fun w h => gw_mem (inX9 w h)) hown hK.1 hP 0 rfl rfl 42 (by decide) (hts _ (gw_mem wfX9_51)) (fun _ h9 => h9) rfl dX9_keepsAll_259 ?_
            refine lv_iconst (v := 2) hx hb dX9_keepsAll_262 (by decide) ?_
            refine lv_aload_n hx hb dX9_keepsAll_263 rfl (lv_at hl 0 rfl) ?_
            refine va_get (D := (dC, dI)) (ci := 9) (v := .int c_states) (C := RX9) (T := TX9) (N := 45) hx hb hts (fun w h => gw_mem (inX9 w h)) hown hK.1 hP 0 rfl rfl 40 (by decide) (hts _ (gw_mem wfX9_446)) (fun _ h9 => h9) rfl dX9_keepsAll_264 ?_
            refine lv_imul hx hb dX9_keepsAll_267 ?_
            refine lv_iconst (v := 1) hx hb dX9_keepsAll_268 (by decide) ?_
            refine lv_iadd hx hb dX9_keepsAll_269 ?_
            obtain ⟨h52, hf⟩ := og_some hf
            refine va_lald hx hb hK.1 hP 14 1 rfl rfl (okI_in h52) dX9_keepsAll_270 ?_
            refine lv_topl (fun w53 ew53 => ?_)
            replace hf := nm_at hf ew53
            refine va_put (D := (dC, dI)) (ci := 9) (v := .long w53) (ty := .long) (C := RX9) (T := TX9) (N := 45) hx hb hts (fun w h => gw_mem (inX9 w h)) tyX9 tyX9_ok nmX9 hown hK.1 hP hD hS 0 rfl rfl 37 (by decide) (hts _ (gw_mem wfX9_422)) (fun _ h9 => h9) rfl (by decide +kernel) rfl rfl (Nat.le_of_ble_eq_true rfl) dX9_keepsAll_271 (fun H locs hP hD hS => ?_)
            have hP : va_P (dC, dI) vwCl (mW dA ad c_tape c_taped c_tree_3 c_bonds_7 c_moves_11 c_handMoves_12 r16 c_days c_likely c_outOf c_rateNow c_pence c_top c_bottom c_spot c_textLong c_fault c_number c_numberAt c_figures c_written c_wanted c_found c_drawnNow c_worth c_hold c_way c_acts c_sDay c_sUps c_sUp c_sMarks c_paidAll 0 1 r20 w51 w53 c_aside c_other c_states c_kept_32 c_keptLong c_keptAt_33 p1) H := hP
            have hD : va_D A (mW dA ad c_tape c_taped c_tree_3 c_bonds_7 c_moves_11 c_handMoves_12 r16 c_days c_likely c_outOf c_rateNow c_pence c_top c_bottom c_spot c_textLong c_fault c_number c_numberAt c_figures c_written c_wanted c_found c_drawnNow c_worth c_hold c_way c_acts c_sDay c_sUps c_sUp c_sMarks c_paidAll 0 1 r20 w51 w53 c_aside c_other c_states c_kept_32 c_keptLong c_keptAt_33 p1) := hD
            cases hf
            exact W.vret hx hb hr (fun t ht _ => gqv hP hD hS ht) hS.2.2 dX9_keepsAll_274
          · replace hf := ifn k49 hf
            refine lv_aload_n hx hb dX9_keepsAll_210 rfl (lv_at hl 0 rfl) ?_
            refine va_get (D := (dC, dI)) (ci := 9) (v := .ref (ad 14)) (C := RX9) (T := TX9) (N := 45) hx hb hts (fun w h => gw_mem (inX9 w h)) hown hK.1 hP 0 rfl rfl 42 (by decide) (hts _ (gw_mem wfX9_51)) (fun _ h9 => h9) rfl dX9_keepsAll_211 ?_
            refine lv_iconst (v := 2) hx hb dX9_keepsAll_214 (by decide) ?_
            refine lv_aload_n hx hb dX9_keepsAll_215 rfl (lv_at hl 0 rfl) ?_
            refine va_get (D := (dC, dI)) (ci := 9) (v := .int c_states) (C := RX9) (T := TX9) (N := 45) hx hb hts (fun w h => gw_mem (inX9 w h)) hown hK.1 hP 0 rfl rfl 40 (by decide) (hts _ (gw_mem wfX9_446)) (fun _ h9 => h9) rfl dX9_keepsAll_216 ?_
            refine lv_imul hx hb dX9_keepsAll_219 ?_
            refine lv_aload_n hx hb dX9_keepsAll_220 rfl (lv_at hl 0 rfl) ?_
            refine va_get (D := (dC, dI)) (ci := 9) (v := .long c_handPaid) (C := RX9) (T := TX9) (N := 45) hx hb hts (fun w h => gw_mem (inX9 w h)) hown hK.1 hP 0 rfl rfl 36 (by decide) (hts _ (gw_mem wfX9_419)) (fun _ h9 => h9) rfl dX9_keepsAll_221 ?_
            obtain ⟨h54, hf⟩ := og_some hf
            obtain ⟨w55, ew55⟩ : ∃ y : Nat → Int64, y = vp_updL c_keptLong (Int32.toNatClampNeg (2 * c_states)) c_handPaid := ⟨_, rfl⟩
            replace hf := nm_at hf ew55
            refine va_last hx hb hK.1 hP hD hS 14 1 rfl rfl (okI_in h54) dX9_keepsAll_224 (fun H locs hP hD hS => ?_)
            have hP : va_P (dC, dI) vwCl (mW dA ad c_tape c_taped c_tree_3 c_bonds_7 c_moves_11 c_handMoves_12 r16 c_days c_likely c_outOf c_rateNow c_pence c_top c_bottom c_spot c_textLong c_fault c_number c_numberAt c_figures c_written c_wanted c_found c_drawnNow c_worth c_hold c_way c_acts c_sDay c_sUps c_sUp c_sMarks c_paidAll 0 1 r20 c_handPaid c_regret c_aside c_other c_states c_kept_32 w55 c_keptAt_33 p1) H := by rw [ew55]; exact hP
            have hD : va_D A (mW dA ad c_tape c_taped c_tree_3 c_bonds_7 c_moves_11 c_handMoves_12 r16 c_days c_likely c_outOf c_rateNow c_pence c_top c_bottom c_spot c_textLong c_fault c_number c_numberAt c_figures c_written c_wanted c_found c_drawnNow c_worth c_hold c_way c_acts c_sDay c_sUps c_sUp c_sMarks c_paidAll 0 1 r20 c_handPaid c_regret c_aside c_other c_states c_kept_32 w55 c_keptAt_33 p1) := by rw [ew55]; exact hD
            refine lv_aload_n hx hb dX9_keepsAll_225 rfl (lv_at hl 0 rfl) ?_
            refine va_get (D := (dC, dI)) (ci := 9) (v := .ref (ad 14)) (C := RX9) (T := TX9) (N := 45) hx hb hts (fun w h => gw_mem (inX9 w h)) hown hK.1 hP 0 rfl rfl 42 (by decide) (hts _ (gw_mem wfX9_51)) (fun _ h9 => h9) rfl dX9_keepsAll_226 ?_
            refine lv_iconst (v := 2) hx hb dX9_keepsAll_229 (by decide) ?_
            refine lv_aload_n hx hb dX9_keepsAll_230 rfl (lv_at hl 0 rfl) ?_
            refine va_get (D := (dC, dI)) (ci := 9) (v := .int c_states) (C := RX9) (T := TX9) (N := 45) hx hb hts (fun w h => gw_mem (inX9 w h)) hown hK.1 hP 0 rfl rfl 40 (by decide) (hts _ (gw_mem wfX9_446)) (fun _ h9 => h9) rfl dX9_keepsAll_231 ?_
            refine lv_imul hx hb dX9_keepsAll_234 ?_
            refine lv_iconst (v := 1) hx hb dX9_keepsAll_235 (by decide) ?_
            refine lv_iadd hx hb dX9_keepsAll_236 ?_
            refine lv_aload_n hx hb dX9_keepsAll_237 rfl (lv_at hl 0 rfl) ?_
            refine va_get (D := (dC, dI)) (ci := 9) (v := .long c_regret) (C := RX9) (T := TX9) (N := 45) hx hb hts (fun w h => gw_mem (inX9 w h)) hown hK.1 hP 0 rfl rfl 37 (by decide) (hts _ (gw_mem wfX9_422)) (fun _ h9 => h9) rfl dX9_keepsAll_238 ?_
            obtain ⟨h56, hf⟩ := og_some hf
            obtain ⟨w57, ew57⟩ : ∃ y : Nat → Int64, y = vp_updL w55 (Int32.toNatClampNeg ((2 * c_states) + 1)) c_regret := ⟨_, rfl⟩
            replace hf := nm_at hf ew57
            refine va_last hx hb hK.1 hP hD hS 14 1 rfl rfl (okI_in h56) dX9_keepsAll_241 (fun H locs hP hD hS => ?_)
            have hP : va_P (dC, dI) vwCl (mW dA ad c_tape c_taped c_tree_3 c_bonds_7 c_moves_11 c_handMoves_12 r16 c_days c_likely c_outOf c_rateNow c_pence c_top c_bottom c_spot c_textLong c_fault c_number c_numberAt c_figures c_written c_wanted c_found c_drawnNow c_worth c_hold c_way c_acts c_sDay c_sUps c_sUp c_sMarks c_paidAll 0 1 r20 c_handPaid c_regret c_aside c_other c_states c_kept_32 w57 c_keptAt_33 p1) H := by rw [ew57]; exact hP
            have hD : va_D A (mW dA ad c_tape c_taped c_tree_3 c_bonds_7 c_moves_11 c_handMoves_12 r16 c_days c_likely c_outOf c_rateNow c_pence c_top c_bottom c_spot c_textLong c_fault c_number c_numberAt c_figures c_written c_wanted c_found c_drawnNow c_worth c_hold c_way c_acts c_sDay c_sUps c_sUp c_sMarks c_paidAll 0 1 r20 c_handPaid c_regret c_aside c_other c_states c_kept_32 w57 c_keptAt_33 p1) := by rw [ew57]; exact hD
            refine lv_aload_n hx hb dX9_keepsAll_242 rfl (lv_at hl 0 rfl) ?_
            refine lv_aload_n hx hb dX9_keepsAll_243 rfl (lv_at hl 0 rfl) ?_
            refine va_get (D := (dC, dI)) (ci := 9) (v := .ref (ad 14)) (C := RX9) (T := TX9) (N := 45) hx hb hts (fun w h => gw_mem (inX9 w h)) hown hK.1 hP 0 rfl rfl 42 (by decide) (hts _ (gw_mem wfX9_51)) (fun _ h9 => h9) rfl dX9_keepsAll_244 ?_
            refine lv_iconst (v := 2) hx hb dX9_keepsAll_247 (by decide) ?_
            refine lv_aload_n hx hb dX9_keepsAll_248 rfl (lv_at hl 0 rfl) ?_
            refine va_get (D := (dC, dI)) (ci := 9) (v := .int c_states) (C := RX9) (T := TX9) (N := 45) hx hb hts (fun w h => gw_mem (inX9 w h)) hown hK.1 hP 0 rfl rfl 40 (by decide) (hts _ (gw_mem wfX9_446)) (fun _ h9 => h9) rfl dX9_keepsAll_249 ?_
            refine lv_imul hx hb dX9_keepsAll_252 ?_
            obtain ⟨h58, hf⟩ := og_some hf
            refine va_lald hx hb hK.1 hP 14 1 rfl rfl (okI_in h58) dX9_keepsAll_253 ?_
            refine lv_topl (fun w59 ew59 => ?_)
            replace hf := nm_at hf ew59
            refine va_put (D := (dC, dI)) (ci := 9) (v := .long w59) (ty := .long) (C := RX9) (T := TX9) (N := 45) hx hb hts (fun w h => gw_mem (inX9 w h)) tyX9 tyX9_ok nmX9 hown hK.1 hP hD hS 0 rfl rfl 36 (by decide) (hts _ (gw_mem wfX9_419)) (fun _ h9 => h9) rfl (by decide +kernel) rfl rfl (Nat.le_of_ble_eq_true rfl) dX9_keepsAll_254 (fun H locs hP hD hS => ?_)
            have hP : va_P (dC, dI) vwCl (mW dA ad c_tape c_taped c_tree_3 c_bonds_7 c_moves_11 c_handMoves_12 r16 c_days c_likely c_outOf c_rateNow c_pence c_top c_bottom c_spot c_textLong c_fault c_number c_numberAt c_figures c_written c_wanted c_found c_drawnNow c_worth c_hold c_way c_acts c_sDay c_sUps c_sUp c_sMarks c_paidAll 0 1 r20 w59 c_regret c_aside c_other c_states c_kept_32 w57 c_keptAt_33 p1) H := hP
            have hD : va_D A (mW dA ad c_tape c_taped c_tree_3 c_bonds_7 c_moves_11 c_handMoves_12 r16 c_days c_likely c_outOf c_rateNow c_pence c_top c_bottom c_spot c_textLong c_fault c_number c_numberAt c_figures c_written c_wanted c_found c_drawnNow c_worth c_hold c_way c_acts c_sDay c_sUps c_sUp c_sMarks c_paidAll 0 1 r20 w59 c_regret c_aside c_other c_states c_kept_32 w57 c_keptAt_33 p1) := hD
            refine lv_aload_n hx hb dX9_keepsAll_257 rfl (lv_at hl 0 rfl) ?_
            refine lv_aload_n hx hb dX9_keepsAll_258 rfl (lv_at hl 0 rfl) ?_
            refine va_get (D := (dC, dI)) (ci := 9) (v := .ref (ad 14)) (C := RX9) (T := TX9) (N := 45) hx hb hts (fun w h => gw_mem (inX9 w h)) hown hK.1 hP 0 rfl rfl 42 (by decide) (hts _ (gw_mem wfX9_51)) (fun _ h9 => h9) rfl dX9_keepsAll_259 ?_
            refine lv_iconst (v := 2) hx hb dX9_keepsAll_262 (by decide) ?_
            refine lv_aload_n hx hb dX9_keepsAll_263 rfl (lv_at hl 0 rfl) ?_
            refine va_get (D := (dC, dI)) (ci := 9) (v := .int c_states) (C := RX9) (T := TX9) (N := 45) hx hb hts (fun w h => gw_mem (inX9 w h)) hown hK.1 hP 0 rfl rfl 40 (by decide) (hts _ (gw_mem wfX9_446)) (fun _ h9 => h9) rfl dX9_keepsAll_264 ?_
            refine lv_imul hx hb dX9_keepsAll_267 ?_
            refine lv_iconst (v := 1) hx hb dX9_keepsAll_268 (by decide) ?_
            refine lv_iadd hx hb dX9_keepsAll_269 ?_
            obtain ⟨h60, hf⟩ := og_some hf
            refine va_lald hx hb hK.1 hP 14 1 rfl rfl (okI_in h60) dX9_keepsAll_270 ?_
            refine lv_topl (fun w61 ew61 => ?_)
            replace hf := nm_at hf ew61
            refine va_put (D := (dC, dI)) (ci := 9) (v := .long w61) (ty := .long) (C := RX9) (T := TX9) (N := 45) hx hb hts (fun w h => gw_mem (inX9 w h)) tyX9 tyX9_ok nmX9 hown hK.1 hP hD hS 0 rfl rfl 37 (by decide) (hts _ (gw_mem wfX9_422)) (fun _ h9 => h9) rfl (by decide +kernel) rfl rfl (Nat.le_of_ble_eq_true rfl) dX9_keepsAll_271 (fun H locs hP hD hS => ?_)
            have hP : va_P (dC, dI) vwCl (mW dA ad c_tape c_taped c_tree_3 c_bonds_7 c_moves_11 c_handMoves_12 r16 c_days c_likely c_outOf c_rateNow c_pence c_top c_bottom c_spot c_textLong c_fault c_number c_numberAt c_figures c_written c_wanted c_found c_drawnNow c_worth c_hold c_way c_acts c_sDay c_sUps c_sUp c_sMarks c_paidAll 0 1 r20 w59 w61 c_aside c_other c_states c_kept_32 w57 c_keptAt_33 p1) H := hP
            have hD : va_D A (mW dA ad c_tape c_taped c_tree_3 c_bonds_7 c_moves_11 c_handMoves_12 r16 c_days c_likely c_outOf c_rateNow c_pence c_top c_bottom c_spot c_textLong c_fault c_number c_numberAt c_figures c_written c_wanted c_found c_drawnNow c_worth c_hold c_way c_acts c_sDay c_sUps c_sUp c_sMarks c_paidAll 0 1 r20 w59 w61 c_aside c_other c_states c_kept_32 w57 c_keptAt_33 p1) := hD
            cases hf
            exact W.vret hx hb hr (fun t ht _ => gqv hP hD hS ht) hS.2.2 dX9_keepsAll_274
      · replace hf := ifn k30 hf
        refine lv_iconst (v := 1) hx hb dX9_keepsAll_186 (by decide) ?_
        refine lv_goto (tgt := 191) hx hb dX9_keepsAll_187 (by decide) ?_
        obtain ⟨r62, c_kept_63, c_keptAt_64, v65, hf⟩ := bd3_some hf
        refine gci (va_runV (As := [.int 1]) (rest := [.ref (ad 0)]) ⟨hx, hb, hml, hown, hts⟩ (tX9_keeps l dC dI dA ad H.size v65) (ccX9_X9_keeps hts ⟨Nat.le_of_ble_eq_true rfl, Nat.le_of_ble_eq_true rfl⟩) (gPreV (ci := 9) (q0 := 0) hP hK hD rfl rfl) rfl rfl hl.1 rfl (lv_room (Nat.le_of_ble_eq_true rfl)) dX9_keepsAll_191 ⟨Nat.le_of_ble_eq_true rfl, Nat.le_of_ble_eq_true rfl⟩) hD hS hA (fun H locs hP hD hS => ?_)
        refine lv_iconst (v := 1) hx hb dX9_keepsAll_194 (by decide) ?_
        refine lv_icmp_ne (tgt := 202) hx hb dX9_keepsAll_195 (by decide) (fun k66 => ?_) (fun k66 => ?_)
        · replace hf := ifn k66 hf
          refine lv_iconst (v := 0) hx hb dX9_keepsAll_202 (by decide) ?_
          refine va_put (D := (dC, dI)) (ci := 9) (v := .int 0) (ty := .boolean) (C := RX9) (T := TX9) (N := 45) hx hb hts (fun w h => gw_mem (inX9 w h)) tyX9 tyX9_ok nmX9 hown hK.1 hP hD hS 0 rfl rfl 34 (by decide) (hts _ (gw_mem wfX9_416)) (fun _ h9 => h9) rfl (by decide +kernel) rfl rfl (Nat.le_of_ble_eq_true rfl) dX9_keepsAll_203 (fun H locs hP hD hS => ?_)
          have hP : va_P (dC, dI) vwCl (mW dA ad c_tape c_taped c_tree_3 c_bonds_7 c_moves_11 c_handMoves_12 r16 c_days c_likely c_outOf c_rateNow c_pence c_top c_bottom c_spot c_textLong c_fault c_number c_numberAt c_figures c_written c_wanted c_found c_drawnNow c_worth c_hold c_way c_acts c_sDay c_sUps c_sUp c_sMarks c_paidAll 0 0 r20 c_handPaid c_regret c_aside c_other c_states c_kept_63 c_keptLong c_keptAt_64 p1) H := hP
          have hD : va_D A (mW dA ad c_tape c_taped c_tree_3 c_bonds_7 c_moves_11 c_handMoves_12 r16 c_days c_likely c_outOf c_rateNow c_pence c_top c_bottom c_spot c_textLong c_fault c_number c_numberAt c_figures c_written c_wanted c_found c_drawnNow c_worth c_hold c_way c_acts c_sDay c_sUps c_sUp c_sMarks c_paidAll 0 0 r20 c_handPaid c_regret c_aside c_other c_states c_kept_63 c_keptLong c_keptAt_64 p1) := hD
          refine lv_iload_n hx hb dX9_keepsAll_206 rfl (lv_at hl 1 rfl) ?_
          refine lv_if_eq (tgt := 242) hx hb dX9_keepsAll_207 (by decide) (fun k67 => ?_) (fun k67 => ?_)
          · replace hf := ifp k67 hf
            refine lv_aload_n hx hb dX9_keepsAll_242 rfl (lv_at hl 0 rfl) ?_
            refine lv_aload_n hx hb dX9_keepsAll_243 rfl (lv_at hl 0 rfl) ?_
            refine va_get (D := (dC, dI)) (ci := 9) (v := .ref (ad 14)) (C := RX9) (T := TX9) (N := 45) hx hb hts (fun w h => gw_mem (inX9 w h)) hown hK.1 hP 0 rfl rfl 42 (by decide) (hts _ (gw_mem wfX9_51)) (fun _ h9 => h9) rfl dX9_keepsAll_244 ?_
            refine lv_iconst (v := 2) hx hb dX9_keepsAll_247 (by decide) ?_
            refine lv_aload_n hx hb dX9_keepsAll_248 rfl (lv_at hl 0 rfl) ?_
            refine va_get (D := (dC, dI)) (ci := 9) (v := .int c_states) (C := RX9) (T := TX9) (N := 45) hx hb hts (fun w h => gw_mem (inX9 w h)) hown hK.1 hP 0 rfl rfl 40 (by decide) (hts _ (gw_mem wfX9_446)) (fun _ h9 => h9) rfl dX9_keepsAll_249 ?_
            refine lv_imul hx hb dX9_keepsAll_252 ?_
            obtain ⟨h68, hf⟩ := og_some hf
            refine va_lald hx hb hK.1 hP 14 1 rfl rfl (okI_in h68) dX9_keepsAll_253 ?_
            refine lv_topl (fun w69 ew69 => ?_)
            replace hf := nm_at hf ew69
            refine va_put (D := (dC, dI)) (ci := 9) (v := .long w69) (ty := .long) (C := RX9) (T := TX9) (N := 45) hx hb hts (fun w h => gw_mem (inX9 w h)) tyX9 tyX9_ok nmX9 hown hK.1 hP hD hS 0 rfl rfl 36 (by decide) (hts _ (gw_mem wfX9_419)) (fun _ h9 => h9) rfl (by decide +kernel) rfl rfl (Nat.le_of_ble_eq_true rfl) dX9_keepsAll_254 (fun H locs hP hD hS => ?_)
            have hP : va_P (dC, dI) vwCl (mW dA ad c_tape c_taped c_tree_3 c_bonds_7 c_moves_11 c_handMoves_12 r16 c_days c_likely c_outOf c_rateNow c_pence c_top c_bottom c_spot c_textLong c_fault c_number c_numberAt c_figures c_written c_wanted c_found c_drawnNow c_worth c_hold c_way c_acts c_sDay c_sUps c_sUp c_sMarks c_paidAll 0 0 r20 w69 c_regret c_aside c_other c_states c_kept_63 c_keptLong c_keptAt_64 p1) H := hP
            have hD : va_D A (mW dA ad c_tape c_taped c_tree_3 c_bonds_7 c_moves_11 c_handMoves_12 r16 c_days c_likely c_outOf c_rateNow c_pence c_top c_bottom c_spot c_textLong c_fault c_number c_numberAt c_figures c_written c_wanted c_found c_drawnNow c_worth c_hold c_way c_acts c_sDay c_sUps c_sUp c_sMarks c_paidAll 0 0 r20 w69 c_regret c_aside c_other c_states c_kept_63 c_keptLong c_keptAt_64 p1) := hD
            refine lv_aload_n hx hb dX9_keepsAll_257 rfl (lv_at hl 0 rfl) ?_
            refine lv_aload_n hx hb dX9_keepsAll_258 rfl (lv_at hl 0 rfl) ?_
            refine va_get (D := (dC, dI)) (ci := 9) (v := .ref (ad 14)) (C := RX9) (T := TX9) (N := 45) hx hb hts (fun w h => gw_mem (inX9 w h)) hown hK.1 hP 0 rfl rfl 42 (by decide) (hts _ (gw_mem wfX9_51)) (fun _ h9 => h9) rfl dX9_keepsAll_259 ?_
            refine lv_iconst (v := 2) hx hb dX9_keepsAll_262 (by decide) ?_
            refine lv_aload_n hx hb dX9_keepsAll_263 rfl (lv_at hl 0 rfl) ?_
            refine va_get (D := (dC, dI)) (ci := 9) (v := .int c_states) (C := RX9) (T := TX9) (N := 45) hx hb hts (fun w h => gw_mem (inX9 w h)) hown hK.1 hP 0 rfl rfl 40 (by decide) (hts _ (gw_mem wfX9_446)) (fun _ h9 => h9) rfl dX9_keepsAll_264 ?_
            refine lv_imul hx hb dX9_keepsAll_267 ?_
            refine lv_iconst (v := 1) hx hb dX9_keepsAll_268 (by decide) ?_
            refine lv_iadd hx hb dX9_keepsAll_269 ?_
            obtain ⟨h70, hf⟩ := og_some hf
            refine va_lald hx hb hK.1 hP 14 1 rfl rfl (okI_in h70) dX9_keepsAll_270 ?_
            refine lv_topl (fun w71 ew71 => ?_)
            replace hf := nm_at hf ew71
            refine va_put (D := (dC, dI)) (ci := 9) (v := .long w71) (ty := .long) (C := RX9) (T := TX9) (N := 45) hx hb hts (fun w h => gw_mem (inX9 w h)) tyX9 tyX9_ok nmX9 hown hK.1 hP hD hS 0 rfl rfl 37 (by decide) (hts _ (gw_mem wfX9_422)) (fun _ h9 => h9) rfl (by decide +kernel) rfl rfl (Nat.le_of_ble_eq_true rfl) dX9_keepsAll_271 (fun H locs hP hD hS => ?_)
            have hP : va_P (dC, dI) vwCl (mW dA ad c_tape c_taped c_tree_3 c_bonds_7 c_moves_11 c_handMoves_12 r16 c_days c_likely c_outOf c_rateNow c_pence c_top c_bottom c_spot c_textLong c_fault c_number c_numberAt c_figures c_written c_wanted c_found c_drawnNow c_worth c_hold c_way c_acts c_sDay c_sUps c_sUp c_sMarks c_paidAll 0 0 r20 w69 w71 c_aside c_other c_states c_kept_63 c_keptLong c_keptAt_64 p1) H := hP
            have hD : va_D A (mW dA ad c_tape c_taped c_tree_3 c_bonds_7 c_moves_11 c_handMoves_12 r16 c_days c_likely c_outOf c_rateNow c_pence c_top c_bottom c_spot c_textLong c_fault c_number c_numberAt c_figures c_written c_wanted c_found c_drawnNow c_worth c_hold c_way c_acts c_sDay c_sUps c_sUp c_sMarks c_paidAll 0 0 r20 w69 w71 c_aside c_other c_states c_kept_63 c_keptLong c_keptAt_64 p1) := hD
            cases hf
            exact W.vret hx hb hr (fun t ht _ => gqv hP hD hS ht) hS.2.2 dX9_keepsAll_274
          · replace hf := ifn k67 hf
            refine lv_aload_n hx hb dX9_keepsAll_210 rfl (lv_at hl 0 rfl) ?_
            refine va_get (D := (dC, dI)) (ci := 9) (v := .ref (ad 14)) (C := RX9) (T := TX9) (N := 45) hx hb hts (fun w h => gw_mem (inX9 w h)) hown hK.1 hP 0 rfl rfl 42 (by decide) (hts _ (gw_mem wfX9_51)) (fun _ h9 => h9) rfl dX9_keepsAll_211 ?_
            refine lv_iconst (v := 2) hx hb dX9_keepsAll_214 (by decide) ?_
            refine lv_aload_n hx hb dX9_keepsAll_215 rfl (lv_at hl 0 rfl) ?_
            refine va_get (D := (dC, dI)) (ci := 9) (v := .int c_states) (C := RX9) (T := TX9) (N := 45) hx hb hts (fun w h => gw_mem (inX9 w h)) hown hK.1 hP 0 rfl rfl 40 (by decide) (hts _ (gw_mem wfX9_446)) (fun _ h9 => h9) rfl dX9_keepsAll_216 ?_
            refine lv_imul hx hb dX9_keepsAll_219 ?_
            refine lv_aload_n hx hb dX9_keepsAll_220 rfl (lv_at hl 0 rfl) ?_
            refine va_get (D := (dC, dI)) (ci := 9) (v := .long c_handPaid) (C := RX9) (T := TX9) (N := 45) hx hb hts (fun w h => gw_mem (inX9 w h)) hown hK.1 hP 0 rfl rfl 36 (by decide) (hts _ (gw_mem wfX9_419)) (fun _ h9 => h9) rfl dX9_keepsAll_221 ?_
            obtain ⟨h72, hf⟩ := og_some hf
            obtain ⟨w73, ew73⟩ : ∃ y : Nat → Int64, y = vp_updL c_keptLong (Int32.toNatClampNeg (2 * c_states)) c_handPaid := ⟨_, rfl⟩
            replace hf := nm_at hf ew73
            refine va_last hx hb hK.1 hP hD hS 14 1 rfl rfl (okI_in h72) dX9_keepsAll_224 (fun H locs hP hD hS => ?_)
            have hP : va_P (dC, dI) vwCl (mW dA ad c_tape c_taped c_tree_3 c_bonds_7 c_moves_11 c_handMoves_12 r16 c_days c_likely c_outOf c_rateNow c_pence c_top c_bottom c_spot c_textLong c_fault c_number c_numberAt c_figures c_written c_wanted c_found c_drawnNow c_worth c_hold c_way c_acts c_sDay c_sUps c_sUp c_sMarks c_paidAll 0 0 r20 c_handPaid c_regret c_aside c_other c_states c_kept_63 w73 c_keptAt_64 p1) H := by rw [ew73]; exact hP
            have hD : va_D A (mW dA ad c_tape c_taped c_tree_3 c_bonds_7 c_moves_11 c_handMoves_12 r16 c_days c_likely c_outOf c_rateNow c_pence c_top c_bottom c_spot c_textLong c_fault c_number c_numberAt c_figures c_written c_wanted c_found c_drawnNow c_worth c_hold c_way c_acts c_sDay c_sUps c_sUp c_sMarks c_paidAll 0 0 r20 c_handPaid c_regret c_aside c_other c_states c_kept_63 w73 c_keptAt_64 p1) := by rw [ew73]; exact hD
            refine lv_aload_n hx hb dX9_keepsAll_225 rfl (lv_at hl 0 rfl) ?_
            refine va_get (D := (dC, dI)) (ci := 9) (v := .ref (ad 14)) (C := RX9) (T := TX9) (N := 45) hx hb hts (fun w h => gw_mem (inX9 w h)) hown hK.1 hP 0 rfl rfl 42 (by decide) (hts _ (gw_mem wfX9_51)) (fun _ h9 => h9) rfl dX9_keepsAll_226 ?_
            refine lv_iconst (v := 2) hx hb dX9_keepsAll_229 (by decide) ?_
            refine lv_aload_n hx hb dX9_keepsAll_230 rfl (lv_at hl 0 rfl) ?_
            refine va_get (D := (dC, dI)) (ci := 9) (v := .int c_states) (C := RX9) (T := TX9) (N := 45) hx hb hts (fun w h => gw_mem (inX9 w h)) hown hK.1 hP 0 rfl rfl 40 (by decide) (hts _ (gw_mem wfX9_446)) (fun _ h9 => h9) rfl dX9_keepsAll_231 ?_
            refine lv_imul hx hb dX9_keepsAll_234 ?_
            refine lv_iconst (v := 1) hx hb dX9_keepsAll_235 (by decide) ?_
            refine lv_iadd hx hb dX9_keepsAll_236 ?_
            refine lv_aload_n hx hb dX9_keepsAll_237 rfl (lv_at hl 0 rfl) ?_
            refine va_get (D := (dC, dI)) (ci := 9) (v := .long c_regret) (C := RX9) (T := TX9) (N := 45) hx hb hts (fun w h => gw_mem (inX9 w h)) hown hK.1 hP 0 rfl rfl 37 (by decide) (hts _ (gw_mem wfX9_422)) (fun _ h9 => h9) rfl dX9_keepsAll_238 ?_
            obtain ⟨h74, hf⟩ := og_some hf
            obtain ⟨w75, ew75⟩ : ∃ y : Nat → Int64, y = vp_updL w73 (Int32.toNatClampNeg ((2 * c_states) + 1)) c_regret := ⟨_, rfl⟩
            replace hf := nm_at hf ew75
            refine va_last hx hb hK.1 hP hD hS 14 1 rfl rfl (okI_in h74) dX9_keepsAll_241 (fun H locs hP hD hS => ?_)
            have hP : va_P (dC, dI) vwCl (mW dA ad c_tape c_taped c_tree_3 c_bonds_7 c_moves_11 c_handMoves_12 r16 c_days c_likely c_outOf c_rateNow c_pence c_top c_bottom c_spot c_textLong c_fault c_number c_numberAt c_figures c_written c_wanted c_found c_drawnNow c_worth c_hold c_way c_acts c_sDay c_sUps c_sUp c_sMarks c_paidAll 0 0 r20 c_handPaid c_regret c_aside c_other c_states c_kept_63 w75 c_keptAt_64 p1) H := by rw [ew75]; exact hP
            have hD : va_D A (mW dA ad c_tape c_taped c_tree_3 c_bonds_7 c_moves_11 c_handMoves_12 r16 c_days c_likely c_outOf c_rateNow c_pence c_top c_bottom c_spot c_textLong c_fault c_number c_numberAt c_figures c_written c_wanted c_found c_drawnNow c_worth c_hold c_way c_acts c_sDay c_sUps c_sUp c_sMarks c_paidAll 0 0 r20 c_handPaid c_regret c_aside c_other c_states c_kept_63 w75 c_keptAt_64 p1) := by rw [ew75]; exact hD
            refine lv_aload_n hx hb dX9_keepsAll_242 rfl (lv_at hl 0 rfl) ?_
            refine lv_aload_n hx hb dX9_keepsAll_243 rfl (lv_at hl 0 rfl) ?_
            refine va_get (D := (dC, dI)) (ci := 9) (v := .ref (ad 14)) (C := RX9) (T := TX9) (N := 45) hx hb hts (fun w h => gw_mem (inX9 w h)) hown hK.1 hP 0 rfl rfl 42 (by decide) (hts _ (gw_mem wfX9_51)) (fun _ h9 => h9) rfl dX9_keepsAll_244 ?_
            refine lv_iconst (v := 2) hx hb dX9_keepsAll_247 (by decide) ?_
            refine lv_aload_n hx hb dX9_keepsAll_248 rfl (lv_at hl 0 rfl) ?_
            refine va_get (D := (dC, dI)) (ci := 9) (v := .int c_states) (C := RX9) (T := TX9) (N := 45) hx hb hts (fun w h => gw_mem (inX9 w h)) hown hK.1 hP 0 rfl rfl 40 (by decide) (hts _ (gw_mem wfX9_446)) (fun _ h9 => h9) rfl dX9_keepsAll_249 ?_
            refine lv_imul hx hb dX9_keepsAll_252 ?_
            obtain ⟨h76, hf⟩ := og_some hf
            refine va_lald hx hb hK.1 hP 14 1 rfl rfl (okI_in h76) dX9_keepsAll_253 ?_
            refine lv_topl (fun w77 ew77 => ?_)
            replace hf := nm_at hf ew77
            refine va_put (D := (dC, dI)) (ci := 9) (v := .long w77) (ty := .long) (C := RX9) (T := TX9) (N := 45) hx hb hts (fun w h => gw_mem (inX9 w h)) tyX9 tyX9_ok nmX9 hown hK.1 hP hD hS 0 rfl rfl 36 (by decide) (hts _ (gw_mem wfX9_419)) (fun _ h9 => h9) rfl (by decide +kernel) rfl rfl (Nat.le_of_ble_eq_true rfl) dX9_keepsAll_254 (fun H locs hP hD hS => ?_)
            have hP : va_P (dC, dI) vwCl (mW dA ad c_tape c_taped c_tree_3 c_bonds_7 c_moves_11 c_handMoves_12 r16 c_days c_likely c_outOf c_rateNow c_pence c_top c_bottom c_spot c_textLong c_fault c_number c_numberAt c_figures c_written c_wanted c_found c_drawnNow c_worth c_hold c_way c_acts c_sDay c_sUps c_sUp c_sMarks c_paidAll 0 0 r20 w77 c_regret c_aside c_other c_states c_kept_63 w75 c_keptAt_64 p1) H := hP
            have hD : va_D A (mW dA ad c_tape c_taped c_tree_3 c_bonds_7 c_moves_11 c_handMoves_12 r16 c_days c_likely c_outOf c_rateNow c_pence c_top c_bottom c_spot c_textLong c_fault c_number c_numberAt c_figures c_written c_wanted c_found c_drawnNow c_worth c_hold c_way c_acts c_sDay c_sUps c_sUp c_sMarks c_paidAll 0 0 r20 w77 c_regret c_aside c_other c_states c_kept_63 w75 c_keptAt_64 p1) := hD
            refine lv_aload_n hx hb dX9_keepsAll_257 rfl (lv_at hl 0 rfl) ?_
            refine lv_aload_n hx hb dX9_keepsAll_258 rfl (lv_at hl 0 rfl) ?_
            refine va_get (D := (dC, dI)) (ci := 9) (v := .ref (ad 14)) (C := RX9) (T := TX9) (N := 45) hx hb hts (fun w h => gw_mem (inX9 w h)) hown hK.1 hP 0 rfl rfl 42 (by decide) (hts _ (gw_mem wfX9_51)) (fun _ h9 => h9) rfl dX9_keepsAll_259 ?_
            refine lv_iconst (v := 2) hx hb dX9_keepsAll_262 (by decide) ?_
            refine lv_aload_n hx hb dX9_keepsAll_263 rfl (lv_at hl 0 rfl) ?_
            refine va_get (D := (dC, dI)) (ci := 9) (v := .int c_states) (C := RX9) (T := TX9) (N := 45) hx hb hts (fun w h => gw_mem (inX9 w h)) hown hK.1 hP 0 rfl rfl 40 (by decide) (hts _ (gw_mem wfX9_446)) (fun _ h9 => h9) rfl dX9_keepsAll_264 ?_
            refine lv_imul hx hb dX9_keepsAll_267 ?_
            refine lv_iconst (v := 1) hx hb dX9_keepsAll_268 (by decide) ?_
            refine lv_iadd hx hb dX9_keepsAll_269 ?_
            obtain ⟨h78, hf⟩ := og_some hf
            refine va_lald hx hb hK.1 hP 14 1 rfl rfl (okI_in h78) dX9_keepsAll_270 ?_
            refine lv_topl (fun w79 ew79 => ?_)
            replace hf := nm_at hf ew79
            refine va_put (D := (dC, dI)) (ci := 9) (v := .long w79) (ty := .long) (C := RX9) (T := TX9) (N := 45) hx hb hts (fun w h => gw_mem (inX9 w h)) tyX9 tyX9_ok nmX9 hown hK.1 hP hD hS 0 rfl rfl 37 (by decide) (hts _ (gw_mem wfX9_422)) (fun _ h9 => h9) rfl (by decide +kernel) rfl rfl (Nat.le_of_ble_eq_true rfl) dX9_keepsAll_271 (fun H locs hP hD hS => ?_)
            have hP : va_P (dC, dI) vwCl (mW dA ad c_tape c_taped c_tree_3 c_bonds_7 c_moves_11 c_handMoves_12 r16 c_days c_likely c_outOf c_rateNow c_pence c_top c_bottom c_spot c_textLong c_fault c_number c_numberAt c_figures c_written c_wanted c_found c_drawnNow c_worth c_hold c_way c_acts c_sDay c_sUps c_sUp c_sMarks c_paidAll 0 0 r20 w77 w79 c_aside c_other c_states c_kept_63 w75 c_keptAt_64 p1) H := hP
            have hD : va_D A (mW dA ad c_tape c_taped c_tree_3 c_bonds_7 c_moves_11 c_handMoves_12 r16 c_days c_likely c_outOf c_rateNow c_pence c_top c_bottom c_spot c_textLong c_fault c_number c_numberAt c_figures c_written c_wanted c_found c_drawnNow c_worth c_hold c_way c_acts c_sDay c_sUps c_sUp c_sMarks c_paidAll 0 0 r20 w77 w79 c_aside c_other c_states c_kept_63 w75 c_keptAt_64 p1) := hD
            cases hf
            exact W.vret hx hb hr (fun t ht _ => gqv hP hD hS ht) hS.2.2 dX9_keepsAll_274
        · replace hf := ifp k66 hf
          refine lv_iconst (v := 1) hx hb dX9_keepsAll_198 (by decide) ?_
          refine lv_goto (tgt := 203) hx hb dX9_keepsAll_199 (by decide) ?_
          refine va_put (D := (dC, dI)) (ci := 9) (v := .int 1) (ty := .boolean) (C := RX9) (T := TX9) (N := 45) hx hb hts (fun w h => gw_mem (inX9 w h)) tyX9 tyX9_ok nmX9 hown hK.1 hP hD hS 0 rfl rfl 34 (by decide) (hts _ (gw_mem wfX9_416)) (fun _ h9 => h9) rfl (by decide +kernel) rfl rfl (Nat.le_of_ble_eq_true rfl) dX9_keepsAll_203 (fun H locs hP hD hS => ?_)
          have hP : va_P (dC, dI) vwCl (mW dA ad c_tape c_taped c_tree_3 c_bonds_7 c_moves_11 c_handMoves_12 r16 c_days c_likely c_outOf c_rateNow c_pence c_top c_bottom c_spot c_textLong c_fault c_number c_numberAt c_figures c_written c_wanted c_found c_drawnNow c_worth c_hold c_way c_acts c_sDay c_sUps c_sUp c_sMarks c_paidAll 0 1 r20 c_handPaid c_regret c_aside c_other c_states c_kept_63 c_keptLong c_keptAt_64 p1) H := hP
          have hD : va_D A (mW dA ad c_tape c_taped c_tree_3 c_bonds_7 c_moves_11 c_handMoves_12 r16 c_days c_likely c_outOf c_rateNow c_pence c_top c_bottom c_spot c_textLong c_fault c_number c_numberAt c_figures c_written c_wanted c_found c_drawnNow c_worth c_hold c_way c_acts c_sDay c_sUps c_sUp c_sMarks c_paidAll 0 1 r20 c_handPaid c_regret c_aside c_other c_states c_kept_63 c_keptLong c_keptAt_64 p1) := hD
          refine lv_iload_n hx hb dX9_keepsAll_206 rfl (lv_at hl 1 rfl) ?_
          refine lv_if_eq (tgt := 242) hx hb dX9_keepsAll_207 (by decide) (fun k80 => ?_) (fun k80 => ?_)
          · replace hf := ifp k80 hf
            refine lv_aload_n hx hb dX9_keepsAll_242 rfl (lv_at hl 0 rfl) ?_
            refine lv_aload_n hx hb dX9_keepsAll_243 rfl (lv_at hl 0 rfl) ?_
            refine va_get (D := (dC, dI)) (ci := 9) (v := .ref (ad 14)) (C := RX9) (T := TX9) (N := 45) hx hb hts (fun w h => gw_mem (inX9 w h)) hown hK.1 hP 0 rfl rfl 42 (by decide) (hts _ (gw_mem wfX9_51)) (fun _ h9 => h9) rfl dX9_keepsAll_244 ?_
            refine lv_iconst (v := 2) hx hb dX9_keepsAll_247 (by decide) ?_
            refine lv_aload_n hx hb dX9_keepsAll_248 rfl (lv_at hl 0 rfl) ?_
            refine va_get (D := (dC, dI)) (ci := 9) (v := .int c_states) (C := RX9) (T := TX9) (N := 45) hx hb hts (fun w h => gw_mem (inX9 w h)) hown hK.1 hP 0 rfl rfl 40 (by decide) (hts _ (gw_mem wfX9_446)) (fun _ h9 => h9) rfl dX9_keepsAll_249 ?_
            refine lv_imul hx hb dX9_keepsAll_252 ?_
            obtain ⟨h81, hf⟩ := og_some hf
            refine va_lald hx hb hK.1 hP 14 1 rfl rfl (okI_in h81) dX9_keepsAll_253 ?_
            refine lv_topl (fun w82 ew82 => ?_)
            replace hf := nm_at hf ew82
            refine va_put (D := (dC, dI)) (ci := 9) (v := .long w82) (ty := .long) (C := RX9) (T := TX9) (N := 45) hx hb hts (fun w h => gw_mem (inX9 w h)) tyX9 tyX9_ok nmX9 hown hK.1 hP hD hS 0 rfl rfl 36 (by decide) (hts _ (gw_mem wfX9_419)) (fun _ h9 => h9) rfl (by decide +kernel) rfl rfl (Nat.le_of_ble_eq_true rfl) dX9_keepsAll_254 (fun H locs hP hD hS => ?_)
            have hP : va_P (dC, dI) vwCl (mW dA ad c_tape c_taped c_tree_3 c_bonds_7 c_moves_11 c_handMoves_12 r16 c_days c_likely c_outOf c_rateNow c_pence c_top c_bottom c_spot c_textLong c_fault c_number c_numberAt c_figures c_written c_wanted c_found c_drawnNow c_worth c_hold c_way c_acts c_sDay c_sUps c_sUp c_sMarks c_paidAll 0 1 r20 w82 c_regret c_aside c_other c_states c_kept_63 c_keptLong c_keptAt_64 p1) H := hP
            have hD : va_D A (mW dA ad c_tape c_taped c_tree_3 c_bonds_7 c_moves_11 c_handMoves_12 r16 c_days c_likely c_outOf c_rateNow c_pence c_top c_bottom c_spot c_textLong c_fault c_number c_numberAt c_figures c_written c_wanted c_found c_drawnNow c_worth c_hold c_way c_acts c_sDay c_sUps c_sUp c_sMarks c_paidAll 0 1 r20 w82 c_regret c_aside c_other c_states c_kept_63 c_keptLong c_keptAt_64 p1) := hD
            refine lv_aload_n hx hb dX9_keepsAll_257 rfl (lv_at hl 0 rfl) ?_
            refine lv_aload_n hx hb dX9_keepsAll_258 rfl (lv_at hl 0 rfl) ?_
            refine va_get (D := (dC, dI)) (ci := 9) (v := .ref (ad 14)) (C := RX9) (T := TX9) (N := 45) hx hb hts (fun w h => gw_mem (inX9 w h)) hown hK.1 hP 0 rfl rfl 42 (by decide) (hts _ (gw_mem wfX9_51)) (fun _ h9 => h9) rfl dX9_keepsAll_259 ?_
            refine lv_iconst (v := 2) hx hb dX9_keepsAll_262 (by decide) ?_
            refine lv_aload_n hx hb dX9_keepsAll_263 rfl (lv_at hl 0 rfl) ?_
            refine va_get (D := (dC, dI)) (ci := 9) (v := .int c_states) (C := RX9) (T := TX9) (N := 45) hx hb hts (fun w h => gw_mem (inX9 w h)) hown hK.1 hP 0 rfl rfl 40 (by decide) (hts _ (gw_mem wfX9_446)) (fun _ h9 => h9) rfl dX9_keepsAll_264 ?_
            refine lv_imul hx hb dX9_keepsAll_267 ?_
            refine lv_iconst (v := 1) hx hb dX9_keepsAll_268 (by decide) ?_
            refine lv_iadd hx hb dX9_keepsAll_269 ?_
            obtain ⟨h83, hf⟩ := og_some hf
            refine va_lald hx hb hK.1 hP 14 1 rfl rfl (okI_in h83) dX9_keepsAll_270 ?_
            refine lv_topl (fun w84 ew84 => ?_)
            replace hf := nm_at hf ew84
            refine va_put (D := (dC, dI)) (ci := 9) (v := .long w84) (ty := .long) (C := RX9) (T := TX9) (N := 45) hx hb hts (fun w h => gw_mem (inX9 w h)) tyX9 tyX9_ok nmX9 hown hK.1 hP hD hS 0 rfl rfl 37 (by decide) (hts _ (gw_mem wfX9_422)) (fun _ h9 => h9) rfl (by decide +kernel) rfl rfl (Nat.le_of_ble_eq_true rfl) dX9_keepsAll_271 (fun H locs hP hD hS => ?_)
            have hP : va_P (dC, dI) vwCl (mW dA ad c_tape c_taped c_tree_3 c_bonds_7 c_moves_11 c_handMoves_12 r16 c_days c_likely c_outOf c_rateNow c_pence c_top c_bottom c_spot c_textLong c_fault c_number c_numberAt c_figures c_written c_wanted c_found c_drawnNow c_worth c_hold c_way c_acts c_sDay c_sUps c_sUp c_sMarks c_paidAll 0 1 r20 w82 w84 c_aside c_other c_states c_kept_63 c_keptLong c_keptAt_64 p1) H := hP
            have hD : va_D A (mW dA ad c_tape c_taped c_tree_3 c_bonds_7 c_moves_11 c_handMoves_12 r16 c_days c_likely c_outOf c_rateNow c_pence c_top c_bottom c_spot c_textLong c_fault c_number c_numberAt c_figures c_written c_wanted c_found c_drawnNow c_worth c_hold c_way c_acts c_sDay c_sUps c_sUp c_sMarks c_paidAll 0 1 r20 w82 w84 c_aside c_other c_states c_kept_63 c_keptLong c_keptAt_64 p1) := hD
            cases hf
            exact W.vret hx hb hr (fun t ht _ => gqv hP hD hS ht) hS.2.2 dX9_keepsAll_274
          · replace hf := ifn k80 hf
            refine lv_aload_n hx hb dX9_keepsAll_210 rfl (lv_at hl 0 rfl) ?_
            refine va_get (D := (dC, dI)) (ci := 9) (v := .ref (ad 14)) (C := RX9) (T := TX9) (N := 45) hx hb hts (fun w h => gw_mem (inX9 w h)) hown hK.1 hP 0 rfl rfl 42 (by decide) (hts _ (gw_mem wfX9_51)) (fun _ h9 => h9) rfl dX9_keepsAll_211 ?_
            refine lv_iconst (v := 2) hx hb dX9_keepsAll_214 (by decide) ?_
            refine lv_aload_n hx hb dX9_keepsAll_215 rfl (lv_at hl 0 rfl) ?_
            refine va_get (D := (dC, dI)) (ci := 9) (v := .int c_states) (C := RX9) (T := TX9) (N := 45) hx hb hts (fun w h => gw_mem (inX9 w h)) hown hK.1 hP 0 rfl rfl 40 (by decide) (hts _ (gw_mem wfX9_446)) (fun _ h9 => h9) rfl dX9_keepsAll_216 ?_
            refine lv_imul hx hb dX9_keepsAll_219 ?_
            refine lv_aload_n hx hb dX9_keepsAll_220 rfl (lv_at hl 0 rfl) ?_
            refine va_get (D := (dC, dI)) (ci := 9) (v := .long c_handPaid) (C := RX9) (T := TX9) (N := 45) hx hb hts (fun w h => gw_mem (inX9 w h)) hown hK.1 hP 0 rfl rfl 36 (by decide) (hts _ (gw_mem wfX9_419)) (fun _ h9 => h9) rfl dX9_keepsAll_221 ?_
            obtain ⟨h85, hf⟩ := og_some hf
            obtain ⟨w86, ew86⟩ : ∃ y : Nat → Int64, y = vp_updL c_keptLong (Int32.toNatClampNeg (2 * c_states)) c_handPaid := ⟨_, rfl⟩
            replace hf := nm_at hf ew86
            refine va_last hx hb hK.1 hP hD hS 14 1 rfl rfl (okI_in h85) dX9_keepsAll_224 (fun H locs hP hD hS => ?_)
            have hP : va_P (dC, dI) vwCl (mW dA ad c_tape c_taped c_tree_3 c_bonds_7 c_moves_11 c_handMoves_12 r16 c_days c_likely c_outOf c_rateNow c_pence c_top c_bottom c_spot c_textLong c_fault c_number c_numberAt c_figures c_written c_wanted c_found c_drawnNow c_worth c_hold c_way c_acts c_sDay c_sUps c_sUp c_sMarks c_paidAll 0 1 r20 c_handPaid c_regret c_aside c_other c_states c_kept_63 w86 c_keptAt_64 p1) H := by rw [ew86]; exact hP
            have hD : va_D A (mW dA ad c_tape c_taped c_tree_3 c_bonds_7 c_moves_11 c_handMoves_12 r16 c_days c_likely c_outOf c_rateNow c_pence c_top c_bottom c_spot c_textLong c_fault c_number c_numberAt c_figures c_written c_wanted c_found c_drawnNow c_worth c_hold c_way c_acts c_sDay c_sUps c_sUp c_sMarks c_paidAll 0 1 r20 c_handPaid c_regret c_aside c_other c_states c_kept_63 w86 c_keptAt_64 p1) := by rw [ew86]; exact hD
            refine lv_aload_n hx hb dX9_keepsAll_225 rfl (lv_at hl 0 rfl) ?_
            refine va_get (D := (dC, dI)) (ci := 9) (v := .ref (ad 14)) (C := RX9) (T := TX9) (N := 45) hx hb hts (fun w h => gw_mem (inX9 w h)) hown hK.1 hP 0 rfl rfl 42 (by decide) (hts _ (gw_mem wfX9_51)) (fun _ h9 => h9) rfl dX9_keepsAll_226 ?_
            refine lv_iconst (v := 2) hx hb dX9_keepsAll_229 (by decide) ?_
            refine lv_aload_n hx hb dX9_keepsAll_230 rfl (lv_at hl 0 rfl) ?_
            refine va_get (D := (dC, dI)) (ci := 9) (v := .int c_states) (C := RX9) (T := TX9) (N := 45) hx hb hts (fun w h => gw_mem (inX9 w h)) hown hK.1 hP 0 rfl rfl 40 (by decide) (hts _ (gw_mem wfX9_446)) (fun _ h9 => h9) rfl dX9_keepsAll_231 ?_
            refine lv_imul hx hb dX9_keepsAll_234 ?_
            refine lv_iconst (v := 1) hx hb dX9_keepsAll_235 (by decide) ?_
            refine lv_iadd hx hb dX9_keepsAll_236 ?_
            refine lv_aload_n hx hb dX9_keepsAll_237 rfl (lv_at hl 0 rfl) ?_
            refine va_get (D := (dC, dI)) (ci := 9) (v := .long c_regret) (C := RX9) (T := TX9) (N := 45) hx hb hts (fun w h => gw_mem (inX9 w h)) hown hK.1 hP 0 rfl rfl 37 (by decide) (hts _ (gw_mem wfX9_422)) (fun _ h9 => h9) rfl dX9_keepsAll_238 ?_
            obtain ⟨h87, hf⟩ := og_some hf
            obtain ⟨w88, ew88⟩ : ∃ y : Nat → Int64, y = vp_updL w86 (Int32.toNatClampNeg ((2 * c_states) + 1)) c_regret := ⟨_, rfl⟩
            replace hf := nm_at hf ew88
            refine va_last hx hb hK.1 hP hD hS 14 1 rfl rfl (okI_in h87) dX9_keepsAll_241 (fun H locs hP hD hS => ?_)
            have hP : va_P (dC, dI) vwCl (mW dA ad c_tape c_taped c_tree_3 c_bonds_7 c_moves_11 c_handMoves_12 r16 c_days c_likely c_outOf c_rateNow c_pence c_top c_bottom c_spot c_textLong c_fault c_number c_numberAt c_figures c_written c_wanted c_found c_drawnNow c_worth c_hold c_way c_acts c_sDay c_sUps c_sUp c_sMarks c_paidAll 0 1 r20 c_handPaid c_regret c_aside c_other c_states c_kept_63 w88 c_keptAt_64 p1) H := by rw [ew88]; exact hP
            have hD : va_D A (mW dA ad c_tape c_taped c_tree_3 c_bonds_7 c_moves_11 c_handMoves_12 r16 c_days c_likely c_outOf c_rateNow c_pence c_top c_bottom c_spot c_textLong c_fault c_number c_numberAt c_figures c_written c_wanted c_found c_drawnNow c_worth c_hold c_way c_acts c_sDay c_sUps c_sUp c_sMarks c_paidAll 0 1 r20 c_handPaid c_regret c_aside c_other c_states c_kept_63 w88 c_keptAt_64 p1) := by rw [ew88]; exact hD
            refine lv_aload_n hx hb dX9_keepsAll_242 rfl (lv_at hl 0 rfl) ?_
            refine lv_aload_n hx hb dX9_keepsAll_243 rfl (lv_at hl 0 rfl) ?_
            refine va_get (D := (dC, dI)) (ci := 9) (v := .ref (ad 14)) (C := RX9) (T := TX9) (N := 45) hx hb hts (fun w h => gw_mem (inX9 w h)) hown hK.1 hP 0 rfl rfl 42 (by decide) (hts _ (gw_mem wfX9_51)) (fun _ h9 => h9) rfl dX9_keepsAll_244 ?_
            refine lv_iconst (v := 2) hx hb dX9_keepsAll_247 (by decide) ?_
            refine lv_aload_n hx hb dX9_keepsAll_248 rfl (lv_at hl 0 rfl) ?_
            refine va_get (D := (dC, dI)) (ci := 9) (v := .int c_states) (C := RX9) (T := TX9) (N := 45) hx hb hts (fun w h => gw_mem (inX9 w h)) hown hK.1 hP 0 rfl rfl 40 (by decide) (hts _ (gw_mem wfX9_446)) (fun _ h9 => h9) rfl dX9_keepsAll_249 ?_
            refine lv_imul hx hb dX9_keepsAll_252 ?_
            obtain ⟨h89, hf⟩ := og_some hf
            refine va_lald hx hb hK.1 hP 14 1 rfl rfl (okI_in h89) dX9_keepsAll_253 ?_
            refine lv_topl (fun w90 ew90 => ?_)
            replace hf := nm_at hf ew90
            refine va_put (D := (dC, dI)) (ci := 9) (v := .long w90) (ty := .long) (C := RX9) (T := TX9) (N := 45) hx hb hts (fun w h => gw_mem (inX9 w h)) tyX9 tyX9_ok nmX9 hown hK.1 hP hD hS 0 rfl rfl 36 (by decide) (hts _ (gw_mem wfX9_419)) (fun _ h9 => h9) rfl (by decide +kernel) rfl rfl (Nat.le_of_ble_eq_true rfl) dX9_keepsAll_254 (fun H locs hP hD hS => ?_)
            have hP : va_P (dC, dI) vwCl (mW dA ad c_tape c_taped c_tree_3 c_bonds_7 c_moves_11 c_handMoves_12 r16 c_days c_likely c_outOf c_rateNow c_pence c_top c_bottom c_spot c_textLong c_fault c_number c_numberAt c_figures c_written c_wanted c_found c_drawnNow c_worth c_hold c_way c_acts c_sDay c_sUps c_sUp c_sMarks c_paidAll 0 1 r20 w90 c_regret c_aside c_other c_states c_kept_63 w88 c_keptAt_64 p1) H := hP
            have hD : va_D A (mW dA ad c_tape c_taped c_tree_3 c_bonds_7 c_moves_11 c_handMoves_12 r16 c_days c_likely c_outOf c_rateNow c_pence c_top c_bottom c_spot c_textLong c_fault c_number c_numberAt c_figures c_written c_wanted c_found c_drawnNow c_worth c_hold c_way c_acts c_sDay c_sUps c_sUp c_sMarks c_paidAll 0 1 r20 w90 c_regret c_aside c_other c_states c_kept_63 w88 c_keptAt_64 p1) := hD
            refine lv_aload_n hx hb dX9_keepsAll_257 rfl (lv_at hl 0 rfl) ?_
            refine lv_aload_n hx hb dX9_keepsAll_258 rfl (lv_at hl 0 rfl) ?_
            refine va_get (D := (dC, dI)) (ci := 9) (v := .ref (ad 14)) (C := RX9) (T := TX9) (N := 45) hx hb hts (fun w h => gw_mem (inX9 w h)) hown hK.1 hP 0 rfl rfl 42 (by decide) (hts _ (gw_mem wfX9_51)) (fun _ h9 => h9) rfl dX9_keepsAll_259 ?_
            refine lv_iconst (v := 2) hx hb dX9_keepsAll_262 (by decide) ?_
            refine lv_aload_n hx hb dX9_keepsAll_263 rfl (lv_at hl 0 rfl) ?_
            refine va_get (D := (dC, dI)) (ci := 9) (v := .int c_states) (C := RX9) (T := TX9) (N := 45) hx hb hts (fun w h => gw_mem (inX9 w h)) hown hK.1 hP 0 rfl rfl 40 (by decide) (hts _ (gw_mem wfX9_446)) (fun _ h9 => h9) rfl dX9_keepsAll_264 ?_
            refine lv_imul hx hb dX9_keepsAll_267 ?_
            refine lv_iconst (v := 1) hx hb dX9_keepsAll_268 (by decide) ?_
            refine lv_iadd hx hb dX9_keepsAll_269 ?_
            obtain ⟨h91, hf⟩ := og_some hf
            refine va_lald hx hb hK.1 hP 14 1 rfl rfl (okI_in h91) dX9_keepsAll_270 ?_
            refine lv_topl (fun w92 ew92 => ?_)
            replace hf := nm_at hf ew92
            refine va_put (D := (dC, dI)) (ci := 9) (v := .long w92) (ty := .long) (C := RX9) (T := TX9) (N := 45) hx hb hts (fun w h => gw_mem (inX9 w h)) tyX9 tyX9_ok nmX9 hown hK.1 hP hD hS 0 rfl rfl 37 (by decide) (hts _ (gw_mem wfX9_422)) (fun _ h9 => h9) rfl (by decide +kernel) rfl rfl (Nat.le_of_ble_eq_true rfl) dX9_keepsAll_271 (fun H locs hP hD hS => ?_)
            have hP : va_P (dC, dI) vwCl (mW dA ad c_tape c_taped c_tree_3 c_bonds_7 c_moves_11 c_handMoves_12 r16 c_days c_likely c_outOf c_rateNow c_pence c_top c_bottom c_spot c_textLong c_fault c_number c_numberAt c_figures c_written c_wanted c_found c_drawnNow c_worth c_hold c_way c_acts c_sDay c_sUps c_sUp c_sMarks c_paidAll 0 1 r20 w90 w92 c_aside c_other c_states c_kept_63 w88 c_keptAt_64 p1) H := hP
            have hD : va_D A (mW dA ad c_tape c_taped c_tree_3 c_bonds_7 c_moves_11 c_handMoves_12 r16 c_days c_likely c_outOf c_rateNow c_pence c_top c_bottom c_spot c_textLong c_fault c_number c_numberAt c_figures c_written c_wanted c_found c_drawnNow c_worth c_hold c_way c_acts c_sDay c_sUps c_sUp c_sMarks c_paidAll 0 1 r20 w90 w92 c_aside c_other c_states c_kept_63 w88 c_keptAt_64 p1) := hD
            cases hf
            exact W.vret hx hb hr (fun t ht _ => gqv hP hD hS ht) hS.2.2 dX9_keepsAll_274
    · replace hf := ifp k29 hf
      refine lv_iconst (v := 1) hx hb dX9_keepsAll_169 (by decide) ?_
      refine lv_goto (tgt := 174) hx hb dX9_keepsAll_170 (by decide) ?_
      refine va_put (D := (dC, dI)) (ci := 9) (v := .int 1) (ty := .boolean) (C := RX9) (T := TX9) (N := 45) hx hb hts (fun w h => gw_mem (inX9 w h)) tyX9 tyX9_ok nmX9 hown hK.1 hP hD hS 0 rfl rfl 33 (by decide) (hts _ (gw_mem wfX9_412)) (fun _ h9 => h9) rfl (by decide +kernel) rfl rfl (Nat.le_of_ble_eq_true rfl) dX9_keepsAll_174 (fun H locs hP hD hS => ?_)
      have hP : va_P (dC, dI) vwCl (mW dA ad c_tape c_taped c_tree_3 c_bonds_7 c_moves_11 c_handMoves_12 r16 c_days c_likely c_outOf c_rateNow c_pence c_top c_bottom c_spot c_textLong c_fault c_number c_numberAt c_figures c_written c_wanted c_found c_drawnNow c_worth c_hold c_way c_acts c_sDay c_sUps c_sUp c_sMarks c_paidAll 1 c_isOn r20 c_handPaid c_regret c_aside c_other c_states c_kept_26 c_keptLong c_keptAt_27 p1) H := hP
      have hD : va_D A (mW dA ad c_tape c_taped c_tree_3 c_bonds_7 c_moves_11 c_handMoves_12 r16 c_days c_likely c_outOf c_rateNow c_pence c_top c_bottom c_spot c_textLong c_fault c_number c_numberAt c_figures c_written c_wanted c_found c_drawnNow c_worth c_hold c_way c_acts c_sDay c_sUps c_sUp c_sMarks c_paidAll 1 c_isOn r20 c_handPaid c_regret c_aside c_other c_states c_kept_26 c_keptLong c_keptAt_27 p1) := hD
      refine lv_aload_n hx hb dX9_keepsAll_177 rfl (lv_at hl 0 rfl) ?_
      refine lv_aload_n hx hb dX9_keepsAll_178 rfl (lv_at hl 0 rfl) ?_
      refine lv_aload_n hx hb dX9_keepsAll_179 rfl (lv_at hl 0 rfl) ?_
      refine va_get (D := (dC, dI)) (ci := 9) (v := .int c_isOn) (C := RX9) (T := TX9) (N := 45) hx hb hts (fun w h => gw_mem (inX9 w h)) hown hK.1 hP 0 rfl rfl 34 (by decide) (hts _ (gw_mem wfX9_416)) (fun _ h9 => h9) rfl dX9_keepsAll_180 ?_
      refine lv_if_eq (tgt := 190) hx hb dX9_keepsAll_183 (by decide) (fun k93 => ?_) (fun k93 => ?_)
      · replace hf := ifp k93 hf
        refine lv_iconst (v := 0) hx hb dX9_keepsAll_190 (by decide) ?_
        obtain ⟨r94, c_kept_95, c_keptAt_96, v97, hf⟩ := bd3_some hf
        refine gci (va_runV (As := [.int 0]) (rest := [.ref (ad 0)]) ⟨hx, hb, hml, hown, hts⟩ (tX9_keeps l dC dI dA ad H.size v97) (ccX9_X9_keeps hts ⟨Nat.le_of_ble_eq_true rfl, Nat.le_of_ble_eq_true rfl⟩) (gPreV (ci := 9) (q0 := 0) hP hK hD rfl rfl) rfl rfl hl.1 rfl (lv_room (Nat.le_of_ble_eq_true rfl)) dX9_keepsAll_191 ⟨Nat.le_of_ble_eq_true rfl, Nat.le_of_ble_eq_true rfl⟩) hD hS hA (fun H locs hP hD hS => ?_)
        refine lv_iconst (v := 1) hx hb dX9_keepsAll_194 (by decide) ?_
        refine lv_icmp_ne (tgt := 202) hx hb dX9_keepsAll_195 (by decide) (fun k98 => ?_) (fun k98 => ?_)
        · replace hf := ifn k98 hf
          refine lv_iconst (v := 0) hx hb dX9_keepsAll_202 (by decide) ?_
          refine va_put (D := (dC, dI)) (ci := 9) (v := .int 0) (ty := .boolean) (C := RX9) (T := TX9) (N := 45) hx hb hts (fun w h => gw_mem (inX9 w h)) tyX9 tyX9_ok nmX9 hown hK.1 hP hD hS 0 rfl rfl 34 (by decide) (hts _ (gw_mem wfX9_416)) (fun _ h9 => h9) rfl (by decide +kernel) rfl rfl (Nat.le_of_ble_eq_true rfl) dX9_keepsAll_203 (fun H locs hP hD hS => ?_)
          have hP : va_P (dC, dI) vwCl (mW dA ad c_tape c_taped c_tree_3 c_bonds_7 c_moves_11 c_handMoves_12 r16 c_days c_likely c_outOf c_rateNow c_pence c_top c_bottom c_spot c_textLong c_fault c_number c_numberAt c_figures c_written c_wanted c_found c_drawnNow c_worth c_hold c_way c_acts c_sDay c_sUps c_sUp c_sMarks c_paidAll 1 0 r20 c_handPaid c_regret c_aside c_other c_states c_kept_95 c_keptLong c_keptAt_96 p1) H := hP
          have hD : va_D A (mW dA ad c_tape c_taped c_tree_3 c_bonds_7 c_moves_11 c_handMoves_12 r16 c_days c_likely c_outOf c_rateNow c_pence c_top c_bottom c_spot c_textLong c_fault c_number c_numberAt c_figures c_written c_wanted c_found c_drawnNow c_worth c_hold c_way c_acts c_sDay c_sUps c_sUp c_sMarks c_paidAll 1 0 r20 c_handPaid c_regret c_aside c_other c_states c_kept_95 c_keptLong c_keptAt_96 p1) := hD
          refine lv_iload_n hx hb dX9_keepsAll_206 rfl (lv_at hl 1 rfl) ?_
          refine lv_if_eq (tgt := 242) hx hb dX9_keepsAll_207 (by decide) (fun k99 => ?_) (fun k99 => ?_)
          · replace hf := ifp k99 hf
            refine lv_aload_n hx hb dX9_keepsAll_242 rfl (lv_at hl 0 rfl) ?_
            refine lv_aload_n hx hb dX9_keepsAll_243 rfl (lv_at hl 0 rfl) ?_
            refine va_get (D := (dC, dI)) (ci := 9) (v := .ref (ad 14)) (C := RX9) (T := TX9) (N := 45) hx hb hts (fun w h => gw_mem (inX9 w h)) hown hK.1 hP 0 rfl rfl 42 (by decide) (hts _ (gw_mem wfX9_51)) (fun _ h9 => h9) rfl dX9_keepsAll_244 ?_
            refine lv_iconst (v := 2) hx hb dX9_keepsAll_247 (by decide) ?_
            refine lv_aload_n hx hb dX9_keepsAll_248 rfl (lv_at hl 0 rfl) ?_
            refine va_get (D := (dC, dI)) (ci := 9) (v := .int c_states) (C := RX9) (T := TX9) (N := 45) hx hb hts (fun w h => gw_mem (inX9 w h)) hown hK.1 hP 0 rfl rfl 40 (by decide) (hts _ (gw_mem wfX9_446)) (fun _ h9 => h9) rfl dX9_keepsAll_249 ?_
            refine lv_imul hx hb dX9_keepsAll_252 ?_
            obtain ⟨h100, hf⟩ := og_some hf
            refine va_lald hx hb hK.1 hP 14 1 rfl rfl (okI_in h100) dX9_keepsAll_253 ?_
            refine lv_topl (fun w101 ew101 => ?_)
            replace hf := nm_at hf ew101
            refine va_put (D := (dC, dI)) (ci := 9) (v := .long w101) (ty := .long) (C := RX9) (T := TX9) (N := 45) hx hb hts (fun w h => gw_mem (inX9 w h)) tyX9 tyX9_ok nmX9 hown hK.1 hP hD hS 0 rfl rfl 36 (by decide) (hts _ (gw_mem wfX9_419)) (fun _ h9 => h9) rfl (by decide +kernel) rfl rfl (Nat.le_of_ble_eq_true rfl) dX9_keepsAll_254 (fun H locs hP hD hS => ?_)
            have hP : va_P (dC, dI) vwCl (mW dA ad c_tape c_taped c_tree_3 c_bonds_7 c_moves_11 c_handMoves_12 r16 c_days c_likely c_outOf c_rateNow c_pence c_top c_bottom c_spot c_textLong c_fault c_number c_numberAt c_figures c_written c_wanted c_found c_drawnNow c_worth c_hold c_way c_acts c_sDay c_sUps c_sUp c_sMarks c_paidAll 1 0 r20 w101 c_regret c_aside c_other c_states c_kept_95 c_keptLong c_keptAt_96 p1) H := hP
            have hD : va_D A (mW dA ad c_tape c_taped c_tree_3 c_bonds_7 c_moves_11 c_handMoves_12 r16 c_days c_likely c_outOf c_rateNow c_pence c_top c_bottom c_spot c_textLong c_fault c_number c_numberAt c_figures c_written c_wanted c_found c_drawnNow c_worth c_hold c_way c_acts c_sDay c_sUps c_sUp c_sMarks c_paidAll 1 0 r20 w101 c_regret c_aside c_other c_states c_kept_95 c_keptLong c_keptAt_96 p1) := hD
            refine lv_aload_n hx hb dX9_keepsAll_257 rfl (lv_at hl 0 rfl) ?_
            refine lv_aload_n hx hb dX9_keepsAll_258 rfl (lv_at hl 0 rfl) ?_
            refine va_get (D := (dC, dI)) (ci := 9) (v := .ref (ad 14)) (C := RX9) (T := TX9) (N := 45) hx hb hts (fun w h => gw_mem (inX9 w h)) hown hK.1 hP 0 rfl rfl 42 (by decide) (hts _ (gw_mem wfX9_51)) (fun _ h9 => h9) rfl dX9_keepsAll_259 ?_
            refine lv_iconst (v := 2) hx hb dX9_keepsAll_262 (by decide) ?_
            refine lv_aload_n hx hb dX9_keepsAll_263 rfl (lv_at hl 0 rfl) ?_
            refine va_get (D := (dC, dI)) (ci := 9) (v := .int c_states) (C := RX9) (T := TX9) (N := 45) hx hb hts (fun w h => gw_mem (inX9 w h)) hown hK.1 hP 0 rfl rfl 40 (by decide) (hts _ (gw_mem wfX9_446)) (fun _ h9 => h9) rfl dX9_keepsAll_264 ?_
            refine lv_imul hx hb dX9_keepsAll_267 ?_
            refine lv_iconst (v := 1) hx hb dX9_keepsAll_268 (by decide) ?_
            refine lv_iadd hx hb dX9_keepsAll_269 ?_
            obtain ⟨h102, hf⟩ := og_some hf
            refine va_lald hx hb hK.1 hP 14 1 rfl rfl (okI_in h102) dX9_keepsAll_270 ?_
            refine lv_topl (fun w103 ew103 => ?_)
            replace hf := nm_at hf ew103
            refine va_put (D := (dC, dI)) (ci := 9) (v := .long w103) (ty := .long) (C := RX9) (T := TX9) (N := 45) hx hb hts (fun w h => gw_mem (inX9 w h)) tyX9 tyX9_ok nmX9 hown hK.1 hP hD hS 0 rfl rfl 37 (by decide) (hts _ (gw_mem wfX9_422)) (fun _ h9 => h9) rfl (by decide +kernel) rfl rfl (Nat.le_of_ble_eq_true rfl) dX9_keepsAll_271 (fun H locs hP hD hS => ?_)
            have hP : va_P (dC, dI) vwCl (mW dA ad c_tape c_taped c_tree_3 c_bonds_7 c_moves_11 c_handMoves_12 r16 c_days c_likely c_outOf c_rateNow c_pence c_top c_bottom c_spot c_textLong c_fault c_number c_numberAt c_figures c_written c_wanted c_found c_drawnNow c_worth c_hold c_way c_acts c_sDay c_sUps c_sUp c_sMarks c_paidAll 1 0 r20 w101 w103 c_aside c_other c_states c_kept_95 c_keptLong c_keptAt_96 p1) H := hP
            have hD : va_D A (mW dA ad c_tape c_taped c_tree_3 c_bonds_7 c_moves_11 c_handMoves_12 r16 c_days c_likely c_outOf c_rateNow c_pence c_top c_bottom c_spot c_textLong c_fault c_number c_numberAt c_figures c_written c_wanted c_found c_drawnNow c_worth c_hold c_way c_acts c_sDay c_sUps c_sUp c_sMarks c_paidAll 1 0 r20 w101 w103 c_aside c_other c_states c_kept_95 c_keptLong c_keptAt_96 p1) := hD
            cases hf
            exact W.vret hx hb hr (fun t ht _ => gqv hP hD hS ht) hS.2.2 dX9_keepsAll_274
          · replace hf := ifn k99 hf
            refine lv_aload_n hx hb dX9_keepsAll_210 rfl (lv_at hl 0 rfl) ?_
            refine va_get (D := (dC, dI)) (ci := 9) (v := .ref (ad 14)) (C := RX9) (T := TX9) (N := 45) hx hb hts (fun w h => gw_mem (inX9 w h)) hown hK.1 hP 0 rfl rfl 42 (by decide) (hts _ (gw_mem wfX9_51)) (fun _ h9 => h9) rfl dX9_keepsAll_211 ?_
            refine lv_iconst (v := 2) hx hb dX9_keepsAll_214 (by decide) ?_
            refine lv_aload_n hx hb dX9_keepsAll_215 rfl (lv_at hl 0 rfl) ?_
            refine va_get (D := (dC, dI)) (ci := 9) (v := .int c_states) (C := RX9) (T := TX9) (N := 45) hx hb hts (fun w h => gw_mem (inX9 w h)) hown hK.1 hP 0 rfl rfl 40 (by decide) (hts _ (gw_mem wfX9_446)) (fun _ h9 => h9) rfl dX9_keepsAll_216 ?_
            refine lv_imul hx hb dX9_keepsAll_219 ?_
            refine lv_aload_n hx hb dX9_keepsAll_220 rfl (lv_at hl 0 rfl) ?_
            refine va_get (D := (dC, dI)) (ci := 9) (v := .long c_handPaid) (C := RX9) (T := TX9) (N := 45) hx hb hts (fun w h => gw_mem (inX9 w h)) hown hK.1 hP 0 rfl rfl 36 (by decide) (hts _ (gw_mem wfX9_419)) (fun _ h9 => h9) rfl dX9_keepsAll_221 ?_
            obtain ⟨h104, hf⟩ := og_some hf
            obtain ⟨w105, ew105⟩ : ∃ y : Nat → Int64, y = vp_updL c_keptLong (Int32.toNatClampNeg (2 * c_states)) c_handPaid := ⟨_, rfl⟩
            replace hf := nm_at hf ew105
            refine va_last hx hb hK.1 hP hD hS 14 1 rfl rfl (okI_in h104) dX9_keepsAll_224 (fun H locs hP hD hS => ?_)
            have hP : va_P (dC, dI) vwCl (mW dA ad c_tape c_taped c_tree_3 c_bonds_7 c_moves_11 c_handMoves_12 r16 c_days c_likely c_outOf c_rateNow c_pence c_top c_bottom c_spot c_textLong c_fault c_number c_numberAt c_figures c_written c_wanted c_found c_drawnNow c_worth c_hold c_way c_acts c_sDay c_sUps c_sUp c_sMarks c_paidAll 1 0 r20 c_handPaid c_regret c_aside c_other c_states c_kept_95 w105 c_keptAt_96 p1) H := by rw [ew105]; exact hP
            have hD : va_D A (mW dA ad c_tape c_taped c_tree_3 c_bonds_7 c_moves_11 c_handMoves_12 r16 c_days c_likely c_outOf c_rateNow c_pence c_top c_bottom c_spot c_textLong c_fault c_number c_numberAt c_figures c_written c_wanted c_found c_drawnNow c_worth c_hold c_way c_acts c_sDay c_sUps c_sUp c_sMarks c_paidAll 1 0 r20 c_handPaid c_regret c_aside c_other c_states c_kept_95 w105 c_keptAt_96 p1) := by rw [ew105]; exact hD
            refine lv_aload_n hx hb dX9_keepsAll_225 rfl (lv_at hl 0 rfl) ?_
            refine va_get (D := (dC, dI)) (ci := 9) (v := .ref (ad 14)) (C := RX9) (T := TX9) (N := 45) hx hb hts (fun w h => gw_mem (inX9 w h)) hown hK.1 hP 0 rfl rfl 42 (by decide) (hts _ (gw_mem wfX9_51)) (fun _ h9 => h9) rfl dX9_keepsAll_226 ?_
            refine lv_iconst (v := 2) hx hb dX9_keepsAll_229 (by decide) ?_
            refine lv_aload_n hx hb dX9_keepsAll_230 rfl (lv_at hl 0 rfl) ?_
            refine va_get (D := (dC, dI)) (ci := 9) (v := .int c_states) (C := RX9) (T := TX9) (N := 45) hx hb hts (fun w h => gw_mem (inX9 w h)) hown hK.1 hP 0 rfl rfl 40 (by decide) (hts _ (gw_mem wfX9_446)) (fun _ h9 => h9) rfl dX9_keepsAll_231 ?_
            refine lv_imul hx hb dX9_keepsAll_234 ?_
            refine lv_iconst (v := 1) hx hb dX9_keepsAll_235 (by decide) ?_
            refine lv_iadd hx hb dX9_keepsAll_236 ?_
            refine lv_aload_n hx hb dX9_keepsAll_237 rfl (lv_at hl 0 rfl) ?_
            refine va_get (D := (dC, dI)) (ci := 9) (v := .long c_regret) (C := RX9) (T := TX9) (N := 45) hx hb hts (fun w h => gw_mem (inX9 w h)) hown hK.1 hP 0 rfl rfl 37 (by decide) (hts _ (gw_mem wfX9_422)) (fun _ h9 => h9) rfl dX9_keepsAll_238 ?_
            obtain ⟨h106, hf⟩ := og_some hf
            obtain ⟨w107, ew107⟩ : ∃ y : Nat → Int64, y = vp_updL w105 (Int32.toNatClampNeg ((2 * c_states) + 1)) c_regret := ⟨_, rfl⟩
            replace hf := nm_at hf ew107
            refine va_last hx hb hK.1 hP hD hS 14 1 rfl rfl (okI_in h106) dX9_keepsAll_241 (fun H locs hP hD hS => ?_)
            have hP : va_P (dC, dI) vwCl (mW dA ad c_tape c_taped c_tree_3 c_bonds_7 c_moves_11 c_handMoves_12 r16 c_days c_likely c_outOf c_rateNow c_pence c_top c_bottom c_spot c_textLong c_fault c_number c_numberAt c_figures c_written c_wanted c_found c_drawnNow c_worth c_hold c_way c_acts c_sDay c_sUps c_sUp c_sMarks c_paidAll 1 0 r20 c_handPaid c_regret c_aside c_other c_states c_kept_95 w107 c_keptAt_96 p1) H := by rw [ew107]; exact hP
            have hD : va_D A (mW dA ad c_tape c_taped c_tree_3 c_bonds_7 c_moves_11 c_handMoves_12 r16 c_days c_likely c_outOf c_rateNow c_pence c_top c_bottom c_spot c_textLong c_fault c_number c_numberAt c_figures c_written c_wanted c_found c_drawnNow c_worth c_hold c_way c_acts c_sDay c_sUps c_sUp c_sMarks c_paidAll 1 0 r20 c_handPaid c_regret c_aside c_other c_states c_kept_95 w107 c_keptAt_96 p1) := by rw [ew107]; exact hD
            refine lv_aload_n hx hb dX9_keepsAll_242 rfl (lv_at hl 0 rfl) ?_
            refine lv_aload_n hx hb dX9_keepsAll_243 rfl (lv_at hl 0 rfl) ?_
            refine va_get (D := (dC, dI)) (ci := 9) (v := .ref (ad 14)) (C := RX9) (T := TX9) (N := 45) hx hb hts (fun w h => gw_mem (inX9 w h)) hown hK.1 hP 0 rfl rfl 42 (by decide) (hts _ (gw_mem wfX9_51)) (fun _ h9 => h9) rfl dX9_keepsAll_244 ?_
            refine lv_iconst (v := 2) hx hb dX9_keepsAll_247 (by decide) ?_
            refine lv_aload_n hx hb dX9_keepsAll_248 rfl (lv_at hl 0 rfl) ?_
            refine va_get (D := (dC, dI)) (ci := 9) (v := .int c_states) (C := RX9) (T := TX9) (N := 45) hx hb hts (fun w h => gw_mem (inX9 w h)) hown hK.1 hP 0 rfl rfl 40 (by decide) (hts _ (gw_mem wfX9_446)) (fun _ h9 => h9) rfl dX9_keepsAll_249 ?_
            refine lv_imul hx hb dX9_keepsAll_252 ?_
            obtain ⟨h108, hf⟩ := og_some hf
            refine va_lald hx hb hK.1 hP 14 1 rfl rfl (okI_in h108) dX9_keepsAll_253 ?_
            refine lv_topl (fun w109 ew109 => ?_)
            replace hf := nm_at hf ew109
            refine va_put (D := (dC, dI)) (ci := 9) (v := .long w109) (ty := .long) (C := RX9) (T := TX9) (N := 45) hx hb hts (fun w h => gw_mem (inX9 w h)) tyX9 tyX9_ok nmX9 hown hK.1 hP hD hS 0 rfl rfl 36 (by decide) (hts _ (gw_mem wfX9_419)) (fun _ h9 => h9) rfl (by decide +kernel) rfl rfl (Nat.le_of_ble_eq_true rfl) dX9_keepsAll_254 (fun H locs hP hD hS => ?_)
            have hP : va_P (dC, dI) vwCl (mW dA ad c_tape c_taped c_tree_3 c_bonds_7 c_moves_11 c_handMoves_12 r16 c_days c_likely c_outOf c_rateNow c_pence c_top c_bottom c_spot c_textLong c_fault c_number c_numberAt c_figures c_written c_wanted c_found c_drawnNow c_worth c_hold c_way c_acts c_sDay c_sUps c_sUp c_sMarks c_paidAll 1 0 r20 w109 c_regret c_aside c_other c_states c_kept_95 w107 c_keptAt_96 p1) H := hP
            have hD : va_D A (mW dA ad c_tape c_taped c_tree_3 c_bonds_7 c_moves_11 c_handMoves_12 r16 c_days c_likely c_outOf c_rateNow c_pence c_top c_bottom c_spot c_textLong c_fault c_number c_numberAt c_figures c_written c_wanted c_found c_drawnNow c_worth c_hold c_way c_acts c_sDay c_sUps c_sUp c_sMarks c_paidAll 1 0 r20 w109 c_regret c_aside c_other c_states c_kept_95 w107 c_keptAt_96 p1) := hD
            refine lv_aload_n hx hb dX9_keepsAll_257 rfl (lv_at hl 0 rfl) ?_
            refine lv_aload_n hx hb dX9_keepsAll_258 rfl (lv_at hl 0 rfl) ?_
            refine va_get (D := (dC, dI)) (ci := 9) (v := .ref (ad 14)) (C := RX9) (T := TX9) (N := 45) hx hb hts (fun w h => gw_mem (inX9 w h)) hown hK.1 hP 0 rfl rfl 42 (by decide) (hts _ (gw_mem wfX9_51)) (fun _ h9 => h9) rfl dX9_keepsAll_259 ?_
            refine lv_iconst (v := 2) hx hb dX9_keepsAll_262 (by decide) ?_
            refine lv_aload_n hx hb dX9_keepsAll_263 rfl (lv_at hl 0 rfl) ?_
            refine va_get (D := (dC, dI)) (ci := 9) (v := .int c_states) (C := RX9) (T := TX9) (N := 45) hx hb hts (fun w h => gw_mem (inX9 w h)) hown hK.1 hP 0 rfl rfl 40 (by decide) (hts _ (gw_mem wfX9_446)) (fun _ h9 => h9) rfl dX9_keepsAll_264 ?_
            refine lv_imul hx hb dX9_keepsAll_267 ?_
            refine lv_iconst (v := 1) hx hb dX9_keepsAll_268 (by decide) ?_
            refine lv_iadd hx hb dX9_keepsAll_269 ?_
            obtain ⟨h110, hf⟩ := og_some hf
            refine va_lald hx hb hK.1 hP 14 1 rfl rfl (okI_in h110) dX9_keepsAll_270 ?_
            refine lv_topl (fun w111 ew111 => ?_)
            replace hf := nm_at hf ew111
            refine va_put (D := (dC, dI)) (ci := 9) (v := .long w111) (ty := .long) (C := RX9) (T := TX9) (N := 45) hx hb hts (fun w h => gw_mem (inX9 w h)) tyX9 tyX9_ok nmX9 hown hK.1 hP hD hS 0 rfl rfl 37 (by decide) (hts _ (gw_mem wfX9_422)) (fun _ h9 => h9) rfl (by decide +kernel) rfl rfl (Nat.le_of_ble_eq_true rfl) dX9_keepsAll_271 (fun H locs hP hD hS => ?_)
            have hP : va_P (dC, dI) vwCl (mW dA ad c_tape c_taped c_tree_3 c_bonds_7 c_moves_11 c_handMoves_12 r16 c_days c_likely c_outOf c_rateNow c_pence c_top c_bottom c_spot c_textLong c_fault c_number c_numberAt c_figures c_written c_wanted c_found c_drawnNow c_worth c_hold c_way c_acts c_sDay c_sUps c_sUp c_sMarks c_paidAll 1 0 r20 w109 w111 c_aside c_other c_states c_kept_95 w107 c_keptAt_96 p1) H := hP
            have hD : va_D A (mW dA ad c_tape c_taped c_tree_3 c_bonds_7 c_moves_11 c_handMoves_12 r16 c_days c_likely c_outOf c_rateNow c_pence c_top c_bottom c_spot c_textLong c_fault c_number c_numberAt c_figures c_written c_wanted c_found c_drawnNow c_worth c_hold c_way c_acts c_sDay c_sUps c_sUp c_sMarks c_paidAll 1 0 r20 w109 w111 c_aside c_other c_states c_kept_95 w107 c_keptAt_96 p1) := hD
            cases hf
            exact W.vret hx hb hr (fun t ht _ => gqv hP hD hS ht) hS.2.2 dX9_keepsAll_274
        · replace hf := ifp k98 hf
          refine lv_iconst (v := 1) hx hb dX9_keepsAll_198 (by decide) ?_
          refine lv_goto (tgt := 203) hx hb dX9_keepsAll_199 (by decide) ?_
          refine va_put (D := (dC, dI)) (ci := 9) (v := .int 1) (ty := .boolean) (C := RX9) (T := TX9) (N := 45) hx hb hts (fun w h => gw_mem (inX9 w h)) tyX9 tyX9_ok nmX9 hown hK.1 hP hD hS 0 rfl rfl 34 (by decide) (hts _ (gw_mem wfX9_416)) (fun _ h9 => h9) rfl (by decide +kernel) rfl rfl (Nat.le_of_ble_eq_true rfl) dX9_keepsAll_203 (fun H locs hP hD hS => ?_)
          have hP : va_P (dC, dI) vwCl (mW dA ad c_tape c_taped c_tree_3 c_bonds_7 c_moves_11 c_handMoves_12 r16 c_days c_likely c_outOf c_rateNow c_pence c_top c_bottom c_spot c_textLong c_fault c_number c_numberAt c_figures c_written c_wanted c_found c_drawnNow c_worth c_hold c_way c_acts c_sDay c_sUps c_sUp c_sMarks c_paidAll 1 1 r20 c_handPaid c_regret c_aside c_other c_states c_kept_95 c_keptLong c_keptAt_96 p1) H := hP
          have hD : va_D A (mW dA ad c_tape c_taped c_tree_3 c_bonds_7 c_moves_11 c_handMoves_12 r16 c_days c_likely c_outOf c_rateNow c_pence c_top c_bottom c_spot c_textLong c_fault c_number c_numberAt c_figures c_written c_wanted c_found c_drawnNow c_worth c_hold c_way c_acts c_sDay c_sUps c_sUp c_sMarks c_paidAll 1 1 r20 c_handPaid c_regret c_aside c_other c_states c_kept_95 c_keptLong c_keptAt_96 p1) := hD
          refine lv_iload_n hx hb dX9_keepsAll_206 rfl (lv_at hl 1 rfl) ?_
          refine lv_if_eq (tgt := 242) hx hb dX9_keepsAll_207 (by decide) (fun k112 => ?_) (fun k112 => ?_)
          · replace hf := ifp k112 hf
            refine lv_aload_n hx hb dX9_keepsAll_242 rfl (lv_at hl 0 rfl) ?_
            refine lv_aload_n hx hb dX9_keepsAll_243 rfl (lv_at hl 0 rfl) ?_
            refine va_get (D := (dC, dI)) (ci := 9) (v := .ref (ad 14)) (C := RX9) (T := TX9) (N := 45) hx hb hts (fun w h => gw_mem (inX9 w h)) hown hK.1 hP 0 rfl rfl 42 (by decide) (hts _ (gw_mem wfX9_51)) (fun _ h9 => h9) rfl dX9_keepsAll_244 ?_
            refine lv_iconst (v := 2) hx hb dX9_keepsAll_247 (by decide) ?_
            refine lv_aload_n hx hb dX9_keepsAll_248 rfl (lv_at hl 0 rfl) ?_
            refine va_get (D := (dC, dI)) (ci := 9) (v := .int c_states) (C := RX9) (T := TX9) (N := 45) hx hb hts (fun w h => gw_mem (inX9 w h)) hown hK.1 hP 0 rfl rfl 40 (by decide) (hts _ (gw_mem wfX9_446)) (fun _ h9 => h9) rfl dX9_keepsAll_249 ?_
            refine lv_imul hx hb dX9_keepsAll_252 ?_
            obtain ⟨h113, hf⟩ := og_some hf
            refine va_lald hx hb hK.1 hP 14 1 rfl rfl (okI_in h113) dX9_keepsAll_253 ?_
            refine lv_topl (fun w114 ew114 => ?_)
            replace hf := nm_at hf ew114
            refine va_put (D := (dC, dI)) (ci := 9) (v := .long w114) (ty := .long) (C := RX9) (T := TX9) (N := 45) hx hb hts (fun w h => gw_mem (inX9 w h)) tyX9 tyX9_ok nmX9 hown hK.1 hP hD hS 0 rfl rfl 36 (by decide) (hts _ (gw_mem wfX9_419)) (fun _ h9 => h9) rfl (by decide +kernel) rfl rfl (Nat.le_of_ble_eq_true rfl) dX9_keepsAll_254 (fun H locs hP hD hS => ?_)
            have hP : va_P (dC, dI) vwCl (mW dA ad c_tape c_taped c_tree_3 c_bonds_7 c_moves_11 c_handMoves_12 r16 c_days c_likely c_outOf c_rateNow c_pence c_top c_bottom c_spot c_textLong c_fault c_number c_numberAt c_figures c_written c_wanted c_found c_drawnNow c_worth c_hold c_way c_acts c_sDay c_sUps c_sUp c_sMarks c_paidAll 1 1 r20 w114 c_regret c_aside c_other c_states c_kept_95 c_keptLong c_keptAt_96 p1) H := hP
            have hD : va_D A (mW dA ad c_tape c_taped c_tree_3 c_bonds_7 c_moves_11 c_handMoves_12 r16 c_days c_likely c_outOf c_rateNow c_pence c_top c_bottom c_spot c_textLong c_fault c_number c_numberAt c_figures c_written c_wanted c_found c_drawnNow c_worth c_hold c_way c_acts c_sDay c_sUps c_sUp c_sMarks c_paidAll 1 1 r20 w114 c_regret c_aside c_other c_states c_kept_95 c_keptLong c_keptAt_96 p1) := hD
            refine lv_aload_n hx hb dX9_keepsAll_257 rfl (lv_at hl 0 rfl) ?_
            refine lv_aload_n hx hb dX9_keepsAll_258 rfl (lv_at hl 0 rfl) ?_
            refine va_get (D := (dC, dI)) (ci := 9) (v := .ref (ad 14)) (C := RX9) (T := TX9) (N := 45) hx hb hts (fun w h => gw_mem (inX9 w h)) hown hK.1 hP 0 rfl rfl 42 (by decide) (hts _ (gw_mem wfX9_51)) (fun _ h9 => h9) rfl dX9_keepsAll_259 ?_
            refine lv_iconst (v := 2) hx hb dX9_keepsAll_262 (by decide) ?_
            refine lv_aload_n hx hb dX9_keepsAll_263 rfl (lv_at hl 0 rfl) ?_
            refine va_get (D := (dC, dI)) (ci := 9) (v := .int c_states) (C := RX9) (T := TX9) (N := 45) hx hb hts (fun w h => gw_mem (inX9 w h)) hown hK.1 hP 0 rfl rfl 40 (by decide) (hts _ (gw_mem wfX9_446)) (fun _ h9 => h9) rfl dX9_keepsAll_264 ?_
            refine lv_imul hx hb dX9_keepsAll_267 ?_
            refine lv_iconst (v := 1) hx hb dX9_keepsAll_268 (by decide) ?_
            refine lv_iadd hx hb dX9_keepsAll_269 ?_
            obtain ⟨h115, hf⟩ := og_some hf
            refine va_lald hx hb hK.1 hP 14 1 rfl rfl (okI_in h115) dX9_keepsAll_270 ?_
            refine lv_topl (fun w116 ew116 => ?_)
            replace hf := nm_at hf ew116
            refine va_put (D := (dC, dI)) (ci := 9) (v := .long w116) (ty := .long) (C := RX9) (T := TX9) (N := 45) hx hb hts (fun w h => gw_mem (inX9 w h)) tyX9 tyX9_ok nmX9 hown hK.1 hP hD hS 0 rfl rfl 37 (by decide) (hts _ (gw_mem wfX9_422)) (fun _ h9 => h9) rfl (by decide +kernel) rfl rfl (Nat.le_of_ble_eq_true rfl) dX9_keepsAll_271 (fun H locs hP hD hS => ?_)
            have hP : va_P (dC, dI) vwCl (mW dA ad c_tape c_taped c_tree_3 c_bonds_7 c_moves_11 c_handMoves_12 r16 c_days c_likely c_outOf c_rateNow c_pence c_top c_bottom c_spot c_textLong c_fault c_number c_numberAt c_figures c_written c_wanted c_found c_drawnNow c_worth c_hold c_way c_acts c_sDay c_sUps c_sUp c_sMarks c_paidAll 1 1 r20 w114 w116 c_aside c_other c_states c_kept_95 c_keptLong c_keptAt_96 p1) H := hP
            have hD : va_D A (mW dA ad c_tape c_taped c_tree_3 c_bonds_7 c_moves_11 c_handMoves_12 r16 c_days c_likely c_outOf c_rateNow c_pence c_top c_bottom c_spot c_textLong c_fault c_number c_numberAt c_figures c_written c_wanted c_found c_drawnNow c_worth c_hold c_way c_acts c_sDay c_sUps c_sUp c_sMarks c_paidAll 1 1 r20 w114 w116 c_aside c_other c_states c_kept_95 c_keptLong c_keptAt_96 p1) := hD
            cases hf
            exact W.vret hx hb hr (fun t ht _ => gqv hP hD hS ht) hS.2.2 dX9_keepsAll_274
          · replace hf := ifn k112 hf
            refine lv_aload_n hx hb dX9_keepsAll_210 rfl (lv_at hl 0 rfl) ?_
            refine va_get (D := (dC, dI)) (ci := 9) (v := .ref (ad 14)) (C := RX9) (T := TX9) (N := 45) hx hb hts (fun w h => gw_mem (inX9 w h)) hown hK.1 hP 0 rfl rfl 42 (by decide) (hts _ (gw_mem wfX9_51)) (fun _ h9 => h9) rfl dX9_keepsAll_211 ?_
            refine lv_iconst (v := 2) hx hb dX9_keepsAll_214 (by decide) ?_
            refine lv_aload_n hx hb dX9_keepsAll_215 rfl (lv_at hl 0 rfl) ?_
            refine va_get (D := (dC, dI)) (ci := 9) (v := .int c_states) (C := RX9) (T := TX9) (N := 45) hx hb hts (fun w h => gw_mem (inX9 w h)) hown hK.1 hP 0 rfl rfl 40 (by decide) (hts _ (gw_mem wfX9_446)) (fun _ h9 => h9) rfl dX9_keepsAll_216 ?_
            refine lv_imul hx hb dX9_keepsAll_219 ?_
            refine lv_aload_n hx hb dX9_keepsAll_220 rfl (lv_at hl 0 rfl) ?_
            refine va_get (D := (dC, dI)) (ci := 9) (v := .long c_handPaid) (C := RX9) (T := TX9) (N := 45) hx hb hts (fun w h => gw_mem (inX9 w h)) hown hK.1 hP 0 rfl rfl 36 (by decide) (hts _ (gw_mem wfX9_419)) (fun _ h9 => h9) rfl dX9_keepsAll_221 ?_
            obtain ⟨h117, hf⟩ := og_some hf
            obtain ⟨w118, ew118⟩ : ∃ y : Nat → Int64, y = vp_updL c_keptLong (Int32.toNatClampNeg (2 * c_states)) c_handPaid := ⟨_, rfl⟩
            replace hf := nm_at hf ew118
            refine va_last hx hb hK.1 hP hD hS 14 1 rfl rfl (okI_in h117) dX9_keepsAll_224 (fun H locs hP hD hS => ?_)
            have hP : va_P (dC, dI) vwCl (mW dA ad c_tape c_taped c_tree_3 c_bonds_7 c_moves_11 c_handMoves_12 r16 c_days c_likely c_outOf c_rateNow c_pence c_top c_bottom c_spot c_textLong c_fault c_number c_numberAt c_figures c_written c_wanted c_found c_drawnNow c_worth c_hold c_way c_acts c_sDay c_sUps c_sUp c_sMarks c_paidAll 1 1 r20 c_handPaid c_regret c_aside c_other c_states c_kept_95 w118 c_keptAt_96 p1) H := by rw [ew118]; exact hP
            have hD : va_D A (mW dA ad c_tape c_taped c_tree_3 c_bonds_7 c_moves_11 c_handMoves_12 r16 c_days c_likely c_outOf c_rateNow c_pence c_top c_bottom c_spot c_textLong c_fault c_number c_numberAt c_figures c_written c_wanted c_found c_drawnNow c_worth c_hold c_way c_acts c_sDay c_sUps c_sUp c_sMarks c_paidAll 1 1 r20 c_handPaid c_regret c_aside c_other c_states c_kept_95 w118 c_keptAt_96 p1) := by rw [ew118]; exact hD
            refine lv_aload_n hx hb dX9_keepsAll_225 rfl (lv_at hl 0 rfl) ?_
            refine va_get (D := (dC, dI)) (ci := 9) (v := .ref (ad 14)) (C := RX9) (T := TX9) (N := 45) hx hb hts (fun w h => gw_mem (inX9 w h)) hown hK.1 hP 0 rfl rfl 42 (by decide) (hts _ (gw_mem wfX9_51)) (fun _ h9 => h9) rfl dX9_keepsAll_226 ?_
            refine lv_iconst (v := 2) hx hb dX9_keepsAll_229 (by decide) ?_
            refine lv_aload_n hx hb dX9_keepsAll_230 rfl (lv_at hl 0 rfl) ?_
            refine va_get (D := (dC, dI)) (ci := 9) (v := .int c_states) (C := RX9) (T := TX9) (N := 45) hx hb hts (fun w h => gw_mem (inX9 w h)) hown hK.1 hP 0 rfl rfl 40 (by decide) (hts _ (gw_mem wfX9_446)) (fun _ h9 => h9) rfl dX9_keepsAll_231 ?_
            refine lv_imul hx hb dX9_keepsAll_234 ?_
            refine lv_iconst (v := 1) hx hb dX9_keepsAll_235 (by decide) ?_
            refine lv_iadd hx hb dX9_keepsAll_236 ?_
            refine lv_aload_n hx hb dX9_keepsAll_237 rfl (lv_at hl 0 rfl) ?_
            refine va_get (D := (dC, dI)) (ci := 9) (v := .long c_regret) (C := RX9) (T := TX9) (N := 45) hx hb hts (fun w h => gw_mem (inX9 w h)) hown hK.1 hP 0 rfl rfl 37 (by decide) (hts _ (gw_mem wfX9_422)) (fun _ h9 => h9) rfl dX9_keepsAll_238 ?_
            obtain ⟨h119, hf⟩ := og_some hf
            obtain ⟨w120, ew120⟩ : ∃ y : Nat → Int64, y = vp_updL w118 (Int32.toNatClampNeg ((2 * c_states) + 1)) c_regret := ⟨_, rfl⟩
            replace hf := nm_at hf ew120
            refine va_last hx hb hK.1 hP hD hS 14 1 rfl rfl (okI_in h119) dX9_keepsAll_241 (fun H locs hP hD hS => ?_)
            have hP : va_P (dC, dI) vwCl (mW dA ad c_tape c_taped c_tree_3 c_bonds_7 c_moves_11 c_handMoves_12 r16 c_days c_likely c_outOf c_rateNow c_pence c_top c_bottom c_spot c_textLong c_fault c_number c_numberAt c_figures c_written c_wanted c_found c_drawnNow c_worth c_hold c_way c_acts c_sDay c_sUps c_sUp c_sMarks c_paidAll 1 1 r20 c_handPaid c_regret c_aside c_other c_states c_kept_95 w120 c_keptAt_96 p1) H := by rw [ew120]; exact hP
            have hD : va_D A (mW dA ad c_tape c_taped c_tree_3 c_bonds_7 c_moves_11 c_handMoves_12 r16 c_days c_likely c_outOf c_rateNow c_pence c_top c_bottom c_spot c_textLong c_fault c_number c_numberAt c_figures c_written c_wanted c_found c_drawnNow c_worth c_hold c_way c_acts c_sDay c_sUps c_sUp c_sMarks c_paidAll 1 1 r20 c_handPaid c_regret c_aside c_other c_states c_kept_95 w120 c_keptAt_96 p1) := by rw [ew120]; exact hD
            refine lv_aload_n hx hb dX9_keepsAll_242 rfl (lv_at hl 0 rfl) ?_
            refine lv_aload_n hx hb dX9_keepsAll_243 rfl (lv_at hl 0 rfl) ?_
            refine va_get (D := (dC, dI)) (ci := 9) (v := .ref (ad 14)) (C := RX9) (T := TX9) (N := 45) hx hb hts (fun w h => gw_mem (inX9 w h)) hown hK.1 hP 0 rfl rfl 42 (by decide) (hts _ (gw_mem wfX9_51)) (fun _ h9 => h9) rfl dX9_keepsAll_244 ?_
            refine lv_iconst (v := 2) hx hb dX9_keepsAll_247 (by decide) ?_
            refine lv_aload_n hx hb dX9_keepsAll_248 rfl (lv_at hl 0 rfl) ?_
            refine va_get (D := (dC, dI)) (ci := 9) (v := .int c_states) (C := RX9) (T := TX9) (N := 45) hx hb hts (fun w h => gw_mem (inX9 w h)) hown hK.1 hP 0 rfl rfl 40 (by decide) (hts _ (gw_mem wfX9_446)) (fun _ h9 => h9) rfl dX9_keepsAll_249 ?_
            refine lv_imul hx hb dX9_keepsAll_252 ?_
            obtain ⟨h121, hf⟩ := og_some hf
            refine va_lald hx hb hK.1 hP 14 1 rfl rfl (okI_in h121) dX9_keepsAll_253 ?_
            refine lv_topl (fun w122 ew122 => ?_)
            replace hf := nm_at hf ew122
            refine va_put (D := (dC, dI)) (ci := 9) (v := .long w122) (ty := .long) (C := RX9) (T := TX9) (N := 45) hx hb hts (fun w h => gw_mem (inX9 w h)) tyX9 tyX9_ok nmX9 hown hK.1 hP hD hS 0 rfl rfl 36 (by decide) (hts _ (gw_mem wfX9_419)) (fun _ h9 => h9) rfl (by decide +kernel) rfl rfl (Nat.le_of_ble_eq_true rfl) dX9_keepsAll_254 (fun H locs hP hD hS => ?_)
            have hP : va_P (dC, dI) vwCl (mW dA ad c_tape c_taped c_tree_3 c_bonds_7 c_moves_11 c_handMoves_12 r16 c_days c_likely c_outOf c_rateNow c_pence c_top c_bottom c_spot c_textLong c_fault c_number c_numberAt c_figures c_written c_wanted c_found c_drawnNow c_worth c_hold c_way c_acts c_sDay c_sUps c_sUp c_sMarks c_paidAll 1 1 r20 w122 c_regret c_aside c_other c_states c_kept_95 w120 c_keptAt_96 p1) H := hP
            have hD : va_D A (mW dA ad c_tape c_taped c_tree_3 c_bonds_7 c_moves_11 c_handMoves_12 r16 c_days c_likely c_outOf c_rateNow c_pence c_top c_bottom c_spot c_textLong c_fault c_number c_numberAt c_figures c_written c_wanted c_found c_drawnNow c_worth c_hold c_way c_acts c_sDay c_sUps c_sUp c_sMarks c_paidAll 1 1 r20 w122 c_regret c_aside c_other c_states c_kept_95 w120 c_keptAt_96 p1) := hD
            refine lv_aload_n hx hb dX9_keepsAll_257 rfl (lv_at hl 0 rfl) ?_
            refine lv_aload_n hx hb dX9_keepsAll_258 rfl (lv_at hl 0 rfl) ?_
            refine va_get (D := (dC, dI)) (ci := 9) (v := .ref (ad 14)) (C := RX9) (T := TX9) (N := 45) hx hb hts (fun w h => gw_mem (inX9 w h)) hown hK.1 hP 0 rfl rfl 42 (by decide) (hts _ (gw_mem wfX9_51)) (fun _ h9 => h9) rfl dX9_keepsAll_259 ?_
            refine lv_iconst (v := 2) hx hb dX9_keepsAll_262 (by decide) ?_
            refine lv_aload_n hx hb dX9_keepsAll_263 rfl (lv_at hl 0 rfl) ?_
            refine va_get (D := (dC, dI)) (ci := 9) (v := .int c_states) (C := RX9) (T := TX9) (N := 45) hx hb hts (fun w h => gw_mem (inX9 w h)) hown hK.1 hP 0 rfl rfl 40 (by decide) (hts _ (gw_mem wfX9_446)) (fun _ h9 => h9) rfl dX9_keepsAll_264 ?_
            refine lv_imul hx hb dX9_keepsAll_267 ?_
            refine lv_iconst (v := 1) hx hb dX9_keepsAll_268 (by decide) ?_
            refine lv_iadd hx hb dX9_keepsAll_269 ?_
            obtain ⟨h123, hf⟩ := og_some hf
            refine va_lald hx hb hK.1 hP 14 1 rfl rfl (okI_in h123) dX9_keepsAll_270 ?_
            refine lv_topl (fun w124 ew124 => ?_)
            replace hf := nm_at hf ew124
            refine va_put (D := (dC, dI)) (ci := 9) (v := .long w124) (ty := .long) (C := RX9) (T := TX9) (N := 45) hx hb hts (fun w h => gw_mem (inX9 w h)) tyX9 tyX9_ok nmX9 hown hK.1 hP hD hS 0 rfl rfl 37 (by decide) (hts _ (gw_mem wfX9_422)) (fun _ h9 => h9) rfl (by decide +kernel) rfl rfl (Nat.le_of_ble_eq_true rfl) dX9_keepsAll_271 (fun H locs hP hD hS => ?_)
            have hP : va_P (dC, dI) vwCl (mW dA ad c_tape c_taped c_tree_3 c_bonds_7 c_moves_11 c_handMoves_12 r16 c_days c_likely c_outOf c_rateNow c_pence c_top c_bottom c_spot c_textLong c_fault c_number c_numberAt c_figures c_written c_wanted c_found c_drawnNow c_worth c_hold c_way c_acts c_sDay c_sUps c_sUp c_sMarks c_paidAll 1 1 r20 w122 w124 c_aside c_other c_states c_kept_95 w120 c_keptAt_96 p1) H := hP
            have hD : va_D A (mW dA ad c_tape c_taped c_tree_3 c_bonds_7 c_moves_11 c_handMoves_12 r16 c_days c_likely c_outOf c_rateNow c_pence c_top c_bottom c_spot c_textLong c_fault c_number c_numberAt c_figures c_written c_wanted c_found c_drawnNow c_worth c_hold c_way c_acts c_sDay c_sUps c_sUp c_sMarks c_paidAll 1 1 r20 w122 w124 c_aside c_other c_states c_kept_95 w120 c_keptAt_96 p1) := hD
            cases hf
            exact W.vret hx hb hr (fun t ht _ => gqv hP hD hS ht) hS.2.2 dX9_keepsAll_274
      · replace hf := ifn k93 hf
        refine lv_iconst (v := 1) hx hb dX9_keepsAll_186 (by decide) ?_
        refine lv_goto (tgt := 191) hx hb dX9_keepsAll_187 (by decide) ?_
        obtain ⟨r125, c_kept_126, c_keptAt_127, v128, hf⟩ := bd3_some hf
        refine gci (va_runV (As := [.int 1]) (rest := [.ref (ad 0)]) ⟨hx, hb, hml, hown, hts⟩ (tX9_keeps l dC dI dA ad H.size v128) (ccX9_X9_keeps hts ⟨Nat.le_of_ble_eq_true rfl, Nat.le_of_ble_eq_true rfl⟩) (gPreV (ci := 9) (q0 := 0) hP hK hD rfl rfl) rfl rfl hl.1 rfl (lv_room (Nat.le_of_ble_eq_true rfl)) dX9_keepsAll_191 ⟨Nat.le_of_ble_eq_true rfl, Nat.le_of_ble_eq_true rfl⟩) hD hS hA (fun H locs hP hD hS => ?_)
        refine lv_iconst (v := 1) hx hb dX9_keepsAll_194 (by decide) ?_
        refine lv_icmp_ne (tgt := 202) hx hb dX9_keepsAll_195 (by decide) (fun k129 => ?_) (fun k129 => ?_)
        · replace hf := ifn k129 hf
          refine lv_iconst (v := 0) hx hb dX9_keepsAll_202 (by decide) ?_
          refine va_put (D := (dC, dI)) (ci := 9) (v := .int 0) (ty := .boolean) (C := RX9) (T := TX9) (N := 45) hx hb hts (fun w h => gw_mem (inX9 w h)) tyX9 tyX9_ok nmX9 hown hK.1 hP hD hS 0 rfl rfl 34 (by decide) (hts _ (gw_mem wfX9_416)) (fun _ h9 => h9) rfl (by decide +kernel) rfl rfl (Nat.le_of_ble_eq_true rfl) dX9_keepsAll_203 (fun H locs hP hD hS => ?_)
          have hP : va_P (dC, dI) vwCl (mW dA ad c_tape c_taped c_tree_3 c_bonds_7 c_moves_11 c_handMoves_12 r16 c_days c_likely c_outOf c_rateNow c_pence c_top c_bottom c_spot c_textLong c_fault c_number c_numberAt c_figures c_written c_wanted c_found c_drawnNow c_worth c_hold c_way c_acts c_sDay c_sUps c_sUp c_sMarks c_paidAll 1 0 r20 c_handPaid c_regret c_aside c_other c_states c_kept_126 c_keptLong c_keptAt_127 p1) H := hP
          have hD : va_D A (mW dA ad c_tape c_taped c_tree_3 c_bonds_7 c_moves_11 c_handMoves_12 r16 c_days c_likely c_outOf c_rateNow c_pence c_top c_bottom c_spot c_textLong c_fault c_number c_numberAt c_figures c_written c_wanted c_found c_drawnNow c_worth c_hold c_way c_acts c_sDay c_sUps c_sUp c_sMarks c_paidAll 1 0 r20 c_handPaid c_regret c_aside c_other c_states c_kept_126 c_keptLong c_keptAt_127 p1) := hD
          refine lv_iload_n hx hb dX9_keepsAll_206 rfl (lv_at hl 1 rfl) ?_
          refine lv_if_eq (tgt := 242) hx hb dX9_keepsAll_207 (by decide) (fun k130 => ?_) (fun k130 => ?_)
          · replace hf := ifp k130 hf
            refine lv_aload_n hx hb dX9_keepsAll_242 rfl (lv_at hl 0 rfl) ?_
            refine lv_aload_n hx hb dX9_keepsAll_243 rfl (lv_at hl 0 rfl) ?_
            refine va_get (D := (dC, dI)) (ci := 9) (v := .ref (ad 14)) (C := RX9) (T := TX9) (N := 45) hx hb hts (fun w h => gw_mem (inX9 w h)) hown hK.1 hP 0 rfl rfl 42 (by decide) (hts _ (gw_mem wfX9_51)) (fun _ h9 => h9) rfl dX9_keepsAll_244 ?_
            refine lv_iconst (v := 2) hx hb dX9_keepsAll_247 (by decide) ?_
            refine lv_aload_n hx hb dX9_keepsAll_248 rfl (lv_at hl 0 rfl) ?_
            refine va_get (D := (dC, dI)) (ci := 9) (v := .int c_states) (C := RX9) (T := TX9) (N := 45) hx hb hts (fun w h => gw_mem (inX9 w h)) hown hK.1 hP 0 rfl rfl 40 (by decide) (hts _ (gw_mem wfX9_446)) (fun _ h9 => h9) rfl dX9_keepsAll_249 ?_
            refine lv_imul hx hb dX9_keepsAll_252 ?_
            obtain ⟨h131, hf⟩ := og_some hf
            refine va_lald hx hb hK.1 hP 14 1 rfl rfl (okI_in h131) dX9_keepsAll_253 ?_
            refine lv_topl (fun w132 ew132 => ?_)
            replace hf := nm_at hf ew132
            refine va_put (D := (dC, dI)) (ci := 9) (v := .long w132) (ty := .long) (C := RX9) (T := TX9) (N := 45) hx hb hts (fun w h => gw_mem (inX9 w h)) tyX9 tyX9_ok nmX9 hown hK.1 hP hD hS 0 rfl rfl 36 (by decide) (hts _ (gw_mem wfX9_419)) (fun _ h9 => h9) rfl (by decide +kernel) rfl rfl (Nat.le_of_ble_eq_true rfl) dX9_keepsAll_254 (fun H locs hP hD hS => ?_)
            have hP : va_P (dC, dI) vwCl (mW dA ad c_tape c_taped c_tree_3 c_bonds_7 c_moves_11 c_handMoves_12 r16 c_days c_likely c_outOf c_rateNow c_pence c_top c_bottom c_spot c_textLong c_fault c_number c_numberAt c_figures c_written c_wanted c_found c_drawnNow c_worth c_hold c_way c_acts c_sDay c_sUps c_sUp c_sMarks c_paidAll 1 0 r20 w132 c_regret c_aside c_other c_states c_kept_126 c_keptLong c_keptAt_127 p1) H := hP
            have hD : va_D A (mW dA ad c_tape c_taped c_tree_3 c_bonds_7 c_moves_11 c_handMoves_12 r16 c_days c_likely c_outOf c_rateNow c_pence c_top c_bottom c_spot c_textLong c_fault c_number c_numberAt c_figures c_written c_wanted c_found c_drawnNow c_worth c_hold c_way c_acts c_sDay c_sUps c_sUp c_sMarks c_paidAll 1 0 r20 w132 c_regret c_aside c_other c_states c_kept_126 c_keptLong c_keptAt_127 p1) := hD
            refine lv_aload_n hx hb dX9_keepsAll_257 rfl (lv_at hl 0 rfl) ?_
            refine lv_aload_n hx hb dX9_keepsAll_258 rfl (lv_at hl 0 rfl) ?_
            refine va_get (D := (dC, dI)) (ci := 9) (v := .ref (ad 14)) (C := RX9) (T := TX9) (N := 45) hx hb hts (fun w h => gw_mem (inX9 w h)) hown hK.1 hP 0 rfl rfl 42 (by decide) (hts _ (gw_mem wfX9_51)) (fun _ h9 => h9) rfl dX9_keepsAll_259 ?_
            refine lv_iconst (v := 2) hx hb dX9_keepsAll_262 (by decide) ?_
            refine lv_aload_n hx hb dX9_keepsAll_263 rfl (lv_at hl 0 rfl) ?_
            refine va_get (D := (dC, dI)) (ci := 9) (v := .int c_states) (C := RX9) (T := TX9) (N := 45) hx hb hts (fun w h => gw_mem (inX9 w h)) hown hK.1 hP 0 rfl rfl 40 (by decide) (hts _ (gw_mem wfX9_446)) (fun _ h9 => h9) rfl dX9_keepsAll_264 ?_
            refine lv_imul hx hb dX9_keepsAll_267 ?_
            refine lv_iconst (v := 1) hx hb dX9_keepsAll_268 (by decide) ?_
            refine lv_iadd hx hb dX9_keepsAll_269 ?_
            obtain ⟨h133, hf⟩ := og_some hf
            refine va_lald hx hb hK.1 hP 14 1 rfl rfl (okI_in h133) dX9_keepsAll_270 ?_
            refine lv_topl (fun w134 ew134 => ?_)
            replace hf := nm_at hf ew134
            refine va_put (D := (dC, dI)) (ci := 9) (v := .long w134) (ty := .long) (C := RX9) (T := TX9) (N := 45) hx hb hts (fun w h => gw_mem (inX9 w h)) tyX9 tyX9_ok nmX9 hown hK.1 hP hD hS 0 rfl rfl 37 (by decide) (hts _ (gw_mem wfX9_422)) (fun _ h9 => h9) rfl (by decide +kernel) rfl rfl (Nat.le_of_ble_eq_true rfl) dX9_keepsAll_271 (fun H locs hP hD hS => ?_)
            have hP : va_P (dC, dI) vwCl (mW dA ad c_tape c_taped c_tree_3 c_bonds_7 c_moves_11 c_handMoves_12 r16 c_days c_likely c_outOf c_rateNow c_pence c_top c_bottom c_spot c_textLong c_fault c_number c_numberAt c_figures c_written c_wanted c_found c_drawnNow c_worth c_hold c_way c_acts c_sDay c_sUps c_sUp c_sMarks c_paidAll 1 0 r20 w132 w134 c_aside c_other c_states c_kept_126 c_keptLong c_keptAt_127 p1) H := hP
            have hD : va_D A (mW dA ad c_tape c_taped c_tree_3 c_bonds_7 c_moves_11 c_handMoves_12 r16 c_days c_likely c_outOf c_rateNow c_pence c_top c_bottom c_spot c_textLong c_fault c_number c_numberAt c_figures c_written c_wanted c_found c_drawnNow c_worth c_hold c_way c_acts c_sDay c_sUps c_sUp c_sMarks c_paidAll 1 0 r20 w132 w134 c_aside c_other c_states c_kept_126 c_keptLong c_keptAt_127 p1) := hD
            cases hf
            exact W.vret hx hb hr (fun t ht _ => gqv hP hD hS ht) hS.2.2 dX9_keepsAll_274
          · replace hf := ifn k130 hf
            refine lv_aload_n hx hb dX9_keepsAll_210 rfl (lv_at hl 0 rfl) ?_
            refine va_get (D := (dC, dI)) (ci := 9) (v := .ref (ad 14)) (C := RX9) (T := TX9) (N := 45) hx hb hts (fun w h => gw_mem (inX9 w h)) hown hK.1 hP 0 rfl rfl 42 (by decide) (hts _ (gw_mem wfX9_51)) (fun _ h9 => h9) rfl dX9_keepsAll_211 ?_
            refine lv_iconst (v := 2) hx hb dX9_keepsAll_214 (by decide) ?_
            refine lv_aload_n hx hb dX9_keepsAll_215 rfl (lv_at hl 0 rfl) ?_
            refine va_get (D := (dC, dI)) (ci := 9) (v := .int c_states) (C := RX9) (T := TX9) (N := 45) hx hb hts (fun w h => gw_mem (inX9 w h)) hown hK.1 hP 0 rfl rfl 40 (by decide) (hts _ (gw_mem wfX9_446)) (fun _ h9 => h9) rfl dX9_keepsAll_216 ?_
            refine lv_imul hx hb dX9_keepsAll_219 ?_
            refine lv_aload_n hx hb dX9_keepsAll_220 rfl (lv_at hl 0 rfl) ?_
            refine va_get (D := (dC, dI)) (ci := 9) (v := .long c_handPaid) (C := RX9) (T := TX9) (N := 45) hx hb hts (fun w h => gw_mem (inX9 w h)) hown hK.1 hP 0 rfl rfl 36 (by decide) (hts _ (gw_mem wfX9_419)) (fun _ h9 => h9) rfl dX9_keepsAll_221 ?_
            obtain ⟨h135, hf⟩ := og_some hf
            obtain ⟨w136, ew136⟩ : ∃ y : Nat → Int64, y = vp_updL c_keptLong (Int32.toNatClampNeg (2 * c_states)) c_handPaid := ⟨_, rfl⟩
            replace hf := nm_at hf ew136
            refine va_last hx hb hK.1 hP hD hS 14 1 rfl rfl (okI_in h135) dX9_keepsAll_224 (fun H locs hP hD hS => ?_)
            have hP : va_P (dC, dI) vwCl (mW dA ad c_tape c_taped c_tree_3 c_bonds_7 c_moves_11 c_handMoves_12 r16 c_days c_likely c_outOf c_rateNow c_pence c_top c_bottom c_spot c_textLong c_fault c_number c_numberAt c_figures c_written c_wanted c_found c_drawnNow c_worth c_hold c_way c_acts c_sDay c_sUps c_sUp c_sMarks c_paidAll 1 0 r20 c_handPaid c_regret c_aside c_other c_states c_kept_126 w136 c_keptAt_127 p1) H := by rw [ew136]; exact hP
            have hD : va_D A (mW dA ad c_tape c_taped c_tree_3 c_bonds_7 c_moves_11 c_handMoves_12 r16 c_days c_likely c_outOf c_rateNow c_pence c_top c_bottom c_spot c_textLong c_fault c_number c_numberAt c_figures c_written c_wanted c_found c_drawnNow c_worth c_hold c_way c_acts c_sDay c_sUps c_sUp c_sMarks c_paidAll 1 0 r20 c_handPaid c_regret c_aside c_other c_states c_kept_126 w136 c_keptAt_127 p1) := by rw [ew136]; exact hD
            refine lv_aload_n hx hb dX9_keepsAll_225 rfl (lv_at hl 0 rfl) ?_
            refine va_get (D := (dC, dI)) (ci := 9) (v := .ref (ad 14)) (C := RX9) (T := TX9) (N := 45) hx hb hts (fun w h => gw_mem (inX9 w h)) hown hK.1 hP 0 rfl rfl 42 (by decide) (hts _ (gw_mem wfX9_51)) (fun _ h9 => h9) rfl dX9_keepsAll_226 ?_
            refine lv_iconst (v := 2) hx hb dX9_keepsAll_229 (by decide) ?_
            refine lv_aload_n hx hb dX9_keepsAll_230 rfl (lv_at hl 0 rfl) ?_
            refine va_get (D := (dC, dI)) (ci := 9) (v := .int c_states) (C := RX9) (T := TX9) (N := 45) hx hb hts (fun w h => gw_mem (inX9 w h)) hown hK.1 hP 0 rfl rfl 40 (by decide) (hts _ (gw_mem wfX9_446)) (fun _ h9 => h9) rfl dX9_keepsAll_231 ?_
            refine lv_imul hx hb dX9_keepsAll_234 ?_
            refine lv_iconst (v := 1) hx hb dX9_keepsAll_235 (by decide) ?_
            refine lv_iadd hx hb dX9_keepsAll_236 ?_
            refine lv_aload_n hx hb dX9_keepsAll_237 rfl (lv_at hl 0 rfl) ?_
            refine va_get (D := (dC, dI)) (ci := 9) (v := .long c_regret) (C := RX9) (T := TX9) (N := 45) hx hb hts (fun w h => gw_mem (inX9 w h)) hown hK.1 hP 0 rfl rfl 37 (by decide) (hts _ (gw_mem wfX9_422)) (fun _ h9 => h9) rfl dX9_keepsAll_238 ?_
            obtain ⟨h137, hf⟩ := og_some hf
            obtain ⟨w138, ew138⟩ : ∃ y : Nat → Int64, y = vp_updL w136 (Int32.toNatClampNeg ((2 * c_states) + 1)) c_regret := ⟨_, rfl⟩
            replace hf := nm_at hf ew138
            refine va_last hx hb hK.1 hP hD hS 14 1 rfl rfl (okI_in h137) dX9_keepsAll_241 (fun H locs hP hD hS => ?_)
            have hP : va_P (dC, dI) vwCl (mW dA ad c_tape c_taped c_tree_3 c_bonds_7 c_moves_11 c_handMoves_12 r16 c_days c_likely c_outOf c_rateNow c_pence c_top c_bottom c_spot c_textLong c_fault c_number c_numberAt c_figures c_written c_wanted c_found c_drawnNow c_worth c_hold c_way c_acts c_sDay c_sUps c_sUp c_sMarks c_paidAll 1 0 r20 c_handPaid c_regret c_aside c_other c_states c_kept_126 w138 c_keptAt_127 p1) H := by rw [ew138]; exact hP
            have hD : va_D A (mW dA ad c_tape c_taped c_tree_3 c_bonds_7 c_moves_11 c_handMoves_12 r16 c_days c_likely c_outOf c_rateNow c_pence c_top c_bottom c_spot c_textLong c_fault c_number c_numberAt c_figures c_written c_wanted c_found c_drawnNow c_worth c_hold c_way c_acts c_sDay c_sUps c_sUp c_sMarks c_paidAll 1 0 r20 c_handPaid c_regret c_aside c_other c_states c_kept_126 w138 c_keptAt_127 p1) := by rw [ew138]; exact hD
            refine lv_aload_n hx hb dX9_keepsAll_242 rfl (lv_at hl 0 rfl) ?_
            refine lv_aload_n hx hb dX9_keepsAll_243 rfl (lv_at hl 0 rfl) ?_
            refine va_get (D := (dC, dI)) (ci := 9) (v := .ref (ad 14)) (C := RX9) (T := TX9) (N := 45) hx hb hts (fun w h => gw_mem (inX9 w h)) hown hK.1 hP 0 rfl rfl 42 (by decide) (hts _ (gw_mem wfX9_51)) (fun _ h9 => h9) rfl dX9_keepsAll_244 ?_
            refine lv_iconst (v := 2) hx hb dX9_keepsAll_247 (by decide) ?_
            refine lv_aload_n hx hb dX9_keepsAll_248 rfl (lv_at hl 0 rfl) ?_
            refine va_get (D := (dC, dI)) (ci := 9) (v := .int c_states) (C := RX9) (T := TX9) (N := 45) hx hb hts (fun w h => gw_mem (inX9 w h)) hown hK.1 hP 0 rfl rfl 40 (by decide) (hts _ (gw_mem wfX9_446)) (fun _ h9 => h9) rfl dX9_keepsAll_249 ?_
            refine lv_imul hx hb dX9_keepsAll_252 ?_
            obtain ⟨h139, hf⟩ := og_some hf
            refine va_lald hx hb hK.1 hP 14 1 rfl rfl (okI_in h139) dX9_keepsAll_253 ?_
            refine lv_topl (fun w140 ew140 => ?_)
            replace hf := nm_at hf ew140
            refine va_put (D := (dC, dI)) (ci := 9) (v := .long w140) (ty := .long) (C := RX9) (T := TX9) (N := 45) hx hb hts (fun w h => gw_mem (inX9 w h)) tyX9 tyX9_ok nmX9 hown hK.1 hP hD hS 0 rfl rfl 36 (by decide) (hts _ (gw_mem wfX9_419)) (fun _ h9 => h9) rfl (by decide +kernel) rfl rfl (Nat.le_of_ble_eq_true rfl) dX9_keepsAll_254 (fun H locs hP hD hS => ?_)
            have hP : va_P (dC, dI) vwCl (mW dA ad c_tape c_taped c_tree_3 c_bonds_7 c_moves_11 c_handMoves_12 r16 c_days c_likely c_outOf c_rateNow c_pence c_top c_bottom c_spot c_textLong c_fault c_number c_numberAt c_figures c_written c_wanted c_found c_drawnNow c_worth c_hold c_way c_acts c_sDay c_sUps c_sUp c_sMarks c_paidAll 1 0 r20 w140 c_regret c_aside c_other c_states c_kept_126 w138 c_keptAt_127 p1) H := hP
            have hD : va_D A (mW dA ad c_tape c_taped c_tree_3 c_bonds_7 c_moves_11 c_handMoves_12 r16 c_days c_likely c_outOf c_rateNow c_pence c_top c_bottom c_spot c_textLong c_fault c_number c_numberAt c_figures c_written c_wanted c_found c_drawnNow c_worth c_hold c_way c_acts c_sDay c_sUps c_sUp c_sMarks c_paidAll 1 0 r20 w140 c_regret c_aside c_other c_states c_kept_126 w138 c_keptAt_127 p1) := hD
            refine lv_aload_n hx hb dX9_keepsAll_257 rfl (lv_at hl 0 rfl) ?_
            refine lv_aload_n hx hb dX9_keepsAll_258 rfl (lv_at hl 0 rfl) ?_
            refine va_get (D := (dC, dI)) (ci := 9) (v := .ref (ad 14)) (C := RX9) (T := TX9) (N := 45) hx hb hts (fun w h => gw_mem (inX9 w h)) hown hK.1 hP 0 rfl rfl 42 (by decide) (hts _ (gw_mem wfX9_51)) (fun _ h9 => h9) rfl dX9_keepsAll_259 ?_
            refine lv_iconst (v := 2) hx hb dX9_keepsAll_262 (by decide) ?_
            refine lv_aload_n hx hb dX9_keepsAll_263 rfl (lv_at hl 0 rfl) ?_
            refine va_get (D := (dC, dI)) (ci := 9) (v := .int c_states) (C := RX9) (T := TX9) (N := 45) hx hb hts (fun w h => gw_mem (inX9 w h)) hown hK.1 hP 0 rfl rfl 40 (by decide) (hts _ (gw_mem wfX9_446)) (fun _ h9 => h9) rfl dX9_keepsAll_264 ?_
            refine lv_imul hx hb dX9_keepsAll_267 ?_
            refine lv_iconst (v := 1) hx hb dX9_keepsAll_268 (by decide) ?_
            refine lv_iadd hx hb dX9_keepsAll_269 ?_
            obtain ⟨h141, hf⟩ := og_some hf
            refine va_lald hx hb hK.1 hP 14 1 rfl rfl (okI_in h141) dX9_keepsAll_270 ?_
            refine lv_topl (fun w142 ew142 => ?_)
            replace hf := nm_at hf ew142
            refine va_put (D := (dC, dI)) (ci := 9) (v := .long w142) (ty := .long) (C := RX9) (T := TX9) (N := 45) hx hb hts (fun w h => gw_mem (inX9 w h)) tyX9 tyX9_ok nmX9 hown hK.1 hP hD hS 0 rfl rfl 37 (by decide) (hts _ (gw_mem wfX9_422)) (fun _ h9 => h9) rfl (by decide +kernel) rfl rfl (Nat.le_of_ble_eq_true rfl) dX9_keepsAll_271 (fun H locs hP hD hS => ?_)
            have hP : va_P (dC, dI) vwCl (mW dA ad c_tape c_taped c_tree_3 c_bonds_7 c_moves_11 c_handMoves_12 r16 c_days c_likely c_outOf c_rateNow c_pence c_top c_bottom c_spot c_textLong c_fault c_number c_numberAt c_figures c_written c_wanted c_found c_drawnNow c_worth c_hold c_way c_acts c_sDay c_sUps c_sUp c_sMarks c_paidAll 1 0 r20 w140 w142 c_aside c_other c_states c_kept_126 w138 c_keptAt_127 p1) H := hP
            have hD : va_D A (mW dA ad c_tape c_taped c_tree_3 c_bonds_7 c_moves_11 c_handMoves_12 r16 c_days c_likely c_outOf c_rateNow c_pence c_top c_bottom c_spot c_textLong c_fault c_number c_numberAt c_figures c_written c_wanted c_found c_drawnNow c_worth c_hold c_way c_acts c_sDay c_sUps c_sUp c_sMarks c_paidAll 1 0 r20 w140 w142 c_aside c_other c_states c_kept_126 w138 c_keptAt_127 p1) := hD
            cases hf
            exact W.vret hx hb hr (fun t ht _ => gqv hP hD hS ht) hS.2.2 dX9_keepsAll_274
        · replace hf := ifp k129 hf
          refine lv_iconst (v := 1) hx hb dX9_keepsAll_198 (by decide) ?_
          refine lv_goto (tgt := 203) hx hb dX9_keepsAll_199 (by decide) ?_
          refine va_put (D := (dC, dI)) (ci := 9) (v := .int 1) (ty := .boolean) (C := RX9) (T := TX9) (N := 45) hx hb hts (fun w h => gw_mem (inX9 w h)) tyX9 tyX9_ok nmX9 hown hK.1 hP hD hS 0 rfl rfl 34 (by decide) (hts _ (gw_mem wfX9_416)) (fun _ h9 => h9) rfl (by decide +kernel) rfl rfl (Nat.le_of_ble_eq_true rfl) dX9_keepsAll_203 (fun H locs hP hD hS => ?_)
          have hP : va_P (dC, dI) vwCl (mW dA ad c_tape c_taped c_tree_3 c_bonds_7 c_moves_11 c_handMoves_12 r16 c_days c_likely c_outOf c_rateNow c_pence c_top c_bottom c_spot c_textLong c_fault c_number c_numberAt c_figures c_written c_wanted c_found c_drawnNow c_worth c_hold c_way c_acts c_sDay c_sUps c_sUp c_sMarks c_paidAll 1 1 r20 c_handPaid c_regret c_aside c_other c_states c_kept_126 c_keptLong c_keptAt_127 p1) H := hP
          have hD : va_D A (mW dA ad c_tape c_taped c_tree_3 c_bonds_7 c_moves_11 c_handMoves_12 r16 c_days c_likely c_outOf c_rateNow c_pence c_top c_bottom c_spot c_textLong c_fault c_number c_numberAt c_figures c_written c_wanted c_found c_drawnNow c_worth c_hold c_way c_acts c_sDay c_sUps c_sUp c_sMarks c_paidAll 1 1 r20 c_handPaid c_regret c_aside c_other c_states c_kept_126 c_keptLong c_keptAt_127 p1) := hD
          refine lv_iload_n hx hb dX9_keepsAll_206 rfl (lv_at hl 1 rfl) ?_
          refine lv_if_eq (tgt := 242) hx hb dX9_keepsAll_207 (by decide) (fun k143 => ?_) (fun k143 => ?_)
          · replace hf := ifp k143 hf
            refine lv_aload_n hx hb dX9_keepsAll_242 rfl (lv_at hl 0 rfl) ?_
            refine lv_aload_n hx hb dX9_keepsAll_243 rfl (lv_at hl 0 rfl) ?_
            refine va_get (D := (dC, dI)) (ci := 9) (v := .ref (ad 14)) (C := RX9) (T := TX9) (N := 45) hx hb hts (fun w h => gw_mem (inX9 w h)) hown hK.1 hP 0 rfl rfl 42 (by decide) (hts _ (gw_mem wfX9_51)) (fun _ h9 => h9) rfl dX9_keepsAll_244 ?_
            refine lv_iconst (v := 2) hx hb dX9_keepsAll_247 (by decide) ?_
            refine lv_aload_n hx hb dX9_keepsAll_248 rfl (lv_at hl 0 rfl) ?_
            refine va_get (D := (dC, dI)) (ci := 9) (v := .int c_states) (C := RX9) (T := TX9) (N := 45) hx hb hts (fun w h => gw_mem (inX9 w h)) hown hK.1 hP 0 rfl rfl 40 (by decide) (hts _ (gw_mem wfX9_446)) (fun _ h9 => h9) rfl dX9_keepsAll_249 ?_
            refine lv_imul hx hb dX9_keepsAll_252 ?_
            obtain ⟨h144, hf⟩ := og_some hf
            refine va_lald hx hb hK.1 hP 14 1 rfl rfl (okI_in h144) dX9_keepsAll_253 ?_
            refine lv_topl (fun w145 ew145 => ?_)
            replace hf := nm_at hf ew145
            refine va_put (D := (dC, dI)) (ci := 9) (v := .long w145) (ty := .long) (C := RX9) (T := TX9) (N := 45) hx hb hts (fun w h => gw_mem (inX9 w h)) tyX9 tyX9_ok nmX9 hown hK.1 hP hD hS 0 rfl rfl 36 (by decide) (hts _ (gw_mem wfX9_419)) (fun _ h9 => h9) rfl (by decide +kernel) rfl rfl (Nat.le_of_ble_eq_true rfl) dX9_keepsAll_254 (fun H locs hP hD hS => ?_)
            have hP : va_P (dC, dI) vwCl (mW dA ad c_tape c_taped c_tree_3 c_bonds_7 c_moves_11 c_handMoves_12 r16 c_days c_likely c_outOf c_rateNow c_pence c_top c_bottom c_spot c_textLong c_fault c_number c_numberAt c_figures c_written c_wanted c_found c_drawnNow c_worth c_hold c_way c_acts c_sDay c_sUps c_sUp c_sMarks c_paidAll 1 1 r20 w145 c_regret c_aside c_other c_states c_kept_126 c_keptLong c_keptAt_127 p1) H := hP
            have hD : va_D A (mW dA ad c_tape c_taped c_tree_3 c_bonds_7 c_moves_11 c_handMoves_12 r16 c_days c_likely c_outOf c_rateNow c_pence c_top c_bottom c_spot c_textLong c_fault c_number c_numberAt c_figures c_written c_wanted c_found c_drawnNow c_worth c_hold c_way c_acts c_sDay c_sUps c_sUp c_sMarks c_paidAll 1 1 r20 w145 c_regret c_aside c_other c_states c_kept_126 c_keptLong c_keptAt_127 p1) := hD
            refine lv_aload_n hx hb dX9_keepsAll_257 rfl (lv_at hl 0 rfl) ?_
            refine lv_aload_n hx hb dX9_keepsAll_258 rfl (lv_at hl 0 rfl) ?_
            refine va_get (D := (dC, dI)) (ci := 9) (v := .ref (ad 14)) (C := RX9) (T := TX9) (N := 45) hx hb hts (fun w h => gw_mem (inX9 w h)) hown hK.1 hP 0 rfl rfl 42 (by decide) (hts _ (gw_mem wfX9_51)) (fun _ h9 => h9) rfl dX9_keepsAll_259 ?_
            refine lv_iconst (v := 2) hx hb dX9_keepsAll_262 (by decide) ?_
            refine lv_aload_n hx hb dX9_keepsAll_263 rfl (lv_at hl 0 rfl) ?_
            refine va_get (D := (dC, dI)) (ci := 9) (v := .int c_states) (C := RX9) (T := TX9) (N := 45) hx hb hts (fun w h => gw_mem (inX9 w h)) hown hK.1 hP 0 rfl rfl 40 (by decide) (hts _ (gw_mem wfX9_446)) (fun _ h9 => h9) rfl dX9_keepsAll_264 ?_
            refine lv_imul hx hb dX9_keepsAll_267 ?_
            refine lv_iconst (v := 1) hx hb dX9_keepsAll_268 (by decide) ?_
            refine lv_iadd hx hb dX9_keepsAll_269 ?_
            obtain ⟨h146, hf⟩ := og_some hf
            refine va_lald hx hb hK.1 hP 14 1 rfl rfl (okI_in h146) dX9_keepsAll_270 ?_
            refine lv_topl (fun w147 ew147 => ?_)
            replace hf := nm_at hf ew147
            refine va_put (D := (dC, dI)) (ci := 9) (v := .long w147) (ty := .long) (C := RX9) (T := TX9) (N := 45) hx hb hts (fun w h => gw_mem (inX9 w h)) tyX9 tyX9_ok nmX9 hown hK.1 hP hD hS 0 rfl rfl 37 (by decide) (hts _ (gw_mem wfX9_422)) (fun _ h9 => h9) rfl (by decide +kernel) rfl rfl (Nat.le_of_ble_eq_true rfl) dX9_keepsAll_271 (fun H locs hP hD hS => ?_)
            have hP : va_P (dC, dI) vwCl (mW dA ad c_tape c_taped c_tree_3 c_bonds_7 c_moves_11 c_handMoves_12 r16 c_days c_likely c_outOf c_rateNow c_pence c_top c_bottom c_spot c_textLong c_fault c_number c_numberAt c_figures c_written c_wanted c_found c_drawnNow c_worth c_hold c_way c_acts c_sDay c_sUps c_sUp c_sMarks c_paidAll 1 1 r20 w145 w147 c_aside c_other c_states c_kept_126 c_keptLong c_keptAt_127 p1) H := hP
            have hD : va_D A (mW dA ad c_tape c_taped c_tree_3 c_bonds_7 c_moves_11 c_handMoves_12 r16 c_days c_likely c_outOf c_rateNow c_pence c_top c_bottom c_spot c_textLong c_fault c_number c_numberAt c_figures c_written c_wanted c_found c_drawnNow c_worth c_hold c_way c_acts c_sDay c_sUps c_sUp c_sMarks c_paidAll 1 1 r20 w145 w147 c_aside c_other c_states c_kept_126 c_keptLong c_keptAt_127 p1) := hD
            cases hf
            exact W.vret hx hb hr (fun t ht _ => gqv hP hD hS ht) hS.2.2 dX9_keepsAll_274
          · replace hf := ifn k143 hf
            refine lv_aload_n hx hb dX9_keepsAll_210 rfl (lv_at hl 0 rfl) ?_
            refine va_get (D := (dC, dI)) (ci := 9) (v := .ref (ad 14)) (C := RX9) (T := TX9) (N := 45) hx hb hts (fun w h => gw_mem (inX9 w h)) hown hK.1 hP 0 rfl rfl 42 (by decide) (hts _ (gw_mem wfX9_51)) (fun _ h9 => h9) rfl dX9_keepsAll_211 ?_
            refine lv_iconst (v := 2) hx hb dX9_keepsAll_214 (by decide) ?_
            refine lv_aload_n hx hb dX9_keepsAll_215 rfl (lv_at hl 0 rfl) ?_
            refine va_get (D := (dC, dI)) (ci := 9) (v := .int c_states) (C := RX9) (T := TX9) (N := 45) hx hb hts (fun w h => gw_mem (inX9 w h)) hown hK.1 hP 0 rfl rfl 40 (by decide) (hts _ (gw_mem wfX9_446)) (fun _ h9 => h9) rfl dX9_keepsAll_216 ?_
            refine lv_imul hx hb dX9_keepsAll_219 ?_
            refine lv_aload_n hx hb dX9_keepsAll_220 rfl (lv_at hl 0 rfl) ?_
            refine va_get (D := (dC, dI)) (ci := 9) (v := .long c_handPaid) (C := RX9) (T := TX9) (N := 45) hx hb hts (fun w h => gw_mem (inX9 w h)) hown hK.1 hP 0 rfl rfl 36 (by decide) (hts _ (gw_mem wfX9_419)) (fun _ h9 => h9) rfl dX9_keepsAll_221 ?_
            obtain ⟨h148, hf⟩ := og_some hf
            obtain ⟨w149, ew149⟩ : ∃ y : Nat → Int64, y = vp_updL c_keptLong (Int32.toNatClampNeg (2 * c_states)) c_handPaid := ⟨_, rfl⟩
            replace hf := nm_at hf ew149
            refine va_last hx hb hK.1 hP hD hS 14 1 rfl rfl (okI_in h148) dX9_keepsAll_224 (fun H locs hP hD hS => ?_)
            have hP : va_P (dC, dI) vwCl (mW dA ad c_tape c_taped c_tree_3 c_bonds_7 c_moves_11 c_handMoves_12 r16 c_days c_likely c_outOf c_rateNow c_pence c_top c_bottom c_spot c_textLong c_fault c_number c_numberAt c_figures c_written c_wanted c_found c_drawnNow c_worth c_hold c_way c_acts c_sDay c_sUps c_sUp c_sMarks c_paidAll 1 1 r20 c_handPaid c_regret c_aside c_other c_states c_kept_126 w149 c_keptAt_127 p1) H := by rw [ew149]; exact hP
            have hD : va_D A (mW dA ad c_tape c_taped c_tree_3 c_bonds_7 c_moves_11 c_handMoves_12 r16 c_days c_likely c_outOf c_rateNow c_pence c_top c_bottom c_spot c_textLong c_fault c_number c_numberAt c_figures c_written c_wanted c_found c_drawnNow c_worth c_hold c_way c_acts c_sDay c_sUps c_sUp c_sMarks c_paidAll 1 1 r20 c_handPaid c_regret c_aside c_other c_states c_kept_126 w149 c_keptAt_127 p1) := by rw [ew149]; exact hD
            refine lv_aload_n hx hb dX9_keepsAll_225 rfl (lv_at hl 0 rfl) ?_
            refine va_get (D := (dC, dI)) (ci := 9) (v := .ref (ad 14)) (C := RX9) (T := TX9) (N := 45) hx hb hts (fun w h => gw_mem (inX9 w h)) hown hK.1 hP 0 rfl rfl 42 (by decide) (hts _ (gw_mem wfX9_51)) (fun _ h9 => h9) rfl dX9_keepsAll_226 ?_
            refine lv_iconst (v := 2) hx hb dX9_keepsAll_229 (by decide) ?_
            refine lv_aload_n hx hb dX9_keepsAll_230 rfl (lv_at hl 0 rfl) ?_
            refine va_get (D := (dC, dI)) (ci := 9) (v := .int c_states) (C := RX9) (T := TX9) (N := 45) hx hb hts (fun w h => gw_mem (inX9 w h)) hown hK.1 hP 0 rfl rfl 40 (by decide) (hts _ (gw_mem wfX9_446)) (fun _ h9 => h9) rfl dX9_keepsAll_231 ?_
            refine lv_imul hx hb dX9_keepsAll_234 ?_
            refine lv_iconst (v := 1) hx hb dX9_keepsAll_235 (by decide) ?_
            refine lv_iadd hx hb dX9_keepsAll_236 ?_
            refine lv_aload_n hx hb dX9_keepsAll_237 rfl (lv_at hl 0 rfl) ?_
            refine va_get (D := (dC, dI)) (ci := 9) (v := .long c_regret) (C := RX9) (T := TX9) (N := 45) hx hb hts (fun w h => gw_mem (inX9 w h)) hown hK.1 hP 0 rfl rfl 37 (by decide) (hts _ (gw_mem wfX9_422)) (fun _ h9 => h9) rfl dX9_keepsAll_238 ?_
            obtain ⟨h150, hf⟩ := og_some hf
            obtain ⟨w151, ew151⟩ : ∃ y : Nat → Int64, y = vp_updL w149 (Int32.toNatClampNeg ((2 * c_states) + 1)) c_regret := ⟨_, rfl⟩
            replace hf := nm_at hf ew151
            refine va_last hx hb hK.1 hP hD hS 14 1 rfl rfl (okI_in h150) dX9_keepsAll_241 (fun H locs hP hD hS => ?_)
            have hP : va_P (dC, dI) vwCl (mW dA ad c_tape c_taped c_tree_3 c_bonds_7 c_moves_11 c_handMoves_12 r16 c_days c_likely c_outOf c_rateNow c_pence c_top c_bottom c_spot c_textLong c_fault c_number c_numberAt c_figures c_written c_wanted c_found c_drawnNow c_worth c_hold c_way c_acts c_sDay c_sUps c_sUp c_sMarks c_paidAll 1 1 r20 c_handPaid c_regret c_aside c_other c_states c_kept_126 w151 c_keptAt_127 p1) H := by rw [ew151]; exact hP
            have hD : va_D A (mW dA ad c_tape c_taped c_tree_3 c_bonds_7 c_moves_11 c_handMoves_12 r16 c_days c_likely c_outOf c_rateNow c_pence c_top c_bottom c_spot c_textLong c_fault c_number c_numberAt c_figures c_written c_wanted c_found c_drawnNow c_worth c_hold c_way c_acts c_sDay c_sUps c_sUp c_sMarks c_paidAll 1 1 r20 c_handPaid c_regret c_aside c_other c_states c_kept_126 w151 c_keptAt_127 p1) := by rw [ew151]; exact hD
            refine lv_aload_n hx hb dX9_keepsAll_242 rfl (lv_at hl 0 rfl) ?_
            refine lv_aload_n hx hb dX9_keepsAll_243 rfl (lv_at hl 0 rfl) ?_
            refine va_get (D := (dC, dI)) (ci := 9) (v := .ref (ad 14)) (C := RX9) (T := TX9) (N := 45) hx hb hts (fun w h => gw_mem (inX9 w h)) hown hK.1 hP 0 rfl rfl 42 (by decide) (hts _ (gw_mem wfX9_51)) (fun _ h9 => h9) rfl dX9_keepsAll_244 ?_
            refine lv_iconst (v := 2) hx hb dX9_keepsAll_247 (by decide) ?_
            refine lv_aload_n hx hb dX9_keepsAll_248 rfl (lv_at hl 0 rfl) ?_
            refine va_get (D := (dC, dI)) (ci := 9) (v := .int c_states) (C := RX9) (T := TX9) (N := 45) hx hb hts (fun w h => gw_mem (inX9 w h)) hown hK.1 hP 0 rfl rfl 40 (by decide) (hts _ (gw_mem wfX9_446)) (fun _ h9 => h9) rfl dX9_keepsAll_249 ?_
            refine lv_imul hx hb dX9_keepsAll_252 ?_
            obtain ⟨h152, hf⟩ := og_some hf
            refine va_lald hx hb hK.1 hP 14 1 rfl rfl (okI_in h152) dX9_keepsAll_253 ?_
            refine lv_topl (fun w153 ew153 => ?_)
            replace hf := nm_at hf ew153
            refine va_put (D := (dC, dI)) (ci := 9) (v := .long w153) (ty := .long) (C := RX9) (T := TX9) (N := 45) hx hb hts (fun w h => gw_mem (inX9 w h)) tyX9 tyX9_ok nmX9 hown hK.1 hP hD hS 0 rfl rfl 36 (by decide) (hts _ (gw_mem wfX9_419)) (fun _ h9 => h9) rfl (by decide +kernel) rfl rfl (Nat.le_of_ble_eq_true rfl) dX9_keepsAll_254 (fun H locs hP hD hS => ?_)
            have hP : va_P (dC, dI) vwCl (mW dA ad c_tape c_taped c_tree_3 c_bonds_7 c_moves_11 c_handMoves_12 r16 c_days c_likely c_outOf c_rateNow c_pence c_top c_bottom c_spot c_textLong c_fault c_number c_numberAt c_figures c_written c_wanted c_found c_drawnNow c_worth c_hold c_way c_acts c_sDay c_sUps c_sUp c_sMarks c_paidAll 1 1 r20 w153 c_regret c_aside c_other c_states c_kept_126 w151 c_keptAt_127 p1) H := hP
            have hD : va_D A (mW dA ad c_tape c_taped c_tree_3 c_bonds_7 c_moves_11 c_handMoves_12 r16 c_days c_likely c_outOf c_rateNow c_pence c_top c_bottom c_spot c_textLong c_fault c_number c_numberAt c_figures c_written c_wanted c_found c_drawnNow c_worth c_hold c_way c_acts c_sDay c_sUps c_sUp c_sMarks c_paidAll 1 1 r20 w153 c_regret c_aside c_other c_states c_kept_126 w151 c_keptAt_127 p1) := hD
            refine lv_aload_n hx hb dX9_keepsAll_257 rfl (lv_at hl 0 rfl) ?_
            refine lv_aload_n hx hb dX9_keepsAll_258 rfl (lv_at hl 0 rfl) ?_
            refine va_get (D := (dC, dI)) (ci := 9) (v := .ref (ad 14)) (C := RX9) (T := TX9) (N := 45) hx hb hts (fun w h => gw_mem (inX9 w h)) hown hK.1 hP 0 rfl rfl 42 (by decide) (hts _ (gw_mem wfX9_51)) (fun _ h9 => h9) rfl dX9_keepsAll_259 ?_
            refine lv_iconst (v := 2) hx hb dX9_keepsAll_262 (by decide) ?_
            refine lv_aload_n hx hb dX9_keepsAll_263 rfl (lv_at hl 0 rfl) ?_
            refine va_get (D := (dC, dI)) (ci := 9) (v := .int c_states) (C := RX9) (T := TX9) (N := 45) hx hb hts (fun w h => gw_mem (inX9 w h)) hown hK.1 hP 0 rfl rfl 40 (by decide) (hts _ (gw_mem wfX9_446)) (fun _ h9 => h9) rfl dX9_keepsAll_264 ?_
            refine lv_imul hx hb dX9_keepsAll_267 ?_
            refine lv_iconst (v := 1) hx hb dX9_keepsAll_268 (by decide) ?_
            refine lv_iadd hx hb dX9_keepsAll_269 ?_
            obtain ⟨h154, hf⟩ := og_some hf
            refine va_lald hx hb hK.1 hP 14 1 rfl rfl (okI_in h154) dX9_keepsAll_270 ?_
            refine lv_topl (fun w155 ew155 => ?_)
            replace hf := nm_at hf ew155
            refine va_put (D := (dC, dI)) (ci := 9) (v := .long w155) (ty := .long) (C := RX9) (T := TX9) (N := 45) hx hb hts (fun w h => gw_mem (inX9 w h)) tyX9 tyX9_ok nmX9 hown hK.1 hP hD hS 0 rfl rfl 37 (by decide) (hts _ (gw_mem wfX9_422)) (fun _ h9 => h9) rfl (by decide +kernel) rfl rfl (Nat.le_of_ble_eq_true rfl) dX9_keepsAll_271 (fun H locs hP hD hS => ?_)
            have hP : va_P (dC, dI) vwCl (mW dA ad c_tape c_taped c_tree_3 c_bonds_7 c_moves_11 c_handMoves_12 r16 c_days c_likely c_outOf c_rateNow c_pence c_top c_bottom c_spot c_textLong c_fault c_number c_numberAt c_figures c_written c_wanted c_found c_drawnNow c_worth c_hold c_way c_acts c_sDay c_sUps c_sUp c_sMarks c_paidAll 1 1 r20 w153 w155 c_aside c_other c_states c_kept_126 w151 c_keptAt_127 p1) H := hP
            have hD : va_D A (mW dA ad c_tape c_taped c_tree_3 c_bonds_7 c_moves_11 c_handMoves_12 r16 c_days c_likely c_outOf c_rateNow c_pence c_top c_bottom c_spot c_textLong c_fault c_number c_numberAt c_figures c_written c_wanted c_found c_drawnNow c_worth c_hold c_way c_acts c_sDay c_sUps c_sUp c_sMarks c_paidAll 1 1 r20 w153 w155 c_aside c_other c_states c_kept_126 w151 c_keptAt_127 p1) := hD
            cases hf
            exact W.vret hx hb hr (fun t ht _ => gqv hP hD hS ht) hS.2.2 dX9_keepsAll_274
  · replace hf := ifn k24 hf
    refine lv_iconst (v := 1) hx hb dX9_keepsAll_157 (by decide) ?_
    refine lv_goto (tgt := 162) hx hb dX9_keepsAll_158 (by decide) ?_
    obtain ⟨r156, c_kept_157, c_keptAt_158, v159, hf⟩ := bd3_some hf
    refine gci (va_runV (As := [.int 1]) (rest := [.ref (ad 0)]) ⟨hx, hb, hml, hown, hts⟩ (tX9_keeps l dC dI dA ad H.size v159) (ccX9_X9_keeps hts ⟨Nat.le_of_ble_eq_true rfl, Nat.le_of_ble_eq_true rfl⟩) (gPreV (ci := 9) (q0 := 0) hP hK hD rfl rfl) rfl rfl hl.1 rfl (lv_room (Nat.le_of_ble_eq_true rfl)) dX9_keepsAll_162 ⟨Nat.le_of_ble_eq_true rfl, Nat.le_of_ble_eq_true rfl⟩) hD hS hA (fun H locs hP hD hS => ?_)
    refine lv_iconst (v := 1) hx hb dX9_keepsAll_165 (by decide) ?_
    refine lv_icmp_ne (tgt := 173) hx hb dX9_keepsAll_166 (by decide) (fun k160 => ?_) (fun k160 => ?_)
    · replace hf := ifn k160 hf
      refine lv_iconst (v := 0) hx hb dX9_keepsAll_173 (by decide) ?_
      refine va_put (D := (dC, dI)) (ci := 9) (v := .int 0) (ty := .boolean) (C := RX9) (T := TX9) (N := 45) hx hb hts (fun w h => gw_mem (inX9 w h)) tyX9 tyX9_ok nmX9 hown hK.1 hP hD hS 0 rfl rfl 33 (by decide) (hts _ (gw_mem wfX9_412)) (fun _ h9 => h9) rfl (by decide +kernel) rfl rfl (Nat.le_of_ble_eq_true rfl) dX9_keepsAll_174 (fun H locs hP hD hS => ?_)
      have hP : va_P (dC, dI) vwCl (mW dA ad c_tape c_taped c_tree_3 c_bonds_7 c_moves_11 c_handMoves_12 r16 c_days c_likely c_outOf c_rateNow c_pence c_top c_bottom c_spot c_textLong c_fault c_number c_numberAt c_figures c_written c_wanted c_found c_drawnNow c_worth c_hold c_way c_acts c_sDay c_sUps c_sUp c_sMarks c_paidAll 0 c_isOn r20 c_handPaid c_regret c_aside c_other c_states c_kept_157 c_keptLong c_keptAt_158 p1) H := hP
      have hD : va_D A (mW dA ad c_tape c_taped c_tree_3 c_bonds_7 c_moves_11 c_handMoves_12 r16 c_days c_likely c_outOf c_rateNow c_pence c_top c_bottom c_spot c_textLong c_fault c_number c_numberAt c_figures c_written c_wanted c_found c_drawnNow c_worth c_hold c_way c_acts c_sDay c_sUps c_sUp c_sMarks c_paidAll 0 c_isOn r20 c_handPaid c_regret c_aside c_other c_states c_kept_157 c_keptLong c_keptAt_158 p1) := hD
      refine lv_aload_n hx hb dX9_keepsAll_177 rfl (lv_at hl 0 rfl) ?_
      refine lv_aload_n hx hb dX9_keepsAll_178 rfl (lv_at hl 0 rfl) ?_
      refine lv_aload_n hx hb dX9_keepsAll_179 rfl (lv_at hl 0 rfl) ?_
      refine va_get (D := (dC, dI)) (ci := 9) (v := .int c_isOn) (C := RX9) (T := TX9) (N := 45) hx hb hts (fun w h => gw_mem (inX9 w h)) hown hK.1 hP 0 rfl rfl 34 (by decide) (hts _ (gw_mem wfX9_416)) (fun _ h9 => h9) rfl dX9_keepsAll_180 ?_
      refine lv_if_eq (tgt := 190) hx hb dX9_keepsAll_183 (by decide) (fun k161 => ?_) (fun k161 => ?_)
      · replace hf := ifp k161 hf
        refine lv_iconst (v := 0) hx hb dX9_keepsAll_190 (by decide) ?_
        obtain ⟨r162, c_kept_163, c_keptAt_164, v165, hf⟩ := bd3_some hf
        refine gci (va_runV (As := [.int 0]) (rest := [.ref (ad 0)]) ⟨hx, hb, hml, hown, hts⟩ (tX9_keeps l dC dI dA ad H.size v165) (ccX9_X9_keeps hts ⟨Nat.le_of_ble_eq_true rfl, Nat.le_of_ble_eq_true rfl⟩) (gPreV (ci := 9) (q0 := 0) hP hK hD rfl rfl) rfl rfl hl.1 rfl (lv_room (Nat.le_of_ble_eq_true rfl)) dX9_keepsAll_191 ⟨Nat.le_of_ble_eq_true rfl, Nat.le_of_ble_eq_true rfl⟩) hD hS hA (fun H locs hP hD hS => ?_)
        refine lv_iconst (v := 1) hx hb dX9_keepsAll_194 (by decide) ?_
        refine lv_icmp_ne (tgt := 202) hx hb dX9_keepsAll_195 (by decide) (fun k166 => ?_) (fun k166 => ?_)
        · replace hf := ifn k166 hf
          refine lv_iconst (v := 0) hx hb dX9_keepsAll_202 (by decide) ?_
          refine va_put (D := (dC, dI)) (ci := 9) (v := .int 0) (ty := .boolean) (C := RX9) (T := TX9) (N := 45) hx hb hts (fun w h => gw_mem (inX9 w h)) tyX9 tyX9_ok nmX9 hown hK.1 hP hD hS 0 rfl rfl 34 (by decide) (hts _ (gw_mem wfX9_416)) (fun _ h9 => h9) rfl (by decide +kernel) rfl rfl (Nat.le_of_ble_eq_true rfl) dX9_keepsAll_203 (fun H locs hP hD hS => ?_)
          have hP : va_P (dC, dI) vwCl (mW dA ad c_tape c_taped c_tree_3 c_bonds_7 c_moves_11 c_handMoves_12 r16 c_days c_likely c_outOf c_rateNow c_pence c_top c_bottom c_spot c_textLong c_fault c_number c_numberAt c_figures c_written c_wanted c_found c_drawnNow c_worth c_hold c_way c_acts c_sDay c_sUps c_sUp c_sMarks c_paidAll 0 0 r20 c_handPaid c_regret c_aside c_other c_states c_kept_163 c_keptLong c_keptAt_164 p1) H := hP
          have hD : va_D A (mW dA ad c_tape c_taped c_tree_3 c_bonds_7 c_moves_11 c_handMoves_12 r16 c_days c_likely c_outOf c_rateNow c_pence c_top c_bottom c_spot c_textLong c_fault c_number c_numberAt c_figures c_written c_wanted c_found c_drawnNow c_worth c_hold c_way c_acts c_sDay c_sUps c_sUp c_sMarks c_paidAll 0 0 r20 c_handPaid c_regret c_aside c_other c_states c_kept_163 c_keptLong c_keptAt_164 p1) := hD
          refine lv_iload_n hx hb dX9_keepsAll_206 rfl (lv_at hl 1 rfl) ?_
          refine lv_if_eq (tgt := 242) hx hb dX9_keepsAll_207 (by decide) (fun k167 => ?_) (fun k167 => ?_)
          · replace hf := ifp k167 hf
            refine lv_aload_n hx hb dX9_keepsAll_242 rfl (lv_at hl 0 rfl) ?_
            refine lv_aload_n hx hb dX9_keepsAll_243 rfl (lv_at hl 0 rfl) ?_
            refine va_get (D := (dC, dI)) (ci := 9) (v := .ref (ad 14)) (C := RX9) (T := TX9) (N := 45) hx hb hts (fun w h => gw_mem (inX9 w h)) hown hK.1 hP 0 rfl rfl 42 (by decide) (hts _ (gw_mem wfX9_51)) (fun _ h9 => h9) rfl dX9_keepsAll_244 ?_
            refine lv_iconst (v := 2) hx hb dX9_keepsAll_247 (by decide) ?_
            refine lv_aload_n hx hb dX9_keepsAll_248 rfl (lv_at hl 0 rfl) ?_
            refine va_get (D := (dC, dI)) (ci := 9) (v := .int c_states) (C := RX9) (T := TX9) (N := 45) hx hb hts (fun w h => gw_mem (inX9 w h)) hown hK.1 hP 0 rfl rfl 40 (by decide) (hts _ (gw_mem wfX9_446)) (fun _ h9 => h9) rfl dX9_keepsAll_249 ?_
            refine lv_imul hx hb dX9_keepsAll_252 ?_
            obtain ⟨h168, hf⟩ := og_some hf
            refine va_lald hx hb hK.1 hP 14 1 rfl rfl (okI_in h168) dX9_keepsAll_253 ?_
            refine lv_topl (fun w169 ew169 => ?_)
            replace hf := nm_at hf ew169
            refine va_put (D := (dC, dI)) (ci := 9) (v := .long w169) (ty := .long) (C := RX9) (T := TX9) (N := 45) hx hb hts (fun w h => gw_mem (inX9 w h)) tyX9 tyX9_ok nmX9 hown hK.1 hP hD hS 0 rfl rfl 36 (by decide) (hts _ (gw_mem wfX9_419)) (fun _ h9 => h9) rfl (by decide +kernel) rfl rfl (Nat.le_of_ble_eq_true rfl) dX9_keepsAll_254 (fun H locs hP hD hS => ?_)
            have hP : va_P (dC, dI) vwCl (mW dA ad c_tape c_taped c_tree_3 c_bonds_7 c_moves_11 c_handMoves_12 r16 c_days c_likely c_outOf c_rateNow c_pence c_top c_bottom c_spot c_textLong c_fault c_number c_numberAt c_figures c_written c_wanted c_found c_drawnNow c_worth c_hold c_way c_acts c_sDay c_sUps c_sUp c_sMarks c_paidAll 0 0 r20 w169 c_regret c_aside c_other c_states c_kept_163 c_keptLong c_keptAt_164 p1) H := hP
            have hD : va_D A (mW dA ad c_tape c_taped c_tree_3 c_bonds_7 c_moves_11 c_handMoves_12 r16 c_days c_likely c_outOf c_rateNow c_pence c_top c_bottom c_spot c_textLong c_fault c_number c_numberAt c_figures c_written c_wanted c_found c_drawnNow c_worth c_hold c_way c_acts c_sDay c_sUps c_sUp c_sMarks c_paidAll 0 0 r20 w169 c_regret c_aside c_other c_states c_kept_163 c_keptLong c_keptAt_164 p1) := hD
            refine lv_aload_n hx hb dX9_keepsAll_257 rfl (lv_at hl 0 rfl) ?_
            refine lv_aload_n hx hb dX9_keepsAll_258 rfl (lv_at hl 0 rfl) ?_
            refine va_get (D := (dC, dI)) (ci := 9) (v := .ref (ad 14)) (C := RX9) (T := TX9) (N := 45) hx hb hts (fun w h => gw_mem (inX9 w h)) hown hK.1 hP 0 rfl rfl 42 (by decide) (hts _ (gw_mem wfX9_51)) (fun _ h9 => h9) rfl dX9_keepsAll_259 ?_
            refine lv_iconst (v := 2) hx hb dX9_keepsAll_262 (by decide) ?_
            refine lv_aload_n hx hb dX9_keepsAll_263 rfl (lv_at hl 0 rfl) ?_
            refine va_get (D := (dC, dI)) (ci := 9) (v := .int c_states) (C := RX9) (T := TX9) (N := 45) hx hb hts (fun w h => gw_mem (inX9 w h)) hown hK.1 hP 0 rfl rfl 40 (by decide) (hts _ (gw_mem wfX9_446)) (fun _ h9 => h9) rfl dX9_keepsAll_264 ?_
            refine lv_imul hx hb dX9_keepsAll_267 ?_
            refine lv_iconst (v := 1) hx hb dX9_keepsAll_268 (by decide) ?_
            refine lv_iadd hx hb dX9_keepsAll_269 ?_
            obtain ⟨h170, hf⟩ := og_some hf
            refine va_lald hx hb hK.1 hP 14 1 rfl rfl (okI_in h170) dX9_keepsAll_270 ?_
            refine lv_topl (fun w171 ew171 => ?_)
            replace hf := nm_at hf ew171
            refine va_put (D := (dC, dI)) (ci := 9) (v := .long w171) (ty := .long) (C := RX9) (T := TX9) (N := 45) hx hb hts (fun w h => gw_mem (inX9 w h)) tyX9 tyX9_ok nmX9 hown hK.1 hP hD hS 0 rfl rfl 37 (by decide) (hts _ (gw_mem wfX9_422)) (fun _ h9 => h9) rfl (by decide +kernel) rfl rfl (Nat.le_of_ble_eq_true rfl) dX9_keepsAll_271 (fun H locs hP hD hS => ?_)
            have hP : va_P (dC, dI) vwCl (mW dA ad c_tape c_taped c_tree_3 c_bonds_7 c_moves_11 c_handMoves_12 r16 c_days c_likely c_outOf c_rateNow c_pence c_top c_bottom c_spot c_textLong c_fault c_number c_numberAt c_figures c_written c_wanted c_found c_drawnNow c_worth c_hold c_way c_acts c_sDay c_sUps c_sUp c_sMarks c_paidAll 0 0 r20 w169 w171 c_aside c_other c_states c_kept_163 c_keptLong c_keptAt_164 p1) H := hP
            have hD : va_D A (mW dA ad c_tape c_taped c_tree_3 c_bonds_7 c_moves_11 c_handMoves_12 r16 c_days c_likely c_outOf c_rateNow c_pence c_top c_bottom c_spot c_textLong c_fault c_number c_numberAt c_figures c_written c_wanted c_found c_drawnNow c_worth c_hold c_way c_acts c_sDay c_sUps c_sUp c_sMarks c_paidAll 0 0 r20 w169 w171 c_aside c_other c_states c_kept_163 c_keptLong c_keptAt_164 p1) := hD
            cases hf
            exact W.vret hx hb hr (fun t ht _ => gqv hP hD hS ht) hS.2.2 dX9_keepsAll_274
          · replace hf := ifn k167 hf
            refine lv_aload_n hx hb dX9_keepsAll_210 rfl (lv_at hl 0 rfl) ?_
            refine va_get (D := (dC, dI)) (ci := 9) (v := .ref (ad 14)) (C := RX9) (T := TX9) (N := 45) hx hb hts (fun w h => gw_mem (inX9 w h)) hown hK.1 hP 0 rfl rfl 42 (by decide) (hts _ (gw_mem wfX9_51)) (fun _ h9 => h9) rfl dX9_keepsAll_211 ?_
            refine lv_iconst (v := 2) hx hb dX9_keepsAll_214 (by decide) ?_
            refine lv_aload_n hx hb dX9_keepsAll_215 rfl (lv_at hl 0 rfl) ?_
            refine va_get (D := (dC, dI)) (ci := 9) (v := .int c_states) (C := RX9) (T := TX9) (N := 45) hx hb hts (fun w h => gw_mem (inX9 w h)) hown hK.1 hP 0 rfl rfl 40 (by decide) (hts _ (gw_mem wfX9_446)) (fun _ h9 => h9) rfl dX9_keepsAll_216 ?_
            refine lv_imul hx hb dX9_keepsAll_219 ?_
            refine lv_aload_n hx hb dX9_keepsAll_220 rfl (lv_at hl 0 rfl) ?_
            refine va_get (D := (dC, dI)) (ci := 9) (v := .long c_handPaid) (C := RX9) (T := TX9) (N := 45) hx hb hts (fun w h => gw_mem (inX9 w h)) hown hK.1 hP 0 rfl rfl 36 (by decide) (hts _ (gw_mem wfX9_419)) (fun _ h9 => h9) rfl dX9_keepsAll_221 ?_
            obtain ⟨h172, hf⟩ := og_some hf
            obtain ⟨w173, ew173⟩ : ∃ y : Nat → Int64, y = vp_updL c_keptLong (Int32.toNatClampNeg (2 * c_states)) c_handPaid := ⟨_, rfl⟩
            replace hf := nm_at hf ew173
            refine va_last hx hb hK.1 hP hD hS 14 1 rfl rfl (okI_in h172) dX9_keepsAll_224 (fun H locs hP hD hS => ?_)
            have hP : va_P (dC, dI) vwCl (mW dA ad c_tape c_taped c_tree_3 c_bonds_7 c_moves_11 c_handMoves_12 r16 c_days c_likely c_outOf c_rateNow c_pence c_top c_bottom c_spot c_textLong c_fault c_number c_numberAt c_figures c_written c_wanted c_found c_drawnNow c_worth c_hold c_way c_acts c_sDay c_sUps c_sUp c_sMarks c_paidAll 0 0 r20 c_handPaid c_regret c_aside c_other c_states c_kept_163 w173 c_keptAt_164 p1) H := by rw [ew173]; exact hP
            have hD : va_D A (mW dA ad c_tape c_taped c_tree_3 c_bonds_7 c_moves_11 c_handMoves_12 r16 c_days c_likely c_outOf c_rateNow c_pence c_top c_bottom c_spot c_textLong c_fault c_number c_numberAt c_figures c_written c_wanted c_found c_drawnNow c_worth c_hold c_way c_acts c_sDay c_sUps c_sUp c_sMarks c_paidAll 0 0 r20 c_handPaid c_regret c_aside c_other c_states c_kept_163 w173 c_keptAt_164 p1) := by rw [ew173]; exact hD
            refine lv_aload_n hx hb dX9_keepsAll_225 rfl (lv_at hl 0 rfl) ?_
            refine va_get (D := (dC, dI)) (ci := 9) (v := .ref (ad 14)) (C := RX9) (T := TX9) (N := 45) hx hb hts (fun w h => gw_mem (inX9 w h)) hown hK.1 hP 0 rfl rfl 42 (by decide) (hts _ (gw_mem wfX9_51)) (fun _ h9 => h9) rfl dX9_keepsAll_226 ?_
            refine lv_iconst (v := 2) hx hb dX9_keepsAll_229 (by decide) ?_
            refine lv_aload_n hx hb dX9_keepsAll_230 rfl (lv_at hl 0 rfl) ?_
            refine va_get (D := (dC, dI)) (ci := 9) (v := .int c_states) (C := RX9) (T := TX9) (N := 45) hx hb hts (fun w h => gw_mem (inX9 w h)) hown hK.1 hP 0 rfl rfl 40 (by decide) (hts _ (gw_mem wfX9_446)) (fun _ h9 => h9) rfl dX9_keepsAll_231 ?_
            refine lv_imul hx hb dX9_keepsAll_234 ?_
            refine lv_iconst (v := 1) hx hb dX9_keepsAll_235 (by decide) ?_
            refine lv_iadd hx hb dX9_keepsAll_236 ?_
            refine lv_aload_n hx hb dX9_keepsAll_237 rfl (lv_at hl 0 rfl) ?_
            refine va_get (D := (dC, dI)) (ci := 9) (v := .long c_regret) (C := RX9) (T := TX9) (N := 45) hx hb hts (fun w h => gw_mem (inX9 w h)) hown hK.1 hP 0 rfl rfl 37 (by decide) (hts _ (gw_mem wfX9_422)) (fun _ h9 => h9) rfl dX9_keepsAll_238 ?_
            obtain ⟨h174, hf⟩ := og_some hf
            obtain ⟨w175, ew175⟩ : ∃ y : Nat → Int64, y = vp_updL w173 (Int32.toNatClampNeg ((2 * c_states) + 1)) c_regret := ⟨_, rfl⟩
            replace hf := nm_at hf ew175
            refine va_last hx hb hK.1 hP hD hS 14 1 rfl rfl (okI_in h174) dX9_keepsAll_241 (fun H locs hP hD hS => ?_)
            have hP : va_P (dC, dI) vwCl (mW dA ad c_tape c_taped c_tree_3 c_bonds_7 c_moves_11 c_handMoves_12 r16 c_days c_likely c_outOf c_rateNow c_pence c_top c_bottom c_spot c_textLong c_fault c_number c_numberAt c_figures c_written c_wanted c_found c_drawnNow c_worth c_hold c_way c_acts c_sDay c_sUps c_sUp c_sMarks c_paidAll 0 0 r20 c_handPaid c_regret c_aside c_other c_states c_kept_163 w175 c_keptAt_164 p1) H := by rw [ew175]; exact hP
            have hD : va_D A (mW dA ad c_tape c_taped c_tree_3 c_bonds_7 c_moves_11 c_handMoves_12 r16 c_days c_likely c_outOf c_rateNow c_pence c_top c_bottom c_spot c_textLong c_fault c_number c_numberAt c_figures c_written c_wanted c_found c_drawnNow c_worth c_hold c_way c_acts c_sDay c_sUps c_sUp c_sMarks c_paidAll 0 0 r20 c_handPaid c_regret c_aside c_other c_states c_kept_163 w175 c_keptAt_164 p1) := by rw [ew175]; exact hD
            refine lv_aload_n hx hb dX9_keepsAll_242 rfl (lv_at hl 0 rfl) ?_
            refine lv_aload_n hx hb dX9_keepsAll_243 rfl (lv_at hl 0 rfl) ?_
            refine va_get (D := (dC, dI)) (ci := 9) (v := .ref (ad 14)) (C := RX9) (T := TX9) (N := 45) hx hb hts (fun w h => gw_mem (inX9 w h)) hown hK.1 hP 0 rfl rfl 42 (by decide) (hts _ (gw_mem wfX9_51)) (fun _ h9 => h9) rfl dX9_keepsAll_244 ?_
            refine lv_iconst (v := 2) hx hb dX9_keepsAll_247 (by decide) ?_
            refine lv_aload_n hx hb dX9_keepsAll_248 rfl (lv_at hl 0 rfl) ?_
            refine va_get (D := (dC, dI)) (ci := 9) (v := .int c_states) (C := RX9) (T := TX9) (N := 45) hx hb hts (fun w h => gw_mem (inX9 w h)) hown hK.1 hP 0 rfl rfl 40 (by decide) (hts _ (gw_mem wfX9_446)) (fun _ h9 => h9) rfl dX9_keepsAll_249 ?_
            refine lv_imul hx hb dX9_keepsAll_252 ?_
            obtain ⟨h176, hf⟩ := og_some hf
            refine va_lald hx hb hK.1 hP 14 1 rfl rfl (okI_in h176) dX9_keepsAll_253 ?_
            refine lv_topl (fun w177 ew177 => ?_)
            replace hf := nm_at hf ew177
            refine va_put (D := (dC, dI)) (ci := 9) (v := .long w177) (ty := .long) (C := RX9) (T := TX9) (N := 45) hx hb hts (fun w h => gw_mem (inX9 w h)) tyX9 tyX9_ok nmX9 hown hK.1 hP hD hS 0 rfl rfl 36 (by decide) (hts _ (gw_mem wfX9_419)) (fun _ h9 => h9) rfl (by decide +kernel) rfl rfl (Nat.le_of_ble_eq_true rfl) dX9_keepsAll_254 (fun H locs hP hD hS => ?_)
            have hP : va_P (dC, dI) vwCl (mW dA ad c_tape c_taped c_tree_3 c_bonds_7 c_moves_11 c_handMoves_12 r16 c_days c_likely c_outOf c_rateNow c_pence c_top c_bottom c_spot c_textLong c_fault c_number c_numberAt c_figures c_written c_wanted c_found c_drawnNow c_worth c_hold c_way c_acts c_sDay c_sUps c_sUp c_sMarks c_paidAll 0 0 r20 w177 c_regret c_aside c_other c_states c_kept_163 w175 c_keptAt_164 p1) H := hP
            have hD : va_D A (mW dA ad c_tape c_taped c_tree_3 c_bonds_7 c_moves_11 c_handMoves_12 r16 c_days c_likely c_outOf c_rateNow c_pence c_top c_bottom c_spot c_textLong c_fault c_number c_numberAt c_figures c_written c_wanted c_found c_drawnNow c_worth c_hold c_way c_acts c_sDay c_sUps c_sUp c_sMarks c_paidAll 0 0 r20 w177 c_regret c_aside c_other c_states c_kept_163 w175 c_keptAt_164 p1) := hD
            refine lv_aload_n hx hb dX9_keepsAll_257 rfl (lv_at hl 0 rfl) ?_
            refine lv_aload_n hx hb dX9_keepsAll_258 rfl (lv_at hl 0 rfl) ?_
            refine va_get (D := (dC, dI)) (ci := 9) (v := .ref (ad 14)) (C := RX9) (T := TX9) (N := 45) hx hb hts (fun w h => gw_mem (inX9 w h)) hown hK.1 hP 0 rfl rfl 42 (by decide) (hts _ (gw_mem wfX9_51)) (fun _ h9 => h9) rfl dX9_keepsAll_259 ?_
            refine lv_iconst (v := 2) hx hb dX9_keepsAll_262 (by decide) ?_
            refine lv_aload_n hx hb dX9_keepsAll_263 rfl (lv_at hl 0 rfl) ?_
            refine va_get (D := (dC, dI)) (ci := 9) (v := .int c_states) (C := RX9) (T := TX9) (N := 45) hx hb hts (fun w h => gw_mem (inX9 w h)) hown hK.1 hP 0 rfl rfl 40 (by decide) (hts _ (gw_mem wfX9_446)) (fun _ h9 => h9) rfl dX9_keepsAll_264 ?_
            refine lv_imul hx hb dX9_keepsAll_267 ?_
            refine lv_iconst (v := 1) hx hb dX9_keepsAll_268 (by decide) ?_
            refine lv_iadd hx hb dX9_keepsAll_269 ?_
            obtain ⟨h178, hf⟩ := og_some hf
            refine va_lald hx hb hK.1 hP 14 1 rfl rfl (okI_in h178) dX9_keepsAll_270 ?_
            refine lv_topl (fun w179 ew179 => ?_)
            replace hf := nm_at hf ew179
            refine va_put (D := (dC, dI)) (ci := 9) (v := .long w179) (ty := .long) (C := RX9) (T := TX9) (N := 45) hx hb hts (fun w h => gw_mem (inX9 w h)) tyX9 tyX9_ok nmX9 hown hK.1 hP hD hS 0 rfl rfl 37 (by decide) (hts _ (gw_mem wfX9_422)) (fun _ h9 => h9) rfl (by decide +kernel) rfl rfl (Nat.le_of_ble_eq_true rfl) dX9_keepsAll_271 (fun H locs hP hD hS => ?_)
            have hP : va_P (dC, dI) vwCl (mW dA ad c_tape c_taped c_tree_3 c_bonds_7 c_moves_11 c_handMoves_12 r16 c_days c_likely c_outOf c_rateNow c_pence c_top c_bottom c_spot c_textLong c_fault c_number c_numberAt c_figures c_written c_wanted c_found c_drawnNow c_worth c_hold c_way c_acts c_sDay c_sUps c_sUp c_sMarks c_paidAll 0 0 r20 w177 w179 c_aside c_other c_states c_kept_163 w175 c_keptAt_164 p1) H := hP
            have hD : va_D A (mW dA ad c_tape c_taped c_tree_3 c_bonds_7 c_moves_11 c_handMoves_12 r16 c_days c_likely c_outOf c_rateNow c_pence c_top c_bottom c_spot c_textLong c_fault c_number c_numberAt c_figures c_written c_wanted c_found c_drawnNow c_worth c_hold c_way c_acts c_sDay c_sUps c_sUp c_sMarks c_paidAll 0 0 r20 w177 w179 c_aside c_other c_states c_kept_163 w175 c_keptAt_164 p1) := hD
            cases hf
            exact W.vret hx hb hr (fun t ht _ => gqv hP hD hS ht) hS.2.2 dX9_keepsAll_274
        · replace hf := ifp k166 hf
          refine lv_iconst (v := 1) hx hb dX9_keepsAll_198 (by decide) ?_
          refine lv_goto (tgt := 203) hx hb dX9_keepsAll_199 (by decide) ?_
          refine va_put (D := (dC, dI)) (ci := 9) (v := .int 1) (ty := .boolean) (C := RX9) (T := TX9) (N := 45) hx hb hts (fun w h => gw_mem (inX9 w h)) tyX9 tyX9_ok nmX9 hown hK.1 hP hD hS 0 rfl rfl 34 (by decide) (hts _ (gw_mem wfX9_416)) (fun _ h9 => h9) rfl (by decide +kernel) rfl rfl (Nat.le_of_ble_eq_true rfl) dX9_keepsAll_203 (fun H locs hP hD hS => ?_)
          have hP : va_P (dC, dI) vwCl (mW dA ad c_tape c_taped c_tree_3 c_bonds_7 c_moves_11 c_handMoves_12 r16 c_days c_likely c_outOf c_rateNow c_pence c_top c_bottom c_spot c_textLong c_fault c_number c_numberAt c_figures c_written c_wanted c_found c_drawnNow c_worth c_hold c_way c_acts c_sDay c_sUps c_sUp c_sMarks c_paidAll 0 1 r20 c_handPaid c_regret c_aside c_other c_states c_kept_163 c_keptLong c_keptAt_164 p1) H := hP
          have hD : va_D A (mW dA ad c_tape c_taped c_tree_3 c_bonds_7 c_moves_11 c_handMoves_12 r16 c_days c_likely c_outOf c_rateNow c_pence c_top c_bottom c_spot c_textLong c_fault c_number c_numberAt c_figures c_written c_wanted c_found c_drawnNow c_worth c_hold c_way c_acts c_sDay c_sUps c_sUp c_sMarks c_paidAll 0 1 r20 c_handPaid c_regret c_aside c_other c_states c_kept_163 c_keptLong c_keptAt_164 p1) := hD
          refine lv_iload_n hx hb dX9_keepsAll_206 rfl (lv_at hl 1 rfl) ?_
          refine lv_if_eq (tgt := 242) hx hb dX9_keepsAll_207 (by decide) (fun k180 => ?_) (fun k180 => ?_)
          · replace hf := ifp k180 hf
            refine lv_aload_n hx hb dX9_keepsAll_242 rfl (lv_at hl 0 rfl) ?_
            refine lv_aload_n hx hb dX9_keepsAll_243 rfl (lv_at hl 0 rfl) ?_
            refine va_get (D := (dC, dI)) (ci := 9) (v := .ref (ad 14)) (C := RX9) (T := TX9) (N := 45) hx hb hts (fun w h => gw_mem (inX9 w h)) hown hK.1 hP 0 rfl rfl 42 (by decide) (hts _ (gw_mem wfX9_51)) (fun _ h9 => h9) rfl dX9_keepsAll_244 ?_
            refine lv_iconst (v := 2) hx hb dX9_keepsAll_247 (by decide) ?_
            refine lv_aload_n hx hb dX9_keepsAll_248 rfl (lv_at hl 0 rfl) ?_
            refine va_get (D := (dC, dI)) (ci := 9) (v := .int c_states) (C := RX9) (T := TX9) (N := 45) hx hb hts (fun w h => gw_mem (inX9 w h)) hown hK.1 hP 0 rfl rfl 40 (by decide) (hts _ (gw_mem wfX9_446)) (fun _ h9 => h9) rfl dX9_keepsAll_249 ?_
            refine lv_imul hx hb dX9_keepsAll_252 ?_
            obtain ⟨h181, hf⟩ := og_some hf
            refine va_lald hx hb hK.1 hP 14 1 rfl rfl (okI_in h181) dX9_keepsAll_253 ?_
            refine lv_topl (fun w182 ew182 => ?_)
            replace hf := nm_at hf ew182
            refine va_put (D := (dC, dI)) (ci := 9) (v := .long w182) (ty := .long) (C := RX9) (T := TX9) (N := 45) hx hb hts (fun w h => gw_mem (inX9 w h)) tyX9 tyX9_ok nmX9 hown hK.1 hP hD hS 0 rfl rfl 36 (by decide) (hts _ (gw_mem wfX9_419)) (fun _ h9 => h9) rfl (by decide +kernel) rfl rfl (Nat.le_of_ble_eq_true rfl) dX9_keepsAll_254 (fun H locs hP hD hS => ?_)
            have hP : va_P (dC, dI) vwCl (mW dA ad c_tape c_taped c_tree_3 c_bonds_7 c_moves_11 c_handMoves_12 r16 c_days c_likely c_outOf c_rateNow c_pence c_top c_bottom c_spot c_textLong c_fault c_number c_numberAt c_figures c_written c_wanted c_found c_drawnNow c_worth c_hold c_way c_acts c_sDay c_sUps c_sUp c_sMarks c_paidAll 0 1 r20 w182 c_regret c_aside c_other c_states c_kept_163 c_keptLong c_keptAt_164 p1) H := hP
            have hD : va_D A (mW dA ad c_tape c_taped c_tree_3 c_bonds_7 c_moves_11 c_handMoves_12 r16 c_days c_likely c_outOf c_rateNow c_pence c_top c_bottom c_spot c_textLong c_fault c_number c_numberAt c_figures c_written c_wanted c_found c_drawnNow c_worth c_hold c_way c_acts c_sDay c_sUps c_sUp c_sMarks c_paidAll 0 1 r20 w182 c_regret c_aside c_other c_states c_kept_163 c_keptLong c_keptAt_164 p1) := hD
            refine lv_aload_n hx hb dX9_keepsAll_257 rfl (lv_at hl 0 rfl) ?_
            refine lv_aload_n hx hb dX9_keepsAll_258 rfl (lv_at hl 0 rfl) ?_
            refine va_get (D := (dC, dI)) (ci := 9) (v := .ref (ad 14)) (C := RX9) (T := TX9) (N := 45) hx hb hts (fun w h => gw_mem (inX9 w h)) hown hK.1 hP 0 rfl rfl 42 (by decide) (hts _ (gw_mem wfX9_51)) (fun _ h9 => h9) rfl dX9_keepsAll_259 ?_
            refine lv_iconst (v := 2) hx hb dX9_keepsAll_262 (by decide) ?_
            refine lv_aload_n hx hb dX9_keepsAll_263 rfl (lv_at hl 0 rfl) ?_
            refine va_get (D := (dC, dI)) (ci := 9) (v := .int c_states) (C := RX9) (T := TX9) (N := 45) hx hb hts (fun w h => gw_mem (inX9 w h)) hown hK.1 hP 0 rfl rfl 40 (by decide) (hts _ (gw_mem wfX9_446)) (fun _ h9 => h9) rfl dX9_keepsAll_264 ?_
            refine lv_imul hx hb dX9_keepsAll_267 ?_
            refine lv_iconst (v := 1) hx hb dX9_keepsAll_268 (by decide) ?_
            refine lv_iadd hx hb dX9_keepsAll_269 ?_
            obtain ⟨h183, hf⟩ := og_some hf
            refine va_lald hx hb hK.1 hP 14 1 rfl rfl (okI_in h183) dX9_keepsAll_270 ?_
            refine lv_topl (fun w184 ew184 => ?_)
            replace hf := nm_at hf ew184
            refine va_put (D := (dC, dI)) (ci := 9) (v := .long w184) (ty := .long) (C := RX9) (T := TX9) (N := 45) hx hb hts (fun w h => gw_mem (inX9 w h)) tyX9 tyX9_ok nmX9 hown hK.1 hP hD hS 0 rfl rfl 37 (by decide) (hts _ (gw_mem wfX9_422)) (fun _ h9 => h9) rfl (by decide +kernel) rfl rfl (Nat.le_of_ble_eq_true rfl) dX9_keepsAll_271 (fun H locs hP hD hS => ?_)
            have hP : va_P (dC, dI) vwCl (mW dA ad c_tape c_taped c_tree_3 c_bonds_7 c_moves_11 c_handMoves_12 r16 c_days c_likely c_outOf c_rateNow c_pence c_top c_bottom c_spot c_textLong c_fault c_number c_numberAt c_figures c_written c_wanted c_found c_drawnNow c_worth c_hold c_way c_acts c_sDay c_sUps c_sUp c_sMarks c_paidAll 0 1 r20 w182 w184 c_aside c_other c_states c_kept_163 c_keptLong c_keptAt_164 p1) H := hP
            have hD : va_D A (mW dA ad c_tape c_taped c_tree_3 c_bonds_7 c_moves_11 c_handMoves_12 r16 c_days c_likely c_outOf c_rateNow c_pence c_top c_bottom c_spot c_textLong c_fault c_number c_numberAt c_figures c_written c_wanted c_found c_drawnNow c_worth c_hold c_way c_acts c_sDay c_sUps c_sUp c_sMarks c_paidAll 0 1 r20 w182 w184 c_aside c_other c_states c_kept_163 c_keptLong c_keptAt_164 p1) := hD
            cases hf
            exact W.vret hx hb hr (fun t ht _ => gqv hP hD hS ht) hS.2.2 dX9_keepsAll_274
          · replace hf := ifn k180 hf
            refine lv_aload_n hx hb dX9_keepsAll_210 rfl (lv_at hl 0 rfl) ?_
            refine va_get (D := (dC, dI)) (ci := 9) (v := .ref (ad 14)) (C := RX9) (T := TX9) (N := 45) hx hb hts (fun w h => gw_mem (inX9 w h)) hown hK.1 hP 0 rfl rfl 42 (by decide) (hts _ (gw_mem wfX9_51)) (fun _ h9 => h9) rfl dX9_keepsAll_211 ?_
            refine lv_iconst (v := 2) hx hb dX9_keepsAll_214 (by decide) ?_
            refine lv_aload_n hx hb dX9_keepsAll_215 rfl (lv_at hl 0 rfl) ?_
            refine va_get (D := (dC, dI)) (ci := 9) (v := .int c_states) (C := RX9) (T := TX9) (N := 45) hx hb hts (fun w h => gw_mem (inX9 w h)) hown hK.1 hP 0 rfl rfl 40 (by decide) (hts _ (gw_mem wfX9_446)) (fun _ h9 => h9) rfl dX9_keepsAll_216 ?_
            refine lv_imul hx hb dX9_keepsAll_219 ?_
            refine lv_aload_n hx hb dX9_keepsAll_220 rfl (lv_at hl 0 rfl) ?_
            refine va_get (D := (dC, dI)) (ci := 9) (v := .long c_handPaid) (C := RX9) (T := TX9) (N := 45) hx hb hts (fun w h => gw_mem (inX9 w h)) hown hK.1 hP 0 rfl rfl 36 (by decide) (hts _ (gw_mem wfX9_419)) (fun _ h9 => h9) rfl dX9_keepsAll_221 ?_
            obtain ⟨h185, hf⟩ := og_some hf
            obtain ⟨w186, ew186⟩ : ∃ y : Nat → Int64, y = vp_updL c_keptLong (Int32.toNatClampNeg (2 * c_states)) c_handPaid := ⟨_, rfl⟩
            replace hf := nm_at hf ew186
            refine va_last hx hb hK.1 hP hD hS 14 1 rfl rfl (okI_in h185) dX9_keepsAll_224 (fun H locs hP hD hS => ?_)
            have hP : va_P (dC, dI) vwCl (mW dA ad c_tape c_taped c_tree_3 c_bonds_7 c_moves_11 c_handMoves_12 r16 c_days c_likely c_outOf c_rateNow c_pence c_top c_bottom c_spot c_textLong c_fault c_number c_numberAt c_figures c_written c_wanted c_found c_drawnNow c_worth c_hold c_way c_acts c_sDay c_sUps c_sUp c_sMarks c_paidAll 0 1 r20 c_handPaid c_regret c_aside c_other c_states c_kept_163 w186 c_keptAt_164 p1) H := by rw [ew186]; exact hP
            have hD : va_D A (mW dA ad c_tape c_taped c_tree_3 c_bonds_7 c_moves_11 c_handMoves_12 r16 c_days c_likely c_outOf c_rateNow c_pence c_top c_bottom c_spot c_textLong c_fault c_number c_numberAt c_figures c_written c_wanted c_found c_drawnNow c_worth c_hold c_way c_acts c_sDay c_sUps c_sUp c_sMarks c_paidAll 0 1 r20 c_handPaid c_regret c_aside c_other c_states c_kept_163 w186 c_keptAt_164 p1) := by rw [ew186]; exact hD
            refine lv_aload_n hx hb dX9_keepsAll_225 rfl (lv_at hl 0 rfl) ?_
            refine va_get (D := (dC, dI)) (ci := 9) (v := .ref (ad 14)) (C := RX9) (T := TX9) (N := 45) hx hb hts (fun w h => gw_mem (inX9 w h)) hown hK.1 hP 0 rfl rfl 42 (by decide) (hts _ (gw_mem wfX9_51)) (fun _ h9 => h9) rfl dX9_keepsAll_226 ?_
            refine lv_iconst (v := 2) hx hb dX9_keepsAll_229 (by decide) ?_
            refine lv_aload_n hx hb dX9_keepsAll_230 rfl (lv_at hl 0 rfl) ?_
            refine va_get (D := (dC, dI)) (ci := 9) (v := .int c_states) (C := RX9) (T := TX9) (N := 45) hx hb hts (fun w h => gw_mem (inX9 w h)) hown hK.1 hP 0 rfl rfl 40 (by decide) (hts _ (gw_mem wfX9_446)) (fun _ h9 => h9) rfl dX9_keepsAll_231 ?_
            refine lv_imul hx hb dX9_keepsAll_234 ?_
            refine lv_iconst (v := 1) hx hb dX9_keepsAll_235 (by decide) ?_
            refine lv_iadd hx hb dX9_keepsAll_236 ?_
            refine lv_aload_n hx hb dX9_keepsAll_237 rfl (lv_at hl 0 rfl) ?_
            refine va_get (D := (dC, dI)) (ci := 9) (v := .long c_regret) (C := RX9) (T := TX9) (N := 45) hx hb hts (fun w h => gw_mem (inX9 w h)) hown hK.1 hP 0 rfl rfl 37 (by decide) (hts _ (gw_mem wfX9_422)) (fun _ h9 => h9) rfl dX9_keepsAll_238 ?_
            obtain ⟨h187, hf⟩ := og_some hf
            obtain ⟨w188, ew188⟩ : ∃ y : Nat → Int64, y = vp_updL w186 (Int32.toNatClampNeg ((2 * c_states) + 1)) c_regret := ⟨_, rfl⟩
            replace hf := nm_at hf ew188
            refine va_last hx hb hK.1 hP hD hS 14 1 rfl rfl (okI_in h187) dX9_keepsAll_241 (fun H locs hP hD hS => ?_)
            have hP : va_P (dC, dI) vwCl (mW dA ad c_tape c_taped c_tree_3 c_bonds_7 c_moves_11 c_handMoves_12 r16 c_days c_likely c_outOf c_rateNow c_pence c_top c_bottom c_spot c_textLong c_fault c_number c_numberAt c_figures c_written c_wanted c_found c_drawnNow c_worth c_hold c_way c_acts c_sDay c_sUps c_sUp c_sMarks c_paidAll 0 1 r20 c_handPaid c_regret c_aside c_other c_states c_kept_163 w188 c_keptAt_164 p1) H := by rw [ew188]; exact hP
            have hD : va_D A (mW dA ad c_tape c_taped c_tree_3 c_bonds_7 c_moves_11 c_handMoves_12 r16 c_days c_likely c_outOf c_rateNow c_pence c_top c_bottom c_spot c_textLong c_fault c_number c_numberAt c_figures c_written c_wanted c_found c_drawnNow c_worth c_hold c_way c_acts c_sDay c_sUps c_sUp c_sMarks c_paidAll 0 1 r20 c_handPaid c_regret c_aside c_other c_states c_kept_163 w188 c_keptAt_164 p1) := by rw [ew188]; exact hD
            refine lv_aload_n hx hb dX9_keepsAll_242 rfl (lv_at hl 0 rfl) ?_
            refine lv_aload_n hx hb dX9_keepsAll_243 rfl (lv_at hl 0 rfl) ?_
            refine va_get (D := (dC, dI)) (ci := 9) (v := .ref (ad 14)) (C := RX9) (T := TX9) (N := 45) hx hb hts (fun w h => gw_mem (inX9 w h)) hown hK.1 hP 0 rfl rfl 42 (by decide) (hts _ (gw_mem wfX9_51)) (fun _ h9 => h9) rfl dX9_keepsAll_244 ?_
            refine lv_iconst (v := 2) hx hb dX9_keepsAll_247 (by decide) ?_
            refine lv_aload_n hx hb dX9_keepsAll_248 rfl (lv_at hl 0 rfl) ?_
            refine va_get (D := (dC, dI)) (ci := 9) (v := .int c_states) (C := RX9) (T := TX9) (N := 45) hx hb hts (fun w h => gw_mem (inX9 w h)) hown hK.1 hP 0 rfl rfl 40 (by decide) (hts _ (gw_mem wfX9_446)) (fun _ h9 => h9) rfl dX9_keepsAll_249 ?_
            refine lv_imul hx hb dX9_keepsAll_252 ?_
            obtain ⟨h189, hf⟩ := og_some hf
            refine va_lald hx hb hK.1 hP 14 1 rfl rfl (okI_in h189) dX9_keepsAll_253 ?_
            refine lv_topl (fun w190 ew190 => ?_)
            replace hf := nm_at hf ew190
            refine va_put (D := (dC, dI)) (ci := 9) (v := .long w190) (ty := .long) (C := RX9) (T := TX9) (N := 45) hx hb hts (fun w h => gw_mem (inX9 w h)) tyX9 tyX9_ok nmX9 hown hK.1 hP hD hS 0 rfl rfl 36 (by decide) (hts _ (gw_mem wfX9_419)) (fun _ h9 => h9) rfl (by decide +kernel) rfl rfl (Nat.le_of_ble_eq_true rfl) dX9_keepsAll_254 (fun H locs hP hD hS => ?_)
            have hP : va_P (dC, dI) vwCl (mW dA ad c_tape c_taped c_tree_3 c_bonds_7 c_moves_11 c_handMoves_12 r16 c_days c_likely c_outOf c_rateNow c_pence c_top c_bottom c_spot c_textLong c_fault c_number c_numberAt c_figures c_written c_wanted c_found c_drawnNow c_worth c_hold c_way c_acts c_sDay c_sUps c_sUp c_sMarks c_paidAll 0 1 r20 w190 c_regret c_aside c_other c_states c_kept_163 w188 c_keptAt_164 p1) H := hP
            have hD : va_D A (mW dA ad c_tape c_taped c_tree_3 c_bonds_7 c_moves_11 c_handMoves_12 r16 c_days c_likely c_outOf c_rateNow c_pence c_top c_bottom c_spot c_textLong c_fault c_number c_numberAt c_figures c_written c_wanted c_found c_drawnNow c_worth c_hold c_way c_acts c_sDay c_sUps c_sUp c_sMarks c_paidAll 0 1 r20 w190 c_regret c_aside c_other c_states c_kept_163 w188 c_keptAt_164 p1) := hD
            refine lv_aload_n hx hb dX9_keepsAll_257 rfl (lv_at hl 0 rfl) ?_
            refine lv_aload_n hx hb dX9_keepsAll_258 rfl (lv_at hl 0 rfl) ?_
            refine va_get (D := (dC, dI)) (ci := 9) (v := .ref (ad 14)) (C := RX9) (T := TX9) (N := 45) hx hb hts (fun w h => gw_mem (inX9 w h)) hown hK.1 hP 0 rfl rfl 42 (by decide) (hts _ (gw_mem wfX9_51)) (fun _ h9 => h9) rfl dX9_keepsAll_259 ?_
            refine lv_iconst (v := 2) hx hb dX9_keepsAll_262 (by decide) ?_
            refine lv_aload_n hx hb dX9_keepsAll_263 rfl (lv_at hl 0 rfl) ?_
            refine va_get (D := (dC, dI)) (ci := 9) (v := .int c_states) (C := RX9) (T := TX9) (N := 45) hx hb hts (fun w h => gw_mem (inX9 w h)) hown hK.1 hP 0 rfl rfl 40 (by decide) (hts _ (gw_mem wfX9_446)) (fun _ h9 => h9) rfl dX9_keepsAll_264 ?_
            refine lv_imul hx hb dX9_keepsAll_267 ?_
            refine lv_iconst (v := 1) hx hb dX9_keepsAll_268 (by decide) ?_
            refine lv_iadd hx hb dX9_keepsAll_269 ?_
            obtain ⟨h191, hf⟩ := og_some hf
            refine va_lald hx hb hK.1 hP 14 1 rfl rfl (okI_in h191) dX9_keepsAll_270 ?_
            refine lv_topl (fun w192 ew192 => ?_)
            replace hf := nm_at hf ew192
            refine va_put (D := (dC, dI)) (ci := 9) (v := .long w192) (ty := .long) (C := RX9) (T := TX9) (N := 45) hx hb hts (fun w h => gw_mem (inX9 w h)) tyX9 tyX9_ok nmX9 hown hK.1 hP hD hS 0 rfl rfl 37 (by decide) (hts _ (gw_mem wfX9_422)) (fun _ h9 => h9) rfl (by decide +kernel) rfl rfl (Nat.le_of_ble_eq_true rfl) dX9_keepsAll_271 (fun H locs hP hD hS => ?_)
            have hP : va_P (dC, dI) vwCl (mW dA ad c_tape c_taped c_tree_3 c_bonds_7 c_moves_11 c_handMoves_12 r16 c_days c_likely c_outOf c_rateNow c_pence c_top c_bottom c_spot c_textLong c_fault c_number c_numberAt c_figures c_written c_wanted c_found c_drawnNow c_worth c_hold c_way c_acts c_sDay c_sUps c_sUp c_sMarks c_paidAll 0 1 r20 w190 w192 c_aside c_other c_states c_kept_163 w188 c_keptAt_164 p1) H := hP
            have hD : va_D A (mW dA ad c_tape c_taped c_tree_3 c_bonds_7 c_moves_11 c_handMoves_12 r16 c_days c_likely c_outOf c_rateNow c_pence c_top c_bottom c_spot c_textLong c_fault c_number c_numberAt c_figures c_written c_wanted c_found c_drawnNow c_worth c_hold c_way c_acts c_sDay c_sUps c_sUp c_sMarks c_paidAll 0 1 r20 w190 w192 c_aside c_other c_states c_kept_163 w188 c_keptAt_164 p1) := hD
            cases hf
            exact W.vret hx hb hr (fun t ht _ => gqv hP hD hS ht) hS.2.2 dX9_keepsAll_274
      · replace hf := ifn k161 hf
        refine lv_iconst (v := 1) hx hb dX9_keepsAll_186 (by decide) ?_
        refine lv_goto (tgt := 191) hx hb dX9_keepsAll_187 (by decide) ?_
        obtain ⟨r193, c_kept_194, c_keptAt_195, v196, hf⟩ := bd3_some hf
        refine gci (va_runV (As := [.int 1]) (rest := [.ref (ad 0)]) ⟨hx, hb, hml, hown, hts⟩ (tX9_keeps l dC dI dA ad H.size v196) (ccX9_X9_keeps hts ⟨Nat.le_of_ble_eq_true rfl, Nat.le_of_ble_eq_true rfl⟩) (gPreV (ci := 9) (q0 := 0) hP hK hD rfl rfl) rfl rfl hl.1 rfl (lv_room (Nat.le_of_ble_eq_true rfl)) dX9_keepsAll_191 ⟨Nat.le_of_ble_eq_true rfl, Nat.le_of_ble_eq_true rfl⟩) hD hS hA (fun H locs hP hD hS => ?_)
        refine lv_iconst (v := 1) hx hb dX9_keepsAll_194 (by decide) ?_
        refine lv_icmp_ne (tgt := 202) hx hb dX9_keepsAll_195 (by decide) (fun k197 => ?_) (fun k197 => ?_)
        · replace hf := ifn k197 hf
          refine lv_iconst (v := 0) hx hb dX9_keepsAll_202 (by decide) ?_
          refine va_put (D := (dC, dI)) (ci := 9) (v := .int 0) (ty := .boolean) (C := RX9) (T := TX9) (N := 45) hx hb hts (fun w h => gw_mem (inX9 w h)) tyX9 tyX9_ok nmX9 hown hK.1 hP hD hS 0 rfl rfl 34 (by decide) (hts _ (gw_mem wfX9_416)) (fun _ h9 => h9) rfl (by decide +kernel) rfl rfl (Nat.le_of_ble_eq_true rfl) dX9_keepsAll_203 (fun H locs hP hD hS => ?_)
          have hP : va_P (dC, dI) vwCl (mW dA ad c_tape c_taped c_tree_3 c_bonds_7 c_moves_11 c_handMoves_12 r16 c_days c_likely c_outOf c_rateNow c_pence c_top c_bottom c_spot c_textLong c_fault c_number c_numberAt c_figures c_written c_wanted c_found c_drawnNow c_worth c_hold c_way c_acts c_sDay c_sUps c_sUp c_sMarks c_paidAll 0 0 r20 c_handPaid c_regret c_aside c_other c_states c_kept_194 c_keptLong c_keptAt_195 p1) H := hP
          have hD : va_D A (mW dA ad c_tape c_taped c_tree_3 c_bonds_7 c_moves_11 c_handMoves_12 r16 c_days c_likely c_outOf c_rateNow c_pence c_top c_bottom c_spot c_textLong c_fault c_number c_numberAt c_figures c_written c_wanted c_found c_drawnNow c_worth c_hold c_way c_acts c_sDay c_sUps c_sUp c_sMarks c_paidAll 0 0 r20 c_handPaid c_regret c_aside c_other c_states c_kept_194 c_keptLong c_keptAt_195 p1) := hD
          refine lv_iload_n hx hb dX9_keepsAll_206 rfl (lv_at hl 1 rfl) ?_
          refine lv_if_eq (tgt := 242) hx hb dX9_keepsAll_207 (by decide) (fun k198 => ?_) (fun k198 => ?_)
          · replace hf := ifp k198 hf
            refine lv_aload_n hx hb dX9_keepsAll_242 rfl (lv_at hl 0 rfl) ?_
            refine lv_aload_n hx hb dX9_keepsAll_243 rfl (lv_at hl 0 rfl) ?_
            refine va_get (D := (dC, dI)) (ci := 9) (v := .ref (ad 14)) (C := RX9) (T := TX9) (N := 45) hx hb hts (fun w h => gw_mem (inX9 w h)) hown hK.1 hP 0 rfl rfl 42 (by decide) (hts _ (gw_mem wfX9_51)) (fun _ h9 => h9) rfl dX9_keepsAll_244 ?_
            refine lv_iconst (v := 2) hx hb dX9_keepsAll_247 (by decide) ?_
            refine lv_aload_n hx hb dX9_keepsAll_248 rfl (lv_at hl 0 rfl) ?_
            refine va_get (D := (dC, dI)) (ci := 9) (v := .int c_states) (C := RX9) (T := TX9) (N := 45) hx hb hts (fun w h => gw_mem (inX9 w h)) hown hK.1 hP 0 rfl rfl 40 (by decide) (hts _ (gw_mem wfX9_446)) (fun _ h9 => h9) rfl dX9_keepsAll_249 ?_
            refine lv_imul hx hb dX9_keepsAll_252 ?_
            obtain ⟨h199, hf⟩ := og_some hf
            refine va_lald hx hb hK.1 hP 14 1 rfl rfl (okI_in h199) dX9_keepsAll_253 ?_
            refine lv_topl (fun w200 ew200 => ?_)
            replace hf := nm_at hf ew200
            refine va_put (D := (dC, dI)) (ci := 9) (v := .long w200) (ty := .long) (C := RX9) (T := TX9) (N := 45) hx hb hts (fun w h => gw_mem (inX9 w h)) tyX9 tyX9_ok nmX9 hown hK.1 hP hD hS 0 rfl rfl 36 (by decide) (hts _ (gw_mem wfX9_419)) (fun _ h9 => h9) rfl (by decide +kernel) rfl rfl (Nat.le_of_ble_eq_true rfl) dX9_keepsAll_254 (fun H locs hP hD hS => ?_)
            have hP : va_P (dC, dI) vwCl (mW dA ad c_tape c_taped c_tree_3 c_bonds_7 c_moves_11 c_handMoves_12 r16 c_days c_likely c_outOf c_rateNow c_pence c_top c_bottom c_spot c_textLong c_fault c_number c_numberAt c_figures c_written c_wanted c_found c_drawnNow c_worth c_hold c_way c_acts c_sDay c_sUps c_sUp c_sMarks c_paidAll 0 0 r20 w200 c_regret c_aside c_other c_states c_kept_194 c_keptLong c_keptAt_195 p1) H := hP
            have hD : va_D A (mW dA ad c_tape c_taped c_tree_3 c_bonds_7 c_moves_11 c_handMoves_12 r16 c_days c_likely c_outOf c_rateNow c_pence c_top c_bottom c_spot c_textLong c_fault c_number c_numberAt c_figures c_written c_wanted c_found c_drawnNow c_worth c_hold c_way c_acts c_sDay c_sUps c_sUp c_sMarks c_paidAll 0 0 r20 w200 c_regret c_aside c_other c_states c_kept_194 c_keptLong c_keptAt_195 p1) := hD
            refine lv_aload_n hx hb dX9_keepsAll_257 rfl (lv_at hl 0 rfl) ?_
            refine lv_aload_n hx hb dX9_keepsAll_258 rfl (lv_at hl 0 rfl) ?_
            refine va_get (D := (dC, dI)) (ci := 9) (v := .ref (ad 14)) (C := RX9) (T := TX9) (N := 45) hx hb hts (fun w h => gw_mem (inX9 w h)) hown hK.1 hP 0 rfl rfl 42 (by decide) (hts _ (gw_mem wfX9_51)) (fun _ h9 => h9) rfl dX9_keepsAll_259 ?_
            refine lv_iconst (v := 2) hx hb dX9_keepsAll_262 (by decide) ?_
            refine lv_aload_n hx hb dX9_keepsAll_263 rfl (lv_at hl 0 rfl) ?_
            refine va_get (D := (dC, dI)) (ci := 9) (v := .int c_states) (C := RX9) (T := TX9) (N := 45) hx hb hts (fun w h => gw_mem (inX9 w h)) hown hK.1 hP 0 rfl rfl 40 (by decide) (hts _ (gw_mem wfX9_446)) (fun _ h9 => h9) rfl dX9_keepsAll_264 ?_
            refine lv_imul hx hb dX9_keepsAll_267 ?_
            refine lv_iconst (v := 1) hx hb dX9_keepsAll_268 (by decide) ?_
            refine lv_iadd hx hb dX9_keepsAll_269 ?_
            obtain ⟨h201, hf⟩ := og_some hf
            refine va_lald hx hb hK.1 hP 14 1 rfl rfl (okI_in h201) dX9_keepsAll_270 ?_
            refine lv_topl (fun w202 ew202 => ?_)
            replace hf := nm_at hf ew202
            refine va_put (D := (dC, dI)) (ci := 9) (v := .long w202) (ty := .long) (C := RX9) (T := TX9) (N := 45) hx hb hts (fun w h => gw_mem (inX9 w h)) tyX9 tyX9_ok nmX9 hown hK.1 hP hD hS 0 rfl rfl 37 (by decide) (hts _ (gw_mem wfX9_422)) (fun _ h9 => h9) rfl (by decide +kernel) rfl rfl (Nat.le_of_ble_eq_true rfl) dX9_keepsAll_271 (fun H locs hP hD hS => ?_)
            have hP : va_P (dC, dI) vwCl (mW dA ad c_tape c_taped c_tree_3 c_bonds_7 c_moves_11 c_handMoves_12 r16 c_days c_likely c_outOf c_rateNow c_pence c_top c_bottom c_spot c_textLong c_fault c_number c_numberAt c_figures c_written c_wanted c_found c_drawnNow c_worth c_hold c_way c_acts c_sDay c_sUps c_sUp c_sMarks c_paidAll 0 0 r20 w200 w202 c_aside c_other c_states c_kept_194 c_keptLong c_keptAt_195 p1) H := hP
            have hD : va_D A (mW dA ad c_tape c_taped c_tree_3 c_bonds_7 c_moves_11 c_handMoves_12 r16 c_days c_likely c_outOf c_rateNow c_pence c_top c_bottom c_spot c_textLong c_fault c_number c_numberAt c_figures c_written c_wanted c_found c_drawnNow c_worth c_hold c_way c_acts c_sDay c_sUps c_sUp c_sMarks c_paidAll 0 0 r20 w200 w202 c_aside c_other c_states c_kept_194 c_keptLong c_keptAt_195 p1) := hD
            cases hf
            exact W.vret hx hb hr (fun t ht _ => gqv hP hD hS ht) hS.2.2 dX9_keepsAll_274
          · replace hf := ifn k198 hf
            refine lv_aload_n hx hb dX9_keepsAll_210 rfl (lv_at hl 0 rfl) ?_
            refine va_get (D := (dC, dI)) (ci := 9) (v := .ref (ad 14)) (C := RX9) (T := TX9) (N := 45) hx hb hts (fun w h => gw_mem (inX9 w h)) hown hK.1 hP 0 rfl rfl 42 (by decide) (hts _ (gw_mem wfX9_51)) (fun _ h9 => h9) rfl dX9_keepsAll_211 ?_
            refine lv_iconst (v := 2) hx hb dX9_keepsAll_214 (by decide) ?_
            refine lv_aload_n hx hb dX9_keepsAll_215 rfl (lv_at hl 0 rfl) ?_
            refine va_get (D := (dC, dI)) (ci := 9) (v := .int c_states) (C := RX9) (T := TX9) (N := 45) hx hb hts (fun w h => gw_mem (inX9 w h)) hown hK.1 hP 0 rfl rfl 40 (by decide) (hts _ (gw_mem wfX9_446)) (fun _ h9 => h9) rfl dX9_keepsAll_216 ?_
            refine lv_imul hx hb dX9_keepsAll_219 ?_
            refine lv_aload_n hx hb dX9_keepsAll_220 rfl (lv_at hl 0 rfl) ?_
            refine va_get (D := (dC, dI)) (ci := 9) (v := .long c_handPaid) (C := RX9) (T := TX9) (N := 45) hx hb hts (fun w h => gw_mem (inX9 w h)) hown hK.1 hP 0 rfl rfl 36 (by decide) (hts _ (gw_mem wfX9_419)) (fun _ h9 => h9) rfl dX9_keepsAll_221 ?_
            obtain ⟨h203, hf⟩ := og_some hf
            obtain ⟨w204, ew204⟩ : ∃ y : Nat → Int64, y = vp_updL c_keptLong (Int32.toNatClampNeg (2 * c_states)) c_handPaid := ⟨_, rfl⟩
            replace hf := nm_at hf ew204
            refine va_last hx hb hK.1 hP hD hS 14 1 rfl rfl (okI_in h203) dX9_keepsAll_224 (fun H locs hP hD hS => ?_)
            have hP : va_P (dC, dI) vwCl (mW dA ad c_tape c_taped c_tree_3 c_bonds_7 c_moves_11 c_handMoves_12 r16 c_days c_likely c_outOf c_rateNow c_pence c_top c_bottom c_spot c_textLong c_fault c_number c_numberAt c_figures c_written c_wanted c_found c_drawnNow c_worth c_hold c_way c_acts c_sDay c_sUps c_sUp c_sMarks c_paidAll 0 0 r20 c_handPaid c_regret c_aside c_other c_states c_kept_194 w204 c_keptAt_195 p1) H := by rw [ew204]; exact hP
            have hD : va_D A (mW dA ad c_tape c_taped c_tree_3 c_bonds_7 c_moves_11 c_handMoves_12 r16 c_days c_likely c_outOf c_rateNow c_pence c_top c_bottom c_spot c_textLong c_fault c_number c_numberAt c_figures c_written c_wanted c_found c_drawnNow c_worth c_hold c_way c_acts c_sDay c_sUps c_sUp c_sMarks c_paidAll 0 0 r20 c_handPaid c_regret c_aside c_other c_states c_kept_194 w204 c_keptAt_195 p1) := by rw [ew204]; exact hD
            refine lv_aload_n hx hb dX9_keepsAll_225 rfl (lv_at hl 0 rfl) ?_
            refine va_get (D := (dC, dI)) (ci := 9) (v := .ref (ad 14)) (C := RX9) (T := TX9) (N := 45) hx hb hts (fun w h => gw_mem (inX9 w h)) hown hK.1 hP 0 rfl rfl 42 (by decide) (hts _ (gw_mem wfX9_51)) (fun _ h9 => h9) rfl dX9_keepsAll_226 ?_
            refine lv_iconst (v := 2) hx hb dX9_keepsAll_229 (by decide) ?_
            refine lv_aload_n hx hb dX9_keepsAll_230 rfl (lv_at hl 0 rfl) ?_
            refine va_get (D := (dC, dI)) (ci := 9) (v := .int c_states) (C := RX9) (T := TX9) (N := 45) hx hb hts (fun w h => gw_mem (inX9 w h)) hown hK.1 hP 0 rfl rfl 40 (by decide) (hts _ (gw_mem wfX9_446)) (fun _ h9 => h9) rfl dX9_keepsAll_231 ?_
            refine lv_imul hx hb dX9_keepsAll_234 ?_
            refine lv_iconst (v := 1) hx hb dX9_keepsAll_235 (by decide) ?_
            refine lv_iadd hx hb dX9_keepsAll_236 ?_
            refine lv_aload_n hx hb dX9_keepsAll_237 rfl (lv_at hl 0 rfl) ?_
            refine va_get (D := (dC, dI)) (ci := 9) (v := .long c_regret) (C := RX9) (T := TX9) (N := 45) hx hb hts (fun w h => gw_mem (inX9 w h)) hown hK.1 hP 0 rfl rfl 37 (by decide) (hts _ (gw_mem wfX9_422)) (fun _ h9 => h9) rfl dX9_keepsAll_238 ?_
            obtain ⟨h205, hf⟩ := og_some hf
            obtain ⟨w206, ew206⟩ : ∃ y : Nat → Int64, y = vp_updL w204 (Int32.toNatClampNeg ((2 * c_states) + 1)) c_regret := ⟨_, rfl⟩
            replace hf := nm_at hf ew206
            refine va_last hx hb hK.1 hP hD hS 14 1 rfl rfl (okI_in h205) dX9_keepsAll_241 (fun H locs hP hD hS => ?_)
            have hP : va_P (dC, dI) vwCl (mW dA ad c_tape c_taped c_tree_3 c_bonds_7 c_moves_11 c_handMoves_12 r16 c_days c_likely c_outOf c_rateNow c_pence c_top c_bottom c_spot c_textLong c_fault c_number c_numberAt c_figures c_written c_wanted c_found c_drawnNow c_worth c_hold c_way c_acts c_sDay c_sUps c_sUp c_sMarks c_paidAll 0 0 r20 c_handPaid c_regret c_aside c_other c_states c_kept_194 w206 c_keptAt_195 p1) H := by rw [ew206]; exact hP
            have hD : va_D A (mW dA ad c_tape c_taped c_tree_3 c_bonds_7 c_moves_11 c_handMoves_12 r16 c_days c_likely c_outOf c_rateNow c_pence c_top c_bottom c_spot c_textLong c_fault c_number c_numberAt c_figures c_written c_wanted c_found c_drawnNow c_worth c_hold c_way c_acts c_sDay c_sUps c_sUp c_sMarks c_paidAll 0 0 r20 c_handPaid c_regret c_aside c_other c_states c_kept_194 w206 c_keptAt_195 p1) := by rw [ew206]; exact hD
            refine lv_aload_n hx hb dX9_keepsAll_242 rfl (lv_at hl 0 rfl) ?_
            refine lv_aload_n hx hb dX9_keepsAll_243 rfl (lv_at hl 0 rfl) ?_
            refine va_get (D := (dC, dI)) (ci := 9) (v := .ref (ad 14)) (C := RX9) (T := TX9) (N := 45) hx hb hts (fun w h => gw_mem (inX9 w h)) hown hK.1 hP 0 rfl rfl 42 (by decide) (hts _ (gw_mem wfX9_51)) (fun _ h9 => h9) rfl dX9_keepsAll_244 ?_
            refine lv_iconst (v := 2) hx hb dX9_keepsAll_247 (by decide) ?_
            refine lv_aload_n hx hb dX9_keepsAll_248 rfl (lv_at hl 0 rfl) ?_
            refine va_get (D := (dC, dI)) (ci := 9) (v := .int c_states) (C := RX9) (T := TX9) (N := 45) hx hb hts (fun w h => gw_mem (inX9 w h)) hown hK.1 hP 0 rfl rfl 40 (by decide) (hts _ (gw_mem wfX9_446)) (fun _ h9 => h9) rfl dX9_keepsAll_249 ?_
            refine lv_imul hx hb dX9_keepsAll_252 ?_
            obtain ⟨h207, hf⟩ := og_some hf
            refine va_lald hx hb hK.1 hP 14 1 rfl rfl (okI_in h207) dX9_keepsAll_253 ?_
            refine lv_topl (fun w208 ew208 => ?_)
            replace hf := nm_at hf ew208
            refine va_put (D := (dC, dI)) (ci := 9) (v := .long w208) (ty := .long) (C := RX9) (T := TX9) (N := 45) hx hb hts (fun w h => gw_mem (inX9 w h)) tyX9 tyX9_ok nmX9 hown hK.1 hP hD hS 0 rfl rfl 36 (by decide) (hts _ (gw_mem wfX9_419)) (fun _ h9 => h9) rfl (by decide +kernel) rfl rfl (Nat.le_of_ble_eq_true rfl) dX9_keepsAll_254 (fun H locs hP hD hS => ?_)
            have hP : va_P (dC, dI) vwCl (mW dA ad c_tape c_taped c_tree_3 c_bonds_7 c_moves_11 c_handMoves_12 r16 c_days c_likely c_outOf c_rateNow c_pence c_top c_bottom c_spot c_textLong c_fault c_number c_numberAt c_figures c_written c_wanted c_found c_drawnNow c_worth c_hold c_way c_acts c_sDay c_sUps c_sUp c_sMarks c_paidAll 0 0 r20 w208 c_regret c_aside c_other c_states c_kept_194 w206 c_keptAt_195 p1) H := hP
            have hD : va_D A (mW dA ad c_tape c_taped c_tree_3 c_bonds_7 c_moves_11 c_handMoves_12 r16 c_days c_likely c_outOf c_rateNow c_pence c_top c_bottom c_spot c_textLong c_fault c_number c_numberAt c_figures c_written c_wanted c_found c_drawnNow c_worth c_hold c_way c_acts c_sDay c_sUps c_sUp c_sMarks c_paidAll 0 0 r20 w208 c_regret c_aside c_other c_states c_kept_194 w206 c_keptAt_195 p1) := hD
            refine lv_aload_n hx hb dX9_keepsAll_257 rfl (lv_at hl 0 rfl) ?_
            refine lv_aload_n hx hb dX9_keepsAll_258 rfl (lv_at hl 0 rfl) ?_
            refine va_get (D := (dC, dI)) (ci := 9) (v := .ref (ad 14)) (C := RX9) (T := TX9) (N := 45) hx hb hts (fun w h => gw_mem (inX9 w h)) hown hK.1 hP 0 rfl rfl 42 (by decide) (hts _ (gw_mem wfX9_51)) (fun _ h9 => h9) rfl dX9_keepsAll_259 ?_
            refine lv_iconst (v := 2) hx hb dX9_keepsAll_262 (by decide) ?_
            refine lv_aload_n hx hb dX9_keepsAll_263 rfl (lv_at hl 0 rfl) ?_
            refine va_get (D := (dC, dI)) (ci := 9) (v := .int c_states) (C := RX9) (T := TX9) (N := 45) hx hb hts (fun w h => gw_mem (inX9 w h)) hown hK.1 hP 0 rfl rfl 40 (by decide) (hts _ (gw_mem wfX9_446)) (fun _ h9 => h9) rfl dX9_keepsAll_264 ?_
            refine lv_imul hx hb dX9_keepsAll_267 ?_
            refine lv_iconst (v := 1) hx hb dX9_keepsAll_268 (by decide) ?_
            refine lv_iadd hx hb dX9_keepsAll_269 ?_
            obtain ⟨h209, hf⟩ := og_some hf
            refine va_lald hx hb hK.1 hP 14 1 rfl rfl (okI_in h209) dX9_keepsAll_270 ?_
            refine lv_topl (fun w210 ew210 => ?_)
            replace hf := nm_at hf ew210
            refine va_put (D := (dC, dI)) (ci := 9) (v := .long w210) (ty := .long) (C := RX9) (T := TX9) (N := 45) hx hb hts (fun w h => gw_mem (inX9 w h)) tyX9 tyX9_ok nmX9 hown hK.1 hP hD hS 0 rfl rfl 37 (by decide) (hts _ (gw_mem wfX9_422)) (fun _ h9 => h9) rfl (by decide +kernel) rfl rfl (Nat.le_of_ble_eq_true rfl) dX9_keepsAll_271 (fun H locs hP hD hS => ?_)
            have hP : va_P (dC, dI) vwCl (mW dA ad c_tape c_taped c_tree_3 c_bonds_7 c_moves_11 c_handMoves_12 r16 c_days c_likely c_outOf c_rateNow c_pence c_top c_bottom c_spot c_textLong c_fault c_number c_numberAt c_figures c_written c_wanted c_found c_drawnNow c_worth c_hold c_way c_acts c_sDay c_sUps c_sUp c_sMarks c_paidAll 0 0 r20 w208 w210 c_aside c_other c_states c_kept_194 w206 c_keptAt_195 p1) H := hP
            have hD : va_D A (mW dA ad c_tape c_taped c_tree_3 c_bonds_7 c_moves_11 c_handMoves_12 r16 c_days c_likely c_outOf c_rateNow c_pence c_top c_bottom c_spot c_textLong c_fault c_number c_numberAt c_figures c_written c_wanted c_found c_drawnNow c_worth c_hold c_way c_acts c_sDay c_sUps c_sUp c_sMarks c_paidAll 0 0 r20 w208 w210 c_aside c_other c_states c_kept_194 w206 c_keptAt_195 p1) := hD
            cases hf
            exact W.vret hx hb hr (fun t ht _ => gqv hP hD hS ht) hS.2.2 dX9_keepsAll_274
        · replace hf := ifp k197 hf
          refine lv_iconst (v := 1) hx hb dX9_keepsAll_198 (by decide) ?_
          refine lv_goto (tgt := 203) hx hb dX9_keepsAll_199 (by decide) ?_
          refine va_put (D := (dC, dI)) (ci := 9) (v := .int 1) (ty := .boolean) (C := RX9) (T := TX9) (N := 45) hx hb hts (fun w h => gw_mem (inX9 w h)) tyX9 tyX9_ok nmX9 hown hK.1 hP hD hS 0 rfl rfl 34 (by decide) (hts _ (gw_mem wfX9_416)) (fun _ h9 => h9) rfl (by decide +kernel) rfl rfl (Nat.le_of_ble_eq_true rfl) dX9_keepsAll_203 (fun H locs hP hD hS => ?_)
          have hP : va_P (dC, dI) vwCl (mW dA ad c_tape c_taped c_tree_3 c_bonds_7 c_moves_11 c_handMoves_12 r16 c_days c_likely c_outOf c_rateNow c_pence c_top c_bottom c_spot c_textLong c_fault c_number c_numberAt c_figures c_written c_wanted c_found c_drawnNow c_worth c_hold c_way c_acts c_sDay c_sUps c_sUp c_sMarks c_paidAll 0 1 r20 c_handPaid c_regret c_aside c_other c_states c_kept_194 c_keptLong c_keptAt_195 p1) H := hP
          have hD : va_D A (mW dA ad c_tape c_taped c_tree_3 c_bonds_7 c_moves_11 c_handMoves_12 r16 c_days c_likely c_outOf c_rateNow c_pence c_top c_bottom c_spot c_textLong c_fault c_number c_numberAt c_figures c_written c_wanted c_found c_drawnNow c_worth c_hold c_way c_acts c_sDay c_sUps c_sUp c_sMarks c_paidAll 0 1 r20 c_handPaid c_regret c_aside c_other c_states c_kept_194 c_keptLong c_keptAt_195 p1) := hD
          refine lv_iload_n hx hb dX9_keepsAll_206 rfl (lv_at hl 1 rfl) ?_
          refine lv_if_eq (tgt := 242) hx hb dX9_keepsAll_207 (by decide) (fun k211 => ?_) (fun k211 => ?_)
          · replace hf := ifp k211 hf
            refine lv_aload_n hx hb dX9_keepsAll_242 rfl (lv_at hl 0 rfl) ?_
            refine lv_aload_n hx hb dX9_keepsAll_243 rfl (lv_at hl 0 rfl) ?_
            refine va_get (D := (dC, dI)) (ci := 9) (v := .ref (ad 14)) (C := RX9) (T := TX9) (N := 45) hx hb hts (fun w h => gw_mem (inX9 w h)) hown hK.1 hP 0 rfl rfl 42 (by decide) (hts _ (gw_mem wfX9_51)) (fun _ h9 => h9) rfl dX9_keepsAll_244 ?_
            refine lv_iconst (v := 2) hx hb dX9_keepsAll_247 (by decide) ?_
            refine lv_aload_n hx hb dX9_keepsAll_248 rfl (lv_at hl 0 rfl) ?_
            refine va_get (D := (dC, dI)) (ci := 9) (v := .int c_states) (C := RX9) (T := TX9) (N := 45) hx hb hts (fun w h => gw_mem (inX9 w h)) hown hK.1 hP 0 rfl rfl 40 (by decide) (hts _ (gw_mem wfX9_446)) (fun _ h9 => h9) rfl dX9_keepsAll_249 ?_
            refine lv_imul hx hb dX9_keepsAll_252 ?_
            obtain ⟨h212, hf⟩ := og_some hf
            refine va_lald hx hb hK.1 hP 14 1 rfl rfl (okI_in h212) dX9_keepsAll_253 ?_
            refine lv_topl (fun w213 ew213 => ?_)
            replace hf := nm_at hf ew213
            refine va_put (D := (dC, dI)) (ci := 9) (v := .long w213) (ty := .long) (C := RX9) (T := TX9) (N := 45) hx hb hts (fun w h => gw_mem (inX9 w h)) tyX9 tyX9_ok nmX9 hown hK.1 hP hD hS 0 rfl rfl 36 (by decide) (hts _ (gw_mem wfX9_419)) (fun _ h9 => h9) rfl (by decide +kernel) rfl rfl (Nat.le_of_ble_eq_true rfl) dX9_keepsAll_254 (fun H locs hP hD hS => ?_)
            have hP : va_P (dC, dI) vwCl (mW dA ad c_tape c_taped c_tree_3 c_bonds_7 c_moves_11 c_handMoves_12 r16 c_days c_likely c_outOf c_rateNow c_pence c_top c_bottom c_spot c_textLong c_fault c_number c_numberAt c_figures c_written c_wanted c_found c_drawnNow c_worth c_hold c_way c_acts c_sDay c_sUps c_sUp c_sMarks c_paidAll 0 1 r20 w213 c_regret c_aside c_other c_states c_kept_194 c_keptLong c_keptAt_195 p1) H := hP
            have hD : va_D A (mW dA ad c_tape c_taped c_tree_3 c_bonds_7 c_moves_11 c_handMoves_12 r16 c_days c_likely c_outOf c_rateNow c_pence c_top c_bottom c_spot c_textLong c_fault c_number c_numberAt c_figures c_written c_wanted c_found c_drawnNow c_worth c_hold c_way c_acts c_sDay c_sUps c_sUp c_sMarks c_paidAll 0 1 r20 w213 c_regret c_aside c_other c_states c_kept_194 c_keptLong c_keptAt_195 p1) := hD
            refine lv_aload_n hx hb dX9_keepsAll_257 rfl (lv_at hl 0 rfl) ?_
            refine lv_aload_n hx hb dX9_keepsAll_258 rfl (lv_at hl 0 rfl) ?_
            refine va_get (D := (dC, dI)) (ci := 9) (v := .ref (ad 14)) (C := RX9) (T := TX9) (N := 45) hx hb hts (fun w h => gw_mem (inX9 w h)) hown hK.1 hP 0 rfl rfl 42 (by decide) (hts _ (gw_mem wfX9_51)) (fun _ h9 => h9) rfl dX9_keepsAll_259 ?_
            refine lv_iconst (v := 2) hx hb dX9_keepsAll_262 (by decide) ?_
            refine lv_aload_n hx hb dX9_keepsAll_263 rfl (lv_at hl 0 rfl) ?_
            refine va_get (D := (dC, dI)) (ci := 9) (v := .int c_states) (C := RX9) (T := TX9) (N := 45) hx hb hts (fun w h => gw_mem (inX9 w h)) hown hK.1 hP 0 rfl rfl 40 (by decide) (hts _ (gw_mem wfX9_446)) (fun _ h9 => h9) rfl dX9_keepsAll_264 ?_
            refine lv_imul hx hb dX9_keepsAll_267 ?_
            refine lv_iconst (v := 1) hx hb dX9_keepsAll_268 (by decide) ?_
            refine lv_iadd hx hb dX9_keepsAll_269 ?_
            obtain ⟨h214, hf⟩ := og_some hf
            refine va_lald hx hb hK.1 hP 14 1 rfl rfl (okI_in h214) dX9_keepsAll_270 ?_
            refine lv_topl (fun w215 ew215 => ?_)
            replace hf := nm_at hf ew215
            refine va_put (D := (dC, dI)) (ci := 9) (v := .long w215) (ty := .long) (C := RX9) (T := TX9) (N := 45) hx hb hts (fun w h => gw_mem (inX9 w h)) tyX9 tyX9_ok nmX9 hown hK.1 hP hD hS 0 rfl rfl 37 (by decide) (hts _ (gw_mem wfX9_422)) (fun _ h9 => h9) rfl (by decide +kernel) rfl rfl (Nat.le_of_ble_eq_true rfl) dX9_keepsAll_271 (fun H locs hP hD hS => ?_)
            have hP : va_P (dC, dI) vwCl (mW dA ad c_tape c_taped c_tree_3 c_bonds_7 c_moves_11 c_handMoves_12 r16 c_days c_likely c_outOf c_rateNow c_pence c_top c_bottom c_spot c_textLong c_fault c_number c_numberAt c_figures c_written c_wanted c_found c_drawnNow c_worth c_hold c_way c_acts c_sDay c_sUps c_sUp c_sMarks c_paidAll 0 1 r20 w213 w215 c_aside c_other c_states c_kept_194 c_keptLong c_keptAt_195 p1) H := hP
            have hD : va_D A (mW dA ad c_tape c_taped c_tree_3 c_bonds_7 c_moves_11 c_handMoves_12 r16 c_days c_likely c_outOf c_rateNow c_pence c_top c_bottom c_spot c_textLong c_fault c_number c_numberAt c_figures c_written c_wanted c_found c_drawnNow c_worth c_hold c_way c_acts c_sDay c_sUps c_sUp c_sMarks c_paidAll 0 1 r20 w213 w215 c_aside c_other c_states c_kept_194 c_keptLong c_keptAt_195 p1) := hD
            cases hf
            exact W.vret hx hb hr (fun t ht _ => gqv hP hD hS ht) hS.2.2 dX9_keepsAll_274
          · replace hf := ifn k211 hf
            refine lv_aload_n hx hb dX9_keepsAll_210 rfl (lv_at hl 0 rfl) ?_
            refine va_get (D := (dC, dI)) (ci := 9) (v := .ref (ad 14)) (C := RX9) (T := TX9) (N := 45) hx hb hts (fun w h => gw_mem (inX9 w h)) hown hK.1 hP 0 rfl rfl 42 (by decide) (hts _ (gw_mem wfX9_51)) (fun _ h9 => h9) rfl dX9_keepsAll_211 ?_
            refine lv_iconst (v := 2) hx hb dX9_keepsAll_214 (by decide) ?_
            refine lv_aload_n hx hb dX9_keepsAll_215 rfl (lv_at hl 0 rfl) ?_
            refine va_get (D := (dC, dI)) (ci := 9) (v := .int c_states) (C := RX9) (T := TX9) (N := 45) hx hb hts (fun w h => gw_mem (inX9 w h)) hown hK.1 hP 0 rfl rfl 40 (by decide) (hts _ (gw_mem wfX9_446)) (fun _ h9 => h9) rfl dX9_keepsAll_216 ?_
            refine lv_imul hx hb dX9_keepsAll_219 ?_
            refine lv_aload_n hx hb dX9_keepsAll_220 rfl (lv_at hl 0 rfl) ?_
            refine va_get (D := (dC, dI)) (ci := 9) (v := .long c_handPaid) (C := RX9) (T := TX9) (N := 45) hx hb hts (fun w h => gw_mem (inX9 w h)) hown hK.1 hP 0 rfl rfl 36 (by decide) (hts _ (gw_mem wfX9_419)) (fun _ h9 => h9) rfl dX9_keepsAll_221 ?_
            obtain ⟨h216, hf⟩ := og_some hf
            obtain ⟨w217, ew217⟩ : ∃ y : Nat → Int64, y = vp_updL c_keptLong (Int32.toNatClampNeg (2 * c_states)) c_handPaid := ⟨_, rfl⟩
            replace hf := nm_at hf ew217
            refine va_last hx hb hK.1 hP hD hS 14 1 rfl rfl (okI_in h216) dX9_keepsAll_224 (fun H locs hP hD hS => ?_)
            have hP : va_P (dC, dI) vwCl (mW dA ad c_tape c_taped c_tree_3 c_bonds_7 c_moves_11 c_handMoves_12 r16 c_days c_likely c_outOf c_rateNow c_pence c_top c_bottom c_spot c_textLong c_fault c_number c_numberAt c_figures c_written c_wanted c_found c_drawnNow c_worth c_hold c_way c_acts c_sDay c_sUps c_sUp c_sMarks c_paidAll 0 1 r20 c_handPaid c_regret c_aside c_other c_states c_kept_194 w217 c_keptAt_195 p1) H := by rw [ew217]; exact hP
            have hD : va_D A (mW dA ad c_tape c_taped c_tree_3 c_bonds_7 c_moves_11 c_handMoves_12 r16 c_days c_likely c_outOf c_rateNow c_pence c_top c_bottom c_spot c_textLong c_fault c_number c_numberAt c_figures c_written c_wanted c_found c_drawnNow c_worth c_hold c_way c_acts c_sDay c_sUps c_sUp c_sMarks c_paidAll 0 1 r20 c_handPaid c_regret c_aside c_other c_states c_kept_194 w217 c_keptAt_195 p1) := by rw [ew217]; exact hD
            refine lv_aload_n hx hb dX9_keepsAll_225 rfl (lv_at hl 0 rfl) ?_
            refine va_get (D := (dC, dI)) (ci := 9) (v := .ref (ad 14)) (C := RX9) (T := TX9) (N := 45) hx hb hts (fun w h => gw_mem (inX9 w h)) hown hK.1 hP 0 rfl rfl 42 (by decide) (hts _ (gw_mem wfX9_51)) (fun _ h9 => h9) rfl dX9_keepsAll_226 ?_
            refine lv_iconst (v := 2) hx hb dX9_keepsAll_229 (by decide) ?_
            refine lv_aload_n hx hb dX9_keepsAll_230 rfl (lv_at hl 0 rfl) ?_
            refine va_get (D := (dC, dI)) (ci := 9) (v := .int c_states) (C := RX9) (T := TX9) (N := 45) hx hb hts (fun w h => gw_mem (inX9 w h)) hown hK.1 hP 0 rfl rfl 40 (by decide) (hts _ (gw_mem wfX9_446)) (fun _ h9 => h9) rfl dX9_keepsAll_231 ?_
            refine lv_imul hx hb dX9_keepsAll_234 ?_
            refine lv_iconst (v := 1) hx hb dX9_keepsAll_235 (by decide) ?_
            refine lv_iadd hx hb dX9_keepsAll_236 ?_
            refine lv_aload_n hx hb dX9_keepsAll_237 rfl (lv_at hl 0 rfl) ?_
            refine va_get (D := (dC, dI)) (ci := 9) (v := .long c_regret) (C := RX9) (T := TX9) (N := 45) hx hb hts (fun w h => gw_mem (inX9 w h)) hown hK.1 hP 0 rfl rfl 37 (by decide) (hts _ (gw_mem wfX9_422)) (fun _ h9 => h9) rfl dX9_keepsAll_238 ?_
            obtain ⟨h218, hf⟩ := og_some hf
            obtain ⟨w219, ew219⟩ : ∃ y : Nat → Int64, y = vp_updL w217 (Int32.toNatClampNeg ((2 * c_states) + 1)) c_regret := ⟨_, rfl⟩
            replace hf := nm_at hf ew219
            refine va_last hx hb hK.1 hP hD hS 14 1 rfl rfl (okI_in h218) dX9_keepsAll_241 (fun H locs hP hD hS => ?_)
            have hP : va_P (dC, dI) vwCl (mW dA ad c_tape c_taped c_tree_3 c_bonds_7 c_moves_11 c_handMoves_12 r16 c_days c_likely c_outOf c_rateNow c_pence c_top c_bottom c_spot c_textLong c_fault c_number c_numberAt c_figures c_written c_wanted c_found c_drawnNow c_worth c_hold c_way c_acts c_sDay c_sUps c_sUp c_sMarks c_paidAll 0 1 r20 c_handPaid c_regret c_aside c_other c_states c_kept_194 w219 c_keptAt_195 p1) H := by rw [ew219]; exact hP
            have hD : va_D A (mW dA ad c_tape c_taped c_tree_3 c_bonds_7 c_moves_11 c_handMoves_12 r16 c_days c_likely c_outOf c_rateNow c_pence c_top c_bottom c_spot c_textLong c_fault c_number c_numberAt c_figures c_written c_wanted c_found c_drawnNow c_worth c_hold c_way c_acts c_sDay c_sUps c_sUp c_sMarks c_paidAll 0 1 r20 c_handPaid c_regret c_aside c_other c_states c_kept_194 w219 c_keptAt_195 p1) := by rw [ew219]; exact hD
            refine lv_aload_n hx hb dX9_keepsAll_242 rfl (lv_at hl 0 rfl) ?_
            refine lv_aload_n hx hb dX9_keepsAll_243 rfl (lv_at hl 0 rfl) ?_
            refine va_get (D := (dC, dI)) (ci := 9) (v := .ref (ad 14)) (C := RX9) (T := TX9) (N := 45) hx hb hts (fun w h => gw_mem (inX9 w h)) hown hK.1 hP 0 rfl rfl 42 (by decide) (hts _ (gw_mem wfX9_51)) (fun _ h9 => h9) rfl dX9_keepsAll_244 ?_
            refine lv_iconst (v := 2) hx hb dX9_keepsAll_247 (by decide) ?_
            refine lv_aload_n hx hb dX9_keepsAll_248 rfl (lv_at hl 0 rfl) ?_
            refine va_get (D := (dC, dI)) (ci := 9) (v := .int c_states) (C := RX9) (T := TX9) (N := 45) hx hb hts (fun w h => gw_mem (inX9 w h)) hown hK.1 hP 0 rfl rfl 40 (by decide) (hts _ (gw_mem wfX9_446)) (fun _ h9 => h9) rfl dX9_keepsAll_249 ?_
            refine lv_imul hx hb dX9_keepsAll_252 ?_
            obtain ⟨h220, hf⟩ := og_some hf
            refine va_lald hx hb hK.1 hP 14 1 rfl rfl (okI_in h220) dX9_keepsAll_253 ?_
            refine lv_topl (fun w221 ew221 => ?_)
            replace hf := nm_at hf ew221
            refine va_put (D := (dC, dI)) (ci := 9) (v := .long w221) (ty := .long) (C := RX9) (T := TX9) (N := 45) hx hb hts (fun w h => gw_mem (inX9 w h)) tyX9 tyX9_ok nmX9 hown hK.1 hP hD hS 0 rfl rfl 36 (by decide) (hts _ (gw_mem wfX9_419)) (fun _ h9 => h9) rfl (by decide +kernel) rfl rfl (Nat.le_of_ble_eq_true rfl) dX9_keepsAll_254 (fun H locs hP hD hS => ?_)
            have hP : va_P (dC, dI) vwCl (mW dA ad c_tape c_taped c_tree_3 c_bonds_7 c_moves_11 c_handMoves_12 r16 c_days c_likely c_outOf c_rateNow c_pence c_top c_bottom c_spot c_textLong c_fault c_number c_numberAt c_figures c_written c_wanted c_found c_drawnNow c_worth c_hold c_way c_acts c_sDay c_sUps c_sUp c_sMarks c_paidAll 0 1 r20 w221 c_regret c_aside c_other c_states c_kept_194 w219 c_keptAt_195 p1) H := hP
            have hD : va_D A (mW dA ad c_tape c_taped c_tree_3 c_bonds_7 c_moves_11 c_handMoves_12 r16 c_days c_likely c_outOf c_rateNow c_pence c_top c_bottom c_spot c_textLong c_fault c_number c_numberAt c_figures c_written c_wanted c_found c_drawnNow c_worth c_hold c_way c_acts c_sDay c_sUps c_sUp c_sMarks c_paidAll 0 1 r20 w221 c_regret c_aside c_other c_states c_kept_194 w219 c_keptAt_195 p1) := hD
            refine lv_aload_n hx hb dX9_keepsAll_257 rfl (lv_at hl 0 rfl) ?_
            refine lv_aload_n hx hb dX9_keepsAll_258 rfl (lv_at hl 0 rfl) ?_
            refine va_get (D := (dC, dI)) (ci := 9) (v := .ref (ad 14)) (C := RX9) (T := TX9) (N := 45) hx hb hts (fun w h => gw_mem (inX9 w h)) hown hK.1 hP 0 rfl rfl 42 (by decide) (hts _ (gw_mem wfX9_51)) (fun _ h9 => h9) rfl dX9_keepsAll_259 ?_
            refine lv_iconst (v := 2) hx hb dX9_keepsAll_262 (by decide) ?_
            refine lv_aload_n hx hb dX9_keepsAll_263 rfl (lv_at hl 0 rfl) ?_
            refine va_get (D := (dC, dI)) (ci := 9) (v := .int c_states) (C := RX9) (T := TX9) (N := 45) hx hb hts (fun w h => gw_mem (inX9 w h)) hown hK.1 hP 0 rfl rfl 40 (by decide) (hts _ (gw_mem wfX9_446)) (fun _ h9 => h9) rfl dX9_keepsAll_264 ?_
            refine lv_imul hx hb dX9_keepsAll_267 ?_
            refine lv_iconst (v := 1) hx hb dX9_keepsAll_268 (by decide) ?_
            refine lv_iadd hx hb dX9_keepsAll_269 ?_
            obtain ⟨h222, hf⟩ := og_some hf
            refine va_lald hx hb hK.1 hP 14 1 rfl rfl (okI_in h222) dX9_keepsAll_270 ?_
            refine lv_topl (fun w223 ew223 => ?_)
            replace hf := nm_at hf ew223
            refine va_put (D := (dC, dI)) (ci := 9) (v := .long w223) (ty := .long) (C := RX9) (T := TX9) (N := 45) hx hb hts (fun w h => gw_mem (inX9 w h)) tyX9 tyX9_ok nmX9 hown hK.1 hP hD hS 0 rfl rfl 37 (by decide) (hts _ (gw_mem wfX9_422)) (fun _ h9 => h9) rfl (by decide +kernel) rfl rfl (Nat.le_of_ble_eq_true rfl) dX9_keepsAll_271 (fun H locs hP hD hS => ?_)
            have hP : va_P (dC, dI) vwCl (mW dA ad c_tape c_taped c_tree_3 c_bonds_7 c_moves_11 c_handMoves_12 r16 c_days c_likely c_outOf c_rateNow c_pence c_top c_bottom c_spot c_textLong c_fault c_number c_numberAt c_figures c_written c_wanted c_found c_drawnNow c_worth c_hold c_way c_acts c_sDay c_sUps c_sUp c_sMarks c_paidAll 0 1 r20 w221 w223 c_aside c_other c_states c_kept_194 w219 c_keptAt_195 p1) H := hP
            have hD : va_D A (mW dA ad c_tape c_taped c_tree_3 c_bonds_7 c_moves_11 c_handMoves_12 r16 c_days c_likely c_outOf c_rateNow c_pence c_top c_bottom c_spot c_textLong c_fault c_number c_numberAt c_figures c_written c_wanted c_found c_drawnNow c_worth c_hold c_way c_acts c_sDay c_sUps c_sUp c_sMarks c_paidAll 0 1 r20 w221 w223 c_aside c_other c_states c_kept_194 w219 c_keptAt_195 p1) := hD
            cases hf
            exact W.vret hx hb hr (fun t ht _ => gqv hP hD hS ht) hS.2.2 dX9_keepsAll_274
    · replace hf := ifp k160 hf
      refine lv_iconst (v := 1) hx hb dX9_keepsAll_169 (by decide) ?_
      refine lv_goto (tgt := 174) hx hb dX9_keepsAll_170 (by decide) ?_
      refine va_put (D := (dC, dI)) (ci := 9) (v := .int 1) (ty := .boolean) (C := RX9) (T := TX9) (N := 45) hx hb hts (fun w h => gw_mem (inX9 w h)) tyX9 tyX9_ok nmX9 hown hK.1 hP hD hS 0 rfl rfl 33 (by decide) (hts _ (gw_mem wfX9_412)) (fun _ h9 => h9) rfl (by decide +kernel) rfl rfl (Nat.le_of_ble_eq_true rfl) dX9_keepsAll_174 (fun H locs hP hD hS => ?_)
      have hP : va_P (dC, dI) vwCl (mW dA ad c_tape c_taped c_tree_3 c_bonds_7 c_moves_11 c_handMoves_12 r16 c_days c_likely c_outOf c_rateNow c_pence c_top c_bottom c_spot c_textLong c_fault c_number c_numberAt c_figures c_written c_wanted c_found c_drawnNow c_worth c_hold c_way c_acts c_sDay c_sUps c_sUp c_sMarks c_paidAll 1 c_isOn r20 c_handPaid c_regret c_aside c_other c_states c_kept_157 c_keptLong c_keptAt_158 p1) H := hP
      have hD : va_D A (mW dA ad c_tape c_taped c_tree_3 c_bonds_7 c_moves_11 c_handMoves_12 r16 c_days c_likely c_outOf c_rateNow c_pence c_top c_bottom c_spot c_textLong c_fault c_number c_numberAt c_figures c_written c_wanted c_found c_drawnNow c_worth c_hold c_way c_acts c_sDay c_sUps c_sUp c_sMarks c_paidAll 1 c_isOn r20 c_handPaid c_regret c_aside c_other c_states c_kept_157 c_keptLong c_keptAt_158 p1) := hD
      refine lv_aload_n hx hb dX9_keepsAll_177 rfl (lv_at hl 0 rfl) ?_
      refine lv_aload_n hx hb dX9_keepsAll_178 rfl (lv_at hl 0 rfl) ?_
      refine lv_aload_n hx hb dX9_keepsAll_179 rfl (lv_at hl 0 rfl) ?_
      refine va_get (D := (dC, dI)) (ci := 9) (v := .int c_isOn) (C := RX9) (T := TX9) (N := 45) hx hb hts (fun w h => gw_mem (inX9 w h)) hown hK.1 hP 0 rfl rfl 34 (by decide) (hts _ (gw_mem wfX9_416)) (fun _ h9 => h9) rfl dX9_keepsAll_180 ?_
      refine lv_if_eq (tgt := 190) hx hb dX9_keepsAll_183 (by decide) (fun k224 => ?_) (fun k224 => ?_)
      · replace hf := ifp k224 hf
        refine lv_iconst (v := 0) hx hb dX9_keepsAll_190 (by decide) ?_
        obtain ⟨r225, c_kept_226, c_keptAt_227, v228, hf⟩ := bd3_some hf
        refine gci (va_runV (As := [.int 0]) (rest := [.ref (ad 0)]) ⟨hx, hb, hml, hown, hts⟩ (tX9_keeps l dC dI dA ad H.size v228) (ccX9_X9_keeps hts ⟨Nat.le_of_ble_eq_true rfl, Nat.le_of_ble_eq_true rfl⟩) (gPreV (ci := 9) (q0 := 0) hP hK hD rfl rfl) rfl rfl hl.1 rfl (lv_room (Nat.le_of_ble_eq_true rfl)) dX9_keepsAll_191 ⟨Nat.le_of_ble_eq_true rfl, Nat.le_of_ble_eq_true rfl⟩) hD hS hA (fun H locs hP hD hS => ?_)
        refine lv_iconst (v := 1) hx hb dX9_keepsAll_194 (by decide) ?_
        refine lv_icmp_ne (tgt := 202) hx hb dX9_keepsAll_195 (by decide) (fun k229 => ?_) (fun k229 => ?_)
        · replace hf := ifn k229 hf
          refine lv_iconst (v := 0) hx hb dX9_keepsAll_202 (by decide) ?_
          refine va_put (D := (dC, dI)) (ci := 9) (v := .int 0) (ty := .boolean) (C := RX9) (T := TX9) (N := 45) hx hb hts (fun w h => gw_mem (inX9 w h)) tyX9 tyX9_ok nmX9 hown hK.1 hP hD hS 0 rfl rfl 34 (by decide) (hts _ (gw_mem wfX9_416)) (fun _ h9 => h9) rfl (by decide +kernel) rfl rfl (Nat.le_of_ble_eq_true rfl) dX9_keepsAll_203 (fun H locs hP hD hS => ?_)
          have hP : va_P (dC, dI) vwCl (mW dA ad c_tape c_taped c_tree_3 c_bonds_7 c_moves_11 c_handMoves_12 r16 c_days c_likely c_outOf c_rateNow c_pence c_top c_bottom c_spot c_textLong c_fault c_number c_numberAt c_figures c_written c_wanted c_found c_drawnNow c_worth c_hold c_way c_acts c_sDay c_sUps c_sUp c_sMarks c_paidAll 1 0 r20 c_handPaid c_regret c_aside c_other c_states c_kept_226 c_keptLong c_keptAt_227 p1) H := hP
          have hD : va_D A (mW dA ad c_tape c_taped c_tree_3 c_bonds_7 c_moves_11 c_handMoves_12 r16 c_days c_likely c_outOf c_rateNow c_pence c_top c_bottom c_spot c_textLong c_fault c_number c_numberAt c_figures c_written c_wanted c_found c_drawnNow c_worth c_hold c_way c_acts c_sDay c_sUps c_sUp c_sMarks c_paidAll 1 0 r20 c_handPaid c_regret c_aside c_other c_states c_kept_226 c_keptLong c_keptAt_227 p1) := hD
          refine lv_iload_n hx hb dX9_keepsAll_206 rfl (lv_at hl 1 rfl) ?_
          refine lv_if_eq (tgt := 242) hx hb dX9_keepsAll_207 (by decide) (fun k230 => ?_) (fun k230 => ?_)
          · replace hf := ifp k230 hf
            refine lv_aload_n hx hb dX9_keepsAll_242 rfl (lv_at hl 0 rfl) ?_
            refine lv_aload_n hx hb dX9_keepsAll_243 rfl (lv_at hl 0 rfl) ?_
            refine va_get (D := (dC, dI)) (ci := 9) (v := .ref (ad 14)) (C := RX9) (T := TX9) (N := 45) hx hb hts (fun w h => gw_mem (inX9 w h)) hown hK.1 hP 0 rfl rfl 42 (by decide) (hts _ (gw_mem wfX9_51)) (fun _ h9 => h9) rfl dX9_keepsAll_244 ?_
            refine lv_iconst (v := 2) hx hb dX9_keepsAll_247 (by decide) ?_
            refine lv_aload_n hx hb dX9_keepsAll_248 rfl (lv_at hl 0 rfl) ?_
            refine va_get (D := (dC, dI)) (ci := 9) (v := .int c_states) (C := RX9) (T := TX9) (N := 45) hx hb hts (fun w h => gw_mem (inX9 w h)) hown hK.1 hP 0 rfl rfl 40 (by decide) (hts _ (gw_mem wfX9_446)) (fun _ h9 => h9) rfl dX9_keepsAll_249 ?_
            refine lv_imul hx hb dX9_keepsAll_252 ?_
            obtain ⟨h231, hf⟩ := og_some hf
            refine va_lald hx hb hK.1 hP 14 1 rfl rfl (okI_in h231) dX9_keepsAll_253 ?_
            refine lv_topl (fun w232 ew232 => ?_)
            replace hf := nm_at hf ew232
            refine va_put (D := (dC, dI)) (ci := 9) (v := .long w232) (ty := .long) (C := RX9) (T := TX9) (N := 45) hx hb hts (fun w h => gw_mem (inX9 w h)) tyX9 tyX9_ok nmX9 hown hK.1 hP hD hS 0 rfl rfl 36 (by decide) (hts _ (gw_mem wfX9_419)) (fun _ h9 => h9) rfl (by decide +kernel) rfl rfl (Nat.le_of_ble_eq_true rfl) dX9_keepsAll_254 (fun H locs hP hD hS => ?_)
            have hP : va_P (dC, dI) vwCl (mW dA ad c_tape c_taped c_tree_3 c_bonds_7 c_moves_11 c_handMoves_12 r16 c_days c_likely c_outOf c_rateNow c_pence c_top c_bottom c_spot c_textLong c_fault c_number c_numberAt c_figures c_written c_wanted c_found c_drawnNow c_worth c_hold c_way c_acts c_sDay c_sUps c_sUp c_sMarks c_paidAll 1 0 r20 w232 c_regret c_aside c_other c_states c_kept_226 c_keptLong c_keptAt_227 p1) H := hP
            have hD : va_D A (mW dA ad c_tape c_taped c_tree_3 c_bonds_7 c_moves_11 c_handMoves_12 r16 c_days c_likely c_outOf c_rateNow c_pence c_top c_bottom c_spot c_textLong c_fault c_number c_numberAt c_figures c_written c_wanted c_found c_drawnNow c_worth c_hold c_way c_acts c_sDay c_sUps c_sUp c_sMarks c_paidAll 1 0 r20 w232 c_regret c_aside c_other c_states c_kept_226 c_keptLong c_keptAt_227 p1) := hD
            refine lv_aload_n hx hb dX9_keepsAll_257 rfl (lv_at hl 0 rfl) ?_
            refine lv_aload_n hx hb dX9_keepsAll_258 rfl (lv_at hl 0 rfl) ?_
            refine va_get (D := (dC, dI)) (ci := 9) (v := .ref (ad 14)) (C := RX9) (T := TX9) (N := 45) hx hb hts (fun w h => gw_mem (inX9 w h)) hown hK.1 hP 0 rfl rfl 42 (by decide) (hts _ (gw_mem wfX9_51)) (fun _ h9 => h9) rfl dX9_keepsAll_259 ?_
            refine lv_iconst (v := 2) hx hb dX9_keepsAll_262 (by decide) ?_
            refine lv_aload_n hx hb dX9_keepsAll_263 rfl (lv_at hl 0 rfl) ?_
            refine va_get (D := (dC, dI)) (ci := 9) (v := .int c_states) (C := RX9) (T := TX9) (N := 45) hx hb hts (fun w h => gw_mem (inX9 w h)) hown hK.1 hP 0 rfl rfl 40 (by decide) (hts _ (gw_mem wfX9_446)) (fun _ h9 => h9) rfl dX9_keepsAll_264 ?_
            refine lv_imul hx hb dX9_keepsAll_267 ?_
            refine lv_iconst (v := 1) hx hb dX9_keepsAll_268 (by decide) ?_
            refine lv_iadd hx hb dX9_keepsAll_269 ?_
            obtain ⟨h233, hf⟩ := og_some hf
            refine va_lald hx hb hK.1 hP 14 1 rfl rfl (okI_in h233) dX9_keepsAll_270 ?_
            refine lv_topl (fun w234 ew234 => ?_)
            replace hf := nm_at hf ew234
            refine va_put (D := (dC, dI)) (ci := 9) (v := .long w234) (ty := .long) (C := RX9) (T := TX9) (N := 45) hx hb hts (fun w h => gw_mem (inX9 w h)) tyX9 tyX9_ok nmX9 hown hK.1 hP hD hS 0 rfl rfl 37 (by decide) (hts _ (gw_mem wfX9_422)) (fun _ h9 => h9) rfl (by decide +kernel) rfl rfl (Nat.le_of_ble_eq_true rfl) dX9_keepsAll_271 (fun H locs hP hD hS => ?_)
            have hP : va_P (dC, dI) vwCl (mW dA ad c_tape c_taped c_tree_3 c_bonds_7 c_moves_11 c_handMoves_12 r16 c_days c_likely c_outOf c_rateNow c_pence c_top c_bottom c_spot c_textLong c_fault c_number c_numberAt c_figures c_written c_wanted c_found c_drawnNow c_worth c_hold c_way c_acts c_sDay c_sUps c_sUp c_sMarks c_paidAll 1 0 r20 w232 w234 c_aside c_other c_states c_kept_226 c_keptLong c_keptAt_227 p1) H := hP
            have hD : va_D A (mW dA ad c_tape c_taped c_tree_3 c_bonds_7 c_moves_11 c_handMoves_12 r16 c_days c_likely c_outOf c_rateNow c_pence c_top c_bottom c_spot c_textLong c_fault c_number c_numberAt c_figures c_written c_wanted c_found c_drawnNow c_worth c_hold c_way c_acts c_sDay c_sUps c_sUp c_sMarks c_paidAll 1 0 r20 w232 w234 c_aside c_other c_states c_kept_226 c_keptLong c_keptAt_227 p1) := hD
            cases hf
            exact W.vret hx hb hr (fun t ht _ => gqv hP hD hS ht) hS.2.2 dX9_keepsAll_274
          · replace hf := ifn k230 hf
            refine lv_aload_n hx hb dX9_keepsAll_210 rfl (lv_at hl 0 rfl) ?_
            refine va_get (D := (dC, dI)) (ci := 9) (v := .ref (ad 14)) (C := RX9) (T := TX9) (N := 45) hx hb hts (fun w h => gw_mem (inX9 w h)) hown hK.1 hP 0 rfl rfl 42 (by decide) (hts _ (gw_mem wfX9_51)) (fun _ h9 => h9) rfl dX9_keepsAll_211 ?_
            refine lv_iconst (v := 2) hx hb dX9_keepsAll_214 (by decide) ?_
            refine lv_aload_n hx hb dX9_keepsAll_215 rfl (lv_at hl 0 rfl) ?_
            refine va_get (D := (dC, dI)) (ci := 9) (v := .int c_states) (C := RX9) (T := TX9) (N := 45) hx hb hts (fun w h => gw_mem (inX9 w h)) hown hK.1 hP 0 rfl rfl 40 (by decide) (hts _ (gw_mem wfX9_446)) (fun _ h9 => h9) rfl dX9_keepsAll_216 ?_
            refine lv_imul hx hb dX9_keepsAll_219 ?_
            refine lv_aload_n hx hb dX9_keepsAll_220 rfl (lv_at hl 0 rfl) ?_
            refine va_get (D := (dC, dI)) (ci := 9) (v := .long c_handPaid) (C := RX9) (T := TX9) (N := 45) hx hb hts (fun w h => gw_mem (inX9 w h)) hown hK.1 hP 0 rfl rfl 36 (by decide) (hts _ (gw_mem wfX9_419)) (fun _ h9 => h9) rfl dX9_keepsAll_221 ?_
            obtain ⟨h235, hf⟩ := og_some hf
            obtain ⟨w236, ew236⟩ : ∃ y : Nat → Int64, y = vp_updL c_keptLong (Int32.toNatClampNeg (2 * c_states)) c_handPaid := ⟨_, rfl⟩
            replace hf := nm_at hf ew236
            refine va_last hx hb hK.1 hP hD hS 14 1 rfl rfl (okI_in h235) dX9_keepsAll_224 (fun H locs hP hD hS => ?_)
            have hP : va_P (dC, dI) vwCl (mW dA ad c_tape c_taped c_tree_3 c_bonds_7 c_moves_11 c_handMoves_12 r16 c_days c_likely c_outOf c_rateNow c_pence c_top c_bottom c_spot c_textLong c_fault c_number c_numberAt c_figures c_written c_wanted c_found c_drawnNow c_worth c_hold c_way c_acts c_sDay c_sUps c_sUp c_sMarks c_paidAll 1 0 r20 c_handPaid c_regret c_aside c_other c_states c_kept_226 w236 c_keptAt_227 p1) H := by rw [ew236]; exact hP
            have hD : va_D A (mW dA ad c_tape c_taped c_tree_3 c_bonds_7 c_moves_11 c_handMoves_12 r16 c_days c_likely c_outOf c_rateNow c_pence c_top c_bottom c_spot c_textLong c_fault c_number c_numberAt c_figures c_written c_wanted c_found c_drawnNow c_worth c_hold c_way c_acts c_sDay c_sUps c_sUp c_sMarks c_paidAll 1 0 r20 c_handPaid c_regret c_aside c_other c_states c_kept_226 w236 c_keptAt_227 p1) := by rw [ew236]; exact hD
            refine lv_aload_n hx hb dX9_keepsAll_225 rfl (lv_at hl 0 rfl) ?_
            refine va_get (D := (dC, dI)) (ci := 9) (v := .ref (ad 14)) (C := RX9) (T := TX9) (N := 45) hx hb hts (fun w h => gw_mem (inX9 w h)) hown hK.1 hP 0 rfl rfl 42 (by decide) (hts _ (gw_mem wfX9_51)) (fun _ h9 => h9) rfl dX9_keepsAll_226 ?_
            refine lv_iconst (v := 2) hx hb dX9_keepsAll_229 (by decide) ?_
            refine lv_aload_n hx hb dX9_keepsAll_230 rfl (lv_at hl 0 rfl) ?_
            refine va_get (D := (dC, dI)) (ci := 9) (v := .int c_states) (C := RX9) (T := TX9) (N := 45) hx hb hts (fun w h => gw_mem (inX9 w h)) hown hK.1 hP 0 rfl rfl 40 (by decide) (hts _ (gw_mem wfX9_446)) (fun _ h9 => h9) rfl dX9_keepsAll_231 ?_
            refine lv_imul hx hb dX9_keepsAll_234 ?_
            refine lv_iconst (v := 1) hx hb dX9_keepsAll_235 (by decide) ?_
            refine lv_iadd hx hb dX9_keepsAll_236 ?_
            refine lv_aload_n hx hb dX9_keepsAll_237 rfl (lv_at hl 0 rfl) ?_
            refine va_get (D := (dC, dI)) (ci := 9) (v := .long c_regret) (C := RX9) (T := TX9) (N := 45) hx hb hts (fun w h => gw_mem (inX9 w h)) hown hK.1 hP 0 rfl rfl 37 (by decide) (hts _ (gw_mem wfX9_422)) (fun _ h9 => h9) rfl dX9_keepsAll_238 ?_
            obtain ⟨h237, hf⟩ := og_some hf
            obtain ⟨w238, ew238⟩ : ∃ y : Nat → Int64, y = vp_updL w236 (Int32.toNatClampNeg ((2 * c_states) + 1)) c_regret := ⟨_, rfl⟩
            replace hf := nm_at hf ew238
            refine va_last hx hb hK.1 hP hD hS 14 1 rfl rfl (okI_in h237) dX9_keepsAll_241 (fun H locs hP hD hS => ?_)
            have hP : va_P (dC, dI) vwCl (mW dA ad c_tape c_taped c_tree_3 c_bonds_7 c_moves_11 c_handMoves_12 r16 c_days c_likely c_outOf c_rateNow c_pence c_top c_bottom c_spot c_textLong c_fault c_number c_numberAt c_figures c_written c_wanted c_found c_drawnNow c_worth c_hold c_way c_acts c_sDay c_sUps c_sUp c_sMarks c_paidAll 1 0 r20 c_handPaid c_regret c_aside c_other c_states c_kept_226 w238 c_keptAt_227 p1) H := by rw [ew238]; exact hP
            have hD : va_D A (mW dA ad c_tape c_taped c_tree_3 c_bonds_7 c_moves_11 c_handMoves_12 r16 c_days c_likely c_outOf c_rateNow c_pence c_top c_bottom c_spot c_textLong c_fault c_number c_numberAt c_figures c_written c_wanted c_found c_drawnNow c_worth c_hold c_way c_acts c_sDay c_sUps c_sUp c_sMarks c_paidAll 1 0 r20 c_handPaid c_regret c_aside c_other c_states c_kept_226 w238 c_keptAt_227 p1) := by rw [ew238]; exact hD
            refine lv_aload_n hx hb dX9_keepsAll_242 rfl (lv_at hl 0 rfl) ?_
            refine lv_aload_n hx hb dX9_keepsAll_243 rfl (lv_at hl 0 rfl) ?_
            refine va_get (D := (dC, dI)) (ci := 9) (v := .ref (ad 14)) (C := RX9) (T := TX9) (N := 45) hx hb hts (fun w h => gw_mem (inX9 w h)) hown hK.1 hP 0 rfl rfl 42 (by decide) (hts _ (gw_mem wfX9_51)) (fun _ h9 => h9) rfl dX9_keepsAll_244 ?_
            refine lv_iconst (v := 2) hx hb dX9_keepsAll_247 (by decide) ?_
            refine lv_aload_n hx hb dX9_keepsAll_248 rfl (lv_at hl 0 rfl) ?_
            refine va_get (D := (dC, dI)) (ci := 9) (v := .int c_states) (C := RX9) (T := TX9) (N := 45) hx hb hts (fun w h => gw_mem (inX9 w h)) hown hK.1 hP 0 rfl rfl 40 (by decide) (hts _ (gw_mem wfX9_446)) (fun _ h9 => h9) rfl dX9_keepsAll_249 ?_
            refine lv_imul hx hb dX9_keepsAll_252 ?_
            obtain ⟨h239, hf⟩ := og_some hf
            refine va_lald hx hb hK.1 hP 14 1 rfl rfl (okI_in h239) dX9_keepsAll_253 ?_
            refine lv_topl (fun w240 ew240 => ?_)
            replace hf := nm_at hf ew240
            refine va_put (D := (dC, dI)) (ci := 9) (v := .long w240) (ty := .long) (C := RX9) (T := TX9) (N := 45) hx hb hts (fun w h => gw_mem (inX9 w h)) tyX9 tyX9_ok nmX9 hown hK.1 hP hD hS 0 rfl rfl 36 (by decide) (hts _ (gw_mem wfX9_419)) (fun _ h9 => h9) rfl (by decide +kernel) rfl rfl (Nat.le_of_ble_eq_true rfl) dX9_keepsAll_254 (fun H locs hP hD hS => ?_)
            have hP : va_P (dC, dI) vwCl (mW dA ad c_tape c_taped c_tree_3 c_bonds_7 c_moves_11 c_handMoves_12 r16 c_days c_likely c_outOf c_rateNow c_pence c_top c_bottom c_spot c_textLong c_fault c_number c_numberAt c_figures c_written c_wanted c_found c_drawnNow c_worth c_hold c_way c_acts c_sDay c_sUps c_sUp c_sMarks c_paidAll 1 0 r20 w240 c_regret c_aside c_other c_states c_kept_226 w238 c_keptAt_227 p1) H := hP
            have hD : va_D A (mW dA ad c_tape c_taped c_tree_3 c_bonds_7 c_moves_11 c_handMoves_12 r16 c_days c_likely c_outOf c_rateNow c_pence c_top c_bottom c_spot c_textLong c_fault c_number c_numberAt c_figures c_written c_wanted c_found c_drawnNow c_worth c_hold c_way c_acts c_sDay c_sUps c_sUp c_sMarks c_paidAll 1 0 r20 w240 c_regret c_aside c_other c_states c_kept_226 w238 c_keptAt_227 p1) := hD
            refine lv_aload_n hx hb dX9_keepsAll_257 rfl (lv_at hl 0 rfl) ?_
            refine lv_aload_n hx hb dX9_keepsAll_258 rfl (lv_at hl 0 rfl) ?_
            refine va_get (D := (dC, dI)) (ci := 9) (v := .ref (ad 14)) (C := RX9) (T := TX9) (N := 45) hx hb hts (fun w h => gw_mem (inX9 w h)) hown hK.1 hP 0 rfl rfl 42 (by decide) (hts _ (gw_mem wfX9_51)) (fun _ h9 => h9) rfl dX9_keepsAll_259 ?_
            refine lv_iconst (v := 2) hx hb dX9_keepsAll_262 (by decide) ?_
            refine lv_aload_n hx hb dX9_keepsAll_263 rfl (lv_at hl 0 rfl) ?_
            refine va_get (D := (dC, dI)) (ci := 9) (v := .int c_states) (C := RX9) (T := TX9) (N := 45) hx hb hts (fun w h => gw_mem (inX9 w h)) hown hK.1 hP 0 rfl rfl 40 (by decide) (hts _ (gw_mem wfX9_446)) (fun _ h9 => h9) rfl dX9_keepsAll_264 ?_
            refine lv_imul hx hb dX9_keepsAll_267 ?_
            refine lv_iconst (v := 1) hx hb dX9_keepsAll_268 (by decide) ?_
            refine lv_iadd hx hb dX9_keepsAll_269 ?_
            obtain ⟨h241, hf⟩ := og_some hf
            refine va_lald hx hb hK.1 hP 14 1 rfl rfl (okI_in h241) dX9_keepsAll_270 ?_
            refine lv_topl (fun w242 ew242 => ?_)
            replace hf := nm_at hf ew242
            refine va_put (D := (dC, dI)) (ci := 9) (v := .long w242) (ty := .long) (C := RX9) (T := TX9) (N := 45) hx hb hts (fun w h => gw_mem (inX9 w h)) tyX9 tyX9_ok nmX9 hown hK.1 hP hD hS 0 rfl rfl 37 (by decide) (hts _ (gw_mem wfX9_422)) (fun _ h9 => h9) rfl (by decide +kernel) rfl rfl (Nat.le_of_ble_eq_true rfl) dX9_keepsAll_271 (fun H locs hP hD hS => ?_)
            have hP : va_P (dC, dI) vwCl (mW dA ad c_tape c_taped c_tree_3 c_bonds_7 c_moves_11 c_handMoves_12 r16 c_days c_likely c_outOf c_rateNow c_pence c_top c_bottom c_spot c_textLong c_fault c_number c_numberAt c_figures c_written c_wanted c_found c_drawnNow c_worth c_hold c_way c_acts c_sDay c_sUps c_sUp c_sMarks c_paidAll 1 0 r20 w240 w242 c_aside c_other c_states c_kept_226 w238 c_keptAt_227 p1) H := hP
            have hD : va_D A (mW dA ad c_tape c_taped c_tree_3 c_bonds_7 c_moves_11 c_handMoves_12 r16 c_days c_likely c_outOf c_rateNow c_pence c_top c_bottom c_spot c_textLong c_fault c_number c_numberAt c_figures c_written c_wanted c_found c_drawnNow c_worth c_hold c_way c_acts c_sDay c_sUps c_sUp c_sMarks c_paidAll 1 0 r20 w240 w242 c_aside c_other c_states c_kept_226 w238 c_keptAt_227 p1) := hD
            cases hf
            exact W.vret hx hb hr (fun t ht _ => gqv hP hD hS ht) hS.2.2 dX9_keepsAll_274
        · replace hf := ifp k229 hf
          refine lv_iconst (v := 1) hx hb dX9_keepsAll_198 (by decide) ?_
          refine lv_goto (tgt := 203) hx hb dX9_keepsAll_199 (by decide) ?_
          refine va_put (D := (dC, dI)) (ci := 9) (v := .int 1) (ty := .boolean) (C := RX9) (T := TX9) (N := 45) hx hb hts (fun w h => gw_mem (inX9 w h)) tyX9 tyX9_ok nmX9 hown hK.1 hP hD hS 0 rfl rfl 34 (by decide) (hts _ (gw_mem wfX9_416)) (fun _ h9 => h9) rfl (by decide +kernel) rfl rfl (Nat.le_of_ble_eq_true rfl) dX9_keepsAll_203 (fun H locs hP hD hS => ?_)
          have hP : va_P (dC, dI) vwCl (mW dA ad c_tape c_taped c_tree_3 c_bonds_7 c_moves_11 c_handMoves_12 r16 c_days c_likely c_outOf c_rateNow c_pence c_top c_bottom c_spot c_textLong c_fault c_number c_numberAt c_figures c_written c_wanted c_found c_drawnNow c_worth c_hold c_way c_acts c_sDay c_sUps c_sUp c_sMarks c_paidAll 1 1 r20 c_handPaid c_regret c_aside c_other c_states c_kept_226 c_keptLong c_keptAt_227 p1) H := hP
          have hD : va_D A (mW dA ad c_tape c_taped c_tree_3 c_bonds_7 c_moves_11 c_handMoves_12 r16 c_days c_likely c_outOf c_rateNow c_pence c_top c_bottom c_spot c_textLong c_fault c_number c_numberAt c_figures c_written c_wanted c_found c_drawnNow c_worth c_hold c_way c_acts c_sDay c_sUps c_sUp c_sMarks c_paidAll 1 1 r20 c_handPaid c_regret c_aside c_other c_states c_kept_226 c_keptLong c_keptAt_227 p1) := hD
          refine lv_iload_n hx hb dX9_keepsAll_206 rfl (lv_at hl 1 rfl) ?_
          refine lv_if_eq (tgt := 242) hx hb dX9_keepsAll_207 (by decide) (fun k243 => ?_) (fun k243 => ?_)
          · replace hf := ifp k243 hf
            refine lv_aload_n hx hb dX9_keepsAll_242 rfl (lv_at hl 0 rfl) ?_
            refine lv_aload_n hx hb dX9_keepsAll_243 rfl (lv_at hl 0 rfl) ?_
            refine va_get (D := (dC, dI)) (ci := 9) (v := .ref (ad 14)) (C := RX9) (T := TX9) (N := 45) hx hb hts (fun w h => gw_mem (inX9 w h)) hown hK.1 hP 0 rfl rfl 42 (by decide) (hts _ (gw_mem wfX9_51)) (fun _ h9 => h9) rfl dX9_keepsAll_244 ?_
            refine lv_iconst (v := 2) hx hb dX9_keepsAll_247 (by decide) ?_
            refine lv_aload_n hx hb dX9_keepsAll_248 rfl (lv_at hl 0 rfl) ?_
            refine va_get (D := (dC, dI)) (ci := 9) (v := .int c_states) (C := RX9) (T := TX9) (N := 45) hx hb hts (fun w h => gw_mem (inX9 w h)) hown hK.1 hP 0 rfl rfl 40 (by decide) (hts _ (gw_mem wfX9_446)) (fun _ h9 => h9) rfl dX9_keepsAll_249 ?_
            refine lv_imul hx hb dX9_keepsAll_252 ?_
            obtain ⟨h244, hf⟩ := og_some hf
            refine va_lald hx hb hK.1 hP 14 1 rfl rfl (okI_in h244) dX9_keepsAll_253 ?_
            refine lv_topl (fun w245 ew245 => ?_)
            replace hf := nm_at hf ew245
            refine va_put (D := (dC, dI)) (ci := 9) (v := .long w245) (ty := .long) (C := RX9) (T := TX9) (N := 45) hx hb hts (fun w h => gw_mem (inX9 w h)) tyX9 tyX9_ok nmX9 hown hK.1 hP hD hS 0 rfl rfl 36 (by decide) (hts _ (gw_mem wfX9_419)) (fun _ h9 => h9) rfl (by decide +kernel) rfl rfl (Nat.le_of_ble_eq_true rfl) dX9_keepsAll_254 (fun H locs hP hD hS => ?_)
            have hP : va_P (dC, dI) vwCl (mW dA ad c_tape c_taped c_tree_3 c_bonds_7 c_moves_11 c_handMoves_12 r16 c_days c_likely c_outOf c_rateNow c_pence c_top c_bottom c_spot c_textLong c_fault c_number c_numberAt c_figures c_written c_wanted c_found c_drawnNow c_worth c_hold c_way c_acts c_sDay c_sUps c_sUp c_sMarks c_paidAll 1 1 r20 w245 c_regret c_aside c_other c_states c_kept_226 c_keptLong c_keptAt_227 p1) H := hP
            have hD : va_D A (mW dA ad c_tape c_taped c_tree_3 c_bonds_7 c_moves_11 c_handMoves_12 r16 c_days c_likely c_outOf c_rateNow c_pence c_top c_bottom c_spot c_textLong c_fault c_number c_numberAt c_figures c_written c_wanted c_found c_drawnNow c_worth c_hold c_way c_acts c_sDay c_sUps c_sUp c_sMarks c_paidAll 1 1 r20 w245 c_regret c_aside c_other c_states c_kept_226 c_keptLong c_keptAt_227 p1) := hD
            refine lv_aload_n hx hb dX9_keepsAll_257 rfl (lv_at hl 0 rfl) ?_
            refine lv_aload_n hx hb dX9_keepsAll_258 rfl (lv_at hl 0 rfl) ?_
            refine va_get (D := (dC, dI)) (ci := 9) (v := .ref (ad 14)) (C := RX9) (T := TX9) (N := 45) hx hb hts (fun w h => gw_mem (inX9 w h)) hown hK.1 hP 0 rfl rfl 42 (by decide) (hts _ (gw_mem wfX9_51)) (fun _ h9 => h9) rfl dX9_keepsAll_259 ?_
            refine lv_iconst (v := 2) hx hb dX9_keepsAll_262 (by decide) ?_
            refine lv_aload_n hx hb dX9_keepsAll_263 rfl (lv_at hl 0 rfl) ?_
            refine va_get (D := (dC, dI)) (ci := 9) (v := .int c_states) (C := RX9) (T := TX9) (N := 45) hx hb hts (fun w h => gw_mem (inX9 w h)) hown hK.1 hP 0 rfl rfl 40 (by decide) (hts _ (gw_mem wfX9_446)) (fun _ h9 => h9) rfl dX9_keepsAll_264 ?_
            refine lv_imul hx hb dX9_keepsAll_267 ?_
            refine lv_iconst (v := 1) hx hb dX9_keepsAll_268 (by decide) ?_
            refine lv_iadd hx hb dX9_keepsAll_269 ?_
            obtain ⟨h246, hf⟩ := og_some hf
            refine va_lald hx hb hK.1 hP 14 1 rfl rfl (okI_in h246) dX9_keepsAll_270 ?_
            refine lv_topl (fun w247 ew247 => ?_)
            replace hf := nm_at hf ew247
            refine va_put (D := (dC, dI)) (ci := 9) (v := .long w247) (ty := .long) (C := RX9) (T := TX9) (N := 45) hx hb hts (fun w h => gw_mem (inX9 w h)) tyX9 tyX9_ok nmX9 hown hK.1 hP hD hS 0 rfl rfl 37 (by decide) (hts _ (gw_mem wfX9_422)) (fun _ h9 => h9) rfl (by decide +kernel) rfl rfl (Nat.le_of_ble_eq_true rfl) dX9_keepsAll_271 (fun H locs hP hD hS => ?_)
            have hP : va_P (dC, dI) vwCl (mW dA ad c_tape c_taped c_tree_3 c_bonds_7 c_moves_11 c_handMoves_12 r16 c_days c_likely c_outOf c_rateNow c_pence c_top c_bottom c_spot c_textLong c_fault c_number c_numberAt c_figures c_written c_wanted c_found c_drawnNow c_worth c_hold c_way c_acts c_sDay c_sUps c_sUp c_sMarks c_paidAll 1 1 r20 w245 w247 c_aside c_other c_states c_kept_226 c_keptLong c_keptAt_227 p1) H := hP
            have hD : va_D A (mW dA ad c_tape c_taped c_tree_3 c_bonds_7 c_moves_11 c_handMoves_12 r16 c_days c_likely c_outOf c_rateNow c_pence c_top c_bottom c_spot c_textLong c_fault c_number c_numberAt c_figures c_written c_wanted c_found c_drawnNow c_worth c_hold c_way c_acts c_sDay c_sUps c_sUp c_sMarks c_paidAll 1 1 r20 w245 w247 c_aside c_other c_states c_kept_226 c_keptLong c_keptAt_227 p1) := hD
            cases hf
            exact W.vret hx hb hr (fun t ht _ => gqv hP hD hS ht) hS.2.2 dX9_keepsAll_274
          · replace hf := ifn k243 hf
            refine lv_aload_n hx hb dX9_keepsAll_210 rfl (lv_at hl 0 rfl) ?_
            refine va_get (D := (dC, dI)) (ci := 9) (v := .ref (ad 14)) (C := RX9) (T := TX9) (N := 45) hx hb hts (fun w h => gw_mem (inX9 w h)) hown hK.1 hP 0 rfl rfl 42 (by decide) (hts _ (gw_mem wfX9_51)) (fun _ h9 => h9) rfl dX9_keepsAll_211 ?_
            refine lv_iconst (v := 2) hx hb dX9_keepsAll_214 (by decide) ?_
            refine lv_aload_n hx hb dX9_keepsAll_215 rfl (lv_at hl 0 rfl) ?_
            refine va_get (D := (dC, dI)) (ci := 9) (v := .int c_states) (C := RX9) (T := TX9) (N := 45) hx hb hts (fun w h => gw_mem (inX9 w h)) hown hK.1 hP 0 rfl rfl 40 (by decide) (hts _ (gw_mem wfX9_446)) (fun _ h9 => h9) rfl dX9_keepsAll_216 ?_
            refine lv_imul hx hb dX9_keepsAll_219 ?_
            refine lv_aload_n hx hb dX9_keepsAll_220 rfl (lv_at hl 0 rfl) ?_
            refine va_get (D := (dC, dI)) (ci := 9) (v := .long c_handPaid) (C := RX9) (T := TX9) (N := 45) hx hb hts (fun w h => gw_mem (inX9 w h)) hown hK.1 hP 0 rfl rfl 36 (by decide) (hts _ (gw_mem wfX9_419)) (fun _ h9 => h9) rfl dX9_keepsAll_221 ?_
            obtain ⟨h248, hf⟩ := og_some hf
            obtain ⟨w249, ew249⟩ : ∃ y : Nat → Int64, y = vp_updL c_keptLong (Int32.toNatClampNeg (2 * c_states)) c_handPaid := ⟨_, rfl⟩
            replace hf := nm_at hf ew249
            refine va_last hx hb hK.1 hP hD hS 14 1 rfl rfl (okI_in h248) dX9_keepsAll_224 (fun H locs hP hD hS => ?_)
            have hP : va_P (dC, dI) vwCl (mW dA ad c_tape c_taped c_tree_3 c_bonds_7 c_moves_11 c_handMoves_12 r16 c_days c_likely c_outOf c_rateNow c_pence c_top c_bottom c_spot c_textLong c_fault c_number c_numberAt c_figures c_written c_wanted c_found c_drawnNow c_worth c_hold c_way c_acts c_sDay c_sUps c_sUp c_sMarks c_paidAll 1 1 r20 c_handPaid c_regret c_aside c_other c_states c_kept_226 w249 c_keptAt_227 p1) H := by rw [ew249]; exact hP
            have hD : va_D A (mW dA ad c_tape c_taped c_tree_3 c_bonds_7 c_moves_11 c_handMoves_12 r16 c_days c_likely c_outOf c_rateNow c_pence c_top c_bottom c_spot c_textLong c_fault c_number c_numberAt c_figures c_written c_wanted c_found c_drawnNow c_worth c_hold c_way c_acts c_sDay c_sUps c_sUp c_sMarks c_paidAll 1 1 r20 c_handPaid c_regret c_aside c_other c_states c_kept_226 w249 c_keptAt_227 p1) := by rw [ew249]; exact hD
            refine lv_aload_n hx hb dX9_keepsAll_225 rfl (lv_at hl 0 rfl) ?_
            refine va_get (D := (dC, dI)) (ci := 9) (v := .ref (ad 14)) (C := RX9) (T := TX9) (N := 45) hx hb hts (fun w h => gw_mem (inX9 w h)) hown hK.1 hP 0 rfl rfl 42 (by decide) (hts _ (gw_mem wfX9_51)) (fun _ h9 => h9) rfl dX9_keepsAll_226 ?_
            refine lv_iconst (v := 2) hx hb dX9_keepsAll_229 (by decide) ?_
            refine lv_aload_n hx hb dX9_keepsAll_230 rfl (lv_at hl 0 rfl) ?_
            refine va_get (D := (dC, dI)) (ci := 9) (v := .int c_states) (C := RX9) (T := TX9) (N := 45) hx hb hts (fun w h => gw_mem (inX9 w h)) hown hK.1 hP 0 rfl rfl 40 (by decide) (hts _ (gw_mem wfX9_446)) (fun _ h9 => h9) rfl dX9_keepsAll_231 ?_
            refine lv_imul hx hb dX9_keepsAll_234 ?_
            refine lv_iconst (v := 1) hx hb dX9_keepsAll_235 (by decide) ?_
            refine lv_iadd hx hb dX9_keepsAll_236 ?_
            refine lv_aload_n hx hb dX9_keepsAll_237 rfl (lv_at hl 0 rfl) ?_
            refine va_get (D := (dC, dI)) (ci := 9) (v := .long c_regret) (C := RX9) (T := TX9) (N := 45) hx hb hts (fun w h => gw_mem (inX9 w h)) hown hK.1 hP 0 rfl rfl 37 (by decide) (hts _ (gw_mem wfX9_422)) (fun _ h9 => h9) rfl dX9_keepsAll_238 ?_
            obtain ⟨h250, hf⟩ := og_some hf
            obtain ⟨w251, ew251⟩ : ∃ y : Nat → Int64, y = vp_updL w249 (Int32.toNatClampNeg ((2 * c_states) + 1)) c_regret := ⟨_, rfl⟩
            replace hf := nm_at hf ew251
            refine va_last hx hb hK.1 hP hD hS 14 1 rfl rfl (okI_in h250) dX9_keepsAll_241 (fun H locs hP hD hS => ?_)
            have hP : va_P (dC, dI) vwCl (mW dA ad c_tape c_taped c_tree_3 c_bonds_7 c_moves_11 c_handMoves_12 r16 c_days c_likely c_outOf c_rateNow c_pence c_top c_bottom c_spot c_textLong c_fault c_number c_numberAt c_figures c_written c_wanted c_found c_drawnNow c_worth c_hold c_way c_acts c_sDay c_sUps c_sUp c_sMarks c_paidAll 1 1 r20 c_handPaid c_regret c_aside c_other c_states c_kept_226 w251 c_keptAt_227 p1) H := by rw [ew251]; exact hP
            have hD : va_D A (mW dA ad c_tape c_taped c_tree_3 c_bonds_7 c_moves_11 c_handMoves_12 r16 c_days c_likely c_outOf c_rateNow c_pence c_top c_bottom c_spot c_textLong c_fault c_number c_numberAt c_figures c_written c_wanted c_found c_drawnNow c_worth c_hold c_way c_acts c_sDay c_sUps c_sUp c_sMarks c_paidAll 1 1 r20 c_handPaid c_regret c_aside c_other c_states c_kept_226 w251 c_keptAt_227 p1) := by rw [ew251]; exact hD
            refine lv_aload_n hx hb dX9_keepsAll_242 rfl (lv_at hl 0 rfl) ?_
            refine lv_aload_n hx hb dX9_keepsAll_243 rfl (lv_at hl 0 rfl) ?_
            refine va_get (D := (dC, dI)) (ci := 9) (v := .ref (ad 14)) (C := RX9) (T := TX9) (N := 45) hx hb hts (fun w h => gw_mem (inX9 w h)) hown hK.1 hP 0 rfl rfl 42 (by decide) (hts _ (gw_mem wfX9_51)) (fun _ h9 => h9) rfl dX9_keepsAll_244 ?_
            refine lv_iconst (v := 2) hx hb dX9_keepsAll_247 (by decide) ?_
            refine lv_aload_n hx hb dX9_keepsAll_248 rfl (lv_at hl 0 rfl) ?_
            refine va_get (D := (dC, dI)) (ci := 9) (v := .int c_states) (C := RX9) (T := TX9) (N := 45) hx hb hts (fun w h => gw_mem (inX9 w h)) hown hK.1 hP 0 rfl rfl 40 (by decide) (hts _ (gw_mem wfX9_446)) (fun _ h9 => h9) rfl dX9_keepsAll_249 ?_
            refine lv_imul hx hb dX9_keepsAll_252 ?_
            obtain ⟨h252, hf⟩ := og_some hf
            refine va_lald hx hb hK.1 hP 14 1 rfl rfl (okI_in h252) dX9_keepsAll_253 ?_
            refine lv_topl (fun w253 ew253 => ?_)
            replace hf := nm_at hf ew253
            refine va_put (D := (dC, dI)) (ci := 9) (v := .long w253) (ty := .long) (C := RX9) (T := TX9) (N := 45) hx hb hts (fun w h => gw_mem (inX9 w h)) tyX9 tyX9_ok nmX9 hown hK.1 hP hD hS 0 rfl rfl 36 (by decide) (hts _ (gw_mem wfX9_419)) (fun _ h9 => h9) rfl (by decide +kernel) rfl rfl (Nat.le_of_ble_eq_true rfl) dX9_keepsAll_254 (fun H locs hP hD hS => ?_)
            have hP : va_P (dC, dI) vwCl (mW dA ad c_tape c_taped c_tree_3 c_bonds_7 c_moves_11 c_handMoves_12 r16 c_days c_likely c_outOf c_rateNow c_pence c_top c_bottom c_spot c_textLong c_fault c_number c_numberAt c_figures c_written c_wanted c_found c_drawnNow c_worth c_hold c_way c_acts c_sDay c_sUps c_sUp c_sMarks c_paidAll 1 1 r20 w253 c_regret c_aside c_other c_states c_kept_226 w251 c_keptAt_227 p1) H := hP
            have hD : va_D A (mW dA ad c_tape c_taped c_tree_3 c_bonds_7 c_moves_11 c_handMoves_12 r16 c_days c_likely c_outOf c_rateNow c_pence c_top c_bottom c_spot c_textLong c_fault c_number c_numberAt c_figures c_written c_wanted c_found c_drawnNow c_worth c_hold c_way c_acts c_sDay c_sUps c_sUp c_sMarks c_paidAll 1 1 r20 w253 c_regret c_aside c_other c_states c_kept_226 w251 c_keptAt_227 p1) := hD
            refine lv_aload_n hx hb dX9_keepsAll_257 rfl (lv_at hl 0 rfl) ?_
            refine lv_aload_n hx hb dX9_keepsAll_258 rfl (lv_at hl 0 rfl) ?_
            refine va_get (D := (dC, dI)) (ci := 9) (v := .ref (ad 14)) (C := RX9) (T := TX9) (N := 45) hx hb hts (fun w h => gw_mem (inX9 w h)) hown hK.1 hP 0 rfl rfl 42 (by decide) (hts _ (gw_mem wfX9_51)) (fun _ h9 => h9) rfl dX9_keepsAll_259 ?_
            refine lv_iconst (v := 2) hx hb dX9_keepsAll_262 (by decide) ?_
            refine lv_aload_n hx hb dX9_keepsAll_263 rfl (lv_at hl 0 rfl) ?_
            refine va_get (D := (dC, dI)) (ci := 9) (v := .int c_states) (C := RX9) (T := TX9) (N := 45) hx hb hts (fun w h => gw_mem (inX9 w h)) hown hK.1 hP 0 rfl rfl 40 (by decide) (hts _ (gw_mem wfX9_446)) (fun _ h9 => h9) rfl dX9_keepsAll_264 ?_
            refine lv_imul hx hb dX9_keepsAll_267 ?_
            refine lv_iconst (v := 1) hx hb dX9_keepsAll_268 (by decide) ?_
            refine lv_iadd hx hb dX9_keepsAll_269 ?_
            obtain ⟨h254, hf⟩ := og_some hf
            refine va_lald hx hb hK.1 hP 14 1 rfl rfl (okI_in h254) dX9_keepsAll_270 ?_
            refine lv_topl (fun w255 ew255 => ?_)
            replace hf := nm_at hf ew255
            refine va_put (D := (dC, dI)) (ci := 9) (v := .long w255) (ty := .long) (C := RX9) (T := TX9) (N := 45) hx hb hts (fun w h => gw_mem (inX9 w h)) tyX9 tyX9_ok nmX9 hown hK.1 hP hD hS 0 rfl rfl 37 (by decide) (hts _ (gw_mem wfX9_422)) (fun _ h9 => h9) rfl (by decide +kernel) rfl rfl (Nat.le_of_ble_eq_true rfl) dX9_keepsAll_271 (fun H locs hP hD hS => ?_)
            have hP : va_P (dC, dI) vwCl (mW dA ad c_tape c_taped c_tree_3 c_bonds_7 c_moves_11 c_handMoves_12 r16 c_days c_likely c_outOf c_rateNow c_pence c_top c_bottom c_spot c_textLong c_fault c_number c_numberAt c_figures c_written c_wanted c_found c_drawnNow c_worth c_hold c_way c_acts c_sDay c_sUps c_sUp c_sMarks c_paidAll 1 1 r20 w253 w255 c_aside c_other c_states c_kept_226 w251 c_keptAt_227 p1) H := hP
            have hD : va_D A (mW dA ad c_tape c_taped c_tree_3 c_bonds_7 c_moves_11 c_handMoves_12 r16 c_days c_likely c_outOf c_rateNow c_pence c_top c_bottom c_spot c_textLong c_fault c_number c_numberAt c_figures c_written c_wanted c_found c_drawnNow c_worth c_hold c_way c_acts c_sDay c_sUps c_sUp c_sMarks c_paidAll 1 1 r20 w253 w255 c_aside c_other c_states c_kept_226 w251 c_keptAt_227 p1) := hD
            cases hf
            exact W.vret hx hb hr (fun t ht _ => gqv hP hD hS ht) hS.2.2 dX9_keepsAll_274
      · replace hf := ifn k224 hf
        refine lv_iconst (v := 1) hx hb dX9_keepsAll_186 (by decide) ?_
        refine lv_goto (tgt := 191) hx hb dX9_keepsAll_187 (by decide) ?_
        obtain ⟨r256, c_kept_257, c_keptAt_258, v259, hf⟩ := bd3_some hf
        refine gci (va_runV (As := [.int 1]) (rest := [.ref (ad 0)]) ⟨hx, hb, hml, hown, hts⟩ (tX9_keeps l dC dI dA ad H.size v259) (ccX9_X9_keeps hts ⟨Nat.le_of_ble_eq_true rfl, Nat.le_of_ble_eq_true rfl⟩) (gPreV (ci := 9) (q0 := 0) hP hK hD rfl rfl) rfl rfl hl.1 rfl (lv_room (Nat.le_of_ble_eq_true rfl)) dX9_keepsAll_191 ⟨Nat.le_of_ble_eq_true rfl, Nat.le_of_ble_eq_true rfl⟩) hD hS hA (fun H locs hP hD hS => ?_)
        refine lv_iconst (v := 1) hx hb dX9_keepsAll_194 (by decide) ?_
        refine lv_icmp_ne (tgt := 202) hx hb dX9_keepsAll_195 (by decide) (fun k260 => ?_) (fun k260 => ?_)
        · replace hf := ifn k260 hf
          refine lv_iconst (v := 0) hx hb dX9_keepsAll_202 (by decide) ?_
          refine va_put (D := (dC, dI)) (ci := 9) (v := .int 0) (ty := .boolean) (C := RX9) (T := TX9) (N := 45) hx hb hts (fun w h => gw_mem (inX9 w h)) tyX9 tyX9_ok nmX9 hown hK.1 hP hD hS 0 rfl rfl 34 (by decide) (hts _ (gw_mem wfX9_416)) (fun _ h9 => h9) rfl (by decide +kernel) rfl rfl (Nat.le_of_ble_eq_true rfl) dX9_keepsAll_203 (fun H locs hP hD hS => ?_)
          have hP : va_P (dC, dI) vwCl (mW dA ad c_tape c_taped c_tree_3 c_bonds_7 c_moves_11 c_handMoves_12 r16 c_days c_likely c_outOf c_rateNow c_pence c_top c_bottom c_spot c_textLong c_fault c_number c_numberAt c_figures c_written c_wanted c_found c_drawnNow c_worth c_hold c_way c_acts c_sDay c_sUps c_sUp c_sMarks c_paidAll 1 0 r20 c_handPaid c_regret c_aside c_other c_states c_kept_257 c_keptLong c_keptAt_258 p1) H := hP
          have hD : va_D A (mW dA ad c_tape c_taped c_tree_3 c_bonds_7 c_moves_11 c_handMoves_12 r16 c_days c_likely c_outOf c_rateNow c_pence c_top c_bottom c_spot c_textLong c_fault c_number c_numberAt c_figures c_written c_wanted c_found c_drawnNow c_worth c_hold c_way c_acts c_sDay c_sUps c_sUp c_sMarks c_paidAll 1 0 r20 c_handPaid c_regret c_aside c_other c_states c_kept_257 c_keptLong c_keptAt_258 p1) := hD
          refine lv_iload_n hx hb dX9_keepsAll_206 rfl (lv_at hl 1 rfl) ?_
          refine lv_if_eq (tgt := 242) hx hb dX9_keepsAll_207 (by decide) (fun k261 => ?_) (fun k261 => ?_)
          · replace hf := ifp k261 hf
            refine lv_aload_n hx hb dX9_keepsAll_242 rfl (lv_at hl 0 rfl) ?_
            refine lv_aload_n hx hb dX9_keepsAll_243 rfl (lv_at hl 0 rfl) ?_
            refine va_get (D := (dC, dI)) (ci := 9) (v := .ref (ad 14)) (C := RX9) (T := TX9) (N := 45) hx hb hts (fun w h => gw_mem (inX9 w h)) hown hK.1 hP 0 rfl rfl 42 (by decide) (hts _ (gw_mem wfX9_51)) (fun _ h9 => h9) rfl dX9_keepsAll_244 ?_
            refine lv_iconst (v := 2) hx hb dX9_keepsAll_247 (by decide) ?_
            refine lv_aload_n hx hb dX9_keepsAll_248 rfl (lv_at hl 0 rfl) ?_
            refine va_get (D := (dC, dI)) (ci := 9) (v := .int c_states) (C := RX9) (T := TX9) (N := 45) hx hb hts (fun w h => gw_mem (inX9 w h)) hown hK.1 hP 0 rfl rfl 40 (by decide) (hts _ (gw_mem wfX9_446)) (fun _ h9 => h9) rfl dX9_keepsAll_249 ?_
            refine lv_imul hx hb dX9_keepsAll_252 ?_
            obtain ⟨h262, hf⟩ := og_some hf
            refine va_lald hx hb hK.1 hP 14 1 rfl rfl (okI_in h262) dX9_keepsAll_253 ?_
            refine lv_topl (fun w263 ew263 => ?_)
            replace hf := nm_at hf ew263
            refine va_put (D := (dC, dI)) (ci := 9) (v := .long w263) (ty := .long) (C := RX9) (T := TX9) (N := 45) hx hb hts (fun w h => gw_mem (inX9 w h)) tyX9 tyX9_ok nmX9 hown hK.1 hP hD hS 0 rfl rfl 36 (by decide) (hts _ (gw_mem wfX9_419)) (fun _ h9 => h9) rfl (by decide +kernel) rfl rfl (Nat.le_of_ble_eq_true rfl) dX9_keepsAll_254 (fun H locs hP hD hS => ?_)
            have hP : va_P (dC, dI) vwCl (mW dA ad c_tape c_taped c_tree_3 c_bonds_7 c_moves_11 c_handMoves_12 r16 c_days c_likely c_outOf c_rateNow c_pence c_top c_bottom c_spot c_textLong c_fault c_number c_numberAt c_figures c_written c_wanted c_found c_drawnNow c_worth c_hold c_way c_acts c_sDay c_sUps c_sUp c_sMarks c_paidAll 1 0 r20 w263 c_regret c_aside c_other c_states c_kept_257 c_keptLong c_keptAt_258 p1) H := hP
            have hD : va_D A (mW dA ad c_tape c_taped c_tree_3 c_bonds_7 c_moves_11 c_handMoves_12 r16 c_days c_likely c_outOf c_rateNow c_pence c_top c_bottom c_spot c_textLong c_fault c_number c_numberAt c_figures c_written c_wanted c_found c_drawnNow c_worth c_hold c_way c_acts c_sDay c_sUps c_sUp c_sMarks c_paidAll 1 0 r20 w263 c_regret c_aside c_other c_states c_kept_257 c_keptLong c_keptAt_258 p1) := hD
            refine lv_aload_n hx hb dX9_keepsAll_257 rfl (lv_at hl 0 rfl) ?_
            refine lv_aload_n hx hb dX9_keepsAll_258 rfl (lv_at hl 0 rfl) ?_
            refine va_get (D := (dC, dI)) (ci := 9) (v := .ref (ad 14)) (C := RX9) (T := TX9) (N := 45) hx hb hts (fun w h => gw_mem (inX9 w h)) hown hK.1 hP 0 rfl rfl 42 (by decide) (hts _ (gw_mem wfX9_51)) (fun _ h9 => h9) rfl dX9_keepsAll_259 ?_
            refine lv_iconst (v := 2) hx hb dX9_keepsAll_262 (by decide) ?_
            refine lv_aload_n hx hb dX9_keepsAll_263 rfl (lv_at hl 0 rfl) ?_
            refine va_get (D := (dC, dI)) (ci := 9) (v := .int c_states) (C := RX9) (T := TX9) (N := 45) hx hb hts (fun w h => gw_mem (inX9 w h)) hown hK.1 hP 0 rfl rfl 40 (by decide) (hts _ (gw_mem wfX9_446)) (fun _ h9 => h9) rfl dX9_keepsAll_264 ?_
            refine lv_imul hx hb dX9_keepsAll_267 ?_
            refine lv_iconst (v := 1) hx hb dX9_keepsAll_268 (by decide) ?_
            refine lv_iadd hx hb dX9_keepsAll_269 ?_
            obtain ⟨h264, hf⟩ := og_some hf
            refine va_lald hx hb hK.1 hP 14 1 rfl rfl (okI_in h264) dX9_keepsAll_270 ?_
            refine lv_topl (fun w265 ew265 => ?_)
            replace hf := nm_at hf ew265
            refine va_put (D := (dC, dI)) (ci := 9) (v := .long w265) (ty := .long) (C := RX9) (T := TX9) (N := 45) hx hb hts (fun w h => gw_mem (inX9 w h)) tyX9 tyX9_ok nmX9 hown hK.1 hP hD hS 0 rfl rfl 37 (by decide) (hts _ (gw_mem wfX9_422)) (fun _ h9 => h9) rfl (by decide +kernel) rfl rfl (Nat.le_of_ble_eq_true rfl) dX9_keepsAll_271 (fun H locs hP hD hS => ?_)
            have hP : va_P (dC, dI) vwCl (mW dA ad c_tape c_taped c_tree_3 c_bonds_7 c_moves_11 c_handMoves_12 r16 c_days c_likely c_outOf c_rateNow c_pence c_top c_bottom c_spot c_textLong c_fault c_number c_numberAt c_figures c_written c_wanted c_found c_drawnNow c_worth c_hold c_way c_acts c_sDay c_sUps c_sUp c_sMarks c_paidAll 1 0 r20 w263 w265 c_aside c_other c_states c_kept_257 c_keptLong c_keptAt_258 p1) H := hP
            have hD : va_D A (mW dA ad c_tape c_taped c_tree_3 c_bonds_7 c_moves_11 c_handMoves_12 r16 c_days c_likely c_outOf c_rateNow c_pence c_top c_bottom c_spot c_textLong c_fault c_number c_numberAt c_figures c_written c_wanted c_found c_drawnNow c_worth c_hold c_way c_acts c_sDay c_sUps c_sUp c_sMarks c_paidAll 1 0 r20 w263 w265 c_aside c_other c_states c_kept_257 c_keptLong c_keptAt_258 p1) := hD
            cases hf
            exact W.vret hx hb hr (fun t ht _ => gqv hP hD hS ht) hS.2.2 dX9_keepsAll_274
          · replace hf := ifn k261 hf
            refine lv_aload_n hx hb dX9_keepsAll_210 rfl (lv_at hl 0 rfl) ?_
            refine va_get (D := (dC, dI)) (ci := 9) (v := .ref (ad 14)) (C := RX9) (T := TX9) (N := 45) hx hb hts (fun w h => gw_mem (inX9 w h)) hown hK.1 hP 0 rfl rfl 42 (by decide) (hts _ (gw_mem wfX9_51)) (fun _ h9 => h9) rfl dX9_keepsAll_211 ?_
            refine lv_iconst (v := 2) hx hb dX9_keepsAll_214 (by decide) ?_
            refine lv_aload_n hx hb dX9_keepsAll_215 rfl (lv_at hl 0 rfl) ?_
            refine va_get (D := (dC, dI)) (ci := 9) (v := .int c_states) (C := RX9) (T := TX9) (N := 45) hx hb hts (fun w h => gw_mem (inX9 w h)) hown hK.1 hP 0 rfl rfl 40 (by decide) (hts _ (gw_mem wfX9_446)) (fun _ h9 => h9) rfl dX9_keepsAll_216 ?_
            refine lv_imul hx hb dX9_keepsAll_219 ?_
            refine lv_aload_n hx hb dX9_keepsAll_220 rfl (lv_at hl 0 rfl) ?_
            refine va_get (D := (dC, dI)) (ci := 9) (v := .long c_handPaid) (C := RX9) (T := TX9) (N := 45) hx hb hts (fun w h => gw_mem (inX9 w h)) hown hK.1 hP 0 rfl rfl 36 (by decide) (hts _ (gw_mem wfX9_419)) (fun _ h9 => h9) rfl dX9_keepsAll_221 ?_
            obtain ⟨h266, hf⟩ := og_some hf
            obtain ⟨w267, ew267⟩ : ∃ y : Nat → Int64, y = vp_updL c_keptLong (Int32.toNatClampNeg (2 * c_states)) c_handPaid := ⟨_, rfl⟩
            replace hf := nm_at hf ew267
            refine va_last hx hb hK.1 hP hD hS 14 1 rfl rfl (okI_in h266) dX9_keepsAll_224 (fun H locs hP hD hS => ?_)
            have hP : va_P (dC, dI) vwCl (mW dA ad c_tape c_taped c_tree_3 c_bonds_7 c_moves_11 c_handMoves_12 r16 c_days c_likely c_outOf c_rateNow c_pence c_top c_bottom c_spot c_textLong c_fault c_number c_numberAt c_figures c_written c_wanted c_found c_drawnNow c_worth c_hold c_way c_acts c_sDay c_sUps c_sUp c_sMarks c_paidAll 1 0 r20 c_handPaid c_regret c_aside c_other c_states c_kept_257 w267 c_keptAt_258 p1) H := by rw [ew267]; exact hP
            have hD : va_D A (mW dA ad c_tape c_taped c_tree_3 c_bonds_7 c_moves_11 c_handMoves_12 r16 c_days c_likely c_outOf c_rateNow c_pence c_top c_bottom c_spot c_textLong c_fault c_number c_numberAt c_figures c_written c_wanted c_found c_drawnNow c_worth c_hold c_way c_acts c_sDay c_sUps c_sUp c_sMarks c_paidAll 1 0 r20 c_handPaid c_regret c_aside c_other c_states c_kept_257 w267 c_keptAt_258 p1) := by rw [ew267]; exact hD
            refine lv_aload_n hx hb dX9_keepsAll_225 rfl (lv_at hl 0 rfl) ?_
            refine va_get (D := (dC, dI)) (ci := 9) (v := .ref (ad 14)) (C := RX9) (T := TX9) (N := 45) hx hb hts (fun w h => gw_mem (inX9 w h)) hown hK.1 hP 0 rfl rfl 42 (by decide) (hts _ (gw_mem wfX9_51)) (fun _ h9 => h9) rfl dX9_keepsAll_226 ?_
            refine lv_iconst (v := 2) hx hb dX9_keepsAll_229 (by decide) ?_
            refine lv_aload_n hx hb dX9_keepsAll_230 rfl (lv_at hl 0 rfl) ?_
            refine va_get (D := (dC, dI)) (ci := 9) (v := .int c_states) (C := RX9) (T := TX9) (N := 45) hx hb hts (fun w h => gw_mem (inX9 w h)) hown hK.1 hP 0 rfl rfl 40 (by decide) (hts _ (gw_mem wfX9_446)) (fun _ h9 => h9) rfl dX9_keepsAll_231 ?_
            refine lv_imul hx hb dX9_keepsAll_234 ?_
            refine lv_iconst (v := 1) hx hb dX9_keepsAll_235 (by decide) ?_
            refine lv_iadd hx hb dX9_keepsAll_236 ?_
            refine lv_aload_n hx hb dX9_keepsAll_237 rfl (lv_at hl 0 rfl) ?_
            refine va_get (D := (dC, dI)) (ci := 9) (v := .long c_regret) (C := RX9) (T := TX9) (N := 45) hx hb hts (fun w h => gw_mem (inX9 w h)) hown hK.1 hP 0 rfl rfl 37 (by decide) (hts _ (gw_mem wfX9_422)) (fun _ h9 => h9) rfl dX9_keepsAll_238 ?_
            obtain ⟨h268, hf⟩ := og_some hf
            obtain ⟨w269, ew269⟩ : ∃ y : Nat → Int64, y = vp_updL w267 (Int32.toNatClampNeg ((2 * c_states) + 1)) c_regret := ⟨_, rfl⟩
            replace hf := nm_at hf ew269
            refine va_last hx hb hK.1 hP hD hS 14 1 rfl rfl (okI_in h268) dX9_keepsAll_241 (fun H locs hP hD hS => ?_)
            have hP : va_P (dC, dI) vwCl (mW dA ad c_tape c_taped c_tree_3 c_bonds_7 c_moves_11 c_handMoves_12 r16 c_days c_likely c_outOf c_rateNow c_pence c_top c_bottom c_spot c_textLong c_fault c_number c_numberAt c_figures c_written c_wanted c_found c_drawnNow c_worth c_hold c_way c_acts c_sDay c_sUps c_sUp c_sMarks c_paidAll 1 0 r20 c_handPaid c_regret c_aside c_other c_states c_kept_257 w269 c_keptAt_258 p1) H := by rw [ew269]; exact hP
            have hD : va_D A (mW dA ad c_tape c_taped c_tree_3 c_bonds_7 c_moves_11 c_handMoves_12 r16 c_days c_likely c_outOf c_rateNow c_pence c_top c_bottom c_spot c_textLong c_fault c_number c_numberAt c_figures c_written c_wanted c_found c_drawnNow c_worth c_hold c_way c_acts c_sDay c_sUps c_sUp c_sMarks c_paidAll 1 0 r20 c_handPaid c_regret c_aside c_other c_states c_kept_257 w269 c_keptAt_258 p1) := by rw [ew269]; exact hD
            refine lv_aload_n hx hb dX9_keepsAll_242 rfl (lv_at hl 0 rfl) ?_
            refine lv_aload_n hx hb dX9_keepsAll_243 rfl (lv_at hl 0 rfl) ?_
            refine va_get (D := (dC, dI)) (ci := 9) (v := .ref (ad 14)) (C := RX9) (T := TX9) (N := 45) hx hb hts (fun w h => gw_mem (inX9 w h)) hown hK.1 hP 0 rfl rfl 42 (by decide) (hts _ (gw_mem wfX9_51)) (fun _ h9 => h9) rfl dX9_keepsAll_244 ?_
            refine lv_iconst (v := 2) hx hb dX9_keepsAll_247 (by decide) ?_
            refine lv_aload_n hx hb dX9_keepsAll_248 rfl (lv_at hl 0 rfl) ?_
            refine va_get (D := (dC, dI)) (ci := 9) (v := .int c_states) (C := RX9) (T := TX9) (N := 45) hx hb hts (fun w h => gw_mem (inX9 w h)) hown hK.1 hP 0 rfl rfl 40 (by decide) (hts _ (gw_mem wfX9_446)) (fun _ h9 => h9) rfl dX9_keepsAll_249 ?_
            refine lv_imul hx hb dX9_keepsAll_252 ?_
            obtain ⟨h270, hf⟩ := og_some hf
            refine va_lald hx hb hK.1 hP 14 1 rfl rfl (okI_in h270) dX9_keepsAll_253 ?_
            refine lv_topl (fun w271 ew271 => ?_)
            replace hf := nm_at hf ew271
            refine va_put (D := (dC, dI)) (ci := 9) (v := .long w271) (ty := .long) (C := RX9) (T := TX9) (N := 45) hx hb hts (fun w h => gw_mem (inX9 w h)) tyX9 tyX9_ok nmX9 hown hK.1 hP hD hS 0 rfl rfl 36 (by decide) (hts _ (gw_mem wfX9_419)) (fun _ h9 => h9) rfl (by decide +kernel) rfl rfl (Nat.le_of_ble_eq_true rfl) dX9_keepsAll_254 (fun H locs hP hD hS => ?_)
            have hP : va_P (dC, dI) vwCl (mW dA ad c_tape c_taped c_tree_3 c_bonds_7 c_moves_11 c_handMoves_12 r16 c_days c_likely c_outOf c_rateNow c_pence c_top c_bottom c_spot c_textLong c_fault c_number c_numberAt c_figures c_written c_wanted c_found c_drawnNow c_worth c_hold c_way c_acts c_sDay c_sUps c_sUp c_sMarks c_paidAll 1 0 r20 w271 c_regret c_aside c_other c_states c_kept_257 w269 c_keptAt_258 p1) H := hP
            have hD : va_D A (mW dA ad c_tape c_taped c_tree_3 c_bonds_7 c_moves_11 c_handMoves_12 r16 c_days c_likely c_outOf c_rateNow c_pence c_top c_bottom c_spot c_textLong c_fault c_number c_numberAt c_figures c_written c_wanted c_found c_drawnNow c_worth c_hold c_way c_acts c_sDay c_sUps c_sUp c_sMarks c_paidAll 1 0 r20 w271 c_regret c_aside c_other c_states c_kept_257 w269 c_keptAt_258 p1) := hD
            refine lv_aload_n hx hb dX9_keepsAll_257 rfl (lv_at hl 0 rfl) ?_
            refine lv_aload_n hx hb dX9_keepsAll_258 rfl (lv_at hl 0 rfl) ?_
            refine va_get (D := (dC, dI)) (ci := 9) (v := .ref (ad 14)) (C := RX9) (T := TX9) (N := 45) hx hb hts (fun w h => gw_mem (inX9 w h)) hown hK.1 hP 0 rfl rfl 42 (by decide) (hts _ (gw_mem wfX9_51)) (fun _ h9 => h9) rfl dX9_keepsAll_259 ?_
            refine lv_iconst (v := 2) hx hb dX9_keepsAll_262 (by decide) ?_
            refine lv_aload_n hx hb dX9_keepsAll_263 rfl (lv_at hl 0 rfl) ?_
            refine va_get (D := (dC, dI)) (ci := 9) (v := .int c_states) (C := RX9) (T := TX9) (N := 45) hx hb hts (fun w h => gw_mem (inX9 w h)) hown hK.1 hP 0 rfl rfl 40 (by decide) (hts _ (gw_mem wfX9_446)) (fun _ h9 => h9) rfl dX9_keepsAll_264 ?_
            refine lv_imul hx hb dX9_keepsAll_267 ?_
            refine lv_iconst (v := 1) hx hb dX9_keepsAll_268 (by decide) ?_
            refine lv_iadd hx hb dX9_keepsAll_269 ?_
            obtain ⟨h272, hf⟩ := og_some hf
            refine va_lald hx hb hK.1 hP 14 1 rfl rfl (okI_in h272) dX9_keepsAll_270 ?_
            refine lv_topl (fun w273 ew273 => ?_)
            replace hf := nm_at hf ew273
            refine va_put (D := (dC, dI)) (ci := 9) (v := .long w273) (ty := .long) (C := RX9) (T := TX9) (N := 45) hx hb hts (fun w h => gw_mem (inX9 w h)) tyX9 tyX9_ok nmX9 hown hK.1 hP hD hS 0 rfl rfl 37 (by decide) (hts _ (gw_mem wfX9_422)) (fun _ h9 => h9) rfl (by decide +kernel) rfl rfl (Nat.le_of_ble_eq_true rfl) dX9_keepsAll_271 (fun H locs hP hD hS => ?_)
            have hP : va_P (dC, dI) vwCl (mW dA ad c_tape c_taped c_tree_3 c_bonds_7 c_moves_11 c_handMoves_12 r16 c_days c_likely c_outOf c_rateNow c_pence c_top c_bottom c_spot c_textLong c_fault c_number c_numberAt c_figures c_written c_wanted c_found c_drawnNow c_worth c_hold c_way c_acts c_sDay c_sUps c_sUp c_sMarks c_paidAll 1 0 r20 w271 w273 c_aside c_other c_states c_kept_257 w269 c_keptAt_258 p1) H := hP
            have hD : va_D A (mW dA ad c_tape c_taped c_tree_3 c_bonds_7 c_moves_11 c_handMoves_12 r16 c_days c_likely c_outOf c_rateNow c_pence c_top c_bottom c_spot c_textLong c_fault c_number c_numberAt c_figures c_written c_wanted c_found c_drawnNow c_worth c_hold c_way c_acts c_sDay c_sUps c_sUp c_sMarks c_paidAll 1 0 r20 w271 w273 c_aside c_other c_states c_kept_257 w269 c_keptAt_258 p1) := hD
            cases hf
            exact W.vret hx hb hr (fun t ht _ => gqv hP hD hS ht) hS.2.2 dX9_keepsAll_274
        · replace hf := ifp k260 hf
          refine lv_iconst (v := 1) hx hb dX9_keepsAll_198 (by decide) ?_
          refine lv_goto (tgt := 203) hx hb dX9_keepsAll_199 (by decide) ?_
          refine va_put (D := (dC, dI)) (ci := 9) (v := .int 1) (ty := .boolean) (C := RX9) (T := TX9) (N := 45) hx hb hts (fun w h => gw_mem (inX9 w h)) tyX9 tyX9_ok nmX9 hown hK.1 hP hD hS 0 rfl rfl 34 (by decide) (hts _ (gw_mem wfX9_416)) (fun _ h9 => h9) rfl (by decide +kernel) rfl rfl (Nat.le_of_ble_eq_true rfl) dX9_keepsAll_203 (fun H locs hP hD hS => ?_)
          have hP : va_P (dC, dI) vwCl (mW dA ad c_tape c_taped c_tree_3 c_bonds_7 c_moves_11 c_handMoves_12 r16 c_days c_likely c_outOf c_rateNow c_pence c_top c_bottom c_spot c_textLong c_fault c_number c_numberAt c_figures c_written c_wanted c_found c_drawnNow c_worth c_hold c_way c_acts c_sDay c_sUps c_sUp c_sMarks c_paidAll 1 1 r20 c_handPaid c_regret c_aside c_other c_states c_kept_257 c_keptLong c_keptAt_258 p1) H := hP
          have hD : va_D A (mW dA ad c_tape c_taped c_tree_3 c_bonds_7 c_moves_11 c_handMoves_12 r16 c_days c_likely c_outOf c_rateNow c_pence c_top c_bottom c_spot c_textLong c_fault c_number c_numberAt c_figures c_written c_wanted c_found c_drawnNow c_worth c_hold c_way c_acts c_sDay c_sUps c_sUp c_sMarks c_paidAll 1 1 r20 c_handPaid c_regret c_aside c_other c_states c_kept_257 c_keptLong c_keptAt_258 p1) := hD
          refine lv_iload_n hx hb dX9_keepsAll_206 rfl (lv_at hl 1 rfl) ?_
          refine lv_if_eq (tgt := 242) hx hb dX9_keepsAll_207 (by decide) (fun k274 => ?_) (fun k274 => ?_)
          · replace hf := ifp k274 hf
            refine lv_aload_n hx hb dX9_keepsAll_242 rfl (lv_at hl 0 rfl) ?_
            refine lv_aload_n hx hb dX9_keepsAll_243 rfl (lv_at hl 0 rfl) ?_
            refine va_get (D := (dC, dI)) (ci := 9) (v := .ref (ad 14)) (C := RX9) (T := TX9) (N := 45) hx hb hts (fun w h => gw_mem (inX9 w h)) hown hK.1 hP 0 rfl rfl 42 (by decide) (hts _ (gw_mem wfX9_51)) (fun _ h9 => h9) rfl dX9_keepsAll_244 ?_
            refine lv_iconst (v := 2) hx hb dX9_keepsAll_247 (by decide) ?_
            refine lv_aload_n hx hb dX9_keepsAll_248 rfl (lv_at hl 0 rfl) ?_
            refine va_get (D := (dC, dI)) (ci := 9) (v := .int c_states) (C := RX9) (T := TX9) (N := 45) hx hb hts (fun w h => gw_mem (inX9 w h)) hown hK.1 hP 0 rfl rfl 40 (by decide) (hts _ (gw_mem wfX9_446)) (fun _ h9 => h9) rfl dX9_keepsAll_249 ?_
            refine lv_imul hx hb dX9_keepsAll_252 ?_
            obtain ⟨h275, hf⟩ := og_some hf
            refine va_lald hx hb hK.1 hP 14 1 rfl rfl (okI_in h275) dX9_keepsAll_253 ?_
            refine lv_topl (fun w276 ew276 => ?_)
            replace hf := nm_at hf ew276
            refine va_put (D := (dC, dI)) (ci := 9) (v := .long w276) (ty := .long) (C := RX9) (T := TX9) (N := 45) hx hb hts (fun w h => gw_mem (inX9 w h)) tyX9 tyX9_ok nmX9 hown hK.1 hP hD hS 0 rfl rfl 36 (by decide) (hts _ (gw_mem wfX9_419)) (fun _ h9 => h9) rfl (by decide +kernel) rfl rfl (Nat.le_of_ble_eq_true rfl) dX9_keepsAll_254 (fun H locs hP hD hS => ?_)
            have hP : va_P (dC, dI) vwCl (mW dA ad c_tape c_taped c_tree_3 c_bonds_7 c_moves_11 c_handMoves_12 r16 c_days c_likely c_outOf c_rateNow c_pence c_top c_bottom c_spot c_textLong c_fault c_number c_numberAt c_figures c_written c_wanted c_found c_drawnNow c_worth c_hold c_way c_acts c_sDay c_sUps c_sUp c_sMarks c_paidAll 1 1 r20 w276 c_regret c_aside c_other c_states c_kept_257 c_keptLong c_keptAt_258 p1) H := hP
            have hD : va_D A (mW dA ad c_tape c_taped c_tree_3 c_bonds_7 c_moves_11 c_handMoves_12 r16 c_days c_likely c_outOf c_rateNow c_pence c_top c_bottom c_spot c_textLong c_fault c_number c_numberAt c_figures c_written c_wanted c_found c_drawnNow c_worth c_hold c_way c_acts c_sDay c_sUps c_sUp c_sMarks c_paidAll 1 1 r20 w276 c_regret c_aside c_other c_states c_kept_257 c_keptLong c_keptAt_258 p1) := hD
            refine lv_aload_n hx hb dX9_keepsAll_257 rfl (lv_at hl 0 rfl) ?_
            refine lv_aload_n hx hb dX9_keepsAll_258 rfl (lv_at hl 0 rfl) ?_
            refine va_get (D := (dC, dI)) (ci := 9) (v := .ref (ad 14)) (C := RX9) (T := TX9) (N := 45) hx hb hts (fun w h => gw_mem (inX9 w h)) hown hK.1 hP 0 rfl rfl 42 (by decide) (hts _ (gw_mem wfX9_51)) (fun _ h9 => h9) rfl dX9_keepsAll_259 ?_
            refine lv_iconst (v := 2) hx hb dX9_keepsAll_262 (by decide) ?_
            refine lv_aload_n hx hb dX9_keepsAll_263 rfl (lv_at hl 0 rfl) ?_
            refine va_get (D := (dC, dI)) (ci := 9) (v := .int c_states) (C := RX9) (T := TX9) (N := 45) hx hb hts (fun w h => gw_mem (inX9 w h)) hown hK.1 hP 0 rfl rfl 40 (by decide) (hts _ (gw_mem wfX9_446)) (fun _ h9 => h9) rfl dX9_keepsAll_264 ?_
            refine lv_imul hx hb dX9_keepsAll_267 ?_
            refine lv_iconst (v := 1) hx hb dX9_keepsAll_268 (by decide) ?_
            refine lv_iadd hx hb dX9_keepsAll_269 ?_
            obtain ⟨h277, hf⟩ := og_some hf
            refine va_lald hx hb hK.1 hP 14 1 rfl rfl (okI_in h277) dX9_keepsAll_270 ?_
            refine lv_topl (fun w278 ew278 => ?_)
            replace hf := nm_at hf ew278
            refine va_put (D := (dC, dI)) (ci := 9) (v := .long w278) (ty := .long) (C := RX9) (T := TX9) (N := 45) hx hb hts (fun w h => gw_mem (inX9 w h)) tyX9 tyX9_ok nmX9 hown hK.1 hP hD hS 0 rfl rfl 37 (by decide) (hts _ (gw_mem wfX9_422)) (fun _ h9 => h9) rfl (by decide +kernel) rfl rfl (Nat.le_of_ble_eq_true rfl) dX9_keepsAll_271 (fun H locs hP hD hS => ?_)
            have hP : va_P (dC, dI) vwCl (mW dA ad c_tape c_taped c_tree_3 c_bonds_7 c_moves_11 c_handMoves_12 r16 c_days c_likely c_outOf c_rateNow c_pence c_top c_bottom c_spot c_textLong c_fault c_number c_numberAt c_figures c_written c_wanted c_found c_drawnNow c_worth c_hold c_way c_acts c_sDay c_sUps c_sUp c_sMarks c_paidAll 1 1 r20 w276 w278 c_aside c_other c_states c_kept_257 c_keptLong c_keptAt_258 p1) H := hP
            have hD : va_D A (mW dA ad c_tape c_taped c_tree_3 c_bonds_7 c_moves_11 c_handMoves_12 r16 c_days c_likely c_outOf c_rateNow c_pence c_top c_bottom c_spot c_textLong c_fault c_number c_numberAt c_figures c_written c_wanted c_found c_drawnNow c_worth c_hold c_way c_acts c_sDay c_sUps c_sUp c_sMarks c_paidAll 1 1 r20 w276 w278 c_aside c_other c_states c_kept_257 c_keptLong c_keptAt_258 p1) := hD
            cases hf
            exact W.vret hx hb hr (fun t ht _ => gqv hP hD hS ht) hS.2.2 dX9_keepsAll_274
          · replace hf := ifn k274 hf
            refine lv_aload_n hx hb dX9_keepsAll_210 rfl (lv_at hl 0 rfl) ?_
            refine va_get (D := (dC, dI)) (ci := 9) (v := .ref (ad 14)) (C := RX9) (T := TX9) (N := 45) hx hb hts (fun w h => gw_mem (inX9 w h)) hown hK.1 hP 0 rfl rfl 42 (by decide) (hts _ (gw_mem wfX9_51)) (fun _ h9 => h9) rfl dX9_keepsAll_211 ?_
            refine lv_iconst (v := 2) hx hb dX9_keepsAll_214 (by decide) ?_
            refine lv_aload_n hx hb dX9_keepsAll_215 rfl (lv_at hl 0 rfl) ?_
            refine va_get (D := (dC, dI)) (ci := 9) (v := .int c_states) (C := RX9) (T := TX9) (N := 45) hx hb hts (fun w h => gw_mem (inX9 w h)) hown hK.1 hP 0 rfl rfl 40 (by decide) (hts _ (gw_mem wfX9_446)) (fun _ h9 => h9) rfl dX9_keepsAll_216 ?_
            refine lv_imul hx hb dX9_keepsAll_219 ?_
            refine lv_aload_n hx hb dX9_keepsAll_220 rfl (lv_at hl 0 rfl) ?_
            refine va_get (D := (dC, dI)) (ci := 9) (v := .long c_handPaid) (C := RX9) (T := TX9) (N := 45) hx hb hts (fun w h => gw_mem (inX9 w h)) hown hK.1 hP 0 rfl rfl 36 (by decide) (hts _ (gw_mem wfX9_419)) (fun _ h9 => h9) rfl dX9_keepsAll_221 ?_
            obtain ⟨h279, hf⟩ := og_some hf
            obtain ⟨w280, ew280⟩ : ∃ y : Nat → Int64, y = vp_updL c_keptLong (Int32.toNatClampNeg (2 * c_states)) c_handPaid := ⟨_, rfl⟩
            replace hf := nm_at hf ew280
            refine va_last hx hb hK.1 hP hD hS 14 1 rfl rfl (okI_in h279) dX9_keepsAll_224 (fun H locs hP hD hS => ?_)
            have hP : va_P (dC, dI) vwCl (mW dA ad c_tape c_taped c_tree_3 c_bonds_7 c_moves_11 c_handMoves_12 r16 c_days c_likely c_outOf c_rateNow c_pence c_top c_bottom c_spot c_textLong c_fault c_number c_numberAt c_figures c_written c_wanted c_found c_drawnNow c_worth c_hold c_way c_acts c_sDay c_sUps c_sUp c_sMarks c_paidAll 1 1 r20 c_handPaid c_regret c_aside c_other c_states c_kept_257 w280 c_keptAt_258 p1) H := by rw [ew280]; exact hP
            have hD : va_D A (mW dA ad c_tape c_taped c_tree_3 c_bonds_7 c_moves_11 c_handMoves_12 r16 c_days c_likely c_outOf c_rateNow c_pence c_top c_bottom c_spot c_textLong c_fault c_number c_numberAt c_figures c_written c_wanted c_found c_drawnNow c_worth c_hold c_way c_acts c_sDay c_sUps c_sUp c_sMarks c_paidAll 1 1 r20 c_handPaid c_regret c_aside c_other c_states c_kept_257 w280 c_keptAt_258 p1) := by rw [ew280]; exact hD
            refine lv_aload_n hx hb dX9_keepsAll_225 rfl (lv_at hl 0 rfl) ?_
            refine va_get (D := (dC, dI)) (ci := 9) (v := .ref (ad 14)) (C := RX9) (T := TX9) (N := 45) hx hb hts (fun w h => gw_mem (inX9 w h)) hown hK.1 hP 0 rfl rfl 42 (by decide) (hts _ (gw_mem wfX9_51)) (fun _ h9 => h9) rfl dX9_keepsAll_226 ?_
            refine lv_iconst (v := 2) hx hb dX9_keepsAll_229 (by decide) ?_
            refine lv_aload_n hx hb dX9_keepsAll_230 rfl (lv_at hl 0 rfl) ?_
            refine va_get (D := (dC, dI)) (ci := 9) (v := .int c_states) (C := RX9) (T := TX9) (N := 45) hx hb hts (fun w h => gw_mem (inX9 w h)) hown hK.1 hP 0 rfl rfl 40 (by decide) (hts _ (gw_mem wfX9_446)) (fun _ h9 => h9) rfl dX9_keepsAll_231 ?_
            refine lv_imul hx hb dX9_keepsAll_234 ?_
            refine lv_iconst (v := 1) hx hb dX9_keepsAll_235 (by decide) ?_
            refine lv_iadd hx hb dX9_keepsAll_236 ?_
            refine lv_aload_n hx hb dX9_keepsAll_237 rfl (lv_at hl 0 rfl) ?_
            refine va_get (D := (dC, dI)) (ci := 9) (v := .long c_regret) (C := RX9) (T := TX9) (N := 45) hx hb hts (fun w h => gw_mem (inX9 w h)) hown hK.1 hP 0 rfl rfl 37 (by decide) (hts _ (gw_mem wfX9_422)) (fun _ h9 => h9) rfl dX9_keepsAll_238 ?_
            obtain ⟨h281, hf⟩ := og_some hf
            obtain ⟨w282, ew282⟩ : ∃ y : Nat → Int64, y = vp_updL w280 (Int32.toNatClampNeg ((2 * c_states) + 1)) c_regret := ⟨_, rfl⟩
            replace hf := nm_at hf ew282
            refine va_last hx hb hK.1 hP hD hS 14 1 rfl rfl (okI_in h281) dX9_keepsAll_241 (fun H locs hP hD hS => ?_)
            have hP : va_P (dC, dI) vwCl (mW dA ad c_tape c_taped c_tree_3 c_bonds_7 c_moves_11 c_handMoves_12 r16 c_days c_likely c_outOf c_rateNow c_pence c_top c_bottom c_spot c_textLong c_fault c_number c_numberAt c_figures c_written c_wanted c_found c_drawnNow c_worth c_hold c_way c_acts c_sDay c_sUps c_sUp c_sMarks c_paidAll 1 1 r20 c_handPaid c_regret c_aside c_other c_states c_kept_257 w282 c_keptAt_258 p1) H := by rw [ew282]; exact hP
            have hD : va_D A (mW dA ad c_tape c_taped c_tree_3 c_bonds_7 c_moves_11 c_handMoves_12 r16 c_days c_likely c_outOf c_rateNow c_pence c_top c_bottom c_spot c_textLong c_fault c_number c_numberAt c_figures c_written c_wanted c_found c_drawnNow c_worth c_hold c_way c_acts c_sDay c_sUps c_sUp c_sMarks c_paidAll 1 1 r20 c_handPaid c_regret c_aside c_other c_states c_kept_257 w282 c_keptAt_258 p1) := by rw [ew282]; exact hD
            refine lv_aload_n hx hb dX9_keepsAll_242 rfl (lv_at hl 0 rfl) ?_
            refine lv_aload_n hx hb dX9_keepsAll_243 rfl (lv_at hl 0 rfl) ?_
            refine va_get (D := (dC, dI)) (ci := 9) (v := .ref (ad 14)) (C := RX9) (T := TX9) (N := 45) hx hb hts (fun w h => gw_mem (inX9 w h)) hown hK.1 hP 0 rfl rfl 42 (by decide) (hts _ (gw_mem wfX9_51)) (fun _ h9 => h9) rfl dX9_keepsAll_244 ?_
            refine lv_iconst (v := 2) hx hb dX9_keepsAll_247 (by decide) ?_
            refine lv_aload_n hx hb dX9_keepsAll_248 rfl (lv_at hl 0 rfl) ?_
            refine va_get (D := (dC, dI)) (ci := 9) (v := .int c_states) (C := RX9) (T := TX9) (N := 45) hx hb hts (fun w h => gw_mem (inX9 w h)) hown hK.1 hP 0 rfl rfl 40 (by decide) (hts _ (gw_mem wfX9_446)) (fun _ h9 => h9) rfl dX9_keepsAll_249 ?_
            refine lv_imul hx hb dX9_keepsAll_252 ?_
            obtain ⟨h283, hf⟩ := og_some hf
            refine va_lald hx hb hK.1 hP 14 1 rfl rfl (okI_in h283) dX9_keepsAll_253 ?_
            refine lv_topl (fun w284 ew284 => ?_)
            replace hf := nm_at hf ew284
            refine va_put (D := (dC, dI)) (ci := 9) (v := .long w284) (ty := .long) (C := RX9) (T := TX9) (N := 45) hx hb hts (fun w h => gw_mem (inX9 w h)) tyX9 tyX9_ok nmX9 hown hK.1 hP hD hS 0 rfl rfl 36 (by decide) (hts _ (gw_mem wfX9_419)) (fun _ h9 => h9) rfl (by decide +kernel) rfl rfl (Nat.le_of_ble_eq_true rfl) dX9_keepsAll_254 (fun H locs hP hD hS => ?_)
            have hP : va_P (dC, dI) vwCl (mW dA ad c_tape c_taped c_tree_3 c_bonds_7 c_moves_11 c_handMoves_12 r16 c_days c_likely c_outOf c_rateNow c_pence c_top c_bottom c_spot c_textLong c_fault c_number c_numberAt c_figures c_written c_wanted c_found c_drawnNow c_worth c_hold c_way c_acts c_sDay c_sUps c_sUp c_sMarks c_paidAll 1 1 r20 w284 c_regret c_aside c_other c_states c_kept_257 w282 c_keptAt_258 p1) H := hP
            have hD : va_D A (mW dA ad c_tape c_taped c_tree_3 c_bonds_7 c_moves_11 c_handMoves_12 r16 c_days c_likely c_outOf c_rateNow c_pence c_top c_bottom c_spot c_textLong c_fault c_number c_numberAt c_figures c_written c_wanted c_found c_drawnNow c_worth c_hold c_way c_acts c_sDay c_sUps c_sUp c_sMarks c_paidAll 1 1 r20 w284 c_regret c_aside c_other c_states c_kept_257 w282 c_keptAt_258 p1) := hD
            refine lv_aload_n hx hb dX9_keepsAll_257 rfl (lv_at hl 0 rfl) ?_
            refine lv_aload_n hx hb dX9_keepsAll_258 rfl (lv_at hl 0 rfl) ?_
            refine va_get (D := (dC, dI)) (ci := 9) (v := .ref (ad 14)) (C := RX9) (T := TX9) (N := 45) hx hb hts (fun w h => gw_mem (inX9 w h)) hown hK.1 hP 0 rfl rfl 42 (by decide) (hts _ (gw_mem wfX9_51)) (fun _ h9 => h9) rfl dX9_keepsAll_259 ?_
            refine lv_iconst (v := 2) hx hb dX9_keepsAll_262 (by decide) ?_
            refine lv_aload_n hx hb dX9_keepsAll_263 rfl (lv_at hl 0 rfl) ?_
            refine va_get (D := (dC, dI)) (ci := 9) (v := .int c_states) (C := RX9) (T := TX9) (N := 45) hx hb hts (fun w h => gw_mem (inX9 w h)) hown hK.1 hP 0 rfl rfl 40 (by decide) (hts _ (gw_mem wfX9_446)) (fun _ h9 => h9) rfl dX9_keepsAll_264 ?_
            refine lv_imul hx hb dX9_keepsAll_267 ?_
            refine lv_iconst (v := 1) hx hb dX9_keepsAll_268 (by decide) ?_
            refine lv_iadd hx hb dX9_keepsAll_269 ?_
            obtain ⟨h285, hf⟩ := og_some hf
            refine va_lald hx hb hK.1 hP 14 1 rfl rfl (okI_in h285) dX9_keepsAll_270 ?_
            refine lv_topl (fun w286 ew286 => ?_)
            replace hf := nm_at hf ew286
            refine va_put (D := (dC, dI)) (ci := 9) (v := .long w286) (ty := .long) (C := RX9) (T := TX9) (N := 45) hx hb hts (fun w h => gw_mem (inX9 w h)) tyX9 tyX9_ok nmX9 hown hK.1 hP hD hS 0 rfl rfl 37 (by decide) (hts _ (gw_mem wfX9_422)) (fun _ h9 => h9) rfl (by decide +kernel) rfl rfl (Nat.le_of_ble_eq_true rfl) dX9_keepsAll_271 (fun H locs hP hD hS => ?_)
            have hP : va_P (dC, dI) vwCl (mW dA ad c_tape c_taped c_tree_3 c_bonds_7 c_moves_11 c_handMoves_12 r16 c_days c_likely c_outOf c_rateNow c_pence c_top c_bottom c_spot c_textLong c_fault c_number c_numberAt c_figures c_written c_wanted c_found c_drawnNow c_worth c_hold c_way c_acts c_sDay c_sUps c_sUp c_sMarks c_paidAll 1 1 r20 w284 w286 c_aside c_other c_states c_kept_257 w282 c_keptAt_258 p1) H := hP
            have hD : va_D A (mW dA ad c_tape c_taped c_tree_3 c_bonds_7 c_moves_11 c_handMoves_12 r16 c_days c_likely c_outOf c_rateNow c_pence c_top c_bottom c_spot c_textLong c_fault c_number c_numberAt c_figures c_written c_wanted c_found c_drawnNow c_worth c_hold c_way c_acts c_sDay c_sUps c_sUp c_sMarks c_paidAll 1 1 r20 w284 w286 c_aside c_other c_states c_kept_257 w282 c_keptAt_258 p1) := hD
            cases hf
            exact W.vret hx hb hr (fun t ht _ => gqv hP hD hS ht) hS.2.2 dX9_keepsAll_274
