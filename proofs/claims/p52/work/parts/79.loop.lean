set_option maxHeartbeats 4000000 in
set_option maxRecDepth 100000 in
theorem loop_all {p : Program} {l : Launch} {e : Env} {s : State} {m : MethodId} {below : List Frame} {meth : Method} {c : Code} {b L : Nat} {xs : Nat → Int32} {dC : Nat → ClassId} {dI : Nat → Nat → Nat} {dA : Nat → ClassId} {am : Nat → Nat} {d1 d2 : Nat} {kad : Nat → Nat} (C0 : lw_At p s m meth c b L xs) (hK : gK (dC, dI) dA s) (hE : gE s) (hT : gT d1 d2 (fun q : Nat => s.heap.size ≤ q) s s.heap) (hF : gEn kad (fun q : Nat => s.heap.size ≤ q) s s.heap) (hL : L ≤ 3072) : ∀ q, St p l e s m below meth c b L xs dC dI dA am q 18 := by
  intro q
  induction q with
  | zero =>
    intro i ad ls H locs cells slots k ks ml n f Lt c_tape_size c_tape_length c_tape_place c_tape_fault c_tape_faultPlace c_tape_begin c_tape_bytes c_tape_draft_terms c_now_row c_now_tree_parts c_now_bonds0_terms c_now_bonds1_terms c_now_bonds2_terms c_now_hand_opened c_now_hand_over c_now_hand_row c_now_hand_paid c_now_hand_regret c_now_hand_tree_parts c_now_hand_bond_terms c_sheet_tree_parts c_sheet_bond_terms c_sheet_penceByUps c_sheet_pence c_sheet_turned c_sheet_called c_sheet_hold c_sheet_value c_sheet_marks c_sheet_act c_sheet_rowOfKey c_otherSheet_tree_parts c_otherSheet_bond_terms c_otherSheet_penceByUps c_otherSheet_pence c_otherSheet_turned c_otherSheet_called c_otherSheet_hold c_otherSheet_value c_otherSheet_marks c_otherSheet_act c_otherSheet_rowOfKey c_draws_x m_tape m_taped m_tree m_bonds m_moves m_handMoves m_moved m_days m_likely m_outOf m_rateNow m_pence m_top m_bottom m_spot m_textLong m_fault m_number m_numberAt m_figures m_written m_wanted m_found m_drawnNow m_worth m_hold m_way m_acts m_sDay m_sUps m_sUp m_sMarks m_paidAll m_isPlayed m_isOn m_handMoved m_handPaid m_regret m_aside m_other m_states m_kept m_keptLong m_keptAt m_isTaking hl hP hD hS hKI hTP hSn hH hn3 hL2 hc1 hc2 hiL hq hi6
    exact law_top C0 (by omega) (by omega) hl hS (fun _ => law_end C0 hS (by omega) (by omega)) (fun h => absurd h (by omega))
  | succ q ih =>
    intro i ad ls H locs cells slots k ks ml n f Lt c_tape_size c_tape_length c_tape_place c_tape_fault c_tape_faultPlace c_tape_begin c_tape_bytes c_tape_draft_terms c_now_row c_now_tree_parts c_now_bonds0_terms c_now_bonds1_terms c_now_bonds2_terms c_now_hand_opened c_now_hand_over c_now_hand_row c_now_hand_paid c_now_hand_regret c_now_hand_tree_parts c_now_hand_bond_terms c_sheet_tree_parts c_sheet_bond_terms c_sheet_penceByUps c_sheet_pence c_sheet_turned c_sheet_called c_sheet_hold c_sheet_value c_sheet_marks c_sheet_act c_sheet_rowOfKey c_otherSheet_tree_parts c_otherSheet_bond_terms c_otherSheet_penceByUps c_otherSheet_pence c_otherSheet_turned c_otherSheet_called c_otherSheet_hold c_otherSheet_value c_otherSheet_marks c_otherSheet_act c_otherSheet_rowOfKey c_draws_x m_tape m_taped m_tree m_bonds m_moves m_handMoves m_moved m_days m_likely m_outOf m_rateNow m_pence m_top m_bottom m_spot m_textLong m_fault m_number m_numberAt m_figures m_written m_wanted m_found m_drawnNow m_worth m_hold m_way m_acts m_sDay m_sUps m_sUp m_sMarks m_paidAll m_isPlayed m_isOn m_handMoved m_handPaid m_regret m_aside m_other m_states m_kept m_keptLong m_keptAt m_isTaking hl hP hD hS hKI hTP hSn hH hn3 hL2 hc1 hc2 hiL hq hi6
    refine law_top C0 (by omega) (by omega) hl hS (fun _ => law_end C0 hS (by omega) (by omega)) (fun h6 => ?_)
    refine law_disp C0 (fun j hj hx => ?_)
    match j, hj with
    | 0, _ => exact st_00 C0 hK hE hT hF hL ih hl hP hD hS hKI hTP hSn hH hn3 hL2 hc1 hc2 hiL hq (Or.inr h6)
    | 1, _ => exact st_01 C0 hK hE hT hF hL ih hl hP hD hS hKI hTP hSn hH hn3 hL2 hc1 hc2 hiL hq (Or.inr h6)
    | 2, _ => exact st_02 C0 hK hE hT hF hL ih hl hP hD hS hKI hTP hSn hH hn3 hL2 hc1 hc2 hiL hq (Or.inr h6)
    | 3, _ => exact st_03 C0 hK hE hT hF hL ih hl hP hD hS hKI hTP hSn hH hn3 hL2 hc1 hc2 hiL hq (Or.inr h6)
    | 4, _ => exact st_04 C0 hK hE hT hF hL ih hl hP hD hS hKI hTP hSn hH hn3 hL2 hc1 hc2 hiL hq (Or.inr h6)
    | 5, _ => exact st_05 C0 hK hE hT hF hL ih hl hP hD hS hKI hTP hSn hH hn3 hL2 hc1 hc2 hiL hq (Or.inr h6)
    | 6, _ => exact st_06 C0 hK hE hT hF hL ih hl hP hD hS hKI hTP hSn hH hn3 hL2 hc1 hc2 hiL hq (Or.inr h6)
    | 7, _ => exact st_07 C0 hK hE hT hF hL ih hl hP hD hS hKI hTP hSn hH hn3 hL2 hc1 hc2 hiL hq (Or.inr h6)
    | 8, _ => exact st_08 C0 hK hE hT hF hL ih hl hP hD hS hKI hTP hSn hH hn3 hL2 hc1 hc2 hiL hq (Or.inr h6)
    | 9, _ => exact st_09 C0 hK hE hT hF hL ih hl hP hD hS hKI hTP hSn hH hn3 hL2 hc1 hc2 hiL hq (Or.inr h6)
    | 10, _ => exact st_10 C0 hK hE hT hF hL ih hl hP hD hS hKI hTP hSn hH hn3 hL2 hc1 hc2 hiL hq (Or.inr h6)
    | 11, _ => exact st_11 C0 hK hE hT hF hL ih hl hP hD hS hKI hTP hSn hH hn3 hL2 hc1 hc2 hiL hq (Or.inr h6)
    | 12, _ => exact st_12 C0 hK hE hT hF hL ih hl hP hD hS hKI hTP hSn hH hn3 hL2 hc1 hc2 hiL hq (Or.inr h6)
    | 13, _ => exact st_13 C0 hK hE hT hF hL ih hl hP hD hS hKI hTP hSn hH hn3 hL2 hc1 hc2 hiL hq (Or.inr h6)
    | 14, _ => exact st_14 C0 hK hE hT hF hL ih hl hP hD hS hKI hTP hSn hH hn3 hL2 hc1 hc2 hiL hq (Or.inr h6)
    | 15, _ => exact st_15 C0 hK hE hT hF hL ih hl hP hD hS hKI hTP hSn hH hn3 hL2 hc1 hc2 hiL hq (Or.inr h6)
    | 16, _ => exact st_16 C0 hK hE hT hF hL ih hl hP hD hS hKI hTP hSn hH hn3 hL2 hc1 hc2 hiL hq (Or.inr h6)
    | 17, _ => exact st_17 C0 hK hE hT hF hL ih hl hP hD hS hKI hTP hSn hH hn3 hL2 hc1 hc2 hiL hq (Or.inr h6)
    | 18, _ => exact st_18 C0 hK hE hT hF hL ih hl hP hD hS hKI hTP hSn hH hn3 hL2 hc1 hc2 hiL hq (Or.inr h6)
    | 19, _ => exact st_19 C0 hK hE hT hF hL ih hl hP hD hS hKI hTP hSn hH hn3 hL2 hc1 hc2 hiL hq (Or.inr h6)
    | 20, _ => exact st_20 C0 hK hE hT hF hL ih hl hP hD hS hKI hTP hSn hH hn3 hL2 hc1 hc2 hiL hq (Or.inr h6)
    | 21, _ => exact st_21 C0 hK hE hT hF hL ih hl hP hD hS hKI hTP hSn hH hn3 hL2 hc1 hc2 hiL hq (Or.inr h6)
    | 22, _ => exact st_22 C0 hK hE hT hF hL ih hl hP hD hS hKI hTP hSn hH hn3 hL2 hc1 hc2 hiL hq (Or.inr h6)
    | 23, _ => exact st_23 C0 hK hE hT hF hL ih hl hP hD hS hKI hTP hSn hH hn3 hL2 hc1 hc2 hiL hq (Or.inr h6)
    | 24, _ => exact st_24 C0 hK hE hT hF hL ih hl hP hD hS hKI hTP hSn hH hn3 hL2 hc1 hc2 hiL hq (Or.inr h6)
    | 25, _ => exact st_25 C0 hK hE hT hF hL ih hl hP hD hS hKI hTP hSn hH hn3 hL2 hc1 hc2 hiL hq (Or.inr h6)
    | 26, _ => exact st_26 C0 hK hE hT hF hL ih hl hP hD hS hKI hTP hSn hH hn3 hL2 hc1 hc2 hiL hq (Or.inr h6)
    | 27, _ => exact st_27 C0 hK hE hT hF hL ih hl hP hD hS hKI hTP hSn hH hn3 hL2 hc1 hc2 hiL hq (Or.inr h6)
    | 28, _ => exact st_28 C0 hK hE hT hF hL ih hl hP hD hS hKI hTP hSn hH hn3 hL2 hc1 hc2 hiL hq (Or.inr h6)
    | 29, _ => exact st_29 C0 hK hE hT hF hL ih hl hP hD hS hKI hTP hSn hH hn3 hL2 hc1 hc2 hiL hq (Or.inr h6)
    | 30, _ => exact st_30 C0 hK hE hT hF hL ih hl hP hD hS hKI hTP hSn hH hn3 hL2 hc1 hc2 hiL hq (Or.inr h6)
    | 31, _ => exact st_31 C0 hK hE hT hF hL ih hl hP hD hS hKI hTP hSn hH hn3 hL2 hc1 hc2 hiL hq (Or.inr h6)
    | 32, _ => exact st_32 C0 hK hE hT hF hL ih hl hP hD hS hKI hTP hSn hH hn3 hL2 hc1 hc2 hiL hq (Or.inr h6)
    | 33, _ => exact st_33 C0 hK hE hT hF hL ih hl hP hD hS hKI hTP hSn hH hn3 hL2 hc1 hc2 hiL hq (Or.inr h6)
    | 34, _ => exact st_34 C0 hK hE hT hF hL ih hl hP hD hS hKI hTP hSn hH hn3 hL2 hc1 hc2 hiL hq (Or.inr h6)
    | 35, _ => exact st_35 C0 hK hE hT hF hL ih hl hP hD hS hKI hTP hSn hH hn3 hL2 hc1 hc2 hiL hq (Or.inr h6)
    | 36, _ => exact st_36 C0 hK hE hT hF hL ih hl hP hD hS hKI hTP hSn hH hn3 hL2 hc1 hc2 hiL hq (Or.inr h6)
    | 37, _ => exact st_37 C0 hK hE hT hF hL ih hl hP hD hS hKI hTP hSn hH hn3 hL2 hc1 hc2 hiL hq (Or.inr h6)
    | 38, _ => exact st_38 C0 hK hE hT hF hL ih hl hP hD hS hKI hTP hSn hH hn3 hL2 hc1 hc2 hiL hq (Or.inr h6)
    | 39, _ => exact st_39 C0 hK hE hT hF hL ih hl hP hD hS hKI hTP hSn hH hn3 hL2 hc1 hc2 hiL hq (Or.inr h6)
    | 40, _ => exact st_40 C0 hK hE hT hF hL ih hl hP hD hS hKI hTP hSn hH hn3 hL2 hc1 hc2 hiL hq (Or.inr h6)
    | 41, _ => exact st_41 C0 hK hE hT hF hL ih hl hP hD hS hKI hTP hSn hH hn3 hL2 hc1 hc2 hiL hq (Or.inr h6)
    | 42, _ => exact st_42 C0 hK hE hT hF hL ih hl hP hD hS hKI hTP hSn hH hn3 hL2 hc1 hc2 hiL hq (Or.inr h6)
    | 43, _ => exact st_43 C0 hK hE hT hF hL ih hl hP hD hS hKI hTP hSn hH hn3 hL2 hc1 hc2 hiL hq (Or.inr h6)
    | 44, _ => exact st_44 C0 hK hE hT hF hL ih hl hP hD hS hKI hTP hSn hH hn3 hL2 hc1 hc2 hiL hq (Or.inr h6)
    | 45, _ => exact st_45 C0 hK hE hT hF hL ih hl hP hD hS hKI hTP hSn hH hn3 hL2 hc1 hc2 hiL hq (Or.inr h6)
    | 46, _ => exact st_46 C0 hK hE hT hF hL ih hl hP hD hS hKI hTP hSn hH hn3 hL2 hc1 hc2 hiL hq (Or.inr h6)
    | 47, _ => exact st_47 C0 hK hE hT hF hL ih hl hP hD hS hKI hTP hSn hH hn3 hL2 hc1 hc2 hiL hq (Or.inr h6)
    | 48, _ => exact st_48 C0 hK hE hT hF hL ih hl hP hD hS hKI hTP hSn hH hn3 hL2 hc1 hc2 hiL hq (Or.inr h6)
    | 49, _ => exact st_49 C0 hK hE hT hF hL ih hl hP hD hS hKI hTP hSn hH hn3 hL2 hc1 hc2 hiL hq (Or.inr h6)
    | 50, _ => exact st_50 C0 hK hE hT hF hL ih hl hP hD hS hKI hTP hSn hH hn3 hL2 hc1 hc2 hiL hq (Or.inr h6)
    | 51, _ => exact st_51 C0 hK hE hT hF hL ih hl hP hD hS hKI hTP hSn hH hn3 hL2 hc1 hc2 hiL hq (Or.inr h6)
    | 52, _ => exact st_52 C0 hK hE hT hF hL ih hl hP hD hS hKI hTP hSn hH hn3 hL2 hc1 hc2 hiL hq (Or.inr h6)
    | 53, _ => exact st_53 C0 hK hE hT hF hL ih hl hP hD hS hKI hTP hSn hH hn3 hL2 hc1 hc2 hiL hq (Or.inr h6)
    | n9 + 54, _ =>
      have e9 : lwT (n9 + 54) = 2323 := by
        unfold lwT
        rw [List.getD_eq_getElem?_getD, List.getElem?_eq_none (by show 54 ≤ n9 + 54; omega)]
        rfl
      rw [e9]
      exact law_next C0 hl (fun ls hl => ih hl hP hD hS hKI hTP hSn hH hn3 hL2 (by omega) (by omega) (by omega) (by omega) (Or.inl rfl))
theorem kp_nil : (fun _ => none : Nat → Option Nat) = kp [] := by
  funext i
  rfl
set_option maxHeartbeats 4000000 in
set_option maxRecDepth 100000 in
/-- the law, from its entry -/
theorem whole_start {p : Program} {e : Env} {s : State} {m : MethodId} {below : List Frame} {meth : Method} {c : Code} (l : Launch) (hflags : l.flags = flags0) {b L : Nat} {xs : Nat → Int32} (hL : L ≤ 3072) (C0 : lw_At p s m meth c b L xs) : W p l e room_1 s m #[Value.ref b] below meth c s.heap [] 0 0 (lw_Z below #[Value.ref b] s) (entryFrame m ([Value.ref b] : List Value).toArray 4) := by
  refine law_begin fx9e C0 (fun dC dI dA d1 d2 kad ad am H locs ls hK hE hT hF hl hP hD hS => ?_)
  rw [kp_nil] at hP hD
  have Z := @loop_all p l e s m below meth c b L xs dC dI dA am d1 d2 kad C0 hK hE hT hF hL 512
  unfold St at Z
  exact Z (k := 0) (ks := []) (Lt := []) hl hP hD hS KI0 fT0 Sn0 sbH0 (by omega) (by decide) (by omega) (by omega) (Nat.zero_le _) (by omega) (Or.inl rfl)
