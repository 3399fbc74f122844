set_option maxHeartbeats 4000000 in
set_option maxRecDepth 100000 in
/-- the law, from its entry: at most one call -/
theorem whole_start {p : Program} {e : Env} {s : State} {m : MethodId} {below : List Frame} {meth : Method} {c : Code} (l : Launch) (hflags : l.flags = flags0) {b L : Nat} {xs : Nat → Int32} (hL : L ≤ 6) (C0 : lw_At p s m meth c b L xs) : W p l e room_1 s m #[Value.ref b] below meth c s.heap [] 0 0 (lw_Z below #[Value.ref b] s) (entryFrame m ([Value.ref b] : List Value).toArray 4) := by
  refine law_begin fx9e C0 (fun dC dI dA d1 d2 kad ad am H locs ls hK hE hT hF hl hP hD hS => ?_)
  refine law_top C0 (Nat.zero_le _) (by omega) hl hS (fun _ => law_end C0 hS (by omega) (by omega)) (fun h6 => ?_)
  refine law_disp C0 (fun j hj hx => ?_)
  have hL31 : L < 2 ^ 31 := by omega
  match j, hj with
  | 0, _ =>
    obtain ⟨r1, o_c_tape_size, o_c_tape_bytes, r2, n_tape, n_taped, hf, hg, hrr⟩ := pu_00 xs 0
    exact law_00 (i := 0) C0 hK hF h6 hL31 (by omega) (by omega) hl hP hD hS hf hg hrr (fun H locs hP hD hS => law_next C0 hl (fun ls hl => law_top C0 (by omega) (by omega) hl hS (fun _ => law_end C0 hS (by omega) (by omega)) (fun h => absurd h (by omega))))
  | 1, _ =>
    obtain ⟨r1, o_c_now_row, o_c_now_tree_parts, r2, n_tree, n_moved, hf, hg, hrr⟩ := pu_01 xs 0
    exact law_01 (i := 0) C0 hK hF h6 hL31 (by omega) (by omega) hl hP hD hS hf hg hrr (fun H locs hP hD hS => law_next C0 hl (fun ls hl => law_top C0 (by omega) (by omega) hl hS (fun _ => law_end C0 hS (by omega) (by omega)) (fun h => absurd h (by omega))))
  | 2, _ =>
    obtain ⟨r1, o_c_now_tree_parts, r2, n_tree, hf, hg, hrr⟩ := pu_02 xs 0
    exact law_02 (i := 0) C0 hK hF h6 hL31 (by omega) (by omega) hl hP hD hS hf hg hrr (fun H locs hP hD hS => law_next C0 hl (fun ls hl => law_top C0 (by omega) (by omega) hl hS (fun _ => law_end C0 hS (by omega) (by omega)) (fun h => absurd h (by omega))))
  | 3, _ =>
    obtain ⟨r1, o_c_now_tree_parts, r2, n_tree, hf, hg, hrr⟩ := pu_03 xs 0
    exact law_03 (i := 0) C0 hK hF h6 hL31 (by omega) (by omega) hl hP hD hS hf hg hrr (fun H locs hP hD hS => law_next C0 hl (fun ls hl => law_top C0 (by omega) (by omega) hl hS (fun _ => law_end C0 hS (by omega) (by omega)) (fun h => absurd h (by omega))))
  | 4, _ =>
    obtain ⟨r1, o_c_now_tree_parts, r2, n_tree, hf, hg, hrr⟩ := pu_04 xs 0
    exact law_04 (i := 0) C0 hK hF h6 hL31 (by omega) (by omega) hl hP hD hS hf hg hrr (fun H locs hP hD hS => law_next C0 hl (fun ls hl => law_top C0 (by omega) (by omega) hl hS (fun _ => law_end C0 hS (by omega) (by omega)) (fun h => absurd h (by omega))))
  | 5, _ =>
    obtain ⟨r1, r2, n_top, n_bottom, hf, hg, hrr⟩ := pu_05 xs 0
    exact law_05 (i := 0) C0 hK hF h6 hL31 (by omega) (by omega) hl hP hD hS hf hg hrr (fun H locs hP hD hS => law_next C0 hl (fun ls hl => law_top C0 (by omega) (by omega) hl hS (fun _ => law_end C0 hS (by omega) (by omega)) (fun h => absurd h (by omega))))
  | 6, _ =>
    obtain ⟨r1, o_c_now_bonds0_terms, o_c_now_bonds1_terms, o_c_now_bonds2_terms, r2, n_bonds, hf, hg, hrr⟩ := pu_06 xs 0
    exact law_06 (i := 0) C0 hK hF h6 hL31 (by omega) (by omega) hl hP hD hS hf hg hrr (fun H locs hP hD hS => law_next C0 hl (fun ls hl => law_top C0 (by omega) (by omega) hl hS (fun _ => law_end C0 hS (by omega) (by omega)) (fun h => absurd h (by omega))))
  | 7, _ =>
    obtain ⟨r1, o_c_now_bonds0_terms, o_c_now_bonds1_terms, o_c_now_bonds2_terms, r2, n_bonds, hf, hg, hrr⟩ := pu_07 xs 0
    exact law_07 (i := 0) C0 hK hF h6 hL31 (by omega) (by omega) hl hP hD hS hf hg hrr (fun H locs hP hD hS => law_next C0 hl (fun ls hl => law_top C0 (by omega) (by omega) hl hS (fun _ => law_end C0 hS (by omega) (by omega)) (fun h => absurd h (by omega))))
  | 8, _ =>
    obtain ⟨r1, o_c_now_bonds0_terms, o_c_now_bonds1_terms, o_c_now_bonds2_terms, r2, n_bonds, hf, hg, hrr⟩ := pu_08 xs 0
    exact law_08 (i := 0) C0 hK hF h6 hL31 (by omega) (by omega) hl hP hD hS hf hg hrr (fun H locs hP hD hS => law_next C0 hl (fun ls hl => law_top C0 (by omega) (by omega) hl hS (fun _ => law_end C0 hS (by omega) (by omega)) (fun h => absurd h (by omega))))
  | 9, _ =>
    obtain ⟨r1, o_c_now_bonds0_terms, o_c_now_bonds1_terms, o_c_now_bonds2_terms, r2, n_bonds, hf, hg, hrr⟩ := pu_09 xs 0
    exact law_09 (i := 0) C0 hK hF h6 hL31 (by omega) (by omega) hl hP hD hS hf hg hrr (fun H locs hP hD hS => law_next C0 hl (fun ls hl => law_top C0 (by omega) (by omega) hl hS (fun _ => law_end C0 hS (by omega) (by omega)) (fun h => absurd h (by omega))))
  | 10, _ =>
    obtain ⟨r1, o_c_now_bonds0_terms, o_c_now_bonds1_terms, o_c_now_bonds2_terms, r2, n_bonds, hf, hg, hrr⟩ := pu_10 xs 0
    exact law_10 (i := 0) C0 hK hF h6 hL31 (by omega) (by omega) hl hP hD hS hf hg hrr (fun H locs hP hD hS => law_next C0 hl (fun ls hl => law_top C0 (by omega) (by omega) hl hS (fun _ => law_end C0 hS (by omega) (by omega)) (fun h => absurd h (by omega))))
  | 11, _ =>
    obtain ⟨r1, o_c_now_bonds0_terms, o_c_now_bonds1_terms, o_c_now_bonds2_terms, r2, n_bonds, hf, hg, hrr⟩ := pu_11 xs 0
    exact law_11 (i := 0) C0 hK hF h6 hL31 (by omega) (by omega) hl hP hD hS hf hg hrr (fun H locs hP hD hS => law_next C0 hl (fun ls hl => law_top C0 (by omega) (by omega) hl hS (fun _ => law_end C0 hS (by omega) (by omega)) (fun h => absurd h (by omega))))
  | 12, _ =>
    obtain ⟨r1, o_c_now_bonds0_terms, o_c_now_bonds1_terms, o_c_now_bonds2_terms, r2, n_bonds, hf, hg, hrr⟩ := pu_12 xs 0
    exact law_12 (i := 0) C0 hK hF h6 hL31 (by omega) (by omega) hl hP hD hS hf hg hrr (fun H locs hP hD hS => law_next C0 hl (fun ls hl => law_top C0 (by omega) (by omega) hl hS (fun _ => law_end C0 hS (by omega) (by omega)) (fun h => absurd h (by omega))))
  | 13, _ =>
    obtain ⟨r1, o_c_tape_size, o_c_tape_length, o_c_tape_place, o_c_tape_fault, o_c_tape_faultPlace, o_c_tape_begin, o_c_tape_draft_terms, o_c_now_bonds0_terms, o_c_now_bonds1_terms, o_c_now_bonds2_terms, r2, n_taped, n_bonds, n_spot, n_textLong, n_fault, n_number, n_numberAt, n_figures, hf, hg, hrr⟩ := pu_13 xs 0
    exact law_13 (i := 0) C0 hK hF h6 hL31 (by omega) (by omega) hl hP hD hS hf hg hrr (fun H locs hP hD hS => law_next C0 hl (fun ls hl => law_top C0 (by omega) (by omega) hl hS (fun _ => law_end C0 hS (by omega) (by omega)) (fun h => absurd h (by omega))))
  | 14, _ =>
    obtain ⟨r1, r2, hf, hg, hrr⟩ := pu_14 xs 0
    exact law_14 (i := 0) C0 hK hF h6 hL31 (by omega) (by omega) hl hP hD hS hf hg hrr (fun H locs hP hD hS => law_next C0 hl (fun ls hl => law_top C0 (by omega) (by omega) hl hS (fun _ => law_end C0 hS (by omega) (by omega)) (fun h => absurd h (by omega))))
  | 15, _ =>
    obtain ⟨r1, o_c_now_bonds0_terms, o_c_now_bonds1_terms, o_c_now_bonds2_terms, r2, n_bonds, hf, hg, hrr⟩ := pu_15 xs 0
    exact law_15 (i := 0) C0 hK hF h6 hL31 (by omega) (by omega) hl hP hD hS hf hg hrr (fun H locs hP hD hS => law_next C0 hl (fun ls hl => law_top C0 (by omega) (by omega) hl hS (fun _ => law_end C0 hS (by omega) (by omega)) (fun h => absurd h (by omega))))
  | 16, _ =>
    obtain ⟨r1, o_c_tape_size, o_c_now_row, r2, n_taped, n_moves, n_moved, hf, hg, hrr⟩ := pu_16 xs 0
    exact law_16 (i := 0) C0 hK hF h6 hL31 (by omega) (by omega) hl hP hD hS hf hg hrr (fun H locs hP hD hS => law_next C0 hl (fun ls hl => law_top C0 (by omega) (by omega) hl hS (fun _ => law_end C0 hS (by omega) (by omega)) (fun h => absurd h (by omega))))
  | 17, _ =>
    obtain ⟨r1, o_c_now_row, o_c_draws_x, r2, n_moves, n_moved, n_drawnNow, hf, hg, hrr⟩ := pu_17 xs 0
    exact law_17 (i := 0) C0 hK hF h6 hL31 (by omega) (by omega) hl hP hD hS hf hg hrr (fun H locs hP hD hS => law_next C0 hl (fun ls hl => law_top C0 (by omega) (by omega) hl hS (fun _ => law_end C0 hS (by omega) (by omega)) (fun h => absurd h (by omega))))
  | 18, _ =>
    obtain ⟨r1, r2, hf, hg, hrr⟩ := pu_18 xs 0
    exact law_18 (i := 0) C0 hK hF h6 hL31 (by omega) (by omega) hl hP hD hS hf hg hrr (fun H locs hP hD hS => law_next C0 hl (fun ls hl => law_top C0 (by omega) (by omega) hl hS (fun _ => law_end C0 hS (by omega) (by omega)) (fun h => absurd h (by omega))))
  | 19, _ =>
    obtain ⟨r1, o_c_sheet_tree_parts, o_c_sheet_bond_terms, o_c_sheet_penceByUps, o_c_sheet_pence, o_c_sheet_turned, o_c_sheet_called, o_c_sheet_hold, o_c_sheet_value, o_c_sheet_marks, o_c_sheet_act, r2, n_days, n_likely, n_outOf, n_rateNow, n_pence, n_top, n_bottom, n_worth, n_hold, n_acts, n_sDay, n_sUps, n_sUp, n_sMarks, hf, hg, hrr⟩ := pu_19 xs 0
    exact law_19 (i := 0) C0 hK hF h6 hL31 (by omega) (by omega) hl hP hD hS hf hg hrr (fun H locs hP hD hS => law_next C0 hl (fun ls hl => law_top C0 (by omega) (by omega) hl hS (fun _ => law_end C0 hS (by omega) (by omega)) (fun h => absurd h (by omega))))
  | 20, _ =>
    obtain ⟨r1, o_c_sheet_tree_parts, o_c_sheet_bond_terms, o_c_sheet_penceByUps, o_c_sheet_pence, o_c_sheet_turned, o_c_sheet_called, o_c_sheet_hold, o_c_sheet_value, o_c_sheet_marks, o_c_sheet_act, r2, n_days, n_likely, n_outOf, n_rateNow, n_pence, n_top, n_bottom, n_worth, n_hold, n_acts, n_sDay, n_sUps, n_sUp, n_sMarks, hf, hg, hrr⟩ := pu_20 xs 0
    exact law_20 (i := 0) C0 hK hF h6 hL31 (by omega) (by omega) hl hP hD hS hf hg hrr (fun H locs hP hD hS => law_next C0 hl (fun ls hl => law_top C0 (by omega) (by omega) hl hS (fun _ => law_end C0 hS (by omega) (by omega)) (fun h => absurd h (by omega))))
  | 21, _ =>
    obtain ⟨r1, o_c_sheet_tree_parts, o_c_sheet_bond_terms, o_c_sheet_penceByUps, o_c_sheet_pence, o_c_sheet_turned, o_c_sheet_called, o_c_sheet_hold, o_c_sheet_value, o_c_sheet_marks, o_c_sheet_act, r2, n_days, n_likely, n_outOf, n_rateNow, n_pence, n_top, n_bottom, n_worth, n_hold, n_acts, n_sDay, n_sUps, n_sUp, n_sMarks, hf, hg, hrr⟩ := pu_21 xs 0
    exact law_21 (i := 0) C0 hK hF h6 hL31 (by omega) (by omega) hl hP hD hS hf hg hrr (fun H locs hP hD hS => law_next C0 hl (fun ls hl => law_top C0 (by omega) (by omega) hl hS (fun _ => law_end C0 hS (by omega) (by omega)) (fun h => absurd h (by omega))))
  | 22, _ =>
    obtain ⟨r1, o_c_sheet_tree_parts, o_c_sheet_bond_terms, o_c_sheet_penceByUps, o_c_sheet_pence, o_c_sheet_turned, o_c_sheet_called, o_c_sheet_hold, o_c_sheet_value, o_c_sheet_marks, o_c_sheet_act, r2, n_days, n_likely, n_outOf, n_rateNow, n_pence, n_top, n_bottom, n_worth, n_hold, n_acts, n_sDay, n_sUps, n_sUp, n_sMarks, n_paidAll, hf, hg, hrr⟩ := pu_22 xs 0
    exact law_22 (i := 0) C0 hK hF h6 hL31 (by omega) (by omega) hl hP hD hS hf hg hrr (fun H locs hP hD hS => law_next C0 hl (fun ls hl => law_top C0 (by omega) (by omega) hl hS (fun _ => law_end C0 hS (by omega) (by omega)) (fun h => absurd h (by omega))))
  | 23, _ =>
    obtain ⟨r1, o_c_sheet_tree_parts, o_c_sheet_bond_terms, o_c_sheet_penceByUps, o_c_sheet_pence, o_c_sheet_turned, o_c_sheet_called, o_c_sheet_hold, o_c_sheet_value, o_c_sheet_marks, o_c_sheet_act, r2, n_bonds, n_days, n_likely, n_outOf, n_rateNow, n_pence, n_top, n_bottom, n_worth, n_hold, n_acts, hf, hg, hrr⟩ := pu_23 xs 0
    exact law_23 (i := 0) C0 hK hF h6 hL31 (by omega) (by omega) hl hP hD hS hf hg hrr (fun H locs hP hD hS => law_next C0 hl (fun ls hl => law_top C0 (by omega) (by omega) hl hS (fun _ => law_end C0 hS (by omega) (by omega)) (fun h => absurd h (by omega))))
  | 24, _ =>
    obtain ⟨r1, o_c_sheet_tree_parts, o_c_sheet_bond_terms, o_c_sheet_penceByUps, o_c_sheet_pence, o_c_sheet_turned, o_c_sheet_called, o_c_sheet_hold, o_c_sheet_value, o_c_sheet_marks, o_c_sheet_act, r2, n_bonds, n_days, n_likely, n_outOf, n_rateNow, n_pence, n_top, n_bottom, n_worth, n_hold, n_acts, hf, hg, hrr⟩ := pu_24 xs 0
    exact law_24 (i := 0) C0 hK hF h6 hL31 (by omega) (by omega) hl hP hD hS hf hg hrr (fun H locs hP hD hS => law_next C0 hl (fun ls hl => law_top C0 (by omega) (by omega) hl hS (fun _ => law_end C0 hS (by omega) (by omega)) (fun h => absurd h (by omega))))
  | 25, _ =>
    obtain ⟨r1, o_c_sheet_tree_parts, o_c_sheet_bond_terms, o_c_sheet_penceByUps, o_c_sheet_pence, o_c_sheet_turned, o_c_sheet_called, o_c_sheet_hold, o_c_sheet_value, o_c_sheet_marks, o_c_sheet_act, r2, n_days, n_likely, n_outOf, n_rateNow, n_pence, n_top, n_bottom, n_worth, n_hold, n_way, n_acts, hf, hg, hrr⟩ := pu_25 xs 0
    exact law_25 (i := 0) C0 hK hF h6 hL31 (by omega) (by omega) hl hP hD hS hf hg hrr (fun H locs hP hD hS => law_next C0 hl (fun ls hl => law_top C0 (by omega) (by omega) hl hS (fun _ => law_end C0 hS (by omega) (by omega)) (fun h => absurd h (by omega))))
  | 26, _ =>
    obtain ⟨r1, o_c_sheet_tree_parts, o_c_sheet_bond_terms, o_c_sheet_penceByUps, o_c_sheet_pence, o_c_sheet_turned, o_c_sheet_called, o_c_sheet_hold, o_c_sheet_value, o_c_sheet_marks, o_c_sheet_act, r2, n_days, n_likely, n_outOf, n_rateNow, n_pence, n_top, n_bottom, n_worth, n_hold, n_way, n_acts, hf, hg, hrr⟩ := pu_26 xs 0
    exact law_26 (i := 0) C0 hK hF h6 hL31 (by omega) (by omega) hl hP hD hS hf hg hrr (fun H locs hP hD hS => law_next C0 hl (fun ls hl => law_top C0 (by omega) (by omega) hl hS (fun _ => law_end C0 hS (by omega) (by omega)) (fun h => absurd h (by omega))))
  | 27, _ =>
    obtain ⟨r1, o_c_sheet_tree_parts, o_c_sheet_bond_terms, o_c_sheet_penceByUps, o_c_sheet_pence, o_c_sheet_turned, o_c_sheet_called, o_c_sheet_hold, o_c_sheet_value, o_c_sheet_marks, o_c_sheet_act, o_c_sheet_rowOfKey, r2, n_days, n_likely, n_outOf, n_rateNow, n_pence, n_top, n_bottom, n_worth, n_hold, n_way, n_acts, hf, hg, hrr⟩ := pu_27 xs 0
    exact law_27 (i := 0) C0 hK hF h6 hL31 (by omega) (by omega) hl hP hD hS hf hg hrr (fun H locs hP hD hS => law_next C0 hl (fun ls hl => law_top C0 (by omega) (by omega) hl hS (fun _ => law_end C0 hS (by omega) (by omega)) (fun h => absurd h (by omega))))
  | 28, _ =>
    obtain ⟨r1, o_c_sheet_tree_parts, o_c_sheet_bond_terms, o_c_sheet_penceByUps, o_c_sheet_pence, o_c_sheet_turned, o_c_sheet_called, o_c_sheet_hold, o_c_sheet_value, o_c_sheet_marks, o_c_sheet_act, o_c_sheet_rowOfKey, r2, n_days, n_likely, n_outOf, n_rateNow, n_pence, n_top, n_bottom, n_worth, n_hold, n_way, n_acts, hf, hg, hrr⟩ := pu_28 xs 0
    exact law_28 (i := 0) C0 hK hF h6 hL31 (by omega) (by omega) hl hP hD hS hf hg hrr (fun H locs hP hD hS => law_next C0 hl (fun ls hl => law_top C0 (by omega) (by omega) hl hS (fun _ => law_end C0 hS (by omega) (by omega)) (fun h => absurd h (by omega))))
  | 29, _ =>
    obtain ⟨r1, o_c_sheet_tree_parts, o_c_sheet_bond_terms, o_c_sheet_penceByUps, o_c_sheet_pence, o_c_sheet_turned, o_c_sheet_called, o_c_sheet_hold, o_c_sheet_value, o_c_sheet_marks, o_c_sheet_act, r2, n_days, n_likely, n_outOf, n_rateNow, n_pence, n_top, n_bottom, n_worth, n_hold, n_acts, n_sDay, n_sUps, n_sUp, n_sMarks, hf, hg, hrr⟩ := pu_29 xs 0
    exact law_29 (i := 0) C0 hK hF h6 hL31 (by omega) (by omega) hl hP hD hS hf hg hrr (fun H locs hP hD hS => law_next C0 hl (fun ls hl => law_top C0 (by omega) (by omega) hl hS (fun _ => law_end C0 hS (by omega) (by omega)) (fun h => absurd h (by omega))))
  | 30, _ =>
    obtain ⟨r1, o_c_sheet_tree_parts, o_c_sheet_bond_terms, o_c_sheet_penceByUps, o_c_sheet_pence, o_c_sheet_turned, o_c_sheet_called, o_c_sheet_hold, o_c_sheet_value, o_c_sheet_marks, o_c_sheet_act, r2, n_bonds, n_days, n_likely, n_outOf, n_rateNow, n_pence, n_top, n_bottom, n_worth, n_hold, n_acts, hf, hg, hrr⟩ := pu_30 xs 0
    exact law_30 (i := 0) C0 hK hF h6 hL31 (by omega) (by omega) hl hP hD hS hf hg hrr (fun H locs hP hD hS => law_next C0 hl (fun ls hl => law_top C0 (by omega) (by omega) hl hS (fun _ => law_end C0 hS (by omega) (by omega)) (fun h => absurd h (by omega))))
  | 31, _ =>
    obtain ⟨r1, o_c_sheet_tree_parts, o_c_sheet_bond_terms, o_c_sheet_penceByUps, o_c_sheet_pence, o_c_sheet_turned, o_c_sheet_called, o_c_sheet_hold, o_c_sheet_value, o_c_sheet_marks, o_c_sheet_act, r2, n_bonds, n_days, n_likely, n_outOf, n_rateNow, n_pence, n_top, n_bottom, n_worth, n_hold, n_acts, hf, hg, hrr⟩ := pu_31 xs 0
    exact law_31 (i := 0) C0 hK hF h6 hL31 (by omega) (by omega) hl hP hD hS hf hg hrr (fun H locs hP hD hS => law_next C0 hl (fun ls hl => law_top C0 (by omega) (by omega) hl hS (fun _ => law_end C0 hS (by omega) (by omega)) (fun h => absurd h (by omega))))
  | 32, _ =>
    obtain ⟨r1, o_c_sheet_tree_parts, o_c_sheet_bond_terms, o_c_sheet_penceByUps, o_c_sheet_pence, o_c_sheet_turned, o_c_sheet_called, o_c_sheet_hold, o_c_sheet_value, o_c_sheet_marks, o_c_sheet_act, r2, n_bonds, n_days, n_likely, n_outOf, n_rateNow, n_pence, n_top, n_bottom, n_worth, n_hold, n_acts, hf, hg, hrr⟩ := pu_32 xs 0
    exact law_32 (i := 0) C0 hK hF h6 hL31 (by omega) (by omega) hl hP hD hS hf hg hrr (fun H locs hP hD hS => law_next C0 hl (fun ls hl => law_top C0 (by omega) (by omega) hl hS (fun _ => law_end C0 hS (by omega) (by omega)) (fun h => absurd h (by omega))))
  | 33, _ =>
    obtain ⟨r1, o_c_sheet_tree_parts, o_c_sheet_bond_terms, o_c_sheet_penceByUps, o_c_sheet_pence, o_c_sheet_turned, o_c_sheet_called, o_c_sheet_hold, o_c_sheet_value, o_c_sheet_marks, o_c_sheet_act, r2, n_bonds, n_days, n_likely, n_outOf, n_rateNow, n_pence, n_top, n_bottom, n_worth, n_hold, n_acts, hf, hg, hrr⟩ := pu_33 xs 0
    exact law_33 (i := 0) C0 hK hF h6 hL31 (by omega) (by omega) hl hP hD hS hf hg hrr (fun H locs hP hD hS => law_next C0 hl (fun ls hl => law_top C0 (by omega) (by omega) hl hS (fun _ => law_end C0 hS (by omega) (by omega)) (fun h => absurd h (by omega))))
  | 34, _ =>
    obtain ⟨r1, o_c_sheet_tree_parts, o_c_sheet_bond_terms, o_c_sheet_penceByUps, o_c_sheet_pence, o_c_sheet_turned, o_c_sheet_called, o_c_sheet_hold, o_c_sheet_value, o_c_sheet_marks, o_c_sheet_act, r2, n_days, n_likely, n_outOf, n_rateNow, n_pence, n_top, n_bottom, n_worth, n_hold, n_acts, hf, hg, hrr⟩ := pu_34 xs 0
    exact law_34 (i := 0) C0 hK hF h6 hL31 (by omega) (by omega) hl hP hD hS hf hg hrr (fun H locs hP hD hS => law_next C0 hl (fun ls hl => law_top C0 (by omega) (by omega) hl hS (fun _ => law_end C0 hS (by omega) (by omega)) (fun h => absurd h (by omega))))
  | 35, _ =>
    obtain ⟨r1, o_c_sheet_tree_parts, o_c_sheet_bond_terms, o_c_sheet_penceByUps, o_c_sheet_pence, o_c_sheet_turned, o_c_sheet_called, o_c_sheet_hold, o_c_sheet_value, o_c_sheet_marks, o_c_sheet_act, r2, n_days, n_likely, n_outOf, n_rateNow, n_pence, n_top, n_bottom, n_worth, n_hold, n_acts, n_sDay, n_sUps, n_sUp, n_sMarks, hf, hg, hrr⟩ := pu_35 xs 0
    exact law_35 (i := 0) C0 hK hF h6 hL31 (by omega) (by omega) hl hP hD hS hf hg hrr (fun H locs hP hD hS => law_next C0 hl (fun ls hl => law_top C0 (by omega) (by omega) hl hS (fun _ => law_end C0 hS (by omega) (by omega)) (fun h => absurd h (by omega))))
  | 36, _ =>
    obtain ⟨r1, o_c_sheet_tree_parts, o_c_sheet_bond_terms, o_c_sheet_penceByUps, o_c_sheet_pence, o_c_sheet_turned, o_c_sheet_called, o_c_sheet_hold, o_c_sheet_value, o_c_sheet_marks, o_c_sheet_act, r2, n_days, n_likely, n_outOf, n_rateNow, n_pence, n_top, n_bottom, n_worth, n_hold, n_acts, hf, hg, hrr⟩ := pu_36 xs 0
    exact law_36 (i := 0) C0 hK hF h6 hL31 (by omega) (by omega) hl hP hD hS hf hg hrr (fun H locs hP hD hS => law_next C0 hl (fun ls hl => law_top C0 (by omega) (by omega) hl hS (fun _ => law_end C0 hS (by omega) (by omega)) (fun h => absurd h (by omega))))
  | 37, _ =>
    obtain ⟨r1, o_c_now_hand_opened, o_c_now_hand_over, o_c_now_hand_row, o_c_now_hand_paid, o_c_now_hand_regret, o_c_now_hand_tree_parts, o_c_now_hand_bond_terms, o_c_sheet_tree_parts, o_c_sheet_bond_terms, o_c_sheet_penceByUps, o_c_sheet_pence, o_c_sheet_turned, o_c_sheet_called, o_c_sheet_hold, o_c_sheet_value, o_c_sheet_marks, o_c_sheet_act, r2, n_tree, n_bonds, n_days, n_likely, n_outOf, n_rateNow, n_pence, n_top, n_bottom, n_worth, n_hold, n_acts, n_sDay, n_sUps, n_sUp, n_sMarks, n_isPlayed, n_isOn, n_handMoved, n_handPaid, n_regret, hf, hg, hrr⟩ := pu_37 xs 0
    exact law_37 (i := 0) C0 hK hF h6 hL31 (by omega) (by omega) hl hP hD hS hf hg hrr (fun H locs hP hD hS => law_next C0 hl (fun ls hl => law_top C0 (by omega) (by omega) hl hS (fun _ => law_end C0 hS (by omega) (by omega)) (fun h => absurd h (by omega))))
  | 38, _ =>
    obtain ⟨r1, o_c_now_hand_row, o_c_now_hand_paid, o_c_now_hand_regret, o_c_sheet_tree_parts, o_c_sheet_bond_terms, o_c_sheet_penceByUps, o_c_sheet_pence, o_c_sheet_turned, o_c_sheet_called, o_c_sheet_hold, o_c_sheet_value, o_c_sheet_marks, o_c_sheet_act, r2, n_handMoves, n_days, n_likely, n_outOf, n_rateNow, n_pence, n_top, n_bottom, n_worth, n_hold, n_acts, n_sDay, n_sUps, n_sUp, n_sMarks, n_handMoved, n_handPaid, n_regret, hf, hg, hrr⟩ := pu_38 xs 0
    exact law_38 (i := 0) C0 hK hF h6 hL31 (by omega) (by omega) hl hP hD hS hf hg hrr (fun H locs hP hD hS => law_next C0 hl (fun ls hl => law_top C0 (by omega) (by omega) hl hS (fun _ => law_end C0 hS (by omega) (by omega)) (fun h => absurd h (by omega))))
  | 39, _ =>
    obtain ⟨r1, o_c_now_hand_over, o_c_now_hand_paid, o_c_now_hand_regret, o_c_sheet_tree_parts, o_c_sheet_bond_terms, o_c_sheet_penceByUps, o_c_sheet_pence, o_c_sheet_turned, o_c_sheet_called, o_c_sheet_hold, o_c_sheet_value, o_c_sheet_marks, o_c_sheet_act, r2, n_days, n_likely, n_outOf, n_rateNow, n_pence, n_top, n_bottom, n_worth, n_hold, n_acts, n_sDay, n_sUps, n_sUp, n_sMarks, n_isOn, n_handPaid, n_regret, hf, hg, hrr⟩ := pu_39 xs 0
    exact law_39 (i := 0) C0 hK hF h6 hL31 (by omega) (by omega) hl hP hD hS hf hg hrr (fun H locs hP hD hS => law_next C0 hl (fun ls hl => law_top C0 (by omega) (by omega) hl hS (fun _ => law_end C0 hS (by omega) (by omega)) (fun h => absurd h (by omega))))
  | 40, _ =>
    obtain ⟨r1, o_c_sheet_tree_parts, o_c_sheet_bond_terms, o_c_sheet_penceByUps, o_c_sheet_pence, o_c_sheet_turned, o_c_sheet_called, o_c_sheet_hold, o_c_sheet_value, o_c_sheet_marks, o_c_sheet_act, r2, n_days, n_likely, n_outOf, n_rateNow, n_pence, n_top, n_bottom, n_worth, n_hold, n_acts, n_sDay, n_sUps, n_sUp, n_sMarks, hf, hg, hrr⟩ := pu_40 xs 0
    exact law_40 (i := 0) C0 hK hF h6 hL31 (by omega) (by omega) hl hP hD hS hf hg hrr (fun H locs hP hD hS => law_next C0 hl (fun ls hl => law_top C0 (by omega) (by omega) hl hS (fun _ => law_end C0 hS (by omega) (by omega)) (fun h => absurd h (by omega))))
  | 41, _ =>
    obtain ⟨r1, o_c_sheet_tree_parts, o_c_sheet_bond_terms, o_c_sheet_penceByUps, o_c_sheet_pence, o_c_sheet_turned, o_c_sheet_called, o_c_sheet_hold, o_c_sheet_value, o_c_sheet_marks, o_c_sheet_act, r2, n_days, n_likely, n_outOf, n_rateNow, n_pence, n_top, n_bottom, n_worth, n_hold, n_acts, n_sDay, n_sUps, n_sUp, n_sMarks, hf, hg, hrr⟩ := pu_41 xs 0
    exact law_41 (i := 0) C0 hK hF h6 hL31 (by omega) (by omega) hl hP hD hS hf hg hrr (fun H locs hP hD hS => law_next C0 hl (fun ls hl => law_top C0 (by omega) (by omega) hl hS (fun _ => law_end C0 hS (by omega) (by omega)) (fun h => absurd h (by omega))))
  | 42, _ =>
    obtain ⟨r1, o_c_sheet_tree_parts, o_c_sheet_bond_terms, o_c_sheet_penceByUps, o_c_sheet_pence, o_c_sheet_turned, o_c_sheet_called, o_c_sheet_hold, o_c_sheet_value, o_c_sheet_marks, o_c_sheet_act, o_c_draws_x, r2, n_moves, n_days, n_likely, n_outOf, n_rateNow, n_pence, n_top, n_bottom, n_drawnNow, n_worth, n_hold, n_acts, n_sDay, n_sUps, n_sUp, n_sMarks, n_paidAll, n_aside, hf, hg, hrr⟩ := pu_42 xs 0
    exact law_42 (i := 0) C0 hK hF h6 hL31 (by omega) (by omega) hl hP hD hS hf hg hrr (fun H locs hP hD hS => law_next C0 hl (fun ls hl => law_top C0 (by omega) (by omega) hl hS (fun _ => law_end C0 hS (by omega) (by omega)) (fun h => absurd h (by omega))))
  | 43, _ =>
    obtain ⟨r1, o_c_sheet_tree_parts, o_c_sheet_bond_terms, o_c_sheet_penceByUps, o_c_sheet_pence, o_c_sheet_turned, o_c_sheet_called, o_c_sheet_hold, o_c_sheet_value, o_c_sheet_marks, o_c_sheet_act, r2, n_moves, n_days, n_likely, n_outOf, n_rateNow, n_pence, n_top, n_bottom, n_worth, n_hold, n_acts, n_sDay, n_sUps, n_sUp, n_sMarks, n_paidAll, n_aside, hf, hg, hrr⟩ := pu_43 xs 0
    exact law_43 (i := 0) C0 hK hF h6 hL31 (by omega) (by omega) hl hP hD hS hf hg hrr (fun H locs hP hD hS => law_next C0 hl (fun ls hl => law_top C0 (by omega) (by omega) hl hS (fun _ => law_end C0 hS (by omega) (by omega)) (fun h => absurd h (by omega))))
  | 44, _ =>
    obtain ⟨r1, o_c_sheet_tree_parts, o_c_sheet_bond_terms, o_c_sheet_penceByUps, o_c_sheet_pence, o_c_sheet_turned, o_c_sheet_called, o_c_sheet_hold, o_c_sheet_value, o_c_sheet_marks, o_c_sheet_act, r2, n_days, n_likely, n_outOf, n_rateNow, n_pence, n_top, n_bottom, n_worth, n_hold, n_way, n_acts, hf, hg, hrr⟩ := pu_44 xs 0
    exact law_44 (i := 0) C0 hK hF h6 hL31 (by omega) (by omega) hl hP hD hS hf hg hrr (fun H locs hP hD hS => law_next C0 hl (fun ls hl => law_top C0 (by omega) (by omega) hl hS (fun _ => law_end C0 hS (by omega) (by omega)) (fun h => absurd h (by omega))))
  | 45, _ =>
    obtain ⟨r1, o_c_sheet_tree_parts, o_c_sheet_bond_terms, o_c_sheet_penceByUps, o_c_sheet_pence, o_c_sheet_turned, o_c_sheet_called, o_c_sheet_hold, o_c_sheet_value, o_c_sheet_marks, o_c_sheet_act, o_c_sheet_rowOfKey, r2, n_days, n_likely, n_outOf, n_rateNow, n_pence, n_top, n_bottom, n_worth, n_hold, n_way, n_acts, hf, hg, hrr⟩ := pu_45 xs 0
    exact law_45 (i := 0) C0 hK hF h6 hL31 (by omega) (by omega) hl hP hD hS hf hg hrr (fun H locs hP hD hS => law_next C0 hl (fun ls hl => law_top C0 (by omega) (by omega) hl hS (fun _ => law_end C0 hS (by omega) (by omega)) (fun h => absurd h (by omega))))
  | 46, _ =>
    obtain ⟨r1, o_c_sheet_tree_parts, o_c_sheet_bond_terms, o_c_sheet_penceByUps, o_c_sheet_pence, o_c_sheet_turned, o_c_sheet_called, o_c_sheet_hold, o_c_sheet_value, o_c_sheet_marks, o_c_sheet_act, r2, n_days, n_likely, n_outOf, n_rateNow, n_pence, n_top, n_bottom, n_worth, n_hold, n_acts, n_sDay, n_sUps, n_sUp, n_sMarks, hf, hg, hrr⟩ := pu_46 xs 0
    exact law_46 (i := 0) C0 hK hF h6 hL31 (by omega) (by omega) hl hP hD hS hf hg hrr (fun H locs hP hD hS => law_next C0 hl (fun ls hl => law_top C0 (by omega) (by omega) hl hS (fun _ => law_end C0 hS (by omega) (by omega)) (fun h => absurd h (by omega))))
  | 47, _ =>
    obtain ⟨r2, n_written, n_wanted, n_found, hg, hrr⟩ := pu_47 xs 0
    exact law_47 (i := 0) (Lt := []) C0 hK h6 hL31 (by omega) (by omega) hl hP hD hS hT wH0 wH0 wH0 sbH0 (by omega) (Nat.zero_le _) hg hrr (fun H locs v ml2 n2 f2 L2 _ _ _ hP hD hS => law_next C0 hl (fun ls hl => law_top C0 (by omega) (by omega) hl hS (fun _ => law_end C0 hS (by omega) (by omega)) (fun h => absurd h (by omega))))
  | 48, _ =>
    obtain ⟨r1, o_c_sheet_tree_parts, o_c_sheet_bond_terms, o_c_sheet_penceByUps, o_c_sheet_pence, o_c_sheet_turned, o_c_sheet_called, o_c_sheet_hold, o_c_sheet_value, o_c_sheet_marks, o_c_sheet_act, o_c_otherSheet_tree_parts, o_c_otherSheet_bond_terms, o_c_otherSheet_penceByUps, o_c_otherSheet_pence, o_c_otherSheet_turned, o_c_otherSheet_called, o_c_otherSheet_hold, o_c_otherSheet_value, o_c_otherSheet_marks, o_c_otherSheet_act, r2, n_days, n_likely, n_outOf, n_rateNow, n_pence, n_top, n_bottom, n_worth, n_hold, n_acts, n_sDay, n_sUps, n_sUp, n_sMarks, n_other, hf, hg, hrr⟩ := pu_48 xs 0
    exact law_48 (i := 0) C0 hK hF h6 hL31 (by omega) (by omega) hl hP hD hS hf hg hrr (fun H locs hP hD hS => law_next C0 hl (fun ls hl => law_top C0 (by omega) (by omega) hl hS (fun _ => law_end C0 hS (by omega) (by omega)) (fun h => absurd h (by omega))))
  | 49, _ =>
    obtain ⟨r1, o_c_sheet_tree_parts, o_c_sheet_bond_terms, o_c_sheet_penceByUps, o_c_sheet_pence, o_c_sheet_turned, o_c_sheet_called, o_c_sheet_hold, o_c_sheet_value, o_c_sheet_marks, o_c_sheet_act, r2, n_days, n_likely, n_outOf, n_rateNow, n_pence, n_top, n_bottom, n_worth, n_hold, n_acts, hf, hg, hrr⟩ := pu_49 xs 0
    exact law_49 (i := 0) C0 hK hF h6 hL31 (by omega) (by omega) hl hP hD hS hf hg hrr (fun H locs hP hD hS => law_next C0 hl (fun ls hl => law_top C0 (by omega) (by omega) hl hS (fun _ => law_end C0 hS (by omega) (by omega)) (fun h => absurd h (by omega))))
  | 50, _ =>
    obtain ⟨r1, o_c_sheet_tree_parts, o_c_sheet_bond_terms, o_c_sheet_penceByUps, o_c_sheet_pence, o_c_sheet_turned, o_c_sheet_called, o_c_sheet_hold, o_c_sheet_value, o_c_sheet_marks, o_c_sheet_act, r2, n_days, n_likely, n_outOf, n_rateNow, n_pence, n_top, n_bottom, n_worth, n_hold, n_acts, hf, hg, hrr⟩ := pu_50 xs 0
    exact law_50 (i := 0) C0 hK hF h6 hL31 (by omega) (by omega) hl hP hD hS hf hg hrr (fun H locs hP hD hS => law_next C0 hl (fun ls hl => law_top C0 (by omega) (by omega) hl hS (fun _ => law_end C0 hS (by omega) (by omega)) (fun h => absurd h (by omega))))
  | 51, _ =>
    obtain ⟨r1, r2, hf, hg, hrr⟩ := pu_51 xs 0
    exact law_51 (i := 0) C0 hK hF h6 hL31 (by omega) (by omega) hl hP hD hS hf hg hrr (fun H locs hP hD hS => law_next C0 hl (fun ls hl => law_top C0 (by omega) (by omega) hl hS (fun _ => law_end C0 hS (by omega) (by omega)) (fun h => absurd h (by omega))))
  | 52, _ =>
    obtain ⟨r2, n_tree, n_bonds, n_moves, n_handMoves, n_moved, n_isPlayed, n_isOn, n_handMoved, n_handPaid, n_regret, n_states, n_kept, n_keptLong, n_keptAt, n_isTaking, hg, hrr⟩ := pu_52 xs 0
    exact law_52 (i := 0) (k := 0) (ks := []) C0 hK h6 hL31 (by omega) (by omega) hl hP hD hS hE (by omega) (Nat.zero_le _) (by decide +kernel) (by decide +kernel) hg hrr (fun H locs u _ hP hD hS => law_next C0 hl (fun ls hl => law_top C0 (by omega) (by omega) hl hS (fun _ => law_end C0 hS (by omega) (by omega)) (fun h => absurd h (by omega))))
  | 53, _ =>
    obtain ⟨r2, n_tree, n_bonds, n_moves, n_handMoves, n_moved, n_isPlayed, n_isOn, n_handMoved, n_handPaid, n_regret, n_states, n_kept, n_keptLong, n_keptAt, n_isTaking, hg, hrr⟩ := pu_53 xs 0
    exact law_53N (i := 0) (k := 0) (ks := []) C0 hK h6 hL31 (by omega) (by omega) hl hP hD hS hE rfl hg hrr (fun H locs hP hD hS => law_next C0 hl (fun ls hl => law_top C0 (by omega) (by omega) hl hS (fun _ => law_end C0 hS (by omega) (by omega)) (fun h => absurd h (by omega))))
  | n + 54, _ =>
    have e : lwT (n + 54) = 2344 := by
      unfold lwT
      rw [List.getD_eq_getElem?_getD, List.getElem?_eq_none (by show 54 ≤ n + 54; omega)]
      rfl
    rw [e]
    exact law_next C0 hl (fun ls hl => law_top C0 (by omega) (by omega) hl hS (fun _ => law_end C0 hS (by omega) (by omega)) (fun h => absurd h (by omega)))
