def fX9_byHand (p1 : Int32) (c_tree : Nat → Int32) (c_bonds : Nat → Int32) (c_handMoves : Nat → Int32) (c_days : Int32) (c_likely : Int32) (c_outOf : Int32) (c_rateNow : Int32) (c_pence : Nat → Int64) (c_top : Int64) (c_bottom : Int64) (c_worth : Nat → Int64) (c_hold : Nat → Int64) (c_acts : Nat → Int32) (c_sDay : Int32) (c_sUps : Int32) (c_sUp : Int32) (c_sMarks : Int32) (c_isPlayed : Int32) (c_isOn : Int32) (c_handMoved : Int32) (c_handPaid : Int64) (c_regret : Int64) : Option (Int64 × Int32 × Int32 × Int32 × Int32 × (Nat → Int64) × Int64 × Int64 × (Nat → Int64) × (Nat → Int64) × (Nat → Int32) × Int32 × Int32 × Int32 × Int32) := if c_isPlayed = 0 then some ((-1), c_days, c_likely, c_outOf, c_rateNow, c_pence, c_top, c_bottom, c_worth, c_hold, c_acts, c_sDay, c_sUps, c_sUp, c_sMarks) else bd1 (fX9_in (Int32.toInt64 p1) 0 4) (fun r2 => if r2 = 0 then some ((-1), c_days, c_likely, c_outOf, c_rateNow, c_pence, c_top, c_bottom, c_worth, c_hold, c_acts, c_sDay, c_sUps, c_sUp, c_sMarks) else bd14 (fX9_standsByHand c_tree c_bonds c_handMoves c_days c_likely c_outOf c_rateNow c_pence c_top c_bottom c_worth c_hold c_acts c_sDay c_sUps c_sUp c_sMarks c_handMoved) (fun c_days_5 c_likely_6 c_outOf_7 c_rateNow_8 c_pence_9 c_top_10 c_bottom_11 c_worth_12 c_hold_13 c_acts_14 c_sDay_15 c_sUps_16 c_sUp_17 c_sMarks_18 => if p1 = 0 then if c_isOn = 0 then some (0, c_days_5, c_likely_6, c_outOf_7, c_rateNow_8, c_pence_9, c_top_10, c_bottom_11, c_worth_12, c_hold_13, c_acts_14, c_sDay_15, c_sUps_16, c_sUp_17, c_sMarks_18) else some (1, c_days_5, c_likely_6, c_outOf_7, c_rateNow_8, c_pence_9, c_top_10, c_bottom_11, c_worth_12, c_hold_13, c_acts_14, c_sDay_15, c_sUps_16, c_sUp_17, c_sMarks_18) else if p1 = 1 then some (Int32.toInt64 c_sDay_15, c_days_5, c_likely_6, c_outOf_7, c_rateNow_8, c_pence_9, c_top_10, c_bottom_11, c_worth_12, c_hold_13, c_acts_14, c_sDay_15, c_sUps_16, c_sUp_17, c_sMarks_18) else if p1 = 2 then some (c_handPaid, c_days_5, c_likely_6, c_outOf_7, c_rateNow_8, c_pence_9, c_top_10, c_bottom_11, c_worth_12, c_hold_13, c_acts_14, c_sDay_15, c_sUps_16, c_sUp_17, c_sMarks_18) else if p1 = 3 then some (c_regret, c_days_5, c_likely_6, c_outOf_7, c_rateNow_8, c_pence_9, c_top_10, c_bottom_11, c_worth_12, c_hold_13, c_acts_14, c_sDay_15, c_sUps_16, c_sUp_17, c_sMarks_18) else bd1 (fX9_hereNow c_sDay_15 c_sUps_16 c_sUp_17 c_sMarks_18) (fun r24 => og (okI r24 784) (some (Int32.toInt64 (c_acts_14 (Int32.toNatClampNeg r24)), c_days_5, c_likely_6, c_outOf_7, c_rateNow_8, c_pence_9, c_top_10, c_bottom_11, c_worth_12, c_hold_13, c_acts_14, c_sDay_15, c_sUps_16, c_sUp_17, c_sMarks_18)))))
abbrev rmX9_byHand : Room := { frames := 7, cells := 0, slots := 0, locals := 184 }
set_option maxHeartbeats 4000000 in
set_option maxRecDepth 100000 in
theorem tX9_byHand (l : Launch) (dC : Nat → ClassId) (dI : Nat → Nat → Nat) (dA : Nat → ClassId) (ad : Nat → Nat) (sz : Nat) {p1 : Int32} {c_tape : Nat → Int32} {c_taped : Int32} {c_tree : Nat → Int32} {c_bonds : Nat → Int32} {c_moves : Nat → Int32} {c_handMoves : Nat → Int32} {c_moved : Int32} {c_days : Int32} {c_likely : Int32} {c_outOf : Int32} {c_rateNow : Int32} {c_pence : Nat → Int64} {c_top : Int64} {c_bottom : Int64} {c_spot : Int32} {c_textLong : Int32} {c_fault : Int32} {c_number : Int32} {c_numberAt : Int32} {c_figures : Int32} {c_written : Int32} {c_wanted : Int32} {c_found : Int32} {c_drawnNow : Int32} {c_worth : Nat → Int64} {c_hold : Nat → Int64} {c_way : Nat → Int64} {c_acts : Nat → Int32} {c_sDay : Int32} {c_sUps : Int32} {c_sUp : Int32} {c_sMarks : Int32} {c_paidAll : Int64} {c_isPlayed : Int32} {c_isOn : Int32} {c_handMoved : Int32} {c_handPaid : Int64} {c_regret : Int64} {c_aside : Nat → Int32} {c_other : Nat → Int64} {c_states : Int32} {c_kept : Nat → Int32} {c_keptLong : Nat → Int64} {c_keptAt : Int32} {c_isTaking : Int32} {r : Int64} {o_c_days : Int32} {o_c_likely : Int32} {o_c_outOf : Int32} {o_c_rateNow : Int32} {o_c_pence : Nat → Int64} {o_c_top : Int64} {o_c_bottom : Int64} {o_c_worth : Nat → Int64} {o_c_hold : Nat → Int64} {o_c_acts : Nat → Int32} {o_c_sDay : Int32} {o_c_sUps : Int32} {o_c_sUp : Int32} {o_c_sMarks : Int32} (hf : fX9_byHand p1 c_tree c_bonds c_handMoves c_days c_likely c_outOf c_rateNow c_pence c_top c_bottom c_worth c_hold c_acts c_sDay c_sUps c_sUp c_sMarks c_isPlayed c_isOn c_handMoved c_handPaid c_regret = some (r, o_c_days, o_c_likely, o_c_outOf, o_c_rateNow, o_c_pence, o_c_top, o_c_bottom, o_c_worth, o_c_hold, o_c_acts, o_c_sDay, o_c_sUps, o_c_sUp, o_c_sMarks)) : Met l yX9_byHand (wq (Cond.code yX9_byHand cX9_byHand 2 (some .long))) rmX9_byHand (gP [.ref (ad 0), .int p1] (dC, dI) dA (mW dA ad c_tape c_taped c_tree c_bonds c_moves c_handMoves c_moved c_days c_likely c_outOf c_rateNow c_pence c_top c_bottom c_spot c_textLong c_fault c_number c_numberAt c_figures c_written c_wanted c_found c_drawnNow c_worth c_hold c_way c_acts c_sDay c_sUps c_sUp c_sMarks c_paidAll c_isPlayed c_isOn c_handMoved c_handPaid c_regret c_aside c_other c_states c_kept c_keptLong c_keptAt c_isTaking) sz) (gQl (dC, dI) r (mW dA ad c_tape c_taped c_tree c_bonds c_moves c_handMoves c_moved o_c_days o_c_likely o_c_outOf o_c_rateNow o_c_pence o_c_top o_c_bottom c_spot c_textLong c_fault c_number c_numberAt c_figures c_written c_wanted c_found c_drawnNow o_c_worth o_c_hold c_way o_c_acts o_c_sDay o_c_sUps o_c_sUp o_c_sMarks c_paidAll c_isPlayed c_isOn c_handMoved c_handPaid c_regret c_aside c_other c_states c_kept c_keptLong c_keptAt c_isTaking) (va_A (mW dA ad c_tape c_taped c_tree c_bonds c_moves c_handMoves c_moved c_days c_likely c_outOf c_rateNow c_pence c_top c_bottom c_spot c_textLong c_fault c_number c_numberAt c_figures c_written c_wanted c_found c_drawnNow c_worth c_hold c_way c_acts c_sDay c_sUps c_sUp c_sMarks c_paidAll c_isPlayed c_isOn c_handMoved c_handPaid c_regret c_aside c_other c_states c_kept c_keptLong c_keptAt c_isTaking) sz)) 0 0 (va_A (mW dA ad c_tape c_taped c_tree c_bonds c_moves c_handMoves c_moved c_days c_likely c_outOf c_rateNow c_pence c_top c_bottom c_spot c_textLong c_fault c_number c_numberAt c_figures c_written c_wanted c_found c_drawnNow c_worth c_hold c_way c_acts c_sDay c_sUps c_sUp c_sMarks c_paidAll c_isPlayed c_isOn c_handMoved c_handPaid c_regret c_aside c_other c_states c_kept c_keptLong c_keptAt c_isTaking) sz) := by
  refine Met.ofW (cc := cX9_byHand) (maxL := 2) (ret := (some .long)) (by decide) rfl ?_
  intro p e s m args below meth c s₁ B hml hv
  obtain ⟨rfl, hsz, hP, hK, hD0⟩ := hv
  have hx := B.exec
  have hb := B.bytes
  have hr := B.returns
  have hts := atoms_spec (ws := wq (Cond.code yX9_byHand cX9_byHand 2 (some .long))) B.pre
  have hown : s.vm.findClass RX9 = some m.cls := findClass_of_methodNamed B.named
  have hlocks := B.notSynchronized
  clear B
  subst hsz
  have hD := hD0.self (sz := s.heap.size)
  generalize hAe : va_A (mW dA ad c_tape c_taped c_tree c_bonds c_moves c_handMoves c_moved c_days c_likely c_outOf c_rateNow c_pence c_top c_bottom c_spot c_textLong c_fault c_number c_numberAt c_figures c_written c_wanted c_found c_drawnNow c_worth c_hold c_way c_acts c_sDay c_sUps c_sUp c_sMarks c_paidAll c_isPlayed c_isOn c_handMoved c_handPaid c_regret c_aside c_other c_states c_kept c_keptLong c_keptAt c_isTaking) s.heap.size = A at hD ⊢
  have hA : ∀ q : Nat, s.heap.size ≤ q → A q := fun q h => by rw [← hAe]; exact Or.inr h
  clear hAe hD0
  have hS : va_S A s.heap s.heap [] := va_S.rf
  have hl := lv_entry ([.ref (ad 0), .int p1]) (n := 2) (Nat.le_of_ble_eq_true rfl)
  rw [lg_entry_eq]
  generalize (lg_sl ([.ref (ad 0), .int p1]) ++ List.replicate (2 - (lg_sl ([.ref (ad 0), .int p1])).length) Slot.unset).toArray = ls at hl ⊢
  have hl : lv_has ls 2 [(0, .ref (ad 0)), (1, .int p1)] := hl
  change W p l e rmX9_byHand s m ([.ref (ad 0), .int p1] : List Value).toArray below meth c s.heap [] 0 0 _ _
  unfold fX9_byHand at hf
  refine lv_aload_n hx hb dX9_byHand_0 rfl (lv_at hl 0 rfl) ?_
  refine va_get (D := (dC, dI)) (ci := 9) (v := .int c_isPlayed) (C := RX9) (T := TX9) (N := 45) hx hb hts (fun w h => gw_mem (inX9 w h)) hown hK.1 hP 0 rfl rfl 33 (by decide) (hts _ (gw_mem wfX9_412)) (fun _ h9 => h9) rfl dX9_byHand_1 ?_
  refine lv_if_eq (tgt := 19) hx hb dX9_byHand_4 (by decide) (fun k1 => ?_) (fun k1 => ?_)
  · replace hf := ifp k1 hf
    refine lv_ldc2 (v := (-1)) hx hb hown (hts _ (gw_mem wkX9_116)) dX9_byHand_19 ?_
    cases hf
    exact W.lret hx hb hr (fun t ht _ => gql hP hD hS ht) hS.2.2 dX9_byHand_22
  · replace hf := ifn k1 hf
    refine lv_iload_n hx hb dX9_byHand_7 rfl (lv_at hl 1 rfl) ?_
    refine lv_i2l hx hb dX9_byHand_8 rfl ?_
    refine lv_lconst (v := 0) hx hb dX9_byHand_9 rfl ?_
    refine lv_ldc2 (v := 4) hx hb hown (hts _ (gw_mem wkX9_147)) dX9_byHand_10 ?_
    obtain ⟨r2, v3, hf⟩ := bd1_some hf
    refine gci0 (va_runS (As := [.long (Int32.toInt64 p1), .long 0, .long 4]) (rest := []) ⟨hx, hb, hml, hown, hts⟩ (tX9_in l dC dI dA s.heap.size v3) (ccX9_X9_in hts ⟨Nat.le_of_ble_eq_true rfl, Nat.le_of_ble_eq_true rfl⟩) (gPreS0 hK) rfl rfl hl.1 rfl (lv_room (Nat.le_of_ble_eq_true rfl)) dX9_byHand_13 ⟨Nat.le_of_ble_eq_true rfl, Nat.le_of_ble_eq_true rfl⟩) hP hS hA (fun H locs hP hS => ?_)
    refine lv_if_ne (tgt := 23) hx hb dX9_byHand_16 (by decide) (fun k4 => ?_) (fun k4 => ?_)
    · replace hf := ifn k4 hf
      refine lv_aload_n hx hb dX9_byHand_23 rfl (lv_at hl 0 rfl) ?_
      obtain ⟨c_days_5, c_likely_6, c_outOf_7, c_rateNow_8, c_pence_9, c_top_10, c_bottom_11, c_worth_12, c_hold_13, c_acts_14, c_sDay_15, c_sUps_16, c_sUp_17, c_sMarks_18, v19, hf⟩ := bd14_some hf
      refine gcv (va_runV (As := []) (rest := []) ⟨hx, hb, hml, hown, hts⟩ (tX9_standsByHand l dC dI dA ad H.size v19) (ccX9_X9_standsByHand hts ⟨Nat.le_of_ble_eq_true rfl, Nat.le_of_ble_eq_true rfl⟩) (gPreV (ci := 9) (q0 := 0) hP hK hD rfl rfl) rfl rfl hl.1 rfl (lv_room (Nat.le_of_ble_eq_true rfl)) dX9_byHand_24 ⟨Nat.le_of_ble_eq_true rfl, Nat.le_of_ble_eq_true rfl⟩) hD hS hA (fun H locs hP hD hS => ?_)
      refine lv_iload_n hx hb dX9_byHand_27 rfl (lv_at hl 1 rfl) ?_
      refine lv_if_ne (tgt := 46) hx hb dX9_byHand_28 (by decide) (fun k20 => ?_) (fun k20 => ?_)
      · replace hf := ifn k20 hf
        refine lv_iload_n hx hb dX9_byHand_46 rfl (lv_at hl 1 rfl) ?_
        refine lv_iconst (v := 1) hx hb dX9_byHand_47 (by decide) ?_
        refine lv_icmp_ne (tgt := 59) hx hb dX9_byHand_48 (by decide) (fun k21 => ?_) (fun k21 => ?_)
        · replace hf := ifn k21 hf
          refine lv_iload_n hx hb dX9_byHand_59 rfl (lv_at hl 1 rfl) ?_
          refine lv_iconst (v := 2) hx hb dX9_byHand_60 (by decide) ?_
          refine lv_icmp_ne (tgt := 71) hx hb dX9_byHand_61 (by decide) (fun k22 => ?_) (fun k22 => ?_)
          · replace hf := ifn k22 hf
            refine lv_iload_n hx hb dX9_byHand_71 rfl (lv_at hl 1 rfl) ?_
            refine lv_iconst (v := 3) hx hb dX9_byHand_72 (by decide) ?_
            refine lv_icmp_ne (tgt := 83) hx hb dX9_byHand_73 (by decide) (fun k23 => ?_) (fun k23 => ?_)
            · replace hf := ifn k23 hf
              refine lv_aload_n hx hb dX9_byHand_83 rfl (lv_at hl 0 rfl) ?_
              refine va_get (D := (dC, dI)) (ci := 9) (v := .ref (ad 10)) (C := RX9) (T := TX9) (N := 45) hx hb hts (fun w h => gw_mem (inX9 w h)) hown hK.1 hP 0 rfl rfl 27 (by decide) (hts _ (gw_mem wfX9_39)) (fun _ h9 => h9) rfl dX9_byHand_84 ?_
              refine lv_aload_n hx hb dX9_byHand_87 rfl (lv_at hl 0 rfl) ?_
              obtain ⟨r24, v25, hf⟩ := bd1_some hf
              refine gci (va_runV (As := []) (rest := [.ref (ad 10)]) ⟨hx, hb, hml, hown, hts⟩ (tX9_hereNow l dC dI dA ad H.size v25) (ccX9_X9_hereNow hts ⟨Nat.le_of_ble_eq_true rfl, Nat.le_of_ble_eq_true rfl⟩) (gPreV (ci := 9) (q0 := 0) hP hK hD rfl rfl) rfl rfl hl.1 rfl (lv_room (Nat.le_of_ble_eq_true rfl)) dX9_byHand_88 ⟨Nat.le_of_ble_eq_true rfl, Nat.le_of_ble_eq_true rfl⟩) hD hS hA (fun H locs hP hD hS => ?_)
              obtain ⟨h26, hf⟩ := og_some hf
              refine va_iald hx hb hK.1 hP 10 0 rfl rfl (okI_in h26) dX9_byHand_91 ?_
              refine lv_i2l hx hb dX9_byHand_92 rfl ?_
              cases hf
              exact W.lret hx hb hr (fun t ht _ => gql hP hD hS ht) hS.2.2 dX9_byHand_93
            · replace hf := ifp k23 hf
              refine lv_aload_n hx hb dX9_byHand_76 rfl (lv_at hl 0 rfl) ?_
              refine va_get (D := (dC, dI)) (ci := 9) (v := .long c_regret) (C := RX9) (T := TX9) (N := 45) hx hb hts (fun w h => gw_mem (inX9 w h)) hown hK.1 hP 0 rfl rfl 37 (by decide) (hts _ (gw_mem wfX9_422)) (fun _ h9 => h9) rfl dX9_byHand_77 ?_
              refine lv_goto (tgt := 93) hx hb dX9_byHand_80 (by decide) ?_
              cases hf
              exact W.lret hx hb hr (fun t ht _ => gql hP hD hS ht) hS.2.2 dX9_byHand_93
          · replace hf := ifp k22 hf
            refine lv_aload_n hx hb dX9_byHand_64 rfl (lv_at hl 0 rfl) ?_
            refine va_get (D := (dC, dI)) (ci := 9) (v := .long c_handPaid) (C := RX9) (T := TX9) (N := 45) hx hb hts (fun w h => gw_mem (inX9 w h)) hown hK.1 hP 0 rfl rfl 36 (by decide) (hts _ (gw_mem wfX9_419)) (fun _ h9 => h9) rfl dX9_byHand_65 ?_
            refine lv_goto (tgt := 93) hx hb dX9_byHand_68 (by decide) ?_
            cases hf
            exact W.lret hx hb hr (fun t ht _ => gql hP hD hS ht) hS.2.2 dX9_byHand_93
        · replace hf := ifp k21 hf
          refine lv_aload_n hx hb dX9_byHand_51 rfl (lv_at hl 0 rfl) ?_
          refine va_get (D := (dC, dI)) (ci := 9) (v := .int c_sDay_15) (C := RX9) (T := TX9) (N := 45) hx hb hts (fun w h => gw_mem (inX9 w h)) hown hK.1 hP 0 rfl rfl 28 (by decide) (hts _ (gw_mem wfX9_316)) (fun _ h9 => h9) rfl dX9_byHand_52 ?_
          refine lv_i2l hx hb dX9_byHand_55 rfl ?_
          refine lv_goto (tgt := 93) hx hb dX9_byHand_56 (by decide) ?_
          cases hf
          exact W.lret hx hb hr (fun t ht _ => gql hP hD hS ht) hS.2.2 dX9_byHand_93
      · replace hf := ifp k20 hf
        refine lv_aload_n hx hb dX9_byHand_31 rfl (lv_at hl 0 rfl) ?_
        refine va_get (D := (dC, dI)) (ci := 9) (v := .int c_isOn) (C := RX9) (T := TX9) (N := 45) hx hb hts (fun w h => gw_mem (inX9 w h)) hown hK.1 hP 0 rfl rfl 34 (by decide) (hts _ (gw_mem wfX9_416)) (fun _ h9 => h9) rfl dX9_byHand_32 ?_
        refine lv_if_eq (tgt := 42) hx hb dX9_byHand_35 (by decide) (fun k27 => ?_) (fun k27 => ?_)
        · replace hf := ifp k27 hf
          refine lv_lconst (v := 0) hx hb dX9_byHand_42 rfl ?_
          refine lv_goto (tgt := 93) hx hb dX9_byHand_43 (by decide) ?_
          cases hf
          exact W.lret hx hb hr (fun t ht _ => gql hP hD hS ht) hS.2.2 dX9_byHand_93
        · replace hf := ifn k27 hf
          refine lv_lconst (v := 1) hx hb dX9_byHand_38 rfl ?_
          refine lv_goto (tgt := 93) hx hb dX9_byHand_39 (by decide) ?_
          cases hf
          exact W.lret hx hb hr (fun t ht _ => gql hP hD hS ht) hS.2.2 dX9_byHand_93
    · replace hf := ifp k4 hf
      refine lv_ldc2 (v := (-1)) hx hb hown (hts _ (gw_mem wkX9_116)) dX9_byHand_19 ?_
      cases hf
      exact W.lret hx hb hr (fun t ht _ => gql hP hD hS ht) hS.2.2 dX9_byHand_22
def fX9_laysByRule (p1 : Int32) (p2 : Int32) (p3 : Int32) (p4 : Int32) (p5 : Int32) (p6 : Int32) (p7 : Int32) (c_bonds : Nat → Int32) (c_days : Int32) (c_likely : Int32) (c_outOf : Int32) (c_rateNow : Int32) (c_pence : Nat → Int64) (c_worth : Nat → Int64) (c_acts : Nat → Int32) : Option ((Nat → Int64) × (Nat → Int32)) := bd1 (fX9_at p2 p3 p4 p5) (fun r1 => bd1 (fX9_turned p1 p2 p3 p4 c_bonds c_pence) (fun r3 => if r3 = (-1) then bd1 (fX9_isFree p1 p2 p5 c_bonds c_days) (fun r6 => if r6 = 0 then og (okI r1 784) (nm (upd c_acts (Int32.toNatClampNeg r1) 0) (fun w10 => bd1 (fX9_couponOf p1 p2 c_bonds) (fun r11 => bd1 (fX9_holds p1 p2 p3 p4 p5 c_bonds c_likely c_outOf c_rateNow c_pence c_worth) (fun r13 => og (okI r1 784) (nm (vp_updL c_worth (Int32.toNatClampNeg r1) ((Int32.toInt64 r11) + r13)) (fun w16 => some (w16, w10))))))) else og (okI ((7 * p2) + p3) 49) (if (c_pence (Int32.toNatClampNeg ((7 * p2) + p3))) < (Int32.toInt64 p7) then og (okI r1 784) (nm (upd c_acts (Int32.toNatClampNeg r1) 0) (fun w20 => bd1 (fX9_couponOf p1 p2 c_bonds) (fun r21 => bd1 (fX9_holds p1 p2 p3 p4 p5 c_bonds c_likely c_outOf c_rateNow c_pence c_worth) (fun r23 => og (okI r1 784) (nm (vp_updL c_worth (Int32.toNatClampNeg r1) ((Int32.toInt64 r21) + r23)) (fun w26 => some (w26, w20))))))) else bd1 (fX9_callOf p1 p2 c_bonds c_days) (fun r27 => if r3 ≤ (Int32.toInt64 r27) then og (okI r1 784) (nm (upd c_acts (Int32.toNatClampNeg r1) 3) (fun w31 => bd1 (fX9_couponOf p1 p2 c_bonds) (fun r32 => bd1 (fX9_called p1 p2 p3 p4 c_bonds c_days c_pence) (fun r34 => og (okI r1 784) (nm (vp_updL c_worth (Int32.toNatClampNeg r1) ((Int32.toInt64 r32) + r34)) (fun w37 => some (w37, w31))))))) else og (okI r1 784) (nm (upd c_acts (Int32.toNatClampNeg r1) 4) (fun w39 => bd1 (fX9_couponOf p1 p2 c_bonds) (fun r40 => bd1 (fX9_called p1 p2 p3 p4 c_bonds c_days c_pence) (fun r42 => og (okI r1 784) (nm (vp_updL c_worth (Int32.toNatClampNeg r1) ((Int32.toInt64 r40) + r42)) (fun w45 => some (w45, w39)))))))))) else og (okI ((7 * p2) + p3) 49) (if (c_pence (Int32.toNatClampNeg ((7 * p2) + p3))) < (Int32.toInt64 p6) then bd1 (fX9_isFree p1 p2 p5 c_bonds c_days) (fun r48 => if r48 = 0 then og (okI r1 784) (nm (upd c_acts (Int32.toNatClampNeg r1) 0) (fun w52 => bd1 (fX9_couponOf p1 p2 c_bonds) (fun r53 => bd1 (fX9_holds p1 p2 p3 p4 p5 c_bonds c_likely c_outOf c_rateNow c_pence c_worth) (fun r55 => og (okI r1 784) (nm (vp_updL c_worth (Int32.toNatClampNeg r1) ((Int32.toInt64 r53) + r55)) (fun w58 => some (w58, w52))))))) else og (okI ((7 * p2) + p3) 49) (if (c_pence (Int32.toNatClampNeg ((7 * p2) + p3))) < (Int32.toInt64 p7) then og (okI r1 784) (nm (upd c_acts (Int32.toNatClampNeg r1) 0) (fun w62 => bd1 (fX9_couponOf p1 p2 c_bonds) (fun r63 => bd1 (fX9_holds p1 p2 p3 p4 p5 c_bonds c_likely c_outOf c_rateNow c_pence c_worth) (fun r65 => og (okI r1 784) (nm (vp_updL c_worth (Int32.toNatClampNeg r1) ((Int32.toInt64 r63) + r65)) (fun w68 => some (w68, w62))))))) else bd1 (fX9_callOf p1 p2 c_bonds c_days) (fun r69 => if r3 ≤ (Int32.toInt64 r69) then og (okI r1 784) (nm (upd c_acts (Int32.toNatClampNeg r1) 3) (fun w73 => bd1 (fX9_couponOf p1 p2 c_bonds) (fun r74 => bd1 (fX9_called p1 p2 p3 p4 c_bonds c_days c_pence) (fun r76 => og (okI r1 784) (nm (vp_updL c_worth (Int32.toNatClampNeg r1) ((Int32.toInt64 r74) + r76)) (fun w79 => some (w79, w73))))))) else og (okI r1 784) (nm (upd c_acts (Int32.toNatClampNeg r1) 4) (fun w81 => bd1 (fX9_couponOf p1 p2 c_bonds) (fun r82 => bd1 (fX9_called p1 p2 p3 p4 c_bonds c_days c_pence) (fun r84 => og (okI r1 784) (nm (vp_updL c_worth (Int32.toNatClampNeg r1) ((Int32.toInt64 r82) + r84)) (fun w87 => some (w87, w81)))))))))) else og (okI r1 784) (nm (upd c_acts (Int32.toNatClampNeg r1) 2) (fun w89 => bd1 (fX9_couponOf p1 p2 c_bonds) (fun r90 => og (okI r1 784) (nm (vp_updL c_worth (Int32.toNatClampNeg r1) ((Int32.toInt64 r90) + r3)) (fun w93 => some (w93, w89)))))))))
abbrev rmX9_laysByRule : Room := { frames := 4, cells := 0, slots := 0, locals := 103 }
set_option maxHeartbeats 4000000 in
set_option maxRecDepth 100000 in
theorem tX9_laysByRule (l : Launch) (dC : Nat → ClassId) (dI : Nat → Nat → Nat) (dA : Nat → ClassId) (ad : Nat → Nat) (sz : Nat) {p1 : Int32} {p2 : Int32} {p3 : Int32} {p4 : Int32} {p5 : Int32} {p6 : Int32} {p7 : Int32} {c_tape : Nat → Int32} {c_taped : Int32} {c_tree : Nat → Int32} {c_bonds : Nat → Int32} {c_moves : Nat → Int32} {c_handMoves : Nat → Int32} {c_moved : Int32} {c_days : Int32} {c_likely : Int32} {c_outOf : Int32} {c_rateNow : Int32} {c_pence : Nat → Int64} {c_top : Int64} {c_bottom : Int64} {c_spot : Int32} {c_textLong : Int32} {c_fault : Int32} {c_number : Int32} {c_numberAt : Int32} {c_figures : Int32} {c_written : Int32} {c_wanted : Int32} {c_found : Int32} {c_drawnNow : Int32} {c_worth : Nat → Int64} {c_hold : Nat → Int64} {c_way : Nat → Int64} {c_acts : Nat → Int32} {c_sDay : Int32} {c_sUps : Int32} {c_sUp : Int32} {c_sMarks : Int32} {c_paidAll : Int64} {c_isPlayed : Int32} {c_isOn : Int32} {c_handMoved : Int32} {c_handPaid : Int64} {c_regret : Int64} {c_aside : Nat → Int32} {c_other : Nat → Int64} {c_states : Int32} {c_kept : Nat → Int32} {c_keptLong : Nat → Int64} {c_keptAt : Int32} {c_isTaking : Int32} {o_c_worth : Nat → Int64} {o_c_acts : Nat → Int32} (hf : fX9_laysByRule p1 p2 p3 p4 p5 p6 p7 c_bonds c_days c_likely c_outOf c_rateNow c_pence c_worth c_acts = some (o_c_worth, o_c_acts)) : Met l yX9_laysByRule (wq (Cond.code yX9_laysByRule cX9_laysByRule 11 none)) rmX9_laysByRule (gP [.ref (ad 0), .int p1, .int p2, .int p3, .int p4, .int p5, .int p6, .int p7] (dC, dI) dA (mW dA ad c_tape c_taped c_tree c_bonds c_moves c_handMoves c_moved c_days c_likely c_outOf c_rateNow c_pence c_top c_bottom c_spot c_textLong c_fault c_number c_numberAt c_figures c_written c_wanted c_found c_drawnNow c_worth c_hold c_way c_acts c_sDay c_sUps c_sUp c_sMarks c_paidAll c_isPlayed c_isOn c_handMoved c_handPaid c_regret c_aside c_other c_states c_kept c_keptLong c_keptAt c_isTaking) sz) (gQv (dC, dI) (mW dA ad c_tape c_taped c_tree c_bonds c_moves c_handMoves c_moved c_days c_likely c_outOf c_rateNow c_pence c_top c_bottom c_spot c_textLong c_fault c_number c_numberAt c_figures c_written c_wanted c_found c_drawnNow o_c_worth c_hold c_way o_c_acts c_sDay c_sUps c_sUp c_sMarks c_paidAll c_isPlayed c_isOn c_handMoved c_handPaid c_regret c_aside c_other c_states c_kept c_keptLong c_keptAt c_isTaking) (va_A (mW dA ad c_tape c_taped c_tree c_bonds c_moves c_handMoves c_moved c_days c_likely c_outOf c_rateNow c_pence c_top c_bottom c_spot c_textLong c_fault c_number c_numberAt c_figures c_written c_wanted c_found c_drawnNow c_worth c_hold c_way c_acts c_sDay c_sUps c_sUp c_sMarks c_paidAll c_isPlayed c_isOn c_handMoved c_handPaid c_regret c_aside c_other c_states c_kept c_keptLong c_keptAt c_isTaking) sz)) 0 0 (va_A (mW dA ad c_tape c_taped c_tree c_bonds c_moves c_handMoves c_moved c_days c_likely c_outOf c_rateNow c_pence c_top c_bottom c_spot c_textLong c_fault c_number c_numberAt c_figures c_written c_wanted c_found c_drawnNow c_worth c_hold c_way c_acts c_sDay c_sUps c_sUp c_sMarks c_paidAll c_isPlayed c_isOn c_handMoved c_handPaid c_regret c_aside c_other c_states c_kept c_keptLong c_keptAt c_isTaking) sz) := by
  refine Met.ofW (cc := cX9_laysByRule) (maxL := 11) (ret := none) (by decide) rfl ?_
  intro p e s m args below meth c s₁ B hml hv
  obtain ⟨rfl, hsz, hP, hK, hD0⟩ := hv
  have hx := B.exec
  have hb := B.bytes
  have hr := B.returns
  have hts := atoms_spec (ws := wq (Cond.code yX9_laysByRule cX9_laysByRule 11 none)) B.pre
  have hown : s.vm.findClass RX9 = some m.cls := findClass_of_methodNamed B.named
  have hlocks := B.notSynchronized
  clear B
  subst hsz
  have hD := hD0.self (sz := s.heap.size)
  generalize hAe : va_A (mW dA ad c_tape c_taped c_tree c_bonds c_moves c_handMoves c_moved c_days c_likely c_outOf c_rateNow c_pence c_top c_bottom c_spot c_textLong c_fault c_number c_numberAt c_figures c_written c_wanted c_found c_drawnNow c_worth c_hold c_way c_acts c_sDay c_sUps c_sUp c_sMarks c_paidAll c_isPlayed c_isOn c_handMoved c_handPaid c_regret c_aside c_other c_states c_kept c_keptLong c_keptAt c_isTaking) s.heap.size = A at hD ⊢
  have hA : ∀ q : Nat, s.heap.size ≤ q → A q := fun q h => by rw [← hAe]; exact Or.inr h
  clear hAe hD0
  have hS : va_S A s.heap s.heap [] := va_S.rf
  have hl := lv_entry ([.ref (ad 0), .int p1, .int p2, .int p3, .int p4, .int p5, .int p6, .int p7]) (n := 11) (Nat.le_of_ble_eq_true rfl)
  rw [lg_entry_eq]
  generalize (lg_sl ([.ref (ad 0), .int p1, .int p2, .int p3, .int p4, .int p5, .int p6, .int p7]) ++ List.replicate (11 - (lg_sl ([.ref (ad 0), .int p1, .int p2, .int p3, .int p4, .int p5, .int p6, .int p7])).length) Slot.unset).toArray = ls at hl ⊢
  have hl : lv_has ls 11 [(0, .ref (ad 0)), (1, .int p1), (2, .int p2), (3, .int p3), (4, .int p4), (5, .int p5), (6, .int p6), (7, .int p7)] := hl
  change W p l e rmX9_laysByRule s m ([.ref (ad 0), .int p1, .int p2, .int p3, .int p4, .int p5, .int p6, .int p7] : List Value).toArray below meth c s.heap [] 0 0 _ _
  unfold fX9_laysByRule at hf
  refine lv_iload_n hx hb dX9_laysByRule_0 rfl (lv_at hl 2 rfl) ?_
  refine lv_iload_n hx hb dX9_laysByRule_1 rfl (lv_at hl 3 rfl) ?_
  refine lv_iload hx hb dX9_laysByRule_2 (lv_at hl 4 rfl) ?_
  refine lv_iload hx hb dX9_laysByRule_4 (lv_at hl 5 rfl) ?_
  obtain ⟨r1, v2, hf⟩ := bd1_some hf
  refine gci0 (va_runS (As := [.int p2, .int p3, .int p4, .int p5]) (rest := []) ⟨hx, hb, hml, hown, hts⟩ (tX9_at l dC dI dA s.heap.size v2) (ccX9_X9_at hts ⟨Nat.le_of_ble_eq_true rfl, Nat.le_of_ble_eq_true rfl⟩) (gPreS0 hK) rfl rfl hl.1 rfl (lv_room (Nat.le_of_ble_eq_true rfl)) dX9_laysByRule_6 ⟨Nat.le_of_ble_eq_true rfl, Nat.le_of_ble_eq_true rfl⟩) hP hS hA (fun H locs hP hS => ?_)
  refine lv_istore (lv' := [(8, .int r1), (0, .ref (ad 0)), (1, .int p1), (2, .int p2), (3, .int p3), (4, .int p4), (5, .int p5), (6, .int p6), (7, .int p7)]) hx hb dX9_laysByRule_9 hl (by decide) rfl (fun ls hl => ?_)
  refine lv_aload_n hx hb dX9_laysByRule_11 rfl (lv_at hl 1 rfl) ?_
  refine lv_iload_n hx hb dX9_laysByRule_12 rfl (lv_at hl 2 rfl) ?_
  refine lv_iload_n hx hb dX9_laysByRule_13 rfl (lv_at hl 3 rfl) ?_
  refine lv_iload_n hx hb dX9_laysByRule_14 rfl (lv_at hl 4 rfl) ?_
  refine lv_iload hx hb dX9_laysByRule_15 (lv_at hl 5 rfl) ?_
  obtain ⟨r3, v4, hf⟩ := bd1_some hf
  refine gcl (va_runV (As := [.int p1, .int p2, .int p3, .int p4]) (rest := []) ⟨hx, hb, hml, hown, hts⟩ (tX9_turned l dC dI dA ad H.size v4) (ccX9_X9_turned hts ⟨Nat.le_of_ble_eq_true rfl, Nat.le_of_ble_eq_true rfl⟩) (gPreV (ci := 9) (q0 := 0) hP hK hD rfl rfl) rfl rfl hl.1 rfl (lv_room (Nat.le_of_ble_eq_true rfl)) dX9_laysByRule_17 ⟨Nat.le_of_ble_eq_true rfl, Nat.le_of_ble_eq_true rfl⟩) hD hS hA (fun H locs hP hD hS => ?_)
  refine lv_lstore (lv' := [(9, .long r3), (8, .int r1), (0, .ref (ad 0)), (1, .int p1), (2, .int p2), (3, .int p3), (4, .int p4), (5, .int p5), (6, .int p6), (7, .int p7)]) hx hb dX9_laysByRule_20 hl (by decide) rfl (fun ls hl => ?_)
  refine lv_lload hx hb dX9_laysByRule_22 (lv_at hl 0 rfl) ?_
  refine lv_ldc2 (v := (-1)) hx hb hown (hts _ (gw_mem wkX9_116)) dX9_laysByRule_24 ?_
  refine W.lcmp hx hb dX9_laysByRule_27 ?_
  refine lv_if_eq (tgt := 77) hx hb dX9_laysByRule_28 (by decide) (fun k5 => ?_) (fun k5 => ?_)
  · replace hf := ifp (lc_eq.mp k5) hf
    refine lv_aload_n hx hb dX9_laysByRule_77 rfl (lv_at hl 2 rfl) ?_
    refine lv_iload_n hx hb dX9_laysByRule_78 rfl (lv_at hl 3 rfl) ?_
    refine lv_iload_n hx hb dX9_laysByRule_79 rfl (lv_at hl 4 rfl) ?_
    refine lv_iload hx hb dX9_laysByRule_80 (lv_at hl 7 rfl) ?_
    obtain ⟨r6, v7, hf⟩ := bd1_some hf
    refine gci (va_runV (As := [.int p1, .int p2, .int p5]) (rest := []) ⟨hx, hb, hml, hown, hts⟩ (tX9_isFree l dC dI dA ad H.size v7) (ccX9_X9_isFree hts ⟨Nat.le_of_ble_eq_true rfl, Nat.le_of_ble_eq_true rfl⟩) (gPreV (ci := 9) (q0 := 0) hP hK hD rfl rfl) rfl rfl hl.1 rfl (lv_room (Nat.le_of_ble_eq_true rfl)) dX9_laysByRule_82 ⟨Nat.le_of_ble_eq_true rfl, Nat.le_of_ble_eq_true rfl⟩) hD hS hA (fun H locs hP hD hS => ?_)
    refine lv_if_eq (tgt := 158) hx hb dX9_laysByRule_85 (by decide) (fun k8 => ?_) (fun k8 => ?_)
    · replace hf := ifp k8 hf
      refine lv_aload_n hx hb dX9_laysByRule_158 rfl (lv_at hl 2 rfl) ?_
      refine va_get (D := (dC, dI)) (ci := 9) (v := .ref (ad 10)) (C := RX9) (T := TX9) (N := 45) hx hb hts (fun w h => gw_mem (inX9 w h)) hown hK.1 hP 0 rfl rfl 27 (by decide) (hts _ (gw_mem wfX9_39)) (fun _ h9 => h9) rfl dX9_laysByRule_159 ?_
      refine lv_iload hx hb dX9_laysByRule_162 (lv_at hl 1 rfl) ?_
      refine lv_iconst (v := 0) hx hb dX9_laysByRule_164 (by decide) ?_
      obtain ⟨h9, hf⟩ := og_some hf
      obtain ⟨w10, ew10⟩ : ∃ y : Nat → Int32, y = upd c_acts (Int32.toNatClampNeg r1) 0 := ⟨_, rfl⟩
      replace hf := nm_at hf ew10
      refine va_iast hx hb hK.1 hP hD hS 10 0 rfl rfl (okI_in h9) dX9_laysByRule_165 (fun H locs hP hD hS => ?_)
      have hP : va_P (dC, dI) vwCl (mW dA ad c_tape c_taped c_tree c_bonds c_moves c_handMoves c_moved c_days c_likely c_outOf c_rateNow c_pence c_top c_bottom c_spot c_textLong c_fault c_number c_numberAt c_figures c_written c_wanted c_found c_drawnNow c_worth c_hold c_way w10 c_sDay c_sUps c_sUp c_sMarks c_paidAll c_isPlayed c_isOn c_handMoved c_handPaid c_regret c_aside c_other c_states c_kept c_keptLong c_keptAt c_isTaking) H := by rw [ew10]; exact hP
      have hD : va_D A (mW dA ad c_tape c_taped c_tree c_bonds c_moves c_handMoves c_moved c_days c_likely c_outOf c_rateNow c_pence c_top c_bottom c_spot c_textLong c_fault c_number c_numberAt c_figures c_written c_wanted c_found c_drawnNow c_worth c_hold c_way w10 c_sDay c_sUps c_sUp c_sMarks c_paidAll c_isPlayed c_isOn c_handMoved c_handPaid c_regret c_aside c_other c_states c_kept c_keptLong c_keptAt c_isTaking) := by rw [ew10]; exact hD
      refine lv_aload_n hx hb dX9_laysByRule_166 rfl (lv_at hl 2 rfl) ?_
      refine va_get (D := (dC, dI)) (ci := 9) (v := .ref (ad 7)) (C := RX9) (T := TX9) (N := 45) hx hb hts (fun w h => gw_mem (inX9 w h)) hown hK.1 hP 0 rfl rfl 24 (by decide) (hts _ (gw_mem wfX9_30)) (fun _ h9 => h9) rfl dX9_laysByRule_167 ?_
      refine lv_iload hx hb dX9_laysByRule_170 (lv_at hl 1 rfl) ?_
      refine lv_aload_n hx hb dX9_laysByRule_172 rfl (lv_at hl 2 rfl) ?_
      refine lv_iload_n hx hb dX9_laysByRule_173 rfl (lv_at hl 3 rfl) ?_
      refine lv_iload_n hx hb dX9_laysByRule_174 rfl (lv_at hl 4 rfl) ?_
      obtain ⟨r11, v12, hf⟩ := bd1_some hf
      refine gci (va_runV (As := [.int p1, .int p2]) (rest := [.int r1, .ref (ad 7)]) ⟨hx, hb, hml, hown, hts⟩ (tX9_couponOf l dC dI dA ad H.size v12) (ccX9_X9_couponOf hts ⟨Nat.le_of_ble_eq_true rfl, Nat.le_of_ble_eq_true rfl⟩) (gPreV (ci := 9) (q0 := 0) hP hK hD rfl rfl) rfl rfl hl.1 rfl (lv_room (Nat.le_of_ble_eq_true rfl)) dX9_laysByRule_175 ⟨Nat.le_of_ble_eq_true rfl, Nat.le_of_ble_eq_true rfl⟩) hD hS hA (fun H locs hP hD hS => ?_)
      refine lv_i2l hx hb dX9_laysByRule_178 rfl ?_
      refine lv_aload_n hx hb dX9_laysByRule_179 rfl (lv_at hl 2 rfl) ?_
      refine lv_iload_n hx hb dX9_laysByRule_180 rfl (lv_at hl 3 rfl) ?_
      refine lv_iload_n hx hb dX9_laysByRule_181 rfl (lv_at hl 4 rfl) ?_
      refine lv_iload_n hx hb dX9_laysByRule_182 rfl (lv_at hl 5 rfl) ?_
      refine lv_iload hx hb dX9_laysByRule_183 (lv_at hl 6 rfl) ?_
      refine lv_iload hx hb dX9_laysByRule_185 (lv_at hl 7 rfl) ?_
      obtain ⟨r13, v14, hf⟩ := bd1_some hf
      refine gcl (va_runV (As := [.int p1, .int p2, .int p3, .int p4, .int p5]) (rest := [.long (Int32.toInt64 r11), .int r1, .ref (ad 7)]) ⟨hx, hb, hml, hown, hts⟩ (tX9_holds l dC dI dA ad H.size v14) (ccX9_X9_holds hts ⟨Nat.le_of_ble_eq_true rfl, Nat.le_of_ble_eq_true rfl⟩) (gPreV (ci := 9) (q0 := 0) hP hK hD rfl rfl) rfl rfl hl.1 rfl (lv_room (Nat.le_of_ble_eq_true rfl)) dX9_laysByRule_187 ⟨Nat.le_of_ble_eq_true rfl, Nat.le_of_ble_eq_true rfl⟩) hD hS hA (fun H locs hP hD hS => ?_)
      refine lv_ladd hx hb dX9_laysByRule_190 ?_
      obtain ⟨h15, hf⟩ := og_some hf
      obtain ⟨w16, ew16⟩ : ∃ y : Nat → Int64, y = vp_updL c_worth (Int32.toNatClampNeg r1) ((Int32.toInt64 r11) + r13) := ⟨_, rfl⟩
      replace hf := nm_at hf ew16
      refine va_last hx hb hK.1 hP hD hS 7 1 rfl rfl (okI_in h15) dX9_laysByRule_191 (fun H locs hP hD hS => ?_)
      have hP : va_P (dC, dI) vwCl (mW dA ad c_tape c_taped c_tree c_bonds c_moves c_handMoves c_moved c_days c_likely c_outOf c_rateNow c_pence c_top c_bottom c_spot c_textLong c_fault c_number c_numberAt c_figures c_written c_wanted c_found c_drawnNow w16 c_hold c_way w10 c_sDay c_sUps c_sUp c_sMarks c_paidAll c_isPlayed c_isOn c_handMoved c_handPaid c_regret c_aside c_other c_states c_kept c_keptLong c_keptAt c_isTaking) H := by rw [ew16]; exact hP
      have hD : va_D A (mW dA ad c_tape c_taped c_tree c_bonds c_moves c_handMoves c_moved c_days c_likely c_outOf c_rateNow c_pence c_top c_bottom c_spot c_textLong c_fault c_number c_numberAt c_figures c_written c_wanted c_found c_drawnNow w16 c_hold c_way w10 c_sDay c_sUps c_sUp c_sMarks c_paidAll c_isPlayed c_isOn c_handMoved c_handPaid c_regret c_aside c_other c_states c_kept c_keptLong c_keptAt c_isTaking) := by rw [ew16]; exact hD
      cases hf
      exact W.vret hx hb hr (fun t ht _ => gqv hP hD hS ht) hS.2.2 dX9_laysByRule_192
    · replace hf := ifn k8 hf
      refine lv_aload_n hx hb dX9_laysByRule_88 rfl (lv_at hl 2 rfl) ?_
      refine va_get (D := (dC, dI)) (ci := 9) (v := .ref (ad 6)) (C := RX9) (T := TX9) (N := 45) hx hb hts (fun w h => gw_mem (inX9 w h)) hown hK.1 hP 0 rfl rfl 11 (by decide) (hts _ (gw_mem wfX9_26)) (fun _ h9 => h9) rfl dX9_laysByRule_89 ?_
      refine lv_bipush (v := 7) hx hb dX9_laysByRule_92 (by decide) ?_
      refine lv_iload_n hx hb dX9_laysByRule_94 rfl (lv_at hl 4 rfl) ?_
      refine lv_imul hx hb dX9_laysByRule_95 ?_
      refine lv_iload_n hx hb dX9_laysByRule_96 rfl (lv_at hl 5 rfl) ?_
      refine lv_iadd hx hb dX9_laysByRule_97 ?_
      obtain ⟨h17, hf⟩ := og_some hf
      refine va_lald hx hb hK.1 hP 6 1 rfl rfl (okI_in h17) dX9_laysByRule_98 ?_
      refine lv_iload hx hb dX9_laysByRule_99 (lv_at hl 9 rfl) ?_
      refine lv_i2l hx hb dX9_laysByRule_101 rfl ?_
      refine W.lcmp hx hb dX9_laysByRule_102 ?_
      refine lv_if_lt (tgt := 158) hx hb dX9_laysByRule_103 (by decide) (fun k18 => ?_) (fun k18 => ?_)
      · replace hf := ifp (lc_lt.mp k18) hf
        refine lv_aload_n hx hb dX9_laysByRule_158 rfl (lv_at hl 2 rfl) ?_
        refine va_get (D := (dC, dI)) (ci := 9) (v := .ref (ad 10)) (C := RX9) (T := TX9) (N := 45) hx hb hts (fun w h => gw_mem (inX9 w h)) hown hK.1 hP 0 rfl rfl 27 (by decide) (hts _ (gw_mem wfX9_39)) (fun _ h9 => h9) rfl dX9_laysByRule_159 ?_
        refine lv_iload hx hb dX9_laysByRule_162 (lv_at hl 1 rfl) ?_
        refine lv_iconst (v := 0) hx hb dX9_laysByRule_164 (by decide) ?_
        obtain ⟨h19, hf⟩ := og_some hf
        obtain ⟨w20, ew20⟩ : ∃ y : Nat → Int32, y = upd c_acts (Int32.toNatClampNeg r1) 0 := ⟨_, rfl⟩
        replace hf := nm_at hf ew20
        refine va_iast hx hb hK.1 hP hD hS 10 0 rfl rfl (okI_in h19) dX9_laysByRule_165 (fun H locs hP hD hS => ?_)
        have hP : va_P (dC, dI) vwCl (mW dA ad c_tape c_taped c_tree c_bonds c_moves c_handMoves c_moved c_days c_likely c_outOf c_rateNow c_pence c_top c_bottom c_spot c_textLong c_fault c_number c_numberAt c_figures c_written c_wanted c_found c_drawnNow c_worth c_hold c_way w20 c_sDay c_sUps c_sUp c_sMarks c_paidAll c_isPlayed c_isOn c_handMoved c_handPaid c_regret c_aside c_other c_states c_kept c_keptLong c_keptAt c_isTaking) H := by rw [ew20]; exact hP
        have hD : va_D A (mW dA ad c_tape c_taped c_tree c_bonds c_moves c_handMoves c_moved c_days c_likely c_outOf c_rateNow c_pence c_top c_bottom c_spot c_textLong c_fault c_number c_numberAt c_figures c_written c_wanted c_found c_drawnNow c_worth c_hold c_way w20 c_sDay c_sUps c_sUp c_sMarks c_paidAll c_isPlayed c_isOn c_handMoved c_handPaid c_regret c_aside c_other c_states c_kept c_keptLong c_keptAt c_isTaking) := by rw [ew20]; exact hD
        refine lv_aload_n hx hb dX9_laysByRule_166 rfl (lv_at hl 2 rfl) ?_
        refine va_get (D := (dC, dI)) (ci := 9) (v := .ref (ad 7)) (C := RX9) (T := TX9) (N := 45) hx hb hts (fun w h => gw_mem (inX9 w h)) hown hK.1 hP 0 rfl rfl 24 (by decide) (hts _ (gw_mem wfX9_30)) (fun _ h9 => h9) rfl dX9_laysByRule_167 ?_
        refine lv_iload hx hb dX9_laysByRule_170 (lv_at hl 1 rfl) ?_
        refine lv_aload_n hx hb dX9_laysByRule_172 rfl (lv_at hl 2 rfl) ?_
        refine lv_iload_n hx hb dX9_laysByRule_173 rfl (lv_at hl 3 rfl) ?_
        refine lv_iload_n hx hb dX9_laysByRule_174 rfl (lv_at hl 4 rfl) ?_
        obtain ⟨r21, v22, hf⟩ := bd1_some hf
        refine gci (va_runV (As := [.int p1, .int p2]) (rest := [.int r1, .ref (ad 7)]) ⟨hx, hb, hml, hown, hts⟩ (tX9_couponOf l dC dI dA ad H.size v22) (ccX9_X9_couponOf hts ⟨Nat.le_of_ble_eq_true rfl, Nat.le_of_ble_eq_true rfl⟩) (gPreV (ci := 9) (q0 := 0) hP hK hD rfl rfl) rfl rfl hl.1 rfl (lv_room (Nat.le_of_ble_eq_true rfl)) dX9_laysByRule_175 ⟨Nat.le_of_ble_eq_true rfl, Nat.le_of_ble_eq_true rfl⟩) hD hS hA (fun H locs hP hD hS => ?_)
        refine lv_i2l hx hb dX9_laysByRule_178 rfl ?_
        refine lv_aload_n hx hb dX9_laysByRule_179 rfl (lv_at hl 2 rfl) ?_
        refine lv_iload_n hx hb dX9_laysByRule_180 rfl (lv_at hl 3 rfl) ?_
        refine lv_iload_n hx hb dX9_laysByRule_181 rfl (lv_at hl 4 rfl) ?_
        refine lv_iload_n hx hb dX9_laysByRule_182 rfl (lv_at hl 5 rfl) ?_
        refine lv_iload hx hb dX9_laysByRule_183 (lv_at hl 6 rfl) ?_
        refine lv_iload hx hb dX9_laysByRule_185 (lv_at hl 7 rfl) ?_
        obtain ⟨r23, v24, hf⟩ := bd1_some hf
        refine gcl (va_runV (As := [.int p1, .int p2, .int p3, .int p4, .int p5]) (rest := [.long (Int32.toInt64 r21), .int r1, .ref (ad 7)]) ⟨hx, hb, hml, hown, hts⟩ (tX9_holds l dC dI dA ad H.size v24) (ccX9_X9_holds hts ⟨Nat.le_of_ble_eq_true rfl, Nat.le_of_ble_eq_true rfl⟩) (gPreV (ci := 9) (q0 := 0) hP hK hD rfl rfl) rfl rfl hl.1 rfl (lv_room (Nat.le_of_ble_eq_true rfl)) dX9_laysByRule_187 ⟨Nat.le_of_ble_eq_true rfl, Nat.le_of_ble_eq_true rfl⟩) hD hS hA (fun H locs hP hD hS => ?_)
        refine lv_ladd hx hb dX9_laysByRule_190 ?_
        obtain ⟨h25, hf⟩ := og_some hf
        obtain ⟨w26, ew26⟩ : ∃ y : Nat → Int64, y = vp_updL c_worth (Int32.toNatClampNeg r1) ((Int32.toInt64 r21) + r23) := ⟨_, rfl⟩
        replace hf := nm_at hf ew26
        refine va_last hx hb hK.1 hP hD hS 7 1 rfl rfl (okI_in h25) dX9_laysByRule_191 (fun H locs hP hD hS => ?_)
        have hP : va_P (dC, dI) vwCl (mW dA ad c_tape c_taped c_tree c_bonds c_moves c_handMoves c_moved c_days c_likely c_outOf c_rateNow c_pence c_top c_bottom c_spot c_textLong c_fault c_number c_numberAt c_figures c_written c_wanted c_found c_drawnNow w26 c_hold c_way w20 c_sDay c_sUps c_sUp c_sMarks c_paidAll c_isPlayed c_isOn c_handMoved c_handPaid c_regret c_aside c_other c_states c_kept c_keptLong c_keptAt c_isTaking) H := by rw [ew26]; exact hP
        have hD : va_D A (mW dA ad c_tape c_taped c_tree c_bonds c_moves c_handMoves c_moved c_days c_likely c_outOf c_rateNow c_pence c_top c_bottom c_spot c_textLong c_fault c_number c_numberAt c_figures c_written c_wanted c_found c_drawnNow w26 c_hold c_way w20 c_sDay c_sUps c_sUp c_sMarks c_paidAll c_isPlayed c_isOn c_handMoved c_handPaid c_regret c_aside c_other c_states c_kept c_keptLong c_keptAt c_isTaking) := by rw [ew26]; exact hD
        cases hf
        exact W.vret hx hb hr (fun t ht _ => gqv hP hD hS ht) hS.2.2 dX9_laysByRule_192
      · replace hf := ifn (fun h => k18 (lc_lt.mpr h)) hf
        refine lv_aload_n hx hb dX9_laysByRule_106 rfl (lv_at hl 2 rfl) ?_
        refine va_get (D := (dC, dI)) (ci := 9) (v := .ref (ad 10)) (C := RX9) (T := TX9) (N := 45) hx hb hts (fun w h => gw_mem (inX9 w h)) hown hK.1 hP 0 rfl rfl 27 (by decide) (hts _ (gw_mem wfX9_39)) (fun _ h9 => h9) rfl dX9_laysByRule_107 ?_
        refine lv_iload hx hb dX9_laysByRule_110 (lv_at hl 1 rfl) ?_
        refine lv_lload hx hb dX9_laysByRule_112 (lv_at hl 0 rfl) ?_
        refine lv_aload_n hx hb dX9_laysByRule_114 rfl (lv_at hl 2 rfl) ?_
        refine lv_iload_n hx hb dX9_laysByRule_115 rfl (lv_at hl 3 rfl) ?_
        refine lv_iload_n hx hb dX9_laysByRule_116 rfl (lv_at hl 4 rfl) ?_
        obtain ⟨r27, v28, hf⟩ := bd1_some hf
        refine gci (va_runV (As := [.int p1, .int p2]) (rest := [.long r3, .int r1, .ref (ad 10)]) ⟨hx, hb, hml, hown, hts⟩ (tX9_callOf l dC dI dA ad H.size v28) (ccX9_X9_callOf hts ⟨Nat.le_of_ble_eq_true rfl, Nat.le_of_ble_eq_true rfl⟩) (gPreV (ci := 9) (q0 := 0) hP hK hD rfl rfl) rfl rfl hl.1 rfl (lv_room (Nat.le_of_ble_eq_true rfl)) dX9_laysByRule_117 ⟨Nat.le_of_ble_eq_true rfl, Nat.le_of_ble_eq_true rfl⟩) hD hS hA (fun H locs hP hD hS => ?_)
        refine lv_i2l hx hb dX9_laysByRule_120 rfl ?_
        refine W.lcmp hx hb dX9_laysByRule_121 ?_
        refine lv_if_le (tgt := 129) hx hb dX9_laysByRule_122 (by decide) (fun k29 => ?_) (fun k29 => ?_)
        · replace hf := ifp (lc_le.mp k29) hf
          refine lv_iconst (v := 3) hx hb dX9_laysByRule_129 (by decide) ?_
          obtain ⟨h30, hf⟩ := og_some hf
          obtain ⟨w31, ew31⟩ : ∃ y : Nat → Int32, y = upd c_acts (Int32.toNatClampNeg r1) 3 := ⟨_, rfl⟩
          replace hf := nm_at hf ew31
          refine va_iast hx hb hK.1 hP hD hS 10 0 rfl rfl (okI_in h30) dX9_laysByRule_130 (fun H locs hP hD hS => ?_)
          have hP : va_P (dC, dI) vwCl (mW dA ad c_tape c_taped c_tree c_bonds c_moves c_handMoves c_moved c_days c_likely c_outOf c_rateNow c_pence c_top c_bottom c_spot c_textLong c_fault c_number c_numberAt c_figures c_written c_wanted c_found c_drawnNow c_worth c_hold c_way w31 c_sDay c_sUps c_sUp c_sMarks c_paidAll c_isPlayed c_isOn c_handMoved c_handPaid c_regret c_aside c_other c_states c_kept c_keptLong c_keptAt c_isTaking) H := by rw [ew31]; exact hP
          have hD : va_D A (mW dA ad c_tape c_taped c_tree c_bonds c_moves c_handMoves c_moved c_days c_likely c_outOf c_rateNow c_pence c_top c_bottom c_spot c_textLong c_fault c_number c_numberAt c_figures c_written c_wanted c_found c_drawnNow c_worth c_hold c_way w31 c_sDay c_sUps c_sUp c_sMarks c_paidAll c_isPlayed c_isOn c_handMoved c_handPaid c_regret c_aside c_other c_states c_kept c_keptLong c_keptAt c_isTaking) := by rw [ew31]; exact hD
          refine lv_aload_n hx hb dX9_laysByRule_131 rfl (lv_at hl 2 rfl) ?_
          refine va_get (D := (dC, dI)) (ci := 9) (v := .ref (ad 7)) (C := RX9) (T := TX9) (N := 45) hx hb hts (fun w h => gw_mem (inX9 w h)) hown hK.1 hP 0 rfl rfl 24 (by decide) (hts _ (gw_mem wfX9_30)) (fun _ h9 => h9) rfl dX9_laysByRule_132 ?_
          refine lv_iload hx hb dX9_laysByRule_135 (lv_at hl 1 rfl) ?_
          refine lv_aload_n hx hb dX9_laysByRule_137 rfl (lv_at hl 2 rfl) ?_
          refine lv_iload_n hx hb dX9_laysByRule_138 rfl (lv_at hl 3 rfl) ?_
          refine lv_iload_n hx hb dX9_laysByRule_139 rfl (lv_at hl 4 rfl) ?_
          obtain ⟨r32, v33, hf⟩ := bd1_some hf
          refine gci (va_runV (As := [.int p1, .int p2]) (rest := [.int r1, .ref (ad 7)]) ⟨hx, hb, hml, hown, hts⟩ (tX9_couponOf l dC dI dA ad H.size v33) (ccX9_X9_couponOf hts ⟨Nat.le_of_ble_eq_true rfl, Nat.le_of_ble_eq_true rfl⟩) (gPreV (ci := 9) (q0 := 0) hP hK hD rfl rfl) rfl rfl hl.1 rfl (lv_room (Nat.le_of_ble_eq_true rfl)) dX9_laysByRule_140 ⟨Nat.le_of_ble_eq_true rfl, Nat.le_of_ble_eq_true rfl⟩) hD hS hA (fun H locs hP hD hS => ?_)
          refine lv_i2l hx hb dX9_laysByRule_143 rfl ?_
          refine lv_aload_n hx hb dX9_laysByRule_144 rfl (lv_at hl 2 rfl) ?_
          refine lv_iload_n hx hb dX9_laysByRule_145 rfl (lv_at hl 3 rfl) ?_
          refine lv_iload_n hx hb dX9_laysByRule_146 rfl (lv_at hl 4 rfl) ?_
          refine lv_iload_n hx hb dX9_laysByRule_147 rfl (lv_at hl 5 rfl) ?_
          refine lv_iload hx hb dX9_laysByRule_148 (lv_at hl 6 rfl) ?_
          obtain ⟨r34, v35, hf⟩ := bd1_some hf
          refine gcl (va_runV (As := [.int p1, .int p2, .int p3, .int p4]) (rest := [.long (Int32.toInt64 r32), .int r1, .ref (ad 7)]) ⟨hx, hb, hml, hown, hts⟩ (tX9_called l dC dI dA ad H.size v35) (ccX9_X9_called hts ⟨Nat.le_of_ble_eq_true rfl, Nat.le_of_ble_eq_true rfl⟩) (gPreV (ci := 9) (q0 := 0) hP hK hD rfl rfl) rfl rfl hl.1 rfl (lv_room (Nat.le_of_ble_eq_true rfl)) dX9_laysByRule_150 ⟨Nat.le_of_ble_eq_true rfl, Nat.le_of_ble_eq_true rfl⟩) hD hS hA (fun H locs hP hD hS => ?_)
          refine lv_ladd hx hb dX9_laysByRule_153 ?_
          obtain ⟨h36, hf⟩ := og_some hf
          obtain ⟨w37, ew37⟩ : ∃ y : Nat → Int64, y = vp_updL c_worth (Int32.toNatClampNeg r1) ((Int32.toInt64 r32) + r34) := ⟨_, rfl⟩
          replace hf := nm_at hf ew37
          refine va_last hx hb hK.1 hP hD hS 7 1 rfl rfl (okI_in h36) dX9_laysByRule_154 (fun H locs hP hD hS => ?_)
          have hP : va_P (dC, dI) vwCl (mW dA ad c_tape c_taped c_tree c_bonds c_moves c_handMoves c_moved c_days c_likely c_outOf c_rateNow c_pence c_top c_bottom c_spot c_textLong c_fault c_number c_numberAt c_figures c_written c_wanted c_found c_drawnNow w37 c_hold c_way w31 c_sDay c_sUps c_sUp c_sMarks c_paidAll c_isPlayed c_isOn c_handMoved c_handPaid c_regret c_aside c_other c_states c_kept c_keptLong c_keptAt c_isTaking) H := by rw [ew37]; exact hP
          have hD : va_D A (mW dA ad c_tape c_taped c_tree c_bonds c_moves c_handMoves c_moved c_days c_likely c_outOf c_rateNow c_pence c_top c_bottom c_spot c_textLong c_fault c_number c_numberAt c_figures c_written c_wanted c_found c_drawnNow w37 c_hold c_way w31 c_sDay c_sUps c_sUp c_sMarks c_paidAll c_isPlayed c_isOn c_handMoved c_handPaid c_regret c_aside c_other c_states c_kept c_keptLong c_keptAt c_isTaking) := by rw [ew37]; exact hD
          refine lv_goto (tgt := 192) hx hb dX9_laysByRule_155 (by decide) ?_
          cases hf
          exact W.vret hx hb hr (fun t ht _ => gqv hP hD hS ht) hS.2.2 dX9_laysByRule_192
        · replace hf := ifn (fun h => k29 (lc_le.mpr h)) hf
          refine lv_iconst (v := 4) hx hb dX9_laysByRule_125 (by decide) ?_
          refine lv_goto (tgt := 130) hx hb dX9_laysByRule_126 (by decide) ?_
          obtain ⟨h38, hf⟩ := og_some hf
          obtain ⟨w39, ew39⟩ : ∃ y : Nat → Int32, y = upd c_acts (Int32.toNatClampNeg r1) 4 := ⟨_, rfl⟩
          replace hf := nm_at hf ew39
          refine va_iast hx hb hK.1 hP hD hS 10 0 rfl rfl (okI_in h38) dX9_laysByRule_130 (fun H locs hP hD hS => ?_)
          have hP : va_P (dC, dI) vwCl (mW dA ad c_tape c_taped c_tree c_bonds c_moves c_handMoves c_moved c_days c_likely c_outOf c_rateNow c_pence c_top c_bottom c_spot c_textLong c_fault c_number c_numberAt c_figures c_written c_wanted c_found c_drawnNow c_worth c_hold c_way w39 c_sDay c_sUps c_sUp c_sMarks c_paidAll c_isPlayed c_isOn c_handMoved c_handPaid c_regret c_aside c_other c_states c_kept c_keptLong c_keptAt c_isTaking) H := by rw [ew39]; exact hP
          have hD : va_D A (mW dA ad c_tape c_taped c_tree c_bonds c_moves c_handMoves c_moved c_days c_likely c_outOf c_rateNow c_pence c_top c_bottom c_spot c_textLong c_fault c_number c_numberAt c_figures c_written c_wanted c_found c_drawnNow c_worth c_hold c_way w39 c_sDay c_sUps c_sUp c_sMarks c_paidAll c_isPlayed c_isOn c_handMoved c_handPaid c_regret c_aside c_other c_states c_kept c_keptLong c_keptAt c_isTaking) := by rw [ew39]; exact hD
          refine lv_aload_n hx hb dX9_laysByRule_131 rfl (lv_at hl 2 rfl) ?_
          refine va_get (D := (dC, dI)) (ci := 9) (v := .ref (ad 7)) (C := RX9) (T := TX9) (N := 45) hx hb hts (fun w h => gw_mem (inX9 w h)) hown hK.1 hP 0 rfl rfl 24 (by decide) (hts _ (gw_mem wfX9_30)) (fun _ h9 => h9) rfl dX9_laysByRule_132 ?_
          refine lv_iload hx hb dX9_laysByRule_135 (lv_at hl 1 rfl) ?_
          refine lv_aload_n hx hb dX9_laysByRule_137 rfl (lv_at hl 2 rfl) ?_
          refine lv_iload_n hx hb dX9_laysByRule_138 rfl (lv_at hl 3 rfl) ?_
          refine lv_iload_n hx hb dX9_laysByRule_139 rfl (lv_at hl 4 rfl) ?_
          obtain ⟨r40, v41, hf⟩ := bd1_some hf
          refine gci (va_runV (As := [.int p1, .int p2]) (rest := [.int r1, .ref (ad 7)]) ⟨hx, hb, hml, hown, hts⟩ (tX9_couponOf l dC dI dA ad H.size v41) (ccX9_X9_couponOf hts ⟨Nat.le_of_ble_eq_true rfl, Nat.le_of_ble_eq_true rfl⟩) (gPreV (ci := 9) (q0 := 0) hP hK hD rfl rfl) rfl rfl hl.1 rfl (lv_room (Nat.le_of_ble_eq_true rfl)) dX9_laysByRule_140 ⟨Nat.le_of_ble_eq_true rfl, Nat.le_of_ble_eq_true rfl⟩) hD hS hA (fun H locs hP hD hS => ?_)
          refine lv_i2l hx hb dX9_laysByRule_143 rfl ?_
          refine lv_aload_n hx hb dX9_laysByRule_144 rfl (lv_at hl 2 rfl) ?_
          refine lv_iload_n hx hb dX9_laysByRule_145 rfl (lv_at hl 3 rfl) ?_
          refine lv_iload_n hx hb dX9_laysByRule_146 rfl (lv_at hl 4 rfl) ?_
          refine lv_iload_n hx hb dX9_laysByRule_147 rfl (lv_at hl 5 rfl) ?_
          refine lv_iload hx hb dX9_laysByRule_148 (lv_at hl 6 rfl) ?_
          obtain ⟨r42, v43, hf⟩ := bd1_some hf
          refine gcl (va_runV (As := [.int p1, .int p2, .int p3, .int p4]) (rest := [.long (Int32.toInt64 r40), .int r1, .ref (ad 7)]) ⟨hx, hb, hml, hown, hts⟩ (tX9_called l dC dI dA ad H.size v43) (ccX9_X9_called hts ⟨Nat.le_of_ble_eq_true rfl, Nat.le_of_ble_eq_true rfl⟩) (gPreV (ci := 9) (q0 := 0) hP hK hD rfl rfl) rfl rfl hl.1 rfl (lv_room (Nat.le_of_ble_eq_true rfl)) dX9_laysByRule_150 ⟨Nat.le_of_ble_eq_true rfl, Nat.le_of_ble_eq_true rfl⟩) hD hS hA (fun H locs hP hD hS => ?_)
          refine lv_ladd hx hb dX9_laysByRule_153 ?_
          obtain ⟨h44, hf⟩ := og_some hf
          obtain ⟨w45, ew45⟩ : ∃ y : Nat → Int64, y = vp_updL c_worth (Int32.toNatClampNeg r1) ((Int32.toInt64 r40) + r42) := ⟨_, rfl⟩
          replace hf := nm_at hf ew45
          refine va_last hx hb hK.1 hP hD hS 7 1 rfl rfl (okI_in h44) dX9_laysByRule_154 (fun H locs hP hD hS => ?_)
          have hP : va_P (dC, dI) vwCl (mW dA ad c_tape c_taped c_tree c_bonds c_moves c_handMoves c_moved c_days c_likely c_outOf c_rateNow c_pence c_top c_bottom c_spot c_textLong c_fault c_number c_numberAt c_figures c_written c_wanted c_found c_drawnNow w45 c_hold c_way w39 c_sDay c_sUps c_sUp c_sMarks c_paidAll c_isPlayed c_isOn c_handMoved c_handPaid c_regret c_aside c_other c_states c_kept c_keptLong c_keptAt c_isTaking) H := by rw [ew45]; exact hP
          have hD : va_D A (mW dA ad c_tape c_taped c_tree c_bonds c_moves c_handMoves c_moved c_days c_likely c_outOf c_rateNow c_pence c_top c_bottom c_spot c_textLong c_fault c_number c_numberAt c_figures c_written c_wanted c_found c_drawnNow w45 c_hold c_way w39 c_sDay c_sUps c_sUp c_sMarks c_paidAll c_isPlayed c_isOn c_handMoved c_handPaid c_regret c_aside c_other c_states c_kept c_keptLong c_keptAt c_isTaking) := by rw [ew45]; exact hD
          refine lv_goto (tgt := 192) hx hb dX9_laysByRule_155 (by decide) ?_
          cases hf
          exact W.vret hx hb hr (fun t ht _ => gqv hP hD hS ht) hS.2.2 dX9_laysByRule_192
  · replace hf := ifn (fun h => k5 (lc_eq.mpr h)) hf
    refine lv_aload_n hx hb dX9_laysByRule_31 rfl (lv_at hl 2 rfl) ?_
    refine va_get (D := (dC, dI)) (ci := 9) (v := .ref (ad 6)) (C := RX9) (T := TX9) (N := 45) hx hb hts (fun w h => gw_mem (inX9 w h)) hown hK.1 hP 0 rfl rfl 11 (by decide) (hts _ (gw_mem wfX9_26)) (fun _ h9 => h9) rfl dX9_laysByRule_32 ?_
    refine lv_bipush (v := 7) hx hb dX9_laysByRule_35 (by decide) ?_
    refine lv_iload_n hx hb dX9_laysByRule_37 rfl (lv_at hl 4 rfl) ?_
    refine lv_imul hx hb dX9_laysByRule_38 ?_
    refine lv_iload_n hx hb dX9_laysByRule_39 rfl (lv_at hl 5 rfl) ?_
    refine lv_iadd hx hb dX9_laysByRule_40 ?_
    obtain ⟨h46, hf⟩ := og_some hf
    refine va_lald hx hb hK.1 hP 6 1 rfl rfl (okI_in h46) dX9_laysByRule_41 ?_
    refine lv_iload hx hb dX9_laysByRule_42 (lv_at hl 8 rfl) ?_
    refine lv_i2l hx hb dX9_laysByRule_44 rfl ?_
    refine W.lcmp hx hb dX9_laysByRule_45 ?_
    refine lv_if_lt (tgt := 77) hx hb dX9_laysByRule_46 (by decide) (fun k47 => ?_) (fun k47 => ?_)
    · replace hf := ifp (lc_lt.mp k47) hf
      refine lv_aload_n hx hb dX9_laysByRule_77 rfl (lv_at hl 2 rfl) ?_
      refine lv_iload_n hx hb dX9_laysByRule_78 rfl (lv_at hl 3 rfl) ?_
      refine lv_iload_n hx hb dX9_laysByRule_79 rfl (lv_at hl 4 rfl) ?_
      refine lv_iload hx hb dX9_laysByRule_80 (lv_at hl 7 rfl) ?_
      obtain ⟨r48, v49, hf⟩ := bd1_some hf
      refine gci (va_runV (As := [.int p1, .int p2, .int p5]) (rest := []) ⟨hx, hb, hml, hown, hts⟩ (tX9_isFree l dC dI dA ad H.size v49) (ccX9_X9_isFree hts ⟨Nat.le_of_ble_eq_true rfl, Nat.le_of_ble_eq_true rfl⟩) (gPreV (ci := 9) (q0 := 0) hP hK hD rfl rfl) rfl rfl hl.1 rfl (lv_room (Nat.le_of_ble_eq_true rfl)) dX9_laysByRule_82 ⟨Nat.le_of_ble_eq_true rfl, Nat.le_of_ble_eq_true rfl⟩) hD hS hA (fun H locs hP hD hS => ?_)
      refine lv_if_eq (tgt := 158) hx hb dX9_laysByRule_85 (by decide) (fun k50 => ?_) (fun k50 => ?_)
      · replace hf := ifp k50 hf
        refine lv_aload_n hx hb dX9_laysByRule_158 rfl (lv_at hl 2 rfl) ?_
        refine va_get (D := (dC, dI)) (ci := 9) (v := .ref (ad 10)) (C := RX9) (T := TX9) (N := 45) hx hb hts (fun w h => gw_mem (inX9 w h)) hown hK.1 hP 0 rfl rfl 27 (by decide) (hts _ (gw_mem wfX9_39)) (fun _ h9 => h9) rfl dX9_laysByRule_159 ?_
        refine lv_iload hx hb dX9_laysByRule_162 (lv_at hl 1 rfl) ?_
        refine lv_iconst (v := 0) hx hb dX9_laysByRule_164 (by decide) ?_
        obtain ⟨h51, hf⟩ := og_some hf
        obtain ⟨w52, ew52⟩ : ∃ y : Nat → Int32, y = upd c_acts (Int32.toNatClampNeg r1) 0 := ⟨_, rfl⟩
        replace hf := nm_at hf ew52
        refine va_iast hx hb hK.1 hP hD hS 10 0 rfl rfl (okI_in h51) dX9_laysByRule_165 (fun H locs hP hD hS => ?_)
        have hP : va_P (dC, dI) vwCl (mW dA ad c_tape c_taped c_tree c_bonds c_moves c_handMoves c_moved c_days c_likely c_outOf c_rateNow c_pence c_top c_bottom c_spot c_textLong c_fault c_number c_numberAt c_figures c_written c_wanted c_found c_drawnNow c_worth c_hold c_way w52 c_sDay c_sUps c_sUp c_sMarks c_paidAll c_isPlayed c_isOn c_handMoved c_handPaid c_regret c_aside c_other c_states c_kept c_keptLong c_keptAt c_isTaking) H := by rw [ew52]; exact hP
        have hD : va_D A (mW dA ad c_tape c_taped c_tree c_bonds c_moves c_handMoves c_moved c_days c_likely c_outOf c_rateNow c_pence c_top c_bottom c_spot c_textLong c_fault c_number c_numberAt c_figures c_written c_wanted c_found c_drawnNow c_worth c_hold c_way w52 c_sDay c_sUps c_sUp c_sMarks c_paidAll c_isPlayed c_isOn c_handMoved c_handPaid c_regret c_aside c_other c_states c_kept c_keptLong c_keptAt c_isTaking) := by rw [ew52]; exact hD
        refine lv_aload_n hx hb dX9_laysByRule_166 rfl (lv_at hl 2 rfl) ?_
        refine va_get (D := (dC, dI)) (ci := 9) (v := .ref (ad 7)) (C := RX9) (T := TX9) (N := 45) hx hb hts (fun w h => gw_mem (inX9 w h)) hown hK.1 hP 0 rfl rfl 24 (by decide) (hts _ (gw_mem wfX9_30)) (fun _ h9 => h9) rfl dX9_laysByRule_167 ?_
        refine lv_iload hx hb dX9_laysByRule_170 (lv_at hl 1 rfl) ?_
        refine lv_aload_n hx hb dX9_laysByRule_172 rfl (lv_at hl 2 rfl) ?_
        refine lv_iload_n hx hb dX9_laysByRule_173 rfl (lv_at hl 3 rfl) ?_
        refine lv_iload_n hx hb dX9_laysByRule_174 rfl (lv_at hl 4 rfl) ?_
        obtain ⟨r53, v54, hf⟩ := bd1_some hf
        refine gci (va_runV (As := [.int p1, .int p2]) (rest := [.int r1, .ref (ad 7)]) ⟨hx, hb, hml, hown, hts⟩ (tX9_couponOf l dC dI dA ad H.size v54) (ccX9_X9_couponOf hts ⟨Nat.le_of_ble_eq_true rfl, Nat.le_of_ble_eq_true rfl⟩) (gPreV (ci := 9) (q0 := 0) hP hK hD rfl rfl) rfl rfl hl.1 rfl (lv_room (Nat.le_of_ble_eq_true rfl)) dX9_laysByRule_175 ⟨Nat.le_of_ble_eq_true rfl, Nat.le_of_ble_eq_true rfl⟩) hD hS hA (fun H locs hP hD hS => ?_)
        refine lv_i2l hx hb dX9_laysByRule_178 rfl ?_
        refine lv_aload_n hx hb dX9_laysByRule_179 rfl (lv_at hl 2 rfl) ?_
        refine lv_iload_n hx hb dX9_laysByRule_180 rfl (lv_at hl 3 rfl) ?_
        refine lv_iload_n hx hb dX9_laysByRule_181 rfl (lv_at hl 4 rfl) ?_
        refine lv_iload_n hx hb dX9_laysByRule_182 rfl (lv_at hl 5 rfl) ?_
        refine lv_iload hx hb dX9_laysByRule_183 (lv_at hl 6 rfl) ?_
        refine lv_iload hx hb dX9_laysByRule_185 (lv_at hl 7 rfl) ?_
        obtain ⟨r55, v56, hf⟩ := bd1_some hf
        refine gcl (va_runV (As := [.int p1, .int p2, .int p3, .int p4, .int p5]) (rest := [.long (Int32.toInt64 r53), .int r1, .ref (ad 7)]) ⟨hx, hb, hml, hown, hts⟩ (tX9_holds l dC dI dA ad H.size v56) (ccX9_X9_holds hts ⟨Nat.le_of_ble_eq_true rfl, Nat.le_of_ble_eq_true rfl⟩) (gPreV (ci := 9) (q0 := 0) hP hK hD rfl rfl) rfl rfl hl.1 rfl (lv_room (Nat.le_of_ble_eq_true rfl)) dX9_laysByRule_187 ⟨Nat.le_of_ble_eq_true rfl, Nat.le_of_ble_eq_true rfl⟩) hD hS hA (fun H locs hP hD hS => ?_)
        refine lv_ladd hx hb dX9_laysByRule_190 ?_
        obtain ⟨h57, hf⟩ := og_some hf
        obtain ⟨w58, ew58⟩ : ∃ y : Nat → Int64, y = vp_updL c_worth (Int32.toNatClampNeg r1) ((Int32.toInt64 r53) + r55) := ⟨_, rfl⟩
        replace hf := nm_at hf ew58
        refine va_last hx hb hK.1 hP hD hS 7 1 rfl rfl (okI_in h57) dX9_laysByRule_191 (fun H locs hP hD hS => ?_)
        have hP : va_P (dC, dI) vwCl (mW dA ad c_tape c_taped c_tree c_bonds c_moves c_handMoves c_moved c_days c_likely c_outOf c_rateNow c_pence c_top c_bottom c_spot c_textLong c_fault c_number c_numberAt c_figures c_written c_wanted c_found c_drawnNow w58 c_hold c_way w52 c_sDay c_sUps c_sUp c_sMarks c_paidAll c_isPlayed c_isOn c_handMoved c_handPaid c_regret c_aside c_other c_states c_kept c_keptLong c_keptAt c_isTaking) H := by rw [ew58]; exact hP
        have hD : va_D A (mW dA ad c_tape c_taped c_tree c_bonds c_moves c_handMoves c_moved c_days c_likely c_outOf c_rateNow c_pence c_top c_bottom c_spot c_textLong c_fault c_number c_numberAt c_figures c_written c_wanted c_found c_drawnNow w58 c_hold c_way w52 c_sDay c_sUps c_sUp c_sMarks c_paidAll c_isPlayed c_isOn c_handMoved c_handPaid c_regret c_aside c_other c_states c_kept c_keptLong c_keptAt c_isTaking) := by rw [ew58]; exact hD
        cases hf
        exact W.vret hx hb hr (fun t ht _ => gqv hP hD hS ht) hS.2.2 dX9_laysByRule_192
      · replace hf := ifn k50 hf
        refine lv_aload_n hx hb dX9_laysByRule_88 rfl (lv_at hl 2 rfl) ?_
        refine va_get (D := (dC, dI)) (ci := 9) (v := .ref (ad 6)) (C := RX9) (T := TX9) (N := 45) hx hb hts (fun w h => gw_mem (inX9 w h)) hown hK.1 hP 0 rfl rfl 11 (by decide) (hts _ (gw_mem wfX9_26)) (fun _ h9 => h9) rfl dX9_laysByRule_89 ?_
        refine lv_bipush (v := 7) hx hb dX9_laysByRule_92 (by decide) ?_
        refine lv_iload_n hx hb dX9_laysByRule_94 rfl (lv_at hl 4 rfl) ?_
        refine lv_imul hx hb dX9_laysByRule_95 ?_
        refine lv_iload_n hx hb dX9_laysByRule_96 rfl (lv_at hl 5 rfl) ?_
        refine lv_iadd hx hb dX9_laysByRule_97 ?_
        obtain ⟨h59, hf⟩ := og_some hf
        refine va_lald hx hb hK.1 hP 6 1 rfl rfl (okI_in h59) dX9_laysByRule_98 ?_
        refine lv_iload hx hb dX9_laysByRule_99 (lv_at hl 9 rfl) ?_
        refine lv_i2l hx hb dX9_laysByRule_101 rfl ?_
        refine W.lcmp hx hb dX9_laysByRule_102 ?_
        refine lv_if_lt (tgt := 158) hx hb dX9_laysByRule_103 (by decide) (fun k60 => ?_) (fun k60 => ?_)
        · replace hf := ifp (lc_lt.mp k60) hf
          refine lv_aload_n hx hb dX9_laysByRule_158 rfl (lv_at hl 2 rfl) ?_
          refine va_get (D := (dC, dI)) (ci := 9) (v := .ref (ad 10)) (C := RX9) (T := TX9) (N := 45) hx hb hts (fun w h => gw_mem (inX9 w h)) hown hK.1 hP 0 rfl rfl 27 (by decide) (hts _ (gw_mem wfX9_39)) (fun _ h9 => h9) rfl dX9_laysByRule_159 ?_
          refine lv_iload hx hb dX9_laysByRule_162 (lv_at hl 1 rfl) ?_
          refine lv_iconst (v := 0) hx hb dX9_laysByRule_164 (by decide) ?_
          obtain ⟨h61, hf⟩ := og_some hf
          obtain ⟨w62, ew62⟩ : ∃ y : Nat → Int32, y = upd c_acts (Int32.toNatClampNeg r1) 0 := ⟨_, rfl⟩
          replace hf := nm_at hf ew62
          refine va_iast hx hb hK.1 hP hD hS 10 0 rfl rfl (okI_in h61) dX9_laysByRule_165 (fun H locs hP hD hS => ?_)
          have hP : va_P (dC, dI) vwCl (mW dA ad c_tape c_taped c_tree c_bonds c_moves c_handMoves c_moved c_days c_likely c_outOf c_rateNow c_pence c_top c_bottom c_spot c_textLong c_fault c_number c_numberAt c_figures c_written c_wanted c_found c_drawnNow c_worth c_hold c_way w62 c_sDay c_sUps c_sUp c_sMarks c_paidAll c_isPlayed c_isOn c_handMoved c_handPaid c_regret c_aside c_other c_states c_kept c_keptLong c_keptAt c_isTaking) H := by rw [ew62]; exact hP
          have hD : va_D A (mW dA ad c_tape c_taped c_tree c_bonds c_moves c_handMoves c_moved c_days c_likely c_outOf c_rateNow c_pence c_top c_bottom c_spot c_textLong c_fault c_number c_numberAt c_figures c_written c_wanted c_found c_drawnNow c_worth c_hold c_way w62 c_sDay c_sUps c_sUp c_sMarks c_paidAll c_isPlayed c_isOn c_handMoved c_handPaid c_regret c_aside c_other c_states c_kept c_keptLong c_keptAt c_isTaking) := by rw [ew62]; exact hD
          refine lv_aload_n hx hb dX9_laysByRule_166 rfl (lv_at hl 2 rfl) ?_
          refine va_get (D := (dC, dI)) (ci := 9) (v := .ref (ad 7)) (C := RX9) (T := TX9) (N := 45) hx hb hts (fun w h => gw_mem (inX9 w h)) hown hK.1 hP 0 rfl rfl 24 (by decide) (hts _ (gw_mem wfX9_30)) (fun _ h9 => h9) rfl dX9_laysByRule_167 ?_
          refine lv_iload hx hb dX9_laysByRule_170 (lv_at hl 1 rfl) ?_
          refine lv_aload_n hx hb dX9_laysByRule_172 rfl (lv_at hl 2 rfl) ?_
          refine lv_iload_n hx hb dX9_laysByRule_173 rfl (lv_at hl 3 rfl) ?_
          refine lv_iload_n hx hb dX9_laysByRule_174 rfl (lv_at hl 4 rfl) ?_
          obtain ⟨r63, v64, hf⟩ := bd1_some hf
          refine gci (va_runV (As := [.int p1, .int p2]) (rest := [.int r1, .ref (ad 7)]) ⟨hx, hb, hml, hown, hts⟩ (tX9_couponOf l dC dI dA ad H.size v64) (ccX9_X9_couponOf hts ⟨Nat.le_of_ble_eq_true rfl, Nat.le_of_ble_eq_true rfl⟩) (gPreV (ci := 9) (q0 := 0) hP hK hD rfl rfl) rfl rfl hl.1 rfl (lv_room (Nat.le_of_ble_eq_true rfl)) dX9_laysByRule_175 ⟨Nat.le_of_ble_eq_true rfl, Nat.le_of_ble_eq_true rfl⟩) hD hS hA (fun H locs hP hD hS => ?_)
          refine lv_i2l hx hb dX9_laysByRule_178 rfl ?_
          refine lv_aload_n hx hb dX9_laysByRule_179 rfl (lv_at hl 2 rfl) ?_
          refine lv_iload_n hx hb dX9_laysByRule_180 rfl (lv_at hl 3 rfl) ?_
          refine lv_iload_n hx hb dX9_laysByRule_181 rfl (lv_at hl 4 rfl) ?_
          refine lv_iload_n hx hb dX9_laysByRule_182 rfl (lv_at hl 5 rfl) ?_
          refine lv_iload hx hb dX9_laysByRule_183 (lv_at hl 6 rfl) ?_
          refine lv_iload hx hb dX9_laysByRule_185 (lv_at hl 7 rfl) ?_
          obtain ⟨r65, v66, hf⟩ := bd1_some hf
          refine gcl (va_runV (As := [.int p1, .int p2, .int p3, .int p4, .int p5]) (rest := [.long (Int32.toInt64 r63), .int r1, .ref (ad 7)]) ⟨hx, hb, hml, hown, hts⟩ (tX9_holds l dC dI dA ad H.size v66) (ccX9_X9_holds hts ⟨Nat.le_of_ble_eq_true rfl, Nat.le_of_ble_eq_true rfl⟩) (gPreV (ci := 9) (q0 := 0) hP hK hD rfl rfl) rfl rfl hl.1 rfl (lv_room (Nat.le_of_ble_eq_true rfl)) dX9_laysByRule_187 ⟨Nat.le_of_ble_eq_true rfl, Nat.le_of_ble_eq_true rfl⟩) hD hS hA (fun H locs hP hD hS => ?_)
          refine lv_ladd hx hb dX9_laysByRule_190 ?_
          obtain ⟨h67, hf⟩ := og_some hf
          obtain ⟨w68, ew68⟩ : ∃ y : Nat → Int64, y = vp_updL c_worth (Int32.toNatClampNeg r1) ((Int32.toInt64 r63) + r65) := ⟨_, rfl⟩
          replace hf := nm_at hf ew68
          refine va_last hx hb hK.1 hP hD hS 7 1 rfl rfl (okI_in h67) dX9_laysByRule_191 (fun H locs hP hD hS => ?_)
          have hP : va_P (dC, dI) vwCl (mW dA ad c_tape c_taped c_tree c_bonds c_moves c_handMoves c_moved c_days c_likely c_outOf c_rateNow c_pence c_top c_bottom c_spot c_textLong c_fault c_number c_numberAt c_figures c_written c_wanted c_found c_drawnNow w68 c_hold c_way w62 c_sDay c_sUps c_sUp c_sMarks c_paidAll c_isPlayed c_isOn c_handMoved c_handPaid c_regret c_aside c_other c_states c_kept c_keptLong c_keptAt c_isTaking) H := by rw [ew68]; exact hP
          have hD : va_D A (mW dA ad c_tape c_taped c_tree c_bonds c_moves c_handMoves c_moved c_days c_likely c_outOf c_rateNow c_pence c_top c_bottom c_spot c_textLong c_fault c_number c_numberAt c_figures c_written c_wanted c_found c_drawnNow w68 c_hold c_way w62 c_sDay c_sUps c_sUp c_sMarks c_paidAll c_isPlayed c_isOn c_handMoved c_handPaid c_regret c_aside c_other c_states c_kept c_keptLong c_keptAt c_isTaking) := by rw [ew68]; exact hD
          cases hf
          exact W.vret hx hb hr (fun t ht _ => gqv hP hD hS ht) hS.2.2 dX9_laysByRule_192
        · replace hf := ifn (fun h => k60 (lc_lt.mpr h)) hf
          refine lv_aload_n hx hb dX9_laysByRule_106 rfl (lv_at hl 2 rfl) ?_
          refine va_get (D := (dC, dI)) (ci := 9) (v := .ref (ad 10)) (C := RX9) (T := TX9) (N := 45) hx hb hts (fun w h => gw_mem (inX9 w h)) hown hK.1 hP 0 rfl rfl 27 (by decide) (hts _ (gw_mem wfX9_39)) (fun _ h9 => h9) rfl dX9_laysByRule_107 ?_
          refine lv_iload hx hb dX9_laysByRule_110 (lv_at hl 1 rfl) ?_
          refine lv_lload hx hb dX9_laysByRule_112 (lv_at hl 0 rfl) ?_
          refine lv_aload_n hx hb dX9_laysByRule_114 rfl (lv_at hl 2 rfl) ?_
          refine lv_iload_n hx hb dX9_laysByRule_115 rfl (lv_at hl 3 rfl) ?_
          refine lv_iload_n hx hb dX9_laysByRule_116 rfl (lv_at hl 4 rfl) ?_
          obtain ⟨r69, v70, hf⟩ := bd1_some hf
          refine gci (va_runV (As := [.int p1, .int p2]) (rest := [.long r3, .int r1, .ref (ad 10)]) ⟨hx, hb, hml, hown, hts⟩ (tX9_callOf l dC dI dA ad H.size v70) (ccX9_X9_callOf hts ⟨Nat.le_of_ble_eq_true rfl, Nat.le_of_ble_eq_true rfl⟩) (gPreV (ci := 9) (q0 := 0) hP hK hD rfl rfl) rfl rfl hl.1 rfl (lv_room (Nat.le_of_ble_eq_true rfl)) dX9_laysByRule_117 ⟨Nat.le_of_ble_eq_true rfl, Nat.le_of_ble_eq_true rfl⟩) hD hS hA (fun H locs hP hD hS => ?_)
          refine lv_i2l hx hb dX9_laysByRule_120 rfl ?_
          refine W.lcmp hx hb dX9_laysByRule_121 ?_
          refine lv_if_le (tgt := 129) hx hb dX9_laysByRule_122 (by decide) (fun k71 => ?_) (fun k71 => ?_)
          · replace hf := ifp (lc_le.mp k71) hf
            refine lv_iconst (v := 3) hx hb dX9_laysByRule_129 (by decide) ?_
            obtain ⟨h72, hf⟩ := og_some hf
            obtain ⟨w73, ew73⟩ : ∃ y : Nat → Int32, y = upd c_acts (Int32.toNatClampNeg r1) 3 := ⟨_, rfl⟩
            replace hf := nm_at hf ew73
            refine va_iast hx hb hK.1 hP hD hS 10 0 rfl rfl (okI_in h72) dX9_laysByRule_130 (fun H locs hP hD hS => ?_)
            have hP : va_P (dC, dI) vwCl (mW dA ad c_tape c_taped c_tree c_bonds c_moves c_handMoves c_moved c_days c_likely c_outOf c_rateNow c_pence c_top c_bottom c_spot c_textLong c_fault c_number c_numberAt c_figures c_written c_wanted c_found c_drawnNow c_worth c_hold c_way w73 c_sDay c_sUps c_sUp c_sMarks c_paidAll c_isPlayed c_isOn c_handMoved c_handPaid c_regret c_aside c_other c_states c_kept c_keptLong c_keptAt c_isTaking) H := by rw [ew73]; exact hP
            have hD : va_D A (mW dA ad c_tape c_taped c_tree c_bonds c_moves c_handMoves c_moved c_days c_likely c_outOf c_rateNow c_pence c_top c_bottom c_spot c_textLong c_fault c_number c_numberAt c_figures c_written c_wanted c_found c_drawnNow c_worth c_hold c_way w73 c_sDay c_sUps c_sUp c_sMarks c_paidAll c_isPlayed c_isOn c_handMoved c_handPaid c_regret c_aside c_other c_states c_kept c_keptLong c_keptAt c_isTaking) := by rw [ew73]; exact hD
            refine lv_aload_n hx hb dX9_laysByRule_131 rfl (lv_at hl 2 rfl) ?_
            refine va_get (D := (dC, dI)) (ci := 9) (v := .ref (ad 7)) (C := RX9) (T := TX9) (N := 45) hx hb hts (fun w h => gw_mem (inX9 w h)) hown hK.1 hP 0 rfl rfl 24 (by decide) (hts _ (gw_mem wfX9_30)) (fun _ h9 => h9) rfl dX9_laysByRule_132 ?_
            refine lv_iload hx hb dX9_laysByRule_135 (lv_at hl 1 rfl) ?_
            refine lv_aload_n hx hb dX9_laysByRule_137 rfl (lv_at hl 2 rfl) ?_
            refine lv_iload_n hx hb dX9_laysByRule_138 rfl (lv_at hl 3 rfl) ?_
            refine lv_iload_n hx hb dX9_laysByRule_139 rfl (lv_at hl 4 rfl) ?_
            obtain ⟨r74, v75, hf⟩ := bd1_some hf
            refine gci (va_runV (As := [.int p1, .int p2]) (rest := [.int r1, .ref (ad 7)]) ⟨hx, hb, hml, hown, hts⟩ (tX9_couponOf l dC dI dA ad H.size v75) (ccX9_X9_couponOf hts ⟨Nat.le_of_ble_eq_true rfl, Nat.le_of_ble_eq_true rfl⟩) (gPreV (ci := 9) (q0 := 0) hP hK hD rfl rfl) rfl rfl hl.1 rfl (lv_room (Nat.le_of_ble_eq_true rfl)) dX9_laysByRule_140 ⟨Nat.le_of_ble_eq_true rfl, Nat.le_of_ble_eq_true rfl⟩) hD hS hA (fun H locs hP hD hS => ?_)
            refine lv_i2l hx hb dX9_laysByRule_143 rfl ?_
            refine lv_aload_n hx hb dX9_laysByRule_144 rfl (lv_at hl 2 rfl) ?_
            refine lv_iload_n hx hb dX9_laysByRule_145 rfl (lv_at hl 3 rfl) ?_
            refine lv_iload_n hx hb dX9_laysByRule_146 rfl (lv_at hl 4 rfl) ?_
            refine lv_iload_n hx hb dX9_laysByRule_147 rfl (lv_at hl 5 rfl) ?_
            refine lv_iload hx hb dX9_laysByRule_148 (lv_at hl 6 rfl) ?_
            obtain ⟨r76, v77, hf⟩ := bd1_some hf
            refine gcl (va_runV (As := [.int p1, .int p2, .int p3, .int p4]) (rest := [.long (Int32.toInt64 r74), .int r1, .ref (ad 7)]) ⟨hx, hb, hml, hown, hts⟩ (tX9_called l dC dI dA ad H.size v77) (ccX9_X9_called hts ⟨Nat.le_of_ble_eq_true rfl, Nat.le_of_ble_eq_true rfl⟩) (gPreV (ci := 9) (q0 := 0) hP hK hD rfl rfl) rfl rfl hl.1 rfl (lv_room (Nat.le_of_ble_eq_true rfl)) dX9_laysByRule_150 ⟨Nat.le_of_ble_eq_true rfl, Nat.le_of_ble_eq_true rfl⟩) hD hS hA (fun H locs hP hD hS => ?_)
            refine lv_ladd hx hb dX9_laysByRule_153 ?_
            obtain ⟨h78, hf⟩ := og_some hf
            obtain ⟨w79, ew79⟩ : ∃ y : Nat → Int64, y = vp_updL c_worth (Int32.toNatClampNeg r1) ((Int32.toInt64 r74) + r76) := ⟨_, rfl⟩
            replace hf := nm_at hf ew79
            refine va_last hx hb hK.1 hP hD hS 7 1 rfl rfl (okI_in h78) dX9_laysByRule_154 (fun H locs hP hD hS => ?_)
            have hP : va_P (dC, dI) vwCl (mW dA ad c_tape c_taped c_tree c_bonds c_moves c_handMoves c_moved c_days c_likely c_outOf c_rateNow c_pence c_top c_bottom c_spot c_textLong c_fault c_number c_numberAt c_figures c_written c_wanted c_found c_drawnNow w79 c_hold c_way w73 c_sDay c_sUps c_sUp c_sMarks c_paidAll c_isPlayed c_isOn c_handMoved c_handPaid c_regret c_aside c_other c_states c_kept c_keptLong c_keptAt c_isTaking) H := by rw [ew79]; exact hP
            have hD : va_D A (mW dA ad c_tape c_taped c_tree c_bonds c_moves c_handMoves c_moved c_days c_likely c_outOf c_rateNow c_pence c_top c_bottom c_spot c_textLong c_fault c_number c_numberAt c_figures c_written c_wanted c_found c_drawnNow w79 c_hold c_way w73 c_sDay c_sUps c_sUp c_sMarks c_paidAll c_isPlayed c_isOn c_handMoved c_handPaid c_regret c_aside c_other c_states c_kept c_keptLong c_keptAt c_isTaking) := by rw [ew79]; exact hD
            refine lv_goto (tgt := 192) hx hb dX9_laysByRule_155 (by decide) ?_
            cases hf
            exact W.vret hx hb hr (fun t ht _ => gqv hP hD hS ht) hS.2.2 dX9_laysByRule_192
          · replace hf := ifn (fun h => k71 (lc_le.mpr h)) hf
            refine lv_iconst (v := 4) hx hb dX9_laysByRule_125 (by decide) ?_
            refine lv_goto (tgt := 130) hx hb dX9_laysByRule_126 (by decide) ?_
            obtain ⟨h80, hf⟩ := og_some hf
            obtain ⟨w81, ew81⟩ : ∃ y : Nat → Int32, y = upd c_acts (Int32.toNatClampNeg r1) 4 := ⟨_, rfl⟩
            replace hf := nm_at hf ew81
            refine va_iast hx hb hK.1 hP hD hS 10 0 rfl rfl (okI_in h80) dX9_laysByRule_130 (fun H locs hP hD hS => ?_)
            have hP : va_P (dC, dI) vwCl (mW dA ad c_tape c_taped c_tree c_bonds c_moves c_handMoves c_moved c_days c_likely c_outOf c_rateNow c_pence c_top c_bottom c_spot c_textLong c_fault c_number c_numberAt c_figures c_written c_wanted c_found c_drawnNow c_worth c_hold c_way w81 c_sDay c_sUps c_sUp c_sMarks c_paidAll c_isPlayed c_isOn c_handMoved c_handPaid c_regret c_aside c_other c_states c_kept c_keptLong c_keptAt c_isTaking) H := by rw [ew81]; exact hP
            have hD : va_D A (mW dA ad c_tape c_taped c_tree c_bonds c_moves c_handMoves c_moved c_days c_likely c_outOf c_rateNow c_pence c_top c_bottom c_spot c_textLong c_fault c_number c_numberAt c_figures c_written c_wanted c_found c_drawnNow c_worth c_hold c_way w81 c_sDay c_sUps c_sUp c_sMarks c_paidAll c_isPlayed c_isOn c_handMoved c_handPaid c_regret c_aside c_other c_states c_kept c_keptLong c_keptAt c_isTaking) := by rw [ew81]; exact hD
            refine lv_aload_n hx hb dX9_laysByRule_131 rfl (lv_at hl 2 rfl) ?_
            refine va_get (D := (dC, dI)) (ci := 9) (v := .ref (ad 7)) (C := RX9) (T := TX9) (N := 45) hx hb hts (fun w h => gw_mem (inX9 w h)) hown hK.1 hP 0 rfl rfl 24 (by decide) (hts _ (gw_mem wfX9_30)) (fun _ h9 => h9) rfl dX9_laysByRule_132 ?_
            refine lv_iload hx hb dX9_laysByRule_135 (lv_at hl 1 rfl) ?_
            refine lv_aload_n hx hb dX9_laysByRule_137 rfl (lv_at hl 2 rfl) ?_
            refine lv_iload_n hx hb dX9_laysByRule_138 rfl (lv_at hl 3 rfl) ?_
            refine lv_iload_n hx hb dX9_laysByRule_139 rfl (lv_at hl 4 rfl) ?_
            obtain ⟨r82, v83, hf⟩ := bd1_some hf
            refine gci (va_runV (As := [.int p1, .int p2]) (rest := [.int r1, .ref (ad 7)]) ⟨hx, hb, hml, hown, hts⟩ (tX9_couponOf l dC dI dA ad H.size v83) (ccX9_X9_couponOf hts ⟨Nat.le_of_ble_eq_true rfl, Nat.le_of_ble_eq_true rfl⟩) (gPreV (ci := 9) (q0 := 0) hP hK hD rfl rfl) rfl rfl hl.1 rfl (lv_room (Nat.le_of_ble_eq_true rfl)) dX9_laysByRule_140 ⟨Nat.le_of_ble_eq_true rfl, Nat.le_of_ble_eq_true rfl⟩) hD hS hA (fun H locs hP hD hS => ?_)
            refine lv_i2l hx hb dX9_laysByRule_143 rfl ?_
            refine lv_aload_n hx hb dX9_laysByRule_144 rfl (lv_at hl 2 rfl) ?_
            refine lv_iload_n hx hb dX9_laysByRule_145 rfl (lv_at hl 3 rfl) ?_
            refine lv_iload_n hx hb dX9_laysByRule_146 rfl (lv_at hl 4 rfl) ?_
            refine lv_iload_n hx hb dX9_laysByRule_147 rfl (lv_at hl 5 rfl) ?_
            refine lv_iload hx hb dX9_laysByRule_148 (lv_at hl 6 rfl) ?_
            obtain ⟨r84, v85, hf⟩ := bd1_some hf
            refine gcl (va_runV (As := [.int p1, .int p2, .int p3, .int p4]) (rest := [.long (Int32.toInt64 r82), .int r1, .ref (ad 7)]) ⟨hx, hb, hml, hown, hts⟩ (tX9_called l dC dI dA ad H.size v85) (ccX9_X9_called hts ⟨Nat.le_of_ble_eq_true rfl, Nat.le_of_ble_eq_true rfl⟩) (gPreV (ci := 9) (q0 := 0) hP hK hD rfl rfl) rfl rfl hl.1 rfl (lv_room (Nat.le_of_ble_eq_true rfl)) dX9_laysByRule_150 ⟨Nat.le_of_ble_eq_true rfl, Nat.le_of_ble_eq_true rfl⟩) hD hS hA (fun H locs hP hD hS => ?_)
            refine lv_ladd hx hb dX9_laysByRule_153 ?_
            obtain ⟨h86, hf⟩ := og_some hf
            obtain ⟨w87, ew87⟩ : ∃ y : Nat → Int64, y = vp_updL c_worth (Int32.toNatClampNeg r1) ((Int32.toInt64 r82) + r84) := ⟨_, rfl⟩
            replace hf := nm_at hf ew87
            refine va_last hx hb hK.1 hP hD hS 7 1 rfl rfl (okI_in h86) dX9_laysByRule_154 (fun H locs hP hD hS => ?_)
            have hP : va_P (dC, dI) vwCl (mW dA ad c_tape c_taped c_tree c_bonds c_moves c_handMoves c_moved c_days c_likely c_outOf c_rateNow c_pence c_top c_bottom c_spot c_textLong c_fault c_number c_numberAt c_figures c_written c_wanted c_found c_drawnNow w87 c_hold c_way w81 c_sDay c_sUps c_sUp c_sMarks c_paidAll c_isPlayed c_isOn c_handMoved c_handPaid c_regret c_aside c_other c_states c_kept c_keptLong c_keptAt c_isTaking) H := by rw [ew87]; exact hP
            have hD : va_D A (mW dA ad c_tape c_taped c_tree c_bonds c_moves c_handMoves c_moved c_days c_likely c_outOf c_rateNow c_pence c_top c_bottom c_spot c_textLong c_fault c_number c_numberAt c_figures c_written c_wanted c_found c_drawnNow w87 c_hold c_way w81 c_sDay c_sUps c_sUp c_sMarks c_paidAll c_isPlayed c_isOn c_handMoved c_handPaid c_regret c_aside c_other c_states c_kept c_keptLong c_keptAt c_isTaking) := by rw [ew87]; exact hD
            refine lv_goto (tgt := 192) hx hb dX9_laysByRule_155 (by decide) ?_
            cases hf
            exact W.vret hx hb hr (fun t ht _ => gqv hP hD hS ht) hS.2.2 dX9_laysByRule_192
    · replace hf := ifn (fun h => k47 (lc_lt.mpr h)) hf
      refine lv_aload_n hx hb dX9_laysByRule_49 rfl (lv_at hl 2 rfl) ?_
      refine va_get (D := (dC, dI)) (ci := 9) (v := .ref (ad 10)) (C := RX9) (T := TX9) (N := 45) hx hb hts (fun w h => gw_mem (inX9 w h)) hown hK.1 hP 0 rfl rfl 27 (by decide) (hts _ (gw_mem wfX9_39)) (fun _ h9 => h9) rfl dX9_laysByRule_50 ?_
      refine lv_iload hx hb dX9_laysByRule_53 (lv_at hl 1 rfl) ?_
      refine lv_iconst (v := 2) hx hb dX9_laysByRule_55 (by decide) ?_
      obtain ⟨h88, hf⟩ := og_some hf
      obtain ⟨w89, ew89⟩ : ∃ y : Nat → Int32, y = upd c_acts (Int32.toNatClampNeg r1) 2 := ⟨_, rfl⟩
      replace hf := nm_at hf ew89
      refine va_iast hx hb hK.1 hP hD hS 10 0 rfl rfl (okI_in h88) dX9_laysByRule_56 (fun H locs hP hD hS => ?_)
      have hP : va_P (dC, dI) vwCl (mW dA ad c_tape c_taped c_tree c_bonds c_moves c_handMoves c_moved c_days c_likely c_outOf c_rateNow c_pence c_top c_bottom c_spot c_textLong c_fault c_number c_numberAt c_figures c_written c_wanted c_found c_drawnNow c_worth c_hold c_way w89 c_sDay c_sUps c_sUp c_sMarks c_paidAll c_isPlayed c_isOn c_handMoved c_handPaid c_regret c_aside c_other c_states c_kept c_keptLong c_keptAt c_isTaking) H := by rw [ew89]; exact hP
      have hD : va_D A (mW dA ad c_tape c_taped c_tree c_bonds c_moves c_handMoves c_moved c_days c_likely c_outOf c_rateNow c_pence c_top c_bottom c_spot c_textLong c_fault c_number c_numberAt c_figures c_written c_wanted c_found c_drawnNow c_worth c_hold c_way w89 c_sDay c_sUps c_sUp c_sMarks c_paidAll c_isPlayed c_isOn c_handMoved c_handPaid c_regret c_aside c_other c_states c_kept c_keptLong c_keptAt c_isTaking) := by rw [ew89]; exact hD
      refine lv_aload_n hx hb dX9_laysByRule_57 rfl (lv_at hl 2 rfl) ?_
      refine va_get (D := (dC, dI)) (ci := 9) (v := .ref (ad 7)) (C := RX9) (T := TX9) (N := 45) hx hb hts (fun w h => gw_mem (inX9 w h)) hown hK.1 hP 0 rfl rfl 24 (by decide) (hts _ (gw_mem wfX9_30)) (fun _ h9 => h9) rfl dX9_laysByRule_58 ?_
      refine lv_iload hx hb dX9_laysByRule_61 (lv_at hl 1 rfl) ?_
      refine lv_aload_n hx hb dX9_laysByRule_63 rfl (lv_at hl 2 rfl) ?_
      refine lv_iload_n hx hb dX9_laysByRule_64 rfl (lv_at hl 3 rfl) ?_
      refine lv_iload_n hx hb dX9_laysByRule_65 rfl (lv_at hl 4 rfl) ?_
      obtain ⟨r90, v91, hf⟩ := bd1_some hf
      refine gci (va_runV (As := [.int p1, .int p2]) (rest := [.int r1, .ref (ad 7)]) ⟨hx, hb, hml, hown, hts⟩ (tX9_couponOf l dC dI dA ad H.size v91) (ccX9_X9_couponOf hts ⟨Nat.le_of_ble_eq_true rfl, Nat.le_of_ble_eq_true rfl⟩) (gPreV (ci := 9) (q0 := 0) hP hK hD rfl rfl) rfl rfl hl.1 rfl (lv_room (Nat.le_of_ble_eq_true rfl)) dX9_laysByRule_66 ⟨Nat.le_of_ble_eq_true rfl, Nat.le_of_ble_eq_true rfl⟩) hD hS hA (fun H locs hP hD hS => ?_)
      refine lv_i2l hx hb dX9_laysByRule_69 rfl ?_
      refine lv_lload hx hb dX9_laysByRule_70 (lv_at hl 0 rfl) ?_
      refine lv_ladd hx hb dX9_laysByRule_72 ?_
      obtain ⟨h92, hf⟩ := og_some hf
      obtain ⟨w93, ew93⟩ : ∃ y : Nat → Int64, y = vp_updL c_worth (Int32.toNatClampNeg r1) ((Int32.toInt64 r90) + r3) := ⟨_, rfl⟩
      replace hf := nm_at hf ew93
      refine va_last hx hb hK.1 hP hD hS 7 1 rfl rfl (okI_in h92) dX9_laysByRule_73 (fun H locs hP hD hS => ?_)
      have hP : va_P (dC, dI) vwCl (mW dA ad c_tape c_taped c_tree c_bonds c_moves c_handMoves c_moved c_days c_likely c_outOf c_rateNow c_pence c_top c_bottom c_spot c_textLong c_fault c_number c_numberAt c_figures c_written c_wanted c_found c_drawnNow w93 c_hold c_way w89 c_sDay c_sUps c_sUp c_sMarks c_paidAll c_isPlayed c_isOn c_handMoved c_handPaid c_regret c_aside c_other c_states c_kept c_keptLong c_keptAt c_isTaking) H := by rw [ew93]; exact hP
      have hD : va_D A (mW dA ad c_tape c_taped c_tree c_bonds c_moves c_handMoves c_moved c_days c_likely c_outOf c_rateNow c_pence c_top c_bottom c_spot c_textLong c_fault c_number c_numberAt c_figures c_written c_wanted c_found c_drawnNow w93 c_hold c_way w89 c_sDay c_sUps c_sUp c_sMarks c_paidAll c_isPlayed c_isOn c_handMoved c_handPaid c_regret c_aside c_other c_states c_kept c_keptLong c_keptAt c_isTaking) := by rw [ew93]; exact hD
      refine lv_goto (tgt := 192) hx hb dX9_laysByRule_74 (by decide) ?_
      cases hf
      exact W.vret hx hb hr (fun t ht _ => gqv hP hD hS ht) hS.2.2 dX9_laysByRule_192
theorem ccX9_X9_laysByRule {R : Room} {s : State} {args : Array Value} {c0 : Cond} (ht : ∀ w ∈ wq c0, w.before args s = true) (hR : rmX9_laysByRule.frames + 1 ≤ R.frames ∧ 8 + (11 + 11) + rmX9_laysByRule.locals ≤ R.locals) : CallW R s args RX9 RX9 431 yX9_laysByRule cX9_laysByRule 11 none (wq (.code yX9_laysByRule cX9_laysByRule 11 none)) rmX9_laysByRule 0 0 7 := gCW 7 ht wcX9_laysByRule wmX9_431 wiX9_laysByRule weX9_laysByRule wnX9 (by decide +kernel) rfl rfl hR
def lpX9_byRule_83 (x1 : Int32) (x2 : Int32) (x3 : Int32) (x4 : Int32) (x5 : Int32) (x6 : Int32) (x7 : Int32) (c_bonds : Nat → Int32) (c_days : Int32) (c_likely : Int32) (c_outOf : Int32) (c_rateNow : Int32) (c_pence : Nat → Int64) : Nat → Int32 → (Nat → Int64) → (Nat → Int32) → Option ((Nat → Int64) × (Nat → Int32))
  | 0, _, _, _ => none
  | n + 1, x8, c_worth, c_acts => if 8 ≤ x8 then some (c_worth, c_acts) else bd1 (fX9_isState x5 x6 x7) (fun r55 => if r55 = 0 then some (c_worth, c_acts) else bd2 (fX9_laysByRule x1 x5 x6 x7 x8 x2 x3 c_bonds c_days c_likely c_outOf c_rateNow c_pence c_worth c_acts) (fun c_worth_58 c_acts_59 => nm (x8 + 2) (fun w61 => lpX9_byRule_83 x1 x2 x3 x4 x5 x6 x7 c_bonds c_days c_likely c_outOf c_rateNow c_pence n w61 c_worth_58 c_acts_59)))
def lpX9_byRule_66 (x1 : Int32) (x2 : Int32) (x3 : Int32) (x4 : Int32) (x5 : Int32) (x6 : Int32) (c_bonds : Nat → Int32) (c_days : Int32) (c_likely : Int32) (c_outOf : Int32) (c_rateNow : Int32) (c_pence : Nat → Int64) : Nat → Int32 → (Nat → Int64) → (Nat → Int32) → Option ((Nat → Int64) × (Nat → Int32))
  | 0, _, _, _ => none
  | n + 1, x7, c_worth, c_acts => if 2 ≤ x7 then some (c_worth, c_acts) else bd1 (fX9_isHigh x1 x5 x6 c_bonds c_pence) (fun r48 => bd2 (lpX9_byRule_83 x1 x2 x3 x4 x5 x6 x7 c_bonds c_days c_likely c_outOf c_rateNow c_pence FU r48 c_worth c_acts) (fun c_worth_50 c_acts_51 => nm (x7 + 1) (fun w53 => lpX9_byRule_66 x1 x2 x3 x4 x5 x6 c_bonds c_days c_likely c_outOf c_rateNow c_pence n w53 c_worth_50 c_acts_51)))
def lpX9_byRule_56 (x1 : Int32) (x2 : Int32) (x3 : Int32) (x4 : Int32) (x5 : Int32) (c_bonds : Nat → Int32) (c_days : Int32) (c_likely : Int32) (c_outOf : Int32) (c_rateNow : Int32) (c_pence : Nat → Int64) : Nat → Int32 → (Nat → Int64) → (Nat → Int32) → Option ((Nat → Int64) × (Nat → Int32))
  | 0, _, _, _ => none
  | n + 1, x6, c_worth, c_acts => if x5 < x6 then some (c_worth, c_acts) else bd2 (lpX9_byRule_66 x1 x2 x3 x4 x5 x6 c_bonds c_days c_likely c_outOf c_rateNow c_pence FU 0 c_worth c_acts) (fun c_worth_43 c_acts_44 => nm (x6 + 1) (fun w46 => lpX9_byRule_56 x1 x2 x3 x4 x5 c_bonds c_days c_likely c_outOf c_rateNow c_pence n w46 c_worth_43 c_acts_44))
def lpX9_byRule_48 (x1 : Int32) (x2 : Int32) (x3 : Int32) (x4 : Int32) (c_bonds : Nat → Int32) (c_days : Int32) (c_likely : Int32) (c_outOf : Int32) (c_rateNow : Int32) (c_pence : Nat → Int64) : Nat → Int32 → (Nat → Int64) → (Nat → Int32) → Option ((Nat → Int64) × (Nat → Int32))
  | 0, _, _, _ => none
  | n + 1, x5, c_worth, c_acts => if x5 < 0 then some (c_worth, c_acts) else bd2 (lpX9_byRule_56 x1 x2 x3 x4 x5 c_bonds c_days c_likely c_outOf c_rateNow c_pence FU 0 c_worth c_acts) (fun c_worth_38 c_acts_39 => nm (x5 + (-1)) (fun w41 => lpX9_byRule_48 x1 x2 x3 x4 c_bonds c_days c_likely c_outOf c_rateNow c_pence n w41 c_worth_38 c_acts_39))
def fX9_byRule (p1 : Int32) (p2 : Int32) (p3 : Int32) (p4 : Int32) (c_tree : Nat → Int32) (c_bonds : Nat → Int32) (c_moves : Nat → Int32) (c_moved : Int32) (c_days : Int32) (c_likely : Int32) (c_outOf : Int32) (c_rateNow : Int32) (c_pence : Nat → Int64) (c_top : Int64) (c_bottom : Int64) (c_worth : Nat → Int64) (c_hold : Nat → Int64) (c_acts : Nat → Int32) (c_sDay : Int32) (c_sUps : Int32) (c_sUp : Int32) (c_sMarks : Int32) : Option (Int64 × Int32 × Int32 × Int32 × Int32 × (Nat → Int64) × Int64 × Int64 × (Nat → Int64) × (Nat → Int64) × (Nat → Int32) × Int32 × Int32 × Int32 × Int32) := bd1 (fX9_isBond p1) (fun r1 => if r1 = 0 then some ((-1), c_days, c_likely, c_outOf, c_rateNow, c_pence, c_top, c_bottom, c_worth, c_hold, c_acts, c_sDay, c_sUps, c_sUp, c_sMarks) else bd1 (fX9_in (Int32.toInt64 p2) 0 1000000) (fun r4 => if r4 = 0 then some ((-1), c_days, c_likely, c_outOf, c_rateNow, c_pence, c_top, c_bottom, c_worth, c_hold, c_acts, c_sDay, c_sUps, c_sUp, c_sMarks) else bd1 (fX9_in (Int32.toInt64 p3) 0 1000000) (fun r7 => if r7 = 0 then some ((-1), c_days, c_likely, c_outOf, c_rateNow, c_pence, c_top, c_bottom, c_worth, c_hold, c_acts, c_sDay, c_sUps, c_sUp, c_sMarks) else bd10 (fX9_playsNow p1 c_tree c_bonds c_days c_likely c_outOf c_rateNow c_pence c_top c_bottom c_worth c_hold c_acts) (fun c_days_10 c_likely_11 c_outOf_12 c_rateNow_13 c_pence_14 c_top_15 c_bottom_16 c_worth_17 c_hold_18 c_acts_19 => nm (c_days_10 - 1) (fun w21 => bd2 (lpX9_byRule_48 p1 p2 p3 p4 c_bonds c_days_10 c_likely_11 c_outOf_12 c_rateNow_13 c_pence_14 FU w21 c_worth_17 c_acts_19) (fun c_worth_22 c_acts_23 => if p4 = 0 then bd1 (fX9_begin p1 c_bonds c_pence_14) (fun r34 => og (okI r34 784) (some (c_worth_22 (Int32.toNatClampNeg r34), c_days_10, c_likely_11, c_outOf_12, c_rateNow_13, c_pence_14, c_top_15, c_bottom_16, c_worth_22, c_hold_18, c_acts_23, c_sDay, c_sUps, c_sUp, c_sMarks))) else bd4 (fX9_follows p1 c_moved c_bonds c_moves c_pence_14 c_sDay c_sUps c_sUp c_sMarks) (fun c_sDay_26 c_sUps_27 c_sUp_28 c_sMarks_29 => bd1 (fX9_hereNow c_sDay_26 c_sUps_27 c_sUp_28 c_sMarks_29) (fun r31 => og (okI r31 784) (some (Int32.toInt64 (c_acts_23 (Int32.toNatClampNeg r31)), c_days_10, c_likely_11, c_outOf_12, c_rateNow_13, c_pence_14, c_top_15, c_bottom_16, c_worth_22, c_hold_18, c_acts_23, c_sDay_26, c_sUps_27, c_sUp_28, c_sMarks_29))))))))))
abbrev rmX9_byRule : Room := { frames := 7, cells := 0, slots := 0, locals := 184 }
set_option maxHeartbeats 4000000 in
set_option maxRecDepth 100000 in
theorem tX9_byRule (l : Launch) (dC : Nat → ClassId) (dI : Nat → Nat → Nat) (dA : Nat → ClassId) (ad : Nat → Nat) (sz : Nat) {p1 : Int32} {p2 : Int32} {p3 : Int32} {p4 : Int32} {c_tape : Nat → Int32} {c_taped : Int32} {c_tree : Nat → Int32} {c_bonds : Nat → Int32} {c_moves : Nat → Int32} {c_handMoves : Nat → Int32} {c_moved : Int32} {c_days : Int32} {c_likely : Int32} {c_outOf : Int32} {c_rateNow : Int32} {c_pence : Nat → Int64} {c_top : Int64} {c_bottom : Int64} {c_spot : Int32} {c_textLong : Int32} {c_fault : Int32} {c_number : Int32} {c_numberAt : Int32} {c_figures : Int32} {c_written : Int32} {c_wanted : Int32} {c_found : Int32} {c_drawnNow : Int32} {c_worth : Nat → Int64} {c_hold : Nat → Int64} {c_way : Nat → Int64} {c_acts : Nat → Int32} {c_sDay : Int32} {c_sUps : Int32} {c_sUp : Int32} {c_sMarks : Int32} {c_paidAll : Int64} {c_isPlayed : Int32} {c_isOn : Int32} {c_handMoved : Int32} {c_handPaid : Int64} {c_regret : Int64} {c_aside : Nat → Int32} {c_other : Nat → Int64} {c_states : Int32} {c_kept : Nat → Int32} {c_keptLong : Nat → Int64} {c_keptAt : Int32} {c_isTaking : Int32} {r : Int64} {o_c_days : Int32} {o_c_likely : Int32} {o_c_outOf : Int32} {o_c_rateNow : Int32} {o_c_pence : Nat → Int64} {o_c_top : Int64} {o_c_bottom : Int64} {o_c_worth : Nat → Int64} {o_c_hold : Nat → Int64} {o_c_acts : Nat → Int32} {o_c_sDay : Int32} {o_c_sUps : Int32} {o_c_sUp : Int32} {o_c_sMarks : Int32} (hf : fX9_byRule p1 p2 p3 p4 c_tree c_bonds c_moves c_moved c_days c_likely c_outOf c_rateNow c_pence c_top c_bottom c_worth c_hold c_acts c_sDay c_sUps c_sUp c_sMarks = some (r, o_c_days, o_c_likely, o_c_outOf, o_c_rateNow, o_c_pence, o_c_top, o_c_bottom, o_c_worth, o_c_hold, o_c_acts, o_c_sDay, o_c_sUps, o_c_sUp, o_c_sMarks)) : Met l yX9_byRule (wq (Cond.code yX9_byRule cX9_byRule 9 (some .long))) rmX9_byRule (gP [.ref (ad 0), .int p1, .int p2, .int p3, .int p4] (dC, dI) dA (mW dA ad c_tape c_taped c_tree c_bonds c_moves c_handMoves c_moved c_days c_likely c_outOf c_rateNow c_pence c_top c_bottom c_spot c_textLong c_fault c_number c_numberAt c_figures c_written c_wanted c_found c_drawnNow c_worth c_hold c_way c_acts c_sDay c_sUps c_sUp c_sMarks c_paidAll c_isPlayed c_isOn c_handMoved c_handPaid c_regret c_aside c_other c_states c_kept c_keptLong c_keptAt c_isTaking) sz) (gQl (dC, dI) r (mW dA ad c_tape c_taped c_tree c_bonds c_moves c_handMoves c_moved o_c_days o_c_likely o_c_outOf o_c_rateNow o_c_pence o_c_top o_c_bottom c_spot c_textLong c_fault c_number c_numberAt c_figures c_written c_wanted c_found c_drawnNow o_c_worth o_c_hold c_way o_c_acts o_c_sDay o_c_sUps o_c_sUp o_c_sMarks c_paidAll c_isPlayed c_isOn c_handMoved c_handPaid c_regret c_aside c_other c_states c_kept c_keptLong c_keptAt c_isTaking) (va_A (mW dA ad c_tape c_taped c_tree c_bonds c_moves c_handMoves c_moved c_days c_likely c_outOf c_rateNow c_pence c_top c_bottom c_spot c_textLong c_fault c_number c_numberAt c_figures c_written c_wanted c_found c_drawnNow c_worth c_hold c_way c_acts c_sDay c_sUps c_sUp c_sMarks c_paidAll c_isPlayed c_isOn c_handMoved c_handPaid c_regret c_aside c_other c_states c_kept c_keptLong c_keptAt c_isTaking) sz)) 0 0 (va_A (mW dA ad c_tape c_taped c_tree c_bonds c_moves c_handMoves c_moved c_days c_likely c_outOf c_rateNow c_pence c_top c_bottom c_spot c_textLong c_fault c_number c_numberAt c_figures c_written c_wanted c_found c_drawnNow c_worth c_hold c_way c_acts c_sDay c_sUps c_sUp c_sMarks c_paidAll c_isPlayed c_isOn c_handMoved c_handPaid c_regret c_aside c_other c_states c_kept c_keptLong c_keptAt c_isTaking) sz) := by
  refine Met.ofW (cc := cX9_byRule) (maxL := 9) (ret := (some .long)) (by decide) rfl ?_
  intro p e s m args below meth c s₁ B hml hv
  obtain ⟨rfl, hsz, hP, hK, hD0⟩ := hv
  have hx := B.exec
  have hb := B.bytes
  have hr := B.returns
  have hts := atoms_spec (ws := wq (Cond.code yX9_byRule cX9_byRule 9 (some .long))) B.pre
  have hown : s.vm.findClass RX9 = some m.cls := findClass_of_methodNamed B.named
  have hlocks := B.notSynchronized
  clear B
  subst hsz
  have hD := hD0.self (sz := s.heap.size)
  generalize hAe : va_A (mW dA ad c_tape c_taped c_tree c_bonds c_moves c_handMoves c_moved c_days c_likely c_outOf c_rateNow c_pence c_top c_bottom c_spot c_textLong c_fault c_number c_numberAt c_figures c_written c_wanted c_found c_drawnNow c_worth c_hold c_way c_acts c_sDay c_sUps c_sUp c_sMarks c_paidAll c_isPlayed c_isOn c_handMoved c_handPaid c_regret c_aside c_other c_states c_kept c_keptLong c_keptAt c_isTaking) s.heap.size = A at hD ⊢
  have hA : ∀ q : Nat, s.heap.size ≤ q → A q := fun q h => by rw [← hAe]; exact Or.inr h
  clear hAe hD0
  have hS : va_S A s.heap s.heap [] := va_S.rf
  have hl := lv_entry ([.ref (ad 0), .int p1, .int p2, .int p3, .int p4]) (n := 9) (Nat.le_of_ble_eq_true rfl)
  rw [lg_entry_eq]
  generalize (lg_sl ([.ref (ad 0), .int p1, .int p2, .int p3, .int p4]) ++ List.replicate (9 - (lg_sl ([.ref (ad 0), .int p1, .int p2, .int p3, .int p4])).length) Slot.unset).toArray = ls at hl ⊢
  have hl : lv_has ls 9 [(0, .ref (ad 0)), (1, .int p1), (2, .int p2), (3, .int p3), (4, .int p4)] := hl
  change W p l e rmX9_byRule s m ([.ref (ad 0), .int p1, .int p2, .int p3, .int p4] : List Value).toArray below meth c s.heap [] 0 0 _ _
  generalize hQ : MQ below (gQl (dC, dI) r (mW dA ad c_tape c_taped c_tree c_bonds c_moves c_handMoves c_moved o_c_days o_c_likely o_c_outOf o_c_rateNow o_c_pence o_c_top o_c_bottom c_spot c_textLong c_fault c_number c_numberAt c_figures c_written c_wanted c_found c_drawnNow o_c_worth o_c_hold c_way o_c_acts o_c_sDay o_c_sUps o_c_sUp o_c_sMarks c_paidAll c_isPlayed c_isOn c_handMoved c_handPaid c_regret c_aside c_other c_states c_kept c_keptLong c_keptAt c_isTaking) A) ([.ref (ad 0), .int p1, .int p2, .int p3, .int p4] : List Value).toArray s 0 0 A = Q
  have LP83 : ∀ (n : Nat) (x1 : Int32) (x2 : Int32) (x3 : Int32) (x4 : Int32) (x5 : Int32) (x6 : Int32) (x7 : Int32) (c_bonds : Nat → Int32) (c_days : Int32) (c_likely : Int32) (c_outOf : Int32) (c_rateNow : Int32) (c_pence : Nat → Int64) (c_tape : Nat → Int32) (c_taped : Int32) (c_tree : Nat → Int32) (c_moves : Nat → Int32) (c_handMoves : Nat → Int32) (c_moved : Int32) (c_top : Int64) (c_bottom : Int64) (c_spot : Int32) (c_textLong : Int32) (c_fault : Int32) (c_number : Int32) (c_numberAt : Int32) (c_figures : Int32) (c_written : Int32) (c_wanted : Int32) (c_found : Int32) (c_drawnNow : Int32) (c_hold : Nat → Int64) (c_way : Nat → Int64) (c_sDay : Int32) (c_sUps : Int32) (c_sUp : Int32) (c_sMarks : Int32) (c_paidAll : Int64) (c_isPlayed : Int32) (c_isOn : Int32) (c_handMoved : Int32) (c_handPaid : Int64) (c_regret : Int64) (c_aside : Nat → Int32) (c_other : Nat → Int64) (c_states : Int32) (c_kept : Nat → Int32) (c_keptLong : Nat → Int64) (c_keptAt : Int32) (c_isTaking : Int32) (x8 : Int32) (c_worth : Nat → Int64) (c_acts : Nat → Int32) (o_c_worth : Nat → Int64) (o_c_acts : Nat → Int32) (H : Heap) (locs : List Loc) (ls : Array Slot), va_P (dC, dI) vwCl (mW dA ad c_tape c_taped c_tree c_bonds c_moves c_handMoves c_moved c_days c_likely c_outOf c_rateNow c_pence c_top c_bottom c_spot c_textLong c_fault c_number c_numberAt c_figures c_written c_wanted c_found c_drawnNow c_worth c_hold c_way c_acts c_sDay c_sUps c_sUp c_sMarks c_paidAll c_isPlayed c_isOn c_handMoved c_handPaid c_regret c_aside c_other c_states c_kept c_keptLong c_keptAt c_isTaking) H → va_D A (mW dA ad c_tape c_taped c_tree c_bonds c_moves c_handMoves c_moved c_days c_likely c_outOf c_rateNow c_pence c_top c_bottom c_spot c_textLong c_fault c_number c_numberAt c_figures c_written c_wanted c_found c_drawnNow c_worth c_hold c_way c_acts c_sDay c_sUps c_sUp c_sMarks c_paidAll c_isPlayed c_isOn c_handMoved c_handPaid c_regret c_aside c_other c_states c_kept c_keptLong c_keptAt c_isTaking) → va_S A s.heap H locs → lpX9_byRule_83 x1 x2 x3 x4 x5 x6 x7 c_bonds c_days c_likely c_outOf c_rateNow c_pence n x8 c_worth c_acts = some (o_c_worth, o_c_acts) → lv_has ls 9 [(0, .ref (ad 0)), (1, .int x1), (2, .int x2), (3, .int x3), (4, .int x4), (5, .int x5), (6, .int x6), (7, .int x7), (8, .int x8)] → (∀ (H : Heap) (locs : List Loc) (ls : Array Slot), va_P (dC, dI) vwCl (mW dA ad c_tape c_taped c_tree c_bonds c_moves c_handMoves c_moved c_days c_likely c_outOf c_rateNow c_pence c_top c_bottom c_spot c_textLong c_fault c_number c_numberAt c_figures c_written c_wanted c_found c_drawnNow o_c_worth c_hold c_way o_c_acts c_sDay c_sUps c_sUp c_sMarks c_paidAll c_isPlayed c_isOn c_handMoved c_handPaid c_regret c_aside c_other c_states c_kept c_keptLong c_keptAt c_isTaking) H → va_D A (mW dA ad c_tape c_taped c_tree c_bonds c_moves c_handMoves c_moved c_days c_likely c_outOf c_rateNow c_pence c_top c_bottom c_spot c_textLong c_fault c_number c_numberAt c_figures c_written c_wanted c_found c_drawnNow o_c_worth c_hold c_way o_c_acts c_sDay c_sUps c_sUp c_sMarks c_paidAll c_isPlayed c_isOn c_handMoved c_handPaid c_regret c_aside c_other c_states c_kept c_keptLong c_keptAt c_isTaking) → va_S A s.heap H locs → lv_has ls 9 [(0, .ref (ad 0)), (1, .int x1), (2, .int x2), (3, .int x3), (4, .int x4), (5, .int x5), (6, .int x6), (7, .int x7)] → W p l e rmX9_byRule s m ([.ref (ad 0), .int p1, .int p2, .int p3, .int p4] : List Value).toArray below meth c H locs 0 0 Q (F0 m 126 ls [])) → W p l e rmX9_byRule s m ([.ref (ad 0), .int p1, .int p2, .int p3, .int p4] : List Value).toArray below meth c H locs 0 0 Q (F0 m 83 ls []) := by
    intro n
    induction n with
    | zero =>
      intro x1 x2 x3 x4 x5 x6 x7 c_bonds c_days c_likely c_outOf c_rateNow c_pence c_tape c_taped c_tree c_moves c_handMoves c_moved c_top c_bottom c_spot c_textLong c_fault c_number c_numberAt c_figures c_written c_wanted c_found c_drawnNow c_hold c_way c_sDay c_sUps c_sUp c_sMarks c_paidAll c_isPlayed c_isOn c_handMoved c_handPaid c_regret c_aside c_other c_states c_kept c_keptLong c_keptAt c_isTaking x8 c_worth c_acts o_c_worth o_c_acts H locs ls hP hD hS hf hl hk
      cases hf
    | succ n ih83 =>
      intro x1 x2 x3 x4 x5 x6 x7 c_bonds c_days c_likely c_outOf c_rateNow c_pence c_tape c_taped c_tree c_moves c_handMoves c_moved c_top c_bottom c_spot c_textLong c_fault c_number c_numberAt c_figures c_written c_wanted c_found c_drawnNow c_hold c_way c_sDay c_sUps c_sUp c_sMarks c_paidAll c_isPlayed c_isOn c_handMoved c_handPaid c_regret c_aside c_other c_states c_kept c_keptLong c_keptAt c_isTaking x8 c_worth c_acts o_c_worth o_c_acts H locs ls hP hD hS hf hl hk
      rw [lpX9_byRule_83.eq_2] at hf
      refine lv_iload hx hb dX9_byRule_83 (lv_at hl 8 rfl) ?_
      refine lv_bipush (v := 8) hx hb dX9_byRule_85 (by decide) ?_
      refine lv_icmp_ge (tgt := 126) hx hb dX9_byRule_87 (by decide) (fun k54 => ?_) (fun k54 => ?_)
      · replace hf := ifp k54 hf
        cases hf
        exact hk _ _ _ hP hD hS (lv_sub hl [0, 1, 2, 3, 4, 5, 6, 7] rfl)
      · replace hf := ifn k54 hf
        refine lv_iload hx hb dX9_byRule_90 (lv_at hl 5 rfl) ?_
        refine lv_iload hx hb dX9_byRule_92 (lv_at hl 6 rfl) ?_
        refine lv_iload hx hb dX9_byRule_94 (lv_at hl 7 rfl) ?_
        obtain ⟨r55, v56, hf⟩ := bd1_some hf
        refine gci0 (va_runS (As := [.int x5, .int x6, .int x7]) (rest := []) ⟨hx, hb, hml, hown, hts⟩ (tX9_isState l dC dI dA H.size v56) (ccX9_X9_isState hts ⟨Nat.le_of_ble_eq_true rfl, Nat.le_of_ble_eq_true rfl⟩) (gPreS0 hK) rfl rfl hl.1 rfl (lv_room (Nat.le_of_ble_eq_true rfl)) dX9_byRule_96 ⟨Nat.le_of_ble_eq_true rfl, Nat.le_of_ble_eq_true rfl⟩) hP hS hA (fun H locs hP hS => ?_)
        refine lv_if_eq (tgt := 126) hx hb dX9_byRule_99 (by decide) (fun k57 => ?_) (fun k57 => ?_)
        · replace hf := ifp k57 hf
          cases hf
          exact hk _ _ _ hP hD hS (lv_sub hl [0, 1, 2, 3, 4, 5, 6, 7] rfl)
        · replace hf := ifn k57 hf
          refine lv_aload_n hx hb dX9_byRule_102 rfl (lv_at hl 0 rfl) ?_
          refine lv_iload_n hx hb dX9_byRule_103 rfl (lv_at hl 1 rfl) ?_
          refine lv_iload hx hb dX9_byRule_104 (lv_at hl 5 rfl) ?_
          refine lv_iload hx hb dX9_byRule_106 (lv_at hl 6 rfl) ?_
          refine lv_iload hx hb dX9_byRule_108 (lv_at hl 7 rfl) ?_
          refine lv_iload hx hb dX9_byRule_110 (lv_at hl 8 rfl) ?_
          refine lv_iload_n hx hb dX9_byRule_112 rfl (lv_at hl 2 rfl) ?_
          refine lv_iload_n hx hb dX9_byRule_113 rfl (lv_at hl 3 rfl) ?_
          obtain ⟨c_worth_58, c_acts_59, v60, hf⟩ := bd2_some hf
          refine gcv (va_runV (As := [.int x1, .int x5, .int x6, .int x7, .int x8, .int x2, .int x3]) (rest := []) ⟨hx, hb, hml, hown, hts⟩ (tX9_laysByRule l dC dI dA ad H.size v60) (ccX9_X9_laysByRule hts ⟨Nat.le_of_ble_eq_true rfl, Nat.le_of_ble_eq_true rfl⟩) (gPreV (ci := 9) (q0 := 0) hP hK hD rfl rfl) rfl rfl hl.1 rfl (lv_room (Nat.le_of_ble_eq_true rfl)) dX9_byRule_114 ⟨Nat.le_of_ble_eq_true rfl, Nat.le_of_ble_eq_true rfl⟩) hD hS hA (fun H locs hP hD hS => ?_)
          refine lv_iload hx hb dX9_byRule_117 (lv_at hl 8 rfl) ?_
          refine lv_iconst (v := 2) hx hb dX9_byRule_119 (by decide) ?_
          refine lv_iadd hx hb dX9_byRule_120 ?_
          refine lv_topi (fun w61 ew61 => ?_)
          replace hf := nm_at hf ew61
          refine lv_istore (lv' := [(8, .int w61), (0, .ref (ad 0)), (1, .int x1), (2, .int x2), (3, .int x3), (4, .int x4), (5, .int x5), (6, .int x6), (7, .int x7)]) hx hb dX9_byRule_121 hl (by decide) rfl (fun ls hl => ?_)
          refine lv_goto (tgt := 83) hx hb dX9_byRule_123 (by decide) ?_
          exact ih83 _ _ _ _ _ _ _ _ _ _ _ _ _ _ _ _ _ _ _ _ _ _ _ _ _ _ _ _ _ _ _ _ _ _ _ _ _ _ _ _ _ _ _ _ _ _ _ _ _ _ _ _ _ _ _ _ _ _ hP hD hS hf (lv_sub hl [1, 2, 3, 4, 5, 6, 7, 8, 0] rfl) hk
  have LP66 : ∀ (n : Nat) (x1 : Int32) (x2 : Int32) (x3 : Int32) (x4 : Int32) (x5 : Int32) (x6 : Int32) (c_bonds : Nat → Int32) (c_days : Int32) (c_likely : Int32) (c_outOf : Int32) (c_rateNow : Int32) (c_pence : Nat → Int64) (c_tape : Nat → Int32) (c_taped : Int32) (c_tree : Nat → Int32) (c_moves : Nat → Int32) (c_handMoves : Nat → Int32) (c_moved : Int32) (c_top : Int64) (c_bottom : Int64) (c_spot : Int32) (c_textLong : Int32) (c_fault : Int32) (c_number : Int32) (c_numberAt : Int32) (c_figures : Int32) (c_written : Int32) (c_wanted : Int32) (c_found : Int32) (c_drawnNow : Int32) (c_hold : Nat → Int64) (c_way : Nat → Int64) (c_sDay : Int32) (c_sUps : Int32) (c_sUp : Int32) (c_sMarks : Int32) (c_paidAll : Int64) (c_isPlayed : Int32) (c_isOn : Int32) (c_handMoved : Int32) (c_handPaid : Int64) (c_regret : Int64) (c_aside : Nat → Int32) (c_other : Nat → Int64) (c_states : Int32) (c_kept : Nat → Int32) (c_keptLong : Nat → Int64) (c_keptAt : Int32) (c_isTaking : Int32) (x7 : Int32) (c_worth : Nat → Int64) (c_acts : Nat → Int32) (o_c_worth : Nat → Int64) (o_c_acts : Nat → Int32) (H : Heap) (locs : List Loc) (ls : Array Slot), va_P (dC, dI) vwCl (mW dA ad c_tape c_taped c_tree c_bonds c_moves c_handMoves c_moved c_days c_likely c_outOf c_rateNow c_pence c_top c_bottom c_spot c_textLong c_fault c_number c_numberAt c_figures c_written c_wanted c_found c_drawnNow c_worth c_hold c_way c_acts c_sDay c_sUps c_sUp c_sMarks c_paidAll c_isPlayed c_isOn c_handMoved c_handPaid c_regret c_aside c_other c_states c_kept c_keptLong c_keptAt c_isTaking) H → va_D A (mW dA ad c_tape c_taped c_tree c_bonds c_moves c_handMoves c_moved c_days c_likely c_outOf c_rateNow c_pence c_top c_bottom c_spot c_textLong c_fault c_number c_numberAt c_figures c_written c_wanted c_found c_drawnNow c_worth c_hold c_way c_acts c_sDay c_sUps c_sUp c_sMarks c_paidAll c_isPlayed c_isOn c_handMoved c_handPaid c_regret c_aside c_other c_states c_kept c_keptLong c_keptAt c_isTaking) → va_S A s.heap H locs → lpX9_byRule_66 x1 x2 x3 x4 x5 x6 c_bonds c_days c_likely c_outOf c_rateNow c_pence n x7 c_worth c_acts = some (o_c_worth, o_c_acts) → lv_has ls 9 [(0, .ref (ad 0)), (1, .int x1), (2, .int x2), (3, .int x3), (4, .int x4), (5, .int x5), (6, .int x6), (7, .int x7)] → (∀ (H : Heap) (locs : List Loc) (ls : Array Slot), va_P (dC, dI) vwCl (mW dA ad c_tape c_taped c_tree c_bonds c_moves c_handMoves c_moved c_days c_likely c_outOf c_rateNow c_pence c_top c_bottom c_spot c_textLong c_fault c_number c_numberAt c_figures c_written c_wanted c_found c_drawnNow o_c_worth c_hold c_way o_c_acts c_sDay c_sUps c_sUp c_sMarks c_paidAll c_isPlayed c_isOn c_handMoved c_handPaid c_regret c_aside c_other c_states c_kept c_keptLong c_keptAt c_isTaking) H → va_D A (mW dA ad c_tape c_taped c_tree c_bonds c_moves c_handMoves c_moved c_days c_likely c_outOf c_rateNow c_pence c_top c_bottom c_spot c_textLong c_fault c_number c_numberAt c_figures c_written c_wanted c_found c_drawnNow o_c_worth c_hold c_way o_c_acts c_sDay c_sUps c_sUp c_sMarks c_paidAll c_isPlayed c_isOn c_handMoved c_handPaid c_regret c_aside c_other c_states c_kept c_keptLong c_keptAt c_isTaking) → va_S A s.heap H locs → lv_has ls 9 [(0, .ref (ad 0)), (1, .int x1), (2, .int x2), (3, .int x3), (4, .int x4), (5, .int x5), (6, .int x6)] → W p l e rmX9_byRule s m ([.ref (ad 0), .int p1, .int p2, .int p3, .int p4] : List Value).toArray below meth c H locs 0 0 Q (F0 m 132 ls [])) → W p l e rmX9_byRule s m ([.ref (ad 0), .int p1, .int p2, .int p3, .int p4] : List Value).toArray below meth c H locs 0 0 Q (F0 m 66 ls []) := by
    intro n
    induction n with
    | zero =>
      intro x1 x2 x3 x4 x5 x6 c_bonds c_days c_likely c_outOf c_rateNow c_pence c_tape c_taped c_tree c_moves c_handMoves c_moved c_top c_bottom c_spot c_textLong c_fault c_number c_numberAt c_figures c_written c_wanted c_found c_drawnNow c_hold c_way c_sDay c_sUps c_sUp c_sMarks c_paidAll c_isPlayed c_isOn c_handMoved c_handPaid c_regret c_aside c_other c_states c_kept c_keptLong c_keptAt c_isTaking x7 c_worth c_acts o_c_worth o_c_acts H locs ls hP hD hS hf hl hk
      cases hf
    | succ n ih66 =>
      intro x1 x2 x3 x4 x5 x6 c_bonds c_days c_likely c_outOf c_rateNow c_pence c_tape c_taped c_tree c_moves c_handMoves c_moved c_top c_bottom c_spot c_textLong c_fault c_number c_numberAt c_figures c_written c_wanted c_found c_drawnNow c_hold c_way c_sDay c_sUps c_sUp c_sMarks c_paidAll c_isPlayed c_isOn c_handMoved c_handPaid c_regret c_aside c_other c_states c_kept c_keptLong c_keptAt c_isTaking x7 c_worth c_acts o_c_worth o_c_acts H locs ls hP hD hS hf hl hk
      rw [lpX9_byRule_66.eq_2] at hf
      refine lv_iload hx hb dX9_byRule_66 (lv_at hl 7 rfl) ?_
      refine lv_iconst (v := 2) hx hb dX9_byRule_68 (by decide) ?_
      refine lv_icmp_ge (tgt := 132) hx hb dX9_byRule_69 (by decide) (fun k47 => ?_) (fun k47 => ?_)
      · replace hf := ifp k47 hf
        cases hf
        exact hk _ _ _ hP hD hS (lv_sub hl [0, 1, 2, 3, 4, 5, 6] rfl)
      · replace hf := ifn k47 hf
        refine lv_aload_n hx hb dX9_byRule_72 rfl (lv_at hl 0 rfl) ?_
        refine lv_iload_n hx hb dX9_byRule_73 rfl (lv_at hl 1 rfl) ?_
        refine lv_iload hx hb dX9_byRule_74 (lv_at hl 5 rfl) ?_
        refine lv_iload hx hb dX9_byRule_76 (lv_at hl 6 rfl) ?_
        obtain ⟨r48, v49, hf⟩ := bd1_some hf
        refine gci (va_runV (As := [.int x1, .int x5, .int x6]) (rest := []) ⟨hx, hb, hml, hown, hts⟩ (tX9_isHigh l dC dI dA ad H.size v49) (ccX9_X9_isHigh hts ⟨Nat.le_of_ble_eq_true rfl, Nat.le_of_ble_eq_true rfl⟩) (gPreV (ci := 9) (q0 := 0) hP hK hD rfl rfl) rfl rfl hl.1 rfl (lv_room (Nat.le_of_ble_eq_true rfl)) dX9_byRule_78 ⟨Nat.le_of_ble_eq_true rfl, Nat.le_of_ble_eq_true rfl⟩) hD hS hA (fun H locs hP hD hS => ?_)
        refine lv_istore (lv' := [(8, .int r48), (0, .ref (ad 0)), (1, .int x1), (2, .int x2), (3, .int x3), (4, .int x4), (5, .int x5), (6, .int x6), (7, .int x7)]) hx hb dX9_byRule_81 hl (by decide) rfl (fun ls hl => ?_)
        obtain ⟨c_worth_50, c_acts_51, v52, hf⟩ := bd2_some hf
        refine LP83 FU _ _ _ _ _ _ _ _ _ _ _ _ _ _ _ _ _ _ _ _ _ _ _ _ _ _ _ _ _ _ _ _ _ _ _ _ _ _ _ _ _ _ _ _ _ _ _ _ _ _ _ _ _ _ _ _ _ _ hP hD hS v52 (lv_sub hl [1, 2, 3, 4, 5, 6, 7, 8, 0] rfl) (fun H locs ls hP hD hS hl => ?_)
        obtain ⟨w53, ew53⟩ : ∃ y : Int32, y = x7 + 1 := ⟨_, rfl⟩
        replace hf := nm_at hf ew53
        refine lv_iinc (v := w53) (lv' := [(7, .int w53), (0, .ref (ad 0)), (1, .int x1), (2, .int x2), (3, .int x3), (4, .int x4), (5, .int x5), (6, .int x6)]) hx hb dX9_byRule_126 hl (k := 7) rfl (by rw [ew53]; rfl) (by decide) rfl (fun ls hl => ?_)
        refine lv_goto (tgt := 66) hx hb dX9_byRule_129 (by decide) ?_
        exact ih66 _ _ _ _ _ _ _ _ _ _ _ _ _ _ _ _ _ _ _ _ _ _ _ _ _ _ _ _ _ _ _ _ _ _ _ _ _ _ _ _ _ _ _ _ _ _ _ _ _ _ _ _ _ _ _ _ _ hP hD hS hf (lv_sub hl [1, 2, 3, 4, 5, 6, 7, 0] rfl) hk
  have LP56 : ∀ (n : Nat) (x1 : Int32) (x2 : Int32) (x3 : Int32) (x4 : Int32) (x5 : Int32) (c_bonds : Nat → Int32) (c_days : Int32) (c_likely : Int32) (c_outOf : Int32) (c_rateNow : Int32) (c_pence : Nat → Int64) (c_tape : Nat → Int32) (c_taped : Int32) (c_tree : Nat → Int32) (c_moves : Nat → Int32) (c_handMoves : Nat → Int32) (c_moved : Int32) (c_top : Int64) (c_bottom : Int64) (c_spot : Int32) (c_textLong : Int32) (c_fault : Int32) (c_number : Int32) (c_numberAt : Int32) (c_figures : Int32) (c_written : Int32) (c_wanted : Int32) (c_found : Int32) (c_drawnNow : Int32) (c_hold : Nat → Int64) (c_way : Nat → Int64) (c_sDay : Int32) (c_sUps : Int32) (c_sUp : Int32) (c_sMarks : Int32) (c_paidAll : Int64) (c_isPlayed : Int32) (c_isOn : Int32) (c_handMoved : Int32) (c_handPaid : Int64) (c_regret : Int64) (c_aside : Nat → Int32) (c_other : Nat → Int64) (c_states : Int32) (c_kept : Nat → Int32) (c_keptLong : Nat → Int64) (c_keptAt : Int32) (c_isTaking : Int32) (x6 : Int32) (c_worth : Nat → Int64) (c_acts : Nat → Int32) (o_c_worth : Nat → Int64) (o_c_acts : Nat → Int32) (H : Heap) (locs : List Loc) (ls : Array Slot), va_P (dC, dI) vwCl (mW dA ad c_tape c_taped c_tree c_bonds c_moves c_handMoves c_moved c_days c_likely c_outOf c_rateNow c_pence c_top c_bottom c_spot c_textLong c_fault c_number c_numberAt c_figures c_written c_wanted c_found c_drawnNow c_worth c_hold c_way c_acts c_sDay c_sUps c_sUp c_sMarks c_paidAll c_isPlayed c_isOn c_handMoved c_handPaid c_regret c_aside c_other c_states c_kept c_keptLong c_keptAt c_isTaking) H → va_D A (mW dA ad c_tape c_taped c_tree c_bonds c_moves c_handMoves c_moved c_days c_likely c_outOf c_rateNow c_pence c_top c_bottom c_spot c_textLong c_fault c_number c_numberAt c_figures c_written c_wanted c_found c_drawnNow c_worth c_hold c_way c_acts c_sDay c_sUps c_sUp c_sMarks c_paidAll c_isPlayed c_isOn c_handMoved c_handPaid c_regret c_aside c_other c_states c_kept c_keptLong c_keptAt c_isTaking) → va_S A s.heap H locs → lpX9_byRule_56 x1 x2 x3 x4 x5 c_bonds c_days c_likely c_outOf c_rateNow c_pence n x6 c_worth c_acts = some (o_c_worth, o_c_acts) → lv_has ls 9 [(0, .ref (ad 0)), (1, .int x1), (2, .int x2), (3, .int x3), (4, .int x4), (5, .int x5), (6, .int x6)] → (∀ (H : Heap) (locs : List Loc) (ls : Array Slot), va_P (dC, dI) vwCl (mW dA ad c_tape c_taped c_tree c_bonds c_moves c_handMoves c_moved c_days c_likely c_outOf c_rateNow c_pence c_top c_bottom c_spot c_textLong c_fault c_number c_numberAt c_figures c_written c_wanted c_found c_drawnNow o_c_worth c_hold c_way o_c_acts c_sDay c_sUps c_sUp c_sMarks c_paidAll c_isPlayed c_isOn c_handMoved c_handPaid c_regret c_aside c_other c_states c_kept c_keptLong c_keptAt c_isTaking) H → va_D A (mW dA ad c_tape c_taped c_tree c_bonds c_moves c_handMoves c_moved c_days c_likely c_outOf c_rateNow c_pence c_top c_bottom c_spot c_textLong c_fault c_number c_numberAt c_figures c_written c_wanted c_found c_drawnNow o_c_worth c_hold c_way o_c_acts c_sDay c_sUps c_sUp c_sMarks c_paidAll c_isPlayed c_isOn c_handMoved c_handPaid c_regret c_aside c_other c_states c_kept c_keptLong c_keptAt c_isTaking) → va_S A s.heap H locs → lv_has ls 9 [(0, .ref (ad 0)), (1, .int x1), (2, .int x2), (3, .int x3), (4, .int x4), (5, .int x5)] → W p l e rmX9_byRule s m ([.ref (ad 0), .int p1, .int p2, .int p3, .int p4] : List Value).toArray below meth c H locs 0 0 Q (F0 m 138 ls [])) → W p l e rmX9_byRule s m ([.ref (ad 0), .int p1, .int p2, .int p3, .int p4] : List Value).toArray below meth c H locs 0 0 Q (F0 m 56 ls []) := by
    intro n
    induction n with
    | zero =>
      intro x1 x2 x3 x4 x5 c_bonds c_days c_likely c_outOf c_rateNow c_pence c_tape c_taped c_tree c_moves c_handMoves c_moved c_top c_bottom c_spot c_textLong c_fault c_number c_numberAt c_figures c_written c_wanted c_found c_drawnNow c_hold c_way c_sDay c_sUps c_sUp c_sMarks c_paidAll c_isPlayed c_isOn c_handMoved c_handPaid c_regret c_aside c_other c_states c_kept c_keptLong c_keptAt c_isTaking x6 c_worth c_acts o_c_worth o_c_acts H locs ls hP hD hS hf hl hk
      cases hf
    | succ n ih56 =>
      intro x1 x2 x3 x4 x5 c_bonds c_days c_likely c_outOf c_rateNow c_pence c_tape c_taped c_tree c_moves c_handMoves c_moved c_top c_bottom c_spot c_textLong c_fault c_number c_numberAt c_figures c_written c_wanted c_found c_drawnNow c_hold c_way c_sDay c_sUps c_sUp c_sMarks c_paidAll c_isPlayed c_isOn c_handMoved c_handPaid c_regret c_aside c_other c_states c_kept c_keptLong c_keptAt c_isTaking x6 c_worth c_acts o_c_worth o_c_acts H locs ls hP hD hS hf hl hk
      rw [lpX9_byRule_56.eq_2] at hf
      refine lv_iload hx hb dX9_byRule_56 (lv_at hl 6 rfl) ?_
      refine lv_iload hx hb dX9_byRule_58 (lv_at hl 5 rfl) ?_
      refine lv_icmp_gt (tgt := 138) hx hb dX9_byRule_60 (by decide) (fun k42 => ?_) (fun k42 => ?_)
      · replace hf := ifp k42 hf
        cases hf
        exact hk _ _ _ hP hD hS (lv_sub hl [0, 1, 2, 3, 4, 5] rfl)
      · replace hf := ifn k42 hf
        refine lv_iconst (v := 0) hx hb dX9_byRule_63 (by decide) ?_
        refine lv_istore (lv' := [(7, .int 0), (0, .ref (ad 0)), (1, .int x1), (2, .int x2), (3, .int x3), (4, .int x4), (5, .int x5), (6, .int x6)]) hx hb dX9_byRule_64 hl (by decide) rfl (fun ls hl => ?_)
        obtain ⟨c_worth_43, c_acts_44, v45, hf⟩ := bd2_some hf
        refine LP66 FU _ _ _ _ _ _ _ _ _ _ _ _ _ _ _ _ _ _ _ _ _ _ _ _ _ _ _ _ _ _ _ _ _ _ _ _ _ _ _ _ _ _ _ _ _ _ _ _ _ _ _ _ _ _ _ _ _ hP hD hS v45 (lv_sub hl [1, 2, 3, 4, 5, 6, 7, 0] rfl) (fun H locs ls hP hD hS hl => ?_)
        obtain ⟨w46, ew46⟩ : ∃ y : Int32, y = x6 + 1 := ⟨_, rfl⟩
        replace hf := nm_at hf ew46
        refine lv_iinc (v := w46) (lv' := [(6, .int w46), (0, .ref (ad 0)), (1, .int x1), (2, .int x2), (3, .int x3), (4, .int x4), (5, .int x5)]) hx hb dX9_byRule_132 hl (k := 6) rfl (by rw [ew46]; rfl) (by decide) rfl (fun ls hl => ?_)
        refine lv_goto (tgt := 56) hx hb dX9_byRule_135 (by decide) ?_
        exact ih56 _ _ _ _ _ _ _ _ _ _ _ _ _ _ _ _ _ _ _ _ _ _ _ _ _ _ _ _ _ _ _ _ _ _ _ _ _ _ _ _ _ _ _ _ _ _ _ _ _ _ _ _ _ _ _ _ hP hD hS hf (lv_sub hl [1, 2, 3, 4, 5, 6, 0] rfl) hk
  have LP48 : ∀ (n : Nat) (x1 : Int32) (x2 : Int32) (x3 : Int32) (x4 : Int32) (c_bonds : Nat → Int32) (c_days : Int32) (c_likely : Int32) (c_outOf : Int32) (c_rateNow : Int32) (c_pence : Nat → Int64) (c_tape : Nat → Int32) (c_taped : Int32) (c_tree : Nat → Int32) (c_moves : Nat → Int32) (c_handMoves : Nat → Int32) (c_moved : Int32) (c_top : Int64) (c_bottom : Int64) (c_spot : Int32) (c_textLong : Int32) (c_fault : Int32) (c_number : Int32) (c_numberAt : Int32) (c_figures : Int32) (c_written : Int32) (c_wanted : Int32) (c_found : Int32) (c_drawnNow : Int32) (c_hold : Nat → Int64) (c_way : Nat → Int64) (c_sDay : Int32) (c_sUps : Int32) (c_sUp : Int32) (c_sMarks : Int32) (c_paidAll : Int64) (c_isPlayed : Int32) (c_isOn : Int32) (c_handMoved : Int32) (c_handPaid : Int64) (c_regret : Int64) (c_aside : Nat → Int32) (c_other : Nat → Int64) (c_states : Int32) (c_kept : Nat → Int32) (c_keptLong : Nat → Int64) (c_keptAt : Int32) (c_isTaking : Int32) (x5 : Int32) (c_worth : Nat → Int64) (c_acts : Nat → Int32) (o_c_worth : Nat → Int64) (o_c_acts : Nat → Int32) (H : Heap) (locs : List Loc) (ls : Array Slot), va_P (dC, dI) vwCl (mW dA ad c_tape c_taped c_tree c_bonds c_moves c_handMoves c_moved c_days c_likely c_outOf c_rateNow c_pence c_top c_bottom c_spot c_textLong c_fault c_number c_numberAt c_figures c_written c_wanted c_found c_drawnNow c_worth c_hold c_way c_acts c_sDay c_sUps c_sUp c_sMarks c_paidAll c_isPlayed c_isOn c_handMoved c_handPaid c_regret c_aside c_other c_states c_kept c_keptLong c_keptAt c_isTaking) H → va_D A (mW dA ad c_tape c_taped c_tree c_bonds c_moves c_handMoves c_moved c_days c_likely c_outOf c_rateNow c_pence c_top c_bottom c_spot c_textLong c_fault c_number c_numberAt c_figures c_written c_wanted c_found c_drawnNow c_worth c_hold c_way c_acts c_sDay c_sUps c_sUp c_sMarks c_paidAll c_isPlayed c_isOn c_handMoved c_handPaid c_regret c_aside c_other c_states c_kept c_keptLong c_keptAt c_isTaking) → va_S A s.heap H locs → lpX9_byRule_48 x1 x2 x3 x4 c_bonds c_days c_likely c_outOf c_rateNow c_pence n x5 c_worth c_acts = some (o_c_worth, o_c_acts) → lv_has ls 9 [(0, .ref (ad 0)), (1, .int x1), (2, .int x2), (3, .int x3), (4, .int x4), (5, .int x5)] → (∀ (H : Heap) (locs : List Loc) (ls : Array Slot), va_P (dC, dI) vwCl (mW dA ad c_tape c_taped c_tree c_bonds c_moves c_handMoves c_moved c_days c_likely c_outOf c_rateNow c_pence c_top c_bottom c_spot c_textLong c_fault c_number c_numberAt c_figures c_written c_wanted c_found c_drawnNow o_c_worth c_hold c_way o_c_acts c_sDay c_sUps c_sUp c_sMarks c_paidAll c_isPlayed c_isOn c_handMoved c_handPaid c_regret c_aside c_other c_states c_kept c_keptLong c_keptAt c_isTaking) H → va_D A (mW dA ad c_tape c_taped c_tree c_bonds c_moves c_handMoves c_moved c_days c_likely c_outOf c_rateNow c_pence c_top c_bottom c_spot c_textLong c_fault c_number c_numberAt c_figures c_written c_wanted c_found c_drawnNow o_c_worth c_hold c_way o_c_acts c_sDay c_sUps c_sUp c_sMarks c_paidAll c_isPlayed c_isOn c_handMoved c_handPaid c_regret c_aside c_other c_states c_kept c_keptLong c_keptAt c_isTaking) → va_S A s.heap H locs → lv_has ls 9 [(0, .ref (ad 0)), (1, .int x1), (4, .int x4)] → W p l e rmX9_byRule s m ([.ref (ad 0), .int p1, .int p2, .int p3, .int p4] : List Value).toArray below meth c H locs 0 0 Q (F0 m 144 ls [])) → W p l e rmX9_byRule s m ([.ref (ad 0), .int p1, .int p2, .int p3, .int p4] : List Value).toArray below meth c H locs 0 0 Q (F0 m 48 ls []) := by
    intro n
    induction n with
    | zero =>
      intro x1 x2 x3 x4 c_bonds c_days c_likely c_outOf c_rateNow c_pence c_tape c_taped c_tree c_moves c_handMoves c_moved c_top c_bottom c_spot c_textLong c_fault c_number c_numberAt c_figures c_written c_wanted c_found c_drawnNow c_hold c_way c_sDay c_sUps c_sUp c_sMarks c_paidAll c_isPlayed c_isOn c_handMoved c_handPaid c_regret c_aside c_other c_states c_kept c_keptLong c_keptAt c_isTaking x5 c_worth c_acts o_c_worth o_c_acts H locs ls hP hD hS hf hl hk
      cases hf
    | succ n ih48 =>
      intro x1 x2 x3 x4 c_bonds c_days c_likely c_outOf c_rateNow c_pence c_tape c_taped c_tree c_moves c_handMoves c_moved c_top c_bottom c_spot c_textLong c_fault c_number c_numberAt c_figures c_written c_wanted c_found c_drawnNow c_hold c_way c_sDay c_sUps c_sUp c_sMarks c_paidAll c_isPlayed c_isOn c_handMoved c_handPaid c_regret c_aside c_other c_states c_kept c_keptLong c_keptAt c_isTaking x5 c_worth c_acts o_c_worth o_c_acts H locs ls hP hD hS hf hl hk
      rw [lpX9_byRule_48.eq_2] at hf
      refine lv_iload hx hb dX9_byRule_48 (lv_at hl 5 rfl) ?_
      refine lv_if_lt (tgt := 144) hx hb dX9_byRule_50 (by decide) (fun k37 => ?_) (fun k37 => ?_)
      · replace hf := ifp k37 hf
        cases hf
        exact hk _ _ _ hP hD hS (lv_sub hl [0, 1, 4] rfl)
      · replace hf := ifn k37 hf
        refine lv_iconst (v := 0) hx hb dX9_byRule_53 (by decide) ?_
        refine lv_istore (lv' := [(6, .int 0), (0, .ref (ad 0)), (1, .int x1), (2, .int x2), (3, .int x3), (4, .int x4), (5, .int x5)]) hx hb dX9_byRule_54 hl (by decide) rfl (fun ls hl => ?_)
        obtain ⟨c_worth_38, c_acts_39, v40, hf⟩ := bd2_some hf
        refine LP56 FU _ _ _ _ _ _ _ _ _ _ _ _ _ _ _ _ _ _ _ _ _ _ _ _ _ _ _ _ _ _ _ _ _ _ _ _ _ _ _ _ _ _ _ _ _ _ _ _ _ _ _ _ _ _ _ _ hP hD hS v40 (lv_sub hl [1, 2, 3, 4, 5, 6, 0] rfl) (fun H locs ls hP hD hS hl => ?_)
        obtain ⟨w41, ew41⟩ : ∃ y : Int32, y = x5 + (-1) := ⟨_, rfl⟩
        replace hf := nm_at hf ew41
        refine lv_iinc (v := w41) (lv' := [(5, .int w41), (0, .ref (ad 0)), (1, .int x1), (2, .int x2), (3, .int x3), (4, .int x4)]) hx hb dX9_byRule_138 hl (k := 5) rfl (by rw [ew41]; rfl) (by decide) rfl (fun ls hl => ?_)
        refine lv_goto (tgt := 48) hx hb dX9_byRule_141 (by decide) ?_
        exact ih48 _ _ _ _ _ _ _ _ _ _ _ _ _ _ _ _ _ _ _ _ _ _ _ _ _ _ _ _ _ _ _ _ _ _ _ _ _ _ _ _ _ _ _ _ _ _ _ _ _ _ _ _ _ _ _ hP hD hS hf (lv_sub hl [1, 2, 3, 4, 5, 0] rfl) hk
  subst hQ
  unfold fX9_byRule at hf
  refine lv_iload_n hx hb dX9_byRule_0 rfl (lv_at hl 1 rfl) ?_
  obtain ⟨r1, v2, hf⟩ := bd1_some hf
  refine gci0 (va_runS (As := [.int p1]) (rest := []) ⟨hx, hb, hml, hown, hts⟩ (tX9_isBond l dC dI dA s.heap.size v2) (ccX9_X9_isBond hts ⟨Nat.le_of_ble_eq_true rfl, Nat.le_of_ble_eq_true rfl⟩) (gPreS0 hK) rfl rfl hl.1 rfl (lv_room (Nat.le_of_ble_eq_true rfl)) dX9_byRule_1 ⟨Nat.le_of_ble_eq_true rfl, Nat.le_of_ble_eq_true rfl⟩) hP hS hA (fun H locs hP hS => ?_)
  refine lv_if_eq (tgt := 31) hx hb dX9_byRule_4 (by decide) (fun k3 => ?_) (fun k3 => ?_)
  · replace hf := ifp k3 hf
    refine lv_ldc2 (v := (-1)) hx hb hown (hts _ (gw_mem wkX9_116)) dX9_byRule_31 ?_
    cases hf
    exact W.lret hx hb hr (fun t ht _ => gql hP hD hS ht) hS.2.2 dX9_byRule_34
  · replace hf := ifn k3 hf
    refine lv_iload_n hx hb dX9_byRule_7 rfl (lv_at hl 2 rfl) ?_
    refine lv_i2l hx hb dX9_byRule_8 rfl ?_
    refine lv_lconst (v := 0) hx hb dX9_byRule_9 rfl ?_
    refine lv_ldc2 (v := 1000000) hx hb hown (hts _ (gw_mem wkX9_130)) dX9_byRule_10 ?_
    obtain ⟨r4, v5, hf⟩ := bd1_some hf
    refine gci0 (va_runS (As := [.long (Int32.toInt64 p2), .long 0, .long 1000000]) (rest := []) ⟨hx, hb, hml, hown, hts⟩ (tX9_in l dC dI dA H.size v5) (ccX9_X9_in hts ⟨Nat.le_of_ble_eq_true rfl, Nat.le_of_ble_eq_true rfl⟩) (gPreS0 hK) rfl rfl hl.1 rfl (lv_room (Nat.le_of_ble_eq_true rfl)) dX9_byRule_13 ⟨Nat.le_of_ble_eq_true rfl, Nat.le_of_ble_eq_true rfl⟩) hP hS hA (fun H locs hP hS => ?_)
    refine lv_if_eq (tgt := 31) hx hb dX9_byRule_16 (by decide) (fun k6 => ?_) (fun k6 => ?_)
    · replace hf := ifp k6 hf
      refine lv_ldc2 (v := (-1)) hx hb hown (hts _ (gw_mem wkX9_116)) dX9_byRule_31 ?_
      cases hf
      exact W.lret hx hb hr (fun t ht _ => gql hP hD hS ht) hS.2.2 dX9_byRule_34
    · replace hf := ifn k6 hf
      refine lv_iload_n hx hb dX9_byRule_19 rfl (lv_at hl 3 rfl) ?_
      refine lv_i2l hx hb dX9_byRule_20 rfl ?_
      refine lv_lconst (v := 0) hx hb dX9_byRule_21 rfl ?_
      refine lv_ldc2 (v := 1000000) hx hb hown (hts _ (gw_mem wkX9_130)) dX9_byRule_22 ?_
      obtain ⟨r7, v8, hf⟩ := bd1_some hf
      refine gci0 (va_runS (As := [.long (Int32.toInt64 p3), .long 0, .long 1000000]) (rest := []) ⟨hx, hb, hml, hown, hts⟩ (tX9_in l dC dI dA H.size v8) (ccX9_X9_in hts ⟨Nat.le_of_ble_eq_true rfl, Nat.le_of_ble_eq_true rfl⟩) (gPreS0 hK) rfl rfl hl.1 rfl (lv_room (Nat.le_of_ble_eq_true rfl)) dX9_byRule_25 ⟨Nat.le_of_ble_eq_true rfl, Nat.le_of_ble_eq_true rfl⟩) hP hS hA (fun H locs hP hS => ?_)
      refine lv_if_ne (tgt := 35) hx hb dX9_byRule_28 (by decide) (fun k9 => ?_) (fun k9 => ?_)
      · replace hf := ifn k9 hf
        refine lv_aload_n hx hb dX9_byRule_35 rfl (lv_at hl 0 rfl) ?_
        refine lv_iload_n hx hb dX9_byRule_36 rfl (lv_at hl 1 rfl) ?_
        obtain ⟨c_days_10, c_likely_11, c_outOf_12, c_rateNow_13, c_pence_14, c_top_15, c_bottom_16, c_worth_17, c_hold_18, c_acts_19, v20, hf⟩ := bd10_some hf
        refine gcv (va_runV (As := [.int p1]) (rest := []) ⟨hx, hb, hml, hown, hts⟩ (tX9_playsNow l dC dI dA ad H.size v20) (ccX9_X9_playsNow hts ⟨Nat.le_of_ble_eq_true rfl, Nat.le_of_ble_eq_true rfl⟩) (gPreV (ci := 9) (q0 := 0) hP hK hD rfl rfl) rfl rfl hl.1 rfl (lv_room (Nat.le_of_ble_eq_true rfl)) dX9_byRule_37 ⟨Nat.le_of_ble_eq_true rfl, Nat.le_of_ble_eq_true rfl⟩) hD hS hA (fun H locs hP hD hS => ?_)
        refine lv_aload_n hx hb dX9_byRule_40 rfl (lv_at hl 0 rfl) ?_
        refine va_get (D := (dC, dI)) (ci := 9) (v := .int c_days_10) (C := RX9) (T := TX9) (N := 45) hx hb hts (fun w h => gw_mem (inX9 w h)) hown hK.1 hP 0 rfl rfl 7 (by decide) (hts _ (gw_mem wfX9_94)) (fun _ h9 => h9) rfl dX9_byRule_41 ?_
        refine lv_iconst (v := 1) hx hb dX9_byRule_44 (by decide) ?_
        refine lv_isub hx hb dX9_byRule_45 ?_
        refine lv_topi (fun w21 ew21 => ?_)
        replace hf := nm_at hf ew21
        refine lv_istore (lv' := [(5, .int w21), (0, .ref (ad 0)), (1, .int p1), (2, .int p2), (3, .int p3), (4, .int p4)]) hx hb dX9_byRule_46 hl (by decide) rfl (fun ls hl => ?_)
        obtain ⟨c_worth_22, c_acts_23, v24, hf⟩ := bd2_some hf
        refine LP48 FU _ _ _ _ _ _ _ _ _ _ _ _ _ _ _ _ _ _ _ _ _ _ _ _ _ _ _ _ _ _ _ _ _ _ _ _ _ _ _ _ _ _ _ _ _ _ _ _ _ _ _ _ _ _ _ hP hD hS v24 (lv_sub hl [1, 2, 3, 4, 5, 0] rfl) (fun H locs ls hP hD hS hl => ?_)
        refine lv_iload hx hb dX9_byRule_144 (lv_at hl 2 rfl) ?_
        refine lv_if_ne (tgt := 160) hx hb dX9_byRule_146 (by decide) (fun k25 => ?_) (fun k25 => ?_)
        · replace hf := ifn k25 hf
          refine lv_aload_n hx hb dX9_byRule_160 rfl (lv_at hl 0 rfl) ?_
          refine lv_iload_n hx hb dX9_byRule_161 rfl (lv_at hl 1 rfl) ?_
          refine lv_aload_n hx hb dX9_byRule_162 rfl (lv_at hl 0 rfl) ?_
          refine va_get (D := (dC, dI)) (ci := 9) (v := .int c_moved) (C := RX9) (T := TX9) (N := 45) hx hb hts (fun w h => gw_mem (inX9 w h)) hown hK.1 hP 0 rfl rfl 6 (by decide) (hts _ (gw_mem wfX9_76)) (fun _ h9 => h9) rfl dX9_byRule_163 ?_
          obtain ⟨c_sDay_26, c_sUps_27, c_sUp_28, c_sMarks_29, v30, hf⟩ := bd4_some hf
          refine gcv (va_runV (As := [.int p1, .int c_moved]) (rest := []) ⟨hx, hb, hml, hown, hts⟩ (tX9_follows l dC dI dA ad H.size v30) (ccX9_X9_follows hts ⟨Nat.le_of_ble_eq_true rfl, Nat.le_of_ble_eq_true rfl⟩) (gPreV (ci := 9) (q0 := 0) hP hK hD rfl rfl) rfl rfl hl.1 rfl (lv_room (Nat.le_of_ble_eq_true rfl)) dX9_byRule_166 ⟨Nat.le_of_ble_eq_true rfl, Nat.le_of_ble_eq_true rfl⟩) hD hS hA (fun H locs hP hD hS => ?_)
          refine lv_aload_n hx hb dX9_byRule_169 rfl (lv_at hl 0 rfl) ?_
          refine va_get (D := (dC, dI)) (ci := 9) (v := .ref (ad 10)) (C := RX9) (T := TX9) (N := 45) hx hb hts (fun w h => gw_mem (inX9 w h)) hown hK.1 hP 0 rfl rfl 27 (by decide) (hts _ (gw_mem wfX9_39)) (fun _ h9 => h9) rfl dX9_byRule_170 ?_
          refine lv_aload_n hx hb dX9_byRule_173 rfl (lv_at hl 0 rfl) ?_
          obtain ⟨r31, v32, hf⟩ := bd1_some hf
          refine gci (va_runV (As := []) (rest := [.ref (ad 10)]) ⟨hx, hb, hml, hown, hts⟩ (tX9_hereNow l dC dI dA ad H.size v32) (ccX9_X9_hereNow hts ⟨Nat.le_of_ble_eq_true rfl, Nat.le_of_ble_eq_true rfl⟩) (gPreV (ci := 9) (q0 := 0) hP hK hD rfl rfl) rfl rfl hl.1 rfl (lv_room (Nat.le_of_ble_eq_true rfl)) dX9_byRule_174 ⟨Nat.le_of_ble_eq_true rfl, Nat.le_of_ble_eq_true rfl⟩) hD hS hA (fun H locs hP hD hS => ?_)
          obtain ⟨h33, hf⟩ := og_some hf
          refine va_iald hx hb hK.1 hP 10 0 rfl rfl (okI_in h33) dX9_byRule_177 ?_
          refine lv_i2l hx hb dX9_byRule_178 rfl ?_
          cases hf
          exact W.lret hx hb hr (fun t ht _ => gql hP hD hS ht) hS.2.2 dX9_byRule_179
        · replace hf := ifp k25 hf
          refine lv_aload_n hx hb dX9_byRule_149 rfl (lv_at hl 0 rfl) ?_
          refine va_get (D := (dC, dI)) (ci := 9) (v := .ref (ad 7)) (C := RX9) (T := TX9) (N := 45) hx hb hts (fun w h => gw_mem (inX9 w h)) hown hK.1 hP 0 rfl rfl 24 (by decide) (hts _ (gw_mem wfX9_30)) (fun _ h9 => h9) rfl dX9_byRule_150 ?_
          refine lv_aload_n hx hb dX9_byRule_153 rfl (lv_at hl 0 rfl) ?_
          refine lv_iload_n hx hb dX9_byRule_154 rfl (lv_at hl 1 rfl) ?_
          obtain ⟨r34, v35, hf⟩ := bd1_some hf
          refine gci (va_runV (As := [.int p1]) (rest := [.ref (ad 7)]) ⟨hx, hb, hml, hown, hts⟩ (tX9_begin l dC dI dA ad H.size v35) (ccX9_X9_begin hts ⟨Nat.le_of_ble_eq_true rfl, Nat.le_of_ble_eq_true rfl⟩) (gPreV (ci := 9) (q0 := 0) hP hK hD rfl rfl) rfl rfl hl.1 rfl (lv_room (Nat.le_of_ble_eq_true rfl)) dX9_byRule_155 ⟨Nat.le_of_ble_eq_true rfl, Nat.le_of_ble_eq_true rfl⟩) hD hS hA (fun H locs hP hD hS => ?_)
          obtain ⟨h36, hf⟩ := og_some hf
          refine va_lald hx hb hK.1 hP 7 1 rfl rfl (okI_in h36) dX9_byRule_158 ?_
          cases hf
          exact W.lret hx hb hr (fun t ht _ => gql hP hD hS ht) hS.2.2 dX9_byRule_159
      · replace hf := ifp k9 hf
        refine lv_ldc2 (v := (-1)) hx hb hown (hts _ (gw_mem wkX9_116)) dX9_byRule_31 ?_
        cases hf
        exact W.lret hx hb hr (fun t ht _ => gql hP hD hS ht) hS.2.2 dX9_byRule_34
def lpX9_swaps_2  : Nat → Int32 → (Nat → Int32) → (Nat → Int32) → Option ((Nat → Int32) × (Nat → Int32))
  | 0, _, _, _ => none
  | n + 1, x1, c_moves, c_aside => if 6 ≤ x1 then some (c_moves, c_aside) else og (okI x1 6) (nm (c_aside (Int32.toNatClampNeg x1)) (fun w6 => og (okI x1 6) (og (okI x1 6) (nm (upd c_aside (Int32.toNatClampNeg x1) (c_moves (Int32.toNatClampNeg x1))) (fun w9 => og (okI x1 6) (nm (upd c_moves (Int32.toNatClampNeg x1) w6) (fun w11 => nm (x1 + 1) (fun w12 => lpX9_swaps_2 n w12 w11 w9))))))))
def fX9_swaps (c_moves : Nat → Int32) (c_aside : Nat → Int32) : Option ((Nat → Int32) × (Nat → Int32)) := bd2 (lpX9_swaps_2 FU 0 c_moves c_aside) (fun c_moves_1 c_aside_2 => some (c_moves_1, c_aside_2))
abbrev rmX9_swaps : Room := { frames := 0, cells := 0, slots := 0, locals := 0 }
set_option maxHeartbeats 4000000 in
set_option maxRecDepth 100000 in
theorem tX9_swaps (l : Launch) (dC : Nat → ClassId) (dI : Nat → Nat → Nat) (dA : Nat → ClassId) (ad : Nat → Nat) (sz : Nat) {c_tape : Nat → Int32} {c_taped : Int32} {c_tree : Nat → Int32} {c_bonds : Nat → Int32} {c_moves : Nat → Int32} {c_handMoves : Nat → Int32} {c_moved : Int32} {c_days : Int32} {c_likely : Int32} {c_outOf : Int32} {c_rateNow : Int32} {c_pence : Nat → Int64} {c_top : Int64} {c_bottom : Int64} {c_spot : Int32} {c_textLong : Int32} {c_fault : Int32} {c_number : Int32} {c_numberAt : Int32} {c_figures : Int32} {c_written : Int32} {c_wanted : Int32} {c_found : Int32} {c_drawnNow : Int32} {c_worth : Nat → Int64} {c_hold : Nat → Int64} {c_way : Nat → Int64} {c_acts : Nat → Int32} {c_sDay : Int32} {c_sUps : Int32} {c_sUp : Int32} {c_sMarks : Int32} {c_paidAll : Int64} {c_isPlayed : Int32} {c_isOn : Int32} {c_handMoved : Int32} {c_handPaid : Int64} {c_regret : Int64} {c_aside : Nat → Int32} {c_other : Nat → Int64} {c_states : Int32} {c_kept : Nat → Int32} {c_keptLong : Nat → Int64} {c_keptAt : Int32} {c_isTaking : Int32} {o_c_moves : Nat → Int32} {o_c_aside : Nat → Int32} (hf : fX9_swaps c_moves c_aside = some (o_c_moves, o_c_aside)) : Met l yX9_swaps (wq (Cond.code yX9_swaps cX9_swaps 3 none)) rmX9_swaps (gP [.ref (ad 0)] (dC, dI) dA (mW dA ad c_tape c_taped c_tree c_bonds c_moves c_handMoves c_moved c_days c_likely c_outOf c_rateNow c_pence c_top c_bottom c_spot c_textLong c_fault c_number c_numberAt c_figures c_written c_wanted c_found c_drawnNow c_worth c_hold c_way c_acts c_sDay c_sUps c_sUp c_sMarks c_paidAll c_isPlayed c_isOn c_handMoved c_handPaid c_regret c_aside c_other c_states c_kept c_keptLong c_keptAt c_isTaking) sz) (gQv (dC, dI) (mW dA ad c_tape c_taped c_tree c_bonds o_c_moves c_handMoves c_moved c_days c_likely c_outOf c_rateNow c_pence c_top c_bottom c_spot c_textLong c_fault c_number c_numberAt c_figures c_written c_wanted c_found c_drawnNow c_worth c_hold c_way c_acts c_sDay c_sUps c_sUp c_sMarks c_paidAll c_isPlayed c_isOn c_handMoved c_handPaid c_regret o_c_aside c_other c_states c_kept c_keptLong c_keptAt c_isTaking) (va_A (mW dA ad c_tape c_taped c_tree c_bonds c_moves c_handMoves c_moved c_days c_likely c_outOf c_rateNow c_pence c_top c_bottom c_spot c_textLong c_fault c_number c_numberAt c_figures c_written c_wanted c_found c_drawnNow c_worth c_hold c_way c_acts c_sDay c_sUps c_sUp c_sMarks c_paidAll c_isPlayed c_isOn c_handMoved c_handPaid c_regret c_aside c_other c_states c_kept c_keptLong c_keptAt c_isTaking) sz)) 0 0 (va_A (mW dA ad c_tape c_taped c_tree c_bonds c_moves c_handMoves c_moved c_days c_likely c_outOf c_rateNow c_pence c_top c_bottom c_spot c_textLong c_fault c_number c_numberAt c_figures c_written c_wanted c_found c_drawnNow c_worth c_hold c_way c_acts c_sDay c_sUps c_sUp c_sMarks c_paidAll c_isPlayed c_isOn c_handMoved c_handPaid c_regret c_aside c_other c_states c_kept c_keptLong c_keptAt c_isTaking) sz) := by
  refine Met.ofW (cc := cX9_swaps) (maxL := 3) (ret := none) (by decide) rfl ?_
  intro p e s m args below meth c s₁ B hml hv
  obtain ⟨rfl, hsz, hP, hK, hD0⟩ := hv
  have hx := B.exec
  have hb := B.bytes
  have hr := B.returns
  have hts := atoms_spec (ws := wq (Cond.code yX9_swaps cX9_swaps 3 none)) B.pre
  have hown : s.vm.findClass RX9 = some m.cls := findClass_of_methodNamed B.named
  have hlocks := B.notSynchronized
  clear B
  subst hsz
  have hD := hD0.self (sz := s.heap.size)
  generalize hAe : va_A (mW dA ad c_tape c_taped c_tree c_bonds c_moves c_handMoves c_moved c_days c_likely c_outOf c_rateNow c_pence c_top c_bottom c_spot c_textLong c_fault c_number c_numberAt c_figures c_written c_wanted c_found c_drawnNow c_worth c_hold c_way c_acts c_sDay c_sUps c_sUp c_sMarks c_paidAll c_isPlayed c_isOn c_handMoved c_handPaid c_regret c_aside c_other c_states c_kept c_keptLong c_keptAt c_isTaking) s.heap.size = A at hD ⊢
  have hA : ∀ q : Nat, s.heap.size ≤ q → A q := fun q h => by rw [← hAe]; exact Or.inr h
  clear hAe hD0
  have hS : va_S A s.heap s.heap [] := va_S.rf
  have hl := lv_entry ([.ref (ad 0)]) (n := 3) (Nat.le_of_ble_eq_true rfl)
  rw [lg_entry_eq]
  generalize (lg_sl ([.ref (ad 0)]) ++ List.replicate (3 - (lg_sl ([.ref (ad 0)])).length) Slot.unset).toArray = ls at hl ⊢
  have hl : lv_has ls 3 [(0, .ref (ad 0))] := hl
  change W p l e rmX9_swaps s m ([.ref (ad 0)] : List Value).toArray below meth c s.heap [] 0 0 _ _
  generalize hQ : MQ below (gQv (dC, dI) (mW dA ad c_tape c_taped c_tree c_bonds o_c_moves c_handMoves c_moved c_days c_likely c_outOf c_rateNow c_pence c_top c_bottom c_spot c_textLong c_fault c_number c_numberAt c_figures c_written c_wanted c_found c_drawnNow c_worth c_hold c_way c_acts c_sDay c_sUps c_sUp c_sMarks c_paidAll c_isPlayed c_isOn c_handMoved c_handPaid c_regret o_c_aside c_other c_states c_kept c_keptLong c_keptAt c_isTaking) A) ([.ref (ad 0)] : List Value).toArray s 0 0 A = Q
  have LP2 : ∀ (n : Nat) (c_tape : Nat → Int32) (c_taped : Int32) (c_tree : Nat → Int32) (c_bonds : Nat → Int32) (c_handMoves : Nat → Int32) (c_moved : Int32) (c_days : Int32) (c_likely : Int32) (c_outOf : Int32) (c_rateNow : Int32) (c_pence : Nat → Int64) (c_top : Int64) (c_bottom : Int64) (c_spot : Int32) (c_textLong : Int32) (c_fault : Int32) (c_number : Int32) (c_numberAt : Int32) (c_figures : Int32) (c_written : Int32) (c_wanted : Int32) (c_found : Int32) (c_drawnNow : Int32) (c_worth : Nat → Int64) (c_hold : Nat → Int64) (c_way : Nat → Int64) (c_acts : Nat → Int32) (c_sDay : Int32) (c_sUps : Int32) (c_sUp : Int32) (c_sMarks : Int32) (c_paidAll : Int64) (c_isPlayed : Int32) (c_isOn : Int32) (c_handMoved : Int32) (c_handPaid : Int64) (c_regret : Int64) (c_other : Nat → Int64) (c_states : Int32) (c_kept : Nat → Int32) (c_keptLong : Nat → Int64) (c_keptAt : Int32) (c_isTaking : Int32) (x1 : Int32) (c_moves : Nat → Int32) (c_aside : Nat → Int32) (o_c_moves : Nat → Int32) (o_c_aside : Nat → Int32) (H : Heap) (locs : List Loc) (ls : Array Slot), va_P (dC, dI) vwCl (mW dA ad c_tape c_taped c_tree c_bonds c_moves c_handMoves c_moved c_days c_likely c_outOf c_rateNow c_pence c_top c_bottom c_spot c_textLong c_fault c_number c_numberAt c_figures c_written c_wanted c_found c_drawnNow c_worth c_hold c_way c_acts c_sDay c_sUps c_sUp c_sMarks c_paidAll c_isPlayed c_isOn c_handMoved c_handPaid c_regret c_aside c_other c_states c_kept c_keptLong c_keptAt c_isTaking) H → va_D A (mW dA ad c_tape c_taped c_tree c_bonds c_moves c_handMoves c_moved c_days c_likely c_outOf c_rateNow c_pence c_top c_bottom c_spot c_textLong c_fault c_number c_numberAt c_figures c_written c_wanted c_found c_drawnNow c_worth c_hold c_way c_acts c_sDay c_sUps c_sUp c_sMarks c_paidAll c_isPlayed c_isOn c_handMoved c_handPaid c_regret c_aside c_other c_states c_kept c_keptLong c_keptAt c_isTaking) → va_S A s.heap H locs → lpX9_swaps_2  n x1 c_moves c_aside = some (o_c_moves, o_c_aside) → lv_has ls 3 [(0, .ref (ad 0)), (1, .int x1)] → (∀ (H : Heap) (locs : List Loc) (ls : Array Slot), va_P (dC, dI) vwCl (mW dA ad c_tape c_taped c_tree c_bonds o_c_moves c_handMoves c_moved c_days c_likely c_outOf c_rateNow c_pence c_top c_bottom c_spot c_textLong c_fault c_number c_numberAt c_figures c_written c_wanted c_found c_drawnNow c_worth c_hold c_way c_acts c_sDay c_sUps c_sUp c_sMarks c_paidAll c_isPlayed c_isOn c_handMoved c_handPaid c_regret o_c_aside c_other c_states c_kept c_keptLong c_keptAt c_isTaking) H → va_D A (mW dA ad c_tape c_taped c_tree c_bonds o_c_moves c_handMoves c_moved c_days c_likely c_outOf c_rateNow c_pence c_top c_bottom c_spot c_textLong c_fault c_number c_numberAt c_figures c_written c_wanted c_found c_drawnNow c_worth c_hold c_way c_acts c_sDay c_sUps c_sUp c_sMarks c_paidAll c_isPlayed c_isOn c_handMoved c_handPaid c_regret o_c_aside c_other c_states c_kept c_keptLong c_keptAt c_isTaking) → va_S A s.heap H locs → lv_has ls 3 [] → W p l e rmX9_swaps s m ([.ref (ad 0)] : List Value).toArray below meth c H locs 0 0 Q (F0 m 40 ls [])) → W p l e rmX9_swaps s m ([.ref (ad 0)] : List Value).toArray below meth c H locs 0 0 Q (F0 m 2 ls []) := by
    intro n
    induction n with
    | zero =>
      intro c_tape c_taped c_tree c_bonds c_handMoves c_moved c_days c_likely c_outOf c_rateNow c_pence c_top c_bottom c_spot c_textLong c_fault c_number c_numberAt c_figures c_written c_wanted c_found c_drawnNow c_worth c_hold c_way c_acts c_sDay c_sUps c_sUp c_sMarks c_paidAll c_isPlayed c_isOn c_handMoved c_handPaid c_regret c_other c_states c_kept c_keptLong c_keptAt c_isTaking x1 c_moves c_aside o_c_moves o_c_aside H locs ls hP hD hS hf hl hk
      cases hf
    | succ n ih2 =>
      intro c_tape c_taped c_tree c_bonds c_handMoves c_moved c_days c_likely c_outOf c_rateNow c_pence c_top c_bottom c_spot c_textLong c_fault c_number c_numberAt c_figures c_written c_wanted c_found c_drawnNow c_worth c_hold c_way c_acts c_sDay c_sUps c_sUp c_sMarks c_paidAll c_isPlayed c_isOn c_handMoved c_handPaid c_regret c_other c_states c_kept c_keptLong c_keptAt c_isTaking x1 c_moves c_aside o_c_moves o_c_aside H locs ls hP hD hS hf hl hk
      rw [lpX9_swaps_2.eq_2] at hf
      refine lv_iload_n hx hb dX9_swaps_2 rfl (lv_at hl 1 rfl) ?_
      refine lv_bipush (v := 6) hx hb dX9_swaps_3 (by decide) ?_
      refine lv_icmp_ge (tgt := 40) hx hb dX9_swaps_5 (by decide) (fun k4 => ?_) (fun k4 => ?_)
      · replace hf := ifp k4 hf
        cases hf
        exact hk _ _ _ hP hD hS (lv_sub hl [] rfl)
      · replace hf := ifn k4 hf
        refine lv_aload_n hx hb dX9_swaps_8 rfl (lv_at hl 0 rfl) ?_
        refine va_get (D := (dC, dI)) (ci := 9) (v := .ref (ad 11)) (C := RX9) (T := TX9) (N := 45) hx hb hts (fun w h => gw_mem (inX9 w h)) hown hK.1 hP 0 rfl rfl 38 (by decide) (hts _ (gw_mem wfX9_42)) (fun _ h9 => h9) rfl dX9_swaps_9 ?_
        refine lv_iload_n hx hb dX9_swaps_12 rfl (lv_at hl 1 rfl) ?_
        obtain ⟨h5, hf⟩ := og_some hf
        refine va_iald hx hb hK.1 hP 11 0 rfl rfl (okI_in h5) dX9_swaps_13 ?_
        refine lv_topi (fun w6 ew6 => ?_)
        replace hf := nm_at hf ew6
        refine lv_istore_n (lv' := [(2, .int w6), (0, .ref (ad 0)), (1, .int x1)]) hx hb dX9_swaps_14 rfl hl (by decide) rfl (fun ls hl => ?_)
        refine lv_aload_n hx hb dX9_swaps_15 rfl (lv_at hl 1 rfl) ?_
        refine va_get (D := (dC, dI)) (ci := 9) (v := .ref (ad 11)) (C := RX9) (T := TX9) (N := 45) hx hb hts (fun w h => gw_mem (inX9 w h)) hown hK.1 hP 0 rfl rfl 38 (by decide) (hts _ (gw_mem wfX9_42)) (fun _ h9 => h9) rfl dX9_swaps_16 ?_
        refine lv_iload_n hx hb dX9_swaps_19 rfl (lv_at hl 2 rfl) ?_
        refine lv_aload_n hx hb dX9_swaps_20 rfl (lv_at hl 1 rfl) ?_
        refine va_get (D := (dC, dI)) (ci := 9) (v := .ref (ad 4)) (C := RX9) (T := TX9) (N := 45) hx hb hts (fun w h => gw_mem (inX9 w h)) hown hK.1 hP 0 rfl rfl 4 (by decide) (hts _ (gw_mem wfX9_20)) (fun _ h9 => h9) rfl dX9_swaps_21 ?_
        refine lv_iload_n hx hb dX9_swaps_24 rfl (lv_at hl 2 rfl) ?_
        obtain ⟨h7, hf⟩ := og_some hf
        refine va_iald hx hb hK.1 hP 4 0 rfl rfl (okI_in h7) dX9_swaps_25 ?_
        obtain ⟨h8, hf⟩ := og_some hf
        obtain ⟨w9, ew9⟩ : ∃ y : Nat → Int32, y = upd c_aside (Int32.toNatClampNeg x1) (c_moves (Int32.toNatClampNeg x1)) := ⟨_, rfl⟩
        replace hf := nm_at hf ew9
        refine va_iast hx hb hK.1 hP hD hS 11 0 rfl rfl (okI_in h8) dX9_swaps_26 (fun H locs hP hD hS => ?_)
        have hP : va_P (dC, dI) vwCl (mW dA ad c_tape c_taped c_tree c_bonds c_moves c_handMoves c_moved c_days c_likely c_outOf c_rateNow c_pence c_top c_bottom c_spot c_textLong c_fault c_number c_numberAt c_figures c_written c_wanted c_found c_drawnNow c_worth c_hold c_way c_acts c_sDay c_sUps c_sUp c_sMarks c_paidAll c_isPlayed c_isOn c_handMoved c_handPaid c_regret w9 c_other c_states c_kept c_keptLong c_keptAt c_isTaking) H := by rw [ew9]; exact hP
        have hD : va_D A (mW dA ad c_tape c_taped c_tree c_bonds c_moves c_handMoves c_moved c_days c_likely c_outOf c_rateNow c_pence c_top c_bottom c_spot c_textLong c_fault c_number c_numberAt c_figures c_written c_wanted c_found c_drawnNow c_worth c_hold c_way c_acts c_sDay c_sUps c_sUp c_sMarks c_paidAll c_isPlayed c_isOn c_handMoved c_handPaid c_regret w9 c_other c_states c_kept c_keptLong c_keptAt c_isTaking) := by rw [ew9]; exact hD
        refine lv_aload_n hx hb dX9_swaps_27 rfl (lv_at hl 1 rfl) ?_
        refine va_get (D := (dC, dI)) (ci := 9) (v := .ref (ad 4)) (C := RX9) (T := TX9) (N := 45) hx hb hts (fun w h => gw_mem (inX9 w h)) hown hK.1 hP 0 rfl rfl 4 (by decide) (hts _ (gw_mem wfX9_20)) (fun _ h9 => h9) rfl dX9_swaps_28 ?_
        refine lv_iload_n hx hb dX9_swaps_31 rfl (lv_at hl 2 rfl) ?_
        refine lv_iload_n hx hb dX9_swaps_32 rfl (lv_at hl 0 rfl) ?_
        obtain ⟨h10, hf⟩ := og_some hf
        obtain ⟨w11, ew11⟩ : ∃ y : Nat → Int32, y = upd c_moves (Int32.toNatClampNeg x1) w6 := ⟨_, rfl⟩
        replace hf := nm_at hf ew11
        refine va_iast hx hb hK.1 hP hD hS 4 0 rfl rfl (okI_in h10) dX9_swaps_33 (fun H locs hP hD hS => ?_)
        have hP : va_P (dC, dI) vwCl (mW dA ad c_tape c_taped c_tree c_bonds w11 c_handMoves c_moved c_days c_likely c_outOf c_rateNow c_pence c_top c_bottom c_spot c_textLong c_fault c_number c_numberAt c_figures c_written c_wanted c_found c_drawnNow c_worth c_hold c_way c_acts c_sDay c_sUps c_sUp c_sMarks c_paidAll c_isPlayed c_isOn c_handMoved c_handPaid c_regret w9 c_other c_states c_kept c_keptLong c_keptAt c_isTaking) H := by rw [ew11]; exact hP
        have hD : va_D A (mW dA ad c_tape c_taped c_tree c_bonds w11 c_handMoves c_moved c_days c_likely c_outOf c_rateNow c_pence c_top c_bottom c_spot c_textLong c_fault c_number c_numberAt c_figures c_written c_wanted c_found c_drawnNow c_worth c_hold c_way c_acts c_sDay c_sUps c_sUp c_sMarks c_paidAll c_isPlayed c_isOn c_handMoved c_handPaid c_regret w9 c_other c_states c_kept c_keptLong c_keptAt c_isTaking) := by rw [ew11]; exact hD
        obtain ⟨w12, ew12⟩ : ∃ y : Int32, y = x1 + 1 := ⟨_, rfl⟩
        replace hf := nm_at hf ew12
        refine lv_iinc (v := w12) (lv' := [(1, .int w12), (2, .int w6), (0, .ref (ad 0))]) hx hb dX9_swaps_34 hl (k := 2) rfl (by rw [ew12]; rfl) (by decide) rfl (fun ls hl => ?_)
        refine lv_goto (tgt := 2) hx hb dX9_swaps_37 (by decide) ?_
        exact ih2 _ _ _ _ _ _ _ _ _ _ _ _ _ _ _ _ _ _ _ _ _ _ _ _ _ _ _ _ _ _ _ _ _ _ _ _ _ _ _ _ _ _ _ _ _ _ _ _ _ _ _ hP hD hS hf (lv_sub hl [2, 0] rfl) hk
  subst hQ
  unfold fX9_swaps at hf
  refine lv_iconst (v := 0) hx hb dX9_swaps_0 (by decide) ?_
  refine lv_istore_n (lv' := [(1, .int 0), (0, .ref (ad 0))]) hx hb dX9_swaps_1 rfl hl (by decide) rfl (fun ls hl => ?_)
  obtain ⟨c_moves_1, c_aside_2, v3, hf⟩ := bd2_some hf
  refine LP2 FU _ _ _ _ _ _ _ _ _ _ _ _ _ _ _ _ _ _ _ _ _ _ _ _ _ _ _ _ _ _ _ _ _ _ _ _ _ _ _ _ _ _ _ _ _ _ _ _ _ _ _ hP hD hS v3 (lv_sub hl [1, 0] rfl) (fun H locs ls hP hD hS hl => ?_)
  cases hf
  exact W.vret hx hb hr (fun t ht _ => gqv hP hD hS ht) hS.2.2 dX9_swaps_40
theorem ccX9_X9_swaps {R : Room} {s : State} {args : Array Value} {c0 : Cond} (ht : ∀ w ∈ wq c0, w.before args s = true) (hR : rmX9_swaps.frames + 1 ≤ R.frames ∧ 8 + (3 + 11) + rmX9_swaps.locals ≤ R.locals) : CallW R s args RX9 RX9 435 yX9_swaps cX9_swaps 3 none (wq (.code yX9_swaps cX9_swaps 3 none)) rmX9_swaps 0 0 0 := gCW 0 ht wcX9_swaps wmX9_435 wiX9_swaps weX9_swaps wnX9 (by decide +kernel) rfl rfl hR
def lpX9_run_55 (x1 : Int32) (x3 : Int32) (x4 : Int64) (x6 : Int32) (c_days : Int32) (c_likely : Int32) (c_outOf : Int32) : Nat → Int32 → (Nat → Int32) → Int32 → Option ((Nat → Int32) × Int32)
  | 0, _, _, _ => none
  | n + 1, x7, c_moves, c_drawnNow => if c_days ≤ x7 then some (c_moves, c_drawnNow) else bd2 (fX9_draw c_outOf c_drawnNow) (fun r50 c_drawnNow_51 => if c_likely ≤ r50 then og (okI x7 6) (nm (upd c_moves (Int32.toNatClampNeg x7) 0) (fun w55 => nm (x7 + 1) (fun w56 => lpX9_run_55 x1 x3 x4 x6 c_days c_likely c_outOf n w56 w55 c_drawnNow_51))) else og (okI x7 6) (nm (upd c_moves (Int32.toNatClampNeg x7) 1) (fun w58 => nm (x7 + 1) (fun w59 => lpX9_run_55 x1 x3 x4 x6 c_days c_likely c_outOf n w59 w58 c_drawnNow_51))))
def lpX9_run_46 (x1 : Int32) (x3 : Int32) (c_bonds : Nat → Int32) (c_days : Int32) (c_likely : Int32) (c_outOf : Int32) (c_pence : Nat → Int64) (c_acts : Nat → Int32) : Nat → Int64 → Int32 → (Nat → Int32) → Int32 → Int32 → Int32 → Int32 → Int32 → Int64 → Option (Int64 × (Nat → Int32) × Int32 × Int32 × Int32 × Int32 × Int32 × Int64)
  | 0, _, _, _, _, _, _, _, _, _ => none
  | n + 1, x4, x6, c_moves, c_drawnNow, c_sDay, c_sUps, c_sUp, c_sMarks, c_paidAll => if x3 ≤ x6 then some (x4, c_moves, c_drawnNow, c_sDay, c_sUps, c_sUp, c_sMarks, c_paidAll) else bd2 (lpX9_run_55 x1 x3 x4 x6 c_days c_likely c_outOf FU 0 c_moves c_drawnNow) (fun c_moves_35 c_drawnNow_36 => bd6 (fX9_endsAlong x1 c_days c_bonds c_moves_35 c_days c_pence c_acts c_sDay c_sUps c_sUp c_sMarks c_paidAll) (fun r38 c_sDay_39 c_sUps_40 c_sUp_41 c_sMarks_42 c_paidAll_43 => if r38 = 0 then nm (x6 + 1) (fun w46 => lpX9_run_46 x1 x3 c_bonds c_days c_likely c_outOf c_pence c_acts n x4 w46 c_moves_35 c_drawnNow_36 c_sDay_39 c_sUps_40 c_sUp_41 c_sMarks_42 c_paidAll_43) else nm (x4 + c_paidAll_43) (fun w47 => nm (x6 + 1) (fun w48 => lpX9_run_46 x1 x3 c_bonds c_days c_likely c_outOf c_pence c_acts n w47 w48 c_moves_35 c_drawnNow_36 c_sDay_39 c_sUps_40 c_sUp_41 c_sMarks_42 c_paidAll_43))))
def fX9_run (p1 : Int32) (p2 : Int32) (p3 : Int32) (c_tree : Nat → Int32) (c_bonds : Nat → Int32) (c_moves : Nat → Int32) (c_days : Int32) (c_likely : Int32) (c_outOf : Int32) (c_rateNow : Int32) (c_pence : Nat → Int64) (c_top : Int64) (c_bottom : Int64) (c_drawnNow : Int32) (c_worth : Nat → Int64) (c_hold : Nat → Int64) (c_acts : Nat → Int32) (c_sDay : Int32) (c_sUps : Int32) (c_sUp : Int32) (c_sMarks : Int32) (c_paidAll : Int64) (c_aside : Nat → Int32) : Option (Int64 × (Nat → Int32) × Int32 × Int32 × Int32 × Int32 × (Nat → Int64) × Int64 × Int64 × Int32 × (Nat → Int64) × (Nat → Int64) × (Nat → Int32) × Int32 × Int32 × Int32 × Int32 × Int64 × (Nat → Int32)) := bd1 (fX9_isBond p1) (fun r1 => if r1 = 0 then some ((-1), c_moves, c_days, c_likely, c_outOf, c_rateNow, c_pence, c_top, c_bottom, c_drawnNow, c_worth, c_hold, c_acts, c_sDay, c_sUps, c_sUp, c_sMarks, c_paidAll, c_aside) else bd1 (fX9_in (Int32.toInt64 p3) 1 100) (fun r4 => if r4 = 0 then some ((-1), c_moves, c_days, c_likely, c_outOf, c_rateNow, c_pence, c_top, c_bottom, c_drawnNow, c_worth, c_hold, c_acts, c_sDay, c_sUps, c_sUp, c_sMarks, c_paidAll, c_aside) else bd10 (fX9_playsNow p1 c_tree c_bonds c_days c_likely c_outOf c_rateNow c_pence c_top c_bottom c_worth c_hold c_acts) (fun c_days_7 c_likely_8 c_outOf_9 c_rateNow_10 c_pence_11 c_top_12 c_bottom_13 c_worth_14 c_hold_15 c_acts_16 => bd2 (fX9_swaps c_moves c_aside) (fun c_moves_18 c_aside_19 => nm (p2 &&& 65535) (fun w21 => bd8 (lpX9_run_46 p1 p3 c_bonds c_days_7 c_likely_8 c_outOf_9 c_pence_11 c_acts_16 FU 0 0 c_moves_18 w21 c_sDay c_sUps c_sUp c_sMarks c_paidAll) (fun x22 c_moves_23 c_drawnNow_24 c_sDay_25 c_sUps_26 c_sUp_27 c_sMarks_28 c_paidAll_29 => bd2 (fX9_swaps c_moves_23 c_aside_19) (fun c_moves_31 c_aside_32 => some (x22, c_moves_31, c_days_7, c_likely_8, c_outOf_9, c_rateNow_10, c_pence_11, c_top_12, c_bottom_13, c_drawnNow_24, c_worth_14, c_hold_15, c_acts_16, c_sDay_25, c_sUps_26, c_sUp_27, c_sMarks_28, c_paidAll_29, c_aside_32))))))))
abbrev rmX9_run : Room := { frames := 7, cells := 0, slots := 0, locals := 184 }
set_option maxHeartbeats 4000000 in
set_option maxRecDepth 100000 in
theorem tX9_run (l : Launch) (dC : Nat → ClassId) (dI : Nat → Nat → Nat) (dA : Nat → ClassId) (ad : Nat → Nat) (sz : Nat) {p1 : Int32} {p2 : Int32} {p3 : Int32} {c_tape : Nat → Int32} {c_taped : Int32} {c_tree : Nat → Int32} {c_bonds : Nat → Int32} {c_moves : Nat → Int32} {c_handMoves : Nat → Int32} {c_moved : Int32} {c_days : Int32} {c_likely : Int32} {c_outOf : Int32} {c_rateNow : Int32} {c_pence : Nat → Int64} {c_top : Int64} {c_bottom : Int64} {c_spot : Int32} {c_textLong : Int32} {c_fault : Int32} {c_number : Int32} {c_numberAt : Int32} {c_figures : Int32} {c_written : Int32} {c_wanted : Int32} {c_found : Int32} {c_drawnNow : Int32} {c_worth : Nat → Int64} {c_hold : Nat → Int64} {c_way : Nat → Int64} {c_acts : Nat → Int32} {c_sDay : Int32} {c_sUps : Int32} {c_sUp : Int32} {c_sMarks : Int32} {c_paidAll : Int64} {c_isPlayed : Int32} {c_isOn : Int32} {c_handMoved : Int32} {c_handPaid : Int64} {c_regret : Int64} {c_aside : Nat → Int32} {c_other : Nat → Int64} {c_states : Int32} {c_kept : Nat → Int32} {c_keptLong : Nat → Int64} {c_keptAt : Int32} {c_isTaking : Int32} {r : Int64} {o_c_moves : Nat → Int32} {o_c_days : Int32} {o_c_likely : Int32} {o_c_outOf : Int32} {o_c_rateNow : Int32} {o_c_pence : Nat → Int64} {o_c_top : Int64} {o_c_bottom : Int64} {o_c_drawnNow : Int32} {o_c_worth : Nat → Int64} {o_c_hold : Nat → Int64} {o_c_acts : Nat → Int32} {o_c_sDay : Int32} {o_c_sUps : Int32} {o_c_sUp : Int32} {o_c_sMarks : Int32} {o_c_paidAll : Int64} {o_c_aside : Nat → Int32} (hf : fX9_run p1 p2 p3 c_tree c_bonds c_moves c_days c_likely c_outOf c_rateNow c_pence c_top c_bottom c_drawnNow c_worth c_hold c_acts c_sDay c_sUps c_sUp c_sMarks c_paidAll c_aside = some (r, o_c_moves, o_c_days, o_c_likely, o_c_outOf, o_c_rateNow, o_c_pence, o_c_top, o_c_bottom, o_c_drawnNow, o_c_worth, o_c_hold, o_c_acts, o_c_sDay, o_c_sUps, o_c_sUp, o_c_sMarks, o_c_paidAll, o_c_aside)) : Met l yX9_run (wq (Cond.code yX9_run cX9_run 8 (some .long))) rmX9_run (gP [.ref (ad 0), .int p1, .int p2, .int p3] (dC, dI) dA (mW dA ad c_tape c_taped c_tree c_bonds c_moves c_handMoves c_moved c_days c_likely c_outOf c_rateNow c_pence c_top c_bottom c_spot c_textLong c_fault c_number c_numberAt c_figures c_written c_wanted c_found c_drawnNow c_worth c_hold c_way c_acts c_sDay c_sUps c_sUp c_sMarks c_paidAll c_isPlayed c_isOn c_handMoved c_handPaid c_regret c_aside c_other c_states c_kept c_keptLong c_keptAt c_isTaking) sz) (gQl (dC, dI) r (mW dA ad c_tape c_taped c_tree c_bonds o_c_moves c_handMoves c_moved o_c_days o_c_likely o_c_outOf o_c_rateNow o_c_pence o_c_top o_c_bottom c_spot c_textLong c_fault c_number c_numberAt c_figures c_written c_wanted c_found o_c_drawnNow o_c_worth o_c_hold c_way o_c_acts o_c_sDay o_c_sUps o_c_sUp o_c_sMarks o_c_paidAll c_isPlayed c_isOn c_handMoved c_handPaid c_regret o_c_aside c_other c_states c_kept c_keptLong c_keptAt c_isTaking) (va_A (mW dA ad c_tape c_taped c_tree c_bonds c_moves c_handMoves c_moved c_days c_likely c_outOf c_rateNow c_pence c_top c_bottom c_spot c_textLong c_fault c_number c_numberAt c_figures c_written c_wanted c_found c_drawnNow c_worth c_hold c_way c_acts c_sDay c_sUps c_sUp c_sMarks c_paidAll c_isPlayed c_isOn c_handMoved c_handPaid c_regret c_aside c_other c_states c_kept c_keptLong c_keptAt c_isTaking) sz)) 0 0 (va_A (mW dA ad c_tape c_taped c_tree c_bonds c_moves c_handMoves c_moved c_days c_likely c_outOf c_rateNow c_pence c_top c_bottom c_spot c_textLong c_fault c_number c_numberAt c_figures c_written c_wanted c_found c_drawnNow c_worth c_hold c_way c_acts c_sDay c_sUps c_sUp c_sMarks c_paidAll c_isPlayed c_isOn c_handMoved c_handPaid c_regret c_aside c_other c_states c_kept c_keptLong c_keptAt c_isTaking) sz) := by
  refine Met.ofW (cc := cX9_run) (maxL := 8) (ret := (some .long)) (by decide) rfl ?_
  intro p e s m args below meth c s₁ B hml hv
  obtain ⟨rfl, hsz, hP, hK, hD0⟩ := hv
  have hx := B.exec
  have hb := B.bytes
  have hr := B.returns
  have hts := atoms_spec (ws := wq (Cond.code yX9_run cX9_run 8 (some .long))) B.pre
  have hown : s.vm.findClass RX9 = some m.cls := findClass_of_methodNamed B.named
  have hlocks := B.notSynchronized
  clear B
  subst hsz
  have hD := hD0.self (sz := s.heap.size)
  generalize hAe : va_A (mW dA ad c_tape c_taped c_tree c_bonds c_moves c_handMoves c_moved c_days c_likely c_outOf c_rateNow c_pence c_top c_bottom c_spot c_textLong c_fault c_number c_numberAt c_figures c_written c_wanted c_found c_drawnNow c_worth c_hold c_way c_acts c_sDay c_sUps c_sUp c_sMarks c_paidAll c_isPlayed c_isOn c_handMoved c_handPaid c_regret c_aside c_other c_states c_kept c_keptLong c_keptAt c_isTaking) s.heap.size = A at hD ⊢
  have hA : ∀ q : Nat, s.heap.size ≤ q → A q := fun q h => by rw [← hAe]; exact Or.inr h
  clear hAe hD0
  have hS : va_S A s.heap s.heap [] := va_S.rf
  have hl := lv_entry ([.ref (ad 0), .int p1, .int p2, .int p3]) (n := 8) (Nat.le_of_ble_eq_true rfl)
  rw [lg_entry_eq]
  generalize (lg_sl ([.ref (ad 0), .int p1, .int p2, .int p3]) ++ List.replicate (8 - (lg_sl ([.ref (ad 0), .int p1, .int p2, .int p3])).length) Slot.unset).toArray = ls at hl ⊢
  have hl : lv_has ls 8 [(0, .ref (ad 0)), (1, .int p1), (2, .int p2), (3, .int p3)] := hl
  change W p l e rmX9_run s m ([.ref (ad 0), .int p1, .int p2, .int p3] : List Value).toArray below meth c s.heap [] 0 0 _ _
  generalize hQ : MQ below (gQl (dC, dI) r (mW dA ad c_tape c_taped c_tree c_bonds o_c_moves c_handMoves c_moved o_c_days o_c_likely o_c_outOf o_c_rateNow o_c_pence o_c_top o_c_bottom c_spot c_textLong c_fault c_number c_numberAt c_figures c_written c_wanted c_found o_c_drawnNow o_c_worth o_c_hold c_way o_c_acts o_c_sDay o_c_sUps o_c_sUp o_c_sMarks o_c_paidAll c_isPlayed c_isOn c_handMoved c_handPaid c_regret o_c_aside c_other c_states c_kept c_keptLong c_keptAt c_isTaking) A) ([.ref (ad 0), .int p1, .int p2, .int p3] : List Value).toArray s 0 0 A = Q
  have LP55 : ∀ (n : Nat) (x1 : Int32) (x3 : Int32) (x4 : Int64) (x6 : Int32) (c_days : Int32) (c_likely : Int32) (c_outOf : Int32) (c_tape : Nat → Int32) (c_taped : Int32) (c_tree : Nat → Int32) (c_bonds : Nat → Int32) (c_handMoves : Nat → Int32) (c_moved : Int32) (c_rateNow : Int32) (c_pence : Nat → Int64) (c_top : Int64) (c_bottom : Int64) (c_spot : Int32) (c_textLong : Int32) (c_fault : Int32) (c_number : Int32) (c_numberAt : Int32) (c_figures : Int32) (c_written : Int32) (c_wanted : Int32) (c_found : Int32) (c_worth : Nat → Int64) (c_hold : Nat → Int64) (c_way : Nat → Int64) (c_acts : Nat → Int32) (c_sDay : Int32) (c_sUps : Int32) (c_sUp : Int32) (c_sMarks : Int32) (c_paidAll : Int64) (c_isPlayed : Int32) (c_isOn : Int32) (c_handMoved : Int32) (c_handPaid : Int64) (c_regret : Int64) (c_aside : Nat → Int32) (c_other : Nat → Int64) (c_states : Int32) (c_kept : Nat → Int32) (c_keptLong : Nat → Int64) (c_keptAt : Int32) (c_isTaking : Int32) (x7 : Int32) (c_moves : Nat → Int32) (c_drawnNow : Int32) (o_c_moves : Nat → Int32) (o_c_drawnNow : Int32) (H : Heap) (locs : List Loc) (ls : Array Slot), va_P (dC, dI) vwCl (mW dA ad c_tape c_taped c_tree c_bonds c_moves c_handMoves c_moved c_days c_likely c_outOf c_rateNow c_pence c_top c_bottom c_spot c_textLong c_fault c_number c_numberAt c_figures c_written c_wanted c_found c_drawnNow c_worth c_hold c_way c_acts c_sDay c_sUps c_sUp c_sMarks c_paidAll c_isPlayed c_isOn c_handMoved c_handPaid c_regret c_aside c_other c_states c_kept c_keptLong c_keptAt c_isTaking) H → va_D A (mW dA ad c_tape c_taped c_tree c_bonds c_moves c_handMoves c_moved c_days c_likely c_outOf c_rateNow c_pence c_top c_bottom c_spot c_textLong c_fault c_number c_numberAt c_figures c_written c_wanted c_found c_drawnNow c_worth c_hold c_way c_acts c_sDay c_sUps c_sUp c_sMarks c_paidAll c_isPlayed c_isOn c_handMoved c_handPaid c_regret c_aside c_other c_states c_kept c_keptLong c_keptAt c_isTaking) → va_S A s.heap H locs → lpX9_run_55 x1 x3 x4 x6 c_days c_likely c_outOf n x7 c_moves c_drawnNow = some (o_c_moves, o_c_drawnNow) → lv_has ls 8 [(0, .ref (ad 0)), (1, .int x1), (3, .int x3), (4, .long x4), (6, .int x6), (7, .int x7)] → (∀ (H : Heap) (locs : List Loc) (ls : Array Slot), va_P (dC, dI) vwCl (mW dA ad c_tape c_taped c_tree c_bonds o_c_moves c_handMoves c_moved c_days c_likely c_outOf c_rateNow c_pence c_top c_bottom c_spot c_textLong c_fault c_number c_numberAt c_figures c_written c_wanted c_found o_c_drawnNow c_worth c_hold c_way c_acts c_sDay c_sUps c_sUp c_sMarks c_paidAll c_isPlayed c_isOn c_handMoved c_handPaid c_regret c_aside c_other c_states c_kept c_keptLong c_keptAt c_isTaking) H → va_D A (mW dA ad c_tape c_taped c_tree c_bonds o_c_moves c_handMoves c_moved c_days c_likely c_outOf c_rateNow c_pence c_top c_bottom c_spot c_textLong c_fault c_number c_numberAt c_figures c_written c_wanted c_found o_c_drawnNow c_worth c_hold c_way c_acts c_sDay c_sUps c_sUp c_sMarks c_paidAll c_isPlayed c_isOn c_handMoved c_handPaid c_regret c_aside c_other c_states c_kept c_keptLong c_keptAt c_isTaking) → va_S A s.heap H locs → lv_has ls 8 [(0, .ref (ad 0)), (1, .int x1), (3, .int x3), (4, .long x4), (6, .int x6)] → W p l e rmX9_run s m ([.ref (ad 0), .int p1, .int p2, .int p3] : List Value).toArray below meth c H locs 0 0 Q (F0 m 97 ls [])) → W p l e rmX9_run s m ([.ref (ad 0), .int p1, .int p2, .int p3] : List Value).toArray below meth c H locs 0 0 Q (F0 m 55 ls []) := by
    intro n
    induction n with
    | zero =>
      intro x1 x3 x4 x6 c_days c_likely c_outOf c_tape c_taped c_tree c_bonds c_handMoves c_moved c_rateNow c_pence c_top c_bottom c_spot c_textLong c_fault c_number c_numberAt c_figures c_written c_wanted c_found c_worth c_hold c_way c_acts c_sDay c_sUps c_sUp c_sMarks c_paidAll c_isPlayed c_isOn c_handMoved c_handPaid c_regret c_aside c_other c_states c_kept c_keptLong c_keptAt c_isTaking x7 c_moves c_drawnNow o_c_moves o_c_drawnNow H locs ls hP hD hS hf hl hk
      cases hf
    | succ n ih55 =>
      intro x1 x3 x4 x6 c_days c_likely c_outOf c_tape c_taped c_tree c_bonds c_handMoves c_moved c_rateNow c_pence c_top c_bottom c_spot c_textLong c_fault c_number c_numberAt c_figures c_written c_wanted c_found c_worth c_hold c_way c_acts c_sDay c_sUps c_sUp c_sMarks c_paidAll c_isPlayed c_isOn c_handMoved c_handPaid c_regret c_aside c_other c_states c_kept c_keptLong c_keptAt c_isTaking x7 c_moves c_drawnNow o_c_moves o_c_drawnNow H locs ls hP hD hS hf hl hk
      rw [lpX9_run_55.eq_2] at hf
      refine lv_iload hx hb dX9_run_55 (lv_at hl 5 rfl) ?_
      refine lv_aload_n hx hb dX9_run_57 rfl (lv_at hl 0 rfl) ?_
      refine va_get (D := (dC, dI)) (ci := 9) (v := .int c_days) (C := RX9) (T := TX9) (N := 45) hx hb hts (fun w h => gw_mem (inX9 w h)) hown hK.1 hP 0 rfl rfl 7 (by decide) (hts _ (gw_mem wfX9_94)) (fun _ h9 => h9) rfl dX9_run_58 ?_
      refine lv_icmp_ge (tgt := 97) hx hb dX9_run_61 (by decide) (fun k49 => ?_) (fun k49 => ?_)
      · replace hf := ifp k49 hf
        cases hf
        exact hk _ _ _ hP hD hS (lv_sub hl [0, 1, 2, 3, 4] rfl)
      · replace hf := ifn k49 hf
        refine lv_aload_n hx hb dX9_run_64 rfl (lv_at hl 0 rfl) ?_
        refine va_get (D := (dC, dI)) (ci := 9) (v := .ref (ad 4)) (C := RX9) (T := TX9) (N := 45) hx hb hts (fun w h => gw_mem (inX9 w h)) hown hK.1 hP 0 rfl rfl 4 (by decide) (hts _ (gw_mem wfX9_20)) (fun _ h9 => h9) rfl dX9_run_65 ?_
        refine lv_iload hx hb dX9_run_68 (lv_at hl 5 rfl) ?_
        refine lv_aload_n hx hb dX9_run_70 rfl (lv_at hl 0 rfl) ?_
        refine lv_aload_n hx hb dX9_run_71 rfl (lv_at hl 0 rfl) ?_
        refine va_get (D := (dC, dI)) (ci := 9) (v := .int c_outOf) (C := RX9) (T := TX9) (N := 45) hx hb hts (fun w h => gw_mem (inX9 w h)) hown hK.1 hP 0 rfl rfl 9 (by decide) (hts _ (gw_mem wfX9_100)) (fun _ h9 => h9) rfl dX9_run_72 ?_
        obtain ⟨r50, c_drawnNow_51, v52, hf⟩ := bd2_some hf
        refine gci (va_runV (As := [.int c_outOf]) (rest := [.int x7, .ref (ad 4)]) ⟨hx, hb, hml, hown, hts⟩ (tX9_draw l dC dI dA ad H.size v52) (ccX9_X9_draw hts ⟨Nat.le_of_ble_eq_true rfl, Nat.le_of_ble_eq_true rfl⟩) (gPreV (ci := 9) (q0 := 0) hP hK hD rfl rfl) rfl rfl hl.1 rfl (lv_room (Nat.le_of_ble_eq_true rfl)) dX9_run_75 ⟨Nat.le_of_ble_eq_true rfl, Nat.le_of_ble_eq_true rfl⟩) hD hS hA (fun H locs hP hD hS => ?_)
        refine lv_aload_n hx hb dX9_run_78 rfl (lv_at hl 0 rfl) ?_
        refine va_get (D := (dC, dI)) (ci := 9) (v := .int c_likely) (C := RX9) (T := TX9) (N := 45) hx hb hts (fun w h => gw_mem (inX9 w h)) hown hK.1 hP 0 rfl rfl 8 (by decide) (hts _ (gw_mem wfX9_97)) (fun _ h9 => h9) rfl dX9_run_79 ?_
        refine lv_icmp_ge (tgt := 89) hx hb dX9_run_82 (by decide) (fun k53 => ?_) (fun k53 => ?_)
        · replace hf := ifp k53 hf
          refine lv_iconst (v := 0) hx hb dX9_run_89 (by decide) ?_
          obtain ⟨h54, hf⟩ := og_some hf
          obtain ⟨w55, ew55⟩ : ∃ y : Nat → Int32, y = upd c_moves (Int32.toNatClampNeg x7) 0 := ⟨_, rfl⟩
          replace hf := nm_at hf ew55
          refine va_iast hx hb hK.1 hP hD hS 4 0 rfl rfl (okI_in h54) dX9_run_90 (fun H locs hP hD hS => ?_)
          have hP : va_P (dC, dI) vwCl (mW dA ad c_tape c_taped c_tree c_bonds w55 c_handMoves c_moved c_days c_likely c_outOf c_rateNow c_pence c_top c_bottom c_spot c_textLong c_fault c_number c_numberAt c_figures c_written c_wanted c_found c_drawnNow_51 c_worth c_hold c_way c_acts c_sDay c_sUps c_sUp c_sMarks c_paidAll c_isPlayed c_isOn c_handMoved c_handPaid c_regret c_aside c_other c_states c_kept c_keptLong c_keptAt c_isTaking) H := by rw [ew55]; exact hP
          have hD : va_D A (mW dA ad c_tape c_taped c_tree c_bonds w55 c_handMoves c_moved c_days c_likely c_outOf c_rateNow c_pence c_top c_bottom c_spot c_textLong c_fault c_number c_numberAt c_figures c_written c_wanted c_found c_drawnNow_51 c_worth c_hold c_way c_acts c_sDay c_sUps c_sUp c_sMarks c_paidAll c_isPlayed c_isOn c_handMoved c_handPaid c_regret c_aside c_other c_states c_kept c_keptLong c_keptAt c_isTaking) := by rw [ew55]; exact hD
          obtain ⟨w56, ew56⟩ : ∃ y : Int32, y = x7 + 1 := ⟨_, rfl⟩
          replace hf := nm_at hf ew56
          refine lv_iinc (v := w56) (lv' := [(7, .int w56), (0, .ref (ad 0)), (1, .int x1), (3, .int x3), (4, .long x4), (6, .int x6)]) hx hb dX9_run_91 hl (k := 5) rfl (by rw [ew56]; rfl) (by decide) rfl (fun ls hl => ?_)
          refine lv_goto (tgt := 55) hx hb dX9_run_94 (by decide) ?_
          exact ih55 _ _ _ _ _ _ _ _ _ _ _ _ _ _ _ _ _ _ _ _ _ _ _ _ _ _ _ _ _ _ _ _ _ _ _ _ _ _ _ _ _ _ _ _ _ _ _ _ _ _ _ _ _ _ _ hP hD hS hf (lv_sub hl [1, 2, 3, 4, 5, 0] rfl) hk
        · replace hf := ifn k53 hf
          refine lv_iconst (v := 1) hx hb dX9_run_85 (by decide) ?_
          refine lv_goto (tgt := 90) hx hb dX9_run_86 (by decide) ?_
          obtain ⟨h57, hf⟩ := og_some hf
          obtain ⟨w58, ew58⟩ : ∃ y : Nat → Int32, y = upd c_moves (Int32.toNatClampNeg x7) 1 := ⟨_, rfl⟩
          replace hf := nm_at hf ew58
          refine va_iast hx hb hK.1 hP hD hS 4 0 rfl rfl (okI_in h57) dX9_run_90 (fun H locs hP hD hS => ?_)
          have hP : va_P (dC, dI) vwCl (mW dA ad c_tape c_taped c_tree c_bonds w58 c_handMoves c_moved c_days c_likely c_outOf c_rateNow c_pence c_top c_bottom c_spot c_textLong c_fault c_number c_numberAt c_figures c_written c_wanted c_found c_drawnNow_51 c_worth c_hold c_way c_acts c_sDay c_sUps c_sUp c_sMarks c_paidAll c_isPlayed c_isOn c_handMoved c_handPaid c_regret c_aside c_other c_states c_kept c_keptLong c_keptAt c_isTaking) H := by rw [ew58]; exact hP
          have hD : va_D A (mW dA ad c_tape c_taped c_tree c_bonds w58 c_handMoves c_moved c_days c_likely c_outOf c_rateNow c_pence c_top c_bottom c_spot c_textLong c_fault c_number c_numberAt c_figures c_written c_wanted c_found c_drawnNow_51 c_worth c_hold c_way c_acts c_sDay c_sUps c_sUp c_sMarks c_paidAll c_isPlayed c_isOn c_handMoved c_handPaid c_regret c_aside c_other c_states c_kept c_keptLong c_keptAt c_isTaking) := by rw [ew58]; exact hD
          obtain ⟨w59, ew59⟩ : ∃ y : Int32, y = x7 + 1 := ⟨_, rfl⟩
          replace hf := nm_at hf ew59
          refine lv_iinc (v := w59) (lv' := [(7, .int w59), (0, .ref (ad 0)), (1, .int x1), (3, .int x3), (4, .long x4), (6, .int x6)]) hx hb dX9_run_91 hl (k := 5) rfl (by rw [ew59]; rfl) (by decide) rfl (fun ls hl => ?_)
          refine lv_goto (tgt := 55) hx hb dX9_run_94 (by decide) ?_
          exact ih55 _ _ _ _ _ _ _ _ _ _ _ _ _ _ _ _ _ _ _ _ _ _ _ _ _ _ _ _ _ _ _ _ _ _ _ _ _ _ _ _ _ _ _ _ _ _ _ _ _ _ _ _ _ _ _ hP hD hS hf (lv_sub hl [1, 2, 3, 4, 5, 0] rfl) hk
  have LP46 : ∀ (n : Nat) (x1 : Int32) (x3 : Int32) (c_bonds : Nat → Int32) (c_days : Int32) (c_likely : Int32) (c_outOf : Int32) (c_pence : Nat → Int64) (c_acts : Nat → Int32) (c_tape : Nat → Int32) (c_taped : Int32) (c_tree : Nat → Int32) (c_handMoves : Nat → Int32) (c_moved : Int32) (c_rateNow : Int32) (c_top : Int64) (c_bottom : Int64) (c_spot : Int32) (c_textLong : Int32) (c_fault : Int32) (c_number : Int32) (c_numberAt : Int32) (c_figures : Int32) (c_written : Int32) (c_wanted : Int32) (c_found : Int32) (c_worth : Nat → Int64) (c_hold : Nat → Int64) (c_way : Nat → Int64) (c_isPlayed : Int32) (c_isOn : Int32) (c_handMoved : Int32) (c_handPaid : Int64) (c_regret : Int64) (c_aside : Nat → Int32) (c_other : Nat → Int64) (c_states : Int32) (c_kept : Nat → Int32) (c_keptLong : Nat → Int64) (c_keptAt : Int32) (c_isTaking : Int32) (x4 : Int64) (x6 : Int32) (c_moves : Nat → Int32) (c_drawnNow : Int32) (c_sDay : Int32) (c_sUps : Int32) (c_sUp : Int32) (c_sMarks : Int32) (c_paidAll : Int64) (o4 : Int64) (o_c_moves : Nat → Int32) (o_c_drawnNow : Int32) (o_c_sDay : Int32) (o_c_sUps : Int32) (o_c_sUp : Int32) (o_c_sMarks : Int32) (o_c_paidAll : Int64) (H : Heap) (locs : List Loc) (ls : Array Slot), va_P (dC, dI) vwCl (mW dA ad c_tape c_taped c_tree c_bonds c_moves c_handMoves c_moved c_days c_likely c_outOf c_rateNow c_pence c_top c_bottom c_spot c_textLong c_fault c_number c_numberAt c_figures c_written c_wanted c_found c_drawnNow c_worth c_hold c_way c_acts c_sDay c_sUps c_sUp c_sMarks c_paidAll c_isPlayed c_isOn c_handMoved c_handPaid c_regret c_aside c_other c_states c_kept c_keptLong c_keptAt c_isTaking) H → va_D A (mW dA ad c_tape c_taped c_tree c_bonds c_moves c_handMoves c_moved c_days c_likely c_outOf c_rateNow c_pence c_top c_bottom c_spot c_textLong c_fault c_number c_numberAt c_figures c_written c_wanted c_found c_drawnNow c_worth c_hold c_way c_acts c_sDay c_sUps c_sUp c_sMarks c_paidAll c_isPlayed c_isOn c_handMoved c_handPaid c_regret c_aside c_other c_states c_kept c_keptLong c_keptAt c_isTaking) → va_S A s.heap H locs → lpX9_run_46 x1 x3 c_bonds c_days c_likely c_outOf c_pence c_acts n x4 x6 c_moves c_drawnNow c_sDay c_sUps c_sUp c_sMarks c_paidAll = some (o4, o_c_moves, o_c_drawnNow, o_c_sDay, o_c_sUps, o_c_sUp, o_c_sMarks, o_c_paidAll) → lv_has ls 8 [(0, .ref (ad 0)), (1, .int x1), (3, .int x3), (4, .long x4), (6, .int x6)] → (∀ (H : Heap) (locs : List Loc) (ls : Array Slot), va_P (dC, dI) vwCl (mW dA ad c_tape c_taped c_tree c_bonds o_c_moves c_handMoves c_moved c_days c_likely c_outOf c_rateNow c_pence c_top c_bottom c_spot c_textLong c_fault c_number c_numberAt c_figures c_written c_wanted c_found o_c_drawnNow c_worth c_hold c_way c_acts o_c_sDay o_c_sUps o_c_sUp o_c_sMarks o_c_paidAll c_isPlayed c_isOn c_handMoved c_handPaid c_regret c_aside c_other c_states c_kept c_keptLong c_keptAt c_isTaking) H → va_D A (mW dA ad c_tape c_taped c_tree c_bonds o_c_moves c_handMoves c_moved c_days c_likely c_outOf c_rateNow c_pence c_top c_bottom c_spot c_textLong c_fault c_number c_numberAt c_figures c_written c_wanted c_found o_c_drawnNow c_worth c_hold c_way c_acts o_c_sDay o_c_sUps o_c_sUp o_c_sMarks o_c_paidAll c_isPlayed c_isOn c_handMoved c_handPaid c_regret c_aside c_other c_states c_kept c_keptLong c_keptAt c_isTaking) → va_S A s.heap H locs → lv_has ls 8 [(0, .ref (ad 0)), (4, .long o4)] → W p l e rmX9_run s m ([.ref (ad 0), .int p1, .int p2, .int p3] : List Value).toArray below meth c H locs 0 0 Q (F0 m 133 ls [])) → W p l e rmX9_run s m ([.ref (ad 0), .int p1, .int p2, .int p3] : List Value).toArray below meth c H locs 0 0 Q (F0 m 46 ls []) := by
    intro n
    induction n with
    | zero =>
      intro x1 x3 c_bonds c_days c_likely c_outOf c_pence c_acts c_tape c_taped c_tree c_handMoves c_moved c_rateNow c_top c_bottom c_spot c_textLong c_fault c_number c_numberAt c_figures c_written c_wanted c_found c_worth c_hold c_way c_isPlayed c_isOn c_handMoved c_handPaid c_regret c_aside c_other c_states c_kept c_keptLong c_keptAt c_isTaking x4 x6 c_moves c_drawnNow c_sDay c_sUps c_sUp c_sMarks c_paidAll o4 o_c_moves o_c_drawnNow o_c_sDay o_c_sUps o_c_sUp o_c_sMarks o_c_paidAll H locs ls hP hD hS hf hl hk
      cases hf
    | succ n ih46 =>
      intro x1 x3 c_bonds c_days c_likely c_outOf c_pence c_acts c_tape c_taped c_tree c_handMoves c_moved c_rateNow c_top c_bottom c_spot c_textLong c_fault c_number c_numberAt c_figures c_written c_wanted c_found c_worth c_hold c_way c_isPlayed c_isOn c_handMoved c_handPaid c_regret c_aside c_other c_states c_kept c_keptLong c_keptAt c_isTaking x4 x6 c_moves c_drawnNow c_sDay c_sUps c_sUp c_sMarks c_paidAll o4 o_c_moves o_c_drawnNow o_c_sDay o_c_sUps o_c_sUp o_c_sMarks o_c_paidAll H locs ls hP hD hS hf hl hk
      rw [lpX9_run_46.eq_2] at hf
      refine lv_iload hx hb dX9_run_46 (lv_at hl 4 rfl) ?_
      refine lv_iload_n hx hb dX9_run_48 rfl (lv_at hl 2 rfl) ?_
      refine lv_icmp_ge (tgt := 133) hx hb dX9_run_49 (by decide) (fun k34 => ?_) (fun k34 => ?_)
      · replace hf := ifp k34 hf
        cases hf
        exact hk _ _ _ hP hD hS (lv_sub hl [0, 3] rfl)
      · replace hf := ifn k34 hf
        refine lv_iconst (v := 0) hx hb dX9_run_52 (by decide) ?_
        refine lv_istore (lv' := [(7, .int 0), (0, .ref (ad 0)), (1, .int x1), (3, .int x3), (4, .long x4), (6, .int x6)]) hx hb dX9_run_53 hl (by decide) rfl (fun ls hl => ?_)
        obtain ⟨c_moves_35, c_drawnNow_36, v37, hf⟩ := bd2_some hf
        refine LP55 FU _ _ _ _ _ _ _ _ _ _ _ _ _ _ _ _ _ _ _ _ _ _ _ _ _ _ _ _ _ _ _ _ _ _ _ _ _ _ _ _ _ _ _ _ _ _ _ _ _ _ _ _ _ _ _ hP hD hS v37 (lv_sub hl [1, 2, 3, 4, 5, 0] rfl) (fun H locs ls hP hD hS hl => ?_)
        refine lv_aload_n hx hb dX9_run_97 rfl (lv_at hl 0 rfl) ?_
        refine lv_iload_n hx hb dX9_run_98 rfl (lv_at hl 1 rfl) ?_
        refine lv_aload_n hx hb dX9_run_99 rfl (lv_at hl 0 rfl) ?_
        refine va_get (D := (dC, dI)) (ci := 9) (v := .int c_days) (C := RX9) (T := TX9) (N := 45) hx hb hts (fun w h => gw_mem (inX9 w h)) hown hK.1 hP 0 rfl rfl 7 (by decide) (hts _ (gw_mem wfX9_94)) (fun _ h9 => h9) rfl dX9_run_100 ?_
        obtain ⟨r38, c_sDay_39, c_sUps_40, c_sUp_41, c_sMarks_42, c_paidAll_43, v44, hf⟩ := bd6_some hf
        refine gci (va_runV (As := [.int x1, .int c_days]) (rest := []) ⟨hx, hb, hml, hown, hts⟩ (tX9_endsAlong l dC dI dA ad H.size v44) (ccX9_X9_endsAlong hts ⟨Nat.le_of_ble_eq_true rfl, Nat.le_of_ble_eq_true rfl⟩) (gPreV (ci := 9) (q0 := 0) hP hK hD rfl rfl) rfl rfl hl.1 rfl (lv_room (Nat.le_of_ble_eq_true rfl)) dX9_run_103 ⟨Nat.le_of_ble_eq_true rfl, Nat.le_of_ble_eq_true rfl⟩) hD hS hA (fun H locs hP hD hS => ?_)
        refine lv_istore (lv' := [(7, .int r38), (0, .ref (ad 0)), (1, .int x1), (3, .int x3), (4, .long x4), (6, .int x6)]) hx hb dX9_run_106 hl (by decide) rfl (fun ls hl => ?_)
        refine lv_iload hx hb dX9_run_108 (lv_at hl 0 rfl) ?_
        refine lv_if_eq (tgt := 123) hx hb dX9_run_110 (by decide) (fun k45 => ?_) (fun k45 => ?_)
        · replace hf := ifp k45 hf
          refine lv_lload hx hb dX9_run_123 (lv_at hl 4 rfl) ?_
          refine lv_lstore (lv' := [(4, .long x4), (7, .int r38), (0, .ref (ad 0)), (1, .int x1), (3, .int x3), (6, .int x6)]) hx hb dX9_run_125 hl (by decide) rfl (fun ls hl => ?_)
          obtain ⟨w46, ew46⟩ : ∃ y : Int32, y = x6 + 1 := ⟨_, rfl⟩
          replace hf := nm_at hf ew46
          refine lv_iinc (v := w46) (lv' := [(6, .int w46), (4, .long x4), (7, .int r38), (0, .ref (ad 0)), (1, .int x1), (3, .int x3)]) hx hb dX9_run_127 hl (k := 5) rfl (by rw [ew46]; rfl) (by decide) rfl (fun ls hl => ?_)
          refine lv_goto (tgt := 46) hx hb dX9_run_130 (by decide) ?_
          exact ih46 _ _ _ _ _ _ _ _ _ _ _ _ _ _ _ _ _ _ _ _ _ _ _ _ _ _ _ _ _ _ _ _ _ _ _ _ _ _ _ _ _ _ _ _ _ _ _ _ _ _ _ _ _ _ _ _ _ _ _ _ hP hD hS hf (lv_sub hl [3, 4, 5, 1, 0] rfl) hk
        · replace hf := ifn k45 hf
          refine lv_lload hx hb dX9_run_113 (lv_at hl 4 rfl) ?_
          refine lv_aload_n hx hb dX9_run_115 rfl (lv_at hl 1 rfl) ?_
          refine va_get (D := (dC, dI)) (ci := 9) (v := .long c_paidAll_43) (C := RX9) (T := TX9) (N := 45) hx hb hts (fun w h => gw_mem (inX9 w h)) hown hK.1 hP 0 rfl rfl 32 (by decide) (hts _ (gw_mem wfX9_345)) (fun _ h9 => h9) rfl dX9_run_116 ?_
          refine lv_ladd hx hb dX9_run_119 ?_
          refine lv_goto (tgt := 125) hx hb dX9_run_120 (by decide) ?_
          refine lv_topl (fun w47 ew47 => ?_)
          replace hf := nm_at hf ew47
          refine lv_lstore (lv' := [(4, .long w47), (7, .int r38), (0, .ref (ad 0)), (1, .int x1), (3, .int x3), (6, .int x6)]) hx hb dX9_run_125 hl (by decide) rfl (fun ls hl => ?_)
          obtain ⟨w48, ew48⟩ : ∃ y : Int32, y = x6 + 1 := ⟨_, rfl⟩
          replace hf := nm_at hf ew48
          refine lv_iinc (v := w48) (lv' := [(6, .int w48), (4, .long w47), (7, .int r38), (0, .ref (ad 0)), (1, .int x1), (3, .int x3)]) hx hb dX9_run_127 hl (k := 5) rfl (by rw [ew48]; rfl) (by decide) rfl (fun ls hl => ?_)
          refine lv_goto (tgt := 46) hx hb dX9_run_130 (by decide) ?_
          exact ih46 _ _ _ _ _ _ _ _ _ _ _ _ _ _ _ _ _ _ _ _ _ _ _ _ _ _ _ _ _ _ _ _ _ _ _ _ _ _ _ _ _ _ _ _ _ _ _ _ _ _ _ _ _ _ _ _ _ _ _ _ hP hD hS hf (lv_sub hl [3, 4, 5, 1, 0] rfl) hk
  subst hQ
  unfold fX9_run at hf
  refine lv_iload_n hx hb dX9_run_0 rfl (lv_at hl 1 rfl) ?_
  obtain ⟨r1, v2, hf⟩ := bd1_some hf
  refine gci0 (va_runS (As := [.int p1]) (rest := []) ⟨hx, hb, hml, hown, hts⟩ (tX9_isBond l dC dI dA s.heap.size v2) (ccX9_X9_isBond hts ⟨Nat.le_of_ble_eq_true rfl, Nat.le_of_ble_eq_true rfl⟩) (gPreS0 hK) rfl rfl hl.1 rfl (lv_room (Nat.le_of_ble_eq_true rfl)) dX9_run_1 ⟨Nat.le_of_ble_eq_true rfl, Nat.le_of_ble_eq_true rfl⟩) hP hS hA (fun H locs hP hS => ?_)
  refine lv_if_eq (tgt := 19) hx hb dX9_run_4 (by decide) (fun k3 => ?_) (fun k3 => ?_)
  · replace hf := ifp k3 hf
    refine lv_ldc2 (v := (-1)) hx hb hown (hts _ (gw_mem wkX9_116)) dX9_run_19 ?_
    cases hf
    exact W.lret hx hb hr (fun t ht _ => gql hP hD hS ht) hS.2.2 dX9_run_22
  · replace hf := ifn k3 hf
    refine lv_iload_n hx hb dX9_run_7 rfl (lv_at hl 3 rfl) ?_
    refine lv_i2l hx hb dX9_run_8 rfl ?_
    refine lv_lconst (v := 1) hx hb dX9_run_9 rfl ?_
    refine lv_ldc2 (v := 100) hx hb hown (hts _ (gw_mem wkX9_110)) dX9_run_10 ?_
    obtain ⟨r4, v5, hf⟩ := bd1_some hf
    refine gci0 (va_runS (As := [.long (Int32.toInt64 p3), .long 1, .long 100]) (rest := []) ⟨hx, hb, hml, hown, hts⟩ (tX9_in l dC dI dA H.size v5) (ccX9_X9_in hts ⟨Nat.le_of_ble_eq_true rfl, Nat.le_of_ble_eq_true rfl⟩) (gPreS0 hK) rfl rfl hl.1 rfl (lv_room (Nat.le_of_ble_eq_true rfl)) dX9_run_13 ⟨Nat.le_of_ble_eq_true rfl, Nat.le_of_ble_eq_true rfl⟩) hP hS hA (fun H locs hP hS => ?_)
    refine lv_if_ne (tgt := 23) hx hb dX9_run_16 (by decide) (fun k6 => ?_) (fun k6 => ?_)
    · replace hf := ifn k6 hf
      refine lv_aload_n hx hb dX9_run_23 rfl (lv_at hl 0 rfl) ?_
      refine lv_iload_n hx hb dX9_run_24 rfl (lv_at hl 1 rfl) ?_
      obtain ⟨c_days_7, c_likely_8, c_outOf_9, c_rateNow_10, c_pence_11, c_top_12, c_bottom_13, c_worth_14, c_hold_15, c_acts_16, v17, hf⟩ := bd10_some hf
      refine gcv (va_runV (As := [.int p1]) (rest := []) ⟨hx, hb, hml, hown, hts⟩ (tX9_playsNow l dC dI dA ad H.size v17) (ccX9_X9_playsNow hts ⟨Nat.le_of_ble_eq_true rfl, Nat.le_of_ble_eq_true rfl⟩) (gPreV (ci := 9) (q0 := 0) hP hK hD rfl rfl) rfl rfl hl.1 rfl (lv_room (Nat.le_of_ble_eq_true rfl)) dX9_run_25 ⟨Nat.le_of_ble_eq_true rfl, Nat.le_of_ble_eq_true rfl⟩) hD hS hA (fun H locs hP hD hS => ?_)
      refine lv_aload_n hx hb dX9_run_28 rfl (lv_at hl 0 rfl) ?_
      obtain ⟨c_moves_18, c_aside_19, v20, hf⟩ := bd2_some hf
      refine gcv (va_runV (As := []) (rest := []) ⟨hx, hb, hml, hown, hts⟩ (tX9_swaps l dC dI dA ad H.size v20) (ccX9_X9_swaps hts ⟨Nat.le_of_ble_eq_true rfl, Nat.le_of_ble_eq_true rfl⟩) (gPreV (ci := 9) (q0 := 0) hP hK hD rfl rfl) rfl rfl hl.1 rfl (lv_room (Nat.le_of_ble_eq_true rfl)) dX9_run_29 ⟨Nat.le_of_ble_eq_true rfl, Nat.le_of_ble_eq_true rfl⟩) hD hS hA (fun H locs hP hD hS => ?_)
      refine lv_aload_n hx hb dX9_run_32 rfl (lv_at hl 0 rfl) ?_
      refine lv_iload_n hx hb dX9_run_33 rfl (lv_at hl 2 rfl) ?_
      refine lv_ldc (v := 65535) hx hb hown (hts _ (gw_mem wkX9_245)) dX9_run_34 ?_
      refine lv_iand hx hb dX9_run_36 ?_
      refine lv_topi (fun w21 ew21 => ?_)
      replace hf := nm_at hf ew21
      refine va_put (D := (dC, dI)) (ci := 9) (v := .int w21) (ty := .int) (C := RX9) (T := TX9) (N := 45) hx hb hts (fun w h => gw_mem (inX9 w h)) tyX9 tyX9_ok nmX9 hown hK.1 hP hD hS 0 rfl rfl 23 (by decide) (hts _ (gw_mem wfX9_241)) (fun _ h9 => h9) rfl (by decide +kernel) rfl rfl (Nat.le_of_ble_eq_true rfl) dX9_run_37 (fun H locs hP hD hS => ?_)
      have hP : va_P (dC, dI) vwCl (mW dA ad c_tape c_taped c_tree c_bonds c_moves_18 c_handMoves c_moved c_days_7 c_likely_8 c_outOf_9 c_rateNow_10 c_pence_11 c_top_12 c_bottom_13 c_spot c_textLong c_fault c_number c_numberAt c_figures c_written c_wanted c_found w21 c_worth_14 c_hold_15 c_way c_acts_16 c_sDay c_sUps c_sUp c_sMarks c_paidAll c_isPlayed c_isOn c_handMoved c_handPaid c_regret c_aside_19 c_other c_states c_kept c_keptLong c_keptAt c_isTaking) H := hP
      have hD : va_D A (mW dA ad c_tape c_taped c_tree c_bonds c_moves_18 c_handMoves c_moved c_days_7 c_likely_8 c_outOf_9 c_rateNow_10 c_pence_11 c_top_12 c_bottom_13 c_spot c_textLong c_fault c_number c_numberAt c_figures c_written c_wanted c_found w21 c_worth_14 c_hold_15 c_way c_acts_16 c_sDay c_sUps c_sUp c_sMarks c_paidAll c_isPlayed c_isOn c_handMoved c_handPaid c_regret c_aside_19 c_other c_states c_kept c_keptLong c_keptAt c_isTaking) := hD
      refine lv_lconst (v := 0) hx hb dX9_run_40 rfl ?_
      refine lv_lstore (lv' := [(4, .long 0), (0, .ref (ad 0)), (1, .int p1), (2, .int p2), (3, .int p3)]) hx hb dX9_run_41 hl (by decide) rfl (fun ls hl => ?_)
      refine lv_iconst (v := 0) hx hb dX9_run_43 (by decide) ?_
      refine lv_istore (lv' := [(6, .int 0), (4, .long 0), (0, .ref (ad 0)), (1, .int p1), (2, .int p2), (3, .int p3)]) hx hb dX9_run_44 hl (by decide) rfl (fun ls hl => ?_)
      obtain ⟨x22, c_moves_23, c_drawnNow_24, c_sDay_25, c_sUps_26, c_sUp_27, c_sMarks_28, c_paidAll_29, v30, hf⟩ := bd8_some hf
      refine LP46 FU _ _ _ _ _ _ _ _ _ _ _ _ _ _ _ _ _ _ _ _ _ _ _ _ _ _ _ _ _ _ _ _ _ _ _ _ _ _ _ _ _ _ _ _ _ _ _ _ _ _ _ _ _ _ _ _ _ _ _ _ hP hD hS v30 (lv_sub hl [2, 3, 5, 1, 0] rfl) (fun H locs ls hP hD hS hl => ?_)
      refine lv_aload_n hx hb dX9_run_133 rfl (lv_at hl 0 rfl) ?_
      obtain ⟨c_moves_31, c_aside_32, v33, hf⟩ := bd2_some hf
      refine gcv (va_runV (As := []) (rest := []) ⟨hx, hb, hml, hown, hts⟩ (tX9_swaps l dC dI dA ad H.size v33) (ccX9_X9_swaps hts ⟨Nat.le_of_ble_eq_true rfl, Nat.le_of_ble_eq_true rfl⟩) (gPreV (ci := 9) (q0 := 0) hP hK hD rfl rfl) rfl rfl hl.1 rfl (lv_room (Nat.le_of_ble_eq_true rfl)) dX9_run_134 ⟨Nat.le_of_ble_eq_true rfl, Nat.le_of_ble_eq_true rfl⟩) hD hS hA (fun H locs hP hD hS => ?_)
      refine lv_lload hx hb dX9_run_137 (lv_at hl 1 rfl) ?_
      cases hf
      exact W.lret hx hb hr (fun t ht _ => gql hP hD hS ht) hS.2.2 dX9_run_139
    · replace hf := ifp k6 hf
      refine lv_ldc2 (v := (-1)) hx hb hown (hts _ (gw_mem wkX9_116)) dX9_run_19 ?_
      cases hf
      exact W.lret hx hb hr (fun t ht _ => gql hP hD hS ht) hS.2.2 dX9_run_22
def lpX9_extreme_53 (x1 : Int32) (x2 : Int32) (x3 : Int32) (x4 : Int32) (x5 : Int64) (x7 : Int32) (c_days : Int32) : Nat → Int32 → (Nat → Int32) → Option ((Nat → Int32))
  | 0, _, _ => none
  | n + 1, x8, c_moves => if c_days ≤ x8 then some (c_moves) else og (okI x8 6) (nm (upd c_moves (Int32.toNatClampNeg x8) ((x7 >>> (x8 &&& 31)) &&& 1)) (fun w57 => nm (x8 + 1) (fun w58 => lpX9_extreme_53 x1 x2 x3 x4 x5 x7 c_days n w58 w57)))
def lpX9_extreme_39 (x1 : Int32) (x2 : Int32) (x3 : Int32) (c_bonds : Nat → Int32) (c_days : Int32) (c_pence : Nat → Int64) (c_acts : Nat → Int32) : Nat → Int32 → Int64 → Int32 → (Nat → Int32) → Int32 → Int32 → Int32 → Int32 → Int64 → Option (Int32 × Int64 × (Nat → Int32) × Int32 × Int32 × Int32 × Int32 × Int64)
  | 0, _, _, _, _, _, _, _, _, _ => none
  | n + 1, x4, x5, x7, c_moves, c_sDay, c_sUps, c_sUp, c_sMarks, c_paidAll => if (1 <<< (c_days &&& 31)) ≤ x7 then some (x4, x5, c_moves, c_sDay, c_sUps, c_sUp, c_sMarks, c_paidAll) else bd1 (lpX9_extreme_53 x1 x2 x3 x4 x5 x7 c_days FU 0 c_moves) (fun c_moves_35 => bd6 (fX9_endsAlong x1 c_days c_bonds c_moves_35 c_days c_pence c_acts c_sDay c_sUps c_sUp c_sMarks c_paidAll) (fun r37 c_sDay_38 c_sUps_39 c_sUp_40 c_sMarks_41 c_paidAll_42 => if r37 = 0 then nm (x7 + 1) (fun w45 => lpX9_extreme_39 x1 x2 x3 c_bonds c_days c_pence c_acts n x4 x5 w45 c_moves_35 c_sDay_38 c_sUps_39 c_sUp_40 c_sMarks_41 c_paidAll_42) else if x4 = (-1) then nm (x7 + 1) (fun w47 => lpX9_extreme_39 x1 x2 x3 c_bonds c_days c_pence c_acts n x7 c_paidAll_42 w47 c_moves_35 c_sDay_38 c_sUps_39 c_sUp_40 c_sMarks_41 c_paidAll_42) else if x2 = 0 then if c_paidAll_42 < x5 then nm (x7 + 1) (fun w50 => lpX9_extreme_39 x1 x2 x3 c_bonds c_days c_pence c_acts n x7 c_paidAll_42 w50 c_moves_35 c_sDay_38 c_sUps_39 c_sUp_40 c_sMarks_41 c_paidAll_42) else nm (x7 + 1) (fun w51 => lpX9_extreme_39 x1 x2 x3 c_bonds c_days c_pence c_acts n x4 x5 w51 c_moves_35 c_sDay_38 c_sUps_39 c_sUp_40 c_sMarks_41 c_paidAll_42) else if x5 < c_paidAll_42 then nm (x7 + 1) (fun w53 => lpX9_extreme_39 x1 x2 x3 c_bonds c_days c_pence c_acts n x7 c_paidAll_42 w53 c_moves_35 c_sDay_38 c_sUps_39 c_sUp_40 c_sMarks_41 c_paidAll_42) else nm (x7 + 1) (fun w54 => lpX9_extreme_39 x1 x2 x3 c_bonds c_days c_pence c_acts n x4 x5 w54 c_moves_35 c_sDay_38 c_sUps_39 c_sUp_40 c_sMarks_41 c_paidAll_42)))
def fX9_extreme (p1 : Int32) (p2 : Int32) (p3 : Int32) (c_tree : Nat → Int32) (c_bonds : Nat → Int32) (c_moves : Nat → Int32) (c_days : Int32) (c_likely : Int32) (c_outOf : Int32) (c_rateNow : Int32) (c_pence : Nat → Int64) (c_top : Int64) (c_bottom : Int64) (c_worth : Nat → Int64) (c_hold : Nat → Int64) (c_acts : Nat → Int32) (c_sDay : Int32) (c_sUps : Int32) (c_sUp : Int32) (c_sMarks : Int32) (c_paidAll : Int64) (c_aside : Nat → Int32) : Option (Int64 × (Nat → Int32) × Int32 × Int32 × Int32 × Int32 × (Nat → Int64) × Int64 × Int64 × (Nat → Int64) × (Nat → Int64) × (Nat → Int32) × Int32 × Int32 × Int32 × Int32 × Int64 × (Nat → Int32)) := bd1 (fX9_isBond p1) (fun r1 => if r1 = 0 then some ((-1), c_moves, c_days, c_likely, c_outOf, c_rateNow, c_pence, c_top, c_bottom, c_worth, c_hold, c_acts, c_sDay, c_sUps, c_sUp, c_sMarks, c_paidAll, c_aside) else bd1 (fX9_in (Int32.toInt64 p3) 0 1) (fun r4 => if r4 = 0 then some ((-1), c_moves, c_days, c_likely, c_outOf, c_rateNow, c_pence, c_top, c_bottom, c_worth, c_hold, c_acts, c_sDay, c_sUps, c_sUp, c_sMarks, c_paidAll, c_aside) else bd10 (fX9_playsNow p1 c_tree c_bonds c_days c_likely c_outOf c_rateNow c_pence c_top c_bottom c_worth c_hold c_acts) (fun c_days_7 c_likely_8 c_outOf_9 c_rateNow_10 c_pence_11 c_top_12 c_bottom_13 c_worth_14 c_hold_15 c_acts_16 => bd2 (fX9_swaps c_moves c_aside) (fun c_moves_18 c_aside_19 => bd8 (lpX9_extreme_39 p1 p2 p3 c_bonds c_days_7 c_pence_11 c_acts_16 FU (-1) 0 0 c_moves_18 c_sDay c_sUps c_sUp c_sMarks c_paidAll) (fun x21 x22 c_moves_23 c_sDay_24 c_sUps_25 c_sUp_26 c_sMarks_27 c_paidAll_28 => bd2 (fX9_swaps c_moves_23 c_aside_19) (fun c_moves_30 c_aside_31 => if p3 = 0 then some (x22, c_moves_30, c_days_7, c_likely_8, c_outOf_9, c_rateNow_10, c_pence_11, c_top_12, c_bottom_13, c_worth_14, c_hold_15, c_acts_16, c_sDay_24, c_sUps_25, c_sUp_26, c_sMarks_27, c_paidAll_28, c_aside_31) else some (Int32.toInt64 x21, c_moves_30, c_days_7, c_likely_8, c_outOf_9, c_rateNow_10, c_pence_11, c_top_12, c_bottom_13, c_worth_14, c_hold_15, c_acts_16, c_sDay_24, c_sUps_25, c_sUp_26, c_sMarks_27, c_paidAll_28, c_aside_31)))))))
abbrev rmX9_extreme : Room := { frames := 7, cells := 0, slots := 0, locals := 184 }
set_option maxHeartbeats 4000000 in
set_option maxRecDepth 100000 in
theorem tX9_extreme (l : Launch) (dC : Nat → ClassId) (dI : Nat → Nat → Nat) (dA : Nat → ClassId) (ad : Nat → Nat) (sz : Nat) {p1 : Int32} {p2 : Int32} {p3 : Int32} {c_tape : Nat → Int32} {c_taped : Int32} {c_tree : Nat → Int32} {c_bonds : Nat → Int32} {c_moves : Nat → Int32} {c_handMoves : Nat → Int32} {c_moved : Int32} {c_days : Int32} {c_likely : Int32} {c_outOf : Int32} {c_rateNow : Int32} {c_pence : Nat → Int64} {c_top : Int64} {c_bottom : Int64} {c_spot : Int32} {c_textLong : Int32} {c_fault : Int32} {c_number : Int32} {c_numberAt : Int32} {c_figures : Int32} {c_written : Int32} {c_wanted : Int32} {c_found : Int32} {c_drawnNow : Int32} {c_worth : Nat → Int64} {c_hold : Nat → Int64} {c_way : Nat → Int64} {c_acts : Nat → Int32} {c_sDay : Int32} {c_sUps : Int32} {c_sUp : Int32} {c_sMarks : Int32} {c_paidAll : Int64} {c_isPlayed : Int32} {c_isOn : Int32} {c_handMoved : Int32} {c_handPaid : Int64} {c_regret : Int64} {c_aside : Nat → Int32} {c_other : Nat → Int64} {c_states : Int32} {c_kept : Nat → Int32} {c_keptLong : Nat → Int64} {c_keptAt : Int32} {c_isTaking : Int32} {r : Int64} {o_c_moves : Nat → Int32} {o_c_days : Int32} {o_c_likely : Int32} {o_c_outOf : Int32} {o_c_rateNow : Int32} {o_c_pence : Nat → Int64} {o_c_top : Int64} {o_c_bottom : Int64} {o_c_worth : Nat → Int64} {o_c_hold : Nat → Int64} {o_c_acts : Nat → Int32} {o_c_sDay : Int32} {o_c_sUps : Int32} {o_c_sUp : Int32} {o_c_sMarks : Int32} {o_c_paidAll : Int64} {o_c_aside : Nat → Int32} (hf : fX9_extreme p1 p2 p3 c_tree c_bonds c_moves c_days c_likely c_outOf c_rateNow c_pence c_top c_bottom c_worth c_hold c_acts c_sDay c_sUps c_sUp c_sMarks c_paidAll c_aside = some (r, o_c_moves, o_c_days, o_c_likely, o_c_outOf, o_c_rateNow, o_c_pence, o_c_top, o_c_bottom, o_c_worth, o_c_hold, o_c_acts, o_c_sDay, o_c_sUps, o_c_sUp, o_c_sMarks, o_c_paidAll, o_c_aside)) : Met l yX9_extreme (wq (Cond.code yX9_extreme cX9_extreme 9 (some .long))) rmX9_extreme (gP [.ref (ad 0), .int p1, .int p2, .int p3] (dC, dI) dA (mW dA ad c_tape c_taped c_tree c_bonds c_moves c_handMoves c_moved c_days c_likely c_outOf c_rateNow c_pence c_top c_bottom c_spot c_textLong c_fault c_number c_numberAt c_figures c_written c_wanted c_found c_drawnNow c_worth c_hold c_way c_acts c_sDay c_sUps c_sUp c_sMarks c_paidAll c_isPlayed c_isOn c_handMoved c_handPaid c_regret c_aside c_other c_states c_kept c_keptLong c_keptAt c_isTaking) sz) (gQl (dC, dI) r (mW dA ad c_tape c_taped c_tree c_bonds o_c_moves c_handMoves c_moved o_c_days o_c_likely o_c_outOf o_c_rateNow o_c_pence o_c_top o_c_bottom c_spot c_textLong c_fault c_number c_numberAt c_figures c_written c_wanted c_found c_drawnNow o_c_worth o_c_hold c_way o_c_acts o_c_sDay o_c_sUps o_c_sUp o_c_sMarks o_c_paidAll c_isPlayed c_isOn c_handMoved c_handPaid c_regret o_c_aside c_other c_states c_kept c_keptLong c_keptAt c_isTaking) (va_A (mW dA ad c_tape c_taped c_tree c_bonds c_moves c_handMoves c_moved c_days c_likely c_outOf c_rateNow c_pence c_top c_bottom c_spot c_textLong c_fault c_number c_numberAt c_figures c_written c_wanted c_found c_drawnNow c_worth c_hold c_way c_acts c_sDay c_sUps c_sUp c_sMarks c_paidAll c_isPlayed c_isOn c_handMoved c_handPaid c_regret c_aside c_other c_states c_kept c_keptLong c_keptAt c_isTaking) sz)) 0 0 (va_A (mW dA ad c_tape c_taped c_tree c_bonds c_moves c_handMoves c_moved c_days c_likely c_outOf c_rateNow c_pence c_top c_bottom c_spot c_textLong c_fault c_number c_numberAt c_figures c_written c_wanted c_found c_drawnNow c_worth c_hold c_way c_acts c_sDay c_sUps c_sUp c_sMarks c_paidAll c_isPlayed c_isOn c_handMoved c_handPaid c_regret c_aside c_other c_states c_kept c_keptLong c_keptAt c_isTaking) sz) := by
  refine Met.ofW (cc := cX9_extreme) (maxL := 9) (ret := (some .long)) (by decide) rfl ?_
  intro p e s m args below meth c s₁ B hml hv
  obtain ⟨rfl, hsz, hP, hK, hD0⟩ := hv
  have hx := B.exec
  have hb := B.bytes
  have hr := B.returns
  have hts := atoms_spec (ws := wq (Cond.code yX9_extreme cX9_extreme 9 (some .long))) B.pre
  have hown : s.vm.findClass RX9 = some m.cls := findClass_of_methodNamed B.named
  have hlocks := B.notSynchronized
  clear B
  subst hsz
  have hD := hD0.self (sz := s.heap.size)
  generalize hAe : va_A (mW dA ad c_tape c_taped c_tree c_bonds c_moves c_handMoves c_moved c_days c_likely c_outOf c_rateNow c_pence c_top c_bottom c_spot c_textLong c_fault c_number c_numberAt c_figures c_written c_wanted c_found c_drawnNow c_worth c_hold c_way c_acts c_sDay c_sUps c_sUp c_sMarks c_paidAll c_isPlayed c_isOn c_handMoved c_handPaid c_regret c_aside c_other c_states c_kept c_keptLong c_keptAt c_isTaking) s.heap.size = A at hD ⊢
  have hA : ∀ q : Nat, s.heap.size ≤ q → A q := fun q h => by rw [← hAe]; exact Or.inr h
  clear hAe hD0
  have hS : va_S A s.heap s.heap [] := va_S.rf
  have hl := lv_entry ([.ref (ad 0), .int p1, .int p2, .int p3]) (n := 9) (Nat.le_of_ble_eq_true rfl)
  rw [lg_entry_eq]
  generalize (lg_sl ([.ref (ad 0), .int p1, .int p2, .int p3]) ++ List.replicate (9 - (lg_sl ([.ref (ad 0), .int p1, .int p2, .int p3])).length) Slot.unset).toArray = ls at hl ⊢
  have hl : lv_has ls 9 [(0, .ref (ad 0)), (1, .int p1), (2, .int p2), (3, .int p3)] := hl
  change W p l e rmX9_extreme s m ([.ref (ad 0), .int p1, .int p2, .int p3] : List Value).toArray below meth c s.heap [] 0 0 _ _
  generalize hQ : MQ below (gQl (dC, dI) r (mW dA ad c_tape c_taped c_tree c_bonds o_c_moves c_handMoves c_moved o_c_days o_c_likely o_c_outOf o_c_rateNow o_c_pence o_c_top o_c_bottom c_spot c_textLong c_fault c_number c_numberAt c_figures c_written c_wanted c_found c_drawnNow o_c_worth o_c_hold c_way o_c_acts o_c_sDay o_c_sUps o_c_sUp o_c_sMarks o_c_paidAll c_isPlayed c_isOn c_handMoved c_handPaid c_regret o_c_aside c_other c_states c_kept c_keptLong c_keptAt c_isTaking) A) ([.ref (ad 0), .int p1, .int p2, .int p3] : List Value).toArray s 0 0 A = Q
  have LP53 : ∀ (n : Nat) (x1 : Int32) (x2 : Int32) (x3 : Int32) (x4 : Int32) (x5 : Int64) (x7 : Int32) (c_days : Int32) (c_tape : Nat → Int32) (c_taped : Int32) (c_tree : Nat → Int32) (c_bonds : Nat → Int32) (c_handMoves : Nat → Int32) (c_moved : Int32) (c_likely : Int32) (c_outOf : Int32) (c_rateNow : Int32) (c_pence : Nat → Int64) (c_top : Int64) (c_bottom : Int64) (c_spot : Int32) (c_textLong : Int32) (c_fault : Int32) (c_number : Int32) (c_numberAt : Int32) (c_figures : Int32) (c_written : Int32) (c_wanted : Int32) (c_found : Int32) (c_drawnNow : Int32) (c_worth : Nat → Int64) (c_hold : Nat → Int64) (c_way : Nat → Int64) (c_acts : Nat → Int32) (c_sDay : Int32) (c_sUps : Int32) (c_sUp : Int32) (c_sMarks : Int32) (c_paidAll : Int64) (c_isPlayed : Int32) (c_isOn : Int32) (c_handMoved : Int32) (c_handPaid : Int64) (c_regret : Int64) (c_aside : Nat → Int32) (c_other : Nat → Int64) (c_states : Int32) (c_kept : Nat → Int32) (c_keptLong : Nat → Int64) (c_keptAt : Int32) (c_isTaking : Int32) (x8 : Int32) (c_moves : Nat → Int32) (o_c_moves : Nat → Int32) (H : Heap) (locs : List Loc) (ls : Array Slot), va_P (dC, dI) vwCl (mW dA ad c_tape c_taped c_tree c_bonds c_moves c_handMoves c_moved c_days c_likely c_outOf c_rateNow c_pence c_top c_bottom c_spot c_textLong c_fault c_number c_numberAt c_figures c_written c_wanted c_found c_drawnNow c_worth c_hold c_way c_acts c_sDay c_sUps c_sUp c_sMarks c_paidAll c_isPlayed c_isOn c_handMoved c_handPaid c_regret c_aside c_other c_states c_kept c_keptLong c_keptAt c_isTaking) H → va_D A (mW dA ad c_tape c_taped c_tree c_bonds c_moves c_handMoves c_moved c_days c_likely c_outOf c_rateNow c_pence c_top c_bottom c_spot c_textLong c_fault c_number c_numberAt c_figures c_written c_wanted c_found c_drawnNow c_worth c_hold c_way c_acts c_sDay c_sUps c_sUp c_sMarks c_paidAll c_isPlayed c_isOn c_handMoved c_handPaid c_regret c_aside c_other c_states c_kept c_keptLong c_keptAt c_isTaking) → va_S A s.heap H locs → lpX9_extreme_53 x1 x2 x3 x4 x5 x7 c_days n x8 c_moves = some (o_c_moves) → lv_has ls 9 [(0, .ref (ad 0)), (1, .int x1), (2, .int x2), (3, .int x3), (4, .int x4), (5, .long x5), (7, .int x7), (8, .int x8)] → (∀ (H : Heap) (locs : List Loc) (ls : Array Slot), va_P (dC, dI) vwCl (mW dA ad c_tape c_taped c_tree c_bonds o_c_moves c_handMoves c_moved c_days c_likely c_outOf c_rateNow c_pence c_top c_bottom c_spot c_textLong c_fault c_number c_numberAt c_figures c_written c_wanted c_found c_drawnNow c_worth c_hold c_way c_acts c_sDay c_sUps c_sUp c_sMarks c_paidAll c_isPlayed c_isOn c_handMoved c_handPaid c_regret c_aside c_other c_states c_kept c_keptLong c_keptAt c_isTaking) H → va_D A (mW dA ad c_tape c_taped c_tree c_bonds o_c_moves c_handMoves c_moved c_days c_likely c_outOf c_rateNow c_pence c_top c_bottom c_spot c_textLong c_fault c_number c_numberAt c_figures c_written c_wanted c_found c_drawnNow c_worth c_hold c_way c_acts c_sDay c_sUps c_sUp c_sMarks c_paidAll c_isPlayed c_isOn c_handMoved c_handPaid c_regret c_aside c_other c_states c_kept c_keptLong c_keptAt c_isTaking) → va_S A s.heap H locs → lv_has ls 9 [(0, .ref (ad 0)), (1, .int x1), (2, .int x2), (3, .int x3), (4, .int x4), (5, .long x5), (7, .int x7)] → W p l e rmX9_extreme s m ([.ref (ad 0), .int p1, .int p2, .int p3] : List Value).toArray below meth c H locs 0 0 Q (F0 m 82 ls [])) → W p l e rmX9_extreme s m ([.ref (ad 0), .int p1, .int p2, .int p3] : List Value).toArray below meth c H locs 0 0 Q (F0 m 53 ls []) := by
    intro n
    induction n with
    | zero =>
      intro x1 x2 x3 x4 x5 x7 c_days c_tape c_taped c_tree c_bonds c_handMoves c_moved c_likely c_outOf c_rateNow c_pence c_top c_bottom c_spot c_textLong c_fault c_number c_numberAt c_figures c_written c_wanted c_found c_drawnNow c_worth c_hold c_way c_acts c_sDay c_sUps c_sUp c_sMarks c_paidAll c_isPlayed c_isOn c_handMoved c_handPaid c_regret c_aside c_other c_states c_kept c_keptLong c_keptAt c_isTaking x8 c_moves o_c_moves H locs ls hP hD hS hf hl hk
      cases hf
    | succ n ih53 =>
      intro x1 x2 x3 x4 x5 x7 c_days c_tape c_taped c_tree c_bonds c_handMoves c_moved c_likely c_outOf c_rateNow c_pence c_top c_bottom c_spot c_textLong c_fault c_number c_numberAt c_figures c_written c_wanted c_found c_drawnNow c_worth c_hold c_way c_acts c_sDay c_sUps c_sUp c_sMarks c_paidAll c_isPlayed c_isOn c_handMoved c_handPaid c_regret c_aside c_other c_states c_kept c_keptLong c_keptAt c_isTaking x8 c_moves o_c_moves H locs ls hP hD hS hf hl hk
      rw [lpX9_extreme_53.eq_2] at hf
      refine lv_iload hx hb dX9_extreme_53 (lv_at hl 7 rfl) ?_
      refine lv_aload_n hx hb dX9_extreme_55 rfl (lv_at hl 0 rfl) ?_
      refine va_get (D := (dC, dI)) (ci := 9) (v := .int c_days) (C := RX9) (T := TX9) (N := 45) hx hb hts (fun w h => gw_mem (inX9 w h)) hown hK.1 hP 0 rfl rfl 7 (by decide) (hts _ (gw_mem wfX9_94)) (fun _ h9 => h9) rfl dX9_extreme_56 ?_
      refine lv_icmp_ge (tgt := 82) hx hb dX9_extreme_59 (by decide) (fun k55 => ?_) (fun k55 => ?_)
      · replace hf := ifp k55 hf
        cases hf
        exact hk _ _ _ hP hD hS (lv_sub hl [0, 1, 2, 3, 4, 5, 6] rfl)
      · replace hf := ifn k55 hf
        refine lv_aload_n hx hb dX9_extreme_62 rfl (lv_at hl 0 rfl) ?_
        refine va_get (D := (dC, dI)) (ci := 9) (v := .ref (ad 4)) (C := RX9) (T := TX9) (N := 45) hx hb hts (fun w h => gw_mem (inX9 w h)) hown hK.1 hP 0 rfl rfl 4 (by decide) (hts _ (gw_mem wfX9_20)) (fun _ h9 => h9) rfl dX9_extreme_63 ?_
        refine lv_iload hx hb dX9_extreme_66 (lv_at hl 7 rfl) ?_
        refine lv_iload hx hb dX9_extreme_68 (lv_at hl 6 rfl) ?_
        refine lv_iload hx hb dX9_extreme_70 (lv_at hl 7 rfl) ?_
        refine lv_ishr hx hb dX9_extreme_72 ?_
        refine lv_iconst (v := 1) hx hb dX9_extreme_73 (by decide) ?_
        refine lv_iand hx hb dX9_extreme_74 ?_
        obtain ⟨h56, hf⟩ := og_some hf
        obtain ⟨w57, ew57⟩ : ∃ y : Nat → Int32, y = upd c_moves (Int32.toNatClampNeg x8) ((x7 >>> (x8 &&& 31)) &&& 1) := ⟨_, rfl⟩
        replace hf := nm_at hf ew57
        refine va_iast hx hb hK.1 hP hD hS 4 0 rfl rfl (okI_in h56) dX9_extreme_75 (fun H locs hP hD hS => ?_)
        have hP : va_P (dC, dI) vwCl (mW dA ad c_tape c_taped c_tree c_bonds w57 c_handMoves c_moved c_days c_likely c_outOf c_rateNow c_pence c_top c_bottom c_spot c_textLong c_fault c_number c_numberAt c_figures c_written c_wanted c_found c_drawnNow c_worth c_hold c_way c_acts c_sDay c_sUps c_sUp c_sMarks c_paidAll c_isPlayed c_isOn c_handMoved c_handPaid c_regret c_aside c_other c_states c_kept c_keptLong c_keptAt c_isTaking) H := by rw [ew57]; exact hP
        have hD : va_D A (mW dA ad c_tape c_taped c_tree c_bonds w57 c_handMoves c_moved c_days c_likely c_outOf c_rateNow c_pence c_top c_bottom c_spot c_textLong c_fault c_number c_numberAt c_figures c_written c_wanted c_found c_drawnNow c_worth c_hold c_way c_acts c_sDay c_sUps c_sUp c_sMarks c_paidAll c_isPlayed c_isOn c_handMoved c_handPaid c_regret c_aside c_other c_states c_kept c_keptLong c_keptAt c_isTaking) := by rw [ew57]; exact hD
        obtain ⟨w58, ew58⟩ : ∃ y : Int32, y = x8 + 1 := ⟨_, rfl⟩
        replace hf := nm_at hf ew58
        refine lv_iinc (v := w58) (lv' := [(8, .int w58), (0, .ref (ad 0)), (1, .int x1), (2, .int x2), (3, .int x3), (4, .int x4), (5, .long x5), (7, .int x7)]) hx hb dX9_extreme_76 hl (k := 7) rfl (by rw [ew58]; rfl) (by decide) rfl (fun ls hl => ?_)
        refine lv_goto (tgt := 53) hx hb dX9_extreme_79 (by decide) ?_
        exact ih53 _ _ _ _ _ _ _ _ _ _ _ _ _ _ _ _ _ _ _ _ _ _ _ _ _ _ _ _ _ _ _ _ _ _ _ _ _ _ _ _ _ _ _ _ _ _ _ _ _ _ _ _ _ _ _ _ hP hD hS hf (lv_sub hl [1, 2, 3, 4, 5, 6, 7, 0] rfl) hk
  have LP39 : ∀ (n : Nat) (x1 : Int32) (x2 : Int32) (x3 : Int32) (c_bonds : Nat → Int32) (c_days : Int32) (c_pence : Nat → Int64) (c_acts : Nat → Int32) (c_tape : Nat → Int32) (c_taped : Int32) (c_tree : Nat → Int32) (c_handMoves : Nat → Int32) (c_moved : Int32) (c_likely : Int32) (c_outOf : Int32) (c_rateNow : Int32) (c_top : Int64) (c_bottom : Int64) (c_spot : Int32) (c_textLong : Int32) (c_fault : Int32) (c_number : Int32) (c_numberAt : Int32) (c_figures : Int32) (c_written : Int32) (c_wanted : Int32) (c_found : Int32) (c_drawnNow : Int32) (c_worth : Nat → Int64) (c_hold : Nat → Int64) (c_way : Nat → Int64) (c_isPlayed : Int32) (c_isOn : Int32) (c_handMoved : Int32) (c_handPaid : Int64) (c_regret : Int64) (c_aside : Nat → Int32) (c_other : Nat → Int64) (c_states : Int32) (c_kept : Nat → Int32) (c_keptLong : Nat → Int64) (c_keptAt : Int32) (c_isTaking : Int32) (x4 : Int32) (x5 : Int64) (x7 : Int32) (c_moves : Nat → Int32) (c_sDay : Int32) (c_sUps : Int32) (c_sUp : Int32) (c_sMarks : Int32) (c_paidAll : Int64) (o4 : Int32) (o5 : Int64) (o_c_moves : Nat → Int32) (o_c_sDay : Int32) (o_c_sUps : Int32) (o_c_sUp : Int32) (o_c_sMarks : Int32) (o_c_paidAll : Int64) (H : Heap) (locs : List Loc) (ls : Array Slot), va_P (dC, dI) vwCl (mW dA ad c_tape c_taped c_tree c_bonds c_moves c_handMoves c_moved c_days c_likely c_outOf c_rateNow c_pence c_top c_bottom c_spot c_textLong c_fault c_number c_numberAt c_figures c_written c_wanted c_found c_drawnNow c_worth c_hold c_way c_acts c_sDay c_sUps c_sUp c_sMarks c_paidAll c_isPlayed c_isOn c_handMoved c_handPaid c_regret c_aside c_other c_states c_kept c_keptLong c_keptAt c_isTaking) H → va_D A (mW dA ad c_tape c_taped c_tree c_bonds c_moves c_handMoves c_moved c_days c_likely c_outOf c_rateNow c_pence c_top c_bottom c_spot c_textLong c_fault c_number c_numberAt c_figures c_written c_wanted c_found c_drawnNow c_worth c_hold c_way c_acts c_sDay c_sUps c_sUp c_sMarks c_paidAll c_isPlayed c_isOn c_handMoved c_handPaid c_regret c_aside c_other c_states c_kept c_keptLong c_keptAt c_isTaking) → va_S A s.heap H locs → lpX9_extreme_39 x1 x2 x3 c_bonds c_days c_pence c_acts n x4 x5 x7 c_moves c_sDay c_sUps c_sUp c_sMarks c_paidAll = some (o4, o5, o_c_moves, o_c_sDay, o_c_sUps, o_c_sUp, o_c_sMarks, o_c_paidAll) → lv_has ls 9 [(0, .ref (ad 0)), (1, .int x1), (2, .int x2), (3, .int x3), (4, .int x4), (5, .long x5), (7, .int x7)] → (∀ (H : Heap) (locs : List Loc) (ls : Array Slot), va_P (dC, dI) vwCl (mW dA ad c_tape c_taped c_tree c_bonds o_c_moves c_handMoves c_moved c_days c_likely c_outOf c_rateNow c_pence c_top c_bottom c_spot c_textLong c_fault c_number c_numberAt c_figures c_written c_wanted c_found c_drawnNow c_worth c_hold c_way c_acts o_c_sDay o_c_sUps o_c_sUp o_c_sMarks o_c_paidAll c_isPlayed c_isOn c_handMoved c_handPaid c_regret c_aside c_other c_states c_kept c_keptLong c_keptAt c_isTaking) H → va_D A (mW dA ad c_tape c_taped c_tree c_bonds o_c_moves c_handMoves c_moved c_days c_likely c_outOf c_rateNow c_pence c_top c_bottom c_spot c_textLong c_fault c_number c_numberAt c_figures c_written c_wanted c_found c_drawnNow c_worth c_hold c_way c_acts o_c_sDay o_c_sUps o_c_sUp o_c_sMarks o_c_paidAll c_isPlayed c_isOn c_handMoved c_handPaid c_regret c_aside c_other c_states c_kept c_keptLong c_keptAt c_isTaking) → va_S A s.heap H locs → lv_has ls 9 [(0, .ref (ad 0)), (3, .int x3), (4, .int o4), (5, .long o5)] → W p l e rmX9_extreme s m ([.ref (ad 0), .int p1, .int p2, .int p3] : List Value).toArray below meth c H locs 0 0 Q (F0 m 150 ls [])) → W p l e rmX9_extreme s m ([.ref (ad 0), .int p1, .int p2, .int p3] : List Value).toArray below meth c H locs 0 0 Q (F0 m 39 ls []) := by
    intro n
    induction n with
    | zero =>
      intro x1 x2 x3 c_bonds c_days c_pence c_acts c_tape c_taped c_tree c_handMoves c_moved c_likely c_outOf c_rateNow c_top c_bottom c_spot c_textLong c_fault c_number c_numberAt c_figures c_written c_wanted c_found c_drawnNow c_worth c_hold c_way c_isPlayed c_isOn c_handMoved c_handPaid c_regret c_aside c_other c_states c_kept c_keptLong c_keptAt c_isTaking x4 x5 x7 c_moves c_sDay c_sUps c_sUp c_sMarks c_paidAll o4 o5 o_c_moves o_c_sDay o_c_sUps o_c_sUp o_c_sMarks o_c_paidAll H locs ls hP hD hS hf hl hk
      cases hf
    | succ n ih39 =>
      intro x1 x2 x3 c_bonds c_days c_pence c_acts c_tape c_taped c_tree c_handMoves c_moved c_likely c_outOf c_rateNow c_top c_bottom c_spot c_textLong c_fault c_number c_numberAt c_figures c_written c_wanted c_found c_drawnNow c_worth c_hold c_way c_isPlayed c_isOn c_handMoved c_handPaid c_regret c_aside c_other c_states c_kept c_keptLong c_keptAt c_isTaking x4 x5 x7 c_moves c_sDay c_sUps c_sUp c_sMarks c_paidAll o4 o5 o_c_moves o_c_sDay o_c_sUps o_c_sUp o_c_sMarks o_c_paidAll H locs ls hP hD hS hf hl hk
      rw [lpX9_extreme_39.eq_2] at hf
      refine lv_iload hx hb dX9_extreme_39 (lv_at hl 6 rfl) ?_
      refine lv_iconst (v := 1) hx hb dX9_extreme_41 (by decide) ?_
      refine lv_aload_n hx hb dX9_extreme_42 rfl (lv_at hl 0 rfl) ?_
      refine va_get (D := (dC, dI)) (ci := 9) (v := .int c_days) (C := RX9) (T := TX9) (N := 45) hx hb hts (fun w h => gw_mem (inX9 w h)) hown hK.1 hP 0 rfl rfl 7 (by decide) (hts _ (gw_mem wfX9_94)) (fun _ h9 => h9) rfl dX9_extreme_43 ?_
      refine lv_ishl hx hb dX9_extreme_46 ?_
      refine lv_icmp_ge (tgt := 150) hx hb dX9_extreme_47 (by decide) (fun k34 => ?_) (fun k34 => ?_)
      · replace hf := ifp k34 hf
        cases hf
        exact hk _ _ _ hP hD hS (lv_sub hl [0, 3, 4, 5] rfl)
      · replace hf := ifn k34 hf
        refine lv_iconst (v := 0) hx hb dX9_extreme_50 (by decide) ?_
        refine lv_istore (lv' := [(8, .int 0), (0, .ref (ad 0)), (1, .int x1), (2, .int x2), (3, .int x3), (4, .int x4), (5, .long x5), (7, .int x7)]) hx hb dX9_extreme_51 hl (by decide) rfl (fun ls hl => ?_)
        obtain ⟨c_moves_35, v36, hf⟩ := bd1_some hf
        refine LP53 FU _ _ _ _ _ _ _ _ _ _ _ _ _ _ _ _ _ _ _ _ _ _ _ _ _ _ _ _ _ _ _ _ _ _ _ _ _ _ _ _ _ _ _ _ _ _ _ _ _ _ _ _ _ _ _ _ hP hD hS v36 (lv_sub hl [1, 2, 3, 4, 5, 6, 7, 0] rfl) (fun H locs ls hP hD hS hl => ?_)
        refine lv_aload_n hx hb dX9_extreme_82 rfl (lv_at hl 0 rfl) ?_
        refine lv_iload_n hx hb dX9_extreme_83 rfl (lv_at hl 1 rfl) ?_
        refine lv_aload_n hx hb dX9_extreme_84 rfl (lv_at hl 0 rfl) ?_
        refine va_get (D := (dC, dI)) (ci := 9) (v := .int c_days) (C := RX9) (T := TX9) (N := 45) hx hb hts (fun w h => gw_mem (inX9 w h)) hown hK.1 hP 0 rfl rfl 7 (by decide) (hts _ (gw_mem wfX9_94)) (fun _ h9 => h9) rfl dX9_extreme_85 ?_
        obtain ⟨r37, c_sDay_38, c_sUps_39, c_sUp_40, c_sMarks_41, c_paidAll_42, v43, hf⟩ := bd6_some hf
        refine gci (va_runV (As := [.int x1, .int c_days]) (rest := []) ⟨hx, hb, hml, hown, hts⟩ (tX9_endsAlong l dC dI dA ad H.size v43) (ccX9_X9_endsAlong hts ⟨Nat.le_of_ble_eq_true rfl, Nat.le_of_ble_eq_true rfl⟩) (gPreV (ci := 9) (q0 := 0) hP hK hD rfl rfl) rfl rfl hl.1 rfl (lv_room (Nat.le_of_ble_eq_true rfl)) dX9_extreme_88 ⟨Nat.le_of_ble_eq_true rfl, Nat.le_of_ble_eq_true rfl⟩) hD hS hA (fun H locs hP hD hS => ?_)
        refine lv_istore (lv' := [(8, .int r37), (0, .ref (ad 0)), (1, .int x1), (2, .int x2), (3, .int x3), (4, .int x4), (5, .long x5), (7, .int x7)]) hx hb dX9_extreme_91 hl (by decide) rfl (fun ls hl => ?_)
        refine lv_iload hx hb dX9_extreme_93 (lv_at hl 0 rfl) ?_
        refine lv_if_eq (tgt := 144) hx hb dX9_extreme_95 (by decide) (fun k44 => ?_) (fun k44 => ?_)
        · replace hf := ifp k44 hf
          obtain ⟨w45, ew45⟩ : ∃ y : Int32, y = x7 + 1 := ⟨_, rfl⟩
          replace hf := nm_at hf ew45
          refine lv_iinc (v := w45) (lv' := [(7, .int w45), (8, .int r37), (0, .ref (ad 0)), (1, .int x1), (2, .int x2), (3, .int x3), (4, .int x4), (5, .long x5)]) hx hb dX9_extreme_144 hl (k := 7) rfl (by rw [ew45]; rfl) (by decide) rfl (fun ls hl => ?_)
          refine lv_goto (tgt := 39) hx hb dX9_extreme_147 (by decide) ?_
          exact ih39 _ _ _ _ _ _ _ _ _ _ _ _ _ _ _ _ _ _ _ _ _ _ _ _ _ _ _ _ _ _ _ _ _ _ _ _ _ _ _ _ _ _ _ _ _ _ _ _ _ _ _ _ _ _ _ _ _ _ _ _ _ _ hP hD hS hf (lv_sub hl [2, 3, 4, 5, 6, 7, 0] rfl) hk
        · replace hf := ifn k44 hf
          refine lv_iload hx hb dX9_extreme_98 (lv_at hl 5 rfl) ?_
          refine lv_iconst (v := (-1)) hx hb dX9_extreme_100 (by decide) ?_
          refine lv_icmp_eq (tgt := 134) hx hb dX9_extreme_101 (by decide) (fun k46 => ?_) (fun k46 => ?_)
          · replace hf := ifp k46 hf
            refine lv_iload hx hb dX9_extreme_134 (lv_at hl 7 rfl) ?_
            refine lv_istore (lv' := [(4, .int x7), (8, .int r37), (0, .ref (ad 0)), (1, .int x1), (2, .int x2), (3, .int x3), (5, .long x5), (7, .int x7)]) hx hb dX9_extreme_136 hl (by decide) rfl (fun ls hl => ?_)
            refine lv_aload_n hx hb dX9_extreme_138 rfl (lv_at hl 2 rfl) ?_
            refine va_get (D := (dC, dI)) (ci := 9) (v := .long c_paidAll_42) (C := RX9) (T := TX9) (N := 45) hx hb hts (fun w h => gw_mem (inX9 w h)) hown hK.1 hP 0 rfl rfl 32 (by decide) (hts _ (gw_mem wfX9_345)) (fun _ h9 => h9) rfl dX9_extreme_139 ?_
            refine lv_lstore (lv' := [(5, .long c_paidAll_42), (4, .int x7), (8, .int r37), (0, .ref (ad 0)), (1, .int x1), (2, .int x2), (3, .int x3), (7, .int x7)]) hx hb dX9_extreme_142 hl (by decide) rfl (fun ls hl => ?_)
            obtain ⟨w47, ew47⟩ : ∃ y : Int32, y = x7 + 1 := ⟨_, rfl⟩
            replace hf := nm_at hf ew47
            refine lv_iinc (v := w47) (lv' := [(7, .int w47), (5, .long c_paidAll_42), (4, .int x7), (8, .int r37), (0, .ref (ad 0)), (1, .int x1), (2, .int x2), (3, .int x3)]) hx hb dX9_extreme_144 hl (k := 7) rfl (by rw [ew47]; rfl) (by decide) rfl (fun ls hl => ?_)
            refine lv_goto (tgt := 39) hx hb dX9_extreme_147 (by decide) ?_
            exact ih39 _ _ _ _ _ _ _ _ _ _ _ _ _ _ _ _ _ _ _ _ _ _ _ _ _ _ _ _ _ _ _ _ _ _ _ _ _ _ _ _ _ _ _ _ _ _ _ _ _ _ _ _ _ _ _ _ _ _ _ _ _ _ hP hD hS hf (lv_sub hl [4, 5, 6, 7, 2, 1, 0] rfl) hk
          · replace hf := ifn k46 hf
            refine lv_iload_n hx hb dX9_extreme_104 rfl (lv_at hl 3 rfl) ?_
            refine lv_if_eq (tgt := 121) hx hb dX9_extreme_105 (by decide) (fun k48 => ?_) (fun k48 => ?_)
            · replace hf := ifp k48 hf
              refine lv_aload_n hx hb dX9_extreme_121 rfl (lv_at hl 1 rfl) ?_
              refine va_get (D := (dC, dI)) (ci := 9) (v := .long c_paidAll_42) (C := RX9) (T := TX9) (N := 45) hx hb hts (fun w h => gw_mem (inX9 w h)) hown hK.1 hP 0 rfl rfl 32 (by decide) (hts _ (gw_mem wfX9_345)) (fun _ h9 => h9) rfl dX9_extreme_122 ?_
              refine lv_lload hx hb dX9_extreme_125 (lv_at hl 6 rfl) ?_
              refine W.lcmp hx hb dX9_extreme_127 ?_
              refine lv_if_lt (tgt := 134) hx hb dX9_extreme_128 (by decide) (fun k49 => ?_) (fun k49 => ?_)
              · replace hf := ifp (lc_lt.mp k49) hf
                refine lv_iload hx hb dX9_extreme_134 (lv_at hl 7 rfl) ?_
                refine lv_istore (lv' := [(4, .int x7), (8, .int r37), (0, .ref (ad 0)), (1, .int x1), (2, .int x2), (3, .int x3), (5, .long x5), (7, .int x7)]) hx hb dX9_extreme_136 hl (by decide) rfl (fun ls hl => ?_)
                refine lv_aload_n hx hb dX9_extreme_138 rfl (lv_at hl 2 rfl) ?_
                refine va_get (D := (dC, dI)) (ci := 9) (v := .long c_paidAll_42) (C := RX9) (T := TX9) (N := 45) hx hb hts (fun w h => gw_mem (inX9 w h)) hown hK.1 hP 0 rfl rfl 32 (by decide) (hts _ (gw_mem wfX9_345)) (fun _ h9 => h9) rfl dX9_extreme_139 ?_
                refine lv_lstore (lv' := [(5, .long c_paidAll_42), (4, .int x7), (8, .int r37), (0, .ref (ad 0)), (1, .int x1), (2, .int x2), (3, .int x3), (7, .int x7)]) hx hb dX9_extreme_142 hl (by decide) rfl (fun ls hl => ?_)
                obtain ⟨w50, ew50⟩ : ∃ y : Int32, y = x7 + 1 := ⟨_, rfl⟩
                replace hf := nm_at hf ew50
                refine lv_iinc (v := w50) (lv' := [(7, .int w50), (5, .long c_paidAll_42), (4, .int x7), (8, .int r37), (0, .ref (ad 0)), (1, .int x1), (2, .int x2), (3, .int x3)]) hx hb dX9_extreme_144 hl (k := 7) rfl (by rw [ew50]; rfl) (by decide) rfl (fun ls hl => ?_)
                refine lv_goto (tgt := 39) hx hb dX9_extreme_147 (by decide) ?_
                exact ih39 _ _ _ _ _ _ _ _ _ _ _ _ _ _ _ _ _ _ _ _ _ _ _ _ _ _ _ _ _ _ _ _ _ _ _ _ _ _ _ _ _ _ _ _ _ _ _ _ _ _ _ _ _ _ _ _ _ _ _ _ _ _ hP hD hS hf (lv_sub hl [4, 5, 6, 7, 2, 1, 0] rfl) hk
              · replace hf := ifn (fun h => k49 (lc_lt.mpr h)) hf
                refine lv_goto (tgt := 144) hx hb dX9_extreme_131 (by decide) ?_
                obtain ⟨w51, ew51⟩ : ∃ y : Int32, y = x7 + 1 := ⟨_, rfl⟩
                replace hf := nm_at hf ew51
                refine lv_iinc (v := w51) (lv' := [(7, .int w51), (8, .int r37), (0, .ref (ad 0)), (1, .int x1), (2, .int x2), (3, .int x3), (4, .int x4), (5, .long x5)]) hx hb dX9_extreme_144 hl (k := 7) rfl (by rw [ew51]; rfl) (by decide) rfl (fun ls hl => ?_)
                refine lv_goto (tgt := 39) hx hb dX9_extreme_147 (by decide) ?_
                exact ih39 _ _ _ _ _ _ _ _ _ _ _ _ _ _ _ _ _ _ _ _ _ _ _ _ _ _ _ _ _ _ _ _ _ _ _ _ _ _ _ _ _ _ _ _ _ _ _ _ _ _ _ _ _ _ _ _ _ _ _ _ _ _ hP hD hS hf (lv_sub hl [2, 3, 4, 5, 6, 7, 0] rfl) hk
            · replace hf := ifn k48 hf
              refine lv_aload_n hx hb dX9_extreme_108 rfl (lv_at hl 1 rfl) ?_
              refine va_get (D := (dC, dI)) (ci := 9) (v := .long c_paidAll_42) (C := RX9) (T := TX9) (N := 45) hx hb hts (fun w h => gw_mem (inX9 w h)) hown hK.1 hP 0 rfl rfl 32 (by decide) (hts _ (gw_mem wfX9_345)) (fun _ h9 => h9) rfl dX9_extreme_109 ?_
              refine lv_lload hx hb dX9_extreme_112 (lv_at hl 6 rfl) ?_
              refine W.lcmp hx hb dX9_extreme_114 ?_
              refine lv_if_gt (tgt := 134) hx hb dX9_extreme_115 (by decide) (fun k52 => ?_) (fun k52 => ?_)
              · replace hf := ifp (lc_gt.mp k52) hf
                refine lv_iload hx hb dX9_extreme_134 (lv_at hl 7 rfl) ?_
                refine lv_istore (lv' := [(4, .int x7), (8, .int r37), (0, .ref (ad 0)), (1, .int x1), (2, .int x2), (3, .int x3), (5, .long x5), (7, .int x7)]) hx hb dX9_extreme_136 hl (by decide) rfl (fun ls hl => ?_)
                refine lv_aload_n hx hb dX9_extreme_138 rfl (lv_at hl 2 rfl) ?_
                refine va_get (D := (dC, dI)) (ci := 9) (v := .long c_paidAll_42) (C := RX9) (T := TX9) (N := 45) hx hb hts (fun w h => gw_mem (inX9 w h)) hown hK.1 hP 0 rfl rfl 32 (by decide) (hts _ (gw_mem wfX9_345)) (fun _ h9 => h9) rfl dX9_extreme_139 ?_
                refine lv_lstore (lv' := [(5, .long c_paidAll_42), (4, .int x7), (8, .int r37), (0, .ref (ad 0)), (1, .int x1), (2, .int x2), (3, .int x3), (7, .int x7)]) hx hb dX9_extreme_142 hl (by decide) rfl (fun ls hl => ?_)
                obtain ⟨w53, ew53⟩ : ∃ y : Int32, y = x7 + 1 := ⟨_, rfl⟩
                replace hf := nm_at hf ew53
                refine lv_iinc (v := w53) (lv' := [(7, .int w53), (5, .long c_paidAll_42), (4, .int x7), (8, .int r37), (0, .ref (ad 0)), (1, .int x1), (2, .int x2), (3, .int x3)]) hx hb dX9_extreme_144 hl (k := 7) rfl (by rw [ew53]; rfl) (by decide) rfl (fun ls hl => ?_)
                refine lv_goto (tgt := 39) hx hb dX9_extreme_147 (by decide) ?_
                exact ih39 _ _ _ _ _ _ _ _ _ _ _ _ _ _ _ _ _ _ _ _ _ _ _ _ _ _ _ _ _ _ _ _ _ _ _ _ _ _ _ _ _ _ _ _ _ _ _ _ _ _ _ _ _ _ _ _ _ _ _ _ _ _ hP hD hS hf (lv_sub hl [4, 5, 6, 7, 2, 1, 0] rfl) hk
              · replace hf := ifn (fun h => k52 (lc_gt.mpr h)) hf
                refine lv_goto (tgt := 144) hx hb dX9_extreme_118 (by decide) ?_
                obtain ⟨w54, ew54⟩ : ∃ y : Int32, y = x7 + 1 := ⟨_, rfl⟩
                replace hf := nm_at hf ew54
                refine lv_iinc (v := w54) (lv' := [(7, .int w54), (8, .int r37), (0, .ref (ad 0)), (1, .int x1), (2, .int x2), (3, .int x3), (4, .int x4), (5, .long x5)]) hx hb dX9_extreme_144 hl (k := 7) rfl (by rw [ew54]; rfl) (by decide) rfl (fun ls hl => ?_)
                refine lv_goto (tgt := 39) hx hb dX9_extreme_147 (by decide) ?_
                exact ih39 _ _ _ _ _ _ _ _ _ _ _ _ _ _ _ _ _ _ _ _ _ _ _ _ _ _ _ _ _ _ _ _ _ _ _ _ _ _ _ _ _ _ _ _ _ _ _ _ _ _ _ _ _ _ _ _ _ _ _ _ _ _ hP hD hS hf (lv_sub hl [2, 3, 4, 5, 6, 7, 0] rfl) hk
  subst hQ
  unfold fX9_extreme at hf
  refine lv_iload_n hx hb dX9_extreme_0 rfl (lv_at hl 1 rfl) ?_
  obtain ⟨r1, v2, hf⟩ := bd1_some hf
  refine gci0 (va_runS (As := [.int p1]) (rest := []) ⟨hx, hb, hml, hown, hts⟩ (tX9_isBond l dC dI dA s.heap.size v2) (ccX9_X9_isBond hts ⟨Nat.le_of_ble_eq_true rfl, Nat.le_of_ble_eq_true rfl⟩) (gPreS0 hK) rfl rfl hl.1 rfl (lv_room (Nat.le_of_ble_eq_true rfl)) dX9_extreme_1 ⟨Nat.le_of_ble_eq_true rfl, Nat.le_of_ble_eq_true rfl⟩) hP hS hA (fun H locs hP hS => ?_)
  refine lv_if_eq (tgt := 17) hx hb dX9_extreme_4 (by decide) (fun k3 => ?_) (fun k3 => ?_)
  · replace hf := ifp k3 hf
    refine lv_ldc2 (v := (-1)) hx hb hown (hts _ (gw_mem wkX9_116)) dX9_extreme_17 ?_
    cases hf
    exact W.lret hx hb hr (fun t ht _ => gql hP hD hS ht) hS.2.2 dX9_extreme_20
  · replace hf := ifn k3 hf
    refine lv_iload_n hx hb dX9_extreme_7 rfl (lv_at hl 3 rfl) ?_
    refine lv_i2l hx hb dX9_extreme_8 rfl ?_
    refine lv_lconst (v := 0) hx hb dX9_extreme_9 rfl ?_
    refine lv_lconst (v := 1) hx hb dX9_extreme_10 rfl ?_
    obtain ⟨r4, v5, hf⟩ := bd1_some hf
    refine gci0 (va_runS (As := [.long (Int32.toInt64 p3), .long 0, .long 1]) (rest := []) ⟨hx, hb, hml, hown, hts⟩ (tX9_in l dC dI dA H.size v5) (ccX9_X9_in hts ⟨Nat.le_of_ble_eq_true rfl, Nat.le_of_ble_eq_true rfl⟩) (gPreS0 hK) rfl rfl hl.1 rfl (lv_room (Nat.le_of_ble_eq_true rfl)) dX9_extreme_11 ⟨Nat.le_of_ble_eq_true rfl, Nat.le_of_ble_eq_true rfl⟩) hP hS hA (fun H locs hP hS => ?_)
    refine lv_if_ne (tgt := 21) hx hb dX9_extreme_14 (by decide) (fun k6 => ?_) (fun k6 => ?_)
    · replace hf := ifn k6 hf
      refine lv_aload_n hx hb dX9_extreme_21 rfl (lv_at hl 0 rfl) ?_
      refine lv_iload_n hx hb dX9_extreme_22 rfl (lv_at hl 1 rfl) ?_
      obtain ⟨c_days_7, c_likely_8, c_outOf_9, c_rateNow_10, c_pence_11, c_top_12, c_bottom_13, c_worth_14, c_hold_15, c_acts_16, v17, hf⟩ := bd10_some hf
      refine gcv (va_runV (As := [.int p1]) (rest := []) ⟨hx, hb, hml, hown, hts⟩ (tX9_playsNow l dC dI dA ad H.size v17) (ccX9_X9_playsNow hts ⟨Nat.le_of_ble_eq_true rfl, Nat.le_of_ble_eq_true rfl⟩) (gPreV (ci := 9) (q0 := 0) hP hK hD rfl rfl) rfl rfl hl.1 rfl (lv_room (Nat.le_of_ble_eq_true rfl)) dX9_extreme_23 ⟨Nat.le_of_ble_eq_true rfl, Nat.le_of_ble_eq_true rfl⟩) hD hS hA (fun H locs hP hD hS => ?_)
      refine lv_aload_n hx hb dX9_extreme_26 rfl (lv_at hl 0 rfl) ?_
      obtain ⟨c_moves_18, c_aside_19, v20, hf⟩ := bd2_some hf
      refine gcv (va_runV (As := []) (rest := []) ⟨hx, hb, hml, hown, hts⟩ (tX9_swaps l dC dI dA ad H.size v20) (ccX9_X9_swaps hts ⟨Nat.le_of_ble_eq_true rfl, Nat.le_of_ble_eq_true rfl⟩) (gPreV (ci := 9) (q0 := 0) hP hK hD rfl rfl) rfl rfl hl.1 rfl (lv_room (Nat.le_of_ble_eq_true rfl)) dX9_extreme_27 ⟨Nat.le_of_ble_eq_true rfl, Nat.le_of_ble_eq_true rfl⟩) hD hS hA (fun H locs hP hD hS => ?_)
      refine lv_iconst (v := (-1)) hx hb dX9_extreme_30 (by decide) ?_
      refine lv_istore (lv' := [(4, .int (-1)), (0, .ref (ad 0)), (1, .int p1), (2, .int p2), (3, .int p3)]) hx hb dX9_extreme_31 hl (by decide) rfl (fun ls hl => ?_)
      refine lv_lconst (v := 0) hx hb dX9_extreme_33 rfl ?_
      refine lv_lstore (lv' := [(5, .long 0), (4, .int (-1)), (0, .ref (ad 0)), (1, .int p1), (2, .int p2), (3, .int p3)]) hx hb dX9_extreme_34 hl (by decide) rfl (fun ls hl => ?_)
      refine lv_iconst (v := 0) hx hb dX9_extreme_36 (by decide) ?_
      refine lv_istore (lv' := [(7, .int 0), (5, .long 0), (4, .int (-1)), (0, .ref (ad 0)), (1, .int p1), (2, .int p2), (3, .int p3)]) hx hb dX9_extreme_37 hl (by decide) rfl (fun ls hl => ?_)
      obtain ⟨x21, x22, c_moves_23, c_sDay_24, c_sUps_25, c_sUp_26, c_sMarks_27, c_paidAll_28, v29, hf⟩ := bd8_some hf
      refine LP39 FU _ _ _ _ _ _ _ _ _ _ _ _ _ _ _ _ _ _ _ _ _ _ _ _ _ _ _ _ _ _ _ _ _ _ _ _ _ _ _ _ _ _ _ _ _ _ _ _ _ _ _ _ _ _ _ _ _ _ _ _ _ _ hP hD hS v29 (lv_sub hl [3, 4, 5, 6, 2, 1, 0] rfl) (fun H locs ls hP hD hS hl => ?_)
      refine lv_aload_n hx hb dX9_extreme_150 rfl (lv_at hl 0 rfl) ?_
      obtain ⟨c_moves_30, c_aside_31, v32, hf⟩ := bd2_some hf
      refine gcv (va_runV (As := []) (rest := []) ⟨hx, hb, hml, hown, hts⟩ (tX9_swaps l dC dI dA ad H.size v32) (ccX9_X9_swaps hts ⟨Nat.le_of_ble_eq_true rfl, Nat.le_of_ble_eq_true rfl⟩) (gPreV (ci := 9) (q0 := 0) hP hK hD rfl rfl) rfl rfl hl.1 rfl (lv_room (Nat.le_of_ble_eq_true rfl)) dX9_extreme_151 ⟨Nat.le_of_ble_eq_true rfl, Nat.le_of_ble_eq_true rfl⟩) hD hS hA (fun H locs hP hD hS => ?_)
      refine lv_iload_n hx hb dX9_extreme_154 rfl (lv_at hl 1 rfl) ?_
      refine lv_if_ne (tgt := 163) hx hb dX9_extreme_155 (by decide) (fun k33 => ?_) (fun k33 => ?_)
      · replace hf := ifn k33 hf
        refine lv_iload hx hb dX9_extreme_163 (lv_at hl 2 rfl) ?_
        refine lv_i2l hx hb dX9_extreme_165 rfl ?_
        cases hf
        exact W.lret hx hb hr (fun t ht _ => gql hP hD hS ht) hS.2.2 dX9_extreme_166
      · replace hf := ifp k33 hf
        refine lv_lload hx hb dX9_extreme_158 (lv_at hl 3 rfl) ?_
        refine lv_goto (tgt := 166) hx hb dX9_extreme_160 (by decide) ?_
        cases hf
        exact W.lret hx hb hr (fun t ht _ => gql hP hD hS ht) hS.2.2 dX9_extreme_166
    · replace hf := ifp k6 hf
      refine lv_ldc2 (v := (-1)) hx hb hown (hts _ (gw_mem wkX9_116)) dX9_extreme_17 ?_
      cases hf
      exact W.lret hx hb hr (fun t ht _ => gql hP hD hS ht) hS.2.2 dX9_extreme_20
