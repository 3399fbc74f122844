def lpX9_fairRate_16 (x1 : Int32) (x2 : Int64) (c_bonds : Nat → Int32) (c_days : Int32) (c_likely : Int32) (c_outOf : Int32) (c_pence : Nat → Int64) : Nat → Int32 → Int32 → (Nat → Int64) → (Nat → Int64) → (Nat → Int32) → Option (Nat × Int32 × Int32 × (Nat → Int64) × (Nat → Int64) × (Nat → Int32))
  | 0, _, _, _, _, _ => none
  | n + 1, x4, c_rateNow, c_worth, c_hold, c_acts => if 200 < x4 then some (1, x4, c_rateNow, c_worth, c_hold, c_acts) else bd4 (fX9_valueOf x1 c_bonds c_days c_likely c_outOf x4 c_pence c_worth c_hold c_acts) (fun r20 c_worth_21 c_hold_22 c_acts_23 => if x2 < r20 then nm (x4 + 1) (fun w26 => lpX9_fairRate_16 x1 x2 c_bonds c_days c_likely c_outOf c_pence n w26 x4 c_worth_21 c_hold_22 c_acts_23) else some (0, x4, x4, c_worth_21, c_hold_22, c_acts_23))
def fX9_fairRate (p1 : Int32) (p2 : Int64) (c_tree : Nat → Int32) (c_bonds : Nat → Int32) (c_days : Int32) (c_likely : Int32) (c_outOf : Int32) (c_rateNow : Int32) (c_pence : Nat → Int64) (c_top : Int64) (c_bottom : Int64) (c_worth : Nat → Int64) (c_hold : Nat → Int64) (c_acts : Nat → Int32) : Option (Int32 × Int32 × Int32 × Int32 × Int32 × (Nat → Int64) × Int64 × Int64 × (Nat → Int64) × (Nat → Int64) × (Nat → Int32)) := bd1 (fX9_isBond p1) (fun r1 => if r1 = 0 then some ((-1), c_days, c_likely, c_outOf, c_rateNow, c_pence, c_top, c_bottom, c_worth, c_hold, c_acts) else bd7 (fX9_takesNow c_tree c_days c_likely c_outOf c_rateNow c_pence c_top c_bottom) (fun c_days_4 c_likely_5 c_outOf_6 c_rateNow_7 c_pence_8 c_top_9 c_bottom_10 => bd6 (lpX9_fairRate_16 p1 p2 c_bonds c_days_4 c_likely_5 c_outOf_6 c_pence_8 FU 0 c_rateNow_7 c_worth c_hold c_acts) (fun tg12 x13 c_rateNow_14 c_worth_15 c_hold_16 c_acts_17 => if tg12 = 0 then some (x13, c_days_4, c_likely_5, c_outOf_6, c_rateNow_14, c_pence_8, c_top_9, c_bottom_10, c_worth_15, c_hold_16, c_acts_17) else some ((-2), c_days_4, c_likely_5, c_outOf_6, c_rateNow_14, c_pence_8, c_top_9, c_bottom_10, c_worth_15, c_hold_16, c_acts_17))))
abbrev rmX9_fairRate : Room := { frames := 7, cells := 0, slots := 0, locals := 184 }
set_option maxHeartbeats 4000000 in
set_option maxRecDepth 100000 in
theorem tX9_fairRate (l : Launch) (dC : Nat → ClassId) (dI : Nat → Nat → Nat) (dA : Nat → ClassId) (ad : Nat → Nat) (sz : Nat) {p1 : Int32} {p2 : Int64} {c_tape : Nat → Int32} {c_taped : Int32} {c_tree : Nat → Int32} {c_bonds : Nat → Int32} {c_moves : Nat → Int32} {c_handMoves : Nat → Int32} {c_moved : Int32} {c_days : Int32} {c_likely : Int32} {c_outOf : Int32} {c_rateNow : Int32} {c_pence : Nat → Int64} {c_top : Int64} {c_bottom : Int64} {c_spot : Int32} {c_textLong : Int32} {c_fault : Int32} {c_number : Int32} {c_numberAt : Int32} {c_figures : Int32} {c_written : Int32} {c_wanted : Int32} {c_found : Int32} {c_drawnNow : Int32} {c_worth : Nat → Int64} {c_hold : Nat → Int64} {c_way : Nat → Int64} {c_acts : Nat → Int32} {c_sDay : Int32} {c_sUps : Int32} {c_sUp : Int32} {c_sMarks : Int32} {c_paidAll : Int64} {c_isPlayed : Int32} {c_isOn : Int32} {c_handMoved : Int32} {c_handPaid : Int64} {c_regret : Int64} {c_aside : Nat → Int32} {c_other : Nat → Int64} {c_states : Int32} {c_kept : Nat → Int32} {c_keptLong : Nat → Int64} {c_keptAt : Int32} {c_isTaking : Int32} {r : Int32} {o_c_days : Int32} {o_c_likely : Int32} {o_c_outOf : Int32} {o_c_rateNow : Int32} {o_c_pence : Nat → Int64} {o_c_top : Int64} {o_c_bottom : Int64} {o_c_worth : Nat → Int64} {o_c_hold : Nat → Int64} {o_c_acts : Nat → Int32} (hf : fX9_fairRate p1 p2 c_tree c_bonds c_days c_likely c_outOf c_rateNow c_pence c_top c_bottom c_worth c_hold c_acts = some (r, o_c_days, o_c_likely, o_c_outOf, o_c_rateNow, o_c_pence, o_c_top, o_c_bottom, o_c_worth, o_c_hold, o_c_acts)) : Met l yX9_fairRate (wq (Cond.code yX9_fairRate cX9_fairRate 5 (some .int))) rmX9_fairRate (gP [.ref (ad 0), .int p1, .long p2] (dC, dI) dA (mW dA ad c_tape c_taped c_tree c_bonds c_moves c_handMoves c_moved c_days c_likely c_outOf c_rateNow c_pence c_top c_bottom c_spot c_textLong c_fault c_number c_numberAt c_figures c_written c_wanted c_found c_drawnNow c_worth c_hold c_way c_acts c_sDay c_sUps c_sUp c_sMarks c_paidAll c_isPlayed c_isOn c_handMoved c_handPaid c_regret c_aside c_other c_states c_kept c_keptLong c_keptAt c_isTaking) sz) (gQi (dC, dI) r (mW dA ad c_tape c_taped c_tree c_bonds c_moves c_handMoves c_moved o_c_days o_c_likely o_c_outOf o_c_rateNow o_c_pence o_c_top o_c_bottom c_spot c_textLong c_fault c_number c_numberAt c_figures c_written c_wanted c_found c_drawnNow o_c_worth o_c_hold c_way o_c_acts c_sDay c_sUps c_sUp c_sMarks c_paidAll c_isPlayed c_isOn c_handMoved c_handPaid c_regret c_aside c_other c_states c_kept c_keptLong c_keptAt c_isTaking) (va_A (mW dA ad c_tape c_taped c_tree c_bonds c_moves c_handMoves c_moved c_days c_likely c_outOf c_rateNow c_pence c_top c_bottom c_spot c_textLong c_fault c_number c_numberAt c_figures c_written c_wanted c_found c_drawnNow c_worth c_hold c_way c_acts c_sDay c_sUps c_sUp c_sMarks c_paidAll c_isPlayed c_isOn c_handMoved c_handPaid c_regret c_aside c_other c_states c_kept c_keptLong c_keptAt c_isTaking) sz)) 0 0 (va_A (mW dA ad c_tape c_taped c_tree c_bonds c_moves c_handMoves c_moved c_days c_likely c_outOf c_rateNow c_pence c_top c_bottom c_spot c_textLong c_fault c_number c_numberAt c_figures c_written c_wanted c_found c_drawnNow c_worth c_hold c_way c_acts c_sDay c_sUps c_sUp c_sMarks c_paidAll c_isPlayed c_isOn c_handMoved c_handPaid c_regret c_aside c_other c_states c_kept c_keptLong c_keptAt c_isTaking) sz) := by
  refine Met.ofW (cc := cX9_fairRate) (maxL := 5) (ret := (some .int)) (by decide) rfl ?_
  intro p e s m args below meth c s₁ B hml hv
  obtain ⟨rfl, hsz, hP, hK, hD0⟩ := hv
  have hx := B.exec
  have hb := B.bytes
  have hr := B.returns
  have hts := atoms_spec (ws := wq (Cond.code yX9_fairRate cX9_fairRate 5 (some .int))) B.pre
  have hown : s.vm.findClass RX9 = some m.cls := findClass_of_methodNamed B.named
  have hlocks := B.notSynchronized
  clear B
  subst hsz
  have hD := hD0.self (sz := s.heap.size)
  generalize hAe : va_A (mW dA ad c_tape c_taped c_tree c_bonds c_moves c_handMoves c_moved c_days c_likely c_outOf c_rateNow c_pence c_top c_bottom c_spot c_textLong c_fault c_number c_numberAt c_figures c_written c_wanted c_found c_drawnNow c_worth c_hold c_way c_acts c_sDay c_sUps c_sUp c_sMarks c_paidAll c_isPlayed c_isOn c_handMoved c_handPaid c_regret c_aside c_other c_states c_kept c_keptLong c_keptAt c_isTaking) s.heap.size = A at hD ⊢
  have hA : ∀ q : Nat, s.heap.size ≤ q → A q := fun q h => by rw [← hAe]; exact Or.inr h
  clear hAe hD0
  have hS : va_S A s.heap s.heap [] := va_S.rf
  have hl := lv_entry ([.ref (ad 0), .int p1, .long p2]) (n := 5) (Nat.le_of_ble_eq_true rfl)
  rw [lg_entry_eq]
  generalize (lg_sl ([.ref (ad 0), .int p1, .long p2]) ++ List.replicate (5 - (lg_sl ([.ref (ad 0), .int p1, .long p2])).length) Slot.unset).toArray = ls at hl ⊢
  have hl : lv_has ls 5 [(0, .ref (ad 0)), (1, .int p1), (2, .long p2)] := hl
  change W p l e rmX9_fairRate s m ([.ref (ad 0), .int p1, .long p2] : List Value).toArray below meth c s.heap [] 0 0 _ _
  generalize hQ : MQ below (gQi (dC, dI) r (mW dA ad c_tape c_taped c_tree c_bonds c_moves c_handMoves c_moved o_c_days o_c_likely o_c_outOf o_c_rateNow o_c_pence o_c_top o_c_bottom c_spot c_textLong c_fault c_number c_numberAt c_figures c_written c_wanted c_found c_drawnNow o_c_worth o_c_hold c_way o_c_acts c_sDay c_sUps c_sUp c_sMarks c_paidAll c_isPlayed c_isOn c_handMoved c_handPaid c_regret c_aside c_other c_states c_kept c_keptLong c_keptAt c_isTaking) A) ([.ref (ad 0), .int p1, .long p2] : List Value).toArray s 0 0 A = Q
  have LP16 : ∀ (n : Nat) (x1 : Int32) (x2 : Int64) (c_bonds : Nat → Int32) (c_days : Int32) (c_likely : Int32) (c_outOf : Int32) (c_pence : Nat → Int64) (c_tape : Nat → Int32) (c_taped : Int32) (c_tree : Nat → Int32) (c_moves : Nat → Int32) (c_handMoves : Nat → Int32) (c_moved : Int32) (c_top : Int64) (c_bottom : Int64) (c_spot : Int32) (c_textLong : Int32) (c_fault : Int32) (c_number : Int32) (c_numberAt : Int32) (c_figures : Int32) (c_written : Int32) (c_wanted : Int32) (c_found : Int32) (c_drawnNow : Int32) (c_way : Nat → Int64) (c_sDay : Int32) (c_sUps : Int32) (c_sUp : Int32) (c_sMarks : Int32) (c_paidAll : Int64) (c_isPlayed : Int32) (c_isOn : Int32) (c_handMoved : Int32) (c_handPaid : Int64) (c_regret : Int64) (c_aside : Nat → Int32) (c_other : Nat → Int64) (c_states : Int32) (c_kept : Nat → Int32) (c_keptLong : Nat → Int64) (c_keptAt : Int32) (c_isTaking : Int32) (x4 : Int32) (c_rateNow : Int32) (c_worth : Nat → Int64) (c_hold : Nat → Int64) (c_acts : Nat → Int32) (tgo : Nat) (o4 : Int32) (o_c_rateNow : Int32) (o_c_worth : Nat → Int64) (o_c_hold : Nat → Int64) (o_c_acts : Nat → Int32) (H : Heap) (locs : List Loc) (ls : Array Slot), va_P (dC, dI) vwCl (mW dA ad c_tape c_taped c_tree c_bonds c_moves c_handMoves c_moved c_days c_likely c_outOf c_rateNow c_pence c_top c_bottom c_spot c_textLong c_fault c_number c_numberAt c_figures c_written c_wanted c_found c_drawnNow c_worth c_hold c_way c_acts c_sDay c_sUps c_sUp c_sMarks c_paidAll c_isPlayed c_isOn c_handMoved c_handPaid c_regret c_aside c_other c_states c_kept c_keptLong c_keptAt c_isTaking) H → va_D A (mW dA ad c_tape c_taped c_tree c_bonds c_moves c_handMoves c_moved c_days c_likely c_outOf c_rateNow c_pence c_top c_bottom c_spot c_textLong c_fault c_number c_numberAt c_figures c_written c_wanted c_found c_drawnNow c_worth c_hold c_way c_acts c_sDay c_sUps c_sUp c_sMarks c_paidAll c_isPlayed c_isOn c_handMoved c_handPaid c_regret c_aside c_other c_states c_kept c_keptLong c_keptAt c_isTaking) → va_S A s.heap H locs → lpX9_fairRate_16 x1 x2 c_bonds c_days c_likely c_outOf c_pence n x4 c_rateNow c_worth c_hold c_acts = some (tgo, o4, o_c_rateNow, o_c_worth, o_c_hold, o_c_acts) → lv_has ls 5 [(0, .ref (ad 0)), (1, .int x1), (2, .long x2), (4, .int x4)] → (tgo = 0 → ∀ (H : Heap) (locs : List Loc) (ls : Array Slot), va_P (dC, dI) vwCl (mW dA ad c_tape c_taped c_tree c_bonds c_moves c_handMoves c_moved c_days c_likely c_outOf o_c_rateNow c_pence c_top c_bottom c_spot c_textLong c_fault c_number c_numberAt c_figures c_written c_wanted c_found c_drawnNow o_c_worth o_c_hold c_way o_c_acts c_sDay c_sUps c_sUp c_sMarks c_paidAll c_isPlayed c_isOn c_handMoved c_handPaid c_regret c_aside c_other c_states c_kept c_keptLong c_keptAt c_isTaking) H → va_D A (mW dA ad c_tape c_taped c_tree c_bonds c_moves c_handMoves c_moved c_days c_likely c_outOf o_c_rateNow c_pence c_top c_bottom c_spot c_textLong c_fault c_number c_numberAt c_figures c_written c_wanted c_found c_drawnNow o_c_worth o_c_hold c_way o_c_acts c_sDay c_sUps c_sUp c_sMarks c_paidAll c_isPlayed c_isOn c_handMoved c_handPaid c_regret c_aside c_other c_states c_kept c_keptLong c_keptAt c_isTaking) → va_S A s.heap H locs → lv_has ls 5 [(4, .int o4)] → W p l e rmX9_fairRate s m ([.ref (ad 0), .int p1, .long p2] : List Value).toArray below meth c H locs 0 0 Q (F0 m 40 ls [])) → (tgo = 1 → ∀ (H : Heap) (locs : List Loc) (ls : Array Slot), va_P (dC, dI) vwCl (mW dA ad c_tape c_taped c_tree c_bonds c_moves c_handMoves c_moved c_days c_likely c_outOf o_c_rateNow c_pence c_top c_bottom c_spot c_textLong c_fault c_number c_numberAt c_figures c_written c_wanted c_found c_drawnNow o_c_worth o_c_hold c_way o_c_acts c_sDay c_sUps c_sUp c_sMarks c_paidAll c_isPlayed c_isOn c_handMoved c_handPaid c_regret c_aside c_other c_states c_kept c_keptLong c_keptAt c_isTaking) H → va_D A (mW dA ad c_tape c_taped c_tree c_bonds c_moves c_handMoves c_moved c_days c_likely c_outOf o_c_rateNow c_pence c_top c_bottom c_spot c_textLong c_fault c_number c_numberAt c_figures c_written c_wanted c_found c_drawnNow o_c_worth o_c_hold c_way o_c_acts c_sDay c_sUps c_sUp c_sMarks c_paidAll c_isPlayed c_isOn c_handMoved c_handPaid c_regret c_aside c_other c_states c_kept c_keptLong c_keptAt c_isTaking) → va_S A s.heap H locs → lv_has ls 5 [] → W p l e rmX9_fairRate s m ([.ref (ad 0), .int p1, .long p2] : List Value).toArray below meth c H locs 0 0 Q (F0 m 49 ls [])) → W p l e rmX9_fairRate s m ([.ref (ad 0), .int p1, .long p2] : List Value).toArray below meth c H locs 0 0 Q (F0 m 16 ls []) := by
    intro n
    induction n with
    | zero =>
      intro x1 x2 c_bonds c_days c_likely c_outOf c_pence c_tape c_taped c_tree c_moves c_handMoves c_moved c_top c_bottom c_spot c_textLong c_fault c_number c_numberAt c_figures c_written c_wanted c_found c_drawnNow c_way c_sDay c_sUps c_sUp c_sMarks c_paidAll c_isPlayed c_isOn c_handMoved c_handPaid c_regret c_aside c_other c_states c_kept c_keptLong c_keptAt c_isTaking x4 c_rateNow c_worth c_hold c_acts tgo o4 o_c_rateNow o_c_worth o_c_hold o_c_acts H locs ls hP hD hS hf hl hk0 hk1
      cases hf
    | succ n ih16 =>
      intro x1 x2 c_bonds c_days c_likely c_outOf c_pence c_tape c_taped c_tree c_moves c_handMoves c_moved c_top c_bottom c_spot c_textLong c_fault c_number c_numberAt c_figures c_written c_wanted c_found c_drawnNow c_way c_sDay c_sUps c_sUp c_sMarks c_paidAll c_isPlayed c_isOn c_handMoved c_handPaid c_regret c_aside c_other c_states c_kept c_keptLong c_keptAt c_isTaking x4 c_rateNow c_worth c_hold c_acts tgo o4 o_c_rateNow o_c_worth o_c_hold o_c_acts H locs ls hP hD hS hf hl hk0 hk1
      rw [lpX9_fairRate_16.eq_2] at hf
      refine lv_iload hx hb dX9_fairRate_16 (lv_at hl 3 rfl) ?_
      refine lv_sipush (v := 200) hx hb dX9_fairRate_18 (by decide) ?_
      refine lv_icmp_gt (tgt := 49) hx hb dX9_fairRate_21 (by decide) (fun k19 => ?_) (fun k19 => ?_)
      · replace hf := ifp k19 hf
        cases hf
        exact hk1 rfl _ _ _ hP hD hS (lv_sub hl [] rfl)
      · replace hf := ifn k19 hf
        refine lv_aload_n hx hb dX9_fairRate_24 rfl (lv_at hl 0 rfl) ?_
        refine lv_iload hx hb dX9_fairRate_25 (lv_at hl 3 rfl) ?_
        refine va_put (D := (dC, dI)) (ci := 9) (v := .int x4) (ty := .int) (C := RX9) (T := TX9) (N := 45) hx hb hts (fun w h => gw_mem (inX9 w h)) tyX9 tyX9_ok nmX9 hown hK.1 hP hD hS 0 rfl rfl 10 (by decide) (hts _ (gw_mem wfX9_103)) (fun _ h9 => h9) rfl (by decide +kernel) rfl rfl (Nat.le_of_ble_eq_true rfl) dX9_fairRate_27 (fun H locs hP hD hS => ?_)
        have hP : va_P (dC, dI) vwCl (mW dA ad c_tape c_taped c_tree c_bonds c_moves c_handMoves c_moved c_days c_likely c_outOf x4 c_pence c_top c_bottom c_spot c_textLong c_fault c_number c_numberAt c_figures c_written c_wanted c_found c_drawnNow c_worth c_hold c_way c_acts c_sDay c_sUps c_sUp c_sMarks c_paidAll c_isPlayed c_isOn c_handMoved c_handPaid c_regret c_aside c_other c_states c_kept c_keptLong c_keptAt c_isTaking) H := hP
        have hD : va_D A (mW dA ad c_tape c_taped c_tree c_bonds c_moves c_handMoves c_moved c_days c_likely c_outOf x4 c_pence c_top c_bottom c_spot c_textLong c_fault c_number c_numberAt c_figures c_written c_wanted c_found c_drawnNow c_worth c_hold c_way c_acts c_sDay c_sUps c_sUp c_sMarks c_paidAll c_isPlayed c_isOn c_handMoved c_handPaid c_regret c_aside c_other c_states c_kept c_keptLong c_keptAt c_isTaking) := hD
        refine lv_aload_n hx hb dX9_fairRate_30 rfl (lv_at hl 0 rfl) ?_
        refine lv_iload_n hx hb dX9_fairRate_31 rfl (lv_at hl 1 rfl) ?_
        obtain ⟨r20, c_worth_21, c_hold_22, c_acts_23, v24, hf⟩ := bd4_some hf
        refine gcl (va_runV (As := [.int x1]) (rest := []) ⟨hx, hb, hml, hown, hts⟩ (tX9_valueOf l dC dI dA ad H.size v24) (ccX9_X9_valueOf hts ⟨Nat.le_of_ble_eq_true rfl, Nat.le_of_ble_eq_true rfl⟩) (gPreV (ci := 9) (q0 := 0) hP hK hD rfl rfl) rfl rfl hl.1 rfl (lv_room (Nat.le_of_ble_eq_true rfl)) dX9_fairRate_32 ⟨Nat.le_of_ble_eq_true rfl, Nat.le_of_ble_eq_true rfl⟩) hD hS hA (fun H locs hP hD hS => ?_)
        refine lv_lload_n hx hb dX9_fairRate_35 rfl (lv_at hl 2 rfl) ?_
        refine W.lcmp hx hb dX9_fairRate_36 ?_
        refine lv_if_gt (tgt := 43) hx hb dX9_fairRate_37 (by decide) (fun k25 => ?_) (fun k25 => ?_)
        · replace hf := ifp (lc_gt.mp k25) hf
          obtain ⟨w26, ew26⟩ : ∃ y : Int32, y = x4 + 1 := ⟨_, rfl⟩
          replace hf := nm_at hf ew26
          refine lv_iinc (v := w26) (lv' := [(4, .int w26), (0, .ref (ad 0)), (1, .int x1), (2, .long x2)]) hx hb dX9_fairRate_43 hl (k := 3) rfl (by rw [ew26]; rfl) (by decide) rfl (fun ls hl => ?_)
          refine lv_goto (tgt := 16) hx hb dX9_fairRate_46 (by decide) ?_
          exact ih16 _ _ _ _ _ _ _ _ _ _ _ _ _ _ _ _ _ _ _ _ _ _ _ _ _ _ _ _ _ _ _ _ _ _ _ _ _ _ _ _ _ _ _ _ _ _ _ _ _ _ _ _ _ _ _ _ _ hP hD hS hf (lv_sub hl [1, 2, 3, 0] rfl) hk0 hk1
        · replace hf := ifn (fun h => k25 (lc_gt.mpr h)) hf
          cases hf
          exact hk0 rfl _ _ _ hP hD hS (lv_sub hl [3] rfl)
  subst hQ
  unfold fX9_fairRate at hf
  refine lv_iload_n hx hb dX9_fairRate_0 rfl (lv_at hl 1 rfl) ?_
  obtain ⟨r1, v2, hf⟩ := bd1_some hf
  refine gci0 (va_runS (As := [.int p1]) (rest := []) ⟨hx, hb, hml, hown, hts⟩ (tX9_isBond l dC dI dA s.heap.size v2) (ccX9_X9_isBond hts ⟨Nat.le_of_ble_eq_true rfl, Nat.le_of_ble_eq_true rfl⟩) (gPreS0 hK) rfl rfl hl.1 rfl (lv_room (Nat.le_of_ble_eq_true rfl)) dX9_fairRate_1 ⟨Nat.le_of_ble_eq_true rfl, Nat.le_of_ble_eq_true rfl⟩) hP hS hA (fun H locs hP hS => ?_)
  refine lv_if_ne (tgt := 9) hx hb dX9_fairRate_4 (by decide) (fun k3 => ?_) (fun k3 => ?_)
  · replace hf := ifn k3 hf
    refine lv_aload_n hx hb dX9_fairRate_9 rfl (lv_at hl 0 rfl) ?_
    obtain ⟨c_days_4, c_likely_5, c_outOf_6, c_rateNow_7, c_pence_8, c_top_9, c_bottom_10, v11, hf⟩ := bd7_some hf
    refine gcv (va_runV (As := []) (rest := []) ⟨hx, hb, hml, hown, hts⟩ (tX9_takesNow l dC dI dA ad H.size v11) (ccX9_X9_takesNow hts ⟨Nat.le_of_ble_eq_true rfl, Nat.le_of_ble_eq_true rfl⟩) (gPreV (ci := 9) (q0 := 0) hP hK hD rfl rfl) rfl rfl hl.1 rfl (lv_room (Nat.le_of_ble_eq_true rfl)) dX9_fairRate_10 ⟨Nat.le_of_ble_eq_true rfl, Nat.le_of_ble_eq_true rfl⟩) hD hS hA (fun H locs hP hD hS => ?_)
    refine lv_iconst (v := 0) hx hb dX9_fairRate_13 (by decide) ?_
    refine lv_istore (lv' := [(4, .int 0), (0, .ref (ad 0)), (1, .int p1), (2, .long p2)]) hx hb dX9_fairRate_14 hl (by decide) rfl (fun ls hl => ?_)
    obtain ⟨tg12, x13, c_rateNow_14, c_worth_15, c_hold_16, c_acts_17, v18, hf⟩ := bd6_some hf
    refine LP16 FU _ _ _ _ _ _ _ _ _ _ _ _ _ _ _ _ _ _ _ _ _ _ _ _ _ _ _ _ _ _ _ _ _ _ _ _ _ _ _ _ _ _ _ _ _ _ _ _ _ _ _ _ _ _ _ _ _ hP hD hS v18 (lv_sub hl [1, 2, 3, 0] rfl) (fun etg12 H locs ls hP hD hS hl => ?_) (fun etg12 H locs ls hP hD hS hl => ?_)
    · replace hf := ifp etg12 hf
      refine lv_iload hx hb dX9_fairRate_40 (lv_at hl 0 rfl) ?_
      cases hf
      exact W.iret hx hb hr (fun t ht _ => gqi hP hD hS ht) hS.2.2 dX9_fairRate_42
    · replace hf := ifn (c := tg12 = 0) (by rw [etg12]; decide) hf
      refine lv_bipush (v := (-2)) hx hb dX9_fairRate_49 (by decide) ?_
      cases hf
      exact W.iret hx hb hr (fun t ht _ => gqi hP hD hS ht) hS.2.2 dX9_fairRate_51
  · replace hf := ifp k3 hf
    refine lv_iconst (v := (-1)) hx hb dX9_fairRate_7 (by decide) ?_
    cases hf
    exact W.iret hx hb hr (fun t ht _ => gqi hP hD hS ht) hS.2.2 dX9_fairRate_8
def lpX9_bestOne_47 (x1 : Int32) (x2 : Int32) (x3 : Int32) (x4 : Int32) (c_days : Int32) (c_likely : Int32) (c_outOf : Int32) (c_rateNow : Int32) (c_pence : Nat → Int64) : Nat → Int32 → Int64 → Int32 → (Nat → Int32) → (Nat → Int64) → (Nat → Int64) → (Nat → Int32) → Option (Int32 × Int64 × (Nat → Int32) × (Nat → Int64) × (Nat → Int64) × (Nat → Int32))
  | 0, _, _, _, _, _, _, _ => none
  | n + 1, x5, x6, x8, c_bonds, c_worth, c_hold, c_acts => if c_days ≤ x8 then some (x5, x6, c_bonds, c_worth, c_hold, c_acts) else bd1 (fX9_copies x1 3 c_bonds) (fun c_bonds_27 => bd1 (fX9_sets 3 (x2 + x8) x3 c_bonds_27) (fun c_bonds_29 => bd4 (fX9_valueOf 3 c_bonds_29 c_days c_likely c_outOf c_rateNow c_pence c_worth c_hold c_acts) (fun r31 c_worth_32 c_hold_33 c_acts_34 => if x5 = (-1) then nm (x8 + 1) (fun w37 => lpX9_bestOne_47 x1 x2 x3 x4 c_days c_likely c_outOf c_rateNow c_pence n x8 r31 w37 c_bonds_29 c_worth_32 c_hold_33 c_acts_34) else if x2 = 9 then if r31 < x6 then nm (x8 + 1) (fun w43 => lpX9_bestOne_47 x1 x2 x3 x4 c_days c_likely c_outOf c_rateNow c_pence n x8 r31 w43 c_bonds_29 c_worth_32 c_hold_33 c_acts_34) else nm (x8 + 1) (fun w44 => lpX9_bestOne_47 x1 x2 x3 x4 c_days c_likely c_outOf c_rateNow c_pence n x5 x6 w44 c_bonds_29 c_worth_32 c_hold_33 c_acts_34) else if x6 < r31 then nm (x8 + 1) (fun w40 => lpX9_bestOne_47 x1 x2 x3 x4 c_days c_likely c_outOf c_rateNow c_pence n x8 r31 w40 c_bonds_29 c_worth_32 c_hold_33 c_acts_34) else nm (x8 + 1) (fun w41 => lpX9_bestOne_47 x1 x2 x3 x4 c_days c_likely c_outOf c_rateNow c_pence n x5 x6 w41 c_bonds_29 c_worth_32 c_hold_33 c_acts_34))))
def fX9_bestOne (p1 : Int32) (p2 : Int32) (p3 : Int32) (p4 : Int32) (c_tree : Nat → Int32) (c_bonds : Nat → Int32) (c_days : Int32) (c_likely : Int32) (c_outOf : Int32) (c_rateNow : Int32) (c_pence : Nat → Int64) (c_top : Int64) (c_bottom : Int64) (c_worth : Nat → Int64) (c_hold : Nat → Int64) (c_acts : Nat → Int32) : Option (Int64 × (Nat → Int32) × Int32 × Int32 × Int32 × Int32 × (Nat → Int64) × Int64 × Int64 × (Nat → Int64) × (Nat → Int64) × (Nat → Int32)) := bd1 (fX9_isBond p1) (fun r1 => if r1 = 0 then some ((-1), c_bonds, c_days, c_likely, c_outOf, c_rateNow, c_pence, c_top, c_bottom, c_worth, c_hold, c_acts) else bd1 (fX9_in (Int32.toInt64 p3) 0 1000000) (fun r4 => if r4 = 0 then some ((-1), c_bonds, c_days, c_likely, c_outOf, c_rateNow, c_pence, c_top, c_bottom, c_worth, c_hold, c_acts) else bd1 (fX9_in (Int32.toInt64 p4) 0 1) (fun r7 => if r7 = 0 then some ((-1), c_bonds, c_days, c_likely, c_outOf, c_rateNow, c_pence, c_top, c_bottom, c_worth, c_hold, c_acts) else bd7 (fX9_takesNow c_tree c_days c_likely c_outOf c_rateNow c_pence c_top c_bottom) (fun c_days_10 c_likely_11 c_outOf_12 c_rateNow_13 c_pence_14 c_top_15 c_bottom_16 => bd6 (lpX9_bestOne_47 p1 p2 p3 p4 c_days_10 c_likely_11 c_outOf_12 c_rateNow_13 c_pence_14 FU (-1) 0 0 c_bonds c_worth c_hold c_acts) (fun x18 x19 c_bonds_20 c_worth_21 c_hold_22 c_acts_23 => if p4 = 0 then some (Int32.toInt64 x18, c_bonds_20, c_days_10, c_likely_11, c_outOf_12, c_rateNow_13, c_pence_14, c_top_15, c_bottom_16, c_worth_21, c_hold_22, c_acts_23) else some (x19, c_bonds_20, c_days_10, c_likely_11, c_outOf_12, c_rateNow_13, c_pence_14, c_top_15, c_bottom_16, c_worth_21, c_hold_22, c_acts_23))))))
abbrev rmX9_bestOne : Room := { frames := 7, cells := 0, slots := 0, locals := 184 }
set_option maxHeartbeats 4000000 in
set_option maxRecDepth 100000 in
theorem tX9_bestOne (l : Launch) (dC : Nat → ClassId) (dI : Nat → Nat → Nat) (dA : Nat → ClassId) (ad : Nat → Nat) (sz : Nat) {p1 : Int32} {p2 : Int32} {p3 : Int32} {p4 : Int32} {c_tape : Nat → Int32} {c_taped : Int32} {c_tree : Nat → Int32} {c_bonds : Nat → Int32} {c_moves : Nat → Int32} {c_handMoves : Nat → Int32} {c_moved : Int32} {c_days : Int32} {c_likely : Int32} {c_outOf : Int32} {c_rateNow : Int32} {c_pence : Nat → Int64} {c_top : Int64} {c_bottom : Int64} {c_spot : Int32} {c_textLong : Int32} {c_fault : Int32} {c_number : Int32} {c_numberAt : Int32} {c_figures : Int32} {c_written : Int32} {c_wanted : Int32} {c_found : Int32} {c_drawnNow : Int32} {c_worth : Nat → Int64} {c_hold : Nat → Int64} {c_way : Nat → Int64} {c_acts : Nat → Int32} {c_sDay : Int32} {c_sUps : Int32} {c_sUp : Int32} {c_sMarks : Int32} {c_paidAll : Int64} {c_isPlayed : Int32} {c_isOn : Int32} {c_handMoved : Int32} {c_handPaid : Int64} {c_regret : Int64} {c_aside : Nat → Int32} {c_other : Nat → Int64} {c_states : Int32} {c_kept : Nat → Int32} {c_keptLong : Nat → Int64} {c_keptAt : Int32} {c_isTaking : Int32} {r : Int64} {o_c_bonds : Nat → Int32} {o_c_days : Int32} {o_c_likely : Int32} {o_c_outOf : Int32} {o_c_rateNow : Int32} {o_c_pence : Nat → Int64} {o_c_top : Int64} {o_c_bottom : Int64} {o_c_worth : Nat → Int64} {o_c_hold : Nat → Int64} {o_c_acts : Nat → Int32} (hf : fX9_bestOne p1 p2 p3 p4 c_tree c_bonds c_days c_likely c_outOf c_rateNow c_pence c_top c_bottom c_worth c_hold c_acts = some (r, o_c_bonds, o_c_days, o_c_likely, o_c_outOf, o_c_rateNow, o_c_pence, o_c_top, o_c_bottom, o_c_worth, o_c_hold, o_c_acts)) : Met l yX9_bestOne (wq (Cond.code yX9_bestOne cX9_bestOne 11 (some .long))) rmX9_bestOne (gP [.ref (ad 0), .int p1, .int p2, .int p3, .int p4] (dC, dI) dA (mW dA ad c_tape c_taped c_tree c_bonds c_moves c_handMoves c_moved c_days c_likely c_outOf c_rateNow c_pence c_top c_bottom c_spot c_textLong c_fault c_number c_numberAt c_figures c_written c_wanted c_found c_drawnNow c_worth c_hold c_way c_acts c_sDay c_sUps c_sUp c_sMarks c_paidAll c_isPlayed c_isOn c_handMoved c_handPaid c_regret c_aside c_other c_states c_kept c_keptLong c_keptAt c_isTaking) sz) (gQl (dC, dI) r (mW dA ad c_tape c_taped c_tree o_c_bonds c_moves c_handMoves c_moved o_c_days o_c_likely o_c_outOf o_c_rateNow o_c_pence o_c_top o_c_bottom c_spot c_textLong c_fault c_number c_numberAt c_figures c_written c_wanted c_found c_drawnNow o_c_worth o_c_hold c_way o_c_acts c_sDay c_sUps c_sUp c_sMarks c_paidAll c_isPlayed c_isOn c_handMoved c_handPaid c_regret c_aside c_other c_states c_kept c_keptLong c_keptAt c_isTaking) (va_A (mW dA ad c_tape c_taped c_tree c_bonds c_moves c_handMoves c_moved c_days c_likely c_outOf c_rateNow c_pence c_top c_bottom c_spot c_textLong c_fault c_number c_numberAt c_figures c_written c_wanted c_found c_drawnNow c_worth c_hold c_way c_acts c_sDay c_sUps c_sUp c_sMarks c_paidAll c_isPlayed c_isOn c_handMoved c_handPaid c_regret c_aside c_other c_states c_kept c_keptLong c_keptAt c_isTaking) sz)) 0 0 (va_A (mW dA ad c_tape c_taped c_tree c_bonds c_moves c_handMoves c_moved c_days c_likely c_outOf c_rateNow c_pence c_top c_bottom c_spot c_textLong c_fault c_number c_numberAt c_figures c_written c_wanted c_found c_drawnNow c_worth c_hold c_way c_acts c_sDay c_sUps c_sUp c_sMarks c_paidAll c_isPlayed c_isOn c_handMoved c_handPaid c_regret c_aside c_other c_states c_kept c_keptLong c_keptAt c_isTaking) sz) := by
  refine Met.ofW (cc := cX9_bestOne) (maxL := 11) (ret := (some .long)) (by decide) rfl ?_
  intro p e s m args below meth c s₁ B hml hv
  obtain ⟨rfl, hsz, hP, hK, hD0⟩ := hv
  have hx := B.exec
  have hb := B.bytes
  have hr := B.returns
  have hts := atoms_spec (ws := wq (Cond.code yX9_bestOne cX9_bestOne 11 (some .long))) B.pre
  have hown : s.vm.findClass RX9 = some m.cls := findClass_of_methodNamed B.named
  have hlocks := B.notSynchronized
  clear B
  subst hsz
  have hD := hD0.self (sz := s.heap.size)
  generalize hAe : va_A (mW dA ad c_tape c_taped c_tree c_bonds c_moves c_handMoves c_moved c_days c_likely c_outOf c_rateNow c_pence c_top c_bottom c_spot c_textLong c_fault c_number c_numberAt c_figures c_written c_wanted c_found c_drawnNow c_worth c_hold c_way c_acts c_sDay c_sUps c_sUp c_sMarks c_paidAll c_isPlayed c_isOn c_handMoved c_handPaid c_regret c_aside c_other c_states c_kept c_keptLong c_keptAt c_isTaking) s.heap.size = A at hD ⊢
  have hA : ∀ q : Nat, s.heap.size ≤ q → A q := fun q h => by rw [← hAe]; exact Or.inr h
  clear hAe hD0
  have hS : va_S A s.heap s.heap [] := va_S.rf
  have hl := lv_entry ([.ref (ad 0), .int p1, .int p2, .int p3, .int p4]) (n := 11) (Nat.le_of_ble_eq_true rfl)
  rw [lg_entry_eq]
  generalize (lg_sl ([.ref (ad 0), .int p1, .int p2, .int p3, .int p4]) ++ List.replicate (11 - (lg_sl ([.ref (ad 0), .int p1, .int p2, .int p3, .int p4])).length) Slot.unset).toArray = ls at hl ⊢
  have hl : lv_has ls 11 [(0, .ref (ad 0)), (1, .int p1), (2, .int p2), (3, .int p3), (4, .int p4)] := hl
  change W p l e rmX9_bestOne s m ([.ref (ad 0), .int p1, .int p2, .int p3, .int p4] : List Value).toArray below meth c s.heap [] 0 0 _ _
  generalize hQ : MQ below (gQl (dC, dI) r (mW dA ad c_tape c_taped c_tree o_c_bonds c_moves c_handMoves c_moved o_c_days o_c_likely o_c_outOf o_c_rateNow o_c_pence o_c_top o_c_bottom c_spot c_textLong c_fault c_number c_numberAt c_figures c_written c_wanted c_found c_drawnNow o_c_worth o_c_hold c_way o_c_acts c_sDay c_sUps c_sUp c_sMarks c_paidAll c_isPlayed c_isOn c_handMoved c_handPaid c_regret c_aside c_other c_states c_kept c_keptLong c_keptAt c_isTaking) A) ([.ref (ad 0), .int p1, .int p2, .int p3, .int p4] : List Value).toArray s 0 0 A = Q
  have LP47 : ∀ (n : Nat) (x1 : Int32) (x2 : Int32) (x3 : Int32) (x4 : Int32) (c_days : Int32) (c_likely : Int32) (c_outOf : Int32) (c_rateNow : Int32) (c_pence : Nat → Int64) (c_tape : Nat → Int32) (c_taped : Int32) (c_tree : Nat → Int32) (c_moves : Nat → Int32) (c_handMoves : Nat → Int32) (c_moved : Int32) (c_top : Int64) (c_bottom : Int64) (c_spot : Int32) (c_textLong : Int32) (c_fault : Int32) (c_number : Int32) (c_numberAt : Int32) (c_figures : Int32) (c_written : Int32) (c_wanted : Int32) (c_found : Int32) (c_drawnNow : Int32) (c_way : Nat → Int64) (c_sDay : Int32) (c_sUps : Int32) (c_sUp : Int32) (c_sMarks : Int32) (c_paidAll : Int64) (c_isPlayed : Int32) (c_isOn : Int32) (c_handMoved : Int32) (c_handPaid : Int64) (c_regret : Int64) (c_aside : Nat → Int32) (c_other : Nat → Int64) (c_states : Int32) (c_kept : Nat → Int32) (c_keptLong : Nat → Int64) (c_keptAt : Int32) (c_isTaking : Int32) (x5 : Int32) (x6 : Int64) (x8 : Int32) (c_bonds : Nat → Int32) (c_worth : Nat → Int64) (c_hold : Nat → Int64) (c_acts : Nat → Int32) (o5 : Int32) (o6 : Int64) (o_c_bonds : Nat → Int32) (o_c_worth : Nat → Int64) (o_c_hold : Nat → Int64) (o_c_acts : Nat → Int32) (H : Heap) (locs : List Loc) (ls : Array Slot), va_P (dC, dI) vwCl (mW dA ad c_tape c_taped c_tree c_bonds c_moves c_handMoves c_moved c_days c_likely c_outOf c_rateNow c_pence c_top c_bottom c_spot c_textLong c_fault c_number c_numberAt c_figures c_written c_wanted c_found c_drawnNow c_worth c_hold c_way c_acts c_sDay c_sUps c_sUp c_sMarks c_paidAll c_isPlayed c_isOn c_handMoved c_handPaid c_regret c_aside c_other c_states c_kept c_keptLong c_keptAt c_isTaking) H → va_D A (mW dA ad c_tape c_taped c_tree c_bonds c_moves c_handMoves c_moved c_days c_likely c_outOf c_rateNow c_pence c_top c_bottom c_spot c_textLong c_fault c_number c_numberAt c_figures c_written c_wanted c_found c_drawnNow c_worth c_hold c_way c_acts c_sDay c_sUps c_sUp c_sMarks c_paidAll c_isPlayed c_isOn c_handMoved c_handPaid c_regret c_aside c_other c_states c_kept c_keptLong c_keptAt c_isTaking) → va_S A s.heap H locs → lpX9_bestOne_47 x1 x2 x3 x4 c_days c_likely c_outOf c_rateNow c_pence n x5 x6 x8 c_bonds c_worth c_hold c_acts = some (o5, o6, o_c_bonds, o_c_worth, o_c_hold, o_c_acts) → lv_has ls 11 [(0, .ref (ad 0)), (1, .int x1), (2, .int x2), (3, .int x3), (4, .int x4), (5, .int x5), (6, .long x6), (8, .int x8)] → (∀ (H : Heap) (locs : List Loc) (ls : Array Slot), va_P (dC, dI) vwCl (mW dA ad c_tape c_taped c_tree o_c_bonds c_moves c_handMoves c_moved c_days c_likely c_outOf c_rateNow c_pence c_top c_bottom c_spot c_textLong c_fault c_number c_numberAt c_figures c_written c_wanted c_found c_drawnNow o_c_worth o_c_hold c_way o_c_acts c_sDay c_sUps c_sUp c_sMarks c_paidAll c_isPlayed c_isOn c_handMoved c_handPaid c_regret c_aside c_other c_states c_kept c_keptLong c_keptAt c_isTaking) H → va_D A (mW dA ad c_tape c_taped c_tree o_c_bonds c_moves c_handMoves c_moved c_days c_likely c_outOf c_rateNow c_pence c_top c_bottom c_spot c_textLong c_fault c_number c_numberAt c_figures c_written c_wanted c_found c_drawnNow o_c_worth o_c_hold c_way o_c_acts c_sDay c_sUps c_sUp c_sMarks c_paidAll c_isPlayed c_isOn c_handMoved c_handPaid c_regret c_aside c_other c_states c_kept c_keptLong c_keptAt c_isTaking) → va_S A s.heap H locs → lv_has ls 11 [(4, .int x4), (5, .int o5), (6, .long o6)] → W p l e rmX9_bestOne s m ([.ref (ad 0), .int p1, .int p2, .int p3, .int p4] : List Value).toArray below meth c H locs 0 0 Q (F0 m 127 ls [])) → W p l e rmX9_bestOne s m ([.ref (ad 0), .int p1, .int p2, .int p3, .int p4] : List Value).toArray below meth c H locs 0 0 Q (F0 m 47 ls []) := by
    intro n
    induction n with
    | zero =>
      intro x1 x2 x3 x4 c_days c_likely c_outOf c_rateNow c_pence c_tape c_taped c_tree c_moves c_handMoves c_moved c_top c_bottom c_spot c_textLong c_fault c_number c_numberAt c_figures c_written c_wanted c_found c_drawnNow c_way c_sDay c_sUps c_sUp c_sMarks c_paidAll c_isPlayed c_isOn c_handMoved c_handPaid c_regret c_aside c_other c_states c_kept c_keptLong c_keptAt c_isTaking x5 x6 x8 c_bonds c_worth c_hold c_acts o5 o6 o_c_bonds o_c_worth o_c_hold o_c_acts H locs ls hP hD hS hf hl hk
      cases hf
    | succ n ih47 =>
      intro x1 x2 x3 x4 c_days c_likely c_outOf c_rateNow c_pence c_tape c_taped c_tree c_moves c_handMoves c_moved c_top c_bottom c_spot c_textLong c_fault c_number c_numberAt c_figures c_written c_wanted c_found c_drawnNow c_way c_sDay c_sUps c_sUp c_sMarks c_paidAll c_isPlayed c_isOn c_handMoved c_handPaid c_regret c_aside c_other c_states c_kept c_keptLong c_keptAt c_isTaking x5 x6 x8 c_bonds c_worth c_hold c_acts o5 o6 o_c_bonds o_c_worth o_c_hold o_c_acts H locs ls hP hD hS hf hl hk
      rw [lpX9_bestOne_47.eq_2] at hf
      refine lv_iload hx hb dX9_bestOne_47 (lv_at hl 7 rfl) ?_
      refine lv_aload_n hx hb dX9_bestOne_49 rfl (lv_at hl 0 rfl) ?_
      refine va_get (D := (dC, dI)) (ci := 9) (v := .int c_days) (C := RX9) (T := TX9) (N := 45) hx hb hts (fun w h => gw_mem (inX9 w h)) hown hK.1 hP 0 rfl rfl 7 (by decide) (hts _ (gw_mem wfX9_94)) (fun _ h9 => h9) rfl dX9_bestOne_50 ?_
      refine lv_icmp_ge (tgt := 127) hx hb dX9_bestOne_53 (by decide) (fun k26 => ?_) (fun k26 => ?_)
      · replace hf := ifp k26 hf
        cases hf
        exact hk _ _ _ hP hD hS (lv_sub hl [4, 5, 6] rfl)
      · replace hf := ifn k26 hf
        refine lv_aload_n hx hb dX9_bestOne_56 rfl (lv_at hl 0 rfl) ?_
        refine lv_iload_n hx hb dX9_bestOne_57 rfl (lv_at hl 1 rfl) ?_
        refine lv_iconst (v := 3) hx hb dX9_bestOne_58 (by decide) ?_
        obtain ⟨c_bonds_27, v28, hf⟩ := bd1_some hf
        refine gcv (va_runV (As := [.int x1, .int 3]) (rest := []) ⟨hx, hb, hml, hown, hts⟩ (tX9_copies l dC dI dA ad H.size v28) (ccX9_X9_copies hts ⟨Nat.le_of_ble_eq_true rfl, Nat.le_of_ble_eq_true rfl⟩) (gPreV (ci := 9) (q0 := 0) hP hK hD rfl rfl) rfl rfl hl.1 rfl (lv_room (Nat.le_of_ble_eq_true rfl)) dX9_bestOne_59 ⟨Nat.le_of_ble_eq_true rfl, Nat.le_of_ble_eq_true rfl⟩) hD hS hA (fun H locs hP hD hS => ?_)
        refine lv_aload_n hx hb dX9_bestOne_62 rfl (lv_at hl 0 rfl) ?_
        refine lv_iconst (v := 3) hx hb dX9_bestOne_63 (by decide) ?_
        refine lv_iload_n hx hb dX9_bestOne_64 rfl (lv_at hl 2 rfl) ?_
        refine lv_iload hx hb dX9_bestOne_65 (lv_at hl 7 rfl) ?_
        refine lv_iadd hx hb dX9_bestOne_67 ?_
        refine lv_iload_n hx hb dX9_bestOne_68 rfl (lv_at hl 3 rfl) ?_
        obtain ⟨c_bonds_29, v30, hf⟩ := bd1_some hf
        refine gcv (va_runV (As := [.int 3, .int (x2 + x8), .int x3]) (rest := []) ⟨hx, hb, hml, hown, hts⟩ (tX9_sets l dC dI dA ad H.size v30) (ccX9_X9_sets hts ⟨Nat.le_of_ble_eq_true rfl, Nat.le_of_ble_eq_true rfl⟩) (gPreV (ci := 9) (q0 := 0) hP hK hD rfl rfl) rfl rfl hl.1 rfl (lv_room (Nat.le_of_ble_eq_true rfl)) dX9_bestOne_69 ⟨Nat.le_of_ble_eq_true rfl, Nat.le_of_ble_eq_true rfl⟩) hD hS hA (fun H locs hP hD hS => ?_)
        refine lv_aload_n hx hb dX9_bestOne_72 rfl (lv_at hl 0 rfl) ?_
        refine lv_iconst (v := 3) hx hb dX9_bestOne_73 (by decide) ?_
        obtain ⟨r31, c_worth_32, c_hold_33, c_acts_34, v35, hf⟩ := bd4_some hf
        refine gcl (va_runV (As := [.int 3]) (rest := []) ⟨hx, hb, hml, hown, hts⟩ (tX9_valueOf l dC dI dA ad H.size v35) (ccX9_X9_valueOf hts ⟨Nat.le_of_ble_eq_true rfl, Nat.le_of_ble_eq_true rfl⟩) (gPreV (ci := 9) (q0 := 0) hP hK hD rfl rfl) rfl rfl hl.1 rfl (lv_room (Nat.le_of_ble_eq_true rfl)) dX9_bestOne_74 ⟨Nat.le_of_ble_eq_true rfl, Nat.le_of_ble_eq_true rfl⟩) hD hS hA (fun H locs hP hD hS => ?_)
        refine lv_lstore (lv' := [(9, .long r31), (0, .ref (ad 0)), (1, .int x1), (2, .int x2), (3, .int x3), (4, .int x4), (5, .int x5), (6, .long x6), (8, .int x8)]) hx hb dX9_bestOne_77 hl (by decide) rfl (fun ls hl => ?_)
        refine lv_iload hx hb dX9_bestOne_79 (lv_at hl 6 rfl) ?_
        refine lv_iconst (v := (-1)) hx hb dX9_bestOne_81 (by decide) ?_
        refine lv_icmp_eq (tgt := 113) hx hb dX9_bestOne_82 (by decide) (fun k36 => ?_) (fun k36 => ?_)
        · replace hf := ifp k36 hf
          refine lv_iload hx hb dX9_bestOne_113 (lv_at hl 8 rfl) ?_
          refine lv_istore (lv' := [(5, .int x8), (9, .long r31), (0, .ref (ad 0)), (1, .int x1), (2, .int x2), (3, .int x3), (4, .int x4), (6, .long x6), (8, .int x8)]) hx hb dX9_bestOne_115 hl (by decide) rfl (fun ls hl => ?_)
          refine lv_lload hx hb dX9_bestOne_117 (lv_at hl 1 rfl) ?_
          refine lv_lstore (lv' := [(6, .long r31), (5, .int x8), (9, .long r31), (0, .ref (ad 0)), (1, .int x1), (2, .int x2), (3, .int x3), (4, .int x4), (8, .int x8)]) hx hb dX9_bestOne_119 hl (by decide) rfl (fun ls hl => ?_)
          obtain ⟨w37, ew37⟩ : ∃ y : Int32, y = x8 + 1 := ⟨_, rfl⟩
          replace hf := nm_at hf ew37
          refine lv_iinc (v := w37) (lv' := [(8, .int w37), (6, .long r31), (5, .int x8), (9, .long r31), (0, .ref (ad 0)), (1, .int x1), (2, .int x2), (3, .int x3), (4, .int x4)]) hx hb dX9_bestOne_121 hl (k := 8) rfl (by rw [ew37]; rfl) (by decide) rfl (fun ls hl => ?_)
          refine lv_goto (tgt := 47) hx hb dX9_bestOne_124 (by decide) ?_
          exact ih47 _ _ _ _ _ _ _ _ _ _ _ _ _ _ _ _ _ _ _ _ _ _ _ _ _ _ _ _ _ _ _ _ _ _ _ _ _ _ _ _ _ _ _ _ _ _ _ _ _ _ _ _ _ _ _ _ _ _ _ _ _ hP hD hS hf (lv_sub hl [4, 5, 6, 7, 8, 2, 1, 0] rfl) hk
        · replace hf := ifn k36 hf
          refine lv_iload_n hx hb dX9_bestOne_85 rfl (lv_at hl 3 rfl) ?_
          refine lv_bipush (v := 9) hx hb dX9_bestOne_86 (by decide) ?_
          refine lv_icmp_ne (tgt := 102) hx hb dX9_bestOne_88 (by decide) (fun k38 => ?_) (fun k38 => ?_)
          · replace hf := ifn k38 hf
            refine lv_lload hx hb dX9_bestOne_102 (lv_at hl 0 rfl) ?_
            refine lv_lload hx hb dX9_bestOne_104 (lv_at hl 7 rfl) ?_
            refine W.lcmp hx hb dX9_bestOne_106 ?_
            refine lv_if_gt (tgt := 113) hx hb dX9_bestOne_107 (by decide) (fun k39 => ?_) (fun k39 => ?_)
            · replace hf := ifp (lc_gt.mp k39) hf
              refine lv_iload hx hb dX9_bestOne_113 (lv_at hl 8 rfl) ?_
              refine lv_istore (lv' := [(5, .int x8), (9, .long r31), (0, .ref (ad 0)), (1, .int x1), (2, .int x2), (3, .int x3), (4, .int x4), (6, .long x6), (8, .int x8)]) hx hb dX9_bestOne_115 hl (by decide) rfl (fun ls hl => ?_)
              refine lv_lload hx hb dX9_bestOne_117 (lv_at hl 1 rfl) ?_
              refine lv_lstore (lv' := [(6, .long r31), (5, .int x8), (9, .long r31), (0, .ref (ad 0)), (1, .int x1), (2, .int x2), (3, .int x3), (4, .int x4), (8, .int x8)]) hx hb dX9_bestOne_119 hl (by decide) rfl (fun ls hl => ?_)
              obtain ⟨w40, ew40⟩ : ∃ y : Int32, y = x8 + 1 := ⟨_, rfl⟩
              replace hf := nm_at hf ew40
              refine lv_iinc (v := w40) (lv' := [(8, .int w40), (6, .long r31), (5, .int x8), (9, .long r31), (0, .ref (ad 0)), (1, .int x1), (2, .int x2), (3, .int x3), (4, .int x4)]) hx hb dX9_bestOne_121 hl (k := 8) rfl (by rw [ew40]; rfl) (by decide) rfl (fun ls hl => ?_)
              refine lv_goto (tgt := 47) hx hb dX9_bestOne_124 (by decide) ?_
              exact ih47 _ _ _ _ _ _ _ _ _ _ _ _ _ _ _ _ _ _ _ _ _ _ _ _ _ _ _ _ _ _ _ _ _ _ _ _ _ _ _ _ _ _ _ _ _ _ _ _ _ _ _ _ _ _ _ _ _ _ _ _ _ hP hD hS hf (lv_sub hl [4, 5, 6, 7, 8, 2, 1, 0] rfl) hk
            · replace hf := ifn (fun h => k39 (lc_gt.mpr h)) hf
              refine lv_goto (tgt := 121) hx hb dX9_bestOne_110 (by decide) ?_
              obtain ⟨w41, ew41⟩ : ∃ y : Int32, y = x8 + 1 := ⟨_, rfl⟩
              replace hf := nm_at hf ew41
              refine lv_iinc (v := w41) (lv' := [(8, .int w41), (9, .long r31), (0, .ref (ad 0)), (1, .int x1), (2, .int x2), (3, .int x3), (4, .int x4), (5, .int x5), (6, .long x6)]) hx hb dX9_bestOne_121 hl (k := 8) rfl (by rw [ew41]; rfl) (by decide) rfl (fun ls hl => ?_)
              refine lv_goto (tgt := 47) hx hb dX9_bestOne_124 (by decide) ?_
              exact ih47 _ _ _ _ _ _ _ _ _ _ _ _ _ _ _ _ _ _ _ _ _ _ _ _ _ _ _ _ _ _ _ _ _ _ _ _ _ _ _ _ _ _ _ _ _ _ _ _ _ _ _ _ _ _ _ _ _ _ _ _ _ hP hD hS hf (lv_sub hl [2, 3, 4, 5, 6, 7, 8, 0] rfl) hk
          · replace hf := ifp k38 hf
            refine lv_lload hx hb dX9_bestOne_91 (lv_at hl 0 rfl) ?_
            refine lv_lload hx hb dX9_bestOne_93 (lv_at hl 7 rfl) ?_
            refine W.lcmp hx hb dX9_bestOne_95 ?_
            refine lv_if_lt (tgt := 113) hx hb dX9_bestOne_96 (by decide) (fun k42 => ?_) (fun k42 => ?_)
            · replace hf := ifp (lc_lt.mp k42) hf
              refine lv_iload hx hb dX9_bestOne_113 (lv_at hl 8 rfl) ?_
              refine lv_istore (lv' := [(5, .int x8), (9, .long r31), (0, .ref (ad 0)), (1, .int x1), (2, .int x2), (3, .int x3), (4, .int x4), (6, .long x6), (8, .int x8)]) hx hb dX9_bestOne_115 hl (by decide) rfl (fun ls hl => ?_)
              refine lv_lload hx hb dX9_bestOne_117 (lv_at hl 1 rfl) ?_
              refine lv_lstore (lv' := [(6, .long r31), (5, .int x8), (9, .long r31), (0, .ref (ad 0)), (1, .int x1), (2, .int x2), (3, .int x3), (4, .int x4), (8, .int x8)]) hx hb dX9_bestOne_119 hl (by decide) rfl (fun ls hl => ?_)
              obtain ⟨w43, ew43⟩ : ∃ y : Int32, y = x8 + 1 := ⟨_, rfl⟩
              replace hf := nm_at hf ew43
              refine lv_iinc (v := w43) (lv' := [(8, .int w43), (6, .long r31), (5, .int x8), (9, .long r31), (0, .ref (ad 0)), (1, .int x1), (2, .int x2), (3, .int x3), (4, .int x4)]) hx hb dX9_bestOne_121 hl (k := 8) rfl (by rw [ew43]; rfl) (by decide) rfl (fun ls hl => ?_)
              refine lv_goto (tgt := 47) hx hb dX9_bestOne_124 (by decide) ?_
              exact ih47 _ _ _ _ _ _ _ _ _ _ _ _ _ _ _ _ _ _ _ _ _ _ _ _ _ _ _ _ _ _ _ _ _ _ _ _ _ _ _ _ _ _ _ _ _ _ _ _ _ _ _ _ _ _ _ _ _ _ _ _ _ hP hD hS hf (lv_sub hl [4, 5, 6, 7, 8, 2, 1, 0] rfl) hk
            · replace hf := ifn (fun h => k42 (lc_lt.mpr h)) hf
              refine lv_goto (tgt := 121) hx hb dX9_bestOne_99 (by decide) ?_
              obtain ⟨w44, ew44⟩ : ∃ y : Int32, y = x8 + 1 := ⟨_, rfl⟩
              replace hf := nm_at hf ew44
              refine lv_iinc (v := w44) (lv' := [(8, .int w44), (9, .long r31), (0, .ref (ad 0)), (1, .int x1), (2, .int x2), (3, .int x3), (4, .int x4), (5, .int x5), (6, .long x6)]) hx hb dX9_bestOne_121 hl (k := 8) rfl (by rw [ew44]; rfl) (by decide) rfl (fun ls hl => ?_)
              refine lv_goto (tgt := 47) hx hb dX9_bestOne_124 (by decide) ?_
              exact ih47 _ _ _ _ _ _ _ _ _ _ _ _ _ _ _ _ _ _ _ _ _ _ _ _ _ _ _ _ _ _ _ _ _ _ _ _ _ _ _ _ _ _ _ _ _ _ _ _ _ _ _ _ _ _ _ _ _ _ _ _ _ hP hD hS hf (lv_sub hl [2, 3, 4, 5, 6, 7, 8, 0] rfl) hk
  subst hQ
  unfold fX9_bestOne at hf
  refine lv_iload_n hx hb dX9_bestOne_0 rfl (lv_at hl 1 rfl) ?_
  obtain ⟨r1, v2, hf⟩ := bd1_some hf
  refine gci0 (va_runS (As := [.int p1]) (rest := []) ⟨hx, hb, hml, hown, hts⟩ (tX9_isBond l dC dI dA s.heap.size v2) (ccX9_X9_isBond hts ⟨Nat.le_of_ble_eq_true rfl, Nat.le_of_ble_eq_true rfl⟩) (gPreS0 hK) rfl rfl hl.1 rfl (lv_room (Nat.le_of_ble_eq_true rfl)) dX9_bestOne_1 ⟨Nat.le_of_ble_eq_true rfl, Nat.le_of_ble_eq_true rfl⟩) hP hS hA (fun H locs hP hS => ?_)
  refine lv_if_eq (tgt := 30) hx hb dX9_bestOne_4 (by decide) (fun k3 => ?_) (fun k3 => ?_)
  · replace hf := ifp k3 hf
    refine lv_ldc2 (v := (-1)) hx hb hown (hts _ (gw_mem wkX9_116)) dX9_bestOne_30 ?_
    cases hf
    exact W.lret hx hb hr (fun t ht _ => gql hP hD hS ht) hS.2.2 dX9_bestOne_33
  · replace hf := ifn k3 hf
    refine lv_iload_n hx hb dX9_bestOne_7 rfl (lv_at hl 3 rfl) ?_
    refine lv_i2l hx hb dX9_bestOne_8 rfl ?_
    refine lv_lconst (v := 0) hx hb dX9_bestOne_9 rfl ?_
    refine lv_ldc2 (v := 1000000) hx hb hown (hts _ (gw_mem wkX9_130)) dX9_bestOne_10 ?_
    obtain ⟨r4, v5, hf⟩ := bd1_some hf
    refine gci0 (va_runS (As := [.long (Int32.toInt64 p3), .long 0, .long 1000000]) (rest := []) ⟨hx, hb, hml, hown, hts⟩ (tX9_in l dC dI dA H.size v5) (ccX9_X9_in hts ⟨Nat.le_of_ble_eq_true rfl, Nat.le_of_ble_eq_true rfl⟩) (gPreS0 hK) rfl rfl hl.1 rfl (lv_room (Nat.le_of_ble_eq_true rfl)) dX9_bestOne_13 ⟨Nat.le_of_ble_eq_true rfl, Nat.le_of_ble_eq_true rfl⟩) hP hS hA (fun H locs hP hS => ?_)
    refine lv_if_eq (tgt := 30) hx hb dX9_bestOne_16 (by decide) (fun k6 => ?_) (fun k6 => ?_)
    · replace hf := ifp k6 hf
      refine lv_ldc2 (v := (-1)) hx hb hown (hts _ (gw_mem wkX9_116)) dX9_bestOne_30 ?_
      cases hf
      exact W.lret hx hb hr (fun t ht _ => gql hP hD hS ht) hS.2.2 dX9_bestOne_33
    · replace hf := ifn k6 hf
      refine lv_iload hx hb dX9_bestOne_19 (lv_at hl 4 rfl) ?_
      refine lv_i2l hx hb dX9_bestOne_21 rfl ?_
      refine lv_lconst (v := 0) hx hb dX9_bestOne_22 rfl ?_
      refine lv_lconst (v := 1) hx hb dX9_bestOne_23 rfl ?_
      obtain ⟨r7, v8, hf⟩ := bd1_some hf
      refine gci0 (va_runS (As := [.long (Int32.toInt64 p4), .long 0, .long 1]) (rest := []) ⟨hx, hb, hml, hown, hts⟩ (tX9_in l dC dI dA H.size v8) (ccX9_X9_in hts ⟨Nat.le_of_ble_eq_true rfl, Nat.le_of_ble_eq_true rfl⟩) (gPreS0 hK) rfl rfl hl.1 rfl (lv_room (Nat.le_of_ble_eq_true rfl)) dX9_bestOne_24 ⟨Nat.le_of_ble_eq_true rfl, Nat.le_of_ble_eq_true rfl⟩) hP hS hA (fun H locs hP hS => ?_)
      refine lv_if_ne (tgt := 34) hx hb dX9_bestOne_27 (by decide) (fun k9 => ?_) (fun k9 => ?_)
      · replace hf := ifn k9 hf
        refine lv_aload_n hx hb dX9_bestOne_34 rfl (lv_at hl 0 rfl) ?_
        obtain ⟨c_days_10, c_likely_11, c_outOf_12, c_rateNow_13, c_pence_14, c_top_15, c_bottom_16, v17, hf⟩ := bd7_some hf
        refine gcv (va_runV (As := []) (rest := []) ⟨hx, hb, hml, hown, hts⟩ (tX9_takesNow l dC dI dA ad H.size v17) (ccX9_X9_takesNow hts ⟨Nat.le_of_ble_eq_true rfl, Nat.le_of_ble_eq_true rfl⟩) (gPreV (ci := 9) (q0 := 0) hP hK hD rfl rfl) rfl rfl hl.1 rfl (lv_room (Nat.le_of_ble_eq_true rfl)) dX9_bestOne_35 ⟨Nat.le_of_ble_eq_true rfl, Nat.le_of_ble_eq_true rfl⟩) hD hS hA (fun H locs hP hD hS => ?_)
        refine lv_iconst (v := (-1)) hx hb dX9_bestOne_38 (by decide) ?_
        refine lv_istore (lv' := [(5, .int (-1)), (0, .ref (ad 0)), (1, .int p1), (2, .int p2), (3, .int p3), (4, .int p4)]) hx hb dX9_bestOne_39 hl (by decide) rfl (fun ls hl => ?_)
        refine lv_lconst (v := 0) hx hb dX9_bestOne_41 rfl ?_
        refine lv_lstore (lv' := [(6, .long 0), (5, .int (-1)), (0, .ref (ad 0)), (1, .int p1), (2, .int p2), (3, .int p3), (4, .int p4)]) hx hb dX9_bestOne_42 hl (by decide) rfl (fun ls hl => ?_)
        refine lv_iconst (v := 0) hx hb dX9_bestOne_44 (by decide) ?_
        refine lv_istore (lv' := [(8, .int 0), (6, .long 0), (5, .int (-1)), (0, .ref (ad 0)), (1, .int p1), (2, .int p2), (3, .int p3), (4, .int p4)]) hx hb dX9_bestOne_45 hl (by decide) rfl (fun ls hl => ?_)
        obtain ⟨x18, x19, c_bonds_20, c_worth_21, c_hold_22, c_acts_23, v24, hf⟩ := bd6_some hf
        refine LP47 FU _ _ _ _ _ _ _ _ _ _ _ _ _ _ _ _ _ _ _ _ _ _ _ _ _ _ _ _ _ _ _ _ _ _ _ _ _ _ _ _ _ _ _ _ _ _ _ _ _ _ _ _ _ _ _ _ _ _ _ _ _ hP hD hS v24 (lv_sub hl [3, 4, 5, 6, 7, 2, 1, 0] rfl) (fun H locs ls hP hD hS hl => ?_)
        refine lv_iload hx hb dX9_bestOne_127 (lv_at hl 0 rfl) ?_
        refine lv_if_ne (tgt := 138) hx hb dX9_bestOne_129 (by decide) (fun k25 => ?_) (fun k25 => ?_)
        · replace hf := ifn k25 hf
          refine lv_lload hx hb dX9_bestOne_138 (lv_at hl 2 rfl) ?_
          cases hf
          exact W.lret hx hb hr (fun t ht _ => gql hP hD hS ht) hS.2.2 dX9_bestOne_140
        · replace hf := ifp k25 hf
          refine lv_iload hx hb dX9_bestOne_132 (lv_at hl 1 rfl) ?_
          refine lv_i2l hx hb dX9_bestOne_134 rfl ?_
          refine lv_goto (tgt := 140) hx hb dX9_bestOne_135 (by decide) ?_
          cases hf
          exact W.lret hx hb hr (fun t ht _ => gql hP hD hS ht) hS.2.2 dX9_bestOne_140
      · replace hf := ifp k9 hf
        refine lv_ldc2 (v := (-1)) hx hb hown (hts _ (gw_mem wkX9_116)) dX9_bestOne_30 ?_
        cases hf
        exact W.lret hx hb hr (fun t ht _ => gql hP hD hS ht) hS.2.2 dX9_bestOne_33
theorem ccX9_X9_bestOne {R : Room} {s : State} {args : Array Value} {c0 : Cond} (ht : ∀ w ∈ wq c0, w.before args s = true) (hR : rmX9_bestOne.frames + 1 ≤ R.frames ∧ 8 + (11 + 11) + rmX9_bestOne.locals ≤ R.locals) : CallW R s args RX9 RX9 403 yX9_bestOne cX9_bestOne 11 (some .long) (wq (.code yX9_bestOne cX9_bestOne 11 (some .long))) rmX9_bestOne 0 0 4 := gCW 4 ht wcX9_bestOne wmX9_403 wiX9_bestOne weX9_bestOne wnX9 (by decide +kernel) rfl rfl hR
def fX9_bestCall (p1 : Int32) (p2 : Int32) (p3 : Int32) (c_tree : Nat → Int32) (c_bonds : Nat → Int32) (c_days : Int32) (c_likely : Int32) (c_outOf : Int32) (c_rateNow : Int32) (c_pence : Nat → Int64) (c_top : Int64) (c_bottom : Int64) (c_worth : Nat → Int64) (c_hold : Nat → Int64) (c_acts : Nat → Int32) : Option (Int64 × (Nat → Int32) × Int32 × Int32 × Int32 × Int32 × (Nat → Int64) × Int64 × Int64 × (Nat → Int64) × (Nat → Int64) × (Nat → Int32)) := bd12 (fX9_bestOne p1 9 p2 p3 c_tree c_bonds c_days c_likely c_outOf c_rateNow c_pence c_top c_bottom c_worth c_hold c_acts) (fun r1 c_bonds_2 c_days_3 c_likely_4 c_outOf_5 c_rateNow_6 c_pence_7 c_top_8 c_bottom_9 c_worth_10 c_hold_11 c_acts_12 => some (r1, c_bonds_2, c_days_3, c_likely_4, c_outOf_5, c_rateNow_6, c_pence_7, c_top_8, c_bottom_9, c_worth_10, c_hold_11, c_acts_12))
abbrev rmX9_bestCall : Room := { frames := 8, cells := 0, slots := 0, locals := 214 }
set_option maxHeartbeats 4000000 in
set_option maxRecDepth 100000 in
theorem tX9_bestCall (l : Launch) (dC : Nat → ClassId) (dI : Nat → Nat → Nat) (dA : Nat → ClassId) (ad : Nat → Nat) (sz : Nat) {p1 : Int32} {p2 : Int32} {p3 : Int32} {c_tape : Nat → Int32} {c_taped : Int32} {c_tree : Nat → Int32} {c_bonds : Nat → Int32} {c_moves : Nat → Int32} {c_handMoves : Nat → Int32} {c_moved : Int32} {c_days : Int32} {c_likely : Int32} {c_outOf : Int32} {c_rateNow : Int32} {c_pence : Nat → Int64} {c_top : Int64} {c_bottom : Int64} {c_spot : Int32} {c_textLong : Int32} {c_fault : Int32} {c_number : Int32} {c_numberAt : Int32} {c_figures : Int32} {c_written : Int32} {c_wanted : Int32} {c_found : Int32} {c_drawnNow : Int32} {c_worth : Nat → Int64} {c_hold : Nat → Int64} {c_way : Nat → Int64} {c_acts : Nat → Int32} {c_sDay : Int32} {c_sUps : Int32} {c_sUp : Int32} {c_sMarks : Int32} {c_paidAll : Int64} {c_isPlayed : Int32} {c_isOn : Int32} {c_handMoved : Int32} {c_handPaid : Int64} {c_regret : Int64} {c_aside : Nat → Int32} {c_other : Nat → Int64} {c_states : Int32} {c_kept : Nat → Int32} {c_keptLong : Nat → Int64} {c_keptAt : Int32} {c_isTaking : Int32} {r : Int64} {o_c_bonds : Nat → Int32} {o_c_days : Int32} {o_c_likely : Int32} {o_c_outOf : Int32} {o_c_rateNow : Int32} {o_c_pence : Nat → Int64} {o_c_top : Int64} {o_c_bottom : Int64} {o_c_worth : Nat → Int64} {o_c_hold : Nat → Int64} {o_c_acts : Nat → Int32} (hf : fX9_bestCall p1 p2 p3 c_tree c_bonds c_days c_likely c_outOf c_rateNow c_pence c_top c_bottom c_worth c_hold c_acts = some (r, o_c_bonds, o_c_days, o_c_likely, o_c_outOf, o_c_rateNow, o_c_pence, o_c_top, o_c_bottom, o_c_worth, o_c_hold, o_c_acts)) : Met l yX9_bestCall (wq (Cond.code yX9_bestCall cX9_bestCall 4 (some .long))) rmX9_bestCall (gP [.ref (ad 0), .int p1, .int p2, .int p3] (dC, dI) dA (mW dA ad c_tape c_taped c_tree c_bonds c_moves c_handMoves c_moved c_days c_likely c_outOf c_rateNow c_pence c_top c_bottom c_spot c_textLong c_fault c_number c_numberAt c_figures c_written c_wanted c_found c_drawnNow c_worth c_hold c_way c_acts c_sDay c_sUps c_sUp c_sMarks c_paidAll c_isPlayed c_isOn c_handMoved c_handPaid c_regret c_aside c_other c_states c_kept c_keptLong c_keptAt c_isTaking) sz) (gQl (dC, dI) r (mW dA ad c_tape c_taped c_tree o_c_bonds c_moves c_handMoves c_moved o_c_days o_c_likely o_c_outOf o_c_rateNow o_c_pence o_c_top o_c_bottom c_spot c_textLong c_fault c_number c_numberAt c_figures c_written c_wanted c_found c_drawnNow o_c_worth o_c_hold c_way o_c_acts c_sDay c_sUps c_sUp c_sMarks c_paidAll c_isPlayed c_isOn c_handMoved c_handPaid c_regret c_aside c_other c_states c_kept c_keptLong c_keptAt c_isTaking) (va_A (mW dA ad c_tape c_taped c_tree c_bonds c_moves c_handMoves c_moved c_days c_likely c_outOf c_rateNow c_pence c_top c_bottom c_spot c_textLong c_fault c_number c_numberAt c_figures c_written c_wanted c_found c_drawnNow c_worth c_hold c_way c_acts c_sDay c_sUps c_sUp c_sMarks c_paidAll c_isPlayed c_isOn c_handMoved c_handPaid c_regret c_aside c_other c_states c_kept c_keptLong c_keptAt c_isTaking) sz)) 0 0 (va_A (mW dA ad c_tape c_taped c_tree c_bonds c_moves c_handMoves c_moved c_days c_likely c_outOf c_rateNow c_pence c_top c_bottom c_spot c_textLong c_fault c_number c_numberAt c_figures c_written c_wanted c_found c_drawnNow c_worth c_hold c_way c_acts c_sDay c_sUps c_sUp c_sMarks c_paidAll c_isPlayed c_isOn c_handMoved c_handPaid c_regret c_aside c_other c_states c_kept c_keptLong c_keptAt c_isTaking) sz) := by
  refine Met.ofW (cc := cX9_bestCall) (maxL := 4) (ret := (some .long)) (by decide) rfl ?_
  intro p e s m args below meth c s₁ B hml hv
  obtain ⟨rfl, hsz, hP, hK, hD0⟩ := hv
  have hx := B.exec
  have hb := B.bytes
  have hr := B.returns
  have hts := atoms_spec (ws := wq (Cond.code yX9_bestCall cX9_bestCall 4 (some .long))) B.pre
  have hown : s.vm.findClass RX9 = some m.cls := findClass_of_methodNamed B.named
  have hlocks := B.notSynchronized
  clear B
  subst hsz
  have hD := hD0.self (sz := s.heap.size)
  generalize hAe : va_A (mW dA ad c_tape c_taped c_tree c_bonds c_moves c_handMoves c_moved c_days c_likely c_outOf c_rateNow c_pence c_top c_bottom c_spot c_textLong c_fault c_number c_numberAt c_figures c_written c_wanted c_found c_drawnNow c_worth c_hold c_way c_acts c_sDay c_sUps c_sUp c_sMarks c_paidAll c_isPlayed c_isOn c_handMoved c_handPaid c_regret c_aside c_other c_states c_kept c_keptLong c_keptAt c_isTaking) s.heap.size = A at hD ⊢
  have hA : ∀ q : Nat, s.heap.size ≤ q → A q := fun q h => by rw [← hAe]; exact Or.inr h
  clear hAe hD0
  have hS : va_S A s.heap s.heap [] := va_S.rf
  have hl := lv_entry ([.ref (ad 0), .int p1, .int p2, .int p3]) (n := 4) (Nat.le_of_ble_eq_true rfl)
  rw [lg_entry_eq]
  generalize (lg_sl ([.ref (ad 0), .int p1, .int p2, .int p3]) ++ List.replicate (4 - (lg_sl ([.ref (ad 0), .int p1, .int p2, .int p3])).length) Slot.unset).toArray = ls at hl ⊢
  have hl : lv_has ls 4 [(0, .ref (ad 0)), (1, .int p1), (2, .int p2), (3, .int p3)] := hl
  change W p l e rmX9_bestCall s m ([.ref (ad 0), .int p1, .int p2, .int p3] : List Value).toArray below meth c s.heap [] 0 0 _ _
  unfold fX9_bestCall at hf
  refine lv_aload_n hx hb dX9_bestCall_0 rfl (lv_at hl 0 rfl) ?_
  refine lv_iload_n hx hb dX9_bestCall_1 rfl (lv_at hl 1 rfl) ?_
  refine lv_bipush (v := 9) hx hb dX9_bestCall_2 (by decide) ?_
  refine lv_iload_n hx hb dX9_bestCall_4 rfl (lv_at hl 2 rfl) ?_
  refine lv_iload_n hx hb dX9_bestCall_5 rfl (lv_at hl 3 rfl) ?_
  obtain ⟨r1, c_bonds_2, c_days_3, c_likely_4, c_outOf_5, c_rateNow_6, c_pence_7, c_top_8, c_bottom_9, c_worth_10, c_hold_11, c_acts_12, v13, hf⟩ := bd12_some hf
  refine gcl (va_runV (As := [.int p1, .int 9, .int p2, .int p3]) (rest := []) ⟨hx, hb, hml, hown, hts⟩ (tX9_bestOne l dC dI dA ad s.heap.size v13) (ccX9_X9_bestOne hts ⟨Nat.le_of_ble_eq_true rfl, Nat.le_of_ble_eq_true rfl⟩) (gPreV (ci := 9) (q0 := 0) hP hK hD rfl rfl) rfl rfl hl.1 rfl (lv_room (Nat.le_of_ble_eq_true rfl)) dX9_bestCall_6 ⟨Nat.le_of_ble_eq_true rfl, Nat.le_of_ble_eq_true rfl⟩) hD hS hA (fun H locs hP hD hS => ?_)
  cases hf
  exact W.lret hx hb hr (fun t ht _ => gql hP hD hS ht) hS.2.2 dX9_bestCall_9
def fX9_bestPut (p1 : Int32) (p2 : Int32) (p3 : Int32) (c_tree : Nat → Int32) (c_bonds : Nat → Int32) (c_days : Int32) (c_likely : Int32) (c_outOf : Int32) (c_rateNow : Int32) (c_pence : Nat → Int64) (c_top : Int64) (c_bottom : Int64) (c_worth : Nat → Int64) (c_hold : Nat → Int64) (c_acts : Nat → Int32) : Option (Int64 × (Nat → Int32) × Int32 × Int32 × Int32 × Int32 × (Nat → Int64) × Int64 × Int64 × (Nat → Int64) × (Nat → Int64) × (Nat → Int32)) := bd12 (fX9_bestOne p1 15 p2 p3 c_tree c_bonds c_days c_likely c_outOf c_rateNow c_pence c_top c_bottom c_worth c_hold c_acts) (fun r1 c_bonds_2 c_days_3 c_likely_4 c_outOf_5 c_rateNow_6 c_pence_7 c_top_8 c_bottom_9 c_worth_10 c_hold_11 c_acts_12 => some (r1, c_bonds_2, c_days_3, c_likely_4, c_outOf_5, c_rateNow_6, c_pence_7, c_top_8, c_bottom_9, c_worth_10, c_hold_11, c_acts_12))
abbrev rmX9_bestPut : Room := { frames := 8, cells := 0, slots := 0, locals := 214 }
set_option maxHeartbeats 4000000 in
set_option maxRecDepth 100000 in
theorem tX9_bestPut (l : Launch) (dC : Nat → ClassId) (dI : Nat → Nat → Nat) (dA : Nat → ClassId) (ad : Nat → Nat) (sz : Nat) {p1 : Int32} {p2 : Int32} {p3 : Int32} {c_tape : Nat → Int32} {c_taped : Int32} {c_tree : Nat → Int32} {c_bonds : Nat → Int32} {c_moves : Nat → Int32} {c_handMoves : Nat → Int32} {c_moved : Int32} {c_days : Int32} {c_likely : Int32} {c_outOf : Int32} {c_rateNow : Int32} {c_pence : Nat → Int64} {c_top : Int64} {c_bottom : Int64} {c_spot : Int32} {c_textLong : Int32} {c_fault : Int32} {c_number : Int32} {c_numberAt : Int32} {c_figures : Int32} {c_written : Int32} {c_wanted : Int32} {c_found : Int32} {c_drawnNow : Int32} {c_worth : Nat → Int64} {c_hold : Nat → Int64} {c_way : Nat → Int64} {c_acts : Nat → Int32} {c_sDay : Int32} {c_sUps : Int32} {c_sUp : Int32} {c_sMarks : Int32} {c_paidAll : Int64} {c_isPlayed : Int32} {c_isOn : Int32} {c_handMoved : Int32} {c_handPaid : Int64} {c_regret : Int64} {c_aside : Nat → Int32} {c_other : Nat → Int64} {c_states : Int32} {c_kept : Nat → Int32} {c_keptLong : Nat → Int64} {c_keptAt : Int32} {c_isTaking : Int32} {r : Int64} {o_c_bonds : Nat → Int32} {o_c_days : Int32} {o_c_likely : Int32} {o_c_outOf : Int32} {o_c_rateNow : Int32} {o_c_pence : Nat → Int64} {o_c_top : Int64} {o_c_bottom : Int64} {o_c_worth : Nat → Int64} {o_c_hold : Nat → Int64} {o_c_acts : Nat → Int32} (hf : fX9_bestPut p1 p2 p3 c_tree c_bonds c_days c_likely c_outOf c_rateNow c_pence c_top c_bottom c_worth c_hold c_acts = some (r, o_c_bonds, o_c_days, o_c_likely, o_c_outOf, o_c_rateNow, o_c_pence, o_c_top, o_c_bottom, o_c_worth, o_c_hold, o_c_acts)) : Met l yX9_bestPut (wq (Cond.code yX9_bestPut cX9_bestPut 4 (some .long))) rmX9_bestPut (gP [.ref (ad 0), .int p1, .int p2, .int p3] (dC, dI) dA (mW dA ad c_tape c_taped c_tree c_bonds c_moves c_handMoves c_moved c_days c_likely c_outOf c_rateNow c_pence c_top c_bottom c_spot c_textLong c_fault c_number c_numberAt c_figures c_written c_wanted c_found c_drawnNow c_worth c_hold c_way c_acts c_sDay c_sUps c_sUp c_sMarks c_paidAll c_isPlayed c_isOn c_handMoved c_handPaid c_regret c_aside c_other c_states c_kept c_keptLong c_keptAt c_isTaking) sz) (gQl (dC, dI) r (mW dA ad c_tape c_taped c_tree o_c_bonds c_moves c_handMoves c_moved o_c_days o_c_likely o_c_outOf o_c_rateNow o_c_pence o_c_top o_c_bottom c_spot c_textLong c_fault c_number c_numberAt c_figures c_written c_wanted c_found c_drawnNow o_c_worth o_c_hold c_way o_c_acts c_sDay c_sUps c_sUp c_sMarks c_paidAll c_isPlayed c_isOn c_handMoved c_handPaid c_regret c_aside c_other c_states c_kept c_keptLong c_keptAt c_isTaking) (va_A (mW dA ad c_tape c_taped c_tree c_bonds c_moves c_handMoves c_moved c_days c_likely c_outOf c_rateNow c_pence c_top c_bottom c_spot c_textLong c_fault c_number c_numberAt c_figures c_written c_wanted c_found c_drawnNow c_worth c_hold c_way c_acts c_sDay c_sUps c_sUp c_sMarks c_paidAll c_isPlayed c_isOn c_handMoved c_handPaid c_regret c_aside c_other c_states c_kept c_keptLong c_keptAt c_isTaking) sz)) 0 0 (va_A (mW dA ad c_tape c_taped c_tree c_bonds c_moves c_handMoves c_moved c_days c_likely c_outOf c_rateNow c_pence c_top c_bottom c_spot c_textLong c_fault c_number c_numberAt c_figures c_written c_wanted c_found c_drawnNow c_worth c_hold c_way c_acts c_sDay c_sUps c_sUp c_sMarks c_paidAll c_isPlayed c_isOn c_handMoved c_handPaid c_regret c_aside c_other c_states c_kept c_keptLong c_keptAt c_isTaking) sz) := by
  refine Met.ofW (cc := cX9_bestPut) (maxL := 4) (ret := (some .long)) (by decide) rfl ?_
  intro p e s m args below meth c s₁ B hml hv
  obtain ⟨rfl, hsz, hP, hK, hD0⟩ := hv
  have hx := B.exec
  have hb := B.bytes
  have hr := B.returns
  have hts := atoms_spec (ws := wq (Cond.code yX9_bestPut cX9_bestPut 4 (some .long))) B.pre
  have hown : s.vm.findClass RX9 = some m.cls := findClass_of_methodNamed B.named
  have hlocks := B.notSynchronized
  clear B
  subst hsz
  have hD := hD0.self (sz := s.heap.size)
  generalize hAe : va_A (mW dA ad c_tape c_taped c_tree c_bonds c_moves c_handMoves c_moved c_days c_likely c_outOf c_rateNow c_pence c_top c_bottom c_spot c_textLong c_fault c_number c_numberAt c_figures c_written c_wanted c_found c_drawnNow c_worth c_hold c_way c_acts c_sDay c_sUps c_sUp c_sMarks c_paidAll c_isPlayed c_isOn c_handMoved c_handPaid c_regret c_aside c_other c_states c_kept c_keptLong c_keptAt c_isTaking) s.heap.size = A at hD ⊢
  have hA : ∀ q : Nat, s.heap.size ≤ q → A q := fun q h => by rw [← hAe]; exact Or.inr h
  clear hAe hD0
  have hS : va_S A s.heap s.heap [] := va_S.rf
  have hl := lv_entry ([.ref (ad 0), .int p1, .int p2, .int p3]) (n := 4) (Nat.le_of_ble_eq_true rfl)
  rw [lg_entry_eq]
  generalize (lg_sl ([.ref (ad 0), .int p1, .int p2, .int p3]) ++ List.replicate (4 - (lg_sl ([.ref (ad 0), .int p1, .int p2, .int p3])).length) Slot.unset).toArray = ls at hl ⊢
  have hl : lv_has ls 4 [(0, .ref (ad 0)), (1, .int p1), (2, .int p2), (3, .int p3)] := hl
  change W p l e rmX9_bestPut s m ([.ref (ad 0), .int p1, .int p2, .int p3] : List Value).toArray below meth c s.heap [] 0 0 _ _
  unfold fX9_bestPut at hf
  refine lv_aload_n hx hb dX9_bestPut_0 rfl (lv_at hl 0 rfl) ?_
  refine lv_iload_n hx hb dX9_bestPut_1 rfl (lv_at hl 1 rfl) ?_
  refine lv_bipush (v := 15) hx hb dX9_bestPut_2 (by decide) ?_
  refine lv_iload_n hx hb dX9_bestPut_4 rfl (lv_at hl 2 rfl) ?_
  refine lv_iload_n hx hb dX9_bestPut_5 rfl (lv_at hl 3 rfl) ?_
  obtain ⟨r1, c_bonds_2, c_days_3, c_likely_4, c_outOf_5, c_rateNow_6, c_pence_7, c_top_8, c_bottom_9, c_worth_10, c_hold_11, c_acts_12, v13, hf⟩ := bd12_some hf
  refine gcl (va_runV (As := [.int p1, .int 15, .int p2, .int p3]) (rest := []) ⟨hx, hb, hml, hown, hts⟩ (tX9_bestOne l dC dI dA ad s.heap.size v13) (ccX9_X9_bestOne hts ⟨Nat.le_of_ble_eq_true rfl, Nat.le_of_ble_eq_true rfl⟩) (gPreV (ci := 9) (q0 := 0) hP hK hD rfl rfl) rfl rfl hl.1 rfl (lv_room (Nat.le_of_ble_eq_true rfl)) dX9_bestPut_6 ⟨Nat.le_of_ble_eq_true rfl, Nat.le_of_ble_eq_true rfl⟩) hD hS hA (fun H locs hP hD hS => ?_)
  cases hf
  exact W.lret hx hb hr (fun t ht _ => gql hP hD hS ht) hS.2.2 dX9_bestPut_9
def fX9_givesBy (p1 : Int32) (p2 : Int32) (c_bonds : Nat → Int32) (c_days : Int32) (c_pence : Nat → Int64) (c_hold : Nat → Int64) (c_sDay : Int32) (c_sUps : Int32) (c_sUp : Int32) (c_sMarks : Int32) : Option (Int64) := bd1 (fX9_couponOf p1 c_sDay c_bonds) (fun r1 => nm (Int32.toInt64 r1) (fun w3 => if p2 = 0 then bd1 (fX9_hereNow c_sDay c_sUps c_sUp c_sMarks) (fun r5 => og (okI r5 784) (some (w3 + (c_hold (Int32.toNatClampNeg r5))))) else if p2 = 1 then bd1 (fX9_putOf p1 c_sDay c_bonds c_days) (fun r9 => if r9 = (-1) then some ((-2)) else bd1 (fX9_putOf p1 c_sDay c_bonds c_days) (fun r12 => some (w3 + (Int32.toInt64 r12)))) else if p2 = 2 then bd1 (fX9_inWindow p1 c_sDay c_bonds) (fun r15 => if r15 = 0 then some ((-2)) else bd1 (fX9_turned p1 c_sDay c_sUps c_sUp c_bonds c_pence) (fun r18 => some (w3 + r18))) else bd1 (fX9_isFree p1 c_sDay c_sMarks c_bonds c_days) (fun r20 => if r20 = 0 then some ((-2)) else bd1 (fX9_called p1 c_sDay c_sUps c_sUp c_bonds c_days c_pence) (fun r23 => some (w3 + r23)))))
abbrev rmX9_givesBy : Room := { frames := 4, cells := 0, slots := 0, locals := 103 }
set_option maxHeartbeats 4000000 in
set_option maxRecDepth 100000 in
theorem tX9_givesBy (l : Launch) (dC : Nat → ClassId) (dI : Nat → Nat → Nat) (dA : Nat → ClassId) (ad : Nat → Nat) (sz : Nat) {p1 : Int32} {p2 : Int32} {c_tape : Nat → Int32} {c_taped : Int32} {c_tree : Nat → Int32} {c_bonds : Nat → Int32} {c_moves : Nat → Int32} {c_handMoves : Nat → Int32} {c_moved : Int32} {c_days : Int32} {c_likely : Int32} {c_outOf : Int32} {c_rateNow : Int32} {c_pence : Nat → Int64} {c_top : Int64} {c_bottom : Int64} {c_spot : Int32} {c_textLong : Int32} {c_fault : Int32} {c_number : Int32} {c_numberAt : Int32} {c_figures : Int32} {c_written : Int32} {c_wanted : Int32} {c_found : Int32} {c_drawnNow : Int32} {c_worth : Nat → Int64} {c_hold : Nat → Int64} {c_way : Nat → Int64} {c_acts : Nat → Int32} {c_sDay : Int32} {c_sUps : Int32} {c_sUp : Int32} {c_sMarks : Int32} {c_paidAll : Int64} {c_isPlayed : Int32} {c_isOn : Int32} {c_handMoved : Int32} {c_handPaid : Int64} {c_regret : Int64} {c_aside : Nat → Int32} {c_other : Nat → Int64} {c_states : Int32} {c_kept : Nat → Int32} {c_keptLong : Nat → Int64} {c_keptAt : Int32} {c_isTaking : Int32} {r : Int64} (hf : fX9_givesBy p1 p2 c_bonds c_days c_pence c_hold c_sDay c_sUps c_sUp c_sMarks = some (r)) : Met l yX9_givesBy (wq (Cond.code yX9_givesBy cX9_givesBy 5 (some .long))) rmX9_givesBy (gP [.ref (ad 0), .int p1, .int p2] (dC, dI) dA (mW dA ad c_tape c_taped c_tree c_bonds c_moves c_handMoves c_moved c_days c_likely c_outOf c_rateNow c_pence c_top c_bottom c_spot c_textLong c_fault c_number c_numberAt c_figures c_written c_wanted c_found c_drawnNow c_worth c_hold c_way c_acts c_sDay c_sUps c_sUp c_sMarks c_paidAll c_isPlayed c_isOn c_handMoved c_handPaid c_regret c_aside c_other c_states c_kept c_keptLong c_keptAt c_isTaking) sz) (gQl (dC, dI) r (mW dA ad c_tape c_taped c_tree c_bonds c_moves c_handMoves c_moved c_days c_likely c_outOf c_rateNow c_pence c_top c_bottom c_spot c_textLong c_fault c_number c_numberAt c_figures c_written c_wanted c_found c_drawnNow c_worth c_hold c_way c_acts c_sDay c_sUps c_sUp c_sMarks c_paidAll c_isPlayed c_isOn c_handMoved c_handPaid c_regret c_aside c_other c_states c_kept c_keptLong c_keptAt c_isTaking) (va_A (mW dA ad c_tape c_taped c_tree c_bonds c_moves c_handMoves c_moved c_days c_likely c_outOf c_rateNow c_pence c_top c_bottom c_spot c_textLong c_fault c_number c_numberAt c_figures c_written c_wanted c_found c_drawnNow c_worth c_hold c_way c_acts c_sDay c_sUps c_sUp c_sMarks c_paidAll c_isPlayed c_isOn c_handMoved c_handPaid c_regret c_aside c_other c_states c_kept c_keptLong c_keptAt c_isTaking) sz)) 0 0 (va_A (mW dA ad c_tape c_taped c_tree c_bonds c_moves c_handMoves c_moved c_days c_likely c_outOf c_rateNow c_pence c_top c_bottom c_spot c_textLong c_fault c_number c_numberAt c_figures c_written c_wanted c_found c_drawnNow c_worth c_hold c_way c_acts c_sDay c_sUps c_sUp c_sMarks c_paidAll c_isPlayed c_isOn c_handMoved c_handPaid c_regret c_aside c_other c_states c_kept c_keptLong c_keptAt c_isTaking) sz) := by
  refine Met.ofW (cc := cX9_givesBy) (maxL := 5) (ret := (some .long)) (by decide) rfl ?_
  intro p e s m args below meth c s₁ B hml hv
  obtain ⟨rfl, hsz, hP, hK, hD0⟩ := hv
  have hx := B.exec
  have hb := B.bytes
  have hr := B.returns
  have hts := atoms_spec (ws := wq (Cond.code yX9_givesBy cX9_givesBy 5 (some .long))) B.pre
  have hown : s.vm.findClass RX9 = some m.cls := findClass_of_methodNamed B.named
  have hlocks := B.notSynchronized
  clear B
  subst hsz
  have hD := hD0.self (sz := s.heap.size)
  generalize hAe : va_A (mW dA ad c_tape c_taped c_tree c_bonds c_moves c_handMoves c_moved c_days c_likely c_outOf c_rateNow c_pence c_top c_bottom c_spot c_textLong c_fault c_number c_numberAt c_figures c_written c_wanted c_found c_drawnNow c_worth c_hold c_way c_acts c_sDay c_sUps c_sUp c_sMarks c_paidAll c_isPlayed c_isOn c_handMoved c_handPaid c_regret c_aside c_other c_states c_kept c_keptLong c_keptAt c_isTaking) s.heap.size = A at hD ⊢
  have hA : ∀ q : Nat, s.heap.size ≤ q → A q := fun q h => by rw [← hAe]; exact Or.inr h
  clear hAe hD0
  have hS : va_S A s.heap s.heap [] := va_S.rf
  have hl := lv_entry ([.ref (ad 0), .int p1, .int p2]) (n := 5) (Nat.le_of_ble_eq_true rfl)
  rw [lg_entry_eq]
  generalize (lg_sl ([.ref (ad 0), .int p1, .int p2]) ++ List.replicate (5 - (lg_sl ([.ref (ad 0), .int p1, .int p2])).length) Slot.unset).toArray = ls at hl ⊢
  have hl : lv_has ls 5 [(0, .ref (ad 0)), (1, .int p1), (2, .int p2)] := hl
  change W p l e rmX9_givesBy s m ([.ref (ad 0), .int p1, .int p2] : List Value).toArray below meth c s.heap [] 0 0 _ _
  unfold fX9_givesBy at hf
  refine lv_aload_n hx hb dX9_givesBy_0 rfl (lv_at hl 0 rfl) ?_
  refine lv_iload_n hx hb dX9_givesBy_1 rfl (lv_at hl 1 rfl) ?_
  refine lv_aload_n hx hb dX9_givesBy_2 rfl (lv_at hl 0 rfl) ?_
  refine va_get (D := (dC, dI)) (ci := 9) (v := .int c_sDay) (C := RX9) (T := TX9) (N := 45) hx hb hts (fun w h => gw_mem (inX9 w h)) hown hK.1 hP 0 rfl rfl 28 (by decide) (hts _ (gw_mem wfX9_316)) (fun _ h9 => h9) rfl dX9_givesBy_3 ?_
  obtain ⟨r1, v2, hf⟩ := bd1_some hf
  refine gci (va_runV (As := [.int p1, .int c_sDay]) (rest := []) ⟨hx, hb, hml, hown, hts⟩ (tX9_couponOf l dC dI dA ad s.heap.size v2) (ccX9_X9_couponOf hts ⟨Nat.le_of_ble_eq_true rfl, Nat.le_of_ble_eq_true rfl⟩) (gPreV (ci := 9) (q0 := 0) hP hK hD rfl rfl) rfl rfl hl.1 rfl (lv_room (Nat.le_of_ble_eq_true rfl)) dX9_givesBy_6 ⟨Nat.le_of_ble_eq_true rfl, Nat.le_of_ble_eq_true rfl⟩) hD hS hA (fun H locs hP hD hS => ?_)
  refine lv_i2l hx hb dX9_givesBy_9 rfl ?_
  refine lv_topl (fun w3 ew3 => ?_)
  replace hf := nm_at hf ew3
  refine lv_lstore_n (lv' := [(3, .long w3), (0, .ref (ad 0)), (1, .int p1), (2, .int p2)]) hx hb dX9_givesBy_10 rfl hl (by decide) rfl (fun ls hl => ?_)
  refine lv_iload_n hx hb dX9_givesBy_11 rfl (lv_at hl 3 rfl) ?_
  by_cases k4 : p2 = 0
  · replace hf := ifp k4 hf
    refine lv_tableIn (tgt := 40) hx hb dX9_givesBy_12 (by rw [k4]; decide) (by rw [k4]; decide) (by rw [k4]; rfl) (by decide) ?_
    refine lv_lload_n hx hb dX9_givesBy_40 rfl (lv_at hl 0 rfl) ?_
    refine lv_aload_n hx hb dX9_givesBy_41 rfl (lv_at hl 1 rfl) ?_
    refine va_get (D := (dC, dI)) (ci := 9) (v := .ref (ad 8)) (C := RX9) (T := TX9) (N := 45) hx hb hts (fun w h => gw_mem (inX9 w h)) hown hK.1 hP 0 rfl rfl 25 (by decide) (hts _ (gw_mem wfX9_33)) (fun _ h9 => h9) rfl dX9_givesBy_42 ?_
    refine lv_aload_n hx hb dX9_givesBy_45 rfl (lv_at hl 1 rfl) ?_
    obtain ⟨r5, v6, hf⟩ := bd1_some hf
    refine gci (va_runV (As := []) (rest := [.ref (ad 8), .long w3]) ⟨hx, hb, hml, hown, hts⟩ (tX9_hereNow l dC dI dA ad H.size v6) (ccX9_X9_hereNow hts ⟨Nat.le_of_ble_eq_true rfl, Nat.le_of_ble_eq_true rfl⟩) (gPreV (ci := 9) (q0 := 0) hP hK hD rfl rfl) rfl rfl hl.1 rfl (lv_room (Nat.le_of_ble_eq_true rfl)) dX9_givesBy_46 ⟨Nat.le_of_ble_eq_true rfl, Nat.le_of_ble_eq_true rfl⟩) hD hS hA (fun H locs hP hD hS => ?_)
    obtain ⟨h7, hf⟩ := og_some hf
    refine va_lald hx hb hK.1 hP 8 1 rfl rfl (okI_in h7) dX9_givesBy_49 ?_
    refine lv_ladd hx hb dX9_givesBy_50 ?_
    cases hf
    exact W.lret hx hb hr (fun t ht _ => gql hP hD hS ht) hS.2.2 dX9_givesBy_51
  · replace hf := ifn k4 hf
    by_cases k8 : p2 = 1
    · replace hf := ifp k8 hf
      refine lv_tableIn (tgt := 52) hx hb dX9_givesBy_12 (by rw [k8]; decide) (by rw [k8]; decide) (by rw [k8]; rfl) (by decide) ?_
      refine lv_aload_n hx hb dX9_givesBy_52 rfl (lv_at hl 1 rfl) ?_
      refine lv_iload_n hx hb dX9_givesBy_53 rfl (lv_at hl 2 rfl) ?_
      refine lv_aload_n hx hb dX9_givesBy_54 rfl (lv_at hl 1 rfl) ?_
      refine va_get (D := (dC, dI)) (ci := 9) (v := .int c_sDay) (C := RX9) (T := TX9) (N := 45) hx hb hts (fun w h => gw_mem (inX9 w h)) hown hK.1 hP 0 rfl rfl 28 (by decide) (hts _ (gw_mem wfX9_316)) (fun _ h9 => h9) rfl dX9_givesBy_55 ?_
      obtain ⟨r9, v10, hf⟩ := bd1_some hf
      refine gci (va_runV (As := [.int p1, .int c_sDay]) (rest := []) ⟨hx, hb, hml, hown, hts⟩ (tX9_putOf l dC dI dA ad H.size v10) (ccX9_X9_putOf hts ⟨Nat.le_of_ble_eq_true rfl, Nat.le_of_ble_eq_true rfl⟩) (gPreV (ci := 9) (q0 := 0) hP hK hD rfl rfl) rfl rfl hl.1 rfl (lv_room (Nat.le_of_ble_eq_true rfl)) dX9_givesBy_58 ⟨Nat.le_of_ble_eq_true rfl, Nat.le_of_ble_eq_true rfl⟩) hD hS hA (fun H locs hP hD hS => ?_)
      refine lv_iconst (v := (-1)) hx hb dX9_givesBy_61 (by decide) ?_
      refine lv_icmp_ne (tgt := 71) hx hb dX9_givesBy_62 (by decide) (fun k11 => ?_) (fun k11 => ?_)
      · replace hf := ifn k11 hf
        refine lv_lload_n hx hb dX9_givesBy_71 rfl (lv_at hl 0 rfl) ?_
        refine lv_aload_n hx hb dX9_givesBy_72 rfl (lv_at hl 1 rfl) ?_
        refine lv_iload_n hx hb dX9_givesBy_73 rfl (lv_at hl 2 rfl) ?_
        refine lv_aload_n hx hb dX9_givesBy_74 rfl (lv_at hl 1 rfl) ?_
        refine va_get (D := (dC, dI)) (ci := 9) (v := .int c_sDay) (C := RX9) (T := TX9) (N := 45) hx hb hts (fun w h => gw_mem (inX9 w h)) hown hK.1 hP 0 rfl rfl 28 (by decide) (hts _ (gw_mem wfX9_316)) (fun _ h9 => h9) rfl dX9_givesBy_75 ?_
        obtain ⟨r12, v13, hf⟩ := bd1_some hf
        refine gci (va_runV (As := [.int p1, .int c_sDay]) (rest := [.long w3]) ⟨hx, hb, hml, hown, hts⟩ (tX9_putOf l dC dI dA ad H.size v13) (ccX9_X9_putOf hts ⟨Nat.le_of_ble_eq_true rfl, Nat.le_of_ble_eq_true rfl⟩) (gPreV (ci := 9) (q0 := 0) hP hK hD rfl rfl) rfl rfl hl.1 rfl (lv_room (Nat.le_of_ble_eq_true rfl)) dX9_givesBy_78 ⟨Nat.le_of_ble_eq_true rfl, Nat.le_of_ble_eq_true rfl⟩) hD hS hA (fun H locs hP hD hS => ?_)
        refine lv_i2l hx hb dX9_givesBy_81 rfl ?_
        refine lv_ladd hx hb dX9_givesBy_82 ?_
        cases hf
        exact W.lret hx hb hr (fun t ht _ => gql hP hD hS ht) hS.2.2 dX9_givesBy_83
      · replace hf := ifp k11 hf
        refine lv_ldc2 (v := (-2)) hx hb hown (hts _ (gw_mem wkX9_343)) dX9_givesBy_65 ?_
        refine lv_goto (tgt := 83) hx hb dX9_givesBy_68 (by decide) ?_
        cases hf
        exact W.lret hx hb hr (fun t ht _ => gql hP hD hS ht) hS.2.2 dX9_givesBy_83
    · replace hf := ifn k8 hf
      by_cases k14 : p2 = 2
      · replace hf := ifp k14 hf
        refine lv_tableIn (tgt := 84) hx hb dX9_givesBy_12 (by rw [k14]; decide) (by rw [k14]; decide) (by rw [k14]; rfl) (by decide) ?_
        refine lv_aload_n hx hb dX9_givesBy_84 rfl (lv_at hl 1 rfl) ?_
        refine lv_iload_n hx hb dX9_givesBy_85 rfl (lv_at hl 2 rfl) ?_
        refine lv_aload_n hx hb dX9_givesBy_86 rfl (lv_at hl 1 rfl) ?_
        refine va_get (D := (dC, dI)) (ci := 9) (v := .int c_sDay) (C := RX9) (T := TX9) (N := 45) hx hb hts (fun w h => gw_mem (inX9 w h)) hown hK.1 hP 0 rfl rfl 28 (by decide) (hts _ (gw_mem wfX9_316)) (fun _ h9 => h9) rfl dX9_givesBy_87 ?_
        obtain ⟨r15, v16, hf⟩ := bd1_some hf
        refine gci (va_runV (As := [.int p1, .int c_sDay]) (rest := []) ⟨hx, hb, hml, hown, hts⟩ (tX9_inWindow l dC dI dA ad H.size v16) (ccX9_X9_inWindow hts ⟨Nat.le_of_ble_eq_true rfl, Nat.le_of_ble_eq_true rfl⟩) (gPreV (ci := 9) (q0 := 0) hP hK hD rfl rfl) rfl rfl hl.1 rfl (lv_room (Nat.le_of_ble_eq_true rfl)) dX9_givesBy_90 ⟨Nat.le_of_ble_eq_true rfl, Nat.le_of_ble_eq_true rfl⟩) hD hS hA (fun H locs hP hD hS => ?_)
        refine lv_if_eq (tgt := 118) hx hb dX9_givesBy_93 (by decide) (fun k17 => ?_) (fun k17 => ?_)
        · replace hf := ifp k17 hf
          refine lv_ldc2 (v := (-2)) hx hb hown (hts _ (gw_mem wkX9_343)) dX9_givesBy_118 ?_
          cases hf
          exact W.lret hx hb hr (fun t ht _ => gql hP hD hS ht) hS.2.2 dX9_givesBy_121
        · replace hf := ifn k17 hf
          refine lv_lload_n hx hb dX9_givesBy_96 rfl (lv_at hl 0 rfl) ?_
          refine lv_aload_n hx hb dX9_givesBy_97 rfl (lv_at hl 1 rfl) ?_
          refine lv_iload_n hx hb dX9_givesBy_98 rfl (lv_at hl 2 rfl) ?_
          refine lv_aload_n hx hb dX9_givesBy_99 rfl (lv_at hl 1 rfl) ?_
          refine va_get (D := (dC, dI)) (ci := 9) (v := .int c_sDay) (C := RX9) (T := TX9) (N := 45) hx hb hts (fun w h => gw_mem (inX9 w h)) hown hK.1 hP 0 rfl rfl 28 (by decide) (hts _ (gw_mem wfX9_316)) (fun _ h9 => h9) rfl dX9_givesBy_100 ?_
          refine lv_aload_n hx hb dX9_givesBy_103 rfl (lv_at hl 1 rfl) ?_
          refine va_get (D := (dC, dI)) (ci := 9) (v := .int c_sUps) (C := RX9) (T := TX9) (N := 45) hx hb hts (fun w h => gw_mem (inX9 w h)) hown hK.1 hP 0 rfl rfl 29 (by decide) (hts _ (gw_mem wfX9_319)) (fun _ h9 => h9) rfl dX9_givesBy_104 ?_
          refine lv_aload_n hx hb dX9_givesBy_107 rfl (lv_at hl 1 rfl) ?_
          refine va_get (D := (dC, dI)) (ci := 9) (v := .int c_sUp) (C := RX9) (T := TX9) (N := 45) hx hb hts (fun w h => gw_mem (inX9 w h)) hown hK.1 hP 0 rfl rfl 30 (by decide) (hts _ (gw_mem wfX9_322)) (fun _ h9 => h9) rfl dX9_givesBy_108 ?_
          obtain ⟨r18, v19, hf⟩ := bd1_some hf
          refine gcl (va_runV (As := [.int p1, .int c_sDay, .int c_sUps, .int c_sUp]) (rest := [.long w3]) ⟨hx, hb, hml, hown, hts⟩ (tX9_turned l dC dI dA ad H.size v19) (ccX9_X9_turned hts ⟨Nat.le_of_ble_eq_true rfl, Nat.le_of_ble_eq_true rfl⟩) (gPreV (ci := 9) (q0 := 0) hP hK hD rfl rfl) rfl rfl hl.1 rfl (lv_room (Nat.le_of_ble_eq_true rfl)) dX9_givesBy_111 ⟨Nat.le_of_ble_eq_true rfl, Nat.le_of_ble_eq_true rfl⟩) hD hS hA (fun H locs hP hD hS => ?_)
          refine lv_ladd hx hb dX9_givesBy_114 ?_
          refine lv_goto (tgt := 121) hx hb dX9_givesBy_115 (by decide) ?_
          cases hf
          exact W.lret hx hb hr (fun t ht _ => gql hP hD hS ht) hS.2.2 dX9_givesBy_121
      · replace hf := ifn k14 hf
        have uk4 := lv_neT (a := 0) k4 (by decide)
        have uk8 := lv_neT (a := 1) k8 (by decide)
        have uk14 := lv_neT (a := 2) k14 (by decide)
        refine lv_tableOut (tgt := 122) hx hb dX9_givesBy_12 (by omega) (by decide) ?_
        refine lv_aload_n hx hb dX9_givesBy_122 rfl (lv_at hl 1 rfl) ?_
        refine lv_iload_n hx hb dX9_givesBy_123 rfl (lv_at hl 2 rfl) ?_
        refine lv_aload_n hx hb dX9_givesBy_124 rfl (lv_at hl 1 rfl) ?_
        refine va_get (D := (dC, dI)) (ci := 9) (v := .int c_sDay) (C := RX9) (T := TX9) (N := 45) hx hb hts (fun w h => gw_mem (inX9 w h)) hown hK.1 hP 0 rfl rfl 28 (by decide) (hts _ (gw_mem wfX9_316)) (fun _ h9 => h9) rfl dX9_givesBy_125 ?_
        refine lv_aload_n hx hb dX9_givesBy_128 rfl (lv_at hl 1 rfl) ?_
        refine va_get (D := (dC, dI)) (ci := 9) (v := .int c_sMarks) (C := RX9) (T := TX9) (N := 45) hx hb hts (fun w h => gw_mem (inX9 w h)) hown hK.1 hP 0 rfl rfl 31 (by decide) (hts _ (gw_mem wfX9_325)) (fun _ h9 => h9) rfl dX9_givesBy_129 ?_
        obtain ⟨r20, v21, hf⟩ := bd1_some hf
        refine gci (va_runV (As := [.int p1, .int c_sDay, .int c_sMarks]) (rest := []) ⟨hx, hb, hml, hown, hts⟩ (tX9_isFree l dC dI dA ad H.size v21) (ccX9_X9_isFree hts ⟨Nat.le_of_ble_eq_true rfl, Nat.le_of_ble_eq_true rfl⟩) (gPreV (ci := 9) (q0 := 0) hP hK hD rfl rfl) rfl rfl hl.1 rfl (lv_room (Nat.le_of_ble_eq_true rfl)) dX9_givesBy_132 ⟨Nat.le_of_ble_eq_true rfl, Nat.le_of_ble_eq_true rfl⟩) hD hS hA (fun H locs hP hD hS => ?_)
        refine lv_if_eq (tgt := 160) hx hb dX9_givesBy_135 (by decide) (fun k22 => ?_) (fun k22 => ?_)
        · replace hf := ifp k22 hf
          refine lv_ldc2 (v := (-2)) hx hb hown (hts _ (gw_mem wkX9_343)) dX9_givesBy_160 ?_
          cases hf
          exact W.lret hx hb hr (fun t ht _ => gql hP hD hS ht) hS.2.2 dX9_givesBy_163
        · replace hf := ifn k22 hf
          refine lv_lload_n hx hb dX9_givesBy_138 rfl (lv_at hl 0 rfl) ?_
          refine lv_aload_n hx hb dX9_givesBy_139 rfl (lv_at hl 1 rfl) ?_
          refine lv_iload_n hx hb dX9_givesBy_140 rfl (lv_at hl 2 rfl) ?_
          refine lv_aload_n hx hb dX9_givesBy_141 rfl (lv_at hl 1 rfl) ?_
          refine va_get (D := (dC, dI)) (ci := 9) (v := .int c_sDay) (C := RX9) (T := TX9) (N := 45) hx hb hts (fun w h => gw_mem (inX9 w h)) hown hK.1 hP 0 rfl rfl 28 (by decide) (hts _ (gw_mem wfX9_316)) (fun _ h9 => h9) rfl dX9_givesBy_142 ?_
          refine lv_aload_n hx hb dX9_givesBy_145 rfl (lv_at hl 1 rfl) ?_
          refine va_get (D := (dC, dI)) (ci := 9) (v := .int c_sUps) (C := RX9) (T := TX9) (N := 45) hx hb hts (fun w h => gw_mem (inX9 w h)) hown hK.1 hP 0 rfl rfl 29 (by decide) (hts _ (gw_mem wfX9_319)) (fun _ h9 => h9) rfl dX9_givesBy_146 ?_
          refine lv_aload_n hx hb dX9_givesBy_149 rfl (lv_at hl 1 rfl) ?_
          refine va_get (D := (dC, dI)) (ci := 9) (v := .int c_sUp) (C := RX9) (T := TX9) (N := 45) hx hb hts (fun w h => gw_mem (inX9 w h)) hown hK.1 hP 0 rfl rfl 30 (by decide) (hts _ (gw_mem wfX9_322)) (fun _ h9 => h9) rfl dX9_givesBy_150 ?_
          obtain ⟨r23, v24, hf⟩ := bd1_some hf
          refine gcl (va_runV (As := [.int p1, .int c_sDay, .int c_sUps, .int c_sUp]) (rest := [.long w3]) ⟨hx, hb, hml, hown, hts⟩ (tX9_called l dC dI dA ad H.size v24) (ccX9_X9_called hts ⟨Nat.le_of_ble_eq_true rfl, Nat.le_of_ble_eq_true rfl⟩) (gPreV (ci := 9) (q0 := 0) hP hK hD rfl rfl) rfl rfl hl.1 rfl (lv_room (Nat.le_of_ble_eq_true rfl)) dX9_givesBy_153 ⟨Nat.le_of_ble_eq_true rfl, Nat.le_of_ble_eq_true rfl⟩) hD hS hA (fun H locs hP hD hS => ?_)
          refine lv_ladd hx hb dX9_givesBy_156 ?_
          refine lv_goto (tgt := 163) hx hb dX9_givesBy_157 (by decide) ?_
          cases hf
          exact W.lret hx hb hr (fun t ht _ => gql hP hD hS ht) hS.2.2 dX9_givesBy_163
theorem ccX9_X9_givesBy {R : Room} {s : State} {args : Array Value} {c0 : Cond} (ht : ∀ w ∈ wq c0, w.before args s = true) (hR : rmX9_givesBy.frames + 1 ≤ R.frames ∧ 8 + (5 + 11) + rmX9_givesBy.locals ≤ R.locals) : CallW R s args RX9 RX9 406 yX9_givesBy cX9_givesBy 5 (some .long) (wq (.code yX9_givesBy cX9_givesBy 5 (some .long))) rmX9_givesBy 0 0 2 := gCW 2 ht wcX9_givesBy wmX9_406 wiX9_givesBy weX9_givesBy wnX9 (by decide +kernel) rfl rfl hR
def fX9_instead (p1 : Int32) (p2 : Int32) (c_tree : Nat → Int32) (c_bonds : Nat → Int32) (c_moves : Nat → Int32) (c_moved : Int32) (c_days : Int32) (c_likely : Int32) (c_outOf : Int32) (c_rateNow : Int32) (c_pence : Nat → Int64) (c_top : Int64) (c_bottom : Int64) (c_worth : Nat → Int64) (c_hold : Nat → Int64) (c_acts : Nat → Int32) (c_sDay : Int32) (c_sUps : Int32) (c_sUp : Int32) (c_sMarks : Int32) : Option (Int64 × Int32 × Int32 × Int32 × Int32 × (Nat → Int64) × Int64 × Int64 × (Nat → Int64) × (Nat → Int64) × (Nat → Int32) × Int32 × Int32 × Int32 × Int32) := bd1 (fX9_isBond p1) (fun r1 => if r1 = 0 then some ((-1), c_days, c_likely, c_outOf, c_rateNow, c_pence, c_top, c_bottom, c_worth, c_hold, c_acts, c_sDay, c_sUps, c_sUp, c_sMarks) else bd1 (fX9_in (Int32.toInt64 p2) 0 3) (fun r4 => if r4 = 0 then some ((-1), c_days, c_likely, c_outOf, c_rateNow, c_pence, c_top, c_bottom, c_worth, c_hold, c_acts, c_sDay, c_sUps, c_sUp, c_sMarks) else bd10 (fX9_playsNow p1 c_tree c_bonds c_days c_likely c_outOf c_rateNow c_pence c_top c_bottom c_worth c_hold c_acts) (fun c_days_7 c_likely_8 c_outOf_9 c_rateNow_10 c_pence_11 c_top_12 c_bottom_13 c_worth_14 c_hold_15 c_acts_16 => bd4 (fX9_follows p1 c_moved c_bonds c_moves c_pence_11 c_sDay c_sUps c_sUp c_sMarks) (fun c_sDay_18 c_sUps_19 c_sUp_20 c_sMarks_21 => bd1 (fX9_givesBy p1 p2 c_bonds c_days_7 c_pence_11 c_hold_15 c_sDay_18 c_sUps_19 c_sUp_20 c_sMarks_21) (fun r23 => some (r23, c_days_7, c_likely_8, c_outOf_9, c_rateNow_10, c_pence_11, c_top_12, c_bottom_13, c_worth_14, c_hold_15, c_acts_16, c_sDay_18, c_sUps_19, c_sUp_20, c_sMarks_21))))))
abbrev rmX9_instead : Room := { frames := 7, cells := 0, slots := 0, locals := 184 }
set_option maxHeartbeats 4000000 in
set_option maxRecDepth 100000 in
theorem tX9_instead (l : Launch) (dC : Nat → ClassId) (dI : Nat → Nat → Nat) (dA : Nat → ClassId) (ad : Nat → Nat) (sz : Nat) {p1 : Int32} {p2 : Int32} {c_tape : Nat → Int32} {c_taped : Int32} {c_tree : Nat → Int32} {c_bonds : Nat → Int32} {c_moves : Nat → Int32} {c_handMoves : Nat → Int32} {c_moved : Int32} {c_days : Int32} {c_likely : Int32} {c_outOf : Int32} {c_rateNow : Int32} {c_pence : Nat → Int64} {c_top : Int64} {c_bottom : Int64} {c_spot : Int32} {c_textLong : Int32} {c_fault : Int32} {c_number : Int32} {c_numberAt : Int32} {c_figures : Int32} {c_written : Int32} {c_wanted : Int32} {c_found : Int32} {c_drawnNow : Int32} {c_worth : Nat → Int64} {c_hold : Nat → Int64} {c_way : Nat → Int64} {c_acts : Nat → Int32} {c_sDay : Int32} {c_sUps : Int32} {c_sUp : Int32} {c_sMarks : Int32} {c_paidAll : Int64} {c_isPlayed : Int32} {c_isOn : Int32} {c_handMoved : Int32} {c_handPaid : Int64} {c_regret : Int64} {c_aside : Nat → Int32} {c_other : Nat → Int64} {c_states : Int32} {c_kept : Nat → Int32} {c_keptLong : Nat → Int64} {c_keptAt : Int32} {c_isTaking : Int32} {r : Int64} {o_c_days : Int32} {o_c_likely : Int32} {o_c_outOf : Int32} {o_c_rateNow : Int32} {o_c_pence : Nat → Int64} {o_c_top : Int64} {o_c_bottom : Int64} {o_c_worth : Nat → Int64} {o_c_hold : Nat → Int64} {o_c_acts : Nat → Int32} {o_c_sDay : Int32} {o_c_sUps : Int32} {o_c_sUp : Int32} {o_c_sMarks : Int32} (hf : fX9_instead p1 p2 c_tree c_bonds c_moves c_moved c_days c_likely c_outOf c_rateNow c_pence c_top c_bottom c_worth c_hold c_acts c_sDay c_sUps c_sUp c_sMarks = some (r, o_c_days, o_c_likely, o_c_outOf, o_c_rateNow, o_c_pence, o_c_top, o_c_bottom, o_c_worth, o_c_hold, o_c_acts, o_c_sDay, o_c_sUps, o_c_sUp, o_c_sMarks)) : Met l yX9_instead (wq (Cond.code yX9_instead cX9_instead 3 (some .long))) rmX9_instead (gP [.ref (ad 0), .int p1, .int p2] (dC, dI) dA (mW dA ad c_tape c_taped c_tree c_bonds c_moves c_handMoves c_moved c_days c_likely c_outOf c_rateNow c_pence c_top c_bottom c_spot c_textLong c_fault c_number c_numberAt c_figures c_written c_wanted c_found c_drawnNow c_worth c_hold c_way c_acts c_sDay c_sUps c_sUp c_sMarks c_paidAll c_isPlayed c_isOn c_handMoved c_handPaid c_regret c_aside c_other c_states c_kept c_keptLong c_keptAt c_isTaking) sz) (gQl (dC, dI) r (mW dA ad c_tape c_taped c_tree c_bonds c_moves c_handMoves c_moved o_c_days o_c_likely o_c_outOf o_c_rateNow o_c_pence o_c_top o_c_bottom c_spot c_textLong c_fault c_number c_numberAt c_figures c_written c_wanted c_found c_drawnNow o_c_worth o_c_hold c_way o_c_acts o_c_sDay o_c_sUps o_c_sUp o_c_sMarks c_paidAll c_isPlayed c_isOn c_handMoved c_handPaid c_regret c_aside c_other c_states c_kept c_keptLong c_keptAt c_isTaking) (va_A (mW dA ad c_tape c_taped c_tree c_bonds c_moves c_handMoves c_moved c_days c_likely c_outOf c_rateNow c_pence c_top c_bottom c_spot c_textLong c_fault c_number c_numberAt c_figures c_written c_wanted c_found c_drawnNow c_worth c_hold c_way c_acts c_sDay c_sUps c_sUp c_sMarks c_paidAll c_isPlayed c_isOn c_handMoved c_handPaid c_regret c_aside c_other c_states c_kept c_keptLong c_keptAt c_isTaking) sz)) 0 0 (va_A (mW dA ad c_tape c_taped c_tree c_bonds c_moves c_handMoves c_moved c_days c_likely c_outOf c_rateNow c_pence c_top c_bottom c_spot c_textLong c_fault c_number c_numberAt c_figures c_written c_wanted c_found c_drawnNow c_worth c_hold c_way c_acts c_sDay c_sUps c_sUp c_sMarks c_paidAll c_isPlayed c_isOn c_handMoved c_handPaid c_regret c_aside c_other c_states c_kept c_keptLong c_keptAt c_isTaking) sz) := by
  refine Met.ofW (cc := cX9_instead) (maxL := 3) (ret := (some .long)) (by decide) rfl ?_
  intro p e s m args below meth c s₁ B hml hv
  obtain ⟨rfl, hsz, hP, hK, hD0⟩ := hv
  have hx := B.exec
  have hb := B.bytes
  have hr := B.returns
  have hts := atoms_spec (ws := wq (Cond.code yX9_instead cX9_instead 3 (some .long))) B.pre
  have hown : s.vm.findClass RX9 = some m.cls := findClass_of_methodNamed B.named
  have hlocks := B.notSynchronized
  clear B
  subst hsz
  have hD := hD0.self (sz := s.heap.size)
  generalize hAe : va_A (mW dA ad c_tape c_taped c_tree c_bonds c_moves c_handMoves c_moved c_days c_likely c_outOf c_rateNow c_pence c_top c_bottom c_spot c_textLong c_fault c_number c_numberAt c_figures c_written c_wanted c_found c_drawnNow c_worth c_hold c_way c_acts c_sDay c_sUps c_sUp c_sMarks c_paidAll c_isPlayed c_isOn c_handMoved c_handPaid c_regret c_aside c_other c_states c_kept c_keptLong c_keptAt c_isTaking) s.heap.size = A at hD ⊢
  have hA : ∀ q : Nat, s.heap.size ≤ q → A q := fun q h => by rw [← hAe]; exact Or.inr h
  clear hAe hD0
  have hS : va_S A s.heap s.heap [] := va_S.rf
  have hl := lv_entry ([.ref (ad 0), .int p1, .int p2]) (n := 3) (Nat.le_of_ble_eq_true rfl)
  rw [lg_entry_eq]
  generalize (lg_sl ([.ref (ad 0), .int p1, .int p2]) ++ List.replicate (3 - (lg_sl ([.ref (ad 0), .int p1, .int p2])).length) Slot.unset).toArray = ls at hl ⊢
  have hl : lv_has ls 3 [(0, .ref (ad 0)), (1, .int p1), (2, .int p2)] := hl
  change W p l e rmX9_instead s m ([.ref (ad 0), .int p1, .int p2] : List Value).toArray below meth c s.heap [] 0 0 _ _
  unfold fX9_instead at hf
  refine lv_iload_n hx hb dX9_instead_0 rfl (lv_at hl 1 rfl) ?_
  obtain ⟨r1, v2, hf⟩ := bd1_some hf
  refine gci0 (va_runS (As := [.int p1]) (rest := []) ⟨hx, hb, hml, hown, hts⟩ (tX9_isBond l dC dI dA s.heap.size v2) (ccX9_X9_isBond hts ⟨Nat.le_of_ble_eq_true rfl, Nat.le_of_ble_eq_true rfl⟩) (gPreS0 hK) rfl rfl hl.1 rfl (lv_room (Nat.le_of_ble_eq_true rfl)) dX9_instead_1 ⟨Nat.le_of_ble_eq_true rfl, Nat.le_of_ble_eq_true rfl⟩) hP hS hA (fun H locs hP hS => ?_)
  refine lv_if_eq (tgt := 19) hx hb dX9_instead_4 (by decide) (fun k3 => ?_) (fun k3 => ?_)
  · replace hf := ifp k3 hf
    refine lv_ldc2 (v := (-1)) hx hb hown (hts _ (gw_mem wkX9_116)) dX9_instead_19 ?_
    cases hf
    exact W.lret hx hb hr (fun t ht _ => gql hP hD hS ht) hS.2.2 dX9_instead_22
  · replace hf := ifn k3 hf
    refine lv_iload_n hx hb dX9_instead_7 rfl (lv_at hl 2 rfl) ?_
    refine lv_i2l hx hb dX9_instead_8 rfl ?_
    refine lv_lconst (v := 0) hx hb dX9_instead_9 rfl ?_
    refine lv_ldc2 (v := 3) hx hb hown (hts _ (gw_mem wkX9_142)) dX9_instead_10 ?_
    obtain ⟨r4, v5, hf⟩ := bd1_some hf
    refine gci0 (va_runS (As := [.long (Int32.toInt64 p2), .long 0, .long 3]) (rest := []) ⟨hx, hb, hml, hown, hts⟩ (tX9_in l dC dI dA H.size v5) (ccX9_X9_in hts ⟨Nat.le_of_ble_eq_true rfl, Nat.le_of_ble_eq_true rfl⟩) (gPreS0 hK) rfl rfl hl.1 rfl (lv_room (Nat.le_of_ble_eq_true rfl)) dX9_instead_13 ⟨Nat.le_of_ble_eq_true rfl, Nat.le_of_ble_eq_true rfl⟩) hP hS hA (fun H locs hP hS => ?_)
    refine lv_if_ne (tgt := 23) hx hb dX9_instead_16 (by decide) (fun k6 => ?_) (fun k6 => ?_)
    · replace hf := ifn k6 hf
      refine lv_aload_n hx hb dX9_instead_23 rfl (lv_at hl 0 rfl) ?_
      refine lv_iload_n hx hb dX9_instead_24 rfl (lv_at hl 1 rfl) ?_
      obtain ⟨c_days_7, c_likely_8, c_outOf_9, c_rateNow_10, c_pence_11, c_top_12, c_bottom_13, c_worth_14, c_hold_15, c_acts_16, v17, hf⟩ := bd10_some hf
      refine gcv (va_runV (As := [.int p1]) (rest := []) ⟨hx, hb, hml, hown, hts⟩ (tX9_playsNow l dC dI dA ad H.size v17) (ccX9_X9_playsNow hts ⟨Nat.le_of_ble_eq_true rfl, Nat.le_of_ble_eq_true rfl⟩) (gPreV (ci := 9) (q0 := 0) hP hK hD rfl rfl) rfl rfl hl.1 rfl (lv_room (Nat.le_of_ble_eq_true rfl)) dX9_instead_25 ⟨Nat.le_of_ble_eq_true rfl, Nat.le_of_ble_eq_true rfl⟩) hD hS hA (fun H locs hP hD hS => ?_)
      refine lv_aload_n hx hb dX9_instead_28 rfl (lv_at hl 0 rfl) ?_
      refine lv_iload_n hx hb dX9_instead_29 rfl (lv_at hl 1 rfl) ?_
      refine lv_aload_n hx hb dX9_instead_30 rfl (lv_at hl 0 rfl) ?_
      refine va_get (D := (dC, dI)) (ci := 9) (v := .int c_moved) (C := RX9) (T := TX9) (N := 45) hx hb hts (fun w h => gw_mem (inX9 w h)) hown hK.1 hP 0 rfl rfl 6 (by decide) (hts _ (gw_mem wfX9_76)) (fun _ h9 => h9) rfl dX9_instead_31 ?_
      obtain ⟨c_sDay_18, c_sUps_19, c_sUp_20, c_sMarks_21, v22, hf⟩ := bd4_some hf
      refine gcv (va_runV (As := [.int p1, .int c_moved]) (rest := []) ⟨hx, hb, hml, hown, hts⟩ (tX9_follows l dC dI dA ad H.size v22) (ccX9_X9_follows hts ⟨Nat.le_of_ble_eq_true rfl, Nat.le_of_ble_eq_true rfl⟩) (gPreV (ci := 9) (q0 := 0) hP hK hD rfl rfl) rfl rfl hl.1 rfl (lv_room (Nat.le_of_ble_eq_true rfl)) dX9_instead_34 ⟨Nat.le_of_ble_eq_true rfl, Nat.le_of_ble_eq_true rfl⟩) hD hS hA (fun H locs hP hD hS => ?_)
      refine lv_aload_n hx hb dX9_instead_37 rfl (lv_at hl 0 rfl) ?_
      refine lv_iload_n hx hb dX9_instead_38 rfl (lv_at hl 1 rfl) ?_
      refine lv_iload_n hx hb dX9_instead_39 rfl (lv_at hl 2 rfl) ?_
      obtain ⟨r23, v24, hf⟩ := bd1_some hf
      refine gcl (va_runV (As := [.int p1, .int p2]) (rest := []) ⟨hx, hb, hml, hown, hts⟩ (tX9_givesBy l dC dI dA ad H.size v24) (ccX9_X9_givesBy hts ⟨Nat.le_of_ble_eq_true rfl, Nat.le_of_ble_eq_true rfl⟩) (gPreV (ci := 9) (q0 := 0) hP hK hD rfl rfl) rfl rfl hl.1 rfl (lv_room (Nat.le_of_ble_eq_true rfl)) dX9_instead_40 ⟨Nat.le_of_ble_eq_true rfl, Nat.le_of_ble_eq_true rfl⟩) hD hS hA (fun H locs hP hD hS => ?_)
      cases hf
      exact W.lret hx hb hr (fun t ht _ => gql hP hD hS ht) hS.2.2 dX9_instead_43
    · replace hf := ifp k6 hf
      refine lv_ldc2 (v := (-1)) hx hb hown (hts _ (gw_mem wkX9_116)) dX9_instead_19 ?_
      cases hf
      exact W.lret hx hb hr (fun t ht _ => gql hP hD hS ht) hS.2.2 dX9_instead_22
def fX9_shifted (p1 : Int32) (p2 : Int32) (p3 : Int32) (p4 : Int32) (c_tree : Nat → Int32) (c_bonds : Nat → Int32) (c_days : Int32) (c_likely : Int32) (c_outOf : Int32) (c_rateNow : Int32) (c_pence : Nat → Int64) (c_top : Int64) (c_bottom : Int64) (c_worth : Nat → Int64) (c_hold : Nat → Int64) (c_acts : Nat → Int32) : Option (Int64 × Int32 × Int32 × Int32 × Int32 × (Nat → Int64) × Int64 × Int64 × (Nat → Int64) × (Nat → Int64) × (Nat → Int32)) := bd1 (fX9_isBond p1) (fun r1 => if r1 = 0 then some ((-1), c_days, c_likely, c_outOf, c_rateNow, c_pence, c_top, c_bottom, c_worth, c_hold, c_acts) else bd1 (fX9_in (Int32.toInt64 p2) 1 1000) (fun r4 => if r4 = 0 then some ((-1), c_days, c_likely, c_outOf, c_rateNow, c_pence, c_top, c_bottom, c_worth, c_hold, c_acts) else bd1 (fX9_isChance p3 p4) (fun r7 => if r7 = 0 then some ((-1), c_days, c_likely, c_outOf, c_rateNow, c_pence, c_top, c_bottom, c_worth, c_hold, c_acts) else bd7 (fX9_takesTree 0 p2 c_tree c_days c_likely c_outOf c_rateNow c_pence c_top c_bottom) (fun c_days_10 c_likely_11 c_outOf_12 c_rateNow_13 c_pence_14 c_top_15 c_bottom_16 => bd4 (fX9_valueOf p1 c_bonds c_days_10 p3 p4 c_rateNow_13 c_pence_14 c_worth c_hold c_acts) (fun r18 c_worth_19 c_hold_20 c_acts_21 => some (r18, c_days_10, p3, p4, c_rateNow_13, c_pence_14, c_top_15, c_bottom_16, c_worth_19, c_hold_20, c_acts_21))))))
abbrev rmX9_shifted : Room := { frames := 7, cells := 0, slots := 0, locals := 184 }
set_option maxHeartbeats 4000000 in
set_option maxRecDepth 100000 in
theorem tX9_shifted (l : Launch) (dC : Nat → ClassId) (dI : Nat → Nat → Nat) (dA : Nat → ClassId) (ad : Nat → Nat) (sz : Nat) {p1 : Int32} {p2 : Int32} {p3 : Int32} {p4 : Int32} {c_tape : Nat → Int32} {c_taped : Int32} {c_tree : Nat → Int32} {c_bonds : Nat → Int32} {c_moves : Nat → Int32} {c_handMoves : Nat → Int32} {c_moved : Int32} {c_days : Int32} {c_likely : Int32} {c_outOf : Int32} {c_rateNow : Int32} {c_pence : Nat → Int64} {c_top : Int64} {c_bottom : Int64} {c_spot : Int32} {c_textLong : Int32} {c_fault : Int32} {c_number : Int32} {c_numberAt : Int32} {c_figures : Int32} {c_written : Int32} {c_wanted : Int32} {c_found : Int32} {c_drawnNow : Int32} {c_worth : Nat → Int64} {c_hold : Nat → Int64} {c_way : Nat → Int64} {c_acts : Nat → Int32} {c_sDay : Int32} {c_sUps : Int32} {c_sUp : Int32} {c_sMarks : Int32} {c_paidAll : Int64} {c_isPlayed : Int32} {c_isOn : Int32} {c_handMoved : Int32} {c_handPaid : Int64} {c_regret : Int64} {c_aside : Nat → Int32} {c_other : Nat → Int64} {c_states : Int32} {c_kept : Nat → Int32} {c_keptLong : Nat → Int64} {c_keptAt : Int32} {c_isTaking : Int32} {r : Int64} {o_c_days : Int32} {o_c_likely : Int32} {o_c_outOf : Int32} {o_c_rateNow : Int32} {o_c_pence : Nat → Int64} {o_c_top : Int64} {o_c_bottom : Int64} {o_c_worth : Nat → Int64} {o_c_hold : Nat → Int64} {o_c_acts : Nat → Int32} (hf : fX9_shifted p1 p2 p3 p4 c_tree c_bonds c_days c_likely c_outOf c_rateNow c_pence c_top c_bottom c_worth c_hold c_acts = some (r, o_c_days, o_c_likely, o_c_outOf, o_c_rateNow, o_c_pence, o_c_top, o_c_bottom, o_c_worth, o_c_hold, o_c_acts)) : Met l yX9_shifted (wq (Cond.code yX9_shifted cX9_shifted 5 (some .long))) rmX9_shifted (gP [.ref (ad 0), .int p1, .int p2, .int p3, .int p4] (dC, dI) dA (mW dA ad c_tape c_taped c_tree c_bonds c_moves c_handMoves c_moved c_days c_likely c_outOf c_rateNow c_pence c_top c_bottom c_spot c_textLong c_fault c_number c_numberAt c_figures c_written c_wanted c_found c_drawnNow c_worth c_hold c_way c_acts c_sDay c_sUps c_sUp c_sMarks c_paidAll c_isPlayed c_isOn c_handMoved c_handPaid c_regret c_aside c_other c_states c_kept c_keptLong c_keptAt c_isTaking) sz) (gQl (dC, dI) r (mW dA ad c_tape c_taped c_tree c_bonds c_moves c_handMoves c_moved o_c_days o_c_likely o_c_outOf o_c_rateNow o_c_pence o_c_top o_c_bottom c_spot c_textLong c_fault c_number c_numberAt c_figures c_written c_wanted c_found c_drawnNow o_c_worth o_c_hold c_way o_c_acts c_sDay c_sUps c_sUp c_sMarks c_paidAll c_isPlayed c_isOn c_handMoved c_handPaid c_regret c_aside c_other c_states c_kept c_keptLong c_keptAt c_isTaking) (va_A (mW dA ad c_tape c_taped c_tree c_bonds c_moves c_handMoves c_moved c_days c_likely c_outOf c_rateNow c_pence c_top c_bottom c_spot c_textLong c_fault c_number c_numberAt c_figures c_written c_wanted c_found c_drawnNow c_worth c_hold c_way c_acts c_sDay c_sUps c_sUp c_sMarks c_paidAll c_isPlayed c_isOn c_handMoved c_handPaid c_regret c_aside c_other c_states c_kept c_keptLong c_keptAt c_isTaking) sz)) 0 0 (va_A (mW dA ad c_tape c_taped c_tree c_bonds c_moves c_handMoves c_moved c_days c_likely c_outOf c_rateNow c_pence c_top c_bottom c_spot c_textLong c_fault c_number c_numberAt c_figures c_written c_wanted c_found c_drawnNow c_worth c_hold c_way c_acts c_sDay c_sUps c_sUp c_sMarks c_paidAll c_isPlayed c_isOn c_handMoved c_handPaid c_regret c_aside c_other c_states c_kept c_keptLong c_keptAt c_isTaking) sz) := by
  refine Met.ofW (cc := cX9_shifted) (maxL := 5) (ret := (some .long)) (by decide) rfl ?_
  intro p e s m args below meth c s₁ B hml hv
  obtain ⟨rfl, hsz, hP, hK, hD0⟩ := hv
  have hx := B.exec
  have hb := B.bytes
  have hr := B.returns
  have hts := atoms_spec (ws := wq (Cond.code yX9_shifted cX9_shifted 5 (some .long))) B.pre
  have hown : s.vm.findClass RX9 = some m.cls := findClass_of_methodNamed B.named
  have hlocks := B.notSynchronized
  clear B
  subst hsz
  have hD := hD0.self (sz := s.heap.size)
  generalize hAe : va_A (mW dA ad c_tape c_taped c_tree c_bonds c_moves c_handMoves c_moved c_days c_likely c_outOf c_rateNow c_pence c_top c_bottom c_spot c_textLong c_fault c_number c_numberAt c_figures c_written c_wanted c_found c_drawnNow c_worth c_hold c_way c_acts c_sDay c_sUps c_sUp c_sMarks c_paidAll c_isPlayed c_isOn c_handMoved c_handPaid c_regret c_aside c_other c_states c_kept c_keptLong c_keptAt c_isTaking) s.heap.size = A at hD ⊢
  have hA : ∀ q : Nat, s.heap.size ≤ q → A q := fun q h => by rw [← hAe]; exact Or.inr h
  clear hAe hD0
  have hS : va_S A s.heap s.heap [] := va_S.rf
  have hl := lv_entry ([.ref (ad 0), .int p1, .int p2, .int p3, .int p4]) (n := 5) (Nat.le_of_ble_eq_true rfl)
  rw [lg_entry_eq]
  generalize (lg_sl ([.ref (ad 0), .int p1, .int p2, .int p3, .int p4]) ++ List.replicate (5 - (lg_sl ([.ref (ad 0), .int p1, .int p2, .int p3, .int p4])).length) Slot.unset).toArray = ls at hl ⊢
  have hl : lv_has ls 5 [(0, .ref (ad 0)), (1, .int p1), (2, .int p2), (3, .int p3), (4, .int p4)] := hl
  change W p l e rmX9_shifted s m ([.ref (ad 0), .int p1, .int p2, .int p3, .int p4] : List Value).toArray below meth c s.heap [] 0 0 _ _
  unfold fX9_shifted at hf
  refine lv_iload_n hx hb dX9_shifted_0 rfl (lv_at hl 1 rfl) ?_
  obtain ⟨r1, v2, hf⟩ := bd1_some hf
  refine gci0 (va_runS (As := [.int p1]) (rest := []) ⟨hx, hb, hml, hown, hts⟩ (tX9_isBond l dC dI dA s.heap.size v2) (ccX9_X9_isBond hts ⟨Nat.le_of_ble_eq_true rfl, Nat.le_of_ble_eq_true rfl⟩) (gPreS0 hK) rfl rfl hl.1 rfl (lv_room (Nat.le_of_ble_eq_true rfl)) dX9_shifted_1 ⟨Nat.le_of_ble_eq_true rfl, Nat.le_of_ble_eq_true rfl⟩) hP hS hA (fun H locs hP hS => ?_)
  refine lv_if_eq (tgt := 28) hx hb dX9_shifted_4 (by decide) (fun k3 => ?_) (fun k3 => ?_)
  · replace hf := ifp k3 hf
    refine lv_ldc2 (v := (-1)) hx hb hown (hts _ (gw_mem wkX9_116)) dX9_shifted_28 ?_
    cases hf
    exact W.lret hx hb hr (fun t ht _ => gql hP hD hS ht) hS.2.2 dX9_shifted_31
  · replace hf := ifn k3 hf
    refine lv_iload_n hx hb dX9_shifted_7 rfl (lv_at hl 2 rfl) ?_
    refine lv_i2l hx hb dX9_shifted_8 rfl ?_
    refine lv_lconst (v := 1) hx hb dX9_shifted_9 rfl ?_
    refine lv_ldc2 (v := 1000) hx hb hown (hts _ (gw_mem wkX9_74)) dX9_shifted_10 ?_
    obtain ⟨r4, v5, hf⟩ := bd1_some hf
    refine gci0 (va_runS (As := [.long (Int32.toInt64 p2), .long 1, .long 1000]) (rest := []) ⟨hx, hb, hml, hown, hts⟩ (tX9_in l dC dI dA H.size v5) (ccX9_X9_in hts ⟨Nat.le_of_ble_eq_true rfl, Nat.le_of_ble_eq_true rfl⟩) (gPreS0 hK) rfl rfl hl.1 rfl (lv_room (Nat.le_of_ble_eq_true rfl)) dX9_shifted_13 ⟨Nat.le_of_ble_eq_true rfl, Nat.le_of_ble_eq_true rfl⟩) hP hS hA (fun H locs hP hS => ?_)
    refine lv_if_eq (tgt := 28) hx hb dX9_shifted_16 (by decide) (fun k6 => ?_) (fun k6 => ?_)
    · replace hf := ifp k6 hf
      refine lv_ldc2 (v := (-1)) hx hb hown (hts _ (gw_mem wkX9_116)) dX9_shifted_28 ?_
      cases hf
      exact W.lret hx hb hr (fun t ht _ => gql hP hD hS ht) hS.2.2 dX9_shifted_31
    · replace hf := ifn k6 hf
      refine lv_iload_n hx hb dX9_shifted_19 rfl (lv_at hl 3 rfl) ?_
      refine lv_iload hx hb dX9_shifted_20 (lv_at hl 4 rfl) ?_
      obtain ⟨r7, v8, hf⟩ := bd1_some hf
      refine gci0 (va_runS (As := [.int p3, .int p4]) (rest := []) ⟨hx, hb, hml, hown, hts⟩ (tX9_isChance l dC dI dA H.size v8) (ccX9_X9_isChance hts ⟨Nat.le_of_ble_eq_true rfl, Nat.le_of_ble_eq_true rfl⟩) (gPreS0 hK) rfl rfl hl.1 rfl (lv_room (Nat.le_of_ble_eq_true rfl)) dX9_shifted_22 ⟨Nat.le_of_ble_eq_true rfl, Nat.le_of_ble_eq_true rfl⟩) hP hS hA (fun H locs hP hS => ?_)
      refine lv_if_ne (tgt := 32) hx hb dX9_shifted_25 (by decide) (fun k9 => ?_) (fun k9 => ?_)
      · replace hf := ifn k9 hf
        refine lv_aload_n hx hb dX9_shifted_32 rfl (lv_at hl 0 rfl) ?_
        refine lv_iconst (v := 0) hx hb dX9_shifted_33 (by decide) ?_
        refine lv_iload_n hx hb dX9_shifted_34 rfl (lv_at hl 2 rfl) ?_
        obtain ⟨c_days_10, c_likely_11, c_outOf_12, c_rateNow_13, c_pence_14, c_top_15, c_bottom_16, v17, hf⟩ := bd7_some hf
        refine gcv (va_runV (As := [.int 0, .int p2]) (rest := []) ⟨hx, hb, hml, hown, hts⟩ (tX9_takesTree l dC dI dA ad H.size v17) (ccX9_X9_takesTree hts ⟨Nat.le_of_ble_eq_true rfl, Nat.le_of_ble_eq_true rfl⟩) (gPreV (ci := 9) (q0 := 0) hP hK hD rfl rfl) rfl rfl hl.1 rfl (lv_room (Nat.le_of_ble_eq_true rfl)) dX9_shifted_35 ⟨Nat.le_of_ble_eq_true rfl, Nat.le_of_ble_eq_true rfl⟩) hD hS hA (fun H locs hP hD hS => ?_)
        refine lv_aload_n hx hb dX9_shifted_38 rfl (lv_at hl 0 rfl) ?_
        refine lv_iload_n hx hb dX9_shifted_39 rfl (lv_at hl 3 rfl) ?_
        refine va_put (D := (dC, dI)) (ci := 9) (v := .int p3) (ty := .int) (C := RX9) (T := TX9) (N := 45) hx hb hts (fun w h => gw_mem (inX9 w h)) tyX9 tyX9_ok nmX9 hown hK.1 hP hD hS 0 rfl rfl 8 (by decide) (hts _ (gw_mem wfX9_97)) (fun _ h9 => h9) rfl (by decide +kernel) rfl rfl (Nat.le_of_ble_eq_true rfl) dX9_shifted_40 (fun H locs hP hD hS => ?_)
        have hP : va_P (dC, dI) vwCl (mW dA ad c_tape c_taped c_tree c_bonds c_moves c_handMoves c_moved c_days_10 p3 c_outOf_12 c_rateNow_13 c_pence_14 c_top_15 c_bottom_16 c_spot c_textLong c_fault c_number c_numberAt c_figures c_written c_wanted c_found c_drawnNow c_worth c_hold c_way c_acts c_sDay c_sUps c_sUp c_sMarks c_paidAll c_isPlayed c_isOn c_handMoved c_handPaid c_regret c_aside c_other c_states c_kept c_keptLong c_keptAt c_isTaking) H := hP
        have hD : va_D A (mW dA ad c_tape c_taped c_tree c_bonds c_moves c_handMoves c_moved c_days_10 p3 c_outOf_12 c_rateNow_13 c_pence_14 c_top_15 c_bottom_16 c_spot c_textLong c_fault c_number c_numberAt c_figures c_written c_wanted c_found c_drawnNow c_worth c_hold c_way c_acts c_sDay c_sUps c_sUp c_sMarks c_paidAll c_isPlayed c_isOn c_handMoved c_handPaid c_regret c_aside c_other c_states c_kept c_keptLong c_keptAt c_isTaking) := hD
        refine lv_aload_n hx hb dX9_shifted_43 rfl (lv_at hl 0 rfl) ?_
        refine lv_iload hx hb dX9_shifted_44 (lv_at hl 4 rfl) ?_
        refine va_put (D := (dC, dI)) (ci := 9) (v := .int p4) (ty := .int) (C := RX9) (T := TX9) (N := 45) hx hb hts (fun w h => gw_mem (inX9 w h)) tyX9 tyX9_ok nmX9 hown hK.1 hP hD hS 0 rfl rfl 9 (by decide) (hts _ (gw_mem wfX9_100)) (fun _ h9 => h9) rfl (by decide +kernel) rfl rfl (Nat.le_of_ble_eq_true rfl) dX9_shifted_46 (fun H locs hP hD hS => ?_)
        have hP : va_P (dC, dI) vwCl (mW dA ad c_tape c_taped c_tree c_bonds c_moves c_handMoves c_moved c_days_10 p3 p4 c_rateNow_13 c_pence_14 c_top_15 c_bottom_16 c_spot c_textLong c_fault c_number c_numberAt c_figures c_written c_wanted c_found c_drawnNow c_worth c_hold c_way c_acts c_sDay c_sUps c_sUp c_sMarks c_paidAll c_isPlayed c_isOn c_handMoved c_handPaid c_regret c_aside c_other c_states c_kept c_keptLong c_keptAt c_isTaking) H := hP
        have hD : va_D A (mW dA ad c_tape c_taped c_tree c_bonds c_moves c_handMoves c_moved c_days_10 p3 p4 c_rateNow_13 c_pence_14 c_top_15 c_bottom_16 c_spot c_textLong c_fault c_number c_numberAt c_figures c_written c_wanted c_found c_drawnNow c_worth c_hold c_way c_acts c_sDay c_sUps c_sUp c_sMarks c_paidAll c_isPlayed c_isOn c_handMoved c_handPaid c_regret c_aside c_other c_states c_kept c_keptLong c_keptAt c_isTaking) := hD
        refine lv_aload_n hx hb dX9_shifted_49 rfl (lv_at hl 0 rfl) ?_
        refine lv_iload_n hx hb dX9_shifted_50 rfl (lv_at hl 1 rfl) ?_
        obtain ⟨r18, c_worth_19, c_hold_20, c_acts_21, v22, hf⟩ := bd4_some hf
        refine gcl (va_runV (As := [.int p1]) (rest := []) ⟨hx, hb, hml, hown, hts⟩ (tX9_valueOf l dC dI dA ad H.size v22) (ccX9_X9_valueOf hts ⟨Nat.le_of_ble_eq_true rfl, Nat.le_of_ble_eq_true rfl⟩) (gPreV (ci := 9) (q0 := 0) hP hK hD rfl rfl) rfl rfl hl.1 rfl (lv_room (Nat.le_of_ble_eq_true rfl)) dX9_shifted_51 ⟨Nat.le_of_ble_eq_true rfl, Nat.le_of_ble_eq_true rfl⟩) hD hS hA (fun H locs hP hD hS => ?_)
        cases hf
        exact W.lret hx hb hr (fun t ht _ => gql hP hD hS ht) hS.2.2 dX9_shifted_54
      · replace hf := ifp k9 hf
        refine lv_ldc2 (v := (-1)) hx hb hown (hts _ (gw_mem wkX9_116)) dX9_shifted_28 ?_
        cases hf
        exact W.lret hx hb hr (fun t ht _ => gql hP hD hS ht) hS.2.2 dX9_shifted_31
def lpX9_standsByHand_24 (c_bonds : Nat → Int32) (c_handMoves : Nat → Int32) (c_pence : Nat → Int64) (c_handMoved : Int32) : Nat → Int32 → Int32 → Int32 → Int32 → Int32 → Option (Int32 × Int32 × Int32 × Int32)
  | 0, _, _, _, _, _ => none
  | n + 1, x1, c_sDay, c_sUps, c_sUp, c_sMarks => if c_handMoved ≤ x1 then some (c_sDay, c_sUps, c_sUp, c_sMarks) else og (okI x1 6) (bd4 (fX9_goesOn 4 (c_handMoves (Int32.toNatClampNeg x1)) c_bonds c_pence c_sDay c_sUps c_sUp c_sMarks) (fun c_sDay_25 c_sUps_26 c_sUp_27 c_sMarks_28 => nm (x1 + 1) (fun w30 => lpX9_standsByHand_24 c_bonds c_handMoves c_pence c_handMoved n w30 c_sDay_25 c_sUps_26 c_sUp_27 c_sMarks_28)))
def fX9_standsByHand (c_tree : Nat → Int32) (c_bonds : Nat → Int32) (c_handMoves : Nat → Int32) (c_days : Int32) (c_likely : Int32) (c_outOf : Int32) (c_rateNow : Int32) (c_pence : Nat → Int64) (c_top : Int64) (c_bottom : Int64) (c_worth : Nat → Int64) (c_hold : Nat → Int64) (c_acts : Nat → Int32) (c_sDay : Int32) (c_sUps : Int32) (c_sUp : Int32) (c_sMarks : Int32) (c_handMoved : Int32) : Option (Int32 × Int32 × Int32 × Int32 × (Nat → Int64) × Int64 × Int64 × (Nat → Int64) × (Nat → Int64) × (Nat → Int32) × Int32 × Int32 × Int32 × Int32) := bd7 (fX9_takesTree 1 (c_tree (Int32.toNatClampNeg 10)) c_tree c_days c_likely c_outOf c_rateNow c_pence c_top c_bottom) (fun c_days_1 c_likely_2 c_outOf_3 c_rateNow_4 c_pence_5 c_top_6 c_bottom_7 => bd3 (fX9_plays 4 c_bonds c_days_1 c_likely_2 c_outOf_3 c_rateNow_4 c_pence_5 c_worth c_hold c_acts) (fun c_worth_9 c_hold_10 c_acts_11 => bd4 (fX9_starts 4 c_bonds c_pence_5 c_sDay c_sUps c_sUp c_sMarks) (fun c_sDay_13 c_sUps_14 c_sUp_15 c_sMarks_16 => bd4 (lpX9_standsByHand_24 c_bonds c_handMoves c_pence_5 c_handMoved FU 0 c_sDay_13 c_sUps_14 c_sUp_15 c_sMarks_16) (fun c_sDay_18 c_sUps_19 c_sUp_20 c_sMarks_21 => some (c_days_1, c_likely_2, c_outOf_3, c_rateNow_4, c_pence_5, c_top_6, c_bottom_7, c_worth_9, c_hold_10, c_acts_11, c_sDay_18, c_sUps_19, c_sUp_20, c_sMarks_21)))))
abbrev rmX9_standsByHand : Room := { frames := 6, cells := 0, slots := 0, locals := 163 }
set_option maxHeartbeats 4000000 in
set_option maxRecDepth 100000 in
theorem tX9_standsByHand (l : Launch) (dC : Nat → ClassId) (dI : Nat → Nat → Nat) (dA : Nat → ClassId) (ad : Nat → Nat) (sz : Nat) {c_tape : Nat → Int32} {c_taped : Int32} {c_tree : Nat → Int32} {c_bonds : Nat → Int32} {c_moves : Nat → Int32} {c_handMoves : Nat → Int32} {c_moved : Int32} {c_days : Int32} {c_likely : Int32} {c_outOf : Int32} {c_rateNow : Int32} {c_pence : Nat → Int64} {c_top : Int64} {c_bottom : Int64} {c_spot : Int32} {c_textLong : Int32} {c_fault : Int32} {c_number : Int32} {c_numberAt : Int32} {c_figures : Int32} {c_written : Int32} {c_wanted : Int32} {c_found : Int32} {c_drawnNow : Int32} {c_worth : Nat → Int64} {c_hold : Nat → Int64} {c_way : Nat → Int64} {c_acts : Nat → Int32} {c_sDay : Int32} {c_sUps : Int32} {c_sUp : Int32} {c_sMarks : Int32} {c_paidAll : Int64} {c_isPlayed : Int32} {c_isOn : Int32} {c_handMoved : Int32} {c_handPaid : Int64} {c_regret : Int64} {c_aside : Nat → Int32} {c_other : Nat → Int64} {c_states : Int32} {c_kept : Nat → Int32} {c_keptLong : Nat → Int64} {c_keptAt : Int32} {c_isTaking : Int32} {o_c_days : Int32} {o_c_likely : Int32} {o_c_outOf : Int32} {o_c_rateNow : Int32} {o_c_pence : Nat → Int64} {o_c_top : Int64} {o_c_bottom : Int64} {o_c_worth : Nat → Int64} {o_c_hold : Nat → Int64} {o_c_acts : Nat → Int32} {o_c_sDay : Int32} {o_c_sUps : Int32} {o_c_sUp : Int32} {o_c_sMarks : Int32} (hf : fX9_standsByHand c_tree c_bonds c_handMoves c_days c_likely c_outOf c_rateNow c_pence c_top c_bottom c_worth c_hold c_acts c_sDay c_sUps c_sUp c_sMarks c_handMoved = some (o_c_days, o_c_likely, o_c_outOf, o_c_rateNow, o_c_pence, o_c_top, o_c_bottom, o_c_worth, o_c_hold, o_c_acts, o_c_sDay, o_c_sUps, o_c_sUp, o_c_sMarks)) : Met l yX9_standsByHand (wq (Cond.code yX9_standsByHand cX9_standsByHand 2 none)) rmX9_standsByHand (gP [.ref (ad 0)] (dC, dI) dA (mW dA ad c_tape c_taped c_tree c_bonds c_moves c_handMoves c_moved c_days c_likely c_outOf c_rateNow c_pence c_top c_bottom c_spot c_textLong c_fault c_number c_numberAt c_figures c_written c_wanted c_found c_drawnNow c_worth c_hold c_way c_acts c_sDay c_sUps c_sUp c_sMarks c_paidAll c_isPlayed c_isOn c_handMoved c_handPaid c_regret c_aside c_other c_states c_kept c_keptLong c_keptAt c_isTaking) sz) (gQv (dC, dI) (mW dA ad c_tape c_taped c_tree c_bonds c_moves c_handMoves c_moved o_c_days o_c_likely o_c_outOf o_c_rateNow o_c_pence o_c_top o_c_bottom c_spot c_textLong c_fault c_number c_numberAt c_figures c_written c_wanted c_found c_drawnNow o_c_worth o_c_hold c_way o_c_acts o_c_sDay o_c_sUps o_c_sUp o_c_sMarks c_paidAll c_isPlayed c_isOn c_handMoved c_handPaid c_regret c_aside c_other c_states c_kept c_keptLong c_keptAt c_isTaking) (va_A (mW dA ad c_tape c_taped c_tree c_bonds c_moves c_handMoves c_moved c_days c_likely c_outOf c_rateNow c_pence c_top c_bottom c_spot c_textLong c_fault c_number c_numberAt c_figures c_written c_wanted c_found c_drawnNow c_worth c_hold c_way c_acts c_sDay c_sUps c_sUp c_sMarks c_paidAll c_isPlayed c_isOn c_handMoved c_handPaid c_regret c_aside c_other c_states c_kept c_keptLong c_keptAt c_isTaking) sz)) 0 0 (va_A (mW dA ad c_tape c_taped c_tree c_bonds c_moves c_handMoves c_moved c_days c_likely c_outOf c_rateNow c_pence c_top c_bottom c_spot c_textLong c_fault c_number c_numberAt c_figures c_written c_wanted c_found c_drawnNow c_worth c_hold c_way c_acts c_sDay c_sUps c_sUp c_sMarks c_paidAll c_isPlayed c_isOn c_handMoved c_handPaid c_regret c_aside c_other c_states c_kept c_keptLong c_keptAt c_isTaking) sz) := by
  refine Met.ofW (cc := cX9_standsByHand) (maxL := 2) (ret := none) (by decide) rfl ?_
  intro p e s m args below meth c s₁ B hml hv
  obtain ⟨rfl, hsz, hP, hK, hD0⟩ := hv
  have hx := B.exec
  have hb := B.bytes
  have hr := B.returns
  have hts := atoms_spec (ws := wq (Cond.code yX9_standsByHand cX9_standsByHand 2 none)) B.pre
  have hown : s.vm.findClass RX9 = some m.cls := findClass_of_methodNamed B.named
  have hlocks := B.notSynchronized
  clear B
  subst hsz
  have hD := hD0.self (sz := s.heap.size)
  generalize hAe : va_A (mW dA ad c_tape c_taped c_tree c_bonds c_moves c_handMoves c_moved c_days c_likely c_outOf c_rateNow c_pence c_top c_bottom c_spot c_textLong c_fault c_number c_numberAt c_figures c_written c_wanted c_found c_drawnNow c_worth c_hold c_way c_acts c_sDay c_sUps c_sUp c_sMarks c_paidAll c_isPlayed c_isOn c_handMoved c_handPaid c_regret c_aside c_other c_states c_kept c_keptLong c_keptAt c_isTaking) s.heap.size = A at hD ⊢
  have hA : ∀ q : Nat, s.heap.size ≤ q → A q := fun q h => by rw [← hAe]; exact Or.inr h
  clear hAe hD0
  have hS : va_S A s.heap s.heap [] := va_S.rf
  have hl := lv_entry ([.ref (ad 0)]) (n := 2) (Nat.le_of_ble_eq_true rfl)
  rw [lg_entry_eq]
  generalize (lg_sl ([.ref (ad 0)]) ++ List.replicate (2 - (lg_sl ([.ref (ad 0)])).length) Slot.unset).toArray = ls at hl ⊢
  have hl : lv_has ls 2 [(0, .ref (ad 0))] := hl
  change W p l e rmX9_standsByHand s m ([.ref (ad 0)] : List Value).toArray below meth c s.heap [] 0 0 _ _
  generalize hQ : MQ below (gQv (dC, dI) (mW dA ad c_tape c_taped c_tree c_bonds c_moves c_handMoves c_moved o_c_days o_c_likely o_c_outOf o_c_rateNow o_c_pence o_c_top o_c_bottom c_spot c_textLong c_fault c_number c_numberAt c_figures c_written c_wanted c_found c_drawnNow o_c_worth o_c_hold c_way o_c_acts o_c_sDay o_c_sUps o_c_sUp o_c_sMarks c_paidAll c_isPlayed c_isOn c_handMoved c_handPaid c_regret c_aside c_other c_states c_kept c_keptLong c_keptAt c_isTaking) A) ([.ref (ad 0)] : List Value).toArray s 0 0 A = Q
  have LP24 : ∀ (n : Nat) (c_bonds : Nat → Int32) (c_handMoves : Nat → Int32) (c_pence : Nat → Int64) (c_handMoved : Int32) (c_tape : Nat → Int32) (c_taped : Int32) (c_tree : Nat → Int32) (c_moves : Nat → Int32) (c_moved : Int32) (c_days : Int32) (c_likely : Int32) (c_outOf : Int32) (c_rateNow : Int32) (c_top : Int64) (c_bottom : Int64) (c_spot : Int32) (c_textLong : Int32) (c_fault : Int32) (c_number : Int32) (c_numberAt : Int32) (c_figures : Int32) (c_written : Int32) (c_wanted : Int32) (c_found : Int32) (c_drawnNow : Int32) (c_worth : Nat → Int64) (c_hold : Nat → Int64) (c_way : Nat → Int64) (c_acts : Nat → Int32) (c_paidAll : Int64) (c_isPlayed : Int32) (c_isOn : Int32) (c_handPaid : Int64) (c_regret : Int64) (c_aside : Nat → Int32) (c_other : Nat → Int64) (c_states : Int32) (c_kept : Nat → Int32) (c_keptLong : Nat → Int64) (c_keptAt : Int32) (c_isTaking : Int32) (x1 : Int32) (c_sDay : Int32) (c_sUps : Int32) (c_sUp : Int32) (c_sMarks : Int32) (o_c_sDay : Int32) (o_c_sUps : Int32) (o_c_sUp : Int32) (o_c_sMarks : Int32) (H : Heap) (locs : List Loc) (ls : Array Slot), va_P (dC, dI) vwCl (mW dA ad c_tape c_taped c_tree c_bonds c_moves c_handMoves c_moved c_days c_likely c_outOf c_rateNow c_pence c_top c_bottom c_spot c_textLong c_fault c_number c_numberAt c_figures c_written c_wanted c_found c_drawnNow c_worth c_hold c_way c_acts c_sDay c_sUps c_sUp c_sMarks c_paidAll c_isPlayed c_isOn c_handMoved c_handPaid c_regret c_aside c_other c_states c_kept c_keptLong c_keptAt c_isTaking) H → va_D A (mW dA ad c_tape c_taped c_tree c_bonds c_moves c_handMoves c_moved c_days c_likely c_outOf c_rateNow c_pence c_top c_bottom c_spot c_textLong c_fault c_number c_numberAt c_figures c_written c_wanted c_found c_drawnNow c_worth c_hold c_way c_acts c_sDay c_sUps c_sUp c_sMarks c_paidAll c_isPlayed c_isOn c_handMoved c_handPaid c_regret c_aside c_other c_states c_kept c_keptLong c_keptAt c_isTaking) → va_S A s.heap H locs → lpX9_standsByHand_24 c_bonds c_handMoves c_pence c_handMoved n x1 c_sDay c_sUps c_sUp c_sMarks = some (o_c_sDay, o_c_sUps, o_c_sUp, o_c_sMarks) → lv_has ls 2 [(0, .ref (ad 0)), (1, .int x1)] → (∀ (H : Heap) (locs : List Loc) (ls : Array Slot), va_P (dC, dI) vwCl (mW dA ad c_tape c_taped c_tree c_bonds c_moves c_handMoves c_moved c_days c_likely c_outOf c_rateNow c_pence c_top c_bottom c_spot c_textLong c_fault c_number c_numberAt c_figures c_written c_wanted c_found c_drawnNow c_worth c_hold c_way c_acts o_c_sDay o_c_sUps o_c_sUp o_c_sMarks c_paidAll c_isPlayed c_isOn c_handMoved c_handPaid c_regret c_aside c_other c_states c_kept c_keptLong c_keptAt c_isTaking) H → va_D A (mW dA ad c_tape c_taped c_tree c_bonds c_moves c_handMoves c_moved c_days c_likely c_outOf c_rateNow c_pence c_top c_bottom c_spot c_textLong c_fault c_number c_numberAt c_figures c_written c_wanted c_found c_drawnNow c_worth c_hold c_way c_acts o_c_sDay o_c_sUps o_c_sUp o_c_sMarks c_paidAll c_isPlayed c_isOn c_handMoved c_handPaid c_regret c_aside c_other c_states c_kept c_keptLong c_keptAt c_isTaking) → va_S A s.heap H locs → lv_has ls 2 [] → W p l e rmX9_standsByHand s m ([.ref (ad 0)] : List Value).toArray below meth c H locs 0 0 Q (F0 m 49 ls [])) → W p l e rmX9_standsByHand s m ([.ref (ad 0)] : List Value).toArray below meth c H locs 0 0 Q (F0 m 24 ls []) := by
    intro n
    induction n with
    | zero =>
      intro c_bonds c_handMoves c_pence c_handMoved c_tape c_taped c_tree c_moves c_moved c_days c_likely c_outOf c_rateNow c_top c_bottom c_spot c_textLong c_fault c_number c_numberAt c_figures c_written c_wanted c_found c_drawnNow c_worth c_hold c_way c_acts c_paidAll c_isPlayed c_isOn c_handPaid c_regret c_aside c_other c_states c_kept c_keptLong c_keptAt c_isTaking x1 c_sDay c_sUps c_sUp c_sMarks o_c_sDay o_c_sUps o_c_sUp o_c_sMarks H locs ls hP hD hS hf hl hk
      cases hf
    | succ n ih24 =>
      intro c_bonds c_handMoves c_pence c_handMoved c_tape c_taped c_tree c_moves c_moved c_days c_likely c_outOf c_rateNow c_top c_bottom c_spot c_textLong c_fault c_number c_numberAt c_figures c_written c_wanted c_found c_drawnNow c_worth c_hold c_way c_acts c_paidAll c_isPlayed c_isOn c_handPaid c_regret c_aside c_other c_states c_kept c_keptLong c_keptAt c_isTaking x1 c_sDay c_sUps c_sUp c_sMarks o_c_sDay o_c_sUps o_c_sUp o_c_sMarks H locs ls hP hD hS hf hl hk
      rw [lpX9_standsByHand_24.eq_2] at hf
      refine lv_iload_n hx hb dX9_standsByHand_24 rfl (lv_at hl 1 rfl) ?_
      refine lv_aload_n hx hb dX9_standsByHand_25 rfl (lv_at hl 0 rfl) ?_
      refine va_get (D := (dC, dI)) (ci := 9) (v := .int c_handMoved) (C := RX9) (T := TX9) (N := 45) hx hb hts (fun w h => gw_mem (inX9 w h)) hown hK.1 hP 0 rfl rfl 35 (by decide) (hts _ (gw_mem wfX9_409)) (fun _ h9 => h9) rfl dX9_standsByHand_26 ?_
      refine lv_icmp_ge (tgt := 49) hx hb dX9_standsByHand_29 (by decide) (fun k23 => ?_) (fun k23 => ?_)
      · replace hf := ifp k23 hf
        cases hf
        exact hk _ _ _ hP hD hS (lv_sub hl [] rfl)
      · replace hf := ifn k23 hf
        refine lv_aload_n hx hb dX9_standsByHand_32 rfl (lv_at hl 0 rfl) ?_
        refine lv_iconst (v := 4) hx hb dX9_standsByHand_33 (by decide) ?_
        refine lv_aload_n hx hb dX9_standsByHand_34 rfl (lv_at hl 0 rfl) ?_
        refine va_get (D := (dC, dI)) (ci := 9) (v := .ref (ad 5)) (C := RX9) (T := TX9) (N := 45) hx hb hts (fun w h => gw_mem (inX9 w h)) hown hK.1 hP 0 rfl rfl 5 (by decide) (hts _ (gw_mem wfX9_23)) (fun _ h9 => h9) rfl dX9_standsByHand_35 ?_
        refine lv_iload_n hx hb dX9_standsByHand_38 rfl (lv_at hl 1 rfl) ?_
        obtain ⟨h24, hf⟩ := og_some hf
        refine va_iald hx hb hK.1 hP 5 0 rfl rfl (okI_in h24) dX9_standsByHand_39 ?_
        obtain ⟨c_sDay_25, c_sUps_26, c_sUp_27, c_sMarks_28, v29, hf⟩ := bd4_some hf
        refine gcv (va_runV (As := [.int 4, .int (c_handMoves (Int32.toNatClampNeg x1))]) (rest := []) ⟨hx, hb, hml, hown, hts⟩ (tX9_goesOn l dC dI dA ad H.size v29) (ccX9_X9_goesOn hts ⟨Nat.le_of_ble_eq_true rfl, Nat.le_of_ble_eq_true rfl⟩) (gPreV (ci := 9) (q0 := 0) hP hK hD rfl rfl) rfl rfl hl.1 rfl (lv_room (Nat.le_of_ble_eq_true rfl)) dX9_standsByHand_40 ⟨Nat.le_of_ble_eq_true rfl, Nat.le_of_ble_eq_true rfl⟩) hD hS hA (fun H locs hP hD hS => ?_)
        obtain ⟨w30, ew30⟩ : ∃ y : Int32, y = x1 + 1 := ⟨_, rfl⟩
        replace hf := nm_at hf ew30
        refine lv_iinc (v := w30) (lv' := [(1, .int w30), (0, .ref (ad 0))]) hx hb dX9_standsByHand_43 hl (k := 1) rfl (by rw [ew30]; rfl) (by decide) rfl (fun ls hl => ?_)
        refine lv_goto (tgt := 24) hx hb dX9_standsByHand_46 (by decide) ?_
        exact ih24 _ _ _ _ _ _ _ _ _ _ _ _ _ _ _ _ _ _ _ _ _ _ _ _ _ _ _ _ _ _ _ _ _ _ _ _ _ _ _ _ _ _ _ _ _ _ _ _ _ _ _ _ _ hP hD hS hf (lv_sub hl [1, 0] rfl) hk
  subst hQ
  unfold fX9_standsByHand at hf
  refine lv_aload_n hx hb dX9_standsByHand_0 rfl (lv_at hl 0 rfl) ?_
  refine lv_iconst (v := 1) hx hb dX9_standsByHand_1 (by decide) ?_
  refine lv_aload_n hx hb dX9_standsByHand_2 rfl (lv_at hl 0 rfl) ?_
  refine va_get (D := (dC, dI)) (ci := 9) (v := .ref (ad 2)) (C := RX9) (T := TX9) (N := 45) hx hb hts (fun w h => gw_mem (inX9 w h)) hown hK.1 hP 0 rfl rfl 2 (by decide) (hts _ (gw_mem wfX9_13)) (fun _ h9 => h9) rfl dX9_standsByHand_3 ?_
  refine lv_bipush (v := 10) hx hb dX9_standsByHand_6 (by decide) ?_
  refine va_iald hx hb hK.1 hP 2 0 rfl rfl (okI_in (by decide)) dX9_standsByHand_8 ?_
  obtain ⟨c_days_1, c_likely_2, c_outOf_3, c_rateNow_4, c_pence_5, c_top_6, c_bottom_7, v8, hf⟩ := bd7_some hf
  refine gcv (va_runV (As := [.int 1, .int (c_tree (Int32.toNatClampNeg 10))]) (rest := []) ⟨hx, hb, hml, hown, hts⟩ (tX9_takesTree l dC dI dA ad s.heap.size v8) (ccX9_X9_takesTree hts ⟨Nat.le_of_ble_eq_true rfl, Nat.le_of_ble_eq_true rfl⟩) (gPreV (ci := 9) (q0 := 0) hP hK hD rfl rfl) rfl rfl hl.1 rfl (lv_room (Nat.le_of_ble_eq_true rfl)) dX9_standsByHand_9 ⟨Nat.le_of_ble_eq_true rfl, Nat.le_of_ble_eq_true rfl⟩) hD hS hA (fun H locs hP hD hS => ?_)
  refine lv_aload_n hx hb dX9_standsByHand_12 rfl (lv_at hl 0 rfl) ?_
  refine lv_iconst (v := 4) hx hb dX9_standsByHand_13 (by decide) ?_
  obtain ⟨c_worth_9, c_hold_10, c_acts_11, v12, hf⟩ := bd3_some hf
  refine gcv (va_runV (As := [.int 4]) (rest := []) ⟨hx, hb, hml, hown, hts⟩ (tX9_plays l dC dI dA ad H.size v12) (ccX9_X9_plays hts ⟨Nat.le_of_ble_eq_true rfl, Nat.le_of_ble_eq_true rfl⟩) (gPreV (ci := 9) (q0 := 0) hP hK hD rfl rfl) rfl rfl hl.1 rfl (lv_room (Nat.le_of_ble_eq_true rfl)) dX9_standsByHand_14 ⟨Nat.le_of_ble_eq_true rfl, Nat.le_of_ble_eq_true rfl⟩) hD hS hA (fun H locs hP hD hS => ?_)
  refine lv_aload_n hx hb dX9_standsByHand_17 rfl (lv_at hl 0 rfl) ?_
  refine lv_iconst (v := 4) hx hb dX9_standsByHand_18 (by decide) ?_
  obtain ⟨c_sDay_13, c_sUps_14, c_sUp_15, c_sMarks_16, v17, hf⟩ := bd4_some hf
  refine gcv (va_runV (As := [.int 4]) (rest := []) ⟨hx, hb, hml, hown, hts⟩ (tX9_starts l dC dI dA ad H.size v17) (ccX9_X9_starts hts ⟨Nat.le_of_ble_eq_true rfl, Nat.le_of_ble_eq_true rfl⟩) (gPreV (ci := 9) (q0 := 0) hP hK hD rfl rfl) rfl rfl hl.1 rfl (lv_room (Nat.le_of_ble_eq_true rfl)) dX9_standsByHand_19 ⟨Nat.le_of_ble_eq_true rfl, Nat.le_of_ble_eq_true rfl⟩) hD hS hA (fun H locs hP hD hS => ?_)
  refine lv_iconst (v := 0) hx hb dX9_standsByHand_22 (by decide) ?_
  refine lv_istore_n (lv' := [(1, .int 0), (0, .ref (ad 0))]) hx hb dX9_standsByHand_23 rfl hl (by decide) rfl (fun ls hl => ?_)
  obtain ⟨c_sDay_18, c_sUps_19, c_sUp_20, c_sMarks_21, v22, hf⟩ := bd4_some hf
  refine LP24 FU _ _ _ _ _ _ _ _ _ _ _ _ _ _ _ _ _ _ _ _ _ _ _ _ _ _ _ _ _ _ _ _ _ _ _ _ _ _ _ _ _ _ _ _ _ _ _ _ _ _ _ _ _ hP hD hS v22 (lv_sub hl [1, 0] rfl) (fun H locs ls hP hD hS hl => ?_)
  cases hf
  exact W.vret hx hb hr (fun t ht _ => gqv hP hD hS ht) hS.2.2 dX9_standsByHand_49
theorem ccX9_X9_standsByHand {R : Room} {s : State} {args : Array Value} {c0 : Cond} (ht : ∀ w ∈ wq c0, w.before args s = true) (hR : rmX9_standsByHand.frames + 1 ≤ R.frames ∧ 8 + (2 + 11) + rmX9_standsByHand.locals ≤ R.locals) : CallW R s args RX9 RX9 425 yX9_standsByHand cX9_standsByHand 2 none (wq (.code yX9_standsByHand cX9_standsByHand 2 none)) rmX9_standsByHand 0 0 0 := gCW 0 ht wcX9_standsByHand wmX9_425 wiX9_standsByHand weX9_standsByHand wnX9 (by decide +kernel) rfl rfl hR
def lpX9_open_13 (x1 : Int32) : Nat → Int32 → (Nat → Int32) → Option ((Nat → Int32))
  | 0, _, _ => none
  | n + 1, x2, c_tree => if 9 ≤ x2 then some (c_tree) else og (okI x2 18) (og (okI (9 + x2) 18) (nm (upd c_tree (Int32.toNatClampNeg (9 + x2)) (c_tree (Int32.toNatClampNeg x2))) (fun w29 => nm (x2 + 1) (fun w30 => lpX9_open_13 x1 n w30 w29))))
def fX9_open (p1 : Int32) (c_tree : Nat → Int32) (c_bonds : Nat → Int32) (c_handMoves : Nat → Int32) (c_days : Int32) (c_likely : Int32) (c_outOf : Int32) (c_rateNow : Int32) (c_pence : Nat → Int64) (c_top : Int64) (c_bottom : Int64) (c_worth : Nat → Int64) (c_hold : Nat → Int64) (c_acts : Nat → Int32) (c_sDay : Int32) (c_sUps : Int32) (c_sUp : Int32) (c_sMarks : Int32) (c_isPlayed : Int32) (c_isOn : Int32) (c_handMoved : Int32) (c_handPaid : Int64) (c_regret : Int64) : Option (Int64 × (Nat → Int32) × (Nat → Int32) × Int32 × Int32 × Int32 × Int32 × (Nat → Int64) × Int64 × Int64 × (Nat → Int64) × (Nat → Int64) × (Nat → Int32) × Int32 × Int32 × Int32 × Int32 × Int32 × Int32 × Int32 × Int64 × Int64) := bd1 (fX9_isBond p1) (fun r1 => if r1 = 0 then some ((-1), c_tree, c_bonds, c_days, c_likely, c_outOf, c_rateNow, c_pence, c_top, c_bottom, c_worth, c_hold, c_acts, c_sDay, c_sUps, c_sUp, c_sMarks, c_isPlayed, c_isOn, c_handMoved, c_handPaid, c_regret) else bd1 (lpX9_open_13 p1 FU 0 c_tree) (fun c_tree_4 => bd1 (fX9_copies p1 4 c_bonds) (fun c_bonds_6 => bd14 (fX9_standsByHand c_tree_4 c_bonds_6 c_handMoves c_days c_likely c_outOf c_rateNow c_pence c_top c_bottom c_worth c_hold c_acts c_sDay c_sUps c_sUp c_sMarks 0) (fun c_days_8 c_likely_9 c_outOf_10 c_rateNow_11 c_pence_12 c_top_13 c_bottom_14 c_worth_15 c_hold_16 c_acts_17 c_sDay_18 c_sUps_19 c_sUp_20 c_sMarks_21 => bd1 (fX9_hereNow c_sDay_18 c_sUps_19 c_sUp_20 c_sMarks_21) (fun r23 => og (okI r23 784) (some (c_worth_15 (Int32.toNatClampNeg r23), c_tree_4, c_bonds_6, c_days_8, c_likely_9, c_outOf_10, c_rateNow_11, c_pence_12, c_top_13, c_bottom_14, c_worth_15, c_hold_16, c_acts_17, c_sDay_18, c_sUps_19, c_sUp_20, c_sMarks_21, 1, 1, 0, 0, 0)))))))
abbrev rmX9_open : Room := { frames := 7, cells := 0, slots := 0, locals := 184 }
set_option maxHeartbeats 4000000 in
set_option maxRecDepth 100000 in
theorem tX9_open (l : Launch) (dC : Nat → ClassId) (dI : Nat → Nat → Nat) (dA : Nat → ClassId) (ad : Nat → Nat) (sz : Nat) {p1 : Int32} {c_tape : Nat → Int32} {c_taped : Int32} {c_tree : Nat → Int32} {c_bonds : Nat → Int32} {c_moves : Nat → Int32} {c_handMoves : Nat → Int32} {c_moved : Int32} {c_days : Int32} {c_likely : Int32} {c_outOf : Int32} {c_rateNow : Int32} {c_pence : Nat → Int64} {c_top : Int64} {c_bottom : Int64} {c_spot : Int32} {c_textLong : Int32} {c_fault : Int32} {c_number : Int32} {c_numberAt : Int32} {c_figures : Int32} {c_written : Int32} {c_wanted : Int32} {c_found : Int32} {c_drawnNow : Int32} {c_worth : Nat → Int64} {c_hold : Nat → Int64} {c_way : Nat → Int64} {c_acts : Nat → Int32} {c_sDay : Int32} {c_sUps : Int32} {c_sUp : Int32} {c_sMarks : Int32} {c_paidAll : Int64} {c_isPlayed : Int32} {c_isOn : Int32} {c_handMoved : Int32} {c_handPaid : Int64} {c_regret : Int64} {c_aside : Nat → Int32} {c_other : Nat → Int64} {c_states : Int32} {c_kept : Nat → Int32} {c_keptLong : Nat → Int64} {c_keptAt : Int32} {c_isTaking : Int32} {r : Int64} {o_c_tree : Nat → Int32} {o_c_bonds : Nat → Int32} {o_c_days : Int32} {o_c_likely : Int32} {o_c_outOf : Int32} {o_c_rateNow : Int32} {o_c_pence : Nat → Int64} {o_c_top : Int64} {o_c_bottom : Int64} {o_c_worth : Nat → Int64} {o_c_hold : Nat → Int64} {o_c_acts : Nat → Int32} {o_c_sDay : Int32} {o_c_sUps : Int32} {o_c_sUp : Int32} {o_c_sMarks : Int32} {o_c_isPlayed : Int32} {o_c_isOn : Int32} {o_c_handMoved : Int32} {o_c_handPaid : Int64} {o_c_regret : Int64} (hf : fX9_open p1 c_tree c_bonds c_handMoves c_days c_likely c_outOf c_rateNow c_pence c_top c_bottom c_worth c_hold c_acts c_sDay c_sUps c_sUp c_sMarks c_isPlayed c_isOn c_handMoved c_handPaid c_regret = some (r, o_c_tree, o_c_bonds, o_c_days, o_c_likely, o_c_outOf, o_c_rateNow, o_c_pence, o_c_top, o_c_bottom, o_c_worth, o_c_hold, o_c_acts, o_c_sDay, o_c_sUps, o_c_sUp, o_c_sMarks, o_c_isPlayed, o_c_isOn, o_c_handMoved, o_c_handPaid, o_c_regret)) : Met l yX9_open (wq (Cond.code yX9_open cX9_open 3 (some .long))) rmX9_open (gP [.ref (ad 0), .int p1] (dC, dI) dA (mW dA ad c_tape c_taped c_tree c_bonds c_moves c_handMoves c_moved c_days c_likely c_outOf c_rateNow c_pence c_top c_bottom c_spot c_textLong c_fault c_number c_numberAt c_figures c_written c_wanted c_found c_drawnNow c_worth c_hold c_way c_acts c_sDay c_sUps c_sUp c_sMarks c_paidAll c_isPlayed c_isOn c_handMoved c_handPaid c_regret c_aside c_other c_states c_kept c_keptLong c_keptAt c_isTaking) sz) (gQl (dC, dI) r (mW dA ad c_tape c_taped o_c_tree o_c_bonds c_moves c_handMoves c_moved o_c_days o_c_likely o_c_outOf o_c_rateNow o_c_pence o_c_top o_c_bottom c_spot c_textLong c_fault c_number c_numberAt c_figures c_written c_wanted c_found c_drawnNow o_c_worth o_c_hold c_way o_c_acts o_c_sDay o_c_sUps o_c_sUp o_c_sMarks c_paidAll o_c_isPlayed o_c_isOn o_c_handMoved o_c_handPaid o_c_regret c_aside c_other c_states c_kept c_keptLong c_keptAt c_isTaking) (va_A (mW dA ad c_tape c_taped c_tree c_bonds c_moves c_handMoves c_moved c_days c_likely c_outOf c_rateNow c_pence c_top c_bottom c_spot c_textLong c_fault c_number c_numberAt c_figures c_written c_wanted c_found c_drawnNow c_worth c_hold c_way c_acts c_sDay c_sUps c_sUp c_sMarks c_paidAll c_isPlayed c_isOn c_handMoved c_handPaid c_regret c_aside c_other c_states c_kept c_keptLong c_keptAt c_isTaking) sz)) 0 0 (va_A (mW dA ad c_tape c_taped c_tree c_bonds c_moves c_handMoves c_moved c_days c_likely c_outOf c_rateNow c_pence c_top c_bottom c_spot c_textLong c_fault c_number c_numberAt c_figures c_written c_wanted c_found c_drawnNow c_worth c_hold c_way c_acts c_sDay c_sUps c_sUp c_sMarks c_paidAll c_isPlayed c_isOn c_handMoved c_handPaid c_regret c_aside c_other c_states c_kept c_keptLong c_keptAt c_isTaking) sz) := by
  refine Met.ofW (cc := cX9_open) (maxL := 3) (ret := (some .long)) (by decide) rfl ?_
  intro p e s m args below meth c s₁ B hml hv
  obtain ⟨rfl, hsz, hP, hK, hD0⟩ := hv
  have hx := B.exec
  have hb := B.bytes
  have hr := B.returns
  have hts := atoms_spec (ws := wq (Cond.code yX9_open cX9_open 3 (some .long))) B.pre
  have hown : s.vm.findClass RX9 = some m.cls := findClass_of_methodNamed B.named
  have hlocks := B.notSynchronized
  clear B
  subst hsz
  have hD := hD0.self (sz := s.heap.size)
  generalize hAe : va_A (mW dA ad c_tape c_taped c_tree c_bonds c_moves c_handMoves c_moved c_days c_likely c_outOf c_rateNow c_pence c_top c_bottom c_spot c_textLong c_fault c_number c_numberAt c_figures c_written c_wanted c_found c_drawnNow c_worth c_hold c_way c_acts c_sDay c_sUps c_sUp c_sMarks c_paidAll c_isPlayed c_isOn c_handMoved c_handPaid c_regret c_aside c_other c_states c_kept c_keptLong c_keptAt c_isTaking) s.heap.size = A at hD ⊢
  have hA : ∀ q : Nat, s.heap.size ≤ q → A q := fun q h => by rw [← hAe]; exact Or.inr h
  clear hAe hD0
  have hS : va_S A s.heap s.heap [] := va_S.rf
  have hl := lv_entry ([.ref (ad 0), .int p1]) (n := 3) (Nat.le_of_ble_eq_true rfl)
  rw [lg_entry_eq]
  generalize (lg_sl ([.ref (ad 0), .int p1]) ++ List.replicate (3 - (lg_sl ([.ref (ad 0), .int p1])).length) Slot.unset).toArray = ls at hl ⊢
  have hl : lv_has ls 3 [(0, .ref (ad 0)), (1, .int p1)] := hl
  change W p l e rmX9_open s m ([.ref (ad 0), .int p1] : List Value).toArray below meth c s.heap [] 0 0 _ _
  generalize hQ : MQ below (gQl (dC, dI) r (mW dA ad c_tape c_taped o_c_tree o_c_bonds c_moves c_handMoves c_moved o_c_days o_c_likely o_c_outOf o_c_rateNow o_c_pence o_c_top o_c_bottom c_spot c_textLong c_fault c_number c_numberAt c_figures c_written c_wanted c_found c_drawnNow o_c_worth o_c_hold c_way o_c_acts o_c_sDay o_c_sUps o_c_sUp o_c_sMarks c_paidAll o_c_isPlayed o_c_isOn o_c_handMoved o_c_handPaid o_c_regret c_aside c_other c_states c_kept c_keptLong c_keptAt c_isTaking) A) ([.ref (ad 0), .int p1] : List Value).toArray s 0 0 A = Q
  have LP13 : ∀ (n : Nat) (x1 : Int32) (c_tape : Nat → Int32) (c_taped : Int32) (c_bonds : Nat → Int32) (c_moves : Nat → Int32) (c_handMoves : Nat → Int32) (c_moved : Int32) (c_days : Int32) (c_likely : Int32) (c_outOf : Int32) (c_rateNow : Int32) (c_pence : Nat → Int64) (c_top : Int64) (c_bottom : Int64) (c_spot : Int32) (c_textLong : Int32) (c_fault : Int32) (c_number : Int32) (c_numberAt : Int32) (c_figures : Int32) (c_written : Int32) (c_wanted : Int32) (c_found : Int32) (c_drawnNow : Int32) (c_worth : Nat → Int64) (c_hold : Nat → Int64) (c_way : Nat → Int64) (c_acts : Nat → Int32) (c_sDay : Int32) (c_sUps : Int32) (c_sUp : Int32) (c_sMarks : Int32) (c_paidAll : Int64) (c_isPlayed : Int32) (c_isOn : Int32) (c_handMoved : Int32) (c_handPaid : Int64) (c_regret : Int64) (c_aside : Nat → Int32) (c_other : Nat → Int64) (c_states : Int32) (c_kept : Nat → Int32) (c_keptLong : Nat → Int64) (c_keptAt : Int32) (c_isTaking : Int32) (x2 : Int32) (c_tree : Nat → Int32) (o_c_tree : Nat → Int32) (H : Heap) (locs : List Loc) (ls : Array Slot), va_P (dC, dI) vwCl (mW dA ad c_tape c_taped c_tree c_bonds c_moves c_handMoves c_moved c_days c_likely c_outOf c_rateNow c_pence c_top c_bottom c_spot c_textLong c_fault c_number c_numberAt c_figures c_written c_wanted c_found c_drawnNow c_worth c_hold c_way c_acts c_sDay c_sUps c_sUp c_sMarks c_paidAll c_isPlayed c_isOn c_handMoved c_handPaid c_regret c_aside c_other c_states c_kept c_keptLong c_keptAt c_isTaking) H → va_D A (mW dA ad c_tape c_taped c_tree c_bonds c_moves c_handMoves c_moved c_days c_likely c_outOf c_rateNow c_pence c_top c_bottom c_spot c_textLong c_fault c_number c_numberAt c_figures c_written c_wanted c_found c_drawnNow c_worth c_hold c_way c_acts c_sDay c_sUps c_sUp c_sMarks c_paidAll c_isPlayed c_isOn c_handMoved c_handPaid c_regret c_aside c_other c_states c_kept c_keptLong c_keptAt c_isTaking) → va_S A s.heap H locs → lpX9_open_13 x1 n x2 c_tree = some (o_c_tree) → lv_has ls 3 [(0, .ref (ad 0)), (1, .int x1), (2, .int x2)] → (∀ (H : Heap) (locs : List Loc) (ls : Array Slot), va_P (dC, dI) vwCl (mW dA ad c_tape c_taped o_c_tree c_bonds c_moves c_handMoves c_moved c_days c_likely c_outOf c_rateNow c_pence c_top c_bottom c_spot c_textLong c_fault c_number c_numberAt c_figures c_written c_wanted c_found c_drawnNow c_worth c_hold c_way c_acts c_sDay c_sUps c_sUp c_sMarks c_paidAll c_isPlayed c_isOn c_handMoved c_handPaid c_regret c_aside c_other c_states c_kept c_keptLong c_keptAt c_isTaking) H → va_D A (mW dA ad c_tape c_taped o_c_tree c_bonds c_moves c_handMoves c_moved c_days c_likely c_outOf c_rateNow c_pence c_top c_bottom c_spot c_textLong c_fault c_number c_numberAt c_figures c_written c_wanted c_found c_drawnNow c_worth c_hold c_way c_acts c_sDay c_sUps c_sUp c_sMarks c_paidAll c_isPlayed c_isOn c_handMoved c_handPaid c_regret c_aside c_other c_states c_kept c_keptLong c_keptAt c_isTaking) → va_S A s.heap H locs → lv_has ls 3 [(0, .ref (ad 0)), (1, .int x1)] → W p l e rmX9_open s m ([.ref (ad 0), .int p1] : List Value).toArray below meth c H locs 0 0 Q (F0 m 40 ls [])) → W p l e rmX9_open s m ([.ref (ad 0), .int p1] : List Value).toArray below meth c H locs 0 0 Q (F0 m 13 ls []) := by
    intro n
    induction n with
    | zero =>
      intro x1 c_tape c_taped c_bonds c_moves c_handMoves c_moved c_days c_likely c_outOf c_rateNow c_pence c_top c_bottom c_spot c_textLong c_fault c_number c_numberAt c_figures c_written c_wanted c_found c_drawnNow c_worth c_hold c_way c_acts c_sDay c_sUps c_sUp c_sMarks c_paidAll c_isPlayed c_isOn c_handMoved c_handPaid c_regret c_aside c_other c_states c_kept c_keptLong c_keptAt c_isTaking x2 c_tree o_c_tree H locs ls hP hD hS hf hl hk
      cases hf
    | succ n ih13 =>
      intro x1 c_tape c_taped c_bonds c_moves c_handMoves c_moved c_days c_likely c_outOf c_rateNow c_pence c_top c_bottom c_spot c_textLong c_fault c_number c_numberAt c_figures c_written c_wanted c_found c_drawnNow c_worth c_hold c_way c_acts c_sDay c_sUps c_sUp c_sMarks c_paidAll c_isPlayed c_isOn c_handMoved c_handPaid c_regret c_aside c_other c_states c_kept c_keptLong c_keptAt c_isTaking x2 c_tree o_c_tree H locs ls hP hD hS hf hl hk
      rw [lpX9_open_13.eq_2] at hf
      refine lv_iload_n hx hb dX9_open_13 rfl (lv_at hl 2 rfl) ?_
      refine lv_bipush (v := 9) hx hb dX9_open_14 (by decide) ?_
      refine lv_icmp_ge (tgt := 40) hx hb dX9_open_16 (by decide) (fun k26 => ?_) (fun k26 => ?_)
      · replace hf := ifp k26 hf
        cases hf
        exact hk _ _ _ hP hD hS (lv_sub hl [0, 1] rfl)
      · replace hf := ifn k26 hf
        refine lv_aload_n hx hb dX9_open_19 rfl (lv_at hl 0 rfl) ?_
        refine va_get (D := (dC, dI)) (ci := 9) (v := .ref (ad 2)) (C := RX9) (T := TX9) (N := 45) hx hb hts (fun w h => gw_mem (inX9 w h)) hown hK.1 hP 0 rfl rfl 2 (by decide) (hts _ (gw_mem wfX9_13)) (fun _ h9 => h9) rfl dX9_open_20 ?_
        refine lv_bipush (v := 9) hx hb dX9_open_23 (by decide) ?_
        refine lv_iload_n hx hb dX9_open_25 rfl (lv_at hl 2 rfl) ?_
        refine lv_iadd hx hb dX9_open_26 ?_
        refine lv_aload_n hx hb dX9_open_27 rfl (lv_at hl 0 rfl) ?_
        refine va_get (D := (dC, dI)) (ci := 9) (v := .ref (ad 2)) (C := RX9) (T := TX9) (N := 45) hx hb hts (fun w h => gw_mem (inX9 w h)) hown hK.1 hP 0 rfl rfl 2 (by decide) (hts _ (gw_mem wfX9_13)) (fun _ h9 => h9) rfl dX9_open_28 ?_
        refine lv_iload_n hx hb dX9_open_31 rfl (lv_at hl 2 rfl) ?_
        obtain ⟨h27, hf⟩ := og_some hf
        refine va_iald hx hb hK.1 hP 2 0 rfl rfl (okI_in h27) dX9_open_32 ?_
        obtain ⟨h28, hf⟩ := og_some hf
        obtain ⟨w29, ew29⟩ : ∃ y : Nat → Int32, y = upd c_tree (Int32.toNatClampNeg (9 + x2)) (c_tree (Int32.toNatClampNeg x2)) := ⟨_, rfl⟩
        replace hf := nm_at hf ew29
        refine va_iast hx hb hK.1 hP hD hS 2 0 rfl rfl (okI_in h28) dX9_open_33 (fun H locs hP hD hS => ?_)
        have hP : va_P (dC, dI) vwCl (mW dA ad c_tape c_taped w29 c_bonds c_moves c_handMoves c_moved c_days c_likely c_outOf c_rateNow c_pence c_top c_bottom c_spot c_textLong c_fault c_number c_numberAt c_figures c_written c_wanted c_found c_drawnNow c_worth c_hold c_way c_acts c_sDay c_sUps c_sUp c_sMarks c_paidAll c_isPlayed c_isOn c_handMoved c_handPaid c_regret c_aside c_other c_states c_kept c_keptLong c_keptAt c_isTaking) H := by rw [ew29]; exact hP
        have hD : va_D A (mW dA ad c_tape c_taped w29 c_bonds c_moves c_handMoves c_moved c_days c_likely c_outOf c_rateNow c_pence c_top c_bottom c_spot c_textLong c_fault c_number c_numberAt c_figures c_written c_wanted c_found c_drawnNow c_worth c_hold c_way c_acts c_sDay c_sUps c_sUp c_sMarks c_paidAll c_isPlayed c_isOn c_handMoved c_handPaid c_regret c_aside c_other c_states c_kept c_keptLong c_keptAt c_isTaking) := by rw [ew29]; exact hD
        obtain ⟨w30, ew30⟩ : ∃ y : Int32, y = x2 + 1 := ⟨_, rfl⟩
        replace hf := nm_at hf ew30
        refine lv_iinc (v := w30) (lv' := [(2, .int w30), (0, .ref (ad 0)), (1, .int x1)]) hx hb dX9_open_34 hl (k := 2) rfl (by rw [ew30]; rfl) (by decide) rfl (fun ls hl => ?_)
        refine lv_goto (tgt := 13) hx hb dX9_open_37 (by decide) ?_
        exact ih13 _ _ _ _ _ _ _ _ _ _ _ _ _ _ _ _ _ _ _ _ _ _ _ _ _ _ _ _ _ _ _ _ _ _ _ _ _ _ _ _ _ _ _ _ _ _ _ _ _ _ _ hP hD hS hf (lv_sub hl [1, 2, 0] rfl) hk
  subst hQ
  unfold fX9_open at hf
  refine lv_iload_n hx hb dX9_open_0 rfl (lv_at hl 1 rfl) ?_
  obtain ⟨r1, v2, hf⟩ := bd1_some hf
  refine gci0 (va_runS (As := [.int p1]) (rest := []) ⟨hx, hb, hml, hown, hts⟩ (tX9_isBond l dC dI dA s.heap.size v2) (ccX9_X9_isBond hts ⟨Nat.le_of_ble_eq_true rfl, Nat.le_of_ble_eq_true rfl⟩) (gPreS0 hK) rfl rfl hl.1 rfl (lv_room (Nat.le_of_ble_eq_true rfl)) dX9_open_1 ⟨Nat.le_of_ble_eq_true rfl, Nat.le_of_ble_eq_true rfl⟩) hP hS hA (fun H locs hP hS => ?_)
  refine lv_if_ne (tgt := 11) hx hb dX9_open_4 (by decide) (fun k3 => ?_) (fun k3 => ?_)
  · replace hf := ifn k3 hf
    refine lv_iconst (v := 0) hx hb dX9_open_11 (by decide) ?_
    refine lv_istore_n (lv' := [(2, .int 0), (0, .ref (ad 0)), (1, .int p1)]) hx hb dX9_open_12 rfl hl (by decide) rfl (fun ls hl => ?_)
    obtain ⟨c_tree_4, v5, hf⟩ := bd1_some hf
    refine LP13 FU _ _ _ _ _ _ _ _ _ _ _ _ _ _ _ _ _ _ _ _ _ _ _ _ _ _ _ _ _ _ _ _ _ _ _ _ _ _ _ _ _ _ _ _ _ _ _ _ _ _ _ hP hD hS v5 (lv_sub hl [1, 2, 0] rfl) (fun H locs ls hP hD hS hl => ?_)
    refine lv_aload_n hx hb dX9_open_40 rfl (lv_at hl 0 rfl) ?_
    refine lv_iload_n hx hb dX9_open_41 rfl (lv_at hl 1 rfl) ?_
    refine lv_iconst (v := 4) hx hb dX9_open_42 (by decide) ?_
    obtain ⟨c_bonds_6, v7, hf⟩ := bd1_some hf
    refine gcv (va_runV (As := [.int p1, .int 4]) (rest := []) ⟨hx, hb, hml, hown, hts⟩ (tX9_copies l dC dI dA ad H.size v7) (ccX9_X9_copies hts ⟨Nat.le_of_ble_eq_true rfl, Nat.le_of_ble_eq_true rfl⟩) (gPreV (ci := 9) (q0 := 0) hP hK hD rfl rfl) rfl rfl hl.1 rfl (lv_room (Nat.le_of_ble_eq_true rfl)) dX9_open_43 ⟨Nat.le_of_ble_eq_true rfl, Nat.le_of_ble_eq_true rfl⟩) hD hS hA (fun H locs hP hD hS => ?_)
    refine lv_aload_n hx hb dX9_open_46 rfl (lv_at hl 0 rfl) ?_
    refine lv_iconst (v := 1) hx hb dX9_open_47 (by decide) ?_
    refine va_put (D := (dC, dI)) (ci := 9) (v := .int 1) (ty := .boolean) (C := RX9) (T := TX9) (N := 45) hx hb hts (fun w h => gw_mem (inX9 w h)) tyX9 tyX9_ok nmX9 hown hK.1 hP hD hS 0 rfl rfl 33 (by decide) (hts _ (gw_mem wfX9_412)) (fun _ h9 => h9) rfl (by decide +kernel) rfl rfl (Nat.le_of_ble_eq_true rfl) dX9_open_48 (fun H locs hP hD hS => ?_)
    have hP : va_P (dC, dI) vwCl (mW dA ad c_tape c_taped c_tree_4 c_bonds_6 c_moves c_handMoves c_moved c_days c_likely c_outOf c_rateNow c_pence c_top c_bottom c_spot c_textLong c_fault c_number c_numberAt c_figures c_written c_wanted c_found c_drawnNow c_worth c_hold c_way c_acts c_sDay c_sUps c_sUp c_sMarks c_paidAll 1 c_isOn c_handMoved c_handPaid c_regret c_aside c_other c_states c_kept c_keptLong c_keptAt c_isTaking) H := hP
    have hD : va_D A (mW dA ad c_tape c_taped c_tree_4 c_bonds_6 c_moves c_handMoves c_moved c_days c_likely c_outOf c_rateNow c_pence c_top c_bottom c_spot c_textLong c_fault c_number c_numberAt c_figures c_written c_wanted c_found c_drawnNow c_worth c_hold c_way c_acts c_sDay c_sUps c_sUp c_sMarks c_paidAll 1 c_isOn c_handMoved c_handPaid c_regret c_aside c_other c_states c_kept c_keptLong c_keptAt c_isTaking) := hD
    refine lv_aload_n hx hb dX9_open_51 rfl (lv_at hl 0 rfl) ?_
    refine lv_iconst (v := 1) hx hb dX9_open_52 (by decide) ?_
    refine va_put (D := (dC, dI)) (ci := 9) (v := .int 1) (ty := .boolean) (C := RX9) (T := TX9) (N := 45) hx hb hts (fun w h => gw_mem (inX9 w h)) tyX9 tyX9_ok nmX9 hown hK.1 hP hD hS 0 rfl rfl 34 (by decide) (hts _ (gw_mem wfX9_416)) (fun _ h9 => h9) rfl (by decide +kernel) rfl rfl (Nat.le_of_ble_eq_true rfl) dX9_open_53 (fun H locs hP hD hS => ?_)
    have hP : va_P (dC, dI) vwCl (mW dA ad c_tape c_taped c_tree_4 c_bonds_6 c_moves c_handMoves c_moved c_days c_likely c_outOf c_rateNow c_pence c_top c_bottom c_spot c_textLong c_fault c_number c_numberAt c_figures c_written c_wanted c_found c_drawnNow c_worth c_hold c_way c_acts c_sDay c_sUps c_sUp c_sMarks c_paidAll 1 1 c_handMoved c_handPaid c_regret c_aside c_other c_states c_kept c_keptLong c_keptAt c_isTaking) H := hP
    have hD : va_D A (mW dA ad c_tape c_taped c_tree_4 c_bonds_6 c_moves c_handMoves c_moved c_days c_likely c_outOf c_rateNow c_pence c_top c_bottom c_spot c_textLong c_fault c_number c_numberAt c_figures c_written c_wanted c_found c_drawnNow c_worth c_hold c_way c_acts c_sDay c_sUps c_sUp c_sMarks c_paidAll 1 1 c_handMoved c_handPaid c_regret c_aside c_other c_states c_kept c_keptLong c_keptAt c_isTaking) := hD
    refine lv_aload_n hx hb dX9_open_56 rfl (lv_at hl 0 rfl) ?_
    refine lv_iconst (v := 0) hx hb dX9_open_57 (by decide) ?_
    refine va_put (D := (dC, dI)) (ci := 9) (v := .int 0) (ty := .int) (C := RX9) (T := TX9) (N := 45) hx hb hts (fun w h => gw_mem (inX9 w h)) tyX9 tyX9_ok nmX9 hown hK.1 hP hD hS 0 rfl rfl 35 (by decide) (hts _ (gw_mem wfX9_409)) (fun _ h9 => h9) rfl (by decide +kernel) rfl rfl (Nat.le_of_ble_eq_true rfl) dX9_open_58 (fun H locs hP hD hS => ?_)
    have hP : va_P (dC, dI) vwCl (mW dA ad c_tape c_taped c_tree_4 c_bonds_6 c_moves c_handMoves c_moved c_days c_likely c_outOf c_rateNow c_pence c_top c_bottom c_spot c_textLong c_fault c_number c_numberAt c_figures c_written c_wanted c_found c_drawnNow c_worth c_hold c_way c_acts c_sDay c_sUps c_sUp c_sMarks c_paidAll 1 1 0 c_handPaid c_regret c_aside c_other c_states c_kept c_keptLong c_keptAt c_isTaking) H := hP
    have hD : va_D A (mW dA ad c_tape c_taped c_tree_4 c_bonds_6 c_moves c_handMoves c_moved c_days c_likely c_outOf c_rateNow c_pence c_top c_bottom c_spot c_textLong c_fault c_number c_numberAt c_figures c_written c_wanted c_found c_drawnNow c_worth c_hold c_way c_acts c_sDay c_sUps c_sUp c_sMarks c_paidAll 1 1 0 c_handPaid c_regret c_aside c_other c_states c_kept c_keptLong c_keptAt c_isTaking) := hD
    refine lv_aload_n hx hb dX9_open_61 rfl (lv_at hl 0 rfl) ?_
    refine lv_lconst (v := 0) hx hb dX9_open_62 rfl ?_
    refine va_put (D := (dC, dI)) (ci := 9) (v := .long 0) (ty := .long) (C := RX9) (T := TX9) (N := 45) hx hb hts (fun w h => gw_mem (inX9 w h)) tyX9 tyX9_ok nmX9 hown hK.1 hP hD hS 0 rfl rfl 36 (by decide) (hts _ (gw_mem wfX9_419)) (fun _ h9 => h9) rfl (by decide +kernel) rfl rfl (Nat.le_of_ble_eq_true rfl) dX9_open_63 (fun H locs hP hD hS => ?_)
    have hP : va_P (dC, dI) vwCl (mW dA ad c_tape c_taped c_tree_4 c_bonds_6 c_moves c_handMoves c_moved c_days c_likely c_outOf c_rateNow c_pence c_top c_bottom c_spot c_textLong c_fault c_number c_numberAt c_figures c_written c_wanted c_found c_drawnNow c_worth c_hold c_way c_acts c_sDay c_sUps c_sUp c_sMarks c_paidAll 1 1 0 0 c_regret c_aside c_other c_states c_kept c_keptLong c_keptAt c_isTaking) H := hP
    have hD : va_D A (mW dA ad c_tape c_taped c_tree_4 c_bonds_6 c_moves c_handMoves c_moved c_days c_likely c_outOf c_rateNow c_pence c_top c_bottom c_spot c_textLong c_fault c_number c_numberAt c_figures c_written c_wanted c_found c_drawnNow c_worth c_hold c_way c_acts c_sDay c_sUps c_sUp c_sMarks c_paidAll 1 1 0 0 c_regret c_aside c_other c_states c_kept c_keptLong c_keptAt c_isTaking) := hD
    refine lv_aload_n hx hb dX9_open_66 rfl (lv_at hl 0 rfl) ?_
    refine lv_lconst (v := 0) hx hb dX9_open_67 rfl ?_
    refine va_put (D := (dC, dI)) (ci := 9) (v := .long 0) (ty := .long) (C := RX9) (T := TX9) (N := 45) hx hb hts (fun w h => gw_mem (inX9 w h)) tyX9 tyX9_ok nmX9 hown hK.1 hP hD hS 0 rfl rfl 37 (by decide) (hts _ (gw_mem wfX9_422)) (fun _ h9 => h9) rfl (by decide +kernel) rfl rfl (Nat.le_of_ble_eq_true rfl) dX9_open_68 (fun H locs hP hD hS => ?_)
    have hP : va_P (dC, dI) vwCl (mW dA ad c_tape c_taped c_tree_4 c_bonds_6 c_moves c_handMoves c_moved c_days c_likely c_outOf c_rateNow c_pence c_top c_bottom c_spot c_textLong c_fault c_number c_numberAt c_figures c_written c_wanted c_found c_drawnNow c_worth c_hold c_way c_acts c_sDay c_sUps c_sUp c_sMarks c_paidAll 1 1 0 0 0 c_aside c_other c_states c_kept c_keptLong c_keptAt c_isTaking) H := hP
    have hD : va_D A (mW dA ad c_tape c_taped c_tree_4 c_bonds_6 c_moves c_handMoves c_moved c_days c_likely c_outOf c_rateNow c_pence c_top c_bottom c_spot c_textLong c_fault c_number c_numberAt c_figures c_written c_wanted c_found c_drawnNow c_worth c_hold c_way c_acts c_sDay c_sUps c_sUp c_sMarks c_paidAll 1 1 0 0 0 c_aside c_other c_states c_kept c_keptLong c_keptAt c_isTaking) := hD
    refine lv_aload_n hx hb dX9_open_71 rfl (lv_at hl 0 rfl) ?_
    obtain ⟨c_days_8, c_likely_9, c_outOf_10, c_rateNow_11, c_pence_12, c_top_13, c_bottom_14, c_worth_15, c_hold_16, c_acts_17, c_sDay_18, c_sUps_19, c_sUp_20, c_sMarks_21, v22, hf⟩ := bd14_some hf
    refine gcv (va_runV (As := []) (rest := []) ⟨hx, hb, hml, hown, hts⟩ (tX9_standsByHand l dC dI dA ad H.size v22) (ccX9_X9_standsByHand hts ⟨Nat.le_of_ble_eq_true rfl, Nat.le_of_ble_eq_true rfl⟩) (gPreV (ci := 9) (q0 := 0) hP hK hD rfl rfl) rfl rfl hl.1 rfl (lv_room (Nat.le_of_ble_eq_true rfl)) dX9_open_72 ⟨Nat.le_of_ble_eq_true rfl, Nat.le_of_ble_eq_true rfl⟩) hD hS hA (fun H locs hP hD hS => ?_)
    refine lv_aload_n hx hb dX9_open_75 rfl (lv_at hl 0 rfl) ?_
    refine va_get (D := (dC, dI)) (ci := 9) (v := .ref (ad 7)) (C := RX9) (T := TX9) (N := 45) hx hb hts (fun w h => gw_mem (inX9 w h)) hown hK.1 hP 0 rfl rfl 24 (by decide) (hts _ (gw_mem wfX9_30)) (fun _ h9 => h9) rfl dX9_open_76 ?_
    refine lv_aload_n hx hb dX9_open_79 rfl (lv_at hl 0 rfl) ?_
    obtain ⟨r23, v24, hf⟩ := bd1_some hf
    refine gci (va_runV (As := []) (rest := [.ref (ad 7)]) ⟨hx, hb, hml, hown, hts⟩ (tX9_hereNow l dC dI dA ad H.size v24) (ccX9_X9_hereNow hts ⟨Nat.le_of_ble_eq_true rfl, Nat.le_of_ble_eq_true rfl⟩) (gPreV (ci := 9) (q0 := 0) hP hK hD rfl rfl) rfl rfl hl.1 rfl (lv_room (Nat.le_of_ble_eq_true rfl)) dX9_open_80 ⟨Nat.le_of_ble_eq_true rfl, Nat.le_of_ble_eq_true rfl⟩) hD hS hA (fun H locs hP hD hS => ?_)
    obtain ⟨h25, hf⟩ := og_some hf
    refine va_lald hx hb hK.1 hP 7 1 rfl rfl (okI_in h25) dX9_open_83 ?_
    cases hf
    exact W.lret hx hb hr (fun t ht _ => gql hP hD hS ht) hS.2.2 dX9_open_84
  · replace hf := ifp k3 hf
    refine lv_ldc2 (v := (-1)) hx hb hown (hts _ (gw_mem wkX9_116)) dX9_open_7 ?_
    cases hf
    exact W.lret hx hb hr (fun t ht _ => gql hP hD hS ht) hS.2.2 dX9_open_10
def fX9_regrets (p1 : Int32) (c_bonds : Nat → Int32) (c_days : Int32) (c_pence : Nat → Int64) (c_worth : Nat → Int64) (c_hold : Nat → Int64) (c_sDay : Int32) (c_sUps : Int32) (c_sUp : Int32) (c_sMarks : Int32) (c_regret : Int64) : Option (Int64) := bd1 (fX9_hereNow c_sDay c_sUps c_sUp c_sMarks) (fun r1 => og (okI r1 784) (bd1 (fX9_givesBy 4 p1 c_bonds c_days c_pence c_hold c_sDay c_sUps c_sUp c_sMarks) (fun r4 => nm ((c_worth (Int32.toNatClampNeg r1)) - r4) (fun w6 => if 0 ≤ w6 then nm (c_regret + w6) (fun w8 => some (w8)) else nm (c_regret + (-w6)) (fun w9 => some (w9))))))
abbrev rmX9_regrets : Room := { frames := 5, cells := 0, slots := 0, locals := 127 }
set_option maxHeartbeats 4000000 in
set_option maxRecDepth 100000 in
theorem tX9_regrets (l : Launch) (dC : Nat → ClassId) (dI : Nat → Nat → Nat) (dA : Nat → ClassId) (ad : Nat → Nat) (sz : Nat) {p1 : Int32} {c_tape : Nat → Int32} {c_taped : Int32} {c_tree : Nat → Int32} {c_bonds : Nat → Int32} {c_moves : Nat → Int32} {c_handMoves : Nat → Int32} {c_moved : Int32} {c_days : Int32} {c_likely : Int32} {c_outOf : Int32} {c_rateNow : Int32} {c_pence : Nat → Int64} {c_top : Int64} {c_bottom : Int64} {c_spot : Int32} {c_textLong : Int32} {c_fault : Int32} {c_number : Int32} {c_numberAt : Int32} {c_figures : Int32} {c_written : Int32} {c_wanted : Int32} {c_found : Int32} {c_drawnNow : Int32} {c_worth : Nat → Int64} {c_hold : Nat → Int64} {c_way : Nat → Int64} {c_acts : Nat → Int32} {c_sDay : Int32} {c_sUps : Int32} {c_sUp : Int32} {c_sMarks : Int32} {c_paidAll : Int64} {c_isPlayed : Int32} {c_isOn : Int32} {c_handMoved : Int32} {c_handPaid : Int64} {c_regret : Int64} {c_aside : Nat → Int32} {c_other : Nat → Int64} {c_states : Int32} {c_kept : Nat → Int32} {c_keptLong : Nat → Int64} {c_keptAt : Int32} {c_isTaking : Int32} {o_c_regret : Int64} (hf : fX9_regrets p1 c_bonds c_days c_pence c_worth c_hold c_sDay c_sUps c_sUp c_sMarks c_regret = some (o_c_regret)) : Met l yX9_regrets (wq (Cond.code yX9_regrets cX9_regrets 4 none)) rmX9_regrets (gP [.ref (ad 0), .int p1] (dC, dI) dA (mW dA ad c_tape c_taped c_tree c_bonds c_moves c_handMoves c_moved c_days c_likely c_outOf c_rateNow c_pence c_top c_bottom c_spot c_textLong c_fault c_number c_numberAt c_figures c_written c_wanted c_found c_drawnNow c_worth c_hold c_way c_acts c_sDay c_sUps c_sUp c_sMarks c_paidAll c_isPlayed c_isOn c_handMoved c_handPaid c_regret c_aside c_other c_states c_kept c_keptLong c_keptAt c_isTaking) sz) (gQv (dC, dI) (mW dA ad c_tape c_taped c_tree c_bonds c_moves c_handMoves c_moved c_days c_likely c_outOf c_rateNow c_pence c_top c_bottom c_spot c_textLong c_fault c_number c_numberAt c_figures c_written c_wanted c_found c_drawnNow c_worth c_hold c_way c_acts c_sDay c_sUps c_sUp c_sMarks c_paidAll c_isPlayed c_isOn c_handMoved c_handPaid o_c_regret c_aside c_other c_states c_kept c_keptLong c_keptAt c_isTaking) (va_A (mW dA ad c_tape c_taped c_tree c_bonds c_moves c_handMoves c_moved c_days c_likely c_outOf c_rateNow c_pence c_top c_bottom c_spot c_textLong c_fault c_number c_numberAt c_figures c_written c_wanted c_found c_drawnNow c_worth c_hold c_way c_acts c_sDay c_sUps c_sUp c_sMarks c_paidAll c_isPlayed c_isOn c_handMoved c_handPaid c_regret c_aside c_other c_states c_kept c_keptLong c_keptAt c_isTaking) sz)) 0 0 (va_A (mW dA ad c_tape c_taped c_tree c_bonds c_moves c_handMoves c_moved c_days c_likely c_outOf c_rateNow c_pence c_top c_bottom c_spot c_textLong c_fault c_number c_numberAt c_figures c_written c_wanted c_found c_drawnNow c_worth c_hold c_way c_acts c_sDay c_sUps c_sUp c_sMarks c_paidAll c_isPlayed c_isOn c_handMoved c_handPaid c_regret c_aside c_other c_states c_kept c_keptLong c_keptAt c_isTaking) sz) := by
  refine Met.ofW (cc := cX9_regrets) (maxL := 4) (ret := none) (by decide) rfl ?_
  intro p e s m args below meth c s₁ B hml hv
  obtain ⟨rfl, hsz, hP, hK, hD0⟩ := hv
  have hx := B.exec
  have hb := B.bytes
  have hr := B.returns
  have hts := atoms_spec (ws := wq (Cond.code yX9_regrets cX9_regrets 4 none)) B.pre
  have hown : s.vm.findClass RX9 = some m.cls := findClass_of_methodNamed B.named
  have hlocks := B.notSynchronized
  clear B
  subst hsz
  have hD := hD0.self (sz := s.heap.size)
  generalize hAe : va_A (mW dA ad c_tape c_taped c_tree c_bonds c_moves c_handMoves c_moved c_days c_likely c_outOf c_rateNow c_pence c_top c_bottom c_spot c_textLong c_fault c_number c_numberAt c_figures c_written c_wanted c_found c_drawnNow c_worth c_hold c_way c_acts c_sDay c_sUps c_sUp c_sMarks c_paidAll c_isPlayed c_isOn c_handMoved c_handPaid c_regret c_aside c_other c_states c_kept c_keptLong c_keptAt c_isTaking) s.heap.size = A at hD ⊢
  have hA : ∀ q : Nat, s.heap.size ≤ q → A q := fun q h => by rw [← hAe]; exact Or.inr h
  clear hAe hD0
  have hS : va_S A s.heap s.heap [] := va_S.rf
  have hl := lv_entry ([.ref (ad 0), .int p1]) (n := 4) (Nat.le_of_ble_eq_true rfl)
  rw [lg_entry_eq]
  generalize (lg_sl ([.ref (ad 0), .int p1]) ++ List.replicate (4 - (lg_sl ([.ref (ad 0), .int p1])).length) Slot.unset).toArray = ls at hl ⊢
  have hl : lv_has ls 4 [(0, .ref (ad 0)), (1, .int p1)] := hl
  change W p l e rmX9_regrets s m ([.ref (ad 0), .int p1] : List Value).toArray below meth c s.heap [] 0 0 _ _
  unfold fX9_regrets at hf
  refine lv_aload_n hx hb dX9_regrets_0 rfl (lv_at hl 0 rfl) ?_
  refine va_get (D := (dC, dI)) (ci := 9) (v := .ref (ad 7)) (C := RX9) (T := TX9) (N := 45) hx hb hts (fun w h => gw_mem (inX9 w h)) hown hK.1 hP 0 rfl rfl 24 (by decide) (hts _ (gw_mem wfX9_30)) (fun _ h9 => h9) rfl dX9_regrets_1 ?_
  refine lv_aload_n hx hb dX9_regrets_4 rfl (lv_at hl 0 rfl) ?_
  obtain ⟨r1, v2, hf⟩ := bd1_some hf
  refine gci (va_runV (As := []) (rest := [.ref (ad 7)]) ⟨hx, hb, hml, hown, hts⟩ (tX9_hereNow l dC dI dA ad s.heap.size v2) (ccX9_X9_hereNow hts ⟨Nat.le_of_ble_eq_true rfl, Nat.le_of_ble_eq_true rfl⟩) (gPreV (ci := 9) (q0 := 0) hP hK hD rfl rfl) rfl rfl hl.1 rfl (lv_room (Nat.le_of_ble_eq_true rfl)) dX9_regrets_5 ⟨Nat.le_of_ble_eq_true rfl, Nat.le_of_ble_eq_true rfl⟩) hD hS hA (fun H locs hP hD hS => ?_)
  obtain ⟨h3, hf⟩ := og_some hf
  refine va_lald hx hb hK.1 hP 7 1 rfl rfl (okI_in h3) dX9_regrets_8 ?_
  refine lv_aload_n hx hb dX9_regrets_9 rfl (lv_at hl 0 rfl) ?_
  refine lv_iconst (v := 4) hx hb dX9_regrets_10 (by decide) ?_
  refine lv_iload_n hx hb dX9_regrets_11 rfl (lv_at hl 1 rfl) ?_
  obtain ⟨r4, v5, hf⟩ := bd1_some hf
  refine gcl (va_runV (As := [.int 4, .int p1]) (rest := [.long (c_worth (Int32.toNatClampNeg r1))]) ⟨hx, hb, hml, hown, hts⟩ (tX9_givesBy l dC dI dA ad H.size v5) (ccX9_X9_givesBy hts ⟨Nat.le_of_ble_eq_true rfl, Nat.le_of_ble_eq_true rfl⟩) (gPreV (ci := 9) (q0 := 0) hP hK hD rfl rfl) rfl rfl hl.1 rfl (lv_room (Nat.le_of_ble_eq_true rfl)) dX9_regrets_12 ⟨Nat.le_of_ble_eq_true rfl, Nat.le_of_ble_eq_true rfl⟩) hD hS hA (fun H locs hP hD hS => ?_)
  refine lv_lsub hx hb dX9_regrets_15 ?_
  refine lv_topl (fun w6 ew6 => ?_)
  replace hf := nm_at hf ew6
  refine lv_lstore_n (lv' := [(2, .long w6), (0, .ref (ad 0)), (1, .int p1)]) hx hb dX9_regrets_16 rfl hl (by decide) rfl (fun ls hl => ?_)
  refine lv_aload_n hx hb dX9_regrets_17 rfl (lv_at hl 1 rfl) ?_
  refine lv_aload_n hx hb dX9_regrets_18 rfl (lv_at hl 1 rfl) ?_
  refine va_get (D := (dC, dI)) (ci := 9) (v := .long c_regret) (C := RX9) (T := TX9) (N := 45) hx hb hts (fun w h => gw_mem (inX9 w h)) hown hK.1 hP 0 rfl rfl 37 (by decide) (hts _ (gw_mem wfX9_422)) (fun _ h9 => h9) rfl dX9_regrets_19 ?_
  refine lv_lload_n hx hb dX9_regrets_22 rfl (lv_at hl 0 rfl) ?_
  refine lv_lconst (v := 0) hx hb dX9_regrets_23 rfl ?_
  refine W.lcmp hx hb dX9_regrets_24 ?_
  refine lv_if_ge (tgt := 33) hx hb dX9_regrets_25 (by decide) (fun k7 => ?_) (fun k7 => ?_)
  · replace hf := ifp (lc_ge.mp k7) hf
    refine lv_lload_n hx hb dX9_regrets_33 rfl (lv_at hl 0 rfl) ?_
    refine lv_ladd hx hb dX9_regrets_34 ?_
    refine lv_topl (fun w8 ew8 => ?_)
    replace hf := nm_at hf ew8
    refine va_put (D := (dC, dI)) (ci := 9) (v := .long w8) (ty := .long) (C := RX9) (T := TX9) (N := 45) hx hb hts (fun w h => gw_mem (inX9 w h)) tyX9 tyX9_ok nmX9 hown hK.1 hP hD hS 0 rfl rfl 37 (by decide) (hts _ (gw_mem wfX9_422)) (fun _ h9 => h9) rfl (by decide +kernel) rfl rfl (Nat.le_of_ble_eq_true rfl) dX9_regrets_35 (fun H locs hP hD hS => ?_)
    have hP : va_P (dC, dI) vwCl (mW dA ad c_tape c_taped c_tree c_bonds c_moves c_handMoves c_moved c_days c_likely c_outOf c_rateNow c_pence c_top c_bottom c_spot c_textLong c_fault c_number c_numberAt c_figures c_written c_wanted c_found c_drawnNow c_worth c_hold c_way c_acts c_sDay c_sUps c_sUp c_sMarks c_paidAll c_isPlayed c_isOn c_handMoved c_handPaid w8 c_aside c_other c_states c_kept c_keptLong c_keptAt c_isTaking) H := hP
    have hD : va_D A (mW dA ad c_tape c_taped c_tree c_bonds c_moves c_handMoves c_moved c_days c_likely c_outOf c_rateNow c_pence c_top c_bottom c_spot c_textLong c_fault c_number c_numberAt c_figures c_written c_wanted c_found c_drawnNow c_worth c_hold c_way c_acts c_sDay c_sUps c_sUp c_sMarks c_paidAll c_isPlayed c_isOn c_handMoved c_handPaid w8 c_aside c_other c_states c_kept c_keptLong c_keptAt c_isTaking) := hD
    cases hf
    exact W.vret hx hb hr (fun t ht _ => gqv hP hD hS ht) hS.2.2 dX9_regrets_38
  · replace hf := ifn (fun h => k7 (lc_ge.mpr h)) hf
    refine lv_lload_n hx hb dX9_regrets_28 rfl (lv_at hl 0 rfl) ?_
    refine lv_lneg hx hb dX9_regrets_29 ?_
    refine lv_goto (tgt := 34) hx hb dX9_regrets_30 (by decide) ?_
    refine lv_ladd hx hb dX9_regrets_34 ?_
    refine lv_topl (fun w9 ew9 => ?_)
    replace hf := nm_at hf ew9
    refine va_put (D := (dC, dI)) (ci := 9) (v := .long w9) (ty := .long) (C := RX9) (T := TX9) (N := 45) hx hb hts (fun w h => gw_mem (inX9 w h)) tyX9 tyX9_ok nmX9 hown hK.1 hP hD hS 0 rfl rfl 37 (by decide) (hts _ (gw_mem wfX9_422)) (fun _ h9 => h9) rfl (by decide +kernel) rfl rfl (Nat.le_of_ble_eq_true rfl) dX9_regrets_35 (fun H locs hP hD hS => ?_)
    have hP : va_P (dC, dI) vwCl (mW dA ad c_tape c_taped c_tree c_bonds c_moves c_handMoves c_moved c_days c_likely c_outOf c_rateNow c_pence c_top c_bottom c_spot c_textLong c_fault c_number c_numberAt c_figures c_written c_wanted c_found c_drawnNow c_worth c_hold c_way c_acts c_sDay c_sUps c_sUp c_sMarks c_paidAll c_isPlayed c_isOn c_handMoved c_handPaid w9 c_aside c_other c_states c_kept c_keptLong c_keptAt c_isTaking) H := hP
    have hD : va_D A (mW dA ad c_tape c_taped c_tree c_bonds c_moves c_handMoves c_moved c_days c_likely c_outOf c_rateNow c_pence c_top c_bottom c_spot c_textLong c_fault c_number c_numberAt c_figures c_written c_wanted c_found c_drawnNow c_worth c_hold c_way c_acts c_sDay c_sUps c_sUp c_sMarks c_paidAll c_isPlayed c_isOn c_handMoved c_handPaid w9 c_aside c_other c_states c_kept c_keptLong c_keptAt c_isTaking) := hD
    cases hf
    exact W.vret hx hb hr (fun t ht _ => gqv hP hD hS ht) hS.2.2 dX9_regrets_38
theorem ccX9_X9_regrets {R : Room} {s : State} {args : Array Value} {c0 : Cond} (ht : ∀ w ∈ wq c0, w.before args s = true) (hR : rmX9_regrets.frames + 1 ≤ R.frames ∧ 8 + (4 + 11) + rmX9_regrets.locals ≤ R.locals) : CallW R s args RX9 RX9 428 yX9_regrets cX9_regrets 4 none (wq (.code yX9_regrets cX9_regrets 4 none)) rmX9_regrets 0 0 1 := gCW 1 ht wcX9_regrets wmX9_428 wiX9_regrets weX9_regrets wnX9 (by decide +kernel) rfl rfl hR
def fX9_go (p1 : Int32) (c_tree : Nat → Int32) (c_bonds : Nat → Int32) (c_handMoves : Nat → Int32) (c_days : Int32) (c_likely : Int32) (c_outOf : Int32) (c_rateNow : Int32) (c_pence : Nat → Int64) (c_top : Int64) (c_bottom : Int64) (c_worth : Nat → Int64) (c_hold : Nat → Int64) (c_acts : Nat → Int32) (c_sDay : Int32) (c_sUps : Int32) (c_sUp : Int32) (c_sMarks : Int32) (c_isPlayed : Int32) (c_isOn : Int32) (c_handMoved : Int32) (c_handPaid : Int64) (c_regret : Int64) : Option (Int32 × (Nat → Int32) × Int32 × Int32 × Int32 × Int32 × (Nat → Int64) × Int64 × Int64 × (Nat → Int64) × (Nat → Int64) × (Nat → Int32) × Int32 × Int32 × Int32 × Int32 × Int32 × Int64 × Int64) := if c_isPlayed = 0 then some ((-1), c_handMoves, c_days, c_likely, c_outOf, c_rateNow, c_pence, c_top, c_bottom, c_worth, c_hold, c_acts, c_sDay, c_sUps, c_sUp, c_sMarks, c_handMoved, c_handPaid, c_regret) else bd14 (fX9_standsByHand c_tree c_bonds c_handMoves c_days c_likely c_outOf c_rateNow c_pence c_top c_bottom c_worth c_hold c_acts c_sDay c_sUps c_sUp c_sMarks c_handMoved) (fun c_days_2 c_likely_3 c_outOf_4 c_rateNow_5 c_pence_6 c_top_7 c_bottom_8 c_worth_9 c_hold_10 c_acts_11 c_sDay_12 c_sUps_13 c_sUp_14 c_sMarks_15 => if c_isOn = 0 then some ((-2), c_handMoves, c_days_2, c_likely_3, c_outOf_4, c_rateNow_5, c_pence_6, c_top_7, c_bottom_8, c_worth_9, c_hold_10, c_acts_11, c_sDay_12, c_sUps_13, c_sUp_14, c_sMarks_15, c_handMoved, c_handPaid, c_regret) else if c_sDay_12 = c_days_2 then some ((-2), c_handMoves, c_days_2, c_likely_3, c_outOf_4, c_rateNow_5, c_pence_6, c_top_7, c_bottom_8, c_worth_9, c_hold_10, c_acts_11, c_sDay_12, c_sUps_13, c_sUp_14, c_sMarks_15, c_handMoved, c_handPaid, c_regret) else bd1 (fX9_regrets 0 c_bonds c_days_2 c_pence_6 c_worth_9 c_hold_10 c_sDay_12 c_sUps_13 c_sUp_14 c_sMarks_15 c_regret) (fun c_regret_19 => if p1 = 0 then og (okI c_handMoved 6) (nm (upd c_handMoves (Int32.toNatClampNeg c_handMoved) 0) (fun w23 => nm (c_handMoved + 1) (fun w24 => bd1 (fX9_couponOf 4 w24 c_bonds) (fun r25 => nm (c_handPaid + (Int32.toInt64 r25)) (fun w27 => some (w24, w23, c_days_2, c_likely_3, c_outOf_4, c_rateNow_5, c_pence_6, c_top_7, c_bottom_8, c_worth_9, c_hold_10, c_acts_11, c_sDay_12, c_sUps_13, c_sUp_14, c_sMarks_15, w24, w27, c_regret_19)))))) else og (okI c_handMoved 6) (nm (upd c_handMoves (Int32.toNatClampNeg c_handMoved) 1) (fun w29 => nm (c_handMoved + 1) (fun w30 => bd1 (fX9_couponOf 4 w30 c_bonds) (fun r31 => nm (c_handPaid + (Int32.toInt64 r31)) (fun w33 => some (w30, w29, c_days_2, c_likely_3, c_outOf_4, c_rateNow_5, c_pence_6, c_top_7, c_bottom_8, c_worth_9, c_hold_10, c_acts_11, c_sDay_12, c_sUps_13, c_sUp_14, c_sMarks_15, w30, w33, c_regret_19))))))))
abbrev rmX9_go : Room := { frames := 7, cells := 0, slots := 0, locals := 184 }
set_option maxHeartbeats 4000000 in
set_option maxRecDepth 100000 in
theorem tX9_go (l : Launch) (dC : Nat → ClassId) (dI : Nat → Nat → Nat) (dA : Nat → ClassId) (ad : Nat → Nat) (sz : Nat) {p1 : Int32} {c_tape : Nat → Int32} {c_taped : Int32} {c_tree : Nat → Int32} {c_bonds : Nat → Int32} {c_moves : Nat → Int32} {c_handMoves : Nat → Int32} {c_moved : Int32} {c_days : Int32} {c_likely : Int32} {c_outOf : Int32} {c_rateNow : Int32} {c_pence : Nat → Int64} {c_top : Int64} {c_bottom : Int64} {c_spot : Int32} {c_textLong : Int32} {c_fault : Int32} {c_number : Int32} {c_numberAt : Int32} {c_figures : Int32} {c_written : Int32} {c_wanted : Int32} {c_found : Int32} {c_drawnNow : Int32} {c_worth : Nat → Int64} {c_hold : Nat → Int64} {c_way : Nat → Int64} {c_acts : Nat → Int32} {c_sDay : Int32} {c_sUps : Int32} {c_sUp : Int32} {c_sMarks : Int32} {c_paidAll : Int64} {c_isPlayed : Int32} {c_isOn : Int32} {c_handMoved : Int32} {c_handPaid : Int64} {c_regret : Int64} {c_aside : Nat → Int32} {c_other : Nat → Int64} {c_states : Int32} {c_kept : Nat → Int32} {c_keptLong : Nat → Int64} {c_keptAt : Int32} {c_isTaking : Int32} {r : Int32} {o_c_handMoves : Nat → Int32} {o_c_days : Int32} {o_c_likely : Int32} {o_c_outOf : Int32} {o_c_rateNow : Int32} {o_c_pence : Nat → Int64} {o_c_top : Int64} {o_c_bottom : Int64} {o_c_worth : Nat → Int64} {o_c_hold : Nat → Int64} {o_c_acts : Nat → Int32} {o_c_sDay : Int32} {o_c_sUps : Int32} {o_c_sUp : Int32} {o_c_sMarks : Int32} {o_c_handMoved : Int32} {o_c_handPaid : Int64} {o_c_regret : Int64} (hf : fX9_go p1 c_tree c_bonds c_handMoves c_days c_likely c_outOf c_rateNow c_pence c_top c_bottom c_worth c_hold c_acts c_sDay c_sUps c_sUp c_sMarks c_isPlayed c_isOn c_handMoved c_handPaid c_regret = some (r, o_c_handMoves, o_c_days, o_c_likely, o_c_outOf, o_c_rateNow, o_c_pence, o_c_top, o_c_bottom, o_c_worth, o_c_hold, o_c_acts, o_c_sDay, o_c_sUps, o_c_sUp, o_c_sMarks, o_c_handMoved, o_c_handPaid, o_c_regret)) : Met l yX9_go (wq (Cond.code yX9_go cX9_go 2 (some .int))) rmX9_go (gP [.ref (ad 0), .int p1] (dC, dI) dA (mW dA ad c_tape c_taped c_tree c_bonds c_moves c_handMoves c_moved c_days c_likely c_outOf c_rateNow c_pence c_top c_bottom c_spot c_textLong c_fault c_number c_numberAt c_figures c_written c_wanted c_found c_drawnNow c_worth c_hold c_way c_acts c_sDay c_sUps c_sUp c_sMarks c_paidAll c_isPlayed c_isOn c_handMoved c_handPaid c_regret c_aside c_other c_states c_kept c_keptLong c_keptAt c_isTaking) sz) (gQi (dC, dI) r (mW dA ad c_tape c_taped c_tree c_bonds c_moves o_c_handMoves c_moved o_c_days o_c_likely o_c_outOf o_c_rateNow o_c_pence o_c_top o_c_bottom c_spot c_textLong c_fault c_number c_numberAt c_figures c_written c_wanted c_found c_drawnNow o_c_worth o_c_hold c_way o_c_acts o_c_sDay o_c_sUps o_c_sUp o_c_sMarks c_paidAll c_isPlayed c_isOn o_c_handMoved o_c_handPaid o_c_regret c_aside c_other c_states c_kept c_keptLong c_keptAt c_isTaking) (va_A (mW dA ad c_tape c_taped c_tree c_bonds c_moves c_handMoves c_moved c_days c_likely c_outOf c_rateNow c_pence c_top c_bottom c_spot c_textLong c_fault c_number c_numberAt c_figures c_written c_wanted c_found c_drawnNow c_worth c_hold c_way c_acts c_sDay c_sUps c_sUp c_sMarks c_paidAll c_isPlayed c_isOn c_handMoved c_handPaid c_regret c_aside c_other c_states c_kept c_keptLong c_keptAt c_isTaking) sz)) 0 0 (va_A (mW dA ad c_tape c_taped c_tree c_bonds c_moves c_handMoves c_moved c_days c_likely c_outOf c_rateNow c_pence c_top c_bottom c_spot c_textLong c_fault c_number c_numberAt c_figures c_written c_wanted c_found c_drawnNow c_worth c_hold c_way c_acts c_sDay c_sUps c_sUp c_sMarks c_paidAll c_isPlayed c_isOn c_handMoved c_handPaid c_regret c_aside c_other c_states c_kept c_keptLong c_keptAt c_isTaking) sz) := by
  refine Met.ofW (cc := cX9_go) (maxL := 2) (ret := (some .int)) (by decide) rfl ?_
  intro p e s m args below meth c s₁ B hml hv
  obtain ⟨rfl, hsz, hP, hK, hD0⟩ := hv
  have hx := B.exec
  have hb := B.bytes
  have hr := B.returns
  have hts := atoms_spec (ws := wq (Cond.code yX9_go cX9_go 2 (some .int))) B.pre
  have hown : s.vm.findClass RX9 = some m.cls := findClass_of_methodNamed B.named
  have hlocks := B.notSynchronized
  clear B
  subst hsz
  have hD := hD0.self (sz := s.heap.size)
  generalize hAe : va_A (mW dA ad c_tape c_taped c_tree c_bonds c_moves c_handMoves c_moved c_days c_likely c_outOf c_rateNow c_pence c_top c_bottom c_spot c_textLong c_fault c_number c_numberAt c_figures c_written c_wanted c_found c_drawnNow c_worth c_hold c_way c_acts c_sDay c_sUps c_sUp c_sMarks c_paidAll c_isPlayed c_isOn c_handMoved c_handPaid c_regret c_aside c_other c_states c_kept c_keptLong c_keptAt c_isTaking) s.heap.size = A at hD ⊢
  have hA : ∀ q : Nat, s.heap.size ≤ q → A q := fun q h => by rw [← hAe]; exact Or.inr h
  clear hAe hD0
  have hS : va_S A s.heap s.heap [] := va_S.rf
  have hl := lv_entry ([.ref (ad 0), .int p1]) (n := 2) (Nat.le_of_ble_eq_true rfl)
  rw [lg_entry_eq]
  generalize (lg_sl ([.ref (ad 0), .int p1]) ++ List.replicate (2 - (lg_sl ([.ref (ad 0), .int p1])).length) Slot.unset).toArray = ls at hl ⊢
  have hl : lv_has ls 2 [(0, .ref (ad 0)), (1, .int p1)] := hl
  change W p l e rmX9_go s m ([.ref (ad 0), .int p1] : List Value).toArray below meth c s.heap [] 0 0 _ _
  unfold fX9_go at hf
  refine lv_aload_n hx hb dX9_go_0 rfl (lv_at hl 0 rfl) ?_
  refine va_get (D := (dC, dI)) (ci := 9) (v := .int c_isPlayed) (C := RX9) (T := TX9) (N := 45) hx hb hts (fun w h => gw_mem (inX9 w h)) hown hK.1 hP 0 rfl rfl 33 (by decide) (hts _ (gw_mem wfX9_412)) (fun _ h9 => h9) rfl dX9_go_1 ?_
  refine lv_if_ne (tgt := 9) hx hb dX9_go_4 (by decide) (fun k1 => ?_) (fun k1 => ?_)
  · replace hf := ifn k1 hf
    refine lv_aload_n hx hb dX9_go_9 rfl (lv_at hl 0 rfl) ?_
    obtain ⟨c_days_2, c_likely_3, c_outOf_4, c_rateNow_5, c_pence_6, c_top_7, c_bottom_8, c_worth_9, c_hold_10, c_acts_11, c_sDay_12, c_sUps_13, c_sUp_14, c_sMarks_15, v16, hf⟩ := bd14_some hf
    refine gcv (va_runV (As := []) (rest := []) ⟨hx, hb, hml, hown, hts⟩ (tX9_standsByHand l dC dI dA ad s.heap.size v16) (ccX9_X9_standsByHand hts ⟨Nat.le_of_ble_eq_true rfl, Nat.le_of_ble_eq_true rfl⟩) (gPreV (ci := 9) (q0 := 0) hP hK hD rfl rfl) rfl rfl hl.1 rfl (lv_room (Nat.le_of_ble_eq_true rfl)) dX9_go_10 ⟨Nat.le_of_ble_eq_true rfl, Nat.le_of_ble_eq_true rfl⟩) hD hS hA (fun H locs hP hD hS => ?_)
    refine lv_aload_n hx hb dX9_go_13 rfl (lv_at hl 0 rfl) ?_
    refine va_get (D := (dC, dI)) (ci := 9) (v := .int c_isOn) (C := RX9) (T := TX9) (N := 45) hx hb hts (fun w h => gw_mem (inX9 w h)) hown hK.1 hP 0 rfl rfl 34 (by decide) (hts _ (gw_mem wfX9_416)) (fun _ h9 => h9) rfl dX9_go_14 ?_
    refine lv_if_eq (tgt := 31) hx hb dX9_go_17 (by decide) (fun k17 => ?_) (fun k17 => ?_)
    · replace hf := ifp k17 hf
      refine lv_bipush (v := (-2)) hx hb dX9_go_31 (by decide) ?_
      cases hf
      exact W.iret hx hb hr (fun t ht _ => gqi hP hD hS ht) hS.2.2 dX9_go_33
    · replace hf := ifn k17 hf
      refine lv_aload_n hx hb dX9_go_20 rfl (lv_at hl 0 rfl) ?_
      refine va_get (D := (dC, dI)) (ci := 9) (v := .int c_sDay_12) (C := RX9) (T := TX9) (N := 45) hx hb hts (fun w h => gw_mem (inX9 w h)) hown hK.1 hP 0 rfl rfl 28 (by decide) (hts _ (gw_mem wfX9_316)) (fun _ h9 => h9) rfl dX9_go_21 ?_
      refine lv_aload_n hx hb dX9_go_24 rfl (lv_at hl 0 rfl) ?_
      refine va_get (D := (dC, dI)) (ci := 9) (v := .int c_days_2) (C := RX9) (T := TX9) (N := 45) hx hb hts (fun w h => gw_mem (inX9 w h)) hown hK.1 hP 0 rfl rfl 7 (by decide) (hts _ (gw_mem wfX9_94)) (fun _ h9 => h9) rfl dX9_go_25 ?_
      refine lv_icmp_ne (tgt := 34) hx hb dX9_go_28 (by decide) (fun k18 => ?_) (fun k18 => ?_)
      · replace hf := ifn k18 hf
        refine lv_aload_n hx hb dX9_go_34 rfl (lv_at hl 0 rfl) ?_
        refine lv_iconst (v := 0) hx hb dX9_go_35 (by decide) ?_
        obtain ⟨c_regret_19, v20, hf⟩ := bd1_some hf
        refine gcv (va_runV (As := [.int 0]) (rest := []) ⟨hx, hb, hml, hown, hts⟩ (tX9_regrets l dC dI dA ad H.size v20) (ccX9_X9_regrets hts ⟨Nat.le_of_ble_eq_true rfl, Nat.le_of_ble_eq_true rfl⟩) (gPreV (ci := 9) (q0 := 0) hP hK hD rfl rfl) rfl rfl hl.1 rfl (lv_room (Nat.le_of_ble_eq_true rfl)) dX9_go_36 ⟨Nat.le_of_ble_eq_true rfl, Nat.le_of_ble_eq_true rfl⟩) hD hS hA (fun H locs hP hD hS => ?_)
        refine lv_aload_n hx hb dX9_go_39 rfl (lv_at hl 0 rfl) ?_
        refine va_get (D := (dC, dI)) (ci := 9) (v := .ref (ad 5)) (C := RX9) (T := TX9) (N := 45) hx hb hts (fun w h => gw_mem (inX9 w h)) hown hK.1 hP 0 rfl rfl 5 (by decide) (hts _ (gw_mem wfX9_23)) (fun _ h9 => h9) rfl dX9_go_40 ?_
        refine lv_aload_n hx hb dX9_go_43 rfl (lv_at hl 0 rfl) ?_
        refine va_get (D := (dC, dI)) (ci := 9) (v := .int c_handMoved) (C := RX9) (T := TX9) (N := 45) hx hb hts (fun w h => gw_mem (inX9 w h)) hown hK.1 hP 0 rfl rfl 35 (by decide) (hts _ (gw_mem wfX9_409)) (fun _ h9 => h9) rfl dX9_go_44 ?_
        refine lv_iload_n hx hb dX9_go_47 rfl (lv_at hl 1 rfl) ?_
        refine lv_if_eq (tgt := 55) hx hb dX9_go_48 (by decide) (fun k21 => ?_) (fun k21 => ?_)
        · replace hf := ifp k21 hf
          refine lv_iconst (v := 0) hx hb dX9_go_55 (by decide) ?_
          obtain ⟨h22, hf⟩ := og_some hf
          obtain ⟨w23, ew23⟩ : ∃ y : Nat → Int32, y = upd c_handMoves (Int32.toNatClampNeg c_handMoved) 0 := ⟨_, rfl⟩
          replace hf := nm_at hf ew23
          refine va_iast hx hb hK.1 hP hD hS 5 0 rfl rfl (okI_in h22) dX9_go_56 (fun H locs hP hD hS => ?_)
          have hP : va_P (dC, dI) vwCl (mW dA ad c_tape c_taped c_tree c_bonds c_moves w23 c_moved c_days_2 c_likely_3 c_outOf_4 c_rateNow_5 c_pence_6 c_top_7 c_bottom_8 c_spot c_textLong c_fault c_number c_numberAt c_figures c_written c_wanted c_found c_drawnNow c_worth_9 c_hold_10 c_way c_acts_11 c_sDay_12 c_sUps_13 c_sUp_14 c_sMarks_15 c_paidAll c_isPlayed c_isOn c_handMoved c_handPaid c_regret_19 c_aside c_other c_states c_kept c_keptLong c_keptAt c_isTaking) H := by rw [ew23]; exact hP
          have hD : va_D A (mW dA ad c_tape c_taped c_tree c_bonds c_moves w23 c_moved c_days_2 c_likely_3 c_outOf_4 c_rateNow_5 c_pence_6 c_top_7 c_bottom_8 c_spot c_textLong c_fault c_number c_numberAt c_figures c_written c_wanted c_found c_drawnNow c_worth_9 c_hold_10 c_way c_acts_11 c_sDay_12 c_sUps_13 c_sUp_14 c_sMarks_15 c_paidAll c_isPlayed c_isOn c_handMoved c_handPaid c_regret_19 c_aside c_other c_states c_kept c_keptLong c_keptAt c_isTaking) := by rw [ew23]; exact hD
          refine lv_aload_n hx hb dX9_go_57 rfl (lv_at hl 0 rfl) ?_
          refine lv_aload_n hx hb dX9_go_58 rfl (lv_at hl 0 rfl) ?_
          refine va_get (D := (dC, dI)) (ci := 9) (v := .int c_handMoved) (C := RX9) (T := TX9) (N := 45) hx hb hts (fun w h => gw_mem (inX9 w h)) hown hK.1 hP 0 rfl rfl 35 (by decide) (hts _ (gw_mem wfX9_409)) (fun _ h9 => h9) rfl dX9_go_59 ?_
          refine lv_iconst (v := 1) hx hb dX9_go_62 (by decide) ?_
          refine lv_iadd hx hb dX9_go_63 ?_
          refine lv_topi (fun w24 ew24 => ?_)
          replace hf := nm_at hf ew24
          refine va_put (D := (dC, dI)) (ci := 9) (v := .int w24) (ty := .int) (C := RX9) (T := TX9) (N := 45) hx hb hts (fun w h => gw_mem (inX9 w h)) tyX9 tyX9_ok nmX9 hown hK.1 hP hD hS 0 rfl rfl 35 (by decide) (hts _ (gw_mem wfX9_409)) (fun _ h9 => h9) rfl (by decide +kernel) rfl rfl (Nat.le_of_ble_eq_true rfl) dX9_go_64 (fun H locs hP hD hS => ?_)
          have hP : va_P (dC, dI) vwCl (mW dA ad c_tape c_taped c_tree c_bonds c_moves w23 c_moved c_days_2 c_likely_3 c_outOf_4 c_rateNow_5 c_pence_6 c_top_7 c_bottom_8 c_spot c_textLong c_fault c_number c_numberAt c_figures c_written c_wanted c_found c_drawnNow c_worth_9 c_hold_10 c_way c_acts_11 c_sDay_12 c_sUps_13 c_sUp_14 c_sMarks_15 c_paidAll c_isPlayed c_isOn w24 c_handPaid c_regret_19 c_aside c_other c_states c_kept c_keptLong c_keptAt c_isTaking) H := hP
          have hD : va_D A (mW dA ad c_tape c_taped c_tree c_bonds c_moves w23 c_moved c_days_2 c_likely_3 c_outOf_4 c_rateNow_5 c_pence_6 c_top_7 c_bottom_8 c_spot c_textLong c_fault c_number c_numberAt c_figures c_written c_wanted c_found c_drawnNow c_worth_9 c_hold_10 c_way c_acts_11 c_sDay_12 c_sUps_13 c_sUp_14 c_sMarks_15 c_paidAll c_isPlayed c_isOn w24 c_handPaid c_regret_19 c_aside c_other c_states c_kept c_keptLong c_keptAt c_isTaking) := hD
          refine lv_aload_n hx hb dX9_go_67 rfl (lv_at hl 0 rfl) ?_
          refine lv_aload_n hx hb dX9_go_68 rfl (lv_at hl 0 rfl) ?_
          refine va_get (D := (dC, dI)) (ci := 9) (v := .long c_handPaid) (C := RX9) (T := TX9) (N := 45) hx hb hts (fun w h => gw_mem (inX9 w h)) hown hK.1 hP 0 rfl rfl 36 (by decide) (hts _ (gw_mem wfX9_419)) (fun _ h9 => h9) rfl dX9_go_69 ?_
          refine lv_aload_n hx hb dX9_go_72 rfl (lv_at hl 0 rfl) ?_
          refine lv_iconst (v := 4) hx hb dX9_go_73 (by decide) ?_
          refine lv_aload_n hx hb dX9_go_74 rfl (lv_at hl 0 rfl) ?_
          refine va_get (D := (dC, dI)) (ci := 9) (v := .int w24) (C := RX9) (T := TX9) (N := 45) hx hb hts (fun w h => gw_mem (inX9 w h)) hown hK.1 hP 0 rfl rfl 35 (by decide) (hts _ (gw_mem wfX9_409)) (fun _ h9 => h9) rfl dX9_go_75 ?_
          obtain ⟨r25, v26, hf⟩ := bd1_some hf
          refine gci (va_runV (As := [.int 4, .int w24]) (rest := [.long c_handPaid, .ref (ad 0)]) ⟨hx, hb, hml, hown, hts⟩ (tX9_couponOf l dC dI dA ad H.size v26) (ccX9_X9_couponOf hts ⟨Nat.le_of_ble_eq_true rfl, Nat.le_of_ble_eq_true rfl⟩) (gPreV (ci := 9) (q0 := 0) hP hK hD rfl rfl) rfl rfl hl.1 rfl (lv_room (Nat.le_of_ble_eq_true rfl)) dX9_go_78 ⟨Nat.le_of_ble_eq_true rfl, Nat.le_of_ble_eq_true rfl⟩) hD hS hA (fun H locs hP hD hS => ?_)
          refine lv_i2l hx hb dX9_go_81 rfl ?_
          refine lv_ladd hx hb dX9_go_82 ?_
          refine lv_topl (fun w27 ew27 => ?_)
          replace hf := nm_at hf ew27
          refine va_put (D := (dC, dI)) (ci := 9) (v := .long w27) (ty := .long) (C := RX9) (T := TX9) (N := 45) hx hb hts (fun w h => gw_mem (inX9 w h)) tyX9 tyX9_ok nmX9 hown hK.1 hP hD hS 0 rfl rfl 36 (by decide) (hts _ (gw_mem wfX9_419)) (fun _ h9 => h9) rfl (by decide +kernel) rfl rfl (Nat.le_of_ble_eq_true rfl) dX9_go_83 (fun H locs hP hD hS => ?_)
          have hP : va_P (dC, dI) vwCl (mW dA ad c_tape c_taped c_tree c_bonds c_moves w23 c_moved c_days_2 c_likely_3 c_outOf_4 c_rateNow_5 c_pence_6 c_top_7 c_bottom_8 c_spot c_textLong c_fault c_number c_numberAt c_figures c_written c_wanted c_found c_drawnNow c_worth_9 c_hold_10 c_way c_acts_11 c_sDay_12 c_sUps_13 c_sUp_14 c_sMarks_15 c_paidAll c_isPlayed c_isOn w24 w27 c_regret_19 c_aside c_other c_states c_kept c_keptLong c_keptAt c_isTaking) H := hP
          have hD : va_D A (mW dA ad c_tape c_taped c_tree c_bonds c_moves w23 c_moved c_days_2 c_likely_3 c_outOf_4 c_rateNow_5 c_pence_6 c_top_7 c_bottom_8 c_spot c_textLong c_fault c_number c_numberAt c_figures c_written c_wanted c_found c_drawnNow c_worth_9 c_hold_10 c_way c_acts_11 c_sDay_12 c_sUps_13 c_sUp_14 c_sMarks_15 c_paidAll c_isPlayed c_isOn w24 w27 c_regret_19 c_aside c_other c_states c_kept c_keptLong c_keptAt c_isTaking) := hD
          refine lv_aload_n hx hb dX9_go_86 rfl (lv_at hl 0 rfl) ?_
          refine va_get (D := (dC, dI)) (ci := 9) (v := .int w24) (C := RX9) (T := TX9) (N := 45) hx hb hts (fun w h => gw_mem (inX9 w h)) hown hK.1 hP 0 rfl rfl 35 (by decide) (hts _ (gw_mem wfX9_409)) (fun _ h9 => h9) rfl dX9_go_87 ?_
          cases hf
          exact W.iret hx hb hr (fun t ht _ => gqi hP hD hS ht) hS.2.2 dX9_go_90
        · replace hf := ifn k21 hf
          refine lv_iconst (v := 1) hx hb dX9_go_51 (by decide) ?_
          refine lv_goto (tgt := 56) hx hb dX9_go_52 (by decide) ?_
          obtain ⟨h28, hf⟩ := og_some hf
          obtain ⟨w29, ew29⟩ : ∃ y : Nat → Int32, y = upd c_handMoves (Int32.toNatClampNeg c_handMoved) 1 := ⟨_, rfl⟩
          replace hf := nm_at hf ew29
          refine va_iast hx hb hK.1 hP hD hS 5 0 rfl rfl (okI_in h28) dX9_go_56 (fun H locs hP hD hS => ?_)
          have hP : va_P (dC, dI) vwCl (mW dA ad c_tape c_taped c_tree c_bonds c_moves w29 c_moved c_days_2 c_likely_3 c_outOf_4 c_rateNow_5 c_pence_6 c_top_7 c_bottom_8 c_spot c_textLong c_fault c_number c_numberAt c_figures c_written c_wanted c_found c_drawnNow c_worth_9 c_hold_10 c_way c_acts_11 c_sDay_12 c_sUps_13 c_sUp_14 c_sMarks_15 c_paidAll c_isPlayed c_isOn c_handMoved c_handPaid c_regret_19 c_aside c_other c_states c_kept c_keptLong c_keptAt c_isTaking) H := by rw [ew29]; exact hP
          have hD : va_D A (mW dA ad c_tape c_taped c_tree c_bonds c_moves w29 c_moved c_days_2 c_likely_3 c_outOf_4 c_rateNow_5 c_pence_6 c_top_7 c_bottom_8 c_spot c_textLong c_fault c_number c_numberAt c_figures c_written c_wanted c_found c_drawnNow c_worth_9 c_hold_10 c_way c_acts_11 c_sDay_12 c_sUps_13 c_sUp_14 c_sMarks_15 c_paidAll c_isPlayed c_isOn c_handMoved c_handPaid c_regret_19 c_aside c_other c_states c_kept c_keptLong c_keptAt c_isTaking) := by rw [ew29]; exact hD
          refine lv_aload_n hx hb dX9_go_57 rfl (lv_at hl 0 rfl) ?_
          refine lv_aload_n hx hb dX9_go_58 rfl (lv_at hl 0 rfl) ?_
          refine va_get (D := (dC, dI)) (ci := 9) (v := .int c_handMoved) (C := RX9) (T := TX9) (N := 45) hx hb hts (fun w h => gw_mem (inX9 w h)) hown hK.1 hP 0 rfl rfl 35 (by decide) (hts _ (gw_mem wfX9_409)) (fun _ h9 => h9) rfl dX9_go_59 ?_
          refine lv_iconst (v := 1) hx hb dX9_go_62 (by decide) ?_
          refine lv_iadd hx hb dX9_go_63 ?_
          refine lv_topi (fun w30 ew30 => ?_)
          replace hf := nm_at hf ew30
          refine va_put (D := (dC, dI)) (ci := 9) (v := .int w30) (ty := .int) (C := RX9) (T := TX9) (N := 45) hx hb hts (fun w h => gw_mem (inX9 w h)) tyX9 tyX9_ok nmX9 hown hK.1 hP hD hS 0 rfl rfl 35 (by decide) (hts _ (gw_mem wfX9_409)) (fun _ h9 => h9) rfl (by decide +kernel) rfl rfl (Nat.le_of_ble_eq_true rfl) dX9_go_64 (fun H locs hP hD hS => ?_)
          have hP : va_P (dC, dI) vwCl (mW dA ad c_tape c_taped c_tree c_bonds c_moves w29 c_moved c_days_2 c_likely_3 c_outOf_4 c_rateNow_5 c_pence_6 c_top_7 c_bottom_8 c_spot c_textLong c_fault c_number c_numberAt c_figures c_written c_wanted c_found c_drawnNow c_worth_9 c_hold_10 c_way c_acts_11 c_sDay_12 c_sUps_13 c_sUp_14 c_sMarks_15 c_paidAll c_isPlayed c_isOn w30 c_handPaid c_regret_19 c_aside c_other c_states c_kept c_keptLong c_keptAt c_isTaking) H := hP
          have hD : va_D A (mW dA ad c_tape c_taped c_tree c_bonds c_moves w29 c_moved c_days_2 c_likely_3 c_outOf_4 c_rateNow_5 c_pence_6 c_top_7 c_bottom_8 c_spot c_textLong c_fault c_number c_numberAt c_figures c_written c_wanted c_found c_drawnNow c_worth_9 c_hold_10 c_way c_acts_11 c_sDay_12 c_sUps_13 c_sUp_14 c_sMarks_15 c_paidAll c_isPlayed c_isOn w30 c_handPaid c_regret_19 c_aside c_other c_states c_kept c_keptLong c_keptAt c_isTaking) := hD
          refine lv_aload_n hx hb dX9_go_67 rfl (lv_at hl 0 rfl) ?_
          refine lv_aload_n hx hb dX9_go_68 rfl (lv_at hl 0 rfl) ?_
          refine va_get (D := (dC, dI)) (ci := 9) (v := .long c_handPaid) (C := RX9) (T := TX9) (N := 45) hx hb hts (fun w h => gw_mem (inX9 w h)) hown hK.1 hP 0 rfl rfl 36 (by decide) (hts _ (gw_mem wfX9_419)) (fun _ h9 => h9) rfl dX9_go_69 ?_
          refine lv_aload_n hx hb dX9_go_72 rfl (lv_at hl 0 rfl) ?_
          refine lv_iconst (v := 4) hx hb dX9_go_73 (by decide) ?_
          refine lv_aload_n hx hb dX9_go_74 rfl (lv_at hl 0 rfl) ?_
          refine va_get (D := (dC, dI)) (ci := 9) (v := .int w30) (C := RX9) (T := TX9) (N := 45) hx hb hts (fun w h => gw_mem (inX9 w h)) hown hK.1 hP 0 rfl rfl 35 (by decide) (hts _ (gw_mem wfX9_409)) (fun _ h9 => h9) rfl dX9_go_75 ?_
          obtain ⟨r31, v32, hf⟩ := bd1_some hf
          refine gci (va_runV (As := [.int 4, .int w30]) (rest := [.long c_handPaid, .ref (ad 0)]) ⟨hx, hb, hml, hown, hts⟩ (tX9_couponOf l dC dI dA ad H.size v32) (ccX9_X9_couponOf hts ⟨Nat.le_of_ble_eq_true rfl, Nat.le_of_ble_eq_true rfl⟩) (gPreV (ci := 9) (q0 := 0) hP hK hD rfl rfl) rfl rfl hl.1 rfl (lv_room (Nat.le_of_ble_eq_true rfl)) dX9_go_78 ⟨Nat.le_of_ble_eq_true rfl, Nat.le_of_ble_eq_true rfl⟩) hD hS hA (fun H locs hP hD hS => ?_)
          refine lv_i2l hx hb dX9_go_81 rfl ?_
          refine lv_ladd hx hb dX9_go_82 ?_
          refine lv_topl (fun w33 ew33 => ?_)
          replace hf := nm_at hf ew33
          refine va_put (D := (dC, dI)) (ci := 9) (v := .long w33) (ty := .long) (C := RX9) (T := TX9) (N := 45) hx hb hts (fun w h => gw_mem (inX9 w h)) tyX9 tyX9_ok nmX9 hown hK.1 hP hD hS 0 rfl rfl 36 (by decide) (hts _ (gw_mem wfX9_419)) (fun _ h9 => h9) rfl (by decide +kernel) rfl rfl (Nat.le_of_ble_eq_true rfl) dX9_go_83 (fun H locs hP hD hS => ?_)
          have hP : va_P (dC, dI) vwCl (mW dA ad c_tape c_taped c_tree c_bonds c_moves w29 c_moved c_days_2 c_likely_3 c_outOf_4 c_rateNow_5 c_pence_6 c_top_7 c_bottom_8 c_spot c_textLong c_fault c_number c_numberAt c_figures c_written c_wanted c_found c_drawnNow c_worth_9 c_hold_10 c_way c_acts_11 c_sDay_12 c_sUps_13 c_sUp_14 c_sMarks_15 c_paidAll c_isPlayed c_isOn w30 w33 c_regret_19 c_aside c_other c_states c_kept c_keptLong c_keptAt c_isTaking) H := hP
          have hD : va_D A (mW dA ad c_tape c_taped c_tree c_bonds c_moves w29 c_moved c_days_2 c_likely_3 c_outOf_4 c_rateNow_5 c_pence_6 c_top_7 c_bottom_8 c_spot c_textLong c_fault c_number c_numberAt c_figures c_written c_wanted c_found c_drawnNow c_worth_9 c_hold_10 c_way c_acts_11 c_sDay_12 c_sUps_13 c_sUp_14 c_sMarks_15 c_paidAll c_isPlayed c_isOn w30 w33 c_regret_19 c_aside c_other c_states c_kept c_keptLong c_keptAt c_isTaking) := hD
          refine lv_aload_n hx hb dX9_go_86 rfl (lv_at hl 0 rfl) ?_
          refine va_get (D := (dC, dI)) (ci := 9) (v := .int w30) (C := RX9) (T := TX9) (N := 45) hx hb hts (fun w h => gw_mem (inX9 w h)) hown hK.1 hP 0 rfl rfl 35 (by decide) (hts _ (gw_mem wfX9_409)) (fun _ h9 => h9) rfl dX9_go_87 ?_
          cases hf
          exact W.iret hx hb hr (fun t ht _ => gqi hP hD hS ht) hS.2.2 dX9_go_90
      · replace hf := ifp k18 hf
        refine lv_bipush (v := (-2)) hx hb dX9_go_31 (by decide) ?_
        cases hf
        exact W.iret hx hb hr (fun t ht _ => gqi hP hD hS ht) hS.2.2 dX9_go_33
  · replace hf := ifp k1 hf
    refine lv_iconst (v := (-1)) hx hb dX9_go_7 (by decide) ?_
    cases hf
    exact W.iret hx hb hr (fun t ht _ => gqi hP hD hS ht) hS.2.2 dX9_go_8
def fX9_does (p1 : Int32) (c_tree : Nat → Int32) (c_bonds : Nat → Int32) (c_handMoves : Nat → Int32) (c_days : Int32) (c_likely : Int32) (c_outOf : Int32) (c_rateNow : Int32) (c_pence : Nat → Int64) (c_top : Int64) (c_bottom : Int64) (c_worth : Nat → Int64) (c_hold : Nat → Int64) (c_acts : Nat → Int32) (c_sDay : Int32) (c_sUps : Int32) (c_sUp : Int32) (c_sMarks : Int32) (c_isPlayed : Int32) (c_isOn : Int32) (c_handMoved : Int32) (c_handPaid : Int64) (c_regret : Int64) : Option (Int64 × Int32 × Int32 × Int32 × Int32 × (Nat → Int64) × Int64 × Int64 × (Nat → Int64) × (Nat → Int64) × (Nat → Int32) × Int32 × Int32 × Int32 × Int32 × Int32 × Int64 × Int64) := if c_isPlayed = 0 then some ((-1), c_days, c_likely, c_outOf, c_rateNow, c_pence, c_top, c_bottom, c_worth, c_hold, c_acts, c_sDay, c_sUps, c_sUp, c_sMarks, c_isOn, c_handPaid, c_regret) else bd1 (fX9_in (Int32.toInt64 p1) 0 3) (fun r2 => if r2 = 0 then some ((-1), c_days, c_likely, c_outOf, c_rateNow, c_pence, c_top, c_bottom, c_worth, c_hold, c_acts, c_sDay, c_sUps, c_sUp, c_sMarks, c_isOn, c_handPaid, c_regret) else bd14 (fX9_standsByHand c_tree c_bonds c_handMoves c_days c_likely c_outOf c_rateNow c_pence c_top c_bottom c_worth c_hold c_acts c_sDay c_sUps c_sUp c_sMarks c_handMoved) (fun c_days_5 c_likely_6 c_outOf_7 c_rateNow_8 c_pence_9 c_top_10 c_bottom_11 c_worth_12 c_hold_13 c_acts_14 c_sDay_15 c_sUps_16 c_sUp_17 c_sMarks_18 => if c_isOn = 0 then some ((-2), c_days_5, c_likely_6, c_outOf_7, c_rateNow_8, c_pence_9, c_top_10, c_bottom_11, c_worth_12, c_hold_13, c_acts_14, c_sDay_15, c_sUps_16, c_sUp_17, c_sMarks_18, c_isOn, c_handPaid, c_regret) else if p1 = 0 then if c_days_5 ≤ c_sDay_15 then bd1 (fX9_givesBy 4 p1 c_bonds c_days_5 c_pence_9 c_hold_13 c_sDay_15 c_sUps_16 c_sUp_17 c_sMarks_18) (fun r31 => if 0 ≤ r31 then bd1 (fX9_regrets p1 c_bonds c_days_5 c_pence_9 c_worth_12 c_hold_13 c_sDay_15 c_sUps_16 c_sUp_17 c_sMarks_18 c_regret) (fun c_regret_34 => bd1 (fX9_couponOf 4 c_sDay_15 c_bonds) (fun r36 => nm ((c_handPaid + r31) - (Int32.toInt64 r36)) (fun w38 => some (w38, c_days_5, c_likely_6, c_outOf_7, c_rateNow_8, c_pence_9, c_top_10, c_bottom_11, c_worth_12, c_hold_13, c_acts_14, c_sDay_15, c_sUps_16, c_sUp_17, c_sMarks_18, 0, w38, c_regret_34)))) else some ((-3), c_days_5, c_likely_6, c_outOf_7, c_rateNow_8, c_pence_9, c_top_10, c_bottom_11, c_worth_12, c_hold_13, c_acts_14, c_sDay_15, c_sUps_16, c_sUp_17, c_sMarks_18, c_isOn, c_handPaid, c_regret)) else some ((-2), c_days_5, c_likely_6, c_outOf_7, c_rateNow_8, c_pence_9, c_top_10, c_bottom_11, c_worth_12, c_hold_13, c_acts_14, c_sDay_15, c_sUps_16, c_sUp_17, c_sMarks_18, c_isOn, c_handPaid, c_regret) else bd1 (fX9_givesBy 4 p1 c_bonds c_days_5 c_pence_9 c_hold_13 c_sDay_15 c_sUps_16 c_sUp_17 c_sMarks_18) (fun r22 => if 0 ≤ r22 then bd1 (fX9_regrets p1 c_bonds c_days_5 c_pence_9 c_worth_12 c_hold_13 c_sDay_15 c_sUps_16 c_sUp_17 c_sMarks_18 c_regret) (fun c_regret_25 => bd1 (fX9_couponOf 4 c_sDay_15 c_bonds) (fun r27 => nm ((c_handPaid + r22) - (Int32.toInt64 r27)) (fun w29 => some (w29, c_days_5, c_likely_6, c_outOf_7, c_rateNow_8, c_pence_9, c_top_10, c_bottom_11, c_worth_12, c_hold_13, c_acts_14, c_sDay_15, c_sUps_16, c_sUp_17, c_sMarks_18, 0, w29, c_regret_25)))) else some ((-3), c_days_5, c_likely_6, c_outOf_7, c_rateNow_8, c_pence_9, c_top_10, c_bottom_11, c_worth_12, c_hold_13, c_acts_14, c_sDay_15, c_sUps_16, c_sUp_17, c_sMarks_18, c_isOn, c_handPaid, c_regret))))
abbrev rmX9_does : Room := { frames := 7, cells := 0, slots := 0, locals := 184 }
set_option maxHeartbeats 4000000 in
set_option maxRecDepth 100000 in
theorem tX9_does (l : Launch) (dC : Nat → ClassId) (dI : Nat → Nat → Nat) (dA : Nat → ClassId) (ad : Nat → Nat) (sz : Nat) {p1 : Int32} {c_tape : Nat → Int32} {c_taped : Int32} {c_tree : Nat → Int32} {c_bonds : Nat → Int32} {c_moves : Nat → Int32} {c_handMoves : Nat → Int32} {c_moved : Int32} {c_days : Int32} {c_likely : Int32} {c_outOf : Int32} {c_rateNow : Int32} {c_pence : Nat → Int64} {c_top : Int64} {c_bottom : Int64} {c_spot : Int32} {c_textLong : Int32} {c_fault : Int32} {c_number : Int32} {c_numberAt : Int32} {c_figures : Int32} {c_written : Int32} {c_wanted : Int32} {c_found : Int32} {c_drawnNow : Int32} {c_worth : Nat → Int64} {c_hold : Nat → Int64} {c_way : Nat → Int64} {c_acts : Nat → Int32} {c_sDay : Int32} {c_sUps : Int32} {c_sUp : Int32} {c_sMarks : Int32} {c_paidAll : Int64} {c_isPlayed : Int32} {c_isOn : Int32} {c_handMoved : Int32} {c_handPaid : Int64} {c_regret : Int64} {c_aside : Nat → Int32} {c_other : Nat → Int64} {c_states : Int32} {c_kept : Nat → Int32} {c_keptLong : Nat → Int64} {c_keptAt : Int32} {c_isTaking : Int32} {r : Int64} {o_c_days : Int32} {o_c_likely : Int32} {o_c_outOf : Int32} {o_c_rateNow : Int32} {o_c_pence : Nat → Int64} {o_c_top : Int64} {o_c_bottom : Int64} {o_c_worth : Nat → Int64} {o_c_hold : Nat → Int64} {o_c_acts : Nat → Int32} {o_c_sDay : Int32} {o_c_sUps : Int32} {o_c_sUp : Int32} {o_c_sMarks : Int32} {o_c_isOn : Int32} {o_c_handPaid : Int64} {o_c_regret : Int64} (hf : fX9_does p1 c_tree c_bonds c_handMoves c_days c_likely c_outOf c_rateNow c_pence c_top c_bottom c_worth c_hold c_acts c_sDay c_sUps c_sUp c_sMarks c_isPlayed c_isOn c_handMoved c_handPaid c_regret = some (r, o_c_days, o_c_likely, o_c_outOf, o_c_rateNow, o_c_pence, o_c_top, o_c_bottom, o_c_worth, o_c_hold, o_c_acts, o_c_sDay, o_c_sUps, o_c_sUp, o_c_sMarks, o_c_isOn, o_c_handPaid, o_c_regret)) : Met l yX9_does (wq (Cond.code yX9_does cX9_does 4 (some .long))) rmX9_does (gP [.ref (ad 0), .int p1] (dC, dI) dA (mW dA ad c_tape c_taped c_tree c_bonds c_moves c_handMoves c_moved c_days c_likely c_outOf c_rateNow c_pence c_top c_bottom c_spot c_textLong c_fault c_number c_numberAt c_figures c_written c_wanted c_found c_drawnNow c_worth c_hold c_way c_acts c_sDay c_sUps c_sUp c_sMarks c_paidAll c_isPlayed c_isOn c_handMoved c_handPaid c_regret c_aside c_other c_states c_kept c_keptLong c_keptAt c_isTaking) sz) (gQl (dC, dI) r (mW dA ad c_tape c_taped c_tree c_bonds c_moves c_handMoves c_moved o_c_days o_c_likely o_c_outOf o_c_rateNow o_c_pence o_c_top o_c_bottom c_spot c_textLong c_fault c_number c_numberAt c_figures c_written c_wanted c_found c_drawnNow o_c_worth o_c_hold c_way o_c_acts o_c_sDay o_c_sUps o_c_sUp o_c_sMarks c_paidAll c_isPlayed o_c_isOn c_handMoved o_c_handPaid o_c_regret c_aside c_other c_states c_kept c_keptLong c_keptAt c_isTaking) (va_A (mW dA ad c_tape c_taped c_tree c_bonds c_moves c_handMoves c_moved c_days c_likely c_outOf c_rateNow c_pence c_top c_bottom c_spot c_textLong c_fault c_number c_numberAt c_figures c_written c_wanted c_found c_drawnNow c_worth c_hold c_way c_acts c_sDay c_sUps c_sUp c_sMarks c_paidAll c_isPlayed c_isOn c_handMoved c_handPaid c_regret c_aside c_other c_states c_kept c_keptLong c_keptAt c_isTaking) sz)) 0 0 (va_A (mW dA ad c_tape c_taped c_tree c_bonds c_moves c_handMoves c_moved c_days c_likely c_outOf c_rateNow c_pence c_top c_bottom c_spot c_textLong c_fault c_number c_numberAt c_figures c_written c_wanted c_found c_drawnNow c_worth c_hold c_way c_acts c_sDay c_sUps c_sUp c_sMarks c_paidAll c_isPlayed c_isOn c_handMoved c_handPaid c_regret c_aside c_other c_states c_kept c_keptLong c_keptAt c_isTaking) sz) := by
  refine Met.ofW (cc := cX9_does) (maxL := 4) (ret := (some .long)) (by decide) rfl ?_
  intro p e s m args below meth c s₁ B hml hv
  obtain ⟨rfl, hsz, hP, hK, hD0⟩ := hv
  have hx := B.exec
  have hb := B.bytes
  have hr := B.returns
  have hts := atoms_spec (ws := wq (Cond.code yX9_does cX9_does 4 (some .long))) B.pre
  have hown : s.vm.findClass RX9 = some m.cls := findClass_of_methodNamed B.named
  have hlocks := B.notSynchronized
  clear B
  subst hsz
  have hD := hD0.self (sz := s.heap.size)
  generalize hAe : va_A (mW dA ad c_tape c_taped c_tree c_bonds c_moves c_handMoves c_moved c_days c_likely c_outOf c_rateNow c_pence c_top c_bottom c_spot c_textLong c_fault c_number c_numberAt c_figures c_written c_wanted c_found c_drawnNow c_worth c_hold c_way c_acts c_sDay c_sUps c_sUp c_sMarks c_paidAll c_isPlayed c_isOn c_handMoved c_handPaid c_regret c_aside c_other c_states c_kept c_keptLong c_keptAt c_isTaking) s.heap.size = A at hD ⊢
  have hA : ∀ q : Nat, s.heap.size ≤ q → A q := fun q h => by rw [← hAe]; exact Or.inr h
  clear hAe hD0
  have hS : va_S A s.heap s.heap [] := va_S.rf
  have hl := lv_entry ([.ref (ad 0), .int p1]) (n := 4) (Nat.le_of_ble_eq_true rfl)
  rw [lg_entry_eq]
  generalize (lg_sl ([.ref (ad 0), .int p1]) ++ List.replicate (4 - (lg_sl ([.ref (ad 0), .int p1])).length) Slot.unset).toArray = ls at hl ⊢
  have hl : lv_has ls 4 [(0, .ref (ad 0)), (1, .int p1)] := hl
  change W p l e rmX9_does s m ([.ref (ad 0), .int p1] : List Value).toArray below meth c s.heap [] 0 0 _ _
  unfold fX9_does at hf
  refine lv_aload_n hx hb dX9_does_0 rfl (lv_at hl 0 rfl) ?_
  refine va_get (D := (dC, dI)) (ci := 9) (v := .int c_isPlayed) (C := RX9) (T := TX9) (N := 45) hx hb hts (fun w h => gw_mem (inX9 w h)) hown hK.1 hP 0 rfl rfl 33 (by decide) (hts _ (gw_mem wfX9_412)) (fun _ h9 => h9) rfl dX9_does_1 ?_
  refine lv_if_eq (tgt := 19) hx hb dX9_does_4 (by decide) (fun k1 => ?_) (fun k1 => ?_)
  · replace hf := ifp k1 hf
    refine lv_ldc2 (v := (-1)) hx hb hown (hts _ (gw_mem wkX9_116)) dX9_does_19 ?_
    cases hf
    exact W.lret hx hb hr (fun t ht _ => gql hP hD hS ht) hS.2.2 dX9_does_22
  · replace hf := ifn k1 hf
    refine lv_iload_n hx hb dX9_does_7 rfl (lv_at hl 1 rfl) ?_
    refine lv_i2l hx hb dX9_does_8 rfl ?_
    refine lv_lconst (v := 0) hx hb dX9_does_9 rfl ?_
    refine lv_ldc2 (v := 3) hx hb hown (hts _ (gw_mem wkX9_142)) dX9_does_10 ?_
    obtain ⟨r2, v3, hf⟩ := bd1_some hf
    refine gci0 (va_runS (As := [.long (Int32.toInt64 p1), .long 0, .long 3]) (rest := []) ⟨hx, hb, hml, hown, hts⟩ (tX9_in l dC dI dA s.heap.size v3) (ccX9_X9_in hts ⟨Nat.le_of_ble_eq_true rfl, Nat.le_of_ble_eq_true rfl⟩) (gPreS0 hK) rfl rfl hl.1 rfl (lv_room (Nat.le_of_ble_eq_true rfl)) dX9_does_13 ⟨Nat.le_of_ble_eq_true rfl, Nat.le_of_ble_eq_true rfl⟩) hP hS hA (fun H locs hP hS => ?_)
    refine lv_if_ne (tgt := 23) hx hb dX9_does_16 (by decide) (fun k4 => ?_) (fun k4 => ?_)
    · replace hf := ifn k4 hf
      refine lv_aload_n hx hb dX9_does_23 rfl (lv_at hl 0 rfl) ?_
      obtain ⟨c_days_5, c_likely_6, c_outOf_7, c_rateNow_8, c_pence_9, c_top_10, c_bottom_11, c_worth_12, c_hold_13, c_acts_14, c_sDay_15, c_sUps_16, c_sUp_17, c_sMarks_18, v19, hf⟩ := bd14_some hf
      refine gcv (va_runV (As := []) (rest := []) ⟨hx, hb, hml, hown, hts⟩ (tX9_standsByHand l dC dI dA ad H.size v19) (ccX9_X9_standsByHand hts ⟨Nat.le_of_ble_eq_true rfl, Nat.le_of_ble_eq_true rfl⟩) (gPreV (ci := 9) (q0 := 0) hP hK hD rfl rfl) rfl rfl hl.1 rfl (lv_room (Nat.le_of_ble_eq_true rfl)) dX9_does_24 ⟨Nat.le_of_ble_eq_true rfl, Nat.le_of_ble_eq_true rfl⟩) hD hS hA (fun H locs hP hD hS => ?_)
      refine lv_aload_n hx hb dX9_does_27 rfl (lv_at hl 0 rfl) ?_
      refine va_get (D := (dC, dI)) (ci := 9) (v := .int c_isOn) (C := RX9) (T := TX9) (N := 45) hx hb hts (fun w h => gw_mem (inX9 w h)) hown hK.1 hP 0 rfl rfl 34 (by decide) (hts _ (gw_mem wfX9_416)) (fun _ h9 => h9) rfl dX9_does_28 ?_
      refine lv_if_eq (tgt := 49) hx hb dX9_does_31 (by decide) (fun k20 => ?_) (fun k20 => ?_)
      · replace hf := ifp k20 hf
        refine lv_ldc2 (v := (-2)) hx hb hown (hts _ (gw_mem wkX9_343)) dX9_does_49 ?_
        cases hf
        exact W.lret hx hb hr (fun t ht _ => gql hP hD hS ht) hS.2.2 dX9_does_52
      · replace hf := ifn k20 hf
        refine lv_iload_n hx hb dX9_does_34 rfl (lv_at hl 1 rfl) ?_
        refine lv_if_ne (tgt := 53) hx hb dX9_does_35 (by decide) (fun k21 => ?_) (fun k21 => ?_)
        · replace hf := ifn k21 hf
          refine lv_aload_n hx hb dX9_does_53 rfl (lv_at hl 0 rfl) ?_
          refine lv_iconst (v := 4) hx hb dX9_does_54 (by decide) ?_
          refine lv_iload_n hx hb dX9_does_55 rfl (lv_at hl 1 rfl) ?_
          obtain ⟨r22, v23, hf⟩ := bd1_some hf
          refine gcl (va_runV (As := [.int 4, .int p1]) (rest := []) ⟨hx, hb, hml, hown, hts⟩ (tX9_givesBy l dC dI dA ad H.size v23) (ccX9_X9_givesBy hts ⟨Nat.le_of_ble_eq_true rfl, Nat.le_of_ble_eq_true rfl⟩) (gPreV (ci := 9) (q0 := 0) hP hK hD rfl rfl) rfl rfl hl.1 rfl (lv_room (Nat.le_of_ble_eq_true rfl)) dX9_does_56 ⟨Nat.le_of_ble_eq_true rfl, Nat.le_of_ble_eq_true rfl⟩) hD hS hA (fun H locs hP hD hS => ?_)
          refine lv_lstore_n (lv' := [(2, .long r22), (0, .ref (ad 0)), (1, .int p1)]) hx hb dX9_does_59 rfl hl (by decide) rfl (fun ls hl => ?_)
          refine lv_lload_n hx hb dX9_does_60 rfl (lv_at hl 0 rfl) ?_
          refine lv_lconst (v := 0) hx hb dX9_does_61 rfl ?_
          refine W.lcmp hx hb dX9_does_62 ?_
          refine lv_if_ge (tgt := 70) hx hb dX9_does_63 (by decide) (fun k24 => ?_) (fun k24 => ?_)
          · replace hf := ifp (lc_ge.mp k24) hf
            refine lv_aload_n hx hb dX9_does_70 rfl (lv_at hl 1 rfl) ?_
            refine lv_iload_n hx hb dX9_does_71 rfl (lv_at hl 2 rfl) ?_
            obtain ⟨c_regret_25, v26, hf⟩ := bd1_some hf
            refine gcv (va_runV (As := [.int p1]) (rest := []) ⟨hx, hb, hml, hown, hts⟩ (tX9_regrets l dC dI dA ad H.size v26) (ccX9_X9_regrets hts ⟨Nat.le_of_ble_eq_true rfl, Nat.le_of_ble_eq_true rfl⟩) (gPreV (ci := 9) (q0 := 0) hP hK hD rfl rfl) rfl rfl hl.1 rfl (lv_room (Nat.le_of_ble_eq_true rfl)) dX9_does_72 ⟨Nat.le_of_ble_eq_true rfl, Nat.le_of_ble_eq_true rfl⟩) hD hS hA (fun H locs hP hD hS => ?_)
            refine lv_aload_n hx hb dX9_does_75 rfl (lv_at hl 1 rfl) ?_
            refine lv_aload_n hx hb dX9_does_76 rfl (lv_at hl 1 rfl) ?_
            refine va_get (D := (dC, dI)) (ci := 9) (v := .long c_handPaid) (C := RX9) (T := TX9) (N := 45) hx hb hts (fun w h => gw_mem (inX9 w h)) hown hK.1 hP 0 rfl rfl 36 (by decide) (hts _ (gw_mem wfX9_419)) (fun _ h9 => h9) rfl dX9_does_77 ?_
            refine lv_lload_n hx hb dX9_does_80 rfl (lv_at hl 0 rfl) ?_
            refine lv_ladd hx hb dX9_does_81 ?_
            refine lv_aload_n hx hb dX9_does_82 rfl (lv_at hl 1 rfl) ?_
            refine lv_iconst (v := 4) hx hb dX9_does_83 (by decide) ?_
            refine lv_aload_n hx hb dX9_does_84 rfl (lv_at hl 1 rfl) ?_
            refine va_get (D := (dC, dI)) (ci := 9) (v := .int c_sDay_15) (C := RX9) (T := TX9) (N := 45) hx hb hts (fun w h => gw_mem (inX9 w h)) hown hK.1 hP 0 rfl rfl 28 (by decide) (hts _ (gw_mem wfX9_316)) (fun _ h9 => h9) rfl dX9_does_85 ?_
            obtain ⟨r27, v28, hf⟩ := bd1_some hf
            refine gci (va_runV (As := [.int 4, .int c_sDay_15]) (rest := [.long (c_handPaid + r22), .ref (ad 0)]) ⟨hx, hb, hml, hown, hts⟩ (tX9_couponOf l dC dI dA ad H.size v28) (ccX9_X9_couponOf hts ⟨Nat.le_of_ble_eq_true rfl, Nat.le_of_ble_eq_true rfl⟩) (gPreV (ci := 9) (q0 := 0) hP hK hD rfl rfl) rfl rfl hl.1 rfl (lv_room (Nat.le_of_ble_eq_true rfl)) dX9_does_88 ⟨Nat.le_of_ble_eq_true rfl, Nat.le_of_ble_eq_true rfl⟩) hD hS hA (fun H locs hP hD hS => ?_)
            refine lv_i2l hx hb dX9_does_91 rfl ?_
            refine lv_lsub hx hb dX9_does_92 ?_
            refine lv_topl (fun w29 ew29 => ?_)
            replace hf := nm_at hf ew29
            refine va_put (D := (dC, dI)) (ci := 9) (v := .long w29) (ty := .long) (C := RX9) (T := TX9) (N := 45) hx hb hts (fun w h => gw_mem (inX9 w h)) tyX9 tyX9_ok nmX9 hown hK.1 hP hD hS 0 rfl rfl 36 (by decide) (hts _ (gw_mem wfX9_419)) (fun _ h9 => h9) rfl (by decide +kernel) rfl rfl (Nat.le_of_ble_eq_true rfl) dX9_does_93 (fun H locs hP hD hS => ?_)
            have hP : va_P (dC, dI) vwCl (mW dA ad c_tape c_taped c_tree c_bonds c_moves c_handMoves c_moved c_days_5 c_likely_6 c_outOf_7 c_rateNow_8 c_pence_9 c_top_10 c_bottom_11 c_spot c_textLong c_fault c_number c_numberAt c_figures c_written c_wanted c_found c_drawnNow c_worth_12 c_hold_13 c_way c_acts_14 c_sDay_15 c_sUps_16 c_sUp_17 c_sMarks_18 c_paidAll c_isPlayed c_isOn c_handMoved w29 c_regret_25 c_aside c_other c_states c_kept c_keptLong c_keptAt c_isTaking) H := hP
            have hD : va_D A (mW dA ad c_tape c_taped c_tree c_bonds c_moves c_handMoves c_moved c_days_5 c_likely_6 c_outOf_7 c_rateNow_8 c_pence_9 c_top_10 c_bottom_11 c_spot c_textLong c_fault c_number c_numberAt c_figures c_written c_wanted c_found c_drawnNow c_worth_12 c_hold_13 c_way c_acts_14 c_sDay_15 c_sUps_16 c_sUp_17 c_sMarks_18 c_paidAll c_isPlayed c_isOn c_handMoved w29 c_regret_25 c_aside c_other c_states c_kept c_keptLong c_keptAt c_isTaking) := hD
            refine lv_aload_n hx hb dX9_does_96 rfl (lv_at hl 1 rfl) ?_
            refine lv_iconst (v := 0) hx hb dX9_does_97 (by decide) ?_
            refine va_put (D := (dC, dI)) (ci := 9) (v := .int 0) (ty := .boolean) (C := RX9) (T := TX9) (N := 45) hx hb hts (fun w h => gw_mem (inX9 w h)) tyX9 tyX9_ok nmX9 hown hK.1 hP hD hS 0 rfl rfl 34 (by decide) (hts _ (gw_mem wfX9_416)) (fun _ h9 => h9) rfl (by decide +kernel) rfl rfl (Nat.le_of_ble_eq_true rfl) dX9_does_98 (fun H locs hP hD hS => ?_)
            have hP : va_P (dC, dI) vwCl (mW dA ad c_tape c_taped c_tree c_bonds c_moves c_handMoves c_moved c_days_5 c_likely_6 c_outOf_7 c_rateNow_8 c_pence_9 c_top_10 c_bottom_11 c_spot c_textLong c_fault c_number c_numberAt c_figures c_written c_wanted c_found c_drawnNow c_worth_12 c_hold_13 c_way c_acts_14 c_sDay_15 c_sUps_16 c_sUp_17 c_sMarks_18 c_paidAll c_isPlayed 0 c_handMoved w29 c_regret_25 c_aside c_other c_states c_kept c_keptLong c_keptAt c_isTaking) H := hP
            have hD : va_D A (mW dA ad c_tape c_taped c_tree c_bonds c_moves c_handMoves c_moved c_days_5 c_likely_6 c_outOf_7 c_rateNow_8 c_pence_9 c_top_10 c_bottom_11 c_spot c_textLong c_fault c_number c_numberAt c_figures c_written c_wanted c_found c_drawnNow c_worth_12 c_hold_13 c_way c_acts_14 c_sDay_15 c_sUps_16 c_sUp_17 c_sMarks_18 c_paidAll c_isPlayed 0 c_handMoved w29 c_regret_25 c_aside c_other c_states c_kept c_keptLong c_keptAt c_isTaking) := hD
            refine lv_aload_n hx hb dX9_does_101 rfl (lv_at hl 1 rfl) ?_
            refine va_get (D := (dC, dI)) (ci := 9) (v := .long w29) (C := RX9) (T := TX9) (N := 45) hx hb hts (fun w h => gw_mem (inX9 w h)) hown hK.1 hP 0 rfl rfl 36 (by decide) (hts _ (gw_mem wfX9_419)) (fun _ h9 => h9) rfl dX9_does_102 ?_
            cases hf
            exact W.lret hx hb hr (fun t ht _ => gql hP hD hS ht) hS.2.2 dX9_does_105
          · replace hf := ifn (fun h => k24 (lc_ge.mpr h)) hf
            refine lv_ldc2 (v := (-3)) hx hb hown (hts _ (gw_mem wkX9_386)) dX9_does_66 ?_
            cases hf
            exact W.lret hx hb hr (fun t ht _ => gql hP hD hS ht) hS.2.2 dX9_does_69
        · replace hf := ifp k21 hf
          refine lv_aload_n hx hb dX9_does_38 rfl (lv_at hl 0 rfl) ?_
          refine va_get (D := (dC, dI)) (ci := 9) (v := .int c_sDay_15) (C := RX9) (T := TX9) (N := 45) hx hb hts (fun w h => gw_mem (inX9 w h)) hown hK.1 hP 0 rfl rfl 28 (by decide) (hts _ (gw_mem wfX9_316)) (fun _ h9 => h9) rfl dX9_does_39 ?_
          refine lv_aload_n hx hb dX9_does_42 rfl (lv_at hl 0 rfl) ?_
          refine va_get (D := (dC, dI)) (ci := 9) (v := .int c_days_5) (C := RX9) (T := TX9) (N := 45) hx hb hts (fun w h => gw_mem (inX9 w h)) hown hK.1 hP 0 rfl rfl 7 (by decide) (hts _ (gw_mem wfX9_94)) (fun _ h9 => h9) rfl dX9_does_43 ?_
          refine lv_icmp_ge (tgt := 53) hx hb dX9_does_46 (by decide) (fun k30 => ?_) (fun k30 => ?_)
          · replace hf := ifp k30 hf
            refine lv_aload_n hx hb dX9_does_53 rfl (lv_at hl 0 rfl) ?_
            refine lv_iconst (v := 4) hx hb dX9_does_54 (by decide) ?_
            refine lv_iload_n hx hb dX9_does_55 rfl (lv_at hl 1 rfl) ?_
            obtain ⟨r31, v32, hf⟩ := bd1_some hf
            refine gcl (va_runV (As := [.int 4, .int p1]) (rest := []) ⟨hx, hb, hml, hown, hts⟩ (tX9_givesBy l dC dI dA ad H.size v32) (ccX9_X9_givesBy hts ⟨Nat.le_of_ble_eq_true rfl, Nat.le_of_ble_eq_true rfl⟩) (gPreV (ci := 9) (q0 := 0) hP hK hD rfl rfl) rfl rfl hl.1 rfl (lv_room (Nat.le_of_ble_eq_true rfl)) dX9_does_56 ⟨Nat.le_of_ble_eq_true rfl, Nat.le_of_ble_eq_true rfl⟩) hD hS hA (fun H locs hP hD hS => ?_)
            refine lv_lstore_n (lv' := [(2, .long r31), (0, .ref (ad 0)), (1, .int p1)]) hx hb dX9_does_59 rfl hl (by decide) rfl (fun ls hl => ?_)
            refine lv_lload_n hx hb dX9_does_60 rfl (lv_at hl 0 rfl) ?_
            refine lv_lconst (v := 0) hx hb dX9_does_61 rfl ?_
            refine W.lcmp hx hb dX9_does_62 ?_
            refine lv_if_ge (tgt := 70) hx hb dX9_does_63 (by decide) (fun k33 => ?_) (fun k33 => ?_)
            · replace hf := ifp (lc_ge.mp k33) hf
              refine lv_aload_n hx hb dX9_does_70 rfl (lv_at hl 1 rfl) ?_
              refine lv_iload_n hx hb dX9_does_71 rfl (lv_at hl 2 rfl) ?_
              obtain ⟨c_regret_34, v35, hf⟩ := bd1_some hf
              refine gcv (va_runV (As := [.int p1]) (rest := []) ⟨hx, hb, hml, hown, hts⟩ (tX9_regrets l dC dI dA ad H.size v35) (ccX9_X9_regrets hts ⟨Nat.le_of_ble_eq_true rfl, Nat.le_of_ble_eq_true rfl⟩) (gPreV (ci := 9) (q0 := 0) hP hK hD rfl rfl) rfl rfl hl.1 rfl (lv_room (Nat.le_of_ble_eq_true rfl)) dX9_does_72 ⟨Nat.le_of_ble_eq_true rfl, Nat.le_of_ble_eq_true rfl⟩) hD hS hA (fun H locs hP hD hS => ?_)
              refine lv_aload_n hx hb dX9_does_75 rfl (lv_at hl 1 rfl) ?_
              refine lv_aload_n hx hb dX9_does_76 rfl (lv_at hl 1 rfl) ?_
              refine va_get (D := (dC, dI)) (ci := 9) (v := .long c_handPaid) (C := RX9) (T := TX9) (N := 45) hx hb hts (fun w h => gw_mem (inX9 w h)) hown hK.1 hP 0 rfl rfl 36 (by decide) (hts _ (gw_mem wfX9_419)) (fun _ h9 => h9) rfl dX9_does_77 ?_
              refine lv_lload_n hx hb dX9_does_80 rfl (lv_at hl 0 rfl) ?_
              refine lv_ladd hx hb dX9_does_81 ?_
              refine lv_aload_n hx hb dX9_does_82 rfl (lv_at hl 1 rfl) ?_
              refine lv_iconst (v := 4) hx hb dX9_does_83 (by decide) ?_
              refine lv_aload_n hx hb dX9_does_84 rfl (lv_at hl 1 rfl) ?_
              refine va_get (D := (dC, dI)) (ci := 9) (v := .int c_sDay_15) (C := RX9) (T := TX9) (N := 45) hx hb hts (fun w h => gw_mem (inX9 w h)) hown hK.1 hP 0 rfl rfl 28 (by decide) (hts _ (gw_mem wfX9_316)) (fun _ h9 => h9) rfl dX9_does_85 ?_
              obtain ⟨r36, v37, hf⟩ := bd1_some hf
              refine gci (va_runV (As := [.int 4, .int c_sDay_15]) (rest := [.long (c_handPaid + r31), .ref (ad 0)]) ⟨hx, hb, hml, hown, hts⟩ (tX9_couponOf l dC dI dA ad H.size v37) (ccX9_X9_couponOf hts ⟨Nat.le_of_ble_eq_true rfl, Nat.le_of_ble_eq_true rfl⟩) (gPreV (ci := 9) (q0 := 0) hP hK hD rfl rfl) rfl rfl hl.1 rfl (lv_room (Nat.le_of_ble_eq_true rfl)) dX9_does_88 ⟨Nat.le_of_ble_eq_true rfl, Nat.le_of_ble_eq_true rfl⟩) hD hS hA (fun H locs hP hD hS => ?_)
              refine lv_i2l hx hb dX9_does_91 rfl ?_
              refine lv_lsub hx hb dX9_does_92 ?_
              refine lv_topl (fun w38 ew38 => ?_)
              replace hf := nm_at hf ew38
              refine va_put (D := (dC, dI)) (ci := 9) (v := .long w38) (ty := .long) (C := RX9) (T := TX9) (N := 45) hx hb hts (fun w h => gw_mem (inX9 w h)) tyX9 tyX9_ok nmX9 hown hK.1 hP hD hS 0 rfl rfl 36 (by decide) (hts _ (gw_mem wfX9_419)) (fun _ h9 => h9) rfl (by decide +kernel) rfl rfl (Nat.le_of_ble_eq_true rfl) dX9_does_93 (fun H locs hP hD hS => ?_)
              have hP : va_P (dC, dI) vwCl (mW dA ad c_tape c_taped c_tree c_bonds c_moves c_handMoves c_moved c_days_5 c_likely_6 c_outOf_7 c_rateNow_8 c_pence_9 c_top_10 c_bottom_11 c_spot c_textLong c_fault c_number c_numberAt c_figures c_written c_wanted c_found c_drawnNow c_worth_12 c_hold_13 c_way c_acts_14 c_sDay_15 c_sUps_16 c_sUp_17 c_sMarks_18 c_paidAll c_isPlayed c_isOn c_handMoved w38 c_regret_34 c_aside c_other c_states c_kept c_keptLong c_keptAt c_isTaking) H := hP
              have hD : va_D A (mW dA ad c_tape c_taped c_tree c_bonds c_moves c_handMoves c_moved c_days_5 c_likely_6 c_outOf_7 c_rateNow_8 c_pence_9 c_top_10 c_bottom_11 c_spot c_textLong c_fault c_number c_numberAt c_figures c_written c_wanted c_found c_drawnNow c_worth_12 c_hold_13 c_way c_acts_14 c_sDay_15 c_sUps_16 c_sUp_17 c_sMarks_18 c_paidAll c_isPlayed c_isOn c_handMoved w38 c_regret_34 c_aside c_other c_states c_kept c_keptLong c_keptAt c_isTaking) := hD
              refine lv_aload_n hx hb dX9_does_96 rfl (lv_at hl 1 rfl) ?_
              refine lv_iconst (v := 0) hx hb dX9_does_97 (by decide) ?_
              refine va_put (D := (dC, dI)) (ci := 9) (v := .int 0) (ty := .boolean) (C := RX9) (T := TX9) (N := 45) hx hb hts (fun w h => gw_mem (inX9 w h)) tyX9 tyX9_ok nmX9 hown hK.1 hP hD hS 0 rfl rfl 34 (by decide) (hts _ (gw_mem wfX9_416)) (fun _ h9 => h9) rfl (by decide +kernel) rfl rfl (Nat.le_of_ble_eq_true rfl) dX9_does_98 (fun H locs hP hD hS => ?_)
              have hP : va_P (dC, dI) vwCl (mW dA ad c_tape c_taped c_tree c_bonds c_moves c_handMoves c_moved c_days_5 c_likely_6 c_outOf_7 c_rateNow_8 c_pence_9 c_top_10 c_bottom_11 c_spot c_textLong c_fault c_number c_numberAt c_figures c_written c_wanted c_found c_drawnNow c_worth_12 c_hold_13 c_way c_acts_14 c_sDay_15 c_sUps_16 c_sUp_17 c_sMarks_18 c_paidAll c_isPlayed 0 c_handMoved w38 c_regret_34 c_aside c_other c_states c_kept c_keptLong c_keptAt c_isTaking) H := hP
              have hD : va_D A (mW dA ad c_tape c_taped c_tree c_bonds c_moves c_handMoves c_moved c_days_5 c_likely_6 c_outOf_7 c_rateNow_8 c_pence_9 c_top_10 c_bottom_11 c_spot c_textLong c_fault c_number c_numberAt c_figures c_written c_wanted c_found c_drawnNow c_worth_12 c_hold_13 c_way c_acts_14 c_sDay_15 c_sUps_16 c_sUp_17 c_sMarks_18 c_paidAll c_isPlayed 0 c_handMoved w38 c_regret_34 c_aside c_other c_states c_kept c_keptLong c_keptAt c_isTaking) := hD
              refine lv_aload_n hx hb dX9_does_101 rfl (lv_at hl 1 rfl) ?_
              refine va_get (D := (dC, dI)) (ci := 9) (v := .long w38) (C := RX9) (T := TX9) (N := 45) hx hb hts (fun w h => gw_mem (inX9 w h)) hown hK.1 hP 0 rfl rfl 36 (by decide) (hts _ (gw_mem wfX9_419)) (fun _ h9 => h9) rfl dX9_does_102 ?_
              cases hf
              exact W.lret hx hb hr (fun t ht _ => gql hP hD hS ht) hS.2.2 dX9_does_105
            · replace hf := ifn (fun h => k33 (lc_ge.mpr h)) hf
              refine lv_ldc2 (v := (-3)) hx hb hown (hts _ (gw_mem wkX9_386)) dX9_does_66 ?_
              cases hf
              exact W.lret hx hb hr (fun t ht _ => gql hP hD hS ht) hS.2.2 dX9_does_69
          · replace hf := ifn k30 hf
            refine lv_ldc2 (v := (-2)) hx hb hown (hts _ (gw_mem wkX9_343)) dX9_does_49 ?_
            cases hf
            exact W.lret hx hb hr (fun t ht _ => gql hP hD hS ht) hS.2.2 dX9_does_52
    · replace hf := ifp k4 hf
      refine lv_ldc2 (v := (-1)) hx hb hown (hts _ (gw_mem wkX9_116)) dX9_does_19 ?_
      cases hf
      exact W.lret hx hb hr (fun t ht _ => gql hP hD hS ht) hS.2.2 dX9_does_22
