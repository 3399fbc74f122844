def lpX9_days_31 (x2 : Int32) (c_way : Nat → Int64) (c_acts : Nat → Int32) : Nat → Int32 → Int32 → Option (Int32)
  | 0, _, _ => none
  | n + 1, x3, x4 => if 784 ≤ x4 then some (x3) else og (okI x4 784) (if (c_way (Int32.toNatClampNeg x4)) ≤ 0 then nm (x4 + 1) (fun w24 => lpX9_days_31 x2 c_way c_acts n x3 w24) else og (okI x4 784) (if (c_acts (Int32.toNatClampNeg x4)) = x2 then bd1 (fX9_dayOf x4) (fun r28 => nm (x3 ||| (1 <<< (r28 &&& 31))) (fun w30 => nm (x4 + 1) (fun w31 => lpX9_days_31 x2 c_way c_acts n w30 w31))) else nm (x4 + 1) (fun w27 => lpX9_days_31 x2 c_way c_acts n x3 w27)))
def fX9_days (p1 : Int32) (p2 : Int32) (c_tree : Nat → Int32) (c_bonds : Nat → Int32) (c_days : Int32) (c_likely : Int32) (c_outOf : Int32) (c_rateNow : Int32) (c_pence : Nat → Int64) (c_top : Int64) (c_bottom : Int64) (c_worth : Nat → Int64) (c_hold : Nat → Int64) (c_way : Nat → Int64) (c_acts : Nat → Int32) : Option (Int32 × Int32 × Int32 × Int32 × Int32 × (Nat → Int64) × Int64 × Int64 × (Nat → Int64) × (Nat → Int64) × (Nat → Int64) × (Nat → Int32)) := bd1 (fX9_isBond p1) (fun r1 => if r1 = 0 then some ((-1), c_days, c_likely, c_outOf, c_rateNow, c_pence, c_top, c_bottom, c_worth, c_hold, c_way, c_acts) else bd1 (fX9_in (Int32.toInt64 p2) 0 6) (fun r4 => if r4 = 0 then some ((-1), c_days, c_likely, c_outOf, c_rateNow, c_pence, c_top, c_bottom, c_worth, c_hold, c_way, c_acts) else bd11 (fX9_laysAll p1 c_tree c_bonds c_days c_likely c_outOf c_rateNow c_pence c_top c_bottom c_worth c_hold c_way c_acts) (fun c_days_7 c_likely_8 c_outOf_9 c_rateNow_10 c_pence_11 c_top_12 c_bottom_13 c_worth_14 c_hold_15 c_way_16 c_acts_17 => bd1 (lpX9_days_31 p2 c_way_16 c_acts_17 FU 0 0) (fun x19 => some (x19, c_days_7, c_likely_8, c_outOf_9, c_rateNow_10, c_pence_11, c_top_12, c_bottom_13, c_worth_14, c_hold_15, c_way_16, c_acts_17)))))
abbrev rmX9_days : Room := { frames := 8, cells := 0, slots := 0, locals := 205 }
set_option maxHeartbeats 4000000 in
set_option maxRecDepth 100000 in
theorem tX9_days (l : Launch) (dC : Nat → ClassId) (dI : Nat → Nat → Nat) (dA : Nat → ClassId) (ad : Nat → Nat) (sz : Nat) {p1 : Int32} {p2 : Int32} {c_tape : Nat → Int32} {c_taped : Int32} {c_tree : Nat → Int32} {c_bonds : Nat → Int32} {c_moves : Nat → Int32} {c_handMoves : Nat → Int32} {c_moved : Int32} {c_days : Int32} {c_likely : Int32} {c_outOf : Int32} {c_rateNow : Int32} {c_pence : Nat → Int64} {c_top : Int64} {c_bottom : Int64} {c_spot : Int32} {c_textLong : Int32} {c_fault : Int32} {c_number : Int32} {c_numberAt : Int32} {c_figures : Int32} {c_written : Int32} {c_wanted : Int32} {c_found : Int32} {c_drawnNow : Int32} {c_worth : Nat → Int64} {c_hold : Nat → Int64} {c_way : Nat → Int64} {c_acts : Nat → Int32} {c_sDay : Int32} {c_sUps : Int32} {c_sUp : Int32} {c_sMarks : Int32} {c_paidAll : Int64} {c_isPlayed : Int32} {c_isOn : Int32} {c_handMoved : Int32} {c_handPaid : Int64} {c_regret : Int64} {c_aside : Nat → Int32} {c_other : Nat → Int64} {c_states : Int32} {c_kept : Nat → Int32} {c_keptLong : Nat → Int64} {c_keptAt : Int32} {c_isTaking : Int32} {r : Int32} {o_c_days : Int32} {o_c_likely : Int32} {o_c_outOf : Int32} {o_c_rateNow : Int32} {o_c_pence : Nat → Int64} {o_c_top : Int64} {o_c_bottom : Int64} {o_c_worth : Nat → Int64} {o_c_hold : Nat → Int64} {o_c_way : Nat → Int64} {o_c_acts : Nat → Int32} (hf : fX9_days p1 p2 c_tree c_bonds c_days c_likely c_outOf c_rateNow c_pence c_top c_bottom c_worth c_hold c_way c_acts = some (r, o_c_days, o_c_likely, o_c_outOf, o_c_rateNow, o_c_pence, o_c_top, o_c_bottom, o_c_worth, o_c_hold, o_c_way, o_c_acts)) : Met l yX9_days (wq (Cond.code yX9_days cX9_days 5 (some .int))) rmX9_days (gP [.ref (ad 0), .int p1, .int p2] (dC, dI) dA (mW dA ad c_tape c_taped c_tree c_bonds c_moves c_handMoves c_moved c_days c_likely c_outOf c_rateNow c_pence c_top c_bottom c_spot c_textLong c_fault c_number c_numberAt c_figures c_written c_wanted c_found c_drawnNow c_worth c_hold c_way c_acts c_sDay c_sUps c_sUp c_sMarks c_paidAll c_isPlayed c_isOn c_handMoved c_handPaid c_regret c_aside c_other c_states c_kept c_keptLong c_keptAt c_isTaking) sz) (gQi (dC, dI) r (mW dA ad c_tape c_taped c_tree c_bonds c_moves c_handMoves c_moved o_c_days o_c_likely o_c_outOf o_c_rateNow o_c_pence o_c_top o_c_bottom c_spot c_textLong c_fault c_number c_numberAt c_figures c_written c_wanted c_found c_drawnNow o_c_worth o_c_hold o_c_way o_c_acts c_sDay c_sUps c_sUp c_sMarks c_paidAll c_isPlayed c_isOn c_handMoved c_handPaid c_regret c_aside c_other c_states c_kept c_keptLong c_keptAt c_isTaking) (va_A (mW dA ad c_tape c_taped c_tree c_bonds c_moves c_handMoves c_moved c_days c_likely c_outOf c_rateNow c_pence c_top c_bottom c_spot c_textLong c_fault c_number c_numberAt c_figures c_written c_wanted c_found c_drawnNow c_worth c_hold c_way c_acts c_sDay c_sUps c_sUp c_sMarks c_paidAll c_isPlayed c_isOn c_handMoved c_handPaid c_regret c_aside c_other c_states c_kept c_keptLong c_keptAt c_isTaking) sz)) 0 0 (va_A (mW dA ad c_tape c_taped c_tree c_bonds c_moves c_handMoves c_moved c_days c_likely c_outOf c_rateNow c_pence c_top c_bottom c_spot c_textLong c_fault c_number c_numberAt c_figures c_written c_wanted c_found c_drawnNow c_worth c_hold c_way c_acts c_sDay c_sUps c_sUp c_sMarks c_paidAll c_isPlayed c_isOn c_handMoved c_handPaid c_regret c_aside c_other c_states c_kept c_keptLong c_keptAt c_isTaking) sz) := by
  refine Met.ofW (cc := cX9_days) (maxL := 5) (ret := (some .int)) (by decide) rfl ?_
  intro p e s m args below meth c s₁ B hml hv
  obtain ⟨rfl, hsz, hP, hK, hD0⟩ := hv
  have hx := B.exec
  have hb := B.bytes
  have hr := B.returns
  have hts := atoms_spec (ws := wq (Cond.code yX9_days cX9_days 5 (some .int))) B.pre
  have hown : s.vm.findClass RX9 = some m.cls := findClass_of_methodNamed B.named
  have hlocks := B.notSynchronized
  clear B
  subst hsz
  have hD := hD0.self (sz := s.heap.size)
  generalize hAe : va_A (mW dA ad c_tape c_taped c_tree c_bonds c_moves c_handMoves c_moved c_days c_likely c_outOf c_rateNow c_pence c_top c_bottom c_spot c_textLong c_fault c_number c_numberAt c_figures c_written c_wanted c_found c_drawnNow c_worth c_hold c_way c_acts c_sDay c_sUps c_sUp c_sMarks c_paidAll c_isPlayed c_isOn c_handMoved c_handPaid c_regret c_aside c_other c_states c_kept c_keptLong c_keptAt c_isTaking) s.heap.size = A at hD ⊢
  have hA : ∀ q : Nat, s.heap.size ≤ q → A q := fun q h => by rw [← hAe]; exact Or.inr h
  clear hAe hD0
  have hS : va_S A s.heap s.heap [] := va_S.rf
  have hl := lv_entry ([.ref (ad 0), .int p1, .int p2]) (n := 5) (Nat.le_of_ble_eq_true rfl)
  rw [lg_entry_eq]
  generalize (lg_sl ([.ref (ad 0), .int p1, .int p2]) ++ List.replicate (5 - (lg_sl ([.ref (ad 0), .int p1, .int p2])).length) Slot.unset).toArray = ls at hl ⊢
  have hl : lv_has ls 5 [(0, .ref (ad 0)), (1, .int p1), (2, .int p2)] := hl
  change W p l e rmX9_days s m ([.ref (ad 0), .int p1, .int p2] : List Value).toArray below meth c s.heap [] 0 0 _ _
  generalize hQ : MQ below (gQi (dC, dI) r (mW dA ad c_tape c_taped c_tree c_bonds c_moves c_handMoves c_moved o_c_days o_c_likely o_c_outOf o_c_rateNow o_c_pence o_c_top o_c_bottom c_spot c_textLong c_fault c_number c_numberAt c_figures c_written c_wanted c_found c_drawnNow o_c_worth o_c_hold o_c_way o_c_acts c_sDay c_sUps c_sUp c_sMarks c_paidAll c_isPlayed c_isOn c_handMoved c_handPaid c_regret c_aside c_other c_states c_kept c_keptLong c_keptAt c_isTaking) A) ([.ref (ad 0), .int p1, .int p2] : List Value).toArray s 0 0 A = Q
  have LP31 : ∀ (n : Nat) (x2 : Int32) (c_way : Nat → Int64) (c_acts : Nat → Int32) (c_tape : Nat → Int32) (c_taped : Int32) (c_tree : Nat → Int32) (c_bonds : Nat → Int32) (c_moves : Nat → Int32) (c_handMoves : Nat → Int32) (c_moved : Int32) (c_days : Int32) (c_likely : Int32) (c_outOf : Int32) (c_rateNow : Int32) (c_pence : Nat → Int64) (c_top : Int64) (c_bottom : Int64) (c_spot : Int32) (c_textLong : Int32) (c_fault : Int32) (c_number : Int32) (c_numberAt : Int32) (c_figures : Int32) (c_written : Int32) (c_wanted : Int32) (c_found : Int32) (c_drawnNow : Int32) (c_worth : Nat → Int64) (c_hold : Nat → Int64) (c_sDay : Int32) (c_sUps : Int32) (c_sUp : Int32) (c_sMarks : Int32) (c_paidAll : Int64) (c_isPlayed : Int32) (c_isOn : Int32) (c_handMoved : Int32) (c_handPaid : Int64) (c_regret : Int64) (c_aside : Nat → Int32) (c_other : Nat → Int64) (c_states : Int32) (c_kept : Nat → Int32) (c_keptLong : Nat → Int64) (c_keptAt : Int32) (c_isTaking : Int32) (x3 : Int32) (x4 : Int32) (o3 : Int32) (H : Heap) (locs : List Loc) (ls : Array Slot), va_P (dC, dI) vwCl (mW dA ad c_tape c_taped c_tree c_bonds c_moves c_handMoves c_moved c_days c_likely c_outOf c_rateNow c_pence c_top c_bottom c_spot c_textLong c_fault c_number c_numberAt c_figures c_written c_wanted c_found c_drawnNow c_worth c_hold c_way c_acts c_sDay c_sUps c_sUp c_sMarks c_paidAll c_isPlayed c_isOn c_handMoved c_handPaid c_regret c_aside c_other c_states c_kept c_keptLong c_keptAt c_isTaking) H → va_D A (mW dA ad c_tape c_taped c_tree c_bonds c_moves c_handMoves c_moved c_days c_likely c_outOf c_rateNow c_pence c_top c_bottom c_spot c_textLong c_fault c_number c_numberAt c_figures c_written c_wanted c_found c_drawnNow c_worth c_hold c_way c_acts c_sDay c_sUps c_sUp c_sMarks c_paidAll c_isPlayed c_isOn c_handMoved c_handPaid c_regret c_aside c_other c_states c_kept c_keptLong c_keptAt c_isTaking) → va_S A s.heap H locs → lpX9_days_31 x2 c_way c_acts n x3 x4 = some (o3) → lv_has ls 5 [(0, .ref (ad 0)), (2, .int x2), (3, .int x3), (4, .int x4)] → (∀ (H : Heap) (locs : List Loc) (ls : Array Slot), va_P (dC, dI) vwCl (mW dA ad c_tape c_taped c_tree c_bonds c_moves c_handMoves c_moved c_days c_likely c_outOf c_rateNow c_pence c_top c_bottom c_spot c_textLong c_fault c_number c_numberAt c_figures c_written c_wanted c_found c_drawnNow c_worth c_hold c_way c_acts c_sDay c_sUps c_sUp c_sMarks c_paidAll c_isPlayed c_isOn c_handMoved c_handPaid c_regret c_aside c_other c_states c_kept c_keptLong c_keptAt c_isTaking) H → va_D A (mW dA ad c_tape c_taped c_tree c_bonds c_moves c_handMoves c_moved c_days c_likely c_outOf c_rateNow c_pence c_top c_bottom c_spot c_textLong c_fault c_number c_numberAt c_figures c_written c_wanted c_found c_drawnNow c_worth c_hold c_way c_acts c_sDay c_sUps c_sUp c_sMarks c_paidAll c_isPlayed c_isOn c_handMoved c_handPaid c_regret c_aside c_other c_states c_kept c_keptLong c_keptAt c_isTaking) → va_S A s.heap H locs → lv_has ls 5 [(3, .int o3)] → W p l e rmX9_days s m ([.ref (ad 0), .int p1, .int p2] : List Value).toArray below meth c H locs 0 0 Q (F0 m 78 ls [])) → W p l e rmX9_days s m ([.ref (ad 0), .int p1, .int p2] : List Value).toArray below meth c H locs 0 0 Q (F0 m 31 ls []) := by
    intro n
    induction n with
    | zero =>
      intro x2 c_way c_acts c_tape c_taped c_tree c_bonds c_moves c_handMoves c_moved c_days c_likely c_outOf c_rateNow c_pence c_top c_bottom c_spot c_textLong c_fault c_number c_numberAt c_figures c_written c_wanted c_found c_drawnNow c_worth c_hold c_sDay c_sUps c_sUp c_sMarks c_paidAll c_isPlayed c_isOn c_handMoved c_handPaid c_regret c_aside c_other c_states c_kept c_keptLong c_keptAt c_isTaking x3 x4 o3 H locs ls hP hD hS hf hl hk
      cases hf
    | succ n ih31 =>
      intro x2 c_way c_acts c_tape c_taped c_tree c_bonds c_moves c_handMoves c_moved c_days c_likely c_outOf c_rateNow c_pence c_top c_bottom c_spot c_textLong c_fault c_number c_numberAt c_figures c_written c_wanted c_found c_drawnNow c_worth c_hold c_sDay c_sUps c_sUp c_sMarks c_paidAll c_isPlayed c_isOn c_handMoved c_handPaid c_regret c_aside c_other c_states c_kept c_keptLong c_keptAt c_isTaking x3 x4 o3 H locs ls hP hD hS hf hl hk
      rw [lpX9_days_31.eq_2] at hf
      refine lv_iload hx hb dX9_days_31 (lv_at hl 3 rfl) ?_
      refine lv_sipush (v := 784) hx hb dX9_days_33 (by decide) ?_
      refine lv_icmp_ge (tgt := 78) hx hb dX9_days_36 (by decide) (fun k21 => ?_) (fun k21 => ?_)
      · replace hf := ifp k21 hf
        cases hf
        exact hk _ _ _ hP hD hS (lv_sub hl [2] rfl)
      · replace hf := ifn k21 hf
        refine lv_aload_n hx hb dX9_days_39 rfl (lv_at hl 0 rfl) ?_
        refine va_get (D := (dC, dI)) (ci := 9) (v := .ref (ad 9)) (C := RX9) (T := TX9) (N := 45) hx hb hts (fun w h => gw_mem (inX9 w h)) hown hK.1 hP 0 rfl rfl 26 (by decide) (hts _ (gw_mem wfX9_36)) (fun _ h9 => h9) rfl dX9_days_40 ?_
        refine lv_iload hx hb dX9_days_43 (lv_at hl 3 rfl) ?_
        obtain ⟨h22, hf⟩ := og_some hf
        refine va_lald hx hb hK.1 hP 9 1 rfl rfl (okI_in h22) dX9_days_45 ?_
        refine lv_lconst (v := 0) hx hb dX9_days_46 rfl ?_
        refine W.lcmp hx hb dX9_days_47 ?_
        refine lv_if_le (tgt := 72) hx hb dX9_days_48 (by decide) (fun k23 => ?_) (fun k23 => ?_)
        · replace hf := ifp (lc_le.mp k23) hf
          obtain ⟨w24, ew24⟩ : ∃ y : Int32, y = x4 + 1 := ⟨_, rfl⟩
          replace hf := nm_at hf ew24
          refine lv_iinc (v := w24) (lv' := [(4, .int w24), (0, .ref (ad 0)), (2, .int x2), (3, .int x3)]) hx hb dX9_days_72 hl (k := 3) rfl (by rw [ew24]; rfl) (by decide) rfl (fun ls hl => ?_)
          refine lv_goto (tgt := 31) hx hb dX9_days_75 (by decide) ?_
          exact ih31 _ _ _ _ _ _ _ _ _ _ _ _ _ _ _ _ _ _ _ _ _ _ _ _ _ _ _ _ _ _ _ _ _ _ _ _ _ _ _ _ _ _ _ _ _ _ _ _ _ _ _ _ hP hD hS hf (lv_sub hl [1, 2, 3, 0] rfl) hk
        · replace hf := ifn (fun h => k23 (lc_le.mpr h)) hf
          refine lv_aload_n hx hb dX9_days_51 rfl (lv_at hl 0 rfl) ?_
          refine va_get (D := (dC, dI)) (ci := 9) (v := .ref (ad 10)) (C := RX9) (T := TX9) (N := 45) hx hb hts (fun w h => gw_mem (inX9 w h)) hown hK.1 hP 0 rfl rfl 27 (by decide) (hts _ (gw_mem wfX9_39)) (fun _ h9 => h9) rfl dX9_days_52 ?_
          refine lv_iload hx hb dX9_days_55 (lv_at hl 3 rfl) ?_
          obtain ⟨h25, hf⟩ := og_some hf
          refine va_iald hx hb hK.1 hP 10 0 rfl rfl (okI_in h25) dX9_days_57 ?_
          refine lv_iload_n hx hb dX9_days_58 rfl (lv_at hl 1 rfl) ?_
          refine lv_icmp_ne (tgt := 72) hx hb dX9_days_59 (by decide) (fun k26 => ?_) (fun k26 => ?_)
          · replace hf := ifn k26 hf
            obtain ⟨w27, ew27⟩ : ∃ y : Int32, y = x4 + 1 := ⟨_, rfl⟩
            replace hf := nm_at hf ew27
            refine lv_iinc (v := w27) (lv' := [(4, .int w27), (0, .ref (ad 0)), (2, .int x2), (3, .int x3)]) hx hb dX9_days_72 hl (k := 3) rfl (by rw [ew27]; rfl) (by decide) rfl (fun ls hl => ?_)
            refine lv_goto (tgt := 31) hx hb dX9_days_75 (by decide) ?_
            exact ih31 _ _ _ _ _ _ _ _ _ _ _ _ _ _ _ _ _ _ _ _ _ _ _ _ _ _ _ _ _ _ _ _ _ _ _ _ _ _ _ _ _ _ _ _ _ _ _ _ _ _ _ _ hP hD hS hf (lv_sub hl [1, 2, 3, 0] rfl) hk
          · replace hf := ifp k26 hf
            refine lv_iload_n hx hb dX9_days_62 rfl (lv_at hl 2 rfl) ?_
            refine lv_iconst (v := 1) hx hb dX9_days_63 (by decide) ?_
            refine lv_iload hx hb dX9_days_64 (lv_at hl 3 rfl) ?_
            obtain ⟨r28, v29, hf⟩ := bd1_some hf
            refine gci0 (va_runS (As := [.int x4]) (rest := [.int 1, .int x3]) ⟨hx, hb, hml, hown, hts⟩ (tX9_dayOf l dC dI dA H.size v29) (ccX9_X9_dayOf hts ⟨Nat.le_of_ble_eq_true rfl, Nat.le_of_ble_eq_true rfl⟩) (gPreS0 hK) rfl rfl hl.1 rfl (lv_room (Nat.le_of_ble_eq_true rfl)) dX9_days_66 ⟨Nat.le_of_ble_eq_true rfl, Nat.le_of_ble_eq_true rfl⟩) hP hS hA (fun H locs hP hS => ?_)
            refine lv_ishl hx hb dX9_days_69 ?_
            refine lv_ior hx hb dX9_days_70 ?_
            refine lv_topi (fun w30 ew30 => ?_)
            replace hf := nm_at hf ew30
            refine lv_istore_n (lv' := [(3, .int w30), (0, .ref (ad 0)), (2, .int x2), (4, .int x4)]) hx hb dX9_days_71 rfl hl (by decide) rfl (fun ls hl => ?_)
            obtain ⟨w31, ew31⟩ : ∃ y : Int32, y = x4 + 1 := ⟨_, rfl⟩
            replace hf := nm_at hf ew31
            refine lv_iinc (v := w31) (lv' := [(4, .int w31), (3, .int w30), (0, .ref (ad 0)), (2, .int x2)]) hx hb dX9_days_72 hl (k := 3) rfl (by rw [ew31]; rfl) (by decide) rfl (fun ls hl => ?_)
            refine lv_goto (tgt := 31) hx hb dX9_days_75 (by decide) ?_
            exact ih31 _ _ _ _ _ _ _ _ _ _ _ _ _ _ _ _ _ _ _ _ _ _ _ _ _ _ _ _ _ _ _ _ _ _ _ _ _ _ _ _ _ _ _ _ _ _ _ _ _ _ _ _ hP hD hS hf (lv_sub hl [2, 3, 1, 0] rfl) hk
  subst hQ
  unfold fX9_days at hf
  refine lv_iload_n hx hb dX9_days_0 rfl (lv_at hl 1 rfl) ?_
  obtain ⟨r1, v2, hf⟩ := bd1_some hf
  refine gci0 (va_runS (As := [.int p1]) (rest := []) ⟨hx, hb, hml, hown, hts⟩ (tX9_isBond l dC dI dA s.heap.size v2) (ccX9_X9_isBond hts ⟨Nat.le_of_ble_eq_true rfl, Nat.le_of_ble_eq_true rfl⟩) (gPreS0 hK) rfl rfl hl.1 rfl (lv_room (Nat.le_of_ble_eq_true rfl)) dX9_days_1 ⟨Nat.le_of_ble_eq_true rfl, Nat.le_of_ble_eq_true rfl⟩) hP hS hA (fun H locs hP hS => ?_)
  refine lv_if_eq (tgt := 19) hx hb dX9_days_4 (by decide) (fun k3 => ?_) (fun k3 => ?_)
  · replace hf := ifp k3 hf
    refine lv_iconst (v := (-1)) hx hb dX9_days_19 (by decide) ?_
    cases hf
    exact W.iret hx hb hr (fun t ht _ => gqi hP hD hS ht) hS.2.2 dX9_days_20
  · replace hf := ifn k3 hf
    refine lv_iload_n hx hb dX9_days_7 rfl (lv_at hl 2 rfl) ?_
    refine lv_i2l hx hb dX9_days_8 rfl ?_
    refine lv_lconst (v := 0) hx hb dX9_days_9 rfl ?_
    refine lv_ldc2 (v := 6) hx hb hown (hts _ (gw_mem wkX9_72)) dX9_days_10 ?_
    obtain ⟨r4, v5, hf⟩ := bd1_some hf
    refine gci0 (va_runS (As := [.long (Int32.toInt64 p2), .long 0, .long 6]) (rest := []) ⟨hx, hb, hml, hown, hts⟩ (tX9_in l dC dI dA H.size v5) (ccX9_X9_in hts ⟨Nat.le_of_ble_eq_true rfl, Nat.le_of_ble_eq_true rfl⟩) (gPreS0 hK) rfl rfl hl.1 rfl (lv_room (Nat.le_of_ble_eq_true rfl)) dX9_days_13 ⟨Nat.le_of_ble_eq_true rfl, Nat.le_of_ble_eq_true rfl⟩) hP hS hA (fun H locs hP hS => ?_)
    refine lv_if_ne (tgt := 21) hx hb dX9_days_16 (by decide) (fun k6 => ?_) (fun k6 => ?_)
    · replace hf := ifn k6 hf
      refine lv_aload_n hx hb dX9_days_21 rfl (lv_at hl 0 rfl) ?_
      refine lv_iload_n hx hb dX9_days_22 rfl (lv_at hl 1 rfl) ?_
      obtain ⟨c_days_7, c_likely_8, c_outOf_9, c_rateNow_10, c_pence_11, c_top_12, c_bottom_13, c_worth_14, c_hold_15, c_way_16, c_acts_17, v18, hf⟩ := bd11_some hf
      refine gcv (va_runV (As := [.int p1]) (rest := []) ⟨hx, hb, hml, hown, hts⟩ (tX9_laysAll l dC dI dA ad H.size v18) (ccX9_X9_laysAll hts ⟨Nat.le_of_ble_eq_true rfl, Nat.le_of_ble_eq_true rfl⟩) (gPreV (ci := 9) (q0 := 0) hP hK hD rfl rfl) rfl rfl hl.1 rfl (lv_room (Nat.le_of_ble_eq_true rfl)) dX9_days_23 ⟨Nat.le_of_ble_eq_true rfl, Nat.le_of_ble_eq_true rfl⟩) hD hS hA (fun H locs hP hD hS => ?_)
      refine lv_iconst (v := 0) hx hb dX9_days_26 (by decide) ?_
      refine lv_istore_n (lv' := [(3, .int 0), (0, .ref (ad 0)), (1, .int p1), (2, .int p2)]) hx hb dX9_days_27 rfl hl (by decide) rfl (fun ls hl => ?_)
      refine lv_iconst (v := 0) hx hb dX9_days_28 (by decide) ?_
      refine lv_istore (lv' := [(4, .int 0), (3, .int 0), (0, .ref (ad 0)), (1, .int p1), (2, .int p2)]) hx hb dX9_days_29 hl (by decide) rfl (fun ls hl => ?_)
      obtain ⟨x19, v20, hf⟩ := bd1_some hf
      refine LP31 FU _ _ _ _ _ _ _ _ _ _ _ _ _ _ _ _ _ _ _ _ _ _ _ _ _ _ _ _ _ _ _ _ _ _ _ _ _ _ _ _ _ _ _ _ _ _ _ _ _ _ _ _ hP hD hS v20 (lv_sub hl [2, 4, 1, 0] rfl) (fun H locs ls hP hD hS hl => ?_)
      refine lv_iload_n hx hb dX9_days_78 rfl (lv_at hl 0 rfl) ?_
      cases hf
      exact W.iret hx hb hr (fun t ht _ => gqi hP hD hS ht) hS.2.2 dX9_days_79
    · replace hf := ifp k6 hf
      refine lv_iconst (v := (-1)) hx hb dX9_days_19 (by decide) ?_
      cases hf
      exact W.iret hx hb hr (fun t ht _ => gqi hP hD hS ht) hS.2.2 dX9_days_20
def lpX9_table_74 (x2 : Int32) (x4 : Int32) (x6 : Int32) (x7 : Int32) (c_way : Nat → Int64) : Nat → Int32 → Int32 → Option (Nat × Int32 × Int32 × Int32)
  | 0, _, _ => none
  | n + 1, x5, x8 => if 2 ≤ x8 then some (1, x5, x8, 0) else bd1 (fX9_at x2 x6 x8 x7) (fun r51 => og (okI r51 784) (if (c_way (Int32.toNatClampNeg r51)) = 0 then nm (x8 + 1) (fun w58 => lpX9_table_74 x2 x4 x6 x7 c_way n x5 w58) else if x5 = 0 then some (0, x5, x8, r51) else nm (x5 - 1) (fun w56 => nm (x8 + 1) (fun w57 => lpX9_table_74 x2 x4 x6 x7 c_way n w56 w57))))
def lpX9_table_64 (x2 : Int32) (x4 : Int32) (x6 : Int32) (c_way : Nat → Int64) : Nat → Int32 → Int32 → Option (Nat × Int32 × Int32 × Int32 × Int32)
  | 0, _, _ => none
  | n + 1, x5, x7 => if 8 ≤ x7 then some (1, x5, x7, 0, 0) else bd4 (lpX9_table_74 x2 x4 x6 x7 c_way FU x5 0) (fun tg44 x45 x46 x47 => if tg44 = 0 then some (0, 0, x7, x46, x47) else nm (x7 + 1) (fun w49 => lpX9_table_64 x2 x4 x6 c_way n x45 w49))
def lpX9_table_55 (x2 : Int32) (x4 : Int32) (c_way : Nat → Int64) : Nat → Int32 → Int32 → Option (Nat × Int32 × Int32 × Int32 × Int32)
  | 0, _, _ => none
  | n + 1, x5, x6 => if x2 < x6 then some (1, x6, 0, 0, 0) else bd5 (lpX9_table_64 x2 x4 x6 c_way FU x5 0) (fun tg36 x37 x38 x39 x40 => if tg36 = 0 then some (0, x6, x38, x39, x40) else nm (x6 + 1) (fun w42 => lpX9_table_55 x2 x4 c_way n x37 w42))
def fX9_table (p1 : Int32) (p2 : Int32) (p3 : Int32) (p4 : Int32) (c_tree : Nat → Int32) (c_bonds : Nat → Int32) (c_days : Int32) (c_likely : Int32) (c_outOf : Int32) (c_rateNow : Int32) (c_pence : Nat → Int64) (c_top : Int64) (c_bottom : Int64) (c_worth : Nat → Int64) (c_hold : Nat → Int64) (c_way : Nat → Int64) (c_acts : Nat → Int32) : Option (Int64 × Int32 × Int32 × Int32 × Int32 × (Nat → Int64) × Int64 × Int64 × (Nat → Int64) × (Nat → Int64) × (Nat → Int64) × (Nat → Int32)) := bd1 (fX9_isBond p1) (fun r1 => if r1 = 0 then some ((-1), c_days, c_likely, c_outOf, c_rateNow, c_pence, c_top, c_bottom, c_worth, c_hold, c_way, c_acts) else bd1 (fX9_in (Int32.toInt64 p2) 0 (Int32.toInt64 (c_tree (Int32.toNatClampNeg 0)))) (fun r4 => if r4 = 0 then some ((-1), c_days, c_likely, c_outOf, c_rateNow, c_pence, c_top, c_bottom, c_worth, c_hold, c_way, c_acts) else if p3 < 0 then some ((-1), c_days, c_likely, c_outOf, c_rateNow, c_pence, c_top, c_bottom, c_worth, c_hold, c_way, c_acts) else bd1 (fX9_in (Int32.toInt64 p4) 0 4) (fun r8 => if r8 = 0 then some ((-1), c_days, c_likely, c_outOf, c_rateNow, c_pence, c_top, c_bottom, c_worth, c_hold, c_way, c_acts) else bd11 (fX9_laysAll p1 c_tree c_bonds c_days c_likely c_outOf c_rateNow c_pence c_top c_bottom c_worth c_hold c_way c_acts) (fun c_days_11 c_likely_12 c_outOf_13 c_rateNow_14 c_pence_15 c_top_16 c_bottom_17 c_worth_18 c_hold_19 c_way_20 c_acts_21 => bd5 (lpX9_table_55 p2 p4 c_way_20 FU p3 0) (fun tg23 x24 x25 x26 x27 => if tg23 = 0 then if p4 = 0 then some (Int32.toInt64 x24, c_days_11, c_likely_12, c_outOf_13, c_rateNow_14, c_pence_15, c_top_16, c_bottom_17, c_worth_18, c_hold_19, c_way_20, c_acts_21) else if p4 = 1 then some (Int32.toInt64 x25, c_days_11, c_likely_12, c_outOf_13, c_rateNow_14, c_pence_15, c_top_16, c_bottom_17, c_worth_18, c_hold_19, c_way_20, c_acts_21) else if p4 = 2 then some (Int32.toInt64 x26, c_days_11, c_likely_12, c_outOf_13, c_rateNow_14, c_pence_15, c_top_16, c_bottom_17, c_worth_18, c_hold_19, c_way_20, c_acts_21) else if p4 = 3 then og (okI x27 784) (some (c_worth_18 (Int32.toNatClampNeg x27), c_days_11, c_likely_12, c_outOf_13, c_rateNow_14, c_pence_15, c_top_16, c_bottom_17, c_worth_18, c_hold_19, c_way_20, c_acts_21)) else og (okI x27 784) (some (Int32.toInt64 (c_acts_21 (Int32.toNatClampNeg x27)), c_days_11, c_likely_12, c_outOf_13, c_rateNow_14, c_pence_15, c_top_16, c_bottom_17, c_worth_18, c_hold_19, c_way_20, c_acts_21)) else some ((-2), c_days_11, c_likely_12, c_outOf_13, c_rateNow_14, c_pence_15, c_top_16, c_bottom_17, c_worth_18, c_hold_19, c_way_20, c_acts_21))))))
abbrev rmX9_table : Room := { frames := 8, cells := 0, slots := 0, locals := 205 }
set_option maxHeartbeats 4000000 in
set_option maxRecDepth 100000 in
theorem tX9_table (l : Launch) (dC : Nat → ClassId) (dI : Nat → Nat → Nat) (dA : Nat → ClassId) (ad : Nat → Nat) (sz : Nat) {p1 : Int32} {p2 : Int32} {p3 : Int32} {p4 : Int32} {c_tape : Nat → Int32} {c_taped : Int32} {c_tree : Nat → Int32} {c_bonds : Nat → Int32} {c_moves : Nat → Int32} {c_handMoves : Nat → Int32} {c_moved : Int32} {c_days : Int32} {c_likely : Int32} {c_outOf : Int32} {c_rateNow : Int32} {c_pence : Nat → Int64} {c_top : Int64} {c_bottom : Int64} {c_spot : Int32} {c_textLong : Int32} {c_fault : Int32} {c_number : Int32} {c_numberAt : Int32} {c_figures : Int32} {c_written : Int32} {c_wanted : Int32} {c_found : Int32} {c_drawnNow : Int32} {c_worth : Nat → Int64} {c_hold : Nat → Int64} {c_way : Nat → Int64} {c_acts : Nat → Int32} {c_sDay : Int32} {c_sUps : Int32} {c_sUp : Int32} {c_sMarks : Int32} {c_paidAll : Int64} {c_isPlayed : Int32} {c_isOn : Int32} {c_handMoved : Int32} {c_handPaid : Int64} {c_regret : Int64} {c_aside : Nat → Int32} {c_other : Nat → Int64} {c_states : Int32} {c_kept : Nat → Int32} {c_keptLong : Nat → Int64} {c_keptAt : Int32} {c_isTaking : Int32} {r : Int64} {o_c_days : Int32} {o_c_likely : Int32} {o_c_outOf : Int32} {o_c_rateNow : Int32} {o_c_pence : Nat → Int64} {o_c_top : Int64} {o_c_bottom : Int64} {o_c_worth : Nat → Int64} {o_c_hold : Nat → Int64} {o_c_way : Nat → Int64} {o_c_acts : Nat → Int32} (hf : fX9_table p1 p2 p3 p4 c_tree c_bonds c_days c_likely c_outOf c_rateNow c_pence c_top c_bottom c_worth c_hold c_way c_acts = some (r, o_c_days, o_c_likely, o_c_outOf, o_c_rateNow, o_c_pence, o_c_top, o_c_bottom, o_c_worth, o_c_hold, o_c_way, o_c_acts)) : Met l yX9_table (wq (Cond.code yX9_table cX9_table 10 (some .long))) rmX9_table (gP [.ref (ad 0), .int p1, .int p2, .int p3, .int p4] (dC, dI) dA (mW dA ad c_tape c_taped c_tree c_bonds c_moves c_handMoves c_moved c_days c_likely c_outOf c_rateNow c_pence c_top c_bottom c_spot c_textLong c_fault c_number c_numberAt c_figures c_written c_wanted c_found c_drawnNow c_worth c_hold c_way c_acts c_sDay c_sUps c_sUp c_sMarks c_paidAll c_isPlayed c_isOn c_handMoved c_handPaid c_regret c_aside c_other c_states c_kept c_keptLong c_keptAt c_isTaking) sz) (gQl (dC, dI) r (mW dA ad c_tape c_taped c_tree c_bonds c_moves c_handMoves c_moved o_c_days o_c_likely o_c_outOf o_c_rateNow o_c_pence o_c_top o_c_bottom c_spot c_textLong c_fault c_number c_numberAt c_figures c_written c_wanted c_found c_drawnNow o_c_worth o_c_hold o_c_way o_c_acts c_sDay c_sUps c_sUp c_sMarks c_paidAll c_isPlayed c_isOn c_handMoved c_handPaid c_regret c_aside c_other c_states c_kept c_keptLong c_keptAt c_isTaking) (va_A (mW dA ad c_tape c_taped c_tree c_bonds c_moves c_handMoves c_moved c_days c_likely c_outOf c_rateNow c_pence c_top c_bottom c_spot c_textLong c_fault c_number c_numberAt c_figures c_written c_wanted c_found c_drawnNow c_worth c_hold c_way c_acts c_sDay c_sUps c_sUp c_sMarks c_paidAll c_isPlayed c_isOn c_handMoved c_handPaid c_regret c_aside c_other c_states c_kept c_keptLong c_keptAt c_isTaking) sz)) 0 0 (va_A (mW dA ad c_tape c_taped c_tree c_bonds c_moves c_handMoves c_moved c_days c_likely c_outOf c_rateNow c_pence c_top c_bottom c_spot c_textLong c_fault c_number c_numberAt c_figures c_written c_wanted c_found c_drawnNow c_worth c_hold c_way c_acts c_sDay c_sUps c_sUp c_sMarks c_paidAll c_isPlayed c_isOn c_handMoved c_handPaid c_regret c_aside c_other c_states c_kept c_keptLong c_keptAt c_isTaking) sz) := by
  refine Met.ofW (cc := cX9_table) (maxL := 10) (ret := (some .long)) (by decide) rfl ?_
  intro p e s m args below meth c s₁ B hml hv
  obtain ⟨rfl, hsz, hP, hK, hD0⟩ := hv
  have hx := B.exec
  have hb := B.bytes
  have hr := B.returns
  have hts := atoms_spec (ws := wq (Cond.code yX9_table cX9_table 10 (some .long))) B.pre
  have hown : s.vm.findClass RX9 = some m.cls := findClass_of_methodNamed B.named
  have hlocks := B.notSynchronized
  clear B
  subst hsz
  have hD := hD0.self (sz := s.heap.size)
  generalize hAe : va_A (mW dA ad c_tape c_taped c_tree c_bonds c_moves c_handMoves c_moved c_days c_likely c_outOf c_rateNow c_pence c_top c_bottom c_spot c_textLong c_fault c_number c_numberAt c_figures c_written c_wanted c_found c_drawnNow c_worth c_hold c_way c_acts c_sDay c_sUps c_sUp c_sMarks c_paidAll c_isPlayed c_isOn c_handMoved c_handPaid c_regret c_aside c_other c_states c_kept c_keptLong c_keptAt c_isTaking) s.heap.size = A at hD ⊢
  have hA : ∀ q : Nat, s.heap.size ≤ q → A q := fun q h => by rw [← hAe]; exact Or.inr h
  clear hAe hD0
  have hS : va_S A s.heap s.heap [] := va_S.rf
  have hl := lv_entry ([.ref (ad 0), .int p1, .int p2, .int p3, .int p4]) (n := 10) (Nat.le_of_ble_eq_true rfl)
  rw [lg_entry_eq]
  generalize (lg_sl ([.ref (ad 0), .int p1, .int p2, .int p3, .int p4]) ++ List.replicate (10 - (lg_sl ([.ref (ad 0), .int p1, .int p2, .int p3, .int p4])).length) Slot.unset).toArray = ls at hl ⊢
  have hl : lv_has ls 10 [(0, .ref (ad 0)), (1, .int p1), (2, .int p2), (3, .int p3), (4, .int p4)] := hl
  change W p l e rmX9_table s m ([.ref (ad 0), .int p1, .int p2, .int p3, .int p4] : List Value).toArray below meth c s.heap [] 0 0 _ _
  generalize hQ : MQ below (gQl (dC, dI) r (mW dA ad c_tape c_taped c_tree c_bonds c_moves c_handMoves c_moved o_c_days o_c_likely o_c_outOf o_c_rateNow o_c_pence o_c_top o_c_bottom c_spot c_textLong c_fault c_number c_numberAt c_figures c_written c_wanted c_found c_drawnNow o_c_worth o_c_hold o_c_way o_c_acts c_sDay c_sUps c_sUp c_sMarks c_paidAll c_isPlayed c_isOn c_handMoved c_handPaid c_regret c_aside c_other c_states c_kept c_keptLong c_keptAt c_isTaking) A) ([.ref (ad 0), .int p1, .int p2, .int p3, .int p4] : List Value).toArray s 0 0 A = Q
  have LP74 : ∀ (n : Nat) (x2 : Int32) (x4 : Int32) (x6 : Int32) (x7 : Int32) (c_way : Nat → Int64) (c_tape : Nat → Int32) (c_taped : Int32) (c_tree : Nat → Int32) (c_bonds : Nat → Int32) (c_moves : Nat → Int32) (c_handMoves : Nat → Int32) (c_moved : Int32) (c_days : Int32) (c_likely : Int32) (c_outOf : Int32) (c_rateNow : Int32) (c_pence : Nat → Int64) (c_top : Int64) (c_bottom : Int64) (c_spot : Int32) (c_textLong : Int32) (c_fault : Int32) (c_number : Int32) (c_numberAt : Int32) (c_figures : Int32) (c_written : Int32) (c_wanted : Int32) (c_found : Int32) (c_drawnNow : Int32) (c_worth : Nat → Int64) (c_hold : Nat → Int64) (c_acts : Nat → Int32) (c_sDay : Int32) (c_sUps : Int32) (c_sUp : Int32) (c_sMarks : Int32) (c_paidAll : Int64) (c_isPlayed : Int32) (c_isOn : Int32) (c_handMoved : Int32) (c_handPaid : Int64) (c_regret : Int64) (c_aside : Nat → Int32) (c_other : Nat → Int64) (c_states : Int32) (c_kept : Nat → Int32) (c_keptLong : Nat → Int64) (c_keptAt : Int32) (c_isTaking : Int32) (x5 : Int32) (x8 : Int32) (tgo : Nat) (o5 : Int32) (o8 : Int32) (o9 : Int32) (H : Heap) (locs : List Loc) (ls : Array Slot), va_P (dC, dI) vwCl (mW dA ad c_tape c_taped c_tree c_bonds c_moves c_handMoves c_moved c_days c_likely c_outOf c_rateNow c_pence c_top c_bottom c_spot c_textLong c_fault c_number c_numberAt c_figures c_written c_wanted c_found c_drawnNow c_worth c_hold c_way c_acts c_sDay c_sUps c_sUp c_sMarks c_paidAll c_isPlayed c_isOn c_handMoved c_handPaid c_regret c_aside c_other c_states c_kept c_keptLong c_keptAt c_isTaking) H → va_D A (mW dA ad c_tape c_taped c_tree c_bonds c_moves c_handMoves c_moved c_days c_likely c_outOf c_rateNow c_pence c_top c_bottom c_spot c_textLong c_fault c_number c_numberAt c_figures c_written c_wanted c_found c_drawnNow c_worth c_hold c_way c_acts c_sDay c_sUps c_sUp c_sMarks c_paidAll c_isPlayed c_isOn c_handMoved c_handPaid c_regret c_aside c_other c_states c_kept c_keptLong c_keptAt c_isTaking) → va_S A s.heap H locs → lpX9_table_74 x2 x4 x6 x7 c_way n x5 x8 = some (tgo, o5, o8, o9) → lv_has ls 10 [(0, .ref (ad 0)), (2, .int x2), (4, .int x4), (5, .int x5), (6, .int x6), (7, .int x7), (8, .int x8)] → (tgo = 0 → ∀ (H : Heap) (locs : List Loc) (ls : Array Slot), va_P (dC, dI) vwCl (mW dA ad c_tape c_taped c_tree c_bonds c_moves c_handMoves c_moved c_days c_likely c_outOf c_rateNow c_pence c_top c_bottom c_spot c_textLong c_fault c_number c_numberAt c_figures c_written c_wanted c_found c_drawnNow c_worth c_hold c_way c_acts c_sDay c_sUps c_sUp c_sMarks c_paidAll c_isPlayed c_isOn c_handMoved c_handPaid c_regret c_aside c_other c_states c_kept c_keptLong c_keptAt c_isTaking) H → va_D A (mW dA ad c_tape c_taped c_tree c_bonds c_moves c_handMoves c_moved c_days c_likely c_outOf c_rateNow c_pence c_top c_bottom c_spot c_textLong c_fault c_number c_numberAt c_figures c_written c_wanted c_found c_drawnNow c_worth c_hold c_way c_acts c_sDay c_sUps c_sUp c_sMarks c_paidAll c_isPlayed c_isOn c_handMoved c_handPaid c_regret c_aside c_other c_states c_kept c_keptLong c_keptAt c_isTaking) → va_S A s.heap H locs → lv_has ls 10 [(0, .ref (ad 0)), (4, .int x4), (6, .int x6), (7, .int x7), (8, .int o8), (9, .int o9)] → W p l e rmX9_table s m ([.ref (ad 0), .int p1, .int p2, .int p3, .int p4] : List Value).toArray below meth c H locs 0 0 Q (F0 m 112 ls [])) → (tgo = 1 → ∀ (H : Heap) (locs : List Loc) (ls : Array Slot), va_P (dC, dI) vwCl (mW dA ad c_tape c_taped c_tree c_bonds c_moves c_handMoves c_moved c_days c_likely c_outOf c_rateNow c_pence c_top c_bottom c_spot c_textLong c_fault c_number c_numberAt c_figures c_written c_wanted c_found c_drawnNow c_worth c_hold c_way c_acts c_sDay c_sUps c_sUp c_sMarks c_paidAll c_isPlayed c_isOn c_handMoved c_handPaid c_regret c_aside c_other c_states c_kept c_keptLong c_keptAt c_isTaking) H → va_D A (mW dA ad c_tape c_taped c_tree c_bonds c_moves c_handMoves c_moved c_days c_likely c_outOf c_rateNow c_pence c_top c_bottom c_spot c_textLong c_fault c_number c_numberAt c_figures c_written c_wanted c_found c_drawnNow c_worth c_hold c_way c_acts c_sDay c_sUps c_sUp c_sMarks c_paidAll c_isPlayed c_isOn c_handMoved c_handPaid c_regret c_aside c_other c_states c_kept c_keptLong c_keptAt c_isTaking) → va_S A s.heap H locs → lv_has ls 10 [(0, .ref (ad 0)), (2, .int x2), (4, .int x4), (5, .int o5), (6, .int x6), (7, .int x7)] → W p l e rmX9_table s m ([.ref (ad 0), .int p1, .int p2, .int p3, .int p4] : List Value).toArray below meth c H locs 0 0 Q (F0 m 184 ls [])) → W p l e rmX9_table s m ([.ref (ad 0), .int p1, .int p2, .int p3, .int p4] : List Value).toArray below meth c H locs 0 0 Q (F0 m 74 ls []) := by
    intro n
    induction n with
    | zero =>
      intro x2 x4 x6 x7 c_way c_tape c_taped c_tree c_bonds c_moves c_handMoves c_moved c_days c_likely c_outOf c_rateNow c_pence c_top c_bottom c_spot c_textLong c_fault c_number c_numberAt c_figures c_written c_wanted c_found c_drawnNow c_worth c_hold c_acts c_sDay c_sUps c_sUp c_sMarks c_paidAll c_isPlayed c_isOn c_handMoved c_handPaid c_regret c_aside c_other c_states c_kept c_keptLong c_keptAt c_isTaking x5 x8 tgo o5 o8 o9 H locs ls hP hD hS hf hl hk0 hk1
      cases hf
    | succ n ih74 =>
      intro x2 x4 x6 x7 c_way c_tape c_taped c_tree c_bonds c_moves c_handMoves c_moved c_days c_likely c_outOf c_rateNow c_pence c_top c_bottom c_spot c_textLong c_fault c_number c_numberAt c_figures c_written c_wanted c_found c_drawnNow c_worth c_hold c_acts c_sDay c_sUps c_sUp c_sMarks c_paidAll c_isPlayed c_isOn c_handMoved c_handPaid c_regret c_aside c_other c_states c_kept c_keptLong c_keptAt c_isTaking x5 x8 tgo o5 o8 o9 H locs ls hP hD hS hf hl hk0 hk1
      rw [lpX9_table_74.eq_2] at hf
      refine lv_iload hx hb dX9_table_74 (lv_at hl 6 rfl) ?_
      refine lv_iconst (v := 2) hx hb dX9_table_76 (by decide) ?_
      refine lv_icmp_ge (tgt := 184) hx hb dX9_table_77 (by decide) (fun k50 => ?_) (fun k50 => ?_)
      · replace hf := ifp k50 hf
        cases hf
        exact hk1 rfl _ _ _ hP hD hS (lv_sub hl [0, 1, 2, 3, 4, 5] rfl)
      · replace hf := ifn k50 hf
        refine lv_iload_n hx hb dX9_table_80 rfl (lv_at hl 1 rfl) ?_
        refine lv_iload hx hb dX9_table_81 (lv_at hl 4 rfl) ?_
        refine lv_iload hx hb dX9_table_83 (lv_at hl 6 rfl) ?_
        refine lv_iload hx hb dX9_table_85 (lv_at hl 5 rfl) ?_
        obtain ⟨r51, v52, hf⟩ := bd1_some hf
        refine gci0 (va_runS (As := [.int x2, .int x6, .int x8, .int x7]) (rest := []) ⟨hx, hb, hml, hown, hts⟩ (tX9_at l dC dI dA H.size v52) (ccX9_X9_at hts ⟨Nat.le_of_ble_eq_true rfl, Nat.le_of_ble_eq_true rfl⟩) (gPreS0 hK) rfl rfl hl.1 rfl (lv_room (Nat.le_of_ble_eq_true rfl)) dX9_table_87 ⟨Nat.le_of_ble_eq_true rfl, Nat.le_of_ble_eq_true rfl⟩) hP hS hA (fun H locs hP hS => ?_)
        refine lv_istore (lv' := [(9, .int r51), (0, .ref (ad 0)), (2, .int x2), (4, .int x4), (5, .int x5), (6, .int x6), (7, .int x7), (8, .int x8)]) hx hb dX9_table_90 hl (by decide) rfl (fun ls hl => ?_)
        refine lv_aload_n hx hb dX9_table_92 rfl (lv_at hl 1 rfl) ?_
        refine va_get (D := (dC, dI)) (ci := 9) (v := .ref (ad 9)) (C := RX9) (T := TX9) (N := 45) hx hb hts (fun w h => gw_mem (inX9 w h)) hown hK.1 hP 0 rfl rfl 26 (by decide) (hts _ (gw_mem wfX9_36)) (fun _ h9 => h9) rfl dX9_table_93 ?_
        refine lv_iload hx hb dX9_table_96 (lv_at hl 0 rfl) ?_
        obtain ⟨h53, hf⟩ := og_some hf
        refine va_lald hx hb hK.1 hP 9 1 rfl rfl (okI_in h53) dX9_table_98 ?_
        refine lv_lconst (v := 0) hx hb dX9_table_99 rfl ?_
        refine W.lcmp hx hb dX9_table_100 ?_
        refine lv_if_ne (tgt := 107) hx hb dX9_table_101 (by decide) (fun k54 => ?_) (fun k54 => ?_)
        · replace hf := ifn (fun h => k54 (lc_eq.mpr h)) hf
          refine lv_iload hx hb dX9_table_107 (lv_at hl 4 rfl) ?_
          refine lv_if_ne (tgt := 172) hx hb dX9_table_109 (by decide) (fun k55 => ?_) (fun k55 => ?_)
          · replace hf := ifn k55 hf
            refine lv_iload hx hb dX9_table_172 (lv_at hl 4 rfl) ?_
            refine lv_iconst (v := 1) hx hb dX9_table_174 (by decide) ?_
            refine lv_isub hx hb dX9_table_175 ?_
            refine lv_topi (fun w56 ew56 => ?_)
            replace hf := nm_at hf ew56
            refine lv_istore (lv' := [(5, .int w56), (9, .int r51), (0, .ref (ad 0)), (2, .int x2), (4, .int x4), (6, .int x6), (7, .int x7), (8, .int x8)]) hx hb dX9_table_176 hl (by decide) rfl (fun ls hl => ?_)
            obtain ⟨w57, ew57⟩ : ∃ y : Int32, y = x8 + 1 := ⟨_, rfl⟩
            replace hf := nm_at hf ew57
            refine lv_iinc (v := w57) (lv' := [(8, .int w57), (5, .int w56), (9, .int r51), (0, .ref (ad 0)), (2, .int x2), (4, .int x4), (6, .int x6), (7, .int x7)]) hx hb dX9_table_178 hl (k := 7) rfl (by rw [ew57]; rfl) (by decide) rfl (fun ls hl => ?_)
            refine lv_goto (tgt := 74) hx hb dX9_table_181 (by decide) ?_
            exact ih74 _ _ _ _ _ _ _ _ _ _ _ _ _ _ _ _ _ _ _ _ _ _ _ _ _ _ _ _ _ _ _ _ _ _ _ _ _ _ _ _ _ _ _ _ _ _ _ _ _ _ _ _ _ _ _ _ _ _ hP hD hS hf (lv_sub hl [3, 4, 5, 1, 6, 7, 0] rfl) hk0 hk1
          · replace hf := ifp k55 hf
            cases hf
            exact hk0 rfl _ _ _ hP hD hS (lv_sub hl [1, 3, 5, 6, 7, 0] rfl)
        · replace hf := ifp (lc_eq.mp k54) hf
          refine lv_goto (tgt := 178) hx hb dX9_table_104 (by decide) ?_
          obtain ⟨w58, ew58⟩ : ∃ y : Int32, y = x8 + 1 := ⟨_, rfl⟩
          replace hf := nm_at hf ew58
          refine lv_iinc (v := w58) (lv' := [(8, .int w58), (9, .int r51), (0, .ref (ad 0)), (2, .int x2), (4, .int x4), (5, .int x5), (6, .int x6), (7, .int x7)]) hx hb dX9_table_178 hl (k := 7) rfl (by rw [ew58]; rfl) (by decide) rfl (fun ls hl => ?_)
          refine lv_goto (tgt := 74) hx hb dX9_table_181 (by decide) ?_
          exact ih74 _ _ _ _ _ _ _ _ _ _ _ _ _ _ _ _ _ _ _ _ _ _ _ _ _ _ _ _ _ _ _ _ _ _ _ _ _ _ _ _ _ _ _ _ _ _ _ _ _ _ _ _ _ _ _ _ _ _ hP hD hS hf (lv_sub hl [2, 3, 4, 5, 6, 7, 0] rfl) hk0 hk1
  have LP64 : ∀ (n : Nat) (x2 : Int32) (x4 : Int32) (x6 : Int32) (c_way : Nat → Int64) (c_tape : Nat → Int32) (c_taped : Int32) (c_tree : Nat → Int32) (c_bonds : Nat → Int32) (c_moves : Nat → Int32) (c_handMoves : Nat → Int32) (c_moved : Int32) (c_days : Int32) (c_likely : Int32) (c_outOf : Int32) (c_rateNow : Int32) (c_pence : Nat → Int64) (c_top : Int64) (c_bottom : Int64) (c_spot : Int32) (c_textLong : Int32) (c_fault : Int32) (c_number : Int32) (c_numberAt : Int32) (c_figures : Int32) (c_written : Int32) (c_wanted : Int32) (c_found : Int32) (c_drawnNow : Int32) (c_worth : Nat → Int64) (c_hold : Nat → Int64) (c_acts : Nat → Int32) (c_sDay : Int32) (c_sUps : Int32) (c_sUp : Int32) (c_sMarks : Int32) (c_paidAll : Int64) (c_isPlayed : Int32) (c_isOn : Int32) (c_handMoved : Int32) (c_handPaid : Int64) (c_regret : Int64) (c_aside : Nat → Int32) (c_other : Nat → Int64) (c_states : Int32) (c_kept : Nat → Int32) (c_keptLong : Nat → Int64) (c_keptAt : Int32) (c_isTaking : Int32) (x5 : Int32) (x7 : Int32) (tgo : Nat) (o5 : Int32) (o7 : Int32) (o8 : Int32) (o9 : Int32) (H : Heap) (locs : List Loc) (ls : Array Slot), va_P (dC, dI) vwCl (mW dA ad c_tape c_taped c_tree c_bonds c_moves c_handMoves c_moved c_days c_likely c_outOf c_rateNow c_pence c_top c_bottom c_spot c_textLong c_fault c_number c_numberAt c_figures c_written c_wanted c_found c_drawnNow c_worth c_hold c_way c_acts c_sDay c_sUps c_sUp c_sMarks c_paidAll c_isPlayed c_isOn c_handMoved c_handPaid c_regret c_aside c_other c_states c_kept c_keptLong c_keptAt c_isTaking) H → va_D A (mW dA ad c_tape c_taped c_tree c_bonds c_moves c_handMoves c_moved c_days c_likely c_outOf c_rateNow c_pence c_top c_bottom c_spot c_textLong c_fault c_number c_numberAt c_figures c_written c_wanted c_found c_drawnNow c_worth c_hold c_way c_acts c_sDay c_sUps c_sUp c_sMarks c_paidAll c_isPlayed c_isOn c_handMoved c_handPaid c_regret c_aside c_other c_states c_kept c_keptLong c_keptAt c_isTaking) → va_S A s.heap H locs → lpX9_table_64 x2 x4 x6 c_way n x5 x7 = some (tgo, o5, o7, o8, o9) → lv_has ls 10 [(0, .ref (ad 0)), (2, .int x2), (4, .int x4), (5, .int x5), (6, .int x6), (7, .int x7)] → (tgo = 0 → ∀ (H : Heap) (locs : List Loc) (ls : Array Slot), va_P (dC, dI) vwCl (mW dA ad c_tape c_taped c_tree c_bonds c_moves c_handMoves c_moved c_days c_likely c_outOf c_rateNow c_pence c_top c_bottom c_spot c_textLong c_fault c_number c_numberAt c_figures c_written c_wanted c_found c_drawnNow c_worth c_hold c_way c_acts c_sDay c_sUps c_sUp c_sMarks c_paidAll c_isPlayed c_isOn c_handMoved c_handPaid c_regret c_aside c_other c_states c_kept c_keptLong c_keptAt c_isTaking) H → va_D A (mW dA ad c_tape c_taped c_tree c_bonds c_moves c_handMoves c_moved c_days c_likely c_outOf c_rateNow c_pence c_top c_bottom c_spot c_textLong c_fault c_number c_numberAt c_figures c_written c_wanted c_found c_drawnNow c_worth c_hold c_way c_acts c_sDay c_sUps c_sUp c_sMarks c_paidAll c_isPlayed c_isOn c_handMoved c_handPaid c_regret c_aside c_other c_states c_kept c_keptLong c_keptAt c_isTaking) → va_S A s.heap H locs → lv_has ls 10 [(0, .ref (ad 0)), (4, .int x4), (6, .int x6), (7, .int o7), (8, .int o8), (9, .int o9)] → W p l e rmX9_table s m ([.ref (ad 0), .int p1, .int p2, .int p3, .int p4] : List Value).toArray below meth c H locs 0 0 Q (F0 m 112 ls [])) → (tgo = 1 → ∀ (H : Heap) (locs : List Loc) (ls : Array Slot), va_P (dC, dI) vwCl (mW dA ad c_tape c_taped c_tree c_bonds c_moves c_handMoves c_moved c_days c_likely c_outOf c_rateNow c_pence c_top c_bottom c_spot c_textLong c_fault c_number c_numberAt c_figures c_written c_wanted c_found c_drawnNow c_worth c_hold c_way c_acts c_sDay c_sUps c_sUp c_sMarks c_paidAll c_isPlayed c_isOn c_handMoved c_handPaid c_regret c_aside c_other c_states c_kept c_keptLong c_keptAt c_isTaking) H → va_D A (mW dA ad c_tape c_taped c_tree c_bonds c_moves c_handMoves c_moved c_days c_likely c_outOf c_rateNow c_pence c_top c_bottom c_spot c_textLong c_fault c_number c_numberAt c_figures c_written c_wanted c_found c_drawnNow c_worth c_hold c_way c_acts c_sDay c_sUps c_sUp c_sMarks c_paidAll c_isPlayed c_isOn c_handMoved c_handPaid c_regret c_aside c_other c_states c_kept c_keptLong c_keptAt c_isTaking) → va_S A s.heap H locs → lv_has ls 10 [(0, .ref (ad 0)), (2, .int x2), (4, .int x4), (5, .int o5), (6, .int x6)] → W p l e rmX9_table s m ([.ref (ad 0), .int p1, .int p2, .int p3, .int p4] : List Value).toArray below meth c H locs 0 0 Q (F0 m 190 ls [])) → W p l e rmX9_table s m ([.ref (ad 0), .int p1, .int p2, .int p3, .int p4] : List Value).toArray below meth c H locs 0 0 Q (F0 m 64 ls []) := by
    intro n
    induction n with
    | zero =>
      intro x2 x4 x6 c_way c_tape c_taped c_tree c_bonds c_moves c_handMoves c_moved c_days c_likely c_outOf c_rateNow c_pence c_top c_bottom c_spot c_textLong c_fault c_number c_numberAt c_figures c_written c_wanted c_found c_drawnNow c_worth c_hold c_acts c_sDay c_sUps c_sUp c_sMarks c_paidAll c_isPlayed c_isOn c_handMoved c_handPaid c_regret c_aside c_other c_states c_kept c_keptLong c_keptAt c_isTaking x5 x7 tgo o5 o7 o8 o9 H locs ls hP hD hS hf hl hk0 hk1
      cases hf
    | succ n ih64 =>
      intro x2 x4 x6 c_way c_tape c_taped c_tree c_bonds c_moves c_handMoves c_moved c_days c_likely c_outOf c_rateNow c_pence c_top c_bottom c_spot c_textLong c_fault c_number c_numberAt c_figures c_written c_wanted c_found c_drawnNow c_worth c_hold c_acts c_sDay c_sUps c_sUp c_sMarks c_paidAll c_isPlayed c_isOn c_handMoved c_handPaid c_regret c_aside c_other c_states c_kept c_keptLong c_keptAt c_isTaking x5 x7 tgo o5 o7 o8 o9 H locs ls hP hD hS hf hl hk0 hk1
      rw [lpX9_table_64.eq_2] at hf
      refine lv_iload hx hb dX9_table_64 (lv_at hl 5 rfl) ?_
      refine lv_bipush (v := 8) hx hb dX9_table_66 (by decide) ?_
      refine lv_icmp_ge (tgt := 190) hx hb dX9_table_68 (by decide) (fun k43 => ?_) (fun k43 => ?_)
      · replace hf := ifp k43 hf
        cases hf
        exact hk1 rfl _ _ _ hP hD hS (lv_sub hl [0, 1, 2, 3, 4] rfl)
      · replace hf := ifn k43 hf
        refine lv_iconst (v := 0) hx hb dX9_table_71 (by decide) ?_
        refine lv_istore (lv' := [(8, .int 0), (0, .ref (ad 0)), (2, .int x2), (4, .int x4), (5, .int x5), (6, .int x6), (7, .int x7)]) hx hb dX9_table_72 hl (by decide) rfl (fun ls hl => ?_)
        obtain ⟨tg44, x45, x46, x47, v48, hf⟩ := bd4_some hf
        refine LP74 FU _ _ _ _ _ _ _ _ _ _ _ _ _ _ _ _ _ _ _ _ _ _ _ _ _ _ _ _ _ _ _ _ _ _ _ _ _ _ _ _ _ _ _ _ _ _ _ _ _ _ _ _ _ _ _ _ _ _ hP hD hS v48 (lv_sub hl [1, 2, 3, 4, 5, 6, 0] rfl) (fun etg44 H locs ls hP hD hS hl => ?_) (fun etg44 H locs ls hP hD hS hl => ?_)
        · replace hf := ifp etg44 hf
          cases hf
          exact hk0 rfl _ _ _ hP hD hS (lv_sub hl [0, 1, 2, 3, 4, 5] rfl)
        · replace hf := ifn (c := tg44 = 0) (by rw [etg44]; decide) hf
          obtain ⟨w49, ew49⟩ : ∃ y : Int32, y = x7 + 1 := ⟨_, rfl⟩
          replace hf := nm_at hf ew49
          refine lv_iinc (v := w49) (lv' := [(7, .int w49), (0, .ref (ad 0)), (2, .int x2), (4, .int x4), (5, .int x45), (6, .int x6)]) hx hb dX9_table_184 hl (k := 5) rfl (by rw [ew49]; rfl) (by decide) rfl (fun ls hl => ?_)
          refine lv_goto (tgt := 64) hx hb dX9_table_187 (by decide) ?_
          exact ih64 _ _ _ _ _ _ _ _ _ _ _ _ _ _ _ _ _ _ _ _ _ _ _ _ _ _ _ _ _ _ _ _ _ _ _ _ _ _ _ _ _ _ _ _ _ _ _ _ _ _ _ _ _ _ _ _ _ _ hP hD hS hf (lv_sub hl [1, 2, 3, 4, 5, 0] rfl) hk0 hk1
  have LP55 : ∀ (n : Nat) (x2 : Int32) (x4 : Int32) (c_way : Nat → Int64) (c_tape : Nat → Int32) (c_taped : Int32) (c_tree : Nat → Int32) (c_bonds : Nat → Int32) (c_moves : Nat → Int32) (c_handMoves : Nat → Int32) (c_moved : Int32) (c_days : Int32) (c_likely : Int32) (c_outOf : Int32) (c_rateNow : Int32) (c_pence : Nat → Int64) (c_top : Int64) (c_bottom : Int64) (c_spot : Int32) (c_textLong : Int32) (c_fault : Int32) (c_number : Int32) (c_numberAt : Int32) (c_figures : Int32) (c_written : Int32) (c_wanted : Int32) (c_found : Int32) (c_drawnNow : Int32) (c_worth : Nat → Int64) (c_hold : Nat → Int64) (c_acts : Nat → Int32) (c_sDay : Int32) (c_sUps : Int32) (c_sUp : Int32) (c_sMarks : Int32) (c_paidAll : Int64) (c_isPlayed : Int32) (c_isOn : Int32) (c_handMoved : Int32) (c_handPaid : Int64) (c_regret : Int64) (c_aside : Nat → Int32) (c_other : Nat → Int64) (c_states : Int32) (c_kept : Nat → Int32) (c_keptLong : Nat → Int64) (c_keptAt : Int32) (c_isTaking : Int32) (x5 : Int32) (x6 : Int32) (tgo : Nat) (o6 : Int32) (o7 : Int32) (o8 : Int32) (o9 : Int32) (H : Heap) (locs : List Loc) (ls : Array Slot), va_P (dC, dI) vwCl (mW dA ad c_tape c_taped c_tree c_bonds c_moves c_handMoves c_moved c_days c_likely c_outOf c_rateNow c_pence c_top c_bottom c_spot c_textLong c_fault c_number c_numberAt c_figures c_written c_wanted c_found c_drawnNow c_worth c_hold c_way c_acts c_sDay c_sUps c_sUp c_sMarks c_paidAll c_isPlayed c_isOn c_handMoved c_handPaid c_regret c_aside c_other c_states c_kept c_keptLong c_keptAt c_isTaking) H → va_D A (mW dA ad c_tape c_taped c_tree c_bonds c_moves c_handMoves c_moved c_days c_likely c_outOf c_rateNow c_pence c_top c_bottom c_spot c_textLong c_fault c_number c_numberAt c_figures c_written c_wanted c_found c_drawnNow c_worth c_hold c_way c_acts c_sDay c_sUps c_sUp c_sMarks c_paidAll c_isPlayed c_isOn c_handMoved c_handPaid c_regret c_aside c_other c_states c_kept c_keptLong c_keptAt c_isTaking) → va_S A s.heap H locs → lpX9_table_55 x2 x4 c_way n x5 x6 = some (tgo, o6, o7, o8, o9) → lv_has ls 10 [(0, .ref (ad 0)), (2, .int x2), (4, .int x4), (5, .int x5), (6, .int x6)] → (tgo = 0 → ∀ (H : Heap) (locs : List Loc) (ls : Array Slot), va_P (dC, dI) vwCl (mW dA ad c_tape c_taped c_tree c_bonds c_moves c_handMoves c_moved c_days c_likely c_outOf c_rateNow c_pence c_top c_bottom c_spot c_textLong c_fault c_number c_numberAt c_figures c_written c_wanted c_found c_drawnNow c_worth c_hold c_way c_acts c_sDay c_sUps c_sUp c_sMarks c_paidAll c_isPlayed c_isOn c_handMoved c_handPaid c_regret c_aside c_other c_states c_kept c_keptLong c_keptAt c_isTaking) H → va_D A (mW dA ad c_tape c_taped c_tree c_bonds c_moves c_handMoves c_moved c_days c_likely c_outOf c_rateNow c_pence c_top c_bottom c_spot c_textLong c_fault c_number c_numberAt c_figures c_written c_wanted c_found c_drawnNow c_worth c_hold c_way c_acts c_sDay c_sUps c_sUp c_sMarks c_paidAll c_isPlayed c_isOn c_handMoved c_handPaid c_regret c_aside c_other c_states c_kept c_keptLong c_keptAt c_isTaking) → va_S A s.heap H locs → lv_has ls 10 [(0, .ref (ad 0)), (4, .int x4), (6, .int o6), (7, .int o7), (8, .int o8), (9, .int o9)] → W p l e rmX9_table s m ([.ref (ad 0), .int p1, .int p2, .int p3, .int p4] : List Value).toArray below meth c H locs 0 0 Q (F0 m 112 ls [])) → (tgo = 1 → ∀ (H : Heap) (locs : List Loc) (ls : Array Slot), va_P (dC, dI) vwCl (mW dA ad c_tape c_taped c_tree c_bonds c_moves c_handMoves c_moved c_days c_likely c_outOf c_rateNow c_pence c_top c_bottom c_spot c_textLong c_fault c_number c_numberAt c_figures c_written c_wanted c_found c_drawnNow c_worth c_hold c_way c_acts c_sDay c_sUps c_sUp c_sMarks c_paidAll c_isPlayed c_isOn c_handMoved c_handPaid c_regret c_aside c_other c_states c_kept c_keptLong c_keptAt c_isTaking) H → va_D A (mW dA ad c_tape c_taped c_tree c_bonds c_moves c_handMoves c_moved c_days c_likely c_outOf c_rateNow c_pence c_top c_bottom c_spot c_textLong c_fault c_number c_numberAt c_figures c_written c_wanted c_found c_drawnNow c_worth c_hold c_way c_acts c_sDay c_sUps c_sUp c_sMarks c_paidAll c_isPlayed c_isOn c_handMoved c_handPaid c_regret c_aside c_other c_states c_kept c_keptLong c_keptAt c_isTaking) → va_S A s.heap H locs → lv_has ls 10 [] → W p l e rmX9_table s m ([.ref (ad 0), .int p1, .int p2, .int p3, .int p4] : List Value).toArray below meth c H locs 0 0 Q (F0 m 196 ls [])) → W p l e rmX9_table s m ([.ref (ad 0), .int p1, .int p2, .int p3, .int p4] : List Value).toArray below meth c H locs 0 0 Q (F0 m 55 ls []) := by
    intro n
    induction n with
    | zero =>
      intro x2 x4 c_way c_tape c_taped c_tree c_bonds c_moves c_handMoves c_moved c_days c_likely c_outOf c_rateNow c_pence c_top c_bottom c_spot c_textLong c_fault c_number c_numberAt c_figures c_written c_wanted c_found c_drawnNow c_worth c_hold c_acts c_sDay c_sUps c_sUp c_sMarks c_paidAll c_isPlayed c_isOn c_handMoved c_handPaid c_regret c_aside c_other c_states c_kept c_keptLong c_keptAt c_isTaking x5 x6 tgo o6 o7 o8 o9 H locs ls hP hD hS hf hl hk0 hk1
      cases hf
    | succ n ih55 =>
      intro x2 x4 c_way c_tape c_taped c_tree c_bonds c_moves c_handMoves c_moved c_days c_likely c_outOf c_rateNow c_pence c_top c_bottom c_spot c_textLong c_fault c_number c_numberAt c_figures c_written c_wanted c_found c_drawnNow c_worth c_hold c_acts c_sDay c_sUps c_sUp c_sMarks c_paidAll c_isPlayed c_isOn c_handMoved c_handPaid c_regret c_aside c_other c_states c_kept c_keptLong c_keptAt c_isTaking x5 x6 tgo o6 o7 o8 o9 H locs ls hP hD hS hf hl hk0 hk1
      rw [lpX9_table_55.eq_2] at hf
      refine lv_iload hx hb dX9_table_55 (lv_at hl 4 rfl) ?_
      refine lv_iload_n hx hb dX9_table_57 rfl (lv_at hl 1 rfl) ?_
      refine lv_icmp_gt (tgt := 196) hx hb dX9_table_58 (by decide) (fun k35 => ?_) (fun k35 => ?_)
      · replace hf := ifp k35 hf
        cases hf
        exact hk1 rfl _ _ _ hP hD hS (lv_sub hl [] rfl)
      · replace hf := ifn k35 hf
        refine lv_iconst (v := 0) hx hb dX9_table_61 (by decide) ?_
        refine lv_istore (lv' := [(7, .int 0), (0, .ref (ad 0)), (2, .int x2), (4, .int x4), (5, .int x5), (6, .int x6)]) hx hb dX9_table_62 hl (by decide) rfl (fun ls hl => ?_)
        obtain ⟨tg36, x37, x38, x39, x40, v41, hf⟩ := bd5_some hf
        refine LP64 FU _ _ _ _ _ _ _ _ _ _ _ _ _ _ _ _ _ _ _ _ _ _ _ _ _ _ _ _ _ _ _ _ _ _ _ _ _ _ _ _ _ _ _ _ _ _ _ _ _ _ _ _ _ _ _ _ _ _ hP hD hS v41 (lv_sub hl [1, 2, 3, 4, 5, 0] rfl) (fun etg36 H locs ls hP hD hS hl => ?_) (fun etg36 H locs ls hP hD hS hl => ?_)
        · replace hf := ifp etg36 hf
          cases hf
          exact hk0 rfl _ _ _ hP hD hS (lv_sub hl [0, 1, 2, 3, 4, 5] rfl)
        · replace hf := ifn (c := tg36 = 0) (by rw [etg36]; decide) hf
          obtain ⟨w42, ew42⟩ : ∃ y : Int32, y = x6 + 1 := ⟨_, rfl⟩
          replace hf := nm_at hf ew42
          refine lv_iinc (v := w42) (lv' := [(6, .int w42), (0, .ref (ad 0)), (2, .int x2), (4, .int x4), (5, .int x37)]) hx hb dX9_table_190 hl (k := 4) rfl (by rw [ew42]; rfl) (by decide) rfl (fun ls hl => ?_)
          refine lv_goto (tgt := 55) hx hb dX9_table_193 (by decide) ?_
          exact ih55 _ _ _ _ _ _ _ _ _ _ _ _ _ _ _ _ _ _ _ _ _ _ _ _ _ _ _ _ _ _ _ _ _ _ _ _ _ _ _ _ _ _ _ _ _ _ _ _ _ _ _ _ _ _ _ _ _ hP hD hS hf (lv_sub hl [1, 2, 3, 4, 0] rfl) hk0 hk1
  subst hQ
  unfold fX9_table at hf
  refine lv_iload_n hx hb dX9_table_0 rfl (lv_at hl 1 rfl) ?_
  obtain ⟨r1, v2, hf⟩ := bd1_some hf
  refine gci0 (va_runS (As := [.int p1]) (rest := []) ⟨hx, hb, hml, hown, hts⟩ (tX9_isBond l dC dI dA s.heap.size v2) (ccX9_X9_isBond hts ⟨Nat.le_of_ble_eq_true rfl, Nat.le_of_ble_eq_true rfl⟩) (gPreS0 hK) rfl rfl hl.1 rfl (lv_room (Nat.le_of_ble_eq_true rfl)) dX9_table_1 ⟨Nat.le_of_ble_eq_true rfl, Nat.le_of_ble_eq_true rfl⟩) hP hS hA (fun H locs hP hS => ?_)
  refine lv_if_eq (tgt := 40) hx hb dX9_table_4 (by decide) (fun k3 => ?_) (fun k3 => ?_)
  · replace hf := ifp k3 hf
    refine lv_ldc2 (v := (-1)) hx hb hown (hts _ (gw_mem wkX9_116)) dX9_table_40 ?_
    cases hf
    exact W.lret hx hb hr (fun t ht _ => gql hP hD hS ht) hS.2.2 dX9_table_43
  · replace hf := ifn k3 hf
    refine lv_iload_n hx hb dX9_table_7 rfl (lv_at hl 2 rfl) ?_
    refine lv_i2l hx hb dX9_table_8 rfl ?_
    refine lv_lconst (v := 0) hx hb dX9_table_9 rfl ?_
    refine lv_aload_n hx hb dX9_table_10 rfl (lv_at hl 0 rfl) ?_
    refine va_get (D := (dC, dI)) (ci := 9) (v := .ref (ad 2)) (C := RX9) (T := TX9) (N := 45) hx hb hts (fun w h => gw_mem (inX9 w h)) hown hK.1 hP 0 rfl rfl 2 (by decide) (hts _ (gw_mem wfX9_13)) (fun _ h9 => h9) rfl dX9_table_11 ?_
    refine lv_iconst (v := 0) hx hb dX9_table_14 (by decide) ?_
    refine va_iald hx hb hK.1 hP 2 0 rfl rfl (okI_in (by decide)) dX9_table_15 ?_
    refine lv_i2l hx hb dX9_table_16 rfl ?_
    obtain ⟨r4, v5, hf⟩ := bd1_some hf
    refine gci0 (va_runS (As := [.long (Int32.toInt64 p2), .long 0, .long (Int32.toInt64 (c_tree (Int32.toNatClampNeg 0)))]) (rest := []) ⟨hx, hb, hml, hown, hts⟩ (tX9_in l dC dI dA H.size v5) (ccX9_X9_in hts ⟨Nat.le_of_ble_eq_true rfl, Nat.le_of_ble_eq_true rfl⟩) (gPreS0 hK) rfl rfl hl.1 rfl (lv_room (Nat.le_of_ble_eq_true rfl)) dX9_table_17 ⟨Nat.le_of_ble_eq_true rfl, Nat.le_of_ble_eq_true rfl⟩) hP hS hA (fun H locs hP hS => ?_)
    refine lv_if_eq (tgt := 40) hx hb dX9_table_20 (by decide) (fun k6 => ?_) (fun k6 => ?_)
    · replace hf := ifp k6 hf
      refine lv_ldc2 (v := (-1)) hx hb hown (hts _ (gw_mem wkX9_116)) dX9_table_40 ?_
      cases hf
      exact W.lret hx hb hr (fun t ht _ => gql hP hD hS ht) hS.2.2 dX9_table_43
    · replace hf := ifn k6 hf
      refine lv_iload_n hx hb dX9_table_23 rfl (lv_at hl 3 rfl) ?_
      refine lv_if_lt (tgt := 40) hx hb dX9_table_24 (by decide) (fun k7 => ?_) (fun k7 => ?_)
      · replace hf := ifp k7 hf
        refine lv_ldc2 (v := (-1)) hx hb hown (hts _ (gw_mem wkX9_116)) dX9_table_40 ?_
        cases hf
        exact W.lret hx hb hr (fun t ht _ => gql hP hD hS ht) hS.2.2 dX9_table_43
      · replace hf := ifn k7 hf
        refine lv_iload hx hb dX9_table_27 (lv_at hl 4 rfl) ?_
        refine lv_i2l hx hb dX9_table_29 rfl ?_
        refine lv_lconst (v := 0) hx hb dX9_table_30 rfl ?_
        refine lv_ldc2 (v := 4) hx hb hown (hts _ (gw_mem wkX9_147)) dX9_table_31 ?_
        obtain ⟨r8, v9, hf⟩ := bd1_some hf
        refine gci0 (va_runS (As := [.long (Int32.toInt64 p4), .long 0, .long 4]) (rest := []) ⟨hx, hb, hml, hown, hts⟩ (tX9_in l dC dI dA H.size v9) (ccX9_X9_in hts ⟨Nat.le_of_ble_eq_true rfl, Nat.le_of_ble_eq_true rfl⟩) (gPreS0 hK) rfl rfl hl.1 rfl (lv_room (Nat.le_of_ble_eq_true rfl)) dX9_table_34 ⟨Nat.le_of_ble_eq_true rfl, Nat.le_of_ble_eq_true rfl⟩) hP hS hA (fun H locs hP hS => ?_)
        refine lv_if_ne (tgt := 44) hx hb dX9_table_37 (by decide) (fun k10 => ?_) (fun k10 => ?_)
        · replace hf := ifn k10 hf
          refine lv_aload_n hx hb dX9_table_44 rfl (lv_at hl 0 rfl) ?_
          refine lv_iload_n hx hb dX9_table_45 rfl (lv_at hl 1 rfl) ?_
          obtain ⟨c_days_11, c_likely_12, c_outOf_13, c_rateNow_14, c_pence_15, c_top_16, c_bottom_17, c_worth_18, c_hold_19, c_way_20, c_acts_21, v22, hf⟩ := bd11_some hf
          refine gcv (va_runV (As := [.int p1]) (rest := []) ⟨hx, hb, hml, hown, hts⟩ (tX9_laysAll l dC dI dA ad H.size v22) (ccX9_X9_laysAll hts ⟨Nat.le_of_ble_eq_true rfl, Nat.le_of_ble_eq_true rfl⟩) (gPreV (ci := 9) (q0 := 0) hP hK hD rfl rfl) rfl rfl hl.1 rfl (lv_room (Nat.le_of_ble_eq_true rfl)) dX9_table_46 ⟨Nat.le_of_ble_eq_true rfl, Nat.le_of_ble_eq_true rfl⟩) hD hS hA (fun H locs hP hD hS => ?_)
          refine lv_iload_n hx hb dX9_table_49 rfl (lv_at hl 3 rfl) ?_
          refine lv_istore (lv' := [(5, .int p3), (0, .ref (ad 0)), (1, .int p1), (2, .int p2), (3, .int p3), (4, .int p4)]) hx hb dX9_table_50 hl (by decide) rfl (fun ls hl => ?_)
          refine lv_iconst (v := 0) hx hb dX9_table_52 (by decide) ?_
          refine lv_istore (lv' := [(6, .int 0), (5, .int p3), (0, .ref (ad 0)), (1, .int p1), (2, .int p2), (3, .int p3), (4, .int p4)]) hx hb dX9_table_53 hl (by decide) rfl (fun ls hl => ?_)
          obtain ⟨tg23, x24, x25, x26, x27, v28, hf⟩ := bd5_some hf
          refine LP55 FU _ _ _ _ _ _ _ _ _ _ _ _ _ _ _ _ _ _ _ _ _ _ _ _ _ _ _ _ _ _ _ _ _ _ _ _ _ _ _ _ _ _ _ _ _ _ _ _ _ _ _ _ _ _ _ _ _ hP hD hS v28 (lv_sub hl [2, 4, 6, 1, 0] rfl) (fun etg23 H locs ls hP hD hS hl => ?_) (fun etg23 H locs ls hP hD hS hl => ?_)
          · replace hf := ifp etg23 hf
            refine lv_iload hx hb dX9_table_112 (lv_at hl 1 rfl) ?_
            refine lv_if_ne (tgt := 123) hx hb dX9_table_114 (by decide) (fun k29 => ?_) (fun k29 => ?_)
            · replace hf := ifn k29 hf
              refine lv_iload hx hb dX9_table_123 (lv_at hl 1 rfl) ?_
              refine lv_iconst (v := 1) hx hb dX9_table_125 (by decide) ?_
              refine lv_icmp_ne (tgt := 135) hx hb dX9_table_126 (by decide) (fun k30 => ?_) (fun k30 => ?_)
              · replace hf := ifn k30 hf
                refine lv_iload hx hb dX9_table_135 (lv_at hl 1 rfl) ?_
                refine lv_iconst (v := 2) hx hb dX9_table_137 (by decide) ?_
                refine lv_icmp_ne (tgt := 147) hx hb dX9_table_138 (by decide) (fun k31 => ?_) (fun k31 => ?_)
                · replace hf := ifn k31 hf
                  refine lv_iload hx hb dX9_table_147 (lv_at hl 1 rfl) ?_
                  refine lv_iconst (v := 3) hx hb dX9_table_149 (by decide) ?_
                  refine lv_icmp_ne (tgt := 163) hx hb dX9_table_150 (by decide) (fun k32 => ?_) (fun k32 => ?_)
                  · replace hf := ifn k32 hf
                    refine lv_aload_n hx hb dX9_table_163 rfl (lv_at hl 0 rfl) ?_
                    refine va_get (D := (dC, dI)) (ci := 9) (v := .ref (ad 10)) (C := RX9) (T := TX9) (N := 45) hx hb hts (fun w h => gw_mem (inX9 w h)) hown hK.1 hP 0 rfl rfl 27 (by decide) (hts _ (gw_mem wfX9_39)) (fun _ h9 => h9) rfl dX9_table_164 ?_
                    refine lv_iload hx hb dX9_table_167 (lv_at hl 5 rfl) ?_
                    obtain ⟨h33, hf⟩ := og_some hf
                    refine va_iald hx hb hK.1 hP 10 0 rfl rfl (okI_in h33) dX9_table_169 ?_
                    refine lv_i2l hx hb dX9_table_170 rfl ?_
                    cases hf
                    exact W.lret hx hb hr (fun t ht _ => gql hP hD hS ht) hS.2.2 dX9_table_171
                  · replace hf := ifp k32 hf
                    refine lv_aload_n hx hb dX9_table_153 rfl (lv_at hl 0 rfl) ?_
                    refine va_get (D := (dC, dI)) (ci := 9) (v := .ref (ad 7)) (C := RX9) (T := TX9) (N := 45) hx hb hts (fun w h => gw_mem (inX9 w h)) hown hK.1 hP 0 rfl rfl 24 (by decide) (hts _ (gw_mem wfX9_30)) (fun _ h9 => h9) rfl dX9_table_154 ?_
                    refine lv_iload hx hb dX9_table_157 (lv_at hl 5 rfl) ?_
                    obtain ⟨h34, hf⟩ := og_some hf
                    refine va_lald hx hb hK.1 hP 7 1 rfl rfl (okI_in h34) dX9_table_159 ?_
                    refine lv_goto (tgt := 171) hx hb dX9_table_160 (by decide) ?_
                    cases hf
                    exact W.lret hx hb hr (fun t ht _ => gql hP hD hS ht) hS.2.2 dX9_table_171
                · replace hf := ifp k31 hf
                  refine lv_iload hx hb dX9_table_141 (lv_at hl 4 rfl) ?_
                  refine lv_i2l hx hb dX9_table_143 rfl ?_
                  refine lv_goto (tgt := 171) hx hb dX9_table_144 (by decide) ?_
                  cases hf
                  exact W.lret hx hb hr (fun t ht _ => gql hP hD hS ht) hS.2.2 dX9_table_171
              · replace hf := ifp k30 hf
                refine lv_iload hx hb dX9_table_129 (lv_at hl 3 rfl) ?_
                refine lv_i2l hx hb dX9_table_131 rfl ?_
                refine lv_goto (tgt := 171) hx hb dX9_table_132 (by decide) ?_
                cases hf
                exact W.lret hx hb hr (fun t ht _ => gql hP hD hS ht) hS.2.2 dX9_table_171
            · replace hf := ifp k29 hf
              refine lv_iload hx hb dX9_table_117 (lv_at hl 2 rfl) ?_
              refine lv_i2l hx hb dX9_table_119 rfl ?_
              refine lv_goto (tgt := 171) hx hb dX9_table_120 (by decide) ?_
              cases hf
              exact W.lret hx hb hr (fun t ht _ => gql hP hD hS ht) hS.2.2 dX9_table_171
          · replace hf := ifn (c := tg23 = 0) (by rw [etg23]; decide) hf
            refine lv_ldc2 (v := (-2)) hx hb hown (hts _ (gw_mem wkX9_343)) dX9_table_196 ?_
            cases hf
            exact W.lret hx hb hr (fun t ht _ => gql hP hD hS ht) hS.2.2 dX9_table_199
        · replace hf := ifp k10 hf
          refine lv_ldc2 (v := (-1)) hx hb hown (hts _ (gw_mem wkX9_116)) dX9_table_40 ?_
          cases hf
          exact W.lret hx hb hr (fun t ht _ => gql hP hD hS ht) hS.2.2 dX9_table_43
def fX9_rise (c_pence : Nat → Int64) (c_sDay : Int32) (c_sUps : Int32) : Option (Int64) := og (okI (((7 * (c_sDay + 1)) + c_sUps) + 1) 49) (og (okI ((7 * (c_sDay + 1)) + c_sUps) 49) (some ((c_pence (Int32.toNatClampNeg (((7 * (c_sDay + 1)) + c_sUps) + 1))) - (c_pence (Int32.toNatClampNeg ((7 * (c_sDay + 1)) + c_sUps))))))
abbrev rmX9_rise : Room := { frames := 0, cells := 0, slots := 0, locals := 0 }
set_option maxHeartbeats 4000000 in
set_option maxRecDepth 100000 in
theorem tX9_rise (l : Launch) (dC : Nat → ClassId) (dI : Nat → Nat → Nat) (dA : Nat → ClassId) (ad : Nat → Nat) (sz : Nat) {c_tape : Nat → Int32} {c_taped : Int32} {c_tree : Nat → Int32} {c_bonds : Nat → Int32} {c_moves : Nat → Int32} {c_handMoves : Nat → Int32} {c_moved : Int32} {c_days : Int32} {c_likely : Int32} {c_outOf : Int32} {c_rateNow : Int32} {c_pence : Nat → Int64} {c_top : Int64} {c_bottom : Int64} {c_spot : Int32} {c_textLong : Int32} {c_fault : Int32} {c_number : Int32} {c_numberAt : Int32} {c_figures : Int32} {c_written : Int32} {c_wanted : Int32} {c_found : Int32} {c_drawnNow : Int32} {c_worth : Nat → Int64} {c_hold : Nat → Int64} {c_way : Nat → Int64} {c_acts : Nat → Int32} {c_sDay : Int32} {c_sUps : Int32} {c_sUp : Int32} {c_sMarks : Int32} {c_paidAll : Int64} {c_isPlayed : Int32} {c_isOn : Int32} {c_handMoved : Int32} {c_handPaid : Int64} {c_regret : Int64} {c_aside : Nat → Int32} {c_other : Nat → Int64} {c_states : Int32} {c_kept : Nat → Int32} {c_keptLong : Nat → Int64} {c_keptAt : Int32} {c_isTaking : Int32} {r : Int64} (hf : fX9_rise c_pence c_sDay c_sUps = some (r)) : Met l yX9_rise (wq (Cond.code yX9_rise cX9_rise 1 (some .long))) rmX9_rise (gP [.ref (ad 0)] (dC, dI) dA (mW dA ad c_tape c_taped c_tree c_bonds c_moves c_handMoves c_moved c_days c_likely c_outOf c_rateNow c_pence c_top c_bottom c_spot c_textLong c_fault c_number c_numberAt c_figures c_written c_wanted c_found c_drawnNow c_worth c_hold c_way c_acts c_sDay c_sUps c_sUp c_sMarks c_paidAll c_isPlayed c_isOn c_handMoved c_handPaid c_regret c_aside c_other c_states c_kept c_keptLong c_keptAt c_isTaking) sz) (gQl (dC, dI) r (mW dA ad c_tape c_taped c_tree c_bonds c_moves c_handMoves c_moved c_days c_likely c_outOf c_rateNow c_pence c_top c_bottom c_spot c_textLong c_fault c_number c_numberAt c_figures c_written c_wanted c_found c_drawnNow c_worth c_hold c_way c_acts c_sDay c_sUps c_sUp c_sMarks c_paidAll c_isPlayed c_isOn c_handMoved c_handPaid c_regret c_aside c_other c_states c_kept c_keptLong c_keptAt c_isTaking) (va_A (mW dA ad c_tape c_taped c_tree c_bonds c_moves c_handMoves c_moved c_days c_likely c_outOf c_rateNow c_pence c_top c_bottom c_spot c_textLong c_fault c_number c_numberAt c_figures c_written c_wanted c_found c_drawnNow c_worth c_hold c_way c_acts c_sDay c_sUps c_sUp c_sMarks c_paidAll c_isPlayed c_isOn c_handMoved c_handPaid c_regret c_aside c_other c_states c_kept c_keptLong c_keptAt c_isTaking) sz)) 0 0 (va_A (mW dA ad c_tape c_taped c_tree c_bonds c_moves c_handMoves c_moved c_days c_likely c_outOf c_rateNow c_pence c_top c_bottom c_spot c_textLong c_fault c_number c_numberAt c_figures c_written c_wanted c_found c_drawnNow c_worth c_hold c_way c_acts c_sDay c_sUps c_sUp c_sMarks c_paidAll c_isPlayed c_isOn c_handMoved c_handPaid c_regret c_aside c_other c_states c_kept c_keptLong c_keptAt c_isTaking) sz) := by
  refine Met.ofW (cc := cX9_rise) (maxL := 1) (ret := (some .long)) (by decide) rfl ?_
  intro p e s m args below meth c s₁ B hml hv
  obtain ⟨rfl, hsz, hP, hK, hD0⟩ := hv
  have hx := B.exec
  have hb := B.bytes
  have hr := B.returns
  have hts := atoms_spec (ws := wq (Cond.code yX9_rise cX9_rise 1 (some .long))) B.pre
  have hown : s.vm.findClass RX9 = some m.cls := findClass_of_methodNamed B.named
  have hlocks := B.notSynchronized
  clear B
  subst hsz
  have hD := hD0.self (sz := s.heap.size)
  generalize hAe : va_A (mW dA ad c_tape c_taped c_tree c_bonds c_moves c_handMoves c_moved c_days c_likely c_outOf c_rateNow c_pence c_top c_bottom c_spot c_textLong c_fault c_number c_numberAt c_figures c_written c_wanted c_found c_drawnNow c_worth c_hold c_way c_acts c_sDay c_sUps c_sUp c_sMarks c_paidAll c_isPlayed c_isOn c_handMoved c_handPaid c_regret c_aside c_other c_states c_kept c_keptLong c_keptAt c_isTaking) s.heap.size = A at hD ⊢
  have hA : ∀ q : Nat, s.heap.size ≤ q → A q := fun q h => by rw [← hAe]; exact Or.inr h
  clear hAe hD0
  have hS : va_S A s.heap s.heap [] := va_S.rf
  have hl := lv_entry ([.ref (ad 0)]) (n := 1) (Nat.le_of_ble_eq_true rfl)
  rw [lg_entry_eq]
  generalize (lg_sl ([.ref (ad 0)]) ++ List.replicate (1 - (lg_sl ([.ref (ad 0)])).length) Slot.unset).toArray = ls at hl ⊢
  have hl : lv_has ls 1 [(0, .ref (ad 0))] := hl
  change W p l e rmX9_rise s m ([.ref (ad 0)] : List Value).toArray below meth c s.heap [] 0 0 _ _
  unfold fX9_rise at hf
  refine lv_aload_n hx hb dX9_rise_0 rfl (lv_at hl 0 rfl) ?_
  refine va_get (D := (dC, dI)) (ci := 9) (v := .ref (ad 6)) (C := RX9) (T := TX9) (N := 45) hx hb hts (fun w h => gw_mem (inX9 w h)) hown hK.1 hP 0 rfl rfl 11 (by decide) (hts _ (gw_mem wfX9_26)) (fun _ h9 => h9) rfl dX9_rise_1 ?_
  refine lv_bipush (v := 7) hx hb dX9_rise_4 (by decide) ?_
  refine lv_aload_n hx hb dX9_rise_6 rfl (lv_at hl 0 rfl) ?_
  refine va_get (D := (dC, dI)) (ci := 9) (v := .int c_sDay) (C := RX9) (T := TX9) (N := 45) hx hb hts (fun w h => gw_mem (inX9 w h)) hown hK.1 hP 0 rfl rfl 28 (by decide) (hts _ (gw_mem wfX9_316)) (fun _ h9 => h9) rfl dX9_rise_7 ?_
  refine lv_iconst (v := 1) hx hb dX9_rise_10 (by decide) ?_
  refine lv_iadd hx hb dX9_rise_11 ?_
  refine lv_imul hx hb dX9_rise_12 ?_
  refine lv_aload_n hx hb dX9_rise_13 rfl (lv_at hl 0 rfl) ?_
  refine va_get (D := (dC, dI)) (ci := 9) (v := .int c_sUps) (C := RX9) (T := TX9) (N := 45) hx hb hts (fun w h => gw_mem (inX9 w h)) hown hK.1 hP 0 rfl rfl 29 (by decide) (hts _ (gw_mem wfX9_319)) (fun _ h9 => h9) rfl dX9_rise_14 ?_
  refine lv_iadd hx hb dX9_rise_17 ?_
  refine lv_iconst (v := 1) hx hb dX9_rise_18 (by decide) ?_
  refine lv_iadd hx hb dX9_rise_19 ?_
  obtain ⟨h1, hf⟩ := og_some hf
  refine va_lald hx hb hK.1 hP 6 1 rfl rfl (okI_in h1) dX9_rise_20 ?_
  refine lv_aload_n hx hb dX9_rise_21 rfl (lv_at hl 0 rfl) ?_
  refine va_get (D := (dC, dI)) (ci := 9) (v := .ref (ad 6)) (C := RX9) (T := TX9) (N := 45) hx hb hts (fun w h => gw_mem (inX9 w h)) hown hK.1 hP 0 rfl rfl 11 (by decide) (hts _ (gw_mem wfX9_26)) (fun _ h9 => h9) rfl dX9_rise_22 ?_
  refine lv_bipush (v := 7) hx hb dX9_rise_25 (by decide) ?_
  refine lv_aload_n hx hb dX9_rise_27 rfl (lv_at hl 0 rfl) ?_
  refine va_get (D := (dC, dI)) (ci := 9) (v := .int c_sDay) (C := RX9) (T := TX9) (N := 45) hx hb hts (fun w h => gw_mem (inX9 w h)) hown hK.1 hP 0 rfl rfl 28 (by decide) (hts _ (gw_mem wfX9_316)) (fun _ h9 => h9) rfl dX9_rise_28 ?_
  refine lv_iconst (v := 1) hx hb dX9_rise_31 (by decide) ?_
  refine lv_iadd hx hb dX9_rise_32 ?_
  refine lv_imul hx hb dX9_rise_33 ?_
  refine lv_aload_n hx hb dX9_rise_34 rfl (lv_at hl 0 rfl) ?_
  refine va_get (D := (dC, dI)) (ci := 9) (v := .int c_sUps) (C := RX9) (T := TX9) (N := 45) hx hb hts (fun w h => gw_mem (inX9 w h)) hown hK.1 hP 0 rfl rfl 29 (by decide) (hts _ (gw_mem wfX9_319)) (fun _ h9 => h9) rfl dX9_rise_35 ?_
  refine lv_iadd hx hb dX9_rise_38 ?_
  obtain ⟨h2, hf⟩ := og_some hf
  refine va_lald hx hb hK.1 hP 6 1 rfl rfl (okI_in h2) dX9_rise_39 ?_
  refine lv_lsub hx hb dX9_rise_40 ?_
  cases hf
  exact W.lret hx hb hr (fun t ht _ => gql hP hD hS ht) hS.2.2 dX9_rise_41
theorem ccX9_X9_rise {R : Room} {s : State} {args : Array Value} {c0 : Cond} (ht : ∀ w ∈ wq c0, w.before args s = true) (hR : rmX9_rise.frames + 1 ≤ R.frames ∧ 8 + (1 + 11) + rmX9_rise.locals ≤ R.locals) : CallW R s args RX9 RX9 382 yX9_rise cX9_rise 1 (some .long) (wq (.code yX9_rise cX9_rise 1 (some .long))) rmX9_rise 0 0 0 := gCW 0 ht wcX9_rise wmX9_382 wiX9_rise weX9_rise wnX9 (by decide +kernel) rfl rfl hR
def fX9_heldOf (p1 : Int32) (c_bonds : Nat → Int32) (c_pence : Nat → Int64) (c_worth : Nat → Int64) (c_sDay : Int32) (c_sUps : Int32) (c_sUp : Int32) (c_sMarks : Int32) : Option (Int64) := bd1 (fX9_then p1 c_sDay c_sUps c_sUp c_sMarks 1 c_bonds c_pence) (fun r1 => og (okI r1 784) (nm (c_worth (Int32.toNatClampNeg r1)) (fun w4 => bd1 (fX9_then p1 c_sDay c_sUps c_sUp c_sMarks 0 c_bonds c_pence) (fun r5 => og (okI r5 784) (nm (c_worth (Int32.toNatClampNeg r5)) (fun w8 => bd1 (fX9_rise c_pence c_sDay c_sUps) (fun r9 => og (nzL r9) (some ((1000 * (w4 - w8)) / r9)))))))))
abbrev rmX9_heldOf : Room := { frames := 3, cells := 0, slots := 0, locals := 71 }
set_option maxHeartbeats 4000000 in
set_option maxRecDepth 100000 in
theorem tX9_heldOf (l : Launch) (dC : Nat → ClassId) (dI : Nat → Nat → Nat) (dA : Nat → ClassId) (ad : Nat → Nat) (sz : Nat) {p1 : Int32} {c_tape : Nat → Int32} {c_taped : Int32} {c_tree : Nat → Int32} {c_bonds : Nat → Int32} {c_moves : Nat → Int32} {c_handMoves : Nat → Int32} {c_moved : Int32} {c_days : Int32} {c_likely : Int32} {c_outOf : Int32} {c_rateNow : Int32} {c_pence : Nat → Int64} {c_top : Int64} {c_bottom : Int64} {c_spot : Int32} {c_textLong : Int32} {c_fault : Int32} {c_number : Int32} {c_numberAt : Int32} {c_figures : Int32} {c_written : Int32} {c_wanted : Int32} {c_found : Int32} {c_drawnNow : Int32} {c_worth : Nat → Int64} {c_hold : Nat → Int64} {c_way : Nat → Int64} {c_acts : Nat → Int32} {c_sDay : Int32} {c_sUps : Int32} {c_sUp : Int32} {c_sMarks : Int32} {c_paidAll : Int64} {c_isPlayed : Int32} {c_isOn : Int32} {c_handMoved : Int32} {c_handPaid : Int64} {c_regret : Int64} {c_aside : Nat → Int32} {c_other : Nat → Int64} {c_states : Int32} {c_kept : Nat → Int32} {c_keptLong : Nat → Int64} {c_keptAt : Int32} {c_isTaking : Int32} {r : Int64} (hf : fX9_heldOf p1 c_bonds c_pence c_worth c_sDay c_sUps c_sUp c_sMarks = some (r)) : Met l yX9_heldOf (wq (Cond.code yX9_heldOf cX9_heldOf 6 (some .long))) rmX9_heldOf (gP [.ref (ad 0), .int p1] (dC, dI) dA (mW dA ad c_tape c_taped c_tree c_bonds c_moves c_handMoves c_moved c_days c_likely c_outOf c_rateNow c_pence c_top c_bottom c_spot c_textLong c_fault c_number c_numberAt c_figures c_written c_wanted c_found c_drawnNow c_worth c_hold c_way c_acts c_sDay c_sUps c_sUp c_sMarks c_paidAll c_isPlayed c_isOn c_handMoved c_handPaid c_regret c_aside c_other c_states c_kept c_keptLong c_keptAt c_isTaking) sz) (gQl (dC, dI) r (mW dA ad c_tape c_taped c_tree c_bonds c_moves c_handMoves c_moved c_days c_likely c_outOf c_rateNow c_pence c_top c_bottom c_spot c_textLong c_fault c_number c_numberAt c_figures c_written c_wanted c_found c_drawnNow c_worth c_hold c_way c_acts c_sDay c_sUps c_sUp c_sMarks c_paidAll c_isPlayed c_isOn c_handMoved c_handPaid c_regret c_aside c_other c_states c_kept c_keptLong c_keptAt c_isTaking) (va_A (mW dA ad c_tape c_taped c_tree c_bonds c_moves c_handMoves c_moved c_days c_likely c_outOf c_rateNow c_pence c_top c_bottom c_spot c_textLong c_fault c_number c_numberAt c_figures c_written c_wanted c_found c_drawnNow c_worth c_hold c_way c_acts c_sDay c_sUps c_sUp c_sMarks c_paidAll c_isPlayed c_isOn c_handMoved c_handPaid c_regret c_aside c_other c_states c_kept c_keptLong c_keptAt c_isTaking) sz)) 0 0 (va_A (mW dA ad c_tape c_taped c_tree c_bonds c_moves c_handMoves c_moved c_days c_likely c_outOf c_rateNow c_pence c_top c_bottom c_spot c_textLong c_fault c_number c_numberAt c_figures c_written c_wanted c_found c_drawnNow c_worth c_hold c_way c_acts c_sDay c_sUps c_sUp c_sMarks c_paidAll c_isPlayed c_isOn c_handMoved c_handPaid c_regret c_aside c_other c_states c_kept c_keptLong c_keptAt c_isTaking) sz) := by
  refine Met.ofW (cc := cX9_heldOf) (maxL := 6) (ret := (some .long)) (by decide) rfl ?_
  intro p e s m args below meth c s₁ B hml hv
  obtain ⟨rfl, hsz, hP, hK, hD0⟩ := hv
  have hx := B.exec
  have hb := B.bytes
  have hr := B.returns
  have hts := atoms_spec (ws := wq (Cond.code yX9_heldOf cX9_heldOf 6 (some .long))) B.pre
  have hown : s.vm.findClass RX9 = some m.cls := findClass_of_methodNamed B.named
  have hlocks := B.notSynchronized
  clear B
  subst hsz
  have hD := hD0.self (sz := s.heap.size)
  generalize hAe : va_A (mW dA ad c_tape c_taped c_tree c_bonds c_moves c_handMoves c_moved c_days c_likely c_outOf c_rateNow c_pence c_top c_bottom c_spot c_textLong c_fault c_number c_numberAt c_figures c_written c_wanted c_found c_drawnNow c_worth c_hold c_way c_acts c_sDay c_sUps c_sUp c_sMarks c_paidAll c_isPlayed c_isOn c_handMoved c_handPaid c_regret c_aside c_other c_states c_kept c_keptLong c_keptAt c_isTaking) s.heap.size = A at hD ⊢
  have hA : ∀ q : Nat, s.heap.size ≤ q → A q := fun q h => by rw [← hAe]; exact Or.inr h
  clear hAe hD0
  have hS : va_S A s.heap s.heap [] := va_S.rf
  have hl := lv_entry ([.ref (ad 0), .int p1]) (n := 6) (Nat.le_of_ble_eq_true rfl)
  rw [lg_entry_eq]
  generalize (lg_sl ([.ref (ad 0), .int p1]) ++ List.replicate (6 - (lg_sl ([.ref (ad 0), .int p1])).length) Slot.unset).toArray = ls at hl ⊢
  have hl : lv_has ls 6 [(0, .ref (ad 0)), (1, .int p1)] := hl
  change W p l e rmX9_heldOf s m ([.ref (ad 0), .int p1] : List Value).toArray below meth c s.heap [] 0 0 _ _
  unfold fX9_heldOf at hf
  refine lv_aload_n hx hb dX9_heldOf_0 rfl (lv_at hl 0 rfl) ?_
  refine va_get (D := (dC, dI)) (ci := 9) (v := .ref (ad 7)) (C := RX9) (T := TX9) (N := 45) hx hb hts (fun w h => gw_mem (inX9 w h)) hown hK.1 hP 0 rfl rfl 24 (by decide) (hts _ (gw_mem wfX9_30)) (fun _ h9 => h9) rfl dX9_heldOf_1 ?_
  refine lv_aload_n hx hb dX9_heldOf_4 rfl (lv_at hl 0 rfl) ?_
  refine lv_iload_n hx hb dX9_heldOf_5 rfl (lv_at hl 1 rfl) ?_
  refine lv_aload_n hx hb dX9_heldOf_6 rfl (lv_at hl 0 rfl) ?_
  refine va_get (D := (dC, dI)) (ci := 9) (v := .int c_sDay) (C := RX9) (T := TX9) (N := 45) hx hb hts (fun w h => gw_mem (inX9 w h)) hown hK.1 hP 0 rfl rfl 28 (by decide) (hts _ (gw_mem wfX9_316)) (fun _ h9 => h9) rfl dX9_heldOf_7 ?_
  refine lv_aload_n hx hb dX9_heldOf_10 rfl (lv_at hl 0 rfl) ?_
  refine va_get (D := (dC, dI)) (ci := 9) (v := .int c_sUps) (C := RX9) (T := TX9) (N := 45) hx hb hts (fun w h => gw_mem (inX9 w h)) hown hK.1 hP 0 rfl rfl 29 (by decide) (hts _ (gw_mem wfX9_319)) (fun _ h9 => h9) rfl dX9_heldOf_11 ?_
  refine lv_aload_n hx hb dX9_heldOf_14 rfl (lv_at hl 0 rfl) ?_
  refine va_get (D := (dC, dI)) (ci := 9) (v := .int c_sUp) (C := RX9) (T := TX9) (N := 45) hx hb hts (fun w h => gw_mem (inX9 w h)) hown hK.1 hP 0 rfl rfl 30 (by decide) (hts _ (gw_mem wfX9_322)) (fun _ h9 => h9) rfl dX9_heldOf_15 ?_
  refine lv_aload_n hx hb dX9_heldOf_18 rfl (lv_at hl 0 rfl) ?_
  refine va_get (D := (dC, dI)) (ci := 9) (v := .int c_sMarks) (C := RX9) (T := TX9) (N := 45) hx hb hts (fun w h => gw_mem (inX9 w h)) hown hK.1 hP 0 rfl rfl 31 (by decide) (hts _ (gw_mem wfX9_325)) (fun _ h9 => h9) rfl dX9_heldOf_19 ?_
  refine lv_iconst (v := 1) hx hb dX9_heldOf_22 (by decide) ?_
  obtain ⟨r1, v2, hf⟩ := bd1_some hf
  refine gci (va_runV (As := [.int p1, .int c_sDay, .int c_sUps, .int c_sUp, .int c_sMarks, .int 1]) (rest := [.ref (ad 7)]) ⟨hx, hb, hml, hown, hts⟩ (tX9_then l dC dI dA ad s.heap.size v2) (ccX9_X9_then hts ⟨Nat.le_of_ble_eq_true rfl, Nat.le_of_ble_eq_true rfl⟩) (gPreV (ci := 9) (q0 := 0) hP hK hD rfl rfl) rfl rfl hl.1 rfl (lv_room (Nat.le_of_ble_eq_true rfl)) dX9_heldOf_23 ⟨Nat.le_of_ble_eq_true rfl, Nat.le_of_ble_eq_true rfl⟩) hD hS hA (fun H locs hP hD hS => ?_)
  obtain ⟨h3, hf⟩ := og_some hf
  refine va_lald hx hb hK.1 hP 7 1 rfl rfl (okI_in h3) dX9_heldOf_26 ?_
  refine lv_topl (fun w4 ew4 => ?_)
  replace hf := nm_at hf ew4
  refine lv_lstore_n (lv' := [(2, .long w4), (0, .ref (ad 0)), (1, .int p1)]) hx hb dX9_heldOf_27 rfl hl (by decide) rfl (fun ls hl => ?_)
  refine lv_aload_n hx hb dX9_heldOf_28 rfl (lv_at hl 1 rfl) ?_
  refine va_get (D := (dC, dI)) (ci := 9) (v := .ref (ad 7)) (C := RX9) (T := TX9) (N := 45) hx hb hts (fun w h => gw_mem (inX9 w h)) hown hK.1 hP 0 rfl rfl 24 (by decide) (hts _ (gw_mem wfX9_30)) (fun _ h9 => h9) rfl dX9_heldOf_29 ?_
  refine lv_aload_n hx hb dX9_heldOf_32 rfl (lv_at hl 1 rfl) ?_
  refine lv_iload_n hx hb dX9_heldOf_33 rfl (lv_at hl 2 rfl) ?_
  refine lv_aload_n hx hb dX9_heldOf_34 rfl (lv_at hl 1 rfl) ?_
  refine va_get (D := (dC, dI)) (ci := 9) (v := .int c_sDay) (C := RX9) (T := TX9) (N := 45) hx hb hts (fun w h => gw_mem (inX9 w h)) hown hK.1 hP 0 rfl rfl 28 (by decide) (hts _ (gw_mem wfX9_316)) (fun _ h9 => h9) rfl dX9_heldOf_35 ?_
  refine lv_aload_n hx hb dX9_heldOf_38 rfl (lv_at hl 1 rfl) ?_
  refine va_get (D := (dC, dI)) (ci := 9) (v := .int c_sUps) (C := RX9) (T := TX9) (N := 45) hx hb hts (fun w h => gw_mem (inX9 w h)) hown hK.1 hP 0 rfl rfl 29 (by decide) (hts _ (gw_mem wfX9_319)) (fun _ h9 => h9) rfl dX9_heldOf_39 ?_
  refine lv_aload_n hx hb dX9_heldOf_42 rfl (lv_at hl 1 rfl) ?_
  refine va_get (D := (dC, dI)) (ci := 9) (v := .int c_sUp) (C := RX9) (T := TX9) (N := 45) hx hb hts (fun w h => gw_mem (inX9 w h)) hown hK.1 hP 0 rfl rfl 30 (by decide) (hts _ (gw_mem wfX9_322)) (fun _ h9 => h9) rfl dX9_heldOf_43 ?_
  refine lv_aload_n hx hb dX9_heldOf_46 rfl (lv_at hl 1 rfl) ?_
  refine va_get (D := (dC, dI)) (ci := 9) (v := .int c_sMarks) (C := RX9) (T := TX9) (N := 45) hx hb hts (fun w h => gw_mem (inX9 w h)) hown hK.1 hP 0 rfl rfl 31 (by decide) (hts _ (gw_mem wfX9_325)) (fun _ h9 => h9) rfl dX9_heldOf_47 ?_
  refine lv_iconst (v := 0) hx hb dX9_heldOf_50 (by decide) ?_
  obtain ⟨r5, v6, hf⟩ := bd1_some hf
  refine gci (va_runV (As := [.int p1, .int c_sDay, .int c_sUps, .int c_sUp, .int c_sMarks, .int 0]) (rest := [.ref (ad 7)]) ⟨hx, hb, hml, hown, hts⟩ (tX9_then l dC dI dA ad H.size v6) (ccX9_X9_then hts ⟨Nat.le_of_ble_eq_true rfl, Nat.le_of_ble_eq_true rfl⟩) (gPreV (ci := 9) (q0 := 0) hP hK hD rfl rfl) rfl rfl hl.1 rfl (lv_room (Nat.le_of_ble_eq_true rfl)) dX9_heldOf_51 ⟨Nat.le_of_ble_eq_true rfl, Nat.le_of_ble_eq_true rfl⟩) hD hS hA (fun H locs hP hD hS => ?_)
  obtain ⟨h7, hf⟩ := og_some hf
  refine va_lald hx hb hK.1 hP 7 1 rfl rfl (okI_in h7) dX9_heldOf_54 ?_
  refine lv_topl (fun w8 ew8 => ?_)
  replace hf := nm_at hf ew8
  refine lv_lstore (lv' := [(4, .long w8), (2, .long w4), (0, .ref (ad 0)), (1, .int p1)]) hx hb dX9_heldOf_55 hl (by decide) rfl (fun ls hl => ?_)
  refine lv_ldc2 (v := 1000) hx hb hown (hts _ (gw_mem wkX9_74)) dX9_heldOf_57 ?_
  refine lv_lload_n hx hb dX9_heldOf_60 rfl (lv_at hl 1 rfl) ?_
  refine lv_lload hx hb dX9_heldOf_61 (lv_at hl 0 rfl) ?_
  refine lv_lsub hx hb dX9_heldOf_63 ?_
  refine lv_lmul hx hb dX9_heldOf_64 ?_
  refine lv_aload_n hx hb dX9_heldOf_65 rfl (lv_at hl 2 rfl) ?_
  obtain ⟨r9, v10, hf⟩ := bd1_some hf
  refine gcl (va_runV (As := []) (rest := [.long (1000 * (w4 - w8))]) ⟨hx, hb, hml, hown, hts⟩ (tX9_rise l dC dI dA ad H.size v10) (ccX9_X9_rise hts ⟨Nat.le_of_ble_eq_true rfl, Nat.le_of_ble_eq_true rfl⟩) (gPreV (ci := 9) (q0 := 0) hP hK hD rfl rfl) rfl rfl hl.1 rfl (lv_room (Nat.le_of_ble_eq_true rfl)) dX9_heldOf_66 ⟨Nat.le_of_ble_eq_true rfl, Nat.le_of_ble_eq_true rfl⟩) hD hS hA (fun H locs hP hD hS => ?_)
  obtain ⟨h11, hf⟩ := og_some hf
  refine lv_ldiv hx hb dX9_heldOf_69 (nzL_ne h11) ?_
  cases hf
  exact W.lret hx hb hr (fun t ht _ => gql hP hD hS ht) hS.2.2 dX9_heldOf_70
theorem ccX9_X9_heldOf {R : Room} {s : State} {args : Array Value} {c0 : Cond} (ht : ∀ w ∈ wq c0, w.before args s = true) (hR : rmX9_heldOf.frames + 1 ≤ R.frames ∧ 8 + (6 + 11) + rmX9_heldOf.locals ≤ R.locals) : CallW R s args RX9 RX9 388 yX9_heldOf cX9_heldOf 6 (some .long) (wq (.code yX9_heldOf cX9_heldOf 6 (some .long))) rmX9_heldOf 0 0 1 := gCW 1 ht wcX9_heldOf wmX9_388 wiX9_heldOf weX9_heldOf wnX9 (by decide +kernel) rfl rfl hR
def fX9_held (p1 : Int32) (c_tree : Nat → Int32) (c_bonds : Nat → Int32) (c_moves : Nat → Int32) (c_moved : Int32) (c_days : Int32) (c_likely : Int32) (c_outOf : Int32) (c_rateNow : Int32) (c_pence : Nat → Int64) (c_top : Int64) (c_bottom : Int64) (c_worth : Nat → Int64) (c_hold : Nat → Int64) (c_acts : Nat → Int32) (c_sDay : Int32) (c_sUps : Int32) (c_sUp : Int32) (c_sMarks : Int32) : Option (Int64 × Int32 × Int32 × Int32 × Int32 × (Nat → Int64) × Int64 × Int64 × (Nat → Int64) × (Nat → Int64) × (Nat → Int32) × Int32 × Int32 × Int32 × Int32) := bd1 (fX9_isBond p1) (fun r1 => if r1 = 0 then some ((-9223372036854775808), c_days, c_likely, c_outOf, c_rateNow, c_pence, c_top, c_bottom, c_worth, c_hold, c_acts, c_sDay, c_sUps, c_sUp, c_sMarks) else bd10 (fX9_playsNow p1 c_tree c_bonds c_days c_likely c_outOf c_rateNow c_pence c_top c_bottom c_worth c_hold c_acts) (fun c_days_4 c_likely_5 c_outOf_6 c_rateNow_7 c_pence_8 c_top_9 c_bottom_10 c_worth_11 c_hold_12 c_acts_13 => bd4 (fX9_follows p1 c_moved c_bonds c_moves c_pence_8 c_sDay c_sUps c_sUp c_sMarks) (fun c_sDay_15 c_sUps_16 c_sUp_17 c_sMarks_18 => if c_sDay_15 = c_days_4 then some ((-2), c_days_4, c_likely_5, c_outOf_6, c_rateNow_7, c_pence_8, c_top_9, c_bottom_10, c_worth_11, c_hold_12, c_acts_13, c_sDay_15, c_sUps_16, c_sUp_17, c_sMarks_18) else bd1 (fX9_rise c_pence_8 c_sDay_15 c_sUps_16) (fun r21 => if r21 = 0 then some ((-3), c_days_4, c_likely_5, c_outOf_6, c_rateNow_7, c_pence_8, c_top_9, c_bottom_10, c_worth_11, c_hold_12, c_acts_13, c_sDay_15, c_sUps_16, c_sUp_17, c_sMarks_18) else bd1 (fX9_heldOf p1 c_bonds c_pence_8 c_worth_11 c_sDay_15 c_sUps_16 c_sUp_17 c_sMarks_18) (fun r24 => some (r24, c_days_4, c_likely_5, c_outOf_6, c_rateNow_7, c_pence_8, c_top_9, c_bottom_10, c_worth_11, c_hold_12, c_acts_13, c_sDay_15, c_sUps_16, c_sUp_17, c_sMarks_18))))))
abbrev rmX9_held : Room := { frames := 7, cells := 0, slots := 0, locals := 184 }
set_option maxHeartbeats 4000000 in
set_option maxRecDepth 100000 in
theorem tX9_held (l : Launch) (dC : Nat → ClassId) (dI : Nat → Nat → Nat) (dA : Nat → ClassId) (ad : Nat → Nat) (sz : Nat) {p1 : Int32} {c_tape : Nat → Int32} {c_taped : Int32} {c_tree : Nat → Int32} {c_bonds : Nat → Int32} {c_moves : Nat → Int32} {c_handMoves : Nat → Int32} {c_moved : Int32} {c_days : Int32} {c_likely : Int32} {c_outOf : Int32} {c_rateNow : Int32} {c_pence : Nat → Int64} {c_top : Int64} {c_bottom : Int64} {c_spot : Int32} {c_textLong : Int32} {c_fault : Int32} {c_number : Int32} {c_numberAt : Int32} {c_figures : Int32} {c_written : Int32} {c_wanted : Int32} {c_found : Int32} {c_drawnNow : Int32} {c_worth : Nat → Int64} {c_hold : Nat → Int64} {c_way : Nat → Int64} {c_acts : Nat → Int32} {c_sDay : Int32} {c_sUps : Int32} {c_sUp : Int32} {c_sMarks : Int32} {c_paidAll : Int64} {c_isPlayed : Int32} {c_isOn : Int32} {c_handMoved : Int32} {c_handPaid : Int64} {c_regret : Int64} {c_aside : Nat → Int32} {c_other : Nat → Int64} {c_states : Int32} {c_kept : Nat → Int32} {c_keptLong : Nat → Int64} {c_keptAt : Int32} {c_isTaking : Int32} {r : Int64} {o_c_days : Int32} {o_c_likely : Int32} {o_c_outOf : Int32} {o_c_rateNow : Int32} {o_c_pence : Nat → Int64} {o_c_top : Int64} {o_c_bottom : Int64} {o_c_worth : Nat → Int64} {o_c_hold : Nat → Int64} {o_c_acts : Nat → Int32} {o_c_sDay : Int32} {o_c_sUps : Int32} {o_c_sUp : Int32} {o_c_sMarks : Int32} (hf : fX9_held p1 c_tree c_bonds c_moves c_moved c_days c_likely c_outOf c_rateNow c_pence c_top c_bottom c_worth c_hold c_acts c_sDay c_sUps c_sUp c_sMarks = some (r, o_c_days, o_c_likely, o_c_outOf, o_c_rateNow, o_c_pence, o_c_top, o_c_bottom, o_c_worth, o_c_hold, o_c_acts, o_c_sDay, o_c_sUps, o_c_sUp, o_c_sMarks)) : Met l yX9_held (wq (Cond.code yX9_held cX9_held 2 (some .long))) rmX9_held (gP [.ref (ad 0), .int p1] (dC, dI) dA (mW dA ad c_tape c_taped c_tree c_bonds c_moves c_handMoves c_moved c_days c_likely c_outOf c_rateNow c_pence c_top c_bottom c_spot c_textLong c_fault c_number c_numberAt c_figures c_written c_wanted c_found c_drawnNow c_worth c_hold c_way c_acts c_sDay c_sUps c_sUp c_sMarks c_paidAll c_isPlayed c_isOn c_handMoved c_handPaid c_regret c_aside c_other c_states c_kept c_keptLong c_keptAt c_isTaking) sz) (gQl (dC, dI) r (mW dA ad c_tape c_taped c_tree c_bonds c_moves c_handMoves c_moved o_c_days o_c_likely o_c_outOf o_c_rateNow o_c_pence o_c_top o_c_bottom c_spot c_textLong c_fault c_number c_numberAt c_figures c_written c_wanted c_found c_drawnNow o_c_worth o_c_hold c_way o_c_acts o_c_sDay o_c_sUps o_c_sUp o_c_sMarks c_paidAll c_isPlayed c_isOn c_handMoved c_handPaid c_regret c_aside c_other c_states c_kept c_keptLong c_keptAt c_isTaking) (va_A (mW dA ad c_tape c_taped c_tree c_bonds c_moves c_handMoves c_moved c_days c_likely c_outOf c_rateNow c_pence c_top c_bottom c_spot c_textLong c_fault c_number c_numberAt c_figures c_written c_wanted c_found c_drawnNow c_worth c_hold c_way c_acts c_sDay c_sUps c_sUp c_sMarks c_paidAll c_isPlayed c_isOn c_handMoved c_handPaid c_regret c_aside c_other c_states c_kept c_keptLong c_keptAt c_isTaking) sz)) 0 0 (va_A (mW dA ad c_tape c_taped c_tree c_bonds c_moves c_handMoves c_moved c_days c_likely c_outOf c_rateNow c_pence c_top c_bottom c_spot c_textLong c_fault c_number c_numberAt c_figures c_written c_wanted c_found c_drawnNow c_worth c_hold c_way c_acts c_sDay c_sUps c_sUp c_sMarks c_paidAll c_isPlayed c_isOn c_handMoved c_handPaid c_regret c_aside c_other c_states c_kept c_keptLong c_keptAt c_isTaking) sz) := by
  refine Met.ofW (cc := cX9_held) (maxL := 2) (ret := (some .long)) (by decide) rfl ?_
  intro p e s m args below meth c s₁ B hml hv
  obtain ⟨rfl, hsz, hP, hK, hD0⟩ := hv
  have hx := B.exec
  have hb := B.bytes
  have hr := B.returns
  have hts := atoms_spec (ws := wq (Cond.code yX9_held cX9_held 2 (some .long))) B.pre
  have hown : s.vm.findClass RX9 = some m.cls := findClass_of_methodNamed B.named
  have hlocks := B.notSynchronized
  clear B
  subst hsz
  have hD := hD0.self (sz := s.heap.size)
  generalize hAe : va_A (mW dA ad c_tape c_taped c_tree c_bonds c_moves c_handMoves c_moved c_days c_likely c_outOf c_rateNow c_pence c_top c_bottom c_spot c_textLong c_fault c_number c_numberAt c_figures c_written c_wanted c_found c_drawnNow c_worth c_hold c_way c_acts c_sDay c_sUps c_sUp c_sMarks c_paidAll c_isPlayed c_isOn c_handMoved c_handPaid c_regret c_aside c_other c_states c_kept c_keptLong c_keptAt c_isTaking) s.heap.size = A at hD ⊢
  have hA : ∀ q : Nat, s.heap.size ≤ q → A q := fun q h => by rw [← hAe]; exact Or.inr h
  clear hAe hD0
  have hS : va_S A s.heap s.heap [] := va_S.rf
  have hl := lv_entry ([.ref (ad 0), .int p1]) (n := 2) (Nat.le_of_ble_eq_true rfl)
  rw [lg_entry_eq]
  generalize (lg_sl ([.ref (ad 0), .int p1]) ++ List.replicate (2 - (lg_sl ([.ref (ad 0), .int p1])).length) Slot.unset).toArray = ls at hl ⊢
  have hl : lv_has ls 2 [(0, .ref (ad 0)), (1, .int p1)] := hl
  change W p l e rmX9_held s m ([.ref (ad 0), .int p1] : List Value).toArray below meth c s.heap [] 0 0 _ _
  unfold fX9_held at hf
  refine lv_iload_n hx hb dX9_held_0 rfl (lv_at hl 1 rfl) ?_
  obtain ⟨r1, v2, hf⟩ := bd1_some hf
  refine gci0 (va_runS (As := [.int p1]) (rest := []) ⟨hx, hb, hml, hown, hts⟩ (tX9_isBond l dC dI dA s.heap.size v2) (ccX9_X9_isBond hts ⟨Nat.le_of_ble_eq_true rfl, Nat.le_of_ble_eq_true rfl⟩) (gPreS0 hK) rfl rfl hl.1 rfl (lv_room (Nat.le_of_ble_eq_true rfl)) dX9_held_1 ⟨Nat.le_of_ble_eq_true rfl, Nat.le_of_ble_eq_true rfl⟩) hP hS hA (fun H locs hP hS => ?_)
  refine lv_if_ne (tgt := 11) hx hb dX9_held_4 (by decide) (fun k3 => ?_) (fun k3 => ?_)
  · replace hf := ifn k3 hf
    refine lv_aload_n hx hb dX9_held_11 rfl (lv_at hl 0 rfl) ?_
    refine lv_iload_n hx hb dX9_held_12 rfl (lv_at hl 1 rfl) ?_
    obtain ⟨c_days_4, c_likely_5, c_outOf_6, c_rateNow_7, c_pence_8, c_top_9, c_bottom_10, c_worth_11, c_hold_12, c_acts_13, v14, hf⟩ := bd10_some hf
    refine gcv (va_runV (As := [.int p1]) (rest := []) ⟨hx, hb, hml, hown, hts⟩ (tX9_playsNow l dC dI dA ad H.size v14) (ccX9_X9_playsNow hts ⟨Nat.le_of_ble_eq_true rfl, Nat.le_of_ble_eq_true rfl⟩) (gPreV (ci := 9) (q0 := 0) hP hK hD rfl rfl) rfl rfl hl.1 rfl (lv_room (Nat.le_of_ble_eq_true rfl)) dX9_held_13 ⟨Nat.le_of_ble_eq_true rfl, Nat.le_of_ble_eq_true rfl⟩) hD hS hA (fun H locs hP hD hS => ?_)
    refine lv_aload_n hx hb dX9_held_16 rfl (lv_at hl 0 rfl) ?_
    refine lv_iload_n hx hb dX9_held_17 rfl (lv_at hl 1 rfl) ?_
    refine lv_aload_n hx hb dX9_held_18 rfl (lv_at hl 0 rfl) ?_
    refine va_get (D := (dC, dI)) (ci := 9) (v := .int c_moved) (C := RX9) (T := TX9) (N := 45) hx hb hts (fun w h => gw_mem (inX9 w h)) hown hK.1 hP 0 rfl rfl 6 (by decide) (hts _ (gw_mem wfX9_76)) (fun _ h9 => h9) rfl dX9_held_19 ?_
    obtain ⟨c_sDay_15, c_sUps_16, c_sUp_17, c_sMarks_18, v19, hf⟩ := bd4_some hf
    refine gcv (va_runV (As := [.int p1, .int c_moved]) (rest := []) ⟨hx, hb, hml, hown, hts⟩ (tX9_follows l dC dI dA ad H.size v19) (ccX9_X9_follows hts ⟨Nat.le_of_ble_eq_true rfl, Nat.le_of_ble_eq_true rfl⟩) (gPreV (ci := 9) (q0 := 0) hP hK hD rfl rfl) rfl rfl hl.1 rfl (lv_room (Nat.le_of_ble_eq_true rfl)) dX9_held_22 ⟨Nat.le_of_ble_eq_true rfl, Nat.le_of_ble_eq_true rfl⟩) hD hS hA (fun H locs hP hD hS => ?_)
    refine lv_aload_n hx hb dX9_held_25 rfl (lv_at hl 0 rfl) ?_
    refine va_get (D := (dC, dI)) (ci := 9) (v := .int c_sDay_15) (C := RX9) (T := TX9) (N := 45) hx hb hts (fun w h => gw_mem (inX9 w h)) hown hK.1 hP 0 rfl rfl 28 (by decide) (hts _ (gw_mem wfX9_316)) (fun _ h9 => h9) rfl dX9_held_26 ?_
    refine lv_aload_n hx hb dX9_held_29 rfl (lv_at hl 0 rfl) ?_
    refine va_get (D := (dC, dI)) (ci := 9) (v := .int c_days_4) (C := RX9) (T := TX9) (N := 45) hx hb hts (fun w h => gw_mem (inX9 w h)) hown hK.1 hP 0 rfl rfl 7 (by decide) (hts _ (gw_mem wfX9_94)) (fun _ h9 => h9) rfl dX9_held_30 ?_
    refine lv_icmp_ne (tgt := 42) hx hb dX9_held_33 (by decide) (fun k20 => ?_) (fun k20 => ?_)
    · replace hf := ifn k20 hf
      refine lv_aload_n hx hb dX9_held_42 rfl (lv_at hl 0 rfl) ?_
      obtain ⟨r21, v22, hf⟩ := bd1_some hf
      refine gcl (va_runV (As := []) (rest := []) ⟨hx, hb, hml, hown, hts⟩ (tX9_rise l dC dI dA ad H.size v22) (ccX9_X9_rise hts ⟨Nat.le_of_ble_eq_true rfl, Nat.le_of_ble_eq_true rfl⟩) (gPreV (ci := 9) (q0 := 0) hP hK hD rfl rfl) rfl rfl hl.1 rfl (lv_room (Nat.le_of_ble_eq_true rfl)) dX9_held_43 ⟨Nat.le_of_ble_eq_true rfl, Nat.le_of_ble_eq_true rfl⟩) hD hS hA (fun H locs hP hD hS => ?_)
      refine lv_lconst (v := 0) hx hb dX9_held_46 rfl ?_
      refine W.lcmp hx hb dX9_held_47 ?_
      refine lv_if_ne (tgt := 57) hx hb dX9_held_48 (by decide) (fun k23 => ?_) (fun k23 => ?_)
      · replace hf := ifn (fun h => k23 (lc_eq.mpr h)) hf
        refine lv_aload_n hx hb dX9_held_57 rfl (lv_at hl 0 rfl) ?_
        refine lv_iload_n hx hb dX9_held_58 rfl (lv_at hl 1 rfl) ?_
        obtain ⟨r24, v25, hf⟩ := bd1_some hf
        refine gcl (va_runV (As := [.int p1]) (rest := []) ⟨hx, hb, hml, hown, hts⟩ (tX9_heldOf l dC dI dA ad H.size v25) (ccX9_X9_heldOf hts ⟨Nat.le_of_ble_eq_true rfl, Nat.le_of_ble_eq_true rfl⟩) (gPreV (ci := 9) (q0 := 0) hP hK hD rfl rfl) rfl rfl hl.1 rfl (lv_room (Nat.le_of_ble_eq_true rfl)) dX9_held_59 ⟨Nat.le_of_ble_eq_true rfl, Nat.le_of_ble_eq_true rfl⟩) hD hS hA (fun H locs hP hD hS => ?_)
        cases hf
        exact W.lret hx hb hr (fun t ht _ => gql hP hD hS ht) hS.2.2 dX9_held_62
      · replace hf := ifp (lc_eq.mp k23) hf
        refine lv_ldc2 (v := (-3)) hx hb hown (hts _ (gw_mem wkX9_386)) dX9_held_51 ?_
        refine lv_goto (tgt := 62) hx hb dX9_held_54 (by decide) ?_
        cases hf
        exact W.lret hx hb hr (fun t ht _ => gql hP hD hS ht) hS.2.2 dX9_held_62
    · replace hf := ifp k20 hf
      refine lv_ldc2 (v := (-2)) hx hb hown (hts _ (gw_mem wkX9_343)) dX9_held_36 ?_
      refine lv_goto (tgt := 62) hx hb dX9_held_39 (by decide) ?_
      cases hf
      exact W.lret hx hb hr (fun t ht _ => gql hP hD hS ht) hS.2.2 dX9_held_62
  · replace hf := ifp k3 hf
    refine lv_ldc2 (v := (-9223372036854775808)) hx hb hown (hts _ (gw_mem wkX9_364)) dX9_held_7 ?_
    cases hf
    exact W.lret hx hb hr (fun t ht _ => gql hP hD hS ht) hS.2.2 dX9_held_10
def lpX9_hedged_37 (x1 : Int32) (c_bonds : Nat → Int32) (c_moves : Nat → Int32) (c_moved : Int32) (c_rateNow : Int32) (c_pence : Nat → Int64) (c_worth : Nat → Int64) (c_acts : Nat → Int32) : Nat → Int64 → Int64 → Int32 → Int32 → Int32 → Int32 → Int32 → Option (Nat × Int64 × Int64 × Int32 × Int32 × Int32 × Int32)
  | 0, _, _, _, _, _, _, _ => none
  | n + 1, x2, x4, x6, c_sDay, c_sUps, c_sUp, c_sMarks => bd1 (fX9_hereNow c_sDay c_sUps c_sUp c_sMarks) (fun r38 => og (okI r38 784) (if (c_acts (Int32.toNatClampNeg r38)) = 0 then if x6 = c_moved then some (0, x2, x4, c_sDay, c_sUps, c_sUp, c_sMarks) else bd1 (fX9_rise c_pence c_sDay c_sUps) (fun r43 => if r43 = 0 then og (okI ((7 * c_sDay) + c_sUps) 49) (nm (x2 - (((0 - x4) * (c_pence (Int32.toNatClampNeg ((7 * c_sDay) + c_sUps)))) / 1000)) (fun w92 => nm ((w92 * (Int32.toInt64 (1000 + c_rateNow))) / 1000) (fun w93 => og (okI x6 6) (bd4 (fX9_goesOn x1 (c_moves (Int32.toNatClampNeg x6)) c_bonds c_pence c_sDay c_sUps c_sUp c_sMarks) (fun c_sDay_95 c_sUps_96 c_sUp_97 c_sMarks_98 => bd1 (fX9_couponOf x1 c_sDay_95 c_bonds) (fun r100 => nm (w93 - (Int32.toInt64 r100)) (fun w102 => nm (x6 + 1) (fun w103 => lpX9_hedged_37 x1 c_bonds c_moves c_moved c_rateNow c_pence c_worth c_acts n w102 0 w103 c_sDay_95 c_sUps_96 c_sUp_97 c_sMarks_98)))))))) else bd1 (fX9_heldOf x1 c_bonds c_pence c_worth c_sDay c_sUps c_sUp c_sMarks) (fun r46 => if r46 ≤ 100000 then if (-100000) ≤ r46 then og (okI ((7 * c_sDay) + c_sUps) 49) (nm (x2 - (((r46 - x4) * (c_pence (Int32.toNatClampNeg ((7 * c_sDay) + c_sUps)))) / 1000)) (fun w51 => nm ((w51 * (Int32.toInt64 (1000 + c_rateNow))) / 1000) (fun w52 => og (okI x6 6) (bd4 (fX9_goesOn x1 (c_moves (Int32.toNatClampNeg x6)) c_bonds c_pence c_sDay c_sUps c_sUp c_sMarks) (fun c_sDay_54 c_sUps_55 c_sUp_56 c_sMarks_57 => bd1 (fX9_couponOf x1 c_sDay_54 c_bonds) (fun r59 => nm (w52 - (Int32.toInt64 r59)) (fun w61 => nm (x6 + 1) (fun w62 => lpX9_hedged_37 x1 c_bonds c_moves c_moved c_rateNow c_pence c_worth c_acts n w61 r46 w62 c_sDay_54 c_sUps_55 c_sUp_56 c_sMarks_57)))))))) else og (okI ((7 * c_sDay) + c_sUps) 49) (nm (x2 - ((((-100000) - x4) * (c_pence (Int32.toNatClampNeg ((7 * c_sDay) + c_sUps)))) / 1000)) (fun w64 => nm ((w64 * (Int32.toInt64 (1000 + c_rateNow))) / 1000) (fun w65 => og (okI x6 6) (bd4 (fX9_goesOn x1 (c_moves (Int32.toNatClampNeg x6)) c_bonds c_pence c_sDay c_sUps c_sUp c_sMarks) (fun c_sDay_67 c_sUps_68 c_sUp_69 c_sMarks_70 => bd1 (fX9_couponOf x1 c_sDay_67 c_bonds) (fun r72 => nm (w65 - (Int32.toInt64 r72)) (fun w74 => nm (x6 + 1) (fun w75 => lpX9_hedged_37 x1 c_bonds c_moves c_moved c_rateNow c_pence c_worth c_acts n w74 (-100000) w75 c_sDay_67 c_sUps_68 c_sUp_69 c_sMarks_70)))))))) else og (okI ((7 * c_sDay) + c_sUps) 49) (nm (x2 - (((100000 - x4) * (c_pence (Int32.toNatClampNeg ((7 * c_sDay) + c_sUps)))) / 1000)) (fun w77 => nm ((w77 * (Int32.toInt64 (1000 + c_rateNow))) / 1000) (fun w78 => og (okI x6 6) (bd4 (fX9_goesOn x1 (c_moves (Int32.toNatClampNeg x6)) c_bonds c_pence c_sDay c_sUps c_sUp c_sMarks) (fun c_sDay_80 c_sUps_81 c_sUp_82 c_sMarks_83 => bd1 (fX9_couponOf x1 c_sDay_80 c_bonds) (fun r85 => nm (w78 - (Int32.toInt64 r85)) (fun w87 => nm (x6 + 1) (fun w88 => lpX9_hedged_37 x1 c_bonds c_moves c_moved c_rateNow c_pence c_worth c_acts n w87 100000 w88 c_sDay_80 c_sUps_81 c_sUp_82 c_sMarks_83)))))))))) else some (1, x2, x4, c_sDay, c_sUps, c_sUp, c_sMarks)))
def fX9_hedged (p1 : Int32) (c_tree : Nat → Int32) (c_bonds : Nat → Int32) (c_moves : Nat → Int32) (c_moved : Int32) (c_days : Int32) (c_likely : Int32) (c_outOf : Int32) (c_rateNow : Int32) (c_pence : Nat → Int64) (c_top : Int64) (c_bottom : Int64) (c_worth : Nat → Int64) (c_hold : Nat → Int64) (c_acts : Nat → Int32) (c_sDay : Int32) (c_sUps : Int32) (c_sUp : Int32) (c_sMarks : Int32) : Option (Int64 × Int32 × Int32 × Int32 × Int32 × (Nat → Int64) × Int64 × Int64 × (Nat → Int64) × (Nat → Int64) × (Nat → Int32) × Int32 × Int32 × Int32 × Int32) := bd1 (fX9_isBond p1) (fun r1 => if r1 = 0 then some ((-9223372036854775808), c_days, c_likely, c_outOf, c_rateNow, c_pence, c_top, c_bottom, c_worth, c_hold, c_acts, c_sDay, c_sUps, c_sUp, c_sMarks) else bd10 (fX9_playsNow p1 c_tree c_bonds c_days c_likely c_outOf c_rateNow c_pence c_top c_bottom c_worth c_hold c_acts) (fun c_days_4 c_likely_5 c_outOf_6 c_rateNow_7 c_pence_8 c_top_9 c_bottom_10 c_worth_11 c_hold_12 c_acts_13 => bd4 (fX9_starts p1 c_bonds c_pence_8 c_sDay c_sUps c_sUp c_sMarks) (fun c_sDay_15 c_sUps_16 c_sUp_17 c_sMarks_18 => bd1 (fX9_hereNow c_sDay_15 c_sUps_16 c_sUp_17 c_sMarks_18) (fun r20 => og (okI r20 784) (nm (c_worth_11 (Int32.toNatClampNeg r20)) (fun w23 => bd7 (lpX9_hedged_37 p1 c_bonds c_moves c_moved c_rateNow_7 c_pence_8 c_worth_11 c_acts_13 FU w23 0 0 c_sDay_15 c_sUps_16 c_sUp_17 c_sMarks_18) (fun tg24 x25 x26 c_sDay_27 c_sUps_28 c_sUp_29 c_sMarks_30 => if tg24 = 0 then some ((-2), c_days_4, c_likely_5, c_outOf_6, c_rateNow_7, c_pence_8, c_top_9, c_bottom_10, c_worth_11, c_hold_12, c_acts_13, c_sDay_27, c_sUps_28, c_sUp_29, c_sMarks_30) else og (okI ((7 * c_sDay_27) + c_sUps_28) 49) (bd1 (fX9_hereNow c_sDay_27 c_sUps_28 c_sUp_29 c_sMarks_30) (fun r33 => og (okI r33 784) (bd1 (fX9_paysOf p1 (c_acts_13 (Int32.toNatClampNeg r33)) c_bonds c_days_4 c_pence_8 c_sDay_27 c_sUps_28 c_sUp_29) (fun r36 => some ((x25 + ((x26 * (c_pence_8 (Int32.toNatClampNeg ((7 * c_sDay_27) + c_sUps_28)))) / 1000)) - r36, c_days_4, c_likely_5, c_outOf_6, c_rateNow_7, c_pence_8, c_top_9, c_bottom_10, c_worth_11, c_hold_12, c_acts_13, c_sDay_27, c_sUps_28, c_sUp_29, c_sMarks_30))))))))))))
abbrev rmX9_hedged : Room := { frames := 7, cells := 0, slots := 0, locals := 184 }
set_option maxHeartbeats 4000000 in
set_option maxRecDepth 100000 in
theorem tX9_hedged (l : Launch) (dC : Nat → ClassId) (dI : Nat → Nat → Nat) (dA : Nat → ClassId) (ad : Nat → Nat) (sz : Nat) {p1 : Int32} {c_tape : Nat → Int32} {c_taped : Int32} {c_tree : Nat → Int32} {c_bonds : Nat → Int32} {c_moves : Nat → Int32} {c_handMoves : Nat → Int32} {c_moved : Int32} {c_days : Int32} {c_likely : Int32} {c_outOf : Int32} {c_rateNow : Int32} {c_pence : Nat → Int64} {c_top : Int64} {c_bottom : Int64} {c_spot : Int32} {c_textLong : Int32} {c_fault : Int32} {c_number : Int32} {c_numberAt : Int32} {c_figures : Int32} {c_written : Int32} {c_wanted : Int32} {c_found : Int32} {c_drawnNow : Int32} {c_worth : Nat → Int64} {c_hold : Nat → Int64} {c_way : Nat → Int64} {c_acts : Nat → Int32} {c_sDay : Int32} {c_sUps : Int32} {c_sUp : Int32} {c_sMarks : Int32} {c_paidAll : Int64} {c_isPlayed : Int32} {c_isOn : Int32} {c_handMoved : Int32} {c_handPaid : Int64} {c_regret : Int64} {c_aside : Nat → Int32} {c_other : Nat → Int64} {c_states : Int32} {c_kept : Nat → Int32} {c_keptLong : Nat → Int64} {c_keptAt : Int32} {c_isTaking : Int32} {r : Int64} {o_c_days : Int32} {o_c_likely : Int32} {o_c_outOf : Int32} {o_c_rateNow : Int32} {o_c_pence : Nat → Int64} {o_c_top : Int64} {o_c_bottom : Int64} {o_c_worth : Nat → Int64} {o_c_hold : Nat → Int64} {o_c_acts : Nat → Int32} {o_c_sDay : Int32} {o_c_sUps : Int32} {o_c_sUp : Int32} {o_c_sMarks : Int32} (hf : fX9_hedged p1 c_tree c_bonds c_moves c_moved c_days c_likely c_outOf c_rateNow c_pence c_top c_bottom c_worth c_hold c_acts c_sDay c_sUps c_sUp c_sMarks = some (r, o_c_days, o_c_likely, o_c_outOf, o_c_rateNow, o_c_pence, o_c_top, o_c_bottom, o_c_worth, o_c_hold, o_c_acts, o_c_sDay, o_c_sUps, o_c_sUp, o_c_sMarks)) : Met l yX9_hedged (wq (Cond.code yX9_hedged cX9_hedged 9 (some .long))) rmX9_hedged (gP [.ref (ad 0), .int p1] (dC, dI) dA (mW dA ad c_tape c_taped c_tree c_bonds c_moves c_handMoves c_moved c_days c_likely c_outOf c_rateNow c_pence c_top c_bottom c_spot c_textLong c_fault c_number c_numberAt c_figures c_written c_wanted c_found c_drawnNow c_worth c_hold c_way c_acts c_sDay c_sUps c_sUp c_sMarks c_paidAll c_isPlayed c_isOn c_handMoved c_handPaid c_regret c_aside c_other c_states c_kept c_keptLong c_keptAt c_isTaking) sz) (gQl (dC, dI) r (mW dA ad c_tape c_taped c_tree c_bonds c_moves c_handMoves c_moved o_c_days o_c_likely o_c_outOf o_c_rateNow o_c_pence o_c_top o_c_bottom c_spot c_textLong c_fault c_number c_numberAt c_figures c_written c_wanted c_found c_drawnNow o_c_worth o_c_hold c_way o_c_acts o_c_sDay o_c_sUps o_c_sUp o_c_sMarks c_paidAll c_isPlayed c_isOn c_handMoved c_handPaid c_regret c_aside c_other c_states c_kept c_keptLong c_keptAt c_isTaking) (va_A (mW dA ad c_tape c_taped c_tree c_bonds c_moves c_handMoves c_moved c_days c_likely c_outOf c_rateNow c_pence c_top c_bottom c_spot c_textLong c_fault c_number c_numberAt c_figures c_written c_wanted c_found c_drawnNow c_worth c_hold c_way c_acts c_sDay c_sUps c_sUp c_sMarks c_paidAll c_isPlayed c_isOn c_handMoved c_handPaid c_regret c_aside c_other c_states c_kept c_keptLong c_keptAt c_isTaking) sz)) 0 0 (va_A (mW dA ad c_tape c_taped c_tree c_bonds c_moves c_handMoves c_moved c_days c_likely c_outOf c_rateNow c_pence c_top c_bottom c_spot c_textLong c_fault c_number c_numberAt c_figures c_written c_wanted c_found c_drawnNow c_worth c_hold c_way c_acts c_sDay c_sUps c_sUp c_sMarks c_paidAll c_isPlayed c_isOn c_handMoved c_handPaid c_regret c_aside c_other c_states c_kept c_keptLong c_keptAt c_isTaking) sz) := by
  refine Met.ofW (cc := cX9_hedged) (maxL := 9) (ret := (some .long)) (by decide) rfl ?_
  intro p e s m args below meth c s₁ B hml hv
  obtain ⟨rfl, hsz, hP, hK, hD0⟩ := hv
  have hx := B.exec
  have hb := B.bytes
  have hr := B.returns
  have hts := atoms_spec (ws := wq (Cond.code yX9_hedged cX9_hedged 9 (some .long))) B.pre
  have hown : s.vm.findClass RX9 = some m.cls := findClass_of_methodNamed B.named
  have hlocks := B.notSynchronized
  clear B
  subst hsz
  have hD := hD0.self (sz := s.heap.size)
  generalize hAe : va_A (mW dA ad c_tape c_taped c_tree c_bonds c_moves c_handMoves c_moved c_days c_likely c_outOf c_rateNow c_pence c_top c_bottom c_spot c_textLong c_fault c_number c_numberAt c_figures c_written c_wanted c_found c_drawnNow c_worth c_hold c_way c_acts c_sDay c_sUps c_sUp c_sMarks c_paidAll c_isPlayed c_isOn c_handMoved c_handPaid c_regret c_aside c_other c_states c_kept c_keptLong c_keptAt c_isTaking) s.heap.size = A at hD ⊢
  have hA : ∀ q : Nat, s.heap.size ≤ q → A q := fun q h => by rw [← hAe]; exact Or.inr h
  clear hAe hD0
  have hS : va_S A s.heap s.heap [] := va_S.rf
  have hl := lv_entry ([.ref (ad 0), .int p1]) (n := 9) (Nat.le_of_ble_eq_true rfl)
  rw [lg_entry_eq]
  generalize (lg_sl ([.ref (ad 0), .int p1]) ++ List.replicate (9 - (lg_sl ([.ref (ad 0), .int p1])).length) Slot.unset).toArray = ls at hl ⊢
  have hl : lv_has ls 9 [(0, .ref (ad 0)), (1, .int p1)] := hl
  change W p l e rmX9_hedged s m ([.ref (ad 0), .int p1] : List Value).toArray below meth c s.heap [] 0 0 _ _
  generalize hQ : MQ below (gQl (dC, dI) r (mW dA ad c_tape c_taped c_tree c_bonds c_moves c_handMoves c_moved o_c_days o_c_likely o_c_outOf o_c_rateNow o_c_pence o_c_top o_c_bottom c_spot c_textLong c_fault c_number c_numberAt c_figures c_written c_wanted c_found c_drawnNow o_c_worth o_c_hold c_way o_c_acts o_c_sDay o_c_sUps o_c_sUp o_c_sMarks c_paidAll c_isPlayed c_isOn c_handMoved c_handPaid c_regret c_aside c_other c_states c_kept c_keptLong c_keptAt c_isTaking) A) ([.ref (ad 0), .int p1] : List Value).toArray s 0 0 A = Q
  have LP37 : ∀ (n : Nat) (x1 : Int32) (c_bonds : Nat → Int32) (c_moves : Nat → Int32) (c_moved : Int32) (c_rateNow : Int32) (c_pence : Nat → Int64) (c_worth : Nat → Int64) (c_acts : Nat → Int32) (c_tape : Nat → Int32) (c_taped : Int32) (c_tree : Nat → Int32) (c_handMoves : Nat → Int32) (c_days : Int32) (c_likely : Int32) (c_outOf : Int32) (c_top : Int64) (c_bottom : Int64) (c_spot : Int32) (c_textLong : Int32) (c_fault : Int32) (c_number : Int32) (c_numberAt : Int32) (c_figures : Int32) (c_written : Int32) (c_wanted : Int32) (c_found : Int32) (c_drawnNow : Int32) (c_hold : Nat → Int64) (c_way : Nat → Int64) (c_paidAll : Int64) (c_isPlayed : Int32) (c_isOn : Int32) (c_handMoved : Int32) (c_handPaid : Int64) (c_regret : Int64) (c_aside : Nat → Int32) (c_other : Nat → Int64) (c_states : Int32) (c_kept : Nat → Int32) (c_keptLong : Nat → Int64) (c_keptAt : Int32) (c_isTaking : Int32) (x2 : Int64) (x4 : Int64) (x6 : Int32) (c_sDay : Int32) (c_sUps : Int32) (c_sUp : Int32) (c_sMarks : Int32) (tgo : Nat) (o2 : Int64) (o4 : Int64) (o_c_sDay : Int32) (o_c_sUps : Int32) (o_c_sUp : Int32) (o_c_sMarks : Int32) (H : Heap) (locs : List Loc) (ls : Array Slot), va_P (dC, dI) vwCl (mW dA ad c_tape c_taped c_tree c_bonds c_moves c_handMoves c_moved c_days c_likely c_outOf c_rateNow c_pence c_top c_bottom c_spot c_textLong c_fault c_number c_numberAt c_figures c_written c_wanted c_found c_drawnNow c_worth c_hold c_way c_acts c_sDay c_sUps c_sUp c_sMarks c_paidAll c_isPlayed c_isOn c_handMoved c_handPaid c_regret c_aside c_other c_states c_kept c_keptLong c_keptAt c_isTaking) H → va_D A (mW dA ad c_tape c_taped c_tree c_bonds c_moves c_handMoves c_moved c_days c_likely c_outOf c_rateNow c_pence c_top c_bottom c_spot c_textLong c_fault c_number c_numberAt c_figures c_written c_wanted c_found c_drawnNow c_worth c_hold c_way c_acts c_sDay c_sUps c_sUp c_sMarks c_paidAll c_isPlayed c_isOn c_handMoved c_handPaid c_regret c_aside c_other c_states c_kept c_keptLong c_keptAt c_isTaking) → va_S A s.heap H locs → lpX9_hedged_37 x1 c_bonds c_moves c_moved c_rateNow c_pence c_worth c_acts n x2 x4 x6 c_sDay c_sUps c_sUp c_sMarks = some (tgo, o2, o4, o_c_sDay, o_c_sUps, o_c_sUp, o_c_sMarks) → lv_has ls 9 [(0, .ref (ad 0)), (1, .int x1), (2, .long x2), (4, .long x4), (6, .int x6)] → (tgo = 0 → ∀ (H : Heap) (locs : List Loc) (ls : Array Slot), va_P (dC, dI) vwCl (mW dA ad c_tape c_taped c_tree c_bonds c_moves c_handMoves c_moved c_days c_likely c_outOf c_rateNow c_pence c_top c_bottom c_spot c_textLong c_fault c_number c_numberAt c_figures c_written c_wanted c_found c_drawnNow c_worth c_hold c_way c_acts o_c_sDay o_c_sUps o_c_sUp o_c_sMarks c_paidAll c_isPlayed c_isOn c_handMoved c_handPaid c_regret c_aside c_other c_states c_kept c_keptLong c_keptAt c_isTaking) H → va_D A (mW dA ad c_tape c_taped c_tree c_bonds c_moves c_handMoves c_moved c_days c_likely c_outOf c_rateNow c_pence c_top c_bottom c_spot c_textLong c_fault c_number c_numberAt c_figures c_written c_wanted c_found c_drawnNow c_worth c_hold c_way c_acts o_c_sDay o_c_sUps o_c_sUp o_c_sMarks c_paidAll c_isPlayed c_isOn c_handMoved c_handPaid c_regret c_aside c_other c_states c_kept c_keptLong c_keptAt c_isTaking) → va_S A s.heap H locs → lv_has ls 9 [] → W p l e rmX9_hedged s m ([.ref (ad 0), .int p1] : List Value).toArray below meth c H locs 0 0 Q (F0 m 58 ls [])) → (tgo = 1 → ∀ (H : Heap) (locs : List Loc) (ls : Array Slot), va_P (dC, dI) vwCl (mW dA ad c_tape c_taped c_tree c_bonds c_moves c_handMoves c_moved c_days c_likely c_outOf c_rateNow c_pence c_top c_bottom c_spot c_textLong c_fault c_number c_numberAt c_figures c_written c_wanted c_found c_drawnNow c_worth c_hold c_way c_acts o_c_sDay o_c_sUps o_c_sUp o_c_sMarks c_paidAll c_isPlayed c_isOn c_handMoved c_handPaid c_regret c_aside c_other c_states c_kept c_keptLong c_keptAt c_isTaking) H → va_D A (mW dA ad c_tape c_taped c_tree c_bonds c_moves c_handMoves c_moved c_days c_likely c_outOf c_rateNow c_pence c_top c_bottom c_spot c_textLong c_fault c_number c_numberAt c_figures c_written c_wanted c_found c_drawnNow c_worth c_hold c_way c_acts o_c_sDay o_c_sUps o_c_sUp o_c_sMarks c_paidAll c_isPlayed c_isOn c_handMoved c_handPaid c_regret c_aside c_other c_states c_kept c_keptLong c_keptAt c_isTaking) → va_S A s.heap H locs → lv_has ls 9 [(0, .ref (ad 0)), (1, .int x1), (2, .long o2), (4, .long o4)] → W p l e rmX9_hedged s m ([.ref (ad 0), .int p1] : List Value).toArray below meth c H locs 0 0 Q (F0 m 200 ls [])) → W p l e rmX9_hedged s m ([.ref (ad 0), .int p1] : List Value).toArray below meth c H locs 0 0 Q (F0 m 37 ls []) := by
    intro n
    induction n with
    | zero =>
      intro x1 c_bonds c_moves c_moved c_rateNow c_pence c_worth c_acts c_tape c_taped c_tree c_handMoves c_days c_likely c_outOf c_top c_bottom c_spot c_textLong c_fault c_number c_numberAt c_figures c_written c_wanted c_found c_drawnNow c_hold c_way c_paidAll c_isPlayed c_isOn c_handMoved c_handPaid c_regret c_aside c_other c_states c_kept c_keptLong c_keptAt c_isTaking x2 x4 x6 c_sDay c_sUps c_sUp c_sMarks tgo o2 o4 o_c_sDay o_c_sUps o_c_sUp o_c_sMarks H locs ls hP hD hS hf hl hk0 hk1
      cases hf
    | succ n ih37 =>
      intro x1 c_bonds c_moves c_moved c_rateNow c_pence c_worth c_acts c_tape c_taped c_tree c_handMoves c_days c_likely c_outOf c_top c_bottom c_spot c_textLong c_fault c_number c_numberAt c_figures c_written c_wanted c_found c_drawnNow c_hold c_way c_paidAll c_isPlayed c_isOn c_handMoved c_handPaid c_regret c_aside c_other c_states c_kept c_keptLong c_keptAt c_isTaking x2 x4 x6 c_sDay c_sUps c_sUp c_sMarks tgo o2 o4 o_c_sDay o_c_sUps o_c_sUp o_c_sMarks H locs ls hP hD hS hf hl hk0 hk1
      rw [lpX9_hedged_37.eq_2] at hf
      refine lv_aload_n hx hb dX9_hedged_37 rfl (lv_at hl 0 rfl) ?_
      refine va_get (D := (dC, dI)) (ci := 9) (v := .ref (ad 10)) (C := RX9) (T := TX9) (N := 45) hx hb hts (fun w h => gw_mem (inX9 w h)) hown hK.1 hP 0 rfl rfl 27 (by decide) (hts _ (gw_mem wfX9_39)) (fun _ h9 => h9) rfl dX9_hedged_38 ?_
      refine lv_aload_n hx hb dX9_hedged_41 rfl (lv_at hl 0 rfl) ?_
      obtain ⟨r38, v39, hf⟩ := bd1_some hf
      refine gci (va_runV (As := []) (rest := [.ref (ad 10)]) ⟨hx, hb, hml, hown, hts⟩ (tX9_hereNow l dC dI dA ad H.size v39) (ccX9_X9_hereNow hts ⟨Nat.le_of_ble_eq_true rfl, Nat.le_of_ble_eq_true rfl⟩) (gPreV (ci := 9) (q0 := 0) hP hK hD rfl rfl) rfl rfl hl.1 rfl (lv_room (Nat.le_of_ble_eq_true rfl)) dX9_hedged_42 ⟨Nat.le_of_ble_eq_true rfl, Nat.le_of_ble_eq_true rfl⟩) hD hS hA (fun H locs hP hD hS => ?_)
      obtain ⟨h40, hf⟩ := og_some hf
      refine va_iald hx hb hK.1 hP 10 0 rfl rfl (okI_in h40) dX9_hedged_45 ?_
      refine lv_if_ne (tgt := 200) hx hb dX9_hedged_46 (by decide) (fun k41 => ?_) (fun k41 => ?_)
      · replace hf := ifn k41 hf
        cases hf
        exact hk1 rfl _ _ _ hP hD hS (lv_sub hl [0, 1, 2, 3] rfl)
      · replace hf := ifp k41 hf
        refine lv_iload hx hb dX9_hedged_49 (lv_at hl 4 rfl) ?_
        refine lv_aload_n hx hb dX9_hedged_51 rfl (lv_at hl 0 rfl) ?_
        refine va_get (D := (dC, dI)) (ci := 9) (v := .int c_moved) (C := RX9) (T := TX9) (N := 45) hx hb hts (fun w h => gw_mem (inX9 w h)) hown hK.1 hP 0 rfl rfl 6 (by decide) (hts _ (gw_mem wfX9_76)) (fun _ h9 => h9) rfl dX9_hedged_52 ?_
        refine lv_icmp_ne (tgt := 62) hx hb dX9_hedged_55 (by decide) (fun k42 => ?_) (fun k42 => ?_)
        · replace hf := ifn k42 hf
          refine lv_aload_n hx hb dX9_hedged_62 rfl (lv_at hl 0 rfl) ?_
          obtain ⟨r43, v44, hf⟩ := bd1_some hf
          refine gcl (va_runV (As := []) (rest := []) ⟨hx, hb, hml, hown, hts⟩ (tX9_rise l dC dI dA ad H.size v44) (ccX9_X9_rise hts ⟨Nat.le_of_ble_eq_true rfl, Nat.le_of_ble_eq_true rfl⟩) (gPreV (ci := 9) (q0 := 0) hP hK hD rfl rfl) rfl rfl hl.1 rfl (lv_room (Nat.le_of_ble_eq_true rfl)) dX9_hedged_63 ⟨Nat.le_of_ble_eq_true rfl, Nat.le_of_ble_eq_true rfl⟩) hD hS hA (fun H locs hP hD hS => ?_)
          refine lv_lconst (v := 0) hx hb dX9_hedged_66 rfl ?_
          refine W.lcmp hx hb dX9_hedged_67 ?_
          refine lv_if_ne (tgt := 75) hx hb dX9_hedged_68 (by decide) (fun k45 => ?_) (fun k45 => ?_)
          · replace hf := ifn (fun h => k45 (lc_eq.mpr h)) hf
            refine lv_aload_n hx hb dX9_hedged_75 rfl (lv_at hl 0 rfl) ?_
            refine lv_iload_n hx hb dX9_hedged_76 rfl (lv_at hl 1 rfl) ?_
            obtain ⟨r46, v47, hf⟩ := bd1_some hf
            refine gcl (va_runV (As := [.int x1]) (rest := []) ⟨hx, hb, hml, hown, hts⟩ (tX9_heldOf l dC dI dA ad H.size v47) (ccX9_X9_heldOf hts ⟨Nat.le_of_ble_eq_true rfl, Nat.le_of_ble_eq_true rfl⟩) (gPreV (ci := 9) (q0 := 0) hP hK hD rfl rfl) rfl rfl hl.1 rfl (lv_room (Nat.le_of_ble_eq_true rfl)) dX9_hedged_77 ⟨Nat.le_of_ble_eq_true rfl, Nat.le_of_ble_eq_true rfl⟩) hD hS hA (fun H locs hP hD hS => ?_)
            refine lv_lstore (lv' := [(7, .long r46), (0, .ref (ad 0)), (1, .int x1), (2, .long x2), (4, .long x4), (6, .int x6)]) hx hb dX9_hedged_80 hl (by decide) rfl (fun ls hl => ?_)
            refine lv_lload hx hb dX9_hedged_82 (lv_at hl 0 rfl) ?_
            refine lv_ldc2 (v := 100000) hx hb hown (hts _ (gw_mem wkX9_391)) dX9_hedged_84 ?_
            refine W.lcmp hx hb dX9_hedged_87 ?_
            refine lv_if_le (tgt := 97) hx hb dX9_hedged_88 (by decide) (fun k48 => ?_) (fun k48 => ?_)
            · replace hf := ifp (lc_le.mp k48) hf
              refine lv_lload hx hb dX9_hedged_97 (lv_at hl 0 rfl) ?_
              refine lv_ldc2 (v := (-100000)) hx hb hown (hts _ (gw_mem wkX9_393)) dX9_hedged_99 ?_
              refine W.lcmp hx hb dX9_hedged_102 ?_
              refine lv_if_ge (tgt := 112) hx hb dX9_hedged_103 (by decide) (fun k49 => ?_) (fun k49 => ?_)
              · replace hf := ifp (lc_ge.mp k49) hf
                refine lv_lload hx hb dX9_hedged_112 (lv_at hl 0 rfl) ?_
                refine lv_lstore (lv' := [(7, .long r46), (0, .ref (ad 0)), (1, .int x1), (2, .long x2), (4, .long x4), (6, .int x6)]) hx hb dX9_hedged_114 hl (by decide) rfl (fun ls hl => ?_)
                refine lv_lload_n hx hb dX9_hedged_116 rfl (lv_at hl 3 rfl) ?_
                refine lv_lload hx hb dX9_hedged_117 (lv_at hl 0 rfl) ?_
                refine lv_lload hx hb dX9_hedged_119 (lv_at hl 4 rfl) ?_
                refine lv_lsub hx hb dX9_hedged_121 ?_
                refine lv_aload_n hx hb dX9_hedged_122 rfl (lv_at hl 1 rfl) ?_
                refine va_get (D := (dC, dI)) (ci := 9) (v := .ref (ad 6)) (C := RX9) (T := TX9) (N := 45) hx hb hts (fun w h => gw_mem (inX9 w h)) hown hK.1 hP 0 rfl rfl 11 (by decide) (hts _ (gw_mem wfX9_26)) (fun _ h9 => h9) rfl dX9_hedged_123 ?_
                refine lv_bipush (v := 7) hx hb dX9_hedged_126 (by decide) ?_
                refine lv_aload_n hx hb dX9_hedged_128 rfl (lv_at hl 1 rfl) ?_
                refine va_get (D := (dC, dI)) (ci := 9) (v := .int c_sDay) (C := RX9) (T := TX9) (N := 45) hx hb hts (fun w h => gw_mem (inX9 w h)) hown hK.1 hP 0 rfl rfl 28 (by decide) (hts _ (gw_mem wfX9_316)) (fun _ h9 => h9) rfl dX9_hedged_129 ?_
                refine lv_imul hx hb dX9_hedged_132 ?_
                refine lv_aload_n hx hb dX9_hedged_133 rfl (lv_at hl 1 rfl) ?_
                refine va_get (D := (dC, dI)) (ci := 9) (v := .int c_sUps) (C := RX9) (T := TX9) (N := 45) hx hb hts (fun w h => gw_mem (inX9 w h)) hown hK.1 hP 0 rfl rfl 29 (by decide) (hts _ (gw_mem wfX9_319)) (fun _ h9 => h9) rfl dX9_hedged_134 ?_
                refine lv_iadd hx hb dX9_hedged_137 ?_
                obtain ⟨h50, hf⟩ := og_some hf
                refine va_lald hx hb hK.1 hP 6 1 rfl rfl (okI_in h50) dX9_hedged_138 ?_
                refine lv_lmul hx hb dX9_hedged_139 ?_
                refine lv_ldc2 (v := 1000) hx hb hown (hts _ (gw_mem wkX9_74)) dX9_hedged_140 ?_
                refine lv_ldiv hx hb dX9_hedged_143 (by decide) ?_
                refine lv_lsub hx hb dX9_hedged_144 ?_
                refine lv_topl (fun w51 ew51 => ?_)
                replace hf := nm_at hf ew51
                refine lv_lstore_n (lv' := [(2, .long w51), (7, .long r46), (0, .ref (ad 0)), (1, .int x1), (4, .long x4), (6, .int x6)]) hx hb dX9_hedged_145 rfl hl (by decide) rfl (fun ls hl => ?_)
                refine lv_lload hx hb dX9_hedged_146 (lv_at hl 1 rfl) ?_
                refine lv_lstore (lv' := [(4, .long r46), (2, .long w51), (7, .long r46), (0, .ref (ad 0)), (1, .int x1), (6, .int x6)]) hx hb dX9_hedged_148 hl (by decide) rfl (fun ls hl => ?_)
                refine lv_lload_n hx hb dX9_hedged_150 rfl (lv_at hl 1 rfl) ?_
                refine lv_sipush (v := 1000) hx hb dX9_hedged_151 (by decide) ?_
                refine lv_aload_n hx hb dX9_hedged_154 rfl (lv_at hl 3 rfl) ?_
                refine va_get (D := (dC, dI)) (ci := 9) (v := .int c_rateNow) (C := RX9) (T := TX9) (N := 45) hx hb hts (fun w h => gw_mem (inX9 w h)) hown hK.1 hP 0 rfl rfl 10 (by decide) (hts _ (gw_mem wfX9_103)) (fun _ h9 => h9) rfl dX9_hedged_155 ?_
                refine lv_iadd hx hb dX9_hedged_158 ?_
                refine lv_i2l hx hb dX9_hedged_159 rfl ?_
                refine lv_lmul hx hb dX9_hedged_160 ?_
                refine lv_ldc2 (v := 1000) hx hb hown (hts _ (gw_mem wkX9_74)) dX9_hedged_161 ?_
                refine lv_ldiv hx hb dX9_hedged_164 (by decide) ?_
                refine lv_topl (fun w52 ew52 => ?_)
                replace hf := nm_at hf ew52
                refine lv_lstore_n (lv' := [(2, .long w52), (4, .long r46), (7, .long r46), (0, .ref (ad 0)), (1, .int x1), (6, .int x6)]) hx hb dX9_hedged_165 rfl hl (by decide) rfl (fun ls hl => ?_)
                refine lv_aload_n hx hb dX9_hedged_166 rfl (lv_at hl 3 rfl) ?_
                refine lv_iload_n hx hb dX9_hedged_167 rfl (lv_at hl 4 rfl) ?_
                refine lv_aload_n hx hb dX9_hedged_168 rfl (lv_at hl 3 rfl) ?_
                refine va_get (D := (dC, dI)) (ci := 9) (v := .ref (ad 4)) (C := RX9) (T := TX9) (N := 45) hx hb hts (fun w h => gw_mem (inX9 w h)) hown hK.1 hP 0 rfl rfl 4 (by decide) (hts _ (gw_mem wfX9_20)) (fun _ h9 => h9) rfl dX9_hedged_169 ?_
                refine lv_iload hx hb dX9_hedged_172 (lv_at hl 5 rfl) ?_
                obtain ⟨h53, hf⟩ := og_some hf
                refine va_iald hx hb hK.1 hP 4 0 rfl rfl (okI_in h53) dX9_hedged_174 ?_
                obtain ⟨c_sDay_54, c_sUps_55, c_sUp_56, c_sMarks_57, v58, hf⟩ := bd4_some hf
                refine gcv (va_runV (As := [.int x1, .int (c_moves (Int32.toNatClampNeg x6))]) (rest := []) ⟨hx, hb, hml, hown, hts⟩ (tX9_goesOn l dC dI dA ad H.size v58) (ccX9_X9_goesOn hts ⟨Nat.le_of_ble_eq_true rfl, Nat.le_of_ble_eq_true rfl⟩) (gPreV (ci := 9) (q0 := 0) hP hK hD rfl rfl) rfl rfl hl.1 rfl (lv_room (Nat.le_of_ble_eq_true rfl)) dX9_hedged_175 ⟨Nat.le_of_ble_eq_true rfl, Nat.le_of_ble_eq_true rfl⟩) hD hS hA (fun H locs hP hD hS => ?_)
                refine lv_lload_n hx hb dX9_hedged_178 rfl (lv_at hl 0 rfl) ?_
                refine lv_aload_n hx hb dX9_hedged_179 rfl (lv_at hl 3 rfl) ?_
                refine lv_iload_n hx hb dX9_hedged_180 rfl (lv_at hl 4 rfl) ?_
                refine lv_aload_n hx hb dX9_hedged_181 rfl (lv_at hl 3 rfl) ?_
                refine va_get (D := (dC, dI)) (ci := 9) (v := .int c_sDay_54) (C := RX9) (T := TX9) (N := 45) hx hb hts (fun w h => gw_mem (inX9 w h)) hown hK.1 hP 0 rfl rfl 28 (by decide) (hts _ (gw_mem wfX9_316)) (fun _ h9 => h9) rfl dX9_hedged_182 ?_
                obtain ⟨r59, v60, hf⟩ := bd1_some hf
                refine gci (va_runV (As := [.int x1, .int c_sDay_54]) (rest := [.long w52]) ⟨hx, hb, hml, hown, hts⟩ (tX9_couponOf l dC dI dA ad H.size v60) (ccX9_X9_couponOf hts ⟨Nat.le_of_ble_eq_true rfl, Nat.le_of_ble_eq_true rfl⟩) (gPreV (ci := 9) (q0 := 0) hP hK hD rfl rfl) rfl rfl hl.1 rfl (lv_room (Nat.le_of_ble_eq_true rfl)) dX9_hedged_185 ⟨Nat.le_of_ble_eq_true rfl, Nat.le_of_ble_eq_true rfl⟩) hD hS hA (fun H locs hP hD hS => ?_)
                refine lv_i2l hx hb dX9_hedged_188 rfl ?_
                refine lv_lsub hx hb dX9_hedged_189 ?_
                refine lv_topl (fun w61 ew61 => ?_)
                replace hf := nm_at hf ew61
                refine lv_lstore_n (lv' := [(2, .long w61), (4, .long r46), (7, .long r46), (0, .ref (ad 0)), (1, .int x1), (6, .int x6)]) hx hb dX9_hedged_190 rfl hl (by decide) rfl (fun ls hl => ?_)
                refine lv_iload hx hb dX9_hedged_191 (lv_at hl 5 rfl) ?_
                refine lv_iconst (v := 1) hx hb dX9_hedged_193 (by decide) ?_
                refine lv_iadd hx hb dX9_hedged_194 ?_
                refine lv_topi (fun w62 ew62 => ?_)
                replace hf := nm_at hf ew62
                refine lv_istore (lv' := [(6, .int w62), (2, .long w61), (4, .long r46), (7, .long r46), (0, .ref (ad 0)), (1, .int x1)]) hx hb dX9_hedged_195 hl (by decide) rfl (fun ls hl => ?_)
                refine lv_goto (tgt := 37) hx hb dX9_hedged_197 (by decide) ?_
                exact ih37 _ _ _ _ _ _ _ _ _ _ _ _ _ _ _ _ _ _ _ _ _ _ _ _ _ _ _ _ _ _ _ _ _ _ _ _ _ _ _ _ _ _ _ _ _ _ _ _ _ _ _ _ _ _ _ _ _ _ _ hP hD hS hf (lv_sub hl [4, 5, 1, 2, 0] rfl) hk0 hk1
              · replace hf := ifn (fun h => k49 (lc_ge.mpr h)) hf
                refine lv_ldc2 (v := (-100000)) hx hb hown (hts _ (gw_mem wkX9_393)) dX9_hedged_106 ?_
                refine lv_goto (tgt := 114) hx hb dX9_hedged_109 (by decide) ?_
                refine lv_lstore (lv' := [(7, .long (-100000)), (0, .ref (ad 0)), (1, .int x1), (2, .long x2), (4, .long x4), (6, .int x6)]) hx hb dX9_hedged_114 hl (by decide) rfl (fun ls hl => ?_)
                refine lv_lload_n hx hb dX9_hedged_116 rfl (lv_at hl 3 rfl) ?_
                refine lv_lload hx hb dX9_hedged_117 (lv_at hl 0 rfl) ?_
                refine lv_lload hx hb dX9_hedged_119 (lv_at hl 4 rfl) ?_
                refine lv_lsub hx hb dX9_hedged_121 ?_
                refine lv_aload_n hx hb dX9_hedged_122 rfl (lv_at hl 1 rfl) ?_
                refine va_get (D := (dC, dI)) (ci := 9) (v := .ref (ad 6)) (C := RX9) (T := TX9) (N := 45) hx hb hts (fun w h => gw_mem (inX9 w h)) hown hK.1 hP 0 rfl rfl 11 (by decide) (hts _ (gw_mem wfX9_26)) (fun _ h9 => h9) rfl dX9_hedged_123 ?_
                refine lv_bipush (v := 7) hx hb dX9_hedged_126 (by decide) ?_
                refine lv_aload_n hx hb dX9_hedged_128 rfl (lv_at hl 1 rfl) ?_
                refine va_get (D := (dC, dI)) (ci := 9) (v := .int c_sDay) (C := RX9) (T := TX9) (N := 45) hx hb hts (fun w h => gw_mem (inX9 w h)) hown hK.1 hP 0 rfl rfl 28 (by decide) (hts _ (gw_mem wfX9_316)) (fun _ h9 => h9) rfl dX9_hedged_129 ?_
                refine lv_imul hx hb dX9_hedged_132 ?_
                refine lv_aload_n hx hb dX9_hedged_133 rfl (lv_at hl 1 rfl) ?_
                refine va_get (D := (dC, dI)) (ci := 9) (v := .int c_sUps) (C := RX9) (T := TX9) (N := 45) hx hb hts (fun w h => gw_mem (inX9 w h)) hown hK.1 hP 0 rfl rfl 29 (by decide) (hts _ (gw_mem wfX9_319)) (fun _ h9 => h9) rfl dX9_hedged_134 ?_
                refine lv_iadd hx hb dX9_hedged_137 ?_
                obtain ⟨h63, hf⟩ := og_some hf
                refine va_lald hx hb hK.1 hP 6 1 rfl rfl (okI_in h63) dX9_hedged_138 ?_
                refine lv_lmul hx hb dX9_hedged_139 ?_
                refine lv_ldc2 (v := 1000) hx hb hown (hts _ (gw_mem wkX9_74)) dX9_hedged_140 ?_
                refine lv_ldiv hx hb dX9_hedged_143 (by decide) ?_
                refine lv_lsub hx hb dX9_hedged_144 ?_
                refine lv_topl (fun w64 ew64 => ?_)
                replace hf := nm_at hf ew64
                refine lv_lstore_n (lv' := [(2, .long w64), (7, .long (-100000)), (0, .ref (ad 0)), (1, .int x1), (4, .long x4), (6, .int x6)]) hx hb dX9_hedged_145 rfl hl (by decide) rfl (fun ls hl => ?_)
                refine lv_lload hx hb dX9_hedged_146 (lv_at hl 1 rfl) ?_
                refine lv_lstore (lv' := [(4, .long (-100000)), (2, .long w64), (7, .long (-100000)), (0, .ref (ad 0)), (1, .int x1), (6, .int x6)]) hx hb dX9_hedged_148 hl (by decide) rfl (fun ls hl => ?_)
                refine lv_lload_n hx hb dX9_hedged_150 rfl (lv_at hl 1 rfl) ?_
                refine lv_sipush (v := 1000) hx hb dX9_hedged_151 (by decide) ?_
                refine lv_aload_n hx hb dX9_hedged_154 rfl (lv_at hl 3 rfl) ?_
                refine va_get (D := (dC, dI)) (ci := 9) (v := .int c_rateNow) (C := RX9) (T := TX9) (N := 45) hx hb hts (fun w h => gw_mem (inX9 w h)) hown hK.1 hP 0 rfl rfl 10 (by decide) (hts _ (gw_mem wfX9_103)) (fun _ h9 => h9) rfl dX9_hedged_155 ?_
                refine lv_iadd hx hb dX9_hedged_158 ?_
                refine lv_i2l hx hb dX9_hedged_159 rfl ?_
                refine lv_lmul hx hb dX9_hedged_160 ?_
                refine lv_ldc2 (v := 1000) hx hb hown (hts _ (gw_mem wkX9_74)) dX9_hedged_161 ?_
                refine lv_ldiv hx hb dX9_hedged_164 (by decide) ?_
                refine lv_topl (fun w65 ew65 => ?_)
                replace hf := nm_at hf ew65
                refine lv_lstore_n (lv' := [(2, .long w65), (4, .long (-100000)), (7, .long (-100000)), (0, .ref (ad 0)), (1, .int x1), (6, .int x6)]) hx hb dX9_hedged_165 rfl hl (by decide) rfl (fun ls hl => ?_)
                refine lv_aload_n hx hb dX9_hedged_166 rfl (lv_at hl 3 rfl) ?_
                refine lv_iload_n hx hb dX9_hedged_167 rfl (lv_at hl 4 rfl) ?_
                refine lv_aload_n hx hb dX9_hedged_168 rfl (lv_at hl 3 rfl) ?_
                refine va_get (D := (dC, dI)) (ci := 9) (v := .ref (ad 4)) (C := RX9) (T := TX9) (N := 45) hx hb hts (fun w h => gw_mem (inX9 w h)) hown hK.1 hP 0 rfl rfl 4 (by decide) (hts _ (gw_mem wfX9_20)) (fun _ h9 => h9) rfl dX9_hedged_169 ?_
                refine lv_iload hx hb dX9_hedged_172 (lv_at hl 5 rfl) ?_
                obtain ⟨h66, hf⟩ := og_some hf
                refine va_iald hx hb hK.1 hP 4 0 rfl rfl (okI_in h66) dX9_hedged_174 ?_
                obtain ⟨c_sDay_67, c_sUps_68, c_sUp_69, c_sMarks_70, v71, hf⟩ := bd4_some hf
                refine gcv (va_runV (As := [.int x1, .int (c_moves (Int32.toNatClampNeg x6))]) (rest := []) ⟨hx, hb, hml, hown, hts⟩ (tX9_goesOn l dC dI dA ad H.size v71) (ccX9_X9_goesOn hts ⟨Nat.le_of_ble_eq_true rfl, Nat.le_of_ble_eq_true rfl⟩) (gPreV (ci := 9) (q0 := 0) hP hK hD rfl rfl) rfl rfl hl.1 rfl (lv_room (Nat.le_of_ble_eq_true rfl)) dX9_hedged_175 ⟨Nat.le_of_ble_eq_true rfl, Nat.le_of_ble_eq_true rfl⟩) hD hS hA (fun H locs hP hD hS => ?_)
                refine lv_lload_n hx hb dX9_hedged_178 rfl (lv_at hl 0 rfl) ?_
                refine lv_aload_n hx hb dX9_hedged_179 rfl (lv_at hl 3 rfl) ?_
                refine lv_iload_n hx hb dX9_hedged_180 rfl (lv_at hl 4 rfl) ?_
                refine lv_aload_n hx hb dX9_hedged_181 rfl (lv_at hl 3 rfl) ?_
                refine va_get (D := (dC, dI)) (ci := 9) (v := .int c_sDay_67) (C := RX9) (T := TX9) (N := 45) hx hb hts (fun w h => gw_mem (inX9 w h)) hown hK.1 hP 0 rfl rfl 28 (by decide) (hts _ (gw_mem wfX9_316)) (fun _ h9 => h9) rfl dX9_hedged_182 ?_
                obtain ⟨r72, v73, hf⟩ := bd1_some hf
                refine gci (va_runV (As := [.int x1, .int c_sDay_67]) (rest := [.long w65]) ⟨hx, hb, hml, hown, hts⟩ (tX9_couponOf l dC dI dA ad H.size v73) (ccX9_X9_couponOf hts ⟨Nat.le_of_ble_eq_true rfl, Nat.le_of_ble_eq_true rfl⟩) (gPreV (ci := 9) (q0 := 0) hP hK hD rfl rfl) rfl rfl hl.1 rfl (lv_room (Nat.le_of_ble_eq_true rfl)) dX9_hedged_185 ⟨Nat.le_of_ble_eq_true rfl, Nat.le_of_ble_eq_true rfl⟩) hD hS hA (fun H locs hP hD hS => ?_)
                refine lv_i2l hx hb dX9_hedged_188 rfl ?_
                refine lv_lsub hx hb dX9_hedged_189 ?_
                refine lv_topl (fun w74 ew74 => ?_)
                replace hf := nm_at hf ew74
                refine lv_lstore_n (lv' := [(2, .long w74), (4, .long (-100000)), (7, .long (-100000)), (0, .ref (ad 0)), (1, .int x1), (6, .int x6)]) hx hb dX9_hedged_190 rfl hl (by decide) rfl (fun ls hl => ?_)
                refine lv_iload hx hb dX9_hedged_191 (lv_at hl 5 rfl) ?_
                refine lv_iconst (v := 1) hx hb dX9_hedged_193 (by decide) ?_
                refine lv_iadd hx hb dX9_hedged_194 ?_
                refine lv_topi (fun w75 ew75 => ?_)
                replace hf := nm_at hf ew75
                refine lv_istore (lv' := [(6, .int w75), (2, .long w74), (4, .long (-100000)), (7, .long (-100000)), (0, .ref (ad 0)), (1, .int x1)]) hx hb dX9_hedged_195 hl (by decide) rfl (fun ls hl => ?_)
                refine lv_goto (tgt := 37) hx hb dX9_hedged_197 (by decide) ?_
                exact ih37 _ _ _ _ _ _ _ _ _ _ _ _ _ _ _ _ _ _ _ _ _ _ _ _ _ _ _ _ _ _ _ _ _ _ _ _ _ _ _ _ _ _ _ _ _ _ _ _ _ _ _ _ _ _ _ _ _ _ _ hP hD hS hf (lv_sub hl [4, 5, 1, 2, 0] rfl) hk0 hk1
            · replace hf := ifn (fun h => k48 (lc_le.mpr h)) hf
              refine lv_ldc2 (v := 100000) hx hb hown (hts _ (gw_mem wkX9_391)) dX9_hedged_91 ?_
              refine lv_goto (tgt := 114) hx hb dX9_hedged_94 (by decide) ?_
              refine lv_lstore (lv' := [(7, .long 100000), (0, .ref (ad 0)), (1, .int x1), (2, .long x2), (4, .long x4), (6, .int x6)]) hx hb dX9_hedged_114 hl (by decide) rfl (fun ls hl => ?_)
              refine lv_lload_n hx hb dX9_hedged_116 rfl (lv_at hl 3 rfl) ?_
              refine lv_lload hx hb dX9_hedged_117 (lv_at hl 0 rfl) ?_
              refine lv_lload hx hb dX9_hedged_119 (lv_at hl 4 rfl) ?_
              refine lv_lsub hx hb dX9_hedged_121 ?_
              refine lv_aload_n hx hb dX9_hedged_122 rfl (lv_at hl 1 rfl) ?_
              refine va_get (D := (dC, dI)) (ci := 9) (v := .ref (ad 6)) (C := RX9) (T := TX9) (N := 45) hx hb hts (fun w h => gw_mem (inX9 w h)) hown hK.1 hP 0 rfl rfl 11 (by decide) (hts _ (gw_mem wfX9_26)) (fun _ h9 => h9) rfl dX9_hedged_123 ?_
              refine lv_bipush (v := 7) hx hb dX9_hedged_126 (by decide) ?_
              refine lv_aload_n hx hb dX9_hedged_128 rfl (lv_at hl 1 rfl) ?_
              refine va_get (D := (dC, dI)) (ci := 9) (v := .int c_sDay) (C := RX9) (T := TX9) (N := 45) hx hb hts (fun w h => gw_mem (inX9 w h)) hown hK.1 hP 0 rfl rfl 28 (by decide) (hts _ (gw_mem wfX9_316)) (fun _ h9 => h9) rfl dX9_hedged_129 ?_
              refine lv_imul hx hb dX9_hedged_132 ?_
              refine lv_aload_n hx hb dX9_hedged_133 rfl (lv_at hl 1 rfl) ?_
              refine va_get (D := (dC, dI)) (ci := 9) (v := .int c_sUps) (C := RX9) (T := TX9) (N := 45) hx hb hts (fun w h => gw_mem (inX9 w h)) hown hK.1 hP 0 rfl rfl 29 (by decide) (hts _ (gw_mem wfX9_319)) (fun _ h9 => h9) rfl dX9_hedged_134 ?_
              refine lv_iadd hx hb dX9_hedged_137 ?_
              obtain ⟨h76, hf⟩ := og_some hf
              refine va_lald hx hb hK.1 hP 6 1 rfl rfl (okI_in h76) dX9_hedged_138 ?_
              refine lv_lmul hx hb dX9_hedged_139 ?_
              refine lv_ldc2 (v := 1000) hx hb hown (hts _ (gw_mem wkX9_74)) dX9_hedged_140 ?_
              refine lv_ldiv hx hb dX9_hedged_143 (by decide) ?_
              refine lv_lsub hx hb dX9_hedged_144 ?_
              refine lv_topl (fun w77 ew77 => ?_)
              replace hf := nm_at hf ew77
              refine lv_lstore_n (lv' := [(2, .long w77), (7, .long 100000), (0, .ref (ad 0)), (1, .int x1), (4, .long x4), (6, .int x6)]) hx hb dX9_hedged_145 rfl hl (by decide) rfl (fun ls hl => ?_)
              refine lv_lload hx hb dX9_hedged_146 (lv_at hl 1 rfl) ?_
              refine lv_lstore (lv' := [(4, .long 100000), (2, .long w77), (7, .long 100000), (0, .ref (ad 0)), (1, .int x1), (6, .int x6)]) hx hb dX9_hedged_148 hl (by decide) rfl (fun ls hl => ?_)
              refine lv_lload_n hx hb dX9_hedged_150 rfl (lv_at hl 1 rfl) ?_
              refine lv_sipush (v := 1000) hx hb dX9_hedged_151 (by decide) ?_
              refine lv_aload_n hx hb dX9_hedged_154 rfl (lv_at hl 3 rfl) ?_
              refine va_get (D := (dC, dI)) (ci := 9) (v := .int c_rateNow) (C := RX9) (T := TX9) (N := 45) hx hb hts (fun w h => gw_mem (inX9 w h)) hown hK.1 hP 0 rfl rfl 10 (by decide) (hts _ (gw_mem wfX9_103)) (fun _ h9 => h9) rfl dX9_hedged_155 ?_
              refine lv_iadd hx hb dX9_hedged_158 ?_
              refine lv_i2l hx hb dX9_hedged_159 rfl ?_
              refine lv_lmul hx hb dX9_hedged_160 ?_
              refine lv_ldc2 (v := 1000) hx hb hown (hts _ (gw_mem wkX9_74)) dX9_hedged_161 ?_
              refine lv_ldiv hx hb dX9_hedged_164 (by decide) ?_
              refine lv_topl (fun w78 ew78 => ?_)
              replace hf := nm_at hf ew78
              refine lv_lstore_n (lv' := [(2, .long w78), (4, .long 100000), (7, .long 100000), (0, .ref (ad 0)), (1, .int x1), (6, .int x6)]) hx hb dX9_hedged_165 rfl hl (by decide) rfl (fun ls hl => ?_)
              refine lv_aload_n hx hb dX9_hedged_166 rfl (lv_at hl 3 rfl) ?_
              refine lv_iload_n hx hb dX9_hedged_167 rfl (lv_at hl 4 rfl) ?_
              refine lv_aload_n hx hb dX9_hedged_168 rfl (lv_at hl 3 rfl) ?_
              refine va_get (D := (dC, dI)) (ci := 9) (v := .ref (ad 4)) (C := RX9) (T := TX9) (N := 45) hx hb hts (fun w h => gw_mem (inX9 w h)) hown hK.1 hP 0 rfl rfl 4 (by decide) (hts _ (gw_mem wfX9_20)) (fun _ h9 => h9) rfl dX9_hedged_169 ?_
              refine lv_iload hx hb dX9_hedged_172 (lv_at hl 5 rfl) ?_
              obtain ⟨h79, hf⟩ := og_some hf
              refine va_iald hx hb hK.1 hP 4 0 rfl rfl (okI_in h79) dX9_hedged_174 ?_
              obtain ⟨c_sDay_80, c_sUps_81, c_sUp_82, c_sMarks_83, v84, hf⟩ := bd4_some hf
              refine gcv (va_runV (As := [.int x1, .int (c_moves (Int32.toNatClampNeg x6))]) (rest := []) ⟨hx, hb, hml, hown, hts⟩ (tX9_goesOn l dC dI dA ad H.size v84) (ccX9_X9_goesOn hts ⟨Nat.le_of_ble_eq_true rfl, Nat.le_of_ble_eq_true rfl⟩) (gPreV (ci := 9) (q0 := 0) hP hK hD rfl rfl) rfl rfl hl.1 rfl (lv_room (Nat.le_of_ble_eq_true rfl)) dX9_hedged_175 ⟨Nat.le_of_ble_eq_true rfl, Nat.le_of_ble_eq_true rfl⟩) hD hS hA (fun H locs hP hD hS => ?_)
              refine lv_lload_n hx hb dX9_hedged_178 rfl (lv_at hl 0 rfl) ?_
              refine lv_aload_n hx hb dX9_hedged_179 rfl (lv_at hl 3 rfl) ?_
              refine lv_iload_n hx hb dX9_hedged_180 rfl (lv_at hl 4 rfl) ?_
              refine lv_aload_n hx hb dX9_hedged_181 rfl (lv_at hl 3 rfl) ?_
              refine va_get (D := (dC, dI)) (ci := 9) (v := .int c_sDay_80) (C := RX9) (T := TX9) (N := 45) hx hb hts (fun w h => gw_mem (inX9 w h)) hown hK.1 hP 0 rfl rfl 28 (by decide) (hts _ (gw_mem wfX9_316)) (fun _ h9 => h9) rfl dX9_hedged_182 ?_
              obtain ⟨r85, v86, hf⟩ := bd1_some hf
              refine gci (va_runV (As := [.int x1, .int c_sDay_80]) (rest := [.long w78]) ⟨hx, hb, hml, hown, hts⟩ (tX9_couponOf l dC dI dA ad H.size v86) (ccX9_X9_couponOf hts ⟨Nat.le_of_ble_eq_true rfl, Nat.le_of_ble_eq_true rfl⟩) (gPreV (ci := 9) (q0 := 0) hP hK hD rfl rfl) rfl rfl hl.1 rfl (lv_room (Nat.le_of_ble_eq_true rfl)) dX9_hedged_185 ⟨Nat.le_of_ble_eq_true rfl, Nat.le_of_ble_eq_true rfl⟩) hD hS hA (fun H locs hP hD hS => ?_)
              refine lv_i2l hx hb dX9_hedged_188 rfl ?_
              refine lv_lsub hx hb dX9_hedged_189 ?_
              refine lv_topl (fun w87 ew87 => ?_)
              replace hf := nm_at hf ew87
              refine lv_lstore_n (lv' := [(2, .long w87), (4, .long 100000), (7, .long 100000), (0, .ref (ad 0)), (1, .int x1), (6, .int x6)]) hx hb dX9_hedged_190 rfl hl (by decide) rfl (fun ls hl => ?_)
              refine lv_iload hx hb dX9_hedged_191 (lv_at hl 5 rfl) ?_
              refine lv_iconst (v := 1) hx hb dX9_hedged_193 (by decide) ?_
              refine lv_iadd hx hb dX9_hedged_194 ?_
              refine lv_topi (fun w88 ew88 => ?_)
              replace hf := nm_at hf ew88
              refine lv_istore (lv' := [(6, .int w88), (2, .long w87), (4, .long 100000), (7, .long 100000), (0, .ref (ad 0)), (1, .int x1)]) hx hb dX9_hedged_195 hl (by decide) rfl (fun ls hl => ?_)
              refine lv_goto (tgt := 37) hx hb dX9_hedged_197 (by decide) ?_
              exact ih37 _ _ _ _ _ _ _ _ _ _ _ _ _ _ _ _ _ _ _ _ _ _ _ _ _ _ _ _ _ _ _ _ _ _ _ _ _ _ _ _ _ _ _ _ _ _ _ _ _ _ _ _ _ _ _ _ _ _ _ hP hD hS hf (lv_sub hl [4, 5, 1, 2, 0] rfl) hk0 hk1
          · replace hf := ifp (lc_eq.mp k45) hf
            refine lv_lconst (v := 0) hx hb dX9_hedged_71 rfl ?_
            refine lv_goto (tgt := 80) hx hb dX9_hedged_72 (by decide) ?_
            refine lv_lstore (lv' := [(7, .long 0), (0, .ref (ad 0)), (1, .int x1), (2, .long x2), (4, .long x4), (6, .int x6)]) hx hb dX9_hedged_80 hl (by decide) rfl (fun ls hl => ?_)
            refine lv_lload hx hb dX9_hedged_82 (lv_at hl 0 rfl) ?_
            refine lv_ldc2 (v := 100000) hx hb hown (hts _ (gw_mem wkX9_391)) dX9_hedged_84 ?_
            refine W.lcmp hx hb dX9_hedged_87 ?_
            refine lv_if_le (tgt := 97) hx hb dX9_hedged_88 (by decide) (fun k89 => ?_) (fun k89 => absurd k89 (by decide))
            refine lv_lload hx hb dX9_hedged_97 (lv_at hl 0 rfl) ?_
            refine lv_ldc2 (v := (-100000)) hx hb hown (hts _ (gw_mem wkX9_393)) dX9_hedged_99 ?_
            refine W.lcmp hx hb dX9_hedged_102 ?_
            refine lv_if_ge (tgt := 112) hx hb dX9_hedged_103 (by decide) (fun k90 => ?_) (fun k90 => absurd k90 (by decide))
            refine lv_lload hx hb dX9_hedged_112 (lv_at hl 0 rfl) ?_
            refine lv_lstore (lv' := [(7, .long 0), (0, .ref (ad 0)), (1, .int x1), (2, .long x2), (4, .long x4), (6, .int x6)]) hx hb dX9_hedged_114 hl (by decide) rfl (fun ls hl => ?_)
            refine lv_lload_n hx hb dX9_hedged_116 rfl (lv_at hl 3 rfl) ?_
            refine lv_lload hx hb dX9_hedged_117 (lv_at hl 0 rfl) ?_
            refine lv_lload hx hb dX9_hedged_119 (lv_at hl 4 rfl) ?_
            refine lv_lsub hx hb dX9_hedged_121 ?_
            refine lv_aload_n hx hb dX9_hedged_122 rfl (lv_at hl 1 rfl) ?_
            refine va_get (D := (dC, dI)) (ci := 9) (v := .ref (ad 6)) (C := RX9) (T := TX9) (N := 45) hx hb hts (fun w h => gw_mem (inX9 w h)) hown hK.1 hP 0 rfl rfl 11 (by decide) (hts _ (gw_mem wfX9_26)) (fun _ h9 => h9) rfl dX9_hedged_123 ?_
            refine lv_bipush (v := 7) hx hb dX9_hedged_126 (by decide) ?_
            refine lv_aload_n hx hb dX9_hedged_128 rfl (lv_at hl 1 rfl) ?_
            refine va_get (D := (dC, dI)) (ci := 9) (v := .int c_sDay) (C := RX9) (T := TX9) (N := 45) hx hb hts (fun w h => gw_mem (inX9 w h)) hown hK.1 hP 0 rfl rfl 28 (by decide) (hts _ (gw_mem wfX9_316)) (fun _ h9 => h9) rfl dX9_hedged_129 ?_
            refine lv_imul hx hb dX9_hedged_132 ?_
            refine lv_aload_n hx hb dX9_hedged_133 rfl (lv_at hl 1 rfl) ?_
            refine va_get (D := (dC, dI)) (ci := 9) (v := .int c_sUps) (C := RX9) (T := TX9) (N := 45) hx hb hts (fun w h => gw_mem (inX9 w h)) hown hK.1 hP 0 rfl rfl 29 (by decide) (hts _ (gw_mem wfX9_319)) (fun _ h9 => h9) rfl dX9_hedged_134 ?_
            refine lv_iadd hx hb dX9_hedged_137 ?_
            obtain ⟨h91, hf⟩ := og_some hf
            refine va_lald hx hb hK.1 hP 6 1 rfl rfl (okI_in h91) dX9_hedged_138 ?_
            refine lv_lmul hx hb dX9_hedged_139 ?_
            refine lv_ldc2 (v := 1000) hx hb hown (hts _ (gw_mem wkX9_74)) dX9_hedged_140 ?_
            refine lv_ldiv hx hb dX9_hedged_143 (by decide) ?_
            refine lv_lsub hx hb dX9_hedged_144 ?_
            refine lv_topl (fun w92 ew92 => ?_)
            replace hf := nm_at hf ew92
            refine lv_lstore_n (lv' := [(2, .long w92), (7, .long 0), (0, .ref (ad 0)), (1, .int x1), (4, .long x4), (6, .int x6)]) hx hb dX9_hedged_145 rfl hl (by decide) rfl (fun ls hl => ?_)
            refine lv_lload hx hb dX9_hedged_146 (lv_at hl 1 rfl) ?_
            refine lv_lstore (lv' := [(4, .long 0), (2, .long w92), (7, .long 0), (0, .ref (ad 0)), (1, .int x1), (6, .int x6)]) hx hb dX9_hedged_148 hl (by decide) rfl (fun ls hl => ?_)
            refine lv_lload_n hx hb dX9_hedged_150 rfl (lv_at hl 1 rfl) ?_
            refine lv_sipush (v := 1000) hx hb dX9_hedged_151 (by decide) ?_
            refine lv_aload_n hx hb dX9_hedged_154 rfl (lv_at hl 3 rfl) ?_
            refine va_get (D := (dC, dI)) (ci := 9) (v := .int c_rateNow) (C := RX9) (T := TX9) (N := 45) hx hb hts (fun w h => gw_mem (inX9 w h)) hown hK.1 hP 0 rfl rfl 10 (by decide) (hts _ (gw_mem wfX9_103)) (fun _ h9 => h9) rfl dX9_hedged_155 ?_
            refine lv_iadd hx hb dX9_hedged_158 ?_
            refine lv_i2l hx hb dX9_hedged_159 rfl ?_
            refine lv_lmul hx hb dX9_hedged_160 ?_
            refine lv_ldc2 (v := 1000) hx hb hown (hts _ (gw_mem wkX9_74)) dX9_hedged_161 ?_
            refine lv_ldiv hx hb dX9_hedged_164 (by decide) ?_
            refine lv_topl (fun w93 ew93 => ?_)
            replace hf := nm_at hf ew93
            refine lv_lstore_n (lv' := [(2, .long w93), (4, .long 0), (7, .long 0), (0, .ref (ad 0)), (1, .int x1), (6, .int x6)]) hx hb dX9_hedged_165 rfl hl (by decide) rfl (fun ls hl => ?_)
            refine lv_aload_n hx hb dX9_hedged_166 rfl (lv_at hl 3 rfl) ?_
            refine lv_iload_n hx hb dX9_hedged_167 rfl (lv_at hl 4 rfl) ?_
            refine lv_aload_n hx hb dX9_hedged_168 rfl (lv_at hl 3 rfl) ?_
            refine va_get (D := (dC, dI)) (ci := 9) (v := .ref (ad 4)) (C := RX9) (T := TX9) (N := 45) hx hb hts (fun w h => gw_mem (inX9 w h)) hown hK.1 hP 0 rfl rfl 4 (by decide) (hts _ (gw_mem wfX9_20)) (fun _ h9 => h9) rfl dX9_hedged_169 ?_
            refine lv_iload hx hb dX9_hedged_172 (lv_at hl 5 rfl) ?_
            obtain ⟨h94, hf⟩ := og_some hf
            refine va_iald hx hb hK.1 hP 4 0 rfl rfl (okI_in h94) dX9_hedged_174 ?_
            obtain ⟨c_sDay_95, c_sUps_96, c_sUp_97, c_sMarks_98, v99, hf⟩ := bd4_some hf
            refine gcv (va_runV (As := [.int x1, .int (c_moves (Int32.toNatClampNeg x6))]) (rest := []) ⟨hx, hb, hml, hown, hts⟩ (tX9_goesOn l dC dI dA ad H.size v99) (ccX9_X9_goesOn hts ⟨Nat.le_of_ble_eq_true rfl, Nat.le_of_ble_eq_true rfl⟩) (gPreV (ci := 9) (q0 := 0) hP hK hD rfl rfl) rfl rfl hl.1 rfl (lv_room (Nat.le_of_ble_eq_true rfl)) dX9_hedged_175 ⟨Nat.le_of_ble_eq_true rfl, Nat.le_of_ble_eq_true rfl⟩) hD hS hA (fun H locs hP hD hS => ?_)
            refine lv_lload_n hx hb dX9_hedged_178 rfl (lv_at hl 0 rfl) ?_
            refine lv_aload_n hx hb dX9_hedged_179 rfl (lv_at hl 3 rfl) ?_
            refine lv_iload_n hx hb dX9_hedged_180 rfl (lv_at hl 4 rfl) ?_
            refine lv_aload_n hx hb dX9_hedged_181 rfl (lv_at hl 3 rfl) ?_
            refine va_get (D := (dC, dI)) (ci := 9) (v := .int c_sDay_95) (C := RX9) (T := TX9) (N := 45) hx hb hts (fun w h => gw_mem (inX9 w h)) hown hK.1 hP 0 rfl rfl 28 (by decide) (hts _ (gw_mem wfX9_316)) (fun _ h9 => h9) rfl dX9_hedged_182 ?_
            obtain ⟨r100, v101, hf⟩ := bd1_some hf
            refine gci (va_runV (As := [.int x1, .int c_sDay_95]) (rest := [.long w93]) ⟨hx, hb, hml, hown, hts⟩ (tX9_couponOf l dC dI dA ad H.size v101) (ccX9_X9_couponOf hts ⟨Nat.le_of_ble_eq_true rfl, Nat.le_of_ble_eq_true rfl⟩) (gPreV (ci := 9) (q0 := 0) hP hK hD rfl rfl) rfl rfl hl.1 rfl (lv_room (Nat.le_of_ble_eq_true rfl)) dX9_hedged_185 ⟨Nat.le_of_ble_eq_true rfl, Nat.le_of_ble_eq_true rfl⟩) hD hS hA (fun H locs hP hD hS => ?_)
            refine lv_i2l hx hb dX9_hedged_188 rfl ?_
            refine lv_lsub hx hb dX9_hedged_189 ?_
            refine lv_topl (fun w102 ew102 => ?_)
            replace hf := nm_at hf ew102
            refine lv_lstore_n (lv' := [(2, .long w102), (4, .long 0), (7, .long 0), (0, .ref (ad 0)), (1, .int x1), (6, .int x6)]) hx hb dX9_hedged_190 rfl hl (by decide) rfl (fun ls hl => ?_)
            refine lv_iload hx hb dX9_hedged_191 (lv_at hl 5 rfl) ?_
            refine lv_iconst (v := 1) hx hb dX9_hedged_193 (by decide) ?_
            refine lv_iadd hx hb dX9_hedged_194 ?_
            refine lv_topi (fun w103 ew103 => ?_)
            replace hf := nm_at hf ew103
            refine lv_istore (lv' := [(6, .int w103), (2, .long w102), (4, .long 0), (7, .long 0), (0, .ref (ad 0)), (1, .int x1)]) hx hb dX9_hedged_195 hl (by decide) rfl (fun ls hl => ?_)
            refine lv_goto (tgt := 37) hx hb dX9_hedged_197 (by decide) ?_
            exact ih37 _ _ _ _ _ _ _ _ _ _ _ _ _ _ _ _ _ _ _ _ _ _ _ _ _ _ _ _ _ _ _ _ _ _ _ _ _ _ _ _ _ _ _ _ _ _ _ _ _ _ _ _ _ _ _ _ _ _ _ hP hD hS hf (lv_sub hl [4, 5, 1, 2, 0] rfl) hk0 hk1
        · replace hf := ifp k42 hf
          cases hf
          exact hk0 rfl _ _ _ hP hD hS (lv_sub hl [] rfl)
  subst hQ
  unfold fX9_hedged at hf
  refine lv_iload_n hx hb dX9_hedged_0 rfl (lv_at hl 1 rfl) ?_
  obtain ⟨r1, v2, hf⟩ := bd1_some hf
  refine gci0 (va_runS (As := [.int p1]) (rest := []) ⟨hx, hb, hml, hown, hts⟩ (tX9_isBond l dC dI dA s.heap.size v2) (ccX9_X9_isBond hts ⟨Nat.le_of_ble_eq_true rfl, Nat.le_of_ble_eq_true rfl⟩) (gPreS0 hK) rfl rfl hl.1 rfl (lv_room (Nat.le_of_ble_eq_true rfl)) dX9_hedged_1 ⟨Nat.le_of_ble_eq_true rfl, Nat.le_of_ble_eq_true rfl⟩) hP hS hA (fun H locs hP hS => ?_)
  refine lv_if_ne (tgt := 11) hx hb dX9_hedged_4 (by decide) (fun k3 => ?_) (fun k3 => ?_)
  · replace hf := ifn k3 hf
    refine lv_aload_n hx hb dX9_hedged_11 rfl (lv_at hl 0 rfl) ?_
    refine lv_iload_n hx hb dX9_hedged_12 rfl (lv_at hl 1 rfl) ?_
    obtain ⟨c_days_4, c_likely_5, c_outOf_6, c_rateNow_7, c_pence_8, c_top_9, c_bottom_10, c_worth_11, c_hold_12, c_acts_13, v14, hf⟩ := bd10_some hf
    refine gcv (va_runV (As := [.int p1]) (rest := []) ⟨hx, hb, hml, hown, hts⟩ (tX9_playsNow l dC dI dA ad H.size v14) (ccX9_X9_playsNow hts ⟨Nat.le_of_ble_eq_true rfl, Nat.le_of_ble_eq_true rfl⟩) (gPreV (ci := 9) (q0 := 0) hP hK hD rfl rfl) rfl rfl hl.1 rfl (lv_room (Nat.le_of_ble_eq_true rfl)) dX9_hedged_13 ⟨Nat.le_of_ble_eq_true rfl, Nat.le_of_ble_eq_true rfl⟩) hD hS hA (fun H locs hP hD hS => ?_)
    refine lv_aload_n hx hb dX9_hedged_16 rfl (lv_at hl 0 rfl) ?_
    refine lv_iload_n hx hb dX9_hedged_17 rfl (lv_at hl 1 rfl) ?_
    obtain ⟨c_sDay_15, c_sUps_16, c_sUp_17, c_sMarks_18, v19, hf⟩ := bd4_some hf
    refine gcv (va_runV (As := [.int p1]) (rest := []) ⟨hx, hb, hml, hown, hts⟩ (tX9_starts l dC dI dA ad H.size v19) (ccX9_X9_starts hts ⟨Nat.le_of_ble_eq_true rfl, Nat.le_of_ble_eq_true rfl⟩) (gPreV (ci := 9) (q0 := 0) hP hK hD rfl rfl) rfl rfl hl.1 rfl (lv_room (Nat.le_of_ble_eq_true rfl)) dX9_hedged_18 ⟨Nat.le_of_ble_eq_true rfl, Nat.le_of_ble_eq_true rfl⟩) hD hS hA (fun H locs hP hD hS => ?_)
    refine lv_aload_n hx hb dX9_hedged_21 rfl (lv_at hl 0 rfl) ?_
    refine va_get (D := (dC, dI)) (ci := 9) (v := .ref (ad 7)) (C := RX9) (T := TX9) (N := 45) hx hb hts (fun w h => gw_mem (inX9 w h)) hown hK.1 hP 0 rfl rfl 24 (by decide) (hts _ (gw_mem wfX9_30)) (fun _ h9 => h9) rfl dX9_hedged_22 ?_
    refine lv_aload_n hx hb dX9_hedged_25 rfl (lv_at hl 0 rfl) ?_
    obtain ⟨r20, v21, hf⟩ := bd1_some hf
    refine gci (va_runV (As := []) (rest := [.ref (ad 7)]) ⟨hx, hb, hml, hown, hts⟩ (tX9_hereNow l dC dI dA ad H.size v21) (ccX9_X9_hereNow hts ⟨Nat.le_of_ble_eq_true rfl, Nat.le_of_ble_eq_true rfl⟩) (gPreV (ci := 9) (q0 := 0) hP hK hD rfl rfl) rfl rfl hl.1 rfl (lv_room (Nat.le_of_ble_eq_true rfl)) dX9_hedged_26 ⟨Nat.le_of_ble_eq_true rfl, Nat.le_of_ble_eq_true rfl⟩) hD hS hA (fun H locs hP hD hS => ?_)
    obtain ⟨h22, hf⟩ := og_some hf
    refine va_lald hx hb hK.1 hP 7 1 rfl rfl (okI_in h22) dX9_hedged_29 ?_
    refine lv_topl (fun w23 ew23 => ?_)
    replace hf := nm_at hf ew23
    refine lv_lstore_n (lv' := [(2, .long w23), (0, .ref (ad 0)), (1, .int p1)]) hx hb dX9_hedged_30 rfl hl (by decide) rfl (fun ls hl => ?_)
    refine lv_lconst (v := 0) hx hb dX9_hedged_31 rfl ?_
    refine lv_lstore (lv' := [(4, .long 0), (2, .long w23), (0, .ref (ad 0)), (1, .int p1)]) hx hb dX9_hedged_32 hl (by decide) rfl (fun ls hl => ?_)
    refine lv_iconst (v := 0) hx hb dX9_hedged_34 (by decide) ?_
    refine lv_istore (lv' := [(6, .int 0), (4, .long 0), (2, .long w23), (0, .ref (ad 0)), (1, .int p1)]) hx hb dX9_hedged_35 hl (by decide) rfl (fun ls hl => ?_)
    obtain ⟨tg24, x25, x26, c_sDay_27, c_sUps_28, c_sUp_29, c_sMarks_30, v31, hf⟩ := bd7_some hf
    refine LP37 FU _ _ _ _ _ _ _ _ _ _ _ _ _ _ _ _ _ _ _ _ _ _ _ _ _ _ _ _ _ _ _ _ _ _ _ _ _ _ _ _ _ _ _ _ _ _ _ _ _ _ _ _ _ _ _ _ _ _ _ hP hD hS v31 (lv_sub hl [3, 4, 2, 1, 0] rfl) (fun etg24 H locs ls hP hD hS hl => ?_) (fun etg24 H locs ls hP hD hS hl => ?_)
    · replace hf := ifp etg24 hf
      refine lv_ldc2 (v := (-2)) hx hb hown (hts _ (gw_mem wkX9_343)) dX9_hedged_58 ?_
      cases hf
      exact W.lret hx hb hr (fun t ht _ => gql hP hD hS ht) hS.2.2 dX9_hedged_61
    · replace hf := ifn (c := tg24 = 0) (by rw [etg24]; decide) hf
      refine lv_lload_n hx hb dX9_hedged_200 rfl (lv_at hl 2 rfl) ?_
      refine lv_lload hx hb dX9_hedged_201 (lv_at hl 3 rfl) ?_
      refine lv_aload_n hx hb dX9_hedged_203 rfl (lv_at hl 0 rfl) ?_
      refine va_get (D := (dC, dI)) (ci := 9) (v := .ref (ad 6)) (C := RX9) (T := TX9) (N := 45) hx hb hts (fun w h => gw_mem (inX9 w h)) hown hK.1 hP 0 rfl rfl 11 (by decide) (hts _ (gw_mem wfX9_26)) (fun _ h9 => h9) rfl dX9_hedged_204 ?_
      refine lv_bipush (v := 7) hx hb dX9_hedged_207 (by decide) ?_
      refine lv_aload_n hx hb dX9_hedged_209 rfl (lv_at hl 0 rfl) ?_
      refine va_get (D := (dC, dI)) (ci := 9) (v := .int c_sDay_27) (C := RX9) (T := TX9) (N := 45) hx hb hts (fun w h => gw_mem (inX9 w h)) hown hK.1 hP 0 rfl rfl 28 (by decide) (hts _ (gw_mem wfX9_316)) (fun _ h9 => h9) rfl dX9_hedged_210 ?_
      refine lv_imul hx hb dX9_hedged_213 ?_
      refine lv_aload_n hx hb dX9_hedged_214 rfl (lv_at hl 0 rfl) ?_
      refine va_get (D := (dC, dI)) (ci := 9) (v := .int c_sUps_28) (C := RX9) (T := TX9) (N := 45) hx hb hts (fun w h => gw_mem (inX9 w h)) hown hK.1 hP 0 rfl rfl 29 (by decide) (hts _ (gw_mem wfX9_319)) (fun _ h9 => h9) rfl dX9_hedged_215 ?_
      refine lv_iadd hx hb dX9_hedged_218 ?_
      obtain ⟨h32, hf⟩ := og_some hf
      refine va_lald hx hb hK.1 hP 6 1 rfl rfl (okI_in h32) dX9_hedged_219 ?_
      refine lv_lmul hx hb dX9_hedged_220 ?_
      refine lv_ldc2 (v := 1000) hx hb hown (hts _ (gw_mem wkX9_74)) dX9_hedged_221 ?_
      refine lv_ldiv hx hb dX9_hedged_224 (by decide) ?_
      refine lv_ladd hx hb dX9_hedged_225 ?_
      refine lv_aload_n hx hb dX9_hedged_226 rfl (lv_at hl 0 rfl) ?_
      refine lv_iload_n hx hb dX9_hedged_227 rfl (lv_at hl 1 rfl) ?_
      refine lv_aload_n hx hb dX9_hedged_228 rfl (lv_at hl 0 rfl) ?_
      refine va_get (D := (dC, dI)) (ci := 9) (v := .ref (ad 10)) (C := RX9) (T := TX9) (N := 45) hx hb hts (fun w h => gw_mem (inX9 w h)) hown hK.1 hP 0 rfl rfl 27 (by decide) (hts _ (gw_mem wfX9_39)) (fun _ h9 => h9) rfl dX9_hedged_229 ?_
      refine lv_aload_n hx hb dX9_hedged_232 rfl (lv_at hl 0 rfl) ?_
      obtain ⟨r33, v34, hf⟩ := bd1_some hf
      refine gci (va_runV (As := []) (rest := [.ref (ad 10), .int p1, .ref (ad 0), .long (x25 + ((x26 * (c_pence_8 (Int32.toNatClampNeg ((7 * c_sDay_27) + c_sUps_28)))) / 1000))]) ⟨hx, hb, hml, hown, hts⟩ (tX9_hereNow l dC dI dA ad H.size v34) (ccX9_X9_hereNow hts ⟨Nat.le_of_ble_eq_true rfl, Nat.le_of_ble_eq_true rfl⟩) (gPreV (ci := 9) (q0 := 0) hP hK hD rfl rfl) rfl rfl hl.1 rfl (lv_room (Nat.le_of_ble_eq_true rfl)) dX9_hedged_233 ⟨Nat.le_of_ble_eq_true rfl, Nat.le_of_ble_eq_true rfl⟩) hD hS hA (fun H locs hP hD hS => ?_)
      obtain ⟨h35, hf⟩ := og_some hf
      refine va_iald hx hb hK.1 hP 10 0 rfl rfl (okI_in h35) dX9_hedged_236 ?_
      obtain ⟨r36, v37, hf⟩ := bd1_some hf
      refine gcl (va_runV (As := [.int p1, .int (c_acts_13 (Int32.toNatClampNeg r33))]) (rest := [.long (x25 + ((x26 * (c_pence_8 (Int32.toNatClampNeg ((7 * c_sDay_27) + c_sUps_28)))) / 1000))]) ⟨hx, hb, hml, hown, hts⟩ (tX9_paysOf l dC dI dA ad H.size v37) (ccX9_X9_paysOf hts ⟨Nat.le_of_ble_eq_true rfl, Nat.le_of_ble_eq_true rfl⟩) (gPreV (ci := 9) (q0 := 0) hP hK hD rfl rfl) rfl rfl hl.1 rfl (lv_room (Nat.le_of_ble_eq_true rfl)) dX9_hedged_237 ⟨Nat.le_of_ble_eq_true rfl, Nat.le_of_ble_eq_true rfl⟩) hD hS hA (fun H locs hP hD hS => ?_)
      refine lv_lsub hx hb dX9_hedged_240 ?_
      cases hf
      exact W.lret hx hb hr (fun t ht _ => gql hP hD hS ht) hS.2.2 dX9_hedged_241
  · replace hf := ifp k3 hf
    refine lv_ldc2 (v := (-9223372036854775808)) hx hb hown (hts _ (gw_mem wkX9_364)) dX9_hedged_7 ?_
    cases hf
    exact W.lret hx hb hr (fun t ht _ => gql hP hD hS ht) hS.2.2 dX9_hedged_10
def lpX9_valueWith_13 (x1 : Int32) (x2 : Int32) : Nat → Int32 → (Nat → Int32) → Option ((Nat → Int32))
  | 0, _, _ => none
  | n + 1, x3, c_bonds => if 6 < x3 then some (c_bonds) else if x1 = 0 then some (c_bonds) else bd1 (fX9_sets 3 (2 + x3) x2 c_bonds) (fun c_bonds_20 => nm (x3 + 1) (fun w22 => lpX9_valueWith_13 x1 x2 n w22 c_bonds_20))
def fX9_valueWith (p1 : Int32) (p2 : Int32) (c_bonds : Nat → Int32) (c_days : Int32) (c_likely : Int32) (c_outOf : Int32) (c_rateNow : Int32) (c_pence : Nat → Int64) (c_worth : Nat → Int64) (c_hold : Nat → Int64) (c_acts : Nat → Int32) : Option (Int64 × (Nat → Int32) × (Nat → Int64) × (Nat → Int64) × (Nat → Int32)) := if p1 = 0 then bd1 (fX9_sets 3 1 p2 c_bonds) (fun c_bonds_9 => bd1 (lpX9_valueWith_13 p1 p2 FU 1 c_bonds_9) (fun c_bonds_11 => bd4 (fX9_valueOf 3 c_bonds_11 c_days c_likely c_outOf c_rateNow c_pence c_worth c_hold c_acts) (fun r13 c_worth_14 c_hold_15 c_acts_16 => some (r13, c_bonds_11, c_worth_14, c_hold_15, c_acts_16)))) else bd1 (lpX9_valueWith_13 p1 p2 FU 1 c_bonds) (fun c_bonds_2 => bd4 (fX9_valueOf 3 c_bonds_2 c_days c_likely c_outOf c_rateNow c_pence c_worth c_hold c_acts) (fun r4 c_worth_5 c_hold_6 c_acts_7 => some (r4, c_bonds_2, c_worth_5, c_hold_6, c_acts_7)))
abbrev rmX9_valueWith : Room := { frames := 7, cells := 0, slots := 0, locals := 184 }
set_option maxHeartbeats 4000000 in
set_option maxRecDepth 100000 in
theorem tX9_valueWith (l : Launch) (dC : Nat → ClassId) (dI : Nat → Nat → Nat) (dA : Nat → ClassId) (ad : Nat → Nat) (sz : Nat) {p1 : Int32} {p2 : Int32} {c_tape : Nat → Int32} {c_taped : Int32} {c_tree : Nat → Int32} {c_bonds : Nat → Int32} {c_moves : Nat → Int32} {c_handMoves : Nat → Int32} {c_moved : Int32} {c_days : Int32} {c_likely : Int32} {c_outOf : Int32} {c_rateNow : Int32} {c_pence : Nat → Int64} {c_top : Int64} {c_bottom : Int64} {c_spot : Int32} {c_textLong : Int32} {c_fault : Int32} {c_number : Int32} {c_numberAt : Int32} {c_figures : Int32} {c_written : Int32} {c_wanted : Int32} {c_found : Int32} {c_drawnNow : Int32} {c_worth : Nat → Int64} {c_hold : Nat → Int64} {c_way : Nat → Int64} {c_acts : Nat → Int32} {c_sDay : Int32} {c_sUps : Int32} {c_sUp : Int32} {c_sMarks : Int32} {c_paidAll : Int64} {c_isPlayed : Int32} {c_isOn : Int32} {c_handMoved : Int32} {c_handPaid : Int64} {c_regret : Int64} {c_aside : Nat → Int32} {c_other : Nat → Int64} {c_states : Int32} {c_kept : Nat → Int32} {c_keptLong : Nat → Int64} {c_keptAt : Int32} {c_isTaking : Int32} {r : Int64} {o_c_bonds : Nat → Int32} {o_c_worth : Nat → Int64} {o_c_hold : Nat → Int64} {o_c_acts : Nat → Int32} (hf : fX9_valueWith p1 p2 c_bonds c_days c_likely c_outOf c_rateNow c_pence c_worth c_hold c_acts = some (r, o_c_bonds, o_c_worth, o_c_hold, o_c_acts)) : Met l yX9_valueWith (wq (Cond.code yX9_valueWith cX9_valueWith 4 (some .long))) rmX9_valueWith (gP [.ref (ad 0), .int p1, .int p2] (dC, dI) dA (mW dA ad c_tape c_taped c_tree c_bonds c_moves c_handMoves c_moved c_days c_likely c_outOf c_rateNow c_pence c_top c_bottom c_spot c_textLong c_fault c_number c_numberAt c_figures c_written c_wanted c_found c_drawnNow c_worth c_hold c_way c_acts c_sDay c_sUps c_sUp c_sMarks c_paidAll c_isPlayed c_isOn c_handMoved c_handPaid c_regret c_aside c_other c_states c_kept c_keptLong c_keptAt c_isTaking) sz) (gQl (dC, dI) r (mW dA ad c_tape c_taped c_tree o_c_bonds c_moves c_handMoves c_moved c_days c_likely c_outOf c_rateNow c_pence c_top c_bottom c_spot c_textLong c_fault c_number c_numberAt c_figures c_written c_wanted c_found c_drawnNow o_c_worth o_c_hold c_way o_c_acts c_sDay c_sUps c_sUp c_sMarks c_paidAll c_isPlayed c_isOn c_handMoved c_handPaid c_regret c_aside c_other c_states c_kept c_keptLong c_keptAt c_isTaking) (va_A (mW dA ad c_tape c_taped c_tree c_bonds c_moves c_handMoves c_moved c_days c_likely c_outOf c_rateNow c_pence c_top c_bottom c_spot c_textLong c_fault c_number c_numberAt c_figures c_written c_wanted c_found c_drawnNow c_worth c_hold c_way c_acts c_sDay c_sUps c_sUp c_sMarks c_paidAll c_isPlayed c_isOn c_handMoved c_handPaid c_regret c_aside c_other c_states c_kept c_keptLong c_keptAt c_isTaking) sz)) 0 0 (va_A (mW dA ad c_tape c_taped c_tree c_bonds c_moves c_handMoves c_moved c_days c_likely c_outOf c_rateNow c_pence c_top c_bottom c_spot c_textLong c_fault c_number c_numberAt c_figures c_written c_wanted c_found c_drawnNow c_worth c_hold c_way c_acts c_sDay c_sUps c_sUp c_sMarks c_paidAll c_isPlayed c_isOn c_handMoved c_handPaid c_regret c_aside c_other c_states c_kept c_keptLong c_keptAt c_isTaking) sz) := by
  refine Met.ofW (cc := cX9_valueWith) (maxL := 4) (ret := (some .long)) (by decide) rfl ?_
  intro p e s m args below meth c s₁ B hml hv
  obtain ⟨rfl, hsz, hP, hK, hD0⟩ := hv
  have hx := B.exec
  have hb := B.bytes
  have hr := B.returns
  have hts := atoms_spec (ws := wq (Cond.code yX9_valueWith cX9_valueWith 4 (some .long))) B.pre
  have hown : s.vm.findClass RX9 = some m.cls := findClass_of_methodNamed B.named
  have hlocks := B.notSynchronized
  clear B
  subst hsz
  have hD := hD0.self (sz := s.heap.size)
  generalize hAe : va_A (mW dA ad c_tape c_taped c_tree c_bonds c_moves c_handMoves c_moved c_days c_likely c_outOf c_rateNow c_pence c_top c_bottom c_spot c_textLong c_fault c_number c_numberAt c_figures c_written c_wanted c_found c_drawnNow c_worth c_hold c_way c_acts c_sDay c_sUps c_sUp c_sMarks c_paidAll c_isPlayed c_isOn c_handMoved c_handPaid c_regret c_aside c_other c_states c_kept c_keptLong c_keptAt c_isTaking) s.heap.size = A at hD ⊢
  have hA : ∀ q : Nat, s.heap.size ≤ q → A q := fun q h => by rw [← hAe]; exact Or.inr h
  clear hAe hD0
  have hS : va_S A s.heap s.heap [] := va_S.rf
  have hl := lv_entry ([.ref (ad 0), .int p1, .int p2]) (n := 4) (Nat.le_of_ble_eq_true rfl)
  rw [lg_entry_eq]
  generalize (lg_sl ([.ref (ad 0), .int p1, .int p2]) ++ List.replicate (4 - (lg_sl ([.ref (ad 0), .int p1, .int p2])).length) Slot.unset).toArray = ls at hl ⊢
  have hl : lv_has ls 4 [(0, .ref (ad 0)), (1, .int p1), (2, .int p2)] := hl
  change W p l e rmX9_valueWith s m ([.ref (ad 0), .int p1, .int p2] : List Value).toArray below meth c s.heap [] 0 0 _ _
  generalize hQ : MQ below (gQl (dC, dI) r (mW dA ad c_tape c_taped c_tree o_c_bonds c_moves c_handMoves c_moved c_days c_likely c_outOf c_rateNow c_pence c_top c_bottom c_spot c_textLong c_fault c_number c_numberAt c_figures c_written c_wanted c_found c_drawnNow o_c_worth o_c_hold c_way o_c_acts c_sDay c_sUps c_sUp c_sMarks c_paidAll c_isPlayed c_isOn c_handMoved c_handPaid c_regret c_aside c_other c_states c_kept c_keptLong c_keptAt c_isTaking) A) ([.ref (ad 0), .int p1, .int p2] : List Value).toArray s 0 0 A = Q
  have LP13 : ∀ (n : Nat) (x1 : Int32) (x2 : Int32) (c_tape : Nat → Int32) (c_taped : Int32) (c_tree : Nat → Int32) (c_moves : Nat → Int32) (c_handMoves : Nat → Int32) (c_moved : Int32) (c_days : Int32) (c_likely : Int32) (c_outOf : Int32) (c_rateNow : Int32) (c_pence : Nat → Int64) (c_top : Int64) (c_bottom : Int64) (c_spot : Int32) (c_textLong : Int32) (c_fault : Int32) (c_number : Int32) (c_numberAt : Int32) (c_figures : Int32) (c_written : Int32) (c_wanted : Int32) (c_found : Int32) (c_drawnNow : Int32) (c_worth : Nat → Int64) (c_hold : Nat → Int64) (c_way : Nat → Int64) (c_acts : Nat → Int32) (c_sDay : Int32) (c_sUps : Int32) (c_sUp : Int32) (c_sMarks : Int32) (c_paidAll : Int64) (c_isPlayed : Int32) (c_isOn : Int32) (c_handMoved : Int32) (c_handPaid : Int64) (c_regret : Int64) (c_aside : Nat → Int32) (c_other : Nat → Int64) (c_states : Int32) (c_kept : Nat → Int32) (c_keptLong : Nat → Int64) (c_keptAt : Int32) (c_isTaking : Int32) (x3 : Int32) (c_bonds : Nat → Int32) (o_c_bonds : Nat → Int32) (H : Heap) (locs : List Loc) (ls : Array Slot), va_P (dC, dI) vwCl (mW dA ad c_tape c_taped c_tree c_bonds c_moves c_handMoves c_moved c_days c_likely c_outOf c_rateNow c_pence c_top c_bottom c_spot c_textLong c_fault c_number c_numberAt c_figures c_written c_wanted c_found c_drawnNow c_worth c_hold c_way c_acts c_sDay c_sUps c_sUp c_sMarks c_paidAll c_isPlayed c_isOn c_handMoved c_handPaid c_regret c_aside c_other c_states c_kept c_keptLong c_keptAt c_isTaking) H → va_D A (mW dA ad c_tape c_taped c_tree c_bonds c_moves c_handMoves c_moved c_days c_likely c_outOf c_rateNow c_pence c_top c_bottom c_spot c_textLong c_fault c_number c_numberAt c_figures c_written c_wanted c_found c_drawnNow c_worth c_hold c_way c_acts c_sDay c_sUps c_sUp c_sMarks c_paidAll c_isPlayed c_isOn c_handMoved c_handPaid c_regret c_aside c_other c_states c_kept c_keptLong c_keptAt c_isTaking) → va_S A s.heap H locs → lpX9_valueWith_13 x1 x2 n x3 c_bonds = some (o_c_bonds) → lv_has ls 4 [(0, .ref (ad 0)), (1, .int x1), (2, .int x2), (3, .int x3)] → (∀ (H : Heap) (locs : List Loc) (ls : Array Slot), va_P (dC, dI) vwCl (mW dA ad c_tape c_taped c_tree o_c_bonds c_moves c_handMoves c_moved c_days c_likely c_outOf c_rateNow c_pence c_top c_bottom c_spot c_textLong c_fault c_number c_numberAt c_figures c_written c_wanted c_found c_drawnNow c_worth c_hold c_way c_acts c_sDay c_sUps c_sUp c_sMarks c_paidAll c_isPlayed c_isOn c_handMoved c_handPaid c_regret c_aside c_other c_states c_kept c_keptLong c_keptAt c_isTaking) H → va_D A (mW dA ad c_tape c_taped c_tree o_c_bonds c_moves c_handMoves c_moved c_days c_likely c_outOf c_rateNow c_pence c_top c_bottom c_spot c_textLong c_fault c_number c_numberAt c_figures c_written c_wanted c_found c_drawnNow c_worth c_hold c_way c_acts c_sDay c_sUps c_sUp c_sMarks c_paidAll c_isPlayed c_isOn c_handMoved c_handPaid c_regret c_aside c_other c_states c_kept c_keptLong c_keptAt c_isTaking) → va_S A s.heap H locs → lv_has ls 4 [(0, .ref (ad 0))] → W p l e rmX9_valueWith s m ([.ref (ad 0), .int p1, .int p2] : List Value).toArray below meth c H locs 0 0 Q (F0 m 38 ls [])) → W p l e rmX9_valueWith s m ([.ref (ad 0), .int p1, .int p2] : List Value).toArray below meth c H locs 0 0 Q (F0 m 13 ls []) := by
    intro n
    induction n with
    | zero =>
      intro x1 x2 c_tape c_taped c_tree c_moves c_handMoves c_moved c_days c_likely c_outOf c_rateNow c_pence c_top c_bottom c_spot c_textLong c_fault c_number c_numberAt c_figures c_written c_wanted c_found c_drawnNow c_worth c_hold c_way c_acts c_sDay c_sUps c_sUp c_sMarks c_paidAll c_isPlayed c_isOn c_handMoved c_handPaid c_regret c_aside c_other c_states c_kept c_keptLong c_keptAt c_isTaking x3 c_bonds o_c_bonds H locs ls hP hD hS hf hl hk
      cases hf
    | succ n ih13 =>
      intro x1 x2 c_tape c_taped c_tree c_moves c_handMoves c_moved c_days c_likely c_outOf c_rateNow c_pence c_top c_bottom c_spot c_textLong c_fault c_number c_numberAt c_figures c_written c_wanted c_found c_drawnNow c_worth c_hold c_way c_acts c_sDay c_sUps c_sUp c_sMarks c_paidAll c_isPlayed c_isOn c_handMoved c_handPaid c_regret c_aside c_other c_states c_kept c_keptLong c_keptAt c_isTaking x3 c_bonds o_c_bonds H locs ls hP hD hS hf hl hk
      rw [lpX9_valueWith_13.eq_2] at hf
      refine lv_iload_n hx hb dX9_valueWith_13 rfl (lv_at hl 3 rfl) ?_
      refine lv_bipush (v := 6) hx hb dX9_valueWith_14 (by decide) ?_
      refine lv_icmp_gt (tgt := 38) hx hb dX9_valueWith_16 (by decide) (fun k18 => ?_) (fun k18 => ?_)
      · replace hf := ifp k18 hf
        cases hf
        exact hk _ _ _ hP hD hS (lv_sub hl [0] rfl)
      · replace hf := ifn k18 hf
        refine lv_iload_n hx hb dX9_valueWith_19 rfl (lv_at hl 1 rfl) ?_
        refine lv_if_eq (tgt := 38) hx hb dX9_valueWith_20 (by decide) (fun k19 => ?_) (fun k19 => ?_)
        · replace hf := ifp k19 hf
          cases hf
          exact hk _ _ _ hP hD hS (lv_sub hl [0] rfl)
        · replace hf := ifn k19 hf
          refine lv_aload_n hx hb dX9_valueWith_23 rfl (lv_at hl 0 rfl) ?_
          refine lv_iconst (v := 3) hx hb dX9_valueWith_24 (by decide) ?_
          refine lv_iconst (v := 2) hx hb dX9_valueWith_25 (by decide) ?_
          refine lv_iload_n hx hb dX9_valueWith_26 rfl (lv_at hl 3 rfl) ?_
          refine lv_iadd hx hb dX9_valueWith_27 ?_
          refine lv_iload_n hx hb dX9_valueWith_28 rfl (lv_at hl 2 rfl) ?_
          obtain ⟨c_bonds_20, v21, hf⟩ := bd1_some hf
          refine gcv (va_runV (As := [.int 3, .int (2 + x3), .int x2]) (rest := []) ⟨hx, hb, hml, hown, hts⟩ (tX9_sets l dC dI dA ad H.size v21) (ccX9_X9_sets hts ⟨Nat.le_of_ble_eq_true rfl, Nat.le_of_ble_eq_true rfl⟩) (gPreV (ci := 9) (q0 := 0) hP hK hD rfl rfl) rfl rfl hl.1 rfl (lv_room (Nat.le_of_ble_eq_true rfl)) dX9_valueWith_29 ⟨Nat.le_of_ble_eq_true rfl, Nat.le_of_ble_eq_true rfl⟩) hD hS hA (fun H locs hP hD hS => ?_)
          obtain ⟨w22, ew22⟩ : ∃ y : Int32, y = x3 + 1 := ⟨_, rfl⟩
          replace hf := nm_at hf ew22
          refine lv_iinc (v := w22) (lv' := [(3, .int w22), (0, .ref (ad 0)), (1, .int x1), (2, .int x2)]) hx hb dX9_valueWith_32 hl (k := 3) rfl (by rw [ew22]; rfl) (by decide) rfl (fun ls hl => ?_)
          refine lv_goto (tgt := 13) hx hb dX9_valueWith_35 (by decide) ?_
          exact ih13 _ _ _ _ _ _ _ _ _ _ _ _ _ _ _ _ _ _ _ _ _ _ _ _ _ _ _ _ _ _ _ _ _ _ _ _ _ _ _ _ _ _ _ _ _ _ _ _ _ _ _ _ hP hD hS hf (lv_sub hl [1, 2, 3, 0] rfl) hk
  subst hQ
  unfold fX9_valueWith at hf
  refine lv_iload_n hx hb dX9_valueWith_0 rfl (lv_at hl 1 rfl) ?_
  refine lv_if_ne (tgt := 11) hx hb dX9_valueWith_1 (by decide) (fun k1 => ?_) (fun k1 => ?_)
  · replace hf := ifn k1 hf
    refine lv_iconst (v := 1) hx hb dX9_valueWith_11 (by decide) ?_
    refine lv_istore_n (lv' := [(3, .int 1), (0, .ref (ad 0)), (1, .int p1), (2, .int p2)]) hx hb dX9_valueWith_12 rfl hl (by decide) rfl (fun ls hl => ?_)
    obtain ⟨c_bonds_2, v3, hf⟩ := bd1_some hf
    refine LP13 FU _ _ _ _ _ _ _ _ _ _ _ _ _ _ _ _ _ _ _ _ _ _ _ _ _ _ _ _ _ _ _ _ _ _ _ _ _ _ _ _ _ _ _ _ _ _ _ _ _ _ _ _ hP hD hS v3 (lv_sub hl [1, 2, 3, 0] rfl) (fun H locs ls hP hD hS hl => ?_)
    refine lv_aload_n hx hb dX9_valueWith_38 rfl (lv_at hl 0 rfl) ?_
    refine lv_iconst (v := 3) hx hb dX9_valueWith_39 (by decide) ?_
    obtain ⟨r4, c_worth_5, c_hold_6, c_acts_7, v8, hf⟩ := bd4_some hf
    refine gcl (va_runV (As := [.int 3]) (rest := []) ⟨hx, hb, hml, hown, hts⟩ (tX9_valueOf l dC dI dA ad H.size v8) (ccX9_X9_valueOf hts ⟨Nat.le_of_ble_eq_true rfl, Nat.le_of_ble_eq_true rfl⟩) (gPreV (ci := 9) (q0 := 0) hP hK hD rfl rfl) rfl rfl hl.1 rfl (lv_room (Nat.le_of_ble_eq_true rfl)) dX9_valueWith_40 ⟨Nat.le_of_ble_eq_true rfl, Nat.le_of_ble_eq_true rfl⟩) hD hS hA (fun H locs hP hD hS => ?_)
    cases hf
    exact W.lret hx hb hr (fun t ht _ => gql hP hD hS ht) hS.2.2 dX9_valueWith_43
  · replace hf := ifp k1 hf
    refine lv_aload_n hx hb dX9_valueWith_4 rfl (lv_at hl 0 rfl) ?_
    refine lv_iconst (v := 3) hx hb dX9_valueWith_5 (by decide) ?_
    refine lv_iconst (v := 1) hx hb dX9_valueWith_6 (by decide) ?_
    refine lv_iload_n hx hb dX9_valueWith_7 rfl (lv_at hl 2 rfl) ?_
    obtain ⟨c_bonds_9, v10, hf⟩ := bd1_some hf
    refine gcv (va_runV (As := [.int 3, .int 1, .int p2]) (rest := []) ⟨hx, hb, hml, hown, hts⟩ (tX9_sets l dC dI dA ad s.heap.size v10) (ccX9_X9_sets hts ⟨Nat.le_of_ble_eq_true rfl, Nat.le_of_ble_eq_true rfl⟩) (gPreV (ci := 9) (q0 := 0) hP hK hD rfl rfl) rfl rfl hl.1 rfl (lv_room (Nat.le_of_ble_eq_true rfl)) dX9_valueWith_8 ⟨Nat.le_of_ble_eq_true rfl, Nat.le_of_ble_eq_true rfl⟩) hD hS hA (fun H locs hP hD hS => ?_)
    refine lv_iconst (v := 1) hx hb dX9_valueWith_11 (by decide) ?_
    refine lv_istore_n (lv' := [(3, .int 1), (0, .ref (ad 0)), (1, .int p1), (2, .int p2)]) hx hb dX9_valueWith_12 rfl hl (by decide) rfl (fun ls hl => ?_)
    obtain ⟨c_bonds_11, v12, hf⟩ := bd1_some hf
    refine LP13 FU _ _ _ _ _ _ _ _ _ _ _ _ _ _ _ _ _ _ _ _ _ _ _ _ _ _ _ _ _ _ _ _ _ _ _ _ _ _ _ _ _ _ _ _ _ _ _ _ _ _ _ _ hP hD hS v12 (lv_sub hl [1, 2, 3, 0] rfl) (fun H locs ls hP hD hS hl => ?_)
    refine lv_aload_n hx hb dX9_valueWith_38 rfl (lv_at hl 0 rfl) ?_
    refine lv_iconst (v := 3) hx hb dX9_valueWith_39 (by decide) ?_
    obtain ⟨r13, c_worth_14, c_hold_15, c_acts_16, v17, hf⟩ := bd4_some hf
    refine gcl (va_runV (As := [.int 3]) (rest := []) ⟨hx, hb, hml, hown, hts⟩ (tX9_valueOf l dC dI dA ad H.size v17) (ccX9_X9_valueOf hts ⟨Nat.le_of_ble_eq_true rfl, Nat.le_of_ble_eq_true rfl⟩) (gPreV (ci := 9) (q0 := 0) hP hK hD rfl rfl) rfl rfl hl.1 rfl (lv_room (Nat.le_of_ble_eq_true rfl)) dX9_valueWith_40 ⟨Nat.le_of_ble_eq_true rfl, Nat.le_of_ble_eq_true rfl⟩) hD hS hA (fun H locs hP hD hS => ?_)
    cases hf
    exact W.lret hx hb hr (fun t ht _ => gql hP hD hS ht) hS.2.2 dX9_valueWith_43
theorem ccX9_X9_valueWith {R : Room} {s : State} {args : Array Value} {c0 : Cond} (ht : ∀ w ∈ wq c0, w.before args s = true) (hR : rmX9_valueWith.frames + 1 ≤ R.frames ∧ 8 + (4 + 11) + rmX9_valueWith.locals ≤ R.locals) : CallW R s args RX9 RX9 395 yX9_valueWith cX9_valueWith 4 (some .long) (wq (.code yX9_valueWith cX9_valueWith 4 (some .long))) rmX9_valueWith 0 0 2 := gCW 2 ht wcX9_valueWith wmX9_395 wiX9_valueWith weX9_valueWith wnX9 (by decide +kernel) rfl rfl hR
def lpX9_fair_44 (x2 : Int64) (x4 : Int32) (c_days : Int32) (c_likely : Int32) (c_outOf : Int32) (c_rateNow : Int32) (c_pence : Nat → Int64) : Nat → Int32 → Int32 → (Nat → Int32) → (Nat → Int64) → (Nat → Int64) → (Nat → Int32) → Option (Int32 × (Nat → Int32) × (Nat → Int64) × (Nat → Int64) × (Nat → Int32))
  | 0, _, _, _, _, _, _ => none
  | n + 1, x5, x6, c_bonds, c_worth, c_hold, c_acts => if x6 ≤ x5 then some (x5, c_bonds, c_worth, c_hold, c_acts) else nm ((x5 + x6) / 2) (fun w28 => bd5 (fX9_valueWith x4 w28 c_bonds c_days c_likely c_outOf c_rateNow c_pence c_worth c_hold c_acts) (fun r29 c_bonds_30 c_worth_31 c_hold_32 c_acts_33 => if r29 < x2 then nm (w28 + 1) (fun w36 => lpX9_fair_44 x2 x4 c_days c_likely c_outOf c_rateNow c_pence n w36 x6 c_bonds_30 c_worth_31 c_hold_32 c_acts_33) else lpX9_fair_44 x2 x4 c_days c_likely c_outOf c_rateNow c_pence n x5 w28 c_bonds_30 c_worth_31 c_hold_32 c_acts_33))
def fX9_fair (p1 : Int32) (p2 : Int64) (p4 : Int32) (c_tree : Nat → Int32) (c_bonds : Nat → Int32) (c_days : Int32) (c_likely : Int32) (c_outOf : Int32) (c_rateNow : Int32) (c_pence : Nat → Int64) (c_top : Int64) (c_bottom : Int64) (c_worth : Nat → Int64) (c_hold : Nat → Int64) (c_acts : Nat → Int32) : Option (Int32 × (Nat → Int32) × Int32 × Int32 × Int32 × Int32 × (Nat → Int64) × Int64 × Int64 × (Nat → Int64) × (Nat → Int64) × (Nat → Int32)) := bd1 (fX9_isBond p1) (fun r1 => if r1 = 0 then some ((-1), c_bonds, c_days, c_likely, c_outOf, c_rateNow, c_pence, c_top, c_bottom, c_worth, c_hold, c_acts) else bd7 (fX9_takesNow c_tree c_days c_likely c_outOf c_rateNow c_pence c_top c_bottom) (fun c_days_4 c_likely_5 c_outOf_6 c_rateNow_7 c_pence_8 c_top_9 c_bottom_10 => bd1 (fX9_copies p1 3 c_bonds) (fun c_bonds_12 => bd5 (fX9_valueWith p4 1000 c_bonds_12 c_days_4 c_likely_5 c_outOf_6 c_rateNow_7 c_pence_8 c_worth c_hold c_acts) (fun r14 c_bonds_15 c_worth_16 c_hold_17 c_acts_18 => if p2 ≤ r14 then bd5 (lpX9_fair_44 p2 p4 c_days_4 c_likely_5 c_outOf_6 c_rateNow_7 c_pence_8 FU 0 1000 c_bonds_15 c_worth_16 c_hold_17 c_acts_18) (fun x21 c_bonds_22 c_worth_23 c_hold_24 c_acts_25 => some (x21, c_bonds_22, c_days_4, c_likely_5, c_outOf_6, c_rateNow_7, c_pence_8, c_top_9, c_bottom_10, c_worth_23, c_hold_24, c_acts_25)) else some ((-2), c_bonds_15, c_days_4, c_likely_5, c_outOf_6, c_rateNow_7, c_pence_8, c_top_9, c_bottom_10, c_worth_16, c_hold_17, c_acts_18)))))
abbrev rmX9_fair : Room := { frames := 8, cells := 0, slots := 0, locals := 207 }
set_option maxHeartbeats 4000000 in
set_option maxRecDepth 100000 in
theorem tX9_fair (l : Launch) (dC : Nat → ClassId) (dI : Nat → Nat → Nat) (dA : Nat → ClassId) (ad : Nat → Nat) (sz : Nat) {p1 : Int32} {p2 : Int64} {p4 : Int32} {c_tape : Nat → Int32} {c_taped : Int32} {c_tree : Nat → Int32} {c_bonds : Nat → Int32} {c_moves : Nat → Int32} {c_handMoves : Nat → Int32} {c_moved : Int32} {c_days : Int32} {c_likely : Int32} {c_outOf : Int32} {c_rateNow : Int32} {c_pence : Nat → Int64} {c_top : Int64} {c_bottom : Int64} {c_spot : Int32} {c_textLong : Int32} {c_fault : Int32} {c_number : Int32} {c_numberAt : Int32} {c_figures : Int32} {c_written : Int32} {c_wanted : Int32} {c_found : Int32} {c_drawnNow : Int32} {c_worth : Nat → Int64} {c_hold : Nat → Int64} {c_way : Nat → Int64} {c_acts : Nat → Int32} {c_sDay : Int32} {c_sUps : Int32} {c_sUp : Int32} {c_sMarks : Int32} {c_paidAll : Int64} {c_isPlayed : Int32} {c_isOn : Int32} {c_handMoved : Int32} {c_handPaid : Int64} {c_regret : Int64} {c_aside : Nat → Int32} {c_other : Nat → Int64} {c_states : Int32} {c_kept : Nat → Int32} {c_keptLong : Nat → Int64} {c_keptAt : Int32} {c_isTaking : Int32} {r : Int32} {o_c_bonds : Nat → Int32} {o_c_days : Int32} {o_c_likely : Int32} {o_c_outOf : Int32} {o_c_rateNow : Int32} {o_c_pence : Nat → Int64} {o_c_top : Int64} {o_c_bottom : Int64} {o_c_worth : Nat → Int64} {o_c_hold : Nat → Int64} {o_c_acts : Nat → Int32} (hf : fX9_fair p1 p2 p4 c_tree c_bonds c_days c_likely c_outOf c_rateNow c_pence c_top c_bottom c_worth c_hold c_acts = some (r, o_c_bonds, o_c_days, o_c_likely, o_c_outOf, o_c_rateNow, o_c_pence, o_c_top, o_c_bottom, o_c_worth, o_c_hold, o_c_acts)) : Met l yX9_fair (wq (Cond.code yX9_fair cX9_fair 8 (some .int))) rmX9_fair (gP [.ref (ad 0), .int p1, .long p2, .int p4] (dC, dI) dA (mW dA ad c_tape c_taped c_tree c_bonds c_moves c_handMoves c_moved c_days c_likely c_outOf c_rateNow c_pence c_top c_bottom c_spot c_textLong c_fault c_number c_numberAt c_figures c_written c_wanted c_found c_drawnNow c_worth c_hold c_way c_acts c_sDay c_sUps c_sUp c_sMarks c_paidAll c_isPlayed c_isOn c_handMoved c_handPaid c_regret c_aside c_other c_states c_kept c_keptLong c_keptAt c_isTaking) sz) (gQi (dC, dI) r (mW dA ad c_tape c_taped c_tree o_c_bonds c_moves c_handMoves c_moved o_c_days o_c_likely o_c_outOf o_c_rateNow o_c_pence o_c_top o_c_bottom c_spot c_textLong c_fault c_number c_numberAt c_figures c_written c_wanted c_found c_drawnNow o_c_worth o_c_hold c_way o_c_acts c_sDay c_sUps c_sUp c_sMarks c_paidAll c_isPlayed c_isOn c_handMoved c_handPaid c_regret c_aside c_other c_states c_kept c_keptLong c_keptAt c_isTaking) (va_A (mW dA ad c_tape c_taped c_tree c_bonds c_moves c_handMoves c_moved c_days c_likely c_outOf c_rateNow c_pence c_top c_bottom c_spot c_textLong c_fault c_number c_numberAt c_figures c_written c_wanted c_found c_drawnNow c_worth c_hold c_way c_acts c_sDay c_sUps c_sUp c_sMarks c_paidAll c_isPlayed c_isOn c_handMoved c_handPaid c_regret c_aside c_other c_states c_kept c_keptLong c_keptAt c_isTaking) sz)) 0 0 (va_A (mW dA ad c_tape c_taped c_tree c_bonds c_moves c_handMoves c_moved c_days c_likely c_outOf c_rateNow c_pence c_top c_bottom c_spot c_textLong c_fault c_number c_numberAt c_figures c_written c_wanted c_found c_drawnNow c_worth c_hold c_way c_acts c_sDay c_sUps c_sUp c_sMarks c_paidAll c_isPlayed c_isOn c_handMoved c_handPaid c_regret c_aside c_other c_states c_kept c_keptLong c_keptAt c_isTaking) sz) := by
  refine Met.ofW (cc := cX9_fair) (maxL := 8) (ret := (some .int)) (by decide) rfl ?_
  intro p e s m args below meth c s₁ B hml hv
  obtain ⟨rfl, hsz, hP, hK, hD0⟩ := hv
  have hx := B.exec
  have hb := B.bytes
  have hr := B.returns
  have hts := atoms_spec (ws := wq (Cond.code yX9_fair cX9_fair 8 (some .int))) B.pre
  have hown : s.vm.findClass RX9 = some m.cls := findClass_of_methodNamed B.named
  have hlocks := B.notSynchronized
  clear B
  subst hsz
  have hD := hD0.self (sz := s.heap.size)
  generalize hAe : va_A (mW dA ad c_tape c_taped c_tree c_bonds c_moves c_handMoves c_moved c_days c_likely c_outOf c_rateNow c_pence c_top c_bottom c_spot c_textLong c_fault c_number c_numberAt c_figures c_written c_wanted c_found c_drawnNow c_worth c_hold c_way c_acts c_sDay c_sUps c_sUp c_sMarks c_paidAll c_isPlayed c_isOn c_handMoved c_handPaid c_regret c_aside c_other c_states c_kept c_keptLong c_keptAt c_isTaking) s.heap.size = A at hD ⊢
  have hA : ∀ q : Nat, s.heap.size ≤ q → A q := fun q h => by rw [← hAe]; exact Or.inr h
  clear hAe hD0
  have hS : va_S A s.heap s.heap [] := va_S.rf
  have hl := lv_entry ([.ref (ad 0), .int p1, .long p2, .int p4]) (n := 8) (Nat.le_of_ble_eq_true rfl)
  rw [lg_entry_eq]
  generalize (lg_sl ([.ref (ad 0), .int p1, .long p2, .int p4]) ++ List.replicate (8 - (lg_sl ([.ref (ad 0), .int p1, .long p2, .int p4])).length) Slot.unset).toArray = ls at hl ⊢
  have hl : lv_has ls 8 [(0, .ref (ad 0)), (1, .int p1), (2, .long p2), (4, .int p4)] := hl
  change W p l e rmX9_fair s m ([.ref (ad 0), .int p1, .long p2, .int p4] : List Value).toArray below meth c s.heap [] 0 0 _ _
  generalize hQ : MQ below (gQi (dC, dI) r (mW dA ad c_tape c_taped c_tree o_c_bonds c_moves c_handMoves c_moved o_c_days o_c_likely o_c_outOf o_c_rateNow o_c_pence o_c_top o_c_bottom c_spot c_textLong c_fault c_number c_numberAt c_figures c_written c_wanted c_found c_drawnNow o_c_worth o_c_hold c_way o_c_acts c_sDay c_sUps c_sUp c_sMarks c_paidAll c_isPlayed c_isOn c_handMoved c_handPaid c_regret c_aside c_other c_states c_kept c_keptLong c_keptAt c_isTaking) A) ([.ref (ad 0), .int p1, .long p2, .int p4] : List Value).toArray s 0 0 A = Q
  have LP44 : ∀ (n : Nat) (x2 : Int64) (x4 : Int32) (c_days : Int32) (c_likely : Int32) (c_outOf : Int32) (c_rateNow : Int32) (c_pence : Nat → Int64) (c_tape : Nat → Int32) (c_taped : Int32) (c_tree : Nat → Int32) (c_moves : Nat → Int32) (c_handMoves : Nat → Int32) (c_moved : Int32) (c_top : Int64) (c_bottom : Int64) (c_spot : Int32) (c_textLong : Int32) (c_fault : Int32) (c_number : Int32) (c_numberAt : Int32) (c_figures : Int32) (c_written : Int32) (c_wanted : Int32) (c_found : Int32) (c_drawnNow : Int32) (c_way : Nat → Int64) (c_sDay : Int32) (c_sUps : Int32) (c_sUp : Int32) (c_sMarks : Int32) (c_paidAll : Int64) (c_isPlayed : Int32) (c_isOn : Int32) (c_handMoved : Int32) (c_handPaid : Int64) (c_regret : Int64) (c_aside : Nat → Int32) (c_other : Nat → Int64) (c_states : Int32) (c_kept : Nat → Int32) (c_keptLong : Nat → Int64) (c_keptAt : Int32) (c_isTaking : Int32) (x5 : Int32) (x6 : Int32) (c_bonds : Nat → Int32) (c_worth : Nat → Int64) (c_hold : Nat → Int64) (c_acts : Nat → Int32) (o5 : Int32) (o_c_bonds : Nat → Int32) (o_c_worth : Nat → Int64) (o_c_hold : Nat → Int64) (o_c_acts : Nat → Int32) (H : Heap) (locs : List Loc) (ls : Array Slot), va_P (dC, dI) vwCl (mW dA ad c_tape c_taped c_tree c_bonds c_moves c_handMoves c_moved c_days c_likely c_outOf c_rateNow c_pence c_top c_bottom c_spot c_textLong c_fault c_number c_numberAt c_figures c_written c_wanted c_found c_drawnNow c_worth c_hold c_way c_acts c_sDay c_sUps c_sUp c_sMarks c_paidAll c_isPlayed c_isOn c_handMoved c_handPaid c_regret c_aside c_other c_states c_kept c_keptLong c_keptAt c_isTaking) H → va_D A (mW dA ad c_tape c_taped c_tree c_bonds c_moves c_handMoves c_moved c_days c_likely c_outOf c_rateNow c_pence c_top c_bottom c_spot c_textLong c_fault c_number c_numberAt c_figures c_written c_wanted c_found c_drawnNow c_worth c_hold c_way c_acts c_sDay c_sUps c_sUp c_sMarks c_paidAll c_isPlayed c_isOn c_handMoved c_handPaid c_regret c_aside c_other c_states c_kept c_keptLong c_keptAt c_isTaking) → va_S A s.heap H locs → lpX9_fair_44 x2 x4 c_days c_likely c_outOf c_rateNow c_pence n x5 x6 c_bonds c_worth c_hold c_acts = some (o5, o_c_bonds, o_c_worth, o_c_hold, o_c_acts) → lv_has ls 8 [(0, .ref (ad 0)), (2, .long x2), (4, .int x4), (5, .int x5), (6, .int x6)] → (∀ (H : Heap) (locs : List Loc) (ls : Array Slot), va_P (dC, dI) vwCl (mW dA ad c_tape c_taped c_tree o_c_bonds c_moves c_handMoves c_moved c_days c_likely c_outOf c_rateNow c_pence c_top c_bottom c_spot c_textLong c_fault c_number c_numberAt c_figures c_written c_wanted c_found c_drawnNow o_c_worth o_c_hold c_way o_c_acts c_sDay c_sUps c_sUp c_sMarks c_paidAll c_isPlayed c_isOn c_handMoved c_handPaid c_regret c_aside c_other c_states c_kept c_keptLong c_keptAt c_isTaking) H → va_D A (mW dA ad c_tape c_taped c_tree o_c_bonds c_moves c_handMoves c_moved c_days c_likely c_outOf c_rateNow c_pence c_top c_bottom c_spot c_textLong c_fault c_number c_numberAt c_figures c_written c_wanted c_found c_drawnNow o_c_worth o_c_hold c_way o_c_acts c_sDay c_sUps c_sUp c_sMarks c_paidAll c_isPlayed c_isOn c_handMoved c_handPaid c_regret c_aside c_other c_states c_kept c_keptLong c_keptAt c_isTaking) → va_S A s.heap H locs → lv_has ls 8 [(5, .int o5)] → W p l e rmX9_fair s m ([.ref (ad 0), .int p1, .long p2, .int p4] : List Value).toArray below meth c H locs 0 0 Q (F0 m 89 ls [])) → W p l e rmX9_fair s m ([.ref (ad 0), .int p1, .long p2, .int p4] : List Value).toArray below meth c H locs 0 0 Q (F0 m 44 ls []) := by
    intro n
    induction n with
    | zero =>
      intro x2 x4 c_days c_likely c_outOf c_rateNow c_pence c_tape c_taped c_tree c_moves c_handMoves c_moved c_top c_bottom c_spot c_textLong c_fault c_number c_numberAt c_figures c_written c_wanted c_found c_drawnNow c_way c_sDay c_sUps c_sUp c_sMarks c_paidAll c_isPlayed c_isOn c_handMoved c_handPaid c_regret c_aside c_other c_states c_kept c_keptLong c_keptAt c_isTaking x5 x6 c_bonds c_worth c_hold c_acts o5 o_c_bonds o_c_worth o_c_hold o_c_acts H locs ls hP hD hS hf hl hk
      cases hf
    | succ n ih44 =>
      intro x2 x4 c_days c_likely c_outOf c_rateNow c_pence c_tape c_taped c_tree c_moves c_handMoves c_moved c_top c_bottom c_spot c_textLong c_fault c_number c_numberAt c_figures c_written c_wanted c_found c_drawnNow c_way c_sDay c_sUps c_sUp c_sMarks c_paidAll c_isPlayed c_isOn c_handMoved c_handPaid c_regret c_aside c_other c_states c_kept c_keptLong c_keptAt c_isTaking x5 x6 c_bonds c_worth c_hold c_acts o5 o_c_bonds o_c_worth o_c_hold o_c_acts H locs ls hP hD hS hf hl hk
      rw [lpX9_fair_44.eq_2] at hf
      refine lv_iload hx hb dX9_fair_44 (lv_at hl 3 rfl) ?_
      refine lv_iload hx hb dX9_fair_46 (lv_at hl 4 rfl) ?_
      refine lv_icmp_ge (tgt := 89) hx hb dX9_fair_48 (by decide) (fun k27 => ?_) (fun k27 => ?_)
      · replace hf := ifp k27 hf
        cases hf
        exact hk _ _ _ hP hD hS (lv_sub hl [3] rfl)
      · replace hf := ifn k27 hf
        refine lv_iload hx hb dX9_fair_51 (lv_at hl 3 rfl) ?_
        refine lv_iload hx hb dX9_fair_53 (lv_at hl 4 rfl) ?_
        refine lv_iadd hx hb dX9_fair_55 ?_
        refine lv_iconst (v := 2) hx hb dX9_fair_56 (by decide) ?_
        refine lv_idiv hx hb dX9_fair_57 (by decide) ?_
        refine lv_topi (fun w28 ew28 => ?_)
        replace hf := nm_at hf ew28
        refine lv_istore (lv' := [(7, .int w28), (0, .ref (ad 0)), (2, .long x2), (4, .int x4), (5, .int x5), (6, .int x6)]) hx hb dX9_fair_58 hl (by decide) rfl (fun ls hl => ?_)
        refine lv_aload_n hx hb dX9_fair_60 rfl (lv_at hl 1 rfl) ?_
        refine lv_iload hx hb dX9_fair_61 (lv_at hl 3 rfl) ?_
        refine lv_iload hx hb dX9_fair_63 (lv_at hl 0 rfl) ?_
        obtain ⟨r29, c_bonds_30, c_worth_31, c_hold_32, c_acts_33, v34, hf⟩ := bd5_some hf
        refine gcl (va_runV (As := [.int x4, .int w28]) (rest := []) ⟨hx, hb, hml, hown, hts⟩ (tX9_valueWith l dC dI dA ad H.size v34) (ccX9_X9_valueWith hts ⟨Nat.le_of_ble_eq_true rfl, Nat.le_of_ble_eq_true rfl⟩) (gPreV (ci := 9) (q0 := 0) hP hK hD rfl rfl) rfl rfl hl.1 rfl (lv_room (Nat.le_of_ble_eq_true rfl)) dX9_fair_65 ⟨Nat.le_of_ble_eq_true rfl, Nat.le_of_ble_eq_true rfl⟩) hD hS hA (fun H locs hP hD hS => ?_)
        refine lv_lload_n hx hb dX9_fair_68 rfl (lv_at hl 2 rfl) ?_
        refine W.lcmp hx hb dX9_fair_69 ?_
        refine lv_if_lt (tgt := 80) hx hb dX9_fair_70 (by decide) (fun k35 => ?_) (fun k35 => ?_)
        · replace hf := ifp (lc_lt.mp k35) hf
          refine lv_iload hx hb dX9_fair_80 (lv_at hl 0 rfl) ?_
          refine lv_iconst (v := 1) hx hb dX9_fair_82 (by decide) ?_
          refine lv_iadd hx hb dX9_fair_83 ?_
          refine lv_topi (fun w36 ew36 => ?_)
          replace hf := nm_at hf ew36
          refine lv_istore (lv' := [(5, .int w36), (7, .int w28), (0, .ref (ad 0)), (2, .long x2), (4, .int x4), (6, .int x6)]) hx hb dX9_fair_84 hl (by decide) rfl (fun ls hl => ?_)
          refine lv_goto (tgt := 44) hx hb dX9_fair_86 (by decide) ?_
          exact ih44 _ _ _ _ _ _ _ _ _ _ _ _ _ _ _ _ _ _ _ _ _ _ _ _ _ _ _ _ _ _ _ _ _ _ _ _ _ _ _ _ _ _ _ _ _ _ _ _ _ _ _ _ _ _ _ _ _ hP hD hS hf (lv_sub hl [2, 3, 4, 0, 5] rfl) hk
        · replace hf := ifn (fun h => k35 (lc_lt.mpr h)) hf
          refine lv_iload hx hb dX9_fair_73 (lv_at hl 0 rfl) ?_
          refine lv_istore (lv' := [(6, .int w28), (7, .int w28), (0, .ref (ad 0)), (2, .long x2), (4, .int x4), (5, .int x5)]) hx hb dX9_fair_75 hl (by decide) rfl (fun ls hl => ?_)
          refine lv_goto (tgt := 86) hx hb dX9_fair_77 (by decide) ?_
          refine lv_goto (tgt := 44) hx hb dX9_fair_86 (by decide) ?_
          exact ih44 _ _ _ _ _ _ _ _ _ _ _ _ _ _ _ _ _ _ _ _ _ _ _ _ _ _ _ _ _ _ _ _ _ _ _ _ _ _ _ _ _ _ _ _ _ _ _ _ _ _ _ _ _ _ _ _ _ hP hD hS hf (lv_sub hl [2, 3, 4, 5, 0] rfl) hk
  subst hQ
  unfold fX9_fair at hf
  refine lv_iload_n hx hb dX9_fair_0 rfl (lv_at hl 1 rfl) ?_
  obtain ⟨r1, v2, hf⟩ := bd1_some hf
  refine gci0 (va_runS (As := [.int p1]) (rest := []) ⟨hx, hb, hml, hown, hts⟩ (tX9_isBond l dC dI dA s.heap.size v2) (ccX9_X9_isBond hts ⟨Nat.le_of_ble_eq_true rfl, Nat.le_of_ble_eq_true rfl⟩) (gPreS0 hK) rfl rfl hl.1 rfl (lv_room (Nat.le_of_ble_eq_true rfl)) dX9_fair_1 ⟨Nat.le_of_ble_eq_true rfl, Nat.le_of_ble_eq_true rfl⟩) hP hS hA (fun H locs hP hS => ?_)
  refine lv_if_ne (tgt := 9) hx hb dX9_fair_4 (by decide) (fun k3 => ?_) (fun k3 => ?_)
  · replace hf := ifn k3 hf
    refine lv_aload_n hx hb dX9_fair_9 rfl (lv_at hl 0 rfl) ?_
    obtain ⟨c_days_4, c_likely_5, c_outOf_6, c_rateNow_7, c_pence_8, c_top_9, c_bottom_10, v11, hf⟩ := bd7_some hf
    refine gcv (va_runV (As := []) (rest := []) ⟨hx, hb, hml, hown, hts⟩ (tX9_takesNow l dC dI dA ad H.size v11) (ccX9_X9_takesNow hts ⟨Nat.le_of_ble_eq_true rfl, Nat.le_of_ble_eq_true rfl⟩) (gPreV (ci := 9) (q0 := 0) hP hK hD rfl rfl) rfl rfl hl.1 rfl (lv_room (Nat.le_of_ble_eq_true rfl)) dX9_fair_10 ⟨Nat.le_of_ble_eq_true rfl, Nat.le_of_ble_eq_true rfl⟩) hD hS hA (fun H locs hP hD hS => ?_)
    refine lv_aload_n hx hb dX9_fair_13 rfl (lv_at hl 0 rfl) ?_
    refine lv_iload_n hx hb dX9_fair_14 rfl (lv_at hl 1 rfl) ?_
    refine lv_iconst (v := 3) hx hb dX9_fair_15 (by decide) ?_
    obtain ⟨c_bonds_12, v13, hf⟩ := bd1_some hf
    refine gcv (va_runV (As := [.int p1, .int 3]) (rest := []) ⟨hx, hb, hml, hown, hts⟩ (tX9_copies l dC dI dA ad H.size v13) (ccX9_X9_copies hts ⟨Nat.le_of_ble_eq_true rfl, Nat.le_of_ble_eq_true rfl⟩) (gPreV (ci := 9) (q0 := 0) hP hK hD rfl rfl) rfl rfl hl.1 rfl (lv_room (Nat.le_of_ble_eq_true rfl)) dX9_fair_16 ⟨Nat.le_of_ble_eq_true rfl, Nat.le_of_ble_eq_true rfl⟩) hD hS hA (fun H locs hP hD hS => ?_)
    refine lv_aload_n hx hb dX9_fair_19 rfl (lv_at hl 0 rfl) ?_
    refine lv_iload hx hb dX9_fair_20 (lv_at hl 3 rfl) ?_
    refine lv_sipush (v := 1000) hx hb dX9_fair_22 (by decide) ?_
    obtain ⟨r14, c_bonds_15, c_worth_16, c_hold_17, c_acts_18, v19, hf⟩ := bd5_some hf
    refine gcl (va_runV (As := [.int p4, .int 1000]) (rest := []) ⟨hx, hb, hml, hown, hts⟩ (tX9_valueWith l dC dI dA ad H.size v19) (ccX9_X9_valueWith hts ⟨Nat.le_of_ble_eq_true rfl, Nat.le_of_ble_eq_true rfl⟩) (gPreV (ci := 9) (q0 := 0) hP hK hD rfl rfl) rfl rfl hl.1 rfl (lv_room (Nat.le_of_ble_eq_true rfl)) dX9_fair_25 ⟨Nat.le_of_ble_eq_true rfl, Nat.le_of_ble_eq_true rfl⟩) hD hS hA (fun H locs hP hD hS => ?_)
    refine lv_lload_n hx hb dX9_fair_28 rfl (lv_at hl 2 rfl) ?_
    refine W.lcmp hx hb dX9_fair_29 ?_
    refine lv_if_ge (tgt := 36) hx hb dX9_fair_30 (by decide) (fun k20 => ?_) (fun k20 => ?_)
    · replace hf := ifp (lc_ge.mp k20) hf
      refine lv_iconst (v := 0) hx hb dX9_fair_36 (by decide) ?_
      refine lv_istore (lv' := [(5, .int 0), (0, .ref (ad 0)), (1, .int p1), (2, .long p2), (4, .int p4)]) hx hb dX9_fair_37 hl (by decide) rfl (fun ls hl => ?_)
      refine lv_sipush (v := 1000) hx hb dX9_fair_39 (by decide) ?_
      refine lv_istore (lv' := [(6, .int 1000), (5, .int 0), (0, .ref (ad 0)), (1, .int p1), (2, .long p2), (4, .int p4)]) hx hb dX9_fair_42 hl (by decide) rfl (fun ls hl => ?_)
      obtain ⟨x21, c_bonds_22, c_worth_23, c_hold_24, c_acts_25, v26, hf⟩ := bd5_some hf
      refine LP44 FU _ _ _ _ _ _ _ _ _ _ _ _ _ _ _ _ _ _ _ _ _ _ _ _ _ _ _ _ _ _ _ _ _ _ _ _ _ _ _ _ _ _ _ _ _ _ _ _ _ _ _ _ _ _ _ _ _ hP hD hS v26 (lv_sub hl [2, 4, 5, 1, 0] rfl) (fun H locs ls hP hD hS hl => ?_)
      refine lv_iload hx hb dX9_fair_89 (lv_at hl 0 rfl) ?_
      cases hf
      exact W.iret hx hb hr (fun t ht _ => gqi hP hD hS ht) hS.2.2 dX9_fair_91
    · replace hf := ifn (fun h => k20 (lc_ge.mpr h)) hf
      refine lv_bipush (v := (-2)) hx hb dX9_fair_33 (by decide) ?_
      cases hf
      exact W.iret hx hb hr (fun t ht _ => gqi hP hD hS ht) hS.2.2 dX9_fair_35
  · replace hf := ifp k3 hf
    refine lv_iconst (v := (-1)) hx hb dX9_fair_7 (by decide) ?_
    cases hf
    exact W.iret hx hb hr (fun t ht _ => gqi hP hD hS ht) hS.2.2 dX9_fair_8
theorem ccX9_X9_fair {R : Room} {s : State} {args : Array Value} {c0 : Cond} (ht : ∀ w ∈ wq c0, w.before args s = true) (hR : rmX9_fair.frames + 1 ≤ R.frames ∧ 8 + (8 + 11) + rmX9_fair.locals ≤ R.locals) : CallW R s args RX9 RX9 399 yX9_fair cX9_fair 8 (some .int) (wq (.code yX9_fair cX9_fair 8 (some .int))) rmX9_fair 0 0 3 := gCW 3 ht wcX9_fair wmX9_399 wiX9_fair weX9_fair wnX9 (by decide +kernel) rfl rfl hR
def fX9_fairCoupon (p1 : Int32) (p2 : Int64) (c_tree : Nat → Int32) (c_bonds : Nat → Int32) (c_days : Int32) (c_likely : Int32) (c_outOf : Int32) (c_rateNow : Int32) (c_pence : Nat → Int64) (c_top : Int64) (c_bottom : Int64) (c_worth : Nat → Int64) (c_hold : Nat → Int64) (c_acts : Nat → Int32) : Option (Int32 × (Nat → Int32) × Int32 × Int32 × Int32 × Int32 × (Nat → Int64) × Int64 × Int64 × (Nat → Int64) × (Nat → Int64) × (Nat → Int32)) := bd12 (fX9_fair p1 p2 1 c_tree c_bonds c_days c_likely c_outOf c_rateNow c_pence c_top c_bottom c_worth c_hold c_acts) (fun r1 c_bonds_2 c_days_3 c_likely_4 c_outOf_5 c_rateNow_6 c_pence_7 c_top_8 c_bottom_9 c_worth_10 c_hold_11 c_acts_12 => some (r1, c_bonds_2, c_days_3, c_likely_4, c_outOf_5, c_rateNow_6, c_pence_7, c_top_8, c_bottom_9, c_worth_10, c_hold_11, c_acts_12))
abbrev rmX9_fairCoupon : Room := { frames := 9, cells := 0, slots := 0, locals := 234 }
set_option maxHeartbeats 4000000 in
set_option maxRecDepth 100000 in
theorem tX9_fairCoupon (l : Launch) (dC : Nat → ClassId) (dI : Nat → Nat → Nat) (dA : Nat → ClassId) (ad : Nat → Nat) (sz : Nat) {p1 : Int32} {p2 : Int64} {c_tape : Nat → Int32} {c_taped : Int32} {c_tree : Nat → Int32} {c_bonds : Nat → Int32} {c_moves : Nat → Int32} {c_handMoves : Nat → Int32} {c_moved : Int32} {c_days : Int32} {c_likely : Int32} {c_outOf : Int32} {c_rateNow : Int32} {c_pence : Nat → Int64} {c_top : Int64} {c_bottom : Int64} {c_spot : Int32} {c_textLong : Int32} {c_fault : Int32} {c_number : Int32} {c_numberAt : Int32} {c_figures : Int32} {c_written : Int32} {c_wanted : Int32} {c_found : Int32} {c_drawnNow : Int32} {c_worth : Nat → Int64} {c_hold : Nat → Int64} {c_way : Nat → Int64} {c_acts : Nat → Int32} {c_sDay : Int32} {c_sUps : Int32} {c_sUp : Int32} {c_sMarks : Int32} {c_paidAll : Int64} {c_isPlayed : Int32} {c_isOn : Int32} {c_handMoved : Int32} {c_handPaid : Int64} {c_regret : Int64} {c_aside : Nat → Int32} {c_other : Nat → Int64} {c_states : Int32} {c_kept : Nat → Int32} {c_keptLong : Nat → Int64} {c_keptAt : Int32} {c_isTaking : Int32} {r : Int32} {o_c_bonds : Nat → Int32} {o_c_days : Int32} {o_c_likely : Int32} {o_c_outOf : Int32} {o_c_rateNow : Int32} {o_c_pence : Nat → Int64} {o_c_top : Int64} {o_c_bottom : Int64} {o_c_worth : Nat → Int64} {o_c_hold : Nat → Int64} {o_c_acts : Nat → Int32} (hf : fX9_fairCoupon p1 p2 c_tree c_bonds c_days c_likely c_outOf c_rateNow c_pence c_top c_bottom c_worth c_hold c_acts = some (r, o_c_bonds, o_c_days, o_c_likely, o_c_outOf, o_c_rateNow, o_c_pence, o_c_top, o_c_bottom, o_c_worth, o_c_hold, o_c_acts)) : Met l yX9_fairCoupon (wq (Cond.code yX9_fairCoupon cX9_fairCoupon 4 (some .int))) rmX9_fairCoupon (gP [.ref (ad 0), .int p1, .long p2] (dC, dI) dA (mW dA ad c_tape c_taped c_tree c_bonds c_moves c_handMoves c_moved c_days c_likely c_outOf c_rateNow c_pence c_top c_bottom c_spot c_textLong c_fault c_number c_numberAt c_figures c_written c_wanted c_found c_drawnNow c_worth c_hold c_way c_acts c_sDay c_sUps c_sUp c_sMarks c_paidAll c_isPlayed c_isOn c_handMoved c_handPaid c_regret c_aside c_other c_states c_kept c_keptLong c_keptAt c_isTaking) sz) (gQi (dC, dI) r (mW dA ad c_tape c_taped c_tree o_c_bonds c_moves c_handMoves c_moved o_c_days o_c_likely o_c_outOf o_c_rateNow o_c_pence o_c_top o_c_bottom c_spot c_textLong c_fault c_number c_numberAt c_figures c_written c_wanted c_found c_drawnNow o_c_worth o_c_hold c_way o_c_acts c_sDay c_sUps c_sUp c_sMarks c_paidAll c_isPlayed c_isOn c_handMoved c_handPaid c_regret c_aside c_other c_states c_kept c_keptLong c_keptAt c_isTaking) (va_A (mW dA ad c_tape c_taped c_tree c_bonds c_moves c_handMoves c_moved c_days c_likely c_outOf c_rateNow c_pence c_top c_bottom c_spot c_textLong c_fault c_number c_numberAt c_figures c_written c_wanted c_found c_drawnNow c_worth c_hold c_way c_acts c_sDay c_sUps c_sUp c_sMarks c_paidAll c_isPlayed c_isOn c_handMoved c_handPaid c_regret c_aside c_other c_states c_kept c_keptLong c_keptAt c_isTaking) sz)) 0 0 (va_A (mW dA ad c_tape c_taped c_tree c_bonds c_moves c_handMoves c_moved c_days c_likely c_outOf c_rateNow c_pence c_top c_bottom c_spot c_textLong c_fault c_number c_numberAt c_figures c_written c_wanted c_found c_drawnNow c_worth c_hold c_way c_acts c_sDay c_sUps c_sUp c_sMarks c_paidAll c_isPlayed c_isOn c_handMoved c_handPaid c_regret c_aside c_other c_states c_kept c_keptLong c_keptAt c_isTaking) sz) := by
  refine Met.ofW (cc := cX9_fairCoupon) (maxL := 4) (ret := (some .int)) (by decide) rfl ?_
  intro p e s m args below meth c s₁ B hml hv
  obtain ⟨rfl, hsz, hP, hK, hD0⟩ := hv
  have hx := B.exec
  have hb := B.bytes
  have hr := B.returns
  have hts := atoms_spec (ws := wq (Cond.code yX9_fairCoupon cX9_fairCoupon 4 (some .int))) B.pre
  have hown : s.vm.findClass RX9 = some m.cls := findClass_of_methodNamed B.named
  have hlocks := B.notSynchronized
  clear B
  subst hsz
  have hD := hD0.self (sz := s.heap.size)
  generalize hAe : va_A (mW dA ad c_tape c_taped c_tree c_bonds c_moves c_handMoves c_moved c_days c_likely c_outOf c_rateNow c_pence c_top c_bottom c_spot c_textLong c_fault c_number c_numberAt c_figures c_written c_wanted c_found c_drawnNow c_worth c_hold c_way c_acts c_sDay c_sUps c_sUp c_sMarks c_paidAll c_isPlayed c_isOn c_handMoved c_handPaid c_regret c_aside c_other c_states c_kept c_keptLong c_keptAt c_isTaking) s.heap.size = A at hD ⊢
  have hA : ∀ q : Nat, s.heap.size ≤ q → A q := fun q h => by rw [← hAe]; exact Or.inr h
  clear hAe hD0
  have hS : va_S A s.heap s.heap [] := va_S.rf
  have hl := lv_entry ([.ref (ad 0), .int p1, .long p2]) (n := 4) (Nat.le_of_ble_eq_true rfl)
  rw [lg_entry_eq]
  generalize (lg_sl ([.ref (ad 0), .int p1, .long p2]) ++ List.replicate (4 - (lg_sl ([.ref (ad 0), .int p1, .long p2])).length) Slot.unset).toArray = ls at hl ⊢
  have hl : lv_has ls 4 [(0, .ref (ad 0)), (1, .int p1), (2, .long p2)] := hl
  change W p l e rmX9_fairCoupon s m ([.ref (ad 0), .int p1, .long p2] : List Value).toArray below meth c s.heap [] 0 0 _ _
  unfold fX9_fairCoupon at hf
  refine lv_aload_n hx hb dX9_fairCoupon_0 rfl (lv_at hl 0 rfl) ?_
  refine lv_iload_n hx hb dX9_fairCoupon_1 rfl (lv_at hl 1 rfl) ?_
  refine lv_lload_n hx hb dX9_fairCoupon_2 rfl (lv_at hl 2 rfl) ?_
  refine lv_iconst (v := 1) hx hb dX9_fairCoupon_3 (by decide) ?_
  obtain ⟨r1, c_bonds_2, c_days_3, c_likely_4, c_outOf_5, c_rateNow_6, c_pence_7, c_top_8, c_bottom_9, c_worth_10, c_hold_11, c_acts_12, v13, hf⟩ := bd12_some hf
  refine gci (va_runV (As := [.int p1, .long p2, .int 1]) (rest := []) ⟨hx, hb, hml, hown, hts⟩ (tX9_fair l dC dI dA ad s.heap.size v13) (ccX9_X9_fair hts ⟨Nat.le_of_ble_eq_true rfl, Nat.le_of_ble_eq_true rfl⟩) (gPreV (ci := 9) (q0 := 0) hP hK hD rfl rfl) rfl rfl hl.1 rfl (lv_room (Nat.le_of_ble_eq_true rfl)) dX9_fairCoupon_4 ⟨Nat.le_of_ble_eq_true rfl, Nat.le_of_ble_eq_true rfl⟩) hD hS hA (fun H locs hP hD hS => ?_)
  cases hf
  exact W.iret hx hb hr (fun t ht _ => gqi hP hD hS ht) hS.2.2 dX9_fairCoupon_7
def fX9_fairRatio (p1 : Int32) (p2 : Int64) (c_tree : Nat → Int32) (c_bonds : Nat → Int32) (c_days : Int32) (c_likely : Int32) (c_outOf : Int32) (c_rateNow : Int32) (c_pence : Nat → Int64) (c_top : Int64) (c_bottom : Int64) (c_worth : Nat → Int64) (c_hold : Nat → Int64) (c_acts : Nat → Int32) : Option (Int32 × (Nat → Int32) × Int32 × Int32 × Int32 × Int32 × (Nat → Int64) × Int64 × Int64 × (Nat → Int64) × (Nat → Int64) × (Nat → Int32)) := bd12 (fX9_fair p1 p2 0 c_tree c_bonds c_days c_likely c_outOf c_rateNow c_pence c_top c_bottom c_worth c_hold c_acts) (fun r1 c_bonds_2 c_days_3 c_likely_4 c_outOf_5 c_rateNow_6 c_pence_7 c_top_8 c_bottom_9 c_worth_10 c_hold_11 c_acts_12 => some (r1, c_bonds_2, c_days_3, c_likely_4, c_outOf_5, c_rateNow_6, c_pence_7, c_top_8, c_bottom_9, c_worth_10, c_hold_11, c_acts_12))
abbrev rmX9_fairRatio : Room := { frames := 9, cells := 0, slots := 0, locals := 234 }
set_option maxHeartbeats 4000000 in
set_option maxRecDepth 100000 in
theorem tX9_fairRatio (l : Launch) (dC : Nat → ClassId) (dI : Nat → Nat → Nat) (dA : Nat → ClassId) (ad : Nat → Nat) (sz : Nat) {p1 : Int32} {p2 : Int64} {c_tape : Nat → Int32} {c_taped : Int32} {c_tree : Nat → Int32} {c_bonds : Nat → Int32} {c_moves : Nat → Int32} {c_handMoves : Nat → Int32} {c_moved : Int32} {c_days : Int32} {c_likely : Int32} {c_outOf : Int32} {c_rateNow : Int32} {c_pence : Nat → Int64} {c_top : Int64} {c_bottom : Int64} {c_spot : Int32} {c_textLong : Int32} {c_fault : Int32} {c_number : Int32} {c_numberAt : Int32} {c_figures : Int32} {c_written : Int32} {c_wanted : Int32} {c_found : Int32} {c_drawnNow : Int32} {c_worth : Nat → Int64} {c_hold : Nat → Int64} {c_way : Nat → Int64} {c_acts : Nat → Int32} {c_sDay : Int32} {c_sUps : Int32} {c_sUp : Int32} {c_sMarks : Int32} {c_paidAll : Int64} {c_isPlayed : Int32} {c_isOn : Int32} {c_handMoved : Int32} {c_handPaid : Int64} {c_regret : Int64} {c_aside : Nat → Int32} {c_other : Nat → Int64} {c_states : Int32} {c_kept : Nat → Int32} {c_keptLong : Nat → Int64} {c_keptAt : Int32} {c_isTaking : Int32} {r : Int32} {o_c_bonds : Nat → Int32} {o_c_days : Int32} {o_c_likely : Int32} {o_c_outOf : Int32} {o_c_rateNow : Int32} {o_c_pence : Nat → Int64} {o_c_top : Int64} {o_c_bottom : Int64} {o_c_worth : Nat → Int64} {o_c_hold : Nat → Int64} {o_c_acts : Nat → Int32} (hf : fX9_fairRatio p1 p2 c_tree c_bonds c_days c_likely c_outOf c_rateNow c_pence c_top c_bottom c_worth c_hold c_acts = some (r, o_c_bonds, o_c_days, o_c_likely, o_c_outOf, o_c_rateNow, o_c_pence, o_c_top, o_c_bottom, o_c_worth, o_c_hold, o_c_acts)) : Met l yX9_fairRatio (wq (Cond.code yX9_fairRatio cX9_fairRatio 4 (some .int))) rmX9_fairRatio (gP [.ref (ad 0), .int p1, .long p2] (dC, dI) dA (mW dA ad c_tape c_taped c_tree c_bonds c_moves c_handMoves c_moved c_days c_likely c_outOf c_rateNow c_pence c_top c_bottom c_spot c_textLong c_fault c_number c_numberAt c_figures c_written c_wanted c_found c_drawnNow c_worth c_hold c_way c_acts c_sDay c_sUps c_sUp c_sMarks c_paidAll c_isPlayed c_isOn c_handMoved c_handPaid c_regret c_aside c_other c_states c_kept c_keptLong c_keptAt c_isTaking) sz) (gQi (dC, dI) r (mW dA ad c_tape c_taped c_tree o_c_bonds c_moves c_handMoves c_moved o_c_days o_c_likely o_c_outOf o_c_rateNow o_c_pence o_c_top o_c_bottom c_spot c_textLong c_fault c_number c_numberAt c_figures c_written c_wanted c_found c_drawnNow o_c_worth o_c_hold c_way o_c_acts c_sDay c_sUps c_sUp c_sMarks c_paidAll c_isPlayed c_isOn c_handMoved c_handPaid c_regret c_aside c_other c_states c_kept c_keptLong c_keptAt c_isTaking) (va_A (mW dA ad c_tape c_taped c_tree c_bonds c_moves c_handMoves c_moved c_days c_likely c_outOf c_rateNow c_pence c_top c_bottom c_spot c_textLong c_fault c_number c_numberAt c_figures c_written c_wanted c_found c_drawnNow c_worth c_hold c_way c_acts c_sDay c_sUps c_sUp c_sMarks c_paidAll c_isPlayed c_isOn c_handMoved c_handPaid c_regret c_aside c_other c_states c_kept c_keptLong c_keptAt c_isTaking) sz)) 0 0 (va_A (mW dA ad c_tape c_taped c_tree c_bonds c_moves c_handMoves c_moved c_days c_likely c_outOf c_rateNow c_pence c_top c_bottom c_spot c_textLong c_fault c_number c_numberAt c_figures c_written c_wanted c_found c_drawnNow c_worth c_hold c_way c_acts c_sDay c_sUps c_sUp c_sMarks c_paidAll c_isPlayed c_isOn c_handMoved c_handPaid c_regret c_aside c_other c_states c_kept c_keptLong c_keptAt c_isTaking) sz) := by
  refine Met.ofW (cc := cX9_fairRatio) (maxL := 4) (ret := (some .int)) (by decide) rfl ?_
  intro p e s m args below meth c s₁ B hml hv
  obtain ⟨rfl, hsz, hP, hK, hD0⟩ := hv
  have hx := B.exec
  have hb := B.bytes
  have hr := B.returns
  have hts := atoms_spec (ws := wq (Cond.code yX9_fairRatio cX9_fairRatio 4 (some .int))) B.pre
  have hown : s.vm.findClass RX9 = some m.cls := findClass_of_methodNamed B.named
  have hlocks := B.notSynchronized
  clear B
  subst hsz
  have hD := hD0.self (sz := s.heap.size)
  generalize hAe : va_A (mW dA ad c_tape c_taped c_tree c_bonds c_moves c_handMoves c_moved c_days c_likely c_outOf c_rateNow c_pence c_top c_bottom c_spot c_textLong c_fault c_number c_numberAt c_figures c_written c_wanted c_found c_drawnNow c_worth c_hold c_way c_acts c_sDay c_sUps c_sUp c_sMarks c_paidAll c_isPlayed c_isOn c_handMoved c_handPaid c_regret c_aside c_other c_states c_kept c_keptLong c_keptAt c_isTaking) s.heap.size = A at hD ⊢
  have hA : ∀ q : Nat, s.heap.size ≤ q → A q := fun q h => by rw [← hAe]; exact Or.inr h
  clear hAe hD0
  have hS : va_S A s.heap s.heap [] := va_S.rf
  have hl := lv_entry ([.ref (ad 0), .int p1, .long p2]) (n := 4) (Nat.le_of_ble_eq_true rfl)
  rw [lg_entry_eq]
  generalize (lg_sl ([.ref (ad 0), .int p1, .long p2]) ++ List.replicate (4 - (lg_sl ([.ref (ad 0), .int p1, .long p2])).length) Slot.unset).toArray = ls at hl ⊢
  have hl : lv_has ls 4 [(0, .ref (ad 0)), (1, .int p1), (2, .long p2)] := hl
  change W p l e rmX9_fairRatio s m ([.ref (ad 0), .int p1, .long p2] : List Value).toArray below meth c s.heap [] 0 0 _ _
  unfold fX9_fairRatio at hf
  refine lv_aload_n hx hb dX9_fairRatio_0 rfl (lv_at hl 0 rfl) ?_
  refine lv_iload_n hx hb dX9_fairRatio_1 rfl (lv_at hl 1 rfl) ?_
  refine lv_lload_n hx hb dX9_fairRatio_2 rfl (lv_at hl 2 rfl) ?_
  refine lv_iconst (v := 0) hx hb dX9_fairRatio_3 (by decide) ?_
  obtain ⟨r1, c_bonds_2, c_days_3, c_likely_4, c_outOf_5, c_rateNow_6, c_pence_7, c_top_8, c_bottom_9, c_worth_10, c_hold_11, c_acts_12, v13, hf⟩ := bd12_some hf
  refine gci (va_runV (As := [.int p1, .long p2, .int 0]) (rest := []) ⟨hx, hb, hml, hown, hts⟩ (tX9_fair l dC dI dA ad s.heap.size v13) (ccX9_X9_fair hts ⟨Nat.le_of_ble_eq_true rfl, Nat.le_of_ble_eq_true rfl⟩) (gPreV (ci := 9) (q0 := 0) hP hK hD rfl rfl) rfl rfl hl.1 rfl (lv_room (Nat.le_of_ble_eq_true rfl)) dX9_fairRatio_4 ⟨Nat.le_of_ble_eq_true rfl, Nat.le_of_ble_eq_true rfl⟩) hD hS hA (fun H locs hP hD hS => ?_)
  cases hf
  exact W.iret hx hb hr (fun t ht _ => gqi hP hD hS ht) hS.2.2 dX9_fairRatio_7
