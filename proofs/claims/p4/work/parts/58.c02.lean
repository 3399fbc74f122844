theorem ccX5_X5_penceAt {R : Room} {s : State} {args : Array Value} {c0 : Cond} (ht : ∀ w ∈ wq c0, w.before args s = true) (hR : rmX5_penceAt.frames + 1 ≤ R.frames ∧ 8 + (2 + 11) + rmX5_penceAt.locals ≤ R.locals) : CallW R s args RX5 RX5 167 yX5_penceAt cX5_penceAt 2 (some .long) (wq (.code yX5_penceAt cX5_penceAt 2 (some .long))) rmX5_penceAt 0 0 1 := gCW 1 ht wcX5_penceAt wmX5_167 wiX5_penceAt weX5_penceAt wnX5 (by decide +kernel) rfl rfl hR
abbrev rmX5_chooseByRule : Room := { frames := 3, cells := 0, slots := 0, locals := 72 }
set_option maxHeartbeats 4000000 in
set_option maxRecDepth 100000 in
theorem tX5_chooseByRule (l : Launch) (dC : Nat → ClassId) (dI : Nat → Nat → Nat) (dA : Nat → ClassId) (ad : Nat → Nat) (sz : Nat) {p1 : Int32} {p2 : Int32} {p3 : Int32} {p4 : Int32} {c_tree_parts : Nat → Int32} {c_bond_terms : Nat → Int32} {c_penceByUps : Nat → Int64} {c_pence : Nat → Int64} {c_turned : Nat → Int64} {c_called : Nat → Int64} {c_hold : Nat → Int64} {c_value : Nat → Int64} {c_marks : Nat → Int32} {c_act : Nat → Int32} {c_rowOfKey : Nat → Int32} {o_c_hold : Nat → Int64} {o_c_value : Nat → Int64} {o_c_act : Nat → Int32} (hf : fX5_chooseByRule p1 p2 p3 p4 c_tree_parts c_bond_terms c_pence c_turned c_called c_hold c_value c_act = some (o_c_hold, o_c_value, o_c_act)) : Met l yX5_chooseByRule (wq (Cond.code yX5_chooseByRule cX5_chooseByRule 8 none)) rmX5_chooseByRule (gP [.ref (ad 0), .int p1, .int p2, .int p3, .int p4] (dC, dI) dA (wX5 dA ad c_tree_parts c_bond_terms c_penceByUps c_pence c_turned c_called c_hold c_value c_marks c_act c_rowOfKey) sz) (gQv (dC, dI) (wX5 dA ad c_tree_parts c_bond_terms c_penceByUps c_pence c_turned c_called o_c_hold o_c_value c_marks o_c_act c_rowOfKey) (va_A (wX5 dA ad c_tree_parts c_bond_terms c_penceByUps c_pence c_turned c_called c_hold c_value c_marks c_act c_rowOfKey) sz)) 0 0 (va_A (wX5 dA ad c_tree_parts c_bond_terms c_penceByUps c_pence c_turned c_called c_hold c_value c_marks c_act c_rowOfKey) sz) := by
  refine Met.ofW (cc := cX5_chooseByRule) (maxL := 8) (ret := none) (by decide) rfl ?_
  intro p e s m args below meth c s₁ B hml hv
  obtain ⟨rfl, hsz, hP, hK, hD0⟩ := hv
  have hx := B.exec
  have hb := B.bytes
  have hr := B.returns
  have hts := atoms_spec (ws := wq (Cond.code yX5_chooseByRule cX5_chooseByRule 8 none)) B.pre
  have hown : s.vm.findClass RX5 = some m.cls := findClass_of_methodNamed B.named
  have hlocks := B.notSynchronized
  clear B
  subst hsz
  have hD := hD0.self (sz := s.heap.size)
  generalize hAe : va_A (wX5 dA ad c_tree_parts c_bond_terms c_penceByUps c_pence c_turned c_called c_hold c_value c_marks c_act c_rowOfKey) s.heap.size = A at hD ⊢
  have hA : ∀ q : Nat, s.heap.size ≤ q → A q := fun q h => by rw [← hAe]; exact Or.inr h
  clear hAe hD0
  have hS : va_S A s.heap s.heap [] := va_S.rf
  have hl := lv_entry ([.ref (ad 0), .int p1, .int p2, .int p3, .int p4]) (n := 8) (Nat.le_of_ble_eq_true rfl)
  rw [lg_entry_eq]
  generalize (lg_sl ([.ref (ad 0), .int p1, .int p2, .int p3, .int p4]) ++ List.replicate (8 - (lg_sl ([.ref (ad 0), .int p1, .int p2, .int p3, .int p4])).length) Slot.unset).toArray = ls at hl ⊢
  have hl : lv_has ls 8 [(0, .ref (ad 0)), (1, .int p1), (2, .int p2), (3, .int p3), (4, .int p4)] := hl
  change W p l e rmX5_chooseByRule s m ([.ref (ad 0), .int p1, .int p2, .int p3, .int p4] : List Value).toArray below meth c s.heap [] 0 0 _ _
  unfold fX5_chooseByRule at hf
  refine lv_aload_n hx hb dX5_chooseByRule_0 rfl (lv_at hl 0 rfl) ?_
  refine lv_iload_n hx hb dX5_chooseByRule_1 rfl (lv_at hl 1 rfl) ?_
  obtain ⟨r1, v2, hf⟩ := bd1_some hf
  refine gcl (va_runV (As := [.int p1]) (rest := []) ⟨hx, hb, hml, hown, hts⟩ (tX5_lookBack l dC dI dA ad s.heap.size v2) (ccX5_X5_lookBack hts ⟨Nat.le_of_ble_eq_true rfl, Nat.le_of_ble_eq_true rfl⟩) (gPreV (ci := 5) (q0 := 0) hP hK hD rfl rfl) rfl rfl hl.1 rfl (lv_room (Nat.le_of_ble_eq_true rfl)) dX5_chooseByRule_2 ⟨Nat.le_of_ble_eq_true rfl, Nat.le_of_ble_eq_true rfl⟩) hD hS hA (fun H locs hP hD hS => ?_)
  refine lv_lstore (lv' := [(5, .long r1), (0, .ref (ad 0)), (1, .int p1), (2, .int p2), (3, .int p3), (4, .int p4)]) hx hb dX5_chooseByRule_5 hl (by decide) rfl (fun ls hl => ?_)
  refine lv_aload_n hx hb dX5_chooseByRule_7 rfl (lv_at hl 1 rfl) ?_
  refine va_get (D := (dC, dI)) (ci := 5) (v := .ref (ad 3)) (C := RX5) (T := TX5) (N := 11) hx hb hts (fun w h => gw_mem (inX5 w h)) hown hK.1 hP 0 rfl rfl 1 (by decide) (hts _ (gw_mem wfX5_21)) (fun _ h9 => h9) rfl dX5_chooseByRule_8 ?_
  refine lv_iload_n hx hb dX5_chooseByRule_11 rfl (lv_at hl 3 rfl) ?_
  obtain ⟨r3, v4, hf⟩ := bd1_some hf
  have z5 := sg1 (ws := (wX5 dA ad c_tree_parts c_bond_terms c_penceByUps c_pence c_turned c_called c_hold c_value c_marks c_act c_rowOfKey)) (s0 := ((wX5 dA ad c_tree_parts c_bond_terms c_penceByUps c_pence c_turned c_called c_hold c_value c_marks c_act c_rowOfKey)).take 3) (s1 := ((wX5 dA ad c_tree_parts c_bond_terms c_penceByUps c_pence c_turned c_called c_hold c_value c_marks c_act c_rowOfKey)).drop 5) (x1 := (wX0 dA (fun i => ad (i + 3)) c_bond_terms)) rfl
  refine gpi (wf := (wX5 dA ad c_tree_parts c_bond_terms c_penceByUps c_pence c_turned c_called c_hold c_value c_marks c_act c_rowOfKey)) (va_runV (As := [.int p2]) (rest := []) ⟨hx, hb, hml, hown, hts⟩ (tX0_couponOn l dC dI dA (fun i => ad (i + 3)) H.size v4) (ccX5_X0_couponOn hts ⟨Nat.le_of_ble_eq_true rfl, Nat.le_of_ble_eq_true rfl⟩) (gPreV (ci := 1) (q0 := 0) (psub z5 hP) hK (psubD z5 hD) rfl rfl) rfl rfl hl.1 rfl (lv_room (Nat.le_of_ble_eq_true rfl)) dX5_chooseByRule_12 ⟨Nat.le_of_ble_eq_true rfl, Nat.le_of_ble_eq_true rfl⟩) hP hD hS hA z5 (sg1 (s0 := ((wX5 dA ad c_tree_parts c_bond_terms c_penceByUps c_pence c_turned c_called c_hold c_value c_marks c_act c_rowOfKey)).take 3) (s1 := ((wX5 dA ad c_tree_parts c_bond_terms c_penceByUps c_pence c_turned c_called c_hold c_value c_marks c_act c_rowOfKey)).drop 5) (x1 := (wX0 dA (fun i => ad (i + 3)) c_bond_terms)) rfl) (fun H locs hP hD hS => ?_)
  refine lv_istore (lv' := [(7, .int r3), (5, .long r1), (0, .ref (ad 0)), (1, .int p1), (2, .int p2), (3, .int p3), (4, .int p4)]) hx hb dX5_chooseByRule_15 hl (by decide) rfl (fun ls hl => ?_)
  refine lv_aload_n hx hb dX5_chooseByRule_17 rfl (lv_at hl 2 rfl) ?_
  refine lv_iload_n hx hb dX5_chooseByRule_18 rfl (lv_at hl 3 rfl) ?_
  obtain ⟨r6, v7, hf⟩ := bd1_some hf
  refine gcl (va_runV (As := [.int p1]) (rest := []) ⟨hx, hb, hml, hown, hts⟩ (tX5_turnedAt l dC dI dA ad H.size v7) (ccX5_X5_turnedAt hts ⟨Nat.le_of_ble_eq_true rfl, Nat.le_of_ble_eq_true rfl⟩) (gPreV (ci := 5) (q0 := 0) hP hK hD rfl rfl) rfl rfl hl.1 rfl (lv_room (Nat.le_of_ble_eq_true rfl)) dX5_chooseByRule_19 ⟨Nat.le_of_ble_eq_true rfl, Nat.le_of_ble_eq_true rfl⟩) hD hS hA (fun H locs hP hD hS => ?_)
  refine lv_lconst (v := 0) hx hb dX5_chooseByRule_22 rfl ?_
  refine W.lcmp hx hb dX5_chooseByRule_23 ?_
  obtain ⟨c_hold_9, c_value_10, c_act_11, v13, hf⟩ := bd3_some hf
  have J12 : ∀ (H : Heap) (locs : List Loc) (ls : Array Slot), va_P (dC, dI) vwCl (wX5 dA ad c_tree_parts c_bond_terms c_penceByUps c_pence c_turned c_called c_hold_9 c_value_10 c_marks c_act_11 c_rowOfKey) H → va_D A (wX5 dA ad c_tree_parts c_bond_terms c_penceByUps c_pence c_turned c_called c_hold_9 c_value_10 c_marks c_act_11 c_rowOfKey) → va_S A s.heap H locs → lv_has ls 8 [] → W p l e rmX5_chooseByRule s m ([.ref (ad 0), .int p1, .int p2, .int p3, .int p4] : List Value).toArray below meth c H locs 0 0 (MQ below (gQv (dC, dI) (wX5 dA ad c_tree_parts c_bond_terms c_penceByUps c_pence c_turned c_called o_c_hold o_c_value c_marks o_c_act c_rowOfKey) A) ([.ref (ad 0), .int p1, .int p2, .int p3, .int p4] : List Value).toArray s 0 0 A) (F0 m 119 ls []) := by
    intro H locs ls hP hD hS hl
    cases hf
    exact W.vret hx hb hr (fun t ht _ => gqv hP hD hS ht) hS.2.2 dX5_chooseByRule_119
  replace hf := v13
  clear v13
  refine lv_if_lt (tgt := 58) hx hb dX5_chooseByRule_24 (by decide) (fun k8 => ?_) (fun k8 => ?_)
  · replace hf := ifp (lc_lt.mp k8) hf
    refine lv_aload_n hx hb dX5_chooseByRule_58 rfl (lv_at hl 2 rfl) ?_
    refine lv_iload_n hx hb dX5_chooseByRule_59 rfl (lv_at hl 3 rfl) ?_
    obtain ⟨r14, v15, hf⟩ := bd1_some hf
    refine gcl (va_runV (As := [.int p1]) (rest := []) ⟨hx, hb, hml, hown, hts⟩ (tX5_calledAt l dC dI dA ad H.size v15) (ccX5_X5_calledAt hts ⟨Nat.le_of_ble_eq_true rfl, Nat.le_of_ble_eq_true rfl⟩) (gPreV (ci := 5) (q0 := 0) hP hK hD rfl rfl) rfl rfl hl.1 rfl (lv_room (Nat.le_of_ble_eq_true rfl)) dX5_chooseByRule_60 ⟨Nat.le_of_ble_eq_true rfl, Nat.le_of_ble_eq_true rfl⟩) hD hS hA (fun H locs hP hD hS => ?_)
    refine lv_lconst (v := 0) hx hb dX5_chooseByRule_63 rfl ?_
    refine W.lcmp hx hb dX5_chooseByRule_64 ?_
    refine lv_if_lt (tgt := 105) hx hb dX5_chooseByRule_65 (by decide) (fun k16 => ?_) (fun k16 => ?_)
    · replace hf := ifp (lc_lt.mp k16) hf
      refine lv_aload_n hx hb dX5_chooseByRule_105 rfl (lv_at hl 2 rfl) ?_
      refine lv_iload_n hx hb dX5_chooseByRule_106 rfl (lv_at hl 3 rfl) ?_
      refine lv_lload hx hb dX5_chooseByRule_107 (lv_at hl 1 rfl) ?_
      refine lv_iconst (v := 0) hx hb dX5_chooseByRule_109 (by decide) ?_
      refine lv_iload hx hb dX5_chooseByRule_110 (lv_at hl 0 rfl) ?_
      refine lv_i2l hx hb dX5_chooseByRule_112 rfl ?_
      refine lv_lload hx hb dX5_chooseByRule_113 (lv_at hl 1 rfl) ?_
      refine lv_ladd hx hb dX5_chooseByRule_115 ?_
      obtain ⟨c_hold_17, c_value_18, c_act_19, v20, hf⟩ := bd3_some hf
      refine gcv (va_runV (As := [.int p1, .long r1, .int 0, .long ((Int32.toInt64 r3) + r1)]) (rest := []) ⟨hx, hb, hml, hown, hts⟩ (tX5_setRow l dC dI dA ad H.size v20) (ccX5_X5_setRow hts ⟨Nat.le_of_ble_eq_true rfl, Nat.le_of_ble_eq_true rfl⟩) (gPreV (ci := 5) (q0 := 0) hP hK hD rfl rfl) rfl rfl hl.1 rfl (lv_room (Nat.le_of_ble_eq_true rfl)) dX5_chooseByRule_116 ⟨Nat.le_of_ble_eq_true rfl, Nat.le_of_ble_eq_true rfl⟩) hD hS hA (fun H locs hP hD hS => ?_)
      cases hf
      exact J12 _ _ _ hP hD hS (lv_sub hl [] rfl)
    · replace hf := ifn (fun h => k16 (lc_lt.mpr h)) hf
      refine lv_aload_n hx hb dX5_chooseByRule_68 rfl (lv_at hl 2 rfl) ?_
      refine lv_iload_n hx hb dX5_chooseByRule_69 rfl (lv_at hl 3 rfl) ?_
      obtain ⟨r21, v22, hf⟩ := bd1_some hf
      refine gcl (va_runV (As := [.int p1]) (rest := []) ⟨hx, hb, hml, hown, hts⟩ (tX5_penceAt l dC dI dA ad H.size v22) (ccX5_X5_penceAt hts ⟨Nat.le_of_ble_eq_true rfl, Nat.le_of_ble_eq_true rfl⟩) (gPreV (ci := 5) (q0 := 0) hP hK hD rfl rfl) rfl rfl hl.1 rfl (lv_room (Nat.le_of_ble_eq_true rfl)) dX5_chooseByRule_70 ⟨Nat.le_of_ble_eq_true rfl, Nat.le_of_ble_eq_true rfl⟩) hD hS hA (fun H locs hP hD hS => ?_)
      refine lv_iload hx hb dX5_chooseByRule_73 (lv_at hl 6 rfl) ?_
      refine lv_i2l hx hb dX5_chooseByRule_75 rfl ?_
      refine W.lcmp hx hb dX5_chooseByRule_76 ?_
      refine lv_if_lt (tgt := 105) hx hb dX5_chooseByRule_77 (by decide) (fun k23 => ?_) (fun k23 => ?_)
      · replace hf := ifp (lc_lt.mp k23) hf
        refine lv_aload_n hx hb dX5_chooseByRule_105 rfl (lv_at hl 2 rfl) ?_
        refine lv_iload_n hx hb dX5_chooseByRule_106 rfl (lv_at hl 3 rfl) ?_
        refine lv_lload hx hb dX5_chooseByRule_107 (lv_at hl 1 rfl) ?_
        refine lv_iconst (v := 0) hx hb dX5_chooseByRule_109 (by decide) ?_
        refine lv_iload hx hb dX5_chooseByRule_110 (lv_at hl 0 rfl) ?_
        refine lv_i2l hx hb dX5_chooseByRule_112 rfl ?_
        refine lv_lload hx hb dX5_chooseByRule_113 (lv_at hl 1 rfl) ?_
        refine lv_ladd hx hb dX5_chooseByRule_115 ?_
        obtain ⟨c_hold_24, c_value_25, c_act_26, v27, hf⟩ := bd3_some hf
        refine gcv (va_runV (As := [.int p1, .long r1, .int 0, .long ((Int32.toInt64 r3) + r1)]) (rest := []) ⟨hx, hb, hml, hown, hts⟩ (tX5_setRow l dC dI dA ad H.size v27) (ccX5_X5_setRow hts ⟨Nat.le_of_ble_eq_true rfl, Nat.le_of_ble_eq_true rfl⟩) (gPreV (ci := 5) (q0 := 0) hP hK hD rfl rfl) rfl rfl hl.1 rfl (lv_room (Nat.le_of_ble_eq_true rfl)) dX5_chooseByRule_116 ⟨Nat.le_of_ble_eq_true rfl, Nat.le_of_ble_eq_true rfl⟩) hD hS hA (fun H locs hP hD hS => ?_)
        cases hf
        exact J12 _ _ _ hP hD hS (lv_sub hl [] rfl)
      · replace hf := ifn (fun h => k23 (lc_lt.mpr h)) hf
        refine lv_aload_n hx hb dX5_chooseByRule_80 rfl (lv_at hl 2 rfl) ?_
        refine lv_iload_n hx hb dX5_chooseByRule_81 rfl (lv_at hl 3 rfl) ?_
        refine lv_lload hx hb dX5_chooseByRule_82 (lv_at hl 1 rfl) ?_
        refine lv_aload_n hx hb dX5_chooseByRule_84 rfl (lv_at hl 2 rfl) ?_
        refine lv_iload_n hx hb dX5_chooseByRule_85 rfl (lv_at hl 3 rfl) ?_
        refine lv_iload_n hx hb dX5_chooseByRule_86 rfl (lv_at hl 4 rfl) ?_
        obtain ⟨r28, v29, hf⟩ := bd1_some hf
        refine gci (va_runV (As := [.int p1, .int p2]) (rest := [.long r1, .int p1, .ref (ad 0)]) ⟨hx, hb, hml, hown, hts⟩ (tX5_actOfCall l dC dI dA ad H.size v29) (ccX5_X5_actOfCall hts ⟨Nat.le_of_ble_eq_true rfl, Nat.le_of_ble_eq_true rfl⟩) (gPreV (ci := 5) (q0 := 0) hP hK hD rfl rfl) rfl rfl hl.1 rfl (lv_room (Nat.le_of_ble_eq_true rfl)) dX5_chooseByRule_87 ⟨Nat.le_of_ble_eq_true rfl, Nat.le_of_ble_eq_true rfl⟩) hD hS hA (fun H locs hP hD hS => ?_)
        refine lv_iload hx hb dX5_chooseByRule_90 (lv_at hl 0 rfl) ?_
        refine lv_i2l hx hb dX5_chooseByRule_92 rfl ?_
        refine lv_aload_n hx hb dX5_chooseByRule_93 rfl (lv_at hl 2 rfl) ?_
        refine lv_iload_n hx hb dX5_chooseByRule_94 rfl (lv_at hl 3 rfl) ?_
        obtain ⟨r30, v31, hf⟩ := bd1_some hf
        refine gcl (va_runV (As := [.int p1]) (rest := [.long (Int32.toInt64 r3), .int r28, .long r1, .int p1, .ref (ad 0)]) ⟨hx, hb, hml, hown, hts⟩ (tX5_calledAt l dC dI dA ad H.size v31) (ccX5_X5_calledAt hts ⟨Nat.le_of_ble_eq_true rfl, Nat.le_of_ble_eq_true rfl⟩) (gPreV (ci := 5) (q0 := 0) hP hK hD rfl rfl) rfl rfl hl.1 rfl (lv_room (Nat.le_of_ble_eq_true rfl)) dX5_chooseByRule_95 ⟨Nat.le_of_ble_eq_true rfl, Nat.le_of_ble_eq_true rfl⟩) hD hS hA (fun H locs hP hD hS => ?_)
        refine lv_ladd hx hb dX5_chooseByRule_98 ?_
        obtain ⟨c_hold_32, c_value_33, c_act_34, v35, hf⟩ := bd3_some hf
        refine gcv (va_runV (As := [.int p1, .long r1, .int r28, .long ((Int32.toInt64 r3) + r30)]) (rest := []) ⟨hx, hb, hml, hown, hts⟩ (tX5_setRow l dC dI dA ad H.size v35) (ccX5_X5_setRow hts ⟨Nat.le_of_ble_eq_true rfl, Nat.le_of_ble_eq_true rfl⟩) (gPreV (ci := 5) (q0 := 0) hP hK hD rfl rfl) rfl rfl hl.1 rfl (lv_room (Nat.le_of_ble_eq_true rfl)) dX5_chooseByRule_99 ⟨Nat.le_of_ble_eq_true rfl, Nat.le_of_ble_eq_true rfl⟩) hD hS hA (fun H locs hP hD hS => ?_)
        refine lv_goto (tgt := 119) hx hb dX5_chooseByRule_102 (by decide) ?_
        cases hf
        exact J12 _ _ _ hP hD hS (lv_sub hl [] rfl)
  · replace hf := ifn (fun h => k8 (lc_lt.mpr h)) hf
    refine lv_aload_n hx hb dX5_chooseByRule_27 rfl (lv_at hl 2 rfl) ?_
    refine lv_iload_n hx hb dX5_chooseByRule_28 rfl (lv_at hl 3 rfl) ?_
    obtain ⟨r36, v37, hf⟩ := bd1_some hf
    refine gcl (va_runV (As := [.int p1]) (rest := []) ⟨hx, hb, hml, hown, hts⟩ (tX5_penceAt l dC dI dA ad H.size v37) (ccX5_X5_penceAt hts ⟨Nat.le_of_ble_eq_true rfl, Nat.le_of_ble_eq_true rfl⟩) (gPreV (ci := 5) (q0 := 0) hP hK hD rfl rfl) rfl rfl hl.1 rfl (lv_room (Nat.le_of_ble_eq_true rfl)) dX5_chooseByRule_29 ⟨Nat.le_of_ble_eq_true rfl, Nat.le_of_ble_eq_true rfl⟩) hD hS hA (fun H locs hP hD hS => ?_)
    refine lv_iload_n hx hb dX5_chooseByRule_32 rfl (lv_at hl 5 rfl) ?_
    refine lv_i2l hx hb dX5_chooseByRule_33 rfl ?_
    refine W.lcmp hx hb dX5_chooseByRule_34 ?_
    refine lv_if_lt (tgt := 58) hx hb dX5_chooseByRule_35 (by decide) (fun k38 => ?_) (fun k38 => ?_)
    · replace hf := ifp (lc_lt.mp k38) hf
      refine lv_aload_n hx hb dX5_chooseByRule_58 rfl (lv_at hl 2 rfl) ?_
      refine lv_iload_n hx hb dX5_chooseByRule_59 rfl (lv_at hl 3 rfl) ?_
      obtain ⟨r39, v40, hf⟩ := bd1_some hf
      refine gcl (va_runV (As := [.int p1]) (rest := []) ⟨hx, hb, hml, hown, hts⟩ (tX5_calledAt l dC dI dA ad H.size v40) (ccX5_X5_calledAt hts ⟨Nat.le_of_ble_eq_true rfl, Nat.le_of_ble_eq_true rfl⟩) (gPreV (ci := 5) (q0 := 0) hP hK hD rfl rfl) rfl rfl hl.1 rfl (lv_room (Nat.le_of_ble_eq_true rfl)) dX5_chooseByRule_60 ⟨Nat.le_of_ble_eq_true rfl, Nat.le_of_ble_eq_true rfl⟩) hD hS hA (fun H locs hP hD hS => ?_)
      refine lv_lconst (v := 0) hx hb dX5_chooseByRule_63 rfl ?_
      refine W.lcmp hx hb dX5_chooseByRule_64 ?_
      refine lv_if_lt (tgt := 105) hx hb dX5_chooseByRule_65 (by decide) (fun k41 => ?_) (fun k41 => ?_)
      · replace hf := ifp (lc_lt.mp k41) hf
        refine lv_aload_n hx hb dX5_chooseByRule_105 rfl (lv_at hl 2 rfl) ?_
        refine lv_iload_n hx hb dX5_chooseByRule_106 rfl (lv_at hl 3 rfl) ?_
        refine lv_lload hx hb dX5_chooseByRule_107 (lv_at hl 1 rfl) ?_
        refine lv_iconst (v := 0) hx hb dX5_chooseByRule_109 (by decide) ?_
        refine lv_iload hx hb dX5_chooseByRule_110 (lv_at hl 0 rfl) ?_
        refine lv_i2l hx hb dX5_chooseByRule_112 rfl ?_
        refine lv_lload hx hb dX5_chooseByRule_113 (lv_at hl 1 rfl) ?_
        refine lv_ladd hx hb dX5_chooseByRule_115 ?_
        obtain ⟨c_hold_42, c_value_43, c_act_44, v45, hf⟩ := bd3_some hf
        refine gcv (va_runV (As := [.int p1, .long r1, .int 0, .long ((Int32.toInt64 r3) + r1)]) (rest := []) ⟨hx, hb, hml, hown, hts⟩ (tX5_setRow l dC dI dA ad H.size v45) (ccX5_X5_setRow hts ⟨Nat.le_of_ble_eq_true rfl, Nat.le_of_ble_eq_true rfl⟩) (gPreV (ci := 5) (q0 := 0) hP hK hD rfl rfl) rfl rfl hl.1 rfl (lv_room (Nat.le_of_ble_eq_true rfl)) dX5_chooseByRule_116 ⟨Nat.le_of_ble_eq_true rfl, Nat.le_of_ble_eq_true rfl⟩) hD hS hA (fun H locs hP hD hS => ?_)
        cases hf
        exact J12 _ _ _ hP hD hS (lv_sub hl [] rfl)
      · replace hf := ifn (fun h => k41 (lc_lt.mpr h)) hf
        refine lv_aload_n hx hb dX5_chooseByRule_68 rfl (lv_at hl 2 rfl) ?_
        refine lv_iload_n hx hb dX5_chooseByRule_69 rfl (lv_at hl 3 rfl) ?_
        obtain ⟨r46, v47, hf⟩ := bd1_some hf
        refine gcl (va_runV (As := [.int p1]) (rest := []) ⟨hx, hb, hml, hown, hts⟩ (tX5_penceAt l dC dI dA ad H.size v47) (ccX5_X5_penceAt hts ⟨Nat.le_of_ble_eq_true rfl, Nat.le_of_ble_eq_true rfl⟩) (gPreV (ci := 5) (q0 := 0) hP hK hD rfl rfl) rfl rfl hl.1 rfl (lv_room (Nat.le_of_ble_eq_true rfl)) dX5_chooseByRule_70 ⟨Nat.le_of_ble_eq_true rfl, Nat.le_of_ble_eq_true rfl⟩) hD hS hA (fun H locs hP hD hS => ?_)
        refine lv_iload hx hb dX5_chooseByRule_73 (lv_at hl 6 rfl) ?_
        refine lv_i2l hx hb dX5_chooseByRule_75 rfl ?_
        refine W.lcmp hx hb dX5_chooseByRule_76 ?_
        refine lv_if_lt (tgt := 105) hx hb dX5_chooseByRule_77 (by decide) (fun k48 => ?_) (fun k48 => ?_)
        · replace hf := ifp (lc_lt.mp k48) hf
          refine lv_aload_n hx hb dX5_chooseByRule_105 rfl (lv_at hl 2 rfl) ?_
          refine lv_iload_n hx hb dX5_chooseByRule_106 rfl (lv_at hl 3 rfl) ?_
          refine lv_lload hx hb dX5_chooseByRule_107 (lv_at hl 1 rfl) ?_
          refine lv_iconst (v := 0) hx hb dX5_chooseByRule_109 (by decide) ?_
          refine lv_iload hx hb dX5_chooseByRule_110 (lv_at hl 0 rfl) ?_
          refine lv_i2l hx hb dX5_chooseByRule_112 rfl ?_
          refine lv_lload hx hb dX5_chooseByRule_113 (lv_at hl 1 rfl) ?_
          refine lv_ladd hx hb dX5_chooseByRule_115 ?_
          obtain ⟨c_hold_49, c_value_50, c_act_51, v52, hf⟩ := bd3_some hf
          refine gcv (va_runV (As := [.int p1, .long r1, .int 0, .long ((Int32.toInt64 r3) + r1)]) (rest := []) ⟨hx, hb, hml, hown, hts⟩ (tX5_setRow l dC dI dA ad H.size v52) (ccX5_X5_setRow hts ⟨Nat.le_of_ble_eq_true rfl, Nat.le_of_ble_eq_true rfl⟩) (gPreV (ci := 5) (q0 := 0) hP hK hD rfl rfl) rfl rfl hl.1 rfl (lv_room (Nat.le_of_ble_eq_true rfl)) dX5_chooseByRule_116 ⟨Nat.le_of_ble_eq_true rfl, Nat.le_of_ble_eq_true rfl⟩) hD hS hA (fun H locs hP hD hS => ?_)
          cases hf
          exact J12 _ _ _ hP hD hS (lv_sub hl [] rfl)
        · replace hf := ifn (fun h => k48 (lc_lt.mpr h)) hf
          refine lv_aload_n hx hb dX5_chooseByRule_80 rfl (lv_at hl 2 rfl) ?_
          refine lv_iload_n hx hb dX5_chooseByRule_81 rfl (lv_at hl 3 rfl) ?_
          refine lv_lload hx hb dX5_chooseByRule_82 (lv_at hl 1 rfl) ?_
          refine lv_aload_n hx hb dX5_chooseByRule_84 rfl (lv_at hl 2 rfl) ?_
          refine lv_iload_n hx hb dX5_chooseByRule_85 rfl (lv_at hl 3 rfl) ?_
          refine lv_iload_n hx hb dX5_chooseByRule_86 rfl (lv_at hl 4 rfl) ?_
          obtain ⟨r53, v54, hf⟩ := bd1_some hf
          refine gci (va_runV (As := [.int p1, .int p2]) (rest := [.long r1, .int p1, .ref (ad 0)]) ⟨hx, hb, hml, hown, hts⟩ (tX5_actOfCall l dC dI dA ad H.size v54) (ccX5_X5_actOfCall hts ⟨Nat.le_of_ble_eq_true rfl, Nat.le_of_ble_eq_true rfl⟩) (gPreV (ci := 5) (q0 := 0) hP hK hD rfl rfl) rfl rfl hl.1 rfl (lv_room (Nat.le_of_ble_eq_true rfl)) dX5_chooseByRule_87 ⟨Nat.le_of_ble_eq_true rfl, Nat.le_of_ble_eq_true rfl⟩) hD hS hA (fun H locs hP hD hS => ?_)
          refine lv_iload hx hb dX5_chooseByRule_90 (lv_at hl 0 rfl) ?_
          refine lv_i2l hx hb dX5_chooseByRule_92 rfl ?_
          refine lv_aload_n hx hb dX5_chooseByRule_93 rfl (lv_at hl 2 rfl) ?_
          refine lv_iload_n hx hb dX5_chooseByRule_94 rfl (lv_at hl 3 rfl) ?_
          obtain ⟨r55, v56, hf⟩ := bd1_some hf
          refine gcl (va_runV (As := [.int p1]) (rest := [.long (Int32.toInt64 r3), .int r53, .long r1, .int p1, .ref (ad 0)]) ⟨hx, hb, hml, hown, hts⟩ (tX5_calledAt l dC dI dA ad H.size v56) (ccX5_X5_calledAt hts ⟨Nat.le_of_ble_eq_true rfl, Nat.le_of_ble_eq_true rfl⟩) (gPreV (ci := 5) (q0 := 0) hP hK hD rfl rfl) rfl rfl hl.1 rfl (lv_room (Nat.le_of_ble_eq_true rfl)) dX5_chooseByRule_95 ⟨Nat.le_of_ble_eq_true rfl, Nat.le_of_ble_eq_true rfl⟩) hD hS hA (fun H locs hP hD hS => ?_)
          refine lv_ladd hx hb dX5_chooseByRule_98 ?_
          obtain ⟨c_hold_57, c_value_58, c_act_59, v60, hf⟩ := bd3_some hf
          refine gcv (va_runV (As := [.int p1, .long r1, .int r53, .long ((Int32.toInt64 r3) + r55)]) (rest := []) ⟨hx, hb, hml, hown, hts⟩ (tX5_setRow l dC dI dA ad H.size v60) (ccX5_X5_setRow hts ⟨Nat.le_of_ble_eq_true rfl, Nat.le_of_ble_eq_true rfl⟩) (gPreV (ci := 5) (q0 := 0) hP hK hD rfl rfl) rfl rfl hl.1 rfl (lv_room (Nat.le_of_ble_eq_true rfl)) dX5_chooseByRule_99 ⟨Nat.le_of_ble_eq_true rfl, Nat.le_of_ble_eq_true rfl⟩) hD hS hA (fun H locs hP hD hS => ?_)
          refine lv_goto (tgt := 119) hx hb dX5_chooseByRule_102 (by decide) ?_
          cases hf
          exact J12 _ _ _ hP hD hS (lv_sub hl [] rfl)
    · replace hf := ifn (fun h => k38 (lc_lt.mpr h)) hf
      refine lv_aload_n hx hb dX5_chooseByRule_38 rfl (lv_at hl 2 rfl) ?_
      refine lv_iload_n hx hb dX5_chooseByRule_39 rfl (lv_at hl 3 rfl) ?_
      refine lv_lload hx hb dX5_chooseByRule_40 (lv_at hl 1 rfl) ?_
      refine lv_iconst (v := 2) hx hb dX5_chooseByRule_42 (by decide) ?_
      refine lv_iload hx hb dX5_chooseByRule_43 (lv_at hl 0 rfl) ?_
      refine lv_i2l hx hb dX5_chooseByRule_45 rfl ?_
      refine lv_aload_n hx hb dX5_chooseByRule_46 rfl (lv_at hl 2 rfl) ?_
      refine lv_iload_n hx hb dX5_chooseByRule_47 rfl (lv_at hl 3 rfl) ?_
      obtain ⟨r61, v62, hf⟩ := bd1_some hf
      refine gcl (va_runV (As := [.int p1]) (rest := [.long (Int32.toInt64 r3), .int 2, .long r1, .int p1, .ref (ad 0)]) ⟨hx, hb, hml, hown, hts⟩ (tX5_turnedAt l dC dI dA ad H.size v62) (ccX5_X5_turnedAt hts ⟨Nat.le_of_ble_eq_true rfl, Nat.le_of_ble_eq_true rfl⟩) (gPreV (ci := 5) (q0 := 0) hP hK hD rfl rfl) rfl rfl hl.1 rfl (lv_room (Nat.le_of_ble_eq_true rfl)) dX5_chooseByRule_48 ⟨Nat.le_of_ble_eq_true rfl, Nat.le_of_ble_eq_true rfl⟩) hD hS hA (fun H locs hP hD hS => ?_)
      refine lv_ladd hx hb dX5_chooseByRule_51 ?_
      obtain ⟨c_hold_63, c_value_64, c_act_65, v66, hf⟩ := bd3_some hf
      refine gcv (va_runV (As := [.int p1, .long r1, .int 2, .long ((Int32.toInt64 r3) + r61)]) (rest := []) ⟨hx, hb, hml, hown, hts⟩ (tX5_setRow l dC dI dA ad H.size v66) (ccX5_X5_setRow hts ⟨Nat.le_of_ble_eq_true rfl, Nat.le_of_ble_eq_true rfl⟩) (gPreV (ci := 5) (q0 := 0) hP hK hD rfl rfl) rfl rfl hl.1 rfl (lv_room (Nat.le_of_ble_eq_true rfl)) dX5_chooseByRule_52 ⟨Nat.le_of_ble_eq_true rfl, Nat.le_of_ble_eq_true rfl⟩) hD hS hA (fun H locs hP hD hS => ?_)
      refine lv_goto (tgt := 119) hx hb dX5_chooseByRule_55 (by decide) ?_
      cases hf
      exact J12 _ _ _ hP hD hS (lv_sub hl [] rfl)
theorem ccX5_X5_chooseByRule {R : Room} {s : State} {args : Array Value} {c0 : Cond} (ht : ∀ w ∈ wq c0, w.before args s = true) (hR : rmX5_chooseByRule.frames + 1 ≤ R.frames ∧ 8 + (8 + 11) + rmX5_chooseByRule.locals ≤ R.locals) : CallW R s args RX5 RX5 91 yX5_chooseByRule cX5_chooseByRule 8 none (wq (.code yX5_chooseByRule cX5_chooseByRule 8 none)) rmX5_chooseByRule 0 0 4 := gCW 4 ht wcX5_chooseByRule wmX5_91 wiX5_chooseByRule weX5_chooseByRule wnX5 (by decide +kernel) rfl rfl hR
abbrev rmX5_playByRule : Room := { frames := 4, cells := 0, slots := 0, locals := 101 }
set_option maxHeartbeats 4000000 in
set_option maxRecDepth 100000 in
theorem tX5_playByRule (l : Launch) (dC : Nat → ClassId) (dI : Nat → Nat → Nat) (dA : Nat → ClassId) (ad : Nat → Nat) (sz : Nat) {p1 : Int32} {p2 : Int32} {c_tree_parts : Nat → Int32} {c_bond_terms : Nat → Int32} {c_penceByUps : Nat → Int64} {c_pence : Nat → Int64} {c_turned : Nat → Int64} {c_called : Nat → Int64} {c_hold : Nat → Int64} {c_value : Nat → Int64} {c_marks : Nat → Int32} {c_act : Nat → Int32} {c_rowOfKey : Nat → Int32} {o_c_penceByUps : Nat → Int64} {o_c_pence : Nat → Int64} {o_c_turned : Nat → Int64} {o_c_called : Nat → Int64} {o_c_hold : Nat → Int64} {o_c_value : Nat → Int64} {o_c_marks : Nat → Int32} {o_c_act : Nat → Int32} (hf : fX5_playByRule p1 p2 c_tree_parts c_bond_terms c_penceByUps c_pence c_turned c_called c_hold c_value c_marks c_act = some (o_c_penceByUps, o_c_pence, o_c_turned, o_c_called, o_c_hold, o_c_value, o_c_marks, o_c_act)) : Met l yX5_playByRule (wq (Cond.code yX5_playByRule cX5_playByRule 4 none)) rmX5_playByRule (gP [.ref (ad 0), .int p1, .int p2] (dC, dI) dA (wX5 dA ad c_tree_parts c_bond_terms c_penceByUps c_pence c_turned c_called c_hold c_value c_marks c_act c_rowOfKey) sz) (gQv (dC, dI) (wX5 dA ad c_tree_parts c_bond_terms o_c_penceByUps o_c_pence o_c_turned o_c_called o_c_hold o_c_value o_c_marks o_c_act c_rowOfKey) (va_A (wX5 dA ad c_tree_parts c_bond_terms c_penceByUps c_pence c_turned c_called c_hold c_value c_marks c_act c_rowOfKey) sz)) 0 0 (va_A (wX5 dA ad c_tree_parts c_bond_terms c_penceByUps c_pence c_turned c_called c_hold c_value c_marks c_act c_rowOfKey) sz) := by
  refine Met.ofW (cc := cX5_playByRule) (maxL := 4) (ret := none) (by decide) rfl ?_
  intro p e s m args below meth c s₁ B hml hv
  obtain ⟨rfl, hsz, hP, hK, hD0⟩ := hv
  have hx := B.exec
  have hb := B.bytes
  have hr := B.returns
  have hts := atoms_spec (ws := wq (Cond.code yX5_playByRule cX5_playByRule 4 none)) B.pre
  have hown : s.vm.findClass RX5 = some m.cls := findClass_of_methodNamed B.named
  have hlocks := B.notSynchronized
  clear B
  subst hsz
  have hD := hD0.self (sz := s.heap.size)
  generalize hAe : va_A (wX5 dA ad c_tree_parts c_bond_terms c_penceByUps c_pence c_turned c_called c_hold c_value c_marks c_act c_rowOfKey) s.heap.size = A at hD ⊢
  have hA : ∀ q : Nat, s.heap.size ≤ q → A q := fun q h => by rw [← hAe]; exact Or.inr h
  clear hAe hD0
  have hS : va_S A s.heap s.heap [] := va_S.rf
  have hl := lv_entry ([.ref (ad 0), .int p1, .int p2]) (n := 4) (Nat.le_of_ble_eq_true rfl)
  rw [lg_entry_eq]
  generalize (lg_sl ([.ref (ad 0), .int p1, .int p2]) ++ List.replicate (4 - (lg_sl ([.ref (ad 0), .int p1, .int p2])).length) Slot.unset).toArray = ls at hl ⊢
  have hl : lv_has ls 4 [(0, .ref (ad 0)), (1, .int p1), (2, .int p2)] := hl
  change W p l e rmX5_playByRule s m ([.ref (ad 0), .int p1, .int p2] : List Value).toArray below meth c s.heap [] 0 0 _ _
  generalize hQ : MQ below (gQv (dC, dI) (wX5 dA ad c_tree_parts c_bond_terms o_c_penceByUps o_c_pence o_c_turned o_c_called o_c_hold o_c_value o_c_marks o_c_act c_rowOfKey) A) ([.ref (ad 0), .int p1, .int p2] : List Value).toArray s 0 0 A = Q
  have LP9 : ∀ (n : Nat) (x1 : Int32) (x2 : Int32) (c_tree_parts : Nat → Int32) (c_bond_terms : Nat → Int32) (c_pence : Nat → Int64) (c_turned : Nat → Int64) (c_called : Nat → Int64) (c_penceByUps : Nat → Int64) (c_marks : Nat → Int32) (c_rowOfKey : Nat → Int32) (x3 : Int32) (c_hold : Nat → Int64) (c_value : Nat → Int64) (c_act : Nat → Int32) (o_c_hold : Nat → Int64) (o_c_value : Nat → Int64) (o_c_act : Nat → Int32) (H : Heap) (locs : List Loc) (ls : Array Slot), va_P (dC, dI) vwCl (wX5 dA ad c_tree_parts c_bond_terms c_penceByUps c_pence c_turned c_called c_hold c_value c_marks c_act c_rowOfKey) H → va_D A (wX5 dA ad c_tree_parts c_bond_terms c_penceByUps c_pence c_turned c_called c_hold c_value c_marks c_act c_rowOfKey) → va_S A s.heap H locs → lpX5_playByRule_9 x1 x2 c_tree_parts c_bond_terms c_pence c_turned c_called n x3 c_hold c_value c_act = some (o_c_hold, o_c_value, o_c_act) → lv_has ls 4 [(0, .ref (ad 0)), (1, .int x1), (2, .int x2), (3, .int x3)] → (∀ (H : Heap) (locs : List Loc) (ls : Array Slot), va_P (dC, dI) vwCl (wX5 dA ad c_tree_parts c_bond_terms c_penceByUps c_pence c_turned c_called o_c_hold o_c_value c_marks o_c_act c_rowOfKey) H → va_D A (wX5 dA ad c_tree_parts c_bond_terms c_penceByUps c_pence c_turned c_called o_c_hold o_c_value c_marks o_c_act c_rowOfKey) → va_S A s.heap H locs → lv_has ls 4 [] → W p l e rmX5_playByRule s m ([.ref (ad 0), .int p1, .int p2] : List Value).toArray below meth c H locs 0 0 Q (F0 m 31 ls [])) → W p l e rmX5_playByRule s m ([.ref (ad 0), .int p1, .int p2] : List Value).toArray below meth c H locs 0 0 Q (F0 m 9 ls []) := by
    intro n
    induction n with
    | zero =>
      intro x1 x2 c_tree_parts c_bond_terms c_pence c_turned c_called c_penceByUps c_marks c_rowOfKey x3 c_hold c_value c_act o_c_hold o_c_value o_c_act H locs ls hP hD hS hf hl hk
      cases hf
    | succ n ih9 =>
      intro x1 x2 c_tree_parts c_bond_terms c_pence c_turned c_called c_penceByUps c_marks c_rowOfKey x3 c_hold c_value c_act o_c_hold o_c_value o_c_act H locs ls hP hD hS hf hl hk
      rw [lpX5_playByRule_9.eq_2] at hf
      refine lv_iload_n hx hb dX5_playByRule_9 rfl (lv_at hl 3 rfl) ?_
      refine lv_iconst (v := 1) hx hb dX5_playByRule_10 (by decide) ?_
      refine lv_icmp_lt (tgt := 31) hx hb dX5_playByRule_11 (by decide) (fun k16 => ?_) (fun k16 => ?_)
      · replace hf := ifp k16 hf
        cases hf
        exact hk _ _ _ hP hD hS (lv_sub hl [] rfl)
      · replace hf := ifn k16 hf
        refine lv_aload_n hx hb dX5_playByRule_14 rfl (lv_at hl 0 rfl) ?_
        refine lv_iload_n hx hb dX5_playByRule_15 rfl (lv_at hl 3 rfl) ?_
        refine lv_iload_n hx hb dX5_playByRule_16 rfl (lv_at hl 3 rfl) ?_
        obtain ⟨r17, v18, hf⟩ := bd1_some hf
        refine gci0 (va_runSN (As := [.int x3]) (rest := [.int x3, .ref (ad 0)]) ⟨hx, hb, hml, hown, hts⟩ (tX8_dayOf l dC dI dA H.size v18) (ccX5_X8_dayOf hK.2 hts ⟨Nat.le_of_ble_eq_true rfl, Nat.le_of_ble_eq_true rfl⟩) (gPreS0 hK) rfl rfl hl.1 rfl (lv_room (Nat.le_of_ble_eq_true rfl)) dX5_playByRule_17 ⟨Nat.le_of_ble_eq_true rfl, Nat.le_of_ble_eq_true rfl⟩) hP hS hA (fun H locs hP hS => ?_)
        refine lv_iload_n hx hb dX5_playByRule_20 rfl (lv_at hl 1 rfl) ?_
        refine lv_iload_n hx hb dX5_playByRule_21 rfl (lv_at hl 2 rfl) ?_
        obtain ⟨c_hold_19, c_value_20, c_act_21, v22, hf⟩ := bd3_some hf
        refine gcv (va_runV (As := [.int x3, .int r17, .int x1, .int x2]) (rest := []) ⟨hx, hb, hml, hown, hts⟩ (tX5_chooseByRule l dC dI dA ad H.size v22) (ccX5_X5_chooseByRule hts ⟨Nat.le_of_ble_eq_true rfl, Nat.le_of_ble_eq_true rfl⟩) (gPreV (ci := 5) (q0 := 0) hP hK hD rfl rfl) rfl rfl hl.1 rfl (lv_room (Nat.le_of_ble_eq_true rfl)) dX5_playByRule_22 ⟨Nat.le_of_ble_eq_true rfl, Nat.le_of_ble_eq_true rfl⟩) hD hS hA (fun H locs hP hD hS => ?_)
        obtain ⟨w23, ew23⟩ : ∃ y : Int32, y = x3 + (-1) := ⟨_, rfl⟩
        replace hf := nm_at hf ew23
        refine lv_iinc (v := w23) (lv' := [(3, .int w23), (0, .ref (ad 0)), (1, .int x1), (2, .int x2)]) hx hb dX5_playByRule_25 hl (k := 3) rfl (by rw [ew23]; rfl) (by decide) rfl (fun ls hl => ?_)
        refine lv_goto (tgt := 9) hx hb dX5_playByRule_28 (by decide) ?_
        exact ih9 _ _ _ _ _ _ _ _ _ _ _ _ _ _ _ _ _ _ _ _ hP hD hS hf (lv_sub hl [1, 2, 3, 0] rfl) hk
  subst hQ
  unfold fX5_playByRule at hf
  refine lv_aload_n hx hb dX5_playByRule_0 rfl (lv_at hl 0 rfl) ?_
  obtain ⟨c_penceByUps_1, c_pence_2, c_turned_3, c_called_4, c_hold_5, c_value_6, c_marks_7, c_act_8, v9, hf⟩ := bd8_some hf
  refine gcv (va_runV (As := []) (rest := []) ⟨hx, hb, hml, hown, hts⟩ (tX5_layOut l dC dI dA ad s.heap.size v9) (ccX5_X5_layOut hts ⟨Nat.le_of_ble_eq_true rfl, Nat.le_of_ble_eq_true rfl⟩) (gPreV (ci := 5) (q0 := 0) hP hK hD rfl rfl) rfl rfl hl.1 rfl (lv_room (Nat.le_of_ble_eq_true rfl)) dX5_playByRule_1 ⟨Nat.le_of_ble_eq_true rfl, Nat.le_of_ble_eq_true rfl⟩) hD hS hA (fun H locs hP hD hS => ?_)
  refine lv_aload_n hx hb dX5_playByRule_4 rfl (lv_at hl 0 rfl) ?_
  obtain ⟨r10, v11, hf⟩ := bd1_some hf
  refine gci (va_runV (As := []) (rest := []) ⟨hx, hb, hml, hown, hts⟩ (tX5_rowsAheadOfLastDay l dC dI dA ad H.size v11) (ccX5_X5_rowsAheadOfLastDay hts ⟨Nat.le_of_ble_eq_true rfl, Nat.le_of_ble_eq_true rfl⟩) (gPreV (ci := 5) (q0 := 0) hP hK hD rfl rfl) rfl rfl hl.1 rfl (lv_room (Nat.le_of_ble_eq_true rfl)) dX5_playByRule_5 ⟨Nat.le_of_ble_eq_true rfl, Nat.le_of_ble_eq_true rfl⟩) hD hS hA (fun H locs hP hD hS => ?_)
  refine lv_istore_n (lv' := [(3, .int r10), (0, .ref (ad 0)), (1, .int p1), (2, .int p2)]) hx hb dX5_playByRule_8 rfl hl (by decide) rfl (fun ls hl => ?_)
  obtain ⟨c_hold_12, c_value_13, c_act_14, v15, hf⟩ := bd3_some hf
  refine LP9 FU _ _ _ _ _ _ _ _ _ _ _ _ _ _ _ _ _ _ _ _ hP hD hS v15 (lv_sub hl [1, 2, 3, 0] rfl) (fun H locs ls hP hD hS hl => ?_)
  cases hf
  exact W.vret hx hb hr (fun t ht _ => gqv hP hD hS ht) hS.2.2 dX5_playByRule_31
theorem ccX5_X5_holdAt {R : Room} {s : State} {args : Array Value} {c0 : Cond} (ht : ∀ w ∈ wq c0, w.before args s = true) (hR : rmX5_holdAt.frames + 1 ≤ R.frames ∧ 8 + (2 + 11) + rmX5_holdAt.locals ≤ R.locals) : CallW R s args RX5 RX5 180 yX5_holdAt cX5_holdAt 2 (some .long) (wq (.code yX5_holdAt cX5_holdAt 2 (some .long))) rmX5_holdAt 0 0 1 := gCW 1 ht wcX5_holdAt wmX5_180 wiX5_holdAt weX5_holdAt wnX5 (by decide +kernel) rfl rfl hR
abbrev rmX5_givesInstead : Room := { frames := 2, cells := 0, slots := 0, locals := 43 }
set_option maxHeartbeats 4000000 in
set_option maxRecDepth 100000 in
theorem tX5_givesInstead (l : Launch) (dC : Nat → ClassId) (dI : Nat → Nat → Nat) (dA : Nat → ClassId) (ad : Nat → Nat) (sz : Nat) {p1 : Int32} {p2 : Int32} {c_tree_parts : Nat → Int32} {c_bond_terms : Nat → Int32} {c_penceByUps : Nat → Int64} {c_pence : Nat → Int64} {c_turned : Nat → Int64} {c_called : Nat → Int64} {c_hold : Nat → Int64} {c_value : Nat → Int64} {c_marks : Nat → Int32} {c_act : Nat → Int32} {c_rowOfKey : Nat → Int32} {r : Int64} (hf : fX5_givesInstead p1 p2 c_tree_parts c_bond_terms c_turned c_called c_hold = some (r)) : Met l yX5_givesInstead (wq (Cond.code yX5_givesInstead cX5_givesInstead 7 (some .long))) rmX5_givesInstead (gP [.ref (ad 0), .int p1, .int p2] (dC, dI) dA (wX5 dA ad c_tree_parts c_bond_terms c_penceByUps c_pence c_turned c_called c_hold c_value c_marks c_act c_rowOfKey) sz) (gQl (dC, dI) r (wX5 dA ad c_tree_parts c_bond_terms c_penceByUps c_pence c_turned c_called c_hold c_value c_marks c_act c_rowOfKey) (va_A (wX5 dA ad c_tree_parts c_bond_terms c_penceByUps c_pence c_turned c_called c_hold c_value c_marks c_act c_rowOfKey) sz)) 0 0 (va_A (wX5 dA ad c_tree_parts c_bond_terms c_penceByUps c_pence c_turned c_called c_hold c_value c_marks c_act c_rowOfKey) sz) := by
  refine Met.ofW (cc := cX5_givesInstead) (maxL := 7) (ret := (some .long)) (by decide) rfl ?_
  intro p e s m args below meth c s₁ B hml hv
  obtain ⟨rfl, hsz, hP, hK, hD0⟩ := hv
  have hx := B.exec
  have hb := B.bytes
  have hr := B.returns
  have hts := atoms_spec (ws := wq (Cond.code yX5_givesInstead cX5_givesInstead 7 (some .long))) B.pre
  have hown : s.vm.findClass RX5 = some m.cls := findClass_of_methodNamed B.named
  have hlocks := B.notSynchronized
  clear B
  subst hsz
  have hD := hD0.self (sz := s.heap.size)
  generalize hAe : va_A (wX5 dA ad c_tree_parts c_bond_terms c_penceByUps c_pence c_turned c_called c_hold c_value c_marks c_act c_rowOfKey) s.heap.size = A at hD ⊢
  have hA : ∀ q : Nat, s.heap.size ≤ q → A q := fun q h => by rw [← hAe]; exact Or.inr h
  clear hAe hD0
  have hS : va_S A s.heap s.heap [] := va_S.rf
  have hl := lv_entry ([.ref (ad 0), .int p1, .int p2]) (n := 7) (Nat.le_of_ble_eq_true rfl)
  rw [lg_entry_eq]
  generalize (lg_sl ([.ref (ad 0), .int p1, .int p2]) ++ List.replicate (7 - (lg_sl ([.ref (ad 0), .int p1, .int p2])).length) Slot.unset).toArray = ls at hl ⊢
  have hl : lv_has ls 7 [(0, .ref (ad 0)), (1, .int p1), (2, .int p2)] := hl
  change W p l e rmX5_givesInstead s m ([.ref (ad 0), .int p1, .int p2] : List Value).toArray below meth c s.heap [] 0 0 _ _
  unfold fX5_givesInstead at hf
  refine lv_iload_n hx hb dX5_givesInstead_0 rfl (lv_at hl 1 rfl) ?_
  obtain ⟨r1, v2, hf⟩ := bd1_some hf
  refine gci0 (va_runSN (As := [.int p1]) (rest := []) ⟨hx, hb, hml, hown, hts⟩ (tX8_dayOf l dC dI dA s.heap.size v2) (ccX5_X8_dayOf hK.2 hts ⟨Nat.le_of_ble_eq_true rfl, Nat.le_of_ble_eq_true rfl⟩) (gPreS0 hK) rfl rfl hl.1 rfl (lv_room (Nat.le_of_ble_eq_true rfl)) dX5_givesInstead_1 ⟨Nat.le_of_ble_eq_true rfl, Nat.le_of_ble_eq_true rfl⟩) hP hS hA (fun H locs hP hS => ?_)
  refine lv_istore_n (lv' := [(3, .int r1), (0, .ref (ad 0)), (1, .int p1), (2, .int p2)]) hx hb dX5_givesInstead_4 rfl hl (by decide) rfl (fun ls hl => ?_)
  refine lv_iload_n hx hb dX5_givesInstead_5 rfl (lv_at hl 0 rfl) ?_
  refine lv_aload_n hx hb dX5_givesInstead_6 rfl (lv_at hl 1 rfl) ?_
  refine va_get (D := (dC, dI)) (ci := 5) (v := .ref (ad 1)) (C := RX5) (T := TX5) (N := 11) hx hb hts (fun w h => gw_mem (inX5 w h)) hown hK.1 hP 0 rfl rfl 0 (by decide) (hts _ (gw_mem wfX5_12)) (fun _ h9 => h9) rfl dX5_givesInstead_7 ?_
  obtain ⟨r3, v4, hf⟩ := bd1_some hf
  have z5 := sg1 (ws := (wX5 dA ad c_tree_parts c_bond_terms c_penceByUps c_pence c_turned c_called c_hold c_value c_marks c_act c_rowOfKey)) (s0 := ((wX5 dA ad c_tree_parts c_bond_terms c_penceByUps c_pence c_turned c_called c_hold c_value c_marks c_act c_rowOfKey)).take 1) (s1 := ((wX5 dA ad c_tree_parts c_bond_terms c_penceByUps c_pence c_turned c_called c_hold c_value c_marks c_act c_rowOfKey)).drop 3) (x1 := (wX7 dA (fun i => ad (i + 1)) c_tree_parts)) rfl
  refine gpi (wf := (wX5 dA ad c_tree_parts c_bond_terms c_penceByUps c_pence c_turned c_called c_hold c_value c_marks c_act c_rowOfKey)) (va_runV (As := []) (rest := [.int r1]) ⟨hx, hb, hml, hown, hts⟩ (tX7_lastDay l dC dI dA (fun i => ad (i + 1)) H.size v4) (ccX5_X7_lastDay hts ⟨Nat.le_of_ble_eq_true rfl, Nat.le_of_ble_eq_true rfl⟩) (gPreV (ci := 7) (q0 := 0) (psub z5 hP) hK (psubD z5 hD) rfl rfl) rfl rfl hl.1 rfl (lv_room (Nat.le_of_ble_eq_true rfl)) dX5_givesInstead_10 ⟨Nat.le_of_ble_eq_true rfl, Nat.le_of_ble_eq_true rfl⟩) hP hD hS hA z5 (sg1 (s0 := ((wX5 dA ad c_tree_parts c_bond_terms c_penceByUps c_pence c_turned c_called c_hold c_value c_marks c_act c_rowOfKey)).take 1) (s1 := ((wX5 dA ad c_tree_parts c_bond_terms c_penceByUps c_pence c_turned c_called c_hold c_value c_marks c_act c_rowOfKey)).drop 3) (x1 := (wX7 dA (fun i => ad (i + 1)) c_tree_parts)) rfl) (fun H locs hP hD hS => ?_)
  obtain ⟨j7, v9, hf⟩ := bd1_some hf
  have J8 : ∀ (H : Heap) (locs : List Loc) (ls : Array Slot), va_P (dC, dI) vwCl (wX5 dA ad c_tree_parts c_bond_terms c_penceByUps c_pence c_turned c_called c_hold c_value c_marks c_act c_rowOfKey) H → va_D A (wX5 dA ad c_tree_parts c_bond_terms c_penceByUps c_pence c_turned c_called c_hold c_value c_marks c_act c_rowOfKey) → va_S A s.heap H locs → lv_has ls 7 [(0, .ref (ad 0)), (1, .int p1), (2, .int p2), (3, .int r1)] → W p l e rmX5_givesInstead s m ([.ref (ad 0), .int p1, .int p2] : List Value).toArray below meth c H locs 0 0 (MQ below (gQl (dC, dI) r (wX5 dA ad c_tree_parts c_bond_terms c_penceByUps c_pence c_turned c_called c_hold c_value c_marks c_act c_rowOfKey) A) ([.ref (ad 0), .int p1, .int p2] : List Value).toArray s 0 0 A) (F0 m 21 ls [.int j7]) := by
    intro H locs ls hP hD hS hl
    refine lv_istore (lv' := [(4, .int j7), (0, .ref (ad 0)), (1, .int p1), (2, .int p2), (3, .int r1)]) hx hb dX5_givesInstead_21 hl (by decide) rfl (fun ls hl => ?_)
    refine lv_ldc2 (v := (-2)) hx hb hown (hts _ (gw_mem wkX5_75)) dX5_givesInstead_23 ?_
    refine lv_lstore (lv' := [(5, .long (-2)), (4, .int j7), (0, .ref (ad 0)), (1, .int p1), (2, .int p2), (3, .int r1)]) hx hb dX5_givesInstead_26 hl (by decide) rfl (fun ls hl => ?_)
    refine lv_iload_n hx hb dX5_givesInstead_28 rfl (lv_at hl 4 rfl) ?_
    obtain ⟨j10, v12, hf⟩ := bd1_some hf
    have J11 : ∀ (H : Heap) (locs : List Loc) (ls : Array Slot), va_P (dC, dI) vwCl (wX5 dA ad c_tree_parts c_bond_terms c_penceByUps c_pence c_turned c_called c_hold c_value c_marks c_act c_rowOfKey) H → va_D A (wX5 dA ad c_tree_parts c_bond_terms c_penceByUps c_pence c_turned c_called c_hold c_value c_marks c_act c_rowOfKey) → va_S A s.heap H locs → lv_has ls 7 [(0, .ref (ad 0)), (3, .int r1), (5, .long j10)] → W p l e rmX5_givesInstead s m ([.ref (ad 0), .int p1, .int p2] : List Value).toArray below meth c H locs 0 0 (MQ below (gQl (dC, dI) r (wX5 dA ad c_tree_parts c_bond_terms c_penceByUps c_pence c_turned c_called c_hold c_value c_marks c_act c_rowOfKey) A) ([.ref (ad 0), .int p1, .int p2] : List Value).toArray s 0 0 A) (F0 m 135 ls []) := by
      intro H locs ls hP hD hS hl
      refine lv_lload hx hb dX5_givesInstead_135 (lv_at hl 2 rfl) ?_
      refine lv_lconst (v := 0) hx hb dX5_givesInstead_137 rfl ?_
      refine W.lcmp hx hb dX5_givesInstead_138 ?_
      obtain ⟨j14, v16, hf⟩ := bd1_some hf
      have J15 : ∀ (H : Heap) (locs : List Loc) (ls : Array Slot), va_P (dC, dI) vwCl (wX5 dA ad c_tree_parts c_bond_terms c_penceByUps c_pence c_turned c_called c_hold c_value c_marks c_act c_rowOfKey) H → va_D A (wX5 dA ad c_tree_parts c_bond_terms c_penceByUps c_pence c_turned c_called c_hold c_value c_marks c_act c_rowOfKey) → va_S A s.heap H locs → lv_has ls 7 [] → W p l e rmX5_givesInstead s m ([.ref (ad 0), .int p1, .int p2] : List Value).toArray below meth c H locs 0 0 (MQ below (gQl (dC, dI) r (wX5 dA ad c_tree_parts c_bond_terms c_penceByUps c_pence c_turned c_called c_hold c_value c_marks c_act c_rowOfKey) A) ([.ref (ad 0), .int p1, .int p2] : List Value).toArray s 0 0 A) (F0 m 160 ls [.long j14]) := by
        intro H locs ls hP hD hS hl
        cases hf
        exact W.lret hx hb hr (fun t ht _ => gql hP hD hS ht) hS.2.2 dX5_givesInstead_160
      replace hf := v16
      clear v16
      refine lv_if_ge (tgt := 148) hx hb dX5_givesInstead_139 (by decide) (fun k13 => ?_) (fun k13 => ?_)
      · replace hf := ifp (lc_ge.mp k13) hf
        refine lv_aload_n hx hb dX5_givesInstead_148 rfl (lv_at hl 0 rfl) ?_
        refine va_get (D := (dC, dI)) (ci := 5) (v := .ref (ad 3)) (C := RX5) (T := TX5) (N := 11) hx hb hts (fun w h => gw_mem (inX5 w h)) hown hK.1 hP 0 rfl rfl 1 (by decide) (hts _ (gw_mem wfX5_21)) (fun _ h9 => h9) rfl dX5_givesInstead_149 ?_
        refine lv_iload_n hx hb dX5_givesInstead_152 rfl (lv_at hl 1 rfl) ?_
        obtain ⟨r17, v18, hf⟩ := bd1_some hf
        have z19 := sg1 (ws := (wX5 dA ad c_tree_parts c_bond_terms c_penceByUps c_pence c_turned c_called c_hold c_value c_marks c_act c_rowOfKey)) (s0 := ((wX5 dA ad c_tree_parts c_bond_terms c_penceByUps c_pence c_turned c_called c_hold c_value c_marks c_act c_rowOfKey)).take 3) (s1 := ((wX5 dA ad c_tree_parts c_bond_terms c_penceByUps c_pence c_turned c_called c_hold c_value c_marks c_act c_rowOfKey)).drop 5) (x1 := (wX0 dA (fun i => ad (i + 3)) c_bond_terms)) rfl
        refine gpi (wf := (wX5 dA ad c_tree_parts c_bond_terms c_penceByUps c_pence c_turned c_called c_hold c_value c_marks c_act c_rowOfKey)) (va_runV (As := [.int r1]) (rest := []) ⟨hx, hb, hml, hown, hts⟩ (tX0_couponOn l dC dI dA (fun i => ad (i + 3)) H.size v18) (ccX5_X0_couponOn hts ⟨Nat.le_of_ble_eq_true rfl, Nat.le_of_ble_eq_true rfl⟩) (gPreV (ci := 1) (q0 := 0) (psub z19 hP) hK (psubD z19 hD) rfl rfl) rfl rfl hl.1 rfl (lv_room (Nat.le_of_ble_eq_true rfl)) dX5_givesInstead_153 ⟨Nat.le_of_ble_eq_true rfl, Nat.le_of_ble_eq_true rfl⟩) hP hD hS hA z19 (sg1 (s0 := ((wX5 dA ad c_tree_parts c_bond_terms c_penceByUps c_pence c_turned c_called c_hold c_value c_marks c_act c_rowOfKey)).take 3) (s1 := ((wX5 dA ad c_tree_parts c_bond_terms c_penceByUps c_pence c_turned c_called c_hold c_value c_marks c_act c_rowOfKey)).drop 5) (x1 := (wX0 dA (fun i => ad (i + 3)) c_bond_terms)) rfl) (fun H locs hP hD hS => ?_)
        refine lv_i2l hx hb dX5_givesInstead_156 rfl ?_
        refine lv_lload hx hb dX5_givesInstead_157 (lv_at hl 2 rfl) ?_
        refine lv_ladd hx hb dX5_givesInstead_159 ?_
        cases hf
        exact J15 _ _ _ hP hD hS (lv_sub hl [] rfl)
      · replace hf := ifn (fun h => k13 (lc_ge.mpr h)) hf
        refine lv_ldc2 (v := (-2)) hx hb hown (hts _ (gw_mem wkX5_75)) dX5_givesInstead_142 ?_
        refine lv_goto (tgt := 160) hx hb dX5_givesInstead_145 (by decide) ?_
        cases hf
        exact J15 _ _ _ hP hD hS (lv_sub hl [] rfl)
    replace hf := v12
    clear v12
    by_cases k20 : p2 = 0
    · replace hf := ifp k20 hf
      refine lv_tableIn (tgt := 56) hx hb dX5_givesInstead_29 (by rw [k20]; decide) (by rw [k20]; decide) (by rw [k20]; rfl) (by decide) ?_
      refine lv_iload hx hb dX5_givesInstead_56 (lv_at hl 1 rfl) ?_
      obtain ⟨j22, v24, hf⟩ := bd1_some hf
      have J23 : ∀ (H : Heap) (locs : List Loc) (ls : Array Slot), va_P (dC, dI) vwCl (wX5 dA ad c_tree_parts c_bond_terms c_penceByUps c_pence c_turned c_called c_hold c_value c_marks c_act c_rowOfKey) H → va_D A (wX5 dA ad c_tree_parts c_bond_terms c_penceByUps c_pence c_turned c_called c_hold c_value c_marks c_act c_rowOfKey) → va_S A s.heap H locs → lv_has ls 7 [(0, .ref (ad 0)), (3, .int r1)] → W p l e rmX5_givesInstead s m ([.ref (ad 0), .int p1, .int p2] : List Value).toArray below meth c H locs 0 0 (MQ below (gQl (dC, dI) r (wX5 dA ad c_tree_parts c_bond_terms c_penceByUps c_pence c_turned c_called c_hold c_value c_marks c_act c_rowOfKey) A) ([.ref (ad 0), .int p1, .int p2] : List Value).toArray s 0 0 A) (F0 m 77 ls [.long j22]) := by
        intro H locs ls hP hD hS hl
        refine lv_lstore (lv' := [(5, .long j22), (0, .ref (ad 0)), (3, .int r1)]) hx hb dX5_givesInstead_77 hl (by decide) rfl (fun ls hl => ?_)
        refine lv_goto (tgt := 135) hx hb dX5_givesInstead_79 (by decide) ?_
        cases hf
        exact J11 _ _ _ hP hD hS (lv_sub hl [1, 2, 0] rfl)
      replace hf := v24
      clear v24
      refine lv_if_eq (tgt := 72) hx hb dX5_givesInstead_58 (by decide) (fun k21 => ?_) (fun k21 => ?_)
      · replace hf := ifp k21 hf
        refine lv_aload_n hx hb dX5_givesInstead_72 rfl (lv_at hl 2 rfl) ?_
        refine lv_iload_n hx hb dX5_givesInstead_73 rfl (lv_at hl 3 rfl) ?_
        obtain ⟨r25, v26, hf⟩ := bd1_some hf
        refine gcl (va_runV (As := [.int p1]) (rest := []) ⟨hx, hb, hml, hown, hts⟩ (tX5_holdAt l dC dI dA ad H.size v26) (ccX5_X5_holdAt hts ⟨Nat.le_of_ble_eq_true rfl, Nat.le_of_ble_eq_true rfl⟩) (gPreV (ci := 5) (q0 := 0) hP hK hD rfl rfl) rfl rfl hl.1 rfl (lv_room (Nat.le_of_ble_eq_true rfl)) dX5_givesInstead_74 ⟨Nat.le_of_ble_eq_true rfl, Nat.le_of_ble_eq_true rfl⟩) hD hS hA (fun H locs hP hD hS => ?_)
        cases hf
        exact J23 _ _ _ hP hD hS (lv_sub hl [2, 5] rfl)
      · replace hf := ifn k21 hf
        refine lv_aload_n hx hb dX5_givesInstead_61 rfl (lv_at hl 2 rfl) ?_
        refine va_get (D := (dC, dI)) (ci := 5) (v := .ref (ad 3)) (C := RX5) (T := TX5) (N := 11) hx hb hts (fun w h => gw_mem (inX5 w h)) hown hK.1 hP 0 rfl rfl 1 (by decide) (hts _ (gw_mem wfX5_21)) (fun _ h9 => h9) rfl dX5_givesInstead_62 ?_
        obtain ⟨r27, v28, hf⟩ := bd1_some hf
        have z29 := sg1 (ws := (wX5 dA ad c_tree_parts c_bond_terms c_penceByUps c_pence c_turned c_called c_hold c_value c_marks c_act c_rowOfKey)) (s0 := ((wX5 dA ad c_tree_parts c_bond_terms c_penceByUps c_pence c_turned c_called c_hold c_value c_marks c_act c_rowOfKey)).take 3) (s1 := ((wX5 dA ad c_tree_parts c_bond_terms c_penceByUps c_pence c_turned c_called c_hold c_value c_marks c_act c_rowOfKey)).drop 5) (x1 := (wX0 dA (fun i => ad (i + 3)) c_bond_terms)) rfl
        refine gpi (wf := (wX5 dA ad c_tree_parts c_bond_terms c_penceByUps c_pence c_turned c_called c_hold c_value c_marks c_act c_rowOfKey)) (va_runV (As := []) (rest := []) ⟨hx, hb, hml, hown, hts⟩ (tX0_face l dC dI dA (fun i => ad (i + 3)) H.size v28) (ccX5_X0_face hts ⟨Nat.le_of_ble_eq_true rfl, Nat.le_of_ble_eq_true rfl⟩) (gPreV (ci := 1) (q0 := 0) (psub z29 hP) hK (psubD z29 hD) rfl rfl) rfl rfl hl.1 rfl (lv_room (Nat.le_of_ble_eq_true rfl)) dX5_givesInstead_65 ⟨Nat.le_of_ble_eq_true rfl, Nat.le_of_ble_eq_true rfl⟩) hP hD hS hA z29 (sg1 (s0 := ((wX5 dA ad c_tree_parts c_bond_terms c_penceByUps c_pence c_turned c_called c_hold c_value c_marks c_act c_rowOfKey)).take 3) (s1 := ((wX5 dA ad c_tree_parts c_bond_terms c_penceByUps c_pence c_turned c_called c_hold c_value c_marks c_act c_rowOfKey)).drop 5) (x1 := (wX0 dA (fun i => ad (i + 3)) c_bond_terms)) rfl) (fun H locs hP hD hS => ?_)
        refine lv_i2l hx hb dX5_givesInstead_68 rfl ?_
        refine lv_goto (tgt := 77) hx hb dX5_givesInstead_69 (by decide) ?_
        cases hf
        exact J23 _ _ _ hP hD hS (lv_sub hl [2, 5] rfl)
    · replace hf := ifn k20 hf
      by_cases k30 : p2 = 1
      · replace hf := ifp k30 hf
        refine lv_tableIn (tgt := 82) hx hb dX5_givesInstead_29 (by rw [k30]; decide) (by rw [k30]; decide) (by rw [k30]; rfl) (by decide) ?_
        refine lv_iload hx hb dX5_givesInstead_82 (lv_at hl 1 rfl) ?_
        obtain ⟨j32, v34, hf⟩ := bd1_some hf
        have J33 : ∀ (H : Heap) (locs : List Loc) (ls : Array Slot), va_P (dC, dI) vwCl (wX5 dA ad c_tree_parts c_bond_terms c_penceByUps c_pence c_turned c_called c_hold c_value c_marks c_act c_rowOfKey) H → va_D A (wX5 dA ad c_tree_parts c_bond_terms c_penceByUps c_pence c_turned c_called c_hold c_value c_marks c_act c_rowOfKey) → va_S A s.heap H locs → lv_has ls 7 [(0, .ref (ad 0)), (3, .int r1)] → W p l e rmX5_givesInstead s m ([.ref (ad 0), .int p1, .int p2] : List Value).toArray below meth c H locs 0 0 (MQ below (gQl (dC, dI) r (wX5 dA ad c_tree_parts c_bond_terms c_penceByUps c_pence c_turned c_called c_hold c_value c_marks c_act c_rowOfKey) A) ([.ref (ad 0), .int p1, .int p2] : List Value).toArray s 0 0 A) (F0 m 102 ls [.long j32]) := by
          intro H locs ls hP hD hS hl
          refine lv_lstore (lv' := [(5, .long j32), (0, .ref (ad 0)), (3, .int r1)]) hx hb dX5_givesInstead_102 hl (by decide) rfl (fun ls hl => ?_)
          refine lv_goto (tgt := 135) hx hb dX5_givesInstead_104 (by decide) ?_
          cases hf
          exact J11 _ _ _ hP hD hS (lv_sub hl [1, 2, 0] rfl)
        replace hf := v34
        clear v34
        refine lv_if_eq (tgt := 93) hx hb dX5_givesInstead_84 (by decide) (fun k31 => ?_) (fun k31 => ?_)
        · replace hf := ifp k31 hf
          refine lv_aload_n hx hb dX5_givesInstead_93 rfl (lv_at hl 2 rfl) ?_
          refine va_get (D := (dC, dI)) (ci := 5) (v := .ref (ad 3)) (C := RX5) (T := TX5) (N := 11) hx hb hts (fun w h => gw_mem (inX5 w h)) hown hK.1 hP 0 rfl rfl 1 (by decide) (hts _ (gw_mem wfX5_21)) (fun _ h9 => h9) rfl dX5_givesInstead_94 ?_
          refine lv_iload_n hx hb dX5_givesInstead_97 rfl (lv_at hl 5 rfl) ?_
          obtain ⟨r35, v36, hf⟩ := bd1_some hf
          have z37 := sg1 (ws := (wX5 dA ad c_tree_parts c_bond_terms c_penceByUps c_pence c_turned c_called c_hold c_value c_marks c_act c_rowOfKey)) (s0 := ((wX5 dA ad c_tree_parts c_bond_terms c_penceByUps c_pence c_turned c_called c_hold c_value c_marks c_act c_rowOfKey)).take 3) (s1 := ((wX5 dA ad c_tree_parts c_bond_terms c_penceByUps c_pence c_turned c_called c_hold c_value c_marks c_act c_rowOfKey)).drop 5) (x1 := (wX0 dA (fun i => ad (i + 3)) c_bond_terms)) rfl
          refine gpi (wf := (wX5 dA ad c_tree_parts c_bond_terms c_penceByUps c_pence c_turned c_called c_hold c_value c_marks c_act c_rowOfKey)) (va_runV (As := [.int r1]) (rest := []) ⟨hx, hb, hml, hown, hts⟩ (tX0_putOn l dC dI dA (fun i => ad (i + 3)) H.size v36) (ccX5_X0_putOn hts ⟨Nat.le_of_ble_eq_true rfl, Nat.le_of_ble_eq_true rfl⟩) (gPreV (ci := 1) (q0 := 0) (psub z37 hP) hK (psubD z37 hD) rfl rfl) rfl rfl hl.1 rfl (lv_room (Nat.le_of_ble_eq_true rfl)) dX5_givesInstead_98 ⟨Nat.le_of_ble_eq_true rfl, Nat.le_of_ble_eq_true rfl⟩) hP hD hS hA z37 (sg1 (s0 := ((wX5 dA ad c_tree_parts c_bond_terms c_penceByUps c_pence c_turned c_called c_hold c_value c_marks c_act c_rowOfKey)).take 3) (s1 := ((wX5 dA ad c_tree_parts c_bond_terms c_penceByUps c_pence c_turned c_called c_hold c_value c_marks c_act c_rowOfKey)).drop 5) (x1 := (wX0 dA (fun i => ad (i + 3)) c_bond_terms)) rfl) (fun H locs hP hD hS => ?_)
          refine lv_i2l hx hb dX5_givesInstead_101 rfl ?_
          cases hf
          exact J33 _ _ _ hP hD hS (lv_sub hl [2, 5] rfl)
        · replace hf := ifn k31 hf
          refine lv_ldc2 (v := (-2)) hx hb hown (hts _ (gw_mem wkX5_75)) dX5_givesInstead_87 ?_
          refine lv_goto (tgt := 102) hx hb dX5_givesInstead_90 (by decide) ?_
          cases hf
          exact J33 _ _ _ hP hD hS (lv_sub hl [2, 5] rfl)
      · replace hf := ifn k30 hf
        by_cases k38 : p2 = 2
        · replace hf := ifp k38 hf
          refine lv_tableIn (tgt := 107) hx hb dX5_givesInstead_29 (by rw [k38]; decide) (by rw [k38]; decide) (by rw [k38]; rfl) (by decide) ?_
          refine lv_aload_n hx hb dX5_givesInstead_107 rfl (lv_at hl 2 rfl) ?_
          refine lv_iload_n hx hb dX5_givesInstead_108 rfl (lv_at hl 3 rfl) ?_
          obtain ⟨r39, v40, hf⟩ := bd1_some hf
          refine gcl (va_runV (As := [.int p1]) (rest := []) ⟨hx, hb, hml, hown, hts⟩ (tX5_turnedAt l dC dI dA ad H.size v40) (ccX5_X5_turnedAt hts ⟨Nat.le_of_ble_eq_true rfl, Nat.le_of_ble_eq_true rfl⟩) (gPreV (ci := 5) (q0 := 0) hP hK hD rfl rfl) rfl rfl hl.1 rfl (lv_room (Nat.le_of_ble_eq_true rfl)) dX5_givesInstead_109 ⟨Nat.le_of_ble_eq_true rfl, Nat.le_of_ble_eq_true rfl⟩) hD hS hA (fun H locs hP hD hS => ?_)
          refine lv_lstore (lv' := [(5, .long r39), (4, .int j7), (0, .ref (ad 0)), (1, .int p1), (2, .int p2), (3, .int r1)]) hx hb dX5_givesInstead_112 hl (by decide) rfl (fun ls hl => ?_)
          refine lv_goto (tgt := 135) hx hb dX5_givesInstead_114 (by decide) ?_
          cases hf
          exact J11 _ _ _ hP hD hS (lv_sub hl [2, 5, 0] rfl)
        · replace hf := ifn k38 hf
          have uk20 := lv_neT (a := 0) k20 (by decide)
          have uk30 := lv_neT (a := 1) k30 (by decide)
          have uk38 := lv_neT (a := 2) k38 (by decide)
          refine lv_tableOut (tgt := 117) hx hb dX5_givesInstead_29 (by omega) (by decide) ?_
          refine lv_iload hx hb dX5_givesInstead_117 (lv_at hl 1 rfl) ?_
          obtain ⟨j42, v44, hf⟩ := bd1_some hf
          have J43 : ∀ (H : Heap) (locs : List Loc) (ls : Array Slot), va_P (dC, dI) vwCl (wX5 dA ad c_tree_parts c_bond_terms c_penceByUps c_pence c_turned c_called c_hold c_value c_marks c_act c_rowOfKey) H → va_D A (wX5 dA ad c_tree_parts c_bond_terms c_penceByUps c_pence c_turned c_called c_hold c_value c_marks c_act c_rowOfKey) → va_S A s.heap H locs → lv_has ls 7 [(0, .ref (ad 0)), (3, .int r1)] → W p l e rmX5_givesInstead s m ([.ref (ad 0), .int p1, .int p2] : List Value).toArray below meth c H locs 0 0 (MQ below (gQl (dC, dI) r (wX5 dA ad c_tree_parts c_bond_terms c_penceByUps c_pence c_turned c_called c_hold c_value c_marks c_act c_rowOfKey) A) ([.ref (ad 0), .int p1, .int p2] : List Value).toArray s 0 0 A) (F0 m 133 ls [.long j42]) := by
            intro H locs ls hP hD hS hl
            refine lv_lstore (lv' := [(5, .long j42), (0, .ref (ad 0)), (3, .int r1)]) hx hb dX5_givesInstead_133 hl (by decide) rfl (fun ls hl => ?_)
            cases hf
            exact J11 _ _ _ hP hD hS (lv_sub hl [1, 2, 0] rfl)
          replace hf := v44
          clear v44
          refine lv_if_eq (tgt := 128) hx hb dX5_givesInstead_119 (by decide) (fun k41 => ?_) (fun k41 => ?_)
          · replace hf := ifp k41 hf
            refine lv_aload_n hx hb dX5_givesInstead_128 rfl (lv_at hl 2 rfl) ?_
            refine lv_iload_n hx hb dX5_givesInstead_129 rfl (lv_at hl 3 rfl) ?_
            obtain ⟨r45, v46, hf⟩ := bd1_some hf
            refine gcl (va_runV (As := [.int p1]) (rest := []) ⟨hx, hb, hml, hown, hts⟩ (tX5_calledAt l dC dI dA ad H.size v46) (ccX5_X5_calledAt hts ⟨Nat.le_of_ble_eq_true rfl, Nat.le_of_ble_eq_true rfl⟩) (gPreV (ci := 5) (q0 := 0) hP hK hD rfl rfl) rfl rfl hl.1 rfl (lv_room (Nat.le_of_ble_eq_true rfl)) dX5_givesInstead_130 ⟨Nat.le_of_ble_eq_true rfl, Nat.le_of_ble_eq_true rfl⟩) hD hS hA (fun H locs hP hD hS => ?_)
            cases hf
            exact J43 _ _ _ hP hD hS (lv_sub hl [2, 5] rfl)
          · replace hf := ifn k41 hf
            refine lv_ldc2 (v := (-2)) hx hb hown (hts _ (gw_mem wkX5_75)) dX5_givesInstead_122 ?_
            refine lv_goto (tgt := 133) hx hb dX5_givesInstead_125 (by decide) ?_
            cases hf
            exact J43 _ _ _ hP hD hS (lv_sub hl [2, 5] rfl)
  replace hf := v9
  clear v9
  refine lv_icmp_lt (tgt := 20) hx hb dX5_givesInstead_13 (by decide) (fun k6 => ?_) (fun k6 => ?_)
  · replace hf := ifp k6 hf
    refine lv_iconst (v := 0) hx hb dX5_givesInstead_20 (by decide) ?_
    cases hf
    exact J8 _ _ _ hP hD hS (lv_sub hl [1, 2, 3, 0] rfl)
  · replace hf := ifn k6 hf
    refine lv_iconst (v := 1) hx hb dX5_givesInstead_16 (by decide) ?_
    refine lv_goto (tgt := 21) hx hb dX5_givesInstead_17 (by decide) ?_
    cases hf
    exact J8 _ _ _ hP hD hS (lv_sub hl [1, 2, 3, 0] rfl)
theorem ccX5_X5_actAt {R : Room} {s : State} {args : Array Value} {c0 : Cond} (ht : ∀ w ∈ wq c0, w.before args s = true) (hR : rmX5_actAt.frames + 1 ≤ R.frames ∧ 8 + (2 + 11) + rmX5_actAt.locals ≤ R.locals) : CallW R s args RX5 RX5 183 yX5_actAt cX5_actAt 2 (some .int) (wq (.code yX5_actAt cX5_actAt 2 (some .int))) rmX5_actAt 0 0 1 := gCW 1 ht wcX5_actAt wmX5_183 wiX5_actAt weX5_actAt wnX5 (by decide +kernel) rfl rfl hR
abbrev rmX5_paidByAct : Room := { frames := 2, cells := 0, slots := 0, locals := 43 }
set_option maxHeartbeats 4000000 in
set_option maxRecDepth 100000 in
theorem tX5_paidByAct (l : Launch) (dC : Nat → ClassId) (dI : Nat → Nat → Nat) (dA : Nat → ClassId) (ad : Nat → Nat) (sz : Nat) {p1 : Int32} {c_tree_parts : Nat → Int32} {c_bond_terms : Nat → Int32} {c_penceByUps : Nat → Int64} {c_pence : Nat → Int64} {c_turned : Nat → Int64} {c_called : Nat → Int64} {c_hold : Nat → Int64} {c_value : Nat → Int64} {c_marks : Nat → Int32} {c_act : Nat → Int32} {c_rowOfKey : Nat → Int32} {r : Int64} (hf : fX5_paidByAct p1 c_bond_terms c_turned c_act = some (r)) : Met l yX5_paidByAct (wq (Cond.code yX5_paidByAct cX5_paidByAct 2 (some .long))) rmX5_paidByAct (gP [.ref (ad 0), .int p1] (dC, dI) dA (wX5 dA ad c_tree_parts c_bond_terms c_penceByUps c_pence c_turned c_called c_hold c_value c_marks c_act c_rowOfKey) sz) (gQl (dC, dI) r (wX5 dA ad c_tree_parts c_bond_terms c_penceByUps c_pence c_turned c_called c_hold c_value c_marks c_act c_rowOfKey) (va_A (wX5 dA ad c_tree_parts c_bond_terms c_penceByUps c_pence c_turned c_called c_hold c_value c_marks c_act c_rowOfKey) sz)) 0 0 (va_A (wX5 dA ad c_tree_parts c_bond_terms c_penceByUps c_pence c_turned c_called c_hold c_value c_marks c_act c_rowOfKey) sz) := by
  refine Met.ofW (cc := cX5_paidByAct) (maxL := 2) (ret := (some .long)) (by decide) rfl ?_
  intro p e s m args below meth c s₁ B hml hv
  obtain ⟨rfl, hsz, hP, hK, hD0⟩ := hv
  have hx := B.exec
  have hb := B.bytes
  have hr := B.returns
  have hts := atoms_spec (ws := wq (Cond.code yX5_paidByAct cX5_paidByAct 2 (some .long))) B.pre
  have hown : s.vm.findClass RX5 = some m.cls := findClass_of_methodNamed B.named
  have hlocks := B.notSynchronized
  clear B
  subst hsz
  have hD := hD0.self (sz := s.heap.size)
  generalize hAe : va_A (wX5 dA ad c_tree_parts c_bond_terms c_penceByUps c_pence c_turned c_called c_hold c_value c_marks c_act c_rowOfKey) s.heap.size = A at hD ⊢
  have hA : ∀ q : Nat, s.heap.size ≤ q → A q := fun q h => by rw [← hAe]; exact Or.inr h
  clear hAe hD0
  have hS : va_S A s.heap s.heap [] := va_S.rf
  have hl := lv_entry ([.ref (ad 0), .int p1]) (n := 2) (Nat.le_of_ble_eq_true rfl)
  rw [lg_entry_eq]
  generalize (lg_sl ([.ref (ad 0), .int p1]) ++ List.replicate (2 - (lg_sl ([.ref (ad 0), .int p1])).length) Slot.unset).toArray = ls at hl ⊢
  have hl : lv_has ls 2 [(0, .ref (ad 0)), (1, .int p1)] := hl
  change W p l e rmX5_paidByAct s m ([.ref (ad 0), .int p1] : List Value).toArray below meth c s.heap [] 0 0 _ _
  unfold fX5_paidByAct at hf
  refine lv_aload_n hx hb dX5_paidByAct_0 rfl (lv_at hl 0 rfl) ?_
  refine lv_iload_n hx hb dX5_paidByAct_1 rfl (lv_at hl 1 rfl) ?_
  obtain ⟨r1, v2, hf⟩ := bd1_some hf
  refine gci (va_runV (As := [.int p1]) (rest := []) ⟨hx, hb, hml, hown, hts⟩ (tX5_actAt l dC dI dA ad s.heap.size v2) (ccX5_X5_actAt hts ⟨Nat.le_of_ble_eq_true rfl, Nat.le_of_ble_eq_true rfl⟩) (gPreV (ci := 5) (q0 := 0) hP hK hD rfl rfl) rfl rfl hl.1 rfl (lv_room (Nat.le_of_ble_eq_true rfl)) dX5_paidByAct_2 ⟨Nat.le_of_ble_eq_true rfl, Nat.le_of_ble_eq_true rfl⟩) hD hS hA (fun H locs hP hD hS => ?_)
  by_cases k3 : r1 = 0
  · replace hf := ifp k3 hf
    refine lv_tableIn (tgt := 44) hx hb dX5_paidByAct_5 (by rw [k3]; decide) (by rw [k3]; decide) (by rw [k3]; rfl) (by decide) ?_
    refine lv_lconst (v := 0) hx hb dX5_paidByAct_44 rfl ?_
    cases hf
    exact W.lret hx hb hr (fun t ht _ => gql hP hD hS ht) hS.2.2 dX5_paidByAct_45
  · replace hf := ifn k3 hf
    by_cases k4 : r1 = 1
    · replace hf := ifp k4 hf
      refine lv_tableIn (tgt := 46) hx hb dX5_paidByAct_5 (by rw [k4]; decide) (by rw [k4]; decide) (by rw [k4]; rfl) (by decide) ?_
      refine lv_aload_n hx hb dX5_paidByAct_46 rfl (lv_at hl 0 rfl) ?_
      refine va_get (D := (dC, dI)) (ci := 5) (v := .ref (ad 3)) (C := RX5) (T := TX5) (N := 11) hx hb hts (fun w h => gw_mem (inX5 w h)) hown hK.1 hP 0 rfl rfl 1 (by decide) (hts _ (gw_mem wfX5_21)) (fun _ h9 => h9) rfl dX5_paidByAct_47 ?_
      refine lv_iload_n hx hb dX5_paidByAct_50 rfl (lv_at hl 1 rfl) ?_
      obtain ⟨r5, v6, hf⟩ := bd1_some hf
      refine gci0 (va_runSN (As := [.int p1]) (rest := [.ref (ad 3)]) ⟨hx, hb, hml, hown, hts⟩ (tX8_dayOf l dC dI dA H.size v6) (ccX5_X8_dayOf hK.2 hts ⟨Nat.le_of_ble_eq_true rfl, Nat.le_of_ble_eq_true rfl⟩) (gPreS0 hK) rfl rfl hl.1 rfl (lv_room (Nat.le_of_ble_eq_true rfl)) dX5_paidByAct_51 ⟨Nat.le_of_ble_eq_true rfl, Nat.le_of_ble_eq_true rfl⟩) hP hS hA (fun H locs hP hS => ?_)
      obtain ⟨r7, v8, hf⟩ := bd1_some hf
      have z9 := sg1 (ws := (wX5 dA ad c_tree_parts c_bond_terms c_penceByUps c_pence c_turned c_called c_hold c_value c_marks c_act c_rowOfKey)) (s0 := ((wX5 dA ad c_tree_parts c_bond_terms c_penceByUps c_pence c_turned c_called c_hold c_value c_marks c_act c_rowOfKey)).take 3) (s1 := ((wX5 dA ad c_tree_parts c_bond_terms c_penceByUps c_pence c_turned c_called c_hold c_value c_marks c_act c_rowOfKey)).drop 5) (x1 := (wX0 dA (fun i => ad (i + 3)) c_bond_terms)) rfl
      refine gpi (wf := (wX5 dA ad c_tree_parts c_bond_terms c_penceByUps c_pence c_turned c_called c_hold c_value c_marks c_act c_rowOfKey)) (va_runV (As := [.int r5]) (rest := []) ⟨hx, hb, hml, hown, hts⟩ (tX0_putOn l dC dI dA (fun i => ad (i + 3)) H.size v8) (ccX5_X0_putOn hts ⟨Nat.le_of_ble_eq_true rfl, Nat.le_of_ble_eq_true rfl⟩) (gPreV (ci := 1) (q0 := 0) (psub z9 hP) hK (psubD z9 hD) rfl rfl) rfl rfl hl.1 rfl (lv_room (Nat.le_of_ble_eq_true rfl)) dX5_paidByAct_54 ⟨Nat.le_of_ble_eq_true rfl, Nat.le_of_ble_eq_true rfl⟩) hP hD hS hA z9 (sg1 (s0 := ((wX5 dA ad c_tree_parts c_bond_terms c_penceByUps c_pence c_turned c_called c_hold c_value c_marks c_act c_rowOfKey)).take 3) (s1 := ((wX5 dA ad c_tree_parts c_bond_terms c_penceByUps c_pence c_turned c_called c_hold c_value c_marks c_act c_rowOfKey)).drop 5) (x1 := (wX0 dA (fun i => ad (i + 3)) c_bond_terms)) rfl) (fun H locs hP hD hS => ?_)
      refine lv_i2l hx hb dX5_paidByAct_57 rfl ?_
      cases hf
      exact W.lret hx hb hr (fun t ht _ => gql hP hD hS ht) hS.2.2 dX5_paidByAct_58
    · replace hf := ifn k4 hf
      by_cases k10 : r1 = 3
      · replace hf := ifp k10 hf
        refine lv_tableIn (tgt := 59) hx hb dX5_paidByAct_5 (by rw [k10]; decide) (by rw [k10]; decide) (by rw [k10]; rfl) (by decide) ?_
        refine lv_aload_n hx hb dX5_paidByAct_59 rfl (lv_at hl 0 rfl) ?_
        refine va_get (D := (dC, dI)) (ci := 5) (v := .ref (ad 3)) (C := RX5) (T := TX5) (N := 11) hx hb hts (fun w h => gw_mem (inX5 w h)) hown hK.1 hP 0 rfl rfl 1 (by decide) (hts _ (gw_mem wfX5_21)) (fun _ h9 => h9) rfl dX5_paidByAct_60 ?_
        refine lv_iload_n hx hb dX5_paidByAct_63 rfl (lv_at hl 1 rfl) ?_
        obtain ⟨r11, v12, hf⟩ := bd1_some hf
        refine gci0 (va_runSN (As := [.int p1]) (rest := [.ref (ad 3)]) ⟨hx, hb, hml, hown, hts⟩ (tX8_dayOf l dC dI dA H.size v12) (ccX5_X8_dayOf hK.2 hts ⟨Nat.le_of_ble_eq_true rfl, Nat.le_of_ble_eq_true rfl⟩) (gPreS0 hK) rfl rfl hl.1 rfl (lv_room (Nat.le_of_ble_eq_true rfl)) dX5_paidByAct_64 ⟨Nat.le_of_ble_eq_true rfl, Nat.le_of_ble_eq_true rfl⟩) hP hS hA (fun H locs hP hS => ?_)
        obtain ⟨r13, v14, hf⟩ := bd1_some hf
        have z15 := sg1 (ws := (wX5 dA ad c_tree_parts c_bond_terms c_penceByUps c_pence c_turned c_called c_hold c_value c_marks c_act c_rowOfKey)) (s0 := ((wX5 dA ad c_tree_parts c_bond_terms c_penceByUps c_pence c_turned c_called c_hold c_value c_marks c_act c_rowOfKey)).take 3) (s1 := ((wX5 dA ad c_tree_parts c_bond_terms c_penceByUps c_pence c_turned c_called c_hold c_value c_marks c_act c_rowOfKey)).drop 5) (x1 := (wX0 dA (fun i => ad (i + 3)) c_bond_terms)) rfl
        refine gpi (wf := (wX5 dA ad c_tree_parts c_bond_terms c_penceByUps c_pence c_turned c_called c_hold c_value c_marks c_act c_rowOfKey)) (va_runV (As := [.int r11]) (rest := []) ⟨hx, hb, hml, hown, hts⟩ (tX0_callOn l dC dI dA (fun i => ad (i + 3)) H.size v14) (ccX5_X0_callOn hts ⟨Nat.le_of_ble_eq_true rfl, Nat.le_of_ble_eq_true rfl⟩) (gPreV (ci := 1) (q0 := 0) (psub z15 hP) hK (psubD z15 hD) rfl rfl) rfl rfl hl.1 rfl (lv_room (Nat.le_of_ble_eq_true rfl)) dX5_paidByAct_67 ⟨Nat.le_of_ble_eq_true rfl, Nat.le_of_ble_eq_true rfl⟩) hP hD hS hA z15 (sg1 (s0 := ((wX5 dA ad c_tree_parts c_bond_terms c_penceByUps c_pence c_turned c_called c_hold c_value c_marks c_act c_rowOfKey)).take 3) (s1 := ((wX5 dA ad c_tree_parts c_bond_terms c_penceByUps c_pence c_turned c_called c_hold c_value c_marks c_act c_rowOfKey)).drop 5) (x1 := (wX0 dA (fun i => ad (i + 3)) c_bond_terms)) rfl) (fun H locs hP hD hS => ?_)
        refine lv_i2l hx hb dX5_paidByAct_70 rfl ?_
        cases hf
        exact W.lret hx hb hr (fun t ht _ => gql hP hD hS ht) hS.2.2 dX5_paidByAct_71
      · replace hf := ifn k10 hf
        by_cases k16 : r1 = 5
        · replace hf := ifp k16 hf
          refine lv_tableIn (tgt := 72) hx hb dX5_paidByAct_5 (by rw [k16]; decide) (by rw [k16]; decide) (by rw [k16]; rfl) (by decide) ?_
          refine lv_aload_n hx hb dX5_paidByAct_72 rfl (lv_at hl 0 rfl) ?_
          refine va_get (D := (dC, dI)) (ci := 5) (v := .ref (ad 3)) (C := RX5) (T := TX5) (N := 11) hx hb hts (fun w h => gw_mem (inX5 w h)) hown hK.1 hP 0 rfl rfl 1 (by decide) (hts _ (gw_mem wfX5_21)) (fun _ h9 => h9) rfl dX5_paidByAct_73 ?_
          obtain ⟨r17, v18, hf⟩ := bd1_some hf
          have z19 := sg1 (ws := (wX5 dA ad c_tree_parts c_bond_terms c_penceByUps c_pence c_turned c_called c_hold c_value c_marks c_act c_rowOfKey)) (s0 := ((wX5 dA ad c_tree_parts c_bond_terms c_penceByUps c_pence c_turned c_called c_hold c_value c_marks c_act c_rowOfKey)).take 3) (s1 := ((wX5 dA ad c_tree_parts c_bond_terms c_penceByUps c_pence c_turned c_called c_hold c_value c_marks c_act c_rowOfKey)).drop 5) (x1 := (wX0 dA (fun i => ad (i + 3)) c_bond_terms)) rfl
          refine gpi (wf := (wX5 dA ad c_tree_parts c_bond_terms c_penceByUps c_pence c_turned c_called c_hold c_value c_marks c_act c_rowOfKey)) (va_runV (As := []) (rest := []) ⟨hx, hb, hml, hown, hts⟩ (tX0_face l dC dI dA (fun i => ad (i + 3)) H.size v18) (ccX5_X0_face hts ⟨Nat.le_of_ble_eq_true rfl, Nat.le_of_ble_eq_true rfl⟩) (gPreV (ci := 1) (q0 := 0) (psub z19 hP) hK (psubD z19 hD) rfl rfl) rfl rfl hl.1 rfl (lv_room (Nat.le_of_ble_eq_true rfl)) dX5_paidByAct_76 ⟨Nat.le_of_ble_eq_true rfl, Nat.le_of_ble_eq_true rfl⟩) hP hD hS hA z19 (sg1 (s0 := ((wX5 dA ad c_tree_parts c_bond_terms c_penceByUps c_pence c_turned c_called c_hold c_value c_marks c_act c_rowOfKey)).take 3) (s1 := ((wX5 dA ad c_tree_parts c_bond_terms c_penceByUps c_pence c_turned c_called c_hold c_value c_marks c_act c_rowOfKey)).drop 5) (x1 := (wX0 dA (fun i => ad (i + 3)) c_bond_terms)) rfl) (fun H locs hP hD hS => ?_)
          refine lv_i2l hx hb dX5_paidByAct_79 rfl ?_
          cases hf
          exact W.lret hx hb hr (fun t ht _ => gql hP hD hS ht) hS.2.2 dX5_paidByAct_80
        · replace hf := ifn k16 hf
          have uk3 := lv_neT (a := 0) k3 (by decide)
          have uk4 := lv_neT (a := 1) k4 (by decide)
          have uk10 := lv_neT (a := 3) k10 (by decide)
          have uk16 := lv_neT (a := 5) k16 (by decide)
          refine tb_tableD (tgt := 81) (gs := [2, 4]) hx hb dX5_paidByAct_5 (by decide +kernel) (fun h1 h2 => by simp only [List.mem_cons, List.not_mem_nil, or_false]; omega) (by decide) ?_
          refine lv_aload_n hx hb dX5_paidByAct_81 rfl (lv_at hl 0 rfl) ?_
          refine lv_iload_n hx hb dX5_paidByAct_82 rfl (lv_at hl 1 rfl) ?_
          obtain ⟨r20, v21, hf⟩ := bd1_some hf
          refine gcl (va_runV (As := [.int p1]) (rest := []) ⟨hx, hb, hml, hown, hts⟩ (tX5_turnedAt l dC dI dA ad H.size v21) (ccX5_X5_turnedAt hts ⟨Nat.le_of_ble_eq_true rfl, Nat.le_of_ble_eq_true rfl⟩) (gPreV (ci := 5) (q0 := 0) hP hK hD rfl rfl) rfl rfl hl.1 rfl (lv_room (Nat.le_of_ble_eq_true rfl)) dX5_paidByAct_83 ⟨Nat.le_of_ble_eq_true rfl, Nat.le_of_ble_eq_true rfl⟩) hD hS hA (fun H locs hP hD hS => ?_)
          cases hf
          exact W.lret hx hb hr (fun t ht _ => gql hP hD hS ht) hS.2.2 dX5_paidByAct_86
theorem ccX5_X8_through {R : Room} {s : State} {args : Array Value} {c0 : Cond} (hN : gN s) (ht : ∀ w ∈ wq c0, w.before args s = true) (hR : rmX8_through.frames + 1 ≤ R.frames ∧ 8 + (4 + 11) + rmX8_through.locals ≤ R.locals) : va_CN R s args RX5 190 yX8_through RX8 cX8_through 4 (some .long) (wq (.code yX8_through cX8_through 4 (some .long))) rmX8_through 0 0 2 ∧ (Cond.static yX8_through).before args s = true ∧ True := gCSN 2 hN ht wcX8_through wmX5_190 wtX8_through wnX8 (by decide +kernel) rfl rfl hR
abbrev rmX5_sharesHeld : Room := { frames := 2, cells := 0, slots := 0, locals := 43 }
set_option maxHeartbeats 4000000 in
set_option maxRecDepth 100000 in
theorem tX5_sharesHeld (l : Launch) (dC : Nat → ClassId) (dI : Nat → Nat → Nat) (dA : Nat → ClassId) (ad : Nat → Nat) (sz : Nat) {p1 : Int32} {c_tree_parts : Nat → Int32} {c_bond_terms : Nat → Int32} {c_penceByUps : Nat → Int64} {c_pence : Nat → Int64} {c_turned : Nat → Int64} {c_called : Nat → Int64} {c_hold : Nat → Int64} {c_value : Nat → Int64} {c_marks : Nat → Int32} {c_act : Nat → Int32} {c_rowOfKey : Nat → Int32} {r : Int64} (hf : fX5_sharesHeld p1 c_tree_parts c_pence c_value = some (r)) : Met l yX5_sharesHeld (wq (Cond.code yX5_sharesHeld cX5_sharesHeld 6 (some .long))) rmX5_sharesHeld (gP [.ref (ad 0), .int p1] (dC, dI) dA (wX5 dA ad c_tree_parts c_bond_terms c_penceByUps c_pence c_turned c_called c_hold c_value c_marks c_act c_rowOfKey) sz) (gQl (dC, dI) r (wX5 dA ad c_tree_parts c_bond_terms c_penceByUps c_pence c_turned c_called c_hold c_value c_marks c_act c_rowOfKey) (va_A (wX5 dA ad c_tree_parts c_bond_terms c_penceByUps c_pence c_turned c_called c_hold c_value c_marks c_act c_rowOfKey) sz)) 0 0 (va_A (wX5 dA ad c_tree_parts c_bond_terms c_penceByUps c_pence c_turned c_called c_hold c_value c_marks c_act c_rowOfKey) sz) := by
  refine Met.ofW (cc := cX5_sharesHeld) (maxL := 6) (ret := (some .long)) (by decide) rfl ?_
  intro p e s m args below meth c s₁ B hml hv
  obtain ⟨rfl, hsz, hP, hK, hD0⟩ := hv
  have hx := B.exec
  have hb := B.bytes
  have hr := B.returns
  have hts := atoms_spec (ws := wq (Cond.code yX5_sharesHeld cX5_sharesHeld 6 (some .long))) B.pre
  have hown : s.vm.findClass RX5 = some m.cls := findClass_of_methodNamed B.named
  have hlocks := B.notSynchronized
  clear B
  subst hsz
  have hD := hD0.self (sz := s.heap.size)
  generalize hAe : va_A (wX5 dA ad c_tree_parts c_bond_terms c_penceByUps c_pence c_turned c_called c_hold c_value c_marks c_act c_rowOfKey) s.heap.size = A at hD ⊢
  have hA : ∀ q : Nat, s.heap.size ≤ q → A q := fun q h => by rw [← hAe]; exact Or.inr h
  clear hAe hD0
  have hS : va_S A s.heap s.heap [] := va_S.rf
  have hl := lv_entry ([.ref (ad 0), .int p1]) (n := 6) (Nat.le_of_ble_eq_true rfl)
  rw [lg_entry_eq]
  generalize (lg_sl ([.ref (ad 0), .int p1]) ++ List.replicate (6 - (lg_sl ([.ref (ad 0), .int p1])).length) Slot.unset).toArray = ls at hl ⊢
  have hl : lv_has ls 6 [(0, .ref (ad 0)), (1, .int p1)] := hl
  change W p l e rmX5_sharesHeld s m ([.ref (ad 0), .int p1] : List Value).toArray below meth c s.heap [] 0 0 _ _
  unfold fX5_sharesHeld at hf
  refine lv_iload_n hx hb dX5_sharesHeld_0 rfl (lv_at hl 1 rfl) ?_
  obtain ⟨r1, v2, hf⟩ := bd1_some hf
  refine gci0 (va_runSN (As := [.int p1]) (rest := []) ⟨hx, hb, hml, hown, hts⟩ (tX8_dayOf l dC dI dA s.heap.size v2) (ccX5_X8_dayOf hK.2 hts ⟨Nat.le_of_ble_eq_true rfl, Nat.le_of_ble_eq_true rfl⟩) (gPreS0 hK) rfl rfl hl.1 rfl (lv_room (Nat.le_of_ble_eq_true rfl)) dX5_sharesHeld_1 ⟨Nat.le_of_ble_eq_true rfl, Nat.le_of_ble_eq_true rfl⟩) hP hS hA (fun H locs hP hS => ?_)
  refine lv_aload_n hx hb dX5_sharesHeld_4 rfl (lv_at hl 0 rfl) ?_
  refine va_get (D := (dC, dI)) (ci := 5) (v := .ref (ad 1)) (C := RX5) (T := TX5) (N := 11) hx hb hts (fun w h => gw_mem (inX5 w h)) hown hK.1 hP 0 rfl rfl 0 (by decide) (hts _ (gw_mem wfX5_12)) (fun _ h9 => h9) rfl dX5_sharesHeld_5 ?_
  obtain ⟨r3, v4, hf⟩ := bd1_some hf
  have z5 := sg1 (ws := (wX5 dA ad c_tree_parts c_bond_terms c_penceByUps c_pence c_turned c_called c_hold c_value c_marks c_act c_rowOfKey)) (s0 := ((wX5 dA ad c_tree_parts c_bond_terms c_penceByUps c_pence c_turned c_called c_hold c_value c_marks c_act c_rowOfKey)).take 1) (s1 := ((wX5 dA ad c_tree_parts c_bond_terms c_penceByUps c_pence c_turned c_called c_hold c_value c_marks c_act c_rowOfKey)).drop 3) (x1 := (wX7 dA (fun i => ad (i + 1)) c_tree_parts)) rfl
  refine gpi (wf := (wX5 dA ad c_tree_parts c_bond_terms c_penceByUps c_pence c_turned c_called c_hold c_value c_marks c_act c_rowOfKey)) (va_runV (As := []) (rest := [.int r1]) ⟨hx, hb, hml, hown, hts⟩ (tX7_lastDay l dC dI dA (fun i => ad (i + 1)) H.size v4) (ccX5_X7_lastDay hts ⟨Nat.le_of_ble_eq_true rfl, Nat.le_of_ble_eq_true rfl⟩) (gPreV (ci := 7) (q0 := 0) (psub z5 hP) hK (psubD z5 hD) rfl rfl) rfl rfl hl.1 rfl (lv_room (Nat.le_of_ble_eq_true rfl)) dX5_sharesHeld_8 ⟨Nat.le_of_ble_eq_true rfl, Nat.le_of_ble_eq_true rfl⟩) hP hD hS hA z5 (sg1 (s0 := ((wX5 dA ad c_tree_parts c_bond_terms c_penceByUps c_pence c_turned c_called c_hold c_value c_marks c_act c_rowOfKey)).take 1) (s1 := ((wX5 dA ad c_tree_parts c_bond_terms c_penceByUps c_pence c_turned c_called c_hold c_value c_marks c_act c_rowOfKey)).drop 3) (x1 := (wX7 dA (fun i => ad (i + 1)) c_tree_parts)) rfl) (fun H locs hP hD hS => ?_)
  refine lv_icmp_lt (tgt := 18) hx hb dX5_sharesHeld_11 (by decide) (fun k6 => ?_) (fun k6 => ?_)
  · replace hf := ifp k6 hf
    refine lv_iload_n hx hb dX5_sharesHeld_18 rfl (lv_at hl 1 rfl) ?_
    refine lv_iconst (v := 1) hx hb dX5_sharesHeld_19 (by decide) ?_
    obtain ⟨r7, v8, hf⟩ := bd1_some hf
    refine gci0 (va_runSN (As := [.int p1, .int 1]) (rest := []) ⟨hx, hb, hml, hown, hts⟩ (tX8_longer l dC dI dA H.size v8) (ccX5_X8_longer hK.2 hts ⟨Nat.le_of_ble_eq_true rfl, Nat.le_of_ble_eq_true rfl⟩) (gPreS0 hK) rfl rfl hl.1 rfl (lv_room (Nat.le_of_ble_eq_true rfl)) dX5_sharesHeld_20 ⟨Nat.le_of_ble_eq_true rfl, Nat.le_of_ble_eq_true rfl⟩) hP hS hA (fun H locs hP hS => ?_)
    refine lv_istore_n (lv' := [(2, .int r7), (0, .ref (ad 0)), (1, .int p1)]) hx hb dX5_sharesHeld_23 rfl hl (by decide) rfl (fun ls hl => ?_)
    refine lv_iload_n hx hb dX5_sharesHeld_24 rfl (lv_at hl 2 rfl) ?_
    refine lv_iconst (v := 0) hx hb dX5_sharesHeld_25 (by decide) ?_
    obtain ⟨r9, v10, hf⟩ := bd1_some hf
    refine gci0 (va_runSN (As := [.int p1, .int 0]) (rest := []) ⟨hx, hb, hml, hown, hts⟩ (tX8_longer l dC dI dA H.size v10) (ccX5_X8_longer hK.2 hts ⟨Nat.le_of_ble_eq_true rfl, Nat.le_of_ble_eq_true rfl⟩) (gPreS0 hK) rfl rfl hl.1 rfl (lv_room (Nat.le_of_ble_eq_true rfl)) dX5_sharesHeld_26 ⟨Nat.le_of_ble_eq_true rfl, Nat.le_of_ble_eq_true rfl⟩) hP hS hA (fun H locs hP hS => ?_)
    refine lv_istore_n (lv' := [(3, .int r9), (2, .int r7), (0, .ref (ad 0)), (1, .int p1)]) hx hb dX5_sharesHeld_29 rfl hl (by decide) rfl (fun ls hl => ?_)
    refine lv_aload_n hx hb dX5_sharesHeld_30 rfl (lv_at hl 2 rfl) ?_
    refine lv_iload_n hx hb dX5_sharesHeld_31 rfl (lv_at hl 1 rfl) ?_
    obtain ⟨r11, v12, hf⟩ := bd1_some hf
    refine gcl (va_runV (As := [.int r7]) (rest := []) ⟨hx, hb, hml, hown, hts⟩ (tX5_penceAt l dC dI dA ad H.size v12) (ccX5_X5_penceAt hts ⟨Nat.le_of_ble_eq_true rfl, Nat.le_of_ble_eq_true rfl⟩) (gPreV (ci := 5) (q0 := 0) hP hK hD rfl rfl) rfl rfl hl.1 rfl (lv_room (Nat.le_of_ble_eq_true rfl)) dX5_sharesHeld_32 ⟨Nat.le_of_ble_eq_true rfl, Nat.le_of_ble_eq_true rfl⟩) hD hS hA (fun H locs hP hD hS => ?_)
    refine lv_aload_n hx hb dX5_sharesHeld_35 rfl (lv_at hl 2 rfl) ?_
    refine lv_iload_n hx hb dX5_sharesHeld_36 rfl (lv_at hl 0 rfl) ?_
    obtain ⟨r13, v14, hf⟩ := bd1_some hf
    refine gcl (va_runV (As := [.int r9]) (rest := [.long r11]) ⟨hx, hb, hml, hown, hts⟩ (tX5_penceAt l dC dI dA ad H.size v14) (ccX5_X5_penceAt hts ⟨Nat.le_of_ble_eq_true rfl, Nat.le_of_ble_eq_true rfl⟩) (gPreV (ci := 5) (q0 := 0) hP hK hD rfl rfl) rfl rfl hl.1 rfl (lv_room (Nat.le_of_ble_eq_true rfl)) dX5_sharesHeld_37 ⟨Nat.le_of_ble_eq_true rfl, Nat.le_of_ble_eq_true rfl⟩) hD hS hA (fun H locs hP hD hS => ?_)
    refine lv_lsub hx hb dX5_sharesHeld_40 ?_
    refine lv_topl (fun w15 ew15 => ?_)
    replace hf := nm_at hf ew15
    refine lv_lstore (lv' := [(4, .long w15), (3, .int r9), (2, .int r7), (0, .ref (ad 0)), (1, .int p1)]) hx hb dX5_sharesHeld_41 hl (by decide) rfl (fun ls hl => ?_)
    refine lv_lload hx hb dX5_sharesHeld_43 (lv_at hl 0 rfl) ?_
    refine lv_lconst (v := 0) hx hb dX5_sharesHeld_45 rfl ?_
    refine W.lcmp hx hb dX5_sharesHeld_46 ?_
    obtain ⟨j17, v19, hf⟩ := bd1_some hf
    have J18 : ∀ (H : Heap) (locs : List Loc) (ls : Array Slot), va_P (dC, dI) vwCl (wX5 dA ad c_tree_parts c_bond_terms c_penceByUps c_pence c_turned c_called c_hold c_value c_marks c_act c_rowOfKey) H → va_D A (wX5 dA ad c_tree_parts c_bond_terms c_penceByUps c_pence c_turned c_called c_hold c_value c_marks c_act c_rowOfKey) → va_S A s.heap H locs → lv_has ls 6 [] → W p l e rmX5_sharesHeld s m ([.ref (ad 0), .int p1] : List Value).toArray below meth c H locs 0 0 (MQ below (gQl (dC, dI) r (wX5 dA ad c_tree_parts c_bond_terms c_penceByUps c_pence c_turned c_called c_hold c_value c_marks c_act c_rowOfKey) A) ([.ref (ad 0), .int p1] : List Value).toArray s 0 0 A) (F0 m 76 ls [.long j17]) := by
      intro H locs ls hP hD hS hl
      cases hf
      exact W.lret hx hb hr (fun t ht _ => gql hP hD hS ht) hS.2.2 dX5_sharesHeld_76
    replace hf := v19
    clear v19
    refine lv_if_ne (tgt := 56) hx hb dX5_sharesHeld_47 (by decide) (fun k16 => ?_) (fun k16 => ?_)
    · replace hf := ifn (fun h => k16 (lc_eq.mpr h)) hf
      refine lv_ldc2 (v := 1000) hx hb hown (hts _ (gw_mem wkX5_188)) dX5_sharesHeld_56 ?_
      refine lv_aload_n hx hb dX5_sharesHeld_59 rfl (lv_at hl 3 rfl) ?_
      refine lv_iload_n hx hb dX5_sharesHeld_60 rfl (lv_at hl 2 rfl) ?_
      obtain ⟨r20, v21, hf⟩ := bd1_some hf
      refine gcl (va_runV (As := [.int r7]) (rest := [.long 1000]) ⟨hx, hb, hml, hown, hts⟩ (tX5_valueAt l dC dI dA ad H.size v21) (ccX5_X5_valueAt hts ⟨Nat.le_of_ble_eq_true rfl, Nat.le_of_ble_eq_true rfl⟩) (gPreV (ci := 5) (q0 := 0) hP hK hD rfl rfl) rfl rfl hl.1 rfl (lv_room (Nat.le_of_ble_eq_true rfl)) dX5_sharesHeld_61 ⟨Nat.le_of_ble_eq_true rfl, Nat.le_of_ble_eq_true rfl⟩) hD hS hA (fun H locs hP hD hS => ?_)
      refine lv_aload_n hx hb dX5_sharesHeld_64 rfl (lv_at hl 3 rfl) ?_
      refine lv_iload_n hx hb dX5_sharesHeld_65 rfl (lv_at hl 1 rfl) ?_
      obtain ⟨r22, v23, hf⟩ := bd1_some hf
      refine gcl (va_runV (As := [.int r9]) (rest := [.long r20, .long 1000]) ⟨hx, hb, hml, hown, hts⟩ (tX5_valueAt l dC dI dA ad H.size v23) (ccX5_X5_valueAt hts ⟨Nat.le_of_ble_eq_true rfl, Nat.le_of_ble_eq_true rfl⟩) (gPreV (ci := 5) (q0 := 0) hP hK hD rfl rfl) rfl rfl hl.1 rfl (lv_room (Nat.le_of_ble_eq_true rfl)) dX5_sharesHeld_66 ⟨Nat.le_of_ble_eq_true rfl, Nat.le_of_ble_eq_true rfl⟩) hD hS hA (fun H locs hP hD hS => ?_)
      refine lv_lsub hx hb dX5_sharesHeld_69 ?_
      refine lv_lmul hx hb dX5_sharesHeld_70 ?_
      refine lv_lload hx hb dX5_sharesHeld_71 (lv_at hl 0 rfl) ?_
      obtain ⟨r24, v25, hf⟩ := bd1_some hf
      refine gcl0 (va_runSN (As := [.long (1000 * (r20 - r22)), .long w15]) (rest := []) ⟨hx, hb, hml, hown, hts⟩ (tX8_through l dC dI dA H.size v25) (ccX5_X8_through hK.2 hts ⟨Nat.le_of_ble_eq_true rfl, Nat.le_of_ble_eq_true rfl⟩) (gPreS0 hK) rfl rfl hl.1 rfl (lv_room (Nat.le_of_ble_eq_true rfl)) dX5_sharesHeld_73 ⟨Nat.le_of_ble_eq_true rfl, Nat.le_of_ble_eq_true rfl⟩) hP hS hA (fun H locs hP hS => ?_)
      cases hf
      exact J18 _ _ _ hP hD hS (lv_sub hl [] rfl)
    · replace hf := ifp (lc_eq.mp k16) hf
      refine lv_ldc2 (v := (-3)) hx hb hown (hts _ (gw_mem wkX5_186)) dX5_sharesHeld_50 ?_
      refine lv_goto (tgt := 76) hx hb dX5_sharesHeld_53 (by decide) ?_
      cases hf
      exact J18 _ _ _ hP hD hS (lv_sub hl [] rfl)
  · replace hf := ifn k6 hf
    refine lv_ldc2 (v := (-2)) hx hb hown (hts _ (gw_mem wkX5_75)) dX5_sharesHeld_14 ?_
    cases hf
    exact W.lret hx hb hr (fun t ht _ => gql hP hD hS ht) hS.2.2 dX5_sharesHeld_17
theorem ccX8_X8_dayOf {R : Room} {s : State} {args : Array Value} {c0 : Cond} (ht : ∀ w ∈ wq c0, w.before args s = true) (hR : rmX8_dayOf.frames + 1 ≤ R.frames ∧ 8 + (2 + 11) + rmX8_dayOf.locals ≤ R.locals) : CallB R s args RX8 166 yX8_dayOf cX8_dayOf 2 (some .int) (wq (.code yX8_dayOf cX8_dayOf 2 (some .int))) rmX8_dayOf 0 0 1 ∧ (Cond.static yX8_dayOf).before args s = true := gCS 1 ht wcX8_dayOf wmX8_166 wtX8_dayOf wnX8 (by decide +kernel) rfl rfl hR
theorem ccX8_X8_within {R : Room} {s : State} {args : Array Value} {c0 : Cond} (ht : ∀ w ∈ wq c0, w.before args s = true) (hR : rmX8_within.frames + 1 ≤ R.frames ∧ 8 + (3 + 11) + rmX8_within.locals ≤ R.locals) : CallB R s args RX8 65 yX8_within cX8_within 3 (some .boolean) (wq (.code yX8_within cX8_within 3 (some .boolean))) rmX8_within 0 0 3 ∧ (Cond.static yX8_within).before args s = true := gCS 3 ht wcX8_within wmX8_65 wtX8_within wnX8 (by decide +kernel) rfl rfl hR
abbrev rmX8_rowOnDay : Room := { frames := 1, cells := 0, slots := 0, locals := 22 }
set_option maxHeartbeats 4000000 in
set_option maxRecDepth 100000 in
theorem tX8_rowOnDay (l : Launch) (dC : Nat → ClassId) (dI : Nat → Nat → Nat) (dA : Nat → ClassId) (sz : Nat) {p0 : Int32} {p1 : Int32} {r : Int32} (hf : fX8_rowOnDay p0 p1 = some (r)) : Met l yX8_rowOnDay (wq (Cond.code yX8_rowOnDay cX8_rowOnDay 3 (some .int))) rmX8_rowOnDay (gP [.int p0, .int p1] (dC, dI) dA [] sz) (gQi (dC, dI) r [] (va_A [] sz)) 0 0 (va_A [] sz) := by
  refine Met.ofW (cc := cX8_rowOnDay) (maxL := 3) (ret := (some .int)) (by decide) rfl ?_
  intro p e s m args below meth c s₁ B hml hv
  obtain ⟨rfl, hsz, hP, hK, hD0⟩ := hv
  have hx := B.exec
  have hb := B.bytes
  have hr := B.returns
  have hts := atoms_spec (ws := wq (Cond.code yX8_rowOnDay cX8_rowOnDay 3 (some .int))) B.pre
  have hown : s.vm.findClass RX8 = some m.cls := findClass_of_methodNamed B.named
  have hlocks := B.notSynchronized
  clear B
  subst hsz
  have hD := hD0.self (sz := s.heap.size)
  generalize hAe : va_A [] s.heap.size = A at hD ⊢
  have hA : ∀ q : Nat, s.heap.size ≤ q → A q := fun q h => by rw [← hAe]; exact Or.inr h
  clear hAe hD0
  have hS : va_S A s.heap s.heap [] := va_S.rf
  have hl := lv_entry ([.int p0, .int p1]) (n := 3) (Nat.le_of_ble_eq_true rfl)
  rw [lg_entry_eq]
  generalize (lg_sl ([.int p0, .int p1]) ++ List.replicate (3 - (lg_sl ([.int p0, .int p1])).length) Slot.unset).toArray = ls at hl ⊢
  have hl : lv_has ls 3 [(0, .int p0), (1, .int p1)] := hl
  change W p l e rmX8_rowOnDay s m ([.int p0, .int p1] : List Value).toArray below meth c s.heap [] 0 0 _ _
  unfold fX8_rowOnDay at hf
  refine lv_iload_n hx hb dX8_rowOnDay_0 rfl (lv_at hl 0 rfl) ?_
  obtain ⟨r1, v2, hf⟩ := bd1_some hf
  refine gci0 (va_runS (As := [.int p0]) (rest := []) ⟨hx, hb, hml, hown, hts⟩ (tX8_dayOf l dC dI dA s.heap.size v2) (ccX8_X8_dayOf hts ⟨Nat.le_of_ble_eq_true rfl, Nat.le_of_ble_eq_true rfl⟩) (gPreS0 hK) rfl rfl hl.1 rfl (lv_room (Nat.le_of_ble_eq_true rfl)) dX8_rowOnDay_1 ⟨Nat.le_of_ble_eq_true rfl, Nat.le_of_ble_eq_true rfl⟩) hP hS hA (fun H locs hP hS => ?_)
  refine lv_istore_n (lv' := [(2, .int r1), (0, .int p0), (1, .int p1)]) hx hb dX8_rowOnDay_4 rfl hl (by decide) rfl (fun ls hl => ?_)
  refine lv_iload_n hx hb dX8_rowOnDay_5 rfl (lv_at hl 2 rfl) ?_
  refine lv_iconst (v := 0) hx hb dX8_rowOnDay_6 (by decide) ?_
  refine lv_iload_n hx hb dX8_rowOnDay_7 rfl (lv_at hl 0 rfl) ?_
  obtain ⟨r3, v4, hf⟩ := bd1_some hf
  refine gci0 (va_runS (As := [.int p1, .int 0, .int r1]) (rest := []) ⟨hx, hb, hml, hown, hts⟩ (tX8_within l dC dI dA H.size v4) (ccX8_X8_within hts ⟨Nat.le_of_ble_eq_true rfl, Nat.le_of_ble_eq_true rfl⟩) (gPreS0 hK) rfl rfl hl.1 rfl (lv_room (Nat.le_of_ble_eq_true rfl)) dX8_rowOnDay_8 ⟨Nat.le_of_ble_eq_true rfl, Nat.le_of_ble_eq_true rfl⟩) hP hS hA (fun H locs hP hS => ?_)
  obtain ⟨j6, v8, hf⟩ := bd1_some hf
  have J7 : ∀ (H : Heap) (locs : List Loc) (ls : Array Slot), va_P (dC, dI) vwCl [] H → va_D A [] → va_S A s.heap H locs → lv_has ls 3 [] → W p l e rmX8_rowOnDay s m ([.int p0, .int p1] : List Value).toArray below meth c H locs 0 0 (MQ below (gQi (dC, dI) r [] A) ([.int p0, .int p1] : List Value).toArray s 0 0 A) (F0 m 23 ls [.int j6]) := by
    intro H locs ls hP hD hS hl
    cases hf
    exact W.iret hx hb hr (fun t ht _ => gqi hP hD hS ht) hS.2.2 dX8_rowOnDay_23
  replace hf := v8
  clear v8
  refine lv_if_eq (tgt := 22) hx hb dX8_rowOnDay_11 (by decide) (fun k5 => ?_) (fun k5 => ?_)
  · replace hf := ifp k5 hf
    refine lv_iload_n hx hb dX8_rowOnDay_22 rfl (lv_at hl 1 rfl) ?_
    cases hf
    exact J7 _ _ _ hP hD hS (lv_sub hl [] rfl)
  · replace hf := ifn k5 hf
    refine lv_iload_n hx hb dX8_rowOnDay_14 rfl (lv_at hl 1 rfl) ?_
    refine lv_iload_n hx hb dX8_rowOnDay_15 rfl (lv_at hl 0 rfl) ?_
    refine lv_iload_n hx hb dX8_rowOnDay_16 rfl (lv_at hl 2 rfl) ?_
    refine lv_isub hx hb dX8_rowOnDay_17 ?_
    refine lv_ishr hx hb dX8_rowOnDay_18 ?_
    refine lv_goto (tgt := 23) hx hb dX8_rowOnDay_19 (by decide) ?_
    cases hf
    exact J7 _ _ _ hP hD hS (lv_sub hl [] rfl)
theorem ccX5_X8_rowOnDay {R : Room} {s : State} {args : Array Value} {c0 : Cond} (hN : gN s) (ht : ∀ w ∈ wq c0, w.before args s = true) (hR : rmX8_rowOnDay.frames + 1 ≤ R.frames ∧ 8 + (3 + 11) + rmX8_rowOnDay.locals ≤ R.locals) : va_CN R s args RX5 193 yX8_rowOnDay RX8 cX8_rowOnDay 3 (some .int) (wq (.code yX8_rowOnDay cX8_rowOnDay 3 (some .int))) rmX8_rowOnDay 0 0 2 ∧ (Cond.static yX8_rowOnDay).before args s = true ∧ True := gCSN 2 hN ht wcX8_rowOnDay wmX5_193 wtX8_rowOnDay wnX8 (by decide +kernel) rfl rfl hR
abbrev rmX5_endAlong : Room := { frames := 2, cells := 0, slots := 0, locals := 44 }
set_option maxHeartbeats 4000000 in
set_option maxRecDepth 100000 in
theorem tX5_endAlong (l : Launch) (dC : Nat → ClassId) (dI : Nat → Nat → Nat) (dA : Nat → ClassId) (ad : Nat → Nat) (sz : Nat) {p1 : Int32} {c_tree_parts : Nat → Int32} {c_bond_terms : Nat → Int32} {c_penceByUps : Nat → Int64} {c_pence : Nat → Int64} {c_turned : Nat → Int64} {c_called : Nat → Int64} {c_hold : Nat → Int64} {c_value : Nat → Int64} {c_marks : Nat → Int32} {c_act : Nat → Int32} {c_rowOfKey : Nat → Int32} {r : Int32} (hf : fX5_endAlong p1 c_act = some (r)) : Met l yX5_endAlong (wq (Cond.code yX5_endAlong cX5_endAlong 4 (some .int))) rmX5_endAlong (gP [.ref (ad 0), .int p1] (dC, dI) dA (wX5 dA ad c_tree_parts c_bond_terms c_penceByUps c_pence c_turned c_called c_hold c_value c_marks c_act c_rowOfKey) sz) (gQi (dC, dI) r (wX5 dA ad c_tree_parts c_bond_terms c_penceByUps c_pence c_turned c_called c_hold c_value c_marks c_act c_rowOfKey) (va_A (wX5 dA ad c_tree_parts c_bond_terms c_penceByUps c_pence c_turned c_called c_hold c_value c_marks c_act c_rowOfKey) sz)) 0 0 (va_A (wX5 dA ad c_tree_parts c_bond_terms c_penceByUps c_pence c_turned c_called c_hold c_value c_marks c_act c_rowOfKey) sz) := by
  refine Met.ofW (cc := cX5_endAlong) (maxL := 4) (ret := (some .int)) (by decide) rfl ?_
  intro p e s m args below meth c s₁ B hml hv
  obtain ⟨rfl, hsz, hP, hK, hD0⟩ := hv
  have hx := B.exec
  have hb := B.bytes
  have hr := B.returns
  have hts := atoms_spec (ws := wq (Cond.code yX5_endAlong cX5_endAlong 4 (some .int))) B.pre
  have hown : s.vm.findClass RX5 = some m.cls := findClass_of_methodNamed B.named
  have hlocks := B.notSynchronized
  clear B
  subst hsz
  have hD := hD0.self (sz := s.heap.size)
  generalize hAe : va_A (wX5 dA ad c_tree_parts c_bond_terms c_penceByUps c_pence c_turned c_called c_hold c_value c_marks c_act c_rowOfKey) s.heap.size = A at hD ⊢
  have hA : ∀ q : Nat, s.heap.size ≤ q → A q := fun q h => by rw [← hAe]; exact Or.inr h
  clear hAe hD0
  have hS : va_S A s.heap s.heap [] := va_S.rf
  have hl := lv_entry ([.ref (ad 0), .int p1]) (n := 4) (Nat.le_of_ble_eq_true rfl)
  rw [lg_entry_eq]
  generalize (lg_sl ([.ref (ad 0), .int p1]) ++ List.replicate (4 - (lg_sl ([.ref (ad 0), .int p1])).length) Slot.unset).toArray = ls at hl ⊢
  have hl : lv_has ls 4 [(0, .ref (ad 0)), (1, .int p1)] := hl
  change W p l e rmX5_endAlong s m ([.ref (ad 0), .int p1] : List Value).toArray below meth c s.heap [] 0 0 _ _
  generalize hQ : MQ below (gQi (dC, dI) r (wX5 dA ad c_tree_parts c_bond_terms c_penceByUps c_pence c_turned c_called c_hold c_value c_marks c_act c_rowOfKey) A) ([.ref (ad 0), .int p1] : List Value).toArray s 0 0 A = Q
  have LP2 : ∀ (n : Nat) (x1 : Int32) (c_act : Nat → Int32) (c_tree_parts : Nat → Int32) (c_bond_terms : Nat → Int32) (c_penceByUps : Nat → Int64) (c_pence : Nat → Int64) (c_turned : Nat → Int64) (c_called : Nat → Int64) (c_hold : Nat → Int64) (c_value : Nat → Int64) (c_marks : Nat → Int32) (c_rowOfKey : Nat → Int32) (x2 : Int32) (tgo : Nat) (o3 : Int32) (H : Heap) (locs : List Loc) (ls : Array Slot), va_P (dC, dI) vwCl (wX5 dA ad c_tree_parts c_bond_terms c_penceByUps c_pence c_turned c_called c_hold c_value c_marks c_act c_rowOfKey) H → va_D A (wX5 dA ad c_tree_parts c_bond_terms c_penceByUps c_pence c_turned c_called c_hold c_value c_marks c_act c_rowOfKey) → va_S A s.heap H locs → lpX5_endAlong_2 x1 c_act n x2 = some (tgo, o3) → lv_has ls 4 [(0, .ref (ad 0)), (1, .int x1), (2, .int x2)] → (tgo = 0 → ∀ (H : Heap) (locs : List Loc) (ls : Array Slot), va_P (dC, dI) vwCl (wX5 dA ad c_tree_parts c_bond_terms c_penceByUps c_pence c_turned c_called c_hold c_value c_marks c_act c_rowOfKey) H → va_D A (wX5 dA ad c_tree_parts c_bond_terms c_penceByUps c_pence c_turned c_called c_hold c_value c_marks c_act c_rowOfKey) → va_S A s.heap H locs → lv_has ls 4 [(3, .int o3)] → W p l e rmX5_endAlong s m ([.ref (ad 0), .int p1] : List Value).toArray below meth c H locs 0 0 Q (F0 m 24 ls [])) → (tgo = 1 → ∀ (H : Heap) (locs : List Loc) (ls : Array Slot), va_P (dC, dI) vwCl (wX5 dA ad c_tree_parts c_bond_terms c_penceByUps c_pence c_turned c_called c_hold c_value c_marks c_act c_rowOfKey) H → va_D A (wX5 dA ad c_tree_parts c_bond_terms c_penceByUps c_pence c_turned c_called c_hold c_value c_marks c_act c_rowOfKey) → va_S A s.heap H locs → lv_has ls 4 [] → W p l e rmX5_endAlong s m ([.ref (ad 0), .int p1] : List Value).toArray below meth c H locs 0 0 Q (F0 m 32 ls [])) → W p l e rmX5_endAlong s m ([.ref (ad 0), .int p1] : List Value).toArray below meth c H locs 0 0 Q (F0 m 2 ls []) := by
    intro n
    induction n with
    | zero =>
      intro x1 c_act c_tree_parts c_bond_terms c_penceByUps c_pence c_turned c_called c_hold c_value c_marks c_rowOfKey x2 tgo o3 H locs ls hP hD hS hf hl hk0 hk1
      cases hf
    | succ n ih2 =>
      intro x1 c_act c_tree_parts c_bond_terms c_penceByUps c_pence c_turned c_called c_hold c_value c_marks c_rowOfKey x2 tgo o3 H locs ls hP hD hS hf hl hk0 hk1
      rw [lpX5_endAlong_2.eq_2] at hf
      refine lv_iload_n hx hb dX5_endAlong_2 rfl (lv_at hl 2 rfl) ?_
      refine lv_iload_n hx hb dX5_endAlong_3 rfl (lv_at hl 1 rfl) ?_
      obtain ⟨r4, v5, hf⟩ := bd1_some hf
      refine gci0 (va_runSN (As := [.int x1]) (rest := [.int x2]) ⟨hx, hb, hml, hown, hts⟩ (tX8_dayOf l dC dI dA H.size v5) (ccX5_X8_dayOf hK.2 hts ⟨Nat.le_of_ble_eq_true rfl, Nat.le_of_ble_eq_true rfl⟩) (gPreS0 hK) rfl rfl hl.1 rfl (lv_room (Nat.le_of_ble_eq_true rfl)) dX5_endAlong_4 ⟨Nat.le_of_ble_eq_true rfl, Nat.le_of_ble_eq_true rfl⟩) hP hS hA (fun H locs hP hS => ?_)
      refine lv_icmp_gt (tgt := 32) hx hb dX5_endAlong_7 (by decide) (fun k6 => ?_) (fun k6 => ?_)
      · replace hf := ifp k6 hf
        cases hf
        exact hk1 rfl _ _ _ hP hD hS (lv_sub hl [] rfl)
      · replace hf := ifn k6 hf
        refine lv_iload_n hx hb dX5_endAlong_10 rfl (lv_at hl 1 rfl) ?_
        refine lv_iload_n hx hb dX5_endAlong_11 rfl (lv_at hl 2 rfl) ?_
        obtain ⟨r7, v8, hf⟩ := bd1_some hf
        refine gci0 (va_runSN (As := [.int x1, .int x2]) (rest := []) ⟨hx, hb, hml, hown, hts⟩ (tX8_rowOnDay l dC dI dA H.size v8) (ccX5_X8_rowOnDay hK.2 hts ⟨Nat.le_of_ble_eq_true rfl, Nat.le_of_ble_eq_true rfl⟩) (gPreS0 hK) rfl rfl hl.1 rfl (lv_room (Nat.le_of_ble_eq_true rfl)) dX5_endAlong_12 ⟨Nat.le_of_ble_eq_true rfl, Nat.le_of_ble_eq_true rfl⟩) hP hS hA (fun H locs hP hS => ?_)
        refine lv_istore_n (lv' := [(3, .int r7), (0, .ref (ad 0)), (1, .int x1), (2, .int x2)]) hx hb dX5_endAlong_15 rfl hl (by decide) rfl (fun ls hl => ?_)
        refine lv_aload_n hx hb dX5_endAlong_16 rfl (lv_at hl 1 rfl) ?_
        refine lv_iload_n hx hb dX5_endAlong_17 rfl (lv_at hl 0 rfl) ?_
        obtain ⟨r9, v10, hf⟩ := bd1_some hf
        refine gci (va_runV (As := [.int r7]) (rest := []) ⟨hx, hb, hml, hown, hts⟩ (tX5_actAt l dC dI dA ad H.size v10) (ccX5_X5_actAt hts ⟨Nat.le_of_ble_eq_true rfl, Nat.le_of_ble_eq_true rfl⟩) (gPreV (ci := 5) (q0 := 0) hP hK hD rfl rfl) rfl rfl hl.1 rfl (lv_room (Nat.le_of_ble_eq_true rfl)) dX5_endAlong_18 ⟨Nat.le_of_ble_eq_true rfl, Nat.le_of_ble_eq_true rfl⟩) hD hS hA (fun H locs hP hD hS => ?_)
        refine lv_if_eq (tgt := 26) hx hb dX5_endAlong_21 (by decide) (fun k11 => ?_) (fun k11 => ?_)
        · replace hf := ifp k11 hf
          obtain ⟨w12, ew12⟩ : ∃ y : Int32, y = x2 + 1 := ⟨_, rfl⟩
          replace hf := nm_at hf ew12
          refine lv_iinc (v := w12) (lv' := [(2, .int w12), (3, .int r7), (0, .ref (ad 0)), (1, .int x1)]) hx hb dX5_endAlong_26 hl (k := 3) rfl (by rw [ew12]; rfl) (by decide) rfl (fun ls hl => ?_)
          refine lv_goto (tgt := 2) hx hb dX5_endAlong_29 (by decide) ?_
          exact ih2 _ _ _ _ _ _ _ _ _ _ _ _ _ _ _ _ _ _ hP hD hS hf (lv_sub hl [2, 3, 0] rfl) hk0 hk1
        · replace hf := ifn k11 hf
          cases hf
          exact hk0 rfl _ _ _ hP hD hS (lv_sub hl [0] rfl)
  subst hQ
  unfold fX5_endAlong at hf
  refine lv_iconst (v := 0) hx hb dX5_endAlong_0 (by decide) ?_
  refine lv_istore_n (lv' := [(2, .int 0), (0, .ref (ad 0)), (1, .int p1)]) hx hb dX5_endAlong_1 rfl hl (by decide) rfl (fun ls hl => ?_)
  obtain ⟨tg1, x2, v3, hf⟩ := bd2_some hf
  refine LP2 FU _ _ _ _ _ _ _ _ _ _ _ _ _ _ _ _ _ _ hP hD hS v3 (lv_sub hl [1, 2, 0] rfl) (fun etg1 H locs ls hP hD hS hl => ?_) (fun etg1 H locs ls hP hD hS hl => ?_)
  · replace hf := ifp etg1 hf
    refine lv_iload_n hx hb dX5_endAlong_24 rfl (lv_at hl 0 rfl) ?_
    cases hf
    exact W.iret hx hb hr (fun t ht _ => gqi hP hD hS ht) hS.2.2 dX5_endAlong_25
  · replace hf := ifn (c := tg1 = 0) (by rw [etg1]; decide) hf
    refine lv_iconst (v := 0) hx hb dX5_endAlong_32 (by decide) ?_
    cases hf
    exact W.iret hx hb hr (fun t ht _ => gqi hP hD hS ht) hS.2.2 dX5_endAlong_33
theorem ccX5_X5_paidByAct {R : Room} {s : State} {args : Array Value} {c0 : Cond} (ht : ∀ w ∈ wq c0, w.before args s = true) (hR : rmX5_paidByAct.frames + 1 ≤ R.frames ∧ 8 + (2 + 11) + rmX5_paidByAct.locals ≤ R.locals) : CallW R s args RX5 RX5 196 yX5_paidByAct cX5_paidByAct 2 (some .long) (wq (.code yX5_paidByAct cX5_paidByAct 2 (some .long))) rmX5_paidByAct 0 0 1 := gCW 1 ht wcX5_paidByAct wmX5_196 wiX5_paidByAct weX5_paidByAct wnX5 (by decide +kernel) rfl rfl hR
abbrev rmX5_paidUpTo : Room := { frames := 3, cells := 0, slots := 0, locals := 64 }
set_option maxHeartbeats 4000000 in
set_option maxRecDepth 100000 in
theorem tX5_paidUpTo (l : Launch) (dC : Nat → ClassId) (dI : Nat → Nat → Nat) (dA : Nat → ClassId) (ad : Nat → Nat) (sz : Nat) {p1 : Int32} {c_tree_parts : Nat → Int32} {c_bond_terms : Nat → Int32} {c_penceByUps : Nat → Int64} {c_pence : Nat → Int64} {c_turned : Nat → Int64} {c_called : Nat → Int64} {c_hold : Nat → Int64} {c_value : Nat → Int64} {c_marks : Nat → Int32} {c_act : Nat → Int32} {c_rowOfKey : Nat → Int32} {r : Int64} (hf : fX5_paidUpTo p1 c_bond_terms c_turned c_act = some (r)) : Met l yX5_paidUpTo (wq (Cond.code yX5_paidUpTo cX5_paidUpTo 5 (some .long))) rmX5_paidUpTo (gP [.ref (ad 0), .int p1] (dC, dI) dA (wX5 dA ad c_tree_parts c_bond_terms c_penceByUps c_pence c_turned c_called c_hold c_value c_marks c_act c_rowOfKey) sz) (gQl (dC, dI) r (wX5 dA ad c_tree_parts c_bond_terms c_penceByUps c_pence c_turned c_called c_hold c_value c_marks c_act c_rowOfKey) (va_A (wX5 dA ad c_tree_parts c_bond_terms c_penceByUps c_pence c_turned c_called c_hold c_value c_marks c_act c_rowOfKey) sz)) 0 0 (va_A (wX5 dA ad c_tree_parts c_bond_terms c_penceByUps c_pence c_turned c_called c_hold c_value c_marks c_act c_rowOfKey) sz) := by
  refine Met.ofW (cc := cX5_paidUpTo) (maxL := 5) (ret := (some .long)) (by decide) rfl ?_
  intro p e s m args below meth c s₁ B hml hv
  obtain ⟨rfl, hsz, hP, hK, hD0⟩ := hv
  have hx := B.exec
  have hb := B.bytes
  have hr := B.returns
  have hts := atoms_spec (ws := wq (Cond.code yX5_paidUpTo cX5_paidUpTo 5 (some .long))) B.pre
  have hown : s.vm.findClass RX5 = some m.cls := findClass_of_methodNamed B.named
  have hlocks := B.notSynchronized
  clear B
  subst hsz
  have hD := hD0.self (sz := s.heap.size)
  generalize hAe : va_A (wX5 dA ad c_tree_parts c_bond_terms c_penceByUps c_pence c_turned c_called c_hold c_value c_marks c_act c_rowOfKey) s.heap.size = A at hD ⊢
  have hA : ∀ q : Nat, s.heap.size ≤ q → A q := fun q h => by rw [← hAe]; exact Or.inr h
  clear hAe hD0
  have hS : va_S A s.heap s.heap [] := va_S.rf
  have hl := lv_entry ([.ref (ad 0), .int p1]) (n := 5) (Nat.le_of_ble_eq_true rfl)
  rw [lg_entry_eq]
  generalize (lg_sl ([.ref (ad 0), .int p1]) ++ List.replicate (5 - (lg_sl ([.ref (ad 0), .int p1])).length) Slot.unset).toArray = ls at hl ⊢
  have hl : lv_has ls 5 [(0, .ref (ad 0)), (1, .int p1)] := hl
  change W p l e rmX5_paidUpTo s m ([.ref (ad 0), .int p1] : List Value).toArray below meth c s.heap [] 0 0 _ _
  generalize hQ : MQ below (gQl (dC, dI) r (wX5 dA ad c_tree_parts c_bond_terms c_penceByUps c_pence c_turned c_called c_hold c_value c_marks c_act c_rowOfKey) A) ([.ref (ad 0), .int p1] : List Value).toArray s 0 0 A = Q
  have LP9 : ∀ (n : Nat) (x1 : Int32) (c_bond_terms : Nat → Int32) (c_tree_parts : Nat → Int32) (c_penceByUps : Nat → Int64) (c_pence : Nat → Int64) (c_turned : Nat → Int64) (c_called : Nat → Int64) (c_hold : Nat → Int64) (c_value : Nat → Int64) (c_marks : Nat → Int32) (c_act : Nat → Int32) (c_rowOfKey : Nat → Int32) (x2 : Int64) (x4 : Int32) (o2 : Int64) (H : Heap) (locs : List Loc) (ls : Array Slot), va_P (dC, dI) vwCl (wX5 dA ad c_tree_parts c_bond_terms c_penceByUps c_pence c_turned c_called c_hold c_value c_marks c_act c_rowOfKey) H → va_D A (wX5 dA ad c_tree_parts c_bond_terms c_penceByUps c_pence c_turned c_called c_hold c_value c_marks c_act c_rowOfKey) → va_S A s.heap H locs → lpX5_paidUpTo_9 x1 c_bond_terms n x2 x4 = some (o2) → lv_has ls 5 [(0, .ref (ad 0)), (1, .int x1), (2, .long x2), (4, .int x4)] → (∀ (H : Heap) (locs : List Loc) (ls : Array Slot), va_P (dC, dI) vwCl (wX5 dA ad c_tree_parts c_bond_terms c_penceByUps c_pence c_turned c_called c_hold c_value c_marks c_act c_rowOfKey) H → va_D A (wX5 dA ad c_tree_parts c_bond_terms c_penceByUps c_pence c_turned c_called c_hold c_value c_marks c_act c_rowOfKey) → va_S A s.heap H locs → lv_has ls 5 [(2, .long o2)] → W p l e rmX5_paidUpTo s m ([.ref (ad 0), .int p1] : List Value).toArray below meth c H locs 0 0 Q (F0 m 37 ls [])) → W p l e rmX5_paidUpTo s m ([.ref (ad 0), .int p1] : List Value).toArray below meth c H locs 0 0 Q (F0 m 9 ls []) := by
    intro n
    induction n with
    | zero =>
      intro x1 c_bond_terms c_tree_parts c_penceByUps c_pence c_turned c_called c_hold c_value c_marks c_act c_rowOfKey x2 x4 o2 H locs ls hP hD hS hf hl hk
      cases hf
    | succ n ih9 =>
      intro x1 c_bond_terms c_tree_parts c_penceByUps c_pence c_turned c_called c_hold c_value c_marks c_act c_rowOfKey x2 x4 o2 H locs ls hP hD hS hf hl hk
      rw [lpX5_paidUpTo_9.eq_2] at hf
      refine lv_iload hx hb dX5_paidUpTo_9 (lv_at hl 3 rfl) ?_
      refine lv_iload_n hx hb dX5_paidUpTo_11 rfl (lv_at hl 1 rfl) ?_
      obtain ⟨r5, v6, hf⟩ := bd1_some hf
      refine gci0 (va_runSN (As := [.int x1]) (rest := [.int x4]) ⟨hx, hb, hml, hown, hts⟩ (tX8_dayOf l dC dI dA H.size v6) (ccX5_X8_dayOf hK.2 hts ⟨Nat.le_of_ble_eq_true rfl, Nat.le_of_ble_eq_true rfl⟩) (gPreS0 hK) rfl rfl hl.1 rfl (lv_room (Nat.le_of_ble_eq_true rfl)) dX5_paidUpTo_12 ⟨Nat.le_of_ble_eq_true rfl, Nat.le_of_ble_eq_true rfl⟩) hP hS hA (fun H locs hP hS => ?_)
      refine lv_icmp_gt (tgt := 37) hx hb dX5_paidUpTo_15 (by decide) (fun k7 => ?_) (fun k7 => ?_)
      · replace hf := ifp k7 hf
        cases hf
        exact hk _ _ _ hP hD hS (lv_sub hl [2] rfl)
      · replace hf := ifn k7 hf
        refine lv_lload_n hx hb dX5_paidUpTo_18 rfl (lv_at hl 2 rfl) ?_
        refine lv_aload_n hx hb dX5_paidUpTo_19 rfl (lv_at hl 0 rfl) ?_
        refine va_get (D := (dC, dI)) (ci := 5) (v := .ref (ad 3)) (C := RX5) (T := TX5) (N := 11) hx hb hts (fun w h => gw_mem (inX5 w h)) hown hK.1 hP 0 rfl rfl 1 (by decide) (hts _ (gw_mem wfX5_21)) (fun _ h9 => h9) rfl dX5_paidUpTo_20 ?_
        refine lv_iload hx hb dX5_paidUpTo_23 (lv_at hl 3 rfl) ?_
        obtain ⟨r8, v9, hf⟩ := bd1_some hf
        have z10 := sg1 (ws := (wX5 dA ad c_tree_parts c_bond_terms c_penceByUps c_pence c_turned c_called c_hold c_value c_marks c_act c_rowOfKey)) (s0 := ((wX5 dA ad c_tree_parts c_bond_terms c_penceByUps c_pence c_turned c_called c_hold c_value c_marks c_act c_rowOfKey)).take 3) (s1 := ((wX5 dA ad c_tree_parts c_bond_terms c_penceByUps c_pence c_turned c_called c_hold c_value c_marks c_act c_rowOfKey)).drop 5) (x1 := (wX0 dA (fun i => ad (i + 3)) c_bond_terms)) rfl
        refine gpi (wf := (wX5 dA ad c_tree_parts c_bond_terms c_penceByUps c_pence c_turned c_called c_hold c_value c_marks c_act c_rowOfKey)) (va_runV (As := [.int x4]) (rest := [.long x2]) ⟨hx, hb, hml, hown, hts⟩ (tX0_couponOn l dC dI dA (fun i => ad (i + 3)) H.size v9) (ccX5_X0_couponOn hts ⟨Nat.le_of_ble_eq_true rfl, Nat.le_of_ble_eq_true rfl⟩) (gPreV (ci := 1) (q0 := 0) (psub z10 hP) hK (psubD z10 hD) rfl rfl) rfl rfl hl.1 rfl (lv_room (Nat.le_of_ble_eq_true rfl)) dX5_paidUpTo_25 ⟨Nat.le_of_ble_eq_true rfl, Nat.le_of_ble_eq_true rfl⟩) hP hD hS hA z10 (sg1 (s0 := ((wX5 dA ad c_tree_parts c_bond_terms c_penceByUps c_pence c_turned c_called c_hold c_value c_marks c_act c_rowOfKey)).take 3) (s1 := ((wX5 dA ad c_tree_parts c_bond_terms c_penceByUps c_pence c_turned c_called c_hold c_value c_marks c_act c_rowOfKey)).drop 5) (x1 := (wX0 dA (fun i => ad (i + 3)) c_bond_terms)) rfl) (fun H locs hP hD hS => ?_)
        refine lv_i2l hx hb dX5_paidUpTo_28 rfl ?_
        refine lv_ladd hx hb dX5_paidUpTo_29 ?_
        refine lv_topl (fun w11 ew11 => ?_)
        replace hf := nm_at hf ew11
        refine lv_lstore_n (lv' := [(2, .long w11), (0, .ref (ad 0)), (1, .int x1), (4, .int x4)]) hx hb dX5_paidUpTo_30 rfl hl (by decide) rfl (fun ls hl => ?_)
        obtain ⟨w12, ew12⟩ : ∃ y : Int32, y = x4 + 1 := ⟨_, rfl⟩
        replace hf := nm_at hf ew12
        refine lv_iinc (v := w12) (lv' := [(4, .int w12), (2, .long w11), (0, .ref (ad 0)), (1, .int x1)]) hx hb dX5_paidUpTo_31 hl (k := 3) rfl (by rw [ew12]; rfl) (by decide) rfl (fun ls hl => ?_)
        refine lv_goto (tgt := 9) hx hb dX5_paidUpTo_34 (by decide) ?_
        exact ih9 _ _ _ _ _ _ _ _ _ _ _ _ _ _ _ _ _ _ hP hD hS hf (lv_sub hl [2, 3, 1, 0] rfl) hk
  subst hQ
  unfold fX5_paidUpTo at hf
  refine lv_aload_n hx hb dX5_paidUpTo_0 rfl (lv_at hl 0 rfl) ?_
  refine lv_iload_n hx hb dX5_paidUpTo_1 rfl (lv_at hl 1 rfl) ?_
  obtain ⟨r1, v2, hf⟩ := bd1_some hf
  refine gcl (va_runV (As := [.int p1]) (rest := []) ⟨hx, hb, hml, hown, hts⟩ (tX5_paidByAct l dC dI dA ad s.heap.size v2) (ccX5_X5_paidByAct hts ⟨Nat.le_of_ble_eq_true rfl, Nat.le_of_ble_eq_true rfl⟩) (gPreV (ci := 5) (q0 := 0) hP hK hD rfl rfl) rfl rfl hl.1 rfl (lv_room (Nat.le_of_ble_eq_true rfl)) dX5_paidUpTo_2 ⟨Nat.le_of_ble_eq_true rfl, Nat.le_of_ble_eq_true rfl⟩) hD hS hA (fun H locs hP hD hS => ?_)
  refine lv_lstore_n (lv' := [(2, .long r1), (0, .ref (ad 0)), (1, .int p1)]) hx hb dX5_paidUpTo_5 rfl hl (by decide) rfl (fun ls hl => ?_)
  refine lv_iconst (v := 1) hx hb dX5_paidUpTo_6 (by decide) ?_
  refine lv_istore (lv' := [(4, .int 1), (2, .long r1), (0, .ref (ad 0)), (1, .int p1)]) hx hb dX5_paidUpTo_7 hl (by decide) rfl (fun ls hl => ?_)
  obtain ⟨x3, v4, hf⟩ := bd1_some hf
  refine LP9 FU _ _ _ _ _ _ _ _ _ _ _ _ _ _ _ _ _ _ hP hD hS v4 (lv_sub hl [2, 3, 1, 0] rfl) (fun H locs ls hP hD hS hl => ?_)
  refine lv_lload_n hx hb dX5_paidUpTo_37 rfl (lv_at hl 0 rfl) ?_
  cases hf
  exact W.lret hx hb hr (fun t ht _ => gql hP hD hS ht) hS.2.2 dX5_paidUpTo_38
theorem ccX5_X5_sharesHeld {R : Room} {s : State} {args : Array Value} {c0 : Cond} (ht : ∀ w ∈ wq c0, w.before args s = true) (hR : rmX5_sharesHeld.frames + 1 ≤ R.frames ∧ 8 + (6 + 11) + rmX5_sharesHeld.locals ≤ R.locals) : CallW R s args RX5 RX5 209 yX5_sharesHeld cX5_sharesHeld 6 (some .long) (wq (.code yX5_sharesHeld cX5_sharesHeld 6 (some .long))) rmX5_sharesHeld 0 0 1 := gCW 1 ht wcX5_sharesHeld wmX5_209 wiX5_sharesHeld weX5_sharesHeld wnX5 (by decide +kernel) rfl rfl hR
abbrev rmX5_sharesWanted : Room := { frames := 3, cells := 0, slots := 0, locals := 68 }
set_option maxHeartbeats 4000000 in
set_option maxRecDepth 100000 in
theorem tX5_sharesWanted (l : Launch) (dC : Nat → ClassId) (dI : Nat → Nat → Nat) (dA : Nat → ClassId) (ad : Nat → Nat) (sz : Nat) {p1 : Int32} {c_tree_parts : Nat → Int32} {c_bond_terms : Nat → Int32} {c_penceByUps : Nat → Int64} {c_pence : Nat → Int64} {c_turned : Nat → Int64} {c_called : Nat → Int64} {c_hold : Nat → Int64} {c_value : Nat → Int64} {c_marks : Nat → Int32} {c_act : Nat → Int32} {c_rowOfKey : Nat → Int32} {r : Int64} (hf : fX5_sharesWanted p1 c_tree_parts c_pence c_value = some (r)) : Met l yX5_sharesWanted (wq (Cond.code yX5_sharesWanted cX5_sharesWanted 3 (some .long))) rmX5_sharesWanted (gP [.ref (ad 0), .int p1] (dC, dI) dA (wX5 dA ad c_tree_parts c_bond_terms c_penceByUps c_pence c_turned c_called c_hold c_value c_marks c_act c_rowOfKey) sz) (gQl (dC, dI) r (wX5 dA ad c_tree_parts c_bond_terms c_penceByUps c_pence c_turned c_called c_hold c_value c_marks c_act c_rowOfKey) (va_A (wX5 dA ad c_tree_parts c_bond_terms c_penceByUps c_pence c_turned c_called c_hold c_value c_marks c_act c_rowOfKey) sz)) 0 0 (va_A (wX5 dA ad c_tree_parts c_bond_terms c_penceByUps c_pence c_turned c_called c_hold c_value c_marks c_act c_rowOfKey) sz) := by
  refine Met.ofW (cc := cX5_sharesWanted) (maxL := 3) (ret := (some .long)) (by decide) rfl ?_
  intro p e s m args below meth c s₁ B hml hv
  obtain ⟨rfl, hsz, hP, hK, hD0⟩ := hv
  have hx := B.exec
  have hb := B.bytes
  have hr := B.returns
  have hts := atoms_spec (ws := wq (Cond.code yX5_sharesWanted cX5_sharesWanted 3 (some .long))) B.pre
  have hown : s.vm.findClass RX5 = some m.cls := findClass_of_methodNamed B.named
  have hlocks := B.notSynchronized
  clear B
  subst hsz
  have hD := hD0.self (sz := s.heap.size)
  generalize hAe : va_A (wX5 dA ad c_tree_parts c_bond_terms c_penceByUps c_pence c_turned c_called c_hold c_value c_marks c_act c_rowOfKey) s.heap.size = A at hD ⊢
  have hA : ∀ q : Nat, s.heap.size ≤ q → A q := fun q h => by rw [← hAe]; exact Or.inr h
  clear hAe hD0
  have hS : va_S A s.heap s.heap [] := va_S.rf
  have hl := lv_entry ([.ref (ad 0), .int p1]) (n := 3) (Nat.le_of_ble_eq_true rfl)
  rw [lg_entry_eq]
  generalize (lg_sl ([.ref (ad 0), .int p1]) ++ List.replicate (3 - (lg_sl ([.ref (ad 0), .int p1])).length) Slot.unset).toArray = ls at hl ⊢
  have hl : lv_has ls 3 [(0, .ref (ad 0)), (1, .int p1)] := hl
  change W p l e rmX5_sharesWanted s m ([.ref (ad 0), .int p1] : List Value).toArray below meth c s.heap [] 0 0 _ _
  unfold fX5_sharesWanted at hf
  refine lv_aload_n hx hb dX5_sharesWanted_0 rfl (lv_at hl 0 rfl) ?_
  refine lv_iload_n hx hb dX5_sharesWanted_1 rfl (lv_at hl 1 rfl) ?_
  refine lv_iconst (v := 1) hx hb dX5_sharesWanted_2 (by decide) ?_
  obtain ⟨r1, v2, hf⟩ := bd1_some hf
  refine gci0 (va_runSN (As := [.int p1, .int 1]) (rest := [.ref (ad 0)]) ⟨hx, hb, hml, hown, hts⟩ (tX8_longer l dC dI dA s.heap.size v2) (ccX5_X8_longer hK.2 hts ⟨Nat.le_of_ble_eq_true rfl, Nat.le_of_ble_eq_true rfl⟩) (gPreS0 hK) rfl rfl hl.1 rfl (lv_room (Nat.le_of_ble_eq_true rfl)) dX5_sharesWanted_3 ⟨Nat.le_of_ble_eq_true rfl, Nat.le_of_ble_eq_true rfl⟩) hP hS hA (fun H locs hP hS => ?_)
  obtain ⟨r3, v4, hf⟩ := bd1_some hf
  refine gcl (va_runV (As := [.int r1]) (rest := []) ⟨hx, hb, hml, hown, hts⟩ (tX5_penceAt l dC dI dA ad H.size v4) (ccX5_X5_penceAt hts ⟨Nat.le_of_ble_eq_true rfl, Nat.le_of_ble_eq_true rfl⟩) (gPreV (ci := 5) (q0 := 0) hP hK hD rfl rfl) rfl rfl hl.1 rfl (lv_room (Nat.le_of_ble_eq_true rfl)) dX5_sharesWanted_6 ⟨Nat.le_of_ble_eq_true rfl, Nat.le_of_ble_eq_true rfl⟩) hD hS hA (fun H locs hP hD hS => ?_)
  refine lv_aload_n hx hb dX5_sharesWanted_9 rfl (lv_at hl 0 rfl) ?_
  refine lv_iload_n hx hb dX5_sharesWanted_10 rfl (lv_at hl 1 rfl) ?_
  refine lv_iconst (v := 0) hx hb dX5_sharesWanted_11 (by decide) ?_
  obtain ⟨r5, v6, hf⟩ := bd1_some hf
  refine gci0 (va_runSN (As := [.int p1, .int 0]) (rest := [.ref (ad 0), .long r3]) ⟨hx, hb, hml, hown, hts⟩ (tX8_longer l dC dI dA H.size v6) (ccX5_X8_longer hK.2 hts ⟨Nat.le_of_ble_eq_true rfl, Nat.le_of_ble_eq_true rfl⟩) (gPreS0 hK) rfl rfl hl.1 rfl (lv_room (Nat.le_of_ble_eq_true rfl)) dX5_sharesWanted_12 ⟨Nat.le_of_ble_eq_true rfl, Nat.le_of_ble_eq_true rfl⟩) hP hS hA (fun H locs hP hS => ?_)
  obtain ⟨r7, v8, hf⟩ := bd1_some hf
  refine gcl (va_runV (As := [.int r5]) (rest := [.long r3]) ⟨hx, hb, hml, hown, hts⟩ (tX5_penceAt l dC dI dA ad H.size v8) (ccX5_X5_penceAt hts ⟨Nat.le_of_ble_eq_true rfl, Nat.le_of_ble_eq_true rfl⟩) (gPreV (ci := 5) (q0 := 0) hP hK hD rfl rfl) rfl rfl hl.1 rfl (lv_room (Nat.le_of_ble_eq_true rfl)) dX5_sharesWanted_15 ⟨Nat.le_of_ble_eq_true rfl, Nat.le_of_ble_eq_true rfl⟩) hD hS hA (fun H locs hP hD hS => ?_)
  refine W.lcmp hx hb dX5_sharesWanted_18 ?_
  obtain ⟨j10, v12, hf⟩ := bd1_some hf
  have J11 : ∀ (H : Heap) (locs : List Loc) (ls : Array Slot), va_P (dC, dI) vwCl (wX5 dA ad c_tree_parts c_bond_terms c_penceByUps c_pence c_turned c_called c_hold c_value c_marks c_act c_rowOfKey) H → va_D A (wX5 dA ad c_tree_parts c_bond_terms c_penceByUps c_pence c_turned c_called c_hold c_value c_marks c_act c_rowOfKey) → va_S A s.heap H locs → lv_has ls 3 [(0, .ref (ad 0)), (1, .int p1)] → W p l e rmX5_sharesWanted s m ([.ref (ad 0), .int p1] : List Value).toArray below meth c H locs 0 0 (MQ below (gQl (dC, dI) r (wX5 dA ad c_tree_parts c_bond_terms c_penceByUps c_pence c_turned c_called c_hold c_value c_marks c_act c_rowOfKey) A) ([.ref (ad 0), .int p1] : List Value).toArray s 0 0 A) (F0 m 27 ls [.int j10]) := by
    intro H locs ls hP hD hS hl
    refine lv_istore_n (lv' := [(2, .int j10), (0, .ref (ad 0)), (1, .int p1)]) hx hb dX5_sharesWanted_27 rfl hl (by decide) rfl (fun ls hl => ?_)
    refine lv_iload_n hx hb dX5_sharesWanted_28 rfl (lv_at hl 0 rfl) ?_
    obtain ⟨j14, v16, hf⟩ := bd1_some hf
    have J15 : ∀ (H : Heap) (locs : List Loc) (ls : Array Slot), va_P (dC, dI) vwCl (wX5 dA ad c_tree_parts c_bond_terms c_penceByUps c_pence c_turned c_called c_hold c_value c_marks c_act c_rowOfKey) H → va_D A (wX5 dA ad c_tree_parts c_bond_terms c_penceByUps c_pence c_turned c_called c_hold c_value c_marks c_act c_rowOfKey) → va_S A s.heap H locs → lv_has ls 3 [] → W p l e rmX5_sharesWanted s m ([.ref (ad 0), .int p1] : List Value).toArray below meth c H locs 0 0 (MQ below (gQl (dC, dI) r (wX5 dA ad c_tree_parts c_bond_terms c_penceByUps c_pence c_turned c_called c_hold c_value c_marks c_act c_rowOfKey) A) ([.ref (ad 0), .int p1] : List Value).toArray s 0 0 A) (F0 m 53 ls [.long j14]) := by
      intro H locs ls hP hD hS hl
      cases hf
      exact W.lret hx hb hr (fun t ht _ => gql hP hD hS ht) hS.2.2 dX5_sharesWanted_53
    replace hf := v16
    clear v16
    refine lv_if_eq (tgt := 36) hx hb dX5_sharesWanted_29 (by decide) (fun k13 => ?_) (fun k13 => ?_)
    · replace hf := ifp k13 hf
      refine lv_ldc2 (v := (-100000)) hx hb hown (hts _ (gw_mem wkX5_205)) dX5_sharesWanted_36 ?_
      refine lv_ldc2 (v := 100000) hx hb hown (hts _ (gw_mem wkX5_207)) dX5_sharesWanted_39 ?_
      refine lv_aload_n hx hb dX5_sharesWanted_42 rfl (lv_at hl 1 rfl) ?_
      refine lv_iload_n hx hb dX5_sharesWanted_43 rfl (lv_at hl 2 rfl) ?_
      obtain ⟨r17, v18, hf⟩ := bd1_some hf
      refine gcl (va_runV (As := [.int p1]) (rest := [.long 100000, .long (-100000)]) ⟨hx, hb, hml, hown, hts⟩ (tX5_sharesHeld l dC dI dA ad H.size v18) (ccX5_X5_sharesHeld hts ⟨Nat.le_of_ble_eq_true rfl, Nat.le_of_ble_eq_true rfl⟩) (gPreV (ci := 5) (q0 := 0) hP hK hD rfl rfl) rfl rfl hl.1 rfl (lv_room (Nat.le_of_ble_eq_true rfl)) dX5_sharesWanted_44 ⟨Nat.le_of_ble_eq_true rfl, Nat.le_of_ble_eq_true rfl⟩) hD hS hA (fun H locs hP hD hS => ?_)
      refine va_mmin_long hx hb (hml.trans hl.1.symm) hown (hts _ (gw_mem wmX5_212)) (hts _ (gw_mem wtJ9_min_f86c9)) (hts _ (gw_mem wnJ9)) (hts _ (gw_mem wcJ9_min_f86c9)) (Nat.le_of_ble_eq_true rfl) (Nat.le_of_ble_eq_true rfl) (Nat.le_of_ble_eq_true rfl) (Nat.le_of_ble_eq_true rfl) dX5_sharesWanted_47 ?_
      refine va_mmax_long hx hb (hml.trans hl.1.symm) hown (hts _ (gw_mem wmX5_134)) (hts _ (gw_mem wtJ9_max_f86c9)) (hts _ (gw_mem wnJ9)) (hts _ (gw_mem wcJ9_max_f86c9)) (Nat.le_of_ble_eq_true rfl) (Nat.le_of_ble_eq_true rfl) (Nat.le_of_ble_eq_true rfl) (Nat.le_of_ble_eq_true rfl) dX5_sharesWanted_50 ?_
      cases hf
      exact J15 _ _ _ hP hD hS (lv_sub hl [] rfl)
    · replace hf := ifn k13 hf
      refine lv_lconst (v := 0) hx hb dX5_sharesWanted_32 rfl ?_
      refine lv_goto (tgt := 53) hx hb dX5_sharesWanted_33 (by decide) ?_
      cases hf
      exact J15 _ _ _ hP hD hS (lv_sub hl [] rfl)
  replace hf := v12
  clear v12
  refine lv_if_ne (tgt := 26) hx hb dX5_sharesWanted_19 (by decide) (fun k9 => ?_) (fun k9 => ?_)
  · replace hf := ifn (fun h => k9 (lc_eq.mpr h)) hf
    refine lv_iconst (v := 0) hx hb dX5_sharesWanted_26 (by decide) ?_
    cases hf
    exact J11 _ _ _ hP hD hS (lv_sub hl [0, 1] rfl)
  · replace hf := ifp (lc_eq.mp k9) hf
    refine lv_iconst (v := 1) hx hb dX5_sharesWanted_22 (by decide) ?_
    refine lv_goto (tgt := 27) hx hb dX5_sharesWanted_23 (by decide) ?_
    cases hf
    exact J11 _ _ _ hP hD hS (lv_sub hl [0, 1] rfl)
theorem ccX5_X5_sharesWanted {R : Room} {s : State} {args : Array Value} {c0 : Cond} (ht : ∀ w ∈ wq c0, w.before args s = true) (hR : rmX5_sharesWanted.frames + 1 ≤ R.frames ∧ 8 + (3 + 11) + rmX5_sharesWanted.locals ≤ R.locals) : CallW R s args RX5 RX5 199 yX5_sharesWanted cX5_sharesWanted 3 (some .long) (wq (.code yX5_sharesWanted cX5_sharesWanted 3 (some .long))) rmX5_sharesWanted 0 0 1 := gCW 1 ht wcX5_sharesWanted wmX5_199 wiX5_sharesWanted weX5_sharesWanted wnX5 (by decide +kernel) rfl rfl hR
theorem ccX5_X7_get {R : Room} {s : State} {args : Array Value} {c0 : Cond} (ht : ∀ w ∈ wq c0, w.before args s = true) (hR : rmX7_get.frames + 1 ≤ R.frames ∧ 8 + (2 + 11) + rmX7_get.locals ≤ R.locals) : CallW R s args RX5 RX7 202 yX7_get cX7_get 2 (some .int) (wq (.code yX7_get cX7_get 2 (some .int))) rmX7_get 0 0 1 := gCW 1 ht wcX7_get wmX5_202 wiX7_get weX7_get wnX7 (by decide +kernel) rfl rfl hR
abbrev rmX5_hedgedAlong : Room := { frames := 4, cells := 0, slots := 0, locals := 90 }
set_option maxHeartbeats 4000000 in
set_option maxRecDepth 100000 in
theorem tX5_hedgedAlong (l : Launch) (dC : Nat → ClassId) (dI : Nat → Nat → Nat) (dA : Nat → ClassId) (ad : Nat → Nat) (sz : Nat) {p1 : Int32} {c_tree_parts : Nat → Int32} {c_bond_terms : Nat → Int32} {c_penceByUps : Nat → Int64} {c_pence : Nat → Int64} {c_turned : Nat → Int64} {c_called : Nat → Int64} {c_hold : Nat → Int64} {c_value : Nat → Int64} {c_marks : Nat → Int32} {c_act : Nat → Int32} {c_rowOfKey : Nat → Int32} {r : Int64} (hf : fX5_hedgedAlong p1 c_tree_parts c_bond_terms c_pence c_turned c_value c_act = some (r)) : Met l yX5_hedgedAlong (wq (Cond.code yX5_hedgedAlong cX5_hedgedAlong 10 (some .long))) rmX5_hedgedAlong (gP [.ref (ad 0), .int p1] (dC, dI) dA (wX5 dA ad c_tree_parts c_bond_terms c_penceByUps c_pence c_turned c_called c_hold c_value c_marks c_act c_rowOfKey) sz) (gQl (dC, dI) r (wX5 dA ad c_tree_parts c_bond_terms c_penceByUps c_pence c_turned c_called c_hold c_value c_marks c_act c_rowOfKey) (va_A (wX5 dA ad c_tree_parts c_bond_terms c_penceByUps c_pence c_turned c_called c_hold c_value c_marks c_act c_rowOfKey) sz)) 0 0 (va_A (wX5 dA ad c_tree_parts c_bond_terms c_penceByUps c_pence c_turned c_called c_hold c_value c_marks c_act c_rowOfKey) sz) := by
  refine Met.ofW (cc := cX5_hedgedAlong) (maxL := 10) (ret := (some .long)) (by decide) rfl ?_
  intro p e s m args below meth c s₁ B hml hv
  obtain ⟨rfl, hsz, hP, hK, hD0⟩ := hv
  have hx := B.exec
  have hb := B.bytes
  have hr := B.returns
  have hts := atoms_spec (ws := wq (Cond.code yX5_hedgedAlong cX5_hedgedAlong 10 (some .long))) B.pre
  have hown : s.vm.findClass RX5 = some m.cls := findClass_of_methodNamed B.named
  have hlocks := B.notSynchronized
  clear B
  subst hsz
  have hD := hD0.self (sz := s.heap.size)
  generalize hAe : va_A (wX5 dA ad c_tree_parts c_bond_terms c_penceByUps c_pence c_turned c_called c_hold c_value c_marks c_act c_rowOfKey) s.heap.size = A at hD ⊢
  have hA : ∀ q : Nat, s.heap.size ≤ q → A q := fun q h => by rw [← hAe]; exact Or.inr h
  clear hAe hD0
  have hS : va_S A s.heap s.heap [] := va_S.rf
  have hl := lv_entry ([.ref (ad 0), .int p1]) (n := 10) (Nat.le_of_ble_eq_true rfl)
  rw [lg_entry_eq]
  generalize (lg_sl ([.ref (ad 0), .int p1]) ++ List.replicate (10 - (lg_sl ([.ref (ad 0), .int p1])).length) Slot.unset).toArray = ls at hl ⊢
  have hl : lv_has ls 10 [(0, .ref (ad 0)), (1, .int p1)] := hl
  change W p l e rmX5_hedgedAlong s m ([.ref (ad 0), .int p1] : List Value).toArray below meth c s.heap [] 0 0 _ _
  generalize hQ : MQ below (gQl (dC, dI) r (wX5 dA ad c_tree_parts c_bond_terms c_penceByUps c_pence c_turned c_called c_hold c_value c_marks c_act c_rowOfKey) A) ([.ref (ad 0), .int p1] : List Value).toArray s 0 0 A = Q
  have LP12 : ∀ (n : Nat) (x1 : Int32) (c_tree_parts : Nat → Int32) (c_bond_terms : Nat → Int32) (c_pence : Nat → Int64) (c_value : Nat → Int64) (c_act : Nat → Int32) (c_penceByUps : Nat → Int64) (c_turned : Nat → Int64) (c_called : Nat → Int64) (c_hold : Nat → Int64) (c_marks : Nat → Int32) (c_rowOfKey : Nat → Int32) (x2 : Int64) (x4 : Int64) (x6 : Int32) (tgo : Nat) (o2 : Int64) (o4 : Int64) (o7 : Int32) (H : Heap) (locs : List Loc) (ls : Array Slot), va_P (dC, dI) vwCl (wX5 dA ad c_tree_parts c_bond_terms c_penceByUps c_pence c_turned c_called c_hold c_value c_marks c_act c_rowOfKey) H → va_D A (wX5 dA ad c_tree_parts c_bond_terms c_penceByUps c_pence c_turned c_called c_hold c_value c_marks c_act c_rowOfKey) → va_S A s.heap H locs → lpX5_hedgedAlong_12 x1 c_tree_parts c_bond_terms c_pence c_value c_act n x2 x4 x6 = some (tgo, o2, o4, o7) → lv_has ls 10 [(0, .ref (ad 0)), (1, .int x1), (2, .long x2), (4, .long x4), (6, .int x6)] → (tgo = 0 → ∀ (H : Heap) (locs : List Loc) (ls : Array Slot), va_P (dC, dI) vwCl (wX5 dA ad c_tree_parts c_bond_terms c_penceByUps c_pence c_turned c_called c_hold c_value c_marks c_act c_rowOfKey) H → va_D A (wX5 dA ad c_tree_parts c_bond_terms c_penceByUps c_pence c_turned c_called c_hold c_value c_marks c_act c_rowOfKey) → va_S A s.heap H locs → lv_has ls 10 [(0, .ref (ad 0)), (2, .long o2), (4, .long o4), (7, .int o7)] → W p l e rmX5_hedgedAlong s m ([.ref (ad 0), .int p1] : List Value).toArray below meth c H locs 0 0 Q (F0 m 51 ls [])) → (tgo = 1 → ∀ (H : Heap) (locs : List Loc) (ls : Array Slot), va_P (dC, dI) vwCl (wX5 dA ad c_tree_parts c_bond_terms c_penceByUps c_pence c_turned c_called c_hold c_value c_marks c_act c_rowOfKey) H → va_D A (wX5 dA ad c_tree_parts c_bond_terms c_penceByUps c_pence c_turned c_called c_hold c_value c_marks c_act c_rowOfKey) → va_S A s.heap H locs → lv_has ls 10 [] → W p l e rmX5_hedgedAlong s m ([.ref (ad 0), .int p1] : List Value).toArray below meth c H locs 0 0 Q (F0 m 132 ls [])) → W p l e rmX5_hedgedAlong s m ([.ref (ad 0), .int p1] : List Value).toArray below meth c H locs 0 0 Q (F0 m 12 ls []) := by
    intro n
    induction n with
    | zero =>
      intro x1 c_tree_parts c_bond_terms c_pence c_value c_act c_penceByUps c_turned c_called c_hold c_marks c_rowOfKey x2 x4 x6 tgo o2 o4 o7 H locs ls hP hD hS hf hl hk0 hk1
      cases hf
    | succ n ih12 =>
      intro x1 c_tree_parts c_bond_terms c_pence c_value c_act c_penceByUps c_turned c_called c_hold c_marks c_rowOfKey x2 x4 x6 tgo o2 o4 o7 H locs ls hP hD hS hf hl hk0 hk1
      rw [lpX5_hedgedAlong_12.eq_2] at hf
      refine lv_iload hx hb dX5_hedgedAlong_12 (lv_at hl 4 rfl) ?_
      refine lv_iload_n hx hb dX5_hedgedAlong_14 rfl (lv_at hl 1 rfl) ?_
      obtain ⟨r12, v13, hf⟩ := bd1_some hf
      refine gci0 (va_runSN (As := [.int x1]) (rest := [.int x6]) ⟨hx, hb, hml, hown, hts⟩ (tX8_dayOf l dC dI dA H.size v13) (ccX5_X8_dayOf hK.2 hts ⟨Nat.le_of_ble_eq_true rfl, Nat.le_of_ble_eq_true rfl⟩) (gPreS0 hK) rfl rfl hl.1 rfl (lv_room (Nat.le_of_ble_eq_true rfl)) dX5_hedgedAlong_15 ⟨Nat.le_of_ble_eq_true rfl, Nat.le_of_ble_eq_true rfl⟩) hP hS hA (fun H locs hP hS => ?_)
      refine lv_icmp_gt (tgt := 132) hx hb dX5_hedgedAlong_18 (by decide) (fun k14 => ?_) (fun k14 => ?_)
      · replace hf := ifp k14 hf
        cases hf
        exact hk1 rfl _ _ _ hP hD hS (lv_sub hl [] rfl)
      · replace hf := ifn k14 hf
        refine lv_iload_n hx hb dX5_hedgedAlong_21 rfl (lv_at hl 1 rfl) ?_
        refine lv_iload hx hb dX5_hedgedAlong_22 (lv_at hl 4 rfl) ?_
        obtain ⟨r15, v16, hf⟩ := bd1_some hf
        refine gci0 (va_runSN (As := [.int x1, .int x6]) (rest := []) ⟨hx, hb, hml, hown, hts⟩ (tX8_rowOnDay l dC dI dA H.size v16) (ccX5_X8_rowOnDay hK.2 hts ⟨Nat.le_of_ble_eq_true rfl, Nat.le_of_ble_eq_true rfl⟩) (gPreS0 hK) rfl rfl hl.1 rfl (lv_room (Nat.le_of_ble_eq_true rfl)) dX5_hedgedAlong_24 ⟨Nat.le_of_ble_eq_true rfl, Nat.le_of_ble_eq_true rfl⟩) hP hS hA (fun H locs hP hS => ?_)
        refine lv_istore (lv' := [(7, .int r15), (0, .ref (ad 0)), (1, .int x1), (2, .long x2), (4, .long x4), (6, .int x6)]) hx hb dX5_hedgedAlong_27 hl (by decide) rfl (fun ls hl => ?_)
        refine lv_lload_n hx hb dX5_hedgedAlong_29 rfl (lv_at hl 3 rfl) ?_
        refine lv_aload_n hx hb dX5_hedgedAlong_30 rfl (lv_at hl 1 rfl) ?_
        refine va_get (D := (dC, dI)) (ci := 5) (v := .ref (ad 3)) (C := RX5) (T := TX5) (N := 11) hx hb hts (fun w h => gw_mem (inX5 w h)) hown hK.1 hP 0 rfl rfl 1 (by decide) (hts _ (gw_mem wfX5_21)) (fun _ h9 => h9) rfl dX5_hedgedAlong_31 ?_
        refine lv_iload hx hb dX5_hedgedAlong_34 (lv_at hl 5 rfl) ?_
        obtain ⟨r17, v18, hf⟩ := bd1_some hf
        have z19 := sg1 (ws := (wX5 dA ad c_tree_parts c_bond_terms c_penceByUps c_pence c_turned c_called c_hold c_value c_marks c_act c_rowOfKey)) (s0 := ((wX5 dA ad c_tree_parts c_bond_terms c_penceByUps c_pence c_turned c_called c_hold c_value c_marks c_act c_rowOfKey)).take 3) (s1 := ((wX5 dA ad c_tree_parts c_bond_terms c_penceByUps c_pence c_turned c_called c_hold c_value c_marks c_act c_rowOfKey)).drop 5) (x1 := (wX0 dA (fun i => ad (i + 3)) c_bond_terms)) rfl
        refine gpi (wf := (wX5 dA ad c_tree_parts c_bond_terms c_penceByUps c_pence c_turned c_called c_hold c_value c_marks c_act c_rowOfKey)) (va_runV (As := [.int x6]) (rest := [.long x2]) ⟨hx, hb, hml, hown, hts⟩ (tX0_couponOn l dC dI dA (fun i => ad (i + 3)) H.size v18) (ccX5_X0_couponOn hts ⟨Nat.le_of_ble_eq_true rfl, Nat.le_of_ble_eq_true rfl⟩) (gPreV (ci := 1) (q0 := 0) (psub z19 hP) hK (psubD z19 hD) rfl rfl) rfl rfl hl.1 rfl (lv_room (Nat.le_of_ble_eq_true rfl)) dX5_hedgedAlong_36 ⟨Nat.le_of_ble_eq_true rfl, Nat.le_of_ble_eq_true rfl⟩) hP hD hS hA z19 (sg1 (s0 := ((wX5 dA ad c_tree_parts c_bond_terms c_penceByUps c_pence c_turned c_called c_hold c_value c_marks c_act c_rowOfKey)).take 3) (s1 := ((wX5 dA ad c_tree_parts c_bond_terms c_penceByUps c_pence c_turned c_called c_hold c_value c_marks c_act c_rowOfKey)).drop 5) (x1 := (wX0 dA (fun i => ad (i + 3)) c_bond_terms)) rfl) (fun H locs hP hD hS => ?_)
        refine lv_i2l hx hb dX5_hedgedAlong_39 rfl ?_
        refine lv_lsub hx hb dX5_hedgedAlong_40 ?_
        refine lv_topl (fun w20 ew20 => ?_)
        replace hf := nm_at hf ew20
        refine lv_lstore_n (lv' := [(2, .long w20), (7, .int r15), (0, .ref (ad 0)), (1, .int x1), (4, .long x4), (6, .int x6)]) hx hb dX5_hedgedAlong_41 rfl hl (by decide) rfl (fun ls hl => ?_)
        refine lv_aload_n hx hb dX5_hedgedAlong_42 rfl (lv_at hl 2 rfl) ?_
        refine lv_iload hx hb dX5_hedgedAlong_43 (lv_at hl 1 rfl) ?_
        obtain ⟨r21, v22, hf⟩ := bd1_some hf
        refine gci (va_runV (As := [.int r15]) (rest := []) ⟨hx, hb, hml, hown, hts⟩ (tX5_actAt l dC dI dA ad H.size v22) (ccX5_X5_actAt hts ⟨Nat.le_of_ble_eq_true rfl, Nat.le_of_ble_eq_true rfl⟩) (gPreV (ci := 5) (q0 := 0) hP hK hD rfl rfl) rfl rfl hl.1 rfl (lv_room (Nat.le_of_ble_eq_true rfl)) dX5_hedgedAlong_45 ⟨Nat.le_of_ble_eq_true rfl, Nat.le_of_ble_eq_true rfl⟩) hD hS hA (fun H locs hP hD hS => ?_)
        refine lv_if_eq (tgt := 74) hx hb dX5_hedgedAlong_48 (by decide) (fun k23 => ?_) (fun k23 => ?_)
        · replace hf := ifp k23 hf
          refine lv_aload_n hx hb dX5_hedgedAlong_74 rfl (lv_at hl 2 rfl) ?_
          refine lv_iload hx hb dX5_hedgedAlong_75 (lv_at hl 1 rfl) ?_
          obtain ⟨r24, v25, hf⟩ := bd1_some hf
          refine gcl (va_runV (As := [.int r15]) (rest := []) ⟨hx, hb, hml, hown, hts⟩ (tX5_sharesWanted l dC dI dA ad H.size v25) (ccX5_X5_sharesWanted hts ⟨Nat.le_of_ble_eq_true rfl, Nat.le_of_ble_eq_true rfl⟩) (gPreV (ci := 5) (q0 := 0) hP hK hD rfl rfl) rfl rfl hl.1 rfl (lv_room (Nat.le_of_ble_eq_true rfl)) dX5_hedgedAlong_77 ⟨Nat.le_of_ble_eq_true rfl, Nat.le_of_ble_eq_true rfl⟩) hD hS hA (fun H locs hP hD hS => ?_)
          refine lv_lstore (lv' := [(8, .long r24), (2, .long w20), (7, .int r15), (0, .ref (ad 0)), (1, .int x1), (4, .long x4), (6, .int x6)]) hx hb dX5_hedgedAlong_80 hl (by decide) rfl (fun ls hl => ?_)
          refine lv_lload_n hx hb dX5_hedgedAlong_82 rfl (lv_at hl 1 rfl) ?_
          refine lv_lload hx hb dX5_hedgedAlong_83 (lv_at hl 0 rfl) ?_
          refine lv_lload hx hb dX5_hedgedAlong_85 (lv_at hl 5 rfl) ?_
          refine lv_lsub hx hb dX5_hedgedAlong_87 ?_
          refine lv_aload_n hx hb dX5_hedgedAlong_88 rfl (lv_at hl 3 rfl) ?_
          refine lv_iload hx hb dX5_hedgedAlong_89 (lv_at hl 2 rfl) ?_
          obtain ⟨r26, v27, hf⟩ := bd1_some hf
          refine gcl (va_runV (As := [.int r15]) (rest := [.long (r24 - x4), .long w20]) ⟨hx, hb, hml, hown, hts⟩ (tX5_penceAt l dC dI dA ad H.size v27) (ccX5_X5_penceAt hts ⟨Nat.le_of_ble_eq_true rfl, Nat.le_of_ble_eq_true rfl⟩) (gPreV (ci := 5) (q0 := 0) hP hK hD rfl rfl) rfl rfl hl.1 rfl (lv_room (Nat.le_of_ble_eq_true rfl)) dX5_hedgedAlong_91 ⟨Nat.le_of_ble_eq_true rfl, Nat.le_of_ble_eq_true rfl⟩) hD hS hA (fun H locs hP hD hS => ?_)
          refine lv_lmul hx hb dX5_hedgedAlong_94 ?_
          refine lv_ldc2 (v := 1000) hx hb hown (hts _ (gw_mem wkX5_188)) dX5_hedgedAlong_95 ?_
          refine lv_ldiv hx hb dX5_hedgedAlong_98 (by decide) ?_
          refine lv_lsub hx hb dX5_hedgedAlong_99 ?_
          refine lv_topl (fun w28 ew28 => ?_)
          replace hf := nm_at hf ew28
          refine lv_lstore_n (lv' := [(2, .long w28), (8, .long r24), (7, .int r15), (0, .ref (ad 0)), (1, .int x1), (4, .long x4), (6, .int x6)]) hx hb dX5_hedgedAlong_100 rfl hl (by decide) rfl (fun ls hl => ?_)
          refine lv_lload hx hb dX5_hedgedAlong_101 (lv_at hl 1 rfl) ?_
          refine lv_lstore (lv' := [(4, .long r24), (2, .long w28), (8, .long r24), (7, .int r15), (0, .ref (ad 0)), (1, .int x1), (6, .int x6)]) hx hb dX5_hedgedAlong_103 hl (by decide) rfl (fun ls hl => ?_)
          refine lv_lload_n hx hb dX5_hedgedAlong_105 rfl (lv_at hl 1 rfl) ?_
          refine lv_sipush (v := 1000) hx hb dX5_hedgedAlong_106 (by decide) ?_
          refine lv_aload_n hx hb dX5_hedgedAlong_109 rfl (lv_at hl 4 rfl) ?_
          refine va_get (D := (dC, dI)) (ci := 5) (v := .ref (ad 1)) (C := RX5) (T := TX5) (N := 11) hx hb hts (fun w h => gw_mem (inX5 w h)) hown hK.1 hP 0 rfl rfl 0 (by decide) (hts _ (gw_mem wfX5_12)) (fun _ h9 => h9) rfl dX5_hedgedAlong_110 ?_
          refine lv_bipush (v := 8) hx hb dX5_hedgedAlong_113 (by decide) ?_
          obtain ⟨r29, v30, hf⟩ := bd1_some hf
          have z31 := sg1 (ws := (wX5 dA ad c_tree_parts c_bond_terms c_penceByUps c_pence c_turned c_called c_hold c_value c_marks c_act c_rowOfKey)) (s0 := ((wX5 dA ad c_tree_parts c_bond_terms c_penceByUps c_pence c_turned c_called c_hold c_value c_marks c_act c_rowOfKey)).take 1) (s1 := ((wX5 dA ad c_tree_parts c_bond_terms c_penceByUps c_pence c_turned c_called c_hold c_value c_marks c_act c_rowOfKey)).drop 3) (x1 := (wX7 dA (fun i => ad (i + 1)) c_tree_parts)) rfl
          refine gpi (wf := (wX5 dA ad c_tree_parts c_bond_terms c_penceByUps c_pence c_turned c_called c_hold c_value c_marks c_act c_rowOfKey)) (va_runV (As := [.int 8]) (rest := [.int 1000, .long w28]) ⟨hx, hb, hml, hown, hts⟩ (tX7_get l dC dI dA (fun i => ad (i + 1)) H.size v30) (ccX5_X7_get hts ⟨Nat.le_of_ble_eq_true rfl, Nat.le_of_ble_eq_true rfl⟩) (gPreV (ci := 7) (q0 := 0) (psub z31 hP) hK (psubD z31 hD) rfl rfl) rfl rfl hl.1 rfl (lv_room (Nat.le_of_ble_eq_true rfl)) dX5_hedgedAlong_115 ⟨Nat.le_of_ble_eq_true rfl, Nat.le_of_ble_eq_true rfl⟩) hP hD hS hA z31 (sg1 (s0 := ((wX5 dA ad c_tree_parts c_bond_terms c_penceByUps c_pence c_turned c_called c_hold c_value c_marks c_act c_rowOfKey)).take 1) (s1 := ((wX5 dA ad c_tree_parts c_bond_terms c_penceByUps c_pence c_turned c_called c_hold c_value c_marks c_act c_rowOfKey)).drop 3) (x1 := (wX7 dA (fun i => ad (i + 1)) c_tree_parts)) rfl) (fun H locs hP hD hS => ?_)
          refine lv_iadd hx hb dX5_hedgedAlong_118 ?_
          refine lv_i2l hx hb dX5_hedgedAlong_119 rfl ?_
          refine lv_lmul hx hb dX5_hedgedAlong_120 ?_
          refine lv_ldc2 (v := 1000) hx hb hown (hts _ (gw_mem wkX5_188)) dX5_hedgedAlong_121 ?_
          refine lv_ldiv hx hb dX5_hedgedAlong_124 (by decide) ?_
          refine lv_topl (fun w32 ew32 => ?_)
          replace hf := nm_at hf ew32
          refine lv_lstore_n (lv' := [(2, .long w32), (4, .long r24), (8, .long r24), (7, .int r15), (0, .ref (ad 0)), (1, .int x1), (6, .int x6)]) hx hb dX5_hedgedAlong_125 rfl hl (by decide) rfl (fun ls hl => ?_)
          obtain ⟨w33, ew33⟩ : ∃ y : Int32, y = x6 + 1 := ⟨_, rfl⟩
          replace hf := nm_at hf ew33
          refine lv_iinc (v := w33) (lv' := [(6, .int w33), (2, .long w32), (4, .long r24), (8, .long r24), (7, .int r15), (0, .ref (ad 0)), (1, .int x1)]) hx hb dX5_hedgedAlong_126 hl (k := 6) rfl (by rw [ew33]; rfl) (by decide) rfl (fun ls hl => ?_)
          refine lv_goto (tgt := 12) hx hb dX5_hedgedAlong_129 (by decide) ?_
          exact ih12 _ _ _ _ _ _ _ _ _ _ _ _ _ _ _ _ _ _ _ _ _ _ hP hD hS hf (lv_sub hl [5, 6, 1, 2, 0] rfl) hk0 hk1
        · replace hf := ifn k23 hf
          cases hf
          exact hk0 rfl _ _ _ hP hD hS (lv_sub hl [2, 0, 4, 1] rfl)
  subst hQ
  unfold fX5_hedgedAlong at hf
  refine lv_aload_n hx hb dX5_hedgedAlong_0 rfl (lv_at hl 0 rfl) ?_
  refine lv_iconst (v := 1) hx hb dX5_hedgedAlong_1 (by decide) ?_
  obtain ⟨r1, v2, hf⟩ := bd1_some hf
  refine gcl (va_runV (As := [.int 1]) (rest := []) ⟨hx, hb, hml, hown, hts⟩ (tX5_valueAt l dC dI dA ad s.heap.size v2) (ccX5_X5_valueAt hts ⟨Nat.le_of_ble_eq_true rfl, Nat.le_of_ble_eq_true rfl⟩) (gPreV (ci := 5) (q0 := 0) hP hK hD rfl rfl) rfl rfl hl.1 rfl (lv_room (Nat.le_of_ble_eq_true rfl)) dX5_hedgedAlong_2 ⟨Nat.le_of_ble_eq_true rfl, Nat.le_of_ble_eq_true rfl⟩) hD hS hA (fun H locs hP hD hS => ?_)
  refine lv_lstore_n (lv' := [(2, .long r1), (0, .ref (ad 0)), (1, .int p1)]) hx hb dX5_hedgedAlong_5 rfl hl (by decide) rfl (fun ls hl => ?_)
  refine lv_lconst (v := 0) hx hb dX5_hedgedAlong_6 rfl ?_
  refine lv_lstore (lv' := [(4, .long 0), (2, .long r1), (0, .ref (ad 0)), (1, .int p1)]) hx hb dX5_hedgedAlong_7 hl (by decide) rfl (fun ls hl => ?_)
  refine lv_iconst (v := 0) hx hb dX5_hedgedAlong_9 (by decide) ?_
  refine lv_istore (lv' := [(6, .int 0), (4, .long 0), (2, .long r1), (0, .ref (ad 0)), (1, .int p1)]) hx hb dX5_hedgedAlong_10 hl (by decide) rfl (fun ls hl => ?_)
  obtain ⟨tg3, x4, x5, x6, v7, hf⟩ := bd4_some hf
  refine LP12 FU _ _ _ _ _ _ _ _ _ _ _ _ _ _ _ _ _ _ _ _ _ _ hP hD hS v7 (lv_sub hl [3, 4, 2, 1, 0] rfl) (fun etg3 H locs ls hP hD hS hl => ?_) (fun etg3 H locs ls hP hD hS hl => ?_)
  · replace hf := ifp etg3 hf
    refine lv_lload_n hx hb dX5_hedgedAlong_51 rfl (lv_at hl 1 rfl) ?_
    refine lv_lload hx hb dX5_hedgedAlong_52 (lv_at hl 2 rfl) ?_
    refine lv_aload_n hx hb dX5_hedgedAlong_54 rfl (lv_at hl 0 rfl) ?_
    refine lv_iload hx hb dX5_hedgedAlong_55 (lv_at hl 3 rfl) ?_
    obtain ⟨r8, v9, hf⟩ := bd1_some hf
    refine gcl (va_runV (As := [.int x6]) (rest := [.long x5, .long x4]) ⟨hx, hb, hml, hown, hts⟩ (tX5_penceAt l dC dI dA ad H.size v9) (ccX5_X5_penceAt hts ⟨Nat.le_of_ble_eq_true rfl, Nat.le_of_ble_eq_true rfl⟩) (gPreV (ci := 5) (q0 := 0) hP hK hD rfl rfl) rfl rfl hl.1 rfl (lv_room (Nat.le_of_ble_eq_true rfl)) dX5_hedgedAlong_57 ⟨Nat.le_of_ble_eq_true rfl, Nat.le_of_ble_eq_true rfl⟩) hD hS hA (fun H locs hP hD hS => ?_)
    refine lv_lmul hx hb dX5_hedgedAlong_60 ?_
    refine lv_ldc2 (v := 1000) hx hb hown (hts _ (gw_mem wkX5_188)) dX5_hedgedAlong_61 ?_
    refine lv_ldiv hx hb dX5_hedgedAlong_64 (by decide) ?_
    refine lv_ladd hx hb dX5_hedgedAlong_65 ?_
    refine lv_aload_n hx hb dX5_hedgedAlong_66 rfl (lv_at hl 0 rfl) ?_
    refine lv_iload hx hb dX5_hedgedAlong_67 (lv_at hl 3 rfl) ?_
    obtain ⟨r10, v11, hf⟩ := bd1_some hf
    refine gcl (va_runV (As := [.int x6]) (rest := [.long (x4 + ((x5 * r8) / 1000))]) ⟨hx, hb, hml, hown, hts⟩ (tX5_paidByAct l dC dI dA ad H.size v11) (ccX5_X5_paidByAct hts ⟨Nat.le_of_ble_eq_true rfl, Nat.le_of_ble_eq_true rfl⟩) (gPreV (ci := 5) (q0 := 0) hP hK hD rfl rfl) rfl rfl hl.1 rfl (lv_room (Nat.le_of_ble_eq_true rfl)) dX5_hedgedAlong_69 ⟨Nat.le_of_ble_eq_true rfl, Nat.le_of_ble_eq_true rfl⟩) hD hS hA (fun H locs hP hD hS => ?_)
    refine lv_lsub hx hb dX5_hedgedAlong_72 ?_
    cases hf
    exact W.lret hx hb hr (fun t ht _ => gql hP hD hS ht) hS.2.2 dX5_hedgedAlong_73
  · replace hf := ifn (c := tg3 = 0) (by rw [etg3]; decide) hf
    refine lv_ldc2 (v := (-2)) hx hb hown (hts _ (gw_mem wkX5_75)) dX5_hedgedAlong_132 ?_
    cases hf
    exact W.lret hx hb hr (fun t ht _ => gql hP hD hS ht) hS.2.2 dX5_hedgedAlong_135
abbrev rmX5_isComeTo : Room := { frames := 2, cells := 0, slots := 0, locals := 44 }
set_option maxHeartbeats 4000000 in
set_option maxRecDepth 100000 in
theorem tX5_isComeTo (l : Launch) (dC : Nat → ClassId) (dI : Nat → Nat → Nat) (dA : Nat → ClassId) (ad : Nat → Nat) (sz : Nat) {p1 : Int32} {c_tree_parts : Nat → Int32} {c_bond_terms : Nat → Int32} {c_penceByUps : Nat → Int64} {c_pence : Nat → Int64} {c_turned : Nat → Int64} {c_called : Nat → Int64} {c_hold : Nat → Int64} {c_value : Nat → Int64} {c_marks : Nat → Int32} {c_act : Nat → Int32} {c_rowOfKey : Nat → Int32} {r : Int32} (hf : fX5_isComeTo p1 c_act = some (r)) : Met l yX5_isComeTo (wq (Cond.code yX5_isComeTo cX5_isComeTo 3 (some .boolean))) rmX5_isComeTo (gP [.ref (ad 0), .int p1] (dC, dI) dA (wX5 dA ad c_tree_parts c_bond_terms c_penceByUps c_pence c_turned c_called c_hold c_value c_marks c_act c_rowOfKey) sz) (gQi (dC, dI) r (wX5 dA ad c_tree_parts c_bond_terms c_penceByUps c_pence c_turned c_called c_hold c_value c_marks c_act c_rowOfKey) (va_A (wX5 dA ad c_tree_parts c_bond_terms c_penceByUps c_pence c_turned c_called c_hold c_value c_marks c_act c_rowOfKey) sz)) 0 0 (va_A (wX5 dA ad c_tree_parts c_bond_terms c_penceByUps c_pence c_turned c_called c_hold c_value c_marks c_act c_rowOfKey) sz) := by
  refine Met.ofW (cc := cX5_isComeTo) (maxL := 3) (ret := (some .boolean)) (by decide) rfl ?_
  intro p e s m args below meth c s₁ B hml hv
  obtain ⟨rfl, hsz, hP, hK, hD0⟩ := hv
  have hx := B.exec
  have hb := B.bytes
  have hr := B.returns
  have hts := atoms_spec (ws := wq (Cond.code yX5_isComeTo cX5_isComeTo 3 (some .boolean))) B.pre
  have hown : s.vm.findClass RX5 = some m.cls := findClass_of_methodNamed B.named
  have hlocks := B.notSynchronized
  clear B
  subst hsz
  have hD := hD0.self (sz := s.heap.size)
  generalize hAe : va_A (wX5 dA ad c_tree_parts c_bond_terms c_penceByUps c_pence c_turned c_called c_hold c_value c_marks c_act c_rowOfKey) s.heap.size = A at hD ⊢
  have hA : ∀ q : Nat, s.heap.size ≤ q → A q := fun q h => by rw [← hAe]; exact Or.inr h
  clear hAe hD0
  have hS : va_S A s.heap s.heap [] := va_S.rf
  have hl := lv_entry ([.ref (ad 0), .int p1]) (n := 3) (Nat.le_of_ble_eq_true rfl)
  rw [lg_entry_eq]
  generalize (lg_sl ([.ref (ad 0), .int p1]) ++ List.replicate (3 - (lg_sl ([.ref (ad 0), .int p1])).length) Slot.unset).toArray = ls at hl ⊢
  have hl : lv_has ls 3 [(0, .ref (ad 0)), (1, .int p1)] := hl
  change W p l e rmX5_isComeTo s m ([.ref (ad 0), .int p1] : List Value).toArray below meth c s.heap [] 0 0 _ _
  generalize hQ : MQ below (gQi (dC, dI) r (wX5 dA ad c_tree_parts c_bond_terms c_penceByUps c_pence c_turned c_called c_hold c_value c_marks c_act c_rowOfKey) A) ([.ref (ad 0), .int p1] : List Value).toArray s 0 0 A = Q
  have LP2 : ∀ (n : Nat) (x1 : Int32) (c_act : Nat → Int32) (c_tree_parts : Nat → Int32) (c_bond_terms : Nat → Int32) (c_penceByUps : Nat → Int64) (c_pence : Nat → Int64) (c_turned : Nat → Int64) (c_called : Nat → Int64) (c_hold : Nat → Int64) (c_value : Nat → Int64) (c_marks : Nat → Int32) (c_rowOfKey : Nat → Int32) (x2 : Int32) (tgo : Nat) (H : Heap) (locs : List Loc) (ls : Array Slot), va_P (dC, dI) vwCl (wX5 dA ad c_tree_parts c_bond_terms c_penceByUps c_pence c_turned c_called c_hold c_value c_marks c_act c_rowOfKey) H → va_D A (wX5 dA ad c_tree_parts c_bond_terms c_penceByUps c_pence c_turned c_called c_hold c_value c_marks c_act c_rowOfKey) → va_S A s.heap H locs → lpX5_isComeTo_2 x1 c_act n x2 = some (tgo) → lv_has ls 3 [(0, .ref (ad 0)), (1, .int x1), (2, .int x2)] → (tgo = 0 → ∀ (H : Heap) (locs : List Loc) (ls : Array Slot), va_P (dC, dI) vwCl (wX5 dA ad c_tree_parts c_bond_terms c_penceByUps c_pence c_turned c_called c_hold c_value c_marks c_act c_rowOfKey) H → va_D A (wX5 dA ad c_tree_parts c_bond_terms c_penceByUps c_pence c_turned c_called c_hold c_value c_marks c_act c_rowOfKey) → va_S A s.heap H locs → lv_has ls 3 [] → W p l e rmX5_isComeTo s m ([.ref (ad 0), .int p1] : List Value).toArray below meth c H locs 0 0 Q (F0 m 22 ls [])) → (tgo = 1 → ∀ (H : Heap) (locs : List Loc) (ls : Array Slot), va_P (dC, dI) vwCl (wX5 dA ad c_tree_parts c_bond_terms c_penceByUps c_pence c_turned c_called c_hold c_value c_marks c_act c_rowOfKey) H → va_D A (wX5 dA ad c_tree_parts c_bond_terms c_penceByUps c_pence c_turned c_called c_hold c_value c_marks c_act c_rowOfKey) → va_S A s.heap H locs → lv_has ls 3 [] → W p l e rmX5_isComeTo s m ([.ref (ad 0), .int p1] : List Value).toArray below meth c H locs 0 0 Q (F0 m 30 ls [])) → W p l e rmX5_isComeTo s m ([.ref (ad 0), .int p1] : List Value).toArray below meth c H locs 0 0 Q (F0 m 2 ls []) := by
    intro n
    induction n with
    | zero =>
      intro x1 c_act c_tree_parts c_bond_terms c_penceByUps c_pence c_turned c_called c_hold c_value c_marks c_rowOfKey x2 tgo H locs ls hP hD hS hf hl hk0 hk1
      cases hf
    | succ n ih2 =>
      intro x1 c_act c_tree_parts c_bond_terms c_penceByUps c_pence c_turned c_called c_hold c_value c_marks c_rowOfKey x2 tgo H locs ls hP hD hS hf hl hk0 hk1
      rw [lpX5_isComeTo_2.eq_2] at hf
      refine lv_iload_n hx hb dX5_isComeTo_2 rfl (lv_at hl 2 rfl) ?_
      refine lv_iload_n hx hb dX5_isComeTo_3 rfl (lv_at hl 1 rfl) ?_
      obtain ⟨r3, v4, hf⟩ := bd1_some hf
      refine gci0 (va_runSN (As := [.int x1]) (rest := [.int x2]) ⟨hx, hb, hml, hown, hts⟩ (tX8_dayOf l dC dI dA H.size v4) (ccX5_X8_dayOf hK.2 hts ⟨Nat.le_of_ble_eq_true rfl, Nat.le_of_ble_eq_true rfl⟩) (gPreS0 hK) rfl rfl hl.1 rfl (lv_room (Nat.le_of_ble_eq_true rfl)) dX5_isComeTo_4 ⟨Nat.le_of_ble_eq_true rfl, Nat.le_of_ble_eq_true rfl⟩) hP hS hA (fun H locs hP hS => ?_)
      refine lv_icmp_ge (tgt := 30) hx hb dX5_isComeTo_7 (by decide) (fun k5 => ?_) (fun k5 => ?_)
      · replace hf := ifp k5 hf
        cases hf
        exact hk1 rfl _ _ _ hP hD hS (lv_sub hl [] rfl)
      · replace hf := ifn k5 hf
        refine lv_aload_n hx hb dX5_isComeTo_10 rfl (lv_at hl 0 rfl) ?_
        refine lv_iload_n hx hb dX5_isComeTo_11 rfl (lv_at hl 1 rfl) ?_
        refine lv_iload_n hx hb dX5_isComeTo_12 rfl (lv_at hl 2 rfl) ?_
        obtain ⟨r6, v7, hf⟩ := bd1_some hf
        refine gci0 (va_runSN (As := [.int x1, .int x2]) (rest := [.ref (ad 0)]) ⟨hx, hb, hml, hown, hts⟩ (tX8_rowOnDay l dC dI dA H.size v7) (ccX5_X8_rowOnDay hK.2 hts ⟨Nat.le_of_ble_eq_true rfl, Nat.le_of_ble_eq_true rfl⟩) (gPreS0 hK) rfl rfl hl.1 rfl (lv_room (Nat.le_of_ble_eq_true rfl)) dX5_isComeTo_13 ⟨Nat.le_of_ble_eq_true rfl, Nat.le_of_ble_eq_true rfl⟩) hP hS hA (fun H locs hP hS => ?_)
        obtain ⟨r8, v9, hf⟩ := bd1_some hf
        refine gci (va_runV (As := [.int r6]) (rest := []) ⟨hx, hb, hml, hown, hts⟩ (tX5_actAt l dC dI dA ad H.size v9) (ccX5_X5_actAt hts ⟨Nat.le_of_ble_eq_true rfl, Nat.le_of_ble_eq_true rfl⟩) (gPreV (ci := 5) (q0 := 0) hP hK hD rfl rfl) rfl rfl hl.1 rfl (lv_room (Nat.le_of_ble_eq_true rfl)) dX5_isComeTo_16 ⟨Nat.le_of_ble_eq_true rfl, Nat.le_of_ble_eq_true rfl⟩) hD hS hA (fun H locs hP hD hS => ?_)
        refine lv_if_eq (tgt := 24) hx hb dX5_isComeTo_19 (by decide) (fun k10 => ?_) (fun k10 => ?_)
        · replace hf := ifp k10 hf
          obtain ⟨w11, ew11⟩ : ∃ y : Int32, y = x2 + 1 := ⟨_, rfl⟩
          replace hf := nm_at hf ew11
          refine lv_iinc (v := w11) (lv' := [(2, .int w11), (0, .ref (ad 0)), (1, .int x1)]) hx hb dX5_isComeTo_24 hl (k := 2) rfl (by rw [ew11]; rfl) (by decide) rfl (fun ls hl => ?_)
          refine lv_goto (tgt := 2) hx hb dX5_isComeTo_27 (by decide) ?_
          exact ih2 _ _ _ _ _ _ _ _ _ _ _ _ _ _ _ _ _ hP hD hS hf (lv_sub hl [1, 2, 0] rfl) hk0 hk1
        · replace hf := ifn k10 hf
          cases hf
          exact hk0 rfl _ _ _ hP hD hS (lv_sub hl [] rfl)
  subst hQ
  unfold fX5_isComeTo at hf
  refine lv_iconst (v := 0) hx hb dX5_isComeTo_0 (by decide) ?_
  refine lv_istore_n (lv' := [(2, .int 0), (0, .ref (ad 0)), (1, .int p1)]) hx hb dX5_isComeTo_1 rfl hl (by decide) rfl (fun ls hl => ?_)
  obtain ⟨tg1, v2, hf⟩ := bd1_some hf
  refine LP2 FU _ _ _ _ _ _ _ _ _ _ _ _ _ _ _ _ _ hP hD hS v2 (lv_sub hl [1, 2, 0] rfl) (fun etg1 H locs ls hP hD hS hl => ?_) (fun etg1 H locs ls hP hD hS hl => ?_)
  · replace hf := ifp etg1 hf
    refine lv_iconst (v := 0) hx hb dX5_isComeTo_22 (by decide) ?_
    cases hf
    exact W.zret (ty := .boolean) hx hb hr rfl (fun t ht _ => gqi hP hD hS ht) hS.2.2 dX5_isComeTo_23
  · replace hf := ifn (c := tg1 = 0) (by rw [etg1]; decide) hf
    refine lv_iconst (v := 1) hx hb dX5_isComeTo_30 (by decide) ?_
    cases hf
    exact W.zret (ty := .boolean) hx hb hr rfl (fun t ht _ => gqi hP hD hS ht) hS.2.2 dX5_isComeTo_31
theorem ccX5_X5_isComeTo {R : Room} {s : State} {args : Array Value} {c0 : Cond} (ht : ∀ w ∈ wq c0, w.before args s = true) (hR : rmX5_isComeTo.frames + 1 ≤ R.frames ∧ 8 + (3 + 11) + rmX5_isComeTo.locals ≤ R.locals) : CallW R s args RX5 RX5 214 yX5_isComeTo cX5_isComeTo 3 (some .boolean) (wq (.code yX5_isComeTo cX5_isComeTo 3 (some .boolean))) rmX5_isComeTo 0 0 1 := gCW 1 ht wcX5_isComeTo wmX5_214 wiX5_isComeTo weX5_isComeTo wnX5 (by decide +kernel) rfl rfl hR
theorem ccX5_X7_chanceOf {R : Room} {s : State} {args : Array Value} {c0 : Cond} (ht : ∀ w ∈ wq c0, w.before args s = true) (hR : rmX7_chanceOf.frames + 1 ≤ R.frames ∧ 8 + (5 + 11) + rmX7_chanceOf.locals ≤ R.locals) : CallW R s args RX5 RX7 217 yX7_chanceOf cX7_chanceOf 5 (some .long) (wq (.code yX7_chanceOf cX7_chanceOf 5 (some .long))) rmX7_chanceOf 0 0 2 := gCW 2 ht wcX7_chanceOf wmX5_217 wiX7_chanceOf weX7_chanceOf wnX7 (by decide +kernel) rfl rfl hR
abbrev rmX5_chanceOfEnd : Room := { frames := 3, cells := 0, slots := 0, locals := 67 }
set_option maxHeartbeats 4000000 in
set_option maxRecDepth 100000 in
theorem tX5_chanceOfEnd (l : Launch) (dC : Nat → ClassId) (dI : Nat → Nat → Nat) (dA : Nat → ClassId) (ad : Nat → Nat) (sz : Nat) {p1 : Int32} {c_tree_parts : Nat → Int32} {c_bond_terms : Nat → Int32} {c_penceByUps : Nat → Int64} {c_pence : Nat → Int64} {c_turned : Nat → Int64} {c_called : Nat → Int64} {c_hold : Nat → Int64} {c_value : Nat → Int64} {c_marks : Nat → Int32} {c_act : Nat → Int32} {c_rowOfKey : Nat → Int32} {r : Int64} (hf : fX5_chanceOfEnd p1 c_tree_parts c_act = some (r)) : Met l yX5_chanceOfEnd (wq (Cond.code yX5_chanceOfEnd cX5_chanceOfEnd 5 (some .long))) rmX5_chanceOfEnd (gP [.ref (ad 0), .int p1] (dC, dI) dA (wX5 dA ad c_tree_parts c_bond_terms c_penceByUps c_pence c_turned c_called c_hold c_value c_marks c_act c_rowOfKey) sz) (gQl (dC, dI) r (wX5 dA ad c_tree_parts c_bond_terms c_penceByUps c_pence c_turned c_called c_hold c_value c_marks c_act c_rowOfKey) (va_A (wX5 dA ad c_tree_parts c_bond_terms c_penceByUps c_pence c_turned c_called c_hold c_value c_marks c_act c_rowOfKey) sz)) 0 0 (va_A (wX5 dA ad c_tree_parts c_bond_terms c_penceByUps c_pence c_turned c_called c_hold c_value c_marks c_act c_rowOfKey) sz) := by
  refine Met.ofW (cc := cX5_chanceOfEnd) (maxL := 5) (ret := (some .long)) (by decide) rfl ?_
  intro p e s m args below meth c s₁ B hml hv
  obtain ⟨rfl, hsz, hP, hK, hD0⟩ := hv
  have hx := B.exec
  have hb := B.bytes
  have hr := B.returns
  have hts := atoms_spec (ws := wq (Cond.code yX5_chanceOfEnd cX5_chanceOfEnd 5 (some .long))) B.pre
  have hown : s.vm.findClass RX5 = some m.cls := findClass_of_methodNamed B.named
  have hlocks := B.notSynchronized
  clear B
  subst hsz
  have hD := hD0.self (sz := s.heap.size)
  generalize hAe : va_A (wX5 dA ad c_tree_parts c_bond_terms c_penceByUps c_pence c_turned c_called c_hold c_value c_marks c_act c_rowOfKey) s.heap.size = A at hD ⊢
  have hA : ∀ q : Nat, s.heap.size ≤ q → A q := fun q h => by rw [← hAe]; exact Or.inr h
  clear hAe hD0
  have hS : va_S A s.heap s.heap [] := va_S.rf
  have hl := lv_entry ([.ref (ad 0), .int p1]) (n := 5) (Nat.le_of_ble_eq_true rfl)
  rw [lg_entry_eq]
  generalize (lg_sl ([.ref (ad 0), .int p1]) ++ List.replicate (5 - (lg_sl ([.ref (ad 0), .int p1])).length) Slot.unset).toArray = ls at hl ⊢
  have hl : lv_has ls 5 [(0, .ref (ad 0)), (1, .int p1)] := hl
  change W p l e rmX5_chanceOfEnd s m ([.ref (ad 0), .int p1] : List Value).toArray below meth c s.heap [] 0 0 _ _
  generalize hQ : MQ below (gQl (dC, dI) r (wX5 dA ad c_tree_parts c_bond_terms c_penceByUps c_pence c_turned c_called c_hold c_value c_marks c_act c_rowOfKey) A) ([.ref (ad 0), .int p1] : List Value).toArray s 0 0 A = Q
  have LP5 : ∀ (n : Nat) (x1 : Int32) (c_tree_parts : Nat → Int32) (c_act : Nat → Int32) (c_bond_terms : Nat → Int32) (c_penceByUps : Nat → Int64) (c_pence : Nat → Int64) (c_turned : Nat → Int64) (c_called : Nat → Int64) (c_hold : Nat → Int64) (c_value : Nat → Int64) (c_marks : Nat → Int32) (c_rowOfKey : Nat → Int32) (x2 : Int64) (x4 : Int32) (o2 : Int64) (H : Heap) (locs : List Loc) (ls : Array Slot), va_P (dC, dI) vwCl (wX5 dA ad c_tree_parts c_bond_terms c_penceByUps c_pence c_turned c_called c_hold c_value c_marks c_act c_rowOfKey) H → va_D A (wX5 dA ad c_tree_parts c_bond_terms c_penceByUps c_pence c_turned c_called c_hold c_value c_marks c_act c_rowOfKey) → va_S A s.heap H locs → lpX5_chanceOfEnd_5 x1 c_tree_parts c_act n x2 x4 = some (o2) → lv_has ls 5 [(0, .ref (ad 0)), (1, .int x1), (2, .long x2), (4, .int x4)] → (∀ (H : Heap) (locs : List Loc) (ls : Array Slot), va_P (dC, dI) vwCl (wX5 dA ad c_tree_parts c_bond_terms c_penceByUps c_pence c_turned c_called c_hold c_value c_marks c_act c_rowOfKey) H → va_D A (wX5 dA ad c_tree_parts c_bond_terms c_penceByUps c_pence c_turned c_called c_hold c_value c_marks c_act c_rowOfKey) → va_S A s.heap H locs → lv_has ls 5 [(2, .long o2)] → W p l e rmX5_chanceOfEnd s m ([.ref (ad 0), .int p1] : List Value).toArray below meth c H locs 0 0 Q (F0 m 59 ls [])) → W p l e rmX5_chanceOfEnd s m ([.ref (ad 0), .int p1] : List Value).toArray below meth c H locs 0 0 Q (F0 m 5 ls []) := by
    intro n
    induction n with
    | zero =>
      intro x1 c_tree_parts c_act c_bond_terms c_penceByUps c_pence c_turned c_called c_hold c_value c_marks c_rowOfKey x2 x4 o2 H locs ls hP hD hS hf hl hk
      cases hf
    | succ n ih5 =>
      intro x1 c_tree_parts c_act c_bond_terms c_penceByUps c_pence c_turned c_called c_hold c_value c_marks c_rowOfKey x2 x4 o2 H locs ls hP hD hS hf hl hk
      rw [lpX5_chanceOfEnd_5.eq_2] at hf
      refine lv_iload hx hb dX5_chanceOfEnd_5 (lv_at hl 3 rfl) ?_
      refine lv_aload_n hx hb dX5_chanceOfEnd_7 rfl (lv_at hl 0 rfl) ?_
      obtain ⟨r3, v4, hf⟩ := bd1_some hf
      refine gci (va_runV (As := []) (rest := [.int x4]) ⟨hx, hb, hml, hown, hts⟩ (tX5_lastRow l dC dI dA ad H.size v4) (ccX5_X5_lastRow hts ⟨Nat.le_of_ble_eq_true rfl, Nat.le_of_ble_eq_true rfl⟩) (gPreV (ci := 5) (q0 := 0) hP hK hD rfl rfl) rfl rfl hl.1 rfl (lv_room (Nat.le_of_ble_eq_true rfl)) dX5_chanceOfEnd_8 ⟨Nat.le_of_ble_eq_true rfl, Nat.le_of_ble_eq_true rfl⟩) hD hS hA (fun H locs hP hD hS => ?_)
      refine lv_icmp_gt (tgt := 59) hx hb dX5_chanceOfEnd_11 (by decide) (fun k5 => ?_) (fun k5 => ?_)
      · replace hf := ifp k5 hf
        cases hf
        exact hk _ _ _ hP hD hS (lv_sub hl [2] rfl)
      · replace hf := ifn k5 hf
        refine lv_aload_n hx hb dX5_chanceOfEnd_14 rfl (lv_at hl 0 rfl) ?_
        refine lv_iload hx hb dX5_chanceOfEnd_15 (lv_at hl 3 rfl) ?_
        obtain ⟨r6, v7, hf⟩ := bd1_some hf
        refine gci (va_runV (As := [.int x4]) (rest := []) ⟨hx, hb, hml, hown, hts⟩ (tX5_actAt l dC dI dA ad H.size v7) (ccX5_X5_actAt hts ⟨Nat.le_of_ble_eq_true rfl, Nat.le_of_ble_eq_true rfl⟩) (gPreV (ci := 5) (q0 := 0) hP hK hD rfl rfl) rfl rfl hl.1 rfl (lv_room (Nat.le_of_ble_eq_true rfl)) dX5_chanceOfEnd_17 ⟨Nat.le_of_ble_eq_true rfl, Nat.le_of_ble_eq_true rfl⟩) hD hS hA (fun H locs hP hD hS => ?_)
        refine lv_iload_n hx hb dX5_chanceOfEnd_20 rfl (lv_at hl 1 rfl) ?_
        obtain ⟨j9, v11, hf⟩ := bd1_some hf
        have J10 : ∀ (H : Heap) (locs : List Loc) (ls : Array Slot), va_P (dC, dI) vwCl (wX5 dA ad c_tree_parts c_bond_terms c_penceByUps c_pence c_turned c_called c_hold c_value c_marks c_act c_rowOfKey) H → va_D A (wX5 dA ad c_tree_parts c_bond_terms c_penceByUps c_pence c_turned c_called c_hold c_value c_marks c_act c_rowOfKey) → va_S A s.heap H locs → lv_has ls 5 [(0, .ref (ad 0)), (1, .int x1), (2, .long j9), (4, .int x4)] → W p l e rmX5_chanceOfEnd s m ([.ref (ad 0), .int p1] : List Value).toArray below meth c H locs 0 0 Q (F0 m 53 ls []) := by
          intro H locs ls hP hD hS hl
          obtain ⟨w12, ew12⟩ : ∃ y : Int32, y = x4 + 1 := ⟨_, rfl⟩
          replace hf := nm_at hf ew12
          refine lv_iinc (v := w12) (lv' := [(4, .int w12), (0, .ref (ad 0)), (1, .int x1), (2, .long j9)]) hx hb dX5_chanceOfEnd_53 hl (k := 3) rfl (by rw [ew12]; rfl) (by decide) rfl (fun ls hl => ?_)
          refine lv_goto (tgt := 5) hx hb dX5_chanceOfEnd_56 (by decide) ?_
          exact ih5 _ _ _ _ _ _ _ _ _ _ _ _ _ _ _ _ _ _ hP hD hS hf (lv_sub hl [1, 2, 3, 0] rfl) hk
        replace hf := v11
        clear v11
        refine lv_icmp_ne (tgt := 53) hx hb dX5_chanceOfEnd_21 (by decide) (fun k8 => ?_) (fun k8 => ?_)
        · replace hf := ifn k8 hf
          cases hf
          exact J10 _ _ _ hP hD hS (lv_sub hl [0, 1, 2, 3] rfl)
        · replace hf := ifp k8 hf
          refine lv_aload_n hx hb dX5_chanceOfEnd_24 rfl (lv_at hl 0 rfl) ?_
          refine lv_iload hx hb dX5_chanceOfEnd_25 (lv_at hl 3 rfl) ?_
          obtain ⟨r13, v14, hf⟩ := bd1_some hf
          refine gci (va_runV (As := [.int x4]) (rest := []) ⟨hx, hb, hml, hown, hts⟩ (tX5_isComeTo l dC dI dA ad H.size v14) (ccX5_X5_isComeTo hts ⟨Nat.le_of_ble_eq_true rfl, Nat.le_of_ble_eq_true rfl⟩) (gPreV (ci := 5) (q0 := 0) hP hK hD rfl rfl) rfl rfl hl.1 rfl (lv_room (Nat.le_of_ble_eq_true rfl)) dX5_chanceOfEnd_27 ⟨Nat.le_of_ble_eq_true rfl, Nat.le_of_ble_eq_true rfl⟩) hD hS hA (fun H locs hP hD hS => ?_)
          refine lv_if_eq (tgt := 53) hx hb dX5_chanceOfEnd_30 (by decide) (fun k15 => ?_) (fun k15 => ?_)
          · replace hf := ifp k15 hf
            cases hf
            exact J10 _ _ _ hP hD hS (lv_sub hl [0, 1, 2, 3] rfl)
          · replace hf := ifn k15 hf
            refine lv_lload_n hx hb dX5_chanceOfEnd_33 rfl (lv_at hl 2 rfl) ?_
            refine lv_aload_n hx hb dX5_chanceOfEnd_34 rfl (lv_at hl 0 rfl) ?_
            refine va_get (D := (dC, dI)) (ci := 5) (v := .ref (ad 1)) (C := RX5) (T := TX5) (N := 11) hx hb hts (fun w h => gw_mem (inX5 w h)) hown hK.1 hP 0 rfl rfl 0 (by decide) (hts _ (gw_mem wfX5_12)) (fun _ h9 => h9) rfl dX5_chanceOfEnd_35 ?_
            refine lv_iload hx hb dX5_chanceOfEnd_38 (lv_at hl 3 rfl) ?_
            obtain ⟨r16, v17, hf⟩ := bd1_some hf
            refine gci0 (va_runSN (As := [.int x4]) (rest := [.ref (ad 1), .long x2]) ⟨hx, hb, hml, hown, hts⟩ (tX8_dayOf l dC dI dA H.size v17) (ccX5_X8_dayOf hK.2 hts ⟨Nat.le_of_ble_eq_true rfl, Nat.le_of_ble_eq_true rfl⟩) (gPreS0 hK) rfl rfl hl.1 rfl (lv_room (Nat.le_of_ble_eq_true rfl)) dX5_chanceOfEnd_40 ⟨Nat.le_of_ble_eq_true rfl, Nat.le_of_ble_eq_true rfl⟩) hP hS hA (fun H locs hP hS => ?_)
            refine lv_iload hx hb dX5_chanceOfEnd_43 (lv_at hl 3 rfl) ?_
            obtain ⟨r18, v19, hf⟩ := bd1_some hf
            refine gci0 (va_runSN (As := [.int x4]) (rest := [.int r16, .ref (ad 1), .long x2]) ⟨hx, hb, hml, hown, hts⟩ (tX8_upsOf l dC dI dA H.size v19) (ccX5_X8_upsOf hK.2 hts ⟨Nat.le_of_ble_eq_true rfl, Nat.le_of_ble_eq_true rfl⟩) (gPreS0 hK) rfl rfl hl.1 rfl (lv_room (Nat.le_of_ble_eq_true rfl)) dX5_chanceOfEnd_45 ⟨Nat.le_of_ble_eq_true rfl, Nat.le_of_ble_eq_true rfl⟩) hP hS hA (fun H locs hP hS => ?_)
            obtain ⟨r20, v21, hf⟩ := bd1_some hf
            have z22 := sg1 (ws := (wX5 dA ad c_tree_parts c_bond_terms c_penceByUps c_pence c_turned c_called c_hold c_value c_marks c_act c_rowOfKey)) (s0 := ((wX5 dA ad c_tree_parts c_bond_terms c_penceByUps c_pence c_turned c_called c_hold c_value c_marks c_act c_rowOfKey)).take 1) (s1 := ((wX5 dA ad c_tree_parts c_bond_terms c_penceByUps c_pence c_turned c_called c_hold c_value c_marks c_act c_rowOfKey)).drop 3) (x1 := (wX7 dA (fun i => ad (i + 1)) c_tree_parts)) rfl
            refine gpl (wf := (wX5 dA ad c_tree_parts c_bond_terms c_penceByUps c_pence c_turned c_called c_hold c_value c_marks c_act c_rowOfKey)) (va_runV (As := [.int r16, .int r18]) (rest := [.long x2]) ⟨hx, hb, hml, hown, hts⟩ (tX7_chanceOf l dC dI dA (fun i => ad (i + 1)) H.size v21) (ccX5_X7_chanceOf hts ⟨Nat.le_of_ble_eq_true rfl, Nat.le_of_ble_eq_true rfl⟩) (gPreV (ci := 7) (q0 := 0) (psub z22 hP) hK (psubD z22 hD) rfl rfl) rfl rfl hl.1 rfl (lv_room (Nat.le_of_ble_eq_true rfl)) dX5_chanceOfEnd_48 ⟨Nat.le_of_ble_eq_true rfl, Nat.le_of_ble_eq_true rfl⟩) hP hD hS hA z22 (sg1 (s0 := ((wX5 dA ad c_tree_parts c_bond_terms c_penceByUps c_pence c_turned c_called c_hold c_value c_marks c_act c_rowOfKey)).take 1) (s1 := ((wX5 dA ad c_tree_parts c_bond_terms c_penceByUps c_pence c_turned c_called c_hold c_value c_marks c_act c_rowOfKey)).drop 3) (x1 := (wX7 dA (fun i => ad (i + 1)) c_tree_parts)) rfl) (fun H locs hP hD hS => ?_)
            refine lv_ladd hx hb dX5_chanceOfEnd_51 ?_
            refine lv_topl (fun w23 ew23 => ?_)
            replace hf := nm_at hf ew23
            refine lv_lstore_n (lv' := [(2, .long w23), (0, .ref (ad 0)), (1, .int x1), (4, .int x4)]) hx hb dX5_chanceOfEnd_52 rfl hl (by decide) rfl (fun ls hl => ?_)
            cases hf
            exact J10 _ _ _ hP hD hS (lv_sub hl [1, 2, 0, 3] rfl)
  subst hQ
  unfold fX5_chanceOfEnd at hf
  refine lv_lconst (v := 0) hx hb dX5_chanceOfEnd_0 rfl ?_
  refine lv_lstore_n (lv' := [(2, .long 0), (0, .ref (ad 0)), (1, .int p1)]) hx hb dX5_chanceOfEnd_1 rfl hl (by decide) rfl (fun ls hl => ?_)
  refine lv_iconst (v := 1) hx hb dX5_chanceOfEnd_2 (by decide) ?_
  refine lv_istore (lv' := [(4, .int 1), (2, .long 0), (0, .ref (ad 0)), (1, .int p1)]) hx hb dX5_chanceOfEnd_3 hl (by decide) rfl (fun ls hl => ?_)
  obtain ⟨x1, v2, hf⟩ := bd1_some hf
  refine LP5 FU _ _ _ _ _ _ _ _ _ _ _ _ _ _ _ _ _ _ hP hD hS v2 (lv_sub hl [2, 3, 1, 0] rfl) (fun H locs ls hP hD hS hl => ?_)
  refine lv_lload_n hx hb dX5_chanceOfEnd_59 rfl (lv_at hl 0 rfl) ?_
  cases hf
  exact W.lret hx hb hr (fun t ht _ => gql hP hD hS ht) hS.2.2 dX5_chanceOfEnd_60
abbrev rmX5_chancesTimesDays : Room := { frames := 3, cells := 0, slots := 0, locals := 67 }
set_option maxHeartbeats 4000000 in
set_option maxRecDepth 100000 in
theorem tX5_chancesTimesDays (l : Launch) (dC : Nat → ClassId) (dI : Nat → Nat → Nat) (dA : Nat → ClassId) (ad : Nat → Nat) (sz : Nat) {c_tree_parts : Nat → Int32} {c_bond_terms : Nat → Int32} {c_penceByUps : Nat → Int64} {c_pence : Nat → Int64} {c_turned : Nat → Int64} {c_called : Nat → Int64} {c_hold : Nat → Int64} {c_value : Nat → Int64} {c_marks : Nat → Int32} {c_act : Nat → Int32} {c_rowOfKey : Nat → Int32} {r : Int64} (hf : fX5_chancesTimesDays c_tree_parts c_act = some (r)) : Met l yX5_chancesTimesDays (wq (Cond.code yX5_chancesTimesDays cX5_chancesTimesDays 4 (some .long))) rmX5_chancesTimesDays (gP [.ref (ad 0)] (dC, dI) dA (wX5 dA ad c_tree_parts c_bond_terms c_penceByUps c_pence c_turned c_called c_hold c_value c_marks c_act c_rowOfKey) sz) (gQl (dC, dI) r (wX5 dA ad c_tree_parts c_bond_terms c_penceByUps c_pence c_turned c_called c_hold c_value c_marks c_act c_rowOfKey) (va_A (wX5 dA ad c_tree_parts c_bond_terms c_penceByUps c_pence c_turned c_called c_hold c_value c_marks c_act c_rowOfKey) sz)) 0 0 (va_A (wX5 dA ad c_tree_parts c_bond_terms c_penceByUps c_pence c_turned c_called c_hold c_value c_marks c_act c_rowOfKey) sz) := by
  refine Met.ofW (cc := cX5_chancesTimesDays) (maxL := 4) (ret := (some .long)) (by decide) rfl ?_
  intro p e s m args below meth c s₁ B hml hv
  obtain ⟨rfl, hsz, hP, hK, hD0⟩ := hv
  have hx := B.exec
  have hb := B.bytes
  have hr := B.returns
  have hts := atoms_spec (ws := wq (Cond.code yX5_chancesTimesDays cX5_chancesTimesDays 4 (some .long))) B.pre
  have hown : s.vm.findClass RX5 = some m.cls := findClass_of_methodNamed B.named
  have hlocks := B.notSynchronized
  clear B
  subst hsz
  have hD := hD0.self (sz := s.heap.size)
  generalize hAe : va_A (wX5 dA ad c_tree_parts c_bond_terms c_penceByUps c_pence c_turned c_called c_hold c_value c_marks c_act c_rowOfKey) s.heap.size = A at hD ⊢
  have hA : ∀ q : Nat, s.heap.size ≤ q → A q := fun q h => by rw [← hAe]; exact Or.inr h
  clear hAe hD0
  have hS : va_S A s.heap s.heap [] := va_S.rf
  have hl := lv_entry ([.ref (ad 0)]) (n := 4) (Nat.le_of_ble_eq_true rfl)
  rw [lg_entry_eq]
  generalize (lg_sl ([.ref (ad 0)]) ++ List.replicate (4 - (lg_sl ([.ref (ad 0)])).length) Slot.unset).toArray = ls at hl ⊢
  have hl : lv_has ls 4 [(0, .ref (ad 0))] := hl
  change W p l e rmX5_chancesTimesDays s m ([.ref (ad 0)] : List Value).toArray below meth c s.heap [] 0 0 _ _
  generalize hQ : MQ below (gQl (dC, dI) r (wX5 dA ad c_tree_parts c_bond_terms c_penceByUps c_pence c_turned c_called c_hold c_value c_marks c_act c_rowOfKey) A) ([.ref (ad 0)] : List Value).toArray s 0 0 A = Q
  have LP4 : ∀ (n : Nat) (c_tree_parts : Nat → Int32) (c_act : Nat → Int32) (c_bond_terms : Nat → Int32) (c_penceByUps : Nat → Int64) (c_pence : Nat → Int64) (c_turned : Nat → Int64) (c_called : Nat → Int64) (c_hold : Nat → Int64) (c_value : Nat → Int64) (c_marks : Nat → Int32) (c_rowOfKey : Nat → Int32) (x1 : Int64) (x3 : Int32) (o1 : Int64) (H : Heap) (locs : List Loc) (ls : Array Slot), va_P (dC, dI) vwCl (wX5 dA ad c_tree_parts c_bond_terms c_penceByUps c_pence c_turned c_called c_hold c_value c_marks c_act c_rowOfKey) H → va_D A (wX5 dA ad c_tree_parts c_bond_terms c_penceByUps c_pence c_turned c_called c_hold c_value c_marks c_act c_rowOfKey) → va_S A s.heap H locs → lpX5_chancesTimesDays_4 c_tree_parts c_act n x1 x3 = some (o1) → lv_has ls 4 [(0, .ref (ad 0)), (1, .long x1), (3, .int x3)] → (∀ (H : Heap) (locs : List Loc) (ls : Array Slot), va_P (dC, dI) vwCl (wX5 dA ad c_tree_parts c_bond_terms c_penceByUps c_pence c_turned c_called c_hold c_value c_marks c_act c_rowOfKey) H → va_D A (wX5 dA ad c_tree_parts c_bond_terms c_penceByUps c_pence c_turned c_called c_hold c_value c_marks c_act c_rowOfKey) → va_S A s.heap H locs → lv_has ls 4 [(1, .long o1)] → W p l e rmX5_chancesTimesDays s m ([.ref (ad 0)] : List Value).toArray below meth c H locs 0 0 Q (F0 m 58 ls [])) → W p l e rmX5_chancesTimesDays s m ([.ref (ad 0)] : List Value).toArray below meth c H locs 0 0 Q (F0 m 4 ls []) := by
    intro n
    induction n with
    | zero =>
      intro c_tree_parts c_act c_bond_terms c_penceByUps c_pence c_turned c_called c_hold c_value c_marks c_rowOfKey x1 x3 o1 H locs ls hP hD hS hf hl hk
      cases hf
    | succ n ih4 =>
      intro c_tree_parts c_act c_bond_terms c_penceByUps c_pence c_turned c_called c_hold c_value c_marks c_rowOfKey x1 x3 o1 H locs ls hP hD hS hf hl hk
      rw [lpX5_chancesTimesDays_4.eq_2] at hf
      refine lv_iload_n hx hb dX5_chancesTimesDays_4 rfl (lv_at hl 2 rfl) ?_
      refine lv_aload_n hx hb dX5_chancesTimesDays_5 rfl (lv_at hl 0 rfl) ?_
      obtain ⟨r3, v4, hf⟩ := bd1_some hf
      refine gci (va_runV (As := []) (rest := [.int x3]) ⟨hx, hb, hml, hown, hts⟩ (tX5_lastRow l dC dI dA ad H.size v4) (ccX5_X5_lastRow hts ⟨Nat.le_of_ble_eq_true rfl, Nat.le_of_ble_eq_true rfl⟩) (gPreV (ci := 5) (q0 := 0) hP hK hD rfl rfl) rfl rfl hl.1 rfl (lv_room (Nat.le_of_ble_eq_true rfl)) dX5_chancesTimesDays_6 ⟨Nat.le_of_ble_eq_true rfl, Nat.le_of_ble_eq_true rfl⟩) hD hS hA (fun H locs hP hD hS => ?_)
      refine lv_icmp_gt (tgt := 58) hx hb dX5_chancesTimesDays_9 (by decide) (fun k5 => ?_) (fun k5 => ?_)
      · replace hf := ifp k5 hf
        cases hf
        exact hk _ _ _ hP hD hS (lv_sub hl [1] rfl)
      · replace hf := ifn k5 hf
        refine lv_aload_n hx hb dX5_chancesTimesDays_12 rfl (lv_at hl 0 rfl) ?_
        refine lv_iload_n hx hb dX5_chancesTimesDays_13 rfl (lv_at hl 2 rfl) ?_
        obtain ⟨r6, v7, hf⟩ := bd1_some hf
        refine gci (va_runV (As := [.int x3]) (rest := []) ⟨hx, hb, hml, hown, hts⟩ (tX5_actAt l dC dI dA ad H.size v7) (ccX5_X5_actAt hts ⟨Nat.le_of_ble_eq_true rfl, Nat.le_of_ble_eq_true rfl⟩) (gPreV (ci := 5) (q0 := 0) hP hK hD rfl rfl) rfl rfl hl.1 rfl (lv_room (Nat.le_of_ble_eq_true rfl)) dX5_chancesTimesDays_14 ⟨Nat.le_of_ble_eq_true rfl, Nat.le_of_ble_eq_true rfl⟩) hD hS hA (fun H locs hP hD hS => ?_)
        obtain ⟨j9, v11, hf⟩ := bd1_some hf
        have J10 : ∀ (H : Heap) (locs : List Loc) (ls : Array Slot), va_P (dC, dI) vwCl (wX5 dA ad c_tree_parts c_bond_terms c_penceByUps c_pence c_turned c_called c_hold c_value c_marks c_act c_rowOfKey) H → va_D A (wX5 dA ad c_tree_parts c_bond_terms c_penceByUps c_pence c_turned c_called c_hold c_value c_marks c_act c_rowOfKey) → va_S A s.heap H locs → lv_has ls 4 [(0, .ref (ad 0)), (1, .long j9), (3, .int x3)] → W p l e rmX5_chancesTimesDays s m ([.ref (ad 0)] : List Value).toArray below meth c H locs 0 0 Q (F0 m 52 ls []) := by
          intro H locs ls hP hD hS hl
          obtain ⟨w12, ew12⟩ : ∃ y : Int32, y = x3 + 1 := ⟨_, rfl⟩
          replace hf := nm_at hf ew12
          refine lv_iinc (v := w12) (lv' := [(3, .int w12), (0, .ref (ad 0)), (1, .long j9)]) hx hb dX5_chancesTimesDays_52 hl (k := 2) rfl (by rw [ew12]; rfl) (by decide) rfl (fun ls hl => ?_)
          refine lv_goto (tgt := 4) hx hb dX5_chancesTimesDays_55 (by decide) ?_
          exact ih4 _ _ _ _ _ _ _ _ _ _ _ _ _ _ _ _ _ hP hD hS hf (lv_sub hl [1, 2, 0] rfl) hk
        replace hf := v11
        clear v11
        refine lv_if_eq (tgt := 52) hx hb dX5_chancesTimesDays_17 (by decide) (fun k8 => ?_) (fun k8 => ?_)
        · replace hf := ifp k8 hf
          cases hf
          exact J10 _ _ _ hP hD hS (lv_sub hl [0, 1, 2] rfl)
        · replace hf := ifn k8 hf
          refine lv_aload_n hx hb dX5_chancesTimesDays_20 rfl (lv_at hl 0 rfl) ?_
          refine lv_iload_n hx hb dX5_chancesTimesDays_21 rfl (lv_at hl 2 rfl) ?_
          obtain ⟨r13, v14, hf⟩ := bd1_some hf
          refine gci (va_runV (As := [.int x3]) (rest := []) ⟨hx, hb, hml, hown, hts⟩ (tX5_isComeTo l dC dI dA ad H.size v14) (ccX5_X5_isComeTo hts ⟨Nat.le_of_ble_eq_true rfl, Nat.le_of_ble_eq_true rfl⟩) (gPreV (ci := 5) (q0 := 0) hP hK hD rfl rfl) rfl rfl hl.1 rfl (lv_room (Nat.le_of_ble_eq_true rfl)) dX5_chancesTimesDays_22 ⟨Nat.le_of_ble_eq_true rfl, Nat.le_of_ble_eq_true rfl⟩) hD hS hA (fun H locs hP hD hS => ?_)
          refine lv_if_eq (tgt := 52) hx hb dX5_chancesTimesDays_25 (by decide) (fun k15 => ?_) (fun k15 => ?_)
          · replace hf := ifp k15 hf
            cases hf
            exact J10 _ _ _ hP hD hS (lv_sub hl [0, 1, 2] rfl)
          · replace hf := ifn k15 hf
            refine lv_lload_n hx hb dX5_chancesTimesDays_28 rfl (lv_at hl 1 rfl) ?_
            refine lv_iload_n hx hb dX5_chancesTimesDays_29 rfl (lv_at hl 2 rfl) ?_
            obtain ⟨r16, v17, hf⟩ := bd1_some hf
            refine gci0 (va_runSN (As := [.int x3]) (rest := [.long x1]) ⟨hx, hb, hml, hown, hts⟩ (tX8_dayOf l dC dI dA H.size v17) (ccX5_X8_dayOf hK.2 hts ⟨Nat.le_of_ble_eq_true rfl, Nat.le_of_ble_eq_true rfl⟩) (gPreS0 hK) rfl rfl hl.1 rfl (lv_room (Nat.le_of_ble_eq_true rfl)) dX5_chancesTimesDays_30 ⟨Nat.le_of_ble_eq_true rfl, Nat.le_of_ble_eq_true rfl⟩) hP hS hA (fun H locs hP hS => ?_)
            refine lv_i2l hx hb dX5_chancesTimesDays_33 rfl ?_
            refine lv_aload_n hx hb dX5_chancesTimesDays_34 rfl (lv_at hl 0 rfl) ?_
            refine va_get (D := (dC, dI)) (ci := 5) (v := .ref (ad 1)) (C := RX5) (T := TX5) (N := 11) hx hb hts (fun w h => gw_mem (inX5 w h)) hown hK.1 hP 0 rfl rfl 0 (by decide) (hts _ (gw_mem wfX5_12)) (fun _ h9 => h9) rfl dX5_chancesTimesDays_35 ?_
            refine lv_iload_n hx hb dX5_chancesTimesDays_38 rfl (lv_at hl 2 rfl) ?_
            obtain ⟨r18, v19, hf⟩ := bd1_some hf
            refine gci0 (va_runSN (As := [.int x3]) (rest := [.ref (ad 1), .long (Int32.toInt64 r16), .long x1]) ⟨hx, hb, hml, hown, hts⟩ (tX8_dayOf l dC dI dA H.size v19) (ccX5_X8_dayOf hK.2 hts ⟨Nat.le_of_ble_eq_true rfl, Nat.le_of_ble_eq_true rfl⟩) (gPreS0 hK) rfl rfl hl.1 rfl (lv_room (Nat.le_of_ble_eq_true rfl)) dX5_chancesTimesDays_39 ⟨Nat.le_of_ble_eq_true rfl, Nat.le_of_ble_eq_true rfl⟩) hP hS hA (fun H locs hP hS => ?_)
            refine lv_iload_n hx hb dX5_chancesTimesDays_42 rfl (lv_at hl 2 rfl) ?_
            obtain ⟨r20, v21, hf⟩ := bd1_some hf
            refine gci0 (va_runSN (As := [.int x3]) (rest := [.int r18, .ref (ad 1), .long (Int32.toInt64 r16), .long x1]) ⟨hx, hb, hml, hown, hts⟩ (tX8_upsOf l dC dI dA H.size v21) (ccX5_X8_upsOf hK.2 hts ⟨Nat.le_of_ble_eq_true rfl, Nat.le_of_ble_eq_true rfl⟩) (gPreS0 hK) rfl rfl hl.1 rfl (lv_room (Nat.le_of_ble_eq_true rfl)) dX5_chancesTimesDays_43 ⟨Nat.le_of_ble_eq_true rfl, Nat.le_of_ble_eq_true rfl⟩) hP hS hA (fun H locs hP hS => ?_)
            obtain ⟨r22, v23, hf⟩ := bd1_some hf
            have z24 := sg1 (ws := (wX5 dA ad c_tree_parts c_bond_terms c_penceByUps c_pence c_turned c_called c_hold c_value c_marks c_act c_rowOfKey)) (s0 := ((wX5 dA ad c_tree_parts c_bond_terms c_penceByUps c_pence c_turned c_called c_hold c_value c_marks c_act c_rowOfKey)).take 1) (s1 := ((wX5 dA ad c_tree_parts c_bond_terms c_penceByUps c_pence c_turned c_called c_hold c_value c_marks c_act c_rowOfKey)).drop 3) (x1 := (wX7 dA (fun i => ad (i + 1)) c_tree_parts)) rfl
            refine gpl (wf := (wX5 dA ad c_tree_parts c_bond_terms c_penceByUps c_pence c_turned c_called c_hold c_value c_marks c_act c_rowOfKey)) (va_runV (As := [.int r18, .int r20]) (rest := [.long (Int32.toInt64 r16), .long x1]) ⟨hx, hb, hml, hown, hts⟩ (tX7_chanceOf l dC dI dA (fun i => ad (i + 1)) H.size v23) (ccX5_X7_chanceOf hts ⟨Nat.le_of_ble_eq_true rfl, Nat.le_of_ble_eq_true rfl⟩) (gPreV (ci := 7) (q0 := 0) (psub z24 hP) hK (psubD z24 hD) rfl rfl) rfl rfl hl.1 rfl (lv_room (Nat.le_of_ble_eq_true rfl)) dX5_chancesTimesDays_46 ⟨Nat.le_of_ble_eq_true rfl, Nat.le_of_ble_eq_true rfl⟩) hP hD hS hA z24 (sg1 (s0 := ((wX5 dA ad c_tree_parts c_bond_terms c_penceByUps c_pence c_turned c_called c_hold c_value c_marks c_act c_rowOfKey)).take 1) (s1 := ((wX5 dA ad c_tree_parts c_bond_terms c_penceByUps c_pence c_turned c_called c_hold c_value c_marks c_act c_rowOfKey)).drop 3) (x1 := (wX7 dA (fun i => ad (i + 1)) c_tree_parts)) rfl) (fun H locs hP hD hS => ?_)
            refine lv_lmul hx hb dX5_chancesTimesDays_49 ?_
            refine lv_ladd hx hb dX5_chancesTimesDays_50 ?_
            refine lv_topl (fun w25 ew25 => ?_)
            replace hf := nm_at hf ew25
            refine lv_lstore_n (lv' := [(1, .long w25), (0, .ref (ad 0)), (3, .int x3)]) hx hb dX5_chancesTimesDays_51 rfl hl (by decide) rfl (fun ls hl => ?_)
            cases hf
            exact J10 _ _ _ hP hD hS (lv_sub hl [1, 0, 2] rfl)
  subst hQ
  unfold fX5_chancesTimesDays at hf
  refine lv_lconst (v := 0) hx hb dX5_chancesTimesDays_0 rfl ?_
  refine lv_lstore_n (lv' := [(1, .long 0), (0, .ref (ad 0))]) hx hb dX5_chancesTimesDays_1 rfl hl (by decide) rfl (fun ls hl => ?_)
  refine lv_iconst (v := 1) hx hb dX5_chancesTimesDays_2 (by decide) ?_
  refine lv_istore_n (lv' := [(3, .int 1), (1, .long 0), (0, .ref (ad 0))]) hx hb dX5_chancesTimesDays_3 rfl hl (by decide) rfl (fun ls hl => ?_)
  obtain ⟨x1, v2, hf⟩ := bd1_some hf
  refine LP4 FU _ _ _ _ _ _ _ _ _ _ _ _ _ _ _ _ _ hP hD hS v2 (lv_sub hl [2, 1, 0] rfl) (fun H locs ls hP hD hS hl => ?_)
  refine lv_lload_n hx hb dX5_chancesTimesDays_58 rfl (lv_at hl 0 rfl) ?_
  cases hf
  exact W.lret hx hb hr (fun t ht _ => gql hP hD hS ht) hS.2.2 dX5_chancesTimesDays_59
abbrev rmX8_cameUp : Room := { frames := 0, cells := 0, slots := 0, locals := 0 }
set_option maxHeartbeats 4000000 in
set_option maxRecDepth 100000 in
theorem tX8_cameUp (l : Launch) (dC : Nat → ClassId) (dI : Nat → Nat → Nat) (dA : Nat → ClassId) (sz : Nat) {p0 : Int32} {r : Int32} (hf : fX8_cameUp p0 = some (r)) : Met l yX8_cameUp (wq (Cond.code yX8_cameUp cX8_cameUp 1 (some .boolean))) rmX8_cameUp (gP [.int p0] (dC, dI) dA [] sz) (gQi (dC, dI) r [] (va_A [] sz)) 0 0 (va_A [] sz) := by
  refine Met.ofW (cc := cX8_cameUp) (maxL := 1) (ret := (some .boolean)) (by decide) rfl ?_
  intro p e s m args below meth c s₁ B hml hv
  obtain ⟨rfl, hsz, hP, hK, hD0⟩ := hv
  have hx := B.exec
  have hb := B.bytes
  have hr := B.returns
  have hts := atoms_spec (ws := wq (Cond.code yX8_cameUp cX8_cameUp 1 (some .boolean))) B.pre
  have hown : s.vm.findClass RX8 = some m.cls := findClass_of_methodNamed B.named
  have hlocks := B.notSynchronized
  clear B
  subst hsz
  have hD := hD0.self (sz := s.heap.size)
  generalize hAe : va_A [] s.heap.size = A at hD ⊢
  have hA : ∀ q : Nat, s.heap.size ≤ q → A q := fun q h => by rw [← hAe]; exact Or.inr h
  clear hAe hD0
  have hS : va_S A s.heap s.heap [] := va_S.rf
  have hl := lv_entry ([.int p0]) (n := 1) (Nat.le_of_ble_eq_true rfl)
  rw [lg_entry_eq]
  generalize (lg_sl ([.int p0]) ++ List.replicate (1 - (lg_sl ([.int p0])).length) Slot.unset).toArray = ls at hl ⊢
  have hl : lv_has ls 1 [(0, .int p0)] := hl
  change W p l e rmX8_cameUp s m ([.int p0] : List Value).toArray below meth c s.heap [] 0 0 _ _
  unfold fX8_cameUp at hf
  refine lv_iload_n hx hb dX8_cameUp_0 rfl (lv_at hl 0 rfl) ?_
  refine lv_iconst (v := 1) hx hb dX8_cameUp_1 (by decide) ?_
  obtain ⟨j2, v4, hf⟩ := bd1_some hf
  have J3 : ∀ (H : Heap) (locs : List Loc) (ls : Array Slot), va_P (dC, dI) vwCl [] H → va_D A [] → va_S A s.heap H locs → lv_has ls 1 [] → W p l e rmX8_cameUp s m ([.int p0] : List Value).toArray below meth c H locs 0 0 (MQ below (gQi (dC, dI) r [] A) ([.int p0] : List Value).toArray s 0 0 A) (F0 m 17 ls [.int j2]) := by
    intro H locs ls hP hD hS hl
    obtain ⟨h5, hf⟩ := og_some hf
    cases hf
    exact W.zret (ty := .boolean) hx hb hr (boB_nar h5) (fun t ht _ => gqi hP hD hS ht) hS.2.2 dX8_cameUp_17
  replace hf := v4
  clear v4
  refine lv_icmp_le (tgt := 16) hx hb dX8_cameUp_2 (by decide) (fun k1 => ?_) (fun k1 => ?_)
  · replace hf := ifp k1 hf
    refine lv_iconst (v := 0) hx hb dX8_cameUp_16 (by decide) ?_
    cases hf
    exact J3 _ _ _ hP hD hS (lv_sub hl [] rfl)
  · replace hf := ifn k1 hf
    refine lv_iload_n hx hb dX8_cameUp_5 rfl (lv_at hl 0 rfl) ?_
    refine lv_iconst (v := 1) hx hb dX8_cameUp_6 (by decide) ?_
    refine lv_iand hx hb dX8_cameUp_7 ?_
    refine lv_iconst (v := 1) hx hb dX8_cameUp_8 (by decide) ?_
    refine lv_icmp_ne (tgt := 16) hx hb dX8_cameUp_9 (by decide) (fun k6 => ?_) (fun k6 => ?_)
    · replace hf := ifn k6 hf
      refine lv_iconst (v := 0) hx hb dX8_cameUp_16 (by decide) ?_
      cases hf
      exact J3 _ _ _ hP hD hS (lv_sub hl [] rfl)
    · replace hf := ifp k6 hf
      refine lv_iconst (v := 1) hx hb dX8_cameUp_12 (by decide) ?_
      refine lv_goto (tgt := 17) hx hb dX8_cameUp_13 (by decide) ?_
      cases hf
      exact J3 _ _ _ hP hD hS (lv_sub hl [] rfl)
theorem ccX5_X5_marksAt {R : Room} {s : State} {args : Array Value} {c0 : Cond} (ht : ∀ w ∈ wq c0, w.before args s = true) (hR : rmX5_marksAt.frames + 1 ≤ R.frames ∧ 8 + (2 + 11) + rmX5_marksAt.locals ≤ R.locals) : CallW R s args RX5 RX5 220 yX5_marksAt cX5_marksAt 2 (some .int) (wq (.code yX5_marksAt cX5_marksAt 2 (some .int))) rmX5_marksAt 0 0 1 := gCW 1 ht wcX5_marksAt wmX5_220 wiX5_marksAt weX5_marksAt wnX5 (by decide +kernel) rfl rfl hR
theorem ccX5_X8_cameUp {R : Room} {s : State} {args : Array Value} {c0 : Cond} (hN : gN s) (ht : ∀ w ∈ wq c0, w.before args s = true) (hR : rmX8_cameUp.frames + 1 ≤ R.frames ∧ 8 + (1 + 11) + rmX8_cameUp.locals ≤ R.locals) : va_CN R s args RX5 223 yX8_cameUp RX8 cX8_cameUp 1 (some .boolean) (wq (.code yX8_cameUp cX8_cameUp 1 (some .boolean))) rmX8_cameUp 0 0 1 ∧ (Cond.static yX8_cameUp).before args s = true ∧ True := gCSN 1 hN ht wcX8_cameUp wmX5_223 wtX8_cameUp wnX8 (by decide +kernel) rfl rfl hR
abbrev rmX5_gatherStates : Room := { frames := 3, cells := 0, slots := 0, locals := 66 }
set_option maxHeartbeats 4000000 in
set_option maxRecDepth 100000 in
theorem tX5_gatherStates (l : Launch) (dC : Nat → ClassId) (dI : Nat → Nat → Nat) (dA : Nat → ClassId) (ad : Nat → Nat) (sz : Nat) {p1 : Int32} {c_tree_parts : Nat → Int32} {c_bond_terms : Nat → Int32} {c_penceByUps : Nat → Int64} {c_pence : Nat → Int64} {c_turned : Nat → Int64} {c_called : Nat → Int64} {c_hold : Nat → Int64} {c_value : Nat → Int64} {c_marks : Nat → Int32} {c_act : Nat → Int32} {c_rowOfKey : Nat → Int32} {r : Int32} {o_c_rowOfKey : Nat → Int32} (hf : fX5_gatherStates p1 c_marks c_act c_rowOfKey = some (r, o_c_rowOfKey)) : Met l yX5_gatherStates (wq (Cond.code yX5_gatherStates cX5_gatherStates 5 (some .int))) rmX5_gatherStates (gP [.ref (ad 0), .int p1] (dC, dI) dA (wX5 dA ad c_tree_parts c_bond_terms c_penceByUps c_pence c_turned c_called c_hold c_value c_marks c_act c_rowOfKey) sz) (gQi (dC, dI) r (wX5 dA ad c_tree_parts c_bond_terms c_penceByUps c_pence c_turned c_called c_hold c_value c_marks c_act o_c_rowOfKey) (va_A (wX5 dA ad c_tree_parts c_bond_terms c_penceByUps c_pence c_turned c_called c_hold c_value c_marks c_act c_rowOfKey) sz)) 0 0 (va_A (wX5 dA ad c_tree_parts c_bond_terms c_penceByUps c_pence c_turned c_called c_hold c_value c_marks c_act c_rowOfKey) sz) := by
  refine Met.ofW (cc := cX5_gatherStates) (maxL := 5) (ret := (some .int)) (by decide) rfl ?_
  intro p e s m args below meth c s₁ B hml hv
  obtain ⟨rfl, hsz, hP, hK, hD0⟩ := hv
  have hx := B.exec
  have hb := B.bytes
  have hr := B.returns
  have hts := atoms_spec (ws := wq (Cond.code yX5_gatherStates cX5_gatherStates 5 (some .int))) B.pre
  have hown : s.vm.findClass RX5 = some m.cls := findClass_of_methodNamed B.named
  have hlocks := B.notSynchronized
  clear B
  subst hsz
  have hD := hD0.self (sz := s.heap.size)
  generalize hAe : va_A (wX5 dA ad c_tree_parts c_bond_terms c_penceByUps c_pence c_turned c_called c_hold c_value c_marks c_act c_rowOfKey) s.heap.size = A at hD ⊢
  have hA : ∀ q : Nat, s.heap.size ≤ q → A q := fun q h => by rw [← hAe]; exact Or.inr h
  clear hAe hD0
  have hS : va_S A s.heap s.heap [] := va_S.rf
  have hl := lv_entry ([.ref (ad 0), .int p1]) (n := 5) (Nat.le_of_ble_eq_true rfl)
  rw [lg_entry_eq]
  generalize (lg_sl ([.ref (ad 0), .int p1]) ++ List.replicate (5 - (lg_sl ([.ref (ad 0), .int p1])).length) Slot.unset).toArray = ls at hl ⊢
  have hl : lv_has ls 5 [(0, .ref (ad 0)), (1, .int p1)] := hl
  change W p l e rmX5_gatherStates s m ([.ref (ad 0), .int p1] : List Value).toArray below meth c s.heap [] 0 0 _ _
  generalize hQ : MQ below (gQi (dC, dI) r (wX5 dA ad c_tree_parts c_bond_terms c_penceByUps c_pence c_turned c_called c_hold c_value c_marks c_act o_c_rowOfKey) A) ([.ref (ad 0), .int p1] : List Value).toArray s 0 0 A = Q
  have LP2 : ∀ (n : Nat) (x1 : Int32) (c_tree_parts : Nat → Int32) (c_bond_terms : Nat → Int32) (c_penceByUps : Nat → Int64) (c_pence : Nat → Int64) (c_turned : Nat → Int64) (c_called : Nat → Int64) (c_hold : Nat → Int64) (c_value : Nat → Int64) (c_marks : Nat → Int32) (c_act : Nat → Int32) (x2 : Int32) (c_rowOfKey : Nat → Int32) (o_c_rowOfKey : Nat → Int32) (H : Heap) (locs : List Loc) (ls : Array Slot), va_P (dC, dI) vwCl (wX5 dA ad c_tree_parts c_bond_terms c_penceByUps c_pence c_turned c_called c_hold c_value c_marks c_act c_rowOfKey) H → va_D A (wX5 dA ad c_tree_parts c_bond_terms c_penceByUps c_pence c_turned c_called c_hold c_value c_marks c_act c_rowOfKey) → va_S A s.heap H locs → lpX5_gatherStates_2 x1 n x2 c_rowOfKey = some (o_c_rowOfKey) → lv_has ls 5 [(0, .ref (ad 0)), (1, .int x1), (2, .int x2)] → (∀ (H : Heap) (locs : List Loc) (ls : Array Slot), va_P (dC, dI) vwCl (wX5 dA ad c_tree_parts c_bond_terms c_penceByUps c_pence c_turned c_called c_hold c_value c_marks c_act o_c_rowOfKey) H → va_D A (wX5 dA ad c_tree_parts c_bond_terms c_penceByUps c_pence c_turned c_called c_hold c_value c_marks c_act o_c_rowOfKey) → va_S A s.heap H locs → lv_has ls 5 [(0, .ref (ad 0)), (1, .int x1)] → W p l e rmX5_gatherStates s m ([.ref (ad 0), .int p1] : List Value).toArray below meth c H locs 0 0 Q (F0 m 21 ls [])) → W p l e rmX5_gatherStates s m ([.ref (ad 0), .int p1] : List Value).toArray below meth c H locs 0 0 Q (F0 m 2 ls []) := by
    intro n
    induction n with
    | zero =>
      intro x1 c_tree_parts c_bond_terms c_penceByUps c_pence c_turned c_called c_hold c_value c_marks c_act x2 c_rowOfKey o_c_rowOfKey H locs ls hP hD hS hf hl hk
      cases hf
    | succ n ih2 =>
      intro x1 c_tree_parts c_bond_terms c_penceByUps c_pence c_turned c_called c_hold c_value c_marks c_act x2 c_rowOfKey o_c_rowOfKey H locs ls hP hD hS hf hl hk
      rw [lpX5_gatherStates_2.eq_2] at hf
      refine lv_iload_n hx hb dX5_gatherStates_2 rfl (lv_at hl 2 rfl) ?_
      refine lv_bipush (v := 112) hx hb dX5_gatherStates_3 (by decide) ?_
      refine lv_icmp_ge (tgt := 21) hx hb dX5_gatherStates_5 (by decide) (fun k36 => ?_) (fun k36 => ?_)
      · replace hf := ifp k36 hf
        cases hf
        exact hk _ _ _ hP hD hS (lv_sub hl [0, 1] rfl)
      · replace hf := ifn k36 hf
        refine lv_aload_n hx hb dX5_gatherStates_8 rfl (lv_at hl 0 rfl) ?_
        refine va_get (D := (dC, dI)) (ci := 5) (v := .ref (ad 13)) (C := RX5) (T := TX5) (N := 11) hx hb hts (fun w h => gw_mem (inX5 w h)) hown hK.1 hP 0 rfl rfl 10 (by decide) (hts _ (gw_mem wfX5_51)) (fun _ h9 => h9) rfl dX5_gatherStates_9 ?_
        refine lv_iload_n hx hb dX5_gatherStates_12 rfl (lv_at hl 2 rfl) ?_
        refine lv_iconst (v := 0) hx hb dX5_gatherStates_13 (by decide) ?_
        obtain ⟨h37, hf⟩ := og_some hf
        obtain ⟨w38, ew38⟩ : ∃ y : Nat → Int32, y = upd c_rowOfKey (Int32.toNatClampNeg x2) 0 := ⟨_, rfl⟩
        replace hf := nm_at hf ew38
        refine va_iast hx hb hK.1 hP hD hS 13 0 rfl rfl (okI_in h37) dX5_gatherStates_14 (fun H locs hP hD hS => ?_)
        have hP : va_P (dC, dI) vwCl (wX5 dA ad c_tree_parts c_bond_terms c_penceByUps c_pence c_turned c_called c_hold c_value c_marks c_act w38) H := by rw [ew38]; exact hP
        have hD : va_D A (wX5 dA ad c_tree_parts c_bond_terms c_penceByUps c_pence c_turned c_called c_hold c_value c_marks c_act w38) := by rw [ew38]; exact hD
        obtain ⟨w39, ew39⟩ : ∃ y : Int32, y = x2 + 1 := ⟨_, rfl⟩
        replace hf := nm_at hf ew39
        refine lv_iinc (v := w39) (lv' := [(2, .int w39), (0, .ref (ad 0)), (1, .int x1)]) hx hb dX5_gatherStates_15 hl (k := 2) rfl (by rw [ew39]; rfl) (by decide) rfl (fun ls hl => ?_)
        refine lv_goto (tgt := 2) hx hb dX5_gatherStates_18 (by decide) ?_
        exact ih2 _ _ _ _ _ _ _ _ _ _ _ _ _ _ _ _ _ hP hD hS hf (lv_sub hl [1, 2, 0] rfl) hk
  have LP27 : ∀ (n : Nat) (x1 : Int32) (c_marks : Nat → Int32) (c_act : Nat → Int32) (c_tree_parts : Nat → Int32) (c_bond_terms : Nat → Int32) (c_penceByUps : Nat → Int64) (c_pence : Nat → Int64) (c_turned : Nat → Int64) (c_called : Nat → Int64) (c_hold : Nat → Int64) (c_value : Nat → Int64) (x2 : Int32) (x3 : Int32) (c_rowOfKey : Nat → Int32) (o2 : Int32) (o_c_rowOfKey : Nat → Int32) (H : Heap) (locs : List Loc) (ls : Array Slot), va_P (dC, dI) vwCl (wX5 dA ad c_tree_parts c_bond_terms c_penceByUps c_pence c_turned c_called c_hold c_value c_marks c_act c_rowOfKey) H → va_D A (wX5 dA ad c_tree_parts c_bond_terms c_penceByUps c_pence c_turned c_called c_hold c_value c_marks c_act c_rowOfKey) → va_S A s.heap H locs → lpX5_gatherStates_27 x1 c_marks c_act n x2 x3 c_rowOfKey = some (o2, o_c_rowOfKey) → lv_has ls 5 [(0, .ref (ad 0)), (1, .int x1), (2, .int x2), (3, .int x3)] → (∀ (H : Heap) (locs : List Loc) (ls : Array Slot), va_P (dC, dI) vwCl (wX5 dA ad c_tree_parts c_bond_terms c_penceByUps c_pence c_turned c_called c_hold c_value c_marks c_act o_c_rowOfKey) H → va_D A (wX5 dA ad c_tree_parts c_bond_terms c_penceByUps c_pence c_turned c_called c_hold c_value c_marks c_act o_c_rowOfKey) → va_S A s.heap H locs → lv_has ls 5 [(2, .int o2)] → W p l e rmX5_gatherStates s m ([.ref (ad 0), .int p1] : List Value).toArray below meth c H locs 0 0 Q (F0 m 117 ls [])) → W p l e rmX5_gatherStates s m ([.ref (ad 0), .int p1] : List Value).toArray below meth c H locs 0 0 Q (F0 m 27 ls []) := by
    intro n
    induction n with
    | zero =>
      intro x1 c_marks c_act c_tree_parts c_bond_terms c_penceByUps c_pence c_turned c_called c_hold c_value x2 x3 c_rowOfKey o2 o_c_rowOfKey H locs ls hP hD hS hf hl hk
      cases hf
    | succ n ih27 =>
      intro x1 c_marks c_act c_tree_parts c_bond_terms c_penceByUps c_pence c_turned c_called c_hold c_value x2 x3 c_rowOfKey o2 o_c_rowOfKey H locs ls hP hD hS hf hl hk
      rw [lpX5_gatherStates_27.eq_2] at hf
      refine lv_iload_n hx hb dX5_gatherStates_27 rfl (lv_at hl 3 rfl) ?_
      refine lv_iconst (v := 2) hx hb dX5_gatherStates_28 (by decide) ?_
      refine lv_iload_n hx hb dX5_gatherStates_29 rfl (lv_at hl 1 rfl) ?_
      refine lv_ishl hx hb dX5_gatherStates_30 ?_
      refine lv_icmp_ge (tgt := 117) hx hb dX5_gatherStates_31 (by decide) (fun k7 => ?_) (fun k7 => ?_)
      · replace hf := ifp k7 hf
        cases hf
        exact hk _ _ _ hP hD hS (lv_sub hl [2] rfl)
      · replace hf := ifn k7 hf
        refine lv_iload_n hx hb dX5_gatherStates_34 rfl (lv_at hl 3 rfl) ?_
        refine lv_sipush (v := 128) hx hb dX5_gatherStates_35 (by decide) ?_
        refine lv_icmp_ge (tgt := 117) hx hb dX5_gatherStates_38 (by decide) (fun k8 => ?_) (fun k8 => ?_)
        · replace hf := ifp k8 hf
          cases hf
          exact hk _ _ _ hP hD hS (lv_sub hl [2] rfl)
        · replace hf := ifn k8 hf
          refine lv_iload_n hx hb dX5_gatherStates_41 rfl (lv_at hl 3 rfl) ?_
          obtain ⟨r9, v10, hf⟩ := bd1_some hf
          refine gci0 (va_runSN (As := [.int x3]) (rest := []) ⟨hx, hb, hml, hown, hts⟩ (tX8_upsOf l dC dI dA H.size v10) (ccX5_X8_upsOf hK.2 hts ⟨Nat.le_of_ble_eq_true rfl, Nat.le_of_ble_eq_true rfl⟩) (gPreS0 hK) rfl rfl hl.1 rfl (lv_room (Nat.le_of_ble_eq_true rfl)) dX5_gatherStates_42 ⟨Nat.le_of_ble_eq_true rfl, Nat.le_of_ble_eq_true rfl⟩) hP hS hA (fun H locs hP hS => ?_)
          refine lv_bipush (v := 16) hx hb dX5_gatherStates_45 (by decide) ?_
          refine lv_imul hx hb dX5_gatherStates_47 ?_
          refine lv_aload_n hx hb dX5_gatherStates_48 rfl (lv_at hl 0 rfl) ?_
          refine lv_iload_n hx hb dX5_gatherStates_49 rfl (lv_at hl 3 rfl) ?_
          obtain ⟨r11, v12, hf⟩ := bd1_some hf
          refine gci (va_runV (As := [.int x3]) (rest := [.int (r9 * 16)]) ⟨hx, hb, hml, hown, hts⟩ (tX5_marksAt l dC dI dA ad H.size v12) (ccX5_X5_marksAt hts ⟨Nat.le_of_ble_eq_true rfl, Nat.le_of_ble_eq_true rfl⟩) (gPreV (ci := 5) (q0 := 0) hP hK hD rfl rfl) rfl rfl hl.1 rfl (lv_room (Nat.le_of_ble_eq_true rfl)) dX5_gatherStates_50 ⟨Nat.le_of_ble_eq_true rfl, Nat.le_of_ble_eq_true rfl⟩) hD hS hA (fun H locs hP hD hS => ?_)
          refine lv_iconst (v := 2) hx hb dX5_gatherStates_53 (by decide) ?_
          refine lv_imul hx hb dX5_gatherStates_54 ?_
          refine lv_iadd hx hb dX5_gatherStates_55 ?_
          refine lv_iload_n hx hb dX5_gatherStates_56 rfl (lv_at hl 3 rfl) ?_
          obtain ⟨r13, v14, hf⟩ := bd1_some hf
          refine gci0 (va_runSN (As := [.int x3]) (rest := [.int ((r9 * 16) + (r11 * 2))]) ⟨hx, hb, hml, hown, hts⟩ (tX8_cameUp l dC dI dA H.size v14) (ccX5_X8_cameUp hK.2 hts ⟨Nat.le_of_ble_eq_true rfl, Nat.le_of_ble_eq_true rfl⟩) (gPreS0 hK) rfl rfl hl.1 rfl (lv_room (Nat.le_of_ble_eq_true rfl)) dX5_gatherStates_57 ⟨Nat.le_of_ble_eq_true rfl, Nat.le_of_ble_eq_true rfl⟩) hP hS hA (fun H locs hP hS => ?_)
          obtain ⟨j16, v18, hf⟩ := bd1_some hf
          have J17 : ∀ (H : Heap) (locs : List Loc) (ls : Array Slot), va_P (dC, dI) vwCl (wX5 dA ad c_tree_parts c_bond_terms c_penceByUps c_pence c_turned c_called c_hold c_value c_marks c_act c_rowOfKey) H → va_D A (wX5 dA ad c_tree_parts c_bond_terms c_penceByUps c_pence c_turned c_called c_hold c_value c_marks c_act c_rowOfKey) → va_S A s.heap H locs → lv_has ls 5 [(0, .ref (ad 0)), (1, .int x1), (2, .int x2), (3, .int x3)] → W p l e rmX5_gatherStates s m ([.ref (ad 0), .int p1] : List Value).toArray below meth c H locs 0 0 Q (F0 m 68 ls [.int j16, .int ((r9 * 16) + (r11 * 2))]) := by
            intro H locs ls hP hD hS hl
            refine lv_iadd hx hb dX5_gatherStates_68 ?_
            refine lv_topi (fun w19 ew19 => ?_)
            replace hf := nm_at hf ew19
            refine lv_istore (lv' := [(4, .int w19), (0, .ref (ad 0)), (1, .int x1), (2, .int x2), (3, .int x3)]) hx hb dX5_gatherStates_69 hl (by decide) rfl (fun ls hl => ?_)
            refine lv_iload hx hb dX5_gatherStates_71 (lv_at hl 0 rfl) ?_
            refine lv_iconst (v := 0) hx hb dX5_gatherStates_73 (by decide) ?_
            refine lv_bipush (v := 111) hx hb dX5_gatherStates_74 (by decide) ?_
            obtain ⟨r20, v21, hf⟩ := bd1_some hf
            refine gci0 (va_runSN (As := [.int w19, .int 0, .int 111]) (rest := []) ⟨hx, hb, hml, hown, hts⟩ (tX8_within l dC dI dA H.size v21) (ccX5_X8_within hK.2 hts ⟨Nat.le_of_ble_eq_true rfl, Nat.le_of_ble_eq_true rfl⟩) (gPreS0 hK) rfl rfl hl.1 rfl (lv_room (Nat.le_of_ble_eq_true rfl)) dX5_gatherStates_76 ⟨Nat.le_of_ble_eq_true rfl, Nat.le_of_ble_eq_true rfl⟩) hP hS hA (fun H locs hP hS => ?_)
            obtain ⟨j23, c_rowOfKey_24, v26, hf⟩ := bd2_some hf
            have J25 : ∀ (H : Heap) (locs : List Loc) (ls : Array Slot), va_P (dC, dI) vwCl (wX5 dA ad c_tree_parts c_bond_terms c_penceByUps c_pence c_turned c_called c_hold c_value c_marks c_act c_rowOfKey_24) H → va_D A (wX5 dA ad c_tree_parts c_bond_terms c_penceByUps c_pence c_turned c_called c_hold c_value c_marks c_act c_rowOfKey_24) → va_S A s.heap H locs → lv_has ls 5 [(0, .ref (ad 0)), (1, .int x1), (2, .int j23), (3, .int x3)] → W p l e rmX5_gatherStates s m ([.ref (ad 0), .int p1] : List Value).toArray below meth c H locs 0 0 Q (F0 m 111 ls []) := by
              intro H locs ls hP hD hS hl
              obtain ⟨w27, ew27⟩ : ∃ y : Int32, y = x3 + 1 := ⟨_, rfl⟩
              replace hf := nm_at hf ew27
              refine lv_iinc (v := w27) (lv' := [(3, .int w27), (0, .ref (ad 0)), (1, .int x1), (2, .int j23)]) hx hb dX5_gatherStates_111 hl (k := 3) rfl (by rw [ew27]; rfl) (by decide) rfl (fun ls hl => ?_)
              refine lv_goto (tgt := 27) hx hb dX5_gatherStates_114 (by decide) ?_
              exact ih27 _ _ _ _ _ _ _ _ _ _ _ _ _ _ _ _ _ _ _ hP hD hS hf (lv_sub hl [1, 2, 3, 0] rfl) hk
            replace hf := v26
            clear v26
            refine lv_if_eq (tgt := 111) hx hb dX5_gatherStates_79 (by decide) (fun k22 => ?_) (fun k22 => ?_)
            · replace hf := ifp k22 hf
              cases hf
              exact J25 _ _ _ hP hD hS (lv_sub hl [1, 2, 3, 4] rfl)
            · replace hf := ifn k22 hf
              refine lv_aload_n hx hb dX5_gatherStates_82 rfl (lv_at hl 1 rfl) ?_
              refine va_get (D := (dC, dI)) (ci := 5) (v := .ref (ad 13)) (C := RX5) (T := TX5) (N := 11) hx hb hts (fun w h => gw_mem (inX5 w h)) hown hK.1 hP 0 rfl rfl 10 (by decide) (hts _ (gw_mem wfX5_51)) (fun _ h9 => h9) rfl dX5_gatherStates_83 ?_
              refine lv_iload hx hb dX5_gatherStates_86 (lv_at hl 0 rfl) ?_
              obtain ⟨h28, hf⟩ := og_some hf
              refine va_iald hx hb hK.1 hP 13 0 rfl rfl (okI_in h28) dX5_gatherStates_88 ?_
              refine lv_if_ne (tgt := 111) hx hb dX5_gatherStates_89 (by decide) (fun k29 => ?_) (fun k29 => ?_)
              · replace hf := ifn k29 hf
                cases hf
                exact J25 _ _ _ hP hD hS (lv_sub hl [1, 2, 3, 4] rfl)
              · replace hf := ifp k29 hf
                refine lv_aload_n hx hb dX5_gatherStates_92 rfl (lv_at hl 1 rfl) ?_
                refine lv_iload_n hx hb dX5_gatherStates_93 rfl (lv_at hl 4 rfl) ?_
                obtain ⟨r30, v31, hf⟩ := bd1_some hf
                refine gci (va_runV (As := [.int x3]) (rest := []) ⟨hx, hb, hml, hown, hts⟩ (tX5_isComeTo l dC dI dA ad H.size v31) (ccX5_X5_isComeTo hts ⟨Nat.le_of_ble_eq_true rfl, Nat.le_of_ble_eq_true rfl⟩) (gPreV (ci := 5) (q0 := 0) hP hK hD rfl rfl) rfl rfl hl.1 rfl (lv_room (Nat.le_of_ble_eq_true rfl)) dX5_gatherStates_94 ⟨Nat.le_of_ble_eq_true rfl, Nat.le_of_ble_eq_true rfl⟩) hD hS hA (fun H locs hP hD hS => ?_)
                refine lv_if_eq (tgt := 111) hx hb dX5_gatherStates_97 (by decide) (fun k32 => ?_) (fun k32 => ?_)
                · replace hf := ifp k32 hf
                  cases hf
                  exact J25 _ _ _ hP hD hS (lv_sub hl [1, 2, 3, 4] rfl)
                · replace hf := ifn k32 hf
                  refine lv_aload_n hx hb dX5_gatherStates_100 rfl (lv_at hl 1 rfl) ?_
                  refine va_get (D := (dC, dI)) (ci := 5) (v := .ref (ad 13)) (C := RX5) (T := TX5) (N := 11) hx hb hts (fun w h => gw_mem (inX5 w h)) hown hK.1 hP 0 rfl rfl 10 (by decide) (hts _ (gw_mem wfX5_51)) (fun _ h9 => h9) rfl dX5_gatherStates_101 ?_
                  refine lv_iload hx hb dX5_gatherStates_104 (lv_at hl 0 rfl) ?_
                  refine lv_iload_n hx hb dX5_gatherStates_106 rfl (lv_at hl 4 rfl) ?_
                  obtain ⟨h33, hf⟩ := og_some hf
                  obtain ⟨w34, ew34⟩ : ∃ y : Nat → Int32, y = upd c_rowOfKey (Int32.toNatClampNeg w19) x3 := ⟨_, rfl⟩
                  replace hf := nm_at hf ew34
                  refine va_iast hx hb hK.1 hP hD hS 13 0 rfl rfl (okI_in h33) dX5_gatherStates_107 (fun H locs hP hD hS => ?_)
                  have hP : va_P (dC, dI) vwCl (wX5 dA ad c_tree_parts c_bond_terms c_penceByUps c_pence c_turned c_called c_hold c_value c_marks c_act w34) H := by rw [ew34]; exact hP
                  have hD : va_D A (wX5 dA ad c_tree_parts c_bond_terms c_penceByUps c_pence c_turned c_called c_hold c_value c_marks c_act w34) := by rw [ew34]; exact hD
                  obtain ⟨w35, ew35⟩ : ∃ y : Int32, y = x2 + 1 := ⟨_, rfl⟩
                  replace hf := nm_at hf ew35
                  refine lv_iinc (v := w35) (lv' := [(2, .int w35), (4, .int w19), (0, .ref (ad 0)), (1, .int x1), (3, .int x3)]) hx hb dX5_gatherStates_108 hl (k := 3) rfl (by rw [ew35]; rfl) (by decide) rfl (fun ls hl => ?_)
                  cases hf
                  exact J25 _ _ _ hP hD hS (lv_sub hl [2, 3, 0, 4] rfl)
          replace hf := v18
          clear v18
          refine lv_if_eq (tgt := 67) hx hb dX5_gatherStates_60 (by decide) (fun k15 => ?_) (fun k15 => ?_)
          · replace hf := ifp k15 hf
            refine lv_iconst (v := 0) hx hb dX5_gatherStates_67 (by decide) ?_
            cases hf
            exact J17 _ _ _ hP hD hS (lv_sub hl [0, 1, 2, 3] rfl)
          · replace hf := ifn k15 hf
            refine lv_iconst (v := 1) hx hb dX5_gatherStates_63 (by decide) ?_
            refine lv_goto (tgt := 68) hx hb dX5_gatherStates_64 (by decide) ?_
            cases hf
            exact J17 _ _ _ hP hD hS (lv_sub hl [0, 1, 2, 3] rfl)
  subst hQ
  unfold fX5_gatherStates at hf
  refine lv_iconst (v := 0) hx hb dX5_gatherStates_0 (by decide) ?_
  refine lv_istore_n (lv' := [(2, .int 0), (0, .ref (ad 0)), (1, .int p1)]) hx hb dX5_gatherStates_1 rfl hl (by decide) rfl (fun ls hl => ?_)
  obtain ⟨c_rowOfKey_1, v2, hf⟩ := bd1_some hf
  refine LP2 FU _ _ _ _ _ _ _ _ _ _ _ _ _ _ _ _ _ hP hD hS v2 (lv_sub hl [1, 2, 0] rfl) (fun H locs ls hP hD hS hl => ?_)
  refine lv_iconst (v := 0) hx hb dX5_gatherStates_21 (by decide) ?_
  refine lv_istore_n (lv' := [(2, .int 0), (0, .ref (ad 0)), (1, .int p1)]) hx hb dX5_gatherStates_22 rfl hl (by decide) rfl (fun ls hl => ?_)
  refine lv_iconst (v := 1) hx hb dX5_gatherStates_23 (by decide) ?_
  refine lv_iload_n hx hb dX5_gatherStates_24 rfl (lv_at hl 2 rfl) ?_
  refine lv_ishl hx hb dX5_gatherStates_25 ?_
  refine lv_topi (fun w3 ew3 => ?_)
  replace hf := nm_at hf ew3
  refine lv_istore_n (lv' := [(3, .int w3), (2, .int 0), (0, .ref (ad 0)), (1, .int p1)]) hx hb dX5_gatherStates_26 rfl hl (by decide) rfl (fun ls hl => ?_)
  obtain ⟨x4, c_rowOfKey_5, v6, hf⟩ := bd2_some hf
  refine LP27 FU _ _ _ _ _ _ _ _ _ _ _ _ _ _ _ _ _ _ _ hP hD hS v6 (lv_sub hl [2, 3, 1, 0] rfl) (fun H locs ls hP hD hS hl => ?_)
  refine lv_iload_n hx hb dX5_gatherStates_117 rfl (lv_at hl 0 rfl) ?_
  cases hf
  exact W.iret hx hb hr (fun t ht _ => gqi hP hD hS ht) hS.2.2 dX5_gatherStates_118
abbrev rmX5_stateRow : Room := { frames := 0, cells := 0, slots := 0, locals := 0 }
set_option maxHeartbeats 4000000 in
set_option maxRecDepth 100000 in
theorem tX5_stateRow (l : Launch) (dC : Nat → ClassId) (dI : Nat → Nat → Nat) (dA : Nat → ClassId) (ad : Nat → Nat) (sz : Nat) {p1 : Int32} {c_tree_parts : Nat → Int32} {c_bond_terms : Nat → Int32} {c_penceByUps : Nat → Int64} {c_pence : Nat → Int64} {c_turned : Nat → Int64} {c_called : Nat → Int64} {c_hold : Nat → Int64} {c_value : Nat → Int64} {c_marks : Nat → Int32} {c_act : Nat → Int32} {c_rowOfKey : Nat → Int32} {r : Int32} (hf : fX5_stateRow p1 c_rowOfKey = some (r)) : Met l yX5_stateRow (wq (Cond.code yX5_stateRow cX5_stateRow 4 (some .int))) rmX5_stateRow (gP [.ref (ad 0), .int p1] (dC, dI) dA (wX5 dA ad c_tree_parts c_bond_terms c_penceByUps c_pence c_turned c_called c_hold c_value c_marks c_act c_rowOfKey) sz) (gQi (dC, dI) r (wX5 dA ad c_tree_parts c_bond_terms c_penceByUps c_pence c_turned c_called c_hold c_value c_marks c_act c_rowOfKey) (va_A (wX5 dA ad c_tree_parts c_bond_terms c_penceByUps c_pence c_turned c_called c_hold c_value c_marks c_act c_rowOfKey) sz)) 0 0 (va_A (wX5 dA ad c_tree_parts c_bond_terms c_penceByUps c_pence c_turned c_called c_hold c_value c_marks c_act c_rowOfKey) sz) := by
  refine Met.ofW (cc := cX5_stateRow) (maxL := 4) (ret := (some .int)) (by decide) rfl ?_
  intro p e s m args below meth c s₁ B hml hv
  obtain ⟨rfl, hsz, hP, hK, hD0⟩ := hv
  have hx := B.exec
  have hb := B.bytes
  have hr := B.returns
  have hts := atoms_spec (ws := wq (Cond.code yX5_stateRow cX5_stateRow 4 (some .int))) B.pre
  have hown : s.vm.findClass RX5 = some m.cls := findClass_of_methodNamed B.named
  have hlocks := B.notSynchronized
  clear B
  subst hsz
  have hD := hD0.self (sz := s.heap.size)
  generalize hAe : va_A (wX5 dA ad c_tree_parts c_bond_terms c_penceByUps c_pence c_turned c_called c_hold c_value c_marks c_act c_rowOfKey) s.heap.size = A at hD ⊢
  have hA : ∀ q : Nat, s.heap.size ≤ q → A q := fun q h => by rw [← hAe]; exact Or.inr h
  clear hAe hD0
  have hS : va_S A s.heap s.heap [] := va_S.rf
  have hl := lv_entry ([.ref (ad 0), .int p1]) (n := 4) (Nat.le_of_ble_eq_true rfl)
  rw [lg_entry_eq]
  generalize (lg_sl ([.ref (ad 0), .int p1]) ++ List.replicate (4 - (lg_sl ([.ref (ad 0), .int p1])).length) Slot.unset).toArray = ls at hl ⊢
  have hl : lv_has ls 4 [(0, .ref (ad 0)), (1, .int p1)] := hl
  change W p l e rmX5_stateRow s m ([.ref (ad 0), .int p1] : List Value).toArray below meth c s.heap [] 0 0 _ _
  generalize hQ : MQ below (gQi (dC, dI) r (wX5 dA ad c_tree_parts c_bond_terms c_penceByUps c_pence c_turned c_called c_hold c_value c_marks c_act c_rowOfKey) A) ([.ref (ad 0), .int p1] : List Value).toArray s 0 0 A = Q
  have LP4 : ∀ (n : Nat) (c_rowOfKey : Nat → Int32) (c_tree_parts : Nat → Int32) (c_bond_terms : Nat → Int32) (c_penceByUps : Nat → Int64) (c_pence : Nat → Int64) (c_turned : Nat → Int64) (c_called : Nat → Int64) (c_hold : Nat → Int64) (c_value : Nat → Int64) (c_marks : Nat → Int32) (c_act : Nat → Int32) (x2 : Int32) (x3 : Int32) (tgo : Nat) (o3 : Int32) (H : Heap) (locs : List Loc) (ls : Array Slot), va_P (dC, dI) vwCl (wX5 dA ad c_tree_parts c_bond_terms c_penceByUps c_pence c_turned c_called c_hold c_value c_marks c_act c_rowOfKey) H → va_D A (wX5 dA ad c_tree_parts c_bond_terms c_penceByUps c_pence c_turned c_called c_hold c_value c_marks c_act c_rowOfKey) → va_S A s.heap H locs → lpX5_stateRow_4 c_rowOfKey n x2 x3 = some (tgo, o3) → lv_has ls 4 [(0, .ref (ad 0)), (2, .int x2), (3, .int x3)] → (tgo = 0 → ∀ (H : Heap) (locs : List Loc) (ls : Array Slot), va_P (dC, dI) vwCl (wX5 dA ad c_tree_parts c_bond_terms c_penceByUps c_pence c_turned c_called c_hold c_value c_marks c_act c_rowOfKey) H → va_D A (wX5 dA ad c_tree_parts c_bond_terms c_penceByUps c_pence c_turned c_called c_hold c_value c_marks c_act c_rowOfKey) → va_S A s.heap H locs → lv_has ls 4 [(0, .ref (ad 0)), (3, .int o3)] → W p l e rmX5_stateRow s m ([.ref (ad 0), .int p1] : List Value).toArray below meth c H locs 0 0 Q (F0 m 23 ls [])) → (tgo = 1 → ∀ (H : Heap) (locs : List Loc) (ls : Array Slot), va_P (dC, dI) vwCl (wX5 dA ad c_tree_parts c_bond_terms c_penceByUps c_pence c_turned c_called c_hold c_value c_marks c_act c_rowOfKey) H → va_D A (wX5 dA ad c_tree_parts c_bond_terms c_penceByUps c_pence c_turned c_called c_hold c_value c_marks c_act c_rowOfKey) → va_S A s.heap H locs → lv_has ls 4 [] → W p l e rmX5_stateRow s m ([.ref (ad 0), .int p1] : List Value).toArray below meth c H locs 0 0 Q (F0 m 39 ls [])) → W p l e rmX5_stateRow s m ([.ref (ad 0), .int p1] : List Value).toArray below meth c H locs 0 0 Q (F0 m 4 ls []) := by
    intro n
    induction n with
    | zero =>
      intro c_rowOfKey c_tree_parts c_bond_terms c_penceByUps c_pence c_turned c_called c_hold c_value c_marks c_act x2 x3 tgo o3 H locs ls hP hD hS hf hl hk0 hk1
      cases hf
    | succ n ih4 =>
      intro c_rowOfKey c_tree_parts c_bond_terms c_penceByUps c_pence c_turned c_called c_hold c_value c_marks c_act x2 x3 tgo o3 H locs ls hP hD hS hf hl hk0 hk1
      rw [lpX5_stateRow_4.eq_2] at hf
      refine lv_iload_n hx hb dX5_stateRow_4 rfl (lv_at hl 2 rfl) ?_
      refine lv_bipush (v := 112) hx hb dX5_stateRow_5 (by decide) ?_
      refine lv_icmp_ge (tgt := 39) hx hb dX5_stateRow_7 (by decide) (fun k5 => ?_) (fun k5 => ?_)
      · replace hf := ifp k5 hf
        cases hf
        exact hk1 rfl _ _ _ hP hD hS (lv_sub hl [] rfl)
      · replace hf := ifn k5 hf
        refine lv_aload_n hx hb dX5_stateRow_10 rfl (lv_at hl 0 rfl) ?_
        refine va_get (D := (dC, dI)) (ci := 5) (v := .ref (ad 13)) (C := RX5) (T := TX5) (N := 11) hx hb hts (fun w h => gw_mem (inX5 w h)) hown hK.1 hP 0 rfl rfl 10 (by decide) (hts _ (gw_mem wfX5_51)) (fun _ h9 => h9) rfl dX5_stateRow_11 ?_
        refine lv_iload_n hx hb dX5_stateRow_14 rfl (lv_at hl 2 rfl) ?_
        obtain ⟨h6, hf⟩ := og_some hf
        refine va_iald hx hb hK.1 hP 13 0 rfl rfl (okI_in h6) dX5_stateRow_15 ?_
        refine lv_if_eq (tgt := 33) hx hb dX5_stateRow_16 (by decide) (fun k7 => ?_) (fun k7 => ?_)
        · replace hf := ifp k7 hf
          obtain ⟨w8, ew8⟩ : ∃ y : Int32, y = x3 + 1 := ⟨_, rfl⟩
          replace hf := nm_at hf ew8
          refine lv_iinc (v := w8) (lv' := [(3, .int w8), (0, .ref (ad 0)), (2, .int x2)]) hx hb dX5_stateRow_33 hl (k := 2) rfl (by rw [ew8]; rfl) (by decide) rfl (fun ls hl => ?_)
          refine lv_goto (tgt := 4) hx hb dX5_stateRow_36 (by decide) ?_
          exact ih4 _ _ _ _ _ _ _ _ _ _ _ _ _ _ _ _ _ _ hP hD hS hf (lv_sub hl [1, 2, 0] rfl) hk0 hk1
        · replace hf := ifn k7 hf
          refine lv_iload_n hx hb dX5_stateRow_19 rfl (lv_at hl 1 rfl) ?_
          refine lv_if_ne (tgt := 30) hx hb dX5_stateRow_20 (by decide) (fun k9 => ?_) (fun k9 => ?_)
          · replace hf := ifn k9 hf
            obtain ⟨w10, ew10⟩ : ∃ y : Int32, y = x2 + (-1) := ⟨_, rfl⟩
            replace hf := nm_at hf ew10
            refine lv_iinc (v := w10) (lv' := [(2, .int w10), (0, .ref (ad 0)), (3, .int x3)]) hx hb dX5_stateRow_30 hl (k := 1) rfl (by rw [ew10]; rfl) (by decide) rfl (fun ls hl => ?_)
            obtain ⟨w11, ew11⟩ : ∃ y : Int32, y = x3 + 1 := ⟨_, rfl⟩
            replace hf := nm_at hf ew11
            refine lv_iinc (v := w11) (lv' := [(3, .int w11), (2, .int w10), (0, .ref (ad 0))]) hx hb dX5_stateRow_33 hl (k := 2) rfl (by rw [ew11]; rfl) (by decide) rfl (fun ls hl => ?_)
            refine lv_goto (tgt := 4) hx hb dX5_stateRow_36 (by decide) ?_
            exact ih4 _ _ _ _ _ _ _ _ _ _ _ _ _ _ _ _ _ _ hP hD hS hf (lv_sub hl [2, 1, 0] rfl) hk0 hk1
          · replace hf := ifp k9 hf
            cases hf
            exact hk0 rfl _ _ _ hP hD hS (lv_sub hl [0, 2] rfl)
  subst hQ
  unfold fX5_stateRow at hf
  refine lv_iload_n hx hb dX5_stateRow_0 rfl (lv_at hl 1 rfl) ?_
  refine lv_istore_n (lv' := [(2, .int p1), (0, .ref (ad 0)), (1, .int p1)]) hx hb dX5_stateRow_1 rfl hl (by decide) rfl (fun ls hl => ?_)
  refine lv_iconst (v := 0) hx hb dX5_stateRow_2 (by decide) ?_
  refine lv_istore_n (lv' := [(3, .int 0), (2, .int p1), (0, .ref (ad 0)), (1, .int p1)]) hx hb dX5_stateRow_3 rfl hl (by decide) rfl (fun ls hl => ?_)
  obtain ⟨tg1, x2, v3, hf⟩ := bd2_some hf
  refine LP4 FU _ _ _ _ _ _ _ _ _ _ _ _ _ _ _ _ _ _ hP hD hS v3 (lv_sub hl [2, 1, 0] rfl) (fun etg1 H locs ls hP hD hS hl => ?_) (fun etg1 H locs ls hP hD hS hl => ?_)
  · replace hf := ifp etg1 hf
    refine lv_aload_n hx hb dX5_stateRow_23 rfl (lv_at hl 0 rfl) ?_
    refine va_get (D := (dC, dI)) (ci := 5) (v := .ref (ad 13)) (C := RX5) (T := TX5) (N := 11) hx hb hts (fun w h => gw_mem (inX5 w h)) hown hK.1 hP 0 rfl rfl 10 (by decide) (hts _ (gw_mem wfX5_51)) (fun _ h9 => h9) rfl dX5_stateRow_24 ?_
    refine lv_iload_n hx hb dX5_stateRow_27 rfl (lv_at hl 1 rfl) ?_
    obtain ⟨h4, hf⟩ := og_some hf
    refine va_iald hx hb hK.1 hP 13 0 rfl rfl (okI_in h4) dX5_stateRow_28 ?_
    cases hf
    exact W.iret hx hb hr (fun t ht _ => gqi hP hD hS ht) hS.2.2 dX5_stateRow_29
  · replace hf := ifn (c := tg1 = 0) (by rw [etg1]; decide) hf
    refine lv_iconst (v := 0) hx hb dX5_stateRow_39 (by decide) ?_
    cases hf
    exact W.iret hx hb hr (fun t ht _ => gqi hP hD hS ht) hS.2.2 dX5_stateRow_40
