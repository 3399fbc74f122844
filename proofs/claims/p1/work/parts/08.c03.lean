theorem ccX5_X5_isComeTo {R : Room} {s : State} {args : Array Value} {c0 : Cond} (ht : ∀ w ∈ wq c0, w.before args s = true) (hR : rmX5_isComeTo.frames + 1 ≤ R.frames ∧ 8 + (3 + 11) + rmX5_isComeTo.locals ≤ R.locals) : CallW R s args RX5 RX5 214 yX5_isComeTo cX5_isComeTo 3 (some .boolean) (wq (.code yX5_isComeTo cX5_isComeTo 3 (some .boolean))) rmX5_isComeTo 0 0 1 := gCW 1 ht wcX5_isComeTo wmX5_214 wiX5_isComeTo weX5_isComeTo wnX5 (by decide +kernel) rfl rfl hR
theorem ccX5_X7_chanceOf {R : Room} {s : State} {args : Array Value} {c0 : Cond} (ht : ∀ w ∈ wq c0, w.before args s = true) (hR : rmX7_chanceOf.frames + 1 ≤ R.frames ∧ 8 + (5 + 11) + rmX7_chanceOf.locals ≤ R.locals) : CallW R s args RX5 RX7 217 yX7_chanceOf cX7_chanceOf 5 (some .long) (wq (.code yX7_chanceOf cX7_chanceOf 5 (some .long))) rmX7_chanceOf 0 0 2 := gCW 2 ht wcX7_chanceOf wmX5_217 wiX7_chanceOf weX7_chanceOf wnX7 (by decide +kernel) rfl rfl hR
def lpX5_chanceOfEnd_5 (x1 : Int32) (c_tree_parts : Nat → Int32) (c_act : Nat → Int32) : Nat → Int64 → Int32 → Option (Int64)
  | 0, _, _ => none
  | n + 1, x2, x4 => bd1 (fX5_lastRow c_tree_parts) (fun r3 => if r3 < x4 then some (x2) else bd1 (fX5_actAt x4 c_act) (fun r6 => if r6 = x1 then bd1 (fX5_isComeTo x4 c_act) (fun r10 => if r10 = 0 then nm (x4 + 1) (fun w13 => lpX5_chanceOfEnd_5 x1 c_tree_parts c_act n x2 w13) else bd1 (fX8_dayOf x4) (fun r14 => bd1 (fX8_upsOf x4) (fun r16 => bd1 (fX7_chanceOf r14 r16 c_tree_parts) (fun r18 => nm (x2 + r18) (fun w21 => nm (x4 + 1) (fun w22 => lpX5_chanceOfEnd_5 x1 c_tree_parts c_act n w21 w22)))))) else nm (x4 + 1) (fun w9 => lpX5_chanceOfEnd_5 x1 c_tree_parts c_act n x2 w9)))
def fX5_chanceOfEnd (p1 : Int32) (c_tree_parts : Nat → Int32) (c_act : Nat → Int32) : Option (Int64) := bd1 (lpX5_chanceOfEnd_5 p1 c_tree_parts c_act FU 0 1) (fun x1 => some (x1))
abbrev rmX5_chanceOfEnd : Room := { frames := 3, cells := 0, slots := 0, locals := 67 }
set_option maxHeartbeats 4000000 in
set_option maxRecDepth 100000 in
theorem tX5_chanceOfEnd (l : Launch) (dC : Nat → ClassId) (dI : Nat → Nat → Nat) (dA : Nat → ClassId) (ad : Nat → Nat) (sz : Nat) {p1 : Int32} {c_tree_parts : Nat → Int32} {c_bond_terms : Nat → Int32} {c_penceByUps : Nat → Int64} {c_pence : Nat → Int64} {c_turned : Nat → Int64} {c_called : Nat → Int64} {c_hold : Nat → Int64} {c_value : Nat → Int64} {c_marks : Nat → Int32} {c_act : Nat → Int32} {c_rowOfKey : Nat → Int32} {r : Int64} (hf : fX5_chanceOfEnd p1 c_tree_parts c_act = some (r)) : Met l yX5_chanceOfEnd (wq (Cond.code yX5_chanceOfEnd cX5_chanceOfEnd 5 (some .long))) rmX5_chanceOfEnd (gP [.ref (ad 0), .int p1] (dC, dI) dA (wX5 dA ad c_tree_parts c_bond_terms c_penceByUps c_pence c_turned c_called c_hold c_value c_marks c_act c_rowOfKey) sz) (gQl (dC, dI) r (wX5 dA ad c_tree_parts c_bond_terms c_penceByUps c_pence c_turned c_called c_hold c_value c_marks c_act c_rowOfKey) (va_A (wX5 dA ad c_tree_parts c_bond_terms c_penceByUps c_pence c_turned c_called c_hold c_value c_marks c_act c_rowOfKey) sz)) 0 0 (va_A (wX5 dA ad c_tree_parts c_bond_terms c_penceByUps c_pence c_turned c_called c_hold c_value c_marks c_act c_rowOfKey) sz) := by
  refine Met.ofW (cc := cX5_chanceOfEnd) (maxL := 5) (ret := (some .long)) (by decide) rfl ?_
  intro p e s m args below meth c s₁ B hml hv
  obtain ⟨rfl, hsz, hP, hK, hD0⟩ := hv
  have hx := B.exec
  have hb := B.bytes
  have hr := B.returns
  have hts := atoms_spec (ws := wq (Cond.code yX5_chanceOfEnd cX5_chanceOfEnd 5 (some .long))) B.pre
  have hown : s.vm.findClass RX5 = some m.cls := findClass_of_methodNamed B.named
  have hlocks := B.notSynchronized
  clear B
  subst hsz
  have hD := hD0.self (sz := s.heap.size)
  generalize hAe : va_A (wX5 dA ad c_tree_parts c_bond_terms c_penceByUps c_pence c_turned c_called c_hold c_value c_marks c_act c_rowOfKey) s.heap.size = A at hD ⊢
  have hA : ∀ q : Nat, s.heap.size ≤ q → A q := fun q h => by rw [← hAe]; exact Or.inr h
  clear hAe hD0
  have hS : va_S A s.heap s.heap [] := va_S.rf
  have hl := lv_entry ([.ref (ad 0), .int p1]) (n := 5) (Nat.le_of_ble_eq_true rfl)
  rw [lg_entry_eq]
  generalize (lg_sl ([.ref (ad 0), .int p1]) ++ List.replicate (5 - (lg_sl ([.ref (ad 0), .int p1])).length) Slot.unset).toArray = ls at hl ⊢
  have hl : lv_has ls 5 [(0, .ref (ad 0)), (1, .int p1)] := hl
  change W p l e rmX5_chanceOfEnd s m ([.ref (ad 0), .int p1] : List Value).toArray below meth c s.heap [] 0 0 _ _
  generalize hQ : MQ below (gQl (dC, dI) r (wX5 dA ad c_tree_parts c_bond_terms c_penceByUps c_pence c_turned c_called c_hold c_value c_marks c_act c_rowOfKey) A) ([.ref (ad 0), .int p1] : List Value).toArray s 0 0 A = Q
  have LP5 : ∀ (n : Nat) (x1 : Int32) (c_tree_parts : Nat → Int32) (c_act : Nat → Int32) (c_bond_terms : Nat → Int32) (c_penceByUps : Nat → Int64) (c_pence : Nat → Int64) (c_turned : Nat → Int64) (c_called : Nat → Int64) (c_hold : Nat → Int64) (c_value : Nat → Int64) (c_marks : Nat → Int32) (c_rowOfKey : Nat → Int32) (x2 : Int64) (x4 : Int32) (o2 : Int64) (H : Heap) (locs : List Loc) (ls : Array Slot), va_P (dC, dI) vwCl (wX5 dA ad c_tree_parts c_bond_terms c_penceByUps c_pence c_turned c_called c_hold c_value c_marks c_act c_rowOfKey) H → va_D A (wX5 dA ad c_tree_parts c_bond_terms c_penceByUps c_pence c_turned c_called c_hold c_value c_marks c_act c_rowOfKey) → va_S A s.heap H locs → lpX5_chanceOfEnd_5 x1 c_tree_parts c_act n x2 x4 = some (o2) → lv_has ls 5 [(0, .ref (ad 0)), (1, .int x1), (2, .long x2), (4, .int x4)] → (∀ (H : Heap) (locs : List Loc) (ls : Array Slot), va_P (dC, dI) vwCl (wX5 dA ad c_tree_parts c_bond_terms c_penceByUps c_pence c_turned c_called c_hold c_value c_marks c_act c_rowOfKey) H → va_D A (wX5 dA ad c_tree_parts c_bond_terms c_penceByUps c_pence c_turned c_called c_hold c_value c_marks c_act c_rowOfKey) → va_S A s.heap H locs → lv_has ls 5 [(2, .long o2)] → W p l e rmX5_chanceOfEnd s m ([.ref (ad 0), .int p1] : List Value).toArray below meth c H locs 0 0 Q (F0 m 59 ls [])) → W p l e rmX5_chanceOfEnd s m ([.ref (ad 0), .int p1] : List Value).toArray below meth c H locs 0 0 Q (F0 m 5 ls []) := by
    intro n
    induction n with
    | zero =>
      intro x1 c_tree_parts c_act c_bond_terms c_penceByUps c_pence c_turned c_called c_hold c_value c_marks c_rowOfKey x2 x4 o2 H locs ls hP hD hS hf hl hk
      cases hf
    | succ n ih5 =>
      intro x1 c_tree_parts c_act c_bond_terms c_penceByUps c_pence c_turned c_called c_hold c_value c_marks c_rowOfKey x2 x4 o2 H locs ls hP hD hS hf hl hk
      rw [lpX5_chanceOfEnd_5.eq_2] at hf
      refine lv_iload hx hb dX5_chanceOfEnd_5 (lv_at hl 3 rfl) ?_
      refine lv_aload_n hx hb dX5_chanceOfEnd_7 rfl (lv_at hl 0 rfl) ?_
      obtain ⟨r3, v4, hf⟩ := bd1_some hf
      refine gci (va_runV (As := []) (rest := [.int x4]) ⟨hx, hb, hml, hown, hts⟩ (tX5_lastRow l dC dI dA ad H.size v4) (ccX5_X5_lastRow hts ⟨Nat.le_of_ble_eq_true rfl, Nat.le_of_ble_eq_true rfl⟩) (gPreV (ci := 5) (q0 := 0) hP hK hD rfl rfl) rfl rfl hl.1 rfl (lv_room (Nat.le_of_ble_eq_true rfl)) dX5_chanceOfEnd_8 ⟨Nat.le_of_ble_eq_true rfl, Nat.le_of_ble_eq_true rfl⟩) hD hS hA (fun H locs hP hD hS => ?_)
      refine lv_icmp_gt (tgt := 59) hx hb dX5_chanceOfEnd_11 (by decide) (fun k5 => ?_) (fun k5 => ?_)
      · replace hf := ifp k5 hf
        cases hf
        exact hk _ _ _ hP hD hS (lv_sub hl [2] rfl)
      · replace hf := ifn k5 hf
        refine lv_aload_n hx hb dX5_chanceOfEnd_14 rfl (lv_at hl 0 rfl) ?_
        refine lv_iload hx hb dX5_chanceOfEnd_15 (lv_at hl 3 rfl) ?_
        obtain ⟨r6, v7, hf⟩ := bd1_some hf
        refine gci (va_runV (As := [.int x4]) (rest := []) ⟨hx, hb, hml, hown, hts⟩ (tX5_actAt l dC dI dA ad H.size v7) (ccX5_X5_actAt hts ⟨Nat.le_of_ble_eq_true rfl, Nat.le_of_ble_eq_true rfl⟩) (gPreV (ci := 5) (q0 := 0) hP hK hD rfl rfl) rfl rfl hl.1 rfl (lv_room (Nat.le_of_ble_eq_true rfl)) dX5_chanceOfEnd_17 ⟨Nat.le_of_ble_eq_true rfl, Nat.le_of_ble_eq_true rfl⟩) hD hS hA (fun H locs hP hD hS => ?_)
        refine lv_iload_n hx hb dX5_chanceOfEnd_20 rfl (lv_at hl 1 rfl) ?_
        refine lv_icmp_ne (tgt := 53) hx hb dX5_chanceOfEnd_21 (by decide) (fun k8 => ?_) (fun k8 => ?_)
        · replace hf := ifn k8 hf
          obtain ⟨w9, ew9⟩ : ∃ y : Int32, y = x4 + 1 := ⟨_, rfl⟩
          replace hf := nm_at hf ew9
          refine lv_iinc (v := w9) (lv' := [(4, .int w9), (0, .ref (ad 0)), (1, .int x1), (2, .long x2)]) hx hb dX5_chanceOfEnd_53 hl (k := 3) rfl (by rw [ew9]; rfl) (by decide) rfl (fun ls hl => ?_)
          refine lv_goto (tgt := 5) hx hb dX5_chanceOfEnd_56 (by decide) ?_
          exact ih5 _ _ _ _ _ _ _ _ _ _ _ _ _ _ _ _ _ _ hP hD hS hf (lv_sub hl [1, 2, 3, 0] rfl) hk
        · replace hf := ifp k8 hf
          refine lv_aload_n hx hb dX5_chanceOfEnd_24 rfl (lv_at hl 0 rfl) ?_
          refine lv_iload hx hb dX5_chanceOfEnd_25 (lv_at hl 3 rfl) ?_
          obtain ⟨r10, v11, hf⟩ := bd1_some hf
          refine gci (va_runV (As := [.int x4]) (rest := []) ⟨hx, hb, hml, hown, hts⟩ (tX5_isComeTo l dC dI dA ad H.size v11) (ccX5_X5_isComeTo hts ⟨Nat.le_of_ble_eq_true rfl, Nat.le_of_ble_eq_true rfl⟩) (gPreV (ci := 5) (q0 := 0) hP hK hD rfl rfl) rfl rfl hl.1 rfl (lv_room (Nat.le_of_ble_eq_true rfl)) dX5_chanceOfEnd_27 ⟨Nat.le_of_ble_eq_true rfl, Nat.le_of_ble_eq_true rfl⟩) hD hS hA (fun H locs hP hD hS => ?_)
          refine lv_if_eq (tgt := 53) hx hb dX5_chanceOfEnd_30 (by decide) (fun k12 => ?_) (fun k12 => ?_)
          · replace hf := ifp k12 hf
            obtain ⟨w13, ew13⟩ : ∃ y : Int32, y = x4 + 1 := ⟨_, rfl⟩
            replace hf := nm_at hf ew13
            refine lv_iinc (v := w13) (lv' := [(4, .int w13), (0, .ref (ad 0)), (1, .int x1), (2, .long x2)]) hx hb dX5_chanceOfEnd_53 hl (k := 3) rfl (by rw [ew13]; rfl) (by decide) rfl (fun ls hl => ?_)
            refine lv_goto (tgt := 5) hx hb dX5_chanceOfEnd_56 (by decide) ?_
            exact ih5 _ _ _ _ _ _ _ _ _ _ _ _ _ _ _ _ _ _ hP hD hS hf (lv_sub hl [1, 2, 3, 0] rfl) hk
          · replace hf := ifn k12 hf
            refine lv_lload_n hx hb dX5_chanceOfEnd_33 rfl (lv_at hl 2 rfl) ?_
            refine lv_aload_n hx hb dX5_chanceOfEnd_34 rfl (lv_at hl 0 rfl) ?_
            refine va_get (D := (dC, dI)) (ci := 5) (v := .ref (ad 1)) (C := RX5) (T := TX5) (N := 11) hx hb hts (fun w h => gw_mem (inX5 w h)) hown hK.1 hP 0 rfl rfl 0 (by decide) (hts _ (gw_mem wfX5_12)) (fun _ h9 => h9) rfl dX5_chanceOfEnd_35 ?_
            refine lv_iload hx hb dX5_chanceOfEnd_38 (lv_at hl 3 rfl) ?_
            obtain ⟨r14, v15, hf⟩ := bd1_some hf
            refine gci0 (va_runSN (As := [.int x4]) (rest := [.ref (ad 1), .long x2]) ⟨hx, hb, hml, hown, hts⟩ (tX8_dayOf l dC dI dA H.size v15) (ccX5_X8_dayOf hK.2 hts ⟨Nat.le_of_ble_eq_true rfl, Nat.le_of_ble_eq_true rfl⟩) (gPreS0 hK) rfl rfl hl.1 rfl (lv_room (Nat.le_of_ble_eq_true rfl)) dX5_chanceOfEnd_40 ⟨Nat.le_of_ble_eq_true rfl, Nat.le_of_ble_eq_true rfl⟩) hP hS hA (fun H locs hP hS => ?_)
            refine lv_iload hx hb dX5_chanceOfEnd_43 (lv_at hl 3 rfl) ?_
            obtain ⟨r16, v17, hf⟩ := bd1_some hf
            refine gci0 (va_runSN (As := [.int x4]) (rest := [.int r14, .ref (ad 1), .long x2]) ⟨hx, hb, hml, hown, hts⟩ (tX8_upsOf l dC dI dA H.size v17) (ccX5_X8_upsOf hK.2 hts ⟨Nat.le_of_ble_eq_true rfl, Nat.le_of_ble_eq_true rfl⟩) (gPreS0 hK) rfl rfl hl.1 rfl (lv_room (Nat.le_of_ble_eq_true rfl)) dX5_chanceOfEnd_45 ⟨Nat.le_of_ble_eq_true rfl, Nat.le_of_ble_eq_true rfl⟩) hP hS hA (fun H locs hP hS => ?_)
            obtain ⟨r18, v19, hf⟩ := bd1_some hf
            have z20 : [1, 2].map (fun i => ((wX5 dA ad c_tree_parts c_bond_terms c_penceByUps c_pence c_turned c_called c_hold c_value c_marks c_act c_rowOfKey))[i]?) = ((wX7 dA (fun i => ad (i + 1)) c_tree_parts)).map some := rfl
            refine gpl [1, 2] [0, 3, 4, 5, 6, 7, 8, 9, 10, 11, 12, 13] [0, 12, 13, 1, 2, 3, 4, 5, 6, 7, 8, 9, 10, 11] (wf := (wX5 dA ad c_tree_parts c_bond_terms c_penceByUps c_pence c_turned c_called c_hold c_value c_marks c_act c_rowOfKey)) (va_runV (As := [.int r14, .int r16]) (rest := [.long x2]) ⟨hx, hb, hml, hown, hts⟩ (tX7_chanceOf l dC dI dA (fun i => ad (i + 1)) H.size v19) (ccX5_X7_chanceOf hts ⟨Nat.le_of_ble_eq_true rfl, Nat.le_of_ble_eq_true rfl⟩) (gPreV (ci := 7) (q0 := 0) (gsub z20 hP) hK (gsubD z20 (by decide) hD) rfl rfl) rfl rfl hl.1 rfl (lv_room (Nat.le_of_ble_eq_true rfl)) dX5_chanceOfEnd_48 ⟨Nat.le_of_ble_eq_true rfl, Nat.le_of_ble_eq_true rfl⟩) hP hD hS hA z20 rfl (by decide) (by decide) (by decide) rfl (fun H locs hP hD hS => ?_)
            refine lv_ladd hx hb dX5_chanceOfEnd_51 ?_
            refine lv_topl (fun w21 ew21 => ?_)
            replace hf := nm_at hf ew21
            refine lv_lstore_n (lv' := [(2, .long w21), (0, .ref (ad 0)), (1, .int x1), (4, .int x4)]) hx hb dX5_chanceOfEnd_52 rfl hl (by decide) rfl (fun ls hl => ?_)
            obtain ⟨w22, ew22⟩ : ∃ y : Int32, y = x4 + 1 := ⟨_, rfl⟩
            replace hf := nm_at hf ew22
            refine lv_iinc (v := w22) (lv' := [(4, .int w22), (2, .long w21), (0, .ref (ad 0)), (1, .int x1)]) hx hb dX5_chanceOfEnd_53 hl (k := 3) rfl (by rw [ew22]; rfl) (by decide) rfl (fun ls hl => ?_)
            refine lv_goto (tgt := 5) hx hb dX5_chanceOfEnd_56 (by decide) ?_
            exact ih5 _ _ _ _ _ _ _ _ _ _ _ _ _ _ _ _ _ _ hP hD hS hf (lv_sub hl [2, 3, 1, 0] rfl) hk
  subst hQ
  unfold fX5_chanceOfEnd at hf
  refine lv_lconst (v := 0) hx hb dX5_chanceOfEnd_0 rfl ?_
  refine lv_lstore_n (lv' := [(2, .long 0), (0, .ref (ad 0)), (1, .int p1)]) hx hb dX5_chanceOfEnd_1 rfl hl (by decide) rfl (fun ls hl => ?_)
  refine lv_iconst (v := 1) hx hb dX5_chanceOfEnd_2 (by decide) ?_
  refine lv_istore (lv' := [(4, .int 1), (2, .long 0), (0, .ref (ad 0)), (1, .int p1)]) hx hb dX5_chanceOfEnd_3 hl (by decide) rfl (fun ls hl => ?_)
  obtain ⟨x1, v2, hf⟩ := bd1_some hf
  refine LP5 FU _ _ _ _ _ _ _ _ _ _ _ _ _ _ _ _ _ _ hP hD hS v2 (lv_sub hl [2, 3, 1, 0] rfl) (fun H locs ls hP hD hS hl => ?_)
  refine lv_lload_n hx hb dX5_chanceOfEnd_59 rfl (lv_at hl 0 rfl) ?_
  cases hf
  exact W.lret hx hb hr (fun t ht _ => gql hP hD hS ht) hS.2.2 dX5_chanceOfEnd_60
def lpX5_chancesTimesDays_4 (c_tree_parts : Nat → Int32) (c_act : Nat → Int32) : Nat → Int64 → Int32 → Option (Int64)
  | 0, _, _ => none
  | n + 1, x1, x3 => bd1 (fX5_lastRow c_tree_parts) (fun r3 => if r3 < x3 then some (x1) else bd1 (fX5_actAt x3 c_act) (fun r6 => if r6 = 0 then nm (x3 + 1) (fun w9 => lpX5_chancesTimesDays_4 c_tree_parts c_act n x1 w9) else bd1 (fX5_isComeTo x3 c_act) (fun r10 => if r10 = 0 then nm (x3 + 1) (fun w13 => lpX5_chancesTimesDays_4 c_tree_parts c_act n x1 w13) else bd1 (fX8_dayOf x3) (fun r14 => bd1 (fX8_dayOf x3) (fun r16 => bd1 (fX8_upsOf x3) (fun r18 => bd1 (fX7_chanceOf r16 r18 c_tree_parts) (fun r20 => nm (x1 + ((Int32.toInt64 r14) * r20)) (fun w23 => nm (x3 + 1) (fun w24 => lpX5_chancesTimesDays_4 c_tree_parts c_act n w23 w24)))))))))
def fX5_chancesTimesDays (c_tree_parts : Nat → Int32) (c_act : Nat → Int32) : Option (Int64) := bd1 (lpX5_chancesTimesDays_4 c_tree_parts c_act FU 0 1) (fun x1 => some (x1))
abbrev rmX5_chancesTimesDays : Room := { frames := 3, cells := 0, slots := 0, locals := 67 }
set_option maxHeartbeats 4000000 in
set_option maxRecDepth 100000 in
theorem tX5_chancesTimesDays (l : Launch) (dC : Nat → ClassId) (dI : Nat → Nat → Nat) (dA : Nat → ClassId) (ad : Nat → Nat) (sz : Nat) {c_tree_parts : Nat → Int32} {c_bond_terms : Nat → Int32} {c_penceByUps : Nat → Int64} {c_pence : Nat → Int64} {c_turned : Nat → Int64} {c_called : Nat → Int64} {c_hold : Nat → Int64} {c_value : Nat → Int64} {c_marks : Nat → Int32} {c_act : Nat → Int32} {c_rowOfKey : Nat → Int32} {r : Int64} (hf : fX5_chancesTimesDays c_tree_parts c_act = some (r)) : Met l yX5_chancesTimesDays (wq (Cond.code yX5_chancesTimesDays cX5_chancesTimesDays 4 (some .long))) rmX5_chancesTimesDays (gP [.ref (ad 0)] (dC, dI) dA (wX5 dA ad c_tree_parts c_bond_terms c_penceByUps c_pence c_turned c_called c_hold c_value c_marks c_act c_rowOfKey) sz) (gQl (dC, dI) r (wX5 dA ad c_tree_parts c_bond_terms c_penceByUps c_pence c_turned c_called c_hold c_value c_marks c_act c_rowOfKey) (va_A (wX5 dA ad c_tree_parts c_bond_terms c_penceByUps c_pence c_turned c_called c_hold c_value c_marks c_act c_rowOfKey) sz)) 0 0 (va_A (wX5 dA ad c_tree_parts c_bond_terms c_penceByUps c_pence c_turned c_called c_hold c_value c_marks c_act c_rowOfKey) sz) := by
  refine Met.ofW (cc := cX5_chancesTimesDays) (maxL := 4) (ret := (some .long)) (by decide) rfl ?_
  intro p e s m args below meth c s₁ B hml hv
  obtain ⟨rfl, hsz, hP, hK, hD0⟩ := hv
  have hx := B.exec
  have hb := B.bytes
  have hr := B.returns
  have hts := atoms_spec (ws := wq (Cond.code yX5_chancesTimesDays cX5_chancesTimesDays 4 (some .long))) B.pre
  have hown : s.vm.findClass RX5 = some m.cls := findClass_of_methodNamed B.named
  have hlocks := B.notSynchronized
  clear B
  subst hsz
  have hD := hD0.self (sz := s.heap.size)
  generalize hAe : va_A (wX5 dA ad c_tree_parts c_bond_terms c_penceByUps c_pence c_turned c_called c_hold c_value c_marks c_act c_rowOfKey) s.heap.size = A at hD ⊢
  have hA : ∀ q : Nat, s.heap.size ≤ q → A q := fun q h => by rw [← hAe]; exact Or.inr h
  clear hAe hD0
  have hS : va_S A s.heap s.heap [] := va_S.rf
  have hl := lv_entry ([.ref (ad 0)]) (n := 4) (Nat.le_of_ble_eq_true rfl)
  rw [lg_entry_eq]
  generalize (lg_sl ([.ref (ad 0)]) ++ List.replicate (4 - (lg_sl ([.ref (ad 0)])).length) Slot.unset).toArray = ls at hl ⊢
  have hl : lv_has ls 4 [(0, .ref (ad 0))] := hl
  change W p l e rmX5_chancesTimesDays s m ([.ref (ad 0)] : List Value).toArray below meth c s.heap [] 0 0 _ _
  generalize hQ : MQ below (gQl (dC, dI) r (wX5 dA ad c_tree_parts c_bond_terms c_penceByUps c_pence c_turned c_called c_hold c_value c_marks c_act c_rowOfKey) A) ([.ref (ad 0)] : List Value).toArray s 0 0 A = Q
  have LP4 : ∀ (n : Nat) (c_tree_parts : Nat → Int32) (c_act : Nat → Int32) (c_bond_terms : Nat → Int32) (c_penceByUps : Nat → Int64) (c_pence : Nat → Int64) (c_turned : Nat → Int64) (c_called : Nat → Int64) (c_hold : Nat → Int64) (c_value : Nat → Int64) (c_marks : Nat → Int32) (c_rowOfKey : Nat → Int32) (x1 : Int64) (x3 : Int32) (o1 : Int64) (H : Heap) (locs : List Loc) (ls : Array Slot), va_P (dC, dI) vwCl (wX5 dA ad c_tree_parts c_bond_terms c_penceByUps c_pence c_turned c_called c_hold c_value c_marks c_act c_rowOfKey) H → va_D A (wX5 dA ad c_tree_parts c_bond_terms c_penceByUps c_pence c_turned c_called c_hold c_value c_marks c_act c_rowOfKey) → va_S A s.heap H locs → lpX5_chancesTimesDays_4 c_tree_parts c_act n x1 x3 = some (o1) → lv_has ls 4 [(0, .ref (ad 0)), (1, .long x1), (3, .int x3)] → (∀ (H : Heap) (locs : List Loc) (ls : Array Slot), va_P (dC, dI) vwCl (wX5 dA ad c_tree_parts c_bond_terms c_penceByUps c_pence c_turned c_called c_hold c_value c_marks c_act c_rowOfKey) H → va_D A (wX5 dA ad c_tree_parts c_bond_terms c_penceByUps c_pence c_turned c_called c_hold c_value c_marks c_act c_rowOfKey) → va_S A s.heap H locs → lv_has ls 4 [(1, .long o1)] → W p l e rmX5_chancesTimesDays s m ([.ref (ad 0)] : List Value).toArray below meth c H locs 0 0 Q (F0 m 58 ls [])) → W p l e rmX5_chancesTimesDays s m ([.ref (ad 0)] : List Value).toArray below meth c H locs 0 0 Q (F0 m 4 ls []) := by
    intro n
    induction n with
    | zero =>
      intro c_tree_parts c_act c_bond_terms c_penceByUps c_pence c_turned c_called c_hold c_value c_marks c_rowOfKey x1 x3 o1 H locs ls hP hD hS hf hl hk
      cases hf
    | succ n ih4 =>
      intro c_tree_parts c_act c_bond_terms c_penceByUps c_pence c_turned c_called c_hold c_value c_marks c_rowOfKey x1 x3 o1 H locs ls hP hD hS hf hl hk
      rw [lpX5_chancesTimesDays_4.eq_2] at hf
      refine lv_iload_n hx hb dX5_chancesTimesDays_4 rfl (lv_at hl 2 rfl) ?_
      refine lv_aload_n hx hb dX5_chancesTimesDays_5 rfl (lv_at hl 0 rfl) ?_
      obtain ⟨r3, v4, hf⟩ := bd1_some hf
      refine gci (va_runV (As := []) (rest := [.int x3]) ⟨hx, hb, hml, hown, hts⟩ (tX5_lastRow l dC dI dA ad H.size v4) (ccX5_X5_lastRow hts ⟨Nat.le_of_ble_eq_true rfl, Nat.le_of_ble_eq_true rfl⟩) (gPreV (ci := 5) (q0 := 0) hP hK hD rfl rfl) rfl rfl hl.1 rfl (lv_room (Nat.le_of_ble_eq_true rfl)) dX5_chancesTimesDays_6 ⟨Nat.le_of_ble_eq_true rfl, Nat.le_of_ble_eq_true rfl⟩) hD hS hA (fun H locs hP hD hS => ?_)
      refine lv_icmp_gt (tgt := 58) hx hb dX5_chancesTimesDays_9 (by decide) (fun k5 => ?_) (fun k5 => ?_)
      · replace hf := ifp k5 hf
        cases hf
        exact hk _ _ _ hP hD hS (lv_sub hl [1] rfl)
      · replace hf := ifn k5 hf
        refine lv_aload_n hx hb dX5_chancesTimesDays_12 rfl (lv_at hl 0 rfl) ?_
        refine lv_iload_n hx hb dX5_chancesTimesDays_13 rfl (lv_at hl 2 rfl) ?_
        obtain ⟨r6, v7, hf⟩ := bd1_some hf
        refine gci (va_runV (As := [.int x3]) (rest := []) ⟨hx, hb, hml, hown, hts⟩ (tX5_actAt l dC dI dA ad H.size v7) (ccX5_X5_actAt hts ⟨Nat.le_of_ble_eq_true rfl, Nat.le_of_ble_eq_true rfl⟩) (gPreV (ci := 5) (q0 := 0) hP hK hD rfl rfl) rfl rfl hl.1 rfl (lv_room (Nat.le_of_ble_eq_true rfl)) dX5_chancesTimesDays_14 ⟨Nat.le_of_ble_eq_true rfl, Nat.le_of_ble_eq_true rfl⟩) hD hS hA (fun H locs hP hD hS => ?_)
        refine lv_if_eq (tgt := 52) hx hb dX5_chancesTimesDays_17 (by decide) (fun k8 => ?_) (fun k8 => ?_)
        · replace hf := ifp k8 hf
          obtain ⟨w9, ew9⟩ : ∃ y : Int32, y = x3 + 1 := ⟨_, rfl⟩
          replace hf := nm_at hf ew9
          refine lv_iinc (v := w9) (lv' := [(3, .int w9), (0, .ref (ad 0)), (1, .long x1)]) hx hb dX5_chancesTimesDays_52 hl (k := 2) rfl (by rw [ew9]; rfl) (by decide) rfl (fun ls hl => ?_)
          refine lv_goto (tgt := 4) hx hb dX5_chancesTimesDays_55 (by decide) ?_
          exact ih4 _ _ _ _ _ _ _ _ _ _ _ _ _ _ _ _ _ hP hD hS hf (lv_sub hl [1, 2, 0] rfl) hk
        · replace hf := ifn k8 hf
          refine lv_aload_n hx hb dX5_chancesTimesDays_20 rfl (lv_at hl 0 rfl) ?_
          refine lv_iload_n hx hb dX5_chancesTimesDays_21 rfl (lv_at hl 2 rfl) ?_
          obtain ⟨r10, v11, hf⟩ := bd1_some hf
          refine gci (va_runV (As := [.int x3]) (rest := []) ⟨hx, hb, hml, hown, hts⟩ (tX5_isComeTo l dC dI dA ad H.size v11) (ccX5_X5_isComeTo hts ⟨Nat.le_of_ble_eq_true rfl, Nat.le_of_ble_eq_true rfl⟩) (gPreV (ci := 5) (q0 := 0) hP hK hD rfl rfl) rfl rfl hl.1 rfl (lv_room (Nat.le_of_ble_eq_true rfl)) dX5_chancesTimesDays_22 ⟨Nat.le_of_ble_eq_true rfl, Nat.le_of_ble_eq_true rfl⟩) hD hS hA (fun H locs hP hD hS => ?_)
          refine lv_if_eq (tgt := 52) hx hb dX5_chancesTimesDays_25 (by decide) (fun k12 => ?_) (fun k12 => ?_)
          · replace hf := ifp k12 hf
            obtain ⟨w13, ew13⟩ : ∃ y : Int32, y = x3 + 1 := ⟨_, rfl⟩
            replace hf := nm_at hf ew13
            refine lv_iinc (v := w13) (lv' := [(3, .int w13), (0, .ref (ad 0)), (1, .long x1)]) hx hb dX5_chancesTimesDays_52 hl (k := 2) rfl (by rw [ew13]; rfl) (by decide) rfl (fun ls hl => ?_)
            refine lv_goto (tgt := 4) hx hb dX5_chancesTimesDays_55 (by decide) ?_
            exact ih4 _ _ _ _ _ _ _ _ _ _ _ _ _ _ _ _ _ hP hD hS hf (lv_sub hl [1, 2, 0] rfl) hk
          · replace hf := ifn k12 hf
            refine lv_lload_n hx hb dX5_chancesTimesDays_28 rfl (lv_at hl 1 rfl) ?_
            refine lv_iload_n hx hb dX5_chancesTimesDays_29 rfl (lv_at hl 2 rfl) ?_
            obtain ⟨r14, v15, hf⟩ := bd1_some hf
            refine gci0 (va_runSN (As := [.int x3]) (rest := [.long x1]) ⟨hx, hb, hml, hown, hts⟩ (tX8_dayOf l dC dI dA H.size v15) (ccX5_X8_dayOf hK.2 hts ⟨Nat.le_of_ble_eq_true rfl, Nat.le_of_ble_eq_true rfl⟩) (gPreS0 hK) rfl rfl hl.1 rfl (lv_room (Nat.le_of_ble_eq_true rfl)) dX5_chancesTimesDays_30 ⟨Nat.le_of_ble_eq_true rfl, Nat.le_of_ble_eq_true rfl⟩) hP hS hA (fun H locs hP hS => ?_)
            refine lv_i2l hx hb dX5_chancesTimesDays_33 rfl ?_
            refine lv_aload_n hx hb dX5_chancesTimesDays_34 rfl (lv_at hl 0 rfl) ?_
            refine va_get (D := (dC, dI)) (ci := 5) (v := .ref (ad 1)) (C := RX5) (T := TX5) (N := 11) hx hb hts (fun w h => gw_mem (inX5 w h)) hown hK.1 hP 0 rfl rfl 0 (by decide) (hts _ (gw_mem wfX5_12)) (fun _ h9 => h9) rfl dX5_chancesTimesDays_35 ?_
            refine lv_iload_n hx hb dX5_chancesTimesDays_38 rfl (lv_at hl 2 rfl) ?_
            obtain ⟨r16, v17, hf⟩ := bd1_some hf
            refine gci0 (va_runSN (As := [.int x3]) (rest := [.ref (ad 1), .long (Int32.toInt64 r14), .long x1]) ⟨hx, hb, hml, hown, hts⟩ (tX8_dayOf l dC dI dA H.size v17) (ccX5_X8_dayOf hK.2 hts ⟨Nat.le_of_ble_eq_true rfl, Nat.le_of_ble_eq_true rfl⟩) (gPreS0 hK) rfl rfl hl.1 rfl (lv_room (Nat.le_of_ble_eq_true rfl)) dX5_chancesTimesDays_39 ⟨Nat.le_of_ble_eq_true rfl, Nat.le_of_ble_eq_true rfl⟩) hP hS hA (fun H locs hP hS => ?_)
            refine lv_iload_n hx hb dX5_chancesTimesDays_42 rfl (lv_at hl 2 rfl) ?_
            obtain ⟨r18, v19, hf⟩ := bd1_some hf
            refine gci0 (va_runSN (As := [.int x3]) (rest := [.int r16, .ref (ad 1), .long (Int32.toInt64 r14), .long x1]) ⟨hx, hb, hml, hown, hts⟩ (tX8_upsOf l dC dI dA H.size v19) (ccX5_X8_upsOf hK.2 hts ⟨Nat.le_of_ble_eq_true rfl, Nat.le_of_ble_eq_true rfl⟩) (gPreS0 hK) rfl rfl hl.1 rfl (lv_room (Nat.le_of_ble_eq_true rfl)) dX5_chancesTimesDays_43 ⟨Nat.le_of_ble_eq_true rfl, Nat.le_of_ble_eq_true rfl⟩) hP hS hA (fun H locs hP hS => ?_)
            obtain ⟨r20, v21, hf⟩ := bd1_some hf
            have z22 : [1, 2].map (fun i => ((wX5 dA ad c_tree_parts c_bond_terms c_penceByUps c_pence c_turned c_called c_hold c_value c_marks c_act c_rowOfKey))[i]?) = ((wX7 dA (fun i => ad (i + 1)) c_tree_parts)).map some := rfl
            refine gpl [1, 2] [0, 3, 4, 5, 6, 7, 8, 9, 10, 11, 12, 13] [0, 12, 13, 1, 2, 3, 4, 5, 6, 7, 8, 9, 10, 11] (wf := (wX5 dA ad c_tree_parts c_bond_terms c_penceByUps c_pence c_turned c_called c_hold c_value c_marks c_act c_rowOfKey)) (va_runV (As := [.int r16, .int r18]) (rest := [.long (Int32.toInt64 r14), .long x1]) ⟨hx, hb, hml, hown, hts⟩ (tX7_chanceOf l dC dI dA (fun i => ad (i + 1)) H.size v21) (ccX5_X7_chanceOf hts ⟨Nat.le_of_ble_eq_true rfl, Nat.le_of_ble_eq_true rfl⟩) (gPreV (ci := 7) (q0 := 0) (gsub z22 hP) hK (gsubD z22 (by decide) hD) rfl rfl) rfl rfl hl.1 rfl (lv_room (Nat.le_of_ble_eq_true rfl)) dX5_chancesTimesDays_46 ⟨Nat.le_of_ble_eq_true rfl, Nat.le_of_ble_eq_true rfl⟩) hP hD hS hA z22 rfl (by decide) (by decide) (by decide) rfl (fun H locs hP hD hS => ?_)
            refine lv_lmul hx hb dX5_chancesTimesDays_49 ?_
            refine lv_ladd hx hb dX5_chancesTimesDays_50 ?_
            refine lv_topl (fun w23 ew23 => ?_)
            replace hf := nm_at hf ew23
            refine lv_lstore_n (lv' := [(1, .long w23), (0, .ref (ad 0)), (3, .int x3)]) hx hb dX5_chancesTimesDays_51 rfl hl (by decide) rfl (fun ls hl => ?_)
            obtain ⟨w24, ew24⟩ : ∃ y : Int32, y = x3 + 1 := ⟨_, rfl⟩
            replace hf := nm_at hf ew24
            refine lv_iinc (v := w24) (lv' := [(3, .int w24), (1, .long w23), (0, .ref (ad 0))]) hx hb dX5_chancesTimesDays_52 hl (k := 2) rfl (by rw [ew24]; rfl) (by decide) rfl (fun ls hl => ?_)
            refine lv_goto (tgt := 4) hx hb dX5_chancesTimesDays_55 (by decide) ?_
            exact ih4 _ _ _ _ _ _ _ _ _ _ _ _ _ _ _ _ _ hP hD hS hf (lv_sub hl [2, 1, 0] rfl) hk
  subst hQ
  unfold fX5_chancesTimesDays at hf
  refine lv_lconst (v := 0) hx hb dX5_chancesTimesDays_0 rfl ?_
  refine lv_lstore_n (lv' := [(1, .long 0), (0, .ref (ad 0))]) hx hb dX5_chancesTimesDays_1 rfl hl (by decide) rfl (fun ls hl => ?_)
  refine lv_iconst (v := 1) hx hb dX5_chancesTimesDays_2 (by decide) ?_
  refine lv_istore_n (lv' := [(3, .int 1), (1, .long 0), (0, .ref (ad 0))]) hx hb dX5_chancesTimesDays_3 rfl hl (by decide) rfl (fun ls hl => ?_)
  obtain ⟨x1, v2, hf⟩ := bd1_some hf
  refine LP4 FU _ _ _ _ _ _ _ _ _ _ _ _ _ _ _ _ _ hP hD hS v2 (lv_sub hl [2, 1, 0] rfl) (fun H locs ls hP hD hS hl => ?_)
  refine lv_lload_n hx hb dX5_chancesTimesDays_58 rfl (lv_at hl 0 rfl) ?_
  cases hf
  exact W.lret hx hb hr (fun t ht _ => gql hP hD hS ht) hS.2.2 dX5_chancesTimesDays_59
def fX8_cameUp (p0 : Int32) : Option (Int32) := if p0 ≤ 1 then some (0) else if (p0 &&& 1) = 1 then some (1) else some (0)
abbrev rmX8_cameUp : Room := { frames := 0, cells := 0, slots := 0, locals := 0 }
set_option maxHeartbeats 4000000 in
set_option maxRecDepth 100000 in
theorem tX8_cameUp (l : Launch) (dC : Nat → ClassId) (dI : Nat → Nat → Nat) (dA : Nat → ClassId) (sz : Nat) {p0 : Int32} {r : Int32} (hf : fX8_cameUp p0 = some (r)) : Met l yX8_cameUp (wq (Cond.code yX8_cameUp cX8_cameUp 1 (some .boolean))) rmX8_cameUp (gP [.int p0] (dC, dI) dA [] sz) (gQi (dC, dI) r [] (va_A [] sz)) 0 0 (va_A [] sz) := by
  refine Met.ofW (cc := cX8_cameUp) (maxL := 1) (ret := (some .boolean)) (by decide) rfl ?_
  intro p e s m args below meth c s₁ B hml hv
  obtain ⟨rfl, hsz, hP, hK, hD0⟩ := hv
  have hx := B.exec
  have hb := B.bytes
  have hr := B.returns
  have hts := atoms_spec (ws := wq (Cond.code yX8_cameUp cX8_cameUp 1 (some .boolean))) B.pre
  have hown : s.vm.findClass RX8 = some m.cls := findClass_of_methodNamed B.named
  have hlocks := B.notSynchronized
  clear B
  subst hsz
  have hD := hD0.self (sz := s.heap.size)
  generalize hAe : va_A [] s.heap.size = A at hD ⊢
  have hA : ∀ q : Nat, s.heap.size ≤ q → A q := fun q h => by rw [← hAe]; exact Or.inr h
  clear hAe hD0
  have hS : va_S A s.heap s.heap [] := va_S.rf
  have hl := lv_entry ([.int p0]) (n := 1) (Nat.le_of_ble_eq_true rfl)
  rw [lg_entry_eq]
  generalize (lg_sl ([.int p0]) ++ List.replicate (1 - (lg_sl ([.int p0])).length) Slot.unset).toArray = ls at hl ⊢
  have hl : lv_has ls 1 [(0, .int p0)] := hl
  change W p l e rmX8_cameUp s m ([.int p0] : List Value).toArray below meth c s.heap [] 0 0 _ _
  unfold fX8_cameUp at hf
  refine lv_iload_n hx hb dX8_cameUp_0 rfl (lv_at hl 0 rfl) ?_
  refine lv_iconst (v := 1) hx hb dX8_cameUp_1 (by decide) ?_
  refine lv_icmp_le (tgt := 16) hx hb dX8_cameUp_2 (by decide) (fun k1 => ?_) (fun k1 => ?_)
  · replace hf := ifp k1 hf
    refine lv_iconst (v := 0) hx hb dX8_cameUp_16 (by decide) ?_
    cases hf
    exact W.zret (ty := .boolean) hx hb hr rfl (fun t ht _ => gqi hP hD hS ht) hS.2.2 dX8_cameUp_17
  · replace hf := ifn k1 hf
    refine lv_iload_n hx hb dX8_cameUp_5 rfl (lv_at hl 0 rfl) ?_
    refine lv_iconst (v := 1) hx hb dX8_cameUp_6 (by decide) ?_
    refine lv_iand hx hb dX8_cameUp_7 ?_
    refine lv_iconst (v := 1) hx hb dX8_cameUp_8 (by decide) ?_
    refine lv_icmp_ne (tgt := 16) hx hb dX8_cameUp_9 (by decide) (fun k2 => ?_) (fun k2 => ?_)
    · replace hf := ifn k2 hf
      refine lv_iconst (v := 0) hx hb dX8_cameUp_16 (by decide) ?_
      cases hf
      exact W.zret (ty := .boolean) hx hb hr rfl (fun t ht _ => gqi hP hD hS ht) hS.2.2 dX8_cameUp_17
    · replace hf := ifp k2 hf
      refine lv_iconst (v := 1) hx hb dX8_cameUp_12 (by decide) ?_
      refine lv_goto (tgt := 17) hx hb dX8_cameUp_13 (by decide) ?_
      cases hf
      exact W.zret (ty := .boolean) hx hb hr rfl (fun t ht _ => gqi hP hD hS ht) hS.2.2 dX8_cameUp_17
theorem ccX5_X5_marksAt {R : Room} {s : State} {args : Array Value} {c0 : Cond} (ht : ∀ w ∈ wq c0, w.before args s = true) (hR : rmX5_marksAt.frames + 1 ≤ R.frames ∧ 8 + (2 + 11) + rmX5_marksAt.locals ≤ R.locals) : CallW R s args RX5 RX5 220 yX5_marksAt cX5_marksAt 2 (some .int) (wq (.code yX5_marksAt cX5_marksAt 2 (some .int))) rmX5_marksAt 0 0 1 := gCW 1 ht wcX5_marksAt wmX5_220 wiX5_marksAt weX5_marksAt wnX5 (by decide +kernel) rfl rfl hR
theorem ccX5_X8_cameUp {R : Room} {s : State} {args : Array Value} {c0 : Cond} (hN : gN s) (ht : ∀ w ∈ wq c0, w.before args s = true) (hR : rmX8_cameUp.frames + 1 ≤ R.frames ∧ 8 + (1 + 11) + rmX8_cameUp.locals ≤ R.locals) : va_CN R s args RX5 223 yX8_cameUp RX8 cX8_cameUp 1 (some .boolean) (wq (.code yX8_cameUp cX8_cameUp 1 (some .boolean))) rmX8_cameUp 0 0 1 ∧ (Cond.static yX8_cameUp).before args s = true ∧ True := gCSN 1 hN ht wcX8_cameUp wmX5_223 wtX8_cameUp wnX8 (by decide +kernel) rfl rfl hR
def lpX5_gatherStates_2 (x1 : Int32) : Nat → Int32 → (Nat → Int32) → Option ((Nat → Int32))
  | 0, _, _ => none
  | n + 1, x2, c_rowOfKey => if 112 ≤ x2 then some (c_rowOfKey) else og (okI x2 112) (nm (upd c_rowOfKey (Int32.toNatClampNeg x2) 0) (fun w50 => nm (x2 + 1) (fun w51 => lpX5_gatherStates_2 x1 n w51 w50)))
def lpX5_gatherStates_27 (x1 : Int32) (c_marks : Nat → Int32) (c_act : Nat → Int32) : Nat → Int32 → Int32 → (Nat → Int32) → Option (Int32 × (Nat → Int32))
  | 0, _, _, _ => none
  | n + 1, x2, x3, c_rowOfKey => if (2 <<< (x1 &&& 31)) ≤ x3 then some (x2, c_rowOfKey) else if 128 ≤ x3 then some (x2, c_rowOfKey) else bd1 (fX8_upsOf x3) (fun r9 => bd1 (fX5_marksAt x3 c_marks) (fun r11 => bd1 (fX8_cameUp x3) (fun r13 => if r13 = 0 then nm (((r9 * 16) + (r11 * 2)) + 0) (fun w16 => bd1 (fX8_within w16 0 111) (fun r17 => if r17 = 0 then nm (x3 + 1) (fun w20 => lpX5_gatherStates_27 x1 c_marks c_act n x2 w20 c_rowOfKey) else og (okI w16 112) (if (c_rowOfKey (Int32.toNatClampNeg w16)) = 0 then bd1 (fX5_isComeTo x3 c_act) (fun r24 => if r24 = 0 then nm (x3 + 1) (fun w27 => lpX5_gatherStates_27 x1 c_marks c_act n x2 w27 c_rowOfKey) else og (okI w16 112) (nm (upd c_rowOfKey (Int32.toNatClampNeg w16) x3) (fun w29 => nm (x2 + 1) (fun w30 => nm (x3 + 1) (fun w31 => lpX5_gatherStates_27 x1 c_marks c_act n w30 w31 w29))))) else nm (x3 + 1) (fun w23 => lpX5_gatherStates_27 x1 c_marks c_act n x2 w23 c_rowOfKey)))) else nm (((r9 * 16) + (r11 * 2)) + 1) (fun w32 => bd1 (fX8_within w32 0 111) (fun r33 => if r33 = 0 then nm (x3 + 1) (fun w36 => lpX5_gatherStates_27 x1 c_marks c_act n x2 w36 c_rowOfKey) else og (okI w32 112) (if (c_rowOfKey (Int32.toNatClampNeg w32)) = 0 then bd1 (fX5_isComeTo x3 c_act) (fun r40 => if r40 = 0 then nm (x3 + 1) (fun w43 => lpX5_gatherStates_27 x1 c_marks c_act n x2 w43 c_rowOfKey) else og (okI w32 112) (nm (upd c_rowOfKey (Int32.toNatClampNeg w32) x3) (fun w45 => nm (x2 + 1) (fun w46 => nm (x3 + 1) (fun w47 => lpX5_gatherStates_27 x1 c_marks c_act n w46 w47 w45))))) else nm (x3 + 1) (fun w39 => lpX5_gatherStates_27 x1 c_marks c_act n x2 w39 c_rowOfKey)))))))
def fX5_gatherStates (p1 : Int32) (c_marks : Nat → Int32) (c_act : Nat → Int32) (c_rowOfKey : Nat → Int32) : Option (Int32 × (Nat → Int32)) := bd1 (lpX5_gatherStates_2 p1 FU 0 c_rowOfKey) (fun c_rowOfKey_1 => nm (1 <<< (p1 &&& 31)) (fun w3 => bd2 (lpX5_gatherStates_27 p1 c_marks c_act FU 0 w3 c_rowOfKey_1) (fun x4 c_rowOfKey_5 => some (x4, c_rowOfKey_5))))
abbrev rmX5_gatherStates : Room := { frames := 3, cells := 0, slots := 0, locals := 66 }
set_option maxHeartbeats 4000000 in
set_option maxRecDepth 100000 in
theorem tX5_gatherStates (l : Launch) (dC : Nat → ClassId) (dI : Nat → Nat → Nat) (dA : Nat → ClassId) (ad : Nat → Nat) (sz : Nat) {p1 : Int32} {c_tree_parts : Nat → Int32} {c_bond_terms : Nat → Int32} {c_penceByUps : Nat → Int64} {c_pence : Nat → Int64} {c_turned : Nat → Int64} {c_called : Nat → Int64} {c_hold : Nat → Int64} {c_value : Nat → Int64} {c_marks : Nat → Int32} {c_act : Nat → Int32} {c_rowOfKey : Nat → Int32} {r : Int32} {o_c_rowOfKey : Nat → Int32} (hf : fX5_gatherStates p1 c_marks c_act c_rowOfKey = some (r, o_c_rowOfKey)) : Met l yX5_gatherStates (wq (Cond.code yX5_gatherStates cX5_gatherStates 5 (some .int))) rmX5_gatherStates (gP [.ref (ad 0), .int p1] (dC, dI) dA (wX5 dA ad c_tree_parts c_bond_terms c_penceByUps c_pence c_turned c_called c_hold c_value c_marks c_act c_rowOfKey) sz) (gQi (dC, dI) r (wX5 dA ad c_tree_parts c_bond_terms c_penceByUps c_pence c_turned c_called c_hold c_value c_marks c_act o_c_rowOfKey) (va_A (wX5 dA ad c_tree_parts c_bond_terms c_penceByUps c_pence c_turned c_called c_hold c_value c_marks c_act c_rowOfKey) sz)) 0 0 (va_A (wX5 dA ad c_tree_parts c_bond_terms c_penceByUps c_pence c_turned c_called c_hold c_value c_marks c_act c_rowOfKey) sz) := by
  refine Met.ofW (cc := cX5_gatherStates) (maxL := 5) (ret := (some .int)) (by decide) rfl ?_
  intro p e s m args below meth c s₁ B hml hv
  obtain ⟨rfl, hsz, hP, hK, hD0⟩ := hv
  have hx := B.exec
  have hb := B.bytes
  have hr := B.returns
  have hts := atoms_spec (ws := wq (Cond.code yX5_gatherStates cX5_gatherStates 5 (some .int))) B.pre
  have hown : s.vm.findClass RX5 = some m.cls := findClass_of_methodNamed B.named
  have hlocks := B.notSynchronized
  clear B
  subst hsz
  have hD := hD0.self (sz := s.heap.size)
  generalize hAe : va_A (wX5 dA ad c_tree_parts c_bond_terms c_penceByUps c_pence c_turned c_called c_hold c_value c_marks c_act c_rowOfKey) s.heap.size = A at hD ⊢
  have hA : ∀ q : Nat, s.heap.size ≤ q → A q := fun q h => by rw [← hAe]; exact Or.inr h
  clear hAe hD0
  have hS : va_S A s.heap s.heap [] := va_S.rf
  have hl := lv_entry ([.ref (ad 0), .int p1]) (n := 5) (Nat.le_of_ble_eq_true rfl)
  rw [lg_entry_eq]
  generalize (lg_sl ([.ref (ad 0), .int p1]) ++ List.replicate (5 - (lg_sl ([.ref (ad 0), .int p1])).length) Slot.unset).toArray = ls at hl ⊢
  have hl : lv_has ls 5 [(0, .ref (ad 0)), (1, .int p1)] := hl
  change W p l e rmX5_gatherStates s m ([.ref (ad 0), .int p1] : List Value).toArray below meth c s.heap [] 0 0 _ _
  generalize hQ : MQ below (gQi (dC, dI) r (wX5 dA ad c_tree_parts c_bond_terms c_penceByUps c_pence c_turned c_called c_hold c_value c_marks c_act o_c_rowOfKey) A) ([.ref (ad 0), .int p1] : List Value).toArray s 0 0 A = Q
  have LP2 : ∀ (n : Nat) (x1 : Int32) (c_tree_parts : Nat → Int32) (c_bond_terms : Nat → Int32) (c_penceByUps : Nat → Int64) (c_pence : Nat → Int64) (c_turned : Nat → Int64) (c_called : Nat → Int64) (c_hold : Nat → Int64) (c_value : Nat → Int64) (c_marks : Nat → Int32) (c_act : Nat → Int32) (x2 : Int32) (c_rowOfKey : Nat → Int32) (o_c_rowOfKey : Nat → Int32) (H : Heap) (locs : List Loc) (ls : Array Slot), va_P (dC, dI) vwCl (wX5 dA ad c_tree_parts c_bond_terms c_penceByUps c_pence c_turned c_called c_hold c_value c_marks c_act c_rowOfKey) H → va_D A (wX5 dA ad c_tree_parts c_bond_terms c_penceByUps c_pence c_turned c_called c_hold c_value c_marks c_act c_rowOfKey) → va_S A s.heap H locs → lpX5_gatherStates_2 x1 n x2 c_rowOfKey = some (o_c_rowOfKey) → lv_has ls 5 [(0, .ref (ad 0)), (1, .int x1), (2, .int x2)] → (∀ (H : Heap) (locs : List Loc) (ls : Array Slot), va_P (dC, dI) vwCl (wX5 dA ad c_tree_parts c_bond_terms c_penceByUps c_pence c_turned c_called c_hold c_value c_marks c_act o_c_rowOfKey) H → va_D A (wX5 dA ad c_tree_parts c_bond_terms c_penceByUps c_pence c_turned c_called c_hold c_value c_marks c_act o_c_rowOfKey) → va_S A s.heap H locs → lv_has ls 5 [(0, .ref (ad 0)), (1, .int x1)] → W p l e rmX5_gatherStates s m ([.ref (ad 0), .int p1] : List Value).toArray below meth c H locs 0 0 Q (F0 m 21 ls [])) → W p l e rmX5_gatherStates s m ([.ref (ad 0), .int p1] : List Value).toArray below meth c H locs 0 0 Q (F0 m 2 ls []) := by
    intro n
    induction n with
    | zero =>
      intro x1 c_tree_parts c_bond_terms c_penceByUps c_pence c_turned c_called c_hold c_value c_marks c_act x2 c_rowOfKey o_c_rowOfKey H locs ls hP hD hS hf hl hk
      cases hf
    | succ n ih2 =>
      intro x1 c_tree_parts c_bond_terms c_penceByUps c_pence c_turned c_called c_hold c_value c_marks c_act x2 c_rowOfKey o_c_rowOfKey H locs ls hP hD hS hf hl hk
      rw [lpX5_gatherStates_2.eq_2] at hf
      refine lv_iload_n hx hb dX5_gatherStates_2 rfl (lv_at hl 2 rfl) ?_
      refine lv_bipush (v := 112) hx hb dX5_gatherStates_3 (by decide) ?_
      refine lv_icmp_ge (tgt := 21) hx hb dX5_gatherStates_5 (by decide) (fun k48 => ?_) (fun k48 => ?_)
      · replace hf := ifp k48 hf
        cases hf
        exact hk _ _ _ hP hD hS (lv_sub hl [0, 1] rfl)
      · replace hf := ifn k48 hf
        refine lv_aload_n hx hb dX5_gatherStates_8 rfl (lv_at hl 0 rfl) ?_
        refine va_get (D := (dC, dI)) (ci := 5) (v := .ref (ad 13)) (C := RX5) (T := TX5) (N := 11) hx hb hts (fun w h => gw_mem (inX5 w h)) hown hK.1 hP 0 rfl rfl 10 (by decide) (hts _ (gw_mem wfX5_51)) (fun _ h9 => h9) rfl dX5_gatherStates_9 ?_
        refine lv_iload_n hx hb dX5_gatherStates_12 rfl (lv_at hl 2 rfl) ?_
        refine lv_iconst (v := 0) hx hb dX5_gatherStates_13 (by decide) ?_
        obtain ⟨h49, hf⟩ := og_some hf
        obtain ⟨w50, ew50⟩ : ∃ y : Nat → Int32, y = upd c_rowOfKey (Int32.toNatClampNeg x2) 0 := ⟨_, rfl⟩
        replace hf := nm_at hf ew50
        refine va_iast hx hb hK.1 hP hD hS 13 0 rfl rfl (okI_in h49) dX5_gatherStates_14 (fun H locs hP hD hS => ?_)
        have hP : va_P (dC, dI) vwCl (wX5 dA ad c_tree_parts c_bond_terms c_penceByUps c_pence c_turned c_called c_hold c_value c_marks c_act w50) H := by rw [ew50]; exact hP
        have hD : va_D A (wX5 dA ad c_tree_parts c_bond_terms c_penceByUps c_pence c_turned c_called c_hold c_value c_marks c_act w50) := by rw [ew50]; exact hD
        obtain ⟨w51, ew51⟩ : ∃ y : Int32, y = x2 + 1 := ⟨_, rfl⟩
        replace hf := nm_at hf ew51
        refine lv_iinc (v := w51) (lv' := [(2, .int w51), (0, .ref (ad 0)), (1, .int x1)]) hx hb dX5_gatherStates_15 hl (k := 2) rfl (by rw [ew51]; rfl) (by decide) rfl (fun ls hl => ?_)
        refine lv_goto (tgt := 2) hx hb dX5_gatherStates_18 (by decide) ?_
        exact ih2 _ _ _ _ _ _ _ _ _ _ _ _ _ _ _ _ _ hP hD hS hf (lv_sub hl [1, 2, 0] rfl) hk
  have LP27 : ∀ (n : Nat) (x1 : Int32) (c_marks : Nat → Int32) (c_act : Nat → Int32) (c_tree_parts : Nat → Int32) (c_bond_terms : Nat → Int32) (c_penceByUps : Nat → Int64) (c_pence : Nat → Int64) (c_turned : Nat → Int64) (c_called : Nat → Int64) (c_hold : Nat → Int64) (c_value : Nat → Int64) (x2 : Int32) (x3 : Int32) (c_rowOfKey : Nat → Int32) (o2 : Int32) (o_c_rowOfKey : Nat → Int32) (H : Heap) (locs : List Loc) (ls : Array Slot), va_P (dC, dI) vwCl (wX5 dA ad c_tree_parts c_bond_terms c_penceByUps c_pence c_turned c_called c_hold c_value c_marks c_act c_rowOfKey) H → va_D A (wX5 dA ad c_tree_parts c_bond_terms c_penceByUps c_pence c_turned c_called c_hold c_value c_marks c_act c_rowOfKey) → va_S A s.heap H locs → lpX5_gatherStates_27 x1 c_marks c_act n x2 x3 c_rowOfKey = some (o2, o_c_rowOfKey) → lv_has ls 5 [(0, .ref (ad 0)), (1, .int x1), (2, .int x2), (3, .int x3)] → (∀ (H : Heap) (locs : List Loc) (ls : Array Slot), va_P (dC, dI) vwCl (wX5 dA ad c_tree_parts c_bond_terms c_penceByUps c_pence c_turned c_called c_hold c_value c_marks c_act o_c_rowOfKey) H → va_D A (wX5 dA ad c_tree_parts c_bond_terms c_penceByUps c_pence c_turned c_called c_hold c_value c_marks c_act o_c_rowOfKey) → va_S A s.heap H locs → lv_has ls 5 [(2, .int o2)] → W p l e rmX5_gatherStates s m ([.ref (ad 0), .int p1] : List Value).toArray below meth c H locs 0 0 Q (F0 m 117 ls [])) → W p l e rmX5_gatherStates s m ([.ref (ad 0), .int p1] : List Value).toArray below meth c H locs 0 0 Q (F0 m 27 ls []) := by
    intro n
    induction n with
    | zero =>
      intro x1 c_marks c_act c_tree_parts c_bond_terms c_penceByUps c_pence c_turned c_called c_hold c_value x2 x3 c_rowOfKey o2 o_c_rowOfKey H locs ls hP hD hS hf hl hk
      cases hf
    | succ n ih27 =>
      intro x1 c_marks c_act c_tree_parts c_bond_terms c_penceByUps c_pence c_turned c_called c_hold c_value x2 x3 c_rowOfKey o2 o_c_rowOfKey H locs ls hP hD hS hf hl hk
      rw [lpX5_gatherStates_27.eq_2] at hf
      refine lv_iload_n hx hb dX5_gatherStates_27 rfl (lv_at hl 3 rfl) ?_
      refine lv_iconst (v := 2) hx hb dX5_gatherStates_28 (by decide) ?_
      refine lv_iload_n hx hb dX5_gatherStates_29 rfl (lv_at hl 1 rfl) ?_
      refine lv_ishl hx hb dX5_gatherStates_30 ?_
      refine lv_icmp_ge (tgt := 117) hx hb dX5_gatherStates_31 (by decide) (fun k7 => ?_) (fun k7 => ?_)
      · replace hf := ifp k7 hf
        cases hf
        exact hk _ _ _ hP hD hS (lv_sub hl [2] rfl)
      · replace hf := ifn k7 hf
        refine lv_iload_n hx hb dX5_gatherStates_34 rfl (lv_at hl 3 rfl) ?_
        refine lv_sipush (v := 128) hx hb dX5_gatherStates_35 (by decide) ?_
        refine lv_icmp_ge (tgt := 117) hx hb dX5_gatherStates_38 (by decide) (fun k8 => ?_) (fun k8 => ?_)
        · replace hf := ifp k8 hf
          cases hf
          exact hk _ _ _ hP hD hS (lv_sub hl [2] rfl)
        · replace hf := ifn k8 hf
          refine lv_iload_n hx hb dX5_gatherStates_41 rfl (lv_at hl 3 rfl) ?_
          obtain ⟨r9, v10, hf⟩ := bd1_some hf
          refine gci0 (va_runSN (As := [.int x3]) (rest := []) ⟨hx, hb, hml, hown, hts⟩ (tX8_upsOf l dC dI dA H.size v10) (ccX5_X8_upsOf hK.2 hts ⟨Nat.le_of_ble_eq_true rfl, Nat.le_of_ble_eq_true rfl⟩) (gPreS0 hK) rfl rfl hl.1 rfl (lv_room (Nat.le_of_ble_eq_true rfl)) dX5_gatherStates_42 ⟨Nat.le_of_ble_eq_true rfl, Nat.le_of_ble_eq_true rfl⟩) hP hS hA (fun H locs hP hS => ?_)
          refine lv_bipush (v := 16) hx hb dX5_gatherStates_45 (by decide) ?_
          refine lv_imul hx hb dX5_gatherStates_47 ?_
          refine lv_aload_n hx hb dX5_gatherStates_48 rfl (lv_at hl 0 rfl) ?_
          refine lv_iload_n hx hb dX5_gatherStates_49 rfl (lv_at hl 3 rfl) ?_
          obtain ⟨r11, v12, hf⟩ := bd1_some hf
          refine gci (va_runV (As := [.int x3]) (rest := [.int (r9 * 16)]) ⟨hx, hb, hml, hown, hts⟩ (tX5_marksAt l dC dI dA ad H.size v12) (ccX5_X5_marksAt hts ⟨Nat.le_of_ble_eq_true rfl, Nat.le_of_ble_eq_true rfl⟩) (gPreV (ci := 5) (q0 := 0) hP hK hD rfl rfl) rfl rfl hl.1 rfl (lv_room (Nat.le_of_ble_eq_true rfl)) dX5_gatherStates_50 ⟨Nat.le_of_ble_eq_true rfl, Nat.le_of_ble_eq_true rfl⟩) hD hS hA (fun H locs hP hD hS => ?_)
          refine lv_iconst (v := 2) hx hb dX5_gatherStates_53 (by decide) ?_
          refine lv_imul hx hb dX5_gatherStates_54 ?_
          refine lv_iadd hx hb dX5_gatherStates_55 ?_
          refine lv_iload_n hx hb dX5_gatherStates_56 rfl (lv_at hl 3 rfl) ?_
          obtain ⟨r13, v14, hf⟩ := bd1_some hf
          refine gci0 (va_runSN (As := [.int x3]) (rest := [.int ((r9 * 16) + (r11 * 2))]) ⟨hx, hb, hml, hown, hts⟩ (tX8_cameUp l dC dI dA H.size v14) (ccX5_X8_cameUp hK.2 hts ⟨Nat.le_of_ble_eq_true rfl, Nat.le_of_ble_eq_true rfl⟩) (gPreS0 hK) rfl rfl hl.1 rfl (lv_room (Nat.le_of_ble_eq_true rfl)) dX5_gatherStates_57 ⟨Nat.le_of_ble_eq_true rfl, Nat.le_of_ble_eq_true rfl⟩) hP hS hA (fun H locs hP hS => ?_)
          refine lv_if_eq (tgt := 67) hx hb dX5_gatherStates_60 (by decide) (fun k15 => ?_) (fun k15 => ?_)
          · replace hf := ifp k15 hf
            refine lv_iconst (v := 0) hx hb dX5_gatherStates_67 (by decide) ?_
            refine lv_iadd hx hb dX5_gatherStates_68 ?_
            refine lv_topi (fun w16 ew16 => ?_)
            replace hf := nm_at hf ew16
            refine lv_istore (lv' := [(4, .int w16), (0, .ref (ad 0)), (1, .int x1), (2, .int x2), (3, .int x3)]) hx hb dX5_gatherStates_69 hl (by decide) rfl (fun ls hl => ?_)
            refine lv_iload hx hb dX5_gatherStates_71 (lv_at hl 0 rfl) ?_
            refine lv_iconst (v := 0) hx hb dX5_gatherStates_73 (by decide) ?_
            refine lv_bipush (v := 111) hx hb dX5_gatherStates_74 (by decide) ?_
            obtain ⟨r17, v18, hf⟩ := bd1_some hf
            refine gci0 (va_runSN (As := [.int w16, .int 0, .int 111]) (rest := []) ⟨hx, hb, hml, hown, hts⟩ (tX8_within l dC dI dA H.size v18) (ccX5_X8_within hK.2 hts ⟨Nat.le_of_ble_eq_true rfl, Nat.le_of_ble_eq_true rfl⟩) (gPreS0 hK) rfl rfl hl.1 rfl (lv_room (Nat.le_of_ble_eq_true rfl)) dX5_gatherStates_76 ⟨Nat.le_of_ble_eq_true rfl, Nat.le_of_ble_eq_true rfl⟩) hP hS hA (fun H locs hP hS => ?_)
            refine lv_if_eq (tgt := 111) hx hb dX5_gatherStates_79 (by decide) (fun k19 => ?_) (fun k19 => ?_)
            · replace hf := ifp k19 hf
              obtain ⟨w20, ew20⟩ : ∃ y : Int32, y = x3 + 1 := ⟨_, rfl⟩
              replace hf := nm_at hf ew20
              refine lv_iinc (v := w20) (lv' := [(3, .int w20), (4, .int w16), (0, .ref (ad 0)), (1, .int x1), (2, .int x2)]) hx hb dX5_gatherStates_111 hl (k := 4) rfl (by rw [ew20]; rfl) (by decide) rfl (fun ls hl => ?_)
              refine lv_goto (tgt := 27) hx hb dX5_gatherStates_114 (by decide) ?_
              exact ih27 _ _ _ _ _ _ _ _ _ _ _ _ _ _ _ _ _ _ _ hP hD hS hf (lv_sub hl [2, 3, 4, 0] rfl) hk
            · replace hf := ifn k19 hf
              refine lv_aload_n hx hb dX5_gatherStates_82 rfl (lv_at hl 1 rfl) ?_
              refine va_get (D := (dC, dI)) (ci := 5) (v := .ref (ad 13)) (C := RX5) (T := TX5) (N := 11) hx hb hts (fun w h => gw_mem (inX5 w h)) hown hK.1 hP 0 rfl rfl 10 (by decide) (hts _ (gw_mem wfX5_51)) (fun _ h9 => h9) rfl dX5_gatherStates_83 ?_
              refine lv_iload hx hb dX5_gatherStates_86 (lv_at hl 0 rfl) ?_
              obtain ⟨h21, hf⟩ := og_some hf
              refine va_iald hx hb hK.1 hP 13 0 rfl rfl (okI_in h21) dX5_gatherStates_88 ?_
              refine lv_if_ne (tgt := 111) hx hb dX5_gatherStates_89 (by decide) (fun k22 => ?_) (fun k22 => ?_)
              · replace hf := ifn k22 hf
                obtain ⟨w23, ew23⟩ : ∃ y : Int32, y = x3 + 1 := ⟨_, rfl⟩
                replace hf := nm_at hf ew23
                refine lv_iinc (v := w23) (lv' := [(3, .int w23), (4, .int w16), (0, .ref (ad 0)), (1, .int x1), (2, .int x2)]) hx hb dX5_gatherStates_111 hl (k := 4) rfl (by rw [ew23]; rfl) (by decide) rfl (fun ls hl => ?_)
                refine lv_goto (tgt := 27) hx hb dX5_gatherStates_114 (by decide) ?_
                exact ih27 _ _ _ _ _ _ _ _ _ _ _ _ _ _ _ _ _ _ _ hP hD hS hf (lv_sub hl [2, 3, 4, 0] rfl) hk
              · replace hf := ifp k22 hf
                refine lv_aload_n hx hb dX5_gatherStates_92 rfl (lv_at hl 1 rfl) ?_
                refine lv_iload_n hx hb dX5_gatherStates_93 rfl (lv_at hl 4 rfl) ?_
                obtain ⟨r24, v25, hf⟩ := bd1_some hf
                refine gci (va_runV (As := [.int x3]) (rest := []) ⟨hx, hb, hml, hown, hts⟩ (tX5_isComeTo l dC dI dA ad H.size v25) (ccX5_X5_isComeTo hts ⟨Nat.le_of_ble_eq_true rfl, Nat.le_of_ble_eq_true rfl⟩) (gPreV (ci := 5) (q0 := 0) hP hK hD rfl rfl) rfl rfl hl.1 rfl (lv_room (Nat.le_of_ble_eq_true rfl)) dX5_gatherStates_94 ⟨Nat.le_of_ble_eq_true rfl, Nat.le_of_ble_eq_true rfl⟩) hD hS hA (fun H locs hP hD hS => ?_)
                refine lv_if_eq (tgt := 111) hx hb dX5_gatherStates_97 (by decide) (fun k26 => ?_) (fun k26 => ?_)
                · replace hf := ifp k26 hf
                  obtain ⟨w27, ew27⟩ : ∃ y : Int32, y = x3 + 1 := ⟨_, rfl⟩
                  replace hf := nm_at hf ew27
                  refine lv_iinc (v := w27) (lv' := [(3, .int w27), (4, .int w16), (0, .ref (ad 0)), (1, .int x1), (2, .int x2)]) hx hb dX5_gatherStates_111 hl (k := 4) rfl (by rw [ew27]; rfl) (by decide) rfl (fun ls hl => ?_)
                  refine lv_goto (tgt := 27) hx hb dX5_gatherStates_114 (by decide) ?_
                  exact ih27 _ _ _ _ _ _ _ _ _ _ _ _ _ _ _ _ _ _ _ hP hD hS hf (lv_sub hl [2, 3, 4, 0] rfl) hk
                · replace hf := ifn k26 hf
                  refine lv_aload_n hx hb dX5_gatherStates_100 rfl (lv_at hl 1 rfl) ?_
                  refine va_get (D := (dC, dI)) (ci := 5) (v := .ref (ad 13)) (C := RX5) (T := TX5) (N := 11) hx hb hts (fun w h => gw_mem (inX5 w h)) hown hK.1 hP 0 rfl rfl 10 (by decide) (hts _ (gw_mem wfX5_51)) (fun _ h9 => h9) rfl dX5_gatherStates_101 ?_
                  refine lv_iload hx hb dX5_gatherStates_104 (lv_at hl 0 rfl) ?_
                  refine lv_iload_n hx hb dX5_gatherStates_106 rfl (lv_at hl 4 rfl) ?_
                  obtain ⟨h28, hf⟩ := og_some hf
                  obtain ⟨w29, ew29⟩ : ∃ y : Nat → Int32, y = upd c_rowOfKey (Int32.toNatClampNeg w16) x3 := ⟨_, rfl⟩
                  replace hf := nm_at hf ew29
                  refine va_iast hx hb hK.1 hP hD hS 13 0 rfl rfl (okI_in h28) dX5_gatherStates_107 (fun H locs hP hD hS => ?_)
                  have hP : va_P (dC, dI) vwCl (wX5 dA ad c_tree_parts c_bond_terms c_penceByUps c_pence c_turned c_called c_hold c_value c_marks c_act w29) H := by rw [ew29]; exact hP
                  have hD : va_D A (wX5 dA ad c_tree_parts c_bond_terms c_penceByUps c_pence c_turned c_called c_hold c_value c_marks c_act w29) := by rw [ew29]; exact hD
                  obtain ⟨w30, ew30⟩ : ∃ y : Int32, y = x2 + 1 := ⟨_, rfl⟩
                  replace hf := nm_at hf ew30
                  refine lv_iinc (v := w30) (lv' := [(2, .int w30), (4, .int w16), (0, .ref (ad 0)), (1, .int x1), (3, .int x3)]) hx hb dX5_gatherStates_108 hl (k := 3) rfl (by rw [ew30]; rfl) (by decide) rfl (fun ls hl => ?_)
                  obtain ⟨w31, ew31⟩ : ∃ y : Int32, y = x3 + 1 := ⟨_, rfl⟩
                  replace hf := nm_at hf ew31
                  refine lv_iinc (v := w31) (lv' := [(3, .int w31), (2, .int w30), (4, .int w16), (0, .ref (ad 0)), (1, .int x1)]) hx hb dX5_gatherStates_111 hl (k := 4) rfl (by rw [ew31]; rfl) (by decide) rfl (fun ls hl => ?_)
                  refine lv_goto (tgt := 27) hx hb dX5_gatherStates_114 (by decide) ?_
                  exact ih27 _ _ _ _ _ _ _ _ _ _ _ _ _ _ _ _ _ _ _ hP hD hS hf (lv_sub hl [3, 4, 1, 0] rfl) hk
          · replace hf := ifn k15 hf
            refine lv_iconst (v := 1) hx hb dX5_gatherStates_63 (by decide) ?_
            refine lv_goto (tgt := 68) hx hb dX5_gatherStates_64 (by decide) ?_
            refine lv_iadd hx hb dX5_gatherStates_68 ?_
            refine lv_topi (fun w32 ew32 => ?_)
            replace hf := nm_at hf ew32
            refine lv_istore (lv' := [(4, .int w32), (0, .ref (ad 0)), (1, .int x1), (2, .int x2), (3, .int x3)]) hx hb dX5_gatherStates_69 hl (by decide) rfl (fun ls hl => ?_)
            refine lv_iload hx hb dX5_gatherStates_71 (lv_at hl 0 rfl) ?_
            refine lv_iconst (v := 0) hx hb dX5_gatherStates_73 (by decide) ?_
            refine lv_bipush (v := 111) hx hb dX5_gatherStates_74 (by decide) ?_
            obtain ⟨r33, v34, hf⟩ := bd1_some hf
            refine gci0 (va_runSN (As := [.int w32, .int 0, .int 111]) (rest := []) ⟨hx, hb, hml, hown, hts⟩ (tX8_within l dC dI dA H.size v34) (ccX5_X8_within hK.2 hts ⟨Nat.le_of_ble_eq_true rfl, Nat.le_of_ble_eq_true rfl⟩) (gPreS0 hK) rfl rfl hl.1 rfl (lv_room (Nat.le_of_ble_eq_true rfl)) dX5_gatherStates_76 ⟨Nat.le_of_ble_eq_true rfl, Nat.le_of_ble_eq_true rfl⟩) hP hS hA (fun H locs hP hS => ?_)
            refine lv_if_eq (tgt := 111) hx hb dX5_gatherStates_79 (by decide) (fun k35 => ?_) (fun k35 => ?_)
            · replace hf := ifp k35 hf
              obtain ⟨w36, ew36⟩ : ∃ y : Int32, y = x3 + 1 := ⟨_, rfl⟩
              replace hf := nm_at hf ew36
              refine lv_iinc (v := w36) (lv' := [(3, .int w36), (4, .int w32), (0, .ref (ad 0)), (1, .int x1), (2, .int x2)]) hx hb dX5_gatherStates_111 hl (k := 4) rfl (by rw [ew36]; rfl) (by decide) rfl (fun ls hl => ?_)
              refine lv_goto (tgt := 27) hx hb dX5_gatherStates_114 (by decide) ?_
              exact ih27 _ _ _ _ _ _ _ _ _ _ _ _ _ _ _ _ _ _ _ hP hD hS hf (lv_sub hl [2, 3, 4, 0] rfl) hk
            · replace hf := ifn k35 hf
              refine lv_aload_n hx hb dX5_gatherStates_82 rfl (lv_at hl 1 rfl) ?_
              refine va_get (D := (dC, dI)) (ci := 5) (v := .ref (ad 13)) (C := RX5) (T := TX5) (N := 11) hx hb hts (fun w h => gw_mem (inX5 w h)) hown hK.1 hP 0 rfl rfl 10 (by decide) (hts _ (gw_mem wfX5_51)) (fun _ h9 => h9) rfl dX5_gatherStates_83 ?_
              refine lv_iload hx hb dX5_gatherStates_86 (lv_at hl 0 rfl) ?_
              obtain ⟨h37, hf⟩ := og_some hf
              refine va_iald hx hb hK.1 hP 13 0 rfl rfl (okI_in h37) dX5_gatherStates_88 ?_
              refine lv_if_ne (tgt := 111) hx hb dX5_gatherStates_89 (by decide) (fun k38 => ?_) (fun k38 => ?_)
              · replace hf := ifn k38 hf
                obtain ⟨w39, ew39⟩ : ∃ y : Int32, y = x3 + 1 := ⟨_, rfl⟩
                replace hf := nm_at hf ew39
                refine lv_iinc (v := w39) (lv' := [(3, .int w39), (4, .int w32), (0, .ref (ad 0)), (1, .int x1), (2, .int x2)]) hx hb dX5_gatherStates_111 hl (k := 4) rfl (by rw [ew39]; rfl) (by decide) rfl (fun ls hl => ?_)
                refine lv_goto (tgt := 27) hx hb dX5_gatherStates_114 (by decide) ?_
                exact ih27 _ _ _ _ _ _ _ _ _ _ _ _ _ _ _ _ _ _ _ hP hD hS hf (lv_sub hl [2, 3, 4, 0] rfl) hk
              · replace hf := ifp k38 hf
                refine lv_aload_n hx hb dX5_gatherStates_92 rfl (lv_at hl 1 rfl) ?_
                refine lv_iload_n hx hb dX5_gatherStates_93 rfl (lv_at hl 4 rfl) ?_
                obtain ⟨r40, v41, hf⟩ := bd1_some hf
                refine gci (va_runV (As := [.int x3]) (rest := []) ⟨hx, hb, hml, hown, hts⟩ (tX5_isComeTo l dC dI dA ad H.size v41) (ccX5_X5_isComeTo hts ⟨Nat.le_of_ble_eq_true rfl, Nat.le_of_ble_eq_true rfl⟩) (gPreV (ci := 5) (q0 := 0) hP hK hD rfl rfl) rfl rfl hl.1 rfl (lv_room (Nat.le_of_ble_eq_true rfl)) dX5_gatherStates_94 ⟨Nat.le_of_ble_eq_true rfl, Nat.le_of_ble_eq_true rfl⟩) hD hS hA (fun H locs hP hD hS => ?_)
                refine lv_if_eq (tgt := 111) hx hb dX5_gatherStates_97 (by decide) (fun k42 => ?_) (fun k42 => ?_)
                · replace hf := ifp k42 hf
                  obtain ⟨w43, ew43⟩ : ∃ y : Int32, y = x3 + 1 := ⟨_, rfl⟩
                  replace hf := nm_at hf ew43
                  refine lv_iinc (v := w43) (lv' := [(3, .int w43), (4, .int w32), (0, .ref (ad 0)), (1, .int x1), (2, .int x2)]) hx hb dX5_gatherStates_111 hl (k := 4) rfl (by rw [ew43]; rfl) (by decide) rfl (fun ls hl => ?_)
                  refine lv_goto (tgt := 27) hx hb dX5_gatherStates_114 (by decide) ?_
                  exact ih27 _ _ _ _ _ _ _ _ _ _ _ _ _ _ _ _ _ _ _ hP hD hS hf (lv_sub hl [2, 3, 4, 0] rfl) hk
                · replace hf := ifn k42 hf
                  refine lv_aload_n hx hb dX5_gatherStates_100 rfl (lv_at hl 1 rfl) ?_
                  refine va_get (D := (dC, dI)) (ci := 5) (v := .ref (ad 13)) (C := RX5) (T := TX5) (N := 11) hx hb hts (fun w h => gw_mem (inX5 w h)) hown hK.1 hP 0 rfl rfl 10 (by decide) (hts _ (gw_mem wfX5_51)) (fun _ h9 => h9) rfl dX5_gatherStates_101 ?_
                  refine lv_iload hx hb dX5_gatherStates_104 (lv_at hl 0 rfl) ?_
                  refine lv_iload_n hx hb dX5_gatherStates_106 rfl (lv_at hl 4 rfl) ?_
                  obtain ⟨h44, hf⟩ := og_some hf
                  obtain ⟨w45, ew45⟩ : ∃ y : Nat → Int32, y = upd c_rowOfKey (Int32.toNatClampNeg w32) x3 := ⟨_, rfl⟩
                  replace hf := nm_at hf ew45
                  refine va_iast hx hb hK.1 hP hD hS 13 0 rfl rfl (okI_in h44) dX5_gatherStates_107 (fun H locs hP hD hS => ?_)
                  have hP : va_P (dC, dI) vwCl (wX5 dA ad c_tree_parts c_bond_terms c_penceByUps c_pence c_turned c_called c_hold c_value c_marks c_act w45) H := by rw [ew45]; exact hP
                  have hD : va_D A (wX5 dA ad c_tree_parts c_bond_terms c_penceByUps c_pence c_turned c_called c_hold c_value c_marks c_act w45) := by rw [ew45]; exact hD
                  obtain ⟨w46, ew46⟩ : ∃ y : Int32, y = x2 + 1 := ⟨_, rfl⟩
                  replace hf := nm_at hf ew46
                  refine lv_iinc (v := w46) (lv' := [(2, .int w46), (4, .int w32), (0, .ref (ad 0)), (1, .int x1), (3, .int x3)]) hx hb dX5_gatherStates_108 hl (k := 3) rfl (by rw [ew46]; rfl) (by decide) rfl (fun ls hl => ?_)
                  obtain ⟨w47, ew47⟩ : ∃ y : Int32, y = x3 + 1 := ⟨_, rfl⟩
                  replace hf := nm_at hf ew47
                  refine lv_iinc (v := w47) (lv' := [(3, .int w47), (2, .int w46), (4, .int w32), (0, .ref (ad 0)), (1, .int x1)]) hx hb dX5_gatherStates_111 hl (k := 4) rfl (by rw [ew47]; rfl) (by decide) rfl (fun ls hl => ?_)
                  refine lv_goto (tgt := 27) hx hb dX5_gatherStates_114 (by decide) ?_
                  exact ih27 _ _ _ _ _ _ _ _ _ _ _ _ _ _ _ _ _ _ _ hP hD hS hf (lv_sub hl [3, 4, 1, 0] rfl) hk
  subst hQ
  unfold fX5_gatherStates at hf
  refine lv_iconst (v := 0) hx hb dX5_gatherStates_0 (by decide) ?_
  refine lv_istore_n (lv' := [(2, .int 0), (0, .ref (ad 0)), (1, .int p1)]) hx hb dX5_gatherStates_1 rfl hl (by decide) rfl (fun ls hl => ?_)
  obtain ⟨c_rowOfKey_1, v2, hf⟩ := bd1_some hf
  refine LP2 FU _ _ _ _ _ _ _ _ _ _ _ _ _ _ _ _ _ hP hD hS v2 (lv_sub hl [1, 2, 0] rfl) (fun H locs ls hP hD hS hl => ?_)
  refine lv_iconst (v := 0) hx hb dX5_gatherStates_21 (by decide) ?_
  refine lv_istore_n (lv' := [(2, .int 0), (0, .ref (ad 0)), (1, .int p1)]) hx hb dX5_gatherStates_22 rfl hl (by decide) rfl (fun ls hl => ?_)
  refine lv_iconst (v := 1) hx hb dX5_gatherStates_23 (by decide) ?_
  refine lv_iload_n hx hb dX5_gatherStates_24 rfl (lv_at hl 2 rfl) ?_
  refine lv_ishl hx hb dX5_gatherStates_25 ?_
  refine lv_topi (fun w3 ew3 => ?_)
  replace hf := nm_at hf ew3
  refine lv_istore_n (lv' := [(3, .int w3), (2, .int 0), (0, .ref (ad 0)), (1, .int p1)]) hx hb dX5_gatherStates_26 rfl hl (by decide) rfl (fun ls hl => ?_)
  obtain ⟨x4, c_rowOfKey_5, v6, hf⟩ := bd2_some hf
  refine LP27 FU _ _ _ _ _ _ _ _ _ _ _ _ _ _ _ _ _ _ _ hP hD hS v6 (lv_sub hl [2, 3, 1, 0] rfl) (fun H locs ls hP hD hS hl => ?_)
  refine lv_iload_n hx hb dX5_gatherStates_117 rfl (lv_at hl 0 rfl) ?_
  cases hf
  exact W.iret hx hb hr (fun t ht _ => gqi hP hD hS ht) hS.2.2 dX5_gatherStates_118
def lpX5_stateRow_4 (c_rowOfKey : Nat → Int32) : Nat → Int32 → Int32 → Option (Nat × Int32)
  | 0, _, _ => none
  | n + 1, x2, x3 => if 112 ≤ x3 then some (1, x3) else og (okI x3 112) (if (c_rowOfKey (Int32.toNatClampNeg x3)) = 0 then nm (x3 + 1) (fun w8 => lpX5_stateRow_4 c_rowOfKey n x2 w8) else if x2 = 0 then some (0, x3) else nm (x2 + (-1)) (fun w10 => nm (x3 + 1) (fun w11 => lpX5_stateRow_4 c_rowOfKey n w10 w11)))
def fX5_stateRow (p1 : Int32) (c_rowOfKey : Nat → Int32) : Option (Int32) := bd2 (lpX5_stateRow_4 c_rowOfKey FU p1 0) (fun tg1 x2 => if tg1 = 0 then og (okI x2 112) (some (c_rowOfKey (Int32.toNatClampNeg x2))) else some (0))
abbrev rmX5_stateRow : Room := { frames := 0, cells := 0, slots := 0, locals := 0 }
set_option maxHeartbeats 4000000 in
set_option maxRecDepth 100000 in
theorem tX5_stateRow (l : Launch) (dC : Nat → ClassId) (dI : Nat → Nat → Nat) (dA : Nat → ClassId) (ad : Nat → Nat) (sz : Nat) {p1 : Int32} {c_tree_parts : Nat → Int32} {c_bond_terms : Nat → Int32} {c_penceByUps : Nat → Int64} {c_pence : Nat → Int64} {c_turned : Nat → Int64} {c_called : Nat → Int64} {c_hold : Nat → Int64} {c_value : Nat → Int64} {c_marks : Nat → Int32} {c_act : Nat → Int32} {c_rowOfKey : Nat → Int32} {r : Int32} (hf : fX5_stateRow p1 c_rowOfKey = some (r)) : Met l yX5_stateRow (wq (Cond.code yX5_stateRow cX5_stateRow 4 (some .int))) rmX5_stateRow (gP [.ref (ad 0), .int p1] (dC, dI) dA (wX5 dA ad c_tree_parts c_bond_terms c_penceByUps c_pence c_turned c_called c_hold c_value c_marks c_act c_rowOfKey) sz) (gQi (dC, dI) r (wX5 dA ad c_tree_parts c_bond_terms c_penceByUps c_pence c_turned c_called c_hold c_value c_marks c_act c_rowOfKey) (va_A (wX5 dA ad c_tree_parts c_bond_terms c_penceByUps c_pence c_turned c_called c_hold c_value c_marks c_act c_rowOfKey) sz)) 0 0 (va_A (wX5 dA ad c_tree_parts c_bond_terms c_penceByUps c_pence c_turned c_called c_hold c_value c_marks c_act c_rowOfKey) sz) := by
  refine Met.ofW (cc := cX5_stateRow) (maxL := 4) (ret := (some .int)) (by decide) rfl ?_
  intro p e s m args below meth c s₁ B hml hv
  obtain ⟨rfl, hsz, hP, hK, hD0⟩ := hv
  have hx := B.exec
  have hb := B.bytes
  have hr := B.returns
  have hts := atoms_spec (ws := wq (Cond.code yX5_stateRow cX5_stateRow 4 (some .int))) B.pre
  have hown : s.vm.findClass RX5 = some m.cls := findClass_of_methodNamed B.named
  have hlocks := B.notSynchronized
  clear B
  subst hsz
  have hD := hD0.self (sz := s.heap.size)
  generalize hAe : va_A (wX5 dA ad c_tree_parts c_bond_terms c_penceByUps c_pence c_turned c_called c_hold c_value c_marks c_act c_rowOfKey) s.heap.size = A at hD ⊢
  have hA : ∀ q : Nat, s.heap.size ≤ q → A q := fun q h => by rw [← hAe]; exact Or.inr h
  clear hAe hD0
  have hS : va_S A s.heap s.heap [] := va_S.rf
  have hl := lv_entry ([.ref (ad 0), .int p1]) (n := 4) (Nat.le_of_ble_eq_true rfl)
  rw [lg_entry_eq]
  generalize (lg_sl ([.ref (ad 0), .int p1]) ++ List.replicate (4 - (lg_sl ([.ref (ad 0), .int p1])).length) Slot.unset).toArray = ls at hl ⊢
  have hl : lv_has ls 4 [(0, .ref (ad 0)), (1, .int p1)] := hl
  change W p l e rmX5_stateRow s m ([.ref (ad 0), .int p1] : List Value).toArray below meth c s.heap [] 0 0 _ _
  generalize hQ : MQ below (gQi (dC, dI) r (wX5 dA ad c_tree_parts c_bond_terms c_penceByUps c_pence c_turned c_called c_hold c_value c_marks c_act c_rowOfKey) A) ([.ref (ad 0), .int p1] : List Value).toArray s 0 0 A = Q
  have LP4 : ∀ (n : Nat) (c_rowOfKey : Nat → Int32) (c_tree_parts : Nat → Int32) (c_bond_terms : Nat → Int32) (c_penceByUps : Nat → Int64) (c_pence : Nat → Int64) (c_turned : Nat → Int64) (c_called : Nat → Int64) (c_hold : Nat → Int64) (c_value : Nat → Int64) (c_marks : Nat → Int32) (c_act : Nat → Int32) (x2 : Int32) (x3 : Int32) (tgo : Nat) (o3 : Int32) (H : Heap) (locs : List Loc) (ls : Array Slot), va_P (dC, dI) vwCl (wX5 dA ad c_tree_parts c_bond_terms c_penceByUps c_pence c_turned c_called c_hold c_value c_marks c_act c_rowOfKey) H → va_D A (wX5 dA ad c_tree_parts c_bond_terms c_penceByUps c_pence c_turned c_called c_hold c_value c_marks c_act c_rowOfKey) → va_S A s.heap H locs → lpX5_stateRow_4 c_rowOfKey n x2 x3 = some (tgo, o3) → lv_has ls 4 [(0, .ref (ad 0)), (2, .int x2), (3, .int x3)] → (tgo = 0 → ∀ (H : Heap) (locs : List Loc) (ls : Array Slot), va_P (dC, dI) vwCl (wX5 dA ad c_tree_parts c_bond_terms c_penceByUps c_pence c_turned c_called c_hold c_value c_marks c_act c_rowOfKey) H → va_D A (wX5 dA ad c_tree_parts c_bond_terms c_penceByUps c_pence c_turned c_called c_hold c_value c_marks c_act c_rowOfKey) → va_S A s.heap H locs → lv_has ls 4 [(0, .ref (ad 0)), (3, .int o3)] → W p l e rmX5_stateRow s m ([.ref (ad 0), .int p1] : List Value).toArray below meth c H locs 0 0 Q (F0 m 23 ls [])) → (tgo = 1 → ∀ (H : Heap) (locs : List Loc) (ls : Array Slot), va_P (dC, dI) vwCl (wX5 dA ad c_tree_parts c_bond_terms c_penceByUps c_pence c_turned c_called c_hold c_value c_marks c_act c_rowOfKey) H → va_D A (wX5 dA ad c_tree_parts c_bond_terms c_penceByUps c_pence c_turned c_called c_hold c_value c_marks c_act c_rowOfKey) → va_S A s.heap H locs → lv_has ls 4 [] → W p l e rmX5_stateRow s m ([.ref (ad 0), .int p1] : List Value).toArray below meth c H locs 0 0 Q (F0 m 39 ls [])) → W p l e rmX5_stateRow s m ([.ref (ad 0), .int p1] : List Value).toArray below meth c H locs 0 0 Q (F0 m 4 ls []) := by
    intro n
    induction n with
    | zero =>
      intro c_rowOfKey c_tree_parts c_bond_terms c_penceByUps c_pence c_turned c_called c_hold c_value c_marks c_act x2 x3 tgo o3 H locs ls hP hD hS hf hl hk0 hk1
      cases hf
    | succ n ih4 =>
      intro c_rowOfKey c_tree_parts c_bond_terms c_penceByUps c_pence c_turned c_called c_hold c_value c_marks c_act x2 x3 tgo o3 H locs ls hP hD hS hf hl hk0 hk1
      rw [lpX5_stateRow_4.eq_2] at hf
      refine lv_iload_n hx hb dX5_stateRow_4 rfl (lv_at hl 2 rfl) ?_
      refine lv_bipush (v := 112) hx hb dX5_stateRow_5 (by decide) ?_
      refine lv_icmp_ge (tgt := 39) hx hb dX5_stateRow_7 (by decide) (fun k5 => ?_) (fun k5 => ?_)
      · replace hf := ifp k5 hf
        cases hf
        exact hk1 rfl _ _ _ hP hD hS (lv_sub hl [] rfl)
      · replace hf := ifn k5 hf
        refine lv_aload_n hx hb dX5_stateRow_10 rfl (lv_at hl 0 rfl) ?_
        refine va_get (D := (dC, dI)) (ci := 5) (v := .ref (ad 13)) (C := RX5) (T := TX5) (N := 11) hx hb hts (fun w h => gw_mem (inX5 w h)) hown hK.1 hP 0 rfl rfl 10 (by decide) (hts _ (gw_mem wfX5_51)) (fun _ h9 => h9) rfl dX5_stateRow_11 ?_
        refine lv_iload_n hx hb dX5_stateRow_14 rfl (lv_at hl 2 rfl) ?_
        obtain ⟨h6, hf⟩ := og_some hf
        refine va_iald hx hb hK.1 hP 13 0 rfl rfl (okI_in h6) dX5_stateRow_15 ?_
        refine lv_if_eq (tgt := 33) hx hb dX5_stateRow_16 (by decide) (fun k7 => ?_) (fun k7 => ?_)
        · replace hf := ifp k7 hf
          obtain ⟨w8, ew8⟩ : ∃ y : Int32, y = x3 + 1 := ⟨_, rfl⟩
          replace hf := nm_at hf ew8
          refine lv_iinc (v := w8) (lv' := [(3, .int w8), (0, .ref (ad 0)), (2, .int x2)]) hx hb dX5_stateRow_33 hl (k := 2) rfl (by rw [ew8]; rfl) (by decide) rfl (fun ls hl => ?_)
          refine lv_goto (tgt := 4) hx hb dX5_stateRow_36 (by decide) ?_
          exact ih4 _ _ _ _ _ _ _ _ _ _ _ _ _ _ _ _ _ _ hP hD hS hf (lv_sub hl [1, 2, 0] rfl) hk0 hk1
        · replace hf := ifn k7 hf
          refine lv_iload_n hx hb dX5_stateRow_19 rfl (lv_at hl 1 rfl) ?_
          refine lv_if_ne (tgt := 30) hx hb dX5_stateRow_20 (by decide) (fun k9 => ?_) (fun k9 => ?_)
          · replace hf := ifn k9 hf
            obtain ⟨w10, ew10⟩ : ∃ y : Int32, y = x2 + (-1) := ⟨_, rfl⟩
            replace hf := nm_at hf ew10
            refine lv_iinc (v := w10) (lv' := [(2, .int w10), (0, .ref (ad 0)), (3, .int x3)]) hx hb dX5_stateRow_30 hl (k := 1) rfl (by rw [ew10]; rfl) (by decide) rfl (fun ls hl => ?_)
            obtain ⟨w11, ew11⟩ : ∃ y : Int32, y = x3 + 1 := ⟨_, rfl⟩
            replace hf := nm_at hf ew11
            refine lv_iinc (v := w11) (lv' := [(3, .int w11), (2, .int w10), (0, .ref (ad 0))]) hx hb dX5_stateRow_33 hl (k := 2) rfl (by rw [ew11]; rfl) (by decide) rfl (fun ls hl => ?_)
            refine lv_goto (tgt := 4) hx hb dX5_stateRow_36 (by decide) ?_
            exact ih4 _ _ _ _ _ _ _ _ _ _ _ _ _ _ _ _ _ _ hP hD hS hf (lv_sub hl [2, 1, 0] rfl) hk0 hk1
          · replace hf := ifp k9 hf
            cases hf
            exact hk0 rfl _ _ _ hP hD hS (lv_sub hl [0, 2] rfl)
  subst hQ
  unfold fX5_stateRow at hf
  refine lv_iload_n hx hb dX5_stateRow_0 rfl (lv_at hl 1 rfl) ?_
  refine lv_istore_n (lv' := [(2, .int p1), (0, .ref (ad 0)), (1, .int p1)]) hx hb dX5_stateRow_1 rfl hl (by decide) rfl (fun ls hl => ?_)
  refine lv_iconst (v := 0) hx hb dX5_stateRow_2 (by decide) ?_
  refine lv_istore_n (lv' := [(3, .int 0), (2, .int p1), (0, .ref (ad 0)), (1, .int p1)]) hx hb dX5_stateRow_3 rfl hl (by decide) rfl (fun ls hl => ?_)
  obtain ⟨tg1, x2, v3, hf⟩ := bd2_some hf
  refine LP4 FU _ _ _ _ _ _ _ _ _ _ _ _ _ _ _ _ _ _ hP hD hS v3 (lv_sub hl [2, 1, 0] rfl) (fun etg1 H locs ls hP hD hS hl => ?_) (fun etg1 H locs ls hP hD hS hl => ?_)
  · replace hf := ifp etg1 hf
    refine lv_aload_n hx hb dX5_stateRow_23 rfl (lv_at hl 0 rfl) ?_
    refine va_get (D := (dC, dI)) (ci := 5) (v := .ref (ad 13)) (C := RX5) (T := TX5) (N := 11) hx hb hts (fun w h => gw_mem (inX5 w h)) hown hK.1 hP 0 rfl rfl 10 (by decide) (hts _ (gw_mem wfX5_51)) (fun _ h9 => h9) rfl dX5_stateRow_24 ?_
    refine lv_iload_n hx hb dX5_stateRow_27 rfl (lv_at hl 1 rfl) ?_
    obtain ⟨h4, hf⟩ := og_some hf
    refine va_iald hx hb hK.1 hP 13 0 rfl rfl (okI_in h4) dX5_stateRow_28 ?_
    cases hf
    exact W.iret hx hb hr (fun t ht _ => gqi hP hD hS ht) hS.2.2 dX5_stateRow_29
  · replace hf := ifn (c := tg1 = 0) (by rw [etg1]; decide) hf
    refine lv_iconst (v := 0) hx hb dX5_stateRow_39 (by decide) ?_
    cases hf
    exact W.iret hx hb hr (fun t ht _ => gqi hP hD hS ht) hS.2.2 dX5_stateRow_40
def fX6_size (c_size : Int32) : Option (Int32) := some (c_size)
abbrev rmX6_size : Room := { frames := 0, cells := 0, slots := 0, locals := 0 }
set_option maxHeartbeats 4000000 in
set_option maxRecDepth 100000 in
theorem tX6_size (l : Launch) (dC : Nat → ClassId) (dI : Nat → Nat → Nat) (dA : Nat → ClassId) (ad : Nat → Nat) (sz : Nat) {c_size : Int32} {c_length : Int32} {c_place : Int32} {c_fault : Int32} {c_faultPlace : Int32} {c_begin : Int32} {c_bytes : Nat → Int32} {c_draft_terms : Nat → Int32} {r : Int32} (hf : fX6_size c_size = some (r)) : Met l yX6_size (wq (Cond.code yX6_size cX6_size 1 (some .int))) rmX6_size (gP [.ref (ad 0)] (dC, dI) dA (wX6 dA ad c_size c_length c_place c_fault c_faultPlace c_begin c_bytes c_draft_terms) sz) (gQi (dC, dI) r (wX6 dA ad c_size c_length c_place c_fault c_faultPlace c_begin c_bytes c_draft_terms) (va_A (wX6 dA ad c_size c_length c_place c_fault c_faultPlace c_begin c_bytes c_draft_terms) sz)) 0 0 (va_A (wX6 dA ad c_size c_length c_place c_fault c_faultPlace c_begin c_bytes c_draft_terms) sz) := by
  refine Met.ofW (cc := cX6_size) (maxL := 1) (ret := (some .int)) (by decide) rfl ?_
  intro p e s m args below meth c s₁ B hml hv
  obtain ⟨rfl, hsz, hP, hK, hD0⟩ := hv
  have hx := B.exec
  have hb := B.bytes
  have hr := B.returns
  have hts := atoms_spec (ws := wq (Cond.code yX6_size cX6_size 1 (some .int))) B.pre
  have hown : s.vm.findClass RX6 = some m.cls := findClass_of_methodNamed B.named
  have hlocks := B.notSynchronized
  clear B
  subst hsz
  have hD := hD0.self (sz := s.heap.size)
  generalize hAe : va_A (wX6 dA ad c_size c_length c_place c_fault c_faultPlace c_begin c_bytes c_draft_terms) s.heap.size = A at hD ⊢
  have hA : ∀ q : Nat, s.heap.size ≤ q → A q := fun q h => by rw [← hAe]; exact Or.inr h
  clear hAe hD0
  have hS : va_S A s.heap s.heap [] := va_S.rf
  have hl := lv_entry ([.ref (ad 0)]) (n := 1) (Nat.le_of_ble_eq_true rfl)
  rw [lg_entry_eq]
  generalize (lg_sl ([.ref (ad 0)]) ++ List.replicate (1 - (lg_sl ([.ref (ad 0)])).length) Slot.unset).toArray = ls at hl ⊢
  have hl : lv_has ls 1 [(0, .ref (ad 0))] := hl
  change W p l e rmX6_size s m ([.ref (ad 0)] : List Value).toArray below meth c s.heap [] 0 0 _ _
  unfold fX6_size at hf
  refine lv_aload_n hx hb dX6_size_0 rfl (lv_at hl 0 rfl) ?_
  refine va_get (D := (dC, dI)) (ci := 6) (v := .int c_size) (C := RX6) (T := TX6) (N := 8) hx hb hts (fun w h => gw_mem (inX6 w h)) hown hK.1 hP 0 rfl rfl 1 (by decide) (hts _ (gw_mem wfX6_15)) (fun _ h9 => h9) rfl dX6_size_1 ?_
  cases hf
  exact W.iret hx hb hr (fun t ht _ => gqi hP hD hS ht) hS.2.2 dX6_size_4
def fX6_clear (c_size : Int32) : Option (Int32) := some (0)
abbrev rmX6_clear : Room := { frames := 0, cells := 0, slots := 0, locals := 0 }
set_option maxHeartbeats 4000000 in
set_option maxRecDepth 100000 in
theorem tX6_clear (l : Launch) (dC : Nat → ClassId) (dI : Nat → Nat → Nat) (dA : Nat → ClassId) (ad : Nat → Nat) (sz : Nat) {c_size : Int32} {c_length : Int32} {c_place : Int32} {c_fault : Int32} {c_faultPlace : Int32} {c_begin : Int32} {c_bytes : Nat → Int32} {c_draft_terms : Nat → Int32} {o_c_size : Int32} (hf : fX6_clear c_size = some (o_c_size)) : Met l yX6_clear (wq (Cond.code yX6_clear cX6_clear 1 none)) rmX6_clear (gP [.ref (ad 0)] (dC, dI) dA (wX6 dA ad c_size c_length c_place c_fault c_faultPlace c_begin c_bytes c_draft_terms) sz) (gQv (dC, dI) (wX6 dA ad o_c_size c_length c_place c_fault c_faultPlace c_begin c_bytes c_draft_terms) (va_A (wX6 dA ad c_size c_length c_place c_fault c_faultPlace c_begin c_bytes c_draft_terms) sz)) 0 0 (va_A (wX6 dA ad c_size c_length c_place c_fault c_faultPlace c_begin c_bytes c_draft_terms) sz) := by
  refine Met.ofW (cc := cX6_clear) (maxL := 1) (ret := none) (by decide) rfl ?_
  intro p e s m args below meth c s₁ B hml hv
  obtain ⟨rfl, hsz, hP, hK, hD0⟩ := hv
  have hx := B.exec
  have hb := B.bytes
  have hr := B.returns
  have hts := atoms_spec (ws := wq (Cond.code yX6_clear cX6_clear 1 none)) B.pre
  have hown : s.vm.findClass RX6 = some m.cls := findClass_of_methodNamed B.named
  have hlocks := B.notSynchronized
  clear B
  subst hsz
  have hD := hD0.self (sz := s.heap.size)
  generalize hAe : va_A (wX6 dA ad c_size c_length c_place c_fault c_faultPlace c_begin c_bytes c_draft_terms) s.heap.size = A at hD ⊢
  have hA : ∀ q : Nat, s.heap.size ≤ q → A q := fun q h => by rw [← hAe]; exact Or.inr h
  clear hAe hD0
  have hS : va_S A s.heap s.heap [] := va_S.rf
  have hl := lv_entry ([.ref (ad 0)]) (n := 1) (Nat.le_of_ble_eq_true rfl)
  rw [lg_entry_eq]
  generalize (lg_sl ([.ref (ad 0)]) ++ List.replicate (1 - (lg_sl ([.ref (ad 0)])).length) Slot.unset).toArray = ls at hl ⊢
  have hl : lv_has ls 1 [(0, .ref (ad 0))] := hl
  change W p l e rmX6_clear s m ([.ref (ad 0)] : List Value).toArray below meth c s.heap [] 0 0 _ _
  unfold fX6_clear at hf
  refine lv_aload_n hx hb dX6_clear_0 rfl (lv_at hl 0 rfl) ?_
  refine lv_iconst (v := 0) hx hb dX6_clear_1 (by decide) ?_
  refine va_put (D := (dC, dI)) (ci := 6) (v := .int 0) (ty := .int) (C := RX6) (T := TX6) (N := 8) hx hb hts (fun w h => gw_mem (inX6 w h)) tyX6 tyX6_ok nmX6 hown hK.1 hP hD hS 0 rfl rfl 1 (by decide) (hts _ (gw_mem wfX6_15)) (fun _ h9 => h9) rfl (by decide +kernel) rfl rfl (Nat.le_of_ble_eq_true rfl) dX6_clear_2 (fun H locs hP hD hS => ?_)
  have hP : va_P (dC, dI) vwCl (wX6 dA ad 0 c_length c_place c_fault c_faultPlace c_begin c_bytes c_draft_terms) H := hP
  have hD : va_D A (wX6 dA ad 0 c_length c_place c_fault c_faultPlace c_begin c_bytes c_draft_terms) := hD
  cases hf
  exact W.vret hx hb hr (fun t ht _ => gqv hP hD hS ht) hS.2.2 dX6_clear_5
def lpX6_append_3 (x1 : Int32) : Nat → Int32 → Int32 → (Nat → Int32) → Option (Int32 × (Nat → Int32))
  | 0, _, _, _ => none
  | n + 1, x2, c_size, c_bytes => if x2 < 0 then some (c_size, c_bytes) else if 200 ≤ c_size then some (c_size, c_bytes) else og (okI c_size 200) (nm (upd c_bytes (Int32.toNatClampNeg c_size) ((x1 >>> (x2 &&& 31)) &&& 255)) (fun w7 => nm (c_size + 1) (fun w8 => nm (x2 + (-8)) (fun w9 => lpX6_append_3 x1 n w9 w8 w7))))
def fX6_append (p1 : Int32) (c_size : Int32) (c_bytes : Nat → Int32) : Option (Int32 × (Nat → Int32)) := bd2 (lpX6_append_3 p1 FU 24 c_size c_bytes) (fun c_size_1 c_bytes_2 => some (c_size_1, c_bytes_2))
abbrev rmX6_append : Room := { frames := 0, cells := 0, slots := 0, locals := 0 }
set_option maxHeartbeats 4000000 in
set_option maxRecDepth 100000 in
theorem tX6_append (l : Launch) (dC : Nat → ClassId) (dI : Nat → Nat → Nat) (dA : Nat → ClassId) (ad : Nat → Nat) (sz : Nat) {p1 : Int32} {c_size : Int32} {c_length : Int32} {c_place : Int32} {c_fault : Int32} {c_faultPlace : Int32} {c_begin : Int32} {c_bytes : Nat → Int32} {c_draft_terms : Nat → Int32} {o_c_size : Int32} {o_c_bytes : Nat → Int32} (hf : fX6_append p1 c_size c_bytes = some (o_c_size, o_c_bytes)) : Met l yX6_append (wq (Cond.code yX6_append cX6_append 3 none)) rmX6_append (gP [.ref (ad 0), .int p1] (dC, dI) dA (wX6 dA ad c_size c_length c_place c_fault c_faultPlace c_begin c_bytes c_draft_terms) sz) (gQv (dC, dI) (wX6 dA ad o_c_size c_length c_place c_fault c_faultPlace c_begin o_c_bytes c_draft_terms) (va_A (wX6 dA ad c_size c_length c_place c_fault c_faultPlace c_begin c_bytes c_draft_terms) sz)) 0 0 (va_A (wX6 dA ad c_size c_length c_place c_fault c_faultPlace c_begin c_bytes c_draft_terms) sz) := by
  refine Met.ofW (cc := cX6_append) (maxL := 3) (ret := none) (by decide) rfl ?_
  intro p e s m args below meth c s₁ B hml hv
  obtain ⟨rfl, hsz, hP, hK, hD0⟩ := hv
  have hx := B.exec
  have hb := B.bytes
  have hr := B.returns
  have hts := atoms_spec (ws := wq (Cond.code yX6_append cX6_append 3 none)) B.pre
  have hown : s.vm.findClass RX6 = some m.cls := findClass_of_methodNamed B.named
  have hlocks := B.notSynchronized
  clear B
  subst hsz
  have hD := hD0.self (sz := s.heap.size)
  generalize hAe : va_A (wX6 dA ad c_size c_length c_place c_fault c_faultPlace c_begin c_bytes c_draft_terms) s.heap.size = A at hD ⊢
  have hA : ∀ q : Nat, s.heap.size ≤ q → A q := fun q h => by rw [← hAe]; exact Or.inr h
  clear hAe hD0
  have hS : va_S A s.heap s.heap [] := va_S.rf
  have hl := lv_entry ([.ref (ad 0), .int p1]) (n := 3) (Nat.le_of_ble_eq_true rfl)
  rw [lg_entry_eq]
  generalize (lg_sl ([.ref (ad 0), .int p1]) ++ List.replicate (3 - (lg_sl ([.ref (ad 0), .int p1])).length) Slot.unset).toArray = ls at hl ⊢
  have hl : lv_has ls 3 [(0, .ref (ad 0)), (1, .int p1)] := hl
  change W p l e rmX6_append s m ([.ref (ad 0), .int p1] : List Value).toArray below meth c s.heap [] 0 0 _ _
  generalize hQ : MQ below (gQv (dC, dI) (wX6 dA ad o_c_size c_length c_place c_fault c_faultPlace c_begin o_c_bytes c_draft_terms) A) ([.ref (ad 0), .int p1] : List Value).toArray s 0 0 A = Q
  have LP3 : ∀ (n : Nat) (x1 : Int32) (c_length : Int32) (c_place : Int32) (c_fault : Int32) (c_faultPlace : Int32) (c_begin : Int32) (c_draft_terms : Nat → Int32) (x2 : Int32) (c_size : Int32) (c_bytes : Nat → Int32) (o_c_size : Int32) (o_c_bytes : Nat → Int32) (H : Heap) (locs : List Loc) (ls : Array Slot), va_P (dC, dI) vwCl (wX6 dA ad c_size c_length c_place c_fault c_faultPlace c_begin c_bytes c_draft_terms) H → va_D A (wX6 dA ad c_size c_length c_place c_fault c_faultPlace c_begin c_bytes c_draft_terms) → va_S A s.heap H locs → lpX6_append_3 x1 n x2 c_size c_bytes = some (o_c_size, o_c_bytes) → lv_has ls 3 [(0, .ref (ad 0)), (1, .int x1), (2, .int x2)] → (∀ (H : Heap) (locs : List Loc) (ls : Array Slot), va_P (dC, dI) vwCl (wX6 dA ad o_c_size c_length c_place c_fault c_faultPlace c_begin o_c_bytes c_draft_terms) H → va_D A (wX6 dA ad o_c_size c_length c_place c_fault c_faultPlace c_begin o_c_bytes c_draft_terms) → va_S A s.heap H locs → lv_has ls 3 [] → W p l e rmX6_append s m ([.ref (ad 0), .int p1] : List Value).toArray below meth c H locs 0 0 Q (F0 m 49 ls [])) → W p l e rmX6_append s m ([.ref (ad 0), .int p1] : List Value).toArray below meth c H locs 0 0 Q (F0 m 3 ls []) := by
    intro n
    induction n with
    | zero =>
      intro x1 c_length c_place c_fault c_faultPlace c_begin c_draft_terms x2 c_size c_bytes o_c_size o_c_bytes H locs ls hP hD hS hf hl hk
      cases hf
    | succ n ih3 =>
      intro x1 c_length c_place c_fault c_faultPlace c_begin c_draft_terms x2 c_size c_bytes o_c_size o_c_bytes H locs ls hP hD hS hf hl hk
      rw [lpX6_append_3.eq_2] at hf
      refine lv_iload_n hx hb dX6_append_3 rfl (lv_at hl 2 rfl) ?_
      refine lv_if_lt (tgt := 49) hx hb dX6_append_4 (by decide) (fun k4 => ?_) (fun k4 => ?_)
      · replace hf := ifp k4 hf
        cases hf
        exact hk _ _ _ hP hD hS (lv_sub hl [] rfl)
      · replace hf := ifn k4 hf
        refine lv_aload_n hx hb dX6_append_7 rfl (lv_at hl 0 rfl) ?_
        refine va_get (D := (dC, dI)) (ci := 6) (v := .int c_size) (C := RX6) (T := TX6) (N := 8) hx hb hts (fun w h => gw_mem (inX6 w h)) hown hK.1 hP 0 rfl rfl 1 (by decide) (hts _ (gw_mem wfX6_15)) (fun _ h9 => h9) rfl dX6_append_8 ?_
        refine lv_sipush (v := 200) hx hb dX6_append_11 (by decide) ?_
        refine lv_icmp_ge (tgt := 49) hx hb dX6_append_14 (by decide) (fun k5 => ?_) (fun k5 => ?_)
        · replace hf := ifp k5 hf
          cases hf
          exact hk _ _ _ hP hD hS (lv_sub hl [] rfl)
        · replace hf := ifn k5 hf
          refine lv_aload_n hx hb dX6_append_17 rfl (lv_at hl 0 rfl) ?_
          refine va_get (D := (dC, dI)) (ci := 6) (v := .ref (ad 1)) (C := RX6) (T := TX6) (N := 8) hx hb hts (fun w h => gw_mem (inX6 w h)) hown hK.1 hP 0 rfl rfl 0 (by decide) (hts _ (gw_mem wfX6_9)) (fun _ h9 => h9) rfl dX6_append_18 ?_
          refine lv_aload_n hx hb dX6_append_21 rfl (lv_at hl 0 rfl) ?_
          refine va_get (D := (dC, dI)) (ci := 6) (v := .int c_size) (C := RX6) (T := TX6) (N := 8) hx hb hts (fun w h => gw_mem (inX6 w h)) hown hK.1 hP 0 rfl rfl 1 (by decide) (hts _ (gw_mem wfX6_15)) (fun _ h9 => h9) rfl dX6_append_22 ?_
          refine lv_iload_n hx hb dX6_append_25 rfl (lv_at hl 1 rfl) ?_
          refine lv_iload_n hx hb dX6_append_26 rfl (lv_at hl 2 rfl) ?_
          refine lv_ishr hx hb dX6_append_27 ?_
          refine lv_sipush (v := 255) hx hb dX6_append_28 (by decide) ?_
          refine lv_iand hx hb dX6_append_31 ?_
          obtain ⟨h6, hf⟩ := og_some hf
          obtain ⟨w7, ew7⟩ : ∃ y : Nat → Int32, y = upd c_bytes (Int32.toNatClampNeg c_size) ((x1 >>> (x2 &&& 31)) &&& 255) := ⟨_, rfl⟩
          replace hf := nm_at hf ew7
          refine va_iast hx hb hK.1 hP hD hS 1 0 rfl rfl (okI_in h6) dX6_append_32 (fun H locs hP hD hS => ?_)
          have hP : va_P (dC, dI) vwCl (wX6 dA ad c_size c_length c_place c_fault c_faultPlace c_begin w7 c_draft_terms) H := by rw [ew7]; exact hP
          have hD : va_D A (wX6 dA ad c_size c_length c_place c_fault c_faultPlace c_begin w7 c_draft_terms) := by rw [ew7]; exact hD
          refine lv_aload_n hx hb dX6_append_33 rfl (lv_at hl 0 rfl) ?_
          refine lv_dup hx hb dX6_append_34 rfl ?_
          refine va_get (D := (dC, dI)) (ci := 6) (v := .int c_size) (C := RX6) (T := TX6) (N := 8) hx hb hts (fun w h => gw_mem (inX6 w h)) hown hK.1 hP 0 rfl rfl 1 (by decide) (hts _ (gw_mem wfX6_15)) (fun _ h9 => h9) rfl dX6_append_35 ?_
          refine lv_iconst (v := 1) hx hb dX6_append_38 (by decide) ?_
          refine lv_iadd hx hb dX6_append_39 ?_
          refine lv_topi (fun w8 ew8 => ?_)
          replace hf := nm_at hf ew8
          refine va_put (D := (dC, dI)) (ci := 6) (v := .int w8) (ty := .int) (C := RX6) (T := TX6) (N := 8) hx hb hts (fun w h => gw_mem (inX6 w h)) tyX6 tyX6_ok nmX6 hown hK.1 hP hD hS 0 rfl rfl 1 (by decide) (hts _ (gw_mem wfX6_15)) (fun _ h9 => h9) rfl (by decide +kernel) rfl rfl (Nat.le_of_ble_eq_true rfl) dX6_append_40 (fun H locs hP hD hS => ?_)
          have hP : va_P (dC, dI) vwCl (wX6 dA ad w8 c_length c_place c_fault c_faultPlace c_begin w7 c_draft_terms) H := hP
          have hD : va_D A (wX6 dA ad w8 c_length c_place c_fault c_faultPlace c_begin w7 c_draft_terms) := hD
          obtain ⟨w9, ew9⟩ : ∃ y : Int32, y = x2 + (-8) := ⟨_, rfl⟩
          replace hf := nm_at hf ew9
          refine lv_iinc (v := w9) (lv' := [(2, .int w9), (0, .ref (ad 0)), (1, .int x1)]) hx hb dX6_append_43 hl (k := 2) rfl (by rw [ew9]; rfl) (by decide) rfl (fun ls hl => ?_)
          refine lv_goto (tgt := 3) hx hb dX6_append_46 (by decide) ?_
          exact ih3 _ _ _ _ _ _ _ _ _ _ _ _ _ _ _ hP hD hS hf (lv_sub hl [1, 2, 0] rfl) hk
  subst hQ
  unfold fX6_append at hf
  refine lv_bipush (v := 24) hx hb dX6_append_0 (by decide) ?_
  refine lv_istore_n (lv' := [(2, .int 24), (0, .ref (ad 0)), (1, .int p1)]) hx hb dX6_append_2 rfl hl (by decide) rfl (fun ls hl => ?_)
  obtain ⟨c_size_1, c_bytes_2, v3, hf⟩ := bd2_some hf
  refine LP3 FU _ _ _ _ _ _ _ _ _ _ _ _ _ _ _ hP hD hS v3 (lv_sub hl [1, 2, 0] rfl) (fun H locs ls hP hD hS hl => ?_)
  cases hf
  exact W.vret hx hb hr (fun t ht _ => gqv hP hD hS ht) hS.2.2 dX6_append_49
theorem ccX6_X8_longer {R : Room} {s : State} {args : Array Value} {c0 : Cond} (hN : gN s) (ht : ∀ w ∈ wq c0, w.before args s = true) (hR : rmX8_longer.frames + 1 ≤ R.frames ∧ 8 + (2 + 11) + rmX8_longer.locals ≤ R.locals) : va_CN R s args RX6 41 yX8_longer RX8 cX8_longer 2 (some .int) (wq (.code yX8_longer cX8_longer 2 (some .int))) rmX8_longer 0 0 2 ∧ (Cond.static yX8_longer).before args s = true ∧ True := gCSN 2 hN ht wcX8_longer wmX6_41 wtX8_longer wnX8 (by decide +kernel) rfl rfl hR
def lpX6_readMoves_4 (x1 : Int32) (c_bytes : Nat → Int32) : Nat → Int32 → Int32 → Option (Nat × Int32)
  | 0, _, _ => none
  | n + 1, x2, x3 => if x1 ≤ x3 then some (1, x2) else if 6 ≤ x3 then some (1, x2) else og (okI x3 200) (if (c_bytes (Int32.toNatClampNeg x3)) = 117 then og (okI x3 200) (if (c_bytes (Int32.toNatClampNeg x3)) = 117 then bd1 (fX8_longer x2 1) (fun r13 => nm (x3 + 1) (fun w15 => lpX6_readMoves_4 x1 c_bytes n r13 w15)) else bd1 (fX8_longer x2 0) (fun r10 => nm (x3 + 1) (fun w12 => lpX6_readMoves_4 x1 c_bytes n r10 w12))) else og (okI x3 200) (if (c_bytes (Int32.toNatClampNeg x3)) = 100 then og (okI x3 200) (if (c_bytes (Int32.toNatClampNeg x3)) = 117 then bd1 (fX8_longer x2 1) (fun r23 => nm (x3 + 1) (fun w25 => lpX6_readMoves_4 x1 c_bytes n r23 w25)) else bd1 (fX8_longer x2 0) (fun r20 => nm (x3 + 1) (fun w22 => lpX6_readMoves_4 x1 c_bytes n r20 w22))) else some (0, x2)))
def fX6_readMoves (p1 : Int32) (c_bytes : Nat → Int32) : Option (Int32) := bd2 (lpX6_readMoves_4 p1 c_bytes FU 1 0) (fun tg1 x2 => if tg1 = 0 then some (0) else some (x2))
abbrev rmX6_readMoves : Room := { frames := 1, cells := 0, slots := 0, locals := 21 }
set_option maxHeartbeats 4000000 in
set_option maxRecDepth 100000 in
theorem tX6_readMoves (l : Launch) (dC : Nat → ClassId) (dI : Nat → Nat → Nat) (dA : Nat → ClassId) (ad : Nat → Nat) (sz : Nat) {p1 : Int32} {c_size : Int32} {c_length : Int32} {c_place : Int32} {c_fault : Int32} {c_faultPlace : Int32} {c_begin : Int32} {c_bytes : Nat → Int32} {c_draft_terms : Nat → Int32} {r : Int32} (hf : fX6_readMoves p1 c_bytes = some (r)) : Met l yX6_readMoves (wq (Cond.code yX6_readMoves cX6_readMoves 4 (some .int))) rmX6_readMoves (gP [.ref (ad 0), .int p1] (dC, dI) dA (wX6 dA ad c_size c_length c_place c_fault c_faultPlace c_begin c_bytes c_draft_terms) sz) (gQi (dC, dI) r (wX6 dA ad c_size c_length c_place c_fault c_faultPlace c_begin c_bytes c_draft_terms) (va_A (wX6 dA ad c_size c_length c_place c_fault c_faultPlace c_begin c_bytes c_draft_terms) sz)) 0 0 (va_A (wX6 dA ad c_size c_length c_place c_fault c_faultPlace c_begin c_bytes c_draft_terms) sz) := by
  refine Met.ofW (cc := cX6_readMoves) (maxL := 4) (ret := (some .int)) (by decide) rfl ?_
  intro p e s m args below meth c s₁ B hml hv
  obtain ⟨rfl, hsz, hP, hK, hD0⟩ := hv
  have hx := B.exec
  have hb := B.bytes
  have hr := B.returns
  have hts := atoms_spec (ws := wq (Cond.code yX6_readMoves cX6_readMoves 4 (some .int))) B.pre
  have hown : s.vm.findClass RX6 = some m.cls := findClass_of_methodNamed B.named
  have hlocks := B.notSynchronized
  clear B
  subst hsz
  have hD := hD0.self (sz := s.heap.size)
  generalize hAe : va_A (wX6 dA ad c_size c_length c_place c_fault c_faultPlace c_begin c_bytes c_draft_terms) s.heap.size = A at hD ⊢
  have hA : ∀ q : Nat, s.heap.size ≤ q → A q := fun q h => by rw [← hAe]; exact Or.inr h
  clear hAe hD0
  have hS : va_S A s.heap s.heap [] := va_S.rf
  have hl := lv_entry ([.ref (ad 0), .int p1]) (n := 4) (Nat.le_of_ble_eq_true rfl)
  rw [lg_entry_eq]
  generalize (lg_sl ([.ref (ad 0), .int p1]) ++ List.replicate (4 - (lg_sl ([.ref (ad 0), .int p1])).length) Slot.unset).toArray = ls at hl ⊢
  have hl : lv_has ls 4 [(0, .ref (ad 0)), (1, .int p1)] := hl
  change W p l e rmX6_readMoves s m ([.ref (ad 0), .int p1] : List Value).toArray below meth c s.heap [] 0 0 _ _
  generalize hQ : MQ below (gQi (dC, dI) r (wX6 dA ad c_size c_length c_place c_fault c_faultPlace c_begin c_bytes c_draft_terms) A) ([.ref (ad 0), .int p1] : List Value).toArray s 0 0 A = Q
  have LP4 : ∀ (n : Nat) (x1 : Int32) (c_bytes : Nat → Int32) (c_size : Int32) (c_length : Int32) (c_place : Int32) (c_fault : Int32) (c_faultPlace : Int32) (c_begin : Int32) (c_draft_terms : Nat → Int32) (x2 : Int32) (x3 : Int32) (tgo : Nat) (o2 : Int32) (H : Heap) (locs : List Loc) (ls : Array Slot), va_P (dC, dI) vwCl (wX6 dA ad c_size c_length c_place c_fault c_faultPlace c_begin c_bytes c_draft_terms) H → va_D A (wX6 dA ad c_size c_length c_place c_fault c_faultPlace c_begin c_bytes c_draft_terms) → va_S A s.heap H locs → lpX6_readMoves_4 x1 c_bytes n x2 x3 = some (tgo, o2) → lv_has ls 4 [(0, .ref (ad 0)), (1, .int x1), (2, .int x2), (3, .int x3)] → (tgo = 0 → ∀ (H : Heap) (locs : List Loc) (ls : Array Slot), va_P (dC, dI) vwCl (wX6 dA ad c_size c_length c_place c_fault c_faultPlace c_begin c_bytes c_draft_terms) H → va_D A (wX6 dA ad c_size c_length c_place c_fault c_faultPlace c_begin c_bytes c_draft_terms) → va_S A s.heap H locs → lv_has ls 4 [] → W p l e rmX6_readMoves s m ([.ref (ad 0), .int p1] : List Value).toArray below meth c H locs 0 0 Q (F0 m 37 ls [])) → (tgo = 1 → ∀ (H : Heap) (locs : List Loc) (ls : Array Slot), va_P (dC, dI) vwCl (wX6 dA ad c_size c_length c_place c_fault c_faultPlace c_begin c_bytes c_draft_terms) H → va_D A (wX6 dA ad c_size c_length c_place c_fault c_faultPlace c_begin c_bytes c_draft_terms) → va_S A s.heap H locs → lv_has ls 4 [(2, .int o2)] → W p l e rmX6_readMoves s m ([.ref (ad 0), .int p1] : List Value).toArray below meth c H locs 0 0 Q (F0 m 66 ls [])) → W p l e rmX6_readMoves s m ([.ref (ad 0), .int p1] : List Value).toArray below meth c H locs 0 0 Q (F0 m 4 ls []) := by
    intro n
    induction n with
    | zero =>
      intro x1 c_bytes c_size c_length c_place c_fault c_faultPlace c_begin c_draft_terms x2 x3 tgo o2 H locs ls hP hD hS hf hl hk0 hk1
      cases hf
    | succ n ih4 =>
      intro x1 c_bytes c_size c_length c_place c_fault c_faultPlace c_begin c_draft_terms x2 x3 tgo o2 H locs ls hP hD hS hf hl hk0 hk1
      rw [lpX6_readMoves_4.eq_2] at hf
      refine lv_iload_n hx hb dX6_readMoves_4 rfl (lv_at hl 3 rfl) ?_
      refine lv_iload_n hx hb dX6_readMoves_5 rfl (lv_at hl 1 rfl) ?_
      refine lv_icmp_ge (tgt := 66) hx hb dX6_readMoves_6 (by decide) (fun k4 => ?_) (fun k4 => ?_)
      · replace hf := ifp k4 hf
        cases hf
        exact hk1 rfl _ _ _ hP hD hS (lv_sub hl [2] rfl)
      · replace hf := ifn k4 hf
        refine lv_iload_n hx hb dX6_readMoves_9 rfl (lv_at hl 3 rfl) ?_
        refine lv_bipush (v := 6) hx hb dX6_readMoves_10 (by decide) ?_
        refine lv_icmp_ge (tgt := 66) hx hb dX6_readMoves_12 (by decide) (fun k5 => ?_) (fun k5 => ?_)
        · replace hf := ifp k5 hf
          cases hf
          exact hk1 rfl _ _ _ hP hD hS (lv_sub hl [2] rfl)
        · replace hf := ifn k5 hf
          refine lv_aload_n hx hb dX6_readMoves_15 rfl (lv_at hl 0 rfl) ?_
          refine va_get (D := (dC, dI)) (ci := 6) (v := .ref (ad 1)) (C := RX6) (T := TX6) (N := 8) hx hb hts (fun w h => gw_mem (inX6 w h)) hown hK.1 hP 0 rfl rfl 0 (by decide) (hts _ (gw_mem wfX6_9)) (fun _ h9 => h9) rfl dX6_readMoves_16 ?_
          refine lv_iload_n hx hb dX6_readMoves_19 rfl (lv_at hl 3 rfl) ?_
          obtain ⟨h6, hf⟩ := og_some hf
          refine va_iald hx hb hK.1 hP 1 0 rfl rfl (okI_in h6) dX6_readMoves_20 ?_
          refine lv_bipush (v := 117) hx hb dX6_readMoves_21 (by decide) ?_
          refine lv_icmp_eq (tgt := 39) hx hb dX6_readMoves_23 (by decide) (fun k7 => ?_) (fun k7 => ?_)
          · replace hf := ifp k7 hf
            refine lv_iload_n hx hb dX6_readMoves_39 rfl (lv_at hl 2 rfl) ?_
            refine lv_aload_n hx hb dX6_readMoves_40 rfl (lv_at hl 0 rfl) ?_
            refine va_get (D := (dC, dI)) (ci := 6) (v := .ref (ad 1)) (C := RX6) (T := TX6) (N := 8) hx hb hts (fun w h => gw_mem (inX6 w h)) hown hK.1 hP 0 rfl rfl 0 (by decide) (hts _ (gw_mem wfX6_9)) (fun _ h9 => h9) rfl dX6_readMoves_41 ?_
            refine lv_iload_n hx hb dX6_readMoves_44 rfl (lv_at hl 3 rfl) ?_
            obtain ⟨h8, hf⟩ := og_some hf
            refine va_iald hx hb hK.1 hP 1 0 rfl rfl (okI_in h8) dX6_readMoves_45 ?_
            refine lv_bipush (v := 117) hx hb dX6_readMoves_46 (by decide) ?_
            refine lv_icmp_ne (tgt := 55) hx hb dX6_readMoves_48 (by decide) (fun k9 => ?_) (fun k9 => ?_)
            · replace hf := ifn k9 hf
              refine lv_iconst (v := 0) hx hb dX6_readMoves_55 (by decide) ?_
              obtain ⟨r10, v11, hf⟩ := bd1_some hf
              refine gci0 (va_runSN (As := [.int x2, .int 0]) (rest := []) ⟨hx, hb, hml, hown, hts⟩ (tX8_longer l dC dI dA H.size v11) (ccX6_X8_longer hK.2 hts ⟨Nat.le_of_ble_eq_true rfl, Nat.le_of_ble_eq_true rfl⟩) (gPreS0 hK) rfl rfl hl.1 rfl (lv_room (Nat.le_of_ble_eq_true rfl)) dX6_readMoves_56 ⟨Nat.le_of_ble_eq_true rfl, Nat.le_of_ble_eq_true rfl⟩) hP hS hA (fun H locs hP hS => ?_)
              refine lv_istore_n (lv' := [(2, .int r10), (0, .ref (ad 0)), (1, .int x1), (3, .int x3)]) hx hb dX6_readMoves_59 rfl hl (by decide) rfl (fun ls hl => ?_)
              obtain ⟨w12, ew12⟩ : ∃ y : Int32, y = x3 + 1 := ⟨_, rfl⟩
              replace hf := nm_at hf ew12
              refine lv_iinc (v := w12) (lv' := [(3, .int w12), (2, .int r10), (0, .ref (ad 0)), (1, .int x1)]) hx hb dX6_readMoves_60 hl (k := 3) rfl (by rw [ew12]; rfl) (by decide) rfl (fun ls hl => ?_)
              refine lv_goto (tgt := 4) hx hb dX6_readMoves_63 (by decide) ?_
              exact ih4 _ _ _ _ _ _ _ _ _ _ _ _ _ _ _ _ hP hD hS hf (lv_sub hl [2, 3, 1, 0] rfl) hk0 hk1
            · replace hf := ifp k9 hf
              refine lv_iconst (v := 1) hx hb dX6_readMoves_51 (by decide) ?_
              refine lv_goto (tgt := 56) hx hb dX6_readMoves_52 (by decide) ?_
              obtain ⟨r13, v14, hf⟩ := bd1_some hf
              refine gci0 (va_runSN (As := [.int x2, .int 1]) (rest := []) ⟨hx, hb, hml, hown, hts⟩ (tX8_longer l dC dI dA H.size v14) (ccX6_X8_longer hK.2 hts ⟨Nat.le_of_ble_eq_true rfl, Nat.le_of_ble_eq_true rfl⟩) (gPreS0 hK) rfl rfl hl.1 rfl (lv_room (Nat.le_of_ble_eq_true rfl)) dX6_readMoves_56 ⟨Nat.le_of_ble_eq_true rfl, Nat.le_of_ble_eq_true rfl⟩) hP hS hA (fun H locs hP hS => ?_)
              refine lv_istore_n (lv' := [(2, .int r13), (0, .ref (ad 0)), (1, .int x1), (3, .int x3)]) hx hb dX6_readMoves_59 rfl hl (by decide) rfl (fun ls hl => ?_)
              obtain ⟨w15, ew15⟩ : ∃ y : Int32, y = x3 + 1 := ⟨_, rfl⟩
              replace hf := nm_at hf ew15
              refine lv_iinc (v := w15) (lv' := [(3, .int w15), (2, .int r13), (0, .ref (ad 0)), (1, .int x1)]) hx hb dX6_readMoves_60 hl (k := 3) rfl (by rw [ew15]; rfl) (by decide) rfl (fun ls hl => ?_)
              refine lv_goto (tgt := 4) hx hb dX6_readMoves_63 (by decide) ?_
              exact ih4 _ _ _ _ _ _ _ _ _ _ _ _ _ _ _ _ hP hD hS hf (lv_sub hl [2, 3, 1, 0] rfl) hk0 hk1
          · replace hf := ifn k7 hf
            refine lv_aload_n hx hb dX6_readMoves_26 rfl (lv_at hl 0 rfl) ?_
            refine va_get (D := (dC, dI)) (ci := 6) (v := .ref (ad 1)) (C := RX6) (T := TX6) (N := 8) hx hb hts (fun w h => gw_mem (inX6 w h)) hown hK.1 hP 0 rfl rfl 0 (by decide) (hts _ (gw_mem wfX6_9)) (fun _ h9 => h9) rfl dX6_readMoves_27 ?_
            refine lv_iload_n hx hb dX6_readMoves_30 rfl (lv_at hl 3 rfl) ?_
            obtain ⟨h16, hf⟩ := og_some hf
            refine va_iald hx hb hK.1 hP 1 0 rfl rfl (okI_in h16) dX6_readMoves_31 ?_
            refine lv_bipush (v := 100) hx hb dX6_readMoves_32 (by decide) ?_
            refine lv_icmp_eq (tgt := 39) hx hb dX6_readMoves_34 (by decide) (fun k17 => ?_) (fun k17 => ?_)
            · replace hf := ifp k17 hf
              refine lv_iload_n hx hb dX6_readMoves_39 rfl (lv_at hl 2 rfl) ?_
              refine lv_aload_n hx hb dX6_readMoves_40 rfl (lv_at hl 0 rfl) ?_
              refine va_get (D := (dC, dI)) (ci := 6) (v := .ref (ad 1)) (C := RX6) (T := TX6) (N := 8) hx hb hts (fun w h => gw_mem (inX6 w h)) hown hK.1 hP 0 rfl rfl 0 (by decide) (hts _ (gw_mem wfX6_9)) (fun _ h9 => h9) rfl dX6_readMoves_41 ?_
              refine lv_iload_n hx hb dX6_readMoves_44 rfl (lv_at hl 3 rfl) ?_
              obtain ⟨h18, hf⟩ := og_some hf
              refine va_iald hx hb hK.1 hP 1 0 rfl rfl (okI_in h18) dX6_readMoves_45 ?_
              refine lv_bipush (v := 117) hx hb dX6_readMoves_46 (by decide) ?_
              refine lv_icmp_ne (tgt := 55) hx hb dX6_readMoves_48 (by decide) (fun k19 => ?_) (fun k19 => ?_)
              · replace hf := ifn k19 hf
                refine lv_iconst (v := 0) hx hb dX6_readMoves_55 (by decide) ?_
                obtain ⟨r20, v21, hf⟩ := bd1_some hf
                refine gci0 (va_runSN (As := [.int x2, .int 0]) (rest := []) ⟨hx, hb, hml, hown, hts⟩ (tX8_longer l dC dI dA H.size v21) (ccX6_X8_longer hK.2 hts ⟨Nat.le_of_ble_eq_true rfl, Nat.le_of_ble_eq_true rfl⟩) (gPreS0 hK) rfl rfl hl.1 rfl (lv_room (Nat.le_of_ble_eq_true rfl)) dX6_readMoves_56 ⟨Nat.le_of_ble_eq_true rfl, Nat.le_of_ble_eq_true rfl⟩) hP hS hA (fun H locs hP hS => ?_)
                refine lv_istore_n (lv' := [(2, .int r20), (0, .ref (ad 0)), (1, .int x1), (3, .int x3)]) hx hb dX6_readMoves_59 rfl hl (by decide) rfl (fun ls hl => ?_)
                obtain ⟨w22, ew22⟩ : ∃ y : Int32, y = x3 + 1 := ⟨_, rfl⟩
                replace hf := nm_at hf ew22
                refine lv_iinc (v := w22) (lv' := [(3, .int w22), (2, .int r20), (0, .ref (ad 0)), (1, .int x1)]) hx hb dX6_readMoves_60 hl (k := 3) rfl (by rw [ew22]; rfl) (by decide) rfl (fun ls hl => ?_)
                refine lv_goto (tgt := 4) hx hb dX6_readMoves_63 (by decide) ?_
                exact ih4 _ _ _ _ _ _ _ _ _ _ _ _ _ _ _ _ hP hD hS hf (lv_sub hl [2, 3, 1, 0] rfl) hk0 hk1
              · replace hf := ifp k19 hf
                refine lv_iconst (v := 1) hx hb dX6_readMoves_51 (by decide) ?_
                refine lv_goto (tgt := 56) hx hb dX6_readMoves_52 (by decide) ?_
                obtain ⟨r23, v24, hf⟩ := bd1_some hf
                refine gci0 (va_runSN (As := [.int x2, .int 1]) (rest := []) ⟨hx, hb, hml, hown, hts⟩ (tX8_longer l dC dI dA H.size v24) (ccX6_X8_longer hK.2 hts ⟨Nat.le_of_ble_eq_true rfl, Nat.le_of_ble_eq_true rfl⟩) (gPreS0 hK) rfl rfl hl.1 rfl (lv_room (Nat.le_of_ble_eq_true rfl)) dX6_readMoves_56 ⟨Nat.le_of_ble_eq_true rfl, Nat.le_of_ble_eq_true rfl⟩) hP hS hA (fun H locs hP hS => ?_)
                refine lv_istore_n (lv' := [(2, .int r23), (0, .ref (ad 0)), (1, .int x1), (3, .int x3)]) hx hb dX6_readMoves_59 rfl hl (by decide) rfl (fun ls hl => ?_)
                obtain ⟨w25, ew25⟩ : ∃ y : Int32, y = x3 + 1 := ⟨_, rfl⟩
                replace hf := nm_at hf ew25
                refine lv_iinc (v := w25) (lv' := [(3, .int w25), (2, .int r23), (0, .ref (ad 0)), (1, .int x1)]) hx hb dX6_readMoves_60 hl (k := 3) rfl (by rw [ew25]; rfl) (by decide) rfl (fun ls hl => ?_)
                refine lv_goto (tgt := 4) hx hb dX6_readMoves_63 (by decide) ?_
                exact ih4 _ _ _ _ _ _ _ _ _ _ _ _ _ _ _ _ hP hD hS hf (lv_sub hl [2, 3, 1, 0] rfl) hk0 hk1
            · replace hf := ifn k17 hf
              cases hf
              exact hk0 rfl _ _ _ hP hD hS (lv_sub hl [] rfl)
  subst hQ
  unfold fX6_readMoves at hf
  refine lv_iconst (v := 1) hx hb dX6_readMoves_0 (by decide) ?_
  refine lv_istore_n (lv' := [(2, .int 1), (0, .ref (ad 0)), (1, .int p1)]) hx hb dX6_readMoves_1 rfl hl (by decide) rfl (fun ls hl => ?_)
  refine lv_iconst (v := 0) hx hb dX6_readMoves_2 (by decide) ?_
  refine lv_istore_n (lv' := [(3, .int 0), (2, .int 1), (0, .ref (ad 0)), (1, .int p1)]) hx hb dX6_readMoves_3 rfl hl (by decide) rfl (fun ls hl => ?_)
  obtain ⟨tg1, x2, v3, hf⟩ := bd2_some hf
  refine LP4 FU _ _ _ _ _ _ _ _ _ _ _ _ _ _ _ _ hP hD hS v3 (lv_sub hl [2, 3, 1, 0] rfl) (fun etg1 H locs ls hP hD hS hl => ?_) (fun etg1 H locs ls hP hD hS hl => ?_)
  · replace hf := ifp etg1 hf
    refine lv_iconst (v := 0) hx hb dX6_readMoves_37 (by decide) ?_
    cases hf
    exact W.iret hx hb hr (fun t ht _ => gqi hP hD hS ht) hS.2.2 dX6_readMoves_38
  · replace hf := ifn (c := tg1 = 0) (by rw [etg1]; decide) hf
    refine lv_iload_n hx hb dX6_readMoves_66 rfl (lv_at hl 0 rfl) ?_
    cases hf
    exact W.iret hx hb hr (fun t ht _ => gqi hP hD hS ht) hS.2.2 dX6_readMoves_67
def fX6_byteAt (p1 : Int32) (c_length : Int32) (c_bytes : Nat → Int32) : Option (Int32) := if p1 < 0 then some ((-1)) else if c_length ≤ p1 then some ((-1)) else if 200 ≤ p1 then some ((-1)) else og (okI p1 200) (some (c_bytes (Int32.toNatClampNeg p1)))
abbrev rmX6_byteAt : Room := { frames := 0, cells := 0, slots := 0, locals := 0 }
set_option maxHeartbeats 4000000 in
set_option maxRecDepth 100000 in
theorem tX6_byteAt (l : Launch) (dC : Nat → ClassId) (dI : Nat → Nat → Nat) (dA : Nat → ClassId) (ad : Nat → Nat) (sz : Nat) {p1 : Int32} {c_size : Int32} {c_length : Int32} {c_place : Int32} {c_fault : Int32} {c_faultPlace : Int32} {c_begin : Int32} {c_bytes : Nat → Int32} {c_draft_terms : Nat → Int32} {r : Int32} (hf : fX6_byteAt p1 c_length c_bytes = some (r)) : Met l yX6_byteAt (wq (Cond.code yX6_byteAt cX6_byteAt 2 (some .int))) rmX6_byteAt (gP [.ref (ad 0), .int p1] (dC, dI) dA (wX6 dA ad c_size c_length c_place c_fault c_faultPlace c_begin c_bytes c_draft_terms) sz) (gQi (dC, dI) r (wX6 dA ad c_size c_length c_place c_fault c_faultPlace c_begin c_bytes c_draft_terms) (va_A (wX6 dA ad c_size c_length c_place c_fault c_faultPlace c_begin c_bytes c_draft_terms) sz)) 0 0 (va_A (wX6 dA ad c_size c_length c_place c_fault c_faultPlace c_begin c_bytes c_draft_terms) sz) := by
  refine Met.ofW (cc := cX6_byteAt) (maxL := 2) (ret := (some .int)) (by decide) rfl ?_
  intro p e s m args below meth c s₁ B hml hv
  obtain ⟨rfl, hsz, hP, hK, hD0⟩ := hv
  have hx := B.exec
  have hb := B.bytes
  have hr := B.returns
  have hts := atoms_spec (ws := wq (Cond.code yX6_byteAt cX6_byteAt 2 (some .int))) B.pre
  have hown : s.vm.findClass RX6 = some m.cls := findClass_of_methodNamed B.named
  have hlocks := B.notSynchronized
  clear B
  subst hsz
  have hD := hD0.self (sz := s.heap.size)
  generalize hAe : va_A (wX6 dA ad c_size c_length c_place c_fault c_faultPlace c_begin c_bytes c_draft_terms) s.heap.size = A at hD ⊢
  have hA : ∀ q : Nat, s.heap.size ≤ q → A q := fun q h => by rw [← hAe]; exact Or.inr h
  clear hAe hD0
  have hS : va_S A s.heap s.heap [] := va_S.rf
  have hl := lv_entry ([.ref (ad 0), .int p1]) (n := 2) (Nat.le_of_ble_eq_true rfl)
  rw [lg_entry_eq]
  generalize (lg_sl ([.ref (ad 0), .int p1]) ++ List.replicate (2 - (lg_sl ([.ref (ad 0), .int p1])).length) Slot.unset).toArray = ls at hl ⊢
  have hl : lv_has ls 2 [(0, .ref (ad 0)), (1, .int p1)] := hl
  change W p l e rmX6_byteAt s m ([.ref (ad 0), .int p1] : List Value).toArray below meth c s.heap [] 0 0 _ _
  unfold fX6_byteAt at hf
  refine lv_iconst (v := 0) hx hb dX6_byteAt_0 (by decide) ?_
  refine lv_iload_n hx hb dX6_byteAt_1 rfl (lv_at hl 1 rfl) ?_
  refine lv_icmp_gt (tgt := 29) hx hb dX6_byteAt_2 (by decide) (fun k1 => ?_) (fun k1 => ?_)
  · replace hf := ifp k1 hf
    refine lv_iconst (v := (-1)) hx hb dX6_byteAt_29 (by decide) ?_
    cases hf
    exact W.iret hx hb hr (fun t ht _ => gqi hP hD hS ht) hS.2.2 dX6_byteAt_30
  · replace hf := ifn k1 hf
    refine lv_iload_n hx hb dX6_byteAt_5 rfl (lv_at hl 1 rfl) ?_
    refine lv_aload_n hx hb dX6_byteAt_6 rfl (lv_at hl 0 rfl) ?_
    refine va_get (D := (dC, dI)) (ci := 6) (v := .int c_length) (C := RX6) (T := TX6) (N := 8) hx hb hts (fun w h => gw_mem (inX6 w h)) hown hK.1 hP 0 rfl rfl 3 (by decide) (hts _ (gw_mem wfX6_26)) (fun _ h9 => h9) rfl dX6_byteAt_7 ?_
    refine lv_icmp_ge (tgt := 29) hx hb dX6_byteAt_10 (by decide) (fun k2 => ?_) (fun k2 => ?_)
    · replace hf := ifp k2 hf
      refine lv_iconst (v := (-1)) hx hb dX6_byteAt_29 (by decide) ?_
      cases hf
      exact W.iret hx hb hr (fun t ht _ => gqi hP hD hS ht) hS.2.2 dX6_byteAt_30
    · replace hf := ifn k2 hf
      refine lv_iload_n hx hb dX6_byteAt_13 rfl (lv_at hl 1 rfl) ?_
      refine lv_sipush (v := 200) hx hb dX6_byteAt_14 (by decide) ?_
      refine lv_icmp_ge (tgt := 29) hx hb dX6_byteAt_17 (by decide) (fun k3 => ?_) (fun k3 => ?_)
      · replace hf := ifp k3 hf
        refine lv_iconst (v := (-1)) hx hb dX6_byteAt_29 (by decide) ?_
        cases hf
        exact W.iret hx hb hr (fun t ht _ => gqi hP hD hS ht) hS.2.2 dX6_byteAt_30
      · replace hf := ifn k3 hf
        refine lv_aload_n hx hb dX6_byteAt_20 rfl (lv_at hl 0 rfl) ?_
        refine va_get (D := (dC, dI)) (ci := 6) (v := .ref (ad 1)) (C := RX6) (T := TX6) (N := 8) hx hb hts (fun w h => gw_mem (inX6 w h)) hown hK.1 hP 0 rfl rfl 0 (by decide) (hts _ (gw_mem wfX6_9)) (fun _ h9 => h9) rfl dX6_byteAt_21 ?_
        refine lv_iload_n hx hb dX6_byteAt_24 rfl (lv_at hl 1 rfl) ?_
        obtain ⟨h4, hf⟩ := og_some hf
        refine va_iald hx hb hK.1 hP 1 0 rfl rfl (okI_in h4) dX6_byteAt_25 ?_
        refine lv_goto (tgt := 30) hx hb dX6_byteAt_26 (by decide) ?_
        cases hf
        exact W.iret hx hb hr (fun t ht _ => gqi hP hD hS ht) hS.2.2 dX6_byteAt_30
theorem ccX6_X6_byteAt {R : Room} {s : State} {args : Array Value} {c0 : Cond} (ht : ∀ w ∈ wq c0, w.before args s = true) (hR : rmX6_byteAt.frames + 1 ≤ R.frames ∧ 8 + (2 + 11) + rmX6_byteAt.locals ≤ R.locals) : CallW R s args RX6 RX6 112 yX6_byteAt cX6_byteAt 2 (some .int) (wq (.code yX6_byteAt cX6_byteAt 2 (some .int))) rmX6_byteAt 0 0 1 := gCW 1 ht wcX6_byteAt wmX6_112 wiX6_byteAt weX6_byteAt wnX6 (by decide +kernel) rfl rfl hR
def lpX6_look_0 (c_length : Int32) (c_bytes : Nat → Int32) : Nat → Int32 → Option (Int32)
  | 0, _ => none
  | n + 1, c_place => if c_length ≤ c_place then some (c_place) else bd1 (fX6_byteAt c_place c_length c_bytes) (fun r6 => if r6 = 32 then nm (c_place + 1) (fun w9 => lpX6_look_0 c_length c_bytes n w9) else some (c_place))
def fX6_look (c_length : Int32) (c_place : Int32) (c_bytes : Nat → Int32) : Option (Int32 × Int32) := bd1 (lpX6_look_0 c_length c_bytes FU c_place) (fun c_place_1 => bd1 (fX6_byteAt c_place_1 c_length c_bytes) (fun r3 => some (r3, c_place_1)))
abbrev rmX6_look : Room := { frames := 1, cells := 0, slots := 0, locals := 21 }
set_option maxHeartbeats 4000000 in
set_option maxRecDepth 100000 in
theorem tX6_look (l : Launch) (dC : Nat → ClassId) (dI : Nat → Nat → Nat) (dA : Nat → ClassId) (ad : Nat → Nat) (sz : Nat) {c_size : Int32} {c_length : Int32} {c_place : Int32} {c_fault : Int32} {c_faultPlace : Int32} {c_begin : Int32} {c_bytes : Nat → Int32} {c_draft_terms : Nat → Int32} {r : Int32} {o_c_place : Int32} (hf : fX6_look c_length c_place c_bytes = some (r, o_c_place)) : Met l yX6_look (wq (Cond.code yX6_look cX6_look 1 (some .int))) rmX6_look (gP [.ref (ad 0)] (dC, dI) dA (wX6 dA ad c_size c_length c_place c_fault c_faultPlace c_begin c_bytes c_draft_terms) sz) (gQi (dC, dI) r (wX6 dA ad c_size c_length o_c_place c_fault c_faultPlace c_begin c_bytes c_draft_terms) (va_A (wX6 dA ad c_size c_length c_place c_fault c_faultPlace c_begin c_bytes c_draft_terms) sz)) 0 0 (va_A (wX6 dA ad c_size c_length c_place c_fault c_faultPlace c_begin c_bytes c_draft_terms) sz) := by
  refine Met.ofW (cc := cX6_look) (maxL := 1) (ret := (some .int)) (by decide) rfl ?_
  intro p e s m args below meth c s₁ B hml hv
  obtain ⟨rfl, hsz, hP, hK, hD0⟩ := hv
  have hx := B.exec
  have hb := B.bytes
  have hr := B.returns
  have hts := atoms_spec (ws := wq (Cond.code yX6_look cX6_look 1 (some .int))) B.pre
  have hown : s.vm.findClass RX6 = some m.cls := findClass_of_methodNamed B.named
  have hlocks := B.notSynchronized
  clear B
  subst hsz
  have hD := hD0.self (sz := s.heap.size)
  generalize hAe : va_A (wX6 dA ad c_size c_length c_place c_fault c_faultPlace c_begin c_bytes c_draft_terms) s.heap.size = A at hD ⊢
  have hA : ∀ q : Nat, s.heap.size ≤ q → A q := fun q h => by rw [← hAe]; exact Or.inr h
  clear hAe hD0
  have hS : va_S A s.heap s.heap [] := va_S.rf
  have hl := lv_entry ([.ref (ad 0)]) (n := 1) (Nat.le_of_ble_eq_true rfl)
  rw [lg_entry_eq]
  generalize (lg_sl ([.ref (ad 0)]) ++ List.replicate (1 - (lg_sl ([.ref (ad 0)])).length) Slot.unset).toArray = ls at hl ⊢
  have hl : lv_has ls 1 [(0, .ref (ad 0))] := hl
  change W p l e rmX6_look s m ([.ref (ad 0)] : List Value).toArray below meth c s.heap [] 0 0 _ _
  generalize hQ : MQ below (gQi (dC, dI) r (wX6 dA ad c_size c_length o_c_place c_fault c_faultPlace c_begin c_bytes c_draft_terms) A) ([.ref (ad 0)] : List Value).toArray s 0 0 A = Q
  have LP0 : ∀ (n : Nat) (c_length : Int32) (c_bytes : Nat → Int32) (c_size : Int32) (c_fault : Int32) (c_faultPlace : Int32) (c_begin : Int32) (c_draft_terms : Nat → Int32) (c_place : Int32) (o_c_place : Int32) (H : Heap) (locs : List Loc) (ls : Array Slot), va_P (dC, dI) vwCl (wX6 dA ad c_size c_length c_place c_fault c_faultPlace c_begin c_bytes c_draft_terms) H → va_D A (wX6 dA ad c_size c_length c_place c_fault c_faultPlace c_begin c_bytes c_draft_terms) → va_S A s.heap H locs → lpX6_look_0 c_length c_bytes n c_place = some (o_c_place) → lv_has ls 1 [(0, .ref (ad 0))] → (∀ (H : Heap) (locs : List Loc) (ls : Array Slot), va_P (dC, dI) vwCl (wX6 dA ad c_size c_length o_c_place c_fault c_faultPlace c_begin c_bytes c_draft_terms) H → va_D A (wX6 dA ad c_size c_length o_c_place c_fault c_faultPlace c_begin c_bytes c_draft_terms) → va_S A s.heap H locs → lv_has ls 1 [(0, .ref (ad 0))] → W p l e rmX6_look s m ([.ref (ad 0)] : List Value).toArray below meth c H locs 0 0 Q (F0 m 37 ls [])) → W p l e rmX6_look s m ([.ref (ad 0)] : List Value).toArray below meth c H locs 0 0 Q (F0 m 0 ls []) := by
    intro n
    induction n with
    | zero =>
      intro c_length c_bytes c_size c_fault c_faultPlace c_begin c_draft_terms c_place o_c_place H locs ls hP hD hS hf hl hk
      cases hf
    | succ n ih0 =>
      intro c_length c_bytes c_size c_fault c_faultPlace c_begin c_draft_terms c_place o_c_place H locs ls hP hD hS hf hl hk
      rw [lpX6_look_0.eq_2] at hf
      refine lv_aload_n hx hb dX6_look_0 rfl (lv_at hl 0 rfl) ?_
      refine va_get (D := (dC, dI)) (ci := 6) (v := .int c_place) (C := RX6) (T := TX6) (N := 8) hx hb hts (fun w h => gw_mem (inX6 w h)) hown hK.1 hP 0 rfl rfl 4 (by decide) (hts _ (gw_mem wfX6_29)) (fun _ h9 => h9) rfl dX6_look_1 ?_
      refine lv_aload_n hx hb dX6_look_4 rfl (lv_at hl 0 rfl) ?_
      refine va_get (D := (dC, dI)) (ci := 6) (v := .int c_length) (C := RX6) (T := TX6) (N := 8) hx hb hts (fun w h => gw_mem (inX6 w h)) hown hK.1 hP 0 rfl rfl 3 (by decide) (hts _ (gw_mem wfX6_26)) (fun _ h9 => h9) rfl dX6_look_5 ?_
      refine lv_icmp_ge (tgt := 37) hx hb dX6_look_8 (by decide) (fun k5 => ?_) (fun k5 => ?_)
      · replace hf := ifp k5 hf
        cases hf
        exact hk _ _ _ hP hD hS (lv_sub hl [0] rfl)
      · replace hf := ifn k5 hf
        refine lv_aload_n hx hb dX6_look_11 rfl (lv_at hl 0 rfl) ?_
        refine lv_aload_n hx hb dX6_look_12 rfl (lv_at hl 0 rfl) ?_
        refine va_get (D := (dC, dI)) (ci := 6) (v := .int c_place) (C := RX6) (T := TX6) (N := 8) hx hb hts (fun w h => gw_mem (inX6 w h)) hown hK.1 hP 0 rfl rfl 4 (by decide) (hts _ (gw_mem wfX6_29)) (fun _ h9 => h9) rfl dX6_look_13 ?_
        obtain ⟨r6, v7, hf⟩ := bd1_some hf
        refine gci (va_runV (As := [.int c_place]) (rest := []) ⟨hx, hb, hml, hown, hts⟩ (tX6_byteAt l dC dI dA ad H.size v7) (ccX6_X6_byteAt hts ⟨Nat.le_of_ble_eq_true rfl, Nat.le_of_ble_eq_true rfl⟩) (gPreV (ci := 6) (q0 := 0) hP hK hD rfl rfl) rfl rfl hl.1 rfl (lv_room (Nat.le_of_ble_eq_true rfl)) dX6_look_16 ⟨Nat.le_of_ble_eq_true rfl, Nat.le_of_ble_eq_true rfl⟩) hD hS hA (fun H locs hP hD hS => ?_)
        refine lv_bipush (v := 32) hx hb dX6_look_19 (by decide) ?_
        refine lv_icmp_ne (tgt := 37) hx hb dX6_look_21 (by decide) (fun k8 => ?_) (fun k8 => ?_)
        · replace hf := ifn k8 hf
          cases hf
          exact hk _ _ _ hP hD hS (lv_sub hl [0] rfl)
        · replace hf := ifp k8 hf
          refine lv_aload_n hx hb dX6_look_24 rfl (lv_at hl 0 rfl) ?_
          refine lv_dup hx hb dX6_look_25 rfl ?_
          refine va_get (D := (dC, dI)) (ci := 6) (v := .int c_place) (C := RX6) (T := TX6) (N := 8) hx hb hts (fun w h => gw_mem (inX6 w h)) hown hK.1 hP 0 rfl rfl 4 (by decide) (hts _ (gw_mem wfX6_29)) (fun _ h9 => h9) rfl dX6_look_26 ?_
          refine lv_iconst (v := 1) hx hb dX6_look_29 (by decide) ?_
          refine lv_iadd hx hb dX6_look_30 ?_
          refine lv_topi (fun w9 ew9 => ?_)
          replace hf := nm_at hf ew9
          refine va_put (D := (dC, dI)) (ci := 6) (v := .int w9) (ty := .int) (C := RX6) (T := TX6) (N := 8) hx hb hts (fun w h => gw_mem (inX6 w h)) tyX6 tyX6_ok nmX6 hown hK.1 hP hD hS 0 rfl rfl 4 (by decide) (hts _ (gw_mem wfX6_29)) (fun _ h9 => h9) rfl (by decide +kernel) rfl rfl (Nat.le_of_ble_eq_true rfl) dX6_look_31 (fun H locs hP hD hS => ?_)
          have hP : va_P (dC, dI) vwCl (wX6 dA ad c_size c_length w9 c_fault c_faultPlace c_begin c_bytes c_draft_terms) H := hP
          have hD : va_D A (wX6 dA ad c_size c_length w9 c_fault c_faultPlace c_begin c_bytes c_draft_terms) := hD
          refine lv_goto (tgt := 0) hx hb dX6_look_34 (by decide) ?_
          exact ih0 _ _ _ _ _ _ _ _ _ _ _ _ hP hD hS hf (lv_sub hl [0] rfl) hk
  subst hQ
  unfold fX6_look at hf
  obtain ⟨c_place_1, v2, hf⟩ := bd1_some hf
  refine LP0 FU _ _ _ _ _ _ _ _ _ _ _ _ hP hD hS v2 (lv_sub hl [0] rfl) (fun H locs ls hP hD hS hl => ?_)
  refine lv_aload_n hx hb dX6_look_37 rfl (lv_at hl 0 rfl) ?_
  refine lv_aload_n hx hb dX6_look_38 rfl (lv_at hl 0 rfl) ?_
  refine va_get (D := (dC, dI)) (ci := 6) (v := .int c_place_1) (C := RX6) (T := TX6) (N := 8) hx hb hts (fun w h => gw_mem (inX6 w h)) hown hK.1 hP 0 rfl rfl 4 (by decide) (hts _ (gw_mem wfX6_29)) (fun _ h9 => h9) rfl dX6_look_39 ?_
  obtain ⟨r3, v4, hf⟩ := bd1_some hf
  refine gci (va_runV (As := [.int c_place_1]) (rest := []) ⟨hx, hb, hml, hown, hts⟩ (tX6_byteAt l dC dI dA ad H.size v4) (ccX6_X6_byteAt hts ⟨Nat.le_of_ble_eq_true rfl, Nat.le_of_ble_eq_true rfl⟩) (gPreV (ci := 6) (q0 := 0) hP hK hD rfl rfl) rfl rfl hl.1 rfl (lv_room (Nat.le_of_ble_eq_true rfl)) dX6_look_42 ⟨Nat.le_of_ble_eq_true rfl, Nat.le_of_ble_eq_true rfl⟩) hD hS hA (fun H locs hP hD hS => ?_)
  cases hf
  exact W.iret hx hb hr (fun t ht _ => gqi hP hD hS ht) hS.2.2 dX6_look_45
def fX6_wrong (p1 : Int32) (p2 : Int32) (c_fault : Int32) (c_faultPlace : Int32) : Option (Int32 × Int32 × Int32) := some ((-1), p1, p2)
abbrev rmX6_wrong : Room := { frames := 0, cells := 0, slots := 0, locals := 0 }
set_option maxHeartbeats 4000000 in
set_option maxRecDepth 100000 in
theorem tX6_wrong (l : Launch) (dC : Nat → ClassId) (dI : Nat → Nat → Nat) (dA : Nat → ClassId) (ad : Nat → Nat) (sz : Nat) {p1 : Int32} {p2 : Int32} {c_size : Int32} {c_length : Int32} {c_place : Int32} {c_fault : Int32} {c_faultPlace : Int32} {c_begin : Int32} {c_bytes : Nat → Int32} {c_draft_terms : Nat → Int32} {r : Int32} {o_c_fault : Int32} {o_c_faultPlace : Int32} (hf : fX6_wrong p1 p2 c_fault c_faultPlace = some (r, o_c_fault, o_c_faultPlace)) : Met l yX6_wrong (wq (Cond.code yX6_wrong cX6_wrong 3 (some .int))) rmX6_wrong (gP [.ref (ad 0), .int p1, .int p2] (dC, dI) dA (wX6 dA ad c_size c_length c_place c_fault c_faultPlace c_begin c_bytes c_draft_terms) sz) (gQi (dC, dI) r (wX6 dA ad c_size c_length c_place o_c_fault o_c_faultPlace c_begin c_bytes c_draft_terms) (va_A (wX6 dA ad c_size c_length c_place c_fault c_faultPlace c_begin c_bytes c_draft_terms) sz)) 0 0 (va_A (wX6 dA ad c_size c_length c_place c_fault c_faultPlace c_begin c_bytes c_draft_terms) sz) := by
  refine Met.ofW (cc := cX6_wrong) (maxL := 3) (ret := (some .int)) (by decide) rfl ?_
  intro p e s m args below meth c s₁ B hml hv
  obtain ⟨rfl, hsz, hP, hK, hD0⟩ := hv
  have hx := B.exec
  have hb := B.bytes
  have hr := B.returns
  have hts := atoms_spec (ws := wq (Cond.code yX6_wrong cX6_wrong 3 (some .int))) B.pre
  have hown : s.vm.findClass RX6 = some m.cls := findClass_of_methodNamed B.named
  have hlocks := B.notSynchronized
  clear B
  subst hsz
  have hD := hD0.self (sz := s.heap.size)
  generalize hAe : va_A (wX6 dA ad c_size c_length c_place c_fault c_faultPlace c_begin c_bytes c_draft_terms) s.heap.size = A at hD ⊢
  have hA : ∀ q : Nat, s.heap.size ≤ q → A q := fun q h => by rw [← hAe]; exact Or.inr h
  clear hAe hD0
  have hS : va_S A s.heap s.heap [] := va_S.rf
  have hl := lv_entry ([.ref (ad 0), .int p1, .int p2]) (n := 3) (Nat.le_of_ble_eq_true rfl)
  rw [lg_entry_eq]
  generalize (lg_sl ([.ref (ad 0), .int p1, .int p2]) ++ List.replicate (3 - (lg_sl ([.ref (ad 0), .int p1, .int p2])).length) Slot.unset).toArray = ls at hl ⊢
  have hl : lv_has ls 3 [(0, .ref (ad 0)), (1, .int p1), (2, .int p2)] := hl
  change W p l e rmX6_wrong s m ([.ref (ad 0), .int p1, .int p2] : List Value).toArray below meth c s.heap [] 0 0 _ _
  unfold fX6_wrong at hf
  refine lv_aload_n hx hb dX6_wrong_0 rfl (lv_at hl 0 rfl) ?_
  refine lv_iload_n hx hb dX6_wrong_1 rfl (lv_at hl 1 rfl) ?_
  refine va_put (D := (dC, dI)) (ci := 6) (v := .int p1) (ty := .int) (C := RX6) (T := TX6) (N := 8) hx hb hts (fun w h => gw_mem (inX6 w h)) tyX6 tyX6_ok nmX6 hown hK.1 hP hD hS 0 rfl rfl 5 (by decide) (hts _ (gw_mem wfX6_32)) (fun _ h9 => h9) rfl (by decide +kernel) rfl rfl (Nat.le_of_ble_eq_true rfl) dX6_wrong_2 (fun H locs hP hD hS => ?_)
  have hP : va_P (dC, dI) vwCl (wX6 dA ad c_size c_length c_place p1 c_faultPlace c_begin c_bytes c_draft_terms) H := hP
  have hD : va_D A (wX6 dA ad c_size c_length c_place p1 c_faultPlace c_begin c_bytes c_draft_terms) := hD
  refine lv_aload_n hx hb dX6_wrong_5 rfl (lv_at hl 0 rfl) ?_
  refine lv_iload_n hx hb dX6_wrong_6 rfl (lv_at hl 2 rfl) ?_
  refine va_put (D := (dC, dI)) (ci := 6) (v := .int p2) (ty := .int) (C := RX6) (T := TX6) (N := 8) hx hb hts (fun w h => gw_mem (inX6 w h)) tyX6 tyX6_ok nmX6 hown hK.1 hP hD hS 0 rfl rfl 6 (by decide) (hts _ (gw_mem wfX6_35)) (fun _ h9 => h9) rfl (by decide +kernel) rfl rfl (Nat.le_of_ble_eq_true rfl) dX6_wrong_7 (fun H locs hP hD hS => ?_)
  have hP : va_P (dC, dI) vwCl (wX6 dA ad c_size c_length c_place p1 p2 c_begin c_bytes c_draft_terms) H := hP
  have hD : va_D A (wX6 dA ad c_size c_length c_place p1 p2 c_begin c_bytes c_draft_terms) := hD
  refine lv_iconst (v := (-1)) hx hb dX6_wrong_10 (by decide) ?_
  cases hf
  exact W.iret hx hb hr (fun t ht _ => gqi hP hD hS ht) hS.2.2 dX6_wrong_11
theorem ccX6_X6_wrong {R : Room} {s : State} {args : Array Value} {c0 : Cond} (ht : ∀ w ∈ wq c0, w.before args s = true) (hR : rmX6_wrong.frames + 1 ≤ R.frames ∧ 8 + (3 + 11) + rmX6_wrong.locals ≤ R.locals) : CallW R s args RX6 RX6 118 yX6_wrong cX6_wrong 3 (some .int) (wq (.code yX6_wrong cX6_wrong 3 (some .int))) rmX6_wrong 0 0 2 := gCW 2 ht wcX6_wrong wmX6_118 wiX6_wrong weX6_wrong wnX6 (by decide +kernel) rfl rfl hR
def fX6_fails (p1 : Int32) (p2 : Int32) (c_fault : Int32) (c_faultPlace : Int32) : Option (Int32 × Int32 × Int32) := bd3 (fX6_wrong p1 p2 c_fault c_faultPlace) (fun r1 c_fault_2 c_faultPlace_3 => some (0, c_fault_2, c_faultPlace_3))
abbrev rmX6_fails : Room := { frames := 1, cells := 0, slots := 0, locals := 22 }
set_option maxHeartbeats 4000000 in
set_option maxRecDepth 100000 in
theorem tX6_fails (l : Launch) (dC : Nat → ClassId) (dI : Nat → Nat → Nat) (dA : Nat → ClassId) (ad : Nat → Nat) (sz : Nat) {p1 : Int32} {p2 : Int32} {c_size : Int32} {c_length : Int32} {c_place : Int32} {c_fault : Int32} {c_faultPlace : Int32} {c_begin : Int32} {c_bytes : Nat → Int32} {c_draft_terms : Nat → Int32} {r : Int32} {o_c_fault : Int32} {o_c_faultPlace : Int32} (hf : fX6_fails p1 p2 c_fault c_faultPlace = some (r, o_c_fault, o_c_faultPlace)) : Met l yX6_fails (wq (Cond.code yX6_fails cX6_fails 3 (some .boolean))) rmX6_fails (gP [.ref (ad 0), .int p1, .int p2] (dC, dI) dA (wX6 dA ad c_size c_length c_place c_fault c_faultPlace c_begin c_bytes c_draft_terms) sz) (gQi (dC, dI) r (wX6 dA ad c_size c_length c_place o_c_fault o_c_faultPlace c_begin c_bytes c_draft_terms) (va_A (wX6 dA ad c_size c_length c_place c_fault c_faultPlace c_begin c_bytes c_draft_terms) sz)) 0 0 (va_A (wX6 dA ad c_size c_length c_place c_fault c_faultPlace c_begin c_bytes c_draft_terms) sz) := by
  refine Met.ofW (cc := cX6_fails) (maxL := 3) (ret := (some .boolean)) (by decide) rfl ?_
  intro p e s m args below meth c s₁ B hml hv
  obtain ⟨rfl, hsz, hP, hK, hD0⟩ := hv
  have hx := B.exec
  have hb := B.bytes
  have hr := B.returns
  have hts := atoms_spec (ws := wq (Cond.code yX6_fails cX6_fails 3 (some .boolean))) B.pre
  have hown : s.vm.findClass RX6 = some m.cls := findClass_of_methodNamed B.named
  have hlocks := B.notSynchronized
  clear B
  subst hsz
  have hD := hD0.self (sz := s.heap.size)
  generalize hAe : va_A (wX6 dA ad c_size c_length c_place c_fault c_faultPlace c_begin c_bytes c_draft_terms) s.heap.size = A at hD ⊢
  have hA : ∀ q : Nat, s.heap.size ≤ q → A q := fun q h => by rw [← hAe]; exact Or.inr h
  clear hAe hD0
  have hS : va_S A s.heap s.heap [] := va_S.rf
  have hl := lv_entry ([.ref (ad 0), .int p1, .int p2]) (n := 3) (Nat.le_of_ble_eq_true rfl)
  rw [lg_entry_eq]
  generalize (lg_sl ([.ref (ad 0), .int p1, .int p2]) ++ List.replicate (3 - (lg_sl ([.ref (ad 0), .int p1, .int p2])).length) Slot.unset).toArray = ls at hl ⊢
  have hl : lv_has ls 3 [(0, .ref (ad 0)), (1, .int p1), (2, .int p2)] := hl
  change W p l e rmX6_fails s m ([.ref (ad 0), .int p1, .int p2] : List Value).toArray below meth c s.heap [] 0 0 _ _
  unfold fX6_fails at hf
  refine lv_aload_n hx hb dX6_fails_0 rfl (lv_at hl 0 rfl) ?_
  refine lv_iload_n hx hb dX6_fails_1 rfl (lv_at hl 1 rfl) ?_
  refine lv_iload_n hx hb dX6_fails_2 rfl (lv_at hl 2 rfl) ?_
  obtain ⟨r1, c_fault_2, c_faultPlace_3, v4, hf⟩ := bd3_some hf
  refine gci (va_runV (As := [.int p1, .int p2]) (rest := []) ⟨hx, hb, hml, hown, hts⟩ (tX6_wrong l dC dI dA ad s.heap.size v4) (ccX6_X6_wrong hts ⟨Nat.le_of_ble_eq_true rfl, Nat.le_of_ble_eq_true rfl⟩) (gPreV (ci := 6) (q0 := 0) hP hK hD rfl rfl) rfl rfl hl.1 rfl (lv_room (Nat.le_of_ble_eq_true rfl)) dX6_fails_3 ⟨Nat.le_of_ble_eq_true rfl, Nat.le_of_ble_eq_true rfl⟩) hD hS hA (fun H locs hP hD hS => ?_)
  refine lv_pop hx hb dX6_fails_6 rfl ?_
  refine lv_iconst (v := 0) hx hb dX6_fails_7 (by decide) ?_
  cases hf
  exact W.zret (ty := .boolean) hx hb hr rfl (fun t ht _ => gqi hP hD hS ht) hS.2.2 dX6_fails_8
theorem ccX6_X0_set {R : Room} {s : State} {args : Array Value} {c0 : Cond} (ht : ∀ w ∈ wq c0, w.before args s = true) (hR : rmX0_set.frames + 1 ≤ R.frames ∧ 8 + (3 + 11) + rmX0_set.locals ≤ R.locals) : CallW R s args RX6 RX0 105 yX0_set cX0_set 3 none (wq (.code yX0_set cX0_set 3 none)) rmX0_set 0 0 2 := gCW 2 ht wcX0_set wmX6_105 wiX0_set weX0_set wnX0 (by decide +kernel) rfl rfl hR
def fX6_store (p1 : Int32) (p2 : Int32) (c_draft_terms : Nat → Int32) : Option (Int32 × (Nat → Int32)) := if 0 ≤ p2 then bd1 (fX0_set p1 p2 c_draft_terms) (fun c_draft_terms_2 => some (1, c_draft_terms_2)) else some (0, c_draft_terms)
abbrev rmX6_store : Room := { frames := 1, cells := 0, slots := 0, locals := 22 }
set_option maxHeartbeats 4000000 in
set_option maxRecDepth 100000 in
theorem tX6_store (l : Launch) (dC : Nat → ClassId) (dI : Nat → Nat → Nat) (dA : Nat → ClassId) (ad : Nat → Nat) (sz : Nat) {p1 : Int32} {p2 : Int32} {c_size : Int32} {c_length : Int32} {c_place : Int32} {c_fault : Int32} {c_faultPlace : Int32} {c_begin : Int32} {c_bytes : Nat → Int32} {c_draft_terms : Nat → Int32} {r : Int32} {o_c_draft_terms : Nat → Int32} (hf : fX6_store p1 p2 c_draft_terms = some (r, o_c_draft_terms)) : Met l yX6_store (wq (Cond.code yX6_store cX6_store 3 (some .boolean))) rmX6_store (gP [.ref (ad 0), .int p1, .int p2] (dC, dI) dA (wX6 dA ad c_size c_length c_place c_fault c_faultPlace c_begin c_bytes c_draft_terms) sz) (gQi (dC, dI) r (wX6 dA ad c_size c_length c_place c_fault c_faultPlace c_begin c_bytes o_c_draft_terms) (va_A (wX6 dA ad c_size c_length c_place c_fault c_faultPlace c_begin c_bytes c_draft_terms) sz)) 0 0 (va_A (wX6 dA ad c_size c_length c_place c_fault c_faultPlace c_begin c_bytes c_draft_terms) sz) := by
  refine Met.ofW (cc := cX6_store) (maxL := 3) (ret := (some .boolean)) (by decide) rfl ?_
  intro p e s m args below meth c s₁ B hml hv
  obtain ⟨rfl, hsz, hP, hK, hD0⟩ := hv
  have hx := B.exec
  have hb := B.bytes
  have hr := B.returns
  have hts := atoms_spec (ws := wq (Cond.code yX6_store cX6_store 3 (some .boolean))) B.pre
  have hown : s.vm.findClass RX6 = some m.cls := findClass_of_methodNamed B.named
  have hlocks := B.notSynchronized
  clear B
  subst hsz
  have hD := hD0.self (sz := s.heap.size)
  generalize hAe : va_A (wX6 dA ad c_size c_length c_place c_fault c_faultPlace c_begin c_bytes c_draft_terms) s.heap.size = A at hD ⊢
  have hA : ∀ q : Nat, s.heap.size ≤ q → A q := fun q h => by rw [← hAe]; exact Or.inr h
  clear hAe hD0
  have hS : va_S A s.heap s.heap [] := va_S.rf
  have hl := lv_entry ([.ref (ad 0), .int p1, .int p2]) (n := 3) (Nat.le_of_ble_eq_true rfl)
  rw [lg_entry_eq]
  generalize (lg_sl ([.ref (ad 0), .int p1, .int p2]) ++ List.replicate (3 - (lg_sl ([.ref (ad 0), .int p1, .int p2])).length) Slot.unset).toArray = ls at hl ⊢
  have hl : lv_has ls 3 [(0, .ref (ad 0)), (1, .int p1), (2, .int p2)] := hl
  change W p l e rmX6_store s m ([.ref (ad 0), .int p1, .int p2] : List Value).toArray below meth c s.heap [] 0 0 _ _
  unfold fX6_store at hf
  refine lv_iload_n hx hb dX6_store_0 rfl (lv_at hl 2 rfl) ?_
  refine lv_if_ge (tgt := 6) hx hb dX6_store_1 (by decide) (fun k1 => ?_) (fun k1 => ?_)
  · replace hf := ifp k1 hf
    refine lv_aload_n hx hb dX6_store_6 rfl (lv_at hl 0 rfl) ?_
    refine va_get (D := (dC, dI)) (ci := 6) (v := .ref (ad 2)) (C := RX6) (T := TX6) (N := 8) hx hb hts (fun w h => gw_mem (inX6 w h)) hown hK.1 hP 0 rfl rfl 2 (by decide) (hts _ (gw_mem wfX6_22)) (fun _ h9 => h9) rfl dX6_store_7 ?_
    refine lv_iload_n hx hb dX6_store_10 rfl (lv_at hl 1 rfl) ?_
    refine lv_iload_n hx hb dX6_store_11 rfl (lv_at hl 2 rfl) ?_
    obtain ⟨c_draft_terms_2, v3, hf⟩ := bd1_some hf
    have z4 : [2, 3].map (fun i => ((wX6 dA ad c_size c_length c_place c_fault c_faultPlace c_begin c_bytes c_draft_terms))[i]?) = ((wX0 dA (fun i => ad (i + 2)) c_draft_terms)).map some := rfl
    refine gpv [2, 3] [0, 1] [0, 1, 2, 3] (wf := (wX6 dA ad c_size c_length c_place c_fault c_faultPlace c_begin c_bytes c_draft_terms_2)) (va_runV (As := [.int p1, .int p2]) (rest := []) ⟨hx, hb, hml, hown, hts⟩ (tX0_set l dC dI dA (fun i => ad (i + 2)) s.heap.size v3) (ccX6_X0_set hts ⟨Nat.le_of_ble_eq_true rfl, Nat.le_of_ble_eq_true rfl⟩) (gPreV (ci := 1) (q0 := 0) (gsub z4 hP) hK (gsubD z4 (by decide) hD) rfl rfl) rfl rfl hl.1 rfl (lv_room (Nat.le_of_ble_eq_true rfl)) dX6_store_12 ⟨Nat.le_of_ble_eq_true rfl, Nat.le_of_ble_eq_true rfl⟩) hP hD hS hA z4 rfl (by decide) (by decide) (by decide) rfl (fun H locs hP hD hS => ?_)
    refine lv_iconst (v := 1) hx hb dX6_store_15 (by decide) ?_
    cases hf
    exact W.zret (ty := .boolean) hx hb hr rfl (fun t ht _ => gqi hP hD hS ht) hS.2.2 dX6_store_16
  · replace hf := ifn k1 hf
    refine lv_iconst (v := 0) hx hb dX6_store_4 (by decide) ?_
    cases hf
    exact W.zret (ty := .boolean) hx hb hr rfl (fun t ht _ => gqi hP hD hS ht) hS.2.2 dX6_store_5
def fX6_isDigit (p0 : Int32) : Option (Int32) := if p0 < 48 then some (0) else if 57 < p0 then some (0) else some (1)
abbrev rmX6_isDigit : Room := { frames := 0, cells := 0, slots := 0, locals := 0 }
set_option maxHeartbeats 4000000 in
set_option maxRecDepth 100000 in
theorem tX6_isDigit (l : Launch) (dC : Nat → ClassId) (dI : Nat → Nat → Nat) (dA : Nat → ClassId) (sz : Nat) {p0 : Int32} {r : Int32} (hf : fX6_isDigit p0 = some (r)) : Met l yX6_isDigit (wq (Cond.code yX6_isDigit cX6_isDigit 1 (some .boolean))) rmX6_isDigit (gP [.int p0] (dC, dI) dA [] sz) (gQi (dC, dI) r [] (va_A [] sz)) 0 0 (va_A [] sz) := by
  refine Met.ofW (cc := cX6_isDigit) (maxL := 1) (ret := (some .boolean)) (by decide) rfl ?_
  intro p e s m args below meth c s₁ B hml hv
  obtain ⟨rfl, hsz, hP, hK, hD0⟩ := hv
  have hx := B.exec
  have hb := B.bytes
  have hr := B.returns
  have hts := atoms_spec (ws := wq (Cond.code yX6_isDigit cX6_isDigit 1 (some .boolean))) B.pre
  have hown : s.vm.findClass RX6 = some m.cls := findClass_of_methodNamed B.named
  have hlocks := B.notSynchronized
  clear B
  subst hsz
  have hD := hD0.self (sz := s.heap.size)
  generalize hAe : va_A [] s.heap.size = A at hD ⊢
  have hA : ∀ q : Nat, s.heap.size ≤ q → A q := fun q h => by rw [← hAe]; exact Or.inr h
  clear hAe hD0
  have hS : va_S A s.heap s.heap [] := va_S.rf
  have hl := lv_entry ([.int p0]) (n := 1) (Nat.le_of_ble_eq_true rfl)
  rw [lg_entry_eq]
  generalize (lg_sl ([.int p0]) ++ List.replicate (1 - (lg_sl ([.int p0])).length) Slot.unset).toArray = ls at hl ⊢
  have hl : lv_has ls 1 [(0, .int p0)] := hl
  change W p l e rmX6_isDigit s m ([.int p0] : List Value).toArray below meth c s.heap [] 0 0 _ _
  unfold fX6_isDigit at hf
  refine lv_bipush (v := 48) hx hb dX6_isDigit_0 (by decide) ?_
  refine lv_iload_n hx hb dX6_isDigit_2 rfl (lv_at hl 0 rfl) ?_
  refine lv_icmp_gt (tgt := 16) hx hb dX6_isDigit_3 (by decide) (fun k1 => ?_) (fun k1 => ?_)
  · replace hf := ifp k1 hf
    refine lv_iconst (v := 0) hx hb dX6_isDigit_16 (by decide) ?_
    cases hf
    exact W.zret (ty := .boolean) hx hb hr rfl (fun t ht _ => gqi hP hD hS ht) hS.2.2 dX6_isDigit_17
  · replace hf := ifn k1 hf
    refine lv_iload_n hx hb dX6_isDigit_6 rfl (lv_at hl 0 rfl) ?_
    refine lv_bipush (v := 57) hx hb dX6_isDigit_7 (by decide) ?_
    refine lv_icmp_gt (tgt := 16) hx hb dX6_isDigit_9 (by decide) (fun k2 => ?_) (fun k2 => ?_)
    · replace hf := ifp k2 hf
      refine lv_iconst (v := 0) hx hb dX6_isDigit_16 (by decide) ?_
      cases hf
      exact W.zret (ty := .boolean) hx hb hr rfl (fun t ht _ => gqi hP hD hS ht) hS.2.2 dX6_isDigit_17
    · replace hf := ifn k2 hf
      refine lv_iconst (v := 1) hx hb dX6_isDigit_12 (by decide) ?_
      refine lv_goto (tgt := 17) hx hb dX6_isDigit_13 (by decide) ?_
      cases hf
      exact W.zret (ty := .boolean) hx hb hr rfl (fun t ht _ => gqi hP hD hS ht) hS.2.2 dX6_isDigit_17
theorem ccX6_X6_isDigit {R : Room} {s : State} {args : Array Value} {c0 : Cond} (ht : ∀ w ∈ wq c0, w.before args s = true) (hR : rmX6_isDigit.frames + 1 ≤ R.frames ∧ 8 + (1 + 11) + rmX6_isDigit.locals ≤ R.locals) : CallB R s args RX6 115 yX6_isDigit cX6_isDigit 1 (some .boolean) (wq (.code yX6_isDigit cX6_isDigit 1 (some .boolean))) rmX6_isDigit 0 0 1 ∧ (Cond.static yX6_isDigit).before args s = true := gCS 1 ht wcX6_isDigit wmX6_115 wtX6_isDigit wnX6 (by decide +kernel) rfl rfl hR
def lpX6_takeDigits_27 (c_length : Int32) (c_begin : Int32) (c_bytes : Nat → Int32) : Nat → Int32 → Int32 → Option (Nat × Int32 × Int32)
  | 0, _, _ => none
  | n + 1, x2, c_place => if c_length ≤ c_place then some (1, x2, c_place) else bd1 (fX6_byteAt c_place c_length c_bytes) (fun r17 => bd1 (fX6_isDigit r17) (fun r19 => if r19 = 0 then some (1, x2, c_place) else if (c_place - c_begin) = 7 then some (0, x2, c_place) else bd1 (fX6_byteAt c_place c_length c_bytes) (fun r23 => nm (((x2 * 10) + r23) - 48) (fun w25 => nm (c_place + 1) (fun w26 => lpX6_takeDigits_27 c_length c_begin c_bytes n w25 w26)))))
def fX6_takeDigits (p1 : Int32) (c_length : Int32) (c_place : Int32) (c_fault : Int32) (c_faultPlace : Int32) (c_begin : Int32) (c_bytes : Nat → Int32) : Option (Int32 × Int32 × Int32 × Int32 × Int32) := bd1 (fX6_isDigit p1) (fun r1 => if r1 = 0 then bd3 (fX6_wrong 1 c_place c_fault c_faultPlace) (fun r12 c_fault_13 c_faultPlace_14 => some (r12, c_place, c_fault_13, c_faultPlace_14, c_begin)) else bd3 (lpX6_takeDigits_27 c_length c_place c_bytes FU 0 c_place) (fun tg4 x5 c_place_6 => if tg4 = 0 then bd3 (fX6_wrong 2 c_place_6 c_fault c_faultPlace) (fun r8 c_fault_9 c_faultPlace_10 => some (r8, c_place_6, c_fault_9, c_faultPlace_10, c_place)) else some (x5, c_place_6, c_fault, c_faultPlace, c_place)))
abbrev rmX6_takeDigits : Room := { frames := 1, cells := 0, slots := 0, locals := 22 }
set_option maxHeartbeats 4000000 in
set_option maxRecDepth 100000 in
theorem tX6_takeDigits (l : Launch) (dC : Nat → ClassId) (dI : Nat → Nat → Nat) (dA : Nat → ClassId) (ad : Nat → Nat) (sz : Nat) {p1 : Int32} {c_size : Int32} {c_length : Int32} {c_place : Int32} {c_fault : Int32} {c_faultPlace : Int32} {c_begin : Int32} {c_bytes : Nat → Int32} {c_draft_terms : Nat → Int32} {r : Int32} {o_c_place : Int32} {o_c_fault : Int32} {o_c_faultPlace : Int32} {o_c_begin : Int32} (hf : fX6_takeDigits p1 c_length c_place c_fault c_faultPlace c_begin c_bytes = some (r, o_c_place, o_c_fault, o_c_faultPlace, o_c_begin)) : Met l yX6_takeDigits (wq (Cond.code yX6_takeDigits cX6_takeDigits 3 (some .int))) rmX6_takeDigits (gP [.ref (ad 0), .int p1] (dC, dI) dA (wX6 dA ad c_size c_length c_place c_fault c_faultPlace c_begin c_bytes c_draft_terms) sz) (gQi (dC, dI) r (wX6 dA ad c_size c_length o_c_place o_c_fault o_c_faultPlace o_c_begin c_bytes c_draft_terms) (va_A (wX6 dA ad c_size c_length c_place c_fault c_faultPlace c_begin c_bytes c_draft_terms) sz)) 0 0 (va_A (wX6 dA ad c_size c_length c_place c_fault c_faultPlace c_begin c_bytes c_draft_terms) sz) := by
  refine Met.ofW (cc := cX6_takeDigits) (maxL := 3) (ret := (some .int)) (by decide) rfl ?_
  intro p e s m args below meth c s₁ B hml hv
  obtain ⟨rfl, hsz, hP, hK, hD0⟩ := hv
  have hx := B.exec
  have hb := B.bytes
  have hr := B.returns
  have hts := atoms_spec (ws := wq (Cond.code yX6_takeDigits cX6_takeDigits 3 (some .int))) B.pre
  have hown : s.vm.findClass RX6 = some m.cls := findClass_of_methodNamed B.named
  have hlocks := B.notSynchronized
  clear B
  subst hsz
  have hD := hD0.self (sz := s.heap.size)
  generalize hAe : va_A (wX6 dA ad c_size c_length c_place c_fault c_faultPlace c_begin c_bytes c_draft_terms) s.heap.size = A at hD ⊢
  have hA : ∀ q : Nat, s.heap.size ≤ q → A q := fun q h => by rw [← hAe]; exact Or.inr h
  clear hAe hD0
  have hS : va_S A s.heap s.heap [] := va_S.rf
  have hl := lv_entry ([.ref (ad 0), .int p1]) (n := 3) (Nat.le_of_ble_eq_true rfl)
  rw [lg_entry_eq]
  generalize (lg_sl ([.ref (ad 0), .int p1]) ++ List.replicate (3 - (lg_sl ([.ref (ad 0), .int p1])).length) Slot.unset).toArray = ls at hl ⊢
  have hl : lv_has ls 3 [(0, .ref (ad 0)), (1, .int p1)] := hl
  change W p l e rmX6_takeDigits s m ([.ref (ad 0), .int p1] : List Value).toArray below meth c s.heap [] 0 0 _ _
  generalize hQ : MQ below (gQi (dC, dI) r (wX6 dA ad c_size c_length o_c_place o_c_fault o_c_faultPlace o_c_begin c_bytes c_draft_terms) A) ([.ref (ad 0), .int p1] : List Value).toArray s 0 0 A = Q
  have LP27 : ∀ (n : Nat) (c_length : Int32) (c_begin : Int32) (c_bytes : Nat → Int32) (c_size : Int32) (c_fault : Int32) (c_faultPlace : Int32) (c_draft_terms : Nat → Int32) (x2 : Int32) (c_place : Int32) (tgo : Nat) (o2 : Int32) (o_c_place : Int32) (H : Heap) (locs : List Loc) (ls : Array Slot), va_P (dC, dI) vwCl (wX6 dA ad c_size c_length c_place c_fault c_faultPlace c_begin c_bytes c_draft_terms) H → va_D A (wX6 dA ad c_size c_length c_place c_fault c_faultPlace c_begin c_bytes c_draft_terms) → va_S A s.heap H locs → lpX6_takeDigits_27 c_length c_begin c_bytes n x2 c_place = some (tgo, o2, o_c_place) → lv_has ls 3 [(0, .ref (ad 0)), (2, .int x2)] → (tgo = 0 → ∀ (H : Heap) (locs : List Loc) (ls : Array Slot), va_P (dC, dI) vwCl (wX6 dA ad c_size c_length o_c_place c_fault c_faultPlace c_begin c_bytes c_draft_terms) H → va_D A (wX6 dA ad c_size c_length o_c_place c_fault c_faultPlace c_begin c_bytes c_draft_terms) → va_S A s.heap H locs → lv_has ls 3 [(0, .ref (ad 0))] → W p l e rmX6_takeDigits s m ([.ref (ad 0), .int p1] : List Value).toArray below meth c H locs 0 0 Q (F0 m 66 ls [])) → (tgo = 1 → ∀ (H : Heap) (locs : List Loc) (ls : Array Slot), va_P (dC, dI) vwCl (wX6 dA ad c_size c_length o_c_place c_fault c_faultPlace c_begin c_bytes c_draft_terms) H → va_D A (wX6 dA ad c_size c_length o_c_place c_fault c_faultPlace c_begin c_bytes c_draft_terms) → va_S A s.heap H locs → lv_has ls 3 [(2, .int o2)] → W p l e rmX6_takeDigits s m ([.ref (ad 0), .int p1] : List Value).toArray below meth c H locs 0 0 Q (F0 m 106 ls [])) → W p l e rmX6_takeDigits s m ([.ref (ad 0), .int p1] : List Value).toArray below meth c H locs 0 0 Q (F0 m 27 ls []) := by
    intro n
    induction n with
    | zero =>
      intro c_length c_begin c_bytes c_size c_fault c_faultPlace c_draft_terms x2 c_place tgo o2 o_c_place H locs ls hP hD hS hf hl hk0 hk1
      cases hf
    | succ n ih27 =>
      intro c_length c_begin c_bytes c_size c_fault c_faultPlace c_draft_terms x2 c_place tgo o2 o_c_place H locs ls hP hD hS hf hl hk0 hk1
      rw [lpX6_takeDigits_27.eq_2] at hf
      refine lv_aload_n hx hb dX6_takeDigits_27 rfl (lv_at hl 0 rfl) ?_
      refine va_get (D := (dC, dI)) (ci := 6) (v := .int c_place) (C := RX6) (T := TX6) (N := 8) hx hb hts (fun w h => gw_mem (inX6 w h)) hown hK.1 hP 0 rfl rfl 4 (by decide) (hts _ (gw_mem wfX6_29)) (fun _ h9 => h9) rfl dX6_takeDigits_28 ?_
      refine lv_aload_n hx hb dX6_takeDigits_31 rfl (lv_at hl 0 rfl) ?_
      refine va_get (D := (dC, dI)) (ci := 6) (v := .int c_length) (C := RX6) (T := TX6) (N := 8) hx hb hts (fun w h => gw_mem (inX6 w h)) hown hK.1 hP 0 rfl rfl 3 (by decide) (hts _ (gw_mem wfX6_26)) (fun _ h9 => h9) rfl dX6_takeDigits_32 ?_
      refine lv_icmp_ge (tgt := 106) hx hb dX6_takeDigits_35 (by decide) (fun k16 => ?_) (fun k16 => ?_)
      · replace hf := ifp k16 hf
        cases hf
        exact hk1 rfl _ _ _ hP hD hS (lv_sub hl [1] rfl)
      · replace hf := ifn k16 hf
        refine lv_aload_n hx hb dX6_takeDigits_38 rfl (lv_at hl 0 rfl) ?_
        refine lv_aload_n hx hb dX6_takeDigits_39 rfl (lv_at hl 0 rfl) ?_
        refine va_get (D := (dC, dI)) (ci := 6) (v := .int c_place) (C := RX6) (T := TX6) (N := 8) hx hb hts (fun w h => gw_mem (inX6 w h)) hown hK.1 hP 0 rfl rfl 4 (by decide) (hts _ (gw_mem wfX6_29)) (fun _ h9 => h9) rfl dX6_takeDigits_40 ?_
        obtain ⟨r17, v18, hf⟩ := bd1_some hf
        refine gci (va_runV (As := [.int c_place]) (rest := []) ⟨hx, hb, hml, hown, hts⟩ (tX6_byteAt l dC dI dA ad H.size v18) (ccX6_X6_byteAt hts ⟨Nat.le_of_ble_eq_true rfl, Nat.le_of_ble_eq_true rfl⟩) (gPreV (ci := 6) (q0 := 0) hP hK hD rfl rfl) rfl rfl hl.1 rfl (lv_room (Nat.le_of_ble_eq_true rfl)) dX6_takeDigits_43 ⟨Nat.le_of_ble_eq_true rfl, Nat.le_of_ble_eq_true rfl⟩) hD hS hA (fun H locs hP hD hS => ?_)
        obtain ⟨r19, v20, hf⟩ := bd1_some hf
        refine gci0 (va_runS (As := [.int r17]) (rest := []) ⟨hx, hb, hml, hown, hts⟩ (tX6_isDigit l dC dI dA H.size v20) (ccX6_X6_isDigit hts ⟨Nat.le_of_ble_eq_true rfl, Nat.le_of_ble_eq_true rfl⟩) (gPreS0 hK) rfl rfl hl.1 rfl (lv_room (Nat.le_of_ble_eq_true rfl)) dX6_takeDigits_46 ⟨Nat.le_of_ble_eq_true rfl, Nat.le_of_ble_eq_true rfl⟩) hP hS hA (fun H locs hP hS => ?_)
        refine lv_if_eq (tgt := 106) hx hb dX6_takeDigits_49 (by decide) (fun k21 => ?_) (fun k21 => ?_)
        · replace hf := ifp k21 hf
          cases hf
          exact hk1 rfl _ _ _ hP hD hS (lv_sub hl [1] rfl)
        · replace hf := ifn k21 hf
          refine lv_aload_n hx hb dX6_takeDigits_52 rfl (lv_at hl 0 rfl) ?_
          refine va_get (D := (dC, dI)) (ci := 6) (v := .int c_place) (C := RX6) (T := TX6) (N := 8) hx hb hts (fun w h => gw_mem (inX6 w h)) hown hK.1 hP 0 rfl rfl 4 (by decide) (hts _ (gw_mem wfX6_29)) (fun _ h9 => h9) rfl dX6_takeDigits_53 ?_
          refine lv_aload_n hx hb dX6_takeDigits_56 rfl (lv_at hl 0 rfl) ?_
          refine va_get (D := (dC, dI)) (ci := 6) (v := .int c_begin) (C := RX6) (T := TX6) (N := 8) hx hb hts (fun w h => gw_mem (inX6 w h)) hown hK.1 hP 0 rfl rfl 7 (by decide) (hts _ (gw_mem wfX6_38)) (fun _ h9 => h9) rfl dX6_takeDigits_57 ?_
          refine lv_isub hx hb dX6_takeDigits_60 ?_
          refine lv_bipush (v := 7) hx hb dX6_takeDigits_61 (by decide) ?_
          refine lv_icmp_ne (tgt := 76) hx hb dX6_takeDigits_63 (by decide) (fun k22 => ?_) (fun k22 => ?_)
          · replace hf := ifn k22 hf
            refine lv_iload_n hx hb dX6_takeDigits_76 rfl (lv_at hl 1 rfl) ?_
            refine lv_bipush (v := 10) hx hb dX6_takeDigits_77 (by decide) ?_
            refine lv_imul hx hb dX6_takeDigits_79 ?_
            refine lv_aload_n hx hb dX6_takeDigits_80 rfl (lv_at hl 0 rfl) ?_
            refine lv_aload_n hx hb dX6_takeDigits_81 rfl (lv_at hl 0 rfl) ?_
            refine va_get (D := (dC, dI)) (ci := 6) (v := .int c_place) (C := RX6) (T := TX6) (N := 8) hx hb hts (fun w h => gw_mem (inX6 w h)) hown hK.1 hP 0 rfl rfl 4 (by decide) (hts _ (gw_mem wfX6_29)) (fun _ h9 => h9) rfl dX6_takeDigits_82 ?_
            obtain ⟨r23, v24, hf⟩ := bd1_some hf
            refine gci (va_runV (As := [.int c_place]) (rest := [.int (x2 * 10)]) ⟨hx, hb, hml, hown, hts⟩ (tX6_byteAt l dC dI dA ad H.size v24) (ccX6_X6_byteAt hts ⟨Nat.le_of_ble_eq_true rfl, Nat.le_of_ble_eq_true rfl⟩) (gPreV (ci := 6) (q0 := 0) hP hK hD rfl rfl) rfl rfl hl.1 rfl (lv_room (Nat.le_of_ble_eq_true rfl)) dX6_takeDigits_85 ⟨Nat.le_of_ble_eq_true rfl, Nat.le_of_ble_eq_true rfl⟩) hD hS hA (fun H locs hP hD hS => ?_)
            refine lv_iadd hx hb dX6_takeDigits_88 ?_
            refine lv_bipush (v := 48) hx hb dX6_takeDigits_89 (by decide) ?_
            refine lv_isub hx hb dX6_takeDigits_91 ?_
            refine lv_topi (fun w25 ew25 => ?_)
            replace hf := nm_at hf ew25
            refine lv_istore_n (lv' := [(2, .int w25), (0, .ref (ad 0))]) hx hb dX6_takeDigits_92 rfl hl (by decide) rfl (fun ls hl => ?_)
            refine lv_aload_n hx hb dX6_takeDigits_93 rfl (lv_at hl 1 rfl) ?_
            refine lv_dup hx hb dX6_takeDigits_94 rfl ?_
            refine va_get (D := (dC, dI)) (ci := 6) (v := .int c_place) (C := RX6) (T := TX6) (N := 8) hx hb hts (fun w h => gw_mem (inX6 w h)) hown hK.1 hP 0 rfl rfl 4 (by decide) (hts _ (gw_mem wfX6_29)) (fun _ h9 => h9) rfl dX6_takeDigits_95 ?_
            refine lv_iconst (v := 1) hx hb dX6_takeDigits_98 (by decide) ?_
            refine lv_iadd hx hb dX6_takeDigits_99 ?_
            refine lv_topi (fun w26 ew26 => ?_)
            replace hf := nm_at hf ew26
            refine va_put (D := (dC, dI)) (ci := 6) (v := .int w26) (ty := .int) (C := RX6) (T := TX6) (N := 8) hx hb hts (fun w h => gw_mem (inX6 w h)) tyX6 tyX6_ok nmX6 hown hK.1 hP hD hS 0 rfl rfl 4 (by decide) (hts _ (gw_mem wfX6_29)) (fun _ h9 => h9) rfl (by decide +kernel) rfl rfl (Nat.le_of_ble_eq_true rfl) dX6_takeDigits_100 (fun H locs hP hD hS => ?_)
            have hP : va_P (dC, dI) vwCl (wX6 dA ad c_size c_length w26 c_fault c_faultPlace c_begin c_bytes c_draft_terms) H := hP
            have hD : va_D A (wX6 dA ad c_size c_length w26 c_fault c_faultPlace c_begin c_bytes c_draft_terms) := hD
            refine lv_goto (tgt := 27) hx hb dX6_takeDigits_103 (by decide) ?_
            exact ih27 _ _ _ _ _ _ _ _ _ _ _ _ _ _ _ hP hD hS hf (lv_sub hl [1, 0] rfl) hk0 hk1
          · replace hf := ifp k22 hf
            cases hf
            exact hk0 rfl _ _ _ hP hD hS (lv_sub hl [0] rfl)
  subst hQ
  unfold fX6_takeDigits at hf
  refine lv_iload_n hx hb dX6_takeDigits_0 rfl (lv_at hl 1 rfl) ?_
  obtain ⟨r1, v2, hf⟩ := bd1_some hf
  refine gci0 (va_runS (As := [.int p1]) (rest := []) ⟨hx, hb, hml, hown, hts⟩ (tX6_isDigit l dC dI dA s.heap.size v2) (ccX6_X6_isDigit hts ⟨Nat.le_of_ble_eq_true rfl, Nat.le_of_ble_eq_true rfl⟩) (gPreS0 hK) rfl rfl hl.1 rfl (lv_room (Nat.le_of_ble_eq_true rfl)) dX6_takeDigits_1 ⟨Nat.le_of_ble_eq_true rfl, Nat.le_of_ble_eq_true rfl⟩) hP hS hA (fun H locs hP hS => ?_)
  refine lv_if_ne (tgt := 17) hx hb dX6_takeDigits_4 (by decide) (fun k3 => ?_) (fun k3 => ?_)
  · replace hf := ifn k3 hf
    refine lv_aload_n hx hb dX6_takeDigits_17 rfl (lv_at hl 0 rfl) ?_
    refine lv_aload_n hx hb dX6_takeDigits_18 rfl (lv_at hl 0 rfl) ?_
    refine va_get (D := (dC, dI)) (ci := 6) (v := .int c_place) (C := RX6) (T := TX6) (N := 8) hx hb hts (fun w h => gw_mem (inX6 w h)) hown hK.1 hP 0 rfl rfl 4 (by decide) (hts _ (gw_mem wfX6_29)) (fun _ h9 => h9) rfl dX6_takeDigits_19 ?_
    refine va_put (D := (dC, dI)) (ci := 6) (v := .int c_place) (ty := .int) (C := RX6) (T := TX6) (N := 8) hx hb hts (fun w h => gw_mem (inX6 w h)) tyX6 tyX6_ok nmX6 hown hK.1 hP hD hS 0 rfl rfl 7 (by decide) (hts _ (gw_mem wfX6_38)) (fun _ h9 => h9) rfl (by decide +kernel) rfl rfl (Nat.le_of_ble_eq_true rfl) dX6_takeDigits_22 (fun H locs hP hD hS => ?_)
    have hP : va_P (dC, dI) vwCl (wX6 dA ad c_size c_length c_place c_fault c_faultPlace c_place c_bytes c_draft_terms) H := hP
    have hD : va_D A (wX6 dA ad c_size c_length c_place c_fault c_faultPlace c_place c_bytes c_draft_terms) := hD
    refine lv_iconst (v := 0) hx hb dX6_takeDigits_25 (by decide) ?_
    refine lv_istore_n (lv' := [(2, .int 0), (0, .ref (ad 0)), (1, .int p1)]) hx hb dX6_takeDigits_26 rfl hl (by decide) rfl (fun ls hl => ?_)
    obtain ⟨tg4, x5, c_place_6, v7, hf⟩ := bd3_some hf
    refine LP27 FU _ _ _ _ _ _ _ _ _ _ _ _ _ _ _ hP hD hS v7 (lv_sub hl [1, 0] rfl) (fun etg4 H locs ls hP hD hS hl => ?_) (fun etg4 H locs ls hP hD hS hl => ?_)
    · replace hf := ifp etg4 hf
      refine lv_aload_n hx hb dX6_takeDigits_66 rfl (lv_at hl 0 rfl) ?_
      refine lv_iconst (v := 2) hx hb dX6_takeDigits_67 (by decide) ?_
      refine lv_aload_n hx hb dX6_takeDigits_68 rfl (lv_at hl 0 rfl) ?_
      refine va_get (D := (dC, dI)) (ci := 6) (v := .int c_place_6) (C := RX6) (T := TX6) (N := 8) hx hb hts (fun w h => gw_mem (inX6 w h)) hown hK.1 hP 0 rfl rfl 4 (by decide) (hts _ (gw_mem wfX6_29)) (fun _ h9 => h9) rfl dX6_takeDigits_69 ?_
      obtain ⟨r8, c_fault_9, c_faultPlace_10, v11, hf⟩ := bd3_some hf
      refine gci (va_runV (As := [.int 2, .int c_place_6]) (rest := []) ⟨hx, hb, hml, hown, hts⟩ (tX6_wrong l dC dI dA ad H.size v11) (ccX6_X6_wrong hts ⟨Nat.le_of_ble_eq_true rfl, Nat.le_of_ble_eq_true rfl⟩) (gPreV (ci := 6) (q0 := 0) hP hK hD rfl rfl) rfl rfl hl.1 rfl (lv_room (Nat.le_of_ble_eq_true rfl)) dX6_takeDigits_72 ⟨Nat.le_of_ble_eq_true rfl, Nat.le_of_ble_eq_true rfl⟩) hD hS hA (fun H locs hP hD hS => ?_)
      cases hf
      exact W.iret hx hb hr (fun t ht _ => gqi hP hD hS ht) hS.2.2 dX6_takeDigits_75
    · replace hf := ifn (c := tg4 = 0) (by rw [etg4]; decide) hf
      refine lv_iload_n hx hb dX6_takeDigits_106 rfl (lv_at hl 0 rfl) ?_
      cases hf
      exact W.iret hx hb hr (fun t ht _ => gqi hP hD hS ht) hS.2.2 dX6_takeDigits_107
  · replace hf := ifp k3 hf
    refine lv_aload_n hx hb dX6_takeDigits_7 rfl (lv_at hl 0 rfl) ?_
    refine lv_iconst (v := 1) hx hb dX6_takeDigits_8 (by decide) ?_
    refine lv_aload_n hx hb dX6_takeDigits_9 rfl (lv_at hl 0 rfl) ?_
    refine va_get (D := (dC, dI)) (ci := 6) (v := .int c_place) (C := RX6) (T := TX6) (N := 8) hx hb hts (fun w h => gw_mem (inX6 w h)) hown hK.1 hP 0 rfl rfl 4 (by decide) (hts _ (gw_mem wfX6_29)) (fun _ h9 => h9) rfl dX6_takeDigits_10 ?_
    obtain ⟨r12, c_fault_13, c_faultPlace_14, v15, hf⟩ := bd3_some hf
    refine gci (va_runV (As := [.int 1, .int c_place]) (rest := []) ⟨hx, hb, hml, hown, hts⟩ (tX6_wrong l dC dI dA ad H.size v15) (ccX6_X6_wrong hts ⟨Nat.le_of_ble_eq_true rfl, Nat.le_of_ble_eq_true rfl⟩) (gPreV (ci := 6) (q0 := 0) hP hK hD rfl rfl) rfl rfl hl.1 rfl (lv_room (Nat.le_of_ble_eq_true rfl)) dX6_takeDigits_13 ⟨Nat.le_of_ble_eq_true rfl, Nat.le_of_ble_eq_true rfl⟩) hD hS hA (fun H locs hP hD hS => ?_)
    cases hf
    exact W.iret hx hb hr (fun t ht _ => gqi hP hD hS ht) hS.2.2 dX6_takeDigits_16
theorem ccX6_X6_look {R : Room} {s : State} {args : Array Value} {c0 : Cond} (ht : ∀ w ∈ wq c0, w.before args s = true) (hR : rmX6_look.frames + 1 ≤ R.frames ∧ 8 + (1 + 11) + rmX6_look.locals ≤ R.locals) : CallW R s args RX6 RX6 55 yX6_look cX6_look 1 (some .int) (wq (.code yX6_look cX6_look 1 (some .int))) rmX6_look 0 0 0 := gCW 0 ht wcX6_look wmX6_55 wiX6_look weX6_look wnX6 (by decide +kernel) rfl rfl hR
theorem ccX6_X6_takeDigits {R : Room} {s : State} {args : Array Value} {c0 : Cond} (ht : ∀ w ∈ wq c0, w.before args s = true) (hR : rmX6_takeDigits.frames + 1 ≤ R.frames ∧ 8 + (3 + 11) + rmX6_takeDigits.locals ≤ R.locals) : CallW R s args RX6 RX6 90 yX6_takeDigits cX6_takeDigits 3 (some .int) (wq (.code yX6_takeDigits cX6_takeDigits 3 (some .int))) rmX6_takeDigits 0 0 1 := gCW 1 ht wcX6_takeDigits wmX6_90 wiX6_takeDigits weX6_takeDigits wnX6 (by decide +kernel) rfl rfl hR
theorem ccX6_X8_within {R : Room} {s : State} {args : Array Value} {c0 : Cond} (hN : gN s) (ht : ∀ w ∈ wq c0, w.before args s = true) (hR : rmX8_within.frames + 1 ≤ R.frames ∧ 8 + (3 + 11) + rmX8_within.locals ≤ R.locals) : va_CN R s args RX6 94 yX8_within RX8 cX8_within 3 (some .boolean) (wq (.code yX8_within cX8_within 3 (some .boolean))) rmX8_within 0 0 3 ∧ (Cond.static yX8_within).before args s = true ∧ True := gCSN 3 hN ht wcX8_within wmX6_94 wtX8_within wnX8 (by decide +kernel) rfl rfl hR
def fX6_takeNumber (p1 : Int32) (p2 : Int32) (c_length : Int32) (c_place : Int32) (c_fault : Int32) (c_faultPlace : Int32) (c_begin : Int32) (c_bytes : Nat → Int32) : Option (Int32 × Int32 × Int32 × Int32 × Int32) := bd2 (fX6_look c_length c_place c_bytes) (fun r1 c_place_2 => bd5 (fX6_takeDigits r1 c_length c_place_2 c_fault c_faultPlace c_begin c_bytes) (fun r4 c_place_5 c_fault_6 c_faultPlace_7 c_begin_8 => if r4 < 0 then some (r4, c_place_5, c_fault_6, c_faultPlace_7, c_begin_8) else bd1 (fX8_within r4 p1 p2) (fun r11 => if r11 = 0 then bd3 (fX6_wrong 3 c_begin_8 c_fault_6 c_faultPlace_7) (fun r14 c_fault_15 c_faultPlace_16 => some (r14, c_place_5, c_fault_15, c_faultPlace_16, c_begin_8)) else some (r4, c_place_5, c_fault_6, c_faultPlace_7, c_begin_8))))
abbrev rmX6_takeNumber : Room := { frames := 2, cells := 0, slots := 0, locals := 44 }
set_option maxHeartbeats 4000000 in
set_option maxRecDepth 100000 in
theorem tX6_takeNumber (l : Launch) (dC : Nat → ClassId) (dI : Nat → Nat → Nat) (dA : Nat → ClassId) (ad : Nat → Nat) (sz : Nat) {p1 : Int32} {p2 : Int32} {c_size : Int32} {c_length : Int32} {c_place : Int32} {c_fault : Int32} {c_faultPlace : Int32} {c_begin : Int32} {c_bytes : Nat → Int32} {c_draft_terms : Nat → Int32} {r : Int32} {o_c_place : Int32} {o_c_fault : Int32} {o_c_faultPlace : Int32} {o_c_begin : Int32} (hf : fX6_takeNumber p1 p2 c_length c_place c_fault c_faultPlace c_begin c_bytes = some (r, o_c_place, o_c_fault, o_c_faultPlace, o_c_begin)) : Met l yX6_takeNumber (wq (Cond.code yX6_takeNumber cX6_takeNumber 4 (some .int))) rmX6_takeNumber (gP [.ref (ad 0), .int p1, .int p2] (dC, dI) dA (wX6 dA ad c_size c_length c_place c_fault c_faultPlace c_begin c_bytes c_draft_terms) sz) (gQi (dC, dI) r (wX6 dA ad c_size c_length o_c_place o_c_fault o_c_faultPlace o_c_begin c_bytes c_draft_terms) (va_A (wX6 dA ad c_size c_length c_place c_fault c_faultPlace c_begin c_bytes c_draft_terms) sz)) 0 0 (va_A (wX6 dA ad c_size c_length c_place c_fault c_faultPlace c_begin c_bytes c_draft_terms) sz) := by
  refine Met.ofW (cc := cX6_takeNumber) (maxL := 4) (ret := (some .int)) (by decide) rfl ?_
  intro p e s m args below meth c s₁ B hml hv
  obtain ⟨rfl, hsz, hP, hK, hD0⟩ := hv
  have hx := B.exec
  have hb := B.bytes
  have hr := B.returns
  have hts := atoms_spec (ws := wq (Cond.code yX6_takeNumber cX6_takeNumber 4 (some .int))) B.pre
  have hown : s.vm.findClass RX6 = some m.cls := findClass_of_methodNamed B.named
  have hlocks := B.notSynchronized
  clear B
  subst hsz
  have hD := hD0.self (sz := s.heap.size)
  generalize hAe : va_A (wX6 dA ad c_size c_length c_place c_fault c_faultPlace c_begin c_bytes c_draft_terms) s.heap.size = A at hD ⊢
  have hA : ∀ q : Nat, s.heap.size ≤ q → A q := fun q h => by rw [← hAe]; exact Or.inr h
  clear hAe hD0
  have hS : va_S A s.heap s.heap [] := va_S.rf
  have hl := lv_entry ([.ref (ad 0), .int p1, .int p2]) (n := 4) (Nat.le_of_ble_eq_true rfl)
  rw [lg_entry_eq]
  generalize (lg_sl ([.ref (ad 0), .int p1, .int p2]) ++ List.replicate (4 - (lg_sl ([.ref (ad 0), .int p1, .int p2])).length) Slot.unset).toArray = ls at hl ⊢
  have hl : lv_has ls 4 [(0, .ref (ad 0)), (1, .int p1), (2, .int p2)] := hl
  change W p l e rmX6_takeNumber s m ([.ref (ad 0), .int p1, .int p2] : List Value).toArray below meth c s.heap [] 0 0 _ _
  unfold fX6_takeNumber at hf
  refine lv_aload_n hx hb dX6_takeNumber_0 rfl (lv_at hl 0 rfl) ?_
  refine lv_aload_n hx hb dX6_takeNumber_1 rfl (lv_at hl 0 rfl) ?_
  obtain ⟨r1, c_place_2, v3, hf⟩ := bd2_some hf
  refine gci (va_runV (As := []) (rest := [.ref (ad 0)]) ⟨hx, hb, hml, hown, hts⟩ (tX6_look l dC dI dA ad s.heap.size v3) (ccX6_X6_look hts ⟨Nat.le_of_ble_eq_true rfl, Nat.le_of_ble_eq_true rfl⟩) (gPreV (ci := 6) (q0 := 0) hP hK hD rfl rfl) rfl rfl hl.1 rfl (lv_room (Nat.le_of_ble_eq_true rfl)) dX6_takeNumber_2 ⟨Nat.le_of_ble_eq_true rfl, Nat.le_of_ble_eq_true rfl⟩) hD hS hA (fun H locs hP hD hS => ?_)
  obtain ⟨r4, c_place_5, c_fault_6, c_faultPlace_7, c_begin_8, v9, hf⟩ := bd5_some hf
  refine gci (va_runV (As := [.int r1]) (rest := []) ⟨hx, hb, hml, hown, hts⟩ (tX6_takeDigits l dC dI dA ad H.size v9) (ccX6_X6_takeDigits hts ⟨Nat.le_of_ble_eq_true rfl, Nat.le_of_ble_eq_true rfl⟩) (gPreV (ci := 6) (q0 := 0) hP hK hD rfl rfl) rfl rfl hl.1 rfl (lv_room (Nat.le_of_ble_eq_true rfl)) dX6_takeNumber_5 ⟨Nat.le_of_ble_eq_true rfl, Nat.le_of_ble_eq_true rfl⟩) hD hS hA (fun H locs hP hD hS => ?_)
  refine lv_istore_n (lv' := [(3, .int r4), (0, .ref (ad 0)), (1, .int p1), (2, .int p2)]) hx hb dX6_takeNumber_8 rfl hl (by decide) rfl (fun ls hl => ?_)
  refine lv_iload_n hx hb dX6_takeNumber_9 rfl (lv_at hl 0 rfl) ?_
  refine lv_if_lt (tgt := 22) hx hb dX6_takeNumber_10 (by decide) (fun k10 => ?_) (fun k10 => ?_)
  · replace hf := ifp k10 hf
    refine lv_iload_n hx hb dX6_takeNumber_22 rfl (lv_at hl 0 rfl) ?_
    cases hf
    exact W.iret hx hb hr (fun t ht _ => gqi hP hD hS ht) hS.2.2 dX6_takeNumber_23
  · replace hf := ifn k10 hf
    refine lv_iload_n hx hb dX6_takeNumber_13 rfl (lv_at hl 0 rfl) ?_
    refine lv_iload_n hx hb dX6_takeNumber_14 rfl (lv_at hl 2 rfl) ?_
    refine lv_iload_n hx hb dX6_takeNumber_15 rfl (lv_at hl 3 rfl) ?_
    obtain ⟨r11, v12, hf⟩ := bd1_some hf
    refine gci0 (va_runSN (As := [.int r4, .int p1, .int p2]) (rest := []) ⟨hx, hb, hml, hown, hts⟩ (tX8_within l dC dI dA H.size v12) (ccX6_X8_within hK.2 hts ⟨Nat.le_of_ble_eq_true rfl, Nat.le_of_ble_eq_true rfl⟩) (gPreS0 hK) rfl rfl hl.1 rfl (lv_room (Nat.le_of_ble_eq_true rfl)) dX6_takeNumber_16 ⟨Nat.le_of_ble_eq_true rfl, Nat.le_of_ble_eq_true rfl⟩) hP hS hA (fun H locs hP hS => ?_)
    refine lv_if_eq (tgt := 24) hx hb dX6_takeNumber_19 (by decide) (fun k13 => ?_) (fun k13 => ?_)
    · replace hf := ifp k13 hf
      refine lv_aload_n hx hb dX6_takeNumber_24 rfl (lv_at hl 1 rfl) ?_
      refine lv_iconst (v := 3) hx hb dX6_takeNumber_25 (by decide) ?_
      refine lv_aload_n hx hb dX6_takeNumber_26 rfl (lv_at hl 1 rfl) ?_
      refine va_get (D := (dC, dI)) (ci := 6) (v := .int c_begin_8) (C := RX6) (T := TX6) (N := 8) hx hb hts (fun w h => gw_mem (inX6 w h)) hown hK.1 hP 0 rfl rfl 7 (by decide) (hts _ (gw_mem wfX6_38)) (fun _ h9 => h9) rfl dX6_takeNumber_27 ?_
      obtain ⟨r14, c_fault_15, c_faultPlace_16, v17, hf⟩ := bd3_some hf
      refine gci (va_runV (As := [.int 3, .int c_begin_8]) (rest := []) ⟨hx, hb, hml, hown, hts⟩ (tX6_wrong l dC dI dA ad H.size v17) (ccX6_X6_wrong hts ⟨Nat.le_of_ble_eq_true rfl, Nat.le_of_ble_eq_true rfl⟩) (gPreV (ci := 6) (q0 := 0) hP hK hD rfl rfl) rfl rfl hl.1 rfl (lv_room (Nat.le_of_ble_eq_true rfl)) dX6_takeNumber_30 ⟨Nat.le_of_ble_eq_true rfl, Nat.le_of_ble_eq_true rfl⟩) hD hS hA (fun H locs hP hD hS => ?_)
      cases hf
      exact W.iret hx hb hr (fun t ht _ => gqi hP hD hS ht) hS.2.2 dX6_takeNumber_33
    · replace hf := ifn k13 hf
      refine lv_iload_n hx hb dX6_takeNumber_22 rfl (lv_at hl 0 rfl) ?_
      cases hf
      exact W.iret hx hb hr (fun t ht _ => gqi hP hD hS ht) hS.2.2 dX6_takeNumber_23
theorem ccX6_X6_takeNumber {R : Room} {s : State} {args : Array Value} {c0 : Cond} (ht : ∀ w ∈ wq c0, w.before args s = true) (hR : rmX6_takeNumber.frames + 1 ≤ R.frames ∧ 8 + (4 + 11) + rmX6_takeNumber.locals ≤ R.locals) : CallW R s args RX6 RX6 64 yX6_takeNumber cX6_takeNumber 4 (some .int) (wq (.code yX6_takeNumber cX6_takeNumber 4 (some .int))) rmX6_takeNumber 0 0 2 := gCW 2 ht wcX6_takeNumber wmX6_64 wiX6_takeNumber weX6_takeNumber wnX6 (by decide +kernel) rfl rfl hR
theorem ccX6_X6_store {R : Room} {s : State} {args : Array Value} {c0 : Cond} (ht : ∀ w ∈ wq c0, w.before args s = true) (hR : rmX6_store.frames + 1 ≤ R.frames ∧ 8 + (3 + 11) + rmX6_store.locals ≤ R.locals) : CallW R s args RX6 RX6 67 yX6_store cX6_store 3 (some .boolean) (wq (.code yX6_store cX6_store 3 (some .boolean))) rmX6_store 0 0 2 := gCW 2 ht wcX6_store wmX6_67 wiX6_store weX6_store wnX6 (by decide +kernel) rfl rfl hR
theorem ccX6_X6_fails {R : Room} {s : State} {args : Array Value} {c0 : Cond} (ht : ∀ w ∈ wq c0, w.before args s = true) (hR : rmX6_fails.frames + 1 ≤ R.frames ∧ 8 + (3 + 11) + rmX6_fails.locals ≤ R.locals) : CallW R s args RX6 RX6 87 yX6_fails cX6_fails 3 (some .boolean) (wq (.code yX6_fails cX6_fails 3 (some .boolean))) rmX6_fails 0 0 2 := gCW 2 ht wcX6_fails wmX6_87 wiX6_fails weX6_fails wnX6 (by decide +kernel) rfl rfl hR
theorem ccX6_X0_setAllCoupons {R : Room} {s : State} {args : Array Value} {c0 : Cond} (ht : ∀ w ∈ wq c0, w.before args s = true) (hR : rmX0_setAllCoupons.frames + 1 ≤ R.frames ∧ 8 + (3 + 11) + rmX0_setAllCoupons.locals ≤ R.locals) : CallW R s args RX6 RX0 98 yX0_setAllCoupons cX0_setAllCoupons 3 none (wq (.code yX0_setAllCoupons cX0_setAllCoupons 3 none)) rmX0_setAllCoupons 0 0 1 := gCW 1 ht wcX0_setAllCoupons wmX6_98 wiX0_setAllCoupons weX0_setAllCoupons wnX0 (by decide +kernel) rfl rfl hR
def fX6_takeCoupon (c_length : Int32) (c_place : Int32) (c_fault : Int32) (c_faultPlace : Int32) (c_begin : Int32) (c_bytes : Nat → Int32) (c_draft_terms : Nat → Int32) : Option (Int32 × Int32 × Int32 × Int32 × Int32 × (Nat → Int32)) := bd2 (fX6_look c_length c_place c_bytes) (fun r1 c_place_2 => bd5 (fX6_takeDigits r1 c_length c_place_2 c_fault c_faultPlace c_begin c_bytes) (fun r4 c_place_5 c_fault_6 c_faultPlace_7 c_begin_8 => if 0 ≤ r4 then if (c_place_5 - c_begin_8) = 1 then bd2 (fX6_look c_length c_place_5 c_bytes) (fun r23 c_place_24 => if r23 = 58 then nm (c_place_24 + 1) (fun w36 => bd1 (fX8_within r4 1 6) (fun r37 => if r37 = 0 then bd3 (fX6_fails 3 c_begin_8 c_fault_6 c_faultPlace_7) (fun r50 c_fault_51 c_faultPlace_52 => og (boB r50) (some (r50, w36, c_fault_51, c_faultPlace_52, c_begin_8, c_draft_terms))) else bd5 (fX6_takeNumber 0 1000 c_length w36 c_fault_6 c_faultPlace_7 c_begin_8 c_bytes) (fun r40 c_place_41 c_fault_42 c_faultPlace_43 c_begin_44 => bd2 (fX6_store (10 + r4) r40 c_draft_terms) (fun r46 c_draft_terms_47 => og (boB r46) (some (r46, c_place_41, c_fault_42, c_faultPlace_43, c_begin_44, c_draft_terms_47)))))) else if r4 ≤ 1000 then bd1 (fX0_setAllCoupons r4 c_draft_terms) (fun c_draft_terms_28 => some (1, c_place_24, c_fault_6, c_faultPlace_7, c_begin_8, c_draft_terms_28)) else bd3 (fX6_fails 3 c_begin_8 c_fault_6 c_faultPlace_7) (fun r31 c_fault_32 c_faultPlace_33 => og (boB r31) (some (r31, c_place_24, c_fault_32, c_faultPlace_33, c_begin_8, c_draft_terms)))) else if r4 ≤ 1000 then bd1 (fX0_setAllCoupons r4 c_draft_terms) (fun c_draft_terms_14 => some (1, c_place_5, c_fault_6, c_faultPlace_7, c_begin_8, c_draft_terms_14)) else bd3 (fX6_fails 3 c_begin_8 c_fault_6 c_faultPlace_7) (fun r17 c_fault_18 c_faultPlace_19 => og (boB r17) (some (r17, c_place_5, c_fault_18, c_faultPlace_19, c_begin_8, c_draft_terms))) else some (0, c_place_5, c_fault_6, c_faultPlace_7, c_begin_8, c_draft_terms)))
abbrev rmX6_takeCoupon : Room := { frames := 3, cells := 0, slots := 0, locals := 67 }
set_option maxHeartbeats 4000000 in
set_option maxRecDepth 100000 in
theorem tX6_takeCoupon (l : Launch) (dC : Nat → ClassId) (dI : Nat → Nat → Nat) (dA : Nat → ClassId) (ad : Nat → Nat) (sz : Nat) {c_size : Int32} {c_length : Int32} {c_place : Int32} {c_fault : Int32} {c_faultPlace : Int32} {c_begin : Int32} {c_bytes : Nat → Int32} {c_draft_terms : Nat → Int32} {r : Int32} {o_c_place : Int32} {o_c_fault : Int32} {o_c_faultPlace : Int32} {o_c_begin : Int32} {o_c_draft_terms : Nat → Int32} (hf : fX6_takeCoupon c_length c_place c_fault c_faultPlace c_begin c_bytes c_draft_terms = some (r, o_c_place, o_c_fault, o_c_faultPlace, o_c_begin, o_c_draft_terms)) : Met l yX6_takeCoupon (wq (Cond.code yX6_takeCoupon cX6_takeCoupon 4 (some .boolean))) rmX6_takeCoupon (gP [.ref (ad 0)] (dC, dI) dA (wX6 dA ad c_size c_length c_place c_fault c_faultPlace c_begin c_bytes c_draft_terms) sz) (gQi (dC, dI) r (wX6 dA ad c_size c_length o_c_place o_c_fault o_c_faultPlace o_c_begin c_bytes o_c_draft_terms) (va_A (wX6 dA ad c_size c_length c_place c_fault c_faultPlace c_begin c_bytes c_draft_terms) sz)) 0 0 (va_A (wX6 dA ad c_size c_length c_place c_fault c_faultPlace c_begin c_bytes c_draft_terms) sz) := by
  refine Met.ofW (cc := cX6_takeCoupon) (maxL := 4) (ret := (some .boolean)) (by decide) rfl ?_
  intro p e s m args below meth c s₁ B hml hv
  obtain ⟨rfl, hsz, hP, hK, hD0⟩ := hv
  have hx := B.exec
  have hb := B.bytes
  have hr := B.returns
  have hts := atoms_spec (ws := wq (Cond.code yX6_takeCoupon cX6_takeCoupon 4 (some .boolean))) B.pre
  have hown : s.vm.findClass RX6 = some m.cls := findClass_of_methodNamed B.named
  have hlocks := B.notSynchronized
  clear B
  subst hsz
  have hD := hD0.self (sz := s.heap.size)
  generalize hAe : va_A (wX6 dA ad c_size c_length c_place c_fault c_faultPlace c_begin c_bytes c_draft_terms) s.heap.size = A at hD ⊢
  have hA : ∀ q : Nat, s.heap.size ≤ q → A q := fun q h => by rw [← hAe]; exact Or.inr h
  clear hAe hD0
  have hS : va_S A s.heap s.heap [] := va_S.rf
  have hl := lv_entry ([.ref (ad 0)]) (n := 4) (Nat.le_of_ble_eq_true rfl)
  rw [lg_entry_eq]
  generalize (lg_sl ([.ref (ad 0)]) ++ List.replicate (4 - (lg_sl ([.ref (ad 0)])).length) Slot.unset).toArray = ls at hl ⊢
  have hl : lv_has ls 4 [(0, .ref (ad 0))] := hl
  change W p l e rmX6_takeCoupon s m ([.ref (ad 0)] : List Value).toArray below meth c s.heap [] 0 0 _ _
  unfold fX6_takeCoupon at hf
  refine lv_aload_n hx hb dX6_takeCoupon_0 rfl (lv_at hl 0 rfl) ?_
  refine lv_aload_n hx hb dX6_takeCoupon_1 rfl (lv_at hl 0 rfl) ?_
  obtain ⟨r1, c_place_2, v3, hf⟩ := bd2_some hf
  refine gci (va_runV (As := []) (rest := [.ref (ad 0)]) ⟨hx, hb, hml, hown, hts⟩ (tX6_look l dC dI dA ad s.heap.size v3) (ccX6_X6_look hts ⟨Nat.le_of_ble_eq_true rfl, Nat.le_of_ble_eq_true rfl⟩) (gPreV (ci := 6) (q0 := 0) hP hK hD rfl rfl) rfl rfl hl.1 rfl (lv_room (Nat.le_of_ble_eq_true rfl)) dX6_takeCoupon_2 ⟨Nat.le_of_ble_eq_true rfl, Nat.le_of_ble_eq_true rfl⟩) hD hS hA (fun H locs hP hD hS => ?_)
  obtain ⟨r4, c_place_5, c_fault_6, c_faultPlace_7, c_begin_8, v9, hf⟩ := bd5_some hf
  refine gci (va_runV (As := [.int r1]) (rest := []) ⟨hx, hb, hml, hown, hts⟩ (tX6_takeDigits l dC dI dA ad H.size v9) (ccX6_X6_takeDigits hts ⟨Nat.le_of_ble_eq_true rfl, Nat.le_of_ble_eq_true rfl⟩) (gPreV (ci := 6) (q0 := 0) hP hK hD rfl rfl) rfl rfl hl.1 rfl (lv_room (Nat.le_of_ble_eq_true rfl)) dX6_takeCoupon_5 ⟨Nat.le_of_ble_eq_true rfl, Nat.le_of_ble_eq_true rfl⟩) hD hS hA (fun H locs hP hD hS => ?_)
  refine lv_istore_n (lv' := [(1, .int r4), (0, .ref (ad 0))]) hx hb dX6_takeCoupon_8 rfl hl (by decide) rfl (fun ls hl => ?_)
  refine lv_iload_n hx hb dX6_takeCoupon_9 rfl (lv_at hl 0 rfl) ?_
  refine lv_if_ge (tgt := 15) hx hb dX6_takeCoupon_10 (by decide) (fun k10 => ?_) (fun k10 => ?_)
  · replace hf := ifp k10 hf
    refine lv_aload_n hx hb dX6_takeCoupon_15 rfl (lv_at hl 1 rfl) ?_
    refine va_get (D := (dC, dI)) (ci := 6) (v := .int c_begin_8) (C := RX6) (T := TX6) (N := 8) hx hb hts (fun w h => gw_mem (inX6 w h)) hown hK.1 hP 0 rfl rfl 7 (by decide) (hts _ (gw_mem wfX6_38)) (fun _ h9 => h9) rfl dX6_takeCoupon_16 ?_
    refine lv_istore_n (lv' := [(2, .int c_begin_8), (1, .int r4), (0, .ref (ad 0))]) hx hb dX6_takeCoupon_19 rfl hl (by decide) rfl (fun ls hl => ?_)
    refine lv_aload_n hx hb dX6_takeCoupon_20 rfl (lv_at hl 2 rfl) ?_
    refine va_get (D := (dC, dI)) (ci := 6) (v := .int c_place_5) (C := RX6) (T := TX6) (N := 8) hx hb hts (fun w h => gw_mem (inX6 w h)) hown hK.1 hP 0 rfl rfl 4 (by decide) (hts _ (gw_mem wfX6_29)) (fun _ h9 => h9) rfl dX6_takeCoupon_21 ?_
    refine lv_iload_n hx hb dX6_takeCoupon_24 rfl (lv_at hl 0 rfl) ?_
    refine lv_isub hx hb dX6_takeCoupon_25 ?_
    refine lv_iconst (v := 1) hx hb dX6_takeCoupon_26 (by decide) ?_
    refine lv_icmp_ne (tgt := 34) hx hb dX6_takeCoupon_27 (by decide) (fun k11 => ?_) (fun k11 => ?_)
    · replace hf := ifn k11 hf
      refine lv_iconst (v := 0) hx hb dX6_takeCoupon_34 (by decide) ?_
      refine lv_istore_n (lv' := [(3, .int 0), (2, .int c_begin_8), (1, .int r4), (0, .ref (ad 0))]) hx hb dX6_takeCoupon_35 rfl hl (by decide) rfl (fun ls hl => ?_)
      refine lv_iload_n hx hb dX6_takeCoupon_36 rfl (lv_at hl 0 rfl) ?_
      refine lv_if_eq (tgt := 93) hx hb dX6_takeCoupon_37 (by decide) (fun k12 => ?_) (fun k12 => absurd k12 (by decide))
      refine lv_iload_n hx hb dX6_takeCoupon_93 rfl (lv_at hl 2 rfl) ?_
      refine lv_sipush (v := 1000) hx hb dX6_takeCoupon_94 (by decide) ?_
      refine lv_icmp_le (tgt := 107) hx hb dX6_takeCoupon_97 (by decide) (fun k13 => ?_) (fun k13 => ?_)
      · replace hf := ifp k13 hf
        refine lv_aload_n hx hb dX6_takeCoupon_107 rfl (lv_at hl 3 rfl) ?_
        refine va_get (D := (dC, dI)) (ci := 6) (v := .ref (ad 2)) (C := RX6) (T := TX6) (N := 8) hx hb hts (fun w h => gw_mem (inX6 w h)) hown hK.1 hP 0 rfl rfl 2 (by decide) (hts _ (gw_mem wfX6_22)) (fun _ h9 => h9) rfl dX6_takeCoupon_108 ?_
        refine lv_iload_n hx hb dX6_takeCoupon_111 rfl (lv_at hl 2 rfl) ?_
        obtain ⟨c_draft_terms_14, v15, hf⟩ := bd1_some hf
        have z16 : [2, 3].map (fun i => ((wX6 dA ad c_size c_length c_place_5 c_fault_6 c_faultPlace_7 c_begin_8 c_bytes c_draft_terms))[i]?) = ((wX0 dA (fun i => ad (i + 2)) c_draft_terms)).map some := rfl
        refine gpv [2, 3] [0, 1] [0, 1, 2, 3] (wf := (wX6 dA ad c_size c_length c_place_5 c_fault_6 c_faultPlace_7 c_begin_8 c_bytes c_draft_terms_14)) (va_runV (As := [.int r4]) (rest := []) ⟨hx, hb, hml, hown, hts⟩ (tX0_setAllCoupons l dC dI dA (fun i => ad (i + 2)) H.size v15) (ccX6_X0_setAllCoupons hts ⟨Nat.le_of_ble_eq_true rfl, Nat.le_of_ble_eq_true rfl⟩) (gPreV (ci := 1) (q0 := 0) (gsub z16 hP) hK (gsubD z16 (by decide) hD) rfl rfl) rfl rfl hl.1 rfl (lv_room (Nat.le_of_ble_eq_true rfl)) dX6_takeCoupon_112 ⟨Nat.le_of_ble_eq_true rfl, Nat.le_of_ble_eq_true rfl⟩) hP hD hS hA z16 rfl (by decide) (by decide) (by decide) rfl (fun H locs hP hD hS => ?_)
        refine lv_iconst (v := 1) hx hb dX6_takeCoupon_115 (by decide) ?_
        cases hf
        exact W.zret (ty := .boolean) hx hb hr rfl (fun t ht _ => gqi hP hD hS ht) hS.2.2 dX6_takeCoupon_116
      · replace hf := ifn k13 hf
        refine lv_aload_n hx hb dX6_takeCoupon_100 rfl (lv_at hl 3 rfl) ?_
        refine lv_iconst (v := 3) hx hb dX6_takeCoupon_101 (by decide) ?_
        refine lv_iload_n hx hb dX6_takeCoupon_102 rfl (lv_at hl 1 rfl) ?_
        obtain ⟨r17, c_fault_18, c_faultPlace_19, v20, hf⟩ := bd3_some hf
        refine gci (va_runV (As := [.int 3, .int c_begin_8]) (rest := []) ⟨hx, hb, hml, hown, hts⟩ (tX6_fails l dC dI dA ad H.size v20) (ccX6_X6_fails hts ⟨Nat.le_of_ble_eq_true rfl, Nat.le_of_ble_eq_true rfl⟩) (gPreV (ci := 6) (q0 := 0) hP hK hD rfl rfl) rfl rfl hl.1 rfl (lv_room (Nat.le_of_ble_eq_true rfl)) dX6_takeCoupon_103 ⟨Nat.le_of_ble_eq_true rfl, Nat.le_of_ble_eq_true rfl⟩) hD hS hA (fun H locs hP hD hS => ?_)
        obtain ⟨h21, hf⟩ := og_some hf
        cases hf
        exact W.zret (ty := .boolean) hx hb hr (boB_nar h21) (fun t ht _ => gqi hP hD hS ht) hS.2.2 dX6_takeCoupon_106
    · replace hf := ifp k11 hf
      refine lv_iconst (v := 1) hx hb dX6_takeCoupon_30 (by decide) ?_
      refine lv_goto (tgt := 35) hx hb dX6_takeCoupon_31 (by decide) ?_
      refine lv_istore_n (lv' := [(3, .int 1), (2, .int c_begin_8), (1, .int r4), (0, .ref (ad 0))]) hx hb dX6_takeCoupon_35 rfl hl (by decide) rfl (fun ls hl => ?_)
      refine lv_iload_n hx hb dX6_takeCoupon_36 rfl (lv_at hl 0 rfl) ?_
      refine lv_if_eq (tgt := 93) hx hb dX6_takeCoupon_37 (by decide) (fun k22 => absurd k22 (by decide)) (fun k22 => ?_)
      refine lv_aload_n hx hb dX6_takeCoupon_40 rfl (lv_at hl 3 rfl) ?_
      obtain ⟨r23, c_place_24, v25, hf⟩ := bd2_some hf
      refine gci (va_runV (As := []) (rest := []) ⟨hx, hb, hml, hown, hts⟩ (tX6_look l dC dI dA ad H.size v25) (ccX6_X6_look hts ⟨Nat.le_of_ble_eq_true rfl, Nat.le_of_ble_eq_true rfl⟩) (gPreV (ci := 6) (q0 := 0) hP hK hD rfl rfl) rfl rfl hl.1 rfl (lv_room (Nat.le_of_ble_eq_true rfl)) dX6_takeCoupon_41 ⟨Nat.le_of_ble_eq_true rfl, Nat.le_of_ble_eq_true rfl⟩) hD hS hA (fun H locs hP hD hS => ?_)
      refine lv_bipush (v := 58) hx hb dX6_takeCoupon_44 (by decide) ?_
      refine lv_icmp_ne (tgt := 93) hx hb dX6_takeCoupon_46 (by decide) (fun k26 => ?_) (fun k26 => ?_)
      · replace hf := ifn k26 hf
        refine lv_iload_n hx hb dX6_takeCoupon_93 rfl (lv_at hl 2 rfl) ?_
        refine lv_sipush (v := 1000) hx hb dX6_takeCoupon_94 (by decide) ?_
        refine lv_icmp_le (tgt := 107) hx hb dX6_takeCoupon_97 (by decide) (fun k27 => ?_) (fun k27 => ?_)
        · replace hf := ifp k27 hf
          refine lv_aload_n hx hb dX6_takeCoupon_107 rfl (lv_at hl 3 rfl) ?_
          refine va_get (D := (dC, dI)) (ci := 6) (v := .ref (ad 2)) (C := RX6) (T := TX6) (N := 8) hx hb hts (fun w h => gw_mem (inX6 w h)) hown hK.1 hP 0 rfl rfl 2 (by decide) (hts _ (gw_mem wfX6_22)) (fun _ h9 => h9) rfl dX6_takeCoupon_108 ?_
          refine lv_iload_n hx hb dX6_takeCoupon_111 rfl (lv_at hl 2 rfl) ?_
          obtain ⟨c_draft_terms_28, v29, hf⟩ := bd1_some hf
          have z30 : [2, 3].map (fun i => ((wX6 dA ad c_size c_length c_place_24 c_fault_6 c_faultPlace_7 c_begin_8 c_bytes c_draft_terms))[i]?) = ((wX0 dA (fun i => ad (i + 2)) c_draft_terms)).map some := rfl
          refine gpv [2, 3] [0, 1] [0, 1, 2, 3] (wf := (wX6 dA ad c_size c_length c_place_24 c_fault_6 c_faultPlace_7 c_begin_8 c_bytes c_draft_terms_28)) (va_runV (As := [.int r4]) (rest := []) ⟨hx, hb, hml, hown, hts⟩ (tX0_setAllCoupons l dC dI dA (fun i => ad (i + 2)) H.size v29) (ccX6_X0_setAllCoupons hts ⟨Nat.le_of_ble_eq_true rfl, Nat.le_of_ble_eq_true rfl⟩) (gPreV (ci := 1) (q0 := 0) (gsub z30 hP) hK (gsubD z30 (by decide) hD) rfl rfl) rfl rfl hl.1 rfl (lv_room (Nat.le_of_ble_eq_true rfl)) dX6_takeCoupon_112 ⟨Nat.le_of_ble_eq_true rfl, Nat.le_of_ble_eq_true rfl⟩) hP hD hS hA z30 rfl (by decide) (by decide) (by decide) rfl (fun H locs hP hD hS => ?_)
          refine lv_iconst (v := 1) hx hb dX6_takeCoupon_115 (by decide) ?_
          cases hf
          exact W.zret (ty := .boolean) hx hb hr rfl (fun t ht _ => gqi hP hD hS ht) hS.2.2 dX6_takeCoupon_116
        · replace hf := ifn k27 hf
          refine lv_aload_n hx hb dX6_takeCoupon_100 rfl (lv_at hl 3 rfl) ?_
          refine lv_iconst (v := 3) hx hb dX6_takeCoupon_101 (by decide) ?_
          refine lv_iload_n hx hb dX6_takeCoupon_102 rfl (lv_at hl 1 rfl) ?_
          obtain ⟨r31, c_fault_32, c_faultPlace_33, v34, hf⟩ := bd3_some hf
          refine gci (va_runV (As := [.int 3, .int c_begin_8]) (rest := []) ⟨hx, hb, hml, hown, hts⟩ (tX6_fails l dC dI dA ad H.size v34) (ccX6_X6_fails hts ⟨Nat.le_of_ble_eq_true rfl, Nat.le_of_ble_eq_true rfl⟩) (gPreV (ci := 6) (q0 := 0) hP hK hD rfl rfl) rfl rfl hl.1 rfl (lv_room (Nat.le_of_ble_eq_true rfl)) dX6_takeCoupon_103 ⟨Nat.le_of_ble_eq_true rfl, Nat.le_of_ble_eq_true rfl⟩) hD hS hA (fun H locs hP hD hS => ?_)
          obtain ⟨h35, hf⟩ := og_some hf
          cases hf
          exact W.zret (ty := .boolean) hx hb hr (boB_nar h35) (fun t ht _ => gqi hP hD hS ht) hS.2.2 dX6_takeCoupon_106
      · replace hf := ifp k26 hf
        refine lv_aload_n hx hb dX6_takeCoupon_49 rfl (lv_at hl 3 rfl) ?_
        refine lv_dup hx hb dX6_takeCoupon_50 rfl ?_
        refine va_get (D := (dC, dI)) (ci := 6) (v := .int c_place_24) (C := RX6) (T := TX6) (N := 8) hx hb hts (fun w h => gw_mem (inX6 w h)) hown hK.1 hP 0 rfl rfl 4 (by decide) (hts _ (gw_mem wfX6_29)) (fun _ h9 => h9) rfl dX6_takeCoupon_51 ?_
        refine lv_iconst (v := 1) hx hb dX6_takeCoupon_54 (by decide) ?_
        refine lv_iadd hx hb dX6_takeCoupon_55 ?_
        refine lv_topi (fun w36 ew36 => ?_)
        replace hf := nm_at hf ew36
        refine va_put (D := (dC, dI)) (ci := 6) (v := .int w36) (ty := .int) (C := RX6) (T := TX6) (N := 8) hx hb hts (fun w h => gw_mem (inX6 w h)) tyX6 tyX6_ok nmX6 hown hK.1 hP hD hS 0 rfl rfl 4 (by decide) (hts _ (gw_mem wfX6_29)) (fun _ h9 => h9) rfl (by decide +kernel) rfl rfl (Nat.le_of_ble_eq_true rfl) dX6_takeCoupon_56 (fun H locs hP hD hS => ?_)
        have hP : va_P (dC, dI) vwCl (wX6 dA ad c_size c_length w36 c_fault_6 c_faultPlace_7 c_begin_8 c_bytes c_draft_terms) H := hP
        have hD : va_D A (wX6 dA ad c_size c_length w36 c_fault_6 c_faultPlace_7 c_begin_8 c_bytes c_draft_terms) := hD
        refine lv_iload_n hx hb dX6_takeCoupon_59 rfl (lv_at hl 2 rfl) ?_
        refine lv_iconst (v := 1) hx hb dX6_takeCoupon_60 (by decide) ?_
        refine lv_bipush (v := 6) hx hb dX6_takeCoupon_61 (by decide) ?_
        obtain ⟨r37, v38, hf⟩ := bd1_some hf
        refine gci0 (va_runSN (As := [.int r4, .int 1, .int 6]) (rest := []) ⟨hx, hb, hml, hown, hts⟩ (tX8_within l dC dI dA H.size v38) (ccX6_X8_within hK.2 hts ⟨Nat.le_of_ble_eq_true rfl, Nat.le_of_ble_eq_true rfl⟩) (gPreS0 hK) rfl rfl hl.1 rfl (lv_room (Nat.le_of_ble_eq_true rfl)) dX6_takeCoupon_63 ⟨Nat.le_of_ble_eq_true rfl, Nat.le_of_ble_eq_true rfl⟩) hP hS hA (fun H locs hP hS => ?_)
        refine lv_if_ne (tgt := 76) hx hb dX6_takeCoupon_66 (by decide) (fun k39 => ?_) (fun k39 => ?_)
        · replace hf := ifn k39 hf
          refine lv_aload_n hx hb dX6_takeCoupon_76 rfl (lv_at hl 3 rfl) ?_
          refine lv_bipush (v := 10) hx hb dX6_takeCoupon_77 (by decide) ?_
          refine lv_iload_n hx hb dX6_takeCoupon_79 rfl (lv_at hl 2 rfl) ?_
          refine lv_iadd hx hb dX6_takeCoupon_80 ?_
          refine lv_aload_n hx hb dX6_takeCoupon_81 rfl (lv_at hl 3 rfl) ?_
          refine lv_iconst (v := 0) hx hb dX6_takeCoupon_82 (by decide) ?_
          refine lv_sipush (v := 1000) hx hb dX6_takeCoupon_83 (by decide) ?_
          obtain ⟨r40, c_place_41, c_fault_42, c_faultPlace_43, c_begin_44, v45, hf⟩ := bd5_some hf
          refine gci (va_runV (As := [.int 0, .int 1000]) (rest := [.int (10 + r4), .ref (ad 0)]) ⟨hx, hb, hml, hown, hts⟩ (tX6_takeNumber l dC dI dA ad H.size v45) (ccX6_X6_takeNumber hts ⟨Nat.le_of_ble_eq_true rfl, Nat.le_of_ble_eq_true rfl⟩) (gPreV (ci := 6) (q0 := 0) hP hK hD rfl rfl) rfl rfl hl.1 rfl (lv_room (Nat.le_of_ble_eq_true rfl)) dX6_takeCoupon_86 ⟨Nat.le_of_ble_eq_true rfl, Nat.le_of_ble_eq_true rfl⟩) hD hS hA (fun H locs hP hD hS => ?_)
          obtain ⟨r46, c_draft_terms_47, v48, hf⟩ := bd2_some hf
          refine gci (va_runV (As := [.int (10 + r4), .int r40]) (rest := []) ⟨hx, hb, hml, hown, hts⟩ (tX6_store l dC dI dA ad H.size v48) (ccX6_X6_store hts ⟨Nat.le_of_ble_eq_true rfl, Nat.le_of_ble_eq_true rfl⟩) (gPreV (ci := 6) (q0 := 0) hP hK hD rfl rfl) rfl rfl hl.1 rfl (lv_room (Nat.le_of_ble_eq_true rfl)) dX6_takeCoupon_89 ⟨Nat.le_of_ble_eq_true rfl, Nat.le_of_ble_eq_true rfl⟩) hD hS hA (fun H locs hP hD hS => ?_)
          obtain ⟨h49, hf⟩ := og_some hf
          cases hf
          exact W.zret (ty := .boolean) hx hb hr (boB_nar h49) (fun t ht _ => gqi hP hD hS ht) hS.2.2 dX6_takeCoupon_92
        · replace hf := ifp k39 hf
          refine lv_aload_n hx hb dX6_takeCoupon_69 rfl (lv_at hl 3 rfl) ?_
          refine lv_iconst (v := 3) hx hb dX6_takeCoupon_70 (by decide) ?_
          refine lv_iload_n hx hb dX6_takeCoupon_71 rfl (lv_at hl 1 rfl) ?_
          obtain ⟨r50, c_fault_51, c_faultPlace_52, v53, hf⟩ := bd3_some hf
          refine gci (va_runV (As := [.int 3, .int c_begin_8]) (rest := []) ⟨hx, hb, hml, hown, hts⟩ (tX6_fails l dC dI dA ad H.size v53) (ccX6_X6_fails hts ⟨Nat.le_of_ble_eq_true rfl, Nat.le_of_ble_eq_true rfl⟩) (gPreV (ci := 6) (q0 := 0) hP hK hD rfl rfl) rfl rfl hl.1 rfl (lv_room (Nat.le_of_ble_eq_true rfl)) dX6_takeCoupon_72 ⟨Nat.le_of_ble_eq_true rfl, Nat.le_of_ble_eq_true rfl⟩) hD hS hA (fun H locs hP hD hS => ?_)
          obtain ⟨h54, hf⟩ := og_some hf
          cases hf
          exact W.zret (ty := .boolean) hx hb hr (boB_nar h54) (fun t ht _ => gqi hP hD hS ht) hS.2.2 dX6_takeCoupon_75
  · replace hf := ifn k10 hf
    refine lv_iconst (v := 0) hx hb dX6_takeCoupon_13 (by decide) ?_
    cases hf
    exact W.zret (ty := .boolean) hx hb hr rfl (fun t ht _ => gqi hP hD hS ht) hS.2.2 dX6_takeCoupon_14
def fX6_takeDigit (p1 : Int32) (p2 : Int32) (c_length : Int32) (c_place : Int32) (c_fault : Int32) (c_faultPlace : Int32) (c_bytes : Nat → Int32) : Option (Int32 × Int32 × Int32 × Int32) := bd2 (fX6_look c_length c_place c_bytes) (fun r1 c_place_2 => bd1 (fX6_isDigit r1) (fun r4 => if r4 = 0 then bd3 (fX6_wrong 1 c_place_2 c_fault c_faultPlace) (fun r15 c_fault_16 c_faultPlace_17 => some (r15, c_place_2, c_fault_16, c_faultPlace_17)) else bd1 (fX8_within (r1 - 48) p1 p2) (fun r7 => if r7 = 0 then bd3 (fX6_wrong 3 c_place_2 c_fault c_faultPlace) (fun r11 c_fault_12 c_faultPlace_13 => some (r11, c_place_2, c_fault_12, c_faultPlace_13)) else nm (c_place_2 + 1) (fun w10 => some (r1 - 48, w10, c_fault, c_faultPlace)))))
abbrev rmX6_takeDigit : Room := { frames := 2, cells := 0, slots := 0, locals := 41 }
set_option maxHeartbeats 4000000 in
set_option maxRecDepth 100000 in
theorem tX6_takeDigit (l : Launch) (dC : Nat → ClassId) (dI : Nat → Nat → Nat) (dA : Nat → ClassId) (ad : Nat → Nat) (sz : Nat) {p1 : Int32} {p2 : Int32} {c_size : Int32} {c_length : Int32} {c_place : Int32} {c_fault : Int32} {c_faultPlace : Int32} {c_begin : Int32} {c_bytes : Nat → Int32} {c_draft_terms : Nat → Int32} {r : Int32} {o_c_place : Int32} {o_c_fault : Int32} {o_c_faultPlace : Int32} (hf : fX6_takeDigit p1 p2 c_length c_place c_fault c_faultPlace c_bytes = some (r, o_c_place, o_c_fault, o_c_faultPlace)) : Met l yX6_takeDigit (wq (Cond.code yX6_takeDigit cX6_takeDigit 4 (some .int))) rmX6_takeDigit (gP [.ref (ad 0), .int p1, .int p2] (dC, dI) dA (wX6 dA ad c_size c_length c_place c_fault c_faultPlace c_begin c_bytes c_draft_terms) sz) (gQi (dC, dI) r (wX6 dA ad c_size c_length o_c_place o_c_fault o_c_faultPlace c_begin c_bytes c_draft_terms) (va_A (wX6 dA ad c_size c_length c_place c_fault c_faultPlace c_begin c_bytes c_draft_terms) sz)) 0 0 (va_A (wX6 dA ad c_size c_length c_place c_fault c_faultPlace c_begin c_bytes c_draft_terms) sz) := by
  refine Met.ofW (cc := cX6_takeDigit) (maxL := 4) (ret := (some .int)) (by decide) rfl ?_
  intro p e s m args below meth c s₁ B hml hv
  obtain ⟨rfl, hsz, hP, hK, hD0⟩ := hv
  have hx := B.exec
  have hb := B.bytes
  have hr := B.returns
  have hts := atoms_spec (ws := wq (Cond.code yX6_takeDigit cX6_takeDigit 4 (some .int))) B.pre
  have hown : s.vm.findClass RX6 = some m.cls := findClass_of_methodNamed B.named
  have hlocks := B.notSynchronized
  clear B
  subst hsz
  have hD := hD0.self (sz := s.heap.size)
  generalize hAe : va_A (wX6 dA ad c_size c_length c_place c_fault c_faultPlace c_begin c_bytes c_draft_terms) s.heap.size = A at hD ⊢
  have hA : ∀ q : Nat, s.heap.size ≤ q → A q := fun q h => by rw [← hAe]; exact Or.inr h
  clear hAe hD0
  have hS : va_S A s.heap s.heap [] := va_S.rf
  have hl := lv_entry ([.ref (ad 0), .int p1, .int p2]) (n := 4) (Nat.le_of_ble_eq_true rfl)
  rw [lg_entry_eq]
  generalize (lg_sl ([.ref (ad 0), .int p1, .int p2]) ++ List.replicate (4 - (lg_sl ([.ref (ad 0), .int p1, .int p2])).length) Slot.unset).toArray = ls at hl ⊢
  have hl : lv_has ls 4 [(0, .ref (ad 0)), (1, .int p1), (2, .int p2)] := hl
  change W p l e rmX6_takeDigit s m ([.ref (ad 0), .int p1, .int p2] : List Value).toArray below meth c s.heap [] 0 0 _ _
  unfold fX6_takeDigit at hf
  refine lv_aload_n hx hb dX6_takeDigit_0 rfl (lv_at hl 0 rfl) ?_
  obtain ⟨r1, c_place_2, v3, hf⟩ := bd2_some hf
  refine gci (va_runV (As := []) (rest := []) ⟨hx, hb, hml, hown, hts⟩ (tX6_look l dC dI dA ad s.heap.size v3) (ccX6_X6_look hts ⟨Nat.le_of_ble_eq_true rfl, Nat.le_of_ble_eq_true rfl⟩) (gPreV (ci := 6) (q0 := 0) hP hK hD rfl rfl) rfl rfl hl.1 rfl (lv_room (Nat.le_of_ble_eq_true rfl)) dX6_takeDigit_1 ⟨Nat.le_of_ble_eq_true rfl, Nat.le_of_ble_eq_true rfl⟩) hD hS hA (fun H locs hP hD hS => ?_)
  refine lv_istore_n (lv' := [(3, .int r1), (0, .ref (ad 0)), (1, .int p1), (2, .int p2)]) hx hb dX6_takeDigit_4 rfl hl (by decide) rfl (fun ls hl => ?_)
  refine lv_iload_n hx hb dX6_takeDigit_5 rfl (lv_at hl 0 rfl) ?_
  obtain ⟨r4, v5, hf⟩ := bd1_some hf
  refine gci0 (va_runS (As := [.int r1]) (rest := []) ⟨hx, hb, hml, hown, hts⟩ (tX6_isDigit l dC dI dA H.size v5) (ccX6_X6_isDigit hts ⟨Nat.le_of_ble_eq_true rfl, Nat.le_of_ble_eq_true rfl⟩) (gPreS0 hK) rfl rfl hl.1 rfl (lv_room (Nat.le_of_ble_eq_true rfl)) dX6_takeDigit_6 ⟨Nat.le_of_ble_eq_true rfl, Nat.le_of_ble_eq_true rfl⟩) hP hS hA (fun H locs hP hS => ?_)
  refine lv_if_ne (tgt := 22) hx hb dX6_takeDigit_9 (by decide) (fun k6 => ?_) (fun k6 => ?_)
  · replace hf := ifn k6 hf
    refine lv_iload_n hx hb dX6_takeDigit_22 rfl (lv_at hl 0 rfl) ?_
    refine lv_bipush (v := 48) hx hb dX6_takeDigit_23 (by decide) ?_
    refine lv_isub hx hb dX6_takeDigit_25 ?_
    refine lv_iload_n hx hb dX6_takeDigit_26 rfl (lv_at hl 2 rfl) ?_
    refine lv_iload_n hx hb dX6_takeDigit_27 rfl (lv_at hl 3 rfl) ?_
    obtain ⟨r7, v8, hf⟩ := bd1_some hf
    refine gci0 (va_runSN (As := [.int (r1 - 48), .int p1, .int p2]) (rest := []) ⟨hx, hb, hml, hown, hts⟩ (tX8_within l dC dI dA H.size v8) (ccX6_X8_within hK.2 hts ⟨Nat.le_of_ble_eq_true rfl, Nat.le_of_ble_eq_true rfl⟩) (gPreS0 hK) rfl rfl hl.1 rfl (lv_room (Nat.le_of_ble_eq_true rfl)) dX6_takeDigit_28 ⟨Nat.le_of_ble_eq_true rfl, Nat.le_of_ble_eq_true rfl⟩) hP hS hA (fun H locs hP hS => ?_)
    refine lv_if_ne (tgt := 44) hx hb dX6_takeDigit_31 (by decide) (fun k9 => ?_) (fun k9 => ?_)
    · replace hf := ifn k9 hf
      refine lv_aload_n hx hb dX6_takeDigit_44 rfl (lv_at hl 1 rfl) ?_
      refine lv_dup hx hb dX6_takeDigit_45 rfl ?_
      refine va_get (D := (dC, dI)) (ci := 6) (v := .int c_place_2) (C := RX6) (T := TX6) (N := 8) hx hb hts (fun w h => gw_mem (inX6 w h)) hown hK.1 hP 0 rfl rfl 4 (by decide) (hts _ (gw_mem wfX6_29)) (fun _ h9 => h9) rfl dX6_takeDigit_46 ?_
      refine lv_iconst (v := 1) hx hb dX6_takeDigit_49 (by decide) ?_
      refine lv_iadd hx hb dX6_takeDigit_50 ?_
      refine lv_topi (fun w10 ew10 => ?_)
      replace hf := nm_at hf ew10
      refine va_put (D := (dC, dI)) (ci := 6) (v := .int w10) (ty := .int) (C := RX6) (T := TX6) (N := 8) hx hb hts (fun w h => gw_mem (inX6 w h)) tyX6 tyX6_ok nmX6 hown hK.1 hP hD hS 0 rfl rfl 4 (by decide) (hts _ (gw_mem wfX6_29)) (fun _ h9 => h9) rfl (by decide +kernel) rfl rfl (Nat.le_of_ble_eq_true rfl) dX6_takeDigit_51 (fun H locs hP hD hS => ?_)
      have hP : va_P (dC, dI) vwCl (wX6 dA ad c_size c_length w10 c_fault c_faultPlace c_begin c_bytes c_draft_terms) H := hP
      have hD : va_D A (wX6 dA ad c_size c_length w10 c_fault c_faultPlace c_begin c_bytes c_draft_terms) := hD
      refine lv_iload_n hx hb dX6_takeDigit_54 rfl (lv_at hl 0 rfl) ?_
      refine lv_bipush (v := 48) hx hb dX6_takeDigit_55 (by decide) ?_
      refine lv_isub hx hb dX6_takeDigit_57 ?_
      cases hf
      exact W.iret hx hb hr (fun t ht _ => gqi hP hD hS ht) hS.2.2 dX6_takeDigit_58
    · replace hf := ifp k9 hf
      refine lv_aload_n hx hb dX6_takeDigit_34 rfl (lv_at hl 1 rfl) ?_
      refine lv_iconst (v := 3) hx hb dX6_takeDigit_35 (by decide) ?_
      refine lv_aload_n hx hb dX6_takeDigit_36 rfl (lv_at hl 1 rfl) ?_
      refine va_get (D := (dC, dI)) (ci := 6) (v := .int c_place_2) (C := RX6) (T := TX6) (N := 8) hx hb hts (fun w h => gw_mem (inX6 w h)) hown hK.1 hP 0 rfl rfl 4 (by decide) (hts _ (gw_mem wfX6_29)) (fun _ h9 => h9) rfl dX6_takeDigit_37 ?_
      obtain ⟨r11, c_fault_12, c_faultPlace_13, v14, hf⟩ := bd3_some hf
      refine gci (va_runV (As := [.int 3, .int c_place_2]) (rest := []) ⟨hx, hb, hml, hown, hts⟩ (tX6_wrong l dC dI dA ad H.size v14) (ccX6_X6_wrong hts ⟨Nat.le_of_ble_eq_true rfl, Nat.le_of_ble_eq_true rfl⟩) (gPreV (ci := 6) (q0 := 0) hP hK hD rfl rfl) rfl rfl hl.1 rfl (lv_room (Nat.le_of_ble_eq_true rfl)) dX6_takeDigit_40 ⟨Nat.le_of_ble_eq_true rfl, Nat.le_of_ble_eq_true rfl⟩) hD hS hA (fun H locs hP hD hS => ?_)
      cases hf
      exact W.iret hx hb hr (fun t ht _ => gqi hP hD hS ht) hS.2.2 dX6_takeDigit_43
  · replace hf := ifp k6 hf
    refine lv_aload_n hx hb dX6_takeDigit_12 rfl (lv_at hl 1 rfl) ?_
    refine lv_iconst (v := 1) hx hb dX6_takeDigit_13 (by decide) ?_
    refine lv_aload_n hx hb dX6_takeDigit_14 rfl (lv_at hl 1 rfl) ?_
    refine va_get (D := (dC, dI)) (ci := 6) (v := .int c_place_2) (C := RX6) (T := TX6) (N := 8) hx hb hts (fun w h => gw_mem (inX6 w h)) hown hK.1 hP 0 rfl rfl 4 (by decide) (hts _ (gw_mem wfX6_29)) (fun _ h9 => h9) rfl dX6_takeDigit_15 ?_
    obtain ⟨r15, c_fault_16, c_faultPlace_17, v18, hf⟩ := bd3_some hf
    refine gci (va_runV (As := [.int 1, .int c_place_2]) (rest := []) ⟨hx, hb, hml, hown, hts⟩ (tX6_wrong l dC dI dA ad H.size v18) (ccX6_X6_wrong hts ⟨Nat.le_of_ble_eq_true rfl, Nat.le_of_ble_eq_true rfl⟩) (gPreV (ci := 6) (q0 := 0) hP hK hD rfl rfl) rfl rfl hl.1 rfl (lv_room (Nat.le_of_ble_eq_true rfl)) dX6_takeDigit_18 ⟨Nat.le_of_ble_eq_true rfl, Nat.le_of_ble_eq_true rfl⟩) hD hS hA (fun H locs hP hD hS => ?_)
    cases hf
    exact W.iret hx hb hr (fun t ht _ => gqi hP hD hS ht) hS.2.2 dX6_takeDigit_21
def fX6_takeSign (p1 : Int32) (c_length : Int32) (c_place : Int32) (c_fault : Int32) (c_faultPlace : Int32) (c_bytes : Nat → Int32) : Option (Int32 × Int32 × Int32 × Int32) := bd2 (fX6_look c_length c_place c_bytes) (fun r1 c_place_2 => if r1 = p1 then nm (c_place_2 + 1) (fun w5 => some (1, w5, c_fault, c_faultPlace)) else bd3 (fX6_fails 1 c_place_2 c_fault c_faultPlace) (fun r6 c_fault_7 c_faultPlace_8 => og (boB r6) (some (r6, c_place_2, c_fault_7, c_faultPlace_8))))
abbrev rmX6_takeSign : Room := { frames := 2, cells := 0, slots := 0, locals := 44 }
set_option maxHeartbeats 4000000 in
set_option maxRecDepth 100000 in
theorem tX6_takeSign (l : Launch) (dC : Nat → ClassId) (dI : Nat → Nat → Nat) (dA : Nat → ClassId) (ad : Nat → Nat) (sz : Nat) {p1 : Int32} {c_size : Int32} {c_length : Int32} {c_place : Int32} {c_fault : Int32} {c_faultPlace : Int32} {c_begin : Int32} {c_bytes : Nat → Int32} {c_draft_terms : Nat → Int32} {r : Int32} {o_c_place : Int32} {o_c_fault : Int32} {o_c_faultPlace : Int32} (hf : fX6_takeSign p1 c_length c_place c_fault c_faultPlace c_bytes = some (r, o_c_place, o_c_fault, o_c_faultPlace)) : Met l yX6_takeSign (wq (Cond.code yX6_takeSign cX6_takeSign 2 (some .boolean))) rmX6_takeSign (gP [.ref (ad 0), .int p1] (dC, dI) dA (wX6 dA ad c_size c_length c_place c_fault c_faultPlace c_begin c_bytes c_draft_terms) sz) (gQi (dC, dI) r (wX6 dA ad c_size c_length o_c_place o_c_fault o_c_faultPlace c_begin c_bytes c_draft_terms) (va_A (wX6 dA ad c_size c_length c_place c_fault c_faultPlace c_begin c_bytes c_draft_terms) sz)) 0 0 (va_A (wX6 dA ad c_size c_length c_place c_fault c_faultPlace c_begin c_bytes c_draft_terms) sz) := by
  refine Met.ofW (cc := cX6_takeSign) (maxL := 2) (ret := (some .boolean)) (by decide) rfl ?_
  intro p e s m args below meth c s₁ B hml hv
  obtain ⟨rfl, hsz, hP, hK, hD0⟩ := hv
  have hx := B.exec
  have hb := B.bytes
  have hr := B.returns
  have hts := atoms_spec (ws := wq (Cond.code yX6_takeSign cX6_takeSign 2 (some .boolean))) B.pre
  have hown : s.vm.findClass RX6 = some m.cls := findClass_of_methodNamed B.named
  have hlocks := B.notSynchronized
  clear B
  subst hsz
  have hD := hD0.self (sz := s.heap.size)
  generalize hAe : va_A (wX6 dA ad c_size c_length c_place c_fault c_faultPlace c_begin c_bytes c_draft_terms) s.heap.size = A at hD ⊢
  have hA : ∀ q : Nat, s.heap.size ≤ q → A q := fun q h => by rw [← hAe]; exact Or.inr h
  clear hAe hD0
  have hS : va_S A s.heap s.heap [] := va_S.rf
  have hl := lv_entry ([.ref (ad 0), .int p1]) (n := 2) (Nat.le_of_ble_eq_true rfl)
  rw [lg_entry_eq]
  generalize (lg_sl ([.ref (ad 0), .int p1]) ++ List.replicate (2 - (lg_sl ([.ref (ad 0), .int p1])).length) Slot.unset).toArray = ls at hl ⊢
  have hl : lv_has ls 2 [(0, .ref (ad 0)), (1, .int p1)] := hl
  change W p l e rmX6_takeSign s m ([.ref (ad 0), .int p1] : List Value).toArray below meth c s.heap [] 0 0 _ _
  unfold fX6_takeSign at hf
  refine lv_aload_n hx hb dX6_takeSign_0 rfl (lv_at hl 0 rfl) ?_
  obtain ⟨r1, c_place_2, v3, hf⟩ := bd2_some hf
  refine gci (va_runV (As := []) (rest := []) ⟨hx, hb, hml, hown, hts⟩ (tX6_look l dC dI dA ad s.heap.size v3) (ccX6_X6_look hts ⟨Nat.le_of_ble_eq_true rfl, Nat.le_of_ble_eq_true rfl⟩) (gPreV (ci := 6) (q0 := 0) hP hK hD rfl rfl) rfl rfl hl.1 rfl (lv_room (Nat.le_of_ble_eq_true rfl)) dX6_takeSign_1 ⟨Nat.le_of_ble_eq_true rfl, Nat.le_of_ble_eq_true rfl⟩) hD hS hA (fun H locs hP hD hS => ?_)
  refine lv_iload_n hx hb dX6_takeSign_4 rfl (lv_at hl 1 rfl) ?_
  refine lv_icmp_eq (tgt := 18) hx hb dX6_takeSign_5 (by decide) (fun k4 => ?_) (fun k4 => ?_)
  · replace hf := ifp k4 hf
    refine lv_aload_n hx hb dX6_takeSign_18 rfl (lv_at hl 0 rfl) ?_
    refine lv_dup hx hb dX6_takeSign_19 rfl ?_
    refine va_get (D := (dC, dI)) (ci := 6) (v := .int c_place_2) (C := RX6) (T := TX6) (N := 8) hx hb hts (fun w h => gw_mem (inX6 w h)) hown hK.1 hP 0 rfl rfl 4 (by decide) (hts _ (gw_mem wfX6_29)) (fun _ h9 => h9) rfl dX6_takeSign_20 ?_
    refine lv_iconst (v := 1) hx hb dX6_takeSign_23 (by decide) ?_
    refine lv_iadd hx hb dX6_takeSign_24 ?_
    refine lv_topi (fun w5 ew5 => ?_)
    replace hf := nm_at hf ew5
    refine va_put (D := (dC, dI)) (ci := 6) (v := .int w5) (ty := .int) (C := RX6) (T := TX6) (N := 8) hx hb hts (fun w h => gw_mem (inX6 w h)) tyX6 tyX6_ok nmX6 hown hK.1 hP hD hS 0 rfl rfl 4 (by decide) (hts _ (gw_mem wfX6_29)) (fun _ h9 => h9) rfl (by decide +kernel) rfl rfl (Nat.le_of_ble_eq_true rfl) dX6_takeSign_25 (fun H locs hP hD hS => ?_)
    have hP : va_P (dC, dI) vwCl (wX6 dA ad c_size c_length w5 c_fault c_faultPlace c_begin c_bytes c_draft_terms) H := hP
    have hD : va_D A (wX6 dA ad c_size c_length w5 c_fault c_faultPlace c_begin c_bytes c_draft_terms) := hD
    refine lv_iconst (v := 1) hx hb dX6_takeSign_28 (by decide) ?_
    cases hf
    exact W.zret (ty := .boolean) hx hb hr rfl (fun t ht _ => gqi hP hD hS ht) hS.2.2 dX6_takeSign_29
  · replace hf := ifn k4 hf
    refine lv_aload_n hx hb dX6_takeSign_8 rfl (lv_at hl 0 rfl) ?_
    refine lv_iconst (v := 1) hx hb dX6_takeSign_9 (by decide) ?_
    refine lv_aload_n hx hb dX6_takeSign_10 rfl (lv_at hl 0 rfl) ?_
    refine va_get (D := (dC, dI)) (ci := 6) (v := .int c_place_2) (C := RX6) (T := TX6) (N := 8) hx hb hts (fun w h => gw_mem (inX6 w h)) hown hK.1 hP 0 rfl rfl 4 (by decide) (hts _ (gw_mem wfX6_29)) (fun _ h9 => h9) rfl dX6_takeSign_11 ?_
    obtain ⟨r6, c_fault_7, c_faultPlace_8, v9, hf⟩ := bd3_some hf
    refine gci (va_runV (As := [.int 1, .int c_place_2]) (rest := []) ⟨hx, hb, hml, hown, hts⟩ (tX6_fails l dC dI dA ad H.size v9) (ccX6_X6_fails hts ⟨Nat.le_of_ble_eq_true rfl, Nat.le_of_ble_eq_true rfl⟩) (gPreV (ci := 6) (q0 := 0) hP hK hD rfl rfl) rfl rfl hl.1 rfl (lv_room (Nat.le_of_ble_eq_true rfl)) dX6_takeSign_14 ⟨Nat.le_of_ble_eq_true rfl, Nat.le_of_ble_eq_true rfl⟩) hD hS hA (fun H locs hP hD hS => ?_)
    obtain ⟨h10, hf⟩ := og_some hf
    cases hf
    exact W.zret (ty := .boolean) hx hb hr (boB_nar h10) (fun t ht _ => gqi hP hD hS ht) hS.2.2 dX6_takeSign_17
theorem ccX6_X6_takeSign {R : Room} {s : State} {args : Array Value} {c0 : Cond} (ht : ∀ w ∈ wq c0, w.before args s = true) (hR : rmX6_takeSign.frames + 1 ≤ R.frames ∧ 8 + (2 + 11) + rmX6_takeSign.locals ≤ R.locals) : CallW R s args RX6 RX6 102 yX6_takeSign cX6_takeSign 2 (some .boolean) (wq (.code yX6_takeSign cX6_takeSign 2 (some .boolean))) rmX6_takeSign 0 0 1 := gCW 1 ht wcX6_takeSign wmX6_102 wiX6_takeSign weX6_takeSign wnX6 (by decide +kernel) rfl rfl hR
theorem ccX6_X6_takeDigit {R : Room} {s : State} {args : Array Value} {c0 : Cond} (ht : ∀ w ∈ wq c0, w.before args s = true) (hR : rmX6_takeDigit.frames + 1 ≤ R.frames ∧ 8 + (4 + 11) + rmX6_takeDigit.locals ≤ R.locals) : CallW R s args RX6 RX6 84 yX6_takeDigit cX6_takeDigit 4 (some .int) (wq (.code yX6_takeDigit cX6_takeDigit 4 (some .int))) rmX6_takeDigit 0 0 2 := gCW 2 ht wcX6_takeDigit wmX6_84 wiX6_takeDigit weX6_takeDigit wnX6 (by decide +kernel) rfl rfl hR
def fX6_takeRight (p1 : Int32) (c_length : Int32) (c_place : Int32) (c_fault : Int32) (c_faultPlace : Int32) (c_begin : Int32) (c_bytes : Nat → Int32) (c_draft_terms : Nat → Int32) : Option (Int32 × Int32 × Int32 × Int32 × Int32 × (Nat → Int32)) := bd4 (fX6_takeDigit 0 5 c_length c_place c_fault c_faultPlace c_bytes) (fun r1 c_place_2 c_fault_3 c_faultPlace_4 => if r1 < 0 then some (0, c_place_2, c_fault_3, c_faultPlace_4, c_begin, c_draft_terms) else bd4 (fX6_takeSign 58 c_length c_place_2 c_fault_3 c_faultPlace_4 c_bytes) (fun r7 c_place_8 c_fault_9 c_faultPlace_10 => if r7 = 0 then some (0, c_place_8, c_fault_9, c_faultPlace_10, c_begin, c_draft_terms) else bd2 (fX6_look c_length c_place_8 c_bytes) (fun r13 c_place_14 => if r13 = 45 then nm (c_place_14 + 1) (fun w27 => bd1 (fX0_set (p1 + r1) (-2) c_draft_terms) (fun c_draft_terms_28 => some (1, w27, c_fault_9, c_faultPlace_10, c_begin, c_draft_terms_28))) else bd5 (fX6_takeNumber 0 1000000 c_length c_place_14 c_fault_9 c_faultPlace_10 c_begin c_bytes) (fun r17 c_place_18 c_fault_19 c_faultPlace_20 c_begin_21 => bd2 (fX6_store (p1 + r1) r17 c_draft_terms) (fun r23 c_draft_terms_24 => og (boB r23) (some (r23, c_place_18, c_fault_19, c_faultPlace_20, c_begin_21, c_draft_terms_24)))))))
abbrev rmX6_takeRight : Room := { frames := 3, cells := 0, slots := 0, locals := 67 }
set_option maxHeartbeats 4000000 in
set_option maxRecDepth 100000 in
theorem tX6_takeRight (l : Launch) (dC : Nat → ClassId) (dI : Nat → Nat → Nat) (dA : Nat → ClassId) (ad : Nat → Nat) (sz : Nat) {p1 : Int32} {c_size : Int32} {c_length : Int32} {c_place : Int32} {c_fault : Int32} {c_faultPlace : Int32} {c_begin : Int32} {c_bytes : Nat → Int32} {c_draft_terms : Nat → Int32} {r : Int32} {o_c_place : Int32} {o_c_fault : Int32} {o_c_faultPlace : Int32} {o_c_begin : Int32} {o_c_draft_terms : Nat → Int32} (hf : fX6_takeRight p1 c_length c_place c_fault c_faultPlace c_begin c_bytes c_draft_terms = some (r, o_c_place, o_c_fault, o_c_faultPlace, o_c_begin, o_c_draft_terms)) : Met l yX6_takeRight (wq (Cond.code yX6_takeRight cX6_takeRight 3 (some .boolean))) rmX6_takeRight (gP [.ref (ad 0), .int p1] (dC, dI) dA (wX6 dA ad c_size c_length c_place c_fault c_faultPlace c_begin c_bytes c_draft_terms) sz) (gQi (dC, dI) r (wX6 dA ad c_size c_length o_c_place o_c_fault o_c_faultPlace o_c_begin c_bytes o_c_draft_terms) (va_A (wX6 dA ad c_size c_length c_place c_fault c_faultPlace c_begin c_bytes c_draft_terms) sz)) 0 0 (va_A (wX6 dA ad c_size c_length c_place c_fault c_faultPlace c_begin c_bytes c_draft_terms) sz) := by
  refine Met.ofW (cc := cX6_takeRight) (maxL := 3) (ret := (some .boolean)) (by decide) rfl ?_
  intro p e s m args below meth c s₁ B hml hv
  obtain ⟨rfl, hsz, hP, hK, hD0⟩ := hv
  have hx := B.exec
  have hb := B.bytes
  have hr := B.returns
  have hts := atoms_spec (ws := wq (Cond.code yX6_takeRight cX6_takeRight 3 (some .boolean))) B.pre
  have hown : s.vm.findClass RX6 = some m.cls := findClass_of_methodNamed B.named
  have hlocks := B.notSynchronized
  clear B
  subst hsz
  have hD := hD0.self (sz := s.heap.size)
  generalize hAe : va_A (wX6 dA ad c_size c_length c_place c_fault c_faultPlace c_begin c_bytes c_draft_terms) s.heap.size = A at hD ⊢
  have hA : ∀ q : Nat, s.heap.size ≤ q → A q := fun q h => by rw [← hAe]; exact Or.inr h
  clear hAe hD0
  have hS : va_S A s.heap s.heap [] := va_S.rf
  have hl := lv_entry ([.ref (ad 0), .int p1]) (n := 3) (Nat.le_of_ble_eq_true rfl)
  rw [lg_entry_eq]
  generalize (lg_sl ([.ref (ad 0), .int p1]) ++ List.replicate (3 - (lg_sl ([.ref (ad 0), .int p1])).length) Slot.unset).toArray = ls at hl ⊢
  have hl : lv_has ls 3 [(0, .ref (ad 0)), (1, .int p1)] := hl
  change W p l e rmX6_takeRight s m ([.ref (ad 0), .int p1] : List Value).toArray below meth c s.heap [] 0 0 _ _
  unfold fX6_takeRight at hf
  refine lv_aload_n hx hb dX6_takeRight_0 rfl (lv_at hl 0 rfl) ?_
  refine lv_iconst (v := 0) hx hb dX6_takeRight_1 (by decide) ?_
  refine lv_iconst (v := 5) hx hb dX6_takeRight_2 (by decide) ?_
  obtain ⟨r1, c_place_2, c_fault_3, c_faultPlace_4, v5, hf⟩ := bd4_some hf
  refine gci (va_runV (As := [.int 0, .int 5]) (rest := []) ⟨hx, hb, hml, hown, hts⟩ (tX6_takeDigit l dC dI dA ad s.heap.size v5) (ccX6_X6_takeDigit hts ⟨Nat.le_of_ble_eq_true rfl, Nat.le_of_ble_eq_true rfl⟩) (gPreV (ci := 6) (q0 := 0) hP hK hD rfl rfl) rfl rfl hl.1 rfl (lv_room (Nat.le_of_ble_eq_true rfl)) dX6_takeRight_3 ⟨Nat.le_of_ble_eq_true rfl, Nat.le_of_ble_eq_true rfl⟩) hD hS hA (fun H locs hP hD hS => ?_)
  refine lv_istore_n (lv' := [(2, .int r1), (0, .ref (ad 0)), (1, .int p1)]) hx hb dX6_takeRight_6 rfl hl (by decide) rfl (fun ls hl => ?_)
  refine lv_iload_n hx hb dX6_takeRight_7 rfl (lv_at hl 0 rfl) ?_
  refine lv_if_lt (tgt := 20) hx hb dX6_takeRight_8 (by decide) (fun k6 => ?_) (fun k6 => ?_)
  · replace hf := ifp k6 hf
    refine lv_iconst (v := 0) hx hb dX6_takeRight_20 (by decide) ?_
    cases hf
    exact W.zret (ty := .boolean) hx hb hr rfl (fun t ht _ => gqi hP hD hS ht) hS.2.2 dX6_takeRight_21
  · replace hf := ifn k6 hf
    refine lv_aload_n hx hb dX6_takeRight_11 rfl (lv_at hl 1 rfl) ?_
    refine lv_bipush (v := 58) hx hb dX6_takeRight_12 (by decide) ?_
    obtain ⟨r7, c_place_8, c_fault_9, c_faultPlace_10, v11, hf⟩ := bd4_some hf
    refine gci (va_runV (As := [.int 58]) (rest := []) ⟨hx, hb, hml, hown, hts⟩ (tX6_takeSign l dC dI dA ad H.size v11) (ccX6_X6_takeSign hts ⟨Nat.le_of_ble_eq_true rfl, Nat.le_of_ble_eq_true rfl⟩) (gPreV (ci := 6) (q0 := 0) hP hK hD rfl rfl) rfl rfl hl.1 rfl (lv_room (Nat.le_of_ble_eq_true rfl)) dX6_takeRight_14 ⟨Nat.le_of_ble_eq_true rfl, Nat.le_of_ble_eq_true rfl⟩) hD hS hA (fun H locs hP hD hS => ?_)
    refine lv_if_ne (tgt := 22) hx hb dX6_takeRight_17 (by decide) (fun k12 => ?_) (fun k12 => ?_)
    · replace hf := ifn k12 hf
      refine lv_aload_n hx hb dX6_takeRight_22 rfl (lv_at hl 1 rfl) ?_
      obtain ⟨r13, c_place_14, v15, hf⟩ := bd2_some hf
      refine gci (va_runV (As := []) (rest := []) ⟨hx, hb, hml, hown, hts⟩ (tX6_look l dC dI dA ad H.size v15) (ccX6_X6_look hts ⟨Nat.le_of_ble_eq_true rfl, Nat.le_of_ble_eq_true rfl⟩) (gPreV (ci := 6) (q0 := 0) hP hK hD rfl rfl) rfl rfl hl.1 rfl (lv_room (Nat.le_of_ble_eq_true rfl)) dX6_takeRight_23 ⟨Nat.le_of_ble_eq_true rfl, Nat.le_of_ble_eq_true rfl⟩) hD hS hA (fun H locs hP hD hS => ?_)
      refine lv_bipush (v := 45) hx hb dX6_takeRight_26 (by decide) ?_
      refine lv_icmp_ne (tgt := 55) hx hb dX6_takeRight_28 (by decide) (fun k16 => ?_) (fun k16 => ?_)
      · replace hf := ifn k16 hf
        refine lv_aload_n hx hb dX6_takeRight_55 rfl (lv_at hl 1 rfl) ?_
        refine lv_iload_n hx hb dX6_takeRight_56 rfl (lv_at hl 2 rfl) ?_
        refine lv_iload_n hx hb dX6_takeRight_57 rfl (lv_at hl 0 rfl) ?_
        refine lv_iadd hx hb dX6_takeRight_58 ?_
        refine lv_aload_n hx hb dX6_takeRight_59 rfl (lv_at hl 1 rfl) ?_
        refine lv_iconst (v := 0) hx hb dX6_takeRight_60 (by decide) ?_
        refine lv_ldc (v := 1000000) hx hb hown (hts _ (gw_mem wkX6_63)) dX6_takeRight_61 ?_
        obtain ⟨r17, c_place_18, c_fault_19, c_faultPlace_20, c_begin_21, v22, hf⟩ := bd5_some hf
        refine gci (va_runV (As := [.int 0, .int 1000000]) (rest := [.int (p1 + r1), .ref (ad 0)]) ⟨hx, hb, hml, hown, hts⟩ (tX6_takeNumber l dC dI dA ad H.size v22) (ccX6_X6_takeNumber hts ⟨Nat.le_of_ble_eq_true rfl, Nat.le_of_ble_eq_true rfl⟩) (gPreV (ci := 6) (q0 := 0) hP hK hD rfl rfl) rfl rfl hl.1 rfl (lv_room (Nat.le_of_ble_eq_true rfl)) dX6_takeRight_63 ⟨Nat.le_of_ble_eq_true rfl, Nat.le_of_ble_eq_true rfl⟩) hD hS hA (fun H locs hP hD hS => ?_)
        obtain ⟨r23, c_draft_terms_24, v25, hf⟩ := bd2_some hf
        refine gci (va_runV (As := [.int (p1 + r1), .int r17]) (rest := []) ⟨hx, hb, hml, hown, hts⟩ (tX6_store l dC dI dA ad H.size v25) (ccX6_X6_store hts ⟨Nat.le_of_ble_eq_true rfl, Nat.le_of_ble_eq_true rfl⟩) (gPreV (ci := 6) (q0 := 0) hP hK hD rfl rfl) rfl rfl hl.1 rfl (lv_room (Nat.le_of_ble_eq_true rfl)) dX6_takeRight_66 ⟨Nat.le_of_ble_eq_true rfl, Nat.le_of_ble_eq_true rfl⟩) hD hS hA (fun H locs hP hD hS => ?_)
        obtain ⟨h26, hf⟩ := og_some hf
        cases hf
        exact W.zret (ty := .boolean) hx hb hr (boB_nar h26) (fun t ht _ => gqi hP hD hS ht) hS.2.2 dX6_takeRight_69
      · replace hf := ifp k16 hf
        refine lv_aload_n hx hb dX6_takeRight_31 rfl (lv_at hl 1 rfl) ?_
        refine lv_dup hx hb dX6_takeRight_32 rfl ?_
        refine va_get (D := (dC, dI)) (ci := 6) (v := .int c_place_14) (C := RX6) (T := TX6) (N := 8) hx hb hts (fun w h => gw_mem (inX6 w h)) hown hK.1 hP 0 rfl rfl 4 (by decide) (hts _ (gw_mem wfX6_29)) (fun _ h9 => h9) rfl dX6_takeRight_33 ?_
        refine lv_iconst (v := 1) hx hb dX6_takeRight_36 (by decide) ?_
        refine lv_iadd hx hb dX6_takeRight_37 ?_
        refine lv_topi (fun w27 ew27 => ?_)
        replace hf := nm_at hf ew27
        refine va_put (D := (dC, dI)) (ci := 6) (v := .int w27) (ty := .int) (C := RX6) (T := TX6) (N := 8) hx hb hts (fun w h => gw_mem (inX6 w h)) tyX6 tyX6_ok nmX6 hown hK.1 hP hD hS 0 rfl rfl 4 (by decide) (hts _ (gw_mem wfX6_29)) (fun _ h9 => h9) rfl (by decide +kernel) rfl rfl (Nat.le_of_ble_eq_true rfl) dX6_takeRight_38 (fun H locs hP hD hS => ?_)
        have hP : va_P (dC, dI) vwCl (wX6 dA ad c_size c_length w27 c_fault_9 c_faultPlace_10 c_begin c_bytes c_draft_terms) H := hP
        have hD : va_D A (wX6 dA ad c_size c_length w27 c_fault_9 c_faultPlace_10 c_begin c_bytes c_draft_terms) := hD
        refine lv_aload_n hx hb dX6_takeRight_41 rfl (lv_at hl 1 rfl) ?_
        refine va_get (D := (dC, dI)) (ci := 6) (v := .ref (ad 2)) (C := RX6) (T := TX6) (N := 8) hx hb hts (fun w h => gw_mem (inX6 w h)) hown hK.1 hP 0 rfl rfl 2 (by decide) (hts _ (gw_mem wfX6_22)) (fun _ h9 => h9) rfl dX6_takeRight_42 ?_
        refine lv_iload_n hx hb dX6_takeRight_45 rfl (lv_at hl 2 rfl) ?_
        refine lv_iload_n hx hb dX6_takeRight_46 rfl (lv_at hl 0 rfl) ?_
        refine lv_iadd hx hb dX6_takeRight_47 ?_
        refine lv_bipush (v := (-2)) hx hb dX6_takeRight_48 (by decide) ?_
        obtain ⟨c_draft_terms_28, v29, hf⟩ := bd1_some hf
        have z30 : [2, 3].map (fun i => ((wX6 dA ad c_size c_length w27 c_fault_9 c_faultPlace_10 c_begin c_bytes c_draft_terms))[i]?) = ((wX0 dA (fun i => ad (i + 2)) c_draft_terms)).map some := rfl
        refine gpv [2, 3] [0, 1] [0, 1, 2, 3] (wf := (wX6 dA ad c_size c_length w27 c_fault_9 c_faultPlace_10 c_begin c_bytes c_draft_terms_28)) (va_runV (As := [.int (p1 + r1), .int (-2)]) (rest := []) ⟨hx, hb, hml, hown, hts⟩ (tX0_set l dC dI dA (fun i => ad (i + 2)) H.size v29) (ccX6_X0_set hts ⟨Nat.le_of_ble_eq_true rfl, Nat.le_of_ble_eq_true rfl⟩) (gPreV (ci := 1) (q0 := 0) (gsub z30 hP) hK (gsubD z30 (by decide) hD) rfl rfl) rfl rfl hl.1 rfl (lv_room (Nat.le_of_ble_eq_true rfl)) dX6_takeRight_50 ⟨Nat.le_of_ble_eq_true rfl, Nat.le_of_ble_eq_true rfl⟩) hP hD hS hA z30 rfl (by decide) (by decide) (by decide) rfl (fun H locs hP hD hS => ?_)
        refine lv_iconst (v := 1) hx hb dX6_takeRight_53 (by decide) ?_
        cases hf
        exact W.zret (ty := .boolean) hx hb hr rfl (fun t ht _ => gqi hP hD hS ht) hS.2.2 dX6_takeRight_54
    · replace hf := ifp k12 hf
      refine lv_iconst (v := 0) hx hb dX6_takeRight_20 (by decide) ?_
      cases hf
      exact W.zret (ty := .boolean) hx hb hr rfl (fun t ht _ => gqi hP hD hS ht) hS.2.2 dX6_takeRight_21
