theorem ccX4_X7_takeFrom {R : Room} {s : State} {args : Array Value} {c0 : Cond} (ht : ∀ w ∈ wq c0, w.before args s = true) (hR : rmX7_takeFrom.frames + 1 ≤ R.frames ∧ 8 + (2 + 11) + rmX7_takeFrom.locals ≤ R.locals) : CallW R s args RX4 RX7 36 yX7_takeFrom cX7_takeFrom 2 none (wq (.code yX7_takeFrom cX7_takeFrom 2 none)) rmX7_takeFrom 0 0 1 := gCW 1 ht wcX7_takeFrom wmX4_36 wiX7_takeFrom weX7_takeFrom wnX7 (by decide +kernel) rfl rfl hR
theorem ccX4_X0_takeFrom {R : Room} {s : State} {args : Array Value} {c0 : Cond} (ht : ∀ w ∈ wq c0, w.before args s = true) (hR : rmX0_takeFrom.frames + 1 ≤ R.frames ∧ 8 + (2 + 11) + rmX0_takeFrom.locals ≤ R.locals) : CallW R s args RX4 RX0 40 yX0_takeFrom cX0_takeFrom 2 none (wq (.code yX0_takeFrom cX0_takeFrom 2 none)) rmX0_takeFrom 0 0 1 := gCW 1 ht wcX0_takeFrom wmX4_40 wiX0_takeFrom weX0_takeFrom wnX0 (by decide +kernel) rfl rfl hR
theorem ccX4_X3_takeFrom {R : Room} {s : State} {args : Array Value} {c0 : Cond} (ht : ∀ w ∈ wq c0, w.before args s = true) (hR : rmX3_takeFrom.frames + 1 ≤ R.frames ∧ 8 + (2 + 11) + rmX3_takeFrom.locals ≤ R.locals) : CallW R s args RX4 RX3 43 yX3_takeFrom cX3_takeFrom 2 none (wq (.code yX3_takeFrom cX3_takeFrom 2 none)) rmX3_takeFrom 0 0 1 := gCW 1 ht wcX3_takeFrom wmX4_43 wiX3_takeFrom weX3_takeFrom wnX3 (by decide +kernel) rfl rfl hR
def lpX4_takeFrom_13 (d1_bonds0_terms : Nat → Int32) (d1_bonds1_terms : Nat → Int32) (d1_bonds2_terms : Nat → Int32) : Nat → Int32 → (Nat → Int32) → (Nat → Int32) → (Nat → Int32) → Option ((Nat → Int32) × (Nat → Int32) × (Nat → Int32))
  | 0, _, _, _, _ => none
  | n + 1, x2, c_bonds0_terms, c_bonds1_terms, c_bonds2_terms => if 3 ≤ x2 then some (c_bonds0_terms, c_bonds1_terms, c_bonds2_terms) else og (okI x2 3) (if x2 = 0 then og (okI x2 3) (if x2 = 0 then bd1 (fX0_takeFrom c_bonds0_terms d1_bonds0_terms) (fun c_bonds0_terms_22 => nm (x2 + 1) (fun w25 => lpX4_takeFrom_13 d1_bonds0_terms d1_bonds1_terms d1_bonds2_terms n w25 c_bonds0_terms_22 c_bonds1_terms c_bonds2_terms)) else if x2 = 1 then bd1 (fX0_takeFrom c_bonds0_terms d1_bonds1_terms) (fun c_bonds0_terms_27 => nm (x2 + 1) (fun w30 => lpX4_takeFrom_13 d1_bonds0_terms d1_bonds1_terms d1_bonds2_terms n w30 c_bonds0_terms_27 c_bonds1_terms c_bonds2_terms)) else bd1 (fX0_takeFrom c_bonds0_terms d1_bonds2_terms) (fun c_bonds0_terms_31 => nm (x2 + 1) (fun w34 => lpX4_takeFrom_13 d1_bonds0_terms d1_bonds1_terms d1_bonds2_terms n w34 c_bonds0_terms_31 c_bonds1_terms c_bonds2_terms))) else if x2 = 1 then og (okI x2 3) (if x2 = 0 then bd1 (fX0_takeFrom c_bonds1_terms d1_bonds0_terms) (fun c_bonds1_terms_38 => nm (x2 + 1) (fun w41 => lpX4_takeFrom_13 d1_bonds0_terms d1_bonds1_terms d1_bonds2_terms n w41 c_bonds0_terms c_bonds1_terms_38 c_bonds2_terms)) else if x2 = 1 then bd1 (fX0_takeFrom c_bonds1_terms d1_bonds1_terms) (fun c_bonds1_terms_43 => nm (x2 + 1) (fun w46 => lpX4_takeFrom_13 d1_bonds0_terms d1_bonds1_terms d1_bonds2_terms n w46 c_bonds0_terms c_bonds1_terms_43 c_bonds2_terms)) else bd1 (fX0_takeFrom c_bonds1_terms d1_bonds2_terms) (fun c_bonds1_terms_47 => nm (x2 + 1) (fun w50 => lpX4_takeFrom_13 d1_bonds0_terms d1_bonds1_terms d1_bonds2_terms n w50 c_bonds0_terms c_bonds1_terms_47 c_bonds2_terms))) else og (okI x2 3) (if x2 = 0 then bd1 (fX0_takeFrom c_bonds2_terms d1_bonds0_terms) (fun c_bonds2_terms_53 => nm (x2 + 1) (fun w56 => lpX4_takeFrom_13 d1_bonds0_terms d1_bonds1_terms d1_bonds2_terms n w56 c_bonds0_terms c_bonds1_terms c_bonds2_terms_53)) else if x2 = 1 then bd1 (fX0_takeFrom c_bonds2_terms d1_bonds1_terms) (fun c_bonds2_terms_58 => nm (x2 + 1) (fun w61 => lpX4_takeFrom_13 d1_bonds0_terms d1_bonds1_terms d1_bonds2_terms n w61 c_bonds0_terms c_bonds1_terms c_bonds2_terms_58)) else bd1 (fX0_takeFrom c_bonds2_terms d1_bonds2_terms) (fun c_bonds2_terms_62 => nm (x2 + 1) (fun w65 => lpX4_takeFrom_13 d1_bonds0_terms d1_bonds1_terms d1_bonds2_terms n w65 c_bonds0_terms c_bonds1_terms c_bonds2_terms_62))))
def fX4_takeFrom (c_row : Int32) (c_tree_parts : Nat → Int32) (c_bonds0_terms : Nat → Int32) (c_bonds1_terms : Nat → Int32) (c_bonds2_terms : Nat → Int32) (c_hand_opened : Int32) (c_hand_over : Int32) (c_hand_row : Int32) (c_hand_paid : Int64) (c_hand_regret : Int64) (c_hand_tree_parts : Nat → Int32) (c_hand_bond_terms : Nat → Int32) (d1_row : Int32) (d1_tree_parts : Nat → Int32) (d1_bonds0_terms : Nat → Int32) (d1_bonds1_terms : Nat → Int32) (d1_bonds2_terms : Nat → Int32) (d1_hand_opened : Int32) (d1_hand_over : Int32) (d1_hand_row : Int32) (d1_hand_paid : Int64) (d1_hand_regret : Int64) (d1_hand_tree_parts : Nat → Int32) (d1_hand_bond_terms : Nat → Int32) : Option (Int32 × (Nat → Int32) × (Nat → Int32) × (Nat → Int32) × (Nat → Int32) × Int32 × Int32 × Int32 × Int64 × Int64 × (Nat → Int32) × (Nat → Int32)) := bd1 (fX7_takeFrom c_tree_parts d1_tree_parts) (fun c_tree_parts_1 => bd3 (lpX4_takeFrom_13 d1_bonds0_terms d1_bonds1_terms d1_bonds2_terms FU 0 c_bonds0_terms c_bonds1_terms c_bonds2_terms) (fun c_bonds0_terms_4 c_bonds1_terms_5 c_bonds2_terms_6 => bd7 (fX3_takeFrom c_hand_opened c_hand_over c_hand_row c_hand_paid c_hand_regret c_hand_tree_parts c_hand_bond_terms d1_hand_opened d1_hand_over d1_hand_row d1_hand_paid d1_hand_regret d1_hand_tree_parts d1_hand_bond_terms) (fun c_hand_opened_8 c_hand_over_9 c_hand_row_10 c_hand_paid_11 c_hand_regret_12 c_hand_tree_parts_13 c_hand_bond_terms_14 => some (d1_row, c_tree_parts_1, c_bonds0_terms_4, c_bonds1_terms_5, c_bonds2_terms_6, c_hand_opened_8, c_hand_over_9, c_hand_row_10, c_hand_paid_11, c_hand_regret_12, c_hand_tree_parts_13, c_hand_bond_terms_14))))
abbrev rmX4_takeFrom : Room := { frames := 3, cells := 0, slots := 0, locals := 102 }
set_option maxHeartbeats 4000000 in
set_option maxRecDepth 100000 in
theorem tX4_takeFrom (l : Launch) (dC : Nat → ClassId) (dI : Nat → Nat → Nat) (dA : Nat → ClassId) (ad : Nat → Nat) (ad1 : Nat → Nat) (sz : Nat) {c_row : Int32} {c_tree_parts : Nat → Int32} {c_bonds0_terms : Nat → Int32} {c_bonds1_terms : Nat → Int32} {c_bonds2_terms : Nat → Int32} {c_hand_opened : Int32} {c_hand_over : Int32} {c_hand_row : Int32} {c_hand_paid : Int64} {c_hand_regret : Int64} {c_hand_tree_parts : Nat → Int32} {c_hand_bond_terms : Nat → Int32} {d1_row : Int32} {d1_tree_parts : Nat → Int32} {d1_bonds0_terms : Nat → Int32} {d1_bonds1_terms : Nat → Int32} {d1_bonds2_terms : Nat → Int32} {d1_hand_opened : Int32} {d1_hand_over : Int32} {d1_hand_row : Int32} {d1_hand_paid : Int64} {d1_hand_regret : Int64} {d1_hand_tree_parts : Nat → Int32} {d1_hand_bond_terms : Nat → Int32} {o_c_row : Int32} {o_c_tree_parts : Nat → Int32} {o_c_bonds0_terms : Nat → Int32} {o_c_bonds1_terms : Nat → Int32} {o_c_bonds2_terms : Nat → Int32} {o_c_hand_opened : Int32} {o_c_hand_over : Int32} {o_c_hand_row : Int32} {o_c_hand_paid : Int64} {o_c_hand_regret : Int64} {o_c_hand_tree_parts : Nat → Int32} {o_c_hand_bond_terms : Nat → Int32} (hf : fX4_takeFrom c_row c_tree_parts c_bonds0_terms c_bonds1_terms c_bonds2_terms c_hand_opened c_hand_over c_hand_row c_hand_paid c_hand_regret c_hand_tree_parts c_hand_bond_terms d1_row d1_tree_parts d1_bonds0_terms d1_bonds1_terms d1_bonds2_terms d1_hand_opened d1_hand_over d1_hand_row d1_hand_paid d1_hand_regret d1_hand_tree_parts d1_hand_bond_terms = some (o_c_row, o_c_tree_parts, o_c_bonds0_terms, o_c_bonds1_terms, o_c_bonds2_terms, o_c_hand_opened, o_c_hand_over, o_c_hand_row, o_c_hand_paid, o_c_hand_regret, o_c_hand_tree_parts, o_c_hand_bond_terms)) : Met l yX4_takeFrom (wq (Cond.code yX4_takeFrom cX4_takeFrom 3 none)) rmX4_takeFrom (gP [.ref (ad 0), .ref (ad1 0)] (dC, dI) dA ((wX4 dA ad c_row c_tree_parts c_bonds0_terms c_bonds1_terms c_bonds2_terms c_hand_opened c_hand_over c_hand_row c_hand_paid c_hand_regret c_hand_tree_parts c_hand_bond_terms) ++ (wX4 dA ad1 d1_row d1_tree_parts d1_bonds0_terms d1_bonds1_terms d1_bonds2_terms d1_hand_opened d1_hand_over d1_hand_row d1_hand_paid d1_hand_regret d1_hand_tree_parts d1_hand_bond_terms)) sz) (gQv (dC, dI) ((wX4 dA ad o_c_row o_c_tree_parts o_c_bonds0_terms o_c_bonds1_terms o_c_bonds2_terms o_c_hand_opened o_c_hand_over o_c_hand_row o_c_hand_paid o_c_hand_regret o_c_hand_tree_parts o_c_hand_bond_terms) ++ (wX4 dA ad1 d1_row d1_tree_parts d1_bonds0_terms d1_bonds1_terms d1_bonds2_terms d1_hand_opened d1_hand_over d1_hand_row d1_hand_paid d1_hand_regret d1_hand_tree_parts d1_hand_bond_terms)) (va_A ((wX4 dA ad c_row c_tree_parts c_bonds0_terms c_bonds1_terms c_bonds2_terms c_hand_opened c_hand_over c_hand_row c_hand_paid c_hand_regret c_hand_tree_parts c_hand_bond_terms) ++ (wX4 dA ad1 d1_row d1_tree_parts d1_bonds0_terms d1_bonds1_terms d1_bonds2_terms d1_hand_opened d1_hand_over d1_hand_row d1_hand_paid d1_hand_regret d1_hand_tree_parts d1_hand_bond_terms)) sz)) 0 0 (va_A ((wX4 dA ad c_row c_tree_parts c_bonds0_terms c_bonds1_terms c_bonds2_terms c_hand_opened c_hand_over c_hand_row c_hand_paid c_hand_regret c_hand_tree_parts c_hand_bond_terms) ++ (wX4 dA ad1 d1_row d1_tree_parts d1_bonds0_terms d1_bonds1_terms d1_bonds2_terms d1_hand_opened d1_hand_over d1_hand_row d1_hand_paid d1_hand_regret d1_hand_tree_parts d1_hand_bond_terms)) sz) := by
  refine Met.ofW (cc := cX4_takeFrom) (maxL := 3) (ret := none) (by decide) rfl ?_
  intro p e s m args below meth c s₁ B hml hv
  obtain ⟨rfl, hsz, hP, hK, hD0⟩ := hv
  have hx := B.exec
  have hb := B.bytes
  have hr := B.returns
  have hts := atoms_spec (ws := wq (Cond.code yX4_takeFrom cX4_takeFrom 3 none)) B.pre
  have hown : s.vm.findClass RX4 = some m.cls := findClass_of_methodNamed B.named
  have hlocks := B.notSynchronized
  clear B
  subst hsz
  have hD := hD0.self (sz := s.heap.size)
  generalize hAe : va_A ((wX4 dA ad c_row c_tree_parts c_bonds0_terms c_bonds1_terms c_bonds2_terms c_hand_opened c_hand_over c_hand_row c_hand_paid c_hand_regret c_hand_tree_parts c_hand_bond_terms) ++ (wX4 dA ad1 d1_row d1_tree_parts d1_bonds0_terms d1_bonds1_terms d1_bonds2_terms d1_hand_opened d1_hand_over d1_hand_row d1_hand_paid d1_hand_regret d1_hand_tree_parts d1_hand_bond_terms)) s.heap.size = A at hD ⊢
  have hA : ∀ q : Nat, s.heap.size ≤ q → A q := fun q h => by rw [← hAe]; exact Or.inr h
  clear hAe hD0
  have hS : va_S A s.heap s.heap [] := va_S.rf
  have hl := lv_entry ([.ref (ad 0), .ref (ad1 0)]) (n := 3) (Nat.le_of_ble_eq_true rfl)
  rw [lg_entry_eq]
  generalize (lg_sl ([.ref (ad 0), .ref (ad1 0)]) ++ List.replicate (3 - (lg_sl ([.ref (ad 0), .ref (ad1 0)])).length) Slot.unset).toArray = ls at hl ⊢
  have hl : lv_has ls 3 [(0, .ref (ad 0)), (1, .ref (ad1 0))] := hl
  change W p l e rmX4_takeFrom s m ([.ref (ad 0), .ref (ad1 0)] : List Value).toArray below meth c s.heap [] 0 0 _ _
  generalize hQ : MQ below (gQv (dC, dI) ((wX4 dA ad o_c_row o_c_tree_parts o_c_bonds0_terms o_c_bonds1_terms o_c_bonds2_terms o_c_hand_opened o_c_hand_over o_c_hand_row o_c_hand_paid o_c_hand_regret o_c_hand_tree_parts o_c_hand_bond_terms) ++ (wX4 dA ad1 d1_row d1_tree_parts d1_bonds0_terms d1_bonds1_terms d1_bonds2_terms d1_hand_opened d1_hand_over d1_hand_row d1_hand_paid d1_hand_regret d1_hand_tree_parts d1_hand_bond_terms)) A) ([.ref (ad 0), .ref (ad1 0)] : List Value).toArray s 0 0 A = Q
  have LP13 : ∀ (n : Nat) (d1_bonds0_terms : Nat → Int32) (d1_bonds1_terms : Nat → Int32) (d1_bonds2_terms : Nat → Int32) (c_row : Int32) (c_tree_parts : Nat → Int32) (c_hand_opened : Int32) (c_hand_over : Int32) (c_hand_row : Int32) (c_hand_paid : Int64) (c_hand_regret : Int64) (c_hand_tree_parts : Nat → Int32) (c_hand_bond_terms : Nat → Int32) (d1_row : Int32) (d1_tree_parts : Nat → Int32) (d1_hand_opened : Int32) (d1_hand_over : Int32) (d1_hand_row : Int32) (d1_hand_paid : Int64) (d1_hand_regret : Int64) (d1_hand_tree_parts : Nat → Int32) (d1_hand_bond_terms : Nat → Int32) (x2 : Int32) (c_bonds0_terms : Nat → Int32) (c_bonds1_terms : Nat → Int32) (c_bonds2_terms : Nat → Int32) (o_c_bonds0_terms : Nat → Int32) (o_c_bonds1_terms : Nat → Int32) (o_c_bonds2_terms : Nat → Int32) (H : Heap) (locs : List Loc) (ls : Array Slot), va_P (dC, dI) vwCl ((wX4 dA ad c_row c_tree_parts c_bonds0_terms c_bonds1_terms c_bonds2_terms c_hand_opened c_hand_over c_hand_row c_hand_paid c_hand_regret c_hand_tree_parts c_hand_bond_terms) ++ (wX4 dA ad1 d1_row d1_tree_parts d1_bonds0_terms d1_bonds1_terms d1_bonds2_terms d1_hand_opened d1_hand_over d1_hand_row d1_hand_paid d1_hand_regret d1_hand_tree_parts d1_hand_bond_terms)) H → va_D A ((wX4 dA ad c_row c_tree_parts c_bonds0_terms c_bonds1_terms c_bonds2_terms c_hand_opened c_hand_over c_hand_row c_hand_paid c_hand_regret c_hand_tree_parts c_hand_bond_terms) ++ (wX4 dA ad1 d1_row d1_tree_parts d1_bonds0_terms d1_bonds1_terms d1_bonds2_terms d1_hand_opened d1_hand_over d1_hand_row d1_hand_paid d1_hand_regret d1_hand_tree_parts d1_hand_bond_terms)) → va_S A s.heap H locs → lpX4_takeFrom_13 d1_bonds0_terms d1_bonds1_terms d1_bonds2_terms n x2 c_bonds0_terms c_bonds1_terms c_bonds2_terms = some (o_c_bonds0_terms, o_c_bonds1_terms, o_c_bonds2_terms) → lv_has ls 3 [(0, .ref (ad 0)), (1, .ref (ad1 0)), (2, .int x2)] → (∀ (H : Heap) (locs : List Loc) (ls : Array Slot), va_P (dC, dI) vwCl ((wX4 dA ad c_row c_tree_parts o_c_bonds0_terms o_c_bonds1_terms o_c_bonds2_terms c_hand_opened c_hand_over c_hand_row c_hand_paid c_hand_regret c_hand_tree_parts c_hand_bond_terms) ++ (wX4 dA ad1 d1_row d1_tree_parts d1_bonds0_terms d1_bonds1_terms d1_bonds2_terms d1_hand_opened d1_hand_over d1_hand_row d1_hand_paid d1_hand_regret d1_hand_tree_parts d1_hand_bond_terms)) H → va_D A ((wX4 dA ad c_row c_tree_parts o_c_bonds0_terms o_c_bonds1_terms o_c_bonds2_terms c_hand_opened c_hand_over c_hand_row c_hand_paid c_hand_regret c_hand_tree_parts c_hand_bond_terms) ++ (wX4 dA ad1 d1_row d1_tree_parts d1_bonds0_terms d1_bonds1_terms d1_bonds2_terms d1_hand_opened d1_hand_over d1_hand_row d1_hand_paid d1_hand_regret d1_hand_tree_parts d1_hand_bond_terms)) → va_S A s.heap H locs → lv_has ls 3 [(0, .ref (ad 0)), (1, .ref (ad1 0))] → W p l e rmX4_takeFrom s m ([.ref (ad 0), .ref (ad1 0)] : List Value).toArray below meth c H locs 0 0 Q (F0 m 39 ls [])) → W p l e rmX4_takeFrom s m ([.ref (ad 0), .ref (ad1 0)] : List Value).toArray below meth c H locs 0 0 Q (F0 m 13 ls []) := by
    intro n
    induction n with
    | zero =>
      intro d1_bonds0_terms d1_bonds1_terms d1_bonds2_terms c_row c_tree_parts c_hand_opened c_hand_over c_hand_row c_hand_paid c_hand_regret c_hand_tree_parts c_hand_bond_terms d1_row d1_tree_parts d1_hand_opened d1_hand_over d1_hand_row d1_hand_paid d1_hand_regret d1_hand_tree_parts d1_hand_bond_terms x2 c_bonds0_terms c_bonds1_terms c_bonds2_terms o_c_bonds0_terms o_c_bonds1_terms o_c_bonds2_terms H locs ls hP hD hS hf hl hk
      cases hf
    | succ n ih13 =>
      intro d1_bonds0_terms d1_bonds1_terms d1_bonds2_terms c_row c_tree_parts c_hand_opened c_hand_over c_hand_row c_hand_paid c_hand_regret c_hand_tree_parts c_hand_bond_terms d1_row d1_tree_parts d1_hand_opened d1_hand_over d1_hand_row d1_hand_paid d1_hand_regret d1_hand_tree_parts d1_hand_bond_terms x2 c_bonds0_terms c_bonds1_terms c_bonds2_terms o_c_bonds0_terms o_c_bonds1_terms o_c_bonds2_terms H locs ls hP hD hS hf hl hk
      rw [lpX4_takeFrom_13.eq_2] at hf
      refine lv_iload_n hx hb dX4_takeFrom_13 rfl (lv_at hl 2 rfl) ?_
      refine lv_iconst (v := 3) hx hb dX4_takeFrom_14 (by decide) ?_
      refine lv_icmp_ge (tgt := 39) hx hb dX4_takeFrom_15 (by decide) (fun k17 => ?_) (fun k17 => ?_)
      · replace hf := ifp k17 hf
        cases hf
        exact hk _ _ _ hP hD hS (lv_sub hl [0, 1] rfl)
      · replace hf := ifn k17 hf
        refine lv_aload_n hx hb dX4_takeFrom_18 rfl (lv_at hl 0 rfl) ?_
        refine va_get (D := (dC, dI)) (ci := 4) (v := .ref (ad 3)) (C := RX4) (T := TX4) (N := 4) hx hb hts (fun w h => gw_mem (inX4 w h)) hown hK.1 hP 0 rfl rfl 1 (by decide) (hts _ (gw_mem wfX4_21)) (fun _ h9 => h9) rfl dX4_takeFrom_19 ?_
        refine lv_iload_n hx hb dX4_takeFrom_22 rfl (lv_at hl 2 rfl) ?_
        obtain ⟨h18, hf⟩ := og_some hf
        by_cases k19 : x2 = 0
        · replace hf := ifp k19 hf
          refine tb_ald hx hb hK.1 hP 3 3 rfl rfl (okI_in h18) (by rw [k19]; rfl) (rfl : _ = some (ad 4)) dX4_takeFrom_23 ?_
          refine lv_aload_n hx hb dX4_takeFrom_24 rfl (lv_at hl 1 rfl) ?_
          refine va_get (D := (dC, dI)) (ci := 4) (v := .ref (ad1 3)) (C := RX4) (T := TX4) (N := 4) hx hb hts (fun w h => gw_mem (inX4 w h)) hown hK.1 hP 15 rfl rfl 1 (by decide) (hts _ (gw_mem wfX4_21)) (fun _ h9 => h9) rfl dX4_takeFrom_25 ?_
          refine lv_iload_n hx hb dX4_takeFrom_28 rfl (lv_at hl 2 rfl) ?_
          obtain ⟨h20, hf⟩ := og_some hf
          by_cases k21 : x2 = 0
          · replace hf := ifp k21 hf
            refine tb_ald hx hb hK.1 hP 18 3 rfl rfl (okI_in h20) (by rw [k21]; rfl) (rfl : _ = some (ad1 4)) dX4_takeFrom_29 ?_
            obtain ⟨c_bonds0_terms_22, v23, hf⟩ := bd1_some hf
            have z24 : [4, 5, 19, 20].map (fun i => (((wX4 dA ad c_row c_tree_parts c_bonds0_terms c_bonds1_terms c_bonds2_terms c_hand_opened c_hand_over c_hand_row c_hand_paid c_hand_regret c_hand_tree_parts c_hand_bond_terms) ++ (wX4 dA ad1 d1_row d1_tree_parts d1_bonds0_terms d1_bonds1_terms d1_bonds2_terms d1_hand_opened d1_hand_over d1_hand_row d1_hand_paid d1_hand_regret d1_hand_tree_parts d1_hand_bond_terms)))[i]?) = (((wX0 dA (fun i => ad (i + 4)) c_bonds0_terms) ++ (wX0 dA (fun i => ad1 (i + 4)) d1_bonds0_terms))).map some := rfl
            refine gpv [4, 5, 19, 20] [0, 1, 2, 3, 6, 7, 8, 9, 10, 11, 12, 13, 14, 15, 16, 17, 18, 21, 22, 23, 24, 25, 26, 27, 28, 29] [0, 1, 2, 3, 26, 27, 4, 5, 6, 7, 8, 9, 10, 11, 12, 13, 14, 15, 16, 28, 29, 17, 18, 19, 20, 21, 22, 23, 24, 25] (wf := ((wX4 dA ad c_row c_tree_parts c_bonds0_terms_22 c_bonds1_terms c_bonds2_terms c_hand_opened c_hand_over c_hand_row c_hand_paid c_hand_regret c_hand_tree_parts c_hand_bond_terms) ++ (wX4 dA ad1 d1_row d1_tree_parts d1_bonds0_terms d1_bonds1_terms d1_bonds2_terms d1_hand_opened d1_hand_over d1_hand_row d1_hand_paid d1_hand_regret d1_hand_tree_parts d1_hand_bond_terms))) (va_runV (As := [.ref (ad1 4)]) (rest := []) ⟨hx, hb, hml, hown, hts⟩ (tX0_takeFrom l dC dI dA (fun i => ad (i + 4)) (fun i => ad1 (i + 4)) H.size v23) (ccX4_X0_takeFrom hts ⟨Nat.le_of_ble_eq_true rfl, Nat.le_of_ble_eq_true rfl⟩) (gPreV (ci := 1) (q0 := 0) (gsub z24 hP) hK (gsubD z24 (by decide) hD) rfl rfl) rfl rfl hl.1 rfl (lv_room (Nat.le_of_ble_eq_true rfl)) dX4_takeFrom_30 ⟨Nat.le_of_ble_eq_true rfl, Nat.le_of_ble_eq_true rfl⟩) hP hD hS hA z24 rfl (by decide) (by decide) (by decide) rfl (fun H locs hP hD hS => ?_)
            obtain ⟨w25, ew25⟩ : ∃ y : Int32, y = x2 + 1 := ⟨_, rfl⟩
            replace hf := nm_at hf ew25
            refine lv_iinc (v := w25) (lv' := [(2, .int w25), (0, .ref (ad 0)), (1, .ref (ad1 0))]) hx hb dX4_takeFrom_33 hl (k := 2) rfl (by rw [ew25]; rfl) (by decide) rfl (fun ls hl => ?_)
            refine lv_goto (tgt := 13) hx hb dX4_takeFrom_36 (by decide) ?_
            exact ih13 _ _ _ _ _ _ _ _ _ _ _ _ _ _ _ _ _ _ _ _ _ _ _ _ _ _ _ _ _ _ _ hP hD hS hf (lv_sub hl [1, 2, 0] rfl) hk
          · replace hf := ifn k21 hf
            by_cases k26 : x2 = 1
            · replace hf := ifp k26 hf
              refine tb_ald hx hb hK.1 hP 18 3 rfl rfl (okI_in h20) (by rw [k26]; rfl) (rfl : _ = some (ad1 6)) dX4_takeFrom_29 ?_
              obtain ⟨c_bonds0_terms_27, v28, hf⟩ := bd1_some hf
              have z29 : [4, 5, 21, 22].map (fun i => (((wX4 dA ad c_row c_tree_parts c_bonds0_terms c_bonds1_terms c_bonds2_terms c_hand_opened c_hand_over c_hand_row c_hand_paid c_hand_regret c_hand_tree_parts c_hand_bond_terms) ++ (wX4 dA ad1 d1_row d1_tree_parts d1_bonds0_terms d1_bonds1_terms d1_bonds2_terms d1_hand_opened d1_hand_over d1_hand_row d1_hand_paid d1_hand_regret d1_hand_tree_parts d1_hand_bond_terms)))[i]?) = (((wX0 dA (fun i => ad (i + 4)) c_bonds0_terms) ++ (wX0 dA (fun i => ad1 (i + 6)) d1_bonds1_terms))).map some := rfl
              refine gpv [4, 5, 21, 22] [0, 1, 2, 3, 6, 7, 8, 9, 10, 11, 12, 13, 14, 15, 16, 17, 18, 19, 20, 23, 24, 25, 26, 27, 28, 29] [0, 1, 2, 3, 26, 27, 4, 5, 6, 7, 8, 9, 10, 11, 12, 13, 14, 15, 16, 17, 18, 28, 29, 19, 20, 21, 22, 23, 24, 25] (wf := ((wX4 dA ad c_row c_tree_parts c_bonds0_terms_27 c_bonds1_terms c_bonds2_terms c_hand_opened c_hand_over c_hand_row c_hand_paid c_hand_regret c_hand_tree_parts c_hand_bond_terms) ++ (wX4 dA ad1 d1_row d1_tree_parts d1_bonds0_terms d1_bonds1_terms d1_bonds2_terms d1_hand_opened d1_hand_over d1_hand_row d1_hand_paid d1_hand_regret d1_hand_tree_parts d1_hand_bond_terms))) (va_runV (As := [.ref (ad1 6)]) (rest := []) ⟨hx, hb, hml, hown, hts⟩ (tX0_takeFrom l dC dI dA (fun i => ad (i + 4)) (fun i => ad1 (i + 6)) H.size v28) (ccX4_X0_takeFrom hts ⟨Nat.le_of_ble_eq_true rfl, Nat.le_of_ble_eq_true rfl⟩) (gPreV (ci := 1) (q0 := 0) (gsub z29 hP) hK (gsubD z29 (by decide) hD) rfl rfl) rfl rfl hl.1 rfl (lv_room (Nat.le_of_ble_eq_true rfl)) dX4_takeFrom_30 ⟨Nat.le_of_ble_eq_true rfl, Nat.le_of_ble_eq_true rfl⟩) hP hD hS hA z29 rfl (by decide) (by decide) (by decide) rfl (fun H locs hP hD hS => ?_)
              obtain ⟨w30, ew30⟩ : ∃ y : Int32, y = x2 + 1 := ⟨_, rfl⟩
              replace hf := nm_at hf ew30
              refine lv_iinc (v := w30) (lv' := [(2, .int w30), (0, .ref (ad 0)), (1, .ref (ad1 0))]) hx hb dX4_takeFrom_33 hl (k := 2) rfl (by rw [ew30]; rfl) (by decide) rfl (fun ls hl => ?_)
              refine lv_goto (tgt := 13) hx hb dX4_takeFrom_36 (by decide) ?_
              exact ih13 _ _ _ _ _ _ _ _ _ _ _ _ _ _ _ _ _ _ _ _ _ _ _ _ _ _ _ _ _ _ _ hP hD hS hf (lv_sub hl [1, 2, 0] rfl) hk
            · replace hf := ifn k26 hf
              refine tb_ald hx hb hK.1 hP 18 3 rfl rfl (okI_in h20) (tb_is2 h20 k21 k26) (rfl : _ = some (ad1 8)) dX4_takeFrom_29 ?_
              obtain ⟨c_bonds0_terms_31, v32, hf⟩ := bd1_some hf
              have z33 : [4, 5, 23, 24].map (fun i => (((wX4 dA ad c_row c_tree_parts c_bonds0_terms c_bonds1_terms c_bonds2_terms c_hand_opened c_hand_over c_hand_row c_hand_paid c_hand_regret c_hand_tree_parts c_hand_bond_terms) ++ (wX4 dA ad1 d1_row d1_tree_parts d1_bonds0_terms d1_bonds1_terms d1_bonds2_terms d1_hand_opened d1_hand_over d1_hand_row d1_hand_paid d1_hand_regret d1_hand_tree_parts d1_hand_bond_terms)))[i]?) = (((wX0 dA (fun i => ad (i + 4)) c_bonds0_terms) ++ (wX0 dA (fun i => ad1 (i + 8)) d1_bonds2_terms))).map some := rfl
              refine gpv [4, 5, 23, 24] [0, 1, 2, 3, 6, 7, 8, 9, 10, 11, 12, 13, 14, 15, 16, 17, 18, 19, 20, 21, 22, 25, 26, 27, 28, 29] [0, 1, 2, 3, 26, 27, 4, 5, 6, 7, 8, 9, 10, 11, 12, 13, 14, 15, 16, 17, 18, 19, 20, 28, 29, 21, 22, 23, 24, 25] (wf := ((wX4 dA ad c_row c_tree_parts c_bonds0_terms_31 c_bonds1_terms c_bonds2_terms c_hand_opened c_hand_over c_hand_row c_hand_paid c_hand_regret c_hand_tree_parts c_hand_bond_terms) ++ (wX4 dA ad1 d1_row d1_tree_parts d1_bonds0_terms d1_bonds1_terms d1_bonds2_terms d1_hand_opened d1_hand_over d1_hand_row d1_hand_paid d1_hand_regret d1_hand_tree_parts d1_hand_bond_terms))) (va_runV (As := [.ref (ad1 8)]) (rest := []) ⟨hx, hb, hml, hown, hts⟩ (tX0_takeFrom l dC dI dA (fun i => ad (i + 4)) (fun i => ad1 (i + 8)) H.size v32) (ccX4_X0_takeFrom hts ⟨Nat.le_of_ble_eq_true rfl, Nat.le_of_ble_eq_true rfl⟩) (gPreV (ci := 1) (q0 := 0) (gsub z33 hP) hK (gsubD z33 (by decide) hD) rfl rfl) rfl rfl hl.1 rfl (lv_room (Nat.le_of_ble_eq_true rfl)) dX4_takeFrom_30 ⟨Nat.le_of_ble_eq_true rfl, Nat.le_of_ble_eq_true rfl⟩) hP hD hS hA z33 rfl (by decide) (by decide) (by decide) rfl (fun H locs hP hD hS => ?_)
              obtain ⟨w34, ew34⟩ : ∃ y : Int32, y = x2 + 1 := ⟨_, rfl⟩
              replace hf := nm_at hf ew34
              refine lv_iinc (v := w34) (lv' := [(2, .int w34), (0, .ref (ad 0)), (1, .ref (ad1 0))]) hx hb dX4_takeFrom_33 hl (k := 2) rfl (by rw [ew34]; rfl) (by decide) rfl (fun ls hl => ?_)
              refine lv_goto (tgt := 13) hx hb dX4_takeFrom_36 (by decide) ?_
              exact ih13 _ _ _ _ _ _ _ _ _ _ _ _ _ _ _ _ _ _ _ _ _ _ _ _ _ _ _ _ _ _ _ hP hD hS hf (lv_sub hl [1, 2, 0] rfl) hk
        · replace hf := ifn k19 hf
          by_cases k35 : x2 = 1
          · replace hf := ifp k35 hf
            refine tb_ald hx hb hK.1 hP 3 3 rfl rfl (okI_in h18) (by rw [k35]; rfl) (rfl : _ = some (ad 6)) dX4_takeFrom_23 ?_
            refine lv_aload_n hx hb dX4_takeFrom_24 rfl (lv_at hl 1 rfl) ?_
            refine va_get (D := (dC, dI)) (ci := 4) (v := .ref (ad1 3)) (C := RX4) (T := TX4) (N := 4) hx hb hts (fun w h => gw_mem (inX4 w h)) hown hK.1 hP 15 rfl rfl 1 (by decide) (hts _ (gw_mem wfX4_21)) (fun _ h9 => h9) rfl dX4_takeFrom_25 ?_
            refine lv_iload_n hx hb dX4_takeFrom_28 rfl (lv_at hl 2 rfl) ?_
            obtain ⟨h36, hf⟩ := og_some hf
            by_cases k37 : x2 = 0
            · replace hf := ifp k37 hf
              refine tb_ald hx hb hK.1 hP 18 3 rfl rfl (okI_in h36) (by rw [k37]; rfl) (rfl : _ = some (ad1 4)) dX4_takeFrom_29 ?_
              obtain ⟨c_bonds1_terms_38, v39, hf⟩ := bd1_some hf
              have z40 : [6, 7, 19, 20].map (fun i => (((wX4 dA ad c_row c_tree_parts c_bonds0_terms c_bonds1_terms c_bonds2_terms c_hand_opened c_hand_over c_hand_row c_hand_paid c_hand_regret c_hand_tree_parts c_hand_bond_terms) ++ (wX4 dA ad1 d1_row d1_tree_parts d1_bonds0_terms d1_bonds1_terms d1_bonds2_terms d1_hand_opened d1_hand_over d1_hand_row d1_hand_paid d1_hand_regret d1_hand_tree_parts d1_hand_bond_terms)))[i]?) = (((wX0 dA (fun i => ad (i + 6)) c_bonds1_terms) ++ (wX0 dA (fun i => ad1 (i + 4)) d1_bonds0_terms))).map some := rfl
              refine gpv [6, 7, 19, 20] [0, 1, 2, 3, 4, 5, 8, 9, 10, 11, 12, 13, 14, 15, 16, 17, 18, 21, 22, 23, 24, 25, 26, 27, 28, 29] [0, 1, 2, 3, 4, 5, 26, 27, 6, 7, 8, 9, 10, 11, 12, 13, 14, 15, 16, 28, 29, 17, 18, 19, 20, 21, 22, 23, 24, 25] (wf := ((wX4 dA ad c_row c_tree_parts c_bonds0_terms c_bonds1_terms_38 c_bonds2_terms c_hand_opened c_hand_over c_hand_row c_hand_paid c_hand_regret c_hand_tree_parts c_hand_bond_terms) ++ (wX4 dA ad1 d1_row d1_tree_parts d1_bonds0_terms d1_bonds1_terms d1_bonds2_terms d1_hand_opened d1_hand_over d1_hand_row d1_hand_paid d1_hand_regret d1_hand_tree_parts d1_hand_bond_terms))) (va_runV (As := [.ref (ad1 4)]) (rest := []) ⟨hx, hb, hml, hown, hts⟩ (tX0_takeFrom l dC dI dA (fun i => ad (i + 6)) (fun i => ad1 (i + 4)) H.size v39) (ccX4_X0_takeFrom hts ⟨Nat.le_of_ble_eq_true rfl, Nat.le_of_ble_eq_true rfl⟩) (gPreV (ci := 1) (q0 := 0) (gsub z40 hP) hK (gsubD z40 (by decide) hD) rfl rfl) rfl rfl hl.1 rfl (lv_room (Nat.le_of_ble_eq_true rfl)) dX4_takeFrom_30 ⟨Nat.le_of_ble_eq_true rfl, Nat.le_of_ble_eq_true rfl⟩) hP hD hS hA z40 rfl (by decide) (by decide) (by decide) rfl (fun H locs hP hD hS => ?_)
              obtain ⟨w41, ew41⟩ : ∃ y : Int32, y = x2 + 1 := ⟨_, rfl⟩
              replace hf := nm_at hf ew41
              refine lv_iinc (v := w41) (lv' := [(2, .int w41), (0, .ref (ad 0)), (1, .ref (ad1 0))]) hx hb dX4_takeFrom_33 hl (k := 2) rfl (by rw [ew41]; rfl) (by decide) rfl (fun ls hl => ?_)
              refine lv_goto (tgt := 13) hx hb dX4_takeFrom_36 (by decide) ?_
              exact ih13 _ _ _ _ _ _ _ _ _ _ _ _ _ _ _ _ _ _ _ _ _ _ _ _ _ _ _ _ _ _ _ hP hD hS hf (lv_sub hl [1, 2, 0] rfl) hk
            · replace hf := ifn k37 hf
              by_cases k42 : x2 = 1
              · replace hf := ifp k42 hf
                refine tb_ald hx hb hK.1 hP 18 3 rfl rfl (okI_in h36) (by rw [k42]; rfl) (rfl : _ = some (ad1 6)) dX4_takeFrom_29 ?_
                obtain ⟨c_bonds1_terms_43, v44, hf⟩ := bd1_some hf
                have z45 : [6, 7, 21, 22].map (fun i => (((wX4 dA ad c_row c_tree_parts c_bonds0_terms c_bonds1_terms c_bonds2_terms c_hand_opened c_hand_over c_hand_row c_hand_paid c_hand_regret c_hand_tree_parts c_hand_bond_terms) ++ (wX4 dA ad1 d1_row d1_tree_parts d1_bonds0_terms d1_bonds1_terms d1_bonds2_terms d1_hand_opened d1_hand_over d1_hand_row d1_hand_paid d1_hand_regret d1_hand_tree_parts d1_hand_bond_terms)))[i]?) = (((wX0 dA (fun i => ad (i + 6)) c_bonds1_terms) ++ (wX0 dA (fun i => ad1 (i + 6)) d1_bonds1_terms))).map some := rfl
                refine gpv [6, 7, 21, 22] [0, 1, 2, 3, 4, 5, 8, 9, 10, 11, 12, 13, 14, 15, 16, 17, 18, 19, 20, 23, 24, 25, 26, 27, 28, 29] [0, 1, 2, 3, 4, 5, 26, 27, 6, 7, 8, 9, 10, 11, 12, 13, 14, 15, 16, 17, 18, 28, 29, 19, 20, 21, 22, 23, 24, 25] (wf := ((wX4 dA ad c_row c_tree_parts c_bonds0_terms c_bonds1_terms_43 c_bonds2_terms c_hand_opened c_hand_over c_hand_row c_hand_paid c_hand_regret c_hand_tree_parts c_hand_bond_terms) ++ (wX4 dA ad1 d1_row d1_tree_parts d1_bonds0_terms d1_bonds1_terms d1_bonds2_terms d1_hand_opened d1_hand_over d1_hand_row d1_hand_paid d1_hand_regret d1_hand_tree_parts d1_hand_bond_terms))) (va_runV (As := [.ref (ad1 6)]) (rest := []) ⟨hx, hb, hml, hown, hts⟩ (tX0_takeFrom l dC dI dA (fun i => ad (i + 6)) (fun i => ad1 (i + 6)) H.size v44) (ccX4_X0_takeFrom hts ⟨Nat.le_of_ble_eq_true rfl, Nat.le_of_ble_eq_true rfl⟩) (gPreV (ci := 1) (q0 := 0) (gsub z45 hP) hK (gsubD z45 (by decide) hD) rfl rfl) rfl rfl hl.1 rfl (lv_room (Nat.le_of_ble_eq_true rfl)) dX4_takeFrom_30 ⟨Nat.le_of_ble_eq_true rfl, Nat.le_of_ble_eq_true rfl⟩) hP hD hS hA z45 rfl (by decide) (by decide) (by decide) rfl (fun H locs hP hD hS => ?_)
                obtain ⟨w46, ew46⟩ : ∃ y : Int32, y = x2 + 1 := ⟨_, rfl⟩
                replace hf := nm_at hf ew46
                refine lv_iinc (v := w46) (lv' := [(2, .int w46), (0, .ref (ad 0)), (1, .ref (ad1 0))]) hx hb dX4_takeFrom_33 hl (k := 2) rfl (by rw [ew46]; rfl) (by decide) rfl (fun ls hl => ?_)
                refine lv_goto (tgt := 13) hx hb dX4_takeFrom_36 (by decide) ?_
                exact ih13 _ _ _ _ _ _ _ _ _ _ _ _ _ _ _ _ _ _ _ _ _ _ _ _ _ _ _ _ _ _ _ hP hD hS hf (lv_sub hl [1, 2, 0] rfl) hk
              · replace hf := ifn k42 hf
                refine tb_ald hx hb hK.1 hP 18 3 rfl rfl (okI_in h36) (tb_is2 h36 k37 k42) (rfl : _ = some (ad1 8)) dX4_takeFrom_29 ?_
                obtain ⟨c_bonds1_terms_47, v48, hf⟩ := bd1_some hf
                have z49 : [6, 7, 23, 24].map (fun i => (((wX4 dA ad c_row c_tree_parts c_bonds0_terms c_bonds1_terms c_bonds2_terms c_hand_opened c_hand_over c_hand_row c_hand_paid c_hand_regret c_hand_tree_parts c_hand_bond_terms) ++ (wX4 dA ad1 d1_row d1_tree_parts d1_bonds0_terms d1_bonds1_terms d1_bonds2_terms d1_hand_opened d1_hand_over d1_hand_row d1_hand_paid d1_hand_regret d1_hand_tree_parts d1_hand_bond_terms)))[i]?) = (((wX0 dA (fun i => ad (i + 6)) c_bonds1_terms) ++ (wX0 dA (fun i => ad1 (i + 8)) d1_bonds2_terms))).map some := rfl
                refine gpv [6, 7, 23, 24] [0, 1, 2, 3, 4, 5, 8, 9, 10, 11, 12, 13, 14, 15, 16, 17, 18, 19, 20, 21, 22, 25, 26, 27, 28, 29] [0, 1, 2, 3, 4, 5, 26, 27, 6, 7, 8, 9, 10, 11, 12, 13, 14, 15, 16, 17, 18, 19, 20, 28, 29, 21, 22, 23, 24, 25] (wf := ((wX4 dA ad c_row c_tree_parts c_bonds0_terms c_bonds1_terms_47 c_bonds2_terms c_hand_opened c_hand_over c_hand_row c_hand_paid c_hand_regret c_hand_tree_parts c_hand_bond_terms) ++ (wX4 dA ad1 d1_row d1_tree_parts d1_bonds0_terms d1_bonds1_terms d1_bonds2_terms d1_hand_opened d1_hand_over d1_hand_row d1_hand_paid d1_hand_regret d1_hand_tree_parts d1_hand_bond_terms))) (va_runV (As := [.ref (ad1 8)]) (rest := []) ⟨hx, hb, hml, hown, hts⟩ (tX0_takeFrom l dC dI dA (fun i => ad (i + 6)) (fun i => ad1 (i + 8)) H.size v48) (ccX4_X0_takeFrom hts ⟨Nat.le_of_ble_eq_true rfl, Nat.le_of_ble_eq_true rfl⟩) (gPreV (ci := 1) (q0 := 0) (gsub z49 hP) hK (gsubD z49 (by decide) hD) rfl rfl) rfl rfl hl.1 rfl (lv_room (Nat.le_of_ble_eq_true rfl)) dX4_takeFrom_30 ⟨Nat.le_of_ble_eq_true rfl, Nat.le_of_ble_eq_true rfl⟩) hP hD hS hA z49 rfl (by decide) (by decide) (by decide) rfl (fun H locs hP hD hS => ?_)
                obtain ⟨w50, ew50⟩ : ∃ y : Int32, y = x2 + 1 := ⟨_, rfl⟩
                replace hf := nm_at hf ew50
                refine lv_iinc (v := w50) (lv' := [(2, .int w50), (0, .ref (ad 0)), (1, .ref (ad1 0))]) hx hb dX4_takeFrom_33 hl (k := 2) rfl (by rw [ew50]; rfl) (by decide) rfl (fun ls hl => ?_)
                refine lv_goto (tgt := 13) hx hb dX4_takeFrom_36 (by decide) ?_
                exact ih13 _ _ _ _ _ _ _ _ _ _ _ _ _ _ _ _ _ _ _ _ _ _ _ _ _ _ _ _ _ _ _ hP hD hS hf (lv_sub hl [1, 2, 0] rfl) hk
          · replace hf := ifn k35 hf
            refine tb_ald hx hb hK.1 hP 3 3 rfl rfl (okI_in h18) (tb_is2 h18 k19 k35) (rfl : _ = some (ad 8)) dX4_takeFrom_23 ?_
            refine lv_aload_n hx hb dX4_takeFrom_24 rfl (lv_at hl 1 rfl) ?_
            refine va_get (D := (dC, dI)) (ci := 4) (v := .ref (ad1 3)) (C := RX4) (T := TX4) (N := 4) hx hb hts (fun w h => gw_mem (inX4 w h)) hown hK.1 hP 15 rfl rfl 1 (by decide) (hts _ (gw_mem wfX4_21)) (fun _ h9 => h9) rfl dX4_takeFrom_25 ?_
            refine lv_iload_n hx hb dX4_takeFrom_28 rfl (lv_at hl 2 rfl) ?_
            obtain ⟨h51, hf⟩ := og_some hf
            by_cases k52 : x2 = 0
            · replace hf := ifp k52 hf
              refine tb_ald hx hb hK.1 hP 18 3 rfl rfl (okI_in h51) (by rw [k52]; rfl) (rfl : _ = some (ad1 4)) dX4_takeFrom_29 ?_
              obtain ⟨c_bonds2_terms_53, v54, hf⟩ := bd1_some hf
              have z55 : [8, 9, 19, 20].map (fun i => (((wX4 dA ad c_row c_tree_parts c_bonds0_terms c_bonds1_terms c_bonds2_terms c_hand_opened c_hand_over c_hand_row c_hand_paid c_hand_regret c_hand_tree_parts c_hand_bond_terms) ++ (wX4 dA ad1 d1_row d1_tree_parts d1_bonds0_terms d1_bonds1_terms d1_bonds2_terms d1_hand_opened d1_hand_over d1_hand_row d1_hand_paid d1_hand_regret d1_hand_tree_parts d1_hand_bond_terms)))[i]?) = (((wX0 dA (fun i => ad (i + 8)) c_bonds2_terms) ++ (wX0 dA (fun i => ad1 (i + 4)) d1_bonds0_terms))).map some := rfl
              refine gpv [8, 9, 19, 20] [0, 1, 2, 3, 4, 5, 6, 7, 10, 11, 12, 13, 14, 15, 16, 17, 18, 21, 22, 23, 24, 25, 26, 27, 28, 29] [0, 1, 2, 3, 4, 5, 6, 7, 26, 27, 8, 9, 10, 11, 12, 13, 14, 15, 16, 28, 29, 17, 18, 19, 20, 21, 22, 23, 24, 25] (wf := ((wX4 dA ad c_row c_tree_parts c_bonds0_terms c_bonds1_terms c_bonds2_terms_53 c_hand_opened c_hand_over c_hand_row c_hand_paid c_hand_regret c_hand_tree_parts c_hand_bond_terms) ++ (wX4 dA ad1 d1_row d1_tree_parts d1_bonds0_terms d1_bonds1_terms d1_bonds2_terms d1_hand_opened d1_hand_over d1_hand_row d1_hand_paid d1_hand_regret d1_hand_tree_parts d1_hand_bond_terms))) (va_runV (As := [.ref (ad1 4)]) (rest := []) ⟨hx, hb, hml, hown, hts⟩ (tX0_takeFrom l dC dI dA (fun i => ad (i + 8)) (fun i => ad1 (i + 4)) H.size v54) (ccX4_X0_takeFrom hts ⟨Nat.le_of_ble_eq_true rfl, Nat.le_of_ble_eq_true rfl⟩) (gPreV (ci := 1) (q0 := 0) (gsub z55 hP) hK (gsubD z55 (by decide) hD) rfl rfl) rfl rfl hl.1 rfl (lv_room (Nat.le_of_ble_eq_true rfl)) dX4_takeFrom_30 ⟨Nat.le_of_ble_eq_true rfl, Nat.le_of_ble_eq_true rfl⟩) hP hD hS hA z55 rfl (by decide) (by decide) (by decide) rfl (fun H locs hP hD hS => ?_)
              obtain ⟨w56, ew56⟩ : ∃ y : Int32, y = x2 + 1 := ⟨_, rfl⟩
              replace hf := nm_at hf ew56
              refine lv_iinc (v := w56) (lv' := [(2, .int w56), (0, .ref (ad 0)), (1, .ref (ad1 0))]) hx hb dX4_takeFrom_33 hl (k := 2) rfl (by rw [ew56]; rfl) (by decide) rfl (fun ls hl => ?_)
              refine lv_goto (tgt := 13) hx hb dX4_takeFrom_36 (by decide) ?_
              exact ih13 _ _ _ _ _ _ _ _ _ _ _ _ _ _ _ _ _ _ _ _ _ _ _ _ _ _ _ _ _ _ _ hP hD hS hf (lv_sub hl [1, 2, 0] rfl) hk
            · replace hf := ifn k52 hf
              by_cases k57 : x2 = 1
              · replace hf := ifp k57 hf
                refine tb_ald hx hb hK.1 hP 18 3 rfl rfl (okI_in h51) (by rw [k57]; rfl) (rfl : _ = some (ad1 6)) dX4_takeFrom_29 ?_
                obtain ⟨c_bonds2_terms_58, v59, hf⟩ := bd1_some hf
                have z60 : [8, 9, 21, 22].map (fun i => (((wX4 dA ad c_row c_tree_parts c_bonds0_terms c_bonds1_terms c_bonds2_terms c_hand_opened c_hand_over c_hand_row c_hand_paid c_hand_regret c_hand_tree_parts c_hand_bond_terms) ++ (wX4 dA ad1 d1_row d1_tree_parts d1_bonds0_terms d1_bonds1_terms d1_bonds2_terms d1_hand_opened d1_hand_over d1_hand_row d1_hand_paid d1_hand_regret d1_hand_tree_parts d1_hand_bond_terms)))[i]?) = (((wX0 dA (fun i => ad (i + 8)) c_bonds2_terms) ++ (wX0 dA (fun i => ad1 (i + 6)) d1_bonds1_terms))).map some := rfl
                refine gpv [8, 9, 21, 22] [0, 1, 2, 3, 4, 5, 6, 7, 10, 11, 12, 13, 14, 15, 16, 17, 18, 19, 20, 23, 24, 25, 26, 27, 28, 29] [0, 1, 2, 3, 4, 5, 6, 7, 26, 27, 8, 9, 10, 11, 12, 13, 14, 15, 16, 17, 18, 28, 29, 19, 20, 21, 22, 23, 24, 25] (wf := ((wX4 dA ad c_row c_tree_parts c_bonds0_terms c_bonds1_terms c_bonds2_terms_58 c_hand_opened c_hand_over c_hand_row c_hand_paid c_hand_regret c_hand_tree_parts c_hand_bond_terms) ++ (wX4 dA ad1 d1_row d1_tree_parts d1_bonds0_terms d1_bonds1_terms d1_bonds2_terms d1_hand_opened d1_hand_over d1_hand_row d1_hand_paid d1_hand_regret d1_hand_tree_parts d1_hand_bond_terms))) (va_runV (As := [.ref (ad1 6)]) (rest := []) ⟨hx, hb, hml, hown, hts⟩ (tX0_takeFrom l dC dI dA (fun i => ad (i + 8)) (fun i => ad1 (i + 6)) H.size v59) (ccX4_X0_takeFrom hts ⟨Nat.le_of_ble_eq_true rfl, Nat.le_of_ble_eq_true rfl⟩) (gPreV (ci := 1) (q0 := 0) (gsub z60 hP) hK (gsubD z60 (by decide) hD) rfl rfl) rfl rfl hl.1 rfl (lv_room (Nat.le_of_ble_eq_true rfl)) dX4_takeFrom_30 ⟨Nat.le_of_ble_eq_true rfl, Nat.le_of_ble_eq_true rfl⟩) hP hD hS hA z60 rfl (by decide) (by decide) (by decide) rfl (fun H locs hP hD hS => ?_)
                obtain ⟨w61, ew61⟩ : ∃ y : Int32, y = x2 + 1 := ⟨_, rfl⟩
                replace hf := nm_at hf ew61
                refine lv_iinc (v := w61) (lv' := [(2, .int w61), (0, .ref (ad 0)), (1, .ref (ad1 0))]) hx hb dX4_takeFrom_33 hl (k := 2) rfl (by rw [ew61]; rfl) (by decide) rfl (fun ls hl => ?_)
                refine lv_goto (tgt := 13) hx hb dX4_takeFrom_36 (by decide) ?_
                exact ih13 _ _ _ _ _ _ _ _ _ _ _ _ _ _ _ _ _ _ _ _ _ _ _ _ _ _ _ _ _ _ _ hP hD hS hf (lv_sub hl [1, 2, 0] rfl) hk
              · replace hf := ifn k57 hf
                refine tb_ald hx hb hK.1 hP 18 3 rfl rfl (okI_in h51) (tb_is2 h51 k52 k57) (rfl : _ = some (ad1 8)) dX4_takeFrom_29 ?_
                obtain ⟨c_bonds2_terms_62, v63, hf⟩ := bd1_some hf
                have z64 : [8, 9, 23, 24].map (fun i => (((wX4 dA ad c_row c_tree_parts c_bonds0_terms c_bonds1_terms c_bonds2_terms c_hand_opened c_hand_over c_hand_row c_hand_paid c_hand_regret c_hand_tree_parts c_hand_bond_terms) ++ (wX4 dA ad1 d1_row d1_tree_parts d1_bonds0_terms d1_bonds1_terms d1_bonds2_terms d1_hand_opened d1_hand_over d1_hand_row d1_hand_paid d1_hand_regret d1_hand_tree_parts d1_hand_bond_terms)))[i]?) = (((wX0 dA (fun i => ad (i + 8)) c_bonds2_terms) ++ (wX0 dA (fun i => ad1 (i + 8)) d1_bonds2_terms))).map some := rfl
                refine gpv [8, 9, 23, 24] [0, 1, 2, 3, 4, 5, 6, 7, 10, 11, 12, 13, 14, 15, 16, 17, 18, 19, 20, 21, 22, 25, 26, 27, 28, 29] [0, 1, 2, 3, 4, 5, 6, 7, 26, 27, 8, 9, 10, 11, 12, 13, 14, 15, 16, 17, 18, 19, 20, 28, 29, 21, 22, 23, 24, 25] (wf := ((wX4 dA ad c_row c_tree_parts c_bonds0_terms c_bonds1_terms c_bonds2_terms_62 c_hand_opened c_hand_over c_hand_row c_hand_paid c_hand_regret c_hand_tree_parts c_hand_bond_terms) ++ (wX4 dA ad1 d1_row d1_tree_parts d1_bonds0_terms d1_bonds1_terms d1_bonds2_terms d1_hand_opened d1_hand_over d1_hand_row d1_hand_paid d1_hand_regret d1_hand_tree_parts d1_hand_bond_terms))) (va_runV (As := [.ref (ad1 8)]) (rest := []) ⟨hx, hb, hml, hown, hts⟩ (tX0_takeFrom l dC dI dA (fun i => ad (i + 8)) (fun i => ad1 (i + 8)) H.size v63) (ccX4_X0_takeFrom hts ⟨Nat.le_of_ble_eq_true rfl, Nat.le_of_ble_eq_true rfl⟩) (gPreV (ci := 1) (q0 := 0) (gsub z64 hP) hK (gsubD z64 (by decide) hD) rfl rfl) rfl rfl hl.1 rfl (lv_room (Nat.le_of_ble_eq_true rfl)) dX4_takeFrom_30 ⟨Nat.le_of_ble_eq_true rfl, Nat.le_of_ble_eq_true rfl⟩) hP hD hS hA z64 rfl (by decide) (by decide) (by decide) rfl (fun H locs hP hD hS => ?_)
                obtain ⟨w65, ew65⟩ : ∃ y : Int32, y = x2 + 1 := ⟨_, rfl⟩
                replace hf := nm_at hf ew65
                refine lv_iinc (v := w65) (lv' := [(2, .int w65), (0, .ref (ad 0)), (1, .ref (ad1 0))]) hx hb dX4_takeFrom_33 hl (k := 2) rfl (by rw [ew65]; rfl) (by decide) rfl (fun ls hl => ?_)
                refine lv_goto (tgt := 13) hx hb dX4_takeFrom_36 (by decide) ?_
                exact ih13 _ _ _ _ _ _ _ _ _ _ _ _ _ _ _ _ _ _ _ _ _ _ _ _ _ _ _ _ _ _ _ hP hD hS hf (lv_sub hl [1, 2, 0] rfl) hk
  subst hQ
  unfold fX4_takeFrom at hf
  refine lv_aload_n hx hb dX4_takeFrom_0 rfl (lv_at hl 0 rfl) ?_
  refine va_get (D := (dC, dI)) (ci := 4) (v := .ref (ad 1)) (C := RX4) (T := TX4) (N := 4) hx hb hts (fun w h => gw_mem (inX4 w h)) hown hK.1 hP 0 rfl rfl 0 (by decide) (hts _ (gw_mem wfX4_12)) (fun _ h9 => h9) rfl dX4_takeFrom_1 ?_
  refine lv_aload_n hx hb dX4_takeFrom_4 rfl (lv_at hl 1 rfl) ?_
  refine va_get (D := (dC, dI)) (ci := 4) (v := .ref (ad1 1)) (C := RX4) (T := TX4) (N := 4) hx hb hts (fun w h => gw_mem (inX4 w h)) hown hK.1 hP 15 rfl rfl 0 (by decide) (hts _ (gw_mem wfX4_12)) (fun _ h9 => h9) rfl dX4_takeFrom_5 ?_
  obtain ⟨c_tree_parts_1, v2, hf⟩ := bd1_some hf
  have z3 : [1, 2, 16, 17].map (fun i => (((wX4 dA ad c_row c_tree_parts c_bonds0_terms c_bonds1_terms c_bonds2_terms c_hand_opened c_hand_over c_hand_row c_hand_paid c_hand_regret c_hand_tree_parts c_hand_bond_terms) ++ (wX4 dA ad1 d1_row d1_tree_parts d1_bonds0_terms d1_bonds1_terms d1_bonds2_terms d1_hand_opened d1_hand_over d1_hand_row d1_hand_paid d1_hand_regret d1_hand_tree_parts d1_hand_bond_terms)))[i]?) = (((wX7 dA (fun i => ad (i + 1)) c_tree_parts) ++ (wX7 dA (fun i => ad1 (i + 1)) d1_tree_parts))).map some := rfl
  refine gpv [1, 2, 16, 17] [0, 3, 4, 5, 6, 7, 8, 9, 10, 11, 12, 13, 14, 15, 18, 19, 20, 21, 22, 23, 24, 25, 26, 27, 28, 29] [0, 26, 27, 1, 2, 3, 4, 5, 6, 7, 8, 9, 10, 11, 12, 13, 28, 29, 14, 15, 16, 17, 18, 19, 20, 21, 22, 23, 24, 25] (wf := ((wX4 dA ad c_row c_tree_parts_1 c_bonds0_terms c_bonds1_terms c_bonds2_terms c_hand_opened c_hand_over c_hand_row c_hand_paid c_hand_regret c_hand_tree_parts c_hand_bond_terms) ++ (wX4 dA ad1 d1_row d1_tree_parts d1_bonds0_terms d1_bonds1_terms d1_bonds2_terms d1_hand_opened d1_hand_over d1_hand_row d1_hand_paid d1_hand_regret d1_hand_tree_parts d1_hand_bond_terms))) (va_runV (As := [.ref (ad1 1)]) (rest := []) ⟨hx, hb, hml, hown, hts⟩ (tX7_takeFrom l dC dI dA (fun i => ad (i + 1)) (fun i => ad1 (i + 1)) s.heap.size v2) (ccX4_X7_takeFrom hts ⟨Nat.le_of_ble_eq_true rfl, Nat.le_of_ble_eq_true rfl⟩) (gPreV (ci := 7) (q0 := 0) (gsub z3 hP) hK (gsubD z3 (by decide) hD) rfl rfl) rfl rfl hl.1 rfl (lv_room (Nat.le_of_ble_eq_true rfl)) dX4_takeFrom_8 ⟨Nat.le_of_ble_eq_true rfl, Nat.le_of_ble_eq_true rfl⟩) hP hD hS hA z3 rfl (by decide) (by decide) (by decide) rfl (fun H locs hP hD hS => ?_)
  refine lv_iconst (v := 0) hx hb dX4_takeFrom_11 (by decide) ?_
  refine lv_istore_n (lv' := [(2, .int 0), (0, .ref (ad 0)), (1, .ref (ad1 0))]) hx hb dX4_takeFrom_12 rfl hl (by decide) rfl (fun ls hl => ?_)
  obtain ⟨c_bonds0_terms_4, c_bonds1_terms_5, c_bonds2_terms_6, v7, hf⟩ := bd3_some hf
  refine LP13 FU _ _ _ _ _ _ _ _ _ _ _ _ _ _ _ _ _ _ _ _ _ _ _ _ _ _ _ _ _ _ _ hP hD hS v7 (lv_sub hl [1, 2, 0] rfl) (fun H locs ls hP hD hS hl => ?_)
  refine lv_aload_n hx hb dX4_takeFrom_39 rfl (lv_at hl 0 rfl) ?_
  refine va_get (D := (dC, dI)) (ci := 4) (v := .ref (ad 10)) (C := RX4) (T := TX4) (N := 4) hx hb hts (fun w h => gw_mem (inX4 w h)) hown hK.1 hP 0 rfl rfl 2 (by decide) (hts _ (gw_mem wfX4_28)) (fun _ h9 => h9) rfl dX4_takeFrom_40 ?_
  refine lv_aload_n hx hb dX4_takeFrom_43 rfl (lv_at hl 1 rfl) ?_
  refine va_get (D := (dC, dI)) (ci := 4) (v := .ref (ad1 10)) (C := RX4) (T := TX4) (N := 4) hx hb hts (fun w h => gw_mem (inX4 w h)) hown hK.1 hP 15 rfl rfl 2 (by decide) (hts _ (gw_mem wfX4_28)) (fun _ h9 => h9) rfl dX4_takeFrom_44 ?_
  obtain ⟨c_hand_opened_8, c_hand_over_9, c_hand_row_10, c_hand_paid_11, c_hand_regret_12, c_hand_tree_parts_13, c_hand_bond_terms_14, v15, hf⟩ := bd7_some hf
  have z16 : [10, 11, 12, 13, 14, 25, 26, 27, 28, 29].map (fun i => (((wX4 dA ad c_row c_tree_parts_1 c_bonds0_terms_4 c_bonds1_terms_5 c_bonds2_terms_6 c_hand_opened c_hand_over c_hand_row c_hand_paid c_hand_regret c_hand_tree_parts c_hand_bond_terms) ++ (wX4 dA ad1 d1_row d1_tree_parts d1_bonds0_terms d1_bonds1_terms d1_bonds2_terms d1_hand_opened d1_hand_over d1_hand_row d1_hand_paid d1_hand_regret d1_hand_tree_parts d1_hand_bond_terms)))[i]?) = (((wX3 dA (fun i => ad (i + 10)) c_hand_opened c_hand_over c_hand_row c_hand_paid c_hand_regret c_hand_tree_parts c_hand_bond_terms) ++ (wX3 dA (fun i => ad1 (i + 10)) d1_hand_opened d1_hand_over d1_hand_row d1_hand_paid d1_hand_regret d1_hand_tree_parts d1_hand_bond_terms))).map some := rfl
  refine gpv [10, 11, 12, 13, 14, 25, 26, 27, 28, 29] [0, 1, 2, 3, 4, 5, 6, 7, 8, 9, 15, 16, 17, 18, 19, 20, 21, 22, 23, 24] [0, 1, 2, 3, 4, 5, 6, 7, 8, 9, 20, 21, 22, 23, 24, 10, 11, 12, 13, 14, 15, 16, 17, 18, 19, 25, 26, 27, 28, 29] (wf := ((wX4 dA ad c_row c_tree_parts_1 c_bonds0_terms_4 c_bonds1_terms_5 c_bonds2_terms_6 c_hand_opened_8 c_hand_over_9 c_hand_row_10 c_hand_paid_11 c_hand_regret_12 c_hand_tree_parts_13 c_hand_bond_terms_14) ++ (wX4 dA ad1 d1_row d1_tree_parts d1_bonds0_terms d1_bonds1_terms d1_bonds2_terms d1_hand_opened d1_hand_over d1_hand_row d1_hand_paid d1_hand_regret d1_hand_tree_parts d1_hand_bond_terms))) (va_runV (As := [.ref (ad1 10)]) (rest := []) ⟨hx, hb, hml, hown, hts⟩ (tX3_takeFrom l dC dI dA (fun i => ad (i + 10)) (fun i => ad1 (i + 10)) H.size v15) (ccX4_X3_takeFrom hts ⟨Nat.le_of_ble_eq_true rfl, Nat.le_of_ble_eq_true rfl⟩) (gPreV (ci := 3) (q0 := 0) (gsub z16 hP) hK (gsubD z16 (by decide) hD) rfl rfl) rfl rfl hl.1 rfl (lv_room (Nat.le_of_ble_eq_true rfl)) dX4_takeFrom_47 ⟨Nat.le_of_ble_eq_true rfl, Nat.le_of_ble_eq_true rfl⟩) hP hD hS hA z16 rfl (by decide) (by decide) (by decide) rfl (fun H locs hP hD hS => ?_)
  refine lv_aload_n hx hb dX4_takeFrom_50 rfl (lv_at hl 0 rfl) ?_
  refine lv_aload_n hx hb dX4_takeFrom_51 rfl (lv_at hl 1 rfl) ?_
  refine va_get (D := (dC, dI)) (ci := 4) (v := .int d1_row) (C := RX4) (T := TX4) (N := 4) hx hb hts (fun w h => gw_mem (inX4 w h)) hown hK.1 hP 15 rfl rfl 3 (by decide) (hts _ (gw_mem wfX4_32)) (fun _ h9 => h9) rfl dX4_takeFrom_52 ?_
  refine va_put (D := (dC, dI)) (ci := 4) (v := .int d1_row) (ty := .int) (C := RX4) (T := TX4) (N := 4) hx hb hts (fun w h => gw_mem (inX4 w h)) tyX4 tyX4_ok nmX4 hown hK.1 hP hD hS 0 rfl rfl 3 (by decide) (hts _ (gw_mem wfX4_32)) (fun _ h9 => h9) rfl (by decide +kernel) rfl rfl (Nat.le_of_ble_eq_true rfl) dX4_takeFrom_55 (fun H locs hP hD hS => ?_)
  have hP : va_P (dC, dI) vwCl ((wX4 dA ad d1_row c_tree_parts_1 c_bonds0_terms_4 c_bonds1_terms_5 c_bonds2_terms_6 c_hand_opened_8 c_hand_over_9 c_hand_row_10 c_hand_paid_11 c_hand_regret_12 c_hand_tree_parts_13 c_hand_bond_terms_14) ++ (wX4 dA ad1 d1_row d1_tree_parts d1_bonds0_terms d1_bonds1_terms d1_bonds2_terms d1_hand_opened d1_hand_over d1_hand_row d1_hand_paid d1_hand_regret d1_hand_tree_parts d1_hand_bond_terms)) H := hP
  have hD : va_D A ((wX4 dA ad d1_row c_tree_parts_1 c_bonds0_terms_4 c_bonds1_terms_5 c_bonds2_terms_6 c_hand_opened_8 c_hand_over_9 c_hand_row_10 c_hand_paid_11 c_hand_regret_12 c_hand_tree_parts_13 c_hand_bond_terms_14) ++ (wX4 dA ad1 d1_row d1_tree_parts d1_bonds0_terms d1_bonds1_terms d1_bonds2_terms d1_hand_opened d1_hand_over d1_hand_row d1_hand_paid d1_hand_regret d1_hand_tree_parts d1_hand_bond_terms)) := hD
  cases hf
  exact W.vret hx hb hr (fun t ht _ => gqv hP hD hS ht) hS.2.2 dX4_takeFrom_58
theorem ccX5_X7_takeFrom {R : Room} {s : State} {args : Array Value} {c0 : Cond} (ht : ∀ w ∈ wq c0, w.before args s = true) (hR : rmX7_takeFrom.frames + 1 ≤ R.frames ∧ 8 + (2 + 11) + rmX7_takeFrom.locals ≤ R.locals) : CallW R s args RX5 RX7 54 yX7_takeFrom cX7_takeFrom 2 none (wq (.code yX7_takeFrom cX7_takeFrom 2 none)) rmX7_takeFrom 0 0 1 := gCW 1 ht wcX7_takeFrom wmX5_54 wiX7_takeFrom weX7_takeFrom wnX7 (by decide +kernel) rfl rfl hR
theorem ccX5_X0_takeFrom {R : Room} {s : State} {args : Array Value} {c0 : Cond} (ht : ∀ w ∈ wq c0, w.before args s = true) (hR : rmX0_takeFrom.frames + 1 ≤ R.frames ∧ 8 + (2 + 11) + rmX0_takeFrom.locals ≤ R.locals) : CallW R s args RX5 RX0 58 yX0_takeFrom cX0_takeFrom 2 none (wq (.code yX0_takeFrom cX0_takeFrom 2 none)) rmX0_takeFrom 0 0 1 := gCW 1 ht wcX0_takeFrom wmX5_58 wiX0_takeFrom weX0_takeFrom wnX0 (by decide +kernel) rfl rfl hR
def fX5_take (c_tree_parts : Nat → Int32) (c_bond_terms : Nat → Int32) (d1_parts : Nat → Int32) (d2_terms : Nat → Int32) : Option ((Nat → Int32) × (Nat → Int32)) := bd1 (fX7_takeFrom c_tree_parts d1_parts) (fun c_tree_parts_1 => bd1 (fX0_takeFrom c_bond_terms d2_terms) (fun c_bond_terms_4 => some (c_tree_parts_1, c_bond_terms_4)))
abbrev rmX5_take : Room := { frames := 2, cells := 0, slots := 0, locals := 81 }
set_option maxHeartbeats 4000000 in
set_option maxRecDepth 100000 in
theorem tX5_take (l : Launch) (dC : Nat → ClassId) (dI : Nat → Nat → Nat) (dA : Nat → ClassId) (ad : Nat → Nat) (ad1 : Nat → Nat) (ad2 : Nat → Nat) (sz : Nat) {c_tree_parts : Nat → Int32} {c_bond_terms : Nat → Int32} {c_penceByUps : Nat → Int64} {c_pence : Nat → Int64} {c_turned : Nat → Int64} {c_called : Nat → Int64} {c_hold : Nat → Int64} {c_value : Nat → Int64} {c_marks : Nat → Int32} {c_act : Nat → Int32} {c_rowOfKey : Nat → Int32} {d1_parts : Nat → Int32} {d2_terms : Nat → Int32} {o_c_tree_parts : Nat → Int32} {o_c_bond_terms : Nat → Int32} (hf : fX5_take c_tree_parts c_bond_terms d1_parts d2_terms = some (o_c_tree_parts, o_c_bond_terms)) : Met l yX5_take (wq (Cond.code yX5_take cX5_take 3 none)) rmX5_take (gP [.ref (ad 0), .ref (ad1 0), .ref (ad2 0)] (dC, dI) dA ((wX5 dA ad c_tree_parts c_bond_terms c_penceByUps c_pence c_turned c_called c_hold c_value c_marks c_act c_rowOfKey) ++ ((wX7 dA ad1 d1_parts) ++ (wX0 dA ad2 d2_terms))) sz) (gQv (dC, dI) ((wX5 dA ad o_c_tree_parts o_c_bond_terms c_penceByUps c_pence c_turned c_called c_hold c_value c_marks c_act c_rowOfKey) ++ ((wX7 dA ad1 d1_parts) ++ (wX0 dA ad2 d2_terms))) (va_A ((wX5 dA ad c_tree_parts c_bond_terms c_penceByUps c_pence c_turned c_called c_hold c_value c_marks c_act c_rowOfKey) ++ ((wX7 dA ad1 d1_parts) ++ (wX0 dA ad2 d2_terms))) sz)) 0 0 (va_A ((wX5 dA ad c_tree_parts c_bond_terms c_penceByUps c_pence c_turned c_called c_hold c_value c_marks c_act c_rowOfKey) ++ ((wX7 dA ad1 d1_parts) ++ (wX0 dA ad2 d2_terms))) sz) := by
  refine Met.ofW (cc := cX5_take) (maxL := 3) (ret := none) (by decide) rfl ?_
  intro p e s m args below meth c s₁ B hml hv
  obtain ⟨rfl, hsz, hP, hK, hD0⟩ := hv
  have hx := B.exec
  have hb := B.bytes
  have hr := B.returns
  have hts := atoms_spec (ws := wq (Cond.code yX5_take cX5_take 3 none)) B.pre
  have hown : s.vm.findClass RX5 = some m.cls := findClass_of_methodNamed B.named
  have hlocks := B.notSynchronized
  clear B
  subst hsz
  have hD := hD0.self (sz := s.heap.size)
  generalize hAe : va_A ((wX5 dA ad c_tree_parts c_bond_terms c_penceByUps c_pence c_turned c_called c_hold c_value c_marks c_act c_rowOfKey) ++ ((wX7 dA ad1 d1_parts) ++ (wX0 dA ad2 d2_terms))) s.heap.size = A at hD ⊢
  have hA : ∀ q : Nat, s.heap.size ≤ q → A q := fun q h => by rw [← hAe]; exact Or.inr h
  clear hAe hD0
  have hS : va_S A s.heap s.heap [] := va_S.rf
  have hl := lv_entry ([.ref (ad 0), .ref (ad1 0), .ref (ad2 0)]) (n := 3) (Nat.le_of_ble_eq_true rfl)
  rw [lg_entry_eq]
  generalize (lg_sl ([.ref (ad 0), .ref (ad1 0), .ref (ad2 0)]) ++ List.replicate (3 - (lg_sl ([.ref (ad 0), .ref (ad1 0), .ref (ad2 0)])).length) Slot.unset).toArray = ls at hl ⊢
  have hl : lv_has ls 3 [(0, .ref (ad 0)), (1, .ref (ad1 0)), (2, .ref (ad2 0))] := hl
  change W p l e rmX5_take s m ([.ref (ad 0), .ref (ad1 0), .ref (ad2 0)] : List Value).toArray below meth c s.heap [] 0 0 _ _
  unfold fX5_take at hf
  refine lv_aload_n hx hb dX5_take_0 rfl (lv_at hl 0 rfl) ?_
  refine va_get (D := (dC, dI)) (ci := 5) (v := .ref (ad 1)) (C := RX5) (T := TX5) (N := 11) hx hb hts (fun w h => gw_mem (inX5 w h)) hown hK.1 hP 0 rfl rfl 0 (by decide) (hts _ (gw_mem wfX5_12)) (fun _ h9 => h9) rfl dX5_take_1 ?_
  refine lv_aload_n hx hb dX5_take_4 rfl (lv_at hl 1 rfl) ?_
  obtain ⟨c_tree_parts_1, v2, hf⟩ := bd1_some hf
  have z3 : [1, 2, 14, 15].map (fun i => (((wX5 dA ad c_tree_parts c_bond_terms c_penceByUps c_pence c_turned c_called c_hold c_value c_marks c_act c_rowOfKey) ++ ((wX7 dA ad1 d1_parts) ++ (wX0 dA ad2 d2_terms))))[i]?) = (((wX7 dA (fun i => ad (i + 1)) c_tree_parts) ++ (wX7 dA ad1 d1_parts))).map some := rfl
  refine gpv [1, 2, 14, 15] [0, 3, 4, 5, 6, 7, 8, 9, 10, 11, 12, 13, 16, 17] [0, 14, 15, 1, 2, 3, 4, 5, 6, 7, 8, 9, 10, 11, 16, 17, 12, 13] (wf := ((wX5 dA ad c_tree_parts_1 c_bond_terms c_penceByUps c_pence c_turned c_called c_hold c_value c_marks c_act c_rowOfKey) ++ ((wX7 dA ad1 d1_parts) ++ (wX0 dA ad2 d2_terms)))) (va_runV (As := [.ref (ad1 0)]) (rest := []) ⟨hx, hb, hml, hown, hts⟩ (tX7_takeFrom l dC dI dA (fun i => ad (i + 1)) ad1 s.heap.size v2) (ccX5_X7_takeFrom hts ⟨Nat.le_of_ble_eq_true rfl, Nat.le_of_ble_eq_true rfl⟩) (gPreV (ci := 7) (q0 := 0) (gsub z3 hP) hK (gsubD z3 (by decide) hD) rfl rfl) rfl rfl hl.1 rfl (lv_room (Nat.le_of_ble_eq_true rfl)) dX5_take_5 ⟨Nat.le_of_ble_eq_true rfl, Nat.le_of_ble_eq_true rfl⟩) hP hD hS hA z3 rfl (by decide) (by decide) (by decide) rfl (fun H locs hP hD hS => ?_)
  refine lv_aload_n hx hb dX5_take_8 rfl (lv_at hl 0 rfl) ?_
  refine va_get (D := (dC, dI)) (ci := 5) (v := .ref (ad 3)) (C := RX5) (T := TX5) (N := 11) hx hb hts (fun w h => gw_mem (inX5 w h)) hown hK.1 hP 0 rfl rfl 1 (by decide) (hts _ (gw_mem wfX5_21)) (fun _ h9 => h9) rfl dX5_take_9 ?_
  refine lv_aload_n hx hb dX5_take_12 rfl (lv_at hl 2 rfl) ?_
  obtain ⟨c_bond_terms_4, v5, hf⟩ := bd1_some hf
  have z6 : [3, 4, 16, 17].map (fun i => (((wX5 dA ad c_tree_parts_1 c_bond_terms c_penceByUps c_pence c_turned c_called c_hold c_value c_marks c_act c_rowOfKey) ++ ((wX7 dA ad1 d1_parts) ++ (wX0 dA ad2 d2_terms))))[i]?) = (((wX0 dA (fun i => ad (i + 3)) c_bond_terms) ++ (wX0 dA ad2 d2_terms))).map some := rfl
  refine gpv [3, 4, 16, 17] [0, 1, 2, 5, 6, 7, 8, 9, 10, 11, 12, 13, 14, 15] [0, 1, 2, 14, 15, 3, 4, 5, 6, 7, 8, 9, 10, 11, 12, 13, 16, 17] (wf := ((wX5 dA ad c_tree_parts_1 c_bond_terms_4 c_penceByUps c_pence c_turned c_called c_hold c_value c_marks c_act c_rowOfKey) ++ ((wX7 dA ad1 d1_parts) ++ (wX0 dA ad2 d2_terms)))) (va_runV (As := [.ref (ad2 0)]) (rest := []) ⟨hx, hb, hml, hown, hts⟩ (tX0_takeFrom l dC dI dA (fun i => ad (i + 3)) ad2 H.size v5) (ccX5_X0_takeFrom hts ⟨Nat.le_of_ble_eq_true rfl, Nat.le_of_ble_eq_true rfl⟩) (gPreV (ci := 1) (q0 := 0) (gsub z6 hP) hK (gsubD z6 (by decide) hD) rfl rfl) rfl rfl hl.1 rfl (lv_room (Nat.le_of_ble_eq_true rfl)) dX5_take_13 ⟨Nat.le_of_ble_eq_true rfl, Nat.le_of_ble_eq_true rfl⟩) hP hD hS hA z6 rfl (by decide) (by decide) (by decide) rfl (fun H locs hP hD hS => ?_)
  cases hf
  exact W.vret hx hb hr (fun t ht _ => gqv hP hD hS ht) hS.2.2 dX5_take_16
theorem ccX5_X7_lastDay {R : Room} {s : State} {args : Array Value} {c0 : Cond} (ht : ∀ w ∈ wq c0, w.before args s = true) (hR : rmX7_lastDay.frames + 1 ≤ R.frames ∧ 8 + (1 + 11) + rmX7_lastDay.locals ≤ R.locals) : CallW R s args RX5 RX7 61 yX7_lastDay cX7_lastDay 1 (some .int) (wq (.code yX7_lastDay cX7_lastDay 1 (some .int))) rmX7_lastDay 0 0 0 := gCW 0 ht wcX7_lastDay wmX5_61 wiX7_lastDay weX7_lastDay wnX7 (by decide +kernel) rfl rfl hR
def fX5_lastRow (c_tree_parts : Nat → Int32) : Option (Int32) := bd1 (fX7_lastDay c_tree_parts) (fun r1 => some ((if (2 <<< (r1 &&& 31)) < 128 then (2 <<< (r1 &&& 31)) else 128) - 1))
abbrev rmX5_lastRow : Room := { frames := 2, cells := 0, slots := 0, locals := 43 }
set_option maxHeartbeats 4000000 in
set_option maxRecDepth 100000 in
theorem tX5_lastRow (l : Launch) (dC : Nat → ClassId) (dI : Nat → Nat → Nat) (dA : Nat → ClassId) (ad : Nat → Nat) (sz : Nat) {c_tree_parts : Nat → Int32} {c_bond_terms : Nat → Int32} {c_penceByUps : Nat → Int64} {c_pence : Nat → Int64} {c_turned : Nat → Int64} {c_called : Nat → Int64} {c_hold : Nat → Int64} {c_value : Nat → Int64} {c_marks : Nat → Int32} {c_act : Nat → Int32} {c_rowOfKey : Nat → Int32} {r : Int32} (hf : fX5_lastRow c_tree_parts = some (r)) : Met l yX5_lastRow (wq (Cond.code yX5_lastRow cX5_lastRow 1 (some .int))) rmX5_lastRow (gP [.ref (ad 0)] (dC, dI) dA (wX5 dA ad c_tree_parts c_bond_terms c_penceByUps c_pence c_turned c_called c_hold c_value c_marks c_act c_rowOfKey) sz) (gQi (dC, dI) r (wX5 dA ad c_tree_parts c_bond_terms c_penceByUps c_pence c_turned c_called c_hold c_value c_marks c_act c_rowOfKey) (va_A (wX5 dA ad c_tree_parts c_bond_terms c_penceByUps c_pence c_turned c_called c_hold c_value c_marks c_act c_rowOfKey) sz)) 0 0 (va_A (wX5 dA ad c_tree_parts c_bond_terms c_penceByUps c_pence c_turned c_called c_hold c_value c_marks c_act c_rowOfKey) sz) := by
  refine Met.ofW (cc := cX5_lastRow) (maxL := 1) (ret := (some .int)) (by decide) rfl ?_
  intro p e s m args below meth c s₁ B hml hv
  obtain ⟨rfl, hsz, hP, hK, hD0⟩ := hv
  have hx := B.exec
  have hb := B.bytes
  have hr := B.returns
  have hts := atoms_spec (ws := wq (Cond.code yX5_lastRow cX5_lastRow 1 (some .int))) B.pre
  have hown : s.vm.findClass RX5 = some m.cls := findClass_of_methodNamed B.named
  have hlocks := B.notSynchronized
  clear B
  subst hsz
  have hD := hD0.self (sz := s.heap.size)
  generalize hAe : va_A (wX5 dA ad c_tree_parts c_bond_terms c_penceByUps c_pence c_turned c_called c_hold c_value c_marks c_act c_rowOfKey) s.heap.size = A at hD ⊢
  have hA : ∀ q : Nat, s.heap.size ≤ q → A q := fun q h => by rw [← hAe]; exact Or.inr h
  clear hAe hD0
  have hS : va_S A s.heap s.heap [] := va_S.rf
  have hl := lv_entry ([.ref (ad 0)]) (n := 1) (Nat.le_of_ble_eq_true rfl)
  rw [lg_entry_eq]
  generalize (lg_sl ([.ref (ad 0)]) ++ List.replicate (1 - (lg_sl ([.ref (ad 0)])).length) Slot.unset).toArray = ls at hl ⊢
  have hl : lv_has ls 1 [(0, .ref (ad 0))] := hl
  change W p l e rmX5_lastRow s m ([.ref (ad 0)] : List Value).toArray below meth c s.heap [] 0 0 _ _
  unfold fX5_lastRow at hf
  refine lv_sipush (v := 128) hx hb dX5_lastRow_0 (by decide) ?_
  refine lv_iconst (v := 2) hx hb dX5_lastRow_3 (by decide) ?_
  refine lv_aload_n hx hb dX5_lastRow_4 rfl (lv_at hl 0 rfl) ?_
  refine va_get (D := (dC, dI)) (ci := 5) (v := .ref (ad 1)) (C := RX5) (T := TX5) (N := 11) hx hb hts (fun w h => gw_mem (inX5 w h)) hown hK.1 hP 0 rfl rfl 0 (by decide) (hts _ (gw_mem wfX5_12)) (fun _ h9 => h9) rfl dX5_lastRow_5 ?_
  obtain ⟨r1, v2, hf⟩ := bd1_some hf
  have z3 : [1, 2].map (fun i => ((wX5 dA ad c_tree_parts c_bond_terms c_penceByUps c_pence c_turned c_called c_hold c_value c_marks c_act c_rowOfKey))[i]?) = ((wX7 dA (fun i => ad (i + 1)) c_tree_parts)).map some := rfl
  refine gpi [1, 2] [0, 3, 4, 5, 6, 7, 8, 9, 10, 11, 12, 13] [0, 12, 13, 1, 2, 3, 4, 5, 6, 7, 8, 9, 10, 11] (wf := (wX5 dA ad c_tree_parts c_bond_terms c_penceByUps c_pence c_turned c_called c_hold c_value c_marks c_act c_rowOfKey)) (va_runV (As := []) (rest := [.int 2, .int 128]) ⟨hx, hb, hml, hown, hts⟩ (tX7_lastDay l dC dI dA (fun i => ad (i + 1)) s.heap.size v2) (ccX5_X7_lastDay hts ⟨Nat.le_of_ble_eq_true rfl, Nat.le_of_ble_eq_true rfl⟩) (gPreV (ci := 7) (q0 := 0) (gsub z3 hP) hK (gsubD z3 (by decide) hD) rfl rfl) rfl rfl hl.1 rfl (lv_room (Nat.le_of_ble_eq_true rfl)) dX5_lastRow_8 ⟨Nat.le_of_ble_eq_true rfl, Nat.le_of_ble_eq_true rfl⟩) hP hD hS hA z3 rfl (by decide) (by decide) (by decide) rfl (fun H locs hP hD hS => ?_)
  refine lv_ishl hx hb dX5_lastRow_11 ?_
  refine va_mmin hx hb (hml.trans hl.1.symm) hown (hts _ (gw_mem wmX5_65)) (hts _ (gw_mem wtJ9_min_7cf53)) (hts _ (gw_mem wnJ9)) (hts _ (gw_mem wcJ9_min_7cf53)) (Nat.le_of_ble_eq_true rfl) (Nat.le_of_ble_eq_true rfl) (Nat.le_of_ble_eq_true rfl) (Nat.le_of_ble_eq_true rfl) dX5_lastRow_12 ?_
  refine lv_iconst (v := 1) hx hb dX5_lastRow_15 (by decide) ?_
  refine lv_isub hx hb dX5_lastRow_16 ?_
  cases hf
  exact W.iret hx hb hr (fun t ht _ => gqi hP hD hS ht) hS.2.2 dX5_lastRow_17
def fX8_isRow (p0 : Int32) : Option (Int32) := if p0 < 1 then some (0) else if 128 ≤ p0 then some (0) else some (1)
abbrev rmX8_isRow : Room := { frames := 0, cells := 0, slots := 0, locals := 0 }
set_option maxHeartbeats 4000000 in
set_option maxRecDepth 100000 in
theorem tX8_isRow (l : Launch) (dC : Nat → ClassId) (dI : Nat → Nat → Nat) (dA : Nat → ClassId) (sz : Nat) {p0 : Int32} {r : Int32} (hf : fX8_isRow p0 = some (r)) : Met l yX8_isRow (wq (Cond.code yX8_isRow cX8_isRow 1 (some .boolean))) rmX8_isRow (gP [.int p0] (dC, dI) dA [] sz) (gQi (dC, dI) r [] (va_A [] sz)) 0 0 (va_A [] sz) := by
  refine Met.ofW (cc := cX8_isRow) (maxL := 1) (ret := (some .boolean)) (by decide) rfl ?_
  intro p e s m args below meth c s₁ B hml hv
  obtain ⟨rfl, hsz, hP, hK, hD0⟩ := hv
  have hx := B.exec
  have hb := B.bytes
  have hr := B.returns
  have hts := atoms_spec (ws := wq (Cond.code yX8_isRow cX8_isRow 1 (some .boolean))) B.pre
  have hown : s.vm.findClass RX8 = some m.cls := findClass_of_methodNamed B.named
  have hlocks := B.notSynchronized
  clear B
  subst hsz
  have hD := hD0.self (sz := s.heap.size)
  generalize hAe : va_A [] s.heap.size = A at hD ⊢
  have hA : ∀ q : Nat, s.heap.size ≤ q → A q := fun q h => by rw [← hAe]; exact Or.inr h
  clear hAe hD0
  have hS : va_S A s.heap s.heap [] := va_S.rf
  have hl := lv_entry ([.int p0]) (n := 1) (Nat.le_of_ble_eq_true rfl)
  rw [lg_entry_eq]
  generalize (lg_sl ([.int p0]) ++ List.replicate (1 - (lg_sl ([.int p0])).length) Slot.unset).toArray = ls at hl ⊢
  have hl : lv_has ls 1 [(0, .int p0)] := hl
  change W p l e rmX8_isRow s m ([.int p0] : List Value).toArray below meth c s.heap [] 0 0 _ _
  unfold fX8_isRow at hf
  refine lv_iconst (v := 1) hx hb dX8_isRow_0 (by decide) ?_
  refine lv_iload_n hx hb dX8_isRow_1 rfl (lv_at hl 0 rfl) ?_
  refine lv_icmp_gt (tgt := 16) hx hb dX8_isRow_2 (by decide) (fun k1 => ?_) (fun k1 => ?_)
  · replace hf := ifp k1 hf
    refine lv_iconst (v := 0) hx hb dX8_isRow_16 (by decide) ?_
    cases hf
    exact W.zret (ty := .boolean) hx hb hr rfl (fun t ht _ => gqi hP hD hS ht) hS.2.2 dX8_isRow_17
  · replace hf := ifn k1 hf
    refine lv_iload_n hx hb dX8_isRow_5 rfl (lv_at hl 0 rfl) ?_
    refine lv_sipush (v := 128) hx hb dX8_isRow_6 (by decide) ?_
    refine lv_icmp_ge (tgt := 16) hx hb dX8_isRow_9 (by decide) (fun k2 => ?_) (fun k2 => ?_)
    · replace hf := ifp k2 hf
      refine lv_iconst (v := 0) hx hb dX8_isRow_16 (by decide) ?_
      cases hf
      exact W.zret (ty := .boolean) hx hb hr rfl (fun t ht _ => gqi hP hD hS ht) hS.2.2 dX8_isRow_17
    · replace hf := ifn k2 hf
      refine lv_iconst (v := 1) hx hb dX8_isRow_12 (by decide) ?_
      refine lv_goto (tgt := 17) hx hb dX8_isRow_13 (by decide) ?_
      cases hf
      exact W.zret (ty := .boolean) hx hb hr rfl (fun t ht _ => gqi hP hD hS ht) hS.2.2 dX8_isRow_17
theorem ccX5_X8_isRow {R : Room} {s : State} {args : Array Value} {c0 : Cond} (hN : gN s) (ht : ∀ w ∈ wq c0, w.before args s = true) (hR : rmX8_isRow.frames + 1 ≤ R.frames ∧ 8 + (1 + 11) + rmX8_isRow.locals ≤ R.locals) : va_CN R s args RX5 71 yX8_isRow RX8 cX8_isRow 1 (some .boolean) (wq (.code yX8_isRow cX8_isRow 1 (some .boolean))) rmX8_isRow 0 0 1 ∧ (Cond.static yX8_isRow).before args s = true ∧ True := gCSN 1 hN ht wcX8_isRow wmX5_71 wtX8_isRow wnX8 (by decide +kernel) rfl rfl hR
def fX5_valueAt (p1 : Int32) (c_value : Nat → Int64) : Option (Int64) := bd1 (fX8_isRow p1) (fun r1 => if r1 = 0 then some (0) else og (okI p1 128) (some (c_value (Int32.toNatClampNeg p1))))
abbrev rmX5_valueAt : Room := { frames := 1, cells := 0, slots := 0, locals := 20 }
set_option maxHeartbeats 4000000 in
set_option maxRecDepth 100000 in
theorem tX5_valueAt (l : Launch) (dC : Nat → ClassId) (dI : Nat → Nat → Nat) (dA : Nat → ClassId) (ad : Nat → Nat) (sz : Nat) {p1 : Int32} {c_tree_parts : Nat → Int32} {c_bond_terms : Nat → Int32} {c_penceByUps : Nat → Int64} {c_pence : Nat → Int64} {c_turned : Nat → Int64} {c_called : Nat → Int64} {c_hold : Nat → Int64} {c_value : Nat → Int64} {c_marks : Nat → Int32} {c_act : Nat → Int32} {c_rowOfKey : Nat → Int32} {r : Int64} (hf : fX5_valueAt p1 c_value = some (r)) : Met l yX5_valueAt (wq (Cond.code yX5_valueAt cX5_valueAt 2 (some .long))) rmX5_valueAt (gP [.ref (ad 0), .int p1] (dC, dI) dA (wX5 dA ad c_tree_parts c_bond_terms c_penceByUps c_pence c_turned c_called c_hold c_value c_marks c_act c_rowOfKey) sz) (gQl (dC, dI) r (wX5 dA ad c_tree_parts c_bond_terms c_penceByUps c_pence c_turned c_called c_hold c_value c_marks c_act c_rowOfKey) (va_A (wX5 dA ad c_tree_parts c_bond_terms c_penceByUps c_pence c_turned c_called c_hold c_value c_marks c_act c_rowOfKey) sz)) 0 0 (va_A (wX5 dA ad c_tree_parts c_bond_terms c_penceByUps c_pence c_turned c_called c_hold c_value c_marks c_act c_rowOfKey) sz) := by
  refine Met.ofW (cc := cX5_valueAt) (maxL := 2) (ret := (some .long)) (by decide) rfl ?_
  intro p e s m args below meth c s₁ B hml hv
  obtain ⟨rfl, hsz, hP, hK, hD0⟩ := hv
  have hx := B.exec
  have hb := B.bytes
  have hr := B.returns
  have hts := atoms_spec (ws := wq (Cond.code yX5_valueAt cX5_valueAt 2 (some .long))) B.pre
  have hown : s.vm.findClass RX5 = some m.cls := findClass_of_methodNamed B.named
  have hlocks := B.notSynchronized
  clear B
  subst hsz
  have hD := hD0.self (sz := s.heap.size)
  generalize hAe : va_A (wX5 dA ad c_tree_parts c_bond_terms c_penceByUps c_pence c_turned c_called c_hold c_value c_marks c_act c_rowOfKey) s.heap.size = A at hD ⊢
  have hA : ∀ q : Nat, s.heap.size ≤ q → A q := fun q h => by rw [← hAe]; exact Or.inr h
  clear hAe hD0
  have hS : va_S A s.heap s.heap [] := va_S.rf
  have hl := lv_entry ([.ref (ad 0), .int p1]) (n := 2) (Nat.le_of_ble_eq_true rfl)
  rw [lg_entry_eq]
  generalize (lg_sl ([.ref (ad 0), .int p1]) ++ List.replicate (2 - (lg_sl ([.ref (ad 0), .int p1])).length) Slot.unset).toArray = ls at hl ⊢
  have hl : lv_has ls 2 [(0, .ref (ad 0)), (1, .int p1)] := hl
  change W p l e rmX5_valueAt s m ([.ref (ad 0), .int p1] : List Value).toArray below meth c s.heap [] 0 0 _ _
  unfold fX5_valueAt at hf
  refine lv_iload_n hx hb dX5_valueAt_0 rfl (lv_at hl 1 rfl) ?_
  obtain ⟨r1, v2, hf⟩ := bd1_some hf
  refine gci0 (va_runSN (As := [.int p1]) (rest := []) ⟨hx, hb, hml, hown, hts⟩ (tX8_isRow l dC dI dA s.heap.size v2) (ccX5_X8_isRow hK.2 hts ⟨Nat.le_of_ble_eq_true rfl, Nat.le_of_ble_eq_true rfl⟩) (gPreS0 hK) rfl rfl hl.1 rfl (lv_room (Nat.le_of_ble_eq_true rfl)) dX5_valueAt_1 ⟨Nat.le_of_ble_eq_true rfl, Nat.le_of_ble_eq_true rfl⟩) hP hS hA (fun H locs hP hS => ?_)
  refine lv_if_eq (tgt := 16) hx hb dX5_valueAt_4 (by decide) (fun k3 => ?_) (fun k3 => ?_)
  · replace hf := ifp k3 hf
    refine lv_lconst (v := 0) hx hb dX5_valueAt_16 rfl ?_
    cases hf
    exact W.lret hx hb hr (fun t ht _ => gql hP hD hS ht) hS.2.2 dX5_valueAt_17
  · replace hf := ifn k3 hf
    refine lv_aload_n hx hb dX5_valueAt_7 rfl (lv_at hl 0 rfl) ?_
    refine va_get (D := (dC, dI)) (ci := 5) (v := .ref (ad 10)) (C := RX5) (T := TX5) (N := 11) hx hb hts (fun w h => gw_mem (inX5 w h)) hown hK.1 hP 0 rfl rfl 7 (by decide) (hts _ (gw_mem wfX5_41)) (fun _ h9 => h9) rfl dX5_valueAt_8 ?_
    refine lv_iload_n hx hb dX5_valueAt_11 rfl (lv_at hl 1 rfl) ?_
    obtain ⟨h4, hf⟩ := og_some hf
    refine va_lald hx hb hK.1 hP 10 1 rfl rfl (okI_in h4) dX5_valueAt_12 ?_
    refine lv_goto (tgt := 17) hx hb dX5_valueAt_13 (by decide) ?_
    cases hf
    exact W.lret hx hb hr (fun t ht _ => gql hP hD hS ht) hS.2.2 dX5_valueAt_17
def fX5_holdAt (p1 : Int32) (c_hold : Nat → Int64) : Option (Int64) := bd1 (fX8_isRow p1) (fun r1 => if r1 = 0 then some ((-2)) else og (okI p1 128) (some (c_hold (Int32.toNatClampNeg p1))))
abbrev rmX5_holdAt : Room := { frames := 1, cells := 0, slots := 0, locals := 20 }
set_option maxHeartbeats 4000000 in
set_option maxRecDepth 100000 in
theorem tX5_holdAt (l : Launch) (dC : Nat → ClassId) (dI : Nat → Nat → Nat) (dA : Nat → ClassId) (ad : Nat → Nat) (sz : Nat) {p1 : Int32} {c_tree_parts : Nat → Int32} {c_bond_terms : Nat → Int32} {c_penceByUps : Nat → Int64} {c_pence : Nat → Int64} {c_turned : Nat → Int64} {c_called : Nat → Int64} {c_hold : Nat → Int64} {c_value : Nat → Int64} {c_marks : Nat → Int32} {c_act : Nat → Int32} {c_rowOfKey : Nat → Int32} {r : Int64} (hf : fX5_holdAt p1 c_hold = some (r)) : Met l yX5_holdAt (wq (Cond.code yX5_holdAt cX5_holdAt 2 (some .long))) rmX5_holdAt (gP [.ref (ad 0), .int p1] (dC, dI) dA (wX5 dA ad c_tree_parts c_bond_terms c_penceByUps c_pence c_turned c_called c_hold c_value c_marks c_act c_rowOfKey) sz) (gQl (dC, dI) r (wX5 dA ad c_tree_parts c_bond_terms c_penceByUps c_pence c_turned c_called c_hold c_value c_marks c_act c_rowOfKey) (va_A (wX5 dA ad c_tree_parts c_bond_terms c_penceByUps c_pence c_turned c_called c_hold c_value c_marks c_act c_rowOfKey) sz)) 0 0 (va_A (wX5 dA ad c_tree_parts c_bond_terms c_penceByUps c_pence c_turned c_called c_hold c_value c_marks c_act c_rowOfKey) sz) := by
  refine Met.ofW (cc := cX5_holdAt) (maxL := 2) (ret := (some .long)) (by decide) rfl ?_
  intro p e s m args below meth c s₁ B hml hv
  obtain ⟨rfl, hsz, hP, hK, hD0⟩ := hv
  have hx := B.exec
  have hb := B.bytes
  have hr := B.returns
  have hts := atoms_spec (ws := wq (Cond.code yX5_holdAt cX5_holdAt 2 (some .long))) B.pre
  have hown : s.vm.findClass RX5 = some m.cls := findClass_of_methodNamed B.named
  have hlocks := B.notSynchronized
  clear B
  subst hsz
  have hD := hD0.self (sz := s.heap.size)
  generalize hAe : va_A (wX5 dA ad c_tree_parts c_bond_terms c_penceByUps c_pence c_turned c_called c_hold c_value c_marks c_act c_rowOfKey) s.heap.size = A at hD ⊢
  have hA : ∀ q : Nat, s.heap.size ≤ q → A q := fun q h => by rw [← hAe]; exact Or.inr h
  clear hAe hD0
  have hS : va_S A s.heap s.heap [] := va_S.rf
  have hl := lv_entry ([.ref (ad 0), .int p1]) (n := 2) (Nat.le_of_ble_eq_true rfl)
  rw [lg_entry_eq]
  generalize (lg_sl ([.ref (ad 0), .int p1]) ++ List.replicate (2 - (lg_sl ([.ref (ad 0), .int p1])).length) Slot.unset).toArray = ls at hl ⊢
  have hl : lv_has ls 2 [(0, .ref (ad 0)), (1, .int p1)] := hl
  change W p l e rmX5_holdAt s m ([.ref (ad 0), .int p1] : List Value).toArray below meth c s.heap [] 0 0 _ _
  unfold fX5_holdAt at hf
  refine lv_iload_n hx hb dX5_holdAt_0 rfl (lv_at hl 1 rfl) ?_
  obtain ⟨r1, v2, hf⟩ := bd1_some hf
  refine gci0 (va_runSN (As := [.int p1]) (rest := []) ⟨hx, hb, hml, hown, hts⟩ (tX8_isRow l dC dI dA s.heap.size v2) (ccX5_X8_isRow hK.2 hts ⟨Nat.le_of_ble_eq_true rfl, Nat.le_of_ble_eq_true rfl⟩) (gPreS0 hK) rfl rfl hl.1 rfl (lv_room (Nat.le_of_ble_eq_true rfl)) dX5_holdAt_1 ⟨Nat.le_of_ble_eq_true rfl, Nat.le_of_ble_eq_true rfl⟩) hP hS hA (fun H locs hP hS => ?_)
  refine lv_if_eq (tgt := 16) hx hb dX5_holdAt_4 (by decide) (fun k3 => ?_) (fun k3 => ?_)
  · replace hf := ifp k3 hf
    refine lv_ldc2 (v := (-2)) hx hb hown (hts _ (gw_mem wkX5_75)) dX5_holdAt_16 ?_
    cases hf
    exact W.lret hx hb hr (fun t ht _ => gql hP hD hS ht) hS.2.2 dX5_holdAt_19
  · replace hf := ifn k3 hf
    refine lv_aload_n hx hb dX5_holdAt_7 rfl (lv_at hl 0 rfl) ?_
    refine va_get (D := (dC, dI)) (ci := 5) (v := .ref (ad 9)) (C := RX5) (T := TX5) (N := 11) hx hb hts (fun w h => gw_mem (inX5 w h)) hown hK.1 hP 0 rfl rfl 6 (by decide) (hts _ (gw_mem wfX5_38)) (fun _ h9 => h9) rfl dX5_holdAt_8 ?_
    refine lv_iload_n hx hb dX5_holdAt_11 rfl (lv_at hl 1 rfl) ?_
    obtain ⟨h4, hf⟩ := og_some hf
    refine va_lald hx hb hK.1 hP 9 1 rfl rfl (okI_in h4) dX5_holdAt_12 ?_
    refine lv_goto (tgt := 19) hx hb dX5_holdAt_13 (by decide) ?_
    cases hf
    exact W.lret hx hb hr (fun t ht _ => gql hP hD hS ht) hS.2.2 dX5_holdAt_19
def fX5_turnedAt (p1 : Int32) (c_turned : Nat → Int64) : Option (Int64) := bd1 (fX8_isRow p1) (fun r1 => if r1 = 0 then some ((-2)) else og (okI p1 128) (some (c_turned (Int32.toNatClampNeg p1))))
abbrev rmX5_turnedAt : Room := { frames := 1, cells := 0, slots := 0, locals := 20 }
set_option maxHeartbeats 4000000 in
set_option maxRecDepth 100000 in
theorem tX5_turnedAt (l : Launch) (dC : Nat → ClassId) (dI : Nat → Nat → Nat) (dA : Nat → ClassId) (ad : Nat → Nat) (sz : Nat) {p1 : Int32} {c_tree_parts : Nat → Int32} {c_bond_terms : Nat → Int32} {c_penceByUps : Nat → Int64} {c_pence : Nat → Int64} {c_turned : Nat → Int64} {c_called : Nat → Int64} {c_hold : Nat → Int64} {c_value : Nat → Int64} {c_marks : Nat → Int32} {c_act : Nat → Int32} {c_rowOfKey : Nat → Int32} {r : Int64} (hf : fX5_turnedAt p1 c_turned = some (r)) : Met l yX5_turnedAt (wq (Cond.code yX5_turnedAt cX5_turnedAt 2 (some .long))) rmX5_turnedAt (gP [.ref (ad 0), .int p1] (dC, dI) dA (wX5 dA ad c_tree_parts c_bond_terms c_penceByUps c_pence c_turned c_called c_hold c_value c_marks c_act c_rowOfKey) sz) (gQl (dC, dI) r (wX5 dA ad c_tree_parts c_bond_terms c_penceByUps c_pence c_turned c_called c_hold c_value c_marks c_act c_rowOfKey) (va_A (wX5 dA ad c_tree_parts c_bond_terms c_penceByUps c_pence c_turned c_called c_hold c_value c_marks c_act c_rowOfKey) sz)) 0 0 (va_A (wX5 dA ad c_tree_parts c_bond_terms c_penceByUps c_pence c_turned c_called c_hold c_value c_marks c_act c_rowOfKey) sz) := by
  refine Met.ofW (cc := cX5_turnedAt) (maxL := 2) (ret := (some .long)) (by decide) rfl ?_
  intro p e s m args below meth c s₁ B hml hv
  obtain ⟨rfl, hsz, hP, hK, hD0⟩ := hv
  have hx := B.exec
  have hb := B.bytes
  have hr := B.returns
  have hts := atoms_spec (ws := wq (Cond.code yX5_turnedAt cX5_turnedAt 2 (some .long))) B.pre
  have hown : s.vm.findClass RX5 = some m.cls := findClass_of_methodNamed B.named
  have hlocks := B.notSynchronized
  clear B
  subst hsz
  have hD := hD0.self (sz := s.heap.size)
  generalize hAe : va_A (wX5 dA ad c_tree_parts c_bond_terms c_penceByUps c_pence c_turned c_called c_hold c_value c_marks c_act c_rowOfKey) s.heap.size = A at hD ⊢
  have hA : ∀ q : Nat, s.heap.size ≤ q → A q := fun q h => by rw [← hAe]; exact Or.inr h
  clear hAe hD0
  have hS : va_S A s.heap s.heap [] := va_S.rf
  have hl := lv_entry ([.ref (ad 0), .int p1]) (n := 2) (Nat.le_of_ble_eq_true rfl)
  rw [lg_entry_eq]
  generalize (lg_sl ([.ref (ad 0), .int p1]) ++ List.replicate (2 - (lg_sl ([.ref (ad 0), .int p1])).length) Slot.unset).toArray = ls at hl ⊢
  have hl : lv_has ls 2 [(0, .ref (ad 0)), (1, .int p1)] := hl
  change W p l e rmX5_turnedAt s m ([.ref (ad 0), .int p1] : List Value).toArray below meth c s.heap [] 0 0 _ _
  unfold fX5_turnedAt at hf
  refine lv_iload_n hx hb dX5_turnedAt_0 rfl (lv_at hl 1 rfl) ?_
  obtain ⟨r1, v2, hf⟩ := bd1_some hf
  refine gci0 (va_runSN (As := [.int p1]) (rest := []) ⟨hx, hb, hml, hown, hts⟩ (tX8_isRow l dC dI dA s.heap.size v2) (ccX5_X8_isRow hK.2 hts ⟨Nat.le_of_ble_eq_true rfl, Nat.le_of_ble_eq_true rfl⟩) (gPreS0 hK) rfl rfl hl.1 rfl (lv_room (Nat.le_of_ble_eq_true rfl)) dX5_turnedAt_1 ⟨Nat.le_of_ble_eq_true rfl, Nat.le_of_ble_eq_true rfl⟩) hP hS hA (fun H locs hP hS => ?_)
  refine lv_if_eq (tgt := 16) hx hb dX5_turnedAt_4 (by decide) (fun k3 => ?_) (fun k3 => ?_)
  · replace hf := ifp k3 hf
    refine lv_ldc2 (v := (-2)) hx hb hown (hts _ (gw_mem wkX5_75)) dX5_turnedAt_16 ?_
    cases hf
    exact W.lret hx hb hr (fun t ht _ => gql hP hD hS ht) hS.2.2 dX5_turnedAt_19
  · replace hf := ifn k3 hf
    refine lv_aload_n hx hb dX5_turnedAt_7 rfl (lv_at hl 0 rfl) ?_
    refine va_get (D := (dC, dI)) (ci := 5) (v := .ref (ad 7)) (C := RX5) (T := TX5) (N := 11) hx hb hts (fun w h => gw_mem (inX5 w h)) hown hK.1 hP 0 rfl rfl 4 (by decide) (hts _ (gw_mem wfX5_32)) (fun _ h9 => h9) rfl dX5_turnedAt_8 ?_
    refine lv_iload_n hx hb dX5_turnedAt_11 rfl (lv_at hl 1 rfl) ?_
    obtain ⟨h4, hf⟩ := og_some hf
    refine va_lald hx hb hK.1 hP 7 1 rfl rfl (okI_in h4) dX5_turnedAt_12 ?_
    refine lv_goto (tgt := 19) hx hb dX5_turnedAt_13 (by decide) ?_
    cases hf
    exact W.lret hx hb hr (fun t ht _ => gql hP hD hS ht) hS.2.2 dX5_turnedAt_19
def fX5_calledAt (p1 : Int32) (c_called : Nat → Int64) : Option (Int64) := bd1 (fX8_isRow p1) (fun r1 => if r1 = 0 then some ((-2)) else og (okI p1 128) (some (c_called (Int32.toNatClampNeg p1))))
abbrev rmX5_calledAt : Room := { frames := 1, cells := 0, slots := 0, locals := 20 }
set_option maxHeartbeats 4000000 in
set_option maxRecDepth 100000 in
theorem tX5_calledAt (l : Launch) (dC : Nat → ClassId) (dI : Nat → Nat → Nat) (dA : Nat → ClassId) (ad : Nat → Nat) (sz : Nat) {p1 : Int32} {c_tree_parts : Nat → Int32} {c_bond_terms : Nat → Int32} {c_penceByUps : Nat → Int64} {c_pence : Nat → Int64} {c_turned : Nat → Int64} {c_called : Nat → Int64} {c_hold : Nat → Int64} {c_value : Nat → Int64} {c_marks : Nat → Int32} {c_act : Nat → Int32} {c_rowOfKey : Nat → Int32} {r : Int64} (hf : fX5_calledAt p1 c_called = some (r)) : Met l yX5_calledAt (wq (Cond.code yX5_calledAt cX5_calledAt 2 (some .long))) rmX5_calledAt (gP [.ref (ad 0), .int p1] (dC, dI) dA (wX5 dA ad c_tree_parts c_bond_terms c_penceByUps c_pence c_turned c_called c_hold c_value c_marks c_act c_rowOfKey) sz) (gQl (dC, dI) r (wX5 dA ad c_tree_parts c_bond_terms c_penceByUps c_pence c_turned c_called c_hold c_value c_marks c_act c_rowOfKey) (va_A (wX5 dA ad c_tree_parts c_bond_terms c_penceByUps c_pence c_turned c_called c_hold c_value c_marks c_act c_rowOfKey) sz)) 0 0 (va_A (wX5 dA ad c_tree_parts c_bond_terms c_penceByUps c_pence c_turned c_called c_hold c_value c_marks c_act c_rowOfKey) sz) := by
  refine Met.ofW (cc := cX5_calledAt) (maxL := 2) (ret := (some .long)) (by decide) rfl ?_
  intro p e s m args below meth c s₁ B hml hv
  obtain ⟨rfl, hsz, hP, hK, hD0⟩ := hv
  have hx := B.exec
  have hb := B.bytes
  have hr := B.returns
  have hts := atoms_spec (ws := wq (Cond.code yX5_calledAt cX5_calledAt 2 (some .long))) B.pre
  have hown : s.vm.findClass RX5 = some m.cls := findClass_of_methodNamed B.named
  have hlocks := B.notSynchronized
  clear B
  subst hsz
  have hD := hD0.self (sz := s.heap.size)
  generalize hAe : va_A (wX5 dA ad c_tree_parts c_bond_terms c_penceByUps c_pence c_turned c_called c_hold c_value c_marks c_act c_rowOfKey) s.heap.size = A at hD ⊢
  have hA : ∀ q : Nat, s.heap.size ≤ q → A q := fun q h => by rw [← hAe]; exact Or.inr h
  clear hAe hD0
  have hS : va_S A s.heap s.heap [] := va_S.rf
  have hl := lv_entry ([.ref (ad 0), .int p1]) (n := 2) (Nat.le_of_ble_eq_true rfl)
  rw [lg_entry_eq]
  generalize (lg_sl ([.ref (ad 0), .int p1]) ++ List.replicate (2 - (lg_sl ([.ref (ad 0), .int p1])).length) Slot.unset).toArray = ls at hl ⊢
  have hl : lv_has ls 2 [(0, .ref (ad 0)), (1, .int p1)] := hl
  change W p l e rmX5_calledAt s m ([.ref (ad 0), .int p1] : List Value).toArray below meth c s.heap [] 0 0 _ _
  unfold fX5_calledAt at hf
  refine lv_iload_n hx hb dX5_calledAt_0 rfl (lv_at hl 1 rfl) ?_
  obtain ⟨r1, v2, hf⟩ := bd1_some hf
  refine gci0 (va_runSN (As := [.int p1]) (rest := []) ⟨hx, hb, hml, hown, hts⟩ (tX8_isRow l dC dI dA s.heap.size v2) (ccX5_X8_isRow hK.2 hts ⟨Nat.le_of_ble_eq_true rfl, Nat.le_of_ble_eq_true rfl⟩) (gPreS0 hK) rfl rfl hl.1 rfl (lv_room (Nat.le_of_ble_eq_true rfl)) dX5_calledAt_1 ⟨Nat.le_of_ble_eq_true rfl, Nat.le_of_ble_eq_true rfl⟩) hP hS hA (fun H locs hP hS => ?_)
  refine lv_if_eq (tgt := 16) hx hb dX5_calledAt_4 (by decide) (fun k3 => ?_) (fun k3 => ?_)
  · replace hf := ifp k3 hf
    refine lv_ldc2 (v := (-2)) hx hb hown (hts _ (gw_mem wkX5_75)) dX5_calledAt_16 ?_
    cases hf
    exact W.lret hx hb hr (fun t ht _ => gql hP hD hS ht) hS.2.2 dX5_calledAt_19
  · replace hf := ifn k3 hf
    refine lv_aload_n hx hb dX5_calledAt_7 rfl (lv_at hl 0 rfl) ?_
    refine va_get (D := (dC, dI)) (ci := 5) (v := .ref (ad 8)) (C := RX5) (T := TX5) (N := 11) hx hb hts (fun w h => gw_mem (inX5 w h)) hown hK.1 hP 0 rfl rfl 5 (by decide) (hts _ (gw_mem wfX5_35)) (fun _ h9 => h9) rfl dX5_calledAt_8 ?_
    refine lv_iload_n hx hb dX5_calledAt_11 rfl (lv_at hl 1 rfl) ?_
    obtain ⟨h4, hf⟩ := og_some hf
    refine va_lald hx hb hK.1 hP 8 1 rfl rfl (okI_in h4) dX5_calledAt_12 ?_
    refine lv_goto (tgt := 19) hx hb dX5_calledAt_13 (by decide) ?_
    cases hf
    exact W.lret hx hb hr (fun t ht _ => gql hP hD hS ht) hS.2.2 dX5_calledAt_19
def fX5_penceAt (p1 : Int32) (c_pence : Nat → Int64) : Option (Int64) := bd1 (fX8_isRow p1) (fun r1 => if r1 = 0 then some (0) else og (okI p1 128) (some (c_pence (Int32.toNatClampNeg p1))))
abbrev rmX5_penceAt : Room := { frames := 1, cells := 0, slots := 0, locals := 20 }
set_option maxHeartbeats 4000000 in
set_option maxRecDepth 100000 in
theorem tX5_penceAt (l : Launch) (dC : Nat → ClassId) (dI : Nat → Nat → Nat) (dA : Nat → ClassId) (ad : Nat → Nat) (sz : Nat) {p1 : Int32} {c_tree_parts : Nat → Int32} {c_bond_terms : Nat → Int32} {c_penceByUps : Nat → Int64} {c_pence : Nat → Int64} {c_turned : Nat → Int64} {c_called : Nat → Int64} {c_hold : Nat → Int64} {c_value : Nat → Int64} {c_marks : Nat → Int32} {c_act : Nat → Int32} {c_rowOfKey : Nat → Int32} {r : Int64} (hf : fX5_penceAt p1 c_pence = some (r)) : Met l yX5_penceAt (wq (Cond.code yX5_penceAt cX5_penceAt 2 (some .long))) rmX5_penceAt (gP [.ref (ad 0), .int p1] (dC, dI) dA (wX5 dA ad c_tree_parts c_bond_terms c_penceByUps c_pence c_turned c_called c_hold c_value c_marks c_act c_rowOfKey) sz) (gQl (dC, dI) r (wX5 dA ad c_tree_parts c_bond_terms c_penceByUps c_pence c_turned c_called c_hold c_value c_marks c_act c_rowOfKey) (va_A (wX5 dA ad c_tree_parts c_bond_terms c_penceByUps c_pence c_turned c_called c_hold c_value c_marks c_act c_rowOfKey) sz)) 0 0 (va_A (wX5 dA ad c_tree_parts c_bond_terms c_penceByUps c_pence c_turned c_called c_hold c_value c_marks c_act c_rowOfKey) sz) := by
  refine Met.ofW (cc := cX5_penceAt) (maxL := 2) (ret := (some .long)) (by decide) rfl ?_
  intro p e s m args below meth c s₁ B hml hv
  obtain ⟨rfl, hsz, hP, hK, hD0⟩ := hv
  have hx := B.exec
  have hb := B.bytes
  have hr := B.returns
  have hts := atoms_spec (ws := wq (Cond.code yX5_penceAt cX5_penceAt 2 (some .long))) B.pre
  have hown : s.vm.findClass RX5 = some m.cls := findClass_of_methodNamed B.named
  have hlocks := B.notSynchronized
  clear B
  subst hsz
  have hD := hD0.self (sz := s.heap.size)
  generalize hAe : va_A (wX5 dA ad c_tree_parts c_bond_terms c_penceByUps c_pence c_turned c_called c_hold c_value c_marks c_act c_rowOfKey) s.heap.size = A at hD ⊢
  have hA : ∀ q : Nat, s.heap.size ≤ q → A q := fun q h => by rw [← hAe]; exact Or.inr h
  clear hAe hD0
  have hS : va_S A s.heap s.heap [] := va_S.rf
  have hl := lv_entry ([.ref (ad 0), .int p1]) (n := 2) (Nat.le_of_ble_eq_true rfl)
  rw [lg_entry_eq]
  generalize (lg_sl ([.ref (ad 0), .int p1]) ++ List.replicate (2 - (lg_sl ([.ref (ad 0), .int p1])).length) Slot.unset).toArray = ls at hl ⊢
  have hl : lv_has ls 2 [(0, .ref (ad 0)), (1, .int p1)] := hl
  change W p l e rmX5_penceAt s m ([.ref (ad 0), .int p1] : List Value).toArray below meth c s.heap [] 0 0 _ _
  unfold fX5_penceAt at hf
  refine lv_iload_n hx hb dX5_penceAt_0 rfl (lv_at hl 1 rfl) ?_
  obtain ⟨r1, v2, hf⟩ := bd1_some hf
  refine gci0 (va_runSN (As := [.int p1]) (rest := []) ⟨hx, hb, hml, hown, hts⟩ (tX8_isRow l dC dI dA s.heap.size v2) (ccX5_X8_isRow hK.2 hts ⟨Nat.le_of_ble_eq_true rfl, Nat.le_of_ble_eq_true rfl⟩) (gPreS0 hK) rfl rfl hl.1 rfl (lv_room (Nat.le_of_ble_eq_true rfl)) dX5_penceAt_1 ⟨Nat.le_of_ble_eq_true rfl, Nat.le_of_ble_eq_true rfl⟩) hP hS hA (fun H locs hP hS => ?_)
  refine lv_if_eq (tgt := 16) hx hb dX5_penceAt_4 (by decide) (fun k3 => ?_) (fun k3 => ?_)
  · replace hf := ifp k3 hf
    refine lv_lconst (v := 0) hx hb dX5_penceAt_16 rfl ?_
    cases hf
    exact W.lret hx hb hr (fun t ht _ => gql hP hD hS ht) hS.2.2 dX5_penceAt_17
  · replace hf := ifn k3 hf
    refine lv_aload_n hx hb dX5_penceAt_7 rfl (lv_at hl 0 rfl) ?_
    refine va_get (D := (dC, dI)) (ci := 5) (v := .ref (ad 6)) (C := RX5) (T := TX5) (N := 11) hx hb hts (fun w h => gw_mem (inX5 w h)) hown hK.1 hP 0 rfl rfl 3 (by decide) (hts _ (gw_mem wfX5_29)) (fun _ h9 => h9) rfl dX5_penceAt_8 ?_
    refine lv_iload_n hx hb dX5_penceAt_11 rfl (lv_at hl 1 rfl) ?_
    obtain ⟨h4, hf⟩ := og_some hf
    refine va_lald hx hb hK.1 hP 6 1 rfl rfl (okI_in h4) dX5_penceAt_12 ?_
    refine lv_goto (tgt := 17) hx hb dX5_penceAt_13 (by decide) ?_
    cases hf
    exact W.lret hx hb hr (fun t ht _ => gql hP hD hS ht) hS.2.2 dX5_penceAt_17
def fX5_marksAt (p1 : Int32) (c_marks : Nat → Int32) : Option (Int32) := bd1 (fX8_isRow p1) (fun r1 => if r1 = 0 then some (0) else og (okI p1 128) (some (c_marks (Int32.toNatClampNeg p1))))
abbrev rmX5_marksAt : Room := { frames := 1, cells := 0, slots := 0, locals := 20 }
set_option maxHeartbeats 4000000 in
set_option maxRecDepth 100000 in
theorem tX5_marksAt (l : Launch) (dC : Nat → ClassId) (dI : Nat → Nat → Nat) (dA : Nat → ClassId) (ad : Nat → Nat) (sz : Nat) {p1 : Int32} {c_tree_parts : Nat → Int32} {c_bond_terms : Nat → Int32} {c_penceByUps : Nat → Int64} {c_pence : Nat → Int64} {c_turned : Nat → Int64} {c_called : Nat → Int64} {c_hold : Nat → Int64} {c_value : Nat → Int64} {c_marks : Nat → Int32} {c_act : Nat → Int32} {c_rowOfKey : Nat → Int32} {r : Int32} (hf : fX5_marksAt p1 c_marks = some (r)) : Met l yX5_marksAt (wq (Cond.code yX5_marksAt cX5_marksAt 2 (some .int))) rmX5_marksAt (gP [.ref (ad 0), .int p1] (dC, dI) dA (wX5 dA ad c_tree_parts c_bond_terms c_penceByUps c_pence c_turned c_called c_hold c_value c_marks c_act c_rowOfKey) sz) (gQi (dC, dI) r (wX5 dA ad c_tree_parts c_bond_terms c_penceByUps c_pence c_turned c_called c_hold c_value c_marks c_act c_rowOfKey) (va_A (wX5 dA ad c_tree_parts c_bond_terms c_penceByUps c_pence c_turned c_called c_hold c_value c_marks c_act c_rowOfKey) sz)) 0 0 (va_A (wX5 dA ad c_tree_parts c_bond_terms c_penceByUps c_pence c_turned c_called c_hold c_value c_marks c_act c_rowOfKey) sz) := by
  refine Met.ofW (cc := cX5_marksAt) (maxL := 2) (ret := (some .int)) (by decide) rfl ?_
  intro p e s m args below meth c s₁ B hml hv
  obtain ⟨rfl, hsz, hP, hK, hD0⟩ := hv
  have hx := B.exec
  have hb := B.bytes
  have hr := B.returns
  have hts := atoms_spec (ws := wq (Cond.code yX5_marksAt cX5_marksAt 2 (some .int))) B.pre
  have hown : s.vm.findClass RX5 = some m.cls := findClass_of_methodNamed B.named
  have hlocks := B.notSynchronized
  clear B
  subst hsz
  have hD := hD0.self (sz := s.heap.size)
  generalize hAe : va_A (wX5 dA ad c_tree_parts c_bond_terms c_penceByUps c_pence c_turned c_called c_hold c_value c_marks c_act c_rowOfKey) s.heap.size = A at hD ⊢
  have hA : ∀ q : Nat, s.heap.size ≤ q → A q := fun q h => by rw [← hAe]; exact Or.inr h
  clear hAe hD0
  have hS : va_S A s.heap s.heap [] := va_S.rf
  have hl := lv_entry ([.ref (ad 0), .int p1]) (n := 2) (Nat.le_of_ble_eq_true rfl)
  rw [lg_entry_eq]
  generalize (lg_sl ([.ref (ad 0), .int p1]) ++ List.replicate (2 - (lg_sl ([.ref (ad 0), .int p1])).length) Slot.unset).toArray = ls at hl ⊢
  have hl : lv_has ls 2 [(0, .ref (ad 0)), (1, .int p1)] := hl
  change W p l e rmX5_marksAt s m ([.ref (ad 0), .int p1] : List Value).toArray below meth c s.heap [] 0 0 _ _
  unfold fX5_marksAt at hf
  refine lv_iload_n hx hb dX5_marksAt_0 rfl (lv_at hl 1 rfl) ?_
  obtain ⟨r1, v2, hf⟩ := bd1_some hf
  refine gci0 (va_runSN (As := [.int p1]) (rest := []) ⟨hx, hb, hml, hown, hts⟩ (tX8_isRow l dC dI dA s.heap.size v2) (ccX5_X8_isRow hK.2 hts ⟨Nat.le_of_ble_eq_true rfl, Nat.le_of_ble_eq_true rfl⟩) (gPreS0 hK) rfl rfl hl.1 rfl (lv_room (Nat.le_of_ble_eq_true rfl)) dX5_marksAt_1 ⟨Nat.le_of_ble_eq_true rfl, Nat.le_of_ble_eq_true rfl⟩) hP hS hA (fun H locs hP hS => ?_)
  refine lv_if_eq (tgt := 16) hx hb dX5_marksAt_4 (by decide) (fun k3 => ?_) (fun k3 => ?_)
  · replace hf := ifp k3 hf
    refine lv_iconst (v := 0) hx hb dX5_marksAt_16 (by decide) ?_
    cases hf
    exact W.iret hx hb hr (fun t ht _ => gqi hP hD hS ht) hS.2.2 dX5_marksAt_17
  · replace hf := ifn k3 hf
    refine lv_aload_n hx hb dX5_marksAt_7 rfl (lv_at hl 0 rfl) ?_
    refine va_get (D := (dC, dI)) (ci := 5) (v := .ref (ad 11)) (C := RX5) (T := TX5) (N := 11) hx hb hts (fun w h => gw_mem (inX5 w h)) hown hK.1 hP 0 rfl rfl 8 (by decide) (hts _ (gw_mem wfX5_44)) (fun _ h9 => h9) rfl dX5_marksAt_8 ?_
    refine lv_iload_n hx hb dX5_marksAt_11 rfl (lv_at hl 1 rfl) ?_
    obtain ⟨h4, hf⟩ := og_some hf
    refine va_iald hx hb hK.1 hP 11 0 rfl rfl (okI_in h4) dX5_marksAt_12 ?_
    refine lv_goto (tgt := 17) hx hb dX5_marksAt_13 (by decide) ?_
    cases hf
    exact W.iret hx hb hr (fun t ht _ => gqi hP hD hS ht) hS.2.2 dX5_marksAt_17
def fX5_actAt (p1 : Int32) (c_act : Nat → Int32) : Option (Int32) := bd1 (fX8_isRow p1) (fun r1 => if r1 = 0 then some (0) else og (okI p1 128) (some (c_act (Int32.toNatClampNeg p1))))
abbrev rmX5_actAt : Room := { frames := 1, cells := 0, slots := 0, locals := 20 }
set_option maxHeartbeats 4000000 in
set_option maxRecDepth 100000 in
theorem tX5_actAt (l : Launch) (dC : Nat → ClassId) (dI : Nat → Nat → Nat) (dA : Nat → ClassId) (ad : Nat → Nat) (sz : Nat) {p1 : Int32} {c_tree_parts : Nat → Int32} {c_bond_terms : Nat → Int32} {c_penceByUps : Nat → Int64} {c_pence : Nat → Int64} {c_turned : Nat → Int64} {c_called : Nat → Int64} {c_hold : Nat → Int64} {c_value : Nat → Int64} {c_marks : Nat → Int32} {c_act : Nat → Int32} {c_rowOfKey : Nat → Int32} {r : Int32} (hf : fX5_actAt p1 c_act = some (r)) : Met l yX5_actAt (wq (Cond.code yX5_actAt cX5_actAt 2 (some .int))) rmX5_actAt (gP [.ref (ad 0), .int p1] (dC, dI) dA (wX5 dA ad c_tree_parts c_bond_terms c_penceByUps c_pence c_turned c_called c_hold c_value c_marks c_act c_rowOfKey) sz) (gQi (dC, dI) r (wX5 dA ad c_tree_parts c_bond_terms c_penceByUps c_pence c_turned c_called c_hold c_value c_marks c_act c_rowOfKey) (va_A (wX5 dA ad c_tree_parts c_bond_terms c_penceByUps c_pence c_turned c_called c_hold c_value c_marks c_act c_rowOfKey) sz)) 0 0 (va_A (wX5 dA ad c_tree_parts c_bond_terms c_penceByUps c_pence c_turned c_called c_hold c_value c_marks c_act c_rowOfKey) sz) := by
  refine Met.ofW (cc := cX5_actAt) (maxL := 2) (ret := (some .int)) (by decide) rfl ?_
  intro p e s m args below meth c s₁ B hml hv
  obtain ⟨rfl, hsz, hP, hK, hD0⟩ := hv
  have hx := B.exec
  have hb := B.bytes
  have hr := B.returns
  have hts := atoms_spec (ws := wq (Cond.code yX5_actAt cX5_actAt 2 (some .int))) B.pre
  have hown : s.vm.findClass RX5 = some m.cls := findClass_of_methodNamed B.named
  have hlocks := B.notSynchronized
  clear B
  subst hsz
  have hD := hD0.self (sz := s.heap.size)
  generalize hAe : va_A (wX5 dA ad c_tree_parts c_bond_terms c_penceByUps c_pence c_turned c_called c_hold c_value c_marks c_act c_rowOfKey) s.heap.size = A at hD ⊢
  have hA : ∀ q : Nat, s.heap.size ≤ q → A q := fun q h => by rw [← hAe]; exact Or.inr h
  clear hAe hD0
  have hS : va_S A s.heap s.heap [] := va_S.rf
  have hl := lv_entry ([.ref (ad 0), .int p1]) (n := 2) (Nat.le_of_ble_eq_true rfl)
  rw [lg_entry_eq]
  generalize (lg_sl ([.ref (ad 0), .int p1]) ++ List.replicate (2 - (lg_sl ([.ref (ad 0), .int p1])).length) Slot.unset).toArray = ls at hl ⊢
  have hl : lv_has ls 2 [(0, .ref (ad 0)), (1, .int p1)] := hl
  change W p l e rmX5_actAt s m ([.ref (ad 0), .int p1] : List Value).toArray below meth c s.heap [] 0 0 _ _
  unfold fX5_actAt at hf
  refine lv_iload_n hx hb dX5_actAt_0 rfl (lv_at hl 1 rfl) ?_
  obtain ⟨r1, v2, hf⟩ := bd1_some hf
  refine gci0 (va_runSN (As := [.int p1]) (rest := []) ⟨hx, hb, hml, hown, hts⟩ (tX8_isRow l dC dI dA s.heap.size v2) (ccX5_X8_isRow hK.2 hts ⟨Nat.le_of_ble_eq_true rfl, Nat.le_of_ble_eq_true rfl⟩) (gPreS0 hK) rfl rfl hl.1 rfl (lv_room (Nat.le_of_ble_eq_true rfl)) dX5_actAt_1 ⟨Nat.le_of_ble_eq_true rfl, Nat.le_of_ble_eq_true rfl⟩) hP hS hA (fun H locs hP hS => ?_)
  refine lv_if_eq (tgt := 16) hx hb dX5_actAt_4 (by decide) (fun k3 => ?_) (fun k3 => ?_)
  · replace hf := ifp k3 hf
    refine lv_iconst (v := 0) hx hb dX5_actAt_16 (by decide) ?_
    cases hf
    exact W.iret hx hb hr (fun t ht _ => gqi hP hD hS ht) hS.2.2 dX5_actAt_17
  · replace hf := ifn k3 hf
    refine lv_aload_n hx hb dX5_actAt_7 rfl (lv_at hl 0 rfl) ?_
    refine va_get (D := (dC, dI)) (ci := 5) (v := .ref (ad 12)) (C := RX5) (T := TX5) (N := 11) hx hb hts (fun w h => gw_mem (inX5 w h)) hown hK.1 hP 0 rfl rfl 9 (by decide) (hts _ (gw_mem wfX5_48)) (fun _ h9 => h9) rfl dX5_actAt_8 ?_
    refine lv_iload_n hx hb dX5_actAt_11 rfl (lv_at hl 1 rfl) ?_
    obtain ⟨h4, hf⟩ := og_some hf
    refine va_iald hx hb hK.1 hP 12 0 rfl rfl (okI_in h4) dX5_actAt_12 ?_
    refine lv_goto (tgt := 17) hx hb dX5_actAt_13 (by decide) ?_
    cases hf
    exact W.iret hx hb hr (fun t ht _ => gqi hP hD hS ht) hS.2.2 dX5_actAt_17
theorem ccX5_X0_callOn {R : Room} {s : State} {args : Array Value} {c0 : Cond} (ht : ∀ w ∈ wq c0, w.before args s = true) (hR : rmX0_callOn.frames + 1 ≤ R.frames ∧ 8 + (2 + 11) + rmX0_callOn.locals ≤ R.locals) : CallW R s args RX5 RX0 125 yX0_callOn cX0_callOn 2 (some .int) (wq (.code yX0_callOn cX0_callOn 2 (some .int))) rmX0_callOn 0 0 1 := gCW 1 ht wcX0_callOn wmX5_125 wiX0_callOn weX0_callOn wnX0 (by decide +kernel) rfl rfl hR
theorem ccX5_X5_turnedAt {R : Room} {s : State} {args : Array Value} {c0 : Cond} (ht : ∀ w ∈ wq c0, w.before args s = true) (hR : rmX5_turnedAt.frames + 1 ≤ R.frames ∧ 8 + (2 + 11) + rmX5_turnedAt.locals ≤ R.locals) : CallW R s args RX5 RX5 140 yX5_turnedAt cX5_turnedAt 2 (some .long) (wq (.code yX5_turnedAt cX5_turnedAt 2 (some .long))) rmX5_turnedAt 0 0 1 := gCW 1 ht wcX5_turnedAt wmX5_140 wiX5_turnedAt weX5_turnedAt wnX5 (by decide +kernel) rfl rfl hR
def fX5_actOfCall (p1 : Int32) (p2 : Int32) (c_bond_terms : Nat → Int32) (c_turned : Nat → Int64) : Option (Int32) := bd1 (fX5_turnedAt p1 c_turned) (fun r1 => bd1 (fX0_callOn p2 c_bond_terms) (fun r3 => if r1 ≤ (Int32.toInt64 r3) then some (3) else some (4)))
abbrev rmX5_actOfCall : Room := { frames := 2, cells := 0, slots := 0, locals := 43 }
set_option maxHeartbeats 4000000 in
set_option maxRecDepth 100000 in
theorem tX5_actOfCall (l : Launch) (dC : Nat → ClassId) (dI : Nat → Nat → Nat) (dA : Nat → ClassId) (ad : Nat → Nat) (sz : Nat) {p1 : Int32} {p2 : Int32} {c_tree_parts : Nat → Int32} {c_bond_terms : Nat → Int32} {c_penceByUps : Nat → Int64} {c_pence : Nat → Int64} {c_turned : Nat → Int64} {c_called : Nat → Int64} {c_hold : Nat → Int64} {c_value : Nat → Int64} {c_marks : Nat → Int32} {c_act : Nat → Int32} {c_rowOfKey : Nat → Int32} {r : Int32} (hf : fX5_actOfCall p1 p2 c_bond_terms c_turned = some (r)) : Met l yX5_actOfCall (wq (Cond.code yX5_actOfCall cX5_actOfCall 3 (some .int))) rmX5_actOfCall (gP [.ref (ad 0), .int p1, .int p2] (dC, dI) dA (wX5 dA ad c_tree_parts c_bond_terms c_penceByUps c_pence c_turned c_called c_hold c_value c_marks c_act c_rowOfKey) sz) (gQi (dC, dI) r (wX5 dA ad c_tree_parts c_bond_terms c_penceByUps c_pence c_turned c_called c_hold c_value c_marks c_act c_rowOfKey) (va_A (wX5 dA ad c_tree_parts c_bond_terms c_penceByUps c_pence c_turned c_called c_hold c_value c_marks c_act c_rowOfKey) sz)) 0 0 (va_A (wX5 dA ad c_tree_parts c_bond_terms c_penceByUps c_pence c_turned c_called c_hold c_value c_marks c_act c_rowOfKey) sz) := by
  refine Met.ofW (cc := cX5_actOfCall) (maxL := 3) (ret := (some .int)) (by decide) rfl ?_
  intro p e s m args below meth c s₁ B hml hv
  obtain ⟨rfl, hsz, hP, hK, hD0⟩ := hv
  have hx := B.exec
  have hb := B.bytes
  have hr := B.returns
  have hts := atoms_spec (ws := wq (Cond.code yX5_actOfCall cX5_actOfCall 3 (some .int))) B.pre
  have hown : s.vm.findClass RX5 = some m.cls := findClass_of_methodNamed B.named
  have hlocks := B.notSynchronized
  clear B
  subst hsz
  have hD := hD0.self (sz := s.heap.size)
  generalize hAe : va_A (wX5 dA ad c_tree_parts c_bond_terms c_penceByUps c_pence c_turned c_called c_hold c_value c_marks c_act c_rowOfKey) s.heap.size = A at hD ⊢
  have hA : ∀ q : Nat, s.heap.size ≤ q → A q := fun q h => by rw [← hAe]; exact Or.inr h
  clear hAe hD0
  have hS : va_S A s.heap s.heap [] := va_S.rf
  have hl := lv_entry ([.ref (ad 0), .int p1, .int p2]) (n := 3) (Nat.le_of_ble_eq_true rfl)
  rw [lg_entry_eq]
  generalize (lg_sl ([.ref (ad 0), .int p1, .int p2]) ++ List.replicate (3 - (lg_sl ([.ref (ad 0), .int p1, .int p2])).length) Slot.unset).toArray = ls at hl ⊢
  have hl : lv_has ls 3 [(0, .ref (ad 0)), (1, .int p1), (2, .int p2)] := hl
  change W p l e rmX5_actOfCall s m ([.ref (ad 0), .int p1, .int p2] : List Value).toArray below meth c s.heap [] 0 0 _ _
  unfold fX5_actOfCall at hf
  refine lv_aload_n hx hb dX5_actOfCall_0 rfl (lv_at hl 0 rfl) ?_
  refine lv_iload_n hx hb dX5_actOfCall_1 rfl (lv_at hl 1 rfl) ?_
  obtain ⟨r1, v2, hf⟩ := bd1_some hf
  refine gcl (va_runV (As := [.int p1]) (rest := []) ⟨hx, hb, hml, hown, hts⟩ (tX5_turnedAt l dC dI dA ad s.heap.size v2) (ccX5_X5_turnedAt hts ⟨Nat.le_of_ble_eq_true rfl, Nat.le_of_ble_eq_true rfl⟩) (gPreV (ci := 5) (q0 := 0) hP hK hD rfl rfl) rfl rfl hl.1 rfl (lv_room (Nat.le_of_ble_eq_true rfl)) dX5_actOfCall_2 ⟨Nat.le_of_ble_eq_true rfl, Nat.le_of_ble_eq_true rfl⟩) hD hS hA (fun H locs hP hD hS => ?_)
  refine lv_aload_n hx hb dX5_actOfCall_5 rfl (lv_at hl 0 rfl) ?_
  refine va_get (D := (dC, dI)) (ci := 5) (v := .ref (ad 3)) (C := RX5) (T := TX5) (N := 11) hx hb hts (fun w h => gw_mem (inX5 w h)) hown hK.1 hP 0 rfl rfl 1 (by decide) (hts _ (gw_mem wfX5_21)) (fun _ h9 => h9) rfl dX5_actOfCall_6 ?_
  refine lv_iload_n hx hb dX5_actOfCall_9 rfl (lv_at hl 2 rfl) ?_
  obtain ⟨r3, v4, hf⟩ := bd1_some hf
  have z5 : [3, 4].map (fun i => ((wX5 dA ad c_tree_parts c_bond_terms c_penceByUps c_pence c_turned c_called c_hold c_value c_marks c_act c_rowOfKey))[i]?) = ((wX0 dA (fun i => ad (i + 3)) c_bond_terms)).map some := rfl
  refine gpi [3, 4] [0, 1, 2, 5, 6, 7, 8, 9, 10, 11, 12, 13] [0, 1, 2, 12, 13, 3, 4, 5, 6, 7, 8, 9, 10, 11] (wf := (wX5 dA ad c_tree_parts c_bond_terms c_penceByUps c_pence c_turned c_called c_hold c_value c_marks c_act c_rowOfKey)) (va_runV (As := [.int p2]) (rest := [.long r1]) ⟨hx, hb, hml, hown, hts⟩ (tX0_callOn l dC dI dA (fun i => ad (i + 3)) H.size v4) (ccX5_X0_callOn hts ⟨Nat.le_of_ble_eq_true rfl, Nat.le_of_ble_eq_true rfl⟩) (gPreV (ci := 1) (q0 := 0) (gsub z5 hP) hK (gsubD z5 (by decide) hD) rfl rfl) rfl rfl hl.1 rfl (lv_room (Nat.le_of_ble_eq_true rfl)) dX5_actOfCall_10 ⟨Nat.le_of_ble_eq_true rfl, Nat.le_of_ble_eq_true rfl⟩) hP hD hS hA z5 rfl (by decide) (by decide) (by decide) rfl (fun H locs hP hD hS => ?_)
  refine lv_i2l hx hb dX5_actOfCall_13 rfl ?_
  refine W.lcmp hx hb dX5_actOfCall_14 ?_
  refine lv_if_le (tgt := 22) hx hb dX5_actOfCall_15 (by decide) (fun k6 => ?_) (fun k6 => ?_)
  · replace hf := ifp (lc_le.mp k6) hf
    refine lv_iconst (v := 3) hx hb dX5_actOfCall_22 (by decide) ?_
    cases hf
    exact W.iret hx hb hr (fun t ht _ => gqi hP hD hS ht) hS.2.2 dX5_actOfCall_23
  · replace hf := ifn (fun h => k6 (lc_le.mpr h)) hf
    refine lv_iconst (v := 4) hx hb dX5_actOfCall_18 (by decide) ?_
    refine lv_goto (tgt := 23) hx hb dX5_actOfCall_19 (by decide) ?_
    cases hf
    exact W.iret hx hb hr (fun t ht _ => gqi hP hD hS ht) hS.2.2 dX5_actOfCall_23
def fX5_actWhenNotCalled (p0 : Int64) (p2 : Int64) (p4 : Int64) : Option (Int32) := if p0 < p2 then if p2 < 0 then some (2) else if p2 < p4 then some (2) else some (1) else if p0 < p4 then if p2 < 0 then some (2) else if p2 < p4 then some (2) else some (1) else some (0)
abbrev rmX5_actWhenNotCalled : Room := { frames := 0, cells := 0, slots := 0, locals := 0 }
set_option maxHeartbeats 4000000 in
set_option maxRecDepth 100000 in
theorem tX5_actWhenNotCalled (l : Launch) (dC : Nat → ClassId) (dI : Nat → Nat → Nat) (dA : Nat → ClassId) (sz : Nat) {p0 : Int64} {p2 : Int64} {p4 : Int64} {r : Int32} (hf : fX5_actWhenNotCalled p0 p2 p4 = some (r)) : Met l yX5_actWhenNotCalled (wq (Cond.code yX5_actWhenNotCalled cX5_actWhenNotCalled 6 (some .int))) rmX5_actWhenNotCalled (gP [.long p0, .long p2, .long p4] (dC, dI) dA [] sz) (gQi (dC, dI) r [] (va_A [] sz)) 0 0 (va_A [] sz) := by
  refine Met.ofW (cc := cX5_actWhenNotCalled) (maxL := 6) (ret := (some .int)) (by decide) rfl ?_
  intro p e s m args below meth c s₁ B hml hv
  obtain ⟨rfl, hsz, hP, hK, hD0⟩ := hv
  have hx := B.exec
  have hb := B.bytes
  have hr := B.returns
  have hts := atoms_spec (ws := wq (Cond.code yX5_actWhenNotCalled cX5_actWhenNotCalled 6 (some .int))) B.pre
  have hown : s.vm.findClass RX5 = some m.cls := findClass_of_methodNamed B.named
  have hlocks := B.notSynchronized
  clear B
  subst hsz
  have hD := hD0.self (sz := s.heap.size)
  generalize hAe : va_A [] s.heap.size = A at hD ⊢
  have hA : ∀ q : Nat, s.heap.size ≤ q → A q := fun q h => by rw [← hAe]; exact Or.inr h
  clear hAe hD0
  have hS : va_S A s.heap s.heap [] := va_S.rf
  have hl := lv_entry ([.long p0, .long p2, .long p4]) (n := 6) (Nat.le_of_ble_eq_true rfl)
  rw [lg_entry_eq]
  generalize (lg_sl ([.long p0, .long p2, .long p4]) ++ List.replicate (6 - (lg_sl ([.long p0, .long p2, .long p4])).length) Slot.unset).toArray = ls at hl ⊢
  have hl : lv_has ls 6 [(0, .long p0), (2, .long p2), (4, .long p4)] := hl
  change W p l e rmX5_actWhenNotCalled s m ([.long p0, .long p2, .long p4] : List Value).toArray below meth c s.heap [] 0 0 _ _
  unfold fX5_actWhenNotCalled at hf
  refine lv_lload_n hx hb dX5_actWhenNotCalled_0 rfl (lv_at hl 1 rfl) ?_
  refine lv_lload_n hx hb dX5_actWhenNotCalled_1 rfl (lv_at hl 0 rfl) ?_
  refine W.lcmp hx hb dX5_actWhenNotCalled_2 ?_
  refine lv_if_gt (tgt := 15) hx hb dX5_actWhenNotCalled_3 (by decide) (fun k1 => ?_) (fun k1 => ?_)
  · replace hf := ifp (lc_gt.mp k1) hf
    refine lv_lload_n hx hb dX5_actWhenNotCalled_15 rfl (lv_at hl 1 rfl) ?_
    refine lv_lconst (v := 0) hx hb dX5_actWhenNotCalled_16 rfl ?_
    refine W.lcmp hx hb dX5_actWhenNotCalled_17 ?_
    refine lv_if_lt (tgt := 32) hx hb dX5_actWhenNotCalled_18 (by decide) (fun k2 => ?_) (fun k2 => ?_)
    · replace hf := ifp (lc_lt.mp k2) hf
      refine lv_iconst (v := 2) hx hb dX5_actWhenNotCalled_32 (by decide) ?_
      cases hf
      exact W.iret hx hb hr (fun t ht _ => gqi hP hD hS ht) hS.2.2 dX5_actWhenNotCalled_33
    · replace hf := ifn (fun h => k2 (lc_lt.mpr h)) hf
      refine lv_lload_n hx hb dX5_actWhenNotCalled_21 rfl (lv_at hl 1 rfl) ?_
      refine lv_lload hx hb dX5_actWhenNotCalled_22 (lv_at hl 2 rfl) ?_
      refine W.lcmp hx hb dX5_actWhenNotCalled_24 ?_
      refine lv_if_lt (tgt := 32) hx hb dX5_actWhenNotCalled_25 (by decide) (fun k3 => ?_) (fun k3 => ?_)
      · replace hf := ifp (lc_lt.mp k3) hf
        refine lv_iconst (v := 2) hx hb dX5_actWhenNotCalled_32 (by decide) ?_
        cases hf
        exact W.iret hx hb hr (fun t ht _ => gqi hP hD hS ht) hS.2.2 dX5_actWhenNotCalled_33
      · replace hf := ifn (fun h => k3 (lc_lt.mpr h)) hf
        refine lv_iconst (v := 1) hx hb dX5_actWhenNotCalled_28 (by decide) ?_
        refine lv_goto (tgt := 33) hx hb dX5_actWhenNotCalled_29 (by decide) ?_
        cases hf
        exact W.iret hx hb hr (fun t ht _ => gqi hP hD hS ht) hS.2.2 dX5_actWhenNotCalled_33
  · replace hf := ifn (fun h => k1 (lc_gt.mpr h)) hf
    refine lv_lload hx hb dX5_actWhenNotCalled_6 (lv_at hl 2 rfl) ?_
    refine lv_lload_n hx hb dX5_actWhenNotCalled_8 rfl (lv_at hl 0 rfl) ?_
    refine W.lcmp hx hb dX5_actWhenNotCalled_9 ?_
    refine lv_if_gt (tgt := 15) hx hb dX5_actWhenNotCalled_10 (by decide) (fun k4 => ?_) (fun k4 => ?_)
    · replace hf := ifp (lc_gt.mp k4) hf
      refine lv_lload_n hx hb dX5_actWhenNotCalled_15 rfl (lv_at hl 1 rfl) ?_
      refine lv_lconst (v := 0) hx hb dX5_actWhenNotCalled_16 rfl ?_
      refine W.lcmp hx hb dX5_actWhenNotCalled_17 ?_
      refine lv_if_lt (tgt := 32) hx hb dX5_actWhenNotCalled_18 (by decide) (fun k5 => ?_) (fun k5 => ?_)
      · replace hf := ifp (lc_lt.mp k5) hf
        refine lv_iconst (v := 2) hx hb dX5_actWhenNotCalled_32 (by decide) ?_
        cases hf
        exact W.iret hx hb hr (fun t ht _ => gqi hP hD hS ht) hS.2.2 dX5_actWhenNotCalled_33
      · replace hf := ifn (fun h => k5 (lc_lt.mpr h)) hf
        refine lv_lload_n hx hb dX5_actWhenNotCalled_21 rfl (lv_at hl 1 rfl) ?_
        refine lv_lload hx hb dX5_actWhenNotCalled_22 (lv_at hl 2 rfl) ?_
        refine W.lcmp hx hb dX5_actWhenNotCalled_24 ?_
        refine lv_if_lt (tgt := 32) hx hb dX5_actWhenNotCalled_25 (by decide) (fun k6 => ?_) (fun k6 => ?_)
        · replace hf := ifp (lc_lt.mp k6) hf
          refine lv_iconst (v := 2) hx hb dX5_actWhenNotCalled_32 (by decide) ?_
          cases hf
          exact W.iret hx hb hr (fun t ht _ => gqi hP hD hS ht) hS.2.2 dX5_actWhenNotCalled_33
        · replace hf := ifn (fun h => k6 (lc_lt.mpr h)) hf
          refine lv_iconst (v := 1) hx hb dX5_actWhenNotCalled_28 (by decide) ?_
          refine lv_goto (tgt := 33) hx hb dX5_actWhenNotCalled_29 (by decide) ?_
          cases hf
          exact W.iret hx hb hr (fun t ht _ => gqi hP hD hS ht) hS.2.2 dX5_actWhenNotCalled_33
    · replace hf := ifn (fun h => k4 (lc_gt.mpr h)) hf
      refine lv_iconst (v := 0) hx hb dX5_actWhenNotCalled_13 (by decide) ?_
      cases hf
      exact W.iret hx hb hr (fun t ht _ => gqi hP hD hS ht) hS.2.2 dX5_actWhenNotCalled_14
theorem ccX5_X8_longer {R : Room} {s : State} {args : Array Value} {c0 : Cond} (hN : gN s) (ht : ∀ w ∈ wq c0, w.before args s = true) (hR : rmX8_longer.frames + 1 ≤ R.frames ∧ 8 + (2 + 11) + rmX8_longer.locals ≤ R.locals) : va_CN R s args RX5 170 yX8_longer RX8 cX8_longer 2 (some .int) (wq (.code yX8_longer cX8_longer 2 (some .int))) rmX8_longer 0 0 2 ∧ (Cond.static yX8_longer).before args s = true ∧ True := gCSN 2 hN ht wcX8_longer wmX5_170 wtX8_longer wnX8 (by decide +kernel) rfl rfl hR
theorem ccX5_X5_valueAt {R : Room} {s : State} {args : Array Value} {c0 : Cond} (ht : ∀ w ∈ wq c0, w.before args s = true) (hR : rmX5_valueAt.frames + 1 ≤ R.frames ∧ 8 + (2 + 11) + rmX5_valueAt.locals ≤ R.locals) : CallW R s args RX5 RX5 174 yX5_valueAt cX5_valueAt 2 (some .long) (wq (.code yX5_valueAt cX5_valueAt 2 (some .long))) rmX5_valueAt 0 0 1 := gCW 1 ht wcX5_valueAt wmX5_174 wiX5_valueAt weX5_valueAt wnX5 (by decide +kernel) rfl rfl hR
theorem ccX5_X7_meanOf {R : Room} {s : State} {args : Array Value} {c0 : Cond} (ht : ∀ w ∈ wq c0, w.before args s = true) (hR : rmX7_meanOf.frames + 1 ≤ R.frames ∧ 8 + (9 + 11) + rmX7_meanOf.locals ≤ R.locals) : CallW R s args RX5 RX7 177 yX7_meanOf cX7_meanOf 9 (some .long) (wq (.code yX7_meanOf cX7_meanOf 9 (some .long))) rmX7_meanOf 0 0 2 := gCW 2 ht wcX7_meanOf wmX5_177 wiX7_meanOf weX7_meanOf wnX7 (by decide +kernel) rfl rfl hR
def fX5_lookBack (p1 : Int32) (c_tree_parts : Nat → Int32) (c_value : Nat → Int64) : Option (Int64) := bd1 (fX8_longer p1 1) (fun r1 => bd1 (fX5_valueAt r1 c_value) (fun r3 => bd1 (fX8_longer p1 0) (fun r5 => bd1 (fX5_valueAt r5 c_value) (fun r7 => bd1 (fX7_meanOf r3 r7 c_tree_parts) (fun r9 => some (r9))))))
abbrev rmX5_lookBack : Room := { frames := 2, cells := 0, slots := 0, locals := 51 }
set_option maxHeartbeats 4000000 in
set_option maxRecDepth 100000 in
theorem tX5_lookBack (l : Launch) (dC : Nat → ClassId) (dI : Nat → Nat → Nat) (dA : Nat → ClassId) (ad : Nat → Nat) (sz : Nat) {p1 : Int32} {c_tree_parts : Nat → Int32} {c_bond_terms : Nat → Int32} {c_penceByUps : Nat → Int64} {c_pence : Nat → Int64} {c_turned : Nat → Int64} {c_called : Nat → Int64} {c_hold : Nat → Int64} {c_value : Nat → Int64} {c_marks : Nat → Int32} {c_act : Nat → Int32} {c_rowOfKey : Nat → Int32} {r : Int64} (hf : fX5_lookBack p1 c_tree_parts c_value = some (r)) : Met l yX5_lookBack (wq (Cond.code yX5_lookBack cX5_lookBack 2 (some .long))) rmX5_lookBack (gP [.ref (ad 0), .int p1] (dC, dI) dA (wX5 dA ad c_tree_parts c_bond_terms c_penceByUps c_pence c_turned c_called c_hold c_value c_marks c_act c_rowOfKey) sz) (gQl (dC, dI) r (wX5 dA ad c_tree_parts c_bond_terms c_penceByUps c_pence c_turned c_called c_hold c_value c_marks c_act c_rowOfKey) (va_A (wX5 dA ad c_tree_parts c_bond_terms c_penceByUps c_pence c_turned c_called c_hold c_value c_marks c_act c_rowOfKey) sz)) 0 0 (va_A (wX5 dA ad c_tree_parts c_bond_terms c_penceByUps c_pence c_turned c_called c_hold c_value c_marks c_act c_rowOfKey) sz) := by
  refine Met.ofW (cc := cX5_lookBack) (maxL := 2) (ret := (some .long)) (by decide) rfl ?_
  intro p e s m args below meth c s₁ B hml hv
  obtain ⟨rfl, hsz, hP, hK, hD0⟩ := hv
  have hx := B.exec
  have hb := B.bytes
  have hr := B.returns
  have hts := atoms_spec (ws := wq (Cond.code yX5_lookBack cX5_lookBack 2 (some .long))) B.pre
  have hown : s.vm.findClass RX5 = some m.cls := findClass_of_methodNamed B.named
  have hlocks := B.notSynchronized
  clear B
  subst hsz
  have hD := hD0.self (sz := s.heap.size)
  generalize hAe : va_A (wX5 dA ad c_tree_parts c_bond_terms c_penceByUps c_pence c_turned c_called c_hold c_value c_marks c_act c_rowOfKey) s.heap.size = A at hD ⊢
  have hA : ∀ q : Nat, s.heap.size ≤ q → A q := fun q h => by rw [← hAe]; exact Or.inr h
  clear hAe hD0
  have hS : va_S A s.heap s.heap [] := va_S.rf
  have hl := lv_entry ([.ref (ad 0), .int p1]) (n := 2) (Nat.le_of_ble_eq_true rfl)
  rw [lg_entry_eq]
  generalize (lg_sl ([.ref (ad 0), .int p1]) ++ List.replicate (2 - (lg_sl ([.ref (ad 0), .int p1])).length) Slot.unset).toArray = ls at hl ⊢
  have hl : lv_has ls 2 [(0, .ref (ad 0)), (1, .int p1)] := hl
  change W p l e rmX5_lookBack s m ([.ref (ad 0), .int p1] : List Value).toArray below meth c s.heap [] 0 0 _ _
  unfold fX5_lookBack at hf
  refine lv_aload_n hx hb dX5_lookBack_0 rfl (lv_at hl 0 rfl) ?_
  refine va_get (D := (dC, dI)) (ci := 5) (v := .ref (ad 1)) (C := RX5) (T := TX5) (N := 11) hx hb hts (fun w h => gw_mem (inX5 w h)) hown hK.1 hP 0 rfl rfl 0 (by decide) (hts _ (gw_mem wfX5_12)) (fun _ h9 => h9) rfl dX5_lookBack_1 ?_
  refine lv_aload_n hx hb dX5_lookBack_4 rfl (lv_at hl 0 rfl) ?_
  refine lv_iload_n hx hb dX5_lookBack_5 rfl (lv_at hl 1 rfl) ?_
  refine lv_iconst (v := 1) hx hb dX5_lookBack_6 (by decide) ?_
  obtain ⟨r1, v2, hf⟩ := bd1_some hf
  refine gci0 (va_runSN (As := [.int p1, .int 1]) (rest := [.ref (ad 0), .ref (ad 1)]) ⟨hx, hb, hml, hown, hts⟩ (tX8_longer l dC dI dA s.heap.size v2) (ccX5_X8_longer hK.2 hts ⟨Nat.le_of_ble_eq_true rfl, Nat.le_of_ble_eq_true rfl⟩) (gPreS0 hK) rfl rfl hl.1 rfl (lv_room (Nat.le_of_ble_eq_true rfl)) dX5_lookBack_7 ⟨Nat.le_of_ble_eq_true rfl, Nat.le_of_ble_eq_true rfl⟩) hP hS hA (fun H locs hP hS => ?_)
  obtain ⟨r3, v4, hf⟩ := bd1_some hf
  refine gcl (va_runV (As := [.int r1]) (rest := [.ref (ad 1)]) ⟨hx, hb, hml, hown, hts⟩ (tX5_valueAt l dC dI dA ad H.size v4) (ccX5_X5_valueAt hts ⟨Nat.le_of_ble_eq_true rfl, Nat.le_of_ble_eq_true rfl⟩) (gPreV (ci := 5) (q0 := 0) hP hK hD rfl rfl) rfl rfl hl.1 rfl (lv_room (Nat.le_of_ble_eq_true rfl)) dX5_lookBack_10 ⟨Nat.le_of_ble_eq_true rfl, Nat.le_of_ble_eq_true rfl⟩) hD hS hA (fun H locs hP hD hS => ?_)
  refine lv_aload_n hx hb dX5_lookBack_13 rfl (lv_at hl 0 rfl) ?_
  refine lv_iload_n hx hb dX5_lookBack_14 rfl (lv_at hl 1 rfl) ?_
  refine lv_iconst (v := 0) hx hb dX5_lookBack_15 (by decide) ?_
  obtain ⟨r5, v6, hf⟩ := bd1_some hf
  refine gci0 (va_runSN (As := [.int p1, .int 0]) (rest := [.ref (ad 0), .long r3, .ref (ad 1)]) ⟨hx, hb, hml, hown, hts⟩ (tX8_longer l dC dI dA H.size v6) (ccX5_X8_longer hK.2 hts ⟨Nat.le_of_ble_eq_true rfl, Nat.le_of_ble_eq_true rfl⟩) (gPreS0 hK) rfl rfl hl.1 rfl (lv_room (Nat.le_of_ble_eq_true rfl)) dX5_lookBack_16 ⟨Nat.le_of_ble_eq_true rfl, Nat.le_of_ble_eq_true rfl⟩) hP hS hA (fun H locs hP hS => ?_)
  obtain ⟨r7, v8, hf⟩ := bd1_some hf
  refine gcl (va_runV (As := [.int r5]) (rest := [.long r3, .ref (ad 1)]) ⟨hx, hb, hml, hown, hts⟩ (tX5_valueAt l dC dI dA ad H.size v8) (ccX5_X5_valueAt hts ⟨Nat.le_of_ble_eq_true rfl, Nat.le_of_ble_eq_true rfl⟩) (gPreV (ci := 5) (q0 := 0) hP hK hD rfl rfl) rfl rfl hl.1 rfl (lv_room (Nat.le_of_ble_eq_true rfl)) dX5_lookBack_19 ⟨Nat.le_of_ble_eq_true rfl, Nat.le_of_ble_eq_true rfl⟩) hD hS hA (fun H locs hP hD hS => ?_)
  obtain ⟨r9, v10, hf⟩ := bd1_some hf
  have z11 : [1, 2].map (fun i => ((wX5 dA ad c_tree_parts c_bond_terms c_penceByUps c_pence c_turned c_called c_hold c_value c_marks c_act c_rowOfKey))[i]?) = ((wX7 dA (fun i => ad (i + 1)) c_tree_parts)).map some := rfl
  refine gpl [1, 2] [0, 3, 4, 5, 6, 7, 8, 9, 10, 11, 12, 13] [0, 12, 13, 1, 2, 3, 4, 5, 6, 7, 8, 9, 10, 11] (wf := (wX5 dA ad c_tree_parts c_bond_terms c_penceByUps c_pence c_turned c_called c_hold c_value c_marks c_act c_rowOfKey)) (va_runV (As := [.long r3, .long r7]) (rest := []) ⟨hx, hb, hml, hown, hts⟩ (tX7_meanOf l dC dI dA (fun i => ad (i + 1)) H.size v10) (ccX5_X7_meanOf hts ⟨Nat.le_of_ble_eq_true rfl, Nat.le_of_ble_eq_true rfl⟩) (gPreV (ci := 7) (q0 := 0) (gsub z11 hP) hK (gsubD z11 (by decide) hD) rfl rfl) rfl rfl hl.1 rfl (lv_room (Nat.le_of_ble_eq_true rfl)) dX5_lookBack_22 ⟨Nat.le_of_ble_eq_true rfl, Nat.le_of_ble_eq_true rfl⟩) hP hD hS hA z11 rfl (by decide) (by decide) (by decide) rfl (fun H locs hP hD hS => ?_)
  cases hf
  exact W.lret hx hb hr (fun t ht _ => gql hP hD hS ht) hS.2.2 dX5_lookBack_25
def fX5_setRow (p1 : Int32) (p2 : Int64) (p4 : Int32) (p5 : Int64) (c_hold : Nat → Int64) (c_value : Nat → Int64) (c_act : Nat → Int32) : Option ((Nat → Int64) × (Nat → Int64) × (Nat → Int32)) := bd1 (fX8_isRow p1) (fun r1 => if r1 = 0 then some (c_hold, c_value, c_act) else og (okI p1 128) (nm (vp_updL c_hold (Int32.toNatClampNeg p1) p2) (fun w5 => og (okI p1 128) (nm (upd c_act (Int32.toNatClampNeg p1) p4) (fun w7 => og (okI p1 128) (nm (vp_updL c_value (Int32.toNatClampNeg p1) p5) (fun w9 => some (w5, w9, w7))))))))
abbrev rmX5_setRow : Room := { frames := 1, cells := 0, slots := 0, locals := 20 }
set_option maxHeartbeats 4000000 in
set_option maxRecDepth 100000 in
theorem tX5_setRow (l : Launch) (dC : Nat → ClassId) (dI : Nat → Nat → Nat) (dA : Nat → ClassId) (ad : Nat → Nat) (sz : Nat) {p1 : Int32} {p2 : Int64} {p4 : Int32} {p5 : Int64} {c_tree_parts : Nat → Int32} {c_bond_terms : Nat → Int32} {c_penceByUps : Nat → Int64} {c_pence : Nat → Int64} {c_turned : Nat → Int64} {c_called : Nat → Int64} {c_hold : Nat → Int64} {c_value : Nat → Int64} {c_marks : Nat → Int32} {c_act : Nat → Int32} {c_rowOfKey : Nat → Int32} {o_c_hold : Nat → Int64} {o_c_value : Nat → Int64} {o_c_act : Nat → Int32} (hf : fX5_setRow p1 p2 p4 p5 c_hold c_value c_act = some (o_c_hold, o_c_value, o_c_act)) : Met l yX5_setRow (wq (Cond.code yX5_setRow cX5_setRow 7 none)) rmX5_setRow (gP [.ref (ad 0), .int p1, .long p2, .int p4, .long p5] (dC, dI) dA (wX5 dA ad c_tree_parts c_bond_terms c_penceByUps c_pence c_turned c_called c_hold c_value c_marks c_act c_rowOfKey) sz) (gQv (dC, dI) (wX5 dA ad c_tree_parts c_bond_terms c_penceByUps c_pence c_turned c_called o_c_hold o_c_value c_marks o_c_act c_rowOfKey) (va_A (wX5 dA ad c_tree_parts c_bond_terms c_penceByUps c_pence c_turned c_called c_hold c_value c_marks c_act c_rowOfKey) sz)) 0 0 (va_A (wX5 dA ad c_tree_parts c_bond_terms c_penceByUps c_pence c_turned c_called c_hold c_value c_marks c_act c_rowOfKey) sz) := by
  refine Met.ofW (cc := cX5_setRow) (maxL := 7) (ret := none) (by decide) rfl ?_
  intro p e s m args below meth c s₁ B hml hv
  obtain ⟨rfl, hsz, hP, hK, hD0⟩ := hv
  have hx := B.exec
  have hb := B.bytes
  have hr := B.returns
  have hts := atoms_spec (ws := wq (Cond.code yX5_setRow cX5_setRow 7 none)) B.pre
  have hown : s.vm.findClass RX5 = some m.cls := findClass_of_methodNamed B.named
  have hlocks := B.notSynchronized
  clear B
  subst hsz
  have hD := hD0.self (sz := s.heap.size)
  generalize hAe : va_A (wX5 dA ad c_tree_parts c_bond_terms c_penceByUps c_pence c_turned c_called c_hold c_value c_marks c_act c_rowOfKey) s.heap.size = A at hD ⊢
  have hA : ∀ q : Nat, s.heap.size ≤ q → A q := fun q h => by rw [← hAe]; exact Or.inr h
  clear hAe hD0
  have hS : va_S A s.heap s.heap [] := va_S.rf
  have hl := lv_entry ([.ref (ad 0), .int p1, .long p2, .int p4, .long p5]) (n := 7) (Nat.le_of_ble_eq_true rfl)
  rw [lg_entry_eq]
  generalize (lg_sl ([.ref (ad 0), .int p1, .long p2, .int p4, .long p5]) ++ List.replicate (7 - (lg_sl ([.ref (ad 0), .int p1, .long p2, .int p4, .long p5])).length) Slot.unset).toArray = ls at hl ⊢
  have hl : lv_has ls 7 [(0, .ref (ad 0)), (1, .int p1), (2, .long p2), (4, .int p4), (5, .long p5)] := hl
  change W p l e rmX5_setRow s m ([.ref (ad 0), .int p1, .long p2, .int p4, .long p5] : List Value).toArray below meth c s.heap [] 0 0 _ _
  unfold fX5_setRow at hf
  refine lv_iload_n hx hb dX5_setRow_0 rfl (lv_at hl 1 rfl) ?_
  obtain ⟨r1, v2, hf⟩ := bd1_some hf
  refine gci0 (va_runSN (As := [.int p1]) (rest := []) ⟨hx, hb, hml, hown, hts⟩ (tX8_isRow l dC dI dA s.heap.size v2) (ccX5_X8_isRow hK.2 hts ⟨Nat.le_of_ble_eq_true rfl, Nat.le_of_ble_eq_true rfl⟩) (gPreS0 hK) rfl rfl hl.1 rfl (lv_room (Nat.le_of_ble_eq_true rfl)) dX5_setRow_1 ⟨Nat.le_of_ble_eq_true rfl, Nat.le_of_ble_eq_true rfl⟩) hP hS hA (fun H locs hP hS => ?_)
  refine lv_if_eq (tgt := 30) hx hb dX5_setRow_4 (by decide) (fun k3 => ?_) (fun k3 => ?_)
  · replace hf := ifp k3 hf
    cases hf
    exact W.vret hx hb hr (fun t ht _ => gqv hP hD hS ht) hS.2.2 dX5_setRow_30
  · replace hf := ifn k3 hf
    refine lv_aload_n hx hb dX5_setRow_7 rfl (lv_at hl 0 rfl) ?_
    refine va_get (D := (dC, dI)) (ci := 5) (v := .ref (ad 9)) (C := RX5) (T := TX5) (N := 11) hx hb hts (fun w h => gw_mem (inX5 w h)) hown hK.1 hP 0 rfl rfl 6 (by decide) (hts _ (gw_mem wfX5_38)) (fun _ h9 => h9) rfl dX5_setRow_8 ?_
    refine lv_iload_n hx hb dX5_setRow_11 rfl (lv_at hl 1 rfl) ?_
    refine lv_lload_n hx hb dX5_setRow_12 rfl (lv_at hl 2 rfl) ?_
    obtain ⟨h4, hf⟩ := og_some hf
    obtain ⟨w5, ew5⟩ : ∃ y : Nat → Int64, y = vp_updL c_hold (Int32.toNatClampNeg p1) p2 := ⟨_, rfl⟩
    replace hf := nm_at hf ew5
    refine va_last hx hb hK.1 hP hD hS 9 1 rfl rfl (okI_in h4) dX5_setRow_13 (fun H locs hP hD hS => ?_)
    have hP : va_P (dC, dI) vwCl (wX5 dA ad c_tree_parts c_bond_terms c_penceByUps c_pence c_turned c_called w5 c_value c_marks c_act c_rowOfKey) H := by rw [ew5]; exact hP
    have hD : va_D A (wX5 dA ad c_tree_parts c_bond_terms c_penceByUps c_pence c_turned c_called w5 c_value c_marks c_act c_rowOfKey) := by rw [ew5]; exact hD
    refine lv_aload_n hx hb dX5_setRow_14 rfl (lv_at hl 0 rfl) ?_
    refine va_get (D := (dC, dI)) (ci := 5) (v := .ref (ad 12)) (C := RX5) (T := TX5) (N := 11) hx hb hts (fun w h => gw_mem (inX5 w h)) hown hK.1 hP 0 rfl rfl 9 (by decide) (hts _ (gw_mem wfX5_48)) (fun _ h9 => h9) rfl dX5_setRow_15 ?_
    refine lv_iload_n hx hb dX5_setRow_18 rfl (lv_at hl 1 rfl) ?_
    refine lv_iload hx hb dX5_setRow_19 (lv_at hl 3 rfl) ?_
    obtain ⟨h6, hf⟩ := og_some hf
    obtain ⟨w7, ew7⟩ : ∃ y : Nat → Int32, y = upd c_act (Int32.toNatClampNeg p1) p4 := ⟨_, rfl⟩
    replace hf := nm_at hf ew7
    refine va_iast hx hb hK.1 hP hD hS 12 0 rfl rfl (okI_in h6) dX5_setRow_21 (fun H locs hP hD hS => ?_)
    have hP : va_P (dC, dI) vwCl (wX5 dA ad c_tree_parts c_bond_terms c_penceByUps c_pence c_turned c_called w5 c_value c_marks w7 c_rowOfKey) H := by rw [ew7]; exact hP
    have hD : va_D A (wX5 dA ad c_tree_parts c_bond_terms c_penceByUps c_pence c_turned c_called w5 c_value c_marks w7 c_rowOfKey) := by rw [ew7]; exact hD
    refine lv_aload_n hx hb dX5_setRow_22 rfl (lv_at hl 0 rfl) ?_
    refine va_get (D := (dC, dI)) (ci := 5) (v := .ref (ad 10)) (C := RX5) (T := TX5) (N := 11) hx hb hts (fun w h => gw_mem (inX5 w h)) hown hK.1 hP 0 rfl rfl 7 (by decide) (hts _ (gw_mem wfX5_41)) (fun _ h9 => h9) rfl dX5_setRow_23 ?_
    refine lv_iload_n hx hb dX5_setRow_26 rfl (lv_at hl 1 rfl) ?_
    refine lv_lload hx hb dX5_setRow_27 (lv_at hl 4 rfl) ?_
    obtain ⟨h8, hf⟩ := og_some hf
    obtain ⟨w9, ew9⟩ : ∃ y : Nat → Int64, y = vp_updL c_value (Int32.toNatClampNeg p1) p5 := ⟨_, rfl⟩
    replace hf := nm_at hf ew9
    refine va_last hx hb hK.1 hP hD hS 10 1 rfl rfl (okI_in h8) dX5_setRow_29 (fun H locs hP hD hS => ?_)
    have hP : va_P (dC, dI) vwCl (wX5 dA ad c_tree_parts c_bond_terms c_penceByUps c_pence c_turned c_called w5 w9 c_marks w7 c_rowOfKey) H := by rw [ew9]; exact hP
    have hD : va_D A (wX5 dA ad c_tree_parts c_bond_terms c_penceByUps c_pence c_turned c_called w5 w9 c_marks w7 c_rowOfKey) := by rw [ew9]; exact hD
    cases hf
    exact W.vret hx hb hr (fun t ht _ => gqv hP hD hS ht) hS.2.2 dX5_setRow_30
theorem ccX5_X0_couponOn {R : Room} {s : State} {args : Array Value} {c0 : Cond} (ht : ∀ w ∈ wq c0, w.before args s = true) (hR : rmX0_couponOn.frames + 1 ≤ R.frames ∧ 8 + (2 + 11) + rmX0_couponOn.locals ≤ R.locals) : CallW R s args RX5 RX0 137 yX0_couponOn cX0_couponOn 2 (some .int) (wq (.code yX0_couponOn cX0_couponOn 2 (some .int))) rmX0_couponOn 0 0 1 := gCW 1 ht wcX0_couponOn wmX5_137 wiX0_couponOn weX0_couponOn wnX0 (by decide +kernel) rfl rfl hR
theorem ccX5_X5_setRow {R : Room} {s : State} {args : Array Value} {c0 : Cond} (ht : ∀ w ∈ wq c0, w.before args s = true) (hR : rmX5_setRow.frames + 1 ≤ R.frames ∧ 8 + (7 + 11) + rmX5_setRow.locals ≤ R.locals) : CallW R s args RX5 RX5 147 yX5_setRow cX5_setRow 7 none (wq (.code yX5_setRow cX5_setRow 7 none)) rmX5_setRow 0 0 4 := gCW 4 ht wcX5_setRow wmX5_147 wiX5_setRow weX5_setRow wnX5 (by decide +kernel) rfl rfl hR
theorem ccX5_X5_lookBack {R : Room} {s : State} {args : Array Value} {c0 : Cond} (ht : ∀ w ∈ wq c0, w.before args s = true) (hR : rmX5_lookBack.frames + 1 ≤ R.frames ∧ 8 + (2 + 11) + rmX5_lookBack.locals ≤ R.locals) : CallW R s args RX5 RX5 151 yX5_lookBack cX5_lookBack 2 (some .long) (wq (.code yX5_lookBack cX5_lookBack 2 (some .long))) rmX5_lookBack 0 0 1 := gCW 1 ht wcX5_lookBack wmX5_151 wiX5_lookBack weX5_lookBack wnX5 (by decide +kernel) rfl rfl hR
theorem ccX5_X0_putOn {R : Room} {s : State} {args : Array Value} {c0 : Cond} (ht : ∀ w ∈ wq c0, w.before args s = true) (hR : rmX0_putOn.frames + 1 ≤ R.frames ∧ 8 + (2 + 11) + rmX0_putOn.locals ≤ R.locals) : CallW R s args RX5 RX0 154 yX0_putOn cX0_putOn 2 (some .int) (wq (.code yX0_putOn cX0_putOn 2 (some .int))) rmX0_putOn 0 0 1 := gCW 1 ht wcX0_putOn wmX5_154 wiX0_putOn weX0_putOn wnX0 (by decide +kernel) rfl rfl hR
theorem ccX5_X5_calledAt {R : Room} {s : State} {args : Array Value} {c0 : Cond} (ht : ∀ w ∈ wq c0, w.before args s = true) (hR : rmX5_calledAt.frames + 1 ≤ R.frames ∧ 8 + (2 + 11) + rmX5_calledAt.locals ≤ R.locals) : CallW R s args RX5 RX5 157 yX5_calledAt cX5_calledAt 2 (some .long) (wq (.code yX5_calledAt cX5_calledAt 2 (some .long))) rmX5_calledAt 0 0 1 := gCW 1 ht wcX5_calledAt wmX5_157 wiX5_calledAt weX5_calledAt wnX5 (by decide +kernel) rfl rfl hR
theorem ccX5_X5_actWhenNotCalled {R : Room} {s : State} {args : Array Value} {c0 : Cond} (ht : ∀ w ∈ wq c0, w.before args s = true) (hR : rmX5_actWhenNotCalled.frames + 1 ≤ R.frames ∧ 8 + (6 + 11) + rmX5_actWhenNotCalled.locals ≤ R.locals) : CallB R s args RX5 160 yX5_actWhenNotCalled cX5_actWhenNotCalled 6 (some .int) (wq (.code yX5_actWhenNotCalled cX5_actWhenNotCalled 6 (some .int))) rmX5_actWhenNotCalled 0 0 3 ∧ (Cond.static yX5_actWhenNotCalled).before args s = true := gCS 3 ht wcX5_actWhenNotCalled wmX5_160 wtX5_actWhenNotCalled wnX5 (by decide +kernel) rfl rfl hR
theorem ccX5_X5_actOfCall {R : Room} {s : State} {args : Array Value} {c0 : Cond} (ht : ∀ w ∈ wq c0, w.before args s = true) (hR : rmX5_actOfCall.frames + 1 ≤ R.frames ∧ 8 + (3 + 11) + rmX5_actOfCall.locals ≤ R.locals) : CallW R s args RX5 RX5 164 yX5_actOfCall cX5_actOfCall 3 (some .int) (wq (.code yX5_actOfCall cX5_actOfCall 3 (some .int))) rmX5_actOfCall 0 0 2 := gCW 2 ht wcX5_actOfCall wmX5_164 wiX5_actOfCall weX5_actOfCall wnX5 (by decide +kernel) rfl rfl hR
def fX5_chooseBest (p1 : Int32) (p2 : Int32) (c_tree_parts : Nat → Int32) (c_bond_terms : Nat → Int32) (c_turned : Nat → Int64) (c_called : Nat → Int64) (c_hold : Nat → Int64) (c_value : Nat → Int64) (c_act : Nat → Int32) : Option ((Nat → Int64) × (Nat → Int64) × (Nat → Int32)) := bd1 (fX5_lookBack p1 c_tree_parts c_value) (fun r1 => bd1 (fX0_putOn p2 c_bond_terms) (fun r3 => nm (Int32.toInt64 r3) (fun w6 => bd1 (fX5_turnedAt p1 c_turned) (fun r7 => bd1 (fX5_calledAt p1 c_called) (fun r9 => if r9 < 0 then nm (if (if r7 < w6 then w6 else r7) < r1 then r1 else (if r7 < w6 then w6 else r7)) (fun w13 => bd1 (fX5_actWhenNotCalled r1 w6 r7) (fun r14 => bd1 (fX0_couponOn p2 c_bond_terms) (fun r17 => bd3 (fX5_setRow p1 r1 r14 ((Int32.toInt64 r17) + w13) c_hold c_value c_act) (fun c_hold_20 c_value_21 c_act_22 => some (c_hold_20, c_value_21, c_act_22))))) else if r1 ≤ r9 then nm (if (if r7 < w6 then w6 else r7) < r1 then r1 else (if r7 < w6 then w6 else r7)) (fun w26 => bd1 (fX5_actWhenNotCalled r1 w6 r7) (fun r27 => bd1 (fX0_couponOn p2 c_bond_terms) (fun r30 => bd3 (fX5_setRow p1 r1 r27 ((Int32.toInt64 r30) + w26) c_hold c_value c_act) (fun c_hold_33 c_value_34 c_act_35 => some (c_hold_33, c_value_34, c_act_35))))) else nm (if (if r7 < w6 then w6 else r7) < r9 then r9 else (if r7 < w6 then w6 else r7)) (fun w38 => bd1 (fX5_actWhenNotCalled r1 w6 r7) (fun r39 => if w6 ≤ r9 then bd1 (fX5_actOfCall p1 p2 c_bond_terms c_turned) (fun r43 => bd1 (fX0_couponOn p2 c_bond_terms) (fun r45 => bd3 (fX5_setRow p1 r1 r43 ((Int32.toInt64 r45) + w38) c_hold c_value c_act) (fun c_hold_48 c_value_49 c_act_50 => some (c_hold_48, c_value_49, c_act_50)))) else bd1 (fX0_couponOn p2 c_bond_terms) (fun r52 => bd3 (fX5_setRow p1 r1 1 ((Int32.toInt64 r52) + w38) c_hold c_value c_act) (fun c_hold_55 c_value_56 c_act_57 => some (c_hold_55, c_value_56, c_act_57))))))))))
abbrev rmX5_chooseBest : Room := { frames := 3, cells := 0, slots := 0, locals := 72 }
set_option maxHeartbeats 4000000 in
set_option maxRecDepth 100000 in
theorem tX5_chooseBest (l : Launch) (dC : Nat → ClassId) (dI : Nat → Nat → Nat) (dA : Nat → ClassId) (ad : Nat → Nat) (sz : Nat) {p1 : Int32} {p2 : Int32} {c_tree_parts : Nat → Int32} {c_bond_terms : Nat → Int32} {c_penceByUps : Nat → Int64} {c_pence : Nat → Int64} {c_turned : Nat → Int64} {c_called : Nat → Int64} {c_hold : Nat → Int64} {c_value : Nat → Int64} {c_marks : Nat → Int32} {c_act : Nat → Int32} {c_rowOfKey : Nat → Int32} {o_c_hold : Nat → Int64} {o_c_value : Nat → Int64} {o_c_act : Nat → Int32} (hf : fX5_chooseBest p1 p2 c_tree_parts c_bond_terms c_turned c_called c_hold c_value c_act = some (o_c_hold, o_c_value, o_c_act)) : Met l yX5_chooseBest (wq (Cond.code yX5_chooseBest cX5_chooseBest 15 none)) rmX5_chooseBest (gP [.ref (ad 0), .int p1, .int p2] (dC, dI) dA (wX5 dA ad c_tree_parts c_bond_terms c_penceByUps c_pence c_turned c_called c_hold c_value c_marks c_act c_rowOfKey) sz) (gQv (dC, dI) (wX5 dA ad c_tree_parts c_bond_terms c_penceByUps c_pence c_turned c_called o_c_hold o_c_value c_marks o_c_act c_rowOfKey) (va_A (wX5 dA ad c_tree_parts c_bond_terms c_penceByUps c_pence c_turned c_called c_hold c_value c_marks c_act c_rowOfKey) sz)) 0 0 (va_A (wX5 dA ad c_tree_parts c_bond_terms c_penceByUps c_pence c_turned c_called c_hold c_value c_marks c_act c_rowOfKey) sz) := by
  refine Met.ofW (cc := cX5_chooseBest) (maxL := 15) (ret := none) (by decide) rfl ?_
  intro p e s m args below meth c s₁ B hml hv
  obtain ⟨rfl, hsz, hP, hK, hD0⟩ := hv
  have hx := B.exec
  have hb := B.bytes
  have hr := B.returns
  have hts := atoms_spec (ws := wq (Cond.code yX5_chooseBest cX5_chooseBest 15 none)) B.pre
  have hown : s.vm.findClass RX5 = some m.cls := findClass_of_methodNamed B.named
  have hlocks := B.notSynchronized
  clear B
  subst hsz
  have hD := hD0.self (sz := s.heap.size)
  generalize hAe : va_A (wX5 dA ad c_tree_parts c_bond_terms c_penceByUps c_pence c_turned c_called c_hold c_value c_marks c_act c_rowOfKey) s.heap.size = A at hD ⊢
  have hA : ∀ q : Nat, s.heap.size ≤ q → A q := fun q h => by rw [← hAe]; exact Or.inr h
  clear hAe hD0
  have hS : va_S A s.heap s.heap [] := va_S.rf
  have hl := lv_entry ([.ref (ad 0), .int p1, .int p2]) (n := 15) (Nat.le_of_ble_eq_true rfl)
  rw [lg_entry_eq]
  generalize (lg_sl ([.ref (ad 0), .int p1, .int p2]) ++ List.replicate (15 - (lg_sl ([.ref (ad 0), .int p1, .int p2])).length) Slot.unset).toArray = ls at hl ⊢
  have hl : lv_has ls 15 [(0, .ref (ad 0)), (1, .int p1), (2, .int p2)] := hl
  change W p l e rmX5_chooseBest s m ([.ref (ad 0), .int p1, .int p2] : List Value).toArray below meth c s.heap [] 0 0 _ _
  unfold fX5_chooseBest at hf
  refine lv_aload_n hx hb dX5_chooseBest_0 rfl (lv_at hl 0 rfl) ?_
  refine lv_iload_n hx hb dX5_chooseBest_1 rfl (lv_at hl 1 rfl) ?_
  obtain ⟨r1, v2, hf⟩ := bd1_some hf
  refine gcl (va_runV (As := [.int p1]) (rest := []) ⟨hx, hb, hml, hown, hts⟩ (tX5_lookBack l dC dI dA ad s.heap.size v2) (ccX5_X5_lookBack hts ⟨Nat.le_of_ble_eq_true rfl, Nat.le_of_ble_eq_true rfl⟩) (gPreV (ci := 5) (q0 := 0) hP hK hD rfl rfl) rfl rfl hl.1 rfl (lv_room (Nat.le_of_ble_eq_true rfl)) dX5_chooseBest_2 ⟨Nat.le_of_ble_eq_true rfl, Nat.le_of_ble_eq_true rfl⟩) hD hS hA (fun H locs hP hD hS => ?_)
  refine lv_lstore_n (lv' := [(3, .long r1), (0, .ref (ad 0)), (1, .int p1), (2, .int p2)]) hx hb dX5_chooseBest_5 rfl hl (by decide) rfl (fun ls hl => ?_)
  refine lv_aload_n hx hb dX5_chooseBest_6 rfl (lv_at hl 1 rfl) ?_
  refine va_get (D := (dC, dI)) (ci := 5) (v := .ref (ad 3)) (C := RX5) (T := TX5) (N := 11) hx hb hts (fun w h => gw_mem (inX5 w h)) hown hK.1 hP 0 rfl rfl 1 (by decide) (hts _ (gw_mem wfX5_21)) (fun _ h9 => h9) rfl dX5_chooseBest_7 ?_
  refine lv_iload_n hx hb dX5_chooseBest_10 rfl (lv_at hl 3 rfl) ?_
  obtain ⟨r3, v4, hf⟩ := bd1_some hf
  have z5 : [3, 4].map (fun i => ((wX5 dA ad c_tree_parts c_bond_terms c_penceByUps c_pence c_turned c_called c_hold c_value c_marks c_act c_rowOfKey))[i]?) = ((wX0 dA (fun i => ad (i + 3)) c_bond_terms)).map some := rfl
  refine gpi [3, 4] [0, 1, 2, 5, 6, 7, 8, 9, 10, 11, 12, 13] [0, 1, 2, 12, 13, 3, 4, 5, 6, 7, 8, 9, 10, 11] (wf := (wX5 dA ad c_tree_parts c_bond_terms c_penceByUps c_pence c_turned c_called c_hold c_value c_marks c_act c_rowOfKey)) (va_runV (As := [.int p2]) (rest := []) ⟨hx, hb, hml, hown, hts⟩ (tX0_putOn l dC dI dA (fun i => ad (i + 3)) H.size v4) (ccX5_X0_putOn hts ⟨Nat.le_of_ble_eq_true rfl, Nat.le_of_ble_eq_true rfl⟩) (gPreV (ci := 1) (q0 := 0) (gsub z5 hP) hK (gsubD z5 (by decide) hD) rfl rfl) rfl rfl hl.1 rfl (lv_room (Nat.le_of_ble_eq_true rfl)) dX5_chooseBest_11 ⟨Nat.le_of_ble_eq_true rfl, Nat.le_of_ble_eq_true rfl⟩) hP hD hS hA z5 rfl (by decide) (by decide) (by decide) rfl (fun H locs hP hD hS => ?_)
  refine lv_i2l hx hb dX5_chooseBest_14 rfl ?_
  refine lv_topl (fun w6 ew6 => ?_)
  replace hf := nm_at hf ew6
  refine lv_lstore (lv' := [(5, .long w6), (3, .long r1), (0, .ref (ad 0)), (1, .int p1), (2, .int p2)]) hx hb dX5_chooseBest_15 hl (by decide) rfl (fun ls hl => ?_)
  refine lv_aload_n hx hb dX5_chooseBest_17 rfl (lv_at hl 2 rfl) ?_
  refine lv_iload_n hx hb dX5_chooseBest_18 rfl (lv_at hl 3 rfl) ?_
  obtain ⟨r7, v8, hf⟩ := bd1_some hf
  refine gcl (va_runV (As := [.int p1]) (rest := []) ⟨hx, hb, hml, hown, hts⟩ (tX5_turnedAt l dC dI dA ad H.size v8) (ccX5_X5_turnedAt hts ⟨Nat.le_of_ble_eq_true rfl, Nat.le_of_ble_eq_true rfl⟩) (gPreV (ci := 5) (q0 := 0) hP hK hD rfl rfl) rfl rfl hl.1 rfl (lv_room (Nat.le_of_ble_eq_true rfl)) dX5_chooseBest_19 ⟨Nat.le_of_ble_eq_true rfl, Nat.le_of_ble_eq_true rfl⟩) hD hS hA (fun H locs hP hD hS => ?_)
  refine lv_lstore (lv' := [(7, .long r7), (5, .long w6), (3, .long r1), (0, .ref (ad 0)), (1, .int p1), (2, .int p2)]) hx hb dX5_chooseBest_22 hl (by decide) rfl (fun ls hl => ?_)
  refine lv_aload_n hx hb dX5_chooseBest_24 rfl (lv_at hl 3 rfl) ?_
  refine lv_iload_n hx hb dX5_chooseBest_25 rfl (lv_at hl 4 rfl) ?_
  obtain ⟨r9, v10, hf⟩ := bd1_some hf
  refine gcl (va_runV (As := [.int p1]) (rest := []) ⟨hx, hb, hml, hown, hts⟩ (tX5_calledAt l dC dI dA ad H.size v10) (ccX5_X5_calledAt hts ⟨Nat.le_of_ble_eq_true rfl, Nat.le_of_ble_eq_true rfl⟩) (gPreV (ci := 5) (q0 := 0) hP hK hD rfl rfl) rfl rfl hl.1 rfl (lv_room (Nat.le_of_ble_eq_true rfl)) dX5_chooseBest_26 ⟨Nat.le_of_ble_eq_true rfl, Nat.le_of_ble_eq_true rfl⟩) hD hS hA (fun H locs hP hD hS => ?_)
  refine lv_lstore (lv' := [(9, .long r9), (7, .long r7), (5, .long w6), (3, .long r1), (0, .ref (ad 0)), (1, .int p1), (2, .int p2)]) hx hb dX5_chooseBest_29 hl (by decide) rfl (fun ls hl => ?_)
  refine lv_lload hx hb dX5_chooseBest_31 (lv_at hl 0 rfl) ?_
  refine lv_lconst (v := 0) hx hb dX5_chooseBest_33 rfl ?_
  refine W.lcmp hx hb dX5_chooseBest_34 ?_
  refine lv_if_lt (tgt := 49) hx hb dX5_chooseBest_35 (by decide) (fun k11 => ?_) (fun k11 => ?_)
  · replace hf := ifp (lc_lt.mp k11) hf
    refine lv_iconst (v := 0) hx hb dX5_chooseBest_49 (by decide) ?_
    refine lv_istore (lv' := [(11, .int 0), (9, .long r9), (7, .long r7), (5, .long w6), (3, .long r1), (0, .ref (ad 0)), (1, .int p1), (2, .int p2)]) hx hb dX5_chooseBest_50 hl (by decide) rfl (fun ls hl => ?_)
    refine lv_iload hx hb dX5_chooseBest_52 (lv_at hl 0 rfl) ?_
    refine lv_if_eq (tgt := 62) hx hb dX5_chooseBest_54 (by decide) (fun k12 => ?_) (fun k12 => absurd k12 (by decide))
    refine lv_lload_n hx hb dX5_chooseBest_62 rfl (lv_at hl 4 rfl) ?_
    refine lv_lload hx hb dX5_chooseBest_63 (lv_at hl 3 rfl) ?_
    refine lv_lload hx hb dX5_chooseBest_65 (lv_at hl 2 rfl) ?_
    refine va_mmax_long hx hb (hml.trans hl.1.symm) hown (hts _ (gw_mem wmX5_134)) (hts _ (gw_mem wtJ9_max_f86c9)) (hts _ (gw_mem wnJ9)) (hts _ (gw_mem wcJ9_max_f86c9)) (Nat.le_of_ble_eq_true rfl) (Nat.le_of_ble_eq_true rfl) (Nat.le_of_ble_eq_true rfl) (Nat.le_of_ble_eq_true rfl) dX5_chooseBest_67 ?_
    refine va_mmax_long hx hb (hml.trans hl.1.symm) hown (hts _ (gw_mem wmX5_134)) (hts _ (gw_mem wtJ9_max_f86c9)) (hts _ (gw_mem wnJ9)) (hts _ (gw_mem wcJ9_max_f86c9)) (Nat.le_of_ble_eq_true rfl) (Nat.le_of_ble_eq_true rfl) (Nat.le_of_ble_eq_true rfl) (Nat.le_of_ble_eq_true rfl) dX5_chooseBest_70 ?_
    refine lv_topl (fun w13 ew13 => ?_)
    replace hf := nm_at hf ew13
    refine lv_lstore (lv' := [(12, .long w13), (11, .int 0), (9, .long r9), (7, .long r7), (5, .long w6), (3, .long r1), (0, .ref (ad 0)), (1, .int p1), (2, .int p2)]) hx hb dX5_chooseBest_73 hl (by decide) rfl (fun ls hl => ?_)
    refine lv_lload_n hx hb dX5_chooseBest_75 rfl (lv_at hl 5 rfl) ?_
    refine lv_lload hx hb dX5_chooseBest_76 (lv_at hl 4 rfl) ?_
    refine lv_lload hx hb dX5_chooseBest_78 (lv_at hl 3 rfl) ?_
    obtain ⟨r14, v15, hf⟩ := bd1_some hf
    refine gci0 (va_runS (As := [.long r1, .long w6, .long r7]) (rest := []) ⟨hx, hb, hml, hown, hts⟩ (tX5_actWhenNotCalled l dC dI dA H.size v15) (ccX5_X5_actWhenNotCalled hts ⟨Nat.le_of_ble_eq_true rfl, Nat.le_of_ble_eq_true rfl⟩) (gPreS0 hK) rfl rfl hl.1 rfl (lv_room (Nat.le_of_ble_eq_true rfl)) dX5_chooseBest_80 ⟨Nat.le_of_ble_eq_true rfl, Nat.le_of_ble_eq_true rfl⟩) hP hS hA (fun H locs hP hS => ?_)
    refine lv_istore (lv' := [(14, .int r14), (12, .long w13), (11, .int 0), (9, .long r9), (7, .long r7), (5, .long w6), (3, .long r1), (0, .ref (ad 0)), (1, .int p1), (2, .int p2)]) hx hb dX5_chooseBest_83 hl (by decide) rfl (fun ls hl => ?_)
    refine lv_iload hx hb dX5_chooseBest_85 (lv_at hl 2 rfl) ?_
    refine lv_if_eq (tgt := 110) hx hb dX5_chooseBest_87 (by decide) (fun k16 => ?_) (fun k16 => absurd k16 (by decide))
    refine lv_aload_n hx hb dX5_chooseBest_110 rfl (lv_at hl 7 rfl) ?_
    refine lv_iload_n hx hb dX5_chooseBest_111 rfl (lv_at hl 8 rfl) ?_
    refine lv_lload_n hx hb dX5_chooseBest_112 rfl (lv_at hl 6 rfl) ?_
    refine lv_iload hx hb dX5_chooseBest_113 (lv_at hl 0 rfl) ?_
    refine lv_aload_n hx hb dX5_chooseBest_115 rfl (lv_at hl 7 rfl) ?_
    refine va_get (D := (dC, dI)) (ci := 5) (v := .ref (ad 3)) (C := RX5) (T := TX5) (N := 11) hx hb hts (fun w h => gw_mem (inX5 w h)) hown hK.1 hP 0 rfl rfl 1 (by decide) (hts _ (gw_mem wfX5_21)) (fun _ h9 => h9) rfl dX5_chooseBest_116 ?_
    refine lv_iload_n hx hb dX5_chooseBest_119 rfl (lv_at hl 9 rfl) ?_
    obtain ⟨r17, v18, hf⟩ := bd1_some hf
    have z19 : [3, 4].map (fun i => ((wX5 dA ad c_tree_parts c_bond_terms c_penceByUps c_pence c_turned c_called c_hold c_value c_marks c_act c_rowOfKey))[i]?) = ((wX0 dA (fun i => ad (i + 3)) c_bond_terms)).map some := rfl
    refine gpi [3, 4] [0, 1, 2, 5, 6, 7, 8, 9, 10, 11, 12, 13] [0, 1, 2, 12, 13, 3, 4, 5, 6, 7, 8, 9, 10, 11] (wf := (wX5 dA ad c_tree_parts c_bond_terms c_penceByUps c_pence c_turned c_called c_hold c_value c_marks c_act c_rowOfKey)) (va_runV (As := [.int p2]) (rest := [.int r14, .long r1, .int p1, .ref (ad 0)]) ⟨hx, hb, hml, hown, hts⟩ (tX0_couponOn l dC dI dA (fun i => ad (i + 3)) H.size v18) (ccX5_X0_couponOn hts ⟨Nat.le_of_ble_eq_true rfl, Nat.le_of_ble_eq_true rfl⟩) (gPreV (ci := 1) (q0 := 0) (gsub z19 hP) hK (gsubD z19 (by decide) hD) rfl rfl) rfl rfl hl.1 rfl (lv_room (Nat.le_of_ble_eq_true rfl)) dX5_chooseBest_120 ⟨Nat.le_of_ble_eq_true rfl, Nat.le_of_ble_eq_true rfl⟩) hP hD hS hA z19 rfl (by decide) (by decide) (by decide) rfl (fun H locs hP hD hS => ?_)
    refine lv_i2l hx hb dX5_chooseBest_123 rfl ?_
    refine lv_lload hx hb dX5_chooseBest_124 (lv_at hl 1 rfl) ?_
    refine lv_ladd hx hb dX5_chooseBest_126 ?_
    obtain ⟨c_hold_20, c_value_21, c_act_22, v23, hf⟩ := bd3_some hf
    refine gcv (va_runV (As := [.int p1, .long r1, .int r14, .long ((Int32.toInt64 r17) + w13)]) (rest := []) ⟨hx, hb, hml, hown, hts⟩ (tX5_setRow l dC dI dA ad H.size v23) (ccX5_X5_setRow hts ⟨Nat.le_of_ble_eq_true rfl, Nat.le_of_ble_eq_true rfl⟩) (gPreV (ci := 5) (q0 := 0) hP hK hD rfl rfl) rfl rfl hl.1 rfl (lv_room (Nat.le_of_ble_eq_true rfl)) dX5_chooseBest_127 ⟨Nat.le_of_ble_eq_true rfl, Nat.le_of_ble_eq_true rfl⟩) hD hS hA (fun H locs hP hD hS => ?_)
    cases hf
    exact W.vret hx hb hr (fun t ht _ => gqv hP hD hS ht) hS.2.2 dX5_chooseBest_130
  · replace hf := ifn (fun h => k11 (lc_lt.mpr h)) hf
    refine lv_lload hx hb dX5_chooseBest_38 (lv_at hl 0 rfl) ?_
    refine lv_lload_n hx hb dX5_chooseBest_40 rfl (lv_at hl 3 rfl) ?_
    refine W.lcmp hx hb dX5_chooseBest_41 ?_
    refine lv_if_ge (tgt := 49) hx hb dX5_chooseBest_42 (by decide) (fun k24 => ?_) (fun k24 => ?_)
    · replace hf := ifp (lc_ge.mp k24) hf
      refine lv_iconst (v := 0) hx hb dX5_chooseBest_49 (by decide) ?_
      refine lv_istore (lv' := [(11, .int 0), (9, .long r9), (7, .long r7), (5, .long w6), (3, .long r1), (0, .ref (ad 0)), (1, .int p1), (2, .int p2)]) hx hb dX5_chooseBest_50 hl (by decide) rfl (fun ls hl => ?_)
      refine lv_iload hx hb dX5_chooseBest_52 (lv_at hl 0 rfl) ?_
      refine lv_if_eq (tgt := 62) hx hb dX5_chooseBest_54 (by decide) (fun k25 => ?_) (fun k25 => absurd k25 (by decide))
      refine lv_lload_n hx hb dX5_chooseBest_62 rfl (lv_at hl 4 rfl) ?_
      refine lv_lload hx hb dX5_chooseBest_63 (lv_at hl 3 rfl) ?_
      refine lv_lload hx hb dX5_chooseBest_65 (lv_at hl 2 rfl) ?_
      refine va_mmax_long hx hb (hml.trans hl.1.symm) hown (hts _ (gw_mem wmX5_134)) (hts _ (gw_mem wtJ9_max_f86c9)) (hts _ (gw_mem wnJ9)) (hts _ (gw_mem wcJ9_max_f86c9)) (Nat.le_of_ble_eq_true rfl) (Nat.le_of_ble_eq_true rfl) (Nat.le_of_ble_eq_true rfl) (Nat.le_of_ble_eq_true rfl) dX5_chooseBest_67 ?_
      refine va_mmax_long hx hb (hml.trans hl.1.symm) hown (hts _ (gw_mem wmX5_134)) (hts _ (gw_mem wtJ9_max_f86c9)) (hts _ (gw_mem wnJ9)) (hts _ (gw_mem wcJ9_max_f86c9)) (Nat.le_of_ble_eq_true rfl) (Nat.le_of_ble_eq_true rfl) (Nat.le_of_ble_eq_true rfl) (Nat.le_of_ble_eq_true rfl) dX5_chooseBest_70 ?_
      refine lv_topl (fun w26 ew26 => ?_)
      replace hf := nm_at hf ew26
      refine lv_lstore (lv' := [(12, .long w26), (11, .int 0), (9, .long r9), (7, .long r7), (5, .long w6), (3, .long r1), (0, .ref (ad 0)), (1, .int p1), (2, .int p2)]) hx hb dX5_chooseBest_73 hl (by decide) rfl (fun ls hl => ?_)
      refine lv_lload_n hx hb dX5_chooseBest_75 rfl (lv_at hl 5 rfl) ?_
      refine lv_lload hx hb dX5_chooseBest_76 (lv_at hl 4 rfl) ?_
      refine lv_lload hx hb dX5_chooseBest_78 (lv_at hl 3 rfl) ?_
      obtain ⟨r27, v28, hf⟩ := bd1_some hf
      refine gci0 (va_runS (As := [.long r1, .long w6, .long r7]) (rest := []) ⟨hx, hb, hml, hown, hts⟩ (tX5_actWhenNotCalled l dC dI dA H.size v28) (ccX5_X5_actWhenNotCalled hts ⟨Nat.le_of_ble_eq_true rfl, Nat.le_of_ble_eq_true rfl⟩) (gPreS0 hK) rfl rfl hl.1 rfl (lv_room (Nat.le_of_ble_eq_true rfl)) dX5_chooseBest_80 ⟨Nat.le_of_ble_eq_true rfl, Nat.le_of_ble_eq_true rfl⟩) hP hS hA (fun H locs hP hS => ?_)
      refine lv_istore (lv' := [(14, .int r27), (12, .long w26), (11, .int 0), (9, .long r9), (7, .long r7), (5, .long w6), (3, .long r1), (0, .ref (ad 0)), (1, .int p1), (2, .int p2)]) hx hb dX5_chooseBest_83 hl (by decide) rfl (fun ls hl => ?_)
      refine lv_iload hx hb dX5_chooseBest_85 (lv_at hl 2 rfl) ?_
      refine lv_if_eq (tgt := 110) hx hb dX5_chooseBest_87 (by decide) (fun k29 => ?_) (fun k29 => absurd k29 (by decide))
      refine lv_aload_n hx hb dX5_chooseBest_110 rfl (lv_at hl 7 rfl) ?_
      refine lv_iload_n hx hb dX5_chooseBest_111 rfl (lv_at hl 8 rfl) ?_
      refine lv_lload_n hx hb dX5_chooseBest_112 rfl (lv_at hl 6 rfl) ?_
      refine lv_iload hx hb dX5_chooseBest_113 (lv_at hl 0 rfl) ?_
      refine lv_aload_n hx hb dX5_chooseBest_115 rfl (lv_at hl 7 rfl) ?_
      refine va_get (D := (dC, dI)) (ci := 5) (v := .ref (ad 3)) (C := RX5) (T := TX5) (N := 11) hx hb hts (fun w h => gw_mem (inX5 w h)) hown hK.1 hP 0 rfl rfl 1 (by decide) (hts _ (gw_mem wfX5_21)) (fun _ h9 => h9) rfl dX5_chooseBest_116 ?_
      refine lv_iload_n hx hb dX5_chooseBest_119 rfl (lv_at hl 9 rfl) ?_
      obtain ⟨r30, v31, hf⟩ := bd1_some hf
      have z32 : [3, 4].map (fun i => ((wX5 dA ad c_tree_parts c_bond_terms c_penceByUps c_pence c_turned c_called c_hold c_value c_marks c_act c_rowOfKey))[i]?) = ((wX0 dA (fun i => ad (i + 3)) c_bond_terms)).map some := rfl
      refine gpi [3, 4] [0, 1, 2, 5, 6, 7, 8, 9, 10, 11, 12, 13] [0, 1, 2, 12, 13, 3, 4, 5, 6, 7, 8, 9, 10, 11] (wf := (wX5 dA ad c_tree_parts c_bond_terms c_penceByUps c_pence c_turned c_called c_hold c_value c_marks c_act c_rowOfKey)) (va_runV (As := [.int p2]) (rest := [.int r27, .long r1, .int p1, .ref (ad 0)]) ⟨hx, hb, hml, hown, hts⟩ (tX0_couponOn l dC dI dA (fun i => ad (i + 3)) H.size v31) (ccX5_X0_couponOn hts ⟨Nat.le_of_ble_eq_true rfl, Nat.le_of_ble_eq_true rfl⟩) (gPreV (ci := 1) (q0 := 0) (gsub z32 hP) hK (gsubD z32 (by decide) hD) rfl rfl) rfl rfl hl.1 rfl (lv_room (Nat.le_of_ble_eq_true rfl)) dX5_chooseBest_120 ⟨Nat.le_of_ble_eq_true rfl, Nat.le_of_ble_eq_true rfl⟩) hP hD hS hA z32 rfl (by decide) (by decide) (by decide) rfl (fun H locs hP hD hS => ?_)
      refine lv_i2l hx hb dX5_chooseBest_123 rfl ?_
      refine lv_lload hx hb dX5_chooseBest_124 (lv_at hl 1 rfl) ?_
      refine lv_ladd hx hb dX5_chooseBest_126 ?_
      obtain ⟨c_hold_33, c_value_34, c_act_35, v36, hf⟩ := bd3_some hf
      refine gcv (va_runV (As := [.int p1, .long r1, .int r27, .long ((Int32.toInt64 r30) + w26)]) (rest := []) ⟨hx, hb, hml, hown, hts⟩ (tX5_setRow l dC dI dA ad H.size v36) (ccX5_X5_setRow hts ⟨Nat.le_of_ble_eq_true rfl, Nat.le_of_ble_eq_true rfl⟩) (gPreV (ci := 5) (q0 := 0) hP hK hD rfl rfl) rfl rfl hl.1 rfl (lv_room (Nat.le_of_ble_eq_true rfl)) dX5_chooseBest_127 ⟨Nat.le_of_ble_eq_true rfl, Nat.le_of_ble_eq_true rfl⟩) hD hS hA (fun H locs hP hD hS => ?_)
      cases hf
      exact W.vret hx hb hr (fun t ht _ => gqv hP hD hS ht) hS.2.2 dX5_chooseBest_130
    · replace hf := ifn (fun h => k24 (lc_ge.mpr h)) hf
      refine lv_iconst (v := 1) hx hb dX5_chooseBest_45 (by decide) ?_
      refine lv_goto (tgt := 50) hx hb dX5_chooseBest_46 (by decide) ?_
      refine lv_istore (lv' := [(11, .int 1), (9, .long r9), (7, .long r7), (5, .long w6), (3, .long r1), (0, .ref (ad 0)), (1, .int p1), (2, .int p2)]) hx hb dX5_chooseBest_50 hl (by decide) rfl (fun ls hl => ?_)
      refine lv_iload hx hb dX5_chooseBest_52 (lv_at hl 0 rfl) ?_
      refine lv_if_eq (tgt := 62) hx hb dX5_chooseBest_54 (by decide) (fun k37 => absurd k37 (by decide)) (fun k37 => ?_)
      refine lv_lload hx hb dX5_chooseBest_57 (lv_at hl 1 rfl) ?_
      refine lv_goto (tgt := 63) hx hb dX5_chooseBest_59 (by decide) ?_
      refine lv_lload hx hb dX5_chooseBest_63 (lv_at hl 3 rfl) ?_
      refine lv_lload hx hb dX5_chooseBest_65 (lv_at hl 2 rfl) ?_
      refine va_mmax_long hx hb (hml.trans hl.1.symm) hown (hts _ (gw_mem wmX5_134)) (hts _ (gw_mem wtJ9_max_f86c9)) (hts _ (gw_mem wnJ9)) (hts _ (gw_mem wcJ9_max_f86c9)) (Nat.le_of_ble_eq_true rfl) (Nat.le_of_ble_eq_true rfl) (Nat.le_of_ble_eq_true rfl) (Nat.le_of_ble_eq_true rfl) dX5_chooseBest_67 ?_
      refine va_mmax_long hx hb (hml.trans hl.1.symm) hown (hts _ (gw_mem wmX5_134)) (hts _ (gw_mem wtJ9_max_f86c9)) (hts _ (gw_mem wnJ9)) (hts _ (gw_mem wcJ9_max_f86c9)) (Nat.le_of_ble_eq_true rfl) (Nat.le_of_ble_eq_true rfl) (Nat.le_of_ble_eq_true rfl) (Nat.le_of_ble_eq_true rfl) dX5_chooseBest_70 ?_
      refine lv_topl (fun w38 ew38 => ?_)
      replace hf := nm_at hf ew38
      refine lv_lstore (lv' := [(12, .long w38), (11, .int 1), (9, .long r9), (7, .long r7), (5, .long w6), (3, .long r1), (0, .ref (ad 0)), (1, .int p1), (2, .int p2)]) hx hb dX5_chooseBest_73 hl (by decide) rfl (fun ls hl => ?_)
      refine lv_lload_n hx hb dX5_chooseBest_75 rfl (lv_at hl 5 rfl) ?_
      refine lv_lload hx hb dX5_chooseBest_76 (lv_at hl 4 rfl) ?_
      refine lv_lload hx hb dX5_chooseBest_78 (lv_at hl 3 rfl) ?_
      obtain ⟨r39, v40, hf⟩ := bd1_some hf
      refine gci0 (va_runS (As := [.long r1, .long w6, .long r7]) (rest := []) ⟨hx, hb, hml, hown, hts⟩ (tX5_actWhenNotCalled l dC dI dA H.size v40) (ccX5_X5_actWhenNotCalled hts ⟨Nat.le_of_ble_eq_true rfl, Nat.le_of_ble_eq_true rfl⟩) (gPreS0 hK) rfl rfl hl.1 rfl (lv_room (Nat.le_of_ble_eq_true rfl)) dX5_chooseBest_80 ⟨Nat.le_of_ble_eq_true rfl, Nat.le_of_ble_eq_true rfl⟩) hP hS hA (fun H locs hP hS => ?_)
      refine lv_istore (lv' := [(14, .int r39), (12, .long w38), (11, .int 1), (9, .long r9), (7, .long r7), (5, .long w6), (3, .long r1), (0, .ref (ad 0)), (1, .int p1), (2, .int p2)]) hx hb dX5_chooseBest_83 hl (by decide) rfl (fun ls hl => ?_)
      refine lv_iload hx hb dX5_chooseBest_85 (lv_at hl 2 rfl) ?_
      refine lv_if_eq (tgt := 110) hx hb dX5_chooseBest_87 (by decide) (fun k41 => absurd k41 (by decide)) (fun k41 => ?_)
      refine lv_lload hx hb dX5_chooseBest_90 (lv_at hl 5 rfl) ?_
      refine lv_lload hx hb dX5_chooseBest_92 (lv_at hl 3 rfl) ?_
      refine W.lcmp hx hb dX5_chooseBest_94 ?_
      refine lv_if_le (tgt := 102) hx hb dX5_chooseBest_95 (by decide) (fun k42 => ?_) (fun k42 => ?_)
      · replace hf := ifp (lc_le.mp k42) hf
        refine lv_aload_n hx hb dX5_chooseBest_102 rfl (lv_at hl 7 rfl) ?_
        refine lv_iload_n hx hb dX5_chooseBest_103 rfl (lv_at hl 8 rfl) ?_
        refine lv_iload_n hx hb dX5_chooseBest_104 rfl (lv_at hl 9 rfl) ?_
        obtain ⟨r43, v44, hf⟩ := bd1_some hf
        refine gci (va_runV (As := [.int p1, .int p2]) (rest := []) ⟨hx, hb, hml, hown, hts⟩ (tX5_actOfCall l dC dI dA ad H.size v44) (ccX5_X5_actOfCall hts ⟨Nat.le_of_ble_eq_true rfl, Nat.le_of_ble_eq_true rfl⟩) (gPreV (ci := 5) (q0 := 0) hP hK hD rfl rfl) rfl rfl hl.1 rfl (lv_room (Nat.le_of_ble_eq_true rfl)) dX5_chooseBest_105 ⟨Nat.le_of_ble_eq_true rfl, Nat.le_of_ble_eq_true rfl⟩) hD hS hA (fun H locs hP hD hS => ?_)
        refine lv_istore (lv' := [(14, .int r43), (12, .long w38), (11, .int 1), (9, .long r9), (7, .long r7), (5, .long w6), (3, .long r1), (0, .ref (ad 0)), (1, .int p1), (2, .int p2)]) hx hb dX5_chooseBest_108 hl (by decide) rfl (fun ls hl => ?_)
        refine lv_aload_n hx hb dX5_chooseBest_110 rfl (lv_at hl 7 rfl) ?_
        refine lv_iload_n hx hb dX5_chooseBest_111 rfl (lv_at hl 8 rfl) ?_
        refine lv_lload_n hx hb dX5_chooseBest_112 rfl (lv_at hl 6 rfl) ?_
        refine lv_iload hx hb dX5_chooseBest_113 (lv_at hl 0 rfl) ?_
        refine lv_aload_n hx hb dX5_chooseBest_115 rfl (lv_at hl 7 rfl) ?_
        refine va_get (D := (dC, dI)) (ci := 5) (v := .ref (ad 3)) (C := RX5) (T := TX5) (N := 11) hx hb hts (fun w h => gw_mem (inX5 w h)) hown hK.1 hP 0 rfl rfl 1 (by decide) (hts _ (gw_mem wfX5_21)) (fun _ h9 => h9) rfl dX5_chooseBest_116 ?_
        refine lv_iload_n hx hb dX5_chooseBest_119 rfl (lv_at hl 9 rfl) ?_
        obtain ⟨r45, v46, hf⟩ := bd1_some hf
        have z47 : [3, 4].map (fun i => ((wX5 dA ad c_tree_parts c_bond_terms c_penceByUps c_pence c_turned c_called c_hold c_value c_marks c_act c_rowOfKey))[i]?) = ((wX0 dA (fun i => ad (i + 3)) c_bond_terms)).map some := rfl
        refine gpi [3, 4] [0, 1, 2, 5, 6, 7, 8, 9, 10, 11, 12, 13] [0, 1, 2, 12, 13, 3, 4, 5, 6, 7, 8, 9, 10, 11] (wf := (wX5 dA ad c_tree_parts c_bond_terms c_penceByUps c_pence c_turned c_called c_hold c_value c_marks c_act c_rowOfKey)) (va_runV (As := [.int p2]) (rest := [.int r43, .long r1, .int p1, .ref (ad 0)]) ⟨hx, hb, hml, hown, hts⟩ (tX0_couponOn l dC dI dA (fun i => ad (i + 3)) H.size v46) (ccX5_X0_couponOn hts ⟨Nat.le_of_ble_eq_true rfl, Nat.le_of_ble_eq_true rfl⟩) (gPreV (ci := 1) (q0 := 0) (gsub z47 hP) hK (gsubD z47 (by decide) hD) rfl rfl) rfl rfl hl.1 rfl (lv_room (Nat.le_of_ble_eq_true rfl)) dX5_chooseBest_120 ⟨Nat.le_of_ble_eq_true rfl, Nat.le_of_ble_eq_true rfl⟩) hP hD hS hA z47 rfl (by decide) (by decide) (by decide) rfl (fun H locs hP hD hS => ?_)
        refine lv_i2l hx hb dX5_chooseBest_123 rfl ?_
        refine lv_lload hx hb dX5_chooseBest_124 (lv_at hl 1 rfl) ?_
        refine lv_ladd hx hb dX5_chooseBest_126 ?_
        obtain ⟨c_hold_48, c_value_49, c_act_50, v51, hf⟩ := bd3_some hf
        refine gcv (va_runV (As := [.int p1, .long r1, .int r43, .long ((Int32.toInt64 r45) + w38)]) (rest := []) ⟨hx, hb, hml, hown, hts⟩ (tX5_setRow l dC dI dA ad H.size v51) (ccX5_X5_setRow hts ⟨Nat.le_of_ble_eq_true rfl, Nat.le_of_ble_eq_true rfl⟩) (gPreV (ci := 5) (q0 := 0) hP hK hD rfl rfl) rfl rfl hl.1 rfl (lv_room (Nat.le_of_ble_eq_true rfl)) dX5_chooseBest_127 ⟨Nat.le_of_ble_eq_true rfl, Nat.le_of_ble_eq_true rfl⟩) hD hS hA (fun H locs hP hD hS => ?_)
        cases hf
        exact W.vret hx hb hr (fun t ht _ => gqv hP hD hS ht) hS.2.2 dX5_chooseBest_130
      · replace hf := ifn (fun h => k42 (lc_le.mpr h)) hf
        refine lv_iconst (v := 1) hx hb dX5_chooseBest_98 (by decide) ?_
        refine lv_goto (tgt := 108) hx hb dX5_chooseBest_99 (by decide) ?_
        refine lv_istore (lv' := [(14, .int 1), (12, .long w38), (11, .int 1), (9, .long r9), (7, .long r7), (5, .long w6), (3, .long r1), (0, .ref (ad 0)), (1, .int p1), (2, .int p2)]) hx hb dX5_chooseBest_108 hl (by decide) rfl (fun ls hl => ?_)
        refine lv_aload_n hx hb dX5_chooseBest_110 rfl (lv_at hl 7 rfl) ?_
        refine lv_iload_n hx hb dX5_chooseBest_111 rfl (lv_at hl 8 rfl) ?_
        refine lv_lload_n hx hb dX5_chooseBest_112 rfl (lv_at hl 6 rfl) ?_
        refine lv_iload hx hb dX5_chooseBest_113 (lv_at hl 0 rfl) ?_
        refine lv_aload_n hx hb dX5_chooseBest_115 rfl (lv_at hl 7 rfl) ?_
        refine va_get (D := (dC, dI)) (ci := 5) (v := .ref (ad 3)) (C := RX5) (T := TX5) (N := 11) hx hb hts (fun w h => gw_mem (inX5 w h)) hown hK.1 hP 0 rfl rfl 1 (by decide) (hts _ (gw_mem wfX5_21)) (fun _ h9 => h9) rfl dX5_chooseBest_116 ?_
        refine lv_iload_n hx hb dX5_chooseBest_119 rfl (lv_at hl 9 rfl) ?_
        obtain ⟨r52, v53, hf⟩ := bd1_some hf
        have z54 : [3, 4].map (fun i => ((wX5 dA ad c_tree_parts c_bond_terms c_penceByUps c_pence c_turned c_called c_hold c_value c_marks c_act c_rowOfKey))[i]?) = ((wX0 dA (fun i => ad (i + 3)) c_bond_terms)).map some := rfl
        refine gpi [3, 4] [0, 1, 2, 5, 6, 7, 8, 9, 10, 11, 12, 13] [0, 1, 2, 12, 13, 3, 4, 5, 6, 7, 8, 9, 10, 11] (wf := (wX5 dA ad c_tree_parts c_bond_terms c_penceByUps c_pence c_turned c_called c_hold c_value c_marks c_act c_rowOfKey)) (va_runV (As := [.int p2]) (rest := [.int 1, .long r1, .int p1, .ref (ad 0)]) ⟨hx, hb, hml, hown, hts⟩ (tX0_couponOn l dC dI dA (fun i => ad (i + 3)) H.size v53) (ccX5_X0_couponOn hts ⟨Nat.le_of_ble_eq_true rfl, Nat.le_of_ble_eq_true rfl⟩) (gPreV (ci := 1) (q0 := 0) (gsub z54 hP) hK (gsubD z54 (by decide) hD) rfl rfl) rfl rfl hl.1 rfl (lv_room (Nat.le_of_ble_eq_true rfl)) dX5_chooseBest_120 ⟨Nat.le_of_ble_eq_true rfl, Nat.le_of_ble_eq_true rfl⟩) hP hD hS hA z54 rfl (by decide) (by decide) (by decide) rfl (fun H locs hP hD hS => ?_)
        refine lv_i2l hx hb dX5_chooseBest_123 rfl ?_
        refine lv_lload hx hb dX5_chooseBest_124 (lv_at hl 1 rfl) ?_
        refine lv_ladd hx hb dX5_chooseBest_126 ?_
        obtain ⟨c_hold_55, c_value_56, c_act_57, v58, hf⟩ := bd3_some hf
        refine gcv (va_runV (As := [.int p1, .long r1, .int 1, .long ((Int32.toInt64 r52) + w38)]) (rest := []) ⟨hx, hb, hml, hown, hts⟩ (tX5_setRow l dC dI dA ad H.size v58) (ccX5_X5_setRow hts ⟨Nat.le_of_ble_eq_true rfl, Nat.le_of_ble_eq_true rfl⟩) (gPreV (ci := 5) (q0 := 0) hP hK hD rfl rfl) rfl rfl hl.1 rfl (lv_room (Nat.le_of_ble_eq_true rfl)) dX5_chooseBest_127 ⟨Nat.le_of_ble_eq_true rfl, Nat.le_of_ble_eq_true rfl⟩) hD hS hA (fun H locs hP hD hS => ?_)
        cases hf
        exact W.vret hx hb hr (fun t ht _ => gqv hP hD hS ht) hS.2.2 dX5_chooseBest_130
theorem ccX5_X0_face {R : Room} {s : State} {args : Array Value} {c0 : Cond} (ht : ∀ w ∈ wq c0, w.before args s = true) (hR : rmX0_face.frames + 1 ≤ R.frames ∧ 8 + (1 + 11) + rmX0_face.locals ≤ R.locals) : CallW R s args RX5 RX0 144 yX0_face cX0_face 1 (some .int) (wq (.code yX0_face cX0_face 1 (some .int))) rmX0_face 0 0 0 := gCW 0 ht wcX0_face wmX5_144 wiX0_face weX0_face wnX0 (by decide +kernel) rfl rfl hR
def fX5_endOnLastDay (p1 : Int32) (c_tree_parts : Nat → Int32) (c_bond_terms : Nat → Int32) (c_turned : Nat → Int64) (c_hold : Nat → Int64) (c_value : Nat → Int64) (c_act : Nat → Int32) : Option ((Nat → Int64) × (Nat → Int64) × (Nat → Int32)) := bd1 (fX7_lastDay c_tree_parts) (fun r1 => bd1 (fX0_couponOn r1 c_bond_terms) (fun r4 => bd1 (fX5_turnedAt p1 c_turned) (fun r7 => bd1 (fX0_face c_bond_terms) (fun r9 => if r7 ≤ (Int32.toInt64 r9) then bd1 (fX0_face c_bond_terms) (fun r13 => bd3 (fX5_setRow p1 (-2) 5 (Int32.toInt64 (r4 + r13)) c_hold c_value c_act) (fun c_hold_16 c_value_17 c_act_18 => some (c_hold_16, c_value_17, c_act_18))) else bd3 (fX5_setRow p1 (-2) 6 ((Int32.toInt64 r4) + r7) c_hold c_value c_act) (fun c_hold_20 c_value_21 c_act_22 => some (c_hold_20, c_value_21, c_act_22))))))
abbrev rmX5_endOnLastDay : Room := { frames := 2, cells := 0, slots := 0, locals := 46 }
set_option maxHeartbeats 4000000 in
set_option maxRecDepth 100000 in
theorem tX5_endOnLastDay (l : Launch) (dC : Nat → ClassId) (dI : Nat → Nat → Nat) (dA : Nat → ClassId) (ad : Nat → Nat) (sz : Nat) {p1 : Int32} {c_tree_parts : Nat → Int32} {c_bond_terms : Nat → Int32} {c_penceByUps : Nat → Int64} {c_pence : Nat → Int64} {c_turned : Nat → Int64} {c_called : Nat → Int64} {c_hold : Nat → Int64} {c_value : Nat → Int64} {c_marks : Nat → Int32} {c_act : Nat → Int32} {c_rowOfKey : Nat → Int32} {o_c_hold : Nat → Int64} {o_c_value : Nat → Int64} {o_c_act : Nat → Int32} (hf : fX5_endOnLastDay p1 c_tree_parts c_bond_terms c_turned c_hold c_value c_act = some (o_c_hold, o_c_value, o_c_act)) : Met l yX5_endOnLastDay (wq (Cond.code yX5_endOnLastDay cX5_endOnLastDay 5 none)) rmX5_endOnLastDay (gP [.ref (ad 0), .int p1] (dC, dI) dA (wX5 dA ad c_tree_parts c_bond_terms c_penceByUps c_pence c_turned c_called c_hold c_value c_marks c_act c_rowOfKey) sz) (gQv (dC, dI) (wX5 dA ad c_tree_parts c_bond_terms c_penceByUps c_pence c_turned c_called o_c_hold o_c_value c_marks o_c_act c_rowOfKey) (va_A (wX5 dA ad c_tree_parts c_bond_terms c_penceByUps c_pence c_turned c_called c_hold c_value c_marks c_act c_rowOfKey) sz)) 0 0 (va_A (wX5 dA ad c_tree_parts c_bond_terms c_penceByUps c_pence c_turned c_called c_hold c_value c_marks c_act c_rowOfKey) sz) := by
  refine Met.ofW (cc := cX5_endOnLastDay) (maxL := 5) (ret := none) (by decide) rfl ?_
  intro p e s m args below meth c s₁ B hml hv
  obtain ⟨rfl, hsz, hP, hK, hD0⟩ := hv
  have hx := B.exec
  have hb := B.bytes
  have hr := B.returns
  have hts := atoms_spec (ws := wq (Cond.code yX5_endOnLastDay cX5_endOnLastDay 5 none)) B.pre
  have hown : s.vm.findClass RX5 = some m.cls := findClass_of_methodNamed B.named
  have hlocks := B.notSynchronized
  clear B
  subst hsz
  have hD := hD0.self (sz := s.heap.size)
  generalize hAe : va_A (wX5 dA ad c_tree_parts c_bond_terms c_penceByUps c_pence c_turned c_called c_hold c_value c_marks c_act c_rowOfKey) s.heap.size = A at hD ⊢
  have hA : ∀ q : Nat, s.heap.size ≤ q → A q := fun q h => by rw [← hAe]; exact Or.inr h
  clear hAe hD0
  have hS : va_S A s.heap s.heap [] := va_S.rf
  have hl := lv_entry ([.ref (ad 0), .int p1]) (n := 5) (Nat.le_of_ble_eq_true rfl)
  rw [lg_entry_eq]
  generalize (lg_sl ([.ref (ad 0), .int p1]) ++ List.replicate (5 - (lg_sl ([.ref (ad 0), .int p1])).length) Slot.unset).toArray = ls at hl ⊢
  have hl : lv_has ls 5 [(0, .ref (ad 0)), (1, .int p1)] := hl
  change W p l e rmX5_endOnLastDay s m ([.ref (ad 0), .int p1] : List Value).toArray below meth c s.heap [] 0 0 _ _
  unfold fX5_endOnLastDay at hf
  refine lv_aload_n hx hb dX5_endOnLastDay_0 rfl (lv_at hl 0 rfl) ?_
  refine va_get (D := (dC, dI)) (ci := 5) (v := .ref (ad 3)) (C := RX5) (T := TX5) (N := 11) hx hb hts (fun w h => gw_mem (inX5 w h)) hown hK.1 hP 0 rfl rfl 1 (by decide) (hts _ (gw_mem wfX5_21)) (fun _ h9 => h9) rfl dX5_endOnLastDay_1 ?_
  refine lv_aload_n hx hb dX5_endOnLastDay_4 rfl (lv_at hl 0 rfl) ?_
  refine va_get (D := (dC, dI)) (ci := 5) (v := .ref (ad 1)) (C := RX5) (T := TX5) (N := 11) hx hb hts (fun w h => gw_mem (inX5 w h)) hown hK.1 hP 0 rfl rfl 0 (by decide) (hts _ (gw_mem wfX5_12)) (fun _ h9 => h9) rfl dX5_endOnLastDay_5 ?_
  obtain ⟨r1, v2, hf⟩ := bd1_some hf
  have z3 : [1, 2].map (fun i => ((wX5 dA ad c_tree_parts c_bond_terms c_penceByUps c_pence c_turned c_called c_hold c_value c_marks c_act c_rowOfKey))[i]?) = ((wX7 dA (fun i => ad (i + 1)) c_tree_parts)).map some := rfl
  refine gpi [1, 2] [0, 3, 4, 5, 6, 7, 8, 9, 10, 11, 12, 13] [0, 12, 13, 1, 2, 3, 4, 5, 6, 7, 8, 9, 10, 11] (wf := (wX5 dA ad c_tree_parts c_bond_terms c_penceByUps c_pence c_turned c_called c_hold c_value c_marks c_act c_rowOfKey)) (va_runV (As := []) (rest := [.ref (ad 3)]) ⟨hx, hb, hml, hown, hts⟩ (tX7_lastDay l dC dI dA (fun i => ad (i + 1)) s.heap.size v2) (ccX5_X7_lastDay hts ⟨Nat.le_of_ble_eq_true rfl, Nat.le_of_ble_eq_true rfl⟩) (gPreV (ci := 7) (q0 := 0) (gsub z3 hP) hK (gsubD z3 (by decide) hD) rfl rfl) rfl rfl hl.1 rfl (lv_room (Nat.le_of_ble_eq_true rfl)) dX5_endOnLastDay_8 ⟨Nat.le_of_ble_eq_true rfl, Nat.le_of_ble_eq_true rfl⟩) hP hD hS hA z3 rfl (by decide) (by decide) (by decide) rfl (fun H locs hP hD hS => ?_)
  obtain ⟨r4, v5, hf⟩ := bd1_some hf
  have z6 : [3, 4].map (fun i => ((wX5 dA ad c_tree_parts c_bond_terms c_penceByUps c_pence c_turned c_called c_hold c_value c_marks c_act c_rowOfKey))[i]?) = ((wX0 dA (fun i => ad (i + 3)) c_bond_terms)).map some := rfl
  refine gpi [3, 4] [0, 1, 2, 5, 6, 7, 8, 9, 10, 11, 12, 13] [0, 1, 2, 12, 13, 3, 4, 5, 6, 7, 8, 9, 10, 11] (wf := (wX5 dA ad c_tree_parts c_bond_terms c_penceByUps c_pence c_turned c_called c_hold c_value c_marks c_act c_rowOfKey)) (va_runV (As := [.int r1]) (rest := []) ⟨hx, hb, hml, hown, hts⟩ (tX0_couponOn l dC dI dA (fun i => ad (i + 3)) H.size v5) (ccX5_X0_couponOn hts ⟨Nat.le_of_ble_eq_true rfl, Nat.le_of_ble_eq_true rfl⟩) (gPreV (ci := 1) (q0 := 0) (gsub z6 hP) hK (gsubD z6 (by decide) hD) rfl rfl) rfl rfl hl.1 rfl (lv_room (Nat.le_of_ble_eq_true rfl)) dX5_endOnLastDay_11 ⟨Nat.le_of_ble_eq_true rfl, Nat.le_of_ble_eq_true rfl⟩) hP hD hS hA z6 rfl (by decide) (by decide) (by decide) rfl (fun H locs hP hD hS => ?_)
  refine lv_istore_n (lv' := [(2, .int r4), (0, .ref (ad 0)), (1, .int p1)]) hx hb dX5_endOnLastDay_14 rfl hl (by decide) rfl (fun ls hl => ?_)
  refine lv_aload_n hx hb dX5_endOnLastDay_15 rfl (lv_at hl 1 rfl) ?_
  refine lv_iload_n hx hb dX5_endOnLastDay_16 rfl (lv_at hl 2 rfl) ?_
  obtain ⟨r7, v8, hf⟩ := bd1_some hf
  refine gcl (va_runV (As := [.int p1]) (rest := []) ⟨hx, hb, hml, hown, hts⟩ (tX5_turnedAt l dC dI dA ad H.size v8) (ccX5_X5_turnedAt hts ⟨Nat.le_of_ble_eq_true rfl, Nat.le_of_ble_eq_true rfl⟩) (gPreV (ci := 5) (q0 := 0) hP hK hD rfl rfl) rfl rfl hl.1 rfl (lv_room (Nat.le_of_ble_eq_true rfl)) dX5_endOnLastDay_17 ⟨Nat.le_of_ble_eq_true rfl, Nat.le_of_ble_eq_true rfl⟩) hD hS hA (fun H locs hP hD hS => ?_)
  refine lv_lstore_n (lv' := [(3, .long r7), (2, .int r4), (0, .ref (ad 0)), (1, .int p1)]) hx hb dX5_endOnLastDay_20 rfl hl (by decide) rfl (fun ls hl => ?_)
  refine lv_lload_n hx hb dX5_endOnLastDay_21 rfl (lv_at hl 0 rfl) ?_
  refine lv_aload_n hx hb dX5_endOnLastDay_22 rfl (lv_at hl 2 rfl) ?_
  refine va_get (D := (dC, dI)) (ci := 5) (v := .ref (ad 3)) (C := RX5) (T := TX5) (N := 11) hx hb hts (fun w h => gw_mem (inX5 w h)) hown hK.1 hP 0 rfl rfl 1 (by decide) (hts _ (gw_mem wfX5_21)) (fun _ h9 => h9) rfl dX5_endOnLastDay_23 ?_
  obtain ⟨r9, v10, hf⟩ := bd1_some hf
  have z11 : [3, 4].map (fun i => ((wX5 dA ad c_tree_parts c_bond_terms c_penceByUps c_pence c_turned c_called c_hold c_value c_marks c_act c_rowOfKey))[i]?) = ((wX0 dA (fun i => ad (i + 3)) c_bond_terms)).map some := rfl
  refine gpi [3, 4] [0, 1, 2, 5, 6, 7, 8, 9, 10, 11, 12, 13] [0, 1, 2, 12, 13, 3, 4, 5, 6, 7, 8, 9, 10, 11] (wf := (wX5 dA ad c_tree_parts c_bond_terms c_penceByUps c_pence c_turned c_called c_hold c_value c_marks c_act c_rowOfKey)) (va_runV (As := []) (rest := [.long r7]) ⟨hx, hb, hml, hown, hts⟩ (tX0_face l dC dI dA (fun i => ad (i + 3)) H.size v10) (ccX5_X0_face hts ⟨Nat.le_of_ble_eq_true rfl, Nat.le_of_ble_eq_true rfl⟩) (gPreV (ci := 1) (q0 := 0) (gsub z11 hP) hK (gsubD z11 (by decide) hD) rfl rfl) rfl rfl hl.1 rfl (lv_room (Nat.le_of_ble_eq_true rfl)) dX5_endOnLastDay_26 ⟨Nat.le_of_ble_eq_true rfl, Nat.le_of_ble_eq_true rfl⟩) hP hD hS hA z11 rfl (by decide) (by decide) (by decide) rfl (fun H locs hP hD hS => ?_)
  refine lv_i2l hx hb dX5_endOnLastDay_29 rfl ?_
  refine W.lcmp hx hb dX5_endOnLastDay_30 ?_
  refine lv_if_le (tgt := 51) hx hb dX5_endOnLastDay_31 (by decide) (fun k12 => ?_) (fun k12 => ?_)
  · replace hf := ifp (lc_le.mp k12) hf
    refine lv_aload_n hx hb dX5_endOnLastDay_51 rfl (lv_at hl 2 rfl) ?_
    refine lv_iload_n hx hb dX5_endOnLastDay_52 rfl (lv_at hl 3 rfl) ?_
    refine lv_ldc2 (v := (-2)) hx hb hown (hts _ (gw_mem wkX5_75)) dX5_endOnLastDay_53 ?_
    refine lv_iconst (v := 5) hx hb dX5_endOnLastDay_56 (by decide) ?_
    refine lv_iload_n hx hb dX5_endOnLastDay_57 rfl (lv_at hl 1 rfl) ?_
    refine lv_aload_n hx hb dX5_endOnLastDay_58 rfl (lv_at hl 2 rfl) ?_
    refine va_get (D := (dC, dI)) (ci := 5) (v := .ref (ad 3)) (C := RX5) (T := TX5) (N := 11) hx hb hts (fun w h => gw_mem (inX5 w h)) hown hK.1 hP 0 rfl rfl 1 (by decide) (hts _ (gw_mem wfX5_21)) (fun _ h9 => h9) rfl dX5_endOnLastDay_59 ?_
    obtain ⟨r13, v14, hf⟩ := bd1_some hf
    have z15 : [3, 4].map (fun i => ((wX5 dA ad c_tree_parts c_bond_terms c_penceByUps c_pence c_turned c_called c_hold c_value c_marks c_act c_rowOfKey))[i]?) = ((wX0 dA (fun i => ad (i + 3)) c_bond_terms)).map some := rfl
    refine gpi [3, 4] [0, 1, 2, 5, 6, 7, 8, 9, 10, 11, 12, 13] [0, 1, 2, 12, 13, 3, 4, 5, 6, 7, 8, 9, 10, 11] (wf := (wX5 dA ad c_tree_parts c_bond_terms c_penceByUps c_pence c_turned c_called c_hold c_value c_marks c_act c_rowOfKey)) (va_runV (As := []) (rest := [.int r4, .int 5, .long (-2), .int p1, .ref (ad 0)]) ⟨hx, hb, hml, hown, hts⟩ (tX0_face l dC dI dA (fun i => ad (i + 3)) H.size v14) (ccX5_X0_face hts ⟨Nat.le_of_ble_eq_true rfl, Nat.le_of_ble_eq_true rfl⟩) (gPreV (ci := 1) (q0 := 0) (gsub z15 hP) hK (gsubD z15 (by decide) hD) rfl rfl) rfl rfl hl.1 rfl (lv_room (Nat.le_of_ble_eq_true rfl)) dX5_endOnLastDay_62 ⟨Nat.le_of_ble_eq_true rfl, Nat.le_of_ble_eq_true rfl⟩) hP hD hS hA z15 rfl (by decide) (by decide) (by decide) rfl (fun H locs hP hD hS => ?_)
    refine lv_iadd hx hb dX5_endOnLastDay_65 ?_
    refine lv_i2l hx hb dX5_endOnLastDay_66 rfl ?_
    obtain ⟨c_hold_16, c_value_17, c_act_18, v19, hf⟩ := bd3_some hf
    refine gcv (va_runV (As := [.int p1, .long (-2), .int 5, .long (Int32.toInt64 (r4 + r13))]) (rest := []) ⟨hx, hb, hml, hown, hts⟩ (tX5_setRow l dC dI dA ad H.size v19) (ccX5_X5_setRow hts ⟨Nat.le_of_ble_eq_true rfl, Nat.le_of_ble_eq_true rfl⟩) (gPreV (ci := 5) (q0 := 0) hP hK hD rfl rfl) rfl rfl hl.1 rfl (lv_room (Nat.le_of_ble_eq_true rfl)) dX5_endOnLastDay_67 ⟨Nat.le_of_ble_eq_true rfl, Nat.le_of_ble_eq_true rfl⟩) hD hS hA (fun H locs hP hD hS => ?_)
    cases hf
    exact W.vret hx hb hr (fun t ht _ => gqv hP hD hS ht) hS.2.2 dX5_endOnLastDay_70
  · replace hf := ifn (fun h => k12 (lc_le.mpr h)) hf
    refine lv_aload_n hx hb dX5_endOnLastDay_34 rfl (lv_at hl 2 rfl) ?_
    refine lv_iload_n hx hb dX5_endOnLastDay_35 rfl (lv_at hl 3 rfl) ?_
    refine lv_ldc2 (v := (-2)) hx hb hown (hts _ (gw_mem wkX5_75)) dX5_endOnLastDay_36 ?_
    refine lv_bipush (v := 6) hx hb dX5_endOnLastDay_39 (by decide) ?_
    refine lv_iload_n hx hb dX5_endOnLastDay_41 rfl (lv_at hl 1 rfl) ?_
    refine lv_i2l hx hb dX5_endOnLastDay_42 rfl ?_
    refine lv_lload_n hx hb dX5_endOnLastDay_43 rfl (lv_at hl 0 rfl) ?_
    refine lv_ladd hx hb dX5_endOnLastDay_44 ?_
    obtain ⟨c_hold_20, c_value_21, c_act_22, v23, hf⟩ := bd3_some hf
    refine gcv (va_runV (As := [.int p1, .long (-2), .int 6, .long ((Int32.toInt64 r4) + r7)]) (rest := []) ⟨hx, hb, hml, hown, hts⟩ (tX5_setRow l dC dI dA ad H.size v23) (ccX5_X5_setRow hts ⟨Nat.le_of_ble_eq_true rfl, Nat.le_of_ble_eq_true rfl⟩) (gPreV (ci := 5) (q0 := 0) hP hK hD rfl rfl) rfl rfl hl.1 rfl (lv_room (Nat.le_of_ble_eq_true rfl)) dX5_endOnLastDay_45 ⟨Nat.le_of_ble_eq_true rfl, Nat.le_of_ble_eq_true rfl⟩) hD hS hA (fun H locs hP hD hS => ?_)
    refine lv_goto (tgt := 70) hx hb dX5_endOnLastDay_48 (by decide) ?_
    cases hf
    exact W.vret hx hb hr (fun t ht _ => gqv hP hD hS ht) hS.2.2 dX5_endOnLastDay_70
theorem ccX8_J6_bitCount_0f7a4 {R : Room} {s : State} {args : Array Value} {c0 : Cond} (ht : ∀ w ∈ wq c0, w.before args s = true) (hR : rmJ6_bitCount_0f7a4.frames + 1 ≤ R.frames ∧ 8 + (1 + 11) + rmJ6_bitCount_0f7a4.locals ≤ R.locals) : CallB R s args RX8 367 yJ6_bitCount_0f7a4 cJ6_bitCount_0f7a4 1 (some .int) (wq (.code yJ6_bitCount_0f7a4 cJ6_bitCount_0f7a4 1 (some .int))) rmJ6_bitCount_0f7a4 0 0 1 ∧ (Cond.static yJ6_bitCount_0f7a4).before args s = true := gCS 1 ht wcJ6_bitCount_0f7a4 wmX8_367 wtJ6_bitCount_0f7a4 wnJ6 (by decide +kernel) rfl rfl hR
def fX8_upsOf (p0 : Int32) : Option (Int32) := if 1 ≤ p0 then bd1 (fJ6_bitCount_0f7a4 p0) (fun r2 => some (r2 - 1)) else some (0)
abbrev rmX8_upsOf : Room := { frames := 1, cells := 0, slots := 0, locals := 20 }
set_option maxHeartbeats 4000000 in
set_option maxRecDepth 100000 in
theorem tX8_upsOf (l : Launch) (dC : Nat → ClassId) (dI : Nat → Nat → Nat) (dA : Nat → ClassId) (sz : Nat) {p0 : Int32} {r : Int32} (hf : fX8_upsOf p0 = some (r)) : Met l yX8_upsOf (wq (Cond.code yX8_upsOf cX8_upsOf 1 (some .int))) rmX8_upsOf (gP [.int p0] (dC, dI) dA [] sz) (gQi (dC, dI) r [] (va_A [] sz)) 0 0 (va_A [] sz) := by
  refine Met.ofW (cc := cX8_upsOf) (maxL := 1) (ret := (some .int)) (by decide) rfl ?_
  intro p e s m args below meth c s₁ B hml hv
  obtain ⟨rfl, hsz, hP, hK, hD0⟩ := hv
  have hx := B.exec
  have hb := B.bytes
  have hr := B.returns
  have hts := atoms_spec (ws := wq (Cond.code yX8_upsOf cX8_upsOf 1 (some .int))) B.pre
  have hown : s.vm.findClass RX8 = some m.cls := findClass_of_methodNamed B.named
  have hlocks := B.notSynchronized
  clear B
  subst hsz
  have hD := hD0.self (sz := s.heap.size)
  generalize hAe : va_A [] s.heap.size = A at hD ⊢
  have hA : ∀ q : Nat, s.heap.size ≤ q → A q := fun q h => by rw [← hAe]; exact Or.inr h
  clear hAe hD0
  have hS : va_S A s.heap s.heap [] := va_S.rf
  have hl := lv_entry ([.int p0]) (n := 1) (Nat.le_of_ble_eq_true rfl)
  rw [lg_entry_eq]
  generalize (lg_sl ([.int p0]) ++ List.replicate (1 - (lg_sl ([.int p0])).length) Slot.unset).toArray = ls at hl ⊢
  have hl : lv_has ls 1 [(0, .int p0)] := hl
  change W p l e rmX8_upsOf s m ([.int p0] : List Value).toArray below meth c s.heap [] 0 0 _ _
  unfold fX8_upsOf at hf
  refine lv_iload_n hx hb dX8_upsOf_0 rfl (lv_at hl 0 rfl) ?_
  refine lv_iconst (v := 1) hx hb dX8_upsOf_1 (by decide) ?_
  refine lv_icmp_ge (tgt := 9) hx hb dX8_upsOf_2 (by decide) (fun k1 => ?_) (fun k1 => ?_)
  · replace hf := ifp k1 hf
    refine lv_iload_n hx hb dX8_upsOf_9 rfl (lv_at hl 0 rfl) ?_
    obtain ⟨r2, v3, hf⟩ := bd1_some hf
    refine gci0 (va_runS (As := [.int p0]) (rest := []) ⟨hx, hb, hml, hown, hts⟩ (tJ6_bitCount_0f7a4 l dC dI dA s.heap.size v3) (ccX8_J6_bitCount_0f7a4 hts ⟨Nat.le_of_ble_eq_true rfl, Nat.le_of_ble_eq_true rfl⟩) (gPreS0 hK) rfl rfl hl.1 rfl (lv_room (Nat.le_of_ble_eq_true rfl)) dX8_upsOf_10 ⟨Nat.le_of_ble_eq_true rfl, Nat.le_of_ble_eq_true rfl⟩) hP hS hA (fun H locs hP hS => ?_)
    refine lv_iconst (v := 1) hx hb dX8_upsOf_13 (by decide) ?_
    refine lv_isub hx hb dX8_upsOf_14 ?_
    cases hf
    exact W.iret hx hb hr (fun t ht _ => gqi hP hD hS ht) hS.2.2 dX8_upsOf_15
  · replace hf := ifn k1 hf
    refine lv_iconst (v := 0) hx hb dX8_upsOf_5 (by decide) ?_
    refine lv_goto (tgt := 15) hx hb dX8_upsOf_6 (by decide) ?_
    cases hf
    exact W.iret hx hb hr (fun t ht _ => gqi hP hD hS ht) hS.2.2 dX8_upsOf_15
theorem ccX5_X8_upsOf {R : Room} {s : State} {args : Array Value} {c0 : Cond} (hN : gN s) (ht : ∀ w ∈ wq c0, w.before args s = true) (hR : rmX8_upsOf.frames + 1 ≤ R.frames ∧ 8 + (1 + 11) + rmX8_upsOf.locals ≤ R.locals) : va_CN R s args RX5 108 yX8_upsOf RX8 cX8_upsOf 1 (some .int) (wq (.code yX8_upsOf cX8_upsOf 1 (some .int))) rmX8_upsOf 0 0 1 ∧ (Cond.static yX8_upsOf).before args s = true ∧ True := gCSN 1 hN ht wcX8_upsOf wmX5_108 wtX8_upsOf wnX8 (by decide +kernel) rfl rfl hR
theorem ccX5_X8_within {R : Room} {s : State} {args : Array Value} {c0 : Cond} (hN : gN s) (ht : ∀ w ∈ wq c0, w.before args s = true) (hR : rmX8_within.frames + 1 ≤ R.frames ∧ 8 + (3 + 11) + rmX8_within.locals ≤ R.locals) : va_CN R s args RX5 111 yX8_within RX8 cX8_within 3 (some .boolean) (wq (.code yX8_within cX8_within 3 (some .boolean))) rmX8_within 0 0 3 ∧ (Cond.static yX8_within).before args s = true ∧ True := gCSN 3 hN ht wcX8_within wmX5_111 wtX8_within wnX8 (by decide +kernel) rfl rfl hR
theorem ccX5_X0_softLevel {R : Room} {s : State} {args : Array Value} {c0 : Cond} (ht : ∀ w ∈ wq c0, w.before args s = true) (hR : rmX0_softLevel.frames + 1 ≤ R.frames ∧ 8 + (1 + 11) + rmX0_softLevel.locals ≤ R.locals) : CallW R s args RX5 RX0 115 yX0_softLevel cX0_softLevel 1 (some .int) (wq (.code yX0_softLevel cX0_softLevel 1 (some .int))) rmX0_softLevel 0 0 0 := gCW 0 ht wcX0_softLevel wmX5_115 wiX0_softLevel weX0_softLevel wnX0 (by decide +kernel) rfl rfl hR
theorem ccX5_X0_mayTurnOn {R : Room} {s : State} {args : Array Value} {c0 : Cond} (ht : ∀ w ∈ wq c0, w.before args s = true) (hR : rmX0_mayTurnOn.frames + 1 ≤ R.frames ∧ 8 + (2 + 11) + rmX0_mayTurnOn.locals ≤ R.locals) : CallW R s args RX5 RX0 118 yX0_mayTurnOn cX0_mayTurnOn 2 (some .boolean) (wq (.code yX0_mayTurnOn cX0_mayTurnOn 2 (some .boolean))) rmX0_mayTurnOn 0 0 1 := gCW 1 ht wcX0_mayTurnOn wmX5_118 wiX0_mayTurnOn weX0_mayTurnOn wnX0 (by decide +kernel) rfl rfl hR
theorem ccX5_X0_turnedWorth {R : Room} {s : State} {args : Array Value} {c0 : Cond} (ht : ∀ w ∈ wq c0, w.before args s = true) (hR : rmX0_turnedWorth.frames + 1 ≤ R.frames ∧ 8 + (9 + 11) + rmX0_turnedWorth.locals ≤ R.locals) : CallW R s args RX5 RX0 121 yX0_turnedWorth cX0_turnedWorth 9 (some .long) (wq (.code yX0_turnedWorth cX0_turnedWorth 9 (some .long))) rmX0_turnedWorth 0 0 2 := gCW 2 ht wcX0_turnedWorth wmX5_121 wiX0_turnedWorth weX0_turnedWorth wnX0 (by decide +kernel) rfl rfl hR
theorem ccX5_X0_highDays {R : Room} {s : State} {args : Array Value} {c0 : Cond} (ht : ∀ w ∈ wq c0, w.before args s = true) (hR : rmX0_highDays.frames + 1 ≤ R.frames ∧ 8 + (2 + 11) + rmX0_highDays.locals ≤ R.locals) : CallW R s args RX5 RX0 128 yX0_highDays cX0_highDays 2 (some .int) (wq (.code yX0_highDays cX0_highDays 2 (some .int))) rmX0_highDays 0 0 1 := gCW 1 ht wcX0_highDays wmX5_128 wiX0_highDays weX0_highDays wnX0 (by decide +kernel) rfl rfl hR
theorem ccX5_X0_softLeast {R : Room} {s : State} {args : Array Value} {c0 : Cond} (ht : ∀ w ∈ wq c0, w.before args s = true) (hR : rmX0_softLeast.frames + 1 ≤ R.frames ∧ 8 + (1 + 11) + rmX0_softLeast.locals ≤ R.locals) : CallW R s args RX5 RX0 131 yX0_softLeast cX0_softLeast 1 (some .int) (wq (.code yX0_softLeast cX0_softLeast 1 (some .int))) rmX0_softLeast 0 0 0 := gCW 0 ht wcX0_softLeast wmX5_131 wiX0_softLeast weX0_softLeast wnX0 (by decide +kernel) rfl rfl hR
def fX5_layOutRow (p1 : Int32) (p2 : Int32) (c_bond_terms : Nat → Int32) (c_penceByUps : Nat → Int64) (c_pence : Nat → Int64) (c_turned : Nat → Int64) (c_called : Nat → Int64) (c_marks : Nat → Int32) : Option ((Nat → Int64) × (Nat → Int64) × (Nat → Int64) × (Nat → Int32)) := bd1 (fX8_upsOf p1) (fun r1 => bd1 (fX8_isRow p1) (fun r3 => if r3 = 0 then some (c_pence, c_turned, c_called, c_marks) else bd1 (fX8_within r1 0 6) (fun r6 => if r6 = 0 then some (c_pence, c_turned, c_called, c_marks) else og (okI r1 7) (og (okI p1 128) (nm (vp_updL c_pence (Int32.toNatClampNeg p1) (c_penceByUps (Int32.toNatClampNeg r1))) (fun w11 => if p1 ≤ 1 then og (okI p1 128) (nm (w11 (Int32.toNatClampNeg p1)) (fun w14 => if p1 ≤ 1 then og (okI p1 128) (bd1 (fX0_softLevel c_bond_terms) (fun r17 => if (w11 (Int32.toNatClampNeg p1)) < (Int32.toInt64 r17) then og (okI p1 128) (nm (upd c_marks (Int32.toNatClampNeg p1) (((0 * 2) + 0) &&& 7)) (fun w22 => bd1 (fX0_mayTurnOn p2 c_bond_terms) (fun r23 => if r23 = 0 then og (okI p1 128) (nm (vp_updL c_turned (Int32.toNatClampNeg p1) (-2)) (fun w28 => bd1 (fX0_callOn p2 c_bond_terms) (fun r29 => if r29 < 0 then og (okI p1 128) (nm (vp_updL c_called (Int32.toNatClampNeg p1) (-2)) (fun w35 => some (w11, w28, w35, w22))) else og (okI p1 128) (bd1 (fX0_highDays (w22 (Int32.toNatClampNeg p1)) c_bond_terms) (fun r37 => bd1 (fX0_softLeast c_bond_terms) (fun r40 => if r37 < r40 then og (okI p1 128) (nm (vp_updL c_called (Int32.toNatClampNeg p1) (-2)) (fun w46 => some (w11, w28, w46, w22))) else bd1 (fX0_callOn p2 c_bond_terms) (fun r48 => og (okI p1 128) (og (okI p1 128) (nm (vp_updL c_called (Int32.toNatClampNeg p1) (if (w28 (Int32.toNatClampNeg p1)) < (Int32.toInt64 r48) then (Int32.toInt64 r48) else (w28 (Int32.toNatClampNeg p1)))) (fun w53 => some (w11, w28, w53, w22))))))))))) else og (okI p1 128) (bd1 (fX0_turnedWorth (w11 (Int32.toNatClampNeg p1)) w14 c_bond_terms) (fun r55 => og (okI p1 128) (nm (vp_updL c_turned (Int32.toNatClampNeg p1) r55) (fun w59 => bd1 (fX0_callOn p2 c_bond_terms) (fun r60 => if r60 < 0 then og (okI p1 128) (nm (vp_updL c_called (Int32.toNatClampNeg p1) (-2)) (fun w66 => some (w11, w59, w66, w22))) else og (okI p1 128) (bd1 (fX0_highDays (w22 (Int32.toNatClampNeg p1)) c_bond_terms) (fun r68 => bd1 (fX0_softLeast c_bond_terms) (fun r71 => if r68 < r71 then og (okI p1 128) (nm (vp_updL c_called (Int32.toNatClampNeg p1) (-2)) (fun w77 => some (w11, w59, w77, w22))) else bd1 (fX0_callOn p2 c_bond_terms) (fun r79 => og (okI p1 128) (og (okI p1 128) (nm (vp_updL c_called (Int32.toNatClampNeg p1) (if (w59 (Int32.toNatClampNeg p1)) < (Int32.toInt64 r79) then (Int32.toInt64 r79) else (w59 (Int32.toNatClampNeg p1)))) (fun w84 => some (w11, w59, w84, w22)))))))))))))))) else og (okI p1 128) (nm (upd c_marks (Int32.toNatClampNeg p1) (((0 * 2) + 1) &&& 7)) (fun w86 => bd1 (fX0_mayTurnOn p2 c_bond_terms) (fun r87 => if r87 = 0 then og (okI p1 128) (nm (vp_updL c_turned (Int32.toNatClampNeg p1) (-2)) (fun w92 => bd1 (fX0_callOn p2 c_bond_terms) (fun r93 => if r93 < 0 then og (okI p1 128) (nm (vp_updL c_called (Int32.toNatClampNeg p1) (-2)) (fun w99 => some (w11, w92, w99, w86))) else og (okI p1 128) (bd1 (fX0_highDays (w86 (Int32.toNatClampNeg p1)) c_bond_terms) (fun r101 => bd1 (fX0_softLeast c_bond_terms) (fun r104 => if r101 < r104 then og (okI p1 128) (nm (vp_updL c_called (Int32.toNatClampNeg p1) (-2)) (fun w110 => some (w11, w92, w110, w86))) else bd1 (fX0_callOn p2 c_bond_terms) (fun r112 => og (okI p1 128) (og (okI p1 128) (nm (vp_updL c_called (Int32.toNatClampNeg p1) (if (w92 (Int32.toNatClampNeg p1)) < (Int32.toInt64 r112) then (Int32.toInt64 r112) else (w92 (Int32.toNatClampNeg p1)))) (fun w117 => some (w11, w92, w117, w86))))))))))) else og (okI p1 128) (bd1 (fX0_turnedWorth (w11 (Int32.toNatClampNeg p1)) w14 c_bond_terms) (fun r119 => og (okI p1 128) (nm (vp_updL c_turned (Int32.toNatClampNeg p1) r119) (fun w123 => bd1 (fX0_callOn p2 c_bond_terms) (fun r124 => if r124 < 0 then og (okI p1 128) (nm (vp_updL c_called (Int32.toNatClampNeg p1) (-2)) (fun w130 => some (w11, w123, w130, w86))) else og (okI p1 128) (bd1 (fX0_highDays (w86 (Int32.toNatClampNeg p1)) c_bond_terms) (fun r132 => bd1 (fX0_softLeast c_bond_terms) (fun r135 => if r132 < r135 then og (okI p1 128) (nm (vp_updL c_called (Int32.toNatClampNeg p1) (-2)) (fun w141 => some (w11, w123, w141, w86))) else bd1 (fX0_callOn p2 c_bond_terms) (fun r143 => og (okI p1 128) (og (okI p1 128) (nm (vp_updL c_called (Int32.toNatClampNeg p1) (if (w123 (Int32.toNatClampNeg p1)) < (Int32.toInt64 r143) then (Int32.toInt64 r143) else (w123 (Int32.toNatClampNeg p1)))) (fun w148 => some (w11, w123, w148, w86)))))))))))))))))) else og (okI (p1 / 2) 128) (nm (c_marks (Int32.toNatClampNeg (p1 / 2))) (fun w150 => og (okI p1 128) (bd1 (fX0_softLevel c_bond_terms) (fun r152 => if (w11 (Int32.toNatClampNeg p1)) < (Int32.toInt64 r152) then og (okI p1 128) (nm (upd c_marks (Int32.toNatClampNeg p1) (((w150 * 2) + 0) &&& 7)) (fun w157 => bd1 (fX0_mayTurnOn p2 c_bond_terms) (fun r158 => if r158 = 0 then og (okI p1 128) (nm (vp_updL c_turned (Int32.toNatClampNeg p1) (-2)) (fun w163 => bd1 (fX0_callOn p2 c_bond_terms) (fun r164 => if r164 < 0 then og (okI p1 128) (nm (vp_updL c_called (Int32.toNatClampNeg p1) (-2)) (fun w170 => some (w11, w163, w170, w157))) else og (okI p1 128) (bd1 (fX0_highDays (w157 (Int32.toNatClampNeg p1)) c_bond_terms) (fun r172 => bd1 (fX0_softLeast c_bond_terms) (fun r175 => if r172 < r175 then og (okI p1 128) (nm (vp_updL c_called (Int32.toNatClampNeg p1) (-2)) (fun w181 => some (w11, w163, w181, w157))) else bd1 (fX0_callOn p2 c_bond_terms) (fun r183 => og (okI p1 128) (og (okI p1 128) (nm (vp_updL c_called (Int32.toNatClampNeg p1) (if (w163 (Int32.toNatClampNeg p1)) < (Int32.toInt64 r183) then (Int32.toInt64 r183) else (w163 (Int32.toNatClampNeg p1)))) (fun w188 => some (w11, w163, w188, w157))))))))))) else og (okI p1 128) (bd1 (fX0_turnedWorth (w11 (Int32.toNatClampNeg p1)) w14 c_bond_terms) (fun r190 => og (okI p1 128) (nm (vp_updL c_turned (Int32.toNatClampNeg p1) r190) (fun w194 => bd1 (fX0_callOn p2 c_bond_terms) (fun r195 => if r195 < 0 then og (okI p1 128) (nm (vp_updL c_called (Int32.toNatClampNeg p1) (-2)) (fun w201 => some (w11, w194, w201, w157))) else og (okI p1 128) (bd1 (fX0_highDays (w157 (Int32.toNatClampNeg p1)) c_bond_terms) (fun r203 => bd1 (fX0_softLeast c_bond_terms) (fun r206 => if r203 < r206 then og (okI p1 128) (nm (vp_updL c_called (Int32.toNatClampNeg p1) (-2)) (fun w212 => some (w11, w194, w212, w157))) else bd1 (fX0_callOn p2 c_bond_terms) (fun r214 => og (okI p1 128) (og (okI p1 128) (nm (vp_updL c_called (Int32.toNatClampNeg p1) (if (w194 (Int32.toNatClampNeg p1)) < (Int32.toInt64 r214) then (Int32.toInt64 r214) else (w194 (Int32.toNatClampNeg p1)))) (fun w219 => some (w11, w194, w219, w157)))))))))))))))) else og (okI p1 128) (nm (upd c_marks (Int32.toNatClampNeg p1) (((w150 * 2) + 1) &&& 7)) (fun w221 => bd1 (fX0_mayTurnOn p2 c_bond_terms) (fun r222 => if r222 = 0 then og (okI p1 128) (nm (vp_updL c_turned (Int32.toNatClampNeg p1) (-2)) (fun w227 => bd1 (fX0_callOn p2 c_bond_terms) (fun r228 => if r228 < 0 then og (okI p1 128) (nm (vp_updL c_called (Int32.toNatClampNeg p1) (-2)) (fun w234 => some (w11, w227, w234, w221))) else og (okI p1 128) (bd1 (fX0_highDays (w221 (Int32.toNatClampNeg p1)) c_bond_terms) (fun r236 => bd1 (fX0_softLeast c_bond_terms) (fun r239 => if r236 < r239 then og (okI p1 128) (nm (vp_updL c_called (Int32.toNatClampNeg p1) (-2)) (fun w245 => some (w11, w227, w245, w221))) else bd1 (fX0_callOn p2 c_bond_terms) (fun r247 => og (okI p1 128) (og (okI p1 128) (nm (vp_updL c_called (Int32.toNatClampNeg p1) (if (w227 (Int32.toNatClampNeg p1)) < (Int32.toInt64 r247) then (Int32.toInt64 r247) else (w227 (Int32.toNatClampNeg p1)))) (fun w252 => some (w11, w227, w252, w221))))))))))) else og (okI p1 128) (bd1 (fX0_turnedWorth (w11 (Int32.toNatClampNeg p1)) w14 c_bond_terms) (fun r254 => og (okI p1 128) (nm (vp_updL c_turned (Int32.toNatClampNeg p1) r254) (fun w258 => bd1 (fX0_callOn p2 c_bond_terms) (fun r259 => if r259 < 0 then og (okI p1 128) (nm (vp_updL c_called (Int32.toNatClampNeg p1) (-2)) (fun w265 => some (w11, w258, w265, w221))) else og (okI p1 128) (bd1 (fX0_highDays (w221 (Int32.toNatClampNeg p1)) c_bond_terms) (fun r267 => bd1 (fX0_softLeast c_bond_terms) (fun r270 => if r267 < r270 then og (okI p1 128) (nm (vp_updL c_called (Int32.toNatClampNeg p1) (-2)) (fun w276 => some (w11, w258, w276, w221))) else bd1 (fX0_callOn p2 c_bond_terms) (fun r278 => og (okI p1 128) (og (okI p1 128) (nm (vp_updL c_called (Int32.toNatClampNeg p1) (if (w258 (Int32.toNatClampNeg p1)) < (Int32.toInt64 r278) then (Int32.toInt64 r278) else (w258 (Int32.toNatClampNeg p1)))) (fun w283 => some (w11, w258, w283, w221)))))))))))))))))))))) else og (okI (p1 / 2) 128) (nm (w11 (Int32.toNatClampNeg (p1 / 2))) (fun w285 => if p1 ≤ 1 then og (okI p1 128) (bd1 (fX0_softLevel c_bond_terms) (fun r288 => if (w11 (Int32.toNatClampNeg p1)) < (Int32.toInt64 r288) then og (okI p1 128) (nm (upd c_marks (Int32.toNatClampNeg p1) (((0 * 2) + 0) &&& 7)) (fun w293 => bd1 (fX0_mayTurnOn p2 c_bond_terms) (fun r294 => if r294 = 0 then og (okI p1 128) (nm (vp_updL c_turned (Int32.toNatClampNeg p1) (-2)) (fun w299 => bd1 (fX0_callOn p2 c_bond_terms) (fun r300 => if r300 < 0 then og (okI p1 128) (nm (vp_updL c_called (Int32.toNatClampNeg p1) (-2)) (fun w306 => some (w11, w299, w306, w293))) else og (okI p1 128) (bd1 (fX0_highDays (w293 (Int32.toNatClampNeg p1)) c_bond_terms) (fun r308 => bd1 (fX0_softLeast c_bond_terms) (fun r311 => if r308 < r311 then og (okI p1 128) (nm (vp_updL c_called (Int32.toNatClampNeg p1) (-2)) (fun w317 => some (w11, w299, w317, w293))) else bd1 (fX0_callOn p2 c_bond_terms) (fun r319 => og (okI p1 128) (og (okI p1 128) (nm (vp_updL c_called (Int32.toNatClampNeg p1) (if (w299 (Int32.toNatClampNeg p1)) < (Int32.toInt64 r319) then (Int32.toInt64 r319) else (w299 (Int32.toNatClampNeg p1)))) (fun w324 => some (w11, w299, w324, w293))))))))))) else og (okI p1 128) (bd1 (fX0_turnedWorth (w11 (Int32.toNatClampNeg p1)) w285 c_bond_terms) (fun r326 => og (okI p1 128) (nm (vp_updL c_turned (Int32.toNatClampNeg p1) r326) (fun w330 => bd1 (fX0_callOn p2 c_bond_terms) (fun r331 => if r331 < 0 then og (okI p1 128) (nm (vp_updL c_called (Int32.toNatClampNeg p1) (-2)) (fun w337 => some (w11, w330, w337, w293))) else og (okI p1 128) (bd1 (fX0_highDays (w293 (Int32.toNatClampNeg p1)) c_bond_terms) (fun r339 => bd1 (fX0_softLeast c_bond_terms) (fun r342 => if r339 < r342 then og (okI p1 128) (nm (vp_updL c_called (Int32.toNatClampNeg p1) (-2)) (fun w348 => some (w11, w330, w348, w293))) else bd1 (fX0_callOn p2 c_bond_terms) (fun r350 => og (okI p1 128) (og (okI p1 128) (nm (vp_updL c_called (Int32.toNatClampNeg p1) (if (w330 (Int32.toNatClampNeg p1)) < (Int32.toInt64 r350) then (Int32.toInt64 r350) else (w330 (Int32.toNatClampNeg p1)))) (fun w355 => some (w11, w330, w355, w293)))))))))))))))) else og (okI p1 128) (nm (upd c_marks (Int32.toNatClampNeg p1) (((0 * 2) + 1) &&& 7)) (fun w357 => bd1 (fX0_mayTurnOn p2 c_bond_terms) (fun r358 => if r358 = 0 then og (okI p1 128) (nm (vp_updL c_turned (Int32.toNatClampNeg p1) (-2)) (fun w363 => bd1 (fX0_callOn p2 c_bond_terms) (fun r364 => if r364 < 0 then og (okI p1 128) (nm (vp_updL c_called (Int32.toNatClampNeg p1) (-2)) (fun w370 => some (w11, w363, w370, w357))) else og (okI p1 128) (bd1 (fX0_highDays (w357 (Int32.toNatClampNeg p1)) c_bond_terms) (fun r372 => bd1 (fX0_softLeast c_bond_terms) (fun r375 => if r372 < r375 then og (okI p1 128) (nm (vp_updL c_called (Int32.toNatClampNeg p1) (-2)) (fun w381 => some (w11, w363, w381, w357))) else bd1 (fX0_callOn p2 c_bond_terms) (fun r383 => og (okI p1 128) (og (okI p1 128) (nm (vp_updL c_called (Int32.toNatClampNeg p1) (if (w363 (Int32.toNatClampNeg p1)) < (Int32.toInt64 r383) then (Int32.toInt64 r383) else (w363 (Int32.toNatClampNeg p1)))) (fun w388 => some (w11, w363, w388, w357))))))))))) else og (okI p1 128) (bd1 (fX0_turnedWorth (w11 (Int32.toNatClampNeg p1)) w285 c_bond_terms) (fun r390 => og (okI p1 128) (nm (vp_updL c_turned (Int32.toNatClampNeg p1) r390) (fun w394 => bd1 (fX0_callOn p2 c_bond_terms) (fun r395 => if r395 < 0 then og (okI p1 128) (nm (vp_updL c_called (Int32.toNatClampNeg p1) (-2)) (fun w401 => some (w11, w394, w401, w357))) else og (okI p1 128) (bd1 (fX0_highDays (w357 (Int32.toNatClampNeg p1)) c_bond_terms) (fun r403 => bd1 (fX0_softLeast c_bond_terms) (fun r406 => if r403 < r406 then og (okI p1 128) (nm (vp_updL c_called (Int32.toNatClampNeg p1) (-2)) (fun w412 => some (w11, w394, w412, w357))) else bd1 (fX0_callOn p2 c_bond_terms) (fun r414 => og (okI p1 128) (og (okI p1 128) (nm (vp_updL c_called (Int32.toNatClampNeg p1) (if (w394 (Int32.toNatClampNeg p1)) < (Int32.toInt64 r414) then (Int32.toInt64 r414) else (w394 (Int32.toNatClampNeg p1)))) (fun w419 => some (w11, w394, w419, w357)))))))))))))))))) else og (okI (p1 / 2) 128) (nm (c_marks (Int32.toNatClampNeg (p1 / 2))) (fun w421 => og (okI p1 128) (bd1 (fX0_softLevel c_bond_terms) (fun r423 => if (w11 (Int32.toNatClampNeg p1)) < (Int32.toInt64 r423) then og (okI p1 128) (nm (upd c_marks (Int32.toNatClampNeg p1) (((w421 * 2) + 0) &&& 7)) (fun w428 => bd1 (fX0_mayTurnOn p2 c_bond_terms) (fun r429 => if r429 = 0 then og (okI p1 128) (nm (vp_updL c_turned (Int32.toNatClampNeg p1) (-2)) (fun w434 => bd1 (fX0_callOn p2 c_bond_terms) (fun r435 => if r435 < 0 then og (okI p1 128) (nm (vp_updL c_called (Int32.toNatClampNeg p1) (-2)) (fun w441 => some (w11, w434, w441, w428))) else og (okI p1 128) (bd1 (fX0_highDays (w428 (Int32.toNatClampNeg p1)) c_bond_terms) (fun r443 => bd1 (fX0_softLeast c_bond_terms) (fun r446 => if r443 < r446 then og (okI p1 128) (nm (vp_updL c_called (Int32.toNatClampNeg p1) (-2)) (fun w452 => some (w11, w434, w452, w428))) else bd1 (fX0_callOn p2 c_bond_terms) (fun r454 => og (okI p1 128) (og (okI p1 128) (nm (vp_updL c_called (Int32.toNatClampNeg p1) (if (w434 (Int32.toNatClampNeg p1)) < (Int32.toInt64 r454) then (Int32.toInt64 r454) else (w434 (Int32.toNatClampNeg p1)))) (fun w459 => some (w11, w434, w459, w428))))))))))) else og (okI p1 128) (bd1 (fX0_turnedWorth (w11 (Int32.toNatClampNeg p1)) w285 c_bond_terms) (fun r461 => og (okI p1 128) (nm (vp_updL c_turned (Int32.toNatClampNeg p1) r461) (fun w465 => bd1 (fX0_callOn p2 c_bond_terms) (fun r466 => if r466 < 0 then og (okI p1 128) (nm (vp_updL c_called (Int32.toNatClampNeg p1) (-2)) (fun w472 => some (w11, w465, w472, w428))) else og (okI p1 128) (bd1 (fX0_highDays (w428 (Int32.toNatClampNeg p1)) c_bond_terms) (fun r474 => bd1 (fX0_softLeast c_bond_terms) (fun r477 => if r474 < r477 then og (okI p1 128) (nm (vp_updL c_called (Int32.toNatClampNeg p1) (-2)) (fun w483 => some (w11, w465, w483, w428))) else bd1 (fX0_callOn p2 c_bond_terms) (fun r485 => og (okI p1 128) (og (okI p1 128) (nm (vp_updL c_called (Int32.toNatClampNeg p1) (if (w465 (Int32.toNatClampNeg p1)) < (Int32.toInt64 r485) then (Int32.toInt64 r485) else (w465 (Int32.toNatClampNeg p1)))) (fun w490 => some (w11, w465, w490, w428)))))))))))))))) else og (okI p1 128) (nm (upd c_marks (Int32.toNatClampNeg p1) (((w421 * 2) + 1) &&& 7)) (fun w492 => bd1 (fX0_mayTurnOn p2 c_bond_terms) (fun r493 => if r493 = 0 then og (okI p1 128) (nm (vp_updL c_turned (Int32.toNatClampNeg p1) (-2)) (fun w498 => bd1 (fX0_callOn p2 c_bond_terms) (fun r499 => if r499 < 0 then og (okI p1 128) (nm (vp_updL c_called (Int32.toNatClampNeg p1) (-2)) (fun w505 => some (w11, w498, w505, w492))) else og (okI p1 128) (bd1 (fX0_highDays (w492 (Int32.toNatClampNeg p1)) c_bond_terms) (fun r507 => bd1 (fX0_softLeast c_bond_terms) (fun r510 => if r507 < r510 then og (okI p1 128) (nm (vp_updL c_called (Int32.toNatClampNeg p1) (-2)) (fun w516 => some (w11, w498, w516, w492))) else bd1 (fX0_callOn p2 c_bond_terms) (fun r518 => og (okI p1 128) (og (okI p1 128) (nm (vp_updL c_called (Int32.toNatClampNeg p1) (if (w498 (Int32.toNatClampNeg p1)) < (Int32.toInt64 r518) then (Int32.toInt64 r518) else (w498 (Int32.toNatClampNeg p1)))) (fun w523 => some (w11, w498, w523, w492))))))))))) else og (okI p1 128) (bd1 (fX0_turnedWorth (w11 (Int32.toNatClampNeg p1)) w285 c_bond_terms) (fun r525 => og (okI p1 128) (nm (vp_updL c_turned (Int32.toNatClampNeg p1) r525) (fun w529 => bd1 (fX0_callOn p2 c_bond_terms) (fun r530 => if r530 < 0 then og (okI p1 128) (nm (vp_updL c_called (Int32.toNatClampNeg p1) (-2)) (fun w536 => some (w11, w529, w536, w492))) else og (okI p1 128) (bd1 (fX0_highDays (w492 (Int32.toNatClampNeg p1)) c_bond_terms) (fun r538 => bd1 (fX0_softLeast c_bond_terms) (fun r541 => if r538 < r541 then og (okI p1 128) (nm (vp_updL c_called (Int32.toNatClampNeg p1) (-2)) (fun w547 => some (w11, w529, w547, w492))) else bd1 (fX0_callOn p2 c_bond_terms) (fun r549 => og (okI p1 128) (og (okI p1 128) (nm (vp_updL c_called (Int32.toNatClampNeg p1) (if (w529 (Int32.toNatClampNeg p1)) < (Int32.toInt64 r549) then (Int32.toInt64 r549) else (w529 (Int32.toNatClampNeg p1)))) (fun w554 => some (w11, w529, w554, w492))))))))))))))))))))))))))))
abbrev rmX5_layOutRow : Room := { frames := 2, cells := 0, slots := 0, locals := 51 }
set_option maxHeartbeats 4000000 in
set_option maxRecDepth 100000 in
theorem tX5_layOutRow (l : Launch) (dC : Nat → ClassId) (dI : Nat → Nat → Nat) (dA : Nat → ClassId) (ad : Nat → Nat) (sz : Nat) {p1 : Int32} {p2 : Int32} {c_tree_parts : Nat → Int32} {c_bond_terms : Nat → Int32} {c_penceByUps : Nat → Int64} {c_pence : Nat → Int64} {c_turned : Nat → Int64} {c_called : Nat → Int64} {c_hold : Nat → Int64} {c_value : Nat → Int64} {c_marks : Nat → Int32} {c_act : Nat → Int32} {c_rowOfKey : Nat → Int32} {o_c_pence : Nat → Int64} {o_c_turned : Nat → Int64} {o_c_called : Nat → Int64} {o_c_marks : Nat → Int32} (hf : fX5_layOutRow p1 p2 c_bond_terms c_penceByUps c_pence c_turned c_called c_marks = some (o_c_pence, o_c_turned, o_c_called, o_c_marks)) : Met l yX5_layOutRow (wq (Cond.code yX5_layOutRow cX5_layOutRow 9 none)) rmX5_layOutRow (gP [.ref (ad 0), .int p1, .int p2] (dC, dI) dA (wX5 dA ad c_tree_parts c_bond_terms c_penceByUps c_pence c_turned c_called c_hold c_value c_marks c_act c_rowOfKey) sz) (gQv (dC, dI) (wX5 dA ad c_tree_parts c_bond_terms c_penceByUps o_c_pence o_c_turned o_c_called c_hold c_value o_c_marks c_act c_rowOfKey) (va_A (wX5 dA ad c_tree_parts c_bond_terms c_penceByUps c_pence c_turned c_called c_hold c_value c_marks c_act c_rowOfKey) sz)) 0 0 (va_A (wX5 dA ad c_tree_parts c_bond_terms c_penceByUps c_pence c_turned c_called c_hold c_value c_marks c_act c_rowOfKey) sz) := by
  refine Met.ofW (cc := cX5_layOutRow) (maxL := 9) (ret := none) (by decide) rfl ?_
  intro p e s m args below meth c s₁ B hml hv
  obtain ⟨rfl, hsz, hP, hK, hD0⟩ := hv
  have hx := B.exec
  have hb := B.bytes
  have hr := B.returns
  have hts := atoms_spec (ws := wq (Cond.code yX5_layOutRow cX5_layOutRow 9 none)) B.pre
  have hown : s.vm.findClass RX5 = some m.cls := findClass_of_methodNamed B.named
  have hlocks := B.notSynchronized
  clear B
  subst hsz
  have hD := hD0.self (sz := s.heap.size)
  generalize hAe : va_A (wX5 dA ad c_tree_parts c_bond_terms c_penceByUps c_pence c_turned c_called c_hold c_value c_marks c_act c_rowOfKey) s.heap.size = A at hD ⊢
  have hA : ∀ q : Nat, s.heap.size ≤ q → A q := fun q h => by rw [← hAe]; exact Or.inr h
  clear hAe hD0
  have hS : va_S A s.heap s.heap [] := va_S.rf
  have hl := lv_entry ([.ref (ad 0), .int p1, .int p2]) (n := 9) (Nat.le_of_ble_eq_true rfl)
  rw [lg_entry_eq]
  generalize (lg_sl ([.ref (ad 0), .int p1, .int p2]) ++ List.replicate (9 - (lg_sl ([.ref (ad 0), .int p1, .int p2])).length) Slot.unset).toArray = ls at hl ⊢
  have hl : lv_has ls 9 [(0, .ref (ad 0)), (1, .int p1), (2, .int p2)] := hl
  change W p l e rmX5_layOutRow s m ([.ref (ad 0), .int p1, .int p2] : List Value).toArray below meth c s.heap [] 0 0 _ _
  unfold fX5_layOutRow at hf
  refine lv_iload_n hx hb dX5_layOutRow_0 rfl (lv_at hl 1 rfl) ?_
  obtain ⟨r1, v2, hf⟩ := bd1_some hf
  refine gci0 (va_runSN (As := [.int p1]) (rest := []) ⟨hx, hb, hml, hown, hts⟩ (tX8_upsOf l dC dI dA s.heap.size v2) (ccX5_X8_upsOf hK.2 hts ⟨Nat.le_of_ble_eq_true rfl, Nat.le_of_ble_eq_true rfl⟩) (gPreS0 hK) rfl rfl hl.1 rfl (lv_room (Nat.le_of_ble_eq_true rfl)) dX5_layOutRow_1 ⟨Nat.le_of_ble_eq_true rfl, Nat.le_of_ble_eq_true rfl⟩) hP hS hA (fun H locs hP hS => ?_)
  refine lv_istore_n (lv' := [(3, .int r1), (0, .ref (ad 0)), (1, .int p1), (2, .int p2)]) hx hb dX5_layOutRow_4 rfl hl (by decide) rfl (fun ls hl => ?_)
  refine lv_iload_n hx hb dX5_layOutRow_5 rfl (lv_at hl 2 rfl) ?_
  obtain ⟨r3, v4, hf⟩ := bd1_some hf
  refine gci0 (va_runSN (As := [.int p1]) (rest := []) ⟨hx, hb, hml, hown, hts⟩ (tX8_isRow l dC dI dA H.size v4) (ccX5_X8_isRow hK.2 hts ⟨Nat.le_of_ble_eq_true rfl, Nat.le_of_ble_eq_true rfl⟩) (gPreS0 hK) rfl rfl hl.1 rfl (lv_room (Nat.le_of_ble_eq_true rfl)) dX5_layOutRow_6 ⟨Nat.le_of_ble_eq_true rfl, Nat.le_of_ble_eq_true rfl⟩) hP hS hA (fun H locs hP hS => ?_)
  refine lv_if_eq (tgt := 22) hx hb dX5_layOutRow_9 (by decide) (fun k5 => ?_) (fun k5 => ?_)
  · replace hf := ifp k5 hf
    cases hf
    exact W.vret hx hb hr (fun t ht _ => gqv hP hD hS ht) hS.2.2 dX5_layOutRow_22
  · replace hf := ifn k5 hf
    refine lv_iload_n hx hb dX5_layOutRow_12 rfl (lv_at hl 0 rfl) ?_
    refine lv_iconst (v := 0) hx hb dX5_layOutRow_13 (by decide) ?_
    refine lv_bipush (v := 6) hx hb dX5_layOutRow_14 (by decide) ?_
    obtain ⟨r6, v7, hf⟩ := bd1_some hf
    refine gci0 (va_runSN (As := [.int r1, .int 0, .int 6]) (rest := []) ⟨hx, hb, hml, hown, hts⟩ (tX8_within l dC dI dA H.size v7) (ccX5_X8_within hK.2 hts ⟨Nat.le_of_ble_eq_true rfl, Nat.le_of_ble_eq_true rfl⟩) (gPreS0 hK) rfl rfl hl.1 rfl (lv_room (Nat.le_of_ble_eq_true rfl)) dX5_layOutRow_16 ⟨Nat.le_of_ble_eq_true rfl, Nat.le_of_ble_eq_true rfl⟩) hP hS hA (fun H locs hP hS => ?_)
    refine lv_if_ne (tgt := 23) hx hb dX5_layOutRow_19 (by decide) (fun k8 => ?_) (fun k8 => ?_)
    · replace hf := ifn k8 hf
      refine lv_aload_n hx hb dX5_layOutRow_23 rfl (lv_at hl 1 rfl) ?_
      refine va_get (D := (dC, dI)) (ci := 5) (v := .ref (ad 6)) (C := RX5) (T := TX5) (N := 11) hx hb hts (fun w h => gw_mem (inX5 w h)) hown hK.1 hP 0 rfl rfl 3 (by decide) (hts _ (gw_mem wfX5_29)) (fun _ h9 => h9) rfl dX5_layOutRow_24 ?_
      refine lv_iload_n hx hb dX5_layOutRow_27 rfl (lv_at hl 2 rfl) ?_
      refine lv_aload_n hx hb dX5_layOutRow_28 rfl (lv_at hl 1 rfl) ?_
      refine va_get (D := (dC, dI)) (ci := 5) (v := .ref (ad 5)) (C := RX5) (T := TX5) (N := 11) hx hb hts (fun w h => gw_mem (inX5 w h)) hown hK.1 hP 0 rfl rfl 2 (by decide) (hts _ (gw_mem wfX5_25)) (fun _ h9 => h9) rfl dX5_layOutRow_29 ?_
      refine lv_iload_n hx hb dX5_layOutRow_32 rfl (lv_at hl 0 rfl) ?_
      obtain ⟨h9, hf⟩ := og_some hf
      refine va_lald hx hb hK.1 hP 5 1 rfl rfl (okI_in h9) dX5_layOutRow_33 ?_
      obtain ⟨h10, hf⟩ := og_some hf
      obtain ⟨w11, ew11⟩ : ∃ y : Nat → Int64, y = vp_updL c_pence (Int32.toNatClampNeg p1) (c_penceByUps (Int32.toNatClampNeg r1)) := ⟨_, rfl⟩
      replace hf := nm_at hf ew11
      refine va_last hx hb hK.1 hP hD hS 6 1 rfl rfl (okI_in h10) dX5_layOutRow_34 (fun H locs hP hD hS => ?_)
      have hP : va_P (dC, dI) vwCl (wX5 dA ad c_tree_parts c_bond_terms c_penceByUps w11 c_turned c_called c_hold c_value c_marks c_act c_rowOfKey) H := by rw [ew11]; exact hP
      have hD : va_D A (wX5 dA ad c_tree_parts c_bond_terms c_penceByUps w11 c_turned c_called c_hold c_value c_marks c_act c_rowOfKey) := by rw [ew11]; exact hD
      refine lv_iload_n hx hb dX5_layOutRow_35 rfl (lv_at hl 2 rfl) ?_
      refine lv_iconst (v := 1) hx hb dX5_layOutRow_36 (by decide) ?_
      refine lv_icmp_le (tgt := 51) hx hb dX5_layOutRow_37 (by decide) (fun k12 => ?_) (fun k12 => ?_)
      · replace hf := ifp k12 hf
        refine lv_aload_n hx hb dX5_layOutRow_51 rfl (lv_at hl 1 rfl) ?_
        refine va_get (D := (dC, dI)) (ci := 5) (v := .ref (ad 6)) (C := RX5) (T := TX5) (N := 11) hx hb hts (fun w h => gw_mem (inX5 w h)) hown hK.1 hP 0 rfl rfl 3 (by decide) (hts _ (gw_mem wfX5_29)) (fun _ h9 => h9) rfl dX5_layOutRow_52 ?_
        refine lv_iload_n hx hb dX5_layOutRow_55 rfl (lv_at hl 2 rfl) ?_
        obtain ⟨h13, hf⟩ := og_some hf
        refine va_lald hx hb hK.1 hP 6 1 rfl rfl (okI_in h13) dX5_layOutRow_56 ?_
        refine lv_topl (fun w14 ew14 => ?_)
        replace hf := nm_at hf ew14
        refine lv_lstore (lv' := [(4, .long w14), (3, .int r1), (0, .ref (ad 0)), (1, .int p1), (2, .int p2)]) hx hb dX5_layOutRow_57 hl (by decide) rfl (fun ls hl => ?_)
        refine lv_iload_n hx hb dX5_layOutRow_59 rfl (lv_at hl 3 rfl) ?_
        refine lv_iconst (v := 1) hx hb dX5_layOutRow_60 (by decide) ?_
        refine lv_icmp_le (tgt := 75) hx hb dX5_layOutRow_61 (by decide) (fun k15 => ?_) (fun k15 => ?_)
        · replace hf := ifp k15 hf
          refine lv_iconst (v := 0) hx hb dX5_layOutRow_75 (by decide) ?_
          refine lv_istore (lv' := [(6, .int 0), (4, .long w14), (3, .int r1), (0, .ref (ad 0)), (1, .int p1), (2, .int p2)]) hx hb dX5_layOutRow_76 hl (by decide) rfl (fun ls hl => ?_)
          refine lv_aload_n hx hb dX5_layOutRow_78 rfl (lv_at hl 3 rfl) ?_
          refine va_get (D := (dC, dI)) (ci := 5) (v := .ref (ad 6)) (C := RX5) (T := TX5) (N := 11) hx hb hts (fun w h => gw_mem (inX5 w h)) hown hK.1 hP 0 rfl rfl 3 (by decide) (hts _ (gw_mem wfX5_29)) (fun _ h9 => h9) rfl dX5_layOutRow_79 ?_
          refine lv_iload_n hx hb dX5_layOutRow_82 rfl (lv_at hl 4 rfl) ?_
          obtain ⟨h16, hf⟩ := og_some hf
          refine va_lald hx hb hK.1 hP 6 1 rfl rfl (okI_in h16) dX5_layOutRow_83 ?_
          refine lv_aload_n hx hb dX5_layOutRow_84 rfl (lv_at hl 3 rfl) ?_
          refine va_get (D := (dC, dI)) (ci := 5) (v := .ref (ad 3)) (C := RX5) (T := TX5) (N := 11) hx hb hts (fun w h => gw_mem (inX5 w h)) hown hK.1 hP 0 rfl rfl 1 (by decide) (hts _ (gw_mem wfX5_21)) (fun _ h9 => h9) rfl dX5_layOutRow_85 ?_
          obtain ⟨r17, v18, hf⟩ := bd1_some hf
          have z19 : [3, 4].map (fun i => ((wX5 dA ad c_tree_parts c_bond_terms c_penceByUps w11 c_turned c_called c_hold c_value c_marks c_act c_rowOfKey))[i]?) = ((wX0 dA (fun i => ad (i + 3)) c_bond_terms)).map some := rfl
          refine gpi [3, 4] [0, 1, 2, 5, 6, 7, 8, 9, 10, 11, 12, 13] [0, 1, 2, 12, 13, 3, 4, 5, 6, 7, 8, 9, 10, 11] (wf := (wX5 dA ad c_tree_parts c_bond_terms c_penceByUps w11 c_turned c_called c_hold c_value c_marks c_act c_rowOfKey)) (va_runV (As := []) (rest := [.long (w11 (Int32.toNatClampNeg p1))]) ⟨hx, hb, hml, hown, hts⟩ (tX0_softLevel l dC dI dA (fun i => ad (i + 3)) H.size v18) (ccX5_X0_softLevel hts ⟨Nat.le_of_ble_eq_true rfl, Nat.le_of_ble_eq_true rfl⟩) (gPreV (ci := 1) (q0 := 0) (gsub z19 hP) hK (gsubD z19 (by decide) hD) rfl rfl) rfl rfl hl.1 rfl (lv_room (Nat.le_of_ble_eq_true rfl)) dX5_layOutRow_88 ⟨Nat.le_of_ble_eq_true rfl, Nat.le_of_ble_eq_true rfl⟩) hP hD hS hA z19 rfl (by decide) (by decide) (by decide) rfl (fun H locs hP hD hS => ?_)
          refine lv_i2l hx hb dX5_layOutRow_91 rfl ?_
          refine W.lcmp hx hb dX5_layOutRow_92 ?_
          refine lv_if_lt (tgt := 100) hx hb dX5_layOutRow_93 (by decide) (fun k20 => ?_) (fun k20 => ?_)
          · replace hf := ifp (lc_lt.mp k20) hf
            refine lv_iconst (v := 0) hx hb dX5_layOutRow_100 (by decide) ?_
            refine lv_istore (lv' := [(7, .int 0), (6, .int 0), (4, .long w14), (3, .int r1), (0, .ref (ad 0)), (1, .int p1), (2, .int p2)]) hx hb dX5_layOutRow_101 hl (by decide) rfl (fun ls hl => ?_)
            refine lv_aload_n hx hb dX5_layOutRow_103 rfl (lv_at hl 4 rfl) ?_
            refine va_get (D := (dC, dI)) (ci := 5) (v := .ref (ad 11)) (C := RX5) (T := TX5) (N := 11) hx hb hts (fun w h => gw_mem (inX5 w h)) hown hK.1 hP 0 rfl rfl 8 (by decide) (hts _ (gw_mem wfX5_44)) (fun _ h9 => h9) rfl dX5_layOutRow_104 ?_
            refine lv_iload_n hx hb dX5_layOutRow_107 rfl (lv_at hl 5 rfl) ?_
            refine lv_iload hx hb dX5_layOutRow_108 (lv_at hl 1 rfl) ?_
            refine lv_iconst (v := 2) hx hb dX5_layOutRow_110 (by decide) ?_
            refine lv_imul hx hb dX5_layOutRow_111 ?_
            refine lv_iload hx hb dX5_layOutRow_112 (lv_at hl 0 rfl) ?_
            refine lv_iadd hx hb dX5_layOutRow_114 ?_
            refine lv_bipush (v := 7) hx hb dX5_layOutRow_115 (by decide) ?_
            refine lv_iand hx hb dX5_layOutRow_117 ?_
            obtain ⟨h21, hf⟩ := og_some hf
            obtain ⟨w22, ew22⟩ : ∃ y : Nat → Int32, y = upd c_marks (Int32.toNatClampNeg p1) (((0 * 2) + 0) &&& 7) := ⟨_, rfl⟩
            replace hf := nm_at hf ew22
            refine va_iast hx hb hK.1 hP hD hS 11 0 rfl rfl (okI_in h21) dX5_layOutRow_118 (fun H locs hP hD hS => ?_)
            have hP : va_P (dC, dI) vwCl (wX5 dA ad c_tree_parts c_bond_terms c_penceByUps w11 c_turned c_called c_hold c_value w22 c_act c_rowOfKey) H := by rw [ew22]; exact hP
            have hD : va_D A (wX5 dA ad c_tree_parts c_bond_terms c_penceByUps w11 c_turned c_called c_hold c_value w22 c_act c_rowOfKey) := by rw [ew22]; exact hD
            refine lv_aload_n hx hb dX5_layOutRow_119 rfl (lv_at hl 4 rfl) ?_
            refine va_get (D := (dC, dI)) (ci := 5) (v := .ref (ad 7)) (C := RX5) (T := TX5) (N := 11) hx hb hts (fun w h => gw_mem (inX5 w h)) hown hK.1 hP 0 rfl rfl 4 (by decide) (hts _ (gw_mem wfX5_32)) (fun _ h9 => h9) rfl dX5_layOutRow_120 ?_
            refine lv_iload_n hx hb dX5_layOutRow_123 rfl (lv_at hl 5 rfl) ?_
            refine lv_aload_n hx hb dX5_layOutRow_124 rfl (lv_at hl 4 rfl) ?_
            refine va_get (D := (dC, dI)) (ci := 5) (v := .ref (ad 3)) (C := RX5) (T := TX5) (N := 11) hx hb hts (fun w h => gw_mem (inX5 w h)) hown hK.1 hP 0 rfl rfl 1 (by decide) (hts _ (gw_mem wfX5_21)) (fun _ h9 => h9) rfl dX5_layOutRow_125 ?_
            refine lv_iload_n hx hb dX5_layOutRow_128 rfl (lv_at hl 6 rfl) ?_
            obtain ⟨r23, v24, hf⟩ := bd1_some hf
            have z25 : [3, 4].map (fun i => ((wX5 dA ad c_tree_parts c_bond_terms c_penceByUps w11 c_turned c_called c_hold c_value w22 c_act c_rowOfKey))[i]?) = ((wX0 dA (fun i => ad (i + 3)) c_bond_terms)).map some := rfl
            refine gpi [3, 4] [0, 1, 2, 5, 6, 7, 8, 9, 10, 11, 12, 13] [0, 1, 2, 12, 13, 3, 4, 5, 6, 7, 8, 9, 10, 11] (wf := (wX5 dA ad c_tree_parts c_bond_terms c_penceByUps w11 c_turned c_called c_hold c_value w22 c_act c_rowOfKey)) (va_runV (As := [.int p2]) (rest := [.int p1, .ref (ad 7)]) ⟨hx, hb, hml, hown, hts⟩ (tX0_mayTurnOn l dC dI dA (fun i => ad (i + 3)) H.size v24) (ccX5_X0_mayTurnOn hts ⟨Nat.le_of_ble_eq_true rfl, Nat.le_of_ble_eq_true rfl⟩) (gPreV (ci := 1) (q0 := 0) (gsub z25 hP) hK (gsubD z25 (by decide) hD) rfl rfl) rfl rfl hl.1 rfl (lv_room (Nat.le_of_ble_eq_true rfl)) dX5_layOutRow_129 ⟨Nat.le_of_ble_eq_true rfl, Nat.le_of_ble_eq_true rfl⟩) hP hD hS hA z25 rfl (by decide) (by decide) (by decide) rfl (fun H locs hP hD hS => ?_)
            refine lv_if_eq (tgt := 153) hx hb dX5_layOutRow_132 (by decide) (fun k26 => ?_) (fun k26 => ?_)
            · replace hf := ifp k26 hf
              refine lv_ldc2 (v := (-2)) hx hb hown (hts _ (gw_mem wkX5_75)) dX5_layOutRow_153 ?_
              obtain ⟨h27, hf⟩ := og_some hf
              obtain ⟨w28, ew28⟩ : ∃ y : Nat → Int64, y = vp_updL c_turned (Int32.toNatClampNeg p1) (-2) := ⟨_, rfl⟩
              replace hf := nm_at hf ew28
              refine va_last hx hb hK.1 hP hD hS 7 1 rfl rfl (okI_in h27) dX5_layOutRow_156 (fun H locs hP hD hS => ?_)
              have hP : va_P (dC, dI) vwCl (wX5 dA ad c_tree_parts c_bond_terms c_penceByUps w11 w28 c_called c_hold c_value w22 c_act c_rowOfKey) H := by rw [ew28]; exact hP
              have hD : va_D A (wX5 dA ad c_tree_parts c_bond_terms c_penceByUps w11 w28 c_called c_hold c_value w22 c_act c_rowOfKey) := by rw [ew28]; exact hD
              refine lv_aload_n hx hb dX5_layOutRow_157 rfl (lv_at hl 4 rfl) ?_
              refine va_get (D := (dC, dI)) (ci := 5) (v := .ref (ad 3)) (C := RX5) (T := TX5) (N := 11) hx hb hts (fun w h => gw_mem (inX5 w h)) hown hK.1 hP 0 rfl rfl 1 (by decide) (hts _ (gw_mem wfX5_21)) (fun _ h9 => h9) rfl dX5_layOutRow_158 ?_
              refine lv_iload_n hx hb dX5_layOutRow_161 rfl (lv_at hl 6 rfl) ?_
              obtain ⟨r29, v30, hf⟩ := bd1_some hf
              have z31 : [3, 4].map (fun i => ((wX5 dA ad c_tree_parts c_bond_terms c_penceByUps w11 w28 c_called c_hold c_value w22 c_act c_rowOfKey))[i]?) = ((wX0 dA (fun i => ad (i + 3)) c_bond_terms)).map some := rfl
              refine gpi [3, 4] [0, 1, 2, 5, 6, 7, 8, 9, 10, 11, 12, 13] [0, 1, 2, 12, 13, 3, 4, 5, 6, 7, 8, 9, 10, 11] (wf := (wX5 dA ad c_tree_parts c_bond_terms c_penceByUps w11 w28 c_called c_hold c_value w22 c_act c_rowOfKey)) (va_runV (As := [.int p2]) (rest := []) ⟨hx, hb, hml, hown, hts⟩ (tX0_callOn l dC dI dA (fun i => ad (i + 3)) H.size v30) (ccX5_X0_callOn hts ⟨Nat.le_of_ble_eq_true rfl, Nat.le_of_ble_eq_true rfl⟩) (gPreV (ci := 1) (q0 := 0) (gsub z31 hP) hK (gsubD z31 (by decide) hD) rfl rfl) rfl rfl hl.1 rfl (lv_room (Nat.le_of_ble_eq_true rfl)) dX5_layOutRow_162 ⟨Nat.le_of_ble_eq_true rfl, Nat.le_of_ble_eq_true rfl⟩) hP hD hS hA z31 rfl (by decide) (by decide) (by decide) rfl (fun H locs hP hD hS => ?_)
              refine lv_if_lt (tgt := 195) hx hb dX5_layOutRow_165 (by decide) (fun k32 => ?_) (fun k32 => ?_)
              · replace hf := ifp k32 hf
                refine lv_iconst (v := 0) hx hb dX5_layOutRow_195 (by decide) ?_
                refine lv_istore (lv' := [(8, .int 0), (7, .int 0), (6, .int 0), (4, .long w14), (3, .int r1), (0, .ref (ad 0)), (1, .int p1), (2, .int p2)]) hx hb dX5_layOutRow_196 hl (by decide) rfl (fun ls hl => ?_)
                refine lv_aload_n hx hb dX5_layOutRow_198 rfl (lv_at hl 5 rfl) ?_
                refine va_get (D := (dC, dI)) (ci := 5) (v := .ref (ad 8)) (C := RX5) (T := TX5) (N := 11) hx hb hts (fun w h => gw_mem (inX5 w h)) hown hK.1 hP 0 rfl rfl 5 (by decide) (hts _ (gw_mem wfX5_35)) (fun _ h9 => h9) rfl dX5_layOutRow_199 ?_
                refine lv_iload_n hx hb dX5_layOutRow_202 rfl (lv_at hl 6 rfl) ?_
                refine lv_iload hx hb dX5_layOutRow_203 (lv_at hl 0 rfl) ?_
                refine lv_if_eq (tgt := 229) hx hb dX5_layOutRow_205 (by decide) (fun k33 => ?_) (fun k33 => absurd k33 (by decide))
                refine lv_ldc2 (v := (-2)) hx hb hown (hts _ (gw_mem wkX5_75)) dX5_layOutRow_229 ?_
                obtain ⟨h34, hf⟩ := og_some hf
                obtain ⟨w35, ew35⟩ : ∃ y : Nat → Int64, y = vp_updL c_called (Int32.toNatClampNeg p1) (-2) := ⟨_, rfl⟩
                replace hf := nm_at hf ew35
                refine va_last hx hb hK.1 hP hD hS 8 1 rfl rfl (okI_in h34) dX5_layOutRow_232 (fun H locs hP hD hS => ?_)
                have hP : va_P (dC, dI) vwCl (wX5 dA ad c_tree_parts c_bond_terms c_penceByUps w11 w28 w35 c_hold c_value w22 c_act c_rowOfKey) H := by rw [ew35]; exact hP
                have hD : va_D A (wX5 dA ad c_tree_parts c_bond_terms c_penceByUps w11 w28 w35 c_hold c_value w22 c_act c_rowOfKey) := by rw [ew35]; exact hD
                cases hf
                exact W.vret hx hb hr (fun t ht _ => gqv hP hD hS ht) hS.2.2 dX5_layOutRow_233
              · replace hf := ifn k32 hf
                refine lv_aload_n hx hb dX5_layOutRow_168 rfl (lv_at hl 4 rfl) ?_
                refine va_get (D := (dC, dI)) (ci := 5) (v := .ref (ad 3)) (C := RX5) (T := TX5) (N := 11) hx hb hts (fun w h => gw_mem (inX5 w h)) hown hK.1 hP 0 rfl rfl 1 (by decide) (hts _ (gw_mem wfX5_21)) (fun _ h9 => h9) rfl dX5_layOutRow_169 ?_
                refine lv_aload_n hx hb dX5_layOutRow_172 rfl (lv_at hl 4 rfl) ?_
                refine va_get (D := (dC, dI)) (ci := 5) (v := .ref (ad 11)) (C := RX5) (T := TX5) (N := 11) hx hb hts (fun w h => gw_mem (inX5 w h)) hown hK.1 hP 0 rfl rfl 8 (by decide) (hts _ (gw_mem wfX5_44)) (fun _ h9 => h9) rfl dX5_layOutRow_173 ?_
                refine lv_iload_n hx hb dX5_layOutRow_176 rfl (lv_at hl 5 rfl) ?_
                obtain ⟨h36, hf⟩ := og_some hf
                refine va_iald hx hb hK.1 hP 11 0 rfl rfl (okI_in h36) dX5_layOutRow_177 ?_
                obtain ⟨r37, v38, hf⟩ := bd1_some hf
                have z39 : [3, 4].map (fun i => ((wX5 dA ad c_tree_parts c_bond_terms c_penceByUps w11 w28 c_called c_hold c_value w22 c_act c_rowOfKey))[i]?) = ((wX0 dA (fun i => ad (i + 3)) c_bond_terms)).map some := rfl
                refine gpi [3, 4] [0, 1, 2, 5, 6, 7, 8, 9, 10, 11, 12, 13] [0, 1, 2, 12, 13, 3, 4, 5, 6, 7, 8, 9, 10, 11] (wf := (wX5 dA ad c_tree_parts c_bond_terms c_penceByUps w11 w28 c_called c_hold c_value w22 c_act c_rowOfKey)) (va_runV (As := [.int (w22 (Int32.toNatClampNeg p1))]) (rest := []) ⟨hx, hb, hml, hown, hts⟩ (tX0_highDays l dC dI dA (fun i => ad (i + 3)) H.size v38) (ccX5_X0_highDays hts ⟨Nat.le_of_ble_eq_true rfl, Nat.le_of_ble_eq_true rfl⟩) (gPreV (ci := 1) (q0 := 0) (gsub z39 hP) hK (gsubD z39 (by decide) hD) rfl rfl) rfl rfl hl.1 rfl (lv_room (Nat.le_of_ble_eq_true rfl)) dX5_layOutRow_178 ⟨Nat.le_of_ble_eq_true rfl, Nat.le_of_ble_eq_true rfl⟩) hP hD hS hA z39 rfl (by decide) (by decide) (by decide) rfl (fun H locs hP hD hS => ?_)
                refine lv_aload_n hx hb dX5_layOutRow_181 rfl (lv_at hl 4 rfl) ?_
                refine va_get (D := (dC, dI)) (ci := 5) (v := .ref (ad 3)) (C := RX5) (T := TX5) (N := 11) hx hb hts (fun w h => gw_mem (inX5 w h)) hown hK.1 hP 0 rfl rfl 1 (by decide) (hts _ (gw_mem wfX5_21)) (fun _ h9 => h9) rfl dX5_layOutRow_182 ?_
                obtain ⟨r40, v41, hf⟩ := bd1_some hf
                have z42 : [3, 4].map (fun i => ((wX5 dA ad c_tree_parts c_bond_terms c_penceByUps w11 w28 c_called c_hold c_value w22 c_act c_rowOfKey))[i]?) = ((wX0 dA (fun i => ad (i + 3)) c_bond_terms)).map some := rfl
                refine gpi [3, 4] [0, 1, 2, 5, 6, 7, 8, 9, 10, 11, 12, 13] [0, 1, 2, 12, 13, 3, 4, 5, 6, 7, 8, 9, 10, 11] (wf := (wX5 dA ad c_tree_parts c_bond_terms c_penceByUps w11 w28 c_called c_hold c_value w22 c_act c_rowOfKey)) (va_runV (As := []) (rest := [.int r37]) ⟨hx, hb, hml, hown, hts⟩ (tX0_softLeast l dC dI dA (fun i => ad (i + 3)) H.size v41) (ccX5_X0_softLeast hts ⟨Nat.le_of_ble_eq_true rfl, Nat.le_of_ble_eq_true rfl⟩) (gPreV (ci := 1) (q0 := 0) (gsub z42 hP) hK (gsubD z42 (by decide) hD) rfl rfl) rfl rfl hl.1 rfl (lv_room (Nat.le_of_ble_eq_true rfl)) dX5_layOutRow_185 ⟨Nat.le_of_ble_eq_true rfl, Nat.le_of_ble_eq_true rfl⟩) hP hD hS hA z42 rfl (by decide) (by decide) (by decide) rfl (fun H locs hP hD hS => ?_)
                refine lv_icmp_lt (tgt := 195) hx hb dX5_layOutRow_188 (by decide) (fun k43 => ?_) (fun k43 => ?_)
                · replace hf := ifp k43 hf
                  refine lv_iconst (v := 0) hx hb dX5_layOutRow_195 (by decide) ?_
                  refine lv_istore (lv' := [(8, .int 0), (7, .int 0), (6, .int 0), (4, .long w14), (3, .int r1), (0, .ref (ad 0)), (1, .int p1), (2, .int p2)]) hx hb dX5_layOutRow_196 hl (by decide) rfl (fun ls hl => ?_)
                  refine lv_aload_n hx hb dX5_layOutRow_198 rfl (lv_at hl 5 rfl) ?_
                  refine va_get (D := (dC, dI)) (ci := 5) (v := .ref (ad 8)) (C := RX5) (T := TX5) (N := 11) hx hb hts (fun w h => gw_mem (inX5 w h)) hown hK.1 hP 0 rfl rfl 5 (by decide) (hts _ (gw_mem wfX5_35)) (fun _ h9 => h9) rfl dX5_layOutRow_199 ?_
                  refine lv_iload_n hx hb dX5_layOutRow_202 rfl (lv_at hl 6 rfl) ?_
                  refine lv_iload hx hb dX5_layOutRow_203 (lv_at hl 0 rfl) ?_
                  refine lv_if_eq (tgt := 229) hx hb dX5_layOutRow_205 (by decide) (fun k44 => ?_) (fun k44 => absurd k44 (by decide))
                  refine lv_ldc2 (v := (-2)) hx hb hown (hts _ (gw_mem wkX5_75)) dX5_layOutRow_229 ?_
                  obtain ⟨h45, hf⟩ := og_some hf
                  obtain ⟨w46, ew46⟩ : ∃ y : Nat → Int64, y = vp_updL c_called (Int32.toNatClampNeg p1) (-2) := ⟨_, rfl⟩
                  replace hf := nm_at hf ew46
                  refine va_last hx hb hK.1 hP hD hS 8 1 rfl rfl (okI_in h45) dX5_layOutRow_232 (fun H locs hP hD hS => ?_)
                  have hP : va_P (dC, dI) vwCl (wX5 dA ad c_tree_parts c_bond_terms c_penceByUps w11 w28 w46 c_hold c_value w22 c_act c_rowOfKey) H := by rw [ew46]; exact hP
                  have hD : va_D A (wX5 dA ad c_tree_parts c_bond_terms c_penceByUps w11 w28 w46 c_hold c_value w22 c_act c_rowOfKey) := by rw [ew46]; exact hD
                  cases hf
                  exact W.vret hx hb hr (fun t ht _ => gqv hP hD hS ht) hS.2.2 dX5_layOutRow_233
                · replace hf := ifn k43 hf
                  refine lv_iconst (v := 1) hx hb dX5_layOutRow_191 (by decide) ?_
                  refine lv_goto (tgt := 196) hx hb dX5_layOutRow_192 (by decide) ?_
                  refine lv_istore (lv' := [(8, .int 1), (7, .int 0), (6, .int 0), (4, .long w14), (3, .int r1), (0, .ref (ad 0)), (1, .int p1), (2, .int p2)]) hx hb dX5_layOutRow_196 hl (by decide) rfl (fun ls hl => ?_)
                  refine lv_aload_n hx hb dX5_layOutRow_198 rfl (lv_at hl 5 rfl) ?_
                  refine va_get (D := (dC, dI)) (ci := 5) (v := .ref (ad 8)) (C := RX5) (T := TX5) (N := 11) hx hb hts (fun w h => gw_mem (inX5 w h)) hown hK.1 hP 0 rfl rfl 5 (by decide) (hts _ (gw_mem wfX5_35)) (fun _ h9 => h9) rfl dX5_layOutRow_199 ?_
                  refine lv_iload_n hx hb dX5_layOutRow_202 rfl (lv_at hl 6 rfl) ?_
                  refine lv_iload hx hb dX5_layOutRow_203 (lv_at hl 0 rfl) ?_
                  refine lv_if_eq (tgt := 229) hx hb dX5_layOutRow_205 (by decide) (fun k47 => absurd k47 (by decide)) (fun k47 => ?_)
                  refine lv_aload_n hx hb dX5_layOutRow_208 rfl (lv_at hl 5 rfl) ?_
                  refine va_get (D := (dC, dI)) (ci := 5) (v := .ref (ad 3)) (C := RX5) (T := TX5) (N := 11) hx hb hts (fun w h => gw_mem (inX5 w h)) hown hK.1 hP 0 rfl rfl 1 (by decide) (hts _ (gw_mem wfX5_21)) (fun _ h9 => h9) rfl dX5_layOutRow_209 ?_
                  refine lv_iload_n hx hb dX5_layOutRow_212 rfl (lv_at hl 7 rfl) ?_
                  obtain ⟨r48, v49, hf⟩ := bd1_some hf
                  have z50 : [3, 4].map (fun i => ((wX5 dA ad c_tree_parts c_bond_terms c_penceByUps w11 w28 c_called c_hold c_value w22 c_act c_rowOfKey))[i]?) = ((wX0 dA (fun i => ad (i + 3)) c_bond_terms)).map some := rfl
                  refine gpi [3, 4] [0, 1, 2, 5, 6, 7, 8, 9, 10, 11, 12, 13] [0, 1, 2, 12, 13, 3, 4, 5, 6, 7, 8, 9, 10, 11] (wf := (wX5 dA ad c_tree_parts c_bond_terms c_penceByUps w11 w28 c_called c_hold c_value w22 c_act c_rowOfKey)) (va_runV (As := [.int p2]) (rest := [.int p1, .ref (ad 8)]) ⟨hx, hb, hml, hown, hts⟩ (tX0_callOn l dC dI dA (fun i => ad (i + 3)) H.size v49) (ccX5_X0_callOn hts ⟨Nat.le_of_ble_eq_true rfl, Nat.le_of_ble_eq_true rfl⟩) (gPreV (ci := 1) (q0 := 0) (gsub z50 hP) hK (gsubD z50 (by decide) hD) rfl rfl) rfl rfl hl.1 rfl (lv_room (Nat.le_of_ble_eq_true rfl)) dX5_layOutRow_213 ⟨Nat.le_of_ble_eq_true rfl, Nat.le_of_ble_eq_true rfl⟩) hP hD hS hA z50 rfl (by decide) (by decide) (by decide) rfl (fun H locs hP hD hS => ?_)
                  refine lv_i2l hx hb dX5_layOutRow_216 rfl ?_
                  refine lv_aload_n hx hb dX5_layOutRow_217 rfl (lv_at hl 5 rfl) ?_
                  refine va_get (D := (dC, dI)) (ci := 5) (v := .ref (ad 7)) (C := RX5) (T := TX5) (N := 11) hx hb hts (fun w h => gw_mem (inX5 w h)) hown hK.1 hP 0 rfl rfl 4 (by decide) (hts _ (gw_mem wfX5_32)) (fun _ h9 => h9) rfl dX5_layOutRow_218 ?_
                  refine lv_iload_n hx hb dX5_layOutRow_221 rfl (lv_at hl 6 rfl) ?_
                  obtain ⟨h51, hf⟩ := og_some hf
                  refine va_lald hx hb hK.1 hP 7 1 rfl rfl (okI_in h51) dX5_layOutRow_222 ?_
                  refine va_mmax_long hx hb (hml.trans hl.1.symm) hown (hts _ (gw_mem wmX5_134)) (hts _ (gw_mem wtJ9_max_f86c9)) (hts _ (gw_mem wnJ9)) (hts _ (gw_mem wcJ9_max_f86c9)) (Nat.le_of_ble_eq_true rfl) (Nat.le_of_ble_eq_true rfl) (Nat.le_of_ble_eq_true rfl) (Nat.le_of_ble_eq_true rfl) dX5_layOutRow_223 ?_
                  refine lv_goto (tgt := 232) hx hb dX5_layOutRow_226 (by decide) ?_
                  obtain ⟨h52, hf⟩ := og_some hf
                  obtain ⟨w53, ew53⟩ : ∃ y : Nat → Int64, y = vp_updL c_called (Int32.toNatClampNeg p1) (if (w28 (Int32.toNatClampNeg p1)) < (Int32.toInt64 r48) then (Int32.toInt64 r48) else (w28 (Int32.toNatClampNeg p1))) := ⟨_, rfl⟩
                  replace hf := nm_at hf ew53
                  refine va_last hx hb hK.1 hP hD hS 8 1 rfl rfl (okI_in h52) dX5_layOutRow_232 (fun H locs hP hD hS => ?_)
                  have hP : va_P (dC, dI) vwCl (wX5 dA ad c_tree_parts c_bond_terms c_penceByUps w11 w28 w53 c_hold c_value w22 c_act c_rowOfKey) H := by rw [ew53]; exact hP
                  have hD : va_D A (wX5 dA ad c_tree_parts c_bond_terms c_penceByUps w11 w28 w53 c_hold c_value w22 c_act c_rowOfKey) := by rw [ew53]; exact hD
                  cases hf
                  exact W.vret hx hb hr (fun t ht _ => gqv hP hD hS ht) hS.2.2 dX5_layOutRow_233
            · replace hf := ifn k26 hf
              refine lv_aload_n hx hb dX5_layOutRow_135 rfl (lv_at hl 4 rfl) ?_
              refine va_get (D := (dC, dI)) (ci := 5) (v := .ref (ad 3)) (C := RX5) (T := TX5) (N := 11) hx hb hts (fun w h => gw_mem (inX5 w h)) hown hK.1 hP 0 rfl rfl 1 (by decide) (hts _ (gw_mem wfX5_21)) (fun _ h9 => h9) rfl dX5_layOutRow_136 ?_
              refine lv_aload_n hx hb dX5_layOutRow_139 rfl (lv_at hl 4 rfl) ?_
              refine va_get (D := (dC, dI)) (ci := 5) (v := .ref (ad 6)) (C := RX5) (T := TX5) (N := 11) hx hb hts (fun w h => gw_mem (inX5 w h)) hown hK.1 hP 0 rfl rfl 3 (by decide) (hts _ (gw_mem wfX5_29)) (fun _ h9 => h9) rfl dX5_layOutRow_140 ?_
              refine lv_iload_n hx hb dX5_layOutRow_143 rfl (lv_at hl 5 rfl) ?_
              obtain ⟨h54, hf⟩ := og_some hf
              refine va_lald hx hb hK.1 hP 6 1 rfl rfl (okI_in h54) dX5_layOutRow_144 ?_
              refine lv_lload hx hb dX5_layOutRow_145 (lv_at hl 2 rfl) ?_
              obtain ⟨r55, v56, hf⟩ := bd1_some hf
              have z57 : [3, 4].map (fun i => ((wX5 dA ad c_tree_parts c_bond_terms c_penceByUps w11 c_turned c_called c_hold c_value w22 c_act c_rowOfKey))[i]?) = ((wX0 dA (fun i => ad (i + 3)) c_bond_terms)).map some := rfl
              refine gpl [3, 4] [0, 1, 2, 5, 6, 7, 8, 9, 10, 11, 12, 13] [0, 1, 2, 12, 13, 3, 4, 5, 6, 7, 8, 9, 10, 11] (wf := (wX5 dA ad c_tree_parts c_bond_terms c_penceByUps w11 c_turned c_called c_hold c_value w22 c_act c_rowOfKey)) (va_runV (As := [.long (w11 (Int32.toNatClampNeg p1)), .long w14]) (rest := [.int p1, .ref (ad 7)]) ⟨hx, hb, hml, hown, hts⟩ (tX0_turnedWorth l dC dI dA (fun i => ad (i + 3)) H.size v56) (ccX5_X0_turnedWorth hts ⟨Nat.le_of_ble_eq_true rfl, Nat.le_of_ble_eq_true rfl⟩) (gPreV (ci := 1) (q0 := 0) (gsub z57 hP) hK (gsubD z57 (by decide) hD) rfl rfl) rfl rfl hl.1 rfl (lv_room (Nat.le_of_ble_eq_true rfl)) dX5_layOutRow_147 ⟨Nat.le_of_ble_eq_true rfl, Nat.le_of_ble_eq_true rfl⟩) hP hD hS hA z57 rfl (by decide) (by decide) (by decide) rfl (fun H locs hP hD hS => ?_)
              refine lv_goto (tgt := 156) hx hb dX5_layOutRow_150 (by decide) ?_
              obtain ⟨h58, hf⟩ := og_some hf
              obtain ⟨w59, ew59⟩ : ∃ y : Nat → Int64, y = vp_updL c_turned (Int32.toNatClampNeg p1) r55 := ⟨_, rfl⟩
              replace hf := nm_at hf ew59
              refine va_last hx hb hK.1 hP hD hS 7 1 rfl rfl (okI_in h58) dX5_layOutRow_156 (fun H locs hP hD hS => ?_)
              have hP : va_P (dC, dI) vwCl (wX5 dA ad c_tree_parts c_bond_terms c_penceByUps w11 w59 c_called c_hold c_value w22 c_act c_rowOfKey) H := by rw [ew59]; exact hP
              have hD : va_D A (wX5 dA ad c_tree_parts c_bond_terms c_penceByUps w11 w59 c_called c_hold c_value w22 c_act c_rowOfKey) := by rw [ew59]; exact hD
              refine lv_aload_n hx hb dX5_layOutRow_157 rfl (lv_at hl 4 rfl) ?_
              refine va_get (D := (dC, dI)) (ci := 5) (v := .ref (ad 3)) (C := RX5) (T := TX5) (N := 11) hx hb hts (fun w h => gw_mem (inX5 w h)) hown hK.1 hP 0 rfl rfl 1 (by decide) (hts _ (gw_mem wfX5_21)) (fun _ h9 => h9) rfl dX5_layOutRow_158 ?_
              refine lv_iload_n hx hb dX5_layOutRow_161 rfl (lv_at hl 6 rfl) ?_
              obtain ⟨r60, v61, hf⟩ := bd1_some hf
              have z62 : [3, 4].map (fun i => ((wX5 dA ad c_tree_parts c_bond_terms c_penceByUps w11 w59 c_called c_hold c_value w22 c_act c_rowOfKey))[i]?) = ((wX0 dA (fun i => ad (i + 3)) c_bond_terms)).map some := rfl
              refine gpi [3, 4] [0, 1, 2, 5, 6, 7, 8, 9, 10, 11, 12, 13] [0, 1, 2, 12, 13, 3, 4, 5, 6, 7, 8, 9, 10, 11] (wf := (wX5 dA ad c_tree_parts c_bond_terms c_penceByUps w11 w59 c_called c_hold c_value w22 c_act c_rowOfKey)) (va_runV (As := [.int p2]) (rest := []) ⟨hx, hb, hml, hown, hts⟩ (tX0_callOn l dC dI dA (fun i => ad (i + 3)) H.size v61) (ccX5_X0_callOn hts ⟨Nat.le_of_ble_eq_true rfl, Nat.le_of_ble_eq_true rfl⟩) (gPreV (ci := 1) (q0 := 0) (gsub z62 hP) hK (gsubD z62 (by decide) hD) rfl rfl) rfl rfl hl.1 rfl (lv_room (Nat.le_of_ble_eq_true rfl)) dX5_layOutRow_162 ⟨Nat.le_of_ble_eq_true rfl, Nat.le_of_ble_eq_true rfl⟩) hP hD hS hA z62 rfl (by decide) (by decide) (by decide) rfl (fun H locs hP hD hS => ?_)
              refine lv_if_lt (tgt := 195) hx hb dX5_layOutRow_165 (by decide) (fun k63 => ?_) (fun k63 => ?_)
              · replace hf := ifp k63 hf
                refine lv_iconst (v := 0) hx hb dX5_layOutRow_195 (by decide) ?_
                refine lv_istore (lv' := [(8, .int 0), (7, .int 0), (6, .int 0), (4, .long w14), (3, .int r1), (0, .ref (ad 0)), (1, .int p1), (2, .int p2)]) hx hb dX5_layOutRow_196 hl (by decide) rfl (fun ls hl => ?_)
                refine lv_aload_n hx hb dX5_layOutRow_198 rfl (lv_at hl 5 rfl) ?_
                refine va_get (D := (dC, dI)) (ci := 5) (v := .ref (ad 8)) (C := RX5) (T := TX5) (N := 11) hx hb hts (fun w h => gw_mem (inX5 w h)) hown hK.1 hP 0 rfl rfl 5 (by decide) (hts _ (gw_mem wfX5_35)) (fun _ h9 => h9) rfl dX5_layOutRow_199 ?_
                refine lv_iload_n hx hb dX5_layOutRow_202 rfl (lv_at hl 6 rfl) ?_
                refine lv_iload hx hb dX5_layOutRow_203 (lv_at hl 0 rfl) ?_
                refine lv_if_eq (tgt := 229) hx hb dX5_layOutRow_205 (by decide) (fun k64 => ?_) (fun k64 => absurd k64 (by decide))
                refine lv_ldc2 (v := (-2)) hx hb hown (hts _ (gw_mem wkX5_75)) dX5_layOutRow_229 ?_
                obtain ⟨h65, hf⟩ := og_some hf
                obtain ⟨w66, ew66⟩ : ∃ y : Nat → Int64, y = vp_updL c_called (Int32.toNatClampNeg p1) (-2) := ⟨_, rfl⟩
                replace hf := nm_at hf ew66
                refine va_last hx hb hK.1 hP hD hS 8 1 rfl rfl (okI_in h65) dX5_layOutRow_232 (fun H locs hP hD hS => ?_)
                have hP : va_P (dC, dI) vwCl (wX5 dA ad c_tree_parts c_bond_terms c_penceByUps w11 w59 w66 c_hold c_value w22 c_act c_rowOfKey) H := by rw [ew66]; exact hP
                have hD : va_D A (wX5 dA ad c_tree_parts c_bond_terms c_penceByUps w11 w59 w66 c_hold c_value w22 c_act c_rowOfKey) := by rw [ew66]; exact hD
                cases hf
                exact W.vret hx hb hr (fun t ht _ => gqv hP hD hS ht) hS.2.2 dX5_layOutRow_233
              · replace hf := ifn k63 hf
                refine lv_aload_n hx hb dX5_layOutRow_168 rfl (lv_at hl 4 rfl) ?_
                refine va_get (D := (dC, dI)) (ci := 5) (v := .ref (ad 3)) (C := RX5) (T := TX5) (N := 11) hx hb hts (fun w h => gw_mem (inX5 w h)) hown hK.1 hP 0 rfl rfl 1 (by decide) (hts _ (gw_mem wfX5_21)) (fun _ h9 => h9) rfl dX5_layOutRow_169 ?_
                refine lv_aload_n hx hb dX5_layOutRow_172 rfl (lv_at hl 4 rfl) ?_
                refine va_get (D := (dC, dI)) (ci := 5) (v := .ref (ad 11)) (C := RX5) (T := TX5) (N := 11) hx hb hts (fun w h => gw_mem (inX5 w h)) hown hK.1 hP 0 rfl rfl 8 (by decide) (hts _ (gw_mem wfX5_44)) (fun _ h9 => h9) rfl dX5_layOutRow_173 ?_
                refine lv_iload_n hx hb dX5_layOutRow_176 rfl (lv_at hl 5 rfl) ?_
                obtain ⟨h67, hf⟩ := og_some hf
                refine va_iald hx hb hK.1 hP 11 0 rfl rfl (okI_in h67) dX5_layOutRow_177 ?_
                obtain ⟨r68, v69, hf⟩ := bd1_some hf
                have z70 : [3, 4].map (fun i => ((wX5 dA ad c_tree_parts c_bond_terms c_penceByUps w11 w59 c_called c_hold c_value w22 c_act c_rowOfKey))[i]?) = ((wX0 dA (fun i => ad (i + 3)) c_bond_terms)).map some := rfl
                refine gpi [3, 4] [0, 1, 2, 5, 6, 7, 8, 9, 10, 11, 12, 13] [0, 1, 2, 12, 13, 3, 4, 5, 6, 7, 8, 9, 10, 11] (wf := (wX5 dA ad c_tree_parts c_bond_terms c_penceByUps w11 w59 c_called c_hold c_value w22 c_act c_rowOfKey)) (va_runV (As := [.int (w22 (Int32.toNatClampNeg p1))]) (rest := []) ⟨hx, hb, hml, hown, hts⟩ (tX0_highDays l dC dI dA (fun i => ad (i + 3)) H.size v69) (ccX5_X0_highDays hts ⟨Nat.le_of_ble_eq_true rfl, Nat.le_of_ble_eq_true rfl⟩) (gPreV (ci := 1) (q0 := 0) (gsub z70 hP) hK (gsubD z70 (by decide) hD) rfl rfl) rfl rfl hl.1 rfl (lv_room (Nat.le_of_ble_eq_true rfl)) dX5_layOutRow_178 ⟨Nat.le_of_ble_eq_true rfl, Nat.le_of_ble_eq_true rfl⟩) hP hD hS hA z70 rfl (by decide) (by decide) (by decide) rfl (fun H locs hP hD hS => ?_)
                refine lv_aload_n hx hb dX5_layOutRow_181 rfl (lv_at hl 4 rfl) ?_
                refine va_get (D := (dC, dI)) (ci := 5) (v := .ref (ad 3)) (C := RX5) (T := TX5) (N := 11) hx hb hts (fun w h => gw_mem (inX5 w h)) hown hK.1 hP 0 rfl rfl 1 (by decide) (hts _ (gw_mem wfX5_21)) (fun _ h9 => h9) rfl dX5_layOutRow_182 ?_
                obtain ⟨r71, v72, hf⟩ := bd1_some hf
                have z73 : [3, 4].map (fun i => ((wX5 dA ad c_tree_parts c_bond_terms c_penceByUps w11 w59 c_called c_hold c_value w22 c_act c_rowOfKey))[i]?) = ((wX0 dA (fun i => ad (i + 3)) c_bond_terms)).map some := rfl
                refine gpi [3, 4] [0, 1, 2, 5, 6, 7, 8, 9, 10, 11, 12, 13] [0, 1, 2, 12, 13, 3, 4, 5, 6, 7, 8, 9, 10, 11] (wf := (wX5 dA ad c_tree_parts c_bond_terms c_penceByUps w11 w59 c_called c_hold c_value w22 c_act c_rowOfKey)) (va_runV (As := []) (rest := [.int r68]) ⟨hx, hb, hml, hown, hts⟩ (tX0_softLeast l dC dI dA (fun i => ad (i + 3)) H.size v72) (ccX5_X0_softLeast hts ⟨Nat.le_of_ble_eq_true rfl, Nat.le_of_ble_eq_true rfl⟩) (gPreV (ci := 1) (q0 := 0) (gsub z73 hP) hK (gsubD z73 (by decide) hD) rfl rfl) rfl rfl hl.1 rfl (lv_room (Nat.le_of_ble_eq_true rfl)) dX5_layOutRow_185 ⟨Nat.le_of_ble_eq_true rfl, Nat.le_of_ble_eq_true rfl⟩) hP hD hS hA z73 rfl (by decide) (by decide) (by decide) rfl (fun H locs hP hD hS => ?_)
                refine lv_icmp_lt (tgt := 195) hx hb dX5_layOutRow_188 (by decide) (fun k74 => ?_) (fun k74 => ?_)
                · replace hf := ifp k74 hf
                  refine lv_iconst (v := 0) hx hb dX5_layOutRow_195 (by decide) ?_
                  refine lv_istore (lv' := [(8, .int 0), (7, .int 0), (6, .int 0), (4, .long w14), (3, .int r1), (0, .ref (ad 0)), (1, .int p1), (2, .int p2)]) hx hb dX5_layOutRow_196 hl (by decide) rfl (fun ls hl => ?_)
                  refine lv_aload_n hx hb dX5_layOutRow_198 rfl (lv_at hl 5 rfl) ?_
                  refine va_get (D := (dC, dI)) (ci := 5) (v := .ref (ad 8)) (C := RX5) (T := TX5) (N := 11) hx hb hts (fun w h => gw_mem (inX5 w h)) hown hK.1 hP 0 rfl rfl 5 (by decide) (hts _ (gw_mem wfX5_35)) (fun _ h9 => h9) rfl dX5_layOutRow_199 ?_
                  refine lv_iload_n hx hb dX5_layOutRow_202 rfl (lv_at hl 6 rfl) ?_
                  refine lv_iload hx hb dX5_layOutRow_203 (lv_at hl 0 rfl) ?_
                  refine lv_if_eq (tgt := 229) hx hb dX5_layOutRow_205 (by decide) (fun k75 => ?_) (fun k75 => absurd k75 (by decide))
                  refine lv_ldc2 (v := (-2)) hx hb hown (hts _ (gw_mem wkX5_75)) dX5_layOutRow_229 ?_
                  obtain ⟨h76, hf⟩ := og_some hf
                  obtain ⟨w77, ew77⟩ : ∃ y : Nat → Int64, y = vp_updL c_called (Int32.toNatClampNeg p1) (-2) := ⟨_, rfl⟩
                  replace hf := nm_at hf ew77
                  refine va_last hx hb hK.1 hP hD hS 8 1 rfl rfl (okI_in h76) dX5_layOutRow_232 (fun H locs hP hD hS => ?_)
                  have hP : va_P (dC, dI) vwCl (wX5 dA ad c_tree_parts c_bond_terms c_penceByUps w11 w59 w77 c_hold c_value w22 c_act c_rowOfKey) H := by rw [ew77]; exact hP
                  have hD : va_D A (wX5 dA ad c_tree_parts c_bond_terms c_penceByUps w11 w59 w77 c_hold c_value w22 c_act c_rowOfKey) := by rw [ew77]; exact hD
                  cases hf
                  exact W.vret hx hb hr (fun t ht _ => gqv hP hD hS ht) hS.2.2 dX5_layOutRow_233
                · replace hf := ifn k74 hf
                  refine lv_iconst (v := 1) hx hb dX5_layOutRow_191 (by decide) ?_
                  refine lv_goto (tgt := 196) hx hb dX5_layOutRow_192 (by decide) ?_
                  refine lv_istore (lv' := [(8, .int 1), (7, .int 0), (6, .int 0), (4, .long w14), (3, .int r1), (0, .ref (ad 0)), (1, .int p1), (2, .int p2)]) hx hb dX5_layOutRow_196 hl (by decide) rfl (fun ls hl => ?_)
                  refine lv_aload_n hx hb dX5_layOutRow_198 rfl (lv_at hl 5 rfl) ?_
                  refine va_get (D := (dC, dI)) (ci := 5) (v := .ref (ad 8)) (C := RX5) (T := TX5) (N := 11) hx hb hts (fun w h => gw_mem (inX5 w h)) hown hK.1 hP 0 rfl rfl 5 (by decide) (hts _ (gw_mem wfX5_35)) (fun _ h9 => h9) rfl dX5_layOutRow_199 ?_
                  refine lv_iload_n hx hb dX5_layOutRow_202 rfl (lv_at hl 6 rfl) ?_
                  refine lv_iload hx hb dX5_layOutRow_203 (lv_at hl 0 rfl) ?_
                  refine lv_if_eq (tgt := 229) hx hb dX5_layOutRow_205 (by decide) (fun k78 => absurd k78 (by decide)) (fun k78 => ?_)
                  refine lv_aload_n hx hb dX5_layOutRow_208 rfl (lv_at hl 5 rfl) ?_
                  refine va_get (D := (dC, dI)) (ci := 5) (v := .ref (ad 3)) (C := RX5) (T := TX5) (N := 11) hx hb hts (fun w h => gw_mem (inX5 w h)) hown hK.1 hP 0 rfl rfl 1 (by decide) (hts _ (gw_mem wfX5_21)) (fun _ h9 => h9) rfl dX5_layOutRow_209 ?_
                  refine lv_iload_n hx hb dX5_layOutRow_212 rfl (lv_at hl 7 rfl) ?_
                  obtain ⟨r79, v80, hf⟩ := bd1_some hf
                  have z81 : [3, 4].map (fun i => ((wX5 dA ad c_tree_parts c_bond_terms c_penceByUps w11 w59 c_called c_hold c_value w22 c_act c_rowOfKey))[i]?) = ((wX0 dA (fun i => ad (i + 3)) c_bond_terms)).map some := rfl
                  refine gpi [3, 4] [0, 1, 2, 5, 6, 7, 8, 9, 10, 11, 12, 13] [0, 1, 2, 12, 13, 3, 4, 5, 6, 7, 8, 9, 10, 11] (wf := (wX5 dA ad c_tree_parts c_bond_terms c_penceByUps w11 w59 c_called c_hold c_value w22 c_act c_rowOfKey)) (va_runV (As := [.int p2]) (rest := [.int p1, .ref (ad 8)]) ⟨hx, hb, hml, hown, hts⟩ (tX0_callOn l dC dI dA (fun i => ad (i + 3)) H.size v80) (ccX5_X0_callOn hts ⟨Nat.le_of_ble_eq_true rfl, Nat.le_of_ble_eq_true rfl⟩) (gPreV (ci := 1) (q0 := 0) (gsub z81 hP) hK (gsubD z81 (by decide) hD) rfl rfl) rfl rfl hl.1 rfl (lv_room (Nat.le_of_ble_eq_true rfl)) dX5_layOutRow_213 ⟨Nat.le_of_ble_eq_true rfl, Nat.le_of_ble_eq_true rfl⟩) hP hD hS hA z81 rfl (by decide) (by decide) (by decide) rfl (fun H locs hP hD hS => ?_)
                  refine lv_i2l hx hb dX5_layOutRow_216 rfl ?_
                  refine lv_aload_n hx hb dX5_layOutRow_217 rfl (lv_at hl 5 rfl) ?_
                  refine va_get (D := (dC, dI)) (ci := 5) (v := .ref (ad 7)) (C := RX5) (T := TX5) (N := 11) hx hb hts (fun w h => gw_mem (inX5 w h)) hown hK.1 hP 0 rfl rfl 4 (by decide) (hts _ (gw_mem wfX5_32)) (fun _ h9 => h9) rfl dX5_layOutRow_218 ?_
                  refine lv_iload_n hx hb dX5_layOutRow_221 rfl (lv_at hl 6 rfl) ?_
                  obtain ⟨h82, hf⟩ := og_some hf
                  refine va_lald hx hb hK.1 hP 7 1 rfl rfl (okI_in h82) dX5_layOutRow_222 ?_
                  refine va_mmax_long hx hb (hml.trans hl.1.symm) hown (hts _ (gw_mem wmX5_134)) (hts _ (gw_mem wtJ9_max_f86c9)) (hts _ (gw_mem wnJ9)) (hts _ (gw_mem wcJ9_max_f86c9)) (Nat.le_of_ble_eq_true rfl) (Nat.le_of_ble_eq_true rfl) (Nat.le_of_ble_eq_true rfl) (Nat.le_of_ble_eq_true rfl) dX5_layOutRow_223 ?_
                  refine lv_goto (tgt := 232) hx hb dX5_layOutRow_226 (by decide) ?_
                  obtain ⟨h83, hf⟩ := og_some hf
                  obtain ⟨w84, ew84⟩ : ∃ y : Nat → Int64, y = vp_updL c_called (Int32.toNatClampNeg p1) (if (w59 (Int32.toNatClampNeg p1)) < (Int32.toInt64 r79) then (Int32.toInt64 r79) else (w59 (Int32.toNatClampNeg p1))) := ⟨_, rfl⟩
                  replace hf := nm_at hf ew84
                  refine va_last hx hb hK.1 hP hD hS 8 1 rfl rfl (okI_in h83) dX5_layOutRow_232 (fun H locs hP hD hS => ?_)
                  have hP : va_P (dC, dI) vwCl (wX5 dA ad c_tree_parts c_bond_terms c_penceByUps w11 w59 w84 c_hold c_value w22 c_act c_rowOfKey) H := by rw [ew84]; exact hP
                  have hD : va_D A (wX5 dA ad c_tree_parts c_bond_terms c_penceByUps w11 w59 w84 c_hold c_value w22 c_act c_rowOfKey) := by rw [ew84]; exact hD
                  cases hf
                  exact W.vret hx hb hr (fun t ht _ => gqv hP hD hS ht) hS.2.2 dX5_layOutRow_233
          · replace hf := ifn (fun h => k20 (lc_lt.mpr h)) hf
            refine lv_iconst (v := 1) hx hb dX5_layOutRow_96 (by decide) ?_
            refine lv_goto (tgt := 101) hx hb dX5_layOutRow_97 (by decide) ?_
            refine lv_istore (lv' := [(7, .int 1), (6, .int 0), (4, .long w14), (3, .int r1), (0, .ref (ad 0)), (1, .int p1), (2, .int p2)]) hx hb dX5_layOutRow_101 hl (by decide) rfl (fun ls hl => ?_)
            refine lv_aload_n hx hb dX5_layOutRow_103 rfl (lv_at hl 4 rfl) ?_
            refine va_get (D := (dC, dI)) (ci := 5) (v := .ref (ad 11)) (C := RX5) (T := TX5) (N := 11) hx hb hts (fun w h => gw_mem (inX5 w h)) hown hK.1 hP 0 rfl rfl 8 (by decide) (hts _ (gw_mem wfX5_44)) (fun _ h9 => h9) rfl dX5_layOutRow_104 ?_
            refine lv_iload_n hx hb dX5_layOutRow_107 rfl (lv_at hl 5 rfl) ?_
            refine lv_iload hx hb dX5_layOutRow_108 (lv_at hl 1 rfl) ?_
            refine lv_iconst (v := 2) hx hb dX5_layOutRow_110 (by decide) ?_
            refine lv_imul hx hb dX5_layOutRow_111 ?_
            refine lv_iload hx hb dX5_layOutRow_112 (lv_at hl 0 rfl) ?_
            refine lv_iadd hx hb dX5_layOutRow_114 ?_
            refine lv_bipush (v := 7) hx hb dX5_layOutRow_115 (by decide) ?_
            refine lv_iand hx hb dX5_layOutRow_117 ?_
            obtain ⟨h85, hf⟩ := og_some hf
            obtain ⟨w86, ew86⟩ : ∃ y : Nat → Int32, y = upd c_marks (Int32.toNatClampNeg p1) (((0 * 2) + 1) &&& 7) := ⟨_, rfl⟩
            replace hf := nm_at hf ew86
            refine va_iast hx hb hK.1 hP hD hS 11 0 rfl rfl (okI_in h85) dX5_layOutRow_118 (fun H locs hP hD hS => ?_)
            have hP : va_P (dC, dI) vwCl (wX5 dA ad c_tree_parts c_bond_terms c_penceByUps w11 c_turned c_called c_hold c_value w86 c_act c_rowOfKey) H := by rw [ew86]; exact hP
            have hD : va_D A (wX5 dA ad c_tree_parts c_bond_terms c_penceByUps w11 c_turned c_called c_hold c_value w86 c_act c_rowOfKey) := by rw [ew86]; exact hD
            refine lv_aload_n hx hb dX5_layOutRow_119 rfl (lv_at hl 4 rfl) ?_
            refine va_get (D := (dC, dI)) (ci := 5) (v := .ref (ad 7)) (C := RX5) (T := TX5) (N := 11) hx hb hts (fun w h => gw_mem (inX5 w h)) hown hK.1 hP 0 rfl rfl 4 (by decide) (hts _ (gw_mem wfX5_32)) (fun _ h9 => h9) rfl dX5_layOutRow_120 ?_
            refine lv_iload_n hx hb dX5_layOutRow_123 rfl (lv_at hl 5 rfl) ?_
            refine lv_aload_n hx hb dX5_layOutRow_124 rfl (lv_at hl 4 rfl) ?_
            refine va_get (D := (dC, dI)) (ci := 5) (v := .ref (ad 3)) (C := RX5) (T := TX5) (N := 11) hx hb hts (fun w h => gw_mem (inX5 w h)) hown hK.1 hP 0 rfl rfl 1 (by decide) (hts _ (gw_mem wfX5_21)) (fun _ h9 => h9) rfl dX5_layOutRow_125 ?_
            refine lv_iload_n hx hb dX5_layOutRow_128 rfl (lv_at hl 6 rfl) ?_
            obtain ⟨r87, v88, hf⟩ := bd1_some hf
            have z89 : [3, 4].map (fun i => ((wX5 dA ad c_tree_parts c_bond_terms c_penceByUps w11 c_turned c_called c_hold c_value w86 c_act c_rowOfKey))[i]?) = ((wX0 dA (fun i => ad (i + 3)) c_bond_terms)).map some := rfl
            refine gpi [3, 4] [0, 1, 2, 5, 6, 7, 8, 9, 10, 11, 12, 13] [0, 1, 2, 12, 13, 3, 4, 5, 6, 7, 8, 9, 10, 11] (wf := (wX5 dA ad c_tree_parts c_bond_terms c_penceByUps w11 c_turned c_called c_hold c_value w86 c_act c_rowOfKey)) (va_runV (As := [.int p2]) (rest := [.int p1, .ref (ad 7)]) ⟨hx, hb, hml, hown, hts⟩ (tX0_mayTurnOn l dC dI dA (fun i => ad (i + 3)) H.size v88) (ccX5_X0_mayTurnOn hts ⟨Nat.le_of_ble_eq_true rfl, Nat.le_of_ble_eq_true rfl⟩) (gPreV (ci := 1) (q0 := 0) (gsub z89 hP) hK (gsubD z89 (by decide) hD) rfl rfl) rfl rfl hl.1 rfl (lv_room (Nat.le_of_ble_eq_true rfl)) dX5_layOutRow_129 ⟨Nat.le_of_ble_eq_true rfl, Nat.le_of_ble_eq_true rfl⟩) hP hD hS hA z89 rfl (by decide) (by decide) (by decide) rfl (fun H locs hP hD hS => ?_)
            refine lv_if_eq (tgt := 153) hx hb dX5_layOutRow_132 (by decide) (fun k90 => ?_) (fun k90 => ?_)
            · replace hf := ifp k90 hf
              refine lv_ldc2 (v := (-2)) hx hb hown (hts _ (gw_mem wkX5_75)) dX5_layOutRow_153 ?_
              obtain ⟨h91, hf⟩ := og_some hf
              obtain ⟨w92, ew92⟩ : ∃ y : Nat → Int64, y = vp_updL c_turned (Int32.toNatClampNeg p1) (-2) := ⟨_, rfl⟩
              replace hf := nm_at hf ew92
              refine va_last hx hb hK.1 hP hD hS 7 1 rfl rfl (okI_in h91) dX5_layOutRow_156 (fun H locs hP hD hS => ?_)
              have hP : va_P (dC, dI) vwCl (wX5 dA ad c_tree_parts c_bond_terms c_penceByUps w11 w92 c_called c_hold c_value w86 c_act c_rowOfKey) H := by rw [ew92]; exact hP
              have hD : va_D A (wX5 dA ad c_tree_parts c_bond_terms c_penceByUps w11 w92 c_called c_hold c_value w86 c_act c_rowOfKey) := by rw [ew92]; exact hD
              refine lv_aload_n hx hb dX5_layOutRow_157 rfl (lv_at hl 4 rfl) ?_
              refine va_get (D := (dC, dI)) (ci := 5) (v := .ref (ad 3)) (C := RX5) (T := TX5) (N := 11) hx hb hts (fun w h => gw_mem (inX5 w h)) hown hK.1 hP 0 rfl rfl 1 (by decide) (hts _ (gw_mem wfX5_21)) (fun _ h9 => h9) rfl dX5_layOutRow_158 ?_
              refine lv_iload_n hx hb dX5_layOutRow_161 rfl (lv_at hl 6 rfl) ?_
              obtain ⟨r93, v94, hf⟩ := bd1_some hf
              have z95 : [3, 4].map (fun i => ((wX5 dA ad c_tree_parts c_bond_terms c_penceByUps w11 w92 c_called c_hold c_value w86 c_act c_rowOfKey))[i]?) = ((wX0 dA (fun i => ad (i + 3)) c_bond_terms)).map some := rfl
              refine gpi [3, 4] [0, 1, 2, 5, 6, 7, 8, 9, 10, 11, 12, 13] [0, 1, 2, 12, 13, 3, 4, 5, 6, 7, 8, 9, 10, 11] (wf := (wX5 dA ad c_tree_parts c_bond_terms c_penceByUps w11 w92 c_called c_hold c_value w86 c_act c_rowOfKey)) (va_runV (As := [.int p2]) (rest := []) ⟨hx, hb, hml, hown, hts⟩ (tX0_callOn l dC dI dA (fun i => ad (i + 3)) H.size v94) (ccX5_X0_callOn hts ⟨Nat.le_of_ble_eq_true rfl, Nat.le_of_ble_eq_true rfl⟩) (gPreV (ci := 1) (q0 := 0) (gsub z95 hP) hK (gsubD z95 (by decide) hD) rfl rfl) rfl rfl hl.1 rfl (lv_room (Nat.le_of_ble_eq_true rfl)) dX5_layOutRow_162 ⟨Nat.le_of_ble_eq_true rfl, Nat.le_of_ble_eq_true rfl⟩) hP hD hS hA z95 rfl (by decide) (by decide) (by decide) rfl (fun H locs hP hD hS => ?_)
              refine lv_if_lt (tgt := 195) hx hb dX5_layOutRow_165 (by decide) (fun k96 => ?_) (fun k96 => ?_)
              · replace hf := ifp k96 hf
                refine lv_iconst (v := 0) hx hb dX5_layOutRow_195 (by decide) ?_
                refine lv_istore (lv' := [(8, .int 0), (7, .int 1), (6, .int 0), (4, .long w14), (3, .int r1), (0, .ref (ad 0)), (1, .int p1), (2, .int p2)]) hx hb dX5_layOutRow_196 hl (by decide) rfl (fun ls hl => ?_)
                refine lv_aload_n hx hb dX5_layOutRow_198 rfl (lv_at hl 5 rfl) ?_
                refine va_get (D := (dC, dI)) (ci := 5) (v := .ref (ad 8)) (C := RX5) (T := TX5) (N := 11) hx hb hts (fun w h => gw_mem (inX5 w h)) hown hK.1 hP 0 rfl rfl 5 (by decide) (hts _ (gw_mem wfX5_35)) (fun _ h9 => h9) rfl dX5_layOutRow_199 ?_
                refine lv_iload_n hx hb dX5_layOutRow_202 rfl (lv_at hl 6 rfl) ?_
                refine lv_iload hx hb dX5_layOutRow_203 (lv_at hl 0 rfl) ?_
                refine lv_if_eq (tgt := 229) hx hb dX5_layOutRow_205 (by decide) (fun k97 => ?_) (fun k97 => absurd k97 (by decide))
                refine lv_ldc2 (v := (-2)) hx hb hown (hts _ (gw_mem wkX5_75)) dX5_layOutRow_229 ?_
                obtain ⟨h98, hf⟩ := og_some hf
                obtain ⟨w99, ew99⟩ : ∃ y : Nat → Int64, y = vp_updL c_called (Int32.toNatClampNeg p1) (-2) := ⟨_, rfl⟩
                replace hf := nm_at hf ew99
                refine va_last hx hb hK.1 hP hD hS 8 1 rfl rfl (okI_in h98) dX5_layOutRow_232 (fun H locs hP hD hS => ?_)
                have hP : va_P (dC, dI) vwCl (wX5 dA ad c_tree_parts c_bond_terms c_penceByUps w11 w92 w99 c_hold c_value w86 c_act c_rowOfKey) H := by rw [ew99]; exact hP
                have hD : va_D A (wX5 dA ad c_tree_parts c_bond_terms c_penceByUps w11 w92 w99 c_hold c_value w86 c_act c_rowOfKey) := by rw [ew99]; exact hD
                cases hf
                exact W.vret hx hb hr (fun t ht _ => gqv hP hD hS ht) hS.2.2 dX5_layOutRow_233
              · replace hf := ifn k96 hf
                refine lv_aload_n hx hb dX5_layOutRow_168 rfl (lv_at hl 4 rfl) ?_
                refine va_get (D := (dC, dI)) (ci := 5) (v := .ref (ad 3)) (C := RX5) (T := TX5) (N := 11) hx hb hts (fun w h => gw_mem (inX5 w h)) hown hK.1 hP 0 rfl rfl 1 (by decide) (hts _ (gw_mem wfX5_21)) (fun _ h9 => h9) rfl dX5_layOutRow_169 ?_
                refine lv_aload_n hx hb dX5_layOutRow_172 rfl (lv_at hl 4 rfl) ?_
                refine va_get (D := (dC, dI)) (ci := 5) (v := .ref (ad 11)) (C := RX5) (T := TX5) (N := 11) hx hb hts (fun w h => gw_mem (inX5 w h)) hown hK.1 hP 0 rfl rfl 8 (by decide) (hts _ (gw_mem wfX5_44)) (fun _ h9 => h9) rfl dX5_layOutRow_173 ?_
                refine lv_iload_n hx hb dX5_layOutRow_176 rfl (lv_at hl 5 rfl) ?_
                obtain ⟨h100, hf⟩ := og_some hf
                refine va_iald hx hb hK.1 hP 11 0 rfl rfl (okI_in h100) dX5_layOutRow_177 ?_
                obtain ⟨r101, v102, hf⟩ := bd1_some hf
                have z103 : [3, 4].map (fun i => ((wX5 dA ad c_tree_parts c_bond_terms c_penceByUps w11 w92 c_called c_hold c_value w86 c_act c_rowOfKey))[i]?) = ((wX0 dA (fun i => ad (i + 3)) c_bond_terms)).map some := rfl
                refine gpi [3, 4] [0, 1, 2, 5, 6, 7, 8, 9, 10, 11, 12, 13] [0, 1, 2, 12, 13, 3, 4, 5, 6, 7, 8, 9, 10, 11] (wf := (wX5 dA ad c_tree_parts c_bond_terms c_penceByUps w11 w92 c_called c_hold c_value w86 c_act c_rowOfKey)) (va_runV (As := [.int (w86 (Int32.toNatClampNeg p1))]) (rest := []) ⟨hx, hb, hml, hown, hts⟩ (tX0_highDays l dC dI dA (fun i => ad (i + 3)) H.size v102) (ccX5_X0_highDays hts ⟨Nat.le_of_ble_eq_true rfl, Nat.le_of_ble_eq_true rfl⟩) (gPreV (ci := 1) (q0 := 0) (gsub z103 hP) hK (gsubD z103 (by decide) hD) rfl rfl) rfl rfl hl.1 rfl (lv_room (Nat.le_of_ble_eq_true rfl)) dX5_layOutRow_178 ⟨Nat.le_of_ble_eq_true rfl, Nat.le_of_ble_eq_true rfl⟩) hP hD hS hA z103 rfl (by decide) (by decide) (by decide) rfl (fun H locs hP hD hS => ?_)
                refine lv_aload_n hx hb dX5_layOutRow_181 rfl (lv_at hl 4 rfl) ?_
                refine va_get (D := (dC, dI)) (ci := 5) (v := .ref (ad 3)) (C := RX5) (T := TX5) (N := 11) hx hb hts (fun w h => gw_mem (inX5 w h)) hown hK.1 hP 0 rfl rfl 1 (by decide) (hts _ (gw_mem wfX5_21)) (fun _ h9 => h9) rfl dX5_layOutRow_182 ?_
                obtain ⟨r104, v105, hf⟩ := bd1_some hf
                have z106 : [3, 4].map (fun i => ((wX5 dA ad c_tree_parts c_bond_terms c_penceByUps w11 w92 c_called c_hold c_value w86 c_act c_rowOfKey))[i]?) = ((wX0 dA (fun i => ad (i + 3)) c_bond_terms)).map some := rfl
                refine gpi [3, 4] [0, 1, 2, 5, 6, 7, 8, 9, 10, 11, 12, 13] [0, 1, 2, 12, 13, 3, 4, 5, 6, 7, 8, 9, 10, 11] (wf := (wX5 dA ad c_tree_parts c_bond_terms c_penceByUps w11 w92 c_called c_hold c_value w86 c_act c_rowOfKey)) (va_runV (As := []) (rest := [.int r101]) ⟨hx, hb, hml, hown, hts⟩ (tX0_softLeast l dC dI dA (fun i => ad (i + 3)) H.size v105) (ccX5_X0_softLeast hts ⟨Nat.le_of_ble_eq_true rfl, Nat.le_of_ble_eq_true rfl⟩) (gPreV (ci := 1) (q0 := 0) (gsub z106 hP) hK (gsubD z106 (by decide) hD) rfl rfl) rfl rfl hl.1 rfl (lv_room (Nat.le_of_ble_eq_true rfl)) dX5_layOutRow_185 ⟨Nat.le_of_ble_eq_true rfl, Nat.le_of_ble_eq_true rfl⟩) hP hD hS hA z106 rfl (by decide) (by decide) (by decide) rfl (fun H locs hP hD hS => ?_)
                refine lv_icmp_lt (tgt := 195) hx hb dX5_layOutRow_188 (by decide) (fun k107 => ?_) (fun k107 => ?_)
                · replace hf := ifp k107 hf
                  refine lv_iconst (v := 0) hx hb dX5_layOutRow_195 (by decide) ?_
                  refine lv_istore (lv' := [(8, .int 0), (7, .int 1), (6, .int 0), (4, .long w14), (3, .int r1), (0, .ref (ad 0)), (1, .int p1), (2, .int p2)]) hx hb dX5_layOutRow_196 hl (by decide) rfl (fun ls hl => ?_)
                  refine lv_aload_n hx hb dX5_layOutRow_198 rfl (lv_at hl 5 rfl) ?_
                  refine va_get (D := (dC, dI)) (ci := 5) (v := .ref (ad 8)) (C := RX5) (T := TX5) (N := 11) hx hb hts (fun w h => gw_mem (inX5 w h)) hown hK.1 hP 0 rfl rfl 5 (by decide) (hts _ (gw_mem wfX5_35)) (fun _ h9 => h9) rfl dX5_layOutRow_199 ?_
                  refine lv_iload_n hx hb dX5_layOutRow_202 rfl (lv_at hl 6 rfl) ?_
                  refine lv_iload hx hb dX5_layOutRow_203 (lv_at hl 0 rfl) ?_
                  refine lv_if_eq (tgt := 229) hx hb dX5_layOutRow_205 (by decide) (fun k108 => ?_) (fun k108 => absurd k108 (by decide))
                  refine lv_ldc2 (v := (-2)) hx hb hown (hts _ (gw_mem wkX5_75)) dX5_layOutRow_229 ?_
                  obtain ⟨h109, hf⟩ := og_some hf
                  obtain ⟨w110, ew110⟩ : ∃ y : Nat → Int64, y = vp_updL c_called (Int32.toNatClampNeg p1) (-2) := ⟨_, rfl⟩
                  replace hf := nm_at hf ew110
                  refine va_last hx hb hK.1 hP hD hS 8 1 rfl rfl (okI_in h109) dX5_layOutRow_232 (fun H locs hP hD hS => ?_)
                  have hP : va_P (dC, dI) vwCl (wX5 dA ad c_tree_parts c_bond_terms c_penceByUps w11 w92 w110 c_hold c_value w86 c_act c_rowOfKey) H := by rw [ew110]; exact hP
                  have hD : va_D A (wX5 dA ad c_tree_parts c_bond_terms c_penceByUps w11 w92 w110 c_hold c_value w86 c_act c_rowOfKey) := by rw [ew110]; exact hD
                  cases hf
                  exact W.vret hx hb hr (fun t ht _ => gqv hP hD hS ht) hS.2.2 dX5_layOutRow_233
                · replace hf := ifn k107 hf
                  refine lv_iconst (v := 1) hx hb dX5_layOutRow_191 (by decide) ?_
                  refine lv_goto (tgt := 196) hx hb dX5_layOutRow_192 (by decide) ?_
                  refine lv_istore (lv' := [(8, .int 1), (7, .int 1), (6, .int 0), (4, .long w14), (3, .int r1), (0, .ref (ad 0)), (1, .int p1), (2, .int p2)]) hx hb dX5_layOutRow_196 hl (by decide) rfl (fun ls hl => ?_)
                  refine lv_aload_n hx hb dX5_layOutRow_198 rfl (lv_at hl 5 rfl) ?_
                  refine va_get (D := (dC, dI)) (ci := 5) (v := .ref (ad 8)) (C := RX5) (T := TX5) (N := 11) hx hb hts (fun w h => gw_mem (inX5 w h)) hown hK.1 hP 0 rfl rfl 5 (by decide) (hts _ (gw_mem wfX5_35)) (fun _ h9 => h9) rfl dX5_layOutRow_199 ?_
                  refine lv_iload_n hx hb dX5_layOutRow_202 rfl (lv_at hl 6 rfl) ?_
                  refine lv_iload hx hb dX5_layOutRow_203 (lv_at hl 0 rfl) ?_
                  refine lv_if_eq (tgt := 229) hx hb dX5_layOutRow_205 (by decide) (fun k111 => absurd k111 (by decide)) (fun k111 => ?_)
                  refine lv_aload_n hx hb dX5_layOutRow_208 rfl (lv_at hl 5 rfl) ?_
                  refine va_get (D := (dC, dI)) (ci := 5) (v := .ref (ad 3)) (C := RX5) (T := TX5) (N := 11) hx hb hts (fun w h => gw_mem (inX5 w h)) hown hK.1 hP 0 rfl rfl 1 (by decide) (hts _ (gw_mem wfX5_21)) (fun _ h9 => h9) rfl dX5_layOutRow_209 ?_
                  refine lv_iload_n hx hb dX5_layOutRow_212 rfl (lv_at hl 7 rfl) ?_
                  obtain ⟨r112, v113, hf⟩ := bd1_some hf
                  have z114 : [3, 4].map (fun i => ((wX5 dA ad c_tree_parts c_bond_terms c_penceByUps w11 w92 c_called c_hold c_value w86 c_act c_rowOfKey))[i]?) = ((wX0 dA (fun i => ad (i + 3)) c_bond_terms)).map some := rfl
                  refine gpi [3, 4] [0, 1, 2, 5, 6, 7, 8, 9, 10, 11, 12, 13] [0, 1, 2, 12, 13, 3, 4, 5, 6, 7, 8, 9, 10, 11] (wf := (wX5 dA ad c_tree_parts c_bond_terms c_penceByUps w11 w92 c_called c_hold c_value w86 c_act c_rowOfKey)) (va_runV (As := [.int p2]) (rest := [.int p1, .ref (ad 8)]) ⟨hx, hb, hml, hown, hts⟩ (tX0_callOn l dC dI dA (fun i => ad (i + 3)) H.size v113) (ccX5_X0_callOn hts ⟨Nat.le_of_ble_eq_true rfl, Nat.le_of_ble_eq_true rfl⟩) (gPreV (ci := 1) (q0 := 0) (gsub z114 hP) hK (gsubD z114 (by decide) hD) rfl rfl) rfl rfl hl.1 rfl (lv_room (Nat.le_of_ble_eq_true rfl)) dX5_layOutRow_213 ⟨Nat.le_of_ble_eq_true rfl, Nat.le_of_ble_eq_true rfl⟩) hP hD hS hA z114 rfl (by decide) (by decide) (by decide) rfl (fun H locs hP hD hS => ?_)
                  refine lv_i2l hx hb dX5_layOutRow_216 rfl ?_
                  refine lv_aload_n hx hb dX5_layOutRow_217 rfl (lv_at hl 5 rfl) ?_
                  refine va_get (D := (dC, dI)) (ci := 5) (v := .ref (ad 7)) (C := RX5) (T := TX5) (N := 11) hx hb hts (fun w h => gw_mem (inX5 w h)) hown hK.1 hP 0 rfl rfl 4 (by decide) (hts _ (gw_mem wfX5_32)) (fun _ h9 => h9) rfl dX5_layOutRow_218 ?_
                  refine lv_iload_n hx hb dX5_layOutRow_221 rfl (lv_at hl 6 rfl) ?_
                  obtain ⟨h115, hf⟩ := og_some hf
                  refine va_lald hx hb hK.1 hP 7 1 rfl rfl (okI_in h115) dX5_layOutRow_222 ?_
                  refine va_mmax_long hx hb (hml.trans hl.1.symm) hown (hts _ (gw_mem wmX5_134)) (hts _ (gw_mem wtJ9_max_f86c9)) (hts _ (gw_mem wnJ9)) (hts _ (gw_mem wcJ9_max_f86c9)) (Nat.le_of_ble_eq_true rfl) (Nat.le_of_ble_eq_true rfl) (Nat.le_of_ble_eq_true rfl) (Nat.le_of_ble_eq_true rfl) dX5_layOutRow_223 ?_
                  refine lv_goto (tgt := 232) hx hb dX5_layOutRow_226 (by decide) ?_
                  obtain ⟨h116, hf⟩ := og_some hf
                  obtain ⟨w117, ew117⟩ : ∃ y : Nat → Int64, y = vp_updL c_called (Int32.toNatClampNeg p1) (if (w92 (Int32.toNatClampNeg p1)) < (Int32.toInt64 r112) then (Int32.toInt64 r112) else (w92 (Int32.toNatClampNeg p1))) := ⟨_, rfl⟩
                  replace hf := nm_at hf ew117
                  refine va_last hx hb hK.1 hP hD hS 8 1 rfl rfl (okI_in h116) dX5_layOutRow_232 (fun H locs hP hD hS => ?_)
                  have hP : va_P (dC, dI) vwCl (wX5 dA ad c_tree_parts c_bond_terms c_penceByUps w11 w92 w117 c_hold c_value w86 c_act c_rowOfKey) H := by rw [ew117]; exact hP
                  have hD : va_D A (wX5 dA ad c_tree_parts c_bond_terms c_penceByUps w11 w92 w117 c_hold c_value w86 c_act c_rowOfKey) := by rw [ew117]; exact hD
                  cases hf
                  exact W.vret hx hb hr (fun t ht _ => gqv hP hD hS ht) hS.2.2 dX5_layOutRow_233
            · replace hf := ifn k90 hf
              refine lv_aload_n hx hb dX5_layOutRow_135 rfl (lv_at hl 4 rfl) ?_
              refine va_get (D := (dC, dI)) (ci := 5) (v := .ref (ad 3)) (C := RX5) (T := TX5) (N := 11) hx hb hts (fun w h => gw_mem (inX5 w h)) hown hK.1 hP 0 rfl rfl 1 (by decide) (hts _ (gw_mem wfX5_21)) (fun _ h9 => h9) rfl dX5_layOutRow_136 ?_
              refine lv_aload_n hx hb dX5_layOutRow_139 rfl (lv_at hl 4 rfl) ?_
              refine va_get (D := (dC, dI)) (ci := 5) (v := .ref (ad 6)) (C := RX5) (T := TX5) (N := 11) hx hb hts (fun w h => gw_mem (inX5 w h)) hown hK.1 hP 0 rfl rfl 3 (by decide) (hts _ (gw_mem wfX5_29)) (fun _ h9 => h9) rfl dX5_layOutRow_140 ?_
              refine lv_iload_n hx hb dX5_layOutRow_143 rfl (lv_at hl 5 rfl) ?_
              obtain ⟨h118, hf⟩ := og_some hf
              refine va_lald hx hb hK.1 hP 6 1 rfl rfl (okI_in h118) dX5_layOutRow_144 ?_
              refine lv_lload hx hb dX5_layOutRow_145 (lv_at hl 2 rfl) ?_
              obtain ⟨r119, v120, hf⟩ := bd1_some hf
              have z121 : [3, 4].map (fun i => ((wX5 dA ad c_tree_parts c_bond_terms c_penceByUps w11 c_turned c_called c_hold c_value w86 c_act c_rowOfKey))[i]?) = ((wX0 dA (fun i => ad (i + 3)) c_bond_terms)).map some := rfl
              refine gpl [3, 4] [0, 1, 2, 5, 6, 7, 8, 9, 10, 11, 12, 13] [0, 1, 2, 12, 13, 3, 4, 5, 6, 7, 8, 9, 10, 11] (wf := (wX5 dA ad c_tree_parts c_bond_terms c_penceByUps w11 c_turned c_called c_hold c_value w86 c_act c_rowOfKey)) (va_runV (As := [.long (w11 (Int32.toNatClampNeg p1)), .long w14]) (rest := [.int p1, .ref (ad 7)]) ⟨hx, hb, hml, hown, hts⟩ (tX0_turnedWorth l dC dI dA (fun i => ad (i + 3)) H.size v120) (ccX5_X0_turnedWorth hts ⟨Nat.le_of_ble_eq_true rfl, Nat.le_of_ble_eq_true rfl⟩) (gPreV (ci := 1) (q0 := 0) (gsub z121 hP) hK (gsubD z121 (by decide) hD) rfl rfl) rfl rfl hl.1 rfl (lv_room (Nat.le_of_ble_eq_true rfl)) dX5_layOutRow_147 ⟨Nat.le_of_ble_eq_true rfl, Nat.le_of_ble_eq_true rfl⟩) hP hD hS hA z121 rfl (by decide) (by decide) (by decide) rfl (fun H locs hP hD hS => ?_)
              refine lv_goto (tgt := 156) hx hb dX5_layOutRow_150 (by decide) ?_
              obtain ⟨h122, hf⟩ := og_some hf
              obtain ⟨w123, ew123⟩ : ∃ y : Nat → Int64, y = vp_updL c_turned (Int32.toNatClampNeg p1) r119 := ⟨_, rfl⟩
              replace hf := nm_at hf ew123
              refine va_last hx hb hK.1 hP hD hS 7 1 rfl rfl (okI_in h122) dX5_layOutRow_156 (fun H locs hP hD hS => ?_)
              have hP : va_P (dC, dI) vwCl (wX5 dA ad c_tree_parts c_bond_terms c_penceByUps w11 w123 c_called c_hold c_value w86 c_act c_rowOfKey) H := by rw [ew123]; exact hP
              have hD : va_D A (wX5 dA ad c_tree_parts c_bond_terms c_penceByUps w11 w123 c_called c_hold c_value w86 c_act c_rowOfKey) := by rw [ew123]; exact hD
              refine lv_aload_n hx hb dX5_layOutRow_157 rfl (lv_at hl 4 rfl) ?_
              refine va_get (D := (dC, dI)) (ci := 5) (v := .ref (ad 3)) (C := RX5) (T := TX5) (N := 11) hx hb hts (fun w h => gw_mem (inX5 w h)) hown hK.1 hP 0 rfl rfl 1 (by decide) (hts _ (gw_mem wfX5_21)) (fun _ h9 => h9) rfl dX5_layOutRow_158 ?_
              refine lv_iload_n hx hb dX5_layOutRow_161 rfl (lv_at hl 6 rfl) ?_
              obtain ⟨r124, v125, hf⟩ := bd1_some hf
              have z126 : [3, 4].map (fun i => ((wX5 dA ad c_tree_parts c_bond_terms c_penceByUps w11 w123 c_called c_hold c_value w86 c_act c_rowOfKey))[i]?) = ((wX0 dA (fun i => ad (i + 3)) c_bond_terms)).map some := rfl
              refine gpi [3, 4] [0, 1, 2, 5, 6, 7, 8, 9, 10, 11, 12, 13] [0, 1, 2, 12, 13, 3, 4, 5, 6, 7, 8, 9, 10, 11] (wf := (wX5 dA ad c_tree_parts c_bond_terms c_penceByUps w11 w123 c_called c_hold c_value w86 c_act c_rowOfKey)) (va_runV (As := [.int p2]) (rest := []) ⟨hx, hb, hml, hown, hts⟩ (tX0_callOn l dC dI dA (fun i => ad (i + 3)) H.size v125) (ccX5_X0_callOn hts ⟨Nat.le_of_ble_eq_true rfl, Nat.le_of_ble_eq_true rfl⟩) (gPreV (ci := 1) (q0 := 0) (gsub z126 hP) hK (gsubD z126 (by decide) hD) rfl rfl) rfl rfl hl.1 rfl (lv_room (Nat.le_of_ble_eq_true rfl)) dX5_layOutRow_162 ⟨Nat.le_of_ble_eq_true rfl, Nat.le_of_ble_eq_true rfl⟩) hP hD hS hA z126 rfl (by decide) (by decide) (by decide) rfl (fun H locs hP hD hS => ?_)
              refine lv_if_lt (tgt := 195) hx hb dX5_layOutRow_165 (by decide) (fun k127 => ?_) (fun k127 => ?_)
              · replace hf := ifp k127 hf
                refine lv_iconst (v := 0) hx hb dX5_layOutRow_195 (by decide) ?_
                refine lv_istore (lv' := [(8, .int 0), (7, .int 1), (6, .int 0), (4, .long w14), (3, .int r1), (0, .ref (ad 0)), (1, .int p1), (2, .int p2)]) hx hb dX5_layOutRow_196 hl (by decide) rfl (fun ls hl => ?_)
                refine lv_aload_n hx hb dX5_layOutRow_198 rfl (lv_at hl 5 rfl) ?_
                refine va_get (D := (dC, dI)) (ci := 5) (v := .ref (ad 8)) (C := RX5) (T := TX5) (N := 11) hx hb hts (fun w h => gw_mem (inX5 w h)) hown hK.1 hP 0 rfl rfl 5 (by decide) (hts _ (gw_mem wfX5_35)) (fun _ h9 => h9) rfl dX5_layOutRow_199 ?_
                refine lv_iload_n hx hb dX5_layOutRow_202 rfl (lv_at hl 6 rfl) ?_
                refine lv_iload hx hb dX5_layOutRow_203 (lv_at hl 0 rfl) ?_
                refine lv_if_eq (tgt := 229) hx hb dX5_layOutRow_205 (by decide) (fun k128 => ?_) (fun k128 => absurd k128 (by decide))
                refine lv_ldc2 (v := (-2)) hx hb hown (hts _ (gw_mem wkX5_75)) dX5_layOutRow_229 ?_
                obtain ⟨h129, hf⟩ := og_some hf
                obtain ⟨w130, ew130⟩ : ∃ y : Nat → Int64, y = vp_updL c_called (Int32.toNatClampNeg p1) (-2) := ⟨_, rfl⟩
                replace hf := nm_at hf ew130
                refine va_last hx hb hK.1 hP hD hS 8 1 rfl rfl (okI_in h129) dX5_layOutRow_232 (fun H locs hP hD hS => ?_)
                have hP : va_P (dC, dI) vwCl (wX5 dA ad c_tree_parts c_bond_terms c_penceByUps w11 w123 w130 c_hold c_value w86 c_act c_rowOfKey) H := by rw [ew130]; exact hP
                have hD : va_D A (wX5 dA ad c_tree_parts c_bond_terms c_penceByUps w11 w123 w130 c_hold c_value w86 c_act c_rowOfKey) := by rw [ew130]; exact hD
                cases hf
                exact W.vret hx hb hr (fun t ht _ => gqv hP hD hS ht) hS.2.2 dX5_layOutRow_233
              · replace hf := ifn k127 hf
                refine lv_aload_n hx hb dX5_layOutRow_168 rfl (lv_at hl 4 rfl) ?_
                refine va_get (D := (dC, dI)) (ci := 5) (v := .ref (ad 3)) (C := RX5) (T := TX5) (N := 11) hx hb hts (fun w h => gw_mem (inX5 w h)) hown hK.1 hP 0 rfl rfl 1 (by decide) (hts _ (gw_mem wfX5_21)) (fun _ h9 => h9) rfl dX5_layOutRow_169 ?_
                refine lv_aload_n hx hb dX5_layOutRow_172 rfl (lv_at hl 4 rfl) ?_
                refine va_get (D := (dC, dI)) (ci := 5) (v := .ref (ad 11)) (C := RX5) (T := TX5) (N := 11) hx hb hts (fun w h => gw_mem (inX5 w h)) hown hK.1 hP 0 rfl rfl 8 (by decide) (hts _ (gw_mem wfX5_44)) (fun _ h9 => h9) rfl dX5_layOutRow_173 ?_
                refine lv_iload_n hx hb dX5_layOutRow_176 rfl (lv_at hl 5 rfl) ?_
                obtain ⟨h131, hf⟩ := og_some hf
                refine va_iald hx hb hK.1 hP 11 0 rfl rfl (okI_in h131) dX5_layOutRow_177 ?_
                obtain ⟨r132, v133, hf⟩ := bd1_some hf
                have z134 : [3, 4].map (fun i => ((wX5 dA ad c_tree_parts c_bond_terms c_penceByUps w11 w123 c_called c_hold c_value w86 c_act c_rowOfKey))[i]?) = ((wX0 dA (fun i => ad (i + 3)) c_bond_terms)).map some := rfl
                refine gpi [3, 4] [0, 1, 2, 5, 6, 7, 8, 9, 10, 11, 12, 13] [0, 1, 2, 12, 13, 3, 4, 5, 6, 7, 8, 9, 10, 11] (wf := (wX5 dA ad c_tree_parts c_bond_terms c_penceByUps w11 w123 c_called c_hold c_value w86 c_act c_rowOfKey)) (va_runV (As := [.int (w86 (Int32.toNatClampNeg p1))]) (rest := []) ⟨hx, hb, hml, hown, hts⟩ (tX0_highDays l dC dI dA (fun i => ad (i + 3)) H.size v133) (ccX5_X0_highDays hts ⟨Nat.le_of_ble_eq_true rfl, Nat.le_of_ble_eq_true rfl⟩) (gPreV (ci := 1) (q0 := 0) (gsub z134 hP) hK (gsubD z134 (by decide) hD) rfl rfl) rfl rfl hl.1 rfl (lv_room (Nat.le_of_ble_eq_true rfl)) dX5_layOutRow_178 ⟨Nat.le_of_ble_eq_true rfl, Nat.le_of_ble_eq_true rfl⟩) hP hD hS hA z134 rfl (by decide) (by decide) (by decide) rfl (fun H locs hP hD hS => ?_)
                refine lv_aload_n hx hb dX5_layOutRow_181 rfl (lv_at hl 4 rfl) ?_
                refine va_get (D := (dC, dI)) (ci := 5) (v := .ref (ad 3)) (C := RX5) (T := TX5) (N := 11) hx hb hts (fun w h => gw_mem (inX5 w h)) hown hK.1 hP 0 rfl rfl 1 (by decide) (hts _ (gw_mem wfX5_21)) (fun _ h9 => h9) rfl dX5_layOutRow_182 ?_
                obtain ⟨r135, v136, hf⟩ := bd1_some hf
                have z137 : [3, 4].map (fun i => ((wX5 dA ad c_tree_parts c_bond_terms c_penceByUps w11 w123 c_called c_hold c_value w86 c_act c_rowOfKey))[i]?) = ((wX0 dA (fun i => ad (i + 3)) c_bond_terms)).map some := rfl
                refine gpi [3, 4] [0, 1, 2, 5, 6, 7, 8, 9, 10, 11, 12, 13] [0, 1, 2, 12, 13, 3, 4, 5, 6, 7, 8, 9, 10, 11] (wf := (wX5 dA ad c_tree_parts c_bond_terms c_penceByUps w11 w123 c_called c_hold c_value w86 c_act c_rowOfKey)) (va_runV (As := []) (rest := [.int r132]) ⟨hx, hb, hml, hown, hts⟩ (tX0_softLeast l dC dI dA (fun i => ad (i + 3)) H.size v136) (ccX5_X0_softLeast hts ⟨Nat.le_of_ble_eq_true rfl, Nat.le_of_ble_eq_true rfl⟩) (gPreV (ci := 1) (q0 := 0) (gsub z137 hP) hK (gsubD z137 (by decide) hD) rfl rfl) rfl rfl hl.1 rfl (lv_room (Nat.le_of_ble_eq_true rfl)) dX5_layOutRow_185 ⟨Nat.le_of_ble_eq_true rfl, Nat.le_of_ble_eq_true rfl⟩) hP hD hS hA z137 rfl (by decide) (by decide) (by decide) rfl (fun H locs hP hD hS => ?_)
                refine lv_icmp_lt (tgt := 195) hx hb dX5_layOutRow_188 (by decide) (fun k138 => ?_) (fun k138 => ?_)
                · replace hf := ifp k138 hf
                  refine lv_iconst (v := 0) hx hb dX5_layOutRow_195 (by decide) ?_
                  refine lv_istore (lv' := [(8, .int 0), (7, .int 1), (6, .int 0), (4, .long w14), (3, .int r1), (0, .ref (ad 0)), (1, .int p1), (2, .int p2)]) hx hb dX5_layOutRow_196 hl (by decide) rfl (fun ls hl => ?_)
                  refine lv_aload_n hx hb dX5_layOutRow_198 rfl (lv_at hl 5 rfl) ?_
                  refine va_get (D := (dC, dI)) (ci := 5) (v := .ref (ad 8)) (C := RX5) (T := TX5) (N := 11) hx hb hts (fun w h => gw_mem (inX5 w h)) hown hK.1 hP 0 rfl rfl 5 (by decide) (hts _ (gw_mem wfX5_35)) (fun _ h9 => h9) rfl dX5_layOutRow_199 ?_
                  refine lv_iload_n hx hb dX5_layOutRow_202 rfl (lv_at hl 6 rfl) ?_
                  refine lv_iload hx hb dX5_layOutRow_203 (lv_at hl 0 rfl) ?_
                  refine lv_if_eq (tgt := 229) hx hb dX5_layOutRow_205 (by decide) (fun k139 => ?_) (fun k139 => absurd k139 (by decide))
                  refine lv_ldc2 (v := (-2)) hx hb hown (hts _ (gw_mem wkX5_75)) dX5_layOutRow_229 ?_
                  obtain ⟨h140, hf⟩ := og_some hf
                  obtain ⟨w141, ew141⟩ : ∃ y : Nat → Int64, y = vp_updL c_called (Int32.toNatClampNeg p1) (-2) := ⟨_, rfl⟩
                  replace hf := nm_at hf ew141
                  refine va_last hx hb hK.1 hP hD hS 8 1 rfl rfl (okI_in h140) dX5_layOutRow_232 (fun H locs hP hD hS => ?_)
                  have hP : va_P (dC, dI) vwCl (wX5 dA ad c_tree_parts c_bond_terms c_penceByUps w11 w123 w141 c_hold c_value w86 c_act c_rowOfKey) H := by rw [ew141]; exact hP
                  have hD : va_D A (wX5 dA ad c_tree_parts c_bond_terms c_penceByUps w11 w123 w141 c_hold c_value w86 c_act c_rowOfKey) := by rw [ew141]; exact hD
                  cases hf
                  exact W.vret hx hb hr (fun t ht _ => gqv hP hD hS ht) hS.2.2 dX5_layOutRow_233
                · replace hf := ifn k138 hf
                  refine lv_iconst (v := 1) hx hb dX5_layOutRow_191 (by decide) ?_
                  refine lv_goto (tgt := 196) hx hb dX5_layOutRow_192 (by decide) ?_
                  refine lv_istore (lv' := [(8, .int 1), (7, .int 1), (6, .int 0), (4, .long w14), (3, .int r1), (0, .ref (ad 0)), (1, .int p1), (2, .int p2)]) hx hb dX5_layOutRow_196 hl (by decide) rfl (fun ls hl => ?_)
                  refine lv_aload_n hx hb dX5_layOutRow_198 rfl (lv_at hl 5 rfl) ?_
                  refine va_get (D := (dC, dI)) (ci := 5) (v := .ref (ad 8)) (C := RX5) (T := TX5) (N := 11) hx hb hts (fun w h => gw_mem (inX5 w h)) hown hK.1 hP 0 rfl rfl 5 (by decide) (hts _ (gw_mem wfX5_35)) (fun _ h9 => h9) rfl dX5_layOutRow_199 ?_
                  refine lv_iload_n hx hb dX5_layOutRow_202 rfl (lv_at hl 6 rfl) ?_
                  refine lv_iload hx hb dX5_layOutRow_203 (lv_at hl 0 rfl) ?_
                  refine lv_if_eq (tgt := 229) hx hb dX5_layOutRow_205 (by decide) (fun k142 => absurd k142 (by decide)) (fun k142 => ?_)
                  refine lv_aload_n hx hb dX5_layOutRow_208 rfl (lv_at hl 5 rfl) ?_
                  refine va_get (D := (dC, dI)) (ci := 5) (v := .ref (ad 3)) (C := RX5) (T := TX5) (N := 11) hx hb hts (fun w h => gw_mem (inX5 w h)) hown hK.1 hP 0 rfl rfl 1 (by decide) (hts _ (gw_mem wfX5_21)) (fun _ h9 => h9) rfl dX5_layOutRow_209 ?_
                  refine lv_iload_n hx hb dX5_layOutRow_212 rfl (lv_at hl 7 rfl) ?_
                  obtain ⟨r143, v144, hf⟩ := bd1_some hf
                  have z145 : [3, 4].map (fun i => ((wX5 dA ad c_tree_parts c_bond_terms c_penceByUps w11 w123 c_called c_hold c_value w86 c_act c_rowOfKey))[i]?) = ((wX0 dA (fun i => ad (i + 3)) c_bond_terms)).map some := rfl
                  refine gpi [3, 4] [0, 1, 2, 5, 6, 7, 8, 9, 10, 11, 12, 13] [0, 1, 2, 12, 13, 3, 4, 5, 6, 7, 8, 9, 10, 11] (wf := (wX5 dA ad c_tree_parts c_bond_terms c_penceByUps w11 w123 c_called c_hold c_value w86 c_act c_rowOfKey)) (va_runV (As := [.int p2]) (rest := [.int p1, .ref (ad 8)]) ⟨hx, hb, hml, hown, hts⟩ (tX0_callOn l dC dI dA (fun i => ad (i + 3)) H.size v144) (ccX5_X0_callOn hts ⟨Nat.le_of_ble_eq_true rfl, Nat.le_of_ble_eq_true rfl⟩) (gPreV (ci := 1) (q0 := 0) (gsub z145 hP) hK (gsubD z145 (by decide) hD) rfl rfl) rfl rfl hl.1 rfl (lv_room (Nat.le_of_ble_eq_true rfl)) dX5_layOutRow_213 ⟨Nat.le_of_ble_eq_true rfl, Nat.le_of_ble_eq_true rfl⟩) hP hD hS hA z145 rfl (by decide) (by decide) (by decide) rfl (fun H locs hP hD hS => ?_)
                  refine lv_i2l hx hb dX5_layOutRow_216 rfl ?_
                  refine lv_aload_n hx hb dX5_layOutRow_217 rfl (lv_at hl 5 rfl) ?_
                  refine va_get (D := (dC, dI)) (ci := 5) (v := .ref (ad 7)) (C := RX5) (T := TX5) (N := 11) hx hb hts (fun w h => gw_mem (inX5 w h)) hown hK.1 hP 0 rfl rfl 4 (by decide) (hts _ (gw_mem wfX5_32)) (fun _ h9 => h9) rfl dX5_layOutRow_218 ?_
                  refine lv_iload_n hx hb dX5_layOutRow_221 rfl (lv_at hl 6 rfl) ?_
                  obtain ⟨h146, hf⟩ := og_some hf
                  refine va_lald hx hb hK.1 hP 7 1 rfl rfl (okI_in h146) dX5_layOutRow_222 ?_
                  refine va_mmax_long hx hb (hml.trans hl.1.symm) hown (hts _ (gw_mem wmX5_134)) (hts _ (gw_mem wtJ9_max_f86c9)) (hts _ (gw_mem wnJ9)) (hts _ (gw_mem wcJ9_max_f86c9)) (Nat.le_of_ble_eq_true rfl) (Nat.le_of_ble_eq_true rfl) (Nat.le_of_ble_eq_true rfl) (Nat.le_of_ble_eq_true rfl) dX5_layOutRow_223 ?_
                  refine lv_goto (tgt := 232) hx hb dX5_layOutRow_226 (by decide) ?_
                  obtain ⟨h147, hf⟩ := og_some hf
                  obtain ⟨w148, ew148⟩ : ∃ y : Nat → Int64, y = vp_updL c_called (Int32.toNatClampNeg p1) (if (w123 (Int32.toNatClampNeg p1)) < (Int32.toInt64 r143) then (Int32.toInt64 r143) else (w123 (Int32.toNatClampNeg p1))) := ⟨_, rfl⟩
                  replace hf := nm_at hf ew148
                  refine va_last hx hb hK.1 hP hD hS 8 1 rfl rfl (okI_in h147) dX5_layOutRow_232 (fun H locs hP hD hS => ?_)
                  have hP : va_P (dC, dI) vwCl (wX5 dA ad c_tree_parts c_bond_terms c_penceByUps w11 w123 w148 c_hold c_value w86 c_act c_rowOfKey) H := by rw [ew148]; exact hP
                  have hD : va_D A (wX5 dA ad c_tree_parts c_bond_terms c_penceByUps w11 w123 w148 c_hold c_value w86 c_act c_rowOfKey) := by rw [ew148]; exact hD
                  cases hf
                  exact W.vret hx hb hr (fun t ht _ => gqv hP hD hS ht) hS.2.2 dX5_layOutRow_233
        · replace hf := ifn k15 hf
          refine lv_aload_n hx hb dX5_layOutRow_64 rfl (lv_at hl 2 rfl) ?_
          refine va_get (D := (dC, dI)) (ci := 5) (v := .ref (ad 11)) (C := RX5) (T := TX5) (N := 11) hx hb hts (fun w h => gw_mem (inX5 w h)) hown hK.1 hP 0 rfl rfl 8 (by decide) (hts _ (gw_mem wfX5_44)) (fun _ h9 => h9) rfl dX5_layOutRow_65 ?_
          refine lv_iload_n hx hb dX5_layOutRow_68 rfl (lv_at hl 3 rfl) ?_
          refine lv_iconst (v := 2) hx hb dX5_layOutRow_69 (by decide) ?_
          refine lv_idiv hx hb dX5_layOutRow_70 (by decide) ?_
          obtain ⟨h149, hf⟩ := og_some hf
          refine va_iald hx hb hK.1 hP 11 0 rfl rfl (okI_in h149) dX5_layOutRow_71 ?_
          refine lv_goto (tgt := 76) hx hb dX5_layOutRow_72 (by decide) ?_
          refine lv_topi (fun w150 ew150 => ?_)
          replace hf := nm_at hf ew150
          refine lv_istore (lv' := [(6, .int w150), (4, .long w14), (3, .int r1), (0, .ref (ad 0)), (1, .int p1), (2, .int p2)]) hx hb dX5_layOutRow_76 hl (by decide) rfl (fun ls hl => ?_)
          refine lv_aload_n hx hb dX5_layOutRow_78 rfl (lv_at hl 3 rfl) ?_
          refine va_get (D := (dC, dI)) (ci := 5) (v := .ref (ad 6)) (C := RX5) (T := TX5) (N := 11) hx hb hts (fun w h => gw_mem (inX5 w h)) hown hK.1 hP 0 rfl rfl 3 (by decide) (hts _ (gw_mem wfX5_29)) (fun _ h9 => h9) rfl dX5_layOutRow_79 ?_
          refine lv_iload_n hx hb dX5_layOutRow_82 rfl (lv_at hl 4 rfl) ?_
          obtain ⟨h151, hf⟩ := og_some hf
          refine va_lald hx hb hK.1 hP 6 1 rfl rfl (okI_in h151) dX5_layOutRow_83 ?_
          refine lv_aload_n hx hb dX5_layOutRow_84 rfl (lv_at hl 3 rfl) ?_
          refine va_get (D := (dC, dI)) (ci := 5) (v := .ref (ad 3)) (C := RX5) (T := TX5) (N := 11) hx hb hts (fun w h => gw_mem (inX5 w h)) hown hK.1 hP 0 rfl rfl 1 (by decide) (hts _ (gw_mem wfX5_21)) (fun _ h9 => h9) rfl dX5_layOutRow_85 ?_
          obtain ⟨r152, v153, hf⟩ := bd1_some hf
          have z154 : [3, 4].map (fun i => ((wX5 dA ad c_tree_parts c_bond_terms c_penceByUps w11 c_turned c_called c_hold c_value c_marks c_act c_rowOfKey))[i]?) = ((wX0 dA (fun i => ad (i + 3)) c_bond_terms)).map some := rfl
          refine gpi [3, 4] [0, 1, 2, 5, 6, 7, 8, 9, 10, 11, 12, 13] [0, 1, 2, 12, 13, 3, 4, 5, 6, 7, 8, 9, 10, 11] (wf := (wX5 dA ad c_tree_parts c_bond_terms c_penceByUps w11 c_turned c_called c_hold c_value c_marks c_act c_rowOfKey)) (va_runV (As := []) (rest := [.long (w11 (Int32.toNatClampNeg p1))]) ⟨hx, hb, hml, hown, hts⟩ (tX0_softLevel l dC dI dA (fun i => ad (i + 3)) H.size v153) (ccX5_X0_softLevel hts ⟨Nat.le_of_ble_eq_true rfl, Nat.le_of_ble_eq_true rfl⟩) (gPreV (ci := 1) (q0 := 0) (gsub z154 hP) hK (gsubD z154 (by decide) hD) rfl rfl) rfl rfl hl.1 rfl (lv_room (Nat.le_of_ble_eq_true rfl)) dX5_layOutRow_88 ⟨Nat.le_of_ble_eq_true rfl, Nat.le_of_ble_eq_true rfl⟩) hP hD hS hA z154 rfl (by decide) (by decide) (by decide) rfl (fun H locs hP hD hS => ?_)
          refine lv_i2l hx hb dX5_layOutRow_91 rfl ?_
          refine W.lcmp hx hb dX5_layOutRow_92 ?_
          refine lv_if_lt (tgt := 100) hx hb dX5_layOutRow_93 (by decide) (fun k155 => ?_) (fun k155 => ?_)
          · replace hf := ifp (lc_lt.mp k155) hf
            refine lv_iconst (v := 0) hx hb dX5_layOutRow_100 (by decide) ?_
            refine lv_istore (lv' := [(7, .int 0), (6, .int w150), (4, .long w14), (3, .int r1), (0, .ref (ad 0)), (1, .int p1), (2, .int p2)]) hx hb dX5_layOutRow_101 hl (by decide) rfl (fun ls hl => ?_)
            refine lv_aload_n hx hb dX5_layOutRow_103 rfl (lv_at hl 4 rfl) ?_
            refine va_get (D := (dC, dI)) (ci := 5) (v := .ref (ad 11)) (C := RX5) (T := TX5) (N := 11) hx hb hts (fun w h => gw_mem (inX5 w h)) hown hK.1 hP 0 rfl rfl 8 (by decide) (hts _ (gw_mem wfX5_44)) (fun _ h9 => h9) rfl dX5_layOutRow_104 ?_
            refine lv_iload_n hx hb dX5_layOutRow_107 rfl (lv_at hl 5 rfl) ?_
            refine lv_iload hx hb dX5_layOutRow_108 (lv_at hl 1 rfl) ?_
            refine lv_iconst (v := 2) hx hb dX5_layOutRow_110 (by decide) ?_
            refine lv_imul hx hb dX5_layOutRow_111 ?_
            refine lv_iload hx hb dX5_layOutRow_112 (lv_at hl 0 rfl) ?_
            refine lv_iadd hx hb dX5_layOutRow_114 ?_
            refine lv_bipush (v := 7) hx hb dX5_layOutRow_115 (by decide) ?_
            refine lv_iand hx hb dX5_layOutRow_117 ?_
            obtain ⟨h156, hf⟩ := og_some hf
            obtain ⟨w157, ew157⟩ : ∃ y : Nat → Int32, y = upd c_marks (Int32.toNatClampNeg p1) (((w150 * 2) + 0) &&& 7) := ⟨_, rfl⟩
            replace hf := nm_at hf ew157
            refine va_iast hx hb hK.1 hP hD hS 11 0 rfl rfl (okI_in h156) dX5_layOutRow_118 (fun H locs hP hD hS => ?_)
            have hP : va_P (dC, dI) vwCl (wX5 dA ad c_tree_parts c_bond_terms c_penceByUps w11 c_turned c_called c_hold c_value w157 c_act c_rowOfKey) H := by rw [ew157]; exact hP
            have hD : va_D A (wX5 dA ad c_tree_parts c_bond_terms c_penceByUps w11 c_turned c_called c_hold c_value w157 c_act c_rowOfKey) := by rw [ew157]; exact hD
            refine lv_aload_n hx hb dX5_layOutRow_119 rfl (lv_at hl 4 rfl) ?_
            refine va_get (D := (dC, dI)) (ci := 5) (v := .ref (ad 7)) (C := RX5) (T := TX5) (N := 11) hx hb hts (fun w h => gw_mem (inX5 w h)) hown hK.1 hP 0 rfl rfl 4 (by decide) (hts _ (gw_mem wfX5_32)) (fun _ h9 => h9) rfl dX5_layOutRow_120 ?_
            refine lv_iload_n hx hb dX5_layOutRow_123 rfl (lv_at hl 5 rfl) ?_
            refine lv_aload_n hx hb dX5_layOutRow_124 rfl (lv_at hl 4 rfl) ?_
            refine va_get (D := (dC, dI)) (ci := 5) (v := .ref (ad 3)) (C := RX5) (T := TX5) (N := 11) hx hb hts (fun w h => gw_mem (inX5 w h)) hown hK.1 hP 0 rfl rfl 1 (by decide) (hts _ (gw_mem wfX5_21)) (fun _ h9 => h9) rfl dX5_layOutRow_125 ?_
            refine lv_iload_n hx hb dX5_layOutRow_128 rfl (lv_at hl 6 rfl) ?_
            obtain ⟨r158, v159, hf⟩ := bd1_some hf
            have z160 : [3, 4].map (fun i => ((wX5 dA ad c_tree_parts c_bond_terms c_penceByUps w11 c_turned c_called c_hold c_value w157 c_act c_rowOfKey))[i]?) = ((wX0 dA (fun i => ad (i + 3)) c_bond_terms)).map some := rfl
            refine gpi [3, 4] [0, 1, 2, 5, 6, 7, 8, 9, 10, 11, 12, 13] [0, 1, 2, 12, 13, 3, 4, 5, 6, 7, 8, 9, 10, 11] (wf := (wX5 dA ad c_tree_parts c_bond_terms c_penceByUps w11 c_turned c_called c_hold c_value w157 c_act c_rowOfKey)) (va_runV (As := [.int p2]) (rest := [.int p1, .ref (ad 7)]) ⟨hx, hb, hml, hown, hts⟩ (tX0_mayTurnOn l dC dI dA (fun i => ad (i + 3)) H.size v159) (ccX5_X0_mayTurnOn hts ⟨Nat.le_of_ble_eq_true rfl, Nat.le_of_ble_eq_true rfl⟩) (gPreV (ci := 1) (q0 := 0) (gsub z160 hP) hK (gsubD z160 (by decide) hD) rfl rfl) rfl rfl hl.1 rfl (lv_room (Nat.le_of_ble_eq_true rfl)) dX5_layOutRow_129 ⟨Nat.le_of_ble_eq_true rfl, Nat.le_of_ble_eq_true rfl⟩) hP hD hS hA z160 rfl (by decide) (by decide) (by decide) rfl (fun H locs hP hD hS => ?_)
            refine lv_if_eq (tgt := 153) hx hb dX5_layOutRow_132 (by decide) (fun k161 => ?_) (fun k161 => ?_)
            · replace hf := ifp k161 hf
              refine lv_ldc2 (v := (-2)) hx hb hown (hts _ (gw_mem wkX5_75)) dX5_layOutRow_153 ?_
              obtain ⟨h162, hf⟩ := og_some hf
              obtain ⟨w163, ew163⟩ : ∃ y : Nat → Int64, y = vp_updL c_turned (Int32.toNatClampNeg p1) (-2) := ⟨_, rfl⟩
              replace hf := nm_at hf ew163
              refine va_last hx hb hK.1 hP hD hS 7 1 rfl rfl (okI_in h162) dX5_layOutRow_156 (fun H locs hP hD hS => ?_)
              have hP : va_P (dC, dI) vwCl (wX5 dA ad c_tree_parts c_bond_terms c_penceByUps w11 w163 c_called c_hold c_value w157 c_act c_rowOfKey) H := by rw [ew163]; exact hP
              have hD : va_D A (wX5 dA ad c_tree_parts c_bond_terms c_penceByUps w11 w163 c_called c_hold c_value w157 c_act c_rowOfKey) := by rw [ew163]; exact hD
              refine lv_aload_n hx hb dX5_layOutRow_157 rfl (lv_at hl 4 rfl) ?_
              refine va_get (D := (dC, dI)) (ci := 5) (v := .ref (ad 3)) (C := RX5) (T := TX5) (N := 11) hx hb hts (fun w h => gw_mem (inX5 w h)) hown hK.1 hP 0 rfl rfl 1 (by decide) (hts _ (gw_mem wfX5_21)) (fun _ h9 => h9) rfl dX5_layOutRow_158 ?_
              refine lv_iload_n hx hb dX5_layOutRow_161 rfl (lv_at hl 6 rfl) ?_
              obtain ⟨r164, v165, hf⟩ := bd1_some hf
              have z166 : [3, 4].map (fun i => ((wX5 dA ad c_tree_parts c_bond_terms c_penceByUps w11 w163 c_called c_hold c_value w157 c_act c_rowOfKey))[i]?) = ((wX0 dA (fun i => ad (i + 3)) c_bond_terms)).map some := rfl
              refine gpi [3, 4] [0, 1, 2, 5, 6, 7, 8, 9, 10, 11, 12, 13] [0, 1, 2, 12, 13, 3, 4, 5, 6, 7, 8, 9, 10, 11] (wf := (wX5 dA ad c_tree_parts c_bond_terms c_penceByUps w11 w163 c_called c_hold c_value w157 c_act c_rowOfKey)) (va_runV (As := [.int p2]) (rest := []) ⟨hx, hb, hml, hown, hts⟩ (tX0_callOn l dC dI dA (fun i => ad (i + 3)) H.size v165) (ccX5_X0_callOn hts ⟨Nat.le_of_ble_eq_true rfl, Nat.le_of_ble_eq_true rfl⟩) (gPreV (ci := 1) (q0 := 0) (gsub z166 hP) hK (gsubD z166 (by decide) hD) rfl rfl) rfl rfl hl.1 rfl (lv_room (Nat.le_of_ble_eq_true rfl)) dX5_layOutRow_162 ⟨Nat.le_of_ble_eq_true rfl, Nat.le_of_ble_eq_true rfl⟩) hP hD hS hA z166 rfl (by decide) (by decide) (by decide) rfl (fun H locs hP hD hS => ?_)
              refine lv_if_lt (tgt := 195) hx hb dX5_layOutRow_165 (by decide) (fun k167 => ?_) (fun k167 => ?_)
              · replace hf := ifp k167 hf
                refine lv_iconst (v := 0) hx hb dX5_layOutRow_195 (by decide) ?_
                refine lv_istore (lv' := [(8, .int 0), (7, .int 0), (6, .int w150), (4, .long w14), (3, .int r1), (0, .ref (ad 0)), (1, .int p1), (2, .int p2)]) hx hb dX5_layOutRow_196 hl (by decide) rfl (fun ls hl => ?_)
                refine lv_aload_n hx hb dX5_layOutRow_198 rfl (lv_at hl 5 rfl) ?_
                refine va_get (D := (dC, dI)) (ci := 5) (v := .ref (ad 8)) (C := RX5) (T := TX5) (N := 11) hx hb hts (fun w h => gw_mem (inX5 w h)) hown hK.1 hP 0 rfl rfl 5 (by decide) (hts _ (gw_mem wfX5_35)) (fun _ h9 => h9) rfl dX5_layOutRow_199 ?_
                refine lv_iload_n hx hb dX5_layOutRow_202 rfl (lv_at hl 6 rfl) ?_
                refine lv_iload hx hb dX5_layOutRow_203 (lv_at hl 0 rfl) ?_
                refine lv_if_eq (tgt := 229) hx hb dX5_layOutRow_205 (by decide) (fun k168 => ?_) (fun k168 => absurd k168 (by decide))
                refine lv_ldc2 (v := (-2)) hx hb hown (hts _ (gw_mem wkX5_75)) dX5_layOutRow_229 ?_
                obtain ⟨h169, hf⟩ := og_some hf
                obtain ⟨w170, ew170⟩ : ∃ y : Nat → Int64, y = vp_updL c_called (Int32.toNatClampNeg p1) (-2) := ⟨_, rfl⟩
                replace hf := nm_at hf ew170
                refine va_last hx hb hK.1 hP hD hS 8 1 rfl rfl (okI_in h169) dX5_layOutRow_232 (fun H locs hP hD hS => ?_)
                have hP : va_P (dC, dI) vwCl (wX5 dA ad c_tree_parts c_bond_terms c_penceByUps w11 w163 w170 c_hold c_value w157 c_act c_rowOfKey) H := by rw [ew170]; exact hP
                have hD : va_D A (wX5 dA ad c_tree_parts c_bond_terms c_penceByUps w11 w163 w170 c_hold c_value w157 c_act c_rowOfKey) := by rw [ew170]; exact hD
                cases hf
                exact W.vret hx hb hr (fun t ht _ => gqv hP hD hS ht) hS.2.2 dX5_layOutRow_233
              · replace hf := ifn k167 hf
                refine lv_aload_n hx hb dX5_layOutRow_168 rfl (lv_at hl 4 rfl) ?_
                refine va_get (D := (dC, dI)) (ci := 5) (v := .ref (ad 3)) (C := RX5) (T := TX5) (N := 11) hx hb hts (fun w h => gw_mem (inX5 w h)) hown hK.1 hP 0 rfl rfl 1 (by decide) (hts _ (gw_mem wfX5_21)) (fun _ h9 => h9) rfl dX5_layOutRow_169 ?_
                refine lv_aload_n hx hb dX5_layOutRow_172 rfl (lv_at hl 4 rfl) ?_
                refine va_get (D := (dC, dI)) (ci := 5) (v := .ref (ad 11)) (C := RX5) (T := TX5) (N := 11) hx hb hts (fun w h => gw_mem (inX5 w h)) hown hK.1 hP 0 rfl rfl 8 (by decide) (hts _ (gw_mem wfX5_44)) (fun _ h9 => h9) rfl dX5_layOutRow_173 ?_
                refine lv_iload_n hx hb dX5_layOutRow_176 rfl (lv_at hl 5 rfl) ?_
                obtain ⟨h171, hf⟩ := og_some hf
                refine va_iald hx hb hK.1 hP 11 0 rfl rfl (okI_in h171) dX5_layOutRow_177 ?_
                obtain ⟨r172, v173, hf⟩ := bd1_some hf
                have z174 : [3, 4].map (fun i => ((wX5 dA ad c_tree_parts c_bond_terms c_penceByUps w11 w163 c_called c_hold c_value w157 c_act c_rowOfKey))[i]?) = ((wX0 dA (fun i => ad (i + 3)) c_bond_terms)).map some := rfl
                refine gpi [3, 4] [0, 1, 2, 5, 6, 7, 8, 9, 10, 11, 12, 13] [0, 1, 2, 12, 13, 3, 4, 5, 6, 7, 8, 9, 10, 11] (wf := (wX5 dA ad c_tree_parts c_bond_terms c_penceByUps w11 w163 c_called c_hold c_value w157 c_act c_rowOfKey)) (va_runV (As := [.int (w157 (Int32.toNatClampNeg p1))]) (rest := []) ⟨hx, hb, hml, hown, hts⟩ (tX0_highDays l dC dI dA (fun i => ad (i + 3)) H.size v173) (ccX5_X0_highDays hts ⟨Nat.le_of_ble_eq_true rfl, Nat.le_of_ble_eq_true rfl⟩) (gPreV (ci := 1) (q0 := 0) (gsub z174 hP) hK (gsubD z174 (by decide) hD) rfl rfl) rfl rfl hl.1 rfl (lv_room (Nat.le_of_ble_eq_true rfl)) dX5_layOutRow_178 ⟨Nat.le_of_ble_eq_true rfl, Nat.le_of_ble_eq_true rfl⟩) hP hD hS hA z174 rfl (by decide) (by decide) (by decide) rfl (fun H locs hP hD hS => ?_)
                refine lv_aload_n hx hb dX5_layOutRow_181 rfl (lv_at hl 4 rfl) ?_
                refine va_get (D := (dC, dI)) (ci := 5) (v := .ref (ad 3)) (C := RX5) (T := TX5) (N := 11) hx hb hts (fun w h => gw_mem (inX5 w h)) hown hK.1 hP 0 rfl rfl 1 (by decide) (hts _ (gw_mem wfX5_21)) (fun _ h9 => h9) rfl dX5_layOutRow_182 ?_
                obtain ⟨r175, v176, hf⟩ := bd1_some hf
                have z177 : [3, 4].map (fun i => ((wX5 dA ad c_tree_parts c_bond_terms c_penceByUps w11 w163 c_called c_hold c_value w157 c_act c_rowOfKey))[i]?) = ((wX0 dA (fun i => ad (i + 3)) c_bond_terms)).map some := rfl
                refine gpi [3, 4] [0, 1, 2, 5, 6, 7, 8, 9, 10, 11, 12, 13] [0, 1, 2, 12, 13, 3, 4, 5, 6, 7, 8, 9, 10, 11] (wf := (wX5 dA ad c_tree_parts c_bond_terms c_penceByUps w11 w163 c_called c_hold c_value w157 c_act c_rowOfKey)) (va_runV (As := []) (rest := [.int r172]) ⟨hx, hb, hml, hown, hts⟩ (tX0_softLeast l dC dI dA (fun i => ad (i + 3)) H.size v176) (ccX5_X0_softLeast hts ⟨Nat.le_of_ble_eq_true rfl, Nat.le_of_ble_eq_true rfl⟩) (gPreV (ci := 1) (q0 := 0) (gsub z177 hP) hK (gsubD z177 (by decide) hD) rfl rfl) rfl rfl hl.1 rfl (lv_room (Nat.le_of_ble_eq_true rfl)) dX5_layOutRow_185 ⟨Nat.le_of_ble_eq_true rfl, Nat.le_of_ble_eq_true rfl⟩) hP hD hS hA z177 rfl (by decide) (by decide) (by decide) rfl (fun H locs hP hD hS => ?_)
                refine lv_icmp_lt (tgt := 195) hx hb dX5_layOutRow_188 (by decide) (fun k178 => ?_) (fun k178 => ?_)
                · replace hf := ifp k178 hf
                  refine lv_iconst (v := 0) hx hb dX5_layOutRow_195 (by decide) ?_
                  refine lv_istore (lv' := [(8, .int 0), (7, .int 0), (6, .int w150), (4, .long w14), (3, .int r1), (0, .ref (ad 0)), (1, .int p1), (2, .int p2)]) hx hb dX5_layOutRow_196 hl (by decide) rfl (fun ls hl => ?_)
                  refine lv_aload_n hx hb dX5_layOutRow_198 rfl (lv_at hl 5 rfl) ?_
                  refine va_get (D := (dC, dI)) (ci := 5) (v := .ref (ad 8)) (C := RX5) (T := TX5) (N := 11) hx hb hts (fun w h => gw_mem (inX5 w h)) hown hK.1 hP 0 rfl rfl 5 (by decide) (hts _ (gw_mem wfX5_35)) (fun _ h9 => h9) rfl dX5_layOutRow_199 ?_
                  refine lv_iload_n hx hb dX5_layOutRow_202 rfl (lv_at hl 6 rfl) ?_
                  refine lv_iload hx hb dX5_layOutRow_203 (lv_at hl 0 rfl) ?_
                  refine lv_if_eq (tgt := 229) hx hb dX5_layOutRow_205 (by decide) (fun k179 => ?_) (fun k179 => absurd k179 (by decide))
                  refine lv_ldc2 (v := (-2)) hx hb hown (hts _ (gw_mem wkX5_75)) dX5_layOutRow_229 ?_
                  obtain ⟨h180, hf⟩ := og_some hf
                  obtain ⟨w181, ew181⟩ : ∃ y : Nat → Int64, y = vp_updL c_called (Int32.toNatClampNeg p1) (-2) := ⟨_, rfl⟩
                  replace hf := nm_at hf ew181
                  refine va_last hx hb hK.1 hP hD hS 8 1 rfl rfl (okI_in h180) dX5_layOutRow_232 (fun H locs hP hD hS => ?_)
                  have hP : va_P (dC, dI) vwCl (wX5 dA ad c_tree_parts c_bond_terms c_penceByUps w11 w163 w181 c_hold c_value w157 c_act c_rowOfKey) H := by rw [ew181]; exact hP
                  have hD : va_D A (wX5 dA ad c_tree_parts c_bond_terms c_penceByUps w11 w163 w181 c_hold c_value w157 c_act c_rowOfKey) := by rw [ew181]; exact hD
                  cases hf
                  exact W.vret hx hb hr (fun t ht _ => gqv hP hD hS ht) hS.2.2 dX5_layOutRow_233
                · replace hf := ifn k178 hf
                  refine lv_iconst (v := 1) hx hb dX5_layOutRow_191 (by decide) ?_
                  refine lv_goto (tgt := 196) hx hb dX5_layOutRow_192 (by decide) ?_
                  refine lv_istore (lv' := [(8, .int 1), (7, .int 0), (6, .int w150), (4, .long w14), (3, .int r1), (0, .ref (ad 0)), (1, .int p1), (2, .int p2)]) hx hb dX5_layOutRow_196 hl (by decide) rfl (fun ls hl => ?_)
                  refine lv_aload_n hx hb dX5_layOutRow_198 rfl (lv_at hl 5 rfl) ?_
                  refine va_get (D := (dC, dI)) (ci := 5) (v := .ref (ad 8)) (C := RX5) (T := TX5) (N := 11) hx hb hts (fun w h => gw_mem (inX5 w h)) hown hK.1 hP 0 rfl rfl 5 (by decide) (hts _ (gw_mem wfX5_35)) (fun _ h9 => h9) rfl dX5_layOutRow_199 ?_
                  refine lv_iload_n hx hb dX5_layOutRow_202 rfl (lv_at hl 6 rfl) ?_
                  refine lv_iload hx hb dX5_layOutRow_203 (lv_at hl 0 rfl) ?_
                  refine lv_if_eq (tgt := 229) hx hb dX5_layOutRow_205 (by decide) (fun k182 => absurd k182 (by decide)) (fun k182 => ?_)
                  refine lv_aload_n hx hb dX5_layOutRow_208 rfl (lv_at hl 5 rfl) ?_
                  refine va_get (D := (dC, dI)) (ci := 5) (v := .ref (ad 3)) (C := RX5) (T := TX5) (N := 11) hx hb hts (fun w h => gw_mem (inX5 w h)) hown hK.1 hP 0 rfl rfl 1 (by decide) (hts _ (gw_mem wfX5_21)) (fun _ h9 => h9) rfl dX5_layOutRow_209 ?_
                  refine lv_iload_n hx hb dX5_layOutRow_212 rfl (lv_at hl 7 rfl) ?_
                  obtain ⟨r183, v184, hf⟩ := bd1_some hf
                  have z185 : [3, 4].map (fun i => ((wX5 dA ad c_tree_parts c_bond_terms c_penceByUps w11 w163 c_called c_hold c_value w157 c_act c_rowOfKey))[i]?) = ((wX0 dA (fun i => ad (i + 3)) c_bond_terms)).map some := rfl
                  refine gpi [3, 4] [0, 1, 2, 5, 6, 7, 8, 9, 10, 11, 12, 13] [0, 1, 2, 12, 13, 3, 4, 5, 6, 7, 8, 9, 10, 11] (wf := (wX5 dA ad c_tree_parts c_bond_terms c_penceByUps w11 w163 c_called c_hold c_value w157 c_act c_rowOfKey)) (va_runV (As := [.int p2]) (rest := [.int p1, .ref (ad 8)]) ⟨hx, hb, hml, hown, hts⟩ (tX0_callOn l dC dI dA (fun i => ad (i + 3)) H.size v184) (ccX5_X0_callOn hts ⟨Nat.le_of_ble_eq_true rfl, Nat.le_of_ble_eq_true rfl⟩) (gPreV (ci := 1) (q0 := 0) (gsub z185 hP) hK (gsubD z185 (by decide) hD) rfl rfl) rfl rfl hl.1 rfl (lv_room (Nat.le_of_ble_eq_true rfl)) dX5_layOutRow_213 ⟨Nat.le_of_ble_eq_true rfl, Nat.le_of_ble_eq_true rfl⟩) hP hD hS hA z185 rfl (by decide) (by decide) (by decide) rfl (fun H locs hP hD hS => ?_)
                  refine lv_i2l hx hb dX5_layOutRow_216 rfl ?_
                  refine lv_aload_n hx hb dX5_layOutRow_217 rfl (lv_at hl 5 rfl) ?_
                  refine va_get (D := (dC, dI)) (ci := 5) (v := .ref (ad 7)) (C := RX5) (T := TX5) (N := 11) hx hb hts (fun w h => gw_mem (inX5 w h)) hown hK.1 hP 0 rfl rfl 4 (by decide) (hts _ (gw_mem wfX5_32)) (fun _ h9 => h9) rfl dX5_layOutRow_218 ?_
                  refine lv_iload_n hx hb dX5_layOutRow_221 rfl (lv_at hl 6 rfl) ?_
                  obtain ⟨h186, hf⟩ := og_some hf
                  refine va_lald hx hb hK.1 hP 7 1 rfl rfl (okI_in h186) dX5_layOutRow_222 ?_
                  refine va_mmax_long hx hb (hml.trans hl.1.symm) hown (hts _ (gw_mem wmX5_134)) (hts _ (gw_mem wtJ9_max_f86c9)) (hts _ (gw_mem wnJ9)) (hts _ (gw_mem wcJ9_max_f86c9)) (Nat.le_of_ble_eq_true rfl) (Nat.le_of_ble_eq_true rfl) (Nat.le_of_ble_eq_true rfl) (Nat.le_of_ble_eq_true rfl) dX5_layOutRow_223 ?_
                  refine lv_goto (tgt := 232) hx hb dX5_layOutRow_226 (by decide) ?_
                  obtain ⟨h187, hf⟩ := og_some hf
                  obtain ⟨w188, ew188⟩ : ∃ y : Nat → Int64, y = vp_updL c_called (Int32.toNatClampNeg p1) (if (w163 (Int32.toNatClampNeg p1)) < (Int32.toInt64 r183) then (Int32.toInt64 r183) else (w163 (Int32.toNatClampNeg p1))) := ⟨_, rfl⟩
                  replace hf := nm_at hf ew188
                  refine va_last hx hb hK.1 hP hD hS 8 1 rfl rfl (okI_in h187) dX5_layOutRow_232 (fun H locs hP hD hS => ?_)
                  have hP : va_P (dC, dI) vwCl (wX5 dA ad c_tree_parts c_bond_terms c_penceByUps w11 w163 w188 c_hold c_value w157 c_act c_rowOfKey) H := by rw [ew188]; exact hP
                  have hD : va_D A (wX5 dA ad c_tree_parts c_bond_terms c_penceByUps w11 w163 w188 c_hold c_value w157 c_act c_rowOfKey) := by rw [ew188]; exact hD
                  cases hf
                  exact W.vret hx hb hr (fun t ht _ => gqv hP hD hS ht) hS.2.2 dX5_layOutRow_233
            · replace hf := ifn k161 hf
              refine lv_aload_n hx hb dX5_layOutRow_135 rfl (lv_at hl 4 rfl) ?_
              refine va_get (D := (dC, dI)) (ci := 5) (v := .ref (ad 3)) (C := RX5) (T := TX5) (N := 11) hx hb hts (fun w h => gw_mem (inX5 w h)) hown hK.1 hP 0 rfl rfl 1 (by decide) (hts _ (gw_mem wfX5_21)) (fun _ h9 => h9) rfl dX5_layOutRow_136 ?_
              refine lv_aload_n hx hb dX5_layOutRow_139 rfl (lv_at hl 4 rfl) ?_
              refine va_get (D := (dC, dI)) (ci := 5) (v := .ref (ad 6)) (C := RX5) (T := TX5) (N := 11) hx hb hts (fun w h => gw_mem (inX5 w h)) hown hK.1 hP 0 rfl rfl 3 (by decide) (hts _ (gw_mem wfX5_29)) (fun _ h9 => h9) rfl dX5_layOutRow_140 ?_
              refine lv_iload_n hx hb dX5_layOutRow_143 rfl (lv_at hl 5 rfl) ?_
              obtain ⟨h189, hf⟩ := og_some hf
              refine va_lald hx hb hK.1 hP 6 1 rfl rfl (okI_in h189) dX5_layOutRow_144 ?_
              refine lv_lload hx hb dX5_layOutRow_145 (lv_at hl 2 rfl) ?_
              obtain ⟨r190, v191, hf⟩ := bd1_some hf
              have z192 : [3, 4].map (fun i => ((wX5 dA ad c_tree_parts c_bond_terms c_penceByUps w11 c_turned c_called c_hold c_value w157 c_act c_rowOfKey))[i]?) = ((wX0 dA (fun i => ad (i + 3)) c_bond_terms)).map some := rfl
              refine gpl [3, 4] [0, 1, 2, 5, 6, 7, 8, 9, 10, 11, 12, 13] [0, 1, 2, 12, 13, 3, 4, 5, 6, 7, 8, 9, 10, 11] (wf := (wX5 dA ad c_tree_parts c_bond_terms c_penceByUps w11 c_turned c_called c_hold c_value w157 c_act c_rowOfKey)) (va_runV (As := [.long (w11 (Int32.toNatClampNeg p1)), .long w14]) (rest := [.int p1, .ref (ad 7)]) ⟨hx, hb, hml, hown, hts⟩ (tX0_turnedWorth l dC dI dA (fun i => ad (i + 3)) H.size v191) (ccX5_X0_turnedWorth hts ⟨Nat.le_of_ble_eq_true rfl, Nat.le_of_ble_eq_true rfl⟩) (gPreV (ci := 1) (q0 := 0) (gsub z192 hP) hK (gsubD z192 (by decide) hD) rfl rfl) rfl rfl hl.1 rfl (lv_room (Nat.le_of_ble_eq_true rfl)) dX5_layOutRow_147 ⟨Nat.le_of_ble_eq_true rfl, Nat.le_of_ble_eq_true rfl⟩) hP hD hS hA z192 rfl (by decide) (by decide) (by decide) rfl (fun H locs hP hD hS => ?_)
              refine lv_goto (tgt := 156) hx hb dX5_layOutRow_150 (by decide) ?_
              obtain ⟨h193, hf⟩ := og_some hf
              obtain ⟨w194, ew194⟩ : ∃ y : Nat → Int64, y = vp_updL c_turned (Int32.toNatClampNeg p1) r190 := ⟨_, rfl⟩
              replace hf := nm_at hf ew194
              refine va_last hx hb hK.1 hP hD hS 7 1 rfl rfl (okI_in h193) dX5_layOutRow_156 (fun H locs hP hD hS => ?_)
              have hP : va_P (dC, dI) vwCl (wX5 dA ad c_tree_parts c_bond_terms c_penceByUps w11 w194 c_called c_hold c_value w157 c_act c_rowOfKey) H := by rw [ew194]; exact hP
              have hD : va_D A (wX5 dA ad c_tree_parts c_bond_terms c_penceByUps w11 w194 c_called c_hold c_value w157 c_act c_rowOfKey) := by rw [ew194]; exact hD
              refine lv_aload_n hx hb dX5_layOutRow_157 rfl (lv_at hl 4 rfl) ?_
              refine va_get (D := (dC, dI)) (ci := 5) (v := .ref (ad 3)) (C := RX5) (T := TX5) (N := 11) hx hb hts (fun w h => gw_mem (inX5 w h)) hown hK.1 hP 0 rfl rfl 1 (by decide) (hts _ (gw_mem wfX5_21)) (fun _ h9 => h9) rfl dX5_layOutRow_158 ?_
              refine lv_iload_n hx hb dX5_layOutRow_161 rfl (lv_at hl 6 rfl) ?_
              obtain ⟨r195, v196, hf⟩ := bd1_some hf
              have z197 : [3, 4].map (fun i => ((wX5 dA ad c_tree_parts c_bond_terms c_penceByUps w11 w194 c_called c_hold c_value w157 c_act c_rowOfKey))[i]?) = ((wX0 dA (fun i => ad (i + 3)) c_bond_terms)).map some := rfl
              refine gpi [3, 4] [0, 1, 2, 5, 6, 7, 8, 9, 10, 11, 12, 13] [0, 1, 2, 12, 13, 3, 4, 5, 6, 7, 8, 9, 10, 11] (wf := (wX5 dA ad c_tree_parts c_bond_terms c_penceByUps w11 w194 c_called c_hold c_value w157 c_act c_rowOfKey)) (va_runV (As := [.int p2]) (rest := []) ⟨hx, hb, hml, hown, hts⟩ (tX0_callOn l dC dI dA (fun i => ad (i + 3)) H.size v196) (ccX5_X0_callOn hts ⟨Nat.le_of_ble_eq_true rfl, Nat.le_of_ble_eq_true rfl⟩) (gPreV (ci := 1) (q0 := 0) (gsub z197 hP) hK (gsubD z197 (by decide) hD) rfl rfl) rfl rfl hl.1 rfl (lv_room (Nat.le_of_ble_eq_true rfl)) dX5_layOutRow_162 ⟨Nat.le_of_ble_eq_true rfl, Nat.le_of_ble_eq_true rfl⟩) hP hD hS hA z197 rfl (by decide) (by decide) (by decide) rfl (fun H locs hP hD hS => ?_)
              refine lv_if_lt (tgt := 195) hx hb dX5_layOutRow_165 (by decide) (fun k198 => ?_) (fun k198 => ?_)
              · replace hf := ifp k198 hf
                refine lv_iconst (v := 0) hx hb dX5_layOutRow_195 (by decide) ?_
                refine lv_istore (lv' := [(8, .int 0), (7, .int 0), (6, .int w150), (4, .long w14), (3, .int r1), (0, .ref (ad 0)), (1, .int p1), (2, .int p2)]) hx hb dX5_layOutRow_196 hl (by decide) rfl (fun ls hl => ?_)
                refine lv_aload_n hx hb dX5_layOutRow_198 rfl (lv_at hl 5 rfl) ?_
                refine va_get (D := (dC, dI)) (ci := 5) (v := .ref (ad 8)) (C := RX5) (T := TX5) (N := 11) hx hb hts (fun w h => gw_mem (inX5 w h)) hown hK.1 hP 0 rfl rfl 5 (by decide) (hts _ (gw_mem wfX5_35)) (fun _ h9 => h9) rfl dX5_layOutRow_199 ?_
                refine lv_iload_n hx hb dX5_layOutRow_202 rfl (lv_at hl 6 rfl) ?_
                refine lv_iload hx hb dX5_layOutRow_203 (lv_at hl 0 rfl) ?_
                refine lv_if_eq (tgt := 229) hx hb dX5_layOutRow_205 (by decide) (fun k199 => ?_) (fun k199 => absurd k199 (by decide))
                refine lv_ldc2 (v := (-2)) hx hb hown (hts _ (gw_mem wkX5_75)) dX5_layOutRow_229 ?_
                obtain ⟨h200, hf⟩ := og_some hf
                obtain ⟨w201, ew201⟩ : ∃ y : Nat → Int64, y = vp_updL c_called (Int32.toNatClampNeg p1) (-2) := ⟨_, rfl⟩
                replace hf := nm_at hf ew201
                refine va_last hx hb hK.1 hP hD hS 8 1 rfl rfl (okI_in h200) dX5_layOutRow_232 (fun H locs hP hD hS => ?_)
                have hP : va_P (dC, dI) vwCl (wX5 dA ad c_tree_parts c_bond_terms c_penceByUps w11 w194 w201 c_hold c_value w157 c_act c_rowOfKey) H := by rw [ew201]; exact hP
                have hD : va_D A (wX5 dA ad c_tree_parts c_bond_terms c_penceByUps w11 w194 w201 c_hold c_value w157 c_act c_rowOfKey) := by rw [ew201]; exact hD
                cases hf
                exact W.vret hx hb hr (fun t ht _ => gqv hP hD hS ht) hS.2.2 dX5_layOutRow_233
              · replace hf := ifn k198 hf
                refine lv_aload_n hx hb dX5_layOutRow_168 rfl (lv_at hl 4 rfl) ?_
                refine va_get (D := (dC, dI)) (ci := 5) (v := .ref (ad 3)) (C := RX5) (T := TX5) (N := 11) hx hb hts (fun w h => gw_mem (inX5 w h)) hown hK.1 hP 0 rfl rfl 1 (by decide) (hts _ (gw_mem wfX5_21)) (fun _ h9 => h9) rfl dX5_layOutRow_169 ?_
                refine lv_aload_n hx hb dX5_layOutRow_172 rfl (lv_at hl 4 rfl) ?_
                refine va_get (D := (dC, dI)) (ci := 5) (v := .ref (ad 11)) (C := RX5) (T := TX5) (N := 11) hx hb hts (fun w h => gw_mem (inX5 w h)) hown hK.1 hP 0 rfl rfl 8 (by decide) (hts _ (gw_mem wfX5_44)) (fun _ h9 => h9) rfl dX5_layOutRow_173 ?_
                refine lv_iload_n hx hb dX5_layOutRow_176 rfl (lv_at hl 5 rfl) ?_
                obtain ⟨h202, hf⟩ := og_some hf
                refine va_iald hx hb hK.1 hP 11 0 rfl rfl (okI_in h202) dX5_layOutRow_177 ?_
                obtain ⟨r203, v204, hf⟩ := bd1_some hf
                have z205 : [3, 4].map (fun i => ((wX5 dA ad c_tree_parts c_bond_terms c_penceByUps w11 w194 c_called c_hold c_value w157 c_act c_rowOfKey))[i]?) = ((wX0 dA (fun i => ad (i + 3)) c_bond_terms)).map some := rfl
                refine gpi [3, 4] [0, 1, 2, 5, 6, 7, 8, 9, 10, 11, 12, 13] [0, 1, 2, 12, 13, 3, 4, 5, 6, 7, 8, 9, 10, 11] (wf := (wX5 dA ad c_tree_parts c_bond_terms c_penceByUps w11 w194 c_called c_hold c_value w157 c_act c_rowOfKey)) (va_runV (As := [.int (w157 (Int32.toNatClampNeg p1))]) (rest := []) ⟨hx, hb, hml, hown, hts⟩ (tX0_highDays l dC dI dA (fun i => ad (i + 3)) H.size v204) (ccX5_X0_highDays hts ⟨Nat.le_of_ble_eq_true rfl, Nat.le_of_ble_eq_true rfl⟩) (gPreV (ci := 1) (q0 := 0) (gsub z205 hP) hK (gsubD z205 (by decide) hD) rfl rfl) rfl rfl hl.1 rfl (lv_room (Nat.le_of_ble_eq_true rfl)) dX5_layOutRow_178 ⟨Nat.le_of_ble_eq_true rfl, Nat.le_of_ble_eq_true rfl⟩) hP hD hS hA z205 rfl (by decide) (by decide) (by decide) rfl (fun H locs hP hD hS => ?_)
                refine lv_aload_n hx hb dX5_layOutRow_181 rfl (lv_at hl 4 rfl) ?_
                refine va_get (D := (dC, dI)) (ci := 5) (v := .ref (ad 3)) (C := RX5) (T := TX5) (N := 11) hx hb hts (fun w h => gw_mem (inX5 w h)) hown hK.1 hP 0 rfl rfl 1 (by decide) (hts _ (gw_mem wfX5_21)) (fun _ h9 => h9) rfl dX5_layOutRow_182 ?_
                obtain ⟨r206, v207, hf⟩ := bd1_some hf
                have z208 : [3, 4].map (fun i => ((wX5 dA ad c_tree_parts c_bond_terms c_penceByUps w11 w194 c_called c_hold c_value w157 c_act c_rowOfKey))[i]?) = ((wX0 dA (fun i => ad (i + 3)) c_bond_terms)).map some := rfl
                refine gpi [3, 4] [0, 1, 2, 5, 6, 7, 8, 9, 10, 11, 12, 13] [0, 1, 2, 12, 13, 3, 4, 5, 6, 7, 8, 9, 10, 11] (wf := (wX5 dA ad c_tree_parts c_bond_terms c_penceByUps w11 w194 c_called c_hold c_value w157 c_act c_rowOfKey)) (va_runV (As := []) (rest := [.int r203]) ⟨hx, hb, hml, hown, hts⟩ (tX0_softLeast l dC dI dA (fun i => ad (i + 3)) H.size v207) (ccX5_X0_softLeast hts ⟨Nat.le_of_ble_eq_true rfl, Nat.le_of_ble_eq_true rfl⟩) (gPreV (ci := 1) (q0 := 0) (gsub z208 hP) hK (gsubD z208 (by decide) hD) rfl rfl) rfl rfl hl.1 rfl (lv_room (Nat.le_of_ble_eq_true rfl)) dX5_layOutRow_185 ⟨Nat.le_of_ble_eq_true rfl, Nat.le_of_ble_eq_true rfl⟩) hP hD hS hA z208 rfl (by decide) (by decide) (by decide) rfl (fun H locs hP hD hS => ?_)
                refine lv_icmp_lt (tgt := 195) hx hb dX5_layOutRow_188 (by decide) (fun k209 => ?_) (fun k209 => ?_)
                · replace hf := ifp k209 hf
                  refine lv_iconst (v := 0) hx hb dX5_layOutRow_195 (by decide) ?_
                  refine lv_istore (lv' := [(8, .int 0), (7, .int 0), (6, .int w150), (4, .long w14), (3, .int r1), (0, .ref (ad 0)), (1, .int p1), (2, .int p2)]) hx hb dX5_layOutRow_196 hl (by decide) rfl (fun ls hl => ?_)
                  refine lv_aload_n hx hb dX5_layOutRow_198 rfl (lv_at hl 5 rfl) ?_
                  refine va_get (D := (dC, dI)) (ci := 5) (v := .ref (ad 8)) (C := RX5) (T := TX5) (N := 11) hx hb hts (fun w h => gw_mem (inX5 w h)) hown hK.1 hP 0 rfl rfl 5 (by decide) (hts _ (gw_mem wfX5_35)) (fun _ h9 => h9) rfl dX5_layOutRow_199 ?_
                  refine lv_iload_n hx hb dX5_layOutRow_202 rfl (lv_at hl 6 rfl) ?_
                  refine lv_iload hx hb dX5_layOutRow_203 (lv_at hl 0 rfl) ?_
                  refine lv_if_eq (tgt := 229) hx hb dX5_layOutRow_205 (by decide) (fun k210 => ?_) (fun k210 => absurd k210 (by decide))
                  refine lv_ldc2 (v := (-2)) hx hb hown (hts _ (gw_mem wkX5_75)) dX5_layOutRow_229 ?_
                  obtain ⟨h211, hf⟩ := og_some hf
                  obtain ⟨w212, ew212⟩ : ∃ y : Nat → Int64, y = vp_updL c_called (Int32.toNatClampNeg p1) (-2) := ⟨_, rfl⟩
                  replace hf := nm_at hf ew212
                  refine va_last hx hb hK.1 hP hD hS 8 1 rfl rfl (okI_in h211) dX5_layOutRow_232 (fun H locs hP hD hS => ?_)
                  have hP : va_P (dC, dI) vwCl (wX5 dA ad c_tree_parts c_bond_terms c_penceByUps w11 w194 w212 c_hold c_value w157 c_act c_rowOfKey) H := by rw [ew212]; exact hP
                  have hD : va_D A (wX5 dA ad c_tree_parts c_bond_terms c_penceByUps w11 w194 w212 c_hold c_value w157 c_act c_rowOfKey) := by rw [ew212]; exact hD
                  cases hf
                  exact W.vret hx hb hr (fun t ht _ => gqv hP hD hS ht) hS.2.2 dX5_layOutRow_233
                · replace hf := ifn k209 hf
                  refine lv_iconst (v := 1) hx hb dX5_layOutRow_191 (by decide) ?_
                  refine lv_goto (tgt := 196) hx hb dX5_layOutRow_192 (by decide) ?_
                  refine lv_istore (lv' := [(8, .int 1), (7, .int 0), (6, .int w150), (4, .long w14), (3, .int r1), (0, .ref (ad 0)), (1, .int p1), (2, .int p2)]) hx hb dX5_layOutRow_196 hl (by decide) rfl (fun ls hl => ?_)
                  refine lv_aload_n hx hb dX5_layOutRow_198 rfl (lv_at hl 5 rfl) ?_
                  refine va_get (D := (dC, dI)) (ci := 5) (v := .ref (ad 8)) (C := RX5) (T := TX5) (N := 11) hx hb hts (fun w h => gw_mem (inX5 w h)) hown hK.1 hP 0 rfl rfl 5 (by decide) (hts _ (gw_mem wfX5_35)) (fun _ h9 => h9) rfl dX5_layOutRow_199 ?_
                  refine lv_iload_n hx hb dX5_layOutRow_202 rfl (lv_at hl 6 rfl) ?_
                  refine lv_iload hx hb dX5_layOutRow_203 (lv_at hl 0 rfl) ?_
                  refine lv_if_eq (tgt := 229) hx hb dX5_layOutRow_205 (by decide) (fun k213 => absurd k213 (by decide)) (fun k213 => ?_)
                  refine lv_aload_n hx hb dX5_layOutRow_208 rfl (lv_at hl 5 rfl) ?_
                  refine va_get (D := (dC, dI)) (ci := 5) (v := .ref (ad 3)) (C := RX5) (T := TX5) (N := 11) hx hb hts (fun w h => gw_mem (inX5 w h)) hown hK.1 hP 0 rfl rfl 1 (by decide) (hts _ (gw_mem wfX5_21)) (fun _ h9 => h9) rfl dX5_layOutRow_209 ?_
                  refine lv_iload_n hx hb dX5_layOutRow_212 rfl (lv_at hl 7 rfl) ?_
                  obtain ⟨r214, v215, hf⟩ := bd1_some hf
                  have z216 : [3, 4].map (fun i => ((wX5 dA ad c_tree_parts c_bond_terms c_penceByUps w11 w194 c_called c_hold c_value w157 c_act c_rowOfKey))[i]?) = ((wX0 dA (fun i => ad (i + 3)) c_bond_terms)).map some := rfl
                  refine gpi [3, 4] [0, 1, 2, 5, 6, 7, 8, 9, 10, 11, 12, 13] [0, 1, 2, 12, 13, 3, 4, 5, 6, 7, 8, 9, 10, 11] (wf := (wX5 dA ad c_tree_parts c_bond_terms c_penceByUps w11 w194 c_called c_hold c_value w157 c_act c_rowOfKey)) (va_runV (As := [.int p2]) (rest := [.int p1, .ref (ad 8)]) ⟨hx, hb, hml, hown, hts⟩ (tX0_callOn l dC dI dA (fun i => ad (i + 3)) H.size v215) (ccX5_X0_callOn hts ⟨Nat.le_of_ble_eq_true rfl, Nat.le_of_ble_eq_true rfl⟩) (gPreV (ci := 1) (q0 := 0) (gsub z216 hP) hK (gsubD z216 (by decide) hD) rfl rfl) rfl rfl hl.1 rfl (lv_room (Nat.le_of_ble_eq_true rfl)) dX5_layOutRow_213 ⟨Nat.le_of_ble_eq_true rfl, Nat.le_of_ble_eq_true rfl⟩) hP hD hS hA z216 rfl (by decide) (by decide) (by decide) rfl (fun H locs hP hD hS => ?_)
                  refine lv_i2l hx hb dX5_layOutRow_216 rfl ?_
                  refine lv_aload_n hx hb dX5_layOutRow_217 rfl (lv_at hl 5 rfl) ?_
                  refine va_get (D := (dC, dI)) (ci := 5) (v := .ref (ad 7)) (C := RX5) (T := TX5) (N := 11) hx hb hts (fun w h => gw_mem (inX5 w h)) hown hK.1 hP 0 rfl rfl 4 (by decide) (hts _ (gw_mem wfX5_32)) (fun _ h9 => h9) rfl dX5_layOutRow_218 ?_
                  refine lv_iload_n hx hb dX5_layOutRow_221 rfl (lv_at hl 6 rfl) ?_
                  obtain ⟨h217, hf⟩ := og_some hf
                  refine va_lald hx hb hK.1 hP 7 1 rfl rfl (okI_in h217) dX5_layOutRow_222 ?_
                  refine va_mmax_long hx hb (hml.trans hl.1.symm) hown (hts _ (gw_mem wmX5_134)) (hts _ (gw_mem wtJ9_max_f86c9)) (hts _ (gw_mem wnJ9)) (hts _ (gw_mem wcJ9_max_f86c9)) (Nat.le_of_ble_eq_true rfl) (Nat.le_of_ble_eq_true rfl) (Nat.le_of_ble_eq_true rfl) (Nat.le_of_ble_eq_true rfl) dX5_layOutRow_223 ?_
                  refine lv_goto (tgt := 232) hx hb dX5_layOutRow_226 (by decide) ?_
                  obtain ⟨h218, hf⟩ := og_some hf
                  obtain ⟨w219, ew219⟩ : ∃ y : Nat → Int64, y = vp_updL c_called (Int32.toNatClampNeg p1) (if (w194 (Int32.toNatClampNeg p1)) < (Int32.toInt64 r214) then (Int32.toInt64 r214) else (w194 (Int32.toNatClampNeg p1))) := ⟨_, rfl⟩
                  replace hf := nm_at hf ew219
                  refine va_last hx hb hK.1 hP hD hS 8 1 rfl rfl (okI_in h218) dX5_layOutRow_232 (fun H locs hP hD hS => ?_)
                  have hP : va_P (dC, dI) vwCl (wX5 dA ad c_tree_parts c_bond_terms c_penceByUps w11 w194 w219 c_hold c_value w157 c_act c_rowOfKey) H := by rw [ew219]; exact hP
                  have hD : va_D A (wX5 dA ad c_tree_parts c_bond_terms c_penceByUps w11 w194 w219 c_hold c_value w157 c_act c_rowOfKey) := by rw [ew219]; exact hD
                  cases hf
                  exact W.vret hx hb hr (fun t ht _ => gqv hP hD hS ht) hS.2.2 dX5_layOutRow_233
          · replace hf := ifn (fun h => k155 (lc_lt.mpr h)) hf
            refine lv_iconst (v := 1) hx hb dX5_layOutRow_96 (by decide) ?_
            refine lv_goto (tgt := 101) hx hb dX5_layOutRow_97 (by decide) ?_
            refine lv_istore (lv' := [(7, .int 1), (6, .int w150), (4, .long w14), (3, .int r1), (0, .ref (ad 0)), (1, .int p1), (2, .int p2)]) hx hb dX5_layOutRow_101 hl (by decide) rfl (fun ls hl => ?_)
            refine lv_aload_n hx hb dX5_layOutRow_103 rfl (lv_at hl 4 rfl) ?_
            refine va_get (D := (dC, dI)) (ci := 5) (v := .ref (ad 11)) (C := RX5) (T := TX5) (N := 11) hx hb hts (fun w h => gw_mem (inX5 w h)) hown hK.1 hP 0 rfl rfl 8 (by decide) (hts _ (gw_mem wfX5_44)) (fun _ h9 => h9) rfl dX5_layOutRow_104 ?_
            refine lv_iload_n hx hb dX5_layOutRow_107 rfl (lv_at hl 5 rfl) ?_
            refine lv_iload hx hb dX5_layOutRow_108 (lv_at hl 1 rfl) ?_
            refine lv_iconst (v := 2) hx hb dX5_layOutRow_110 (by decide) ?_
            refine lv_imul hx hb dX5_layOutRow_111 ?_
            refine lv_iload hx hb dX5_layOutRow_112 (lv_at hl 0 rfl) ?_
            refine lv_iadd hx hb dX5_layOutRow_114 ?_
            refine lv_bipush (v := 7) hx hb dX5_layOutRow_115 (by decide) ?_
            refine lv_iand hx hb dX5_layOutRow_117 ?_
            obtain ⟨h220, hf⟩ := og_some hf
            obtain ⟨w221, ew221⟩ : ∃ y : Nat → Int32, y = upd c_marks (Int32.toNatClampNeg p1) (((w150 * 2) + 1) &&& 7) := ⟨_, rfl⟩
            replace hf := nm_at hf ew221
            refine va_iast hx hb hK.1 hP hD hS 11 0 rfl rfl (okI_in h220) dX5_layOutRow_118 (fun H locs hP hD hS => ?_)
            have hP : va_P (dC, dI) vwCl (wX5 dA ad c_tree_parts c_bond_terms c_penceByUps w11 c_turned c_called c_hold c_value w221 c_act c_rowOfKey) H := by rw [ew221]; exact hP
            have hD : va_D A (wX5 dA ad c_tree_parts c_bond_terms c_penceByUps w11 c_turned c_called c_hold c_value w221 c_act c_rowOfKey) := by rw [ew221]; exact hD
            refine lv_aload_n hx hb dX5_layOutRow_119 rfl (lv_at hl 4 rfl) ?_
            refine va_get (D := (dC, dI)) (ci := 5) (v := .ref (ad 7)) (C := RX5) (T := TX5) (N := 11) hx hb hts (fun w h => gw_mem (inX5 w h)) hown hK.1 hP 0 rfl rfl 4 (by decide) (hts _ (gw_mem wfX5_32)) (fun _ h9 => h9) rfl dX5_layOutRow_120 ?_
            refine lv_iload_n hx hb dX5_layOutRow_123 rfl (lv_at hl 5 rfl) ?_
            refine lv_aload_n hx hb dX5_layOutRow_124 rfl (lv_at hl 4 rfl) ?_
            refine va_get (D := (dC, dI)) (ci := 5) (v := .ref (ad 3)) (C := RX5) (T := TX5) (N := 11) hx hb hts (fun w h => gw_mem (inX5 w h)) hown hK.1 hP 0 rfl rfl 1 (by decide) (hts _ (gw_mem wfX5_21)) (fun _ h9 => h9) rfl dX5_layOutRow_125 ?_
            refine lv_iload_n hx hb dX5_layOutRow_128 rfl (lv_at hl 6 rfl) ?_
            obtain ⟨r222, v223, hf⟩ := bd1_some hf
            have z224 : [3, 4].map (fun i => ((wX5 dA ad c_tree_parts c_bond_terms c_penceByUps w11 c_turned c_called c_hold c_value w221 c_act c_rowOfKey))[i]?) = ((wX0 dA (fun i => ad (i + 3)) c_bond_terms)).map some := rfl
            refine gpi [3, 4] [0, 1, 2, 5, 6, 7, 8, 9, 10, 11, 12, 13] [0, 1, 2, 12, 13, 3, 4, 5, 6, 7, 8, 9, 10, 11] (wf := (wX5 dA ad c_tree_parts c_bond_terms c_penceByUps w11 c_turned c_called c_hold c_value w221 c_act c_rowOfKey)) (va_runV (As := [.int p2]) (rest := [.int p1, .ref (ad 7)]) ⟨hx, hb, hml, hown, hts⟩ (tX0_mayTurnOn l dC dI dA (fun i => ad (i + 3)) H.size v223) (ccX5_X0_mayTurnOn hts ⟨Nat.le_of_ble_eq_true rfl, Nat.le_of_ble_eq_true rfl⟩) (gPreV (ci := 1) (q0 := 0) (gsub z224 hP) hK (gsubD z224 (by decide) hD) rfl rfl) rfl rfl hl.1 rfl (lv_room (Nat.le_of_ble_eq_true rfl)) dX5_layOutRow_129 ⟨Nat.le_of_ble_eq_true rfl, Nat.le_of_ble_eq_true rfl⟩) hP hD hS hA z224 rfl (by decide) (by decide) (by decide) rfl (fun H locs hP hD hS => ?_)
            refine lv_if_eq (tgt := 153) hx hb dX5_layOutRow_132 (by decide) (fun k225 => ?_) (fun k225 => ?_)
            · replace hf := ifp k225 hf
              refine lv_ldc2 (v := (-2)) hx hb hown (hts _ (gw_mem wkX5_75)) dX5_layOutRow_153 ?_
              obtain ⟨h226, hf⟩ := og_some hf
              obtain ⟨w227, ew227⟩ : ∃ y : Nat → Int64, y = vp_updL c_turned (Int32.toNatClampNeg p1) (-2) := ⟨_, rfl⟩
              replace hf := nm_at hf ew227
              refine va_last hx hb hK.1 hP hD hS 7 1 rfl rfl (okI_in h226) dX5_layOutRow_156 (fun H locs hP hD hS => ?_)
              have hP : va_P (dC, dI) vwCl (wX5 dA ad c_tree_parts c_bond_terms c_penceByUps w11 w227 c_called c_hold c_value w221 c_act c_rowOfKey) H := by rw [ew227]; exact hP
              have hD : va_D A (wX5 dA ad c_tree_parts c_bond_terms c_penceByUps w11 w227 c_called c_hold c_value w221 c_act c_rowOfKey) := by rw [ew227]; exact hD
              refine lv_aload_n hx hb dX5_layOutRow_157 rfl (lv_at hl 4 rfl) ?_
              refine va_get (D := (dC, dI)) (ci := 5) (v := .ref (ad 3)) (C := RX5) (T := TX5) (N := 11) hx hb hts (fun w h => gw_mem (inX5 w h)) hown hK.1 hP 0 rfl rfl 1 (by decide) (hts _ (gw_mem wfX5_21)) (fun _ h9 => h9) rfl dX5_layOutRow_158 ?_
              refine lv_iload_n hx hb dX5_layOutRow_161 rfl (lv_at hl 6 rfl) ?_
              obtain ⟨r228, v229, hf⟩ := bd1_some hf
              have z230 : [3, 4].map (fun i => ((wX5 dA ad c_tree_parts c_bond_terms c_penceByUps w11 w227 c_called c_hold c_value w221 c_act c_rowOfKey))[i]?) = ((wX0 dA (fun i => ad (i + 3)) c_bond_terms)).map some := rfl
              refine gpi [3, 4] [0, 1, 2, 5, 6, 7, 8, 9, 10, 11, 12, 13] [0, 1, 2, 12, 13, 3, 4, 5, 6, 7, 8, 9, 10, 11] (wf := (wX5 dA ad c_tree_parts c_bond_terms c_penceByUps w11 w227 c_called c_hold c_value w221 c_act c_rowOfKey)) (va_runV (As := [.int p2]) (rest := []) ⟨hx, hb, hml, hown, hts⟩ (tX0_callOn l dC dI dA (fun i => ad (i + 3)) H.size v229) (ccX5_X0_callOn hts ⟨Nat.le_of_ble_eq_true rfl, Nat.le_of_ble_eq_true rfl⟩) (gPreV (ci := 1) (q0 := 0) (gsub z230 hP) hK (gsubD z230 (by decide) hD) rfl rfl) rfl rfl hl.1 rfl (lv_room (Nat.le_of_ble_eq_true rfl)) dX5_layOutRow_162 ⟨Nat.le_of_ble_eq_true rfl, Nat.le_of_ble_eq_true rfl⟩) hP hD hS hA z230 rfl (by decide) (by decide) (by decide) rfl (fun H locs hP hD hS => ?_)
              refine lv_if_lt (tgt := 195) hx hb dX5_layOutRow_165 (by decide) (fun k231 => ?_) (fun k231 => ?_)
              · replace hf := ifp k231 hf
                refine lv_iconst (v := 0) hx hb dX5_layOutRow_195 (by decide) ?_
                refine lv_istore (lv' := [(8, .int 0), (7, .int 1), (6, .int w150), (4, .long w14), (3, .int r1), (0, .ref (ad 0)), (1, .int p1), (2, .int p2)]) hx hb dX5_layOutRow_196 hl (by decide) rfl (fun ls hl => ?_)
                refine lv_aload_n hx hb dX5_layOutRow_198 rfl (lv_at hl 5 rfl) ?_
                refine va_get (D := (dC, dI)) (ci := 5) (v := .ref (ad 8)) (C := RX5) (T := TX5) (N := 11) hx hb hts (fun w h => gw_mem (inX5 w h)) hown hK.1 hP 0 rfl rfl 5 (by decide) (hts _ (gw_mem wfX5_35)) (fun _ h9 => h9) rfl dX5_layOutRow_199 ?_
                refine lv_iload_n hx hb dX5_layOutRow_202 rfl (lv_at hl 6 rfl) ?_
                refine lv_iload hx hb dX5_layOutRow_203 (lv_at hl 0 rfl) ?_
                refine lv_if_eq (tgt := 229) hx hb dX5_layOutRow_205 (by decide) (fun k232 => ?_) (fun k232 => absurd k232 (by decide))
                refine lv_ldc2 (v := (-2)) hx hb hown (hts _ (gw_mem wkX5_75)) dX5_layOutRow_229 ?_
                obtain ⟨h233, hf⟩ := og_some hf
                obtain ⟨w234, ew234⟩ : ∃ y : Nat → Int64, y = vp_updL c_called (Int32.toNatClampNeg p1) (-2) := ⟨_, rfl⟩
                replace hf := nm_at hf ew234
                refine va_last hx hb hK.1 hP hD hS 8 1 rfl rfl (okI_in h233) dX5_layOutRow_232 (fun H locs hP hD hS => ?_)
                have hP : va_P (dC, dI) vwCl (wX5 dA ad c_tree_parts c_bond_terms c_penceByUps w11 w227 w234 c_hold c_value w221 c_act c_rowOfKey) H := by rw [ew234]; exact hP
                have hD : va_D A (wX5 dA ad c_tree_parts c_bond_terms c_penceByUps w11 w227 w234 c_hold c_value w221 c_act c_rowOfKey) := by rw [ew234]; exact hD
                cases hf
                exact W.vret hx hb hr (fun t ht _ => gqv hP hD hS ht) hS.2.2 dX5_layOutRow_233
              · replace hf := ifn k231 hf
                refine lv_aload_n hx hb dX5_layOutRow_168 rfl (lv_at hl 4 rfl) ?_
                refine va_get (D := (dC, dI)) (ci := 5) (v := .ref (ad 3)) (C := RX5) (T := TX5) (N := 11) hx hb hts (fun w h => gw_mem (inX5 w h)) hown hK.1 hP 0 rfl rfl 1 (by decide) (hts _ (gw_mem wfX5_21)) (fun _ h9 => h9) rfl dX5_layOutRow_169 ?_
                refine lv_aload_n hx hb dX5_layOutRow_172 rfl (lv_at hl 4 rfl) ?_
                refine va_get (D := (dC, dI)) (ci := 5) (v := .ref (ad 11)) (C := RX5) (T := TX5) (N := 11) hx hb hts (fun w h => gw_mem (inX5 w h)) hown hK.1 hP 0 rfl rfl 8 (by decide) (hts _ (gw_mem wfX5_44)) (fun _ h9 => h9) rfl dX5_layOutRow_173 ?_
                refine lv_iload_n hx hb dX5_layOutRow_176 rfl (lv_at hl 5 rfl) ?_
                obtain ⟨h235, hf⟩ := og_some hf
                refine va_iald hx hb hK.1 hP 11 0 rfl rfl (okI_in h235) dX5_layOutRow_177 ?_
                obtain ⟨r236, v237, hf⟩ := bd1_some hf
                have z238 : [3, 4].map (fun i => ((wX5 dA ad c_tree_parts c_bond_terms c_penceByUps w11 w227 c_called c_hold c_value w221 c_act c_rowOfKey))[i]?) = ((wX0 dA (fun i => ad (i + 3)) c_bond_terms)).map some := rfl
                refine gpi [3, 4] [0, 1, 2, 5, 6, 7, 8, 9, 10, 11, 12, 13] [0, 1, 2, 12, 13, 3, 4, 5, 6, 7, 8, 9, 10, 11] (wf := (wX5 dA ad c_tree_parts c_bond_terms c_penceByUps w11 w227 c_called c_hold c_value w221 c_act c_rowOfKey)) (va_runV (As := [.int (w221 (Int32.toNatClampNeg p1))]) (rest := []) ⟨hx, hb, hml, hown, hts⟩ (tX0_highDays l dC dI dA (fun i => ad (i + 3)) H.size v237) (ccX5_X0_highDays hts ⟨Nat.le_of_ble_eq_true rfl, Nat.le_of_ble_eq_true rfl⟩) (gPreV (ci := 1) (q0 := 0) (gsub z238 hP) hK (gsubD z238 (by decide) hD) rfl rfl) rfl rfl hl.1 rfl (lv_room (Nat.le_of_ble_eq_true rfl)) dX5_layOutRow_178 ⟨Nat.le_of_ble_eq_true rfl, Nat.le_of_ble_eq_true rfl⟩) hP hD hS hA z238 rfl (by decide) (by decide) (by decide) rfl (fun H locs hP hD hS => ?_)
                refine lv_aload_n hx hb dX5_layOutRow_181 rfl (lv_at hl 4 rfl) ?_
                refine va_get (D := (dC, dI)) (ci := 5) (v := .ref (ad 3)) (C := RX5) (T := TX5) (N := 11) hx hb hts (fun w h => gw_mem (inX5 w h)) hown hK.1 hP 0 rfl rfl 1 (by decide) (hts _ (gw_mem wfX5_21)) (fun _ h9 => h9) rfl dX5_layOutRow_182 ?_
                obtain ⟨r239, v240, hf⟩ := bd1_some hf
                have z241 : [3, 4].map (fun i => ((wX5 dA ad c_tree_parts c_bond_terms c_penceByUps w11 w227 c_called c_hold c_value w221 c_act c_rowOfKey))[i]?) = ((wX0 dA (fun i => ad (i + 3)) c_bond_terms)).map some := rfl
                refine gpi [3, 4] [0, 1, 2, 5, 6, 7, 8, 9, 10, 11, 12, 13] [0, 1, 2, 12, 13, 3, 4, 5, 6, 7, 8, 9, 10, 11] (wf := (wX5 dA ad c_tree_parts c_bond_terms c_penceByUps w11 w227 c_called c_hold c_value w221 c_act c_rowOfKey)) (va_runV (As := []) (rest := [.int r236]) ⟨hx, hb, hml, hown, hts⟩ (tX0_softLeast l dC dI dA (fun i => ad (i + 3)) H.size v240) (ccX5_X0_softLeast hts ⟨Nat.le_of_ble_eq_true rfl, Nat.le_of_ble_eq_true rfl⟩) (gPreV (ci := 1) (q0 := 0) (gsub z241 hP) hK (gsubD z241 (by decide) hD) rfl rfl) rfl rfl hl.1 rfl (lv_room (Nat.le_of_ble_eq_true rfl)) dX5_layOutRow_185 ⟨Nat.le_of_ble_eq_true rfl, Nat.le_of_ble_eq_true rfl⟩) hP hD hS hA z241 rfl (by decide) (by decide) (by decide) rfl (fun H locs hP hD hS => ?_)
                refine lv_icmp_lt (tgt := 195) hx hb dX5_layOutRow_188 (by decide) (fun k242 => ?_) (fun k242 => ?_)
                · replace hf := ifp k242 hf
                  refine lv_iconst (v := 0) hx hb dX5_layOutRow_195 (by decide) ?_
                  refine lv_istore (lv' := [(8, .int 0), (7, .int 1), (6, .int w150), (4, .long w14), (3, .int r1), (0, .ref (ad 0)), (1, .int p1), (2, .int p2)]) hx hb dX5_layOutRow_196 hl (by decide) rfl (fun ls hl => ?_)
                  refine lv_aload_n hx hb dX5_layOutRow_198 rfl (lv_at hl 5 rfl) ?_
                  refine va_get (D := (dC, dI)) (ci := 5) (v := .ref (ad 8)) (C := RX5) (T := TX5) (N := 11) hx hb hts (fun w h => gw_mem (inX5 w h)) hown hK.1 hP 0 rfl rfl 5 (by decide) (hts _ (gw_mem wfX5_35)) (fun _ h9 => h9) rfl dX5_layOutRow_199 ?_
                  refine lv_iload_n hx hb dX5_layOutRow_202 rfl (lv_at hl 6 rfl) ?_
                  refine lv_iload hx hb dX5_layOutRow_203 (lv_at hl 0 rfl) ?_
                  refine lv_if_eq (tgt := 229) hx hb dX5_layOutRow_205 (by decide) (fun k243 => ?_) (fun k243 => absurd k243 (by decide))
                  refine lv_ldc2 (v := (-2)) hx hb hown (hts _ (gw_mem wkX5_75)) dX5_layOutRow_229 ?_
                  obtain ⟨h244, hf⟩ := og_some hf
                  obtain ⟨w245, ew245⟩ : ∃ y : Nat → Int64, y = vp_updL c_called (Int32.toNatClampNeg p1) (-2) := ⟨_, rfl⟩
                  replace hf := nm_at hf ew245
                  refine va_last hx hb hK.1 hP hD hS 8 1 rfl rfl (okI_in h244) dX5_layOutRow_232 (fun H locs hP hD hS => ?_)
                  have hP : va_P (dC, dI) vwCl (wX5 dA ad c_tree_parts c_bond_terms c_penceByUps w11 w227 w245 c_hold c_value w221 c_act c_rowOfKey) H := by rw [ew245]; exact hP
                  have hD : va_D A (wX5 dA ad c_tree_parts c_bond_terms c_penceByUps w11 w227 w245 c_hold c_value w221 c_act c_rowOfKey) := by rw [ew245]; exact hD
                  cases hf
                  exact W.vret hx hb hr (fun t ht _ => gqv hP hD hS ht) hS.2.2 dX5_layOutRow_233
                · replace hf := ifn k242 hf
                  refine lv_iconst (v := 1) hx hb dX5_layOutRow_191 (by decide) ?_
                  refine lv_goto (tgt := 196) hx hb dX5_layOutRow_192 (by decide) ?_
                  refine lv_istore (lv' := [(8, .int 1), (7, .int 1), (6, .int w150), (4, .long w14), (3, .int r1), (0, .ref (ad 0)), (1, .int p1), (2, .int p2)]) hx hb dX5_layOutRow_196 hl (by decide) rfl (fun ls hl => ?_)
                  refine lv_aload_n hx hb dX5_layOutRow_198 rfl (lv_at hl 5 rfl) ?_
                  refine va_get (D := (dC, dI)) (ci := 5) (v := .ref (ad 8)) (C := RX5) (T := TX5) (N := 11) hx hb hts (fun w h => gw_mem (inX5 w h)) hown hK.1 hP 0 rfl rfl 5 (by decide) (hts _ (gw_mem wfX5_35)) (fun _ h9 => h9) rfl dX5_layOutRow_199 ?_
                  refine lv_iload_n hx hb dX5_layOutRow_202 rfl (lv_at hl 6 rfl) ?_
                  refine lv_iload hx hb dX5_layOutRow_203 (lv_at hl 0 rfl) ?_
                  refine lv_if_eq (tgt := 229) hx hb dX5_layOutRow_205 (by decide) (fun k246 => absurd k246 (by decide)) (fun k246 => ?_)
                  refine lv_aload_n hx hb dX5_layOutRow_208 rfl (lv_at hl 5 rfl) ?_
                  refine va_get (D := (dC, dI)) (ci := 5) (v := .ref (ad 3)) (C := RX5) (T := TX5) (N := 11) hx hb hts (fun w h => gw_mem (inX5 w h)) hown hK.1 hP 0 rfl rfl 1 (by decide) (hts _ (gw_mem wfX5_21)) (fun _ h9 => h9) rfl dX5_layOutRow_209 ?_
                  refine lv_iload_n hx hb dX5_layOutRow_212 rfl (lv_at hl 7 rfl) ?_
                  obtain ⟨r247, v248, hf⟩ := bd1_some hf
                  have z249 : [3, 4].map (fun i => ((wX5 dA ad c_tree_parts c_bond_terms c_penceByUps w11 w227 c_called c_hold c_value w221 c_act c_rowOfKey))[i]?) = ((wX0 dA (fun i => ad (i + 3)) c_bond_terms)).map some := rfl
                  refine gpi [3, 4] [0, 1, 2, 5, 6, 7, 8, 9, 10, 11, 12, 13] [0, 1, 2, 12, 13, 3, 4, 5, 6, 7, 8, 9, 10, 11] (wf := (wX5 dA ad c_tree_parts c_bond_terms c_penceByUps w11 w227 c_called c_hold c_value w221 c_act c_rowOfKey)) (va_runV (As := [.int p2]) (rest := [.int p1, .ref (ad 8)]) ⟨hx, hb, hml, hown, hts⟩ (tX0_callOn l dC dI dA (fun i => ad (i + 3)) H.size v248) (ccX5_X0_callOn hts ⟨Nat.le_of_ble_eq_true rfl, Nat.le_of_ble_eq_true rfl⟩) (gPreV (ci := 1) (q0 := 0) (gsub z249 hP) hK (gsubD z249 (by decide) hD) rfl rfl) rfl rfl hl.1 rfl (lv_room (Nat.le_of_ble_eq_true rfl)) dX5_layOutRow_213 ⟨Nat.le_of_ble_eq_true rfl, Nat.le_of_ble_eq_true rfl⟩) hP hD hS hA z249 rfl (by decide) (by decide) (by decide) rfl (fun H locs hP hD hS => ?_)
                  refine lv_i2l hx hb dX5_layOutRow_216 rfl ?_
                  refine lv_aload_n hx hb dX5_layOutRow_217 rfl (lv_at hl 5 rfl) ?_
                  refine va_get (D := (dC, dI)) (ci := 5) (v := .ref (ad 7)) (C := RX5) (T := TX5) (N := 11) hx hb hts (fun w h => gw_mem (inX5 w h)) hown hK.1 hP 0 rfl rfl 4 (by decide) (hts _ (gw_mem wfX5_32)) (fun _ h9 => h9) rfl dX5_layOutRow_218 ?_
                  refine lv_iload_n hx hb dX5_layOutRow_221 rfl (lv_at hl 6 rfl) ?_
                  obtain ⟨h250, hf⟩ := og_some hf
                  refine va_lald hx hb hK.1 hP 7 1 rfl rfl (okI_in h250) dX5_layOutRow_222 ?_
                  refine va_mmax_long hx hb (hml.trans hl.1.symm) hown (hts _ (gw_mem wmX5_134)) (hts _ (gw_mem wtJ9_max_f86c9)) (hts _ (gw_mem wnJ9)) (hts _ (gw_mem wcJ9_max_f86c9)) (Nat.le_of_ble_eq_true rfl) (Nat.le_of_ble_eq_true rfl) (Nat.le_of_ble_eq_true rfl) (Nat.le_of_ble_eq_true rfl) dX5_layOutRow_223 ?_
                  refine lv_goto (tgt := 232) hx hb dX5_layOutRow_226 (by decide) ?_
                  obtain ⟨h251, hf⟩ := og_some hf
                  obtain ⟨w252, ew252⟩ : ∃ y : Nat → Int64, y = vp_updL c_called (Int32.toNatClampNeg p1) (if (w227 (Int32.toNatClampNeg p1)) < (Int32.toInt64 r247) then (Int32.toInt64 r247) else (w227 (Int32.toNatClampNeg p1))) := ⟨_, rfl⟩
                  replace hf := nm_at hf ew252
                  refine va_last hx hb hK.1 hP hD hS 8 1 rfl rfl (okI_in h251) dX5_layOutRow_232 (fun H locs hP hD hS => ?_)
                  have hP : va_P (dC, dI) vwCl (wX5 dA ad c_tree_parts c_bond_terms c_penceByUps w11 w227 w252 c_hold c_value w221 c_act c_rowOfKey) H := by rw [ew252]; exact hP
                  have hD : va_D A (wX5 dA ad c_tree_parts c_bond_terms c_penceByUps w11 w227 w252 c_hold c_value w221 c_act c_rowOfKey) := by rw [ew252]; exact hD
                  cases hf
                  exact W.vret hx hb hr (fun t ht _ => gqv hP hD hS ht) hS.2.2 dX5_layOutRow_233
            · replace hf := ifn k225 hf
              refine lv_aload_n hx hb dX5_layOutRow_135 rfl (lv_at hl 4 rfl) ?_
              refine va_get (D := (dC, dI)) (ci := 5) (v := .ref (ad 3)) (C := RX5) (T := TX5) (N := 11) hx hb hts (fun w h => gw_mem (inX5 w h)) hown hK.1 hP 0 rfl rfl 1 (by decide) (hts _ (gw_mem wfX5_21)) (fun _ h9 => h9) rfl dX5_layOutRow_136 ?_
              refine lv_aload_n hx hb dX5_layOutRow_139 rfl (lv_at hl 4 rfl) ?_
              refine va_get (D := (dC, dI)) (ci := 5) (v := .ref (ad 6)) (C := RX5) (T := TX5) (N := 11) hx hb hts (fun w h => gw_mem (inX5 w h)) hown hK.1 hP 0 rfl rfl 3 (by decide) (hts _ (gw_mem wfX5_29)) (fun _ h9 => h9) rfl dX5_layOutRow_140 ?_
              refine lv_iload_n hx hb dX5_layOutRow_143 rfl (lv_at hl 5 rfl) ?_
              obtain ⟨h253, hf⟩ := og_some hf
              refine va_lald hx hb hK.1 hP 6 1 rfl rfl (okI_in h253) dX5_layOutRow_144 ?_
              refine lv_lload hx hb dX5_layOutRow_145 (lv_at hl 2 rfl) ?_
              obtain ⟨r254, v255, hf⟩ := bd1_some hf
              have z256 : [3, 4].map (fun i => ((wX5 dA ad c_tree_parts c_bond_terms c_penceByUps w11 c_turned c_called c_hold c_value w221 c_act c_rowOfKey))[i]?) = ((wX0 dA (fun i => ad (i + 3)) c_bond_terms)).map some := rfl
              refine gpl [3, 4] [0, 1, 2, 5, 6, 7, 8, 9, 10, 11, 12, 13] [0, 1, 2, 12, 13, 3, 4, 5, 6, 7, 8, 9, 10, 11] (wf := (wX5 dA ad c_tree_parts c_bond_terms c_penceByUps w11 c_turned c_called c_hold c_value w221 c_act c_rowOfKey)) (va_runV (As := [.long (w11 (Int32.toNatClampNeg p1)), .long w14]) (rest := [.int p1, .ref (ad 7)]) ⟨hx, hb, hml, hown, hts⟩ (tX0_turnedWorth l dC dI dA (fun i => ad (i + 3)) H.size v255) (ccX5_X0_turnedWorth hts ⟨Nat.le_of_ble_eq_true rfl, Nat.le_of_ble_eq_true rfl⟩) (gPreV (ci := 1) (q0 := 0) (gsub z256 hP) hK (gsubD z256 (by decide) hD) rfl rfl) rfl rfl hl.1 rfl (lv_room (Nat.le_of_ble_eq_true rfl)) dX5_layOutRow_147 ⟨Nat.le_of_ble_eq_true rfl, Nat.le_of_ble_eq_true rfl⟩) hP hD hS hA z256 rfl (by decide) (by decide) (by decide) rfl (fun H locs hP hD hS => ?_)
              refine lv_goto (tgt := 156) hx hb dX5_layOutRow_150 (by decide) ?_
              obtain ⟨h257, hf⟩ := og_some hf
              obtain ⟨w258, ew258⟩ : ∃ y : Nat → Int64, y = vp_updL c_turned (Int32.toNatClampNeg p1) r254 := ⟨_, rfl⟩
              replace hf := nm_at hf ew258
              refine va_last hx hb hK.1 hP hD hS 7 1 rfl rfl (okI_in h257) dX5_layOutRow_156 (fun H locs hP hD hS => ?_)
              have hP : va_P (dC, dI) vwCl (wX5 dA ad c_tree_parts c_bond_terms c_penceByUps w11 w258 c_called c_hold c_value w221 c_act c_rowOfKey) H := by rw [ew258]; exact hP
              have hD : va_D A (wX5 dA ad c_tree_parts c_bond_terms c_penceByUps w11 w258 c_called c_hold c_value w221 c_act c_rowOfKey) := by rw [ew258]; exact hD
              refine lv_aload_n hx hb dX5_layOutRow_157 rfl (lv_at hl 4 rfl) ?_
              refine va_get (D := (dC, dI)) (ci := 5) (v := .ref (ad 3)) (C := RX5) (T := TX5) (N := 11) hx hb hts (fun w h => gw_mem (inX5 w h)) hown hK.1 hP 0 rfl rfl 1 (by decide) (hts _ (gw_mem wfX5_21)) (fun _ h9 => h9) rfl dX5_layOutRow_158 ?_
              refine lv_iload_n hx hb dX5_layOutRow_161 rfl (lv_at hl 6 rfl) ?_
              obtain ⟨r259, v260, hf⟩ := bd1_some hf
              have z261 : [3, 4].map (fun i => ((wX5 dA ad c_tree_parts c_bond_terms c_penceByUps w11 w258 c_called c_hold c_value w221 c_act c_rowOfKey))[i]?) = ((wX0 dA (fun i => ad (i + 3)) c_bond_terms)).map some := rfl
              refine gpi [3, 4] [0, 1, 2, 5, 6, 7, 8, 9, 10, 11, 12, 13] [0, 1, 2, 12, 13, 3, 4, 5, 6, 7, 8, 9, 10, 11] (wf := (wX5 dA ad c_tree_parts c_bond_terms c_penceByUps w11 w258 c_called c_hold c_value w221 c_act c_rowOfKey)) (va_runV (As := [.int p2]) (rest := []) ⟨hx, hb, hml, hown, hts⟩ (tX0_callOn l dC dI dA (fun i => ad (i + 3)) H.size v260) (ccX5_X0_callOn hts ⟨Nat.le_of_ble_eq_true rfl, Nat.le_of_ble_eq_true rfl⟩) (gPreV (ci := 1) (q0 := 0) (gsub z261 hP) hK (gsubD z261 (by decide) hD) rfl rfl) rfl rfl hl.1 rfl (lv_room (Nat.le_of_ble_eq_true rfl)) dX5_layOutRow_162 ⟨Nat.le_of_ble_eq_true rfl, Nat.le_of_ble_eq_true rfl⟩) hP hD hS hA z261 rfl (by decide) (by decide) (by decide) rfl (fun H locs hP hD hS => ?_)
              refine lv_if_lt (tgt := 195) hx hb dX5_layOutRow_165 (by decide) (fun k262 => ?_) (fun k262 => ?_)
              · replace hf := ifp k262 hf
                refine lv_iconst (v := 0) hx hb dX5_layOutRow_195 (by decide) ?_
                refine lv_istore (lv' := [(8, .int 0), (7, .int 1), (6, .int w150), (4, .long w14), (3, .int r1), (0, .ref (ad 0)), (1, .int p1), (2, .int p2)]) hx hb dX5_layOutRow_196 hl (by decide) rfl (fun ls hl => ?_)
                refine lv_aload_n hx hb dX5_layOutRow_198 rfl (lv_at hl 5 rfl) ?_
                refine va_get (D := (dC, dI)) (ci := 5) (v := .ref (ad 8)) (C := RX5) (T := TX5) (N := 11) hx hb hts (fun w h => gw_mem (inX5 w h)) hown hK.1 hP 0 rfl rfl 5 (by decide) (hts _ (gw_mem wfX5_35)) (fun _ h9 => h9) rfl dX5_layOutRow_199 ?_
                refine lv_iload_n hx hb dX5_layOutRow_202 rfl (lv_at hl 6 rfl) ?_
                refine lv_iload hx hb dX5_layOutRow_203 (lv_at hl 0 rfl) ?_
                refine lv_if_eq (tgt := 229) hx hb dX5_layOutRow_205 (by decide) (fun k263 => ?_) (fun k263 => absurd k263 (by decide))
                refine lv_ldc2 (v := (-2)) hx hb hown (hts _ (gw_mem wkX5_75)) dX5_layOutRow_229 ?_
                obtain ⟨h264, hf⟩ := og_some hf
                obtain ⟨w265, ew265⟩ : ∃ y : Nat → Int64, y = vp_updL c_called (Int32.toNatClampNeg p1) (-2) := ⟨_, rfl⟩
                replace hf := nm_at hf ew265
                refine va_last hx hb hK.1 hP hD hS 8 1 rfl rfl (okI_in h264) dX5_layOutRow_232 (fun H locs hP hD hS => ?_)
                have hP : va_P (dC, dI) vwCl (wX5 dA ad c_tree_parts c_bond_terms c_penceByUps w11 w258 w265 c_hold c_value w221 c_act c_rowOfKey) H := by rw [ew265]; exact hP
                have hD : va_D A (wX5 dA ad c_tree_parts c_bond_terms c_penceByUps w11 w258 w265 c_hold c_value w221 c_act c_rowOfKey) := by rw [ew265]; exact hD
                cases hf
                exact W.vret hx hb hr (fun t ht _ => gqv hP hD hS ht) hS.2.2 dX5_layOutRow_233
              · replace hf := ifn k262 hf
                refine lv_aload_n hx hb dX5_layOutRow_168 rfl (lv_at hl 4 rfl) ?_
                refine va_get (D := (dC, dI)) (ci := 5) (v := .ref (ad 3)) (C := RX5) (T := TX5) (N := 11) hx hb hts (fun w h => gw_mem (inX5 w h)) hown hK.1 hP 0 rfl rfl 1 (by decide) (hts _ (gw_mem wfX5_21)) (fun _ h9 => h9) rfl dX5_layOutRow_169 ?_
                refine lv_aload_n hx hb dX5_layOutRow_172 rfl (lv_at hl 4 rfl) ?_
                refine va_get (D := (dC, dI)) (ci := 5) (v := .ref (ad 11)) (C := RX5) (T := TX5) (N := 11) hx hb hts (fun w h => gw_mem (inX5 w h)) hown hK.1 hP 0 rfl rfl 8 (by decide) (hts _ (gw_mem wfX5_44)) (fun _ h9 => h9) rfl dX5_layOutRow_173 ?_
                refine lv_iload_n hx hb dX5_layOutRow_176 rfl (lv_at hl 5 rfl) ?_
                obtain ⟨h266, hf⟩ := og_some hf
                refine va_iald hx hb hK.1 hP 11 0 rfl rfl (okI_in h266) dX5_layOutRow_177 ?_
                obtain ⟨r267, v268, hf⟩ := bd1_some hf
                have z269 : [3, 4].map (fun i => ((wX5 dA ad c_tree_parts c_bond_terms c_penceByUps w11 w258 c_called c_hold c_value w221 c_act c_rowOfKey))[i]?) = ((wX0 dA (fun i => ad (i + 3)) c_bond_terms)).map some := rfl
                refine gpi [3, 4] [0, 1, 2, 5, 6, 7, 8, 9, 10, 11, 12, 13] [0, 1, 2, 12, 13, 3, 4, 5, 6, 7, 8, 9, 10, 11] (wf := (wX5 dA ad c_tree_parts c_bond_terms c_penceByUps w11 w258 c_called c_hold c_value w221 c_act c_rowOfKey)) (va_runV (As := [.int (w221 (Int32.toNatClampNeg p1))]) (rest := []) ⟨hx, hb, hml, hown, hts⟩ (tX0_highDays l dC dI dA (fun i => ad (i + 3)) H.size v268) (ccX5_X0_highDays hts ⟨Nat.le_of_ble_eq_true rfl, Nat.le_of_ble_eq_true rfl⟩) (gPreV (ci := 1) (q0 := 0) (gsub z269 hP) hK (gsubD z269 (by decide) hD) rfl rfl) rfl rfl hl.1 rfl (lv_room (Nat.le_of_ble_eq_true rfl)) dX5_layOutRow_178 ⟨Nat.le_of_ble_eq_true rfl, Nat.le_of_ble_eq_true rfl⟩) hP hD hS hA z269 rfl (by decide) (by decide) (by decide) rfl (fun H locs hP hD hS => ?_)
                refine lv_aload_n hx hb dX5_layOutRow_181 rfl (lv_at hl 4 rfl) ?_
                refine va_get (D := (dC, dI)) (ci := 5) (v := .ref (ad 3)) (C := RX5) (T := TX5) (N := 11) hx hb hts (fun w h => gw_mem (inX5 w h)) hown hK.1 hP 0 rfl rfl 1 (by decide) (hts _ (gw_mem wfX5_21)) (fun _ h9 => h9) rfl dX5_layOutRow_182 ?_
                obtain ⟨r270, v271, hf⟩ := bd1_some hf
                have z272 : [3, 4].map (fun i => ((wX5 dA ad c_tree_parts c_bond_terms c_penceByUps w11 w258 c_called c_hold c_value w221 c_act c_rowOfKey))[i]?) = ((wX0 dA (fun i => ad (i + 3)) c_bond_terms)).map some := rfl
                refine gpi [3, 4] [0, 1, 2, 5, 6, 7, 8, 9, 10, 11, 12, 13] [0, 1, 2, 12, 13, 3, 4, 5, 6, 7, 8, 9, 10, 11] (wf := (wX5 dA ad c_tree_parts c_bond_terms c_penceByUps w11 w258 c_called c_hold c_value w221 c_act c_rowOfKey)) (va_runV (As := []) (rest := [.int r267]) ⟨hx, hb, hml, hown, hts⟩ (tX0_softLeast l dC dI dA (fun i => ad (i + 3)) H.size v271) (ccX5_X0_softLeast hts ⟨Nat.le_of_ble_eq_true rfl, Nat.le_of_ble_eq_true rfl⟩) (gPreV (ci := 1) (q0 := 0) (gsub z272 hP) hK (gsubD z272 (by decide) hD) rfl rfl) rfl rfl hl.1 rfl (lv_room (Nat.le_of_ble_eq_true rfl)) dX5_layOutRow_185 ⟨Nat.le_of_ble_eq_true rfl, Nat.le_of_ble_eq_true rfl⟩) hP hD hS hA z272 rfl (by decide) (by decide) (by decide) rfl (fun H locs hP hD hS => ?_)
                refine lv_icmp_lt (tgt := 195) hx hb dX5_layOutRow_188 (by decide) (fun k273 => ?_) (fun k273 => ?_)
                · replace hf := ifp k273 hf
                  refine lv_iconst (v := 0) hx hb dX5_layOutRow_195 (by decide) ?_
                  refine lv_istore (lv' := [(8, .int 0), (7, .int 1), (6, .int w150), (4, .long w14), (3, .int r1), (0, .ref (ad 0)), (1, .int p1), (2, .int p2)]) hx hb dX5_layOutRow_196 hl (by decide) rfl (fun ls hl => ?_)
                  refine lv_aload_n hx hb dX5_layOutRow_198 rfl (lv_at hl 5 rfl) ?_
                  refine va_get (D := (dC, dI)) (ci := 5) (v := .ref (ad 8)) (C := RX5) (T := TX5) (N := 11) hx hb hts (fun w h => gw_mem (inX5 w h)) hown hK.1 hP 0 rfl rfl 5 (by decide) (hts _ (gw_mem wfX5_35)) (fun _ h9 => h9) rfl dX5_layOutRow_199 ?_
                  refine lv_iload_n hx hb dX5_layOutRow_202 rfl (lv_at hl 6 rfl) ?_
                  refine lv_iload hx hb dX5_layOutRow_203 (lv_at hl 0 rfl) ?_
                  refine lv_if_eq (tgt := 229) hx hb dX5_layOutRow_205 (by decide) (fun k274 => ?_) (fun k274 => absurd k274 (by decide))
                  refine lv_ldc2 (v := (-2)) hx hb hown (hts _ (gw_mem wkX5_75)) dX5_layOutRow_229 ?_
                  obtain ⟨h275, hf⟩ := og_some hf
                  obtain ⟨w276, ew276⟩ : ∃ y : Nat → Int64, y = vp_updL c_called (Int32.toNatClampNeg p1) (-2) := ⟨_, rfl⟩
                  replace hf := nm_at hf ew276
                  refine va_last hx hb hK.1 hP hD hS 8 1 rfl rfl (okI_in h275) dX5_layOutRow_232 (fun H locs hP hD hS => ?_)
                  have hP : va_P (dC, dI) vwCl (wX5 dA ad c_tree_parts c_bond_terms c_penceByUps w11 w258 w276 c_hold c_value w221 c_act c_rowOfKey) H := by rw [ew276]; exact hP
                  have hD : va_D A (wX5 dA ad c_tree_parts c_bond_terms c_penceByUps w11 w258 w276 c_hold c_value w221 c_act c_rowOfKey) := by rw [ew276]; exact hD
                  cases hf
                  exact W.vret hx hb hr (fun t ht _ => gqv hP hD hS ht) hS.2.2 dX5_layOutRow_233
                · replace hf := ifn k273 hf
                  refine lv_iconst (v := 1) hx hb dX5_layOutRow_191 (by decide) ?_
                  refine lv_goto (tgt := 196) hx hb dX5_layOutRow_192 (by decide) ?_
                  refine lv_istore (lv' := [(8, .int 1), (7, .int 1), (6, .int w150), (4, .long w14), (3, .int r1), (0, .ref (ad 0)), (1, .int p1), (2, .int p2)]) hx hb dX5_layOutRow_196 hl (by decide) rfl (fun ls hl => ?_)
                  refine lv_aload_n hx hb dX5_layOutRow_198 rfl (lv_at hl 5 rfl) ?_
                  refine va_get (D := (dC, dI)) (ci := 5) (v := .ref (ad 8)) (C := RX5) (T := TX5) (N := 11) hx hb hts (fun w h => gw_mem (inX5 w h)) hown hK.1 hP 0 rfl rfl 5 (by decide) (hts _ (gw_mem wfX5_35)) (fun _ h9 => h9) rfl dX5_layOutRow_199 ?_
                  refine lv_iload_n hx hb dX5_layOutRow_202 rfl (lv_at hl 6 rfl) ?_
                  refine lv_iload hx hb dX5_layOutRow_203 (lv_at hl 0 rfl) ?_
                  refine lv_if_eq (tgt := 229) hx hb dX5_layOutRow_205 (by decide) (fun k277 => absurd k277 (by decide)) (fun k277 => ?_)
                  refine lv_aload_n hx hb dX5_layOutRow_208 rfl (lv_at hl 5 rfl) ?_
                  refine va_get (D := (dC, dI)) (ci := 5) (v := .ref (ad 3)) (C := RX5) (T := TX5) (N := 11) hx hb hts (fun w h => gw_mem (inX5 w h)) hown hK.1 hP 0 rfl rfl 1 (by decide) (hts _ (gw_mem wfX5_21)) (fun _ h9 => h9) rfl dX5_layOutRow_209 ?_
                  refine lv_iload_n hx hb dX5_layOutRow_212 rfl (lv_at hl 7 rfl) ?_
                  obtain ⟨r278, v279, hf⟩ := bd1_some hf
                  have z280 : [3, 4].map (fun i => ((wX5 dA ad c_tree_parts c_bond_terms c_penceByUps w11 w258 c_called c_hold c_value w221 c_act c_rowOfKey))[i]?) = ((wX0 dA (fun i => ad (i + 3)) c_bond_terms)).map some := rfl
                  refine gpi [3, 4] [0, 1, 2, 5, 6, 7, 8, 9, 10, 11, 12, 13] [0, 1, 2, 12, 13, 3, 4, 5, 6, 7, 8, 9, 10, 11] (wf := (wX5 dA ad c_tree_parts c_bond_terms c_penceByUps w11 w258 c_called c_hold c_value w221 c_act c_rowOfKey)) (va_runV (As := [.int p2]) (rest := [.int p1, .ref (ad 8)]) ⟨hx, hb, hml, hown, hts⟩ (tX0_callOn l dC dI dA (fun i => ad (i + 3)) H.size v279) (ccX5_X0_callOn hts ⟨Nat.le_of_ble_eq_true rfl, Nat.le_of_ble_eq_true rfl⟩) (gPreV (ci := 1) (q0 := 0) (gsub z280 hP) hK (gsubD z280 (by decide) hD) rfl rfl) rfl rfl hl.1 rfl (lv_room (Nat.le_of_ble_eq_true rfl)) dX5_layOutRow_213 ⟨Nat.le_of_ble_eq_true rfl, Nat.le_of_ble_eq_true rfl⟩) hP hD hS hA z280 rfl (by decide) (by decide) (by decide) rfl (fun H locs hP hD hS => ?_)
                  refine lv_i2l hx hb dX5_layOutRow_216 rfl ?_
                  refine lv_aload_n hx hb dX5_layOutRow_217 rfl (lv_at hl 5 rfl) ?_
                  refine va_get (D := (dC, dI)) (ci := 5) (v := .ref (ad 7)) (C := RX5) (T := TX5) (N := 11) hx hb hts (fun w h => gw_mem (inX5 w h)) hown hK.1 hP 0 rfl rfl 4 (by decide) (hts _ (gw_mem wfX5_32)) (fun _ h9 => h9) rfl dX5_layOutRow_218 ?_
                  refine lv_iload_n hx hb dX5_layOutRow_221 rfl (lv_at hl 6 rfl) ?_
                  obtain ⟨h281, hf⟩ := og_some hf
                  refine va_lald hx hb hK.1 hP 7 1 rfl rfl (okI_in h281) dX5_layOutRow_222 ?_
                  refine va_mmax_long hx hb (hml.trans hl.1.symm) hown (hts _ (gw_mem wmX5_134)) (hts _ (gw_mem wtJ9_max_f86c9)) (hts _ (gw_mem wnJ9)) (hts _ (gw_mem wcJ9_max_f86c9)) (Nat.le_of_ble_eq_true rfl) (Nat.le_of_ble_eq_true rfl) (Nat.le_of_ble_eq_true rfl) (Nat.le_of_ble_eq_true rfl) dX5_layOutRow_223 ?_
                  refine lv_goto (tgt := 232) hx hb dX5_layOutRow_226 (by decide) ?_
                  obtain ⟨h282, hf⟩ := og_some hf
                  obtain ⟨w283, ew283⟩ : ∃ y : Nat → Int64, y = vp_updL c_called (Int32.toNatClampNeg p1) (if (w258 (Int32.toNatClampNeg p1)) < (Int32.toInt64 r278) then (Int32.toInt64 r278) else (w258 (Int32.toNatClampNeg p1))) := ⟨_, rfl⟩
                  replace hf := nm_at hf ew283
                  refine va_last hx hb hK.1 hP hD hS 8 1 rfl rfl (okI_in h282) dX5_layOutRow_232 (fun H locs hP hD hS => ?_)
                  have hP : va_P (dC, dI) vwCl (wX5 dA ad c_tree_parts c_bond_terms c_penceByUps w11 w258 w283 c_hold c_value w221 c_act c_rowOfKey) H := by rw [ew283]; exact hP
                  have hD : va_D A (wX5 dA ad c_tree_parts c_bond_terms c_penceByUps w11 w258 w283 c_hold c_value w221 c_act c_rowOfKey) := by rw [ew283]; exact hD
                  cases hf
                  exact W.vret hx hb hr (fun t ht _ => gqv hP hD hS ht) hS.2.2 dX5_layOutRow_233
      · replace hf := ifn k12 hf
        refine lv_aload_n hx hb dX5_layOutRow_40 rfl (lv_at hl 1 rfl) ?_
        refine va_get (D := (dC, dI)) (ci := 5) (v := .ref (ad 6)) (C := RX5) (T := TX5) (N := 11) hx hb hts (fun w h => gw_mem (inX5 w h)) hown hK.1 hP 0 rfl rfl 3 (by decide) (hts _ (gw_mem wfX5_29)) (fun _ h9 => h9) rfl dX5_layOutRow_41 ?_
        refine lv_iload_n hx hb dX5_layOutRow_44 rfl (lv_at hl 2 rfl) ?_
        refine lv_iconst (v := 2) hx hb dX5_layOutRow_45 (by decide) ?_
        refine lv_idiv hx hb dX5_layOutRow_46 (by decide) ?_
        obtain ⟨h284, hf⟩ := og_some hf
        refine va_lald hx hb hK.1 hP 6 1 rfl rfl (okI_in h284) dX5_layOutRow_47 ?_
        refine lv_goto (tgt := 57) hx hb dX5_layOutRow_48 (by decide) ?_
        refine lv_topl (fun w285 ew285 => ?_)
        replace hf := nm_at hf ew285
        refine lv_lstore (lv' := [(4, .long w285), (3, .int r1), (0, .ref (ad 0)), (1, .int p1), (2, .int p2)]) hx hb dX5_layOutRow_57 hl (by decide) rfl (fun ls hl => ?_)
        refine lv_iload_n hx hb dX5_layOutRow_59 rfl (lv_at hl 3 rfl) ?_
        refine lv_iconst (v := 1) hx hb dX5_layOutRow_60 (by decide) ?_
        refine lv_icmp_le (tgt := 75) hx hb dX5_layOutRow_61 (by decide) (fun k286 => ?_) (fun k286 => ?_)
        · replace hf := ifp k286 hf
          refine lv_iconst (v := 0) hx hb dX5_layOutRow_75 (by decide) ?_
          refine lv_istore (lv' := [(6, .int 0), (4, .long w285), (3, .int r1), (0, .ref (ad 0)), (1, .int p1), (2, .int p2)]) hx hb dX5_layOutRow_76 hl (by decide) rfl (fun ls hl => ?_)
          refine lv_aload_n hx hb dX5_layOutRow_78 rfl (lv_at hl 3 rfl) ?_
          refine va_get (D := (dC, dI)) (ci := 5) (v := .ref (ad 6)) (C := RX5) (T := TX5) (N := 11) hx hb hts (fun w h => gw_mem (inX5 w h)) hown hK.1 hP 0 rfl rfl 3 (by decide) (hts _ (gw_mem wfX5_29)) (fun _ h9 => h9) rfl dX5_layOutRow_79 ?_
          refine lv_iload_n hx hb dX5_layOutRow_82 rfl (lv_at hl 4 rfl) ?_
          obtain ⟨h287, hf⟩ := og_some hf
          refine va_lald hx hb hK.1 hP 6 1 rfl rfl (okI_in h287) dX5_layOutRow_83 ?_
          refine lv_aload_n hx hb dX5_layOutRow_84 rfl (lv_at hl 3 rfl) ?_
          refine va_get (D := (dC, dI)) (ci := 5) (v := .ref (ad 3)) (C := RX5) (T := TX5) (N := 11) hx hb hts (fun w h => gw_mem (inX5 w h)) hown hK.1 hP 0 rfl rfl 1 (by decide) (hts _ (gw_mem wfX5_21)) (fun _ h9 => h9) rfl dX5_layOutRow_85 ?_
          obtain ⟨r288, v289, hf⟩ := bd1_some hf
          have z290 : [3, 4].map (fun i => ((wX5 dA ad c_tree_parts c_bond_terms c_penceByUps w11 c_turned c_called c_hold c_value c_marks c_act c_rowOfKey))[i]?) = ((wX0 dA (fun i => ad (i + 3)) c_bond_terms)).map some := rfl
          refine gpi [3, 4] [0, 1, 2, 5, 6, 7, 8, 9, 10, 11, 12, 13] [0, 1, 2, 12, 13, 3, 4, 5, 6, 7, 8, 9, 10, 11] (wf := (wX5 dA ad c_tree_parts c_bond_terms c_penceByUps w11 c_turned c_called c_hold c_value c_marks c_act c_rowOfKey)) (va_runV (As := []) (rest := [.long (w11 (Int32.toNatClampNeg p1))]) ⟨hx, hb, hml, hown, hts⟩ (tX0_softLevel l dC dI dA (fun i => ad (i + 3)) H.size v289) (ccX5_X0_softLevel hts ⟨Nat.le_of_ble_eq_true rfl, Nat.le_of_ble_eq_true rfl⟩) (gPreV (ci := 1) (q0 := 0) (gsub z290 hP) hK (gsubD z290 (by decide) hD) rfl rfl) rfl rfl hl.1 rfl (lv_room (Nat.le_of_ble_eq_true rfl)) dX5_layOutRow_88 ⟨Nat.le_of_ble_eq_true rfl, Nat.le_of_ble_eq_true rfl⟩) hP hD hS hA z290 rfl (by decide) (by decide) (by decide) rfl (fun H locs hP hD hS => ?_)
          refine lv_i2l hx hb dX5_layOutRow_91 rfl ?_
          refine W.lcmp hx hb dX5_layOutRow_92 ?_
          refine lv_if_lt (tgt := 100) hx hb dX5_layOutRow_93 (by decide) (fun k291 => ?_) (fun k291 => ?_)
          · replace hf := ifp (lc_lt.mp k291) hf
            refine lv_iconst (v := 0) hx hb dX5_layOutRow_100 (by decide) ?_
            refine lv_istore (lv' := [(7, .int 0), (6, .int 0), (4, .long w285), (3, .int r1), (0, .ref (ad 0)), (1, .int p1), (2, .int p2)]) hx hb dX5_layOutRow_101 hl (by decide) rfl (fun ls hl => ?_)
            refine lv_aload_n hx hb dX5_layOutRow_103 rfl (lv_at hl 4 rfl) ?_
            refine va_get (D := (dC, dI)) (ci := 5) (v := .ref (ad 11)) (C := RX5) (T := TX5) (N := 11) hx hb hts (fun w h => gw_mem (inX5 w h)) hown hK.1 hP 0 rfl rfl 8 (by decide) (hts _ (gw_mem wfX5_44)) (fun _ h9 => h9) rfl dX5_layOutRow_104 ?_
            refine lv_iload_n hx hb dX5_layOutRow_107 rfl (lv_at hl 5 rfl) ?_
            refine lv_iload hx hb dX5_layOutRow_108 (lv_at hl 1 rfl) ?_
            refine lv_iconst (v := 2) hx hb dX5_layOutRow_110 (by decide) ?_
            refine lv_imul hx hb dX5_layOutRow_111 ?_
            refine lv_iload hx hb dX5_layOutRow_112 (lv_at hl 0 rfl) ?_
            refine lv_iadd hx hb dX5_layOutRow_114 ?_
            refine lv_bipush (v := 7) hx hb dX5_layOutRow_115 (by decide) ?_
            refine lv_iand hx hb dX5_layOutRow_117 ?_
            obtain ⟨h292, hf⟩ := og_some hf
            obtain ⟨w293, ew293⟩ : ∃ y : Nat → Int32, y = upd c_marks (Int32.toNatClampNeg p1) (((0 * 2) + 0) &&& 7) := ⟨_, rfl⟩
            replace hf := nm_at hf ew293
            refine va_iast hx hb hK.1 hP hD hS 11 0 rfl rfl (okI_in h292) dX5_layOutRow_118 (fun H locs hP hD hS => ?_)
            have hP : va_P (dC, dI) vwCl (wX5 dA ad c_tree_parts c_bond_terms c_penceByUps w11 c_turned c_called c_hold c_value w293 c_act c_rowOfKey) H := by rw [ew293]; exact hP
            have hD : va_D A (wX5 dA ad c_tree_parts c_bond_terms c_penceByUps w11 c_turned c_called c_hold c_value w293 c_act c_rowOfKey) := by rw [ew293]; exact hD
            refine lv_aload_n hx hb dX5_layOutRow_119 rfl (lv_at hl 4 rfl) ?_
            refine va_get (D := (dC, dI)) (ci := 5) (v := .ref (ad 7)) (C := RX5) (T := TX5) (N := 11) hx hb hts (fun w h => gw_mem (inX5 w h)) hown hK.1 hP 0 rfl rfl 4 (by decide) (hts _ (gw_mem wfX5_32)) (fun _ h9 => h9) rfl dX5_layOutRow_120 ?_
            refine lv_iload_n hx hb dX5_layOutRow_123 rfl (lv_at hl 5 rfl) ?_
            refine lv_aload_n hx hb dX5_layOutRow_124 rfl (lv_at hl 4 rfl) ?_
            refine va_get (D := (dC, dI)) (ci := 5) (v := .ref (ad 3)) (C := RX5) (T := TX5) (N := 11) hx hb hts (fun w h => gw_mem (inX5 w h)) hown hK.1 hP 0 rfl rfl 1 (by decide) (hts _ (gw_mem wfX5_21)) (fun _ h9 => h9) rfl dX5_layOutRow_125 ?_
            refine lv_iload_n hx hb dX5_layOutRow_128 rfl (lv_at hl 6 rfl) ?_
            obtain ⟨r294, v295, hf⟩ := bd1_some hf
            have z296 : [3, 4].map (fun i => ((wX5 dA ad c_tree_parts c_bond_terms c_penceByUps w11 c_turned c_called c_hold c_value w293 c_act c_rowOfKey))[i]?) = ((wX0 dA (fun i => ad (i + 3)) c_bond_terms)).map some := rfl
            refine gpi [3, 4] [0, 1, 2, 5, 6, 7, 8, 9, 10, 11, 12, 13] [0, 1, 2, 12, 13, 3, 4, 5, 6, 7, 8, 9, 10, 11] (wf := (wX5 dA ad c_tree_parts c_bond_terms c_penceByUps w11 c_turned c_called c_hold c_value w293 c_act c_rowOfKey)) (va_runV (As := [.int p2]) (rest := [.int p1, .ref (ad 7)]) ⟨hx, hb, hml, hown, hts⟩ (tX0_mayTurnOn l dC dI dA (fun i => ad (i + 3)) H.size v295) (ccX5_X0_mayTurnOn hts ⟨Nat.le_of_ble_eq_true rfl, Nat.le_of_ble_eq_true rfl⟩) (gPreV (ci := 1) (q0 := 0) (gsub z296 hP) hK (gsubD z296 (by decide) hD) rfl rfl) rfl rfl hl.1 rfl (lv_room (Nat.le_of_ble_eq_true rfl)) dX5_layOutRow_129 ⟨Nat.le_of_ble_eq_true rfl, Nat.le_of_ble_eq_true rfl⟩) hP hD hS hA z296 rfl (by decide) (by decide) (by decide) rfl (fun H locs hP hD hS => ?_)
            refine lv_if_eq (tgt := 153) hx hb dX5_layOutRow_132 (by decide) (fun k297 => ?_) (fun k297 => ?_)
            · replace hf := ifp k297 hf
              refine lv_ldc2 (v := (-2)) hx hb hown (hts _ (gw_mem wkX5_75)) dX5_layOutRow_153 ?_
              obtain ⟨h298, hf⟩ := og_some hf
              obtain ⟨w299, ew299⟩ : ∃ y : Nat → Int64, y = vp_updL c_turned (Int32.toNatClampNeg p1) (-2) := ⟨_, rfl⟩
              replace hf := nm_at hf ew299
              refine va_last hx hb hK.1 hP hD hS 7 1 rfl rfl (okI_in h298) dX5_layOutRow_156 (fun H locs hP hD hS => ?_)
              have hP : va_P (dC, dI) vwCl (wX5 dA ad c_tree_parts c_bond_terms c_penceByUps w11 w299 c_called c_hold c_value w293 c_act c_rowOfKey) H := by rw [ew299]; exact hP
              have hD : va_D A (wX5 dA ad c_tree_parts c_bond_terms c_penceByUps w11 w299 c_called c_hold c_value w293 c_act c_rowOfKey) := by rw [ew299]; exact hD
              refine lv_aload_n hx hb dX5_layOutRow_157 rfl (lv_at hl 4 rfl) ?_
              refine va_get (D := (dC, dI)) (ci := 5) (v := .ref (ad 3)) (C := RX5) (T := TX5) (N := 11) hx hb hts (fun w h => gw_mem (inX5 w h)) hown hK.1 hP 0 rfl rfl 1 (by decide) (hts _ (gw_mem wfX5_21)) (fun _ h9 => h9) rfl dX5_layOutRow_158 ?_
              refine lv_iload_n hx hb dX5_layOutRow_161 rfl (lv_at hl 6 rfl) ?_
              obtain ⟨r300, v301, hf⟩ := bd1_some hf
              have z302 : [3, 4].map (fun i => ((wX5 dA ad c_tree_parts c_bond_terms c_penceByUps w11 w299 c_called c_hold c_value w293 c_act c_rowOfKey))[i]?) = ((wX0 dA (fun i => ad (i + 3)) c_bond_terms)).map some := rfl
              refine gpi [3, 4] [0, 1, 2, 5, 6, 7, 8, 9, 10, 11, 12, 13] [0, 1, 2, 12, 13, 3, 4, 5, 6, 7, 8, 9, 10, 11] (wf := (wX5 dA ad c_tree_parts c_bond_terms c_penceByUps w11 w299 c_called c_hold c_value w293 c_act c_rowOfKey)) (va_runV (As := [.int p2]) (rest := []) ⟨hx, hb, hml, hown, hts⟩ (tX0_callOn l dC dI dA (fun i => ad (i + 3)) H.size v301) (ccX5_X0_callOn hts ⟨Nat.le_of_ble_eq_true rfl, Nat.le_of_ble_eq_true rfl⟩) (gPreV (ci := 1) (q0 := 0) (gsub z302 hP) hK (gsubD z302 (by decide) hD) rfl rfl) rfl rfl hl.1 rfl (lv_room (Nat.le_of_ble_eq_true rfl)) dX5_layOutRow_162 ⟨Nat.le_of_ble_eq_true rfl, Nat.le_of_ble_eq_true rfl⟩) hP hD hS hA z302 rfl (by decide) (by decide) (by decide) rfl (fun H locs hP hD hS => ?_)
              refine lv_if_lt (tgt := 195) hx hb dX5_layOutRow_165 (by decide) (fun k303 => ?_) (fun k303 => ?_)
              · replace hf := ifp k303 hf
                refine lv_iconst (v := 0) hx hb dX5_layOutRow_195 (by decide) ?_
                refine lv_istore (lv' := [(8, .int 0), (7, .int 0), (6, .int 0), (4, .long w285), (3, .int r1), (0, .ref (ad 0)), (1, .int p1), (2, .int p2)]) hx hb dX5_layOutRow_196 hl (by decide) rfl (fun ls hl => ?_)
                refine lv_aload_n hx hb dX5_layOutRow_198 rfl (lv_at hl 5 rfl) ?_
                refine va_get (D := (dC, dI)) (ci := 5) (v := .ref (ad 8)) (C := RX5) (T := TX5) (N := 11) hx hb hts (fun w h => gw_mem (inX5 w h)) hown hK.1 hP 0 rfl rfl 5 (by decide) (hts _ (gw_mem wfX5_35)) (fun _ h9 => h9) rfl dX5_layOutRow_199 ?_
                refine lv_iload_n hx hb dX5_layOutRow_202 rfl (lv_at hl 6 rfl) ?_
                refine lv_iload hx hb dX5_layOutRow_203 (lv_at hl 0 rfl) ?_
                refine lv_if_eq (tgt := 229) hx hb dX5_layOutRow_205 (by decide) (fun k304 => ?_) (fun k304 => absurd k304 (by decide))
                refine lv_ldc2 (v := (-2)) hx hb hown (hts _ (gw_mem wkX5_75)) dX5_layOutRow_229 ?_
                obtain ⟨h305, hf⟩ := og_some hf
                obtain ⟨w306, ew306⟩ : ∃ y : Nat → Int64, y = vp_updL c_called (Int32.toNatClampNeg p1) (-2) := ⟨_, rfl⟩
                replace hf := nm_at hf ew306
                refine va_last hx hb hK.1 hP hD hS 8 1 rfl rfl (okI_in h305) dX5_layOutRow_232 (fun H locs hP hD hS => ?_)
                have hP : va_P (dC, dI) vwCl (wX5 dA ad c_tree_parts c_bond_terms c_penceByUps w11 w299 w306 c_hold c_value w293 c_act c_rowOfKey) H := by rw [ew306]; exact hP
                have hD : va_D A (wX5 dA ad c_tree_parts c_bond_terms c_penceByUps w11 w299 w306 c_hold c_value w293 c_act c_rowOfKey) := by rw [ew306]; exact hD
                cases hf
                exact W.vret hx hb hr (fun t ht _ => gqv hP hD hS ht) hS.2.2 dX5_layOutRow_233
              · replace hf := ifn k303 hf
                refine lv_aload_n hx hb dX5_layOutRow_168 rfl (lv_at hl 4 rfl) ?_
                refine va_get (D := (dC, dI)) (ci := 5) (v := .ref (ad 3)) (C := RX5) (T := TX5) (N := 11) hx hb hts (fun w h => gw_mem (inX5 w h)) hown hK.1 hP 0 rfl rfl 1 (by decide) (hts _ (gw_mem wfX5_21)) (fun _ h9 => h9) rfl dX5_layOutRow_169 ?_
                refine lv_aload_n hx hb dX5_layOutRow_172 rfl (lv_at hl 4 rfl) ?_
                refine va_get (D := (dC, dI)) (ci := 5) (v := .ref (ad 11)) (C := RX5) (T := TX5) (N := 11) hx hb hts (fun w h => gw_mem (inX5 w h)) hown hK.1 hP 0 rfl rfl 8 (by decide) (hts _ (gw_mem wfX5_44)) (fun _ h9 => h9) rfl dX5_layOutRow_173 ?_
                refine lv_iload_n hx hb dX5_layOutRow_176 rfl (lv_at hl 5 rfl) ?_
                obtain ⟨h307, hf⟩ := og_some hf
                refine va_iald hx hb hK.1 hP 11 0 rfl rfl (okI_in h307) dX5_layOutRow_177 ?_
                obtain ⟨r308, v309, hf⟩ := bd1_some hf
                have z310 : [3, 4].map (fun i => ((wX5 dA ad c_tree_parts c_bond_terms c_penceByUps w11 w299 c_called c_hold c_value w293 c_act c_rowOfKey))[i]?) = ((wX0 dA (fun i => ad (i + 3)) c_bond_terms)).map some := rfl
                refine gpi [3, 4] [0, 1, 2, 5, 6, 7, 8, 9, 10, 11, 12, 13] [0, 1, 2, 12, 13, 3, 4, 5, 6, 7, 8, 9, 10, 11] (wf := (wX5 dA ad c_tree_parts c_bond_terms c_penceByUps w11 w299 c_called c_hold c_value w293 c_act c_rowOfKey)) (va_runV (As := [.int (w293 (Int32.toNatClampNeg p1))]) (rest := []) ⟨hx, hb, hml, hown, hts⟩ (tX0_highDays l dC dI dA (fun i => ad (i + 3)) H.size v309) (ccX5_X0_highDays hts ⟨Nat.le_of_ble_eq_true rfl, Nat.le_of_ble_eq_true rfl⟩) (gPreV (ci := 1) (q0 := 0) (gsub z310 hP) hK (gsubD z310 (by decide) hD) rfl rfl) rfl rfl hl.1 rfl (lv_room (Nat.le_of_ble_eq_true rfl)) dX5_layOutRow_178 ⟨Nat.le_of_ble_eq_true rfl, Nat.le_of_ble_eq_true rfl⟩) hP hD hS hA z310 rfl (by decide) (by decide) (by decide) rfl (fun H locs hP hD hS => ?_)
                refine lv_aload_n hx hb dX5_layOutRow_181 rfl (lv_at hl 4 rfl) ?_
                refine va_get (D := (dC, dI)) (ci := 5) (v := .ref (ad 3)) (C := RX5) (T := TX5) (N := 11) hx hb hts (fun w h => gw_mem (inX5 w h)) hown hK.1 hP 0 rfl rfl 1 (by decide) (hts _ (gw_mem wfX5_21)) (fun _ h9 => h9) rfl dX5_layOutRow_182 ?_
                obtain ⟨r311, v312, hf⟩ := bd1_some hf
                have z313 : [3, 4].map (fun i => ((wX5 dA ad c_tree_parts c_bond_terms c_penceByUps w11 w299 c_called c_hold c_value w293 c_act c_rowOfKey))[i]?) = ((wX0 dA (fun i => ad (i + 3)) c_bond_terms)).map some := rfl
                refine gpi [3, 4] [0, 1, 2, 5, 6, 7, 8, 9, 10, 11, 12, 13] [0, 1, 2, 12, 13, 3, 4, 5, 6, 7, 8, 9, 10, 11] (wf := (wX5 dA ad c_tree_parts c_bond_terms c_penceByUps w11 w299 c_called c_hold c_value w293 c_act c_rowOfKey)) (va_runV (As := []) (rest := [.int r308]) ⟨hx, hb, hml, hown, hts⟩ (tX0_softLeast l dC dI dA (fun i => ad (i + 3)) H.size v312) (ccX5_X0_softLeast hts ⟨Nat.le_of_ble_eq_true rfl, Nat.le_of_ble_eq_true rfl⟩) (gPreV (ci := 1) (q0 := 0) (gsub z313 hP) hK (gsubD z313 (by decide) hD) rfl rfl) rfl rfl hl.1 rfl (lv_room (Nat.le_of_ble_eq_true rfl)) dX5_layOutRow_185 ⟨Nat.le_of_ble_eq_true rfl, Nat.le_of_ble_eq_true rfl⟩) hP hD hS hA z313 rfl (by decide) (by decide) (by decide) rfl (fun H locs hP hD hS => ?_)
                refine lv_icmp_lt (tgt := 195) hx hb dX5_layOutRow_188 (by decide) (fun k314 => ?_) (fun k314 => ?_)
                · replace hf := ifp k314 hf
                  refine lv_iconst (v := 0) hx hb dX5_layOutRow_195 (by decide) ?_
                  refine lv_istore (lv' := [(8, .int 0), (7, .int 0), (6, .int 0), (4, .long w285), (3, .int r1), (0, .ref (ad 0)), (1, .int p1), (2, .int p2)]) hx hb dX5_layOutRow_196 hl (by decide) rfl (fun ls hl => ?_)
                  refine lv_aload_n hx hb dX5_layOutRow_198 rfl (lv_at hl 5 rfl) ?_
                  refine va_get (D := (dC, dI)) (ci := 5) (v := .ref (ad 8)) (C := RX5) (T := TX5) (N := 11) hx hb hts (fun w h => gw_mem (inX5 w h)) hown hK.1 hP 0 rfl rfl 5 (by decide) (hts _ (gw_mem wfX5_35)) (fun _ h9 => h9) rfl dX5_layOutRow_199 ?_
                  refine lv_iload_n hx hb dX5_layOutRow_202 rfl (lv_at hl 6 rfl) ?_
                  refine lv_iload hx hb dX5_layOutRow_203 (lv_at hl 0 rfl) ?_
                  refine lv_if_eq (tgt := 229) hx hb dX5_layOutRow_205 (by decide) (fun k315 => ?_) (fun k315 => absurd k315 (by decide))
                  refine lv_ldc2 (v := (-2)) hx hb hown (hts _ (gw_mem wkX5_75)) dX5_layOutRow_229 ?_
                  obtain ⟨h316, hf⟩ := og_some hf
                  obtain ⟨w317, ew317⟩ : ∃ y : Nat → Int64, y = vp_updL c_called (Int32.toNatClampNeg p1) (-2) := ⟨_, rfl⟩
                  replace hf := nm_at hf ew317
                  refine va_last hx hb hK.1 hP hD hS 8 1 rfl rfl (okI_in h316) dX5_layOutRow_232 (fun H locs hP hD hS => ?_)
                  have hP : va_P (dC, dI) vwCl (wX5 dA ad c_tree_parts c_bond_terms c_penceByUps w11 w299 w317 c_hold c_value w293 c_act c_rowOfKey) H := by rw [ew317]; exact hP
                  have hD : va_D A (wX5 dA ad c_tree_parts c_bond_terms c_penceByUps w11 w299 w317 c_hold c_value w293 c_act c_rowOfKey) := by rw [ew317]; exact hD
                  cases hf
                  exact W.vret hx hb hr (fun t ht _ => gqv hP hD hS ht) hS.2.2 dX5_layOutRow_233
                · replace hf := ifn k314 hf
                  refine lv_iconst (v := 1) hx hb dX5_layOutRow_191 (by decide) ?_
                  refine lv_goto (tgt := 196) hx hb dX5_layOutRow_192 (by decide) ?_
                  refine lv_istore (lv' := [(8, .int 1), (7, .int 0), (6, .int 0), (4, .long w285), (3, .int r1), (0, .ref (ad 0)), (1, .int p1), (2, .int p2)]) hx hb dX5_layOutRow_196 hl (by decide) rfl (fun ls hl => ?_)
                  refine lv_aload_n hx hb dX5_layOutRow_198 rfl (lv_at hl 5 rfl) ?_
                  refine va_get (D := (dC, dI)) (ci := 5) (v := .ref (ad 8)) (C := RX5) (T := TX5) (N := 11) hx hb hts (fun w h => gw_mem (inX5 w h)) hown hK.1 hP 0 rfl rfl 5 (by decide) (hts _ (gw_mem wfX5_35)) (fun _ h9 => h9) rfl dX5_layOutRow_199 ?_
                  refine lv_iload_n hx hb dX5_layOutRow_202 rfl (lv_at hl 6 rfl) ?_
                  refine lv_iload hx hb dX5_layOutRow_203 (lv_at hl 0 rfl) ?_
                  refine lv_if_eq (tgt := 229) hx hb dX5_layOutRow_205 (by decide) (fun k318 => absurd k318 (by decide)) (fun k318 => ?_)
                  refine lv_aload_n hx hb dX5_layOutRow_208 rfl (lv_at hl 5 rfl) ?_
                  refine va_get (D := (dC, dI)) (ci := 5) (v := .ref (ad 3)) (C := RX5) (T := TX5) (N := 11) hx hb hts (fun w h => gw_mem (inX5 w h)) hown hK.1 hP 0 rfl rfl 1 (by decide) (hts _ (gw_mem wfX5_21)) (fun _ h9 => h9) rfl dX5_layOutRow_209 ?_
                  refine lv_iload_n hx hb dX5_layOutRow_212 rfl (lv_at hl 7 rfl) ?_
                  obtain ⟨r319, v320, hf⟩ := bd1_some hf
                  have z321 : [3, 4].map (fun i => ((wX5 dA ad c_tree_parts c_bond_terms c_penceByUps w11 w299 c_called c_hold c_value w293 c_act c_rowOfKey))[i]?) = ((wX0 dA (fun i => ad (i + 3)) c_bond_terms)).map some := rfl
                  refine gpi [3, 4] [0, 1, 2, 5, 6, 7, 8, 9, 10, 11, 12, 13] [0, 1, 2, 12, 13, 3, 4, 5, 6, 7, 8, 9, 10, 11] (wf := (wX5 dA ad c_tree_parts c_bond_terms c_penceByUps w11 w299 c_called c_hold c_value w293 c_act c_rowOfKey)) (va_runV (As := [.int p2]) (rest := [.int p1, .ref (ad 8)]) ⟨hx, hb, hml, hown, hts⟩ (tX0_callOn l dC dI dA (fun i => ad (i + 3)) H.size v320) (ccX5_X0_callOn hts ⟨Nat.le_of_ble_eq_true rfl, Nat.le_of_ble_eq_true rfl⟩) (gPreV (ci := 1) (q0 := 0) (gsub z321 hP) hK (gsubD z321 (by decide) hD) rfl rfl) rfl rfl hl.1 rfl (lv_room (Nat.le_of_ble_eq_true rfl)) dX5_layOutRow_213 ⟨Nat.le_of_ble_eq_true rfl, Nat.le_of_ble_eq_true rfl⟩) hP hD hS hA z321 rfl (by decide) (by decide) (by decide) rfl (fun H locs hP hD hS => ?_)
                  refine lv_i2l hx hb dX5_layOutRow_216 rfl ?_
                  refine lv_aload_n hx hb dX5_layOutRow_217 rfl (lv_at hl 5 rfl) ?_
                  refine va_get (D := (dC, dI)) (ci := 5) (v := .ref (ad 7)) (C := RX5) (T := TX5) (N := 11) hx hb hts (fun w h => gw_mem (inX5 w h)) hown hK.1 hP 0 rfl rfl 4 (by decide) (hts _ (gw_mem wfX5_32)) (fun _ h9 => h9) rfl dX5_layOutRow_218 ?_
                  refine lv_iload_n hx hb dX5_layOutRow_221 rfl (lv_at hl 6 rfl) ?_
                  obtain ⟨h322, hf⟩ := og_some hf
                  refine va_lald hx hb hK.1 hP 7 1 rfl rfl (okI_in h322) dX5_layOutRow_222 ?_
                  refine va_mmax_long hx hb (hml.trans hl.1.symm) hown (hts _ (gw_mem wmX5_134)) (hts _ (gw_mem wtJ9_max_f86c9)) (hts _ (gw_mem wnJ9)) (hts _ (gw_mem wcJ9_max_f86c9)) (Nat.le_of_ble_eq_true rfl) (Nat.le_of_ble_eq_true rfl) (Nat.le_of_ble_eq_true rfl) (Nat.le_of_ble_eq_true rfl) dX5_layOutRow_223 ?_
                  refine lv_goto (tgt := 232) hx hb dX5_layOutRow_226 (by decide) ?_
                  obtain ⟨h323, hf⟩ := og_some hf
                  obtain ⟨w324, ew324⟩ : ∃ y : Nat → Int64, y = vp_updL c_called (Int32.toNatClampNeg p1) (if (w299 (Int32.toNatClampNeg p1)) < (Int32.toInt64 r319) then (Int32.toInt64 r319) else (w299 (Int32.toNatClampNeg p1))) := ⟨_, rfl⟩
                  replace hf := nm_at hf ew324
                  refine va_last hx hb hK.1 hP hD hS 8 1 rfl rfl (okI_in h323) dX5_layOutRow_232 (fun H locs hP hD hS => ?_)
                  have hP : va_P (dC, dI) vwCl (wX5 dA ad c_tree_parts c_bond_terms c_penceByUps w11 w299 w324 c_hold c_value w293 c_act c_rowOfKey) H := by rw [ew324]; exact hP
                  have hD : va_D A (wX5 dA ad c_tree_parts c_bond_terms c_penceByUps w11 w299 w324 c_hold c_value w293 c_act c_rowOfKey) := by rw [ew324]; exact hD
                  cases hf
                  exact W.vret hx hb hr (fun t ht _ => gqv hP hD hS ht) hS.2.2 dX5_layOutRow_233
            · replace hf := ifn k297 hf
              refine lv_aload_n hx hb dX5_layOutRow_135 rfl (lv_at hl 4 rfl) ?_
              refine va_get (D := (dC, dI)) (ci := 5) (v := .ref (ad 3)) (C := RX5) (T := TX5) (N := 11) hx hb hts (fun w h => gw_mem (inX5 w h)) hown hK.1 hP 0 rfl rfl 1 (by decide) (hts _ (gw_mem wfX5_21)) (fun _ h9 => h9) rfl dX5_layOutRow_136 ?_
              refine lv_aload_n hx hb dX5_layOutRow_139 rfl (lv_at hl 4 rfl) ?_
              refine va_get (D := (dC, dI)) (ci := 5) (v := .ref (ad 6)) (C := RX5) (T := TX5) (N := 11) hx hb hts (fun w h => gw_mem (inX5 w h)) hown hK.1 hP 0 rfl rfl 3 (by decide) (hts _ (gw_mem wfX5_29)) (fun _ h9 => h9) rfl dX5_layOutRow_140 ?_
              refine lv_iload_n hx hb dX5_layOutRow_143 rfl (lv_at hl 5 rfl) ?_
              obtain ⟨h325, hf⟩ := og_some hf
              refine va_lald hx hb hK.1 hP 6 1 rfl rfl (okI_in h325) dX5_layOutRow_144 ?_
              refine lv_lload hx hb dX5_layOutRow_145 (lv_at hl 2 rfl) ?_
              obtain ⟨r326, v327, hf⟩ := bd1_some hf
              have z328 : [3, 4].map (fun i => ((wX5 dA ad c_tree_parts c_bond_terms c_penceByUps w11 c_turned c_called c_hold c_value w293 c_act c_rowOfKey))[i]?) = ((wX0 dA (fun i => ad (i + 3)) c_bond_terms)).map some := rfl
              refine gpl [3, 4] [0, 1, 2, 5, 6, 7, 8, 9, 10, 11, 12, 13] [0, 1, 2, 12, 13, 3, 4, 5, 6, 7, 8, 9, 10, 11] (wf := (wX5 dA ad c_tree_parts c_bond_terms c_penceByUps w11 c_turned c_called c_hold c_value w293 c_act c_rowOfKey)) (va_runV (As := [.long (w11 (Int32.toNatClampNeg p1)), .long w285]) (rest := [.int p1, .ref (ad 7)]) ⟨hx, hb, hml, hown, hts⟩ (tX0_turnedWorth l dC dI dA (fun i => ad (i + 3)) H.size v327) (ccX5_X0_turnedWorth hts ⟨Nat.le_of_ble_eq_true rfl, Nat.le_of_ble_eq_true rfl⟩) (gPreV (ci := 1) (q0 := 0) (gsub z328 hP) hK (gsubD z328 (by decide) hD) rfl rfl) rfl rfl hl.1 rfl (lv_room (Nat.le_of_ble_eq_true rfl)) dX5_layOutRow_147 ⟨Nat.le_of_ble_eq_true rfl, Nat.le_of_ble_eq_true rfl⟩) hP hD hS hA z328 rfl (by decide) (by decide) (by decide) rfl (fun H locs hP hD hS => ?_)
              refine lv_goto (tgt := 156) hx hb dX5_layOutRow_150 (by decide) ?_
              obtain ⟨h329, hf⟩ := og_some hf
              obtain ⟨w330, ew330⟩ : ∃ y : Nat → Int64, y = vp_updL c_turned (Int32.toNatClampNeg p1) r326 := ⟨_, rfl⟩
              replace hf := nm_at hf ew330
              refine va_last hx hb hK.1 hP hD hS 7 1 rfl rfl (okI_in h329) dX5_layOutRow_156 (fun H locs hP hD hS => ?_)
              have hP : va_P (dC, dI) vwCl (wX5 dA ad c_tree_parts c_bond_terms c_penceByUps w11 w330 c_called c_hold c_value w293 c_act c_rowOfKey) H := by rw [ew330]; exact hP
              have hD : va_D A (wX5 dA ad c_tree_parts c_bond_terms c_penceByUps w11 w330 c_called c_hold c_value w293 c_act c_rowOfKey) := by rw [ew330]; exact hD
              refine lv_aload_n hx hb dX5_layOutRow_157 rfl (lv_at hl 4 rfl) ?_
              refine va_get (D := (dC, dI)) (ci := 5) (v := .ref (ad 3)) (C := RX5) (T := TX5) (N := 11) hx hb hts (fun w h => gw_mem (inX5 w h)) hown hK.1 hP 0 rfl rfl 1 (by decide) (hts _ (gw_mem wfX5_21)) (fun _ h9 => h9) rfl dX5_layOutRow_158 ?_
              refine lv_iload_n hx hb dX5_layOutRow_161 rfl (lv_at hl 6 rfl) ?_
              obtain ⟨r331, v332, hf⟩ := bd1_some hf
              have z333 : [3, 4].map (fun i => ((wX5 dA ad c_tree_parts c_bond_terms c_penceByUps w11 w330 c_called c_hold c_value w293 c_act c_rowOfKey))[i]?) = ((wX0 dA (fun i => ad (i + 3)) c_bond_terms)).map some := rfl
              refine gpi [3, 4] [0, 1, 2, 5, 6, 7, 8, 9, 10, 11, 12, 13] [0, 1, 2, 12, 13, 3, 4, 5, 6, 7, 8, 9, 10, 11] (wf := (wX5 dA ad c_tree_parts c_bond_terms c_penceByUps w11 w330 c_called c_hold c_value w293 c_act c_rowOfKey)) (va_runV (As := [.int p2]) (rest := []) ⟨hx, hb, hml, hown, hts⟩ (tX0_callOn l dC dI dA (fun i => ad (i + 3)) H.size v332) (ccX5_X0_callOn hts ⟨Nat.le_of_ble_eq_true rfl, Nat.le_of_ble_eq_true rfl⟩) (gPreV (ci := 1) (q0 := 0) (gsub z333 hP) hK (gsubD z333 (by decide) hD) rfl rfl) rfl rfl hl.1 rfl (lv_room (Nat.le_of_ble_eq_true rfl)) dX5_layOutRow_162 ⟨Nat.le_of_ble_eq_true rfl, Nat.le_of_ble_eq_true rfl⟩) hP hD hS hA z333 rfl (by decide) (by decide) (by decide) rfl (fun H locs hP hD hS => ?_)
              refine lv_if_lt (tgt := 195) hx hb dX5_layOutRow_165 (by decide) (fun k334 => ?_) (fun k334 => ?_)
              · replace hf := ifp k334 hf
                refine lv_iconst (v := 0) hx hb dX5_layOutRow_195 (by decide) ?_
                refine lv_istore (lv' := [(8, .int 0), (7, .int 0), (6, .int 0), (4, .long w285), (3, .int r1), (0, .ref (ad 0)), (1, .int p1), (2, .int p2)]) hx hb dX5_layOutRow_196 hl (by decide) rfl (fun ls hl => ?_)
                refine lv_aload_n hx hb dX5_layOutRow_198 rfl (lv_at hl 5 rfl) ?_
                refine va_get (D := (dC, dI)) (ci := 5) (v := .ref (ad 8)) (C := RX5) (T := TX5) (N := 11) hx hb hts (fun w h => gw_mem (inX5 w h)) hown hK.1 hP 0 rfl rfl 5 (by decide) (hts _ (gw_mem wfX5_35)) (fun _ h9 => h9) rfl dX5_layOutRow_199 ?_
                refine lv_iload_n hx hb dX5_layOutRow_202 rfl (lv_at hl 6 rfl) ?_
                refine lv_iload hx hb dX5_layOutRow_203 (lv_at hl 0 rfl) ?_
                refine lv_if_eq (tgt := 229) hx hb dX5_layOutRow_205 (by decide) (fun k335 => ?_) (fun k335 => absurd k335 (by decide))
                refine lv_ldc2 (v := (-2)) hx hb hown (hts _ (gw_mem wkX5_75)) dX5_layOutRow_229 ?_
                obtain ⟨h336, hf⟩ := og_some hf
                obtain ⟨w337, ew337⟩ : ∃ y : Nat → Int64, y = vp_updL c_called (Int32.toNatClampNeg p1) (-2) := ⟨_, rfl⟩
                replace hf := nm_at hf ew337
                refine va_last hx hb hK.1 hP hD hS 8 1 rfl rfl (okI_in h336) dX5_layOutRow_232 (fun H locs hP hD hS => ?_)
                have hP : va_P (dC, dI) vwCl (wX5 dA ad c_tree_parts c_bond_terms c_penceByUps w11 w330 w337 c_hold c_value w293 c_act c_rowOfKey) H := by rw [ew337]; exact hP
                have hD : va_D A (wX5 dA ad c_tree_parts c_bond_terms c_penceByUps w11 w330 w337 c_hold c_value w293 c_act c_rowOfKey) := by rw [ew337]; exact hD
                cases hf
                exact W.vret hx hb hr (fun t ht _ => gqv hP hD hS ht) hS.2.2 dX5_layOutRow_233
              · replace hf := ifn k334 hf
                refine lv_aload_n hx hb dX5_layOutRow_168 rfl (lv_at hl 4 rfl) ?_
                refine va_get (D := (dC, dI)) (ci := 5) (v := .ref (ad 3)) (C := RX5) (T := TX5) (N := 11) hx hb hts (fun w h => gw_mem (inX5 w h)) hown hK.1 hP 0 rfl rfl 1 (by decide) (hts _ (gw_mem wfX5_21)) (fun _ h9 => h9) rfl dX5_layOutRow_169 ?_
                refine lv_aload_n hx hb dX5_layOutRow_172 rfl (lv_at hl 4 rfl) ?_
                refine va_get (D := (dC, dI)) (ci := 5) (v := .ref (ad 11)) (C := RX5) (T := TX5) (N := 11) hx hb hts (fun w h => gw_mem (inX5 w h)) hown hK.1 hP 0 rfl rfl 8 (by decide) (hts _ (gw_mem wfX5_44)) (fun _ h9 => h9) rfl dX5_layOutRow_173 ?_
                refine lv_iload_n hx hb dX5_layOutRow_176 rfl (lv_at hl 5 rfl) ?_
                obtain ⟨h338, hf⟩ := og_some hf
                refine va_iald hx hb hK.1 hP 11 0 rfl rfl (okI_in h338) dX5_layOutRow_177 ?_
                obtain ⟨r339, v340, hf⟩ := bd1_some hf
                have z341 : [3, 4].map (fun i => ((wX5 dA ad c_tree_parts c_bond_terms c_penceByUps w11 w330 c_called c_hold c_value w293 c_act c_rowOfKey))[i]?) = ((wX0 dA (fun i => ad (i + 3)) c_bond_terms)).map some := rfl
                refine gpi [3, 4] [0, 1, 2, 5, 6, 7, 8, 9, 10, 11, 12, 13] [0, 1, 2, 12, 13, 3, 4, 5, 6, 7, 8, 9, 10, 11] (wf := (wX5 dA ad c_tree_parts c_bond_terms c_penceByUps w11 w330 c_called c_hold c_value w293 c_act c_rowOfKey)) (va_runV (As := [.int (w293 (Int32.toNatClampNeg p1))]) (rest := []) ⟨hx, hb, hml, hown, hts⟩ (tX0_highDays l dC dI dA (fun i => ad (i + 3)) H.size v340) (ccX5_X0_highDays hts ⟨Nat.le_of_ble_eq_true rfl, Nat.le_of_ble_eq_true rfl⟩) (gPreV (ci := 1) (q0 := 0) (gsub z341 hP) hK (gsubD z341 (by decide) hD) rfl rfl) rfl rfl hl.1 rfl (lv_room (Nat.le_of_ble_eq_true rfl)) dX5_layOutRow_178 ⟨Nat.le_of_ble_eq_true rfl, Nat.le_of_ble_eq_true rfl⟩) hP hD hS hA z341 rfl (by decide) (by decide) (by decide) rfl (fun H locs hP hD hS => ?_)
                refine lv_aload_n hx hb dX5_layOutRow_181 rfl (lv_at hl 4 rfl) ?_
                refine va_get (D := (dC, dI)) (ci := 5) (v := .ref (ad 3)) (C := RX5) (T := TX5) (N := 11) hx hb hts (fun w h => gw_mem (inX5 w h)) hown hK.1 hP 0 rfl rfl 1 (by decide) (hts _ (gw_mem wfX5_21)) (fun _ h9 => h9) rfl dX5_layOutRow_182 ?_
                obtain ⟨r342, v343, hf⟩ := bd1_some hf
                have z344 : [3, 4].map (fun i => ((wX5 dA ad c_tree_parts c_bond_terms c_penceByUps w11 w330 c_called c_hold c_value w293 c_act c_rowOfKey))[i]?) = ((wX0 dA (fun i => ad (i + 3)) c_bond_terms)).map some := rfl
                refine gpi [3, 4] [0, 1, 2, 5, 6, 7, 8, 9, 10, 11, 12, 13] [0, 1, 2, 12, 13, 3, 4, 5, 6, 7, 8, 9, 10, 11] (wf := (wX5 dA ad c_tree_parts c_bond_terms c_penceByUps w11 w330 c_called c_hold c_value w293 c_act c_rowOfKey)) (va_runV (As := []) (rest := [.int r339]) ⟨hx, hb, hml, hown, hts⟩ (tX0_softLeast l dC dI dA (fun i => ad (i + 3)) H.size v343) (ccX5_X0_softLeast hts ⟨Nat.le_of_ble_eq_true rfl, Nat.le_of_ble_eq_true rfl⟩) (gPreV (ci := 1) (q0 := 0) (gsub z344 hP) hK (gsubD z344 (by decide) hD) rfl rfl) rfl rfl hl.1 rfl (lv_room (Nat.le_of_ble_eq_true rfl)) dX5_layOutRow_185 ⟨Nat.le_of_ble_eq_true rfl, Nat.le_of_ble_eq_true rfl⟩) hP hD hS hA z344 rfl (by decide) (by decide) (by decide) rfl (fun H locs hP hD hS => ?_)
                refine lv_icmp_lt (tgt := 195) hx hb dX5_layOutRow_188 (by decide) (fun k345 => ?_) (fun k345 => ?_)
                · replace hf := ifp k345 hf
                  refine lv_iconst (v := 0) hx hb dX5_layOutRow_195 (by decide) ?_
                  refine lv_istore (lv' := [(8, .int 0), (7, .int 0), (6, .int 0), (4, .long w285), (3, .int r1), (0, .ref (ad 0)), (1, .int p1), (2, .int p2)]) hx hb dX5_layOutRow_196 hl (by decide) rfl (fun ls hl => ?_)
                  refine lv_aload_n hx hb dX5_layOutRow_198 rfl (lv_at hl 5 rfl) ?_
                  refine va_get (D := (dC, dI)) (ci := 5) (v := .ref (ad 8)) (C := RX5) (T := TX5) (N := 11) hx hb hts (fun w h => gw_mem (inX5 w h)) hown hK.1 hP 0 rfl rfl 5 (by decide) (hts _ (gw_mem wfX5_35)) (fun _ h9 => h9) rfl dX5_layOutRow_199 ?_
                  refine lv_iload_n hx hb dX5_layOutRow_202 rfl (lv_at hl 6 rfl) ?_
                  refine lv_iload hx hb dX5_layOutRow_203 (lv_at hl 0 rfl) ?_
                  refine lv_if_eq (tgt := 229) hx hb dX5_layOutRow_205 (by decide) (fun k346 => ?_) (fun k346 => absurd k346 (by decide))
                  refine lv_ldc2 (v := (-2)) hx hb hown (hts _ (gw_mem wkX5_75)) dX5_layOutRow_229 ?_
                  obtain ⟨h347, hf⟩ := og_some hf
                  obtain ⟨w348, ew348⟩ : ∃ y : Nat → Int64, y = vp_updL c_called (Int32.toNatClampNeg p1) (-2) := ⟨_, rfl⟩
                  replace hf := nm_at hf ew348
                  refine va_last hx hb hK.1 hP hD hS 8 1 rfl rfl (okI_in h347) dX5_layOutRow_232 (fun H locs hP hD hS => ?_)
                  have hP : va_P (dC, dI) vwCl (wX5 dA ad c_tree_parts c_bond_terms c_penceByUps w11 w330 w348 c_hold c_value w293 c_act c_rowOfKey) H := by rw [ew348]; exact hP
                  have hD : va_D A (wX5 dA ad c_tree_parts c_bond_terms c_penceByUps w11 w330 w348 c_hold c_value w293 c_act c_rowOfKey) := by rw [ew348]; exact hD
                  cases hf
                  exact W.vret hx hb hr (fun t ht _ => gqv hP hD hS ht) hS.2.2 dX5_layOutRow_233
                · replace hf := ifn k345 hf
                  refine lv_iconst (v := 1) hx hb dX5_layOutRow_191 (by decide) ?_
                  refine lv_goto (tgt := 196) hx hb dX5_layOutRow_192 (by decide) ?_
                  refine lv_istore (lv' := [(8, .int 1), (7, .int 0), (6, .int 0), (4, .long w285), (3, .int r1), (0, .ref (ad 0)), (1, .int p1), (2, .int p2)]) hx hb dX5_layOutRow_196 hl (by decide) rfl (fun ls hl => ?_)
                  refine lv_aload_n hx hb dX5_layOutRow_198 rfl (lv_at hl 5 rfl) ?_
                  refine va_get (D := (dC, dI)) (ci := 5) (v := .ref (ad 8)) (C := RX5) (T := TX5) (N := 11) hx hb hts (fun w h => gw_mem (inX5 w h)) hown hK.1 hP 0 rfl rfl 5 (by decide) (hts _ (gw_mem wfX5_35)) (fun _ h9 => h9) rfl dX5_layOutRow_199 ?_
                  refine lv_iload_n hx hb dX5_layOutRow_202 rfl (lv_at hl 6 rfl) ?_
                  refine lv_iload hx hb dX5_layOutRow_203 (lv_at hl 0 rfl) ?_
                  refine lv_if_eq (tgt := 229) hx hb dX5_layOutRow_205 (by decide) (fun k349 => absurd k349 (by decide)) (fun k349 => ?_)
                  refine lv_aload_n hx hb dX5_layOutRow_208 rfl (lv_at hl 5 rfl) ?_
                  refine va_get (D := (dC, dI)) (ci := 5) (v := .ref (ad 3)) (C := RX5) (T := TX5) (N := 11) hx hb hts (fun w h => gw_mem (inX5 w h)) hown hK.1 hP 0 rfl rfl 1 (by decide) (hts _ (gw_mem wfX5_21)) (fun _ h9 => h9) rfl dX5_layOutRow_209 ?_
                  refine lv_iload_n hx hb dX5_layOutRow_212 rfl (lv_at hl 7 rfl) ?_
                  obtain ⟨r350, v351, hf⟩ := bd1_some hf
                  have z352 : [3, 4].map (fun i => ((wX5 dA ad c_tree_parts c_bond_terms c_penceByUps w11 w330 c_called c_hold c_value w293 c_act c_rowOfKey))[i]?) = ((wX0 dA (fun i => ad (i + 3)) c_bond_terms)).map some := rfl
                  refine gpi [3, 4] [0, 1, 2, 5, 6, 7, 8, 9, 10, 11, 12, 13] [0, 1, 2, 12, 13, 3, 4, 5, 6, 7, 8, 9, 10, 11] (wf := (wX5 dA ad c_tree_parts c_bond_terms c_penceByUps w11 w330 c_called c_hold c_value w293 c_act c_rowOfKey)) (va_runV (As := [.int p2]) (rest := [.int p1, .ref (ad 8)]) ⟨hx, hb, hml, hown, hts⟩ (tX0_callOn l dC dI dA (fun i => ad (i + 3)) H.size v351) (ccX5_X0_callOn hts ⟨Nat.le_of_ble_eq_true rfl, Nat.le_of_ble_eq_true rfl⟩) (gPreV (ci := 1) (q0 := 0) (gsub z352 hP) hK (gsubD z352 (by decide) hD) rfl rfl) rfl rfl hl.1 rfl (lv_room (Nat.le_of_ble_eq_true rfl)) dX5_layOutRow_213 ⟨Nat.le_of_ble_eq_true rfl, Nat.le_of_ble_eq_true rfl⟩) hP hD hS hA z352 rfl (by decide) (by decide) (by decide) rfl (fun H locs hP hD hS => ?_)
                  refine lv_i2l hx hb dX5_layOutRow_216 rfl ?_
                  refine lv_aload_n hx hb dX5_layOutRow_217 rfl (lv_at hl 5 rfl) ?_
                  refine va_get (D := (dC, dI)) (ci := 5) (v := .ref (ad 7)) (C := RX5) (T := TX5) (N := 11) hx hb hts (fun w h => gw_mem (inX5 w h)) hown hK.1 hP 0 rfl rfl 4 (by decide) (hts _ (gw_mem wfX5_32)) (fun _ h9 => h9) rfl dX5_layOutRow_218 ?_
                  refine lv_iload_n hx hb dX5_layOutRow_221 rfl (lv_at hl 6 rfl) ?_
                  obtain ⟨h353, hf⟩ := og_some hf
                  refine va_lald hx hb hK.1 hP 7 1 rfl rfl (okI_in h353) dX5_layOutRow_222 ?_
                  refine va_mmax_long hx hb (hml.trans hl.1.symm) hown (hts _ (gw_mem wmX5_134)) (hts _ (gw_mem wtJ9_max_f86c9)) (hts _ (gw_mem wnJ9)) (hts _ (gw_mem wcJ9_max_f86c9)) (Nat.le_of_ble_eq_true rfl) (Nat.le_of_ble_eq_true rfl) (Nat.le_of_ble_eq_true rfl) (Nat.le_of_ble_eq_true rfl) dX5_layOutRow_223 ?_
                  refine lv_goto (tgt := 232) hx hb dX5_layOutRow_226 (by decide) ?_
                  obtain ⟨h354, hf⟩ := og_some hf
                  obtain ⟨w355, ew355⟩ : ∃ y : Nat → Int64, y = vp_updL c_called (Int32.toNatClampNeg p1) (if (w330 (Int32.toNatClampNeg p1)) < (Int32.toInt64 r350) then (Int32.toInt64 r350) else (w330 (Int32.toNatClampNeg p1))) := ⟨_, rfl⟩
                  replace hf := nm_at hf ew355
                  refine va_last hx hb hK.1 hP hD hS 8 1 rfl rfl (okI_in h354) dX5_layOutRow_232 (fun H locs hP hD hS => ?_)
                  have hP : va_P (dC, dI) vwCl (wX5 dA ad c_tree_parts c_bond_terms c_penceByUps w11 w330 w355 c_hold c_value w293 c_act c_rowOfKey) H := by rw [ew355]; exact hP
                  have hD : va_D A (wX5 dA ad c_tree_parts c_bond_terms c_penceByUps w11 w330 w355 c_hold c_value w293 c_act c_rowOfKey) := by rw [ew355]; exact hD
                  cases hf
                  exact W.vret hx hb hr (fun t ht _ => gqv hP hD hS ht) hS.2.2 dX5_layOutRow_233
          · replace hf := ifn (fun h => k291 (lc_lt.mpr h)) hf
            refine lv_iconst (v := 1) hx hb dX5_layOutRow_96 (by decide) ?_
            refine lv_goto (tgt := 101) hx hb dX5_layOutRow_97 (by decide) ?_
            refine lv_istore (lv' := [(7, .int 1), (6, .int 0), (4, .long w285), (3, .int r1), (0, .ref (ad 0)), (1, .int p1), (2, .int p2)]) hx hb dX5_layOutRow_101 hl (by decide) rfl (fun ls hl => ?_)
            refine lv_aload_n hx hb dX5_layOutRow_103 rfl (lv_at hl 4 rfl) ?_
            refine va_get (D := (dC, dI)) (ci := 5) (v := .ref (ad 11)) (C := RX5) (T := TX5) (N := 11) hx hb hts (fun w h => gw_mem (inX5 w h)) hown hK.1 hP 0 rfl rfl 8 (by decide) (hts _ (gw_mem wfX5_44)) (fun _ h9 => h9) rfl dX5_layOutRow_104 ?_
            refine lv_iload_n hx hb dX5_layOutRow_107 rfl (lv_at hl 5 rfl) ?_
            refine lv_iload hx hb dX5_layOutRow_108 (lv_at hl 1 rfl) ?_
            refine lv_iconst (v := 2) hx hb dX5_layOutRow_110 (by decide) ?_
            refine lv_imul hx hb dX5_layOutRow_111 ?_
            refine lv_iload hx hb dX5_layOutRow_112 (lv_at hl 0 rfl) ?_
            refine lv_iadd hx hb dX5_layOutRow_114 ?_
            refine lv_bipush (v := 7) hx hb dX5_layOutRow_115 (by decide) ?_
            refine lv_iand hx hb dX5_layOutRow_117 ?_
            obtain ⟨h356, hf⟩ := og_some hf
            obtain ⟨w357, ew357⟩ : ∃ y : Nat → Int32, y = upd c_marks (Int32.toNatClampNeg p1) (((0 * 2) + 1) &&& 7) := ⟨_, rfl⟩
            replace hf := nm_at hf ew357
            refine va_iast hx hb hK.1 hP hD hS 11 0 rfl rfl (okI_in h356) dX5_layOutRow_118 (fun H locs hP hD hS => ?_)
            have hP : va_P (dC, dI) vwCl (wX5 dA ad c_tree_parts c_bond_terms c_penceByUps w11 c_turned c_called c_hold c_value w357 c_act c_rowOfKey) H := by rw [ew357]; exact hP
            have hD : va_D A (wX5 dA ad c_tree_parts c_bond_terms c_penceByUps w11 c_turned c_called c_hold c_value w357 c_act c_rowOfKey) := by rw [ew357]; exact hD
            refine lv_aload_n hx hb dX5_layOutRow_119 rfl (lv_at hl 4 rfl) ?_
            refine va_get (D := (dC, dI)) (ci := 5) (v := .ref (ad 7)) (C := RX5) (T := TX5) (N := 11) hx hb hts (fun w h => gw_mem (inX5 w h)) hown hK.1 hP 0 rfl rfl 4 (by decide) (hts _ (gw_mem wfX5_32)) (fun _ h9 => h9) rfl dX5_layOutRow_120 ?_
            refine lv_iload_n hx hb dX5_layOutRow_123 rfl (lv_at hl 5 rfl) ?_
            refine lv_aload_n hx hb dX5_layOutRow_124 rfl (lv_at hl 4 rfl) ?_
            refine va_get (D := (dC, dI)) (ci := 5) (v := .ref (ad 3)) (C := RX5) (T := TX5) (N := 11) hx hb hts (fun w h => gw_mem (inX5 w h)) hown hK.1 hP 0 rfl rfl 1 (by decide) (hts _ (gw_mem wfX5_21)) (fun _ h9 => h9) rfl dX5_layOutRow_125 ?_
            refine lv_iload_n hx hb dX5_layOutRow_128 rfl (lv_at hl 6 rfl) ?_
            obtain ⟨r358, v359, hf⟩ := bd1_some hf
            have z360 : [3, 4].map (fun i => ((wX5 dA ad c_tree_parts c_bond_terms c_penceByUps w11 c_turned c_called c_hold c_value w357 c_act c_rowOfKey))[i]?) = ((wX0 dA (fun i => ad (i + 3)) c_bond_terms)).map some := rfl
            refine gpi [3, 4] [0, 1, 2, 5, 6, 7, 8, 9, 10, 11, 12, 13] [0, 1, 2, 12, 13, 3, 4, 5, 6, 7, 8, 9, 10, 11] (wf := (wX5 dA ad c_tree_parts c_bond_terms c_penceByUps w11 c_turned c_called c_hold c_value w357 c_act c_rowOfKey)) (va_runV (As := [.int p2]) (rest := [.int p1, .ref (ad 7)]) ⟨hx, hb, hml, hown, hts⟩ (tX0_mayTurnOn l dC dI dA (fun i => ad (i + 3)) H.size v359) (ccX5_X0_mayTurnOn hts ⟨Nat.le_of_ble_eq_true rfl, Nat.le_of_ble_eq_true rfl⟩) (gPreV (ci := 1) (q0 := 0) (gsub z360 hP) hK (gsubD z360 (by decide) hD) rfl rfl) rfl rfl hl.1 rfl (lv_room (Nat.le_of_ble_eq_true rfl)) dX5_layOutRow_129 ⟨Nat.le_of_ble_eq_true rfl, Nat.le_of_ble_eq_true rfl⟩) hP hD hS hA z360 rfl (by decide) (by decide) (by decide) rfl (fun H locs hP hD hS => ?_)
            refine lv_if_eq (tgt := 153) hx hb dX5_layOutRow_132 (by decide) (fun k361 => ?_) (fun k361 => ?_)
            · replace hf := ifp k361 hf
              refine lv_ldc2 (v := (-2)) hx hb hown (hts _ (gw_mem wkX5_75)) dX5_layOutRow_153 ?_
              obtain ⟨h362, hf⟩ := og_some hf
              obtain ⟨w363, ew363⟩ : ∃ y : Nat → Int64, y = vp_updL c_turned (Int32.toNatClampNeg p1) (-2) := ⟨_, rfl⟩
              replace hf := nm_at hf ew363
              refine va_last hx hb hK.1 hP hD hS 7 1 rfl rfl (okI_in h362) dX5_layOutRow_156 (fun H locs hP hD hS => ?_)
              have hP : va_P (dC, dI) vwCl (wX5 dA ad c_tree_parts c_bond_terms c_penceByUps w11 w363 c_called c_hold c_value w357 c_act c_rowOfKey) H := by rw [ew363]; exact hP
              have hD : va_D A (wX5 dA ad c_tree_parts c_bond_terms c_penceByUps w11 w363 c_called c_hold c_value w357 c_act c_rowOfKey) := by rw [ew363]; exact hD
              refine lv_aload_n hx hb dX5_layOutRow_157 rfl (lv_at hl 4 rfl) ?_
              refine va_get (D := (dC, dI)) (ci := 5) (v := .ref (ad 3)) (C := RX5) (T := TX5) (N := 11) hx hb hts (fun w h => gw_mem (inX5 w h)) hown hK.1 hP 0 rfl rfl 1 (by decide) (hts _ (gw_mem wfX5_21)) (fun _ h9 => h9) rfl dX5_layOutRow_158 ?_
              refine lv_iload_n hx hb dX5_layOutRow_161 rfl (lv_at hl 6 rfl) ?_
              obtain ⟨r364, v365, hf⟩ := bd1_some hf
              have z366 : [3, 4].map (fun i => ((wX5 dA ad c_tree_parts c_bond_terms c_penceByUps w11 w363 c_called c_hold c_value w357 c_act c_rowOfKey))[i]?) = ((wX0 dA (fun i => ad (i + 3)) c_bond_terms)).map some := rfl
              refine gpi [3, 4] [0, 1, 2, 5, 6, 7, 8, 9, 10, 11, 12, 13] [0, 1, 2, 12, 13, 3, 4, 5, 6, 7, 8, 9, 10, 11] (wf := (wX5 dA ad c_tree_parts c_bond_terms c_penceByUps w11 w363 c_called c_hold c_value w357 c_act c_rowOfKey)) (va_runV (As := [.int p2]) (rest := []) ⟨hx, hb, hml, hown, hts⟩ (tX0_callOn l dC dI dA (fun i => ad (i + 3)) H.size v365) (ccX5_X0_callOn hts ⟨Nat.le_of_ble_eq_true rfl, Nat.le_of_ble_eq_true rfl⟩) (gPreV (ci := 1) (q0 := 0) (gsub z366 hP) hK (gsubD z366 (by decide) hD) rfl rfl) rfl rfl hl.1 rfl (lv_room (Nat.le_of_ble_eq_true rfl)) dX5_layOutRow_162 ⟨Nat.le_of_ble_eq_true rfl, Nat.le_of_ble_eq_true rfl⟩) hP hD hS hA z366 rfl (by decide) (by decide) (by decide) rfl (fun H locs hP hD hS => ?_)
              refine lv_if_lt (tgt := 195) hx hb dX5_layOutRow_165 (by decide) (fun k367 => ?_) (fun k367 => ?_)
              · replace hf := ifp k367 hf
                refine lv_iconst (v := 0) hx hb dX5_layOutRow_195 (by decide) ?_
                refine lv_istore (lv' := [(8, .int 0), (7, .int 1), (6, .int 0), (4, .long w285), (3, .int r1), (0, .ref (ad 0)), (1, .int p1), (2, .int p2)]) hx hb dX5_layOutRow_196 hl (by decide) rfl (fun ls hl => ?_)
                refine lv_aload_n hx hb dX5_layOutRow_198 rfl (lv_at hl 5 rfl) ?_
                refine va_get (D := (dC, dI)) (ci := 5) (v := .ref (ad 8)) (C := RX5) (T := TX5) (N := 11) hx hb hts (fun w h => gw_mem (inX5 w h)) hown hK.1 hP 0 rfl rfl 5 (by decide) (hts _ (gw_mem wfX5_35)) (fun _ h9 => h9) rfl dX5_layOutRow_199 ?_
                refine lv_iload_n hx hb dX5_layOutRow_202 rfl (lv_at hl 6 rfl) ?_
                refine lv_iload hx hb dX5_layOutRow_203 (lv_at hl 0 rfl) ?_
                refine lv_if_eq (tgt := 229) hx hb dX5_layOutRow_205 (by decide) (fun k368 => ?_) (fun k368 => absurd k368 (by decide))
                refine lv_ldc2 (v := (-2)) hx hb hown (hts _ (gw_mem wkX5_75)) dX5_layOutRow_229 ?_
                obtain ⟨h369, hf⟩ := og_some hf
                obtain ⟨w370, ew370⟩ : ∃ y : Nat → Int64, y = vp_updL c_called (Int32.toNatClampNeg p1) (-2) := ⟨_, rfl⟩
                replace hf := nm_at hf ew370
                refine va_last hx hb hK.1 hP hD hS 8 1 rfl rfl (okI_in h369) dX5_layOutRow_232 (fun H locs hP hD hS => ?_)
                have hP : va_P (dC, dI) vwCl (wX5 dA ad c_tree_parts c_bond_terms c_penceByUps w11 w363 w370 c_hold c_value w357 c_act c_rowOfKey) H := by rw [ew370]; exact hP
                have hD : va_D A (wX5 dA ad c_tree_parts c_bond_terms c_penceByUps w11 w363 w370 c_hold c_value w357 c_act c_rowOfKey) := by rw [ew370]; exact hD
                cases hf
                exact W.vret hx hb hr (fun t ht _ => gqv hP hD hS ht) hS.2.2 dX5_layOutRow_233
              · replace hf := ifn k367 hf
                refine lv_aload_n hx hb dX5_layOutRow_168 rfl (lv_at hl 4 rfl) ?_
                refine va_get (D := (dC, dI)) (ci := 5) (v := .ref (ad 3)) (C := RX5) (T := TX5) (N := 11) hx hb hts (fun w h => gw_mem (inX5 w h)) hown hK.1 hP 0 rfl rfl 1 (by decide) (hts _ (gw_mem wfX5_21)) (fun _ h9 => h9) rfl dX5_layOutRow_169 ?_
                refine lv_aload_n hx hb dX5_layOutRow_172 rfl (lv_at hl 4 rfl) ?_
                refine va_get (D := (dC, dI)) (ci := 5) (v := .ref (ad 11)) (C := RX5) (T := TX5) (N := 11) hx hb hts (fun w h => gw_mem (inX5 w h)) hown hK.1 hP 0 rfl rfl 8 (by decide) (hts _ (gw_mem wfX5_44)) (fun _ h9 => h9) rfl dX5_layOutRow_173 ?_
                refine lv_iload_n hx hb dX5_layOutRow_176 rfl (lv_at hl 5 rfl) ?_
                obtain ⟨h371, hf⟩ := og_some hf
                refine va_iald hx hb hK.1 hP 11 0 rfl rfl (okI_in h371) dX5_layOutRow_177 ?_
                obtain ⟨r372, v373, hf⟩ := bd1_some hf
                have z374 : [3, 4].map (fun i => ((wX5 dA ad c_tree_parts c_bond_terms c_penceByUps w11 w363 c_called c_hold c_value w357 c_act c_rowOfKey))[i]?) = ((wX0 dA (fun i => ad (i + 3)) c_bond_terms)).map some := rfl
                refine gpi [3, 4] [0, 1, 2, 5, 6, 7, 8, 9, 10, 11, 12, 13] [0, 1, 2, 12, 13, 3, 4, 5, 6, 7, 8, 9, 10, 11] (wf := (wX5 dA ad c_tree_parts c_bond_terms c_penceByUps w11 w363 c_called c_hold c_value w357 c_act c_rowOfKey)) (va_runV (As := [.int (w357 (Int32.toNatClampNeg p1))]) (rest := []) ⟨hx, hb, hml, hown, hts⟩ (tX0_highDays l dC dI dA (fun i => ad (i + 3)) H.size v373) (ccX5_X0_highDays hts ⟨Nat.le_of_ble_eq_true rfl, Nat.le_of_ble_eq_true rfl⟩) (gPreV (ci := 1) (q0 := 0) (gsub z374 hP) hK (gsubD z374 (by decide) hD) rfl rfl) rfl rfl hl.1 rfl (lv_room (Nat.le_of_ble_eq_true rfl)) dX5_layOutRow_178 ⟨Nat.le_of_ble_eq_true rfl, Nat.le_of_ble_eq_true rfl⟩) hP hD hS hA z374 rfl (by decide) (by decide) (by decide) rfl (fun H locs hP hD hS => ?_)
                refine lv_aload_n hx hb dX5_layOutRow_181 rfl (lv_at hl 4 rfl) ?_
                refine va_get (D := (dC, dI)) (ci := 5) (v := .ref (ad 3)) (C := RX5) (T := TX5) (N := 11) hx hb hts (fun w h => gw_mem (inX5 w h)) hown hK.1 hP 0 rfl rfl 1 (by decide) (hts _ (gw_mem wfX5_21)) (fun _ h9 => h9) rfl dX5_layOutRow_182 ?_
                obtain ⟨r375, v376, hf⟩ := bd1_some hf
                have z377 : [3, 4].map (fun i => ((wX5 dA ad c_tree_parts c_bond_terms c_penceByUps w11 w363 c_called c_hold c_value w357 c_act c_rowOfKey))[i]?) = ((wX0 dA (fun i => ad (i + 3)) c_bond_terms)).map some := rfl
                refine gpi [3, 4] [0, 1, 2, 5, 6, 7, 8, 9, 10, 11, 12, 13] [0, 1, 2, 12, 13, 3, 4, 5, 6, 7, 8, 9, 10, 11] (wf := (wX5 dA ad c_tree_parts c_bond_terms c_penceByUps w11 w363 c_called c_hold c_value w357 c_act c_rowOfKey)) (va_runV (As := []) (rest := [.int r372]) ⟨hx, hb, hml, hown, hts⟩ (tX0_softLeast l dC dI dA (fun i => ad (i + 3)) H.size v376) (ccX5_X0_softLeast hts ⟨Nat.le_of_ble_eq_true rfl, Nat.le_of_ble_eq_true rfl⟩) (gPreV (ci := 1) (q0 := 0) (gsub z377 hP) hK (gsubD z377 (by decide) hD) rfl rfl) rfl rfl hl.1 rfl (lv_room (Nat.le_of_ble_eq_true rfl)) dX5_layOutRow_185 ⟨Nat.le_of_ble_eq_true rfl, Nat.le_of_ble_eq_true rfl⟩) hP hD hS hA z377 rfl (by decide) (by decide) (by decide) rfl (fun H locs hP hD hS => ?_)
                refine lv_icmp_lt (tgt := 195) hx hb dX5_layOutRow_188 (by decide) (fun k378 => ?_) (fun k378 => ?_)
                · replace hf := ifp k378 hf
                  refine lv_iconst (v := 0) hx hb dX5_layOutRow_195 (by decide) ?_
                  refine lv_istore (lv' := [(8, .int 0), (7, .int 1), (6, .int 0), (4, .long w285), (3, .int r1), (0, .ref (ad 0)), (1, .int p1), (2, .int p2)]) hx hb dX5_layOutRow_196 hl (by decide) rfl (fun ls hl => ?_)
                  refine lv_aload_n hx hb dX5_layOutRow_198 rfl (lv_at hl 5 rfl) ?_
                  refine va_get (D := (dC, dI)) (ci := 5) (v := .ref (ad 8)) (C := RX5) (T := TX5) (N := 11) hx hb hts (fun w h => gw_mem (inX5 w h)) hown hK.1 hP 0 rfl rfl 5 (by decide) (hts _ (gw_mem wfX5_35)) (fun _ h9 => h9) rfl dX5_layOutRow_199 ?_
                  refine lv_iload_n hx hb dX5_layOutRow_202 rfl (lv_at hl 6 rfl) ?_
                  refine lv_iload hx hb dX5_layOutRow_203 (lv_at hl 0 rfl) ?_
                  refine lv_if_eq (tgt := 229) hx hb dX5_layOutRow_205 (by decide) (fun k379 => ?_) (fun k379 => absurd k379 (by decide))
                  refine lv_ldc2 (v := (-2)) hx hb hown (hts _ (gw_mem wkX5_75)) dX5_layOutRow_229 ?_
                  obtain ⟨h380, hf⟩ := og_some hf
                  obtain ⟨w381, ew381⟩ : ∃ y : Nat → Int64, y = vp_updL c_called (Int32.toNatClampNeg p1) (-2) := ⟨_, rfl⟩
                  replace hf := nm_at hf ew381
                  refine va_last hx hb hK.1 hP hD hS 8 1 rfl rfl (okI_in h380) dX5_layOutRow_232 (fun H locs hP hD hS => ?_)
                  have hP : va_P (dC, dI) vwCl (wX5 dA ad c_tree_parts c_bond_terms c_penceByUps w11 w363 w381 c_hold c_value w357 c_act c_rowOfKey) H := by rw [ew381]; exact hP
                  have hD : va_D A (wX5 dA ad c_tree_parts c_bond_terms c_penceByUps w11 w363 w381 c_hold c_value w357 c_act c_rowOfKey) := by rw [ew381]; exact hD
                  cases hf
                  exact W.vret hx hb hr (fun t ht _ => gqv hP hD hS ht) hS.2.2 dX5_layOutRow_233
                · replace hf := ifn k378 hf
                  refine lv_iconst (v := 1) hx hb dX5_layOutRow_191 (by decide) ?_
                  refine lv_goto (tgt := 196) hx hb dX5_layOutRow_192 (by decide) ?_
                  refine lv_istore (lv' := [(8, .int 1), (7, .int 1), (6, .int 0), (4, .long w285), (3, .int r1), (0, .ref (ad 0)), (1, .int p1), (2, .int p2)]) hx hb dX5_layOutRow_196 hl (by decide) rfl (fun ls hl => ?_)
                  refine lv_aload_n hx hb dX5_layOutRow_198 rfl (lv_at hl 5 rfl) ?_
                  refine va_get (D := (dC, dI)) (ci := 5) (v := .ref (ad 8)) (C := RX5) (T := TX5) (N := 11) hx hb hts (fun w h => gw_mem (inX5 w h)) hown hK.1 hP 0 rfl rfl 5 (by decide) (hts _ (gw_mem wfX5_35)) (fun _ h9 => h9) rfl dX5_layOutRow_199 ?_
                  refine lv_iload_n hx hb dX5_layOutRow_202 rfl (lv_at hl 6 rfl) ?_
                  refine lv_iload hx hb dX5_layOutRow_203 (lv_at hl 0 rfl) ?_
                  refine lv_if_eq (tgt := 229) hx hb dX5_layOutRow_205 (by decide) (fun k382 => absurd k382 (by decide)) (fun k382 => ?_)
                  refine lv_aload_n hx hb dX5_layOutRow_208 rfl (lv_at hl 5 rfl) ?_
                  refine va_get (D := (dC, dI)) (ci := 5) (v := .ref (ad 3)) (C := RX5) (T := TX5) (N := 11) hx hb hts (fun w h => gw_mem (inX5 w h)) hown hK.1 hP 0 rfl rfl 1 (by decide) (hts _ (gw_mem wfX5_21)) (fun _ h9 => h9) rfl dX5_layOutRow_209 ?_
                  refine lv_iload_n hx hb dX5_layOutRow_212 rfl (lv_at hl 7 rfl) ?_
                  obtain ⟨r383, v384, hf⟩ := bd1_some hf
                  have z385 : [3, 4].map (fun i => ((wX5 dA ad c_tree_parts c_bond_terms c_penceByUps w11 w363 c_called c_hold c_value w357 c_act c_rowOfKey))[i]?) = ((wX0 dA (fun i => ad (i + 3)) c_bond_terms)).map some := rfl
                  refine gpi [3, 4] [0, 1, 2, 5, 6, 7, 8, 9, 10, 11, 12, 13] [0, 1, 2, 12, 13, 3, 4, 5, 6, 7, 8, 9, 10, 11] (wf := (wX5 dA ad c_tree_parts c_bond_terms c_penceByUps w11 w363 c_called c_hold c_value w357 c_act c_rowOfKey)) (va_runV (As := [.int p2]) (rest := [.int p1, .ref (ad 8)]) ⟨hx, hb, hml, hown, hts⟩ (tX0_callOn l dC dI dA (fun i => ad (i + 3)) H.size v384) (ccX5_X0_callOn hts ⟨Nat.le_of_ble_eq_true rfl, Nat.le_of_ble_eq_true rfl⟩) (gPreV (ci := 1) (q0 := 0) (gsub z385 hP) hK (gsubD z385 (by decide) hD) rfl rfl) rfl rfl hl.1 rfl (lv_room (Nat.le_of_ble_eq_true rfl)) dX5_layOutRow_213 ⟨Nat.le_of_ble_eq_true rfl, Nat.le_of_ble_eq_true rfl⟩) hP hD hS hA z385 rfl (by decide) (by decide) (by decide) rfl (fun H locs hP hD hS => ?_)
                  refine lv_i2l hx hb dX5_layOutRow_216 rfl ?_
                  refine lv_aload_n hx hb dX5_layOutRow_217 rfl (lv_at hl 5 rfl) ?_
                  refine va_get (D := (dC, dI)) (ci := 5) (v := .ref (ad 7)) (C := RX5) (T := TX5) (N := 11) hx hb hts (fun w h => gw_mem (inX5 w h)) hown hK.1 hP 0 rfl rfl 4 (by decide) (hts _ (gw_mem wfX5_32)) (fun _ h9 => h9) rfl dX5_layOutRow_218 ?_
                  refine lv_iload_n hx hb dX5_layOutRow_221 rfl (lv_at hl 6 rfl) ?_
                  obtain ⟨h386, hf⟩ := og_some hf
                  refine va_lald hx hb hK.1 hP 7 1 rfl rfl (okI_in h386) dX5_layOutRow_222 ?_
                  refine va_mmax_long hx hb (hml.trans hl.1.symm) hown (hts _ (gw_mem wmX5_134)) (hts _ (gw_mem wtJ9_max_f86c9)) (hts _ (gw_mem wnJ9)) (hts _ (gw_mem wcJ9_max_f86c9)) (Nat.le_of_ble_eq_true rfl) (Nat.le_of_ble_eq_true rfl) (Nat.le_of_ble_eq_true rfl) (Nat.le_of_ble_eq_true rfl) dX5_layOutRow_223 ?_
                  refine lv_goto (tgt := 232) hx hb dX5_layOutRow_226 (by decide) ?_
                  obtain ⟨h387, hf⟩ := og_some hf
                  obtain ⟨w388, ew388⟩ : ∃ y : Nat → Int64, y = vp_updL c_called (Int32.toNatClampNeg p1) (if (w363 (Int32.toNatClampNeg p1)) < (Int32.toInt64 r383) then (Int32.toInt64 r383) else (w363 (Int32.toNatClampNeg p1))) := ⟨_, rfl⟩
                  replace hf := nm_at hf ew388
                  refine va_last hx hb hK.1 hP hD hS 8 1 rfl rfl (okI_in h387) dX5_layOutRow_232 (fun H locs hP hD hS => ?_)
                  have hP : va_P (dC, dI) vwCl (wX5 dA ad c_tree_parts c_bond_terms c_penceByUps w11 w363 w388 c_hold c_value w357 c_act c_rowOfKey) H := by rw [ew388]; exact hP
                  have hD : va_D A (wX5 dA ad c_tree_parts c_bond_terms c_penceByUps w11 w363 w388 c_hold c_value w357 c_act c_rowOfKey) := by rw [ew388]; exact hD
                  cases hf
                  exact W.vret hx hb hr (fun t ht _ => gqv hP hD hS ht) hS.2.2 dX5_layOutRow_233
            · replace hf := ifn k361 hf
              refine lv_aload_n hx hb dX5_layOutRow_135 rfl (lv_at hl 4 rfl) ?_
              refine va_get (D := (dC, dI)) (ci := 5) (v := .ref (ad 3)) (C := RX5) (T := TX5) (N := 11) hx hb hts (fun w h => gw_mem (inX5 w h)) hown hK.1 hP 0 rfl rfl 1 (by decide) (hts _ (gw_mem wfX5_21)) (fun _ h9 => h9) rfl dX5_layOutRow_136 ?_
              refine lv_aload_n hx hb dX5_layOutRow_139 rfl (lv_at hl 4 rfl) ?_
              refine va_get (D := (dC, dI)) (ci := 5) (v := .ref (ad 6)) (C := RX5) (T := TX5) (N := 11) hx hb hts (fun w h => gw_mem (inX5 w h)) hown hK.1 hP 0 rfl rfl 3 (by decide) (hts _ (gw_mem wfX5_29)) (fun _ h9 => h9) rfl dX5_layOutRow_140 ?_
              refine lv_iload_n hx hb dX5_layOutRow_143 rfl (lv_at hl 5 rfl) ?_
              obtain ⟨h389, hf⟩ := og_some hf
              refine va_lald hx hb hK.1 hP 6 1 rfl rfl (okI_in h389) dX5_layOutRow_144 ?_
              refine lv_lload hx hb dX5_layOutRow_145 (lv_at hl 2 rfl) ?_
              obtain ⟨r390, v391, hf⟩ := bd1_some hf
              have z392 : [3, 4].map (fun i => ((wX5 dA ad c_tree_parts c_bond_terms c_penceByUps w11 c_turned c_called c_hold c_value w357 c_act c_rowOfKey))[i]?) = ((wX0 dA (fun i => ad (i + 3)) c_bond_terms)).map some := rfl
              refine gpl [3, 4] [0, 1, 2, 5, 6, 7, 8, 9, 10, 11, 12, 13] [0, 1, 2, 12, 13, 3, 4, 5, 6, 7, 8, 9, 10, 11] (wf := (wX5 dA ad c_tree_parts c_bond_terms c_penceByUps w11 c_turned c_called c_hold c_value w357 c_act c_rowOfKey)) (va_runV (As := [.long (w11 (Int32.toNatClampNeg p1)), .long w285]) (rest := [.int p1, .ref (ad 7)]) ⟨hx, hb, hml, hown, hts⟩ (tX0_turnedWorth l dC dI dA (fun i => ad (i + 3)) H.size v391) (ccX5_X0_turnedWorth hts ⟨Nat.le_of_ble_eq_true rfl, Nat.le_of_ble_eq_true rfl⟩) (gPreV (ci := 1) (q0 := 0) (gsub z392 hP) hK (gsubD z392 (by decide) hD) rfl rfl) rfl rfl hl.1 rfl (lv_room (Nat.le_of_ble_eq_true rfl)) dX5_layOutRow_147 ⟨Nat.le_of_ble_eq_true rfl, Nat.le_of_ble_eq_true rfl⟩) hP hD hS hA z392 rfl (by decide) (by decide) (by decide) rfl (fun H locs hP hD hS => ?_)
              refine lv_goto (tgt := 156) hx hb dX5_layOutRow_150 (by decide) ?_
              obtain ⟨h393, hf⟩ := og_some hf
              obtain ⟨w394, ew394⟩ : ∃ y : Nat → Int64, y = vp_updL c_turned (Int32.toNatClampNeg p1) r390 := ⟨_, rfl⟩
              replace hf := nm_at hf ew394
              refine va_last hx hb hK.1 hP hD hS 7 1 rfl rfl (okI_in h393) dX5_layOutRow_156 (fun H locs hP hD hS => ?_)
              have hP : va_P (dC, dI) vwCl (wX5 dA ad c_tree_parts c_bond_terms c_penceByUps w11 w394 c_called c_hold c_value w357 c_act c_rowOfKey) H := by rw [ew394]; exact hP
              have hD : va_D A (wX5 dA ad c_tree_parts c_bond_terms c_penceByUps w11 w394 c_called c_hold c_value w357 c_act c_rowOfKey) := by rw [ew394]; exact hD
              refine lv_aload_n hx hb dX5_layOutRow_157 rfl (lv_at hl 4 rfl) ?_
              refine va_get (D := (dC, dI)) (ci := 5) (v := .ref (ad 3)) (C := RX5) (T := TX5) (N := 11) hx hb hts (fun w h => gw_mem (inX5 w h)) hown hK.1 hP 0 rfl rfl 1 (by decide) (hts _ (gw_mem wfX5_21)) (fun _ h9 => h9) rfl dX5_layOutRow_158 ?_
              refine lv_iload_n hx hb dX5_layOutRow_161 rfl (lv_at hl 6 rfl) ?_
              obtain ⟨r395, v396, hf⟩ := bd1_some hf
              have z397 : [3, 4].map (fun i => ((wX5 dA ad c_tree_parts c_bond_terms c_penceByUps w11 w394 c_called c_hold c_value w357 c_act c_rowOfKey))[i]?) = ((wX0 dA (fun i => ad (i + 3)) c_bond_terms)).map some := rfl
              refine gpi [3, 4] [0, 1, 2, 5, 6, 7, 8, 9, 10, 11, 12, 13] [0, 1, 2, 12, 13, 3, 4, 5, 6, 7, 8, 9, 10, 11] (wf := (wX5 dA ad c_tree_parts c_bond_terms c_penceByUps w11 w394 c_called c_hold c_value w357 c_act c_rowOfKey)) (va_runV (As := [.int p2]) (rest := []) ⟨hx, hb, hml, hown, hts⟩ (tX0_callOn l dC dI dA (fun i => ad (i + 3)) H.size v396) (ccX5_X0_callOn hts ⟨Nat.le_of_ble_eq_true rfl, Nat.le_of_ble_eq_true rfl⟩) (gPreV (ci := 1) (q0 := 0) (gsub z397 hP) hK (gsubD z397 (by decide) hD) rfl rfl) rfl rfl hl.1 rfl (lv_room (Nat.le_of_ble_eq_true rfl)) dX5_layOutRow_162 ⟨Nat.le_of_ble_eq_true rfl, Nat.le_of_ble_eq_true rfl⟩) hP hD hS hA z397 rfl (by decide) (by decide) (by decide) rfl (fun H locs hP hD hS => ?_)
              refine lv_if_lt (tgt := 195) hx hb dX5_layOutRow_165 (by decide) (fun k398 => ?_) (fun k398 => ?_)
              · replace hf := ifp k398 hf
                refine lv_iconst (v := 0) hx hb dX5_layOutRow_195 (by decide) ?_
                refine lv_istore (lv' := [(8, .int 0), (7, .int 1), (6, .int 0), (4, .long w285), (3, .int r1), (0, .ref (ad 0)), (1, .int p1), (2, .int p2)]) hx hb dX5_layOutRow_196 hl (by decide) rfl (fun ls hl => ?_)
                refine lv_aload_n hx hb dX5_layOutRow_198 rfl (lv_at hl 5 rfl) ?_
                refine va_get (D := (dC, dI)) (ci := 5) (v := .ref (ad 8)) (C := RX5) (T := TX5) (N := 11) hx hb hts (fun w h => gw_mem (inX5 w h)) hown hK.1 hP 0 rfl rfl 5 (by decide) (hts _ (gw_mem wfX5_35)) (fun _ h9 => h9) rfl dX5_layOutRow_199 ?_
                refine lv_iload_n hx hb dX5_layOutRow_202 rfl (lv_at hl 6 rfl) ?_
                refine lv_iload hx hb dX5_layOutRow_203 (lv_at hl 0 rfl) ?_
                refine lv_if_eq (tgt := 229) hx hb dX5_layOutRow_205 (by decide) (fun k399 => ?_) (fun k399 => absurd k399 (by decide))
                refine lv_ldc2 (v := (-2)) hx hb hown (hts _ (gw_mem wkX5_75)) dX5_layOutRow_229 ?_
                obtain ⟨h400, hf⟩ := og_some hf
                obtain ⟨w401, ew401⟩ : ∃ y : Nat → Int64, y = vp_updL c_called (Int32.toNatClampNeg p1) (-2) := ⟨_, rfl⟩
                replace hf := nm_at hf ew401
                refine va_last hx hb hK.1 hP hD hS 8 1 rfl rfl (okI_in h400) dX5_layOutRow_232 (fun H locs hP hD hS => ?_)
                have hP : va_P (dC, dI) vwCl (wX5 dA ad c_tree_parts c_bond_terms c_penceByUps w11 w394 w401 c_hold c_value w357 c_act c_rowOfKey) H := by rw [ew401]; exact hP
                have hD : va_D A (wX5 dA ad c_tree_parts c_bond_terms c_penceByUps w11 w394 w401 c_hold c_value w357 c_act c_rowOfKey) := by rw [ew401]; exact hD
                cases hf
                exact W.vret hx hb hr (fun t ht _ => gqv hP hD hS ht) hS.2.2 dX5_layOutRow_233
              · replace hf := ifn k398 hf
                refine lv_aload_n hx hb dX5_layOutRow_168 rfl (lv_at hl 4 rfl) ?_
                refine va_get (D := (dC, dI)) (ci := 5) (v := .ref (ad 3)) (C := RX5) (T := TX5) (N := 11) hx hb hts (fun w h => gw_mem (inX5 w h)) hown hK.1 hP 0 rfl rfl 1 (by decide) (hts _ (gw_mem wfX5_21)) (fun _ h9 => h9) rfl dX5_layOutRow_169 ?_
                refine lv_aload_n hx hb dX5_layOutRow_172 rfl (lv_at hl 4 rfl) ?_
                refine va_get (D := (dC, dI)) (ci := 5) (v := .ref (ad 11)) (C := RX5) (T := TX5) (N := 11) hx hb hts (fun w h => gw_mem (inX5 w h)) hown hK.1 hP 0 rfl rfl 8 (by decide) (hts _ (gw_mem wfX5_44)) (fun _ h9 => h9) rfl dX5_layOutRow_173 ?_
                refine lv_iload_n hx hb dX5_layOutRow_176 rfl (lv_at hl 5 rfl) ?_
                obtain ⟨h402, hf⟩ := og_some hf
                refine va_iald hx hb hK.1 hP 11 0 rfl rfl (okI_in h402) dX5_layOutRow_177 ?_
                obtain ⟨r403, v404, hf⟩ := bd1_some hf
                have z405 : [3, 4].map (fun i => ((wX5 dA ad c_tree_parts c_bond_terms c_penceByUps w11 w394 c_called c_hold c_value w357 c_act c_rowOfKey))[i]?) = ((wX0 dA (fun i => ad (i + 3)) c_bond_terms)).map some := rfl
                refine gpi [3, 4] [0, 1, 2, 5, 6, 7, 8, 9, 10, 11, 12, 13] [0, 1, 2, 12, 13, 3, 4, 5, 6, 7, 8, 9, 10, 11] (wf := (wX5 dA ad c_tree_parts c_bond_terms c_penceByUps w11 w394 c_called c_hold c_value w357 c_act c_rowOfKey)) (va_runV (As := [.int (w357 (Int32.toNatClampNeg p1))]) (rest := []) ⟨hx, hb, hml, hown, hts⟩ (tX0_highDays l dC dI dA (fun i => ad (i + 3)) H.size v404) (ccX5_X0_highDays hts ⟨Nat.le_of_ble_eq_true rfl, Nat.le_of_ble_eq_true rfl⟩) (gPreV (ci := 1) (q0 := 0) (gsub z405 hP) hK (gsubD z405 (by decide) hD) rfl rfl) rfl rfl hl.1 rfl (lv_room (Nat.le_of_ble_eq_true rfl)) dX5_layOutRow_178 ⟨Nat.le_of_ble_eq_true rfl, Nat.le_of_ble_eq_true rfl⟩) hP hD hS hA z405 rfl (by decide) (by decide) (by decide) rfl (fun H locs hP hD hS => ?_)
                refine lv_aload_n hx hb dX5_layOutRow_181 rfl (lv_at hl 4 rfl) ?_
                refine va_get (D := (dC, dI)) (ci := 5) (v := .ref (ad 3)) (C := RX5) (T := TX5) (N := 11) hx hb hts (fun w h => gw_mem (inX5 w h)) hown hK.1 hP 0 rfl rfl 1 (by decide) (hts _ (gw_mem wfX5_21)) (fun _ h9 => h9) rfl dX5_layOutRow_182 ?_
                obtain ⟨r406, v407, hf⟩ := bd1_some hf
                have z408 : [3, 4].map (fun i => ((wX5 dA ad c_tree_parts c_bond_terms c_penceByUps w11 w394 c_called c_hold c_value w357 c_act c_rowOfKey))[i]?) = ((wX0 dA (fun i => ad (i + 3)) c_bond_terms)).map some := rfl
                refine gpi [3, 4] [0, 1, 2, 5, 6, 7, 8, 9, 10, 11, 12, 13] [0, 1, 2, 12, 13, 3, 4, 5, 6, 7, 8, 9, 10, 11] (wf := (wX5 dA ad c_tree_parts c_bond_terms c_penceByUps w11 w394 c_called c_hold c_value w357 c_act c_rowOfKey)) (va_runV (As := []) (rest := [.int r403]) ⟨hx, hb, hml, hown, hts⟩ (tX0_softLeast l dC dI dA (fun i => ad (i + 3)) H.size v407) (ccX5_X0_softLeast hts ⟨Nat.le_of_ble_eq_true rfl, Nat.le_of_ble_eq_true rfl⟩) (gPreV (ci := 1) (q0 := 0) (gsub z408 hP) hK (gsubD z408 (by decide) hD) rfl rfl) rfl rfl hl.1 rfl (lv_room (Nat.le_of_ble_eq_true rfl)) dX5_layOutRow_185 ⟨Nat.le_of_ble_eq_true rfl, Nat.le_of_ble_eq_true rfl⟩) hP hD hS hA z408 rfl (by decide) (by decide) (by decide) rfl (fun H locs hP hD hS => ?_)
                refine lv_icmp_lt (tgt := 195) hx hb dX5_layOutRow_188 (by decide) (fun k409 => ?_) (fun k409 => ?_)
                · replace hf := ifp k409 hf
                  refine lv_iconst (v := 0) hx hb dX5_layOutRow_195 (by decide) ?_
                  refine lv_istore (lv' := [(8, .int 0), (7, .int 1), (6, .int 0), (4, .long w285), (3, .int r1), (0, .ref (ad 0)), (1, .int p1), (2, .int p2)]) hx hb dX5_layOutRow_196 hl (by decide) rfl (fun ls hl => ?_)
                  refine lv_aload_n hx hb dX5_layOutRow_198 rfl (lv_at hl 5 rfl) ?_
                  refine va_get (D := (dC, dI)) (ci := 5) (v := .ref (ad 8)) (C := RX5) (T := TX5) (N := 11) hx hb hts (fun w h => gw_mem (inX5 w h)) hown hK.1 hP 0 rfl rfl 5 (by decide) (hts _ (gw_mem wfX5_35)) (fun _ h9 => h9) rfl dX5_layOutRow_199 ?_
                  refine lv_iload_n hx hb dX5_layOutRow_202 rfl (lv_at hl 6 rfl) ?_
                  refine lv_iload hx hb dX5_layOutRow_203 (lv_at hl 0 rfl) ?_
                  refine lv_if_eq (tgt := 229) hx hb dX5_layOutRow_205 (by decide) (fun k410 => ?_) (fun k410 => absurd k410 (by decide))
                  refine lv_ldc2 (v := (-2)) hx hb hown (hts _ (gw_mem wkX5_75)) dX5_layOutRow_229 ?_
                  obtain ⟨h411, hf⟩ := og_some hf
                  obtain ⟨w412, ew412⟩ : ∃ y : Nat → Int64, y = vp_updL c_called (Int32.toNatClampNeg p1) (-2) := ⟨_, rfl⟩
                  replace hf := nm_at hf ew412
                  refine va_last hx hb hK.1 hP hD hS 8 1 rfl rfl (okI_in h411) dX5_layOutRow_232 (fun H locs hP hD hS => ?_)
                  have hP : va_P (dC, dI) vwCl (wX5 dA ad c_tree_parts c_bond_terms c_penceByUps w11 w394 w412 c_hold c_value w357 c_act c_rowOfKey) H := by rw [ew412]; exact hP
                  have hD : va_D A (wX5 dA ad c_tree_parts c_bond_terms c_penceByUps w11 w394 w412 c_hold c_value w357 c_act c_rowOfKey) := by rw [ew412]; exact hD
                  cases hf
                  exact W.vret hx hb hr (fun t ht _ => gqv hP hD hS ht) hS.2.2 dX5_layOutRow_233
                · replace hf := ifn k409 hf
                  refine lv_iconst (v := 1) hx hb dX5_layOutRow_191 (by decide) ?_
                  refine lv_goto (tgt := 196) hx hb dX5_layOutRow_192 (by decide) ?_
                  refine lv_istore (lv' := [(8, .int 1), (7, .int 1), (6, .int 0), (4, .long w285), (3, .int r1), (0, .ref (ad 0)), (1, .int p1), (2, .int p2)]) hx hb dX5_layOutRow_196 hl (by decide) rfl (fun ls hl => ?_)
                  refine lv_aload_n hx hb dX5_layOutRow_198 rfl (lv_at hl 5 rfl) ?_
                  refine va_get (D := (dC, dI)) (ci := 5) (v := .ref (ad 8)) (C := RX5) (T := TX5) (N := 11) hx hb hts (fun w h => gw_mem (inX5 w h)) hown hK.1 hP 0 rfl rfl 5 (by decide) (hts _ (gw_mem wfX5_35)) (fun _ h9 => h9) rfl dX5_layOutRow_199 ?_
                  refine lv_iload_n hx hb dX5_layOutRow_202 rfl (lv_at hl 6 rfl) ?_
                  refine lv_iload hx hb dX5_layOutRow_203 (lv_at hl 0 rfl) ?_
                  refine lv_if_eq (tgt := 229) hx hb dX5_layOutRow_205 (by decide) (fun k413 => absurd k413 (by decide)) (fun k413 => ?_)
                  refine lv_aload_n hx hb dX5_layOutRow_208 rfl (lv_at hl 5 rfl) ?_
                  refine va_get (D := (dC, dI)) (ci := 5) (v := .ref (ad 3)) (C := RX5) (T := TX5) (N := 11) hx hb hts (fun w h => gw_mem (inX5 w h)) hown hK.1 hP 0 rfl rfl 1 (by decide) (hts _ (gw_mem wfX5_21)) (fun _ h9 => h9) rfl dX5_layOutRow_209 ?_
                  refine lv_iload_n hx hb dX5_layOutRow_212 rfl (lv_at hl 7 rfl) ?_
                  obtain ⟨r414, v415, hf⟩ := bd1_some hf
                  have z416 : [3, 4].map (fun i => ((wX5 dA ad c_tree_parts c_bond_terms c_penceByUps w11 w394 c_called c_hold c_value w357 c_act c_rowOfKey))[i]?) = ((wX0 dA (fun i => ad (i + 3)) c_bond_terms)).map some := rfl
                  refine gpi [3, 4] [0, 1, 2, 5, 6, 7, 8, 9, 10, 11, 12, 13] [0, 1, 2, 12, 13, 3, 4, 5, 6, 7, 8, 9, 10, 11] (wf := (wX5 dA ad c_tree_parts c_bond_terms c_penceByUps w11 w394 c_called c_hold c_value w357 c_act c_rowOfKey)) (va_runV (As := [.int p2]) (rest := [.int p1, .ref (ad 8)]) ⟨hx, hb, hml, hown, hts⟩ (tX0_callOn l dC dI dA (fun i => ad (i + 3)) H.size v415) (ccX5_X0_callOn hts ⟨Nat.le_of_ble_eq_true rfl, Nat.le_of_ble_eq_true rfl⟩) (gPreV (ci := 1) (q0 := 0) (gsub z416 hP) hK (gsubD z416 (by decide) hD) rfl rfl) rfl rfl hl.1 rfl (lv_room (Nat.le_of_ble_eq_true rfl)) dX5_layOutRow_213 ⟨Nat.le_of_ble_eq_true rfl, Nat.le_of_ble_eq_true rfl⟩) hP hD hS hA z416 rfl (by decide) (by decide) (by decide) rfl (fun H locs hP hD hS => ?_)
                  refine lv_i2l hx hb dX5_layOutRow_216 rfl ?_
                  refine lv_aload_n hx hb dX5_layOutRow_217 rfl (lv_at hl 5 rfl) ?_
                  refine va_get (D := (dC, dI)) (ci := 5) (v := .ref (ad 7)) (C := RX5) (T := TX5) (N := 11) hx hb hts (fun w h => gw_mem (inX5 w h)) hown hK.1 hP 0 rfl rfl 4 (by decide) (hts _ (gw_mem wfX5_32)) (fun _ h9 => h9) rfl dX5_layOutRow_218 ?_
                  refine lv_iload_n hx hb dX5_layOutRow_221 rfl (lv_at hl 6 rfl) ?_
                  obtain ⟨h417, hf⟩ := og_some hf
                  refine va_lald hx hb hK.1 hP 7 1 rfl rfl (okI_in h417) dX5_layOutRow_222 ?_
                  refine va_mmax_long hx hb (hml.trans hl.1.symm) hown (hts _ (gw_mem wmX5_134)) (hts _ (gw_mem wtJ9_max_f86c9)) (hts _ (gw_mem wnJ9)) (hts _ (gw_mem wcJ9_max_f86c9)) (Nat.le_of_ble_eq_true rfl) (Nat.le_of_ble_eq_true rfl) (Nat.le_of_ble_eq_true rfl) (Nat.le_of_ble_eq_true rfl) dX5_layOutRow_223 ?_
                  refine lv_goto (tgt := 232) hx hb dX5_layOutRow_226 (by decide) ?_
                  obtain ⟨h418, hf⟩ := og_some hf
                  obtain ⟨w419, ew419⟩ : ∃ y : Nat → Int64, y = vp_updL c_called (Int32.toNatClampNeg p1) (if (w394 (Int32.toNatClampNeg p1)) < (Int32.toInt64 r414) then (Int32.toInt64 r414) else (w394 (Int32.toNatClampNeg p1))) := ⟨_, rfl⟩
                  replace hf := nm_at hf ew419
                  refine va_last hx hb hK.1 hP hD hS 8 1 rfl rfl (okI_in h418) dX5_layOutRow_232 (fun H locs hP hD hS => ?_)
                  have hP : va_P (dC, dI) vwCl (wX5 dA ad c_tree_parts c_bond_terms c_penceByUps w11 w394 w419 c_hold c_value w357 c_act c_rowOfKey) H := by rw [ew419]; exact hP
                  have hD : va_D A (wX5 dA ad c_tree_parts c_bond_terms c_penceByUps w11 w394 w419 c_hold c_value w357 c_act c_rowOfKey) := by rw [ew419]; exact hD
                  cases hf
                  exact W.vret hx hb hr (fun t ht _ => gqv hP hD hS ht) hS.2.2 dX5_layOutRow_233
        · replace hf := ifn k286 hf
          refine lv_aload_n hx hb dX5_layOutRow_64 rfl (lv_at hl 2 rfl) ?_
          refine va_get (D := (dC, dI)) (ci := 5) (v := .ref (ad 11)) (C := RX5) (T := TX5) (N := 11) hx hb hts (fun w h => gw_mem (inX5 w h)) hown hK.1 hP 0 rfl rfl 8 (by decide) (hts _ (gw_mem wfX5_44)) (fun _ h9 => h9) rfl dX5_layOutRow_65 ?_
          refine lv_iload_n hx hb dX5_layOutRow_68 rfl (lv_at hl 3 rfl) ?_
          refine lv_iconst (v := 2) hx hb dX5_layOutRow_69 (by decide) ?_
          refine lv_idiv hx hb dX5_layOutRow_70 (by decide) ?_
          obtain ⟨h420, hf⟩ := og_some hf
          refine va_iald hx hb hK.1 hP 11 0 rfl rfl (okI_in h420) dX5_layOutRow_71 ?_
          refine lv_goto (tgt := 76) hx hb dX5_layOutRow_72 (by decide) ?_
          refine lv_topi (fun w421 ew421 => ?_)
          replace hf := nm_at hf ew421
          refine lv_istore (lv' := [(6, .int w421), (4, .long w285), (3, .int r1), (0, .ref (ad 0)), (1, .int p1), (2, .int p2)]) hx hb dX5_layOutRow_76 hl (by decide) rfl (fun ls hl => ?_)
          refine lv_aload_n hx hb dX5_layOutRow_78 rfl (lv_at hl 3 rfl) ?_
          refine va_get (D := (dC, dI)) (ci := 5) (v := .ref (ad 6)) (C := RX5) (T := TX5) (N := 11) hx hb hts (fun w h => gw_mem (inX5 w h)) hown hK.1 hP 0 rfl rfl 3 (by decide) (hts _ (gw_mem wfX5_29)) (fun _ h9 => h9) rfl dX5_layOutRow_79 ?_
          refine lv_iload_n hx hb dX5_layOutRow_82 rfl (lv_at hl 4 rfl) ?_
          obtain ⟨h422, hf⟩ := og_some hf
          refine va_lald hx hb hK.1 hP 6 1 rfl rfl (okI_in h422) dX5_layOutRow_83 ?_
          refine lv_aload_n hx hb dX5_layOutRow_84 rfl (lv_at hl 3 rfl) ?_
          refine va_get (D := (dC, dI)) (ci := 5) (v := .ref (ad 3)) (C := RX5) (T := TX5) (N := 11) hx hb hts (fun w h => gw_mem (inX5 w h)) hown hK.1 hP 0 rfl rfl 1 (by decide) (hts _ (gw_mem wfX5_21)) (fun _ h9 => h9) rfl dX5_layOutRow_85 ?_
          obtain ⟨r423, v424, hf⟩ := bd1_some hf
          have z425 : [3, 4].map (fun i => ((wX5 dA ad c_tree_parts c_bond_terms c_penceByUps w11 c_turned c_called c_hold c_value c_marks c_act c_rowOfKey))[i]?) = ((wX0 dA (fun i => ad (i + 3)) c_bond_terms)).map some := rfl
          refine gpi [3, 4] [0, 1, 2, 5, 6, 7, 8, 9, 10, 11, 12, 13] [0, 1, 2, 12, 13, 3, 4, 5, 6, 7, 8, 9, 10, 11] (wf := (wX5 dA ad c_tree_parts c_bond_terms c_penceByUps w11 c_turned c_called c_hold c_value c_marks c_act c_rowOfKey)) (va_runV (As := []) (rest := [.long (w11 (Int32.toNatClampNeg p1))]) ⟨hx, hb, hml, hown, hts⟩ (tX0_softLevel l dC dI dA (fun i => ad (i + 3)) H.size v424) (ccX5_X0_softLevel hts ⟨Nat.le_of_ble_eq_true rfl, Nat.le_of_ble_eq_true rfl⟩) (gPreV (ci := 1) (q0 := 0) (gsub z425 hP) hK (gsubD z425 (by decide) hD) rfl rfl) rfl rfl hl.1 rfl (lv_room (Nat.le_of_ble_eq_true rfl)) dX5_layOutRow_88 ⟨Nat.le_of_ble_eq_true rfl, Nat.le_of_ble_eq_true rfl⟩) hP hD hS hA z425 rfl (by decide) (by decide) (by decide) rfl (fun H locs hP hD hS => ?_)
          refine lv_i2l hx hb dX5_layOutRow_91 rfl ?_
          refine W.lcmp hx hb dX5_layOutRow_92 ?_
          refine lv_if_lt (tgt := 100) hx hb dX5_layOutRow_93 (by decide) (fun k426 => ?_) (fun k426 => ?_)
          · replace hf := ifp (lc_lt.mp k426) hf
            refine lv_iconst (v := 0) hx hb dX5_layOutRow_100 (by decide) ?_
            refine lv_istore (lv' := [(7, .int 0), (6, .int w421), (4, .long w285), (3, .int r1), (0, .ref (ad 0)), (1, .int p1), (2, .int p2)]) hx hb dX5_layOutRow_101 hl (by decide) rfl (fun ls hl => ?_)
            refine lv_aload_n hx hb dX5_layOutRow_103 rfl (lv_at hl 4 rfl) ?_
            refine va_get (D := (dC, dI)) (ci := 5) (v := .ref (ad 11)) (C := RX5) (T := TX5) (N := 11) hx hb hts (fun w h => gw_mem (inX5 w h)) hown hK.1 hP 0 rfl rfl 8 (by decide) (hts _ (gw_mem wfX5_44)) (fun _ h9 => h9) rfl dX5_layOutRow_104 ?_
            refine lv_iload_n hx hb dX5_layOutRow_107 rfl (lv_at hl 5 rfl) ?_
            refine lv_iload hx hb dX5_layOutRow_108 (lv_at hl 1 rfl) ?_
            refine lv_iconst (v := 2) hx hb dX5_layOutRow_110 (by decide) ?_
            refine lv_imul hx hb dX5_layOutRow_111 ?_
            refine lv_iload hx hb dX5_layOutRow_112 (lv_at hl 0 rfl) ?_
            refine lv_iadd hx hb dX5_layOutRow_114 ?_
            refine lv_bipush (v := 7) hx hb dX5_layOutRow_115 (by decide) ?_
            refine lv_iand hx hb dX5_layOutRow_117 ?_
            obtain ⟨h427, hf⟩ := og_some hf
            obtain ⟨w428, ew428⟩ : ∃ y : Nat → Int32, y = upd c_marks (Int32.toNatClampNeg p1) (((w421 * 2) + 0) &&& 7) := ⟨_, rfl⟩
            replace hf := nm_at hf ew428
            refine va_iast hx hb hK.1 hP hD hS 11 0 rfl rfl (okI_in h427) dX5_layOutRow_118 (fun H locs hP hD hS => ?_)
            have hP : va_P (dC, dI) vwCl (wX5 dA ad c_tree_parts c_bond_terms c_penceByUps w11 c_turned c_called c_hold c_value w428 c_act c_rowOfKey) H := by rw [ew428]; exact hP
            have hD : va_D A (wX5 dA ad c_tree_parts c_bond_terms c_penceByUps w11 c_turned c_called c_hold c_value w428 c_act c_rowOfKey) := by rw [ew428]; exact hD
            refine lv_aload_n hx hb dX5_layOutRow_119 rfl (lv_at hl 4 rfl) ?_
            refine va_get (D := (dC, dI)) (ci := 5) (v := .ref (ad 7)) (C := RX5) (T := TX5) (N := 11) hx hb hts (fun w h => gw_mem (inX5 w h)) hown hK.1 hP 0 rfl rfl 4 (by decide) (hts _ (gw_mem wfX5_32)) (fun _ h9 => h9) rfl dX5_layOutRow_120 ?_
            refine lv_iload_n hx hb dX5_layOutRow_123 rfl (lv_at hl 5 rfl) ?_
            refine lv_aload_n hx hb dX5_layOutRow_124 rfl (lv_at hl 4 rfl) ?_
            refine va_get (D := (dC, dI)) (ci := 5) (v := .ref (ad 3)) (C := RX5) (T := TX5) (N := 11) hx hb hts (fun w h => gw_mem (inX5 w h)) hown hK.1 hP 0 rfl rfl 1 (by decide) (hts _ (gw_mem wfX5_21)) (fun _ h9 => h9) rfl dX5_layOutRow_125 ?_
            refine lv_iload_n hx hb dX5_layOutRow_128 rfl (lv_at hl 6 rfl) ?_
            obtain ⟨r429, v430, hf⟩ := bd1_some hf
            have z431 : [3, 4].map (fun i => ((wX5 dA ad c_tree_parts c_bond_terms c_penceByUps w11 c_turned c_called c_hold c_value w428 c_act c_rowOfKey))[i]?) = ((wX0 dA (fun i => ad (i + 3)) c_bond_terms)).map some := rfl
            refine gpi [3, 4] [0, 1, 2, 5, 6, 7, 8, 9, 10, 11, 12, 13] [0, 1, 2, 12, 13, 3, 4, 5, 6, 7, 8, 9, 10, 11] (wf := (wX5 dA ad c_tree_parts c_bond_terms c_penceByUps w11 c_turned c_called c_hold c_value w428 c_act c_rowOfKey)) (va_runV (As := [.int p2]) (rest := [.int p1, .ref (ad 7)]) ⟨hx, hb, hml, hown, hts⟩ (tX0_mayTurnOn l dC dI dA (fun i => ad (i + 3)) H.size v430) (ccX5_X0_mayTurnOn hts ⟨Nat.le_of_ble_eq_true rfl, Nat.le_of_ble_eq_true rfl⟩) (gPreV (ci := 1) (q0 := 0) (gsub z431 hP) hK (gsubD z431 (by decide) hD) rfl rfl) rfl rfl hl.1 rfl (lv_room (Nat.le_of_ble_eq_true rfl)) dX5_layOutRow_129 ⟨Nat.le_of_ble_eq_true rfl, Nat.le_of_ble_eq_true rfl⟩) hP hD hS hA z431 rfl (by decide) (by decide) (by decide) rfl (fun H locs hP hD hS => ?_)
            refine lv_if_eq (tgt := 153) hx hb dX5_layOutRow_132 (by decide) (fun k432 => ?_) (fun k432 => ?_)
            · replace hf := ifp k432 hf
              refine lv_ldc2 (v := (-2)) hx hb hown (hts _ (gw_mem wkX5_75)) dX5_layOutRow_153 ?_
              obtain ⟨h433, hf⟩ := og_some hf
              obtain ⟨w434, ew434⟩ : ∃ y : Nat → Int64, y = vp_updL c_turned (Int32.toNatClampNeg p1) (-2) := ⟨_, rfl⟩
              replace hf := nm_at hf ew434
              refine va_last hx hb hK.1 hP hD hS 7 1 rfl rfl (okI_in h433) dX5_layOutRow_156 (fun H locs hP hD hS => ?_)
              have hP : va_P (dC, dI) vwCl (wX5 dA ad c_tree_parts c_bond_terms c_penceByUps w11 w434 c_called c_hold c_value w428 c_act c_rowOfKey) H := by rw [ew434]; exact hP
              have hD : va_D A (wX5 dA ad c_tree_parts c_bond_terms c_penceByUps w11 w434 c_called c_hold c_value w428 c_act c_rowOfKey) := by rw [ew434]; exact hD
              refine lv_aload_n hx hb dX5_layOutRow_157 rfl (lv_at hl 4 rfl) ?_
              refine va_get (D := (dC, dI)) (ci := 5) (v := .ref (ad 3)) (C := RX5) (T := TX5) (N := 11) hx hb hts (fun w h => gw_mem (inX5 w h)) hown hK.1 hP 0 rfl rfl 1 (by decide) (hts _ (gw_mem wfX5_21)) (fun _ h9 => h9) rfl dX5_layOutRow_158 ?_
              refine lv_iload_n hx hb dX5_layOutRow_161 rfl (lv_at hl 6 rfl) ?_
              obtain ⟨r435, v436, hf⟩ := bd1_some hf
              have z437 : [3, 4].map (fun i => ((wX5 dA ad c_tree_parts c_bond_terms c_penceByUps w11 w434 c_called c_hold c_value w428 c_act c_rowOfKey))[i]?) = ((wX0 dA (fun i => ad (i + 3)) c_bond_terms)).map some := rfl
              refine gpi [3, 4] [0, 1, 2, 5, 6, 7, 8, 9, 10, 11, 12, 13] [0, 1, 2, 12, 13, 3, 4, 5, 6, 7, 8, 9, 10, 11] (wf := (wX5 dA ad c_tree_parts c_bond_terms c_penceByUps w11 w434 c_called c_hold c_value w428 c_act c_rowOfKey)) (va_runV (As := [.int p2]) (rest := []) ⟨hx, hb, hml, hown, hts⟩ (tX0_callOn l dC dI dA (fun i => ad (i + 3)) H.size v436) (ccX5_X0_callOn hts ⟨Nat.le_of_ble_eq_true rfl, Nat.le_of_ble_eq_true rfl⟩) (gPreV (ci := 1) (q0 := 0) (gsub z437 hP) hK (gsubD z437 (by decide) hD) rfl rfl) rfl rfl hl.1 rfl (lv_room (Nat.le_of_ble_eq_true rfl)) dX5_layOutRow_162 ⟨Nat.le_of_ble_eq_true rfl, Nat.le_of_ble_eq_true rfl⟩) hP hD hS hA z437 rfl (by decide) (by decide) (by decide) rfl (fun H locs hP hD hS => ?_)
              refine lv_if_lt (tgt := 195) hx hb dX5_layOutRow_165 (by decide) (fun k438 => ?_) (fun k438 => ?_)
              · replace hf := ifp k438 hf
                refine lv_iconst (v := 0) hx hb dX5_layOutRow_195 (by decide) ?_
                refine lv_istore (lv' := [(8, .int 0), (7, .int 0), (6, .int w421), (4, .long w285), (3, .int r1), (0, .ref (ad 0)), (1, .int p1), (2, .int p2)]) hx hb dX5_layOutRow_196 hl (by decide) rfl (fun ls hl => ?_)
                refine lv_aload_n hx hb dX5_layOutRow_198 rfl (lv_at hl 5 rfl) ?_
                refine va_get (D := (dC, dI)) (ci := 5) (v := .ref (ad 8)) (C := RX5) (T := TX5) (N := 11) hx hb hts (fun w h => gw_mem (inX5 w h)) hown hK.1 hP 0 rfl rfl 5 (by decide) (hts _ (gw_mem wfX5_35)) (fun _ h9 => h9) rfl dX5_layOutRow_199 ?_
                refine lv_iload_n hx hb dX5_layOutRow_202 rfl (lv_at hl 6 rfl) ?_
                refine lv_iload hx hb dX5_layOutRow_203 (lv_at hl 0 rfl) ?_
                refine lv_if_eq (tgt := 229) hx hb dX5_layOutRow_205 (by decide) (fun k439 => ?_) (fun k439 => absurd k439 (by decide))
                refine lv_ldc2 (v := (-2)) hx hb hown (hts _ (gw_mem wkX5_75)) dX5_layOutRow_229 ?_
                obtain ⟨h440, hf⟩ := og_some hf
                obtain ⟨w441, ew441⟩ : ∃ y : Nat → Int64, y = vp_updL c_called (Int32.toNatClampNeg p1) (-2) := ⟨_, rfl⟩
                replace hf := nm_at hf ew441
                refine va_last hx hb hK.1 hP hD hS 8 1 rfl rfl (okI_in h440) dX5_layOutRow_232 (fun H locs hP hD hS => ?_)
                have hP : va_P (dC, dI) vwCl (wX5 dA ad c_tree_parts c_bond_terms c_penceByUps w11 w434 w441 c_hold c_value w428 c_act c_rowOfKey) H := by rw [ew441]; exact hP
                have hD : va_D A (wX5 dA ad c_tree_parts c_bond_terms c_penceByUps w11 w434 w441 c_hold c_value w428 c_act c_rowOfKey) := by rw [ew441]; exact hD
                cases hf
                exact W.vret hx hb hr (fun t ht _ => gqv hP hD hS ht) hS.2.2 dX5_layOutRow_233
              · replace hf := ifn k438 hf
                refine lv_aload_n hx hb dX5_layOutRow_168 rfl (lv_at hl 4 rfl) ?_
                refine va_get (D := (dC, dI)) (ci := 5) (v := .ref (ad 3)) (C := RX5) (T := TX5) (N := 11) hx hb hts (fun w h => gw_mem (inX5 w h)) hown hK.1 hP 0 rfl rfl 1 (by decide) (hts _ (gw_mem wfX5_21)) (fun _ h9 => h9) rfl dX5_layOutRow_169 ?_
                refine lv_aload_n hx hb dX5_layOutRow_172 rfl (lv_at hl 4 rfl) ?_
                refine va_get (D := (dC, dI)) (ci := 5) (v := .ref (ad 11)) (C := RX5) (T := TX5) (N := 11) hx hb hts (fun w h => gw_mem (inX5 w h)) hown hK.1 hP 0 rfl rfl 8 (by decide) (hts _ (gw_mem wfX5_44)) (fun _ h9 => h9) rfl dX5_layOutRow_173 ?_
                refine lv_iload_n hx hb dX5_layOutRow_176 rfl (lv_at hl 5 rfl) ?_
                obtain ⟨h442, hf⟩ := og_some hf
                refine va_iald hx hb hK.1 hP 11 0 rfl rfl (okI_in h442) dX5_layOutRow_177 ?_
                obtain ⟨r443, v444, hf⟩ := bd1_some hf
                have z445 : [3, 4].map (fun i => ((wX5 dA ad c_tree_parts c_bond_terms c_penceByUps w11 w434 c_called c_hold c_value w428 c_act c_rowOfKey))[i]?) = ((wX0 dA (fun i => ad (i + 3)) c_bond_terms)).map some := rfl
                refine gpi [3, 4] [0, 1, 2, 5, 6, 7, 8, 9, 10, 11, 12, 13] [0, 1, 2, 12, 13, 3, 4, 5, 6, 7, 8, 9, 10, 11] (wf := (wX5 dA ad c_tree_parts c_bond_terms c_penceByUps w11 w434 c_called c_hold c_value w428 c_act c_rowOfKey)) (va_runV (As := [.int (w428 (Int32.toNatClampNeg p1))]) (rest := []) ⟨hx, hb, hml, hown, hts⟩ (tX0_highDays l dC dI dA (fun i => ad (i + 3)) H.size v444) (ccX5_X0_highDays hts ⟨Nat.le_of_ble_eq_true rfl, Nat.le_of_ble_eq_true rfl⟩) (gPreV (ci := 1) (q0 := 0) (gsub z445 hP) hK (gsubD z445 (by decide) hD) rfl rfl) rfl rfl hl.1 rfl (lv_room (Nat.le_of_ble_eq_true rfl)) dX5_layOutRow_178 ⟨Nat.le_of_ble_eq_true rfl, Nat.le_of_ble_eq_true rfl⟩) hP hD hS hA z445 rfl (by decide) (by decide) (by decide) rfl (fun H locs hP hD hS => ?_)
                refine lv_aload_n hx hb dX5_layOutRow_181 rfl (lv_at hl 4 rfl) ?_
                refine va_get (D := (dC, dI)) (ci := 5) (v := .ref (ad 3)) (C := RX5) (T := TX5) (N := 11) hx hb hts (fun w h => gw_mem (inX5 w h)) hown hK.1 hP 0 rfl rfl 1 (by decide) (hts _ (gw_mem wfX5_21)) (fun _ h9 => h9) rfl dX5_layOutRow_182 ?_
                obtain ⟨r446, v447, hf⟩ := bd1_some hf
                have z448 : [3, 4].map (fun i => ((wX5 dA ad c_tree_parts c_bond_terms c_penceByUps w11 w434 c_called c_hold c_value w428 c_act c_rowOfKey))[i]?) = ((wX0 dA (fun i => ad (i + 3)) c_bond_terms)).map some := rfl
                refine gpi [3, 4] [0, 1, 2, 5, 6, 7, 8, 9, 10, 11, 12, 13] [0, 1, 2, 12, 13, 3, 4, 5, 6, 7, 8, 9, 10, 11] (wf := (wX5 dA ad c_tree_parts c_bond_terms c_penceByUps w11 w434 c_called c_hold c_value w428 c_act c_rowOfKey)) (va_runV (As := []) (rest := [.int r443]) ⟨hx, hb, hml, hown, hts⟩ (tX0_softLeast l dC dI dA (fun i => ad (i + 3)) H.size v447) (ccX5_X0_softLeast hts ⟨Nat.le_of_ble_eq_true rfl, Nat.le_of_ble_eq_true rfl⟩) (gPreV (ci := 1) (q0 := 0) (gsub z448 hP) hK (gsubD z448 (by decide) hD) rfl rfl) rfl rfl hl.1 rfl (lv_room (Nat.le_of_ble_eq_true rfl)) dX5_layOutRow_185 ⟨Nat.le_of_ble_eq_true rfl, Nat.le_of_ble_eq_true rfl⟩) hP hD hS hA z448 rfl (by decide) (by decide) (by decide) rfl (fun H locs hP hD hS => ?_)
                refine lv_icmp_lt (tgt := 195) hx hb dX5_layOutRow_188 (by decide) (fun k449 => ?_) (fun k449 => ?_)
                · replace hf := ifp k449 hf
                  refine lv_iconst (v := 0) hx hb dX5_layOutRow_195 (by decide) ?_
                  refine lv_istore (lv' := [(8, .int 0), (7, .int 0), (6, .int w421), (4, .long w285), (3, .int r1), (0, .ref (ad 0)), (1, .int p1), (2, .int p2)]) hx hb dX5_layOutRow_196 hl (by decide) rfl (fun ls hl => ?_)
                  refine lv_aload_n hx hb dX5_layOutRow_198 rfl (lv_at hl 5 rfl) ?_
                  refine va_get (D := (dC, dI)) (ci := 5) (v := .ref (ad 8)) (C := RX5) (T := TX5) (N := 11) hx hb hts (fun w h => gw_mem (inX5 w h)) hown hK.1 hP 0 rfl rfl 5 (by decide) (hts _ (gw_mem wfX5_35)) (fun _ h9 => h9) rfl dX5_layOutRow_199 ?_
                  refine lv_iload_n hx hb dX5_layOutRow_202 rfl (lv_at hl 6 rfl) ?_
                  refine lv_iload hx hb dX5_layOutRow_203 (lv_at hl 0 rfl) ?_
                  refine lv_if_eq (tgt := 229) hx hb dX5_layOutRow_205 (by decide) (fun k450 => ?_) (fun k450 => absurd k450 (by decide))
                  refine lv_ldc2 (v := (-2)) hx hb hown (hts _ (gw_mem wkX5_75)) dX5_layOutRow_229 ?_
                  obtain ⟨h451, hf⟩ := og_some hf
                  obtain ⟨w452, ew452⟩ : ∃ y : Nat → Int64, y = vp_updL c_called (Int32.toNatClampNeg p1) (-2) := ⟨_, rfl⟩
                  replace hf := nm_at hf ew452
                  refine va_last hx hb hK.1 hP hD hS 8 1 rfl rfl (okI_in h451) dX5_layOutRow_232 (fun H locs hP hD hS => ?_)
                  have hP : va_P (dC, dI) vwCl (wX5 dA ad c_tree_parts c_bond_terms c_penceByUps w11 w434 w452 c_hold c_value w428 c_act c_rowOfKey) H := by rw [ew452]; exact hP
                  have hD : va_D A (wX5 dA ad c_tree_parts c_bond_terms c_penceByUps w11 w434 w452 c_hold c_value w428 c_act c_rowOfKey) := by rw [ew452]; exact hD
                  cases hf
                  exact W.vret hx hb hr (fun t ht _ => gqv hP hD hS ht) hS.2.2 dX5_layOutRow_233
                · replace hf := ifn k449 hf
                  refine lv_iconst (v := 1) hx hb dX5_layOutRow_191 (by decide) ?_
                  refine lv_goto (tgt := 196) hx hb dX5_layOutRow_192 (by decide) ?_
                  refine lv_istore (lv' := [(8, .int 1), (7, .int 0), (6, .int w421), (4, .long w285), (3, .int r1), (0, .ref (ad 0)), (1, .int p1), (2, .int p2)]) hx hb dX5_layOutRow_196 hl (by decide) rfl (fun ls hl => ?_)
                  refine lv_aload_n hx hb dX5_layOutRow_198 rfl (lv_at hl 5 rfl) ?_
                  refine va_get (D := (dC, dI)) (ci := 5) (v := .ref (ad 8)) (C := RX5) (T := TX5) (N := 11) hx hb hts (fun w h => gw_mem (inX5 w h)) hown hK.1 hP 0 rfl rfl 5 (by decide) (hts _ (gw_mem wfX5_35)) (fun _ h9 => h9) rfl dX5_layOutRow_199 ?_
                  refine lv_iload_n hx hb dX5_layOutRow_202 rfl (lv_at hl 6 rfl) ?_
                  refine lv_iload hx hb dX5_layOutRow_203 (lv_at hl 0 rfl) ?_
                  refine lv_if_eq (tgt := 229) hx hb dX5_layOutRow_205 (by decide) (fun k453 => absurd k453 (by decide)) (fun k453 => ?_)
                  refine lv_aload_n hx hb dX5_layOutRow_208 rfl (lv_at hl 5 rfl) ?_
                  refine va_get (D := (dC, dI)) (ci := 5) (v := .ref (ad 3)) (C := RX5) (T := TX5) (N := 11) hx hb hts (fun w h => gw_mem (inX5 w h)) hown hK.1 hP 0 rfl rfl 1 (by decide) (hts _ (gw_mem wfX5_21)) (fun _ h9 => h9) rfl dX5_layOutRow_209 ?_
                  refine lv_iload_n hx hb dX5_layOutRow_212 rfl (lv_at hl 7 rfl) ?_
                  obtain ⟨r454, v455, hf⟩ := bd1_some hf
                  have z456 : [3, 4].map (fun i => ((wX5 dA ad c_tree_parts c_bond_terms c_penceByUps w11 w434 c_called c_hold c_value w428 c_act c_rowOfKey))[i]?) = ((wX0 dA (fun i => ad (i + 3)) c_bond_terms)).map some := rfl
                  refine gpi [3, 4] [0, 1, 2, 5, 6, 7, 8, 9, 10, 11, 12, 13] [0, 1, 2, 12, 13, 3, 4, 5, 6, 7, 8, 9, 10, 11] (wf := (wX5 dA ad c_tree_parts c_bond_terms c_penceByUps w11 w434 c_called c_hold c_value w428 c_act c_rowOfKey)) (va_runV (As := [.int p2]) (rest := [.int p1, .ref (ad 8)]) ⟨hx, hb, hml, hown, hts⟩ (tX0_callOn l dC dI dA (fun i => ad (i + 3)) H.size v455) (ccX5_X0_callOn hts ⟨Nat.le_of_ble_eq_true rfl, Nat.le_of_ble_eq_true rfl⟩) (gPreV (ci := 1) (q0 := 0) (gsub z456 hP) hK (gsubD z456 (by decide) hD) rfl rfl) rfl rfl hl.1 rfl (lv_room (Nat.le_of_ble_eq_true rfl)) dX5_layOutRow_213 ⟨Nat.le_of_ble_eq_true rfl, Nat.le_of_ble_eq_true rfl⟩) hP hD hS hA z456 rfl (by decide) (by decide) (by decide) rfl (fun H locs hP hD hS => ?_)
                  refine lv_i2l hx hb dX5_layOutRow_216 rfl ?_
                  refine lv_aload_n hx hb dX5_layOutRow_217 rfl (lv_at hl 5 rfl) ?_
                  refine va_get (D := (dC, dI)) (ci := 5) (v := .ref (ad 7)) (C := RX5) (T := TX5) (N := 11) hx hb hts (fun w h => gw_mem (inX5 w h)) hown hK.1 hP 0 rfl rfl 4 (by decide) (hts _ (gw_mem wfX5_32)) (fun _ h9 => h9) rfl dX5_layOutRow_218 ?_
                  refine lv_iload_n hx hb dX5_layOutRow_221 rfl (lv_at hl 6 rfl) ?_
                  obtain ⟨h457, hf⟩ := og_some hf
                  refine va_lald hx hb hK.1 hP 7 1 rfl rfl (okI_in h457) dX5_layOutRow_222 ?_
                  refine va_mmax_long hx hb (hml.trans hl.1.symm) hown (hts _ (gw_mem wmX5_134)) (hts _ (gw_mem wtJ9_max_f86c9)) (hts _ (gw_mem wnJ9)) (hts _ (gw_mem wcJ9_max_f86c9)) (Nat.le_of_ble_eq_true rfl) (Nat.le_of_ble_eq_true rfl) (Nat.le_of_ble_eq_true rfl) (Nat.le_of_ble_eq_true rfl) dX5_layOutRow_223 ?_
                  refine lv_goto (tgt := 232) hx hb dX5_layOutRow_226 (by decide) ?_
                  obtain ⟨h458, hf⟩ := og_some hf
                  obtain ⟨w459, ew459⟩ : ∃ y : Nat → Int64, y = vp_updL c_called (Int32.toNatClampNeg p1) (if (w434 (Int32.toNatClampNeg p1)) < (Int32.toInt64 r454) then (Int32.toInt64 r454) else (w434 (Int32.toNatClampNeg p1))) := ⟨_, rfl⟩
                  replace hf := nm_at hf ew459
                  refine va_last hx hb hK.1 hP hD hS 8 1 rfl rfl (okI_in h458) dX5_layOutRow_232 (fun H locs hP hD hS => ?_)
                  have hP : va_P (dC, dI) vwCl (wX5 dA ad c_tree_parts c_bond_terms c_penceByUps w11 w434 w459 c_hold c_value w428 c_act c_rowOfKey) H := by rw [ew459]; exact hP
                  have hD : va_D A (wX5 dA ad c_tree_parts c_bond_terms c_penceByUps w11 w434 w459 c_hold c_value w428 c_act c_rowOfKey) := by rw [ew459]; exact hD
                  cases hf
                  exact W.vret hx hb hr (fun t ht _ => gqv hP hD hS ht) hS.2.2 dX5_layOutRow_233
            · replace hf := ifn k432 hf
              refine lv_aload_n hx hb dX5_layOutRow_135 rfl (lv_at hl 4 rfl) ?_
              refine va_get (D := (dC, dI)) (ci := 5) (v := .ref (ad 3)) (C := RX5) (T := TX5) (N := 11) hx hb hts (fun w h => gw_mem (inX5 w h)) hown hK.1 hP 0 rfl rfl 1 (by decide) (hts _ (gw_mem wfX5_21)) (fun _ h9 => h9) rfl dX5_layOutRow_136 ?_
              refine lv_aload_n hx hb dX5_layOutRow_139 rfl (lv_at hl 4 rfl) ?_
              refine va_get (D := (dC, dI)) (ci := 5) (v := .ref (ad 6)) (C := RX5) (T := TX5) (N := 11) hx hb hts (fun w h => gw_mem (inX5 w h)) hown hK.1 hP 0 rfl rfl 3 (by decide) (hts _ (gw_mem wfX5_29)) (fun _ h9 => h9) rfl dX5_layOutRow_140 ?_
              refine lv_iload_n hx hb dX5_layOutRow_143 rfl (lv_at hl 5 rfl) ?_
              obtain ⟨h460, hf⟩ := og_some hf
              refine va_lald hx hb hK.1 hP 6 1 rfl rfl (okI_in h460) dX5_layOutRow_144 ?_
              refine lv_lload hx hb dX5_layOutRow_145 (lv_at hl 2 rfl) ?_
              obtain ⟨r461, v462, hf⟩ := bd1_some hf
              have z463 : [3, 4].map (fun i => ((wX5 dA ad c_tree_parts c_bond_terms c_penceByUps w11 c_turned c_called c_hold c_value w428 c_act c_rowOfKey))[i]?) = ((wX0 dA (fun i => ad (i + 3)) c_bond_terms)).map some := rfl
              refine gpl [3, 4] [0, 1, 2, 5, 6, 7, 8, 9, 10, 11, 12, 13] [0, 1, 2, 12, 13, 3, 4, 5, 6, 7, 8, 9, 10, 11] (wf := (wX5 dA ad c_tree_parts c_bond_terms c_penceByUps w11 c_turned c_called c_hold c_value w428 c_act c_rowOfKey)) (va_runV (As := [.long (w11 (Int32.toNatClampNeg p1)), .long w285]) (rest := [.int p1, .ref (ad 7)]) ⟨hx, hb, hml, hown, hts⟩ (tX0_turnedWorth l dC dI dA (fun i => ad (i + 3)) H.size v462) (ccX5_X0_turnedWorth hts ⟨Nat.le_of_ble_eq_true rfl, Nat.le_of_ble_eq_true rfl⟩) (gPreV (ci := 1) (q0 := 0) (gsub z463 hP) hK (gsubD z463 (by decide) hD) rfl rfl) rfl rfl hl.1 rfl (lv_room (Nat.le_of_ble_eq_true rfl)) dX5_layOutRow_147 ⟨Nat.le_of_ble_eq_true rfl, Nat.le_of_ble_eq_true rfl⟩) hP hD hS hA z463 rfl (by decide) (by decide) (by decide) rfl (fun H locs hP hD hS => ?_)
              refine lv_goto (tgt := 156) hx hb dX5_layOutRow_150 (by decide) ?_
              obtain ⟨h464, hf⟩ := og_some hf
              obtain ⟨w465, ew465⟩ : ∃ y : Nat → Int64, y = vp_updL c_turned (Int32.toNatClampNeg p1) r461 := ⟨_, rfl⟩
              replace hf := nm_at hf ew465
              refine va_last hx hb hK.1 hP hD hS 7 1 rfl rfl (okI_in h464) dX5_layOutRow_156 (fun H locs hP hD hS => ?_)
              have hP : va_P (dC, dI) vwCl (wX5 dA ad c_tree_parts c_bond_terms c_penceByUps w11 w465 c_called c_hold c_value w428 c_act c_rowOfKey) H := by rw [ew465]; exact hP
              have hD : va_D A (wX5 dA ad c_tree_parts c_bond_terms c_penceByUps w11 w465 c_called c_hold c_value w428 c_act c_rowOfKey) := by rw [ew465]; exact hD
              refine lv_aload_n hx hb dX5_layOutRow_157 rfl (lv_at hl 4 rfl) ?_
              refine va_get (D := (dC, dI)) (ci := 5) (v := .ref (ad 3)) (C := RX5) (T := TX5) (N := 11) hx hb hts (fun w h => gw_mem (inX5 w h)) hown hK.1 hP 0 rfl rfl 1 (by decide) (hts _ (gw_mem wfX5_21)) (fun _ h9 => h9) rfl dX5_layOutRow_158 ?_
              refine lv_iload_n hx hb dX5_layOutRow_161 rfl (lv_at hl 6 rfl) ?_
              obtain ⟨r466, v467, hf⟩ := bd1_some hf
              have z468 : [3, 4].map (fun i => ((wX5 dA ad c_tree_parts c_bond_terms c_penceByUps w11 w465 c_called c_hold c_value w428 c_act c_rowOfKey))[i]?) = ((wX0 dA (fun i => ad (i + 3)) c_bond_terms)).map some := rfl
              refine gpi [3, 4] [0, 1, 2, 5, 6, 7, 8, 9, 10, 11, 12, 13] [0, 1, 2, 12, 13, 3, 4, 5, 6, 7, 8, 9, 10, 11] (wf := (wX5 dA ad c_tree_parts c_bond_terms c_penceByUps w11 w465 c_called c_hold c_value w428 c_act c_rowOfKey)) (va_runV (As := [.int p2]) (rest := []) ⟨hx, hb, hml, hown, hts⟩ (tX0_callOn l dC dI dA (fun i => ad (i + 3)) H.size v467) (ccX5_X0_callOn hts ⟨Nat.le_of_ble_eq_true rfl, Nat.le_of_ble_eq_true rfl⟩) (gPreV (ci := 1) (q0 := 0) (gsub z468 hP) hK (gsubD z468 (by decide) hD) rfl rfl) rfl rfl hl.1 rfl (lv_room (Nat.le_of_ble_eq_true rfl)) dX5_layOutRow_162 ⟨Nat.le_of_ble_eq_true rfl, Nat.le_of_ble_eq_true rfl⟩) hP hD hS hA z468 rfl (by decide) (by decide) (by decide) rfl (fun H locs hP hD hS => ?_)
              refine lv_if_lt (tgt := 195) hx hb dX5_layOutRow_165 (by decide) (fun k469 => ?_) (fun k469 => ?_)
              · replace hf := ifp k469 hf
                refine lv_iconst (v := 0) hx hb dX5_layOutRow_195 (by decide) ?_
                refine lv_istore (lv' := [(8, .int 0), (7, .int 0), (6, .int w421), (4, .long w285), (3, .int r1), (0, .ref (ad 0)), (1, .int p1), (2, .int p2)]) hx hb dX5_layOutRow_196 hl (by decide) rfl (fun ls hl => ?_)
                refine lv_aload_n hx hb dX5_layOutRow_198 rfl (lv_at hl 5 rfl) ?_
                refine va_get (D := (dC, dI)) (ci := 5) (v := .ref (ad 8)) (C := RX5) (T := TX5) (N := 11) hx hb hts (fun w h => gw_mem (inX5 w h)) hown hK.1 hP 0 rfl rfl 5 (by decide) (hts _ (gw_mem wfX5_35)) (fun _ h9 => h9) rfl dX5_layOutRow_199 ?_
                refine lv_iload_n hx hb dX5_layOutRow_202 rfl (lv_at hl 6 rfl) ?_
                refine lv_iload hx hb dX5_layOutRow_203 (lv_at hl 0 rfl) ?_
                refine lv_if_eq (tgt := 229) hx hb dX5_layOutRow_205 (by decide) (fun k470 => ?_) (fun k470 => absurd k470 (by decide))
                refine lv_ldc2 (v := (-2)) hx hb hown (hts _ (gw_mem wkX5_75)) dX5_layOutRow_229 ?_
                obtain ⟨h471, hf⟩ := og_some hf
                obtain ⟨w472, ew472⟩ : ∃ y : Nat → Int64, y = vp_updL c_called (Int32.toNatClampNeg p1) (-2) := ⟨_, rfl⟩
                replace hf := nm_at hf ew472
                refine va_last hx hb hK.1 hP hD hS 8 1 rfl rfl (okI_in h471) dX5_layOutRow_232 (fun H locs hP hD hS => ?_)
                have hP : va_P (dC, dI) vwCl (wX5 dA ad c_tree_parts c_bond_terms c_penceByUps w11 w465 w472 c_hold c_value w428 c_act c_rowOfKey) H := by rw [ew472]; exact hP
                have hD : va_D A (wX5 dA ad c_tree_parts c_bond_terms c_penceByUps w11 w465 w472 c_hold c_value w428 c_act c_rowOfKey) := by rw [ew472]; exact hD
                cases hf
                exact W.vret hx hb hr (fun t ht _ => gqv hP hD hS ht) hS.2.2 dX5_layOutRow_233
              · replace hf := ifn k469 hf
                refine lv_aload_n hx hb dX5_layOutRow_168 rfl (lv_at hl 4 rfl) ?_
                refine va_get (D := (dC, dI)) (ci := 5) (v := .ref (ad 3)) (C := RX5) (T := TX5) (N := 11) hx hb hts (fun w h => gw_mem (inX5 w h)) hown hK.1 hP 0 rfl rfl 1 (by decide) (hts _ (gw_mem wfX5_21)) (fun _ h9 => h9) rfl dX5_layOutRow_169 ?_
                refine lv_aload_n hx hb dX5_layOutRow_172 rfl (lv_at hl 4 rfl) ?_
                refine va_get (D := (dC, dI)) (ci := 5) (v := .ref (ad 11)) (C := RX5) (T := TX5) (N := 11) hx hb hts (fun w h => gw_mem (inX5 w h)) hown hK.1 hP 0 rfl rfl 8 (by decide) (hts _ (gw_mem wfX5_44)) (fun _ h9 => h9) rfl dX5_layOutRow_173 ?_
                refine lv_iload_n hx hb dX5_layOutRow_176 rfl (lv_at hl 5 rfl) ?_
                obtain ⟨h473, hf⟩ := og_some hf
                refine va_iald hx hb hK.1 hP 11 0 rfl rfl (okI_in h473) dX5_layOutRow_177 ?_
                obtain ⟨r474, v475, hf⟩ := bd1_some hf
                have z476 : [3, 4].map (fun i => ((wX5 dA ad c_tree_parts c_bond_terms c_penceByUps w11 w465 c_called c_hold c_value w428 c_act c_rowOfKey))[i]?) = ((wX0 dA (fun i => ad (i + 3)) c_bond_terms)).map some := rfl
                refine gpi [3, 4] [0, 1, 2, 5, 6, 7, 8, 9, 10, 11, 12, 13] [0, 1, 2, 12, 13, 3, 4, 5, 6, 7, 8, 9, 10, 11] (wf := (wX5 dA ad c_tree_parts c_bond_terms c_penceByUps w11 w465 c_called c_hold c_value w428 c_act c_rowOfKey)) (va_runV (As := [.int (w428 (Int32.toNatClampNeg p1))]) (rest := []) ⟨hx, hb, hml, hown, hts⟩ (tX0_highDays l dC dI dA (fun i => ad (i + 3)) H.size v475) (ccX5_X0_highDays hts ⟨Nat.le_of_ble_eq_true rfl, Nat.le_of_ble_eq_true rfl⟩) (gPreV (ci := 1) (q0 := 0) (gsub z476 hP) hK (gsubD z476 (by decide) hD) rfl rfl) rfl rfl hl.1 rfl (lv_room (Nat.le_of_ble_eq_true rfl)) dX5_layOutRow_178 ⟨Nat.le_of_ble_eq_true rfl, Nat.le_of_ble_eq_true rfl⟩) hP hD hS hA z476 rfl (by decide) (by decide) (by decide) rfl (fun H locs hP hD hS => ?_)
                refine lv_aload_n hx hb dX5_layOutRow_181 rfl (lv_at hl 4 rfl) ?_
                refine va_get (D := (dC, dI)) (ci := 5) (v := .ref (ad 3)) (C := RX5) (T := TX5) (N := 11) hx hb hts (fun w h => gw_mem (inX5 w h)) hown hK.1 hP 0 rfl rfl 1 (by decide) (hts _ (gw_mem wfX5_21)) (fun _ h9 => h9) rfl dX5_layOutRow_182 ?_
                obtain ⟨r477, v478, hf⟩ := bd1_some hf
                have z479 : [3, 4].map (fun i => ((wX5 dA ad c_tree_parts c_bond_terms c_penceByUps w11 w465 c_called c_hold c_value w428 c_act c_rowOfKey))[i]?) = ((wX0 dA (fun i => ad (i + 3)) c_bond_terms)).map some := rfl
                refine gpi [3, 4] [0, 1, 2, 5, 6, 7, 8, 9, 10, 11, 12, 13] [0, 1, 2, 12, 13, 3, 4, 5, 6, 7, 8, 9, 10, 11] (wf := (wX5 dA ad c_tree_parts c_bond_terms c_penceByUps w11 w465 c_called c_hold c_value w428 c_act c_rowOfKey)) (va_runV (As := []) (rest := [.int r474]) ⟨hx, hb, hml, hown, hts⟩ (tX0_softLeast l dC dI dA (fun i => ad (i + 3)) H.size v478) (ccX5_X0_softLeast hts ⟨Nat.le_of_ble_eq_true rfl, Nat.le_of_ble_eq_true rfl⟩) (gPreV (ci := 1) (q0 := 0) (gsub z479 hP) hK (gsubD z479 (by decide) hD) rfl rfl) rfl rfl hl.1 rfl (lv_room (Nat.le_of_ble_eq_true rfl)) dX5_layOutRow_185 ⟨Nat.le_of_ble_eq_true rfl, Nat.le_of_ble_eq_true rfl⟩) hP hD hS hA z479 rfl (by decide) (by decide) (by decide) rfl (fun H locs hP hD hS => ?_)
                refine lv_icmp_lt (tgt := 195) hx hb dX5_layOutRow_188 (by decide) (fun k480 => ?_) (fun k480 => ?_)
                · replace hf := ifp k480 hf
                  refine lv_iconst (v := 0) hx hb dX5_layOutRow_195 (by decide) ?_
                  refine lv_istore (lv' := [(8, .int 0), (7, .int 0), (6, .int w421), (4, .long w285), (3, .int r1), (0, .ref (ad 0)), (1, .int p1), (2, .int p2)]) hx hb dX5_layOutRow_196 hl (by decide) rfl (fun ls hl => ?_)
                  refine lv_aload_n hx hb dX5_layOutRow_198 rfl (lv_at hl 5 rfl) ?_
                  refine va_get (D := (dC, dI)) (ci := 5) (v := .ref (ad 8)) (C := RX5) (T := TX5) (N := 11) hx hb hts (fun w h => gw_mem (inX5 w h)) hown hK.1 hP 0 rfl rfl 5 (by decide) (hts _ (gw_mem wfX5_35)) (fun _ h9 => h9) rfl dX5_layOutRow_199 ?_
                  refine lv_iload_n hx hb dX5_layOutRow_202 rfl (lv_at hl 6 rfl) ?_
                  refine lv_iload hx hb dX5_layOutRow_203 (lv_at hl 0 rfl) ?_
                  refine lv_if_eq (tgt := 229) hx hb dX5_layOutRow_205 (by decide) (fun k481 => ?_) (fun k481 => absurd k481 (by decide))
                  refine lv_ldc2 (v := (-2)) hx hb hown (hts _ (gw_mem wkX5_75)) dX5_layOutRow_229 ?_
                  obtain ⟨h482, hf⟩ := og_some hf
                  obtain ⟨w483, ew483⟩ : ∃ y : Nat → Int64, y = vp_updL c_called (Int32.toNatClampNeg p1) (-2) := ⟨_, rfl⟩
                  replace hf := nm_at hf ew483
                  refine va_last hx hb hK.1 hP hD hS 8 1 rfl rfl (okI_in h482) dX5_layOutRow_232 (fun H locs hP hD hS => ?_)
                  have hP : va_P (dC, dI) vwCl (wX5 dA ad c_tree_parts c_bond_terms c_penceByUps w11 w465 w483 c_hold c_value w428 c_act c_rowOfKey) H := by rw [ew483]; exact hP
                  have hD : va_D A (wX5 dA ad c_tree_parts c_bond_terms c_penceByUps w11 w465 w483 c_hold c_value w428 c_act c_rowOfKey) := by rw [ew483]; exact hD
                  cases hf
                  exact W.vret hx hb hr (fun t ht _ => gqv hP hD hS ht) hS.2.2 dX5_layOutRow_233
                · replace hf := ifn k480 hf
                  refine lv_iconst (v := 1) hx hb dX5_layOutRow_191 (by decide) ?_
                  refine lv_goto (tgt := 196) hx hb dX5_layOutRow_192 (by decide) ?_
                  refine lv_istore (lv' := [(8, .int 1), (7, .int 0), (6, .int w421), (4, .long w285), (3, .int r1), (0, .ref (ad 0)), (1, .int p1), (2, .int p2)]) hx hb dX5_layOutRow_196 hl (by decide) rfl (fun ls hl => ?_)
                  refine lv_aload_n hx hb dX5_layOutRow_198 rfl (lv_at hl 5 rfl) ?_
                  refine va_get (D := (dC, dI)) (ci := 5) (v := .ref (ad 8)) (C := RX5) (T := TX5) (N := 11) hx hb hts (fun w h => gw_mem (inX5 w h)) hown hK.1 hP 0 rfl rfl 5 (by decide) (hts _ (gw_mem wfX5_35)) (fun _ h9 => h9) rfl dX5_layOutRow_199 ?_
                  refine lv_iload_n hx hb dX5_layOutRow_202 rfl (lv_at hl 6 rfl) ?_
                  refine lv_iload hx hb dX5_layOutRow_203 (lv_at hl 0 rfl) ?_
                  refine lv_if_eq (tgt := 229) hx hb dX5_layOutRow_205 (by decide) (fun k484 => absurd k484 (by decide)) (fun k484 => ?_)
                  refine lv_aload_n hx hb dX5_layOutRow_208 rfl (lv_at hl 5 rfl) ?_
                  refine va_get (D := (dC, dI)) (ci := 5) (v := .ref (ad 3)) (C := RX5) (T := TX5) (N := 11) hx hb hts (fun w h => gw_mem (inX5 w h)) hown hK.1 hP 0 rfl rfl 1 (by decide) (hts _ (gw_mem wfX5_21)) (fun _ h9 => h9) rfl dX5_layOutRow_209 ?_
                  refine lv_iload_n hx hb dX5_layOutRow_212 rfl (lv_at hl 7 rfl) ?_
                  obtain ⟨r485, v486, hf⟩ := bd1_some hf
                  have z487 : [3, 4].map (fun i => ((wX5 dA ad c_tree_parts c_bond_terms c_penceByUps w11 w465 c_called c_hold c_value w428 c_act c_rowOfKey))[i]?) = ((wX0 dA (fun i => ad (i + 3)) c_bond_terms)).map some := rfl
                  refine gpi [3, 4] [0, 1, 2, 5, 6, 7, 8, 9, 10, 11, 12, 13] [0, 1, 2, 12, 13, 3, 4, 5, 6, 7, 8, 9, 10, 11] (wf := (wX5 dA ad c_tree_parts c_bond_terms c_penceByUps w11 w465 c_called c_hold c_value w428 c_act c_rowOfKey)) (va_runV (As := [.int p2]) (rest := [.int p1, .ref (ad 8)]) ⟨hx, hb, hml, hown, hts⟩ (tX0_callOn l dC dI dA (fun i => ad (i + 3)) H.size v486) (ccX5_X0_callOn hts ⟨Nat.le_of_ble_eq_true rfl, Nat.le_of_ble_eq_true rfl⟩) (gPreV (ci := 1) (q0 := 0) (gsub z487 hP) hK (gsubD z487 (by decide) hD) rfl rfl) rfl rfl hl.1 rfl (lv_room (Nat.le_of_ble_eq_true rfl)) dX5_layOutRow_213 ⟨Nat.le_of_ble_eq_true rfl, Nat.le_of_ble_eq_true rfl⟩) hP hD hS hA z487 rfl (by decide) (by decide) (by decide) rfl (fun H locs hP hD hS => ?_)
                  refine lv_i2l hx hb dX5_layOutRow_216 rfl ?_
                  refine lv_aload_n hx hb dX5_layOutRow_217 rfl (lv_at hl 5 rfl) ?_
                  refine va_get (D := (dC, dI)) (ci := 5) (v := .ref (ad 7)) (C := RX5) (T := TX5) (N := 11) hx hb hts (fun w h => gw_mem (inX5 w h)) hown hK.1 hP 0 rfl rfl 4 (by decide) (hts _ (gw_mem wfX5_32)) (fun _ h9 => h9) rfl dX5_layOutRow_218 ?_
                  refine lv_iload_n hx hb dX5_layOutRow_221 rfl (lv_at hl 6 rfl) ?_
                  obtain ⟨h488, hf⟩ := og_some hf
                  refine va_lald hx hb hK.1 hP 7 1 rfl rfl (okI_in h488) dX5_layOutRow_222 ?_
                  refine va_mmax_long hx hb (hml.trans hl.1.symm) hown (hts _ (gw_mem wmX5_134)) (hts _ (gw_mem wtJ9_max_f86c9)) (hts _ (gw_mem wnJ9)) (hts _ (gw_mem wcJ9_max_f86c9)) (Nat.le_of_ble_eq_true rfl) (Nat.le_of_ble_eq_true rfl) (Nat.le_of_ble_eq_true rfl) (Nat.le_of_ble_eq_true rfl) dX5_layOutRow_223 ?_
                  refine lv_goto (tgt := 232) hx hb dX5_layOutRow_226 (by decide) ?_
                  obtain ⟨h489, hf⟩ := og_some hf
                  obtain ⟨w490, ew490⟩ : ∃ y : Nat → Int64, y = vp_updL c_called (Int32.toNatClampNeg p1) (if (w465 (Int32.toNatClampNeg p1)) < (Int32.toInt64 r485) then (Int32.toInt64 r485) else (w465 (Int32.toNatClampNeg p1))) := ⟨_, rfl⟩
                  replace hf := nm_at hf ew490
                  refine va_last hx hb hK.1 hP hD hS 8 1 rfl rfl (okI_in h489) dX5_layOutRow_232 (fun H locs hP hD hS => ?_)
                  have hP : va_P (dC, dI) vwCl (wX5 dA ad c_tree_parts c_bond_terms c_penceByUps w11 w465 w490 c_hold c_value w428 c_act c_rowOfKey) H := by rw [ew490]; exact hP
                  have hD : va_D A (wX5 dA ad c_tree_parts c_bond_terms c_penceByUps w11 w465 w490 c_hold c_value w428 c_act c_rowOfKey) := by rw [ew490]; exact hD
                  cases hf
                  exact W.vret hx hb hr (fun t ht _ => gqv hP hD hS ht) hS.2.2 dX5_layOutRow_233
          · replace hf := ifn (fun h => k426 (lc_lt.mpr h)) hf
            refine lv_iconst (v := 1) hx hb dX5_layOutRow_96 (by decide) ?_
            refine lv_goto (tgt := 101) hx hb dX5_layOutRow_97 (by decide) ?_
            refine lv_istore (lv' := [(7, .int 1), (6, .int w421), (4, .long w285), (3, .int r1), (0, .ref (ad 0)), (1, .int p1), (2, .int p2)]) hx hb dX5_layOutRow_101 hl (by decide) rfl (fun ls hl => ?_)
            refine lv_aload_n hx hb dX5_layOutRow_103 rfl (lv_at hl 4 rfl) ?_
            refine va_get (D := (dC, dI)) (ci := 5) (v := .ref (ad 11)) (C := RX5) (T := TX5) (N := 11) hx hb hts (fun w h => gw_mem (inX5 w h)) hown hK.1 hP 0 rfl rfl 8 (by decide) (hts _ (gw_mem wfX5_44)) (fun _ h9 => h9) rfl dX5_layOutRow_104 ?_
            refine lv_iload_n hx hb dX5_layOutRow_107 rfl (lv_at hl 5 rfl) ?_
            refine lv_iload hx hb dX5_layOutRow_108 (lv_at hl 1 rfl) ?_
            refine lv_iconst (v := 2) hx hb dX5_layOutRow_110 (by decide) ?_
            refine lv_imul hx hb dX5_layOutRow_111 ?_
            refine lv_iload hx hb dX5_layOutRow_112 (lv_at hl 0 rfl) ?_
            refine lv_iadd hx hb dX5_layOutRow_114 ?_
            refine lv_bipush (v := 7) hx hb dX5_layOutRow_115 (by decide) ?_
            refine lv_iand hx hb dX5_layOutRow_117 ?_
            obtain ⟨h491, hf⟩ := og_some hf
            obtain ⟨w492, ew492⟩ : ∃ y : Nat → Int32, y = upd c_marks (Int32.toNatClampNeg p1) (((w421 * 2) + 1) &&& 7) := ⟨_, rfl⟩
            replace hf := nm_at hf ew492
            refine va_iast hx hb hK.1 hP hD hS 11 0 rfl rfl (okI_in h491) dX5_layOutRow_118 (fun H locs hP hD hS => ?_)
            have hP : va_P (dC, dI) vwCl (wX5 dA ad c_tree_parts c_bond_terms c_penceByUps w11 c_turned c_called c_hold c_value w492 c_act c_rowOfKey) H := by rw [ew492]; exact hP
            have hD : va_D A (wX5 dA ad c_tree_parts c_bond_terms c_penceByUps w11 c_turned c_called c_hold c_value w492 c_act c_rowOfKey) := by rw [ew492]; exact hD
            refine lv_aload_n hx hb dX5_layOutRow_119 rfl (lv_at hl 4 rfl) ?_
            refine va_get (D := (dC, dI)) (ci := 5) (v := .ref (ad 7)) (C := RX5) (T := TX5) (N := 11) hx hb hts (fun w h => gw_mem (inX5 w h)) hown hK.1 hP 0 rfl rfl 4 (by decide) (hts _ (gw_mem wfX5_32)) (fun _ h9 => h9) rfl dX5_layOutRow_120 ?_
            refine lv_iload_n hx hb dX5_layOutRow_123 rfl (lv_at hl 5 rfl) ?_
            refine lv_aload_n hx hb dX5_layOutRow_124 rfl (lv_at hl 4 rfl) ?_
            refine va_get (D := (dC, dI)) (ci := 5) (v := .ref (ad 3)) (C := RX5) (T := TX5) (N := 11) hx hb hts (fun w h => gw_mem (inX5 w h)) hown hK.1 hP 0 rfl rfl 1 (by decide) (hts _ (gw_mem wfX5_21)) (fun _ h9 => h9) rfl dX5_layOutRow_125 ?_
            refine lv_iload_n hx hb dX5_layOutRow_128 rfl (lv_at hl 6 rfl) ?_
            obtain ⟨r493, v494, hf⟩ := bd1_some hf
            have z495 : [3, 4].map (fun i => ((wX5 dA ad c_tree_parts c_bond_terms c_penceByUps w11 c_turned c_called c_hold c_value w492 c_act c_rowOfKey))[i]?) = ((wX0 dA (fun i => ad (i + 3)) c_bond_terms)).map some := rfl
            refine gpi [3, 4] [0, 1, 2, 5, 6, 7, 8, 9, 10, 11, 12, 13] [0, 1, 2, 12, 13, 3, 4, 5, 6, 7, 8, 9, 10, 11] (wf := (wX5 dA ad c_tree_parts c_bond_terms c_penceByUps w11 c_turned c_called c_hold c_value w492 c_act c_rowOfKey)) (va_runV (As := [.int p2]) (rest := [.int p1, .ref (ad 7)]) ⟨hx, hb, hml, hown, hts⟩ (tX0_mayTurnOn l dC dI dA (fun i => ad (i + 3)) H.size v494) (ccX5_X0_mayTurnOn hts ⟨Nat.le_of_ble_eq_true rfl, Nat.le_of_ble_eq_true rfl⟩) (gPreV (ci := 1) (q0 := 0) (gsub z495 hP) hK (gsubD z495 (by decide) hD) rfl rfl) rfl rfl hl.1 rfl (lv_room (Nat.le_of_ble_eq_true rfl)) dX5_layOutRow_129 ⟨Nat.le_of_ble_eq_true rfl, Nat.le_of_ble_eq_true rfl⟩) hP hD hS hA z495 rfl (by decide) (by decide) (by decide) rfl (fun H locs hP hD hS => ?_)
            refine lv_if_eq (tgt := 153) hx hb dX5_layOutRow_132 (by decide) (fun k496 => ?_) (fun k496 => ?_)
            · replace hf := ifp k496 hf
              refine lv_ldc2 (v := (-2)) hx hb hown (hts _ (gw_mem wkX5_75)) dX5_layOutRow_153 ?_
              obtain ⟨h497, hf⟩ := og_some hf
              obtain ⟨w498, ew498⟩ : ∃ y : Nat → Int64, y = vp_updL c_turned (Int32.toNatClampNeg p1) (-2) := ⟨_, rfl⟩
              replace hf := nm_at hf ew498
              refine va_last hx hb hK.1 hP hD hS 7 1 rfl rfl (okI_in h497) dX5_layOutRow_156 (fun H locs hP hD hS => ?_)
              have hP : va_P (dC, dI) vwCl (wX5 dA ad c_tree_parts c_bond_terms c_penceByUps w11 w498 c_called c_hold c_value w492 c_act c_rowOfKey) H := by rw [ew498]; exact hP
              have hD : va_D A (wX5 dA ad c_tree_parts c_bond_terms c_penceByUps w11 w498 c_called c_hold c_value w492 c_act c_rowOfKey) := by rw [ew498]; exact hD
              refine lv_aload_n hx hb dX5_layOutRow_157 rfl (lv_at hl 4 rfl) ?_
              refine va_get (D := (dC, dI)) (ci := 5) (v := .ref (ad 3)) (C := RX5) (T := TX5) (N := 11) hx hb hts (fun w h => gw_mem (inX5 w h)) hown hK.1 hP 0 rfl rfl 1 (by decide) (hts _ (gw_mem wfX5_21)) (fun _ h9 => h9) rfl dX5_layOutRow_158 ?_
              refine lv_iload_n hx hb dX5_layOutRow_161 rfl (lv_at hl 6 rfl) ?_
              obtain ⟨r499, v500, hf⟩ := bd1_some hf
              have z501 : [3, 4].map (fun i => ((wX5 dA ad c_tree_parts c_bond_terms c_penceByUps w11 w498 c_called c_hold c_value w492 c_act c_rowOfKey))[i]?) = ((wX0 dA (fun i => ad (i + 3)) c_bond_terms)).map some := rfl
              refine gpi [3, 4] [0, 1, 2, 5, 6, 7, 8, 9, 10, 11, 12, 13] [0, 1, 2, 12, 13, 3, 4, 5, 6, 7, 8, 9, 10, 11] (wf := (wX5 dA ad c_tree_parts c_bond_terms c_penceByUps w11 w498 c_called c_hold c_value w492 c_act c_rowOfKey)) (va_runV (As := [.int p2]) (rest := []) ⟨hx, hb, hml, hown, hts⟩ (tX0_callOn l dC dI dA (fun i => ad (i + 3)) H.size v500) (ccX5_X0_callOn hts ⟨Nat.le_of_ble_eq_true rfl, Nat.le_of_ble_eq_true rfl⟩) (gPreV (ci := 1) (q0 := 0) (gsub z501 hP) hK (gsubD z501 (by decide) hD) rfl rfl) rfl rfl hl.1 rfl (lv_room (Nat.le_of_ble_eq_true rfl)) dX5_layOutRow_162 ⟨Nat.le_of_ble_eq_true rfl, Nat.le_of_ble_eq_true rfl⟩) hP hD hS hA z501 rfl (by decide) (by decide) (by decide) rfl (fun H locs hP hD hS => ?_)
              refine lv_if_lt (tgt := 195) hx hb dX5_layOutRow_165 (by decide) (fun k502 => ?_) (fun k502 => ?_)
              · replace hf := ifp k502 hf
                refine lv_iconst (v := 0) hx hb dX5_layOutRow_195 (by decide) ?_
                refine lv_istore (lv' := [(8, .int 0), (7, .int 1), (6, .int w421), (4, .long w285), (3, .int r1), (0, .ref (ad 0)), (1, .int p1), (2, .int p2)]) hx hb dX5_layOutRow_196 hl (by decide) rfl (fun ls hl => ?_)
                refine lv_aload_n hx hb dX5_layOutRow_198 rfl (lv_at hl 5 rfl) ?_
                refine va_get (D := (dC, dI)) (ci := 5) (v := .ref (ad 8)) (C := RX5) (T := TX5) (N := 11) hx hb hts (fun w h => gw_mem (inX5 w h)) hown hK.1 hP 0 rfl rfl 5 (by decide) (hts _ (gw_mem wfX5_35)) (fun _ h9 => h9) rfl dX5_layOutRow_199 ?_
                refine lv_iload_n hx hb dX5_layOutRow_202 rfl (lv_at hl 6 rfl) ?_
                refine lv_iload hx hb dX5_layOutRow_203 (lv_at hl 0 rfl) ?_
                refine lv_if_eq (tgt := 229) hx hb dX5_layOutRow_205 (by decide) (fun k503 => ?_) (fun k503 => absurd k503 (by decide))
                refine lv_ldc2 (v := (-2)) hx hb hown (hts _ (gw_mem wkX5_75)) dX5_layOutRow_229 ?_
                obtain ⟨h504, hf⟩ := og_some hf
                obtain ⟨w505, ew505⟩ : ∃ y : Nat → Int64, y = vp_updL c_called (Int32.toNatClampNeg p1) (-2) := ⟨_, rfl⟩
                replace hf := nm_at hf ew505
                refine va_last hx hb hK.1 hP hD hS 8 1 rfl rfl (okI_in h504) dX5_layOutRow_232 (fun H locs hP hD hS => ?_)
                have hP : va_P (dC, dI) vwCl (wX5 dA ad c_tree_parts c_bond_terms c_penceByUps w11 w498 w505 c_hold c_value w492 c_act c_rowOfKey) H := by rw [ew505]; exact hP
                have hD : va_D A (wX5 dA ad c_tree_parts c_bond_terms c_penceByUps w11 w498 w505 c_hold c_value w492 c_act c_rowOfKey) := by rw [ew505]; exact hD
                cases hf
                exact W.vret hx hb hr (fun t ht _ => gqv hP hD hS ht) hS.2.2 dX5_layOutRow_233
              · replace hf := ifn k502 hf
                refine lv_aload_n hx hb dX5_layOutRow_168 rfl (lv_at hl 4 rfl) ?_
                refine va_get (D := (dC, dI)) (ci := 5) (v := .ref (ad 3)) (C := RX5) (T := TX5) (N := 11) hx hb hts (fun w h => gw_mem (inX5 w h)) hown hK.1 hP 0 rfl rfl 1 (by decide) (hts _ (gw_mem wfX5_21)) (fun _ h9 => h9) rfl dX5_layOutRow_169 ?_
                refine lv_aload_n hx hb dX5_layOutRow_172 rfl (lv_at hl 4 rfl) ?_
                refine va_get (D := (dC, dI)) (ci := 5) (v := .ref (ad 11)) (C := RX5) (T := TX5) (N := 11) hx hb hts (fun w h => gw_mem (inX5 w h)) hown hK.1 hP 0 rfl rfl 8 (by decide) (hts _ (gw_mem wfX5_44)) (fun _ h9 => h9) rfl dX5_layOutRow_173 ?_
                refine lv_iload_n hx hb dX5_layOutRow_176 rfl (lv_at hl 5 rfl) ?_
                obtain ⟨h506, hf⟩ := og_some hf
                refine va_iald hx hb hK.1 hP 11 0 rfl rfl (okI_in h506) dX5_layOutRow_177 ?_
                obtain ⟨r507, v508, hf⟩ := bd1_some hf
                have z509 : [3, 4].map (fun i => ((wX5 dA ad c_tree_parts c_bond_terms c_penceByUps w11 w498 c_called c_hold c_value w492 c_act c_rowOfKey))[i]?) = ((wX0 dA (fun i => ad (i + 3)) c_bond_terms)).map some := rfl
                refine gpi [3, 4] [0, 1, 2, 5, 6, 7, 8, 9, 10, 11, 12, 13] [0, 1, 2, 12, 13, 3, 4, 5, 6, 7, 8, 9, 10, 11] (wf := (wX5 dA ad c_tree_parts c_bond_terms c_penceByUps w11 w498 c_called c_hold c_value w492 c_act c_rowOfKey)) (va_runV (As := [.int (w492 (Int32.toNatClampNeg p1))]) (rest := []) ⟨hx, hb, hml, hown, hts⟩ (tX0_highDays l dC dI dA (fun i => ad (i + 3)) H.size v508) (ccX5_X0_highDays hts ⟨Nat.le_of_ble_eq_true rfl, Nat.le_of_ble_eq_true rfl⟩) (gPreV (ci := 1) (q0 := 0) (gsub z509 hP) hK (gsubD z509 (by decide) hD) rfl rfl) rfl rfl hl.1 rfl (lv_room (Nat.le_of_ble_eq_true rfl)) dX5_layOutRow_178 ⟨Nat.le_of_ble_eq_true rfl, Nat.le_of_ble_eq_true rfl⟩) hP hD hS hA z509 rfl (by decide) (by decide) (by decide) rfl (fun H locs hP hD hS => ?_)
                refine lv_aload_n hx hb dX5_layOutRow_181 rfl (lv_at hl 4 rfl) ?_
                refine va_get (D := (dC, dI)) (ci := 5) (v := .ref (ad 3)) (C := RX5) (T := TX5) (N := 11) hx hb hts (fun w h => gw_mem (inX5 w h)) hown hK.1 hP 0 rfl rfl 1 (by decide) (hts _ (gw_mem wfX5_21)) (fun _ h9 => h9) rfl dX5_layOutRow_182 ?_
                obtain ⟨r510, v511, hf⟩ := bd1_some hf
                have z512 : [3, 4].map (fun i => ((wX5 dA ad c_tree_parts c_bond_terms c_penceByUps w11 w498 c_called c_hold c_value w492 c_act c_rowOfKey))[i]?) = ((wX0 dA (fun i => ad (i + 3)) c_bond_terms)).map some := rfl
                refine gpi [3, 4] [0, 1, 2, 5, 6, 7, 8, 9, 10, 11, 12, 13] [0, 1, 2, 12, 13, 3, 4, 5, 6, 7, 8, 9, 10, 11] (wf := (wX5 dA ad c_tree_parts c_bond_terms c_penceByUps w11 w498 c_called c_hold c_value w492 c_act c_rowOfKey)) (va_runV (As := []) (rest := [.int r507]) ⟨hx, hb, hml, hown, hts⟩ (tX0_softLeast l dC dI dA (fun i => ad (i + 3)) H.size v511) (ccX5_X0_softLeast hts ⟨Nat.le_of_ble_eq_true rfl, Nat.le_of_ble_eq_true rfl⟩) (gPreV (ci := 1) (q0 := 0) (gsub z512 hP) hK (gsubD z512 (by decide) hD) rfl rfl) rfl rfl hl.1 rfl (lv_room (Nat.le_of_ble_eq_true rfl)) dX5_layOutRow_185 ⟨Nat.le_of_ble_eq_true rfl, Nat.le_of_ble_eq_true rfl⟩) hP hD hS hA z512 rfl (by decide) (by decide) (by decide) rfl (fun H locs hP hD hS => ?_)
                refine lv_icmp_lt (tgt := 195) hx hb dX5_layOutRow_188 (by decide) (fun k513 => ?_) (fun k513 => ?_)
                · replace hf := ifp k513 hf
                  refine lv_iconst (v := 0) hx hb dX5_layOutRow_195 (by decide) ?_
                  refine lv_istore (lv' := [(8, .int 0), (7, .int 1), (6, .int w421), (4, .long w285), (3, .int r1), (0, .ref (ad 0)), (1, .int p1), (2, .int p2)]) hx hb dX5_layOutRow_196 hl (by decide) rfl (fun ls hl => ?_)
                  refine lv_aload_n hx hb dX5_layOutRow_198 rfl (lv_at hl 5 rfl) ?_
                  refine va_get (D := (dC, dI)) (ci := 5) (v := .ref (ad 8)) (C := RX5) (T := TX5) (N := 11) hx hb hts (fun w h => gw_mem (inX5 w h)) hown hK.1 hP 0 rfl rfl 5 (by decide) (hts _ (gw_mem wfX5_35)) (fun _ h9 => h9) rfl dX5_layOutRow_199 ?_
                  refine lv_iload_n hx hb dX5_layOutRow_202 rfl (lv_at hl 6 rfl) ?_
                  refine lv_iload hx hb dX5_layOutRow_203 (lv_at hl 0 rfl) ?_
                  refine lv_if_eq (tgt := 229) hx hb dX5_layOutRow_205 (by decide) (fun k514 => ?_) (fun k514 => absurd k514 (by decide))
                  refine lv_ldc2 (v := (-2)) hx hb hown (hts _ (gw_mem wkX5_75)) dX5_layOutRow_229 ?_
                  obtain ⟨h515, hf⟩ := og_some hf
                  obtain ⟨w516, ew516⟩ : ∃ y : Nat → Int64, y = vp_updL c_called (Int32.toNatClampNeg p1) (-2) := ⟨_, rfl⟩
                  replace hf := nm_at hf ew516
                  refine va_last hx hb hK.1 hP hD hS 8 1 rfl rfl (okI_in h515) dX5_layOutRow_232 (fun H locs hP hD hS => ?_)
                  have hP : va_P (dC, dI) vwCl (wX5 dA ad c_tree_parts c_bond_terms c_penceByUps w11 w498 w516 c_hold c_value w492 c_act c_rowOfKey) H := by rw [ew516]; exact hP
                  have hD : va_D A (wX5 dA ad c_tree_parts c_bond_terms c_penceByUps w11 w498 w516 c_hold c_value w492 c_act c_rowOfKey) := by rw [ew516]; exact hD
                  cases hf
                  exact W.vret hx hb hr (fun t ht _ => gqv hP hD hS ht) hS.2.2 dX5_layOutRow_233
                · replace hf := ifn k513 hf
                  refine lv_iconst (v := 1) hx hb dX5_layOutRow_191 (by decide) ?_
                  refine lv_goto (tgt := 196) hx hb dX5_layOutRow_192 (by decide) ?_
                  refine lv_istore (lv' := [(8, .int 1), (7, .int 1), (6, .int w421), (4, .long w285), (3, .int r1), (0, .ref (ad 0)), (1, .int p1), (2, .int p2)]) hx hb dX5_layOutRow_196 hl (by decide) rfl (fun ls hl => ?_)
                  refine lv_aload_n hx hb dX5_layOutRow_198 rfl (lv_at hl 5 rfl) ?_
                  refine va_get (D := (dC, dI)) (ci := 5) (v := .ref (ad 8)) (C := RX5) (T := TX5) (N := 11) hx hb hts (fun w h => gw_mem (inX5 w h)) hown hK.1 hP 0 rfl rfl 5 (by decide) (hts _ (gw_mem wfX5_35)) (fun _ h9 => h9) rfl dX5_layOutRow_199 ?_
                  refine lv_iload_n hx hb dX5_layOutRow_202 rfl (lv_at hl 6 rfl) ?_
                  refine lv_iload hx hb dX5_layOutRow_203 (lv_at hl 0 rfl) ?_
                  refine lv_if_eq (tgt := 229) hx hb dX5_layOutRow_205 (by decide) (fun k517 => absurd k517 (by decide)) (fun k517 => ?_)
                  refine lv_aload_n hx hb dX5_layOutRow_208 rfl (lv_at hl 5 rfl) ?_
                  refine va_get (D := (dC, dI)) (ci := 5) (v := .ref (ad 3)) (C := RX5) (T := TX5) (N := 11) hx hb hts (fun w h => gw_mem (inX5 w h)) hown hK.1 hP 0 rfl rfl 1 (by decide) (hts _ (gw_mem wfX5_21)) (fun _ h9 => h9) rfl dX5_layOutRow_209 ?_
                  refine lv_iload_n hx hb dX5_layOutRow_212 rfl (lv_at hl 7 rfl) ?_
                  obtain ⟨r518, v519, hf⟩ := bd1_some hf
                  have z520 : [3, 4].map (fun i => ((wX5 dA ad c_tree_parts c_bond_terms c_penceByUps w11 w498 c_called c_hold c_value w492 c_act c_rowOfKey))[i]?) = ((wX0 dA (fun i => ad (i + 3)) c_bond_terms)).map some := rfl
                  refine gpi [3, 4] [0, 1, 2, 5, 6, 7, 8, 9, 10, 11, 12, 13] [0, 1, 2, 12, 13, 3, 4, 5, 6, 7, 8, 9, 10, 11] (wf := (wX5 dA ad c_tree_parts c_bond_terms c_penceByUps w11 w498 c_called c_hold c_value w492 c_act c_rowOfKey)) (va_runV (As := [.int p2]) (rest := [.int p1, .ref (ad 8)]) ⟨hx, hb, hml, hown, hts⟩ (tX0_callOn l dC dI dA (fun i => ad (i + 3)) H.size v519) (ccX5_X0_callOn hts ⟨Nat.le_of_ble_eq_true rfl, Nat.le_of_ble_eq_true rfl⟩) (gPreV (ci := 1) (q0 := 0) (gsub z520 hP) hK (gsubD z520 (by decide) hD) rfl rfl) rfl rfl hl.1 rfl (lv_room (Nat.le_of_ble_eq_true rfl)) dX5_layOutRow_213 ⟨Nat.le_of_ble_eq_true rfl, Nat.le_of_ble_eq_true rfl⟩) hP hD hS hA z520 rfl (by decide) (by decide) (by decide) rfl (fun H locs hP hD hS => ?_)
                  refine lv_i2l hx hb dX5_layOutRow_216 rfl ?_
                  refine lv_aload_n hx hb dX5_layOutRow_217 rfl (lv_at hl 5 rfl) ?_
                  refine va_get (D := (dC, dI)) (ci := 5) (v := .ref (ad 7)) (C := RX5) (T := TX5) (N := 11) hx hb hts (fun w h => gw_mem (inX5 w h)) hown hK.1 hP 0 rfl rfl 4 (by decide) (hts _ (gw_mem wfX5_32)) (fun _ h9 => h9) rfl dX5_layOutRow_218 ?_
                  refine lv_iload_n hx hb dX5_layOutRow_221 rfl (lv_at hl 6 rfl) ?_
                  obtain ⟨h521, hf⟩ := og_some hf
                  refine va_lald hx hb hK.1 hP 7 1 rfl rfl (okI_in h521) dX5_layOutRow_222 ?_
                  refine va_mmax_long hx hb (hml.trans hl.1.symm) hown (hts _ (gw_mem wmX5_134)) (hts _ (gw_mem wtJ9_max_f86c9)) (hts _ (gw_mem wnJ9)) (hts _ (gw_mem wcJ9_max_f86c9)) (Nat.le_of_ble_eq_true rfl) (Nat.le_of_ble_eq_true rfl) (Nat.le_of_ble_eq_true rfl) (Nat.le_of_ble_eq_true rfl) dX5_layOutRow_223 ?_
                  refine lv_goto (tgt := 232) hx hb dX5_layOutRow_226 (by decide) ?_
                  obtain ⟨h522, hf⟩ := og_some hf
                  obtain ⟨w523, ew523⟩ : ∃ y : Nat → Int64, y = vp_updL c_called (Int32.toNatClampNeg p1) (if (w498 (Int32.toNatClampNeg p1)) < (Int32.toInt64 r518) then (Int32.toInt64 r518) else (w498 (Int32.toNatClampNeg p1))) := ⟨_, rfl⟩
                  replace hf := nm_at hf ew523
                  refine va_last hx hb hK.1 hP hD hS 8 1 rfl rfl (okI_in h522) dX5_layOutRow_232 (fun H locs hP hD hS => ?_)
                  have hP : va_P (dC, dI) vwCl (wX5 dA ad c_tree_parts c_bond_terms c_penceByUps w11 w498 w523 c_hold c_value w492 c_act c_rowOfKey) H := by rw [ew523]; exact hP
                  have hD : va_D A (wX5 dA ad c_tree_parts c_bond_terms c_penceByUps w11 w498 w523 c_hold c_value w492 c_act c_rowOfKey) := by rw [ew523]; exact hD
                  cases hf
                  exact W.vret hx hb hr (fun t ht _ => gqv hP hD hS ht) hS.2.2 dX5_layOutRow_233
            · replace hf := ifn k496 hf
              refine lv_aload_n hx hb dX5_layOutRow_135 rfl (lv_at hl 4 rfl) ?_
              refine va_get (D := (dC, dI)) (ci := 5) (v := .ref (ad 3)) (C := RX5) (T := TX5) (N := 11) hx hb hts (fun w h => gw_mem (inX5 w h)) hown hK.1 hP 0 rfl rfl 1 (by decide) (hts _ (gw_mem wfX5_21)) (fun _ h9 => h9) rfl dX5_layOutRow_136 ?_
              refine lv_aload_n hx hb dX5_layOutRow_139 rfl (lv_at hl 4 rfl) ?_
              refine va_get (D := (dC, dI)) (ci := 5) (v := .ref (ad 6)) (C := RX5) (T := TX5) (N := 11) hx hb hts (fun w h => gw_mem (inX5 w h)) hown hK.1 hP 0 rfl rfl 3 (by decide) (hts _ (gw_mem wfX5_29)) (fun _ h9 => h9) rfl dX5_layOutRow_140 ?_
              refine lv_iload_n hx hb dX5_layOutRow_143 rfl (lv_at hl 5 rfl) ?_
              obtain ⟨h524, hf⟩ := og_some hf
              refine va_lald hx hb hK.1 hP 6 1 rfl rfl (okI_in h524) dX5_layOutRow_144 ?_
              refine lv_lload hx hb dX5_layOutRow_145 (lv_at hl 2 rfl) ?_
              obtain ⟨r525, v526, hf⟩ := bd1_some hf
              have z527 : [3, 4].map (fun i => ((wX5 dA ad c_tree_parts c_bond_terms c_penceByUps w11 c_turned c_called c_hold c_value w492 c_act c_rowOfKey))[i]?) = ((wX0 dA (fun i => ad (i + 3)) c_bond_terms)).map some := rfl
              refine gpl [3, 4] [0, 1, 2, 5, 6, 7, 8, 9, 10, 11, 12, 13] [0, 1, 2, 12, 13, 3, 4, 5, 6, 7, 8, 9, 10, 11] (wf := (wX5 dA ad c_tree_parts c_bond_terms c_penceByUps w11 c_turned c_called c_hold c_value w492 c_act c_rowOfKey)) (va_runV (As := [.long (w11 (Int32.toNatClampNeg p1)), .long w285]) (rest := [.int p1, .ref (ad 7)]) ⟨hx, hb, hml, hown, hts⟩ (tX0_turnedWorth l dC dI dA (fun i => ad (i + 3)) H.size v526) (ccX5_X0_turnedWorth hts ⟨Nat.le_of_ble_eq_true rfl, Nat.le_of_ble_eq_true rfl⟩) (gPreV (ci := 1) (q0 := 0) (gsub z527 hP) hK (gsubD z527 (by decide) hD) rfl rfl) rfl rfl hl.1 rfl (lv_room (Nat.le_of_ble_eq_true rfl)) dX5_layOutRow_147 ⟨Nat.le_of_ble_eq_true rfl, Nat.le_of_ble_eq_true rfl⟩) hP hD hS hA z527 rfl (by decide) (by decide) (by decide) rfl (fun H locs hP hD hS => ?_)
              refine lv_goto (tgt := 156) hx hb dX5_layOutRow_150 (by decide) ?_
              obtain ⟨h528, hf⟩ := og_some hf
              obtain ⟨w529, ew529⟩ : ∃ y : Nat → Int64, y = vp_updL c_turned (Int32.toNatClampNeg p1) r525 := ⟨_, rfl⟩
              replace hf := nm_at hf ew529
              refine va_last hx hb hK.1 hP hD hS 7 1 rfl rfl (okI_in h528) dX5_layOutRow_156 (fun H locs hP hD hS => ?_)
              have hP : va_P (dC, dI) vwCl (wX5 dA ad c_tree_parts c_bond_terms c_penceByUps w11 w529 c_called c_hold c_value w492 c_act c_rowOfKey) H := by rw [ew529]; exact hP
              have hD : va_D A (wX5 dA ad c_tree_parts c_bond_terms c_penceByUps w11 w529 c_called c_hold c_value w492 c_act c_rowOfKey) := by rw [ew529]; exact hD
              refine lv_aload_n hx hb dX5_layOutRow_157 rfl (lv_at hl 4 rfl) ?_
              refine va_get (D := (dC, dI)) (ci := 5) (v := .ref (ad 3)) (C := RX5) (T := TX5) (N := 11) hx hb hts (fun w h => gw_mem (inX5 w h)) hown hK.1 hP 0 rfl rfl 1 (by decide) (hts _ (gw_mem wfX5_21)) (fun _ h9 => h9) rfl dX5_layOutRow_158 ?_
              refine lv_iload_n hx hb dX5_layOutRow_161 rfl (lv_at hl 6 rfl) ?_
              obtain ⟨r530, v531, hf⟩ := bd1_some hf
              have z532 : [3, 4].map (fun i => ((wX5 dA ad c_tree_parts c_bond_terms c_penceByUps w11 w529 c_called c_hold c_value w492 c_act c_rowOfKey))[i]?) = ((wX0 dA (fun i => ad (i + 3)) c_bond_terms)).map some := rfl
              refine gpi [3, 4] [0, 1, 2, 5, 6, 7, 8, 9, 10, 11, 12, 13] [0, 1, 2, 12, 13, 3, 4, 5, 6, 7, 8, 9, 10, 11] (wf := (wX5 dA ad c_tree_parts c_bond_terms c_penceByUps w11 w529 c_called c_hold c_value w492 c_act c_rowOfKey)) (va_runV (As := [.int p2]) (rest := []) ⟨hx, hb, hml, hown, hts⟩ (tX0_callOn l dC dI dA (fun i => ad (i + 3)) H.size v531) (ccX5_X0_callOn hts ⟨Nat.le_of_ble_eq_true rfl, Nat.le_of_ble_eq_true rfl⟩) (gPreV (ci := 1) (q0 := 0) (gsub z532 hP) hK (gsubD z532 (by decide) hD) rfl rfl) rfl rfl hl.1 rfl (lv_room (Nat.le_of_ble_eq_true rfl)) dX5_layOutRow_162 ⟨Nat.le_of_ble_eq_true rfl, Nat.le_of_ble_eq_true rfl⟩) hP hD hS hA z532 rfl (by decide) (by decide) (by decide) rfl (fun H locs hP hD hS => ?_)
              refine lv_if_lt (tgt := 195) hx hb dX5_layOutRow_165 (by decide) (fun k533 => ?_) (fun k533 => ?_)
              · replace hf := ifp k533 hf
                refine lv_iconst (v := 0) hx hb dX5_layOutRow_195 (by decide) ?_
                refine lv_istore (lv' := [(8, .int 0), (7, .int 1), (6, .int w421), (4, .long w285), (3, .int r1), (0, .ref (ad 0)), (1, .int p1), (2, .int p2)]) hx hb dX5_layOutRow_196 hl (by decide) rfl (fun ls hl => ?_)
                refine lv_aload_n hx hb dX5_layOutRow_198 rfl (lv_at hl 5 rfl) ?_
                refine va_get (D := (dC, dI)) (ci := 5) (v := .ref (ad 8)) (C := RX5) (T := TX5) (N := 11) hx hb hts (fun w h => gw_mem (inX5 w h)) hown hK.1 hP 0 rfl rfl 5 (by decide) (hts _ (gw_mem wfX5_35)) (fun _ h9 => h9) rfl dX5_layOutRow_199 ?_
                refine lv_iload_n hx hb dX5_layOutRow_202 rfl (lv_at hl 6 rfl) ?_
                refine lv_iload hx hb dX5_layOutRow_203 (lv_at hl 0 rfl) ?_
                refine lv_if_eq (tgt := 229) hx hb dX5_layOutRow_205 (by decide) (fun k534 => ?_) (fun k534 => absurd k534 (by decide))
                refine lv_ldc2 (v := (-2)) hx hb hown (hts _ (gw_mem wkX5_75)) dX5_layOutRow_229 ?_
                obtain ⟨h535, hf⟩ := og_some hf
                obtain ⟨w536, ew536⟩ : ∃ y : Nat → Int64, y = vp_updL c_called (Int32.toNatClampNeg p1) (-2) := ⟨_, rfl⟩
                replace hf := nm_at hf ew536
                refine va_last hx hb hK.1 hP hD hS 8 1 rfl rfl (okI_in h535) dX5_layOutRow_232 (fun H locs hP hD hS => ?_)
                have hP : va_P (dC, dI) vwCl (wX5 dA ad c_tree_parts c_bond_terms c_penceByUps w11 w529 w536 c_hold c_value w492 c_act c_rowOfKey) H := by rw [ew536]; exact hP
                have hD : va_D A (wX5 dA ad c_tree_parts c_bond_terms c_penceByUps w11 w529 w536 c_hold c_value w492 c_act c_rowOfKey) := by rw [ew536]; exact hD
                cases hf
                exact W.vret hx hb hr (fun t ht _ => gqv hP hD hS ht) hS.2.2 dX5_layOutRow_233
              · replace hf := ifn k533 hf
                refine lv_aload_n hx hb dX5_layOutRow_168 rfl (lv_at hl 4 rfl) ?_
                refine va_get (D := (dC, dI)) (ci := 5) (v := .ref (ad 3)) (C := RX5) (T := TX5) (N := 11) hx hb hts (fun w h => gw_mem (inX5 w h)) hown hK.1 hP 0 rfl rfl 1 (by decide) (hts _ (gw_mem wfX5_21)) (fun _ h9 => h9) rfl dX5_layOutRow_169 ?_
                refine lv_aload_n hx hb dX5_layOutRow_172 rfl (lv_at hl 4 rfl) ?_
                refine va_get (D := (dC, dI)) (ci := 5) (v := .ref (ad 11)) (C := RX5) (T := TX5) (N := 11) hx hb hts (fun w h => gw_mem (inX5 w h)) hown hK.1 hP 0 rfl rfl 8 (by decide) (hts _ (gw_mem wfX5_44)) (fun _ h9 => h9) rfl dX5_layOutRow_173 ?_
                refine lv_iload_n hx hb dX5_layOutRow_176 rfl (lv_at hl 5 rfl) ?_
                obtain ⟨h537, hf⟩ := og_some hf
                refine va_iald hx hb hK.1 hP 11 0 rfl rfl (okI_in h537) dX5_layOutRow_177 ?_
                obtain ⟨r538, v539, hf⟩ := bd1_some hf
                have z540 : [3, 4].map (fun i => ((wX5 dA ad c_tree_parts c_bond_terms c_penceByUps w11 w529 c_called c_hold c_value w492 c_act c_rowOfKey))[i]?) = ((wX0 dA (fun i => ad (i + 3)) c_bond_terms)).map some := rfl
                refine gpi [3, 4] [0, 1, 2, 5, 6, 7, 8, 9, 10, 11, 12, 13] [0, 1, 2, 12, 13, 3, 4, 5, 6, 7, 8, 9, 10, 11] (wf := (wX5 dA ad c_tree_parts c_bond_terms c_penceByUps w11 w529 c_called c_hold c_value w492 c_act c_rowOfKey)) (va_runV (As := [.int (w492 (Int32.toNatClampNeg p1))]) (rest := []) ⟨hx, hb, hml, hown, hts⟩ (tX0_highDays l dC dI dA (fun i => ad (i + 3)) H.size v539) (ccX5_X0_highDays hts ⟨Nat.le_of_ble_eq_true rfl, Nat.le_of_ble_eq_true rfl⟩) (gPreV (ci := 1) (q0 := 0) (gsub z540 hP) hK (gsubD z540 (by decide) hD) rfl rfl) rfl rfl hl.1 rfl (lv_room (Nat.le_of_ble_eq_true rfl)) dX5_layOutRow_178 ⟨Nat.le_of_ble_eq_true rfl, Nat.le_of_ble_eq_true rfl⟩) hP hD hS hA z540 rfl (by decide) (by decide) (by decide) rfl (fun H locs hP hD hS => ?_)
                refine lv_aload_n hx hb dX5_layOutRow_181 rfl (lv_at hl 4 rfl) ?_
                refine va_get (D := (dC, dI)) (ci := 5) (v := .ref (ad 3)) (C := RX5) (T := TX5) (N := 11) hx hb hts (fun w h => gw_mem (inX5 w h)) hown hK.1 hP 0 rfl rfl 1 (by decide) (hts _ (gw_mem wfX5_21)) (fun _ h9 => h9) rfl dX5_layOutRow_182 ?_
                obtain ⟨r541, v542, hf⟩ := bd1_some hf
                have z543 : [3, 4].map (fun i => ((wX5 dA ad c_tree_parts c_bond_terms c_penceByUps w11 w529 c_called c_hold c_value w492 c_act c_rowOfKey))[i]?) = ((wX0 dA (fun i => ad (i + 3)) c_bond_terms)).map some := rfl
                refine gpi [3, 4] [0, 1, 2, 5, 6, 7, 8, 9, 10, 11, 12, 13] [0, 1, 2, 12, 13, 3, 4, 5, 6, 7, 8, 9, 10, 11] (wf := (wX5 dA ad c_tree_parts c_bond_terms c_penceByUps w11 w529 c_called c_hold c_value w492 c_act c_rowOfKey)) (va_runV (As := []) (rest := [.int r538]) ⟨hx, hb, hml, hown, hts⟩ (tX0_softLeast l dC dI dA (fun i => ad (i + 3)) H.size v542) (ccX5_X0_softLeast hts ⟨Nat.le_of_ble_eq_true rfl, Nat.le_of_ble_eq_true rfl⟩) (gPreV (ci := 1) (q0 := 0) (gsub z543 hP) hK (gsubD z543 (by decide) hD) rfl rfl) rfl rfl hl.1 rfl (lv_room (Nat.le_of_ble_eq_true rfl)) dX5_layOutRow_185 ⟨Nat.le_of_ble_eq_true rfl, Nat.le_of_ble_eq_true rfl⟩) hP hD hS hA z543 rfl (by decide) (by decide) (by decide) rfl (fun H locs hP hD hS => ?_)
                refine lv_icmp_lt (tgt := 195) hx hb dX5_layOutRow_188 (by decide) (fun k544 => ?_) (fun k544 => ?_)
                · replace hf := ifp k544 hf
                  refine lv_iconst (v := 0) hx hb dX5_layOutRow_195 (by decide) ?_
                  refine lv_istore (lv' := [(8, .int 0), (7, .int 1), (6, .int w421), (4, .long w285), (3, .int r1), (0, .ref (ad 0)), (1, .int p1), (2, .int p2)]) hx hb dX5_layOutRow_196 hl (by decide) rfl (fun ls hl => ?_)
                  refine lv_aload_n hx hb dX5_layOutRow_198 rfl (lv_at hl 5 rfl) ?_
                  refine va_get (D := (dC, dI)) (ci := 5) (v := .ref (ad 8)) (C := RX5) (T := TX5) (N := 11) hx hb hts (fun w h => gw_mem (inX5 w h)) hown hK.1 hP 0 rfl rfl 5 (by decide) (hts _ (gw_mem wfX5_35)) (fun _ h9 => h9) rfl dX5_layOutRow_199 ?_
                  refine lv_iload_n hx hb dX5_layOutRow_202 rfl (lv_at hl 6 rfl) ?_
                  refine lv_iload hx hb dX5_layOutRow_203 (lv_at hl 0 rfl) ?_
                  refine lv_if_eq (tgt := 229) hx hb dX5_layOutRow_205 (by decide) (fun k545 => ?_) (fun k545 => absurd k545 (by decide))
                  refine lv_ldc2 (v := (-2)) hx hb hown (hts _ (gw_mem wkX5_75)) dX5_layOutRow_229 ?_
                  obtain ⟨h546, hf⟩ := og_some hf
                  obtain ⟨w547, ew547⟩ : ∃ y : Nat → Int64, y = vp_updL c_called (Int32.toNatClampNeg p1) (-2) := ⟨_, rfl⟩
                  replace hf := nm_at hf ew547
                  refine va_last hx hb hK.1 hP hD hS 8 1 rfl rfl (okI_in h546) dX5_layOutRow_232 (fun H locs hP hD hS => ?_)
                  have hP : va_P (dC, dI) vwCl (wX5 dA ad c_tree_parts c_bond_terms c_penceByUps w11 w529 w547 c_hold c_value w492 c_act c_rowOfKey) H := by rw [ew547]; exact hP
                  have hD : va_D A (wX5 dA ad c_tree_parts c_bond_terms c_penceByUps w11 w529 w547 c_hold c_value w492 c_act c_rowOfKey) := by rw [ew547]; exact hD
                  cases hf
                  exact W.vret hx hb hr (fun t ht _ => gqv hP hD hS ht) hS.2.2 dX5_layOutRow_233
                · replace hf := ifn k544 hf
                  refine lv_iconst (v := 1) hx hb dX5_layOutRow_191 (by decide) ?_
                  refine lv_goto (tgt := 196) hx hb dX5_layOutRow_192 (by decide) ?_
                  refine lv_istore (lv' := [(8, .int 1), (7, .int 1), (6, .int w421), (4, .long w285), (3, .int r1), (0, .ref (ad 0)), (1, .int p1), (2, .int p2)]) hx hb dX5_layOutRow_196 hl (by decide) rfl (fun ls hl => ?_)
                  refine lv_aload_n hx hb dX5_layOutRow_198 rfl (lv_at hl 5 rfl) ?_
                  refine va_get (D := (dC, dI)) (ci := 5) (v := .ref (ad 8)) (C := RX5) (T := TX5) (N := 11) hx hb hts (fun w h => gw_mem (inX5 w h)) hown hK.1 hP 0 rfl rfl 5 (by decide) (hts _ (gw_mem wfX5_35)) (fun _ h9 => h9) rfl dX5_layOutRow_199 ?_
                  refine lv_iload_n hx hb dX5_layOutRow_202 rfl (lv_at hl 6 rfl) ?_
                  refine lv_iload hx hb dX5_layOutRow_203 (lv_at hl 0 rfl) ?_
                  refine lv_if_eq (tgt := 229) hx hb dX5_layOutRow_205 (by decide) (fun k548 => absurd k548 (by decide)) (fun k548 => ?_)
                  refine lv_aload_n hx hb dX5_layOutRow_208 rfl (lv_at hl 5 rfl) ?_
                  refine va_get (D := (dC, dI)) (ci := 5) (v := .ref (ad 3)) (C := RX5) (T := TX5) (N := 11) hx hb hts (fun w h => gw_mem (inX5 w h)) hown hK.1 hP 0 rfl rfl 1 (by decide) (hts _ (gw_mem wfX5_21)) (fun _ h9 => h9) rfl dX5_layOutRow_209 ?_
                  refine lv_iload_n hx hb dX5_layOutRow_212 rfl (lv_at hl 7 rfl) ?_
                  obtain ⟨r549, v550, hf⟩ := bd1_some hf
                  have z551 : [3, 4].map (fun i => ((wX5 dA ad c_tree_parts c_bond_terms c_penceByUps w11 w529 c_called c_hold c_value w492 c_act c_rowOfKey))[i]?) = ((wX0 dA (fun i => ad (i + 3)) c_bond_terms)).map some := rfl
                  refine gpi [3, 4] [0, 1, 2, 5, 6, 7, 8, 9, 10, 11, 12, 13] [0, 1, 2, 12, 13, 3, 4, 5, 6, 7, 8, 9, 10, 11] (wf := (wX5 dA ad c_tree_parts c_bond_terms c_penceByUps w11 w529 c_called c_hold c_value w492 c_act c_rowOfKey)) (va_runV (As := [.int p2]) (rest := [.int p1, .ref (ad 8)]) ⟨hx, hb, hml, hown, hts⟩ (tX0_callOn l dC dI dA (fun i => ad (i + 3)) H.size v550) (ccX5_X0_callOn hts ⟨Nat.le_of_ble_eq_true rfl, Nat.le_of_ble_eq_true rfl⟩) (gPreV (ci := 1) (q0 := 0) (gsub z551 hP) hK (gsubD z551 (by decide) hD) rfl rfl) rfl rfl hl.1 rfl (lv_room (Nat.le_of_ble_eq_true rfl)) dX5_layOutRow_213 ⟨Nat.le_of_ble_eq_true rfl, Nat.le_of_ble_eq_true rfl⟩) hP hD hS hA z551 rfl (by decide) (by decide) (by decide) rfl (fun H locs hP hD hS => ?_)
                  refine lv_i2l hx hb dX5_layOutRow_216 rfl ?_
                  refine lv_aload_n hx hb dX5_layOutRow_217 rfl (lv_at hl 5 rfl) ?_
                  refine va_get (D := (dC, dI)) (ci := 5) (v := .ref (ad 7)) (C := RX5) (T := TX5) (N := 11) hx hb hts (fun w h => gw_mem (inX5 w h)) hown hK.1 hP 0 rfl rfl 4 (by decide) (hts _ (gw_mem wfX5_32)) (fun _ h9 => h9) rfl dX5_layOutRow_218 ?_
                  refine lv_iload_n hx hb dX5_layOutRow_221 rfl (lv_at hl 6 rfl) ?_
                  obtain ⟨h552, hf⟩ := og_some hf
                  refine va_lald hx hb hK.1 hP 7 1 rfl rfl (okI_in h552) dX5_layOutRow_222 ?_
                  refine va_mmax_long hx hb (hml.trans hl.1.symm) hown (hts _ (gw_mem wmX5_134)) (hts _ (gw_mem wtJ9_max_f86c9)) (hts _ (gw_mem wnJ9)) (hts _ (gw_mem wcJ9_max_f86c9)) (Nat.le_of_ble_eq_true rfl) (Nat.le_of_ble_eq_true rfl) (Nat.le_of_ble_eq_true rfl) (Nat.le_of_ble_eq_true rfl) dX5_layOutRow_223 ?_
                  refine lv_goto (tgt := 232) hx hb dX5_layOutRow_226 (by decide) ?_
                  obtain ⟨h553, hf⟩ := og_some hf
                  obtain ⟨w554, ew554⟩ : ∃ y : Nat → Int64, y = vp_updL c_called (Int32.toNatClampNeg p1) (if (w529 (Int32.toNatClampNeg p1)) < (Int32.toInt64 r549) then (Int32.toInt64 r549) else (w529 (Int32.toNatClampNeg p1))) := ⟨_, rfl⟩
                  replace hf := nm_at hf ew554
                  refine va_last hx hb hK.1 hP hD hS 8 1 rfl rfl (okI_in h553) dX5_layOutRow_232 (fun H locs hP hD hS => ?_)
                  have hP : va_P (dC, dI) vwCl (wX5 dA ad c_tree_parts c_bond_terms c_penceByUps w11 w529 w554 c_hold c_value w492 c_act c_rowOfKey) H := by rw [ew554]; exact hP
                  have hD : va_D A (wX5 dA ad c_tree_parts c_bond_terms c_penceByUps w11 w529 w554 c_hold c_value w492 c_act c_rowOfKey) := by rw [ew554]; exact hD
                  cases hf
                  exact W.vret hx hb hr (fun t ht _ => gqv hP hD hS ht) hS.2.2 dX5_layOutRow_233
    · replace hf := ifp k8 hf
      cases hf
      exact W.vret hx hb hr (fun t ht _ => gqv hP hD hS ht) hS.2.2 dX5_layOutRow_22
