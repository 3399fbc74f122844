def fX6_takeSoft (c_length : Int32) (c_place : Int32) (c_fault : Int32) (c_faultPlace : Int32) (c_begin : Int32) (c_bytes : Nat → Int32) (c_draft_terms : Nat → Int32) : Option (Int32 × Int32 × Int32 × Int32 × Int32 × (Nat → Int32)) := bd4 (fX6_takeDigit 0 3 c_length c_place c_fault c_faultPlace c_bytes) (fun r1 c_place_2 c_fault_3 c_faultPlace_4 => if r1 < 0 then some (0, c_place_2, c_fault_3, c_faultPlace_4, c_begin, c_draft_terms) else bd4 (fX6_takeSign 47 c_length c_place_2 c_fault_3 c_faultPlace_4 c_bytes) (fun r7 c_place_8 c_fault_9 c_faultPlace_10 => if r7 = 0 then some (0, c_place_8, c_fault_9, c_faultPlace_10, c_begin, c_draft_terms) else bd4 (fX6_takeDigit (if 1 < r1 then r1 else 1) 3 c_length c_place_8 c_fault_9 c_faultPlace_10 c_bytes) (fun r13 c_place_14 c_fault_15 c_faultPlace_16 => if r13 < 0 then some (0, c_place_14, c_fault_15, c_faultPlace_16, c_begin, c_draft_terms) else bd4 (fX6_takeSign 47 c_length c_place_14 c_fault_15 c_faultPlace_16 c_bytes) (fun r19 c_place_20 c_fault_21 c_faultPlace_22 => if r19 = 0 then some (0, c_place_20, c_fault_21, c_faultPlace_22, c_begin, c_draft_terms) else bd5 (fX6_takeNumber 0 1000000 c_length c_place_20 c_fault_21 c_faultPlace_22 c_begin c_bytes) (fun r25 c_place_26 c_fault_27 c_faultPlace_28 c_begin_29 => bd2 (fX6_store 6 r25 c_draft_terms) (fun r31 c_draft_terms_32 => if r31 = 0 then some (0, c_place_26, c_fault_27, c_faultPlace_28, c_begin_29, c_draft_terms_32) else bd2 (fX6_store 5 r13 c_draft_terms_32) (fun r35 c_draft_terms_36 => if r35 = 0 then some (0, c_place_26, c_fault_27, c_faultPlace_28, c_begin_29, c_draft_terms_36) else bd2 (fX6_store 4 r1 c_draft_terms_36) (fun r39 c_draft_terms_40 => if r39 = 0 then some (0, c_place_26, c_fault_27, c_faultPlace_28, c_begin_29, c_draft_terms_40) else some (1, c_place_26, c_fault_27, c_faultPlace_28, c_begin_29, c_draft_terms_40)))))))))
abbrev rmX6_takeSoft : Room := { frames := 3, cells := 0, slots := 0, locals := 67 }
set_option maxHeartbeats 4000000 in
set_option maxRecDepth 100000 in
theorem tX6_takeSoft (l : Launch) (dC : Nat → ClassId) (dI : Nat → Nat → Nat) (dA : Nat → ClassId) (ad : Nat → Nat) (sz : Nat) {c_size : Int32} {c_length : Int32} {c_place : Int32} {c_fault : Int32} {c_faultPlace : Int32} {c_begin : Int32} {c_bytes : Nat → Int32} {c_draft_terms : Nat → Int32} {r : Int32} {o_c_place : Int32} {o_c_fault : Int32} {o_c_faultPlace : Int32} {o_c_begin : Int32} {o_c_draft_terms : Nat → Int32} (hf : fX6_takeSoft c_length c_place c_fault c_faultPlace c_begin c_bytes c_draft_terms = some (r, o_c_place, o_c_fault, o_c_faultPlace, o_c_begin, o_c_draft_terms)) : Met l yX6_takeSoft (wq (Cond.code yX6_takeSoft cX6_takeSoft 3 (some .boolean))) rmX6_takeSoft (gP [.ref (ad 0)] (dC, dI) dA (wX6 dA ad c_size c_length c_place c_fault c_faultPlace c_begin c_bytes c_draft_terms) sz) (gQi (dC, dI) r (wX6 dA ad c_size c_length o_c_place o_c_fault o_c_faultPlace o_c_begin c_bytes o_c_draft_terms) (va_A (wX6 dA ad c_size c_length c_place c_fault c_faultPlace c_begin c_bytes c_draft_terms) sz)) 0 0 (va_A (wX6 dA ad c_size c_length c_place c_fault c_faultPlace c_begin c_bytes c_draft_terms) sz) := by
  refine Met.ofW (cc := cX6_takeSoft) (maxL := 3) (ret := (some .boolean)) (by decide) rfl ?_
  intro p e s m args below meth c s₁ B hml hv
  obtain ⟨rfl, hsz, hP, hK, hD0⟩ := hv
  have hx := B.exec
  have hb := B.bytes
  have hr := B.returns
  have hts := atoms_spec (ws := wq (Cond.code yX6_takeSoft cX6_takeSoft 3 (some .boolean))) B.pre
  have hown : s.vm.findClass RX6 = some m.cls := findClass_of_methodNamed B.named
  have hlocks := B.notSynchronized
  clear B
  subst hsz
  have hD := hD0.self (sz := s.heap.size)
  generalize hAe : va_A (wX6 dA ad c_size c_length c_place c_fault c_faultPlace c_begin c_bytes c_draft_terms) s.heap.size = A at hD ⊢
  have hA : ∀ q : Nat, s.heap.size ≤ q → A q := fun q h => by rw [← hAe]; exact Or.inr h
  clear hAe hD0
  have hS : va_S A s.heap s.heap [] := va_S.rf
  have hl := lv_entry ([.ref (ad 0)]) (n := 3) (Nat.le_of_ble_eq_true rfl)
  rw [lg_entry_eq]
  generalize (lg_sl ([.ref (ad 0)]) ++ List.replicate (3 - (lg_sl ([.ref (ad 0)])).length) Slot.unset).toArray = ls at hl ⊢
  have hl : lv_has ls 3 [(0, .ref (ad 0))] := hl
  change W p l e rmX6_takeSoft s m ([.ref (ad 0)] : List Value).toArray below meth c s.heap [] 0 0 _ _
  unfold fX6_takeSoft at hf
  refine lv_aload_n hx hb dX6_takeSoft_0 rfl (lv_at hl 0 rfl) ?_
  refine lv_iconst (v := 0) hx hb dX6_takeSoft_1 (by decide) ?_
  refine lv_iconst (v := 3) hx hb dX6_takeSoft_2 (by decide) ?_
  obtain ⟨r1, c_place_2, c_fault_3, c_faultPlace_4, v5, hf⟩ := bd4_some hf
  refine gci (va_runV (As := [.int 0, .int 3]) (rest := []) ⟨hx, hb, hml, hown, hts⟩ (tX6_takeDigit l dC dI dA ad s.heap.size v5) (ccX6_X6_takeDigit hts ⟨Nat.le_of_ble_eq_true rfl, Nat.le_of_ble_eq_true rfl⟩) (gPreV (ci := 6) (q0 := 0) hP hK hD rfl rfl) rfl rfl hl.1 rfl (lv_room (Nat.le_of_ble_eq_true rfl)) dX6_takeSoft_3 ⟨Nat.le_of_ble_eq_true rfl, Nat.le_of_ble_eq_true rfl⟩) hD hS hA (fun H locs hP hD hS => ?_)
  refine lv_istore_n (lv' := [(1, .int r1), (0, .ref (ad 0))]) hx hb dX6_takeSoft_6 rfl hl (by decide) rfl (fun ls hl => ?_)
  refine lv_iload_n hx hb dX6_takeSoft_7 rfl (lv_at hl 0 rfl) ?_
  refine lv_if_lt (tgt := 20) hx hb dX6_takeSoft_8 (by decide) (fun k6 => ?_) (fun k6 => ?_)
  · replace hf := ifp k6 hf
    refine lv_iconst (v := 0) hx hb dX6_takeSoft_20 (by decide) ?_
    cases hf
    exact W.zret (ty := .boolean) hx hb hr rfl (fun t ht _ => gqi hP hD hS ht) hS.2.2 dX6_takeSoft_21
  · replace hf := ifn k6 hf
    refine lv_aload_n hx hb dX6_takeSoft_11 rfl (lv_at hl 1 rfl) ?_
    refine lv_bipush (v := 47) hx hb dX6_takeSoft_12 (by decide) ?_
    obtain ⟨r7, c_place_8, c_fault_9, c_faultPlace_10, v11, hf⟩ := bd4_some hf
    refine gci (va_runV (As := [.int 47]) (rest := []) ⟨hx, hb, hml, hown, hts⟩ (tX6_takeSign l dC dI dA ad H.size v11) (ccX6_X6_takeSign hts ⟨Nat.le_of_ble_eq_true rfl, Nat.le_of_ble_eq_true rfl⟩) (gPreV (ci := 6) (q0 := 0) hP hK hD rfl rfl) rfl rfl hl.1 rfl (lv_room (Nat.le_of_ble_eq_true rfl)) dX6_takeSoft_14 ⟨Nat.le_of_ble_eq_true rfl, Nat.le_of_ble_eq_true rfl⟩) hD hS hA (fun H locs hP hD hS => ?_)
    refine lv_if_ne (tgt := 22) hx hb dX6_takeSoft_17 (by decide) (fun k12 => ?_) (fun k12 => ?_)
    · replace hf := ifn k12 hf
      refine lv_aload_n hx hb dX6_takeSoft_22 rfl (lv_at hl 1 rfl) ?_
      refine lv_iconst (v := 1) hx hb dX6_takeSoft_23 (by decide) ?_
      refine lv_iload_n hx hb dX6_takeSoft_24 rfl (lv_at hl 0 rfl) ?_
      refine va_mmax hx hb (hml.trans hl.1.symm) hown (hts _ (gw_mem wmX6_109)) (hts _ (gw_mem wtJ9_max_7cf53)) (hts _ (gw_mem wnJ9)) (hts _ (gw_mem wcJ9_max_7cf53)) (Nat.le_of_ble_eq_true rfl) (Nat.le_of_ble_eq_true rfl) (Nat.le_of_ble_eq_true rfl) (Nat.le_of_ble_eq_true rfl) dX6_takeSoft_25 ?_
      refine lv_iconst (v := 3) hx hb dX6_takeSoft_28 (by decide) ?_
      obtain ⟨r13, c_place_14, c_fault_15, c_faultPlace_16, v17, hf⟩ := bd4_some hf
      refine gci (va_runV (As := [.int (if 1 < r1 then r1 else 1), .int 3]) (rest := []) ⟨hx, hb, hml, hown, hts⟩ (tX6_takeDigit l dC dI dA ad H.size v17) (ccX6_X6_takeDigit hts ⟨Nat.le_of_ble_eq_true rfl, Nat.le_of_ble_eq_true rfl⟩) (gPreV (ci := 6) (q0 := 0) hP hK hD rfl rfl) rfl rfl hl.1 rfl (lv_room (Nat.le_of_ble_eq_true rfl)) dX6_takeSoft_29 ⟨Nat.le_of_ble_eq_true rfl, Nat.le_of_ble_eq_true rfl⟩) hD hS hA (fun H locs hP hD hS => ?_)
      refine lv_istore_n (lv' := [(2, .int r13), (1, .int r1), (0, .ref (ad 0))]) hx hb dX6_takeSoft_32 rfl hl (by decide) rfl (fun ls hl => ?_)
      refine lv_iload_n hx hb dX6_takeSoft_33 rfl (lv_at hl 0 rfl) ?_
      refine lv_if_lt (tgt := 46) hx hb dX6_takeSoft_34 (by decide) (fun k18 => ?_) (fun k18 => ?_)
      · replace hf := ifp k18 hf
        refine lv_iconst (v := 0) hx hb dX6_takeSoft_46 (by decide) ?_
        cases hf
        exact W.zret (ty := .boolean) hx hb hr rfl (fun t ht _ => gqi hP hD hS ht) hS.2.2 dX6_takeSoft_47
      · replace hf := ifn k18 hf
        refine lv_aload_n hx hb dX6_takeSoft_37 rfl (lv_at hl 2 rfl) ?_
        refine lv_bipush (v := 47) hx hb dX6_takeSoft_38 (by decide) ?_
        obtain ⟨r19, c_place_20, c_fault_21, c_faultPlace_22, v23, hf⟩ := bd4_some hf
        refine gci (va_runV (As := [.int 47]) (rest := []) ⟨hx, hb, hml, hown, hts⟩ (tX6_takeSign l dC dI dA ad H.size v23) (ccX6_X6_takeSign hts ⟨Nat.le_of_ble_eq_true rfl, Nat.le_of_ble_eq_true rfl⟩) (gPreV (ci := 6) (q0 := 0) hP hK hD rfl rfl) rfl rfl hl.1 rfl (lv_room (Nat.le_of_ble_eq_true rfl)) dX6_takeSoft_40 ⟨Nat.le_of_ble_eq_true rfl, Nat.le_of_ble_eq_true rfl⟩) hD hS hA (fun H locs hP hD hS => ?_)
        refine lv_if_ne (tgt := 48) hx hb dX6_takeSoft_43 (by decide) (fun k24 => ?_) (fun k24 => ?_)
        · replace hf := ifn k24 hf
          refine lv_aload_n hx hb dX6_takeSoft_48 rfl (lv_at hl 2 rfl) ?_
          refine lv_bipush (v := 6) hx hb dX6_takeSoft_49 (by decide) ?_
          refine lv_aload_n hx hb dX6_takeSoft_51 rfl (lv_at hl 2 rfl) ?_
          refine lv_iconst (v := 0) hx hb dX6_takeSoft_52 (by decide) ?_
          refine lv_ldc (v := 1000000) hx hb hown (hts _ (gw_mem wkX6_63)) dX6_takeSoft_53 ?_
          obtain ⟨r25, c_place_26, c_fault_27, c_faultPlace_28, c_begin_29, v30, hf⟩ := bd5_some hf
          refine gci (va_runV (As := [.int 0, .int 1000000]) (rest := [.int 6, .ref (ad 0)]) ⟨hx, hb, hml, hown, hts⟩ (tX6_takeNumber l dC dI dA ad H.size v30) (ccX6_X6_takeNumber hts ⟨Nat.le_of_ble_eq_true rfl, Nat.le_of_ble_eq_true rfl⟩) (gPreV (ci := 6) (q0 := 0) hP hK hD rfl rfl) rfl rfl hl.1 rfl (lv_room (Nat.le_of_ble_eq_true rfl)) dX6_takeSoft_55 ⟨Nat.le_of_ble_eq_true rfl, Nat.le_of_ble_eq_true rfl⟩) hD hS hA (fun H locs hP hD hS => ?_)
          obtain ⟨r31, c_draft_terms_32, v33, hf⟩ := bd2_some hf
          refine gci (va_runV (As := [.int 6, .int r25]) (rest := []) ⟨hx, hb, hml, hown, hts⟩ (tX6_store l dC dI dA ad H.size v33) (ccX6_X6_store hts ⟨Nat.le_of_ble_eq_true rfl, Nat.le_of_ble_eq_true rfl⟩) (gPreV (ci := 6) (q0 := 0) hP hK hD rfl rfl) rfl rfl hl.1 rfl (lv_room (Nat.le_of_ble_eq_true rfl)) dX6_takeSoft_58 ⟨Nat.le_of_ble_eq_true rfl, Nat.le_of_ble_eq_true rfl⟩) hD hS hA (fun H locs hP hD hS => ?_)
          refine lv_if_eq (tgt := 86) hx hb dX6_takeSoft_61 (by decide) (fun k34 => ?_) (fun k34 => ?_)
          · replace hf := ifp k34 hf
            refine lv_iconst (v := 0) hx hb dX6_takeSoft_86 (by decide) ?_
            cases hf
            exact W.zret (ty := .boolean) hx hb hr rfl (fun t ht _ => gqi hP hD hS ht) hS.2.2 dX6_takeSoft_87
          · replace hf := ifn k34 hf
            refine lv_aload_n hx hb dX6_takeSoft_64 rfl (lv_at hl 2 rfl) ?_
            refine lv_iconst (v := 5) hx hb dX6_takeSoft_65 (by decide) ?_
            refine lv_iload_n hx hb dX6_takeSoft_66 rfl (lv_at hl 0 rfl) ?_
            obtain ⟨r35, c_draft_terms_36, v37, hf⟩ := bd2_some hf
            refine gci (va_runV (As := [.int 5, .int r13]) (rest := []) ⟨hx, hb, hml, hown, hts⟩ (tX6_store l dC dI dA ad H.size v37) (ccX6_X6_store hts ⟨Nat.le_of_ble_eq_true rfl, Nat.le_of_ble_eq_true rfl⟩) (gPreV (ci := 6) (q0 := 0) hP hK hD rfl rfl) rfl rfl hl.1 rfl (lv_room (Nat.le_of_ble_eq_true rfl)) dX6_takeSoft_67 ⟨Nat.le_of_ble_eq_true rfl, Nat.le_of_ble_eq_true rfl⟩) hD hS hA (fun H locs hP hD hS => ?_)
            refine lv_if_eq (tgt := 86) hx hb dX6_takeSoft_70 (by decide) (fun k38 => ?_) (fun k38 => ?_)
            · replace hf := ifp k38 hf
              refine lv_iconst (v := 0) hx hb dX6_takeSoft_86 (by decide) ?_
              cases hf
              exact W.zret (ty := .boolean) hx hb hr rfl (fun t ht _ => gqi hP hD hS ht) hS.2.2 dX6_takeSoft_87
            · replace hf := ifn k38 hf
              refine lv_aload_n hx hb dX6_takeSoft_73 rfl (lv_at hl 2 rfl) ?_
              refine lv_iconst (v := 4) hx hb dX6_takeSoft_74 (by decide) ?_
              refine lv_iload_n hx hb dX6_takeSoft_75 rfl (lv_at hl 1 rfl) ?_
              obtain ⟨r39, c_draft_terms_40, v41, hf⟩ := bd2_some hf
              refine gci (va_runV (As := [.int 4, .int r1]) (rest := []) ⟨hx, hb, hml, hown, hts⟩ (tX6_store l dC dI dA ad H.size v41) (ccX6_X6_store hts ⟨Nat.le_of_ble_eq_true rfl, Nat.le_of_ble_eq_true rfl⟩) (gPreV (ci := 6) (q0 := 0) hP hK hD rfl rfl) rfl rfl hl.1 rfl (lv_room (Nat.le_of_ble_eq_true rfl)) dX6_takeSoft_76 ⟨Nat.le_of_ble_eq_true rfl, Nat.le_of_ble_eq_true rfl⟩) hD hS hA (fun H locs hP hD hS => ?_)
              refine lv_if_eq (tgt := 86) hx hb dX6_takeSoft_79 (by decide) (fun k42 => ?_) (fun k42 => ?_)
              · replace hf := ifp k42 hf
                refine lv_iconst (v := 0) hx hb dX6_takeSoft_86 (by decide) ?_
                cases hf
                exact W.zret (ty := .boolean) hx hb hr rfl (fun t ht _ => gqi hP hD hS ht) hS.2.2 dX6_takeSoft_87
              · replace hf := ifn k42 hf
                refine lv_iconst (v := 1) hx hb dX6_takeSoft_82 (by decide) ?_
                refine lv_goto (tgt := 87) hx hb dX6_takeSoft_83 (by decide) ?_
                cases hf
                exact W.zret (ty := .boolean) hx hb hr rfl (fun t ht _ => gqi hP hD hS ht) hS.2.2 dX6_takeSoft_87
        · replace hf := ifp k24 hf
          refine lv_iconst (v := 0) hx hb dX6_takeSoft_46 (by decide) ?_
          cases hf
          exact W.zret (ty := .boolean) hx hb hr rfl (fun t ht _ => gqi hP hD hS ht) hS.2.2 dX6_takeSoft_47
    · replace hf := ifp k12 hf
      refine lv_iconst (v := 0) hx hb dX6_takeSoft_20 (by decide) ?_
      cases hf
      exact W.zret (ty := .boolean) hx hb hr rfl (fun t ht _ => gqi hP hD hS ht) hS.2.2 dX6_takeSoft_21
def fX6_takeWindow (c_length : Int32) (c_place : Int32) (c_fault : Int32) (c_faultPlace : Int32) (c_bytes : Nat → Int32) (c_draft_terms : Nat → Int32) : Option (Int32 × Int32 × Int32 × Int32 × (Nat → Int32)) := bd4 (fX6_takeDigit 0 6 c_length c_place c_fault c_faultPlace c_bytes) (fun r1 c_place_2 c_fault_3 c_faultPlace_4 => if r1 < 0 then some (0, c_place_2, c_fault_3, c_faultPlace_4, c_draft_terms) else bd4 (fX6_takeSign 45 c_length c_place_2 c_fault_3 c_faultPlace_4 c_bytes) (fun r7 c_place_8 c_fault_9 c_faultPlace_10 => if r7 = 0 then some (0, c_place_8, c_fault_9, c_faultPlace_10, c_draft_terms) else bd4 (fX6_takeDigit r1 6 c_length c_place_8 c_fault_9 c_faultPlace_10 c_bytes) (fun r13 c_place_14 c_fault_15 c_faultPlace_16 => bd2 (fX6_store 3 r13 c_draft_terms) (fun r18 c_draft_terms_19 => if r18 = 0 then some (0, c_place_14, c_fault_15, c_faultPlace_16, c_draft_terms_19) else bd2 (fX6_store 2 r1 c_draft_terms_19) (fun r22 c_draft_terms_23 => if r22 = 0 then some (0, c_place_14, c_fault_15, c_faultPlace_16, c_draft_terms_23) else some (1, c_place_14, c_fault_15, c_faultPlace_16, c_draft_terms_23))))))
abbrev rmX6_takeWindow : Room := { frames := 3, cells := 0, slots := 0, locals := 65 }
set_option maxHeartbeats 4000000 in
set_option maxRecDepth 100000 in
theorem tX6_takeWindow (l : Launch) (dC : Nat → ClassId) (dI : Nat → Nat → Nat) (dA : Nat → ClassId) (ad : Nat → Nat) (sz : Nat) {c_size : Int32} {c_length : Int32} {c_place : Int32} {c_fault : Int32} {c_faultPlace : Int32} {c_begin : Int32} {c_bytes : Nat → Int32} {c_draft_terms : Nat → Int32} {r : Int32} {o_c_place : Int32} {o_c_fault : Int32} {o_c_faultPlace : Int32} {o_c_draft_terms : Nat → Int32} (hf : fX6_takeWindow c_length c_place c_fault c_faultPlace c_bytes c_draft_terms = some (r, o_c_place, o_c_fault, o_c_faultPlace, o_c_draft_terms)) : Met l yX6_takeWindow (wq (Cond.code yX6_takeWindow cX6_takeWindow 2 (some .boolean))) rmX6_takeWindow (gP [.ref (ad 0)] (dC, dI) dA (wX6 dA ad c_size c_length c_place c_fault c_faultPlace c_begin c_bytes c_draft_terms) sz) (gQi (dC, dI) r (wX6 dA ad c_size c_length o_c_place o_c_fault o_c_faultPlace c_begin c_bytes o_c_draft_terms) (va_A (wX6 dA ad c_size c_length c_place c_fault c_faultPlace c_begin c_bytes c_draft_terms) sz)) 0 0 (va_A (wX6 dA ad c_size c_length c_place c_fault c_faultPlace c_begin c_bytes c_draft_terms) sz) := by
  refine Met.ofW (cc := cX6_takeWindow) (maxL := 2) (ret := (some .boolean)) (by decide) rfl ?_
  intro p e s m args below meth c s₁ B hml hv
  obtain ⟨rfl, hsz, hP, hK, hD0⟩ := hv
  have hx := B.exec
  have hb := B.bytes
  have hr := B.returns
  have hts := atoms_spec (ws := wq (Cond.code yX6_takeWindow cX6_takeWindow 2 (some .boolean))) B.pre
  have hown : s.vm.findClass RX6 = some m.cls := findClass_of_methodNamed B.named
  have hlocks := B.notSynchronized
  clear B
  subst hsz
  have hD := hD0.self (sz := s.heap.size)
  generalize hAe : va_A (wX6 dA ad c_size c_length c_place c_fault c_faultPlace c_begin c_bytes c_draft_terms) s.heap.size = A at hD ⊢
  have hA : ∀ q : Nat, s.heap.size ≤ q → A q := fun q h => by rw [← hAe]; exact Or.inr h
  clear hAe hD0
  have hS : va_S A s.heap s.heap [] := va_S.rf
  have hl := lv_entry ([.ref (ad 0)]) (n := 2) (Nat.le_of_ble_eq_true rfl)
  rw [lg_entry_eq]
  generalize (lg_sl ([.ref (ad 0)]) ++ List.replicate (2 - (lg_sl ([.ref (ad 0)])).length) Slot.unset).toArray = ls at hl ⊢
  have hl : lv_has ls 2 [(0, .ref (ad 0))] := hl
  change W p l e rmX6_takeWindow s m ([.ref (ad 0)] : List Value).toArray below meth c s.heap [] 0 0 _ _
  unfold fX6_takeWindow at hf
  refine lv_aload_n hx hb dX6_takeWindow_0 rfl (lv_at hl 0 rfl) ?_
  refine lv_iconst (v := 0) hx hb dX6_takeWindow_1 (by decide) ?_
  refine lv_bipush (v := 6) hx hb dX6_takeWindow_2 (by decide) ?_
  obtain ⟨r1, c_place_2, c_fault_3, c_faultPlace_4, v5, hf⟩ := bd4_some hf
  refine gci (va_runV (As := [.int 0, .int 6]) (rest := []) ⟨hx, hb, hml, hown, hts⟩ (tX6_takeDigit l dC dI dA ad s.heap.size v5) (ccX6_X6_takeDigit hts ⟨Nat.le_of_ble_eq_true rfl, Nat.le_of_ble_eq_true rfl⟩) (gPreV (ci := 6) (q0 := 0) hP hK hD rfl rfl) rfl rfl hl.1 rfl (lv_room (Nat.le_of_ble_eq_true rfl)) dX6_takeWindow_4 ⟨Nat.le_of_ble_eq_true rfl, Nat.le_of_ble_eq_true rfl⟩) hD hS hA (fun H locs hP hD hS => ?_)
  refine lv_istore_n (lv' := [(1, .int r1), (0, .ref (ad 0))]) hx hb dX6_takeWindow_7 rfl hl (by decide) rfl (fun ls hl => ?_)
  refine lv_iload_n hx hb dX6_takeWindow_8 rfl (lv_at hl 0 rfl) ?_
  refine lv_if_lt (tgt := 21) hx hb dX6_takeWindow_9 (by decide) (fun k6 => ?_) (fun k6 => ?_)
  · replace hf := ifp k6 hf
    refine lv_iconst (v := 0) hx hb dX6_takeWindow_21 (by decide) ?_
    cases hf
    exact W.zret (ty := .boolean) hx hb hr rfl (fun t ht _ => gqi hP hD hS ht) hS.2.2 dX6_takeWindow_22
  · replace hf := ifn k6 hf
    refine lv_aload_n hx hb dX6_takeWindow_12 rfl (lv_at hl 1 rfl) ?_
    refine lv_bipush (v := 45) hx hb dX6_takeWindow_13 (by decide) ?_
    obtain ⟨r7, c_place_8, c_fault_9, c_faultPlace_10, v11, hf⟩ := bd4_some hf
    refine gci (va_runV (As := [.int 45]) (rest := []) ⟨hx, hb, hml, hown, hts⟩ (tX6_takeSign l dC dI dA ad H.size v11) (ccX6_X6_takeSign hts ⟨Nat.le_of_ble_eq_true rfl, Nat.le_of_ble_eq_true rfl⟩) (gPreV (ci := 6) (q0 := 0) hP hK hD rfl rfl) rfl rfl hl.1 rfl (lv_room (Nat.le_of_ble_eq_true rfl)) dX6_takeWindow_15 ⟨Nat.le_of_ble_eq_true rfl, Nat.le_of_ble_eq_true rfl⟩) hD hS hA (fun H locs hP hD hS => ?_)
    refine lv_if_ne (tgt := 23) hx hb dX6_takeWindow_18 (by decide) (fun k12 => ?_) (fun k12 => ?_)
    · replace hf := ifn k12 hf
      refine lv_aload_n hx hb dX6_takeWindow_23 rfl (lv_at hl 1 rfl) ?_
      refine lv_iconst (v := 3) hx hb dX6_takeWindow_24 (by decide) ?_
      refine lv_aload_n hx hb dX6_takeWindow_25 rfl (lv_at hl 1 rfl) ?_
      refine lv_iload_n hx hb dX6_takeWindow_26 rfl (lv_at hl 0 rfl) ?_
      refine lv_bipush (v := 6) hx hb dX6_takeWindow_27 (by decide) ?_
      obtain ⟨r13, c_place_14, c_fault_15, c_faultPlace_16, v17, hf⟩ := bd4_some hf
      refine gci (va_runV (As := [.int r1, .int 6]) (rest := [.int 3, .ref (ad 0)]) ⟨hx, hb, hml, hown, hts⟩ (tX6_takeDigit l dC dI dA ad H.size v17) (ccX6_X6_takeDigit hts ⟨Nat.le_of_ble_eq_true rfl, Nat.le_of_ble_eq_true rfl⟩) (gPreV (ci := 6) (q0 := 0) hP hK hD rfl rfl) rfl rfl hl.1 rfl (lv_room (Nat.le_of_ble_eq_true rfl)) dX6_takeWindow_29 ⟨Nat.le_of_ble_eq_true rfl, Nat.le_of_ble_eq_true rfl⟩) hD hS hA (fun H locs hP hD hS => ?_)
      obtain ⟨r18, c_draft_terms_19, v20, hf⟩ := bd2_some hf
      refine gci (va_runV (As := [.int 3, .int r13]) (rest := []) ⟨hx, hb, hml, hown, hts⟩ (tX6_store l dC dI dA ad H.size v20) (ccX6_X6_store hts ⟨Nat.le_of_ble_eq_true rfl, Nat.le_of_ble_eq_true rfl⟩) (gPreV (ci := 6) (q0 := 0) hP hK hD rfl rfl) rfl rfl hl.1 rfl (lv_room (Nat.le_of_ble_eq_true rfl)) dX6_takeWindow_32 ⟨Nat.le_of_ble_eq_true rfl, Nat.le_of_ble_eq_true rfl⟩) hD hS hA (fun H locs hP hD hS => ?_)
      refine lv_if_eq (tgt := 51) hx hb dX6_takeWindow_35 (by decide) (fun k21 => ?_) (fun k21 => ?_)
      · replace hf := ifp k21 hf
        refine lv_iconst (v := 0) hx hb dX6_takeWindow_51 (by decide) ?_
        cases hf
        exact W.zret (ty := .boolean) hx hb hr rfl (fun t ht _ => gqi hP hD hS ht) hS.2.2 dX6_takeWindow_52
      · replace hf := ifn k21 hf
        refine lv_aload_n hx hb dX6_takeWindow_38 rfl (lv_at hl 1 rfl) ?_
        refine lv_iconst (v := 2) hx hb dX6_takeWindow_39 (by decide) ?_
        refine lv_iload_n hx hb dX6_takeWindow_40 rfl (lv_at hl 0 rfl) ?_
        obtain ⟨r22, c_draft_terms_23, v24, hf⟩ := bd2_some hf
        refine gci (va_runV (As := [.int 2, .int r1]) (rest := []) ⟨hx, hb, hml, hown, hts⟩ (tX6_store l dC dI dA ad H.size v24) (ccX6_X6_store hts ⟨Nat.le_of_ble_eq_true rfl, Nat.le_of_ble_eq_true rfl⟩) (gPreV (ci := 6) (q0 := 0) hP hK hD rfl rfl) rfl rfl hl.1 rfl (lv_room (Nat.le_of_ble_eq_true rfl)) dX6_takeWindow_41 ⟨Nat.le_of_ble_eq_true rfl, Nat.le_of_ble_eq_true rfl⟩) hD hS hA (fun H locs hP hD hS => ?_)
        refine lv_if_eq (tgt := 51) hx hb dX6_takeWindow_44 (by decide) (fun k25 => ?_) (fun k25 => ?_)
        · replace hf := ifp k25 hf
          refine lv_iconst (v := 0) hx hb dX6_takeWindow_51 (by decide) ?_
          cases hf
          exact W.zret (ty := .boolean) hx hb hr rfl (fun t ht _ => gqi hP hD hS ht) hS.2.2 dX6_takeWindow_52
        · replace hf := ifn k25 hf
          refine lv_iconst (v := 1) hx hb dX6_takeWindow_47 (by decide) ?_
          refine lv_goto (tgt := 52) hx hb dX6_takeWindow_48 (by decide) ?_
          cases hf
          exact W.zret (ty := .boolean) hx hb hr rfl (fun t ht _ => gqi hP hD hS ht) hS.2.2 dX6_takeWindow_52
    · replace hf := ifp k12 hf
      refine lv_iconst (v := 0) hx hb dX6_takeWindow_21 (by decide) ?_
      cases hf
      exact W.zret (ty := .boolean) hx hb hr rfl (fun t ht _ => gqi hP hD hS ht) hS.2.2 dX6_takeWindow_22
theorem ccX6_X6_takeCoupon {R : Room} {s : State} {args : Array Value} {c0 : Cond} (ht : ∀ w ∈ wq c0, w.before args s = true) (hR : rmX6_takeCoupon.frames + 1 ≤ R.frames ∧ 8 + (4 + 11) + rmX6_takeCoupon.locals ≤ R.locals) : CallW R s args RX6 RX6 71 yX6_takeCoupon cX6_takeCoupon 4 (some .boolean) (wq (.code yX6_takeCoupon cX6_takeCoupon 4 (some .boolean))) rmX6_takeCoupon 0 0 0 := gCW 0 ht wcX6_takeCoupon wmX6_71 wiX6_takeCoupon weX6_takeCoupon wnX6 (by decide +kernel) rfl rfl hR
theorem ccX6_X6_takeRight {R : Room} {s : State} {args : Array Value} {c0 : Cond} (ht : ∀ w ∈ wq c0, w.before args s = true) (hR : rmX6_takeRight.frames + 1 ≤ R.frames ∧ 8 + (3 + 11) + rmX6_takeRight.locals ≤ R.locals) : CallW R s args RX6 RX6 74 yX6_takeRight cX6_takeRight 3 (some .boolean) (wq (.code yX6_takeRight cX6_takeRight 3 (some .boolean))) rmX6_takeRight 0 0 1 := gCW 1 ht wcX6_takeRight wmX6_74 wiX6_takeRight weX6_takeRight wnX6 (by decide +kernel) rfl rfl hR
theorem ccX6_X6_takeWindow {R : Room} {s : State} {args : Array Value} {c0 : Cond} (ht : ∀ w ∈ wq c0, w.before args s = true) (hR : rmX6_takeWindow.frames + 1 ≤ R.frames ∧ 8 + (2 + 11) + rmX6_takeWindow.locals ≤ R.locals) : CallW R s args RX6 RX6 78 yX6_takeWindow cX6_takeWindow 2 (some .boolean) (wq (.code yX6_takeWindow cX6_takeWindow 2 (some .boolean))) rmX6_takeWindow 0 0 0 := gCW 0 ht wcX6_takeWindow wmX6_78 wiX6_takeWindow weX6_takeWindow wnX6 (by decide +kernel) rfl rfl hR
theorem ccX6_X6_takeSoft {R : Room} {s : State} {args : Array Value} {c0 : Cond} (ht : ∀ w ∈ wq c0, w.before args s = true) (hR : rmX6_takeSoft.frames + 1 ≤ R.frames ∧ 8 + (3 + 11) + rmX6_takeSoft.locals ≤ R.locals) : CallW R s args RX6 RX6 81 yX6_takeSoft cX6_takeSoft 3 (some .boolean) (wq (.code yX6_takeSoft cX6_takeSoft 3 (some .boolean))) rmX6_takeSoft 0 0 0 := gCW 0 ht wcX6_takeSoft wmX6_81 wiX6_takeSoft weX6_takeSoft wnX6 (by decide +kernel) rfl rfl hR
def fX6_takeClause (c_length : Int32) (c_place : Int32) (c_fault : Int32) (c_faultPlace : Int32) (c_begin : Int32) (c_bytes : Nat → Int32) (c_draft_terms : Nat → Int32) : Option (Int32 × Int32 × Int32 × Int32 × Int32 × (Nat → Int32)) := bd2 (fX6_look c_length c_place c_bytes) (fun r1 c_place_2 => nm (c_place_2 + 1) (fun w4 => if r1 = 99 then bd6 (fX6_takeCoupon c_length w4 c_fault c_faultPlace c_begin c_bytes c_draft_terms) (fun r6 c_place_7 c_fault_8 c_faultPlace_9 c_begin_10 c_draft_terms_11 => og (boB r6) (some (r6, c_place_7, c_fault_8, c_faultPlace_9, c_begin_10, c_draft_terms_11))) else if r1 = 102 then bd5 (fX6_takeNumber 1 1000000 c_length w4 c_fault c_faultPlace c_begin c_bytes) (fun r15 c_place_16 c_fault_17 c_faultPlace_18 c_begin_19 => bd2 (fX6_store 0 r15 c_draft_terms) (fun r21 c_draft_terms_22 => og (boB r21) (some (r21, c_place_16, c_fault_17, c_faultPlace_18, c_begin_19, c_draft_terms_22)))) else if r1 = 107 then bd6 (fX6_takeRight 20 c_length w4 c_fault c_faultPlace c_begin c_bytes c_draft_terms) (fun r26 c_place_27 c_fault_28 c_faultPlace_29 c_begin_30 c_draft_terms_31 => og (boB r26) (some (r26, c_place_27, c_fault_28, c_faultPlace_29, c_begin_30, c_draft_terms_31))) else if r1 = 110 then bd5 (fX6_takeNumber 0 1000 c_length w4 c_fault c_faultPlace c_begin c_bytes) (fun r35 c_place_36 c_fault_37 c_faultPlace_38 c_begin_39 => bd2 (fX6_store 1 r35 c_draft_terms) (fun r41 c_draft_terms_42 => og (boB r41) (some (r41, c_place_36, c_fault_37, c_faultPlace_38, c_begin_39, c_draft_terms_42)))) else if r1 = 112 then bd6 (fX6_takeRight 30 c_length w4 c_fault c_faultPlace c_begin c_bytes c_draft_terms) (fun r46 c_place_47 c_fault_48 c_faultPlace_49 c_begin_50 c_draft_terms_51 => og (boB r46) (some (r46, c_place_47, c_fault_48, c_faultPlace_49, c_begin_50, c_draft_terms_51))) else if r1 = 115 then bd6 (fX6_takeSoft c_length w4 c_fault c_faultPlace c_begin c_bytes c_draft_terms) (fun r55 c_place_56 c_fault_57 c_faultPlace_58 c_begin_59 c_draft_terms_60 => og (boB r55) (some (r55, c_place_56, c_fault_57, c_faultPlace_58, c_begin_59, c_draft_terms_60))) else if r1 = 119 then bd5 (fX6_takeWindow c_length w4 c_fault c_faultPlace c_bytes c_draft_terms) (fun r64 c_place_65 c_fault_66 c_faultPlace_67 c_draft_terms_68 => og (boB r64) (some (r64, c_place_65, c_fault_66, c_faultPlace_67, c_begin, c_draft_terms_68))) else if r1 = 122 then bd4 (fX6_takeDigit 0 3 c_length w4 c_fault c_faultPlace c_bytes) (fun r72 c_place_73 c_fault_74 c_faultPlace_75 => bd2 (fX6_store 7 r72 c_draft_terms) (fun r77 c_draft_terms_78 => og (boB r77) (some (r77, c_place_73, c_fault_74, c_faultPlace_75, c_begin, c_draft_terms_78)))) else bd3 (fX6_fails 1 (w4 - 1) c_fault c_faultPlace) (fun r81 c_fault_82 c_faultPlace_83 => og (boB r81) (some (r81, w4, c_fault_82, c_faultPlace_83, c_begin, c_draft_terms)))))
abbrev rmX6_takeClause : Room := { frames := 4, cells := 0, slots := 0, locals := 90 }
set_option maxHeartbeats 4000000 in
set_option maxRecDepth 100000 in
theorem tX6_takeClause (l : Launch) (dC : Nat → ClassId) (dI : Nat → Nat → Nat) (dA : Nat → ClassId) (ad : Nat → Nat) (sz : Nat) {c_size : Int32} {c_length : Int32} {c_place : Int32} {c_fault : Int32} {c_faultPlace : Int32} {c_begin : Int32} {c_bytes : Nat → Int32} {c_draft_terms : Nat → Int32} {r : Int32} {o_c_place : Int32} {o_c_fault : Int32} {o_c_faultPlace : Int32} {o_c_begin : Int32} {o_c_draft_terms : Nat → Int32} (hf : fX6_takeClause c_length c_place c_fault c_faultPlace c_begin c_bytes c_draft_terms = some (r, o_c_place, o_c_fault, o_c_faultPlace, o_c_begin, o_c_draft_terms)) : Met l yX6_takeClause (wq (Cond.code yX6_takeClause cX6_takeClause 2 (some .boolean))) rmX6_takeClause (gP [.ref (ad 0)] (dC, dI) dA (wX6 dA ad c_size c_length c_place c_fault c_faultPlace c_begin c_bytes c_draft_terms) sz) (gQi (dC, dI) r (wX6 dA ad c_size c_length o_c_place o_c_fault o_c_faultPlace o_c_begin c_bytes o_c_draft_terms) (va_A (wX6 dA ad c_size c_length c_place c_fault c_faultPlace c_begin c_bytes c_draft_terms) sz)) 0 0 (va_A (wX6 dA ad c_size c_length c_place c_fault c_faultPlace c_begin c_bytes c_draft_terms) sz) := by
  refine Met.ofW (cc := cX6_takeClause) (maxL := 2) (ret := (some .boolean)) (by decide) rfl ?_
  intro p e s m args below meth c s₁ B hml hv
  obtain ⟨rfl, hsz, hP, hK, hD0⟩ := hv
  have hx := B.exec
  have hb := B.bytes
  have hr := B.returns
  have hts := atoms_spec (ws := wq (Cond.code yX6_takeClause cX6_takeClause 2 (some .boolean))) B.pre
  have hown : s.vm.findClass RX6 = some m.cls := findClass_of_methodNamed B.named
  have hlocks := B.notSynchronized
  clear B
  subst hsz
  have hD := hD0.self (sz := s.heap.size)
  generalize hAe : va_A (wX6 dA ad c_size c_length c_place c_fault c_faultPlace c_begin c_bytes c_draft_terms) s.heap.size = A at hD ⊢
  have hA : ∀ q : Nat, s.heap.size ≤ q → A q := fun q h => by rw [← hAe]; exact Or.inr h
  clear hAe hD0
  have hS : va_S A s.heap s.heap [] := va_S.rf
  have hl := lv_entry ([.ref (ad 0)]) (n := 2) (Nat.le_of_ble_eq_true rfl)
  rw [lg_entry_eq]
  generalize (lg_sl ([.ref (ad 0)]) ++ List.replicate (2 - (lg_sl ([.ref (ad 0)])).length) Slot.unset).toArray = ls at hl ⊢
  have hl : lv_has ls 2 [(0, .ref (ad 0))] := hl
  change W p l e rmX6_takeClause s m ([.ref (ad 0)] : List Value).toArray below meth c s.heap [] 0 0 _ _
  unfold fX6_takeClause at hf
  refine lv_aload_n hx hb dX6_takeClause_0 rfl (lv_at hl 0 rfl) ?_
  obtain ⟨r1, c_place_2, v3, hf⟩ := bd2_some hf
  refine gci (va_runV (As := []) (rest := []) ⟨hx, hb, hml, hown, hts⟩ (tX6_look l dC dI dA ad s.heap.size v3) (ccX6_X6_look hts ⟨Nat.le_of_ble_eq_true rfl, Nat.le_of_ble_eq_true rfl⟩) (gPreV (ci := 6) (q0 := 0) hP hK hD rfl rfl) rfl rfl hl.1 rfl (lv_room (Nat.le_of_ble_eq_true rfl)) dX6_takeClause_1 ⟨Nat.le_of_ble_eq_true rfl, Nat.le_of_ble_eq_true rfl⟩) hD hS hA (fun H locs hP hD hS => ?_)
  refine lv_istore_n (lv' := [(1, .int r1), (0, .ref (ad 0))]) hx hb dX6_takeClause_4 rfl hl (by decide) rfl (fun ls hl => ?_)
  refine lv_aload_n hx hb dX6_takeClause_5 rfl (lv_at hl 1 rfl) ?_
  refine lv_dup hx hb dX6_takeClause_6 rfl ?_
  refine va_get (D := (dC, dI)) (ci := 6) (v := .int c_place_2) (C := RX6) (T := TX6) (N := 8) hx hb hts (fun w h => gw_mem (inX6 w h)) hown hK.1 hP 0 rfl rfl 4 (by decide) (hts _ (gw_mem wfX6_29)) (fun _ h9 => h9) rfl dX6_takeClause_7 ?_
  refine lv_iconst (v := 1) hx hb dX6_takeClause_10 (by decide) ?_
  refine lv_iadd hx hb dX6_takeClause_11 ?_
  refine lv_topi (fun w4 ew4 => ?_)
  replace hf := nm_at hf ew4
  refine va_put (D := (dC, dI)) (ci := 6) (v := .int w4) (ty := .int) (C := RX6) (T := TX6) (N := 8) hx hb hts (fun w h => gw_mem (inX6 w h)) tyX6 tyX6_ok nmX6 hown hK.1 hP hD hS 0 rfl rfl 4 (by decide) (hts _ (gw_mem wfX6_29)) (fun _ h9 => h9) rfl (by decide +kernel) rfl rfl (Nat.le_of_ble_eq_true rfl) dX6_takeClause_12 (fun H locs hP hD hS => ?_)
  have hP : va_P (dC, dI) vwCl (wX6 dA ad c_size c_length w4 c_fault c_faultPlace c_begin c_bytes c_draft_terms) H := hP
  have hD : va_D A (wX6 dA ad c_size c_length w4 c_fault c_faultPlace c_begin c_bytes c_draft_terms) := hD
  refine lv_iload_n hx hb dX6_takeClause_15 rfl (lv_at hl 0 rfl) ?_
  by_cases k5 : r1 = 99
  · replace hf := ifp k5 hf
    refine lv_tableIn (tgt := 155) hx hb dX6_takeClause_16 (by rw [k5]; decide) (by rw [k5]; decide) (by rw [k5]; rfl) (by decide) ?_
    refine lv_aload_n hx hb dX6_takeClause_155 rfl (lv_at hl 1 rfl) ?_
    obtain ⟨r6, c_place_7, c_fault_8, c_faultPlace_9, c_begin_10, c_draft_terms_11, v12, hf⟩ := bd6_some hf
    refine gci (va_runV (As := []) (rest := []) ⟨hx, hb, hml, hown, hts⟩ (tX6_takeCoupon l dC dI dA ad H.size v12) (ccX6_X6_takeCoupon hts ⟨Nat.le_of_ble_eq_true rfl, Nat.le_of_ble_eq_true rfl⟩) (gPreV (ci := 6) (q0 := 0) hP hK hD rfl rfl) rfl rfl hl.1 rfl (lv_room (Nat.le_of_ble_eq_true rfl)) dX6_takeClause_156 ⟨Nat.le_of_ble_eq_true rfl, Nat.le_of_ble_eq_true rfl⟩) hD hS hA (fun H locs hP hD hS => ?_)
    obtain ⟨h13, hf⟩ := og_some hf
    cases hf
    exact W.zret (ty := .boolean) hx hb hr (boB_nar h13) (fun t ht _ => gqi hP hD hS ht) hS.2.2 dX6_takeClause_159
  · replace hf := ifn k5 hf
    by_cases k14 : r1 = 102
    · replace hf := ifp k14 hf
      refine lv_tableIn (tgt := 128) hx hb dX6_takeClause_16 (by rw [k14]; decide) (by rw [k14]; decide) (by rw [k14]; rfl) (by decide) ?_
      refine lv_aload_n hx hb dX6_takeClause_128 rfl (lv_at hl 1 rfl) ?_
      refine lv_iconst (v := 0) hx hb dX6_takeClause_129 (by decide) ?_
      refine lv_aload_n hx hb dX6_takeClause_130 rfl (lv_at hl 1 rfl) ?_
      refine lv_iconst (v := 1) hx hb dX6_takeClause_131 (by decide) ?_
      refine lv_ldc (v := 1000000) hx hb hown (hts _ (gw_mem wkX6_63)) dX6_takeClause_132 ?_
      obtain ⟨r15, c_place_16, c_fault_17, c_faultPlace_18, c_begin_19, v20, hf⟩ := bd5_some hf
      refine gci (va_runV (As := [.int 1, .int 1000000]) (rest := [.int 0, .ref (ad 0)]) ⟨hx, hb, hml, hown, hts⟩ (tX6_takeNumber l dC dI dA ad H.size v20) (ccX6_X6_takeNumber hts ⟨Nat.le_of_ble_eq_true rfl, Nat.le_of_ble_eq_true rfl⟩) (gPreV (ci := 6) (q0 := 0) hP hK hD rfl rfl) rfl rfl hl.1 rfl (lv_room (Nat.le_of_ble_eq_true rfl)) dX6_takeClause_134 ⟨Nat.le_of_ble_eq_true rfl, Nat.le_of_ble_eq_true rfl⟩) hD hS hA (fun H locs hP hD hS => ?_)
      obtain ⟨r21, c_draft_terms_22, v23, hf⟩ := bd2_some hf
      refine gci (va_runV (As := [.int 0, .int r15]) (rest := []) ⟨hx, hb, hml, hown, hts⟩ (tX6_store l dC dI dA ad H.size v23) (ccX6_X6_store hts ⟨Nat.le_of_ble_eq_true rfl, Nat.le_of_ble_eq_true rfl⟩) (gPreV (ci := 6) (q0 := 0) hP hK hD rfl rfl) rfl rfl hl.1 rfl (lv_room (Nat.le_of_ble_eq_true rfl)) dX6_takeClause_137 ⟨Nat.le_of_ble_eq_true rfl, Nat.le_of_ble_eq_true rfl⟩) hD hS hA (fun H locs hP hD hS => ?_)
      obtain ⟨h24, hf⟩ := og_some hf
      cases hf
      exact W.zret (ty := .boolean) hx hb hr (boB_nar h24) (fun t ht _ => gqi hP hD hS ht) hS.2.2 dX6_takeClause_140
    · replace hf := ifn k14 hf
      by_cases k25 : r1 = 107
      · replace hf := ifp k25 hf
        refine lv_tableIn (tgt := 160) hx hb dX6_takeClause_16 (by rw [k25]; decide) (by rw [k25]; decide) (by rw [k25]; rfl) (by decide) ?_
        refine lv_aload_n hx hb dX6_takeClause_160 rfl (lv_at hl 1 rfl) ?_
        refine lv_bipush (v := 20) hx hb dX6_takeClause_161 (by decide) ?_
        obtain ⟨r26, c_place_27, c_fault_28, c_faultPlace_29, c_begin_30, c_draft_terms_31, v32, hf⟩ := bd6_some hf
        refine gci (va_runV (As := [.int 20]) (rest := []) ⟨hx, hb, hml, hown, hts⟩ (tX6_takeRight l dC dI dA ad H.size v32) (ccX6_X6_takeRight hts ⟨Nat.le_of_ble_eq_true rfl, Nat.le_of_ble_eq_true rfl⟩) (gPreV (ci := 6) (q0 := 0) hP hK hD rfl rfl) rfl rfl hl.1 rfl (lv_room (Nat.le_of_ble_eq_true rfl)) dX6_takeClause_163 ⟨Nat.le_of_ble_eq_true rfl, Nat.le_of_ble_eq_true rfl⟩) hD hS hA (fun H locs hP hD hS => ?_)
        obtain ⟨h33, hf⟩ := og_some hf
        cases hf
        exact W.zret (ty := .boolean) hx hb hr (boB_nar h33) (fun t ht _ => gqi hP hD hS ht) hS.2.2 dX6_takeClause_166
      · replace hf := ifn k25 hf
        by_cases k34 : r1 = 110
        · replace hf := ifp k34 hf
          refine lv_tableIn (tgt := 141) hx hb dX6_takeClause_16 (by rw [k34]; decide) (by rw [k34]; decide) (by rw [k34]; rfl) (by decide) ?_
          refine lv_aload_n hx hb dX6_takeClause_141 rfl (lv_at hl 1 rfl) ?_
          refine lv_iconst (v := 1) hx hb dX6_takeClause_142 (by decide) ?_
          refine lv_aload_n hx hb dX6_takeClause_143 rfl (lv_at hl 1 rfl) ?_
          refine lv_iconst (v := 0) hx hb dX6_takeClause_144 (by decide) ?_
          refine lv_sipush (v := 1000) hx hb dX6_takeClause_145 (by decide) ?_
          obtain ⟨r35, c_place_36, c_fault_37, c_faultPlace_38, c_begin_39, v40, hf⟩ := bd5_some hf
          refine gci (va_runV (As := [.int 0, .int 1000]) (rest := [.int 1, .ref (ad 0)]) ⟨hx, hb, hml, hown, hts⟩ (tX6_takeNumber l dC dI dA ad H.size v40) (ccX6_X6_takeNumber hts ⟨Nat.le_of_ble_eq_true rfl, Nat.le_of_ble_eq_true rfl⟩) (gPreV (ci := 6) (q0 := 0) hP hK hD rfl rfl) rfl rfl hl.1 rfl (lv_room (Nat.le_of_ble_eq_true rfl)) dX6_takeClause_148 ⟨Nat.le_of_ble_eq_true rfl, Nat.le_of_ble_eq_true rfl⟩) hD hS hA (fun H locs hP hD hS => ?_)
          obtain ⟨r41, c_draft_terms_42, v43, hf⟩ := bd2_some hf
          refine gci (va_runV (As := [.int 1, .int r35]) (rest := []) ⟨hx, hb, hml, hown, hts⟩ (tX6_store l dC dI dA ad H.size v43) (ccX6_X6_store hts ⟨Nat.le_of_ble_eq_true rfl, Nat.le_of_ble_eq_true rfl⟩) (gPreV (ci := 6) (q0 := 0) hP hK hD rfl rfl) rfl rfl hl.1 rfl (lv_room (Nat.le_of_ble_eq_true rfl)) dX6_takeClause_151 ⟨Nat.le_of_ble_eq_true rfl, Nat.le_of_ble_eq_true rfl⟩) hD hS hA (fun H locs hP hD hS => ?_)
          obtain ⟨h44, hf⟩ := og_some hf
          cases hf
          exact W.zret (ty := .boolean) hx hb hr (boB_nar h44) (fun t ht _ => gqi hP hD hS ht) hS.2.2 dX6_takeClause_154
        · replace hf := ifn k34 hf
          by_cases k45 : r1 = 112
          · replace hf := ifp k45 hf
            refine lv_tableIn (tgt := 167) hx hb dX6_takeClause_16 (by rw [k45]; decide) (by rw [k45]; decide) (by rw [k45]; rfl) (by decide) ?_
            refine lv_aload_n hx hb dX6_takeClause_167 rfl (lv_at hl 1 rfl) ?_
            refine lv_bipush (v := 30) hx hb dX6_takeClause_168 (by decide) ?_
            obtain ⟨r46, c_place_47, c_fault_48, c_faultPlace_49, c_begin_50, c_draft_terms_51, v52, hf⟩ := bd6_some hf
            refine gci (va_runV (As := [.int 30]) (rest := []) ⟨hx, hb, hml, hown, hts⟩ (tX6_takeRight l dC dI dA ad H.size v52) (ccX6_X6_takeRight hts ⟨Nat.le_of_ble_eq_true rfl, Nat.le_of_ble_eq_true rfl⟩) (gPreV (ci := 6) (q0 := 0) hP hK hD rfl rfl) rfl rfl hl.1 rfl (lv_room (Nat.le_of_ble_eq_true rfl)) dX6_takeClause_170 ⟨Nat.le_of_ble_eq_true rfl, Nat.le_of_ble_eq_true rfl⟩) hD hS hA (fun H locs hP hD hS => ?_)
            obtain ⟨h53, hf⟩ := og_some hf
            cases hf
            exact W.zret (ty := .boolean) hx hb hr (boB_nar h53) (fun t ht _ => gqi hP hD hS ht) hS.2.2 dX6_takeClause_173
          · replace hf := ifn k45 hf
            by_cases k54 : r1 = 115
            · replace hf := ifp k54 hf
              refine lv_tableIn (tgt := 179) hx hb dX6_takeClause_16 (by rw [k54]; decide) (by rw [k54]; decide) (by rw [k54]; rfl) (by decide) ?_
              refine lv_aload_n hx hb dX6_takeClause_179 rfl (lv_at hl 1 rfl) ?_
              obtain ⟨r55, c_place_56, c_fault_57, c_faultPlace_58, c_begin_59, c_draft_terms_60, v61, hf⟩ := bd6_some hf
              refine gci (va_runV (As := []) (rest := []) ⟨hx, hb, hml, hown, hts⟩ (tX6_takeSoft l dC dI dA ad H.size v61) (ccX6_X6_takeSoft hts ⟨Nat.le_of_ble_eq_true rfl, Nat.le_of_ble_eq_true rfl⟩) (gPreV (ci := 6) (q0 := 0) hP hK hD rfl rfl) rfl rfl hl.1 rfl (lv_room (Nat.le_of_ble_eq_true rfl)) dX6_takeClause_180 ⟨Nat.le_of_ble_eq_true rfl, Nat.le_of_ble_eq_true rfl⟩) hD hS hA (fun H locs hP hD hS => ?_)
              obtain ⟨h62, hf⟩ := og_some hf
              cases hf
              exact W.zret (ty := .boolean) hx hb hr (boB_nar h62) (fun t ht _ => gqi hP hD hS ht) hS.2.2 dX6_takeClause_183
            · replace hf := ifn k54 hf
              by_cases k63 : r1 = 119
              · replace hf := ifp k63 hf
                refine lv_tableIn (tgt := 174) hx hb dX6_takeClause_16 (by rw [k63]; decide) (by rw [k63]; decide) (by rw [k63]; rfl) (by decide) ?_
                refine lv_aload_n hx hb dX6_takeClause_174 rfl (lv_at hl 1 rfl) ?_
                obtain ⟨r64, c_place_65, c_fault_66, c_faultPlace_67, c_draft_terms_68, v69, hf⟩ := bd5_some hf
                refine gci (va_runV (As := []) (rest := []) ⟨hx, hb, hml, hown, hts⟩ (tX6_takeWindow l dC dI dA ad H.size v69) (ccX6_X6_takeWindow hts ⟨Nat.le_of_ble_eq_true rfl, Nat.le_of_ble_eq_true rfl⟩) (gPreV (ci := 6) (q0 := 0) hP hK hD rfl rfl) rfl rfl hl.1 rfl (lv_room (Nat.le_of_ble_eq_true rfl)) dX6_takeClause_175 ⟨Nat.le_of_ble_eq_true rfl, Nat.le_of_ble_eq_true rfl⟩) hD hS hA (fun H locs hP hD hS => ?_)
                obtain ⟨h70, hf⟩ := og_some hf
                cases hf
                exact W.zret (ty := .boolean) hx hb hr (boB_nar h70) (fun t ht _ => gqi hP hD hS ht) hS.2.2 dX6_takeClause_178
              · replace hf := ifn k63 hf
                by_cases k71 : r1 = 122
                · replace hf := ifp k71 hf
                  refine lv_tableIn (tgt := 184) hx hb dX6_takeClause_16 (by rw [k71]; decide) (by rw [k71]; decide) (by rw [k71]; rfl) (by decide) ?_
                  refine lv_aload_n hx hb dX6_takeClause_184 rfl (lv_at hl 1 rfl) ?_
                  refine lv_bipush (v := 7) hx hb dX6_takeClause_185 (by decide) ?_
                  refine lv_aload_n hx hb dX6_takeClause_187 rfl (lv_at hl 1 rfl) ?_
                  refine lv_iconst (v := 0) hx hb dX6_takeClause_188 (by decide) ?_
                  refine lv_iconst (v := 3) hx hb dX6_takeClause_189 (by decide) ?_
                  obtain ⟨r72, c_place_73, c_fault_74, c_faultPlace_75, v76, hf⟩ := bd4_some hf
                  refine gci (va_runV (As := [.int 0, .int 3]) (rest := [.int 7, .ref (ad 0)]) ⟨hx, hb, hml, hown, hts⟩ (tX6_takeDigit l dC dI dA ad H.size v76) (ccX6_X6_takeDigit hts ⟨Nat.le_of_ble_eq_true rfl, Nat.le_of_ble_eq_true rfl⟩) (gPreV (ci := 6) (q0 := 0) hP hK hD rfl rfl) rfl rfl hl.1 rfl (lv_room (Nat.le_of_ble_eq_true rfl)) dX6_takeClause_190 ⟨Nat.le_of_ble_eq_true rfl, Nat.le_of_ble_eq_true rfl⟩) hD hS hA (fun H locs hP hD hS => ?_)
                  obtain ⟨r77, c_draft_terms_78, v79, hf⟩ := bd2_some hf
                  refine gci (va_runV (As := [.int 7, .int r72]) (rest := []) ⟨hx, hb, hml, hown, hts⟩ (tX6_store l dC dI dA ad H.size v79) (ccX6_X6_store hts ⟨Nat.le_of_ble_eq_true rfl, Nat.le_of_ble_eq_true rfl⟩) (gPreV (ci := 6) (q0 := 0) hP hK hD rfl rfl) rfl rfl hl.1 rfl (lv_room (Nat.le_of_ble_eq_true rfl)) dX6_takeClause_193 ⟨Nat.le_of_ble_eq_true rfl, Nat.le_of_ble_eq_true rfl⟩) hD hS hA (fun H locs hP hD hS => ?_)
                  obtain ⟨h80, hf⟩ := og_some hf
                  cases hf
                  exact W.zret (ty := .boolean) hx hb hr (boB_nar h80) (fun t ht _ => gqi hP hD hS ht) hS.2.2 dX6_takeClause_196
                · replace hf := ifn k71 hf
                  have uk5 := lv_neT (a := 99) k5 (by decide)
                  have uk14 := lv_neT (a := 102) k14 (by decide)
                  have uk25 := lv_neT (a := 107) k25 (by decide)
                  have uk34 := lv_neT (a := 110) k34 (by decide)
                  have uk45 := lv_neT (a := 112) k45 (by decide)
                  have uk54 := lv_neT (a := 115) k54 (by decide)
                  have uk63 := lv_neT (a := 119) k63 (by decide)
                  have uk71 := lv_neT (a := 122) k71 (by decide)
                  refine tb_tableD (tgt := 197) (gs := [100, 101, 103, 104, 105, 106, 108, 109, 111, 113, 114, 116, 117, 118, 120, 121]) hx hb dX6_takeClause_16 (by decide +kernel) (fun h1 h2 => by simp only [List.mem_cons, List.not_mem_nil, or_false]; omega) (by decide) ?_
                  refine lv_aload_n hx hb dX6_takeClause_197 rfl (lv_at hl 1 rfl) ?_
                  refine lv_iconst (v := 1) hx hb dX6_takeClause_198 (by decide) ?_
                  refine lv_aload_n hx hb dX6_takeClause_199 rfl (lv_at hl 1 rfl) ?_
                  refine va_get (D := (dC, dI)) (ci := 6) (v := .int w4) (C := RX6) (T := TX6) (N := 8) hx hb hts (fun w h => gw_mem (inX6 w h)) hown hK.1 hP 0 rfl rfl 4 (by decide) (hts _ (gw_mem wfX6_29)) (fun _ h9 => h9) rfl dX6_takeClause_200 ?_
                  refine lv_iconst (v := 1) hx hb dX6_takeClause_203 (by decide) ?_
                  refine lv_isub hx hb dX6_takeClause_204 ?_
                  obtain ⟨r81, c_fault_82, c_faultPlace_83, v84, hf⟩ := bd3_some hf
                  refine gci (va_runV (As := [.int 1, .int (w4 - 1)]) (rest := []) ⟨hx, hb, hml, hown, hts⟩ (tX6_fails l dC dI dA ad H.size v84) (ccX6_X6_fails hts ⟨Nat.le_of_ble_eq_true rfl, Nat.le_of_ble_eq_true rfl⟩) (gPreV (ci := 6) (q0 := 0) hP hK hD rfl rfl) rfl rfl hl.1 rfl (lv_room (Nat.le_of_ble_eq_true rfl)) dX6_takeClause_205 ⟨Nat.le_of_ble_eq_true rfl, Nat.le_of_ble_eq_true rfl⟩) hD hS hA (fun H locs hP hD hS => ?_)
                  obtain ⟨h85, hf⟩ := og_some hf
                  cases hf
                  exact W.zret (ty := .boolean) hx hb hr (boB_nar h85) (fun t ht _ => gqi hP hD hS ht) hS.2.2 dX6_takeClause_208
theorem ccX6_X0_takeFrom {R : Room} {s : State} {args : Array Value} {c0 : Cond} (ht : ∀ w ∈ wq c0, w.before args s = true) (hR : rmX0_takeFrom.frames + 1 ≤ R.frames ∧ 8 + (2 + 11) + rmX0_takeFrom.locals ≤ R.locals) : CallW R s args RX6 RX0 45 yX0_takeFrom cX0_takeFrom 2 none (wq (.code yX0_takeFrom cX0_takeFrom 2 none)) rmX0_takeFrom 0 0 1 := gCW 1 ht wcX0_takeFrom wmX6_45 wiX0_takeFrom weX0_takeFrom wnX0 (by decide +kernel) rfl rfl hR
theorem ccX6_X6_takeClause {R : Room} {s : State} {args : Array Value} {c0 : Cond} (ht : ∀ w ∈ wq c0, w.before args s = true) (hR : rmX6_takeClause.frames + 1 ≤ R.frames ∧ 8 + (2 + 11) + rmX6_takeClause.locals ≤ R.locals) : CallW R s args RX6 RX6 59 yX6_takeClause cX6_takeClause 2 (some .boolean) (wq (.code yX6_takeClause cX6_takeClause 2 (some .boolean))) rmX6_takeClause 0 0 0 := gCW 0 ht wcX6_takeClause wmX6_59 wiX6_takeClause weX6_takeClause wnX6 (by decide +kernel) rfl rfl hR
def lpX6_readTerms_27 (c_length : Int32) (c_bytes : Nat → Int32) : Nat → Int32 → Int32 → Int32 → Int32 → Int32 → (Nat → Int32) → Option (Nat × Int32 × Int32 × Int32 × Int32 × Int32 × (Nat → Int32))
  | 0, _, _, _, _, _, _ => none
  | n + 1, x3, c_place, c_fault, c_faultPlace, c_begin, c_draft_terms => if 100 ≤ x3 then some (1, x3, c_place, c_fault, c_faultPlace, c_begin, c_draft_terms) else bd2 (fX6_look c_length c_place c_bytes) (fun r17 c_place_18 => if r17 = (-1) then some (1, x3, c_place_18, c_fault, c_faultPlace, c_begin, c_draft_terms) else bd6 (fX6_takeClause c_length c_place_18 c_fault c_faultPlace c_begin c_bytes c_draft_terms) (fun r22 c_place_23 c_fault_24 c_faultPlace_25 c_begin_26 c_draft_terms_27 => if r22 = 0 then some (0, x3, c_place_23, c_fault_24, c_faultPlace_25, c_begin_26, c_draft_terms_27) else nm (x3 + 1) (fun w31 => lpX6_readTerms_27 c_length c_bytes n w31 c_place_23 c_fault_24 c_faultPlace_25 c_begin_26 c_draft_terms_27)))
def fX6_readTerms (p1 : Int32) (c_size : Int32) (c_length : Int32) (c_place : Int32) (c_fault : Int32) (c_faultPlace : Int32) (c_begin : Int32) (c_bytes : Nat → Int32) (c_draft_terms : Nat → Int32) (d2_terms : Nat → Int32) : Option (Int32 × Int32 × Int32 × Int32 × Int32 × Int32 × (Nat → Int32) × (Nat → Int32)) := bd1 (fX0_takeFrom c_draft_terms d2_terms) (fun c_draft_terms_1 => nm (if c_size < p1 then c_size else p1) (fun w4 => bd7 (lpX6_readTerms_27 w4 c_bytes FU 0 0 c_fault c_faultPlace c_begin c_draft_terms_1) (fun tg5 x6 c_place_7 c_fault_8 c_faultPlace_9 c_begin_10 c_draft_terms_11 => if tg5 = 0 then some (((-1000) * c_fault_8) - c_faultPlace_9, w4, c_place_7, c_fault_8, c_faultPlace_9, c_begin_10, c_draft_terms_11, d2_terms) else bd1 (fX0_takeFrom d2_terms c_draft_terms_11) (fun d2_terms_13 => some (x6, w4, c_place_7, c_fault_8, c_faultPlace_9, c_begin_10, c_draft_terms_11, d2_terms_13)))))
abbrev rmX6_readTerms : Room := { frames := 5, cells := 0, slots := 0, locals := 111 }
set_option maxHeartbeats 4000000 in
set_option maxRecDepth 100000 in
theorem tX6_readTerms (l : Launch) (dC : Nat → ClassId) (dI : Nat → Nat → Nat) (dA : Nat → ClassId) (ad : Nat → Nat) (ad2 : Nat → Nat) (sz : Nat) {p1 : Int32} {c_size : Int32} {c_length : Int32} {c_place : Int32} {c_fault : Int32} {c_faultPlace : Int32} {c_begin : Int32} {c_bytes : Nat → Int32} {c_draft_terms : Nat → Int32} {d2_terms : Nat → Int32} {r : Int32} {o_c_length : Int32} {o_c_place : Int32} {o_c_fault : Int32} {o_c_faultPlace : Int32} {o_c_begin : Int32} {o_c_draft_terms : Nat → Int32} {o_d2_terms : Nat → Int32} (hf : fX6_readTerms p1 c_size c_length c_place c_fault c_faultPlace c_begin c_bytes c_draft_terms d2_terms = some (r, o_c_length, o_c_place, o_c_fault, o_c_faultPlace, o_c_begin, o_c_draft_terms, o_d2_terms)) : Met l yX6_readTerms (wq (Cond.code yX6_readTerms cX6_readTerms 4 (some .int))) rmX6_readTerms (gP [.ref (ad 0), .int p1, .ref (ad2 0)] (dC, dI) dA ((wX6 dA ad c_size c_length c_place c_fault c_faultPlace c_begin c_bytes c_draft_terms) ++ (wX0 dA ad2 d2_terms)) sz) (gQi (dC, dI) r ((wX6 dA ad c_size o_c_length o_c_place o_c_fault o_c_faultPlace o_c_begin c_bytes o_c_draft_terms) ++ (wX0 dA ad2 o_d2_terms)) (va_A ((wX6 dA ad c_size c_length c_place c_fault c_faultPlace c_begin c_bytes c_draft_terms) ++ (wX0 dA ad2 d2_terms)) sz)) 0 0 (va_A ((wX6 dA ad c_size c_length c_place c_fault c_faultPlace c_begin c_bytes c_draft_terms) ++ (wX0 dA ad2 d2_terms)) sz) := by
  refine Met.ofW (cc := cX6_readTerms) (maxL := 4) (ret := (some .int)) (by decide) rfl ?_
  intro p e s m args below meth c s₁ B hml hv
  obtain ⟨rfl, hsz, hP, hK, hD0⟩ := hv
  have hx := B.exec
  have hb := B.bytes
  have hr := B.returns
  have hts := atoms_spec (ws := wq (Cond.code yX6_readTerms cX6_readTerms 4 (some .int))) B.pre
  have hown : s.vm.findClass RX6 = some m.cls := findClass_of_methodNamed B.named
  have hlocks := B.notSynchronized
  clear B
  subst hsz
  have hD := hD0.self (sz := s.heap.size)
  generalize hAe : va_A ((wX6 dA ad c_size c_length c_place c_fault c_faultPlace c_begin c_bytes c_draft_terms) ++ (wX0 dA ad2 d2_terms)) s.heap.size = A at hD ⊢
  have hA : ∀ q : Nat, s.heap.size ≤ q → A q := fun q h => by rw [← hAe]; exact Or.inr h
  clear hAe hD0
  have hS : va_S A s.heap s.heap [] := va_S.rf
  have hl := lv_entry ([.ref (ad 0), .int p1, .ref (ad2 0)]) (n := 4) (Nat.le_of_ble_eq_true rfl)
  rw [lg_entry_eq]
  generalize (lg_sl ([.ref (ad 0), .int p1, .ref (ad2 0)]) ++ List.replicate (4 - (lg_sl ([.ref (ad 0), .int p1, .ref (ad2 0)])).length) Slot.unset).toArray = ls at hl ⊢
  have hl : lv_has ls 4 [(0, .ref (ad 0)), (1, .int p1), (2, .ref (ad2 0))] := hl
  change W p l e rmX6_readTerms s m ([.ref (ad 0), .int p1, .ref (ad2 0)] : List Value).toArray below meth c s.heap [] 0 0 _ _
  generalize hQ : MQ below (gQi (dC, dI) r ((wX6 dA ad c_size o_c_length o_c_place o_c_fault o_c_faultPlace o_c_begin c_bytes o_c_draft_terms) ++ (wX0 dA ad2 o_d2_terms)) A) ([.ref (ad 0), .int p1, .ref (ad2 0)] : List Value).toArray s 0 0 A = Q
  have LP27 : ∀ (n : Nat) (c_length : Int32) (c_bytes : Nat → Int32) (c_size : Int32) (d2_terms : Nat → Int32) (x3 : Int32) (c_place : Int32) (c_fault : Int32) (c_faultPlace : Int32) (c_begin : Int32) (c_draft_terms : Nat → Int32) (tgo : Nat) (o3 : Int32) (o_c_place : Int32) (o_c_fault : Int32) (o_c_faultPlace : Int32) (o_c_begin : Int32) (o_c_draft_terms : Nat → Int32) (H : Heap) (locs : List Loc) (ls : Array Slot), va_P (dC, dI) vwCl ((wX6 dA ad c_size c_length c_place c_fault c_faultPlace c_begin c_bytes c_draft_terms) ++ (wX0 dA ad2 d2_terms)) H → va_D A ((wX6 dA ad c_size c_length c_place c_fault c_faultPlace c_begin c_bytes c_draft_terms) ++ (wX0 dA ad2 d2_terms)) → va_S A s.heap H locs → lpX6_readTerms_27 c_length c_bytes n x3 c_place c_fault c_faultPlace c_begin c_draft_terms = some (tgo, o3, o_c_place, o_c_fault, o_c_faultPlace, o_c_begin, o_c_draft_terms) → lv_has ls 4 [(0, .ref (ad 0)), (2, .ref (ad2 0)), (3, .int x3)] → (tgo = 0 → ∀ (H : Heap) (locs : List Loc) (ls : Array Slot), va_P (dC, dI) vwCl ((wX6 dA ad c_size c_length o_c_place o_c_fault o_c_faultPlace o_c_begin c_bytes o_c_draft_terms) ++ (wX0 dA ad2 d2_terms)) H → va_D A ((wX6 dA ad c_size c_length o_c_place o_c_fault o_c_faultPlace o_c_begin c_bytes o_c_draft_terms) ++ (wX0 dA ad2 d2_terms)) → va_S A s.heap H locs → lv_has ls 4 [(0, .ref (ad 0))] → W p l e rmX6_readTerms s m ([.ref (ad 0), .int p1, .ref (ad2 0)] : List Value).toArray below meth c H locs 0 0 Q (F0 m 48 ls [])) → (tgo = 1 → ∀ (H : Heap) (locs : List Loc) (ls : Array Slot), va_P (dC, dI) vwCl ((wX6 dA ad c_size c_length o_c_place o_c_fault o_c_faultPlace o_c_begin c_bytes o_c_draft_terms) ++ (wX0 dA ad2 d2_terms)) H → va_D A ((wX6 dA ad c_size c_length o_c_place o_c_fault o_c_faultPlace o_c_begin c_bytes o_c_draft_terms) ++ (wX0 dA ad2 d2_terms)) → va_S A s.heap H locs → lv_has ls 4 [(0, .ref (ad 0)), (2, .ref (ad2 0)), (3, .int o3)] → W p l e rmX6_readTerms s m ([.ref (ad 0), .int p1, .ref (ad2 0)] : List Value).toArray below meth c H locs 0 0 Q (F0 m 68 ls [])) → W p l e rmX6_readTerms s m ([.ref (ad 0), .int p1, .ref (ad2 0)] : List Value).toArray below meth c H locs 0 0 Q (F0 m 27 ls []) := by
    intro n
    induction n with
    | zero =>
      intro c_length c_bytes c_size d2_terms x3 c_place c_fault c_faultPlace c_begin c_draft_terms tgo o3 o_c_place o_c_fault o_c_faultPlace o_c_begin o_c_draft_terms H locs ls hP hD hS hf hl hk0 hk1
      cases hf
    | succ n ih27 =>
      intro c_length c_bytes c_size d2_terms x3 c_place c_fault c_faultPlace c_begin c_draft_terms tgo o3 o_c_place o_c_fault o_c_faultPlace o_c_begin o_c_draft_terms H locs ls hP hD hS hf hl hk0 hk1
      rw [lpX6_readTerms_27.eq_2] at hf
      refine lv_iload_n hx hb dX6_readTerms_27 rfl (lv_at hl 2 rfl) ?_
      refine lv_bipush (v := 100) hx hb dX6_readTerms_28 (by decide) ?_
      refine lv_icmp_ge (tgt := 68) hx hb dX6_readTerms_30 (by decide) (fun k16 => ?_) (fun k16 => ?_)
      · replace hf := ifp k16 hf
        cases hf
        exact hk1 rfl _ _ _ hP hD hS (lv_sub hl [0, 1, 2] rfl)
      · replace hf := ifn k16 hf
        refine lv_aload_n hx hb dX6_readTerms_33 rfl (lv_at hl 0 rfl) ?_
        obtain ⟨r17, c_place_18, v19, hf⟩ := bd2_some hf
        have z20 : [0, 1, 2, 3].map (fun i => (((wX6 dA ad c_size c_length c_place c_fault c_faultPlace c_begin c_bytes c_draft_terms) ++ (wX0 dA ad2 d2_terms)))[i]?) = ((wX6 dA ad c_size c_length c_place c_fault c_faultPlace c_begin c_bytes c_draft_terms)).map some := rfl
        refine gpi [0, 1, 2, 3] [4, 5] [2, 3, 4, 5, 0, 1] (wf := ((wX6 dA ad c_size c_length c_place_18 c_fault c_faultPlace c_begin c_bytes c_draft_terms) ++ (wX0 dA ad2 d2_terms))) (va_runV (As := []) (rest := []) ⟨hx, hb, hml, hown, hts⟩ (tX6_look l dC dI dA ad H.size v19) (ccX6_X6_look hts ⟨Nat.le_of_ble_eq_true rfl, Nat.le_of_ble_eq_true rfl⟩) (gPreV (ci := 6) (q0 := 0) (gsub z20 hP) hK (gsubD z20 (by decide) hD) rfl rfl) rfl rfl hl.1 rfl (lv_room (Nat.le_of_ble_eq_true rfl)) dX6_readTerms_34 ⟨Nat.le_of_ble_eq_true rfl, Nat.le_of_ble_eq_true rfl⟩) hP hD hS hA z20 rfl (by decide) (by decide) (by decide) rfl (fun H locs hP hD hS => ?_)
        refine lv_iconst (v := (-1)) hx hb dX6_readTerms_37 (by decide) ?_
        refine lv_icmp_eq (tgt := 68) hx hb dX6_readTerms_38 (by decide) (fun k21 => ?_) (fun k21 => ?_)
        · replace hf := ifp k21 hf
          cases hf
          exact hk1 rfl _ _ _ hP hD hS (lv_sub hl [0, 1, 2] rfl)
        · replace hf := ifn k21 hf
          refine lv_aload_n hx hb dX6_readTerms_41 rfl (lv_at hl 0 rfl) ?_
          obtain ⟨r22, c_place_23, c_fault_24, c_faultPlace_25, c_begin_26, c_draft_terms_27, v28, hf⟩ := bd6_some hf
          have z29 : [0, 1, 2, 3].map (fun i => (((wX6 dA ad c_size c_length c_place_18 c_fault c_faultPlace c_begin c_bytes c_draft_terms) ++ (wX0 dA ad2 d2_terms)))[i]?) = ((wX6 dA ad c_size c_length c_place_18 c_fault c_faultPlace c_begin c_bytes c_draft_terms)).map some := rfl
          refine gpi [0, 1, 2, 3] [4, 5] [2, 3, 4, 5, 0, 1] (wf := ((wX6 dA ad c_size c_length c_place_23 c_fault_24 c_faultPlace_25 c_begin_26 c_bytes c_draft_terms_27) ++ (wX0 dA ad2 d2_terms))) (va_runV (As := []) (rest := []) ⟨hx, hb, hml, hown, hts⟩ (tX6_takeClause l dC dI dA ad H.size v28) (ccX6_X6_takeClause hts ⟨Nat.le_of_ble_eq_true rfl, Nat.le_of_ble_eq_true rfl⟩) (gPreV (ci := 6) (q0 := 0) (gsub z29 hP) hK (gsubD z29 (by decide) hD) rfl rfl) rfl rfl hl.1 rfl (lv_room (Nat.le_of_ble_eq_true rfl)) dX6_readTerms_42 ⟨Nat.le_of_ble_eq_true rfl, Nat.le_of_ble_eq_true rfl⟩) hP hD hS hA z29 rfl (by decide) (by decide) (by decide) rfl (fun H locs hP hD hS => ?_)
          refine lv_if_ne (tgt := 62) hx hb dX6_readTerms_45 (by decide) (fun k30 => ?_) (fun k30 => ?_)
          · replace hf := ifn k30 hf
            obtain ⟨w31, ew31⟩ : ∃ y : Int32, y = x3 + 1 := ⟨_, rfl⟩
            replace hf := nm_at hf ew31
            refine lv_iinc (v := w31) (lv' := [(3, .int w31), (0, .ref (ad 0)), (2, .ref (ad2 0))]) hx hb dX6_readTerms_62 hl (k := 2) rfl (by rw [ew31]; rfl) (by decide) rfl (fun ls hl => ?_)
            refine lv_goto (tgt := 27) hx hb dX6_readTerms_65 (by decide) ?_
            exact ih27 _ _ _ _ _ _ _ _ _ _ _ _ _ _ _ _ _ _ _ _ hP hD hS hf (lv_sub hl [1, 2, 0] rfl) hk0 hk1
          · replace hf := ifp k30 hf
            cases hf
            exact hk0 rfl _ _ _ hP hD hS (lv_sub hl [0] rfl)
  subst hQ
  unfold fX6_readTerms at hf
  refine lv_aload_n hx hb dX6_readTerms_0 rfl (lv_at hl 0 rfl) ?_
  refine va_get (D := (dC, dI)) (ci := 6) (v := .ref (ad 2)) (C := RX6) (T := TX6) (N := 8) hx hb hts (fun w h => gw_mem (inX6 w h)) hown hK.1 hP 0 rfl rfl 2 (by decide) (hts _ (gw_mem wfX6_22)) (fun _ h9 => h9) rfl dX6_readTerms_1 ?_
  refine lv_aload_n hx hb dX6_readTerms_4 rfl (lv_at hl 2 rfl) ?_
  obtain ⟨c_draft_terms_1, v2, hf⟩ := bd1_some hf
  have z3 : [2, 3, 4, 5].map (fun i => (((wX6 dA ad c_size c_length c_place c_fault c_faultPlace c_begin c_bytes c_draft_terms) ++ (wX0 dA ad2 d2_terms)))[i]?) = (((wX0 dA (fun i => ad (i + 2)) c_draft_terms) ++ (wX0 dA ad2 d2_terms))).map some := rfl
  refine gpv [2, 3, 4, 5] [0, 1] [0, 1, 2, 3, 4, 5] (wf := ((wX6 dA ad c_size c_length c_place c_fault c_faultPlace c_begin c_bytes c_draft_terms_1) ++ (wX0 dA ad2 d2_terms))) (va_runV (As := [.ref (ad2 0)]) (rest := []) ⟨hx, hb, hml, hown, hts⟩ (tX0_takeFrom l dC dI dA (fun i => ad (i + 2)) ad2 s.heap.size v2) (ccX6_X0_takeFrom hts ⟨Nat.le_of_ble_eq_true rfl, Nat.le_of_ble_eq_true rfl⟩) (gPreV (ci := 1) (q0 := 0) (gsub z3 hP) hK (gsubD z3 (by decide) hD) rfl rfl) rfl rfl hl.1 rfl (lv_room (Nat.le_of_ble_eq_true rfl)) dX6_readTerms_5 ⟨Nat.le_of_ble_eq_true rfl, Nat.le_of_ble_eq_true rfl⟩) hP hD hS hA z3 rfl (by decide) (by decide) (by decide) rfl (fun H locs hP hD hS => ?_)
  refine lv_aload_n hx hb dX6_readTerms_8 rfl (lv_at hl 0 rfl) ?_
  refine lv_iload_n hx hb dX6_readTerms_9 rfl (lv_at hl 1 rfl) ?_
  refine lv_aload_n hx hb dX6_readTerms_10 rfl (lv_at hl 0 rfl) ?_
  refine va_get (D := (dC, dI)) (ci := 6) (v := .int c_size) (C := RX6) (T := TX6) (N := 8) hx hb hts (fun w h => gw_mem (inX6 w h)) hown hK.1 hP 0 rfl rfl 1 (by decide) (hts _ (gw_mem wfX6_15)) (fun _ h9 => h9) rfl dX6_readTerms_11 ?_
  refine va_mmin hx hb (hml.trans hl.1.symm) hown (hts _ (gw_mem wmX6_49)) (hts _ (gw_mem wtJ9_min_7cf53)) (hts _ (gw_mem wnJ9)) (hts _ (gw_mem wcJ9_min_7cf53)) (Nat.le_of_ble_eq_true rfl) (Nat.le_of_ble_eq_true rfl) (Nat.le_of_ble_eq_true rfl) (Nat.le_of_ble_eq_true rfl) dX6_readTerms_14 ?_
  refine lv_topi (fun w4 ew4 => ?_)
  replace hf := nm_at hf ew4
  refine va_put (D := (dC, dI)) (ci := 6) (v := .int w4) (ty := .int) (C := RX6) (T := TX6) (N := 8) hx hb hts (fun w h => gw_mem (inX6 w h)) tyX6 tyX6_ok nmX6 hown hK.1 hP hD hS 0 rfl rfl 3 (by decide) (hts _ (gw_mem wfX6_26)) (fun _ h9 => h9) rfl (by decide +kernel) rfl rfl (Nat.le_of_ble_eq_true rfl) dX6_readTerms_17 (fun H locs hP hD hS => ?_)
  have hP : va_P (dC, dI) vwCl ((wX6 dA ad c_size w4 c_place c_fault c_faultPlace c_begin c_bytes c_draft_terms_1) ++ (wX0 dA ad2 d2_terms)) H := hP
  have hD : va_D A ((wX6 dA ad c_size w4 c_place c_fault c_faultPlace c_begin c_bytes c_draft_terms_1) ++ (wX0 dA ad2 d2_terms)) := hD
  refine lv_aload_n hx hb dX6_readTerms_20 rfl (lv_at hl 0 rfl) ?_
  refine lv_iconst (v := 0) hx hb dX6_readTerms_21 (by decide) ?_
  refine va_put (D := (dC, dI)) (ci := 6) (v := .int 0) (ty := .int) (C := RX6) (T := TX6) (N := 8) hx hb hts (fun w h => gw_mem (inX6 w h)) tyX6 tyX6_ok nmX6 hown hK.1 hP hD hS 0 rfl rfl 4 (by decide) (hts _ (gw_mem wfX6_29)) (fun _ h9 => h9) rfl (by decide +kernel) rfl rfl (Nat.le_of_ble_eq_true rfl) dX6_readTerms_22 (fun H locs hP hD hS => ?_)
  have hP : va_P (dC, dI) vwCl ((wX6 dA ad c_size w4 0 c_fault c_faultPlace c_begin c_bytes c_draft_terms_1) ++ (wX0 dA ad2 d2_terms)) H := hP
  have hD : va_D A ((wX6 dA ad c_size w4 0 c_fault c_faultPlace c_begin c_bytes c_draft_terms_1) ++ (wX0 dA ad2 d2_terms)) := hD
  refine lv_iconst (v := 0) hx hb dX6_readTerms_25 (by decide) ?_
  refine lv_istore_n (lv' := [(3, .int 0), (0, .ref (ad 0)), (1, .int p1), (2, .ref (ad2 0))]) hx hb dX6_readTerms_26 rfl hl (by decide) rfl (fun ls hl => ?_)
  obtain ⟨tg5, x6, c_place_7, c_fault_8, c_faultPlace_9, c_begin_10, c_draft_terms_11, v12, hf⟩ := bd7_some hf
  refine LP27 FU _ _ _ _ _ _ _ _ _ _ _ _ _ _ _ _ _ _ _ _ hP hD hS v12 (lv_sub hl [1, 3, 0] rfl) (fun etg5 H locs ls hP hD hS hl => ?_) (fun etg5 H locs ls hP hD hS hl => ?_)
  · replace hf := ifp etg5 hf
    refine lv_sipush (v := (-1000)) hx hb dX6_readTerms_48 (by decide) ?_
    refine lv_aload_n hx hb dX6_readTerms_51 rfl (lv_at hl 0 rfl) ?_
    refine va_get (D := (dC, dI)) (ci := 6) (v := .int c_fault_8) (C := RX6) (T := TX6) (N := 8) hx hb hts (fun w h => gw_mem (inX6 w h)) hown hK.1 hP 0 rfl rfl 5 (by decide) (hts _ (gw_mem wfX6_32)) (fun _ h9 => h9) rfl dX6_readTerms_52 ?_
    refine lv_imul hx hb dX6_readTerms_55 ?_
    refine lv_aload_n hx hb dX6_readTerms_56 rfl (lv_at hl 0 rfl) ?_
    refine va_get (D := (dC, dI)) (ci := 6) (v := .int c_faultPlace_9) (C := RX6) (T := TX6) (N := 8) hx hb hts (fun w h => gw_mem (inX6 w h)) hown hK.1 hP 0 rfl rfl 6 (by decide) (hts _ (gw_mem wfX6_35)) (fun _ h9 => h9) rfl dX6_readTerms_57 ?_
    refine lv_isub hx hb dX6_readTerms_60 ?_
    cases hf
    exact W.iret hx hb hr (fun t ht _ => gqi hP hD hS ht) hS.2.2 dX6_readTerms_61
  · replace hf := ifn (c := tg5 = 0) (by rw [etg5]; decide) hf
    refine lv_aload_n hx hb dX6_readTerms_68 rfl (lv_at hl 1 rfl) ?_
    refine lv_aload_n hx hb dX6_readTerms_69 rfl (lv_at hl 0 rfl) ?_
    refine va_get (D := (dC, dI)) (ci := 6) (v := .ref (ad 2)) (C := RX6) (T := TX6) (N := 8) hx hb hts (fun w h => gw_mem (inX6 w h)) hown hK.1 hP 0 rfl rfl 2 (by decide) (hts _ (gw_mem wfX6_22)) (fun _ h9 => h9) rfl dX6_readTerms_70 ?_
    obtain ⟨d2_terms_13, v14, hf⟩ := bd1_some hf
    have z15 : [4, 5, 2, 3].map (fun i => (((wX6 dA ad c_size w4 c_place_7 c_fault_8 c_faultPlace_9 c_begin_10 c_bytes c_draft_terms_11) ++ (wX0 dA ad2 d2_terms)))[i]?) = (((wX0 dA ad2 d2_terms) ++ (wX0 dA (fun i => ad (i + 2)) c_draft_terms_11))).map some := rfl
    refine gpv [4, 5, 2, 3] [0, 1] [0, 1, 4, 5, 2, 3] (wf := ((wX6 dA ad c_size w4 c_place_7 c_fault_8 c_faultPlace_9 c_begin_10 c_bytes c_draft_terms_11) ++ (wX0 dA ad2 d2_terms_13))) (va_runV (As := [.ref (ad 2)]) (rest := []) ⟨hx, hb, hml, hown, hts⟩ (tX0_takeFrom l dC dI dA ad2 (fun i => ad (i + 2)) H.size v14) (ccX6_X0_takeFrom hts ⟨Nat.le_of_ble_eq_true rfl, Nat.le_of_ble_eq_true rfl⟩) (gPreV (ci := 1) (q0 := 0) (gsub z15 hP) hK (gsubD z15 (by decide) hD) rfl rfl) rfl rfl hl.1 rfl (lv_room (Nat.le_of_ble_eq_true rfl)) dX6_readTerms_73 ⟨Nat.le_of_ble_eq_true rfl, Nat.le_of_ble_eq_true rfl⟩) hP hD hS hA z15 rfl (by decide) (by decide) (by decide) rfl (fun H locs hP hD hS => ?_)
    refine lv_iload_n hx hb dX6_readTerms_76 rfl (lv_at hl 2 rfl) ?_
    cases hf
    exact W.iret hx hb hr (fun t ht _ => gqi hP hD hS ht) hS.2.2 dX6_readTerms_77
theorem ccX8_X6_size {R : Room} {s : State} {args : Array Value} {c0 : Cond} (ht : ∀ w ∈ wq c0, w.before args s = true) (hR : rmX6_size.frames + 1 ≤ R.frames ∧ 8 + (1 + 11) + rmX6_size.locals ≤ R.locals) : CallW R s args RX8 RX6 57 yX6_size cX6_size 1 (some .int) (wq (.code yX6_size cX6_size 1 (some .int))) rmX6_size 0 0 0 := gCW 0 ht wcX6_size wmX8_57 wiX6_size weX6_size wnX6 (by decide +kernel) rfl rfl hR
theorem ccX8_X6_append {R : Room} {s : State} {args : Array Value} {c0 : Cond} (ht : ∀ w ∈ wq c0, w.before args s = true) (hR : rmX6_append.frames + 1 ≤ R.frames ∧ 8 + (3 + 11) + rmX6_append.locals ≤ R.locals) : CallW R s args RX8 RX6 61 yX6_append cX6_append 3 none (wq (.code yX6_append cX6_append 3 none)) rmX6_append 0 0 1 := gCW 1 ht wcX6_append wmX8_61 wiX6_append weX6_append wnX6 (by decide +kernel) rfl rfl hR
def fX8_feed (p1 : Int32) (p2 : Int32) (p3 : Int32) (p4 : Int32) (p5 : Int32) (c_tape_size : Int32) (c_tape_bytes : Nat → Int32) : Option (Int32 × Int32 × (Nat → Int32)) := bd1 (fX6_size c_tape_size) (fun r1 => if (r1 + 20) ≤ 200 then bd2 (fX6_append p1 c_tape_size c_tape_bytes) (fun c_tape_size_5 c_tape_bytes_6 => bd2 (fX6_append p2 c_tape_size_5 c_tape_bytes_6) (fun c_tape_size_9 c_tape_bytes_10 => bd2 (fX6_append p3 c_tape_size_9 c_tape_bytes_10) (fun c_tape_size_13 c_tape_bytes_14 => bd2 (fX6_append p4 c_tape_size_13 c_tape_bytes_14) (fun c_tape_size_17 c_tape_bytes_18 => bd2 (fX6_append p5 c_tape_size_17 c_tape_bytes_18) (fun c_tape_size_21 c_tape_bytes_22 => bd1 (fX6_size c_tape_size_21) (fun r25 => some (r25, c_tape_size_21, c_tape_bytes_22))))))) else some ((-1), c_tape_size, c_tape_bytes))
abbrev rmX8_feed : Room := { frames := 1, cells := 0, slots := 0, locals := 22 }
set_option maxHeartbeats 4000000 in
set_option maxRecDepth 100000 in
theorem tX8_feed (l : Launch) (dC : Nat → ClassId) (dI : Nat → Nat → Nat) (dA : Nat → ClassId) (ad : Nat → Nat) (sz : Nat) {p1 : Int32} {p2 : Int32} {p3 : Int32} {p4 : Int32} {p5 : Int32} {c_keptCount : Int32} {c_tape_size : Int32} {c_tape_length : Int32} {c_tape_place : Int32} {c_tape_fault : Int32} {c_tape_faultPlace : Int32} {c_tape_begin : Int32} {c_tape_bytes : Nat → Int32} {c_tape_draft_terms : Nat → Int32} {c_now_row : Int32} {c_now_tree_parts : Nat → Int32} {c_now_bonds0_terms : Nat → Int32} {c_now_bonds1_terms : Nat → Int32} {c_now_bonds2_terms : Nat → Int32} {c_now_hand_opened : Int32} {c_now_hand_over : Int32} {c_now_hand_row : Int32} {c_now_hand_paid : Int64} {c_now_hand_regret : Int64} {c_now_hand_tree_parts : Nat → Int32} {c_now_hand_bond_terms : Nat → Int32} {c_kept : Nat → Option Nat} {c_sheet_tree_parts : Nat → Int32} {c_sheet_bond_terms : Nat → Int32} {c_sheet_penceByUps : Nat → Int64} {c_sheet_pence : Nat → Int64} {c_sheet_turned : Nat → Int64} {c_sheet_called : Nat → Int64} {c_sheet_hold : Nat → Int64} {c_sheet_value : Nat → Int64} {c_sheet_marks : Nat → Int32} {c_sheet_act : Nat → Int32} {c_sheet_rowOfKey : Nat → Int32} {c_otherSheet_tree_parts : Nat → Int32} {c_otherSheet_bond_terms : Nat → Int32} {c_otherSheet_penceByUps : Nat → Int64} {c_otherSheet_pence : Nat → Int64} {c_otherSheet_turned : Nat → Int64} {c_otherSheet_called : Nat → Int64} {c_otherSheet_hold : Nat → Int64} {c_otherSheet_value : Nat → Int64} {c_otherSheet_marks : Nat → Int32} {c_otherSheet_act : Nat → Int32} {c_otherSheet_rowOfKey : Nat → Int32} {c_draws_x : Int32} {c_text_coder : Int32} {c_text_maybeLatin1 : Int32} {c_text_count : Int32} {c_text_value : Nat → Int32} {r : Int32} {o_c_tape_size : Int32} {o_c_tape_bytes : Nat → Int32} (hf : fX8_feed p1 p2 p3 p4 p5 c_tape_size c_tape_bytes = some (r, o_c_tape_size, o_c_tape_bytes)) : Met l yX8_feed (wq (Cond.code yX8_feed cX8_feed 6 (some .int))) rmX8_feed (gP [.ref (ad 0), .int p1, .int p2, .int p3, .int p4, .int p5] (dC, dI) dA (wX8 dA ad c_keptCount c_tape_size c_tape_length c_tape_place c_tape_fault c_tape_faultPlace c_tape_begin c_tape_bytes c_tape_draft_terms c_now_row c_now_tree_parts c_now_bonds0_terms c_now_bonds1_terms c_now_bonds2_terms c_now_hand_opened c_now_hand_over c_now_hand_row c_now_hand_paid c_now_hand_regret c_now_hand_tree_parts c_now_hand_bond_terms c_kept c_sheet_tree_parts c_sheet_bond_terms c_sheet_penceByUps c_sheet_pence c_sheet_turned c_sheet_called c_sheet_hold c_sheet_value c_sheet_marks c_sheet_act c_sheet_rowOfKey c_otherSheet_tree_parts c_otherSheet_bond_terms c_otherSheet_penceByUps c_otherSheet_pence c_otherSheet_turned c_otherSheet_called c_otherSheet_hold c_otherSheet_value c_otherSheet_marks c_otherSheet_act c_otherSheet_rowOfKey c_draws_x c_text_coder c_text_maybeLatin1 c_text_count c_text_value) sz) (gQi (dC, dI) r (wX8 dA ad c_keptCount o_c_tape_size c_tape_length c_tape_place c_tape_fault c_tape_faultPlace c_tape_begin o_c_tape_bytes c_tape_draft_terms c_now_row c_now_tree_parts c_now_bonds0_terms c_now_bonds1_terms c_now_bonds2_terms c_now_hand_opened c_now_hand_over c_now_hand_row c_now_hand_paid c_now_hand_regret c_now_hand_tree_parts c_now_hand_bond_terms c_kept c_sheet_tree_parts c_sheet_bond_terms c_sheet_penceByUps c_sheet_pence c_sheet_turned c_sheet_called c_sheet_hold c_sheet_value c_sheet_marks c_sheet_act c_sheet_rowOfKey c_otherSheet_tree_parts c_otherSheet_bond_terms c_otherSheet_penceByUps c_otherSheet_pence c_otherSheet_turned c_otherSheet_called c_otherSheet_hold c_otherSheet_value c_otherSheet_marks c_otherSheet_act c_otherSheet_rowOfKey c_draws_x c_text_coder c_text_maybeLatin1 c_text_count c_text_value) (va_A (wX8 dA ad c_keptCount c_tape_size c_tape_length c_tape_place c_tape_fault c_tape_faultPlace c_tape_begin c_tape_bytes c_tape_draft_terms c_now_row c_now_tree_parts c_now_bonds0_terms c_now_bonds1_terms c_now_bonds2_terms c_now_hand_opened c_now_hand_over c_now_hand_row c_now_hand_paid c_now_hand_regret c_now_hand_tree_parts c_now_hand_bond_terms c_kept c_sheet_tree_parts c_sheet_bond_terms c_sheet_penceByUps c_sheet_pence c_sheet_turned c_sheet_called c_sheet_hold c_sheet_value c_sheet_marks c_sheet_act c_sheet_rowOfKey c_otherSheet_tree_parts c_otherSheet_bond_terms c_otherSheet_penceByUps c_otherSheet_pence c_otherSheet_turned c_otherSheet_called c_otherSheet_hold c_otherSheet_value c_otherSheet_marks c_otherSheet_act c_otherSheet_rowOfKey c_draws_x c_text_coder c_text_maybeLatin1 c_text_count c_text_value) sz)) 0 0 (va_A (wX8 dA ad c_keptCount c_tape_size c_tape_length c_tape_place c_tape_fault c_tape_faultPlace c_tape_begin c_tape_bytes c_tape_draft_terms c_now_row c_now_tree_parts c_now_bonds0_terms c_now_bonds1_terms c_now_bonds2_terms c_now_hand_opened c_now_hand_over c_now_hand_row c_now_hand_paid c_now_hand_regret c_now_hand_tree_parts c_now_hand_bond_terms c_kept c_sheet_tree_parts c_sheet_bond_terms c_sheet_penceByUps c_sheet_pence c_sheet_turned c_sheet_called c_sheet_hold c_sheet_value c_sheet_marks c_sheet_act c_sheet_rowOfKey c_otherSheet_tree_parts c_otherSheet_bond_terms c_otherSheet_penceByUps c_otherSheet_pence c_otherSheet_turned c_otherSheet_called c_otherSheet_hold c_otherSheet_value c_otherSheet_marks c_otherSheet_act c_otherSheet_rowOfKey c_draws_x c_text_coder c_text_maybeLatin1 c_text_count c_text_value) sz) := by
  refine Met.ofW (cc := cX8_feed) (maxL := 6) (ret := (some .int)) (by decide) rfl ?_
  intro p e s m args below meth c s₁ B hml hv
  obtain ⟨rfl, hsz, hP, hK, hD0⟩ := hv
  have hx := B.exec
  have hb := B.bytes
  have hr := B.returns
  have hts := atoms_spec (ws := wq (Cond.code yX8_feed cX8_feed 6 (some .int))) B.pre
  have hown : s.vm.findClass RX8 = some m.cls := findClass_of_methodNamed B.named
  have hlocks := B.notSynchronized
  clear B
  subst hsz
  have hD := hD0.self (sz := s.heap.size)
  generalize hAe : va_A (wX8 dA ad c_keptCount c_tape_size c_tape_length c_tape_place c_tape_fault c_tape_faultPlace c_tape_begin c_tape_bytes c_tape_draft_terms c_now_row c_now_tree_parts c_now_bonds0_terms c_now_bonds1_terms c_now_bonds2_terms c_now_hand_opened c_now_hand_over c_now_hand_row c_now_hand_paid c_now_hand_regret c_now_hand_tree_parts c_now_hand_bond_terms c_kept c_sheet_tree_parts c_sheet_bond_terms c_sheet_penceByUps c_sheet_pence c_sheet_turned c_sheet_called c_sheet_hold c_sheet_value c_sheet_marks c_sheet_act c_sheet_rowOfKey c_otherSheet_tree_parts c_otherSheet_bond_terms c_otherSheet_penceByUps c_otherSheet_pence c_otherSheet_turned c_otherSheet_called c_otherSheet_hold c_otherSheet_value c_otherSheet_marks c_otherSheet_act c_otherSheet_rowOfKey c_draws_x c_text_coder c_text_maybeLatin1 c_text_count c_text_value) s.heap.size = A at hD ⊢
  have hA : ∀ q : Nat, s.heap.size ≤ q → A q := fun q h => by rw [← hAe]; exact Or.inr h
  clear hAe hD0
  have hS : va_S A s.heap s.heap [] := va_S.rf
  have hl := lv_entry ([.ref (ad 0), .int p1, .int p2, .int p3, .int p4, .int p5]) (n := 6) (Nat.le_of_ble_eq_true rfl)
  rw [lg_entry_eq]
  generalize (lg_sl ([.ref (ad 0), .int p1, .int p2, .int p3, .int p4, .int p5]) ++ List.replicate (6 - (lg_sl ([.ref (ad 0), .int p1, .int p2, .int p3, .int p4, .int p5])).length) Slot.unset).toArray = ls at hl ⊢
  have hl : lv_has ls 6 [(0, .ref (ad 0)), (1, .int p1), (2, .int p2), (3, .int p3), (4, .int p4), (5, .int p5)] := hl
  change W p l e rmX8_feed s m ([.ref (ad 0), .int p1, .int p2, .int p3, .int p4, .int p5] : List Value).toArray below meth c s.heap [] 0 0 _ _
  unfold fX8_feed at hf
  refine lv_aload_n hx hb dX8_feed_0 rfl (lv_at hl 0 rfl) ?_
  refine va_get (D := (dC, dI)) (ci := 8) (v := .ref (ad 1)) (C := RX8) (T := TX8) (N := 8) hx hb hts (fun w h => gw_mem (inX8 w h)) hown hK.1 hP 0 rfl rfl 0 (by decide) (hts _ (gw_mem wfX8_12)) (fun _ h9 => h9) rfl dX8_feed_1 ?_
  obtain ⟨r1, v2, hf⟩ := bd1_some hf
  have z3 : [1, 2, 3, 4].map (fun i => ((wX8 dA ad c_keptCount c_tape_size c_tape_length c_tape_place c_tape_fault c_tape_faultPlace c_tape_begin c_tape_bytes c_tape_draft_terms c_now_row c_now_tree_parts c_now_bonds0_terms c_now_bonds1_terms c_now_bonds2_terms c_now_hand_opened c_now_hand_over c_now_hand_row c_now_hand_paid c_now_hand_regret c_now_hand_tree_parts c_now_hand_bond_terms c_kept c_sheet_tree_parts c_sheet_bond_terms c_sheet_penceByUps c_sheet_pence c_sheet_turned c_sheet_called c_sheet_hold c_sheet_value c_sheet_marks c_sheet_act c_sheet_rowOfKey c_otherSheet_tree_parts c_otherSheet_bond_terms c_otherSheet_penceByUps c_otherSheet_pence c_otherSheet_turned c_otherSheet_called c_otherSheet_hold c_otherSheet_value c_otherSheet_marks c_otherSheet_act c_otherSheet_rowOfKey c_draws_x c_text_coder c_text_maybeLatin1 c_text_count c_text_value))[i]?) = ((wX6 dA (fun i => ad (i + 1)) c_tape_size c_tape_length c_tape_place c_tape_fault c_tape_faultPlace c_tape_begin c_tape_bytes c_tape_draft_terms)).map some := rfl
  refine gpi [1, 2, 3, 4] [0, 5, 6, 7, 8, 9, 10, 11, 12, 13, 14, 15, 16, 17, 18, 19, 20, 21, 22, 23, 24, 25, 26, 27, 28, 29, 30, 31, 32, 33, 34, 35, 36, 37, 38, 39, 40, 41, 42, 43, 44, 45, 46, 47, 48, 49, 50, 51] [0, 48, 49, 50, 51, 1, 2, 3, 4, 5, 6, 7, 8, 9, 10, 11, 12, 13, 14, 15, 16, 17, 18, 19, 20, 21, 22, 23, 24, 25, 26, 27, 28, 29, 30, 31, 32, 33, 34, 35, 36, 37, 38, 39, 40, 41, 42, 43, 44, 45, 46, 47] (wf := (wX8 dA ad c_keptCount c_tape_size c_tape_length c_tape_place c_tape_fault c_tape_faultPlace c_tape_begin c_tape_bytes c_tape_draft_terms c_now_row c_now_tree_parts c_now_bonds0_terms c_now_bonds1_terms c_now_bonds2_terms c_now_hand_opened c_now_hand_over c_now_hand_row c_now_hand_paid c_now_hand_regret c_now_hand_tree_parts c_now_hand_bond_terms c_kept c_sheet_tree_parts c_sheet_bond_terms c_sheet_penceByUps c_sheet_pence c_sheet_turned c_sheet_called c_sheet_hold c_sheet_value c_sheet_marks c_sheet_act c_sheet_rowOfKey c_otherSheet_tree_parts c_otherSheet_bond_terms c_otherSheet_penceByUps c_otherSheet_pence c_otherSheet_turned c_otherSheet_called c_otherSheet_hold c_otherSheet_value c_otherSheet_marks c_otherSheet_act c_otherSheet_rowOfKey c_draws_x c_text_coder c_text_maybeLatin1 c_text_count c_text_value)) (va_runV (As := []) (rest := []) ⟨hx, hb, hml, hown, hts⟩ (tX6_size l dC dI dA (fun i => ad (i + 1)) s.heap.size v2) (ccX8_X6_size hts ⟨Nat.le_of_ble_eq_true rfl, Nat.le_of_ble_eq_true rfl⟩) (gPreV (ci := 6) (q0 := 0) (gsub z3 hP) hK (gsubD z3 (by decide) hD) rfl rfl) rfl rfl hl.1 rfl (lv_room (Nat.le_of_ble_eq_true rfl)) dX8_feed_4 ⟨Nat.le_of_ble_eq_true rfl, Nat.le_of_ble_eq_true rfl⟩) hP hD hS hA z3 rfl (by decide) (by decide) (by decide) rfl (fun H locs hP hD hS => ?_)
  refine lv_bipush (v := 20) hx hb dX8_feed_7 (by decide) ?_
  refine lv_iadd hx hb dX8_feed_9 ?_
  refine lv_sipush (v := 200) hx hb dX8_feed_10 (by decide) ?_
  refine lv_icmp_le (tgt := 18) hx hb dX8_feed_13 (by decide) (fun k4 => ?_) (fun k4 => ?_)
  · replace hf := ifp k4 hf
    refine lv_aload_n hx hb dX8_feed_18 rfl (lv_at hl 0 rfl) ?_
    refine va_get (D := (dC, dI)) (ci := 8) (v := .ref (ad 1)) (C := RX8) (T := TX8) (N := 8) hx hb hts (fun w h => gw_mem (inX8 w h)) hown hK.1 hP 0 rfl rfl 0 (by decide) (hts _ (gw_mem wfX8_12)) (fun _ h9 => h9) rfl dX8_feed_19 ?_
    refine lv_iload_n hx hb dX8_feed_22 rfl (lv_at hl 1 rfl) ?_
    obtain ⟨c_tape_size_5, c_tape_bytes_6, v7, hf⟩ := bd2_some hf
    have z8 : [1, 2, 3, 4].map (fun i => ((wX8 dA ad c_keptCount c_tape_size c_tape_length c_tape_place c_tape_fault c_tape_faultPlace c_tape_begin c_tape_bytes c_tape_draft_terms c_now_row c_now_tree_parts c_now_bonds0_terms c_now_bonds1_terms c_now_bonds2_terms c_now_hand_opened c_now_hand_over c_now_hand_row c_now_hand_paid c_now_hand_regret c_now_hand_tree_parts c_now_hand_bond_terms c_kept c_sheet_tree_parts c_sheet_bond_terms c_sheet_penceByUps c_sheet_pence c_sheet_turned c_sheet_called c_sheet_hold c_sheet_value c_sheet_marks c_sheet_act c_sheet_rowOfKey c_otherSheet_tree_parts c_otherSheet_bond_terms c_otherSheet_penceByUps c_otherSheet_pence c_otherSheet_turned c_otherSheet_called c_otherSheet_hold c_otherSheet_value c_otherSheet_marks c_otherSheet_act c_otherSheet_rowOfKey c_draws_x c_text_coder c_text_maybeLatin1 c_text_count c_text_value))[i]?) = ((wX6 dA (fun i => ad (i + 1)) c_tape_size c_tape_length c_tape_place c_tape_fault c_tape_faultPlace c_tape_begin c_tape_bytes c_tape_draft_terms)).map some := rfl
    refine gpv [1, 2, 3, 4] [0, 5, 6, 7, 8, 9, 10, 11, 12, 13, 14, 15, 16, 17, 18, 19, 20, 21, 22, 23, 24, 25, 26, 27, 28, 29, 30, 31, 32, 33, 34, 35, 36, 37, 38, 39, 40, 41, 42, 43, 44, 45, 46, 47, 48, 49, 50, 51] [0, 48, 49, 50, 51, 1, 2, 3, 4, 5, 6, 7, 8, 9, 10, 11, 12, 13, 14, 15, 16, 17, 18, 19, 20, 21, 22, 23, 24, 25, 26, 27, 28, 29, 30, 31, 32, 33, 34, 35, 36, 37, 38, 39, 40, 41, 42, 43, 44, 45, 46, 47] (wf := (wX8 dA ad c_keptCount c_tape_size_5 c_tape_length c_tape_place c_tape_fault c_tape_faultPlace c_tape_begin c_tape_bytes_6 c_tape_draft_terms c_now_row c_now_tree_parts c_now_bonds0_terms c_now_bonds1_terms c_now_bonds2_terms c_now_hand_opened c_now_hand_over c_now_hand_row c_now_hand_paid c_now_hand_regret c_now_hand_tree_parts c_now_hand_bond_terms c_kept c_sheet_tree_parts c_sheet_bond_terms c_sheet_penceByUps c_sheet_pence c_sheet_turned c_sheet_called c_sheet_hold c_sheet_value c_sheet_marks c_sheet_act c_sheet_rowOfKey c_otherSheet_tree_parts c_otherSheet_bond_terms c_otherSheet_penceByUps c_otherSheet_pence c_otherSheet_turned c_otherSheet_called c_otherSheet_hold c_otherSheet_value c_otherSheet_marks c_otherSheet_act c_otherSheet_rowOfKey c_draws_x c_text_coder c_text_maybeLatin1 c_text_count c_text_value)) (va_runV (As := [.int p1]) (rest := []) ⟨hx, hb, hml, hown, hts⟩ (tX6_append l dC dI dA (fun i => ad (i + 1)) H.size v7) (ccX8_X6_append hts ⟨Nat.le_of_ble_eq_true rfl, Nat.le_of_ble_eq_true rfl⟩) (gPreV (ci := 6) (q0 := 0) (gsub z8 hP) hK (gsubD z8 (by decide) hD) rfl rfl) rfl rfl hl.1 rfl (lv_room (Nat.le_of_ble_eq_true rfl)) dX8_feed_23 ⟨Nat.le_of_ble_eq_true rfl, Nat.le_of_ble_eq_true rfl⟩) hP hD hS hA z8 rfl (by decide) (by decide) (by decide) rfl (fun H locs hP hD hS => ?_)
    refine lv_aload_n hx hb dX8_feed_26 rfl (lv_at hl 0 rfl) ?_
    refine va_get (D := (dC, dI)) (ci := 8) (v := .ref (ad 1)) (C := RX8) (T := TX8) (N := 8) hx hb hts (fun w h => gw_mem (inX8 w h)) hown hK.1 hP 0 rfl rfl 0 (by decide) (hts _ (gw_mem wfX8_12)) (fun _ h9 => h9) rfl dX8_feed_27 ?_
    refine lv_iload_n hx hb dX8_feed_30 rfl (lv_at hl 2 rfl) ?_
    obtain ⟨c_tape_size_9, c_tape_bytes_10, v11, hf⟩ := bd2_some hf
    have z12 : [1, 2, 3, 4].map (fun i => ((wX8 dA ad c_keptCount c_tape_size_5 c_tape_length c_tape_place c_tape_fault c_tape_faultPlace c_tape_begin c_tape_bytes_6 c_tape_draft_terms c_now_row c_now_tree_parts c_now_bonds0_terms c_now_bonds1_terms c_now_bonds2_terms c_now_hand_opened c_now_hand_over c_now_hand_row c_now_hand_paid c_now_hand_regret c_now_hand_tree_parts c_now_hand_bond_terms c_kept c_sheet_tree_parts c_sheet_bond_terms c_sheet_penceByUps c_sheet_pence c_sheet_turned c_sheet_called c_sheet_hold c_sheet_value c_sheet_marks c_sheet_act c_sheet_rowOfKey c_otherSheet_tree_parts c_otherSheet_bond_terms c_otherSheet_penceByUps c_otherSheet_pence c_otherSheet_turned c_otherSheet_called c_otherSheet_hold c_otherSheet_value c_otherSheet_marks c_otherSheet_act c_otherSheet_rowOfKey c_draws_x c_text_coder c_text_maybeLatin1 c_text_count c_text_value))[i]?) = ((wX6 dA (fun i => ad (i + 1)) c_tape_size_5 c_tape_length c_tape_place c_tape_fault c_tape_faultPlace c_tape_begin c_tape_bytes_6 c_tape_draft_terms)).map some := rfl
    refine gpv [1, 2, 3, 4] [0, 5, 6, 7, 8, 9, 10, 11, 12, 13, 14, 15, 16, 17, 18, 19, 20, 21, 22, 23, 24, 25, 26, 27, 28, 29, 30, 31, 32, 33, 34, 35, 36, 37, 38, 39, 40, 41, 42, 43, 44, 45, 46, 47, 48, 49, 50, 51] [0, 48, 49, 50, 51, 1, 2, 3, 4, 5, 6, 7, 8, 9, 10, 11, 12, 13, 14, 15, 16, 17, 18, 19, 20, 21, 22, 23, 24, 25, 26, 27, 28, 29, 30, 31, 32, 33, 34, 35, 36, 37, 38, 39, 40, 41, 42, 43, 44, 45, 46, 47] (wf := (wX8 dA ad c_keptCount c_tape_size_9 c_tape_length c_tape_place c_tape_fault c_tape_faultPlace c_tape_begin c_tape_bytes_10 c_tape_draft_terms c_now_row c_now_tree_parts c_now_bonds0_terms c_now_bonds1_terms c_now_bonds2_terms c_now_hand_opened c_now_hand_over c_now_hand_row c_now_hand_paid c_now_hand_regret c_now_hand_tree_parts c_now_hand_bond_terms c_kept c_sheet_tree_parts c_sheet_bond_terms c_sheet_penceByUps c_sheet_pence c_sheet_turned c_sheet_called c_sheet_hold c_sheet_value c_sheet_marks c_sheet_act c_sheet_rowOfKey c_otherSheet_tree_parts c_otherSheet_bond_terms c_otherSheet_penceByUps c_otherSheet_pence c_otherSheet_turned c_otherSheet_called c_otherSheet_hold c_otherSheet_value c_otherSheet_marks c_otherSheet_act c_otherSheet_rowOfKey c_draws_x c_text_coder c_text_maybeLatin1 c_text_count c_text_value)) (va_runV (As := [.int p2]) (rest := []) ⟨hx, hb, hml, hown, hts⟩ (tX6_append l dC dI dA (fun i => ad (i + 1)) H.size v11) (ccX8_X6_append hts ⟨Nat.le_of_ble_eq_true rfl, Nat.le_of_ble_eq_true rfl⟩) (gPreV (ci := 6) (q0 := 0) (gsub z12 hP) hK (gsubD z12 (by decide) hD) rfl rfl) rfl rfl hl.1 rfl (lv_room (Nat.le_of_ble_eq_true rfl)) dX8_feed_31 ⟨Nat.le_of_ble_eq_true rfl, Nat.le_of_ble_eq_true rfl⟩) hP hD hS hA z12 rfl (by decide) (by decide) (by decide) rfl (fun H locs hP hD hS => ?_)
    refine lv_aload_n hx hb dX8_feed_34 rfl (lv_at hl 0 rfl) ?_
    refine va_get (D := (dC, dI)) (ci := 8) (v := .ref (ad 1)) (C := RX8) (T := TX8) (N := 8) hx hb hts (fun w h => gw_mem (inX8 w h)) hown hK.1 hP 0 rfl rfl 0 (by decide) (hts _ (gw_mem wfX8_12)) (fun _ h9 => h9) rfl dX8_feed_35 ?_
    refine lv_iload_n hx hb dX8_feed_38 rfl (lv_at hl 3 rfl) ?_
    obtain ⟨c_tape_size_13, c_tape_bytes_14, v15, hf⟩ := bd2_some hf
    have z16 : [1, 2, 3, 4].map (fun i => ((wX8 dA ad c_keptCount c_tape_size_9 c_tape_length c_tape_place c_tape_fault c_tape_faultPlace c_tape_begin c_tape_bytes_10 c_tape_draft_terms c_now_row c_now_tree_parts c_now_bonds0_terms c_now_bonds1_terms c_now_bonds2_terms c_now_hand_opened c_now_hand_over c_now_hand_row c_now_hand_paid c_now_hand_regret c_now_hand_tree_parts c_now_hand_bond_terms c_kept c_sheet_tree_parts c_sheet_bond_terms c_sheet_penceByUps c_sheet_pence c_sheet_turned c_sheet_called c_sheet_hold c_sheet_value c_sheet_marks c_sheet_act c_sheet_rowOfKey c_otherSheet_tree_parts c_otherSheet_bond_terms c_otherSheet_penceByUps c_otherSheet_pence c_otherSheet_turned c_otherSheet_called c_otherSheet_hold c_otherSheet_value c_otherSheet_marks c_otherSheet_act c_otherSheet_rowOfKey c_draws_x c_text_coder c_text_maybeLatin1 c_text_count c_text_value))[i]?) = ((wX6 dA (fun i => ad (i + 1)) c_tape_size_9 c_tape_length c_tape_place c_tape_fault c_tape_faultPlace c_tape_begin c_tape_bytes_10 c_tape_draft_terms)).map some := rfl
    refine gpv [1, 2, 3, 4] [0, 5, 6, 7, 8, 9, 10, 11, 12, 13, 14, 15, 16, 17, 18, 19, 20, 21, 22, 23, 24, 25, 26, 27, 28, 29, 30, 31, 32, 33, 34, 35, 36, 37, 38, 39, 40, 41, 42, 43, 44, 45, 46, 47, 48, 49, 50, 51] [0, 48, 49, 50, 51, 1, 2, 3, 4, 5, 6, 7, 8, 9, 10, 11, 12, 13, 14, 15, 16, 17, 18, 19, 20, 21, 22, 23, 24, 25, 26, 27, 28, 29, 30, 31, 32, 33, 34, 35, 36, 37, 38, 39, 40, 41, 42, 43, 44, 45, 46, 47] (wf := (wX8 dA ad c_keptCount c_tape_size_13 c_tape_length c_tape_place c_tape_fault c_tape_faultPlace c_tape_begin c_tape_bytes_14 c_tape_draft_terms c_now_row c_now_tree_parts c_now_bonds0_terms c_now_bonds1_terms c_now_bonds2_terms c_now_hand_opened c_now_hand_over c_now_hand_row c_now_hand_paid c_now_hand_regret c_now_hand_tree_parts c_now_hand_bond_terms c_kept c_sheet_tree_parts c_sheet_bond_terms c_sheet_penceByUps c_sheet_pence c_sheet_turned c_sheet_called c_sheet_hold c_sheet_value c_sheet_marks c_sheet_act c_sheet_rowOfKey c_otherSheet_tree_parts c_otherSheet_bond_terms c_otherSheet_penceByUps c_otherSheet_pence c_otherSheet_turned c_otherSheet_called c_otherSheet_hold c_otherSheet_value c_otherSheet_marks c_otherSheet_act c_otherSheet_rowOfKey c_draws_x c_text_coder c_text_maybeLatin1 c_text_count c_text_value)) (va_runV (As := [.int p3]) (rest := []) ⟨hx, hb, hml, hown, hts⟩ (tX6_append l dC dI dA (fun i => ad (i + 1)) H.size v15) (ccX8_X6_append hts ⟨Nat.le_of_ble_eq_true rfl, Nat.le_of_ble_eq_true rfl⟩) (gPreV (ci := 6) (q0 := 0) (gsub z16 hP) hK (gsubD z16 (by decide) hD) rfl rfl) rfl rfl hl.1 rfl (lv_room (Nat.le_of_ble_eq_true rfl)) dX8_feed_39 ⟨Nat.le_of_ble_eq_true rfl, Nat.le_of_ble_eq_true rfl⟩) hP hD hS hA z16 rfl (by decide) (by decide) (by decide) rfl (fun H locs hP hD hS => ?_)
    refine lv_aload_n hx hb dX8_feed_42 rfl (lv_at hl 0 rfl) ?_
    refine va_get (D := (dC, dI)) (ci := 8) (v := .ref (ad 1)) (C := RX8) (T := TX8) (N := 8) hx hb hts (fun w h => gw_mem (inX8 w h)) hown hK.1 hP 0 rfl rfl 0 (by decide) (hts _ (gw_mem wfX8_12)) (fun _ h9 => h9) rfl dX8_feed_43 ?_
    refine lv_iload hx hb dX8_feed_46 (lv_at hl 4 rfl) ?_
    obtain ⟨c_tape_size_17, c_tape_bytes_18, v19, hf⟩ := bd2_some hf
    have z20 : [1, 2, 3, 4].map (fun i => ((wX8 dA ad c_keptCount c_tape_size_13 c_tape_length c_tape_place c_tape_fault c_tape_faultPlace c_tape_begin c_tape_bytes_14 c_tape_draft_terms c_now_row c_now_tree_parts c_now_bonds0_terms c_now_bonds1_terms c_now_bonds2_terms c_now_hand_opened c_now_hand_over c_now_hand_row c_now_hand_paid c_now_hand_regret c_now_hand_tree_parts c_now_hand_bond_terms c_kept c_sheet_tree_parts c_sheet_bond_terms c_sheet_penceByUps c_sheet_pence c_sheet_turned c_sheet_called c_sheet_hold c_sheet_value c_sheet_marks c_sheet_act c_sheet_rowOfKey c_otherSheet_tree_parts c_otherSheet_bond_terms c_otherSheet_penceByUps c_otherSheet_pence c_otherSheet_turned c_otherSheet_called c_otherSheet_hold c_otherSheet_value c_otherSheet_marks c_otherSheet_act c_otherSheet_rowOfKey c_draws_x c_text_coder c_text_maybeLatin1 c_text_count c_text_value))[i]?) = ((wX6 dA (fun i => ad (i + 1)) c_tape_size_13 c_tape_length c_tape_place c_tape_fault c_tape_faultPlace c_tape_begin c_tape_bytes_14 c_tape_draft_terms)).map some := rfl
    refine gpv [1, 2, 3, 4] [0, 5, 6, 7, 8, 9, 10, 11, 12, 13, 14, 15, 16, 17, 18, 19, 20, 21, 22, 23, 24, 25, 26, 27, 28, 29, 30, 31, 32, 33, 34, 35, 36, 37, 38, 39, 40, 41, 42, 43, 44, 45, 46, 47, 48, 49, 50, 51] [0, 48, 49, 50, 51, 1, 2, 3, 4, 5, 6, 7, 8, 9, 10, 11, 12, 13, 14, 15, 16, 17, 18, 19, 20, 21, 22, 23, 24, 25, 26, 27, 28, 29, 30, 31, 32, 33, 34, 35, 36, 37, 38, 39, 40, 41, 42, 43, 44, 45, 46, 47] (wf := (wX8 dA ad c_keptCount c_tape_size_17 c_tape_length c_tape_place c_tape_fault c_tape_faultPlace c_tape_begin c_tape_bytes_18 c_tape_draft_terms c_now_row c_now_tree_parts c_now_bonds0_terms c_now_bonds1_terms c_now_bonds2_terms c_now_hand_opened c_now_hand_over c_now_hand_row c_now_hand_paid c_now_hand_regret c_now_hand_tree_parts c_now_hand_bond_terms c_kept c_sheet_tree_parts c_sheet_bond_terms c_sheet_penceByUps c_sheet_pence c_sheet_turned c_sheet_called c_sheet_hold c_sheet_value c_sheet_marks c_sheet_act c_sheet_rowOfKey c_otherSheet_tree_parts c_otherSheet_bond_terms c_otherSheet_penceByUps c_otherSheet_pence c_otherSheet_turned c_otherSheet_called c_otherSheet_hold c_otherSheet_value c_otherSheet_marks c_otherSheet_act c_otherSheet_rowOfKey c_draws_x c_text_coder c_text_maybeLatin1 c_text_count c_text_value)) (va_runV (As := [.int p4]) (rest := []) ⟨hx, hb, hml, hown, hts⟩ (tX6_append l dC dI dA (fun i => ad (i + 1)) H.size v19) (ccX8_X6_append hts ⟨Nat.le_of_ble_eq_true rfl, Nat.le_of_ble_eq_true rfl⟩) (gPreV (ci := 6) (q0 := 0) (gsub z20 hP) hK (gsubD z20 (by decide) hD) rfl rfl) rfl rfl hl.1 rfl (lv_room (Nat.le_of_ble_eq_true rfl)) dX8_feed_48 ⟨Nat.le_of_ble_eq_true rfl, Nat.le_of_ble_eq_true rfl⟩) hP hD hS hA z20 rfl (by decide) (by decide) (by decide) rfl (fun H locs hP hD hS => ?_)
    refine lv_aload_n hx hb dX8_feed_51 rfl (lv_at hl 0 rfl) ?_
    refine va_get (D := (dC, dI)) (ci := 8) (v := .ref (ad 1)) (C := RX8) (T := TX8) (N := 8) hx hb hts (fun w h => gw_mem (inX8 w h)) hown hK.1 hP 0 rfl rfl 0 (by decide) (hts _ (gw_mem wfX8_12)) (fun _ h9 => h9) rfl dX8_feed_52 ?_
    refine lv_iload hx hb dX8_feed_55 (lv_at hl 5 rfl) ?_
    obtain ⟨c_tape_size_21, c_tape_bytes_22, v23, hf⟩ := bd2_some hf
    have z24 : [1, 2, 3, 4].map (fun i => ((wX8 dA ad c_keptCount c_tape_size_17 c_tape_length c_tape_place c_tape_fault c_tape_faultPlace c_tape_begin c_tape_bytes_18 c_tape_draft_terms c_now_row c_now_tree_parts c_now_bonds0_terms c_now_bonds1_terms c_now_bonds2_terms c_now_hand_opened c_now_hand_over c_now_hand_row c_now_hand_paid c_now_hand_regret c_now_hand_tree_parts c_now_hand_bond_terms c_kept c_sheet_tree_parts c_sheet_bond_terms c_sheet_penceByUps c_sheet_pence c_sheet_turned c_sheet_called c_sheet_hold c_sheet_value c_sheet_marks c_sheet_act c_sheet_rowOfKey c_otherSheet_tree_parts c_otherSheet_bond_terms c_otherSheet_penceByUps c_otherSheet_pence c_otherSheet_turned c_otherSheet_called c_otherSheet_hold c_otherSheet_value c_otherSheet_marks c_otherSheet_act c_otherSheet_rowOfKey c_draws_x c_text_coder c_text_maybeLatin1 c_text_count c_text_value))[i]?) = ((wX6 dA (fun i => ad (i + 1)) c_tape_size_17 c_tape_length c_tape_place c_tape_fault c_tape_faultPlace c_tape_begin c_tape_bytes_18 c_tape_draft_terms)).map some := rfl
    refine gpv [1, 2, 3, 4] [0, 5, 6, 7, 8, 9, 10, 11, 12, 13, 14, 15, 16, 17, 18, 19, 20, 21, 22, 23, 24, 25, 26, 27, 28, 29, 30, 31, 32, 33, 34, 35, 36, 37, 38, 39, 40, 41, 42, 43, 44, 45, 46, 47, 48, 49, 50, 51] [0, 48, 49, 50, 51, 1, 2, 3, 4, 5, 6, 7, 8, 9, 10, 11, 12, 13, 14, 15, 16, 17, 18, 19, 20, 21, 22, 23, 24, 25, 26, 27, 28, 29, 30, 31, 32, 33, 34, 35, 36, 37, 38, 39, 40, 41, 42, 43, 44, 45, 46, 47] (wf := (wX8 dA ad c_keptCount c_tape_size_21 c_tape_length c_tape_place c_tape_fault c_tape_faultPlace c_tape_begin c_tape_bytes_22 c_tape_draft_terms c_now_row c_now_tree_parts c_now_bonds0_terms c_now_bonds1_terms c_now_bonds2_terms c_now_hand_opened c_now_hand_over c_now_hand_row c_now_hand_paid c_now_hand_regret c_now_hand_tree_parts c_now_hand_bond_terms c_kept c_sheet_tree_parts c_sheet_bond_terms c_sheet_penceByUps c_sheet_pence c_sheet_turned c_sheet_called c_sheet_hold c_sheet_value c_sheet_marks c_sheet_act c_sheet_rowOfKey c_otherSheet_tree_parts c_otherSheet_bond_terms c_otherSheet_penceByUps c_otherSheet_pence c_otherSheet_turned c_otherSheet_called c_otherSheet_hold c_otherSheet_value c_otherSheet_marks c_otherSheet_act c_otherSheet_rowOfKey c_draws_x c_text_coder c_text_maybeLatin1 c_text_count c_text_value)) (va_runV (As := [.int p5]) (rest := []) ⟨hx, hb, hml, hown, hts⟩ (tX6_append l dC dI dA (fun i => ad (i + 1)) H.size v23) (ccX8_X6_append hts ⟨Nat.le_of_ble_eq_true rfl, Nat.le_of_ble_eq_true rfl⟩) (gPreV (ci := 6) (q0 := 0) (gsub z24 hP) hK (gsubD z24 (by decide) hD) rfl rfl) rfl rfl hl.1 rfl (lv_room (Nat.le_of_ble_eq_true rfl)) dX8_feed_57 ⟨Nat.le_of_ble_eq_true rfl, Nat.le_of_ble_eq_true rfl⟩) hP hD hS hA z24 rfl (by decide) (by decide) (by decide) rfl (fun H locs hP hD hS => ?_)
    refine lv_aload_n hx hb dX8_feed_60 rfl (lv_at hl 0 rfl) ?_
    refine va_get (D := (dC, dI)) (ci := 8) (v := .ref (ad 1)) (C := RX8) (T := TX8) (N := 8) hx hb hts (fun w h => gw_mem (inX8 w h)) hown hK.1 hP 0 rfl rfl 0 (by decide) (hts _ (gw_mem wfX8_12)) (fun _ h9 => h9) rfl dX8_feed_61 ?_
    obtain ⟨r25, v26, hf⟩ := bd1_some hf
    have z27 : [1, 2, 3, 4].map (fun i => ((wX8 dA ad c_keptCount c_tape_size_21 c_tape_length c_tape_place c_tape_fault c_tape_faultPlace c_tape_begin c_tape_bytes_22 c_tape_draft_terms c_now_row c_now_tree_parts c_now_bonds0_terms c_now_bonds1_terms c_now_bonds2_terms c_now_hand_opened c_now_hand_over c_now_hand_row c_now_hand_paid c_now_hand_regret c_now_hand_tree_parts c_now_hand_bond_terms c_kept c_sheet_tree_parts c_sheet_bond_terms c_sheet_penceByUps c_sheet_pence c_sheet_turned c_sheet_called c_sheet_hold c_sheet_value c_sheet_marks c_sheet_act c_sheet_rowOfKey c_otherSheet_tree_parts c_otherSheet_bond_terms c_otherSheet_penceByUps c_otherSheet_pence c_otherSheet_turned c_otherSheet_called c_otherSheet_hold c_otherSheet_value c_otherSheet_marks c_otherSheet_act c_otherSheet_rowOfKey c_draws_x c_text_coder c_text_maybeLatin1 c_text_count c_text_value))[i]?) = ((wX6 dA (fun i => ad (i + 1)) c_tape_size_21 c_tape_length c_tape_place c_tape_fault c_tape_faultPlace c_tape_begin c_tape_bytes_22 c_tape_draft_terms)).map some := rfl
    refine gpi [1, 2, 3, 4] [0, 5, 6, 7, 8, 9, 10, 11, 12, 13, 14, 15, 16, 17, 18, 19, 20, 21, 22, 23, 24, 25, 26, 27, 28, 29, 30, 31, 32, 33, 34, 35, 36, 37, 38, 39, 40, 41, 42, 43, 44, 45, 46, 47, 48, 49, 50, 51] [0, 48, 49, 50, 51, 1, 2, 3, 4, 5, 6, 7, 8, 9, 10, 11, 12, 13, 14, 15, 16, 17, 18, 19, 20, 21, 22, 23, 24, 25, 26, 27, 28, 29, 30, 31, 32, 33, 34, 35, 36, 37, 38, 39, 40, 41, 42, 43, 44, 45, 46, 47] (wf := (wX8 dA ad c_keptCount c_tape_size_21 c_tape_length c_tape_place c_tape_fault c_tape_faultPlace c_tape_begin c_tape_bytes_22 c_tape_draft_terms c_now_row c_now_tree_parts c_now_bonds0_terms c_now_bonds1_terms c_now_bonds2_terms c_now_hand_opened c_now_hand_over c_now_hand_row c_now_hand_paid c_now_hand_regret c_now_hand_tree_parts c_now_hand_bond_terms c_kept c_sheet_tree_parts c_sheet_bond_terms c_sheet_penceByUps c_sheet_pence c_sheet_turned c_sheet_called c_sheet_hold c_sheet_value c_sheet_marks c_sheet_act c_sheet_rowOfKey c_otherSheet_tree_parts c_otherSheet_bond_terms c_otherSheet_penceByUps c_otherSheet_pence c_otherSheet_turned c_otherSheet_called c_otherSheet_hold c_otherSheet_value c_otherSheet_marks c_otherSheet_act c_otherSheet_rowOfKey c_draws_x c_text_coder c_text_maybeLatin1 c_text_count c_text_value)) (va_runV (As := []) (rest := []) ⟨hx, hb, hml, hown, hts⟩ (tX6_size l dC dI dA (fun i => ad (i + 1)) H.size v26) (ccX8_X6_size hts ⟨Nat.le_of_ble_eq_true rfl, Nat.le_of_ble_eq_true rfl⟩) (gPreV (ci := 6) (q0 := 0) (gsub z27 hP) hK (gsubD z27 (by decide) hD) rfl rfl) rfl rfl hl.1 rfl (lv_room (Nat.le_of_ble_eq_true rfl)) dX8_feed_64 ⟨Nat.le_of_ble_eq_true rfl, Nat.le_of_ble_eq_true rfl⟩) hP hD hS hA z27 rfl (by decide) (by decide) (by decide) rfl (fun H locs hP hD hS => ?_)
    cases hf
    exact W.iret hx hb hr (fun t ht _ => gqi hP hD hS ht) hS.2.2 dX8_feed_67
  · replace hf := ifn k4 hf
    refine lv_iconst (v := (-1)) hx hb dX8_feed_16 (by decide) ?_
    cases hf
    exact W.iret hx hb hr (fun t ht _ => gqi hP hD hS ht) hS.2.2 dX8_feed_17
def fX8_isStart (p0 : Int32) : Option (Int32) := bd1 (fX8_within p0 1 1000) (fun r1 => og (boB r1) (some (r1)))
abbrev rmX8_isStart : Room := { frames := 1, cells := 0, slots := 0, locals := 22 }
set_option maxHeartbeats 4000000 in
set_option maxRecDepth 100000 in
theorem tX8_isStart (l : Launch) (dC : Nat → ClassId) (dI : Nat → Nat → Nat) (dA : Nat → ClassId) (sz : Nat) {p0 : Int32} {r : Int32} (hf : fX8_isStart p0 = some (r)) : Met l yX8_isStart (wq (Cond.code yX8_isStart cX8_isStart 1 (some .boolean))) rmX8_isStart (gP [.int p0] (dC, dI) dA [] sz) (gQi (dC, dI) r [] (va_A [] sz)) 0 0 (va_A [] sz) := by
  refine Met.ofW (cc := cX8_isStart) (maxL := 1) (ret := (some .boolean)) (by decide) rfl ?_
  intro p e s m args below meth c s₁ B hml hv
  obtain ⟨rfl, hsz, hP, hK, hD0⟩ := hv
  have hx := B.exec
  have hb := B.bytes
  have hr := B.returns
  have hts := atoms_spec (ws := wq (Cond.code yX8_isStart cX8_isStart 1 (some .boolean))) B.pre
  have hown : s.vm.findClass RX8 = some m.cls := findClass_of_methodNamed B.named
  have hlocks := B.notSynchronized
  clear B
  subst hsz
  have hD := hD0.self (sz := s.heap.size)
  generalize hAe : va_A [] s.heap.size = A at hD ⊢
  have hA : ∀ q : Nat, s.heap.size ≤ q → A q := fun q h => by rw [← hAe]; exact Or.inr h
  clear hAe hD0
  have hS : va_S A s.heap s.heap [] := va_S.rf
  have hl := lv_entry ([.int p0]) (n := 1) (Nat.le_of_ble_eq_true rfl)
  rw [lg_entry_eq]
  generalize (lg_sl ([.int p0]) ++ List.replicate (1 - (lg_sl ([.int p0])).length) Slot.unset).toArray = ls at hl ⊢
  have hl : lv_has ls 1 [(0, .int p0)] := hl
  change W p l e rmX8_isStart s m ([.int p0] : List Value).toArray below meth c s.heap [] 0 0 _ _
  unfold fX8_isStart at hf
  refine lv_iload_n hx hb dX8_isStart_0 rfl (lv_at hl 0 rfl) ?_
  refine lv_iconst (v := 1) hx hb dX8_isStart_1 (by decide) ?_
  refine lv_sipush (v := 1000) hx hb dX8_isStart_2 (by decide) ?_
  obtain ⟨r1, v2, hf⟩ := bd1_some hf
  refine gci0 (va_runS (As := [.int p0, .int 1, .int 1000]) (rest := []) ⟨hx, hb, hml, hown, hts⟩ (tX8_within l dC dI dA s.heap.size v2) (ccX8_X8_within hts ⟨Nat.le_of_ble_eq_true rfl, Nat.le_of_ble_eq_true rfl⟩) (gPreS0 hK) rfl rfl hl.1 rfl (lv_room (Nat.le_of_ble_eq_true rfl)) dX8_isStart_5 ⟨Nat.le_of_ble_eq_true rfl, Nat.le_of_ble_eq_true rfl⟩) hP hS hA (fun H locs hP hS => ?_)
  obtain ⟨h3, hf⟩ := og_some hf
  cases hf
  exact W.zret (ty := .boolean) hx hb hr (boB_nar h3) (fun t ht _ => gqi hP hD hS ht) hS.2.2 dX8_isStart_8
theorem ccX8_X8_isStart {R : Room} {s : State} {args : Array Value} {c0 : Cond} (ht : ∀ w ∈ wq c0, w.before args s = true) (hR : rmX8_isStart.frames + 1 ≤ R.frames ∧ 8 + (1 + 11) + rmX8_isStart.locals ≤ R.locals) : CallB R s args RX8 69 yX8_isStart cX8_isStart 1 (some .boolean) (wq (.code yX8_isStart cX8_isStart 1 (some .boolean))) rmX8_isStart 0 0 1 ∧ (Cond.static yX8_isStart).before args s = true := gCS 1 ht wcX8_isStart wmX8_69 wtX8_isStart wnX8 (by decide +kernel) rfl rfl hR
theorem ccX8_X7_set {R : Room} {s : State} {args : Array Value} {c0 : Cond} (ht : ∀ w ∈ wq c0, w.before args s = true) (hR : rmX7_set.frames + 1 ≤ R.frames ∧ 8 + (3 + 11) + rmX7_set.locals ≤ R.locals) : CallW R s args RX8 RX7 79 yX7_set cX7_set 3 none (wq (.code yX7_set cX7_set 3 none)) rmX7_set 0 0 2 := gCW 2 ht wcX7_set wmX8_79 wiX7_set weX7_set wnX7 (by decide +kernel) rfl rfl hR
def fX8_tree (p1 : Int32) (p2 : Int32) (c_now_row : Int32) (c_now_tree_parts : Nat → Int32) : Option (Int32 × Int32 × (Nat → Int32)) := bd1 (fX8_within p1 1 6) (fun r1 => if r1 = 0 then some (0, c_now_row, c_now_tree_parts) else bd1 (fX8_isStart p2) (fun r4 => if r4 = 0 then some (0, c_now_row, c_now_tree_parts) else bd1 (fX7_set 0 p1 c_now_tree_parts) (fun c_now_tree_parts_7 => bd1 (fX7_set 1 p2 c_now_tree_parts_7) (fun c_now_tree_parts_10 => some (1, 1, c_now_tree_parts_10)))))
abbrev rmX8_tree : Room := { frames := 2, cells := 0, slots := 0, locals := 44 }
set_option maxHeartbeats 4000000 in
set_option maxRecDepth 100000 in
theorem tX8_tree (l : Launch) (dC : Nat → ClassId) (dI : Nat → Nat → Nat) (dA : Nat → ClassId) (ad : Nat → Nat) (sz : Nat) {p1 : Int32} {p2 : Int32} {c_keptCount : Int32} {c_tape_size : Int32} {c_tape_length : Int32} {c_tape_place : Int32} {c_tape_fault : Int32} {c_tape_faultPlace : Int32} {c_tape_begin : Int32} {c_tape_bytes : Nat → Int32} {c_tape_draft_terms : Nat → Int32} {c_now_row : Int32} {c_now_tree_parts : Nat → Int32} {c_now_bonds0_terms : Nat → Int32} {c_now_bonds1_terms : Nat → Int32} {c_now_bonds2_terms : Nat → Int32} {c_now_hand_opened : Int32} {c_now_hand_over : Int32} {c_now_hand_row : Int32} {c_now_hand_paid : Int64} {c_now_hand_regret : Int64} {c_now_hand_tree_parts : Nat → Int32} {c_now_hand_bond_terms : Nat → Int32} {c_kept : Nat → Option Nat} {c_sheet_tree_parts : Nat → Int32} {c_sheet_bond_terms : Nat → Int32} {c_sheet_penceByUps : Nat → Int64} {c_sheet_pence : Nat → Int64} {c_sheet_turned : Nat → Int64} {c_sheet_called : Nat → Int64} {c_sheet_hold : Nat → Int64} {c_sheet_value : Nat → Int64} {c_sheet_marks : Nat → Int32} {c_sheet_act : Nat → Int32} {c_sheet_rowOfKey : Nat → Int32} {c_otherSheet_tree_parts : Nat → Int32} {c_otherSheet_bond_terms : Nat → Int32} {c_otherSheet_penceByUps : Nat → Int64} {c_otherSheet_pence : Nat → Int64} {c_otherSheet_turned : Nat → Int64} {c_otherSheet_called : Nat → Int64} {c_otherSheet_hold : Nat → Int64} {c_otherSheet_value : Nat → Int64} {c_otherSheet_marks : Nat → Int32} {c_otherSheet_act : Nat → Int32} {c_otherSheet_rowOfKey : Nat → Int32} {c_draws_x : Int32} {c_text_coder : Int32} {c_text_maybeLatin1 : Int32} {c_text_count : Int32} {c_text_value : Nat → Int32} {r : Int32} {o_c_now_row : Int32} {o_c_now_tree_parts : Nat → Int32} (hf : fX8_tree p1 p2 c_now_row c_now_tree_parts = some (r, o_c_now_row, o_c_now_tree_parts)) : Met l yX8_tree (wq (Cond.code yX8_tree cX8_tree 3 (some .boolean))) rmX8_tree (gP [.ref (ad 0), .int p1, .int p2] (dC, dI) dA (wX8 dA ad c_keptCount c_tape_size c_tape_length c_tape_place c_tape_fault c_tape_faultPlace c_tape_begin c_tape_bytes c_tape_draft_terms c_now_row c_now_tree_parts c_now_bonds0_terms c_now_bonds1_terms c_now_bonds2_terms c_now_hand_opened c_now_hand_over c_now_hand_row c_now_hand_paid c_now_hand_regret c_now_hand_tree_parts c_now_hand_bond_terms c_kept c_sheet_tree_parts c_sheet_bond_terms c_sheet_penceByUps c_sheet_pence c_sheet_turned c_sheet_called c_sheet_hold c_sheet_value c_sheet_marks c_sheet_act c_sheet_rowOfKey c_otherSheet_tree_parts c_otherSheet_bond_terms c_otherSheet_penceByUps c_otherSheet_pence c_otherSheet_turned c_otherSheet_called c_otherSheet_hold c_otherSheet_value c_otherSheet_marks c_otherSheet_act c_otherSheet_rowOfKey c_draws_x c_text_coder c_text_maybeLatin1 c_text_count c_text_value) sz) (gQi (dC, dI) r (wX8 dA ad c_keptCount c_tape_size c_tape_length c_tape_place c_tape_fault c_tape_faultPlace c_tape_begin c_tape_bytes c_tape_draft_terms o_c_now_row o_c_now_tree_parts c_now_bonds0_terms c_now_bonds1_terms c_now_bonds2_terms c_now_hand_opened c_now_hand_over c_now_hand_row c_now_hand_paid c_now_hand_regret c_now_hand_tree_parts c_now_hand_bond_terms c_kept c_sheet_tree_parts c_sheet_bond_terms c_sheet_penceByUps c_sheet_pence c_sheet_turned c_sheet_called c_sheet_hold c_sheet_value c_sheet_marks c_sheet_act c_sheet_rowOfKey c_otherSheet_tree_parts c_otherSheet_bond_terms c_otherSheet_penceByUps c_otherSheet_pence c_otherSheet_turned c_otherSheet_called c_otherSheet_hold c_otherSheet_value c_otherSheet_marks c_otherSheet_act c_otherSheet_rowOfKey c_draws_x c_text_coder c_text_maybeLatin1 c_text_count c_text_value) (va_A (wX8 dA ad c_keptCount c_tape_size c_tape_length c_tape_place c_tape_fault c_tape_faultPlace c_tape_begin c_tape_bytes c_tape_draft_terms c_now_row c_now_tree_parts c_now_bonds0_terms c_now_bonds1_terms c_now_bonds2_terms c_now_hand_opened c_now_hand_over c_now_hand_row c_now_hand_paid c_now_hand_regret c_now_hand_tree_parts c_now_hand_bond_terms c_kept c_sheet_tree_parts c_sheet_bond_terms c_sheet_penceByUps c_sheet_pence c_sheet_turned c_sheet_called c_sheet_hold c_sheet_value c_sheet_marks c_sheet_act c_sheet_rowOfKey c_otherSheet_tree_parts c_otherSheet_bond_terms c_otherSheet_penceByUps c_otherSheet_pence c_otherSheet_turned c_otherSheet_called c_otherSheet_hold c_otherSheet_value c_otherSheet_marks c_otherSheet_act c_otherSheet_rowOfKey c_draws_x c_text_coder c_text_maybeLatin1 c_text_count c_text_value) sz)) 0 0 (va_A (wX8 dA ad c_keptCount c_tape_size c_tape_length c_tape_place c_tape_fault c_tape_faultPlace c_tape_begin c_tape_bytes c_tape_draft_terms c_now_row c_now_tree_parts c_now_bonds0_terms c_now_bonds1_terms c_now_bonds2_terms c_now_hand_opened c_now_hand_over c_now_hand_row c_now_hand_paid c_now_hand_regret c_now_hand_tree_parts c_now_hand_bond_terms c_kept c_sheet_tree_parts c_sheet_bond_terms c_sheet_penceByUps c_sheet_pence c_sheet_turned c_sheet_called c_sheet_hold c_sheet_value c_sheet_marks c_sheet_act c_sheet_rowOfKey c_otherSheet_tree_parts c_otherSheet_bond_terms c_otherSheet_penceByUps c_otherSheet_pence c_otherSheet_turned c_otherSheet_called c_otherSheet_hold c_otherSheet_value c_otherSheet_marks c_otherSheet_act c_otherSheet_rowOfKey c_draws_x c_text_coder c_text_maybeLatin1 c_text_count c_text_value) sz) := by
  refine Met.ofW (cc := cX8_tree) (maxL := 3) (ret := (some .boolean)) (by decide) rfl ?_
  intro p e s m args below meth c s₁ B hml hv
  obtain ⟨rfl, hsz, hP, hK, hD0⟩ := hv
  have hx := B.exec
  have hb := B.bytes
  have hr := B.returns
  have hts := atoms_spec (ws := wq (Cond.code yX8_tree cX8_tree 3 (some .boolean))) B.pre
  have hown : s.vm.findClass RX8 = some m.cls := findClass_of_methodNamed B.named
  have hlocks := B.notSynchronized
  clear B
  subst hsz
  have hD := hD0.self (sz := s.heap.size)
  generalize hAe : va_A (wX8 dA ad c_keptCount c_tape_size c_tape_length c_tape_place c_tape_fault c_tape_faultPlace c_tape_begin c_tape_bytes c_tape_draft_terms c_now_row c_now_tree_parts c_now_bonds0_terms c_now_bonds1_terms c_now_bonds2_terms c_now_hand_opened c_now_hand_over c_now_hand_row c_now_hand_paid c_now_hand_regret c_now_hand_tree_parts c_now_hand_bond_terms c_kept c_sheet_tree_parts c_sheet_bond_terms c_sheet_penceByUps c_sheet_pence c_sheet_turned c_sheet_called c_sheet_hold c_sheet_value c_sheet_marks c_sheet_act c_sheet_rowOfKey c_otherSheet_tree_parts c_otherSheet_bond_terms c_otherSheet_penceByUps c_otherSheet_pence c_otherSheet_turned c_otherSheet_called c_otherSheet_hold c_otherSheet_value c_otherSheet_marks c_otherSheet_act c_otherSheet_rowOfKey c_draws_x c_text_coder c_text_maybeLatin1 c_text_count c_text_value) s.heap.size = A at hD ⊢
  have hA : ∀ q : Nat, s.heap.size ≤ q → A q := fun q h => by rw [← hAe]; exact Or.inr h
  clear hAe hD0
  have hS : va_S A s.heap s.heap [] := va_S.rf
  have hl := lv_entry ([.ref (ad 0), .int p1, .int p2]) (n := 3) (Nat.le_of_ble_eq_true rfl)
  rw [lg_entry_eq]
  generalize (lg_sl ([.ref (ad 0), .int p1, .int p2]) ++ List.replicate (3 - (lg_sl ([.ref (ad 0), .int p1, .int p2])).length) Slot.unset).toArray = ls at hl ⊢
  have hl : lv_has ls 3 [(0, .ref (ad 0)), (1, .int p1), (2, .int p2)] := hl
  change W p l e rmX8_tree s m ([.ref (ad 0), .int p1, .int p2] : List Value).toArray below meth c s.heap [] 0 0 _ _
  unfold fX8_tree at hf
  refine lv_iload_n hx hb dX8_tree_0 rfl (lv_at hl 1 rfl) ?_
  refine lv_iconst (v := 1) hx hb dX8_tree_1 (by decide) ?_
  refine lv_bipush (v := 6) hx hb dX8_tree_2 (by decide) ?_
  obtain ⟨r1, v2, hf⟩ := bd1_some hf
  refine gci0 (va_runS (As := [.int p1, .int 1, .int 6]) (rest := []) ⟨hx, hb, hml, hown, hts⟩ (tX8_within l dC dI dA s.heap.size v2) (ccX8_X8_within hts ⟨Nat.le_of_ble_eq_true rfl, Nat.le_of_ble_eq_true rfl⟩) (gPreS0 hK) rfl rfl hl.1 rfl (lv_room (Nat.le_of_ble_eq_true rfl)) dX8_tree_4 ⟨Nat.le_of_ble_eq_true rfl, Nat.le_of_ble_eq_true rfl⟩) hP hS hA (fun H locs hP hS => ?_)
  refine lv_if_eq (tgt := 17) hx hb dX8_tree_7 (by decide) (fun k3 => ?_) (fun k3 => ?_)
  · replace hf := ifp k3 hf
    refine lv_iconst (v := 0) hx hb dX8_tree_17 (by decide) ?_
    cases hf
    exact W.zret (ty := .boolean) hx hb hr rfl (fun t ht _ => gqi hP hD hS ht) hS.2.2 dX8_tree_18
  · replace hf := ifn k3 hf
    refine lv_iload_n hx hb dX8_tree_10 rfl (lv_at hl 2 rfl) ?_
    obtain ⟨r4, v5, hf⟩ := bd1_some hf
    refine gci0 (va_runS (As := [.int p2]) (rest := []) ⟨hx, hb, hml, hown, hts⟩ (tX8_isStart l dC dI dA H.size v5) (ccX8_X8_isStart hts ⟨Nat.le_of_ble_eq_true rfl, Nat.le_of_ble_eq_true rfl⟩) (gPreS0 hK) rfl rfl hl.1 rfl (lv_room (Nat.le_of_ble_eq_true rfl)) dX8_tree_11 ⟨Nat.le_of_ble_eq_true rfl, Nat.le_of_ble_eq_true rfl⟩) hP hS hA (fun H locs hP hS => ?_)
    refine lv_if_ne (tgt := 19) hx hb dX8_tree_14 (by decide) (fun k6 => ?_) (fun k6 => ?_)
    · replace hf := ifn k6 hf
      refine lv_aload_n hx hb dX8_tree_19 rfl (lv_at hl 0 rfl) ?_
      refine va_get (D := (dC, dI)) (ci := 8) (v := .ref (ad 5)) (C := RX8) (T := TX8) (N := 8) hx hb hts (fun w h => gw_mem (inX8 w h)) hown hK.1 hP 0 rfl rfl 1 (by decide) (hts _ (gw_mem wfX8_21)) (fun _ h9 => h9) rfl dX8_tree_20 ?_
      refine va_getN (D := (dC, dI)) (ci := 4) (v := .ref (ad 6)) (C := RX4) (T := TX4) (N := 4) hx hb hts (fun w h => gw_mem (inX4 w h)) hown hK.1 hP 5 rfl rfl 0 (by decide) (va_Nw.use rfl (hK.2 _ wfX8_73 rfl)) (fun _ h9 => h9) rfl dX8_tree_23 ?_
      refine lv_iconst (v := 0) hx hb dX8_tree_26 (by decide) ?_
      refine lv_iload_n hx hb dX8_tree_27 rfl (lv_at hl 1 rfl) ?_
      obtain ⟨c_now_tree_parts_7, v8, hf⟩ := bd1_some hf
      have z9 : [6, 7].map (fun i => ((wX8 dA ad c_keptCount c_tape_size c_tape_length c_tape_place c_tape_fault c_tape_faultPlace c_tape_begin c_tape_bytes c_tape_draft_terms c_now_row c_now_tree_parts c_now_bonds0_terms c_now_bonds1_terms c_now_bonds2_terms c_now_hand_opened c_now_hand_over c_now_hand_row c_now_hand_paid c_now_hand_regret c_now_hand_tree_parts c_now_hand_bond_terms c_kept c_sheet_tree_parts c_sheet_bond_terms c_sheet_penceByUps c_sheet_pence c_sheet_turned c_sheet_called c_sheet_hold c_sheet_value c_sheet_marks c_sheet_act c_sheet_rowOfKey c_otherSheet_tree_parts c_otherSheet_bond_terms c_otherSheet_penceByUps c_otherSheet_pence c_otherSheet_turned c_otherSheet_called c_otherSheet_hold c_otherSheet_value c_otherSheet_marks c_otherSheet_act c_otherSheet_rowOfKey c_draws_x c_text_coder c_text_maybeLatin1 c_text_count c_text_value))[i]?) = ((wX7 dA (fun i => ad (i + 6)) c_now_tree_parts)).map some := rfl
      refine gpv [6, 7] [0, 1, 2, 3, 4, 5, 8, 9, 10, 11, 12, 13, 14, 15, 16, 17, 18, 19, 20, 21, 22, 23, 24, 25, 26, 27, 28, 29, 30, 31, 32, 33, 34, 35, 36, 37, 38, 39, 40, 41, 42, 43, 44, 45, 46, 47, 48, 49, 50, 51] [0, 1, 2, 3, 4, 5, 50, 51, 6, 7, 8, 9, 10, 11, 12, 13, 14, 15, 16, 17, 18, 19, 20, 21, 22, 23, 24, 25, 26, 27, 28, 29, 30, 31, 32, 33, 34, 35, 36, 37, 38, 39, 40, 41, 42, 43, 44, 45, 46, 47, 48, 49] (wf := (wX8 dA ad c_keptCount c_tape_size c_tape_length c_tape_place c_tape_fault c_tape_faultPlace c_tape_begin c_tape_bytes c_tape_draft_terms c_now_row c_now_tree_parts_7 c_now_bonds0_terms c_now_bonds1_terms c_now_bonds2_terms c_now_hand_opened c_now_hand_over c_now_hand_row c_now_hand_paid c_now_hand_regret c_now_hand_tree_parts c_now_hand_bond_terms c_kept c_sheet_tree_parts c_sheet_bond_terms c_sheet_penceByUps c_sheet_pence c_sheet_turned c_sheet_called c_sheet_hold c_sheet_value c_sheet_marks c_sheet_act c_sheet_rowOfKey c_otherSheet_tree_parts c_otherSheet_bond_terms c_otherSheet_penceByUps c_otherSheet_pence c_otherSheet_turned c_otherSheet_called c_otherSheet_hold c_otherSheet_value c_otherSheet_marks c_otherSheet_act c_otherSheet_rowOfKey c_draws_x c_text_coder c_text_maybeLatin1 c_text_count c_text_value)) (va_runV (As := [.int 0, .int p1]) (rest := []) ⟨hx, hb, hml, hown, hts⟩ (tX7_set l dC dI dA (fun i => ad (i + 6)) H.size v8) (ccX8_X7_set hts ⟨Nat.le_of_ble_eq_true rfl, Nat.le_of_ble_eq_true rfl⟩) (gPreV (ci := 7) (q0 := 0) (gsub z9 hP) hK (gsubD z9 (by decide) hD) rfl rfl) rfl rfl hl.1 rfl (lv_room (Nat.le_of_ble_eq_true rfl)) dX8_tree_28 ⟨Nat.le_of_ble_eq_true rfl, Nat.le_of_ble_eq_true rfl⟩) hP hD hS hA z9 rfl (by decide) (by decide) (by decide) rfl (fun H locs hP hD hS => ?_)
      refine lv_aload_n hx hb dX8_tree_31 rfl (lv_at hl 0 rfl) ?_
      refine va_get (D := (dC, dI)) (ci := 8) (v := .ref (ad 5)) (C := RX8) (T := TX8) (N := 8) hx hb hts (fun w h => gw_mem (inX8 w h)) hown hK.1 hP 0 rfl rfl 1 (by decide) (hts _ (gw_mem wfX8_21)) (fun _ h9 => h9) rfl dX8_tree_32 ?_
      refine va_getN (D := (dC, dI)) (ci := 4) (v := .ref (ad 6)) (C := RX4) (T := TX4) (N := 4) hx hb hts (fun w h => gw_mem (inX4 w h)) hown hK.1 hP 5 rfl rfl 0 (by decide) (va_Nw.use rfl (hK.2 _ wfX8_73 rfl)) (fun _ h9 => h9) rfl dX8_tree_35 ?_
      refine lv_iconst (v := 1) hx hb dX8_tree_38 (by decide) ?_
      refine lv_iload_n hx hb dX8_tree_39 rfl (lv_at hl 2 rfl) ?_
      obtain ⟨c_now_tree_parts_10, v11, hf⟩ := bd1_some hf
      have z12 : [6, 7].map (fun i => ((wX8 dA ad c_keptCount c_tape_size c_tape_length c_tape_place c_tape_fault c_tape_faultPlace c_tape_begin c_tape_bytes c_tape_draft_terms c_now_row c_now_tree_parts_7 c_now_bonds0_terms c_now_bonds1_terms c_now_bonds2_terms c_now_hand_opened c_now_hand_over c_now_hand_row c_now_hand_paid c_now_hand_regret c_now_hand_tree_parts c_now_hand_bond_terms c_kept c_sheet_tree_parts c_sheet_bond_terms c_sheet_penceByUps c_sheet_pence c_sheet_turned c_sheet_called c_sheet_hold c_sheet_value c_sheet_marks c_sheet_act c_sheet_rowOfKey c_otherSheet_tree_parts c_otherSheet_bond_terms c_otherSheet_penceByUps c_otherSheet_pence c_otherSheet_turned c_otherSheet_called c_otherSheet_hold c_otherSheet_value c_otherSheet_marks c_otherSheet_act c_otherSheet_rowOfKey c_draws_x c_text_coder c_text_maybeLatin1 c_text_count c_text_value))[i]?) = ((wX7 dA (fun i => ad (i + 6)) c_now_tree_parts_7)).map some := rfl
      refine gpv [6, 7] [0, 1, 2, 3, 4, 5, 8, 9, 10, 11, 12, 13, 14, 15, 16, 17, 18, 19, 20, 21, 22, 23, 24, 25, 26, 27, 28, 29, 30, 31, 32, 33, 34, 35, 36, 37, 38, 39, 40, 41, 42, 43, 44, 45, 46, 47, 48, 49, 50, 51] [0, 1, 2, 3, 4, 5, 50, 51, 6, 7, 8, 9, 10, 11, 12, 13, 14, 15, 16, 17, 18, 19, 20, 21, 22, 23, 24, 25, 26, 27, 28, 29, 30, 31, 32, 33, 34, 35, 36, 37, 38, 39, 40, 41, 42, 43, 44, 45, 46, 47, 48, 49] (wf := (wX8 dA ad c_keptCount c_tape_size c_tape_length c_tape_place c_tape_fault c_tape_faultPlace c_tape_begin c_tape_bytes c_tape_draft_terms c_now_row c_now_tree_parts_10 c_now_bonds0_terms c_now_bonds1_terms c_now_bonds2_terms c_now_hand_opened c_now_hand_over c_now_hand_row c_now_hand_paid c_now_hand_regret c_now_hand_tree_parts c_now_hand_bond_terms c_kept c_sheet_tree_parts c_sheet_bond_terms c_sheet_penceByUps c_sheet_pence c_sheet_turned c_sheet_called c_sheet_hold c_sheet_value c_sheet_marks c_sheet_act c_sheet_rowOfKey c_otherSheet_tree_parts c_otherSheet_bond_terms c_otherSheet_penceByUps c_otherSheet_pence c_otherSheet_turned c_otherSheet_called c_otherSheet_hold c_otherSheet_value c_otherSheet_marks c_otherSheet_act c_otherSheet_rowOfKey c_draws_x c_text_coder c_text_maybeLatin1 c_text_count c_text_value)) (va_runV (As := [.int 1, .int p2]) (rest := []) ⟨hx, hb, hml, hown, hts⟩ (tX7_set l dC dI dA (fun i => ad (i + 6)) H.size v11) (ccX8_X7_set hts ⟨Nat.le_of_ble_eq_true rfl, Nat.le_of_ble_eq_true rfl⟩) (gPreV (ci := 7) (q0 := 0) (gsub z12 hP) hK (gsubD z12 (by decide) hD) rfl rfl) rfl rfl hl.1 rfl (lv_room (Nat.le_of_ble_eq_true rfl)) dX8_tree_40 ⟨Nat.le_of_ble_eq_true rfl, Nat.le_of_ble_eq_true rfl⟩) hP hD hS hA z12 rfl (by decide) (by decide) (by decide) rfl (fun H locs hP hD hS => ?_)
      refine lv_aload_n hx hb dX8_tree_43 rfl (lv_at hl 0 rfl) ?_
      refine va_get (D := (dC, dI)) (ci := 8) (v := .ref (ad 5)) (C := RX8) (T := TX8) (N := 8) hx hb hts (fun w h => gw_mem (inX8 w h)) hown hK.1 hP 0 rfl rfl 1 (by decide) (hts _ (gw_mem wfX8_21)) (fun _ h9 => h9) rfl dX8_tree_44 ?_
      refine lv_iconst (v := 1) hx hb dX8_tree_47 (by decide) ?_
      refine va_putN (D := (dC, dI)) (ci := 4) (v := .int 1) (ty := .int) (C := RX4) (T := TX4) (N := 4) hx hb hts (fun w h => gw_mem (inX4 w h)) tyX4 tyX4_ok nmX4 hown hK.1 hP hD hS 5 rfl rfl 3 (by decide) (va_Nw.use rfl (hK.2 _ wfX8_83 rfl)) (fun _ h9 => h9) rfl (by decide +kernel) rfl rfl (Nat.le_of_ble_eq_true rfl) dX8_tree_48 (fun H locs hP hD hS => ?_)
      have hP : va_P (dC, dI) vwCl (wX8 dA ad c_keptCount c_tape_size c_tape_length c_tape_place c_tape_fault c_tape_faultPlace c_tape_begin c_tape_bytes c_tape_draft_terms 1 c_now_tree_parts_10 c_now_bonds0_terms c_now_bonds1_terms c_now_bonds2_terms c_now_hand_opened c_now_hand_over c_now_hand_row c_now_hand_paid c_now_hand_regret c_now_hand_tree_parts c_now_hand_bond_terms c_kept c_sheet_tree_parts c_sheet_bond_terms c_sheet_penceByUps c_sheet_pence c_sheet_turned c_sheet_called c_sheet_hold c_sheet_value c_sheet_marks c_sheet_act c_sheet_rowOfKey c_otherSheet_tree_parts c_otherSheet_bond_terms c_otherSheet_penceByUps c_otherSheet_pence c_otherSheet_turned c_otherSheet_called c_otherSheet_hold c_otherSheet_value c_otherSheet_marks c_otherSheet_act c_otherSheet_rowOfKey c_draws_x c_text_coder c_text_maybeLatin1 c_text_count c_text_value) H := hP
      have hD : va_D A (wX8 dA ad c_keptCount c_tape_size c_tape_length c_tape_place c_tape_fault c_tape_faultPlace c_tape_begin c_tape_bytes c_tape_draft_terms 1 c_now_tree_parts_10 c_now_bonds0_terms c_now_bonds1_terms c_now_bonds2_terms c_now_hand_opened c_now_hand_over c_now_hand_row c_now_hand_paid c_now_hand_regret c_now_hand_tree_parts c_now_hand_bond_terms c_kept c_sheet_tree_parts c_sheet_bond_terms c_sheet_penceByUps c_sheet_pence c_sheet_turned c_sheet_called c_sheet_hold c_sheet_value c_sheet_marks c_sheet_act c_sheet_rowOfKey c_otherSheet_tree_parts c_otherSheet_bond_terms c_otherSheet_penceByUps c_otherSheet_pence c_otherSheet_turned c_otherSheet_called c_otherSheet_hold c_otherSheet_value c_otherSheet_marks c_otherSheet_act c_otherSheet_rowOfKey c_draws_x c_text_coder c_text_maybeLatin1 c_text_count c_text_value) := hD
      refine lv_iconst (v := 1) hx hb dX8_tree_51 (by decide) ?_
      cases hf
      exact W.zret (ty := .boolean) hx hb hr rfl (fun t ht _ => gqi hP hD hS ht) hS.2.2 dX8_tree_52
    · replace hf := ifp k6 hf
      refine lv_iconst (v := 0) hx hb dX8_tree_17 (by decide) ?_
      cases hf
      exact W.zret (ty := .boolean) hx hb hr rfl (fun t ht _ => gqi hP hD hS ht) hS.2.2 dX8_tree_18
def fX8_move (p1 : Int32) (p2 : Int32) (p3 : Int32) (c_now_tree_parts : Nat → Int32) : Option (Int32 × (Nat → Int32)) := bd1 (fX8_within p2 1 20) (fun r1 => if r1 = 0 then some (0, c_now_tree_parts) else bd1 (fX8_within p3 1 20) (fun r4 => if r4 = 0 then some (0, c_now_tree_parts) else if p1 = 0 then bd1 (fX7_set 4 p2 c_now_tree_parts) (fun c_now_tree_parts_8 => if p1 = 0 then bd1 (fX7_set 5 p3 c_now_tree_parts_8) (fun c_now_tree_parts_12 => some (1, c_now_tree_parts_12)) else bd1 (fX7_set 3 p3 c_now_tree_parts_8) (fun c_now_tree_parts_15 => some (1, c_now_tree_parts_15))) else bd1 (fX7_set 2 p2 c_now_tree_parts) (fun c_now_tree_parts_18 => if p1 = 0 then bd1 (fX7_set 5 p3 c_now_tree_parts_18) (fun c_now_tree_parts_22 => some (1, c_now_tree_parts_22)) else bd1 (fX7_set 3 p3 c_now_tree_parts_18) (fun c_now_tree_parts_25 => some (1, c_now_tree_parts_25)))))
abbrev rmX8_move : Room := { frames := 2, cells := 0, slots := 0, locals := 44 }
set_option maxHeartbeats 4000000 in
set_option maxRecDepth 100000 in
theorem tX8_move (l : Launch) (dC : Nat → ClassId) (dI : Nat → Nat → Nat) (dA : Nat → ClassId) (ad : Nat → Nat) (sz : Nat) {p1 : Int32} {p2 : Int32} {p3 : Int32} {c_keptCount : Int32} {c_tape_size : Int32} {c_tape_length : Int32} {c_tape_place : Int32} {c_tape_fault : Int32} {c_tape_faultPlace : Int32} {c_tape_begin : Int32} {c_tape_bytes : Nat → Int32} {c_tape_draft_terms : Nat → Int32} {c_now_row : Int32} {c_now_tree_parts : Nat → Int32} {c_now_bonds0_terms : Nat → Int32} {c_now_bonds1_terms : Nat → Int32} {c_now_bonds2_terms : Nat → Int32} {c_now_hand_opened : Int32} {c_now_hand_over : Int32} {c_now_hand_row : Int32} {c_now_hand_paid : Int64} {c_now_hand_regret : Int64} {c_now_hand_tree_parts : Nat → Int32} {c_now_hand_bond_terms : Nat → Int32} {c_kept : Nat → Option Nat} {c_sheet_tree_parts : Nat → Int32} {c_sheet_bond_terms : Nat → Int32} {c_sheet_penceByUps : Nat → Int64} {c_sheet_pence : Nat → Int64} {c_sheet_turned : Nat → Int64} {c_sheet_called : Nat → Int64} {c_sheet_hold : Nat → Int64} {c_sheet_value : Nat → Int64} {c_sheet_marks : Nat → Int32} {c_sheet_act : Nat → Int32} {c_sheet_rowOfKey : Nat → Int32} {c_otherSheet_tree_parts : Nat → Int32} {c_otherSheet_bond_terms : Nat → Int32} {c_otherSheet_penceByUps : Nat → Int64} {c_otherSheet_pence : Nat → Int64} {c_otherSheet_turned : Nat → Int64} {c_otherSheet_called : Nat → Int64} {c_otherSheet_hold : Nat → Int64} {c_otherSheet_value : Nat → Int64} {c_otherSheet_marks : Nat → Int32} {c_otherSheet_act : Nat → Int32} {c_otherSheet_rowOfKey : Nat → Int32} {c_draws_x : Int32} {c_text_coder : Int32} {c_text_maybeLatin1 : Int32} {c_text_count : Int32} {c_text_value : Nat → Int32} {r : Int32} {o_c_now_tree_parts : Nat → Int32} (hf : fX8_move p1 p2 p3 c_now_tree_parts = some (r, o_c_now_tree_parts)) : Met l yX8_move (wq (Cond.code yX8_move cX8_move 4 (some .boolean))) rmX8_move (gP [.ref (ad 0), .int p1, .int p2, .int p3] (dC, dI) dA (wX8 dA ad c_keptCount c_tape_size c_tape_length c_tape_place c_tape_fault c_tape_faultPlace c_tape_begin c_tape_bytes c_tape_draft_terms c_now_row c_now_tree_parts c_now_bonds0_terms c_now_bonds1_terms c_now_bonds2_terms c_now_hand_opened c_now_hand_over c_now_hand_row c_now_hand_paid c_now_hand_regret c_now_hand_tree_parts c_now_hand_bond_terms c_kept c_sheet_tree_parts c_sheet_bond_terms c_sheet_penceByUps c_sheet_pence c_sheet_turned c_sheet_called c_sheet_hold c_sheet_value c_sheet_marks c_sheet_act c_sheet_rowOfKey c_otherSheet_tree_parts c_otherSheet_bond_terms c_otherSheet_penceByUps c_otherSheet_pence c_otherSheet_turned c_otherSheet_called c_otherSheet_hold c_otherSheet_value c_otherSheet_marks c_otherSheet_act c_otherSheet_rowOfKey c_draws_x c_text_coder c_text_maybeLatin1 c_text_count c_text_value) sz) (gQi (dC, dI) r (wX8 dA ad c_keptCount c_tape_size c_tape_length c_tape_place c_tape_fault c_tape_faultPlace c_tape_begin c_tape_bytes c_tape_draft_terms c_now_row o_c_now_tree_parts c_now_bonds0_terms c_now_bonds1_terms c_now_bonds2_terms c_now_hand_opened c_now_hand_over c_now_hand_row c_now_hand_paid c_now_hand_regret c_now_hand_tree_parts c_now_hand_bond_terms c_kept c_sheet_tree_parts c_sheet_bond_terms c_sheet_penceByUps c_sheet_pence c_sheet_turned c_sheet_called c_sheet_hold c_sheet_value c_sheet_marks c_sheet_act c_sheet_rowOfKey c_otherSheet_tree_parts c_otherSheet_bond_terms c_otherSheet_penceByUps c_otherSheet_pence c_otherSheet_turned c_otherSheet_called c_otherSheet_hold c_otherSheet_value c_otherSheet_marks c_otherSheet_act c_otherSheet_rowOfKey c_draws_x c_text_coder c_text_maybeLatin1 c_text_count c_text_value) (va_A (wX8 dA ad c_keptCount c_tape_size c_tape_length c_tape_place c_tape_fault c_tape_faultPlace c_tape_begin c_tape_bytes c_tape_draft_terms c_now_row c_now_tree_parts c_now_bonds0_terms c_now_bonds1_terms c_now_bonds2_terms c_now_hand_opened c_now_hand_over c_now_hand_row c_now_hand_paid c_now_hand_regret c_now_hand_tree_parts c_now_hand_bond_terms c_kept c_sheet_tree_parts c_sheet_bond_terms c_sheet_penceByUps c_sheet_pence c_sheet_turned c_sheet_called c_sheet_hold c_sheet_value c_sheet_marks c_sheet_act c_sheet_rowOfKey c_otherSheet_tree_parts c_otherSheet_bond_terms c_otherSheet_penceByUps c_otherSheet_pence c_otherSheet_turned c_otherSheet_called c_otherSheet_hold c_otherSheet_value c_otherSheet_marks c_otherSheet_act c_otherSheet_rowOfKey c_draws_x c_text_coder c_text_maybeLatin1 c_text_count c_text_value) sz)) 0 0 (va_A (wX8 dA ad c_keptCount c_tape_size c_tape_length c_tape_place c_tape_fault c_tape_faultPlace c_tape_begin c_tape_bytes c_tape_draft_terms c_now_row c_now_tree_parts c_now_bonds0_terms c_now_bonds1_terms c_now_bonds2_terms c_now_hand_opened c_now_hand_over c_now_hand_row c_now_hand_paid c_now_hand_regret c_now_hand_tree_parts c_now_hand_bond_terms c_kept c_sheet_tree_parts c_sheet_bond_terms c_sheet_penceByUps c_sheet_pence c_sheet_turned c_sheet_called c_sheet_hold c_sheet_value c_sheet_marks c_sheet_act c_sheet_rowOfKey c_otherSheet_tree_parts c_otherSheet_bond_terms c_otherSheet_penceByUps c_otherSheet_pence c_otherSheet_turned c_otherSheet_called c_otherSheet_hold c_otherSheet_value c_otherSheet_marks c_otherSheet_act c_otherSheet_rowOfKey c_draws_x c_text_coder c_text_maybeLatin1 c_text_count c_text_value) sz) := by
  refine Met.ofW (cc := cX8_move) (maxL := 4) (ret := (some .boolean)) (by decide) rfl ?_
  intro p e s m args below meth c s₁ B hml hv
  obtain ⟨rfl, hsz, hP, hK, hD0⟩ := hv
  have hx := B.exec
  have hb := B.bytes
  have hr := B.returns
  have hts := atoms_spec (ws := wq (Cond.code yX8_move cX8_move 4 (some .boolean))) B.pre
  have hown : s.vm.findClass RX8 = some m.cls := findClass_of_methodNamed B.named
  have hlocks := B.notSynchronized
  clear B
  subst hsz
  have hD := hD0.self (sz := s.heap.size)
  generalize hAe : va_A (wX8 dA ad c_keptCount c_tape_size c_tape_length c_tape_place c_tape_fault c_tape_faultPlace c_tape_begin c_tape_bytes c_tape_draft_terms c_now_row c_now_tree_parts c_now_bonds0_terms c_now_bonds1_terms c_now_bonds2_terms c_now_hand_opened c_now_hand_over c_now_hand_row c_now_hand_paid c_now_hand_regret c_now_hand_tree_parts c_now_hand_bond_terms c_kept c_sheet_tree_parts c_sheet_bond_terms c_sheet_penceByUps c_sheet_pence c_sheet_turned c_sheet_called c_sheet_hold c_sheet_value c_sheet_marks c_sheet_act c_sheet_rowOfKey c_otherSheet_tree_parts c_otherSheet_bond_terms c_otherSheet_penceByUps c_otherSheet_pence c_otherSheet_turned c_otherSheet_called c_otherSheet_hold c_otherSheet_value c_otherSheet_marks c_otherSheet_act c_otherSheet_rowOfKey c_draws_x c_text_coder c_text_maybeLatin1 c_text_count c_text_value) s.heap.size = A at hD ⊢
  have hA : ∀ q : Nat, s.heap.size ≤ q → A q := fun q h => by rw [← hAe]; exact Or.inr h
  clear hAe hD0
  have hS : va_S A s.heap s.heap [] := va_S.rf
  have hl := lv_entry ([.ref (ad 0), .int p1, .int p2, .int p3]) (n := 4) (Nat.le_of_ble_eq_true rfl)
  rw [lg_entry_eq]
  generalize (lg_sl ([.ref (ad 0), .int p1, .int p2, .int p3]) ++ List.replicate (4 - (lg_sl ([.ref (ad 0), .int p1, .int p2, .int p3])).length) Slot.unset).toArray = ls at hl ⊢
  have hl : lv_has ls 4 [(0, .ref (ad 0)), (1, .int p1), (2, .int p2), (3, .int p3)] := hl
  change W p l e rmX8_move s m ([.ref (ad 0), .int p1, .int p2, .int p3] : List Value).toArray below meth c s.heap [] 0 0 _ _
  unfold fX8_move at hf
  refine lv_iload_n hx hb dX8_move_0 rfl (lv_at hl 2 rfl) ?_
  refine lv_iconst (v := 1) hx hb dX8_move_1 (by decide) ?_
  refine lv_bipush (v := 20) hx hb dX8_move_2 (by decide) ?_
  obtain ⟨r1, v2, hf⟩ := bd1_some hf
  refine gci0 (va_runS (As := [.int p2, .int 1, .int 20]) (rest := []) ⟨hx, hb, hml, hown, hts⟩ (tX8_within l dC dI dA s.heap.size v2) (ccX8_X8_within hts ⟨Nat.le_of_ble_eq_true rfl, Nat.le_of_ble_eq_true rfl⟩) (gPreS0 hK) rfl rfl hl.1 rfl (lv_room (Nat.le_of_ble_eq_true rfl)) dX8_move_4 ⟨Nat.le_of_ble_eq_true rfl, Nat.le_of_ble_eq_true rfl⟩) hP hS hA (fun H locs hP hS => ?_)
  refine lv_if_eq (tgt := 20) hx hb dX8_move_7 (by decide) (fun k3 => ?_) (fun k3 => ?_)
  · replace hf := ifp k3 hf
    refine lv_iconst (v := 0) hx hb dX8_move_20 (by decide) ?_
    cases hf
    exact W.zret (ty := .boolean) hx hb hr rfl (fun t ht _ => gqi hP hD hS ht) hS.2.2 dX8_move_21
  · replace hf := ifn k3 hf
    refine lv_iload_n hx hb dX8_move_10 rfl (lv_at hl 3 rfl) ?_
    refine lv_iconst (v := 1) hx hb dX8_move_11 (by decide) ?_
    refine lv_bipush (v := 20) hx hb dX8_move_12 (by decide) ?_
    obtain ⟨r4, v5, hf⟩ := bd1_some hf
    refine gci0 (va_runS (As := [.int p3, .int 1, .int 20]) (rest := []) ⟨hx, hb, hml, hown, hts⟩ (tX8_within l dC dI dA H.size v5) (ccX8_X8_within hts ⟨Nat.le_of_ble_eq_true rfl, Nat.le_of_ble_eq_true rfl⟩) (gPreS0 hK) rfl rfl hl.1 rfl (lv_room (Nat.le_of_ble_eq_true rfl)) dX8_move_14 ⟨Nat.le_of_ble_eq_true rfl, Nat.le_of_ble_eq_true rfl⟩) hP hS hA (fun H locs hP hS => ?_)
    refine lv_if_ne (tgt := 22) hx hb dX8_move_17 (by decide) (fun k6 => ?_) (fun k6 => ?_)
    · replace hf := ifn k6 hf
      refine lv_aload_n hx hb dX8_move_22 rfl (lv_at hl 0 rfl) ?_
      refine va_get (D := (dC, dI)) (ci := 8) (v := .ref (ad 5)) (C := RX8) (T := TX8) (N := 8) hx hb hts (fun w h => gw_mem (inX8 w h)) hown hK.1 hP 0 rfl rfl 1 (by decide) (hts _ (gw_mem wfX8_21)) (fun _ h9 => h9) rfl dX8_move_23 ?_
      refine va_getN (D := (dC, dI)) (ci := 4) (v := .ref (ad 6)) (C := RX4) (T := TX4) (N := 4) hx hb hts (fun w h => gw_mem (inX4 w h)) hown hK.1 hP 5 rfl rfl 0 (by decide) (va_Nw.use rfl (hK.2 _ wfX8_73 rfl)) (fun _ h9 => h9) rfl dX8_move_26 ?_
      refine lv_iload_n hx hb dX8_move_29 rfl (lv_at hl 1 rfl) ?_
      refine lv_if_eq (tgt := 37) hx hb dX8_move_30 (by decide) (fun k7 => ?_) (fun k7 => ?_)
      · replace hf := ifp k7 hf
        refine lv_iconst (v := 4) hx hb dX8_move_37 (by decide) ?_
        refine lv_iload_n hx hb dX8_move_38 rfl (lv_at hl 2 rfl) ?_
        obtain ⟨c_now_tree_parts_8, v9, hf⟩ := bd1_some hf
        have z10 : [6, 7].map (fun i => ((wX8 dA ad c_keptCount c_tape_size c_tape_length c_tape_place c_tape_fault c_tape_faultPlace c_tape_begin c_tape_bytes c_tape_draft_terms c_now_row c_now_tree_parts c_now_bonds0_terms c_now_bonds1_terms c_now_bonds2_terms c_now_hand_opened c_now_hand_over c_now_hand_row c_now_hand_paid c_now_hand_regret c_now_hand_tree_parts c_now_hand_bond_terms c_kept c_sheet_tree_parts c_sheet_bond_terms c_sheet_penceByUps c_sheet_pence c_sheet_turned c_sheet_called c_sheet_hold c_sheet_value c_sheet_marks c_sheet_act c_sheet_rowOfKey c_otherSheet_tree_parts c_otherSheet_bond_terms c_otherSheet_penceByUps c_otherSheet_pence c_otherSheet_turned c_otherSheet_called c_otherSheet_hold c_otherSheet_value c_otherSheet_marks c_otherSheet_act c_otherSheet_rowOfKey c_draws_x c_text_coder c_text_maybeLatin1 c_text_count c_text_value))[i]?) = ((wX7 dA (fun i => ad (i + 6)) c_now_tree_parts)).map some := rfl
        refine gpv [6, 7] [0, 1, 2, 3, 4, 5, 8, 9, 10, 11, 12, 13, 14, 15, 16, 17, 18, 19, 20, 21, 22, 23, 24, 25, 26, 27, 28, 29, 30, 31, 32, 33, 34, 35, 36, 37, 38, 39, 40, 41, 42, 43, 44, 45, 46, 47, 48, 49, 50, 51] [0, 1, 2, 3, 4, 5, 50, 51, 6, 7, 8, 9, 10, 11, 12, 13, 14, 15, 16, 17, 18, 19, 20, 21, 22, 23, 24, 25, 26, 27, 28, 29, 30, 31, 32, 33, 34, 35, 36, 37, 38, 39, 40, 41, 42, 43, 44, 45, 46, 47, 48, 49] (wf := (wX8 dA ad c_keptCount c_tape_size c_tape_length c_tape_place c_tape_fault c_tape_faultPlace c_tape_begin c_tape_bytes c_tape_draft_terms c_now_row c_now_tree_parts_8 c_now_bonds0_terms c_now_bonds1_terms c_now_bonds2_terms c_now_hand_opened c_now_hand_over c_now_hand_row c_now_hand_paid c_now_hand_regret c_now_hand_tree_parts c_now_hand_bond_terms c_kept c_sheet_tree_parts c_sheet_bond_terms c_sheet_penceByUps c_sheet_pence c_sheet_turned c_sheet_called c_sheet_hold c_sheet_value c_sheet_marks c_sheet_act c_sheet_rowOfKey c_otherSheet_tree_parts c_otherSheet_bond_terms c_otherSheet_penceByUps c_otherSheet_pence c_otherSheet_turned c_otherSheet_called c_otherSheet_hold c_otherSheet_value c_otherSheet_marks c_otherSheet_act c_otherSheet_rowOfKey c_draws_x c_text_coder c_text_maybeLatin1 c_text_count c_text_value)) (va_runV (As := [.int 4, .int p2]) (rest := []) ⟨hx, hb, hml, hown, hts⟩ (tX7_set l dC dI dA (fun i => ad (i + 6)) H.size v9) (ccX8_X7_set hts ⟨Nat.le_of_ble_eq_true rfl, Nat.le_of_ble_eq_true rfl⟩) (gPreV (ci := 7) (q0 := 0) (gsub z10 hP) hK (gsubD z10 (by decide) hD) rfl rfl) rfl rfl hl.1 rfl (lv_room (Nat.le_of_ble_eq_true rfl)) dX8_move_39 ⟨Nat.le_of_ble_eq_true rfl, Nat.le_of_ble_eq_true rfl⟩) hP hD hS hA z10 rfl (by decide) (by decide) (by decide) rfl (fun H locs hP hD hS => ?_)
        refine lv_aload_n hx hb dX8_move_42 rfl (lv_at hl 0 rfl) ?_
        refine va_get (D := (dC, dI)) (ci := 8) (v := .ref (ad 5)) (C := RX8) (T := TX8) (N := 8) hx hb hts (fun w h => gw_mem (inX8 w h)) hown hK.1 hP 0 rfl rfl 1 (by decide) (hts _ (gw_mem wfX8_21)) (fun _ h9 => h9) rfl dX8_move_43 ?_
        refine va_getN (D := (dC, dI)) (ci := 4) (v := .ref (ad 6)) (C := RX4) (T := TX4) (N := 4) hx hb hts (fun w h => gw_mem (inX4 w h)) hown hK.1 hP 5 rfl rfl 0 (by decide) (va_Nw.use rfl (hK.2 _ wfX8_73 rfl)) (fun _ h9 => h9) rfl dX8_move_46 ?_
        refine lv_iload_n hx hb dX8_move_49 rfl (lv_at hl 1 rfl) ?_
        refine lv_if_eq (tgt := 57) hx hb dX8_move_50 (by decide) (fun k11 => ?_) (fun k11 => ?_)
        · replace hf := ifp k11 hf
          refine lv_iconst (v := 5) hx hb dX8_move_57 (by decide) ?_
          refine lv_iload_n hx hb dX8_move_58 rfl (lv_at hl 3 rfl) ?_
          obtain ⟨c_now_tree_parts_12, v13, hf⟩ := bd1_some hf
          have z14 : [6, 7].map (fun i => ((wX8 dA ad c_keptCount c_tape_size c_tape_length c_tape_place c_tape_fault c_tape_faultPlace c_tape_begin c_tape_bytes c_tape_draft_terms c_now_row c_now_tree_parts_8 c_now_bonds0_terms c_now_bonds1_terms c_now_bonds2_terms c_now_hand_opened c_now_hand_over c_now_hand_row c_now_hand_paid c_now_hand_regret c_now_hand_tree_parts c_now_hand_bond_terms c_kept c_sheet_tree_parts c_sheet_bond_terms c_sheet_penceByUps c_sheet_pence c_sheet_turned c_sheet_called c_sheet_hold c_sheet_value c_sheet_marks c_sheet_act c_sheet_rowOfKey c_otherSheet_tree_parts c_otherSheet_bond_terms c_otherSheet_penceByUps c_otherSheet_pence c_otherSheet_turned c_otherSheet_called c_otherSheet_hold c_otherSheet_value c_otherSheet_marks c_otherSheet_act c_otherSheet_rowOfKey c_draws_x c_text_coder c_text_maybeLatin1 c_text_count c_text_value))[i]?) = ((wX7 dA (fun i => ad (i + 6)) c_now_tree_parts_8)).map some := rfl
          refine gpv [6, 7] [0, 1, 2, 3, 4, 5, 8, 9, 10, 11, 12, 13, 14, 15, 16, 17, 18, 19, 20, 21, 22, 23, 24, 25, 26, 27, 28, 29, 30, 31, 32, 33, 34, 35, 36, 37, 38, 39, 40, 41, 42, 43, 44, 45, 46, 47, 48, 49, 50, 51] [0, 1, 2, 3, 4, 5, 50, 51, 6, 7, 8, 9, 10, 11, 12, 13, 14, 15, 16, 17, 18, 19, 20, 21, 22, 23, 24, 25, 26, 27, 28, 29, 30, 31, 32, 33, 34, 35, 36, 37, 38, 39, 40, 41, 42, 43, 44, 45, 46, 47, 48, 49] (wf := (wX8 dA ad c_keptCount c_tape_size c_tape_length c_tape_place c_tape_fault c_tape_faultPlace c_tape_begin c_tape_bytes c_tape_draft_terms c_now_row c_now_tree_parts_12 c_now_bonds0_terms c_now_bonds1_terms c_now_bonds2_terms c_now_hand_opened c_now_hand_over c_now_hand_row c_now_hand_paid c_now_hand_regret c_now_hand_tree_parts c_now_hand_bond_terms c_kept c_sheet_tree_parts c_sheet_bond_terms c_sheet_penceByUps c_sheet_pence c_sheet_turned c_sheet_called c_sheet_hold c_sheet_value c_sheet_marks c_sheet_act c_sheet_rowOfKey c_otherSheet_tree_parts c_otherSheet_bond_terms c_otherSheet_penceByUps c_otherSheet_pence c_otherSheet_turned c_otherSheet_called c_otherSheet_hold c_otherSheet_value c_otherSheet_marks c_otherSheet_act c_otherSheet_rowOfKey c_draws_x c_text_coder c_text_maybeLatin1 c_text_count c_text_value)) (va_runV (As := [.int 5, .int p3]) (rest := []) ⟨hx, hb, hml, hown, hts⟩ (tX7_set l dC dI dA (fun i => ad (i + 6)) H.size v13) (ccX8_X7_set hts ⟨Nat.le_of_ble_eq_true rfl, Nat.le_of_ble_eq_true rfl⟩) (gPreV (ci := 7) (q0 := 0) (gsub z14 hP) hK (gsubD z14 (by decide) hD) rfl rfl) rfl rfl hl.1 rfl (lv_room (Nat.le_of_ble_eq_true rfl)) dX8_move_59 ⟨Nat.le_of_ble_eq_true rfl, Nat.le_of_ble_eq_true rfl⟩) hP hD hS hA z14 rfl (by decide) (by decide) (by decide) rfl (fun H locs hP hD hS => ?_)
          refine lv_iconst (v := 1) hx hb dX8_move_62 (by decide) ?_
          cases hf
          exact W.zret (ty := .boolean) hx hb hr rfl (fun t ht _ => gqi hP hD hS ht) hS.2.2 dX8_move_63
        · replace hf := ifn k11 hf
          refine lv_iconst (v := 3) hx hb dX8_move_53 (by decide) ?_
          refine lv_goto (tgt := 58) hx hb dX8_move_54 (by decide) ?_
          refine lv_iload_n hx hb dX8_move_58 rfl (lv_at hl 3 rfl) ?_
          obtain ⟨c_now_tree_parts_15, v16, hf⟩ := bd1_some hf
          have z17 : [6, 7].map (fun i => ((wX8 dA ad c_keptCount c_tape_size c_tape_length c_tape_place c_tape_fault c_tape_faultPlace c_tape_begin c_tape_bytes c_tape_draft_terms c_now_row c_now_tree_parts_8 c_now_bonds0_terms c_now_bonds1_terms c_now_bonds2_terms c_now_hand_opened c_now_hand_over c_now_hand_row c_now_hand_paid c_now_hand_regret c_now_hand_tree_parts c_now_hand_bond_terms c_kept c_sheet_tree_parts c_sheet_bond_terms c_sheet_penceByUps c_sheet_pence c_sheet_turned c_sheet_called c_sheet_hold c_sheet_value c_sheet_marks c_sheet_act c_sheet_rowOfKey c_otherSheet_tree_parts c_otherSheet_bond_terms c_otherSheet_penceByUps c_otherSheet_pence c_otherSheet_turned c_otherSheet_called c_otherSheet_hold c_otherSheet_value c_otherSheet_marks c_otherSheet_act c_otherSheet_rowOfKey c_draws_x c_text_coder c_text_maybeLatin1 c_text_count c_text_value))[i]?) = ((wX7 dA (fun i => ad (i + 6)) c_now_tree_parts_8)).map some := rfl
          refine gpv [6, 7] [0, 1, 2, 3, 4, 5, 8, 9, 10, 11, 12, 13, 14, 15, 16, 17, 18, 19, 20, 21, 22, 23, 24, 25, 26, 27, 28, 29, 30, 31, 32, 33, 34, 35, 36, 37, 38, 39, 40, 41, 42, 43, 44, 45, 46, 47, 48, 49, 50, 51] [0, 1, 2, 3, 4, 5, 50, 51, 6, 7, 8, 9, 10, 11, 12, 13, 14, 15, 16, 17, 18, 19, 20, 21, 22, 23, 24, 25, 26, 27, 28, 29, 30, 31, 32, 33, 34, 35, 36, 37, 38, 39, 40, 41, 42, 43, 44, 45, 46, 47, 48, 49] (wf := (wX8 dA ad c_keptCount c_tape_size c_tape_length c_tape_place c_tape_fault c_tape_faultPlace c_tape_begin c_tape_bytes c_tape_draft_terms c_now_row c_now_tree_parts_15 c_now_bonds0_terms c_now_bonds1_terms c_now_bonds2_terms c_now_hand_opened c_now_hand_over c_now_hand_row c_now_hand_paid c_now_hand_regret c_now_hand_tree_parts c_now_hand_bond_terms c_kept c_sheet_tree_parts c_sheet_bond_terms c_sheet_penceByUps c_sheet_pence c_sheet_turned c_sheet_called c_sheet_hold c_sheet_value c_sheet_marks c_sheet_act c_sheet_rowOfKey c_otherSheet_tree_parts c_otherSheet_bond_terms c_otherSheet_penceByUps c_otherSheet_pence c_otherSheet_turned c_otherSheet_called c_otherSheet_hold c_otherSheet_value c_otherSheet_marks c_otherSheet_act c_otherSheet_rowOfKey c_draws_x c_text_coder c_text_maybeLatin1 c_text_count c_text_value)) (va_runV (As := [.int 3, .int p3]) (rest := []) ⟨hx, hb, hml, hown, hts⟩ (tX7_set l dC dI dA (fun i => ad (i + 6)) H.size v16) (ccX8_X7_set hts ⟨Nat.le_of_ble_eq_true rfl, Nat.le_of_ble_eq_true rfl⟩) (gPreV (ci := 7) (q0 := 0) (gsub z17 hP) hK (gsubD z17 (by decide) hD) rfl rfl) rfl rfl hl.1 rfl (lv_room (Nat.le_of_ble_eq_true rfl)) dX8_move_59 ⟨Nat.le_of_ble_eq_true rfl, Nat.le_of_ble_eq_true rfl⟩) hP hD hS hA z17 rfl (by decide) (by decide) (by decide) rfl (fun H locs hP hD hS => ?_)
          refine lv_iconst (v := 1) hx hb dX8_move_62 (by decide) ?_
          cases hf
          exact W.zret (ty := .boolean) hx hb hr rfl (fun t ht _ => gqi hP hD hS ht) hS.2.2 dX8_move_63
      · replace hf := ifn k7 hf
        refine lv_iconst (v := 2) hx hb dX8_move_33 (by decide) ?_
        refine lv_goto (tgt := 38) hx hb dX8_move_34 (by decide) ?_
        refine lv_iload_n hx hb dX8_move_38 rfl (lv_at hl 2 rfl) ?_
        obtain ⟨c_now_tree_parts_18, v19, hf⟩ := bd1_some hf
        have z20 : [6, 7].map (fun i => ((wX8 dA ad c_keptCount c_tape_size c_tape_length c_tape_place c_tape_fault c_tape_faultPlace c_tape_begin c_tape_bytes c_tape_draft_terms c_now_row c_now_tree_parts c_now_bonds0_terms c_now_bonds1_terms c_now_bonds2_terms c_now_hand_opened c_now_hand_over c_now_hand_row c_now_hand_paid c_now_hand_regret c_now_hand_tree_parts c_now_hand_bond_terms c_kept c_sheet_tree_parts c_sheet_bond_terms c_sheet_penceByUps c_sheet_pence c_sheet_turned c_sheet_called c_sheet_hold c_sheet_value c_sheet_marks c_sheet_act c_sheet_rowOfKey c_otherSheet_tree_parts c_otherSheet_bond_terms c_otherSheet_penceByUps c_otherSheet_pence c_otherSheet_turned c_otherSheet_called c_otherSheet_hold c_otherSheet_value c_otherSheet_marks c_otherSheet_act c_otherSheet_rowOfKey c_draws_x c_text_coder c_text_maybeLatin1 c_text_count c_text_value))[i]?) = ((wX7 dA (fun i => ad (i + 6)) c_now_tree_parts)).map some := rfl
        refine gpv [6, 7] [0, 1, 2, 3, 4, 5, 8, 9, 10, 11, 12, 13, 14, 15, 16, 17, 18, 19, 20, 21, 22, 23, 24, 25, 26, 27, 28, 29, 30, 31, 32, 33, 34, 35, 36, 37, 38, 39, 40, 41, 42, 43, 44, 45, 46, 47, 48, 49, 50, 51] [0, 1, 2, 3, 4, 5, 50, 51, 6, 7, 8, 9, 10, 11, 12, 13, 14, 15, 16, 17, 18, 19, 20, 21, 22, 23, 24, 25, 26, 27, 28, 29, 30, 31, 32, 33, 34, 35, 36, 37, 38, 39, 40, 41, 42, 43, 44, 45, 46, 47, 48, 49] (wf := (wX8 dA ad c_keptCount c_tape_size c_tape_length c_tape_place c_tape_fault c_tape_faultPlace c_tape_begin c_tape_bytes c_tape_draft_terms c_now_row c_now_tree_parts_18 c_now_bonds0_terms c_now_bonds1_terms c_now_bonds2_terms c_now_hand_opened c_now_hand_over c_now_hand_row c_now_hand_paid c_now_hand_regret c_now_hand_tree_parts c_now_hand_bond_terms c_kept c_sheet_tree_parts c_sheet_bond_terms c_sheet_penceByUps c_sheet_pence c_sheet_turned c_sheet_called c_sheet_hold c_sheet_value c_sheet_marks c_sheet_act c_sheet_rowOfKey c_otherSheet_tree_parts c_otherSheet_bond_terms c_otherSheet_penceByUps c_otherSheet_pence c_otherSheet_turned c_otherSheet_called c_otherSheet_hold c_otherSheet_value c_otherSheet_marks c_otherSheet_act c_otherSheet_rowOfKey c_draws_x c_text_coder c_text_maybeLatin1 c_text_count c_text_value)) (va_runV (As := [.int 2, .int p2]) (rest := []) ⟨hx, hb, hml, hown, hts⟩ (tX7_set l dC dI dA (fun i => ad (i + 6)) H.size v19) (ccX8_X7_set hts ⟨Nat.le_of_ble_eq_true rfl, Nat.le_of_ble_eq_true rfl⟩) (gPreV (ci := 7) (q0 := 0) (gsub z20 hP) hK (gsubD z20 (by decide) hD) rfl rfl) rfl rfl hl.1 rfl (lv_room (Nat.le_of_ble_eq_true rfl)) dX8_move_39 ⟨Nat.le_of_ble_eq_true rfl, Nat.le_of_ble_eq_true rfl⟩) hP hD hS hA z20 rfl (by decide) (by decide) (by decide) rfl (fun H locs hP hD hS => ?_)
        refine lv_aload_n hx hb dX8_move_42 rfl (lv_at hl 0 rfl) ?_
        refine va_get (D := (dC, dI)) (ci := 8) (v := .ref (ad 5)) (C := RX8) (T := TX8) (N := 8) hx hb hts (fun w h => gw_mem (inX8 w h)) hown hK.1 hP 0 rfl rfl 1 (by decide) (hts _ (gw_mem wfX8_21)) (fun _ h9 => h9) rfl dX8_move_43 ?_
        refine va_getN (D := (dC, dI)) (ci := 4) (v := .ref (ad 6)) (C := RX4) (T := TX4) (N := 4) hx hb hts (fun w h => gw_mem (inX4 w h)) hown hK.1 hP 5 rfl rfl 0 (by decide) (va_Nw.use rfl (hK.2 _ wfX8_73 rfl)) (fun _ h9 => h9) rfl dX8_move_46 ?_
        refine lv_iload_n hx hb dX8_move_49 rfl (lv_at hl 1 rfl) ?_
        refine lv_if_eq (tgt := 57) hx hb dX8_move_50 (by decide) (fun k21 => ?_) (fun k21 => ?_)
        · replace hf := ifp k21 hf
          refine lv_iconst (v := 5) hx hb dX8_move_57 (by decide) ?_
          refine lv_iload_n hx hb dX8_move_58 rfl (lv_at hl 3 rfl) ?_
          obtain ⟨c_now_tree_parts_22, v23, hf⟩ := bd1_some hf
          have z24 : [6, 7].map (fun i => ((wX8 dA ad c_keptCount c_tape_size c_tape_length c_tape_place c_tape_fault c_tape_faultPlace c_tape_begin c_tape_bytes c_tape_draft_terms c_now_row c_now_tree_parts_18 c_now_bonds0_terms c_now_bonds1_terms c_now_bonds2_terms c_now_hand_opened c_now_hand_over c_now_hand_row c_now_hand_paid c_now_hand_regret c_now_hand_tree_parts c_now_hand_bond_terms c_kept c_sheet_tree_parts c_sheet_bond_terms c_sheet_penceByUps c_sheet_pence c_sheet_turned c_sheet_called c_sheet_hold c_sheet_value c_sheet_marks c_sheet_act c_sheet_rowOfKey c_otherSheet_tree_parts c_otherSheet_bond_terms c_otherSheet_penceByUps c_otherSheet_pence c_otherSheet_turned c_otherSheet_called c_otherSheet_hold c_otherSheet_value c_otherSheet_marks c_otherSheet_act c_otherSheet_rowOfKey c_draws_x c_text_coder c_text_maybeLatin1 c_text_count c_text_value))[i]?) = ((wX7 dA (fun i => ad (i + 6)) c_now_tree_parts_18)).map some := rfl
          refine gpv [6, 7] [0, 1, 2, 3, 4, 5, 8, 9, 10, 11, 12, 13, 14, 15, 16, 17, 18, 19, 20, 21, 22, 23, 24, 25, 26, 27, 28, 29, 30, 31, 32, 33, 34, 35, 36, 37, 38, 39, 40, 41, 42, 43, 44, 45, 46, 47, 48, 49, 50, 51] [0, 1, 2, 3, 4, 5, 50, 51, 6, 7, 8, 9, 10, 11, 12, 13, 14, 15, 16, 17, 18, 19, 20, 21, 22, 23, 24, 25, 26, 27, 28, 29, 30, 31, 32, 33, 34, 35, 36, 37, 38, 39, 40, 41, 42, 43, 44, 45, 46, 47, 48, 49] (wf := (wX8 dA ad c_keptCount c_tape_size c_tape_length c_tape_place c_tape_fault c_tape_faultPlace c_tape_begin c_tape_bytes c_tape_draft_terms c_now_row c_now_tree_parts_22 c_now_bonds0_terms c_now_bonds1_terms c_now_bonds2_terms c_now_hand_opened c_now_hand_over c_now_hand_row c_now_hand_paid c_now_hand_regret c_now_hand_tree_parts c_now_hand_bond_terms c_kept c_sheet_tree_parts c_sheet_bond_terms c_sheet_penceByUps c_sheet_pence c_sheet_turned c_sheet_called c_sheet_hold c_sheet_value c_sheet_marks c_sheet_act c_sheet_rowOfKey c_otherSheet_tree_parts c_otherSheet_bond_terms c_otherSheet_penceByUps c_otherSheet_pence c_otherSheet_turned c_otherSheet_called c_otherSheet_hold c_otherSheet_value c_otherSheet_marks c_otherSheet_act c_otherSheet_rowOfKey c_draws_x c_text_coder c_text_maybeLatin1 c_text_count c_text_value)) (va_runV (As := [.int 5, .int p3]) (rest := []) ⟨hx, hb, hml, hown, hts⟩ (tX7_set l dC dI dA (fun i => ad (i + 6)) H.size v23) (ccX8_X7_set hts ⟨Nat.le_of_ble_eq_true rfl, Nat.le_of_ble_eq_true rfl⟩) (gPreV (ci := 7) (q0 := 0) (gsub z24 hP) hK (gsubD z24 (by decide) hD) rfl rfl) rfl rfl hl.1 rfl (lv_room (Nat.le_of_ble_eq_true rfl)) dX8_move_59 ⟨Nat.le_of_ble_eq_true rfl, Nat.le_of_ble_eq_true rfl⟩) hP hD hS hA z24 rfl (by decide) (by decide) (by decide) rfl (fun H locs hP hD hS => ?_)
          refine lv_iconst (v := 1) hx hb dX8_move_62 (by decide) ?_
          cases hf
          exact W.zret (ty := .boolean) hx hb hr rfl (fun t ht _ => gqi hP hD hS ht) hS.2.2 dX8_move_63
        · replace hf := ifn k21 hf
          refine lv_iconst (v := 3) hx hb dX8_move_53 (by decide) ?_
          refine lv_goto (tgt := 58) hx hb dX8_move_54 (by decide) ?_
          refine lv_iload_n hx hb dX8_move_58 rfl (lv_at hl 3 rfl) ?_
          obtain ⟨c_now_tree_parts_25, v26, hf⟩ := bd1_some hf
          have z27 : [6, 7].map (fun i => ((wX8 dA ad c_keptCount c_tape_size c_tape_length c_tape_place c_tape_fault c_tape_faultPlace c_tape_begin c_tape_bytes c_tape_draft_terms c_now_row c_now_tree_parts_18 c_now_bonds0_terms c_now_bonds1_terms c_now_bonds2_terms c_now_hand_opened c_now_hand_over c_now_hand_row c_now_hand_paid c_now_hand_regret c_now_hand_tree_parts c_now_hand_bond_terms c_kept c_sheet_tree_parts c_sheet_bond_terms c_sheet_penceByUps c_sheet_pence c_sheet_turned c_sheet_called c_sheet_hold c_sheet_value c_sheet_marks c_sheet_act c_sheet_rowOfKey c_otherSheet_tree_parts c_otherSheet_bond_terms c_otherSheet_penceByUps c_otherSheet_pence c_otherSheet_turned c_otherSheet_called c_otherSheet_hold c_otherSheet_value c_otherSheet_marks c_otherSheet_act c_otherSheet_rowOfKey c_draws_x c_text_coder c_text_maybeLatin1 c_text_count c_text_value))[i]?) = ((wX7 dA (fun i => ad (i + 6)) c_now_tree_parts_18)).map some := rfl
          refine gpv [6, 7] [0, 1, 2, 3, 4, 5, 8, 9, 10, 11, 12, 13, 14, 15, 16, 17, 18, 19, 20, 21, 22, 23, 24, 25, 26, 27, 28, 29, 30, 31, 32, 33, 34, 35, 36, 37, 38, 39, 40, 41, 42, 43, 44, 45, 46, 47, 48, 49, 50, 51] [0, 1, 2, 3, 4, 5, 50, 51, 6, 7, 8, 9, 10, 11, 12, 13, 14, 15, 16, 17, 18, 19, 20, 21, 22, 23, 24, 25, 26, 27, 28, 29, 30, 31, 32, 33, 34, 35, 36, 37, 38, 39, 40, 41, 42, 43, 44, 45, 46, 47, 48, 49] (wf := (wX8 dA ad c_keptCount c_tape_size c_tape_length c_tape_place c_tape_fault c_tape_faultPlace c_tape_begin c_tape_bytes c_tape_draft_terms c_now_row c_now_tree_parts_25 c_now_bonds0_terms c_now_bonds1_terms c_now_bonds2_terms c_now_hand_opened c_now_hand_over c_now_hand_row c_now_hand_paid c_now_hand_regret c_now_hand_tree_parts c_now_hand_bond_terms c_kept c_sheet_tree_parts c_sheet_bond_terms c_sheet_penceByUps c_sheet_pence c_sheet_turned c_sheet_called c_sheet_hold c_sheet_value c_sheet_marks c_sheet_act c_sheet_rowOfKey c_otherSheet_tree_parts c_otherSheet_bond_terms c_otherSheet_penceByUps c_otherSheet_pence c_otherSheet_turned c_otherSheet_called c_otherSheet_hold c_otherSheet_value c_otherSheet_marks c_otherSheet_act c_otherSheet_rowOfKey c_draws_x c_text_coder c_text_maybeLatin1 c_text_count c_text_value)) (va_runV (As := [.int 3, .int p3]) (rest := []) ⟨hx, hb, hml, hown, hts⟩ (tX7_set l dC dI dA (fun i => ad (i + 6)) H.size v26) (ccX8_X7_set hts ⟨Nat.le_of_ble_eq_true rfl, Nat.le_of_ble_eq_true rfl⟩) (gPreV (ci := 7) (q0 := 0) (gsub z27 hP) hK (gsubD z27 (by decide) hD) rfl rfl) rfl rfl hl.1 rfl (lv_room (Nat.le_of_ble_eq_true rfl)) dX8_move_59 ⟨Nat.le_of_ble_eq_true rfl, Nat.le_of_ble_eq_true rfl⟩) hP hD hS hA z27 rfl (by decide) (by decide) (by decide) rfl (fun H locs hP hD hS => ?_)
          refine lv_iconst (v := 1) hx hb dX8_move_62 (by decide) ?_
          cases hf
          exact W.zret (ty := .boolean) hx hb hr rfl (fun t ht _ => gqi hP hD hS ht) hS.2.2 dX8_move_63
    · replace hf := ifp k6 hf
      refine lv_iconst (v := 0) hx hb dX8_move_20 (by decide) ?_
      cases hf
      exact W.zret (ty := .boolean) hx hb hr rfl (fun t ht _ => gqi hP hD hS ht) hS.2.2 dX8_move_21
def fX8_isChance (p0 : Int32) (p1 : Int32) : Option (Int32) := bd1 (fX8_within p1 2 20) (fun r1 => if r1 = 0 then some (0) else bd1 (fX8_within p0 1 (p1 - 1)) (fun r4 => if r4 = 0 then some (0) else some (1)))
abbrev rmX8_isChance : Room := { frames := 1, cells := 0, slots := 0, locals := 22 }
set_option maxHeartbeats 4000000 in
set_option maxRecDepth 100000 in
theorem tX8_isChance (l : Launch) (dC : Nat → ClassId) (dI : Nat → Nat → Nat) (dA : Nat → ClassId) (sz : Nat) {p0 : Int32} {p1 : Int32} {r : Int32} (hf : fX8_isChance p0 p1 = some (r)) : Met l yX8_isChance (wq (Cond.code yX8_isChance cX8_isChance 2 (some .boolean))) rmX8_isChance (gP [.int p0, .int p1] (dC, dI) dA [] sz) (gQi (dC, dI) r [] (va_A [] sz)) 0 0 (va_A [] sz) := by
  refine Met.ofW (cc := cX8_isChance) (maxL := 2) (ret := (some .boolean)) (by decide) rfl ?_
  intro p e s m args below meth c s₁ B hml hv
  obtain ⟨rfl, hsz, hP, hK, hD0⟩ := hv
  have hx := B.exec
  have hb := B.bytes
  have hr := B.returns
  have hts := atoms_spec (ws := wq (Cond.code yX8_isChance cX8_isChance 2 (some .boolean))) B.pre
  have hown : s.vm.findClass RX8 = some m.cls := findClass_of_methodNamed B.named
  have hlocks := B.notSynchronized
  clear B
  subst hsz
  have hD := hD0.self (sz := s.heap.size)
  generalize hAe : va_A [] s.heap.size = A at hD ⊢
  have hA : ∀ q : Nat, s.heap.size ≤ q → A q := fun q h => by rw [← hAe]; exact Or.inr h
  clear hAe hD0
  have hS : va_S A s.heap s.heap [] := va_S.rf
  have hl := lv_entry ([.int p0, .int p1]) (n := 2) (Nat.le_of_ble_eq_true rfl)
  rw [lg_entry_eq]
  generalize (lg_sl ([.int p0, .int p1]) ++ List.replicate (2 - (lg_sl ([.int p0, .int p1])).length) Slot.unset).toArray = ls at hl ⊢
  have hl : lv_has ls 2 [(0, .int p0), (1, .int p1)] := hl
  change W p l e rmX8_isChance s m ([.int p0, .int p1] : List Value).toArray below meth c s.heap [] 0 0 _ _
  unfold fX8_isChance at hf
  refine lv_iload_n hx hb dX8_isChance_0 rfl (lv_at hl 1 rfl) ?_
  refine lv_iconst (v := 2) hx hb dX8_isChance_1 (by decide) ?_
  refine lv_bipush (v := 20) hx hb dX8_isChance_2 (by decide) ?_
  obtain ⟨r1, v2, hf⟩ := bd1_some hf
  refine gci0 (va_runS (As := [.int p1, .int 2, .int 20]) (rest := []) ⟨hx, hb, hml, hown, hts⟩ (tX8_within l dC dI dA s.heap.size v2) (ccX8_X8_within hts ⟨Nat.le_of_ble_eq_true rfl, Nat.le_of_ble_eq_true rfl⟩) (gPreS0 hK) rfl rfl hl.1 rfl (lv_room (Nat.le_of_ble_eq_true rfl)) dX8_isChance_4 ⟨Nat.le_of_ble_eq_true rfl, Nat.le_of_ble_eq_true rfl⟩) hP hS hA (fun H locs hP hS => ?_)
  refine lv_if_eq (tgt := 25) hx hb dX8_isChance_7 (by decide) (fun k3 => ?_) (fun k3 => ?_)
  · replace hf := ifp k3 hf
    refine lv_iconst (v := 0) hx hb dX8_isChance_25 (by decide) ?_
    cases hf
    exact W.zret (ty := .boolean) hx hb hr rfl (fun t ht _ => gqi hP hD hS ht) hS.2.2 dX8_isChance_26
  · replace hf := ifn k3 hf
    refine lv_iload_n hx hb dX8_isChance_10 rfl (lv_at hl 0 rfl) ?_
    refine lv_iconst (v := 1) hx hb dX8_isChance_11 (by decide) ?_
    refine lv_iload_n hx hb dX8_isChance_12 rfl (lv_at hl 1 rfl) ?_
    refine lv_iconst (v := 1) hx hb dX8_isChance_13 (by decide) ?_
    refine lv_isub hx hb dX8_isChance_14 ?_
    obtain ⟨r4, v5, hf⟩ := bd1_some hf
    refine gci0 (va_runS (As := [.int p0, .int 1, .int (p1 - 1)]) (rest := []) ⟨hx, hb, hml, hown, hts⟩ (tX8_within l dC dI dA H.size v5) (ccX8_X8_within hts ⟨Nat.le_of_ble_eq_true rfl, Nat.le_of_ble_eq_true rfl⟩) (gPreS0 hK) rfl rfl hl.1 rfl (lv_room (Nat.le_of_ble_eq_true rfl)) dX8_isChance_15 ⟨Nat.le_of_ble_eq_true rfl, Nat.le_of_ble_eq_true rfl⟩) hP hS hA (fun H locs hP hS => ?_)
    refine lv_if_eq (tgt := 25) hx hb dX8_isChance_18 (by decide) (fun k6 => ?_) (fun k6 => ?_)
    · replace hf := ifp k6 hf
      refine lv_iconst (v := 0) hx hb dX8_isChance_25 (by decide) ?_
      cases hf
      exact W.zret (ty := .boolean) hx hb hr rfl (fun t ht _ => gqi hP hD hS ht) hS.2.2 dX8_isChance_26
    · replace hf := ifn k6 hf
      refine lv_iconst (v := 1) hx hb dX8_isChance_21 (by decide) ?_
      refine lv_goto (tgt := 26) hx hb dX8_isChance_22 (by decide) ?_
      cases hf
      exact W.zret (ty := .boolean) hx hb hr rfl (fun t ht _ => gqi hP hD hS ht) hS.2.2 dX8_isChance_26
theorem ccX8_X8_isChance {R : Room} {s : State} {args : Array Value} {c0 : Cond} (ht : ∀ w ∈ wq c0, w.before args s = true) (hR : rmX8_isChance.frames + 1 ≤ R.frames ∧ 8 + (2 + 11) + rmX8_isChance.locals ≤ R.locals) : CallB R s args RX8 86 yX8_isChance cX8_isChance 2 (some .boolean) (wq (.code yX8_isChance cX8_isChance 2 (some .boolean))) rmX8_isChance 0 0 2 ∧ (Cond.static yX8_isChance).before args s = true := gCS 2 ht wcX8_isChance wmX8_86 wtX8_isChance wnX8 (by decide +kernel) rfl rfl hR
def fX8_chance (p1 : Int32) (p2 : Int32) (c_now_tree_parts : Nat → Int32) : Option (Int32 × (Nat → Int32)) := bd1 (fX8_isChance p1 p2) (fun r1 => if r1 = 0 then some (0, c_now_tree_parts) else bd1 (fX7_set 6 p1 c_now_tree_parts) (fun c_now_tree_parts_4 => bd1 (fX7_set 7 p2 c_now_tree_parts_4) (fun c_now_tree_parts_7 => some (1, c_now_tree_parts_7))))
abbrev rmX8_chance : Room := { frames := 2, cells := 0, slots := 0, locals := 44 }
set_option maxHeartbeats 4000000 in
set_option maxRecDepth 100000 in
theorem tX8_chance (l : Launch) (dC : Nat → ClassId) (dI : Nat → Nat → Nat) (dA : Nat → ClassId) (ad : Nat → Nat) (sz : Nat) {p1 : Int32} {p2 : Int32} {c_keptCount : Int32} {c_tape_size : Int32} {c_tape_length : Int32} {c_tape_place : Int32} {c_tape_fault : Int32} {c_tape_faultPlace : Int32} {c_tape_begin : Int32} {c_tape_bytes : Nat → Int32} {c_tape_draft_terms : Nat → Int32} {c_now_row : Int32} {c_now_tree_parts : Nat → Int32} {c_now_bonds0_terms : Nat → Int32} {c_now_bonds1_terms : Nat → Int32} {c_now_bonds2_terms : Nat → Int32} {c_now_hand_opened : Int32} {c_now_hand_over : Int32} {c_now_hand_row : Int32} {c_now_hand_paid : Int64} {c_now_hand_regret : Int64} {c_now_hand_tree_parts : Nat → Int32} {c_now_hand_bond_terms : Nat → Int32} {c_kept : Nat → Option Nat} {c_sheet_tree_parts : Nat → Int32} {c_sheet_bond_terms : Nat → Int32} {c_sheet_penceByUps : Nat → Int64} {c_sheet_pence : Nat → Int64} {c_sheet_turned : Nat → Int64} {c_sheet_called : Nat → Int64} {c_sheet_hold : Nat → Int64} {c_sheet_value : Nat → Int64} {c_sheet_marks : Nat → Int32} {c_sheet_act : Nat → Int32} {c_sheet_rowOfKey : Nat → Int32} {c_otherSheet_tree_parts : Nat → Int32} {c_otherSheet_bond_terms : Nat → Int32} {c_otherSheet_penceByUps : Nat → Int64} {c_otherSheet_pence : Nat → Int64} {c_otherSheet_turned : Nat → Int64} {c_otherSheet_called : Nat → Int64} {c_otherSheet_hold : Nat → Int64} {c_otherSheet_value : Nat → Int64} {c_otherSheet_marks : Nat → Int32} {c_otherSheet_act : Nat → Int32} {c_otherSheet_rowOfKey : Nat → Int32} {c_draws_x : Int32} {c_text_coder : Int32} {c_text_maybeLatin1 : Int32} {c_text_count : Int32} {c_text_value : Nat → Int32} {r : Int32} {o_c_now_tree_parts : Nat → Int32} (hf : fX8_chance p1 p2 c_now_tree_parts = some (r, o_c_now_tree_parts)) : Met l yX8_chance (wq (Cond.code yX8_chance cX8_chance 3 (some .boolean))) rmX8_chance (gP [.ref (ad 0), .int p1, .int p2] (dC, dI) dA (wX8 dA ad c_keptCount c_tape_size c_tape_length c_tape_place c_tape_fault c_tape_faultPlace c_tape_begin c_tape_bytes c_tape_draft_terms c_now_row c_now_tree_parts c_now_bonds0_terms c_now_bonds1_terms c_now_bonds2_terms c_now_hand_opened c_now_hand_over c_now_hand_row c_now_hand_paid c_now_hand_regret c_now_hand_tree_parts c_now_hand_bond_terms c_kept c_sheet_tree_parts c_sheet_bond_terms c_sheet_penceByUps c_sheet_pence c_sheet_turned c_sheet_called c_sheet_hold c_sheet_value c_sheet_marks c_sheet_act c_sheet_rowOfKey c_otherSheet_tree_parts c_otherSheet_bond_terms c_otherSheet_penceByUps c_otherSheet_pence c_otherSheet_turned c_otherSheet_called c_otherSheet_hold c_otherSheet_value c_otherSheet_marks c_otherSheet_act c_otherSheet_rowOfKey c_draws_x c_text_coder c_text_maybeLatin1 c_text_count c_text_value) sz) (gQi (dC, dI) r (wX8 dA ad c_keptCount c_tape_size c_tape_length c_tape_place c_tape_fault c_tape_faultPlace c_tape_begin c_tape_bytes c_tape_draft_terms c_now_row o_c_now_tree_parts c_now_bonds0_terms c_now_bonds1_terms c_now_bonds2_terms c_now_hand_opened c_now_hand_over c_now_hand_row c_now_hand_paid c_now_hand_regret c_now_hand_tree_parts c_now_hand_bond_terms c_kept c_sheet_tree_parts c_sheet_bond_terms c_sheet_penceByUps c_sheet_pence c_sheet_turned c_sheet_called c_sheet_hold c_sheet_value c_sheet_marks c_sheet_act c_sheet_rowOfKey c_otherSheet_tree_parts c_otherSheet_bond_terms c_otherSheet_penceByUps c_otherSheet_pence c_otherSheet_turned c_otherSheet_called c_otherSheet_hold c_otherSheet_value c_otherSheet_marks c_otherSheet_act c_otherSheet_rowOfKey c_draws_x c_text_coder c_text_maybeLatin1 c_text_count c_text_value) (va_A (wX8 dA ad c_keptCount c_tape_size c_tape_length c_tape_place c_tape_fault c_tape_faultPlace c_tape_begin c_tape_bytes c_tape_draft_terms c_now_row c_now_tree_parts c_now_bonds0_terms c_now_bonds1_terms c_now_bonds2_terms c_now_hand_opened c_now_hand_over c_now_hand_row c_now_hand_paid c_now_hand_regret c_now_hand_tree_parts c_now_hand_bond_terms c_kept c_sheet_tree_parts c_sheet_bond_terms c_sheet_penceByUps c_sheet_pence c_sheet_turned c_sheet_called c_sheet_hold c_sheet_value c_sheet_marks c_sheet_act c_sheet_rowOfKey c_otherSheet_tree_parts c_otherSheet_bond_terms c_otherSheet_penceByUps c_otherSheet_pence c_otherSheet_turned c_otherSheet_called c_otherSheet_hold c_otherSheet_value c_otherSheet_marks c_otherSheet_act c_otherSheet_rowOfKey c_draws_x c_text_coder c_text_maybeLatin1 c_text_count c_text_value) sz)) 0 0 (va_A (wX8 dA ad c_keptCount c_tape_size c_tape_length c_tape_place c_tape_fault c_tape_faultPlace c_tape_begin c_tape_bytes c_tape_draft_terms c_now_row c_now_tree_parts c_now_bonds0_terms c_now_bonds1_terms c_now_bonds2_terms c_now_hand_opened c_now_hand_over c_now_hand_row c_now_hand_paid c_now_hand_regret c_now_hand_tree_parts c_now_hand_bond_terms c_kept c_sheet_tree_parts c_sheet_bond_terms c_sheet_penceByUps c_sheet_pence c_sheet_turned c_sheet_called c_sheet_hold c_sheet_value c_sheet_marks c_sheet_act c_sheet_rowOfKey c_otherSheet_tree_parts c_otherSheet_bond_terms c_otherSheet_penceByUps c_otherSheet_pence c_otherSheet_turned c_otherSheet_called c_otherSheet_hold c_otherSheet_value c_otherSheet_marks c_otherSheet_act c_otherSheet_rowOfKey c_draws_x c_text_coder c_text_maybeLatin1 c_text_count c_text_value) sz) := by
  refine Met.ofW (cc := cX8_chance) (maxL := 3) (ret := (some .boolean)) (by decide) rfl ?_
  intro p e s m args below meth c s₁ B hml hv
  obtain ⟨rfl, hsz, hP, hK, hD0⟩ := hv
  have hx := B.exec
  have hb := B.bytes
  have hr := B.returns
  have hts := atoms_spec (ws := wq (Cond.code yX8_chance cX8_chance 3 (some .boolean))) B.pre
  have hown : s.vm.findClass RX8 = some m.cls := findClass_of_methodNamed B.named
  have hlocks := B.notSynchronized
  clear B
  subst hsz
  have hD := hD0.self (sz := s.heap.size)
  generalize hAe : va_A (wX8 dA ad c_keptCount c_tape_size c_tape_length c_tape_place c_tape_fault c_tape_faultPlace c_tape_begin c_tape_bytes c_tape_draft_terms c_now_row c_now_tree_parts c_now_bonds0_terms c_now_bonds1_terms c_now_bonds2_terms c_now_hand_opened c_now_hand_over c_now_hand_row c_now_hand_paid c_now_hand_regret c_now_hand_tree_parts c_now_hand_bond_terms c_kept c_sheet_tree_parts c_sheet_bond_terms c_sheet_penceByUps c_sheet_pence c_sheet_turned c_sheet_called c_sheet_hold c_sheet_value c_sheet_marks c_sheet_act c_sheet_rowOfKey c_otherSheet_tree_parts c_otherSheet_bond_terms c_otherSheet_penceByUps c_otherSheet_pence c_otherSheet_turned c_otherSheet_called c_otherSheet_hold c_otherSheet_value c_otherSheet_marks c_otherSheet_act c_otherSheet_rowOfKey c_draws_x c_text_coder c_text_maybeLatin1 c_text_count c_text_value) s.heap.size = A at hD ⊢
  have hA : ∀ q : Nat, s.heap.size ≤ q → A q := fun q h => by rw [← hAe]; exact Or.inr h
  clear hAe hD0
  have hS : va_S A s.heap s.heap [] := va_S.rf
  have hl := lv_entry ([.ref (ad 0), .int p1, .int p2]) (n := 3) (Nat.le_of_ble_eq_true rfl)
  rw [lg_entry_eq]
  generalize (lg_sl ([.ref (ad 0), .int p1, .int p2]) ++ List.replicate (3 - (lg_sl ([.ref (ad 0), .int p1, .int p2])).length) Slot.unset).toArray = ls at hl ⊢
  have hl : lv_has ls 3 [(0, .ref (ad 0)), (1, .int p1), (2, .int p2)] := hl
  change W p l e rmX8_chance s m ([.ref (ad 0), .int p1, .int p2] : List Value).toArray below meth c s.heap [] 0 0 _ _
  unfold fX8_chance at hf
  refine lv_iload_n hx hb dX8_chance_0 rfl (lv_at hl 1 rfl) ?_
  refine lv_iload_n hx hb dX8_chance_1 rfl (lv_at hl 2 rfl) ?_
  obtain ⟨r1, v2, hf⟩ := bd1_some hf
  refine gci0 (va_runS (As := [.int p1, .int p2]) (rest := []) ⟨hx, hb, hml, hown, hts⟩ (tX8_isChance l dC dI dA s.heap.size v2) (ccX8_X8_isChance hts ⟨Nat.le_of_ble_eq_true rfl, Nat.le_of_ble_eq_true rfl⟩) (gPreS0 hK) rfl rfl hl.1 rfl (lv_room (Nat.le_of_ble_eq_true rfl)) dX8_chance_2 ⟨Nat.le_of_ble_eq_true rfl, Nat.le_of_ble_eq_true rfl⟩) hP hS hA (fun H locs hP hS => ?_)
  refine lv_if_ne (tgt := 10) hx hb dX8_chance_5 (by decide) (fun k3 => ?_) (fun k3 => ?_)
  · replace hf := ifn k3 hf
    refine lv_aload_n hx hb dX8_chance_10 rfl (lv_at hl 0 rfl) ?_
    refine va_get (D := (dC, dI)) (ci := 8) (v := .ref (ad 5)) (C := RX8) (T := TX8) (N := 8) hx hb hts (fun w h => gw_mem (inX8 w h)) hown hK.1 hP 0 rfl rfl 1 (by decide) (hts _ (gw_mem wfX8_21)) (fun _ h9 => h9) rfl dX8_chance_11 ?_
    refine va_getN (D := (dC, dI)) (ci := 4) (v := .ref (ad 6)) (C := RX4) (T := TX4) (N := 4) hx hb hts (fun w h => gw_mem (inX4 w h)) hown hK.1 hP 5 rfl rfl 0 (by decide) (va_Nw.use rfl (hK.2 _ wfX8_73 rfl)) (fun _ h9 => h9) rfl dX8_chance_14 ?_
    refine lv_bipush (v := 6) hx hb dX8_chance_17 (by decide) ?_
    refine lv_iload_n hx hb dX8_chance_19 rfl (lv_at hl 1 rfl) ?_
    obtain ⟨c_now_tree_parts_4, v5, hf⟩ := bd1_some hf
    have z6 : [6, 7].map (fun i => ((wX8 dA ad c_keptCount c_tape_size c_tape_length c_tape_place c_tape_fault c_tape_faultPlace c_tape_begin c_tape_bytes c_tape_draft_terms c_now_row c_now_tree_parts c_now_bonds0_terms c_now_bonds1_terms c_now_bonds2_terms c_now_hand_opened c_now_hand_over c_now_hand_row c_now_hand_paid c_now_hand_regret c_now_hand_tree_parts c_now_hand_bond_terms c_kept c_sheet_tree_parts c_sheet_bond_terms c_sheet_penceByUps c_sheet_pence c_sheet_turned c_sheet_called c_sheet_hold c_sheet_value c_sheet_marks c_sheet_act c_sheet_rowOfKey c_otherSheet_tree_parts c_otherSheet_bond_terms c_otherSheet_penceByUps c_otherSheet_pence c_otherSheet_turned c_otherSheet_called c_otherSheet_hold c_otherSheet_value c_otherSheet_marks c_otherSheet_act c_otherSheet_rowOfKey c_draws_x c_text_coder c_text_maybeLatin1 c_text_count c_text_value))[i]?) = ((wX7 dA (fun i => ad (i + 6)) c_now_tree_parts)).map some := rfl
    refine gpv [6, 7] [0, 1, 2, 3, 4, 5, 8, 9, 10, 11, 12, 13, 14, 15, 16, 17, 18, 19, 20, 21, 22, 23, 24, 25, 26, 27, 28, 29, 30, 31, 32, 33, 34, 35, 36, 37, 38, 39, 40, 41, 42, 43, 44, 45, 46, 47, 48, 49, 50, 51] [0, 1, 2, 3, 4, 5, 50, 51, 6, 7, 8, 9, 10, 11, 12, 13, 14, 15, 16, 17, 18, 19, 20, 21, 22, 23, 24, 25, 26, 27, 28, 29, 30, 31, 32, 33, 34, 35, 36, 37, 38, 39, 40, 41, 42, 43, 44, 45, 46, 47, 48, 49] (wf := (wX8 dA ad c_keptCount c_tape_size c_tape_length c_tape_place c_tape_fault c_tape_faultPlace c_tape_begin c_tape_bytes c_tape_draft_terms c_now_row c_now_tree_parts_4 c_now_bonds0_terms c_now_bonds1_terms c_now_bonds2_terms c_now_hand_opened c_now_hand_over c_now_hand_row c_now_hand_paid c_now_hand_regret c_now_hand_tree_parts c_now_hand_bond_terms c_kept c_sheet_tree_parts c_sheet_bond_terms c_sheet_penceByUps c_sheet_pence c_sheet_turned c_sheet_called c_sheet_hold c_sheet_value c_sheet_marks c_sheet_act c_sheet_rowOfKey c_otherSheet_tree_parts c_otherSheet_bond_terms c_otherSheet_penceByUps c_otherSheet_pence c_otherSheet_turned c_otherSheet_called c_otherSheet_hold c_otherSheet_value c_otherSheet_marks c_otherSheet_act c_otherSheet_rowOfKey c_draws_x c_text_coder c_text_maybeLatin1 c_text_count c_text_value)) (va_runV (As := [.int 6, .int p1]) (rest := []) ⟨hx, hb, hml, hown, hts⟩ (tX7_set l dC dI dA (fun i => ad (i + 6)) H.size v5) (ccX8_X7_set hts ⟨Nat.le_of_ble_eq_true rfl, Nat.le_of_ble_eq_true rfl⟩) (gPreV (ci := 7) (q0 := 0) (gsub z6 hP) hK (gsubD z6 (by decide) hD) rfl rfl) rfl rfl hl.1 rfl (lv_room (Nat.le_of_ble_eq_true rfl)) dX8_chance_20 ⟨Nat.le_of_ble_eq_true rfl, Nat.le_of_ble_eq_true rfl⟩) hP hD hS hA z6 rfl (by decide) (by decide) (by decide) rfl (fun H locs hP hD hS => ?_)
    refine lv_aload_n hx hb dX8_chance_23 rfl (lv_at hl 0 rfl) ?_
    refine va_get (D := (dC, dI)) (ci := 8) (v := .ref (ad 5)) (C := RX8) (T := TX8) (N := 8) hx hb hts (fun w h => gw_mem (inX8 w h)) hown hK.1 hP 0 rfl rfl 1 (by decide) (hts _ (gw_mem wfX8_21)) (fun _ h9 => h9) rfl dX8_chance_24 ?_
    refine va_getN (D := (dC, dI)) (ci := 4) (v := .ref (ad 6)) (C := RX4) (T := TX4) (N := 4) hx hb hts (fun w h => gw_mem (inX4 w h)) hown hK.1 hP 5 rfl rfl 0 (by decide) (va_Nw.use rfl (hK.2 _ wfX8_73 rfl)) (fun _ h9 => h9) rfl dX8_chance_27 ?_
    refine lv_bipush (v := 7) hx hb dX8_chance_30 (by decide) ?_
    refine lv_iload_n hx hb dX8_chance_32 rfl (lv_at hl 2 rfl) ?_
    obtain ⟨c_now_tree_parts_7, v8, hf⟩ := bd1_some hf
    have z9 : [6, 7].map (fun i => ((wX8 dA ad c_keptCount c_tape_size c_tape_length c_tape_place c_tape_fault c_tape_faultPlace c_tape_begin c_tape_bytes c_tape_draft_terms c_now_row c_now_tree_parts_4 c_now_bonds0_terms c_now_bonds1_terms c_now_bonds2_terms c_now_hand_opened c_now_hand_over c_now_hand_row c_now_hand_paid c_now_hand_regret c_now_hand_tree_parts c_now_hand_bond_terms c_kept c_sheet_tree_parts c_sheet_bond_terms c_sheet_penceByUps c_sheet_pence c_sheet_turned c_sheet_called c_sheet_hold c_sheet_value c_sheet_marks c_sheet_act c_sheet_rowOfKey c_otherSheet_tree_parts c_otherSheet_bond_terms c_otherSheet_penceByUps c_otherSheet_pence c_otherSheet_turned c_otherSheet_called c_otherSheet_hold c_otherSheet_value c_otherSheet_marks c_otherSheet_act c_otherSheet_rowOfKey c_draws_x c_text_coder c_text_maybeLatin1 c_text_count c_text_value))[i]?) = ((wX7 dA (fun i => ad (i + 6)) c_now_tree_parts_4)).map some := rfl
    refine gpv [6, 7] [0, 1, 2, 3, 4, 5, 8, 9, 10, 11, 12, 13, 14, 15, 16, 17, 18, 19, 20, 21, 22, 23, 24, 25, 26, 27, 28, 29, 30, 31, 32, 33, 34, 35, 36, 37, 38, 39, 40, 41, 42, 43, 44, 45, 46, 47, 48, 49, 50, 51] [0, 1, 2, 3, 4, 5, 50, 51, 6, 7, 8, 9, 10, 11, 12, 13, 14, 15, 16, 17, 18, 19, 20, 21, 22, 23, 24, 25, 26, 27, 28, 29, 30, 31, 32, 33, 34, 35, 36, 37, 38, 39, 40, 41, 42, 43, 44, 45, 46, 47, 48, 49] (wf := (wX8 dA ad c_keptCount c_tape_size c_tape_length c_tape_place c_tape_fault c_tape_faultPlace c_tape_begin c_tape_bytes c_tape_draft_terms c_now_row c_now_tree_parts_7 c_now_bonds0_terms c_now_bonds1_terms c_now_bonds2_terms c_now_hand_opened c_now_hand_over c_now_hand_row c_now_hand_paid c_now_hand_regret c_now_hand_tree_parts c_now_hand_bond_terms c_kept c_sheet_tree_parts c_sheet_bond_terms c_sheet_penceByUps c_sheet_pence c_sheet_turned c_sheet_called c_sheet_hold c_sheet_value c_sheet_marks c_sheet_act c_sheet_rowOfKey c_otherSheet_tree_parts c_otherSheet_bond_terms c_otherSheet_penceByUps c_otherSheet_pence c_otherSheet_turned c_otherSheet_called c_otherSheet_hold c_otherSheet_value c_otherSheet_marks c_otherSheet_act c_otherSheet_rowOfKey c_draws_x c_text_coder c_text_maybeLatin1 c_text_count c_text_value)) (va_runV (As := [.int 7, .int p2]) (rest := []) ⟨hx, hb, hml, hown, hts⟩ (tX7_set l dC dI dA (fun i => ad (i + 6)) H.size v8) (ccX8_X7_set hts ⟨Nat.le_of_ble_eq_true rfl, Nat.le_of_ble_eq_true rfl⟩) (gPreV (ci := 7) (q0 := 0) (gsub z9 hP) hK (gsubD z9 (by decide) hD) rfl rfl) rfl rfl hl.1 rfl (lv_room (Nat.le_of_ble_eq_true rfl)) dX8_chance_33 ⟨Nat.le_of_ble_eq_true rfl, Nat.le_of_ble_eq_true rfl⟩) hP hD hS hA z9 rfl (by decide) (by decide) (by decide) rfl (fun H locs hP hD hS => ?_)
    refine lv_iconst (v := 1) hx hb dX8_chance_36 (by decide) ?_
    cases hf
    exact W.zret (ty := .boolean) hx hb hr rfl (fun t ht _ => gqi hP hD hS ht) hS.2.2 dX8_chance_37
  · replace hf := ifp k3 hf
    refine lv_iconst (v := 0) hx hb dX8_chance_8 (by decide) ?_
    cases hf
    exact W.zret (ty := .boolean) hx hb hr rfl (fun t ht _ => gqi hP hD hS ht) hS.2.2 dX8_chance_9
theorem ccX8_X7_get {R : Room} {s : State} {args : Array Value} {c0 : Cond} (ht : ∀ w ∈ wq c0, w.before args s = true) (hR : rmX7_get.frames + 1 ≤ R.frames ∧ 8 + (2 + 11) + rmX7_get.locals ≤ R.locals) : CallW R s args RX8 RX7 90 yX7_get cX7_get 2 (some .int) (wq (.code yX7_get cX7_get 2 (some .int))) rmX7_get 0 0 1 := gCW 1 ht wcX7_get wmX8_90 wiX7_get weX7_get wnX7 (by decide +kernel) rfl rfl hR
def fX8_rate (p1 : Int32) (c_now_tree_parts : Nat → Int32) : Option (Int32 × (Nat → Int32)) := bd1 (fX8_within p1 0 200) (fun r1 => if r1 = 0 then some ((-1), c_now_tree_parts) else bd1 (fX7_get 8 c_now_tree_parts) (fun r4 => bd1 (fX7_set 8 p1 c_now_tree_parts) (fun c_now_tree_parts_7 => some (r4, c_now_tree_parts_7))))
abbrev rmX8_rate : Room := { frames := 2, cells := 0, slots := 0, locals := 44 }
set_option maxHeartbeats 4000000 in
set_option maxRecDepth 100000 in
theorem tX8_rate (l : Launch) (dC : Nat → ClassId) (dI : Nat → Nat → Nat) (dA : Nat → ClassId) (ad : Nat → Nat) (sz : Nat) {p1 : Int32} {c_keptCount : Int32} {c_tape_size : Int32} {c_tape_length : Int32} {c_tape_place : Int32} {c_tape_fault : Int32} {c_tape_faultPlace : Int32} {c_tape_begin : Int32} {c_tape_bytes : Nat → Int32} {c_tape_draft_terms : Nat → Int32} {c_now_row : Int32} {c_now_tree_parts : Nat → Int32} {c_now_bonds0_terms : Nat → Int32} {c_now_bonds1_terms : Nat → Int32} {c_now_bonds2_terms : Nat → Int32} {c_now_hand_opened : Int32} {c_now_hand_over : Int32} {c_now_hand_row : Int32} {c_now_hand_paid : Int64} {c_now_hand_regret : Int64} {c_now_hand_tree_parts : Nat → Int32} {c_now_hand_bond_terms : Nat → Int32} {c_kept : Nat → Option Nat} {c_sheet_tree_parts : Nat → Int32} {c_sheet_bond_terms : Nat → Int32} {c_sheet_penceByUps : Nat → Int64} {c_sheet_pence : Nat → Int64} {c_sheet_turned : Nat → Int64} {c_sheet_called : Nat → Int64} {c_sheet_hold : Nat → Int64} {c_sheet_value : Nat → Int64} {c_sheet_marks : Nat → Int32} {c_sheet_act : Nat → Int32} {c_sheet_rowOfKey : Nat → Int32} {c_otherSheet_tree_parts : Nat → Int32} {c_otherSheet_bond_terms : Nat → Int32} {c_otherSheet_penceByUps : Nat → Int64} {c_otherSheet_pence : Nat → Int64} {c_otherSheet_turned : Nat → Int64} {c_otherSheet_called : Nat → Int64} {c_otherSheet_hold : Nat → Int64} {c_otherSheet_value : Nat → Int64} {c_otherSheet_marks : Nat → Int32} {c_otherSheet_act : Nat → Int32} {c_otherSheet_rowOfKey : Nat → Int32} {c_draws_x : Int32} {c_text_coder : Int32} {c_text_maybeLatin1 : Int32} {c_text_count : Int32} {c_text_value : Nat → Int32} {r : Int32} {o_c_now_tree_parts : Nat → Int32} (hf : fX8_rate p1 c_now_tree_parts = some (r, o_c_now_tree_parts)) : Met l yX8_rate (wq (Cond.code yX8_rate cX8_rate 3 (some .int))) rmX8_rate (gP [.ref (ad 0), .int p1] (dC, dI) dA (wX8 dA ad c_keptCount c_tape_size c_tape_length c_tape_place c_tape_fault c_tape_faultPlace c_tape_begin c_tape_bytes c_tape_draft_terms c_now_row c_now_tree_parts c_now_bonds0_terms c_now_bonds1_terms c_now_bonds2_terms c_now_hand_opened c_now_hand_over c_now_hand_row c_now_hand_paid c_now_hand_regret c_now_hand_tree_parts c_now_hand_bond_terms c_kept c_sheet_tree_parts c_sheet_bond_terms c_sheet_penceByUps c_sheet_pence c_sheet_turned c_sheet_called c_sheet_hold c_sheet_value c_sheet_marks c_sheet_act c_sheet_rowOfKey c_otherSheet_tree_parts c_otherSheet_bond_terms c_otherSheet_penceByUps c_otherSheet_pence c_otherSheet_turned c_otherSheet_called c_otherSheet_hold c_otherSheet_value c_otherSheet_marks c_otherSheet_act c_otherSheet_rowOfKey c_draws_x c_text_coder c_text_maybeLatin1 c_text_count c_text_value) sz) (gQi (dC, dI) r (wX8 dA ad c_keptCount c_tape_size c_tape_length c_tape_place c_tape_fault c_tape_faultPlace c_tape_begin c_tape_bytes c_tape_draft_terms c_now_row o_c_now_tree_parts c_now_bonds0_terms c_now_bonds1_terms c_now_bonds2_terms c_now_hand_opened c_now_hand_over c_now_hand_row c_now_hand_paid c_now_hand_regret c_now_hand_tree_parts c_now_hand_bond_terms c_kept c_sheet_tree_parts c_sheet_bond_terms c_sheet_penceByUps c_sheet_pence c_sheet_turned c_sheet_called c_sheet_hold c_sheet_value c_sheet_marks c_sheet_act c_sheet_rowOfKey c_otherSheet_tree_parts c_otherSheet_bond_terms c_otherSheet_penceByUps c_otherSheet_pence c_otherSheet_turned c_otherSheet_called c_otherSheet_hold c_otherSheet_value c_otherSheet_marks c_otherSheet_act c_otherSheet_rowOfKey c_draws_x c_text_coder c_text_maybeLatin1 c_text_count c_text_value) (va_A (wX8 dA ad c_keptCount c_tape_size c_tape_length c_tape_place c_tape_fault c_tape_faultPlace c_tape_begin c_tape_bytes c_tape_draft_terms c_now_row c_now_tree_parts c_now_bonds0_terms c_now_bonds1_terms c_now_bonds2_terms c_now_hand_opened c_now_hand_over c_now_hand_row c_now_hand_paid c_now_hand_regret c_now_hand_tree_parts c_now_hand_bond_terms c_kept c_sheet_tree_parts c_sheet_bond_terms c_sheet_penceByUps c_sheet_pence c_sheet_turned c_sheet_called c_sheet_hold c_sheet_value c_sheet_marks c_sheet_act c_sheet_rowOfKey c_otherSheet_tree_parts c_otherSheet_bond_terms c_otherSheet_penceByUps c_otherSheet_pence c_otherSheet_turned c_otherSheet_called c_otherSheet_hold c_otherSheet_value c_otherSheet_marks c_otherSheet_act c_otherSheet_rowOfKey c_draws_x c_text_coder c_text_maybeLatin1 c_text_count c_text_value) sz)) 0 0 (va_A (wX8 dA ad c_keptCount c_tape_size c_tape_length c_tape_place c_tape_fault c_tape_faultPlace c_tape_begin c_tape_bytes c_tape_draft_terms c_now_row c_now_tree_parts c_now_bonds0_terms c_now_bonds1_terms c_now_bonds2_terms c_now_hand_opened c_now_hand_over c_now_hand_row c_now_hand_paid c_now_hand_regret c_now_hand_tree_parts c_now_hand_bond_terms c_kept c_sheet_tree_parts c_sheet_bond_terms c_sheet_penceByUps c_sheet_pence c_sheet_turned c_sheet_called c_sheet_hold c_sheet_value c_sheet_marks c_sheet_act c_sheet_rowOfKey c_otherSheet_tree_parts c_otherSheet_bond_terms c_otherSheet_penceByUps c_otherSheet_pence c_otherSheet_turned c_otherSheet_called c_otherSheet_hold c_otherSheet_value c_otherSheet_marks c_otherSheet_act c_otherSheet_rowOfKey c_draws_x c_text_coder c_text_maybeLatin1 c_text_count c_text_value) sz) := by
  refine Met.ofW (cc := cX8_rate) (maxL := 3) (ret := (some .int)) (by decide) rfl ?_
  intro p e s m args below meth c s₁ B hml hv
  obtain ⟨rfl, hsz, hP, hK, hD0⟩ := hv
  have hx := B.exec
  have hb := B.bytes
  have hr := B.returns
  have hts := atoms_spec (ws := wq (Cond.code yX8_rate cX8_rate 3 (some .int))) B.pre
  have hown : s.vm.findClass RX8 = some m.cls := findClass_of_methodNamed B.named
  have hlocks := B.notSynchronized
  clear B
  subst hsz
  have hD := hD0.self (sz := s.heap.size)
  generalize hAe : va_A (wX8 dA ad c_keptCount c_tape_size c_tape_length c_tape_place c_tape_fault c_tape_faultPlace c_tape_begin c_tape_bytes c_tape_draft_terms c_now_row c_now_tree_parts c_now_bonds0_terms c_now_bonds1_terms c_now_bonds2_terms c_now_hand_opened c_now_hand_over c_now_hand_row c_now_hand_paid c_now_hand_regret c_now_hand_tree_parts c_now_hand_bond_terms c_kept c_sheet_tree_parts c_sheet_bond_terms c_sheet_penceByUps c_sheet_pence c_sheet_turned c_sheet_called c_sheet_hold c_sheet_value c_sheet_marks c_sheet_act c_sheet_rowOfKey c_otherSheet_tree_parts c_otherSheet_bond_terms c_otherSheet_penceByUps c_otherSheet_pence c_otherSheet_turned c_otherSheet_called c_otherSheet_hold c_otherSheet_value c_otherSheet_marks c_otherSheet_act c_otherSheet_rowOfKey c_draws_x c_text_coder c_text_maybeLatin1 c_text_count c_text_value) s.heap.size = A at hD ⊢
  have hA : ∀ q : Nat, s.heap.size ≤ q → A q := fun q h => by rw [← hAe]; exact Or.inr h
  clear hAe hD0
  have hS : va_S A s.heap s.heap [] := va_S.rf
  have hl := lv_entry ([.ref (ad 0), .int p1]) (n := 3) (Nat.le_of_ble_eq_true rfl)
  rw [lg_entry_eq]
  generalize (lg_sl ([.ref (ad 0), .int p1]) ++ List.replicate (3 - (lg_sl ([.ref (ad 0), .int p1])).length) Slot.unset).toArray = ls at hl ⊢
  have hl : lv_has ls 3 [(0, .ref (ad 0)), (1, .int p1)] := hl
  change W p l e rmX8_rate s m ([.ref (ad 0), .int p1] : List Value).toArray below meth c s.heap [] 0 0 _ _
  unfold fX8_rate at hf
  refine lv_iload_n hx hb dX8_rate_0 rfl (lv_at hl 1 rfl) ?_
  refine lv_iconst (v := 0) hx hb dX8_rate_1 (by decide) ?_
  refine lv_sipush (v := 200) hx hb dX8_rate_2 (by decide) ?_
  obtain ⟨r1, v2, hf⟩ := bd1_some hf
  refine gci0 (va_runS (As := [.int p1, .int 0, .int 200]) (rest := []) ⟨hx, hb, hml, hown, hts⟩ (tX8_within l dC dI dA s.heap.size v2) (ccX8_X8_within hts ⟨Nat.le_of_ble_eq_true rfl, Nat.le_of_ble_eq_true rfl⟩) (gPreS0 hK) rfl rfl hl.1 rfl (lv_room (Nat.le_of_ble_eq_true rfl)) dX8_rate_5 ⟨Nat.le_of_ble_eq_true rfl, Nat.le_of_ble_eq_true rfl⟩) hP hS hA (fun H locs hP hS => ?_)
  refine lv_if_ne (tgt := 13) hx hb dX8_rate_8 (by decide) (fun k3 => ?_) (fun k3 => ?_)
  · replace hf := ifn k3 hf
    refine lv_aload_n hx hb dX8_rate_13 rfl (lv_at hl 0 rfl) ?_
    refine va_get (D := (dC, dI)) (ci := 8) (v := .ref (ad 5)) (C := RX8) (T := TX8) (N := 8) hx hb hts (fun w h => gw_mem (inX8 w h)) hown hK.1 hP 0 rfl rfl 1 (by decide) (hts _ (gw_mem wfX8_21)) (fun _ h9 => h9) rfl dX8_rate_14 ?_
    refine va_getN (D := (dC, dI)) (ci := 4) (v := .ref (ad 6)) (C := RX4) (T := TX4) (N := 4) hx hb hts (fun w h => gw_mem (inX4 w h)) hown hK.1 hP 5 rfl rfl 0 (by decide) (va_Nw.use rfl (hK.2 _ wfX8_73 rfl)) (fun _ h9 => h9) rfl dX8_rate_17 ?_
    refine lv_bipush (v := 8) hx hb dX8_rate_20 (by decide) ?_
    obtain ⟨r4, v5, hf⟩ := bd1_some hf
    have z6 : [6, 7].map (fun i => ((wX8 dA ad c_keptCount c_tape_size c_tape_length c_tape_place c_tape_fault c_tape_faultPlace c_tape_begin c_tape_bytes c_tape_draft_terms c_now_row c_now_tree_parts c_now_bonds0_terms c_now_bonds1_terms c_now_bonds2_terms c_now_hand_opened c_now_hand_over c_now_hand_row c_now_hand_paid c_now_hand_regret c_now_hand_tree_parts c_now_hand_bond_terms c_kept c_sheet_tree_parts c_sheet_bond_terms c_sheet_penceByUps c_sheet_pence c_sheet_turned c_sheet_called c_sheet_hold c_sheet_value c_sheet_marks c_sheet_act c_sheet_rowOfKey c_otherSheet_tree_parts c_otherSheet_bond_terms c_otherSheet_penceByUps c_otherSheet_pence c_otherSheet_turned c_otherSheet_called c_otherSheet_hold c_otherSheet_value c_otherSheet_marks c_otherSheet_act c_otherSheet_rowOfKey c_draws_x c_text_coder c_text_maybeLatin1 c_text_count c_text_value))[i]?) = ((wX7 dA (fun i => ad (i + 6)) c_now_tree_parts)).map some := rfl
    refine gpi [6, 7] [0, 1, 2, 3, 4, 5, 8, 9, 10, 11, 12, 13, 14, 15, 16, 17, 18, 19, 20, 21, 22, 23, 24, 25, 26, 27, 28, 29, 30, 31, 32, 33, 34, 35, 36, 37, 38, 39, 40, 41, 42, 43, 44, 45, 46, 47, 48, 49, 50, 51] [0, 1, 2, 3, 4, 5, 50, 51, 6, 7, 8, 9, 10, 11, 12, 13, 14, 15, 16, 17, 18, 19, 20, 21, 22, 23, 24, 25, 26, 27, 28, 29, 30, 31, 32, 33, 34, 35, 36, 37, 38, 39, 40, 41, 42, 43, 44, 45, 46, 47, 48, 49] (wf := (wX8 dA ad c_keptCount c_tape_size c_tape_length c_tape_place c_tape_fault c_tape_faultPlace c_tape_begin c_tape_bytes c_tape_draft_terms c_now_row c_now_tree_parts c_now_bonds0_terms c_now_bonds1_terms c_now_bonds2_terms c_now_hand_opened c_now_hand_over c_now_hand_row c_now_hand_paid c_now_hand_regret c_now_hand_tree_parts c_now_hand_bond_terms c_kept c_sheet_tree_parts c_sheet_bond_terms c_sheet_penceByUps c_sheet_pence c_sheet_turned c_sheet_called c_sheet_hold c_sheet_value c_sheet_marks c_sheet_act c_sheet_rowOfKey c_otherSheet_tree_parts c_otherSheet_bond_terms c_otherSheet_penceByUps c_otherSheet_pence c_otherSheet_turned c_otherSheet_called c_otherSheet_hold c_otherSheet_value c_otherSheet_marks c_otherSheet_act c_otherSheet_rowOfKey c_draws_x c_text_coder c_text_maybeLatin1 c_text_count c_text_value)) (va_runV (As := [.int 8]) (rest := []) ⟨hx, hb, hml, hown, hts⟩ (tX7_get l dC dI dA (fun i => ad (i + 6)) H.size v5) (ccX8_X7_get hts ⟨Nat.le_of_ble_eq_true rfl, Nat.le_of_ble_eq_true rfl⟩) (gPreV (ci := 7) (q0 := 0) (gsub z6 hP) hK (gsubD z6 (by decide) hD) rfl rfl) rfl rfl hl.1 rfl (lv_room (Nat.le_of_ble_eq_true rfl)) dX8_rate_22 ⟨Nat.le_of_ble_eq_true rfl, Nat.le_of_ble_eq_true rfl⟩) hP hD hS hA z6 rfl (by decide) (by decide) (by decide) rfl (fun H locs hP hD hS => ?_)
    refine lv_istore_n (lv' := [(2, .int r4), (0, .ref (ad 0)), (1, .int p1)]) hx hb dX8_rate_25 rfl hl (by decide) rfl (fun ls hl => ?_)
    refine lv_aload_n hx hb dX8_rate_26 rfl (lv_at hl 1 rfl) ?_
    refine va_get (D := (dC, dI)) (ci := 8) (v := .ref (ad 5)) (C := RX8) (T := TX8) (N := 8) hx hb hts (fun w h => gw_mem (inX8 w h)) hown hK.1 hP 0 rfl rfl 1 (by decide) (hts _ (gw_mem wfX8_21)) (fun _ h9 => h9) rfl dX8_rate_27 ?_
    refine va_getN (D := (dC, dI)) (ci := 4) (v := .ref (ad 6)) (C := RX4) (T := TX4) (N := 4) hx hb hts (fun w h => gw_mem (inX4 w h)) hown hK.1 hP 5 rfl rfl 0 (by decide) (va_Nw.use rfl (hK.2 _ wfX8_73 rfl)) (fun _ h9 => h9) rfl dX8_rate_30 ?_
    refine lv_bipush (v := 8) hx hb dX8_rate_33 (by decide) ?_
    refine lv_iload_n hx hb dX8_rate_35 rfl (lv_at hl 2 rfl) ?_
    obtain ⟨c_now_tree_parts_7, v8, hf⟩ := bd1_some hf
    have z9 : [6, 7].map (fun i => ((wX8 dA ad c_keptCount c_tape_size c_tape_length c_tape_place c_tape_fault c_tape_faultPlace c_tape_begin c_tape_bytes c_tape_draft_terms c_now_row c_now_tree_parts c_now_bonds0_terms c_now_bonds1_terms c_now_bonds2_terms c_now_hand_opened c_now_hand_over c_now_hand_row c_now_hand_paid c_now_hand_regret c_now_hand_tree_parts c_now_hand_bond_terms c_kept c_sheet_tree_parts c_sheet_bond_terms c_sheet_penceByUps c_sheet_pence c_sheet_turned c_sheet_called c_sheet_hold c_sheet_value c_sheet_marks c_sheet_act c_sheet_rowOfKey c_otherSheet_tree_parts c_otherSheet_bond_terms c_otherSheet_penceByUps c_otherSheet_pence c_otherSheet_turned c_otherSheet_called c_otherSheet_hold c_otherSheet_value c_otherSheet_marks c_otherSheet_act c_otherSheet_rowOfKey c_draws_x c_text_coder c_text_maybeLatin1 c_text_count c_text_value))[i]?) = ((wX7 dA (fun i => ad (i + 6)) c_now_tree_parts)).map some := rfl
    refine gpv [6, 7] [0, 1, 2, 3, 4, 5, 8, 9, 10, 11, 12, 13, 14, 15, 16, 17, 18, 19, 20, 21, 22, 23, 24, 25, 26, 27, 28, 29, 30, 31, 32, 33, 34, 35, 36, 37, 38, 39, 40, 41, 42, 43, 44, 45, 46, 47, 48, 49, 50, 51] [0, 1, 2, 3, 4, 5, 50, 51, 6, 7, 8, 9, 10, 11, 12, 13, 14, 15, 16, 17, 18, 19, 20, 21, 22, 23, 24, 25, 26, 27, 28, 29, 30, 31, 32, 33, 34, 35, 36, 37, 38, 39, 40, 41, 42, 43, 44, 45, 46, 47, 48, 49] (wf := (wX8 dA ad c_keptCount c_tape_size c_tape_length c_tape_place c_tape_fault c_tape_faultPlace c_tape_begin c_tape_bytes c_tape_draft_terms c_now_row c_now_tree_parts_7 c_now_bonds0_terms c_now_bonds1_terms c_now_bonds2_terms c_now_hand_opened c_now_hand_over c_now_hand_row c_now_hand_paid c_now_hand_regret c_now_hand_tree_parts c_now_hand_bond_terms c_kept c_sheet_tree_parts c_sheet_bond_terms c_sheet_penceByUps c_sheet_pence c_sheet_turned c_sheet_called c_sheet_hold c_sheet_value c_sheet_marks c_sheet_act c_sheet_rowOfKey c_otherSheet_tree_parts c_otherSheet_bond_terms c_otherSheet_penceByUps c_otherSheet_pence c_otherSheet_turned c_otherSheet_called c_otherSheet_hold c_otherSheet_value c_otherSheet_marks c_otherSheet_act c_otherSheet_rowOfKey c_draws_x c_text_coder c_text_maybeLatin1 c_text_count c_text_value)) (va_runV (As := [.int 8, .int p1]) (rest := []) ⟨hx, hb, hml, hown, hts⟩ (tX7_set l dC dI dA (fun i => ad (i + 6)) H.size v8) (ccX8_X7_set hts ⟨Nat.le_of_ble_eq_true rfl, Nat.le_of_ble_eq_true rfl⟩) (gPreV (ci := 7) (q0 := 0) (gsub z9 hP) hK (gsubD z9 (by decide) hD) rfl rfl) rfl rfl hl.1 rfl (lv_room (Nat.le_of_ble_eq_true rfl)) dX8_rate_36 ⟨Nat.le_of_ble_eq_true rfl, Nat.le_of_ble_eq_true rfl⟩) hP hD hS hA z9 rfl (by decide) (by decide) (by decide) rfl (fun H locs hP hD hS => ?_)
    refine lv_iload_n hx hb dX8_rate_39 rfl (lv_at hl 0 rfl) ?_
    cases hf
    exact W.iret hx hb hr (fun t ht _ => gqi hP hD hS ht) hS.2.2 dX8_rate_40
  · replace hf := ifp k3 hf
    refine lv_iconst (v := (-1)) hx hb dX8_rate_11 (by decide) ?_
    cases hf
    exact W.iret hx hb hr (fun t ht _ => gqi hP hD hS ht) hS.2.2 dX8_rate_12
def lpX8_greatestDivisor_9  : Nat → Int64 → Int64 → Int32 → Option (Int64)
  | 0, _, _, _ => none
  | n + 1, x4, x6, x8 => if 100 ≤ x8 then some (x4) else if x6 = 0 then some (x4) else og (nzL x6) (nm (x4 - x4 / x6 * x6) (fun w6 => nm (x8 + 1) (fun w7 => lpX8_greatestDivisor_9 n x6 w6 w7)))
def fX8_greatestDivisor (p0 : Int64) (p2 : Int64) : Option (Int64) := bd1 (lpX8_greatestDivisor_9 FU p0 p2 0) (fun x1 => some (x1))
abbrev rmX8_greatestDivisor : Room := { frames := 0, cells := 0, slots := 0, locals := 0 }
set_option maxHeartbeats 4000000 in
set_option maxRecDepth 100000 in
theorem tX8_greatestDivisor (l : Launch) (dC : Nat → ClassId) (dI : Nat → Nat → Nat) (dA : Nat → ClassId) (sz : Nat) {p0 : Int64} {p2 : Int64} {r : Int64} (hf : fX8_greatestDivisor p0 p2 = some (r)) : Met l yX8_greatestDivisor (wq (Cond.code yX8_greatestDivisor cX8_greatestDivisor 11 (some .long))) rmX8_greatestDivisor (gP [.long p0, .long p2] (dC, dI) dA [] sz) (gQl (dC, dI) r [] (va_A [] sz)) 0 0 (va_A [] sz) := by
  refine Met.ofW (cc := cX8_greatestDivisor) (maxL := 11) (ret := (some .long)) (by decide) rfl ?_
  intro p e s m args below meth c s₁ B hml hv
  obtain ⟨rfl, hsz, hP, hK, hD0⟩ := hv
  have hx := B.exec
  have hb := B.bytes
  have hr := B.returns
  have hts := atoms_spec (ws := wq (Cond.code yX8_greatestDivisor cX8_greatestDivisor 11 (some .long))) B.pre
  have hown : s.vm.findClass RX8 = some m.cls := findClass_of_methodNamed B.named
  have hlocks := B.notSynchronized
  clear B
  subst hsz
  have hD := hD0.self (sz := s.heap.size)
  generalize hAe : va_A [] s.heap.size = A at hD ⊢
  have hA : ∀ q : Nat, s.heap.size ≤ q → A q := fun q h => by rw [← hAe]; exact Or.inr h
  clear hAe hD0
  have hS : va_S A s.heap s.heap [] := va_S.rf
  have hl := lv_entry ([.long p0, .long p2]) (n := 11) (Nat.le_of_ble_eq_true rfl)
  rw [lg_entry_eq]
  generalize (lg_sl ([.long p0, .long p2]) ++ List.replicate (11 - (lg_sl ([.long p0, .long p2])).length) Slot.unset).toArray = ls at hl ⊢
  have hl : lv_has ls 11 [(0, .long p0), (2, .long p2)] := hl
  change W p l e rmX8_greatestDivisor s m ([.long p0, .long p2] : List Value).toArray below meth c s.heap [] 0 0 _ _
  generalize hQ : MQ below (gQl (dC, dI) r [] A) ([.long p0, .long p2] : List Value).toArray s 0 0 A = Q
  have LP9 : ∀ (n : Nat) (x4 : Int64) (x6 : Int64) (x8 : Int32) (o4 : Int64) (H : Heap) (locs : List Loc) (ls : Array Slot), va_P (dC, dI) vwCl [] H → va_D A [] → va_S A s.heap H locs → lpX8_greatestDivisor_9  n x4 x6 x8 = some (o4) → lv_has ls 11 [(4, .long x4), (6, .long x6), (8, .int x8)] → (∀ (H : Heap) (locs : List Loc) (ls : Array Slot), va_P (dC, dI) vwCl [] H → va_D A [] → va_S A s.heap H locs → lv_has ls 11 [(4, .long o4)] → W p l e rmX8_greatestDivisor s m ([.long p0, .long p2] : List Value).toArray below meth c H locs 0 0 Q (F0 m 44 ls [])) → W p l e rmX8_greatestDivisor s m ([.long p0, .long p2] : List Value).toArray below meth c H locs 0 0 Q (F0 m 9 ls []) := by
    intro n
    induction n with
    | zero =>
      intro x4 x6 x8 o4 H locs ls hP hD hS hf hl hk
      cases hf
    | succ n ih9 =>
      intro x4 x6 x8 o4 H locs ls hP hD hS hf hl hk
      rw [lpX8_greatestDivisor_9.eq_2] at hf
      refine lv_iload hx hb dX8_greatestDivisor_9 (lv_at hl 2 rfl) ?_
      refine lv_bipush (v := 100) hx hb dX8_greatestDivisor_11 (by decide) ?_
      refine lv_icmp_ge (tgt := 44) hx hb dX8_greatestDivisor_13 (by decide) (fun k3 => ?_) (fun k3 => ?_)
      · replace hf := ifp k3 hf
        cases hf
        exact hk _ _ _ hP hD hS (lv_sub hl [0] rfl)
      · replace hf := ifn k3 hf
        refine lv_lload hx hb dX8_greatestDivisor_16 (lv_at hl 1 rfl) ?_
        refine lv_lconst (v := 0) hx hb dX8_greatestDivisor_18 rfl ?_
        refine W.lcmp hx hb dX8_greatestDivisor_19 ?_
        refine lv_if_eq (tgt := 44) hx hb dX8_greatestDivisor_20 (by decide) (fun k4 => ?_) (fun k4 => ?_)
        · replace hf := ifp (lc_eq.mp k4) hf
          cases hf
          exact hk _ _ _ hP hD hS (lv_sub hl [0] rfl)
        · replace hf := ifn (fun h => k4 (lc_eq.mpr h)) hf
          refine lv_lload hx hb dX8_greatestDivisor_23 (lv_at hl 0 rfl) ?_
          refine lv_lload hx hb dX8_greatestDivisor_25 (lv_at hl 1 rfl) ?_
          obtain ⟨h5, hf⟩ := og_some hf
          refine lv_lrem hx hb dX8_greatestDivisor_27 (nzL_ne h5) ?_
          refine lv_topl (fun w6 ew6 => ?_)
          replace hf := nm_at hf ew6
          refine lv_lstore (lv' := [(9, .long w6), (4, .long x4), (6, .long x6), (8, .int x8)]) hx hb dX8_greatestDivisor_28 hl (by decide) rfl (fun ls hl => ?_)
          refine lv_lload hx hb dX8_greatestDivisor_30 (lv_at hl 2 rfl) ?_
          refine lv_lstore (lv' := [(4, .long x6), (9, .long w6), (6, .long x6), (8, .int x8)]) hx hb dX8_greatestDivisor_32 hl (by decide) rfl (fun ls hl => ?_)
          refine lv_lload hx hb dX8_greatestDivisor_34 (lv_at hl 1 rfl) ?_
          refine lv_lstore (lv' := [(6, .long w6), (4, .long x6), (9, .long w6), (8, .int x8)]) hx hb dX8_greatestDivisor_36 hl (by decide) rfl (fun ls hl => ?_)
          obtain ⟨w7, ew7⟩ : ∃ y : Int32, y = x8 + 1 := ⟨_, rfl⟩
          replace hf := nm_at hf ew7
          refine lv_iinc (v := w7) (lv' := [(8, .int w7), (6, .long w6), (4, .long x6), (9, .long w6)]) hx hb dX8_greatestDivisor_38 hl (k := 3) rfl (by rw [ew7]; rfl) (by decide) rfl (fun ls hl => ?_)
          refine lv_goto (tgt := 9) hx hb dX8_greatestDivisor_41 (by decide) ?_
          exact ih9 _ _ _ _ _ _ _ hP hD hS hf (lv_sub hl [2, 1, 0] rfl) hk
  subst hQ
  unfold fX8_greatestDivisor at hf
  refine lv_lload_n hx hb dX8_greatestDivisor_0 rfl (lv_at hl 0 rfl) ?_
  refine lv_lstore (lv' := [(4, .long p0), (0, .long p0), (2, .long p2)]) hx hb dX8_greatestDivisor_1 hl (by decide) rfl (fun ls hl => ?_)
  refine lv_lload_n hx hb dX8_greatestDivisor_3 rfl (lv_at hl 2 rfl) ?_
  refine lv_lstore (lv' := [(6, .long p2), (4, .long p0), (0, .long p0), (2, .long p2)]) hx hb dX8_greatestDivisor_4 hl (by decide) rfl (fun ls hl => ?_)
  refine lv_iconst (v := 0) hx hb dX8_greatestDivisor_6 (by decide) ?_
  refine lv_istore (lv' := [(8, .int 0), (6, .long p2), (4, .long p0), (0, .long p0), (2, .long p2)]) hx hb dX8_greatestDivisor_7 hl (by decide) rfl (fun ls hl => ?_)
  obtain ⟨x1, v2, hf⟩ := bd1_some hf
  refine LP9 FU _ _ _ _ _ _ _ hP hD hS v2 (lv_sub hl [2, 1, 0] rfl) (fun H locs ls hP hD hS hl => ?_)
  refine lv_lload hx hb dX8_greatestDivisor_44 (lv_at hl 0 rfl) ?_
  cases hf
  exact W.lret hx hb hr (fun t ht _ => gql hP hD hS ht) hS.2.2 dX8_greatestDivisor_46
theorem ccX8_X7_lastDay {R : Room} {s : State} {args : Array Value} {c0 : Cond} (ht : ∀ w ∈ wq c0, w.before args s = true) (hR : rmX7_lastDay.frames + 1 ≤ R.frames ∧ 8 + (1 + 11) + rmX7_lastDay.locals ≤ R.locals) : CallW R s args RX8 RX7 318 yX7_lastDay cX7_lastDay 1 (some .int) (wq (.code yX7_lastDay cX7_lastDay 1 (some .int))) rmX7_lastDay 0 0 0 := gCW 0 ht wcX7_lastDay wmX8_318 wiX7_lastDay weX7_lastDay wnX7 (by decide +kernel) rfl rfl hR
def fX8_isDay (p1 : Int32) (c_now_tree_parts : Nat → Int32) : Option (Int32) := bd1 (fX7_lastDay c_now_tree_parts) (fun r1 => bd1 (fX8_within p1 0 r1) (fun r4 => og (boB r4) (some (r4))))
abbrev rmX8_isDay : Room := { frames := 2, cells := 0, slots := 0, locals := 43 }
set_option maxHeartbeats 4000000 in
set_option maxRecDepth 100000 in
theorem tX8_isDay (l : Launch) (dC : Nat → ClassId) (dI : Nat → Nat → Nat) (dA : Nat → ClassId) (ad : Nat → Nat) (sz : Nat) {p1 : Int32} {c_keptCount : Int32} {c_tape_size : Int32} {c_tape_length : Int32} {c_tape_place : Int32} {c_tape_fault : Int32} {c_tape_faultPlace : Int32} {c_tape_begin : Int32} {c_tape_bytes : Nat → Int32} {c_tape_draft_terms : Nat → Int32} {c_now_row : Int32} {c_now_tree_parts : Nat → Int32} {c_now_bonds0_terms : Nat → Int32} {c_now_bonds1_terms : Nat → Int32} {c_now_bonds2_terms : Nat → Int32} {c_now_hand_opened : Int32} {c_now_hand_over : Int32} {c_now_hand_row : Int32} {c_now_hand_paid : Int64} {c_now_hand_regret : Int64} {c_now_hand_tree_parts : Nat → Int32} {c_now_hand_bond_terms : Nat → Int32} {c_kept : Nat → Option Nat} {c_sheet_tree_parts : Nat → Int32} {c_sheet_bond_terms : Nat → Int32} {c_sheet_penceByUps : Nat → Int64} {c_sheet_pence : Nat → Int64} {c_sheet_turned : Nat → Int64} {c_sheet_called : Nat → Int64} {c_sheet_hold : Nat → Int64} {c_sheet_value : Nat → Int64} {c_sheet_marks : Nat → Int32} {c_sheet_act : Nat → Int32} {c_sheet_rowOfKey : Nat → Int32} {c_otherSheet_tree_parts : Nat → Int32} {c_otherSheet_bond_terms : Nat → Int32} {c_otherSheet_penceByUps : Nat → Int64} {c_otherSheet_pence : Nat → Int64} {c_otherSheet_turned : Nat → Int64} {c_otherSheet_called : Nat → Int64} {c_otherSheet_hold : Nat → Int64} {c_otherSheet_value : Nat → Int64} {c_otherSheet_marks : Nat → Int32} {c_otherSheet_act : Nat → Int32} {c_otherSheet_rowOfKey : Nat → Int32} {c_draws_x : Int32} {c_text_coder : Int32} {c_text_maybeLatin1 : Int32} {c_text_count : Int32} {c_text_value : Nat → Int32} {r : Int32} (hf : fX8_isDay p1 c_now_tree_parts = some (r)) : Met l yX8_isDay (wq (Cond.code yX8_isDay cX8_isDay 2 (some .boolean))) rmX8_isDay (gP [.ref (ad 0), .int p1] (dC, dI) dA (wX8 dA ad c_keptCount c_tape_size c_tape_length c_tape_place c_tape_fault c_tape_faultPlace c_tape_begin c_tape_bytes c_tape_draft_terms c_now_row c_now_tree_parts c_now_bonds0_terms c_now_bonds1_terms c_now_bonds2_terms c_now_hand_opened c_now_hand_over c_now_hand_row c_now_hand_paid c_now_hand_regret c_now_hand_tree_parts c_now_hand_bond_terms c_kept c_sheet_tree_parts c_sheet_bond_terms c_sheet_penceByUps c_sheet_pence c_sheet_turned c_sheet_called c_sheet_hold c_sheet_value c_sheet_marks c_sheet_act c_sheet_rowOfKey c_otherSheet_tree_parts c_otherSheet_bond_terms c_otherSheet_penceByUps c_otherSheet_pence c_otherSheet_turned c_otherSheet_called c_otherSheet_hold c_otherSheet_value c_otherSheet_marks c_otherSheet_act c_otherSheet_rowOfKey c_draws_x c_text_coder c_text_maybeLatin1 c_text_count c_text_value) sz) (gQi (dC, dI) r (wX8 dA ad c_keptCount c_tape_size c_tape_length c_tape_place c_tape_fault c_tape_faultPlace c_tape_begin c_tape_bytes c_tape_draft_terms c_now_row c_now_tree_parts c_now_bonds0_terms c_now_bonds1_terms c_now_bonds2_terms c_now_hand_opened c_now_hand_over c_now_hand_row c_now_hand_paid c_now_hand_regret c_now_hand_tree_parts c_now_hand_bond_terms c_kept c_sheet_tree_parts c_sheet_bond_terms c_sheet_penceByUps c_sheet_pence c_sheet_turned c_sheet_called c_sheet_hold c_sheet_value c_sheet_marks c_sheet_act c_sheet_rowOfKey c_otherSheet_tree_parts c_otherSheet_bond_terms c_otherSheet_penceByUps c_otherSheet_pence c_otherSheet_turned c_otherSheet_called c_otherSheet_hold c_otherSheet_value c_otherSheet_marks c_otherSheet_act c_otherSheet_rowOfKey c_draws_x c_text_coder c_text_maybeLatin1 c_text_count c_text_value) (va_A (wX8 dA ad c_keptCount c_tape_size c_tape_length c_tape_place c_tape_fault c_tape_faultPlace c_tape_begin c_tape_bytes c_tape_draft_terms c_now_row c_now_tree_parts c_now_bonds0_terms c_now_bonds1_terms c_now_bonds2_terms c_now_hand_opened c_now_hand_over c_now_hand_row c_now_hand_paid c_now_hand_regret c_now_hand_tree_parts c_now_hand_bond_terms c_kept c_sheet_tree_parts c_sheet_bond_terms c_sheet_penceByUps c_sheet_pence c_sheet_turned c_sheet_called c_sheet_hold c_sheet_value c_sheet_marks c_sheet_act c_sheet_rowOfKey c_otherSheet_tree_parts c_otherSheet_bond_terms c_otherSheet_penceByUps c_otherSheet_pence c_otherSheet_turned c_otherSheet_called c_otherSheet_hold c_otherSheet_value c_otherSheet_marks c_otherSheet_act c_otherSheet_rowOfKey c_draws_x c_text_coder c_text_maybeLatin1 c_text_count c_text_value) sz)) 0 0 (va_A (wX8 dA ad c_keptCount c_tape_size c_tape_length c_tape_place c_tape_fault c_tape_faultPlace c_tape_begin c_tape_bytes c_tape_draft_terms c_now_row c_now_tree_parts c_now_bonds0_terms c_now_bonds1_terms c_now_bonds2_terms c_now_hand_opened c_now_hand_over c_now_hand_row c_now_hand_paid c_now_hand_regret c_now_hand_tree_parts c_now_hand_bond_terms c_kept c_sheet_tree_parts c_sheet_bond_terms c_sheet_penceByUps c_sheet_pence c_sheet_turned c_sheet_called c_sheet_hold c_sheet_value c_sheet_marks c_sheet_act c_sheet_rowOfKey c_otherSheet_tree_parts c_otherSheet_bond_terms c_otherSheet_penceByUps c_otherSheet_pence c_otherSheet_turned c_otherSheet_called c_otherSheet_hold c_otherSheet_value c_otherSheet_marks c_otherSheet_act c_otherSheet_rowOfKey c_draws_x c_text_coder c_text_maybeLatin1 c_text_count c_text_value) sz) := by
  refine Met.ofW (cc := cX8_isDay) (maxL := 2) (ret := (some .boolean)) (by decide) rfl ?_
  intro p e s m args below meth c s₁ B hml hv
  obtain ⟨rfl, hsz, hP, hK, hD0⟩ := hv
  have hx := B.exec
  have hb := B.bytes
  have hr := B.returns
  have hts := atoms_spec (ws := wq (Cond.code yX8_isDay cX8_isDay 2 (some .boolean))) B.pre
  have hown : s.vm.findClass RX8 = some m.cls := findClass_of_methodNamed B.named
  have hlocks := B.notSynchronized
  clear B
  subst hsz
  have hD := hD0.self (sz := s.heap.size)
  generalize hAe : va_A (wX8 dA ad c_keptCount c_tape_size c_tape_length c_tape_place c_tape_fault c_tape_faultPlace c_tape_begin c_tape_bytes c_tape_draft_terms c_now_row c_now_tree_parts c_now_bonds0_terms c_now_bonds1_terms c_now_bonds2_terms c_now_hand_opened c_now_hand_over c_now_hand_row c_now_hand_paid c_now_hand_regret c_now_hand_tree_parts c_now_hand_bond_terms c_kept c_sheet_tree_parts c_sheet_bond_terms c_sheet_penceByUps c_sheet_pence c_sheet_turned c_sheet_called c_sheet_hold c_sheet_value c_sheet_marks c_sheet_act c_sheet_rowOfKey c_otherSheet_tree_parts c_otherSheet_bond_terms c_otherSheet_penceByUps c_otherSheet_pence c_otherSheet_turned c_otherSheet_called c_otherSheet_hold c_otherSheet_value c_otherSheet_marks c_otherSheet_act c_otherSheet_rowOfKey c_draws_x c_text_coder c_text_maybeLatin1 c_text_count c_text_value) s.heap.size = A at hD ⊢
  have hA : ∀ q : Nat, s.heap.size ≤ q → A q := fun q h => by rw [← hAe]; exact Or.inr h
  clear hAe hD0
  have hS : va_S A s.heap s.heap [] := va_S.rf
  have hl := lv_entry ([.ref (ad 0), .int p1]) (n := 2) (Nat.le_of_ble_eq_true rfl)
  rw [lg_entry_eq]
  generalize (lg_sl ([.ref (ad 0), .int p1]) ++ List.replicate (2 - (lg_sl ([.ref (ad 0), .int p1])).length) Slot.unset).toArray = ls at hl ⊢
  have hl : lv_has ls 2 [(0, .ref (ad 0)), (1, .int p1)] := hl
  change W p l e rmX8_isDay s m ([.ref (ad 0), .int p1] : List Value).toArray below meth c s.heap [] 0 0 _ _
  unfold fX8_isDay at hf
  refine lv_iload_n hx hb dX8_isDay_0 rfl (lv_at hl 1 rfl) ?_
  refine lv_iconst (v := 0) hx hb dX8_isDay_1 (by decide) ?_
  refine lv_aload_n hx hb dX8_isDay_2 rfl (lv_at hl 0 rfl) ?_
  refine va_get (D := (dC, dI)) (ci := 8) (v := .ref (ad 5)) (C := RX8) (T := TX8) (N := 8) hx hb hts (fun w h => gw_mem (inX8 w h)) hown hK.1 hP 0 rfl rfl 1 (by decide) (hts _ (gw_mem wfX8_21)) (fun _ h9 => h9) rfl dX8_isDay_3 ?_
  refine va_getN (D := (dC, dI)) (ci := 4) (v := .ref (ad 6)) (C := RX4) (T := TX4) (N := 4) hx hb hts (fun w h => gw_mem (inX4 w h)) hown hK.1 hP 5 rfl rfl 0 (by decide) (va_Nw.use rfl (hK.2 _ wfX8_73 rfl)) (fun _ h9 => h9) rfl dX8_isDay_6 ?_
  obtain ⟨r1, v2, hf⟩ := bd1_some hf
  have z3 : [6, 7].map (fun i => ((wX8 dA ad c_keptCount c_tape_size c_tape_length c_tape_place c_tape_fault c_tape_faultPlace c_tape_begin c_tape_bytes c_tape_draft_terms c_now_row c_now_tree_parts c_now_bonds0_terms c_now_bonds1_terms c_now_bonds2_terms c_now_hand_opened c_now_hand_over c_now_hand_row c_now_hand_paid c_now_hand_regret c_now_hand_tree_parts c_now_hand_bond_terms c_kept c_sheet_tree_parts c_sheet_bond_terms c_sheet_penceByUps c_sheet_pence c_sheet_turned c_sheet_called c_sheet_hold c_sheet_value c_sheet_marks c_sheet_act c_sheet_rowOfKey c_otherSheet_tree_parts c_otherSheet_bond_terms c_otherSheet_penceByUps c_otherSheet_pence c_otherSheet_turned c_otherSheet_called c_otherSheet_hold c_otherSheet_value c_otherSheet_marks c_otherSheet_act c_otherSheet_rowOfKey c_draws_x c_text_coder c_text_maybeLatin1 c_text_count c_text_value))[i]?) = ((wX7 dA (fun i => ad (i + 6)) c_now_tree_parts)).map some := rfl
  refine gpi [6, 7] [0, 1, 2, 3, 4, 5, 8, 9, 10, 11, 12, 13, 14, 15, 16, 17, 18, 19, 20, 21, 22, 23, 24, 25, 26, 27, 28, 29, 30, 31, 32, 33, 34, 35, 36, 37, 38, 39, 40, 41, 42, 43, 44, 45, 46, 47, 48, 49, 50, 51] [0, 1, 2, 3, 4, 5, 50, 51, 6, 7, 8, 9, 10, 11, 12, 13, 14, 15, 16, 17, 18, 19, 20, 21, 22, 23, 24, 25, 26, 27, 28, 29, 30, 31, 32, 33, 34, 35, 36, 37, 38, 39, 40, 41, 42, 43, 44, 45, 46, 47, 48, 49] (wf := (wX8 dA ad c_keptCount c_tape_size c_tape_length c_tape_place c_tape_fault c_tape_faultPlace c_tape_begin c_tape_bytes c_tape_draft_terms c_now_row c_now_tree_parts c_now_bonds0_terms c_now_bonds1_terms c_now_bonds2_terms c_now_hand_opened c_now_hand_over c_now_hand_row c_now_hand_paid c_now_hand_regret c_now_hand_tree_parts c_now_hand_bond_terms c_kept c_sheet_tree_parts c_sheet_bond_terms c_sheet_penceByUps c_sheet_pence c_sheet_turned c_sheet_called c_sheet_hold c_sheet_value c_sheet_marks c_sheet_act c_sheet_rowOfKey c_otherSheet_tree_parts c_otherSheet_bond_terms c_otherSheet_penceByUps c_otherSheet_pence c_otherSheet_turned c_otherSheet_called c_otherSheet_hold c_otherSheet_value c_otherSheet_marks c_otherSheet_act c_otherSheet_rowOfKey c_draws_x c_text_coder c_text_maybeLatin1 c_text_count c_text_value)) (va_runV (As := []) (rest := [.int 0, .int p1]) ⟨hx, hb, hml, hown, hts⟩ (tX7_lastDay l dC dI dA (fun i => ad (i + 6)) s.heap.size v2) (ccX8_X7_lastDay hts ⟨Nat.le_of_ble_eq_true rfl, Nat.le_of_ble_eq_true rfl⟩) (gPreV (ci := 7) (q0 := 0) (gsub z3 hP) hK (gsubD z3 (by decide) hD) rfl rfl) rfl rfl hl.1 rfl (lv_room (Nat.le_of_ble_eq_true rfl)) dX8_isDay_9 ⟨Nat.le_of_ble_eq_true rfl, Nat.le_of_ble_eq_true rfl⟩) hP hD hS hA z3 rfl (by decide) (by decide) (by decide) rfl (fun H locs hP hD hS => ?_)
  obtain ⟨r4, v5, hf⟩ := bd1_some hf
  refine gci0 (va_runS (As := [.int p1, .int 0, .int r1]) (rest := []) ⟨hx, hb, hml, hown, hts⟩ (tX8_within l dC dI dA H.size v5) (ccX8_X8_within hts ⟨Nat.le_of_ble_eq_true rfl, Nat.le_of_ble_eq_true rfl⟩) (gPreS0 hK) rfl rfl hl.1 rfl (lv_room (Nat.le_of_ble_eq_true rfl)) dX8_isDay_12 ⟨Nat.le_of_ble_eq_true rfl, Nat.le_of_ble_eq_true rfl⟩) hP hS hA (fun H locs hP hS => ?_)
  obtain ⟨h6, hf⟩ := og_some hf
  cases hf
  exact W.zret (ty := .boolean) hx hb hr (boB_nar h6) (fun t ht _ => gqi hP hD hS ht) hS.2.2 dX8_isDay_15
