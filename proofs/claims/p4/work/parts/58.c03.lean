abbrev rmX6_size : Room := { frames := 0, cells := 0, slots := 0, locals := 0 }
set_option maxHeartbeats 4000000 in
set_option maxRecDepth 100000 in
theorem tX6_size (l : Launch) (dC : Nat → ClassId) (dI : Nat → Nat → Nat) (dA : Nat → ClassId) (ad : Nat → Nat) (sz : Nat) {c_size : Int32} {c_length : Int32} {c_place : Int32} {c_fault : Int32} {c_faultPlace : Int32} {c_begin : Int32} {c_bytes : Nat → Int32} {c_draft_terms : Nat → Int32} {r : Int32} (hf : fX6_size c_size = some (r)) : Met l yX6_size (wq (Cond.code yX6_size cX6_size 1 (some .int))) rmX6_size (gP [.ref (ad 0)] (dC, dI) dA (wX6 dA ad c_size c_length c_place c_fault c_faultPlace c_begin c_bytes c_draft_terms) sz) (gQi (dC, dI) r (wX6 dA ad c_size c_length c_place c_fault c_faultPlace c_begin c_bytes c_draft_terms) (va_A (wX6 dA ad c_size c_length c_place c_fault c_faultPlace c_begin c_bytes c_draft_terms) sz)) 0 0 (va_A (wX6 dA ad c_size c_length c_place c_fault c_faultPlace c_begin c_bytes c_draft_terms) sz) := by
  refine Met.ofW (cc := cX6_size) (maxL := 1) (ret := (some .int)) (by decide) rfl ?_
  intro p e s m args below meth c s₁ B hml hv
  obtain ⟨rfl, hsz, hP, hK, hD0⟩ := hv
  have hx := B.exec
  have hb := B.bytes
  have hr := B.returns
  have hts := atoms_spec (ws := wq (Cond.code yX6_size cX6_size 1 (some .int))) B.pre
  have hown : s.vm.findClass RX6 = some m.cls := findClass_of_methodNamed B.named
  have hlocks := B.notSynchronized
  clear B
  subst hsz
  have hD := hD0.self (sz := s.heap.size)
  generalize hAe : va_A (wX6 dA ad c_size c_length c_place c_fault c_faultPlace c_begin c_bytes c_draft_terms) s.heap.size = A at hD ⊢
  have hA : ∀ q : Nat, s.heap.size ≤ q → A q := fun q h => by rw [← hAe]; exact Or.inr h
  clear hAe hD0
  have hS : va_S A s.heap s.heap [] := va_S.rf
  have hl := lv_entry ([.ref (ad 0)]) (n := 1) (Nat.le_of_ble_eq_true rfl)
  rw [lg_entry_eq]
  generalize (lg_sl ([.ref (ad 0)]) ++ List.replicate (1 - (lg_sl ([.ref (ad 0)])).length) Slot.unset).toArray = ls at hl ⊢
  have hl : lv_has ls 1 [(0, .ref (ad 0))] := hl
  change W p l e rmX6_size s m ([.ref (ad 0)] : List Value).toArray below meth c s.heap [] 0 0 _ _
  unfold fX6_size at hf
  refine lv_aload_n hx hb dX6_size_0 rfl (lv_at hl 0 rfl) ?_
  refine va_get (D := (dC, dI)) (ci := 6) (v := .int c_size) (C := RX6) (T := TX6) (N := 8) hx hb hts (fun w h => gw_mem (inX6 w h)) hown hK.1 hP 0 rfl rfl 1 (by decide) (hts _ (gw_mem wfX6_15)) (fun _ h9 => h9) rfl dX6_size_1 ?_
  cases hf
  exact W.iret hx hb hr (fun t ht _ => gqi hP hD hS ht) hS.2.2 dX6_size_4
abbrev rmX6_clear : Room := { frames := 0, cells := 0, slots := 0, locals := 0 }
set_option maxHeartbeats 4000000 in
set_option maxRecDepth 100000 in
theorem tX6_clear (l : Launch) (dC : Nat → ClassId) (dI : Nat → Nat → Nat) (dA : Nat → ClassId) (ad : Nat → Nat) (sz : Nat) {c_size : Int32} {c_length : Int32} {c_place : Int32} {c_fault : Int32} {c_faultPlace : Int32} {c_begin : Int32} {c_bytes : Nat → Int32} {c_draft_terms : Nat → Int32} {o_c_size : Int32} (hf : fX6_clear c_size = some (o_c_size)) : Met l yX6_clear (wq (Cond.code yX6_clear cX6_clear 1 none)) rmX6_clear (gP [.ref (ad 0)] (dC, dI) dA (wX6 dA ad c_size c_length c_place c_fault c_faultPlace c_begin c_bytes c_draft_terms) sz) (gQv (dC, dI) (wX6 dA ad o_c_size c_length c_place c_fault c_faultPlace c_begin c_bytes c_draft_terms) (va_A (wX6 dA ad c_size c_length c_place c_fault c_faultPlace c_begin c_bytes c_draft_terms) sz)) 0 0 (va_A (wX6 dA ad c_size c_length c_place c_fault c_faultPlace c_begin c_bytes c_draft_terms) sz) := by
  refine Met.ofW (cc := cX6_clear) (maxL := 1) (ret := none) (by decide) rfl ?_
  intro p e s m args below meth c s₁ B hml hv
  obtain ⟨rfl, hsz, hP, hK, hD0⟩ := hv
  have hx := B.exec
  have hb := B.bytes
  have hr := B.returns
  have hts := atoms_spec (ws := wq (Cond.code yX6_clear cX6_clear 1 none)) B.pre
  have hown : s.vm.findClass RX6 = some m.cls := findClass_of_methodNamed B.named
  have hlocks := B.notSynchronized
  clear B
  subst hsz
  have hD := hD0.self (sz := s.heap.size)
  generalize hAe : va_A (wX6 dA ad c_size c_length c_place c_fault c_faultPlace c_begin c_bytes c_draft_terms) s.heap.size = A at hD ⊢
  have hA : ∀ q : Nat, s.heap.size ≤ q → A q := fun q h => by rw [← hAe]; exact Or.inr h
  clear hAe hD0
  have hS : va_S A s.heap s.heap [] := va_S.rf
  have hl := lv_entry ([.ref (ad 0)]) (n := 1) (Nat.le_of_ble_eq_true rfl)
  rw [lg_entry_eq]
  generalize (lg_sl ([.ref (ad 0)]) ++ List.replicate (1 - (lg_sl ([.ref (ad 0)])).length) Slot.unset).toArray = ls at hl ⊢
  have hl : lv_has ls 1 [(0, .ref (ad 0))] := hl
  change W p l e rmX6_clear s m ([.ref (ad 0)] : List Value).toArray below meth c s.heap [] 0 0 _ _
  unfold fX6_clear at hf
  refine lv_aload_n hx hb dX6_clear_0 rfl (lv_at hl 0 rfl) ?_
  refine lv_iconst (v := 0) hx hb dX6_clear_1 (by decide) ?_
  refine va_put (D := (dC, dI)) (ci := 6) (v := .int 0) (ty := .int) (C := RX6) (T := TX6) (N := 8) hx hb hts (fun w h => gw_mem (inX6 w h)) tyX6 tyX6_ok nmX6 hown hK.1 hP hD hS 0 rfl rfl 1 (by decide) (hts _ (gw_mem wfX6_15)) (fun _ h9 => h9) rfl (by decide +kernel) rfl rfl (Nat.le_of_ble_eq_true rfl) dX6_clear_2 (fun H locs hP hD hS => ?_)
  have hP : va_P (dC, dI) vwCl (wX6 dA ad 0 c_length c_place c_fault c_faultPlace c_begin c_bytes c_draft_terms) H := hP
  have hD : va_D A (wX6 dA ad 0 c_length c_place c_fault c_faultPlace c_begin c_bytes c_draft_terms) := hD
  cases hf
  exact W.vret hx hb hr (fun t ht _ => gqv hP hD hS ht) hS.2.2 dX6_clear_5
abbrev rmX6_append : Room := { frames := 0, cells := 0, slots := 0, locals := 0 }
set_option maxHeartbeats 4000000 in
set_option maxRecDepth 100000 in
theorem tX6_append (l : Launch) (dC : Nat → ClassId) (dI : Nat → Nat → Nat) (dA : Nat → ClassId) (ad : Nat → Nat) (sz : Nat) {p1 : Int32} {c_size : Int32} {c_length : Int32} {c_place : Int32} {c_fault : Int32} {c_faultPlace : Int32} {c_begin : Int32} {c_bytes : Nat → Int32} {c_draft_terms : Nat → Int32} {o_c_size : Int32} {o_c_bytes : Nat → Int32} (hf : fX6_append p1 c_size c_bytes = some (o_c_size, o_c_bytes)) : Met l yX6_append (wq (Cond.code yX6_append cX6_append 3 none)) rmX6_append (gP [.ref (ad 0), .int p1] (dC, dI) dA (wX6 dA ad c_size c_length c_place c_fault c_faultPlace c_begin c_bytes c_draft_terms) sz) (gQv (dC, dI) (wX6 dA ad o_c_size c_length c_place c_fault c_faultPlace c_begin o_c_bytes c_draft_terms) (va_A (wX6 dA ad c_size c_length c_place c_fault c_faultPlace c_begin c_bytes c_draft_terms) sz)) 0 0 (va_A (wX6 dA ad c_size c_length c_place c_fault c_faultPlace c_begin c_bytes c_draft_terms) sz) := by
  refine Met.ofW (cc := cX6_append) (maxL := 3) (ret := none) (by decide) rfl ?_
  intro p e s m args below meth c s₁ B hml hv
  obtain ⟨rfl, hsz, hP, hK, hD0⟩ := hv
  have hx := B.exec
  have hb := B.bytes
  have hr := B.returns
  have hts := atoms_spec (ws := wq (Cond.code yX6_append cX6_append 3 none)) B.pre
  have hown : s.vm.findClass RX6 = some m.cls := findClass_of_methodNamed B.named
  have hlocks := B.notSynchronized
  clear B
  subst hsz
  have hD := hD0.self (sz := s.heap.size)
  generalize hAe : va_A (wX6 dA ad c_size c_length c_place c_fault c_faultPlace c_begin c_bytes c_draft_terms) s.heap.size = A at hD ⊢
  have hA : ∀ q : Nat, s.heap.size ≤ q → A q := fun q h => by rw [← hAe]; exact Or.inr h
  clear hAe hD0
  have hS : va_S A s.heap s.heap [] := va_S.rf
  have hl := lv_entry ([.ref (ad 0), .int p1]) (n := 3) (Nat.le_of_ble_eq_true rfl)
  rw [lg_entry_eq]
  generalize (lg_sl ([.ref (ad 0), .int p1]) ++ List.replicate (3 - (lg_sl ([.ref (ad 0), .int p1])).length) Slot.unset).toArray = ls at hl ⊢
  have hl : lv_has ls 3 [(0, .ref (ad 0)), (1, .int p1)] := hl
  change W p l e rmX6_append s m ([.ref (ad 0), .int p1] : List Value).toArray below meth c s.heap [] 0 0 _ _
  generalize hQ : MQ below (gQv (dC, dI) (wX6 dA ad o_c_size c_length c_place c_fault c_faultPlace c_begin o_c_bytes c_draft_terms) A) ([.ref (ad 0), .int p1] : List Value).toArray s 0 0 A = Q
  have LP3 : ∀ (n : Nat) (x1 : Int32) (c_length : Int32) (c_place : Int32) (c_fault : Int32) (c_faultPlace : Int32) (c_begin : Int32) (c_draft_terms : Nat → Int32) (x2 : Int32) (c_size : Int32) (c_bytes : Nat → Int32) (o_c_size : Int32) (o_c_bytes : Nat → Int32) (H : Heap) (locs : List Loc) (ls : Array Slot), va_P (dC, dI) vwCl (wX6 dA ad c_size c_length c_place c_fault c_faultPlace c_begin c_bytes c_draft_terms) H → va_D A (wX6 dA ad c_size c_length c_place c_fault c_faultPlace c_begin c_bytes c_draft_terms) → va_S A s.heap H locs → lpX6_append_3 x1 n x2 c_size c_bytes = some (o_c_size, o_c_bytes) → lv_has ls 3 [(0, .ref (ad 0)), (1, .int x1), (2, .int x2)] → (∀ (H : Heap) (locs : List Loc) (ls : Array Slot), va_P (dC, dI) vwCl (wX6 dA ad o_c_size c_length c_place c_fault c_faultPlace c_begin o_c_bytes c_draft_terms) H → va_D A (wX6 dA ad o_c_size c_length c_place c_fault c_faultPlace c_begin o_c_bytes c_draft_terms) → va_S A s.heap H locs → lv_has ls 3 [] → W p l e rmX6_append s m ([.ref (ad 0), .int p1] : List Value).toArray below meth c H locs 0 0 Q (F0 m 49 ls [])) → W p l e rmX6_append s m ([.ref (ad 0), .int p1] : List Value).toArray below meth c H locs 0 0 Q (F0 m 3 ls []) := by
    intro n
    induction n with
    | zero =>
      intro x1 c_length c_place c_fault c_faultPlace c_begin c_draft_terms x2 c_size c_bytes o_c_size o_c_bytes H locs ls hP hD hS hf hl hk
      cases hf
    | succ n ih3 =>
      intro x1 c_length c_place c_fault c_faultPlace c_begin c_draft_terms x2 c_size c_bytes o_c_size o_c_bytes H locs ls hP hD hS hf hl hk
      rw [lpX6_append_3.eq_2] at hf
      refine lv_iload_n hx hb dX6_append_3 rfl (lv_at hl 2 rfl) ?_
      refine lv_if_lt (tgt := 49) hx hb dX6_append_4 (by decide) (fun k4 => ?_) (fun k4 => ?_)
      · replace hf := ifp k4 hf
        cases hf
        exact hk _ _ _ hP hD hS (lv_sub hl [] rfl)
      · replace hf := ifn k4 hf
        refine lv_aload_n hx hb dX6_append_7 rfl (lv_at hl 0 rfl) ?_
        refine va_get (D := (dC, dI)) (ci := 6) (v := .int c_size) (C := RX6) (T := TX6) (N := 8) hx hb hts (fun w h => gw_mem (inX6 w h)) hown hK.1 hP 0 rfl rfl 1 (by decide) (hts _ (gw_mem wfX6_15)) (fun _ h9 => h9) rfl dX6_append_8 ?_
        refine lv_sipush (v := 200) hx hb dX6_append_11 (by decide) ?_
        refine lv_icmp_ge (tgt := 49) hx hb dX6_append_14 (by decide) (fun k5 => ?_) (fun k5 => ?_)
        · replace hf := ifp k5 hf
          cases hf
          exact hk _ _ _ hP hD hS (lv_sub hl [] rfl)
        · replace hf := ifn k5 hf
          refine lv_aload_n hx hb dX6_append_17 rfl (lv_at hl 0 rfl) ?_
          refine va_get (D := (dC, dI)) (ci := 6) (v := .ref (ad 1)) (C := RX6) (T := TX6) (N := 8) hx hb hts (fun w h => gw_mem (inX6 w h)) hown hK.1 hP 0 rfl rfl 0 (by decide) (hts _ (gw_mem wfX6_9)) (fun _ h9 => h9) rfl dX6_append_18 ?_
          refine lv_aload_n hx hb dX6_append_21 rfl (lv_at hl 0 rfl) ?_
          refine va_get (D := (dC, dI)) (ci := 6) (v := .int c_size) (C := RX6) (T := TX6) (N := 8) hx hb hts (fun w h => gw_mem (inX6 w h)) hown hK.1 hP 0 rfl rfl 1 (by decide) (hts _ (gw_mem wfX6_15)) (fun _ h9 => h9) rfl dX6_append_22 ?_
          refine lv_iload_n hx hb dX6_append_25 rfl (lv_at hl 1 rfl) ?_
          refine lv_iload_n hx hb dX6_append_26 rfl (lv_at hl 2 rfl) ?_
          refine lv_ishr hx hb dX6_append_27 ?_
          refine lv_sipush (v := 255) hx hb dX6_append_28 (by decide) ?_
          refine lv_iand hx hb dX6_append_31 ?_
          obtain ⟨h6, hf⟩ := og_some hf
          obtain ⟨w7, ew7⟩ : ∃ y : Nat → Int32, y = upd c_bytes (Int32.toNatClampNeg c_size) ((x1 >>> (x2 &&& 31)) &&& 255) := ⟨_, rfl⟩
          replace hf := nm_at hf ew7
          refine va_iast hx hb hK.1 hP hD hS 1 0 rfl rfl (okI_in h6) dX6_append_32 (fun H locs hP hD hS => ?_)
          have hP : va_P (dC, dI) vwCl (wX6 dA ad c_size c_length c_place c_fault c_faultPlace c_begin w7 c_draft_terms) H := by rw [ew7]; exact hP
          have hD : va_D A (wX6 dA ad c_size c_length c_place c_fault c_faultPlace c_begin w7 c_draft_terms) := by rw [ew7]; exact hD
          refine lv_aload_n hx hb dX6_append_33 rfl (lv_at hl 0 rfl) ?_
          refine lv_dup hx hb dX6_append_34 rfl ?_
          refine va_get (D := (dC, dI)) (ci := 6) (v := .int c_size) (C := RX6) (T := TX6) (N := 8) hx hb hts (fun w h => gw_mem (inX6 w h)) hown hK.1 hP 0 rfl rfl 1 (by decide) (hts _ (gw_mem wfX6_15)) (fun _ h9 => h9) rfl dX6_append_35 ?_
          refine lv_iconst (v := 1) hx hb dX6_append_38 (by decide) ?_
          refine lv_iadd hx hb dX6_append_39 ?_
          refine lv_topi (fun w8 ew8 => ?_)
          replace hf := nm_at hf ew8
          refine va_put (D := (dC, dI)) (ci := 6) (v := .int w8) (ty := .int) (C := RX6) (T := TX6) (N := 8) hx hb hts (fun w h => gw_mem (inX6 w h)) tyX6 tyX6_ok nmX6 hown hK.1 hP hD hS 0 rfl rfl 1 (by decide) (hts _ (gw_mem wfX6_15)) (fun _ h9 => h9) rfl (by decide +kernel) rfl rfl (Nat.le_of_ble_eq_true rfl) dX6_append_40 (fun H locs hP hD hS => ?_)
          have hP : va_P (dC, dI) vwCl (wX6 dA ad w8 c_length c_place c_fault c_faultPlace c_begin w7 c_draft_terms) H := hP
          have hD : va_D A (wX6 dA ad w8 c_length c_place c_fault c_faultPlace c_begin w7 c_draft_terms) := hD
          obtain ⟨w9, ew9⟩ : ∃ y : Int32, y = x2 + (-8) := ⟨_, rfl⟩
          replace hf := nm_at hf ew9
          refine lv_iinc (v := w9) (lv' := [(2, .int w9), (0, .ref (ad 0)), (1, .int x1)]) hx hb dX6_append_43 hl (k := 2) rfl (by rw [ew9]; rfl) (by decide) rfl (fun ls hl => ?_)
          refine lv_goto (tgt := 3) hx hb dX6_append_46 (by decide) ?_
          exact ih3 _ _ _ _ _ _ _ _ _ _ _ _ _ _ _ hP hD hS hf (lv_sub hl [1, 2, 0] rfl) hk
  subst hQ
  unfold fX6_append at hf
  refine lv_bipush (v := 24) hx hb dX6_append_0 (by decide) ?_
  refine lv_istore_n (lv' := [(2, .int 24), (0, .ref (ad 0)), (1, .int p1)]) hx hb dX6_append_2 rfl hl (by decide) rfl (fun ls hl => ?_)
  obtain ⟨c_size_1, c_bytes_2, v3, hf⟩ := bd2_some hf
  refine LP3 FU _ _ _ _ _ _ _ _ _ _ _ _ _ _ _ hP hD hS v3 (lv_sub hl [1, 2, 0] rfl) (fun H locs ls hP hD hS hl => ?_)
  cases hf
  exact W.vret hx hb hr (fun t ht _ => gqv hP hD hS ht) hS.2.2 dX6_append_49
theorem ccX6_X8_longer {R : Room} {s : State} {args : Array Value} {c0 : Cond} (hN : gN s) (ht : ∀ w ∈ wq c0, w.before args s = true) (hR : rmX8_longer.frames + 1 ≤ R.frames ∧ 8 + (2 + 11) + rmX8_longer.locals ≤ R.locals) : va_CN R s args RX6 41 yX8_longer RX8 cX8_longer 2 (some .int) (wq (.code yX8_longer cX8_longer 2 (some .int))) rmX8_longer 0 0 2 ∧ (Cond.static yX8_longer).before args s = true ∧ True := gCSN 2 hN ht wcX8_longer wmX6_41 wtX8_longer wnX8 (by decide +kernel) rfl rfl hR
abbrev rmX6_readMoves : Room := { frames := 1, cells := 0, slots := 0, locals := 21 }
set_option maxHeartbeats 4000000 in
set_option maxRecDepth 100000 in
theorem tX6_readMoves (l : Launch) (dC : Nat → ClassId) (dI : Nat → Nat → Nat) (dA : Nat → ClassId) (ad : Nat → Nat) (sz : Nat) {p1 : Int32} {c_size : Int32} {c_length : Int32} {c_place : Int32} {c_fault : Int32} {c_faultPlace : Int32} {c_begin : Int32} {c_bytes : Nat → Int32} {c_draft_terms : Nat → Int32} {r : Int32} (hf : fX6_readMoves p1 c_bytes = some (r)) : Met l yX6_readMoves (wq (Cond.code yX6_readMoves cX6_readMoves 4 (some .int))) rmX6_readMoves (gP [.ref (ad 0), .int p1] (dC, dI) dA (wX6 dA ad c_size c_length c_place c_fault c_faultPlace c_begin c_bytes c_draft_terms) sz) (gQi (dC, dI) r (wX6 dA ad c_size c_length c_place c_fault c_faultPlace c_begin c_bytes c_draft_terms) (va_A (wX6 dA ad c_size c_length c_place c_fault c_faultPlace c_begin c_bytes c_draft_terms) sz)) 0 0 (va_A (wX6 dA ad c_size c_length c_place c_fault c_faultPlace c_begin c_bytes c_draft_terms) sz) := by
  refine Met.ofW (cc := cX6_readMoves) (maxL := 4) (ret := (some .int)) (by decide) rfl ?_
  intro p e s m args below meth c s₁ B hml hv
  obtain ⟨rfl, hsz, hP, hK, hD0⟩ := hv
  have hx := B.exec
  have hb := B.bytes
  have hr := B.returns
  have hts := atoms_spec (ws := wq (Cond.code yX6_readMoves cX6_readMoves 4 (some .int))) B.pre
  have hown : s.vm.findClass RX6 = some m.cls := findClass_of_methodNamed B.named
  have hlocks := B.notSynchronized
  clear B
  subst hsz
  have hD := hD0.self (sz := s.heap.size)
  generalize hAe : va_A (wX6 dA ad c_size c_length c_place c_fault c_faultPlace c_begin c_bytes c_draft_terms) s.heap.size = A at hD ⊢
  have hA : ∀ q : Nat, s.heap.size ≤ q → A q := fun q h => by rw [← hAe]; exact Or.inr h
  clear hAe hD0
  have hS : va_S A s.heap s.heap [] := va_S.rf
  have hl := lv_entry ([.ref (ad 0), .int p1]) (n := 4) (Nat.le_of_ble_eq_true rfl)
  rw [lg_entry_eq]
  generalize (lg_sl ([.ref (ad 0), .int p1]) ++ List.replicate (4 - (lg_sl ([.ref (ad 0), .int p1])).length) Slot.unset).toArray = ls at hl ⊢
  have hl : lv_has ls 4 [(0, .ref (ad 0)), (1, .int p1)] := hl
  change W p l e rmX6_readMoves s m ([.ref (ad 0), .int p1] : List Value).toArray below meth c s.heap [] 0 0 _ _
  generalize hQ : MQ below (gQi (dC, dI) r (wX6 dA ad c_size c_length c_place c_fault c_faultPlace c_begin c_bytes c_draft_terms) A) ([.ref (ad 0), .int p1] : List Value).toArray s 0 0 A = Q
  have LP4 : ∀ (n : Nat) (x1 : Int32) (c_bytes : Nat → Int32) (c_size : Int32) (c_length : Int32) (c_place : Int32) (c_fault : Int32) (c_faultPlace : Int32) (c_begin : Int32) (c_draft_terms : Nat → Int32) (x2 : Int32) (x3 : Int32) (tgo : Nat) (o2 : Int32) (H : Heap) (locs : List Loc) (ls : Array Slot), va_P (dC, dI) vwCl (wX6 dA ad c_size c_length c_place c_fault c_faultPlace c_begin c_bytes c_draft_terms) H → va_D A (wX6 dA ad c_size c_length c_place c_fault c_faultPlace c_begin c_bytes c_draft_terms) → va_S A s.heap H locs → lpX6_readMoves_4 x1 c_bytes n x2 x3 = some (tgo, o2) → lv_has ls 4 [(0, .ref (ad 0)), (1, .int x1), (2, .int x2), (3, .int x3)] → (tgo = 0 → ∀ (H : Heap) (locs : List Loc) (ls : Array Slot), va_P (dC, dI) vwCl (wX6 dA ad c_size c_length c_place c_fault c_faultPlace c_begin c_bytes c_draft_terms) H → va_D A (wX6 dA ad c_size c_length c_place c_fault c_faultPlace c_begin c_bytes c_draft_terms) → va_S A s.heap H locs → lv_has ls 4 [] → W p l e rmX6_readMoves s m ([.ref (ad 0), .int p1] : List Value).toArray below meth c H locs 0 0 Q (F0 m 37 ls [])) → (tgo = 1 → ∀ (H : Heap) (locs : List Loc) (ls : Array Slot), va_P (dC, dI) vwCl (wX6 dA ad c_size c_length c_place c_fault c_faultPlace c_begin c_bytes c_draft_terms) H → va_D A (wX6 dA ad c_size c_length c_place c_fault c_faultPlace c_begin c_bytes c_draft_terms) → va_S A s.heap H locs → lv_has ls 4 [(2, .int o2)] → W p l e rmX6_readMoves s m ([.ref (ad 0), .int p1] : List Value).toArray below meth c H locs 0 0 Q (F0 m 66 ls [])) → W p l e rmX6_readMoves s m ([.ref (ad 0), .int p1] : List Value).toArray below meth c H locs 0 0 Q (F0 m 4 ls []) := by
    intro n
    induction n with
    | zero =>
      intro x1 c_bytes c_size c_length c_place c_fault c_faultPlace c_begin c_draft_terms x2 x3 tgo o2 H locs ls hP hD hS hf hl hk0 hk1
      cases hf
    | succ n ih4 =>
      intro x1 c_bytes c_size c_length c_place c_fault c_faultPlace c_begin c_draft_terms x2 x3 tgo o2 H locs ls hP hD hS hf hl hk0 hk1
      rw [lpX6_readMoves_4.eq_2] at hf
      refine lv_iload_n hx hb dX6_readMoves_4 rfl (lv_at hl 3 rfl) ?_
      refine lv_iload_n hx hb dX6_readMoves_5 rfl (lv_at hl 1 rfl) ?_
      refine lv_icmp_ge (tgt := 66) hx hb dX6_readMoves_6 (by decide) (fun k4 => ?_) (fun k4 => ?_)
      · replace hf := ifp k4 hf
        cases hf
        exact hk1 rfl _ _ _ hP hD hS (lv_sub hl [2] rfl)
      · replace hf := ifn k4 hf
        refine lv_iload_n hx hb dX6_readMoves_9 rfl (lv_at hl 3 rfl) ?_
        refine lv_bipush (v := 6) hx hb dX6_readMoves_10 (by decide) ?_
        refine lv_icmp_ge (tgt := 66) hx hb dX6_readMoves_12 (by decide) (fun k5 => ?_) (fun k5 => ?_)
        · replace hf := ifp k5 hf
          cases hf
          exact hk1 rfl _ _ _ hP hD hS (lv_sub hl [2] rfl)
        · replace hf := ifn k5 hf
          refine lv_aload_n hx hb dX6_readMoves_15 rfl (lv_at hl 0 rfl) ?_
          refine va_get (D := (dC, dI)) (ci := 6) (v := .ref (ad 1)) (C := RX6) (T := TX6) (N := 8) hx hb hts (fun w h => gw_mem (inX6 w h)) hown hK.1 hP 0 rfl rfl 0 (by decide) (hts _ (gw_mem wfX6_9)) (fun _ h9 => h9) rfl dX6_readMoves_16 ?_
          refine lv_iload_n hx hb dX6_readMoves_19 rfl (lv_at hl 3 rfl) ?_
          obtain ⟨h6, hf⟩ := og_some hf
          refine va_iald hx hb hK.1 hP 1 0 rfl rfl (okI_in h6) dX6_readMoves_20 ?_
          refine lv_bipush (v := 117) hx hb dX6_readMoves_21 (by decide) ?_
          refine lv_icmp_eq (tgt := 39) hx hb dX6_readMoves_23 (by decide) (fun k7 => ?_) (fun k7 => ?_)
          · replace hf := ifp k7 hf
            refine lv_iload_n hx hb dX6_readMoves_39 rfl (lv_at hl 2 rfl) ?_
            refine lv_aload_n hx hb dX6_readMoves_40 rfl (lv_at hl 0 rfl) ?_
            refine va_get (D := (dC, dI)) (ci := 6) (v := .ref (ad 1)) (C := RX6) (T := TX6) (N := 8) hx hb hts (fun w h => gw_mem (inX6 w h)) hown hK.1 hP 0 rfl rfl 0 (by decide) (hts _ (gw_mem wfX6_9)) (fun _ h9 => h9) rfl dX6_readMoves_41 ?_
            refine lv_iload_n hx hb dX6_readMoves_44 rfl (lv_at hl 3 rfl) ?_
            obtain ⟨h8, hf⟩ := og_some hf
            refine va_iald hx hb hK.1 hP 1 0 rfl rfl (okI_in h8) dX6_readMoves_45 ?_
            refine lv_bipush (v := 117) hx hb dX6_readMoves_46 (by decide) ?_
            obtain ⟨j10, v12, hf⟩ := bd1_some hf
            have J11 : ∀ (H : Heap) (locs : List Loc) (ls : Array Slot), va_P (dC, dI) vwCl (wX6 dA ad c_size c_length c_place c_fault c_faultPlace c_begin c_bytes c_draft_terms) H → va_D A (wX6 dA ad c_size c_length c_place c_fault c_faultPlace c_begin c_bytes c_draft_terms) → va_S A s.heap H locs → lv_has ls 4 [(0, .ref (ad 0)), (1, .int x1), (3, .int x3)] → W p l e rmX6_readMoves s m ([.ref (ad 0), .int p1] : List Value).toArray below meth c H locs 0 0 Q (F0 m 56 ls [.int j10, .int x2]) := by
              intro H locs ls hP hD hS hl
              obtain ⟨r13, v14, hf⟩ := bd1_some hf
              refine gci0 (va_runSN (As := [.int x2, .int j10]) (rest := []) ⟨hx, hb, hml, hown, hts⟩ (tX8_longer l dC dI dA H.size v14) (ccX6_X8_longer hK.2 hts ⟨Nat.le_of_ble_eq_true rfl, Nat.le_of_ble_eq_true rfl⟩) (gPreS0 hK) rfl rfl hl.1 rfl (lv_room (Nat.le_of_ble_eq_true rfl)) dX6_readMoves_56 ⟨Nat.le_of_ble_eq_true rfl, Nat.le_of_ble_eq_true rfl⟩) hP hS hA (fun H locs hP hS => ?_)
              refine lv_istore_n (lv' := [(2, .int r13), (0, .ref (ad 0)), (1, .int x1), (3, .int x3)]) hx hb dX6_readMoves_59 rfl hl (by decide) rfl (fun ls hl => ?_)
              obtain ⟨w15, ew15⟩ : ∃ y : Int32, y = x3 + 1 := ⟨_, rfl⟩
              replace hf := nm_at hf ew15
              refine lv_iinc (v := w15) (lv' := [(3, .int w15), (2, .int r13), (0, .ref (ad 0)), (1, .int x1)]) hx hb dX6_readMoves_60 hl (k := 3) rfl (by rw [ew15]; rfl) (by decide) rfl (fun ls hl => ?_)
              refine lv_goto (tgt := 4) hx hb dX6_readMoves_63 (by decide) ?_
              exact ih4 _ _ _ _ _ _ _ _ _ _ _ _ _ _ _ _ hP hD hS hf (lv_sub hl [2, 3, 1, 0] rfl) hk0 hk1
            replace hf := v12
            clear v12
            refine lv_icmp_ne (tgt := 55) hx hb dX6_readMoves_48 (by decide) (fun k9 => ?_) (fun k9 => ?_)
            · replace hf := ifn k9 hf
              refine lv_iconst (v := 0) hx hb dX6_readMoves_55 (by decide) ?_
              cases hf
              exact J11 _ _ _ hP hD hS (lv_sub hl [0, 1, 3] rfl)
            · replace hf := ifp k9 hf
              refine lv_iconst (v := 1) hx hb dX6_readMoves_51 (by decide) ?_
              refine lv_goto (tgt := 56) hx hb dX6_readMoves_52 (by decide) ?_
              cases hf
              exact J11 _ _ _ hP hD hS (lv_sub hl [0, 1, 3] rfl)
          · replace hf := ifn k7 hf
            refine lv_aload_n hx hb dX6_readMoves_26 rfl (lv_at hl 0 rfl) ?_
            refine va_get (D := (dC, dI)) (ci := 6) (v := .ref (ad 1)) (C := RX6) (T := TX6) (N := 8) hx hb hts (fun w h => gw_mem (inX6 w h)) hown hK.1 hP 0 rfl rfl 0 (by decide) (hts _ (gw_mem wfX6_9)) (fun _ h9 => h9) rfl dX6_readMoves_27 ?_
            refine lv_iload_n hx hb dX6_readMoves_30 rfl (lv_at hl 3 rfl) ?_
            obtain ⟨h16, hf⟩ := og_some hf
            refine va_iald hx hb hK.1 hP 1 0 rfl rfl (okI_in h16) dX6_readMoves_31 ?_
            refine lv_bipush (v := 100) hx hb dX6_readMoves_32 (by decide) ?_
            refine lv_icmp_eq (tgt := 39) hx hb dX6_readMoves_34 (by decide) (fun k17 => ?_) (fun k17 => ?_)
            · replace hf := ifp k17 hf
              refine lv_iload_n hx hb dX6_readMoves_39 rfl (lv_at hl 2 rfl) ?_
              refine lv_aload_n hx hb dX6_readMoves_40 rfl (lv_at hl 0 rfl) ?_
              refine va_get (D := (dC, dI)) (ci := 6) (v := .ref (ad 1)) (C := RX6) (T := TX6) (N := 8) hx hb hts (fun w h => gw_mem (inX6 w h)) hown hK.1 hP 0 rfl rfl 0 (by decide) (hts _ (gw_mem wfX6_9)) (fun _ h9 => h9) rfl dX6_readMoves_41 ?_
              refine lv_iload_n hx hb dX6_readMoves_44 rfl (lv_at hl 3 rfl) ?_
              obtain ⟨h18, hf⟩ := og_some hf
              refine va_iald hx hb hK.1 hP 1 0 rfl rfl (okI_in h18) dX6_readMoves_45 ?_
              refine lv_bipush (v := 117) hx hb dX6_readMoves_46 (by decide) ?_
              obtain ⟨j20, v22, hf⟩ := bd1_some hf
              have J21 : ∀ (H : Heap) (locs : List Loc) (ls : Array Slot), va_P (dC, dI) vwCl (wX6 dA ad c_size c_length c_place c_fault c_faultPlace c_begin c_bytes c_draft_terms) H → va_D A (wX6 dA ad c_size c_length c_place c_fault c_faultPlace c_begin c_bytes c_draft_terms) → va_S A s.heap H locs → lv_has ls 4 [(0, .ref (ad 0)), (1, .int x1), (3, .int x3)] → W p l e rmX6_readMoves s m ([.ref (ad 0), .int p1] : List Value).toArray below meth c H locs 0 0 Q (F0 m 56 ls [.int j20, .int x2]) := by
                intro H locs ls hP hD hS hl
                obtain ⟨r23, v24, hf⟩ := bd1_some hf
                refine gci0 (va_runSN (As := [.int x2, .int j20]) (rest := []) ⟨hx, hb, hml, hown, hts⟩ (tX8_longer l dC dI dA H.size v24) (ccX6_X8_longer hK.2 hts ⟨Nat.le_of_ble_eq_true rfl, Nat.le_of_ble_eq_true rfl⟩) (gPreS0 hK) rfl rfl hl.1 rfl (lv_room (Nat.le_of_ble_eq_true rfl)) dX6_readMoves_56 ⟨Nat.le_of_ble_eq_true rfl, Nat.le_of_ble_eq_true rfl⟩) hP hS hA (fun H locs hP hS => ?_)
                refine lv_istore_n (lv' := [(2, .int r23), (0, .ref (ad 0)), (1, .int x1), (3, .int x3)]) hx hb dX6_readMoves_59 rfl hl (by decide) rfl (fun ls hl => ?_)
                obtain ⟨w25, ew25⟩ : ∃ y : Int32, y = x3 + 1 := ⟨_, rfl⟩
                replace hf := nm_at hf ew25
                refine lv_iinc (v := w25) (lv' := [(3, .int w25), (2, .int r23), (0, .ref (ad 0)), (1, .int x1)]) hx hb dX6_readMoves_60 hl (k := 3) rfl (by rw [ew25]; rfl) (by decide) rfl (fun ls hl => ?_)
                refine lv_goto (tgt := 4) hx hb dX6_readMoves_63 (by decide) ?_
                exact ih4 _ _ _ _ _ _ _ _ _ _ _ _ _ _ _ _ hP hD hS hf (lv_sub hl [2, 3, 1, 0] rfl) hk0 hk1
              replace hf := v22
              clear v22
              refine lv_icmp_ne (tgt := 55) hx hb dX6_readMoves_48 (by decide) (fun k19 => ?_) (fun k19 => ?_)
              · replace hf := ifn k19 hf
                refine lv_iconst (v := 0) hx hb dX6_readMoves_55 (by decide) ?_
                cases hf
                exact J21 _ _ _ hP hD hS (lv_sub hl [0, 1, 3] rfl)
              · replace hf := ifp k19 hf
                refine lv_iconst (v := 1) hx hb dX6_readMoves_51 (by decide) ?_
                refine lv_goto (tgt := 56) hx hb dX6_readMoves_52 (by decide) ?_
                cases hf
                exact J21 _ _ _ hP hD hS (lv_sub hl [0, 1, 3] rfl)
            · replace hf := ifn k17 hf
              cases hf
              exact hk0 rfl _ _ _ hP hD hS (lv_sub hl [] rfl)
  subst hQ
  unfold fX6_readMoves at hf
  refine lv_iconst (v := 1) hx hb dX6_readMoves_0 (by decide) ?_
  refine lv_istore_n (lv' := [(2, .int 1), (0, .ref (ad 0)), (1, .int p1)]) hx hb dX6_readMoves_1 rfl hl (by decide) rfl (fun ls hl => ?_)
  refine lv_iconst (v := 0) hx hb dX6_readMoves_2 (by decide) ?_
  refine lv_istore_n (lv' := [(3, .int 0), (2, .int 1), (0, .ref (ad 0)), (1, .int p1)]) hx hb dX6_readMoves_3 rfl hl (by decide) rfl (fun ls hl => ?_)
  obtain ⟨tg1, x2, v3, hf⟩ := bd2_some hf
  refine LP4 FU _ _ _ _ _ _ _ _ _ _ _ _ _ _ _ _ hP hD hS v3 (lv_sub hl [2, 3, 1, 0] rfl) (fun etg1 H locs ls hP hD hS hl => ?_) (fun etg1 H locs ls hP hD hS hl => ?_)
  · replace hf := ifp etg1 hf
    refine lv_iconst (v := 0) hx hb dX6_readMoves_37 (by decide) ?_
    cases hf
    exact W.iret hx hb hr (fun t ht _ => gqi hP hD hS ht) hS.2.2 dX6_readMoves_38
  · replace hf := ifn (c := tg1 = 0) (by rw [etg1]; decide) hf
    refine lv_iload_n hx hb dX6_readMoves_66 rfl (lv_at hl 0 rfl) ?_
    cases hf
    exact W.iret hx hb hr (fun t ht _ => gqi hP hD hS ht) hS.2.2 dX6_readMoves_67
abbrev rmX6_byteAt : Room := { frames := 0, cells := 0, slots := 0, locals := 0 }
set_option maxHeartbeats 4000000 in
set_option maxRecDepth 100000 in
theorem tX6_byteAt (l : Launch) (dC : Nat → ClassId) (dI : Nat → Nat → Nat) (dA : Nat → ClassId) (ad : Nat → Nat) (sz : Nat) {p1 : Int32} {c_size : Int32} {c_length : Int32} {c_place : Int32} {c_fault : Int32} {c_faultPlace : Int32} {c_begin : Int32} {c_bytes : Nat → Int32} {c_draft_terms : Nat → Int32} {r : Int32} (hf : fX6_byteAt p1 c_length c_bytes = some (r)) : Met l yX6_byteAt (wq (Cond.code yX6_byteAt cX6_byteAt 2 (some .int))) rmX6_byteAt (gP [.ref (ad 0), .int p1] (dC, dI) dA (wX6 dA ad c_size c_length c_place c_fault c_faultPlace c_begin c_bytes c_draft_terms) sz) (gQi (dC, dI) r (wX6 dA ad c_size c_length c_place c_fault c_faultPlace c_begin c_bytes c_draft_terms) (va_A (wX6 dA ad c_size c_length c_place c_fault c_faultPlace c_begin c_bytes c_draft_terms) sz)) 0 0 (va_A (wX6 dA ad c_size c_length c_place c_fault c_faultPlace c_begin c_bytes c_draft_terms) sz) := by
  refine Met.ofW (cc := cX6_byteAt) (maxL := 2) (ret := (some .int)) (by decide) rfl ?_
  intro p e s m args below meth c s₁ B hml hv
  obtain ⟨rfl, hsz, hP, hK, hD0⟩ := hv
  have hx := B.exec
  have hb := B.bytes
  have hr := B.returns
  have hts := atoms_spec (ws := wq (Cond.code yX6_byteAt cX6_byteAt 2 (some .int))) B.pre
  have hown : s.vm.findClass RX6 = some m.cls := findClass_of_methodNamed B.named
  have hlocks := B.notSynchronized
  clear B
  subst hsz
  have hD := hD0.self (sz := s.heap.size)
  generalize hAe : va_A (wX6 dA ad c_size c_length c_place c_fault c_faultPlace c_begin c_bytes c_draft_terms) s.heap.size = A at hD ⊢
  have hA : ∀ q : Nat, s.heap.size ≤ q → A q := fun q h => by rw [← hAe]; exact Or.inr h
  clear hAe hD0
  have hS : va_S A s.heap s.heap [] := va_S.rf
  have hl := lv_entry ([.ref (ad 0), .int p1]) (n := 2) (Nat.le_of_ble_eq_true rfl)
  rw [lg_entry_eq]
  generalize (lg_sl ([.ref (ad 0), .int p1]) ++ List.replicate (2 - (lg_sl ([.ref (ad 0), .int p1])).length) Slot.unset).toArray = ls at hl ⊢
  have hl : lv_has ls 2 [(0, .ref (ad 0)), (1, .int p1)] := hl
  change W p l e rmX6_byteAt s m ([.ref (ad 0), .int p1] : List Value).toArray below meth c s.heap [] 0 0 _ _
  unfold fX6_byteAt at hf
  refine lv_iconst (v := 0) hx hb dX6_byteAt_0 (by decide) ?_
  refine lv_iload_n hx hb dX6_byteAt_1 rfl (lv_at hl 1 rfl) ?_
  obtain ⟨j2, v4, hf⟩ := bd1_some hf
  have J3 : ∀ (H : Heap) (locs : List Loc) (ls : Array Slot), va_P (dC, dI) vwCl (wX6 dA ad c_size c_length c_place c_fault c_faultPlace c_begin c_bytes c_draft_terms) H → va_D A (wX6 dA ad c_size c_length c_place c_fault c_faultPlace c_begin c_bytes c_draft_terms) → va_S A s.heap H locs → lv_has ls 2 [] → W p l e rmX6_byteAt s m ([.ref (ad 0), .int p1] : List Value).toArray below meth c H locs 0 0 (MQ below (gQi (dC, dI) r (wX6 dA ad c_size c_length c_place c_fault c_faultPlace c_begin c_bytes c_draft_terms) A) ([.ref (ad 0), .int p1] : List Value).toArray s 0 0 A) (F0 m 30 ls [.int j2]) := by
    intro H locs ls hP hD hS hl
    cases hf
    exact W.iret hx hb hr (fun t ht _ => gqi hP hD hS ht) hS.2.2 dX6_byteAt_30
  replace hf := v4
  clear v4
  refine lv_icmp_gt (tgt := 29) hx hb dX6_byteAt_2 (by decide) (fun k1 => ?_) (fun k1 => ?_)
  · replace hf := ifp k1 hf
    refine lv_iconst (v := (-1)) hx hb dX6_byteAt_29 (by decide) ?_
    cases hf
    exact J3 _ _ _ hP hD hS (lv_sub hl [] rfl)
  · replace hf := ifn k1 hf
    refine lv_iload_n hx hb dX6_byteAt_5 rfl (lv_at hl 1 rfl) ?_
    refine lv_aload_n hx hb dX6_byteAt_6 rfl (lv_at hl 0 rfl) ?_
    refine va_get (D := (dC, dI)) (ci := 6) (v := .int c_length) (C := RX6) (T := TX6) (N := 8) hx hb hts (fun w h => gw_mem (inX6 w h)) hown hK.1 hP 0 rfl rfl 3 (by decide) (hts _ (gw_mem wfX6_26)) (fun _ h9 => h9) rfl dX6_byteAt_7 ?_
    refine lv_icmp_ge (tgt := 29) hx hb dX6_byteAt_10 (by decide) (fun k5 => ?_) (fun k5 => ?_)
    · replace hf := ifp k5 hf
      refine lv_iconst (v := (-1)) hx hb dX6_byteAt_29 (by decide) ?_
      cases hf
      exact J3 _ _ _ hP hD hS (lv_sub hl [] rfl)
    · replace hf := ifn k5 hf
      refine lv_iload_n hx hb dX6_byteAt_13 rfl (lv_at hl 1 rfl) ?_
      refine lv_sipush (v := 200) hx hb dX6_byteAt_14 (by decide) ?_
      refine lv_icmp_ge (tgt := 29) hx hb dX6_byteAt_17 (by decide) (fun k6 => ?_) (fun k6 => ?_)
      · replace hf := ifp k6 hf
        refine lv_iconst (v := (-1)) hx hb dX6_byteAt_29 (by decide) ?_
        cases hf
        exact J3 _ _ _ hP hD hS (lv_sub hl [] rfl)
      · replace hf := ifn k6 hf
        refine lv_aload_n hx hb dX6_byteAt_20 rfl (lv_at hl 0 rfl) ?_
        refine va_get (D := (dC, dI)) (ci := 6) (v := .ref (ad 1)) (C := RX6) (T := TX6) (N := 8) hx hb hts (fun w h => gw_mem (inX6 w h)) hown hK.1 hP 0 rfl rfl 0 (by decide) (hts _ (gw_mem wfX6_9)) (fun _ h9 => h9) rfl dX6_byteAt_21 ?_
        refine lv_iload_n hx hb dX6_byteAt_24 rfl (lv_at hl 1 rfl) ?_
        obtain ⟨h7, hf⟩ := og_some hf
        refine va_iald hx hb hK.1 hP 1 0 rfl rfl (okI_in h7) dX6_byteAt_25 ?_
        refine lv_goto (tgt := 30) hx hb dX6_byteAt_26 (by decide) ?_
        cases hf
        exact J3 _ _ _ hP hD hS (lv_sub hl [] rfl)
theorem ccX6_X6_byteAt {R : Room} {s : State} {args : Array Value} {c0 : Cond} (ht : ∀ w ∈ wq c0, w.before args s = true) (hR : rmX6_byteAt.frames + 1 ≤ R.frames ∧ 8 + (2 + 11) + rmX6_byteAt.locals ≤ R.locals) : CallW R s args RX6 RX6 112 yX6_byteAt cX6_byteAt 2 (some .int) (wq (.code yX6_byteAt cX6_byteAt 2 (some .int))) rmX6_byteAt 0 0 1 := gCW 1 ht wcX6_byteAt wmX6_112 wiX6_byteAt weX6_byteAt wnX6 (by decide +kernel) rfl rfl hR
abbrev rmX6_look : Room := { frames := 1, cells := 0, slots := 0, locals := 21 }
set_option maxHeartbeats 4000000 in
set_option maxRecDepth 100000 in
theorem tX6_look (l : Launch) (dC : Nat → ClassId) (dI : Nat → Nat → Nat) (dA : Nat → ClassId) (ad : Nat → Nat) (sz : Nat) {c_size : Int32} {c_length : Int32} {c_place : Int32} {c_fault : Int32} {c_faultPlace : Int32} {c_begin : Int32} {c_bytes : Nat → Int32} {c_draft_terms : Nat → Int32} {r : Int32} {o_c_place : Int32} (hf : fX6_look c_length c_place c_bytes = some (r, o_c_place)) : Met l yX6_look (wq (Cond.code yX6_look cX6_look 1 (some .int))) rmX6_look (gP [.ref (ad 0)] (dC, dI) dA (wX6 dA ad c_size c_length c_place c_fault c_faultPlace c_begin c_bytes c_draft_terms) sz) (gQi (dC, dI) r (wX6 dA ad c_size c_length o_c_place c_fault c_faultPlace c_begin c_bytes c_draft_terms) (va_A (wX6 dA ad c_size c_length c_place c_fault c_faultPlace c_begin c_bytes c_draft_terms) sz)) 0 0 (va_A (wX6 dA ad c_size c_length c_place c_fault c_faultPlace c_begin c_bytes c_draft_terms) sz) := by
  refine Met.ofW (cc := cX6_look) (maxL := 1) (ret := (some .int)) (by decide) rfl ?_
  intro p e s m args below meth c s₁ B hml hv
  obtain ⟨rfl, hsz, hP, hK, hD0⟩ := hv
  have hx := B.exec
  have hb := B.bytes
  have hr := B.returns
  have hts := atoms_spec (ws := wq (Cond.code yX6_look cX6_look 1 (some .int))) B.pre
  have hown : s.vm.findClass RX6 = some m.cls := findClass_of_methodNamed B.named
  have hlocks := B.notSynchronized
  clear B
  subst hsz
  have hD := hD0.self (sz := s.heap.size)
  generalize hAe : va_A (wX6 dA ad c_size c_length c_place c_fault c_faultPlace c_begin c_bytes c_draft_terms) s.heap.size = A at hD ⊢
  have hA : ∀ q : Nat, s.heap.size ≤ q → A q := fun q h => by rw [← hAe]; exact Or.inr h
  clear hAe hD0
  have hS : va_S A s.heap s.heap [] := va_S.rf
  have hl := lv_entry ([.ref (ad 0)]) (n := 1) (Nat.le_of_ble_eq_true rfl)
  rw [lg_entry_eq]
  generalize (lg_sl ([.ref (ad 0)]) ++ List.replicate (1 - (lg_sl ([.ref (ad 0)])).length) Slot.unset).toArray = ls at hl ⊢
  have hl : lv_has ls 1 [(0, .ref (ad 0))] := hl
  change W p l e rmX6_look s m ([.ref (ad 0)] : List Value).toArray below meth c s.heap [] 0 0 _ _
  generalize hQ : MQ below (gQi (dC, dI) r (wX6 dA ad c_size c_length o_c_place c_fault c_faultPlace c_begin c_bytes c_draft_terms) A) ([.ref (ad 0)] : List Value).toArray s 0 0 A = Q
  have LP0 : ∀ (n : Nat) (c_length : Int32) (c_bytes : Nat → Int32) (c_size : Int32) (c_fault : Int32) (c_faultPlace : Int32) (c_begin : Int32) (c_draft_terms : Nat → Int32) (c_place : Int32) (o_c_place : Int32) (H : Heap) (locs : List Loc) (ls : Array Slot), va_P (dC, dI) vwCl (wX6 dA ad c_size c_length c_place c_fault c_faultPlace c_begin c_bytes c_draft_terms) H → va_D A (wX6 dA ad c_size c_length c_place c_fault c_faultPlace c_begin c_bytes c_draft_terms) → va_S A s.heap H locs → lpX6_look_0 c_length c_bytes n c_place = some (o_c_place) → lv_has ls 1 [(0, .ref (ad 0))] → (∀ (H : Heap) (locs : List Loc) (ls : Array Slot), va_P (dC, dI) vwCl (wX6 dA ad c_size c_length o_c_place c_fault c_faultPlace c_begin c_bytes c_draft_terms) H → va_D A (wX6 dA ad c_size c_length o_c_place c_fault c_faultPlace c_begin c_bytes c_draft_terms) → va_S A s.heap H locs → lv_has ls 1 [(0, .ref (ad 0))] → W p l e rmX6_look s m ([.ref (ad 0)] : List Value).toArray below meth c H locs 0 0 Q (F0 m 37 ls [])) → W p l e rmX6_look s m ([.ref (ad 0)] : List Value).toArray below meth c H locs 0 0 Q (F0 m 0 ls []) := by
    intro n
    induction n with
    | zero =>
      intro c_length c_bytes c_size c_fault c_faultPlace c_begin c_draft_terms c_place o_c_place H locs ls hP hD hS hf hl hk
      cases hf
    | succ n ih0 =>
      intro c_length c_bytes c_size c_fault c_faultPlace c_begin c_draft_terms c_place o_c_place H locs ls hP hD hS hf hl hk
      rw [lpX6_look_0.eq_2] at hf
      refine lv_aload_n hx hb dX6_look_0 rfl (lv_at hl 0 rfl) ?_
      refine va_get (D := (dC, dI)) (ci := 6) (v := .int c_place) (C := RX6) (T := TX6) (N := 8) hx hb hts (fun w h => gw_mem (inX6 w h)) hown hK.1 hP 0 rfl rfl 4 (by decide) (hts _ (gw_mem wfX6_29)) (fun _ h9 => h9) rfl dX6_look_1 ?_
      refine lv_aload_n hx hb dX6_look_4 rfl (lv_at hl 0 rfl) ?_
      refine va_get (D := (dC, dI)) (ci := 6) (v := .int c_length) (C := RX6) (T := TX6) (N := 8) hx hb hts (fun w h => gw_mem (inX6 w h)) hown hK.1 hP 0 rfl rfl 3 (by decide) (hts _ (gw_mem wfX6_26)) (fun _ h9 => h9) rfl dX6_look_5 ?_
      refine lv_icmp_ge (tgt := 37) hx hb dX6_look_8 (by decide) (fun k5 => ?_) (fun k5 => ?_)
      · replace hf := ifp k5 hf
        cases hf
        exact hk _ _ _ hP hD hS (lv_sub hl [0] rfl)
      · replace hf := ifn k5 hf
        refine lv_aload_n hx hb dX6_look_11 rfl (lv_at hl 0 rfl) ?_
        refine lv_aload_n hx hb dX6_look_12 rfl (lv_at hl 0 rfl) ?_
        refine va_get (D := (dC, dI)) (ci := 6) (v := .int c_place) (C := RX6) (T := TX6) (N := 8) hx hb hts (fun w h => gw_mem (inX6 w h)) hown hK.1 hP 0 rfl rfl 4 (by decide) (hts _ (gw_mem wfX6_29)) (fun _ h9 => h9) rfl dX6_look_13 ?_
        obtain ⟨r6, v7, hf⟩ := bd1_some hf
        refine gci (va_runV (As := [.int c_place]) (rest := []) ⟨hx, hb, hml, hown, hts⟩ (tX6_byteAt l dC dI dA ad H.size v7) (ccX6_X6_byteAt hts ⟨Nat.le_of_ble_eq_true rfl, Nat.le_of_ble_eq_true rfl⟩) (gPreV (ci := 6) (q0 := 0) hP hK hD rfl rfl) rfl rfl hl.1 rfl (lv_room (Nat.le_of_ble_eq_true rfl)) dX6_look_16 ⟨Nat.le_of_ble_eq_true rfl, Nat.le_of_ble_eq_true rfl⟩) hD hS hA (fun H locs hP hD hS => ?_)
        refine lv_bipush (v := 32) hx hb dX6_look_19 (by decide) ?_
        refine lv_icmp_ne (tgt := 37) hx hb dX6_look_21 (by decide) (fun k8 => ?_) (fun k8 => ?_)
        · replace hf := ifn k8 hf
          cases hf
          exact hk _ _ _ hP hD hS (lv_sub hl [0] rfl)
        · replace hf := ifp k8 hf
          refine lv_aload_n hx hb dX6_look_24 rfl (lv_at hl 0 rfl) ?_
          refine lv_dup hx hb dX6_look_25 rfl ?_
          refine va_get (D := (dC, dI)) (ci := 6) (v := .int c_place) (C := RX6) (T := TX6) (N := 8) hx hb hts (fun w h => gw_mem (inX6 w h)) hown hK.1 hP 0 rfl rfl 4 (by decide) (hts _ (gw_mem wfX6_29)) (fun _ h9 => h9) rfl dX6_look_26 ?_
          refine lv_iconst (v := 1) hx hb dX6_look_29 (by decide) ?_
          refine lv_iadd hx hb dX6_look_30 ?_
          refine lv_topi (fun w9 ew9 => ?_)
          replace hf := nm_at hf ew9
          refine va_put (D := (dC, dI)) (ci := 6) (v := .int w9) (ty := .int) (C := RX6) (T := TX6) (N := 8) hx hb hts (fun w h => gw_mem (inX6 w h)) tyX6 tyX6_ok nmX6 hown hK.1 hP hD hS 0 rfl rfl 4 (by decide) (hts _ (gw_mem wfX6_29)) (fun _ h9 => h9) rfl (by decide +kernel) rfl rfl (Nat.le_of_ble_eq_true rfl) dX6_look_31 (fun H locs hP hD hS => ?_)
          have hP : va_P (dC, dI) vwCl (wX6 dA ad c_size c_length w9 c_fault c_faultPlace c_begin c_bytes c_draft_terms) H := hP
          have hD : va_D A (wX6 dA ad c_size c_length w9 c_fault c_faultPlace c_begin c_bytes c_draft_terms) := hD
          refine lv_goto (tgt := 0) hx hb dX6_look_34 (by decide) ?_
          exact ih0 _ _ _ _ _ _ _ _ _ _ _ _ hP hD hS hf (lv_sub hl [0] rfl) hk
  subst hQ
  unfold fX6_look at hf
  obtain ⟨c_place_1, v2, hf⟩ := bd1_some hf
  refine LP0 FU _ _ _ _ _ _ _ _ _ _ _ _ hP hD hS v2 (lv_sub hl [0] rfl) (fun H locs ls hP hD hS hl => ?_)
  refine lv_aload_n hx hb dX6_look_37 rfl (lv_at hl 0 rfl) ?_
  refine lv_aload_n hx hb dX6_look_38 rfl (lv_at hl 0 rfl) ?_
  refine va_get (D := (dC, dI)) (ci := 6) (v := .int c_place_1) (C := RX6) (T := TX6) (N := 8) hx hb hts (fun w h => gw_mem (inX6 w h)) hown hK.1 hP 0 rfl rfl 4 (by decide) (hts _ (gw_mem wfX6_29)) (fun _ h9 => h9) rfl dX6_look_39 ?_
  obtain ⟨r3, v4, hf⟩ := bd1_some hf
  refine gci (va_runV (As := [.int c_place_1]) (rest := []) ⟨hx, hb, hml, hown, hts⟩ (tX6_byteAt l dC dI dA ad H.size v4) (ccX6_X6_byteAt hts ⟨Nat.le_of_ble_eq_true rfl, Nat.le_of_ble_eq_true rfl⟩) (gPreV (ci := 6) (q0 := 0) hP hK hD rfl rfl) rfl rfl hl.1 rfl (lv_room (Nat.le_of_ble_eq_true rfl)) dX6_look_42 ⟨Nat.le_of_ble_eq_true rfl, Nat.le_of_ble_eq_true rfl⟩) hD hS hA (fun H locs hP hD hS => ?_)
  cases hf
  exact W.iret hx hb hr (fun t ht _ => gqi hP hD hS ht) hS.2.2 dX6_look_45
abbrev rmX6_wrong : Room := { frames := 0, cells := 0, slots := 0, locals := 0 }
set_option maxHeartbeats 4000000 in
set_option maxRecDepth 100000 in
theorem tX6_wrong (l : Launch) (dC : Nat → ClassId) (dI : Nat → Nat → Nat) (dA : Nat → ClassId) (ad : Nat → Nat) (sz : Nat) {p1 : Int32} {p2 : Int32} {c_size : Int32} {c_length : Int32} {c_place : Int32} {c_fault : Int32} {c_faultPlace : Int32} {c_begin : Int32} {c_bytes : Nat → Int32} {c_draft_terms : Nat → Int32} {r : Int32} {o_c_fault : Int32} {o_c_faultPlace : Int32} (hf : fX6_wrong p1 p2 c_fault c_faultPlace = some (r, o_c_fault, o_c_faultPlace)) : Met l yX6_wrong (wq (Cond.code yX6_wrong cX6_wrong 3 (some .int))) rmX6_wrong (gP [.ref (ad 0), .int p1, .int p2] (dC, dI) dA (wX6 dA ad c_size c_length c_place c_fault c_faultPlace c_begin c_bytes c_draft_terms) sz) (gQi (dC, dI) r (wX6 dA ad c_size c_length c_place o_c_fault o_c_faultPlace c_begin c_bytes c_draft_terms) (va_A (wX6 dA ad c_size c_length c_place c_fault c_faultPlace c_begin c_bytes c_draft_terms) sz)) 0 0 (va_A (wX6 dA ad c_size c_length c_place c_fault c_faultPlace c_begin c_bytes c_draft_terms) sz) := by
  refine Met.ofW (cc := cX6_wrong) (maxL := 3) (ret := (some .int)) (by decide) rfl ?_
  intro p e s m args below meth c s₁ B hml hv
  obtain ⟨rfl, hsz, hP, hK, hD0⟩ := hv
  have hx := B.exec
  have hb := B.bytes
  have hr := B.returns
  have hts := atoms_spec (ws := wq (Cond.code yX6_wrong cX6_wrong 3 (some .int))) B.pre
  have hown : s.vm.findClass RX6 = some m.cls := findClass_of_methodNamed B.named
  have hlocks := B.notSynchronized
  clear B
  subst hsz
  have hD := hD0.self (sz := s.heap.size)
  generalize hAe : va_A (wX6 dA ad c_size c_length c_place c_fault c_faultPlace c_begin c_bytes c_draft_terms) s.heap.size = A at hD ⊢
  have hA : ∀ q : Nat, s.heap.size ≤ q → A q := fun q h => by rw [← hAe]; exact Or.inr h
  clear hAe hD0
  have hS : va_S A s.heap s.heap [] := va_S.rf
  have hl := lv_entry ([.ref (ad 0), .int p1, .int p2]) (n := 3) (Nat.le_of_ble_eq_true rfl)
  rw [lg_entry_eq]
  generalize (lg_sl ([.ref (ad 0), .int p1, .int p2]) ++ List.replicate (3 - (lg_sl ([.ref (ad 0), .int p1, .int p2])).length) Slot.unset).toArray = ls at hl ⊢
  have hl : lv_has ls 3 [(0, .ref (ad 0)), (1, .int p1), (2, .int p2)] := hl
  change W p l e rmX6_wrong s m ([.ref (ad 0), .int p1, .int p2] : List Value).toArray below meth c s.heap [] 0 0 _ _
  unfold fX6_wrong at hf
  refine lv_aload_n hx hb dX6_wrong_0 rfl (lv_at hl 0 rfl) ?_
  refine lv_iload_n hx hb dX6_wrong_1 rfl (lv_at hl 1 rfl) ?_
  refine va_put (D := (dC, dI)) (ci := 6) (v := .int p1) (ty := .int) (C := RX6) (T := TX6) (N := 8) hx hb hts (fun w h => gw_mem (inX6 w h)) tyX6 tyX6_ok nmX6 hown hK.1 hP hD hS 0 rfl rfl 5 (by decide) (hts _ (gw_mem wfX6_32)) (fun _ h9 => h9) rfl (by decide +kernel) rfl rfl (Nat.le_of_ble_eq_true rfl) dX6_wrong_2 (fun H locs hP hD hS => ?_)
  have hP : va_P (dC, dI) vwCl (wX6 dA ad c_size c_length c_place p1 c_faultPlace c_begin c_bytes c_draft_terms) H := hP
  have hD : va_D A (wX6 dA ad c_size c_length c_place p1 c_faultPlace c_begin c_bytes c_draft_terms) := hD
  refine lv_aload_n hx hb dX6_wrong_5 rfl (lv_at hl 0 rfl) ?_
  refine lv_iload_n hx hb dX6_wrong_6 rfl (lv_at hl 2 rfl) ?_
  refine va_put (D := (dC, dI)) (ci := 6) (v := .int p2) (ty := .int) (C := RX6) (T := TX6) (N := 8) hx hb hts (fun w h => gw_mem (inX6 w h)) tyX6 tyX6_ok nmX6 hown hK.1 hP hD hS 0 rfl rfl 6 (by decide) (hts _ (gw_mem wfX6_35)) (fun _ h9 => h9) rfl (by decide +kernel) rfl rfl (Nat.le_of_ble_eq_true rfl) dX6_wrong_7 (fun H locs hP hD hS => ?_)
  have hP : va_P (dC, dI) vwCl (wX6 dA ad c_size c_length c_place p1 p2 c_begin c_bytes c_draft_terms) H := hP
  have hD : va_D A (wX6 dA ad c_size c_length c_place p1 p2 c_begin c_bytes c_draft_terms) := hD
  refine lv_iconst (v := (-1)) hx hb dX6_wrong_10 (by decide) ?_
  cases hf
  exact W.iret hx hb hr (fun t ht _ => gqi hP hD hS ht) hS.2.2 dX6_wrong_11
theorem ccX6_X6_wrong {R : Room} {s : State} {args : Array Value} {c0 : Cond} (ht : ∀ w ∈ wq c0, w.before args s = true) (hR : rmX6_wrong.frames + 1 ≤ R.frames ∧ 8 + (3 + 11) + rmX6_wrong.locals ≤ R.locals) : CallW R s args RX6 RX6 118 yX6_wrong cX6_wrong 3 (some .int) (wq (.code yX6_wrong cX6_wrong 3 (some .int))) rmX6_wrong 0 0 2 := gCW 2 ht wcX6_wrong wmX6_118 wiX6_wrong weX6_wrong wnX6 (by decide +kernel) rfl rfl hR
abbrev rmX6_fails : Room := { frames := 1, cells := 0, slots := 0, locals := 22 }
set_option maxHeartbeats 4000000 in
set_option maxRecDepth 100000 in
theorem tX6_fails (l : Launch) (dC : Nat → ClassId) (dI : Nat → Nat → Nat) (dA : Nat → ClassId) (ad : Nat → Nat) (sz : Nat) {p1 : Int32} {p2 : Int32} {c_size : Int32} {c_length : Int32} {c_place : Int32} {c_fault : Int32} {c_faultPlace : Int32} {c_begin : Int32} {c_bytes : Nat → Int32} {c_draft_terms : Nat → Int32} {r : Int32} {o_c_fault : Int32} {o_c_faultPlace : Int32} (hf : fX6_fails p1 p2 c_fault c_faultPlace = some (r, o_c_fault, o_c_faultPlace)) : Met l yX6_fails (wq (Cond.code yX6_fails cX6_fails 3 (some .boolean))) rmX6_fails (gP [.ref (ad 0), .int p1, .int p2] (dC, dI) dA (wX6 dA ad c_size c_length c_place c_fault c_faultPlace c_begin c_bytes c_draft_terms) sz) (gQi (dC, dI) r (wX6 dA ad c_size c_length c_place o_c_fault o_c_faultPlace c_begin c_bytes c_draft_terms) (va_A (wX6 dA ad c_size c_length c_place c_fault c_faultPlace c_begin c_bytes c_draft_terms) sz)) 0 0 (va_A (wX6 dA ad c_size c_length c_place c_fault c_faultPlace c_begin c_bytes c_draft_terms) sz) := by
  refine Met.ofW (cc := cX6_fails) (maxL := 3) (ret := (some .boolean)) (by decide) rfl ?_
  intro p e s m args below meth c s₁ B hml hv
  obtain ⟨rfl, hsz, hP, hK, hD0⟩ := hv
  have hx := B.exec
  have hb := B.bytes
  have hr := B.returns
  have hts := atoms_spec (ws := wq (Cond.code yX6_fails cX6_fails 3 (some .boolean))) B.pre
  have hown : s.vm.findClass RX6 = some m.cls := findClass_of_methodNamed B.named
  have hlocks := B.notSynchronized
  clear B
  subst hsz
  have hD := hD0.self (sz := s.heap.size)
  generalize hAe : va_A (wX6 dA ad c_size c_length c_place c_fault c_faultPlace c_begin c_bytes c_draft_terms) s.heap.size = A at hD ⊢
  have hA : ∀ q : Nat, s.heap.size ≤ q → A q := fun q h => by rw [← hAe]; exact Or.inr h
  clear hAe hD0
  have hS : va_S A s.heap s.heap [] := va_S.rf
  have hl := lv_entry ([.ref (ad 0), .int p1, .int p2]) (n := 3) (Nat.le_of_ble_eq_true rfl)
  rw [lg_entry_eq]
  generalize (lg_sl ([.ref (ad 0), .int p1, .int p2]) ++ List.replicate (3 - (lg_sl ([.ref (ad 0), .int p1, .int p2])).length) Slot.unset).toArray = ls at hl ⊢
  have hl : lv_has ls 3 [(0, .ref (ad 0)), (1, .int p1), (2, .int p2)] := hl
  change W p l e rmX6_fails s m ([.ref (ad 0), .int p1, .int p2] : List Value).toArray below meth c s.heap [] 0 0 _ _
  unfold fX6_fails at hf
  refine lv_aload_n hx hb dX6_fails_0 rfl (lv_at hl 0 rfl) ?_
  refine lv_iload_n hx hb dX6_fails_1 rfl (lv_at hl 1 rfl) ?_
  refine lv_iload_n hx hb dX6_fails_2 rfl (lv_at hl 2 rfl) ?_
  obtain ⟨r1, c_fault_2, c_faultPlace_3, v4, hf⟩ := bd3_some hf
  refine gci (va_runV (As := [.int p1, .int p2]) (rest := []) ⟨hx, hb, hml, hown, hts⟩ (tX6_wrong l dC dI dA ad s.heap.size v4) (ccX6_X6_wrong hts ⟨Nat.le_of_ble_eq_true rfl, Nat.le_of_ble_eq_true rfl⟩) (gPreV (ci := 6) (q0 := 0) hP hK hD rfl rfl) rfl rfl hl.1 rfl (lv_room (Nat.le_of_ble_eq_true rfl)) dX6_fails_3 ⟨Nat.le_of_ble_eq_true rfl, Nat.le_of_ble_eq_true rfl⟩) hD hS hA (fun H locs hP hD hS => ?_)
  refine lv_pop hx hb dX6_fails_6 rfl ?_
  refine lv_iconst (v := 0) hx hb dX6_fails_7 (by decide) ?_
  cases hf
  exact W.zret (ty := .boolean) hx hb hr rfl (fun t ht _ => gqi hP hD hS ht) hS.2.2 dX6_fails_8
theorem ccX6_X0_set {R : Room} {s : State} {args : Array Value} {c0 : Cond} (ht : ∀ w ∈ wq c0, w.before args s = true) (hR : rmX0_set.frames + 1 ≤ R.frames ∧ 8 + (3 + 11) + rmX0_set.locals ≤ R.locals) : CallW R s args RX6 RX0 105 yX0_set cX0_set 3 none (wq (.code yX0_set cX0_set 3 none)) rmX0_set 0 0 2 := gCW 2 ht wcX0_set wmX6_105 wiX0_set weX0_set wnX0 (by decide +kernel) rfl rfl hR
abbrev rmX6_store : Room := { frames := 1, cells := 0, slots := 0, locals := 22 }
set_option maxHeartbeats 4000000 in
set_option maxRecDepth 100000 in
theorem tX6_store (l : Launch) (dC : Nat → ClassId) (dI : Nat → Nat → Nat) (dA : Nat → ClassId) (ad : Nat → Nat) (sz : Nat) {p1 : Int32} {p2 : Int32} {c_size : Int32} {c_length : Int32} {c_place : Int32} {c_fault : Int32} {c_faultPlace : Int32} {c_begin : Int32} {c_bytes : Nat → Int32} {c_draft_terms : Nat → Int32} {r : Int32} {o_c_draft_terms : Nat → Int32} (hf : fX6_store p1 p2 c_draft_terms = some (r, o_c_draft_terms)) : Met l yX6_store (wq (Cond.code yX6_store cX6_store 3 (some .boolean))) rmX6_store (gP [.ref (ad 0), .int p1, .int p2] (dC, dI) dA (wX6 dA ad c_size c_length c_place c_fault c_faultPlace c_begin c_bytes c_draft_terms) sz) (gQi (dC, dI) r (wX6 dA ad c_size c_length c_place c_fault c_faultPlace c_begin c_bytes o_c_draft_terms) (va_A (wX6 dA ad c_size c_length c_place c_fault c_faultPlace c_begin c_bytes c_draft_terms) sz)) 0 0 (va_A (wX6 dA ad c_size c_length c_place c_fault c_faultPlace c_begin c_bytes c_draft_terms) sz) := by
  refine Met.ofW (cc := cX6_store) (maxL := 3) (ret := (some .boolean)) (by decide) rfl ?_
  intro p e s m args below meth c s₁ B hml hv
  obtain ⟨rfl, hsz, hP, hK, hD0⟩ := hv
  have hx := B.exec
  have hb := B.bytes
  have hr := B.returns
  have hts := atoms_spec (ws := wq (Cond.code yX6_store cX6_store 3 (some .boolean))) B.pre
  have hown : s.vm.findClass RX6 = some m.cls := findClass_of_methodNamed B.named
  have hlocks := B.notSynchronized
  clear B
  subst hsz
  have hD := hD0.self (sz := s.heap.size)
  generalize hAe : va_A (wX6 dA ad c_size c_length c_place c_fault c_faultPlace c_begin c_bytes c_draft_terms) s.heap.size = A at hD ⊢
  have hA : ∀ q : Nat, s.heap.size ≤ q → A q := fun q h => by rw [← hAe]; exact Or.inr h
  clear hAe hD0
  have hS : va_S A s.heap s.heap [] := va_S.rf
  have hl := lv_entry ([.ref (ad 0), .int p1, .int p2]) (n := 3) (Nat.le_of_ble_eq_true rfl)
  rw [lg_entry_eq]
  generalize (lg_sl ([.ref (ad 0), .int p1, .int p2]) ++ List.replicate (3 - (lg_sl ([.ref (ad 0), .int p1, .int p2])).length) Slot.unset).toArray = ls at hl ⊢
  have hl : lv_has ls 3 [(0, .ref (ad 0)), (1, .int p1), (2, .int p2)] := hl
  change W p l e rmX6_store s m ([.ref (ad 0), .int p1, .int p2] : List Value).toArray below meth c s.heap [] 0 0 _ _
  unfold fX6_store at hf
  refine lv_iload_n hx hb dX6_store_0 rfl (lv_at hl 2 rfl) ?_
  refine lv_if_ge (tgt := 6) hx hb dX6_store_1 (by decide) (fun k1 => ?_) (fun k1 => ?_)
  · replace hf := ifp k1 hf
    refine lv_aload_n hx hb dX6_store_6 rfl (lv_at hl 0 rfl) ?_
    refine va_get (D := (dC, dI)) (ci := 6) (v := .ref (ad 2)) (C := RX6) (T := TX6) (N := 8) hx hb hts (fun w h => gw_mem (inX6 w h)) hown hK.1 hP 0 rfl rfl 2 (by decide) (hts _ (gw_mem wfX6_22)) (fun _ h9 => h9) rfl dX6_store_7 ?_
    refine lv_iload_n hx hb dX6_store_10 rfl (lv_at hl 1 rfl) ?_
    refine lv_iload_n hx hb dX6_store_11 rfl (lv_at hl 2 rfl) ?_
    obtain ⟨c_draft_terms_2, v3, hf⟩ := bd1_some hf
    have z4 := sg1 (ws := (wX6 dA ad c_size c_length c_place c_fault c_faultPlace c_begin c_bytes c_draft_terms)) (s0 := ((wX6 dA ad c_size c_length c_place c_fault c_faultPlace c_begin c_bytes c_draft_terms)).take 2) (s1 := ((wX6 dA ad c_size c_length c_place c_fault c_faultPlace c_begin c_bytes c_draft_terms)).drop 4) (x1 := (wX0 dA (fun i => ad (i + 2)) c_draft_terms)) rfl
    refine gpv (wf := (wX6 dA ad c_size c_length c_place c_fault c_faultPlace c_begin c_bytes c_draft_terms_2)) (va_runV (As := [.int p1, .int p2]) (rest := []) ⟨hx, hb, hml, hown, hts⟩ (tX0_set l dC dI dA (fun i => ad (i + 2)) s.heap.size v3) (ccX6_X0_set hts ⟨Nat.le_of_ble_eq_true rfl, Nat.le_of_ble_eq_true rfl⟩) (gPreV (ci := 1) (q0 := 0) (psub z4 hP) hK (psubD z4 hD) rfl rfl) rfl rfl hl.1 rfl (lv_room (Nat.le_of_ble_eq_true rfl)) dX6_store_12 ⟨Nat.le_of_ble_eq_true rfl, Nat.le_of_ble_eq_true rfl⟩) hP hD hS hA z4 (sg1 (s0 := ((wX6 dA ad c_size c_length c_place c_fault c_faultPlace c_begin c_bytes c_draft_terms)).take 2) (s1 := ((wX6 dA ad c_size c_length c_place c_fault c_faultPlace c_begin c_bytes c_draft_terms)).drop 4) (x1 := (wX0 dA (fun i => ad (i + 2)) c_draft_terms_2)) rfl) (fun H locs hP hD hS => ?_)
    refine lv_iconst (v := 1) hx hb dX6_store_15 (by decide) ?_
    cases hf
    exact W.zret (ty := .boolean) hx hb hr rfl (fun t ht _ => gqi hP hD hS ht) hS.2.2 dX6_store_16
  · replace hf := ifn k1 hf
    refine lv_iconst (v := 0) hx hb dX6_store_4 (by decide) ?_
    cases hf
    exact W.zret (ty := .boolean) hx hb hr rfl (fun t ht _ => gqi hP hD hS ht) hS.2.2 dX6_store_5
abbrev rmX6_isDigit : Room := { frames := 0, cells := 0, slots := 0, locals := 0 }
set_option maxHeartbeats 4000000 in
set_option maxRecDepth 100000 in
theorem tX6_isDigit (l : Launch) (dC : Nat → ClassId) (dI : Nat → Nat → Nat) (dA : Nat → ClassId) (sz : Nat) {p0 : Int32} {r : Int32} (hf : fX6_isDigit p0 = some (r)) : Met l yX6_isDigit (wq (Cond.code yX6_isDigit cX6_isDigit 1 (some .boolean))) rmX6_isDigit (gP [.int p0] (dC, dI) dA [] sz) (gQi (dC, dI) r [] (va_A [] sz)) 0 0 (va_A [] sz) := by
  refine Met.ofW (cc := cX6_isDigit) (maxL := 1) (ret := (some .boolean)) (by decide) rfl ?_
  intro p e s m args below meth c s₁ B hml hv
  obtain ⟨rfl, hsz, hP, hK, hD0⟩ := hv
  have hx := B.exec
  have hb := B.bytes
  have hr := B.returns
  have hts := atoms_spec (ws := wq (Cond.code yX6_isDigit cX6_isDigit 1 (some .boolean))) B.pre
  have hown : s.vm.findClass RX6 = some m.cls := findClass_of_methodNamed B.named
  have hlocks := B.notSynchronized
  clear B
  subst hsz
  have hD := hD0.self (sz := s.heap.size)
  generalize hAe : va_A [] s.heap.size = A at hD ⊢
  have hA : ∀ q : Nat, s.heap.size ≤ q → A q := fun q h => by rw [← hAe]; exact Or.inr h
  clear hAe hD0
  have hS : va_S A s.heap s.heap [] := va_S.rf
  have hl := lv_entry ([.int p0]) (n := 1) (Nat.le_of_ble_eq_true rfl)
  rw [lg_entry_eq]
  generalize (lg_sl ([.int p0]) ++ List.replicate (1 - (lg_sl ([.int p0])).length) Slot.unset).toArray = ls at hl ⊢
  have hl : lv_has ls 1 [(0, .int p0)] := hl
  change W p l e rmX6_isDigit s m ([.int p0] : List Value).toArray below meth c s.heap [] 0 0 _ _
  unfold fX6_isDigit at hf
  refine lv_bipush (v := 48) hx hb dX6_isDigit_0 (by decide) ?_
  refine lv_iload_n hx hb dX6_isDigit_2 rfl (lv_at hl 0 rfl) ?_
  obtain ⟨j2, v4, hf⟩ := bd1_some hf
  have J3 : ∀ (H : Heap) (locs : List Loc) (ls : Array Slot), va_P (dC, dI) vwCl [] H → va_D A [] → va_S A s.heap H locs → lv_has ls 1 [] → W p l e rmX6_isDigit s m ([.int p0] : List Value).toArray below meth c H locs 0 0 (MQ below (gQi (dC, dI) r [] A) ([.int p0] : List Value).toArray s 0 0 A) (F0 m 17 ls [.int j2]) := by
    intro H locs ls hP hD hS hl
    obtain ⟨h5, hf⟩ := og_some hf
    cases hf
    exact W.zret (ty := .boolean) hx hb hr (boB_nar h5) (fun t ht _ => gqi hP hD hS ht) hS.2.2 dX6_isDigit_17
  replace hf := v4
  clear v4
  refine lv_icmp_gt (tgt := 16) hx hb dX6_isDigit_3 (by decide) (fun k1 => ?_) (fun k1 => ?_)
  · replace hf := ifp k1 hf
    refine lv_iconst (v := 0) hx hb dX6_isDigit_16 (by decide) ?_
    cases hf
    exact J3 _ _ _ hP hD hS (lv_sub hl [] rfl)
  · replace hf := ifn k1 hf
    refine lv_iload_n hx hb dX6_isDigit_6 rfl (lv_at hl 0 rfl) ?_
    refine lv_bipush (v := 57) hx hb dX6_isDigit_7 (by decide) ?_
    refine lv_icmp_gt (tgt := 16) hx hb dX6_isDigit_9 (by decide) (fun k6 => ?_) (fun k6 => ?_)
    · replace hf := ifp k6 hf
      refine lv_iconst (v := 0) hx hb dX6_isDigit_16 (by decide) ?_
      cases hf
      exact J3 _ _ _ hP hD hS (lv_sub hl [] rfl)
    · replace hf := ifn k6 hf
      refine lv_iconst (v := 1) hx hb dX6_isDigit_12 (by decide) ?_
      refine lv_goto (tgt := 17) hx hb dX6_isDigit_13 (by decide) ?_
      cases hf
      exact J3 _ _ _ hP hD hS (lv_sub hl [] rfl)
theorem ccX6_X6_isDigit {R : Room} {s : State} {args : Array Value} {c0 : Cond} (ht : ∀ w ∈ wq c0, w.before args s = true) (hR : rmX6_isDigit.frames + 1 ≤ R.frames ∧ 8 + (1 + 11) + rmX6_isDigit.locals ≤ R.locals) : CallB R s args RX6 115 yX6_isDigit cX6_isDigit 1 (some .boolean) (wq (.code yX6_isDigit cX6_isDigit 1 (some .boolean))) rmX6_isDigit 0 0 1 ∧ (Cond.static yX6_isDigit).before args s = true := gCS 1 ht wcX6_isDigit wmX6_115 wtX6_isDigit wnX6 (by decide +kernel) rfl rfl hR
abbrev rmX6_takeDigits : Room := { frames := 1, cells := 0, slots := 0, locals := 22 }
set_option maxHeartbeats 4000000 in
set_option maxRecDepth 100000 in
theorem tX6_takeDigits (l : Launch) (dC : Nat → ClassId) (dI : Nat → Nat → Nat) (dA : Nat → ClassId) (ad : Nat → Nat) (sz : Nat) {p1 : Int32} {c_size : Int32} {c_length : Int32} {c_place : Int32} {c_fault : Int32} {c_faultPlace : Int32} {c_begin : Int32} {c_bytes : Nat → Int32} {c_draft_terms : Nat → Int32} {r : Int32} {o_c_place : Int32} {o_c_fault : Int32} {o_c_faultPlace : Int32} {o_c_begin : Int32} (hf : fX6_takeDigits p1 c_length c_place c_fault c_faultPlace c_begin c_bytes = some (r, o_c_place, o_c_fault, o_c_faultPlace, o_c_begin)) : Met l yX6_takeDigits (wq (Cond.code yX6_takeDigits cX6_takeDigits 3 (some .int))) rmX6_takeDigits (gP [.ref (ad 0), .int p1] (dC, dI) dA (wX6 dA ad c_size c_length c_place c_fault c_faultPlace c_begin c_bytes c_draft_terms) sz) (gQi (dC, dI) r (wX6 dA ad c_size c_length o_c_place o_c_fault o_c_faultPlace o_c_begin c_bytes c_draft_terms) (va_A (wX6 dA ad c_size c_length c_place c_fault c_faultPlace c_begin c_bytes c_draft_terms) sz)) 0 0 (va_A (wX6 dA ad c_size c_length c_place c_fault c_faultPlace c_begin c_bytes c_draft_terms) sz) := by
  refine Met.ofW (cc := cX6_takeDigits) (maxL := 3) (ret := (some .int)) (by decide) rfl ?_
  intro p e s m args below meth c s₁ B hml hv
  obtain ⟨rfl, hsz, hP, hK, hD0⟩ := hv
  have hx := B.exec
  have hb := B.bytes
  have hr := B.returns
  have hts := atoms_spec (ws := wq (Cond.code yX6_takeDigits cX6_takeDigits 3 (some .int))) B.pre
  have hown : s.vm.findClass RX6 = some m.cls := findClass_of_methodNamed B.named
  have hlocks := B.notSynchronized
  clear B
  subst hsz
  have hD := hD0.self (sz := s.heap.size)
  generalize hAe : va_A (wX6 dA ad c_size c_length c_place c_fault c_faultPlace c_begin c_bytes c_draft_terms) s.heap.size = A at hD ⊢
  have hA : ∀ q : Nat, s.heap.size ≤ q → A q := fun q h => by rw [← hAe]; exact Or.inr h
  clear hAe hD0
  have hS : va_S A s.heap s.heap [] := va_S.rf
  have hl := lv_entry ([.ref (ad 0), .int p1]) (n := 3) (Nat.le_of_ble_eq_true rfl)
  rw [lg_entry_eq]
  generalize (lg_sl ([.ref (ad 0), .int p1]) ++ List.replicate (3 - (lg_sl ([.ref (ad 0), .int p1])).length) Slot.unset).toArray = ls at hl ⊢
  have hl : lv_has ls 3 [(0, .ref (ad 0)), (1, .int p1)] := hl
  change W p l e rmX6_takeDigits s m ([.ref (ad 0), .int p1] : List Value).toArray below meth c s.heap [] 0 0 _ _
  generalize hQ : MQ below (gQi (dC, dI) r (wX6 dA ad c_size c_length o_c_place o_c_fault o_c_faultPlace o_c_begin c_bytes c_draft_terms) A) ([.ref (ad 0), .int p1] : List Value).toArray s 0 0 A = Q
  have LP27 : ∀ (n : Nat) (c_length : Int32) (c_begin : Int32) (c_bytes : Nat → Int32) (c_size : Int32) (c_fault : Int32) (c_faultPlace : Int32) (c_draft_terms : Nat → Int32) (x2 : Int32) (c_place : Int32) (tgo : Nat) (o2 : Int32) (o_c_place : Int32) (H : Heap) (locs : List Loc) (ls : Array Slot), va_P (dC, dI) vwCl (wX6 dA ad c_size c_length c_place c_fault c_faultPlace c_begin c_bytes c_draft_terms) H → va_D A (wX6 dA ad c_size c_length c_place c_fault c_faultPlace c_begin c_bytes c_draft_terms) → va_S A s.heap H locs → lpX6_takeDigits_27 c_length c_begin c_bytes n x2 c_place = some (tgo, o2, o_c_place) → lv_has ls 3 [(0, .ref (ad 0)), (2, .int x2)] → (tgo = 0 → ∀ (H : Heap) (locs : List Loc) (ls : Array Slot), va_P (dC, dI) vwCl (wX6 dA ad c_size c_length o_c_place c_fault c_faultPlace c_begin c_bytes c_draft_terms) H → va_D A (wX6 dA ad c_size c_length o_c_place c_fault c_faultPlace c_begin c_bytes c_draft_terms) → va_S A s.heap H locs → lv_has ls 3 [(0, .ref (ad 0))] → W p l e rmX6_takeDigits s m ([.ref (ad 0), .int p1] : List Value).toArray below meth c H locs 0 0 Q (F0 m 66 ls [])) → (tgo = 1 → ∀ (H : Heap) (locs : List Loc) (ls : Array Slot), va_P (dC, dI) vwCl (wX6 dA ad c_size c_length o_c_place c_fault c_faultPlace c_begin c_bytes c_draft_terms) H → va_D A (wX6 dA ad c_size c_length o_c_place c_fault c_faultPlace c_begin c_bytes c_draft_terms) → va_S A s.heap H locs → lv_has ls 3 [(2, .int o2)] → W p l e rmX6_takeDigits s m ([.ref (ad 0), .int p1] : List Value).toArray below meth c H locs 0 0 Q (F0 m 106 ls [])) → W p l e rmX6_takeDigits s m ([.ref (ad 0), .int p1] : List Value).toArray below meth c H locs 0 0 Q (F0 m 27 ls []) := by
    intro n
    induction n with
    | zero =>
      intro c_length c_begin c_bytes c_size c_fault c_faultPlace c_draft_terms x2 c_place tgo o2 o_c_place H locs ls hP hD hS hf hl hk0 hk1
      cases hf
    | succ n ih27 =>
      intro c_length c_begin c_bytes c_size c_fault c_faultPlace c_draft_terms x2 c_place tgo o2 o_c_place H locs ls hP hD hS hf hl hk0 hk1
      rw [lpX6_takeDigits_27.eq_2] at hf
      refine lv_aload_n hx hb dX6_takeDigits_27 rfl (lv_at hl 0 rfl) ?_
      refine va_get (D := (dC, dI)) (ci := 6) (v := .int c_place) (C := RX6) (T := TX6) (N := 8) hx hb hts (fun w h => gw_mem (inX6 w h)) hown hK.1 hP 0 rfl rfl 4 (by decide) (hts _ (gw_mem wfX6_29)) (fun _ h9 => h9) rfl dX6_takeDigits_28 ?_
      refine lv_aload_n hx hb dX6_takeDigits_31 rfl (lv_at hl 0 rfl) ?_
      refine va_get (D := (dC, dI)) (ci := 6) (v := .int c_length) (C := RX6) (T := TX6) (N := 8) hx hb hts (fun w h => gw_mem (inX6 w h)) hown hK.1 hP 0 rfl rfl 3 (by decide) (hts _ (gw_mem wfX6_26)) (fun _ h9 => h9) rfl dX6_takeDigits_32 ?_
      refine lv_icmp_ge (tgt := 106) hx hb dX6_takeDigits_35 (by decide) (fun k16 => ?_) (fun k16 => ?_)
      · replace hf := ifp k16 hf
        cases hf
        exact hk1 rfl _ _ _ hP hD hS (lv_sub hl [1] rfl)
      · replace hf := ifn k16 hf
        refine lv_aload_n hx hb dX6_takeDigits_38 rfl (lv_at hl 0 rfl) ?_
        refine lv_aload_n hx hb dX6_takeDigits_39 rfl (lv_at hl 0 rfl) ?_
        refine va_get (D := (dC, dI)) (ci := 6) (v := .int c_place) (C := RX6) (T := TX6) (N := 8) hx hb hts (fun w h => gw_mem (inX6 w h)) hown hK.1 hP 0 rfl rfl 4 (by decide) (hts _ (gw_mem wfX6_29)) (fun _ h9 => h9) rfl dX6_takeDigits_40 ?_
        obtain ⟨r17, v18, hf⟩ := bd1_some hf
        refine gci (va_runV (As := [.int c_place]) (rest := []) ⟨hx, hb, hml, hown, hts⟩ (tX6_byteAt l dC dI dA ad H.size v18) (ccX6_X6_byteAt hts ⟨Nat.le_of_ble_eq_true rfl, Nat.le_of_ble_eq_true rfl⟩) (gPreV (ci := 6) (q0 := 0) hP hK hD rfl rfl) rfl rfl hl.1 rfl (lv_room (Nat.le_of_ble_eq_true rfl)) dX6_takeDigits_43 ⟨Nat.le_of_ble_eq_true rfl, Nat.le_of_ble_eq_true rfl⟩) hD hS hA (fun H locs hP hD hS => ?_)
        obtain ⟨r19, v20, hf⟩ := bd1_some hf
        refine gci0 (va_runS (As := [.int r17]) (rest := []) ⟨hx, hb, hml, hown, hts⟩ (tX6_isDigit l dC dI dA H.size v20) (ccX6_X6_isDigit hts ⟨Nat.le_of_ble_eq_true rfl, Nat.le_of_ble_eq_true rfl⟩) (gPreS0 hK) rfl rfl hl.1 rfl (lv_room (Nat.le_of_ble_eq_true rfl)) dX6_takeDigits_46 ⟨Nat.le_of_ble_eq_true rfl, Nat.le_of_ble_eq_true rfl⟩) hP hS hA (fun H locs hP hS => ?_)
        refine lv_if_eq (tgt := 106) hx hb dX6_takeDigits_49 (by decide) (fun k21 => ?_) (fun k21 => ?_)
        · replace hf := ifp k21 hf
          cases hf
          exact hk1 rfl _ _ _ hP hD hS (lv_sub hl [1] rfl)
        · replace hf := ifn k21 hf
          refine lv_aload_n hx hb dX6_takeDigits_52 rfl (lv_at hl 0 rfl) ?_
          refine va_get (D := (dC, dI)) (ci := 6) (v := .int c_place) (C := RX6) (T := TX6) (N := 8) hx hb hts (fun w h => gw_mem (inX6 w h)) hown hK.1 hP 0 rfl rfl 4 (by decide) (hts _ (gw_mem wfX6_29)) (fun _ h9 => h9) rfl dX6_takeDigits_53 ?_
          refine lv_aload_n hx hb dX6_takeDigits_56 rfl (lv_at hl 0 rfl) ?_
          refine va_get (D := (dC, dI)) (ci := 6) (v := .int c_begin) (C := RX6) (T := TX6) (N := 8) hx hb hts (fun w h => gw_mem (inX6 w h)) hown hK.1 hP 0 rfl rfl 7 (by decide) (hts _ (gw_mem wfX6_38)) (fun _ h9 => h9) rfl dX6_takeDigits_57 ?_
          refine lv_isub hx hb dX6_takeDigits_60 ?_
          refine lv_bipush (v := 7) hx hb dX6_takeDigits_61 (by decide) ?_
          refine lv_icmp_ne (tgt := 76) hx hb dX6_takeDigits_63 (by decide) (fun k22 => ?_) (fun k22 => ?_)
          · replace hf := ifn k22 hf
            refine lv_iload_n hx hb dX6_takeDigits_76 rfl (lv_at hl 1 rfl) ?_
            refine lv_bipush (v := 10) hx hb dX6_takeDigits_77 (by decide) ?_
            refine lv_imul hx hb dX6_takeDigits_79 ?_
            refine lv_aload_n hx hb dX6_takeDigits_80 rfl (lv_at hl 0 rfl) ?_
            refine lv_aload_n hx hb dX6_takeDigits_81 rfl (lv_at hl 0 rfl) ?_
            refine va_get (D := (dC, dI)) (ci := 6) (v := .int c_place) (C := RX6) (T := TX6) (N := 8) hx hb hts (fun w h => gw_mem (inX6 w h)) hown hK.1 hP 0 rfl rfl 4 (by decide) (hts _ (gw_mem wfX6_29)) (fun _ h9 => h9) rfl dX6_takeDigits_82 ?_
            obtain ⟨r23, v24, hf⟩ := bd1_some hf
            refine gci (va_runV (As := [.int c_place]) (rest := [.int (x2 * 10)]) ⟨hx, hb, hml, hown, hts⟩ (tX6_byteAt l dC dI dA ad H.size v24) (ccX6_X6_byteAt hts ⟨Nat.le_of_ble_eq_true rfl, Nat.le_of_ble_eq_true rfl⟩) (gPreV (ci := 6) (q0 := 0) hP hK hD rfl rfl) rfl rfl hl.1 rfl (lv_room (Nat.le_of_ble_eq_true rfl)) dX6_takeDigits_85 ⟨Nat.le_of_ble_eq_true rfl, Nat.le_of_ble_eq_true rfl⟩) hD hS hA (fun H locs hP hD hS => ?_)
            refine lv_iadd hx hb dX6_takeDigits_88 ?_
            refine lv_bipush (v := 48) hx hb dX6_takeDigits_89 (by decide) ?_
            refine lv_isub hx hb dX6_takeDigits_91 ?_
            refine lv_topi (fun w25 ew25 => ?_)
            replace hf := nm_at hf ew25
            refine lv_istore_n (lv' := [(2, .int w25), (0, .ref (ad 0))]) hx hb dX6_takeDigits_92 rfl hl (by decide) rfl (fun ls hl => ?_)
            refine lv_aload_n hx hb dX6_takeDigits_93 rfl (lv_at hl 1 rfl) ?_
            refine lv_dup hx hb dX6_takeDigits_94 rfl ?_
            refine va_get (D := (dC, dI)) (ci := 6) (v := .int c_place) (C := RX6) (T := TX6) (N := 8) hx hb hts (fun w h => gw_mem (inX6 w h)) hown hK.1 hP 0 rfl rfl 4 (by decide) (hts _ (gw_mem wfX6_29)) (fun _ h9 => h9) rfl dX6_takeDigits_95 ?_
            refine lv_iconst (v := 1) hx hb dX6_takeDigits_98 (by decide) ?_
            refine lv_iadd hx hb dX6_takeDigits_99 ?_
            refine lv_topi (fun w26 ew26 => ?_)
            replace hf := nm_at hf ew26
            refine va_put (D := (dC, dI)) (ci := 6) (v := .int w26) (ty := .int) (C := RX6) (T := TX6) (N := 8) hx hb hts (fun w h => gw_mem (inX6 w h)) tyX6 tyX6_ok nmX6 hown hK.1 hP hD hS 0 rfl rfl 4 (by decide) (hts _ (gw_mem wfX6_29)) (fun _ h9 => h9) rfl (by decide +kernel) rfl rfl (Nat.le_of_ble_eq_true rfl) dX6_takeDigits_100 (fun H locs hP hD hS => ?_)
            have hP : va_P (dC, dI) vwCl (wX6 dA ad c_size c_length w26 c_fault c_faultPlace c_begin c_bytes c_draft_terms) H := hP
            have hD : va_D A (wX6 dA ad c_size c_length w26 c_fault c_faultPlace c_begin c_bytes c_draft_terms) := hD
            refine lv_goto (tgt := 27) hx hb dX6_takeDigits_103 (by decide) ?_
            exact ih27 _ _ _ _ _ _ _ _ _ _ _ _ _ _ _ hP hD hS hf (lv_sub hl [1, 0] rfl) hk0 hk1
          · replace hf := ifp k22 hf
            cases hf
            exact hk0 rfl _ _ _ hP hD hS (lv_sub hl [0] rfl)
  subst hQ
  unfold fX6_takeDigits at hf
  refine lv_iload_n hx hb dX6_takeDigits_0 rfl (lv_at hl 1 rfl) ?_
  obtain ⟨r1, v2, hf⟩ := bd1_some hf
  refine gci0 (va_runS (As := [.int p1]) (rest := []) ⟨hx, hb, hml, hown, hts⟩ (tX6_isDigit l dC dI dA s.heap.size v2) (ccX6_X6_isDigit hts ⟨Nat.le_of_ble_eq_true rfl, Nat.le_of_ble_eq_true rfl⟩) (gPreS0 hK) rfl rfl hl.1 rfl (lv_room (Nat.le_of_ble_eq_true rfl)) dX6_takeDigits_1 ⟨Nat.le_of_ble_eq_true rfl, Nat.le_of_ble_eq_true rfl⟩) hP hS hA (fun H locs hP hS => ?_)
  refine lv_if_ne (tgt := 17) hx hb dX6_takeDigits_4 (by decide) (fun k3 => ?_) (fun k3 => ?_)
  · replace hf := ifn k3 hf
    refine lv_aload_n hx hb dX6_takeDigits_17 rfl (lv_at hl 0 rfl) ?_
    refine lv_aload_n hx hb dX6_takeDigits_18 rfl (lv_at hl 0 rfl) ?_
    refine va_get (D := (dC, dI)) (ci := 6) (v := .int c_place) (C := RX6) (T := TX6) (N := 8) hx hb hts (fun w h => gw_mem (inX6 w h)) hown hK.1 hP 0 rfl rfl 4 (by decide) (hts _ (gw_mem wfX6_29)) (fun _ h9 => h9) rfl dX6_takeDigits_19 ?_
    refine va_put (D := (dC, dI)) (ci := 6) (v := .int c_place) (ty := .int) (C := RX6) (T := TX6) (N := 8) hx hb hts (fun w h => gw_mem (inX6 w h)) tyX6 tyX6_ok nmX6 hown hK.1 hP hD hS 0 rfl rfl 7 (by decide) (hts _ (gw_mem wfX6_38)) (fun _ h9 => h9) rfl (by decide +kernel) rfl rfl (Nat.le_of_ble_eq_true rfl) dX6_takeDigits_22 (fun H locs hP hD hS => ?_)
    have hP : va_P (dC, dI) vwCl (wX6 dA ad c_size c_length c_place c_fault c_faultPlace c_place c_bytes c_draft_terms) H := hP
    have hD : va_D A (wX6 dA ad c_size c_length c_place c_fault c_faultPlace c_place c_bytes c_draft_terms) := hD
    refine lv_iconst (v := 0) hx hb dX6_takeDigits_25 (by decide) ?_
    refine lv_istore_n (lv' := [(2, .int 0), (0, .ref (ad 0)), (1, .int p1)]) hx hb dX6_takeDigits_26 rfl hl (by decide) rfl (fun ls hl => ?_)
    obtain ⟨tg4, x5, c_place_6, v7, hf⟩ := bd3_some hf
    refine LP27 FU _ _ _ _ _ _ _ _ _ _ _ _ _ _ _ hP hD hS v7 (lv_sub hl [1, 0] rfl) (fun etg4 H locs ls hP hD hS hl => ?_) (fun etg4 H locs ls hP hD hS hl => ?_)
    · replace hf := ifp etg4 hf
      refine lv_aload_n hx hb dX6_takeDigits_66 rfl (lv_at hl 0 rfl) ?_
      refine lv_iconst (v := 2) hx hb dX6_takeDigits_67 (by decide) ?_
      refine lv_aload_n hx hb dX6_takeDigits_68 rfl (lv_at hl 0 rfl) ?_
      refine va_get (D := (dC, dI)) (ci := 6) (v := .int c_place_6) (C := RX6) (T := TX6) (N := 8) hx hb hts (fun w h => gw_mem (inX6 w h)) hown hK.1 hP 0 rfl rfl 4 (by decide) (hts _ (gw_mem wfX6_29)) (fun _ h9 => h9) rfl dX6_takeDigits_69 ?_
      obtain ⟨r8, c_fault_9, c_faultPlace_10, v11, hf⟩ := bd3_some hf
      refine gci (va_runV (As := [.int 2, .int c_place_6]) (rest := []) ⟨hx, hb, hml, hown, hts⟩ (tX6_wrong l dC dI dA ad H.size v11) (ccX6_X6_wrong hts ⟨Nat.le_of_ble_eq_true rfl, Nat.le_of_ble_eq_true rfl⟩) (gPreV (ci := 6) (q0 := 0) hP hK hD rfl rfl) rfl rfl hl.1 rfl (lv_room (Nat.le_of_ble_eq_true rfl)) dX6_takeDigits_72 ⟨Nat.le_of_ble_eq_true rfl, Nat.le_of_ble_eq_true rfl⟩) hD hS hA (fun H locs hP hD hS => ?_)
      cases hf
      exact W.iret hx hb hr (fun t ht _ => gqi hP hD hS ht) hS.2.2 dX6_takeDigits_75
    · replace hf := ifn (c := tg4 = 0) (by rw [etg4]; decide) hf
      refine lv_iload_n hx hb dX6_takeDigits_106 rfl (lv_at hl 0 rfl) ?_
      cases hf
      exact W.iret hx hb hr (fun t ht _ => gqi hP hD hS ht) hS.2.2 dX6_takeDigits_107
  · replace hf := ifp k3 hf
    refine lv_aload_n hx hb dX6_takeDigits_7 rfl (lv_at hl 0 rfl) ?_
    refine lv_iconst (v := 1) hx hb dX6_takeDigits_8 (by decide) ?_
    refine lv_aload_n hx hb dX6_takeDigits_9 rfl (lv_at hl 0 rfl) ?_
    refine va_get (D := (dC, dI)) (ci := 6) (v := .int c_place) (C := RX6) (T := TX6) (N := 8) hx hb hts (fun w h => gw_mem (inX6 w h)) hown hK.1 hP 0 rfl rfl 4 (by decide) (hts _ (gw_mem wfX6_29)) (fun _ h9 => h9) rfl dX6_takeDigits_10 ?_
    obtain ⟨r12, c_fault_13, c_faultPlace_14, v15, hf⟩ := bd3_some hf
    refine gci (va_runV (As := [.int 1, .int c_place]) (rest := []) ⟨hx, hb, hml, hown, hts⟩ (tX6_wrong l dC dI dA ad H.size v15) (ccX6_X6_wrong hts ⟨Nat.le_of_ble_eq_true rfl, Nat.le_of_ble_eq_true rfl⟩) (gPreV (ci := 6) (q0 := 0) hP hK hD rfl rfl) rfl rfl hl.1 rfl (lv_room (Nat.le_of_ble_eq_true rfl)) dX6_takeDigits_13 ⟨Nat.le_of_ble_eq_true rfl, Nat.le_of_ble_eq_true rfl⟩) hD hS hA (fun H locs hP hD hS => ?_)
    cases hf
    exact W.iret hx hb hr (fun t ht _ => gqi hP hD hS ht) hS.2.2 dX6_takeDigits_16
theorem ccX6_X6_look {R : Room} {s : State} {args : Array Value} {c0 : Cond} (ht : ∀ w ∈ wq c0, w.before args s = true) (hR : rmX6_look.frames + 1 ≤ R.frames ∧ 8 + (1 + 11) + rmX6_look.locals ≤ R.locals) : CallW R s args RX6 RX6 55 yX6_look cX6_look 1 (some .int) (wq (.code yX6_look cX6_look 1 (some .int))) rmX6_look 0 0 0 := gCW 0 ht wcX6_look wmX6_55 wiX6_look weX6_look wnX6 (by decide +kernel) rfl rfl hR
theorem ccX6_X6_takeDigits {R : Room} {s : State} {args : Array Value} {c0 : Cond} (ht : ∀ w ∈ wq c0, w.before args s = true) (hR : rmX6_takeDigits.frames + 1 ≤ R.frames ∧ 8 + (3 + 11) + rmX6_takeDigits.locals ≤ R.locals) : CallW R s args RX6 RX6 90 yX6_takeDigits cX6_takeDigits 3 (some .int) (wq (.code yX6_takeDigits cX6_takeDigits 3 (some .int))) rmX6_takeDigits 0 0 1 := gCW 1 ht wcX6_takeDigits wmX6_90 wiX6_takeDigits weX6_takeDigits wnX6 (by decide +kernel) rfl rfl hR
theorem ccX6_X8_within {R : Room} {s : State} {args : Array Value} {c0 : Cond} (hN : gN s) (ht : ∀ w ∈ wq c0, w.before args s = true) (hR : rmX8_within.frames + 1 ≤ R.frames ∧ 8 + (3 + 11) + rmX8_within.locals ≤ R.locals) : va_CN R s args RX6 94 yX8_within RX8 cX8_within 3 (some .boolean) (wq (.code yX8_within cX8_within 3 (some .boolean))) rmX8_within 0 0 3 ∧ (Cond.static yX8_within).before args s = true ∧ True := gCSN 3 hN ht wcX8_within wmX6_94 wtX8_within wnX8 (by decide +kernel) rfl rfl hR
abbrev rmX6_takeNumber : Room := { frames := 2, cells := 0, slots := 0, locals := 44 }
set_option maxHeartbeats 4000000 in
set_option maxRecDepth 100000 in
theorem tX6_takeNumber (l : Launch) (dC : Nat → ClassId) (dI : Nat → Nat → Nat) (dA : Nat → ClassId) (ad : Nat → Nat) (sz : Nat) {p1 : Int32} {p2 : Int32} {c_size : Int32} {c_length : Int32} {c_place : Int32} {c_fault : Int32} {c_faultPlace : Int32} {c_begin : Int32} {c_bytes : Nat → Int32} {c_draft_terms : Nat → Int32} {r : Int32} {o_c_place : Int32} {o_c_fault : Int32} {o_c_faultPlace : Int32} {o_c_begin : Int32} (hf : fX6_takeNumber p1 p2 c_length c_place c_fault c_faultPlace c_begin c_bytes = some (r, o_c_place, o_c_fault, o_c_faultPlace, o_c_begin)) : Met l yX6_takeNumber (wq (Cond.code yX6_takeNumber cX6_takeNumber 4 (some .int))) rmX6_takeNumber (gP [.ref (ad 0), .int p1, .int p2] (dC, dI) dA (wX6 dA ad c_size c_length c_place c_fault c_faultPlace c_begin c_bytes c_draft_terms) sz) (gQi (dC, dI) r (wX6 dA ad c_size c_length o_c_place o_c_fault o_c_faultPlace o_c_begin c_bytes c_draft_terms) (va_A (wX6 dA ad c_size c_length c_place c_fault c_faultPlace c_begin c_bytes c_draft_terms) sz)) 0 0 (va_A (wX6 dA ad c_size c_length c_place c_fault c_faultPlace c_begin c_bytes c_draft_terms) sz) := by
  refine Met.ofW (cc := cX6_takeNumber) (maxL := 4) (ret := (some .int)) (by decide) rfl ?_
  intro p e s m args below meth c s₁ B hml hv
  obtain ⟨rfl, hsz, hP, hK, hD0⟩ := hv
  have hx := B.exec
  have hb := B.bytes
  have hr := B.returns
  have hts := atoms_spec (ws := wq (Cond.code yX6_takeNumber cX6_takeNumber 4 (some .int))) B.pre
  have hown : s.vm.findClass RX6 = some m.cls := findClass_of_methodNamed B.named
  have hlocks := B.notSynchronized
  clear B
  subst hsz
  have hD := hD0.self (sz := s.heap.size)
  generalize hAe : va_A (wX6 dA ad c_size c_length c_place c_fault c_faultPlace c_begin c_bytes c_draft_terms) s.heap.size = A at hD ⊢
  have hA : ∀ q : Nat, s.heap.size ≤ q → A q := fun q h => by rw [← hAe]; exact Or.inr h
  clear hAe hD0
  have hS : va_S A s.heap s.heap [] := va_S.rf
  have hl := lv_entry ([.ref (ad 0), .int p1, .int p2]) (n := 4) (Nat.le_of_ble_eq_true rfl)
  rw [lg_entry_eq]
  generalize (lg_sl ([.ref (ad 0), .int p1, .int p2]) ++ List.replicate (4 - (lg_sl ([.ref (ad 0), .int p1, .int p2])).length) Slot.unset).toArray = ls at hl ⊢
  have hl : lv_has ls 4 [(0, .ref (ad 0)), (1, .int p1), (2, .int p2)] := hl
  change W p l e rmX6_takeNumber s m ([.ref (ad 0), .int p1, .int p2] : List Value).toArray below meth c s.heap [] 0 0 _ _
  unfold fX6_takeNumber at hf
  refine lv_aload_n hx hb dX6_takeNumber_0 rfl (lv_at hl 0 rfl) ?_
  refine lv_aload_n hx hb dX6_takeNumber_1 rfl (lv_at hl 0 rfl) ?_
  obtain ⟨r1, c_place_2, v3, hf⟩ := bd2_some hf
  refine gci (va_runV (As := []) (rest := [.ref (ad 0)]) ⟨hx, hb, hml, hown, hts⟩ (tX6_look l dC dI dA ad s.heap.size v3) (ccX6_X6_look hts ⟨Nat.le_of_ble_eq_true rfl, Nat.le_of_ble_eq_true rfl⟩) (gPreV (ci := 6) (q0 := 0) hP hK hD rfl rfl) rfl rfl hl.1 rfl (lv_room (Nat.le_of_ble_eq_true rfl)) dX6_takeNumber_2 ⟨Nat.le_of_ble_eq_true rfl, Nat.le_of_ble_eq_true rfl⟩) hD hS hA (fun H locs hP hD hS => ?_)
  obtain ⟨r4, c_place_5, c_fault_6, c_faultPlace_7, c_begin_8, v9, hf⟩ := bd5_some hf
  refine gci (va_runV (As := [.int r1]) (rest := []) ⟨hx, hb, hml, hown, hts⟩ (tX6_takeDigits l dC dI dA ad H.size v9) (ccX6_X6_takeDigits hts ⟨Nat.le_of_ble_eq_true rfl, Nat.le_of_ble_eq_true rfl⟩) (gPreV (ci := 6) (q0 := 0) hP hK hD rfl rfl) rfl rfl hl.1 rfl (lv_room (Nat.le_of_ble_eq_true rfl)) dX6_takeNumber_5 ⟨Nat.le_of_ble_eq_true rfl, Nat.le_of_ble_eq_true rfl⟩) hD hS hA (fun H locs hP hD hS => ?_)
  refine lv_istore_n (lv' := [(3, .int r4), (0, .ref (ad 0)), (1, .int p1), (2, .int p2)]) hx hb dX6_takeNumber_8 rfl hl (by decide) rfl (fun ls hl => ?_)
  refine lv_iload_n hx hb dX6_takeNumber_9 rfl (lv_at hl 0 rfl) ?_
  refine lv_if_lt (tgt := 22) hx hb dX6_takeNumber_10 (by decide) (fun k10 => ?_) (fun k10 => ?_)
  · replace hf := ifp k10 hf
    refine lv_iload_n hx hb dX6_takeNumber_22 rfl (lv_at hl 0 rfl) ?_
    cases hf
    exact W.iret hx hb hr (fun t ht _ => gqi hP hD hS ht) hS.2.2 dX6_takeNumber_23
  · replace hf := ifn k10 hf
    refine lv_iload_n hx hb dX6_takeNumber_13 rfl (lv_at hl 0 rfl) ?_
    refine lv_iload_n hx hb dX6_takeNumber_14 rfl (lv_at hl 2 rfl) ?_
    refine lv_iload_n hx hb dX6_takeNumber_15 rfl (lv_at hl 3 rfl) ?_
    obtain ⟨r11, v12, hf⟩ := bd1_some hf
    refine gci0 (va_runSN (As := [.int r4, .int p1, .int p2]) (rest := []) ⟨hx, hb, hml, hown, hts⟩ (tX8_within l dC dI dA H.size v12) (ccX6_X8_within hK.2 hts ⟨Nat.le_of_ble_eq_true rfl, Nat.le_of_ble_eq_true rfl⟩) (gPreS0 hK) rfl rfl hl.1 rfl (lv_room (Nat.le_of_ble_eq_true rfl)) dX6_takeNumber_16 ⟨Nat.le_of_ble_eq_true rfl, Nat.le_of_ble_eq_true rfl⟩) hP hS hA (fun H locs hP hS => ?_)
    refine lv_if_eq (tgt := 24) hx hb dX6_takeNumber_19 (by decide) (fun k13 => ?_) (fun k13 => ?_)
    · replace hf := ifp k13 hf
      refine lv_aload_n hx hb dX6_takeNumber_24 rfl (lv_at hl 1 rfl) ?_
      refine lv_iconst (v := 3) hx hb dX6_takeNumber_25 (by decide) ?_
      refine lv_aload_n hx hb dX6_takeNumber_26 rfl (lv_at hl 1 rfl) ?_
      refine va_get (D := (dC, dI)) (ci := 6) (v := .int c_begin_8) (C := RX6) (T := TX6) (N := 8) hx hb hts (fun w h => gw_mem (inX6 w h)) hown hK.1 hP 0 rfl rfl 7 (by decide) (hts _ (gw_mem wfX6_38)) (fun _ h9 => h9) rfl dX6_takeNumber_27 ?_
      obtain ⟨r14, c_fault_15, c_faultPlace_16, v17, hf⟩ := bd3_some hf
      refine gci (va_runV (As := [.int 3, .int c_begin_8]) (rest := []) ⟨hx, hb, hml, hown, hts⟩ (tX6_wrong l dC dI dA ad H.size v17) (ccX6_X6_wrong hts ⟨Nat.le_of_ble_eq_true rfl, Nat.le_of_ble_eq_true rfl⟩) (gPreV (ci := 6) (q0 := 0) hP hK hD rfl rfl) rfl rfl hl.1 rfl (lv_room (Nat.le_of_ble_eq_true rfl)) dX6_takeNumber_30 ⟨Nat.le_of_ble_eq_true rfl, Nat.le_of_ble_eq_true rfl⟩) hD hS hA (fun H locs hP hD hS => ?_)
      cases hf
      exact W.iret hx hb hr (fun t ht _ => gqi hP hD hS ht) hS.2.2 dX6_takeNumber_33
    · replace hf := ifn k13 hf
      refine lv_iload_n hx hb dX6_takeNumber_22 rfl (lv_at hl 0 rfl) ?_
      cases hf
      exact W.iret hx hb hr (fun t ht _ => gqi hP hD hS ht) hS.2.2 dX6_takeNumber_23
theorem ccX6_X6_takeNumber {R : Room} {s : State} {args : Array Value} {c0 : Cond} (ht : ∀ w ∈ wq c0, w.before args s = true) (hR : rmX6_takeNumber.frames + 1 ≤ R.frames ∧ 8 + (4 + 11) + rmX6_takeNumber.locals ≤ R.locals) : CallW R s args RX6 RX6 64 yX6_takeNumber cX6_takeNumber 4 (some .int) (wq (.code yX6_takeNumber cX6_takeNumber 4 (some .int))) rmX6_takeNumber 0 0 2 := gCW 2 ht wcX6_takeNumber wmX6_64 wiX6_takeNumber weX6_takeNumber wnX6 (by decide +kernel) rfl rfl hR
theorem ccX6_X6_store {R : Room} {s : State} {args : Array Value} {c0 : Cond} (ht : ∀ w ∈ wq c0, w.before args s = true) (hR : rmX6_store.frames + 1 ≤ R.frames ∧ 8 + (3 + 11) + rmX6_store.locals ≤ R.locals) : CallW R s args RX6 RX6 67 yX6_store cX6_store 3 (some .boolean) (wq (.code yX6_store cX6_store 3 (some .boolean))) rmX6_store 0 0 2 := gCW 2 ht wcX6_store wmX6_67 wiX6_store weX6_store wnX6 (by decide +kernel) rfl rfl hR
theorem ccX6_X6_fails {R : Room} {s : State} {args : Array Value} {c0 : Cond} (ht : ∀ w ∈ wq c0, w.before args s = true) (hR : rmX6_fails.frames + 1 ≤ R.frames ∧ 8 + (3 + 11) + rmX6_fails.locals ≤ R.locals) : CallW R s args RX6 RX6 87 yX6_fails cX6_fails 3 (some .boolean) (wq (.code yX6_fails cX6_fails 3 (some .boolean))) rmX6_fails 0 0 2 := gCW 2 ht wcX6_fails wmX6_87 wiX6_fails weX6_fails wnX6 (by decide +kernel) rfl rfl hR
theorem ccX6_X0_setAllCoupons {R : Room} {s : State} {args : Array Value} {c0 : Cond} (ht : ∀ w ∈ wq c0, w.before args s = true) (hR : rmX0_setAllCoupons.frames + 1 ≤ R.frames ∧ 8 + (3 + 11) + rmX0_setAllCoupons.locals ≤ R.locals) : CallW R s args RX6 RX0 98 yX0_setAllCoupons cX0_setAllCoupons 3 none (wq (.code yX0_setAllCoupons cX0_setAllCoupons 3 none)) rmX0_setAllCoupons 0 0 1 := gCW 1 ht wcX0_setAllCoupons wmX6_98 wiX0_setAllCoupons weX0_setAllCoupons wnX0 (by decide +kernel) rfl rfl hR
abbrev rmX6_takeCoupon : Room := { frames := 3, cells := 0, slots := 0, locals := 67 }
set_option maxHeartbeats 4000000 in
set_option maxRecDepth 100000 in
theorem tX6_takeCoupon (l : Launch) (dC : Nat → ClassId) (dI : Nat → Nat → Nat) (dA : Nat → ClassId) (ad : Nat → Nat) (sz : Nat) {c_size : Int32} {c_length : Int32} {c_place : Int32} {c_fault : Int32} {c_faultPlace : Int32} {c_begin : Int32} {c_bytes : Nat → Int32} {c_draft_terms : Nat → Int32} {r : Int32} {o_c_place : Int32} {o_c_fault : Int32} {o_c_faultPlace : Int32} {o_c_begin : Int32} {o_c_draft_terms : Nat → Int32} (hf : fX6_takeCoupon c_length c_place c_fault c_faultPlace c_begin c_bytes c_draft_terms = some (r, o_c_place, o_c_fault, o_c_faultPlace, o_c_begin, o_c_draft_terms)) : Met l yX6_takeCoupon (wq (Cond.code yX6_takeCoupon cX6_takeCoupon 4 (some .boolean))) rmX6_takeCoupon (gP [.ref (ad 0)] (dC, dI) dA (wX6 dA ad c_size c_length c_place c_fault c_faultPlace c_begin c_bytes c_draft_terms) sz) (gQi (dC, dI) r (wX6 dA ad c_size c_length o_c_place o_c_fault o_c_faultPlace o_c_begin c_bytes o_c_draft_terms) (va_A (wX6 dA ad c_size c_length c_place c_fault c_faultPlace c_begin c_bytes c_draft_terms) sz)) 0 0 (va_A (wX6 dA ad c_size c_length c_place c_fault c_faultPlace c_begin c_bytes c_draft_terms) sz) := by
  refine Met.ofW (cc := cX6_takeCoupon) (maxL := 4) (ret := (some .boolean)) (by decide) rfl ?_
  intro p e s m args below meth c s₁ B hml hv
  obtain ⟨rfl, hsz, hP, hK, hD0⟩ := hv
  have hx := B.exec
  have hb := B.bytes
  have hr := B.returns
  have hts := atoms_spec (ws := wq (Cond.code yX6_takeCoupon cX6_takeCoupon 4 (some .boolean))) B.pre
  have hown : s.vm.findClass RX6 = some m.cls := findClass_of_methodNamed B.named
  have hlocks := B.notSynchronized
  clear B
  subst hsz
  have hD := hD0.self (sz := s.heap.size)
  generalize hAe : va_A (wX6 dA ad c_size c_length c_place c_fault c_faultPlace c_begin c_bytes c_draft_terms) s.heap.size = A at hD ⊢
  have hA : ∀ q : Nat, s.heap.size ≤ q → A q := fun q h => by rw [← hAe]; exact Or.inr h
  clear hAe hD0
  have hS : va_S A s.heap s.heap [] := va_S.rf
  have hl := lv_entry ([.ref (ad 0)]) (n := 4) (Nat.le_of_ble_eq_true rfl)
  rw [lg_entry_eq]
  generalize (lg_sl ([.ref (ad 0)]) ++ List.replicate (4 - (lg_sl ([.ref (ad 0)])).length) Slot.unset).toArray = ls at hl ⊢
  have hl : lv_has ls 4 [(0, .ref (ad 0))] := hl
  change W p l e rmX6_takeCoupon s m ([.ref (ad 0)] : List Value).toArray below meth c s.heap [] 0 0 _ _
  unfold fX6_takeCoupon at hf
  refine lv_aload_n hx hb dX6_takeCoupon_0 rfl (lv_at hl 0 rfl) ?_
  refine lv_aload_n hx hb dX6_takeCoupon_1 rfl (lv_at hl 0 rfl) ?_
  obtain ⟨r1, c_place_2, v3, hf⟩ := bd2_some hf
  refine gci (va_runV (As := []) (rest := [.ref (ad 0)]) ⟨hx, hb, hml, hown, hts⟩ (tX6_look l dC dI dA ad s.heap.size v3) (ccX6_X6_look hts ⟨Nat.le_of_ble_eq_true rfl, Nat.le_of_ble_eq_true rfl⟩) (gPreV (ci := 6) (q0 := 0) hP hK hD rfl rfl) rfl rfl hl.1 rfl (lv_room (Nat.le_of_ble_eq_true rfl)) dX6_takeCoupon_2 ⟨Nat.le_of_ble_eq_true rfl, Nat.le_of_ble_eq_true rfl⟩) hD hS hA (fun H locs hP hD hS => ?_)
  obtain ⟨r4, c_place_5, c_fault_6, c_faultPlace_7, c_begin_8, v9, hf⟩ := bd5_some hf
  refine gci (va_runV (As := [.int r1]) (rest := []) ⟨hx, hb, hml, hown, hts⟩ (tX6_takeDigits l dC dI dA ad H.size v9) (ccX6_X6_takeDigits hts ⟨Nat.le_of_ble_eq_true rfl, Nat.le_of_ble_eq_true rfl⟩) (gPreV (ci := 6) (q0 := 0) hP hK hD rfl rfl) rfl rfl hl.1 rfl (lv_room (Nat.le_of_ble_eq_true rfl)) dX6_takeCoupon_5 ⟨Nat.le_of_ble_eq_true rfl, Nat.le_of_ble_eq_true rfl⟩) hD hS hA (fun H locs hP hD hS => ?_)
  refine lv_istore_n (lv' := [(1, .int r4), (0, .ref (ad 0))]) hx hb dX6_takeCoupon_8 rfl hl (by decide) rfl (fun ls hl => ?_)
  refine lv_iload_n hx hb dX6_takeCoupon_9 rfl (lv_at hl 0 rfl) ?_
  refine lv_if_ge (tgt := 15) hx hb dX6_takeCoupon_10 (by decide) (fun k10 => ?_) (fun k10 => ?_)
  · replace hf := ifp k10 hf
    refine lv_aload_n hx hb dX6_takeCoupon_15 rfl (lv_at hl 1 rfl) ?_
    refine va_get (D := (dC, dI)) (ci := 6) (v := .int c_begin_8) (C := RX6) (T := TX6) (N := 8) hx hb hts (fun w h => gw_mem (inX6 w h)) hown hK.1 hP 0 rfl rfl 7 (by decide) (hts _ (gw_mem wfX6_38)) (fun _ h9 => h9) rfl dX6_takeCoupon_16 ?_
    refine lv_istore_n (lv' := [(2, .int c_begin_8), (1, .int r4), (0, .ref (ad 0))]) hx hb dX6_takeCoupon_19 rfl hl (by decide) rfl (fun ls hl => ?_)
    refine lv_aload_n hx hb dX6_takeCoupon_20 rfl (lv_at hl 2 rfl) ?_
    refine va_get (D := (dC, dI)) (ci := 6) (v := .int c_place_5) (C := RX6) (T := TX6) (N := 8) hx hb hts (fun w h => gw_mem (inX6 w h)) hown hK.1 hP 0 rfl rfl 4 (by decide) (hts _ (gw_mem wfX6_29)) (fun _ h9 => h9) rfl dX6_takeCoupon_21 ?_
    refine lv_iload_n hx hb dX6_takeCoupon_24 rfl (lv_at hl 0 rfl) ?_
    refine lv_isub hx hb dX6_takeCoupon_25 ?_
    refine lv_iconst (v := 1) hx hb dX6_takeCoupon_26 (by decide) ?_
    obtain ⟨j12, v14, hf⟩ := bd1_some hf
    have J13 : ∀ (H : Heap) (locs : List Loc) (ls : Array Slot), va_P (dC, dI) vwCl (wX6 dA ad c_size c_length c_place_5 c_fault_6 c_faultPlace_7 c_begin_8 c_bytes c_draft_terms) H → va_D A (wX6 dA ad c_size c_length c_place_5 c_fault_6 c_faultPlace_7 c_begin_8 c_bytes c_draft_terms) → va_S A s.heap H locs → lv_has ls 4 [(0, .ref (ad 0)), (1, .int r4), (2, .int c_begin_8)] → W p l e rmX6_takeCoupon s m ([.ref (ad 0)] : List Value).toArray below meth c H locs 0 0 (MQ below (gQi (dC, dI) r (wX6 dA ad c_size c_length o_c_place o_c_fault o_c_faultPlace o_c_begin c_bytes o_c_draft_terms) A) ([.ref (ad 0)] : List Value).toArray s 0 0 A) (F0 m 35 ls [.int j12]) := by
      intro H locs ls hP hD hS hl
      refine lv_istore_n (lv' := [(3, .int j12), (0, .ref (ad 0)), (1, .int r4), (2, .int c_begin_8)]) hx hb dX6_takeCoupon_35 rfl hl (by decide) rfl (fun ls hl => ?_)
      refine lv_iload_n hx hb dX6_takeCoupon_36 rfl (lv_at hl 0 rfl) ?_
      refine lv_if_eq (tgt := 93) hx hb dX6_takeCoupon_37 (by decide) (fun k15 => ?_) (fun k15 => ?_)
      · replace hf := ifp k15 hf
        refine lv_iload_n hx hb dX6_takeCoupon_93 rfl (lv_at hl 2 rfl) ?_
        refine lv_sipush (v := 1000) hx hb dX6_takeCoupon_94 (by decide) ?_
        refine lv_icmp_le (tgt := 107) hx hb dX6_takeCoupon_97 (by decide) (fun k16 => ?_) (fun k16 => ?_)
        · replace hf := ifp k16 hf
          refine lv_aload_n hx hb dX6_takeCoupon_107 rfl (lv_at hl 1 rfl) ?_
          refine va_get (D := (dC, dI)) (ci := 6) (v := .ref (ad 2)) (C := RX6) (T := TX6) (N := 8) hx hb hts (fun w h => gw_mem (inX6 w h)) hown hK.1 hP 0 rfl rfl 2 (by decide) (hts _ (gw_mem wfX6_22)) (fun _ h9 => h9) rfl dX6_takeCoupon_108 ?_
          refine lv_iload_n hx hb dX6_takeCoupon_111 rfl (lv_at hl 2 rfl) ?_
          obtain ⟨c_draft_terms_17, v18, hf⟩ := bd1_some hf
          have z19 := sg1 (ws := (wX6 dA ad c_size c_length c_place_5 c_fault_6 c_faultPlace_7 c_begin_8 c_bytes c_draft_terms)) (s0 := ((wX6 dA ad c_size c_length c_place_5 c_fault_6 c_faultPlace_7 c_begin_8 c_bytes c_draft_terms)).take 2) (s1 := ((wX6 dA ad c_size c_length c_place_5 c_fault_6 c_faultPlace_7 c_begin_8 c_bytes c_draft_terms)).drop 4) (x1 := (wX0 dA (fun i => ad (i + 2)) c_draft_terms)) rfl
          refine gpv (wf := (wX6 dA ad c_size c_length c_place_5 c_fault_6 c_faultPlace_7 c_begin_8 c_bytes c_draft_terms_17)) (va_runV (As := [.int r4]) (rest := []) ⟨hx, hb, hml, hown, hts⟩ (tX0_setAllCoupons l dC dI dA (fun i => ad (i + 2)) H.size v18) (ccX6_X0_setAllCoupons hts ⟨Nat.le_of_ble_eq_true rfl, Nat.le_of_ble_eq_true rfl⟩) (gPreV (ci := 1) (q0 := 0) (psub z19 hP) hK (psubD z19 hD) rfl rfl) rfl rfl hl.1 rfl (lv_room (Nat.le_of_ble_eq_true rfl)) dX6_takeCoupon_112 ⟨Nat.le_of_ble_eq_true rfl, Nat.le_of_ble_eq_true rfl⟩) hP hD hS hA z19 (sg1 (s0 := ((wX6 dA ad c_size c_length c_place_5 c_fault_6 c_faultPlace_7 c_begin_8 c_bytes c_draft_terms)).take 2) (s1 := ((wX6 dA ad c_size c_length c_place_5 c_fault_6 c_faultPlace_7 c_begin_8 c_bytes c_draft_terms)).drop 4) (x1 := (wX0 dA (fun i => ad (i + 2)) c_draft_terms_17)) rfl) (fun H locs hP hD hS => ?_)
          refine lv_iconst (v := 1) hx hb dX6_takeCoupon_115 (by decide) ?_
          cases hf
          exact W.zret (ty := .boolean) hx hb hr rfl (fun t ht _ => gqi hP hD hS ht) hS.2.2 dX6_takeCoupon_116
        · replace hf := ifn k16 hf
          refine lv_aload_n hx hb dX6_takeCoupon_100 rfl (lv_at hl 1 rfl) ?_
          refine lv_iconst (v := 3) hx hb dX6_takeCoupon_101 (by decide) ?_
          refine lv_iload_n hx hb dX6_takeCoupon_102 rfl (lv_at hl 3 rfl) ?_
          obtain ⟨r20, c_fault_21, c_faultPlace_22, v23, hf⟩ := bd3_some hf
          refine gci (va_runV (As := [.int 3, .int c_begin_8]) (rest := []) ⟨hx, hb, hml, hown, hts⟩ (tX6_fails l dC dI dA ad H.size v23) (ccX6_X6_fails hts ⟨Nat.le_of_ble_eq_true rfl, Nat.le_of_ble_eq_true rfl⟩) (gPreV (ci := 6) (q0 := 0) hP hK hD rfl rfl) rfl rfl hl.1 rfl (lv_room (Nat.le_of_ble_eq_true rfl)) dX6_takeCoupon_103 ⟨Nat.le_of_ble_eq_true rfl, Nat.le_of_ble_eq_true rfl⟩) hD hS hA (fun H locs hP hD hS => ?_)
          obtain ⟨h24, hf⟩ := og_some hf
          cases hf
          exact W.zret (ty := .boolean) hx hb hr (boB_nar h24) (fun t ht _ => gqi hP hD hS ht) hS.2.2 dX6_takeCoupon_106
      · replace hf := ifn k15 hf
        refine lv_aload_n hx hb dX6_takeCoupon_40 rfl (lv_at hl 1 rfl) ?_
        obtain ⟨r25, c_place_26, v27, hf⟩ := bd2_some hf
        refine gci (va_runV (As := []) (rest := []) ⟨hx, hb, hml, hown, hts⟩ (tX6_look l dC dI dA ad H.size v27) (ccX6_X6_look hts ⟨Nat.le_of_ble_eq_true rfl, Nat.le_of_ble_eq_true rfl⟩) (gPreV (ci := 6) (q0 := 0) hP hK hD rfl rfl) rfl rfl hl.1 rfl (lv_room (Nat.le_of_ble_eq_true rfl)) dX6_takeCoupon_41 ⟨Nat.le_of_ble_eq_true rfl, Nat.le_of_ble_eq_true rfl⟩) hD hS hA (fun H locs hP hD hS => ?_)
        refine lv_bipush (v := 58) hx hb dX6_takeCoupon_44 (by decide) ?_
        refine lv_icmp_ne (tgt := 93) hx hb dX6_takeCoupon_46 (by decide) (fun k28 => ?_) (fun k28 => ?_)
        · replace hf := ifn k28 hf
          refine lv_iload_n hx hb dX6_takeCoupon_93 rfl (lv_at hl 2 rfl) ?_
          refine lv_sipush (v := 1000) hx hb dX6_takeCoupon_94 (by decide) ?_
          refine lv_icmp_le (tgt := 107) hx hb dX6_takeCoupon_97 (by decide) (fun k29 => ?_) (fun k29 => ?_)
          · replace hf := ifp k29 hf
            refine lv_aload_n hx hb dX6_takeCoupon_107 rfl (lv_at hl 1 rfl) ?_
            refine va_get (D := (dC, dI)) (ci := 6) (v := .ref (ad 2)) (C := RX6) (T := TX6) (N := 8) hx hb hts (fun w h => gw_mem (inX6 w h)) hown hK.1 hP 0 rfl rfl 2 (by decide) (hts _ (gw_mem wfX6_22)) (fun _ h9 => h9) rfl dX6_takeCoupon_108 ?_
            refine lv_iload_n hx hb dX6_takeCoupon_111 rfl (lv_at hl 2 rfl) ?_
            obtain ⟨c_draft_terms_30, v31, hf⟩ := bd1_some hf
            have z32 := sg1 (ws := (wX6 dA ad c_size c_length c_place_26 c_fault_6 c_faultPlace_7 c_begin_8 c_bytes c_draft_terms)) (s0 := ((wX6 dA ad c_size c_length c_place_26 c_fault_6 c_faultPlace_7 c_begin_8 c_bytes c_draft_terms)).take 2) (s1 := ((wX6 dA ad c_size c_length c_place_26 c_fault_6 c_faultPlace_7 c_begin_8 c_bytes c_draft_terms)).drop 4) (x1 := (wX0 dA (fun i => ad (i + 2)) c_draft_terms)) rfl
            refine gpv (wf := (wX6 dA ad c_size c_length c_place_26 c_fault_6 c_faultPlace_7 c_begin_8 c_bytes c_draft_terms_30)) (va_runV (As := [.int r4]) (rest := []) ⟨hx, hb, hml, hown, hts⟩ (tX0_setAllCoupons l dC dI dA (fun i => ad (i + 2)) H.size v31) (ccX6_X0_setAllCoupons hts ⟨Nat.le_of_ble_eq_true rfl, Nat.le_of_ble_eq_true rfl⟩) (gPreV (ci := 1) (q0 := 0) (psub z32 hP) hK (psubD z32 hD) rfl rfl) rfl rfl hl.1 rfl (lv_room (Nat.le_of_ble_eq_true rfl)) dX6_takeCoupon_112 ⟨Nat.le_of_ble_eq_true rfl, Nat.le_of_ble_eq_true rfl⟩) hP hD hS hA z32 (sg1 (s0 := ((wX6 dA ad c_size c_length c_place_26 c_fault_6 c_faultPlace_7 c_begin_8 c_bytes c_draft_terms)).take 2) (s1 := ((wX6 dA ad c_size c_length c_place_26 c_fault_6 c_faultPlace_7 c_begin_8 c_bytes c_draft_terms)).drop 4) (x1 := (wX0 dA (fun i => ad (i + 2)) c_draft_terms_30)) rfl) (fun H locs hP hD hS => ?_)
            refine lv_iconst (v := 1) hx hb dX6_takeCoupon_115 (by decide) ?_
            cases hf
            exact W.zret (ty := .boolean) hx hb hr rfl (fun t ht _ => gqi hP hD hS ht) hS.2.2 dX6_takeCoupon_116
          · replace hf := ifn k29 hf
            refine lv_aload_n hx hb dX6_takeCoupon_100 rfl (lv_at hl 1 rfl) ?_
            refine lv_iconst (v := 3) hx hb dX6_takeCoupon_101 (by decide) ?_
            refine lv_iload_n hx hb dX6_takeCoupon_102 rfl (lv_at hl 3 rfl) ?_
            obtain ⟨r33, c_fault_34, c_faultPlace_35, v36, hf⟩ := bd3_some hf
            refine gci (va_runV (As := [.int 3, .int c_begin_8]) (rest := []) ⟨hx, hb, hml, hown, hts⟩ (tX6_fails l dC dI dA ad H.size v36) (ccX6_X6_fails hts ⟨Nat.le_of_ble_eq_true rfl, Nat.le_of_ble_eq_true rfl⟩) (gPreV (ci := 6) (q0 := 0) hP hK hD rfl rfl) rfl rfl hl.1 rfl (lv_room (Nat.le_of_ble_eq_true rfl)) dX6_takeCoupon_103 ⟨Nat.le_of_ble_eq_true rfl, Nat.le_of_ble_eq_true rfl⟩) hD hS hA (fun H locs hP hD hS => ?_)
            obtain ⟨h37, hf⟩ := og_some hf
            cases hf
            exact W.zret (ty := .boolean) hx hb hr (boB_nar h37) (fun t ht _ => gqi hP hD hS ht) hS.2.2 dX6_takeCoupon_106
        · replace hf := ifp k28 hf
          refine lv_aload_n hx hb dX6_takeCoupon_49 rfl (lv_at hl 1 rfl) ?_
          refine lv_dup hx hb dX6_takeCoupon_50 rfl ?_
          refine va_get (D := (dC, dI)) (ci := 6) (v := .int c_place_26) (C := RX6) (T := TX6) (N := 8) hx hb hts (fun w h => gw_mem (inX6 w h)) hown hK.1 hP 0 rfl rfl 4 (by decide) (hts _ (gw_mem wfX6_29)) (fun _ h9 => h9) rfl dX6_takeCoupon_51 ?_
          refine lv_iconst (v := 1) hx hb dX6_takeCoupon_54 (by decide) ?_
          refine lv_iadd hx hb dX6_takeCoupon_55 ?_
          refine lv_topi (fun w38 ew38 => ?_)
          replace hf := nm_at hf ew38
          refine va_put (D := (dC, dI)) (ci := 6) (v := .int w38) (ty := .int) (C := RX6) (T := TX6) (N := 8) hx hb hts (fun w h => gw_mem (inX6 w h)) tyX6 tyX6_ok nmX6 hown hK.1 hP hD hS 0 rfl rfl 4 (by decide) (hts _ (gw_mem wfX6_29)) (fun _ h9 => h9) rfl (by decide +kernel) rfl rfl (Nat.le_of_ble_eq_true rfl) dX6_takeCoupon_56 (fun H locs hP hD hS => ?_)
          have hP : va_P (dC, dI) vwCl (wX6 dA ad c_size c_length w38 c_fault_6 c_faultPlace_7 c_begin_8 c_bytes c_draft_terms) H := hP
          have hD : va_D A (wX6 dA ad c_size c_length w38 c_fault_6 c_faultPlace_7 c_begin_8 c_bytes c_draft_terms) := hD
          refine lv_iload_n hx hb dX6_takeCoupon_59 rfl (lv_at hl 2 rfl) ?_
          refine lv_iconst (v := 1) hx hb dX6_takeCoupon_60 (by decide) ?_
          refine lv_bipush (v := 6) hx hb dX6_takeCoupon_61 (by decide) ?_
          obtain ⟨r39, v40, hf⟩ := bd1_some hf
          refine gci0 (va_runSN (As := [.int r4, .int 1, .int 6]) (rest := []) ⟨hx, hb, hml, hown, hts⟩ (tX8_within l dC dI dA H.size v40) (ccX6_X8_within hK.2 hts ⟨Nat.le_of_ble_eq_true rfl, Nat.le_of_ble_eq_true rfl⟩) (gPreS0 hK) rfl rfl hl.1 rfl (lv_room (Nat.le_of_ble_eq_true rfl)) dX6_takeCoupon_63 ⟨Nat.le_of_ble_eq_true rfl, Nat.le_of_ble_eq_true rfl⟩) hP hS hA (fun H locs hP hS => ?_)
          refine lv_if_ne (tgt := 76) hx hb dX6_takeCoupon_66 (by decide) (fun k41 => ?_) (fun k41 => ?_)
          · replace hf := ifn k41 hf
            refine lv_aload_n hx hb dX6_takeCoupon_76 rfl (lv_at hl 1 rfl) ?_
            refine lv_bipush (v := 10) hx hb dX6_takeCoupon_77 (by decide) ?_
            refine lv_iload_n hx hb dX6_takeCoupon_79 rfl (lv_at hl 2 rfl) ?_
            refine lv_iadd hx hb dX6_takeCoupon_80 ?_
            refine lv_aload_n hx hb dX6_takeCoupon_81 rfl (lv_at hl 1 rfl) ?_
            refine lv_iconst (v := 0) hx hb dX6_takeCoupon_82 (by decide) ?_
            refine lv_sipush (v := 1000) hx hb dX6_takeCoupon_83 (by decide) ?_
            obtain ⟨r42, c_place_43, c_fault_44, c_faultPlace_45, c_begin_46, v47, hf⟩ := bd5_some hf
            refine gci (va_runV (As := [.int 0, .int 1000]) (rest := [.int (10 + r4), .ref (ad 0)]) ⟨hx, hb, hml, hown, hts⟩ (tX6_takeNumber l dC dI dA ad H.size v47) (ccX6_X6_takeNumber hts ⟨Nat.le_of_ble_eq_true rfl, Nat.le_of_ble_eq_true rfl⟩) (gPreV (ci := 6) (q0 := 0) hP hK hD rfl rfl) rfl rfl hl.1 rfl (lv_room (Nat.le_of_ble_eq_true rfl)) dX6_takeCoupon_86 ⟨Nat.le_of_ble_eq_true rfl, Nat.le_of_ble_eq_true rfl⟩) hD hS hA (fun H locs hP hD hS => ?_)
            obtain ⟨r48, c_draft_terms_49, v50, hf⟩ := bd2_some hf
            refine gci (va_runV (As := [.int (10 + r4), .int r42]) (rest := []) ⟨hx, hb, hml, hown, hts⟩ (tX6_store l dC dI dA ad H.size v50) (ccX6_X6_store hts ⟨Nat.le_of_ble_eq_true rfl, Nat.le_of_ble_eq_true rfl⟩) (gPreV (ci := 6) (q0 := 0) hP hK hD rfl rfl) rfl rfl hl.1 rfl (lv_room (Nat.le_of_ble_eq_true rfl)) dX6_takeCoupon_89 ⟨Nat.le_of_ble_eq_true rfl, Nat.le_of_ble_eq_true rfl⟩) hD hS hA (fun H locs hP hD hS => ?_)
            obtain ⟨h51, hf⟩ := og_some hf
            cases hf
            exact W.zret (ty := .boolean) hx hb hr (boB_nar h51) (fun t ht _ => gqi hP hD hS ht) hS.2.2 dX6_takeCoupon_92
          · replace hf := ifp k41 hf
            refine lv_aload_n hx hb dX6_takeCoupon_69 rfl (lv_at hl 1 rfl) ?_
            refine lv_iconst (v := 3) hx hb dX6_takeCoupon_70 (by decide) ?_
            refine lv_iload_n hx hb dX6_takeCoupon_71 rfl (lv_at hl 3 rfl) ?_
            obtain ⟨r52, c_fault_53, c_faultPlace_54, v55, hf⟩ := bd3_some hf
            refine gci (va_runV (As := [.int 3, .int c_begin_8]) (rest := []) ⟨hx, hb, hml, hown, hts⟩ (tX6_fails l dC dI dA ad H.size v55) (ccX6_X6_fails hts ⟨Nat.le_of_ble_eq_true rfl, Nat.le_of_ble_eq_true rfl⟩) (gPreV (ci := 6) (q0 := 0) hP hK hD rfl rfl) rfl rfl hl.1 rfl (lv_room (Nat.le_of_ble_eq_true rfl)) dX6_takeCoupon_72 ⟨Nat.le_of_ble_eq_true rfl, Nat.le_of_ble_eq_true rfl⟩) hD hS hA (fun H locs hP hD hS => ?_)
            obtain ⟨h56, hf⟩ := og_some hf
            cases hf
            exact W.zret (ty := .boolean) hx hb hr (boB_nar h56) (fun t ht _ => gqi hP hD hS ht) hS.2.2 dX6_takeCoupon_75
    replace hf := v14
    clear v14
    refine lv_icmp_ne (tgt := 34) hx hb dX6_takeCoupon_27 (by decide) (fun k11 => ?_) (fun k11 => ?_)
    · replace hf := ifn k11 hf
      refine lv_iconst (v := 0) hx hb dX6_takeCoupon_34 (by decide) ?_
      cases hf
      exact J13 _ _ _ hP hD hS (lv_sub hl [2, 1, 0] rfl)
    · replace hf := ifp k11 hf
      refine lv_iconst (v := 1) hx hb dX6_takeCoupon_30 (by decide) ?_
      refine lv_goto (tgt := 35) hx hb dX6_takeCoupon_31 (by decide) ?_
      cases hf
      exact J13 _ _ _ hP hD hS (lv_sub hl [2, 1, 0] rfl)
  · replace hf := ifn k10 hf
    refine lv_iconst (v := 0) hx hb dX6_takeCoupon_13 (by decide) ?_
    cases hf
    exact W.zret (ty := .boolean) hx hb hr rfl (fun t ht _ => gqi hP hD hS ht) hS.2.2 dX6_takeCoupon_14
abbrev rmX6_takeDigit : Room := { frames := 2, cells := 0, slots := 0, locals := 41 }
set_option maxHeartbeats 4000000 in
set_option maxRecDepth 100000 in
theorem tX6_takeDigit (l : Launch) (dC : Nat → ClassId) (dI : Nat → Nat → Nat) (dA : Nat → ClassId) (ad : Nat → Nat) (sz : Nat) {p1 : Int32} {p2 : Int32} {c_size : Int32} {c_length : Int32} {c_place : Int32} {c_fault : Int32} {c_faultPlace : Int32} {c_begin : Int32} {c_bytes : Nat → Int32} {c_draft_terms : Nat → Int32} {r : Int32} {o_c_place : Int32} {o_c_fault : Int32} {o_c_faultPlace : Int32} (hf : fX6_takeDigit p1 p2 c_length c_place c_fault c_faultPlace c_bytes = some (r, o_c_place, o_c_fault, o_c_faultPlace)) : Met l yX6_takeDigit (wq (Cond.code yX6_takeDigit cX6_takeDigit 4 (some .int))) rmX6_takeDigit (gP [.ref (ad 0), .int p1, .int p2] (dC, dI) dA (wX6 dA ad c_size c_length c_place c_fault c_faultPlace c_begin c_bytes c_draft_terms) sz) (gQi (dC, dI) r (wX6 dA ad c_size c_length o_c_place o_c_fault o_c_faultPlace c_begin c_bytes c_draft_terms) (va_A (wX6 dA ad c_size c_length c_place c_fault c_faultPlace c_begin c_bytes c_draft_terms) sz)) 0 0 (va_A (wX6 dA ad c_size c_length c_place c_fault c_faultPlace c_begin c_bytes c_draft_terms) sz) := by
  refine Met.ofW (cc := cX6_takeDigit) (maxL := 4) (ret := (some .int)) (by decide) rfl ?_
  intro p e s m args below meth c s₁ B hml hv
  obtain ⟨rfl, hsz, hP, hK, hD0⟩ := hv
  have hx := B.exec
  have hb := B.bytes
  have hr := B.returns
  have hts := atoms_spec (ws := wq (Cond.code yX6_takeDigit cX6_takeDigit 4 (some .int))) B.pre
  have hown : s.vm.findClass RX6 = some m.cls := findClass_of_methodNamed B.named
  have hlocks := B.notSynchronized
  clear B
  subst hsz
  have hD := hD0.self (sz := s.heap.size)
  generalize hAe : va_A (wX6 dA ad c_size c_length c_place c_fault c_faultPlace c_begin c_bytes c_draft_terms) s.heap.size = A at hD ⊢
  have hA : ∀ q : Nat, s.heap.size ≤ q → A q := fun q h => by rw [← hAe]; exact Or.inr h
  clear hAe hD0
  have hS : va_S A s.heap s.heap [] := va_S.rf
  have hl := lv_entry ([.ref (ad 0), .int p1, .int p2]) (n := 4) (Nat.le_of_ble_eq_true rfl)
  rw [lg_entry_eq]
  generalize (lg_sl ([.ref (ad 0), .int p1, .int p2]) ++ List.replicate (4 - (lg_sl ([.ref (ad 0), .int p1, .int p2])).length) Slot.unset).toArray = ls at hl ⊢
  have hl : lv_has ls 4 [(0, .ref (ad 0)), (1, .int p1), (2, .int p2)] := hl
  change W p l e rmX6_takeDigit s m ([.ref (ad 0), .int p1, .int p2] : List Value).toArray below meth c s.heap [] 0 0 _ _
  unfold fX6_takeDigit at hf
  refine lv_aload_n hx hb dX6_takeDigit_0 rfl (lv_at hl 0 rfl) ?_
  obtain ⟨r1, c_place_2, v3, hf⟩ := bd2_some hf
  refine gci (va_runV (As := []) (rest := []) ⟨hx, hb, hml, hown, hts⟩ (tX6_look l dC dI dA ad s.heap.size v3) (ccX6_X6_look hts ⟨Nat.le_of_ble_eq_true rfl, Nat.le_of_ble_eq_true rfl⟩) (gPreV (ci := 6) (q0 := 0) hP hK hD rfl rfl) rfl rfl hl.1 rfl (lv_room (Nat.le_of_ble_eq_true rfl)) dX6_takeDigit_1 ⟨Nat.le_of_ble_eq_true rfl, Nat.le_of_ble_eq_true rfl⟩) hD hS hA (fun H locs hP hD hS => ?_)
  refine lv_istore_n (lv' := [(3, .int r1), (0, .ref (ad 0)), (1, .int p1), (2, .int p2)]) hx hb dX6_takeDigit_4 rfl hl (by decide) rfl (fun ls hl => ?_)
  refine lv_iload_n hx hb dX6_takeDigit_5 rfl (lv_at hl 0 rfl) ?_
  obtain ⟨r4, v5, hf⟩ := bd1_some hf
  refine gci0 (va_runS (As := [.int r1]) (rest := []) ⟨hx, hb, hml, hown, hts⟩ (tX6_isDigit l dC dI dA H.size v5) (ccX6_X6_isDigit hts ⟨Nat.le_of_ble_eq_true rfl, Nat.le_of_ble_eq_true rfl⟩) (gPreS0 hK) rfl rfl hl.1 rfl (lv_room (Nat.le_of_ble_eq_true rfl)) dX6_takeDigit_6 ⟨Nat.le_of_ble_eq_true rfl, Nat.le_of_ble_eq_true rfl⟩) hP hS hA (fun H locs hP hS => ?_)
  refine lv_if_ne (tgt := 22) hx hb dX6_takeDigit_9 (by decide) (fun k6 => ?_) (fun k6 => ?_)
  · replace hf := ifn k6 hf
    refine lv_iload_n hx hb dX6_takeDigit_22 rfl (lv_at hl 0 rfl) ?_
    refine lv_bipush (v := 48) hx hb dX6_takeDigit_23 (by decide) ?_
    refine lv_isub hx hb dX6_takeDigit_25 ?_
    refine lv_iload_n hx hb dX6_takeDigit_26 rfl (lv_at hl 2 rfl) ?_
    refine lv_iload_n hx hb dX6_takeDigit_27 rfl (lv_at hl 3 rfl) ?_
    obtain ⟨r7, v8, hf⟩ := bd1_some hf
    refine gci0 (va_runSN (As := [.int (r1 - 48), .int p1, .int p2]) (rest := []) ⟨hx, hb, hml, hown, hts⟩ (tX8_within l dC dI dA H.size v8) (ccX6_X8_within hK.2 hts ⟨Nat.le_of_ble_eq_true rfl, Nat.le_of_ble_eq_true rfl⟩) (gPreS0 hK) rfl rfl hl.1 rfl (lv_room (Nat.le_of_ble_eq_true rfl)) dX6_takeDigit_28 ⟨Nat.le_of_ble_eq_true rfl, Nat.le_of_ble_eq_true rfl⟩) hP hS hA (fun H locs hP hS => ?_)
    refine lv_if_ne (tgt := 44) hx hb dX6_takeDigit_31 (by decide) (fun k9 => ?_) (fun k9 => ?_)
    · replace hf := ifn k9 hf
      refine lv_aload_n hx hb dX6_takeDigit_44 rfl (lv_at hl 1 rfl) ?_
      refine lv_dup hx hb dX6_takeDigit_45 rfl ?_
      refine va_get (D := (dC, dI)) (ci := 6) (v := .int c_place_2) (C := RX6) (T := TX6) (N := 8) hx hb hts (fun w h => gw_mem (inX6 w h)) hown hK.1 hP 0 rfl rfl 4 (by decide) (hts _ (gw_mem wfX6_29)) (fun _ h9 => h9) rfl dX6_takeDigit_46 ?_
      refine lv_iconst (v := 1) hx hb dX6_takeDigit_49 (by decide) ?_
      refine lv_iadd hx hb dX6_takeDigit_50 ?_
      refine lv_topi (fun w10 ew10 => ?_)
      replace hf := nm_at hf ew10
      refine va_put (D := (dC, dI)) (ci := 6) (v := .int w10) (ty := .int) (C := RX6) (T := TX6) (N := 8) hx hb hts (fun w h => gw_mem (inX6 w h)) tyX6 tyX6_ok nmX6 hown hK.1 hP hD hS 0 rfl rfl 4 (by decide) (hts _ (gw_mem wfX6_29)) (fun _ h9 => h9) rfl (by decide +kernel) rfl rfl (Nat.le_of_ble_eq_true rfl) dX6_takeDigit_51 (fun H locs hP hD hS => ?_)
      have hP : va_P (dC, dI) vwCl (wX6 dA ad c_size c_length w10 c_fault c_faultPlace c_begin c_bytes c_draft_terms) H := hP
      have hD : va_D A (wX6 dA ad c_size c_length w10 c_fault c_faultPlace c_begin c_bytes c_draft_terms) := hD
      refine lv_iload_n hx hb dX6_takeDigit_54 rfl (lv_at hl 0 rfl) ?_
      refine lv_bipush (v := 48) hx hb dX6_takeDigit_55 (by decide) ?_
      refine lv_isub hx hb dX6_takeDigit_57 ?_
      cases hf
      exact W.iret hx hb hr (fun t ht _ => gqi hP hD hS ht) hS.2.2 dX6_takeDigit_58
    · replace hf := ifp k9 hf
      refine lv_aload_n hx hb dX6_takeDigit_34 rfl (lv_at hl 1 rfl) ?_
      refine lv_iconst (v := 3) hx hb dX6_takeDigit_35 (by decide) ?_
      refine lv_aload_n hx hb dX6_takeDigit_36 rfl (lv_at hl 1 rfl) ?_
      refine va_get (D := (dC, dI)) (ci := 6) (v := .int c_place_2) (C := RX6) (T := TX6) (N := 8) hx hb hts (fun w h => gw_mem (inX6 w h)) hown hK.1 hP 0 rfl rfl 4 (by decide) (hts _ (gw_mem wfX6_29)) (fun _ h9 => h9) rfl dX6_takeDigit_37 ?_
      obtain ⟨r11, c_fault_12, c_faultPlace_13, v14, hf⟩ := bd3_some hf
      refine gci (va_runV (As := [.int 3, .int c_place_2]) (rest := []) ⟨hx, hb, hml, hown, hts⟩ (tX6_wrong l dC dI dA ad H.size v14) (ccX6_X6_wrong hts ⟨Nat.le_of_ble_eq_true rfl, Nat.le_of_ble_eq_true rfl⟩) (gPreV (ci := 6) (q0 := 0) hP hK hD rfl rfl) rfl rfl hl.1 rfl (lv_room (Nat.le_of_ble_eq_true rfl)) dX6_takeDigit_40 ⟨Nat.le_of_ble_eq_true rfl, Nat.le_of_ble_eq_true rfl⟩) hD hS hA (fun H locs hP hD hS => ?_)
      cases hf
      exact W.iret hx hb hr (fun t ht _ => gqi hP hD hS ht) hS.2.2 dX6_takeDigit_43
  · replace hf := ifp k6 hf
    refine lv_aload_n hx hb dX6_takeDigit_12 rfl (lv_at hl 1 rfl) ?_
    refine lv_iconst (v := 1) hx hb dX6_takeDigit_13 (by decide) ?_
    refine lv_aload_n hx hb dX6_takeDigit_14 rfl (lv_at hl 1 rfl) ?_
    refine va_get (D := (dC, dI)) (ci := 6) (v := .int c_place_2) (C := RX6) (T := TX6) (N := 8) hx hb hts (fun w h => gw_mem (inX6 w h)) hown hK.1 hP 0 rfl rfl 4 (by decide) (hts _ (gw_mem wfX6_29)) (fun _ h9 => h9) rfl dX6_takeDigit_15 ?_
    obtain ⟨r15, c_fault_16, c_faultPlace_17, v18, hf⟩ := bd3_some hf
    refine gci (va_runV (As := [.int 1, .int c_place_2]) (rest := []) ⟨hx, hb, hml, hown, hts⟩ (tX6_wrong l dC dI dA ad H.size v18) (ccX6_X6_wrong hts ⟨Nat.le_of_ble_eq_true rfl, Nat.le_of_ble_eq_true rfl⟩) (gPreV (ci := 6) (q0 := 0) hP hK hD rfl rfl) rfl rfl hl.1 rfl (lv_room (Nat.le_of_ble_eq_true rfl)) dX6_takeDigit_18 ⟨Nat.le_of_ble_eq_true rfl, Nat.le_of_ble_eq_true rfl⟩) hD hS hA (fun H locs hP hD hS => ?_)
    cases hf
    exact W.iret hx hb hr (fun t ht _ => gqi hP hD hS ht) hS.2.2 dX6_takeDigit_21
abbrev rmX6_takeSign : Room := { frames := 2, cells := 0, slots := 0, locals := 44 }
set_option maxHeartbeats 4000000 in
set_option maxRecDepth 100000 in
theorem tX6_takeSign (l : Launch) (dC : Nat → ClassId) (dI : Nat → Nat → Nat) (dA : Nat → ClassId) (ad : Nat → Nat) (sz : Nat) {p1 : Int32} {c_size : Int32} {c_length : Int32} {c_place : Int32} {c_fault : Int32} {c_faultPlace : Int32} {c_begin : Int32} {c_bytes : Nat → Int32} {c_draft_terms : Nat → Int32} {r : Int32} {o_c_place : Int32} {o_c_fault : Int32} {o_c_faultPlace : Int32} (hf : fX6_takeSign p1 c_length c_place c_fault c_faultPlace c_bytes = some (r, o_c_place, o_c_fault, o_c_faultPlace)) : Met l yX6_takeSign (wq (Cond.code yX6_takeSign cX6_takeSign 2 (some .boolean))) rmX6_takeSign (gP [.ref (ad 0), .int p1] (dC, dI) dA (wX6 dA ad c_size c_length c_place c_fault c_faultPlace c_begin c_bytes c_draft_terms) sz) (gQi (dC, dI) r (wX6 dA ad c_size c_length o_c_place o_c_fault o_c_faultPlace c_begin c_bytes c_draft_terms) (va_A (wX6 dA ad c_size c_length c_place c_fault c_faultPlace c_begin c_bytes c_draft_terms) sz)) 0 0 (va_A (wX6 dA ad c_size c_length c_place c_fault c_faultPlace c_begin c_bytes c_draft_terms) sz) := by
  refine Met.ofW (cc := cX6_takeSign) (maxL := 2) (ret := (some .boolean)) (by decide) rfl ?_
  intro p e s m args below meth c s₁ B hml hv
  obtain ⟨rfl, hsz, hP, hK, hD0⟩ := hv
  have hx := B.exec
  have hb := B.bytes
  have hr := B.returns
  have hts := atoms_spec (ws := wq (Cond.code yX6_takeSign cX6_takeSign 2 (some .boolean))) B.pre
  have hown : s.vm.findClass RX6 = some m.cls := findClass_of_methodNamed B.named
  have hlocks := B.notSynchronized
  clear B
  subst hsz
  have hD := hD0.self (sz := s.heap.size)
  generalize hAe : va_A (wX6 dA ad c_size c_length c_place c_fault c_faultPlace c_begin c_bytes c_draft_terms) s.heap.size = A at hD ⊢
  have hA : ∀ q : Nat, s.heap.size ≤ q → A q := fun q h => by rw [← hAe]; exact Or.inr h
  clear hAe hD0
  have hS : va_S A s.heap s.heap [] := va_S.rf
  have hl := lv_entry ([.ref (ad 0), .int p1]) (n := 2) (Nat.le_of_ble_eq_true rfl)
  rw [lg_entry_eq]
  generalize (lg_sl ([.ref (ad 0), .int p1]) ++ List.replicate (2 - (lg_sl ([.ref (ad 0), .int p1])).length) Slot.unset).toArray = ls at hl ⊢
  have hl : lv_has ls 2 [(0, .ref (ad 0)), (1, .int p1)] := hl
  change W p l e rmX6_takeSign s m ([.ref (ad 0), .int p1] : List Value).toArray below meth c s.heap [] 0 0 _ _
  unfold fX6_takeSign at hf
  refine lv_aload_n hx hb dX6_takeSign_0 rfl (lv_at hl 0 rfl) ?_
  obtain ⟨r1, c_place_2, v3, hf⟩ := bd2_some hf
  refine gci (va_runV (As := []) (rest := []) ⟨hx, hb, hml, hown, hts⟩ (tX6_look l dC dI dA ad s.heap.size v3) (ccX6_X6_look hts ⟨Nat.le_of_ble_eq_true rfl, Nat.le_of_ble_eq_true rfl⟩) (gPreV (ci := 6) (q0 := 0) hP hK hD rfl rfl) rfl rfl hl.1 rfl (lv_room (Nat.le_of_ble_eq_true rfl)) dX6_takeSign_1 ⟨Nat.le_of_ble_eq_true rfl, Nat.le_of_ble_eq_true rfl⟩) hD hS hA (fun H locs hP hD hS => ?_)
  refine lv_iload_n hx hb dX6_takeSign_4 rfl (lv_at hl 1 rfl) ?_
  refine lv_icmp_eq (tgt := 18) hx hb dX6_takeSign_5 (by decide) (fun k4 => ?_) (fun k4 => ?_)
  · replace hf := ifp k4 hf
    refine lv_aload_n hx hb dX6_takeSign_18 rfl (lv_at hl 0 rfl) ?_
    refine lv_dup hx hb dX6_takeSign_19 rfl ?_
    refine va_get (D := (dC, dI)) (ci := 6) (v := .int c_place_2) (C := RX6) (T := TX6) (N := 8) hx hb hts (fun w h => gw_mem (inX6 w h)) hown hK.1 hP 0 rfl rfl 4 (by decide) (hts _ (gw_mem wfX6_29)) (fun _ h9 => h9) rfl dX6_takeSign_20 ?_
    refine lv_iconst (v := 1) hx hb dX6_takeSign_23 (by decide) ?_
    refine lv_iadd hx hb dX6_takeSign_24 ?_
    refine lv_topi (fun w5 ew5 => ?_)
    replace hf := nm_at hf ew5
    refine va_put (D := (dC, dI)) (ci := 6) (v := .int w5) (ty := .int) (C := RX6) (T := TX6) (N := 8) hx hb hts (fun w h => gw_mem (inX6 w h)) tyX6 tyX6_ok nmX6 hown hK.1 hP hD hS 0 rfl rfl 4 (by decide) (hts _ (gw_mem wfX6_29)) (fun _ h9 => h9) rfl (by decide +kernel) rfl rfl (Nat.le_of_ble_eq_true rfl) dX6_takeSign_25 (fun H locs hP hD hS => ?_)
    have hP : va_P (dC, dI) vwCl (wX6 dA ad c_size c_length w5 c_fault c_faultPlace c_begin c_bytes c_draft_terms) H := hP
    have hD : va_D A (wX6 dA ad c_size c_length w5 c_fault c_faultPlace c_begin c_bytes c_draft_terms) := hD
    refine lv_iconst (v := 1) hx hb dX6_takeSign_28 (by decide) ?_
    cases hf
    exact W.zret (ty := .boolean) hx hb hr rfl (fun t ht _ => gqi hP hD hS ht) hS.2.2 dX6_takeSign_29
  · replace hf := ifn k4 hf
    refine lv_aload_n hx hb dX6_takeSign_8 rfl (lv_at hl 0 rfl) ?_
    refine lv_iconst (v := 1) hx hb dX6_takeSign_9 (by decide) ?_
    refine lv_aload_n hx hb dX6_takeSign_10 rfl (lv_at hl 0 rfl) ?_
    refine va_get (D := (dC, dI)) (ci := 6) (v := .int c_place_2) (C := RX6) (T := TX6) (N := 8) hx hb hts (fun w h => gw_mem (inX6 w h)) hown hK.1 hP 0 rfl rfl 4 (by decide) (hts _ (gw_mem wfX6_29)) (fun _ h9 => h9) rfl dX6_takeSign_11 ?_
    obtain ⟨r6, c_fault_7, c_faultPlace_8, v9, hf⟩ := bd3_some hf
    refine gci (va_runV (As := [.int 1, .int c_place_2]) (rest := []) ⟨hx, hb, hml, hown, hts⟩ (tX6_fails l dC dI dA ad H.size v9) (ccX6_X6_fails hts ⟨Nat.le_of_ble_eq_true rfl, Nat.le_of_ble_eq_true rfl⟩) (gPreV (ci := 6) (q0 := 0) hP hK hD rfl rfl) rfl rfl hl.1 rfl (lv_room (Nat.le_of_ble_eq_true rfl)) dX6_takeSign_14 ⟨Nat.le_of_ble_eq_true rfl, Nat.le_of_ble_eq_true rfl⟩) hD hS hA (fun H locs hP hD hS => ?_)
    obtain ⟨h10, hf⟩ := og_some hf
    cases hf
    exact W.zret (ty := .boolean) hx hb hr (boB_nar h10) (fun t ht _ => gqi hP hD hS ht) hS.2.2 dX6_takeSign_17
theorem ccX6_X6_takeSign {R : Room} {s : State} {args : Array Value} {c0 : Cond} (ht : ∀ w ∈ wq c0, w.before args s = true) (hR : rmX6_takeSign.frames + 1 ≤ R.frames ∧ 8 + (2 + 11) + rmX6_takeSign.locals ≤ R.locals) : CallW R s args RX6 RX6 102 yX6_takeSign cX6_takeSign 2 (some .boolean) (wq (.code yX6_takeSign cX6_takeSign 2 (some .boolean))) rmX6_takeSign 0 0 1 := gCW 1 ht wcX6_takeSign wmX6_102 wiX6_takeSign weX6_takeSign wnX6 (by decide +kernel) rfl rfl hR
theorem ccX6_X6_takeDigit {R : Room} {s : State} {args : Array Value} {c0 : Cond} (ht : ∀ w ∈ wq c0, w.before args s = true) (hR : rmX6_takeDigit.frames + 1 ≤ R.frames ∧ 8 + (4 + 11) + rmX6_takeDigit.locals ≤ R.locals) : CallW R s args RX6 RX6 84 yX6_takeDigit cX6_takeDigit 4 (some .int) (wq (.code yX6_takeDigit cX6_takeDigit 4 (some .int))) rmX6_takeDigit 0 0 2 := gCW 2 ht wcX6_takeDigit wmX6_84 wiX6_takeDigit weX6_takeDigit wnX6 (by decide +kernel) rfl rfl hR
abbrev rmX6_takeRight : Room := { frames := 3, cells := 0, slots := 0, locals := 67 }
set_option maxHeartbeats 4000000 in
set_option maxRecDepth 100000 in
theorem tX6_takeRight (l : Launch) (dC : Nat → ClassId) (dI : Nat → Nat → Nat) (dA : Nat → ClassId) (ad : Nat → Nat) (sz : Nat) {p1 : Int32} {c_size : Int32} {c_length : Int32} {c_place : Int32} {c_fault : Int32} {c_faultPlace : Int32} {c_begin : Int32} {c_bytes : Nat → Int32} {c_draft_terms : Nat → Int32} {r : Int32} {o_c_place : Int32} {o_c_fault : Int32} {o_c_faultPlace : Int32} {o_c_begin : Int32} {o_c_draft_terms : Nat → Int32} (hf : fX6_takeRight p1 c_length c_place c_fault c_faultPlace c_begin c_bytes c_draft_terms = some (r, o_c_place, o_c_fault, o_c_faultPlace, o_c_begin, o_c_draft_terms)) : Met l yX6_takeRight (wq (Cond.code yX6_takeRight cX6_takeRight 3 (some .boolean))) rmX6_takeRight (gP [.ref (ad 0), .int p1] (dC, dI) dA (wX6 dA ad c_size c_length c_place c_fault c_faultPlace c_begin c_bytes c_draft_terms) sz) (gQi (dC, dI) r (wX6 dA ad c_size c_length o_c_place o_c_fault o_c_faultPlace o_c_begin c_bytes o_c_draft_terms) (va_A (wX6 dA ad c_size c_length c_place c_fault c_faultPlace c_begin c_bytes c_draft_terms) sz)) 0 0 (va_A (wX6 dA ad c_size c_length c_place c_fault c_faultPlace c_begin c_bytes c_draft_terms) sz) := by
  refine Met.ofW (cc := cX6_takeRight) (maxL := 3) (ret := (some .boolean)) (by decide) rfl ?_
  intro p e s m args below meth c s₁ B hml hv
  obtain ⟨rfl, hsz, hP, hK, hD0⟩ := hv
  have hx := B.exec
  have hb := B.bytes
  have hr := B.returns
  have hts := atoms_spec (ws := wq (Cond.code yX6_takeRight cX6_takeRight 3 (some .boolean))) B.pre
  have hown : s.vm.findClass RX6 = some m.cls := findClass_of_methodNamed B.named
  have hlocks := B.notSynchronized
  clear B
  subst hsz
  have hD := hD0.self (sz := s.heap.size)
  generalize hAe : va_A (wX6 dA ad c_size c_length c_place c_fault c_faultPlace c_begin c_bytes c_draft_terms) s.heap.size = A at hD ⊢
  have hA : ∀ q : Nat, s.heap.size ≤ q → A q := fun q h => by rw [← hAe]; exact Or.inr h
  clear hAe hD0
  have hS : va_S A s.heap s.heap [] := va_S.rf
  have hl := lv_entry ([.ref (ad 0), .int p1]) (n := 3) (Nat.le_of_ble_eq_true rfl)
  rw [lg_entry_eq]
  generalize (lg_sl ([.ref (ad 0), .int p1]) ++ List.replicate (3 - (lg_sl ([.ref (ad 0), .int p1])).length) Slot.unset).toArray = ls at hl ⊢
  have hl : lv_has ls 3 [(0, .ref (ad 0)), (1, .int p1)] := hl
  change W p l e rmX6_takeRight s m ([.ref (ad 0), .int p1] : List Value).toArray below meth c s.heap [] 0 0 _ _
  unfold fX6_takeRight at hf
  refine lv_aload_n hx hb dX6_takeRight_0 rfl (lv_at hl 0 rfl) ?_
  refine lv_iconst (v := 0) hx hb dX6_takeRight_1 (by decide) ?_
  refine lv_iconst (v := 5) hx hb dX6_takeRight_2 (by decide) ?_
  obtain ⟨r1, c_place_2, c_fault_3, c_faultPlace_4, v5, hf⟩ := bd4_some hf
  refine gci (va_runV (As := [.int 0, .int 5]) (rest := []) ⟨hx, hb, hml, hown, hts⟩ (tX6_takeDigit l dC dI dA ad s.heap.size v5) (ccX6_X6_takeDigit hts ⟨Nat.le_of_ble_eq_true rfl, Nat.le_of_ble_eq_true rfl⟩) (gPreV (ci := 6) (q0 := 0) hP hK hD rfl rfl) rfl rfl hl.1 rfl (lv_room (Nat.le_of_ble_eq_true rfl)) dX6_takeRight_3 ⟨Nat.le_of_ble_eq_true rfl, Nat.le_of_ble_eq_true rfl⟩) hD hS hA (fun H locs hP hD hS => ?_)
  refine lv_istore_n (lv' := [(2, .int r1), (0, .ref (ad 0)), (1, .int p1)]) hx hb dX6_takeRight_6 rfl hl (by decide) rfl (fun ls hl => ?_)
  refine lv_iload_n hx hb dX6_takeRight_7 rfl (lv_at hl 0 rfl) ?_
  refine lv_if_lt (tgt := 20) hx hb dX6_takeRight_8 (by decide) (fun k6 => ?_) (fun k6 => ?_)
  · replace hf := ifp k6 hf
    refine lv_iconst (v := 0) hx hb dX6_takeRight_20 (by decide) ?_
    cases hf
    exact W.zret (ty := .boolean) hx hb hr rfl (fun t ht _ => gqi hP hD hS ht) hS.2.2 dX6_takeRight_21
  · replace hf := ifn k6 hf
    refine lv_aload_n hx hb dX6_takeRight_11 rfl (lv_at hl 1 rfl) ?_
    refine lv_bipush (v := 58) hx hb dX6_takeRight_12 (by decide) ?_
    obtain ⟨r7, c_place_8, c_fault_9, c_faultPlace_10, v11, hf⟩ := bd4_some hf
    refine gci (va_runV (As := [.int 58]) (rest := []) ⟨hx, hb, hml, hown, hts⟩ (tX6_takeSign l dC dI dA ad H.size v11) (ccX6_X6_takeSign hts ⟨Nat.le_of_ble_eq_true rfl, Nat.le_of_ble_eq_true rfl⟩) (gPreV (ci := 6) (q0 := 0) hP hK hD rfl rfl) rfl rfl hl.1 rfl (lv_room (Nat.le_of_ble_eq_true rfl)) dX6_takeRight_14 ⟨Nat.le_of_ble_eq_true rfl, Nat.le_of_ble_eq_true rfl⟩) hD hS hA (fun H locs hP hD hS => ?_)
    refine lv_if_ne (tgt := 22) hx hb dX6_takeRight_17 (by decide) (fun k12 => ?_) (fun k12 => ?_)
    · replace hf := ifn k12 hf
      refine lv_aload_n hx hb dX6_takeRight_22 rfl (lv_at hl 1 rfl) ?_
      obtain ⟨r13, c_place_14, v15, hf⟩ := bd2_some hf
      refine gci (va_runV (As := []) (rest := []) ⟨hx, hb, hml, hown, hts⟩ (tX6_look l dC dI dA ad H.size v15) (ccX6_X6_look hts ⟨Nat.le_of_ble_eq_true rfl, Nat.le_of_ble_eq_true rfl⟩) (gPreV (ci := 6) (q0 := 0) hP hK hD rfl rfl) rfl rfl hl.1 rfl (lv_room (Nat.le_of_ble_eq_true rfl)) dX6_takeRight_23 ⟨Nat.le_of_ble_eq_true rfl, Nat.le_of_ble_eq_true rfl⟩) hD hS hA (fun H locs hP hD hS => ?_)
      refine lv_bipush (v := 45) hx hb dX6_takeRight_26 (by decide) ?_
      refine lv_icmp_ne (tgt := 55) hx hb dX6_takeRight_28 (by decide) (fun k16 => ?_) (fun k16 => ?_)
      · replace hf := ifn k16 hf
        refine lv_aload_n hx hb dX6_takeRight_55 rfl (lv_at hl 1 rfl) ?_
        refine lv_iload_n hx hb dX6_takeRight_56 rfl (lv_at hl 2 rfl) ?_
        refine lv_iload_n hx hb dX6_takeRight_57 rfl (lv_at hl 0 rfl) ?_
        refine lv_iadd hx hb dX6_takeRight_58 ?_
        refine lv_aload_n hx hb dX6_takeRight_59 rfl (lv_at hl 1 rfl) ?_
        refine lv_iconst (v := 0) hx hb dX6_takeRight_60 (by decide) ?_
        refine lv_ldc (v := 1000000) hx hb hown (hts _ (gw_mem wkX6_63)) dX6_takeRight_61 ?_
        obtain ⟨r17, c_place_18, c_fault_19, c_faultPlace_20, c_begin_21, v22, hf⟩ := bd5_some hf
        refine gci (va_runV (As := [.int 0, .int 1000000]) (rest := [.int (p1 + r1), .ref (ad 0)]) ⟨hx, hb, hml, hown, hts⟩ (tX6_takeNumber l dC dI dA ad H.size v22) (ccX6_X6_takeNumber hts ⟨Nat.le_of_ble_eq_true rfl, Nat.le_of_ble_eq_true rfl⟩) (gPreV (ci := 6) (q0 := 0) hP hK hD rfl rfl) rfl rfl hl.1 rfl (lv_room (Nat.le_of_ble_eq_true rfl)) dX6_takeRight_63 ⟨Nat.le_of_ble_eq_true rfl, Nat.le_of_ble_eq_true rfl⟩) hD hS hA (fun H locs hP hD hS => ?_)
        obtain ⟨r23, c_draft_terms_24, v25, hf⟩ := bd2_some hf
        refine gci (va_runV (As := [.int (p1 + r1), .int r17]) (rest := []) ⟨hx, hb, hml, hown, hts⟩ (tX6_store l dC dI dA ad H.size v25) (ccX6_X6_store hts ⟨Nat.le_of_ble_eq_true rfl, Nat.le_of_ble_eq_true rfl⟩) (gPreV (ci := 6) (q0 := 0) hP hK hD rfl rfl) rfl rfl hl.1 rfl (lv_room (Nat.le_of_ble_eq_true rfl)) dX6_takeRight_66 ⟨Nat.le_of_ble_eq_true rfl, Nat.le_of_ble_eq_true rfl⟩) hD hS hA (fun H locs hP hD hS => ?_)
        obtain ⟨h26, hf⟩ := og_some hf
        cases hf
        exact W.zret (ty := .boolean) hx hb hr (boB_nar h26) (fun t ht _ => gqi hP hD hS ht) hS.2.2 dX6_takeRight_69
      · replace hf := ifp k16 hf
        refine lv_aload_n hx hb dX6_takeRight_31 rfl (lv_at hl 1 rfl) ?_
        refine lv_dup hx hb dX6_takeRight_32 rfl ?_
        refine va_get (D := (dC, dI)) (ci := 6) (v := .int c_place_14) (C := RX6) (T := TX6) (N := 8) hx hb hts (fun w h => gw_mem (inX6 w h)) hown hK.1 hP 0 rfl rfl 4 (by decide) (hts _ (gw_mem wfX6_29)) (fun _ h9 => h9) rfl dX6_takeRight_33 ?_
        refine lv_iconst (v := 1) hx hb dX6_takeRight_36 (by decide) ?_
        refine lv_iadd hx hb dX6_takeRight_37 ?_
        refine lv_topi (fun w27 ew27 => ?_)
        replace hf := nm_at hf ew27
        refine va_put (D := (dC, dI)) (ci := 6) (v := .int w27) (ty := .int) (C := RX6) (T := TX6) (N := 8) hx hb hts (fun w h => gw_mem (inX6 w h)) tyX6 tyX6_ok nmX6 hown hK.1 hP hD hS 0 rfl rfl 4 (by decide) (hts _ (gw_mem wfX6_29)) (fun _ h9 => h9) rfl (by decide +kernel) rfl rfl (Nat.le_of_ble_eq_true rfl) dX6_takeRight_38 (fun H locs hP hD hS => ?_)
        have hP : va_P (dC, dI) vwCl (wX6 dA ad c_size c_length w27 c_fault_9 c_faultPlace_10 c_begin c_bytes c_draft_terms) H := hP
        have hD : va_D A (wX6 dA ad c_size c_length w27 c_fault_9 c_faultPlace_10 c_begin c_bytes c_draft_terms) := hD
        refine lv_aload_n hx hb dX6_takeRight_41 rfl (lv_at hl 1 rfl) ?_
        refine va_get (D := (dC, dI)) (ci := 6) (v := .ref (ad 2)) (C := RX6) (T := TX6) (N := 8) hx hb hts (fun w h => gw_mem (inX6 w h)) hown hK.1 hP 0 rfl rfl 2 (by decide) (hts _ (gw_mem wfX6_22)) (fun _ h9 => h9) rfl dX6_takeRight_42 ?_
        refine lv_iload_n hx hb dX6_takeRight_45 rfl (lv_at hl 2 rfl) ?_
        refine lv_iload_n hx hb dX6_takeRight_46 rfl (lv_at hl 0 rfl) ?_
        refine lv_iadd hx hb dX6_takeRight_47 ?_
        refine lv_bipush (v := (-2)) hx hb dX6_takeRight_48 (by decide) ?_
        obtain ⟨c_draft_terms_28, v29, hf⟩ := bd1_some hf
        have z30 := sg1 (ws := (wX6 dA ad c_size c_length w27 c_fault_9 c_faultPlace_10 c_begin c_bytes c_draft_terms)) (s0 := ((wX6 dA ad c_size c_length w27 c_fault_9 c_faultPlace_10 c_begin c_bytes c_draft_terms)).take 2) (s1 := ((wX6 dA ad c_size c_length w27 c_fault_9 c_faultPlace_10 c_begin c_bytes c_draft_terms)).drop 4) (x1 := (wX0 dA (fun i => ad (i + 2)) c_draft_terms)) rfl
        refine gpv (wf := (wX6 dA ad c_size c_length w27 c_fault_9 c_faultPlace_10 c_begin c_bytes c_draft_terms_28)) (va_runV (As := [.int (p1 + r1), .int (-2)]) (rest := []) ⟨hx, hb, hml, hown, hts⟩ (tX0_set l dC dI dA (fun i => ad (i + 2)) H.size v29) (ccX6_X0_set hts ⟨Nat.le_of_ble_eq_true rfl, Nat.le_of_ble_eq_true rfl⟩) (gPreV (ci := 1) (q0 := 0) (psub z30 hP) hK (psubD z30 hD) rfl rfl) rfl rfl hl.1 rfl (lv_room (Nat.le_of_ble_eq_true rfl)) dX6_takeRight_50 ⟨Nat.le_of_ble_eq_true rfl, Nat.le_of_ble_eq_true rfl⟩) hP hD hS hA z30 (sg1 (s0 := ((wX6 dA ad c_size c_length w27 c_fault_9 c_faultPlace_10 c_begin c_bytes c_draft_terms)).take 2) (s1 := ((wX6 dA ad c_size c_length w27 c_fault_9 c_faultPlace_10 c_begin c_bytes c_draft_terms)).drop 4) (x1 := (wX0 dA (fun i => ad (i + 2)) c_draft_terms_28)) rfl) (fun H locs hP hD hS => ?_)
        refine lv_iconst (v := 1) hx hb dX6_takeRight_53 (by decide) ?_
        cases hf
        exact W.zret (ty := .boolean) hx hb hr rfl (fun t ht _ => gqi hP hD hS ht) hS.2.2 dX6_takeRight_54
    · replace hf := ifp k12 hf
      refine lv_iconst (v := 0) hx hb dX6_takeRight_20 (by decide) ?_
      cases hf
      exact W.zret (ty := .boolean) hx hb hr rfl (fun t ht _ => gqi hP hD hS ht) hS.2.2 dX6_takeRight_21
abbrev rmX6_takeSoft : Room := { frames := 3, cells := 0, slots := 0, locals := 67 }
set_option maxHeartbeats 4000000 in
set_option maxRecDepth 100000 in
theorem tX6_takeSoft (l : Launch) (dC : Nat → ClassId) (dI : Nat → Nat → Nat) (dA : Nat → ClassId) (ad : Nat → Nat) (sz : Nat) {c_size : Int32} {c_length : Int32} {c_place : Int32} {c_fault : Int32} {c_faultPlace : Int32} {c_begin : Int32} {c_bytes : Nat → Int32} {c_draft_terms : Nat → Int32} {r : Int32} {o_c_place : Int32} {o_c_fault : Int32} {o_c_faultPlace : Int32} {o_c_begin : Int32} {o_c_draft_terms : Nat → Int32} (hf : fX6_takeSoft c_length c_place c_fault c_faultPlace c_begin c_bytes c_draft_terms = some (r, o_c_place, o_c_fault, o_c_faultPlace, o_c_begin, o_c_draft_terms)) : Met l yX6_takeSoft (wq (Cond.code yX6_takeSoft cX6_takeSoft 3 (some .boolean))) rmX6_takeSoft (gP [.ref (ad 0)] (dC, dI) dA (wX6 dA ad c_size c_length c_place c_fault c_faultPlace c_begin c_bytes c_draft_terms) sz) (gQi (dC, dI) r (wX6 dA ad c_size c_length o_c_place o_c_fault o_c_faultPlace o_c_begin c_bytes o_c_draft_terms) (va_A (wX6 dA ad c_size c_length c_place c_fault c_faultPlace c_begin c_bytes c_draft_terms) sz)) 0 0 (va_A (wX6 dA ad c_size c_length c_place c_fault c_faultPlace c_begin c_bytes c_draft_terms) sz) := by
  refine Met.ofW (cc := cX6_takeSoft) (maxL := 3) (ret := (some .boolean)) (by decide) rfl ?_
  intro p e s m args below meth c s₁ B hml hv
  obtain ⟨rfl, hsz, hP, hK, hD0⟩ := hv
  have hx := B.exec
  have hb := B.bytes
  have hr := B.returns
  have hts := atoms_spec (ws := wq (Cond.code yX6_takeSoft cX6_takeSoft 3 (some .boolean))) B.pre
  have hown : s.vm.findClass RX6 = some m.cls := findClass_of_methodNamed B.named
  have hlocks := B.notSynchronized
  clear B
  subst hsz
  have hD := hD0.self (sz := s.heap.size)
  generalize hAe : va_A (wX6 dA ad c_size c_length c_place c_fault c_faultPlace c_begin c_bytes c_draft_terms) s.heap.size = A at hD ⊢
  have hA : ∀ q : Nat, s.heap.size ≤ q → A q := fun q h => by rw [← hAe]; exact Or.inr h
  clear hAe hD0
  have hS : va_S A s.heap s.heap [] := va_S.rf
  have hl := lv_entry ([.ref (ad 0)]) (n := 3) (Nat.le_of_ble_eq_true rfl)
  rw [lg_entry_eq]
  generalize (lg_sl ([.ref (ad 0)]) ++ List.replicate (3 - (lg_sl ([.ref (ad 0)])).length) Slot.unset).toArray = ls at hl ⊢
  have hl : lv_has ls 3 [(0, .ref (ad 0))] := hl
  change W p l e rmX6_takeSoft s m ([.ref (ad 0)] : List Value).toArray below meth c s.heap [] 0 0 _ _
  unfold fX6_takeSoft at hf
  refine lv_aload_n hx hb dX6_takeSoft_0 rfl (lv_at hl 0 rfl) ?_
  refine lv_iconst (v := 0) hx hb dX6_takeSoft_1 (by decide) ?_
  refine lv_iconst (v := 3) hx hb dX6_takeSoft_2 (by decide) ?_
  obtain ⟨r1, c_place_2, c_fault_3, c_faultPlace_4, v5, hf⟩ := bd4_some hf
  refine gci (va_runV (As := [.int 0, .int 3]) (rest := []) ⟨hx, hb, hml, hown, hts⟩ (tX6_takeDigit l dC dI dA ad s.heap.size v5) (ccX6_X6_takeDigit hts ⟨Nat.le_of_ble_eq_true rfl, Nat.le_of_ble_eq_true rfl⟩) (gPreV (ci := 6) (q0 := 0) hP hK hD rfl rfl) rfl rfl hl.1 rfl (lv_room (Nat.le_of_ble_eq_true rfl)) dX6_takeSoft_3 ⟨Nat.le_of_ble_eq_true rfl, Nat.le_of_ble_eq_true rfl⟩) hD hS hA (fun H locs hP hD hS => ?_)
  refine lv_istore_n (lv' := [(1, .int r1), (0, .ref (ad 0))]) hx hb dX6_takeSoft_6 rfl hl (by decide) rfl (fun ls hl => ?_)
  refine lv_iload_n hx hb dX6_takeSoft_7 rfl (lv_at hl 0 rfl) ?_
  refine lv_if_lt (tgt := 20) hx hb dX6_takeSoft_8 (by decide) (fun k6 => ?_) (fun k6 => ?_)
  · replace hf := ifp k6 hf
    refine lv_iconst (v := 0) hx hb dX6_takeSoft_20 (by decide) ?_
    cases hf
    exact W.zret (ty := .boolean) hx hb hr rfl (fun t ht _ => gqi hP hD hS ht) hS.2.2 dX6_takeSoft_21
  · replace hf := ifn k6 hf
    refine lv_aload_n hx hb dX6_takeSoft_11 rfl (lv_at hl 1 rfl) ?_
    refine lv_bipush (v := 47) hx hb dX6_takeSoft_12 (by decide) ?_
    obtain ⟨r7, c_place_8, c_fault_9, c_faultPlace_10, v11, hf⟩ := bd4_some hf
    refine gci (va_runV (As := [.int 47]) (rest := []) ⟨hx, hb, hml, hown, hts⟩ (tX6_takeSign l dC dI dA ad H.size v11) (ccX6_X6_takeSign hts ⟨Nat.le_of_ble_eq_true rfl, Nat.le_of_ble_eq_true rfl⟩) (gPreV (ci := 6) (q0 := 0) hP hK hD rfl rfl) rfl rfl hl.1 rfl (lv_room (Nat.le_of_ble_eq_true rfl)) dX6_takeSoft_14 ⟨Nat.le_of_ble_eq_true rfl, Nat.le_of_ble_eq_true rfl⟩) hD hS hA (fun H locs hP hD hS => ?_)
    refine lv_if_ne (tgt := 22) hx hb dX6_takeSoft_17 (by decide) (fun k12 => ?_) (fun k12 => ?_)
    · replace hf := ifn k12 hf
      refine lv_aload_n hx hb dX6_takeSoft_22 rfl (lv_at hl 1 rfl) ?_
      refine lv_iconst (v := 1) hx hb dX6_takeSoft_23 (by decide) ?_
      refine lv_iload_n hx hb dX6_takeSoft_24 rfl (lv_at hl 0 rfl) ?_
      refine va_mmax hx hb (hml.trans hl.1.symm) hown (hts _ (gw_mem wmX6_109)) (hts _ (gw_mem wtJ9_max_7cf53)) (hts _ (gw_mem wnJ9)) (hts _ (gw_mem wcJ9_max_7cf53)) (Nat.le_of_ble_eq_true rfl) (Nat.le_of_ble_eq_true rfl) (Nat.le_of_ble_eq_true rfl) (Nat.le_of_ble_eq_true rfl) dX6_takeSoft_25 ?_
      refine lv_iconst (v := 3) hx hb dX6_takeSoft_28 (by decide) ?_
      obtain ⟨r13, c_place_14, c_fault_15, c_faultPlace_16, v17, hf⟩ := bd4_some hf
      refine gci (va_runV (As := [.int (if 1 < r1 then r1 else 1), .int 3]) (rest := []) ⟨hx, hb, hml, hown, hts⟩ (tX6_takeDigit l dC dI dA ad H.size v17) (ccX6_X6_takeDigit hts ⟨Nat.le_of_ble_eq_true rfl, Nat.le_of_ble_eq_true rfl⟩) (gPreV (ci := 6) (q0 := 0) hP hK hD rfl rfl) rfl rfl hl.1 rfl (lv_room (Nat.le_of_ble_eq_true rfl)) dX6_takeSoft_29 ⟨Nat.le_of_ble_eq_true rfl, Nat.le_of_ble_eq_true rfl⟩) hD hS hA (fun H locs hP hD hS => ?_)
      refine lv_istore_n (lv' := [(2, .int r13), (1, .int r1), (0, .ref (ad 0))]) hx hb dX6_takeSoft_32 rfl hl (by decide) rfl (fun ls hl => ?_)
      refine lv_iload_n hx hb dX6_takeSoft_33 rfl (lv_at hl 0 rfl) ?_
      refine lv_if_lt (tgt := 46) hx hb dX6_takeSoft_34 (by decide) (fun k18 => ?_) (fun k18 => ?_)
      · replace hf := ifp k18 hf
        refine lv_iconst (v := 0) hx hb dX6_takeSoft_46 (by decide) ?_
        cases hf
        exact W.zret (ty := .boolean) hx hb hr rfl (fun t ht _ => gqi hP hD hS ht) hS.2.2 dX6_takeSoft_47
      · replace hf := ifn k18 hf
        refine lv_aload_n hx hb dX6_takeSoft_37 rfl (lv_at hl 2 rfl) ?_
        refine lv_bipush (v := 47) hx hb dX6_takeSoft_38 (by decide) ?_
        obtain ⟨r19, c_place_20, c_fault_21, c_faultPlace_22, v23, hf⟩ := bd4_some hf
        refine gci (va_runV (As := [.int 47]) (rest := []) ⟨hx, hb, hml, hown, hts⟩ (tX6_takeSign l dC dI dA ad H.size v23) (ccX6_X6_takeSign hts ⟨Nat.le_of_ble_eq_true rfl, Nat.le_of_ble_eq_true rfl⟩) (gPreV (ci := 6) (q0 := 0) hP hK hD rfl rfl) rfl rfl hl.1 rfl (lv_room (Nat.le_of_ble_eq_true rfl)) dX6_takeSoft_40 ⟨Nat.le_of_ble_eq_true rfl, Nat.le_of_ble_eq_true rfl⟩) hD hS hA (fun H locs hP hD hS => ?_)
        refine lv_if_ne (tgt := 48) hx hb dX6_takeSoft_43 (by decide) (fun k24 => ?_) (fun k24 => ?_)
        · replace hf := ifn k24 hf
          refine lv_aload_n hx hb dX6_takeSoft_48 rfl (lv_at hl 2 rfl) ?_
          refine lv_bipush (v := 6) hx hb dX6_takeSoft_49 (by decide) ?_
          refine lv_aload_n hx hb dX6_takeSoft_51 rfl (lv_at hl 2 rfl) ?_
          refine lv_iconst (v := 0) hx hb dX6_takeSoft_52 (by decide) ?_
          refine lv_ldc (v := 1000000) hx hb hown (hts _ (gw_mem wkX6_63)) dX6_takeSoft_53 ?_
          obtain ⟨r25, c_place_26, c_fault_27, c_faultPlace_28, c_begin_29, v30, hf⟩ := bd5_some hf
          refine gci (va_runV (As := [.int 0, .int 1000000]) (rest := [.int 6, .ref (ad 0)]) ⟨hx, hb, hml, hown, hts⟩ (tX6_takeNumber l dC dI dA ad H.size v30) (ccX6_X6_takeNumber hts ⟨Nat.le_of_ble_eq_true rfl, Nat.le_of_ble_eq_true rfl⟩) (gPreV (ci := 6) (q0 := 0) hP hK hD rfl rfl) rfl rfl hl.1 rfl (lv_room (Nat.le_of_ble_eq_true rfl)) dX6_takeSoft_55 ⟨Nat.le_of_ble_eq_true rfl, Nat.le_of_ble_eq_true rfl⟩) hD hS hA (fun H locs hP hD hS => ?_)
          obtain ⟨r31, c_draft_terms_32, v33, hf⟩ := bd2_some hf
          refine gci (va_runV (As := [.int 6, .int r25]) (rest := []) ⟨hx, hb, hml, hown, hts⟩ (tX6_store l dC dI dA ad H.size v33) (ccX6_X6_store hts ⟨Nat.le_of_ble_eq_true rfl, Nat.le_of_ble_eq_true rfl⟩) (gPreV (ci := 6) (q0 := 0) hP hK hD rfl rfl) rfl rfl hl.1 rfl (lv_room (Nat.le_of_ble_eq_true rfl)) dX6_takeSoft_58 ⟨Nat.le_of_ble_eq_true rfl, Nat.le_of_ble_eq_true rfl⟩) hD hS hA (fun H locs hP hD hS => ?_)
          obtain ⟨j35, c_draft_terms_36, v38, hf⟩ := bd2_some hf
          have J37 : ∀ (H : Heap) (locs : List Loc) (ls : Array Slot), va_P (dC, dI) vwCl (wX6 dA ad c_size c_length c_place_26 c_fault_27 c_faultPlace_28 c_begin_29 c_bytes c_draft_terms_36) H → va_D A (wX6 dA ad c_size c_length c_place_26 c_fault_27 c_faultPlace_28 c_begin_29 c_bytes c_draft_terms_36) → va_S A s.heap H locs → lv_has ls 3 [] → W p l e rmX6_takeSoft s m ([.ref (ad 0)] : List Value).toArray below meth c H locs 0 0 (MQ below (gQi (dC, dI) r (wX6 dA ad c_size c_length o_c_place o_c_fault o_c_faultPlace o_c_begin c_bytes o_c_draft_terms) A) ([.ref (ad 0)] : List Value).toArray s 0 0 A) (F0 m 87 ls [.int j35]) := by
            intro H locs ls hP hD hS hl
            obtain ⟨h39, hf⟩ := og_some hf
            cases hf
            exact W.zret (ty := .boolean) hx hb hr (boB_nar h39) (fun t ht _ => gqi hP hD hS ht) hS.2.2 dX6_takeSoft_87
          replace hf := v38
          clear v38
          refine lv_if_eq (tgt := 86) hx hb dX6_takeSoft_61 (by decide) (fun k34 => ?_) (fun k34 => ?_)
          · replace hf := ifp k34 hf
            refine lv_iconst (v := 0) hx hb dX6_takeSoft_86 (by decide) ?_
            cases hf
            exact J37 _ _ _ hP hD hS (lv_sub hl [] rfl)
          · replace hf := ifn k34 hf
            refine lv_aload_n hx hb dX6_takeSoft_64 rfl (lv_at hl 2 rfl) ?_
            refine lv_iconst (v := 5) hx hb dX6_takeSoft_65 (by decide) ?_
            refine lv_iload_n hx hb dX6_takeSoft_66 rfl (lv_at hl 0 rfl) ?_
            obtain ⟨r40, c_draft_terms_41, v42, hf⟩ := bd2_some hf
            refine gci (va_runV (As := [.int 5, .int r13]) (rest := []) ⟨hx, hb, hml, hown, hts⟩ (tX6_store l dC dI dA ad H.size v42) (ccX6_X6_store hts ⟨Nat.le_of_ble_eq_true rfl, Nat.le_of_ble_eq_true rfl⟩) (gPreV (ci := 6) (q0 := 0) hP hK hD rfl rfl) rfl rfl hl.1 rfl (lv_room (Nat.le_of_ble_eq_true rfl)) dX6_takeSoft_67 ⟨Nat.le_of_ble_eq_true rfl, Nat.le_of_ble_eq_true rfl⟩) hD hS hA (fun H locs hP hD hS => ?_)
            refine lv_if_eq (tgt := 86) hx hb dX6_takeSoft_70 (by decide) (fun k43 => ?_) (fun k43 => ?_)
            · replace hf := ifp k43 hf
              refine lv_iconst (v := 0) hx hb dX6_takeSoft_86 (by decide) ?_
              cases hf
              exact J37 _ _ _ hP hD hS (lv_sub hl [] rfl)
            · replace hf := ifn k43 hf
              refine lv_aload_n hx hb dX6_takeSoft_73 rfl (lv_at hl 2 rfl) ?_
              refine lv_iconst (v := 4) hx hb dX6_takeSoft_74 (by decide) ?_
              refine lv_iload_n hx hb dX6_takeSoft_75 rfl (lv_at hl 1 rfl) ?_
              obtain ⟨r44, c_draft_terms_45, v46, hf⟩ := bd2_some hf
              refine gci (va_runV (As := [.int 4, .int r1]) (rest := []) ⟨hx, hb, hml, hown, hts⟩ (tX6_store l dC dI dA ad H.size v46) (ccX6_X6_store hts ⟨Nat.le_of_ble_eq_true rfl, Nat.le_of_ble_eq_true rfl⟩) (gPreV (ci := 6) (q0 := 0) hP hK hD rfl rfl) rfl rfl hl.1 rfl (lv_room (Nat.le_of_ble_eq_true rfl)) dX6_takeSoft_76 ⟨Nat.le_of_ble_eq_true rfl, Nat.le_of_ble_eq_true rfl⟩) hD hS hA (fun H locs hP hD hS => ?_)
              refine lv_if_eq (tgt := 86) hx hb dX6_takeSoft_79 (by decide) (fun k47 => ?_) (fun k47 => ?_)
              · replace hf := ifp k47 hf
                refine lv_iconst (v := 0) hx hb dX6_takeSoft_86 (by decide) ?_
                cases hf
                exact J37 _ _ _ hP hD hS (lv_sub hl [] rfl)
              · replace hf := ifn k47 hf
                refine lv_iconst (v := 1) hx hb dX6_takeSoft_82 (by decide) ?_
                refine lv_goto (tgt := 87) hx hb dX6_takeSoft_83 (by decide) ?_
                cases hf
                exact J37 _ _ _ hP hD hS (lv_sub hl [] rfl)
        · replace hf := ifp k24 hf
          refine lv_iconst (v := 0) hx hb dX6_takeSoft_46 (by decide) ?_
          cases hf
          exact W.zret (ty := .boolean) hx hb hr rfl (fun t ht _ => gqi hP hD hS ht) hS.2.2 dX6_takeSoft_47
    · replace hf := ifp k12 hf
      refine lv_iconst (v := 0) hx hb dX6_takeSoft_20 (by decide) ?_
      cases hf
      exact W.zret (ty := .boolean) hx hb hr rfl (fun t ht _ => gqi hP hD hS ht) hS.2.2 dX6_takeSoft_21
abbrev rmX6_takeWindow : Room := { frames := 3, cells := 0, slots := 0, locals := 65 }
set_option maxHeartbeats 4000000 in
set_option maxRecDepth 100000 in
theorem tX6_takeWindow (l : Launch) (dC : Nat → ClassId) (dI : Nat → Nat → Nat) (dA : Nat → ClassId) (ad : Nat → Nat) (sz : Nat) {c_size : Int32} {c_length : Int32} {c_place : Int32} {c_fault : Int32} {c_faultPlace : Int32} {c_begin : Int32} {c_bytes : Nat → Int32} {c_draft_terms : Nat → Int32} {r : Int32} {o_c_place : Int32} {o_c_fault : Int32} {o_c_faultPlace : Int32} {o_c_draft_terms : Nat → Int32} (hf : fX6_takeWindow c_length c_place c_fault c_faultPlace c_bytes c_draft_terms = some (r, o_c_place, o_c_fault, o_c_faultPlace, o_c_draft_terms)) : Met l yX6_takeWindow (wq (Cond.code yX6_takeWindow cX6_takeWindow 2 (some .boolean))) rmX6_takeWindow (gP [.ref (ad 0)] (dC, dI) dA (wX6 dA ad c_size c_length c_place c_fault c_faultPlace c_begin c_bytes c_draft_terms) sz) (gQi (dC, dI) r (wX6 dA ad c_size c_length o_c_place o_c_fault o_c_faultPlace c_begin c_bytes o_c_draft_terms) (va_A (wX6 dA ad c_size c_length c_place c_fault c_faultPlace c_begin c_bytes c_draft_terms) sz)) 0 0 (va_A (wX6 dA ad c_size c_length c_place c_fault c_faultPlace c_begin c_bytes c_draft_terms) sz) := by
  refine Met.ofW (cc := cX6_takeWindow) (maxL := 2) (ret := (some .boolean)) (by decide) rfl ?_
  intro p e s m args below meth c s₁ B hml hv
  obtain ⟨rfl, hsz, hP, hK, hD0⟩ := hv
  have hx := B.exec
  have hb := B.bytes
  have hr := B.returns
  have hts := atoms_spec (ws := wq (Cond.code yX6_takeWindow cX6_takeWindow 2 (some .boolean))) B.pre
  have hown : s.vm.findClass RX6 = some m.cls := findClass_of_methodNamed B.named
  have hlocks := B.notSynchronized
  clear B
  subst hsz
  have hD := hD0.self (sz := s.heap.size)
  generalize hAe : va_A (wX6 dA ad c_size c_length c_place c_fault c_faultPlace c_begin c_bytes c_draft_terms) s.heap.size = A at hD ⊢
  have hA : ∀ q : Nat, s.heap.size ≤ q → A q := fun q h => by rw [← hAe]; exact Or.inr h
  clear hAe hD0
  have hS : va_S A s.heap s.heap [] := va_S.rf
  have hl := lv_entry ([.ref (ad 0)]) (n := 2) (Nat.le_of_ble_eq_true rfl)
  rw [lg_entry_eq]
  generalize (lg_sl ([.ref (ad 0)]) ++ List.replicate (2 - (lg_sl ([.ref (ad 0)])).length) Slot.unset).toArray = ls at hl ⊢
  have hl : lv_has ls 2 [(0, .ref (ad 0))] := hl
  change W p l e rmX6_takeWindow s m ([.ref (ad 0)] : List Value).toArray below meth c s.heap [] 0 0 _ _
  unfold fX6_takeWindow at hf
  refine lv_aload_n hx hb dX6_takeWindow_0 rfl (lv_at hl 0 rfl) ?_
  refine lv_iconst (v := 0) hx hb dX6_takeWindow_1 (by decide) ?_
  refine lv_bipush (v := 6) hx hb dX6_takeWindow_2 (by decide) ?_
  obtain ⟨r1, c_place_2, c_fault_3, c_faultPlace_4, v5, hf⟩ := bd4_some hf
  refine gci (va_runV (As := [.int 0, .int 6]) (rest := []) ⟨hx, hb, hml, hown, hts⟩ (tX6_takeDigit l dC dI dA ad s.heap.size v5) (ccX6_X6_takeDigit hts ⟨Nat.le_of_ble_eq_true rfl, Nat.le_of_ble_eq_true rfl⟩) (gPreV (ci := 6) (q0 := 0) hP hK hD rfl rfl) rfl rfl hl.1 rfl (lv_room (Nat.le_of_ble_eq_true rfl)) dX6_takeWindow_4 ⟨Nat.le_of_ble_eq_true rfl, Nat.le_of_ble_eq_true rfl⟩) hD hS hA (fun H locs hP hD hS => ?_)
  refine lv_istore_n (lv' := [(1, .int r1), (0, .ref (ad 0))]) hx hb dX6_takeWindow_7 rfl hl (by decide) rfl (fun ls hl => ?_)
  refine lv_iload_n hx hb dX6_takeWindow_8 rfl (lv_at hl 0 rfl) ?_
  refine lv_if_lt (tgt := 21) hx hb dX6_takeWindow_9 (by decide) (fun k6 => ?_) (fun k6 => ?_)
  · replace hf := ifp k6 hf
    refine lv_iconst (v := 0) hx hb dX6_takeWindow_21 (by decide) ?_
    cases hf
    exact W.zret (ty := .boolean) hx hb hr rfl (fun t ht _ => gqi hP hD hS ht) hS.2.2 dX6_takeWindow_22
  · replace hf := ifn k6 hf
    refine lv_aload_n hx hb dX6_takeWindow_12 rfl (lv_at hl 1 rfl) ?_
    refine lv_bipush (v := 45) hx hb dX6_takeWindow_13 (by decide) ?_
    obtain ⟨r7, c_place_8, c_fault_9, c_faultPlace_10, v11, hf⟩ := bd4_some hf
    refine gci (va_runV (As := [.int 45]) (rest := []) ⟨hx, hb, hml, hown, hts⟩ (tX6_takeSign l dC dI dA ad H.size v11) (ccX6_X6_takeSign hts ⟨Nat.le_of_ble_eq_true rfl, Nat.le_of_ble_eq_true rfl⟩) (gPreV (ci := 6) (q0 := 0) hP hK hD rfl rfl) rfl rfl hl.1 rfl (lv_room (Nat.le_of_ble_eq_true rfl)) dX6_takeWindow_15 ⟨Nat.le_of_ble_eq_true rfl, Nat.le_of_ble_eq_true rfl⟩) hD hS hA (fun H locs hP hD hS => ?_)
    refine lv_if_ne (tgt := 23) hx hb dX6_takeWindow_18 (by decide) (fun k12 => ?_) (fun k12 => ?_)
    · replace hf := ifn k12 hf
      refine lv_aload_n hx hb dX6_takeWindow_23 rfl (lv_at hl 1 rfl) ?_
      refine lv_iconst (v := 3) hx hb dX6_takeWindow_24 (by decide) ?_
      refine lv_aload_n hx hb dX6_takeWindow_25 rfl (lv_at hl 1 rfl) ?_
      refine lv_iload_n hx hb dX6_takeWindow_26 rfl (lv_at hl 0 rfl) ?_
      refine lv_bipush (v := 6) hx hb dX6_takeWindow_27 (by decide) ?_
      obtain ⟨r13, c_place_14, c_fault_15, c_faultPlace_16, v17, hf⟩ := bd4_some hf
      refine gci (va_runV (As := [.int r1, .int 6]) (rest := [.int 3, .ref (ad 0)]) ⟨hx, hb, hml, hown, hts⟩ (tX6_takeDigit l dC dI dA ad H.size v17) (ccX6_X6_takeDigit hts ⟨Nat.le_of_ble_eq_true rfl, Nat.le_of_ble_eq_true rfl⟩) (gPreV (ci := 6) (q0 := 0) hP hK hD rfl rfl) rfl rfl hl.1 rfl (lv_room (Nat.le_of_ble_eq_true rfl)) dX6_takeWindow_29 ⟨Nat.le_of_ble_eq_true rfl, Nat.le_of_ble_eq_true rfl⟩) hD hS hA (fun H locs hP hD hS => ?_)
      obtain ⟨r18, c_draft_terms_19, v20, hf⟩ := bd2_some hf
      refine gci (va_runV (As := [.int 3, .int r13]) (rest := []) ⟨hx, hb, hml, hown, hts⟩ (tX6_store l dC dI dA ad H.size v20) (ccX6_X6_store hts ⟨Nat.le_of_ble_eq_true rfl, Nat.le_of_ble_eq_true rfl⟩) (gPreV (ci := 6) (q0 := 0) hP hK hD rfl rfl) rfl rfl hl.1 rfl (lv_room (Nat.le_of_ble_eq_true rfl)) dX6_takeWindow_32 ⟨Nat.le_of_ble_eq_true rfl, Nat.le_of_ble_eq_true rfl⟩) hD hS hA (fun H locs hP hD hS => ?_)
      obtain ⟨j22, c_draft_terms_23, v25, hf⟩ := bd2_some hf
      have J24 : ∀ (H : Heap) (locs : List Loc) (ls : Array Slot), va_P (dC, dI) vwCl (wX6 dA ad c_size c_length c_place_14 c_fault_15 c_faultPlace_16 c_begin c_bytes c_draft_terms_23) H → va_D A (wX6 dA ad c_size c_length c_place_14 c_fault_15 c_faultPlace_16 c_begin c_bytes c_draft_terms_23) → va_S A s.heap H locs → lv_has ls 2 [] → W p l e rmX6_takeWindow s m ([.ref (ad 0)] : List Value).toArray below meth c H locs 0 0 (MQ below (gQi (dC, dI) r (wX6 dA ad c_size c_length o_c_place o_c_fault o_c_faultPlace c_begin c_bytes o_c_draft_terms) A) ([.ref (ad 0)] : List Value).toArray s 0 0 A) (F0 m 52 ls [.int j22]) := by
        intro H locs ls hP hD hS hl
        obtain ⟨h26, hf⟩ := og_some hf
        cases hf
        exact W.zret (ty := .boolean) hx hb hr (boB_nar h26) (fun t ht _ => gqi hP hD hS ht) hS.2.2 dX6_takeWindow_52
      replace hf := v25
      clear v25
      refine lv_if_eq (tgt := 51) hx hb dX6_takeWindow_35 (by decide) (fun k21 => ?_) (fun k21 => ?_)
      · replace hf := ifp k21 hf
        refine lv_iconst (v := 0) hx hb dX6_takeWindow_51 (by decide) ?_
        cases hf
        exact J24 _ _ _ hP hD hS (lv_sub hl [] rfl)
      · replace hf := ifn k21 hf
        refine lv_aload_n hx hb dX6_takeWindow_38 rfl (lv_at hl 1 rfl) ?_
        refine lv_iconst (v := 2) hx hb dX6_takeWindow_39 (by decide) ?_
        refine lv_iload_n hx hb dX6_takeWindow_40 rfl (lv_at hl 0 rfl) ?_
        obtain ⟨r27, c_draft_terms_28, v29, hf⟩ := bd2_some hf
        refine gci (va_runV (As := [.int 2, .int r1]) (rest := []) ⟨hx, hb, hml, hown, hts⟩ (tX6_store l dC dI dA ad H.size v29) (ccX6_X6_store hts ⟨Nat.le_of_ble_eq_true rfl, Nat.le_of_ble_eq_true rfl⟩) (gPreV (ci := 6) (q0 := 0) hP hK hD rfl rfl) rfl rfl hl.1 rfl (lv_room (Nat.le_of_ble_eq_true rfl)) dX6_takeWindow_41 ⟨Nat.le_of_ble_eq_true rfl, Nat.le_of_ble_eq_true rfl⟩) hD hS hA (fun H locs hP hD hS => ?_)
        refine lv_if_eq (tgt := 51) hx hb dX6_takeWindow_44 (by decide) (fun k30 => ?_) (fun k30 => ?_)
        · replace hf := ifp k30 hf
          refine lv_iconst (v := 0) hx hb dX6_takeWindow_51 (by decide) ?_
          cases hf
          exact J24 _ _ _ hP hD hS (lv_sub hl [] rfl)
        · replace hf := ifn k30 hf
          refine lv_iconst (v := 1) hx hb dX6_takeWindow_47 (by decide) ?_
          refine lv_goto (tgt := 52) hx hb dX6_takeWindow_48 (by decide) ?_
          cases hf
          exact J24 _ _ _ hP hD hS (lv_sub hl [] rfl)
    · replace hf := ifp k12 hf
      refine lv_iconst (v := 0) hx hb dX6_takeWindow_21 (by decide) ?_
      cases hf
      exact W.zret (ty := .boolean) hx hb hr rfl (fun t ht _ => gqi hP hD hS ht) hS.2.2 dX6_takeWindow_22
theorem ccX6_X6_takeCoupon {R : Room} {s : State} {args : Array Value} {c0 : Cond} (ht : ∀ w ∈ wq c0, w.before args s = true) (hR : rmX6_takeCoupon.frames + 1 ≤ R.frames ∧ 8 + (4 + 11) + rmX6_takeCoupon.locals ≤ R.locals) : CallW R s args RX6 RX6 71 yX6_takeCoupon cX6_takeCoupon 4 (some .boolean) (wq (.code yX6_takeCoupon cX6_takeCoupon 4 (some .boolean))) rmX6_takeCoupon 0 0 0 := gCW 0 ht wcX6_takeCoupon wmX6_71 wiX6_takeCoupon weX6_takeCoupon wnX6 (by decide +kernel) rfl rfl hR
theorem ccX6_X6_takeRight {R : Room} {s : State} {args : Array Value} {c0 : Cond} (ht : ∀ w ∈ wq c0, w.before args s = true) (hR : rmX6_takeRight.frames + 1 ≤ R.frames ∧ 8 + (3 + 11) + rmX6_takeRight.locals ≤ R.locals) : CallW R s args RX6 RX6 74 yX6_takeRight cX6_takeRight 3 (some .boolean) (wq (.code yX6_takeRight cX6_takeRight 3 (some .boolean))) rmX6_takeRight 0 0 1 := gCW 1 ht wcX6_takeRight wmX6_74 wiX6_takeRight weX6_takeRight wnX6 (by decide +kernel) rfl rfl hR
theorem ccX6_X6_takeWindow {R : Room} {s : State} {args : Array Value} {c0 : Cond} (ht : ∀ w ∈ wq c0, w.before args s = true) (hR : rmX6_takeWindow.frames + 1 ≤ R.frames ∧ 8 + (2 + 11) + rmX6_takeWindow.locals ≤ R.locals) : CallW R s args RX6 RX6 78 yX6_takeWindow cX6_takeWindow 2 (some .boolean) (wq (.code yX6_takeWindow cX6_takeWindow 2 (some .boolean))) rmX6_takeWindow 0 0 0 := gCW 0 ht wcX6_takeWindow wmX6_78 wiX6_takeWindow weX6_takeWindow wnX6 (by decide +kernel) rfl rfl hR
theorem ccX6_X6_takeSoft {R : Room} {s : State} {args : Array Value} {c0 : Cond} (ht : ∀ w ∈ wq c0, w.before args s = true) (hR : rmX6_takeSoft.frames + 1 ≤ R.frames ∧ 8 + (3 + 11) + rmX6_takeSoft.locals ≤ R.locals) : CallW R s args RX6 RX6 81 yX6_takeSoft cX6_takeSoft 3 (some .boolean) (wq (.code yX6_takeSoft cX6_takeSoft 3 (some .boolean))) rmX6_takeSoft 0 0 0 := gCW 0 ht wcX6_takeSoft wmX6_81 wiX6_takeSoft weX6_takeSoft wnX6 (by decide +kernel) rfl rfl hR
abbrev rmX6_takeClause : Room := { frames := 4, cells := 0, slots := 0, locals := 90 }
set_option maxHeartbeats 4000000 in
set_option maxRecDepth 100000 in
theorem tX6_takeClause (l : Launch) (dC : Nat → ClassId) (dI : Nat → Nat → Nat) (dA : Nat → ClassId) (ad : Nat → Nat) (sz : Nat) {c_size : Int32} {c_length : Int32} {c_place : Int32} {c_fault : Int32} {c_faultPlace : Int32} {c_begin : Int32} {c_bytes : Nat → Int32} {c_draft_terms : Nat → Int32} {r : Int32} {o_c_place : Int32} {o_c_fault : Int32} {o_c_faultPlace : Int32} {o_c_begin : Int32} {o_c_draft_terms : Nat → Int32} (hf : fX6_takeClause c_length c_place c_fault c_faultPlace c_begin c_bytes c_draft_terms = some (r, o_c_place, o_c_fault, o_c_faultPlace, o_c_begin, o_c_draft_terms)) : Met l yX6_takeClause (wq (Cond.code yX6_takeClause cX6_takeClause 2 (some .boolean))) rmX6_takeClause (gP [.ref (ad 0)] (dC, dI) dA (wX6 dA ad c_size c_length c_place c_fault c_faultPlace c_begin c_bytes c_draft_terms) sz) (gQi (dC, dI) r (wX6 dA ad c_size c_length o_c_place o_c_fault o_c_faultPlace o_c_begin c_bytes o_c_draft_terms) (va_A (wX6 dA ad c_size c_length c_place c_fault c_faultPlace c_begin c_bytes c_draft_terms) sz)) 0 0 (va_A (wX6 dA ad c_size c_length c_place c_fault c_faultPlace c_begin c_bytes c_draft_terms) sz) := by
  refine Met.ofW (cc := cX6_takeClause) (maxL := 2) (ret := (some .boolean)) (by decide) rfl ?_
  intro p e s m args below meth c s₁ B hml hv
  obtain ⟨rfl, hsz, hP, hK, hD0⟩ := hv
  have hx := B.exec
  have hb := B.bytes
  have hr := B.returns
  have hts := atoms_spec (ws := wq (Cond.code yX6_takeClause cX6_takeClause 2 (some .boolean))) B.pre
  have hown : s.vm.findClass RX6 = some m.cls := findClass_of_methodNamed B.named
  have hlocks := B.notSynchronized
  clear B
  subst hsz
  have hD := hD0.self (sz := s.heap.size)
  generalize hAe : va_A (wX6 dA ad c_size c_length c_place c_fault c_faultPlace c_begin c_bytes c_draft_terms) s.heap.size = A at hD ⊢
  have hA : ∀ q : Nat, s.heap.size ≤ q → A q := fun q h => by rw [← hAe]; exact Or.inr h
  clear hAe hD0
  have hS : va_S A s.heap s.heap [] := va_S.rf
  have hl := lv_entry ([.ref (ad 0)]) (n := 2) (Nat.le_of_ble_eq_true rfl)
  rw [lg_entry_eq]
  generalize (lg_sl ([.ref (ad 0)]) ++ List.replicate (2 - (lg_sl ([.ref (ad 0)])).length) Slot.unset).toArray = ls at hl ⊢
  have hl : lv_has ls 2 [(0, .ref (ad 0))] := hl
  change W p l e rmX6_takeClause s m ([.ref (ad 0)] : List Value).toArray below meth c s.heap [] 0 0 _ _
  unfold fX6_takeClause at hf
  refine lv_aload_n hx hb dX6_takeClause_0 rfl (lv_at hl 0 rfl) ?_
  obtain ⟨r1, c_place_2, v3, hf⟩ := bd2_some hf
  refine gci (va_runV (As := []) (rest := []) ⟨hx, hb, hml, hown, hts⟩ (tX6_look l dC dI dA ad s.heap.size v3) (ccX6_X6_look hts ⟨Nat.le_of_ble_eq_true rfl, Nat.le_of_ble_eq_true rfl⟩) (gPreV (ci := 6) (q0 := 0) hP hK hD rfl rfl) rfl rfl hl.1 rfl (lv_room (Nat.le_of_ble_eq_true rfl)) dX6_takeClause_1 ⟨Nat.le_of_ble_eq_true rfl, Nat.le_of_ble_eq_true rfl⟩) hD hS hA (fun H locs hP hD hS => ?_)
  refine lv_istore_n (lv' := [(1, .int r1), (0, .ref (ad 0))]) hx hb dX6_takeClause_4 rfl hl (by decide) rfl (fun ls hl => ?_)
  refine lv_aload_n hx hb dX6_takeClause_5 rfl (lv_at hl 1 rfl) ?_
  refine lv_dup hx hb dX6_takeClause_6 rfl ?_
  refine va_get (D := (dC, dI)) (ci := 6) (v := .int c_place_2) (C := RX6) (T := TX6) (N := 8) hx hb hts (fun w h => gw_mem (inX6 w h)) hown hK.1 hP 0 rfl rfl 4 (by decide) (hts _ (gw_mem wfX6_29)) (fun _ h9 => h9) rfl dX6_takeClause_7 ?_
  refine lv_iconst (v := 1) hx hb dX6_takeClause_10 (by decide) ?_
  refine lv_iadd hx hb dX6_takeClause_11 ?_
  refine lv_topi (fun w4 ew4 => ?_)
  replace hf := nm_at hf ew4
  refine va_put (D := (dC, dI)) (ci := 6) (v := .int w4) (ty := .int) (C := RX6) (T := TX6) (N := 8) hx hb hts (fun w h => gw_mem (inX6 w h)) tyX6 tyX6_ok nmX6 hown hK.1 hP hD hS 0 rfl rfl 4 (by decide) (hts _ (gw_mem wfX6_29)) (fun _ h9 => h9) rfl (by decide +kernel) rfl rfl (Nat.le_of_ble_eq_true rfl) dX6_takeClause_12 (fun H locs hP hD hS => ?_)
  have hP : va_P (dC, dI) vwCl (wX6 dA ad c_size c_length w4 c_fault c_faultPlace c_begin c_bytes c_draft_terms) H := hP
  have hD : va_D A (wX6 dA ad c_size c_length w4 c_fault c_faultPlace c_begin c_bytes c_draft_terms) := hD
  refine lv_iload_n hx hb dX6_takeClause_15 rfl (lv_at hl 0 rfl) ?_
  by_cases k5 : r1 = 99
  · replace hf := ifp k5 hf
    refine lv_tableIn (tgt := 155) hx hb dX6_takeClause_16 (by rw [k5]; decide) (by rw [k5]; decide) (by rw [k5]; rfl) (by decide) ?_
    refine lv_aload_n hx hb dX6_takeClause_155 rfl (lv_at hl 1 rfl) ?_
    obtain ⟨r6, c_place_7, c_fault_8, c_faultPlace_9, c_begin_10, c_draft_terms_11, v12, hf⟩ := bd6_some hf
    refine gci (va_runV (As := []) (rest := []) ⟨hx, hb, hml, hown, hts⟩ (tX6_takeCoupon l dC dI dA ad H.size v12) (ccX6_X6_takeCoupon hts ⟨Nat.le_of_ble_eq_true rfl, Nat.le_of_ble_eq_true rfl⟩) (gPreV (ci := 6) (q0 := 0) hP hK hD rfl rfl) rfl rfl hl.1 rfl (lv_room (Nat.le_of_ble_eq_true rfl)) dX6_takeClause_156 ⟨Nat.le_of_ble_eq_true rfl, Nat.le_of_ble_eq_true rfl⟩) hD hS hA (fun H locs hP hD hS => ?_)
    obtain ⟨h13, hf⟩ := og_some hf
    cases hf
    exact W.zret (ty := .boolean) hx hb hr (boB_nar h13) (fun t ht _ => gqi hP hD hS ht) hS.2.2 dX6_takeClause_159
  · replace hf := ifn k5 hf
    by_cases k14 : r1 = 102
    · replace hf := ifp k14 hf
      refine lv_tableIn (tgt := 128) hx hb dX6_takeClause_16 (by rw [k14]; decide) (by rw [k14]; decide) (by rw [k14]; rfl) (by decide) ?_
      refine lv_aload_n hx hb dX6_takeClause_128 rfl (lv_at hl 1 rfl) ?_
      refine lv_iconst (v := 0) hx hb dX6_takeClause_129 (by decide) ?_
      refine lv_aload_n hx hb dX6_takeClause_130 rfl (lv_at hl 1 rfl) ?_
      refine lv_iconst (v := 1) hx hb dX6_takeClause_131 (by decide) ?_
      refine lv_ldc (v := 1000000) hx hb hown (hts _ (gw_mem wkX6_63)) dX6_takeClause_132 ?_
      obtain ⟨r15, c_place_16, c_fault_17, c_faultPlace_18, c_begin_19, v20, hf⟩ := bd5_some hf
      refine gci (va_runV (As := [.int 1, .int 1000000]) (rest := [.int 0, .ref (ad 0)]) ⟨hx, hb, hml, hown, hts⟩ (tX6_takeNumber l dC dI dA ad H.size v20) (ccX6_X6_takeNumber hts ⟨Nat.le_of_ble_eq_true rfl, Nat.le_of_ble_eq_true rfl⟩) (gPreV (ci := 6) (q0 := 0) hP hK hD rfl rfl) rfl rfl hl.1 rfl (lv_room (Nat.le_of_ble_eq_true rfl)) dX6_takeClause_134 ⟨Nat.le_of_ble_eq_true rfl, Nat.le_of_ble_eq_true rfl⟩) hD hS hA (fun H locs hP hD hS => ?_)
      obtain ⟨r21, c_draft_terms_22, v23, hf⟩ := bd2_some hf
      refine gci (va_runV (As := [.int 0, .int r15]) (rest := []) ⟨hx, hb, hml, hown, hts⟩ (tX6_store l dC dI dA ad H.size v23) (ccX6_X6_store hts ⟨Nat.le_of_ble_eq_true rfl, Nat.le_of_ble_eq_true rfl⟩) (gPreV (ci := 6) (q0 := 0) hP hK hD rfl rfl) rfl rfl hl.1 rfl (lv_room (Nat.le_of_ble_eq_true rfl)) dX6_takeClause_137 ⟨Nat.le_of_ble_eq_true rfl, Nat.le_of_ble_eq_true rfl⟩) hD hS hA (fun H locs hP hD hS => ?_)
      obtain ⟨h24, hf⟩ := og_some hf
      cases hf
      exact W.zret (ty := .boolean) hx hb hr (boB_nar h24) (fun t ht _ => gqi hP hD hS ht) hS.2.2 dX6_takeClause_140
    · replace hf := ifn k14 hf
      by_cases k25 : r1 = 107
      · replace hf := ifp k25 hf
        refine lv_tableIn (tgt := 160) hx hb dX6_takeClause_16 (by rw [k25]; decide) (by rw [k25]; decide) (by rw [k25]; rfl) (by decide) ?_
        refine lv_aload_n hx hb dX6_takeClause_160 rfl (lv_at hl 1 rfl) ?_
        refine lv_bipush (v := 20) hx hb dX6_takeClause_161 (by decide) ?_
        obtain ⟨r26, c_place_27, c_fault_28, c_faultPlace_29, c_begin_30, c_draft_terms_31, v32, hf⟩ := bd6_some hf
        refine gci (va_runV (As := [.int 20]) (rest := []) ⟨hx, hb, hml, hown, hts⟩ (tX6_takeRight l dC dI dA ad H.size v32) (ccX6_X6_takeRight hts ⟨Nat.le_of_ble_eq_true rfl, Nat.le_of_ble_eq_true rfl⟩) (gPreV (ci := 6) (q0 := 0) hP hK hD rfl rfl) rfl rfl hl.1 rfl (lv_room (Nat.le_of_ble_eq_true rfl)) dX6_takeClause_163 ⟨Nat.le_of_ble_eq_true rfl, Nat.le_of_ble_eq_true rfl⟩) hD hS hA (fun H locs hP hD hS => ?_)
        obtain ⟨h33, hf⟩ := og_some hf
        cases hf
        exact W.zret (ty := .boolean) hx hb hr (boB_nar h33) (fun t ht _ => gqi hP hD hS ht) hS.2.2 dX6_takeClause_166
      · replace hf := ifn k25 hf
        by_cases k34 : r1 = 110
        · replace hf := ifp k34 hf
          refine lv_tableIn (tgt := 141) hx hb dX6_takeClause_16 (by rw [k34]; decide) (by rw [k34]; decide) (by rw [k34]; rfl) (by decide) ?_
          refine lv_aload_n hx hb dX6_takeClause_141 rfl (lv_at hl 1 rfl) ?_
          refine lv_iconst (v := 1) hx hb dX6_takeClause_142 (by decide) ?_
          refine lv_aload_n hx hb dX6_takeClause_143 rfl (lv_at hl 1 rfl) ?_
          refine lv_iconst (v := 0) hx hb dX6_takeClause_144 (by decide) ?_
          refine lv_sipush (v := 1000) hx hb dX6_takeClause_145 (by decide) ?_
          obtain ⟨r35, c_place_36, c_fault_37, c_faultPlace_38, c_begin_39, v40, hf⟩ := bd5_some hf
          refine gci (va_runV (As := [.int 0, .int 1000]) (rest := [.int 1, .ref (ad 0)]) ⟨hx, hb, hml, hown, hts⟩ (tX6_takeNumber l dC dI dA ad H.size v40) (ccX6_X6_takeNumber hts ⟨Nat.le_of_ble_eq_true rfl, Nat.le_of_ble_eq_true rfl⟩) (gPreV (ci := 6) (q0 := 0) hP hK hD rfl rfl) rfl rfl hl.1 rfl (lv_room (Nat.le_of_ble_eq_true rfl)) dX6_takeClause_148 ⟨Nat.le_of_ble_eq_true rfl, Nat.le_of_ble_eq_true rfl⟩) hD hS hA (fun H locs hP hD hS => ?_)
          obtain ⟨r41, c_draft_terms_42, v43, hf⟩ := bd2_some hf
          refine gci (va_runV (As := [.int 1, .int r35]) (rest := []) ⟨hx, hb, hml, hown, hts⟩ (tX6_store l dC dI dA ad H.size v43) (ccX6_X6_store hts ⟨Nat.le_of_ble_eq_true rfl, Nat.le_of_ble_eq_true rfl⟩) (gPreV (ci := 6) (q0 := 0) hP hK hD rfl rfl) rfl rfl hl.1 rfl (lv_room (Nat.le_of_ble_eq_true rfl)) dX6_takeClause_151 ⟨Nat.le_of_ble_eq_true rfl, Nat.le_of_ble_eq_true rfl⟩) hD hS hA (fun H locs hP hD hS => ?_)
          obtain ⟨h44, hf⟩ := og_some hf
          cases hf
          exact W.zret (ty := .boolean) hx hb hr (boB_nar h44) (fun t ht _ => gqi hP hD hS ht) hS.2.2 dX6_takeClause_154
        · replace hf := ifn k34 hf
          by_cases k45 : r1 = 112
          · replace hf := ifp k45 hf
            refine lv_tableIn (tgt := 167) hx hb dX6_takeClause_16 (by rw [k45]; decide) (by rw [k45]; decide) (by rw [k45]; rfl) (by decide) ?_
            refine lv_aload_n hx hb dX6_takeClause_167 rfl (lv_at hl 1 rfl) ?_
            refine lv_bipush (v := 30) hx hb dX6_takeClause_168 (by decide) ?_
            obtain ⟨r46, c_place_47, c_fault_48, c_faultPlace_49, c_begin_50, c_draft_terms_51, v52, hf⟩ := bd6_some hf
            refine gci (va_runV (As := [.int 30]) (rest := []) ⟨hx, hb, hml, hown, hts⟩ (tX6_takeRight l dC dI dA ad H.size v52) (ccX6_X6_takeRight hts ⟨Nat.le_of_ble_eq_true rfl, Nat.le_of_ble_eq_true rfl⟩) (gPreV (ci := 6) (q0 := 0) hP hK hD rfl rfl) rfl rfl hl.1 rfl (lv_room (Nat.le_of_ble_eq_true rfl)) dX6_takeClause_170 ⟨Nat.le_of_ble_eq_true rfl, Nat.le_of_ble_eq_true rfl⟩) hD hS hA (fun H locs hP hD hS => ?_)
            obtain ⟨h53, hf⟩ := og_some hf
            cases hf
            exact W.zret (ty := .boolean) hx hb hr (boB_nar h53) (fun t ht _ => gqi hP hD hS ht) hS.2.2 dX6_takeClause_173
          · replace hf := ifn k45 hf
            by_cases k54 : r1 = 115
            · replace hf := ifp k54 hf
              refine lv_tableIn (tgt := 179) hx hb dX6_takeClause_16 (by rw [k54]; decide) (by rw [k54]; decide) (by rw [k54]; rfl) (by decide) ?_
              refine lv_aload_n hx hb dX6_takeClause_179 rfl (lv_at hl 1 rfl) ?_
              obtain ⟨r55, c_place_56, c_fault_57, c_faultPlace_58, c_begin_59, c_draft_terms_60, v61, hf⟩ := bd6_some hf
              refine gci (va_runV (As := []) (rest := []) ⟨hx, hb, hml, hown, hts⟩ (tX6_takeSoft l dC dI dA ad H.size v61) (ccX6_X6_takeSoft hts ⟨Nat.le_of_ble_eq_true rfl, Nat.le_of_ble_eq_true rfl⟩) (gPreV (ci := 6) (q0 := 0) hP hK hD rfl rfl) rfl rfl hl.1 rfl (lv_room (Nat.le_of_ble_eq_true rfl)) dX6_takeClause_180 ⟨Nat.le_of_ble_eq_true rfl, Nat.le_of_ble_eq_true rfl⟩) hD hS hA (fun H locs hP hD hS => ?_)
              obtain ⟨h62, hf⟩ := og_some hf
              cases hf
              exact W.zret (ty := .boolean) hx hb hr (boB_nar h62) (fun t ht _ => gqi hP hD hS ht) hS.2.2 dX6_takeClause_183
            · replace hf := ifn k54 hf
              by_cases k63 : r1 = 119
              · replace hf := ifp k63 hf
                refine lv_tableIn (tgt := 174) hx hb dX6_takeClause_16 (by rw [k63]; decide) (by rw [k63]; decide) (by rw [k63]; rfl) (by decide) ?_
                refine lv_aload_n hx hb dX6_takeClause_174 rfl (lv_at hl 1 rfl) ?_
                obtain ⟨r64, c_place_65, c_fault_66, c_faultPlace_67, c_draft_terms_68, v69, hf⟩ := bd5_some hf
                refine gci (va_runV (As := []) (rest := []) ⟨hx, hb, hml, hown, hts⟩ (tX6_takeWindow l dC dI dA ad H.size v69) (ccX6_X6_takeWindow hts ⟨Nat.le_of_ble_eq_true rfl, Nat.le_of_ble_eq_true rfl⟩) (gPreV (ci := 6) (q0 := 0) hP hK hD rfl rfl) rfl rfl hl.1 rfl (lv_room (Nat.le_of_ble_eq_true rfl)) dX6_takeClause_175 ⟨Nat.le_of_ble_eq_true rfl, Nat.le_of_ble_eq_true rfl⟩) hD hS hA (fun H locs hP hD hS => ?_)
                obtain ⟨h70, hf⟩ := og_some hf
                cases hf
                exact W.zret (ty := .boolean) hx hb hr (boB_nar h70) (fun t ht _ => gqi hP hD hS ht) hS.2.2 dX6_takeClause_178
              · replace hf := ifn k63 hf
                by_cases k71 : r1 = 122
                · replace hf := ifp k71 hf
                  refine lv_tableIn (tgt := 184) hx hb dX6_takeClause_16 (by rw [k71]; decide) (by rw [k71]; decide) (by rw [k71]; rfl) (by decide) ?_
                  refine lv_aload_n hx hb dX6_takeClause_184 rfl (lv_at hl 1 rfl) ?_
                  refine lv_bipush (v := 7) hx hb dX6_takeClause_185 (by decide) ?_
                  refine lv_aload_n hx hb dX6_takeClause_187 rfl (lv_at hl 1 rfl) ?_
                  refine lv_iconst (v := 0) hx hb dX6_takeClause_188 (by decide) ?_
                  refine lv_iconst (v := 3) hx hb dX6_takeClause_189 (by decide) ?_
                  obtain ⟨r72, c_place_73, c_fault_74, c_faultPlace_75, v76, hf⟩ := bd4_some hf
                  refine gci (va_runV (As := [.int 0, .int 3]) (rest := [.int 7, .ref (ad 0)]) ⟨hx, hb, hml, hown, hts⟩ (tX6_takeDigit l dC dI dA ad H.size v76) (ccX6_X6_takeDigit hts ⟨Nat.le_of_ble_eq_true rfl, Nat.le_of_ble_eq_true rfl⟩) (gPreV (ci := 6) (q0 := 0) hP hK hD rfl rfl) rfl rfl hl.1 rfl (lv_room (Nat.le_of_ble_eq_true rfl)) dX6_takeClause_190 ⟨Nat.le_of_ble_eq_true rfl, Nat.le_of_ble_eq_true rfl⟩) hD hS hA (fun H locs hP hD hS => ?_)
                  obtain ⟨r77, c_draft_terms_78, v79, hf⟩ := bd2_some hf
                  refine gci (va_runV (As := [.int 7, .int r72]) (rest := []) ⟨hx, hb, hml, hown, hts⟩ (tX6_store l dC dI dA ad H.size v79) (ccX6_X6_store hts ⟨Nat.le_of_ble_eq_true rfl, Nat.le_of_ble_eq_true rfl⟩) (gPreV (ci := 6) (q0 := 0) hP hK hD rfl rfl) rfl rfl hl.1 rfl (lv_room (Nat.le_of_ble_eq_true rfl)) dX6_takeClause_193 ⟨Nat.le_of_ble_eq_true rfl, Nat.le_of_ble_eq_true rfl⟩) hD hS hA (fun H locs hP hD hS => ?_)
                  obtain ⟨h80, hf⟩ := og_some hf
                  cases hf
                  exact W.zret (ty := .boolean) hx hb hr (boB_nar h80) (fun t ht _ => gqi hP hD hS ht) hS.2.2 dX6_takeClause_196
                · replace hf := ifn k71 hf
                  have uk5 := lv_neT (a := 99) k5 (by decide)
                  have uk14 := lv_neT (a := 102) k14 (by decide)
                  have uk25 := lv_neT (a := 107) k25 (by decide)
                  have uk34 := lv_neT (a := 110) k34 (by decide)
                  have uk45 := lv_neT (a := 112) k45 (by decide)
                  have uk54 := lv_neT (a := 115) k54 (by decide)
                  have uk63 := lv_neT (a := 119) k63 (by decide)
                  have uk71 := lv_neT (a := 122) k71 (by decide)
                  refine tb_tableD (tgt := 197) (gs := [100, 101, 103, 104, 105, 106, 108, 109, 111, 113, 114, 116, 117, 118, 120, 121]) hx hb dX6_takeClause_16 (by decide +kernel) (fun h1 h2 => by simp only [List.mem_cons, List.not_mem_nil, or_false]; omega) (by decide) ?_
                  refine lv_aload_n hx hb dX6_takeClause_197 rfl (lv_at hl 1 rfl) ?_
                  refine lv_iconst (v := 1) hx hb dX6_takeClause_198 (by decide) ?_
                  refine lv_aload_n hx hb dX6_takeClause_199 rfl (lv_at hl 1 rfl) ?_
                  refine va_get (D := (dC, dI)) (ci := 6) (v := .int w4) (C := RX6) (T := TX6) (N := 8) hx hb hts (fun w h => gw_mem (inX6 w h)) hown hK.1 hP 0 rfl rfl 4 (by decide) (hts _ (gw_mem wfX6_29)) (fun _ h9 => h9) rfl dX6_takeClause_200 ?_
                  refine lv_iconst (v := 1) hx hb dX6_takeClause_203 (by decide) ?_
                  refine lv_isub hx hb dX6_takeClause_204 ?_
                  obtain ⟨r81, c_fault_82, c_faultPlace_83, v84, hf⟩ := bd3_some hf
                  refine gci (va_runV (As := [.int 1, .int (w4 - 1)]) (rest := []) ⟨hx, hb, hml, hown, hts⟩ (tX6_fails l dC dI dA ad H.size v84) (ccX6_X6_fails hts ⟨Nat.le_of_ble_eq_true rfl, Nat.le_of_ble_eq_true rfl⟩) (gPreV (ci := 6) (q0 := 0) hP hK hD rfl rfl) rfl rfl hl.1 rfl (lv_room (Nat.le_of_ble_eq_true rfl)) dX6_takeClause_205 ⟨Nat.le_of_ble_eq_true rfl, Nat.le_of_ble_eq_true rfl⟩) hD hS hA (fun H locs hP hD hS => ?_)
                  obtain ⟨h85, hf⟩ := og_some hf
                  cases hf
                  exact W.zret (ty := .boolean) hx hb hr (boB_nar h85) (fun t ht _ => gqi hP hD hS ht) hS.2.2 dX6_takeClause_208
theorem ccX6_X0_takeFrom {R : Room} {s : State} {args : Array Value} {c0 : Cond} (ht : ∀ w ∈ wq c0, w.before args s = true) (hR : rmX0_takeFrom.frames + 1 ≤ R.frames ∧ 8 + (2 + 11) + rmX0_takeFrom.locals ≤ R.locals) : CallW R s args RX6 RX0 45 yX0_takeFrom cX0_takeFrom 2 none (wq (.code yX0_takeFrom cX0_takeFrom 2 none)) rmX0_takeFrom 0 0 1 := gCW 1 ht wcX0_takeFrom wmX6_45 wiX0_takeFrom weX0_takeFrom wnX0 (by decide +kernel) rfl rfl hR
theorem ccX6_X6_takeClause {R : Room} {s : State} {args : Array Value} {c0 : Cond} (ht : ∀ w ∈ wq c0, w.before args s = true) (hR : rmX6_takeClause.frames + 1 ≤ R.frames ∧ 8 + (2 + 11) + rmX6_takeClause.locals ≤ R.locals) : CallW R s args RX6 RX6 59 yX6_takeClause cX6_takeClause 2 (some .boolean) (wq (.code yX6_takeClause cX6_takeClause 2 (some .boolean))) rmX6_takeClause 0 0 0 := gCW 0 ht wcX6_takeClause wmX6_59 wiX6_takeClause weX6_takeClause wnX6 (by decide +kernel) rfl rfl hR
abbrev rmX6_readTerms : Room := { frames := 5, cells := 0, slots := 0, locals := 111 }
set_option maxHeartbeats 4000000 in
set_option maxRecDepth 100000 in
theorem tX6_readTerms (l : Launch) (dC : Nat → ClassId) (dI : Nat → Nat → Nat) (dA : Nat → ClassId) (ad : Nat → Nat) (ad2 : Nat → Nat) (sz : Nat) {p1 : Int32} {c_size : Int32} {c_length : Int32} {c_place : Int32} {c_fault : Int32} {c_faultPlace : Int32} {c_begin : Int32} {c_bytes : Nat → Int32} {c_draft_terms : Nat → Int32} {d2_terms : Nat → Int32} {r : Int32} {o_c_length : Int32} {o_c_place : Int32} {o_c_fault : Int32} {o_c_faultPlace : Int32} {o_c_begin : Int32} {o_c_draft_terms : Nat → Int32} {o_d2_terms : Nat → Int32} (hf : fX6_readTerms p1 c_size c_length c_place c_fault c_faultPlace c_begin c_bytes c_draft_terms d2_terms = some (r, o_c_length, o_c_place, o_c_fault, o_c_faultPlace, o_c_begin, o_c_draft_terms, o_d2_terms)) : Met l yX6_readTerms (wq (Cond.code yX6_readTerms cX6_readTerms 4 (some .int))) rmX6_readTerms (gP [.ref (ad 0), .int p1, .ref (ad2 0)] (dC, dI) dA ((wX6 dA ad c_size c_length c_place c_fault c_faultPlace c_begin c_bytes c_draft_terms) ++ (wX0 dA ad2 d2_terms)) sz) (gQi (dC, dI) r ((wX6 dA ad c_size o_c_length o_c_place o_c_fault o_c_faultPlace o_c_begin c_bytes o_c_draft_terms) ++ (wX0 dA ad2 o_d2_terms)) (va_A ((wX6 dA ad c_size c_length c_place c_fault c_faultPlace c_begin c_bytes c_draft_terms) ++ (wX0 dA ad2 d2_terms)) sz)) 0 0 (va_A ((wX6 dA ad c_size c_length c_place c_fault c_faultPlace c_begin c_bytes c_draft_terms) ++ (wX0 dA ad2 d2_terms)) sz) := by
  refine Met.ofW (cc := cX6_readTerms) (maxL := 4) (ret := (some .int)) (by decide) rfl ?_
  intro p e s m args below meth c s₁ B hml hv
  obtain ⟨rfl, hsz, hP, hK, hD0⟩ := hv
  have hx := B.exec
  have hb := B.bytes
  have hr := B.returns
  have hts := atoms_spec (ws := wq (Cond.code yX6_readTerms cX6_readTerms 4 (some .int))) B.pre
  have hown : s.vm.findClass RX6 = some m.cls := findClass_of_methodNamed B.named
  have hlocks := B.notSynchronized
  clear B
  subst hsz
  have hD := hD0.self (sz := s.heap.size)
  generalize hAe : va_A ((wX6 dA ad c_size c_length c_place c_fault c_faultPlace c_begin c_bytes c_draft_terms) ++ (wX0 dA ad2 d2_terms)) s.heap.size = A at hD ⊢
  have hA : ∀ q : Nat, s.heap.size ≤ q → A q := fun q h => by rw [← hAe]; exact Or.inr h
  clear hAe hD0
  have hS : va_S A s.heap s.heap [] := va_S.rf
  have hl := lv_entry ([.ref (ad 0), .int p1, .ref (ad2 0)]) (n := 4) (Nat.le_of_ble_eq_true rfl)
  rw [lg_entry_eq]
  generalize (lg_sl ([.ref (ad 0), .int p1, .ref (ad2 0)]) ++ List.replicate (4 - (lg_sl ([.ref (ad 0), .int p1, .ref (ad2 0)])).length) Slot.unset).toArray = ls at hl ⊢
  have hl : lv_has ls 4 [(0, .ref (ad 0)), (1, .int p1), (2, .ref (ad2 0))] := hl
  change W p l e rmX6_readTerms s m ([.ref (ad 0), .int p1, .ref (ad2 0)] : List Value).toArray below meth c s.heap [] 0 0 _ _
  generalize hQ : MQ below (gQi (dC, dI) r ((wX6 dA ad c_size o_c_length o_c_place o_c_fault o_c_faultPlace o_c_begin c_bytes o_c_draft_terms) ++ (wX0 dA ad2 o_d2_terms)) A) ([.ref (ad 0), .int p1, .ref (ad2 0)] : List Value).toArray s 0 0 A = Q
  have LP27 : ∀ (n : Nat) (c_length : Int32) (c_bytes : Nat → Int32) (c_size : Int32) (d2_terms : Nat → Int32) (x3 : Int32) (c_place : Int32) (c_fault : Int32) (c_faultPlace : Int32) (c_begin : Int32) (c_draft_terms : Nat → Int32) (tgo : Nat) (o3 : Int32) (o_c_place : Int32) (o_c_fault : Int32) (o_c_faultPlace : Int32) (o_c_begin : Int32) (o_c_draft_terms : Nat → Int32) (H : Heap) (locs : List Loc) (ls : Array Slot), va_P (dC, dI) vwCl ((wX6 dA ad c_size c_length c_place c_fault c_faultPlace c_begin c_bytes c_draft_terms) ++ (wX0 dA ad2 d2_terms)) H → va_D A ((wX6 dA ad c_size c_length c_place c_fault c_faultPlace c_begin c_bytes c_draft_terms) ++ (wX0 dA ad2 d2_terms)) → va_S A s.heap H locs → lpX6_readTerms_27 c_length c_bytes n x3 c_place c_fault c_faultPlace c_begin c_draft_terms = some (tgo, o3, o_c_place, o_c_fault, o_c_faultPlace, o_c_begin, o_c_draft_terms) → lv_has ls 4 [(0, .ref (ad 0)), (2, .ref (ad2 0)), (3, .int x3)] → (tgo = 0 → ∀ (H : Heap) (locs : List Loc) (ls : Array Slot), va_P (dC, dI) vwCl ((wX6 dA ad c_size c_length o_c_place o_c_fault o_c_faultPlace o_c_begin c_bytes o_c_draft_terms) ++ (wX0 dA ad2 d2_terms)) H → va_D A ((wX6 dA ad c_size c_length o_c_place o_c_fault o_c_faultPlace o_c_begin c_bytes o_c_draft_terms) ++ (wX0 dA ad2 d2_terms)) → va_S A s.heap H locs → lv_has ls 4 [(0, .ref (ad 0))] → W p l e rmX6_readTerms s m ([.ref (ad 0), .int p1, .ref (ad2 0)] : List Value).toArray below meth c H locs 0 0 Q (F0 m 48 ls [])) → (tgo = 1 → ∀ (H : Heap) (locs : List Loc) (ls : Array Slot), va_P (dC, dI) vwCl ((wX6 dA ad c_size c_length o_c_place o_c_fault o_c_faultPlace o_c_begin c_bytes o_c_draft_terms) ++ (wX0 dA ad2 d2_terms)) H → va_D A ((wX6 dA ad c_size c_length o_c_place o_c_fault o_c_faultPlace o_c_begin c_bytes o_c_draft_terms) ++ (wX0 dA ad2 d2_terms)) → va_S A s.heap H locs → lv_has ls 4 [(0, .ref (ad 0)), (2, .ref (ad2 0)), (3, .int o3)] → W p l e rmX6_readTerms s m ([.ref (ad 0), .int p1, .ref (ad2 0)] : List Value).toArray below meth c H locs 0 0 Q (F0 m 68 ls [])) → W p l e rmX6_readTerms s m ([.ref (ad 0), .int p1, .ref (ad2 0)] : List Value).toArray below meth c H locs 0 0 Q (F0 m 27 ls []) := by
    intro n
    induction n with
    | zero =>
      intro c_length c_bytes c_size d2_terms x3 c_place c_fault c_faultPlace c_begin c_draft_terms tgo o3 o_c_place o_c_fault o_c_faultPlace o_c_begin o_c_draft_terms H locs ls hP hD hS hf hl hk0 hk1
      cases hf
    | succ n ih27 =>
      intro c_length c_bytes c_size d2_terms x3 c_place c_fault c_faultPlace c_begin c_draft_terms tgo o3 o_c_place o_c_fault o_c_faultPlace o_c_begin o_c_draft_terms H locs ls hP hD hS hf hl hk0 hk1
      rw [lpX6_readTerms_27.eq_2] at hf
      refine lv_iload_n hx hb dX6_readTerms_27 rfl (lv_at hl 2 rfl) ?_
      refine lv_bipush (v := 100) hx hb dX6_readTerms_28 (by decide) ?_
      refine lv_icmp_ge (tgt := 68) hx hb dX6_readTerms_30 (by decide) (fun k16 => ?_) (fun k16 => ?_)
      · replace hf := ifp k16 hf
        cases hf
        exact hk1 rfl _ _ _ hP hD hS (lv_sub hl [0, 1, 2] rfl)
      · replace hf := ifn k16 hf
        refine lv_aload_n hx hb dX6_readTerms_33 rfl (lv_at hl 0 rfl) ?_
        obtain ⟨r17, c_place_18, v19, hf⟩ := bd2_some hf
        have z20 := sg1 (ws := ((wX6 dA ad c_size c_length c_place c_fault c_faultPlace c_begin c_bytes c_draft_terms) ++ (wX0 dA ad2 d2_terms))) (s0 := (((wX6 dA ad c_size c_length c_place c_fault c_faultPlace c_begin c_bytes c_draft_terms) ++ (wX0 dA ad2 d2_terms))).take 0) (s1 := (((wX6 dA ad c_size c_length c_place c_fault c_faultPlace c_begin c_bytes c_draft_terms) ++ (wX0 dA ad2 d2_terms))).drop 4) (x1 := (wX6 dA ad c_size c_length c_place c_fault c_faultPlace c_begin c_bytes c_draft_terms)) rfl
        refine gpi (wf := ((wX6 dA ad c_size c_length c_place_18 c_fault c_faultPlace c_begin c_bytes c_draft_terms) ++ (wX0 dA ad2 d2_terms))) (va_runV (As := []) (rest := []) ⟨hx, hb, hml, hown, hts⟩ (tX6_look l dC dI dA ad H.size v19) (ccX6_X6_look hts ⟨Nat.le_of_ble_eq_true rfl, Nat.le_of_ble_eq_true rfl⟩) (gPreV (ci := 6) (q0 := 0) (psub z20 hP) hK (psubD z20 hD) rfl rfl) rfl rfl hl.1 rfl (lv_room (Nat.le_of_ble_eq_true rfl)) dX6_readTerms_34 ⟨Nat.le_of_ble_eq_true rfl, Nat.le_of_ble_eq_true rfl⟩) hP hD hS hA z20 (sg1 (s0 := (((wX6 dA ad c_size c_length c_place c_fault c_faultPlace c_begin c_bytes c_draft_terms) ++ (wX0 dA ad2 d2_terms))).take 0) (s1 := (((wX6 dA ad c_size c_length c_place c_fault c_faultPlace c_begin c_bytes c_draft_terms) ++ (wX0 dA ad2 d2_terms))).drop 4) (x1 := (wX6 dA ad c_size c_length c_place_18 c_fault c_faultPlace c_begin c_bytes c_draft_terms)) rfl) (fun H locs hP hD hS => ?_)
        refine lv_iconst (v := (-1)) hx hb dX6_readTerms_37 (by decide) ?_
        refine lv_icmp_eq (tgt := 68) hx hb dX6_readTerms_38 (by decide) (fun k21 => ?_) (fun k21 => ?_)
        · replace hf := ifp k21 hf
          cases hf
          exact hk1 rfl _ _ _ hP hD hS (lv_sub hl [0, 1, 2] rfl)
        · replace hf := ifn k21 hf
          refine lv_aload_n hx hb dX6_readTerms_41 rfl (lv_at hl 0 rfl) ?_
          obtain ⟨r22, c_place_23, c_fault_24, c_faultPlace_25, c_begin_26, c_draft_terms_27, v28, hf⟩ := bd6_some hf
          have z29 := sg1 (ws := ((wX6 dA ad c_size c_length c_place_18 c_fault c_faultPlace c_begin c_bytes c_draft_terms) ++ (wX0 dA ad2 d2_terms))) (s0 := (((wX6 dA ad c_size c_length c_place_18 c_fault c_faultPlace c_begin c_bytes c_draft_terms) ++ (wX0 dA ad2 d2_terms))).take 0) (s1 := (((wX6 dA ad c_size c_length c_place_18 c_fault c_faultPlace c_begin c_bytes c_draft_terms) ++ (wX0 dA ad2 d2_terms))).drop 4) (x1 := (wX6 dA ad c_size c_length c_place_18 c_fault c_faultPlace c_begin c_bytes c_draft_terms)) rfl
          refine gpi (wf := ((wX6 dA ad c_size c_length c_place_23 c_fault_24 c_faultPlace_25 c_begin_26 c_bytes c_draft_terms_27) ++ (wX0 dA ad2 d2_terms))) (va_runV (As := []) (rest := []) ⟨hx, hb, hml, hown, hts⟩ (tX6_takeClause l dC dI dA ad H.size v28) (ccX6_X6_takeClause hts ⟨Nat.le_of_ble_eq_true rfl, Nat.le_of_ble_eq_true rfl⟩) (gPreV (ci := 6) (q0 := 0) (psub z29 hP) hK (psubD z29 hD) rfl rfl) rfl rfl hl.1 rfl (lv_room (Nat.le_of_ble_eq_true rfl)) dX6_readTerms_42 ⟨Nat.le_of_ble_eq_true rfl, Nat.le_of_ble_eq_true rfl⟩) hP hD hS hA z29 (sg1 (s0 := (((wX6 dA ad c_size c_length c_place_18 c_fault c_faultPlace c_begin c_bytes c_draft_terms) ++ (wX0 dA ad2 d2_terms))).take 0) (s1 := (((wX6 dA ad c_size c_length c_place_18 c_fault c_faultPlace c_begin c_bytes c_draft_terms) ++ (wX0 dA ad2 d2_terms))).drop 4) (x1 := (wX6 dA ad c_size c_length c_place_23 c_fault_24 c_faultPlace_25 c_begin_26 c_bytes c_draft_terms_27)) rfl) (fun H locs hP hD hS => ?_)
          refine lv_if_ne (tgt := 62) hx hb dX6_readTerms_45 (by decide) (fun k30 => ?_) (fun k30 => ?_)
          · replace hf := ifn k30 hf
            obtain ⟨w31, ew31⟩ : ∃ y : Int32, y = x3 + 1 := ⟨_, rfl⟩
            replace hf := nm_at hf ew31
            refine lv_iinc (v := w31) (lv' := [(3, .int w31), (0, .ref (ad 0)), (2, .ref (ad2 0))]) hx hb dX6_readTerms_62 hl (k := 2) rfl (by rw [ew31]; rfl) (by decide) rfl (fun ls hl => ?_)
            refine lv_goto (tgt := 27) hx hb dX6_readTerms_65 (by decide) ?_
            exact ih27 _ _ _ _ _ _ _ _ _ _ _ _ _ _ _ _ _ _ _ _ hP hD hS hf (lv_sub hl [1, 2, 0] rfl) hk0 hk1
          · replace hf := ifp k30 hf
            cases hf
            exact hk0 rfl _ _ _ hP hD hS (lv_sub hl [0] rfl)
  subst hQ
  unfold fX6_readTerms at hf
  refine lv_aload_n hx hb dX6_readTerms_0 rfl (lv_at hl 0 rfl) ?_
  refine va_get (D := (dC, dI)) (ci := 6) (v := .ref (ad 2)) (C := RX6) (T := TX6) (N := 8) hx hb hts (fun w h => gw_mem (inX6 w h)) hown hK.1 hP 0 rfl rfl 2 (by decide) (hts _ (gw_mem wfX6_22)) (fun _ h9 => h9) rfl dX6_readTerms_1 ?_
  refine lv_aload_n hx hb dX6_readTerms_4 rfl (lv_at hl 2 rfl) ?_
  obtain ⟨c_draft_terms_1, v2, hf⟩ := bd1_some hf
  have z3 := sg2 (ws := ((wX6 dA ad c_size c_length c_place c_fault c_faultPlace c_begin c_bytes c_draft_terms) ++ (wX0 dA ad2 d2_terms))) (s0 := (((wX6 dA ad c_size c_length c_place c_fault c_faultPlace c_begin c_bytes c_draft_terms) ++ (wX0 dA ad2 d2_terms))).take 2) (s1 := ((((wX6 dA ad c_size c_length c_place c_fault c_faultPlace c_begin c_bytes c_draft_terms) ++ (wX0 dA ad2 d2_terms))).drop 4).take 0) (s2 := (((wX6 dA ad c_size c_length c_place c_fault c_faultPlace c_begin c_bytes c_draft_terms) ++ (wX0 dA ad2 d2_terms))).drop 6) (x1 := (wX0 dA (fun i => ad (i + 2)) c_draft_terms)) (x2 := (wX0 dA ad2 d2_terms)) rfl
  refine gpv (wf := ((wX6 dA ad c_size c_length c_place c_fault c_faultPlace c_begin c_bytes c_draft_terms_1) ++ (wX0 dA ad2 d2_terms))) (va_runV (As := [.ref (ad2 0)]) (rest := []) ⟨hx, hb, hml, hown, hts⟩ (tX0_takeFrom l dC dI dA (fun i => ad (i + 2)) ad2 s.heap.size v2) (ccX6_X0_takeFrom hts ⟨Nat.le_of_ble_eq_true rfl, Nat.le_of_ble_eq_true rfl⟩) (gPreV (ci := 1) (q0 := 0) (psub z3 hP) hK (psubD z3 hD) rfl rfl) rfl rfl hl.1 rfl (lv_room (Nat.le_of_ble_eq_true rfl)) dX6_readTerms_5 ⟨Nat.le_of_ble_eq_true rfl, Nat.le_of_ble_eq_true rfl⟩) hP hD hS hA z3 (sg2 (s0 := (((wX6 dA ad c_size c_length c_place c_fault c_faultPlace c_begin c_bytes c_draft_terms) ++ (wX0 dA ad2 d2_terms))).take 2) (s1 := ((((wX6 dA ad c_size c_length c_place c_fault c_faultPlace c_begin c_bytes c_draft_terms) ++ (wX0 dA ad2 d2_terms))).drop 4).take 0) (s2 := (((wX6 dA ad c_size c_length c_place c_fault c_faultPlace c_begin c_bytes c_draft_terms) ++ (wX0 dA ad2 d2_terms))).drop 6) (x1 := (wX0 dA (fun i => ad (i + 2)) c_draft_terms_1)) (x2 := (wX0 dA ad2 d2_terms)) rfl) (fun H locs hP hD hS => ?_)
  refine lv_aload_n hx hb dX6_readTerms_8 rfl (lv_at hl 0 rfl) ?_
  refine lv_iload_n hx hb dX6_readTerms_9 rfl (lv_at hl 1 rfl) ?_
  refine lv_aload_n hx hb dX6_readTerms_10 rfl (lv_at hl 0 rfl) ?_
  refine va_get (D := (dC, dI)) (ci := 6) (v := .int c_size) (C := RX6) (T := TX6) (N := 8) hx hb hts (fun w h => gw_mem (inX6 w h)) hown hK.1 hP 0 rfl rfl 1 (by decide) (hts _ (gw_mem wfX6_15)) (fun _ h9 => h9) rfl dX6_readTerms_11 ?_
  refine va_mmin hx hb (hml.trans hl.1.symm) hown (hts _ (gw_mem wmX6_49)) (hts _ (gw_mem wtJ9_min_7cf53)) (hts _ (gw_mem wnJ9)) (hts _ (gw_mem wcJ9_min_7cf53)) (Nat.le_of_ble_eq_true rfl) (Nat.le_of_ble_eq_true rfl) (Nat.le_of_ble_eq_true rfl) (Nat.le_of_ble_eq_true rfl) dX6_readTerms_14 ?_
  refine lv_topi (fun w4 ew4 => ?_)
  replace hf := nm_at hf ew4
  refine va_put (D := (dC, dI)) (ci := 6) (v := .int w4) (ty := .int) (C := RX6) (T := TX6) (N := 8) hx hb hts (fun w h => gw_mem (inX6 w h)) tyX6 tyX6_ok nmX6 hown hK.1 hP hD hS 0 rfl rfl 3 (by decide) (hts _ (gw_mem wfX6_26)) (fun _ h9 => h9) rfl (by decide +kernel) rfl rfl (Nat.le_of_ble_eq_true rfl) dX6_readTerms_17 (fun H locs hP hD hS => ?_)
  have hP : va_P (dC, dI) vwCl ((wX6 dA ad c_size w4 c_place c_fault c_faultPlace c_begin c_bytes c_draft_terms_1) ++ (wX0 dA ad2 d2_terms)) H := hP
  have hD : va_D A ((wX6 dA ad c_size w4 c_place c_fault c_faultPlace c_begin c_bytes c_draft_terms_1) ++ (wX0 dA ad2 d2_terms)) := hD
  refine lv_aload_n hx hb dX6_readTerms_20 rfl (lv_at hl 0 rfl) ?_
  refine lv_iconst (v := 0) hx hb dX6_readTerms_21 (by decide) ?_
  refine va_put (D := (dC, dI)) (ci := 6) (v := .int 0) (ty := .int) (C := RX6) (T := TX6) (N := 8) hx hb hts (fun w h => gw_mem (inX6 w h)) tyX6 tyX6_ok nmX6 hown hK.1 hP hD hS 0 rfl rfl 4 (by decide) (hts _ (gw_mem wfX6_29)) (fun _ h9 => h9) rfl (by decide +kernel) rfl rfl (Nat.le_of_ble_eq_true rfl) dX6_readTerms_22 (fun H locs hP hD hS => ?_)
  have hP : va_P (dC, dI) vwCl ((wX6 dA ad c_size w4 0 c_fault c_faultPlace c_begin c_bytes c_draft_terms_1) ++ (wX0 dA ad2 d2_terms)) H := hP
  have hD : va_D A ((wX6 dA ad c_size w4 0 c_fault c_faultPlace c_begin c_bytes c_draft_terms_1) ++ (wX0 dA ad2 d2_terms)) := hD
  refine lv_iconst (v := 0) hx hb dX6_readTerms_25 (by decide) ?_
  refine lv_istore_n (lv' := [(3, .int 0), (0, .ref (ad 0)), (1, .int p1), (2, .ref (ad2 0))]) hx hb dX6_readTerms_26 rfl hl (by decide) rfl (fun ls hl => ?_)
  obtain ⟨tg5, x6, c_place_7, c_fault_8, c_faultPlace_9, c_begin_10, c_draft_terms_11, v12, hf⟩ := bd7_some hf
  refine LP27 FU _ _ _ _ _ _ _ _ _ _ _ _ _ _ _ _ _ _ _ _ hP hD hS v12 (lv_sub hl [1, 3, 0] rfl) (fun etg5 H locs ls hP hD hS hl => ?_) (fun etg5 H locs ls hP hD hS hl => ?_)
  · replace hf := ifp etg5 hf
    refine lv_sipush (v := (-1000)) hx hb dX6_readTerms_48 (by decide) ?_
    refine lv_aload_n hx hb dX6_readTerms_51 rfl (lv_at hl 0 rfl) ?_
    refine va_get (D := (dC, dI)) (ci := 6) (v := .int c_fault_8) (C := RX6) (T := TX6) (N := 8) hx hb hts (fun w h => gw_mem (inX6 w h)) hown hK.1 hP 0 rfl rfl 5 (by decide) (hts _ (gw_mem wfX6_32)) (fun _ h9 => h9) rfl dX6_readTerms_52 ?_
    refine lv_imul hx hb dX6_readTerms_55 ?_
    refine lv_aload_n hx hb dX6_readTerms_56 rfl (lv_at hl 0 rfl) ?_
    refine va_get (D := (dC, dI)) (ci := 6) (v := .int c_faultPlace_9) (C := RX6) (T := TX6) (N := 8) hx hb hts (fun w h => gw_mem (inX6 w h)) hown hK.1 hP 0 rfl rfl 6 (by decide) (hts _ (gw_mem wfX6_35)) (fun _ h9 => h9) rfl dX6_readTerms_57 ?_
    refine lv_isub hx hb dX6_readTerms_60 ?_
    cases hf
    exact W.iret hx hb hr (fun t ht _ => gqi hP hD hS ht) hS.2.2 dX6_readTerms_61
  · replace hf := ifn (c := tg5 = 0) (by rw [etg5]; decide) hf
    refine lv_aload_n hx hb dX6_readTerms_68 rfl (lv_at hl 1 rfl) ?_
    refine lv_aload_n hx hb dX6_readTerms_69 rfl (lv_at hl 0 rfl) ?_
    refine va_get (D := (dC, dI)) (ci := 6) (v := .ref (ad 2)) (C := RX6) (T := TX6) (N := 8) hx hb hts (fun w h => gw_mem (inX6 w h)) hown hK.1 hP 0 rfl rfl 2 (by decide) (hts _ (gw_mem wfX6_22)) (fun _ h9 => h9) rfl dX6_readTerms_70 ?_
    obtain ⟨d2_terms_13, v14, hf⟩ := bd1_some hf
    have z15 := sg2r (ws := ((wX6 dA ad c_size w4 c_place_7 c_fault_8 c_faultPlace_9 c_begin_10 c_bytes c_draft_terms_11) ++ (wX0 dA ad2 d2_terms))) (s0 := (((wX6 dA ad c_size w4 c_place_7 c_fault_8 c_faultPlace_9 c_begin_10 c_bytes c_draft_terms_11) ++ (wX0 dA ad2 d2_terms))).take 2) (s1 := ((((wX6 dA ad c_size w4 c_place_7 c_fault_8 c_faultPlace_9 c_begin_10 c_bytes c_draft_terms_11) ++ (wX0 dA ad2 d2_terms))).drop 4).take 0) (s2 := (((wX6 dA ad c_size w4 c_place_7 c_fault_8 c_faultPlace_9 c_begin_10 c_bytes c_draft_terms_11) ++ (wX0 dA ad2 d2_terms))).drop 6) (x1 := (wX0 dA (fun i => ad (i + 2)) c_draft_terms_11)) (x2 := (wX0 dA ad2 d2_terms)) rfl
    refine gpv (wf := ((wX6 dA ad c_size w4 c_place_7 c_fault_8 c_faultPlace_9 c_begin_10 c_bytes c_draft_terms_11) ++ (wX0 dA ad2 d2_terms_13))) (va_runV (As := [.ref (ad 2)]) (rest := []) ⟨hx, hb, hml, hown, hts⟩ (tX0_takeFrom l dC dI dA ad2 (fun i => ad (i + 2)) H.size v14) (ccX6_X0_takeFrom hts ⟨Nat.le_of_ble_eq_true rfl, Nat.le_of_ble_eq_true rfl⟩) (gPreV (ci := 1) (q0 := 0) (psub z15 hP) hK (psubD z15 hD) rfl rfl) rfl rfl hl.1 rfl (lv_room (Nat.le_of_ble_eq_true rfl)) dX6_readTerms_73 ⟨Nat.le_of_ble_eq_true rfl, Nat.le_of_ble_eq_true rfl⟩) hP hD hS hA z15 (sg2r (s0 := (((wX6 dA ad c_size w4 c_place_7 c_fault_8 c_faultPlace_9 c_begin_10 c_bytes c_draft_terms_11) ++ (wX0 dA ad2 d2_terms))).take 2) (s1 := ((((wX6 dA ad c_size w4 c_place_7 c_fault_8 c_faultPlace_9 c_begin_10 c_bytes c_draft_terms_11) ++ (wX0 dA ad2 d2_terms))).drop 4).take 0) (s2 := (((wX6 dA ad c_size w4 c_place_7 c_fault_8 c_faultPlace_9 c_begin_10 c_bytes c_draft_terms_11) ++ (wX0 dA ad2 d2_terms))).drop 6) (x1 := (wX0 dA (fun i => ad (i + 2)) c_draft_terms_11)) (x2 := (wX0 dA ad2 d2_terms_13)) rfl) (fun H locs hP hD hS => ?_)
    refine lv_iload_n hx hb dX6_readTerms_76 rfl (lv_at hl 2 rfl) ?_
    cases hf
    exact W.iret hx hb hr (fun t ht _ => gqi hP hD hS ht) hS.2.2 dX6_readTerms_77
theorem ccX8_X6_size {R : Room} {s : State} {args : Array Value} {c0 : Cond} (ht : ∀ w ∈ wq c0, w.before args s = true) (hR : rmX6_size.frames + 1 ≤ R.frames ∧ 8 + (1 + 11) + rmX6_size.locals ≤ R.locals) : CallW R s args RX8 RX6 57 yX6_size cX6_size 1 (some .int) (wq (.code yX6_size cX6_size 1 (some .int))) rmX6_size 0 0 0 := gCW 0 ht wcX6_size wmX8_57 wiX6_size weX6_size wnX6 (by decide +kernel) rfl rfl hR
theorem ccX8_X6_append {R : Room} {s : State} {args : Array Value} {c0 : Cond} (ht : ∀ w ∈ wq c0, w.before args s = true) (hR : rmX6_append.frames + 1 ≤ R.frames ∧ 8 + (3 + 11) + rmX6_append.locals ≤ R.locals) : CallW R s args RX8 RX6 61 yX6_append cX6_append 3 none (wq (.code yX6_append cX6_append 3 none)) rmX6_append 0 0 1 := gCW 1 ht wcX6_append wmX8_61 wiX6_append weX6_append wnX6 (by decide +kernel) rfl rfl hR
abbrev rmX8_feed : Room := { frames := 1, cells := 0, slots := 0, locals := 22 }
set_option maxHeartbeats 4000000 in
set_option maxRecDepth 100000 in
theorem tX8_feed (l : Launch) (dC : Nat → ClassId) (dI : Nat → Nat → Nat) (dA : Nat → ClassId) (ad : Nat → Nat) (sz : Nat) {p1 : Int32} {p2 : Int32} {p3 : Int32} {p4 : Int32} {p5 : Int32} {c_keptCount : Int32} {c_tape_size : Int32} {c_tape_length : Int32} {c_tape_place : Int32} {c_tape_fault : Int32} {c_tape_faultPlace : Int32} {c_tape_begin : Int32} {c_tape_bytes : Nat → Int32} {c_tape_draft_terms : Nat → Int32} {c_now_row : Int32} {c_now_tree_parts : Nat → Int32} {c_now_bonds0_terms : Nat → Int32} {c_now_bonds1_terms : Nat → Int32} {c_now_bonds2_terms : Nat → Int32} {c_now_hand_opened : Int32} {c_now_hand_over : Int32} {c_now_hand_row : Int32} {c_now_hand_paid : Int64} {c_now_hand_regret : Int64} {c_now_hand_tree_parts : Nat → Int32} {c_now_hand_bond_terms : Nat → Int32} {c_kept : Nat → Option Nat} {c_sheet_tree_parts : Nat → Int32} {c_sheet_bond_terms : Nat → Int32} {c_sheet_penceByUps : Nat → Int64} {c_sheet_pence : Nat → Int64} {c_sheet_turned : Nat → Int64} {c_sheet_called : Nat → Int64} {c_sheet_hold : Nat → Int64} {c_sheet_value : Nat → Int64} {c_sheet_marks : Nat → Int32} {c_sheet_act : Nat → Int32} {c_sheet_rowOfKey : Nat → Int32} {c_otherSheet_tree_parts : Nat → Int32} {c_otherSheet_bond_terms : Nat → Int32} {c_otherSheet_penceByUps : Nat → Int64} {c_otherSheet_pence : Nat → Int64} {c_otherSheet_turned : Nat → Int64} {c_otherSheet_called : Nat → Int64} {c_otherSheet_hold : Nat → Int64} {c_otherSheet_value : Nat → Int64} {c_otherSheet_marks : Nat → Int32} {c_otherSheet_act : Nat → Int32} {c_otherSheet_rowOfKey : Nat → Int32} {c_draws_x : Int32} {c_text_coder : Int32} {c_text_maybeLatin1 : Int32} {c_text_count : Int32} {c_text_value_n : Nat} {c_text_value : Nat → Int32} {r : Int32} {o_c_tape_size : Int32} {o_c_tape_bytes : Nat → Int32} (hf : fX8_feed p1 p2 p3 p4 p5 c_tape_size c_tape_bytes = some (r, o_c_tape_size, o_c_tape_bytes)) : Met l yX8_feed (wq (Cond.code yX8_feed cX8_feed 6 (some .int))) rmX8_feed (gP [.ref (ad 0), .int p1, .int p2, .int p3, .int p4, .int p5] (dC, dI) dA (wX8 dA ad c_keptCount c_tape_size c_tape_length c_tape_place c_tape_fault c_tape_faultPlace c_tape_begin c_tape_bytes c_tape_draft_terms c_now_row c_now_tree_parts c_now_bonds0_terms c_now_bonds1_terms c_now_bonds2_terms c_now_hand_opened c_now_hand_over c_now_hand_row c_now_hand_paid c_now_hand_regret c_now_hand_tree_parts c_now_hand_bond_terms c_kept c_sheet_tree_parts c_sheet_bond_terms c_sheet_penceByUps c_sheet_pence c_sheet_turned c_sheet_called c_sheet_hold c_sheet_value c_sheet_marks c_sheet_act c_sheet_rowOfKey c_otherSheet_tree_parts c_otherSheet_bond_terms c_otherSheet_penceByUps c_otherSheet_pence c_otherSheet_turned c_otherSheet_called c_otherSheet_hold c_otherSheet_value c_otherSheet_marks c_otherSheet_act c_otherSheet_rowOfKey c_draws_x c_text_coder c_text_maybeLatin1 c_text_count c_text_value_n c_text_value) sz) (gQi (dC, dI) r (wX8 dA ad c_keptCount o_c_tape_size c_tape_length c_tape_place c_tape_fault c_tape_faultPlace c_tape_begin o_c_tape_bytes c_tape_draft_terms c_now_row c_now_tree_parts c_now_bonds0_terms c_now_bonds1_terms c_now_bonds2_terms c_now_hand_opened c_now_hand_over c_now_hand_row c_now_hand_paid c_now_hand_regret c_now_hand_tree_parts c_now_hand_bond_terms c_kept c_sheet_tree_parts c_sheet_bond_terms c_sheet_penceByUps c_sheet_pence c_sheet_turned c_sheet_called c_sheet_hold c_sheet_value c_sheet_marks c_sheet_act c_sheet_rowOfKey c_otherSheet_tree_parts c_otherSheet_bond_terms c_otherSheet_penceByUps c_otherSheet_pence c_otherSheet_turned c_otherSheet_called c_otherSheet_hold c_otherSheet_value c_otherSheet_marks c_otherSheet_act c_otherSheet_rowOfKey c_draws_x c_text_coder c_text_maybeLatin1 c_text_count c_text_value_n c_text_value) (va_A (wX8 dA ad c_keptCount c_tape_size c_tape_length c_tape_place c_tape_fault c_tape_faultPlace c_tape_begin c_tape_bytes c_tape_draft_terms c_now_row c_now_tree_parts c_now_bonds0_terms c_now_bonds1_terms c_now_bonds2_terms c_now_hand_opened c_now_hand_over c_now_hand_row c_now_hand_paid c_now_hand_regret c_now_hand_tree_parts c_now_hand_bond_terms c_kept c_sheet_tree_parts c_sheet_bond_terms c_sheet_penceByUps c_sheet_pence c_sheet_turned c_sheet_called c_sheet_hold c_sheet_value c_sheet_marks c_sheet_act c_sheet_rowOfKey c_otherSheet_tree_parts c_otherSheet_bond_terms c_otherSheet_penceByUps c_otherSheet_pence c_otherSheet_turned c_otherSheet_called c_otherSheet_hold c_otherSheet_value c_otherSheet_marks c_otherSheet_act c_otherSheet_rowOfKey c_draws_x c_text_coder c_text_maybeLatin1 c_text_count c_text_value_n c_text_value) sz)) 0 0 (va_A (wX8 dA ad c_keptCount c_tape_size c_tape_length c_tape_place c_tape_fault c_tape_faultPlace c_tape_begin c_tape_bytes c_tape_draft_terms c_now_row c_now_tree_parts c_now_bonds0_terms c_now_bonds1_terms c_now_bonds2_terms c_now_hand_opened c_now_hand_over c_now_hand_row c_now_hand_paid c_now_hand_regret c_now_hand_tree_parts c_now_hand_bond_terms c_kept c_sheet_tree_parts c_sheet_bond_terms c_sheet_penceByUps c_sheet_pence c_sheet_turned c_sheet_called c_sheet_hold c_sheet_value c_sheet_marks c_sheet_act c_sheet_rowOfKey c_otherSheet_tree_parts c_otherSheet_bond_terms c_otherSheet_penceByUps c_otherSheet_pence c_otherSheet_turned c_otherSheet_called c_otherSheet_hold c_otherSheet_value c_otherSheet_marks c_otherSheet_act c_otherSheet_rowOfKey c_draws_x c_text_coder c_text_maybeLatin1 c_text_count c_text_value_n c_text_value) sz) := by
  refine Met.ofW (cc := cX8_feed) (maxL := 6) (ret := (some .int)) (by decide) rfl ?_
  intro p e s m args below meth c s₁ B hml hv
  obtain ⟨rfl, hsz, hP, hK, hD0⟩ := hv
  have hx := B.exec
  have hb := B.bytes
  have hr := B.returns
  have hts := atoms_spec (ws := wq (Cond.code yX8_feed cX8_feed 6 (some .int))) B.pre
  have hown : s.vm.findClass RX8 = some m.cls := findClass_of_methodNamed B.named
  have hlocks := B.notSynchronized
  clear B
  subst hsz
  have hD := hD0.self (sz := s.heap.size)
  generalize hAe : va_A (wX8 dA ad c_keptCount c_tape_size c_tape_length c_tape_place c_tape_fault c_tape_faultPlace c_tape_begin c_tape_bytes c_tape_draft_terms c_now_row c_now_tree_parts c_now_bonds0_terms c_now_bonds1_terms c_now_bonds2_terms c_now_hand_opened c_now_hand_over c_now_hand_row c_now_hand_paid c_now_hand_regret c_now_hand_tree_parts c_now_hand_bond_terms c_kept c_sheet_tree_parts c_sheet_bond_terms c_sheet_penceByUps c_sheet_pence c_sheet_turned c_sheet_called c_sheet_hold c_sheet_value c_sheet_marks c_sheet_act c_sheet_rowOfKey c_otherSheet_tree_parts c_otherSheet_bond_terms c_otherSheet_penceByUps c_otherSheet_pence c_otherSheet_turned c_otherSheet_called c_otherSheet_hold c_otherSheet_value c_otherSheet_marks c_otherSheet_act c_otherSheet_rowOfKey c_draws_x c_text_coder c_text_maybeLatin1 c_text_count c_text_value_n c_text_value) s.heap.size = A at hD ⊢
  have hA : ∀ q : Nat, s.heap.size ≤ q → A q := fun q h => by rw [← hAe]; exact Or.inr h
  clear hAe hD0
  have hS : va_S A s.heap s.heap [] := va_S.rf
  have hl := lv_entry ([.ref (ad 0), .int p1, .int p2, .int p3, .int p4, .int p5]) (n := 6) (Nat.le_of_ble_eq_true rfl)
  rw [lg_entry_eq]
  generalize (lg_sl ([.ref (ad 0), .int p1, .int p2, .int p3, .int p4, .int p5]) ++ List.replicate (6 - (lg_sl ([.ref (ad 0), .int p1, .int p2, .int p3, .int p4, .int p5])).length) Slot.unset).toArray = ls at hl ⊢
  have hl : lv_has ls 6 [(0, .ref (ad 0)), (1, .int p1), (2, .int p2), (3, .int p3), (4, .int p4), (5, .int p5)] := hl
  change W p l e rmX8_feed s m ([.ref (ad 0), .int p1, .int p2, .int p3, .int p4, .int p5] : List Value).toArray below meth c s.heap [] 0 0 _ _
  unfold fX8_feed at hf
  refine lv_aload_n hx hb dX8_feed_0 rfl (lv_at hl 0 rfl) ?_
  refine va_get (D := (dC, dI)) (ci := 8) (v := .ref (ad 1)) (C := RX8) (T := TX8) (N := 8) hx hb hts (fun w h => gw_mem (inX8 w h)) hown hK.1 hP 0 rfl rfl 0 (by decide) (hts _ (gw_mem wfX8_12)) (fun _ h9 => h9) rfl dX8_feed_1 ?_
  obtain ⟨r1, v2, hf⟩ := bd1_some hf
  have z3 := sg1 (ws := (wX8 dA ad c_keptCount c_tape_size c_tape_length c_tape_place c_tape_fault c_tape_faultPlace c_tape_begin c_tape_bytes c_tape_draft_terms c_now_row c_now_tree_parts c_now_bonds0_terms c_now_bonds1_terms c_now_bonds2_terms c_now_hand_opened c_now_hand_over c_now_hand_row c_now_hand_paid c_now_hand_regret c_now_hand_tree_parts c_now_hand_bond_terms c_kept c_sheet_tree_parts c_sheet_bond_terms c_sheet_penceByUps c_sheet_pence c_sheet_turned c_sheet_called c_sheet_hold c_sheet_value c_sheet_marks c_sheet_act c_sheet_rowOfKey c_otherSheet_tree_parts c_otherSheet_bond_terms c_otherSheet_penceByUps c_otherSheet_pence c_otherSheet_turned c_otherSheet_called c_otherSheet_hold c_otherSheet_value c_otherSheet_marks c_otherSheet_act c_otherSheet_rowOfKey c_draws_x c_text_coder c_text_maybeLatin1 c_text_count c_text_value_n c_text_value)) (s0 := ((wX8 dA ad c_keptCount c_tape_size c_tape_length c_tape_place c_tape_fault c_tape_faultPlace c_tape_begin c_tape_bytes c_tape_draft_terms c_now_row c_now_tree_parts c_now_bonds0_terms c_now_bonds1_terms c_now_bonds2_terms c_now_hand_opened c_now_hand_over c_now_hand_row c_now_hand_paid c_now_hand_regret c_now_hand_tree_parts c_now_hand_bond_terms c_kept c_sheet_tree_parts c_sheet_bond_terms c_sheet_penceByUps c_sheet_pence c_sheet_turned c_sheet_called c_sheet_hold c_sheet_value c_sheet_marks c_sheet_act c_sheet_rowOfKey c_otherSheet_tree_parts c_otherSheet_bond_terms c_otherSheet_penceByUps c_otherSheet_pence c_otherSheet_turned c_otherSheet_called c_otherSheet_hold c_otherSheet_value c_otherSheet_marks c_otherSheet_act c_otherSheet_rowOfKey c_draws_x c_text_coder c_text_maybeLatin1 c_text_count c_text_value_n c_text_value)).take 1) (s1 := ((wX8 dA ad c_keptCount c_tape_size c_tape_length c_tape_place c_tape_fault c_tape_faultPlace c_tape_begin c_tape_bytes c_tape_draft_terms c_now_row c_now_tree_parts c_now_bonds0_terms c_now_bonds1_terms c_now_bonds2_terms c_now_hand_opened c_now_hand_over c_now_hand_row c_now_hand_paid c_now_hand_regret c_now_hand_tree_parts c_now_hand_bond_terms c_kept c_sheet_tree_parts c_sheet_bond_terms c_sheet_penceByUps c_sheet_pence c_sheet_turned c_sheet_called c_sheet_hold c_sheet_value c_sheet_marks c_sheet_act c_sheet_rowOfKey c_otherSheet_tree_parts c_otherSheet_bond_terms c_otherSheet_penceByUps c_otherSheet_pence c_otherSheet_turned c_otherSheet_called c_otherSheet_hold c_otherSheet_value c_otherSheet_marks c_otherSheet_act c_otherSheet_rowOfKey c_draws_x c_text_coder c_text_maybeLatin1 c_text_count c_text_value_n c_text_value)).drop 5) (x1 := (wX6 dA (fun i => ad (i + 1)) c_tape_size c_tape_length c_tape_place c_tape_fault c_tape_faultPlace c_tape_begin c_tape_bytes c_tape_draft_terms)) rfl
  refine gpi (wf := (wX8 dA ad c_keptCount c_tape_size c_tape_length c_tape_place c_tape_fault c_tape_faultPlace c_tape_begin c_tape_bytes c_tape_draft_terms c_now_row c_now_tree_parts c_now_bonds0_terms c_now_bonds1_terms c_now_bonds2_terms c_now_hand_opened c_now_hand_over c_now_hand_row c_now_hand_paid c_now_hand_regret c_now_hand_tree_parts c_now_hand_bond_terms c_kept c_sheet_tree_parts c_sheet_bond_terms c_sheet_penceByUps c_sheet_pence c_sheet_turned c_sheet_called c_sheet_hold c_sheet_value c_sheet_marks c_sheet_act c_sheet_rowOfKey c_otherSheet_tree_parts c_otherSheet_bond_terms c_otherSheet_penceByUps c_otherSheet_pence c_otherSheet_turned c_otherSheet_called c_otherSheet_hold c_otherSheet_value c_otherSheet_marks c_otherSheet_act c_otherSheet_rowOfKey c_draws_x c_text_coder c_text_maybeLatin1 c_text_count c_text_value_n c_text_value)) (va_runV (As := []) (rest := []) ⟨hx, hb, hml, hown, hts⟩ (tX6_size l dC dI dA (fun i => ad (i + 1)) s.heap.size v2) (ccX8_X6_size hts ⟨Nat.le_of_ble_eq_true rfl, Nat.le_of_ble_eq_true rfl⟩) (gPreV (ci := 6) (q0 := 0) (psub z3 hP) hK (psubD z3 hD) rfl rfl) rfl rfl hl.1 rfl (lv_room (Nat.le_of_ble_eq_true rfl)) dX8_feed_4 ⟨Nat.le_of_ble_eq_true rfl, Nat.le_of_ble_eq_true rfl⟩) hP hD hS hA z3 (sg1 (s0 := ((wX8 dA ad c_keptCount c_tape_size c_tape_length c_tape_place c_tape_fault c_tape_faultPlace c_tape_begin c_tape_bytes c_tape_draft_terms c_now_row c_now_tree_parts c_now_bonds0_terms c_now_bonds1_terms c_now_bonds2_terms c_now_hand_opened c_now_hand_over c_now_hand_row c_now_hand_paid c_now_hand_regret c_now_hand_tree_parts c_now_hand_bond_terms c_kept c_sheet_tree_parts c_sheet_bond_terms c_sheet_penceByUps c_sheet_pence c_sheet_turned c_sheet_called c_sheet_hold c_sheet_value c_sheet_marks c_sheet_act c_sheet_rowOfKey c_otherSheet_tree_parts c_otherSheet_bond_terms c_otherSheet_penceByUps c_otherSheet_pence c_otherSheet_turned c_otherSheet_called c_otherSheet_hold c_otherSheet_value c_otherSheet_marks c_otherSheet_act c_otherSheet_rowOfKey c_draws_x c_text_coder c_text_maybeLatin1 c_text_count c_text_value_n c_text_value)).take 1) (s1 := ((wX8 dA ad c_keptCount c_tape_size c_tape_length c_tape_place c_tape_fault c_tape_faultPlace c_tape_begin c_tape_bytes c_tape_draft_terms c_now_row c_now_tree_parts c_now_bonds0_terms c_now_bonds1_terms c_now_bonds2_terms c_now_hand_opened c_now_hand_over c_now_hand_row c_now_hand_paid c_now_hand_regret c_now_hand_tree_parts c_now_hand_bond_terms c_kept c_sheet_tree_parts c_sheet_bond_terms c_sheet_penceByUps c_sheet_pence c_sheet_turned c_sheet_called c_sheet_hold c_sheet_value c_sheet_marks c_sheet_act c_sheet_rowOfKey c_otherSheet_tree_parts c_otherSheet_bond_terms c_otherSheet_penceByUps c_otherSheet_pence c_otherSheet_turned c_otherSheet_called c_otherSheet_hold c_otherSheet_value c_otherSheet_marks c_otherSheet_act c_otherSheet_rowOfKey c_draws_x c_text_coder c_text_maybeLatin1 c_text_count c_text_value_n c_text_value)).drop 5) (x1 := (wX6 dA (fun i => ad (i + 1)) c_tape_size c_tape_length c_tape_place c_tape_fault c_tape_faultPlace c_tape_begin c_tape_bytes c_tape_draft_terms)) rfl) (fun H locs hP hD hS => ?_)
  refine lv_bipush (v := 20) hx hb dX8_feed_7 (by decide) ?_
  refine lv_iadd hx hb dX8_feed_9 ?_
  refine lv_sipush (v := 200) hx hb dX8_feed_10 (by decide) ?_
  refine lv_icmp_le (tgt := 18) hx hb dX8_feed_13 (by decide) (fun k4 => ?_) (fun k4 => ?_)
  · replace hf := ifp k4 hf
    refine lv_aload_n hx hb dX8_feed_18 rfl (lv_at hl 0 rfl) ?_
    refine va_get (D := (dC, dI)) (ci := 8) (v := .ref (ad 1)) (C := RX8) (T := TX8) (N := 8) hx hb hts (fun w h => gw_mem (inX8 w h)) hown hK.1 hP 0 rfl rfl 0 (by decide) (hts _ (gw_mem wfX8_12)) (fun _ h9 => h9) rfl dX8_feed_19 ?_
    refine lv_iload_n hx hb dX8_feed_22 rfl (lv_at hl 1 rfl) ?_
    obtain ⟨c_tape_size_5, c_tape_bytes_6, v7, hf⟩ := bd2_some hf
    have z8 := sg1 (ws := (wX8 dA ad c_keptCount c_tape_size c_tape_length c_tape_place c_tape_fault c_tape_faultPlace c_tape_begin c_tape_bytes c_tape_draft_terms c_now_row c_now_tree_parts c_now_bonds0_terms c_now_bonds1_terms c_now_bonds2_terms c_now_hand_opened c_now_hand_over c_now_hand_row c_now_hand_paid c_now_hand_regret c_now_hand_tree_parts c_now_hand_bond_terms c_kept c_sheet_tree_parts c_sheet_bond_terms c_sheet_penceByUps c_sheet_pence c_sheet_turned c_sheet_called c_sheet_hold c_sheet_value c_sheet_marks c_sheet_act c_sheet_rowOfKey c_otherSheet_tree_parts c_otherSheet_bond_terms c_otherSheet_penceByUps c_otherSheet_pence c_otherSheet_turned c_otherSheet_called c_otherSheet_hold c_otherSheet_value c_otherSheet_marks c_otherSheet_act c_otherSheet_rowOfKey c_draws_x c_text_coder c_text_maybeLatin1 c_text_count c_text_value_n c_text_value)) (s0 := ((wX8 dA ad c_keptCount c_tape_size c_tape_length c_tape_place c_tape_fault c_tape_faultPlace c_tape_begin c_tape_bytes c_tape_draft_terms c_now_row c_now_tree_parts c_now_bonds0_terms c_now_bonds1_terms c_now_bonds2_terms c_now_hand_opened c_now_hand_over c_now_hand_row c_now_hand_paid c_now_hand_regret c_now_hand_tree_parts c_now_hand_bond_terms c_kept c_sheet_tree_parts c_sheet_bond_terms c_sheet_penceByUps c_sheet_pence c_sheet_turned c_sheet_called c_sheet_hold c_sheet_value c_sheet_marks c_sheet_act c_sheet_rowOfKey c_otherSheet_tree_parts c_otherSheet_bond_terms c_otherSheet_penceByUps c_otherSheet_pence c_otherSheet_turned c_otherSheet_called c_otherSheet_hold c_otherSheet_value c_otherSheet_marks c_otherSheet_act c_otherSheet_rowOfKey c_draws_x c_text_coder c_text_maybeLatin1 c_text_count c_text_value_n c_text_value)).take 1) (s1 := ((wX8 dA ad c_keptCount c_tape_size c_tape_length c_tape_place c_tape_fault c_tape_faultPlace c_tape_begin c_tape_bytes c_tape_draft_terms c_now_row c_now_tree_parts c_now_bonds0_terms c_now_bonds1_terms c_now_bonds2_terms c_now_hand_opened c_now_hand_over c_now_hand_row c_now_hand_paid c_now_hand_regret c_now_hand_tree_parts c_now_hand_bond_terms c_kept c_sheet_tree_parts c_sheet_bond_terms c_sheet_penceByUps c_sheet_pence c_sheet_turned c_sheet_called c_sheet_hold c_sheet_value c_sheet_marks c_sheet_act c_sheet_rowOfKey c_otherSheet_tree_parts c_otherSheet_bond_terms c_otherSheet_penceByUps c_otherSheet_pence c_otherSheet_turned c_otherSheet_called c_otherSheet_hold c_otherSheet_value c_otherSheet_marks c_otherSheet_act c_otherSheet_rowOfKey c_draws_x c_text_coder c_text_maybeLatin1 c_text_count c_text_value_n c_text_value)).drop 5) (x1 := (wX6 dA (fun i => ad (i + 1)) c_tape_size c_tape_length c_tape_place c_tape_fault c_tape_faultPlace c_tape_begin c_tape_bytes c_tape_draft_terms)) rfl
    refine gpv (wf := (wX8 dA ad c_keptCount c_tape_size_5 c_tape_length c_tape_place c_tape_fault c_tape_faultPlace c_tape_begin c_tape_bytes_6 c_tape_draft_terms c_now_row c_now_tree_parts c_now_bonds0_terms c_now_bonds1_terms c_now_bonds2_terms c_now_hand_opened c_now_hand_over c_now_hand_row c_now_hand_paid c_now_hand_regret c_now_hand_tree_parts c_now_hand_bond_terms c_kept c_sheet_tree_parts c_sheet_bond_terms c_sheet_penceByUps c_sheet_pence c_sheet_turned c_sheet_called c_sheet_hold c_sheet_value c_sheet_marks c_sheet_act c_sheet_rowOfKey c_otherSheet_tree_parts c_otherSheet_bond_terms c_otherSheet_penceByUps c_otherSheet_pence c_otherSheet_turned c_otherSheet_called c_otherSheet_hold c_otherSheet_value c_otherSheet_marks c_otherSheet_act c_otherSheet_rowOfKey c_draws_x c_text_coder c_text_maybeLatin1 c_text_count c_text_value_n c_text_value)) (va_runV (As := [.int p1]) (rest := []) ⟨hx, hb, hml, hown, hts⟩ (tX6_append l dC dI dA (fun i => ad (i + 1)) H.size v7) (ccX8_X6_append hts ⟨Nat.le_of_ble_eq_true rfl, Nat.le_of_ble_eq_true rfl⟩) (gPreV (ci := 6) (q0 := 0) (psub z8 hP) hK (psubD z8 hD) rfl rfl) rfl rfl hl.1 rfl (lv_room (Nat.le_of_ble_eq_true rfl)) dX8_feed_23 ⟨Nat.le_of_ble_eq_true rfl, Nat.le_of_ble_eq_true rfl⟩) hP hD hS hA z8 (sg1 (s0 := ((wX8 dA ad c_keptCount c_tape_size c_tape_length c_tape_place c_tape_fault c_tape_faultPlace c_tape_begin c_tape_bytes c_tape_draft_terms c_now_row c_now_tree_parts c_now_bonds0_terms c_now_bonds1_terms c_now_bonds2_terms c_now_hand_opened c_now_hand_over c_now_hand_row c_now_hand_paid c_now_hand_regret c_now_hand_tree_parts c_now_hand_bond_terms c_kept c_sheet_tree_parts c_sheet_bond_terms c_sheet_penceByUps c_sheet_pence c_sheet_turned c_sheet_called c_sheet_hold c_sheet_value c_sheet_marks c_sheet_act c_sheet_rowOfKey c_otherSheet_tree_parts c_otherSheet_bond_terms c_otherSheet_penceByUps c_otherSheet_pence c_otherSheet_turned c_otherSheet_called c_otherSheet_hold c_otherSheet_value c_otherSheet_marks c_otherSheet_act c_otherSheet_rowOfKey c_draws_x c_text_coder c_text_maybeLatin1 c_text_count c_text_value_n c_text_value)).take 1) (s1 := ((wX8 dA ad c_keptCount c_tape_size c_tape_length c_tape_place c_tape_fault c_tape_faultPlace c_tape_begin c_tape_bytes c_tape_draft_terms c_now_row c_now_tree_parts c_now_bonds0_terms c_now_bonds1_terms c_now_bonds2_terms c_now_hand_opened c_now_hand_over c_now_hand_row c_now_hand_paid c_now_hand_regret c_now_hand_tree_parts c_now_hand_bond_terms c_kept c_sheet_tree_parts c_sheet_bond_terms c_sheet_penceByUps c_sheet_pence c_sheet_turned c_sheet_called c_sheet_hold c_sheet_value c_sheet_marks c_sheet_act c_sheet_rowOfKey c_otherSheet_tree_parts c_otherSheet_bond_terms c_otherSheet_penceByUps c_otherSheet_pence c_otherSheet_turned c_otherSheet_called c_otherSheet_hold c_otherSheet_value c_otherSheet_marks c_otherSheet_act c_otherSheet_rowOfKey c_draws_x c_text_coder c_text_maybeLatin1 c_text_count c_text_value_n c_text_value)).drop 5) (x1 := (wX6 dA (fun i => ad (i + 1)) c_tape_size_5 c_tape_length c_tape_place c_tape_fault c_tape_faultPlace c_tape_begin c_tape_bytes_6 c_tape_draft_terms)) rfl) (fun H locs hP hD hS => ?_)
    refine lv_aload_n hx hb dX8_feed_26 rfl (lv_at hl 0 rfl) ?_
    refine va_get (D := (dC, dI)) (ci := 8) (v := .ref (ad 1)) (C := RX8) (T := TX8) (N := 8) hx hb hts (fun w h => gw_mem (inX8 w h)) hown hK.1 hP 0 rfl rfl 0 (by decide) (hts _ (gw_mem wfX8_12)) (fun _ h9 => h9) rfl dX8_feed_27 ?_
    refine lv_iload_n hx hb dX8_feed_30 rfl (lv_at hl 2 rfl) ?_
    obtain ⟨c_tape_size_9, c_tape_bytes_10, v11, hf⟩ := bd2_some hf
    have z12 := sg1 (ws := (wX8 dA ad c_keptCount c_tape_size_5 c_tape_length c_tape_place c_tape_fault c_tape_faultPlace c_tape_begin c_tape_bytes_6 c_tape_draft_terms c_now_row c_now_tree_parts c_now_bonds0_terms c_now_bonds1_terms c_now_bonds2_terms c_now_hand_opened c_now_hand_over c_now_hand_row c_now_hand_paid c_now_hand_regret c_now_hand_tree_parts c_now_hand_bond_terms c_kept c_sheet_tree_parts c_sheet_bond_terms c_sheet_penceByUps c_sheet_pence c_sheet_turned c_sheet_called c_sheet_hold c_sheet_value c_sheet_marks c_sheet_act c_sheet_rowOfKey c_otherSheet_tree_parts c_otherSheet_bond_terms c_otherSheet_penceByUps c_otherSheet_pence c_otherSheet_turned c_otherSheet_called c_otherSheet_hold c_otherSheet_value c_otherSheet_marks c_otherSheet_act c_otherSheet_rowOfKey c_draws_x c_text_coder c_text_maybeLatin1 c_text_count c_text_value_n c_text_value)) (s0 := ((wX8 dA ad c_keptCount c_tape_size_5 c_tape_length c_tape_place c_tape_fault c_tape_faultPlace c_tape_begin c_tape_bytes_6 c_tape_draft_terms c_now_row c_now_tree_parts c_now_bonds0_terms c_now_bonds1_terms c_now_bonds2_terms c_now_hand_opened c_now_hand_over c_now_hand_row c_now_hand_paid c_now_hand_regret c_now_hand_tree_parts c_now_hand_bond_terms c_kept c_sheet_tree_parts c_sheet_bond_terms c_sheet_penceByUps c_sheet_pence c_sheet_turned c_sheet_called c_sheet_hold c_sheet_value c_sheet_marks c_sheet_act c_sheet_rowOfKey c_otherSheet_tree_parts c_otherSheet_bond_terms c_otherSheet_penceByUps c_otherSheet_pence c_otherSheet_turned c_otherSheet_called c_otherSheet_hold c_otherSheet_value c_otherSheet_marks c_otherSheet_act c_otherSheet_rowOfKey c_draws_x c_text_coder c_text_maybeLatin1 c_text_count c_text_value_n c_text_value)).take 1) (s1 := ((wX8 dA ad c_keptCount c_tape_size_5 c_tape_length c_tape_place c_tape_fault c_tape_faultPlace c_tape_begin c_tape_bytes_6 c_tape_draft_terms c_now_row c_now_tree_parts c_now_bonds0_terms c_now_bonds1_terms c_now_bonds2_terms c_now_hand_opened c_now_hand_over c_now_hand_row c_now_hand_paid c_now_hand_regret c_now_hand_tree_parts c_now_hand_bond_terms c_kept c_sheet_tree_parts c_sheet_bond_terms c_sheet_penceByUps c_sheet_pence c_sheet_turned c_sheet_called c_sheet_hold c_sheet_value c_sheet_marks c_sheet_act c_sheet_rowOfKey c_otherSheet_tree_parts c_otherSheet_bond_terms c_otherSheet_penceByUps c_otherSheet_pence c_otherSheet_turned c_otherSheet_called c_otherSheet_hold c_otherSheet_value c_otherSheet_marks c_otherSheet_act c_otherSheet_rowOfKey c_draws_x c_text_coder c_text_maybeLatin1 c_text_count c_text_value_n c_text_value)).drop 5) (x1 := (wX6 dA (fun i => ad (i + 1)) c_tape_size_5 c_tape_length c_tape_place c_tape_fault c_tape_faultPlace c_tape_begin c_tape_bytes_6 c_tape_draft_terms)) rfl
    refine gpv (wf := (wX8 dA ad c_keptCount c_tape_size_9 c_tape_length c_tape_place c_tape_fault c_tape_faultPlace c_tape_begin c_tape_bytes_10 c_tape_draft_terms c_now_row c_now_tree_parts c_now_bonds0_terms c_now_bonds1_terms c_now_bonds2_terms c_now_hand_opened c_now_hand_over c_now_hand_row c_now_hand_paid c_now_hand_regret c_now_hand_tree_parts c_now_hand_bond_terms c_kept c_sheet_tree_parts c_sheet_bond_terms c_sheet_penceByUps c_sheet_pence c_sheet_turned c_sheet_called c_sheet_hold c_sheet_value c_sheet_marks c_sheet_act c_sheet_rowOfKey c_otherSheet_tree_parts c_otherSheet_bond_terms c_otherSheet_penceByUps c_otherSheet_pence c_otherSheet_turned c_otherSheet_called c_otherSheet_hold c_otherSheet_value c_otherSheet_marks c_otherSheet_act c_otherSheet_rowOfKey c_draws_x c_text_coder c_text_maybeLatin1 c_text_count c_text_value_n c_text_value)) (va_runV (As := [.int p2]) (rest := []) ⟨hx, hb, hml, hown, hts⟩ (tX6_append l dC dI dA (fun i => ad (i + 1)) H.size v11) (ccX8_X6_append hts ⟨Nat.le_of_ble_eq_true rfl, Nat.le_of_ble_eq_true rfl⟩) (gPreV (ci := 6) (q0 := 0) (psub z12 hP) hK (psubD z12 hD) rfl rfl) rfl rfl hl.1 rfl (lv_room (Nat.le_of_ble_eq_true rfl)) dX8_feed_31 ⟨Nat.le_of_ble_eq_true rfl, Nat.le_of_ble_eq_true rfl⟩) hP hD hS hA z12 (sg1 (s0 := ((wX8 dA ad c_keptCount c_tape_size_5 c_tape_length c_tape_place c_tape_fault c_tape_faultPlace c_tape_begin c_tape_bytes_6 c_tape_draft_terms c_now_row c_now_tree_parts c_now_bonds0_terms c_now_bonds1_terms c_now_bonds2_terms c_now_hand_opened c_now_hand_over c_now_hand_row c_now_hand_paid c_now_hand_regret c_now_hand_tree_parts c_now_hand_bond_terms c_kept c_sheet_tree_parts c_sheet_bond_terms c_sheet_penceByUps c_sheet_pence c_sheet_turned c_sheet_called c_sheet_hold c_sheet_value c_sheet_marks c_sheet_act c_sheet_rowOfKey c_otherSheet_tree_parts c_otherSheet_bond_terms c_otherSheet_penceByUps c_otherSheet_pence c_otherSheet_turned c_otherSheet_called c_otherSheet_hold c_otherSheet_value c_otherSheet_marks c_otherSheet_act c_otherSheet_rowOfKey c_draws_x c_text_coder c_text_maybeLatin1 c_text_count c_text_value_n c_text_value)).take 1) (s1 := ((wX8 dA ad c_keptCount c_tape_size_5 c_tape_length c_tape_place c_tape_fault c_tape_faultPlace c_tape_begin c_tape_bytes_6 c_tape_draft_terms c_now_row c_now_tree_parts c_now_bonds0_terms c_now_bonds1_terms c_now_bonds2_terms c_now_hand_opened c_now_hand_over c_now_hand_row c_now_hand_paid c_now_hand_regret c_now_hand_tree_parts c_now_hand_bond_terms c_kept c_sheet_tree_parts c_sheet_bond_terms c_sheet_penceByUps c_sheet_pence c_sheet_turned c_sheet_called c_sheet_hold c_sheet_value c_sheet_marks c_sheet_act c_sheet_rowOfKey c_otherSheet_tree_parts c_otherSheet_bond_terms c_otherSheet_penceByUps c_otherSheet_pence c_otherSheet_turned c_otherSheet_called c_otherSheet_hold c_otherSheet_value c_otherSheet_marks c_otherSheet_act c_otherSheet_rowOfKey c_draws_x c_text_coder c_text_maybeLatin1 c_text_count c_text_value_n c_text_value)).drop 5) (x1 := (wX6 dA (fun i => ad (i + 1)) c_tape_size_9 c_tape_length c_tape_place c_tape_fault c_tape_faultPlace c_tape_begin c_tape_bytes_10 c_tape_draft_terms)) rfl) (fun H locs hP hD hS => ?_)
    refine lv_aload_n hx hb dX8_feed_34 rfl (lv_at hl 0 rfl) ?_
    refine va_get (D := (dC, dI)) (ci := 8) (v := .ref (ad 1)) (C := RX8) (T := TX8) (N := 8) hx hb hts (fun w h => gw_mem (inX8 w h)) hown hK.1 hP 0 rfl rfl 0 (by decide) (hts _ (gw_mem wfX8_12)) (fun _ h9 => h9) rfl dX8_feed_35 ?_
    refine lv_iload_n hx hb dX8_feed_38 rfl (lv_at hl 3 rfl) ?_
    obtain ⟨c_tape_size_13, c_tape_bytes_14, v15, hf⟩ := bd2_some hf
    have z16 := sg1 (ws := (wX8 dA ad c_keptCount c_tape_size_9 c_tape_length c_tape_place c_tape_fault c_tape_faultPlace c_tape_begin c_tape_bytes_10 c_tape_draft_terms c_now_row c_now_tree_parts c_now_bonds0_terms c_now_bonds1_terms c_now_bonds2_terms c_now_hand_opened c_now_hand_over c_now_hand_row c_now_hand_paid c_now_hand_regret c_now_hand_tree_parts c_now_hand_bond_terms c_kept c_sheet_tree_parts c_sheet_bond_terms c_sheet_penceByUps c_sheet_pence c_sheet_turned c_sheet_called c_sheet_hold c_sheet_value c_sheet_marks c_sheet_act c_sheet_rowOfKey c_otherSheet_tree_parts c_otherSheet_bond_terms c_otherSheet_penceByUps c_otherSheet_pence c_otherSheet_turned c_otherSheet_called c_otherSheet_hold c_otherSheet_value c_otherSheet_marks c_otherSheet_act c_otherSheet_rowOfKey c_draws_x c_text_coder c_text_maybeLatin1 c_text_count c_text_value_n c_text_value)) (s0 := ((wX8 dA ad c_keptCount c_tape_size_9 c_tape_length c_tape_place c_tape_fault c_tape_faultPlace c_tape_begin c_tape_bytes_10 c_tape_draft_terms c_now_row c_now_tree_parts c_now_bonds0_terms c_now_bonds1_terms c_now_bonds2_terms c_now_hand_opened c_now_hand_over c_now_hand_row c_now_hand_paid c_now_hand_regret c_now_hand_tree_parts c_now_hand_bond_terms c_kept c_sheet_tree_parts c_sheet_bond_terms c_sheet_penceByUps c_sheet_pence c_sheet_turned c_sheet_called c_sheet_hold c_sheet_value c_sheet_marks c_sheet_act c_sheet_rowOfKey c_otherSheet_tree_parts c_otherSheet_bond_terms c_otherSheet_penceByUps c_otherSheet_pence c_otherSheet_turned c_otherSheet_called c_otherSheet_hold c_otherSheet_value c_otherSheet_marks c_otherSheet_act c_otherSheet_rowOfKey c_draws_x c_text_coder c_text_maybeLatin1 c_text_count c_text_value_n c_text_value)).take 1) (s1 := ((wX8 dA ad c_keptCount c_tape_size_9 c_tape_length c_tape_place c_tape_fault c_tape_faultPlace c_tape_begin c_tape_bytes_10 c_tape_draft_terms c_now_row c_now_tree_parts c_now_bonds0_terms c_now_bonds1_terms c_now_bonds2_terms c_now_hand_opened c_now_hand_over c_now_hand_row c_now_hand_paid c_now_hand_regret c_now_hand_tree_parts c_now_hand_bond_terms c_kept c_sheet_tree_parts c_sheet_bond_terms c_sheet_penceByUps c_sheet_pence c_sheet_turned c_sheet_called c_sheet_hold c_sheet_value c_sheet_marks c_sheet_act c_sheet_rowOfKey c_otherSheet_tree_parts c_otherSheet_bond_terms c_otherSheet_penceByUps c_otherSheet_pence c_otherSheet_turned c_otherSheet_called c_otherSheet_hold c_otherSheet_value c_otherSheet_marks c_otherSheet_act c_otherSheet_rowOfKey c_draws_x c_text_coder c_text_maybeLatin1 c_text_count c_text_value_n c_text_value)).drop 5) (x1 := (wX6 dA (fun i => ad (i + 1)) c_tape_size_9 c_tape_length c_tape_place c_tape_fault c_tape_faultPlace c_tape_begin c_tape_bytes_10 c_tape_draft_terms)) rfl
    refine gpv (wf := (wX8 dA ad c_keptCount c_tape_size_13 c_tape_length c_tape_place c_tape_fault c_tape_faultPlace c_tape_begin c_tape_bytes_14 c_tape_draft_terms c_now_row c_now_tree_parts c_now_bonds0_terms c_now_bonds1_terms c_now_bonds2_terms c_now_hand_opened c_now_hand_over c_now_hand_row c_now_hand_paid c_now_hand_regret c_now_hand_tree_parts c_now_hand_bond_terms c_kept c_sheet_tree_parts c_sheet_bond_terms c_sheet_penceByUps c_sheet_pence c_sheet_turned c_sheet_called c_sheet_hold c_sheet_value c_sheet_marks c_sheet_act c_sheet_rowOfKey c_otherSheet_tree_parts c_otherSheet_bond_terms c_otherSheet_penceByUps c_otherSheet_pence c_otherSheet_turned c_otherSheet_called c_otherSheet_hold c_otherSheet_value c_otherSheet_marks c_otherSheet_act c_otherSheet_rowOfKey c_draws_x c_text_coder c_text_maybeLatin1 c_text_count c_text_value_n c_text_value)) (va_runV (As := [.int p3]) (rest := []) ⟨hx, hb, hml, hown, hts⟩ (tX6_append l dC dI dA (fun i => ad (i + 1)) H.size v15) (ccX8_X6_append hts ⟨Nat.le_of_ble_eq_true rfl, Nat.le_of_ble_eq_true rfl⟩) (gPreV (ci := 6) (q0 := 0) (psub z16 hP) hK (psubD z16 hD) rfl rfl) rfl rfl hl.1 rfl (lv_room (Nat.le_of_ble_eq_true rfl)) dX8_feed_39 ⟨Nat.le_of_ble_eq_true rfl, Nat.le_of_ble_eq_true rfl⟩) hP hD hS hA z16 (sg1 (s0 := ((wX8 dA ad c_keptCount c_tape_size_9 c_tape_length c_tape_place c_tape_fault c_tape_faultPlace c_tape_begin c_tape_bytes_10 c_tape_draft_terms c_now_row c_now_tree_parts c_now_bonds0_terms c_now_bonds1_terms c_now_bonds2_terms c_now_hand_opened c_now_hand_over c_now_hand_row c_now_hand_paid c_now_hand_regret c_now_hand_tree_parts c_now_hand_bond_terms c_kept c_sheet_tree_parts c_sheet_bond_terms c_sheet_penceByUps c_sheet_pence c_sheet_turned c_sheet_called c_sheet_hold c_sheet_value c_sheet_marks c_sheet_act c_sheet_rowOfKey c_otherSheet_tree_parts c_otherSheet_bond_terms c_otherSheet_penceByUps c_otherSheet_pence c_otherSheet_turned c_otherSheet_called c_otherSheet_hold c_otherSheet_value c_otherSheet_marks c_otherSheet_act c_otherSheet_rowOfKey c_draws_x c_text_coder c_text_maybeLatin1 c_text_count c_text_value_n c_text_value)).take 1) (s1 := ((wX8 dA ad c_keptCount c_tape_size_9 c_tape_length c_tape_place c_tape_fault c_tape_faultPlace c_tape_begin c_tape_bytes_10 c_tape_draft_terms c_now_row c_now_tree_parts c_now_bonds0_terms c_now_bonds1_terms c_now_bonds2_terms c_now_hand_opened c_now_hand_over c_now_hand_row c_now_hand_paid c_now_hand_regret c_now_hand_tree_parts c_now_hand_bond_terms c_kept c_sheet_tree_parts c_sheet_bond_terms c_sheet_penceByUps c_sheet_pence c_sheet_turned c_sheet_called c_sheet_hold c_sheet_value c_sheet_marks c_sheet_act c_sheet_rowOfKey c_otherSheet_tree_parts c_otherSheet_bond_terms c_otherSheet_penceByUps c_otherSheet_pence c_otherSheet_turned c_otherSheet_called c_otherSheet_hold c_otherSheet_value c_otherSheet_marks c_otherSheet_act c_otherSheet_rowOfKey c_draws_x c_text_coder c_text_maybeLatin1 c_text_count c_text_value_n c_text_value)).drop 5) (x1 := (wX6 dA (fun i => ad (i + 1)) c_tape_size_13 c_tape_length c_tape_place c_tape_fault c_tape_faultPlace c_tape_begin c_tape_bytes_14 c_tape_draft_terms)) rfl) (fun H locs hP hD hS => ?_)
    refine lv_aload_n hx hb dX8_feed_42 rfl (lv_at hl 0 rfl) ?_
    refine va_get (D := (dC, dI)) (ci := 8) (v := .ref (ad 1)) (C := RX8) (T := TX8) (N := 8) hx hb hts (fun w h => gw_mem (inX8 w h)) hown hK.1 hP 0 rfl rfl 0 (by decide) (hts _ (gw_mem wfX8_12)) (fun _ h9 => h9) rfl dX8_feed_43 ?_
    refine lv_iload hx hb dX8_feed_46 (lv_at hl 4 rfl) ?_
    obtain ⟨c_tape_size_17, c_tape_bytes_18, v19, hf⟩ := bd2_some hf
    have z20 := sg1 (ws := (wX8 dA ad c_keptCount c_tape_size_13 c_tape_length c_tape_place c_tape_fault c_tape_faultPlace c_tape_begin c_tape_bytes_14 c_tape_draft_terms c_now_row c_now_tree_parts c_now_bonds0_terms c_now_bonds1_terms c_now_bonds2_terms c_now_hand_opened c_now_hand_over c_now_hand_row c_now_hand_paid c_now_hand_regret c_now_hand_tree_parts c_now_hand_bond_terms c_kept c_sheet_tree_parts c_sheet_bond_terms c_sheet_penceByUps c_sheet_pence c_sheet_turned c_sheet_called c_sheet_hold c_sheet_value c_sheet_marks c_sheet_act c_sheet_rowOfKey c_otherSheet_tree_parts c_otherSheet_bond_terms c_otherSheet_penceByUps c_otherSheet_pence c_otherSheet_turned c_otherSheet_called c_otherSheet_hold c_otherSheet_value c_otherSheet_marks c_otherSheet_act c_otherSheet_rowOfKey c_draws_x c_text_coder c_text_maybeLatin1 c_text_count c_text_value_n c_text_value)) (s0 := ((wX8 dA ad c_keptCount c_tape_size_13 c_tape_length c_tape_place c_tape_fault c_tape_faultPlace c_tape_begin c_tape_bytes_14 c_tape_draft_terms c_now_row c_now_tree_parts c_now_bonds0_terms c_now_bonds1_terms c_now_bonds2_terms c_now_hand_opened c_now_hand_over c_now_hand_row c_now_hand_paid c_now_hand_regret c_now_hand_tree_parts c_now_hand_bond_terms c_kept c_sheet_tree_parts c_sheet_bond_terms c_sheet_penceByUps c_sheet_pence c_sheet_turned c_sheet_called c_sheet_hold c_sheet_value c_sheet_marks c_sheet_act c_sheet_rowOfKey c_otherSheet_tree_parts c_otherSheet_bond_terms c_otherSheet_penceByUps c_otherSheet_pence c_otherSheet_turned c_otherSheet_called c_otherSheet_hold c_otherSheet_value c_otherSheet_marks c_otherSheet_act c_otherSheet_rowOfKey c_draws_x c_text_coder c_text_maybeLatin1 c_text_count c_text_value_n c_text_value)).take 1) (s1 := ((wX8 dA ad c_keptCount c_tape_size_13 c_tape_length c_tape_place c_tape_fault c_tape_faultPlace c_tape_begin c_tape_bytes_14 c_tape_draft_terms c_now_row c_now_tree_parts c_now_bonds0_terms c_now_bonds1_terms c_now_bonds2_terms c_now_hand_opened c_now_hand_over c_now_hand_row c_now_hand_paid c_now_hand_regret c_now_hand_tree_parts c_now_hand_bond_terms c_kept c_sheet_tree_parts c_sheet_bond_terms c_sheet_penceByUps c_sheet_pence c_sheet_turned c_sheet_called c_sheet_hold c_sheet_value c_sheet_marks c_sheet_act c_sheet_rowOfKey c_otherSheet_tree_parts c_otherSheet_bond_terms c_otherSheet_penceByUps c_otherSheet_pence c_otherSheet_turned c_otherSheet_called c_otherSheet_hold c_otherSheet_value c_otherSheet_marks c_otherSheet_act c_otherSheet_rowOfKey c_draws_x c_text_coder c_text_maybeLatin1 c_text_count c_text_value_n c_text_value)).drop 5) (x1 := (wX6 dA (fun i => ad (i + 1)) c_tape_size_13 c_tape_length c_tape_place c_tape_fault c_tape_faultPlace c_tape_begin c_tape_bytes_14 c_tape_draft_terms)) rfl
    refine gpv (wf := (wX8 dA ad c_keptCount c_tape_size_17 c_tape_length c_tape_place c_tape_fault c_tape_faultPlace c_tape_begin c_tape_bytes_18 c_tape_draft_terms c_now_row c_now_tree_parts c_now_bonds0_terms c_now_bonds1_terms c_now_bonds2_terms c_now_hand_opened c_now_hand_over c_now_hand_row c_now_hand_paid c_now_hand_regret c_now_hand_tree_parts c_now_hand_bond_terms c_kept c_sheet_tree_parts c_sheet_bond_terms c_sheet_penceByUps c_sheet_pence c_sheet_turned c_sheet_called c_sheet_hold c_sheet_value c_sheet_marks c_sheet_act c_sheet_rowOfKey c_otherSheet_tree_parts c_otherSheet_bond_terms c_otherSheet_penceByUps c_otherSheet_pence c_otherSheet_turned c_otherSheet_called c_otherSheet_hold c_otherSheet_value c_otherSheet_marks c_otherSheet_act c_otherSheet_rowOfKey c_draws_x c_text_coder c_text_maybeLatin1 c_text_count c_text_value_n c_text_value)) (va_runV (As := [.int p4]) (rest := []) ⟨hx, hb, hml, hown, hts⟩ (tX6_append l dC dI dA (fun i => ad (i + 1)) H.size v19) (ccX8_X6_append hts ⟨Nat.le_of_ble_eq_true rfl, Nat.le_of_ble_eq_true rfl⟩) (gPreV (ci := 6) (q0 := 0) (psub z20 hP) hK (psubD z20 hD) rfl rfl) rfl rfl hl.1 rfl (lv_room (Nat.le_of_ble_eq_true rfl)) dX8_feed_48 ⟨Nat.le_of_ble_eq_true rfl, Nat.le_of_ble_eq_true rfl⟩) hP hD hS hA z20 (sg1 (s0 := ((wX8 dA ad c_keptCount c_tape_size_13 c_tape_length c_tape_place c_tape_fault c_tape_faultPlace c_tape_begin c_tape_bytes_14 c_tape_draft_terms c_now_row c_now_tree_parts c_now_bonds0_terms c_now_bonds1_terms c_now_bonds2_terms c_now_hand_opened c_now_hand_over c_now_hand_row c_now_hand_paid c_now_hand_regret c_now_hand_tree_parts c_now_hand_bond_terms c_kept c_sheet_tree_parts c_sheet_bond_terms c_sheet_penceByUps c_sheet_pence c_sheet_turned c_sheet_called c_sheet_hold c_sheet_value c_sheet_marks c_sheet_act c_sheet_rowOfKey c_otherSheet_tree_parts c_otherSheet_bond_terms c_otherSheet_penceByUps c_otherSheet_pence c_otherSheet_turned c_otherSheet_called c_otherSheet_hold c_otherSheet_value c_otherSheet_marks c_otherSheet_act c_otherSheet_rowOfKey c_draws_x c_text_coder c_text_maybeLatin1 c_text_count c_text_value_n c_text_value)).take 1) (s1 := ((wX8 dA ad c_keptCount c_tape_size_13 c_tape_length c_tape_place c_tape_fault c_tape_faultPlace c_tape_begin c_tape_bytes_14 c_tape_draft_terms c_now_row c_now_tree_parts c_now_bonds0_terms c_now_bonds1_terms c_now_bonds2_terms c_now_hand_opened c_now_hand_over c_now_hand_row c_now_hand_paid c_now_hand_regret c_now_hand_tree_parts c_now_hand_bond_terms c_kept c_sheet_tree_parts c_sheet_bond_terms c_sheet_penceByUps c_sheet_pence c_sheet_turned c_sheet_called c_sheet_hold c_sheet_value c_sheet_marks c_sheet_act c_sheet_rowOfKey c_otherSheet_tree_parts c_otherSheet_bond_terms c_otherSheet_penceByUps c_otherSheet_pence c_otherSheet_turned c_otherSheet_called c_otherSheet_hold c_otherSheet_value c_otherSheet_marks c_otherSheet_act c_otherSheet_rowOfKey c_draws_x c_text_coder c_text_maybeLatin1 c_text_count c_text_value_n c_text_value)).drop 5) (x1 := (wX6 dA (fun i => ad (i + 1)) c_tape_size_17 c_tape_length c_tape_place c_tape_fault c_tape_faultPlace c_tape_begin c_tape_bytes_18 c_tape_draft_terms)) rfl) (fun H locs hP hD hS => ?_)
    refine lv_aload_n hx hb dX8_feed_51 rfl (lv_at hl 0 rfl) ?_
    refine va_get (D := (dC, dI)) (ci := 8) (v := .ref (ad 1)) (C := RX8) (T := TX8) (N := 8) hx hb hts (fun w h => gw_mem (inX8 w h)) hown hK.1 hP 0 rfl rfl 0 (by decide) (hts _ (gw_mem wfX8_12)) (fun _ h9 => h9) rfl dX8_feed_52 ?_
    refine lv_iload hx hb dX8_feed_55 (lv_at hl 5 rfl) ?_
    obtain ⟨c_tape_size_21, c_tape_bytes_22, v23, hf⟩ := bd2_some hf
    have z24 := sg1 (ws := (wX8 dA ad c_keptCount c_tape_size_17 c_tape_length c_tape_place c_tape_fault c_tape_faultPlace c_tape_begin c_tape_bytes_18 c_tape_draft_terms c_now_row c_now_tree_parts c_now_bonds0_terms c_now_bonds1_terms c_now_bonds2_terms c_now_hand_opened c_now_hand_over c_now_hand_row c_now_hand_paid c_now_hand_regret c_now_hand_tree_parts c_now_hand_bond_terms c_kept c_sheet_tree_parts c_sheet_bond_terms c_sheet_penceByUps c_sheet_pence c_sheet_turned c_sheet_called c_sheet_hold c_sheet_value c_sheet_marks c_sheet_act c_sheet_rowOfKey c_otherSheet_tree_parts c_otherSheet_bond_terms c_otherSheet_penceByUps c_otherSheet_pence c_otherSheet_turned c_otherSheet_called c_otherSheet_hold c_otherSheet_value c_otherSheet_marks c_otherSheet_act c_otherSheet_rowOfKey c_draws_x c_text_coder c_text_maybeLatin1 c_text_count c_text_value_n c_text_value)) (s0 := ((wX8 dA ad c_keptCount c_tape_size_17 c_tape_length c_tape_place c_tape_fault c_tape_faultPlace c_tape_begin c_tape_bytes_18 c_tape_draft_terms c_now_row c_now_tree_parts c_now_bonds0_terms c_now_bonds1_terms c_now_bonds2_terms c_now_hand_opened c_now_hand_over c_now_hand_row c_now_hand_paid c_now_hand_regret c_now_hand_tree_parts c_now_hand_bond_terms c_kept c_sheet_tree_parts c_sheet_bond_terms c_sheet_penceByUps c_sheet_pence c_sheet_turned c_sheet_called c_sheet_hold c_sheet_value c_sheet_marks c_sheet_act c_sheet_rowOfKey c_otherSheet_tree_parts c_otherSheet_bond_terms c_otherSheet_penceByUps c_otherSheet_pence c_otherSheet_turned c_otherSheet_called c_otherSheet_hold c_otherSheet_value c_otherSheet_marks c_otherSheet_act c_otherSheet_rowOfKey c_draws_x c_text_coder c_text_maybeLatin1 c_text_count c_text_value_n c_text_value)).take 1) (s1 := ((wX8 dA ad c_keptCount c_tape_size_17 c_tape_length c_tape_place c_tape_fault c_tape_faultPlace c_tape_begin c_tape_bytes_18 c_tape_draft_terms c_now_row c_now_tree_parts c_now_bonds0_terms c_now_bonds1_terms c_now_bonds2_terms c_now_hand_opened c_now_hand_over c_now_hand_row c_now_hand_paid c_now_hand_regret c_now_hand_tree_parts c_now_hand_bond_terms c_kept c_sheet_tree_parts c_sheet_bond_terms c_sheet_penceByUps c_sheet_pence c_sheet_turned c_sheet_called c_sheet_hold c_sheet_value c_sheet_marks c_sheet_act c_sheet_rowOfKey c_otherSheet_tree_parts c_otherSheet_bond_terms c_otherSheet_penceByUps c_otherSheet_pence c_otherSheet_turned c_otherSheet_called c_otherSheet_hold c_otherSheet_value c_otherSheet_marks c_otherSheet_act c_otherSheet_rowOfKey c_draws_x c_text_coder c_text_maybeLatin1 c_text_count c_text_value_n c_text_value)).drop 5) (x1 := (wX6 dA (fun i => ad (i + 1)) c_tape_size_17 c_tape_length c_tape_place c_tape_fault c_tape_faultPlace c_tape_begin c_tape_bytes_18 c_tape_draft_terms)) rfl
    refine gpv (wf := (wX8 dA ad c_keptCount c_tape_size_21 c_tape_length c_tape_place c_tape_fault c_tape_faultPlace c_tape_begin c_tape_bytes_22 c_tape_draft_terms c_now_row c_now_tree_parts c_now_bonds0_terms c_now_bonds1_terms c_now_bonds2_terms c_now_hand_opened c_now_hand_over c_now_hand_row c_now_hand_paid c_now_hand_regret c_now_hand_tree_parts c_now_hand_bond_terms c_kept c_sheet_tree_parts c_sheet_bond_terms c_sheet_penceByUps c_sheet_pence c_sheet_turned c_sheet_called c_sheet_hold c_sheet_value c_sheet_marks c_sheet_act c_sheet_rowOfKey c_otherSheet_tree_parts c_otherSheet_bond_terms c_otherSheet_penceByUps c_otherSheet_pence c_otherSheet_turned c_otherSheet_called c_otherSheet_hold c_otherSheet_value c_otherSheet_marks c_otherSheet_act c_otherSheet_rowOfKey c_draws_x c_text_coder c_text_maybeLatin1 c_text_count c_text_value_n c_text_value)) (va_runV (As := [.int p5]) (rest := []) ⟨hx, hb, hml, hown, hts⟩ (tX6_append l dC dI dA (fun i => ad (i + 1)) H.size v23) (ccX8_X6_append hts ⟨Nat.le_of_ble_eq_true rfl, Nat.le_of_ble_eq_true rfl⟩) (gPreV (ci := 6) (q0 := 0) (psub z24 hP) hK (psubD z24 hD) rfl rfl) rfl rfl hl.1 rfl (lv_room (Nat.le_of_ble_eq_true rfl)) dX8_feed_57 ⟨Nat.le_of_ble_eq_true rfl, Nat.le_of_ble_eq_true rfl⟩) hP hD hS hA z24 (sg1 (s0 := ((wX8 dA ad c_keptCount c_tape_size_17 c_tape_length c_tape_place c_tape_fault c_tape_faultPlace c_tape_begin c_tape_bytes_18 c_tape_draft_terms c_now_row c_now_tree_parts c_now_bonds0_terms c_now_bonds1_terms c_now_bonds2_terms c_now_hand_opened c_now_hand_over c_now_hand_row c_now_hand_paid c_now_hand_regret c_now_hand_tree_parts c_now_hand_bond_terms c_kept c_sheet_tree_parts c_sheet_bond_terms c_sheet_penceByUps c_sheet_pence c_sheet_turned c_sheet_called c_sheet_hold c_sheet_value c_sheet_marks c_sheet_act c_sheet_rowOfKey c_otherSheet_tree_parts c_otherSheet_bond_terms c_otherSheet_penceByUps c_otherSheet_pence c_otherSheet_turned c_otherSheet_called c_otherSheet_hold c_otherSheet_value c_otherSheet_marks c_otherSheet_act c_otherSheet_rowOfKey c_draws_x c_text_coder c_text_maybeLatin1 c_text_count c_text_value_n c_text_value)).take 1) (s1 := ((wX8 dA ad c_keptCount c_tape_size_17 c_tape_length c_tape_place c_tape_fault c_tape_faultPlace c_tape_begin c_tape_bytes_18 c_tape_draft_terms c_now_row c_now_tree_parts c_now_bonds0_terms c_now_bonds1_terms c_now_bonds2_terms c_now_hand_opened c_now_hand_over c_now_hand_row c_now_hand_paid c_now_hand_regret c_now_hand_tree_parts c_now_hand_bond_terms c_kept c_sheet_tree_parts c_sheet_bond_terms c_sheet_penceByUps c_sheet_pence c_sheet_turned c_sheet_called c_sheet_hold c_sheet_value c_sheet_marks c_sheet_act c_sheet_rowOfKey c_otherSheet_tree_parts c_otherSheet_bond_terms c_otherSheet_penceByUps c_otherSheet_pence c_otherSheet_turned c_otherSheet_called c_otherSheet_hold c_otherSheet_value c_otherSheet_marks c_otherSheet_act c_otherSheet_rowOfKey c_draws_x c_text_coder c_text_maybeLatin1 c_text_count c_text_value_n c_text_value)).drop 5) (x1 := (wX6 dA (fun i => ad (i + 1)) c_tape_size_21 c_tape_length c_tape_place c_tape_fault c_tape_faultPlace c_tape_begin c_tape_bytes_22 c_tape_draft_terms)) rfl) (fun H locs hP hD hS => ?_)
    refine lv_aload_n hx hb dX8_feed_60 rfl (lv_at hl 0 rfl) ?_
    refine va_get (D := (dC, dI)) (ci := 8) (v := .ref (ad 1)) (C := RX8) (T := TX8) (N := 8) hx hb hts (fun w h => gw_mem (inX8 w h)) hown hK.1 hP 0 rfl rfl 0 (by decide) (hts _ (gw_mem wfX8_12)) (fun _ h9 => h9) rfl dX8_feed_61 ?_
    obtain ⟨r25, v26, hf⟩ := bd1_some hf
    have z27 := sg1 (ws := (wX8 dA ad c_keptCount c_tape_size_21 c_tape_length c_tape_place c_tape_fault c_tape_faultPlace c_tape_begin c_tape_bytes_22 c_tape_draft_terms c_now_row c_now_tree_parts c_now_bonds0_terms c_now_bonds1_terms c_now_bonds2_terms c_now_hand_opened c_now_hand_over c_now_hand_row c_now_hand_paid c_now_hand_regret c_now_hand_tree_parts c_now_hand_bond_terms c_kept c_sheet_tree_parts c_sheet_bond_terms c_sheet_penceByUps c_sheet_pence c_sheet_turned c_sheet_called c_sheet_hold c_sheet_value c_sheet_marks c_sheet_act c_sheet_rowOfKey c_otherSheet_tree_parts c_otherSheet_bond_terms c_otherSheet_penceByUps c_otherSheet_pence c_otherSheet_turned c_otherSheet_called c_otherSheet_hold c_otherSheet_value c_otherSheet_marks c_otherSheet_act c_otherSheet_rowOfKey c_draws_x c_text_coder c_text_maybeLatin1 c_text_count c_text_value_n c_text_value)) (s0 := ((wX8 dA ad c_keptCount c_tape_size_21 c_tape_length c_tape_place c_tape_fault c_tape_faultPlace c_tape_begin c_tape_bytes_22 c_tape_draft_terms c_now_row c_now_tree_parts c_now_bonds0_terms c_now_bonds1_terms c_now_bonds2_terms c_now_hand_opened c_now_hand_over c_now_hand_row c_now_hand_paid c_now_hand_regret c_now_hand_tree_parts c_now_hand_bond_terms c_kept c_sheet_tree_parts c_sheet_bond_terms c_sheet_penceByUps c_sheet_pence c_sheet_turned c_sheet_called c_sheet_hold c_sheet_value c_sheet_marks c_sheet_act c_sheet_rowOfKey c_otherSheet_tree_parts c_otherSheet_bond_terms c_otherSheet_penceByUps c_otherSheet_pence c_otherSheet_turned c_otherSheet_called c_otherSheet_hold c_otherSheet_value c_otherSheet_marks c_otherSheet_act c_otherSheet_rowOfKey c_draws_x c_text_coder c_text_maybeLatin1 c_text_count c_text_value_n c_text_value)).take 1) (s1 := ((wX8 dA ad c_keptCount c_tape_size_21 c_tape_length c_tape_place c_tape_fault c_tape_faultPlace c_tape_begin c_tape_bytes_22 c_tape_draft_terms c_now_row c_now_tree_parts c_now_bonds0_terms c_now_bonds1_terms c_now_bonds2_terms c_now_hand_opened c_now_hand_over c_now_hand_row c_now_hand_paid c_now_hand_regret c_now_hand_tree_parts c_now_hand_bond_terms c_kept c_sheet_tree_parts c_sheet_bond_terms c_sheet_penceByUps c_sheet_pence c_sheet_turned c_sheet_called c_sheet_hold c_sheet_value c_sheet_marks c_sheet_act c_sheet_rowOfKey c_otherSheet_tree_parts c_otherSheet_bond_terms c_otherSheet_penceByUps c_otherSheet_pence c_otherSheet_turned c_otherSheet_called c_otherSheet_hold c_otherSheet_value c_otherSheet_marks c_otherSheet_act c_otherSheet_rowOfKey c_draws_x c_text_coder c_text_maybeLatin1 c_text_count c_text_value_n c_text_value)).drop 5) (x1 := (wX6 dA (fun i => ad (i + 1)) c_tape_size_21 c_tape_length c_tape_place c_tape_fault c_tape_faultPlace c_tape_begin c_tape_bytes_22 c_tape_draft_terms)) rfl
    refine gpi (wf := (wX8 dA ad c_keptCount c_tape_size_21 c_tape_length c_tape_place c_tape_fault c_tape_faultPlace c_tape_begin c_tape_bytes_22 c_tape_draft_terms c_now_row c_now_tree_parts c_now_bonds0_terms c_now_bonds1_terms c_now_bonds2_terms c_now_hand_opened c_now_hand_over c_now_hand_row c_now_hand_paid c_now_hand_regret c_now_hand_tree_parts c_now_hand_bond_terms c_kept c_sheet_tree_parts c_sheet_bond_terms c_sheet_penceByUps c_sheet_pence c_sheet_turned c_sheet_called c_sheet_hold c_sheet_value c_sheet_marks c_sheet_act c_sheet_rowOfKey c_otherSheet_tree_parts c_otherSheet_bond_terms c_otherSheet_penceByUps c_otherSheet_pence c_otherSheet_turned c_otherSheet_called c_otherSheet_hold c_otherSheet_value c_otherSheet_marks c_otherSheet_act c_otherSheet_rowOfKey c_draws_x c_text_coder c_text_maybeLatin1 c_text_count c_text_value_n c_text_value)) (va_runV (As := []) (rest := []) ⟨hx, hb, hml, hown, hts⟩ (tX6_size l dC dI dA (fun i => ad (i + 1)) H.size v26) (ccX8_X6_size hts ⟨Nat.le_of_ble_eq_true rfl, Nat.le_of_ble_eq_true rfl⟩) (gPreV (ci := 6) (q0 := 0) (psub z27 hP) hK (psubD z27 hD) rfl rfl) rfl rfl hl.1 rfl (lv_room (Nat.le_of_ble_eq_true rfl)) dX8_feed_64 ⟨Nat.le_of_ble_eq_true rfl, Nat.le_of_ble_eq_true rfl⟩) hP hD hS hA z27 (sg1 (s0 := ((wX8 dA ad c_keptCount c_tape_size_21 c_tape_length c_tape_place c_tape_fault c_tape_faultPlace c_tape_begin c_tape_bytes_22 c_tape_draft_terms c_now_row c_now_tree_parts c_now_bonds0_terms c_now_bonds1_terms c_now_bonds2_terms c_now_hand_opened c_now_hand_over c_now_hand_row c_now_hand_paid c_now_hand_regret c_now_hand_tree_parts c_now_hand_bond_terms c_kept c_sheet_tree_parts c_sheet_bond_terms c_sheet_penceByUps c_sheet_pence c_sheet_turned c_sheet_called c_sheet_hold c_sheet_value c_sheet_marks c_sheet_act c_sheet_rowOfKey c_otherSheet_tree_parts c_otherSheet_bond_terms c_otherSheet_penceByUps c_otherSheet_pence c_otherSheet_turned c_otherSheet_called c_otherSheet_hold c_otherSheet_value c_otherSheet_marks c_otherSheet_act c_otherSheet_rowOfKey c_draws_x c_text_coder c_text_maybeLatin1 c_text_count c_text_value_n c_text_value)).take 1) (s1 := ((wX8 dA ad c_keptCount c_tape_size_21 c_tape_length c_tape_place c_tape_fault c_tape_faultPlace c_tape_begin c_tape_bytes_22 c_tape_draft_terms c_now_row c_now_tree_parts c_now_bonds0_terms c_now_bonds1_terms c_now_bonds2_terms c_now_hand_opened c_now_hand_over c_now_hand_row c_now_hand_paid c_now_hand_regret c_now_hand_tree_parts c_now_hand_bond_terms c_kept c_sheet_tree_parts c_sheet_bond_terms c_sheet_penceByUps c_sheet_pence c_sheet_turned c_sheet_called c_sheet_hold c_sheet_value c_sheet_marks c_sheet_act c_sheet_rowOfKey c_otherSheet_tree_parts c_otherSheet_bond_terms c_otherSheet_penceByUps c_otherSheet_pence c_otherSheet_turned c_otherSheet_called c_otherSheet_hold c_otherSheet_value c_otherSheet_marks c_otherSheet_act c_otherSheet_rowOfKey c_draws_x c_text_coder c_text_maybeLatin1 c_text_count c_text_value_n c_text_value)).drop 5) (x1 := (wX6 dA (fun i => ad (i + 1)) c_tape_size_21 c_tape_length c_tape_place c_tape_fault c_tape_faultPlace c_tape_begin c_tape_bytes_22 c_tape_draft_terms)) rfl) (fun H locs hP hD hS => ?_)
    cases hf
    exact W.iret hx hb hr (fun t ht _ => gqi hP hD hS ht) hS.2.2 dX8_feed_67
  · replace hf := ifn k4 hf
    refine lv_iconst (v := (-1)) hx hb dX8_feed_16 (by decide) ?_
    cases hf
    exact W.iret hx hb hr (fun t ht _ => gqi hP hD hS ht) hS.2.2 dX8_feed_17
