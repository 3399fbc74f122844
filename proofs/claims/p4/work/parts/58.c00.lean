abbrev rmX8_within : Room := { frames := 0, cells := 0, slots := 0, locals := 0 }
set_option maxHeartbeats 4000000 in
set_option maxRecDepth 100000 in
theorem tX8_within (l : Launch) (dC : Nat → ClassId) (dI : Nat → Nat → Nat) (dA : Nat → ClassId) (sz : Nat) {p0 : Int32} {p1 : Int32} {p2 : Int32} {r : Int32} (hf : fX8_within p0 p1 p2 = some (r)) : Met l yX8_within (wq (Cond.code yX8_within cX8_within 3 (some .boolean))) rmX8_within (gP [.int p0, .int p1, .int p2] (dC, dI) dA [] sz) (gQi (dC, dI) r [] (va_A [] sz)) 0 0 (va_A [] sz) := by
  refine Met.ofW (cc := cX8_within) (maxL := 3) (ret := (some .boolean)) (by decide) rfl ?_
  intro p e s m args below meth c s₁ B hml hv
  obtain ⟨rfl, hsz, hP, hK, hD0⟩ := hv
  have hx := B.exec
  have hb := B.bytes
  have hr := B.returns
  have hts := atoms_spec (ws := wq (Cond.code yX8_within cX8_within 3 (some .boolean))) B.pre
  have hown : s.vm.findClass RX8 = some m.cls := findClass_of_methodNamed B.named
  have hlocks := B.notSynchronized
  clear B
  subst hsz
  have hD := hD0.self (sz := s.heap.size)
  generalize hAe : va_A [] s.heap.size = A at hD ⊢
  have hA : ∀ q : Nat, s.heap.size ≤ q → A q := fun q h => by rw [← hAe]; exact Or.inr h
  clear hAe hD0
  have hS : va_S A s.heap s.heap [] := va_S.rf
  have hl := lv_entry ([.int p0, .int p1, .int p2]) (n := 3) (Nat.le_of_ble_eq_true rfl)
  rw [lg_entry_eq]
  generalize (lg_sl ([.int p0, .int p1, .int p2]) ++ List.replicate (3 - (lg_sl ([.int p0, .int p1, .int p2])).length) Slot.unset).toArray = ls at hl ⊢
  have hl : lv_has ls 3 [(0, .int p0), (1, .int p1), (2, .int p2)] := hl
  change W p l e rmX8_within s m ([.int p0, .int p1, .int p2] : List Value).toArray below meth c s.heap [] 0 0 _ _
  unfold fX8_within at hf
  refine lv_iload_n hx hb dX8_within_0 rfl (lv_at hl 1 rfl) ?_
  refine lv_iload_n hx hb dX8_within_1 rfl (lv_at hl 0 rfl) ?_
  obtain ⟨j2, v4, hf⟩ := bd1_some hf
  have J3 : ∀ (H : Heap) (locs : List Loc) (ls : Array Slot), va_P (dC, dI) vwCl [] H → va_D A [] → va_S A s.heap H locs → lv_has ls 3 [] → W p l e rmX8_within s m ([.int p0, .int p1, .int p2] : List Value).toArray below meth c H locs 0 0 (MQ below (gQi (dC, dI) r [] A) ([.int p0, .int p1, .int p2] : List Value).toArray s 0 0 A) (F0 m 15 ls [.int j2]) := by
    intro H locs ls hP hD hS hl
    obtain ⟨h5, hf⟩ := og_some hf
    cases hf
    exact W.zret (ty := .boolean) hx hb hr (boB_nar h5) (fun t ht _ => gqi hP hD hS ht) hS.2.2 dX8_within_15
  replace hf := v4
  clear v4
  refine lv_icmp_gt (tgt := 14) hx hb dX8_within_2 (by decide) (fun k1 => ?_) (fun k1 => ?_)
  · replace hf := ifp k1 hf
    refine lv_iconst (v := 0) hx hb dX8_within_14 (by decide) ?_
    cases hf
    exact J3 _ _ _ hP hD hS (lv_sub hl [] rfl)
  · replace hf := ifn k1 hf
    refine lv_iload_n hx hb dX8_within_5 rfl (lv_at hl 0 rfl) ?_
    refine lv_iload_n hx hb dX8_within_6 rfl (lv_at hl 2 rfl) ?_
    refine lv_icmp_gt (tgt := 14) hx hb dX8_within_7 (by decide) (fun k6 => ?_) (fun k6 => ?_)
    · replace hf := ifp k6 hf
      refine lv_iconst (v := 0) hx hb dX8_within_14 (by decide) ?_
      cases hf
      exact J3 _ _ _ hP hD hS (lv_sub hl [] rfl)
    · replace hf := ifn k6 hf
      refine lv_iconst (v := 1) hx hb dX8_within_10 (by decide) ?_
      refine lv_goto (tgt := 15) hx hb dX8_within_11 (by decide) ?_
      cases hf
      exact J3 _ _ _ hP hD hS (lv_sub hl [] rfl)
theorem ccX7_X8_within {R : Room} {s : State} {args : Array Value} {c0 : Cond} (hN : gN s) (ht : ∀ w ∈ wq c0, w.before args s = true) (hR : rmX8_within.frames + 1 ≤ R.frames ∧ 8 + (3 + 11) + rmX8_within.locals ≤ R.locals) : va_CN R s args RX7 15 yX8_within RX8 cX8_within 3 (some .boolean) (wq (.code yX8_within cX8_within 3 (some .boolean))) rmX8_within 0 0 3 ∧ (Cond.static yX8_within).before args s = true ∧ True := gCSN 3 hN ht wcX8_within wmX7_15 wtX8_within wnX8 (by decide +kernel) rfl rfl hR
abbrev rmX7_get : Room := { frames := 1, cells := 0, slots := 0, locals := 22 }
set_option maxHeartbeats 4000000 in
set_option maxRecDepth 100000 in
theorem tX7_get (l : Launch) (dC : Nat → ClassId) (dI : Nat → Nat → Nat) (dA : Nat → ClassId) (ad : Nat → Nat) (sz : Nat) {p1 : Int32} {c_parts : Nat → Int32} {r : Int32} (hf : fX7_get p1 c_parts = some (r)) : Met l yX7_get (wq (Cond.code yX7_get cX7_get 2 (some .int))) rmX7_get (gP [.ref (ad 0), .int p1] (dC, dI) dA (wX7 dA ad c_parts) sz) (gQi (dC, dI) r (wX7 dA ad c_parts) (va_A (wX7 dA ad c_parts) sz)) 0 0 (va_A (wX7 dA ad c_parts) sz) := by
  refine Met.ofW (cc := cX7_get) (maxL := 2) (ret := (some .int)) (by decide) rfl ?_
  intro p e s m args below meth c s₁ B hml hv
  obtain ⟨rfl, hsz, hP, hK, hD0⟩ := hv
  have hx := B.exec
  have hb := B.bytes
  have hr := B.returns
  have hts := atoms_spec (ws := wq (Cond.code yX7_get cX7_get 2 (some .int))) B.pre
  have hown : s.vm.findClass RX7 = some m.cls := findClass_of_methodNamed B.named
  have hlocks := B.notSynchronized
  clear B
  subst hsz
  have hD := hD0.self (sz := s.heap.size)
  generalize hAe : va_A (wX7 dA ad c_parts) s.heap.size = A at hD ⊢
  have hA : ∀ q : Nat, s.heap.size ≤ q → A q := fun q h => by rw [← hAe]; exact Or.inr h
  clear hAe hD0
  have hS : va_S A s.heap s.heap [] := va_S.rf
  have hl := lv_entry ([.ref (ad 0), .int p1]) (n := 2) (Nat.le_of_ble_eq_true rfl)
  rw [lg_entry_eq]
  generalize (lg_sl ([.ref (ad 0), .int p1]) ++ List.replicate (2 - (lg_sl ([.ref (ad 0), .int p1])).length) Slot.unset).toArray = ls at hl ⊢
  have hl : lv_has ls 2 [(0, .ref (ad 0)), (1, .int p1)] := hl
  change W p l e rmX7_get s m ([.ref (ad 0), .int p1] : List Value).toArray below meth c s.heap [] 0 0 _ _
  unfold fX7_get at hf
  refine lv_iload_n hx hb dX7_get_0 rfl (lv_at hl 1 rfl) ?_
  refine lv_iconst (v := 0) hx hb dX7_get_1 (by decide) ?_
  refine lv_bipush (v := 8) hx hb dX7_get_2 (by decide) ?_
  obtain ⟨r1, v2, hf⟩ := bd1_some hf
  refine gci0 (va_runSN (As := [.int p1, .int 0, .int 8]) (rest := []) ⟨hx, hb, hml, hown, hts⟩ (tX8_within l dC dI dA s.heap.size v2) (ccX7_X8_within hK.2 hts ⟨Nat.le_of_ble_eq_true rfl, Nat.le_of_ble_eq_true rfl⟩) (gPreS0 hK) rfl rfl hl.1 rfl (lv_room (Nat.le_of_ble_eq_true rfl)) dX7_get_4 ⟨Nat.le_of_ble_eq_true rfl, Nat.le_of_ble_eq_true rfl⟩) hP hS hA (fun H locs hP hS => ?_)
  obtain ⟨j4, v6, hf⟩ := bd1_some hf
  have J5 : ∀ (H : Heap) (locs : List Loc) (ls : Array Slot), va_P (dC, dI) vwCl (wX7 dA ad c_parts) H → va_D A (wX7 dA ad c_parts) → va_S A s.heap H locs → lv_has ls 2 [] → W p l e rmX7_get s m ([.ref (ad 0), .int p1] : List Value).toArray below meth c H locs 0 0 (MQ below (gQi (dC, dI) r (wX7 dA ad c_parts) A) ([.ref (ad 0), .int p1] : List Value).toArray s 0 0 A) (F0 m 20 ls [.int j4]) := by
    intro H locs ls hP hD hS hl
    cases hf
    exact W.iret hx hb hr (fun t ht _ => gqi hP hD hS ht) hS.2.2 dX7_get_20
  replace hf := v6
  clear v6
  refine lv_if_eq (tgt := 19) hx hb dX7_get_7 (by decide) (fun k3 => ?_) (fun k3 => ?_)
  · replace hf := ifp k3 hf
    refine lv_iconst (v := (-1)) hx hb dX7_get_19 (by decide) ?_
    cases hf
    exact J5 _ _ _ hP hD hS (lv_sub hl [] rfl)
  · replace hf := ifn k3 hf
    refine lv_aload_n hx hb dX7_get_10 rfl (lv_at hl 0 rfl) ?_
    refine va_get (D := (dC, dI)) (ci := 7) (v := .ref (ad 1)) (C := RX7) (T := TX7) (N := 1) hx hb hts (fun w h => gw_mem (inX7 w h)) hown hK.1 hP 0 rfl rfl 0 (by decide) (hts _ (gw_mem wfX7_9)) (fun _ h9 => h9) rfl dX7_get_11 ?_
    refine lv_iload_n hx hb dX7_get_14 rfl (lv_at hl 1 rfl) ?_
    obtain ⟨h7, hf⟩ := og_some hf
    refine va_iald hx hb hK.1 hP 1 0 rfl rfl (okI_in h7) dX7_get_15 ?_
    refine lv_goto (tgt := 20) hx hb dX7_get_16 (by decide) ?_
    cases hf
    exact J5 _ _ _ hP hD hS (lv_sub hl [] rfl)
abbrev rmX7_set : Room := { frames := 1, cells := 0, slots := 0, locals := 22 }
set_option maxHeartbeats 4000000 in
set_option maxRecDepth 100000 in
theorem tX7_set (l : Launch) (dC : Nat → ClassId) (dI : Nat → Nat → Nat) (dA : Nat → ClassId) (ad : Nat → Nat) (sz : Nat) {p1 : Int32} {p2 : Int32} {c_parts : Nat → Int32} {o_c_parts : Nat → Int32} (hf : fX7_set p1 p2 c_parts = some (o_c_parts)) : Met l yX7_set (wq (Cond.code yX7_set cX7_set 3 none)) rmX7_set (gP [.ref (ad 0), .int p1, .int p2] (dC, dI) dA (wX7 dA ad c_parts) sz) (gQv (dC, dI) (wX7 dA ad o_c_parts) (va_A (wX7 dA ad c_parts) sz)) 0 0 (va_A (wX7 dA ad c_parts) sz) := by
  refine Met.ofW (cc := cX7_set) (maxL := 3) (ret := none) (by decide) rfl ?_
  intro p e s m args below meth c s₁ B hml hv
  obtain ⟨rfl, hsz, hP, hK, hD0⟩ := hv
  have hx := B.exec
  have hb := B.bytes
  have hr := B.returns
  have hts := atoms_spec (ws := wq (Cond.code yX7_set cX7_set 3 none)) B.pre
  have hown : s.vm.findClass RX7 = some m.cls := findClass_of_methodNamed B.named
  have hlocks := B.notSynchronized
  clear B
  subst hsz
  have hD := hD0.self (sz := s.heap.size)
  generalize hAe : va_A (wX7 dA ad c_parts) s.heap.size = A at hD ⊢
  have hA : ∀ q : Nat, s.heap.size ≤ q → A q := fun q h => by rw [← hAe]; exact Or.inr h
  clear hAe hD0
  have hS : va_S A s.heap s.heap [] := va_S.rf
  have hl := lv_entry ([.ref (ad 0), .int p1, .int p2]) (n := 3) (Nat.le_of_ble_eq_true rfl)
  rw [lg_entry_eq]
  generalize (lg_sl ([.ref (ad 0), .int p1, .int p2]) ++ List.replicate (3 - (lg_sl ([.ref (ad 0), .int p1, .int p2])).length) Slot.unset).toArray = ls at hl ⊢
  have hl : lv_has ls 3 [(0, .ref (ad 0)), (1, .int p1), (2, .int p2)] := hl
  change W p l e rmX7_set s m ([.ref (ad 0), .int p1, .int p2] : List Value).toArray below meth c s.heap [] 0 0 _ _
  unfold fX7_set at hf
  refine lv_iload_n hx hb dX7_set_0 rfl (lv_at hl 1 rfl) ?_
  refine lv_iconst (v := 0) hx hb dX7_set_1 (by decide) ?_
  refine lv_bipush (v := 8) hx hb dX7_set_2 (by decide) ?_
  obtain ⟨r1, v2, hf⟩ := bd1_some hf
  refine gci0 (va_runSN (As := [.int p1, .int 0, .int 8]) (rest := []) ⟨hx, hb, hml, hown, hts⟩ (tX8_within l dC dI dA s.heap.size v2) (ccX7_X8_within hK.2 hts ⟨Nat.le_of_ble_eq_true rfl, Nat.le_of_ble_eq_true rfl⟩) (gPreS0 hK) rfl rfl hl.1 rfl (lv_room (Nat.le_of_ble_eq_true rfl)) dX7_set_4 ⟨Nat.le_of_ble_eq_true rfl, Nat.le_of_ble_eq_true rfl⟩) hP hS hA (fun H locs hP hS => ?_)
  obtain ⟨c_parts_4, v6, hf⟩ := bd1_some hf
  have J5 : ∀ (H : Heap) (locs : List Loc) (ls : Array Slot), va_P (dC, dI) vwCl (wX7 dA ad c_parts_4) H → va_D A (wX7 dA ad c_parts_4) → va_S A s.heap H locs → lv_has ls 3 [] → W p l e rmX7_set s m ([.ref (ad 0), .int p1, .int p2] : List Value).toArray below meth c H locs 0 0 (MQ below (gQv (dC, dI) (wX7 dA ad o_c_parts) A) ([.ref (ad 0), .int p1, .int p2] : List Value).toArray s 0 0 A) (F0 m 17 ls []) := by
    intro H locs ls hP hD hS hl
    cases hf
    exact W.vret hx hb hr (fun t ht _ => gqv hP hD hS ht) hS.2.2 dX7_set_17
  replace hf := v6
  clear v6
  refine lv_if_eq (tgt := 17) hx hb dX7_set_7 (by decide) (fun k3 => ?_) (fun k3 => ?_)
  · replace hf := ifp k3 hf
    cases hf
    exact J5 _ _ _ hP hD hS (lv_sub hl [] rfl)
  · replace hf := ifn k3 hf
    refine lv_aload_n hx hb dX7_set_10 rfl (lv_at hl 0 rfl) ?_
    refine va_get (D := (dC, dI)) (ci := 7) (v := .ref (ad 1)) (C := RX7) (T := TX7) (N := 1) hx hb hts (fun w h => gw_mem (inX7 w h)) hown hK.1 hP 0 rfl rfl 0 (by decide) (hts _ (gw_mem wfX7_9)) (fun _ h9 => h9) rfl dX7_set_11 ?_
    refine lv_iload_n hx hb dX7_set_14 rfl (lv_at hl 1 rfl) ?_
    refine lv_iload_n hx hb dX7_set_15 rfl (lv_at hl 2 rfl) ?_
    obtain ⟨h7, hf⟩ := og_some hf
    obtain ⟨w8, ew8⟩ : ∃ y : Nat → Int32, y = upd c_parts (Int32.toNatClampNeg p1) p2 := ⟨_, rfl⟩
    replace hf := nm_at hf ew8
    refine va_iast hx hb hK.1 hP hD hS 1 0 rfl rfl (okI_in h7) dX7_set_16 (fun H locs hP hD hS => ?_)
    have hP : va_P (dC, dI) vwCl (wX7 dA ad w8) H := by rw [ew8]; exact hP
    have hD : va_D A (wX7 dA ad w8) := by rw [ew8]; exact hD
    cases hf
    exact J5 _ _ _ hP hD hS (lv_sub hl [] rfl)
abbrev rmX7_takeFrom : Room := { frames := 1, cells := 0, slots := 0, locals := 60 }
set_option maxHeartbeats 4000000 in
set_option maxRecDepth 100000 in
theorem tX7_takeFrom (l : Launch) (dC : Nat → ClassId) (dI : Nat → Nat → Nat) (dA : Nat → ClassId) (ad : Nat → Nat) (ad1 : Nat → Nat) (sz : Nat) {c_parts : Nat → Int32} {d1_parts : Nat → Int32} {o_c_parts : Nat → Int32} (hf : fX7_takeFrom c_parts d1_parts = some (o_c_parts)) : Met l yX7_takeFrom (wq (Cond.code yX7_takeFrom cX7_takeFrom 2 none)) rmX7_takeFrom (gP [.ref (ad 0), .ref (ad1 0)] (dC, dI) dA ((wX7 dA ad c_parts) ++ (wX7 dA ad1 d1_parts)) sz) (gQv (dC, dI) ((wX7 dA ad o_c_parts) ++ (wX7 dA ad1 d1_parts)) (va_A ((wX7 dA ad c_parts) ++ (wX7 dA ad1 d1_parts)) sz)) 0 0 (va_A ((wX7 dA ad c_parts) ++ (wX7 dA ad1 d1_parts)) sz) := by
  refine Met.ofW (cc := cX7_takeFrom) (maxL := 2) (ret := none) (by decide) rfl ?_
  intro p e s m args below meth c s₁ B hml hv
  obtain ⟨rfl, hsz, hP, hK, hD0⟩ := hv
  have hx := B.exec
  have hb := B.bytes
  have hr := B.returns
  have hts := atoms_spec (ws := wq (Cond.code yX7_takeFrom cX7_takeFrom 2 none)) B.pre
  have hown : s.vm.findClass RX7 = some m.cls := findClass_of_methodNamed B.named
  have hlocks := B.notSynchronized
  clear B
  subst hsz
  have hD := hD0.self (sz := s.heap.size)
  generalize hAe : va_A ((wX7 dA ad c_parts) ++ (wX7 dA ad1 d1_parts)) s.heap.size = A at hD ⊢
  have hA : ∀ q : Nat, s.heap.size ≤ q → A q := fun q h => by rw [← hAe]; exact Or.inr h
  clear hAe hD0
  have hS : va_S A s.heap s.heap [] := va_S.rf
  have hl := lv_entry ([.ref (ad 0), .ref (ad1 0)]) (n := 2) (Nat.le_of_ble_eq_true rfl)
  rw [lg_entry_eq]
  generalize (lg_sl ([.ref (ad 0), .ref (ad1 0)]) ++ List.replicate (2 - (lg_sl ([.ref (ad 0), .ref (ad1 0)])).length) Slot.unset).toArray = ls at hl ⊢
  have hl : lv_has ls 2 [(0, .ref (ad 0)), (1, .ref (ad1 0))] := hl
  change W p l e rmX7_takeFrom s m ([.ref (ad 0), .ref (ad1 0)] : List Value).toArray below meth c s.heap [] 0 0 _ _
  unfold fX7_takeFrom at hf
  refine lv_aload_n hx hb dX7_takeFrom_0 rfl (lv_at hl 1 rfl) ?_
  refine va_get (D := (dC, dI)) (ci := 7) (v := .ref (ad1 1)) (C := RX7) (T := TX7) (N := 1) hx hb hts (fun w h => gw_mem (inX7 w h)) hown hK.1 hP 2 rfl rfl 0 (by decide) (hts _ (gw_mem wfX7_9)) (fun _ h9 => h9) rfl dX7_takeFrom_1 ?_
  refine lv_iconst (v := 0) hx hb dX7_takeFrom_4 (by decide) ?_
  refine lv_aload_n hx hb dX7_takeFrom_5 rfl (lv_at hl 0 rfl) ?_
  refine va_get (D := (dC, dI)) (ci := 7) (v := .ref (ad 1)) (C := RX7) (T := TX7) (N := 1) hx hb hts (fun w h => gw_mem (inX7 w h)) hown hK.1 hP 0 rfl rfl 0 (by decide) (hts _ (gw_mem wfX7_9)) (fun _ h9 => h9) rfl dX7_takeFrom_6 ?_
  refine lv_iconst (v := 0) hx hb dX7_takeFrom_9 (by decide) ?_
  refine lv_bipush (v := 9) hx hb dX7_takeFrom_10 (by decide) ?_
  obtain ⟨w1, ew1⟩ : ∃ y : Nat → Int32, y = va_cpy d1_parts c_parts (Int32.toNatClampNeg 0) (Int32.toNatClampNeg 0) (Int32.toNatClampNeg 9) := ⟨_, rfl⟩
  replace hf := nm_at hf ew1
  refine va_copyi (ty := .int) hx hb (hml.trans hl.1.symm) hown (hts _ (gw_mem wmX7_19)) (hts _ (gw_mem wo_arraycopy)) (hts _ (gw_mem wt_arraycopy)) (hts _ (gw_mem wnJ10)) hK.1 hP hD hS 3 1 0 0 rfl rfl rfl rfl rfl (by decide) (by decide) (by decide) (by decide) (by decide) (fun _ _ => rfl) (Nat.le_of_ble_eq_true rfl) (by decide +kernel) dX7_takeFrom_12 (fun H locs hP hD hS => ?_)
  have hP : va_P (dC, dI) vwCl ((wX7 dA ad w1) ++ (wX7 dA ad1 d1_parts)) H := by rw [ew1]; exact hP
  have hD : va_D A ((wX7 dA ad w1) ++ (wX7 dA ad1 d1_parts)) := by rw [ew1]; exact hD
  cases hf
  exact W.vret hx hb hr (fun t ht _ => gqv hP hD hS ht) hS.2.2 dX7_takeFrom_15
abbrev rmX7_lastDay : Room := { frames := 1, cells := 0, slots := 0, locals := 23 }
set_option maxHeartbeats 4000000 in
set_option maxRecDepth 100000 in
theorem tX7_lastDay (l : Launch) (dC : Nat → ClassId) (dI : Nat → Nat → Nat) (dA : Nat → ClassId) (ad : Nat → Nat) (sz : Nat) {c_parts : Nat → Int32} {r : Int32} (hf : fX7_lastDay c_parts = some (r)) : Met l yX7_lastDay (wq (Cond.code yX7_lastDay cX7_lastDay 1 (some .int))) rmX7_lastDay (gP [.ref (ad 0)] (dC, dI) dA (wX7 dA ad c_parts) sz) (gQi (dC, dI) r (wX7 dA ad c_parts) (va_A (wX7 dA ad c_parts) sz)) 0 0 (va_A (wX7 dA ad c_parts) sz) := by
  refine Met.ofW (cc := cX7_lastDay) (maxL := 1) (ret := (some .int)) (by decide) rfl ?_
  intro p e s m args below meth c s₁ B hml hv
  obtain ⟨rfl, hsz, hP, hK, hD0⟩ := hv
  have hx := B.exec
  have hb := B.bytes
  have hr := B.returns
  have hts := atoms_spec (ws := wq (Cond.code yX7_lastDay cX7_lastDay 1 (some .int))) B.pre
  have hown : s.vm.findClass RX7 = some m.cls := findClass_of_methodNamed B.named
  have hlocks := B.notSynchronized
  clear B
  subst hsz
  have hD := hD0.self (sz := s.heap.size)
  generalize hAe : va_A (wX7 dA ad c_parts) s.heap.size = A at hD ⊢
  have hA : ∀ q : Nat, s.heap.size ≤ q → A q := fun q h => by rw [← hAe]; exact Or.inr h
  clear hAe hD0
  have hS : va_S A s.heap s.heap [] := va_S.rf
  have hl := lv_entry ([.ref (ad 0)]) (n := 1) (Nat.le_of_ble_eq_true rfl)
  rw [lg_entry_eq]
  generalize (lg_sl ([.ref (ad 0)]) ++ List.replicate (1 - (lg_sl ([.ref (ad 0)])).length) Slot.unset).toArray = ls at hl ⊢
  have hl : lv_has ls 1 [(0, .ref (ad 0))] := hl
  change W p l e rmX7_lastDay s m ([.ref (ad 0)] : List Value).toArray below meth c s.heap [] 0 0 _ _
  unfold fX7_lastDay at hf
  refine lv_aload_n hx hb dX7_lastDay_0 rfl (lv_at hl 0 rfl) ?_
  refine va_get (D := (dC, dI)) (ci := 7) (v := .ref (ad 1)) (C := RX7) (T := TX7) (N := 1) hx hb hts (fun w h => gw_mem (inX7 w h)) hown hK.1 hP 0 rfl rfl 0 (by decide) (hts _ (gw_mem wfX7_9)) (fun _ h9 => h9) rfl dX7_lastDay_1 ?_
  refine lv_iconst (v := 0) hx hb dX7_lastDay_4 (by decide) ?_
  refine va_iald hx hb hK.1 hP 1 0 rfl rfl (okI_in (by decide)) dX7_lastDay_5 ?_
  refine lv_bipush (v := 6) hx hb dX7_lastDay_6 (by decide) ?_
  refine va_mmin hx hb (hml.trans hl.1.symm) hown (hts _ (gw_mem wmX7_25)) (hts _ (gw_mem wtJ9_min_7cf53)) (hts _ (gw_mem wnJ9)) (hts _ (gw_mem wcJ9_min_7cf53)) (Nat.le_of_ble_eq_true rfl) (Nat.le_of_ble_eq_true rfl) (Nat.le_of_ble_eq_true rfl) (Nat.le_of_ble_eq_true rfl) dX7_lastDay_8 ?_
  cases hf
  exact W.iret hx hb hr (fun t ht _ => gqi hP hD hS ht) hS.2.2 dX7_lastDay_11
abbrev rmX8_power : Room := { frames := 0, cells := 0, slots := 0, locals := 0 }
set_option maxHeartbeats 4000000 in
set_option maxRecDepth 100000 in
theorem tX8_power (l : Launch) (dC : Nat → ClassId) (dI : Nat → Nat → Nat) (dA : Nat → ClassId) (sz : Nat) {p0 : Int64} {p2 : Int32} {r : Int64} (hf : fX8_power p0 p2 = some (r)) : Met l yX8_power (wq (Cond.code yX8_power cX8_power 6 (some .long))) rmX8_power (gP [.long p0, .int p2] (dC, dI) dA [] sz) (gQl (dC, dI) r [] (va_A [] sz)) 0 0 (va_A [] sz) := by
  refine Met.ofW (cc := cX8_power) (maxL := 6) (ret := (some .long)) (by decide) rfl ?_
  intro p e s m args below meth c s₁ B hml hv
  obtain ⟨rfl, hsz, hP, hK, hD0⟩ := hv
  have hx := B.exec
  have hb := B.bytes
  have hr := B.returns
  have hts := atoms_spec (ws := wq (Cond.code yX8_power cX8_power 6 (some .long))) B.pre
  have hown : s.vm.findClass RX8 = some m.cls := findClass_of_methodNamed B.named
  have hlocks := B.notSynchronized
  clear B
  subst hsz
  have hD := hD0.self (sz := s.heap.size)
  generalize hAe : va_A [] s.heap.size = A at hD ⊢
  have hA : ∀ q : Nat, s.heap.size ≤ q → A q := fun q h => by rw [← hAe]; exact Or.inr h
  clear hAe hD0
  have hS : va_S A s.heap s.heap [] := va_S.rf
  have hl := lv_entry ([.long p0, .int p2]) (n := 6) (Nat.le_of_ble_eq_true rfl)
  rw [lg_entry_eq]
  generalize (lg_sl ([.long p0, .int p2]) ++ List.replicate (6 - (lg_sl ([.long p0, .int p2])).length) Slot.unset).toArray = ls at hl ⊢
  have hl : lv_has ls 6 [(0, .long p0), (2, .int p2)] := hl
  change W p l e rmX8_power s m ([.long p0, .int p2] : List Value).toArray below meth c s.heap [] 0 0 _ _
  generalize hQ : MQ below (gQl (dC, dI) r [] A) ([.long p0, .int p2] : List Value).toArray s 0 0 A = Q
  have LP5 : ∀ (n : Nat) (x0 : Int64) (x2 : Int32) (x3 : Int64) (x5 : Int32) (o3 : Int64) (H : Heap) (locs : List Loc) (ls : Array Slot), va_P (dC, dI) vwCl [] H → va_D A [] → va_S A s.heap H locs → lpX8_power_5 x0 x2 n x3 x5 = some (o3) → lv_has ls 6 [(0, .long x0), (2, .int x2), (3, .long x3), (5, .int x5)] → (∀ (H : Heap) (locs : List Loc) (ls : Array Slot), va_P (dC, dI) vwCl [] H → va_D A [] → va_S A s.heap H locs → lv_has ls 6 [(3, .long o3)] → W p l e rmX8_power s m ([.long p0, .int p2] : List Value).toArray below meth c H locs 0 0 Q (F0 m 21 ls [])) → W p l e rmX8_power s m ([.long p0, .int p2] : List Value).toArray below meth c H locs 0 0 Q (F0 m 5 ls []) := by
    intro n
    induction n with
    | zero =>
      intro x0 x2 x3 x5 o3 H locs ls hP hD hS hf hl hk
      cases hf
    | succ n ih5 =>
      intro x0 x2 x3 x5 o3 H locs ls hP hD hS hf hl hk
      rw [lpX8_power_5.eq_2] at hf
      refine lv_iload hx hb dX8_power_5 (lv_at hl 3 rfl) ?_
      refine lv_iload_n hx hb dX8_power_7 rfl (lv_at hl 1 rfl) ?_
      refine lv_icmp_ge (tgt := 21) hx hb dX8_power_8 (by decide) (fun k3 => ?_) (fun k3 => ?_)
      · replace hf := ifp k3 hf
        cases hf
        exact hk _ _ _ hP hD hS (lv_sub hl [2] rfl)
      · replace hf := ifn k3 hf
        refine lv_lload_n hx hb dX8_power_11 rfl (lv_at hl 2 rfl) ?_
        refine lv_lload_n hx hb dX8_power_12 rfl (lv_at hl 0 rfl) ?_
        refine lv_lmul hx hb dX8_power_13 ?_
        refine lv_topl (fun w4 ew4 => ?_)
        replace hf := nm_at hf ew4
        refine lv_lstore_n (lv' := [(3, .long w4), (0, .long x0), (2, .int x2), (5, .int x5)]) hx hb dX8_power_14 rfl hl (by decide) rfl (fun ls hl => ?_)
        obtain ⟨w5, ew5⟩ : ∃ y : Int32, y = x5 + 1 := ⟨_, rfl⟩
        replace hf := nm_at hf ew5
        refine lv_iinc (v := w5) (lv' := [(5, .int w5), (3, .long w4), (0, .long x0), (2, .int x2)]) hx hb dX8_power_15 hl (k := 3) rfl (by rw [ew5]; rfl) (by decide) rfl (fun ls hl => ?_)
        refine lv_goto (tgt := 5) hx hb dX8_power_18 (by decide) ?_
        exact ih5 _ _ _ _ _ _ _ _ hP hD hS hf (lv_sub hl [2, 3, 1, 0] rfl) hk
  subst hQ
  unfold fX8_power at hf
  refine lv_lconst (v := 1) hx hb dX8_power_0 rfl ?_
  refine lv_lstore_n (lv' := [(3, .long 1), (0, .long p0), (2, .int p2)]) hx hb dX8_power_1 rfl hl (by decide) rfl (fun ls hl => ?_)
  refine lv_iconst (v := 0) hx hb dX8_power_2 (by decide) ?_
  refine lv_istore (lv' := [(5, .int 0), (3, .long 1), (0, .long p0), (2, .int p2)]) hx hb dX8_power_3 hl (by decide) rfl (fun ls hl => ?_)
  obtain ⟨x1, v2, hf⟩ := bd1_some hf
  refine LP5 FU _ _ _ _ _ _ _ _ hP hD hS v2 (lv_sub hl [2, 3, 1, 0] rfl) (fun H locs ls hP hD hS hl => ?_)
  refine lv_lload_n hx hb dX8_power_21 rfl (lv_at hl 0 rfl) ?_
  cases hf
  exact W.lret hx hb hr (fun t ht _ => gql hP hD hS ht) hS.2.2 dX8_power_22
theorem ccX7_X8_power {R : Room} {s : State} {args : Array Value} {c0 : Cond} (hN : gN s) (ht : ∀ w ∈ wq c0, w.before args s = true) (hR : rmX8_power.frames + 1 ≤ R.frames ∧ 8 + (6 + 11) + rmX8_power.locals ≤ R.locals) : va_CN R s args RX7 31 yX8_power RX8 cX8_power 6 (some .long) (wq (.code yX8_power cX8_power 6 (some .long))) rmX8_power 0 0 2 ∧ (Cond.static yX8_power).before args s = true ∧ True := gCSN 2 hN ht wcX8_power wmX7_31 wtX8_power wnX8 (by decide +kernel) rfl rfl hR
abbrev rmX7_priceTop : Room := { frames := 1, cells := 0, slots := 0, locals := 25 }
set_option maxHeartbeats 4000000 in
set_option maxRecDepth 100000 in
theorem tX7_priceTop (l : Launch) (dC : Nat → ClassId) (dI : Nat → Nat → Nat) (dA : Nat → ClassId) (ad : Nat → Nat) (sz : Nat) {p1 : Int32} {p2 : Int32} {c_parts : Nat → Int32} {r : Int64} (hf : fX7_priceTop p1 p2 c_parts = some (r)) : Met l yX7_priceTop (wq (Cond.code yX7_priceTop cX7_priceTop 3 (some .long))) rmX7_priceTop (gP [.ref (ad 0), .int p1, .int p2] (dC, dI) dA (wX7 dA ad c_parts) sz) (gQl (dC, dI) r (wX7 dA ad c_parts) (va_A (wX7 dA ad c_parts) sz)) 0 0 (va_A (wX7 dA ad c_parts) sz) := by
  refine Met.ofW (cc := cX7_priceTop) (maxL := 3) (ret := (some .long)) (by decide) rfl ?_
  intro p e s m args below meth c s₁ B hml hv
  obtain ⟨rfl, hsz, hP, hK, hD0⟩ := hv
  have hx := B.exec
  have hb := B.bytes
  have hr := B.returns
  have hts := atoms_spec (ws := wq (Cond.code yX7_priceTop cX7_priceTop 3 (some .long))) B.pre
  have hown : s.vm.findClass RX7 = some m.cls := findClass_of_methodNamed B.named
  have hlocks := B.notSynchronized
  clear B
  subst hsz
  have hD := hD0.self (sz := s.heap.size)
  generalize hAe : va_A (wX7 dA ad c_parts) s.heap.size = A at hD ⊢
  have hA : ∀ q : Nat, s.heap.size ≤ q → A q := fun q h => by rw [← hAe]; exact Or.inr h
  clear hAe hD0
  have hS : va_S A s.heap s.heap [] := va_S.rf
  have hl := lv_entry ([.ref (ad 0), .int p1, .int p2]) (n := 3) (Nat.le_of_ble_eq_true rfl)
  rw [lg_entry_eq]
  generalize (lg_sl ([.ref (ad 0), .int p1, .int p2]) ++ List.replicate (3 - (lg_sl ([.ref (ad 0), .int p1, .int p2])).length) Slot.unset).toArray = ls at hl ⊢
  have hl : lv_has ls 3 [(0, .ref (ad 0)), (1, .int p1), (2, .int p2)] := hl
  change W p l e rmX7_priceTop s m ([.ref (ad 0), .int p1, .int p2] : List Value).toArray below meth c s.heap [] 0 0 _ _
  unfold fX7_priceTop at hf
  refine lv_aload_n hx hb dX7_priceTop_0 rfl (lv_at hl 0 rfl) ?_
  refine va_get (D := (dC, dI)) (ci := 7) (v := .ref (ad 1)) (C := RX7) (T := TX7) (N := 1) hx hb hts (fun w h => gw_mem (inX7 w h)) hown hK.1 hP 0 rfl rfl 0 (by decide) (hts _ (gw_mem wfX7_9)) (fun _ h9 => h9) rfl dX7_priceTop_1 ?_
  refine lv_iconst (v := 1) hx hb dX7_priceTop_4 (by decide) ?_
  refine va_iald hx hb hK.1 hP 1 0 rfl rfl (okI_in (by decide)) dX7_priceTop_5 ?_
  refine lv_i2l hx hb dX7_priceTop_6 rfl ?_
  refine lv_aload_n hx hb dX7_priceTop_7 rfl (lv_at hl 0 rfl) ?_
  refine va_get (D := (dC, dI)) (ci := 7) (v := .ref (ad 1)) (C := RX7) (T := TX7) (N := 1) hx hb hts (fun w h => gw_mem (inX7 w h)) hown hK.1 hP 0 rfl rfl 0 (by decide) (hts _ (gw_mem wfX7_9)) (fun _ h9 => h9) rfl dX7_priceTop_8 ?_
  refine lv_iconst (v := 2) hx hb dX7_priceTop_11 (by decide) ?_
  refine va_iald hx hb hK.1 hP 1 0 rfl rfl (okI_in (by decide)) dX7_priceTop_12 ?_
  refine lv_i2l hx hb dX7_priceTop_13 rfl ?_
  refine lv_iload_n hx hb dX7_priceTop_14 rfl (lv_at hl 2 rfl) ?_
  obtain ⟨r1, v2, hf⟩ := bd1_some hf
  refine gcl0 (va_runSN (As := [.long (Int32.toInt64 (c_parts (Int32.toNatClampNeg 2))), .int p2]) (rest := [.long (Int32.toInt64 (c_parts (Int32.toNatClampNeg 1)))]) ⟨hx, hb, hml, hown, hts⟩ (tX8_power l dC dI dA s.heap.size v2) (ccX7_X8_power hK.2 hts ⟨Nat.le_of_ble_eq_true rfl, Nat.le_of_ble_eq_true rfl⟩) (gPreS0 hK) rfl rfl hl.1 rfl (lv_room (Nat.le_of_ble_eq_true rfl)) dX7_priceTop_15 ⟨Nat.le_of_ble_eq_true rfl, Nat.le_of_ble_eq_true rfl⟩) hP hS hA (fun H locs hP hS => ?_)
  refine lv_lmul hx hb dX7_priceTop_18 ?_
  refine lv_aload_n hx hb dX7_priceTop_19 rfl (lv_at hl 0 rfl) ?_
  refine va_get (D := (dC, dI)) (ci := 7) (v := .ref (ad 1)) (C := RX7) (T := TX7) (N := 1) hx hb hts (fun w h => gw_mem (inX7 w h)) hown hK.1 hP 0 rfl rfl 0 (by decide) (hts _ (gw_mem wfX7_9)) (fun _ h9 => h9) rfl dX7_priceTop_20 ?_
  refine lv_iconst (v := 4) hx hb dX7_priceTop_23 (by decide) ?_
  refine va_iald hx hb hK.1 hP 1 0 rfl rfl (okI_in (by decide)) dX7_priceTop_24 ?_
  refine lv_i2l hx hb dX7_priceTop_25 rfl ?_
  refine lv_iload_n hx hb dX7_priceTop_26 rfl (lv_at hl 1 rfl) ?_
  refine lv_iload_n hx hb dX7_priceTop_27 rfl (lv_at hl 2 rfl) ?_
  refine lv_isub hx hb dX7_priceTop_28 ?_
  obtain ⟨r3, v4, hf⟩ := bd1_some hf
  refine gcl0 (va_runSN (As := [.long (Int32.toInt64 (c_parts (Int32.toNatClampNeg 4))), .int (p1 - p2)]) (rest := [.long ((Int32.toInt64 (c_parts (Int32.toNatClampNeg 1))) * r1)]) ⟨hx, hb, hml, hown, hts⟩ (tX8_power l dC dI dA H.size v4) (ccX7_X8_power hK.2 hts ⟨Nat.le_of_ble_eq_true rfl, Nat.le_of_ble_eq_true rfl⟩) (gPreS0 hK) rfl rfl hl.1 rfl (lv_room (Nat.le_of_ble_eq_true rfl)) dX7_priceTop_29 ⟨Nat.le_of_ble_eq_true rfl, Nat.le_of_ble_eq_true rfl⟩) hP hS hA (fun H locs hP hS => ?_)
  refine lv_lmul hx hb dX7_priceTop_32 ?_
  cases hf
  exact W.lret hx hb hr (fun t ht _ => gql hP hD hS ht) hS.2.2 dX7_priceTop_33
abbrev rmX7_priceBottom : Room := { frames := 1, cells := 0, slots := 0, locals := 25 }
set_option maxHeartbeats 4000000 in
set_option maxRecDepth 100000 in
theorem tX7_priceBottom (l : Launch) (dC : Nat → ClassId) (dI : Nat → Nat → Nat) (dA : Nat → ClassId) (ad : Nat → Nat) (sz : Nat) {p1 : Int32} {p2 : Int32} {c_parts : Nat → Int32} {r : Int64} (hf : fX7_priceBottom p1 p2 c_parts = some (r)) : Met l yX7_priceBottom (wq (Cond.code yX7_priceBottom cX7_priceBottom 3 (some .long))) rmX7_priceBottom (gP [.ref (ad 0), .int p1, .int p2] (dC, dI) dA (wX7 dA ad c_parts) sz) (gQl (dC, dI) r (wX7 dA ad c_parts) (va_A (wX7 dA ad c_parts) sz)) 0 0 (va_A (wX7 dA ad c_parts) sz) := by
  refine Met.ofW (cc := cX7_priceBottom) (maxL := 3) (ret := (some .long)) (by decide) rfl ?_
  intro p e s m args below meth c s₁ B hml hv
  obtain ⟨rfl, hsz, hP, hK, hD0⟩ := hv
  have hx := B.exec
  have hb := B.bytes
  have hr := B.returns
  have hts := atoms_spec (ws := wq (Cond.code yX7_priceBottom cX7_priceBottom 3 (some .long))) B.pre
  have hown : s.vm.findClass RX7 = some m.cls := findClass_of_methodNamed B.named
  have hlocks := B.notSynchronized
  clear B
  subst hsz
  have hD := hD0.self (sz := s.heap.size)
  generalize hAe : va_A (wX7 dA ad c_parts) s.heap.size = A at hD ⊢
  have hA : ∀ q : Nat, s.heap.size ≤ q → A q := fun q h => by rw [← hAe]; exact Or.inr h
  clear hAe hD0
  have hS : va_S A s.heap s.heap [] := va_S.rf
  have hl := lv_entry ([.ref (ad 0), .int p1, .int p2]) (n := 3) (Nat.le_of_ble_eq_true rfl)
  rw [lg_entry_eq]
  generalize (lg_sl ([.ref (ad 0), .int p1, .int p2]) ++ List.replicate (3 - (lg_sl ([.ref (ad 0), .int p1, .int p2])).length) Slot.unset).toArray = ls at hl ⊢
  have hl : lv_has ls 3 [(0, .ref (ad 0)), (1, .int p1), (2, .int p2)] := hl
  change W p l e rmX7_priceBottom s m ([.ref (ad 0), .int p1, .int p2] : List Value).toArray below meth c s.heap [] 0 0 _ _
  unfold fX7_priceBottom at hf
  refine lv_aload_n hx hb dX7_priceBottom_0 rfl (lv_at hl 0 rfl) ?_
  refine va_get (D := (dC, dI)) (ci := 7) (v := .ref (ad 1)) (C := RX7) (T := TX7) (N := 1) hx hb hts (fun w h => gw_mem (inX7 w h)) hown hK.1 hP 0 rfl rfl 0 (by decide) (hts _ (gw_mem wfX7_9)) (fun _ h9 => h9) rfl dX7_priceBottom_1 ?_
  refine lv_iconst (v := 3) hx hb dX7_priceBottom_4 (by decide) ?_
  refine va_iald hx hb hK.1 hP 1 0 rfl rfl (okI_in (by decide)) dX7_priceBottom_5 ?_
  refine lv_i2l hx hb dX7_priceBottom_6 rfl ?_
  refine lv_iload_n hx hb dX7_priceBottom_7 rfl (lv_at hl 2 rfl) ?_
  obtain ⟨r1, v2, hf⟩ := bd1_some hf
  refine gcl0 (va_runSN (As := [.long (Int32.toInt64 (c_parts (Int32.toNatClampNeg 3))), .int p2]) (rest := []) ⟨hx, hb, hml, hown, hts⟩ (tX8_power l dC dI dA s.heap.size v2) (ccX7_X8_power hK.2 hts ⟨Nat.le_of_ble_eq_true rfl, Nat.le_of_ble_eq_true rfl⟩) (gPreS0 hK) rfl rfl hl.1 rfl (lv_room (Nat.le_of_ble_eq_true rfl)) dX7_priceBottom_8 ⟨Nat.le_of_ble_eq_true rfl, Nat.le_of_ble_eq_true rfl⟩) hP hS hA (fun H locs hP hS => ?_)
  refine lv_aload_n hx hb dX7_priceBottom_11 rfl (lv_at hl 0 rfl) ?_
  refine va_get (D := (dC, dI)) (ci := 7) (v := .ref (ad 1)) (C := RX7) (T := TX7) (N := 1) hx hb hts (fun w h => gw_mem (inX7 w h)) hown hK.1 hP 0 rfl rfl 0 (by decide) (hts _ (gw_mem wfX7_9)) (fun _ h9 => h9) rfl dX7_priceBottom_12 ?_
  refine lv_iconst (v := 5) hx hb dX7_priceBottom_15 (by decide) ?_
  refine va_iald hx hb hK.1 hP 1 0 rfl rfl (okI_in (by decide)) dX7_priceBottom_16 ?_
  refine lv_i2l hx hb dX7_priceBottom_17 rfl ?_
  refine lv_iload_n hx hb dX7_priceBottom_18 rfl (lv_at hl 1 rfl) ?_
  refine lv_iload_n hx hb dX7_priceBottom_19 rfl (lv_at hl 2 rfl) ?_
  refine lv_isub hx hb dX7_priceBottom_20 ?_
  obtain ⟨r3, v4, hf⟩ := bd1_some hf
  refine gcl0 (va_runSN (As := [.long (Int32.toInt64 (c_parts (Int32.toNatClampNeg 5))), .int (p1 - p2)]) (rest := [.long r1]) ⟨hx, hb, hml, hown, hts⟩ (tX8_power l dC dI dA H.size v4) (ccX7_X8_power hK.2 hts ⟨Nat.le_of_ble_eq_true rfl, Nat.le_of_ble_eq_true rfl⟩) (gPreS0 hK) rfl rfl hl.1 rfl (lv_room (Nat.le_of_ble_eq_true rfl)) dX7_priceBottom_21 ⟨Nat.le_of_ble_eq_true rfl, Nat.le_of_ble_eq_true rfl⟩) hP hS hA (fun H locs hP hS => ?_)
  refine lv_lmul hx hb dX7_priceBottom_24 ?_
  cases hf
  exact W.lret hx hb hr (fun t ht _ => gql hP hD hS ht) hS.2.2 dX7_priceBottom_25
abbrev rmX8_through : Room := { frames := 0, cells := 0, slots := 0, locals := 0 }
set_option maxHeartbeats 4000000 in
set_option maxRecDepth 100000 in
theorem tX8_through (l : Launch) (dC : Nat → ClassId) (dI : Nat → Nat → Nat) (dA : Nat → ClassId) (sz : Nat) {p0 : Int64} {p2 : Int64} {r : Int64} (hf : fX8_through p0 p2 = some (r)) : Met l yX8_through (wq (Cond.code yX8_through cX8_through 4 (some .long))) rmX8_through (gP [.long p0, .long p2] (dC, dI) dA [] sz) (gQl (dC, dI) r [] (va_A [] sz)) 0 0 (va_A [] sz) := by
  refine Met.ofW (cc := cX8_through) (maxL := 4) (ret := (some .long)) (by decide) rfl ?_
  intro p e s m args below meth c s₁ B hml hv
  obtain ⟨rfl, hsz, hP, hK, hD0⟩ := hv
  have hx := B.exec
  have hb := B.bytes
  have hr := B.returns
  have hts := atoms_spec (ws := wq (Cond.code yX8_through cX8_through 4 (some .long))) B.pre
  have hown : s.vm.findClass RX8 = some m.cls := findClass_of_methodNamed B.named
  have hlocks := B.notSynchronized
  clear B
  subst hsz
  have hD := hD0.self (sz := s.heap.size)
  generalize hAe : va_A [] s.heap.size = A at hD ⊢
  have hA : ∀ q : Nat, s.heap.size ≤ q → A q := fun q h => by rw [← hAe]; exact Or.inr h
  clear hAe hD0
  have hS : va_S A s.heap s.heap [] := va_S.rf
  have hl := lv_entry ([.long p0, .long p2]) (n := 4) (Nat.le_of_ble_eq_true rfl)
  rw [lg_entry_eq]
  generalize (lg_sl ([.long p0, .long p2]) ++ List.replicate (4 - (lg_sl ([.long p0, .long p2])).length) Slot.unset).toArray = ls at hl ⊢
  have hl : lv_has ls 4 [(0, .long p0), (2, .long p2)] := hl
  change W p l e rmX8_through s m ([.long p0, .long p2] : List Value).toArray below meth c s.heap [] 0 0 _ _
  unfold fX8_through at hf
  refine lv_lload_n hx hb dX8_through_0 rfl (lv_at hl 1 rfl) ?_
  refine lv_lconst (v := 0) hx hb dX8_through_1 rfl ?_
  refine W.lcmp hx hb dX8_through_2 ?_
  obtain ⟨j2, v4, hf⟩ := bd1_some hf
  have J3 : ∀ (H : Heap) (locs : List Loc) (ls : Array Slot), va_P (dC, dI) vwCl [] H → va_D A [] → va_S A s.heap H locs → lv_has ls 4 [] → W p l e rmX8_through s m ([.long p0, .long p2] : List Value).toArray below meth c H locs 0 0 (MQ below (gQl (dC, dI) r [] A) ([.long p0, .long p2] : List Value).toArray s 0 0 A) (F0 m 13 ls [.long j2]) := by
    intro H locs ls hP hD hS hl
    cases hf
    exact W.lret hx hb hr (fun t ht _ => gql hP hD hS ht) hS.2.2 dX8_through_13
  replace hf := v4
  clear v4
  refine lv_if_ne (tgt := 10) hx hb dX8_through_3 (by decide) (fun k1 => ?_) (fun k1 => ?_)
  · replace hf := ifn (fun h => k1 (lc_eq.mpr h)) hf
    refine lv_lload_n hx hb dX8_through_10 rfl (lv_at hl 0 rfl) ?_
    refine lv_lload_n hx hb dX8_through_11 rfl (lv_at hl 1 rfl) ?_
    obtain ⟨h5, hf⟩ := og_some hf
    refine lv_ldiv hx hb dX8_through_12 (nzL_ne h5) ?_
    cases hf
    exact J3 _ _ _ hP hD hS (lv_sub hl [] rfl)
  · replace hf := ifp (lc_eq.mp k1) hf
    refine lv_lconst (v := 0) hx hb dX8_through_6 rfl ?_
    refine lv_goto (tgt := 13) hx hb dX8_through_7 (by decide) ?_
    cases hf
    exact J3 _ _ _ hP hD hS (lv_sub hl [] rfl)
theorem ccX7_X7_priceTop {R : Room} {s : State} {args : Array Value} {c0 : Cond} (ht : ∀ w ∈ wq c0, w.before args s = true) (hR : rmX7_priceTop.frames + 1 ≤ R.frames ∧ 8 + (3 + 11) + rmX7_priceTop.locals ≤ R.locals) : CallW R s args RX7 RX7 37 yX7_priceTop cX7_priceTop 3 (some .long) (wq (.code yX7_priceTop cX7_priceTop 3 (some .long))) rmX7_priceTop 0 0 2 := gCW 2 ht wcX7_priceTop wmX7_37 wiX7_priceTop weX7_priceTop wnX7 (by decide +kernel) rfl rfl hR
theorem ccX7_X7_priceBottom {R : Room} {s : State} {args : Array Value} {c0 : Cond} (ht : ∀ w ∈ wq c0, w.before args s = true) (hR : rmX7_priceBottom.frames + 1 ≤ R.frames ∧ 8 + (3 + 11) + rmX7_priceBottom.locals ≤ R.locals) : CallW R s args RX7 RX7 41 yX7_priceBottom cX7_priceBottom 3 (some .long) (wq (.code yX7_priceBottom cX7_priceBottom 3 (some .long))) rmX7_priceBottom 0 0 2 := gCW 2 ht wcX7_priceBottom wmX7_41 wiX7_priceBottom weX7_priceBottom wnX7 (by decide +kernel) rfl rfl hR
theorem ccX7_X8_through {R : Room} {s : State} {args : Array Value} {c0 : Cond} (hN : gN s) (ht : ∀ w ∈ wq c0, w.before args s = true) (hR : rmX8_through.frames + 1 ≤ R.frames ∧ 8 + (4 + 11) + rmX8_through.locals ≤ R.locals) : va_CN R s args RX7 44 yX8_through RX8 cX8_through 4 (some .long) (wq (.code yX8_through cX8_through 4 (some .long))) rmX8_through 0 0 2 ∧ (Cond.static yX8_through).before args s = true ∧ True := gCSN 2 hN ht wcX8_through wmX7_44 wtX8_through wnX8 (by decide +kernel) rfl rfl hR
abbrev rmX7_pence : Room := { frames := 2, cells := 0, slots := 0, locals := 47 }
set_option maxHeartbeats 4000000 in
set_option maxRecDepth 100000 in
theorem tX7_pence (l : Launch) (dC : Nat → ClassId) (dI : Nat → Nat → Nat) (dA : Nat → ClassId) (ad : Nat → Nat) (sz : Nat) {p1 : Int32} {p2 : Int32} {c_parts : Nat → Int32} {r : Int64} (hf : fX7_pence p1 p2 c_parts = some (r)) : Met l yX7_pence (wq (Cond.code yX7_pence cX7_pence 3 (some .long))) rmX7_pence (gP [.ref (ad 0), .int p1, .int p2] (dC, dI) dA (wX7 dA ad c_parts) sz) (gQl (dC, dI) r (wX7 dA ad c_parts) (va_A (wX7 dA ad c_parts) sz)) 0 0 (va_A (wX7 dA ad c_parts) sz) := by
  refine Met.ofW (cc := cX7_pence) (maxL := 3) (ret := (some .long)) (by decide) rfl ?_
  intro p e s m args below meth c s₁ B hml hv
  obtain ⟨rfl, hsz, hP, hK, hD0⟩ := hv
  have hx := B.exec
  have hb := B.bytes
  have hr := B.returns
  have hts := atoms_spec (ws := wq (Cond.code yX7_pence cX7_pence 3 (some .long))) B.pre
  have hown : s.vm.findClass RX7 = some m.cls := findClass_of_methodNamed B.named
  have hlocks := B.notSynchronized
  clear B
  subst hsz
  have hD := hD0.self (sz := s.heap.size)
  generalize hAe : va_A (wX7 dA ad c_parts) s.heap.size = A at hD ⊢
  have hA : ∀ q : Nat, s.heap.size ≤ q → A q := fun q h => by rw [← hAe]; exact Or.inr h
  clear hAe hD0
  have hS : va_S A s.heap s.heap [] := va_S.rf
  have hl := lv_entry ([.ref (ad 0), .int p1, .int p2]) (n := 3) (Nat.le_of_ble_eq_true rfl)
  rw [lg_entry_eq]
  generalize (lg_sl ([.ref (ad 0), .int p1, .int p2]) ++ List.replicate (3 - (lg_sl ([.ref (ad 0), .int p1, .int p2])).length) Slot.unset).toArray = ls at hl ⊢
  have hl : lv_has ls 3 [(0, .ref (ad 0)), (1, .int p1), (2, .int p2)] := hl
  change W p l e rmX7_pence s m ([.ref (ad 0), .int p1, .int p2] : List Value).toArray below meth c s.heap [] 0 0 _ _
  unfold fX7_pence at hf
  refine lv_ldc2 (v := 100) hx hb hown (hts _ (gw_mem wkX7_35)) dX7_pence_0 ?_
  refine lv_aload_n hx hb dX7_pence_3 rfl (lv_at hl 0 rfl) ?_
  refine lv_iload_n hx hb dX7_pence_4 rfl (lv_at hl 1 rfl) ?_
  refine lv_iload_n hx hb dX7_pence_5 rfl (lv_at hl 2 rfl) ?_
  obtain ⟨r1, v2, hf⟩ := bd1_some hf
  refine gcl (va_runV (As := [.int p1, .int p2]) (rest := [.long 100]) ⟨hx, hb, hml, hown, hts⟩ (tX7_priceTop l dC dI dA ad s.heap.size v2) (ccX7_X7_priceTop hts ⟨Nat.le_of_ble_eq_true rfl, Nat.le_of_ble_eq_true rfl⟩) (gPreV (ci := 7) (q0 := 0) hP hK hD rfl rfl) rfl rfl hl.1 rfl (lv_room (Nat.le_of_ble_eq_true rfl)) dX7_pence_6 ⟨Nat.le_of_ble_eq_true rfl, Nat.le_of_ble_eq_true rfl⟩) hD hS hA (fun H locs hP hD hS => ?_)
  refine lv_lmul hx hb dX7_pence_9 ?_
  refine lv_aload_n hx hb dX7_pence_10 rfl (lv_at hl 0 rfl) ?_
  refine lv_iload_n hx hb dX7_pence_11 rfl (lv_at hl 1 rfl) ?_
  refine lv_iload_n hx hb dX7_pence_12 rfl (lv_at hl 2 rfl) ?_
  obtain ⟨r3, v4, hf⟩ := bd1_some hf
  refine gcl (va_runV (As := [.int p1, .int p2]) (rest := [.long (100 * r1)]) ⟨hx, hb, hml, hown, hts⟩ (tX7_priceBottom l dC dI dA ad H.size v4) (ccX7_X7_priceBottom hts ⟨Nat.le_of_ble_eq_true rfl, Nat.le_of_ble_eq_true rfl⟩) (gPreV (ci := 7) (q0 := 0) hP hK hD rfl rfl) rfl rfl hl.1 rfl (lv_room (Nat.le_of_ble_eq_true rfl)) dX7_pence_13 ⟨Nat.le_of_ble_eq_true rfl, Nat.le_of_ble_eq_true rfl⟩) hD hS hA (fun H locs hP hD hS => ?_)
  obtain ⟨r5, v6, hf⟩ := bd1_some hf
  refine gcl0 (va_runSN (As := [.long (100 * r1), .long r3]) (rest := []) ⟨hx, hb, hml, hown, hts⟩ (tX8_through l dC dI dA H.size v6) (ccX7_X8_through hK.2 hts ⟨Nat.le_of_ble_eq_true rfl, Nat.le_of_ble_eq_true rfl⟩) (gPreS0 hK) rfl rfl hl.1 rfl (lv_room (Nat.le_of_ble_eq_true rfl)) dX7_pence_16 ⟨Nat.le_of_ble_eq_true rfl, Nat.le_of_ble_eq_true rfl⟩) hP hS hA (fun H locs hP hS => ?_)
  cases hf
  exact W.lret hx hb hr (fun t ht _ => gql hP hD hS ht) hS.2.2 dX7_pence_19
theorem ccX7_X7_lastDay {R : Room} {s : State} {args : Array Value} {c0 : Cond} (ht : ∀ w ∈ wq c0, w.before args s = true) (hR : rmX7_lastDay.frames + 1 ≤ R.frames ∧ 8 + (1 + 11) + rmX7_lastDay.locals ≤ R.locals) : CallW R s args RX7 RX7 48 yX7_lastDay cX7_lastDay 1 (some .int) (wq (.code yX7_lastDay cX7_lastDay 1 (some .int))) rmX7_lastDay 0 0 0 := gCW 0 ht wcX7_lastDay wmX7_48 wiX7_lastDay weX7_lastDay wnX7 (by decide +kernel) rfl rfl hR
abbrev rmX7_chanceWhole : Room := { frames := 2, cells := 0, slots := 0, locals := 43 }
set_option maxHeartbeats 4000000 in
set_option maxRecDepth 100000 in
theorem tX7_chanceWhole (l : Launch) (dC : Nat → ClassId) (dI : Nat → Nat → Nat) (dA : Nat → ClassId) (ad : Nat → Nat) (sz : Nat) {c_parts : Nat → Int32} {r : Int64} (hf : fX7_chanceWhole c_parts = some (r)) : Met l yX7_chanceWhole (wq (Cond.code yX7_chanceWhole cX7_chanceWhole 1 (some .long))) rmX7_chanceWhole (gP [.ref (ad 0)] (dC, dI) dA (wX7 dA ad c_parts) sz) (gQl (dC, dI) r (wX7 dA ad c_parts) (va_A (wX7 dA ad c_parts) sz)) 0 0 (va_A (wX7 dA ad c_parts) sz) := by
  refine Met.ofW (cc := cX7_chanceWhole) (maxL := 1) (ret := (some .long)) (by decide) rfl ?_
  intro p e s m args below meth c s₁ B hml hv
  obtain ⟨rfl, hsz, hP, hK, hD0⟩ := hv
  have hx := B.exec
  have hb := B.bytes
  have hr := B.returns
  have hts := atoms_spec (ws := wq (Cond.code yX7_chanceWhole cX7_chanceWhole 1 (some .long))) B.pre
  have hown : s.vm.findClass RX7 = some m.cls := findClass_of_methodNamed B.named
  have hlocks := B.notSynchronized
  clear B
  subst hsz
  have hD := hD0.self (sz := s.heap.size)
  generalize hAe : va_A (wX7 dA ad c_parts) s.heap.size = A at hD ⊢
  have hA : ∀ q : Nat, s.heap.size ≤ q → A q := fun q h => by rw [← hAe]; exact Or.inr h
  clear hAe hD0
  have hS : va_S A s.heap s.heap [] := va_S.rf
  have hl := lv_entry ([.ref (ad 0)]) (n := 1) (Nat.le_of_ble_eq_true rfl)
  rw [lg_entry_eq]
  generalize (lg_sl ([.ref (ad 0)]) ++ List.replicate (1 - (lg_sl ([.ref (ad 0)])).length) Slot.unset).toArray = ls at hl ⊢
  have hl : lv_has ls 1 [(0, .ref (ad 0))] := hl
  change W p l e rmX7_chanceWhole s m ([.ref (ad 0)] : List Value).toArray below meth c s.heap [] 0 0 _ _
  unfold fX7_chanceWhole at hf
  refine lv_aload_n hx hb dX7_chanceWhole_0 rfl (lv_at hl 0 rfl) ?_
  refine va_get (D := (dC, dI)) (ci := 7) (v := .ref (ad 1)) (C := RX7) (T := TX7) (N := 1) hx hb hts (fun w h => gw_mem (inX7 w h)) hown hK.1 hP 0 rfl rfl 0 (by decide) (hts _ (gw_mem wfX7_9)) (fun _ h9 => h9) rfl dX7_chanceWhole_1 ?_
  refine lv_bipush (v := 7) hx hb dX7_chanceWhole_4 (by decide) ?_
  refine va_iald hx hb hK.1 hP 1 0 rfl rfl (okI_in (by decide)) dX7_chanceWhole_6 ?_
  refine lv_i2l hx hb dX7_chanceWhole_7 rfl ?_
  refine lv_aload_n hx hb dX7_chanceWhole_8 rfl (lv_at hl 0 rfl) ?_
  obtain ⟨r1, v2, hf⟩ := bd1_some hf
  refine gci (va_runV (As := []) (rest := [.long (Int32.toInt64 (c_parts (Int32.toNatClampNeg 7)))]) ⟨hx, hb, hml, hown, hts⟩ (tX7_lastDay l dC dI dA ad s.heap.size v2) (ccX7_X7_lastDay hts ⟨Nat.le_of_ble_eq_true rfl, Nat.le_of_ble_eq_true rfl⟩) (gPreV (ci := 7) (q0 := 0) hP hK hD rfl rfl) rfl rfl hl.1 rfl (lv_room (Nat.le_of_ble_eq_true rfl)) dX7_chanceWhole_9 ⟨Nat.le_of_ble_eq_true rfl, Nat.le_of_ble_eq_true rfl⟩) hD hS hA (fun H locs hP hD hS => ?_)
  obtain ⟨r3, v4, hf⟩ := bd1_some hf
  refine gcl0 (va_runSN (As := [.long (Int32.toInt64 (c_parts (Int32.toNatClampNeg 7))), .int r1]) (rest := []) ⟨hx, hb, hml, hown, hts⟩ (tX8_power l dC dI dA H.size v4) (ccX7_X8_power hK.2 hts ⟨Nat.le_of_ble_eq_true rfl, Nat.le_of_ble_eq_true rfl⟩) (gPreS0 hK) rfl rfl hl.1 rfl (lv_room (Nat.le_of_ble_eq_true rfl)) dX7_chanceWhole_12 ⟨Nat.le_of_ble_eq_true rfl, Nat.le_of_ble_eq_true rfl⟩) hP hS hA (fun H locs hP hS => ?_)
  cases hf
  exact W.lret hx hb hr (fun t ht _ => gql hP hD hS ht) hS.2.2 dX7_chanceWhole_15
abbrev rmX7_chanceOf : Room := { frames := 2, cells := 0, slots := 0, locals := 43 }
set_option maxHeartbeats 4000000 in
set_option maxRecDepth 100000 in
theorem tX7_chanceOf (l : Launch) (dC : Nat → ClassId) (dI : Nat → Nat → Nat) (dA : Nat → ClassId) (ad : Nat → Nat) (sz : Nat) {p1 : Int32} {p2 : Int32} {c_parts : Nat → Int32} {r : Int64} (hf : fX7_chanceOf p1 p2 c_parts = some (r)) : Met l yX7_chanceOf (wq (Cond.code yX7_chanceOf cX7_chanceOf 5 (some .long))) rmX7_chanceOf (gP [.ref (ad 0), .int p1, .int p2] (dC, dI) dA (wX7 dA ad c_parts) sz) (gQl (dC, dI) r (wX7 dA ad c_parts) (va_A (wX7 dA ad c_parts) sz)) 0 0 (va_A (wX7 dA ad c_parts) sz) := by
  refine Met.ofW (cc := cX7_chanceOf) (maxL := 5) (ret := (some .long)) (by decide) rfl ?_
  intro p e s m args below meth c s₁ B hml hv
  obtain ⟨rfl, hsz, hP, hK, hD0⟩ := hv
  have hx := B.exec
  have hb := B.bytes
  have hr := B.returns
  have hts := atoms_spec (ws := wq (Cond.code yX7_chanceOf cX7_chanceOf 5 (some .long))) B.pre
  have hown : s.vm.findClass RX7 = some m.cls := findClass_of_methodNamed B.named
  have hlocks := B.notSynchronized
  clear B
  subst hsz
  have hD := hD0.self (sz := s.heap.size)
  generalize hAe : va_A (wX7 dA ad c_parts) s.heap.size = A at hD ⊢
  have hA : ∀ q : Nat, s.heap.size ≤ q → A q := fun q h => by rw [← hAe]; exact Or.inr h
  clear hAe hD0
  have hS : va_S A s.heap s.heap [] := va_S.rf
  have hl := lv_entry ([.ref (ad 0), .int p1, .int p2]) (n := 5) (Nat.le_of_ble_eq_true rfl)
  rw [lg_entry_eq]
  generalize (lg_sl ([.ref (ad 0), .int p1, .int p2]) ++ List.replicate (5 - (lg_sl ([.ref (ad 0), .int p1, .int p2])).length) Slot.unset).toArray = ls at hl ⊢
  have hl : lv_has ls 5 [(0, .ref (ad 0)), (1, .int p1), (2, .int p2)] := hl
  change W p l e rmX7_chanceOf s m ([.ref (ad 0), .int p1, .int p2] : List Value).toArray below meth c s.heap [] 0 0 _ _
  unfold fX7_chanceOf at hf
  refine lv_aload_n hx hb dX7_chanceOf_0 rfl (lv_at hl 0 rfl) ?_
  refine va_get (D := (dC, dI)) (ci := 7) (v := .ref (ad 1)) (C := RX7) (T := TX7) (N := 1) hx hb hts (fun w h => gw_mem (inX7 w h)) hown hK.1 hP 0 rfl rfl 0 (by decide) (hts _ (gw_mem wfX7_9)) (fun _ h9 => h9) rfl dX7_chanceOf_1 ?_
  refine lv_bipush (v := 6) hx hb dX7_chanceOf_4 (by decide) ?_
  refine va_iald hx hb hK.1 hP 1 0 rfl rfl (okI_in (by decide)) dX7_chanceOf_6 ?_
  refine lv_topi (fun w1 ew1 => ?_)
  replace hf := nm_at hf ew1
  refine lv_istore_n (lv' := [(3, .int w1), (0, .ref (ad 0)), (1, .int p1), (2, .int p2)]) hx hb dX7_chanceOf_7 rfl hl (by decide) rfl (fun ls hl => ?_)
  refine lv_aload_n hx hb dX7_chanceOf_8 rfl (lv_at hl 1 rfl) ?_
  refine va_get (D := (dC, dI)) (ci := 7) (v := .ref (ad 1)) (C := RX7) (T := TX7) (N := 1) hx hb hts (fun w h => gw_mem (inX7 w h)) hown hK.1 hP 0 rfl rfl 0 (by decide) (hts _ (gw_mem wfX7_9)) (fun _ h9 => h9) rfl dX7_chanceOf_9 ?_
  refine lv_bipush (v := 7) hx hb dX7_chanceOf_12 (by decide) ?_
  refine va_iald hx hb hK.1 hP 1 0 rfl rfl (okI_in (by decide)) dX7_chanceOf_14 ?_
  refine lv_topi (fun w2 ew2 => ?_)
  replace hf := nm_at hf ew2
  refine lv_istore (lv' := [(4, .int w2), (3, .int w1), (0, .ref (ad 0)), (1, .int p1), (2, .int p2)]) hx hb dX7_chanceOf_15 hl (by decide) rfl (fun ls hl => ?_)
  refine lv_iload_n hx hb dX7_chanceOf_17 rfl (lv_at hl 1 rfl) ?_
  refine lv_i2l hx hb dX7_chanceOf_18 rfl ?_
  refine lv_iload_n hx hb dX7_chanceOf_19 rfl (lv_at hl 4 rfl) ?_
  obtain ⟨r3, v4, hf⟩ := bd1_some hf
  refine gcl0 (va_runSN (As := [.long (Int32.toInt64 w1), .int p2]) (rest := []) ⟨hx, hb, hml, hown, hts⟩ (tX8_power l dC dI dA s.heap.size v4) (ccX7_X8_power hK.2 hts ⟨Nat.le_of_ble_eq_true rfl, Nat.le_of_ble_eq_true rfl⟩) (gPreS0 hK) rfl rfl hl.1 rfl (lv_room (Nat.le_of_ble_eq_true rfl)) dX7_chanceOf_20 ⟨Nat.le_of_ble_eq_true rfl, Nat.le_of_ble_eq_true rfl⟩) hP hS hA (fun H locs hP hS => ?_)
  refine lv_iload hx hb dX7_chanceOf_23 (lv_at hl 0 rfl) ?_
  refine lv_iload_n hx hb dX7_chanceOf_25 rfl (lv_at hl 1 rfl) ?_
  refine lv_isub hx hb dX7_chanceOf_26 ?_
  refine lv_i2l hx hb dX7_chanceOf_27 rfl ?_
  refine lv_iload_n hx hb dX7_chanceOf_28 rfl (lv_at hl 3 rfl) ?_
  refine lv_iload_n hx hb dX7_chanceOf_29 rfl (lv_at hl 4 rfl) ?_
  refine lv_isub hx hb dX7_chanceOf_30 ?_
  obtain ⟨r5, v6, hf⟩ := bd1_some hf
  refine gcl0 (va_runSN (As := [.long (Int32.toInt64 (w2 - w1)), .int (p1 - p2)]) (rest := [.long r3]) ⟨hx, hb, hml, hown, hts⟩ (tX8_power l dC dI dA H.size v6) (ccX7_X8_power hK.2 hts ⟨Nat.le_of_ble_eq_true rfl, Nat.le_of_ble_eq_true rfl⟩) (gPreS0 hK) rfl rfl hl.1 rfl (lv_room (Nat.le_of_ble_eq_true rfl)) dX7_chanceOf_31 ⟨Nat.le_of_ble_eq_true rfl, Nat.le_of_ble_eq_true rfl⟩) hP hS hA (fun H locs hP hS => ?_)
  refine lv_lmul hx hb dX7_chanceOf_34 ?_
  refine lv_iload hx hb dX7_chanceOf_35 (lv_at hl 0 rfl) ?_
  refine lv_i2l hx hb dX7_chanceOf_37 rfl ?_
  refine lv_aload_n hx hb dX7_chanceOf_38 rfl (lv_at hl 2 rfl) ?_
  obtain ⟨r7, v8, hf⟩ := bd1_some hf
  refine gci (va_runV (As := []) (rest := [.long (Int32.toInt64 w2), .long (r3 * r5)]) ⟨hx, hb, hml, hown, hts⟩ (tX7_lastDay l dC dI dA ad H.size v8) (ccX7_X7_lastDay hts ⟨Nat.le_of_ble_eq_true rfl, Nat.le_of_ble_eq_true rfl⟩) (gPreV (ci := 7) (q0 := 0) hP hK hD rfl rfl) rfl rfl hl.1 rfl (lv_room (Nat.le_of_ble_eq_true rfl)) dX7_chanceOf_39 ⟨Nat.le_of_ble_eq_true rfl, Nat.le_of_ble_eq_true rfl⟩) hD hS hA (fun H locs hP hD hS => ?_)
  refine lv_iload_n hx hb dX7_chanceOf_42 rfl (lv_at hl 3 rfl) ?_
  refine lv_isub hx hb dX7_chanceOf_43 ?_
  obtain ⟨r9, v10, hf⟩ := bd1_some hf
  refine gcl0 (va_runSN (As := [.long (Int32.toInt64 w2), .int (r7 - p1)]) (rest := [.long (r3 * r5)]) ⟨hx, hb, hml, hown, hts⟩ (tX8_power l dC dI dA H.size v10) (ccX7_X8_power hK.2 hts ⟨Nat.le_of_ble_eq_true rfl, Nat.le_of_ble_eq_true rfl⟩) (gPreS0 hK) rfl rfl hl.1 rfl (lv_room (Nat.le_of_ble_eq_true rfl)) dX7_chanceOf_44 ⟨Nat.le_of_ble_eq_true rfl, Nat.le_of_ble_eq_true rfl⟩) hP hS hA (fun H locs hP hS => ?_)
  refine lv_lmul hx hb dX7_chanceOf_47 ?_
  cases hf
  exact W.lret hx hb hr (fun t ht _ => gql hP hD hS ht) hS.2.2 dX7_chanceOf_48
abbrev rmX7_meanOf : Room := { frames := 1, cells := 0, slots := 0, locals := 23 }
set_option maxHeartbeats 4000000 in
set_option maxRecDepth 100000 in
theorem tX7_meanOf (l : Launch) (dC : Nat → ClassId) (dI : Nat → Nat → Nat) (dA : Nat → ClassId) (ad : Nat → Nat) (sz : Nat) {p1 : Int64} {p3 : Int64} {c_parts : Nat → Int32} {r : Int64} (hf : fX7_meanOf p1 p3 c_parts = some (r)) : Met l yX7_meanOf (wq (Cond.code yX7_meanOf cX7_meanOf 9 (some .long))) rmX7_meanOf (gP [.ref (ad 0), .long p1, .long p3] (dC, dI) dA (wX7 dA ad c_parts) sz) (gQl (dC, dI) r (wX7 dA ad c_parts) (va_A (wX7 dA ad c_parts) sz)) 0 0 (va_A (wX7 dA ad c_parts) sz) := by
  refine Met.ofW (cc := cX7_meanOf) (maxL := 9) (ret := (some .long)) (by decide) rfl ?_
  intro p e s m args below meth c s₁ B hml hv
  obtain ⟨rfl, hsz, hP, hK, hD0⟩ := hv
  have hx := B.exec
  have hb := B.bytes
  have hr := B.returns
  have hts := atoms_spec (ws := wq (Cond.code yX7_meanOf cX7_meanOf 9 (some .long))) B.pre
  have hown : s.vm.findClass RX7 = some m.cls := findClass_of_methodNamed B.named
  have hlocks := B.notSynchronized
  clear B
  subst hsz
  have hD := hD0.self (sz := s.heap.size)
  generalize hAe : va_A (wX7 dA ad c_parts) s.heap.size = A at hD ⊢
  have hA : ∀ q : Nat, s.heap.size ≤ q → A q := fun q h => by rw [← hAe]; exact Or.inr h
  clear hAe hD0
  have hS : va_S A s.heap s.heap [] := va_S.rf
  have hl := lv_entry ([.ref (ad 0), .long p1, .long p3]) (n := 9) (Nat.le_of_ble_eq_true rfl)
  rw [lg_entry_eq]
  generalize (lg_sl ([.ref (ad 0), .long p1, .long p3]) ++ List.replicate (9 - (lg_sl ([.ref (ad 0), .long p1, .long p3])).length) Slot.unset).toArray = ls at hl ⊢
  have hl : lv_has ls 9 [(0, .ref (ad 0)), (1, .long p1), (3, .long p3)] := hl
  change W p l e rmX7_meanOf s m ([.ref (ad 0), .long p1, .long p3] : List Value).toArray below meth c s.heap [] 0 0 _ _
  unfold fX7_meanOf at hf
  refine lv_aload_n hx hb dX7_meanOf_0 rfl (lv_at hl 0 rfl) ?_
  refine va_get (D := (dC, dI)) (ci := 7) (v := .ref (ad 1)) (C := RX7) (T := TX7) (N := 1) hx hb hts (fun w h => gw_mem (inX7 w h)) hown hK.1 hP 0 rfl rfl 0 (by decide) (hts _ (gw_mem wfX7_9)) (fun _ h9 => h9) rfl dX7_meanOf_1 ?_
  refine lv_bipush (v := 6) hx hb dX7_meanOf_4 (by decide) ?_
  refine va_iald hx hb hK.1 hP 1 0 rfl rfl (okI_in (by decide)) dX7_meanOf_6 ?_
  refine lv_topi (fun w1 ew1 => ?_)
  replace hf := nm_at hf ew1
  refine lv_istore (lv' := [(5, .int w1), (0, .ref (ad 0)), (1, .long p1), (3, .long p3)]) hx hb dX7_meanOf_7 hl (by decide) rfl (fun ls hl => ?_)
  refine lv_aload_n hx hb dX7_meanOf_9 rfl (lv_at hl 1 rfl) ?_
  refine va_get (D := (dC, dI)) (ci := 7) (v := .ref (ad 1)) (C := RX7) (T := TX7) (N := 1) hx hb hts (fun w h => gw_mem (inX7 w h)) hown hK.1 hP 0 rfl rfl 0 (by decide) (hts _ (gw_mem wfX7_9)) (fun _ h9 => h9) rfl dX7_meanOf_10 ?_
  refine lv_bipush (v := 7) hx hb dX7_meanOf_13 (by decide) ?_
  refine va_iald hx hb hK.1 hP 1 0 rfl rfl (okI_in (by decide)) dX7_meanOf_15 ?_
  refine lv_topi (fun w2 ew2 => ?_)
  replace hf := nm_at hf ew2
  refine lv_istore (lv' := [(6, .int w2), (5, .int w1), (0, .ref (ad 0)), (1, .long p1), (3, .long p3)]) hx hb dX7_meanOf_16 hl (by decide) rfl (fun ls hl => ?_)
  refine lv_iload hx hb dX7_meanOf_18 (lv_at hl 1 rfl) ?_
  refine lv_i2l hx hb dX7_meanOf_20 rfl ?_
  refine lv_lload_n hx hb dX7_meanOf_21 rfl (lv_at hl 3 rfl) ?_
  refine lv_lmul hx hb dX7_meanOf_22 ?_
  refine lv_iload hx hb dX7_meanOf_23 (lv_at hl 0 rfl) ?_
  refine lv_iload hx hb dX7_meanOf_25 (lv_at hl 1 rfl) ?_
  refine lv_isub hx hb dX7_meanOf_27 ?_
  refine lv_i2l hx hb dX7_meanOf_28 rfl ?_
  refine lv_lload_n hx hb dX7_meanOf_29 rfl (lv_at hl 4 rfl) ?_
  refine lv_lmul hx hb dX7_meanOf_30 ?_
  refine lv_ladd hx hb dX7_meanOf_31 ?_
  refine lv_topl (fun w3 ew3 => ?_)
  replace hf := nm_at hf ew3
  refine lv_lstore (lv' := [(7, .long w3), (6, .int w2), (5, .int w1), (0, .ref (ad 0)), (1, .long p1), (3, .long p3)]) hx hb dX7_meanOf_32 hl (by decide) rfl (fun ls hl => ?_)
  refine lv_lload hx hb dX7_meanOf_34 (lv_at hl 0 rfl) ?_
  refine lv_ldc2 (v := 1000) hx hb hown (hts _ (gw_mem wkX7_52)) dX7_meanOf_36 ?_
  refine lv_lmul hx hb dX7_meanOf_39 ?_
  refine lv_iload hx hb dX7_meanOf_40 (lv_at hl 1 rfl) ?_
  refine lv_sipush (v := 1000) hx hb dX7_meanOf_42 (by decide) ?_
  refine lv_aload_n hx hb dX7_meanOf_45 rfl (lv_at hl 3 rfl) ?_
  refine va_get (D := (dC, dI)) (ci := 7) (v := .ref (ad 1)) (C := RX7) (T := TX7) (N := 1) hx hb hts (fun w h => gw_mem (inX7 w h)) hown hK.1 hP 0 rfl rfl 0 (by decide) (hts _ (gw_mem wfX7_9)) (fun _ h9 => h9) rfl dX7_meanOf_46 ?_
  refine lv_bipush (v := 8) hx hb dX7_meanOf_49 (by decide) ?_
  refine va_iald hx hb hK.1 hP 1 0 rfl rfl (okI_in (by decide)) dX7_meanOf_51 ?_
  refine lv_iadd hx hb dX7_meanOf_52 ?_
  refine lv_imul hx hb dX7_meanOf_53 ?_
  refine lv_i2l hx hb dX7_meanOf_54 rfl ?_
  obtain ⟨r4, v5, hf⟩ := bd1_some hf
  refine gcl0 (va_runSN (As := [.long (w3 * 1000), .long (Int32.toInt64 (w2 * (1000 + (c_parts (Int32.toNatClampNeg 8)))))]) (rest := []) ⟨hx, hb, hml, hown, hts⟩ (tX8_through l dC dI dA s.heap.size v5) (ccX7_X8_through hK.2 hts ⟨Nat.le_of_ble_eq_true rfl, Nat.le_of_ble_eq_true rfl⟩) (gPreS0 hK) rfl rfl hl.1 rfl (lv_room (Nat.le_of_ble_eq_true rfl)) dX7_meanOf_55 ⟨Nat.le_of_ble_eq_true rfl, Nat.le_of_ble_eq_true rfl⟩) hP hS hA (fun H locs hP hS => ?_)
  cases hf
  exact W.lret hx hb hr (fun t ht _ => gql hP hD hS ht) hS.2.2 dX7_meanOf_58
abbrev rmX0_set : Room := { frames := 0, cells := 0, slots := 0, locals := 0 }
set_option maxHeartbeats 4000000 in
set_option maxRecDepth 100000 in
theorem tX0_set (l : Launch) (dC : Nat → ClassId) (dI : Nat → Nat → Nat) (dA : Nat → ClassId) (ad : Nat → Nat) (sz : Nat) {p1 : Int32} {p2 : Int32} {c_terms : Nat → Int32} {o_c_terms : Nat → Int32} (hf : fX0_set p1 p2 c_terms = some (o_c_terms)) : Met l yX0_set (wq (Cond.code yX0_set cX0_set 3 none)) rmX0_set (gP [.ref (ad 0), .int p1, .int p2] (dC, dI) dA (wX0 dA ad c_terms) sz) (gQv (dC, dI) (wX0 dA ad o_c_terms) (va_A (wX0 dA ad c_terms) sz)) 0 0 (va_A (wX0 dA ad c_terms) sz) := by
  refine Met.ofW (cc := cX0_set) (maxL := 3) (ret := none) (by decide) rfl ?_
  intro p e s m args below meth c s₁ B hml hv
  obtain ⟨rfl, hsz, hP, hK, hD0⟩ := hv
  have hx := B.exec
  have hb := B.bytes
  have hr := B.returns
  have hts := atoms_spec (ws := wq (Cond.code yX0_set cX0_set 3 none)) B.pre
  have hown : s.vm.findClass RX0 = some m.cls := findClass_of_methodNamed B.named
  have hlocks := B.notSynchronized
  clear B
  subst hsz
  have hD := hD0.self (sz := s.heap.size)
  generalize hAe : va_A (wX0 dA ad c_terms) s.heap.size = A at hD ⊢
  have hA : ∀ q : Nat, s.heap.size ≤ q → A q := fun q h => by rw [← hAe]; exact Or.inr h
  clear hAe hD0
  have hS : va_S A s.heap s.heap [] := va_S.rf
  have hl := lv_entry ([.ref (ad 0), .int p1, .int p2]) (n := 3) (Nat.le_of_ble_eq_true rfl)
  rw [lg_entry_eq]
  generalize (lg_sl ([.ref (ad 0), .int p1, .int p2]) ++ List.replicate (3 - (lg_sl ([.ref (ad 0), .int p1, .int p2])).length) Slot.unset).toArray = ls at hl ⊢
  have hl : lv_has ls 3 [(0, .ref (ad 0)), (1, .int p1), (2, .int p2)] := hl
  change W p l e rmX0_set s m ([.ref (ad 0), .int p1, .int p2] : List Value).toArray below meth c s.heap [] 0 0 _ _
  unfold fX0_set at hf
  refine lv_iconst (v := 0) hx hb dX0_set_0 (by decide) ?_
  refine lv_iload_n hx hb dX0_set_1 rfl (lv_at hl 1 rfl) ?_
  obtain ⟨c_terms_2, v4, hf⟩ := bd1_some hf
  have J3 : ∀ (H : Heap) (locs : List Loc) (ls : Array Slot), va_P (dC, dI) vwCl (wX0 dA ad c_terms_2) H → va_D A (wX0 dA ad c_terms_2) → va_S A s.heap H locs → lv_has ls 3 [] → W p l e rmX0_set s m ([.ref (ad 0), .int p1, .int p2] : List Value).toArray below meth c H locs 0 0 (MQ below (gQv (dC, dI) (wX0 dA ad o_c_terms) A) ([.ref (ad 0), .int p1, .int p2] : List Value).toArray s 0 0 A) (F0 m 18 ls []) := by
    intro H locs ls hP hD hS hl
    cases hf
    exact W.vret hx hb hr (fun t ht _ => gqv hP hD hS ht) hS.2.2 dX0_set_18
  replace hf := v4
  clear v4
  refine lv_icmp_gt (tgt := 18) hx hb dX0_set_2 (by decide) (fun k1 => ?_) (fun k1 => ?_)
  · replace hf := ifp k1 hf
    cases hf
    exact J3 _ _ _ hP hD hS (lv_sub hl [] rfl)
  · replace hf := ifn k1 hf
    refine lv_iload_n hx hb dX0_set_5 rfl (lv_at hl 1 rfl) ?_
    refine lv_bipush (v := 36) hx hb dX0_set_6 (by decide) ?_
    refine lv_icmp_ge (tgt := 18) hx hb dX0_set_8 (by decide) (fun k5 => ?_) (fun k5 => ?_)
    · replace hf := ifp k5 hf
      cases hf
      exact J3 _ _ _ hP hD hS (lv_sub hl [] rfl)
    · replace hf := ifn k5 hf
      refine lv_aload_n hx hb dX0_set_11 rfl (lv_at hl 0 rfl) ?_
      refine va_get (D := (dC, dI)) (ci := 1) (v := .ref (ad 1)) (C := RX0) (T := TX0) (N := 1) hx hb hts (fun w h => gw_mem (inX0 w h)) hown hK.1 hP 0 rfl rfl 0 (by decide) (hts _ (gw_mem wfX0_11)) (fun _ h9 => h9) rfl dX0_set_12 ?_
      refine lv_iload_n hx hb dX0_set_15 rfl (lv_at hl 1 rfl) ?_
      refine lv_iload_n hx hb dX0_set_16 rfl (lv_at hl 2 rfl) ?_
      obtain ⟨h6, hf⟩ := og_some hf
      obtain ⟨w7, ew7⟩ : ∃ y : Nat → Int32, y = upd c_terms (Int32.toNatClampNeg p1) p2 := ⟨_, rfl⟩
      replace hf := nm_at hf ew7
      refine va_iast hx hb hK.1 hP hD hS 1 0 rfl rfl (okI_in h6) dX0_set_17 (fun H locs hP hD hS => ?_)
      have hP : va_P (dC, dI) vwCl (wX0 dA ad w7) H := by rw [ew7]; exact hP
      have hD : va_D A (wX0 dA ad w7) := by rw [ew7]; exact hD
      cases hf
      exact J3 _ _ _ hP hD hS (lv_sub hl [] rfl)
theorem ccX0_X0_set {R : Room} {s : State} {args : Array Value} {c0 : Cond} (ht : ∀ w ∈ wq c0, w.before args s = true) (hR : rmX0_set.frames + 1 ≤ R.frames ∧ 8 + (3 + 11) + rmX0_set.locals ≤ R.locals) : CallW R s args RX0 RX0 29 yX0_set cX0_set 3 none (wq (.code yX0_set cX0_set 3 none)) rmX0_set 0 0 2 := gCW 2 ht wcX0_set wmX0_29 wiX0_set weX0_set wnX0 (by decide +kernel) rfl rfl hR
abbrev rmX0_dropRights : Room := { frames := 1, cells := 0, slots := 0, locals := 22 }
set_option maxHeartbeats 4000000 in
set_option maxRecDepth 100000 in
theorem tX0_dropRights (l : Launch) (dC : Nat → ClassId) (dI : Nat → Nat → Nat) (dA : Nat → ClassId) (ad : Nat → Nat) (sz : Nat) {p1 : Int32} {c_terms : Nat → Int32} {o_c_terms : Nat → Int32} (hf : fX0_dropRights p1 c_terms = some (o_c_terms)) : Met l yX0_dropRights (wq (Cond.code yX0_dropRights cX0_dropRights 3 none)) rmX0_dropRights (gP [.ref (ad 0), .int p1] (dC, dI) dA (wX0 dA ad c_terms) sz) (gQv (dC, dI) (wX0 dA ad o_c_terms) (va_A (wX0 dA ad c_terms) sz)) 0 0 (va_A (wX0 dA ad c_terms) sz) := by
  refine Met.ofW (cc := cX0_dropRights) (maxL := 3) (ret := none) (by decide) rfl ?_
  intro p e s m args below meth c s₁ B hml hv
  obtain ⟨rfl, hsz, hP, hK, hD0⟩ := hv
  have hx := B.exec
  have hb := B.bytes
  have hr := B.returns
  have hts := atoms_spec (ws := wq (Cond.code yX0_dropRights cX0_dropRights 3 none)) B.pre
  have hown : s.vm.findClass RX0 = some m.cls := findClass_of_methodNamed B.named
  have hlocks := B.notSynchronized
  clear B
  subst hsz
  have hD := hD0.self (sz := s.heap.size)
  generalize hAe : va_A (wX0 dA ad c_terms) s.heap.size = A at hD ⊢
  have hA : ∀ q : Nat, s.heap.size ≤ q → A q := fun q h => by rw [← hAe]; exact Or.inr h
  clear hAe hD0
  have hS : va_S A s.heap s.heap [] := va_S.rf
  have hl := lv_entry ([.ref (ad 0), .int p1]) (n := 3) (Nat.le_of_ble_eq_true rfl)
  rw [lg_entry_eq]
  generalize (lg_sl ([.ref (ad 0), .int p1]) ++ List.replicate (3 - (lg_sl ([.ref (ad 0), .int p1])).length) Slot.unset).toArray = ls at hl ⊢
  have hl : lv_has ls 3 [(0, .ref (ad 0)), (1, .int p1)] := hl
  change W p l e rmX0_dropRights s m ([.ref (ad 0), .int p1] : List Value).toArray below meth c s.heap [] 0 0 _ _
  generalize hQ : MQ below (gQv (dC, dI) (wX0 dA ad o_c_terms) A) ([.ref (ad 0), .int p1] : List Value).toArray s 0 0 A = Q
  have LP2 : ∀ (n : Nat) (x1 : Int32) (x2 : Int32) (c_terms : Nat → Int32) (o_c_terms : Nat → Int32) (H : Heap) (locs : List Loc) (ls : Array Slot), va_P (dC, dI) vwCl (wX0 dA ad c_terms) H → va_D A (wX0 dA ad c_terms) → va_S A s.heap H locs → lpX0_dropRights_2 x1 n x2 c_terms = some (o_c_terms) → lv_has ls 3 [(0, .ref (ad 0)), (1, .int x1), (2, .int x2)] → (∀ (H : Heap) (locs : List Loc) (ls : Array Slot), va_P (dC, dI) vwCl (wX0 dA ad o_c_terms) H → va_D A (wX0 dA ad o_c_terms) → va_S A s.heap H locs → lv_has ls 3 [] → W p l e rmX0_dropRights s m ([.ref (ad 0), .int p1] : List Value).toArray below meth c H locs 0 0 Q (F0 m 23 ls [])) → W p l e rmX0_dropRights s m ([.ref (ad 0), .int p1] : List Value).toArray below meth c H locs 0 0 Q (F0 m 2 ls []) := by
    intro n
    induction n with
    | zero =>
      intro x1 x2 c_terms o_c_terms H locs ls hP hD hS hf hl hk
      cases hf
    | succ n ih2 =>
      intro x1 x2 c_terms o_c_terms H locs ls hP hD hS hf hl hk
      rw [lpX0_dropRights_2.eq_2] at hf
      refine lv_iload_n hx hb dX0_dropRights_2 rfl (lv_at hl 2 rfl) ?_
      refine lv_bipush (v := 6) hx hb dX0_dropRights_3 (by decide) ?_
      refine lv_icmp_ge (tgt := 23) hx hb dX0_dropRights_5 (by decide) (fun k3 => ?_) (fun k3 => ?_)
      · replace hf := ifp k3 hf
        cases hf
        exact hk _ _ _ hP hD hS (lv_sub hl [] rfl)
      · replace hf := ifn k3 hf
        refine lv_aload_n hx hb dX0_dropRights_8 rfl (lv_at hl 0 rfl) ?_
        refine lv_iload_n hx hb dX0_dropRights_9 rfl (lv_at hl 1 rfl) ?_
        refine lv_iload_n hx hb dX0_dropRights_10 rfl (lv_at hl 2 rfl) ?_
        refine lv_iadd hx hb dX0_dropRights_11 ?_
        refine lv_bipush (v := (-2)) hx hb dX0_dropRights_12 (by decide) ?_
        obtain ⟨c_terms_4, v5, hf⟩ := bd1_some hf
        refine gcv (va_runV (As := [.int (x1 + x2), .int (-2)]) (rest := []) ⟨hx, hb, hml, hown, hts⟩ (tX0_set l dC dI dA ad H.size v5) (ccX0_X0_set hts ⟨Nat.le_of_ble_eq_true rfl, Nat.le_of_ble_eq_true rfl⟩) (gPreV (ci := 1) (q0 := 0) hP hK hD rfl rfl) rfl rfl hl.1 rfl (lv_room (Nat.le_of_ble_eq_true rfl)) dX0_dropRights_14 ⟨Nat.le_of_ble_eq_true rfl, Nat.le_of_ble_eq_true rfl⟩) hD hS hA (fun H locs hP hD hS => ?_)
        obtain ⟨w6, ew6⟩ : ∃ y : Int32, y = x2 + 1 := ⟨_, rfl⟩
        replace hf := nm_at hf ew6
        refine lv_iinc (v := w6) (lv' := [(2, .int w6), (0, .ref (ad 0)), (1, .int x1)]) hx hb dX0_dropRights_17 hl (k := 2) rfl (by rw [ew6]; rfl) (by decide) rfl (fun ls hl => ?_)
        refine lv_goto (tgt := 2) hx hb dX0_dropRights_20 (by decide) ?_
        exact ih2 _ _ _ _ _ _ _ hP hD hS hf (lv_sub hl [1, 2, 0] rfl) hk
  subst hQ
  unfold fX0_dropRights at hf
  refine lv_iconst (v := 0) hx hb dX0_dropRights_0 (by decide) ?_
  refine lv_istore_n (lv' := [(2, .int 0), (0, .ref (ad 0)), (1, .int p1)]) hx hb dX0_dropRights_1 rfl hl (by decide) rfl (fun ls hl => ?_)
  obtain ⟨c_terms_1, v2, hf⟩ := bd1_some hf
  refine LP2 FU _ _ _ _ _ _ _ hP hD hS v2 (lv_sub hl [1, 2, 0] rfl) (fun H locs ls hP hD hS hl => ?_)
  cases hf
  exact W.vret hx hb hr (fun t ht _ => gqv hP hD hS ht) hS.2.2 dX0_dropRights_23
theorem ccX0_X8_within {R : Room} {s : State} {args : Array Value} {c0 : Cond} (hN : gN s) (ht : ∀ w ∈ wq c0, w.before args s = true) (hR : rmX8_within.frames + 1 ≤ R.frames ∧ 8 + (3 + 11) + rmX8_within.locals ≤ R.locals) : va_CN R s args RX0 19 yX8_within RX8 cX8_within 3 (some .boolean) (wq (.code yX8_within cX8_within 3 (some .boolean))) rmX8_within 0 0 3 ∧ (Cond.static yX8_within).before args s = true ∧ True := gCSN 3 hN ht wcX8_within wmX0_19 wtX8_within wnX8 (by decide +kernel) rfl rfl hR
abbrev rmX0_hasTerm : Room := { frames := 1, cells := 0, slots := 0, locals := 22 }
set_option maxHeartbeats 4000000 in
set_option maxRecDepth 100000 in
theorem tX0_hasTerm (l : Launch) (dC : Nat → ClassId) (dI : Nat → Nat → Nat) (dA : Nat → ClassId) (sz : Nat) {p0 : Int32} {r : Int32} (hf : fX0_hasTerm p0 = some (r)) : Met l yX0_hasTerm (wq (Cond.code yX0_hasTerm cX0_hasTerm 1 (some .boolean))) rmX0_hasTerm (gP [.int p0] (dC, dI) dA [] sz) (gQi (dC, dI) r [] (va_A [] sz)) 0 0 (va_A [] sz) := by
  refine Met.ofW (cc := cX0_hasTerm) (maxL := 1) (ret := (some .boolean)) (by decide) rfl ?_
  intro p e s m args below meth c s₁ B hml hv
  obtain ⟨rfl, hsz, hP, hK, hD0⟩ := hv
  have hx := B.exec
  have hb := B.bytes
  have hr := B.returns
  have hts := atoms_spec (ws := wq (Cond.code yX0_hasTerm cX0_hasTerm 1 (some .boolean))) B.pre
  have hown : s.vm.findClass RX0 = some m.cls := findClass_of_methodNamed B.named
  have hlocks := B.notSynchronized
  clear B
  subst hsz
  have hD := hD0.self (sz := s.heap.size)
  generalize hAe : va_A [] s.heap.size = A at hD ⊢
  have hA : ∀ q : Nat, s.heap.size ≤ q → A q := fun q h => by rw [← hAe]; exact Or.inr h
  clear hAe hD0
  have hS : va_S A s.heap s.heap [] := va_S.rf
  have hl := lv_entry ([.int p0]) (n := 1) (Nat.le_of_ble_eq_true rfl)
  rw [lg_entry_eq]
  generalize (lg_sl ([.int p0]) ++ List.replicate (1 - (lg_sl ([.int p0])).length) Slot.unset).toArray = ls at hl ⊢
  have hl : lv_has ls 1 [(0, .int p0)] := hl
  change W p l e rmX0_hasTerm s m ([.int p0] : List Value).toArray below meth c s.heap [] 0 0 _ _
  unfold fX0_hasTerm at hf
  refine lv_iload_n hx hb dX0_hasTerm_0 rfl (lv_at hl 0 rfl) ?_
  refine lv_iconst (v := 0) hx hb dX0_hasTerm_1 (by decide) ?_
  refine lv_bipush (v := 7) hx hb dX0_hasTerm_2 (by decide) ?_
  obtain ⟨r1, v2, hf⟩ := bd1_some hf
  refine gci0 (va_runSN (As := [.int p0, .int 0, .int 7]) (rest := []) ⟨hx, hb, hml, hown, hts⟩ (tX8_within l dC dI dA s.heap.size v2) (ccX0_X8_within hK.2 hts ⟨Nat.le_of_ble_eq_true rfl, Nat.le_of_ble_eq_true rfl⟩) (gPreS0 hK) rfl rfl hl.1 rfl (lv_room (Nat.le_of_ble_eq_true rfl)) dX0_hasTerm_4 ⟨Nat.le_of_ble_eq_true rfl, Nat.le_of_ble_eq_true rfl⟩) hP hS hA (fun H locs hP hS => ?_)
  obtain ⟨j4, v6, hf⟩ := bd1_some hf
  have J5 : ∀ (H : Heap) (locs : List Loc) (ls : Array Slot), va_P (dC, dI) vwCl [] H → va_D A [] → va_S A s.heap H locs → lv_has ls 1 [] → W p l e rmX0_hasTerm s m ([.int p0] : List Value).toArray below meth c H locs 0 0 (MQ below (gQi (dC, dI) r [] A) ([.int p0] : List Value).toArray s 0 0 A) (F0 m 48 ls [.int j4]) := by
    intro H locs ls hP hD hS hl
    obtain ⟨h7, hf⟩ := og_some hf
    cases hf
    exact W.zret (ty := .boolean) hx hb hr (boB_nar h7) (fun t ht _ => gqi hP hD hS ht) hS.2.2 dX0_hasTerm_48
  replace hf := v6
  clear v6
  refine lv_if_ne (tgt := 43) hx hb dX0_hasTerm_7 (by decide) (fun k3 => ?_) (fun k3 => ?_)
  · replace hf := ifn k3 hf
    refine lv_iconst (v := 1) hx hb dX0_hasTerm_43 (by decide) ?_
    refine lv_goto (tgt := 48) hx hb dX0_hasTerm_44 (by decide) ?_
    cases hf
    exact J5 _ _ _ hP hD hS (lv_sub hl [] rfl)
  · replace hf := ifp k3 hf
    refine lv_iload_n hx hb dX0_hasTerm_10 rfl (lv_at hl 0 rfl) ?_
    refine lv_bipush (v := 11) hx hb dX0_hasTerm_11 (by decide) ?_
    refine lv_bipush (v := 16) hx hb dX0_hasTerm_13 (by decide) ?_
    obtain ⟨r8, v9, hf⟩ := bd1_some hf
    refine gci0 (va_runSN (As := [.int p0, .int 11, .int 16]) (rest := []) ⟨hx, hb, hml, hown, hts⟩ (tX8_within l dC dI dA H.size v9) (ccX0_X8_within hK.2 hts ⟨Nat.le_of_ble_eq_true rfl, Nat.le_of_ble_eq_true rfl⟩) (gPreS0 hK) rfl rfl hl.1 rfl (lv_room (Nat.le_of_ble_eq_true rfl)) dX0_hasTerm_15 ⟨Nat.le_of_ble_eq_true rfl, Nat.le_of_ble_eq_true rfl⟩) hP hS hA (fun H locs hP hS => ?_)
    refine lv_if_ne (tgt := 43) hx hb dX0_hasTerm_18 (by decide) (fun k10 => ?_) (fun k10 => ?_)
    · replace hf := ifn k10 hf
      refine lv_iconst (v := 1) hx hb dX0_hasTerm_43 (by decide) ?_
      refine lv_goto (tgt := 48) hx hb dX0_hasTerm_44 (by decide) ?_
      cases hf
      exact J5 _ _ _ hP hD hS (lv_sub hl [] rfl)
    · replace hf := ifp k10 hf
      refine lv_iload_n hx hb dX0_hasTerm_21 rfl (lv_at hl 0 rfl) ?_
      refine lv_bipush (v := 20) hx hb dX0_hasTerm_22 (by decide) ?_
      refine lv_bipush (v := 25) hx hb dX0_hasTerm_24 (by decide) ?_
      obtain ⟨r11, v12, hf⟩ := bd1_some hf
      refine gci0 (va_runSN (As := [.int p0, .int 20, .int 25]) (rest := []) ⟨hx, hb, hml, hown, hts⟩ (tX8_within l dC dI dA H.size v12) (ccX0_X8_within hK.2 hts ⟨Nat.le_of_ble_eq_true rfl, Nat.le_of_ble_eq_true rfl⟩) (gPreS0 hK) rfl rfl hl.1 rfl (lv_room (Nat.le_of_ble_eq_true rfl)) dX0_hasTerm_26 ⟨Nat.le_of_ble_eq_true rfl, Nat.le_of_ble_eq_true rfl⟩) hP hS hA (fun H locs hP hS => ?_)
      refine lv_if_ne (tgt := 43) hx hb dX0_hasTerm_29 (by decide) (fun k13 => ?_) (fun k13 => ?_)
      · replace hf := ifn k13 hf
        refine lv_iconst (v := 1) hx hb dX0_hasTerm_43 (by decide) ?_
        refine lv_goto (tgt := 48) hx hb dX0_hasTerm_44 (by decide) ?_
        cases hf
        exact J5 _ _ _ hP hD hS (lv_sub hl [] rfl)
      · replace hf := ifp k13 hf
        refine lv_iload_n hx hb dX0_hasTerm_32 rfl (lv_at hl 0 rfl) ?_
        refine lv_bipush (v := 30) hx hb dX0_hasTerm_33 (by decide) ?_
        refine lv_bipush (v := 35) hx hb dX0_hasTerm_35 (by decide) ?_
        obtain ⟨r14, v15, hf⟩ := bd1_some hf
        refine gci0 (va_runSN (As := [.int p0, .int 30, .int 35]) (rest := []) ⟨hx, hb, hml, hown, hts⟩ (tX8_within l dC dI dA H.size v15) (ccX0_X8_within hK.2 hts ⟨Nat.le_of_ble_eq_true rfl, Nat.le_of_ble_eq_true rfl⟩) (gPreS0 hK) rfl rfl hl.1 rfl (lv_room (Nat.le_of_ble_eq_true rfl)) dX0_hasTerm_37 ⟨Nat.le_of_ble_eq_true rfl, Nat.le_of_ble_eq_true rfl⟩) hP hS hA (fun H locs hP hS => ?_)
        refine lv_if_eq (tgt := 47) hx hb dX0_hasTerm_40 (by decide) (fun k16 => ?_) (fun k16 => ?_)
        · replace hf := ifp k16 hf
          refine lv_iconst (v := 0) hx hb dX0_hasTerm_47 (by decide) ?_
          cases hf
          exact J5 _ _ _ hP hD hS (lv_sub hl [] rfl)
        · replace hf := ifn k16 hf
          refine lv_iconst (v := 1) hx hb dX0_hasTerm_43 (by decide) ?_
          refine lv_goto (tgt := 48) hx hb dX0_hasTerm_44 (by decide) ?_
          cases hf
          exact J5 _ _ _ hP hD hS (lv_sub hl [] rfl)
abbrev rmX0_get : Room := { frames := 0, cells := 0, slots := 0, locals := 0 }
set_option maxHeartbeats 4000000 in
set_option maxRecDepth 100000 in
theorem tX0_get (l : Launch) (dC : Nat → ClassId) (dI : Nat → Nat → Nat) (dA : Nat → ClassId) (ad : Nat → Nat) (sz : Nat) {p1 : Int32} {c_terms : Nat → Int32} {r : Int32} (hf : fX0_get p1 c_terms = some (r)) : Met l yX0_get (wq (Cond.code yX0_get cX0_get 2 (some .int))) rmX0_get (gP [.ref (ad 0), .int p1] (dC, dI) dA (wX0 dA ad c_terms) sz) (gQi (dC, dI) r (wX0 dA ad c_terms) (va_A (wX0 dA ad c_terms) sz)) 0 0 (va_A (wX0 dA ad c_terms) sz) := by
  refine Met.ofW (cc := cX0_get) (maxL := 2) (ret := (some .int)) (by decide) rfl ?_
  intro p e s m args below meth c s₁ B hml hv
  obtain ⟨rfl, hsz, hP, hK, hD0⟩ := hv
  have hx := B.exec
  have hb := B.bytes
  have hr := B.returns
  have hts := atoms_spec (ws := wq (Cond.code yX0_get cX0_get 2 (some .int))) B.pre
  have hown : s.vm.findClass RX0 = some m.cls := findClass_of_methodNamed B.named
  have hlocks := B.notSynchronized
  clear B
  subst hsz
  have hD := hD0.self (sz := s.heap.size)
  generalize hAe : va_A (wX0 dA ad c_terms) s.heap.size = A at hD ⊢
  have hA : ∀ q : Nat, s.heap.size ≤ q → A q := fun q h => by rw [← hAe]; exact Or.inr h
  clear hAe hD0
  have hS : va_S A s.heap s.heap [] := va_S.rf
  have hl := lv_entry ([.ref (ad 0), .int p1]) (n := 2) (Nat.le_of_ble_eq_true rfl)
  rw [lg_entry_eq]
  generalize (lg_sl ([.ref (ad 0), .int p1]) ++ List.replicate (2 - (lg_sl ([.ref (ad 0), .int p1])).length) Slot.unset).toArray = ls at hl ⊢
  have hl : lv_has ls 2 [(0, .ref (ad 0)), (1, .int p1)] := hl
  change W p l e rmX0_get s m ([.ref (ad 0), .int p1] : List Value).toArray below meth c s.heap [] 0 0 _ _
  unfold fX0_get at hf
  refine lv_iconst (v := 0) hx hb dX0_get_0 (by decide) ?_
  refine lv_iload_n hx hb dX0_get_1 rfl (lv_at hl 1 rfl) ?_
  obtain ⟨j2, v4, hf⟩ := bd1_some hf
  have J3 : ∀ (H : Heap) (locs : List Loc) (ls : Array Slot), va_P (dC, dI) vwCl (wX0 dA ad c_terms) H → va_D A (wX0 dA ad c_terms) → va_S A s.heap H locs → lv_has ls 2 [] → W p l e rmX0_get s m ([.ref (ad 0), .int p1] : List Value).toArray below meth c H locs 0 0 (MQ below (gQi (dC, dI) r (wX0 dA ad c_terms) A) ([.ref (ad 0), .int p1] : List Value).toArray s 0 0 A) (F0 m 21 ls [.int j2]) := by
    intro H locs ls hP hD hS hl
    cases hf
    exact W.iret hx hb hr (fun t ht _ => gqi hP hD hS ht) hS.2.2 dX0_get_21
  replace hf := v4
  clear v4
  refine lv_icmp_gt (tgt := 20) hx hb dX0_get_2 (by decide) (fun k1 => ?_) (fun k1 => ?_)
  · replace hf := ifp k1 hf
    refine lv_iconst (v := (-1)) hx hb dX0_get_20 (by decide) ?_
    cases hf
    exact J3 _ _ _ hP hD hS (lv_sub hl [] rfl)
  · replace hf := ifn k1 hf
    refine lv_iload_n hx hb dX0_get_5 rfl (lv_at hl 1 rfl) ?_
    refine lv_bipush (v := 36) hx hb dX0_get_6 (by decide) ?_
    refine lv_icmp_ge (tgt := 20) hx hb dX0_get_8 (by decide) (fun k5 => ?_) (fun k5 => ?_)
    · replace hf := ifp k5 hf
      refine lv_iconst (v := (-1)) hx hb dX0_get_20 (by decide) ?_
      cases hf
      exact J3 _ _ _ hP hD hS (lv_sub hl [] rfl)
    · replace hf := ifn k5 hf
      refine lv_aload_n hx hb dX0_get_11 rfl (lv_at hl 0 rfl) ?_
      refine va_get (D := (dC, dI)) (ci := 1) (v := .ref (ad 1)) (C := RX0) (T := TX0) (N := 1) hx hb hts (fun w h => gw_mem (inX0 w h)) hown hK.1 hP 0 rfl rfl 0 (by decide) (hts _ (gw_mem wfX0_11)) (fun _ h9 => h9) rfl dX0_get_12 ?_
      refine lv_iload_n hx hb dX0_get_15 rfl (lv_at hl 1 rfl) ?_
      obtain ⟨h6, hf⟩ := og_some hf
      refine va_iald hx hb hK.1 hP 1 0 rfl rfl (okI_in h6) dX0_get_16 ?_
      refine lv_goto (tgt := 21) hx hb dX0_get_17 (by decide) ?_
      cases hf
      exact J3 _ _ _ hP hD hS (lv_sub hl [] rfl)
abbrev rmX0_takeFrom : Room := { frames := 1, cells := 0, slots := 0, locals := 60 }
set_option maxHeartbeats 4000000 in
set_option maxRecDepth 100000 in
theorem tX0_takeFrom (l : Launch) (dC : Nat → ClassId) (dI : Nat → Nat → Nat) (dA : Nat → ClassId) (ad : Nat → Nat) (ad1 : Nat → Nat) (sz : Nat) {c_terms : Nat → Int32} {d1_terms : Nat → Int32} {o_c_terms : Nat → Int32} (hf : fX0_takeFrom c_terms d1_terms = some (o_c_terms)) : Met l yX0_takeFrom (wq (Cond.code yX0_takeFrom cX0_takeFrom 2 none)) rmX0_takeFrom (gP [.ref (ad 0), .ref (ad1 0)] (dC, dI) dA ((wX0 dA ad c_terms) ++ (wX0 dA ad1 d1_terms)) sz) (gQv (dC, dI) ((wX0 dA ad o_c_terms) ++ (wX0 dA ad1 d1_terms)) (va_A ((wX0 dA ad c_terms) ++ (wX0 dA ad1 d1_terms)) sz)) 0 0 (va_A ((wX0 dA ad c_terms) ++ (wX0 dA ad1 d1_terms)) sz) := by
  refine Met.ofW (cc := cX0_takeFrom) (maxL := 2) (ret := none) (by decide) rfl ?_
  intro p e s m args below meth c s₁ B hml hv
  obtain ⟨rfl, hsz, hP, hK, hD0⟩ := hv
  have hx := B.exec
  have hb := B.bytes
  have hr := B.returns
  have hts := atoms_spec (ws := wq (Cond.code yX0_takeFrom cX0_takeFrom 2 none)) B.pre
  have hown : s.vm.findClass RX0 = some m.cls := findClass_of_methodNamed B.named
  have hlocks := B.notSynchronized
  clear B
  subst hsz
  have hD := hD0.self (sz := s.heap.size)
  generalize hAe : va_A ((wX0 dA ad c_terms) ++ (wX0 dA ad1 d1_terms)) s.heap.size = A at hD ⊢
  have hA : ∀ q : Nat, s.heap.size ≤ q → A q := fun q h => by rw [← hAe]; exact Or.inr h
  clear hAe hD0
  have hS : va_S A s.heap s.heap [] := va_S.rf
  have hl := lv_entry ([.ref (ad 0), .ref (ad1 0)]) (n := 2) (Nat.le_of_ble_eq_true rfl)
  rw [lg_entry_eq]
  generalize (lg_sl ([.ref (ad 0), .ref (ad1 0)]) ++ List.replicate (2 - (lg_sl ([.ref (ad 0), .ref (ad1 0)])).length) Slot.unset).toArray = ls at hl ⊢
  have hl : lv_has ls 2 [(0, .ref (ad 0)), (1, .ref (ad1 0))] := hl
  change W p l e rmX0_takeFrom s m ([.ref (ad 0), .ref (ad1 0)] : List Value).toArray below meth c s.heap [] 0 0 _ _
  unfold fX0_takeFrom at hf
  refine lv_aload_n hx hb dX0_takeFrom_0 rfl (lv_at hl 1 rfl) ?_
  refine va_get (D := (dC, dI)) (ci := 1) (v := .ref (ad1 1)) (C := RX0) (T := TX0) (N := 1) hx hb hts (fun w h => gw_mem (inX0 w h)) hown hK.1 hP 2 rfl rfl 0 (by decide) (hts _ (gw_mem wfX0_11)) (fun _ h9 => h9) rfl dX0_takeFrom_1 ?_
  refine lv_iconst (v := 0) hx hb dX0_takeFrom_4 (by decide) ?_
  refine lv_aload_n hx hb dX0_takeFrom_5 rfl (lv_at hl 0 rfl) ?_
  refine va_get (D := (dC, dI)) (ci := 1) (v := .ref (ad 1)) (C := RX0) (T := TX0) (N := 1) hx hb hts (fun w h => gw_mem (inX0 w h)) hown hK.1 hP 0 rfl rfl 0 (by decide) (hts _ (gw_mem wfX0_11)) (fun _ h9 => h9) rfl dX0_takeFrom_6 ?_
  refine lv_iconst (v := 0) hx hb dX0_takeFrom_9 (by decide) ?_
  refine lv_bipush (v := 36) hx hb dX0_takeFrom_10 (by decide) ?_
  obtain ⟨w1, ew1⟩ : ∃ y : Nat → Int32, y = va_cpy d1_terms c_terms (Int32.toNatClampNeg 0) (Int32.toNatClampNeg 0) (Int32.toNatClampNeg 36) := ⟨_, rfl⟩
  replace hf := nm_at hf ew1
  refine va_copyi (ty := .int) hx hb (hml.trans hl.1.symm) hown (hts _ (gw_mem wmX0_23)) (hts _ (gw_mem wo_arraycopy)) (hts _ (gw_mem wt_arraycopy)) (hts _ (gw_mem wnJ10)) hK.1 hP hD hS 3 1 0 0 rfl rfl rfl rfl rfl (by decide) (by decide) (by decide) (by decide) (by decide) (fun _ _ => rfl) (Nat.le_of_ble_eq_true rfl) (by decide +kernel) dX0_takeFrom_12 (fun H locs hP hD hS => ?_)
  have hP : va_P (dC, dI) vwCl ((wX0 dA ad w1) ++ (wX0 dA ad1 d1_terms)) H := by rw [ew1]; exact hP
  have hD : va_D A ((wX0 dA ad w1) ++ (wX0 dA ad1 d1_terms)) := by rw [ew1]; exact hD
  cases hf
  exact W.vret hx hb hr (fun t ht _ => gqv hP hD hS ht) hS.2.2 dX0_takeFrom_15
abbrev rmX0_setAllCoupons : Room := { frames := 0, cells := 0, slots := 0, locals := 0 }
set_option maxHeartbeats 4000000 in
set_option maxRecDepth 100000 in
theorem tX0_setAllCoupons (l : Launch) (dC : Nat → ClassId) (dI : Nat → Nat → Nat) (dA : Nat → ClassId) (ad : Nat → Nat) (sz : Nat) {p1 : Int32} {c_terms : Nat → Int32} {o_c_terms : Nat → Int32} (hf : fX0_setAllCoupons p1 c_terms = some (o_c_terms)) : Met l yX0_setAllCoupons (wq (Cond.code yX0_setAllCoupons cX0_setAllCoupons 3 none)) rmX0_setAllCoupons (gP [.ref (ad 0), .int p1] (dC, dI) dA (wX0 dA ad c_terms) sz) (gQv (dC, dI) (wX0 dA ad o_c_terms) (va_A (wX0 dA ad c_terms) sz)) 0 0 (va_A (wX0 dA ad c_terms) sz) := by
  refine Met.ofW (cc := cX0_setAllCoupons) (maxL := 3) (ret := none) (by decide) rfl ?_
  intro p e s m args below meth c s₁ B hml hv
  obtain ⟨rfl, hsz, hP, hK, hD0⟩ := hv
  have hx := B.exec
  have hb := B.bytes
  have hr := B.returns
  have hts := atoms_spec (ws := wq (Cond.code yX0_setAllCoupons cX0_setAllCoupons 3 none)) B.pre
  have hown : s.vm.findClass RX0 = some m.cls := findClass_of_methodNamed B.named
  have hlocks := B.notSynchronized
  clear B
  subst hsz
  have hD := hD0.self (sz := s.heap.size)
  generalize hAe : va_A (wX0 dA ad c_terms) s.heap.size = A at hD ⊢
  have hA : ∀ q : Nat, s.heap.size ≤ q → A q := fun q h => by rw [← hAe]; exact Or.inr h
  clear hAe hD0
  have hS : va_S A s.heap s.heap [] := va_S.rf
  have hl := lv_entry ([.ref (ad 0), .int p1]) (n := 3) (Nat.le_of_ble_eq_true rfl)
  rw [lg_entry_eq]
  generalize (lg_sl ([.ref (ad 0), .int p1]) ++ List.replicate (3 - (lg_sl ([.ref (ad 0), .int p1])).length) Slot.unset).toArray = ls at hl ⊢
  have hl : lv_has ls 3 [(0, .ref (ad 0)), (1, .int p1)] := hl
  change W p l e rmX0_setAllCoupons s m ([.ref (ad 0), .int p1] : List Value).toArray below meth c s.heap [] 0 0 _ _
  generalize hQ : MQ below (gQv (dC, dI) (wX0 dA ad o_c_terms) A) ([.ref (ad 0), .int p1] : List Value).toArray s 0 0 A = Q
  have LP2 : ∀ (n : Nat) (x1 : Int32) (x2 : Int32) (c_terms : Nat → Int32) (o_c_terms : Nat → Int32) (H : Heap) (locs : List Loc) (ls : Array Slot), va_P (dC, dI) vwCl (wX0 dA ad c_terms) H → va_D A (wX0 dA ad c_terms) → va_S A s.heap H locs → lpX0_setAllCoupons_2 x1 n x2 c_terms = some (o_c_terms) → lv_has ls 3 [(0, .ref (ad 0)), (1, .int x1), (2, .int x2)] → (∀ (H : Heap) (locs : List Loc) (ls : Array Slot), va_P (dC, dI) vwCl (wX0 dA ad o_c_terms) H → va_D A (wX0 dA ad o_c_terms) → va_S A s.heap H locs → lv_has ls 3 [] → W p l e rmX0_setAllCoupons s m ([.ref (ad 0), .int p1] : List Value).toArray below meth c H locs 0 0 Q (F0 m 24 ls [])) → W p l e rmX0_setAllCoupons s m ([.ref (ad 0), .int p1] : List Value).toArray below meth c H locs 0 0 Q (F0 m 2 ls []) := by
    intro n
    induction n with
    | zero =>
      intro x1 x2 c_terms o_c_terms H locs ls hP hD hS hf hl hk
      cases hf
    | succ n ih2 =>
      intro x1 x2 c_terms o_c_terms H locs ls hP hD hS hf hl hk
      rw [lpX0_setAllCoupons_2.eq_2] at hf
      refine lv_iload_n hx hb dX0_setAllCoupons_2 rfl (lv_at hl 2 rfl) ?_
      refine lv_bipush (v := 6) hx hb dX0_setAllCoupons_3 (by decide) ?_
      refine lv_icmp_gt (tgt := 24) hx hb dX0_setAllCoupons_5 (by decide) (fun k3 => ?_) (fun k3 => ?_)
      · replace hf := ifp k3 hf
        cases hf
        exact hk _ _ _ hP hD hS (lv_sub hl [] rfl)
      · replace hf := ifn k3 hf
        refine lv_aload_n hx hb dX0_setAllCoupons_8 rfl (lv_at hl 0 rfl) ?_
        refine va_get (D := (dC, dI)) (ci := 1) (v := .ref (ad 1)) (C := RX0) (T := TX0) (N := 1) hx hb hts (fun w h => gw_mem (inX0 w h)) hown hK.1 hP 0 rfl rfl 0 (by decide) (hts _ (gw_mem wfX0_11)) (fun _ h9 => h9) rfl dX0_setAllCoupons_9 ?_
        refine lv_bipush (v := 10) hx hb dX0_setAllCoupons_12 (by decide) ?_
        refine lv_iload_n hx hb dX0_setAllCoupons_14 rfl (lv_at hl 2 rfl) ?_
        refine lv_iadd hx hb dX0_setAllCoupons_15 ?_
        refine lv_iload_n hx hb dX0_setAllCoupons_16 rfl (lv_at hl 1 rfl) ?_
        obtain ⟨h4, hf⟩ := og_some hf
        obtain ⟨w5, ew5⟩ : ∃ y : Nat → Int32, y = upd c_terms (Int32.toNatClampNeg (10 + x2)) x1 := ⟨_, rfl⟩
        replace hf := nm_at hf ew5
        refine va_iast hx hb hK.1 hP hD hS 1 0 rfl rfl (okI_in h4) dX0_setAllCoupons_17 (fun H locs hP hD hS => ?_)
        have hP : va_P (dC, dI) vwCl (wX0 dA ad w5) H := by rw [ew5]; exact hP
        have hD : va_D A (wX0 dA ad w5) := by rw [ew5]; exact hD
        obtain ⟨w6, ew6⟩ : ∃ y : Int32, y = x2 + 1 := ⟨_, rfl⟩
        replace hf := nm_at hf ew6
        refine lv_iinc (v := w6) (lv' := [(2, .int w6), (0, .ref (ad 0)), (1, .int x1)]) hx hb dX0_setAllCoupons_18 hl (k := 2) rfl (by rw [ew6]; rfl) (by decide) rfl (fun ls hl => ?_)
        refine lv_goto (tgt := 2) hx hb dX0_setAllCoupons_21 (by decide) ?_
        exact ih2 _ _ _ _ _ _ _ hP hD hS hf (lv_sub hl [1, 2, 0] rfl) hk
  subst hQ
  unfold fX0_setAllCoupons at hf
  refine lv_iconst (v := 1) hx hb dX0_setAllCoupons_0 (by decide) ?_
  refine lv_istore_n (lv' := [(2, .int 1), (0, .ref (ad 0)), (1, .int p1)]) hx hb dX0_setAllCoupons_1 rfl hl (by decide) rfl (fun ls hl => ?_)
  obtain ⟨c_terms_1, v2, hf⟩ := bd1_some hf
  refine LP2 FU _ _ _ _ _ _ _ hP hD hS v2 (lv_sub hl [1, 2, 0] rfl) (fun H locs ls hP hD hS hl => ?_)
  cases hf
  exact W.vret hx hb hr (fun t ht _ => gqv hP hD hS ht) hS.2.2 dX0_setAllCoupons_24
theorem ccX0_X0_dropRights {R : Room} {s : State} {args : Array Value} {c0 : Cond} (ht : ∀ w ∈ wq c0, w.before args s = true) (hR : rmX0_dropRights.frames + 1 ≤ R.frames ∧ 8 + (3 + 11) + rmX0_dropRights.locals ≤ R.locals) : CallW R s args RX0 RX0 15 yX0_dropRights cX0_dropRights 3 none (wq (.code yX0_dropRights cX0_dropRights 3 none)) rmX0_dropRights 0 0 1 := gCW 1 ht wcX0_dropRights wmX0_15 wiX0_dropRights weX0_dropRights wnX0 (by decide +kernel) rfl rfl hR
abbrev rmX0_giveUp : Room := { frames := 2, cells := 0, slots := 0, locals := 44 }
set_option maxHeartbeats 4000000 in
set_option maxRecDepth 100000 in
theorem tX0_giveUp (l : Launch) (dC : Nat → ClassId) (dI : Nat → Nat → Nat) (dA : Nat → ClassId) (ad : Nat → Nat) (sz : Nat) {p1 : Int32} {c_terms : Nat → Int32} {o_c_terms : Nat → Int32} (hf : fX0_giveUp p1 c_terms = some (o_c_terms)) : Met l yX0_giveUp (wq (Cond.code yX0_giveUp cX0_giveUp 2 none)) rmX0_giveUp (gP [.ref (ad 0), .int p1] (dC, dI) dA (wX0 dA ad c_terms) sz) (gQv (dC, dI) (wX0 dA ad o_c_terms) (va_A (wX0 dA ad c_terms) sz)) 0 0 (va_A (wX0 dA ad c_terms) sz) := by
  refine Met.ofW (cc := cX0_giveUp) (maxL := 2) (ret := none) (by decide) rfl ?_
  intro p e s m args below meth c s₁ B hml hv
  obtain ⟨rfl, hsz, hP, hK, hD0⟩ := hv
  have hx := B.exec
  have hb := B.bytes
  have hr := B.returns
  have hts := atoms_spec (ws := wq (Cond.code yX0_giveUp cX0_giveUp 2 none)) B.pre
  have hown : s.vm.findClass RX0 = some m.cls := findClass_of_methodNamed B.named
  have hlocks := B.notSynchronized
  clear B
  subst hsz
  have hD := hD0.self (sz := s.heap.size)
  generalize hAe : va_A (wX0 dA ad c_terms) s.heap.size = A at hD ⊢
  have hA : ∀ q : Nat, s.heap.size ≤ q → A q := fun q h => by rw [← hAe]; exact Or.inr h
  clear hAe hD0
  have hS : va_S A s.heap s.heap [] := va_S.rf
  have hl := lv_entry ([.ref (ad 0), .int p1]) (n := 2) (Nat.le_of_ble_eq_true rfl)
  rw [lg_entry_eq]
  generalize (lg_sl ([.ref (ad 0), .int p1]) ++ List.replicate (2 - (lg_sl ([.ref (ad 0), .int p1])).length) Slot.unset).toArray = ls at hl ⊢
  have hl : lv_has ls 2 [(0, .ref (ad 0)), (1, .int p1)] := hl
  change W p l e rmX0_giveUp s m ([.ref (ad 0), .int p1] : List Value).toArray below meth c s.heap [] 0 0 _ _
  unfold fX0_giveUp at hf
  refine lv_iload_n hx hb dX0_giveUp_0 rfl (lv_at hl 1 rfl) ?_
  refine lv_iconst (v := 1) hx hb dX0_giveUp_1 (by decide) ?_
  refine lv_iand hx hb dX0_giveUp_2 ?_
  obtain ⟨c_terms_2, v4, hf⟩ := bd1_some hf
  have J3 : ∀ (H : Heap) (locs : List Loc) (ls : Array Slot), va_P (dC, dI) vwCl (wX0 dA ad c_terms_2) H → va_D A (wX0 dA ad c_terms_2) → va_S A s.heap H locs → lv_has ls 2 [(0, .ref (ad 0)), (1, .int p1)] → W p l e rmX0_giveUp s m ([.ref (ad 0), .int p1] : List Value).toArray below meth c H locs 0 0 (MQ below (gQv (dC, dI) (wX0 dA ad o_c_terms) A) ([.ref (ad 0), .int p1] : List Value).toArray s 0 0 A) (F0 m 12 ls []) := by
    intro H locs ls hP hD hS hl
    refine lv_iload_n hx hb dX0_giveUp_12 rfl (lv_at hl 1 rfl) ?_
    refine lv_iconst (v := 2) hx hb dX0_giveUp_13 (by decide) ?_
    refine lv_iand hx hb dX0_giveUp_14 ?_
    obtain ⟨c_terms_6, v8, hf⟩ := bd1_some hf
    have J7 : ∀ (H : Heap) (locs : List Loc) (ls : Array Slot), va_P (dC, dI) vwCl (wX0 dA ad c_terms_6) H → va_D A (wX0 dA ad c_terms_6) → va_S A s.heap H locs → lv_has ls 2 [(0, .ref (ad 0)), (1, .int p1)] → W p l e rmX0_giveUp s m ([.ref (ad 0), .int p1] : List Value).toArray below meth c H locs 0 0 (MQ below (gQv (dC, dI) (wX0 dA ad o_c_terms) A) ([.ref (ad 0), .int p1] : List Value).toArray s 0 0 A) (F0 m 24 ls []) := by
      intro H locs ls hP hD hS hl
      refine lv_iload_n hx hb dX0_giveUp_24 rfl (lv_at hl 1 rfl) ?_
      refine lv_iconst (v := 4) hx hb dX0_giveUp_25 (by decide) ?_
      refine lv_iand hx hb dX0_giveUp_26 ?_
      obtain ⟨c_terms_10, v12, hf⟩ := bd1_some hf
      have J11 : ∀ (H : Heap) (locs : List Loc) (ls : Array Slot), va_P (dC, dI) vwCl (wX0 dA ad c_terms_10) H → va_D A (wX0 dA ad c_terms_10) → va_S A s.heap H locs → lv_has ls 2 [(0, .ref (ad 0)), (1, .int p1)] → W p l e rmX0_giveUp s m ([.ref (ad 0), .int p1] : List Value).toArray below meth c H locs 0 0 (MQ below (gQv (dC, dI) (wX0 dA ad o_c_terms) A) ([.ref (ad 0), .int p1] : List Value).toArray s 0 0 A) (F0 m 46 ls []) := by
        intro H locs ls hP hD hS hl
        refine lv_iload_n hx hb dX0_giveUp_46 rfl (lv_at hl 1 rfl) ?_
        refine lv_bipush (v := 8) hx hb dX0_giveUp_47 (by decide) ?_
        refine lv_iand hx hb dX0_giveUp_49 ?_
        obtain ⟨c_terms_14, v16, hf⟩ := bd1_some hf
        have J15 : ∀ (H : Heap) (locs : List Loc) (ls : Array Slot), va_P (dC, dI) vwCl (wX0 dA ad c_terms_14) H → va_D A (wX0 dA ad c_terms_14) → va_S A s.heap H locs → lv_has ls 2 [] → W p l e rmX0_giveUp s m ([.ref (ad 0), .int p1] : List Value).toArray below meth c H locs 0 0 (MQ below (gQv (dC, dI) (wX0 dA ad o_c_terms) A) ([.ref (ad 0), .int p1] : List Value).toArray s 0 0 A) (F0 m 60 ls []) := by
          intro H locs ls hP hD hS hl
          cases hf
          exact W.vret hx hb hr (fun t ht _ => gqv hP hD hS ht) hS.2.2 dX0_giveUp_60
        replace hf := v16
        clear v16
        refine lv_if_eq (tgt := 60) hx hb dX0_giveUp_50 (by decide) (fun k13 => ?_) (fun k13 => ?_)
        · replace hf := ifp k13 hf
          cases hf
          exact J15 _ _ _ hP hD hS (lv_sub hl [] rfl)
        · replace hf := ifn k13 hf
          refine lv_aload_n hx hb dX0_giveUp_53 rfl (lv_at hl 0 rfl) ?_
          refine va_get (D := (dC, dI)) (ci := 1) (v := .ref (ad 1)) (C := RX0) (T := TX0) (N := 1) hx hb hts (fun w h => gw_mem (inX0 w h)) hown hK.1 hP 0 rfl rfl 0 (by decide) (hts _ (gw_mem wfX0_11)) (fun _ h9 => h9) rfl dX0_giveUp_54 ?_
          refine lv_iconst (v := 4) hx hb dX0_giveUp_57 (by decide) ?_
          refine lv_iconst (v := 0) hx hb dX0_giveUp_58 (by decide) ?_
          obtain ⟨w17, ew17⟩ : ∃ y : Nat → Int32, y = upd c_terms_10 (Int32.toNatClampNeg 4) 0 := ⟨_, rfl⟩
          replace hf := nm_at hf ew17
          refine va_iast hx hb hK.1 hP hD hS 1 0 rfl rfl (okI_in (by decide)) dX0_giveUp_59 (fun H locs hP hD hS => ?_)
          have hP : va_P (dC, dI) vwCl (wX0 dA ad w17) H := by rw [ew17]; exact hP
          have hD : va_D A (wX0 dA ad w17) := by rw [ew17]; exact hD
          cases hf
          exact J15 _ _ _ hP hD hS (lv_sub hl [] rfl)
      replace hf := v12
      clear v12
      refine lv_if_eq (tgt := 46) hx hb dX0_giveUp_27 (by decide) (fun k9 => ?_) (fun k9 => ?_)
      · replace hf := ifp k9 hf
        cases hf
        exact J11 _ _ _ hP hD hS (lv_sub hl [0, 1] rfl)
      · replace hf := ifn k9 hf
        refine lv_aload_n hx hb dX0_giveUp_30 rfl (lv_at hl 0 rfl) ?_
        refine va_get (D := (dC, dI)) (ci := 1) (v := .ref (ad 1)) (C := RX0) (T := TX0) (N := 1) hx hb hts (fun w h => gw_mem (inX0 w h)) hown hK.1 hP 0 rfl rfl 0 (by decide) (hts _ (gw_mem wfX0_11)) (fun _ h9 => h9) rfl dX0_giveUp_31 ?_
        refine lv_iconst (v := 2) hx hb dX0_giveUp_34 (by decide) ?_
        refine lv_bipush (v := 7) hx hb dX0_giveUp_35 (by decide) ?_
        obtain ⟨w18, ew18⟩ : ∃ y : Nat → Int32, y = upd c_terms_6 (Int32.toNatClampNeg 2) 7 := ⟨_, rfl⟩
        replace hf := nm_at hf ew18
        refine va_iast hx hb hK.1 hP hD hS 1 0 rfl rfl (okI_in (by decide)) dX0_giveUp_37 (fun H locs hP hD hS => ?_)
        have hP : va_P (dC, dI) vwCl (wX0 dA ad w18) H := by rw [ew18]; exact hP
        have hD : va_D A (wX0 dA ad w18) := by rw [ew18]; exact hD
        refine lv_aload_n hx hb dX0_giveUp_38 rfl (lv_at hl 0 rfl) ?_
        refine va_get (D := (dC, dI)) (ci := 1) (v := .ref (ad 1)) (C := RX0) (T := TX0) (N := 1) hx hb hts (fun w h => gw_mem (inX0 w h)) hown hK.1 hP 0 rfl rfl 0 (by decide) (hts _ (gw_mem wfX0_11)) (fun _ h9 => h9) rfl dX0_giveUp_39 ?_
        refine lv_iconst (v := 3) hx hb dX0_giveUp_42 (by decide) ?_
        refine lv_bipush (v := 7) hx hb dX0_giveUp_43 (by decide) ?_
        obtain ⟨w19, ew19⟩ : ∃ y : Nat → Int32, y = upd w18 (Int32.toNatClampNeg 3) 7 := ⟨_, rfl⟩
        replace hf := nm_at hf ew19
        refine va_iast hx hb hK.1 hP hD hS 1 0 rfl rfl (okI_in (by decide)) dX0_giveUp_45 (fun H locs hP hD hS => ?_)
        have hP : va_P (dC, dI) vwCl (wX0 dA ad w19) H := by rw [ew19]; exact hP
        have hD : va_D A (wX0 dA ad w19) := by rw [ew19]; exact hD
        cases hf
        exact J11 _ _ _ hP hD hS (lv_sub hl [0, 1] rfl)
    replace hf := v8
    clear v8
    refine lv_if_eq (tgt := 24) hx hb dX0_giveUp_15 (by decide) (fun k5 => ?_) (fun k5 => ?_)
    · replace hf := ifp k5 hf
      cases hf
      exact J7 _ _ _ hP hD hS (lv_sub hl [0, 1] rfl)
    · replace hf := ifn k5 hf
      refine lv_aload_n hx hb dX0_giveUp_18 rfl (lv_at hl 0 rfl) ?_
      refine lv_bipush (v := 30) hx hb dX0_giveUp_19 (by decide) ?_
      obtain ⟨c_terms_20, v21, hf⟩ := bd1_some hf
      refine gcv (va_runV (As := [.int 30]) (rest := []) ⟨hx, hb, hml, hown, hts⟩ (tX0_dropRights l dC dI dA ad H.size v21) (ccX0_X0_dropRights hts ⟨Nat.le_of_ble_eq_true rfl, Nat.le_of_ble_eq_true rfl⟩) (gPreV (ci := 1) (q0 := 0) hP hK hD rfl rfl) rfl rfl hl.1 rfl (lv_room (Nat.le_of_ble_eq_true rfl)) dX0_giveUp_21 ⟨Nat.le_of_ble_eq_true rfl, Nat.le_of_ble_eq_true rfl⟩) hD hS hA (fun H locs hP hD hS => ?_)
      cases hf
      exact J7 _ _ _ hP hD hS (lv_sub hl [0, 1] rfl)
  replace hf := v4
  clear v4
  refine lv_if_eq (tgt := 12) hx hb dX0_giveUp_3 (by decide) (fun k1 => ?_) (fun k1 => ?_)
  · replace hf := ifp k1 hf
    cases hf
    exact J3 _ _ _ hP hD hS (lv_sub hl [0, 1] rfl)
  · replace hf := ifn k1 hf
    refine lv_aload_n hx hb dX0_giveUp_6 rfl (lv_at hl 0 rfl) ?_
    refine lv_bipush (v := 20) hx hb dX0_giveUp_7 (by decide) ?_
    obtain ⟨c_terms_22, v23, hf⟩ := bd1_some hf
    refine gcv (va_runV (As := [.int 20]) (rest := []) ⟨hx, hb, hml, hown, hts⟩ (tX0_dropRights l dC dI dA ad s.heap.size v23) (ccX0_X0_dropRights hts ⟨Nat.le_of_ble_eq_true rfl, Nat.le_of_ble_eq_true rfl⟩) (gPreV (ci := 1) (q0 := 0) hP hK hD rfl rfl) rfl rfl hl.1 rfl (lv_room (Nat.le_of_ble_eq_true rfl)) dX0_giveUp_9 ⟨Nat.le_of_ble_eq_true rfl, Nat.le_of_ble_eq_true rfl⟩) hD hS hA (fun H locs hP hD hS => ?_)
    cases hf
    exact J3 _ _ _ hP hD hS (lv_sub hl [0, 1] rfl)
abbrev rmX0_couponOn : Room := { frames := 1, cells := 0, slots := 0, locals := 22 }
set_option maxHeartbeats 4000000 in
set_option maxRecDepth 100000 in
theorem tX0_couponOn (l : Launch) (dC : Nat → ClassId) (dI : Nat → Nat → Nat) (dA : Nat → ClassId) (ad : Nat → Nat) (sz : Nat) {p1 : Int32} {c_terms : Nat → Int32} {r : Int32} (hf : fX0_couponOn p1 c_terms = some (r)) : Met l yX0_couponOn (wq (Cond.code yX0_couponOn cX0_couponOn 2 (some .int))) rmX0_couponOn (gP [.ref (ad 0), .int p1] (dC, dI) dA (wX0 dA ad c_terms) sz) (gQi (dC, dI) r (wX0 dA ad c_terms) (va_A (wX0 dA ad c_terms) sz)) 0 0 (va_A (wX0 dA ad c_terms) sz) := by
  refine Met.ofW (cc := cX0_couponOn) (maxL := 2) (ret := (some .int)) (by decide) rfl ?_
  intro p e s m args below meth c s₁ B hml hv
  obtain ⟨rfl, hsz, hP, hK, hD0⟩ := hv
  have hx := B.exec
  have hb := B.bytes
  have hr := B.returns
  have hts := atoms_spec (ws := wq (Cond.code yX0_couponOn cX0_couponOn 2 (some .int))) B.pre
  have hown : s.vm.findClass RX0 = some m.cls := findClass_of_methodNamed B.named
  have hlocks := B.notSynchronized
  clear B
  subst hsz
  have hD := hD0.self (sz := s.heap.size)
  generalize hAe : va_A (wX0 dA ad c_terms) s.heap.size = A at hD ⊢
  have hA : ∀ q : Nat, s.heap.size ≤ q → A q := fun q h => by rw [← hAe]; exact Or.inr h
  clear hAe hD0
  have hS : va_S A s.heap s.heap [] := va_S.rf
  have hl := lv_entry ([.ref (ad 0), .int p1]) (n := 2) (Nat.le_of_ble_eq_true rfl)
  rw [lg_entry_eq]
  generalize (lg_sl ([.ref (ad 0), .int p1]) ++ List.replicate (2 - (lg_sl ([.ref (ad 0), .int p1])).length) Slot.unset).toArray = ls at hl ⊢
  have hl : lv_has ls 2 [(0, .ref (ad 0)), (1, .int p1)] := hl
  change W p l e rmX0_couponOn s m ([.ref (ad 0), .int p1] : List Value).toArray below meth c s.heap [] 0 0 _ _
  unfold fX0_couponOn at hf
  refine lv_iload_n hx hb dX0_couponOn_0 rfl (lv_at hl 1 rfl) ?_
  refine lv_iconst (v := 1) hx hb dX0_couponOn_1 (by decide) ?_
  refine lv_bipush (v := 6) hx hb dX0_couponOn_2 (by decide) ?_
  obtain ⟨r1, v2, hf⟩ := bd1_some hf
  refine gci0 (va_runSN (As := [.int p1, .int 1, .int 6]) (rest := []) ⟨hx, hb, hml, hown, hts⟩ (tX8_within l dC dI dA s.heap.size v2) (ccX0_X8_within hK.2 hts ⟨Nat.le_of_ble_eq_true rfl, Nat.le_of_ble_eq_true rfl⟩) (gPreS0 hK) rfl rfl hl.1 rfl (lv_room (Nat.le_of_ble_eq_true rfl)) dX0_couponOn_4 ⟨Nat.le_of_ble_eq_true rfl, Nat.le_of_ble_eq_true rfl⟩) hP hS hA (fun H locs hP hS => ?_)
  obtain ⟨j4, v6, hf⟩ := bd1_some hf
  have J5 : ∀ (H : Heap) (locs : List Loc) (ls : Array Slot), va_P (dC, dI) vwCl (wX0 dA ad c_terms) H → va_D A (wX0 dA ad c_terms) → va_S A s.heap H locs → lv_has ls 2 [] → W p l e rmX0_couponOn s m ([.ref (ad 0), .int p1] : List Value).toArray below meth c H locs 0 0 (MQ below (gQi (dC, dI) r (wX0 dA ad c_terms) A) ([.ref (ad 0), .int p1] : List Value).toArray s 0 0 A) (F0 m 23 ls [.int j4]) := by
    intro H locs ls hP hD hS hl
    cases hf
    exact W.iret hx hb hr (fun t ht _ => gqi hP hD hS ht) hS.2.2 dX0_couponOn_23
  replace hf := v6
  clear v6
  refine lv_if_eq (tgt := 22) hx hb dX0_couponOn_7 (by decide) (fun k3 => ?_) (fun k3 => ?_)
  · replace hf := ifp k3 hf
    refine lv_iconst (v := 0) hx hb dX0_couponOn_22 (by decide) ?_
    cases hf
    exact J5 _ _ _ hP hD hS (lv_sub hl [] rfl)
  · replace hf := ifn k3 hf
    refine lv_aload_n hx hb dX0_couponOn_10 rfl (lv_at hl 0 rfl) ?_
    refine va_get (D := (dC, dI)) (ci := 1) (v := .ref (ad 1)) (C := RX0) (T := TX0) (N := 1) hx hb hts (fun w h => gw_mem (inX0 w h)) hown hK.1 hP 0 rfl rfl 0 (by decide) (hts _ (gw_mem wfX0_11)) (fun _ h9 => h9) rfl dX0_couponOn_11 ?_
    refine lv_bipush (v := 10) hx hb dX0_couponOn_14 (by decide) ?_
    refine lv_iload_n hx hb dX0_couponOn_16 rfl (lv_at hl 1 rfl) ?_
    refine lv_iadd hx hb dX0_couponOn_17 ?_
    obtain ⟨h7, hf⟩ := og_some hf
    refine va_iald hx hb hK.1 hP 1 0 rfl rfl (okI_in h7) dX0_couponOn_18 ?_
    refine lv_goto (tgt := 23) hx hb dX0_couponOn_19 (by decide) ?_
    cases hf
    exact J5 _ _ _ hP hD hS (lv_sub hl [] rfl)
abbrev rmX0_callOn : Room := { frames := 1, cells := 0, slots := 0, locals := 22 }
set_option maxHeartbeats 4000000 in
set_option maxRecDepth 100000 in
theorem tX0_callOn (l : Launch) (dC : Nat → ClassId) (dI : Nat → Nat → Nat) (dA : Nat → ClassId) (ad : Nat → Nat) (sz : Nat) {p1 : Int32} {c_terms : Nat → Int32} {r : Int32} (hf : fX0_callOn p1 c_terms = some (r)) : Met l yX0_callOn (wq (Cond.code yX0_callOn cX0_callOn 2 (some .int))) rmX0_callOn (gP [.ref (ad 0), .int p1] (dC, dI) dA (wX0 dA ad c_terms) sz) (gQi (dC, dI) r (wX0 dA ad c_terms) (va_A (wX0 dA ad c_terms) sz)) 0 0 (va_A (wX0 dA ad c_terms) sz) := by
  refine Met.ofW (cc := cX0_callOn) (maxL := 2) (ret := (some .int)) (by decide) rfl ?_
  intro p e s m args below meth c s₁ B hml hv
  obtain ⟨rfl, hsz, hP, hK, hD0⟩ := hv
  have hx := B.exec
  have hb := B.bytes
  have hr := B.returns
  have hts := atoms_spec (ws := wq (Cond.code yX0_callOn cX0_callOn 2 (some .int))) B.pre
  have hown : s.vm.findClass RX0 = some m.cls := findClass_of_methodNamed B.named
  have hlocks := B.notSynchronized
  clear B
  subst hsz
  have hD := hD0.self (sz := s.heap.size)
  generalize hAe : va_A (wX0 dA ad c_terms) s.heap.size = A at hD ⊢
  have hA : ∀ q : Nat, s.heap.size ≤ q → A q := fun q h => by rw [← hAe]; exact Or.inr h
  clear hAe hD0
  have hS : va_S A s.heap s.heap [] := va_S.rf
  have hl := lv_entry ([.ref (ad 0), .int p1]) (n := 2) (Nat.le_of_ble_eq_true rfl)
  rw [lg_entry_eq]
  generalize (lg_sl ([.ref (ad 0), .int p1]) ++ List.replicate (2 - (lg_sl ([.ref (ad 0), .int p1])).length) Slot.unset).toArray = ls at hl ⊢
  have hl : lv_has ls 2 [(0, .ref (ad 0)), (1, .int p1)] := hl
  change W p l e rmX0_callOn s m ([.ref (ad 0), .int p1] : List Value).toArray below meth c s.heap [] 0 0 _ _
  unfold fX0_callOn at hf
  refine lv_iload_n hx hb dX0_callOn_0 rfl (lv_at hl 1 rfl) ?_
  refine lv_iconst (v := 0) hx hb dX0_callOn_1 (by decide) ?_
  refine lv_iconst (v := 5) hx hb dX0_callOn_2 (by decide) ?_
  obtain ⟨r1, v2, hf⟩ := bd1_some hf
  refine gci0 (va_runSN (As := [.int p1, .int 0, .int 5]) (rest := []) ⟨hx, hb, hml, hown, hts⟩ (tX8_within l dC dI dA s.heap.size v2) (ccX0_X8_within hK.2 hts ⟨Nat.le_of_ble_eq_true rfl, Nat.le_of_ble_eq_true rfl⟩) (gPreS0 hK) rfl rfl hl.1 rfl (lv_room (Nat.le_of_ble_eq_true rfl)) dX0_callOn_3 ⟨Nat.le_of_ble_eq_true rfl, Nat.le_of_ble_eq_true rfl⟩) hP hS hA (fun H locs hP hS => ?_)
  obtain ⟨j4, v6, hf⟩ := bd1_some hf
  have J5 : ∀ (H : Heap) (locs : List Loc) (ls : Array Slot), va_P (dC, dI) vwCl (wX0 dA ad c_terms) H → va_D A (wX0 dA ad c_terms) → va_S A s.heap H locs → lv_has ls 2 [] → W p l e rmX0_callOn s m ([.ref (ad 0), .int p1] : List Value).toArray below meth c H locs 0 0 (MQ below (gQi (dC, dI) r (wX0 dA ad c_terms) A) ([.ref (ad 0), .int p1] : List Value).toArray s 0 0 A) (F0 m 23 ls [.int j4]) := by
    intro H locs ls hP hD hS hl
    cases hf
    exact W.iret hx hb hr (fun t ht _ => gqi hP hD hS ht) hS.2.2 dX0_callOn_23
  replace hf := v6
  clear v6
  refine lv_if_eq (tgt := 21) hx hb dX0_callOn_6 (by decide) (fun k3 => ?_) (fun k3 => ?_)
  · replace hf := ifp k3 hf
    refine lv_bipush (v := (-2)) hx hb dX0_callOn_21 (by decide) ?_
    cases hf
    exact J5 _ _ _ hP hD hS (lv_sub hl [] rfl)
  · replace hf := ifn k3 hf
    refine lv_aload_n hx hb dX0_callOn_9 rfl (lv_at hl 0 rfl) ?_
    refine va_get (D := (dC, dI)) (ci := 1) (v := .ref (ad 1)) (C := RX0) (T := TX0) (N := 1) hx hb hts (fun w h => gw_mem (inX0 w h)) hown hK.1 hP 0 rfl rfl 0 (by decide) (hts _ (gw_mem wfX0_11)) (fun _ h9 => h9) rfl dX0_callOn_10 ?_
    refine lv_bipush (v := 20) hx hb dX0_callOn_13 (by decide) ?_
    refine lv_iload_n hx hb dX0_callOn_15 rfl (lv_at hl 1 rfl) ?_
    refine lv_iadd hx hb dX0_callOn_16 ?_
    obtain ⟨h7, hf⟩ := og_some hf
    refine va_iald hx hb hK.1 hP 1 0 rfl rfl (okI_in h7) dX0_callOn_17 ?_
    refine lv_goto (tgt := 23) hx hb dX0_callOn_18 (by decide) ?_
    cases hf
    exact J5 _ _ _ hP hD hS (lv_sub hl [] rfl)
abbrev rmX0_putOn : Room := { frames := 1, cells := 0, slots := 0, locals := 22 }
set_option maxHeartbeats 4000000 in
set_option maxRecDepth 100000 in
theorem tX0_putOn (l : Launch) (dC : Nat → ClassId) (dI : Nat → Nat → Nat) (dA : Nat → ClassId) (ad : Nat → Nat) (sz : Nat) {p1 : Int32} {c_terms : Nat → Int32} {r : Int32} (hf : fX0_putOn p1 c_terms = some (r)) : Met l yX0_putOn (wq (Cond.code yX0_putOn cX0_putOn 2 (some .int))) rmX0_putOn (gP [.ref (ad 0), .int p1] (dC, dI) dA (wX0 dA ad c_terms) sz) (gQi (dC, dI) r (wX0 dA ad c_terms) (va_A (wX0 dA ad c_terms) sz)) 0 0 (va_A (wX0 dA ad c_terms) sz) := by
  refine Met.ofW (cc := cX0_putOn) (maxL := 2) (ret := (some .int)) (by decide) rfl ?_
  intro p e s m args below meth c s₁ B hml hv
  obtain ⟨rfl, hsz, hP, hK, hD0⟩ := hv
  have hx := B.exec
  have hb := B.bytes
  have hr := B.returns
  have hts := atoms_spec (ws := wq (Cond.code yX0_putOn cX0_putOn 2 (some .int))) B.pre
  have hown : s.vm.findClass RX0 = some m.cls := findClass_of_methodNamed B.named
  have hlocks := B.notSynchronized
  clear B
  subst hsz
  have hD := hD0.self (sz := s.heap.size)
  generalize hAe : va_A (wX0 dA ad c_terms) s.heap.size = A at hD ⊢
  have hA : ∀ q : Nat, s.heap.size ≤ q → A q := fun q h => by rw [← hAe]; exact Or.inr h
  clear hAe hD0
  have hS : va_S A s.heap s.heap [] := va_S.rf
  have hl := lv_entry ([.ref (ad 0), .int p1]) (n := 2) (Nat.le_of_ble_eq_true rfl)
  rw [lg_entry_eq]
  generalize (lg_sl ([.ref (ad 0), .int p1]) ++ List.replicate (2 - (lg_sl ([.ref (ad 0), .int p1])).length) Slot.unset).toArray = ls at hl ⊢
  have hl : lv_has ls 2 [(0, .ref (ad 0)), (1, .int p1)] := hl
  change W p l e rmX0_putOn s m ([.ref (ad 0), .int p1] : List Value).toArray below meth c s.heap [] 0 0 _ _
  unfold fX0_putOn at hf
  refine lv_iload_n hx hb dX0_putOn_0 rfl (lv_at hl 1 rfl) ?_
  refine lv_iconst (v := 0) hx hb dX0_putOn_1 (by decide) ?_
  refine lv_iconst (v := 5) hx hb dX0_putOn_2 (by decide) ?_
  obtain ⟨r1, v2, hf⟩ := bd1_some hf
  refine gci0 (va_runSN (As := [.int p1, .int 0, .int 5]) (rest := []) ⟨hx, hb, hml, hown, hts⟩ (tX8_within l dC dI dA s.heap.size v2) (ccX0_X8_within hK.2 hts ⟨Nat.le_of_ble_eq_true rfl, Nat.le_of_ble_eq_true rfl⟩) (gPreS0 hK) rfl rfl hl.1 rfl (lv_room (Nat.le_of_ble_eq_true rfl)) dX0_putOn_3 ⟨Nat.le_of_ble_eq_true rfl, Nat.le_of_ble_eq_true rfl⟩) hP hS hA (fun H locs hP hS => ?_)
  obtain ⟨j4, v6, hf⟩ := bd1_some hf
  have J5 : ∀ (H : Heap) (locs : List Loc) (ls : Array Slot), va_P (dC, dI) vwCl (wX0 dA ad c_terms) H → va_D A (wX0 dA ad c_terms) → va_S A s.heap H locs → lv_has ls 2 [] → W p l e rmX0_putOn s m ([.ref (ad 0), .int p1] : List Value).toArray below meth c H locs 0 0 (MQ below (gQi (dC, dI) r (wX0 dA ad c_terms) A) ([.ref (ad 0), .int p1] : List Value).toArray s 0 0 A) (F0 m 23 ls [.int j4]) := by
    intro H locs ls hP hD hS hl
    cases hf
    exact W.iret hx hb hr (fun t ht _ => gqi hP hD hS ht) hS.2.2 dX0_putOn_23
  replace hf := v6
  clear v6
  refine lv_if_eq (tgt := 21) hx hb dX0_putOn_6 (by decide) (fun k3 => ?_) (fun k3 => ?_)
  · replace hf := ifp k3 hf
    refine lv_bipush (v := (-2)) hx hb dX0_putOn_21 (by decide) ?_
    cases hf
    exact J5 _ _ _ hP hD hS (lv_sub hl [] rfl)
  · replace hf := ifn k3 hf
    refine lv_aload_n hx hb dX0_putOn_9 rfl (lv_at hl 0 rfl) ?_
    refine va_get (D := (dC, dI)) (ci := 1) (v := .ref (ad 1)) (C := RX0) (T := TX0) (N := 1) hx hb hts (fun w h => gw_mem (inX0 w h)) hown hK.1 hP 0 rfl rfl 0 (by decide) (hts _ (gw_mem wfX0_11)) (fun _ h9 => h9) rfl dX0_putOn_10 ?_
    refine lv_bipush (v := 30) hx hb dX0_putOn_13 (by decide) ?_
    refine lv_iload_n hx hb dX0_putOn_15 rfl (lv_at hl 1 rfl) ?_
    refine lv_iadd hx hb dX0_putOn_16 ?_
    obtain ⟨h7, hf⟩ := og_some hf
    refine va_iald hx hb hK.1 hP 1 0 rfl rfl (okI_in h7) dX0_putOn_17 ?_
    refine lv_goto (tgt := 23) hx hb dX0_putOn_18 (by decide) ?_
    cases hf
    exact J5 _ _ _ hP hD hS (lv_sub hl [] rfl)
abbrev rmX0_face : Room := { frames := 0, cells := 0, slots := 0, locals := 0 }
set_option maxHeartbeats 4000000 in
set_option maxRecDepth 100000 in
theorem tX0_face (l : Launch) (dC : Nat → ClassId) (dI : Nat → Nat → Nat) (dA : Nat → ClassId) (ad : Nat → Nat) (sz : Nat) {c_terms : Nat → Int32} {r : Int32} (hf : fX0_face c_terms = some (r)) : Met l yX0_face (wq (Cond.code yX0_face cX0_face 1 (some .int))) rmX0_face (gP [.ref (ad 0)] (dC, dI) dA (wX0 dA ad c_terms) sz) (gQi (dC, dI) r (wX0 dA ad c_terms) (va_A (wX0 dA ad c_terms) sz)) 0 0 (va_A (wX0 dA ad c_terms) sz) := by
  refine Met.ofW (cc := cX0_face) (maxL := 1) (ret := (some .int)) (by decide) rfl ?_
  intro p e s m args below meth c s₁ B hml hv
  obtain ⟨rfl, hsz, hP, hK, hD0⟩ := hv
  have hx := B.exec
  have hb := B.bytes
  have hr := B.returns
  have hts := atoms_spec (ws := wq (Cond.code yX0_face cX0_face 1 (some .int))) B.pre
  have hown : s.vm.findClass RX0 = some m.cls := findClass_of_methodNamed B.named
  have hlocks := B.notSynchronized
  clear B
  subst hsz
  have hD := hD0.self (sz := s.heap.size)
  generalize hAe : va_A (wX0 dA ad c_terms) s.heap.size = A at hD ⊢
  have hA : ∀ q : Nat, s.heap.size ≤ q → A q := fun q h => by rw [← hAe]; exact Or.inr h
  clear hAe hD0
  have hS : va_S A s.heap s.heap [] := va_S.rf
  have hl := lv_entry ([.ref (ad 0)]) (n := 1) (Nat.le_of_ble_eq_true rfl)
  rw [lg_entry_eq]
  generalize (lg_sl ([.ref (ad 0)]) ++ List.replicate (1 - (lg_sl ([.ref (ad 0)])).length) Slot.unset).toArray = ls at hl ⊢
  have hl : lv_has ls 1 [(0, .ref (ad 0))] := hl
  change W p l e rmX0_face s m ([.ref (ad 0)] : List Value).toArray below meth c s.heap [] 0 0 _ _
  unfold fX0_face at hf
  refine lv_aload_n hx hb dX0_face_0 rfl (lv_at hl 0 rfl) ?_
  refine va_get (D := (dC, dI)) (ci := 1) (v := .ref (ad 1)) (C := RX0) (T := TX0) (N := 1) hx hb hts (fun w h => gw_mem (inX0 w h)) hown hK.1 hP 0 rfl rfl 0 (by decide) (hts _ (gw_mem wfX0_11)) (fun _ h9 => h9) rfl dX0_face_1 ?_
  refine lv_iconst (v := 0) hx hb dX0_face_4 (by decide) ?_
  refine va_iald hx hb hK.1 hP 1 0 rfl rfl (okI_in (by decide)) dX0_face_5 ?_
  cases hf
  exact W.iret hx hb hr (fun t ht _ => gqi hP hD hS ht) hS.2.2 dX0_face_6
abbrev rmX0_softLeast : Room := { frames := 0, cells := 0, slots := 0, locals := 0 }
set_option maxHeartbeats 4000000 in
set_option maxRecDepth 100000 in
theorem tX0_softLeast (l : Launch) (dC : Nat → ClassId) (dI : Nat → Nat → Nat) (dA : Nat → ClassId) (ad : Nat → Nat) (sz : Nat) {c_terms : Nat → Int32} {r : Int32} (hf : fX0_softLeast c_terms = some (r)) : Met l yX0_softLeast (wq (Cond.code yX0_softLeast cX0_softLeast 1 (some .int))) rmX0_softLeast (gP [.ref (ad 0)] (dC, dI) dA (wX0 dA ad c_terms) sz) (gQi (dC, dI) r (wX0 dA ad c_terms) (va_A (wX0 dA ad c_terms) sz)) 0 0 (va_A (wX0 dA ad c_terms) sz) := by
  refine Met.ofW (cc := cX0_softLeast) (maxL := 1) (ret := (some .int)) (by decide) rfl ?_
  intro p e s m args below meth c s₁ B hml hv
  obtain ⟨rfl, hsz, hP, hK, hD0⟩ := hv
  have hx := B.exec
  have hb := B.bytes
  have hr := B.returns
  have hts := atoms_spec (ws := wq (Cond.code yX0_softLeast cX0_softLeast 1 (some .int))) B.pre
  have hown : s.vm.findClass RX0 = some m.cls := findClass_of_methodNamed B.named
  have hlocks := B.notSynchronized
  clear B
  subst hsz
  have hD := hD0.self (sz := s.heap.size)
  generalize hAe : va_A (wX0 dA ad c_terms) s.heap.size = A at hD ⊢
  have hA : ∀ q : Nat, s.heap.size ≤ q → A q := fun q h => by rw [← hAe]; exact Or.inr h
  clear hAe hD0
  have hS : va_S A s.heap s.heap [] := va_S.rf
  have hl := lv_entry ([.ref (ad 0)]) (n := 1) (Nat.le_of_ble_eq_true rfl)
  rw [lg_entry_eq]
  generalize (lg_sl ([.ref (ad 0)]) ++ List.replicate (1 - (lg_sl ([.ref (ad 0)])).length) Slot.unset).toArray = ls at hl ⊢
  have hl : lv_has ls 1 [(0, .ref (ad 0))] := hl
  change W p l e rmX0_softLeast s m ([.ref (ad 0)] : List Value).toArray below meth c s.heap [] 0 0 _ _
  unfold fX0_softLeast at hf
  refine lv_aload_n hx hb dX0_softLeast_0 rfl (lv_at hl 0 rfl) ?_
  refine va_get (D := (dC, dI)) (ci := 1) (v := .ref (ad 1)) (C := RX0) (T := TX0) (N := 1) hx hb hts (fun w h => gw_mem (inX0 w h)) hown hK.1 hP 0 rfl rfl 0 (by decide) (hts _ (gw_mem wfX0_11)) (fun _ h9 => h9) rfl dX0_softLeast_1 ?_
  refine lv_iconst (v := 4) hx hb dX0_softLeast_4 (by decide) ?_
  refine va_iald hx hb hK.1 hP 1 0 rfl rfl (okI_in (by decide)) dX0_softLeast_5 ?_
  cases hf
  exact W.iret hx hb hr (fun t ht _ => gqi hP hD hS ht) hS.2.2 dX0_softLeast_6
abbrev rmX0_softLevel : Room := { frames := 0, cells := 0, slots := 0, locals := 0 }
set_option maxHeartbeats 4000000 in
set_option maxRecDepth 100000 in
theorem tX0_softLevel (l : Launch) (dC : Nat → ClassId) (dI : Nat → Nat → Nat) (dA : Nat → ClassId) (ad : Nat → Nat) (sz : Nat) {c_terms : Nat → Int32} {r : Int32} (hf : fX0_softLevel c_terms = some (r)) : Met l yX0_softLevel (wq (Cond.code yX0_softLevel cX0_softLevel 1 (some .int))) rmX0_softLevel (gP [.ref (ad 0)] (dC, dI) dA (wX0 dA ad c_terms) sz) (gQi (dC, dI) r (wX0 dA ad c_terms) (va_A (wX0 dA ad c_terms) sz)) 0 0 (va_A (wX0 dA ad c_terms) sz) := by
  refine Met.ofW (cc := cX0_softLevel) (maxL := 1) (ret := (some .int)) (by decide) rfl ?_
  intro p e s m args below meth c s₁ B hml hv
  obtain ⟨rfl, hsz, hP, hK, hD0⟩ := hv
  have hx := B.exec
  have hb := B.bytes
  have hr := B.returns
  have hts := atoms_spec (ws := wq (Cond.code yX0_softLevel cX0_softLevel 1 (some .int))) B.pre
  have hown : s.vm.findClass RX0 = some m.cls := findClass_of_methodNamed B.named
  have hlocks := B.notSynchronized
  clear B
  subst hsz
  have hD := hD0.self (sz := s.heap.size)
  generalize hAe : va_A (wX0 dA ad c_terms) s.heap.size = A at hD ⊢
  have hA : ∀ q : Nat, s.heap.size ≤ q → A q := fun q h => by rw [← hAe]; exact Or.inr h
  clear hAe hD0
  have hS : va_S A s.heap s.heap [] := va_S.rf
  have hl := lv_entry ([.ref (ad 0)]) (n := 1) (Nat.le_of_ble_eq_true rfl)
  rw [lg_entry_eq]
  generalize (lg_sl ([.ref (ad 0)]) ++ List.replicate (1 - (lg_sl ([.ref (ad 0)])).length) Slot.unset).toArray = ls at hl ⊢
  have hl : lv_has ls 1 [(0, .ref (ad 0))] := hl
  change W p l e rmX0_softLevel s m ([.ref (ad 0)] : List Value).toArray below meth c s.heap [] 0 0 _ _
  unfold fX0_softLevel at hf
  refine lv_aload_n hx hb dX0_softLevel_0 rfl (lv_at hl 0 rfl) ?_
  refine va_get (D := (dC, dI)) (ci := 1) (v := .ref (ad 1)) (C := RX0) (T := TX0) (N := 1) hx hb hts (fun w h => gw_mem (inX0 w h)) hown hK.1 hP 0 rfl rfl 0 (by decide) (hts _ (gw_mem wfX0_11)) (fun _ h9 => h9) rfl dX0_softLevel_1 ?_
  refine lv_bipush (v := 6) hx hb dX0_softLevel_4 (by decide) ?_
  refine va_iald hx hb hK.1 hP 1 0 rfl rfl (okI_in (by decide)) dX0_softLevel_6 ?_
  cases hf
  exact W.iret hx hb hr (fun t ht _ => gqi hP hD hS ht) hS.2.2 dX0_softLevel_7
abbrev rmX0_mayTurnOn : Room := { frames := 1, cells := 0, slots := 0, locals := 22 }
set_option maxHeartbeats 4000000 in
set_option maxRecDepth 100000 in
theorem tX0_mayTurnOn (l : Launch) (dC : Nat → ClassId) (dI : Nat → Nat → Nat) (dA : Nat → ClassId) (ad : Nat → Nat) (sz : Nat) {p1 : Int32} {c_terms : Nat → Int32} {r : Int32} (hf : fX0_mayTurnOn p1 c_terms = some (r)) : Met l yX0_mayTurnOn (wq (Cond.code yX0_mayTurnOn cX0_mayTurnOn 2 (some .boolean))) rmX0_mayTurnOn (gP [.ref (ad 0), .int p1] (dC, dI) dA (wX0 dA ad c_terms) sz) (gQi (dC, dI) r (wX0 dA ad c_terms) (va_A (wX0 dA ad c_terms) sz)) 0 0 (va_A (wX0 dA ad c_terms) sz) := by
  refine Met.ofW (cc := cX0_mayTurnOn) (maxL := 2) (ret := (some .boolean)) (by decide) rfl ?_
  intro p e s m args below meth c s₁ B hml hv
  obtain ⟨rfl, hsz, hP, hK, hD0⟩ := hv
  have hx := B.exec
  have hb := B.bytes
  have hr := B.returns
  have hts := atoms_spec (ws := wq (Cond.code yX0_mayTurnOn cX0_mayTurnOn 2 (some .boolean))) B.pre
  have hown : s.vm.findClass RX0 = some m.cls := findClass_of_methodNamed B.named
  have hlocks := B.notSynchronized
  clear B
  subst hsz
  have hD := hD0.self (sz := s.heap.size)
  generalize hAe : va_A (wX0 dA ad c_terms) s.heap.size = A at hD ⊢
  have hA : ∀ q : Nat, s.heap.size ≤ q → A q := fun q h => by rw [← hAe]; exact Or.inr h
  clear hAe hD0
  have hS : va_S A s.heap s.heap [] := va_S.rf
  have hl := lv_entry ([.ref (ad 0), .int p1]) (n := 2) (Nat.le_of_ble_eq_true rfl)
  rw [lg_entry_eq]
  generalize (lg_sl ([.ref (ad 0), .int p1]) ++ List.replicate (2 - (lg_sl ([.ref (ad 0), .int p1])).length) Slot.unset).toArray = ls at hl ⊢
  have hl : lv_has ls 2 [(0, .ref (ad 0)), (1, .int p1)] := hl
  change W p l e rmX0_mayTurnOn s m ([.ref (ad 0), .int p1] : List Value).toArray below meth c s.heap [] 0 0 _ _
  unfold fX0_mayTurnOn at hf
  refine lv_iload_n hx hb dX0_mayTurnOn_0 rfl (lv_at hl 1 rfl) ?_
  refine lv_aload_n hx hb dX0_mayTurnOn_1 rfl (lv_at hl 0 rfl) ?_
  refine va_get (D := (dC, dI)) (ci := 1) (v := .ref (ad 1)) (C := RX0) (T := TX0) (N := 1) hx hb hts (fun w h => gw_mem (inX0 w h)) hown hK.1 hP 0 rfl rfl 0 (by decide) (hts _ (gw_mem wfX0_11)) (fun _ h9 => h9) rfl dX0_mayTurnOn_2 ?_
  refine lv_iconst (v := 2) hx hb dX0_mayTurnOn_5 (by decide) ?_
  refine va_iald hx hb hK.1 hP 1 0 rfl rfl (okI_in (by decide)) dX0_mayTurnOn_6 ?_
  refine lv_aload_n hx hb dX0_mayTurnOn_7 rfl (lv_at hl 0 rfl) ?_
  refine va_get (D := (dC, dI)) (ci := 1) (v := .ref (ad 1)) (C := RX0) (T := TX0) (N := 1) hx hb hts (fun w h => gw_mem (inX0 w h)) hown hK.1 hP 0 rfl rfl 0 (by decide) (hts _ (gw_mem wfX0_11)) (fun _ h9 => h9) rfl dX0_mayTurnOn_8 ?_
  refine lv_iconst (v := 3) hx hb dX0_mayTurnOn_11 (by decide) ?_
  refine va_iald hx hb hK.1 hP 1 0 rfl rfl (okI_in (by decide)) dX0_mayTurnOn_12 ?_
  obtain ⟨r1, v2, hf⟩ := bd1_some hf
  refine gci0 (va_runSN (As := [.int p1, .int (c_terms (Int32.toNatClampNeg 2)), .int (c_terms (Int32.toNatClampNeg 3))]) (rest := []) ⟨hx, hb, hml, hown, hts⟩ (tX8_within l dC dI dA s.heap.size v2) (ccX0_X8_within hK.2 hts ⟨Nat.le_of_ble_eq_true rfl, Nat.le_of_ble_eq_true rfl⟩) (gPreS0 hK) rfl rfl hl.1 rfl (lv_room (Nat.le_of_ble_eq_true rfl)) dX0_mayTurnOn_13 ⟨Nat.le_of_ble_eq_true rfl, Nat.le_of_ble_eq_true rfl⟩) hP hS hA (fun H locs hP hS => ?_)
  obtain ⟨h3, hf⟩ := og_some hf
  cases hf
  exact W.zret (ty := .boolean) hx hb hr (boB_nar h3) (fun t ht _ => gqi hP hD hS ht) hS.2.2 dX0_mayTurnOn_16
abbrev rmJ6_bitCount_0f7a4 : Room := { frames := 0, cells := 0, slots := 0, locals := 0 }
set_option maxHeartbeats 4000000 in
set_option maxRecDepth 100000 in
theorem tJ6_bitCount_0f7a4 (l : Launch) (dC : Nat → ClassId) (dI : Nat → Nat → Nat) (dA : Nat → ClassId) (sz : Nat) {p0 : Int32} {r : Int32} (hf : fJ6_bitCount_0f7a4 p0 = some (r)) : Met l yJ6_bitCount_0f7a4 (wq (Cond.code yJ6_bitCount_0f7a4 cJ6_bitCount_0f7a4 1 (some .int))) rmJ6_bitCount_0f7a4 (gP [.int p0] (dC, dI) dA [] sz) (gQi (dC, dI) r [] (va_A [] sz)) 0 0 (va_A [] sz) := by
  refine Met.ofW (cc := cJ6_bitCount_0f7a4) (maxL := 1) (ret := (some .int)) (by decide) rfl ?_
  intro p e s m args below meth c s₁ B hml hv
  obtain ⟨rfl, hsz, hP, hK, hD0⟩ := hv
  have hx := B.exec
  have hb := B.bytes
  have hr := B.returns
  have hts := atoms_spec (ws := wq (Cond.code yJ6_bitCount_0f7a4 cJ6_bitCount_0f7a4 1 (some .int))) B.pre
  have hown : s.vm.findClass RJ6 = some m.cls := findClass_of_methodNamed B.named
  have hlocks := B.notSynchronized
  clear B
  subst hsz
  have hD := hD0.self (sz := s.heap.size)
  generalize hAe : va_A [] s.heap.size = A at hD ⊢
  have hA : ∀ q : Nat, s.heap.size ≤ q → A q := fun q h => by rw [← hAe]; exact Or.inr h
  clear hAe hD0
  have hS : va_S A s.heap s.heap [] := va_S.rf
  have hl := lv_entry ([.int p0]) (n := 1) (Nat.le_of_ble_eq_true rfl)
  rw [lg_entry_eq]
  generalize (lg_sl ([.int p0]) ++ List.replicate (1 - (lg_sl ([.int p0])).length) Slot.unset).toArray = ls at hl ⊢
  have hl : lv_has ls 1 [(0, .int p0)] := hl
  change W p l e rmJ6_bitCount_0f7a4 s m ([.int p0] : List Value).toArray below meth c s.heap [] 0 0 _ _
  unfold fJ6_bitCount_0f7a4 at hf
  refine lv_iload_n hx hb dJ6_bitCount_0f7a4_0 rfl (lv_at hl 0 rfl) ?_
  refine lv_iload_n hx hb dJ6_bitCount_0f7a4_1 rfl (lv_at hl 0 rfl) ?_
  refine lv_iconst (v := 1) hx hb dJ6_bitCount_0f7a4_2 (by decide) ?_
  refine lv_iushr hx hb dJ6_bitCount_0f7a4_3 rfl ?_
  refine lv_ldcw (v := 1431655765) hx hb hown (hts _ (gw_mem wkJ6_265)) dJ6_bitCount_0f7a4_4 ?_
  refine lv_iand hx hb dJ6_bitCount_0f7a4_7 ?_
  refine lv_isub hx hb dJ6_bitCount_0f7a4_8 ?_
  refine lv_topi (fun w1 ew1 => ?_)
  replace hf := nm_at hf ew1
  refine lv_istore_n (lv' := [(0, .int w1)]) hx hb dJ6_bitCount_0f7a4_9 rfl hl (by decide) rfl (fun ls hl => ?_)
  refine lv_iload_n hx hb dJ6_bitCount_0f7a4_10 rfl (lv_at hl 0 rfl) ?_
  refine lv_ldcw (v := 858993459) hx hb hown (hts _ (gw_mem wkJ6_266)) dJ6_bitCount_0f7a4_11 ?_
  refine lv_iand hx hb dJ6_bitCount_0f7a4_14 ?_
  refine lv_iload_n hx hb dJ6_bitCount_0f7a4_15 rfl (lv_at hl 0 rfl) ?_
  refine lv_iconst (v := 2) hx hb dJ6_bitCount_0f7a4_16 (by decide) ?_
  refine lv_iushr hx hb dJ6_bitCount_0f7a4_17 rfl ?_
  refine lv_ldcw (v := 858993459) hx hb hown (hts _ (gw_mem wkJ6_266)) dJ6_bitCount_0f7a4_18 ?_
  refine lv_iand hx hb dJ6_bitCount_0f7a4_21 ?_
  refine lv_iadd hx hb dJ6_bitCount_0f7a4_22 ?_
  refine lv_topi (fun w2 ew2 => ?_)
  replace hf := nm_at hf ew2
  refine lv_istore_n (lv' := [(0, .int w2)]) hx hb dJ6_bitCount_0f7a4_23 rfl hl (by decide) rfl (fun ls hl => ?_)
  refine lv_iload_n hx hb dJ6_bitCount_0f7a4_24 rfl (lv_at hl 0 rfl) ?_
  refine lv_iload_n hx hb dJ6_bitCount_0f7a4_25 rfl (lv_at hl 0 rfl) ?_
  refine lv_iconst (v := 4) hx hb dJ6_bitCount_0f7a4_26 (by decide) ?_
  refine lv_iushr hx hb dJ6_bitCount_0f7a4_27 rfl ?_
  refine lv_iadd hx hb dJ6_bitCount_0f7a4_28 ?_
  refine lv_ldcw (v := 252645135) hx hb hown (hts _ (gw_mem wkJ6_267)) dJ6_bitCount_0f7a4_29 ?_
  refine lv_iand hx hb dJ6_bitCount_0f7a4_32 ?_
  refine lv_topi (fun w3 ew3 => ?_)
  replace hf := nm_at hf ew3
  refine lv_istore_n (lv' := [(0, .int w3)]) hx hb dJ6_bitCount_0f7a4_33 rfl hl (by decide) rfl (fun ls hl => ?_)
  refine lv_iload_n hx hb dJ6_bitCount_0f7a4_34 rfl (lv_at hl 0 rfl) ?_
  refine lv_iload_n hx hb dJ6_bitCount_0f7a4_35 rfl (lv_at hl 0 rfl) ?_
  refine lv_bipush (v := 8) hx hb dJ6_bitCount_0f7a4_36 (by decide) ?_
  refine lv_iushr hx hb dJ6_bitCount_0f7a4_38 rfl ?_
  refine lv_iadd hx hb dJ6_bitCount_0f7a4_39 ?_
  refine lv_topi (fun w4 ew4 => ?_)
  replace hf := nm_at hf ew4
  refine lv_istore_n (lv' := [(0, .int w4)]) hx hb dJ6_bitCount_0f7a4_40 rfl hl (by decide) rfl (fun ls hl => ?_)
  refine lv_iload_n hx hb dJ6_bitCount_0f7a4_41 rfl (lv_at hl 0 rfl) ?_
  refine lv_iload_n hx hb dJ6_bitCount_0f7a4_42 rfl (lv_at hl 0 rfl) ?_
  refine lv_bipush (v := 16) hx hb dJ6_bitCount_0f7a4_43 (by decide) ?_
  refine lv_iushr hx hb dJ6_bitCount_0f7a4_45 rfl ?_
  refine lv_iadd hx hb dJ6_bitCount_0f7a4_46 ?_
  refine lv_topi (fun w5 ew5 => ?_)
  replace hf := nm_at hf ew5
  refine lv_istore_n (lv' := [(0, .int w5)]) hx hb dJ6_bitCount_0f7a4_47 rfl hl (by decide) rfl (fun ls hl => ?_)
  refine lv_iload_n hx hb dJ6_bitCount_0f7a4_48 rfl (lv_at hl 0 rfl) ?_
  refine lv_bipush (v := 63) hx hb dJ6_bitCount_0f7a4_49 (by decide) ?_
  refine lv_iand hx hb dJ6_bitCount_0f7a4_51 ?_
  cases hf
  exact W.iret hx hb hr (fun t ht _ => gqi hP hD hS ht) hS.2.2 dJ6_bitCount_0f7a4_52
theorem ccX0_J6_bitCount_0f7a4 {R : Room} {s : State} {args : Array Value} {c0 : Cond} (ht : ∀ w ∈ wq c0, w.before args s = true) (hR : rmJ6_bitCount_0f7a4.frames + 1 ≤ R.frames ∧ 8 + (1 + 11) + rmJ6_bitCount_0f7a4.locals ≤ R.locals) : CallB R s args RX0 33 yJ6_bitCount_0f7a4 cJ6_bitCount_0f7a4 1 (some .int) (wq (.code yJ6_bitCount_0f7a4 cJ6_bitCount_0f7a4 1 (some .int))) rmJ6_bitCount_0f7a4 0 0 1 ∧ (Cond.static yJ6_bitCount_0f7a4).before args s = true := gCS 1 ht wcJ6_bitCount_0f7a4 wmX0_33 wtJ6_bitCount_0f7a4 wnJ6 (by decide +kernel) rfl rfl hR
abbrev rmX0_highDays : Room := { frames := 1, cells := 0, slots := 0, locals := 20 }
set_option maxHeartbeats 4000000 in
set_option maxRecDepth 100000 in
theorem tX0_highDays (l : Launch) (dC : Nat → ClassId) (dI : Nat → Nat → Nat) (dA : Nat → ClassId) (ad : Nat → Nat) (sz : Nat) {p1 : Int32} {c_terms : Nat → Int32} {r : Int32} (hf : fX0_highDays p1 c_terms = some (r)) : Met l yX0_highDays (wq (Cond.code yX0_highDays cX0_highDays 2 (some .int))) rmX0_highDays (gP [.ref (ad 0), .int p1] (dC, dI) dA (wX0 dA ad c_terms) sz) (gQi (dC, dI) r (wX0 dA ad c_terms) (va_A (wX0 dA ad c_terms) sz)) 0 0 (va_A (wX0 dA ad c_terms) sz) := by
  refine Met.ofW (cc := cX0_highDays) (maxL := 2) (ret := (some .int)) (by decide) rfl ?_
  intro p e s m args below meth c s₁ B hml hv
  obtain ⟨rfl, hsz, hP, hK, hD0⟩ := hv
  have hx := B.exec
  have hb := B.bytes
  have hr := B.returns
  have hts := atoms_spec (ws := wq (Cond.code yX0_highDays cX0_highDays 2 (some .int))) B.pre
  have hown : s.vm.findClass RX0 = some m.cls := findClass_of_methodNamed B.named
  have hlocks := B.notSynchronized
  clear B
  subst hsz
  have hD := hD0.self (sz := s.heap.size)
  generalize hAe : va_A (wX0 dA ad c_terms) s.heap.size = A at hD ⊢
  have hA : ∀ q : Nat, s.heap.size ≤ q → A q := fun q h => by rw [← hAe]; exact Or.inr h
  clear hAe hD0
  have hS : va_S A s.heap s.heap [] := va_S.rf
  have hl := lv_entry ([.ref (ad 0), .int p1]) (n := 2) (Nat.le_of_ble_eq_true rfl)
  rw [lg_entry_eq]
  generalize (lg_sl ([.ref (ad 0), .int p1]) ++ List.replicate (2 - (lg_sl ([.ref (ad 0), .int p1])).length) Slot.unset).toArray = ls at hl ⊢
  have hl : lv_has ls 2 [(0, .ref (ad 0)), (1, .int p1)] := hl
  change W p l e rmX0_highDays s m ([.ref (ad 0), .int p1] : List Value).toArray below meth c s.heap [] 0 0 _ _
  unfold fX0_highDays at hf
  refine lv_iload_n hx hb dX0_highDays_0 rfl (lv_at hl 1 rfl) ?_
  refine lv_iconst (v := 1) hx hb dX0_highDays_1 (by decide) ?_
  refine lv_aload_n hx hb dX0_highDays_2 rfl (lv_at hl 0 rfl) ?_
  refine va_get (D := (dC, dI)) (ci := 1) (v := .ref (ad 1)) (C := RX0) (T := TX0) (N := 1) hx hb hts (fun w h => gw_mem (inX0 w h)) hown hK.1 hP 0 rfl rfl 0 (by decide) (hts _ (gw_mem wfX0_11)) (fun _ h9 => h9) rfl dX0_highDays_3 ?_
  refine lv_iconst (v := 5) hx hb dX0_highDays_6 (by decide) ?_
  refine va_iald hx hb hK.1 hP 1 0 rfl rfl (okI_in (by decide)) dX0_highDays_7 ?_
  refine lv_ishl hx hb dX0_highDays_8 ?_
  refine lv_iconst (v := 1) hx hb dX0_highDays_9 (by decide) ?_
  refine lv_isub hx hb dX0_highDays_10 ?_
  refine lv_iand hx hb dX0_highDays_11 ?_
  obtain ⟨r1, v2, hf⟩ := bd1_some hf
  refine gci0 (va_runS (As := [.int (p1 &&& ((1 <<< ((c_terms (Int32.toNatClampNeg 5)) &&& 31)) - 1))]) (rest := []) ⟨hx, hb, hml, hown, hts⟩ (tJ6_bitCount_0f7a4 l dC dI dA s.heap.size v2) (ccX0_J6_bitCount_0f7a4 hts ⟨Nat.le_of_ble_eq_true rfl, Nat.le_of_ble_eq_true rfl⟩) (gPreS0 hK) rfl rfl hl.1 rfl (lv_room (Nat.le_of_ble_eq_true rfl)) dX0_highDays_12 ⟨Nat.le_of_ble_eq_true rfl, Nat.le_of_ble_eq_true rfl⟩) hP hS hA (fun H locs hP hS => ?_)
  cases hf
  exact W.iret hx hb hr (fun t ht _ => gqi hP hD hS ht) hS.2.2 dX0_highDays_15
abbrev rmX0_turnedWorth : Room := { frames := 1, cells := 0, slots := 0, locals := 23 }
set_option maxHeartbeats 4000000 in
set_option maxRecDepth 100000 in
theorem tX0_turnedWorth (l : Launch) (dC : Nat → ClassId) (dI : Nat → Nat → Nat) (dA : Nat → ClassId) (ad : Nat → Nat) (sz : Nat) {p1 : Int64} {p3 : Int64} {c_terms : Nat → Int32} {r : Int64} (hf : fX0_turnedWorth p1 p3 c_terms = some (r)) : Met l yX0_turnedWorth (wq (Cond.code yX0_turnedWorth cX0_turnedWorth 9 (some .long))) rmX0_turnedWorth (gP [.ref (ad 0), .long p1, .long p3] (dC, dI) dA (wX0 dA ad c_terms) sz) (gQl (dC, dI) r (wX0 dA ad c_terms) (va_A (wX0 dA ad c_terms) sz)) 0 0 (va_A (wX0 dA ad c_terms) sz) := by
  refine Met.ofW (cc := cX0_turnedWorth) (maxL := 9) (ret := (some .long)) (by decide) rfl ?_
  intro p e s m args below meth c s₁ B hml hv
  obtain ⟨rfl, hsz, hP, hK, hD0⟩ := hv
  have hx := B.exec
  have hb := B.bytes
  have hr := B.returns
  have hts := atoms_spec (ws := wq (Cond.code yX0_turnedWorth cX0_turnedWorth 9 (some .long))) B.pre
  have hown : s.vm.findClass RX0 = some m.cls := findClass_of_methodNamed B.named
  have hlocks := B.notSynchronized
  clear B
  subst hsz
  have hD := hD0.self (sz := s.heap.size)
  generalize hAe : va_A (wX0 dA ad c_terms) s.heap.size = A at hD ⊢
  have hA : ∀ q : Nat, s.heap.size ≤ q → A q := fun q h => by rw [← hAe]; exact Or.inr h
  clear hAe hD0
  have hS : va_S A s.heap s.heap [] := va_S.rf
  have hl := lv_entry ([.ref (ad 0), .long p1, .long p3]) (n := 9) (Nat.le_of_ble_eq_true rfl)
  rw [lg_entry_eq]
  generalize (lg_sl ([.ref (ad 0), .long p1, .long p3]) ++ List.replicate (9 - (lg_sl ([.ref (ad 0), .long p1, .long p3])).length) Slot.unset).toArray = ls at hl ⊢
  have hl : lv_has ls 9 [(0, .ref (ad 0)), (1, .long p1), (3, .long p3)] := hl
  change W p l e rmX0_turnedWorth s m ([.ref (ad 0), .long p1, .long p3] : List Value).toArray below meth c s.heap [] 0 0 _ _
  unfold fX0_turnedWorth at hf
  refine lv_aload_n hx hb dX0_turnedWorth_0 rfl (lv_at hl 0 rfl) ?_
  refine va_get (D := (dC, dI)) (ci := 1) (v := .ref (ad 1)) (C := RX0) (T := TX0) (N := 1) hx hb hts (fun w h => gw_mem (inX0 w h)) hown hK.1 hP 0 rfl rfl 0 (by decide) (hts _ (gw_mem wfX0_11)) (fun _ h9 => h9) rfl dX0_turnedWorth_1 ?_
  refine lv_iconst (v := 1) hx hb dX0_turnedWorth_4 (by decide) ?_
  refine va_iald hx hb hK.1 hP 1 0 rfl rfl (okI_in (by decide)) dX0_turnedWorth_5 ?_
  refine lv_i2l hx hb dX0_turnedWorth_6 rfl ?_
  refine lv_lload_n hx hb dX0_turnedWorth_7 rfl (lv_at hl 1 rfl) ?_
  refine lv_lmul hx hb dX0_turnedWorth_8 ?_
  refine lv_ldc2 (v := 100) hx hb hown (hts _ (gw_mem wkX0_39)) dX0_turnedWorth_9 ?_
  refine lv_ldiv hx hb dX0_turnedWorth_12 (by decide) ?_
  refine lv_topl (fun w1 ew1 => ?_)
  replace hf := nm_at hf ew1
  refine lv_lstore (lv' := [(5, .long w1), (0, .ref (ad 0)), (1, .long p1), (3, .long p3)]) hx hb dX0_turnedWorth_13 hl (by decide) rfl (fun ls hl => ?_)
  refine lv_aload_n hx hb dX0_turnedWorth_15 rfl (lv_at hl 1 rfl) ?_
  refine va_get (D := (dC, dI)) (ci := 1) (v := .ref (ad 1)) (C := RX0) (T := TX0) (N := 1) hx hb hts (fun w h => gw_mem (inX0 w h)) hown hK.1 hP 0 rfl rfl 0 (by decide) (hts _ (gw_mem wfX0_11)) (fun _ h9 => h9) rfl dX0_turnedWorth_16 ?_
  refine lv_iconst (v := 1) hx hb dX0_turnedWorth_19 (by decide) ?_
  refine va_iald hx hb hK.1 hP 1 0 rfl rfl (okI_in (by decide)) dX0_turnedWorth_20 ?_
  refine lv_i2l hx hb dX0_turnedWorth_21 rfl ?_
  refine lv_lload_n hx hb dX0_turnedWorth_22 rfl (lv_at hl 2 rfl) ?_
  refine lv_lload_n hx hb dX0_turnedWorth_23 rfl (lv_at hl 3 rfl) ?_
  refine lv_ladd hx hb dX0_turnedWorth_24 ?_
  refine lv_lmul hx hb dX0_turnedWorth_25 ?_
  refine lv_ldc2 (v := 200) hx hb hown (hts _ (gw_mem wkX0_41)) dX0_turnedWorth_26 ?_
  refine lv_ldiv hx hb dX0_turnedWorth_29 (by decide) ?_
  refine lv_topl (fun w2 ew2 => ?_)
  replace hf := nm_at hf ew2
  refine lv_lstore (lv' := [(7, .long w2), (5, .long w1), (0, .ref (ad 0)), (1, .long p1), (3, .long p3)]) hx hb dX0_turnedWorth_30 hl (by decide) rfl (fun ls hl => ?_)
  refine lv_aload_n hx hb dX0_turnedWorth_32 rfl (lv_at hl 2 rfl) ?_
  refine va_get (D := (dC, dI)) (ci := 1) (v := .ref (ad 1)) (C := RX0) (T := TX0) (N := 1) hx hb hts (fun w h => gw_mem (inX0 w h)) hown hK.1 hP 0 rfl rfl 0 (by decide) (hts _ (gw_mem wfX0_11)) (fun _ h9 => h9) rfl dX0_turnedWorth_33 ?_
  refine lv_bipush (v := 7) hx hb dX0_turnedWorth_36 (by decide) ?_
  refine va_iald hx hb hK.1 hP 1 0 rfl rfl (okI_in (by decide)) dX0_turnedWorth_38 ?_
  by_cases k3 : (c_terms (Int32.toNatClampNeg 7)) = 0
  · replace hf := ifp k3 hf
    refine lv_tableIn (tgt := 64) hx hb dX0_turnedWorth_39 (by rw [k3]; decide) (by rw [k3]; decide) (by rw [k3]; rfl) (by decide) ?_
    refine lv_lload hx hb dX0_turnedWorth_64 (lv_at hl 1 rfl) ?_
    cases hf
    exact W.lret hx hb hr (fun t ht _ => gql hP hD hS ht) hS.2.2 dX0_turnedWorth_66
  · replace hf := ifn k3 hf
    by_cases k4 : (c_terms (Int32.toNatClampNeg 7)) = 1
    · replace hf := ifp k4 hf
      refine lv_tableIn (tgt := 67) hx hb dX0_turnedWorth_39 (by rw [k4]; decide) (by rw [k4]; decide) (by rw [k4]; rfl) (by decide) ?_
      refine lv_lload hx hb dX0_turnedWorth_67 (lv_at hl 0 rfl) ?_
      cases hf
      exact W.lret hx hb hr (fun t ht _ => gql hP hD hS ht) hS.2.2 dX0_turnedWorth_69
    · replace hf := ifn k4 hf
      by_cases k5 : (c_terms (Int32.toNatClampNeg 7)) = 2
      · replace hf := ifp k5 hf
        refine lv_tableIn (tgt := 70) hx hb dX0_turnedWorth_39 (by rw [k5]; decide) (by rw [k5]; decide) (by rw [k5]; rfl) (by decide) ?_
        refine lv_lload hx hb dX0_turnedWorth_70 (lv_at hl 1 rfl) ?_
        refine lv_lload hx hb dX0_turnedWorth_72 (lv_at hl 0 rfl) ?_
        refine va_mmin_long hx hb (hml.trans hl.1.symm) hown (hts _ (gw_mem wmX0_43)) (hts _ (gw_mem wtJ9_min_f86c9)) (hts _ (gw_mem wnJ9)) (hts _ (gw_mem wcJ9_min_f86c9)) (Nat.le_of_ble_eq_true rfl) (Nat.le_of_ble_eq_true rfl) (Nat.le_of_ble_eq_true rfl) (Nat.le_of_ble_eq_true rfl) dX0_turnedWorth_74 ?_
        cases hf
        exact W.lret hx hb hr (fun t ht _ => gql hP hD hS ht) hS.2.2 dX0_turnedWorth_77
      · replace hf := ifn k5 hf
        have uk3 := lv_neT (a := 0) k3 (by decide)
        have uk4 := lv_neT (a := 1) k4 (by decide)
        have uk5 := lv_neT (a := 2) k5 (by decide)
        refine lv_tableOut (tgt := 78) hx hb dX0_turnedWorth_39 (by omega) (by decide) ?_
        refine lv_lload hx hb dX0_turnedWorth_78 (lv_at hl 1 rfl) ?_
        refine lv_lload hx hb dX0_turnedWorth_80 (lv_at hl 0 rfl) ?_
        refine va_mmax_long hx hb (hml.trans hl.1.symm) hown (hts _ (gw_mem wmX0_49)) (hts _ (gw_mem wtJ9_max_f86c9)) (hts _ (gw_mem wnJ9)) (hts _ (gw_mem wcJ9_max_f86c9)) (Nat.le_of_ble_eq_true rfl) (Nat.le_of_ble_eq_true rfl) (Nat.le_of_ble_eq_true rfl) (Nat.le_of_ble_eq_true rfl) dX0_turnedWorth_82 ?_
        cases hf
        exact W.lret hx hb hr (fun t ht _ => gql hP hD hS ht) hS.2.2 dX0_turnedWorth_85
abbrev rmX1_begin : Room := { frames := 0, cells := 0, slots := 0, locals := 0 }
set_option maxHeartbeats 4000000 in
set_option maxRecDepth 100000 in
theorem tX1_begin (l : Launch) (dC : Nat → ClassId) (dI : Nat → Nat → Nat) (dA : Nat → ClassId) (ad : Nat → Nat) (sz : Nat) {p1 : Int32} {c_x : Int32} {o_c_x : Int32} (hf : fX1_begin p1 c_x = some (o_c_x)) : Met l yX1_begin (wq (Cond.code yX1_begin cX1_begin 2 none)) rmX1_begin (gP [.ref (ad 0), .int p1] (dC, dI) dA (wX1 dA ad c_x) sz) (gQv (dC, dI) (wX1 dA ad o_c_x) (va_A (wX1 dA ad c_x) sz)) 0 0 (va_A (wX1 dA ad c_x) sz) := by
  refine Met.ofW (cc := cX1_begin) (maxL := 2) (ret := none) (by decide) rfl ?_
  intro p e s m args below meth c s₁ B hml hv
  obtain ⟨rfl, hsz, hP, hK, hD0⟩ := hv
  have hx := B.exec
  have hb := B.bytes
  have hr := B.returns
  have hts := atoms_spec (ws := wq (Cond.code yX1_begin cX1_begin 2 none)) B.pre
  have hown : s.vm.findClass RX1 = some m.cls := findClass_of_methodNamed B.named
  have hlocks := B.notSynchronized
  clear B
  subst hsz
  have hD := hD0.self (sz := s.heap.size)
  generalize hAe : va_A (wX1 dA ad c_x) s.heap.size = A at hD ⊢
  have hA : ∀ q : Nat, s.heap.size ≤ q → A q := fun q h => by rw [← hAe]; exact Or.inr h
  clear hAe hD0
  have hS : va_S A s.heap s.heap [] := va_S.rf
  have hl := lv_entry ([.ref (ad 0), .int p1]) (n := 2) (Nat.le_of_ble_eq_true rfl)
  rw [lg_entry_eq]
  generalize (lg_sl ([.ref (ad 0), .int p1]) ++ List.replicate (2 - (lg_sl ([.ref (ad 0), .int p1])).length) Slot.unset).toArray = ls at hl ⊢
  have hl : lv_has ls 2 [(0, .ref (ad 0)), (1, .int p1)] := hl
  change W p l e rmX1_begin s m ([.ref (ad 0), .int p1] : List Value).toArray below meth c s.heap [] 0 0 _ _
  unfold fX1_begin at hf
  refine lv_aload_n hx hb dX1_begin_0 rfl (lv_at hl 0 rfl) ?_
  refine lv_iload_n hx hb dX1_begin_1 rfl (lv_at hl 1 rfl) ?_
  refine lv_ldc (v := 65535) hx hb hown (hts _ (gw_mem wkX1_15)) dX1_begin_2 ?_
  refine lv_iand hx hb dX1_begin_4 ?_
  refine lv_topi (fun w1 ew1 => ?_)
  replace hf := nm_at hf ew1
  refine va_put (D := (dC, dI)) (ci := 2) (v := .int w1) (ty := .int) (C := RX1) (T := TX1) (N := 1) hx hb hts (fun w h => gw_mem (inX1 w h)) tyX1 tyX1_ok nmX1 hown hK.1 hP hD hS 0 rfl rfl 0 (by decide) (hts _ (gw_mem wfX1_9)) (fun _ h9 => h9) rfl (by decide +kernel) rfl rfl (Nat.le_of_ble_eq_true rfl) dX1_begin_5 (fun H locs hP hD hS => ?_)
  have hP : va_P (dC, dI) vwCl (wX1 dA ad w1) H := hP
  have hD : va_D A (wX1 dA ad w1) := hD
  cases hf
  exact W.vret hx hb hr (fun t ht _ => gqv hP hD hS ht) hS.2.2 dX1_begin_8
abbrev rmX1_drawBelow : Room := { frames := 0, cells := 0, slots := 0, locals := 0 }
set_option maxHeartbeats 4000000 in
set_option maxRecDepth 100000 in
theorem tX1_drawBelow (l : Launch) (dC : Nat → ClassId) (dI : Nat → Nat → Nat) (dA : Nat → ClassId) (ad : Nat → Nat) (sz : Nat) {p1 : Int32} {c_x : Int32} {r : Int32} {o_c_x : Int32} (hf : fX1_drawBelow p1 c_x = some (r, o_c_x)) : Met l yX1_drawBelow (wq (Cond.code yX1_drawBelow cX1_drawBelow 2 (some .int))) rmX1_drawBelow (gP [.ref (ad 0), .int p1] (dC, dI) dA (wX1 dA ad c_x) sz) (gQi (dC, dI) r (wX1 dA ad o_c_x) (va_A (wX1 dA ad c_x) sz)) 0 0 (va_A (wX1 dA ad c_x) sz) := by
  refine Met.ofW (cc := cX1_drawBelow) (maxL := 2) (ret := (some .int)) (by decide) rfl ?_
  intro p e s m args below meth c s₁ B hml hv
  obtain ⟨rfl, hsz, hP, hK, hD0⟩ := hv
  have hx := B.exec
  have hb := B.bytes
  have hr := B.returns
  have hts := atoms_spec (ws := wq (Cond.code yX1_drawBelow cX1_drawBelow 2 (some .int))) B.pre
  have hown : s.vm.findClass RX1 = some m.cls := findClass_of_methodNamed B.named
  have hlocks := B.notSynchronized
  clear B
  subst hsz
  have hD := hD0.self (sz := s.heap.size)
  generalize hAe : va_A (wX1 dA ad c_x) s.heap.size = A at hD ⊢
  have hA : ∀ q : Nat, s.heap.size ≤ q → A q := fun q h => by rw [← hAe]; exact Or.inr h
  clear hAe hD0
  have hS : va_S A s.heap s.heap [] := va_S.rf
  have hl := lv_entry ([.ref (ad 0), .int p1]) (n := 2) (Nat.le_of_ble_eq_true rfl)
  rw [lg_entry_eq]
  generalize (lg_sl ([.ref (ad 0), .int p1]) ++ List.replicate (2 - (lg_sl ([.ref (ad 0), .int p1])).length) Slot.unset).toArray = ls at hl ⊢
  have hl : lv_has ls 2 [(0, .ref (ad 0)), (1, .int p1)] := hl
  change W p l e rmX1_drawBelow s m ([.ref (ad 0), .int p1] : List Value).toArray below meth c s.heap [] 0 0 _ _
  unfold fX1_drawBelow at hf
  refine lv_aload_n hx hb dX1_drawBelow_0 rfl (lv_at hl 0 rfl) ?_
  refine lv_sipush (v := 25173) hx hb dX1_drawBelow_1 (by decide) ?_
  refine lv_aload_n hx hb dX1_drawBelow_4 rfl (lv_at hl 0 rfl) ?_
  refine va_get (D := (dC, dI)) (ci := 2) (v := .int c_x) (C := RX1) (T := TX1) (N := 1) hx hb hts (fun w h => gw_mem (inX1 w h)) hown hK.1 hP 0 rfl rfl 0 (by decide) (hts _ (gw_mem wfX1_9)) (fun _ h9 => h9) rfl dX1_drawBelow_5 ?_
  refine lv_imul hx hb dX1_drawBelow_8 ?_
  refine lv_sipush (v := 13849) hx hb dX1_drawBelow_9 (by decide) ?_
  refine lv_iadd hx hb dX1_drawBelow_12 ?_
  refine lv_ldc (v := 65535) hx hb hown (hts _ (gw_mem wkX1_15)) dX1_drawBelow_13 ?_
  refine lv_iand hx hb dX1_drawBelow_15 ?_
  refine lv_topi (fun w1 ew1 => ?_)
  replace hf := nm_at hf ew1
  refine va_put (D := (dC, dI)) (ci := 2) (v := .int w1) (ty := .int) (C := RX1) (T := TX1) (N := 1) hx hb hts (fun w h => gw_mem (inX1 w h)) tyX1 tyX1_ok nmX1 hown hK.1 hP hD hS 0 rfl rfl 0 (by decide) (hts _ (gw_mem wfX1_9)) (fun _ h9 => h9) rfl (by decide +kernel) rfl rfl (Nat.le_of_ble_eq_true rfl) dX1_drawBelow_16 (fun H locs hP hD hS => ?_)
  have hP : va_P (dC, dI) vwCl (wX1 dA ad w1) H := hP
  have hD : va_D A (wX1 dA ad w1) := hD
  refine lv_iload_n hx hb dX1_drawBelow_19 rfl (lv_at hl 1 rfl) ?_
  obtain ⟨j3, v5, hf⟩ := bd1_some hf
  have J4 : ∀ (H : Heap) (locs : List Loc) (ls : Array Slot), va_P (dC, dI) vwCl (wX1 dA ad w1) H → va_D A (wX1 dA ad w1) → va_S A s.heap H locs → lv_has ls 2 [] → W p l e rmX1_drawBelow s m ([.ref (ad 0), .int p1] : List Value).toArray below meth c H locs 0 0 (MQ below (gQi (dC, dI) r (wX1 dA ad o_c_x) A) ([.ref (ad 0), .int p1] : List Value).toArray s 0 0 A) (F0 m 35 ls [.int j3]) := by
    intro H locs ls hP hD hS hl
    cases hf
    exact W.iret hx hb hr (fun t ht _ => gqi hP hD hS ht) hS.2.2 dX1_drawBelow_35
  replace hf := v5
  clear v5
  refine lv_if_le (tgt := 34) hx hb dX1_drawBelow_20 (by decide) (fun k2 => ?_) (fun k2 => ?_)
  · replace hf := ifp k2 hf
    refine lv_iconst (v := 0) hx hb dX1_drawBelow_34 (by decide) ?_
    cases hf
    exact J4 _ _ _ hP hD hS (lv_sub hl [] rfl)
  · replace hf := ifn k2 hf
    refine lv_aload_n hx hb dX1_drawBelow_23 rfl (lv_at hl 0 rfl) ?_
    refine va_get (D := (dC, dI)) (ci := 2) (v := .int w1) (C := RX1) (T := TX1) (N := 1) hx hb hts (fun w h => gw_mem (inX1 w h)) hown hK.1 hP 0 rfl rfl 0 (by decide) (hts _ (gw_mem wfX1_9)) (fun _ h9 => h9) rfl dX1_drawBelow_24 ?_
    refine lv_iconst (v := 4) hx hb dX1_drawBelow_27 (by decide) ?_
    refine lv_idiv hx hb dX1_drawBelow_28 (by decide) ?_
    refine lv_iload_n hx hb dX1_drawBelow_29 rfl (lv_at hl 1 rfl) ?_
    obtain ⟨h6, hf⟩ := og_some hf
    refine lv_irem hx hb dX1_drawBelow_30 (nzI_ne h6) ?_
    refine lv_goto (tgt := 35) hx hb dX1_drawBelow_31 (by decide) ?_
    cases hf
    exact J4 _ _ _ hP hD hS (lv_sub hl [] rfl)
abbrev rmX8_longer : Room := { frames := 0, cells := 0, slots := 0, locals := 0 }
set_option maxHeartbeats 4000000 in
set_option maxRecDepth 100000 in
theorem tX8_longer (l : Launch) (dC : Nat → ClassId) (dI : Nat → Nat → Nat) (dA : Nat → ClassId) (sz : Nat) {p0 : Int32} {p1 : Int32} {r : Int32} (hf : fX8_longer p0 p1 = some (r)) : Met l yX8_longer (wq (Cond.code yX8_longer cX8_longer 2 (some .int))) rmX8_longer (gP [.int p0, .int p1] (dC, dI) dA [] sz) (gQi (dC, dI) r [] (va_A [] sz)) 0 0 (va_A [] sz) := by
  refine Met.ofW (cc := cX8_longer) (maxL := 2) (ret := (some .int)) (by decide) rfl ?_
  intro p e s m args below meth c s₁ B hml hv
  obtain ⟨rfl, hsz, hP, hK, hD0⟩ := hv
  have hx := B.exec
  have hb := B.bytes
  have hr := B.returns
  have hts := atoms_spec (ws := wq (Cond.code yX8_longer cX8_longer 2 (some .int))) B.pre
  have hown : s.vm.findClass RX8 = some m.cls := findClass_of_methodNamed B.named
  have hlocks := B.notSynchronized
  clear B
  subst hsz
  have hD := hD0.self (sz := s.heap.size)
  generalize hAe : va_A [] s.heap.size = A at hD ⊢
  have hA : ∀ q : Nat, s.heap.size ≤ q → A q := fun q h => by rw [← hAe]; exact Or.inr h
  clear hAe hD0
  have hS : va_S A s.heap s.heap [] := va_S.rf
  have hl := lv_entry ([.int p0, .int p1]) (n := 2) (Nat.le_of_ble_eq_true rfl)
  rw [lg_entry_eq]
  generalize (lg_sl ([.int p0, .int p1]) ++ List.replicate (2 - (lg_sl ([.int p0, .int p1])).length) Slot.unset).toArray = ls at hl ⊢
  have hl : lv_has ls 2 [(0, .int p0), (1, .int p1)] := hl
  change W p l e rmX8_longer s m ([.int p0, .int p1] : List Value).toArray below meth c s.heap [] 0 0 _ _
  unfold fX8_longer at hf
  refine lv_iload_n hx hb dX8_longer_0 rfl (lv_at hl 0 rfl) ?_
  refine lv_iconst (v := 2) hx hb dX8_longer_1 (by decide) ?_
  refine lv_imul hx hb dX8_longer_2 ?_
  refine lv_iload_n hx hb dX8_longer_3 rfl (lv_at hl 1 rfl) ?_
  obtain ⟨j2, v4, hf⟩ := bd1_some hf
  have J3 : ∀ (H : Heap) (locs : List Loc) (ls : Array Slot), va_P (dC, dI) vwCl [] H → va_D A [] → va_S A s.heap H locs → lv_has ls 2 [] → W p l e rmX8_longer s m ([.int p0, .int p1] : List Value).toArray below meth c H locs 0 0 (MQ below (gQi (dC, dI) r [] A) ([.int p0, .int p1] : List Value).toArray s 0 0 A) (F0 m 12 ls [.int j2, .int (p0 * 2)]) := by
    intro H locs ls hP hD hS hl
    refine lv_iadd hx hb dX8_longer_12 ?_
    cases hf
    exact W.iret hx hb hr (fun t ht _ => gqi hP hD hS ht) hS.2.2 dX8_longer_13
  replace hf := v4
  clear v4
  refine lv_if_eq (tgt := 11) hx hb dX8_longer_4 (by decide) (fun k1 => ?_) (fun k1 => ?_)
  · replace hf := ifp k1 hf
    refine lv_iconst (v := 0) hx hb dX8_longer_11 (by decide) ?_
    cases hf
    exact J3 _ _ _ hP hD hS (lv_sub hl [] rfl)
  · replace hf := ifn k1 hf
    refine lv_iconst (v := 1) hx hb dX8_longer_7 (by decide) ?_
    refine lv_goto (tgt := 12) hx hb dX8_longer_8 (by decide) ?_
    cases hf
    exact J3 _ _ _ hP hD hS (lv_sub hl [] rfl)
theorem ccX1_X7_get {R : Room} {s : State} {args : Array Value} {c0 : Cond} (ht : ∀ w ∈ wq c0, w.before args s = true) (hR : rmX7_get.frames + 1 ≤ R.frames ∧ 8 + (2 + 11) + rmX7_get.locals ≤ R.locals) : CallW R s args RX1 RX7 18 yX7_get cX7_get 2 (some .int) (wq (.code yX7_get cX7_get 2 (some .int))) rmX7_get 0 0 1 := gCW 1 ht wcX7_get wmX1_18 wiX7_get weX7_get wnX7 (by decide +kernel) rfl rfl hR
theorem ccX1_X1_drawBelow {R : Room} {s : State} {args : Array Value} {c0 : Cond} (ht : ∀ w ∈ wq c0, w.before args s = true) (hR : rmX1_drawBelow.frames + 1 ≤ R.frames ∧ 8 + (2 + 11) + rmX1_drawBelow.locals ≤ R.locals) : CallW R s args RX1 RX1 22 yX1_drawBelow cX1_drawBelow 2 (some .int) (wq (.code yX1_drawBelow cX1_drawBelow 2 (some .int))) rmX1_drawBelow 0 0 1 := gCW 1 ht wcX1_drawBelow wmX1_22 wiX1_drawBelow weX1_drawBelow wnX1 (by decide +kernel) rfl rfl hR
theorem ccX1_X8_longer {R : Room} {s : State} {args : Array Value} {c0 : Cond} (hN : gN s) (ht : ∀ w ∈ wq c0, w.before args s = true) (hR : rmX8_longer.frames + 1 ≤ R.frames ∧ 8 + (2 + 11) + rmX8_longer.locals ≤ R.locals) : va_CN R s args RX1 25 yX8_longer RX8 cX8_longer 2 (some .int) (wq (.code yX8_longer cX8_longer 2 (some .int))) rmX8_longer 0 0 2 ∧ (Cond.static yX8_longer).before args s = true ∧ True := gCSN 2 hN ht wcX8_longer wmX1_25 wtX8_longer wnX8 (by decide +kernel) rfl rfl hR
abbrev rmX1_drawRow : Room := { frames := 2, cells := 0, slots := 0, locals := 43 }
set_option maxHeartbeats 4000000 in
set_option maxRecDepth 100000 in
theorem tX1_drawRow (l : Launch) (dC : Nat → ClassId) (dI : Nat → Nat → Nat) (dA : Nat → ClassId) (ad : Nat → Nat) (ad2 : Nat → Nat) (sz : Nat) {p1 : Int32} {c_x : Int32} {d2_parts : Nat → Int32} {r : Int32} {o_c_x : Int32} (hf : fX1_drawRow p1 c_x d2_parts = some (r, o_c_x)) : Met l yX1_drawRow (wq (Cond.code yX1_drawRow cX1_drawRow 5 (some .int))) rmX1_drawRow (gP [.ref (ad 0), .int p1, .ref (ad2 0)] (dC, dI) dA ((wX1 dA ad c_x) ++ (wX7 dA ad2 d2_parts)) sz) (gQi (dC, dI) r ((wX1 dA ad o_c_x) ++ (wX7 dA ad2 d2_parts)) (va_A ((wX1 dA ad c_x) ++ (wX7 dA ad2 d2_parts)) sz)) 0 0 (va_A ((wX1 dA ad c_x) ++ (wX7 dA ad2 d2_parts)) sz) := by
  refine Met.ofW (cc := cX1_drawRow) (maxL := 5) (ret := (some .int)) (by decide) rfl ?_
  intro p e s m args below meth c s₁ B hml hv
  obtain ⟨rfl, hsz, hP, hK, hD0⟩ := hv
  have hx := B.exec
  have hb := B.bytes
  have hr := B.returns
  have hts := atoms_spec (ws := wq (Cond.code yX1_drawRow cX1_drawRow 5 (some .int))) B.pre
  have hown : s.vm.findClass RX1 = some m.cls := findClass_of_methodNamed B.named
  have hlocks := B.notSynchronized
  clear B
  subst hsz
  have hD := hD0.self (sz := s.heap.size)
  generalize hAe : va_A ((wX1 dA ad c_x) ++ (wX7 dA ad2 d2_parts)) s.heap.size = A at hD ⊢
  have hA : ∀ q : Nat, s.heap.size ≤ q → A q := fun q h => by rw [← hAe]; exact Or.inr h
  clear hAe hD0
  have hS : va_S A s.heap s.heap [] := va_S.rf
  have hl := lv_entry ([.ref (ad 0), .int p1, .ref (ad2 0)]) (n := 5) (Nat.le_of_ble_eq_true rfl)
  rw [lg_entry_eq]
  generalize (lg_sl ([.ref (ad 0), .int p1, .ref (ad2 0)]) ++ List.replicate (5 - (lg_sl ([.ref (ad 0), .int p1, .ref (ad2 0)])).length) Slot.unset).toArray = ls at hl ⊢
  have hl : lv_has ls 5 [(0, .ref (ad 0)), (1, .int p1), (2, .ref (ad2 0))] := hl
  change W p l e rmX1_drawRow s m ([.ref (ad 0), .int p1, .ref (ad2 0)] : List Value).toArray below meth c s.heap [] 0 0 _ _
  generalize hQ : MQ below (gQi (dC, dI) r ((wX1 dA ad o_c_x) ++ (wX7 dA ad2 d2_parts)) A) ([.ref (ad 0), .int p1, .ref (ad2 0)] : List Value).toArray s 0 0 A = Q
  have LP5 : ∀ (n : Nat) (x1 : Int32) (d2_parts : Nat → Int32) (x3 : Int32) (x4 : Int32) (c_x : Int32) (o3 : Int32) (o_c_x : Int32) (H : Heap) (locs : List Loc) (ls : Array Slot), va_P (dC, dI) vwCl ((wX1 dA ad c_x) ++ (wX7 dA ad2 d2_parts)) H → va_D A ((wX1 dA ad c_x) ++ (wX7 dA ad2 d2_parts)) → va_S A s.heap H locs → lpX1_drawRow_5 x1 d2_parts n x3 x4 c_x = some (o3, o_c_x) → lv_has ls 5 [(0, .ref (ad 0)), (1, .int x1), (2, .ref (ad2 0)), (3, .int x3), (4, .int x4)] → (∀ (H : Heap) (locs : List Loc) (ls : Array Slot), va_P (dC, dI) vwCl ((wX1 dA ad o_c_x) ++ (wX7 dA ad2 d2_parts)) H → va_D A ((wX1 dA ad o_c_x) ++ (wX7 dA ad2 d2_parts)) → va_S A s.heap H locs → lv_has ls 5 [(3, .int o3)] → W p l e rmX1_drawRow s m ([.ref (ad 0), .int p1, .ref (ad2 0)] : List Value).toArray below meth c H locs 0 0 Q (F0 m 53 ls [])) → W p l e rmX1_drawRow s m ([.ref (ad 0), .int p1, .ref (ad2 0)] : List Value).toArray below meth c H locs 0 0 Q (F0 m 5 ls []) := by
    intro n
    induction n with
    | zero =>
      intro x1 d2_parts x3 x4 c_x o3 o_c_x H locs ls hP hD hS hf hl hk
      cases hf
    | succ n ih5 =>
      intro x1 d2_parts x3 x4 c_x o3 o_c_x H locs ls hP hD hS hf hl hk
      rw [lpX1_drawRow_5.eq_2] at hf
      refine lv_iload hx hb dX1_drawRow_5 (lv_at hl 4 rfl) ?_
      refine lv_iload_n hx hb dX1_drawRow_7 rfl (lv_at hl 1 rfl) ?_
      refine lv_icmp_ge (tgt := 53) hx hb dX1_drawRow_8 (by decide) (fun k4 => ?_) (fun k4 => ?_)
      · replace hf := ifp k4 hf
        cases hf
        exact hk _ _ _ hP hD hS (lv_sub hl [3] rfl)
      · replace hf := ifn k4 hf
        refine lv_iload hx hb dX1_drawRow_11 (lv_at hl 4 rfl) ?_
        refine lv_bipush (v := 6) hx hb dX1_drawRow_13 (by decide) ?_
        refine lv_icmp_ge (tgt := 53) hx hb dX1_drawRow_15 (by decide) (fun k5 => ?_) (fun k5 => ?_)
        · replace hf := ifp k5 hf
          cases hf
          exact hk _ _ _ hP hD hS (lv_sub hl [3] rfl)
        · replace hf := ifn k5 hf
          refine lv_iload_n hx hb dX1_drawRow_18 rfl (lv_at hl 3 rfl) ?_
          refine lv_aload_n hx hb dX1_drawRow_19 rfl (lv_at hl 0 rfl) ?_
          refine lv_aload_n hx hb dX1_drawRow_20 rfl (lv_at hl 2 rfl) ?_
          refine lv_bipush (v := 7) hx hb dX1_drawRow_21 (by decide) ?_
          obtain ⟨r6, v7, hf⟩ := bd1_some hf
          have z8 := sg1 (ws := ((wX1 dA ad c_x) ++ (wX7 dA ad2 d2_parts))) (s0 := (((wX1 dA ad c_x) ++ (wX7 dA ad2 d2_parts))).take 1) (s1 := (((wX1 dA ad c_x) ++ (wX7 dA ad2 d2_parts))).drop 3) (x1 := (wX7 dA ad2 d2_parts)) rfl
          refine gpi (wf := ((wX1 dA ad c_x) ++ (wX7 dA ad2 d2_parts))) (va_runV (As := [.int 7]) (rest := [.ref (ad 0), .int x3]) ⟨hx, hb, hml, hown, hts⟩ (tX7_get l dC dI dA ad2 H.size v7) (ccX1_X7_get hts ⟨Nat.le_of_ble_eq_true rfl, Nat.le_of_ble_eq_true rfl⟩) (gPreV (ci := 7) (q0 := 0) (psub z8 hP) hK (psubD z8 hD) rfl rfl) rfl rfl hl.1 rfl (lv_room (Nat.le_of_ble_eq_true rfl)) dX1_drawRow_23 ⟨Nat.le_of_ble_eq_true rfl, Nat.le_of_ble_eq_true rfl⟩) hP hD hS hA z8 (sg1 (s0 := (((wX1 dA ad c_x) ++ (wX7 dA ad2 d2_parts))).take 1) (s1 := (((wX1 dA ad c_x) ++ (wX7 dA ad2 d2_parts))).drop 3) (x1 := (wX7 dA ad2 d2_parts)) rfl) (fun H locs hP hD hS => ?_)
          obtain ⟨r9, c_x_10, v11, hf⟩ := bd2_some hf
          have z12 := sg1 (ws := ((wX1 dA ad c_x) ++ (wX7 dA ad2 d2_parts))) (s0 := (((wX1 dA ad c_x) ++ (wX7 dA ad2 d2_parts))).take 0) (s1 := (((wX1 dA ad c_x) ++ (wX7 dA ad2 d2_parts))).drop 1) (x1 := (wX1 dA ad c_x)) rfl
          refine gpi (wf := ((wX1 dA ad c_x_10) ++ (wX7 dA ad2 d2_parts))) (va_runV (As := [.int r6]) (rest := [.int x3]) ⟨hx, hb, hml, hown, hts⟩ (tX1_drawBelow l dC dI dA ad H.size v11) (ccX1_X1_drawBelow hts ⟨Nat.le_of_ble_eq_true rfl, Nat.le_of_ble_eq_true rfl⟩) (gPreV (ci := 2) (q0 := 0) (psub z12 hP) hK (psubD z12 hD) rfl rfl) rfl rfl hl.1 rfl (lv_room (Nat.le_of_ble_eq_true rfl)) dX1_drawRow_26 ⟨Nat.le_of_ble_eq_true rfl, Nat.le_of_ble_eq_true rfl⟩) hP hD hS hA z12 (sg1 (s0 := (((wX1 dA ad c_x) ++ (wX7 dA ad2 d2_parts))).take 0) (s1 := (((wX1 dA ad c_x) ++ (wX7 dA ad2 d2_parts))).drop 1) (x1 := (wX1 dA ad c_x_10)) rfl) (fun H locs hP hD hS => ?_)
          refine lv_aload_n hx hb dX1_drawRow_29 rfl (lv_at hl 2 rfl) ?_
          refine lv_bipush (v := 6) hx hb dX1_drawRow_30 (by decide) ?_
          obtain ⟨r13, v14, hf⟩ := bd1_some hf
          have z15 := sg1 (ws := ((wX1 dA ad c_x_10) ++ (wX7 dA ad2 d2_parts))) (s0 := (((wX1 dA ad c_x_10) ++ (wX7 dA ad2 d2_parts))).take 1) (s1 := (((wX1 dA ad c_x_10) ++ (wX7 dA ad2 d2_parts))).drop 3) (x1 := (wX7 dA ad2 d2_parts)) rfl
          refine gpi (wf := ((wX1 dA ad c_x_10) ++ (wX7 dA ad2 d2_parts))) (va_runV (As := [.int 6]) (rest := [.int r9, .int x3]) ⟨hx, hb, hml, hown, hts⟩ (tX7_get l dC dI dA ad2 H.size v14) (ccX1_X7_get hts ⟨Nat.le_of_ble_eq_true rfl, Nat.le_of_ble_eq_true rfl⟩) (gPreV (ci := 7) (q0 := 0) (psub z15 hP) hK (psubD z15 hD) rfl rfl) rfl rfl hl.1 rfl (lv_room (Nat.le_of_ble_eq_true rfl)) dX1_drawRow_32 ⟨Nat.le_of_ble_eq_true rfl, Nat.le_of_ble_eq_true rfl⟩) hP hD hS hA z15 (sg1 (s0 := (((wX1 dA ad c_x_10) ++ (wX7 dA ad2 d2_parts))).take 1) (s1 := (((wX1 dA ad c_x_10) ++ (wX7 dA ad2 d2_parts))).drop 3) (x1 := (wX7 dA ad2 d2_parts)) rfl) (fun H locs hP hD hS => ?_)
          obtain ⟨j17, v19, hf⟩ := bd1_some hf
          have J18 : ∀ (H : Heap) (locs : List Loc) (ls : Array Slot), va_P (dC, dI) vwCl ((wX1 dA ad c_x_10) ++ (wX7 dA ad2 d2_parts)) H → va_D A ((wX1 dA ad c_x_10) ++ (wX7 dA ad2 d2_parts)) → va_S A s.heap H locs → lv_has ls 5 [(0, .ref (ad 0)), (1, .int x1), (2, .ref (ad2 0)), (4, .int x4)] → W p l e rmX1_drawRow s m ([.ref (ad 0), .int p1, .ref (ad2 0)] : List Value).toArray below meth c H locs 0 0 Q (F0 m 43 ls [.int j17, .int x3]) := by
            intro H locs ls hP hD hS hl
            obtain ⟨r20, v21, hf⟩ := bd1_some hf
            refine gci0 (va_runSN (As := [.int x3, .int j17]) (rest := []) ⟨hx, hb, hml, hown, hts⟩ (tX8_longer l dC dI dA H.size v21) (ccX1_X8_longer hK.2 hts ⟨Nat.le_of_ble_eq_true rfl, Nat.le_of_ble_eq_true rfl⟩) (gPreS0 hK) rfl rfl hl.1 rfl (lv_room (Nat.le_of_ble_eq_true rfl)) dX1_drawRow_43 ⟨Nat.le_of_ble_eq_true rfl, Nat.le_of_ble_eq_true rfl⟩) hP hS hA (fun H locs hP hS => ?_)
            refine lv_istore_n (lv' := [(3, .int r20), (0, .ref (ad 0)), (1, .int x1), (2, .ref (ad2 0)), (4, .int x4)]) hx hb dX1_drawRow_46 rfl hl (by decide) rfl (fun ls hl => ?_)
            obtain ⟨w22, ew22⟩ : ∃ y : Int32, y = x4 + 1 := ⟨_, rfl⟩
            replace hf := nm_at hf ew22
            refine lv_iinc (v := w22) (lv' := [(4, .int w22), (3, .int r20), (0, .ref (ad 0)), (1, .int x1), (2, .ref (ad2 0))]) hx hb dX1_drawRow_47 hl (k := 4) rfl (by rw [ew22]; rfl) (by decide) rfl (fun ls hl => ?_)
            refine lv_goto (tgt := 5) hx hb dX1_drawRow_50 (by decide) ?_
            exact ih5 _ _ _ _ _ _ _ _ _ _ hP hD hS hf (lv_sub hl [2, 3, 4, 1, 0] rfl) hk
          replace hf := v19
          clear v19
          refine lv_icmp_ge (tgt := 42) hx hb dX1_drawRow_35 (by decide) (fun k16 => ?_) (fun k16 => ?_)
          · replace hf := ifp k16 hf
            refine lv_iconst (v := 0) hx hb dX1_drawRow_42 (by decide) ?_
            cases hf
            exact J18 _ _ _ hP hD hS (lv_sub hl [0, 1, 2, 4] rfl)
          · replace hf := ifn k16 hf
            refine lv_iconst (v := 1) hx hb dX1_drawRow_38 (by decide) ?_
            refine lv_goto (tgt := 43) hx hb dX1_drawRow_39 (by decide) ?_
            cases hf
            exact J18 _ _ _ hP hD hS (lv_sub hl [0, 1, 2, 4] rfl)
  subst hQ
  unfold fX1_drawRow at hf
  refine lv_iconst (v := 1) hx hb dX1_drawRow_0 (by decide) ?_
  refine lv_istore_n (lv' := [(3, .int 1), (0, .ref (ad 0)), (1, .int p1), (2, .ref (ad2 0))]) hx hb dX1_drawRow_1 rfl hl (by decide) rfl (fun ls hl => ?_)
  refine lv_iconst (v := 0) hx hb dX1_drawRow_2 (by decide) ?_
  refine lv_istore (lv' := [(4, .int 0), (3, .int 1), (0, .ref (ad 0)), (1, .int p1), (2, .ref (ad2 0))]) hx hb dX1_drawRow_3 hl (by decide) rfl (fun ls hl => ?_)
  obtain ⟨x1, c_x_2, v3, hf⟩ := bd2_some hf
  refine LP5 FU _ _ _ _ _ _ _ _ _ _ hP hD hS v3 (lv_sub hl [2, 3, 4, 1, 0] rfl) (fun H locs ls hP hD hS hl => ?_)
  refine lv_iload_n hx hb dX1_drawRow_53 rfl (lv_at hl 0 rfl) ?_
  cases hf
  exact W.iret hx hb hr (fun t ht _ => gqi hP hD hS ht) hS.2.2 dX1_drawRow_54
theorem ccX3_X7_takeFrom {R : Room} {s : State} {args : Array Value} {c0 : Cond} (ht : ∀ w ∈ wq c0, w.before args s = true) (hR : rmX7_takeFrom.frames + 1 ≤ R.frames ∧ 8 + (2 + 11) + rmX7_takeFrom.locals ≤ R.locals) : CallW R s args RX3 RX7 43 yX7_takeFrom cX7_takeFrom 2 none (wq (.code yX7_takeFrom cX7_takeFrom 2 none)) rmX7_takeFrom 0 0 1 := gCW 1 ht wcX7_takeFrom wmX3_43 wiX7_takeFrom weX7_takeFrom wnX7 (by decide +kernel) rfl rfl hR
theorem ccX3_X0_takeFrom {R : Room} {s : State} {args : Array Value} {c0 : Cond} (ht : ∀ w ∈ wq c0, w.before args s = true) (hR : rmX0_takeFrom.frames + 1 ≤ R.frames ∧ 8 + (2 + 11) + rmX0_takeFrom.locals ≤ R.locals) : CallW R s args RX3 RX0 47 yX0_takeFrom cX0_takeFrom 2 none (wq (.code yX0_takeFrom cX0_takeFrom 2 none)) rmX0_takeFrom 0 0 1 := gCW 1 ht wcX0_takeFrom wmX3_47 wiX0_takeFrom weX0_takeFrom wnX0 (by decide +kernel) rfl rfl hR
abbrev rmX3_begin : Room := { frames := 2, cells := 0, slots := 0, locals := 81 }
set_option maxHeartbeats 4000000 in
set_option maxRecDepth 100000 in
theorem tX3_begin (l : Launch) (dC : Nat → ClassId) (dI : Nat → Nat → Nat) (dA : Nat → ClassId) (ad : Nat → Nat) (ad1 : Nat → Nat) (ad2 : Nat → Nat) (sz : Nat) {c_opened : Int32} {c_over : Int32} {c_row : Int32} {c_paid : Int64} {c_regret : Int64} {c_tree_parts : Nat → Int32} {c_bond_terms : Nat → Int32} {d1_parts : Nat → Int32} {d2_terms : Nat → Int32} {o_c_opened : Int32} {o_c_over : Int32} {o_c_row : Int32} {o_c_paid : Int64} {o_c_regret : Int64} {o_c_tree_parts : Nat → Int32} {o_c_bond_terms : Nat → Int32} (hf : fX3_begin c_opened c_over c_row c_paid c_regret c_tree_parts c_bond_terms d1_parts d2_terms = some (o_c_opened, o_c_over, o_c_row, o_c_paid, o_c_regret, o_c_tree_parts, o_c_bond_terms)) : Met l yX3_begin (wq (Cond.code yX3_begin cX3_begin 3 none)) rmX3_begin (gP [.ref (ad 0), .ref (ad1 0), .ref (ad2 0)] (dC, dI) dA ((wX3 dA ad c_opened c_over c_row c_paid c_regret c_tree_parts c_bond_terms) ++ ((wX7 dA ad1 d1_parts) ++ (wX0 dA ad2 d2_terms))) sz) (gQv (dC, dI) ((wX3 dA ad o_c_opened o_c_over o_c_row o_c_paid o_c_regret o_c_tree_parts o_c_bond_terms) ++ ((wX7 dA ad1 d1_parts) ++ (wX0 dA ad2 d2_terms))) (va_A ((wX3 dA ad c_opened c_over c_row c_paid c_regret c_tree_parts c_bond_terms) ++ ((wX7 dA ad1 d1_parts) ++ (wX0 dA ad2 d2_terms))) sz)) 0 0 (va_A ((wX3 dA ad c_opened c_over c_row c_paid c_regret c_tree_parts c_bond_terms) ++ ((wX7 dA ad1 d1_parts) ++ (wX0 dA ad2 d2_terms))) sz) := by
  refine Met.ofW (cc := cX3_begin) (maxL := 3) (ret := none) (by decide) rfl ?_
  intro p e s m args below meth c s₁ B hml hv
  obtain ⟨rfl, hsz, hP, hK, hD0⟩ := hv
  have hx := B.exec
  have hb := B.bytes
  have hr := B.returns
  have hts := atoms_spec (ws := wq (Cond.code yX3_begin cX3_begin 3 none)) B.pre
  have hown : s.vm.findClass RX3 = some m.cls := findClass_of_methodNamed B.named
  have hlocks := B.notSynchronized
  clear B
  subst hsz
  have hD := hD0.self (sz := s.heap.size)
  generalize hAe : va_A ((wX3 dA ad c_opened c_over c_row c_paid c_regret c_tree_parts c_bond_terms) ++ ((wX7 dA ad1 d1_parts) ++ (wX0 dA ad2 d2_terms))) s.heap.size = A at hD ⊢
  have hA : ∀ q : Nat, s.heap.size ≤ q → A q := fun q h => by rw [← hAe]; exact Or.inr h
  clear hAe hD0
  have hS : va_S A s.heap s.heap [] := va_S.rf
  have hl := lv_entry ([.ref (ad 0), .ref (ad1 0), .ref (ad2 0)]) (n := 3) (Nat.le_of_ble_eq_true rfl)
  rw [lg_entry_eq]
  generalize (lg_sl ([.ref (ad 0), .ref (ad1 0), .ref (ad2 0)]) ++ List.replicate (3 - (lg_sl ([.ref (ad 0), .ref (ad1 0), .ref (ad2 0)])).length) Slot.unset).toArray = ls at hl ⊢
  have hl : lv_has ls 3 [(0, .ref (ad 0)), (1, .ref (ad1 0)), (2, .ref (ad2 0))] := hl
  change W p l e rmX3_begin s m ([.ref (ad 0), .ref (ad1 0), .ref (ad2 0)] : List Value).toArray below meth c s.heap [] 0 0 _ _
  unfold fX3_begin at hf
  refine lv_aload_n hx hb dX3_begin_0 rfl (lv_at hl 0 rfl) ?_
  refine va_get (D := (dC, dI)) (ci := 3) (v := .ref (ad 1)) (C := RX3) (T := TX3) (N := 7) hx hb hts (fun w h => gw_mem (inX3 w h)) hown hK.1 hP 0 rfl rfl 0 (by decide) (hts _ (gw_mem wfX3_12)) (fun _ h9 => h9) rfl dX3_begin_1 ?_
  refine lv_aload_n hx hb dX3_begin_4 rfl (lv_at hl 1 rfl) ?_
  obtain ⟨c_tree_parts_1, v2, hf⟩ := bd1_some hf
  have z3 := sg2 (ws := ((wX3 dA ad c_opened c_over c_row c_paid c_regret c_tree_parts c_bond_terms) ++ ((wX7 dA ad1 d1_parts) ++ (wX0 dA ad2 d2_terms)))) (s0 := (((wX3 dA ad c_opened c_over c_row c_paid c_regret c_tree_parts c_bond_terms) ++ ((wX7 dA ad1 d1_parts) ++ (wX0 dA ad2 d2_terms)))).take 1) (s1 := ((((wX3 dA ad c_opened c_over c_row c_paid c_regret c_tree_parts c_bond_terms) ++ ((wX7 dA ad1 d1_parts) ++ (wX0 dA ad2 d2_terms)))).drop 3).take 2) (s2 := (((wX3 dA ad c_opened c_over c_row c_paid c_regret c_tree_parts c_bond_terms) ++ ((wX7 dA ad1 d1_parts) ++ (wX0 dA ad2 d2_terms)))).drop 7) (x1 := (wX7 dA (fun i => ad (i + 1)) c_tree_parts)) (x2 := (wX7 dA ad1 d1_parts)) rfl
  refine gpv (wf := ((wX3 dA ad c_opened c_over c_row c_paid c_regret c_tree_parts_1 c_bond_terms) ++ ((wX7 dA ad1 d1_parts) ++ (wX0 dA ad2 d2_terms)))) (va_runV (As := [.ref (ad1 0)]) (rest := []) ⟨hx, hb, hml, hown, hts⟩ (tX7_takeFrom l dC dI dA (fun i => ad (i + 1)) ad1 s.heap.size v2) (ccX3_X7_takeFrom hts ⟨Nat.le_of_ble_eq_true rfl, Nat.le_of_ble_eq_true rfl⟩) (gPreV (ci := 7) (q0 := 0) (psub z3 hP) hK (psubD z3 hD) rfl rfl) rfl rfl hl.1 rfl (lv_room (Nat.le_of_ble_eq_true rfl)) dX3_begin_5 ⟨Nat.le_of_ble_eq_true rfl, Nat.le_of_ble_eq_true rfl⟩) hP hD hS hA z3 (sg2 (s0 := (((wX3 dA ad c_opened c_over c_row c_paid c_regret c_tree_parts c_bond_terms) ++ ((wX7 dA ad1 d1_parts) ++ (wX0 dA ad2 d2_terms)))).take 1) (s1 := ((((wX3 dA ad c_opened c_over c_row c_paid c_regret c_tree_parts c_bond_terms) ++ ((wX7 dA ad1 d1_parts) ++ (wX0 dA ad2 d2_terms)))).drop 3).take 2) (s2 := (((wX3 dA ad c_opened c_over c_row c_paid c_regret c_tree_parts c_bond_terms) ++ ((wX7 dA ad1 d1_parts) ++ (wX0 dA ad2 d2_terms)))).drop 7) (x1 := (wX7 dA (fun i => ad (i + 1)) c_tree_parts_1)) (x2 := (wX7 dA ad1 d1_parts)) rfl) (fun H locs hP hD hS => ?_)
  refine lv_aload_n hx hb dX3_begin_8 rfl (lv_at hl 0 rfl) ?_
  refine va_get (D := (dC, dI)) (ci := 3) (v := .ref (ad 3)) (C := RX3) (T := TX3) (N := 7) hx hb hts (fun w h => gw_mem (inX3 w h)) hown hK.1 hP 0 rfl rfl 1 (by decide) (hts _ (gw_mem wfX3_21)) (fun _ h9 => h9) rfl dX3_begin_9 ?_
  refine lv_aload_n hx hb dX3_begin_12 rfl (lv_at hl 2 rfl) ?_
  obtain ⟨c_bond_terms_4, v5, hf⟩ := bd1_some hf
  have z6 := sg2 (ws := ((wX3 dA ad c_opened c_over c_row c_paid c_regret c_tree_parts_1 c_bond_terms) ++ ((wX7 dA ad1 d1_parts) ++ (wX0 dA ad2 d2_terms)))) (s0 := (((wX3 dA ad c_opened c_over c_row c_paid c_regret c_tree_parts_1 c_bond_terms) ++ ((wX7 dA ad1 d1_parts) ++ (wX0 dA ad2 d2_terms)))).take 3) (s1 := ((((wX3 dA ad c_opened c_over c_row c_paid c_regret c_tree_parts_1 c_bond_terms) ++ ((wX7 dA ad1 d1_parts) ++ (wX0 dA ad2 d2_terms)))).drop 5).take 2) (s2 := (((wX3 dA ad c_opened c_over c_row c_paid c_regret c_tree_parts_1 c_bond_terms) ++ ((wX7 dA ad1 d1_parts) ++ (wX0 dA ad2 d2_terms)))).drop 9) (x1 := (wX0 dA (fun i => ad (i + 3)) c_bond_terms)) (x2 := (wX0 dA ad2 d2_terms)) rfl
  refine gpv (wf := ((wX3 dA ad c_opened c_over c_row c_paid c_regret c_tree_parts_1 c_bond_terms_4) ++ ((wX7 dA ad1 d1_parts) ++ (wX0 dA ad2 d2_terms)))) (va_runV (As := [.ref (ad2 0)]) (rest := []) ⟨hx, hb, hml, hown, hts⟩ (tX0_takeFrom l dC dI dA (fun i => ad (i + 3)) ad2 H.size v5) (ccX3_X0_takeFrom hts ⟨Nat.le_of_ble_eq_true rfl, Nat.le_of_ble_eq_true rfl⟩) (gPreV (ci := 1) (q0 := 0) (psub z6 hP) hK (psubD z6 hD) rfl rfl) rfl rfl hl.1 rfl (lv_room (Nat.le_of_ble_eq_true rfl)) dX3_begin_13 ⟨Nat.le_of_ble_eq_true rfl, Nat.le_of_ble_eq_true rfl⟩) hP hD hS hA z6 (sg2 (s0 := (((wX3 dA ad c_opened c_over c_row c_paid c_regret c_tree_parts_1 c_bond_terms) ++ ((wX7 dA ad1 d1_parts) ++ (wX0 dA ad2 d2_terms)))).take 3) (s1 := ((((wX3 dA ad c_opened c_over c_row c_paid c_regret c_tree_parts_1 c_bond_terms) ++ ((wX7 dA ad1 d1_parts) ++ (wX0 dA ad2 d2_terms)))).drop 5).take 2) (s2 := (((wX3 dA ad c_opened c_over c_row c_paid c_regret c_tree_parts_1 c_bond_terms) ++ ((wX7 dA ad1 d1_parts) ++ (wX0 dA ad2 d2_terms)))).drop 9) (x1 := (wX0 dA (fun i => ad (i + 3)) c_bond_terms_4)) (x2 := (wX0 dA ad2 d2_terms)) rfl) (fun H locs hP hD hS => ?_)
  refine lv_aload_n hx hb dX3_begin_16 rfl (lv_at hl 0 rfl) ?_
  refine lv_iconst (v := 1) hx hb dX3_begin_17 (by decide) ?_
  refine va_put (D := (dC, dI)) (ci := 3) (v := .int 1) (ty := .boolean) (C := RX3) (T := TX3) (N := 7) hx hb hts (fun w h => gw_mem (inX3 w h)) tyX3 tyX3_ok nmX3 hown hK.1 hP hD hS 0 rfl rfl 2 (by decide) (hts _ (gw_mem wfX3_25)) (fun _ h9 => h9) rfl (by decide +kernel) rfl rfl (Nat.le_of_ble_eq_true rfl) dX3_begin_18 (fun H locs hP hD hS => ?_)
  have hP : va_P (dC, dI) vwCl ((wX3 dA ad 1 c_over c_row c_paid c_regret c_tree_parts_1 c_bond_terms_4) ++ ((wX7 dA ad1 d1_parts) ++ (wX0 dA ad2 d2_terms))) H := hP
  have hD : va_D A ((wX3 dA ad 1 c_over c_row c_paid c_regret c_tree_parts_1 c_bond_terms_4) ++ ((wX7 dA ad1 d1_parts) ++ (wX0 dA ad2 d2_terms))) := hD
  refine lv_aload_n hx hb dX3_begin_21 rfl (lv_at hl 0 rfl) ?_
  refine lv_iconst (v := 0) hx hb dX3_begin_22 (by decide) ?_
  refine va_put (D := (dC, dI)) (ci := 3) (v := .int 0) (ty := .boolean) (C := RX3) (T := TX3) (N := 7) hx hb hts (fun w h => gw_mem (inX3 w h)) tyX3 tyX3_ok nmX3 hown hK.1 hP hD hS 0 rfl rfl 3 (by decide) (hts _ (gw_mem wfX3_29)) (fun _ h9 => h9) rfl (by decide +kernel) rfl rfl (Nat.le_of_ble_eq_true rfl) dX3_begin_23 (fun H locs hP hD hS => ?_)
  have hP : va_P (dC, dI) vwCl ((wX3 dA ad 1 0 c_row c_paid c_regret c_tree_parts_1 c_bond_terms_4) ++ ((wX7 dA ad1 d1_parts) ++ (wX0 dA ad2 d2_terms))) H := hP
  have hD : va_D A ((wX3 dA ad 1 0 c_row c_paid c_regret c_tree_parts_1 c_bond_terms_4) ++ ((wX7 dA ad1 d1_parts) ++ (wX0 dA ad2 d2_terms))) := hD
  refine lv_aload_n hx hb dX3_begin_26 rfl (lv_at hl 0 rfl) ?_
  refine lv_iconst (v := 1) hx hb dX3_begin_27 (by decide) ?_
  refine va_put (D := (dC, dI)) (ci := 3) (v := .int 1) (ty := .int) (C := RX3) (T := TX3) (N := 7) hx hb hts (fun w h => gw_mem (inX3 w h)) tyX3 tyX3_ok nmX3 hown hK.1 hP hD hS 0 rfl rfl 4 (by decide) (hts _ (gw_mem wfX3_32)) (fun _ h9 => h9) rfl (by decide +kernel) rfl rfl (Nat.le_of_ble_eq_true rfl) dX3_begin_28 (fun H locs hP hD hS => ?_)
  have hP : va_P (dC, dI) vwCl ((wX3 dA ad 1 0 1 c_paid c_regret c_tree_parts_1 c_bond_terms_4) ++ ((wX7 dA ad1 d1_parts) ++ (wX0 dA ad2 d2_terms))) H := hP
  have hD : va_D A ((wX3 dA ad 1 0 1 c_paid c_regret c_tree_parts_1 c_bond_terms_4) ++ ((wX7 dA ad1 d1_parts) ++ (wX0 dA ad2 d2_terms))) := hD
  refine lv_aload_n hx hb dX3_begin_31 rfl (lv_at hl 0 rfl) ?_
  refine lv_lconst (v := 0) hx hb dX3_begin_32 rfl ?_
  refine va_put (D := (dC, dI)) (ci := 3) (v := .long 0) (ty := .long) (C := RX3) (T := TX3) (N := 7) hx hb hts (fun w h => gw_mem (inX3 w h)) tyX3 tyX3_ok nmX3 hown hK.1 hP hD hS 0 rfl rfl 5 (by decide) (hts _ (gw_mem wfX3_36)) (fun _ h9 => h9) rfl (by decide +kernel) rfl rfl (Nat.le_of_ble_eq_true rfl) dX3_begin_33 (fun H locs hP hD hS => ?_)
  have hP : va_P (dC, dI) vwCl ((wX3 dA ad 1 0 1 0 c_regret c_tree_parts_1 c_bond_terms_4) ++ ((wX7 dA ad1 d1_parts) ++ (wX0 dA ad2 d2_terms))) H := hP
  have hD : va_D A ((wX3 dA ad 1 0 1 0 c_regret c_tree_parts_1 c_bond_terms_4) ++ ((wX7 dA ad1 d1_parts) ++ (wX0 dA ad2 d2_terms))) := hD
  refine lv_aload_n hx hb dX3_begin_36 rfl (lv_at hl 0 rfl) ?_
  refine lv_lconst (v := 0) hx hb dX3_begin_37 rfl ?_
  refine va_put (D := (dC, dI)) (ci := 3) (v := .long 0) (ty := .long) (C := RX3) (T := TX3) (N := 7) hx hb hts (fun w h => gw_mem (inX3 w h)) tyX3 tyX3_ok nmX3 hown hK.1 hP hD hS 0 rfl rfl 6 (by decide) (hts _ (gw_mem wfX3_40)) (fun _ h9 => h9) rfl (by decide +kernel) rfl rfl (Nat.le_of_ble_eq_true rfl) dX3_begin_38 (fun H locs hP hD hS => ?_)
  have hP : va_P (dC, dI) vwCl ((wX3 dA ad 1 0 1 0 0 c_tree_parts_1 c_bond_terms_4) ++ ((wX7 dA ad1 d1_parts) ++ (wX0 dA ad2 d2_terms))) H := hP
  have hD : va_D A ((wX3 dA ad 1 0 1 0 0 c_tree_parts_1 c_bond_terms_4) ++ ((wX7 dA ad1 d1_parts) ++ (wX0 dA ad2 d2_terms))) := hD
  cases hf
  exact W.vret hx hb hr (fun t ht _ => gqv hP hD hS ht) hS.2.2 dX3_begin_41
abbrev rmX8_dayOf : Room := { frames := 0, cells := 0, slots := 0, locals := 0 }
set_option maxHeartbeats 4000000 in
set_option maxRecDepth 100000 in
theorem tX8_dayOf (l : Launch) (dC : Nat → ClassId) (dI : Nat → Nat → Nat) (dA : Nat → ClassId) (sz : Nat) {p0 : Int32} {r : Int32} (hf : fX8_dayOf p0 = some (r)) : Met l yX8_dayOf (wq (Cond.code yX8_dayOf cX8_dayOf 2 (some .int))) rmX8_dayOf (gP [.int p0] (dC, dI) dA [] sz) (gQi (dC, dI) r [] (va_A [] sz)) 0 0 (va_A [] sz) := by
  refine Met.ofW (cc := cX8_dayOf) (maxL := 2) (ret := (some .int)) (by decide) rfl ?_
  intro p e s m args below meth c s₁ B hml hv
  obtain ⟨rfl, hsz, hP, hK, hD0⟩ := hv
  have hx := B.exec
  have hb := B.bytes
  have hr := B.returns
  have hts := atoms_spec (ws := wq (Cond.code yX8_dayOf cX8_dayOf 2 (some .int))) B.pre
  have hown : s.vm.findClass RX8 = some m.cls := findClass_of_methodNamed B.named
  have hlocks := B.notSynchronized
  clear B
  subst hsz
  have hD := hD0.self (sz := s.heap.size)
  generalize hAe : va_A [] s.heap.size = A at hD ⊢
  have hA : ∀ q : Nat, s.heap.size ≤ q → A q := fun q h => by rw [← hAe]; exact Or.inr h
  clear hAe hD0
  have hS : va_S A s.heap s.heap [] := va_S.rf
  have hl := lv_entry ([.int p0]) (n := 2) (Nat.le_of_ble_eq_true rfl)
  rw [lg_entry_eq]
  generalize (lg_sl ([.int p0]) ++ List.replicate (2 - (lg_sl ([.int p0])).length) Slot.unset).toArray = ls at hl ⊢
  have hl : lv_has ls 2 [(0, .int p0)] := hl
  change W p l e rmX8_dayOf s m ([.int p0] : List Value).toArray below meth c s.heap [] 0 0 _ _
  generalize hQ : MQ below (gQi (dC, dI) r [] A) ([.int p0] : List Value).toArray s 0 0 A = Q
  have LP3 : ∀ (n : Nat) (x0 : Int32) (x1 : Int32) (tgo : Nat) (o1 : Int32) (H : Heap) (locs : List Loc) (ls : Array Slot), va_P (dC, dI) vwCl [] H → va_D A [] → va_S A s.heap H locs → lpX8_dayOf_3 x0 n x1 = some (tgo, o1) → lv_has ls 2 [(0, .int x0), (1, .int x1)] → (tgo = 0 → ∀ (H : Heap) (locs : List Loc) (ls : Array Slot), va_P (dC, dI) vwCl [] H → va_D A [] → va_S A s.heap H locs → lv_has ls 2 [(1, .int o1)] → W p l e rmX8_dayOf s m ([.int p0] : List Value).toArray below meth c H locs 0 0 Q (F0 m 13 ls [])) → (tgo = 1 → ∀ (H : Heap) (locs : List Loc) (ls : Array Slot), va_P (dC, dI) vwCl [] H → va_D A [] → va_S A s.heap H locs → lv_has ls 2 [] → W p l e rmX8_dayOf s m ([.int p0] : List Value).toArray below meth c H locs 0 0 Q (F0 m 21 ls [])) → W p l e rmX8_dayOf s m ([.int p0] : List Value).toArray below meth c H locs 0 0 Q (F0 m 3 ls []) := by
    intro n
    induction n with
    | zero =>
      intro x0 x1 tgo o1 H locs ls hP hD hS hf hl hk0 hk1
      cases hf
    | succ n ih3 =>
      intro x0 x1 tgo o1 H locs ls hP hD hS hf hl hk0 hk1
      rw [lpX8_dayOf_3.eq_2] at hf
      refine lv_iload_n hx hb dX8_dayOf_3 rfl (lv_at hl 1 rfl) ?_
      refine lv_if_le (tgt := 21) hx hb dX8_dayOf_4 (by decide) (fun k4 => ?_) (fun k4 => ?_)
      · replace hf := ifp k4 hf
        cases hf
        exact hk1 rfl _ _ _ hP hD hS (lv_sub hl [] rfl)
      · replace hf := ifn k4 hf
        refine lv_iload_n hx hb dX8_dayOf_7 rfl (lv_at hl 0 rfl) ?_
        refine lv_iload_n hx hb dX8_dayOf_8 rfl (lv_at hl 1 rfl) ?_
        refine lv_ishr hx hb dX8_dayOf_9 ?_
        refine lv_if_le (tgt := 15) hx hb dX8_dayOf_10 (by decide) (fun k5 => ?_) (fun k5 => ?_)
        · replace hf := ifp k5 hf
          obtain ⟨w6, ew6⟩ : ∃ y : Int32, y = x1 + (-1) := ⟨_, rfl⟩
          replace hf := nm_at hf ew6
          refine lv_iinc (v := w6) (lv' := [(1, .int w6), (0, .int x0)]) hx hb dX8_dayOf_15 hl (k := 1) rfl (by rw [ew6]; rfl) (by decide) rfl (fun ls hl => ?_)
          refine lv_goto (tgt := 3) hx hb dX8_dayOf_18 (by decide) ?_
          exact ih3 _ _ _ _ _ _ _ hP hD hS hf (lv_sub hl [1, 0] rfl) hk0 hk1
        · replace hf := ifn k5 hf
          cases hf
          exact hk0 rfl _ _ _ hP hD hS (lv_sub hl [1] rfl)
  subst hQ
  unfold fX8_dayOf at hf
  refine lv_bipush (v := 6) hx hb dX8_dayOf_0 (by decide) ?_
  refine lv_istore_n (lv' := [(1, .int 6), (0, .int p0)]) hx hb dX8_dayOf_2 rfl hl (by decide) rfl (fun ls hl => ?_)
  obtain ⟨tg1, x2, v3, hf⟩ := bd2_some hf
  refine LP3 FU _ _ _ _ _ _ _ hP hD hS v3 (lv_sub hl [1, 0] rfl) (fun etg1 H locs ls hP hD hS hl => ?_) (fun etg1 H locs ls hP hD hS hl => ?_)
  · replace hf := ifp etg1 hf
    refine lv_iload_n hx hb dX8_dayOf_13 rfl (lv_at hl 0 rfl) ?_
    cases hf
    exact W.iret hx hb hr (fun t ht _ => gqi hP hD hS ht) hS.2.2 dX8_dayOf_14
  · replace hf := ifn (c := tg1 = 0) (by rw [etg1]; decide) hf
    refine lv_iconst (v := 0) hx hb dX8_dayOf_21 (by decide) ?_
    cases hf
    exact W.iret hx hb hr (fun t ht _ => gqi hP hD hS ht) hS.2.2 dX8_dayOf_22
theorem ccX3_X8_dayOf {R : Room} {s : State} {args : Array Value} {c0 : Cond} (hN : gN s) (ht : ∀ w ∈ wq c0, w.before args s = true) (hR : rmX8_dayOf.frames + 1 ≤ R.frames ∧ 8 + (2 + 11) + rmX8_dayOf.locals ≤ R.locals) : va_CN R s args RX3 50 yX8_dayOf RX8 cX8_dayOf 2 (some .int) (wq (.code yX8_dayOf cX8_dayOf 2 (some .int))) rmX8_dayOf 0 0 1 ∧ (Cond.static yX8_dayOf).before args s = true ∧ True := gCSN 1 hN ht wcX8_dayOf wmX3_50 wtX8_dayOf wnX8 (by decide +kernel) rfl rfl hR
theorem ccX3_X7_lastDay {R : Room} {s : State} {args : Array Value} {c0 : Cond} (ht : ∀ w ∈ wq c0, w.before args s = true) (hR : rmX7_lastDay.frames + 1 ≤ R.frames ∧ 8 + (1 + 11) + rmX7_lastDay.locals ≤ R.locals) : CallW R s args RX3 RX7 54 yX7_lastDay cX7_lastDay 1 (some .int) (wq (.code yX7_lastDay cX7_lastDay 1 (some .int))) rmX7_lastDay 0 0 0 := gCW 0 ht wcX7_lastDay wmX3_54 wiX7_lastDay weX7_lastDay wnX7 (by decide +kernel) rfl rfl hR
abbrev rmX3_isOnLastDay : Room := { frames := 2, cells := 0, slots := 0, locals := 43 }
set_option maxHeartbeats 4000000 in
set_option maxRecDepth 100000 in
theorem tX3_isOnLastDay (l : Launch) (dC : Nat → ClassId) (dI : Nat → Nat → Nat) (dA : Nat → ClassId) (ad : Nat → Nat) (sz : Nat) {c_opened : Int32} {c_over : Int32} {c_row : Int32} {c_paid : Int64} {c_regret : Int64} {c_tree_parts : Nat → Int32} {c_bond_terms : Nat → Int32} {r : Int32} (hf : fX3_isOnLastDay c_row c_tree_parts = some (r)) : Met l yX3_isOnLastDay (wq (Cond.code yX3_isOnLastDay cX3_isOnLastDay 1 (some .boolean))) rmX3_isOnLastDay (gP [.ref (ad 0)] (dC, dI) dA (wX3 dA ad c_opened c_over c_row c_paid c_regret c_tree_parts c_bond_terms) sz) (gQi (dC, dI) r (wX3 dA ad c_opened c_over c_row c_paid c_regret c_tree_parts c_bond_terms) (va_A (wX3 dA ad c_opened c_over c_row c_paid c_regret c_tree_parts c_bond_terms) sz)) 0 0 (va_A (wX3 dA ad c_opened c_over c_row c_paid c_regret c_tree_parts c_bond_terms) sz) := by
  refine Met.ofW (cc := cX3_isOnLastDay) (maxL := 1) (ret := (some .boolean)) (by decide) rfl ?_
  intro p e s m args below meth c s₁ B hml hv
  obtain ⟨rfl, hsz, hP, hK, hD0⟩ := hv
  have hx := B.exec
  have hb := B.bytes
  have hr := B.returns
  have hts := atoms_spec (ws := wq (Cond.code yX3_isOnLastDay cX3_isOnLastDay 1 (some .boolean))) B.pre
  have hown : s.vm.findClass RX3 = some m.cls := findClass_of_methodNamed B.named
  have hlocks := B.notSynchronized
  clear B
  subst hsz
  have hD := hD0.self (sz := s.heap.size)
  generalize hAe : va_A (wX3 dA ad c_opened c_over c_row c_paid c_regret c_tree_parts c_bond_terms) s.heap.size = A at hD ⊢
  have hA : ∀ q : Nat, s.heap.size ≤ q → A q := fun q h => by rw [← hAe]; exact Or.inr h
  clear hAe hD0
  have hS : va_S A s.heap s.heap [] := va_S.rf
  have hl := lv_entry ([.ref (ad 0)]) (n := 1) (Nat.le_of_ble_eq_true rfl)
  rw [lg_entry_eq]
  generalize (lg_sl ([.ref (ad 0)]) ++ List.replicate (1 - (lg_sl ([.ref (ad 0)])).length) Slot.unset).toArray = ls at hl ⊢
  have hl : lv_has ls 1 [(0, .ref (ad 0))] := hl
  change W p l e rmX3_isOnLastDay s m ([.ref (ad 0)] : List Value).toArray below meth c s.heap [] 0 0 _ _
  unfold fX3_isOnLastDay at hf
  refine lv_aload_n hx hb dX3_isOnLastDay_0 rfl (lv_at hl 0 rfl) ?_
  refine va_get (D := (dC, dI)) (ci := 3) (v := .int c_row) (C := RX3) (T := TX3) (N := 7) hx hb hts (fun w h => gw_mem (inX3 w h)) hown hK.1 hP 0 rfl rfl 4 (by decide) (hts _ (gw_mem wfX3_32)) (fun _ h9 => h9) rfl dX3_isOnLastDay_1 ?_
  obtain ⟨r1, v2, hf⟩ := bd1_some hf
  refine gci0 (va_runSN (As := [.int c_row]) (rest := []) ⟨hx, hb, hml, hown, hts⟩ (tX8_dayOf l dC dI dA s.heap.size v2) (ccX3_X8_dayOf hK.2 hts ⟨Nat.le_of_ble_eq_true rfl, Nat.le_of_ble_eq_true rfl⟩) (gPreS0 hK) rfl rfl hl.1 rfl (lv_room (Nat.le_of_ble_eq_true rfl)) dX3_isOnLastDay_4 ⟨Nat.le_of_ble_eq_true rfl, Nat.le_of_ble_eq_true rfl⟩) hP hS hA (fun H locs hP hS => ?_)
  refine lv_aload_n hx hb dX3_isOnLastDay_7 rfl (lv_at hl 0 rfl) ?_
  refine va_get (D := (dC, dI)) (ci := 3) (v := .ref (ad 1)) (C := RX3) (T := TX3) (N := 7) hx hb hts (fun w h => gw_mem (inX3 w h)) hown hK.1 hP 0 rfl rfl 0 (by decide) (hts _ (gw_mem wfX3_12)) (fun _ h9 => h9) rfl dX3_isOnLastDay_8 ?_
  obtain ⟨r3, v4, hf⟩ := bd1_some hf
  have z5 := sg1 (ws := (wX3 dA ad c_opened c_over c_row c_paid c_regret c_tree_parts c_bond_terms)) (s0 := ((wX3 dA ad c_opened c_over c_row c_paid c_regret c_tree_parts c_bond_terms)).take 1) (s1 := ((wX3 dA ad c_opened c_over c_row c_paid c_regret c_tree_parts c_bond_terms)).drop 3) (x1 := (wX7 dA (fun i => ad (i + 1)) c_tree_parts)) rfl
  refine gpi (wf := (wX3 dA ad c_opened c_over c_row c_paid c_regret c_tree_parts c_bond_terms)) (va_runV (As := []) (rest := [.int r1]) ⟨hx, hb, hml, hown, hts⟩ (tX7_lastDay l dC dI dA (fun i => ad (i + 1)) H.size v4) (ccX3_X7_lastDay hts ⟨Nat.le_of_ble_eq_true rfl, Nat.le_of_ble_eq_true rfl⟩) (gPreV (ci := 7) (q0 := 0) (psub z5 hP) hK (psubD z5 hD) rfl rfl) rfl rfl hl.1 rfl (lv_room (Nat.le_of_ble_eq_true rfl)) dX3_isOnLastDay_11 ⟨Nat.le_of_ble_eq_true rfl, Nat.le_of_ble_eq_true rfl⟩) hP hD hS hA z5 (sg1 (s0 := ((wX3 dA ad c_opened c_over c_row c_paid c_regret c_tree_parts c_bond_terms)).take 1) (s1 := ((wX3 dA ad c_opened c_over c_row c_paid c_regret c_tree_parts c_bond_terms)).drop 3) (x1 := (wX7 dA (fun i => ad (i + 1)) c_tree_parts)) rfl) (fun H locs hP hD hS => ?_)
  obtain ⟨j7, v9, hf⟩ := bd1_some hf
  have J8 : ∀ (H : Heap) (locs : List Loc) (ls : Array Slot), va_P (dC, dI) vwCl (wX3 dA ad c_opened c_over c_row c_paid c_regret c_tree_parts c_bond_terms) H → va_D A (wX3 dA ad c_opened c_over c_row c_paid c_regret c_tree_parts c_bond_terms) → va_S A s.heap H locs → lv_has ls 1 [] → W p l e rmX3_isOnLastDay s m ([.ref (ad 0)] : List Value).toArray below meth c H locs 0 0 (MQ below (gQi (dC, dI) r (wX3 dA ad c_opened c_over c_row c_paid c_regret c_tree_parts c_bond_terms) A) ([.ref (ad 0)] : List Value).toArray s 0 0 A) (F0 m 22 ls [.int j7]) := by
    intro H locs ls hP hD hS hl
    obtain ⟨h10, hf⟩ := og_some hf
    cases hf
    exact W.zret (ty := .boolean) hx hb hr (boB_nar h10) (fun t ht _ => gqi hP hD hS ht) hS.2.2 dX3_isOnLastDay_22
  replace hf := v9
  clear v9
  refine lv_icmp_lt (tgt := 21) hx hb dX3_isOnLastDay_14 (by decide) (fun k6 => ?_) (fun k6 => ?_)
  · replace hf := ifp k6 hf
    refine lv_iconst (v := 0) hx hb dX3_isOnLastDay_21 (by decide) ?_
    cases hf
    exact J8 _ _ _ hP hD hS (lv_sub hl [] rfl)
  · replace hf := ifn k6 hf
    refine lv_iconst (v := 1) hx hb dX3_isOnLastDay_17 (by decide) ?_
    refine lv_goto (tgt := 22) hx hb dX3_isOnLastDay_18 (by decide) ?_
    cases hf
    exact J8 _ _ _ hP hD hS (lv_sub hl [] rfl)
abbrev rmX3_takeFrom : Room := { frames := 2, cells := 0, slots := 0, locals := 81 }
set_option maxHeartbeats 4000000 in
set_option maxRecDepth 100000 in
theorem tX3_takeFrom (l : Launch) (dC : Nat → ClassId) (dI : Nat → Nat → Nat) (dA : Nat → ClassId) (ad : Nat → Nat) (ad1 : Nat → Nat) (sz : Nat) {c_opened : Int32} {c_over : Int32} {c_row : Int32} {c_paid : Int64} {c_regret : Int64} {c_tree_parts : Nat → Int32} {c_bond_terms : Nat → Int32} {d1_opened : Int32} {d1_over : Int32} {d1_row : Int32} {d1_paid : Int64} {d1_regret : Int64} {d1_tree_parts : Nat → Int32} {d1_bond_terms : Nat → Int32} {o_c_opened : Int32} {o_c_over : Int32} {o_c_row : Int32} {o_c_paid : Int64} {o_c_regret : Int64} {o_c_tree_parts : Nat → Int32} {o_c_bond_terms : Nat → Int32} (hf : fX3_takeFrom c_opened c_over c_row c_paid c_regret c_tree_parts c_bond_terms d1_opened d1_over d1_row d1_paid d1_regret d1_tree_parts d1_bond_terms = some (o_c_opened, o_c_over, o_c_row, o_c_paid, o_c_regret, o_c_tree_parts, o_c_bond_terms)) : Met l yX3_takeFrom (wq (Cond.code yX3_takeFrom cX3_takeFrom 2 none)) rmX3_takeFrom (gP [.ref (ad 0), .ref (ad1 0)] (dC, dI) dA ((wX3 dA ad c_opened c_over c_row c_paid c_regret c_tree_parts c_bond_terms) ++ (wX3 dA ad1 d1_opened d1_over d1_row d1_paid d1_regret d1_tree_parts d1_bond_terms)) sz) (gQv (dC, dI) ((wX3 dA ad o_c_opened o_c_over o_c_row o_c_paid o_c_regret o_c_tree_parts o_c_bond_terms) ++ (wX3 dA ad1 d1_opened d1_over d1_row d1_paid d1_regret d1_tree_parts d1_bond_terms)) (va_A ((wX3 dA ad c_opened c_over c_row c_paid c_regret c_tree_parts c_bond_terms) ++ (wX3 dA ad1 d1_opened d1_over d1_row d1_paid d1_regret d1_tree_parts d1_bond_terms)) sz)) 0 0 (va_A ((wX3 dA ad c_opened c_over c_row c_paid c_regret c_tree_parts c_bond_terms) ++ (wX3 dA ad1 d1_opened d1_over d1_row d1_paid d1_regret d1_tree_parts d1_bond_terms)) sz) := by
  refine Met.ofW (cc := cX3_takeFrom) (maxL := 2) (ret := none) (by decide) rfl ?_
  intro p e s m args below meth c s₁ B hml hv
  obtain ⟨rfl, hsz, hP, hK, hD0⟩ := hv
  have hx := B.exec
  have hb := B.bytes
  have hr := B.returns
  have hts := atoms_spec (ws := wq (Cond.code yX3_takeFrom cX3_takeFrom 2 none)) B.pre
  have hown : s.vm.findClass RX3 = some m.cls := findClass_of_methodNamed B.named
  have hlocks := B.notSynchronized
  clear B
  subst hsz
  have hD := hD0.self (sz := s.heap.size)
  generalize hAe : va_A ((wX3 dA ad c_opened c_over c_row c_paid c_regret c_tree_parts c_bond_terms) ++ (wX3 dA ad1 d1_opened d1_over d1_row d1_paid d1_regret d1_tree_parts d1_bond_terms)) s.heap.size = A at hD ⊢
  have hA : ∀ q : Nat, s.heap.size ≤ q → A q := fun q h => by rw [← hAe]; exact Or.inr h
  clear hAe hD0
  have hS : va_S A s.heap s.heap [] := va_S.rf
  have hl := lv_entry ([.ref (ad 0), .ref (ad1 0)]) (n := 2) (Nat.le_of_ble_eq_true rfl)
  rw [lg_entry_eq]
  generalize (lg_sl ([.ref (ad 0), .ref (ad1 0)]) ++ List.replicate (2 - (lg_sl ([.ref (ad 0), .ref (ad1 0)])).length) Slot.unset).toArray = ls at hl ⊢
  have hl : lv_has ls 2 [(0, .ref (ad 0)), (1, .ref (ad1 0))] := hl
  change W p l e rmX3_takeFrom s m ([.ref (ad 0), .ref (ad1 0)] : List Value).toArray below meth c s.heap [] 0 0 _ _
  unfold fX3_takeFrom at hf
  refine lv_aload_n hx hb dX3_takeFrom_0 rfl (lv_at hl 0 rfl) ?_
  refine va_get (D := (dC, dI)) (ci := 3) (v := .ref (ad 1)) (C := RX3) (T := TX3) (N := 7) hx hb hts (fun w h => gw_mem (inX3 w h)) hown hK.1 hP 0 rfl rfl 0 (by decide) (hts _ (gw_mem wfX3_12)) (fun _ h9 => h9) rfl dX3_takeFrom_1 ?_
  refine lv_aload_n hx hb dX3_takeFrom_4 rfl (lv_at hl 1 rfl) ?_
  refine va_get (D := (dC, dI)) (ci := 3) (v := .ref (ad1 1)) (C := RX3) (T := TX3) (N := 7) hx hb hts (fun w h => gw_mem (inX3 w h)) hown hK.1 hP 5 rfl rfl 0 (by decide) (hts _ (gw_mem wfX3_12)) (fun _ h9 => h9) rfl dX3_takeFrom_5 ?_
  obtain ⟨c_tree_parts_1, v2, hf⟩ := bd1_some hf
  have z3 := sg2 (ws := ((wX3 dA ad c_opened c_over c_row c_paid c_regret c_tree_parts c_bond_terms) ++ (wX3 dA ad1 d1_opened d1_over d1_row d1_paid d1_regret d1_tree_parts d1_bond_terms))) (s0 := (((wX3 dA ad c_opened c_over c_row c_paid c_regret c_tree_parts c_bond_terms) ++ (wX3 dA ad1 d1_opened d1_over d1_row d1_paid d1_regret d1_tree_parts d1_bond_terms))).take 1) (s1 := ((((wX3 dA ad c_opened c_over c_row c_paid c_regret c_tree_parts c_bond_terms) ++ (wX3 dA ad1 d1_opened d1_over d1_row d1_paid d1_regret d1_tree_parts d1_bond_terms))).drop 3).take 3) (s2 := (((wX3 dA ad c_opened c_over c_row c_paid c_regret c_tree_parts c_bond_terms) ++ (wX3 dA ad1 d1_opened d1_over d1_row d1_paid d1_regret d1_tree_parts d1_bond_terms))).drop 8) (x1 := (wX7 dA (fun i => ad (i + 1)) c_tree_parts)) (x2 := (wX7 dA (fun i => ad1 (i + 1)) d1_tree_parts)) rfl
  refine gpv (wf := ((wX3 dA ad c_opened c_over c_row c_paid c_regret c_tree_parts_1 c_bond_terms) ++ (wX3 dA ad1 d1_opened d1_over d1_row d1_paid d1_regret d1_tree_parts d1_bond_terms))) (va_runV (As := [.ref (ad1 1)]) (rest := []) ⟨hx, hb, hml, hown, hts⟩ (tX7_takeFrom l dC dI dA (fun i => ad (i + 1)) (fun i => ad1 (i + 1)) s.heap.size v2) (ccX3_X7_takeFrom hts ⟨Nat.le_of_ble_eq_true rfl, Nat.le_of_ble_eq_true rfl⟩) (gPreV (ci := 7) (q0 := 0) (psub z3 hP) hK (psubD z3 hD) rfl rfl) rfl rfl hl.1 rfl (lv_room (Nat.le_of_ble_eq_true rfl)) dX3_takeFrom_8 ⟨Nat.le_of_ble_eq_true rfl, Nat.le_of_ble_eq_true rfl⟩) hP hD hS hA z3 (sg2 (s0 := (((wX3 dA ad c_opened c_over c_row c_paid c_regret c_tree_parts c_bond_terms) ++ (wX3 dA ad1 d1_opened d1_over d1_row d1_paid d1_regret d1_tree_parts d1_bond_terms))).take 1) (s1 := ((((wX3 dA ad c_opened c_over c_row c_paid c_regret c_tree_parts c_bond_terms) ++ (wX3 dA ad1 d1_opened d1_over d1_row d1_paid d1_regret d1_tree_parts d1_bond_terms))).drop 3).take 3) (s2 := (((wX3 dA ad c_opened c_over c_row c_paid c_regret c_tree_parts c_bond_terms) ++ (wX3 dA ad1 d1_opened d1_over d1_row d1_paid d1_regret d1_tree_parts d1_bond_terms))).drop 8) (x1 := (wX7 dA (fun i => ad (i + 1)) c_tree_parts_1)) (x2 := (wX7 dA (fun i => ad1 (i + 1)) d1_tree_parts)) rfl) (fun H locs hP hD hS => ?_)
  refine lv_aload_n hx hb dX3_takeFrom_11 rfl (lv_at hl 0 rfl) ?_
  refine va_get (D := (dC, dI)) (ci := 3) (v := .ref (ad 3)) (C := RX3) (T := TX3) (N := 7) hx hb hts (fun w h => gw_mem (inX3 w h)) hown hK.1 hP 0 rfl rfl 1 (by decide) (hts _ (gw_mem wfX3_21)) (fun _ h9 => h9) rfl dX3_takeFrom_12 ?_
  refine lv_aload_n hx hb dX3_takeFrom_15 rfl (lv_at hl 1 rfl) ?_
  refine va_get (D := (dC, dI)) (ci := 3) (v := .ref (ad1 3)) (C := RX3) (T := TX3) (N := 7) hx hb hts (fun w h => gw_mem (inX3 w h)) hown hK.1 hP 5 rfl rfl 1 (by decide) (hts _ (gw_mem wfX3_21)) (fun _ h9 => h9) rfl dX3_takeFrom_16 ?_
  obtain ⟨c_bond_terms_4, v5, hf⟩ := bd1_some hf
  have z6 := sg2 (ws := ((wX3 dA ad c_opened c_over c_row c_paid c_regret c_tree_parts_1 c_bond_terms) ++ (wX3 dA ad1 d1_opened d1_over d1_row d1_paid d1_regret d1_tree_parts d1_bond_terms))) (s0 := (((wX3 dA ad c_opened c_over c_row c_paid c_regret c_tree_parts_1 c_bond_terms) ++ (wX3 dA ad1 d1_opened d1_over d1_row d1_paid d1_regret d1_tree_parts d1_bond_terms))).take 3) (s1 := ((((wX3 dA ad c_opened c_over c_row c_paid c_regret c_tree_parts_1 c_bond_terms) ++ (wX3 dA ad1 d1_opened d1_over d1_row d1_paid d1_regret d1_tree_parts d1_bond_terms))).drop 5).take 3) (s2 := (((wX3 dA ad c_opened c_over c_row c_paid c_regret c_tree_parts_1 c_bond_terms) ++ (wX3 dA ad1 d1_opened d1_over d1_row d1_paid d1_regret d1_tree_parts d1_bond_terms))).drop 10) (x1 := (wX0 dA (fun i => ad (i + 3)) c_bond_terms)) (x2 := (wX0 dA (fun i => ad1 (i + 3)) d1_bond_terms)) rfl
  refine gpv (wf := ((wX3 dA ad c_opened c_over c_row c_paid c_regret c_tree_parts_1 c_bond_terms_4) ++ (wX3 dA ad1 d1_opened d1_over d1_row d1_paid d1_regret d1_tree_parts d1_bond_terms))) (va_runV (As := [.ref (ad1 3)]) (rest := []) ⟨hx, hb, hml, hown, hts⟩ (tX0_takeFrom l dC dI dA (fun i => ad (i + 3)) (fun i => ad1 (i + 3)) H.size v5) (ccX3_X0_takeFrom hts ⟨Nat.le_of_ble_eq_true rfl, Nat.le_of_ble_eq_true rfl⟩) (gPreV (ci := 1) (q0 := 0) (psub z6 hP) hK (psubD z6 hD) rfl rfl) rfl rfl hl.1 rfl (lv_room (Nat.le_of_ble_eq_true rfl)) dX3_takeFrom_19 ⟨Nat.le_of_ble_eq_true rfl, Nat.le_of_ble_eq_true rfl⟩) hP hD hS hA z6 (sg2 (s0 := (((wX3 dA ad c_opened c_over c_row c_paid c_regret c_tree_parts_1 c_bond_terms) ++ (wX3 dA ad1 d1_opened d1_over d1_row d1_paid d1_regret d1_tree_parts d1_bond_terms))).take 3) (s1 := ((((wX3 dA ad c_opened c_over c_row c_paid c_regret c_tree_parts_1 c_bond_terms) ++ (wX3 dA ad1 d1_opened d1_over d1_row d1_paid d1_regret d1_tree_parts d1_bond_terms))).drop 5).take 3) (s2 := (((wX3 dA ad c_opened c_over c_row c_paid c_regret c_tree_parts_1 c_bond_terms) ++ (wX3 dA ad1 d1_opened d1_over d1_row d1_paid d1_regret d1_tree_parts d1_bond_terms))).drop 10) (x1 := (wX0 dA (fun i => ad (i + 3)) c_bond_terms_4)) (x2 := (wX0 dA (fun i => ad1 (i + 3)) d1_bond_terms)) rfl) (fun H locs hP hD hS => ?_)
  refine lv_aload_n hx hb dX3_takeFrom_22 rfl (lv_at hl 0 rfl) ?_
  refine lv_aload_n hx hb dX3_takeFrom_23 rfl (lv_at hl 1 rfl) ?_
  refine va_get (D := (dC, dI)) (ci := 3) (v := .int d1_opened) (C := RX3) (T := TX3) (N := 7) hx hb hts (fun w h => gw_mem (inX3 w h)) hown hK.1 hP 5 rfl rfl 2 (by decide) (hts _ (gw_mem wfX3_25)) (fun _ h9 => h9) rfl dX3_takeFrom_24 ?_
  obtain ⟨h7, hf⟩ := og_some hf
  refine va_put (D := (dC, dI)) (ci := 3) (v := .int d1_opened) (ty := .boolean) (C := RX3) (T := TX3) (N := 7) hx hb hts (fun w h => gw_mem (inX3 w h)) tyX3 tyX3_ok nmX3 hown hK.1 hP hD hS 0 rfl rfl 2 (by decide) (hts _ (gw_mem wfX3_25)) (fun _ h9 => h9) rfl (by decide +kernel) (boB_nar h7) (boB_fit h7) (Nat.le_of_ble_eq_true rfl) dX3_takeFrom_27 (fun H locs hP hD hS => ?_)
  have hP : va_P (dC, dI) vwCl ((wX3 dA ad d1_opened c_over c_row c_paid c_regret c_tree_parts_1 c_bond_terms_4) ++ (wX3 dA ad1 d1_opened d1_over d1_row d1_paid d1_regret d1_tree_parts d1_bond_terms)) H := hP
  have hD : va_D A ((wX3 dA ad d1_opened c_over c_row c_paid c_regret c_tree_parts_1 c_bond_terms_4) ++ (wX3 dA ad1 d1_opened d1_over d1_row d1_paid d1_regret d1_tree_parts d1_bond_terms)) := hD
  refine lv_aload_n hx hb dX3_takeFrom_30 rfl (lv_at hl 0 rfl) ?_
  refine lv_aload_n hx hb dX3_takeFrom_31 rfl (lv_at hl 1 rfl) ?_
  refine va_get (D := (dC, dI)) (ci := 3) (v := .int d1_over) (C := RX3) (T := TX3) (N := 7) hx hb hts (fun w h => gw_mem (inX3 w h)) hown hK.1 hP 5 rfl rfl 3 (by decide) (hts _ (gw_mem wfX3_29)) (fun _ h9 => h9) rfl dX3_takeFrom_32 ?_
  obtain ⟨h8, hf⟩ := og_some hf
  refine va_put (D := (dC, dI)) (ci := 3) (v := .int d1_over) (ty := .boolean) (C := RX3) (T := TX3) (N := 7) hx hb hts (fun w h => gw_mem (inX3 w h)) tyX3 tyX3_ok nmX3 hown hK.1 hP hD hS 0 rfl rfl 3 (by decide) (hts _ (gw_mem wfX3_29)) (fun _ h9 => h9) rfl (by decide +kernel) (boB_nar h8) (boB_fit h8) (Nat.le_of_ble_eq_true rfl) dX3_takeFrom_35 (fun H locs hP hD hS => ?_)
  have hP : va_P (dC, dI) vwCl ((wX3 dA ad d1_opened d1_over c_row c_paid c_regret c_tree_parts_1 c_bond_terms_4) ++ (wX3 dA ad1 d1_opened d1_over d1_row d1_paid d1_regret d1_tree_parts d1_bond_terms)) H := hP
  have hD : va_D A ((wX3 dA ad d1_opened d1_over c_row c_paid c_regret c_tree_parts_1 c_bond_terms_4) ++ (wX3 dA ad1 d1_opened d1_over d1_row d1_paid d1_regret d1_tree_parts d1_bond_terms)) := hD
  refine lv_aload_n hx hb dX3_takeFrom_38 rfl (lv_at hl 0 rfl) ?_
  refine lv_aload_n hx hb dX3_takeFrom_39 rfl (lv_at hl 1 rfl) ?_
  refine va_get (D := (dC, dI)) (ci := 3) (v := .int d1_row) (C := RX3) (T := TX3) (N := 7) hx hb hts (fun w h => gw_mem (inX3 w h)) hown hK.1 hP 5 rfl rfl 4 (by decide) (hts _ (gw_mem wfX3_32)) (fun _ h9 => h9) rfl dX3_takeFrom_40 ?_
  refine va_put (D := (dC, dI)) (ci := 3) (v := .int d1_row) (ty := .int) (C := RX3) (T := TX3) (N := 7) hx hb hts (fun w h => gw_mem (inX3 w h)) tyX3 tyX3_ok nmX3 hown hK.1 hP hD hS 0 rfl rfl 4 (by decide) (hts _ (gw_mem wfX3_32)) (fun _ h9 => h9) rfl (by decide +kernel) rfl rfl (Nat.le_of_ble_eq_true rfl) dX3_takeFrom_43 (fun H locs hP hD hS => ?_)
  have hP : va_P (dC, dI) vwCl ((wX3 dA ad d1_opened d1_over d1_row c_paid c_regret c_tree_parts_1 c_bond_terms_4) ++ (wX3 dA ad1 d1_opened d1_over d1_row d1_paid d1_regret d1_tree_parts d1_bond_terms)) H := hP
  have hD : va_D A ((wX3 dA ad d1_opened d1_over d1_row c_paid c_regret c_tree_parts_1 c_bond_terms_4) ++ (wX3 dA ad1 d1_opened d1_over d1_row d1_paid d1_regret d1_tree_parts d1_bond_terms)) := hD
  refine lv_aload_n hx hb dX3_takeFrom_46 rfl (lv_at hl 0 rfl) ?_
  refine lv_aload_n hx hb dX3_takeFrom_47 rfl (lv_at hl 1 rfl) ?_
  refine va_get (D := (dC, dI)) (ci := 3) (v := .long d1_paid) (C := RX3) (T := TX3) (N := 7) hx hb hts (fun w h => gw_mem (inX3 w h)) hown hK.1 hP 5 rfl rfl 5 (by decide) (hts _ (gw_mem wfX3_36)) (fun _ h9 => h9) rfl dX3_takeFrom_48 ?_
  refine va_put (D := (dC, dI)) (ci := 3) (v := .long d1_paid) (ty := .long) (C := RX3) (T := TX3) (N := 7) hx hb hts (fun w h => gw_mem (inX3 w h)) tyX3 tyX3_ok nmX3 hown hK.1 hP hD hS 0 rfl rfl 5 (by decide) (hts _ (gw_mem wfX3_36)) (fun _ h9 => h9) rfl (by decide +kernel) rfl rfl (Nat.le_of_ble_eq_true rfl) dX3_takeFrom_51 (fun H locs hP hD hS => ?_)
  have hP : va_P (dC, dI) vwCl ((wX3 dA ad d1_opened d1_over d1_row d1_paid c_regret c_tree_parts_1 c_bond_terms_4) ++ (wX3 dA ad1 d1_opened d1_over d1_row d1_paid d1_regret d1_tree_parts d1_bond_terms)) H := hP
  have hD : va_D A ((wX3 dA ad d1_opened d1_over d1_row d1_paid c_regret c_tree_parts_1 c_bond_terms_4) ++ (wX3 dA ad1 d1_opened d1_over d1_row d1_paid d1_regret d1_tree_parts d1_bond_terms)) := hD
  refine lv_aload_n hx hb dX3_takeFrom_54 rfl (lv_at hl 0 rfl) ?_
  refine lv_aload_n hx hb dX3_takeFrom_55 rfl (lv_at hl 1 rfl) ?_
  refine va_get (D := (dC, dI)) (ci := 3) (v := .long d1_regret) (C := RX3) (T := TX3) (N := 7) hx hb hts (fun w h => gw_mem (inX3 w h)) hown hK.1 hP 5 rfl rfl 6 (by decide) (hts _ (gw_mem wfX3_40)) (fun _ h9 => h9) rfl dX3_takeFrom_56 ?_
  refine va_put (D := (dC, dI)) (ci := 3) (v := .long d1_regret) (ty := .long) (C := RX3) (T := TX3) (N := 7) hx hb hts (fun w h => gw_mem (inX3 w h)) tyX3 tyX3_ok nmX3 hown hK.1 hP hD hS 0 rfl rfl 6 (by decide) (hts _ (gw_mem wfX3_40)) (fun _ h9 => h9) rfl (by decide +kernel) rfl rfl (Nat.le_of_ble_eq_true rfl) dX3_takeFrom_59 (fun H locs hP hD hS => ?_)
  have hP : va_P (dC, dI) vwCl ((wX3 dA ad d1_opened d1_over d1_row d1_paid d1_regret c_tree_parts_1 c_bond_terms_4) ++ (wX3 dA ad1 d1_opened d1_over d1_row d1_paid d1_regret d1_tree_parts d1_bond_terms)) H := hP
  have hD : va_D A ((wX3 dA ad d1_opened d1_over d1_row d1_paid d1_regret c_tree_parts_1 c_bond_terms_4) ++ (wX3 dA ad1 d1_opened d1_over d1_row d1_paid d1_regret d1_tree_parts d1_bond_terms)) := hD
  cases hf
  exact W.vret hx hb hr (fun t ht _ => gqv hP hD hS ht) hS.2.2 dX3_takeFrom_62
theorem ccX4_X7_takeFrom {R : Room} {s : State} {args : Array Value} {c0 : Cond} (ht : ∀ w ∈ wq c0, w.before args s = true) (hR : rmX7_takeFrom.frames + 1 ≤ R.frames ∧ 8 + (2 + 11) + rmX7_takeFrom.locals ≤ R.locals) : CallW R s args RX4 RX7 36 yX7_takeFrom cX7_takeFrom 2 none (wq (.code yX7_takeFrom cX7_takeFrom 2 none)) rmX7_takeFrom 0 0 1 := gCW 1 ht wcX7_takeFrom wmX4_36 wiX7_takeFrom weX7_takeFrom wnX7 (by decide +kernel) rfl rfl hR
theorem ccX4_X0_takeFrom {R : Room} {s : State} {args : Array Value} {c0 : Cond} (ht : ∀ w ∈ wq c0, w.before args s = true) (hR : rmX0_takeFrom.frames + 1 ≤ R.frames ∧ 8 + (2 + 11) + rmX0_takeFrom.locals ≤ R.locals) : CallW R s args RX4 RX0 40 yX0_takeFrom cX0_takeFrom 2 none (wq (.code yX0_takeFrom cX0_takeFrom 2 none)) rmX0_takeFrom 0 0 1 := gCW 1 ht wcX0_takeFrom wmX4_40 wiX0_takeFrom weX0_takeFrom wnX0 (by decide +kernel) rfl rfl hR
theorem ccX4_X3_takeFrom {R : Room} {s : State} {args : Array Value} {c0 : Cond} (ht : ∀ w ∈ wq c0, w.before args s = true) (hR : rmX3_takeFrom.frames + 1 ≤ R.frames ∧ 8 + (2 + 11) + rmX3_takeFrom.locals ≤ R.locals) : CallW R s args RX4 RX3 43 yX3_takeFrom cX3_takeFrom 2 none (wq (.code yX3_takeFrom cX3_takeFrom 2 none)) rmX3_takeFrom 0 0 1 := gCW 1 ht wcX3_takeFrom wmX4_43 wiX3_takeFrom weX3_takeFrom wnX3 (by decide +kernel) rfl rfl hR
abbrev rmX4_takeFrom : Room := { frames := 3, cells := 0, slots := 0, locals := 102 }
set_option maxHeartbeats 4000000 in
set_option maxRecDepth 100000 in
theorem tX4_takeFrom (l : Launch) (dC : Nat → ClassId) (dI : Nat → Nat → Nat) (dA : Nat → ClassId) (ad : Nat → Nat) (ad1 : Nat → Nat) (sz : Nat) {c_row : Int32} {c_tree_parts : Nat → Int32} {c_bonds0_terms : Nat → Int32} {c_bonds1_terms : Nat → Int32} {c_bonds2_terms : Nat → Int32} {c_hand_opened : Int32} {c_hand_over : Int32} {c_hand_row : Int32} {c_hand_paid : Int64} {c_hand_regret : Int64} {c_hand_tree_parts : Nat → Int32} {c_hand_bond_terms : Nat → Int32} {d1_row : Int32} {d1_tree_parts : Nat → Int32} {d1_bonds0_terms : Nat → Int32} {d1_bonds1_terms : Nat → Int32} {d1_bonds2_terms : Nat → Int32} {d1_hand_opened : Int32} {d1_hand_over : Int32} {d1_hand_row : Int32} {d1_hand_paid : Int64} {d1_hand_regret : Int64} {d1_hand_tree_parts : Nat → Int32} {d1_hand_bond_terms : Nat → Int32} {o_c_row : Int32} {o_c_tree_parts : Nat → Int32} {o_c_bonds0_terms : Nat → Int32} {o_c_bonds1_terms : Nat → Int32} {o_c_bonds2_terms : Nat → Int32} {o_c_hand_opened : Int32} {o_c_hand_over : Int32} {o_c_hand_row : Int32} {o_c_hand_paid : Int64} {o_c_hand_regret : Int64} {o_c_hand_tree_parts : Nat → Int32} {o_c_hand_bond_terms : Nat → Int32} (hf : fX4_takeFrom c_row c_tree_parts c_bonds0_terms c_bonds1_terms c_bonds2_terms c_hand_opened c_hand_over c_hand_row c_hand_paid c_hand_regret c_hand_tree_parts c_hand_bond_terms d1_row d1_tree_parts d1_bonds0_terms d1_bonds1_terms d1_bonds2_terms d1_hand_opened d1_hand_over d1_hand_row d1_hand_paid d1_hand_regret d1_hand_tree_parts d1_hand_bond_terms = some (o_c_row, o_c_tree_parts, o_c_bonds0_terms, o_c_bonds1_terms, o_c_bonds2_terms, o_c_hand_opened, o_c_hand_over, o_c_hand_row, o_c_hand_paid, o_c_hand_regret, o_c_hand_tree_parts, o_c_hand_bond_terms)) : Met l yX4_takeFrom (wq (Cond.code yX4_takeFrom cX4_takeFrom 3 none)) rmX4_takeFrom (gP [.ref (ad 0), .ref (ad1 0)] (dC, dI) dA ((wX4 dA ad c_row c_tree_parts c_bonds0_terms c_bonds1_terms c_bonds2_terms c_hand_opened c_hand_over c_hand_row c_hand_paid c_hand_regret c_hand_tree_parts c_hand_bond_terms) ++ (wX4 dA ad1 d1_row d1_tree_parts d1_bonds0_terms d1_bonds1_terms d1_bonds2_terms d1_hand_opened d1_hand_over d1_hand_row d1_hand_paid d1_hand_regret d1_hand_tree_parts d1_hand_bond_terms)) sz) (gQv (dC, dI) ((wX4 dA ad o_c_row o_c_tree_parts o_c_bonds0_terms o_c_bonds1_terms o_c_bonds2_terms o_c_hand_opened o_c_hand_over o_c_hand_row o_c_hand_paid o_c_hand_regret o_c_hand_tree_parts o_c_hand_bond_terms) ++ (wX4 dA ad1 d1_row d1_tree_parts d1_bonds0_terms d1_bonds1_terms d1_bonds2_terms d1_hand_opened d1_hand_over d1_hand_row d1_hand_paid d1_hand_regret d1_hand_tree_parts d1_hand_bond_terms)) (va_A ((wX4 dA ad c_row c_tree_parts c_bonds0_terms c_bonds1_terms c_bonds2_terms c_hand_opened c_hand_over c_hand_row c_hand_paid c_hand_regret c_hand_tree_parts c_hand_bond_terms) ++ (wX4 dA ad1 d1_row d1_tree_parts d1_bonds0_terms d1_bonds1_terms d1_bonds2_terms d1_hand_opened d1_hand_over d1_hand_row d1_hand_paid d1_hand_regret d1_hand_tree_parts d1_hand_bond_terms)) sz)) 0 0 (va_A ((wX4 dA ad c_row c_tree_parts c_bonds0_terms c_bonds1_terms c_bonds2_terms c_hand_opened c_hand_over c_hand_row c_hand_paid c_hand_regret c_hand_tree_parts c_hand_bond_terms) ++ (wX4 dA ad1 d1_row d1_tree_parts d1_bonds0_terms d1_bonds1_terms d1_bonds2_terms d1_hand_opened d1_hand_over d1_hand_row d1_hand_paid d1_hand_regret d1_hand_tree_parts d1_hand_bond_terms)) sz) := by
  refine Met.ofW (cc := cX4_takeFrom) (maxL := 3) (ret := none) (by decide) rfl ?_
  intro p e s m args below meth c s₁ B hml hv
  obtain ⟨rfl, hsz, hP, hK, hD0⟩ := hv
  have hx := B.exec
  have hb := B.bytes
  have hr := B.returns
  have hts := atoms_spec (ws := wq (Cond.code yX4_takeFrom cX4_takeFrom 3 none)) B.pre
  have hown : s.vm.findClass RX4 = some m.cls := findClass_of_methodNamed B.named
  have hlocks := B.notSynchronized
  clear B
  subst hsz
  have hD := hD0.self (sz := s.heap.size)
  generalize hAe : va_A ((wX4 dA ad c_row c_tree_parts c_bonds0_terms c_bonds1_terms c_bonds2_terms c_hand_opened c_hand_over c_hand_row c_hand_paid c_hand_regret c_hand_tree_parts c_hand_bond_terms) ++ (wX4 dA ad1 d1_row d1_tree_parts d1_bonds0_terms d1_bonds1_terms d1_bonds2_terms d1_hand_opened d1_hand_over d1_hand_row d1_hand_paid d1_hand_regret d1_hand_tree_parts d1_hand_bond_terms)) s.heap.size = A at hD ⊢
  have hA : ∀ q : Nat, s.heap.size ≤ q → A q := fun q h => by rw [← hAe]; exact Or.inr h
  clear hAe hD0
  have hS : va_S A s.heap s.heap [] := va_S.rf
  have hl := lv_entry ([.ref (ad 0), .ref (ad1 0)]) (n := 3) (Nat.le_of_ble_eq_true rfl)
  rw [lg_entry_eq]
  generalize (lg_sl ([.ref (ad 0), .ref (ad1 0)]) ++ List.replicate (3 - (lg_sl ([.ref (ad 0), .ref (ad1 0)])).length) Slot.unset).toArray = ls at hl ⊢
  have hl : lv_has ls 3 [(0, .ref (ad 0)), (1, .ref (ad1 0))] := hl
  change W p l e rmX4_takeFrom s m ([.ref (ad 0), .ref (ad1 0)] : List Value).toArray below meth c s.heap [] 0 0 _ _
  generalize hQ : MQ below (gQv (dC, dI) ((wX4 dA ad o_c_row o_c_tree_parts o_c_bonds0_terms o_c_bonds1_terms o_c_bonds2_terms o_c_hand_opened o_c_hand_over o_c_hand_row o_c_hand_paid o_c_hand_regret o_c_hand_tree_parts o_c_hand_bond_terms) ++ (wX4 dA ad1 d1_row d1_tree_parts d1_bonds0_terms d1_bonds1_terms d1_bonds2_terms d1_hand_opened d1_hand_over d1_hand_row d1_hand_paid d1_hand_regret d1_hand_tree_parts d1_hand_bond_terms)) A) ([.ref (ad 0), .ref (ad1 0)] : List Value).toArray s 0 0 A = Q
  have LP13 : ∀ (n : Nat) (d1_bonds0_terms : Nat → Int32) (d1_bonds1_terms : Nat → Int32) (d1_bonds2_terms : Nat → Int32) (c_row : Int32) (c_tree_parts : Nat → Int32) (c_hand_opened : Int32) (c_hand_over : Int32) (c_hand_row : Int32) (c_hand_paid : Int64) (c_hand_regret : Int64) (c_hand_tree_parts : Nat → Int32) (c_hand_bond_terms : Nat → Int32) (d1_row : Int32) (d1_tree_parts : Nat → Int32) (d1_hand_opened : Int32) (d1_hand_over : Int32) (d1_hand_row : Int32) (d1_hand_paid : Int64) (d1_hand_regret : Int64) (d1_hand_tree_parts : Nat → Int32) (d1_hand_bond_terms : Nat → Int32) (x2 : Int32) (c_bonds0_terms : Nat → Int32) (c_bonds1_terms : Nat → Int32) (c_bonds2_terms : Nat → Int32) (o_c_bonds0_terms : Nat → Int32) (o_c_bonds1_terms : Nat → Int32) (o_c_bonds2_terms : Nat → Int32) (H : Heap) (locs : List Loc) (ls : Array Slot), va_P (dC, dI) vwCl ((wX4 dA ad c_row c_tree_parts c_bonds0_terms c_bonds1_terms c_bonds2_terms c_hand_opened c_hand_over c_hand_row c_hand_paid c_hand_regret c_hand_tree_parts c_hand_bond_terms) ++ (wX4 dA ad1 d1_row d1_tree_parts d1_bonds0_terms d1_bonds1_terms d1_bonds2_terms d1_hand_opened d1_hand_over d1_hand_row d1_hand_paid d1_hand_regret d1_hand_tree_parts d1_hand_bond_terms)) H → va_D A ((wX4 dA ad c_row c_tree_parts c_bonds0_terms c_bonds1_terms c_bonds2_terms c_hand_opened c_hand_over c_hand_row c_hand_paid c_hand_regret c_hand_tree_parts c_hand_bond_terms) ++ (wX4 dA ad1 d1_row d1_tree_parts d1_bonds0_terms d1_bonds1_terms d1_bonds2_terms d1_hand_opened d1_hand_over d1_hand_row d1_hand_paid d1_hand_regret d1_hand_tree_parts d1_hand_bond_terms)) → va_S A s.heap H locs → lpX4_takeFrom_13 d1_bonds0_terms d1_bonds1_terms d1_bonds2_terms n x2 c_bonds0_terms c_bonds1_terms c_bonds2_terms = some (o_c_bonds0_terms, o_c_bonds1_terms, o_c_bonds2_terms) → lv_has ls 3 [(0, .ref (ad 0)), (1, .ref (ad1 0)), (2, .int x2)] → (∀ (H : Heap) (locs : List Loc) (ls : Array Slot), va_P (dC, dI) vwCl ((wX4 dA ad c_row c_tree_parts o_c_bonds0_terms o_c_bonds1_terms o_c_bonds2_terms c_hand_opened c_hand_over c_hand_row c_hand_paid c_hand_regret c_hand_tree_parts c_hand_bond_terms) ++ (wX4 dA ad1 d1_row d1_tree_parts d1_bonds0_terms d1_bonds1_terms d1_bonds2_terms d1_hand_opened d1_hand_over d1_hand_row d1_hand_paid d1_hand_regret d1_hand_tree_parts d1_hand_bond_terms)) H → va_D A ((wX4 dA ad c_row c_tree_parts o_c_bonds0_terms o_c_bonds1_terms o_c_bonds2_terms c_hand_opened c_hand_over c_hand_row c_hand_paid c_hand_regret c_hand_tree_parts c_hand_bond_terms) ++ (wX4 dA ad1 d1_row d1_tree_parts d1_bonds0_terms d1_bonds1_terms d1_bonds2_terms d1_hand_opened d1_hand_over d1_hand_row d1_hand_paid d1_hand_regret d1_hand_tree_parts d1_hand_bond_terms)) → va_S A s.heap H locs → lv_has ls 3 [(0, .ref (ad 0)), (1, .ref (ad1 0))] → W p l e rmX4_takeFrom s m ([.ref (ad 0), .ref (ad1 0)] : List Value).toArray below meth c H locs 0 0 Q (F0 m 39 ls [])) → W p l e rmX4_takeFrom s m ([.ref (ad 0), .ref (ad1 0)] : List Value).toArray below meth c H locs 0 0 Q (F0 m 13 ls []) := by
    intro n
    induction n with
    | zero =>
      intro d1_bonds0_terms d1_bonds1_terms d1_bonds2_terms c_row c_tree_parts c_hand_opened c_hand_over c_hand_row c_hand_paid c_hand_regret c_hand_tree_parts c_hand_bond_terms d1_row d1_tree_parts d1_hand_opened d1_hand_over d1_hand_row d1_hand_paid d1_hand_regret d1_hand_tree_parts d1_hand_bond_terms x2 c_bonds0_terms c_bonds1_terms c_bonds2_terms o_c_bonds0_terms o_c_bonds1_terms o_c_bonds2_terms H locs ls hP hD hS hf hl hk
      cases hf
    | succ n ih13 =>
      intro d1_bonds0_terms d1_bonds1_terms d1_bonds2_terms c_row c_tree_parts c_hand_opened c_hand_over c_hand_row c_hand_paid c_hand_regret c_hand_tree_parts c_hand_bond_terms d1_row d1_tree_parts d1_hand_opened d1_hand_over d1_hand_row d1_hand_paid d1_hand_regret d1_hand_tree_parts d1_hand_bond_terms x2 c_bonds0_terms c_bonds1_terms c_bonds2_terms o_c_bonds0_terms o_c_bonds1_terms o_c_bonds2_terms H locs ls hP hD hS hf hl hk
      rw [lpX4_takeFrom_13.eq_2] at hf
      refine lv_iload_n hx hb dX4_takeFrom_13 rfl (lv_at hl 2 rfl) ?_
      refine lv_iconst (v := 3) hx hb dX4_takeFrom_14 (by decide) ?_
      refine lv_icmp_ge (tgt := 39) hx hb dX4_takeFrom_15 (by decide) (fun k17 => ?_) (fun k17 => ?_)
      · replace hf := ifp k17 hf
        cases hf
        exact hk _ _ _ hP hD hS (lv_sub hl [0, 1] rfl)
      · replace hf := ifn k17 hf
        refine lv_aload_n hx hb dX4_takeFrom_18 rfl (lv_at hl 0 rfl) ?_
        refine va_get (D := (dC, dI)) (ci := 4) (v := .ref (ad 3)) (C := RX4) (T := TX4) (N := 4) hx hb hts (fun w h => gw_mem (inX4 w h)) hown hK.1 hP 0 rfl rfl 1 (by decide) (hts _ (gw_mem wfX4_21)) (fun _ h9 => h9) rfl dX4_takeFrom_19 ?_
        refine lv_iload_n hx hb dX4_takeFrom_22 rfl (lv_at hl 2 rfl) ?_
        obtain ⟨h18, hf⟩ := og_some hf
        obtain ⟨c_bonds0_terms_19, c_bonds1_terms_20, c_bonds2_terms_21, v23, hf⟩ := bd3_some hf
        have J22 : ∀ (H : Heap) (locs : List Loc) (ls : Array Slot), va_P (dC, dI) vwCl ((wX4 dA ad c_row c_tree_parts c_bonds0_terms_19 c_bonds1_terms_20 c_bonds2_terms_21 c_hand_opened c_hand_over c_hand_row c_hand_paid c_hand_regret c_hand_tree_parts c_hand_bond_terms) ++ (wX4 dA ad1 d1_row d1_tree_parts d1_bonds0_terms d1_bonds1_terms d1_bonds2_terms d1_hand_opened d1_hand_over d1_hand_row d1_hand_paid d1_hand_regret d1_hand_tree_parts d1_hand_bond_terms)) H → va_D A ((wX4 dA ad c_row c_tree_parts c_bonds0_terms_19 c_bonds1_terms_20 c_bonds2_terms_21 c_hand_opened c_hand_over c_hand_row c_hand_paid c_hand_regret c_hand_tree_parts c_hand_bond_terms) ++ (wX4 dA ad1 d1_row d1_tree_parts d1_bonds0_terms d1_bonds1_terms d1_bonds2_terms d1_hand_opened d1_hand_over d1_hand_row d1_hand_paid d1_hand_regret d1_hand_tree_parts d1_hand_bond_terms)) → va_S A s.heap H locs → lv_has ls 3 [(0, .ref (ad 0)), (1, .ref (ad1 0)), (2, .int x2)] → W p l e rmX4_takeFrom s m ([.ref (ad 0), .ref (ad1 0)] : List Value).toArray below meth c H locs 0 0 Q (F0 m 33 ls []) := by
          intro H locs ls hP hD hS hl
          obtain ⟨w24, ew24⟩ : ∃ y : Int32, y = x2 + 1 := ⟨_, rfl⟩
          replace hf := nm_at hf ew24
          refine lv_iinc (v := w24) (lv' := [(2, .int w24), (0, .ref (ad 0)), (1, .ref (ad1 0))]) hx hb dX4_takeFrom_33 hl (k := 2) rfl (by rw [ew24]; rfl) (by decide) rfl (fun ls hl => ?_)
          refine lv_goto (tgt := 13) hx hb dX4_takeFrom_36 (by decide) ?_
          exact ih13 _ _ _ _ _ _ _ _ _ _ _ _ _ _ _ _ _ _ _ _ _ _ _ _ _ _ _ _ _ _ _ hP hD hS hf (lv_sub hl [1, 2, 0] rfl) hk
        replace hf := v23
        clear v23
        by_cases k25 : x2 = 0
        · replace hf := ifp k25 hf
          refine tb_ald (j := 0) hx hb hK.1 hP 3 3 rfl rfl (okI_in h18) (by rw [k25]; rfl) (rfl : _ = some (ad 4)) dX4_takeFrom_23 ?_
          refine lv_aload_n hx hb dX4_takeFrom_24 rfl (lv_at hl 1 rfl) ?_
          refine va_get (D := (dC, dI)) (ci := 4) (v := .ref (ad1 3)) (C := RX4) (T := TX4) (N := 4) hx hb hts (fun w h => gw_mem (inX4 w h)) hown hK.1 hP 15 rfl rfl 1 (by decide) (hts _ (gw_mem wfX4_21)) (fun _ h9 => h9) rfl dX4_takeFrom_25 ?_
          refine lv_iload_n hx hb dX4_takeFrom_28 rfl (lv_at hl 2 rfl) ?_
          refine tb_ald (j := 0) hx hb hK.1 hP 18 3 rfl rfl (okI_in h18) (by rw [k25]; rfl) (rfl : _ = some (ad1 4)) dX4_takeFrom_29 ?_
          obtain ⟨c_bonds0_terms_26, v27, hf⟩ := bd1_some hf
          have z28 := sg2 (ws := ((wX4 dA ad c_row c_tree_parts c_bonds0_terms c_bonds1_terms c_bonds2_terms c_hand_opened c_hand_over c_hand_row c_hand_paid c_hand_regret c_hand_tree_parts c_hand_bond_terms) ++ (wX4 dA ad1 d1_row d1_tree_parts d1_bonds0_terms d1_bonds1_terms d1_bonds2_terms d1_hand_opened d1_hand_over d1_hand_row d1_hand_paid d1_hand_regret d1_hand_tree_parts d1_hand_bond_terms))) (s0 := (((wX4 dA ad c_row c_tree_parts c_bonds0_terms c_bonds1_terms c_bonds2_terms c_hand_opened c_hand_over c_hand_row c_hand_paid c_hand_regret c_hand_tree_parts c_hand_bond_terms) ++ (wX4 dA ad1 d1_row d1_tree_parts d1_bonds0_terms d1_bonds1_terms d1_bonds2_terms d1_hand_opened d1_hand_over d1_hand_row d1_hand_paid d1_hand_regret d1_hand_tree_parts d1_hand_bond_terms))).take 4) (s1 := ((((wX4 dA ad c_row c_tree_parts c_bonds0_terms c_bonds1_terms c_bonds2_terms c_hand_opened c_hand_over c_hand_row c_hand_paid c_hand_regret c_hand_tree_parts c_hand_bond_terms) ++ (wX4 dA ad1 d1_row d1_tree_parts d1_bonds0_terms d1_bonds1_terms d1_bonds2_terms d1_hand_opened d1_hand_over d1_hand_row d1_hand_paid d1_hand_regret d1_hand_tree_parts d1_hand_bond_terms))).drop 6).take 13) (s2 := (((wX4 dA ad c_row c_tree_parts c_bonds0_terms c_bonds1_terms c_bonds2_terms c_hand_opened c_hand_over c_hand_row c_hand_paid c_hand_regret c_hand_tree_parts c_hand_bond_terms) ++ (wX4 dA ad1 d1_row d1_tree_parts d1_bonds0_terms d1_bonds1_terms d1_bonds2_terms d1_hand_opened d1_hand_over d1_hand_row d1_hand_paid d1_hand_regret d1_hand_tree_parts d1_hand_bond_terms))).drop 21) (x1 := (wX0 dA (fun i => ad (i + 4)) c_bonds0_terms)) (x2 := (wX0 dA (fun i => ad1 (i + 4)) d1_bonds0_terms)) rfl
          refine gpv (wf := ((wX4 dA ad c_row c_tree_parts c_bonds0_terms_26 c_bonds1_terms c_bonds2_terms c_hand_opened c_hand_over c_hand_row c_hand_paid c_hand_regret c_hand_tree_parts c_hand_bond_terms) ++ (wX4 dA ad1 d1_row d1_tree_parts d1_bonds0_terms d1_bonds1_terms d1_bonds2_terms d1_hand_opened d1_hand_over d1_hand_row d1_hand_paid d1_hand_regret d1_hand_tree_parts d1_hand_bond_terms))) (va_runV (As := [.ref (ad1 4)]) (rest := []) ⟨hx, hb, hml, hown, hts⟩ (tX0_takeFrom l dC dI dA (fun i => ad (i + 4)) (fun i => ad1 (i + 4)) H.size v27) (ccX4_X0_takeFrom hts ⟨Nat.le_of_ble_eq_true rfl, Nat.le_of_ble_eq_true rfl⟩) (gPreV (ci := 1) (q0 := 0) (psub z28 hP) hK (psubD z28 hD) rfl rfl) rfl rfl hl.1 rfl (lv_room (Nat.le_of_ble_eq_true rfl)) dX4_takeFrom_30 ⟨Nat.le_of_ble_eq_true rfl, Nat.le_of_ble_eq_true rfl⟩) hP hD hS hA z28 (sg2 (s0 := (((wX4 dA ad c_row c_tree_parts c_bonds0_terms c_bonds1_terms c_bonds2_terms c_hand_opened c_hand_over c_hand_row c_hand_paid c_hand_regret c_hand_tree_parts c_hand_bond_terms) ++ (wX4 dA ad1 d1_row d1_tree_parts d1_bonds0_terms d1_bonds1_terms d1_bonds2_terms d1_hand_opened d1_hand_over d1_hand_row d1_hand_paid d1_hand_regret d1_hand_tree_parts d1_hand_bond_terms))).take 4) (s1 := ((((wX4 dA ad c_row c_tree_parts c_bonds0_terms c_bonds1_terms c_bonds2_terms c_hand_opened c_hand_over c_hand_row c_hand_paid c_hand_regret c_hand_tree_parts c_hand_bond_terms) ++ (wX4 dA ad1 d1_row d1_tree_parts d1_bonds0_terms d1_bonds1_terms d1_bonds2_terms d1_hand_opened d1_hand_over d1_hand_row d1_hand_paid d1_hand_regret d1_hand_tree_parts d1_hand_bond_terms))).drop 6).take 13) (s2 := (((wX4 dA ad c_row c_tree_parts c_bonds0_terms c_bonds1_terms c_bonds2_terms c_hand_opened c_hand_over c_hand_row c_hand_paid c_hand_regret c_hand_tree_parts c_hand_bond_terms) ++ (wX4 dA ad1 d1_row d1_tree_parts d1_bonds0_terms d1_bonds1_terms d1_bonds2_terms d1_hand_opened d1_hand_over d1_hand_row d1_hand_paid d1_hand_regret d1_hand_tree_parts d1_hand_bond_terms))).drop 21) (x1 := (wX0 dA (fun i => ad (i + 4)) c_bonds0_terms_26)) (x2 := (wX0 dA (fun i => ad1 (i + 4)) d1_bonds0_terms)) rfl) (fun H locs hP hD hS => ?_)
          cases hf
          exact J22 _ _ _ hP hD hS (lv_sub hl [0, 1, 2] rfl)
        · replace hf := ifn k25 hf
          by_cases k29 : x2 = 1
          · replace hf := ifp k29 hf
            refine tb_ald (j := 1) hx hb hK.1 hP 3 3 rfl rfl (okI_in h18) (by rw [k29]; rfl) (rfl : _ = some (ad 6)) dX4_takeFrom_23 ?_
            refine lv_aload_n hx hb dX4_takeFrom_24 rfl (lv_at hl 1 rfl) ?_
            refine va_get (D := (dC, dI)) (ci := 4) (v := .ref (ad1 3)) (C := RX4) (T := TX4) (N := 4) hx hb hts (fun w h => gw_mem (inX4 w h)) hown hK.1 hP 15 rfl rfl 1 (by decide) (hts _ (gw_mem wfX4_21)) (fun _ h9 => h9) rfl dX4_takeFrom_25 ?_
            refine lv_iload_n hx hb dX4_takeFrom_28 rfl (lv_at hl 2 rfl) ?_
            refine tb_ald (j := 1) hx hb hK.1 hP 18 3 rfl rfl (okI_in h18) (by rw [k29]; rfl) (rfl : _ = some (ad1 6)) dX4_takeFrom_29 ?_
            obtain ⟨c_bonds1_terms_30, v31, hf⟩ := bd1_some hf
            have z32 := sg2 (ws := ((wX4 dA ad c_row c_tree_parts c_bonds0_terms c_bonds1_terms c_bonds2_terms c_hand_opened c_hand_over c_hand_row c_hand_paid c_hand_regret c_hand_tree_parts c_hand_bond_terms) ++ (wX4 dA ad1 d1_row d1_tree_parts d1_bonds0_terms d1_bonds1_terms d1_bonds2_terms d1_hand_opened d1_hand_over d1_hand_row d1_hand_paid d1_hand_regret d1_hand_tree_parts d1_hand_bond_terms))) (s0 := (((wX4 dA ad c_row c_tree_parts c_bonds0_terms c_bonds1_terms c_bonds2_terms c_hand_opened c_hand_over c_hand_row c_hand_paid c_hand_regret c_hand_tree_parts c_hand_bond_terms) ++ (wX4 dA ad1 d1_row d1_tree_parts d1_bonds0_terms d1_bonds1_terms d1_bonds2_terms d1_hand_opened d1_hand_over d1_hand_row d1_hand_paid d1_hand_regret d1_hand_tree_parts d1_hand_bond_terms))).take 6) (s1 := ((((wX4 dA ad c_row c_tree_parts c_bonds0_terms c_bonds1_terms c_bonds2_terms c_hand_opened c_hand_over c_hand_row c_hand_paid c_hand_regret c_hand_tree_parts c_hand_bond_terms) ++ (wX4 dA ad1 d1_row d1_tree_parts d1_bonds0_terms d1_bonds1_terms d1_bonds2_terms d1_hand_opened d1_hand_over d1_hand_row d1_hand_paid d1_hand_regret d1_hand_tree_parts d1_hand_bond_terms))).drop 8).take 13) (s2 := (((wX4 dA ad c_row c_tree_parts c_bonds0_terms c_bonds1_terms c_bonds2_terms c_hand_opened c_hand_over c_hand_row c_hand_paid c_hand_regret c_hand_tree_parts c_hand_bond_terms) ++ (wX4 dA ad1 d1_row d1_tree_parts d1_bonds0_terms d1_bonds1_terms d1_bonds2_terms d1_hand_opened d1_hand_over d1_hand_row d1_hand_paid d1_hand_regret d1_hand_tree_parts d1_hand_bond_terms))).drop 23) (x1 := (wX0 dA (fun i => ad (i + 6)) c_bonds1_terms)) (x2 := (wX0 dA (fun i => ad1 (i + 6)) d1_bonds1_terms)) rfl
            refine gpv (wf := ((wX4 dA ad c_row c_tree_parts c_bonds0_terms c_bonds1_terms_30 c_bonds2_terms c_hand_opened c_hand_over c_hand_row c_hand_paid c_hand_regret c_hand_tree_parts c_hand_bond_terms) ++ (wX4 dA ad1 d1_row d1_tree_parts d1_bonds0_terms d1_bonds1_terms d1_bonds2_terms d1_hand_opened d1_hand_over d1_hand_row d1_hand_paid d1_hand_regret d1_hand_tree_parts d1_hand_bond_terms))) (va_runV (As := [.ref (ad1 6)]) (rest := []) ⟨hx, hb, hml, hown, hts⟩ (tX0_takeFrom l dC dI dA (fun i => ad (i + 6)) (fun i => ad1 (i + 6)) H.size v31) (ccX4_X0_takeFrom hts ⟨Nat.le_of_ble_eq_true rfl, Nat.le_of_ble_eq_true rfl⟩) (gPreV (ci := 1) (q0 := 0) (psub z32 hP) hK (psubD z32 hD) rfl rfl) rfl rfl hl.1 rfl (lv_room (Nat.le_of_ble_eq_true rfl)) dX4_takeFrom_30 ⟨Nat.le_of_ble_eq_true rfl, Nat.le_of_ble_eq_true rfl⟩) hP hD hS hA z32 (sg2 (s0 := (((wX4 dA ad c_row c_tree_parts c_bonds0_terms c_bonds1_terms c_bonds2_terms c_hand_opened c_hand_over c_hand_row c_hand_paid c_hand_regret c_hand_tree_parts c_hand_bond_terms) ++ (wX4 dA ad1 d1_row d1_tree_parts d1_bonds0_terms d1_bonds1_terms d1_bonds2_terms d1_hand_opened d1_hand_over d1_hand_row d1_hand_paid d1_hand_regret d1_hand_tree_parts d1_hand_bond_terms))).take 6) (s1 := ((((wX4 dA ad c_row c_tree_parts c_bonds0_terms c_bonds1_terms c_bonds2_terms c_hand_opened c_hand_over c_hand_row c_hand_paid c_hand_regret c_hand_tree_parts c_hand_bond_terms) ++ (wX4 dA ad1 d1_row d1_tree_parts d1_bonds0_terms d1_bonds1_terms d1_bonds2_terms d1_hand_opened d1_hand_over d1_hand_row d1_hand_paid d1_hand_regret d1_hand_tree_parts d1_hand_bond_terms))).drop 8).take 13) (s2 := (((wX4 dA ad c_row c_tree_parts c_bonds0_terms c_bonds1_terms c_bonds2_terms c_hand_opened c_hand_over c_hand_row c_hand_paid c_hand_regret c_hand_tree_parts c_hand_bond_terms) ++ (wX4 dA ad1 d1_row d1_tree_parts d1_bonds0_terms d1_bonds1_terms d1_bonds2_terms d1_hand_opened d1_hand_over d1_hand_row d1_hand_paid d1_hand_regret d1_hand_tree_parts d1_hand_bond_terms))).drop 23) (x1 := (wX0 dA (fun i => ad (i + 6)) c_bonds1_terms_30)) (x2 := (wX0 dA (fun i => ad1 (i + 6)) d1_bonds1_terms)) rfl) (fun H locs hP hD hS => ?_)
            cases hf
            exact J22 _ _ _ hP hD hS (lv_sub hl [0, 1, 2] rfl)
          · replace hf := ifn k29 hf
            refine tb_ald (j := 2) hx hb hK.1 hP 3 3 rfl rfl (okI_in h18) (tb_is2 h18 k25 k29) (rfl : _ = some (ad 8)) dX4_takeFrom_23 ?_
            refine lv_aload_n hx hb dX4_takeFrom_24 rfl (lv_at hl 1 rfl) ?_
            refine va_get (D := (dC, dI)) (ci := 4) (v := .ref (ad1 3)) (C := RX4) (T := TX4) (N := 4) hx hb hts (fun w h => gw_mem (inX4 w h)) hown hK.1 hP 15 rfl rfl 1 (by decide) (hts _ (gw_mem wfX4_21)) (fun _ h9 => h9) rfl dX4_takeFrom_25 ?_
            refine lv_iload_n hx hb dX4_takeFrom_28 rfl (lv_at hl 2 rfl) ?_
            refine tb_ald (j := 2) hx hb hK.1 hP 18 3 rfl rfl (okI_in h18) (tb_is2 h18 k25 k29) (rfl : _ = some (ad1 8)) dX4_takeFrom_29 ?_
            obtain ⟨c_bonds2_terms_33, v34, hf⟩ := bd1_some hf
            have z35 := sg2 (ws := ((wX4 dA ad c_row c_tree_parts c_bonds0_terms c_bonds1_terms c_bonds2_terms c_hand_opened c_hand_over c_hand_row c_hand_paid c_hand_regret c_hand_tree_parts c_hand_bond_terms) ++ (wX4 dA ad1 d1_row d1_tree_parts d1_bonds0_terms d1_bonds1_terms d1_bonds2_terms d1_hand_opened d1_hand_over d1_hand_row d1_hand_paid d1_hand_regret d1_hand_tree_parts d1_hand_bond_terms))) (s0 := (((wX4 dA ad c_row c_tree_parts c_bonds0_terms c_bonds1_terms c_bonds2_terms c_hand_opened c_hand_over c_hand_row c_hand_paid c_hand_regret c_hand_tree_parts c_hand_bond_terms) ++ (wX4 dA ad1 d1_row d1_tree_parts d1_bonds0_terms d1_bonds1_terms d1_bonds2_terms d1_hand_opened d1_hand_over d1_hand_row d1_hand_paid d1_hand_regret d1_hand_tree_parts d1_hand_bond_terms))).take 8) (s1 := ((((wX4 dA ad c_row c_tree_parts c_bonds0_terms c_bonds1_terms c_bonds2_terms c_hand_opened c_hand_over c_hand_row c_hand_paid c_hand_regret c_hand_tree_parts c_hand_bond_terms) ++ (wX4 dA ad1 d1_row d1_tree_parts d1_bonds0_terms d1_bonds1_terms d1_bonds2_terms d1_hand_opened d1_hand_over d1_hand_row d1_hand_paid d1_hand_regret d1_hand_tree_parts d1_hand_bond_terms))).drop 10).take 13) (s2 := (((wX4 dA ad c_row c_tree_parts c_bonds0_terms c_bonds1_terms c_bonds2_terms c_hand_opened c_hand_over c_hand_row c_hand_paid c_hand_regret c_hand_tree_parts c_hand_bond_terms) ++ (wX4 dA ad1 d1_row d1_tree_parts d1_bonds0_terms d1_bonds1_terms d1_bonds2_terms d1_hand_opened d1_hand_over d1_hand_row d1_hand_paid d1_hand_regret d1_hand_tree_parts d1_hand_bond_terms))).drop 25) (x1 := (wX0 dA (fun i => ad (i + 8)) c_bonds2_terms)) (x2 := (wX0 dA (fun i => ad1 (i + 8)) d1_bonds2_terms)) rfl
            refine gpv (wf := ((wX4 dA ad c_row c_tree_parts c_bonds0_terms c_bonds1_terms c_bonds2_terms_33 c_hand_opened c_hand_over c_hand_row c_hand_paid c_hand_regret c_hand_tree_parts c_hand_bond_terms) ++ (wX4 dA ad1 d1_row d1_tree_parts d1_bonds0_terms d1_bonds1_terms d1_bonds2_terms d1_hand_opened d1_hand_over d1_hand_row d1_hand_paid d1_hand_regret d1_hand_tree_parts d1_hand_bond_terms))) (va_runV (As := [.ref (ad1 8)]) (rest := []) ⟨hx, hb, hml, hown, hts⟩ (tX0_takeFrom l dC dI dA (fun i => ad (i + 8)) (fun i => ad1 (i + 8)) H.size v34) (ccX4_X0_takeFrom hts ⟨Nat.le_of_ble_eq_true rfl, Nat.le_of_ble_eq_true rfl⟩) (gPreV (ci := 1) (q0 := 0) (psub z35 hP) hK (psubD z35 hD) rfl rfl) rfl rfl hl.1 rfl (lv_room (Nat.le_of_ble_eq_true rfl)) dX4_takeFrom_30 ⟨Nat.le_of_ble_eq_true rfl, Nat.le_of_ble_eq_true rfl⟩) hP hD hS hA z35 (sg2 (s0 := (((wX4 dA ad c_row c_tree_parts c_bonds0_terms c_bonds1_terms c_bonds2_terms c_hand_opened c_hand_over c_hand_row c_hand_paid c_hand_regret c_hand_tree_parts c_hand_bond_terms) ++ (wX4 dA ad1 d1_row d1_tree_parts d1_bonds0_terms d1_bonds1_terms d1_bonds2_terms d1_hand_opened d1_hand_over d1_hand_row d1_hand_paid d1_hand_regret d1_hand_tree_parts d1_hand_bond_terms))).take 8) (s1 := ((((wX4 dA ad c_row c_tree_parts c_bonds0_terms c_bonds1_terms c_bonds2_terms c_hand_opened c_hand_over c_hand_row c_hand_paid c_hand_regret c_hand_tree_parts c_hand_bond_terms) ++ (wX4 dA ad1 d1_row d1_tree_parts d1_bonds0_terms d1_bonds1_terms d1_bonds2_terms d1_hand_opened d1_hand_over d1_hand_row d1_hand_paid d1_hand_regret d1_hand_tree_parts d1_hand_bond_terms))).drop 10).take 13) (s2 := (((wX4 dA ad c_row c_tree_parts c_bonds0_terms c_bonds1_terms c_bonds2_terms c_hand_opened c_hand_over c_hand_row c_hand_paid c_hand_regret c_hand_tree_parts c_hand_bond_terms) ++ (wX4 dA ad1 d1_row d1_tree_parts d1_bonds0_terms d1_bonds1_terms d1_bonds2_terms d1_hand_opened d1_hand_over d1_hand_row d1_hand_paid d1_hand_regret d1_hand_tree_parts d1_hand_bond_terms))).drop 25) (x1 := (wX0 dA (fun i => ad (i + 8)) c_bonds2_terms_33)) (x2 := (wX0 dA (fun i => ad1 (i + 8)) d1_bonds2_terms)) rfl) (fun H locs hP hD hS => ?_)
            cases hf
            exact J22 _ _ _ hP hD hS (lv_sub hl [0, 1, 2] rfl)
  subst hQ
  unfold fX4_takeFrom at hf
  refine lv_aload_n hx hb dX4_takeFrom_0 rfl (lv_at hl 0 rfl) ?_
  refine va_get (D := (dC, dI)) (ci := 4) (v := .ref (ad 1)) (C := RX4) (T := TX4) (N := 4) hx hb hts (fun w h => gw_mem (inX4 w h)) hown hK.1 hP 0 rfl rfl 0 (by decide) (hts _ (gw_mem wfX4_12)) (fun _ h9 => h9) rfl dX4_takeFrom_1 ?_
  refine lv_aload_n hx hb dX4_takeFrom_4 rfl (lv_at hl 1 rfl) ?_
  refine va_get (D := (dC, dI)) (ci := 4) (v := .ref (ad1 1)) (C := RX4) (T := TX4) (N := 4) hx hb hts (fun w h => gw_mem (inX4 w h)) hown hK.1 hP 15 rfl rfl 0 (by decide) (hts _ (gw_mem wfX4_12)) (fun _ h9 => h9) rfl dX4_takeFrom_5 ?_
  obtain ⟨c_tree_parts_1, v2, hf⟩ := bd1_some hf
  have z3 := sg2 (ws := ((wX4 dA ad c_row c_tree_parts c_bonds0_terms c_bonds1_terms c_bonds2_terms c_hand_opened c_hand_over c_hand_row c_hand_paid c_hand_regret c_hand_tree_parts c_hand_bond_terms) ++ (wX4 dA ad1 d1_row d1_tree_parts d1_bonds0_terms d1_bonds1_terms d1_bonds2_terms d1_hand_opened d1_hand_over d1_hand_row d1_hand_paid d1_hand_regret d1_hand_tree_parts d1_hand_bond_terms))) (s0 := (((wX4 dA ad c_row c_tree_parts c_bonds0_terms c_bonds1_terms c_bonds2_terms c_hand_opened c_hand_over c_hand_row c_hand_paid c_hand_regret c_hand_tree_parts c_hand_bond_terms) ++ (wX4 dA ad1 d1_row d1_tree_parts d1_bonds0_terms d1_bonds1_terms d1_bonds2_terms d1_hand_opened d1_hand_over d1_hand_row d1_hand_paid d1_hand_regret d1_hand_tree_parts d1_hand_bond_terms))).take 1) (s1 := ((((wX4 dA ad c_row c_tree_parts c_bonds0_terms c_bonds1_terms c_bonds2_terms c_hand_opened c_hand_over c_hand_row c_hand_paid c_hand_regret c_hand_tree_parts c_hand_bond_terms) ++ (wX4 dA ad1 d1_row d1_tree_parts d1_bonds0_terms d1_bonds1_terms d1_bonds2_terms d1_hand_opened d1_hand_over d1_hand_row d1_hand_paid d1_hand_regret d1_hand_tree_parts d1_hand_bond_terms))).drop 3).take 13) (s2 := (((wX4 dA ad c_row c_tree_parts c_bonds0_terms c_bonds1_terms c_bonds2_terms c_hand_opened c_hand_over c_hand_row c_hand_paid c_hand_regret c_hand_tree_parts c_hand_bond_terms) ++ (wX4 dA ad1 d1_row d1_tree_parts d1_bonds0_terms d1_bonds1_terms d1_bonds2_terms d1_hand_opened d1_hand_over d1_hand_row d1_hand_paid d1_hand_regret d1_hand_tree_parts d1_hand_bond_terms))).drop 18) (x1 := (wX7 dA (fun i => ad (i + 1)) c_tree_parts)) (x2 := (wX7 dA (fun i => ad1 (i + 1)) d1_tree_parts)) rfl
  refine gpv (wf := ((wX4 dA ad c_row c_tree_parts_1 c_bonds0_terms c_bonds1_terms c_bonds2_terms c_hand_opened c_hand_over c_hand_row c_hand_paid c_hand_regret c_hand_tree_parts c_hand_bond_terms) ++ (wX4 dA ad1 d1_row d1_tree_parts d1_bonds0_terms d1_bonds1_terms d1_bonds2_terms d1_hand_opened d1_hand_over d1_hand_row d1_hand_paid d1_hand_regret d1_hand_tree_parts d1_hand_bond_terms))) (va_runV (As := [.ref (ad1 1)]) (rest := []) ⟨hx, hb, hml, hown, hts⟩ (tX7_takeFrom l dC dI dA (fun i => ad (i + 1)) (fun i => ad1 (i + 1)) s.heap.size v2) (ccX4_X7_takeFrom hts ⟨Nat.le_of_ble_eq_true rfl, Nat.le_of_ble_eq_true rfl⟩) (gPreV (ci := 7) (q0 := 0) (psub z3 hP) hK (psubD z3 hD) rfl rfl) rfl rfl hl.1 rfl (lv_room (Nat.le_of_ble_eq_true rfl)) dX4_takeFrom_8 ⟨Nat.le_of_ble_eq_true rfl, Nat.le_of_ble_eq_true rfl⟩) hP hD hS hA z3 (sg2 (s0 := (((wX4 dA ad c_row c_tree_parts c_bonds0_terms c_bonds1_terms c_bonds2_terms c_hand_opened c_hand_over c_hand_row c_hand_paid c_hand_regret c_hand_tree_parts c_hand_bond_terms) ++ (wX4 dA ad1 d1_row d1_tree_parts d1_bonds0_terms d1_bonds1_terms d1_bonds2_terms d1_hand_opened d1_hand_over d1_hand_row d1_hand_paid d1_hand_regret d1_hand_tree_parts d1_hand_bond_terms))).take 1) (s1 := ((((wX4 dA ad c_row c_tree_parts c_bonds0_terms c_bonds1_terms c_bonds2_terms c_hand_opened c_hand_over c_hand_row c_hand_paid c_hand_regret c_hand_tree_parts c_hand_bond_terms) ++ (wX4 dA ad1 d1_row d1_tree_parts d1_bonds0_terms d1_bonds1_terms d1_bonds2_terms d1_hand_opened d1_hand_over d1_hand_row d1_hand_paid d1_hand_regret d1_hand_tree_parts d1_hand_bond_terms))).drop 3).take 13) (s2 := (((wX4 dA ad c_row c_tree_parts c_bonds0_terms c_bonds1_terms c_bonds2_terms c_hand_opened c_hand_over c_hand_row c_hand_paid c_hand_regret c_hand_tree_parts c_hand_bond_terms) ++ (wX4 dA ad1 d1_row d1_tree_parts d1_bonds0_terms d1_bonds1_terms d1_bonds2_terms d1_hand_opened d1_hand_over d1_hand_row d1_hand_paid d1_hand_regret d1_hand_tree_parts d1_hand_bond_terms))).drop 18) (x1 := (wX7 dA (fun i => ad (i + 1)) c_tree_parts_1)) (x2 := (wX7 dA (fun i => ad1 (i + 1)) d1_tree_parts)) rfl) (fun H locs hP hD hS => ?_)
  refine lv_iconst (v := 0) hx hb dX4_takeFrom_11 (by decide) ?_
  refine lv_istore_n (lv' := [(2, .int 0), (0, .ref (ad 0)), (1, .ref (ad1 0))]) hx hb dX4_takeFrom_12 rfl hl (by decide) rfl (fun ls hl => ?_)
  obtain ⟨c_bonds0_terms_4, c_bonds1_terms_5, c_bonds2_terms_6, v7, hf⟩ := bd3_some hf
  refine LP13 FU _ _ _ _ _ _ _ _ _ _ _ _ _ _ _ _ _ _ _ _ _ _ _ _ _ _ _ _ _ _ _ hP hD hS v7 (lv_sub hl [1, 2, 0] rfl) (fun H locs ls hP hD hS hl => ?_)
  refine lv_aload_n hx hb dX4_takeFrom_39 rfl (lv_at hl 0 rfl) ?_
  refine va_get (D := (dC, dI)) (ci := 4) (v := .ref (ad 10)) (C := RX4) (T := TX4) (N := 4) hx hb hts (fun w h => gw_mem (inX4 w h)) hown hK.1 hP 0 rfl rfl 2 (by decide) (hts _ (gw_mem wfX4_28)) (fun _ h9 => h9) rfl dX4_takeFrom_40 ?_
  refine lv_aload_n hx hb dX4_takeFrom_43 rfl (lv_at hl 1 rfl) ?_
  refine va_get (D := (dC, dI)) (ci := 4) (v := .ref (ad1 10)) (C := RX4) (T := TX4) (N := 4) hx hb hts (fun w h => gw_mem (inX4 w h)) hown hK.1 hP 15 rfl rfl 2 (by decide) (hts _ (gw_mem wfX4_28)) (fun _ h9 => h9) rfl dX4_takeFrom_44 ?_
  obtain ⟨c_hand_opened_8, c_hand_over_9, c_hand_row_10, c_hand_paid_11, c_hand_regret_12, c_hand_tree_parts_13, c_hand_bond_terms_14, v15, hf⟩ := bd7_some hf
  have z16 := sg2 (ws := ((wX4 dA ad c_row c_tree_parts_1 c_bonds0_terms_4 c_bonds1_terms_5 c_bonds2_terms_6 c_hand_opened c_hand_over c_hand_row c_hand_paid c_hand_regret c_hand_tree_parts c_hand_bond_terms) ++ (wX4 dA ad1 d1_row d1_tree_parts d1_bonds0_terms d1_bonds1_terms d1_bonds2_terms d1_hand_opened d1_hand_over d1_hand_row d1_hand_paid d1_hand_regret d1_hand_tree_parts d1_hand_bond_terms))) (s0 := (((wX4 dA ad c_row c_tree_parts_1 c_bonds0_terms_4 c_bonds1_terms_5 c_bonds2_terms_6 c_hand_opened c_hand_over c_hand_row c_hand_paid c_hand_regret c_hand_tree_parts c_hand_bond_terms) ++ (wX4 dA ad1 d1_row d1_tree_parts d1_bonds0_terms d1_bonds1_terms d1_bonds2_terms d1_hand_opened d1_hand_over d1_hand_row d1_hand_paid d1_hand_regret d1_hand_tree_parts d1_hand_bond_terms))).take 10) (s1 := ((((wX4 dA ad c_row c_tree_parts_1 c_bonds0_terms_4 c_bonds1_terms_5 c_bonds2_terms_6 c_hand_opened c_hand_over c_hand_row c_hand_paid c_hand_regret c_hand_tree_parts c_hand_bond_terms) ++ (wX4 dA ad1 d1_row d1_tree_parts d1_bonds0_terms d1_bonds1_terms d1_bonds2_terms d1_hand_opened d1_hand_over d1_hand_row d1_hand_paid d1_hand_regret d1_hand_tree_parts d1_hand_bond_terms))).drop 15).take 10) (s2 := (((wX4 dA ad c_row c_tree_parts_1 c_bonds0_terms_4 c_bonds1_terms_5 c_bonds2_terms_6 c_hand_opened c_hand_over c_hand_row c_hand_paid c_hand_regret c_hand_tree_parts c_hand_bond_terms) ++ (wX4 dA ad1 d1_row d1_tree_parts d1_bonds0_terms d1_bonds1_terms d1_bonds2_terms d1_hand_opened d1_hand_over d1_hand_row d1_hand_paid d1_hand_regret d1_hand_tree_parts d1_hand_bond_terms))).drop 30) (x1 := (wX3 dA (fun i => ad (i + 10)) c_hand_opened c_hand_over c_hand_row c_hand_paid c_hand_regret c_hand_tree_parts c_hand_bond_terms)) (x2 := (wX3 dA (fun i => ad1 (i + 10)) d1_hand_opened d1_hand_over d1_hand_row d1_hand_paid d1_hand_regret d1_hand_tree_parts d1_hand_bond_terms)) rfl
  refine gpv (wf := ((wX4 dA ad c_row c_tree_parts_1 c_bonds0_terms_4 c_bonds1_terms_5 c_bonds2_terms_6 c_hand_opened_8 c_hand_over_9 c_hand_row_10 c_hand_paid_11 c_hand_regret_12 c_hand_tree_parts_13 c_hand_bond_terms_14) ++ (wX4 dA ad1 d1_row d1_tree_parts d1_bonds0_terms d1_bonds1_terms d1_bonds2_terms d1_hand_opened d1_hand_over d1_hand_row d1_hand_paid d1_hand_regret d1_hand_tree_parts d1_hand_bond_terms))) (va_runV (As := [.ref (ad1 10)]) (rest := []) ⟨hx, hb, hml, hown, hts⟩ (tX3_takeFrom l dC dI dA (fun i => ad (i + 10)) (fun i => ad1 (i + 10)) H.size v15) (ccX4_X3_takeFrom hts ⟨Nat.le_of_ble_eq_true rfl, Nat.le_of_ble_eq_true rfl⟩) (gPreV (ci := 3) (q0 := 0) (psub z16 hP) hK (psubD z16 hD) rfl rfl) rfl rfl hl.1 rfl (lv_room (Nat.le_of_ble_eq_true rfl)) dX4_takeFrom_47 ⟨Nat.le_of_ble_eq_true rfl, Nat.le_of_ble_eq_true rfl⟩) hP hD hS hA z16 (sg2 (s0 := (((wX4 dA ad c_row c_tree_parts_1 c_bonds0_terms_4 c_bonds1_terms_5 c_bonds2_terms_6 c_hand_opened c_hand_over c_hand_row c_hand_paid c_hand_regret c_hand_tree_parts c_hand_bond_terms) ++ (wX4 dA ad1 d1_row d1_tree_parts d1_bonds0_terms d1_bonds1_terms d1_bonds2_terms d1_hand_opened d1_hand_over d1_hand_row d1_hand_paid d1_hand_regret d1_hand_tree_parts d1_hand_bond_terms))).take 10) (s1 := ((((wX4 dA ad c_row c_tree_parts_1 c_bonds0_terms_4 c_bonds1_terms_5 c_bonds2_terms_6 c_hand_opened c_hand_over c_hand_row c_hand_paid c_hand_regret c_hand_tree_parts c_hand_bond_terms) ++ (wX4 dA ad1 d1_row d1_tree_parts d1_bonds0_terms d1_bonds1_terms d1_bonds2_terms d1_hand_opened d1_hand_over d1_hand_row d1_hand_paid d1_hand_regret d1_hand_tree_parts d1_hand_bond_terms))).drop 15).take 10) (s2 := (((wX4 dA ad c_row c_tree_parts_1 c_bonds0_terms_4 c_bonds1_terms_5 c_bonds2_terms_6 c_hand_opened c_hand_over c_hand_row c_hand_paid c_hand_regret c_hand_tree_parts c_hand_bond_terms) ++ (wX4 dA ad1 d1_row d1_tree_parts d1_bonds0_terms d1_bonds1_terms d1_bonds2_terms d1_hand_opened d1_hand_over d1_hand_row d1_hand_paid d1_hand_regret d1_hand_tree_parts d1_hand_bond_terms))).drop 30) (x1 := (wX3 dA (fun i => ad (i + 10)) c_hand_opened_8 c_hand_over_9 c_hand_row_10 c_hand_paid_11 c_hand_regret_12 c_hand_tree_parts_13 c_hand_bond_terms_14)) (x2 := (wX3 dA (fun i => ad1 (i + 10)) d1_hand_opened d1_hand_over d1_hand_row d1_hand_paid d1_hand_regret d1_hand_tree_parts d1_hand_bond_terms)) rfl) (fun H locs hP hD hS => ?_)
  refine lv_aload_n hx hb dX4_takeFrom_50 rfl (lv_at hl 0 rfl) ?_
  refine lv_aload_n hx hb dX4_takeFrom_51 rfl (lv_at hl 1 rfl) ?_
  refine va_get (D := (dC, dI)) (ci := 4) (v := .int d1_row) (C := RX4) (T := TX4) (N := 4) hx hb hts (fun w h => gw_mem (inX4 w h)) hown hK.1 hP 15 rfl rfl 3 (by decide) (hts _ (gw_mem wfX4_32)) (fun _ h9 => h9) rfl dX4_takeFrom_52 ?_
  refine va_put (D := (dC, dI)) (ci := 4) (v := .int d1_row) (ty := .int) (C := RX4) (T := TX4) (N := 4) hx hb hts (fun w h => gw_mem (inX4 w h)) tyX4 tyX4_ok nmX4 hown hK.1 hP hD hS 0 rfl rfl 3 (by decide) (hts _ (gw_mem wfX4_32)) (fun _ h9 => h9) rfl (by decide +kernel) rfl rfl (Nat.le_of_ble_eq_true rfl) dX4_takeFrom_55 (fun H locs hP hD hS => ?_)
  have hP : va_P (dC, dI) vwCl ((wX4 dA ad d1_row c_tree_parts_1 c_bonds0_terms_4 c_bonds1_terms_5 c_bonds2_terms_6 c_hand_opened_8 c_hand_over_9 c_hand_row_10 c_hand_paid_11 c_hand_regret_12 c_hand_tree_parts_13 c_hand_bond_terms_14) ++ (wX4 dA ad1 d1_row d1_tree_parts d1_bonds0_terms d1_bonds1_terms d1_bonds2_terms d1_hand_opened d1_hand_over d1_hand_row d1_hand_paid d1_hand_regret d1_hand_tree_parts d1_hand_bond_terms)) H := hP
  have hD : va_D A ((wX4 dA ad d1_row c_tree_parts_1 c_bonds0_terms_4 c_bonds1_terms_5 c_bonds2_terms_6 c_hand_opened_8 c_hand_over_9 c_hand_row_10 c_hand_paid_11 c_hand_regret_12 c_hand_tree_parts_13 c_hand_bond_terms_14) ++ (wX4 dA ad1 d1_row d1_tree_parts d1_bonds0_terms d1_bonds1_terms d1_bonds2_terms d1_hand_opened d1_hand_over d1_hand_row d1_hand_paid d1_hand_regret d1_hand_tree_parts d1_hand_bond_terms)) := hD
  cases hf
  exact W.vret hx hb hr (fun t ht _ => gqv hP hD hS ht) hS.2.2 dX4_takeFrom_58
