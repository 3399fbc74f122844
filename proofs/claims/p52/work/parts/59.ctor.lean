theorem gzr {D : va_G} {cl : List vw_C} {ws wc : va_W} {H : Heap} (_ : va_P D cl ws H) (is : List Nat) (h : is.map (fun i => ws[i]?) = wc.map some) : is.map (fun i => ws[i]?) = wc.map some := h
theorem gzd {D : va_G} {cl : List vw_C} {ws : va_W} {H : Heap} {A : Nat → Prop} (_ : va_P D cl ws H) (h : va_D A ws) : va_D A ws := h
theorem gjn {D : va_G} {A0 : Nat → Prop} {H0 H H1 : Heap} {locs : List Loc} {ws wc w1 wf : va_W} (k : Nat) (hP : va_P D vwCl ws H) (hD : va_D A0 ws) (hS : va_S A0 H0 H locs) (hA : ∀ q, H0.size ≤ q → A0 q) (h1 : ws = ws.take k ++ wc) (h2 : wf = ws.take k ++ w1)
    (hk : ∀ q : Nat, q < H.size → ¬ va_A wc H.size q → H1[q]? = H[q]?) (hP1 : va_P D vwCl w1 H1) (hD1 : va_D (va_A wc H.size) w1) : va_P D vwCl wf H1 ∧ va_D A0 wf := by
  have e1 : ws.Perm (wc ++ ws.take k) := by
    have e := List.perm_append_comm (l₁ := ws.take k) (l₂ := wc)
    rw [← h1] at e; exact e
  have e2 : wf.Perm (w1 ++ ws.take k) := by rw [h2]; exact List.perm_append_comm
  exact pjoin e1 e2 hP hD hS hA hk hP1 hD1
/-! own base rows for constructors -/
def tb_ad (xs : List Nat) : Nat → Nat := fun i => xs.getD i 0
def gE (U : State) : Prop := va_AO "TurnedBonds$Bond" U ∧ va_AO "TurnedBonds$Kept" U
theorem gE.moved {u U : State} (h : u.vm.Alike U.vm) (e : gE u) : gE U := ⟨va_AO.moved h e.1, va_AO.moved h e.2⟩
def gPE (av : List Value) (D : va_G) (dA : Nat → ClassId) (ws : va_W) (sz : Nat) : Array Value → State → Prop := va_Pc av (fun U => U.heap.size = sz ∧ va_P D vwCl ws U.heap ∧ gK D dA U ∧ gE U ∧ va_D (fun _ => True) ws)
theorem gPE_blind {av : List Value} {D : va_G} {dA : Nat → ClassId} {ws : va_W} {sz : Nat} : FrameBlind (gPE av D dA ws sz) := by
  intro a U g mk q
  obtain ⟨q0, q1, qP, qK, qE, qD⟩ := q
  exact ⟨q0, q1, qP, ⟨va_K.moved (u := U) (U := U.calling g mk a) (Vm.Alike.refl U.vm) qK.1, gN.same (u := U) (U := U.calling g mk a) rfl qK.2⟩, gE.moved (u := U) (U := U.calling g mk a) (Vm.Alike.refl U.vm) qE, qD⟩
theorem gPreE {s : State} {H : Heap} {av : List Value} {D : va_G} {dA : Nat → ClassId} {ws : va_W} {A : Nat → Prop} (hP : va_P D vwCl ws H) (hK : gK D dA s) (hE : gE s) (hD : va_D A ws) : PreS s H (gPE av D dA ws H.size) av :=
  ⟨gPE_blind, fun U hU hW => ⟨rfl, by rw [hU], by rw [hU]; exact hP, hK.warm hW, gE.moved hW.alike hE, hD.weaken (fun _ _ _ _ => trivial)⟩⟩
def gQn (D : va_G) (h0 : Nat) (Wf : (Nat → Nat) → va_W) (A : Nat → Prop) : Array Value → State → Outcome → State → Prop := va_Qv (fun (ad : Nat → Nat) => ad 0 = h0) (fun ad t => va_P D vwCl (Wf ad) t.heap ∧ va_D A (Wf ad)) A
theorem gAint {D : va_G} {dA : Nat → ClassId} {s : State} {cA : ClassId} (h : va_K D vwCl (gTys dA) s) (h1 : va_K D vwCl (gTys dA ++ [(cA, FieldType.int)]) s) : cA = dA 0 := by
  have a : s.vm.findClass ("[" ++ FieldType.int.toString) = some (dA 0) := (h.2 0 (dA 0, .int) rfl).2
  have b : s.vm.findClass ("[" ++ FieldType.int.toString) = some cA := (h1.2 5 (cA, .int) rfl).2
  exact Option.some.inj (b.symm.trans a)
theorem gAlong {D : va_G} {dA : Nat → ClassId} {s : State} {cA : ClassId} (h : va_K D vwCl (gTys dA) s) (h1 : va_K D vwCl (gTys dA ++ [(cA, FieldType.long)]) s) : cA = dA 1 := by
  have a : s.vm.findClass ("[" ++ FieldType.long.toString) = some (dA 1) := (h.2 1 (dA 1, .long) rfl).2
  have b : s.vm.findClass ("[" ++ FieldType.long.toString) = some cA := (h1.2 5 (cA, .long) rfl).2
  exact Option.some.inj (b.symm.trans a)
theorem gAbyte {D : va_G} {dA : Nat → ClassId} {s : State} {cA : ClassId} (h : va_K D vwCl (gTys dA) s) (h1 : va_K D vwCl (gTys dA ++ [(cA, FieldType.byte)]) s) : cA = dA 2 := by
  have a : s.vm.findClass ("[" ++ FieldType.byte.toString) = some (dA 2) := (h.2 2 (dA 2, .byte) rfl).2
  have b : s.vm.findClass ("[" ++ FieldType.byte.toString) = some cA := (h1.2 5 (cA, .byte) rfl).2
  exact Option.some.inj (b.symm.trans a)
theorem gABond {D : va_G} {dA : Nat → ClassId} {s : State} {cA : ClassId} (h : va_K D vwCl (gTys dA) s) (h1 : va_K D vwCl (gTys dA ++ [(cA, FieldType.object "TurnedBonds$Bond")]) s) : cA = dA 3 := by
  obtain ⟨_, _, _, _, _, a⟩ := (h.2 3 (dA 3, .object "TurnedBonds$Bond") rfl).2
  obtain ⟨_, _, _, _, _, b⟩ := (h1.2 5 (cA, .object "TurnedBonds$Bond") rfl).2
  exact Option.some.inj (b.symm.trans a)
theorem gAKept {D : va_G} {dA : Nat → ClassId} {s : State} {cA : ClassId} (h : va_K D vwCl (gTys dA) s) (h1 : va_K D vwCl (gTys dA ++ [(cA, FieldType.object "TurnedBonds$Kept")]) s) : cA = dA 4 := by
  obtain ⟨_, _, _, _, _, a⟩ := (h.2 4 (dA 4, .object "TurnedBonds$Kept") rfl).2
  obtain ⟨_, _, _, _, _, b⟩ := (h1.2 5 (cA, .object "TurnedBonds$Kept") rfl).2
  exact Option.some.inj (b.symm.trans a)
theorem tb_g3_of (a b c : Nat) : va_up (va_up (va_up (fun _ => none) (Int32.toNatClampNeg 0) (some a)) (Int32.toNatClampNeg 1) (some b)) (Int32.toNatClampNeg 2) (some c) = tb_g3 a b c := by
  funext i
  rcases i with _ | _ | _ | i <;> simp [va_up, tb_g3]
theorem gCIN {R : Room} {s : State} {args : Array Value} {own : String} {index maxL : Nat} {y : MethodName} {bytes : ByteArray} {c0 : Cond} {rm : Room} {mc ms : Nat} (n : Nat) (ht : ∀ w ∈ wq c0, w.before args s = true)
    (hc : Cond.code y bytes maxL none ∈ gw) (hl : Cond.methodLink own index y ∈ gw) (hi : Cond.instanceMethod y ∈ gw) (hin : Cond.initialized y.cls ∈ gw) (hnm : y.name = "<init>")
    (hd : y.cls ≠ "java/lang/invoke/MethodHandle" ∧ y.cls ≠ "java/lang/invoke/VarHandle" ∧ (parseMethodDescriptor y.desc).map (fun d => d.parameters.length) = some n) (hrc : rm.cells = mc) (hrs : rm.slots = ms) (hR : rm.frames + 1 ≤ R.frames ∧ 8 + (maxL + 11) + rm.locals ≤ R.locals) :
    CallB R s args own index y bytes maxL none (wq (.code y bytes maxL none)) rm mc ms n ∧ y.name = "<init>" ∧ (Cond.instanceMethod y).before args s = true :=
  ⟨callB_of n ht (gw_I hc) rfl hrc hrs (ht _ (gw_mem hin)) (ht _ (gw_mem hl)) hd hR, hnm, ht _ (gw_mem hi)⟩
theorem gCINN {R : Room} {s : State} {args : Array Value} {own host : String} {index maxL : Nat} {y : MethodName} {bytes : ByteArray} {c0 : Cond} {rm : Room} {mc ms : Nat} (n : Nat) (hN : gN s) (ht : ∀ w ∈ wq c0, w.before args s = true)
    (hc : Cond.code y bytes maxL none ∈ gw) (hl : Cond.methodLinkNest own index y host ∈ lw_tbl) (hi : Cond.instanceMethod y ∈ gw) (hin : Cond.initialized y.cls ∈ gw) (hnm : y.name = "<init>")
    (hd : y.cls ≠ "java/lang/invoke/MethodHandle" ∧ y.cls ≠ "java/lang/invoke/VarHandle" ∧ (parseMethodDescriptor y.desc).map (fun d => d.parameters.length) = some n) (hrc : rm.cells = mc) (hrs : rm.slots = ms) (hR : rm.frames + 1 ≤ R.frames ∧ 8 + (maxL + 11) + rm.locals ≤ R.locals) :
    va_CN R s args own index y host bytes maxL none (wq (.code y bytes maxL none)) rm mc ms n ∧ y.name = "<init>" ∧ (Cond.instanceMethod y).before args s = true :=
  ⟨va_cnB n ht (gw_I hc) rfl hrc hrs (hN _ hl rfl) (ht _ (gw_mem hin)) hd hR, hnm, ht _ (gw_mem hi)⟩
abbrev rmX7_init : Room := { frames := 1, cells := 1, slots := 9, locals := 40 }
set_option maxHeartbeats 4000000 in
set_option maxRecDepth 100000 in
theorem iX7 (l : Launch) (dC : Nat → ClassId) (dI : Nat → Nat → Nat) (dA : Nat → ClassId) (h0 sz : Nat) : Met l yX7_init (wq (Cond.code yX7_init cX7_init 1 none)) rmX7_init (gP [.ref h0] (dC, dI) dA [(h0, .inr (7, [.null]))] sz) (gQn (dC, dI) h0 (fun ad => wX7 dA ad tP0) (va_A [(h0, .inr (7, [.null]))] sz)) 1 9 (va_A [(h0, .inr (7, [.null]))] sz) := by
  refine Met.ofW (cc := cX7_init) (maxL := 1) (ret := none) (by decide) rfl ?_
  intro p e s m args below meth c s₁ B hml hv
  obtain ⟨rfl, hsz, hP, hK, hD0⟩ := hv
  have hx := B.exec
  have hb := B.bytes
  have hr := B.returns
  have hts := atoms_spec (ws := wq (Cond.code yX7_init cX7_init 1 none)) B.pre
  have hown : s.vm.findClass RX7 = some m.cls := findClass_of_methodNamed B.named
  have hlocks := B.notSynchronized
  have hin : meth.name = "<init>" := (name_of_methodNamed B.named B.method).1
  clear B
  subst hsz
  have hD := hD0.self (sz := s.heap.size)
  generalize hAe : va_A [(h0, .inr (7, [.null]))] s.heap.size = A at hD ⊢
  have hA : ∀ q : Nat, s.heap.size ≤ q → A q := fun q h => by rw [← hAe]; exact Or.inr h
  clear hAe hD0
  have hS : va_S A s.heap s.heap [] := va_S.rf
  have hl := lv_entry ([.ref h0]) (n := 1) (Nat.le_of_ble_eq_true rfl)
  rw [lg_entry_eq]
  generalize (lg_sl ([.ref h0]) ++ List.replicate (1 - (lg_sl ([.ref h0])).length) Slot.unset).toArray = ls at hl ⊢
  have hl : lv_has ls 1 [(0, .ref h0)] := hl
  change W p l e rmX7_init s m (([.ref h0] : List Value).toArray) below meth c s.heap [] 0 0 _ _
  refine lv_aload_n hx hb dX7_init_0 rfl (lv_at hl 0 rfl) ?_
  refine W.objInit hx hb hown (hts _ (gw_mem wmX7_3)) (hts _ (gw_mem wi_objinit)) (hts _ (gw_mem wc_objinit)) rfl (by rw [hml]; exact hl.1) rfl dX7_init_1 (Nat.le_of_ble_eq_true rfl) (Nat.le_of_ble_eq_true rfl) ?_
  refine W.eq (g2 := F0 m 4 ls []) rfl ?_
  refine lv_aload_n hx hb dX7_init_4 rfl (lv_at hl 0 rfl) ?_
  refine lv_bipush (v := 9) hx hb dX7_init_5 (by decide) ?_
  refine va_newa (atype := .int) (ty := .int) (a0 := (9, .inl (fun _ => 0))) (N' := 9) hx hb (hts _ (gw_mem wa_int)) rfl hK.1 hP hD hS hA (fun _ => rfl) (by decide) rfl (Nat.le_of_ble_eq_true rfl) (Nat.le_of_ble_eq_true rfl) (Nat.le_of_ble_eq_true rfl) dX7_init_7 (fun q7 cA H hK1 hP hD hS => ?_)
  obtain rfl := gAint hK.1 hK1
  clear hK1
  have hP : va_P (dC, dI) vwCl [(h0, .inr (7, [.null])), (q7, .inl (dA 0, 9, .inl (fun _ => 0)))] H := hP
  have hD := gzd hP hD
  refine lv_dup hx hb dX7_init_9 rfl ?_
  refine lv_iconst (v := 0) hx hb dX7_init_10 (by decide) ?_
  refine lv_iconst (v := 3) hx hb dX7_init_11 (by decide) ?_
  refine va_iast hx hb hK.1 hP hD hS 1 0 rfl rfl (okI_in (by decide)) dX7_init_12 (fun H locs hP hD hS => ?_)
  have hP : va_P (dC, dI) vwCl [(h0, .inr (7, [.null])), (q7, .inl (dA 0, 9, .inl (upd (fun _ => 0) (Int32.toNatClampNeg 0) 3)))] H := hP
  have hD := gzd hP hD
  refine lv_dup hx hb dX7_init_13 rfl ?_
  refine lv_iconst (v := 1) hx hb dX7_init_14 (by decide) ?_
  refine lv_bipush (v := 100) hx hb dX7_init_15 (by decide) ?_
  refine va_iast hx hb hK.1 hP hD hS 1 0 rfl rfl (okI_in (by decide)) dX7_init_17 (fun H locs hP hD hS => ?_)
  have hP : va_P (dC, dI) vwCl [(h0, .inr (7, [.null])), (q7, .inl (dA 0, 9, .inl (upd (upd (fun _ => 0) (Int32.toNatClampNeg 0) 3) (Int32.toNatClampNeg 1) 100)))] H := hP
  have hD := gzd hP hD
  refine lv_dup hx hb dX7_init_18 rfl ?_
  refine lv_iconst (v := 2) hx hb dX7_init_19 (by decide) ?_
  refine lv_bipush (v := 6) hx hb dX7_init_20 (by decide) ?_
  refine va_iast hx hb hK.1 hP hD hS 1 0 rfl rfl (okI_in (by decide)) dX7_init_22 (fun H locs hP hD hS => ?_)
  have hP : va_P (dC, dI) vwCl [(h0, .inr (7, [.null])), (q7, .inl (dA 0, 9, .inl (upd (upd (upd (fun _ => 0) (Int32.toNatClampNeg 0) 3) (Int32.toNatClampNeg 1) 100) (Int32.toNatClampNeg 2) 6)))] H := hP
  have hD := gzd hP hD
  refine lv_dup hx hb dX7_init_23 rfl ?_
  refine lv_iconst (v := 3) hx hb dX7_init_24 (by decide) ?_
  refine lv_iconst (v := 5) hx hb dX7_init_25 (by decide) ?_
  refine va_iast hx hb hK.1 hP hD hS 1 0 rfl rfl (okI_in (by decide)) dX7_init_26 (fun H locs hP hD hS => ?_)
  have hP : va_P (dC, dI) vwCl [(h0, .inr (7, [.null])), (q7, .inl (dA 0, 9, .inl (upd (upd (upd (upd (fun _ => 0) (Int32.toNatClampNeg 0) 3) (Int32.toNatClampNeg 1) 100) (Int32.toNatClampNeg 2) 6) (Int32.toNatClampNeg 3) 5)))] H := hP
  have hD := gzd hP hD
  refine lv_dup hx hb dX7_init_27 rfl ?_
  refine lv_iconst (v := 4) hx hb dX7_init_28 (by decide) ?_
  refine lv_iconst (v := 5) hx hb dX7_init_29 (by decide) ?_
  refine va_iast hx hb hK.1 hP hD hS 1 0 rfl rfl (okI_in (by decide)) dX7_init_30 (fun H locs hP hD hS => ?_)
  have hP : va_P (dC, dI) vwCl [(h0, .inr (7, [.null])), (q7, .inl (dA 0, 9, .inl (upd (upd (upd (upd (upd (fun _ => 0) (Int32.toNatClampNeg 0) 3) (Int32.toNatClampNeg 1) 100) (Int32.toNatClampNeg 2) 6) (Int32.toNatClampNeg 3) 5) (Int32.toNatClampNeg 4) 5)))] H := hP
  have hD := gzd hP hD
  refine lv_dup hx hb dX7_init_31 rfl ?_
  refine lv_iconst (v := 5) hx hb dX7_init_32 (by decide) ?_
  refine lv_bipush (v := 6) hx hb dX7_init_33 (by decide) ?_
  refine va_iast hx hb hK.1 hP hD hS 1 0 rfl rfl (okI_in (by decide)) dX7_init_35 (fun H locs hP hD hS => ?_)
  have hP : va_P (dC, dI) vwCl [(h0, .inr (7, [.null])), (q7, .inl (dA 0, 9, .inl (upd (upd (upd (upd (upd (upd (fun _ => 0) (Int32.toNatClampNeg 0) 3) (Int32.toNatClampNeg 1) 100) (Int32.toNatClampNeg 2) 6) (Int32.toNatClampNeg 3) 5) (Int32.toNatClampNeg 4) 5) (Int32.toNatClampNeg 5) 6)))] H := hP
  have hD := gzd hP hD
  refine lv_dup hx hb dX7_init_36 rfl ?_
  refine lv_bipush (v := 6) hx hb dX7_init_37 (by decide) ?_
  refine lv_iconst (v := 1) hx hb dX7_init_39 (by decide) ?_
  refine va_iast hx hb hK.1 hP hD hS 1 0 rfl rfl (okI_in (by decide)) dX7_init_40 (fun H locs hP hD hS => ?_)
  have hP : va_P (dC, dI) vwCl [(h0, .inr (7, [.null])), (q7, .inl (dA 0, 9, .inl (upd (upd (upd (upd (upd (upd (upd (fun _ => 0) (Int32.toNatClampNeg 0) 3) (Int32.toNatClampNeg 1) 100) (Int32.toNatClampNeg 2) 6) (Int32.toNatClampNeg 3) 5) (Int32.toNatClampNeg 4) 5) (Int32.toNatClampNeg 5) 6) (Int32.toNatClampNeg 6) 1)))] H := hP
  have hD := gzd hP hD
  refine lv_dup hx hb dX7_init_41 rfl ?_
  refine lv_bipush (v := 7) hx hb dX7_init_42 (by decide) ?_
  refine lv_iconst (v := 2) hx hb dX7_init_44 (by decide) ?_
  refine va_iast hx hb hK.1 hP hD hS 1 0 rfl rfl (okI_in (by decide)) dX7_init_45 (fun H locs hP hD hS => ?_)
  have hP : va_P (dC, dI) vwCl [(h0, .inr (7, [.null])), (q7, .inl (dA 0, 9, .inl (upd (upd (upd (upd (upd (upd (upd (upd (fun _ => 0) (Int32.toNatClampNeg 0) 3) (Int32.toNatClampNeg 1) 100) (Int32.toNatClampNeg 2) 6) (Int32.toNatClampNeg 3) 5) (Int32.toNatClampNeg 4) 5) (Int32.toNatClampNeg 5) 6) (Int32.toNatClampNeg 6) 1) (Int32.toNatClampNeg 7) 2)))] H := hP
  have hD := gzd hP hD
  refine lv_dup hx hb dX7_init_46 rfl ?_
  refine lv_bipush (v := 8) hx hb dX7_init_47 (by decide) ?_
  refine lv_iconst (v := 0) hx hb dX7_init_49 (by decide) ?_
  refine va_iast hx hb hK.1 hP hD hS 1 0 rfl rfl (okI_in (by decide)) dX7_init_50 (fun H locs hP hD hS => ?_)
  have hP : va_P (dC, dI) vwCl [(h0, .inr (7, [.null])), (q7, .inl (dA 0, 9, .inl (upd (upd (upd (upd (upd (upd (upd (upd (upd (fun _ => 0) (Int32.toNatClampNeg 0) 3) (Int32.toNatClampNeg 1) 100) (Int32.toNatClampNeg 2) 6) (Int32.toNatClampNeg 3) 5) (Int32.toNatClampNeg 4) 5) (Int32.toNatClampNeg 5) 6) (Int32.toNatClampNeg 6) 1) (Int32.toNatClampNeg 7) 2) (Int32.toNatClampNeg 8) 0)))] H := hP
  have hD := gzd hP hD
  refine va_putF (D := (dC, dI)) (ci := 7) (v := .ref q7) (ty := (.array .int)) (C := RX7) (T := TX7) (N := 1) hx hb hts (fun w h => gw_mem (inX7 w h)) tyX7 tyX7_ok nmX7 hown hK.1 hP hD hS 0 rfl rfl 0 (by decide) (hts _ (gw_mem wfX7_9)) (fun _ h9 => h9) rfl hin rfl (by decide +kernel) rfl rfl (Nat.le_of_ble_eq_true rfl) dX7_init_51 (fun H locs hP hD hS => ?_)
  have hP : va_P (dC, dI) vwCl [(h0, .inr (7, [.ref q7])), (q7, .inl (dA 0, 9, .inl (upd (upd (upd (upd (upd (upd (upd (upd (upd (fun _ => 0) (Int32.toNatClampNeg 0) 3) (Int32.toNatClampNeg 1) 100) (Int32.toNatClampNeg 2) 6) (Int32.toNatClampNeg 3) 5) (Int32.toNatClampNeg 4) 5) (Int32.toNatClampNeg 5) 6) (Int32.toNatClampNeg 6) 1) (Int32.toNatClampNeg 7) 2) (Int32.toNatClampNeg 8) 0)))] H := hP
  have hD := gzd hP hD
  refine W.widen (k := 1) (n := 9) (Nat.le_of_ble_eq_true rfl) (Nat.le_of_ble_eq_true rfl) ?_
  have hP9 : va_P (dC, dI) vwCl (wX7 dA (tb_ad [h0, q7]) (upd (upd (upd (upd (upd (upd (upd (upd (upd (fun _ => 0) (Int32.toNatClampNeg 0) 3) (Int32.toNatClampNeg 1) 100) (Int32.toNatClampNeg 2) 6) (Int32.toNatClampNeg 3) 5) (Int32.toNatClampNeg 4) 5) (Int32.toNatClampNeg 5) 6) (Int32.toNatClampNeg 6) 1) (Int32.toNatClampNeg 7) 2) (Int32.toNatClampNeg 8) 0)) H := gsub (isC := [0, 1]) rfl hP
  have hD9 : va_D A (wX7 dA (tb_ad [h0, q7]) (upd (upd (upd (upd (upd (upd (upd (upd (upd (fun _ => 0) (Int32.toNatClampNeg 0) 3) (Int32.toNatClampNeg 1) 100) (Int32.toNatClampNeg 2) 6) (Int32.toNatClampNeg 3) 5) (Int32.toNatClampNeg 4) 5) (Int32.toNatClampNeg 5) 6) (Int32.toNatClampNeg 6) 1) (Int32.toNatClampNeg 7) 2) (Int32.toNatClampNeg 8) 0)) := gsubD (isC := [0, 1]) rfl (by decide) hD
  exact W.vret hx hb hr (fun t ht _ => ⟨⟨tb_ad [h0, q7], rfl, rfl, by rw [ht]; exact hP9, hD9⟩, hS.F ht⟩) hS.2.2 dX7_init_54
abbrev rmX0_init : Room := { frames := 2, cells := 1, slots := 36, locals := 44 }
set_option maxHeartbeats 4000000 in
set_option maxRecDepth 100000 in
theorem iX0 (l : Launch) (dC : Nat → ClassId) (dI : Nat → Nat → Nat) (dA : Nat → ClassId) (h0 sz : Nat) : Met l yX0_init (wq (Cond.code yX0_init cX0_init 1 none)) rmX0_init (gP [.ref h0] (dC, dI) dA [(h0, .inr (1, [.null]))] sz) (gQn (dC, dI) h0 (fun ad => wX0 dA ad bT0) (va_A [(h0, .inr (1, [.null]))] sz)) 1 36 (va_A [(h0, .inr (1, [.null]))] sz) := by
  refine Met.ofW (cc := cX0_init) (maxL := 1) (ret := none) (by decide) rfl ?_
  intro p e s m args below meth c s₁ B hml hv
  obtain ⟨rfl, hsz, hP, hK, hD0⟩ := hv
  have hx := B.exec
  have hb := B.bytes
  have hr := B.returns
  have hts := atoms_spec (ws := wq (Cond.code yX0_init cX0_init 1 none)) B.pre
  have hown : s.vm.findClass RX0 = some m.cls := findClass_of_methodNamed B.named
  have hlocks := B.notSynchronized
  have hin : meth.name = "<init>" := (name_of_methodNamed B.named B.method).1
  clear B
  subst hsz
  have hD := hD0.self (sz := s.heap.size)
  generalize hAe : va_A [(h0, .inr (1, [.null]))] s.heap.size = A at hD ⊢
  have hA : ∀ q : Nat, s.heap.size ≤ q → A q := fun q h => by rw [← hAe]; exact Or.inr h
  clear hAe hD0
  have hS : va_S A s.heap s.heap [] := va_S.rf
  have hl := lv_entry ([.ref h0]) (n := 1) (Nat.le_of_ble_eq_true rfl)
  rw [lg_entry_eq]
  generalize (lg_sl ([.ref h0]) ++ List.replicate (1 - (lg_sl ([.ref h0])).length) Slot.unset).toArray = ls at hl ⊢
  have hl : lv_has ls 1 [(0, .ref h0)] := hl
  change W p l e rmX0_init s m (([.ref h0] : List Value).toArray) below meth c s.heap [] 0 0 _ _
  refine lv_aload_n hx hb dX0_init_0 rfl (lv_at hl 0 rfl) ?_
  refine W.objInit hx hb hown (hts _ (gw_mem wmX0_3)) (hts _ (gw_mem wi_objinit)) (hts _ (gw_mem wc_objinit)) rfl (by rw [hml]; exact hl.1) rfl dX0_init_1 (Nat.le_of_ble_eq_true rfl) (Nat.le_of_ble_eq_true rfl) ?_
  refine W.eq (g2 := F0 m 4 ls []) rfl ?_
  refine lv_aload_n hx hb dX0_init_4 rfl (lv_at hl 0 rfl) ?_
  refine lv_bipush (v := 36) hx hb dX0_init_5 (by decide) ?_
  refine va_newa (atype := .int) (ty := .int) (a0 := (36, .inl (fun _ => 0))) (N' := 36) hx hb (hts _ (gw_mem wa_int)) rfl hK.1 hP hD hS hA (fun _ => rfl) (by decide) rfl (Nat.le_of_ble_eq_true rfl) (Nat.le_of_ble_eq_true rfl) (Nat.le_of_ble_eq_true rfl) dX0_init_7 (fun q7 cA H hK1 hP hD hS => ?_)
  obtain rfl := gAint hK.1 hK1
  clear hK1
  have hP : va_P (dC, dI) vwCl [(h0, .inr (1, [.null])), (q7, .inl (dA 0, 36, .inl (fun _ => 0)))] H := hP
  have hD := gzd hP hD
  refine va_putF (D := (dC, dI)) (ci := 1) (v := .ref q7) (ty := (.array .int)) (C := RX0) (T := TX0) (N := 1) hx hb hts (fun w h => gw_mem (inX0 w h)) tyX0 tyX0_ok nmX0 hown hK.1 hP hD hS 0 rfl rfl 0 (by decide) (hts _ (gw_mem wfX0_11)) (fun _ h9 => h9) rfl hin rfl (by decide +kernel) rfl rfl (Nat.le_of_ble_eq_true rfl) dX0_init_9 (fun H locs hP hD hS => ?_)
  have hP : va_P (dC, dI) vwCl [(h0, .inr (1, [.ref q7])), (q7, .inl (dA 0, 36, .inl (fun _ => 0)))] H := hP
  have hD := gzd hP hD
  refine lv_aload_n hx hb dX0_init_12 rfl (lv_at hl 0 rfl) ?_
  refine va_get (D := (dC, dI)) (ci := 1) (v := .ref q7) (C := RX0) (T := TX0) (N := 1) hx hb hts (fun w h => gw_mem (inX0 w h)) hown hK.1 hP 0 rfl rfl 0 (by decide) (hts _ (gw_mem wfX0_11)) (fun _ h9 => h9) rfl dX0_init_13 ?_
  refine lv_iconst (v := 0) hx hb dX0_init_16 (by decide) ?_
  refine lv_sipush (v := 10000) hx hb dX0_init_17 (by decide) ?_
  refine va_iast hx hb hK.1 hP hD hS 1 0 rfl rfl (okI_in (by decide)) dX0_init_20 (fun H locs hP hD hS => ?_)
  have hP : va_P (dC, dI) vwCl [(h0, .inr (1, [.ref q7])), (q7, .inl (dA 0, 36, .inl (upd (fun _ => 0) (Int32.toNatClampNeg 0) 10000)))] H := hP
  have hD := gzd hP hD
  refine lv_aload_n hx hb dX0_init_21 rfl (lv_at hl 0 rfl) ?_
  refine va_get (D := (dC, dI)) (ci := 1) (v := .ref q7) (C := RX0) (T := TX0) (N := 1) hx hb hts (fun w h => gw_mem (inX0 w h)) hown hK.1 hP 0 rfl rfl 0 (by decide) (hts _ (gw_mem wfX0_11)) (fun _ h9 => h9) rfl dX0_init_22 ?_
  refine lv_iconst (v := 1) hx hb dX0_init_25 (by decide) ?_
  refine lv_bipush (v := 100) hx hb dX0_init_26 (by decide) ?_
  refine va_iast hx hb hK.1 hP hD hS 1 0 rfl rfl (okI_in (by decide)) dX0_init_28 (fun H locs hP hD hS => ?_)
  have hP : va_P (dC, dI) vwCl [(h0, .inr (1, [.ref q7])), (q7, .inl (dA 0, 36, .inl (upd (upd (fun _ => 0) (Int32.toNatClampNeg 0) 10000) (Int32.toNatClampNeg 1) 100)))] H := hP
  have hD := gzd hP hD
  refine lv_aload_n hx hb dX0_init_29 rfl (lv_at hl 0 rfl) ?_
  refine va_get (D := (dC, dI)) (ci := 1) (v := .ref q7) (C := RX0) (T := TX0) (N := 1) hx hb hts (fun w h => gw_mem (inX0 w h)) hown hK.1 hP 0 rfl rfl 0 (by decide) (hts _ (gw_mem wfX0_11)) (fun _ h9 => h9) rfl dX0_init_30 ?_
  refine lv_iconst (v := 3) hx hb dX0_init_33 (by decide) ?_
  refine lv_bipush (v := 6) hx hb dX0_init_34 (by decide) ?_
  refine va_iast hx hb hK.1 hP hD hS 1 0 rfl rfl (okI_in (by decide)) dX0_init_36 (fun H locs hP hD hS => ?_)
  have hP : va_P (dC, dI) vwCl [(h0, .inr (1, [.ref q7])), (q7, .inl (dA 0, 36, .inl (upd (upd (upd (fun _ => 0) (Int32.toNatClampNeg 0) 10000) (Int32.toNatClampNeg 1) 100) (Int32.toNatClampNeg 3) 6)))] H := hP
  have hD := gzd hP hD
  refine lv_aload_n hx hb dX0_init_37 rfl (lv_at hl 0 rfl) ?_
  refine va_get (D := (dC, dI)) (ci := 1) (v := .ref q7) (C := RX0) (T := TX0) (N := 1) hx hb hts (fun w h => gw_mem (inX0 w h)) hown hK.1 hP 0 rfl rfl 0 (by decide) (hts _ (gw_mem wfX0_11)) (fun _ h9 => h9) rfl dX0_init_38 ?_
  refine lv_iconst (v := 5) hx hb dX0_init_41 (by decide) ?_
  refine lv_iconst (v := 1) hx hb dX0_init_42 (by decide) ?_
  refine va_iast hx hb hK.1 hP hD hS 1 0 rfl rfl (okI_in (by decide)) dX0_init_43 (fun H locs hP hD hS => ?_)
  have hP : va_P (dC, dI) vwCl [(h0, .inr (1, [.ref q7])), (q7, .inl (dA 0, 36, .inl (upd (upd (upd (upd (fun _ => 0) (Int32.toNatClampNeg 0) 10000) (Int32.toNatClampNeg 1) 100) (Int32.toNatClampNeg 3) 6) (Int32.toNatClampNeg 5) 1)))] H := hP
  have hD := gzd hP hD
  refine lv_aload_n hx hb dX0_init_44 rfl (lv_at hl 0 rfl) ?_
  refine lv_bipush (v := 20) hx hb dX0_init_45 (by decide) ?_
  refine gcv (va_runV (As := [.int 20]) (rest := []) ⟨hx, hb, hml, hown, hts⟩ (tX0_dropRights l dC dI dA (tb_ad [h0, q7]) H.size (dr_eq20 (upd (upd (upd (upd (fun _ => 0) (Int32.toNatClampNeg 0) 10000) (Int32.toNatClampNeg 1) 100) (Int32.toNatClampNeg 3) 6) (Int32.toNatClampNeg 5) 1))) (ccX0_X0_dropRights hts ⟨Nat.le_of_ble_eq_true rfl, Nat.le_of_ble_eq_true rfl⟩) (gPreV (ci := 1) (q0 := 0) (ws := wX0 dA (tb_ad [h0, q7]) (upd (upd (upd (upd (fun _ => 0) (Int32.toNatClampNeg 0) 10000) (Int32.toNatClampNeg 1) 100) (Int32.toNatClampNeg 3) 6) (Int32.toNatClampNeg 5) 1)) hP hK hD rfl rfl) rfl rfl hl.1 rfl (lv_room (Nat.le_of_ble_eq_true rfl)) dX0_init_47 ⟨Nat.le_of_ble_eq_true rfl, Nat.le_of_ble_eq_true rfl⟩) hD hS hA (fun H locs hP hD hS => ?_)
  have hP : va_P (dC, dI) vwCl [(h0, .inr (1, [.ref q7])), (q7, .inl (dA 0, 36, .inl (drF 20 (upd (upd (upd (upd (fun _ => 0) (Int32.toNatClampNeg 0) 10000) (Int32.toNatClampNeg 1) 100) (Int32.toNatClampNeg 3) 6) (Int32.toNatClampNeg 5) 1))))] H := hP
  have hD := gzd hP hD
  refine lv_aload_n hx hb dX0_init_50 rfl (lv_at hl 0 rfl) ?_
  refine lv_bipush (v := 30) hx hb dX0_init_51 (by decide) ?_
  refine gcv (va_runV (As := [.int 30]) (rest := []) ⟨hx, hb, hml, hown, hts⟩ (tX0_dropRights l dC dI dA (tb_ad [h0, q7]) H.size (dr_eq30 (drF 20 (upd (upd (upd (upd (fun _ => 0) (Int32.toNatClampNeg 0) 10000) (Int32.toNatClampNeg 1) 100) (Int32.toNatClampNeg 3) 6) (Int32.toNatClampNeg 5) 1)))) (ccX0_X0_dropRights hts ⟨Nat.le_of_ble_eq_true rfl, Nat.le_of_ble_eq_true rfl⟩) (gPreV (ci := 1) (q0 := 0) (ws := wX0 dA (tb_ad [h0, q7]) (drF 20 (upd (upd (upd (upd (fun _ => 0) (Int32.toNatClampNeg 0) 10000) (Int32.toNatClampNeg 1) 100) (Int32.toNatClampNeg 3) 6) (Int32.toNatClampNeg 5) 1))) hP hK hD rfl rfl) rfl rfl hl.1 rfl (lv_room (Nat.le_of_ble_eq_true rfl)) dX0_init_53 ⟨Nat.le_of_ble_eq_true rfl, Nat.le_of_ble_eq_true rfl⟩) hD hS hA (fun H locs hP hD hS => ?_)
  have hP : va_P (dC, dI) vwCl [(h0, .inr (1, [.ref q7])), (q7, .inl (dA 0, 36, .inl (drF 30 (drF 20 (upd (upd (upd (upd (fun _ => 0) (Int32.toNatClampNeg 0) 10000) (Int32.toNatClampNeg 1) 100) (Int32.toNatClampNeg 3) 6) (Int32.toNatClampNeg 5) 1)))))] H := hP
  have hD := gzd hP hD
  refine W.widen (k := 1) (n := 36) (Nat.le_of_ble_eq_true rfl) (Nat.le_of_ble_eq_true rfl) ?_
  have hP9 : va_P (dC, dI) vwCl (wX0 dA (tb_ad [h0, q7]) (drF 30 (drF 20 (upd (upd (upd (upd (fun _ => 0) (Int32.toNatClampNeg 0) 10000) (Int32.toNatClampNeg 1) 100) (Int32.toNatClampNeg 3) 6) (Int32.toNatClampNeg 5) 1)))) H := gsub (isC := [0, 1]) rfl hP
  have hD9 : va_D A (wX0 dA (tb_ad [h0, q7]) (drF 30 (drF 20 (upd (upd (upd (upd (fun _ => 0) (Int32.toNatClampNeg 0) 10000) (Int32.toNatClampNeg 1) 100) (Int32.toNatClampNeg 3) 6) (Int32.toNatClampNeg 5) 1)))) := gsubD (isC := [0, 1]) rfl (by decide) hD
  exact W.vret hx hb hr (fun t ht _ => ⟨⟨tb_ad [h0, q7], rfl, rfl, by rw [ht]; exact hP9, hD9⟩, hS.F ht⟩) hS.2.2 dX0_init_56
abbrev rmX1_init : Room := { frames := 1, cells := 0, slots := 0, locals := 40 }
set_option maxHeartbeats 4000000 in
set_option maxRecDepth 100000 in
theorem iX1 (l : Launch) (dC : Nat → ClassId) (dI : Nat → Nat → Nat) (dA : Nat → ClassId) (h0 sz : Nat) : Met l yX1_init (wq (Cond.code yX1_init cX1_init 1 none)) rmX1_init (gP [.ref h0] (dC, dI) dA [(h0, .inr (2, [.int 0]))] sz) (gQn (dC, dI) h0 (fun ad => wX1 dA ad 0) (va_A [(h0, .inr (2, [.int 0]))] sz)) 0 0 (va_A [(h0, .inr (2, [.int 0]))] sz) := by
  refine Met.ofW (cc := cX1_init) (maxL := 1) (ret := none) (by decide) rfl ?_
  intro p e s m args below meth c s₁ B hml hv
  obtain ⟨rfl, hsz, hP, hK, hD0⟩ := hv
  have hx := B.exec
  have hb := B.bytes
  have hr := B.returns
  have hts := atoms_spec (ws := wq (Cond.code yX1_init cX1_init 1 none)) B.pre
  have hown : s.vm.findClass RX1 = some m.cls := findClass_of_methodNamed B.named
  have hlocks := B.notSynchronized
  have hin : meth.name = "<init>" := (name_of_methodNamed B.named B.method).1
  clear B
  subst hsz
  have hD := hD0.self (sz := s.heap.size)
  generalize hAe : va_A [(h0, .inr (2, [.int 0]))] s.heap.size = A at hD ⊢
  have hA : ∀ q : Nat, s.heap.size ≤ q → A q := fun q h => by rw [← hAe]; exact Or.inr h
  clear hAe hD0
  have hS : va_S A s.heap s.heap [] := va_S.rf
  have hl := lv_entry ([.ref h0]) (n := 1) (Nat.le_of_ble_eq_true rfl)
  rw [lg_entry_eq]
  generalize (lg_sl ([.ref h0]) ++ List.replicate (1 - (lg_sl ([.ref h0])).length) Slot.unset).toArray = ls at hl ⊢
  have hl : lv_has ls 1 [(0, .ref h0)] := hl
  change W p l e rmX1_init s m (([.ref h0] : List Value).toArray) below meth c s.heap [] 0 0 _ _
  refine lv_aload_n hx hb dX1_init_0 rfl (lv_at hl 0 rfl) ?_
  refine W.objInit hx hb hown (hts _ (gw_mem wmX1_3)) (hts _ (gw_mem wi_objinit)) (hts _ (gw_mem wc_objinit)) rfl (by rw [hml]; exact hl.1) rfl dX1_init_1 (Nat.le_of_ble_eq_true rfl) (Nat.le_of_ble_eq_true rfl) ?_
  refine W.eq (g2 := F0 m 4 ls []) rfl ?_
  refine lv_aload_n hx hb dX1_init_4 rfl (lv_at hl 0 rfl) ?_
  refine lv_iconst (v := 0) hx hb dX1_init_5 (by decide) ?_
  refine va_put (D := (dC, dI)) (ci := 2) (v := .int 0) (ty := .int) (C := RX1) (T := TX1) (N := 1) hx hb hts (fun w h => gw_mem (inX1 w h)) tyX1 tyX1_ok nmX1 hown hK.1 hP hD hS 0 rfl rfl 0 (by decide) (hts _ (gw_mem wfX1_9)) (fun _ h9 => h9) rfl (by decide +kernel) rfl rfl (Nat.le_of_ble_eq_true rfl) dX1_init_6 (fun H locs hP hD hS => ?_)
  have hP : va_P (dC, dI) vwCl [(h0, .inr (2, [.int 0]))] H := hP
  have hD := gzd hP hD
  refine W.widen (k := 0) (n := 0) (Nat.le_of_ble_eq_true rfl) (Nat.le_of_ble_eq_true rfl) ?_
  have hP9 : va_P (dC, dI) vwCl (wX1 dA (tb_ad [h0]) 0) H := gsub (isC := [0]) rfl hP
  have hD9 : va_D A (wX1 dA (tb_ad [h0]) 0) := gsubD (isC := [0]) rfl (by decide) hD
  exact W.vret hx hb hr (fun t ht _ => ⟨⟨tb_ad [h0], rfl, rfl, by rw [ht]; exact hP9, hD9⟩, hS.F ht⟩) hS.2.2 dX1_init_9
abbrev rmX3_init : Room := { frames := 3, cells := 4, slots := 47, locals := 64 }
set_option maxHeartbeats 4000000 in
set_option maxRecDepth 100000 in
theorem iX3 (l : Launch) (dC : Nat → ClassId) (dI : Nat → Nat → Nat) (dA : Nat → ClassId) (h0 sz : Nat) : Met l yX3_init (wq (Cond.code yX3_init cX3_init 1 none)) rmX3_init (gP [.ref h0] (dC, dI) dA [(h0, .inr (3, [.null, .null, .int 0, .int 0, .int 0, .long 0, .long 0]))] sz) (gQn (dC, dI) h0 (fun ad => wX3 dA ad 0 0 1 0 0 tP0 bT0) (va_A [(h0, .inr (3, [.null, .null, .int 0, .int 0, .int 0, .long 0, .long 0]))] sz)) 4 47 (va_A [(h0, .inr (3, [.null, .null, .int 0, .int 0, .int 0, .long 0, .long 0]))] sz) := by
  refine Met.ofW (cc := cX3_init) (maxL := 1) (ret := none) (by decide) rfl ?_
  intro p e s m args below meth c s₁ B hml hv
  obtain ⟨rfl, hsz, hP, hK, hD0⟩ := hv
  have hx := B.exec
  have hb := B.bytes
  have hr := B.returns
  have hts := atoms_spec (ws := wq (Cond.code yX3_init cX3_init 1 none)) B.pre
  have hown : s.vm.findClass RX3 = some m.cls := findClass_of_methodNamed B.named
  have hlocks := B.notSynchronized
  have hin : meth.name = "<init>" := (name_of_methodNamed B.named B.method).1
  clear B
  subst hsz
  have hD := hD0.self (sz := s.heap.size)
  generalize hAe : va_A [(h0, .inr (3, [.null, .null, .int 0, .int 0, .int 0, .long 0, .long 0]))] s.heap.size = A at hD ⊢
  have hA : ∀ q : Nat, s.heap.size ≤ q → A q := fun q h => by rw [← hAe]; exact Or.inr h
  clear hAe hD0
  have hS : va_S A s.heap s.heap [] := va_S.rf
  have hl := lv_entry ([.ref h0]) (n := 1) (Nat.le_of_ble_eq_true rfl)
  rw [lg_entry_eq]
  generalize (lg_sl ([.ref h0]) ++ List.replicate (1 - (lg_sl ([.ref h0])).length) Slot.unset).toArray = ls at hl ⊢
  have hl : lv_has ls 1 [(0, .ref h0)] := hl
  change W p l e rmX3_init s m (([.ref h0] : List Value).toArray) below meth c s.heap [] 0 0 _ _
  refine lv_aload_n hx hb dX3_init_0 rfl (lv_at hl 0 rfl) ?_
  refine W.objInit hx hb hown (hts _ (gw_mem wmX3_3)) (hts _ (gw_mem wi_objinit)) (hts _ (gw_mem wc_objinit)) rfl (by rw [hml]; exact hl.1) rfl dX3_init_1 (Nat.le_of_ble_eq_true rfl) (Nat.le_of_ble_eq_true rfl) ?_
  refine W.eq (g2 := F0 m 4 ls []) rfl ?_
  refine lv_aload_n hx hb dX3_init_4 rfl (lv_at hl 0 rfl) ?_
  refine va_new (ci := 7) (fs := [.null]) (C := RX7) (T := TX7) (N := 1) hx hb hts (fun w h => gw_mem (inX7 w h)) tyX7 tyX7_ok hown (hts _ (gw_mem wjX3_9)) (hts _ (gw_mem wbX7)) (hts _ (gw_mem wnX7)) hK.1 hP hD hS hA rfl (fun j hj => by match j, hj with | 0, _ => rfl | n + 1, h => exact absurd h (Nat.not_lt.mpr (Nat.le_add_left _ n))) (Nat.le_of_ble_eq_true rfl) (Nat.le_of_ble_eq_true rfl) dX3_init_5 (fun q5 H hP hD hS => ?_)
  have hP : va_P (dC, dI) vwCl [(h0, .inr (3, [.null, .null, .int 0, .int 0, .int 0, .long 0, .long 0])), (q5, .inr (7, [.null]))] H := hP
  have hD := gzd hP hD
  refine lv_dup hx hb dX3_init_8 rfl ?_
  have z9 := gzr (wc := [(q5, .inr (7, [.null]))]) hP [1] rfl
  have hSo := hS
  have hFr := va_free (wc := [(q5, .inr (7, [.null]))]) hD hS hA [1] z9
  refine va_callv (va_runIN (As := []) (rest := [.ref q5, .ref h0]) ⟨hx, hb, hml, hown, hts⟩ (iX7 l dC dI dA q5 H.size) (gCINN 0 hK.2 hts wcX7_init wmX3_11 wiX7_init wnX7 rfl (by decide +kernel) rfl rfl ⟨Nat.le_of_ble_eq_true rfl, Nat.le_of_ble_eq_true rfl⟩) (gPreS (gsub z9 hP) hK (gsubD z9 (by decide) hD)) rfl rfl hl.1 rfl (lv_room (Nat.le_of_ble_eq_true rfl)) dX3_init_9 ⟨Nat.le_of_ble_eq_true rfl, Nat.le_of_ble_eq_true rfl⟩) hS (fun q _ h => hFr q h) hFr (fun a9 t H1 locs ht hvm hw hB hz hk hS => ?_)
  replace hw : a9 0 = q5 := hw
  subst hw
  obtain ⟨hP, hD⟩ := gjn (w1 := wX7 dA a9 tP0) (wf := [(h0, .inr (3, [.null, .null, .int 0, .int 0, .int 0, .long 0, .long 0])), ((a9 0), .inr (7, [.ref (a9 1)])), ((a9 1), .inl (dA 0, 9, .inl tP0))]) 1 hP hD hSo hA rfl rfl hk (by rw [← ht]; exact hB.1) hB.2
  clear hSo hFr hk hB hz
  generalize H1 = H at *
  have hP : va_P (dC, dI) vwCl [(h0, .inr (3, [.null, .null, .int 0, .int 0, .int 0, .long 0, .long 0])), ((a9 0), .inr (7, [.ref (a9 1)])), ((a9 1), .inl (dA 0, 9, .inl tP0))] H := hP
  have hD := gzd hP hD
  refine va_putF (D := (dC, dI)) (ci := 3) (v := .ref (a9 0)) (ty := (.object "TurnedBonds$Tree")) (C := RX3) (T := TX3) (N := 7) hx hb hts (fun w h => gw_mem (inX3 w h)) tyX3 tyX3_ok nmX3 hown hK.1 hP hD hS 0 rfl rfl 0 (by decide) (hts _ (gw_mem wfX3_12)) (fun _ h9 => h9) rfl hin rfl (by decide +kernel) rfl rfl (Nat.le_of_ble_eq_true rfl) dX3_init_12 (fun H locs hP hD hS => ?_)
  have hP : va_P (dC, dI) vwCl [(h0, .inr (3, [.ref (a9 0), .null, .int 0, .int 0, .int 0, .long 0, .long 0])), ((a9 0), .inr (7, [.ref (a9 1)])), ((a9 1), .inl (dA 0, 9, .inl tP0))] H := hP
  have hD := gzd hP hD
  refine lv_aload_n hx hb dX3_init_15 rfl (lv_at hl 0 rfl) ?_
  refine va_new (ci := 1) (fs := [.null]) (C := RX0) (T := TX0) (N := 1) hx hb hts (fun w h => gw_mem (inX0 w h)) tyX0 tyX0_ok hown (hts _ (gw_mem wjX3_18)) (hts _ (gw_mem wbX0)) (hts _ (gw_mem wnX0)) hK.1 hP hD hS hA rfl (fun j hj => by match j, hj with | 0, _ => rfl | n + 1, h => exact absurd h (Nat.not_lt.mpr (Nat.le_add_left _ n))) (Nat.le_of_ble_eq_true rfl) (Nat.le_of_ble_eq_true rfl) dX3_init_16 (fun q16 H hP hD hS => ?_)
  have hP : va_P (dC, dI) vwCl [(h0, .inr (3, [.ref (a9 0), .null, .int 0, .int 0, .int 0, .long 0, .long 0])), ((a9 0), .inr (7, [.ref (a9 1)])), ((a9 1), .inl (dA 0, 9, .inl tP0)), (q16, .inr (1, [.null]))] H := hP
  have hD := gzd hP hD
  refine lv_dup hx hb dX3_init_19 rfl ?_
  have z20 := gzr (wc := [(q16, .inr (1, [.null]))]) hP [3] rfl
  have hSo := hS
  have hFr := va_free (wc := [(q16, .inr (1, [.null]))]) hD hS hA [3] z20
  refine va_callv (va_runI (As := []) (rest := [.ref q16, .ref h0]) ⟨hx, hb, hml, hown, hts⟩ (iX0 l dC dI dA q16 H.size) (gCIN 0 hts wcX0_init wmX3_20 wiX0_init wnX0 rfl (by decide +kernel) rfl rfl ⟨Nat.le_of_ble_eq_true rfl, Nat.le_of_ble_eq_true rfl⟩) (gPreS (gsub z20 hP) hK (gsubD z20 (by decide) hD)) rfl rfl hl.1 rfl (lv_room (Nat.le_of_ble_eq_true rfl)) dX3_init_20 ⟨Nat.le_of_ble_eq_true rfl, Nat.le_of_ble_eq_true rfl⟩) hS (fun q _ h => hFr q h) hFr (fun a20 t H1 locs ht hvm hw hB hz hk hS => ?_)
  replace hw : a20 0 = q16 := hw
  subst hw
  obtain ⟨hP, hD⟩ := gjn (w1 := wX0 dA a20 bT0) (wf := [(h0, .inr (3, [.ref (a9 0), .null, .int 0, .int 0, .int 0, .long 0, .long 0])), ((a9 0), .inr (7, [.ref (a9 1)])), ((a9 1), .inl (dA 0, 9, .inl tP0)), ((a20 0), .inr (1, [.ref (a20 1)])), ((a20 1), .inl (dA 0, 36, .inl bT0))]) 3 hP hD hSo hA rfl rfl hk (by rw [← ht]; exact hB.1) hB.2
  clear hSo hFr hk hB hz
  generalize H1 = H at *
  have hP : va_P (dC, dI) vwCl [(h0, .inr (3, [.ref (a9 0), .null, .int 0, .int 0, .int 0, .long 0, .long 0])), ((a9 0), .inr (7, [.ref (a9 1)])), ((a9 1), .inl (dA 0, 9, .inl tP0)), ((a20 0), .inr (1, [.ref (a20 1)])), ((a20 1), .inl (dA 0, 36, .inl bT0))] H := hP
  have hD := gzd hP hD
  refine va_putF (D := (dC, dI)) (ci := 3) (v := .ref (a20 0)) (ty := (.object "TurnedBonds$Bond")) (C := RX3) (T := TX3) (N := 7) hx hb hts (fun w h => gw_mem (inX3 w h)) tyX3 tyX3_ok nmX3 hown hK.1 hP hD hS 0 rfl rfl 1 (by decide) (hts _ (gw_mem wfX3_21)) (fun _ h9 => h9) rfl hin rfl (by decide +kernel) rfl rfl (Nat.le_of_ble_eq_true rfl) dX3_init_23 (fun H locs hP hD hS => ?_)
  have hP : va_P (dC, dI) vwCl [(h0, .inr (3, [.ref (a9 0), .ref (a20 0), .int 0, .int 0, .int 0, .long 0, .long 0])), ((a9 0), .inr (7, [.ref (a9 1)])), ((a9 1), .inl (dA 0, 9, .inl tP0)), ((a20 0), .inr (1, [.ref (a20 1)])), ((a20 1), .inl (dA 0, 36, .inl bT0))] H := hP
  have hD := gzd hP hD
  refine lv_aload_n hx hb dX3_init_26 rfl (lv_at hl 0 rfl) ?_
  refine lv_iconst (v := 0) hx hb dX3_init_27 (by decide) ?_
  refine va_put (D := (dC, dI)) (ci := 3) (v := .int 0) (ty := .boolean) (C := RX3) (T := TX3) (N := 7) hx hb hts (fun w h => gw_mem (inX3 w h)) tyX3 tyX3_ok nmX3 hown hK.1 hP hD hS 0 rfl rfl 2 (by decide) (hts _ (gw_mem wfX3_25)) (fun _ h9 => h9) rfl (by decide +kernel) rfl rfl (Nat.le_of_ble_eq_true rfl) dX3_init_28 (fun H locs hP hD hS => ?_)
  have hP : va_P (dC, dI) vwCl [(h0, .inr (3, [.ref (a9 0), .ref (a20 0), .int 0, .int 0, .int 0, .long 0, .long 0])), ((a9 0), .inr (7, [.ref (a9 1)])), ((a9 1), .inl (dA 0, 9, .inl tP0)), ((a20 0), .inr (1, [.ref (a20 1)])), ((a20 1), .inl (dA 0, 36, .inl bT0))] H := hP
  have hD := gzd hP hD
  refine lv_aload_n hx hb dX3_init_31 rfl (lv_at hl 0 rfl) ?_
  refine lv_iconst (v := 0) hx hb dX3_init_32 (by decide) ?_
  refine va_put (D := (dC, dI)) (ci := 3) (v := .int 0) (ty := .boolean) (C := RX3) (T := TX3) (N := 7) hx hb hts (fun w h => gw_mem (inX3 w h)) tyX3 tyX3_ok nmX3 hown hK.1 hP hD hS 0 rfl rfl 3 (by decide) (hts _ (gw_mem wfX3_29)) (fun _ h9 => h9) rfl (by decide +kernel) rfl rfl (Nat.le_of_ble_eq_true rfl) dX3_init_33 (fun H locs hP hD hS => ?_)
  have hP : va_P (dC, dI) vwCl [(h0, .inr (3, [.ref (a9 0), .ref (a20 0), .int 0, .int 0, .int 0, .long 0, .long 0])), ((a9 0), .inr (7, [.ref (a9 1)])), ((a9 1), .inl (dA 0, 9, .inl tP0)), ((a20 0), .inr (1, [.ref (a20 1)])), ((a20 1), .inl (dA 0, 36, .inl bT0))] H := hP
  have hD := gzd hP hD
  refine lv_aload_n hx hb dX3_init_36 rfl (lv_at hl 0 rfl) ?_
  refine lv_iconst (v := 1) hx hb dX3_init_37 (by decide) ?_
  refine va_put (D := (dC, dI)) (ci := 3) (v := .int 1) (ty := .int) (C := RX3) (T := TX3) (N := 7) hx hb hts (fun w h => gw_mem (inX3 w h)) tyX3 tyX3_ok nmX3 hown hK.1 hP hD hS 0 rfl rfl 4 (by decide) (hts _ (gw_mem wfX3_32)) (fun _ h9 => h9) rfl (by decide +kernel) rfl rfl (Nat.le_of_ble_eq_true rfl) dX3_init_38 (fun H locs hP hD hS => ?_)
  have hP : va_P (dC, dI) vwCl [(h0, .inr (3, [.ref (a9 0), .ref (a20 0), .int 0, .int 0, .int 1, .long 0, .long 0])), ((a9 0), .inr (7, [.ref (a9 1)])), ((a9 1), .inl (dA 0, 9, .inl tP0)), ((a20 0), .inr (1, [.ref (a20 1)])), ((a20 1), .inl (dA 0, 36, .inl bT0))] H := hP
  have hD := gzd hP hD
  refine lv_aload_n hx hb dX3_init_41 rfl (lv_at hl 0 rfl) ?_
  refine lv_lconst (v := 0) hx hb dX3_init_42 rfl ?_
  refine va_put (D := (dC, dI)) (ci := 3) (v := .long 0) (ty := .long) (C := RX3) (T := TX3) (N := 7) hx hb hts (fun w h => gw_mem (inX3 w h)) tyX3 tyX3_ok nmX3 hown hK.1 hP hD hS 0 rfl rfl 5 (by decide) (hts _ (gw_mem wfX3_36)) (fun _ h9 => h9) rfl (by decide +kernel) rfl rfl (Nat.le_of_ble_eq_true rfl) dX3_init_43 (fun H locs hP hD hS => ?_)
  have hP : va_P (dC, dI) vwCl [(h0, .inr (3, [.ref (a9 0), .ref (a20 0), .int 0, .int 0, .int 1, .long 0, .long 0])), ((a9 0), .inr (7, [.ref (a9 1)])), ((a9 1), .inl (dA 0, 9, .inl tP0)), ((a20 0), .inr (1, [.ref (a20 1)])), ((a20 1), .inl (dA 0, 36, .inl bT0))] H := hP
  have hD := gzd hP hD
  refine lv_aload_n hx hb dX3_init_46 rfl (lv_at hl 0 rfl) ?_
  refine lv_lconst (v := 0) hx hb dX3_init_47 rfl ?_
  refine va_put (D := (dC, dI)) (ci := 3) (v := .long 0) (ty := .long) (C := RX3) (T := TX3) (N := 7) hx hb hts (fun w h => gw_mem (inX3 w h)) tyX3 tyX3_ok nmX3 hown hK.1 hP hD hS 0 rfl rfl 6 (by decide) (hts _ (gw_mem wfX3_40)) (fun _ h9 => h9) rfl (by decide +kernel) rfl rfl (Nat.le_of_ble_eq_true rfl) dX3_init_48 (fun H locs hP hD hS => ?_)
  have hP : va_P (dC, dI) vwCl [(h0, .inr (3, [.ref (a9 0), .ref (a20 0), .int 0, .int 0, .int 1, .long 0, .long 0])), ((a9 0), .inr (7, [.ref (a9 1)])), ((a9 1), .inl (dA 0, 9, .inl tP0)), ((a20 0), .inr (1, [.ref (a20 1)])), ((a20 1), .inl (dA 0, 36, .inl bT0))] H := hP
  have hD := gzd hP hD
  refine W.widen (k := 4) (n := 47) (Nat.le_of_ble_eq_true rfl) (Nat.le_of_ble_eq_true rfl) ?_
  have hP9 : va_P (dC, dI) vwCl (wX3 dA (tb_ad [h0, (a9 0), (a9 1), (a20 0), (a20 1)]) 0 0 1 0 0 tP0 bT0) H := gsub (isC := [0, 1, 2, 3, 4]) rfl hP
  have hD9 : va_D A (wX3 dA (tb_ad [h0, (a9 0), (a9 1), (a20 0), (a20 1)]) 0 0 1 0 0 tP0 bT0) := gsubD (isC := [0, 1, 2, 3, 4]) rfl (by decide) hD
  exact W.vret hx hb hr (fun t ht _ => ⟨⟨tb_ad [h0, (a9 0), (a9 1), (a20 0), (a20 1)], rfl, rfl, by rw [ht]; exact hP9, hD9⟩, hS.F ht⟩) hS.2.2 dX3_init_51
abbrev rmX4_init : Room := { frames := 4, cells := 14, slots := 178, locals := 84 }
set_option maxHeartbeats 4000000 in
set_option maxRecDepth 100000 in
theorem iX4 (l : Launch) (dC : Nat → ClassId) (dI : Nat → Nat → Nat) (dA : Nat → ClassId) (h0 sz : Nat) : Met l yX4_init (wq (Cond.code yX4_init cX4_init 1 none)) rmX4_init (gPE [.ref h0] (dC, dI) dA [(h0, .inr (4, [.null, .null, .null, .int 0]))] sz) (gQn (dC, dI) h0 (fun ad => wX4 dA ad 1 tP0 bT0 bT0 bT0 0 0 1 0 0 tP0 bT0) (va_A [(h0, .inr (4, [.null, .null, .null, .int 0]))] sz)) 14 178 (va_A [(h0, .inr (4, [.null, .null, .null, .int 0]))] sz) := by
  refine Met.ofW (cc := cX4_init) (maxL := 1) (ret := none) (by decide) rfl ?_
  intro p e s m args below meth c s₁ B hml hv
  obtain ⟨rfl, hsz, hP, hK, hE, hD0⟩ := hv
  have hx := B.exec
  have hb := B.bytes
  have hr := B.returns
  have hts := atoms_spec (ws := wq (Cond.code yX4_init cX4_init 1 none)) B.pre
  have hown : s.vm.findClass RX4 = some m.cls := findClass_of_methodNamed B.named
  have hlocks := B.notSynchronized
  have hin : meth.name = "<init>" := (name_of_methodNamed B.named B.method).1
  clear B
  subst hsz
  have hD := hD0.self (sz := s.heap.size)
  generalize hAe : va_A [(h0, .inr (4, [.null, .null, .null, .int 0]))] s.heap.size = A at hD ⊢
  have hA : ∀ q : Nat, s.heap.size ≤ q → A q := fun q h => by rw [← hAe]; exact Or.inr h
  clear hAe hD0
  have hS : va_S A s.heap s.heap [] := va_S.rf
  have hl := lv_entry ([.ref h0]) (n := 1) (Nat.le_of_ble_eq_true rfl)
  rw [lg_entry_eq]
  generalize (lg_sl ([.ref h0]) ++ List.replicate (1 - (lg_sl ([.ref h0])).length) Slot.unset).toArray = ls at hl ⊢
  have hl : lv_has ls 1 [(0, .ref h0)] := hl
  change W p l e rmX4_init s m (([.ref h0] : List Value).toArray) below meth c s.heap [] 0 0 _ _
  refine lv_aload_n hx hb dX4_init_0 rfl (lv_at hl 0 rfl) ?_
  refine W.objInit hx hb hown (hts _ (gw_mem wmX4_3)) (hts _ (gw_mem wi_objinit)) (hts _ (gw_mem wc_objinit)) rfl (by rw [hml]; exact hl.1) rfl dX4_init_1 (Nat.le_of_ble_eq_true rfl) (Nat.le_of_ble_eq_true rfl) ?_
  refine W.eq (g2 := F0 m 4 ls []) rfl ?_
  refine lv_aload_n hx hb dX4_init_4 rfl (lv_at hl 0 rfl) ?_
  refine va_new (ci := 7) (fs := [.null]) (C := RX7) (T := TX7) (N := 1) hx hb hts (fun w h => gw_mem (inX7 w h)) tyX7 tyX7_ok hown (hts _ (gw_mem wjX4_9)) (hts _ (gw_mem wbX7)) (hts _ (gw_mem wnX7)) hK.1 hP hD hS hA rfl (fun j hj => by match j, hj with | 0, _ => rfl | n + 1, h => exact absurd h (Nat.not_lt.mpr (Nat.le_add_left _ n))) (Nat.le_of_ble_eq_true rfl) (Nat.le_of_ble_eq_true rfl) dX4_init_5 (fun q5 H hP hD hS => ?_)
  have hP : va_P (dC, dI) vwCl [(h0, .inr (4, [.null, .null, .null, .int 0])), (q5, .inr (7, [.null]))] H := hP
  have hD := gzd hP hD
  refine lv_dup hx hb dX4_init_8 rfl ?_
  have z9 := gzr (wc := [(q5, .inr (7, [.null]))]) hP [1] rfl
  have hSo := hS
  have hFr := va_free (wc := [(q5, .inr (7, [.null]))]) hD hS hA [1] z9
  refine va_callv (va_runIN (As := []) (rest := [.ref q5, .ref h0]) ⟨hx, hb, hml, hown, hts⟩ (iX7 l dC dI dA q5 H.size) (gCINN 0 hK.2 hts wcX7_init wmX4_11 wiX7_init wnX7 rfl (by decide +kernel) rfl rfl ⟨Nat.le_of_ble_eq_true rfl, Nat.le_of_ble_eq_true rfl⟩) (gPreS (gsub z9 hP) hK (gsubD z9 (by decide) hD)) rfl rfl hl.1 rfl (lv_room (Nat.le_of_ble_eq_true rfl)) dX4_init_9 ⟨Nat.le_of_ble_eq_true rfl, Nat.le_of_ble_eq_true rfl⟩) hS (fun q _ h => hFr q h) hFr (fun a9 t H1 locs ht hvm hw hB hz hk hS => ?_)
  replace hw : a9 0 = q5 := hw
  subst hw
  obtain ⟨hP, hD⟩ := gjn (w1 := wX7 dA a9 tP0) (wf := [(h0, .inr (4, [.null, .null, .null, .int 0])), ((a9 0), .inr (7, [.ref (a9 1)])), ((a9 1), .inl (dA 0, 9, .inl tP0))]) 1 hP hD hSo hA rfl rfl hk (by rw [← ht]; exact hB.1) hB.2
  clear hSo hFr hk hB hz
  generalize H1 = H at *
  have hP : va_P (dC, dI) vwCl [(h0, .inr (4, [.null, .null, .null, .int 0])), ((a9 0), .inr (7, [.ref (a9 1)])), ((a9 1), .inl (dA 0, 9, .inl tP0))] H := hP
  have hD := gzd hP hD
  refine va_putF (D := (dC, dI)) (ci := 4) (v := .ref (a9 0)) (ty := (.object "TurnedBonds$Tree")) (C := RX4) (T := TX4) (N := 4) hx hb hts (fun w h => gw_mem (inX4 w h)) tyX4 tyX4_ok nmX4 hown hK.1 hP hD hS 0 rfl rfl 0 (by decide) (hts _ (gw_mem wfX4_12)) (fun _ h9 => h9) rfl hin rfl (by decide +kernel) rfl rfl (Nat.le_of_ble_eq_true rfl) dX4_init_12 (fun H locs hP hD hS => ?_)
  have hP : va_P (dC, dI) vwCl [(h0, .inr (4, [.ref (a9 0), .null, .null, .int 0])), ((a9 0), .inr (7, [.ref (a9 1)])), ((a9 1), .inl (dA 0, 9, .inl tP0))] H := hP
  have hD := gzd hP hD
  refine lv_aload_n hx hb dX4_init_15 rfl (lv_at hl 0 rfl) ?_
  refine lv_iconst (v := 3) hx hb dX4_init_16 (by decide) ?_
  refine va_newq (C := "TurnedBonds$Bond") (N' := 3) hx hb hown (hts _ (gw_mem wjX4_18)) hE.1 hK.1 hP hD hS hA (by decide) rfl (Nat.le_of_ble_eq_true rfl) (Nat.le_of_ble_eq_true rfl) (Nat.le_of_ble_eq_true rfl) dX4_init_17 (fun q17 cA H hK1 hP hD hS => ?_)
  obtain rfl := gABond hK.1 hK1
  clear hK1
  have hP : va_P (dC, dI) vwCl [(h0, .inr (4, [.ref (a9 0), .null, .null, .int 0])), ((a9 0), .inr (7, [.ref (a9 1)])), ((a9 1), .inl (dA 0, 9, .inl tP0)), (q17, .inl (dA 3, 3, .inr (.inr (.inr (.inr (fun _ => none))))))] H := hP
  have hD := gzd hP hD
  refine lv_dup hx hb dX4_init_20 rfl ?_
  refine lv_iconst (v := 0) hx hb dX4_init_21 (by decide) ?_
  refine va_new (ci := 1) (fs := [.null]) (C := RX0) (T := TX0) (N := 1) hx hb hts (fun w h => gw_mem (inX0 w h)) tyX0 tyX0_ok hown (hts _ (gw_mem wjX4_18)) (hts _ (gw_mem wbX0)) (hts _ (gw_mem wnX0)) hK.1 hP hD hS hA rfl (fun j hj => by match j, hj with | 0, _ => rfl | n + 1, h => exact absurd h (Nat.not_lt.mpr (Nat.le_add_left _ n))) (Nat.le_of_ble_eq_true rfl) (Nat.le_of_ble_eq_true rfl) dX4_init_22 (fun q22 H hP hD hS => ?_)
  have hP : va_P (dC, dI) vwCl [(h0, .inr (4, [.ref (a9 0), .null, .null, .int 0])), ((a9 0), .inr (7, [.ref (a9 1)])), ((a9 1), .inl (dA 0, 9, .inl tP0)), (q17, .inl (dA 3, 3, .inr (.inr (.inr (.inr (fun _ => none)))))), (q22, .inr (1, [.null]))] H := hP
  have hD := gzd hP hD
  refine lv_dup hx hb dX4_init_25 rfl ?_
  have z26 := gzr (wc := [(q22, .inr (1, [.null]))]) hP [4] rfl
  have hSo := hS
  have hFr := va_free (wc := [(q22, .inr (1, [.null]))]) hD hS hA [4] z26
  refine va_callv (va_runI (As := []) (rest := [.ref q22, .int 0, .ref q17, .ref q17, .ref h0]) ⟨hx, hb, hml, hown, hts⟩ (iX0 l dC dI dA q22 H.size) (gCIN 0 hts wcX0_init wmX4_20 wiX0_init wnX0 rfl (by decide +kernel) rfl rfl ⟨Nat.le_of_ble_eq_true rfl, Nat.le_of_ble_eq_true rfl⟩) (gPreS (gsub z26 hP) hK (gsubD z26 (by decide) hD)) rfl rfl hl.1 rfl (lv_room (Nat.le_of_ble_eq_true rfl)) dX4_init_26 ⟨Nat.le_of_ble_eq_true rfl, Nat.le_of_ble_eq_true rfl⟩) hS (fun q _ h => hFr q h) hFr (fun a26 t H1 locs ht hvm hw hB hz hk hS => ?_)
  replace hw : a26 0 = q22 := hw
  subst hw
  obtain ⟨hP, hD⟩ := gjn (w1 := wX0 dA a26 bT0) (wf := [(h0, .inr (4, [.ref (a9 0), .null, .null, .int 0])), ((a9 0), .inr (7, [.ref (a9 1)])), ((a9 1), .inl (dA 0, 9, .inl tP0)), (q17, .inl (dA 3, 3, .inr (.inr (.inr (.inr (fun _ => none)))))), ((a26 0), .inr (1, [.ref (a26 1)])), ((a26 1), .inl (dA 0, 36, .inl bT0))]) 4 hP hD hSo hA rfl rfl hk (by rw [← ht]; exact hB.1) hB.2
  clear hSo hFr hk hB hz
  generalize H1 = H at *
  have hP : va_P (dC, dI) vwCl [(h0, .inr (4, [.ref (a9 0), .null, .null, .int 0])), ((a9 0), .inr (7, [.ref (a9 1)])), ((a9 1), .inl (dA 0, 9, .inl tP0)), (q17, .inl (dA 3, 3, .inr (.inr (.inr (.inr (fun _ => none)))))), ((a26 0), .inr (1, [.ref (a26 1)])), ((a26 1), .inl (dA 0, 36, .inl bT0))] H := hP
  have hD := gzd hP hD
  refine va_astq hx hb hK.1 hP hD hS 3 3 4 1 rfl rfl rfl rfl (okI_in (by decide)) dX4_init_29 (fun H locs hP hD hS => ?_)
  have hP : va_P (dC, dI) vwCl [(h0, .inr (4, [.ref (a9 0), .null, .null, .int 0])), ((a9 0), .inr (7, [.ref (a9 1)])), ((a9 1), .inl (dA 0, 9, .inl tP0)), (q17, .inl (dA 3, 3, .inr (.inr (.inr (.inr (va_up (fun _ => none) (Int32.toNatClampNeg 0) (some (a26 0)))))))), ((a26 0), .inr (1, [.ref (a26 1)])), ((a26 1), .inl (dA 0, 36, .inl bT0))] H := hP
  have hD := gzd hP hD
  refine lv_dup hx hb dX4_init_30 rfl ?_
  refine lv_iconst (v := 1) hx hb dX4_init_31 (by decide) ?_
  refine va_new (ci := 1) (fs := [.null]) (C := RX0) (T := TX0) (N := 1) hx hb hts (fun w h => gw_mem (inX0 w h)) tyX0 tyX0_ok hown (hts _ (gw_mem wjX4_18)) (hts _ (gw_mem wbX0)) (hts _ (gw_mem wnX0)) hK.1 hP hD hS hA rfl (fun j hj => by match j, hj with | 0, _ => rfl | n + 1, h => exact absurd h (Nat.not_lt.mpr (Nat.le_add_left _ n))) (Nat.le_of_ble_eq_true rfl) (Nat.le_of_ble_eq_true rfl) dX4_init_32 (fun q32 H hP hD hS => ?_)
  have hP : va_P (dC, dI) vwCl [(h0, .inr (4, [.ref (a9 0), .null, .null, .int 0])), ((a9 0), .inr (7, [.ref (a9 1)])), ((a9 1), .inl (dA 0, 9, .inl tP0)), (q17, .inl (dA 3, 3, .inr (.inr (.inr (.inr (va_up (fun _ => none) (Int32.toNatClampNeg 0) (some (a26 0)))))))), ((a26 0), .inr (1, [.ref (a26 1)])), ((a26 1), .inl (dA 0, 36, .inl bT0)), (q32, .inr (1, [.null]))] H := hP
  have hD := gzd hP hD
  refine lv_dup hx hb dX4_init_35 rfl ?_
  have z36 := gzr (wc := [(q32, .inr (1, [.null]))]) hP [6] rfl
  have hSo := hS
  have hFr := va_free (wc := [(q32, .inr (1, [.null]))]) hD hS hA [6] z36
  refine va_callv (va_runI (As := []) (rest := [.ref q32, .int 1, .ref q17, .ref q17, .ref h0]) ⟨hx, hb, hml, hown, hts⟩ (iX0 l dC dI dA q32 H.size) (gCIN 0 hts wcX0_init wmX4_20 wiX0_init wnX0 rfl (by decide +kernel) rfl rfl ⟨Nat.le_of_ble_eq_true rfl, Nat.le_of_ble_eq_true rfl⟩) (gPreS (gsub z36 hP) hK (gsubD z36 (by decide) hD)) rfl rfl hl.1 rfl (lv_room (Nat.le_of_ble_eq_true rfl)) dX4_init_36 ⟨Nat.le_of_ble_eq_true rfl, Nat.le_of_ble_eq_true rfl⟩) hS (fun q _ h => hFr q h) hFr (fun a36 t H1 locs ht hvm hw hB hz hk hS => ?_)
  replace hw : a36 0 = q32 := hw
  subst hw
  obtain ⟨hP, hD⟩ := gjn (w1 := wX0 dA a36 bT0) (wf := [(h0, .inr (4, [.ref (a9 0), .null, .null, .int 0])), ((a9 0), .inr (7, [.ref (a9 1)])), ((a9 1), .inl (dA 0, 9, .inl tP0)), (q17, .inl (dA 3, 3, .inr (.inr (.inr (.inr (va_up (fun _ => none) (Int32.toNatClampNeg 0) (some (a26 0)))))))), ((a26 0), .inr (1, [.ref (a26 1)])), ((a26 1), .inl (dA 0, 36, .inl bT0)), ((a36 0), .inr (1, [.ref (a36 1)])), ((a36 1), .inl (dA 0, 36, .inl bT0))]) 6 hP hD hSo hA rfl rfl hk (by rw [← ht]; exact hB.1) hB.2
  clear hSo hFr hk hB hz
  generalize H1 = H at *
  have hP : va_P (dC, dI) vwCl [(h0, .inr (4, [.ref (a9 0), .null, .null, .int 0])), ((a9 0), .inr (7, [.ref (a9 1)])), ((a9 1), .inl (dA 0, 9, .inl tP0)), (q17, .inl (dA 3, 3, .inr (.inr (.inr (.inr (va_up (fun _ => none) (Int32.toNatClampNeg 0) (some (a26 0)))))))), ((a26 0), .inr (1, [.ref (a26 1)])), ((a26 1), .inl (dA 0, 36, .inl bT0)), ((a36 0), .inr (1, [.ref (a36 1)])), ((a36 1), .inl (dA 0, 36, .inl bT0))] H := hP
  have hD := gzd hP hD
  refine va_astq hx hb hK.1 hP hD hS 3 3 6 1 rfl rfl rfl rfl (okI_in (by decide)) dX4_init_39 (fun H locs hP hD hS => ?_)
  have hP : va_P (dC, dI) vwCl [(h0, .inr (4, [.ref (a9 0), .null, .null, .int 0])), ((a9 0), .inr (7, [.ref (a9 1)])), ((a9 1), .inl (dA 0, 9, .inl tP0)), (q17, .inl (dA 3, 3, .inr (.inr (.inr (.inr (va_up (va_up (fun _ => none) (Int32.toNatClampNeg 0) (some (a26 0))) (Int32.toNatClampNeg 1) (some (a36 0)))))))), ((a26 0), .inr (1, [.ref (a26 1)])), ((a26 1), .inl (dA 0, 36, .inl bT0)), ((a36 0), .inr (1, [.ref (a36 1)])), ((a36 1), .inl (dA 0, 36, .inl bT0))] H := hP
  have hD := gzd hP hD
  refine lv_dup hx hb dX4_init_40 rfl ?_
  refine lv_iconst (v := 2) hx hb dX4_init_41 (by decide) ?_
  refine va_new (ci := 1) (fs := [.null]) (C := RX0) (T := TX0) (N := 1) hx hb hts (fun w h => gw_mem (inX0 w h)) tyX0 tyX0_ok hown (hts _ (gw_mem wjX4_18)) (hts _ (gw_mem wbX0)) (hts _ (gw_mem wnX0)) hK.1 hP hD hS hA rfl (fun j hj => by match j, hj with | 0, _ => rfl | n + 1, h => exact absurd h (Nat.not_lt.mpr (Nat.le_add_left _ n))) (Nat.le_of_ble_eq_true rfl) (Nat.le_of_ble_eq_true rfl) dX4_init_42 (fun q42 H hP hD hS => ?_)
  have hP : va_P (dC, dI) vwCl [(h0, .inr (4, [.ref (a9 0), .null, .null, .int 0])), ((a9 0), .inr (7, [.ref (a9 1)])), ((a9 1), .inl (dA 0, 9, .inl tP0)), (q17, .inl (dA 3, 3, .inr (.inr (.inr (.inr (va_up (va_up (fun _ => none) (Int32.toNatClampNeg 0) (some (a26 0))) (Int32.toNatClampNeg 1) (some (a36 0)))))))), ((a26 0), .inr (1, [.ref (a26 1)])), ((a26 1), .inl (dA 0, 36, .inl bT0)), ((a36 0), .inr (1, [.ref (a36 1)])), ((a36 1), .inl (dA 0, 36, .inl bT0)), (q42, .inr (1, [.null]))] H := hP
  have hD := gzd hP hD
  refine lv_dup hx hb dX4_init_45 rfl ?_
  have z46 := gzr (wc := [(q42, .inr (1, [.null]))]) hP [8] rfl
  have hSo := hS
  have hFr := va_free (wc := [(q42, .inr (1, [.null]))]) hD hS hA [8] z46
  refine va_callv (va_runI (As := []) (rest := [.ref q42, .int 2, .ref q17, .ref q17, .ref h0]) ⟨hx, hb, hml, hown, hts⟩ (iX0 l dC dI dA q42 H.size) (gCIN 0 hts wcX0_init wmX4_20 wiX0_init wnX0 rfl (by decide +kernel) rfl rfl ⟨Nat.le_of_ble_eq_true rfl, Nat.le_of_ble_eq_true rfl⟩) (gPreS (gsub z46 hP) hK (gsubD z46 (by decide) hD)) rfl rfl hl.1 rfl (lv_room (Nat.le_of_ble_eq_true rfl)) dX4_init_46 ⟨Nat.le_of_ble_eq_true rfl, Nat.le_of_ble_eq_true rfl⟩) hS (fun q _ h => hFr q h) hFr (fun a46 t H1 locs ht hvm hw hB hz hk hS => ?_)
  replace hw : a46 0 = q42 := hw
  subst hw
  obtain ⟨hP, hD⟩ := gjn (w1 := wX0 dA a46 bT0) (wf := [(h0, .inr (4, [.ref (a9 0), .null, .null, .int 0])), ((a9 0), .inr (7, [.ref (a9 1)])), ((a9 1), .inl (dA 0, 9, .inl tP0)), (q17, .inl (dA 3, 3, .inr (.inr (.inr (.inr (va_up (va_up (fun _ => none) (Int32.toNatClampNeg 0) (some (a26 0))) (Int32.toNatClampNeg 1) (some (a36 0)))))))), ((a26 0), .inr (1, [.ref (a26 1)])), ((a26 1), .inl (dA 0, 36, .inl bT0)), ((a36 0), .inr (1, [.ref (a36 1)])), ((a36 1), .inl (dA 0, 36, .inl bT0)), ((a46 0), .inr (1, [.ref (a46 1)])), ((a46 1), .inl (dA 0, 36, .inl bT0))]) 8 hP hD hSo hA rfl rfl hk (by rw [← ht]; exact hB.1) hB.2
  clear hSo hFr hk hB hz
  generalize H1 = H at *
  have hP : va_P (dC, dI) vwCl [(h0, .inr (4, [.ref (a9 0), .null, .null, .int 0])), ((a9 0), .inr (7, [.ref (a9 1)])), ((a9 1), .inl (dA 0, 9, .inl tP0)), (q17, .inl (dA 3, 3, .inr (.inr (.inr (.inr (va_up (va_up (fun _ => none) (Int32.toNatClampNeg 0) (some (a26 0))) (Int32.toNatClampNeg 1) (some (a36 0)))))))), ((a26 0), .inr (1, [.ref (a26 1)])), ((a26 1), .inl (dA 0, 36, .inl bT0)), ((a36 0), .inr (1, [.ref (a36 1)])), ((a36 1), .inl (dA 0, 36, .inl bT0)), ((a46 0), .inr (1, [.ref (a46 1)])), ((a46 1), .inl (dA 0, 36, .inl bT0))] H := hP
  have hD := gzd hP hD
  refine va_astq hx hb hK.1 hP hD hS 3 3 8 1 rfl rfl rfl rfl (okI_in (by decide)) dX4_init_49 (fun H locs hP hD hS => ?_)
  have hP : va_P (dC, dI) vwCl [(h0, .inr (4, [.ref (a9 0), .null, .null, .int 0])), ((a9 0), .inr (7, [.ref (a9 1)])), ((a9 1), .inl (dA 0, 9, .inl tP0)), (q17, .inl (dA 3, 3, .inr (.inr (.inr (.inr (va_up (va_up (va_up (fun _ => none) (Int32.toNatClampNeg 0) (some (a26 0))) (Int32.toNatClampNeg 1) (some (a36 0))) (Int32.toNatClampNeg 2) (some (a46 0)))))))), ((a26 0), .inr (1, [.ref (a26 1)])), ((a26 1), .inl (dA 0, 36, .inl bT0)), ((a36 0), .inr (1, [.ref (a36 1)])), ((a36 1), .inl (dA 0, 36, .inl bT0)), ((a46 0), .inr (1, [.ref (a46 1)])), ((a46 1), .inl (dA 0, 36, .inl bT0))] H := hP
  have hD := gzd hP hD
  refine va_putF (D := (dC, dI)) (ci := 4) (v := .ref q17) (ty := (.array (.object "TurnedBonds$Bond"))) (C := RX4) (T := TX4) (N := 4) hx hb hts (fun w h => gw_mem (inX4 w h)) tyX4 tyX4_ok nmX4 hown hK.1 hP hD hS 0 rfl rfl 1 (by decide) (hts _ (gw_mem wfX4_21)) (fun _ h9 => h9) rfl hin rfl (by decide +kernel) rfl rfl (Nat.le_of_ble_eq_true rfl) dX4_init_50 (fun H locs hP hD hS => ?_)
  have hP : va_P (dC, dI) vwCl [(h0, .inr (4, [.ref (a9 0), .ref q17, .null, .int 0])), ((a9 0), .inr (7, [.ref (a9 1)])), ((a9 1), .inl (dA 0, 9, .inl tP0)), (q17, .inl (dA 3, 3, .inr (.inr (.inr (.inr (va_up (va_up (va_up (fun _ => none) (Int32.toNatClampNeg 0) (some (a26 0))) (Int32.toNatClampNeg 1) (some (a36 0))) (Int32.toNatClampNeg 2) (some (a46 0)))))))), ((a26 0), .inr (1, [.ref (a26 1)])), ((a26 1), .inl (dA 0, 36, .inl bT0)), ((a36 0), .inr (1, [.ref (a36 1)])), ((a36 1), .inl (dA 0, 36, .inl bT0)), ((a46 0), .inr (1, [.ref (a46 1)])), ((a46 1), .inl (dA 0, 36, .inl bT0))] H := hP
  have hD := gzd hP hD
  refine lv_aload_n hx hb dX4_init_53 rfl (lv_at hl 0 rfl) ?_
  refine va_new (ci := 3) (fs := [.null, .null, .int 0, .int 0, .int 0, .long 0, .long 0]) (C := RX3) (T := TX3) (N := 7) hx hb hts (fun w h => gw_mem (inX3 w h)) tyX3 tyX3_ok hown (hts _ (gw_mem wjX4_25)) (hts _ (gw_mem wbX3)) (hts _ (gw_mem wnX3)) hK.1 hP hD hS hA rfl (fun j hj => by match j, hj with | 0, _ => rfl | 1, _ => rfl | 2, _ => rfl | 3, _ => rfl | 4, _ => rfl | 5, _ => rfl | 6, _ => rfl | n + 7, h => exact absurd h (Nat.not_lt.mpr (Nat.le_add_left _ n))) (Nat.le_of_ble_eq_true rfl) (Nat.le_of_ble_eq_true rfl) dX4_init_54 (fun q54 H hP hD hS => ?_)
  have hP : va_P (dC, dI) vwCl [(h0, .inr (4, [.ref (a9 0), .ref q17, .null, .int 0])), ((a9 0), .inr (7, [.ref (a9 1)])), ((a9 1), .inl (dA 0, 9, .inl tP0)), (q17, .inl (dA 3, 3, .inr (.inr (.inr (.inr (va_up (va_up (va_up (fun _ => none) (Int32.toNatClampNeg 0) (some (a26 0))) (Int32.toNatClampNeg 1) (some (a36 0))) (Int32.toNatClampNeg 2) (some (a46 0)))))))), ((a26 0), .inr (1, [.ref (a26 1)])), ((a26 1), .inl (dA 0, 36, .inl bT0)), ((a36 0), .inr (1, [.ref (a36 1)])), ((a36 1), .inl (dA 0, 36, .inl bT0)), ((a46 0), .inr (1, [.ref (a46 1)])), ((a46 1), .inl (dA 0, 36, .inl bT0)), (q54, .inr (3, [.null, .null, .int 0, .int 0, .int 0, .long 0, .long 0]))] H := hP
  have hD := gzd hP hD
  refine lv_dup hx hb dX4_init_57 rfl ?_
  have z58 := gzr (wc := [(q54, .inr (3, [.null, .null, .int 0, .int 0, .int 0, .long 0, .long 0]))]) hP [10] rfl
  have hSo := hS
  have hFr := va_free (wc := [(q54, .inr (3, [.null, .null, .int 0, .int 0, .int 0, .long 0, .long 0]))]) hD hS hA [10] z58
  refine va_callv (va_runIN (As := []) (rest := [.ref q54, .ref h0]) ⟨hx, hb, hml, hown, hts⟩ (iX3 l dC dI dA q54 H.size) (gCINN 0 hK.2 hts wcX3_init wmX4_27 wiX3_init wnX3 rfl (by decide +kernel) rfl rfl ⟨Nat.le_of_ble_eq_true rfl, Nat.le_of_ble_eq_true rfl⟩) (gPreS (gsub z58 hP) hK (gsubD z58 (by decide) hD)) rfl rfl hl.1 rfl (lv_room (Nat.le_of_ble_eq_true rfl)) dX4_init_58 ⟨Nat.le_of_ble_eq_true rfl, Nat.le_of_ble_eq_true rfl⟩) hS (fun q _ h => hFr q h) hFr (fun a58 t H1 locs ht hvm hw hB hz hk hS => ?_)
  replace hw : a58 0 = q54 := hw
  subst hw
  obtain ⟨hP, hD⟩ := gjn (w1 := wX3 dA a58 0 0 1 0 0 tP0 bT0) (wf := [(h0, .inr (4, [.ref (a9 0), .ref q17, .null, .int 0])), ((a9 0), .inr (7, [.ref (a9 1)])), ((a9 1), .inl (dA 0, 9, .inl tP0)), (q17, .inl (dA 3, 3, .inr (.inr (.inr (.inr (va_up (va_up (va_up (fun _ => none) (Int32.toNatClampNeg 0) (some (a26 0))) (Int32.toNatClampNeg 1) (some (a36 0))) (Int32.toNatClampNeg 2) (some (a46 0)))))))), ((a26 0), .inr (1, [.ref (a26 1)])), ((a26 1), .inl (dA 0, 36, .inl bT0)), ((a36 0), .inr (1, [.ref (a36 1)])), ((a36 1), .inl (dA 0, 36, .inl bT0)), ((a46 0), .inr (1, [.ref (a46 1)])), ((a46 1), .inl (dA 0, 36, .inl bT0)), ((a58 0), .inr (3, [.ref (a58 1), .ref (a58 3), .int 0, .int 0, .int 1, .long 0, .long 0])), ((a58 1), .inr (7, [.ref (a58 2)])), ((a58 2), .inl (dA 0, 9, .inl tP0)), ((a58 3), .inr (1, [.ref (a58 4)])), ((a58 4), .inl (dA 0, 36, .inl bT0))]) 10 hP hD hSo hA rfl rfl hk (by rw [← ht]; exact hB.1) hB.2
  clear hSo hFr hk hB hz
  generalize H1 = H at *
  have hP : va_P (dC, dI) vwCl [(h0, .inr (4, [.ref (a9 0), .ref q17, .null, .int 0])), ((a9 0), .inr (7, [.ref (a9 1)])), ((a9 1), .inl (dA 0, 9, .inl tP0)), (q17, .inl (dA 3, 3, .inr (.inr (.inr (.inr (va_up (va_up (va_up (fun _ => none) (Int32.toNatClampNeg 0) (some (a26 0))) (Int32.toNatClampNeg 1) (some (a36 0))) (Int32.toNatClampNeg 2) (some (a46 0)))))))), ((a26 0), .inr (1, [.ref (a26 1)])), ((a26 1), .inl (dA 0, 36, .inl bT0)), ((a36 0), .inr (1, [.ref (a36 1)])), ((a36 1), .inl (dA 0, 36, .inl bT0)), ((a46 0), .inr (1, [.ref (a46 1)])), ((a46 1), .inl (dA 0, 36, .inl bT0)), ((a58 0), .inr (3, [.ref (a58 1), .ref (a58 3), .int 0, .int 0, .int 1, .long 0, .long 0])), ((a58 1), .inr (7, [.ref (a58 2)])), ((a58 2), .inl (dA 0, 9, .inl tP0)), ((a58 3), .inr (1, [.ref (a58 4)])), ((a58 4), .inl (dA 0, 36, .inl bT0))] H := hP
  have hD := gzd hP hD
  refine va_putF (D := (dC, dI)) (ci := 4) (v := .ref (a58 0)) (ty := (.object "TurnedBonds$Hand")) (C := RX4) (T := TX4) (N := 4) hx hb hts (fun w h => gw_mem (inX4 w h)) tyX4 tyX4_ok nmX4 hown hK.1 hP hD hS 0 rfl rfl 2 (by decide) (hts _ (gw_mem wfX4_28)) (fun _ h9 => h9) rfl hin rfl (by decide +kernel) rfl rfl (Nat.le_of_ble_eq_true rfl) dX4_init_61 (fun H locs hP hD hS => ?_)
  have hP : va_P (dC, dI) vwCl [(h0, .inr (4, [.ref (a9 0), .ref q17, .ref (a58 0), .int 0])), ((a9 0), .inr (7, [.ref (a9 1)])), ((a9 1), .inl (dA 0, 9, .inl tP0)), (q17, .inl (dA 3, 3, .inr (.inr (.inr (.inr (va_up (va_up (va_up (fun _ => none) (Int32.toNatClampNeg 0) (some (a26 0))) (Int32.toNatClampNeg 1) (some (a36 0))) (Int32.toNatClampNeg 2) (some (a46 0)))))))), ((a26 0), .inr (1, [.ref (a26 1)])), ((a26 1), .inl (dA 0, 36, .inl bT0)), ((a36 0), .inr (1, [.ref (a36 1)])), ((a36 1), .inl (dA 0, 36, .inl bT0)), ((a46 0), .inr (1, [.ref (a46 1)])), ((a46 1), .inl (dA 0, 36, .inl bT0)), ((a58 0), .inr (3, [.ref (a58 1), .ref (a58 3), .int 0, .int 0, .int 1, .long 0, .long 0])), ((a58 1), .inr (7, [.ref (a58 2)])), ((a58 2), .inl (dA 0, 9, .inl tP0)), ((a58 3), .inr (1, [.ref (a58 4)])), ((a58 4), .inl (dA 0, 36, .inl bT0))] H := hP
  have hD := gzd hP hD
  refine lv_aload_n hx hb dX4_init_64 rfl (lv_at hl 0 rfl) ?_
  refine lv_iconst (v := 1) hx hb dX4_init_65 (by decide) ?_
  refine va_put (D := (dC, dI)) (ci := 4) (v := .int 1) (ty := .int) (C := RX4) (T := TX4) (N := 4) hx hb hts (fun w h => gw_mem (inX4 w h)) tyX4 tyX4_ok nmX4 hown hK.1 hP hD hS 0 rfl rfl 3 (by decide) (hts _ (gw_mem wfX4_32)) (fun _ h9 => h9) rfl (by decide +kernel) rfl rfl (Nat.le_of_ble_eq_true rfl) dX4_init_66 (fun H locs hP hD hS => ?_)
  have hP : va_P (dC, dI) vwCl [(h0, .inr (4, [.ref (a9 0), .ref q17, .ref (a58 0), .int 1])), ((a9 0), .inr (7, [.ref (a9 1)])), ((a9 1), .inl (dA 0, 9, .inl tP0)), (q17, .inl (dA 3, 3, .inr (.inr (.inr (.inr (va_up (va_up (va_up (fun _ => none) (Int32.toNatClampNeg 0) (some (a26 0))) (Int32.toNatClampNeg 1) (some (a36 0))) (Int32.toNatClampNeg 2) (some (a46 0)))))))), ((a26 0), .inr (1, [.ref (a26 1)])), ((a26 1), .inl (dA 0, 36, .inl bT0)), ((a36 0), .inr (1, [.ref (a36 1)])), ((a36 1), .inl (dA 0, 36, .inl bT0)), ((a46 0), .inr (1, [.ref (a46 1)])), ((a46 1), .inl (dA 0, 36, .inl bT0)), ((a58 0), .inr (3, [.ref (a58 1), .ref (a58 3), .int 0, .int 0, .int 1, .long 0, .long 0])), ((a58 1), .inr (7, [.ref (a58 2)])), ((a58 2), .inl (dA 0, 9, .inl tP0)), ((a58 3), .inr (1, [.ref (a58 4)])), ((a58 4), .inl (dA 0, 36, .inl bT0))] H := hP
  have hD := gzd hP hD
  refine W.widen (k := 14) (n := 178) (Nat.le_of_ble_eq_true rfl) (Nat.le_of_ble_eq_true rfl) ?_
  have hg3 : va_up (va_up (va_up (fun _ => none) (Int32.toNatClampNeg 0) (some (a26 0))) (Int32.toNatClampNeg 1) (some (a36 0))) (Int32.toNatClampNeg 2) (some (a46 0)) = tb_g3 (a26 0) (a36 0) (a46 0) := tb_g3_of (a26 0) (a36 0) (a46 0)
  rw [hg3] at hP hD
  have hP9 : va_P (dC, dI) vwCl (wX4 dA (tb_ad [h0, (a9 0), (a9 1), q17, (a26 0), (a26 1), (a36 0), (a36 1), (a46 0), (a46 1), (a58 0), (a58 1), (a58 2), (a58 3), (a58 4)]) 1 tP0 bT0 bT0 bT0 0 0 1 0 0 tP0 bT0) H := gsub (isC := [0, 1, 2, 3, 4, 5, 6, 7, 8, 9, 10, 11, 12, 13, 14]) rfl hP
  have hD9 : va_D A (wX4 dA (tb_ad [h0, (a9 0), (a9 1), q17, (a26 0), (a26 1), (a36 0), (a36 1), (a46 0), (a46 1), (a58 0), (a58 1), (a58 2), (a58 3), (a58 4)]) 1 tP0 bT0 bT0 bT0 0 0 1 0 0 tP0 bT0) := gsubD (isC := [0, 1, 2, 3, 4, 5, 6, 7, 8, 9, 10, 11, 12, 13, 14]) rfl (by decide) hD
  exact W.vret hx hb hr (fun t ht _ => ⟨⟨tb_ad [h0, (a9 0), (a9 1), q17, (a26 0), (a26 1), (a36 0), (a36 1), (a46 0), (a46 1), (a58 0), (a58 1), (a58 2), (a58 3), (a58 4)], rfl, rfl, by rw [ht]; exact hP9, hD9⟩, hS.F ht⟩) hS.2.2 dX4_init_69
abbrev rmX5_init : Room := { frames := 3, cells := 13, slots := 1062, locals := 64 }
set_option maxHeartbeats 4000000 in
set_option maxRecDepth 100000 in
theorem iX5 (l : Launch) (dC : Nat → ClassId) (dI : Nat → Nat → Nat) (dA : Nat → ClassId) (h0 sz : Nat) : Met l yX5_init (wq (Cond.code yX5_init cX5_init 1 none)) rmX5_init (gP [.ref h0] (dC, dI) dA [(h0, .inr (5, [.null, .null, .null, .null, .null, .null, .null, .null, .null, .null, .null]))] sz) (gQn (dC, dI) h0 (fun ad => wX5 dA ad tP0 bT0 (fun _ => 0) (fun _ => 0) (fun _ => 0) (fun _ => 0) (fun _ => 0) (fun _ => 0) (fun _ => 0) (fun _ => 0) (fun _ => 0)) (va_A [(h0, .inr (5, [.null, .null, .null, .null, .null, .null, .null, .null, .null, .null, .null]))] sz)) 13 1062 (va_A [(h0, .inr (5, [.null, .null, .null, .null, .null, .null, .null, .null, .null, .null, .null]))] sz) := by
  refine Met.ofW (cc := cX5_init) (maxL := 1) (ret := none) (by decide) rfl ?_
  intro p e s m args below meth c s₁ B hml hv
  obtain ⟨rfl, hsz, hP, hK, hD0⟩ := hv
  have hx := B.exec
  have hb := B.bytes
  have hr := B.returns
  have hts := atoms_spec (ws := wq (Cond.code yX5_init cX5_init 1 none)) B.pre
  have hown : s.vm.findClass RX5 = some m.cls := findClass_of_methodNamed B.named
  have hlocks := B.notSynchronized
  have hin : meth.name = "<init>" := (name_of_methodNamed B.named B.method).1
  clear B
  subst hsz
  have hD := hD0.self (sz := s.heap.size)
  generalize hAe : va_A [(h0, .inr (5, [.null, .null, .null, .null, .null, .null, .null, .null, .null, .null, .null]))] s.heap.size = A at hD ⊢
  have hA : ∀ q : Nat, s.heap.size ≤ q → A q := fun q h => by rw [← hAe]; exact Or.inr h
  clear hAe hD0
  have hS : va_S A s.heap s.heap [] := va_S.rf
  have hl := lv_entry ([.ref h0]) (n := 1) (Nat.le_of_ble_eq_true rfl)
  rw [lg_entry_eq]
  generalize (lg_sl ([.ref h0]) ++ List.replicate (1 - (lg_sl ([.ref h0])).length) Slot.unset).toArray = ls at hl ⊢
  have hl : lv_has ls 1 [(0, .ref h0)] := hl
  change W p l e rmX5_init s m (([.ref h0] : List Value).toArray) below meth c s.heap [] 0 0 _ _
  refine lv_aload_n hx hb dX5_init_0 rfl (lv_at hl 0 rfl) ?_
  refine W.objInit hx hb hown (hts _ (gw_mem wmX5_3)) (hts _ (gw_mem wi_objinit)) (hts _ (gw_mem wc_objinit)) rfl (by rw [hml]; exact hl.1) rfl dX5_init_1 (Nat.le_of_ble_eq_true rfl) (Nat.le_of_ble_eq_true rfl) ?_
  refine W.eq (g2 := F0 m 4 ls []) rfl ?_
  refine lv_aload_n hx hb dX5_init_4 rfl (lv_at hl 0 rfl) ?_
  refine va_new (ci := 7) (fs := [.null]) (C := RX7) (T := TX7) (N := 1) hx hb hts (fun w h => gw_mem (inX7 w h)) tyX7 tyX7_ok hown (hts _ (gw_mem wjX5_9)) (hts _ (gw_mem wbX7)) (hts _ (gw_mem wnX7)) hK.1 hP hD hS hA rfl (fun j hj => by match j, hj with | 0, _ => rfl | n + 1, h => exact absurd h (Nat.not_lt.mpr (Nat.le_add_left _ n))) (Nat.le_of_ble_eq_true rfl) (Nat.le_of_ble_eq_true rfl) dX5_init_5 (fun q5 H hP hD hS => ?_)
  have hP : va_P (dC, dI) vwCl [(h0, .inr (5, [.null, .null, .null, .null, .null, .null, .null, .null, .null, .null, .null])), (q5, .inr (7, [.null]))] H := hP
  have hD := gzd hP hD
  refine lv_dup hx hb dX5_init_8 rfl ?_
  have z9 := gzr (wc := [(q5, .inr (7, [.null]))]) hP [1] rfl
  have hSo := hS
  have hFr := va_free (wc := [(q5, .inr (7, [.null]))]) hD hS hA [1] z9
  refine va_callv (va_runIN (As := []) (rest := [.ref q5, .ref h0]) ⟨hx, hb, hml, hown, hts⟩ (iX7 l dC dI dA q5 H.size) (gCINN 0 hK.2 hts wcX7_init wmX5_11 wiX7_init wnX7 rfl (by decide +kernel) rfl rfl ⟨Nat.le_of_ble_eq_true rfl, Nat.le_of_ble_eq_true rfl⟩) (gPreS (gsub z9 hP) hK (gsubD z9 (by decide) hD)) rfl rfl hl.1 rfl (lv_room (Nat.le_of_ble_eq_true rfl)) dX5_init_9 ⟨Nat.le_of_ble_eq_true rfl, Nat.le_of_ble_eq_true rfl⟩) hS (fun q _ h => hFr q h) hFr (fun a9 t H1 locs ht hvm hw hB hz hk hS => ?_)
  replace hw : a9 0 = q5 := hw
  subst hw
  obtain ⟨hP, hD⟩ := gjn (w1 := wX7 dA a9 tP0) (wf := [(h0, .inr (5, [.null, .null, .null, .null, .null, .null, .null, .null, .null, .null, .null])), ((a9 0), .inr (7, [.ref (a9 1)])), ((a9 1), .inl (dA 0, 9, .inl tP0))]) 1 hP hD hSo hA rfl rfl hk (by rw [← ht]; exact hB.1) hB.2
  clear hSo hFr hk hB hz
  generalize H1 = H at *
  have hP : va_P (dC, dI) vwCl [(h0, .inr (5, [.null, .null, .null, .null, .null, .null, .null, .null, .null, .null, .null])), ((a9 0), .inr (7, [.ref (a9 1)])), ((a9 1), .inl (dA 0, 9, .inl tP0))] H := hP
  have hD := gzd hP hD
  refine va_putF (D := (dC, dI)) (ci := 5) (v := .ref (a9 0)) (ty := (.object "TurnedBonds$Tree")) (C := RX5) (T := TX5) (N := 11) hx hb hts (fun w h => gw_mem (inX5 w h)) tyX5 tyX5_ok nmX5 hown hK.1 hP hD hS 0 rfl rfl 0 (by decide) (hts _ (gw_mem wfX5_12)) (fun _ h9 => h9) rfl hin rfl (by decide +kernel) rfl rfl (Nat.le_of_ble_eq_true rfl) dX5_init_12 (fun H locs hP hD hS => ?_)
  have hP : va_P (dC, dI) vwCl [(h0, .inr (5, [.ref (a9 0), .null, .null, .null, .null, .null, .null, .null, .null, .null, .null])), ((a9 0), .inr (7, [.ref (a9 1)])), ((a9 1), .inl (dA 0, 9, .inl tP0))] H := hP
  have hD := gzd hP hD
  refine lv_aload_n hx hb dX5_init_15 rfl (lv_at hl 0 rfl) ?_
  refine va_new (ci := 1) (fs := [.null]) (C := RX0) (T := TX0) (N := 1) hx hb hts (fun w h => gw_mem (inX0 w h)) tyX0 tyX0_ok hown (hts _ (gw_mem wjX5_18)) (hts _ (gw_mem wbX0)) (hts _ (gw_mem wnX0)) hK.1 hP hD hS hA rfl (fun j hj => by match j, hj with | 0, _ => rfl | n + 1, h => exact absurd h (Nat.not_lt.mpr (Nat.le_add_left _ n))) (Nat.le_of_ble_eq_true rfl) (Nat.le_of_ble_eq_true rfl) dX5_init_16 (fun q16 H hP hD hS => ?_)
  have hP : va_P (dC, dI) vwCl [(h0, .inr (5, [.ref (a9 0), .null, .null, .null, .null, .null, .null, .null, .null, .null, .null])), ((a9 0), .inr (7, [.ref (a9 1)])), ((a9 1), .inl (dA 0, 9, .inl tP0)), (q16, .inr (1, [.null]))] H := hP
  have hD := gzd hP hD
  refine lv_dup hx hb dX5_init_19 rfl ?_
  have z20 := gzr (wc := [(q16, .inr (1, [.null]))]) hP [3] rfl
  have hSo := hS
  have hFr := va_free (wc := [(q16, .inr (1, [.null]))]) hD hS hA [3] z20
  refine va_callv (va_runI (As := []) (rest := [.ref q16, .ref h0]) ⟨hx, hb, hml, hown, hts⟩ (iX0 l dC dI dA q16 H.size) (gCIN 0 hts wcX0_init wmX5_20 wiX0_init wnX0 rfl (by decide +kernel) rfl rfl ⟨Nat.le_of_ble_eq_true rfl, Nat.le_of_ble_eq_true rfl⟩) (gPreS (gsub z20 hP) hK (gsubD z20 (by decide) hD)) rfl rfl hl.1 rfl (lv_room (Nat.le_of_ble_eq_true rfl)) dX5_init_20 ⟨Nat.le_of_ble_eq_true rfl, Nat.le_of_ble_eq_true rfl⟩) hS (fun q _ h => hFr q h) hFr (fun a20 t H1 locs ht hvm hw hB hz hk hS => ?_)
  replace hw : a20 0 = q16 := hw
  subst hw
  obtain ⟨hP, hD⟩ := gjn (w1 := wX0 dA a20 bT0) (wf := [(h0, .inr (5, [.ref (a9 0), .null, .null, .null, .null, .null, .null, .null, .null, .null, .null])), ((a9 0), .inr (7, [.ref (a9 1)])), ((a9 1), .inl (dA 0, 9, .inl tP0)), ((a20 0), .inr (1, [.ref (a20 1)])), ((a20 1), .inl (dA 0, 36, .inl bT0))]) 3 hP hD hSo hA rfl rfl hk (by rw [← ht]; exact hB.1) hB.2
  clear hSo hFr hk hB hz
  generalize H1 = H at *
  have hP : va_P (dC, dI) vwCl [(h0, .inr (5, [.ref (a9 0), .null, .null, .null, .null, .null, .null, .null, .null, .null, .null])), ((a9 0), .inr (7, [.ref (a9 1)])), ((a9 1), .inl (dA 0, 9, .inl tP0)), ((a20 0), .inr (1, [.ref (a20 1)])), ((a20 1), .inl (dA 0, 36, .inl bT0))] H := hP
  have hD := gzd hP hD
  refine va_putF (D := (dC, dI)) (ci := 5) (v := .ref (a20 0)) (ty := (.object "TurnedBonds$Bond")) (C := RX5) (T := TX5) (N := 11) hx hb hts (fun w h => gw_mem (inX5 w h)) tyX5 tyX5_ok nmX5 hown hK.1 hP hD hS 0 rfl rfl 1 (by decide) (hts _ (gw_mem wfX5_21)) (fun _ h9 => h9) rfl hin rfl (by decide +kernel) rfl rfl (Nat.le_of_ble_eq_true rfl) dX5_init_23 (fun H locs hP hD hS => ?_)
  have hP : va_P (dC, dI) vwCl [(h0, .inr (5, [.ref (a9 0), .ref (a20 0), .null, .null, .null, .null, .null, .null, .null, .null, .null])), ((a9 0), .inr (7, [.ref (a9 1)])), ((a9 1), .inl (dA 0, 9, .inl tP0)), ((a20 0), .inr (1, [.ref (a20 1)])), ((a20 1), .inl (dA 0, 36, .inl bT0))] H := hP
  have hD := gzd hP hD
  refine lv_aload_n hx hb dX5_init_26 rfl (lv_at hl 0 rfl) ?_
  refine lv_bipush (v := 7) hx hb dX5_init_27 (by decide) ?_
  refine va_newa (atype := .long) (ty := .long) (a0 := (7, .inr (.inl (fun _ => 0)))) (N' := 7) hx hb (hts _ (gw_mem wa_long)) rfl hK.1 hP hD hS hA (fun _ => rfl) (by decide) rfl (Nat.le_of_ble_eq_true rfl) (Nat.le_of_ble_eq_true rfl) (Nat.le_of_ble_eq_true rfl) dX5_init_29 (fun q29 cA H hK1 hP hD hS => ?_)
  obtain rfl := gAlong hK.1 hK1
  clear hK1
  have hP : va_P (dC, dI) vwCl [(h0, .inr (5, [.ref (a9 0), .ref (a20 0), .null, .null, .null, .null, .null, .null, .null, .null, .null])), ((a9 0), .inr (7, [.ref (a9 1)])), ((a9 1), .inl (dA 0, 9, .inl tP0)), ((a20 0), .inr (1, [.ref (a20 1)])), ((a20 1), .inl (dA 0, 36, .inl bT0)), (q29, .inl (dA 1, 7, .inr (.inl (fun _ => 0))))] H := hP
  have hD := gzd hP hD
  refine va_putF (D := (dC, dI)) (ci := 5) (v := .ref q29) (ty := (.array .long)) (C := RX5) (T := TX5) (N := 11) hx hb hts (fun w h => gw_mem (inX5 w h)) tyX5 tyX5_ok nmX5 hown hK.1 hP hD hS 0 rfl rfl 2 (by decide) (hts _ (gw_mem wfX5_25)) (fun _ h9 => h9) rfl hin rfl (by decide +kernel) rfl rfl (Nat.le_of_ble_eq_true rfl) dX5_init_31 (fun H locs hP hD hS => ?_)
  have hP : va_P (dC, dI) vwCl [(h0, .inr (5, [.ref (a9 0), .ref (a20 0), .ref q29, .null, .null, .null, .null, .null, .null, .null, .null])), ((a9 0), .inr (7, [.ref (a9 1)])), ((a9 1), .inl (dA 0, 9, .inl tP0)), ((a20 0), .inr (1, [.ref (a20 1)])), ((a20 1), .inl (dA 0, 36, .inl bT0)), (q29, .inl (dA 1, 7, .inr (.inl (fun _ => 0))))] H := hP
  have hD := gzd hP hD
  refine lv_aload_n hx hb dX5_init_34 rfl (lv_at hl 0 rfl) ?_
  refine lv_sipush (v := 128) hx hb dX5_init_35 (by decide) ?_
  refine va_newa (atype := .long) (ty := .long) (a0 := (128, .inr (.inl (fun _ => 0)))) (N' := 128) hx hb (hts _ (gw_mem wa_long)) rfl hK.1 hP hD hS hA (fun _ => rfl) (by decide) rfl (Nat.le_of_ble_eq_true rfl) (Nat.le_of_ble_eq_true rfl) (Nat.le_of_ble_eq_true rfl) dX5_init_38 (fun q38 cA H hK1 hP hD hS => ?_)
  obtain rfl := gAlong hK.1 hK1
  clear hK1
  have hP : va_P (dC, dI) vwCl [(h0, .inr (5, [.ref (a9 0), .ref (a20 0), .ref q29, .null, .null, .null, .null, .null, .null, .null, .null])), ((a9 0), .inr (7, [.ref (a9 1)])), ((a9 1), .inl (dA 0, 9, .inl tP0)), ((a20 0), .inr (1, [.ref (a20 1)])), ((a20 1), .inl (dA 0, 36, .inl bT0)), (q29, .inl (dA 1, 7, .inr (.inl (fun _ => 0)))), (q38, .inl (dA 1, 128, .inr (.inl (fun _ => 0))))] H := hP
  have hD := gzd hP hD
  refine va_putF (D := (dC, dI)) (ci := 5) (v := .ref q38) (ty := (.array .long)) (C := RX5) (T := TX5) (N := 11) hx hb hts (fun w h => gw_mem (inX5 w h)) tyX5 tyX5_ok nmX5 hown hK.1 hP hD hS 0 rfl rfl 3 (by decide) (hts _ (gw_mem wfX5_29)) (fun _ h9 => h9) rfl hin rfl (by decide +kernel) rfl rfl (Nat.le_of_ble_eq_true rfl) dX5_init_40 (fun H locs hP hD hS => ?_)
  have hP : va_P (dC, dI) vwCl [(h0, .inr (5, [.ref (a9 0), .ref (a20 0), .ref q29, .ref q38, .null, .null, .null, .null, .null, .null, .null])), ((a9 0), .inr (7, [.ref (a9 1)])), ((a9 1), .inl (dA 0, 9, .inl tP0)), ((a20 0), .inr (1, [.ref (a20 1)])), ((a20 1), .inl (dA 0, 36, .inl bT0)), (q29, .inl (dA 1, 7, .inr (.inl (fun _ => 0)))), (q38, .inl (dA 1, 128, .inr (.inl (fun _ => 0))))] H := hP
  have hD := gzd hP hD
  refine lv_aload_n hx hb dX5_init_43 rfl (lv_at hl 0 rfl) ?_
  refine lv_sipush (v := 128) hx hb dX5_init_44 (by decide) ?_
  refine va_newa (atype := .long) (ty := .long) (a0 := (128, .inr (.inl (fun _ => 0)))) (N' := 128) hx hb (hts _ (gw_mem wa_long)) rfl hK.1 hP hD hS hA (fun _ => rfl) (by decide) rfl (Nat.le_of_ble_eq_true rfl) (Nat.le_of_ble_eq_true rfl) (Nat.le_of_ble_eq_true rfl) dX5_init_47 (fun q47 cA H hK1 hP hD hS => ?_)
  obtain rfl := gAlong hK.1 hK1
  clear hK1
  have hP : va_P (dC, dI) vwCl [(h0, .inr (5, [.ref (a9 0), .ref (a20 0), .ref q29, .ref q38, .null, .null, .null, .null, .null, .null, .null])), ((a9 0), .inr (7, [.ref (a9 1)])), ((a9 1), .inl (dA 0, 9, .inl tP0)), ((a20 0), .inr (1, [.ref (a20 1)])), ((a20 1), .inl (dA 0, 36, .inl bT0)), (q29, .inl (dA 1, 7, .inr (.inl (fun _ => 0)))), (q38, .inl (dA 1, 128, .inr (.inl (fun _ => 0)))), (q47, .inl (dA 1, 128, .inr (.inl (fun _ => 0))))] H := hP
  have hD := gzd hP hD
  refine va_putF (D := (dC, dI)) (ci := 5) (v := .ref q47) (ty := (.array .long)) (C := RX5) (T := TX5) (N := 11) hx hb hts (fun w h => gw_mem (inX5 w h)) tyX5 tyX5_ok nmX5 hown hK.1 hP hD hS 0 rfl rfl 4 (by decide) (hts _ (gw_mem wfX5_32)) (fun _ h9 => h9) rfl hin rfl (by decide +kernel) rfl rfl (Nat.le_of_ble_eq_true rfl) dX5_init_49 (fun H locs hP hD hS => ?_)
  have hP : va_P (dC, dI) vwCl [(h0, .inr (5, [.ref (a9 0), .ref (a20 0), .ref q29, .ref q38, .ref q47, .null, .null, .null, .null, .null, .null])), ((a9 0), .inr (7, [.ref (a9 1)])), ((a9 1), .inl (dA 0, 9, .inl tP0)), ((a20 0), .inr (1, [.ref (a20 1)])), ((a20 1), .inl (dA 0, 36, .inl bT0)), (q29, .inl (dA 1, 7, .inr (.inl (fun _ => 0)))), (q38, .inl (dA 1, 128, .inr (.inl (fun _ => 0)))), (q47, .inl (dA 1, 128, .inr (.inl (fun _ => 0))))] H := hP
  have hD := gzd hP hD
  refine lv_aload_n hx hb dX5_init_52 rfl (lv_at hl 0 rfl) ?_
  refine lv_sipush (v := 128) hx hb dX5_init_53 (by decide) ?_
  refine va_newa (atype := .long) (ty := .long) (a0 := (128, .inr (.inl (fun _ => 0)))) (N' := 128) hx hb (hts _ (gw_mem wa_long)) rfl hK.1 hP hD hS hA (fun _ => rfl) (by decide) rfl (Nat.le_of_ble_eq_true rfl) (Nat.le_of_ble_eq_true rfl) (Nat.le_of_ble_eq_true rfl) dX5_init_56 (fun q56 cA H hK1 hP hD hS => ?_)
  obtain rfl := gAlong hK.1 hK1
  clear hK1
  have hP : va_P (dC, dI) vwCl [(h0, .inr (5, [.ref (a9 0), .ref (a20 0), .ref q29, .ref q38, .ref q47, .null, .null, .null, .null, .null, .null])), ((a9 0), .inr (7, [.ref (a9 1)])), ((a9 1), .inl (dA 0, 9, .inl tP0)), ((a20 0), .inr (1, [.ref (a20 1)])), ((a20 1), .inl (dA 0, 36, .inl bT0)), (q29, .inl (dA 1, 7, .inr (.inl (fun _ => 0)))), (q38, .inl (dA 1, 128, .inr (.inl (fun _ => 0)))), (q47, .inl (dA 1, 128, .inr (.inl (fun _ => 0)))), (q56, .inl (dA 1, 128, .inr (.inl (fun _ => 0))))] H := hP
  have hD := gzd hP hD
  refine va_putF (D := (dC, dI)) (ci := 5) (v := .ref q56) (ty := (.array .long)) (C := RX5) (T := TX5) (N := 11) hx hb hts (fun w h => gw_mem (inX5 w h)) tyX5 tyX5_ok nmX5 hown hK.1 hP hD hS 0 rfl rfl 5 (by decide) (hts _ (gw_mem wfX5_35)) (fun _ h9 => h9) rfl hin rfl (by decide +kernel) rfl rfl (Nat.le_of_ble_eq_true rfl) dX5_init_58 (fun H locs hP hD hS => ?_)
  have hP : va_P (dC, dI) vwCl [(h0, .inr (5, [.ref (a9 0), .ref (a20 0), .ref q29, .ref q38, .ref q47, .ref q56, .null, .null, .null, .null, .null])), ((a9 0), .inr (7, [.ref (a9 1)])), ((a9 1), .inl (dA 0, 9, .inl tP0)), ((a20 0), .inr (1, [.ref (a20 1)])), ((a20 1), .inl (dA 0, 36, .inl bT0)), (q29, .inl (dA 1, 7, .inr (.inl (fun _ => 0)))), (q38, .inl (dA 1, 128, .inr (.inl (fun _ => 0)))), (q47, .inl (dA 1, 128, .inr (.inl (fun _ => 0)))), (q56, .inl (dA 1, 128, .inr (.inl (fun _ => 0))))] H := hP
  have hD := gzd hP hD
  refine lv_aload_n hx hb dX5_init_61 rfl (lv_at hl 0 rfl) ?_
  refine lv_sipush (v := 128) hx hb dX5_init_62 (by decide) ?_
  refine va_newa (atype := .long) (ty := .long) (a0 := (128, .inr (.inl (fun _ => 0)))) (N' := 128) hx hb (hts _ (gw_mem wa_long)) rfl hK.1 hP hD hS hA (fun _ => rfl) (by decide) rfl (Nat.le_of_ble_eq_true rfl) (Nat.le_of_ble_eq_true rfl) (Nat.le_of_ble_eq_true rfl) dX5_init_65 (fun q65 cA H hK1 hP hD hS => ?_)
  obtain rfl := gAlong hK.1 hK1
  clear hK1
  have hP : va_P (dC, dI) vwCl [(h0, .inr (5, [.ref (a9 0), .ref (a20 0), .ref q29, .ref q38, .ref q47, .ref q56, .null, .null, .null, .null, .null])), ((a9 0), .inr (7, [.ref (a9 1)])), ((a9 1), .inl (dA 0, 9, .inl tP0)), ((a20 0), .inr (1, [.ref (a20 1)])), ((a20 1), .inl (dA 0, 36, .inl bT0)), (q29, .inl (dA 1, 7, .inr (.inl (fun _ => 0)))), (q38, .inl (dA 1, 128, .inr (.inl (fun _ => 0)))), (q47, .inl (dA 1, 128, .inr (.inl (fun _ => 0)))), (q56, .inl (dA 1, 128, .inr (.inl (fun _ => 0)))), (q65, .inl (dA 1, 128, .inr (.inl (fun _ => 0))))] H := hP
  have hD := gzd hP hD
  refine va_putF (D := (dC, dI)) (ci := 5) (v := .ref q65) (ty := (.array .long)) (C := RX5) (T := TX5) (N := 11) hx hb hts (fun w h => gw_mem (inX5 w h)) tyX5 tyX5_ok nmX5 hown hK.1 hP hD hS 0 rfl rfl 6 (by decide) (hts _ (gw_mem wfX5_38)) (fun _ h9 => h9) rfl hin rfl (by decide +kernel) rfl rfl (Nat.le_of_ble_eq_true rfl) dX5_init_67 (fun H locs hP hD hS => ?_)
  have hP : va_P (dC, dI) vwCl [(h0, .inr (5, [.ref (a9 0), .ref (a20 0), .ref q29, .ref q38, .ref q47, .ref q56, .ref q65, .null, .null, .null, .null])), ((a9 0), .inr (7, [.ref (a9 1)])), ((a9 1), .inl (dA 0, 9, .inl tP0)), ((a20 0), .inr (1, [.ref (a20 1)])), ((a20 1), .inl (dA 0, 36, .inl bT0)), (q29, .inl (dA 1, 7, .inr (.inl (fun _ => 0)))), (q38, .inl (dA 1, 128, .inr (.inl (fun _ => 0)))), (q47, .inl (dA 1, 128, .inr (.inl (fun _ => 0)))), (q56, .inl (dA 1, 128, .inr (.inl (fun _ => 0)))), (q65, .inl (dA 1, 128, .inr (.inl (fun _ => 0))))] H := hP
  have hD := gzd hP hD
  refine lv_aload_n hx hb dX5_init_70 rfl (lv_at hl 0 rfl) ?_
  refine lv_sipush (v := 128) hx hb dX5_init_71 (by decide) ?_
  refine va_newa (atype := .long) (ty := .long) (a0 := (128, .inr (.inl (fun _ => 0)))) (N' := 128) hx hb (hts _ (gw_mem wa_long)) rfl hK.1 hP hD hS hA (fun _ => rfl) (by decide) rfl (Nat.le_of_ble_eq_true rfl) (Nat.le_of_ble_eq_true rfl) (Nat.le_of_ble_eq_true rfl) dX5_init_74 (fun q74 cA H hK1 hP hD hS => ?_)
  obtain rfl := gAlong hK.1 hK1
  clear hK1
  have hP : va_P (dC, dI) vwCl [(h0, .inr (5, [.ref (a9 0), .ref (a20 0), .ref q29, .ref q38, .ref q47, .ref q56, .ref q65, .null, .null, .null, .null])), ((a9 0), .inr (7, [.ref (a9 1)])), ((a9 1), .inl (dA 0, 9, .inl tP0)), ((a20 0), .inr (1, [.ref (a20 1)])), ((a20 1), .inl (dA 0, 36, .inl bT0)), (q29, .inl (dA 1, 7, .inr (.inl (fun _ => 0)))), (q38, .inl (dA 1, 128, .inr (.inl (fun _ => 0)))), (q47, .inl (dA 1, 128, .inr (.inl (fun _ => 0)))), (q56, .inl (dA 1, 128, .inr (.inl (fun _ => 0)))), (q65, .inl (dA 1, 128, .inr (.inl (fun _ => 0)))), (q74, .inl (dA 1, 128, .inr (.inl (fun _ => 0))))] H := hP
  have hD := gzd hP hD
  refine va_putF (D := (dC, dI)) (ci := 5) (v := .ref q74) (ty := (.array .long)) (C := RX5) (T := TX5) (N := 11) hx hb hts (fun w h => gw_mem (inX5 w h)) tyX5 tyX5_ok nmX5 hown hK.1 hP hD hS 0 rfl rfl 7 (by decide) (hts _ (gw_mem wfX5_41)) (fun _ h9 => h9) rfl hin rfl (by decide +kernel) rfl rfl (Nat.le_of_ble_eq_true rfl) dX5_init_76 (fun H locs hP hD hS => ?_)
  have hP : va_P (dC, dI) vwCl [(h0, .inr (5, [.ref (a9 0), .ref (a20 0), .ref q29, .ref q38, .ref q47, .ref q56, .ref q65, .ref q74, .null, .null, .null])), ((a9 0), .inr (7, [.ref (a9 1)])), ((a9 1), .inl (dA 0, 9, .inl tP0)), ((a20 0), .inr (1, [.ref (a20 1)])), ((a20 1), .inl (dA 0, 36, .inl bT0)), (q29, .inl (dA 1, 7, .inr (.inl (fun _ => 0)))), (q38, .inl (dA 1, 128, .inr (.inl (fun _ => 0)))), (q47, .inl (dA 1, 128, .inr (.inl (fun _ => 0)))), (q56, .inl (dA 1, 128, .inr (.inl (fun _ => 0)))), (q65, .inl (dA 1, 128, .inr (.inl (fun _ => 0)))), (q74, .inl (dA 1, 128, .inr (.inl (fun _ => 0))))] H := hP
  have hD := gzd hP hD
  refine lv_aload_n hx hb dX5_init_79 rfl (lv_at hl 0 rfl) ?_
  refine lv_sipush (v := 128) hx hb dX5_init_80 (by decide) ?_
  refine va_newa (atype := .int) (ty := .int) (a0 := (128, .inl (fun _ => 0))) (N' := 128) hx hb (hts _ (gw_mem wa_int)) rfl hK.1 hP hD hS hA (fun _ => rfl) (by decide) rfl (Nat.le_of_ble_eq_true rfl) (Nat.le_of_ble_eq_true rfl) (Nat.le_of_ble_eq_true rfl) dX5_init_83 (fun q83 cA H hK1 hP hD hS => ?_)
  obtain rfl := gAint hK.1 hK1
  clear hK1
  have hP : va_P (dC, dI) vwCl [(h0, .inr (5, [.ref (a9 0), .ref (a20 0), .ref q29, .ref q38, .ref q47, .ref q56, .ref q65, .ref q74, .null, .null, .null])), ((a9 0), .inr (7, [.ref (a9 1)])), ((a9 1), .inl (dA 0, 9, .inl tP0)), ((a20 0), .inr (1, [.ref (a20 1)])), ((a20 1), .inl (dA 0, 36, .inl bT0)), (q29, .inl (dA 1, 7, .inr (.inl (fun _ => 0)))), (q38, .inl (dA 1, 128, .inr (.inl (fun _ => 0)))), (q47, .inl (dA 1, 128, .inr (.inl (fun _ => 0)))), (q56, .inl (dA 1, 128, .inr (.inl (fun _ => 0)))), (q65, .inl (dA 1, 128, .inr (.inl (fun _ => 0)))), (q74, .inl (dA 1, 128, .inr (.inl (fun _ => 0)))), (q83, .inl (dA 0, 128, .inl (fun _ => 0)))] H := hP
  have hD := gzd hP hD
  refine va_putF (D := (dC, dI)) (ci := 5) (v := .ref q83) (ty := (.array .int)) (C := RX5) (T := TX5) (N := 11) hx hb hts (fun w h => gw_mem (inX5 w h)) tyX5 tyX5_ok nmX5 hown hK.1 hP hD hS 0 rfl rfl 8 (by decide) (hts _ (gw_mem wfX5_44)) (fun _ h9 => h9) rfl hin rfl (by decide +kernel) rfl rfl (Nat.le_of_ble_eq_true rfl) dX5_init_85 (fun H locs hP hD hS => ?_)
  have hP : va_P (dC, dI) vwCl [(h0, .inr (5, [.ref (a9 0), .ref (a20 0), .ref q29, .ref q38, .ref q47, .ref q56, .ref q65, .ref q74, .ref q83, .null, .null])), ((a9 0), .inr (7, [.ref (a9 1)])), ((a9 1), .inl (dA 0, 9, .inl tP0)), ((a20 0), .inr (1, [.ref (a20 1)])), ((a20 1), .inl (dA 0, 36, .inl bT0)), (q29, .inl (dA 1, 7, .inr (.inl (fun _ => 0)))), (q38, .inl (dA 1, 128, .inr (.inl (fun _ => 0)))), (q47, .inl (dA 1, 128, .inr (.inl (fun _ => 0)))), (q56, .inl (dA 1, 128, .inr (.inl (fun _ => 0)))), (q65, .inl (dA 1, 128, .inr (.inl (fun _ => 0)))), (q74, .inl (dA 1, 128, .inr (.inl (fun _ => 0)))), (q83, .inl (dA 0, 128, .inl (fun _ => 0)))] H := hP
  have hD := gzd hP hD
  refine lv_aload_n hx hb dX5_init_88 rfl (lv_at hl 0 rfl) ?_
  refine lv_sipush (v := 128) hx hb dX5_init_89 (by decide) ?_
  refine va_newa (atype := .int) (ty := .int) (a0 := (128, .inl (fun _ => 0))) (N' := 128) hx hb (hts _ (gw_mem wa_int)) rfl hK.1 hP hD hS hA (fun _ => rfl) (by decide) rfl (Nat.le_of_ble_eq_true rfl) (Nat.le_of_ble_eq_true rfl) (Nat.le_of_ble_eq_true rfl) dX5_init_92 (fun q92 cA H hK1 hP hD hS => ?_)
  obtain rfl := gAint hK.1 hK1
  clear hK1
  have hP : va_P (dC, dI) vwCl [(h0, .inr (5, [.ref (a9 0), .ref (a20 0), .ref q29, .ref q38, .ref q47, .ref q56, .ref q65, .ref q74, .ref q83, .null, .null])), ((a9 0), .inr (7, [.ref (a9 1)])), ((a9 1), .inl (dA 0, 9, .inl tP0)), ((a20 0), .inr (1, [.ref (a20 1)])), ((a20 1), .inl (dA 0, 36, .inl bT0)), (q29, .inl (dA 1, 7, .inr (.inl (fun _ => 0)))), (q38, .inl (dA 1, 128, .inr (.inl (fun _ => 0)))), (q47, .inl (dA 1, 128, .inr (.inl (fun _ => 0)))), (q56, .inl (dA 1, 128, .inr (.inl (fun _ => 0)))), (q65, .inl (dA 1, 128, .inr (.inl (fun _ => 0)))), (q74, .inl (dA 1, 128, .inr (.inl (fun _ => 0)))), (q83, .inl (dA 0, 128, .inl (fun _ => 0))), (q92, .inl (dA 0, 128, .inl (fun _ => 0)))] H := hP
  have hD := gzd hP hD
  refine va_putF (D := (dC, dI)) (ci := 5) (v := .ref q92) (ty := (.array .int)) (C := RX5) (T := TX5) (N := 11) hx hb hts (fun w h => gw_mem (inX5 w h)) tyX5 tyX5_ok nmX5 hown hK.1 hP hD hS 0 rfl rfl 9 (by decide) (hts _ (gw_mem wfX5_48)) (fun _ h9 => h9) rfl hin rfl (by decide +kernel) rfl rfl (Nat.le_of_ble_eq_true rfl) dX5_init_94 (fun H locs hP hD hS => ?_)
  have hP : va_P (dC, dI) vwCl [(h0, .inr (5, [.ref (a9 0), .ref (a20 0), .ref q29, .ref q38, .ref q47, .ref q56, .ref q65, .ref q74, .ref q83, .ref q92, .null])), ((a9 0), .inr (7, [.ref (a9 1)])), ((a9 1), .inl (dA 0, 9, .inl tP0)), ((a20 0), .inr (1, [.ref (a20 1)])), ((a20 1), .inl (dA 0, 36, .inl bT0)), (q29, .inl (dA 1, 7, .inr (.inl (fun _ => 0)))), (q38, .inl (dA 1, 128, .inr (.inl (fun _ => 0)))), (q47, .inl (dA 1, 128, .inr (.inl (fun _ => 0)))), (q56, .inl (dA 1, 128, .inr (.inl (fun _ => 0)))), (q65, .inl (dA 1, 128, .inr (.inl (fun _ => 0)))), (q74, .inl (dA 1, 128, .inr (.inl (fun _ => 0)))), (q83, .inl (dA 0, 128, .inl (fun _ => 0))), (q92, .inl (dA 0, 128, .inl (fun _ => 0)))] H := hP
  have hD := gzd hP hD
  refine lv_aload_n hx hb dX5_init_97 rfl (lv_at hl 0 rfl) ?_
  refine lv_bipush (v := 112) hx hb dX5_init_98 (by decide) ?_
  refine va_newa (atype := .int) (ty := .int) (a0 := (112, .inl (fun _ => 0))) (N' := 112) hx hb (hts _ (gw_mem wa_int)) rfl hK.1 hP hD hS hA (fun _ => rfl) (by decide) rfl (Nat.le_of_ble_eq_true rfl) (Nat.le_of_ble_eq_true rfl) (Nat.le_of_ble_eq_true rfl) dX5_init_100 (fun q100 cA H hK1 hP hD hS => ?_)
  obtain rfl := gAint hK.1 hK1
  clear hK1
  have hP : va_P (dC, dI) vwCl [(h0, .inr (5, [.ref (a9 0), .ref (a20 0), .ref q29, .ref q38, .ref q47, .ref q56, .ref q65, .ref q74, .ref q83, .ref q92, .null])), ((a9 0), .inr (7, [.ref (a9 1)])), ((a9 1), .inl (dA 0, 9, .inl tP0)), ((a20 0), .inr (1, [.ref (a20 1)])), ((a20 1), .inl (dA 0, 36, .inl bT0)), (q29, .inl (dA 1, 7, .inr (.inl (fun _ => 0)))), (q38, .inl (dA 1, 128, .inr (.inl (fun _ => 0)))), (q47, .inl (dA 1, 128, .inr (.inl (fun _ => 0)))), (q56, .inl (dA 1, 128, .inr (.inl (fun _ => 0)))), (q65, .inl (dA 1, 128, .inr (.inl (fun _ => 0)))), (q74, .inl (dA 1, 128, .inr (.inl (fun _ => 0)))), (q83, .inl (dA 0, 128, .inl (fun _ => 0))), (q92, .inl (dA 0, 128, .inl (fun _ => 0))), (q100, .inl (dA 0, 112, .inl (fun _ => 0)))] H := hP
  have hD := gzd hP hD
  refine va_putF (D := (dC, dI)) (ci := 5) (v := .ref q100) (ty := (.array .int)) (C := RX5) (T := TX5) (N := 11) hx hb hts (fun w h => gw_mem (inX5 w h)) tyX5 tyX5_ok nmX5 hown hK.1 hP hD hS 0 rfl rfl 10 (by decide) (hts _ (gw_mem wfX5_51)) (fun _ h9 => h9) rfl hin rfl (by decide +kernel) rfl rfl (Nat.le_of_ble_eq_true rfl) dX5_init_102 (fun H locs hP hD hS => ?_)
  have hP : va_P (dC, dI) vwCl [(h0, .inr (5, [.ref (a9 0), .ref (a20 0), .ref q29, .ref q38, .ref q47, .ref q56, .ref q65, .ref q74, .ref q83, .ref q92, .ref q100])), ((a9 0), .inr (7, [.ref (a9 1)])), ((a9 1), .inl (dA 0, 9, .inl tP0)), ((a20 0), .inr (1, [.ref (a20 1)])), ((a20 1), .inl (dA 0, 36, .inl bT0)), (q29, .inl (dA 1, 7, .inr (.inl (fun _ => 0)))), (q38, .inl (dA 1, 128, .inr (.inl (fun _ => 0)))), (q47, .inl (dA 1, 128, .inr (.inl (fun _ => 0)))), (q56, .inl (dA 1, 128, .inr (.inl (fun _ => 0)))), (q65, .inl (dA 1, 128, .inr (.inl (fun _ => 0)))), (q74, .inl (dA 1, 128, .inr (.inl (fun _ => 0)))), (q83, .inl (dA 0, 128, .inl (fun _ => 0))), (q92, .inl (dA 0, 128, .inl (fun _ => 0))), (q100, .inl (dA 0, 112, .inl (fun _ => 0)))] H := hP
  have hD := gzd hP hD
  refine W.widen (k := 13) (n := 1062) (Nat.le_of_ble_eq_true rfl) (Nat.le_of_ble_eq_true rfl) ?_
  have hP9 : va_P (dC, dI) vwCl (wX5 dA (tb_ad [h0, (a9 0), (a9 1), (a20 0), (a20 1), q29, q38, q47, q56, q65, q74, q83, q92, q100]) tP0 bT0 (fun _ => 0) (fun _ => 0) (fun _ => 0) (fun _ => 0) (fun _ => 0) (fun _ => 0) (fun _ => 0) (fun _ => 0) (fun _ => 0)) H := gsub (isC := [0, 1, 2, 3, 4, 5, 6, 7, 8, 9, 10, 11, 12, 13]) rfl hP
  have hD9 : va_D A (wX5 dA (tb_ad [h0, (a9 0), (a9 1), (a20 0), (a20 1), q29, q38, q47, q56, q65, q74, q83, q92, q100]) tP0 bT0 (fun _ => 0) (fun _ => 0) (fun _ => 0) (fun _ => 0) (fun _ => 0) (fun _ => 0) (fun _ => 0) (fun _ => 0) (fun _ => 0)) := gsubD (isC := [0, 1, 2, 3, 4, 5, 6, 7, 8, 9, 10, 11, 12, 13]) rfl (by decide) hD
  exact W.vret hx hb hr (fun t ht _ => ⟨⟨tb_ad [h0, (a9 0), (a9 1), (a20 0), (a20 1), q29, q38, q47, q56, q65, q74, q83, q92, q100], rfl, rfl, by rw [ht]; exact hP9, hD9⟩, hS.F ht⟩) hS.2.2 dX5_init_105
abbrev rmX6_init : Room := { frames := 3, cells := 3, slots := 237, locals := 64 }
set_option maxHeartbeats 4000000 in
set_option maxRecDepth 100000 in
theorem iX6 (l : Launch) (dC : Nat → ClassId) (dI : Nat → Nat → Nat) (dA : Nat → ClassId) (h0 sz : Nat) : Met l yX6_init (wq (Cond.code yX6_init cX6_init 1 none)) rmX6_init (gP [.ref h0] (dC, dI) dA [(h0, .inr (6, [.null, .int 0, .null, .int 0, .int 0, .int 0, .int 0, .int 0]))] sz) (gQn (dC, dI) h0 (fun ad => wX6 dA ad 0 0 0 0 0 0 (fun _ => 0) bT0) (va_A [(h0, .inr (6, [.null, .int 0, .null, .int 0, .int 0, .int 0, .int 0, .int 0]))] sz)) 3 237 (va_A [(h0, .inr (6, [.null, .int 0, .null, .int 0, .int 0, .int 0, .int 0, .int 0]))] sz) := by
  refine Met.ofW (cc := cX6_init) (maxL := 1) (ret := none) (by decide) rfl ?_
  intro p e s m args below meth c s₁ B hml hv
  obtain ⟨rfl, hsz, hP, hK, hD0⟩ := hv
  have hx := B.exec
  have hb := B.bytes
  have hr := B.returns
  have hts := atoms_spec (ws := wq (Cond.code yX6_init cX6_init 1 none)) B.pre
  have hown : s.vm.findClass RX6 = some m.cls := findClass_of_methodNamed B.named
  have hlocks := B.notSynchronized
  have hin : meth.name = "<init>" := (name_of_methodNamed B.named B.method).1
  clear B
  subst hsz
  have hD := hD0.self (sz := s.heap.size)
  generalize hAe : va_A [(h0, .inr (6, [.null, .int 0, .null, .int 0, .int 0, .int 0, .int 0, .int 0]))] s.heap.size = A at hD ⊢
  have hA : ∀ q : Nat, s.heap.size ≤ q → A q := fun q h => by rw [← hAe]; exact Or.inr h
  clear hAe hD0
  have hS : va_S A s.heap s.heap [] := va_S.rf
  have hl := lv_entry ([.ref h0]) (n := 1) (Nat.le_of_ble_eq_true rfl)
  rw [lg_entry_eq]
  generalize (lg_sl ([.ref h0]) ++ List.replicate (1 - (lg_sl ([.ref h0])).length) Slot.unset).toArray = ls at hl ⊢
  have hl : lv_has ls 1 [(0, .ref h0)] := hl
  change W p l e rmX6_init s m (([.ref h0] : List Value).toArray) below meth c s.heap [] 0 0 _ _
  refine lv_aload_n hx hb dX6_init_0 rfl (lv_at hl 0 rfl) ?_
  refine W.objInit hx hb hown (hts _ (gw_mem wmX6_3)) (hts _ (gw_mem wi_objinit)) (hts _ (gw_mem wc_objinit)) rfl (by rw [hml]; exact hl.1) rfl dX6_init_1 (Nat.le_of_ble_eq_true rfl) (Nat.le_of_ble_eq_true rfl) ?_
  refine W.eq (g2 := F0 m 4 ls []) rfl ?_
  refine lv_aload_n hx hb dX6_init_4 rfl (lv_at hl 0 rfl) ?_
  refine lv_sipush (v := 200) hx hb dX6_init_5 (by decide) ?_
  refine va_newa (atype := .int) (ty := .int) (a0 := (200, .inl (fun _ => 0))) (N' := 200) hx hb (hts _ (gw_mem wa_int)) rfl hK.1 hP hD hS hA (fun _ => rfl) (by decide) rfl (Nat.le_of_ble_eq_true rfl) (Nat.le_of_ble_eq_true rfl) (Nat.le_of_ble_eq_true rfl) dX6_init_8 (fun q8 cA H hK1 hP hD hS => ?_)
  obtain rfl := gAint hK.1 hK1
  clear hK1
  have hP : va_P (dC, dI) vwCl [(h0, .inr (6, [.null, .int 0, .null, .int 0, .int 0, .int 0, .int 0, .int 0])), (q8, .inl (dA 0, 200, .inl (fun _ => 0)))] H := hP
  have hD := gzd hP hD
  refine va_putF (D := (dC, dI)) (ci := 6) (v := .ref q8) (ty := (.array .int)) (C := RX6) (T := TX6) (N := 8) hx hb hts (fun w h => gw_mem (inX6 w h)) tyX6 tyX6_ok nmX6 hown hK.1 hP hD hS 0 rfl rfl 0 (by decide) (hts _ (gw_mem wfX6_9)) (fun _ h9 => h9) rfl hin rfl (by decide +kernel) rfl rfl (Nat.le_of_ble_eq_true rfl) dX6_init_10 (fun H locs hP hD hS => ?_)
  have hP : va_P (dC, dI) vwCl [(h0, .inr (6, [.ref q8, .int 0, .null, .int 0, .int 0, .int 0, .int 0, .int 0])), (q8, .inl (dA 0, 200, .inl (fun _ => 0)))] H := hP
  have hD := gzd hP hD
  refine lv_aload_n hx hb dX6_init_13 rfl (lv_at hl 0 rfl) ?_
  refine lv_iconst (v := 0) hx hb dX6_init_14 (by decide) ?_
  refine va_put (D := (dC, dI)) (ci := 6) (v := .int 0) (ty := .int) (C := RX6) (T := TX6) (N := 8) hx hb hts (fun w h => gw_mem (inX6 w h)) tyX6 tyX6_ok nmX6 hown hK.1 hP hD hS 0 rfl rfl 1 (by decide) (hts _ (gw_mem wfX6_15)) (fun _ h9 => h9) rfl (by decide +kernel) rfl rfl (Nat.le_of_ble_eq_true rfl) dX6_init_15 (fun H locs hP hD hS => ?_)
  have hP : va_P (dC, dI) vwCl [(h0, .inr (6, [.ref q8, .int 0, .null, .int 0, .int 0, .int 0, .int 0, .int 0])), (q8, .inl (dA 0, 200, .inl (fun _ => 0)))] H := hP
  have hD := gzd hP hD
  refine lv_aload_n hx hb dX6_init_18 rfl (lv_at hl 0 rfl) ?_
  refine va_new (ci := 1) (fs := [.null]) (C := RX0) (T := TX0) (N := 1) hx hb hts (fun w h => gw_mem (inX0 w h)) tyX0 tyX0_ok hown (hts _ (gw_mem wjX6_19)) (hts _ (gw_mem wbX0)) (hts _ (gw_mem wnX0)) hK.1 hP hD hS hA rfl (fun j hj => by match j, hj with | 0, _ => rfl | n + 1, h => exact absurd h (Nat.not_lt.mpr (Nat.le_add_left _ n))) (Nat.le_of_ble_eq_true rfl) (Nat.le_of_ble_eq_true rfl) dX6_init_19 (fun q19 H hP hD hS => ?_)
  have hP : va_P (dC, dI) vwCl [(h0, .inr (6, [.ref q8, .int 0, .null, .int 0, .int 0, .int 0, .int 0, .int 0])), (q8, .inl (dA 0, 200, .inl (fun _ => 0))), (q19, .inr (1, [.null]))] H := hP
  have hD := gzd hP hD
  refine lv_dup hx hb dX6_init_22 rfl ?_
  have z23 := gzr (wc := [(q19, .inr (1, [.null]))]) hP [2] rfl
  have hSo := hS
  have hFr := va_free (wc := [(q19, .inr (1, [.null]))]) hD hS hA [2] z23
  refine va_callv (va_runI (As := []) (rest := [.ref q19, .ref h0]) ⟨hx, hb, hml, hown, hts⟩ (iX0 l dC dI dA q19 H.size) (gCIN 0 hts wcX0_init wmX6_21 wiX0_init wnX0 rfl (by decide +kernel) rfl rfl ⟨Nat.le_of_ble_eq_true rfl, Nat.le_of_ble_eq_true rfl⟩) (gPreS (gsub z23 hP) hK (gsubD z23 (by decide) hD)) rfl rfl hl.1 rfl (lv_room (Nat.le_of_ble_eq_true rfl)) dX6_init_23 ⟨Nat.le_of_ble_eq_true rfl, Nat.le_of_ble_eq_true rfl⟩) hS (fun q _ h => hFr q h) hFr (fun a23 t H1 locs ht hvm hw hB hz hk hS => ?_)
  replace hw : a23 0 = q19 := hw
  subst hw
  obtain ⟨hP, hD⟩ := gjn (w1 := wX0 dA a23 bT0) (wf := [(h0, .inr (6, [.ref q8, .int 0, .null, .int 0, .int 0, .int 0, .int 0, .int 0])), (q8, .inl (dA 0, 200, .inl (fun _ => 0))), ((a23 0), .inr (1, [.ref (a23 1)])), ((a23 1), .inl (dA 0, 36, .inl bT0))]) 2 hP hD hSo hA rfl rfl hk (by rw [← ht]; exact hB.1) hB.2
  clear hSo hFr hk hB hz
  generalize H1 = H at *
  have hP : va_P (dC, dI) vwCl [(h0, .inr (6, [.ref q8, .int 0, .null, .int 0, .int 0, .int 0, .int 0, .int 0])), (q8, .inl (dA 0, 200, .inl (fun _ => 0))), ((a23 0), .inr (1, [.ref (a23 1)])), ((a23 1), .inl (dA 0, 36, .inl bT0))] H := hP
  have hD := gzd hP hD
  refine va_putF (D := (dC, dI)) (ci := 6) (v := .ref (a23 0)) (ty := (.object "TurnedBonds$Bond")) (C := RX6) (T := TX6) (N := 8) hx hb hts (fun w h => gw_mem (inX6 w h)) tyX6 tyX6_ok nmX6 hown hK.1 hP hD hS 0 rfl rfl 2 (by decide) (hts _ (gw_mem wfX6_22)) (fun _ h9 => h9) rfl hin rfl (by decide +kernel) rfl rfl (Nat.le_of_ble_eq_true rfl) dX6_init_26 (fun H locs hP hD hS => ?_)
  have hP : va_P (dC, dI) vwCl [(h0, .inr (6, [.ref q8, .int 0, .ref (a23 0), .int 0, .int 0, .int 0, .int 0, .int 0])), (q8, .inl (dA 0, 200, .inl (fun _ => 0))), ((a23 0), .inr (1, [.ref (a23 1)])), ((a23 1), .inl (dA 0, 36, .inl bT0))] H := hP
  have hD := gzd hP hD
  refine lv_aload_n hx hb dX6_init_29 rfl (lv_at hl 0 rfl) ?_
  refine lv_iconst (v := 0) hx hb dX6_init_30 (by decide) ?_
  refine va_put (D := (dC, dI)) (ci := 6) (v := .int 0) (ty := .int) (C := RX6) (T := TX6) (N := 8) hx hb hts (fun w h => gw_mem (inX6 w h)) tyX6 tyX6_ok nmX6 hown hK.1 hP hD hS 0 rfl rfl 3 (by decide) (hts _ (gw_mem wfX6_26)) (fun _ h9 => h9) rfl (by decide +kernel) rfl rfl (Nat.le_of_ble_eq_true rfl) dX6_init_31 (fun H locs hP hD hS => ?_)
  have hP : va_P (dC, dI) vwCl [(h0, .inr (6, [.ref q8, .int 0, .ref (a23 0), .int 0, .int 0, .int 0, .int 0, .int 0])), (q8, .inl (dA 0, 200, .inl (fun _ => 0))), ((a23 0), .inr (1, [.ref (a23 1)])), ((a23 1), .inl (dA 0, 36, .inl bT0))] H := hP
  have hD := gzd hP hD
  refine lv_aload_n hx hb dX6_init_34 rfl (lv_at hl 0 rfl) ?_
  refine lv_iconst (v := 0) hx hb dX6_init_35 (by decide) ?_
  refine va_put (D := (dC, dI)) (ci := 6) (v := .int 0) (ty := .int) (C := RX6) (T := TX6) (N := 8) hx hb hts (fun w h => gw_mem (inX6 w h)) tyX6 tyX6_ok nmX6 hown hK.1 hP hD hS 0 rfl rfl 4 (by decide) (hts _ (gw_mem wfX6_29)) (fun _ h9 => h9) rfl (by decide +kernel) rfl rfl (Nat.le_of_ble_eq_true rfl) dX6_init_36 (fun H locs hP hD hS => ?_)
  have hP : va_P (dC, dI) vwCl [(h0, .inr (6, [.ref q8, .int 0, .ref (a23 0), .int 0, .int 0, .int 0, .int 0, .int 0])), (q8, .inl (dA 0, 200, .inl (fun _ => 0))), ((a23 0), .inr (1, [.ref (a23 1)])), ((a23 1), .inl (dA 0, 36, .inl bT0))] H := hP
  have hD := gzd hP hD
  refine lv_aload_n hx hb dX6_init_39 rfl (lv_at hl 0 rfl) ?_
  refine lv_iconst (v := 0) hx hb dX6_init_40 (by decide) ?_
  refine va_put (D := (dC, dI)) (ci := 6) (v := .int 0) (ty := .int) (C := RX6) (T := TX6) (N := 8) hx hb hts (fun w h => gw_mem (inX6 w h)) tyX6 tyX6_ok nmX6 hown hK.1 hP hD hS 0 rfl rfl 5 (by decide) (hts _ (gw_mem wfX6_32)) (fun _ h9 => h9) rfl (by decide +kernel) rfl rfl (Nat.le_of_ble_eq_true rfl) dX6_init_41 (fun H locs hP hD hS => ?_)
  have hP : va_P (dC, dI) vwCl [(h0, .inr (6, [.ref q8, .int 0, .ref (a23 0), .int 0, .int 0, .int 0, .int 0, .int 0])), (q8, .inl (dA 0, 200, .inl (fun _ => 0))), ((a23 0), .inr (1, [.ref (a23 1)])), ((a23 1), .inl (dA 0, 36, .inl bT0))] H := hP
  have hD := gzd hP hD
  refine lv_aload_n hx hb dX6_init_44 rfl (lv_at hl 0 rfl) ?_
  refine lv_iconst (v := 0) hx hb dX6_init_45 (by decide) ?_
  refine va_put (D := (dC, dI)) (ci := 6) (v := .int 0) (ty := .int) (C := RX6) (T := TX6) (N := 8) hx hb hts (fun w h => gw_mem (inX6 w h)) tyX6 tyX6_ok nmX6 hown hK.1 hP hD hS 0 rfl rfl 6 (by decide) (hts _ (gw_mem wfX6_35)) (fun _ h9 => h9) rfl (by decide +kernel) rfl rfl (Nat.le_of_ble_eq_true rfl) dX6_init_46 (fun H locs hP hD hS => ?_)
  have hP : va_P (dC, dI) vwCl [(h0, .inr (6, [.ref q8, .int 0, .ref (a23 0), .int 0, .int 0, .int 0, .int 0, .int 0])), (q8, .inl (dA 0, 200, .inl (fun _ => 0))), ((a23 0), .inr (1, [.ref (a23 1)])), ((a23 1), .inl (dA 0, 36, .inl bT0))] H := hP
  have hD := gzd hP hD
  refine lv_aload_n hx hb dX6_init_49 rfl (lv_at hl 0 rfl) ?_
  refine lv_iconst (v := 0) hx hb dX6_init_50 (by decide) ?_
  refine va_put (D := (dC, dI)) (ci := 6) (v := .int 0) (ty := .int) (C := RX6) (T := TX6) (N := 8) hx hb hts (fun w h => gw_mem (inX6 w h)) tyX6 tyX6_ok nmX6 hown hK.1 hP hD hS 0 rfl rfl 7 (by decide) (hts _ (gw_mem wfX6_38)) (fun _ h9 => h9) rfl (by decide +kernel) rfl rfl (Nat.le_of_ble_eq_true rfl) dX6_init_51 (fun H locs hP hD hS => ?_)
  have hP : va_P (dC, dI) vwCl [(h0, .inr (6, [.ref q8, .int 0, .ref (a23 0), .int 0, .int 0, .int 0, .int 0, .int 0])), (q8, .inl (dA 0, 200, .inl (fun _ => 0))), ((a23 0), .inr (1, [.ref (a23 1)])), ((a23 1), .inl (dA 0, 36, .inl bT0))] H := hP
  have hD := gzd hP hD
  refine W.widen (k := 3) (n := 237) (Nat.le_of_ble_eq_true rfl) (Nat.le_of_ble_eq_true rfl) ?_
  have hP9 : va_P (dC, dI) vwCl (wX6 dA (tb_ad [h0, q8, (a23 0), (a23 1)]) 0 0 0 0 0 0 (fun _ => 0) bT0) H := gsub (isC := [0, 1, 2, 3]) rfl hP
  have hD9 : va_D A (wX6 dA (tb_ad [h0, q8, (a23 0), (a23 1)]) 0 0 0 0 0 0 (fun _ => 0) bT0) := gsubD (isC := [0, 1, 2, 3]) rfl (by decide) hD
  exact W.vret hx hb hr (fun t ht _ => ⟨⟨tb_ad [h0, q8, (a23 0), (a23 1)], rfl, rfl, by rw [ht]; exact hP9, hD9⟩, hS.F ht⟩) hS.2.2 dX6_init_54
