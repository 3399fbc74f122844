/-! own base rows: the JDK's builder of a text, Latin-1 alone -/
def dgO (j : Nat) : Int32 := nI (48 + j % 10)
def dgT (j : Nat) : Int32 := nI (48 + j / 10)
def gV (U : State) : Prop := U.PrivateAt yJ5_ensureCapacityInternal_d00df ∧ U.PrivateAt yJ5_newCapacity_0f7a4
theorem pv_moved {u U : State} {y : MethodName} (hvm : u.vm.Alike U.vm) (h : u.PrivateAt y) : U.PrivateAt y := by
  have e1 : (u.setVm U.vm).methodNamed? y = u.methodNamed? y := State.methodNamed?_setVm hvm y
  intro mk meth h1 h2
  have h1' : (u.setVm U.vm).methodNamed? y = some mk := h1
  rw [e1] at h1'
  rw [hvm.method?] at h2
  exact h mk meth h1' h2
/-- the JDK's statics that it reads -/
def gT (d1 d2 : Nat) (A : Nat → Prop) (U : State) (H : Heap) : Prop :=
  va_Z "java/lang/String" "COMPACT_STRINGS" "Z" (.int 1) A U H ∧ va_Z "java/lang/Integer" "DigitOnes" "[B" (.ref d1) A U H ∧ va_T .byte d1 100 (fun j => .int (dgO j)) A U H ∧ va_Z "java/lang/Integer" "DigitTens" "[B" (.ref d2) A U H ∧ va_T .byte d2 100 (fun j => .int (dgT j)) A U H ∧ va_Zq "jdk/internal/util/Preconditions" "SIOOBE_FORMATTER" "Ljava/util/function/BiFunction;" A U H ∧ gV U
theorem gT.moved {d1 d2 : Nat} {A : Nat → Prop} {u U : State} {H : Heap} (hvm : u.vm.Alike U.vm) (h : gT d1 d2 A u H) : gT d1 d2 A U H :=
  ⟨va_Z.moved hvm h.1, va_Z.moved hvm h.2.1, va_T.moved hvm h.2.2.1, va_Z.moved hvm h.2.2.2.1, va_T.moved hvm h.2.2.2.2.1, va_Zq.moved hvm h.2.2.2.2.2.1, pv_moved hvm h.2.2.2.2.2.2.1, pv_moved hvm h.2.2.2.2.2.2.2⟩
theorem gT.kept {d1 d2 : Nat} {A : Nat → Prop} {U : State} {H H1 : Heap} (h : gT d1 d2 A U H) (hq : ∀ a : Nat, a < H.size → ¬ A a → H1[a]? = H[a]?) : gT d1 d2 A U H1 :=
  ⟨h.1.kept hq, h.2.1.kept hq, h.2.2.1.kept hq, h.2.2.2.1.kept hq, h.2.2.2.2.1.kept hq, h.2.2.2.2.2.1.kept hq, h.2.2.2.2.2.2⟩
theorem gT.narrow {d1 d2 : Nat} {A B : Nat → Prop} {U : State} {H : Heap} (h : gT d1 d2 A U H) (hAB : ∀ q, B q → A q) : gT d1 d2 B U H :=
  ⟨h.1.narrow hAB, h.2.1.narrow hAB, h.2.2.1.narrow hAB, h.2.2.2.1.narrow hAB, h.2.2.2.2.1.narrow hAB, h.2.2.2.2.2.1.narrow hAB, h.2.2.2.2.2.2⟩
def gPT (d1 d2 : Nat) (av : List Value) (D : va_G) (dA : Nat → ClassId) (ws : va_W) (sz : Nat) : Array Value → State → Prop := va_Pc av (fun U => U.heap.size = sz ∧ va_P D vwCl ws U.heap ∧ gK D dA U ∧ gT d1 d2 (va_A ws sz) U U.heap ∧ va_D (fun _ => True) ws)
theorem gPT_blind {d1 d2 : Nat} {av : List Value} {D : va_G} {dA : Nat → ClassId} {ws : va_W} {sz : Nat} : FrameBlind (gPT d1 d2 av D dA ws sz) := by
  intro a U g mk q
  obtain ⟨q0, q1, qP, qK, qE, qD⟩ := q
  exact ⟨q0, q1, qP, ⟨va_K.moved (u := U) (U := U.calling g mk a) (Vm.Alike.refl U.vm) qK.1, gN.same (u := U) (U := U.calling g mk a) rfl qK.2⟩, gT.moved (u := U) (U := U.calling g mk a) (Vm.Alike.refl U.vm) qE, qD⟩
theorem gPreST {d1 d2 : Nat} {s : State} {H : Heap} {locs : List Loc} {av : List Value} {D : va_G} {dA : Nat → ClassId} {ws : va_W} {A : Nat → Prop} (hE : gT d1 d2 A s s.heap) (hS : va_S A s.heap H locs) (hA : ∀ q, s.heap.size ≤ q → A q) (hP : va_P D vwCl ws H) (hK : gK D dA s) (hD : va_D A ws) : PreS s H (gPT d1 d2 av D dA ws H.size) av :=
  ⟨gPT_blind, fun U hU hW => ⟨rfl, by rw [hU], by rw [hU]; exact hP, hK.warm hW, by rw [hU]; exact gT.moved hW.alike ((hE.kept hS.2.1).narrow (gfree hD hS hA)), hD.weaken (fun _ _ _ _ => trivial)⟩⟩
theorem gPreVT {d1 d2 : Nat} {s : State} {H : Heap} {locs : List Loc} {av : List Value} {D : va_G} {dA : Nat → ClassId} {ws : va_W} {A : Nat → Prop} {a q0 ci : Nat} {C : String} {fs : List Value} (hE : gT d1 d2 A s s.heap) (hS : va_S A s.heap H locs) (hA : ∀ q, s.heap.size ≤ q → A q) (hP : va_P D vwCl ws H) (hK : gK D dA s) (hD : va_D A ws) (hc : (vwCl[ci]?).map Prod.fst = some C) (he : ws[q0]? = some (a, .inr (ci, fs))) : PreV s H C a (gPT d1 d2 (.ref a :: av) D dA ws H.size) av := by
  obtain ⟨q, hq, rfl⟩ := Option.map_eq_some_iff.mp hc
  exact ⟨gPT_blind, va_recv hK.1 hP hq he, (gPreST hE hS hA hP hK hD).2⟩
/-- the world of a builder -/
def sbW (dA : Nat → ClassId) (b v : Nat) (ml ct : Int32) (n : Nat) (f : Nat → Int32) : va_W := [(b, .inr (0, [.ref v, .int 0, .int ml, .int ct])), (v, .inl (dA 2, n, .inl f))]
/-- the builder's row of n bytes holds the text L -/
def sbH (L : List Nat) (n : Nat) (f : Nat → Int32) : Prop := sb_Lat (fun i => L.getD i 0) L.length f ∧ sb_Fit f ∧ L.length ≤ n
/-- what comes back of a builder: its row may be another, or another kind of mark -/
def sbQv (D : va_G) (post : (Nat → Int32) → Prop) (Wf : Nat → Int32 → (Nat → Int32) → va_W) (A : Nat → Prop) : Array Value → State → Outcome → State → Prop := va_Qv (fun (u : Nat × Int32 × (Nat → Int32)) => post u.2.2) (fun u t => va_P D vwCl (Wf u.1 u.2.1 u.2.2) t.heap ∧ va_D A (Wf u.1 u.2.1 u.2.2)) A
def sbQr (D : va_G) (b : Nat) (post : (Nat → Int32) → Prop) (Wf : Nat → Int32 → (Nat → Int32) → va_W) (A : Nat → Prop) : Array Value → State → Outcome → State → Prop := va_Qr (fun (u : Nat × Int32 × (Nat → Int32)) => post u.2.2) (fun u a t => a = b ∧ va_P D vwCl (Wf u.1 u.2.1 u.2.2) t.heap ∧ va_D A (Wf u.1 u.2.1 u.2.2)) A
theorem tb_selP {y : MethodName} {s : State} {args : Array Value} (hy : y.cls ≠ "java/lang/invoke/MethodHandle" ∧ y.cls ≠ "java/lang/invoke/VarHandle") (hyc : y.cls = RJ5) (h1 : (Cond.selects RJ4 yJ5_isLatin1_aae02 yJ5_isLatin1_aae02).before args s = true) (hpriv : s.PrivateAt y) (hinst : (Cond.instanceMethod y).before args s = true) : (Cond.selects RJ4 y y).before args s = true := by
  obtain ⟨c2, r2, m2, q1, q2, q3, q4, kP, hkP, hkPi⟩ := Cond.selects_spec h1
  obtain ⟨mk, methM, hnamed, hmethM, -, -⟩ := Cond.instanceMethod_spec hinst
  have hfound : s.methodFound? y.cls y.name y.desc = some mk := State.methodFound?_of_named hnamed hy
  have hcls : mk.cls = m2.cls := Option.some.inj ((findClass_of_methodNamed hnamed).symm.trans (by rw [hyc]; exact findClass_of_methodNamed q3))
  have hsel : selectMethod {} s.vm c2 mk = .method mk := selectMethod_private hmethM (hpriv mk methM hnamed hmethM)
  simp only [Cond.before, Cond.holds, Cond.value, q1, hfound, hnamed, hsel, hcls, hkP]
  simp [hkPi]
/-- the words of a call of a private method of the builder -/
theorem gCP {R : Room} {s : State} {args : Array Value} {index maxL : Nat} {y : MethodName} {bytes : ByteArray} {ret : Option FieldType} {c0 : Cond} {rm : Room} {mc ms : Nat} (n : Nat) (ht : ∀ w ∈ wq c0, w.before args s = true)
    (hc : Cond.code y bytes maxL ret ∈ gw) (hl : Cond.methodLink RJ5 index y ∈ gw) (hi : Cond.instanceMethod y ∈ gw) (hp : s.PrivateAt y) (hyc : y.cls = RJ5) (hin : Cond.initialized y.cls ∈ gw)
    (hd : y.cls ≠ "java/lang/invoke/MethodHandle" ∧ y.cls ≠ "java/lang/invoke/VarHandle" ∧ (parseMethodDescriptor y.desc).map (fun d => d.parameters.length) = some n) (hrc : rm.cells = mc) (hrs : rm.slots = ms) (hR : rm.frames + 1 ≤ R.frames ∧ 8 + (maxL + 11) + rm.locals ≤ R.locals) :
    CallW R s args RJ5 RJ4 index y bytes maxL ret (wq (.code y bytes maxL ret)) rm mc ms n :=
  ⟨callB_of n ht (gw_I hc) rfl hrc hrs (ht _ (gw_mem hin)) (ht _ (gw_mem hl)) hd hR, ht _ (gw_mem hi), tb_selP ⟨hd.1, hd.2.1⟩ hyc (ht _ (gw_mem we_1104)) hp (ht _ (gw_mem hi))⟩
/-- the words of a super call of the builder -/
theorem gCU {R : Room} {s : State} {args : Array Value} {index maxL : Nat} {y : MethodName} {bytes : ByteArray} {ret : Option FieldType} {c0 : Cond} {rm : Room} {mc ms : Nat} (n : Nat) (ht : ∀ w ∈ wq c0, w.before args s = true)
    (hc : Cond.code y bytes maxL ret ∈ gw) (hl : Cond.methodLink RJ4 index y ∈ gw) (hsm : Cond.sameMethod y.cls y.cls y.name y.desc ∈ gw) (hsu : Cond.superclass RJ4 y.cls ∈ gw) (hi : Cond.instanceMethod y ∈ gw) (hin : Cond.initialized y.cls ∈ gw)
    (hd : y.name ≠ "<init>" ∧ (parseMethodDescriptor y.desc).map (fun d => d.parameters.length) = some n) (hrc : rm.cells = mc) (hrs : rm.slots = ms) (hR : rm.frames + 1 ≤ R.frames ∧ 8 + (maxL + 11) + rm.locals ≤ R.locals) :
    va_CS R s args RJ4 index y bytes maxL ret (wq (.code y bytes maxL ret)) rm mc ms n :=
  ⟨⟨hrc, hrs, hR.1, hR.2, pay_in ht (gw_I hc), List.mem_cons_self⟩, ht _ (gw_mem hl), ht _ (gw_mem hsm), ht _ (gw_mem hsu), ht _ (gw_mem hi), ht _ (gw_mem hin), ht _ (gw_mem hc), hd.1, fun sig h => by
    have h2 := hd.2
    rw [h] at h2
    exact (Option.some.inj h2).symm⟩
def fJ8_newLength_cabcc (p0 : Int32) (p1 : Int32) (p2 : Int32) : Option (Int32) := nm (p0 + (if p1 < p2 then p2 else p1)) (fun w1 => if w1 ≤ 0 then none else if 2147483639 < w1 then none else some (w1))
abbrev rmJ8_newLength_cabcc : Room := { frames := 1, cells := 0, slots := 0, locals := 23 }
set_option maxHeartbeats 4000000 in
set_option maxRecDepth 100000 in
theorem tJ8_newLength_cabcc (l : Launch) (dC : Nat → ClassId) (dI : Nat → Nat → Nat) (dA : Nat → ClassId) (sz : Nat) {p0 : Int32} {p1 : Int32} {p2 : Int32} {r : Int32} (hf : fJ8_newLength_cabcc p0 p1 p2 = some (r)) : Met l yJ8_newLength_cabcc (wq (Cond.code yJ8_newLength_cabcc cJ8_newLength_cabcc 4 (some .int))) rmJ8_newLength_cabcc (gP [.int p0, .int p1, .int p2] (dC, dI) dA [] sz) (gQi (dC, dI) r [] (va_A [] sz)) 0 0 (va_A [] sz) := by
  refine Met.ofW (cc := cJ8_newLength_cabcc) (maxL := 4) (ret := (some .int)) (by decide) rfl ?_
  intro p e s m args below meth c s₁ B hml hv
  obtain ⟨rfl, hsz, hP, hK, hD0⟩ := hv
  have hx := B.exec
  have hb := B.bytes
  have hr := B.returns
  have hts := atoms_spec (ws := wq (Cond.code yJ8_newLength_cabcc cJ8_newLength_cabcc 4 (some .int))) B.pre
  have hown : s.vm.findClass RJ8 = some m.cls := findClass_of_methodNamed B.named
  have hlocks := B.notSynchronized
  clear B
  subst hsz
  have hD := hD0.self (sz := s.heap.size)
  generalize hAe : va_A [] s.heap.size = A at hD ⊢
  have hA : ∀ q : Nat, s.heap.size ≤ q → A q := fun q h => by rw [← hAe]; exact Or.inr h
  clear hAe hD0
  have hS : va_S A s.heap s.heap [] := va_S.rf
  have hl := lv_entry ([.int p0, .int p1, .int p2]) (n := 4) (Nat.le_of_ble_eq_true rfl)
  rw [lg_entry_eq]
  generalize (lg_sl ([.int p0, .int p1, .int p2]) ++ List.replicate (4 - (lg_sl ([.int p0, .int p1, .int p2])).length) Slot.unset).toArray = ls at hl ⊢
  have hl : lv_has ls 4 [(0, .int p0), (1, .int p1), (2, .int p2)] := hl
  change W p l e rmJ8_newLength_cabcc s m ([.int p0, .int p1, .int p2] : List Value).toArray below meth c s.heap [] 0 0 _ _
  unfold fJ8_newLength_cabcc at hf
  refine lv_iload_n hx hb dJ8_newLength_cabcc_0 rfl (lv_at hl 0 rfl) ?_
  refine lv_iload_n hx hb dJ8_newLength_cabcc_1 rfl (lv_at hl 1 rfl) ?_
  refine lv_iload_n hx hb dJ8_newLength_cabcc_2 rfl (lv_at hl 2 rfl) ?_
  refine va_mmax hx hb (hml.trans hl.1.symm) hown (hts _ (gw_mem wmJ8_194)) (hts _ (gw_mem wtJ9_max_7cf53)) (hts _ (gw_mem wnJ9)) (hts _ (gw_mem wcJ9_max_7cf53)) (Nat.le_of_ble_eq_true rfl) (Nat.le_of_ble_eq_true rfl) (Nat.le_of_ble_eq_true rfl) (Nat.le_of_ble_eq_true rfl) dJ8_newLength_cabcc_3 ?_
  refine lv_iadd hx hb dJ8_newLength_cabcc_6 ?_
  refine lv_topi (fun w1 ew1 => ?_)
  replace hf := nm_at hf ew1
  refine lv_istore_n (lv' := [(3, .int w1), (0, .int p0), (1, .int p1), (2, .int p2)]) hx hb dJ8_newLength_cabcc_7 rfl hl (by decide) rfl (fun ls hl => ?_)
  refine lv_iconst (v := 0) hx hb dJ8_newLength_cabcc_8 (by decide) ?_
  refine lv_iload_n hx hb dJ8_newLength_cabcc_9 rfl (lv_at hl 0 rfl) ?_
  refine lv_icmp_ge (tgt := 21) hx hb dJ8_newLength_cabcc_10 (by decide) (fun k2 => ?_) (fun k2 => ?_)
  · replace hf := ifp k2 hf
    refine lv_iload_n hx hb dJ8_newLength_cabcc_21 rfl (lv_at hl 1 rfl) ?_
    refine lv_iload_n hx hb dJ8_newLength_cabcc_22 rfl (lv_at hl 2 rfl) ?_
    cases hf
  · replace hf := ifn k2 hf
    refine lv_iload_n hx hb dJ8_newLength_cabcc_13 rfl (lv_at hl 0 rfl) ?_
    refine lv_ldc (v := 2147483639) hx hb hown (hts _ (gw_mem wkJ8_200)) dJ8_newLength_cabcc_14 ?_
    refine lv_icmp_gt (tgt := 21) hx hb dJ8_newLength_cabcc_16 (by decide) (fun k3 => ?_) (fun k3 => ?_)
    · replace hf := ifp k3 hf
      refine lv_iload_n hx hb dJ8_newLength_cabcc_21 rfl (lv_at hl 1 rfl) ?_
      refine lv_iload_n hx hb dJ8_newLength_cabcc_22 rfl (lv_at hl 2 rfl) ?_
      cases hf
    · replace hf := ifn k3 hf
      refine lv_iload_n hx hb dJ8_newLength_cabcc_19 rfl (lv_at hl 0 rfl) ?_
      cases hf
      exact W.iret hx hb hr (fun t ht _ => gqi hP hD hS ht) hS.2.2 dJ8_newLength_cabcc_20
def lpJ6_stringSize_0f7a4_16 (x0 : Int32) (x1 : Int32) : Nat → Int32 → Int32 → Option (Nat × Int32)
  | 0, _, _ => none
  | n + 1, x2, x3 => if 10 ≤ x3 then some (1, x3) else if x0 ≤ x2 then nm (10 * x2) (fun w12 => nm (x3 + 1) (fun w13 => lpJ6_stringSize_0f7a4_16 x0 x1 n w12 w13)) else some (0, x3)
def fJ6_stringSize_0f7a4 (p0 : Int32) : Option (Int32) := bd2 (if p0 < 0 then some (p0, 1) else nm (-p0) (fun w9 => some (w9, 0))) (fun (j2 : Int32) (j3 : Int32) => bd2 (lpJ6_stringSize_0f7a4_16 j2 j3 FU (-10) 1) (fun tg6 x7 => if tg6 = 0 then some (x7 + j3) else some (10 + j3)))
abbrev rmJ6_stringSize_0f7a4 : Room := { frames := 0, cells := 0, slots := 0, locals := 0 }
set_option maxHeartbeats 4000000 in
set_option maxRecDepth 100000 in
theorem tJ6_stringSize_0f7a4 (l : Launch) (dC : Nat → ClassId) (dI : Nat → Nat → Nat) (dA : Nat → ClassId) (sz : Nat) {p0 : Int32} {r : Int32} (hf : fJ6_stringSize_0f7a4 p0 = some (r)) : Met l yJ6_stringSize_0f7a4 (wq (Cond.code yJ6_stringSize_0f7a4 cJ6_stringSize_0f7a4 4 (some .int))) rmJ6_stringSize_0f7a4 (gP [.int p0] (dC, dI) dA [] sz) (gQi (dC, dI) r [] (va_A [] sz)) 0 0 (va_A [] sz) := by
  refine Met.ofW (cc := cJ6_stringSize_0f7a4) (maxL := 4) (ret := (some .int)) (by decide) rfl ?_
  intro p e s m args below meth c s₁ B hml hv
  obtain ⟨rfl, hsz, hP, hK, hD0⟩ := hv
  have hx := B.exec
  have hb := B.bytes
  have hr := B.returns
  have hts := atoms_spec (ws := wq (Cond.code yJ6_stringSize_0f7a4 cJ6_stringSize_0f7a4 4 (some .int))) B.pre
  have hown : s.vm.findClass RJ6 = some m.cls := findClass_of_methodNamed B.named
  have hlocks := B.notSynchronized
  clear B
  subst hsz
  have hD := hD0.self (sz := s.heap.size)
  generalize hAe : va_A [] s.heap.size = A at hD ⊢
  have hA : ∀ q : Nat, s.heap.size ≤ q → A q := fun q h => by rw [← hAe]; exact Or.inr h
  clear hAe hD0
  have hS : va_S A s.heap s.heap [] := va_S.rf
  have hl := lv_entry ([.int p0]) (n := 4) (Nat.le_of_ble_eq_true rfl)
  rw [lg_entry_eq]
  generalize (lg_sl ([.int p0]) ++ List.replicate (4 - (lg_sl ([.int p0])).length) Slot.unset).toArray = ls at hl ⊢
  have hl : lv_has ls 4 [(0, .int p0)] := hl
  change W p l e rmJ6_stringSize_0f7a4 s m ([.int p0] : List Value).toArray below meth c s.heap [] 0 0 _ _
  generalize hQ : MQ below (gQi (dC, dI) r [] A) ([.int p0] : List Value).toArray s 0 0 A = Q
  have LP16 : ∀ (n : Nat) (x0 : Int32) (x1 : Int32) (x2 : Int32) (x3 : Int32) (tgo : Nat) (o3 : Int32) (H : Heap) (locs : List Loc) (ls : Array Slot), va_P (dC, dI) vwCl [] H → va_D A [] → va_S A s.heap H locs → lpJ6_stringSize_0f7a4_16 x0 x1 n x2 x3 = some (tgo, o3) → lv_has ls 4 [(0, .int x0), (1, .int x1), (2, .int x2), (3, .int x3)] → (tgo = 0 → ∀ (H : Heap) (locs : List Loc) (ls : Array Slot), va_P (dC, dI) vwCl [] H → va_D A [] → va_S A s.heap H locs → lv_has ls 4 [(1, .int x1), (3, .int o3)] → W p l e rmJ6_stringSize_0f7a4 s m ([.int p0] : List Value).toArray below meth c H locs 0 0 Q (F0 m 27 ls [])) → (tgo = 1 → ∀ (H : Heap) (locs : List Loc) (ls : Array Slot), va_P (dC, dI) vwCl [] H → va_D A [] → va_S A s.heap H locs → lv_has ls 4 [(1, .int x1)] → W p l e rmJ6_stringSize_0f7a4 s m ([.int p0] : List Value).toArray below meth c H locs 0 0 Q (F0 m 42 ls [])) → W p l e rmJ6_stringSize_0f7a4 s m ([.int p0] : List Value).toArray below meth c H locs 0 0 Q (F0 m 16 ls []) := by
    intro n
    induction n with
    | zero =>
      intro x0 x1 x2 x3 tgo o3 H locs ls hP hD hS hf hl hk0 hk1
      cases hf
    | succ n ih16 =>
      intro x0 x1 x2 x3 tgo o3 H locs ls hP hD hS hf hl hk0 hk1
      rw [lpJ6_stringSize_0f7a4_16.eq_2] at hf
      refine lv_iload_n hx hb dJ6_stringSize_0f7a4_16 rfl (lv_at hl 3 rfl) ?_
      refine lv_bipush (v := 10) hx hb dJ6_stringSize_0f7a4_17 (by decide) ?_
      refine lv_icmp_ge (tgt := 42) hx hb dJ6_stringSize_0f7a4_19 (by decide) (fun k10 => ?_) (fun k10 => ?_)
      · replace hf := ifp k10 hf
        cases hf
        exact hk1 rfl _ _ _ hP hD hS (lv_sub hl [1] rfl)
      · replace hf := ifn k10 hf
        refine lv_iload_n hx hb dJ6_stringSize_0f7a4_22 rfl (lv_at hl 0 rfl) ?_
        refine lv_iload_n hx hb dJ6_stringSize_0f7a4_23 rfl (lv_at hl 2 rfl) ?_
        refine lv_icmp_le (tgt := 31) hx hb dJ6_stringSize_0f7a4_24 (by decide) (fun k11 => ?_) (fun k11 => ?_)
        · replace hf := ifp k11 hf
          refine lv_bipush (v := 10) hx hb dJ6_stringSize_0f7a4_31 (by decide) ?_
          refine lv_iload_n hx hb dJ6_stringSize_0f7a4_33 rfl (lv_at hl 2 rfl) ?_
          refine lv_imul hx hb dJ6_stringSize_0f7a4_34 ?_
          refine lv_topi (fun w12 ew12 => ?_)
          replace hf := nm_at hf ew12
          refine lv_istore_n (lv' := [(2, .int w12), (0, .int x0), (1, .int x1), (3, .int x3)]) hx hb dJ6_stringSize_0f7a4_35 rfl hl (by decide) rfl (fun ls hl => ?_)
          obtain ⟨w13, ew13⟩ : ∃ y : Int32, y = x3 + 1 := ⟨_, rfl⟩
          replace hf := nm_at hf ew13
          refine lv_iinc (v := w13) (lv' := [(3, .int w13), (2, .int w12), (0, .int x0), (1, .int x1)]) hx hb dJ6_stringSize_0f7a4_36 hl (k := 3) rfl (by rw [ew13]; rfl) (by decide) rfl (fun ls hl => ?_)
          refine lv_goto (tgt := 16) hx hb dJ6_stringSize_0f7a4_39 (by decide) ?_
          exact ih16 _ _ _ _ _ _ _ _ _ hP hD hS hf (lv_sub hl [2, 3, 1, 0] rfl) hk0 hk1
        · replace hf := ifn k11 hf
          cases hf
          exact hk0 rfl _ _ _ hP hD hS (lv_sub hl [1, 3] rfl)
  subst hQ
  unfold fJ6_stringSize_0f7a4 at hf
  refine lv_iconst (v := 1) hx hb dJ6_stringSize_0f7a4_0 (by decide) ?_
  refine lv_istore_n (lv' := [(1, .int 1), (0, .int p0)]) hx hb dJ6_stringSize_0f7a4_1 rfl hl (by decide) rfl (fun ls hl => ?_)
  refine lv_iload_n hx hb dJ6_stringSize_0f7a4_2 rfl (lv_at hl 1 rfl) ?_
  obtain ⟨j2, j3, v5, hf⟩ := bd2_some hf
  have J4 : ∀ (H : Heap) (locs : List Loc) (ls : Array Slot), va_P (dC, dI) vwCl [] H → va_D A [] → va_S A s.heap H locs → lv_has ls 4 [(0, .int j2), (1, .int j3)] → W p l e rmJ6_stringSize_0f7a4 s m ([.int p0] : List Value).toArray below meth c H locs 0 0 (MQ below (gQi (dC, dI) r [] A) ([.int p0] : List Value).toArray s 0 0 A) (F0 m 11 ls []) := by
    intro H locs ls hP hD hS hl
    refine lv_bipush (v := (-10)) hx hb dJ6_stringSize_0f7a4_11 (by decide) ?_
    refine lv_istore_n (lv' := [(2, .int (-10)), (0, .int j2), (1, .int j3)]) hx hb dJ6_stringSize_0f7a4_13 rfl hl (by decide) rfl (fun ls hl => ?_)
    refine lv_iconst (v := 1) hx hb dJ6_stringSize_0f7a4_14 (by decide) ?_
    refine lv_istore_n (lv' := [(3, .int 1), (2, .int (-10)), (0, .int j2), (1, .int j3)]) hx hb dJ6_stringSize_0f7a4_15 rfl hl (by decide) rfl (fun ls hl => ?_)
    obtain ⟨tg6, x7, v8, hf⟩ := bd2_some hf
    refine LP16 FU _ _ _ _ _ _ _ _ _ hP hD hS v8 (lv_sub hl [2, 3, 1, 0] rfl) (fun etg6 H locs ls hP hD hS hl => ?_) (fun etg6 H locs ls hP hD hS hl => ?_)
    · replace hf := ifp etg6 hf
      refine lv_iload_n hx hb dJ6_stringSize_0f7a4_27 rfl (lv_at hl 1 rfl) ?_
      refine lv_iload_n hx hb dJ6_stringSize_0f7a4_28 rfl (lv_at hl 0 rfl) ?_
      refine lv_iadd hx hb dJ6_stringSize_0f7a4_29 ?_
      cases hf
      exact W.iret hx hb hr (fun t ht _ => gqi hP hD hS ht) hS.2.2 dJ6_stringSize_0f7a4_30
    · replace hf := ifn (c := tg6 = 0) (by rw [etg6]; decide) hf
      refine lv_bipush (v := 10) hx hb dJ6_stringSize_0f7a4_42 (by decide) ?_
      refine lv_iload_n hx hb dJ6_stringSize_0f7a4_44 rfl (lv_at hl 0 rfl) ?_
      refine lv_iadd hx hb dJ6_stringSize_0f7a4_45 ?_
      cases hf
      exact W.iret hx hb hr (fun t ht _ => gqi hP hD hS ht) hS.2.2 dJ6_stringSize_0f7a4_46
  replace hf := v5
  clear v5
  refine lv_if_lt (tgt := 11) hx hb dJ6_stringSize_0f7a4_3 (by decide) (fun k1 => ?_) (fun k1 => ?_)
  · replace hf := ifp k1 hf
    cases hf
    exact J4 _ _ _ hP hD hS (lv_sub hl [1, 0] rfl)
  · replace hf := ifn k1 hf
    refine lv_iconst (v := 0) hx hb dJ6_stringSize_0f7a4_6 (by decide) ?_
    refine lv_istore_n (lv' := [(1, .int 0), (0, .int p0)]) hx hb dJ6_stringSize_0f7a4_7 rfl hl (by decide) rfl (fun ls hl => ?_)
    refine lv_iload_n hx hb dJ6_stringSize_0f7a4_8 rfl (lv_at hl 1 rfl) ?_
    refine lv_ineg hx hb dJ6_stringSize_0f7a4_9 ?_
    refine lv_topi (fun w9 ew9 => ?_)
    replace hf := nm_at hf ew9
    refine lv_istore_n (lv' := [(0, .int w9), (1, .int 0)]) hx hb dJ6_stringSize_0f7a4_10 rfl hl (by decide) rfl (fun ls hl => ?_)
    cases hf
    exact J4 _ _ _ hP hD hS (lv_sub hl [0, 1] rfl)
def fJ1_canEncode_fc78d (p0 : Int32) : Option (Int32) := bd1 (if 255 < p0 then some (0) else some (1)) (fun (j2 : Int32) => og (boB j2) (some (j2)))
abbrev rmJ1_canEncode_fc78d : Room := { frames := 0, cells := 0, slots := 0, locals := 0 }
set_option maxHeartbeats 4000000 in
set_option maxRecDepth 100000 in
theorem tJ1_canEncode_fc78d (l : Launch) (dC : Nat → ClassId) (dI : Nat → Nat → Nat) (dA : Nat → ClassId) (sz : Nat) {p0 : Int32} {r : Int32} (hf : fJ1_canEncode_fc78d p0 = some (r)) : Met l yJ1_canEncode_fc78d (wq (Cond.code yJ1_canEncode_fc78d cJ1_canEncode_fc78d 1 (some .boolean))) rmJ1_canEncode_fc78d (gP [.int p0] (dC, dI) dA [] sz) (gQi (dC, dI) r [] (va_A [] sz)) 0 0 (va_A [] sz) := by
  refine Met.ofW (cc := cJ1_canEncode_fc78d) (maxL := 1) (ret := (some .boolean)) (by decide) rfl ?_
  intro p e s m args below meth c s₁ B hml hv
  obtain ⟨rfl, hsz, hP, hK, hD0⟩ := hv
  have hx := B.exec
  have hb := B.bytes
  have hr := B.returns
  have hts := atoms_spec (ws := wq (Cond.code yJ1_canEncode_fc78d cJ1_canEncode_fc78d 1 (some .boolean))) B.pre
  have hown : s.vm.findClass RJ1 = some m.cls := findClass_of_methodNamed B.named
  have hlocks := B.notSynchronized
  clear B
  subst hsz
  have hD := hD0.self (sz := s.heap.size)
  generalize hAe : va_A [] s.heap.size = A at hD ⊢
  have hA : ∀ q : Nat, s.heap.size ≤ q → A q := fun q h => by rw [← hAe]; exact Or.inr h
  clear hAe hD0
  have hS : va_S A s.heap s.heap [] := va_S.rf
  have hl := lv_entry ([.int p0]) (n := 1) (Nat.le_of_ble_eq_true rfl)
  rw [lg_entry_eq]
  generalize (lg_sl ([.int p0]) ++ List.replicate (1 - (lg_sl ([.int p0])).length) Slot.unset).toArray = ls at hl ⊢
  have hl : lv_has ls 1 [(0, .int p0)] := hl
  change W p l e rmJ1_canEncode_fc78d s m ([.int p0] : List Value).toArray below meth c s.heap [] 0 0 _ _
  unfold fJ1_canEncode_fc78d at hf
  refine lv_iload_n hx hb dJ1_canEncode_fc78d_0 rfl (lv_at hl 0 rfl) ?_
  refine lv_sipush (v := 255) hx hb dJ1_canEncode_fc78d_1 (by decide) ?_
  obtain ⟨j2, v4, hf⟩ := bd1_some hf
  have J3 : ∀ (H : Heap) (locs : List Loc) (ls : Array Slot), va_P (dC, dI) vwCl [] H → va_D A [] → va_S A s.heap H locs → lv_has ls 1 [] → W p l e rmJ1_canEncode_fc78d s m ([.int p0] : List Value).toArray below meth c H locs 0 0 (MQ below (gQi (dC, dI) r [] A) ([.int p0] : List Value).toArray s 0 0 A) (F0 m 12 ls [.int j2]) := by
    intro H locs ls hP hD hS hl
    obtain ⟨h5, hf⟩ := og_some hf
    cases hf
    exact W.zret (ty := .boolean) hx hb hr (boB_nar h5) (fun t ht _ => gqi hP hD hS ht) hS.2.2 dJ1_canEncode_fc78d_12
  replace hf := v4
  clear v4
  refine lv_icmp_gt (tgt := 11) hx hb dJ1_canEncode_fc78d_4 (by decide) (fun k1 => ?_) (fun k1 => ?_)
  · replace hf := ifp k1 hf
    refine lv_iconst (v := 0) hx hb dJ1_canEncode_fc78d_11 (by decide) ?_
    cases hf
    exact J3 _ _ _ hP hD hS (lv_sub hl [] rfl)
  · replace hf := ifn k1 hf
    refine lv_iconst (v := 1) hx hb dJ1_canEncode_fc78d_7 (by decide) ?_
    refine lv_goto (tgt := 12) hx hb dJ1_canEncode_fc78d_8 (by decide) ?_
    cases hf
    exact J3 _ _ _ hP hD hS (lv_sub hl [] rfl)
abbrev rmisLat : Room := { frames := 0, cells := 0, slots := 0, locals := 0 }
set_option maxHeartbeats 4000000 in
set_option maxRecDepth 100000 in
theorem tisLat (l : Launch) (dC : Nat → ClassId) (dI : Nat → Nat → Nat) (dA : Nat → ClassId) (d1 d2 : Nat) (sz : Nat) (b v : Nat) (ml ct : Int32) (n : Nat) (f : Nat → Int32)  : Met l yJ5_isLatin1_aae02 (wq (Cond.code yJ5_isLatin1_aae02 cJ5_isLatin1_aae02 1 (some .boolean))) rmisLat (gPT d1 d2 [.ref b] (dC, dI) dA (sbW dA b v ml ct n f) sz) (gQi (dC, dI) 1 (sbW dA b v ml ct n f) (va_A (sbW dA b v ml ct n f) sz)) 0 0 (va_A (sbW dA b v ml ct n f) sz) := by
  refine Met.ofW (cc := cJ5_isLatin1_aae02) (maxL := 1) (ret := (some .boolean)) (by decide) rfl ?_
  intro p e s m args below meth c s₁ B hml hv
  obtain ⟨rfl, hsz, hP, hK, hE, hD0⟩ := hv
  have hx := B.exec
  have hb := B.bytes
  have hr := B.returns
  have hts := atoms_spec (ws := wq (Cond.code yJ5_isLatin1_aae02 cJ5_isLatin1_aae02 1 (some .boolean))) B.pre
  have hown : s.vm.findClass RJ5 = some m.cls := findClass_of_methodNamed B.named
  have hlocks := B.notSynchronized
  clear B
  subst hsz
  have hD := hD0.self (sz := s.heap.size)
  generalize hAe : va_A (sbW dA b v ml ct n f) s.heap.size = A at hD hE ⊢
  have hA : ∀ q : Nat, s.heap.size ≤ q → A q := fun q h => by rw [← hAe]; exact Or.inr h
  clear hAe hD0
  have hS : va_S A s.heap s.heap [] := va_S.rf
  have hl := lv_entry ([.ref b]) (n := 1) (Nat.le_of_ble_eq_true rfl)
  rw [lg_entry_eq]
  generalize (lg_sl ([.ref b]) ++ List.replicate (1 - (lg_sl ([.ref b])).length) Slot.unset).toArray = ls at hl ⊢
  have hl : lv_has ls 1 [(0, .ref b)] := hl
  change W p l e rmisLat s m (([.ref b] : List Value).toArray) below meth c s.heap [] 0 0 _ _
  refine va_gets hx hb hE.1 hS hown (hts _ (gw_mem wfJ5_18)) (fun _ h => h) dJ5_isLatin1_aae02_0 ?_
  refine lv_if_eq (tgt := 17) hx hb dJ5_isLatin1_aae02_3 (by decide) (fun k9 => absurd k9 (by decide)) (fun k9 => ?_)
  refine lv_aload_n hx hb dJ5_isLatin1_aae02_6 rfl (lv_at hl 0 rfl) ?_
  refine va_get (D := (dC, dI)) (ci := 0) (v := .int 0) (C := RJ4) (T := TJ4) (N := 4) hx hb hts (fun w h => gw_mem (inJ4 w h)) hown hK.1 hP 0 rfl rfl 1 (by decide) (hts _ (gw_mem wfJ5_22)) (fun _ h9 => h9) rfl dJ5_isLatin1_aae02_7 ?_
  refine lv_if_ne (tgt := 17) hx hb dJ5_isLatin1_aae02_10 (by decide) (fun k9 => absurd k9 (by decide)) (fun k9 => ?_)
  refine lv_iconst (v := 1) hx hb dJ5_isLatin1_aae02_13 (by decide) ?_
  refine lv_goto (tgt := 18) hx hb dJ5_isLatin1_aae02_14 (by decide) ?_
  exact W.zret (ty := .boolean) hx hb hr rfl (fun t ht _ => gqi hP hD hS ht) hS.2.2 dJ5_isLatin1_aae02_18
theorem nl_eq {q n : Nat} (h : n < q) (hq : q ≤ 1000) : fJ8_newLength_cabcc (nI n) (nI (q - n)) (nI (n + 2)) = some (nI (sb_cap q n)) := by
  have hc : sb_cap q n = n + (if q - n < n + 2 then n + 2 else q - n) := by
    unfold sb_cap
    rw [if_neg (by omega)]
    split <;> split <;> omega
  have e3 : nI n + (if nI (q - n) < nI (n + 2) then nI (n + 2) else nI (q - n)) = nI (sb_cap q n) := by
    rw [hc]
    by_cases h2 : q - n < n + 2
    · rw [if_pos h2, if_pos (nI_lt h2 (by omega))]; exact nI_add n (n + 2)
    · rw [if_neg h2, if_neg (nI_nlt (by omega) (by omega))]; exact nI_add n (q - n)
  have hcb : 0 < sb_cap q n ∧ sb_cap q n < 10000 := by
    rw [hc]; split <;> omega
  unfold fJ8_newLength_cabcc
  simp only [nm_mk]
  rw [e3, if_neg (nI_nle hcb.1 (by omega)), if_neg (show ¬ (2147483639 : Int32) < nI (sb_cap q n) from nI_nlt (a := 2147483639) (by omega) (by omega))]
abbrev rmnewCap : Room := { frames := 2, cells := 0, slots := 0, locals := 46 }
set_option maxHeartbeats 4000000 in
set_option maxRecDepth 100000 in
theorem tnewCap (l : Launch) (dC : Nat → ClassId) (dI : Nat → Nat → Nat) (dA : Nat → ClassId) (sz : Nat) (b v : Nat) (ml ct : Int32) (n : Nat) (f : Nat → Int32) (q : Nat) (hq : n < q) (hq2 : q ≤ 1000) : Met l yJ5_newCapacity_0f7a4 (wq (Cond.code yJ5_newCapacity_0f7a4 cJ5_newCapacity_0f7a4 6 (some .int))) rmnewCap (gP [.ref b, .int (nI q)] (dC, dI) dA (sbW dA b v ml ct n f) sz) (gQi (dC, dI) (nI (sb_cap q n)) (sbW dA b v ml ct n f) (va_A (sbW dA b v ml ct n f) sz)) 0 0 (va_A (sbW dA b v ml ct n f) sz) := by
  refine Met.ofW (cc := cJ5_newCapacity_0f7a4) (maxL := 6) (ret := (some .int)) (by decide) rfl ?_
  intro p e s m args below meth c s₁ B hml hv
  obtain ⟨rfl, hsz, hP, hK, hD0⟩ := hv
  have hx := B.exec
  have hb := B.bytes
  have hr := B.returns
  have hts := atoms_spec (ws := wq (Cond.code yJ5_newCapacity_0f7a4 cJ5_newCapacity_0f7a4 6 (some .int))) B.pre
  have hown : s.vm.findClass RJ5 = some m.cls := findClass_of_methodNamed B.named
  have hlocks := B.notSynchronized
  clear B
  subst hsz
  have hD := hD0.self (sz := s.heap.size)
  generalize hAe : va_A (sbW dA b v ml ct n f) s.heap.size = A at hD ⊢
  have hA : ∀ q : Nat, s.heap.size ≤ q → A q := fun q h => by rw [← hAe]; exact Or.inr h
  clear hAe hD0
  have hS : va_S A s.heap s.heap [] := va_S.rf
  have hl := lv_entry ([.ref b, .int (nI q)]) (n := 6) (Nat.le_of_ble_eq_true rfl)
  rw [lg_entry_eq]
  generalize (lg_sl ([.ref b, .int (nI q)]) ++ List.replicate (6 - (lg_sl ([.ref b, .int (nI q)])).length) Slot.unset).toArray = ls at hl ⊢
  have hl : lv_has ls 6 [(0, .ref b), (1, .int (nI q))] := hl
  change W p l e rmnewCap s m (([.ref b, .int (nI q)] : List Value).toArray) below meth c s.heap [] 0 0 _ _
  refine lv_aload_n hx hb dJ5_newCapacity_0f7a4_0 rfl (lv_at hl 0 rfl) ?_
  refine va_get (D := (dC, dI)) (ci := 0) (v := .ref v) (C := RJ4) (T := TJ4) (N := 4) hx hb hts (fun w h => gw_mem (inJ4 w h)) hown hK.1 hP 0 rfl rfl 0 (by decide) (hts _ (gw_mem wfJ5_15)) (fun _ h9 => h9) rfl dJ5_newCapacity_0f7a4_1 ?_
  refine va_alen (v := nI n) hx hb hK.1 hP 1 2 rfl rfl rfl dJ5_newCapacity_0f7a4_4 ?_
  refine lv_istore_n (lv' := [(2, .int (nI n)), (0, .ref b), (1, .int (nI q))]) hx hb dJ5_newCapacity_0f7a4_5 rfl hl (by decide) rfl (fun ls hl => ?_)
  refine lv_iload_n hx hb dJ5_newCapacity_0f7a4_6 rfl (lv_at hl 2 rfl) ?_
  refine lv_aload_n hx hb dJ5_newCapacity_0f7a4_7 rfl (lv_at hl 1 rfl) ?_
  refine va_get (D := (dC, dI)) (ci := 0) (v := .int 0) (C := RJ4) (T := TJ4) (N := 4) hx hb hts (fun w h => gw_mem (inJ4 w h)) hown hK.1 hP 0 rfl rfl 1 (by decide) (hts _ (gw_mem wfJ5_22)) (fun _ h9 => h9) rfl dJ5_newCapacity_0f7a4_8 ?_
  refine lv_ishl hx hb dJ5_newCapacity_0f7a4_11 ?_
  rw [show ((nI q) : Int32) <<< ((0 : Int32) &&& (31 : Int32)) = nI q from sb_shl0 _]
  refine lv_istore_n (lv' := [(3, .int (nI q)), (2, .int (nI n)), (0, .ref b), (1, .int (nI q))]) hx hb dJ5_newCapacity_0f7a4_12 rfl hl (by decide) rfl (fun ls hl => ?_)
  refine lv_iload_n hx hb dJ5_newCapacity_0f7a4_13 rfl (lv_at hl 0 rfl) ?_
  refine lv_iload_n hx hb dJ5_newCapacity_0f7a4_14 rfl (lv_at hl 1 rfl) ?_
  refine lv_isub hx hb dJ5_newCapacity_0f7a4_15 ?_
  rw [show (nI q) - (nI n) = nI (q - n) from pk_sub (by omega)]
  refine lv_istore (lv' := [(4, .int (nI (q - n))), (3, .int (nI q)), (2, .int (nI n)), (0, .ref b), (1, .int (nI q))]) hx hb dJ5_newCapacity_0f7a4_16 hl (by decide) rfl (fun ls hl => ?_)
  refine lv_iload_n hx hb dJ5_newCapacity_0f7a4_18 rfl (lv_at hl 2 rfl) ?_
  refine lv_iload hx hb dJ5_newCapacity_0f7a4_19 (lv_at hl 0 rfl) ?_
  refine lv_iload_n hx hb dJ5_newCapacity_0f7a4_21 rfl (lv_at hl 2 rfl) ?_
  refine lv_iconst (v := 2) hx hb dJ5_newCapacity_0f7a4_22 (by decide) ?_
  refine lv_aload_n hx hb dJ5_newCapacity_0f7a4_23 rfl (lv_at hl 3 rfl) ?_
  refine va_get (D := (dC, dI)) (ci := 0) (v := .int 0) (C := RJ4) (T := TJ4) (N := 4) hx hb hts (fun w h => gw_mem (inJ4 w h)) hown hK.1 hP 0 rfl rfl 1 (by decide) (hts _ (gw_mem wfJ5_22)) (fun _ h9 => h9) rfl dJ5_newCapacity_0f7a4_24 ?_
  refine lv_ishl hx hb dJ5_newCapacity_0f7a4_27 ?_
  rw [show (2 : Int32) <<< ((0 : Int32) &&& (31 : Int32)) = 2 from sb_shl0 _]
  refine lv_iadd hx hb dJ5_newCapacity_0f7a4_28 ?_
  rw [show (nI n) + 2 = nI (n + 2) from nI_add n 2]
  refine gci0 (va_runS (As := [.int (nI n), .int (nI (q - n)), .int (nI (n + 2))]) (rest := []) ⟨hx, hb, hml, hown, hts⟩ (tJ8_newLength_cabcc l dC dI dA s.heap.size (nl_eq hq hq2)) (gCS 3 hts wcJ8_newLength_cabcc wmJ5_114 wtJ8_newLength_cabcc wnJ8 (by decide +kernel) rfl rfl ⟨Nat.le_of_ble_eq_true rfl, Nat.le_of_ble_eq_true rfl⟩) (gPreS0 hK) rfl rfl hl.1 rfl (lv_room (Nat.le_of_ble_eq_true rfl)) dJ5_newCapacity_0f7a4_29 ⟨Nat.le_of_ble_eq_true rfl, Nat.le_of_ble_eq_true rfl⟩) hP hS hA (fun H locs hP hS => ?_)
  have hcb : sb_cap q n < 10000 := by unfold sb_cap; split <;> (try split) <;> omega
  refine lv_istore (lv' := [(5, .int (nI (sb_cap q n))), (4, .int (nI (q - n))), (3, .int (nI q)), (2, .int (nI n)), (0, .ref b), (1, .int (nI q))]) hx hb dJ5_newCapacity_0f7a4_32 hl (by decide) rfl (fun ls hl => ?_)
  refine lv_iload hx hb dJ5_newCapacity_0f7a4_34 (lv_at hl 0 rfl) ?_
  refine lv_ldc (v := 2147483647) hx hb hown (hts _ (gw_mem wkJ5_39)) dJ5_newCapacity_0f7a4_36 ?_
  refine lv_icmp_ne (tgt := 51) hx hb dJ5_newCapacity_0f7a4_38 (by decide) (fun k9 => ?_) (fun k9 => absurd k9 (fun z9 => by have := (nI_eq (a := sb_cap q n) (b := 2147483647) (by omega) (by omega)).mp z9; omega))
  refine lv_iload hx hb dJ5_newCapacity_0f7a4_51 (lv_at hl 0 rfl) ?_
  refine lv_aload_n hx hb dJ5_newCapacity_0f7a4_53 rfl (lv_at hl 4 rfl) ?_
  refine va_get (D := (dC, dI)) (ci := 0) (v := .int 0) (C := RJ4) (T := TJ4) (N := 4) hx hb hts (fun w h => gw_mem (inJ4 w h)) hown hK.1 hP 0 rfl rfl 1 (by decide) (hts _ (gw_mem wfJ5_22)) (fun _ h9 => h9) rfl dJ5_newCapacity_0f7a4_54 ?_
  refine lv_ishr hx hb dJ5_newCapacity_0f7a4_57 ?_
  rw [show ((nI (sb_cap q n)) : Int32) >>> ((0 : Int32) &&& (31 : Int32)) = nI (sb_cap q n) from sb_shr0 _]
  exact W.iret hx hb hr (fun t ht _ => gqi hP hD hS ht) hS.2.2 dJ5_newCapacity_0f7a4_58
abbrev rmcpOf (mc ms : Nat) : Room := { frames := 1, cells := mc, slots := ms, locals := 60 }
set_option maxHeartbeats 4000000 in
set_option maxRecDepth 100000 in
theorem tcpOf (l : Launch) (dC : Nat → ClassId) (dI : Nat → Nat → Nat) (dA : Nat → ClassId) (sz : Nat) (v n m9 : Nat) (f : Nat → Int32) (hm : n < m9) (hm2 : m9 ≤ 10000) (hf : sb_Fit f) : Met l yJ7_copyOf_9075b (wq (Cond.code yJ7_copyOf_9075b cJ7_copyOf_9075b 3 (some (.array .byte)))) (rmcpOf 1 m9) (gP [.ref v, .int (nI m9)] (dC, dI) dA [(v, .inl (dA 2, n, .inl f))] sz) (va_Qr (fun (_ : Unit) => True) (fun _ a t => va_P (dC, dI) vwCl [(v, .inl (dA 2, n, .inl f)), (a, .inl (dA 2, m9, .inl (va_cpy f (fun _ => 0) 0 0 n)))] t.heap ∧ va_D (va_A [(v, .inl (dA 2, n, .inl f))] sz) [(v, .inl (dA 2, n, .inl f)), (a, .inl (dA 2, m9, .inl (va_cpy f (fun _ => 0) 0 0 n)))]) (va_A [(v, .inl (dA 2, n, .inl f))] sz)) 1 m9 (va_A [(v, .inl (dA 2, n, .inl f))] sz) := by
  refine Met.ofW (cc := cJ7_copyOf_9075b) (maxL := 3) (ret := (some (.array .byte))) (by decide) rfl ?_
  intro p e s m args below meth c s₁ B hml hv
  obtain ⟨rfl, hsz, hP, hK, hD0⟩ := hv
  have hx := B.exec
  have hb := B.bytes
  have hr := B.returns
  have hts := atoms_spec (ws := wq (Cond.code yJ7_copyOf_9075b cJ7_copyOf_9075b 3 (some (.array .byte)))) B.pre
  have hown : s.vm.findClass RJ7 = some m.cls := findClass_of_methodNamed B.named
  have hlocks := B.notSynchronized
  clear B
  subst hsz
  have hD := hD0.self (sz := s.heap.size)
  generalize hAe : va_A [(v, .inl (dA 2, n, .inl f))] s.heap.size = A at hD ⊢
  have hA : ∀ q : Nat, s.heap.size ≤ q → A q := fun q h => by rw [← hAe]; exact Or.inr h
  clear hAe hD0
  have hS : va_S A s.heap s.heap [] := va_S.rf
  have hl := lv_entry ([.ref v, .int (nI m9)]) (n := 3) (Nat.le_of_ble_eq_true rfl)
  rw [lg_entry_eq]
  generalize (lg_sl ([.ref v, .int (nI m9)]) ++ List.replicate (3 - (lg_sl ([.ref v, .int (nI m9)])).length) Slot.unset).toArray = ls at hl ⊢
  have hl : lv_has ls 3 [(0, .ref v), (1, .int (nI m9))] := hl
  change W p l e (rmcpOf 1 m9) s m (([.ref v, .int (nI m9)] : List Value).toArray) below meth c s.heap [] 0 0 _ _
  refine lv_iload_n hx hb dJ7_copyOf_9075b_0 rfl (lv_at hl 1 rfl) ?_
  refine lv_aload_n hx hb dJ7_copyOf_9075b_1 rfl (lv_at hl 0 rfl) ?_
  refine va_alen (v := nI n) hx hb hK.1 hP 0 2 rfl rfl rfl dJ7_copyOf_9075b_2 ?_
  refine lv_icmp_ne (tgt := 14) hx hb dJ7_copyOf_9075b_3 (by decide) (fun k9 => ?_) (fun k9 => absurd k9 (fun z9 => by have := (nI_eq (by omega) (by omega)).mp z9; omega))
  refine lv_iload_n hx hb dJ7_copyOf_9075b_14 rfl (lv_at hl 1 rfl) ?_
  refine va_newa (atype := .byte) (ty := .byte) (a0 := (m9, .inl (fun _ => 0))) (N' := m9) hx hb (hts _ (gw_mem wa_byte)) rfl hK.1 hP hD hS hA (fun _ => rfl) (nI_pos (by omega)) (nI_clamp (by omega)) (by show m9 * 1 ≤ _; omega) (Nat.le_refl 1) (by show 0 + m9 ≤ m9; omega) dJ7_copyOf_9075b_15 (fun a cA H hK1 hP hD hS => ?_)
  obtain rfl := gAbyte hK.1 hK1
  clear hK1
  have hP : va_P (dC, dI) vwCl [(v, .inl (dA 2, n, .inl f)), (a, .inl (dA 2, m9, .inl (fun _ => 0)))] H := hP
  have hD : va_D A [(v, .inl (dA 2, n, .inl f)), (a, .inl (dA 2, m9, .inl (fun _ => 0)))] := hD
  refine lv_astore_n (lv' := [(2, .ref a), (0, .ref v), (1, .int (nI m9))]) hx hb dJ7_copyOf_9075b_17 rfl hl (by decide) rfl (fun ls hl => ?_)
  refine lv_aload_n hx hb dJ7_copyOf_9075b_18 rfl (lv_at hl 1 rfl) ?_
  refine lv_iconst (v := 0) hx hb dJ7_copyOf_9075b_19 (by decide) ?_
  refine lv_aload_n hx hb dJ7_copyOf_9075b_20 rfl (lv_at hl 0 rfl) ?_
  refine lv_iconst (v := 0) hx hb dJ7_copyOf_9075b_21 (by decide) ?_
  refine lv_aload_n hx hb dJ7_copyOf_9075b_22 rfl (lv_at hl 1 rfl) ?_
  refine va_alen (v := nI n) hx hb hK.1 hP 0 2 rfl rfl rfl dJ7_copyOf_9075b_23 ?_
  refine lv_iload_n hx hb dJ7_copyOf_9075b_24 rfl (lv_at hl 2 rfl) ?_
  refine va_mmin hx hb (hml.trans hl.1.symm) hown (hts _ (gw_mem wmJ7_304)) (hts _ (gw_mem wtJ9_min_7cf53)) (hts _ (gw_mem wnJ9)) (hts _ (gw_mem wcJ9_min_7cf53)) (by first | exact Nat.le_of_ble_eq_true rfl | (show 0 + m9 ≤ m9; omega)) (by first | exact Nat.le_of_ble_eq_true rfl | (show 0 + m9 ≤ m9; omega)) (by first | exact Nat.le_of_ble_eq_true rfl | (show 0 + m9 ≤ m9; omega)) (by first | exact Nat.le_of_ble_eq_true rfl | (show 0 + m9 ≤ m9; omega)) dJ7_copyOf_9075b_25 ?_
  rw [show (if nI m9 < nI n then nI m9 else nI n) = nI n from if_neg (nI_nlt (by omega) (by omega))]
  refine va_copyi (ty := .byte) hx hb (hml.trans hl.1.symm) hown (hts _ (gw_mem wmJ7_150)) (hts _ (gw_mem wo_arraycopy)) (hts _ (gw_mem wt_arraycopy)) (hts _ (gw_mem wnJ10)) hK.1 hP hD hS 0 1 2 2 rfl rfl rfl rfl rfl (by decide) (by decide) (nI_pos (by omega)) (by rw [nI_clamp (by omega)]; show 0 + n ≤ n; omega) (by rw [nI_clamp (by omega)]; show 0 + n ≤ m9; omega) (fun i _ => hf _) (Nat.le_of_ble_eq_true rfl) (show (List.map (fun v => v.category) ([] : List Value)).sum + (nativeFrameWords "java/lang/System" "arraycopy" 5 + 11) ≤ 60 by decide +kernel) dJ7_copyOf_9075b_28 (fun H locs hP hD hS => ?_)
  have hP : va_P (dC, dI) vwCl [(v, .inl (dA 2, n, .inl f)), (a, .inl (dA 2, m9, .inl (va_cpy f (fun _ => 0) 0 0 n)))] H := by rw [nI_clamp (by omega)] at hP; exact hP
  have hD : va_D A [(v, .inl (dA 2, n, .inl f)), (a, .inl (dA 2, m9, .inl (va_cpy f (fun _ => 0) 0 0 n)))] := by rw [nI_clamp (by omega)] at hD; exact hD
  refine lv_aload_n hx hb dJ7_copyOf_9075b_31 rfl (lv_at hl 0 rfl) ?_
  refine W.widen (k := 1) (n := m9) (Nat.le_refl _) (by omega) ?_
  exact W.aret hx hb hr (Or.inr ⟨_, rfl⟩) (Or.inr ⟨_, rfl⟩) (fun t ht _ => ⟨⟨(), a, rfl, trivial, by rw [ht]; exact hP, hD⟩, hS.F ht⟩) hS.2.2 dJ7_copyOf_9075b_32
theorem cap_ge (q n : Nat) : n ≤ sb_cap q n := by unfold sb_cap; split <;> (try split) <;> omega
theorem cap_need (q n : Nat) : q ≤ sb_cap q n := by unfold sb_cap; split <;> (try split) <;> omega
theorem cap_le {q n : Nat} (hq : q ≤ 200) (hn : n ≤ 402) : sb_cap q n ≤ 402 := by unfold sb_cap; split <;> (try split) <;> omega
theorem cap_same {q n : Nat} (h : q ≤ n) : sb_cap q n = n := if_pos h
theorem cap_two {q n : Nat} (h : ¬ q ≤ n) : 2 * n + 2 ≤ sb_cap q n := by unfold sb_cap; rw [if_neg h]; split <;> omega
abbrev rmensC (mc ms : Nat) : Room := { frames := 3, cells := mc, slots := ms, locals := 82 }
set_option maxHeartbeats 4000000 in
set_option maxRecDepth 100000 in
theorem tensC (l : Launch) (dC : Nat → ClassId) (dI : Nat → Nat → Nat) (dA : Nat → ClassId) (d1 d2 : Nat) (sz : Nat) (b v : Nat) (ml ct : Int32) (n : Nat) (f : Nat → Int32) (q : Nat) (hq2 : q ≤ 1000) (hn2 : n ≤ 1000) (hF : sb_Fit f) : Met l yJ5_ensureCapacityInternal_d00df (wq (Cond.code yJ5_ensureCapacityInternal_d00df cJ5_ensureCapacityInternal_d00df 3 none)) (rmensC (sb_cap q n - n) (2 * (sb_cap q n - n))) (gPT d1 d2 [.ref b, .int (nI q)] (dC, dI) dA (sbW dA b v ml ct n f) sz) (sbQv (dC, dI) (fun f9 => (∀ j, j < n → f9 j = f j) ∧ sb_Fit f9) (fun v ml f => sbW dA b v ml ct (sb_cap q n) f) (va_A (sbW dA b v ml ct n f) sz)) (sb_cap q n - n) (2 * (sb_cap q n - n)) (va_A (sbW dA b v ml ct n f) sz) := by
  refine Met.ofW (cc := cJ5_ensureCapacityInternal_d00df) (maxL := 3) (ret := none) (by decide) rfl ?_
  intro p e s m args below meth c s₁ B hml hv
  obtain ⟨rfl, hsz, hP, hK, hE, hD0⟩ := hv
  have hx := B.exec
  have hb := B.bytes
  have hr := B.returns
  have hts := atoms_spec (ws := wq (Cond.code yJ5_ensureCapacityInternal_d00df cJ5_ensureCapacityInternal_d00df 3 none)) B.pre
  have hown : s.vm.findClass RJ5 = some m.cls := findClass_of_methodNamed B.named
  have hlocks := B.notSynchronized
  clear B
  subst hsz
  have hD := hD0.self (sz := s.heap.size)
  generalize hAe : va_A (sbW dA b v ml ct n f) s.heap.size = A at hD hE ⊢
  have hA : ∀ q : Nat, s.heap.size ≤ q → A q := fun q h => by rw [← hAe]; exact Or.inr h
  clear hAe hD0
  have hS : va_S A s.heap s.heap [] := va_S.rf
  have hl := lv_entry ([.ref b, .int (nI q)]) (n := 3) (Nat.le_of_ble_eq_true rfl)
  rw [lg_entry_eq]
  generalize (lg_sl ([.ref b, .int (nI q)]) ++ List.replicate (3 - (lg_sl ([.ref b, .int (nI q)])).length) Slot.unset).toArray = ls at hl ⊢
  have hl : lv_has ls 3 [(0, .ref b), (1, .int (nI q))] := hl
  change W p l e (rmensC (sb_cap q n - n) (2 * (sb_cap q n - n))) s m (([.ref b, .int (nI q)] : List Value).toArray) below meth c s.heap [] 0 0 _ _
  refine lv_aload_n hx hb dJ5_ensureCapacityInternal_d00df_0 rfl (lv_at hl 0 rfl) ?_
  refine va_get (D := (dC, dI)) (ci := 0) (v := .ref v) (C := RJ4) (T := TJ4) (N := 4) hx hb hts (fun w h => gw_mem (inJ4 w h)) hown hK.1 hP 0 rfl rfl 0 (by decide) (hts _ (gw_mem wfJ5_15)) (fun _ h9 => h9) rfl dJ5_ensureCapacityInternal_d00df_1 ?_
  refine va_alen (v := nI n) hx hb hK.1 hP 1 2 rfl rfl rfl dJ5_ensureCapacityInternal_d00df_4 ?_
  refine lv_aload_n hx hb dJ5_ensureCapacityInternal_d00df_5 rfl (lv_at hl 0 rfl) ?_
  refine va_get (D := (dC, dI)) (ci := 0) (v := .int 0) (C := RJ4) (T := TJ4) (N := 4) hx hb hts (fun w h => gw_mem (inJ4 w h)) hown hK.1 hP 0 rfl rfl 1 (by decide) (hts _ (gw_mem wfJ5_22)) (fun _ h9 => h9) rfl dJ5_ensureCapacityInternal_d00df_6 ?_
  refine lv_ishr hx hb dJ5_ensureCapacityInternal_d00df_9 ?_
  rw [show ((nI n) : Int32) >>> ((0 : Int32) &&& (31 : Int32)) = nI n from sb_shr0 _]
  refine lv_istore_n (lv' := [(2, .int (nI n)), (0, .ref b), (1, .int (nI q))]) hx hb dJ5_ensureCapacityInternal_d00df_10 rfl hl (by decide) rfl (fun ls hl => ?_)
  refine lv_iload_n hx hb dJ5_ensureCapacityInternal_d00df_11 rfl (lv_at hl 2 rfl) ?_
  refine lv_iload_n hx hb dJ5_ensureCapacityInternal_d00df_12 rfl (lv_at hl 0 rfl) ?_
  refine lv_isub hx hb dJ5_ensureCapacityInternal_d00df_13 ?_
  have e1 : (nI q - nI n).toInt = (q : Int) - n := pk_sub_toInt (by omega) (by omega)
  by_cases hqn : q ≤ n
  · refine lv_if_le (tgt := 38) hx hb dJ5_ensureCapacityInternal_d00df_14 (by decide) (fun k9 => ?_) (fun k9 => absurd (by rw [Int32.le_iff_toInt_le, e1, Int32.toInt_zero]; omega) k9)
    have hcap := cap_same hqn
    refine W.widen (k := sb_cap q n - n) (n := 2 * (sb_cap q n - n)) (Nat.zero_le _) (Nat.zero_le _) ?_
    exact W.vret hx hb hr (fun t ht _ => ⟨⟨(v, ml, f), rfl, ⟨fun _ _ => rfl, hF⟩, by rw [ht, hcap]; exact hP, by rw [hcap]; exact hD⟩, hS.F ht⟩) hS.2.2 dJ5_ensureCapacityInternal_d00df_38
  · refine lv_if_le (tgt := 38) hx hb dJ5_ensureCapacityInternal_d00df_14 (by decide) (fun k9 => absurd (by rw [Int32.le_iff_toInt_le, e1, Int32.toInt_zero] at k9; omega) hqn) (fun k9 => ?_)
    have hct := cap_two hqn
    have hcb : sb_cap q n < 10000 := by unfold sb_cap; split <;> (try split) <;> omega
    refine lv_aload_n hx hb dJ5_ensureCapacityInternal_d00df_17 rfl (lv_at hl 1 rfl) ?_
    refine lv_aload_n hx hb dJ5_ensureCapacityInternal_d00df_18 rfl (lv_at hl 1 rfl) ?_
    refine va_get (D := (dC, dI)) (ci := 0) (v := .ref v) (C := RJ4) (T := TJ4) (N := 4) hx hb hts (fun w h => gw_mem (inJ4 w h)) hown hK.1 hP 0 rfl rfl 0 (by decide) (hts _ (gw_mem wfJ5_15)) (fun _ h9 => h9) rfl dJ5_ensureCapacityInternal_d00df_19 ?_
    refine lv_aload_n hx hb dJ5_ensureCapacityInternal_d00df_22 rfl (lv_at hl 1 rfl) ?_
    refine lv_iload_n hx hb dJ5_ensureCapacityInternal_d00df_23 rfl (lv_at hl 2 rfl) ?_
    refine gci (va_runV (As := [.int (nI q)]) (rest := [.ref v, .ref b]) ⟨hx, hb, hml, hown, hts⟩ (tnewCap l dC dI dA s.heap.size b v ml ct n f q (by omega) hq2) (gCP 1 hts wcJ5_newCapacity_0f7a4 wmJ5_104 wiJ5_newCapacity_0f7a4 hE.2.2.2.2.2.2.2 rfl wnJ5 (by decide +kernel) rfl rfl ⟨Nat.le_of_ble_eq_true rfl, Nat.le_of_ble_eq_true rfl⟩) (gPreV (ci := 0) (q0 := 0) (ws := (sbW dA b v ml ct n f)) hP hK hD rfl rfl) rfl rfl hl.1 rfl (lv_room (Nat.le_of_ble_eq_true rfl)) dJ5_ensureCapacityInternal_d00df_24 ⟨Nat.zero_le _, Nat.zero_le _⟩) hD hS hA (fun H locs hP hD hS => ?_)
    refine lv_aload_n hx hb dJ5_ensureCapacityInternal_d00df_27 rfl (lv_at hl 1 rfl) ?_
    refine va_get (D := (dC, dI)) (ci := 0) (v := .int 0) (C := RJ4) (T := TJ4) (N := 4) hx hb hts (fun w h => gw_mem (inJ4 w h)) hown hK.1 hP 0 rfl rfl 1 (by decide) (hts _ (gw_mem wfJ5_22)) (fun _ h9 => h9) rfl dJ5_ensureCapacityInternal_d00df_28 ?_
    refine lv_ishl hx hb dJ5_ensureCapacityInternal_d00df_31 ?_
    rw [show ((nI (sb_cap q n)) : Int32) <<< ((0 : Int32) &&& (31 : Int32)) = nI (sb_cap q n) from sb_shl0 _]
    have z1 := sg1 (ws := (sbW dA b v ml ct n f)) (s0 := [(b, .inr (0, [.ref v, .int 0, .int ml, .int ct]))]) (x1 := [(v, .inl (dA 2, n, .inl f))]) (s1 := []) rfl
    have hFr := pfree z1 hD hS hA
    have hSo := hS
    refine va_callr (va_runS (As := [.ref v, .int (nI (sb_cap q n))]) (rest := [.ref b]) ⟨hx, hb, hml, hown, hts⟩ (tcpOf l dC dI dA H.size v n (sb_cap q n) f (by omega) (by omega) hF) (gCS 2 hts wcJ7_copyOf_9075b wmJ5_108 wtJ7_copyOf_9075b wnJ7 (by decide +kernel) rfl rfl ⟨Nat.le_of_ble_eq_true rfl, Nat.le_of_ble_eq_true rfl⟩) (gPreS (psub z1 hP) hK (psubD z1 hD)) rfl rfl hl.1 rfl (lv_room (Nat.le_of_ble_eq_true rfl)) dJ5_ensureCapacityInternal_d00df_32 ⟨by show 0 + 1 ≤ sb_cap q n - n; omega, by show 0 + sb_cap q n ≤ 2 * (sb_cap q n - n); omega⟩) hS (fun q _ h => hFr q h) hFr (fun u a t H1 locs ht hvm hw hB hz hk hS => ?_)
    obtain ⟨hP, hD⟩ := pjoin (w1 := [(v, .inl (dA 2, n, .inl f)), (a, .inl (dA 2, sb_cap q n, .inl (va_cpy f (fun _ => 0) 0 0 n)))]) (wf := [(b, .inr (0, [.ref v, .int 0, .int ml, .int ct])), (v, .inl (dA 2, n, .inl f)), (a, .inl (dA 2, sb_cap q n, .inl (va_cpy f (fun _ => 0) 0 0 n)))]) z1 (sg1 (s0 := [(b, .inr (0, [.ref v, .int 0, .int ml, .int ct]))]) (s1 := []) rfl) hP hD hSo hA hk (by rw [← ht]; exact hB.1) hB.2
    clear hSo hFr hk hB hz
    refine va_put (D := (dC, dI)) (ci := 0) (v := .ref a) (ty := (.array .byte)) (C := RJ4) (T := TJ4) (N := 4) hx hb hts (fun w h => gw_mem (inJ4 w h)) tyJ4 tyJ4_ok nmJ4 hown hK.1 hP hD hS 0 rfl rfl 0 (by decide) (hts _ (gw_mem wfJ5_15)) (fun _ h9 => h9) rfl (by decide +kernel) rfl rfl (Nat.le_of_ble_eq_true rfl) dJ5_ensureCapacityInternal_d00df_35 (fun H locs hP hD hS => ?_)
    have hP : va_P (dC, dI) vwCl [(b, .inr (0, [.ref a, .int 0, .int ml, .int ct])), (v, .inl (dA 2, n, .inl f)), (a, .inl (dA 2, sb_cap q n, .inl (va_cpy f (fun _ => 0) 0 0 n)))] H := hP
    have hD : va_D A [(b, .inr (0, [.ref a, .int 0, .int ml, .int ct])), (v, .inl (dA 2, n, .inl f)), (a, .inl (dA 2, sb_cap q n, .inl (va_cpy f (fun _ => 0) 0 0 n)))] := hD
    have hP9 : va_P (dC, dI) vwCl (sbW dA b a ml ct (sb_cap q n) (va_cpy f (fun _ => 0) 0 0 n)) H := gsub (isC := [0, 2]) rfl hP
    have hD9 : va_D A (sbW dA b a ml ct (sb_cap q n) (va_cpy f (fun _ => 0) 0 0 n)) := gsubD (isC := [0, 2]) rfl (by decide) hD
    refine W.widen (k := sb_cap q n - n) (n := 2 * (sb_cap q n - n)) (by omega) (by omega) ?_
    exact W.vret hx hb hr (fun t ht _ => ⟨⟨(a, ml, va_cpy f (fun _ => 0) 0 0 n), rfl, ⟨fun j hj => (sb_cpy0 hj : va_cpy f (fun _ => 0) 0 0 n j = f j), (sb_fitC hF sb_fit0 : sb_Fit (va_cpy f (fun _ => 0) 0 0 n))⟩, by rw [ht]; exact hP9, hD9⟩, hS.F ht⟩) hS.2.2 dJ5_ensureCapacityInternal_d00df_38
