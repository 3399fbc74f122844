/-! THE CLAIM OUT OF ONE WALK OF THE LAW'S BODY. Your part is whole_start (and what it stands on); all else here is the same for every law, but numbers. -/
def R_law : String := "TurnedBondsLaw"
def lw_P (b : Addr) (xs : List Int32) (args : Array Value) (s : State) : Prop := args = #[.ref b] ∧ s.IntsAt b xs ∧ xs.length ≤ 3072 ∧ (Jvm.Cond.and given_1 narrow_1).before args s = true
def lw_Q (_ : Array Value) (s : State) (o : Outcome) (t : State) : Prop := o = .returned (some (.int 1)) ∧ Framed s o t [] 600000 7302250
def lw_Z (below : List Frame) (a : Array Value) (s : State) : State → Prop := fun t => ∃ o, t.status = .running ∧ Ended t below o ∧ lw_Q a s o t
/-- the law's own end, with 1 on the stack, nothing written that was there before, its room as the claim has it -/
theorem lw_ret {p : Program} {l : Launch} {e : Env} {s : State} {m : MethodId} {below : List Frame} {meth : Method} {c : Code} {b : Nat} (hx : p.tables.exec = Jvm.exec) (hb : c.code = code) (hr : meth.sig.returnType = ret) (hlocks : meth.locks = false) {pc : Nat} {H : Heap} {ls : Array Slot} (hdg : decode code pc = .ok (.ireturn, 1)) : W p l e room_1 s m #[Value.ref b] below meth c H [] 600000 7302250 (lw_Z below #[Value.ref b] s) (F0 m pc ls [.int 1]) := by
  intro T hT X
  obtain ⟨fs, hret, hrun, hended, hW, hframe⟩ := X.leave (v := some (.int 1)) (hlocks := hlocks) (fun h => by rw [hr] at h; cases h)
  have hmeth' : T.vm.method? m = some meth := X.method'
  refine ⟨T.setFrames fs, ?_, .returned (some (.int 1)), hrun, hended, rfl, ⟨_, rfl⟩, hW, hframe⟩
  jvm_step X.here [X.here.top, hx, hb, hdg, hmeth', hr, ret, narrow_b1]
  (try refine ⟨rfl, ?_⟩); (try refine ⟨rfl, ?_⟩)
  first | (intro acts; rw [hret _ acts rfl rfl rfl]) | rw [hret _ _ rfl rfl rfl]
  exact Steps.refl _
/-- what holds at the law's entry: the machine, the code, the tables' words (any of lw_tbl by 'hts w (by decide +kernel)'), the script of L ints xs at the cell b, what the Statement gives of the start (any of its parts by flat_of_before) -/
def lw_At (p : Program) (s : State) (m : MethodId) (meth : Method) (c : Code) (b L : Nat) (xs : Nat → Int32) : Prop :=
  p.tables.exec = Jvm.exec ∧ c.code = code ∧ meth.sig.returnType = ret ∧ c.maxLocals = 4 ∧ s.vm.findClass R_law = some m.cls ∧ (∀ w ∈ lw_tbl, w.before #[Value.ref b] s = true) ∧ va_X b L xs s s.heap ∧ b < s.heap.size ∧ meth.locks = false ∧ (Jvm.Cond.and given_1 narrow_1).before #[Value.ref b] s = true
/-! own base rows for the law -/
theorem gCWL {R : Room} {s : State} {args : Array Value} {own C : String} {index maxL : Nat} {y : MethodName} {bytes : ByteArray} {ret : Option FieldType} {rm : Room} {mc ms : Nat} (n : Nat) (ht : ∀ w ∈ lw_tbl, w.before args s = true)
    (hc : Cond.code y bytes maxL ret ∈ gw) (hl : Cond.methodLink own index y ∈ gw) (hi : Cond.instanceMethod y ∈ gw) (hse : Cond.selects C y y ∈ gw) (hin : Cond.initialized y.cls ∈ gw)
    (hd : y.cls ≠ "java/lang/invoke/MethodHandle" ∧ y.cls ≠ "java/lang/invoke/VarHandle" ∧ (parseMethodDescriptor y.desc).map (fun d => d.parameters.length) = some n) (hrc : rm.cells = mc) (hrs : rm.slots = ms) (hR : rm.frames + 1 ≤ R.frames ∧ 8 + (maxL + 11) + rm.locals ≤ R.locals) :
    CallW R s args own C index y bytes maxL ret (wq (.code y bytes maxL ret)) rm mc ms n :=
  ⟨callB_of n ht (gw_L hc) rfl hrc hrs (ht _ (gw_tbl hin)) (ht _ (gw_tbl hl)) hd hR, ht _ (gw_tbl hi), ht _ (gw_tbl hse)⟩
/-- a script's int as a boolean -/
def nz (x : Int32) : Int32 := if x = 0 then 0 else 1
/-- two ints of the script as a long -/
def lj (x y : Int32) : Int64 := (x.toInt64 <<< ((32 : Int32).toInt64 &&& 63)) ||| (y.toInt64 &&& 4294967295)
abbrev lwL (b ax am i : Nat) : List (Nat × Value) := [(3, .int (nI i)), (2, .ref am), (1, .ref ax), (0, .ref b)]
abbrev lwA (s : State) : Nat → Prop := fun q => s.heap.size ≤ q
theorem zc {a r : va_W} : (a ++ r).Perm (a ++ r) := List.Perm.refl _
theorem zm {a b d : va_W} : (a ++ (b ++ d)).Perm (d ++ (a ++ b)) := by
  rw [← List.append_assoc]
  exact List.perm_append_comm
theorem zk {a b d : va_W} : (a ++ (b ++ d)).Perm ((a ++ b) ++ d) := by
  rw [List.append_assoc]
section TBL
variable {p : Program} {l : Launch} {e : Env} {R : Room} {s : State} {m : MethodId} {args : Array Value} {below : List Frame} {meth : Method} {c : Code} {H : Heap} {locs : List Loc} {cells slots : Nat} {Q : State → Prop}
variable {pc : Nat} {ls : Array Slot} {rest : List Value} {A : Nat → Prop} {H0 : Heap} {b L ax am i : Nat} {xs : Nat → Int32}
theorem ldk (k : Nat) {n : Int} (hx : p.tables.exec = Jvm.exec) (hb : c.code = code) (hX : va_X b L xs s H0) (hbl : b < H0.size) (hbA : ¬ A b) (hS : va_S A H0 H locs) (hl : lv_has ls 4 (lwL b ax am i)) (hi : i + k < L) (hL : L < 2 ^ 31) (hn : Int32.ofInt n = nI k)
    (d0 : decode code pc = .ok (.aload_n 0, 1)) (d1 : decode code (pc + 1) = .ok (.iload_n 3, 1)) (d2 : decode code (pc + 2) = .ok (.iconst n, 1)) (d3 : decode code (pc + 3) = .ok (.iadd, 1)) (d4 : decode code (pc + 4) = .ok (.iaload, 1))
    (kk : W p l e R s m args below meth c H locs cells slots Q (F0 m (pc + 5) ls (.int (xs (i + k)) :: rest))) : W p l e R s m args below meth c H locs cells slots Q (F0 m pc ls rest) := by
  refine lv_aload_n hx hb d0 rfl (lv_at hl 3 rfl) ?_
  refine lv_iload_n hx hb d1 rfl (lv_at hl 0 rfl) ?_
  refine lv_iconst (v := nI k) hx hb d2 hn ?_
  refine lv_iadd hx hb d3 ?_
  rw [nI_add]
  refine va_sld hx hb hX hbl hbA hS (vp_in_nI hi hL) d4 ?_
  rw [nI_clamp (Nat.lt_trans hi hL)]
  exact kk
theorem ldb {x : Int32} (hx : p.tables.exec = Jvm.exec) (hb : c.code = code) (d1 : decode code pc = .ok (.ifCond .eq 7, 3)) (d2 : decode code (pc + 3) = .ok (.iconst 1, 1)) (d3 : decode code (pc + 4) = .ok (.goto 4, 3)) (d4 : decode code (pc + 7) = .ok (.iconst 0, 1))
    (kk : W p l e R s m args below meth c H locs cells slots Q (F0 m (pc + 8) ls (.int (nz x) :: rest))) : W p l e R s m args below meth c H locs cells slots Q (F0 m pc ls (.int x :: rest)) := by
  refine lv_if_eq (tgt := pc + 7) hx hb d1 (by omega) (fun h => ?_) (fun h => ?_)
  · refine lv_iconst (v := 0) hx hb d4 rfl ?_
    unfold nz at kk
    rw [if_pos h] at kk
    exact kk
  · refine lv_iconst (v := 1) hx hb d2 rfl ?_
    refine lv_goto (tgt := pc + 8) hx hb d3 (by omega) ?_
    unfold nz at kk
    rw [if_neg h] at kk
    exact kk
theorem ldl {x y : Int32} (hx : p.tables.exec = Jvm.exec) (hb : c.code = code) (hown : s.vm.findClass RL = some m.cls) (hk : (Jvm.Cond.constantLong RL 145 4294967295).before args s = true) {pc2 : Nat}
    (hld : ∀ (rest : List Value), W p l e R s m args below meth c H locs cells slots Q (F0 m (pc2 + 5) ls (.int y :: rest)) → W p l e R s m args below meth c H locs cells slots Q (F0 m pc2 ls rest))
    (d1 : decode code pc = .ok (.i2l, 1)) (d2 : decode code (pc + 1) = .ok (.bipush 32, 2)) (d3 : decode code (pc + 3) = .ok (.lshl, 1)) (hp : pc2 = pc + 4) (d4 : decode code (pc + 9) = .ok (.i2l, 1)) (d5 : decode code (pc + 10) = .ok (.ldc2_w 145, 3)) (d6 : decode code (pc + 13) = .ok (.land, 1)) (d7 : decode code (pc + 14) = .ok (.lor, 1))
    (kk : W p l e R s m args below meth c H locs cells slots Q (F0 m (pc + 15) ls (.long (lj x y) :: rest))) : W p l e R s m args below meth c H locs cells slots Q (F0 m pc ls (.int x :: rest)) := by
  subst hp
  refine lv_i2l hx hb d1 rfl ?_
  refine lv_bipush (v := 32) hx hb d2 (by decide) ?_
  refine lv_lshl hx hb d3 rfl ?_
  refine hld _ ?_
  refine lv_i2l hx hb d4 rfl ?_
  refine lv_ldc2 hx hb hown hk d5 ?_
  refine lv_land hx hb d6 ?_
  refine lv_lor hx hb d7 ?_
  exact kk
end TBL
