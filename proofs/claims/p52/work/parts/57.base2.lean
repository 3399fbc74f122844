/-! own base rows for calls over a part of the world -/
theorem gat {ws wc : va_W} {isC : List Nat} (hC : isC.map (fun i => ws[i]?) = wc.map some) : ∀ (k : Nat) (q : Nat × va_E), wc[k]? = some q → ∃ i, isC[k]? = some i ∧ ws[i]? = some q := by
  intro k q hq
  have h1 : (isC.map (fun i => ws[i]?))[k]? = some (some q) := by rw [hC, List.getElem?_map, hq]; rfl
  rw [List.getElem?_map] at h1
  cases hi : isC[k]? with
  | none => rw [hi] at h1; cases h1
  | some i => rw [hi] at h1; exact ⟨i, rfl, Option.some.inj h1⟩
theorem gsub {D : va_G} {cl : List vw_C} {ws wc : va_W} {H : Heap} {isC : List Nat} (hC : isC.map (fun i => ws[i]?) = wc.map some) (hP : va_P D cl ws H) : va_P D cl wc H := by
  intro k q hq
  obtain ⟨i, _, h2⟩ := gat hC k q hq
  exact hP i q h2
theorem gsubD {A : Nat → Prop} {ws wc : va_W} {isC : List Nat} (hC : isC.map (fun i => ws[i]?) = wc.map some) (hn : va_nd isC = true) (hD : va_D A ws) : va_D A wc := hD.sub isC hn hC
section TBP
variable {p : Program} {l : Launch} {e : Env} {R : Room} {s : State} {m : MethodId} {args : Array Value} {below : List Frame} {meth : Method} {c : Code} {H : Heap} {locs : List Loc} {cells slots : Nat} {Q : State → Prop}
variable {pc : Nat} {ls : Array Slot} {st0 rest : List Value} {D : va_G} {A0 : Nat → Prop} {H0 : Heap} {ws wc w1 wf : va_W} {a : Array Value}
theorem gjoin {H1 : Heap} (isC isR isF : List Nat) (hP : va_P D vwCl ws H) (hD : va_D A0 ws) (hS : va_S A0 H0 H locs) (hA : ∀ q, H0.size ≤ q → A0 q) (hC : isC.map (fun i => ws[i]?) = wc.map some) (hR : isR.map (fun i => ws[i]?) = (isR.filterMap (fun i => ws[i]?)).map some) (hn : va_nd isR = true) (hdis : ∀ i ∈ isR, i ∉ isC) (hnF : va_nd isF = true) (hF : isF.map (fun i => (isR.filterMap (fun i => ws[i]?) ++ w1)[i]?) = wf.map some)
    (hk : ∀ q : Nat, q < H.size → ¬ va_A wc H.size q → H1[q]? = H[q]?) (hP1 : va_P D vwCl w1 H1) (hD1 : va_D (va_A wc H.size) w1) : va_P D vwCl wf H1 ∧ va_D A0 wf := by
  obtain ⟨h1, h2⟩ := va_join hP hD isC isR hC hR hn hdis hk (va_free hD hS hA isC hC) hP1 hD1
  exact ⟨gsub hF h1, gsubD hF hnF h2⟩
end TBP
theorem pmP {D : va_G} {cl : List vw_C} {ws : va_W} {H : Heap} : va_P D cl ws H ↔ ∀ q ∈ ws, va_at D cl q H :=
  ⟨fun h q hq => by obtain ⟨k, hk⟩ := List.mem_iff_getElem?.mp hq; exact h k q hk, fun h k q hk => h q (List.mem_of_getElem? hk)⟩
theorem pmD {A : Nat → Prop} {ws : va_W} : va_D A ws ↔ (ws.map Prod.fst).Nodup ∧ ∀ q ∈ ws, A q.1 := by
  constructor
  · intro h
    refine ⟨?_, fun q hq => by obtain ⟨k, hk⟩ := List.mem_iff_getElem?.mp hq; exact h.2 k q hk⟩
    unfold List.Nodup
    rw [List.pairwise_map, List.pairwise_iff_getElem]
    intro i j hi hj hij e
    exact absurd (h.1 i j _ _ (List.getElem?_eq_getElem hi) (List.getElem?_eq_getElem hj) e) (Nat.ne_of_lt hij)
  · intro h
    refine ⟨fun i j p q hp hq e => ?_, fun k q hk => h.2 q (List.mem_of_getElem? hk)⟩
    have hn := h.1
    unfold List.Nodup at hn
    rw [List.pairwise_map, List.pairwise_iff_getElem] at hn
    obtain ⟨hi, ei⟩ := List.getElem?_eq_some_iff.mp hp
    obtain ⟨hj, ej⟩ := List.getElem?_eq_some_iff.mp hq
    rcases Nat.lt_trichotomy i j with h1 | h1 | h1
    · exact absurd (by rw [ei, ej]; exact e) (hn i j hi hj h1)
    · exact h1
    · exact absurd (by rw [ei, ej]; exact e.symm) (hn j i hj hi h1)
theorem psub {D : va_G} {cl : List vw_C} {ws wc wr : va_W} {H : Heap} (hp : ws.Perm (wc ++ wr)) (hP : va_P D cl ws H) : va_P D cl wc H :=
  pmP.mpr (fun q hq => pmP.mp hP q (hp.mem_iff.mpr (List.mem_append_left _ hq)))
theorem psubD {A : Nat → Prop} {ws wc wr : va_W} (hp : ws.Perm (wc ++ wr)) (hD : va_D A ws) : va_D A wc := by
  have h := pmD.mp hD
  refine pmD.mpr ⟨?_, fun q hq => h.2 q (hp.mem_iff.mpr (List.mem_append_left _ hq))⟩
  have h1 := (hp.map Prod.fst).nodup h.1
  rw [List.map_append, List.nodup_append] at h1
  exact h1.1
theorem pfree {A0 : Nat → Prop} {ws wc wr : va_W} {H0 H : Heap} {locs : List Loc} (hp : ws.Perm (wc ++ wr)) (hD : va_D A0 ws) (hS : va_S A0 H0 H locs) (hA : ∀ q, H0.size ≤ q → A0 q) : ∀ q, va_A wc H.size q → A0 q := gfree (psubD hp hD) hS hA
theorem pjoin {D : va_G} {A0 : Nat → Prop} {H0 H H1 : Heap} {locs : List Loc} {ws wc wr w1 wf : va_W} (hp : ws.Perm (wc ++ wr)) (hf : wf.Perm (w1 ++ wr)) (hP : va_P D vwCl ws H) (hD : va_D A0 ws) (hS : va_S A0 H0 H locs) (hA : ∀ q, H0.size ≤ q → A0 q)
    (hk : ∀ q : Nat, q < H.size → ¬ va_A wc H.size q → H1[q]? = H[q]?) (hP1 : va_P D vwCl w1 H1) (hD1 : va_D (va_A wc H.size) w1) : va_P D vwCl wf H1 ∧ va_D A0 wf := by
  have hm := pmP.mp hP
  have hd := pmD.mp hD
  have hd1 := pmD.mp hD1
  have hn := (hp.map Prod.fst).nodup hd.1
  rw [List.map_append, List.nodup_append] at hn
  have inw : ∀ q ∈ wr, q ∈ ws := fun q h => hp.mem_iff.mpr (List.mem_append_right _ h)
  have hlt : ∀ q ∈ wr, q.1 < H.size := fun q h => (hm q (inw q h)).lt
  have hout : ∀ q ∈ wr, ¬ va_A wc H.size q.1 := by
    intro q h z
    rcases z with ⟨k, e, z⟩ | z
    · exact hn.2.2 q.1 (List.mem_map.mpr ⟨(q.1, e), List.mem_of_getElem? z, rfl⟩) q.1 (List.mem_map.mpr ⟨q, h, rfl⟩) rfl
    · exact absurd (hlt q h) (Nat.not_lt.mpr z)
  refine ⟨pmP.mpr (fun q hq => ?_), pmD.mpr ⟨?_, fun q hq => ?_⟩⟩
  · rcases List.mem_append.mp (hf.mem_iff.mp hq) with h | h
    · exact pmP.mp hP1 q h
    · exact (hm q (inw q h)).kept (hk q.1 (hlt q h) (hout q h))
  · refine (hf.map Prod.fst).nodup_iff.mpr ?_
    rw [List.map_append, List.nodup_append]
    refine ⟨hd1.1, hn.2.1, fun a ha b hb e => ?_⟩
    obtain ⟨q1, h1, rfl⟩ := List.mem_map.mp ha
    obtain ⟨q2, h2, rfl⟩ := List.mem_map.mp hb
    exact hout q2 h2 (by rw [← e]; exact hd1.2 q1 h1)
  · rcases List.mem_append.mp (hf.mem_iff.mp hq) with h | h
    · exact pfree hp hD hS hA q.1 (hd1.2 q h)
    · exact hd.2 q (inw q h)
theorem sg1 {ws s0 x1 s1 : va_W} (h : ws = s0 ++ (x1 ++ s1)) : ws.Perm (x1 ++ (s0 ++ s1)) := by
  subst h; exact List.perm_append_comm_assoc _ _ _
theorem sg2 {ws s0 x1 s1 x2 s2 : va_W} (h : ws = s0 ++ (x1 ++ (s1 ++ (x2 ++ s2)))) : ws.Perm ((x1 ++ x2) ++ (s0 ++ (s1 ++ s2))) := by
  subst h
  rw [List.append_assoc]
  refine (List.perm_append_comm_assoc _ _ _).trans (List.Perm.append_left _ ?_)
  exact (List.Perm.append_left _ (List.perm_append_comm_assoc _ _ _)).trans (List.perm_append_comm_assoc _ _ _)
theorem sg2r {ws s0 x1 s1 x2 s2 : va_W} (h : ws = s0 ++ (x1 ++ (s1 ++ (x2 ++ s2)))) : ws.Perm ((x2 ++ x1) ++ (s0 ++ (s1 ++ s2))) :=
  (sg2 h).trans (List.Perm.append_right _ List.perm_append_comm)
theorem sg3r {ws s0 x1 s1 x2 s2 x3 s3 : va_W} (h : ws = s0 ++ (x1 ++ (s1 ++ (x2 ++ (s2 ++ (x3 ++ s3)))))) : ws.Perm ((x3 ++ (x1 ++ x2)) ++ (s0 ++ (s1 ++ (s2 ++ s3)))) := by
  refine (sg2 h).trans ?_
  have e : (x1 ++ x2 ++ (s0 ++ (s1 ++ (s2 ++ (x3 ++ s3))))).Perm (x3 ++ (x1 ++ x2 ++ (s0 ++ (s1 ++ (s2 ++ s3))))) := by
    refine List.Perm.trans (List.Perm.append_left _ ?_) (List.perm_append_comm_assoc _ _ _)
    refine List.Perm.trans (List.Perm.append_left _ ?_) (List.perm_append_comm_assoc _ _ _)
    refine List.Perm.trans (List.Perm.append_left _ ?_) (List.perm_append_comm_assoc _ _ _)
    exact List.perm_append_comm_assoc _ _ _
  rw [List.append_assoc x3]
  exact e
section TBQ
variable {p : Program} {l : Launch} {e : Env} {R : Room} {s : State} {m : MethodId} {args : Array Value} {below : List Frame} {meth : Method} {c : Code} {H : Heap} {locs : List Loc} {cells slots : Nat} {Q : State → Prop}
variable {pc : Nat} {ls : Array Slot} {st0 rest : List Value} {D : va_G} {A0 : Nat → Prop} {H0 : Heap} {ws wc wr w1 wf : va_W} {a : Array Value}
theorem gpi {r : Int32} (hr : va_Run p l e R s m args below meth c H locs cells slots 0 0 (F0 m pc ls st0) rest (gQi D r w1 (va_A wc H.size) a) (va_A wc H.size)) (hP : va_P D vwCl ws H) (hD : va_D A0 ws) (hS : va_S A0 H0 H locs) (hA : ∀ q, H0.size ≤ q → A0 q) (hp : ws.Perm (wc ++ wr)) (hf : wf.Perm (w1 ++ wr))
    (kk : ∀ (H1 : Heap) (locs1 : List Loc), va_P D vwCl wf H1 → va_D A0 wf → va_S A0 H0 H1 locs1 → W p l e R s m args below meth c H1 locs1 cells slots Q (F0 m (pc + 3) ls (.int r :: rest))) : W p l e R s m args below meth c H locs cells slots Q (F0 m pc ls st0) := by
  have hFr := pfree hp hD hS hA
  refine va_calli hr hS (fun q _ h => hFr q h) hFr (fun r1 u t H1 locs1 ht hvm hw hB hz hk hS1 => ?_)
  subst hw
  obtain ⟨h1, h2⟩ := pjoin hp hf hP hD hS hA hk (by rw [← ht]; exact hB.1) hB.2
  exact kk H1 locs1 h1 h2 hS1
theorem gpl {r : Int64} (hr : va_Run p l e R s m args below meth c H locs cells slots 0 0 (F0 m pc ls st0) rest (gQl D r w1 (va_A wc H.size) a) (va_A wc H.size)) (hP : va_P D vwCl ws H) (hD : va_D A0 ws) (hS : va_S A0 H0 H locs) (hA : ∀ q, H0.size ≤ q → A0 q) (hp : ws.Perm (wc ++ wr)) (hf : wf.Perm (w1 ++ wr))
    (kk : ∀ (H1 : Heap) (locs1 : List Loc), va_P D vwCl wf H1 → va_D A0 wf → va_S A0 H0 H1 locs1 → W p l e R s m args below meth c H1 locs1 cells slots Q (F0 m (pc + 3) ls (.long r :: rest))) : W p l e R s m args below meth c H locs cells slots Q (F0 m pc ls st0) := by
  have hFr := pfree hp hD hS hA
  refine va_calll hr hS (fun q _ h => hFr q h) hFr (fun r1 u t H1 locs1 ht hvm hw hB hz hk hS1 => ?_)
  subst hw
  obtain ⟨h1, h2⟩ := pjoin hp hf hP hD hS hA hk (by rw [← ht]; exact hB.1) hB.2
  exact kk H1 locs1 h1 h2 hS1
theorem gpv (hr : va_Run p l e R s m args below meth c H locs cells slots 0 0 (F0 m pc ls st0) rest (gQv D w1 (va_A wc H.size) a) (va_A wc H.size)) (hP : va_P D vwCl ws H) (hD : va_D A0 ws) (hS : va_S A0 H0 H locs) (hA : ∀ q, H0.size ≤ q → A0 q) (hp : ws.Perm (wc ++ wr)) (hf : wf.Perm (w1 ++ wr))
    (kk : ∀ (H1 : Heap) (locs1 : List Loc), va_P D vwCl wf H1 → va_D A0 wf → va_S A0 H0 H1 locs1 → W p l e R s m args below meth c H1 locs1 cells slots Q (F0 m (pc + 3) ls rest)) : W p l e R s m args below meth c H locs cells slots Q (F0 m pc ls st0) := by
  have hFr := pfree hp hD hS hA
  refine va_callv hr hS (fun q _ h => hFr q h) hFr (fun u t H1 locs1 ht hvm hw hB hz hk hS1 => ?_)
  obtain ⟨h1, h2⟩ := pjoin hp hf hP hD hS hA hk (by rw [← ht]; exact hB.1) hB.2
  exact kk H1 locs1 h1 h2 hS1
end TBQ
section TBR
variable {p : Program} {l : Launch} {e : Env} {R : Room} {s : State} {m : MethodId} {args : Array Value} {below : List Frame} {meth : Method} {c : Code} {H : Heap} {locs : List Loc} {cells slots : Nat} {Q : State → Prop}
variable {pc : Nat} {ls : Array Slot} {rest : List Value} {D : va_G} {ws : va_W}
theorem tb_ald {cc : ByteArray} {cl : List vw_C} {tys : List (ClassId × FieldType)} {b : Nat} (hexec : p.tables.exec = Jvm.exec) (hb : c.code = cc) (hK : va_K D cl tys s) (hP : va_P D cl ws H) (q0 t0 : Nat) {cA : ClassId} {C : String} {n : Nat} {f : Nat → Option Nat} (ha : ws[q0]? = some (b, .inl (cA, n, .inr (.inr (.inr (.inr f)))))) (ht : tys[t0]? = some (cA, .object C)) {i : Int32} (hin : vp_in i n) {j a' : Nat} (hj : i.toNatClampNeg = j) (hv : f j = some a') (hdg : decode cc pc = .ok (.aaload, 1))
    (kk : W p l e R s m args below meth c H locs cells slots Q (F0 m (pc + 1) ls (.ref a' :: rest))) : W p l e R s m args below meth c H locs cells slots Q (F0 m pc ls (.int i :: .ref b :: rest)) := by
  refine va_aldq hexec hb hK hP q0 t0 ha ht hin hdg ?_
  rw [hj, hv]
  exact kk
end TBR
theorem tb_is2 {i : Int32} (h : okI i 3 = true) (h0 : ¬ i = 0) (h1 : ¬ i = 1) : i.toNatClampNeg = 2 := by
  obtain ⟨j, hj, e⟩ := vp_in_of (okI_in h) (by decide)
  subst e
  rw [nI_clamp (Nat.lt_trans hj (by decide))]
  rcases j with _ | _ | _ | j
  · exact absurd rfl h0
  · exact absurd rfl h1
  · rfl
  · omega
def tb_g3 (a b c : Nat) : Nat → Option Nat := fun i => if i = 0 then some a else if i = 1 then some b else if i = 2 then some c else none
theorem gCSN {R : Room} {s : State} {args : Array Value} {own host : String} {index maxL : Nat} {y : MethodName} {bytes : ByteArray} {ret : Option FieldType} {c0 : Cond} {rm : Room} {mc ms : Nat} (n : Nat) (hN : gN s) (ht : ∀ w ∈ wq c0, w.before args s = true)
    (hc : Cond.code y bytes maxL ret ∈ gw) (hl : Cond.methodLinkNest own index y host ∈ lw_tbl) (hi : Cond.static y ∈ gw) (hin : Cond.initialized y.cls ∈ gw)
    (hd : y.cls ≠ "java/lang/invoke/MethodHandle" ∧ y.cls ≠ "java/lang/invoke/VarHandle" ∧ (parseMethodDescriptor y.desc).map (fun d => d.parameters.length) = some n) (hrc : rm.cells = mc) (hrs : rm.slots = ms) (hR : rm.frames + 1 ≤ R.frames ∧ 8 + (maxL + 11) + rm.locals ≤ R.locals) :
    va_CN R s args own index y host bytes maxL ret (wq (.code y bytes maxL ret)) rm mc ms n ∧ (Cond.static y).before args s = true ∧ True :=
  ⟨va_cnB n ht (gw_I hc) rfl hrc hrs (hN _ hl rfl) (ht _ (gw_mem hin)) hd hR, ht _ (gw_mem hi), trivial⟩
