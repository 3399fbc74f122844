
theorem dgN_lt : ∀ (k m y : Nat), y < 10 ^ k → 1 ≤ k → dgN m y ≤ k := by
  intro k
  induction k with
  | zero => intro m y _ h; exact absurd h (by omega)
  | succ k ih =>
    intro m y hy _
    cases m with
    | zero => exact Nat.zero_le _
    | succ m =>
      rw [dgN.eq_2]
      split
      · rename_i h10
        have hk : 1 ≤ k := by
          rcases Nat.eq_zero_or_pos k with h | h
          · subst h; omega
          · exact h
        have h1 := ih m (y / 10) (Nat.div_lt_of_lt_mul (by rw [Nat.pow_succ] at hy; omega)) hk
        omega
      · omega
section APP
variable {p : Program} {l : Launch} {e : Env} {R : Room} {s : State} {m : MethodId} {args : Array Value} {below : List Frame} {meth : Method} {c : Code} {H : Heap} {locs : List Loc} {Q : State → Prop}
variable {pc nL : Nat} {ls : Array Slot} {rest : List Value} {dC : Nat → ClassId} {dI : Nat → Nat → Nat} {dA : Nat → ClassId} {A : Nat → Prop} {cc : ByteArray} {c0 : Cond} {d1 d2 : Nat}
variable {wb : va_W} {b v : Nat} {ml : Int32} {n : Nat} {f : Nat → Int32} {L : List Nat}
theorem apC (S : CallFix p m c cc nL s args (wq c0) RX0) (hls : ls.size = nL) (hK : gK (dC, dI) dA s) (hE : gT d1 d2 A s s.heap) (hP : va_P (dC, dI) vwCl (wb ++ (sbW dA b v ml (nI L.length) n f)) H) (hD : va_D A (wb ++ (sbW dA b v ml (nI L.length) n f))) (hS : va_S A s.heap H locs) (hA : ∀ q, s.heap.size ≤ q → A q) (hH : sbH L n f) (hn3 : n ≤ 402) (hL2 : L.length ≤ 199) {ch : Nat} (hch : ch < 128) {n0 NN : Nat} (hn0 : n0 ≤ n) (hNN : sb_cap (L.length + 1) n ≤ NN) (hRc : NN - n0 ≤ R.cells) (hRs : 2 * (NN - n0) ≤ R.slots) (hRf : (rmsbC 0 0).frames + 1 ≤ R.frames ∧ 8 + (2 + 11) + (rmsbC 0 0).locals ≤ R.locals) (hrest : (rest.map fun v => v.category).sum ≤ 8) (hdg : decode cc pc = .ok (.invokevirtual 52, 3))
    (kk : ∀ (H1 : Heap) (locs1 : List Loc) (v1 : Nat) (ml1 : Int32) (f1 : Nat → Int32) (n1 : Nat), n1 = sb_cap (L.length + 1) n → sbH (L ++ [ch]) n1 f1 → va_P (dC, dI) vwCl (wb ++ sbW dA b v1 ml1 (nI (L ++ [ch]).length) n1 f1) H1 → va_D A (wb ++ sbW dA b v1 ml1 (nI (L ++ [ch]).length) n1 f1) → va_S A s.heap H1 locs1 → W p l e R s m args below meth c H1 locs1 (n1 - n0) (2 * (n1 - n0)) Q (F0 m (pc + 3) ls (.ref b :: rest))) : W p l e R s m args below meth c H locs (n - n0) (2 * (n - n0)) Q (F0 m pc ls (.int (nI ch) :: .ref b :: rest)) := by
  have hp : (wb ++ (sbW dA b v ml (nI L.length) n f)).Perm ((sbW dA b v ml (nI L.length) n f) ++ wb) := List.perm_append_comm
  have hFr := pfree hp hD hS hA
  have hge := cap_ge (L.length + 1) n
  have hlen : (L ++ [ch]).length = L.length + 1 := by rw [List.length_append]; rfl
  refine va_callr (va_runV (As := [.int (nI ch)]) (rest := rest) S (tsbC l dC dI dA d1 d2 H.size b v ml n f L ch hH hn3 hL2 hch) (gCW 1 S.2.2.2.2 wcJ4_append_cf468 wmX0_52 wiJ4_append_cf468 weJ4_append_cf468 wnJ4 (by decide +kernel) rfl rfl hRf) (gPreVT (ci := 0) (q0 := 0) hE hS hA (psub hp hP) hK (psubD hp hD) rfl rfl) rfl rfl hls rfl (lv_room hrest) hdg ⟨by omega, by omega⟩) hS (fun q _ h => hFr q h) hFr (fun u a t H1 locs1 ht hvm hw hB hz hk hS1 => ?_)
  obtain ⟨v1, ml1, f1⟩ := u
  obtain ⟨ea, hB1, hB2⟩ := hB
  subst ea
  obtain ⟨hP1, hD1⟩ := pjoin (w1 := sbW dA a v1 ml1 (nI (L ++ [ch]).length) (sb_cap (L.length + 1) n) f1) (wf := wb ++ sbW dA a v1 ml1 (nI (L ++ [ch]).length) (sb_cap (L.length + 1) n) f1) hp List.perm_append_comm hP hD hS hA hk (by rw [← ht, hlen]; exact hB1) (by rw [hlen]; exact hB2)
  refine W.widen (k := sb_cap (L.length + 1) n - n0) (n := 2 * (sb_cap (L.length + 1) n - n0)) (by omega) (by omega) ?_
  exact kk H1 locs1 v1 ml1 f1 _ rfl hw hP1 hD1 hS1
theorem apI (S : CallFix p m c cc nL s args (wq c0) RX0) (hls : ls.size = nL) (hK : gK (dC, dI) dA s) (hE : gT d1 d2 A s s.heap) (hP : va_P (dC, dI) vwCl (wb ++ (sbW dA b v ml (nI L.length) n f)) H) (hD : va_D A (wb ++ (sbW dA b v ml (nI L.length) n f))) (hS : va_S A s.heap H locs) (hA : ∀ q, s.heap.size ≤ q → A q) (hH : sbH L n f) (hn3 : n ≤ 402) {x : Nat} (hL2 : L.length + dgN 8 x ≤ 200) (hx0 : x < 10000000) {n0 NN : Nat} (hn0 : n0 ≤ n) (hNN : sb_cap (L.length + dgN 8 x) n ≤ NN) (hRc : NN - n0 ≤ R.cells) (hRs : 2 * (NN - n0) ≤ R.slots) (hRf : (rmsbI 0 0).frames + 1 ≤ R.frames ∧ 8 + (2 + 11) + (rmsbI 0 0).locals ≤ R.locals) (hrest : (rest.map fun v => v.category).sum ≤ 8) (hdg : decode cc pc = .ok (.invokevirtual 58, 3))
    (kk : ∀ (H1 : Heap) (locs1 : List Loc) (v1 : Nat) (ml1 : Int32) (f1 : Nat → Int32) (n1 : Nat), n1 = sb_cap (L.length + dgN 8 x) n → sbH (L ++ dgs 8 x) n1 f1 → va_P (dC, dI) vwCl (wb ++ sbW dA b v1 ml1 (nI (L ++ dgs 8 x).length) n1 f1) H1 → va_D A (wb ++ sbW dA b v1 ml1 (nI (L ++ dgs 8 x).length) n1 f1) → va_S A s.heap H1 locs1 → W p l e R s m args below meth c H1 locs1 (n1 - n0) (2 * (n1 - n0)) Q (F0 m (pc + 3) ls (.ref b :: rest))) : W p l e R s m args below meth c H locs (n - n0) (2 * (n - n0)) Q (F0 m pc ls (.int (nI x) :: .ref b :: rest)) := by
  have hp : (wb ++ (sbW dA b v ml (nI L.length) n f)).Perm ((sbW dA b v ml (nI L.length) n f) ++ wb) := List.perm_append_comm
  have hFr := pfree hp hD hS hA
  have hge := cap_ge (L.length + dgN 8 x) n
  have hlen : (L ++ dgs 8 x).length = L.length + dgN 8 x := by rw [List.length_append, dgs_len]
  refine va_callr (va_runV (As := [.int (nI x)]) (rest := rest) S (tsbI l dC dI dA d1 d2 H.size b v ml n f L x hH hn3 hL2 hx0) (gCW 1 S.2.2.2.2 wcJ4_append_bf812 wmX0_58 wiJ4_append_bf812 weJ4_append_bf812 wnJ4 (by decide +kernel) rfl rfl hRf) (gPreVT (ci := 0) (q0 := 0) hE hS hA (psub hp hP) hK (psubD hp hD) rfl rfl) rfl rfl hls rfl (lv_room hrest) hdg ⟨by omega, by omega⟩) hS (fun q _ h => hFr q h) hFr (fun u a t H1 locs1 ht hvm hw hB hz hk hS1 => ?_)
  obtain ⟨v1, ml1, f1⟩ := u
  obtain ⟨ea, hB1, hB2⟩ := hB
  subst ea
  obtain ⟨hP1, hD1⟩ := pjoin (w1 := sbW dA a v1 ml1 (nI (L ++ dgs 8 x).length) (sb_cap (L.length + dgN 8 x) n) f1) (wf := wb ++ sbW dA a v1 ml1 (nI (L ++ dgs 8 x).length) (sb_cap (L.length + dgN 8 x) n) f1) hp List.perm_append_comm hP hD hS hA hk (by rw [← ht, hlen]; exact hB1) (by rw [hlen]; exact hB2)
  refine W.widen (k := sb_cap (L.length + dgN 8 x) n - n0) (n := 2 * (sb_cap (L.length + dgN 8 x) n - n0)) (by omega) (by omega) ?_
  exact kk H1 locs1 v1 ml1 f1 _ rfl hw hP1 hD1 hS1
end APP
/-- the capacity behind writeOfDay -/
def wdN (n l0 day x : Nat) : Nat := sb_cap (l0 + 1 + dgN 8 day + 1 + dgN 8 x) (sb_cap (l0 + 1 + dgN 8 day + 1) (sb_cap (l0 + 1 + dgN 8 day) (sb_cap (l0 + 1) n)))
def wdT (ch day x : Nat) : List Nat := [ch] ++ (dgs 8 day ++ ([58] ++ dgs 8 x))
theorem wdT_len (ch day x : Nat) : (wdT ch day x).length = 2 + dgN 8 day + dgN 8 x := by
  unfold wdT
  rw [List.length_append, List.length_append, List.length_append, dgs_len, dgs_len]
  show 1 + (_ + (1 + _)) = _
  omega
abbrev rmwod (mc ms : Nat) : Room := { frames := 6, cells := mc, slots := ms, locals := 148 }
set_option maxHeartbeats 4000000 in
set_option maxRecDepth 100000 in
theorem twod (l : Launch) (dC : Nat → ClassId) (dI : Nat → Nat → Nat) (dA : Nat → ClassId) (d1 d2 : Nat) (sz : Nat) (b v : Nat) (ml : Int32) (n : Nat) (f : Nat → Int32) (L : List Nat) (ch day x : Nat) (hH : sbH L n f) (hn3 : n ≤ 402) (hL2 : L.length + (2 + dgN 8 day + dgN 8 x) ≤ 200) (hch : ch < 128) (hday : day < 10) (hx0 : x < 10000000) : Met l yX0_writeOfDay (wq (Cond.code yX0_writeOfDay cX0_writeOfDay 4 none)) (rmwod (wdN n L.length day x - n) (2 * (wdN n L.length day x - n))) (gPT d1 d2 [.ref b, .int (nI ch), .int (nI day), .int (nI x)] (dC, dI) dA (sbW dA b v ml (nI L.length) n f) sz) (sbQv (dC, dI) (fun f9 => sbH (L ++ wdT ch day x) (wdN n L.length day x) f9) (fun v ml f => sbW dA b v ml (nI (L ++ wdT ch day x).length) (wdN n L.length day x) f) (va_A (sbW dA b v ml (nI L.length) n f) sz)) (wdN n L.length day x - n) (2 * (wdN n L.length day x - n)) (va_A (sbW dA b v ml (nI L.length) n f) sz) := by
  refine Met.ofW (cc := cX0_writeOfDay) (maxL := 4) (ret := none) (by decide) rfl ?_
  intro p e s m args below meth c s₁ B hml hv
  obtain ⟨rfl, hsz, hP, hK, hE, hD0⟩ := hv
  have hx := B.exec
  have hb := B.bytes
  have hr := B.returns
  have hts := atoms_spec (ws := wq (Cond.code yX0_writeOfDay cX0_writeOfDay 4 none)) B.pre
  have hown : s.vm.findClass RX0 = some m.cls := findClass_of_methodNamed B.named
  have hlocks := B.notSynchronized
  clear B
  subst hsz
  have hD := hD0.self (sz := s.heap.size)
  generalize hAe : va_A (sbW dA b v ml (nI L.length) n f) s.heap.size = A at hD hE ⊢
  have hA : ∀ q : Nat, s.heap.size ≤ q → A q := fun q h => by rw [← hAe]; exact Or.inr h
  clear hAe hD0
  have hS : va_S A s.heap s.heap [] := va_S.rf
  have hl := lv_entry ([.ref b, .int (nI ch), .int (nI day), .int (nI x)]) (n := 4) (Nat.le_of_ble_eq_true rfl)
  rw [lg_entry_eq]
  generalize (lg_sl ([.ref b, .int (nI ch), .int (nI day), .int (nI x)]) ++ List.replicate (4 - (lg_sl ([.ref b, .int (nI ch), .int (nI day), .int (nI x)])).length) Slot.unset).toArray = ls at hl ⊢
  have hl : lv_has ls 4 [(0, .ref b), (1, .int (nI ch)), (2, .int (nI day)), (3, .int (nI x))] := hl
  have hlw := wdT_len ch day x
  obtain ⟨NN, hNN⟩ : ∃ z, z = wdN n L.length day x := ⟨_, rfl⟩
  have g1 := cap_ge (L.length + 1) n
  have g2 := cap_ge (L.length + 1 + dgN 8 day) (sb_cap (L.length + 1) n)
  have g3 := cap_ge (L.length + 1 + dgN 8 day + 1) (sb_cap (L.length + 1 + dgN 8 day) (sb_cap (L.length + 1) n))
  have g4 := cap_ge (L.length + 1 + dgN 8 day + 1 + dgN 8 x) (sb_cap (L.length + 1 + dgN 8 day + 1) (sb_cap (L.length + 1 + dgN 8 day) (sb_cap (L.length + 1) n)))
  have hNe : NN = sb_cap (L.length + 1 + dgN 8 day + 1 + dgN 8 x) (sb_cap (L.length + 1 + dgN 8 day + 1) (sb_cap (L.length + 1 + dgN 8 day) (sb_cap (L.length + 1) n))) := hNN
  rw [← hNN]
  have S : CallFix p m c cX0_writeOfDay 4 s (([.ref b, .int (nI ch), .int (nI day), .int (nI x)] : List Value).toArray) (wq (Cond.code yX0_writeOfDay cX0_writeOfDay 4 none)) RX0 := ⟨hx, hb, hml, hown, hts⟩
  change W p l e (rmwod (NN - n) (2 * (NN - n))) s m (([.ref b, .int (nI ch), .int (nI day), .int (nI x)] : List Value).toArray) below meth c s.heap [] 0 0 _ _
  refine W.widen (k := n - n) (n := 2 * (n - n)) (Nat.zero_le _) (Nat.zero_le _) ?_
  refine lv_aload_n hx hb dX0_writeOfDay_0 rfl (lv_at hl 0 rfl) ?_
  refine lv_iload_n hx hb dX0_writeOfDay_1 rfl (lv_at hl 1 rfl) ?_
  refine apC (wb := []) (NN := NN) S hl.1 hK hE hP hD hS hA hH hn3 (by omega) hch (Nat.le_refl n) (by omega) (Nat.le_refl _) (Nat.le_refl _) ⟨Nat.le_of_ble_eq_true rfl, Nat.le_of_ble_eq_true rfl⟩ (Nat.le_of_ble_eq_true rfl) dX0_writeOfDay_2 (fun H locs v1 ml1 f1 n1 hn1 hH hP hD hS => ?_)
  have l1 : (L ++ [ch]).length = L.length + 1 := by rw [List.length_append]; rfl
  have c1 : n1 ≤ 402 := by rw [hn1]; exact cap_le (by omega) hn3
  refine lv_iload_n hx hb dX0_writeOfDay_5 rfl (lv_at hl 2 rfl) ?_
  refine apI (wb := []) (NN := NN) S hl.1 hK hE hP hD hS hA hH c1 (by omega) (show day < 10000000 by omega) (by omega) (by rw [l1, hn1]; omega) (Nat.le_refl _) (Nat.le_refl _) ⟨Nat.le_of_ble_eq_true rfl, Nat.le_of_ble_eq_true rfl⟩ (Nat.le_of_ble_eq_true rfl) dX0_writeOfDay_6 (fun H locs v2 ml2 f2 n2 hn2 hH hP hD hS => ?_)
  have l2 : (L ++ [ch] ++ dgs 8 day).length = L.length + 1 + dgN 8 day := by rw [List.length_append, l1, dgs_len]
  rw [l1, hn1] at hn2
  have c2 : n2 ≤ 402 := by rw [hn2]; exact cap_le (by omega) (by rw [← hn1]; exact c1)
  refine lv_bipush (v := 58) hx hb dX0_writeOfDay_9 (by decide) ?_
  refine apC (wb := []) (NN := NN) (ch := 58) S hl.1 hK hE hP hD hS hA hH c2 (by omega) (by omega) (by omega) (by rw [l2, hn2]; omega) (Nat.le_refl _) (Nat.le_refl _) ⟨Nat.le_of_ble_eq_true rfl, Nat.le_of_ble_eq_true rfl⟩ (Nat.le_of_ble_eq_true rfl) dX0_writeOfDay_11 (fun H locs v3 ml3 f3 n3 hn3' hH hP hD hS => ?_)
  have l3 : (L ++ [ch] ++ dgs 8 day ++ [58]).length = L.length + 1 + dgN 8 day + 1 := by rw [List.length_append, l2]; rfl
  rw [l2, hn2] at hn3'
  have c3 : n3 ≤ 402 := by rw [hn3']; exact cap_le (by omega) (by rw [← hn2]; exact c2)
  refine lv_iload_n hx hb dX0_writeOfDay_14 rfl (lv_at hl 3 rfl) ?_
  refine apI (wb := []) (NN := NN) S hl.1 hK hE hP hD hS hA hH c3 (by omega) hx0 (by omega) (by rw [l3, hn3']; omega) (Nat.le_refl _) (Nat.le_refl _) ⟨Nat.le_of_ble_eq_true rfl, Nat.le_of_ble_eq_true rfl⟩ (Nat.le_of_ble_eq_true rfl) dX0_writeOfDay_15 (fun H locs v4 ml4 f4 n4 hn4 hH hP hD hS => ?_)
  rw [l3, hn3'] at hn4
  have e4 : n4 = NN := by rw [hn4, hNe]
  have eL : L ++ [ch] ++ dgs 8 day ++ [58] ++ dgs 8 x = L ++ wdT ch day x := by unfold wdT; simp only [List.append_assoc]
  rw [eL] at hH hP hD
  rw [e4] at hH hP hD ⊢
  refine lv_pop hx hb dX0_writeOfDay_18 rfl ?_
  exact W.vret hx hb hr (fun t ht _ => ⟨⟨(v4, ml4, f4), rfl, hH, by rw [ht]; exact hP, hD⟩, hS.F ht⟩) hS.2.2 dX0_writeOfDay_19
