abbrev rmasbS : Room := { frames := 4, cells := 0, slots := 0, locals := 104 }
set_option maxHeartbeats 4000000 in
set_option maxRecDepth 100000 in
theorem tasbS (l : Launch) (dC : Nat → ClassId) (dI : Nat → Nat → Nat) (dA : Nat → ClassId) (d1 d2 : Nat) (sz : Nat) (b v : Nat) (ml : Int32) (n : Nat) (f : Nat → Int32) (L : List Nat) (hH : sbH L n f) (hn3 : n ≤ 402) (hL2 : L.length ≤ 200) : Met l yJ5_setLength_d00df (wq (Cond.code yJ5_setLength_d00df cJ5_setLength_d00df 2 none)) rmasbS (gPT d1 d2 [.ref b, .int 0] (dC, dI) dA (sbW dA b v ml (nI L.length) n f) sz) (sbQv (dC, dI) (fun f9 => sbH [] n f9) (fun v ml f => sbW dA b v ml 0 n f) (va_A (sbW dA b v ml (nI L.length) n f) sz)) 0 0 (va_A (sbW dA b v ml (nI L.length) n f) sz) := by
  refine Met.ofW (cc := cJ5_setLength_d00df) (maxL := 2) (ret := none) (by decide) rfl ?_
  intro p e s m args below meth c s₁ B hml hv
  obtain ⟨rfl, hsz, hP, hK, hE, hD0⟩ := hv
  have hx := B.exec
  have hb := B.bytes
  have hr := B.returns
  have hts := atoms_spec (ws := wq (Cond.code yJ5_setLength_d00df cJ5_setLength_d00df 2 none)) B.pre
  have hown : s.vm.findClass RJ5 = some m.cls := findClass_of_methodNamed B.named
  have hlocks := B.notSynchronized
  clear B
  subst hsz
  have hD := hD0.self (sz := s.heap.size)
  generalize hAe : va_A (sbW dA b v ml (nI L.length) n f) s.heap.size = A at hD hE ⊢
  have hA : ∀ q : Nat, s.heap.size ≤ q → A q := fun q h => by rw [← hAe]; exact Or.inr h
  clear hAe hD0
  have hS : va_S A s.heap s.heap [] := va_S.rf
  have hl := lv_entry ([.ref b, .int 0]) (n := 2) (Nat.le_of_ble_eq_true rfl)
  rw [lg_entry_eq]
  generalize (lg_sl ([.ref b, .int 0]) ++ List.replicate (2 - (lg_sl ([.ref b, .int 0])).length) Slot.unset).toArray = ls at hl ⊢
  have hl : lv_has ls 2 [(0, .ref b), (1, .int 0)] := hl
  change W p l e rmasbS s m (([.ref b, .int 0] : List Value).toArray) below meth c s.heap [] 0 0 _ _
  have hn2 : n ≤ 1000 := by omega
  have hcap : sb_cap 0 n = n := cap_same (Nat.zero_le _)
  refine lv_iload_n hx hb dJ5_setLength_d00df_0 rfl (lv_at hl 1 rfl) ?_
  refine lv_if_ge (tgt := 13) hx hb dJ5_setLength_d00df_1 (by decide) (fun k9 => ?_) (fun k9 => absurd k9 (by decide))
  refine lv_aload_n hx hb dJ5_setLength_d00df_13 rfl (lv_at hl 0 rfl) ?_
  refine lv_iload_n hx hb dJ5_setLength_d00df_14 rfl (lv_at hl 1 rfl) ?_
  have hFr := gfree hD hS hA
  refine va_callv (va_runV (As := [.int (nI 0)]) (rest := []) ⟨hx, hb, hml, hown, hts⟩ (tensC l dC dI dA d1 d2 s.heap.size b v ml (nI L.length) n f 0 (Nat.zero_le _) hn2 hH.2.1) (gCP 1 hts wcJ5_ensureCapacityInternal_d00df wmJ5_100 wiJ5_ensureCapacityInternal_d00df hE.2.2.2.2.2.2.1 rfl wnJ5 (by decide +kernel) rfl rfl ⟨Nat.le_of_ble_eq_true rfl, Nat.le_of_ble_eq_true rfl⟩) (gPreVT (ci := 0) (q0 := 0) (ws := (sbW dA b v ml (nI L.length) n f)) hE hS hA hP hK hD rfl rfl) rfl rfl hl.1 rfl (lv_room (Nat.le_of_ble_eq_true rfl)) dJ5_setLength_d00df_15 ⟨by show 0 + (sb_cap 0 n - n) ≤ 0; omega, by show 0 + 2 * (sb_cap 0 n - n) ≤ 0; omega⟩) hS (fun q _ h => hFr q h) hFr (fun u t H1 locs ht hvm hw hB hz hk hS => ?_)
  obtain ⟨v1, ml1, f1⟩ := u
  obtain ⟨hkp, hF1⟩ := hw
  rw [hcap] at hB
  have hP : va_P (dC, dI) vwCl (sbW dA b v1 ml1 (nI L.length) n f1) H1 := by rw [← ht]; exact hB.1
  have hD : va_D A (sbW dA b v1 ml1 (nI L.length) n f1) := hB.2.weaken (fun k q _ h => hFr q.1 h)
  clear hFr hk hB hz ht hvm
  generalize H1 = H at *
  refine W.widen (k := 0) (n := 0) (by omega) (by omega) ?_
  have hE0 : sbH [] n f1 := ⟨fun j hj => absurd hj (by simp), hF1, Nat.zero_le _⟩
  refine lv_aload_n hx hb dJ5_setLength_d00df_18 rfl (lv_at hl 0 rfl) ?_
  refine va_get (D := (dC, dI)) (ci := 0) (v := .int (nI L.length)) (C := RJ4) (T := TJ4) (N := 4) hx hb hts (fun w h => gw_mem (inJ4 w h)) hown hK.1 hP 0 rfl rfl 3 (by decide) (hts _ (gw_mem wfJ5_79)) (fun _ h9 => h9) rfl dJ5_setLength_d00df_19 ?_
  refine lv_iload_n hx hb dJ5_setLength_d00df_22 rfl (lv_at hl 1 rfl) ?_
  refine lv_icmp_ge (tgt := 63) hx hb dJ5_setLength_d00df_23 (by decide) (fun k9 => ?_) (fun k9 => absurd (nI_pos' (by omega)) k9)
  refine lv_aload_n hx hb dJ5_setLength_d00df_63 rfl (lv_at hl 0 rfl) ?_
  refine va_get (D := (dC, dI)) (ci := 0) (v := .int (nI L.length)) (C := RJ4) (T := TJ4) (N := 4) hx hb hts (fun w h => gw_mem (inJ4 w h)) hown hK.1 hP 0 rfl rfl 3 (by decide) (hts _ (gw_mem wfJ5_79)) (fun _ h9 => h9) rfl dJ5_setLength_d00df_64 ?_
  refine lv_iload_n hx hb dJ5_setLength_d00df_67 rfl (lv_at hl 1 rfl) ?_
  by_cases h0 : L.length = 0
  · refine lv_icmp_le (tgt := 76) hx hb dJ5_setLength_d00df_68 (by decide) (fun k9 => ?_) (fun k9 => absurd (show nI L.length ≤ 0 by rw [h0]; decide) k9)
    refine lv_aload_n hx hb dJ5_setLength_d00df_76 rfl (lv_at hl 0 rfl) ?_
    refine lv_iload_n hx hb dJ5_setLength_d00df_77 rfl (lv_at hl 1 rfl) ?_
    refine va_put (D := (dC, dI)) (ci := 0) (v := .int 0) (ty := .int) (C := RJ4) (T := TJ4) (N := 4) hx hb hts (fun w h => gw_mem (inJ4 w h)) tyJ4 tyJ4_ok nmJ4 hown hK.1 hP hD hS 0 rfl rfl 3 (by decide) (hts _ (gw_mem wfJ5_79)) (fun _ h9 => h9) rfl (by decide +kernel) rfl rfl (Nat.le_of_ble_eq_true rfl) dJ5_setLength_d00df_78 (fun H locs hP hD hS => ?_)
    have hP : va_P (dC, dI) vwCl (sbW dA b v1 ml1 0 n f1) H := hP
    have hD : va_D A (sbW dA b v1 ml1 0 n f1) := hD
    exact W.vret hx hb hr (fun t ht _ => ⟨⟨(v1, ml1, f1), rfl, hE0, by rw [ht]; exact hP, hD⟩, hS.F ht⟩) hS.2.2 dJ5_setLength_d00df_81
  · refine lv_icmp_le (tgt := 76) hx hb dJ5_setLength_d00df_68 (by decide) (fun k9 => absurd k9 (nI_nle (by omega) (by omega))) (fun k9 => ?_)
    refine lv_aload_n hx hb dJ5_setLength_d00df_71 rfl (lv_at hl 0 rfl) ?_
    refine lv_iconst (v := 1) hx hb dJ5_setLength_d00df_72 (by decide) ?_
    refine va_put (D := (dC, dI)) (ci := 0) (v := .int 1) (ty := .boolean) (C := RJ4) (T := TJ4) (N := 4) hx hb hts (fun w h => gw_mem (inJ4 w h)) tyJ4 tyJ4_ok nmJ4 hown hK.1 hP hD hS 0 rfl rfl 2 (by decide) (hts _ (gw_mem wfJ5_73)) (fun _ h9 => h9) rfl (by decide +kernel) rfl rfl (Nat.le_of_ble_eq_true rfl) dJ5_setLength_d00df_73 (fun H locs hP hD hS => ?_)
    have hP : va_P (dC, dI) vwCl (sbW dA b v1 1 (nI L.length) n f1) H := hP
    have hD : va_D A (sbW dA b v1 1 (nI L.length) n f1) := hD
    refine lv_aload_n hx hb dJ5_setLength_d00df_76 rfl (lv_at hl 0 rfl) ?_
    refine lv_iload_n hx hb dJ5_setLength_d00df_77 rfl (lv_at hl 1 rfl) ?_
    refine va_put (D := (dC, dI)) (ci := 0) (v := .int 0) (ty := .int) (C := RJ4) (T := TJ4) (N := 4) hx hb hts (fun w h => gw_mem (inJ4 w h)) tyJ4 tyJ4_ok nmJ4 hown hK.1 hP hD hS 0 rfl rfl 3 (by decide) (hts _ (gw_mem wfJ5_79)) (fun _ h9 => h9) rfl (by decide +kernel) rfl rfl (Nat.le_of_ble_eq_true rfl) dJ5_setLength_d00df_78 (fun H locs hP hD hS => ?_)
    have hP : va_P (dC, dI) vwCl (sbW dA b v1 1 0 n f1) H := hP
    have hD : va_D A (sbW dA b v1 1 0 n f1) := hD
    exact W.vret hx hb hr (fun t ht _ => ⟨⟨(v1, 1, f1), rfl, hE0, by rw [ht]; exact hP, hD⟩, hS.F ht⟩) hS.2.2 dJ5_setLength_d00df_81
abbrev rmsbS : Room := { frames := 5, cells := 0, slots := 0, locals := 125 }
set_option maxHeartbeats 4000000 in
set_option maxRecDepth 100000 in
theorem tsbS (l : Launch) (dC : Nat → ClassId) (dI : Nat → Nat → Nat) (dA : Nat → ClassId) (d1 d2 : Nat) (sz : Nat) (b v : Nat) (ml : Int32) (n : Nat) (f : Nat → Int32) (L : List Nat) (hH : sbH L n f) (hn3 : n ≤ 402) (hL2 : L.length ≤ 200) : Met l yJ4_setLength_d00df (wq (Cond.code yJ4_setLength_d00df cJ4_setLength_d00df 2 none)) rmsbS (gPT d1 d2 [.ref b, .int 0] (dC, dI) dA (sbW dA b v ml (nI L.length) n f) sz) (sbQv (dC, dI) (fun f9 => sbH [] n f9) (fun v ml f => sbW dA b v ml 0 n f) (va_A (sbW dA b v ml (nI L.length) n f) sz)) 0 0 (va_A (sbW dA b v ml (nI L.length) n f) sz) := by
  refine Met.ofW (cc := cJ4_setLength_d00df) (maxL := 2) (ret := none) (by decide) rfl ?_
  intro p e s m args below meth c s₁ B hml hv
  obtain ⟨rfl, hsz, hP, hK, hE, hD0⟩ := hv
  have hx := B.exec
  have hb := B.bytes
  have hr := B.returns
  have hts := atoms_spec (ws := wq (Cond.code yJ4_setLength_d00df cJ4_setLength_d00df 2 none)) B.pre
  have hown : s.vm.findClass RJ4 = some m.cls := findClass_of_methodNamed B.named
  have hlocks := B.notSynchronized
  clear B
  subst hsz
  have hD := hD0.self (sz := s.heap.size)
  generalize hAe : va_A (sbW dA b v ml (nI L.length) n f) s.heap.size = A at hD hE ⊢
  have hA : ∀ q : Nat, s.heap.size ≤ q → A q := fun q h => by rw [← hAe]; exact Or.inr h
  clear hAe hD0
  have hS : va_S A s.heap s.heap [] := va_S.rf
  have hl := lv_entry ([.ref b, .int 0]) (n := 2) (Nat.le_of_ble_eq_true rfl)
  rw [lg_entry_eq]
  generalize (lg_sl ([.ref b, .int 0]) ++ List.replicate (2 - (lg_sl ([.ref b, .int 0])).length) Slot.unset).toArray = ls at hl ⊢
  have hl : lv_has ls 2 [(0, .ref b), (1, .int 0)] := hl
  change W p l e rmsbS s m (([.ref b, .int 0] : List Value).toArray) below meth c s.heap [] 0 0 _ _
  refine lv_aload_n hx hb dJ4_setLength_d00df_0 rfl (lv_at hl 0 rfl) ?_
  refine lv_iload_n hx hb dJ4_setLength_d00df_1 rfl (lv_at hl 1 rfl) ?_
  have hFr := gfree hD hS hA
  refine va_callv (va_runSU ((hK.1.1 0 (RJ4, TJ4, 4) rfl).2) (As := [.int 0]) (rest := []) ⟨hx, hb, hml, hown, hts⟩ (tasbS l dC dI dA d1 d2 s.heap.size b v ml n f L hH hn3 hL2) (gCU 1 hts wcJ5_setLength_d00df wmJ4_333 wsmJ5_setLength_d00df wsuJ4 wiJ5_setLength_d00df wnJ5 (by decide +kernel) rfl rfl ⟨Nat.le_of_ble_eq_true rfl, Nat.le_of_ble_eq_true rfl⟩) (gPreVT (ci := 0) (q0 := 0) (ws := (sbW dA b v ml (nI L.length) n f)) hE hS hA hP hK hD rfl rfl) rfl rfl hl.1 rfl (lv_room (Nat.le_of_ble_eq_true rfl)) dJ4_setLength_d00df_2 ⟨Nat.le_of_ble_eq_true rfl, Nat.le_of_ble_eq_true rfl⟩) hS (fun q _ h => hFr q h) hFr (fun u t H1 locs ht hvm hw hB hz hk hS => ?_)
  refine W.widen (k := 0) (n := 0) (by omega) (by omega) ?_
  exact W.vret hx hb hr (fun t1 ht1 _ => ⟨⟨u, rfl, hw, by rw [ht1, ← ht]; exact hB.1, hB.2.weaken (fun k q _ h => hFr q.1 h)⟩, hS.F ht1⟩) hS.2.2 dJ4_setLength_d00df_5
abbrev rmasbL : Room := { frames := 0, cells := 0, slots := 0, locals := 0 }
set_option maxHeartbeats 4000000 in
set_option maxRecDepth 100000 in
theorem tasbL (l : Launch) (dC : Nat → ClassId) (dI : Nat → Nat → Nat) (dA : Nat → ClassId) (sz : Nat) (b v : Nat) (ml ct : Int32) (n : Nat) (f : Nat → Int32)  : Met l yJ5_length_8abf5 (wq (Cond.code yJ5_length_8abf5 cJ5_length_8abf5 1 (some .int))) rmasbL (gP [.ref b] (dC, dI) dA (sbW dA b v ml ct n f) sz) (gQi (dC, dI) ct (sbW dA b v ml ct n f) (va_A (sbW dA b v ml ct n f) sz)) 0 0 (va_A (sbW dA b v ml ct n f) sz) := by
  refine Met.ofW (cc := cJ5_length_8abf5) (maxL := 1) (ret := (some .int)) (by decide) rfl ?_
  intro p e s m args below meth c s₁ B hml hv
  obtain ⟨rfl, hsz, hP, hK, hD0⟩ := hv
  have hx := B.exec
  have hb := B.bytes
  have hr := B.returns
  have hts := atoms_spec (ws := wq (Cond.code yJ5_length_8abf5 cJ5_length_8abf5 1 (some .int))) B.pre
  have hown : s.vm.findClass RJ5 = some m.cls := findClass_of_methodNamed B.named
  have hlocks := B.notSynchronized
  clear B
  subst hsz
  have hD := hD0.self (sz := s.heap.size)
  generalize hAe : va_A (sbW dA b v ml ct n f) s.heap.size = A at hD ⊢
  have hA : ∀ q : Nat, s.heap.size ≤ q → A q := fun q h => by rw [← hAe]; exact Or.inr h
  clear hAe hD0
  have hS : va_S A s.heap s.heap [] := va_S.rf
  have hl := lv_entry ([.ref b]) (n := 1) (Nat.le_of_ble_eq_true rfl)
  rw [lg_entry_eq]
  generalize (lg_sl ([.ref b]) ++ List.replicate (1 - (lg_sl ([.ref b])).length) Slot.unset).toArray = ls at hl ⊢
  have hl : lv_has ls 1 [(0, .ref b)] := hl
  change W p l e rmasbL s m (([.ref b] : List Value).toArray) below meth c s.heap [] 0 0 _ _
  refine lv_aload_n hx hb dJ5_length_8abf5_0 rfl (lv_at hl 0 rfl) ?_
  refine va_get (D := (dC, dI)) (ci := 0) (v := .int ct) (C := RJ4) (T := TJ4) (N := 4) hx hb hts (fun w h => gw_mem (inJ4 w h)) hown hK.1 hP 0 rfl rfl 3 (by decide) (hts _ (gw_mem wfJ5_79)) (fun _ h9 => h9) rfl dJ5_length_8abf5_1 ?_
  exact W.iret hx hb hr (fun t ht _ => gqi hP hD hS ht) hS.2.2 dJ5_length_8abf5_4
abbrev rmsbL : Room := { frames := 1, cells := 0, slots := 0, locals := 20 }
set_option maxHeartbeats 4000000 in
set_option maxRecDepth 100000 in
theorem tsbL (l : Launch) (dC : Nat → ClassId) (dI : Nat → Nat → Nat) (dA : Nat → ClassId) (sz : Nat) (b v : Nat) (ml ct : Int32) (n : Nat) (f : Nat → Int32)  : Met l yJ4_length_8abf5 (wq (Cond.code yJ4_length_8abf5 cJ4_length_8abf5 1 (some .int))) rmsbL (gP [.ref b] (dC, dI) dA (sbW dA b v ml ct n f) sz) (gQi (dC, dI) ct (sbW dA b v ml ct n f) (va_A (sbW dA b v ml ct n f) sz)) 0 0 (va_A (sbW dA b v ml ct n f) sz) := by
  refine Met.ofW (cc := cJ4_length_8abf5) (maxL := 1) (ret := (some .int)) (by decide) rfl ?_
  intro p e s m args below meth c s₁ B hml hv
  obtain ⟨rfl, hsz, hP, hK, hD0⟩ := hv
  have hx := B.exec
  have hb := B.bytes
  have hr := B.returns
  have hts := atoms_spec (ws := wq (Cond.code yJ4_length_8abf5 cJ4_length_8abf5 1 (some .int))) B.pre
  have hown : s.vm.findClass RJ4 = some m.cls := findClass_of_methodNamed B.named
  have hlocks := B.notSynchronized
  clear B
  subst hsz
  have hD := hD0.self (sz := s.heap.size)
  generalize hAe : va_A (sbW dA b v ml ct n f) s.heap.size = A at hD ⊢
  have hA : ∀ q : Nat, s.heap.size ≤ q → A q := fun q h => by rw [← hAe]; exact Or.inr h
  clear hAe hD0
  have hS : va_S A s.heap s.heap [] := va_S.rf
  have hl := lv_entry ([.ref b]) (n := 1) (Nat.le_of_ble_eq_true rfl)
  rw [lg_entry_eq]
  generalize (lg_sl ([.ref b]) ++ List.replicate (1 - (lg_sl ([.ref b])).length) Slot.unset).toArray = ls at hl ⊢
  have hl : lv_has ls 1 [(0, .ref b)] := hl
  change W p l e rmsbL s m (([.ref b] : List Value).toArray) below meth c s.heap [] 0 0 _ _
  refine lv_aload_n hx hb dJ4_length_8abf5_0 rfl (lv_at hl 0 rfl) ?_
  refine gci (va_runSU ((hK.1.1 0 (RJ4, TJ4, 4) rfl).2) (As := []) (rest := []) ⟨hx, hb, hml, hown, hts⟩ (tasbL l dC dI dA s.heap.size b v ml ct n f) (gCU 0 hts wcJ5_length_8abf5 wmJ4_343 wsmJ5_length_8abf5 wsuJ4 wiJ5_length_8abf5 wnJ5 (by decide +kernel) rfl rfl ⟨Nat.le_of_ble_eq_true rfl, Nat.le_of_ble_eq_true rfl⟩) (gPreV (ci := 0) (q0 := 0) (ws := (sbW dA b v ml ct n f)) hP hK hD rfl rfl) rfl rfl hl.1 rfl (lv_room (Nat.le_of_ble_eq_true rfl)) dJ4_length_8abf5_1 ⟨Nat.le_of_ble_eq_true rfl, Nat.le_of_ble_eq_true rfl⟩) hD hS hA (fun H locs hP hD hS => ?_)
  exact W.iret hx hb hr (fun t ht _ => gqi hP hD hS ht) hS.2.2 dJ4_length_8abf5_4
abbrev rmpcI : Room := { frames := 0, cells := 0, slots := 0, locals := 0 }
set_option maxHeartbeats 4000000 in
set_option maxRecDepth 100000 in
theorem tpcI (l : Launch) (dC : Nat → ClassId) (dI : Nat → Nat → Nat) (dA : Nat → ClassId) (sz : Nat) (i m9 : Nat) (fv : Value) (hi : i < m9) (hm : m9 ≤ 10000) (hfv : fv = .null ∨ ∃ a, fv = .ref a) : Met l yJ3_checkIndex_8e157 (wq (Cond.code yJ3_checkIndex_8e157 cJ3_checkIndex_8e157 3 (some .int))) rmpcI (gP [.int (nI i), .int (nI m9), fv] (dC, dI) dA [] sz) (gQi (dC, dI) (nI i) [] (va_A [] sz)) 0 0 (va_A [] sz) := by
  refine Met.ofW (cc := cJ3_checkIndex_8e157) (maxL := 3) (ret := (some .int)) (by decide) rfl ?_
  intro p e s m args below meth c s₁ B hml hv
  obtain ⟨rfl, hsz, hP, hK, hD0⟩ := hv
  have hx := B.exec
  have hb := B.bytes
  have hr := B.returns
  have hts := atoms_spec (ws := wq (Cond.code yJ3_checkIndex_8e157 cJ3_checkIndex_8e157 3 (some .int))) B.pre
  have hown : s.vm.findClass RJ3 = some m.cls := findClass_of_methodNamed B.named
  have hlocks := B.notSynchronized
  clear B
  subst hsz
  have hD := hD0.self (sz := s.heap.size)
  generalize hAe : va_A [] s.heap.size = A at hD ⊢
  have hA : ∀ q : Nat, s.heap.size ≤ q → A q := fun q h => by rw [← hAe]; exact Or.inr h
  clear hAe hD0
  have hS : va_S A s.heap s.heap [] := va_S.rf
  have hl : lv_has (lg_sl ([.int (nI i), .int (nI m9), fv]) ++ List.replicate (3 - (lg_sl ([.int (nI i), .int (nI m9), fv])).length) Slot.unset).toArray 3 [(0, .int (nI i)), (1, .int (nI m9)), (2, fv)] := by rcases hfv with rfl | ⟨a, rfl⟩ <;> exact lv_entry _ (n := 3) (Nat.le_of_ble_eq_true rfl)
  rw [lg_entry_eq]
  generalize (lg_sl ([.int (nI i), .int (nI m9), fv]) ++ List.replicate (3 - (lg_sl ([.int (nI i), .int (nI m9), fv])).length) Slot.unset).toArray = ls at hl ⊢
  have hl : lv_has ls 3 [(0, .int (nI i)), (1, .int (nI m9)), (2, fv)] := hl
  change W p l e rmpcI s m (([.int (nI i), .int (nI m9), fv] : List Value).toArray) below meth c s.heap [] 0 0 _ _
  refine lv_iload_n hx hb dJ3_checkIndex_8e157_0 rfl (lv_at hl 0 rfl) ?_
  refine lv_if_lt (tgt := 9) hx hb dJ3_checkIndex_8e157_1 (by decide) (fun k9 => absurd k9 (nI_pos (by omega))) (fun k9 => ?_)
  refine lv_iload_n hx hb dJ3_checkIndex_8e157_4 rfl (lv_at hl 0 rfl) ?_
  refine lv_iload_n hx hb dJ3_checkIndex_8e157_5 rfl (lv_at hl 1 rfl) ?_
  refine lv_icmp_lt (tgt := 16) hx hb dJ3_checkIndex_8e157_6 (by decide) (fun k9 => ?_) (fun k9 => absurd (nI_lt hi (by omega)) k9)
  refine lv_iload_n hx hb dJ3_checkIndex_8e157_16 rfl (lv_at hl 0 rfl) ?_
  exact W.iret hx hb hr (fun t ht _ => gqi hP hD hS ht) hS.2.2 dJ3_checkIndex_8e157_17
abbrev rmscI : Room := { frames := 1, cells := 0, slots := 0, locals := 22 }
set_option maxHeartbeats 4000000 in
set_option maxRecDepth 100000 in
theorem tscI (l : Launch) (dC : Nat → ClassId) (dI : Nat → Nat → Nat) (dA : Nat → ClassId) (d1 d2 : Nat) (sz : Nat) (i m9 : Nat) (hi : i < m9) (hm : m9 ≤ 10000) : Met l yJ0_checkIndex_df160 (wq (Cond.code yJ0_checkIndex_df160 cJ0_checkIndex_df160 2 none)) rmscI (gPT d1 d2 [.int (nI i), .int (nI m9)] (dC, dI) dA [] sz) (gQv (dC, dI) [] (va_A [] sz)) 0 0 (va_A [] sz) := by
  refine Met.ofW (cc := cJ0_checkIndex_df160) (maxL := 2) (ret := none) (by decide) rfl ?_
  intro p e s m args below meth c s₁ B hml hv
  obtain ⟨rfl, hsz, hP, hK, hE, hD0⟩ := hv
  have hx := B.exec
  have hb := B.bytes
  have hr := B.returns
  have hts := atoms_spec (ws := wq (Cond.code yJ0_checkIndex_df160 cJ0_checkIndex_df160 2 none)) B.pre
  have hown : s.vm.findClass RJ0 = some m.cls := findClass_of_methodNamed B.named
  have hlocks := B.notSynchronized
  clear B
  subst hsz
  have hD := hD0.self (sz := s.heap.size)
  generalize hAe : va_A [] s.heap.size = A at hD hE ⊢
  have hA : ∀ q : Nat, s.heap.size ≤ q → A q := fun q h => by rw [← hAe]; exact Or.inr h
  clear hAe hD0
  have hS : va_S A s.heap s.heap [] := va_S.rf
  have hl := lv_entry ([.int (nI i), .int (nI m9)]) (n := 2) (Nat.le_of_ble_eq_true rfl)
  rw [lg_entry_eq]
  generalize (lg_sl ([.int (nI i), .int (nI m9)]) ++ List.replicate (2 - (lg_sl ([.int (nI i), .int (nI m9)])).length) Slot.unset).toArray = ls at hl ⊢
  have hl : lv_has ls 2 [(0, .int (nI i)), (1, .int (nI m9))] := hl
  change W p l e rmscI s m (([.int (nI i), .int (nI m9)] : List Value).toArray) below meth c s.heap [] 0 0 _ _
  refine lv_iload_n hx hb dJ0_checkIndex_df160_0 rfl (lv_at hl 0 rfl) ?_
  refine lv_iload_n hx hb dJ0_checkIndex_df160_1 rfl (lv_at hl 1 rfl) ?_
  obtain ⟨fv, hfv, hZ⟩ : ∃ fv : Value, (fv = .null ∨ ∃ a, fv = .ref a) ∧ va_Z "jdk/internal/util/Preconditions" "SIOOBE_FORMATTER" "Ljava/util/function/BiFunction;" fv A s s.heap := by
    rcases hE.2.2.2.2.2.1 with h | ⟨t, h⟩
    · exact ⟨.null, Or.inl rfl, h⟩
    · exact ⟨.ref t, Or.inr ⟨t, rfl⟩, h⟩
  refine va_gets hx hb hZ hS hown (hts _ (gw_mem wfJ0_1053)) (fun _ h => h) dJ0_checkIndex_df160_2 ?_
  refine gci0 (va_runS (As := [.int (nI i), .int (nI m9), fv]) (rest := []) ⟨hx, hb, hml, hown, hts⟩ (tpcI l dC dI dA s.heap.size i m9 fv hi hm hfv) (gCS 3 hts wcJ3_checkIndex_8e157 wmJ0_1059 wtJ3_checkIndex_8e157 wnJ3 (by decide +kernel) rfl rfl ⟨Nat.le_of_ble_eq_true rfl, Nat.le_of_ble_eq_true rfl⟩) (gPreS0 hK) rfl rfl hl.1 rfl (lv_room (Nat.le_of_ble_eq_true rfl)) dJ0_checkIndex_df160_5 ⟨Nat.le_of_ble_eq_true rfl, Nat.le_of_ble_eq_true rfl⟩) hP hS hA (fun H locs hP hS => ?_)
  refine lv_pop hx hb dJ0_checkIndex_df160_8 rfl ?_
  exact W.vret hx hb hr (fun t ht _ => gqv hP hD hS ht) hS.2.2 dJ0_checkIndex_df160_9

theorem and255 {c : Nat} (h : c < 128) : ((nI c &&& 255).toUInt32 % 65536).toInt32 = nI c := (by decide +kernel : ∀ c : Fin 128, ((nI c.val &&& 255).toUInt32 % 65536).toInt32 = nI c.val) ⟨c, h⟩
theorem gcv0 {p : Program} {l : Launch} {e : Env} {R : Room} {s : State} {m : MethodId} {args : Array Value} {below : List Frame} {meth : Method} {c : Code} {H : Heap} {locs : List Loc} {cells slots : Nat} {Q : State → Prop} {pc : Nat} {ls : Array Slot} {st0 rest : List Value} {D : va_G} {A0 : Nat → Prop} {H0 : Heap} {ws : va_W} {a : Array Value} (hr : va_Run p l e R s m args below meth c H locs cells slots 0 0 (F0 m pc ls st0) rest (gQv D [] (va_A [] H.size) a) (va_A [] H.size)) (hP : va_P D vwCl ws H) (hS : va_S A0 H0 H locs) (hA : ∀ q, H0.size ≤ q → A0 q)
    (kk : ∀ (H1 : Heap) (locs1 : List Loc), va_P D vwCl ws H1 → va_S A0 H0 H1 locs1 → W p l e R s m args below meth c H1 locs1 cells slots Q (F0 m (pc + 3) ls rest)) : W p l e R s m args below meth c H locs cells slots Q (F0 m pc ls st0) := by
  have hF := gF0 hS hA
  refine va_callv hr hS (fun q _ h => hF q h) hF (fun u t H1 locs1 ht hvm hw hB hz hk hS1 => ?_)
  exact kk H1 locs1 (gA0 hP hk) hS1
theorem gPreST0 {d1 d2 : Nat} {s : State} {H : Heap} {locs : List Loc} {av : List Value} {D : va_G} {dA : Nat → ClassId} {A : Nat → Prop} (hE : gT d1 d2 A s s.heap) (hS : va_S A s.heap H locs) (hA : ∀ q, s.heap.size ≤ q → A q) (hK : gK D dA s) : PreS s H (gPT d1 d2 av D dA [] H.size) av := gPreST (ws := []) hE hS hA (fun k q h => by simp at h) hK ⟨fun i j p q h => by simp at h, fun k q h => by simp at h⟩
abbrev rmasbA : Room := { frames := 2, cells := 0, slots := 0, locals := 43 }
set_option maxHeartbeats 4000000 in
set_option maxRecDepth 100000 in
theorem tasbA (l : Launch) (dC : Nat → ClassId) (dI : Nat → Nat → Nat) (dA : Nat → ClassId) (d1 d2 : Nat) (sz : Nat) (b v : Nat) (ml : Int32) (n : Nat) (f : Nat → Int32) (L : List Nat) (i : Nat) (hH : sbH L n f) (hn3 : n ≤ 402) (hi : i < L.length) (hc : L.getD i 0 < 128) : Met l yJ5_charAt_5068e (wq (Cond.code yJ5_charAt_5068e cJ5_charAt_5068e 5 (some .char))) rmasbA (gPT d1 d2 [.ref b, .int (nI i)] (dC, dI) dA (sbW dA b v ml (nI L.length) n f) sz) (gQi (dC, dI) (nI (L.getD i 0)) (sbW dA b v ml (nI L.length) n f) (va_A (sbW dA b v ml (nI L.length) n f) sz)) 0 0 (va_A (sbW dA b v ml (nI L.length) n f) sz) := by
  refine Met.ofW (cc := cJ5_charAt_5068e) (maxL := 5) (ret := (some .char)) (by decide) rfl ?_
  intro p e s m args below meth c s₁ B hml hv
  obtain ⟨rfl, hsz, hP, hK, hE, hD0⟩ := hv
  have hx := B.exec
  have hb := B.bytes
  have hr := B.returns
  have hts := atoms_spec (ws := wq (Cond.code yJ5_charAt_5068e cJ5_charAt_5068e 5 (some .char))) B.pre
  have hown : s.vm.findClass RJ5 = some m.cls := findClass_of_methodNamed B.named
  have hlocks := B.notSynchronized
  clear B
  subst hsz
  have hD := hD0.self (sz := s.heap.size)
  generalize hAe : va_A (sbW dA b v ml (nI L.length) n f) s.heap.size = A at hD hE ⊢
  have hA : ∀ q : Nat, s.heap.size ≤ q → A q := fun q h => by rw [← hAe]; exact Or.inr h
  clear hAe hD0
  have hS : va_S A s.heap s.heap [] := va_S.rf
  have hl := lv_entry ([.ref b, .int (nI i)]) (n := 5) (Nat.le_of_ble_eq_true rfl)
  rw [lg_entry_eq]
  generalize (lg_sl ([.ref b, .int (nI i)]) ++ List.replicate (5 - (lg_sl ([.ref b, .int (nI i)])).length) Slot.unset).toArray = ls at hl ⊢
  have hl : lv_has ls 5 [(0, .ref b), (1, .int (nI i))] := hl
  change W p l e rmasbA s m (([.ref b, .int (nI i)] : List Value).toArray) below meth c s.heap [] 0 0 _ _
  have hln := hH.2.2
  refine lv_aload_n hx hb dJ5_charAt_5068e_0 rfl (lv_at hl 0 rfl) ?_
  refine va_get (D := (dC, dI)) (ci := 0) (v := .int 0) (C := RJ4) (T := TJ4) (N := 4) hx hb hts (fun w h => gw_mem (inJ4 w h)) hown hK.1 hP 0 rfl rfl 1 (by decide) (hts _ (gw_mem wfJ5_22)) (fun _ h9 => h9) rfl dJ5_charAt_5068e_1 ?_
  refine lv_istore_n (lv' := [(2, .int 0), (0, .ref b), (1, .int (nI i))]) hx hb dJ5_charAt_5068e_4 rfl hl (by decide) rfl (fun ls hl => ?_)
  refine lv_aload_n hx hb dJ5_charAt_5068e_5 rfl (lv_at hl 1 rfl) ?_
  refine va_get (D := (dC, dI)) (ci := 0) (v := .ref v) (C := RJ4) (T := TJ4) (N := 4) hx hb hts (fun w h => gw_mem (inJ4 w h)) hown hK.1 hP 0 rfl rfl 0 (by decide) (hts _ (gw_mem wfJ5_15)) (fun _ h9 => h9) rfl dJ5_charAt_5068e_6 ?_
  refine lv_astore_n (lv' := [(3, .ref v), (2, .int 0), (0, .ref b), (1, .int (nI i))]) hx hb dJ5_charAt_5068e_9 rfl hl (by decide) rfl (fun ls hl => ?_)
  refine lv_aload_n hx hb dJ5_charAt_5068e_10 rfl (lv_at hl 2 rfl) ?_
  refine va_get (D := (dC, dI)) (ci := 0) (v := .int (nI L.length)) (C := RJ4) (T := TJ4) (N := 4) hx hb hts (fun w h => gw_mem (inJ4 w h)) hown hK.1 hP 0 rfl rfl 3 (by decide) (hts _ (gw_mem wfJ5_79)) (fun _ h9 => h9) rfl dJ5_charAt_5068e_11 ?_
  refine lv_aload_n hx hb dJ5_charAt_5068e_14 rfl (lv_at hl 0 rfl) ?_
  refine va_alen (v := nI n) hx hb hK.1 hP 1 2 rfl rfl rfl dJ5_charAt_5068e_15 ?_
  refine lv_iload_n hx hb dJ5_charAt_5068e_16 rfl (lv_at hl 1 rfl) ?_
  refine lv_ishr hx hb dJ5_charAt_5068e_17 ?_
  rw [show ((nI n) : Int32) >>> ((0 : Int32) &&& (31 : Int32)) = nI n from sb_shr0 _]
  refine va_mmin hx hb (hml.trans hl.1.symm) hown (hts _ (gw_mem wmJ5_138)) (hts _ (gw_mem wtJ9_min_7cf53)) (hts _ (gw_mem wnJ9)) (hts _ (gw_mem wcJ9_min_7cf53)) (Nat.le_of_ble_eq_true rfl) (Nat.le_of_ble_eq_true rfl) (Nat.le_of_ble_eq_true rfl) (Nat.le_of_ble_eq_true rfl) dJ5_charAt_5068e_18 ?_
  rw [show (if nI n < nI L.length then nI n else nI L.length) = nI L.length from if_neg (nI_nlt (by omega) (by omega))]
  refine lv_istore (lv' := [(4, .int (nI L.length)), (3, .ref v), (2, .int 0), (0, .ref b), (1, .int (nI i))]) hx hb dJ5_charAt_5068e_21 hl (by decide) rfl (fun ls hl => ?_)
  refine lv_iload_n hx hb dJ5_charAt_5068e_23 rfl (lv_at hl 4 rfl) ?_
  refine lv_iload hx hb dJ5_charAt_5068e_24 (lv_at hl 0 rfl) ?_
  refine gcv0 (va_runS (As := [.int (nI i), .int (nI L.length)]) (rest := []) ⟨hx, hb, hml, hown, hts⟩ (tscI l dC dI dA d1 d2 s.heap.size i L.length hi (by omega)) (gCS 2 hts wcJ0_checkIndex_df160 wmJ5_144 wtJ0_checkIndex_df160 wnJ0 (by decide +kernel) rfl rfl ⟨Nat.le_of_ble_eq_true rfl, Nat.le_of_ble_eq_true rfl⟩) (gPreST0 hE hS hA hK) rfl rfl hl.1 rfl (lv_room (Nat.le_of_ble_eq_true rfl)) dJ5_charAt_5068e_26 ⟨Nat.le_of_ble_eq_true rfl, Nat.le_of_ble_eq_true rfl⟩) hP hS hA (fun H locs hP hS => ?_)
  refine lv_iload_n hx hb dJ5_charAt_5068e_29 rfl (lv_at hl 2 rfl) ?_
  refine lv_if_ne (tgt := 42) hx hb dJ5_charAt_5068e_30 (by decide) (fun k9 => absurd k9 (by decide)) (fun k9 => ?_)
  refine lv_aload_n hx hb dJ5_charAt_5068e_33 rfl (lv_at hl 1 rfl) ?_
  refine lv_iload_n hx hb dJ5_charAt_5068e_34 rfl (lv_at hl 4 rfl) ?_
  refine va_bald hx hb hK.1 hP 1 2 rfl rfl (vp_in_nI (show i < n by omega) (by omega)) dJ5_charAt_5068e_35 ?_
  rw [nI_clamp (show i < 2 ^ 31 by omega), (hH.1 i hi).2, sbb7 hc]
  refine lv_sipush (v := 255) hx hb dJ5_charAt_5068e_36 (by decide) ?_
  refine lv_iand hx hb dJ5_charAt_5068e_39 ?_
  refine lv_i2c hx hb dJ5_charAt_5068e_40 rfl ?_
  rw [show (((nI (L.getD i 0)) &&& 255).toUInt32 % 65536).toInt32 = nI (L.getD i 0) from and255 hc]
  exact W.zret (ty := .char) hx hb hr (pk_charN (by omega)).1 (fun t ht _ => gqi hP hD hS ht) hS.2.2 dJ5_charAt_5068e_41
abbrev rmsbA : Room := { frames := 3, cells := 0, slots := 0, locals := 67 }
set_option maxHeartbeats 4000000 in
set_option maxRecDepth 100000 in
theorem tsbA (l : Launch) (dC : Nat → ClassId) (dI : Nat → Nat → Nat) (dA : Nat → ClassId) (d1 d2 : Nat) (sz : Nat) (b v : Nat) (ml : Int32) (n : Nat) (f : Nat → Int32) (L : List Nat) (i : Nat) (hH : sbH L n f) (hn3 : n ≤ 402) (hi : i < L.length) (hc : L.getD i 0 < 128) : Met l yJ4_charAt_5068e (wq (Cond.code yJ4_charAt_5068e cJ4_charAt_5068e 2 (some .char))) rmsbA (gPT d1 d2 [.ref b, .int (nI i)] (dC, dI) dA (sbW dA b v ml (nI L.length) n f) sz) (gQi (dC, dI) (nI (L.getD i 0)) (sbW dA b v ml (nI L.length) n f) (va_A (sbW dA b v ml (nI L.length) n f) sz)) 0 0 (va_A (sbW dA b v ml (nI L.length) n f) sz) := by
  refine Met.ofW (cc := cJ4_charAt_5068e) (maxL := 2) (ret := (some .char)) (by decide) rfl ?_
  intro p e s m args below meth c s₁ B hml hv
  obtain ⟨rfl, hsz, hP, hK, hE, hD0⟩ := hv
  have hx := B.exec
  have hb := B.bytes
  have hr := B.returns
  have hts := atoms_spec (ws := wq (Cond.code yJ4_charAt_5068e cJ4_charAt_5068e 2 (some .char))) B.pre
  have hown : s.vm.findClass RJ4 = some m.cls := findClass_of_methodNamed B.named
  have hlocks := B.notSynchronized
  clear B
  subst hsz
  have hD := hD0.self (sz := s.heap.size)
  generalize hAe : va_A (sbW dA b v ml (nI L.length) n f) s.heap.size = A at hD hE ⊢
  have hA : ∀ q : Nat, s.heap.size ≤ q → A q := fun q h => by rw [← hAe]; exact Or.inr h
  clear hAe hD0
  have hS : va_S A s.heap s.heap [] := va_S.rf
  have hl := lv_entry ([.ref b, .int (nI i)]) (n := 2) (Nat.le_of_ble_eq_true rfl)
  rw [lg_entry_eq]
  generalize (lg_sl ([.ref b, .int (nI i)]) ++ List.replicate (2 - (lg_sl ([.ref b, .int (nI i)])).length) Slot.unset).toArray = ls at hl ⊢
  have hl : lv_has ls 2 [(0, .ref b), (1, .int (nI i))] := hl
  change W p l e rmsbA s m (([.ref b, .int (nI i)] : List Value).toArray) below meth c s.heap [] 0 0 _ _
  refine lv_aload_n hx hb dJ4_charAt_5068e_0 rfl (lv_at hl 0 rfl) ?_
  refine lv_iload_n hx hb dJ4_charAt_5068e_1 rfl (lv_at hl 1 rfl) ?_
  refine gci (va_runSU ((hK.1.1 0 (RJ4, TJ4, 4) rfl).2) (As := [.int (nI i)]) (rest := []) ⟨hx, hb, hml, hown, hts⟩ (tasbA l dC dI dA d1 d2 s.heap.size b v ml n f L i hH hn3 hi hc) (gCU 1 hts wcJ5_charAt_5068e wmJ4_329 wsmJ5_charAt_5068e wsuJ4 wiJ5_charAt_5068e wnJ5 (by decide +kernel) rfl rfl ⟨Nat.le_of_ble_eq_true rfl, Nat.le_of_ble_eq_true rfl⟩) (gPreVT (ci := 0) (q0 := 0) (ws := (sbW dA b v ml (nI L.length) n f)) hE hS hA hP hK hD rfl rfl) rfl rfl hl.1 rfl (lv_room (Nat.le_of_ble_eq_true rfl)) dJ4_charAt_5068e_2 ⟨Nat.le_of_ble_eq_true rfl, Nat.le_of_ble_eq_true rfl⟩) hD hS hA (fun H locs hP hD hS => ?_)
  exact W.zret (ty := .char) hx hb hr (pk_charN (by omega)).1 (fun t ht _ => gqi hP hD hS ht) hS.2.2 dJ4_charAt_5068e_5
def wJ4 (dA : Nat → ClassId) (ad : Nat → Nat) (c_coder : Int32) (c_maybeLatin1 : Int32) (c_count : Int32) (c_value_n : Nat) (c_value : Nat → Int32) : va_W := [(ad 0, .inr (0, [.ref (ad 1), .int c_coder, .int c_maybeLatin1, .int c_count])), (ad 1, .inl (dA 2, c_value_n, .inl c_value))]
abbrev rmasbN : Room := { frames := 1, cells := 1, slots := 16, locals := 40 }
set_option maxHeartbeats 4000000 in
set_option maxRecDepth 100000 in
theorem tasbN (l : Launch) (dC : Nat → ClassId) (dI : Nat → Nat → Nat) (dA : Nat → ClassId) (d1 d2 : Nat) (sz : Nat) (h0 : Nat)  : Met l yJ5_init_d00df (wq (Cond.code yJ5_init_d00df cJ5_init_d00df 2 none)) rmasbN (gPT d1 d2 [.ref h0, .int 16] (dC, dI) dA [(h0, .inr (0, [.null, .int 0, .int 0, .int 0]))] sz) (gQn (dC, dI) h0 (fun ad => wJ4 dA ad 0 0 0 16 (fun _ => 0)) (va_A [(h0, .inr (0, [.null, .int 0, .int 0, .int 0]))] sz)) 1 16 (va_A [(h0, .inr (0, [.null, .int 0, .int 0, .int 0]))] sz) := by
  refine Met.ofW (cc := cJ5_init_d00df) (maxL := 2) (ret := none) (by decide) rfl ?_
  intro p e s m args below meth c s₁ B hml hv
  obtain ⟨rfl, hsz, hP, hK, hE, hD0⟩ := hv
  have hx := B.exec
  have hb := B.bytes
  have hr := B.returns
  have hts := atoms_spec (ws := wq (Cond.code yJ5_init_d00df cJ5_init_d00df 2 none)) B.pre
  have hown : s.vm.findClass RJ5 = some m.cls := findClass_of_methodNamed B.named
  have hlocks := B.notSynchronized
  have hin : meth.name = "<init>" := (name_of_methodNamed B.named B.method).1
  clear B
  subst hsz
  have hD := hD0.self (sz := s.heap.size)
  generalize hAe : va_A [(h0, .inr (0, [.null, .int 0, .int 0, .int 0]))] s.heap.size = A at hD hE ⊢
  have hA : ∀ q : Nat, s.heap.size ≤ q → A q := fun q h => by rw [← hAe]; exact Or.inr h
  clear hAe hD0
  have hS : va_S A s.heap s.heap [] := va_S.rf
  have hl := lv_entry ([.ref h0, .int 16]) (n := 2) (Nat.le_of_ble_eq_true rfl)
  rw [lg_entry_eq]
  generalize (lg_sl ([.ref h0, .int 16]) ++ List.replicate (2 - (lg_sl ([.ref h0, .int 16])).length) Slot.unset).toArray = ls at hl ⊢
  have hl : lv_has ls 2 [(0, .ref h0), (1, .int 16)] := hl
  change W p l e rmasbN s m (([.ref h0, .int 16] : List Value).toArray) below meth c s.heap [] 0 0 _ _
  refine lv_aload_n hx hb dJ5_init_d00df_0 rfl (lv_at hl 0 rfl) ?_
  refine W.objInit hx hb hown (hts _ (gw_mem wmJ5_3)) (hts _ (gw_mem wi_objinit)) (hts _ (gw_mem wc_objinit)) rfl (by rw [hml]; exact hl.1) rfl dJ5_init_d00df_1 (Nat.le_of_ble_eq_true rfl) (Nat.le_of_ble_eq_true rfl) ?_
  refine W.eq (g2 := F0 m 4 ls []) rfl ?_
  refine va_gets hx hb hE.1 hS hown (hts _ (gw_mem wfJ5_18)) (fun _ h => h) dJ5_init_d00df_4 ?_
  refine lv_if_eq (tgt := 25) hx hb dJ5_init_d00df_7 (by decide) (fun k9 => absurd k9 (by decide)) (fun k9 => ?_)
  refine lv_aload_n hx hb dJ5_init_d00df_10 rfl (lv_at hl 0 rfl) ?_
  refine lv_iload_n hx hb dJ5_init_d00df_11 rfl (lv_at hl 1 rfl) ?_
  refine va_newa (atype := .byte) (ty := .byte) (a0 := (16, .inl (fun _ => 0))) (N' := 16) hx hb (hts _ (gw_mem wa_byte)) rfl hK.1 hP hD hS hA (fun _ => rfl) (by decide) rfl (Nat.le_of_ble_eq_true rfl) (Nat.le_of_ble_eq_true rfl) (Nat.le_of_ble_eq_true rfl) dJ5_init_d00df_12 (fun q12 cA H hK1 hP hD hS => ?_)
  obtain rfl := gAbyte hK.1 hK1
  clear hK1
  have hP : va_P (dC, dI) vwCl [(h0, .inr (0, [.null, .int 0, .int 0, .int 0])), (q12, .inl (dA 2, 16, .inl (fun _ => 0)))] H := hP
  have hD : va_D A [(h0, .inr (0, [.null, .int 0, .int 0, .int 0])), (q12, .inl (dA 2, 16, .inl (fun _ => 0)))] := hD
  refine va_put (D := (dC, dI)) (ci := 0) (v := .ref q12) (ty := (.array .byte)) (C := RJ4) (T := TJ4) (N := 4) hx hb hts (fun w h => gw_mem (inJ4 w h)) tyJ4 tyJ4_ok nmJ4 hown hK.1 hP hD hS 0 rfl rfl 0 (by decide) (hts _ (gw_mem wfJ5_15)) (fun _ h9 => h9) rfl (by decide +kernel) rfl rfl (Nat.le_of_ble_eq_true rfl) dJ5_init_d00df_14 (fun H locs hP hD hS => ?_)
  have hP : va_P (dC, dI) vwCl [(h0, .inr (0, [.ref q12, .int 0, .int 0, .int 0])), (q12, .inl (dA 2, 16, .inl (fun _ => 0)))] H := hP
  have hD : va_D A [(h0, .inr (0, [.ref q12, .int 0, .int 0, .int 0])), (q12, .inl (dA 2, 16, .inl (fun _ => 0)))] := hD
  refine lv_aload_n hx hb dJ5_init_d00df_17 rfl (lv_at hl 0 rfl) ?_
  refine lv_iconst (v := 0) hx hb dJ5_init_d00df_18 (by decide) ?_
  refine va_put (D := (dC, dI)) (ci := 0) (v := .int 0) (ty := .byte) (C := RJ4) (T := TJ4) (N := 4) hx hb hts (fun w h => gw_mem (inJ4 w h)) tyJ4 tyJ4_ok nmJ4 hown hK.1 hP hD hS 0 rfl rfl 1 (by decide) (hts _ (gw_mem wfJ5_22)) (fun _ h9 => h9) rfl (by decide +kernel) rfl rfl (Nat.le_of_ble_eq_true rfl) dJ5_init_d00df_19 (fun H locs hP hD hS => ?_)
  have hP : va_P (dC, dI) vwCl [(h0, .inr (0, [.ref q12, .int 0, .int 0, .int 0])), (q12, .inl (dA 2, 16, .inl (fun _ => 0)))] H := hP
  have hD : va_D A [(h0, .inr (0, [.ref q12, .int 0, .int 0, .int 0])), (q12, .inl (dA 2, 16, .inl (fun _ => 0)))] := hD
  refine lv_goto (tgt := 38) hx hb dJ5_init_d00df_22 (by decide) ?_
  refine W.widen (k := 1) (n := 16) (Nat.le_of_ble_eq_true rfl) (Nat.le_of_ble_eq_true rfl) ?_
  exact W.vret hx hb hr (fun t ht _ => ⟨⟨tb_ad [h0, q12], rfl, rfl, by rw [ht]; exact hP, hD⟩, hS.F ht⟩) hS.2.2 dJ5_init_d00df_38
abbrev rmJ4n : Room := { frames := 2, cells := 1, slots := 16, locals := 61 }
set_option maxHeartbeats 4000000 in
set_option maxRecDepth 100000 in
theorem tJ4n (l : Launch) (dC : Nat → ClassId) (dI : Nat → Nat → Nat) (dA : Nat → ClassId) (d1 d2 : Nat) (sz : Nat) (h0 : Nat)  : Met l yJ4_init_da8c8 (wq (Cond.code yJ4_init_da8c8 cJ4_init_da8c8 1 none)) rmJ4n (gPT d1 d2 [.ref h0] (dC, dI) dA [(h0, .inr (0, [.null, .int 0, .int 0, .int 0]))] sz) (gQn (dC, dI) h0 (fun ad => wJ4 dA ad 0 0 0 16 (fun _ => 0)) (va_A [(h0, .inr (0, [.null, .int 0, .int 0, .int 0]))] sz)) 1 16 (va_A [(h0, .inr (0, [.null, .int 0, .int 0, .int 0]))] sz) := by
  refine Met.ofW (cc := cJ4_init_da8c8) (maxL := 1) (ret := none) (by decide) rfl ?_
  intro p e s m args below meth c s₁ B hml hv
  obtain ⟨rfl, hsz, hP, hK, hE, hD0⟩ := hv
  have hx := B.exec
  have hb := B.bytes
  have hr := B.returns
  have hts := atoms_spec (ws := wq (Cond.code yJ4_init_da8c8 cJ4_init_da8c8 1 none)) B.pre
  have hown : s.vm.findClass RJ4 = some m.cls := findClass_of_methodNamed B.named
  have hlocks := B.notSynchronized
  clear B
  subst hsz
  have hD := hD0.self (sz := s.heap.size)
  generalize hAe : va_A [(h0, .inr (0, [.null, .int 0, .int 0, .int 0]))] s.heap.size = A at hD hE ⊢
  have hA : ∀ q : Nat, s.heap.size ≤ q → A q := fun q h => by rw [← hAe]; exact Or.inr h
  clear hAe hD0
  have hS : va_S A s.heap s.heap [] := va_S.rf
  have hl := lv_entry ([.ref h0]) (n := 1) (Nat.le_of_ble_eq_true rfl)
  rw [lg_entry_eq]
  generalize (lg_sl ([.ref h0]) ++ List.replicate (1 - (lg_sl ([.ref h0])).length) Slot.unset).toArray = ls at hl ⊢
  have hl : lv_has ls 1 [(0, .ref h0)] := hl
  change W p l e rmJ4n s m (([.ref h0] : List Value).toArray) below meth c s.heap [] 0 0 _ _
  refine lv_aload_n hx hb dJ4_init_da8c8_0 rfl (lv_at hl 0 rfl) ?_
  refine lv_bipush (v := 16) hx hb dJ4_init_da8c8_1 (by decide) ?_
  have hFr := gfree hD hS hA
  refine va_callv (va_runI (As := [.int 16]) (rest := []) ⟨hx, hb, hml, hown, hts⟩ (tasbN l dC dI dA d1 d2 s.heap.size h0) (gCIN 1 hts wcJ5_init_d00df wmJ4_1 wiJ5_init_d00df wnJ5 rfl (by decide +kernel) rfl rfl ⟨Nat.le_of_ble_eq_true rfl, Nat.le_of_ble_eq_true rfl⟩) (gPreST (ws := [(h0, .inr (0, [.null, .int 0, .int 0, .int 0]))]) hE hS hA hP hK hD) rfl rfl hl.1 rfl (lv_room (Nat.le_of_ble_eq_true rfl)) dJ4_init_da8c8_3 ⟨Nat.le_of_ble_eq_true rfl, Nat.le_of_ble_eq_true rfl⟩) hS (fun q _ h => hFr q h) hFr (fun u t H1 locs ht hvm hw hB hz hk hS => ?_)
  refine W.widen (k := 1) (n := 16) (Nat.le_of_ble_eq_true rfl) (Nat.le_of_ble_eq_true rfl) ?_
  exact W.vret hx hb hr (fun t1 ht1 _ => ⟨⟨u, rfl, hw, by rw [ht1, ← ht]; exact hB.1, hB.2.weaken (fun k q _ h => hFr q.1 h)⟩, hS.F ht1⟩) hS.2.2 dJ4_init_da8c8_6
