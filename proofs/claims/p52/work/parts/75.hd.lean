
theorem hd_lt {i L : Nat} (hi : i ≤ 4000) (hL : L ≤ 4000) : nI L - 6 < nI i ↔ L < i + 6 := by
  rw [Int32.lt_iff_toInt_lt, nI_toInt (by omega)]
  rcases Nat.lt_or_ge L 6 with h | h
  · rcases (show L = 0 ∨ L = 1 ∨ L = 2 ∨ L = 3 ∨ L = 4 ∨ L = 5 by omega) with rfl | rfl | rfl | rfl | rfl | rfl
    · have e : (nI 0 - 6).toInt = -6 := by decide +kernel
      omega
    · have e : (nI 1 - 6).toInt = -5 := by decide +kernel
      omega
    · have e : (nI 2 - 6).toInt = -4 := by decide +kernel
      omega
    · have e : (nI 3 - 6).toInt = -3 := by decide +kernel
      omega
    · have e : (nI 4 - 6).toInt = -2 := by decide +kernel
      omega
    · have e : (nI 5 - 6).toInt = -1 := by decide +kernel
      omega
  · have e : nI L - 6 = nI (L - 6) := by
      have h1 : nI L = nI (L - 6) + 6 := by
        rw [show (6 : Int32) = nI 6 from rfl, nI_add, Nat.sub_add_cancel h]
      rw [h1, Int32.add_sub_cancel]
    rw [e, nI_toInt (by omega)]
    omega
set_option maxHeartbeats 2000000 in
set_option maxRecDepth 100000 in
theorem law_top {p : Program} {l : Launch} {e : Env} {s : State} {m : MethodId} {below : List Frame} {meth : Method} {c : Code} {b L i ax am : Nat} {xs : Nat → Int32} {ls : Array Slot} {H : Heap} {locs : List Loc} {cells slots : Nat} {Q : State → Prop} (C0 : lw_At p s m meth c b L xs) (hi : i ≤ 4000) (hL : L ≤ 4000) (hl : lv_has ls 4 (lwL b ax am i)) (hS : va_S (fun q : Nat => s.heap.size ≤ q) s.heap H locs)
    (ke : L < i + 6 → W p l e room_1 s m #[Value.ref b] below meth c H locs cells slots Q (F0 m 2329 ls [])) (kd : i + 6 ≤ L → W p l e room_1 s m #[Value.ref b] below meth c H locs cells slots Q (F0 m 33 ls [.int (xs i &&& 63)])) : W p l e room_1 s m #[Value.ref b] below meth c H locs cells slots Q (F0 m 18 ls []) := by
  obtain ⟨hx, hb, hr, hml, hown, hts, hX, hbl, hlocks, hgv⟩ := C0
  have hbA : ¬ (fun q : Nat => s.heap.size ≤ q) b := Nat.not_le.mpr hbl
  refine lv_iload_n hx hb dL_law_18 rfl (lv_at hl 0 rfl) ?_
  refine lv_aload_n hx hb dL_law_19 rfl (lv_at hl 3 rfl) ?_
  refine va_slen hx hb hX hbl hbA hS dL_law_20 ?_
  refine lv_bipush (v := 6) hx hb dL_law_21 (by decide) ?_
  refine lv_isub hx hb dL_law_23 ?_
  refine lv_icmp_gt (tgt := 2329) hx hb dL_law_24 (by decide) (fun h => ?_) (fun h => ?_)
  · exact ke ((hd_lt hi hL).mp h)
  · have h6 : i + 6 ≤ L := Nat.not_lt.mp (fun q => h ((hd_lt hi hL).mpr q))
    refine lv_aload_n hx hb dL_law_27 rfl (lv_at hl 3 rfl) ?_
    refine lv_iload_n hx hb dL_law_28 rfl (lv_at hl 0 rfl) ?_
    refine va_sld hx hb hX hbl hbA hS (vp_in_nI (by omega) (by omega)) dL_law_29 ?_
    rw [nI_clamp (by omega)]
    refine lv_bipush (v := 63) hx hb dL_law_30 (by decide) ?_
    refine lv_iand hx hb dL_law_32 ?_
    exact kd h6
theorem law_end {p : Program} {l : Launch} {e : Env} {s : State} {m : MethodId} {below : List Frame} {meth : Method} {c : Code} {b L : Nat} {xs : Nat → Int32} {ls : Array Slot} {H : Heap} {locs : List Loc} {cells slots : Nat} (C0 : lw_At p s m meth c b L xs) (hS : va_S (fun q : Nat => s.heap.size ≤ q) s.heap H locs) (hc1 : cells ≤ 600000) (hc2 : slots ≤ 7302250) : W p l e room_1 s m #[Value.ref b] below meth c H locs cells slots (lw_Z below #[Value.ref b] s) (F0 m 2329 ls []) := by
  obtain ⟨hx, hb, hr, hml, hown, hts, hX, hbl, hlocks, hgv⟩ := C0
  refine lv_iconst (v := 1) hx hb dL_law_2329 (by decide) ?_
  refine va_forget (fun q hq => hS.2.2 q hq) ?_
  refine W.widen (k := 600000) (n := 7302250) hc1 hc2 ?_
  exact lw_ret hx hb hr hlocks dL_law_2330
set_option maxRecDepth 100000 in
theorem law_next {p : Program} {l : Launch} {e : Env} {s : State} {m : MethodId} {below : List Frame} {meth : Method} {c : Code} {b L i ax am : Nat} {xs : Nat → Int32} {ls : Array Slot} {H : Heap} {locs : List Loc} {cells slots : Nat} {Q : State → Prop} (C0 : lw_At p s m meth c b L xs) (hl : lv_has ls 4 (lwL b ax am i)) (kk : ∀ ls : Array Slot, lv_has ls 4 (lwL b ax am (i + 6)) → W p l e room_1 s m #[Value.ref b] below meth c H locs cells slots Q (F0 m 18 ls [])) : W p l e room_1 s m #[Value.ref b] below meth c H locs cells slots Q (F0 m 2323 ls []) := by
  obtain ⟨hx, hb, hr, hml, hown, hts, hX, hbl, hlocks, hgv⟩ := C0
  refine lv_iinc (v := nI (i + 6)) (lv' := lwL b ax am (i + 6)) hx hb dL_law_2323 hl (k := 0) rfl (by rw [← nI_add]; rfl) (by decide) rfl (fun ls hl => ?_)
  refine lv_goto (tgt := 18) hx hb dL_law_2326 (by decide) ?_
  exact kk ls hl
theorem and63 (x : Int32) : ∃ j, j < 64 ∧ x &&& 63 = nI j := by
  refine ⟨(x &&& 63).toBitVec.toNat, ?_, ?_⟩
  · rw [Int32.toBitVec_and, BitVec.toNat_and]
    exact Nat.lt_of_le_of_lt Nat.and_le_right (by decide)
  · exact Int32.toBitVec_inj.mp (by show _ = BitVec.ofNat 32 _; rw [BitVec.ofNat_toNat, BitVec.setWidth_eq])
def lwT : Nat → Nat := fun j => [264, 327, 360, 419, 452, 475, 518, 561, 604, 647, 690, 733, 786, 819, 852, 885, 918, 941, 974, 997, 1020, 1053, 1076, 1109, 1142, 1175, 1218, 1251, 1284, 1343, 1366, 1429, 1492, 1535, 1578, 1641, 1674, 1727, 1750, 1789, 1812, 1835, 1904, 1947, 2006, 2039, 2092, 2115, 2148, 2191, 2230, 2274, 2297, 2310].getD j 2323
set_option maxHeartbeats 2000000 in
set_option maxRecDepth 100000 in
theorem law_disp {p : Program} {l : Launch} {e : Env} {s : State} {m : MethodId} {below : List Frame} {meth : Method} {c : Code} {b L : Nat} {xs : Nat → Int32} {ls : Array Slot} {H : Heap} {locs : List Loc} {cells slots : Nat} {Q : State → Prop} {x : Int32} (C0 : lw_At p s m meth c b L xs) (kk : ∀ j, j < 64 → x &&& 63 = nI j → W p l e room_1 s m #[Value.ref b] below meth c H locs cells slots Q (F0 m (lwT j) ls [])) : W p l e room_1 s m #[Value.ref b] below meth c H locs cells slots Q (F0 m 33 ls [.int (x &&& 63)]) := by
  obtain ⟨hx, hb, hr, hml, hown, hts, hX, hbl, hlocks, hgv⟩ := C0
  obtain ⟨j, hj, e⟩ := and63 x
  have hk := kk j hj e
  rw [e]
  have ht : (nI j).toInt = (j : Int) := nI_toInt (by omega)
  rcases Nat.lt_or_ge j 54 with h | h
  · have hoff : ∀ j, j < 54 → (#[231, 294, 327, 386, 419, 442, 485, 528, 571, 614, 657, 700, 753, 786, 819, 852, 885, 908, 941, 964, 987, 1020, 1043, 1076, 1109, 1142, 1185, 1218, 1251, 1310, 1333, 1396, 1459, 1502, 1545, 1608, 1641, 1694, 1717, 1756, 1779, 1802, 1871, 1914, 1973, 2006, 2059, 2082, 2115, 2158, 2197, 2241, 2264, 2277] : Array Int)[j]? = some ((lwT j : Int) - 33) := by decide +kernel
    refine lv_tableIn (off := (lwT j : Int) - 33) (tgt := lwT j) hx hb dL_law_33 (by rw [ht]; omega) (by rw [ht]; omega) ?_ (by omega) hk
    rw [ht, show ((j : Int) - 0).toNat = j by omega]
    exact hoff j h
  · have e2 : lwT j = 2323 := by
      unfold lwT
      rw [List.getD_eq_getElem?_getD, List.getElem?_eq_none (by show 54 ≤ j; exact h)]
      rfl
    rw [e2] at hk
    exact lv_tableOut (tgt := 2323) hx hb dL_law_33 (Or.inr (by rw [ht]; omega)) (by decide) hk
