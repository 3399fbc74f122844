
theorem getD_l {l1 l2 : List Nat} {i : Nat} (h : i < l1.length) : (l1 ++ l2).getD i 0 = l1.getD i 0 := by
  rw [List.getD_eq_getElem?_getD, List.getD_eq_getElem?_getD, List.getElem?_append_left h]
theorem getD_r {l1 l2 : List Nat} {i : Nat} (h : l1.length ≤ i) : (l1 ++ l2).getD i 0 = l2.getD (i - l1.length) 0 := by
  rw [List.getD_eq_getElem?_getD, List.getD_eq_getElem?_getD, List.getElem?_append_right h]
/-- the digits of y, the highest first -/
def dgs : Nat → Nat → List Nat
  | 0, _ => []
  | k + 1, y => if 10 ≤ y then dgs k (y / 10) ++ [48 + y % 10] else [48 + y]
theorem dgs_len : ∀ k y, (dgs k y).length = dgN k y := by
  intro k
  induction k with
  | zero => intro y; rfl
  | succ k ih =>
    intro y
    rw [dgs.eq_2, dgN.eq_2]
    split
    · rw [List.length_append, ih]; rfl
    · rfl
theorem dgs_2 {k y : Nat} (h : 100 ≤ y) : dgs (k + 2) y = dgs k (y / 100) ++ [48 + y % 100 / 10, 48 + y % 10] := by
  rw [dgs.eq_2, if_pos (by omega), dgs.eq_2, if_pos (by omega), Nat.div_div_eq_div_mul, List.append_assoc, show y / 10 % 10 = y % 100 / 10 by omega]
  rfl
theorem gc_out : ∀ (k y p : Nat) (f : Nat → Int32) (j : Nat), 1 ≤ k → y < 100 ^ k → dgN (2 * k) y ≤ p → (j < p - dgN (2 * k) y ∨ p ≤ j) → gcF k y p f j = f j := by
  intro k
  induction k with
  | zero => intro y p f j h; exact absurd h (by omega)
  | succ k ih =>
    intro y p f j _ hy hp hj
    rw [gcF.eq_2]
    rw [show 2 * (k + 1) = 2 * k + 2 by omega] at hp hj
    by_cases hc : 100 ≤ y
    · rw [if_pos hc]
      rw [dgN_2 hc] at hp hj
      have hk1 : 1 ≤ k := by
        rcases Nat.eq_zero_or_pos k with h | h
        · subst h; omega
        · exact h
      have hyk : y / 100 < 100 ^ k := by
        rw [Nat.pow_succ] at hy
        exact Nat.div_lt_of_lt_mul (by rw [Nat.mul_comm]; exact hy)
      rw [ih (y / 100) (p - 2) _ j hk1 hyk (by omega) (by omega), pk_un (by omega), pk_un (by omega)]
    · rw [if_neg hc]
      rw [dgN.eq_2] at hp hj
      by_cases h10 : 10 ≤ y
      · rw [if_pos h10] at hp hj ⊢
        rw [dgN.eq_2, if_neg (by omega)] at hp hj
        rw [pk_un (by omega), pk_un (by omega)]
      · rw [if_neg h10] at hp hj ⊢
        rw [pk_un (by omega)]
theorem gc_in : ∀ (k y p : Nat) (f : Nat → Int32) (i : Nat), 1 ≤ k → y < 100 ^ k → dgN (2 * k) y ≤ p → i < dgN (2 * k) y → gcF k y p f (p - dgN (2 * k) y + i) = nI ((dgs (2 * k) y).getD i 0) ∧ (dgs (2 * k) y).getD i 0 < 58 := by
  intro k
  induction k with
  | zero => intro y p f j h; exact absurd h (by omega)
  | succ k ih =>
    intro y p f i _ hy hp hi
    rw [gcF.eq_2]
    rw [show 2 * (k + 1) = 2 * k + 2 by omega] at hp hi ⊢
    by_cases hc : 100 ≤ y
    · rw [if_pos hc]
      rw [dgN_2 hc] at hp hi ⊢
      rw [dgs_2 hc]
      have hk1 : 1 ≤ k := by
        rcases Nat.eq_zero_or_pos k with h | h
        · subst h; omega
        · exact h
      have hyk : y / 100 < 100 ^ k := by
        rw [Nat.pow_succ] at hy
        exact Nat.div_lt_of_lt_mul (by rw [Nat.mul_comm]; exact hy)
      have hl := dgs_len (2 * k) (y / 100)
      by_cases h1 : i < dgN (2 * k) (y / 100)
      · have h2 := ih (y / 100) (p - 2) (upd (upd f (p - 1) (dgO (y % 100))) (p - 2) (dgT (y % 100))) i hk1 hyk (by omega) h1
        rw [getD_l (by omega), show p - (dgN (2 * k) (y / 100) + 2) + i = p - 2 - dgN (2 * k) (y / 100) + i by omega]
        exact h2
      · rw [gc_out k (y / 100) (p - 2) _ _ hk1 hyk (by omega) (Or.inr (by omega)), getD_r (by omega), hl]
        by_cases h2 : i = dgN (2 * k) (y / 100)
        · subst h2
          rw [show p - (dgN (2 * k) (y / 100) + 2) + dgN (2 * k) (y / 100) = p - 2 by omega, pk_us, Nat.sub_self]
          exact ⟨rfl, by show 48 + y % 100 / 10 < 58; omega⟩
        · rw [show p - (dgN (2 * k) (y / 100) + 2) + i = p - 1 by omega, pk_un (by omega), pk_us, show i - dgN (2 * k) (y / 100) = 1 by omega]
          refine ⟨?_, by show 48 + y % 10 < 58; omega⟩
          show nI (48 + y % 100 % 10) = nI (48 + y % 10)
          rw [show y % 100 % 10 = y % 10 by omega]
    · rw [if_neg hc]
      rw [dgN.eq_2] at hp hi ⊢
      rw [dgs.eq_2]
      by_cases h10 : 10 ≤ y
      · rw [if_pos h10] at hp hi ⊢
        rw [if_pos h10, if_pos h10]
        rw [dgN.eq_2, if_neg (by omega)] at hp hi ⊢
        rw [dgs.eq_2, if_neg (by omega)]
        rcases (show i = 0 ∨ i = 1 by omega) with rfl | rfl
        · rw [show p - (1 + 1) + 0 = p - 2 by omega, pk_us]
          exact ⟨rfl, by show 48 + y / 10 < 58; omega⟩
        · rw [show p - (1 + 1) + 1 = p - 1 by omega, pk_un (by omega), pk_us]
          exact ⟨rfl, by show 48 + y % 10 < 58; omega⟩
      · rw [if_neg h10] at hp hi ⊢
        rw [if_neg h10, if_neg h10]
        obtain rfl : i = 0 := by omega
        rw [show p - 1 + 0 = p - 1 by omega, pk_us]
        refine ⟨?_, by show 48 + y < 58; omega⟩
        show nI (48 + y % 10) = nI (48 + y)
        rw [show y % 10 = y by omega]
theorem ce_eq {c : Nat} (h : c < 128) : fJ1_canEncode_fc78d (nI c) = some 1 := by
  unfold fJ1_canEncode_fc78d
  rw [if_neg (show ¬ (255 : Int32) < nI c from nI_nlt (a := 255) (by omega) (by omega))]
  rfl
theorem ss_eq {x : Nat} (h : x < 10000000) : fJ6_stringSize_0f7a4 (nI x) = some (nI (dgN 8 x)) := by
  unfold fJ6_stringSize_0f7a4
  rw [if_neg (nI_pos (by omega)), nm_mk, bd2_mk]
  obtain ⟨n, hn⟩ := fu_s 20 (by omega)
  rw [hn]
  rw [show n + 20 + 1 = (n + 20) + 1 from rfl, lpJ6_stringSize_0f7a4_16.eq_2, if_neg (by decide)]
  by_cases h1 : x < 10
  · rw [if_neg (show ¬ -(nI x) ≤ (-10) from fun z => by rw [Int32.le_iff_toInt_le, ng_T (by omega)] at z; have : (-10 : Int32).toInt = -10 := rfl; omega), bd2_mk, if_pos rfl, dgN.eq_2, if_neg (by omega)]
    rfl
  · rw [if_pos (show -(nI x) ≤ (-10) from by rw [Int32.le_iff_toInt_le, ng_T (by omega)]; have : (-10 : Int32).toInt = -10 := rfl; omega), nm_mk, nm_mk, show (10 : Int32) * (-10) = (-100) from rfl, show (1 : Int32) + 1 = 2 from rfl]
    rw [show n + 19 + 1 = (n + 19) + 1 from rfl, lpJ6_stringSize_0f7a4_16.eq_2, if_neg (by decide)]
    by_cases h2 : x < 100
    · rw [if_neg (show ¬ -(nI x) ≤ (-100) from fun z => by rw [Int32.le_iff_toInt_le, ng_T (by omega)] at z; have : (-100 : Int32).toInt = -100 := rfl; omega), bd2_mk, if_pos rfl, dgN.eq_2, if_pos (by omega), dgN.eq_2, if_neg (by omega)]
      rfl
    · rw [if_pos (show -(nI x) ≤ (-100) from by rw [Int32.le_iff_toInt_le, ng_T (by omega)]; have : (-100 : Int32).toInt = -100 := rfl; omega), nm_mk, nm_mk, show (10 : Int32) * (-100) = (-1000) from rfl, show (2 : Int32) + 1 = 3 from rfl]
      rw [show n + 18 + 1 = (n + 18) + 1 from rfl, lpJ6_stringSize_0f7a4_16.eq_2, if_neg (by decide)]
      by_cases h3 : x < 1000
      · rw [if_neg (show ¬ -(nI x) ≤ (-1000) from fun z => by rw [Int32.le_iff_toInt_le, ng_T (by omega)] at z; have : (-1000 : Int32).toInt = -1000 := rfl; omega), bd2_mk, if_pos rfl, dgN.eq_2, if_pos (by omega), dgN.eq_2, if_pos (by omega), dgN.eq_2, if_neg (by omega)]
        rfl
      · rw [if_pos (show -(nI x) ≤ (-1000) from by rw [Int32.le_iff_toInt_le, ng_T (by omega)]; have : (-1000 : Int32).toInt = -1000 := rfl; omega), nm_mk, nm_mk, show (10 : Int32) * (-1000) = (-10000) from rfl, show (3 : Int32) + 1 = 4 from rfl]
        rw [show n + 17 + 1 = (n + 17) + 1 from rfl, lpJ6_stringSize_0f7a4_16.eq_2, if_neg (by decide)]
        by_cases h4 : x < 10000
        · rw [if_neg (show ¬ -(nI x) ≤ (-10000) from fun z => by rw [Int32.le_iff_toInt_le, ng_T (by omega)] at z; have : (-10000 : Int32).toInt = -10000 := rfl; omega), bd2_mk, if_pos rfl, dgN.eq_2, if_pos (by omega), dgN.eq_2, if_pos (by omega), dgN.eq_2, if_pos (by omega), dgN.eq_2, if_neg (by omega)]
          rfl
        · rw [if_pos (show -(nI x) ≤ (-10000) from by rw [Int32.le_iff_toInt_le, ng_T (by omega)]; have : (-10000 : Int32).toInt = -10000 := rfl; omega), nm_mk, nm_mk, show (10 : Int32) * (-10000) = (-100000) from rfl, show (4 : Int32) + 1 = 5 from rfl]
          rw [show n + 16 + 1 = (n + 16) + 1 from rfl, lpJ6_stringSize_0f7a4_16.eq_2, if_neg (by decide)]
          by_cases h5 : x < 100000
          · rw [if_neg (show ¬ -(nI x) ≤ (-100000) from fun z => by rw [Int32.le_iff_toInt_le, ng_T (by omega)] at z; have : (-100000 : Int32).toInt = -100000 := rfl; omega), bd2_mk, if_pos rfl, dgN.eq_2, if_pos (by omega), dgN.eq_2, if_pos (by omega), dgN.eq_2, if_pos (by omega), dgN.eq_2, if_pos (by omega), dgN.eq_2, if_neg (by omega)]
            rfl
          · rw [if_pos (show -(nI x) ≤ (-100000) from by rw [Int32.le_iff_toInt_le, ng_T (by omega)]; have : (-100000 : Int32).toInt = -100000 := rfl; omega), nm_mk, nm_mk, show (10 : Int32) * (-100000) = (-1000000) from rfl, show (5 : Int32) + 1 = 6 from rfl]
            rw [show n + 15 + 1 = (n + 15) + 1 from rfl, lpJ6_stringSize_0f7a4_16.eq_2, if_neg (by decide)]
            by_cases h6 : x < 1000000
            · rw [if_neg (show ¬ -(nI x) ≤ (-1000000) from fun z => by rw [Int32.le_iff_toInt_le, ng_T (by omega)] at z; have : (-1000000 : Int32).toInt = -1000000 := rfl; omega), bd2_mk, if_pos rfl, dgN.eq_2, if_pos (by omega), dgN.eq_2, if_pos (by omega), dgN.eq_2, if_pos (by omega), dgN.eq_2, if_pos (by omega), dgN.eq_2, if_pos (by omega), dgN.eq_2, if_neg (by omega)]
              rfl
            · rw [if_pos (show -(nI x) ≤ (-1000000) from by rw [Int32.le_iff_toInt_le, ng_T (by omega)]; have : (-1000000 : Int32).toInt = -1000000 := rfl; omega), nm_mk, nm_mk, show (10 : Int32) * (-1000000) = (-10000000) from rfl, show (6 : Int32) + 1 = 7 from rfl]
              rw [show n + 14 + 1 = (n + 14) + 1 from rfl, lpJ6_stringSize_0f7a4_16.eq_2, if_neg (by decide)]
              rw [if_neg (show ¬ -(nI x) ≤ (-10000000) from fun z => by rw [Int32.le_iff_toInt_le, ng_T (by omega)] at z; have : (-10000000 : Int32).toInt = -10000000 := rfl; omega), bd2_mk, if_pos rfl, dgN.eq_2, if_pos (by omega), dgN.eq_2, if_pos (by omega), dgN.eq_2, if_pos (by omega), dgN.eq_2, if_pos (by omega), dgN.eq_2, if_pos (by omega), dgN.eq_2, if_pos (by omega), dgN.eq_2, if_neg (by omega)]
              rfl

theorem sbH_put {L : List Nat} {n m ch : Nat} {f f1 : Nat → Int32} (h : sbH L n f) (hk : ∀ j, j < n → f1 j = f j) (hF : sb_Fit f1) (hm : L.length + 1 ≤ m) (hc : ch < 128) : sbH (L ++ [ch]) m (upd f1 L.length (nI ch)) := by
  refine ⟨fun j hj => ?_, sb_fitU hF (fit7 hc), by rw [List.length_append]; exact hm⟩
  rw [List.length_append] at hj
  have hj : j < L.length + 1 := hj
  show (L ++ [ch]).getD j 0 < 256 ∧ upd f1 L.length (nI ch) j = sb_b ((L ++ [ch]).getD j 0)
  by_cases h1 : j < L.length
  · rw [getD_l h1, pk_un (by omega), hk j (by have := h.2.2; omega)]
    exact h.1 j h1
  · obtain rfl : j = L.length := by omega
    rw [getD_r (Nat.le_refl _), Nat.sub_self, pk_us]
    exact ⟨by show ch < 256; omega, (sbb7 hc).symm⟩
theorem sbH_dg {L : List Nat} {n m x : Nat} {f f1 : Nat → Int32} (h : sbH L n f) (hk : ∀ j, j < n → f1 j = f j) (hF : sb_Fit f1) (hm : L.length + dgN 8 x ≤ m) (hx : x < 10000000) : sbH (L ++ dgs 8 x) m (gcF 4 x (L.length + dgN 8 x) f1) := by
  have hl := dgs_len 8 x
  refine ⟨fun j hj => ?_, gc_fit _ _ _ _ hF, by rw [List.length_append, hl]; exact hm⟩
  rw [List.length_append, hl] at hj
  show (L ++ dgs 8 x).getD j 0 < 256 ∧ gcF 4 x (L.length + dgN 8 x) f1 j = sb_b ((L ++ dgs 8 x).getD j 0)
  by_cases h1 : j < L.length
  · rw [getD_l h1, gc_out 4 x _ _ j (by omega) (by omega) (by show dgN 8 x ≤ _; omega) (Or.inl (by show j < _ - dgN 8 x; omega)), hk j (by have := h.2.2; omega)]
    exact h.1 j h1
  · have h2 := gc_in 4 x (L.length + dgN 8 x) f1 (j - L.length) (by omega) (by omega) (by show dgN 8 x ≤ _; omega) (by show _ < dgN 8 x; omega)
    rw [show L.length + dgN 8 x - dgN (2 * 4) x + (j - L.length) = j by show L.length + dgN 8 x - dgN 8 x + (j - L.length) = j; omega] at h2
    rw [getD_r (by omega)]
    have h3 : (dgs 8 x).getD (j - L.length) 0 < 58 := h2.2
    exact ⟨by omega, h2.1.trans (sbb7 (by omega)).symm⟩
theorem dgN_le : ∀ k y, dgN k y ≤ k := by
  intro k
  induction k with
  | zero => intro y; exact Nat.le_refl 0
  | succ k ih => intro y; rw [dgN.eq_2]; split <;> have := ih (y / 10) <;> omega
abbrev rmasbC (mc ms : Nat) : Room := { frames := 4, cells := mc, slots := ms, locals := 104 }
set_option maxHeartbeats 4000000 in
set_option maxRecDepth 100000 in
theorem tasbC (l : Launch) (dC : Nat → ClassId) (dI : Nat → Nat → Nat) (dA : Nat → ClassId) (d1 d2 : Nat) (sz : Nat) (b v : Nat) (ml : Int32) (n : Nat) (f : Nat → Int32) (L : List Nat) (ch : Nat) (hH : sbH L n f) (hn3 : n ≤ 402) (hL2 : L.length ≤ 199) (hch : ch < 128) : Met l yJ5_append_3fe6f (wq (Cond.code yJ5_append_3fe6f cJ5_append_3fe6f 2 (some (.object "java/lang/AbstractStringBuilder")))) (rmasbC (sb_cap (L.length + 1) n - n) (2 * (sb_cap (L.length + 1) n - n))) (gPT d1 d2 [.ref b, .int (nI ch)] (dC, dI) dA (sbW dA b v ml (nI L.length) n f) sz) (sbQr (dC, dI) b (fun f9 => sbH (L ++ [ch]) (sb_cap (L.length + 1) n) f9) (fun v ml f => sbW dA b v ml (nI (L.length + 1)) (sb_cap (L.length + 1) n) f) (va_A (sbW dA b v ml (nI L.length) n f) sz)) (sb_cap (L.length + 1) n - n) (2 * (sb_cap (L.length + 1) n - n)) (va_A (sbW dA b v ml (nI L.length) n f) sz) := by
  refine Met.ofW (cc := cJ5_append_3fe6f) (maxL := 2) (ret := (some (.object "java/lang/AbstractStringBuilder"))) (by decide) rfl ?_
  intro p e s m args below meth c s₁ B hml hv
  obtain ⟨rfl, hsz, hP, hK, hE, hD0⟩ := hv
  have hx := B.exec
  have hb := B.bytes
  have hr := B.returns
  have hts := atoms_spec (ws := wq (Cond.code yJ5_append_3fe6f cJ5_append_3fe6f 2 (some (.object "java/lang/AbstractStringBuilder")))) B.pre
  have hown : s.vm.findClass RJ5 = some m.cls := findClass_of_methodNamed B.named
  have hlocks := B.notSynchronized
  clear B
  subst hsz
  have hD := hD0.self (sz := s.heap.size)
  generalize hAe : va_A (sbW dA b v ml (nI L.length) n f) s.heap.size = A at hD hE ⊢
  have hA : ∀ q : Nat, s.heap.size ≤ q → A q := fun q h => by rw [← hAe]; exact Or.inr h
  clear hAe hD0
  have hS : va_S A s.heap s.heap [] := va_S.rf
  have hl := lv_entry ([.ref b, .int (nI ch)]) (n := 2) (Nat.le_of_ble_eq_true rfl)
  rw [lg_entry_eq]
  generalize (lg_sl ([.ref b, .int (nI ch)]) ++ List.replicate (2 - (lg_sl ([.ref b, .int (nI ch)])).length) Slot.unset).toArray = ls at hl ⊢
  have hl : lv_has ls 2 [(0, .ref b), (1, .int (nI ch))] := hl
  change W p l e (rmasbC (sb_cap (L.length + 1) n - n) (2 * (sb_cap (L.length + 1) n - n))) s m (([.ref b, .int (nI ch)] : List Value).toArray) below meth c s.heap [] 0 0 _ _
  have hn2 : n ≤ 1000 := by omega
  refine lv_aload_n hx hb dJ5_append_3fe6f_0 rfl (lv_at hl 0 rfl) ?_
  refine lv_aload_n hx hb dJ5_append_3fe6f_1 rfl (lv_at hl 0 rfl) ?_
  refine va_get (D := (dC, dI)) (ci := 0) (v := .int (nI L.length)) (C := RJ4) (T := TJ4) (N := 4) hx hb hts (fun w h => gw_mem (inJ4 w h)) hown hK.1 hP 0 rfl rfl 3 (by decide) (hts _ (gw_mem wfJ5_79)) (fun _ h9 => h9) rfl dJ5_append_3fe6f_2 ?_
  refine lv_iconst (v := 1) hx hb dJ5_append_3fe6f_5 (by decide) ?_
  refine lv_iadd hx hb dJ5_append_3fe6f_6 ?_
  rw [show (nI L.length) + 1 = nI (L.length + 1) from nI_1 _]
  have hFr := gfree hD hS hA
  refine va_callv (va_runV (As := [.int (nI (L.length + 1))]) (rest := []) ⟨hx, hb, hml, hown, hts⟩ (tensC l dC dI dA d1 d2 s.heap.size b v ml (nI L.length) n f (L.length + 1) (by omega) hn2 hH.2.1) (gCP 1 hts wcJ5_ensureCapacityInternal_d00df wmJ5_100 wiJ5_ensureCapacityInternal_d00df hE.2.2.2.2.2.2.1 rfl wnJ5 (by decide +kernel) rfl rfl ⟨Nat.le_of_ble_eq_true rfl, Nat.le_of_ble_eq_true rfl⟩) (gPreVT (ci := 0) (q0 := 0) (ws := (sbW dA b v ml (nI L.length) n f)) hE hS hA hP hK hD rfl rfl) rfl rfl hl.1 rfl (lv_room (Nat.le_of_ble_eq_true rfl)) dJ5_append_3fe6f_7 ⟨by show 0 + (sb_cap (L.length + 1) n - n) ≤ sb_cap (L.length + 1) n - n; omega, by show 0 + 2 * (sb_cap (L.length + 1) n - n) ≤ 2 * (sb_cap (L.length + 1) n - n); omega⟩) hS (fun q _ h => hFr q h) hFr (fun u t H1 locs ht hvm hw hB hz hk hS => ?_)
  obtain ⟨v1, ml1, f1⟩ := u
  obtain ⟨hkp, hF1⟩ := hw
  have hP : va_P (dC, dI) vwCl (sbW dA b v1 ml1 (nI L.length) (sb_cap (L.length + 1) n) f1) H1 := by rw [← ht]; exact hB.1
  have hD : va_D A (sbW dA b v1 ml1 (nI L.length) (sb_cap (L.length + 1) n) f1) := hB.2.weaken (fun k q _ h => hFr q.1 h)
  clear hFr hk hB hz ht hvm
  generalize H1 = H at *
  refine W.widen (k := sb_cap (L.length + 1) n - n) (n := 2 * (sb_cap (L.length + 1) n - n)) (by omega) (by omega) ?_
  have hcn := cap_need (L.length + 1) n
  have hcl := cap_le (q := L.length + 1) (n := n) (by omega) hn3
  refine lv_aload_n hx hb dJ5_append_3fe6f_10 rfl (lv_at hl 0 rfl) ?_
  refine gci (va_runV (As := []) (rest := []) ⟨hx, hb, hml, hown, hts⟩ (tisLat l dC dI dA d1 d2 H.size b v1 ml1 (nI L.length) (sb_cap (L.length + 1) n) f1) (show CallW _ _ _ RJ5 RJ4 83 yJ5_isLatin1_aae02 cJ5_isLatin1_aae02 1 (some .boolean) _ rmisLat 0 0 0 from gCW 0 hts wcJ5_isLatin1_aae02 wmJ5_83 wiJ5_isLatin1_aae02 we_1104 wnJ5 (by decide +kernel) rfl rfl ⟨Nat.le_of_ble_eq_true rfl, Nat.le_of_ble_eq_true rfl⟩) (gPreVT (ci := 0) (q0 := 0) (ws := (sbW dA b v1 ml1 (nI L.length) (sb_cap (L.length + 1) n) f1)) hE hS hA hP hK hD rfl rfl) rfl rfl hl.1 rfl (lv_room (Nat.le_of_ble_eq_true rfl)) dJ5_append_3fe6f_11 ⟨Nat.le_refl _, Nat.le_refl _⟩) hD hS hA (fun H locs hP hD hS => ?_)
  refine lv_if_eq (tgt := 45) hx hb dJ5_append_3fe6f_14 (by decide) (fun k9 => absurd k9 (by decide)) (fun k9 => ?_)
  refine lv_iload_n hx hb dJ5_append_3fe6f_17 rfl (lv_at hl 1 rfl) ?_
  refine gci0 (va_runS (As := [.int (nI ch)]) (rest := []) ⟨hx, hb, hml, hown, hts⟩ (tJ1_canEncode_fc78d l dC dI dA H.size (ce_eq hch)) (gCS 1 hts wcJ1_canEncode_fc78d wmJ5_191 wtJ1_canEncode_fc78d wnJ1 (by decide +kernel) rfl rfl ⟨Nat.le_of_ble_eq_true rfl, Nat.le_of_ble_eq_true rfl⟩) (gPreS0 hK) rfl rfl hl.1 rfl (lv_room (Nat.le_of_ble_eq_true rfl)) dJ5_append_3fe6f_18 ⟨Nat.le_refl _, Nat.le_refl _⟩) hP hS hA (fun H locs hP hS => ?_)
  refine lv_if_eq (tgt := 45) hx hb dJ5_append_3fe6f_21 (by decide) (fun k9 => absurd k9 (by decide)) (fun k9 => ?_)
  refine lv_aload_n hx hb dJ5_append_3fe6f_24 rfl (lv_at hl 0 rfl) ?_
  refine va_get (D := (dC, dI)) (ci := 0) (v := .ref v1) (C := RJ4) (T := TJ4) (N := 4) hx hb hts (fun w h => gw_mem (inJ4 w h)) hown hK.1 hP 0 rfl rfl 0 (by decide) (hts _ (gw_mem wfJ5_15)) (fun _ h9 => h9) rfl dJ5_append_3fe6f_25 ?_
  refine lv_aload_n hx hb dJ5_append_3fe6f_28 rfl (lv_at hl 0 rfl) ?_
  refine lv_dup hx hb dJ5_append_3fe6f_29 rfl ?_
  refine va_get (D := (dC, dI)) (ci := 0) (v := .int (nI L.length)) (C := RJ4) (T := TJ4) (N := 4) hx hb hts (fun w h => gw_mem (inJ4 w h)) hown hK.1 hP 0 rfl rfl 3 (by decide) (hts _ (gw_mem wfJ5_79)) (fun _ h9 => h9) rfl dJ5_append_3fe6f_30 ?_
  refine lv_dup_x1 hx hb dJ5_append_3fe6f_33 rfl rfl ?_
  refine lv_iconst (v := 1) hx hb dJ5_append_3fe6f_34 (by decide) ?_
  refine lv_iadd hx hb dJ5_append_3fe6f_35 ?_
  rw [show (nI L.length) + 1 = nI (L.length + 1) from nI_1 _]
  refine va_put (D := (dC, dI)) (ci := 0) (v := .int (nI (L.length + 1))) (ty := .int) (C := RJ4) (T := TJ4) (N := 4) hx hb hts (fun w h => gw_mem (inJ4 w h)) tyJ4 tyJ4_ok nmJ4 hown hK.1 hP hD hS 0 rfl rfl 3 (by decide) (hts _ (gw_mem wfJ5_79)) (fun _ h9 => h9) rfl (by decide +kernel) rfl rfl (Nat.le_of_ble_eq_true rfl) dJ5_append_3fe6f_36 (fun H locs hP hD hS => ?_)
  have hP : va_P (dC, dI) vwCl (sbW dA b v1 ml1 (nI (L.length + 1)) (sb_cap (L.length + 1) n) f1) H := hP
  have hD : va_D A (sbW dA b v1 ml1 (nI (L.length + 1)) (sb_cap (L.length + 1) n) f1) := hD
  refine lv_iload_n hx hb dJ5_append_3fe6f_39 rfl (lv_at hl 1 rfl) ?_
  refine lv_i2b hx hb dJ5_append_3fe6f_40 rfl ?_
  rw [show Int8.toInt32 (Int32.toInt8 (nI ch)) = nI ch from nar7' hch]
  refine va_bast hx hb hK.1 hP hD hS 1 2 rfl rfl (vp_in_nI (show L.length < sb_cap (L.length + 1) n by omega) (by omega)) dJ5_append_3fe6f_41 (fun H locs hP hD hS => ?_)
  rw [nI_clamp (show L.length < 2 ^ 31 by omega), nar7 hch] at hP hD
  have hP : va_P (dC, dI) vwCl (sbW dA b v1 ml1 (nI (L.length + 1)) (sb_cap (L.length + 1) n) (upd f1 L.length (nI ch))) H := hP
  have hD : va_D A (sbW dA b v1 ml1 (nI (L.length + 1)) (sb_cap (L.length + 1) n) (upd f1 L.length (nI ch))) := hD
  refine lv_goto (tgt := 75) hx hb dJ5_append_3fe6f_42 (by decide) ?_
  refine lv_aload_n hx hb dJ5_append_3fe6f_75 rfl (lv_at hl 0 rfl) ?_
  exact W.aret hx hb hr (Or.inl ⟨_, rfl⟩) (Or.inr ⟨_, rfl⟩) (fun t ht _ => ⟨⟨(v1, ml1, upd f1 L.length (nI ch)), b, rfl, sbH_put hH hkp hF1 hcn hch, rfl, by rw [ht]; exact hP, hD⟩, hS.F ht⟩) hS.2.2 dJ5_append_3fe6f_76
abbrev rmasbI (mc ms : Nat) : Room := { frames := 4, cells := mc, slots := ms, locals := 104 }
set_option maxHeartbeats 4000000 in
set_option maxRecDepth 100000 in
theorem tasbI (l : Launch) (dC : Nat → ClassId) (dI : Nat → Nat → Nat) (dA : Nat → ClassId) (d1 d2 : Nat) (sz : Nat) (b v : Nat) (ml : Int32) (n : Nat) (f : Nat → Int32) (L : List Nat) (x : Nat) (hH : sbH L n f) (hn3 : n ≤ 402) (hL2 : L.length + dgN 8 x ≤ 200) (hx0 : x < 10000000) : Met l yJ5_append_c97b9 (wq (Cond.code yJ5_append_c97b9 cJ5_append_c97b9 4 (some (.object "java/lang/AbstractStringBuilder")))) (rmasbI (sb_cap (L.length + dgN 8 x) n - n) (2 * (sb_cap (L.length + dgN 8 x) n - n))) (gPT d1 d2 [.ref b, .int (nI x)] (dC, dI) dA (sbW dA b v ml (nI L.length) n f) sz) (sbQr (dC, dI) b (fun f9 => sbH (L ++ dgs 8 x) (sb_cap (L.length + dgN 8 x) n) f9) (fun v ml f => sbW dA b v ml (nI (L.length + dgN 8 x)) (sb_cap (L.length + dgN 8 x) n) f) (va_A (sbW dA b v ml (nI L.length) n f) sz)) (sb_cap (L.length + dgN 8 x) n - n) (2 * (sb_cap (L.length + dgN 8 x) n - n)) (va_A (sbW dA b v ml (nI L.length) n f) sz) := by
  refine Met.ofW (cc := cJ5_append_c97b9) (maxL := 4) (ret := (some (.object "java/lang/AbstractStringBuilder"))) (by decide) rfl ?_
  intro p e s m args below meth c s₁ B hml hv
  obtain ⟨rfl, hsz, hP, hK, hE, hD0⟩ := hv
  have hx := B.exec
  have hb := B.bytes
  have hr := B.returns
  have hts := atoms_spec (ws := wq (Cond.code yJ5_append_c97b9 cJ5_append_c97b9 4 (some (.object "java/lang/AbstractStringBuilder")))) B.pre
  have hown : s.vm.findClass RJ5 = some m.cls := findClass_of_methodNamed B.named
  have hlocks := B.notSynchronized
  clear B
  subst hsz
  have hD := hD0.self (sz := s.heap.size)
  generalize hAe : va_A (sbW dA b v ml (nI L.length) n f) s.heap.size = A at hD hE ⊢
  have hA : ∀ q : Nat, s.heap.size ≤ q → A q := fun q h => by rw [← hAe]; exact Or.inr h
  clear hAe hD0
  have hS : va_S A s.heap s.heap [] := va_S.rf
  have hl := lv_entry ([.ref b, .int (nI x)]) (n := 4) (Nat.le_of_ble_eq_true rfl)
  rw [lg_entry_eq]
  generalize (lg_sl ([.ref b, .int (nI x)]) ++ List.replicate (4 - (lg_sl ([.ref b, .int (nI x)])).length) Slot.unset).toArray = ls at hl ⊢
  have hl : lv_has ls 4 [(0, .ref b), (1, .int (nI x))] := hl
  change W p l e (rmasbI (sb_cap (L.length + dgN 8 x) n - n) (2 * (sb_cap (L.length + dgN 8 x) n - n))) s m (([.ref b, .int (nI x)] : List Value).toArray) below meth c s.heap [] 0 0 _ _
  have hn2 : n ≤ 1000 := by omega
  refine lv_aload_n hx hb dJ5_append_c97b9_0 rfl (lv_at hl 0 rfl) ?_
  refine va_get (D := (dC, dI)) (ci := 0) (v := .int (nI L.length)) (C := RJ4) (T := TJ4) (N := 4) hx hb hts (fun w h => gw_mem (inJ4 w h)) hown hK.1 hP 0 rfl rfl 3 (by decide) (hts _ (gw_mem wfJ5_79)) (fun _ h9 => h9) rfl dJ5_append_c97b9_1 ?_
  refine lv_istore_n (lv' := [(2, .int (nI L.length)), (0, .ref b), (1, .int (nI x))]) hx hb dJ5_append_c97b9_4 rfl hl (by decide) rfl (fun ls hl => ?_)
  refine lv_iload_n hx hb dJ5_append_c97b9_5 rfl (lv_at hl 0 rfl) ?_
  refine lv_iload_n hx hb dJ5_append_c97b9_6 rfl (lv_at hl 2 rfl) ?_
  refine gci0 (va_runS (As := [.int (nI x)]) (rest := [.int (nI L.length)]) ⟨hx, hb, hml, hown, hts⟩ (tJ6_stringSize_0f7a4 l dC dI dA s.heap.size (ss_eq hx0)) (gCS 1 hts wcJ6_stringSize_0f7a4 wmJ5_245 wtJ6_stringSize_0f7a4 wnJ6 (by decide +kernel) rfl rfl ⟨Nat.le_of_ble_eq_true rfl, Nat.le_of_ble_eq_true rfl⟩) (gPreS0 hK) rfl rfl hl.1 rfl (lv_room (Nat.le_of_ble_eq_true rfl)) dJ5_append_c97b9_7 ⟨Nat.zero_le _, Nat.zero_le _⟩) hP hS hA (fun H locs hP hS => ?_)
  refine lv_iadd hx hb dJ5_append_c97b9_10 ?_
  rw [show (nI L.length) + (nI (dgN 8 x)) = nI (L.length + dgN 8 x) from nI_add _ _]
  refine lv_istore_n (lv' := [(3, .int (nI (L.length + dgN 8 x))), (2, .int (nI L.length)), (0, .ref b), (1, .int (nI x))]) hx hb dJ5_append_c97b9_11 rfl hl (by decide) rfl (fun ls hl => ?_)
  refine lv_aload_n hx hb dJ5_append_c97b9_12 rfl (lv_at hl 2 rfl) ?_
  refine lv_iload_n hx hb dJ5_append_c97b9_13 rfl (lv_at hl 0 rfl) ?_
  have hFr := gfree hD hS hA
  refine va_callv (va_runV (As := [.int (nI (L.length + dgN 8 x))]) (rest := []) ⟨hx, hb, hml, hown, hts⟩ (tensC l dC dI dA d1 d2 H.size b v ml (nI L.length) n f (L.length + dgN 8 x) (by omega) hn2 hH.2.1) (gCP 1 hts wcJ5_ensureCapacityInternal_d00df wmJ5_100 wiJ5_ensureCapacityInternal_d00df hE.2.2.2.2.2.2.1 rfl wnJ5 (by decide +kernel) rfl rfl ⟨Nat.le_of_ble_eq_true rfl, Nat.le_of_ble_eq_true rfl⟩) (gPreVT (ci := 0) (q0 := 0) (ws := (sbW dA b v ml (nI L.length) n f)) hE hS hA hP hK hD rfl rfl) rfl rfl hl.1 rfl (lv_room (Nat.le_of_ble_eq_true rfl)) dJ5_append_c97b9_14 ⟨by show 0 + (sb_cap (L.length + dgN 8 x) n - n) ≤ sb_cap (L.length + dgN 8 x) n - n; omega, by show 0 + 2 * (sb_cap (L.length + dgN 8 x) n - n) ≤ 2 * (sb_cap (L.length + dgN 8 x) n - n); omega⟩) hS (fun q _ h => hFr q h) hFr (fun u t H1 locs ht hvm hw hB hz hk hS => ?_)
  obtain ⟨v1, ml1, f1⟩ := u
  obtain ⟨hkp, hF1⟩ := hw
  have hP : va_P (dC, dI) vwCl (sbW dA b v1 ml1 (nI L.length) (sb_cap (L.length + dgN 8 x) n) f1) H1 := by rw [← ht]; exact hB.1
  have hD : va_D A (sbW dA b v1 ml1 (nI L.length) (sb_cap (L.length + dgN 8 x) n) f1) := hB.2.weaken (fun k q _ h => hFr q.1 h)
  clear hFr hk hB hz ht hvm
  generalize H1 = H at *
  refine W.widen (k := sb_cap (L.length + dgN 8 x) n - n) (n := 2 * (sb_cap (L.length + dgN 8 x) n - n)) (by omega) (by omega) ?_
  have hcn := cap_need (L.length + dgN 8 x) n
  have hcl := cap_le (q := (L.length + dgN 8 x)) (n := n) (by omega) hn3
  refine lv_aload_n hx hb dJ5_append_c97b9_17 rfl (lv_at hl 2 rfl) ?_
  refine gci (va_runV (As := []) (rest := []) ⟨hx, hb, hml, hown, hts⟩ (tisLat l dC dI dA d1 d2 H.size b v1 ml1 (nI L.length) (sb_cap (L.length + dgN 8 x) n) f1) (show CallW _ _ _ RJ5 RJ4 83 yJ5_isLatin1_aae02 cJ5_isLatin1_aae02 1 (some .boolean) _ rmisLat 0 0 0 from gCW 0 hts wcJ5_isLatin1_aae02 wmJ5_83 wiJ5_isLatin1_aae02 we_1104 wnJ5 (by decide +kernel) rfl rfl ⟨Nat.le_of_ble_eq_true rfl, Nat.le_of_ble_eq_true rfl⟩) (gPreVT (ci := 0) (q0 := 0) (ws := (sbW dA b v1 ml1 (nI L.length) (sb_cap (L.length + dgN 8 x) n) f1)) hE hS hA hP hK hD rfl rfl) rfl rfl hl.1 rfl (lv_room (Nat.le_of_ble_eq_true rfl)) dJ5_append_c97b9_18 ⟨Nat.le_refl _, Nat.le_refl _⟩) hD hS hA (fun H locs hP hD hS => ?_)
  refine lv_if_eq (tgt := 37) hx hb dJ5_append_c97b9_21 (by decide) (fun k9 => absurd k9 (by decide)) (fun k9 => ?_)
  refine lv_iload_n hx hb dJ5_append_c97b9_24 rfl (lv_at hl 3 rfl) ?_
  refine lv_iload_n hx hb dJ5_append_c97b9_25 rfl (lv_at hl 0 rfl) ?_
  refine lv_aload_n hx hb dJ5_append_c97b9_26 rfl (lv_at hl 2 rfl) ?_
  refine va_get (D := (dC, dI)) (ci := 0) (v := .ref v1) (C := RJ4) (T := TJ4) (N := 4) hx hb hts (fun w h => gw_mem (inJ4 w h)) hown hK.1 hP 0 rfl rfl 0 (by decide) (hts _ (gw_mem wfJ5_15)) (fun _ h9 => h9) rfl dJ5_append_c97b9_27 ?_
  have z1 := sg1 (ws := (sbW dA b v1 ml1 (nI L.length) (sb_cap (L.length + dgN 8 x) n) f1)) (s0 := [(b, .inr (0, [.ref v1, .int 0, .int ml1, .int (nI L.length)]))]) (x1 := [(v1, .inl (dA 2, sb_cap (L.length + dgN 8 x) n, .inl f1))]) (s1 := []) rfl
  refine gpi (wf := (sbW dA b v1 ml1 (nI L.length) (sb_cap (L.length + dgN 8 x) n) (gcF 4 x (L.length + dgN 8 x) f1))) (va_runS (As := [.int (nI x), .int (nI (L.length + dgN 8 x)), .ref v1]) (rest := []) ⟨hx, hb, hml, hown, hts⟩ (tgetC l dC dI dA d1 d2 H.size v1 (sb_cap (L.length + dgN 8 x) n) x (L.length + dgN 8 x) f1 hx0 hcn (by omega) (by omega)) (gCS 3 hts wcJ6_getChars_ba4f3 wmJ5_248 wtJ6_getChars_ba4f3 wnJ6 (by decide +kernel) rfl rfl ⟨Nat.le_of_ble_eq_true rfl, Nat.le_of_ble_eq_true rfl⟩) (gPreST hE hS hA (psub z1 hP) hK (psubD z1 hD)) rfl rfl hl.1 rfl (lv_room (Nat.le_of_ble_eq_true rfl)) dJ5_append_c97b9_30 ⟨Nat.le_refl _, Nat.le_refl _⟩) hP hD hS hA z1 (sg1 (s0 := [(b, .inr (0, [.ref v1, .int 0, .int ml1, .int (nI L.length)]))]) (s1 := []) rfl) (fun H locs hP hD hS => ?_)
  refine lv_pop hx hb dJ5_append_c97b9_33 rfl ?_
  refine lv_goto (tgt := 48) hx hb dJ5_append_c97b9_34 (by decide) ?_
  refine lv_aload_n hx hb dJ5_append_c97b9_48 rfl (lv_at hl 2 rfl) ?_
  refine lv_iload_n hx hb dJ5_append_c97b9_49 rfl (lv_at hl 0 rfl) ?_
  refine va_put (D := (dC, dI)) (ci := 0) (v := .int (nI (L.length + dgN 8 x))) (ty := .int) (C := RJ4) (T := TJ4) (N := 4) hx hb hts (fun w h => gw_mem (inJ4 w h)) tyJ4 tyJ4_ok nmJ4 hown hK.1 hP hD hS 0 rfl rfl 3 (by decide) (hts _ (gw_mem wfJ5_79)) (fun _ h9 => h9) rfl (by decide +kernel) rfl rfl (Nat.le_of_ble_eq_true rfl) dJ5_append_c97b9_50 (fun H locs hP hD hS => ?_)
  have hP : va_P (dC, dI) vwCl (sbW dA b v1 ml1 (nI (L.length + dgN 8 x)) (sb_cap (L.length + dgN 8 x) n) (gcF 4 x (L.length + dgN 8 x) f1)) H := hP
  have hD : va_D A (sbW dA b v1 ml1 (nI (L.length + dgN 8 x)) (sb_cap (L.length + dgN 8 x) n) (gcF 4 x (L.length + dgN 8 x) f1)) := hD
  refine lv_aload_n hx hb dJ5_append_c97b9_53 rfl (lv_at hl 2 rfl) ?_
  exact W.aret hx hb hr (Or.inl ⟨_, rfl⟩) (Or.inr ⟨_, rfl⟩) (fun t ht _ => ⟨⟨(v1, ml1, gcF 4 x (L.length + dgN 8 x) f1), b, rfl, sbH_dg hH hkp hF1 hcn hx0, rfl, by rw [ht]; exact hP, hD⟩, hS.F ht⟩) hS.2.2 dJ5_append_c97b9_54
abbrev rmsbC (mc ms : Nat) : Room := { frames := 5, cells := mc, slots := ms, locals := 125 }
set_option maxHeartbeats 4000000 in
set_option maxRecDepth 100000 in
theorem tsbC (l : Launch) (dC : Nat → ClassId) (dI : Nat → Nat → Nat) (dA : Nat → ClassId) (d1 d2 : Nat) (sz : Nat) (b v : Nat) (ml : Int32) (n : Nat) (f : Nat → Int32) (L : List Nat) (ch : Nat) (hH : sbH L n f) (hn3 : n ≤ 402) (hL2 : L.length ≤ 199) (hch : ch < 128) : Met l yJ4_append_cf468 (wq (Cond.code yJ4_append_cf468 cJ4_append_cf468 2 (some (.object "java/lang/StringBuilder")))) (rmsbC (sb_cap (L.length + 1) n - n) (2 * (sb_cap (L.length + 1) n - n))) (gPT d1 d2 [.ref b, .int (nI ch)] (dC, dI) dA (sbW dA b v ml (nI L.length) n f) sz) (sbQr (dC, dI) b (fun f9 => sbH (L ++ [ch]) (sb_cap (L.length + 1) n) f9) (fun v ml f => sbW dA b v ml (nI (L.length + 1)) (sb_cap (L.length + 1) n) f) (va_A (sbW dA b v ml (nI L.length) n f) sz)) (sb_cap (L.length + 1) n - n) (2 * (sb_cap (L.length + 1) n - n)) (va_A (sbW dA b v ml (nI L.length) n f) sz) := by
  refine Met.ofW (cc := cJ4_append_cf468) (maxL := 2) (ret := (some (.object "java/lang/StringBuilder"))) (by decide) rfl ?_
  intro p e s m args below meth c s₁ B hml hv
  obtain ⟨rfl, hsz, hP, hK, hE, hD0⟩ := hv
  have hx := B.exec
  have hb := B.bytes
  have hr := B.returns
  have hts := atoms_spec (ws := wq (Cond.code yJ4_append_cf468 cJ4_append_cf468 2 (some (.object "java/lang/StringBuilder")))) B.pre
  have hown : s.vm.findClass RJ4 = some m.cls := findClass_of_methodNamed B.named
  have hlocks := B.notSynchronized
  clear B
  subst hsz
  have hD := hD0.self (sz := s.heap.size)
  generalize hAe : va_A (sbW dA b v ml (nI L.length) n f) s.heap.size = A at hD hE ⊢
  have hA : ∀ q : Nat, s.heap.size ≤ q → A q := fun q h => by rw [← hAe]; exact Or.inr h
  clear hAe hD0
  have hS : va_S A s.heap s.heap [] := va_S.rf
  have hl := lv_entry ([.ref b, .int (nI ch)]) (n := 2) (Nat.le_of_ble_eq_true rfl)
  rw [lg_entry_eq]
  generalize (lg_sl ([.ref b, .int (nI ch)]) ++ List.replicate (2 - (lg_sl ([.ref b, .int (nI ch)])).length) Slot.unset).toArray = ls at hl ⊢
  have hl : lv_has ls 2 [(0, .ref b), (1, .int (nI ch))] := hl
  change W p l e (rmsbC (sb_cap (L.length + 1) n - n) (2 * (sb_cap (L.length + 1) n - n))) s m (([.ref b, .int (nI ch)] : List Value).toArray) below meth c s.heap [] 0 0 _ _
  refine lv_aload_n hx hb dJ4_append_cf468_0 rfl (lv_at hl 0 rfl) ?_
  refine lv_iload_n hx hb dJ4_append_cf468_1 rfl (lv_at hl 1 rfl) ?_
  have hFr := gfree hD hS hA
  refine va_callr (va_runSU ((hK.1.1 0 (RJ4, TJ4, 4) rfl).2) (As := [.int (nI ch)]) (rest := []) ⟨hx, hb, hml, hown, hts⟩ (tasbC l dC dI dA d1 d2 s.heap.size b v ml n f L ch hH hn3 hL2 hch) (gCU 1 hts wcJ5_append_3fe6f wmJ4_50 wsmJ5_append_3fe6f wsuJ4 wiJ5_append_3fe6f wnJ5 (by decide +kernel) rfl rfl ⟨Nat.le_of_ble_eq_true rfl, Nat.le_of_ble_eq_true rfl⟩) (gPreVT (ci := 0) (q0 := 0) (ws := (sbW dA b v ml (nI L.length) n f)) hE hS hA hP hK hD rfl rfl) rfl rfl hl.1 rfl (lv_room (Nat.le_of_ble_eq_true rfl)) dJ4_append_cf468_2 ⟨Nat.le_of_eq (Nat.zero_add _), Nat.le_of_eq (Nat.zero_add _)⟩) hS (fun q _ h => hFr q h) hFr (fun u a t H1 locs ht hvm hw hB hz hk hS => ?_)
  obtain ⟨v1, ml1, f1⟩ := u
  obtain ⟨ea, hB1, hB2⟩ := hB
  subst ea
  have hP : va_P (dC, dI) vwCl (sbW dA a v1 ml1 (nI (L.length + 1)) (sb_cap (L.length + 1) n) f1) H1 := by rw [← ht]; exact hB1
  have hD : va_D A (sbW dA a v1 ml1 (nI (L.length + 1)) (sb_cap (L.length + 1) n) f1) := hB2.weaken (fun k q _ h => hFr q.1 h)
  refine W.widen (k := sb_cap (L.length + 1) n - n) (n := 2 * (sb_cap (L.length + 1) n - n)) (by omega) (by omega) ?_
  refine lv_pop hx hb dJ4_append_cf468_5 rfl ?_
  refine lv_aload_n hx hb dJ4_append_cf468_6 rfl (lv_at hl 0 rfl) ?_
  exact W.aret hx hb hr (Or.inl ⟨_, rfl⟩) (Or.inr ⟨_, rfl⟩) (fun t ht _ => ⟨⟨(v1, ml1, f1), a, rfl, hw, rfl, by rw [ht]; exact hP, hD⟩, hS.F ht⟩) hS.2.2 dJ4_append_cf468_7
abbrev rmsbI (mc ms : Nat) : Room := { frames := 5, cells := mc, slots := ms, locals := 127 }
set_option maxHeartbeats 4000000 in
set_option maxRecDepth 100000 in
theorem tsbI (l : Launch) (dC : Nat → ClassId) (dI : Nat → Nat → Nat) (dA : Nat → ClassId) (d1 d2 : Nat) (sz : Nat) (b v : Nat) (ml : Int32) (n : Nat) (f : Nat → Int32) (L : List Nat) (x : Nat) (hH : sbH L n f) (hn3 : n ≤ 402) (hL2 : L.length + dgN 8 x ≤ 200) (hx0 : x < 10000000) : Met l yJ4_append_bf812 (wq (Cond.code yJ4_append_bf812 cJ4_append_bf812 2 (some (.object "java/lang/StringBuilder")))) (rmsbI (sb_cap (L.length + dgN 8 x) n - n) (2 * (sb_cap (L.length + dgN 8 x) n - n))) (gPT d1 d2 [.ref b, .int (nI x)] (dC, dI) dA (sbW dA b v ml (nI L.length) n f) sz) (sbQr (dC, dI) b (fun f9 => sbH (L ++ dgs 8 x) (sb_cap (L.length + dgN 8 x) n) f9) (fun v ml f => sbW dA b v ml (nI (L.length + dgN 8 x)) (sb_cap (L.length + dgN 8 x) n) f) (va_A (sbW dA b v ml (nI L.length) n f) sz)) (sb_cap (L.length + dgN 8 x) n - n) (2 * (sb_cap (L.length + dgN 8 x) n - n)) (va_A (sbW dA b v ml (nI L.length) n f) sz) := by
  refine Met.ofW (cc := cJ4_append_bf812) (maxL := 2) (ret := (some (.object "java/lang/StringBuilder"))) (by decide) rfl ?_
  intro p e s m args below meth c s₁ B hml hv
  obtain ⟨rfl, hsz, hP, hK, hE, hD0⟩ := hv
  have hx := B.exec
  have hb := B.bytes
  have hr := B.returns
  have hts := atoms_spec (ws := wq (Cond.code yJ4_append_bf812 cJ4_append_bf812 2 (some (.object "java/lang/StringBuilder")))) B.pre
  have hown : s.vm.findClass RJ4 = some m.cls := findClass_of_methodNamed B.named
  have hlocks := B.notSynchronized
  clear B
  subst hsz
  have hD := hD0.self (sz := s.heap.size)
  generalize hAe : va_A (sbW dA b v ml (nI L.length) n f) s.heap.size = A at hD hE ⊢
  have hA : ∀ q : Nat, s.heap.size ≤ q → A q := fun q h => by rw [← hAe]; exact Or.inr h
  clear hAe hD0
  have hS : va_S A s.heap s.heap [] := va_S.rf
  have hl := lv_entry ([.ref b, .int (nI x)]) (n := 2) (Nat.le_of_ble_eq_true rfl)
  rw [lg_entry_eq]
  generalize (lg_sl ([.ref b, .int (nI x)]) ++ List.replicate (2 - (lg_sl ([.ref b, .int (nI x)])).length) Slot.unset).toArray = ls at hl ⊢
  have hl : lv_has ls 2 [(0, .ref b), (1, .int (nI x))] := hl
  change W p l e (rmsbI (sb_cap (L.length + dgN 8 x) n - n) (2 * (sb_cap (L.length + dgN 8 x) n - n))) s m (([.ref b, .int (nI x)] : List Value).toArray) below meth c s.heap [] 0 0 _ _
  refine lv_aload_n hx hb dJ4_append_bf812_0 rfl (lv_at hl 0 rfl) ?_
  refine lv_iload_n hx hb dJ4_append_bf812_1 rfl (lv_at hl 1 rfl) ?_
  have hFr := gfree hD hS hA
  refine va_callr (va_runSU ((hK.1.1 0 (RJ4, TJ4, 4) rfl).2) (As := [.int (nI x)]) (rest := []) ⟨hx, hb, hml, hown, hts⟩ (tasbI l dC dI dA d1 d2 s.heap.size b v ml n f L x hH hn3 hL2 hx0) (gCU 1 hts wcJ5_append_c97b9 wmJ4_53 wsmJ5_append_c97b9 wsuJ4 wiJ5_append_c97b9 wnJ5 (by decide +kernel) rfl rfl ⟨Nat.le_of_ble_eq_true rfl, Nat.le_of_ble_eq_true rfl⟩) (gPreVT (ci := 0) (q0 := 0) (ws := (sbW dA b v ml (nI L.length) n f)) hE hS hA hP hK hD rfl rfl) rfl rfl hl.1 rfl (lv_room (Nat.le_of_ble_eq_true rfl)) dJ4_append_bf812_2 ⟨Nat.le_of_eq (Nat.zero_add _), Nat.le_of_eq (Nat.zero_add _)⟩) hS (fun q _ h => hFr q h) hFr (fun u a t H1 locs ht hvm hw hB hz hk hS => ?_)
  obtain ⟨v1, ml1, f1⟩ := u
  obtain ⟨ea, hB1, hB2⟩ := hB
  subst ea
  have hP : va_P (dC, dI) vwCl (sbW dA a v1 ml1 (nI (L.length + dgN 8 x)) (sb_cap (L.length + dgN 8 x) n) f1) H1 := by rw [← ht]; exact hB1
  have hD : va_D A (sbW dA a v1 ml1 (nI (L.length + dgN 8 x)) (sb_cap (L.length + dgN 8 x) n) f1) := hB2.weaken (fun k q _ h => hFr q.1 h)
  refine W.widen (k := sb_cap (L.length + dgN 8 x) n - n) (n := 2 * (sb_cap (L.length + dgN 8 x) n - n)) (by omega) (by omega) ?_
  refine lv_pop hx hb dJ4_append_bf812_5 rfl ?_
  refine lv_aload_n hx hb dJ4_append_bf812_6 rfl (lv_at hl 0 rfl) ?_
  exact W.aret hx hb hr (Or.inl ⟨_, rfl⟩) (Or.inr ⟨_, rfl⟩) (fun t ht _ => ⟨⟨(v1, ml1, f1), a, rfl, hw, rfl, by rw [ht]; exact hP, hD⟩, hS.F ht⟩) hS.2.2 dJ4_append_bf812_7
