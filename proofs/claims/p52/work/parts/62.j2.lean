
theorem nar7 {c : Nat} (h : c < 128) : vp_nar .byte (nI c) = nI c := by
  rw [vp_nar_byte]
  exact (by decide +kernel : ∀ c : Fin 128, (nI c.val).toInt8.toInt32 = nI c.val) ⟨c, h⟩
theorem nar7' {c : Nat} (h : c < 128) : (nI c).toInt8.toInt32 = nI c := (vp_nar_byte _).symm.trans (nar7 h)
theorem sbb7 {c : Nat} (h : c < 128) : sb_b c = nI c := nar7' h
theorem fit7 {c : Nat} (h : c < 128) : fits .byte (.int (nI c)) = true := by rw [← nar7' h]; exact pk_fb _
theorem dgO_nar (j : Nat) : vp_nar .byte (dgO j) = dgO j := nar7 (by omega)
theorem dgT_nar {j : Nat} (h : j < 100) : vp_nar .byte (dgT j) = dgT j := nar7 (by omega)
theorem dgO_fit (j : Nat) : fits .byte (.int (dgO j)) = true := fit7 (by omega)
theorem dgT_fit {j : Nat} (h : j < 100) : fits .byte (.int (dgT j)) = true := fit7 (by omega)
theorem ng_T {y : Nat} (h : y < 2 ^ 31) : (-(nI y)).toInt = -(y : Int) := by
  rw [Int32.toInt_neg, nI_toInt h]
  exact Int.bmod_eq_of_le (by omega) (by omega)
theorem ng_div {y : Nat} (h : y < 2 ^ 31) : -(nI y) / 100 = -(nI (y / 100)) := by
  refine Int32.toInt_inj.mp ?_
  rw [Int32.toInt_div_of_ne_right _ _ (by decide), ng_T h, ng_T (by omega), show (100 : Int32).toInt = 100 from rfl, Int.neg_tdiv, Int.ofNat_tdiv]
  rfl
theorem ng_rem {y : Nat} (h : y < 2 ^ 31) : -(nI (y / 100)) * 100 - -(nI y) = nI (y % 100) := by
  have e1 : (-(nI (y / 100)) * 100 : Int32).toInt = -((y / 100 : Nat) : Int) * 100 := by
    rw [Int32.toInt_mul, ng_T (by omega), show (100 : Int32).toInt = 100 from rfl]
    exact Int.bmod_eq_of_le (by omega) (by omega)
  refine Int32.toInt_inj.mp ?_
  rw [Int32.toInt_sub, e1, ng_T h, nI_toInt (by omega), Int.bmod_eq_of_le (by omega) (by omega)]
  omega
theorem ng_ng {y : Nat} (h : y < 2 ^ 31) : -(-(nI y)) = nI y := by
  refine Int32.toInt_inj.mp ?_
  rw [Int32.toInt_neg, ng_T h, nI_toInt h, Int.neg_neg]
  exact Int.bmod_eq_of_le (by omega) (by omega)
theorem nI_m1 {p : Nat} (h : 1 ≤ p) : nI (p - 1) = nI p + (-1) := by
  cases p with
  | zero => exact absurd h (by omega)
  | succ q => exact (pk_m1 q).symm
theorem nI_m2 {p : Nat} (h : 2 ≤ p) : nI (p - 2) = nI (p - 1) + (-1) := by
  have h1 := nI_m1 (p := p - 1) (by omega)
  rwa [show p - 1 - 1 = p - 2 by omega] at h1
/-- Integer.getChars: the digits of y, their last ahead of place p -/
def gcF : Nat → Nat → Nat → (Nat → Int32) → (Nat → Int32)
  | 0, _, _, f => f
  | k + 1, y, p, f => if 100 ≤ y then gcF k (y / 100) (p - 2) (upd (upd f (p - 1) (dgO (y % 100))) (p - 2) (dgT (y % 100))) else if 10 ≤ y then upd (upd f (p - 1) (dgO y)) (p - 2) (dgT y) else upd f (p - 1) (dgO y)
def gcP : Nat → Nat → Nat → Nat
  | 0, _, p => p
  | k + 1, y, p => if 100 ≤ y then gcP k (y / 100) (p - 2) else if 10 ≤ y then p - 2 else p - 1
/-- how many digits -/
def dgN : Nat → Nat → Nat
  | 0, _ => 0
  | k + 1, y => if 10 ≤ y then dgN k (y / 10) + 1 else 1
theorem dgN_2 {k y : Nat} (h : 100 ≤ y) : dgN (k + 2) y = dgN k (y / 100) + 2 := by
  rw [dgN.eq_2, if_pos (by omega), dgN.eq_2, if_pos (by omega), Nat.div_div_eq_div_mul]
theorem gc_fit : ∀ (k y p : Nat) (f : Nat → Int32), sb_Fit f → sb_Fit (gcF k y p f) := by
  intro k
  induction k with
  | zero => intro y p f h; exact h
  | succ k ih =>
    intro y p f h
    rw [gcF.eq_2]
    split
    · exact ih _ _ _ (sb_fitU (sb_fitU h (dgO_fit _)) (dgT_fit (by omega)))
    · split
      · exact sb_fitU (sb_fitU h (dgO_fit _)) (dgT_fit (by omega))
      · exact sb_fitU h (dgO_fit _)
abbrev rmgetC : Room := { frames := 0, cells := 0, slots := 0, locals := 0 }
set_option maxHeartbeats 4000000 in
set_option maxRecDepth 100000 in
theorem tgetC (l : Launch) (dC : Nat → ClassId) (dI : Nat → Nat → Nat) (dA : Nat → ClassId) (d1 d2 : Nat) (sz : Nat) (v n x p0 : Nat) (f : Nat → Int32) (hx0 : x < 10000000) (hp0 : p0 ≤ n) (hn : n ≤ 10000) (hdg : dgN 8 x ≤ p0) : Met l yJ6_getChars_ba4f3 (wq (Cond.code yJ6_getChars_ba4f3 cJ6_getChars_ba4f3 7 (some .int))) rmgetC (gPT d1 d2 [.int (nI x), .int (nI p0), .ref v] (dC, dI) dA [(v, .inl (dA 2, n, .inl f))] sz) (gQi (dC, dI) (nI (gcP 4 x p0)) [(v, .inl (dA 2, n, .inl (gcF 4 x p0 f)))] (va_A [(v, .inl (dA 2, n, .inl f))] sz)) 0 0 (va_A [(v, .inl (dA 2, n, .inl f))] sz) := by
  refine Met.ofW (cc := cJ6_getChars_ba4f3) (maxL := 7) (ret := (some .int)) (by decide) rfl ?_
  intro p e s m args below meth c s₁ B hml hv
  obtain ⟨rfl, hsz, hP, hK, hE, hD0⟩ := hv
  have hx := B.exec
  have hb := B.bytes
  have hr := B.returns
  have hts := atoms_spec (ws := wq (Cond.code yJ6_getChars_ba4f3 cJ6_getChars_ba4f3 7 (some .int))) B.pre
  have hown : s.vm.findClass RJ6 = some m.cls := findClass_of_methodNamed B.named
  have hlocks := B.notSynchronized
  clear B
  subst hsz
  have hD := hD0.self (sz := s.heap.size)
  generalize hAe : va_A [(v, .inl (dA 2, n, .inl f))] s.heap.size = A at hD hE ⊢
  have hA : ∀ q : Nat, s.heap.size ≤ q → A q := fun q h => by rw [← hAe]; exact Or.inr h
  clear hAe hD0
  have hS : va_S A s.heap s.heap [] := va_S.rf
  have hl := lv_entry ([.int (nI x), .int (nI p0), .ref v]) (n := 7) (Nat.le_of_ble_eq_true rfl)
  rw [lg_entry_eq]
  generalize (lg_sl ([.int (nI x), .int (nI p0), .ref v]) ++ List.replicate (7 - (lg_sl ([.int (nI x), .int (nI p0), .ref v])).length) Slot.unset).toArray = ls at hl ⊢
  have hl : lv_has ls 7 [(0, .int (nI x)), (1, .int (nI p0)), (2, .ref v)] := hl
  change W p l e rmgetC s m (([.int (nI x), .int (nI p0), .ref v] : List Value).toArray) below meth c s.heap [] 0 0 _ _
  generalize hQ : MQ below (gQi (dC, dI) (nI (gcP 4 x p0)) [(v, .inl (dA 2, n, .inl (gcF 4 x p0 f)))] A) (([.int (nI x), .int (nI p0), .ref v] : List Value).toArray) s 0 0 A = Q
  have LP : ∀ (k y pz : Nat) (g : Nat → Int32) (H : Heap) (locs : List Loc) (ls : Array Slot), 1 ≤ k → (y < 100 ^ k ∧ y < 10000000) → dgN (2 * k) y ≤ pz → pz ≤ n → va_P (dC, dI) vwCl [(v, .inl (dA 2, n, .inl g))] H → va_D A [(v, .inl (dA 2, n, .inl g))] → va_S A s.heap H locs → lv_has ls 7 [(0, .int (-(nI y))), (2, .ref v), (5, .int (nI pz)), (6, .int 0)] → (∀ (H : Heap) (locs : List Loc) (ls : Array Slot), va_P (dC, dI) vwCl [(v, .inl (dA 2, n, .inl (gcF k y pz g)))] H → va_D A [(v, .inl (dA 2, n, .inl (gcF k y pz g)))] → va_S A s.heap H locs → lv_has ls 7 [(5, .int (nI (gcP k y pz))), (6, .int 0)] → W p l e rmgetC s m (([.int (nI x), .int (nI p0), .ref v] : List Value).toArray) below meth c H locs 0 0 Q (F0 m 104 ls [])) → W p l e rmgetC s m (([.int (nI x), .int (nI p0), .ref v] : List Value).toArray) below meth c H locs 0 0 Q (F0 m 22 ls []) := by
    intro k
    induction k with
    | zero => intro y pz g H locs ls hk0; exact absurd hk0 (by omega)
    | succ k ih =>
      intro y pz g H locs ls hk0 hy0 h1 h2 hP hD hS hl hk
      have hy := hy0.1
      have hy31 : y < 2 ^ 31 := by have := hy0.2; omega
      refine lv_iload_n hx hb dJ6_getChars_ba4f3_22 rfl (lv_at hl 0 rfl) ?_
      refine lv_bipush (v := (-100)) hx hb dJ6_getChars_ba4f3_23 (by decide) ?_
      by_cases hc : 100 ≤ y
      · refine lv_icmp_gt (tgt := 72) hx hb dJ6_getChars_ba4f3_25 (by decide) (fun k9 => absurd (by rw [Int32.lt_iff_toInt_lt, ng_T hy31] at k9; have : (-100 : Int32).toInt = -100 := rfl; omega) (Nat.not_lt.mpr hc)) (fun k9 => ?_)
        have hdn : dgN (2 * k) (y / 100) + 2 ≤ pz := by rw [show 2 * (k + 1) = 2 * k + 2 by omega, dgN_2 hc] at h1; exact h1
        refine lv_iload_n hx hb dJ6_getChars_ba4f3_28 rfl (lv_at hl 0 rfl) ?_
        refine lv_bipush (v := 100) hx hb dJ6_getChars_ba4f3_29 (by decide) ?_
        refine lv_idiv hx hb dJ6_getChars_ba4f3_31 (by decide) ?_
        rw [ng_div hy31]
        refine lv_istore_n (lv' := [(3, .int (-(nI (y / 100)))), (0, .int (-(nI y))), (2, .ref v), (5, .int (nI pz)), (6, .int 0)]) hx hb dJ6_getChars_ba4f3_32 rfl hl (by decide) rfl (fun ls hl => ?_)
        refine lv_iload_n hx hb dJ6_getChars_ba4f3_33 rfl (lv_at hl 0 rfl) ?_
        refine lv_bipush (v := 100) hx hb dJ6_getChars_ba4f3_34 (by decide) ?_
        refine lv_imul hx hb dJ6_getChars_ba4f3_36 ?_
        refine lv_iload_n hx hb dJ6_getChars_ba4f3_37 rfl (lv_at hl 1 rfl) ?_
        refine lv_isub hx hb dJ6_getChars_ba4f3_38 ?_
        rw [ng_rem hy31]
        refine lv_istore (lv' := [(4, .int (nI (y % 100))), (3, .int (-(nI (y / 100)))), (0, .int (-(nI y))), (2, .ref v), (5, .int (nI pz)), (6, .int 0)]) hx hb dJ6_getChars_ba4f3_39 hl (by decide) rfl (fun ls hl => ?_)
        refine lv_iload_n hx hb dJ6_getChars_ba4f3_41 rfl (lv_at hl 1 rfl) ?_
        refine lv_istore_n (lv' := [(0, .int (-(nI (y / 100)))), (4, .int (nI (y % 100))), (3, .int (-(nI (y / 100)))), (2, .ref v), (5, .int (nI pz)), (6, .int 0)]) hx hb dJ6_getChars_ba4f3_42 rfl hl (by decide) rfl (fun ls hl => ?_)
        refine lv_aload_n hx hb dJ6_getChars_ba4f3_43 rfl (lv_at hl 3 rfl) ?_
        refine lv_iinc (v := nI (pz - 1)) (lv' := [(5, .int (nI (pz - 1))), (0, .int (-(nI (y / 100)))), (4, .int (nI (y % 100))), (3, .int (-(nI (y / 100)))), (2, .ref v), (6, .int 0)]) hx hb dJ6_getChars_ba4f3_44 hl (k := 4) rfl (by rw [nI_m1 (show 1 ≤ pz by omega)]; rfl) (by decide) rfl (fun ls hl => ?_)
        refine lv_iload hx hb dJ6_getChars_ba4f3_47 (lv_at hl 0 rfl) ?_
        refine va_gets hx hb hE.2.1 hS hown (hts _ (gw_mem wfJ6_83)) (fun _ h => h) dJ6_getChars_ba4f3_49 ?_
        refine lv_iload hx hb dJ6_getChars_ba4f3_52 (lv_at hl 2 rfl) ?_
        refine va_tb hx hb hE.2.2.1 hS (vp_in_nI (show y % 100 < 100 by omega) (by decide)) (v := .int (dgO (y % 100))) (by rw [nI_clamp (by omega)]) dJ6_getChars_ba4f3_54 ?_
        refine va_bast hx hb hK.1 hP hD hS 0 2 rfl rfl (vp_in_nI (show pz - 1 < n by omega) (by omega)) dJ6_getChars_ba4f3_55 (fun H locs hP hD hS => ?_)
        rw [nI_clamp (show pz - 1 < 2 ^ 31 by omega), dgO_nar] at hP hD
        have hP : va_P (dC, dI) vwCl [(v, .inl (dA 2, n, .inl (upd g (pz - 1) (dgO (y % 100)))))] H := hP
        have hD : va_D A [(v, .inl (dA 2, n, .inl (upd g (pz - 1) (dgO (y % 100)))))] := hD
        refine lv_aload_n hx hb dJ6_getChars_ba4f3_56 rfl (lv_at hl 4 rfl) ?_
        refine lv_iinc (v := nI (pz - 2)) (lv' := [(5, .int (nI (pz - 2))), (0, .int (-(nI (y / 100)))), (4, .int (nI (y % 100))), (3, .int (-(nI (y / 100)))), (2, .ref v), (6, .int 0)]) hx hb dJ6_getChars_ba4f3_57 hl (k := 0) rfl (by rw [nI_m2 (show 2 ≤ pz by omega)]; rfl) (by decide) rfl (fun ls hl => ?_)
        refine lv_iload hx hb dJ6_getChars_ba4f3_60 (lv_at hl 0 rfl) ?_
        refine va_gets hx hb hE.2.2.2.1 hS hown (hts _ (gw_mem wfJ6_87)) (fun _ h => h) dJ6_getChars_ba4f3_62 ?_
        refine lv_iload hx hb dJ6_getChars_ba4f3_65 (lv_at hl 2 rfl) ?_
        refine va_tb hx hb hE.2.2.2.2.1 hS (vp_in_nI (show y % 100 < 100 by omega) (by decide)) (v := .int (dgT (y % 100))) (by rw [nI_clamp (by omega)]) dJ6_getChars_ba4f3_67 ?_
        refine va_bast hx hb hK.1 hP hD hS 0 2 rfl rfl (vp_in_nI (show pz - 2 < n by omega) (by omega)) dJ6_getChars_ba4f3_68 (fun H locs hP hD hS => ?_)
        rw [nI_clamp (show pz - 2 < 2 ^ 31 by omega), dgT_nar (by omega)] at hP hD
        have hP : va_P (dC, dI) vwCl [(v, .inl (dA 2, n, .inl (upd (upd g (pz - 1) (dgO (y % 100))) (pz - 2) (dgT (y % 100)))))] H := hP
        have hD : va_D A [(v, .inl (dA 2, n, .inl (upd (upd g (pz - 1) (dgO (y % 100))) (pz - 2) (dgT (y % 100)))))] := hD
        refine lv_goto (tgt := 22) hx hb dJ6_getChars_ba4f3_69 (by decide) ?_
        rw [gcF.eq_2, if_pos hc, gcP.eq_2, if_pos hc] at hk
        have hk1 : 1 ≤ k := by
          rcases Nat.eq_zero_or_pos k with h | h
          · subst h; omega
          · exact h
        have hyk : y / 100 < 100 ^ k := by
          rw [Nat.pow_succ] at hy
          exact Nat.div_lt_of_lt_mul (by rw [Nat.mul_comm]; exact hy)
        exact ih (y / 100) (pz - 2) _ _ _ _ hk1 ⟨hyk, by have := hy0.2; omega⟩ (by omega) (by omega) hP hD hS (lv_sub hl [1, 4, 0, 5] rfl) hk
      · refine lv_icmp_gt (tgt := 72) hx hb dJ6_getChars_ba4f3_25 (by decide) (fun k9 => ?_) (fun k9 => absurd (by rw [Int32.lt_iff_toInt_lt, ng_T hy31]; have : (-100 : Int32).toInt = -100 := rfl; omega) k9)
        have hp1 : 1 ≤ pz := by
          rw [show 2 * (k + 1) = (2 * k + 1) + 1 by omega, dgN.eq_2] at h1
          split at h1 <;> omega
        refine lv_aload_n hx hb dJ6_getChars_ba4f3_72 rfl (lv_at hl 1 rfl) ?_
        refine lv_iinc (v := nI (pz - 1)) (lv' := [(5, .int (nI (pz - 1))), (0, .int (-(nI y))), (2, .ref v), (6, .int 0)]) hx hb dJ6_getChars_ba4f3_73 hl (k := 2) rfl (by rw [nI_m1 (show 1 ≤ pz by omega)]; rfl) (by decide) rfl (fun ls hl => ?_)
        refine lv_iload hx hb dJ6_getChars_ba4f3_76 (lv_at hl 0 rfl) ?_
        refine va_gets hx hb hE.2.1 hS hown (hts _ (gw_mem wfJ6_83)) (fun _ h => h) dJ6_getChars_ba4f3_78 ?_
        refine lv_iload_n hx hb dJ6_getChars_ba4f3_81 rfl (lv_at hl 1 rfl) ?_
        refine lv_ineg hx hb dJ6_getChars_ba4f3_82 ?_
        rw [ng_ng hy31]
        refine va_tb hx hb hE.2.2.1 hS (vp_in_nI (show y < 100 by omega) (by decide)) (v := .int (dgO y)) (by rw [nI_clamp (by omega)]) dJ6_getChars_ba4f3_83 ?_
        refine va_bast hx hb hK.1 hP hD hS 0 2 rfl rfl (vp_in_nI (show pz - 1 < n by omega) (by omega)) dJ6_getChars_ba4f3_84 (fun H locs hP hD hS => ?_)
        rw [nI_clamp (show pz - 1 < 2 ^ 31 by omega), dgO_nar] at hP hD
        have hP : va_P (dC, dI) vwCl [(v, .inl (dA 2, n, .inl (upd g (pz - 1) (dgO y))))] H := hP
        have hD : va_D A [(v, .inl (dA 2, n, .inl (upd g (pz - 1) (dgO y))))] := hD
        rw [gcF.eq_2, if_neg hc, gcP.eq_2, if_neg hc] at hk
        refine lv_iload_n hx hb dJ6_getChars_ba4f3_85 rfl (lv_at hl 1 rfl) ?_
        refine lv_bipush (v := (-9)) hx hb dJ6_getChars_ba4f3_86 (by decide) ?_
        by_cases h10 : 10 ≤ y
        · refine lv_icmp_ge (tgt := 104) hx hb dJ6_getChars_ba4f3_88 (by decide) (fun k9 => absurd (by rw [Int32.le_iff_toInt_le, ng_T hy31] at k9; have : (-9 : Int32).toInt = -9 := rfl; omega) (Nat.not_lt.mpr h10)) (fun k9 => ?_)
          rw [if_pos h10, if_pos h10] at hk
          have hp2 : 2 ≤ pz := by
            rw [show 2 * (k + 1) = (2 * k + 1) + 1 by omega, dgN.eq_2, if_pos h10, dgN.eq_2] at h1
            split at h1 <;> omega
          refine lv_aload_n hx hb dJ6_getChars_ba4f3_91 rfl (lv_at hl 2 rfl) ?_
          refine lv_iinc (v := nI (pz - 2)) (lv' := [(5, .int (nI (pz - 2))), (0, .int (-(nI y))), (2, .ref v), (6, .int 0)]) hx hb dJ6_getChars_ba4f3_92 hl (k := 0) rfl (by rw [nI_m2 (show 2 ≤ pz by omega)]; rfl) (by decide) rfl (fun ls hl => ?_)
          refine lv_iload hx hb dJ6_getChars_ba4f3_95 (lv_at hl 0 rfl) ?_
          refine va_gets hx hb hE.2.2.2.1 hS hown (hts _ (gw_mem wfJ6_87)) (fun _ h => h) dJ6_getChars_ba4f3_97 ?_
          refine lv_iload_n hx hb dJ6_getChars_ba4f3_100 rfl (lv_at hl 1 rfl) ?_
          refine lv_ineg hx hb dJ6_getChars_ba4f3_101 ?_
          rw [ng_ng hy31]
          refine va_tb hx hb hE.2.2.2.2.1 hS (vp_in_nI (show y < 100 by omega) (by decide)) (v := .int (dgT y)) (by rw [nI_clamp (by omega)]) dJ6_getChars_ba4f3_102 ?_
          refine va_bast hx hb hK.1 hP hD hS 0 2 rfl rfl (vp_in_nI (show pz - 2 < n by omega) (by omega)) dJ6_getChars_ba4f3_103 (fun H locs hP hD hS => ?_)
          rw [nI_clamp (show pz - 2 < 2 ^ 31 by omega), dgT_nar (by omega)] at hP hD
          exact hk _ _ _ hP hD hS (lv_sub hl [0, 3] rfl)
        · refine lv_icmp_ge (tgt := 104) hx hb dJ6_getChars_ba4f3_88 (by decide) (fun k9 => ?_) (fun k9 => absurd (by rw [Int32.le_iff_toInt_le, ng_T hy31]; have : (-9 : Int32).toInt = -9 := rfl; omega) k9)
          rw [if_neg h10, if_neg h10] at hk
          exact hk _ _ _ hP hD hS (lv_sub hl [0, 3] rfl)
  subst hQ
  refine lv_iload_n hx hb dJ6_getChars_ba4f3_0 rfl (lv_at hl 1 rfl) ?_
  refine lv_istore (lv' := [(5, .int (nI p0)), (0, .int (nI x)), (1, .int (nI p0)), (2, .ref v)]) hx hb dJ6_getChars_ba4f3_1 hl (by decide) rfl (fun ls hl => ?_)
  refine lv_iload_n hx hb dJ6_getChars_ba4f3_3 rfl (lv_at hl 1 rfl) ?_
  refine lv_if_ge (tgt := 11) hx hb dJ6_getChars_ba4f3_4 (by decide) (fun k9 => ?_) (fun k9 => absurd (nI_pos' (by omega)) k9)
  refine lv_iconst (v := 0) hx hb dJ6_getChars_ba4f3_11 (by decide) ?_
  refine lv_istore (lv' := [(6, .int 0), (5, .int (nI p0)), (0, .int (nI x)), (1, .int (nI p0)), (2, .ref v)]) hx hb dJ6_getChars_ba4f3_12 hl (by decide) rfl (fun ls hl => ?_)
  refine lv_iload hx hb dJ6_getChars_ba4f3_14 (lv_at hl 0 rfl) ?_
  refine lv_if_ne (tgt := 22) hx hb dJ6_getChars_ba4f3_16 (by decide) (fun k9 => absurd k9 (by decide)) (fun k9 => ?_)
  refine lv_iload_n hx hb dJ6_getChars_ba4f3_19 rfl (lv_at hl 2 rfl) ?_
  refine lv_ineg hx hb dJ6_getChars_ba4f3_20 ?_
  refine lv_istore_n (lv' := [(0, .int (-(nI x))), (6, .int 0), (5, .int (nI p0)), (1, .int (nI p0)), (2, .ref v)]) hx hb dJ6_getChars_ba4f3_21 rfl hl (by decide) rfl (fun ls hl => ?_)
  refine LP 4 x p0 f _ _ _ (by omega) ⟨by omega, hx0⟩ hdg hp0 hP hD hS (lv_sub hl [0, 4, 2, 1] rfl) (fun H locs ls hP hD hS hl => ?_)
  refine lv_iload hx hb dJ6_getChars_ba4f3_104 (lv_at hl 1 rfl) ?_
  refine lv_if_eq (tgt := 118) hx hb dJ6_getChars_ba4f3_106 (by decide) (fun k9 => ?_) (fun k9 => absurd rfl k9)
  refine lv_iload hx hb dJ6_getChars_ba4f3_118 (lv_at hl 0 rfl) ?_
  exact W.iret hx hb hr (fun t ht _ => gqi hP hD hS ht) hS.2.2 dJ6_getChars_ba4f3_120
