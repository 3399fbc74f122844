
/-- a number of the TERMS -/
def nv (t : Nat → Int32) (i : Nat) : Nat := (t i).toNatClampNeg
theorem nv_eq {t : Nat → Int32} {i : Nat} (h : ¬ t i < 0) : t i = nI (nv t i) := by
  obtain ⟨j, hj, e⟩ := nI_of h
  unfold nv
  rw [e, nI_clamp hj]
/-- the TERMS are such as the class keeps them -/
def wHyp (t : Nat → Int32) : Prop := (∀ i, i < 8 → ¬ t i < 0) ∧ nv t 0 < 10000000 ∧ nv t 1 < 10000 ∧ nv t 2 < 10 ∧ nv t 3 < 10 ∧ nv t 4 < 10 ∧ nv t 5 < 10 ∧ nv t 6 < 10000000 ∧ nv t 7 < 10 ∧ (∀ d, 1 ≤ d → d ≤ 6 → nv t (10 + d) < 10000) ∧ (∀ d, d < 6 → nv t (20 + d) < 10000000) ∧ (∀ d, d < 6 → nv t (30 + d) < 10000000)
/-- the CLAUSES of the DAYS from d on, j of them -/
def dyT (t : Nat → Int32) (base ch : Nat) (th : Int32) : Nat → Nat → List Nat
  | 0, _ => []
  | j + 1, d => (if t (base + d) < th then [] else wdT ch d (nv t (base + d))) ++ dyT t base ch th j (d + 1)
def wrT (t : Nat → Int32) : List Nat := [] ++ [102] ++ dgs 8 (nv t 0) ++ [110] ++ dgs 8 (nv t 1) ++ dyT t 10 99 1 6 1 ++ dyT t 20 107 0 6 0 ++ dyT t 30 112 0 6 0 ++ [119] ++ dgs 8 (nv t 2) ++ [45] ++ dgs 8 (nv t 3) ++ [115] ++ dgs 8 (nv t 4) ++ [47] ++ dgs 8 (nv t 5) ++ [47] ++ dgs 8 (nv t 6) ++ [122] ++ dgs 8 (nv t 7)
theorem dyT_len (t : Nat → Int32) (base ch : Nat) (th : Int32) (K : Nat) : ∀ (j d : Nat), d + j ≤ 10 → (∀ e, d ≤ e → e < d + j → dgN 8 (nv t (base + e)) ≤ K) → (dyT t base ch th j d).length ≤ (3 + K) * j := by
  intro j
  induction j with
  | zero => intro d _ _; exact Nat.zero_le _
  | succ j ih =>
    intro d hd h
    rw [dyT.eq_2, List.length_append]
    have h1 := ih (d + 1) (by omega) (fun e he he2 => h e (by omega) (by omega))
    have h2 := h d (Nat.le_refl d) (by omega)
    have h3 := dgN_lt 1 8 d (by omega) (Nat.le_refl 1)
    have h4 : (if t (base + d) < th then [] else wdT ch d (nv t (base + d))).length ≤ 3 + K := by
      split
      · exact Nat.zero_le _
      · rw [wdT_len]; omega
    rw [Nat.mul_succ]
    omega
theorem lt1_le0 {x : Int32} : x < 1 ↔ x ≤ 0 := by
  rw [Int32.lt_iff_toInt_lt, Int32.le_iff_toInt_le, Int32.toInt_zero, show (1 : Int32).toInt = 1 from rfl]
  omega
abbrev rmwr (mc ms : Nat) : Room := { frames := 7, cells := mc, slots := ms, locals := 171 }
set_option maxHeartbeats 8000000 in
set_option maxRecDepth 100000 in
theorem twrite (l : Launch) (dC : Nat → ClassId) (dI : Nat → Nat → Nat) (dA : Nat → ClassId) (d1 d2 : Nat) (sz : Nat) (ad : Nat → Nat) (b v : Nat) (ml : Int32) (n : Nat) (f : Nat → Int32) (t : Nat → Int32) (hT : wHyp t) (hH : sbH [] n f) (hn3 : n ≤ 402) : Met l yX0_write (wq (Cond.code yX0_write cX0_write 3 none)) (rmwr (402 - n) (2 * (402 - n))) (gPT d1 d2 [.ref (ad 0), .ref b] (dC, dI) dA ((wX0 dA ad t) ++ (sbW dA b v ml 0 n f)) sz) (va_Qv (fun (u : Nat × Int32 × Nat × (Nat → Int32)) => sbH (wrT t) u.2.2.1 u.2.2.2 ∧ u.2.2.1 ≤ 402 ∧ n ≤ u.2.2.1) (fun (u : Nat × Int32 × Nat × (Nat → Int32)) st => va_P (dC, dI) vwCl ((wX0 dA ad t) ++ sbW dA b u.1 u.2.1 (nI (wrT t).length) u.2.2.1 u.2.2.2) st.heap ∧ va_D (va_A ((wX0 dA ad t) ++ (sbW dA b v ml 0 n f)) sz) ((wX0 dA ad t) ++ sbW dA b u.1 u.2.1 (nI (wrT t).length) u.2.2.1 u.2.2.2)) (va_A ((wX0 dA ad t) ++ (sbW dA b v ml 0 n f)) sz)) (402 - n) (2 * (402 - n)) (va_A ((wX0 dA ad t) ++ (sbW dA b v ml 0 n f)) sz) := by
  refine Met.ofW (cc := cX0_write) (maxL := 3) (ret := none) (by decide) rfl ?_
  intro p e s m args below meth c s₁ B hml hv
  obtain ⟨rfl, hsz, hP, hK, hE, hD0⟩ := hv
  have hx := B.exec
  have hb := B.bytes
  have hr := B.returns
  have hts := atoms_spec (ws := wq (Cond.code yX0_write cX0_write 3 none)) B.pre
  have hown : s.vm.findClass RX0 = some m.cls := findClass_of_methodNamed B.named
  have hlocks := B.notSynchronized
  clear B
  subst hsz
  have hD := hD0.self (sz := s.heap.size)
  generalize hAe : va_A ((wX0 dA ad t) ++ (sbW dA b v ml 0 n f)) s.heap.size = A at hD hE ⊢
  have hA : ∀ q : Nat, s.heap.size ≤ q → A q := fun q h => by rw [← hAe]; exact Or.inr h
  clear hAe hD0
  have hS : va_S A s.heap s.heap [] := va_S.rf
  have hl := lv_entry ([.ref (ad 0), .ref b]) (n := 3) (Nat.le_of_ble_eq_true rfl)
  rw [lg_entry_eq]
  generalize (lg_sl ([.ref (ad 0), .ref b]) ++ List.replicate (3 - (lg_sl ([.ref (ad 0), .ref b])).length) Slot.unset).toArray = ls at hl ⊢
  have hl : lv_has ls 3 [(0, .ref (ad 0)), (1, .ref b)] := hl
  have S : CallFix p m c cX0_write 3 s (([.ref (ad 0), .ref b] : List Value).toArray) (wq (Cond.code yX0_write cX0_write 3 none)) RX0 := ⟨hx, hb, hml, hown, hts⟩
  obtain ⟨hT8, hT0, hT1, hT2, hT3, hT4, hT5, hT6, hT7, hTc, hTk, hTp⟩ := hT
  have g0 := dgN_lt 7 8 (nv t 0) (by omega) (by omega)
  have g1 := dgN_lt 4 8 (nv t 1) (by omega) (by omega)
  have g2 := dgN_lt 1 8 (nv t 2) (by omega) (by omega)
  have g3 := dgN_lt 1 8 (nv t 3) (by omega) (by omega)
  have g4 := dgN_lt 1 8 (nv t 4) (by omega) (by omega)
  have g5 := dgN_lt 1 8 (nv t 5) (by omega) (by omega)
  have g6 := dgN_lt 7 8 (nv t 6) (by omega) (by omega)
  have g7 := dgN_lt 1 8 (nv t 7) (by omega) (by omega)
  change W p l e (rmwr (402 - n) (2 * (402 - n))) s m (([.ref (ad 0), .ref b] : List Value).toArray) below meth c s.heap [] 0 0 _ _
  obtain ⟨n0, hn0⟩ : ∃ z, z = n := ⟨_, rfl⟩
  rw [← hn0]
  generalize hQ : MQ below (va_Qv (fun (u : Nat × Int32 × Nat × (Nat → Int32)) => sbH (wrT t) u.2.2.1 u.2.2.2 ∧ u.2.2.1 ≤ 402 ∧ n0 ≤ u.2.2.1) (fun (u : Nat × Int32 × Nat × (Nat → Int32)) st => va_P (dC, dI) vwCl ((wX0 dA ad t) ++ sbW dA b u.1 u.2.1 (nI (wrT t).length) u.2.2.1 u.2.2.2) st.heap ∧ va_D A ((wX0 dA ad t) ++ sbW dA b u.1 u.2.1 (nI (wrT t).length) u.2.2.1 u.2.2.2)) A) (([.ref (ad 0), .ref b] : List Value).toArray) s (402 - n0) (2 * (402 - n0)) A = Q
  have LP32 : ∀ (j d : Nat) (L : List Nat) (n v : Nat) (ml : Int32) (f : Nat → Int32) (H : Heap) (locs : List Loc) (ls : Array Slot), d + j = 7 → 1 ≤ d → sbH L n f → n0 ≤ n → n ≤ 402 → L.length + 7 * j ≤ 200 → va_P (dC, dI) vwCl ((wX0 dA ad t) ++ (sbW dA b v ml (nI L.length) n f)) H → va_D A ((wX0 dA ad t) ++ (sbW dA b v ml (nI L.length) n f)) → va_S A s.heap H locs → lv_has ls 3 [(0, .ref (ad 0)), (1, .ref b), (2, .int (nI d))] → (∀ (H : Heap) (locs : List Loc) (ls : Array Slot) (n' v' : Nat) (ml' : Int32) (f' : Nat → Int32), sbH (L ++ dyT t 10 99 1 j d) n' f' → n0 ≤ n' → n' ≤ 402 → va_P (dC, dI) vwCl ((wX0 dA ad t) ++ (sbW dA b v' ml' (nI (L ++ dyT t 10 99 1 j d).length) n' f')) H → va_D A ((wX0 dA ad t) ++ (sbW dA b v' ml' (nI (L ++ dyT t 10 99 1 j d).length) n' f')) → va_S A s.heap H locs → lv_has ls 3 [(0, .ref (ad 0)), (1, .ref b)] → W p l e (rmwr (402 - n0) (2 * (402 - n0))) s m (([.ref (ad 0), .ref b] : List Value).toArray) below meth c H locs (n' - n0) (2 * (n' - n0)) Q (F0 m 72 ls [])) → W p l e (rmwr (402 - n0) (2 * (402 - n0))) s m (([.ref (ad 0), .ref b] : List Value).toArray) below meth c H locs (n - n0) (2 * (n - n0)) Q (F0 m 32 ls []) := by
    intro j
    induction j with
    | zero =>
      intro d L n v ml f H locs ls hd hlo hH hn hn4 hL hP hD hS hl hk
      have hd7 : d = 7 := by omega
      refine lv_iload_n hx hb dX0_write_32 rfl (lv_at hl 2 rfl) ?_
      refine lv_bipush (v := 6) hx hb dX0_write_33 (by decide) ?_
      refine lv_icmp_gt (tgt := 72) hx hb dX0_write_35 (by decide) (fun k9 => ?_) (fun k9 => absurd (by rw [hd7]; decide) k9)
      rw [dyT.eq_1, List.append_nil] at hk
      exact hk _ _ _ _ _ _ _ hH hn hn4 hP hD hS (lv_sub hl [0, 1] rfl)
    | succ j ih =>
      intro d L n v ml f H locs ls hd hlo hH hn hn4 hL hP hD hS hl hk
      refine lv_iload_n hx hb dX0_write_32 rfl (lv_at hl 2 rfl) ?_
      refine lv_bipush (v := 6) hx hb dX0_write_33 (by decide) ?_
      refine lv_icmp_gt (tgt := 72) hx hb dX0_write_35 (by decide) (fun k9 => absurd k9 (show ¬ (6 : Int32) < nI d from nI_nlt (a := 6) (by omega) (by omega))) (fun k9 => ?_)
      refine lv_aload_n hx hb dX0_write_38 rfl (lv_at hl 0 rfl) ?_
      refine va_get (D := (dC, dI)) (ci := 1) (v := .ref (ad 1)) (C := RX0) (T := TX0) (N := 1) hx hb hts (fun w h => gw_mem (inX0 w h)) hown hK.1 hP 0 rfl rfl 0 (by decide) (hts _ (gw_mem wfX0_11)) (fun _ h9 => h9) rfl dX0_write_39 ?_
      refine lv_bipush (v := 10) hx hb dX0_write_42 (by decide) ?_
      refine lv_iload_n hx hb dX0_write_44 rfl (lv_at hl 2 rfl) ?_
      refine lv_iadd hx hb dX0_write_45 ?_
      rw [show (10 : Int32) + nI d = nI (10 + d) from nI_add 10 d]
      refine va_iald hx hb hK.1 hP 1 0 rfl rfl (vp_in_nI (show 10 + d < 36 by omega) (by decide)) dX0_write_46 ?_
      rw [nI_clamp (show 10 + d < 2 ^ 31 by omega)]
      rw [dyT.eq_2] at hk
      by_cases hc : t (10 + d) < 1
      · refine lv_if_le (tgt := 66) hx hb dX0_write_47 (by decide) (fun k9 => ?_) (fun k9 => absurd (lt1_le0.mp hc) k9)
        rw [if_pos hc, List.nil_append] at hk
        refine lv_iinc (v := nI (d + 1)) (lv' := [(2, .int (nI (d + 1))), (0, .ref (ad 0)), (1, .ref b)]) hx hb dX0_write_66 hl (k := 2) rfl (by rw [← nI_1]; rfl) (by decide) rfl (fun ls hl => ?_)
        refine lv_goto (tgt := 32) hx hb dX0_write_69 (by decide) ?_
        exact ih (d + 1) L n v ml f _ _ _ (by omega) (by omega) hH hn hn4 (by omega) hP hD hS (lv_sub hl [1, 2, 0] rfl) hk
      · refine lv_if_le (tgt := 66) hx hb dX0_write_47 (by decide) (fun k9 => absurd (lt1_le0.mpr k9) hc) (fun k9 => ?_)
        rw [if_neg hc] at hk
        have hpos : ¬ t (10 + d) < 0 := fun h => hc (by rw [Int32.lt_iff_toInt_lt] at h ⊢; rw [show (1 : Int32).toInt = 1 from rfl]; rw [Int32.toInt_zero] at h; omega)
        have hvx := hTc d (by omega) (by omega)
        have gx := dgN_lt 4 8 (nv t (10 + d)) (by omega) (by omega)
        have gd := dgN_lt 1 8 d (by omega) (by omega)
        have hlw := wdT_len 99 d (nv t (10 + d))
        refine lv_aload_n hx hb dX0_write_50 rfl (lv_at hl 1 rfl) ?_
        refine lv_bipush (v := 99) hx hb dX0_write_51 (by decide) ?_
        refine lv_iload_n hx hb dX0_write_53 rfl (lv_at hl 2 rfl) ?_
        refine lv_aload_n hx hb dX0_write_54 rfl (lv_at hl 0 rfl) ?_
        refine va_get (D := (dC, dI)) (ci := 1) (v := .ref (ad 1)) (C := RX0) (T := TX0) (N := 1) hx hb hts (fun w h => gw_mem (inX0 w h)) hown hK.1 hP 0 rfl rfl 0 (by decide) (hts _ (gw_mem wfX0_11)) (fun _ h9 => h9) rfl dX0_write_55 ?_
        refine lv_bipush (v := 10) hx hb dX0_write_58 (by decide) ?_
        refine lv_iload_n hx hb dX0_write_60 rfl (lv_at hl 2 rfl) ?_
        refine lv_iadd hx hb dX0_write_61 ?_
        rw [show (10 : Int32) + nI d = nI (10 + d) from nI_add 10 d]
        refine va_iald hx hb hK.1 hP 1 0 rfl rfl (vp_in_nI (show 10 + d < 36 by omega) (by decide)) dX0_write_62 ?_
        rw [nI_clamp (show 10 + d < 2 ^ 31 by omega), nv_eq hpos]
        have hp : ((wX0 dA ad t) ++ (sbW dA b v ml (nI L.length) n f)).Perm ((sbW dA b v ml (nI L.length) n f) ++ (wX0 dA ad t)) := List.perm_append_comm
        have hFr := pfree hp hD hS hA
        have hge : n ≤ wdN n L.length d (nv t (10 + d)) := Nat.le_trans (Nat.le_trans (Nat.le_trans (cap_ge _ n) (cap_ge _ _)) (cap_ge _ _)) (cap_ge _ _)
        have hle : wdN n L.length d (nv t (10 + d)) ≤ 402 := cap_le (by omega) (cap_le (by omega) (cap_le (by omega) (cap_le (by omega) hn4)))
        refine va_callv (va_runS (As := [.ref b, .int (nI 99), .int (nI d), .int (nI (nv t (10 + d)))]) (rest := []) S (twod l dC dI dA d1 d2 H.size b v ml n f L 99 d (nv t (10 + d)) hH hn4 (by omega) (by omega) (by omega) (by omega)) (gCS 4 hts wcX0_writeOfDay wmX0_61 wtX0_writeOfDay wnX0 (by decide +kernel) rfl rfl ⟨Nat.le_of_ble_eq_true rfl, Nat.le_of_ble_eq_true rfl⟩) (gPreST hE hS hA (psub hp hP) hK (psubD hp hD)) rfl rfl hl.1 rfl (lv_room (Nat.le_of_ble_eq_true rfl)) dX0_write_63 ⟨by show _ ≤ 402 - n0; omega, by show _ ≤ 2 * (402 - n0); omega⟩) hS (fun q _ h => hFr q h) hFr (fun u st H1 locs1 ht hvm hw hB hz hk1 hS1 => ?_)
        obtain ⟨v1, ml1, f1⟩ := u
        obtain ⟨hP1, hD1⟩ := pjoin (w1 := (sbW dA b v1 ml1 (nI (L ++ wdT 99 d (nv t (10 + d))).length) (wdN n L.length d (nv t (10 + d))) f1)) (wf := ((wX0 dA ad t) ++ (sbW dA b v1 ml1 (nI (L ++ wdT 99 d (nv t (10 + d))).length) (wdN n L.length d (nv t (10 + d))) f1))) hp List.perm_append_comm hP hD hS hA hk1 (by rw [← ht]; exact hB.1) hB.2
        refine W.widen (k := wdN n L.length d (nv t (10 + d)) - n0) (n := 2 * (wdN n L.length d (nv t (10 + d)) - n0)) (by omega) (by omega) ?_
        have hw : sbH (L ++ wdT 99 d (nv t (10 + d))) (wdN n L.length d (nv t (10 + d))) f1 := hw
        generalize wdN n L.length d (nv t (10 + d)) = n1 at hw hP1 hD1 hge hle ⊢
        have hl1 : (L ++ wdT 99 d (nv t (10 + d))).length = L.length + (wdT 99 d (nv t (10 + d))).length := List.length_append
        rw [← List.append_assoc] at hk
        refine lv_iinc (v := nI (d + 1)) (lv' := [(2, .int (nI (d + 1))), (0, .ref (ad 0)), (1, .ref b)]) hx hb dX0_write_66 hl (k := 2) rfl (by rw [← nI_1]; rfl) (by decide) rfl (fun ls hl => ?_)
        refine lv_goto (tgt := 32) hx hb dX0_write_69 (by decide) ?_
        exact ih (d + 1) _ n1 v1 ml1 f1 _ _ _ (by omega) (by omega) hw (by omega) hle (by omega) hP1 hD1 hS1 (lv_sub hl [1, 2, 0] rfl) hk
  have LP74 : ∀ (j d : Nat) (L : List Nat) (n v : Nat) (ml : Int32) (f : Nat → Int32) (H : Heap) (locs : List Loc) (ls : Array Slot), d + j = 6 → 0 ≤ d → sbH L n f → n0 ≤ n → n ≤ 402 → L.length + 10 * j ≤ 200 → va_P (dC, dI) vwCl ((wX0 dA ad t) ++ (sbW dA b v ml (nI L.length) n f)) H → va_D A ((wX0 dA ad t) ++ (sbW dA b v ml (nI L.length) n f)) → va_S A s.heap H locs → lv_has ls 3 [(0, .ref (ad 0)), (1, .ref b), (2, .int (nI d))] → (∀ (H : Heap) (locs : List Loc) (ls : Array Slot) (n' v' : Nat) (ml' : Int32) (f' : Nat → Int32), sbH (L ++ dyT t 20 107 0 j d) n' f' → n0 ≤ n' → n' ≤ 402 → va_P (dC, dI) vwCl ((wX0 dA ad t) ++ (sbW dA b v' ml' (nI (L ++ dyT t 20 107 0 j d).length) n' f')) H → va_D A ((wX0 dA ad t) ++ (sbW dA b v' ml' (nI (L ++ dyT t 20 107 0 j d).length) n' f')) → va_S A s.heap H locs → lv_has ls 3 [(0, .ref (ad 0)), (1, .ref b)] → W p l e (rmwr (402 - n0) (2 * (402 - n0))) s m (([.ref (ad 0), .ref b] : List Value).toArray) below meth c H locs (n' - n0) (2 * (n' - n0)) Q (F0 m 114 ls [])) → W p l e (rmwr (402 - n0) (2 * (402 - n0))) s m (([.ref (ad 0), .ref b] : List Value).toArray) below meth c H locs (n - n0) (2 * (n - n0)) Q (F0 m 74 ls []) := by
    intro j
    induction j with
    | zero =>
      intro d L n v ml f H locs ls hd hlo hH hn hn4 hL hP hD hS hl hk
      have hd7 : d = 6 := by omega
      refine lv_iload_n hx hb dX0_write_74 rfl (lv_at hl 2 rfl) ?_
      refine lv_bipush (v := 6) hx hb dX0_write_75 (by decide) ?_
      refine lv_icmp_ge (tgt := 114) hx hb dX0_write_77 (by decide) (fun k9 => ?_) (fun k9 => absurd (by rw [hd7]; decide) k9)
      rw [dyT.eq_1, List.append_nil] at hk
      exact hk _ _ _ _ _ _ _ hH hn hn4 hP hD hS (lv_sub hl [0, 1] rfl)
    | succ j ih =>
      intro d L n v ml f H locs ls hd hlo hH hn hn4 hL hP hD hS hl hk
      refine lv_iload_n hx hb dX0_write_74 rfl (lv_at hl 2 rfl) ?_
      refine lv_bipush (v := 6) hx hb dX0_write_75 (by decide) ?_
      refine lv_icmp_ge (tgt := 114) hx hb dX0_write_77 (by decide) (fun k9 => absurd k9 (show ¬ (6 : Int32) ≤ nI d from nI_ge (b := 6) (by omega) (by omega))) (fun k9 => ?_)
      refine lv_aload_n hx hb dX0_write_80 rfl (lv_at hl 0 rfl) ?_
      refine va_get (D := (dC, dI)) (ci := 1) (v := .ref (ad 1)) (C := RX0) (T := TX0) (N := 1) hx hb hts (fun w h => gw_mem (inX0 w h)) hown hK.1 hP 0 rfl rfl 0 (by decide) (hts _ (gw_mem wfX0_11)) (fun _ h9 => h9) rfl dX0_write_81 ?_
      refine lv_bipush (v := 20) hx hb dX0_write_84 (by decide) ?_
      refine lv_iload_n hx hb dX0_write_86 rfl (lv_at hl 2 rfl) ?_
      refine lv_iadd hx hb dX0_write_87 ?_
      rw [show (20 : Int32) + nI d = nI (20 + d) from nI_add 20 d]
      refine va_iald hx hb hK.1 hP 1 0 rfl rfl (vp_in_nI (show 20 + d < 36 by omega) (by decide)) dX0_write_88 ?_
      rw [nI_clamp (show 20 + d < 2 ^ 31 by omega)]
      rw [dyT.eq_2] at hk
      by_cases hc : t (20 + d) < 0
      · refine lv_if_lt (tgt := 108) hx hb dX0_write_89 (by decide) (fun k9 => ?_) (fun k9 => absurd hc k9)
        rw [if_pos hc, List.nil_append] at hk
        refine lv_iinc (v := nI (d + 1)) (lv' := [(2, .int (nI (d + 1))), (0, .ref (ad 0)), (1, .ref b)]) hx hb dX0_write_108 hl (k := 2) rfl (by rw [← nI_1]; rfl) (by decide) rfl (fun ls hl => ?_)
        refine lv_goto (tgt := 74) hx hb dX0_write_111 (by decide) ?_
        exact ih (d + 1) L n v ml f _ _ _ (by omega) (by omega) hH hn hn4 (by omega) hP hD hS (lv_sub hl [1, 2, 0] rfl) hk
      · refine lv_if_lt (tgt := 108) hx hb dX0_write_89 (by decide) (fun k9 => absurd k9 hc) (fun k9 => ?_)
        rw [if_neg hc] at hk
        have hpos : ¬ t (20 + d) < 0 := hc
        have hvx := hTk d (by omega)
        have gx := dgN_lt 7 8 (nv t (20 + d)) (by omega) (by omega)
        have gd := dgN_lt 1 8 d (by omega) (by omega)
        have hlw := wdT_len 107 d (nv t (20 + d))
        refine lv_aload_n hx hb dX0_write_92 rfl (lv_at hl 1 rfl) ?_
        refine lv_bipush (v := 107) hx hb dX0_write_93 (by decide) ?_
        refine lv_iload_n hx hb dX0_write_95 rfl (lv_at hl 2 rfl) ?_
        refine lv_aload_n hx hb dX0_write_96 rfl (lv_at hl 0 rfl) ?_
        refine va_get (D := (dC, dI)) (ci := 1) (v := .ref (ad 1)) (C := RX0) (T := TX0) (N := 1) hx hb hts (fun w h => gw_mem (inX0 w h)) hown hK.1 hP 0 rfl rfl 0 (by decide) (hts _ (gw_mem wfX0_11)) (fun _ h9 => h9) rfl dX0_write_97 ?_
        refine lv_bipush (v := 20) hx hb dX0_write_100 (by decide) ?_
        refine lv_iload_n hx hb dX0_write_102 rfl (lv_at hl 2 rfl) ?_
        refine lv_iadd hx hb dX0_write_103 ?_
        rw [show (20 : Int32) + nI d = nI (20 + d) from nI_add 20 d]
        refine va_iald hx hb hK.1 hP 1 0 rfl rfl (vp_in_nI (show 20 + d < 36 by omega) (by decide)) dX0_write_104 ?_
        rw [nI_clamp (show 20 + d < 2 ^ 31 by omega), nv_eq hpos]
        have hp : ((wX0 dA ad t) ++ (sbW dA b v ml (nI L.length) n f)).Perm ((sbW dA b v ml (nI L.length) n f) ++ (wX0 dA ad t)) := List.perm_append_comm
        have hFr := pfree hp hD hS hA
        have hge : n ≤ wdN n L.length d (nv t (20 + d)) := Nat.le_trans (Nat.le_trans (Nat.le_trans (cap_ge _ n) (cap_ge _ _)) (cap_ge _ _)) (cap_ge _ _)
        have hle : wdN n L.length d (nv t (20 + d)) ≤ 402 := cap_le (by omega) (cap_le (by omega) (cap_le (by omega) (cap_le (by omega) hn4)))
        refine va_callv (va_runS (As := [.ref b, .int (nI 107), .int (nI d), .int (nI (nv t (20 + d)))]) (rest := []) S (twod l dC dI dA d1 d2 H.size b v ml n f L 107 d (nv t (20 + d)) hH hn4 (by omega) (by omega) (by omega) (by omega)) (gCS 4 hts wcX0_writeOfDay wmX0_61 wtX0_writeOfDay wnX0 (by decide +kernel) rfl rfl ⟨Nat.le_of_ble_eq_true rfl, Nat.le_of_ble_eq_true rfl⟩) (gPreST hE hS hA (psub hp hP) hK (psubD hp hD)) rfl rfl hl.1 rfl (lv_room (Nat.le_of_ble_eq_true rfl)) dX0_write_105 ⟨by show _ ≤ 402 - n0; omega, by show _ ≤ 2 * (402 - n0); omega⟩) hS (fun q _ h => hFr q h) hFr (fun u st H1 locs1 ht hvm hw hB hz hk1 hS1 => ?_)
        obtain ⟨v1, ml1, f1⟩ := u
        obtain ⟨hP1, hD1⟩ := pjoin (w1 := (sbW dA b v1 ml1 (nI (L ++ wdT 107 d (nv t (20 + d))).length) (wdN n L.length d (nv t (20 + d))) f1)) (wf := ((wX0 dA ad t) ++ (sbW dA b v1 ml1 (nI (L ++ wdT 107 d (nv t (20 + d))).length) (wdN n L.length d (nv t (20 + d))) f1))) hp List.perm_append_comm hP hD hS hA hk1 (by rw [← ht]; exact hB.1) hB.2
        refine W.widen (k := wdN n L.length d (nv t (20 + d)) - n0) (n := 2 * (wdN n L.length d (nv t (20 + d)) - n0)) (by omega) (by omega) ?_
        have hw : sbH (L ++ wdT 107 d (nv t (20 + d))) (wdN n L.length d (nv t (20 + d))) f1 := hw
        generalize wdN n L.length d (nv t (20 + d)) = n1 at hw hP1 hD1 hge hle ⊢
        have hl1 : (L ++ wdT 107 d (nv t (20 + d))).length = L.length + (wdT 107 d (nv t (20 + d))).length := List.length_append
        rw [← List.append_assoc] at hk
        refine lv_iinc (v := nI (d + 1)) (lv' := [(2, .int (nI (d + 1))), (0, .ref (ad 0)), (1, .ref b)]) hx hb dX0_write_108 hl (k := 2) rfl (by rw [← nI_1]; rfl) (by decide) rfl (fun ls hl => ?_)
        refine lv_goto (tgt := 74) hx hb dX0_write_111 (by decide) ?_
        exact ih (d + 1) _ n1 v1 ml1 f1 _ _ _ (by omega) (by omega) hw (by omega) hle (by omega) hP1 hD1 hS1 (lv_sub hl [1, 2, 0] rfl) hk
  have LP116 : ∀ (j d : Nat) (L : List Nat) (n v : Nat) (ml : Int32) (f : Nat → Int32) (H : Heap) (locs : List Loc) (ls : Array Slot), d + j = 6 → 0 ≤ d → sbH L n f → n0 ≤ n → n ≤ 402 → L.length + 10 * j ≤ 200 → va_P (dC, dI) vwCl ((wX0 dA ad t) ++ (sbW dA b v ml (nI L.length) n f)) H → va_D A ((wX0 dA ad t) ++ (sbW dA b v ml (nI L.length) n f)) → va_S A s.heap H locs → lv_has ls 3 [(0, .ref (ad 0)), (1, .ref b), (2, .int (nI d))] → (∀ (H : Heap) (locs : List Loc) (ls : Array Slot) (n' v' : Nat) (ml' : Int32) (f' : Nat → Int32), sbH (L ++ dyT t 30 112 0 j d) n' f' → n0 ≤ n' → n' ≤ 402 → va_P (dC, dI) vwCl ((wX0 dA ad t) ++ (sbW dA b v' ml' (nI (L ++ dyT t 30 112 0 j d).length) n' f')) H → va_D A ((wX0 dA ad t) ++ (sbW dA b v' ml' (nI (L ++ dyT t 30 112 0 j d).length) n' f')) → va_S A s.heap H locs → lv_has ls 3 [(0, .ref (ad 0)), (1, .ref b)] → W p l e (rmwr (402 - n0) (2 * (402 - n0))) s m (([.ref (ad 0), .ref b] : List Value).toArray) below meth c H locs (n' - n0) (2 * (n' - n0)) Q (F0 m 156 ls [])) → W p l e (rmwr (402 - n0) (2 * (402 - n0))) s m (([.ref (ad 0), .ref b] : List Value).toArray) below meth c H locs (n - n0) (2 * (n - n0)) Q (F0 m 116 ls []) := by
    intro j
    induction j with
    | zero =>
      intro d L n v ml f H locs ls hd hlo hH hn hn4 hL hP hD hS hl hk
      have hd7 : d = 6 := by omega
      refine lv_iload_n hx hb dX0_write_116 rfl (lv_at hl 2 rfl) ?_
      refine lv_bipush (v := 6) hx hb dX0_write_117 (by decide) ?_
      refine lv_icmp_ge (tgt := 156) hx hb dX0_write_119 (by decide) (fun k9 => ?_) (fun k9 => absurd (by rw [hd7]; decide) k9)
      rw [dyT.eq_1, List.append_nil] at hk
      exact hk _ _ _ _ _ _ _ hH hn hn4 hP hD hS (lv_sub hl [0, 1] rfl)
    | succ j ih =>
      intro d L n v ml f H locs ls hd hlo hH hn hn4 hL hP hD hS hl hk
      refine lv_iload_n hx hb dX0_write_116 rfl (lv_at hl 2 rfl) ?_
      refine lv_bipush (v := 6) hx hb dX0_write_117 (by decide) ?_
      refine lv_icmp_ge (tgt := 156) hx hb dX0_write_119 (by decide) (fun k9 => absurd k9 (show ¬ (6 : Int32) ≤ nI d from nI_ge (b := 6) (by omega) (by omega))) (fun k9 => ?_)
      refine lv_aload_n hx hb dX0_write_122 rfl (lv_at hl 0 rfl) ?_
      refine va_get (D := (dC, dI)) (ci := 1) (v := .ref (ad 1)) (C := RX0) (T := TX0) (N := 1) hx hb hts (fun w h => gw_mem (inX0 w h)) hown hK.1 hP 0 rfl rfl 0 (by decide) (hts _ (gw_mem wfX0_11)) (fun _ h9 => h9) rfl dX0_write_123 ?_
      refine lv_bipush (v := 30) hx hb dX0_write_126 (by decide) ?_
      refine lv_iload_n hx hb dX0_write_128 rfl (lv_at hl 2 rfl) ?_
      refine lv_iadd hx hb dX0_write_129 ?_
      rw [show (30 : Int32) + nI d = nI (30 + d) from nI_add 30 d]
      refine va_iald hx hb hK.1 hP 1 0 rfl rfl (vp_in_nI (show 30 + d < 36 by omega) (by decide)) dX0_write_130 ?_
      rw [nI_clamp (show 30 + d < 2 ^ 31 by omega)]
      rw [dyT.eq_2] at hk
      by_cases hc : t (30 + d) < 0
      · refine lv_if_lt (tgt := 150) hx hb dX0_write_131 (by decide) (fun k9 => ?_) (fun k9 => absurd hc k9)
        rw [if_pos hc, List.nil_append] at hk
        refine lv_iinc (v := nI (d + 1)) (lv' := [(2, .int (nI (d + 1))), (0, .ref (ad 0)), (1, .ref b)]) hx hb dX0_write_150 hl (k := 2) rfl (by rw [← nI_1]; rfl) (by decide) rfl (fun ls hl => ?_)
        refine lv_goto (tgt := 116) hx hb dX0_write_153 (by decide) ?_
        exact ih (d + 1) L n v ml f _ _ _ (by omega) (by omega) hH hn hn4 (by omega) hP hD hS (lv_sub hl [1, 2, 0] rfl) hk
      · refine lv_if_lt (tgt := 150) hx hb dX0_write_131 (by decide) (fun k9 => absurd k9 hc) (fun k9 => ?_)
        rw [if_neg hc] at hk
        have hpos : ¬ t (30 + d) < 0 := hc
        have hvx := hTp d (by omega)
        have gx := dgN_lt 7 8 (nv t (30 + d)) (by omega) (by omega)
        have gd := dgN_lt 1 8 d (by omega) (by omega)
        have hlw := wdT_len 112 d (nv t (30 + d))
        refine lv_aload_n hx hb dX0_write_134 rfl (lv_at hl 1 rfl) ?_
        refine lv_bipush (v := 112) hx hb dX0_write_135 (by decide) ?_
        refine lv_iload_n hx hb dX0_write_137 rfl (lv_at hl 2 rfl) ?_
        refine lv_aload_n hx hb dX0_write_138 rfl (lv_at hl 0 rfl) ?_
        refine va_get (D := (dC, dI)) (ci := 1) (v := .ref (ad 1)) (C := RX0) (T := TX0) (N := 1) hx hb hts (fun w h => gw_mem (inX0 w h)) hown hK.1 hP 0 rfl rfl 0 (by decide) (hts _ (gw_mem wfX0_11)) (fun _ h9 => h9) rfl dX0_write_139 ?_
        refine lv_bipush (v := 30) hx hb dX0_write_142 (by decide) ?_
        refine lv_iload_n hx hb dX0_write_144 rfl (lv_at hl 2 rfl) ?_
        refine lv_iadd hx hb dX0_write_145 ?_
        rw [show (30 : Int32) + nI d = nI (30 + d) from nI_add 30 d]
        refine va_iald hx hb hK.1 hP 1 0 rfl rfl (vp_in_nI (show 30 + d < 36 by omega) (by decide)) dX0_write_146 ?_
        rw [nI_clamp (show 30 + d < 2 ^ 31 by omega), nv_eq hpos]
        have hp : ((wX0 dA ad t) ++ (sbW dA b v ml (nI L.length) n f)).Perm ((sbW dA b v ml (nI L.length) n f) ++ (wX0 dA ad t)) := List.perm_append_comm
        have hFr := pfree hp hD hS hA
        have hge : n ≤ wdN n L.length d (nv t (30 + d)) := Nat.le_trans (Nat.le_trans (Nat.le_trans (cap_ge _ n) (cap_ge _ _)) (cap_ge _ _)) (cap_ge _ _)
        have hle : wdN n L.length d (nv t (30 + d)) ≤ 402 := cap_le (by omega) (cap_le (by omega) (cap_le (by omega) (cap_le (by omega) hn4)))
        refine va_callv (va_runS (As := [.ref b, .int (nI 112), .int (nI d), .int (nI (nv t (30 + d)))]) (rest := []) S (twod l dC dI dA d1 d2 H.size b v ml n f L 112 d (nv t (30 + d)) hH hn4 (by omega) (by omega) (by omega) (by omega)) (gCS 4 hts wcX0_writeOfDay wmX0_61 wtX0_writeOfDay wnX0 (by decide +kernel) rfl rfl ⟨Nat.le_of_ble_eq_true rfl, Nat.le_of_ble_eq_true rfl⟩) (gPreST hE hS hA (psub hp hP) hK (psubD hp hD)) rfl rfl hl.1 rfl (lv_room (Nat.le_of_ble_eq_true rfl)) dX0_write_147 ⟨by show _ ≤ 402 - n0; omega, by show _ ≤ 2 * (402 - n0); omega⟩) hS (fun q _ h => hFr q h) hFr (fun u st H1 locs1 ht hvm hw hB hz hk1 hS1 => ?_)
        obtain ⟨v1, ml1, f1⟩ := u
        obtain ⟨hP1, hD1⟩ := pjoin (w1 := (sbW dA b v1 ml1 (nI (L ++ wdT 112 d (nv t (30 + d))).length) (wdN n L.length d (nv t (30 + d))) f1)) (wf := ((wX0 dA ad t) ++ (sbW dA b v1 ml1 (nI (L ++ wdT 112 d (nv t (30 + d))).length) (wdN n L.length d (nv t (30 + d))) f1))) hp List.perm_append_comm hP hD hS hA hk1 (by rw [← ht]; exact hB.1) hB.2
        refine W.widen (k := wdN n L.length d (nv t (30 + d)) - n0) (n := 2 * (wdN n L.length d (nv t (30 + d)) - n0)) (by omega) (by omega) ?_
        have hw : sbH (L ++ wdT 112 d (nv t (30 + d))) (wdN n L.length d (nv t (30 + d))) f1 := hw
        generalize wdN n L.length d (nv t (30 + d)) = n1 at hw hP1 hD1 hge hle ⊢
        have hl1 : (L ++ wdT 112 d (nv t (30 + d))).length = L.length + (wdT 112 d (nv t (30 + d))).length := List.length_append
        rw [← List.append_assoc] at hk
        refine lv_iinc (v := nI (d + 1)) (lv' := [(2, .int (nI (d + 1))), (0, .ref (ad 0)), (1, .ref b)]) hx hb dX0_write_150 hl (k := 2) rfl (by rw [← nI_1]; rfl) (by decide) rfl (fun ls hl => ?_)
        refine lv_goto (tgt := 116) hx hb dX0_write_153 (by decide) ?_
        exact ih (d + 1) _ n1 v1 ml1 f1 _ _ _ (by omega) (by omega) hw (by omega) hle (by omega) hP1 hD1 hS1 (lv_sub hl [1, 2, 0] rfl) hk
  subst hQ
  have hP : va_P (dC, dI) vwCl ((wX0 dA ad t) ++ (sbW dA b v ml (nI ([] : List Nat).length) n f)) s.heap := hP
  have hD : va_D A ((wX0 dA ad t) ++ (sbW dA b v ml (nI ([] : List Nat).length) n f)) := hD
  refine W.widen (k := n - n0) (n := 2 * (n - n0)) (Nat.zero_le _) (Nat.zero_le _) ?_
  have hn5 : n0 ≤ n := Nat.le_of_eq hn0
  have hL : ([] : List Nat).length ≤ 0 := Nat.le_refl 0
  refine lv_aload_n hx hb dX0_write_0 rfl (lv_at hl 1 rfl) ?_
  refine lv_bipush (v := 102) hx hb dX0_write_1 (by decide) ?_
  refine apC (wb := (wX0 dA ad t)) (NN := 402) (ch := 102) S hl.1 hK hE hP hD hS hA hH hn3 (by omega) (by omega) hn5 (cap_le (by omega) hn3) (Nat.le_refl _) (Nat.le_refl _) ⟨Nat.le_of_ble_eq_true rfl, Nat.le_of_ble_eq_true rfl⟩ (Nat.le_of_ble_eq_true rfl) dX0_write_3 (fun H locs v1 ml1 f1 n1 hn1x hH hP hD hS => ?_)
  have hc1 : n1 ≤ 402 := by rw [hn1x]; exact cap_le (by omega) hn3
  replace hn5 : n0 ≤ n1 := by rw [hn1x]; exact Nat.le_trans hn5 (cap_ge _ _)
  clear hn1x
  replace hL : (([] : List Nat) ++ [102]).length ≤ 1 := by rw [List.length_append]; show _ + 1 ≤ _; omega
  obtain ⟨L1, eL1⟩ : ∃ z, z = ([] : List Nat) ++ [102] := ⟨_, rfl⟩
  rw [← eL1] at hH hP hD hL
  refine lv_aload_n hx hb dX0_write_6 rfl (lv_at hl 0 rfl) ?_
  refine va_get (D := (dC, dI)) (ci := 1) (v := .ref (ad 1)) (C := RX0) (T := TX0) (N := 1) hx hb hts (fun w h => gw_mem (inX0 w h)) hown hK.1 hP 0 rfl rfl 0 (by decide) (hts _ (gw_mem wfX0_11)) (fun _ h9 => h9) rfl dX0_write_7 ?_
  refine lv_iconst (v := 0) hx hb dX0_write_10 (by decide) ?_
  refine va_iald hx hb hK.1 hP 1 0 rfl rfl (okI_in (by decide)) dX0_write_11 ?_
  rw [show t (Int32.toNatClampNeg 0) = nI (nv t 0) from nv_eq (hT8 0 (by omega))]
  refine apI (wb := (wX0 dA ad t)) (NN := 402) S hl.1 hK hE hP hD hS hA hH hc1 (by omega) (by omega) hn5 (cap_le (by omega) hc1) (Nat.le_refl _) (Nat.le_refl _) ⟨Nat.le_of_ble_eq_true rfl, Nat.le_of_ble_eq_true rfl⟩ (Nat.le_of_ble_eq_true rfl) dX0_write_12 (fun H locs v2 ml2 f2 n2 hn2x hH hP hD hS => ?_)
  have hc2 : n2 ≤ 402 := by rw [hn2x]; exact cap_le (by omega) hc1
  replace hn5 : n0 ≤ n2 := by rw [hn2x]; exact Nat.le_trans hn5 (cap_ge _ _)
  clear hn2x
  replace hL : (L1 ++ dgs 8 (nv t 0)).length ≤ 8 := by rw [List.length_append, dgs_len]; omega
  obtain ⟨L2, eL2⟩ : ∃ z, z = L1 ++ dgs 8 (nv t 0) := ⟨_, rfl⟩
  rw [← eL2] at hH hP hD hL
  refine lv_bipush (v := 110) hx hb dX0_write_15 (by decide) ?_
  refine apC (wb := (wX0 dA ad t)) (NN := 402) (ch := 110) S hl.1 hK hE hP hD hS hA hH hc2 (by omega) (by omega) hn5 (cap_le (by omega) hc2) (Nat.le_refl _) (Nat.le_refl _) ⟨Nat.le_of_ble_eq_true rfl, Nat.le_of_ble_eq_true rfl⟩ (Nat.le_of_ble_eq_true rfl) dX0_write_17 (fun H locs v3 ml3 f3 n3 hn3x hH hP hD hS => ?_)
  have hc3 : n3 ≤ 402 := by rw [hn3x]; exact cap_le (by omega) hc2
  replace hn5 : n0 ≤ n3 := by rw [hn3x]; exact Nat.le_trans hn5 (cap_ge _ _)
  clear hn3x
  replace hL : (L2 ++ [110]).length ≤ 9 := by rw [List.length_append]; show _ + 1 ≤ _; omega
  obtain ⟨L3, eL3⟩ : ∃ z, z = L2 ++ [110] := ⟨_, rfl⟩
  rw [← eL3] at hH hP hD hL
  refine lv_aload_n hx hb dX0_write_20 rfl (lv_at hl 0 rfl) ?_
  refine va_get (D := (dC, dI)) (ci := 1) (v := .ref (ad 1)) (C := RX0) (T := TX0) (N := 1) hx hb hts (fun w h => gw_mem (inX0 w h)) hown hK.1 hP 0 rfl rfl 0 (by decide) (hts _ (gw_mem wfX0_11)) (fun _ h9 => h9) rfl dX0_write_21 ?_
  refine lv_iconst (v := 1) hx hb dX0_write_24 (by decide) ?_
  refine va_iald hx hb hK.1 hP 1 0 rfl rfl (okI_in (by decide)) dX0_write_25 ?_
  rw [show t (Int32.toNatClampNeg 1) = nI (nv t 1) from nv_eq (hT8 1 (by omega))]
  refine apI (wb := (wX0 dA ad t)) (NN := 402) S hl.1 hK hE hP hD hS hA hH hc3 (by omega) (by omega) hn5 (cap_le (by omega) hc3) (Nat.le_refl _) (Nat.le_refl _) ⟨Nat.le_of_ble_eq_true rfl, Nat.le_of_ble_eq_true rfl⟩ (Nat.le_of_ble_eq_true rfl) dX0_write_26 (fun H locs v4 ml4 f4 n4 hn4x hH hP hD hS => ?_)
  have hc4 : n4 ≤ 402 := by rw [hn4x]; exact cap_le (by omega) hc3
  replace hn5 : n0 ≤ n4 := by rw [hn4x]; exact Nat.le_trans hn5 (cap_ge _ _)
  clear hn4x
  replace hL : (L3 ++ dgs 8 (nv t 1)).length ≤ 13 := by rw [List.length_append, dgs_len]; omega
  obtain ⟨L4, eL4⟩ : ∃ z, z = L3 ++ dgs 8 (nv t 1) := ⟨_, rfl⟩
  rw [← eL4] at hH hP hD hL
  refine lv_pop hx hb dX0_write_29 rfl ?_
  refine lv_iconst (v := 1) hx hb dX0_write_30 (by decide) ?_
  refine lv_istore_n (lv' := [(2, .int 1), (0, .ref (ad 0)), (1, .ref b)]) hx hb dX0_write_31 rfl hl (by decide) rfl (fun ls hl => ?_)
  refine LP32 6 1 L4 n4 v4 ml4 f4 _ _ _ (by omega) (by omega) hH hn5 hc4 (by omega) hP hD hS (lv_sub hl [1, 2, 0] rfl) (fun H locs ls n5 v5 ml5 f5 hH hn5 hc5 hP hD hS hl => ?_)
  replace hL : (L4 ++ dyT t 10 99 1 6 1).length ≤ 55 := by
    have h9 := dyT_len t 10 99 1 4 6 1 (by omega) (fun e h1 h2 => dgN_lt 4 8 _ (by have := hTc e (by omega) (by omega); omega) (by omega))
    rw [List.length_append]; omega
  obtain ⟨L5, eL5⟩ : ∃ z, z = L4 ++ dyT t 10 99 1 6 1 := ⟨_, rfl⟩
  rw [← eL5] at hH hP hD hL
  refine lv_iconst (v := 0) hx hb dX0_write_72 (by decide) ?_
  refine lv_istore_n (lv' := [(2, .int 0), (0, .ref (ad 0)), (1, .ref b)]) hx hb dX0_write_73 rfl hl (by decide) rfl (fun ls hl => ?_)
  refine LP74 6 0 L5 n5 v5 ml5 f5 _ _ _ (by omega) (by omega) hH hn5 hc5 (by omega) hP hD hS (lv_sub hl [1, 2, 0] rfl) (fun H locs ls n6 v6 ml6 f6 hH hn5 hc6 hP hD hS hl => ?_)
  replace hL : (L5 ++ dyT t 20 107 0 6 0).length ≤ 115 := by
    have h9 := dyT_len t 20 107 0 7 6 0 (by omega) (fun e h1 h2 => dgN_lt 7 8 _ (by have := hTk e (by omega); omega) (by omega))
    rw [List.length_append]; omega
  obtain ⟨L6, eL6⟩ : ∃ z, z = L5 ++ dyT t 20 107 0 6 0 := ⟨_, rfl⟩
  rw [← eL6] at hH hP hD hL
  refine lv_iconst (v := 0) hx hb dX0_write_114 (by decide) ?_
  refine lv_istore_n (lv' := [(2, .int 0), (0, .ref (ad 0)), (1, .ref b)]) hx hb dX0_write_115 rfl hl (by decide) rfl (fun ls hl => ?_)
  refine LP116 6 0 L6 n6 v6 ml6 f6 _ _ _ (by omega) (by omega) hH hn5 hc6 (by omega) hP hD hS (lv_sub hl [1, 2, 0] rfl) (fun H locs ls n7 v7 ml7 f7 hH hn5 hc7 hP hD hS hl => ?_)
  replace hL : (L6 ++ dyT t 30 112 0 6 0).length ≤ 175 := by
    have h9 := dyT_len t 30 112 0 7 6 0 (by omega) (fun e h1 h2 => dgN_lt 7 8 _ (by have := hTp e (by omega); omega) (by omega))
    rw [List.length_append]; omega
  obtain ⟨L7, eL7⟩ : ∃ z, z = L6 ++ dyT t 30 112 0 6 0 := ⟨_, rfl⟩
  rw [← eL7] at hH hP hD hL
  refine lv_aload_n hx hb dX0_write_156 rfl (lv_at hl 1 rfl) ?_
  refine lv_bipush (v := 119) hx hb dX0_write_157 (by decide) ?_
  refine apC (wb := (wX0 dA ad t)) (NN := 402) (ch := 119) S hl.1 hK hE hP hD hS hA hH hc7 (by omega) (by omega) hn5 (cap_le (by omega) hc7) (Nat.le_refl _) (Nat.le_refl _) ⟨Nat.le_of_ble_eq_true rfl, Nat.le_of_ble_eq_true rfl⟩ (Nat.le_of_ble_eq_true rfl) dX0_write_159 (fun H locs v8 ml8 f8 n8 hn8x hH hP hD hS => ?_)
  have hc8 : n8 ≤ 402 := by rw [hn8x]; exact cap_le (by omega) hc7
  replace hn5 : n0 ≤ n8 := by rw [hn8x]; exact Nat.le_trans hn5 (cap_ge _ _)
  clear hn8x
  replace hL : (L7 ++ [119]).length ≤ 176 := by rw [List.length_append]; show _ + 1 ≤ _; omega
  obtain ⟨L8, eL8⟩ : ∃ z, z = L7 ++ [119] := ⟨_, rfl⟩
  rw [← eL8] at hH hP hD hL
  refine lv_aload_n hx hb dX0_write_162 rfl (lv_at hl 0 rfl) ?_
  refine va_get (D := (dC, dI)) (ci := 1) (v := .ref (ad 1)) (C := RX0) (T := TX0) (N := 1) hx hb hts (fun w h => gw_mem (inX0 w h)) hown hK.1 hP 0 rfl rfl 0 (by decide) (hts _ (gw_mem wfX0_11)) (fun _ h9 => h9) rfl dX0_write_163 ?_
  refine lv_iconst (v := 2) hx hb dX0_write_166 (by decide) ?_
  refine va_iald hx hb hK.1 hP 1 0 rfl rfl (okI_in (by decide)) dX0_write_167 ?_
  rw [show t (Int32.toNatClampNeg 2) = nI (nv t 2) from nv_eq (hT8 2 (by omega))]
  refine apI (wb := (wX0 dA ad t)) (NN := 402) S hl.1 hK hE hP hD hS hA hH hc8 (by omega) (by omega) hn5 (cap_le (by omega) hc8) (Nat.le_refl _) (Nat.le_refl _) ⟨Nat.le_of_ble_eq_true rfl, Nat.le_of_ble_eq_true rfl⟩ (Nat.le_of_ble_eq_true rfl) dX0_write_168 (fun H locs v9 ml9 f9 n9 hn9x hH hP hD hS => ?_)
  have hc9 : n9 ≤ 402 := by rw [hn9x]; exact cap_le (by omega) hc8
  replace hn5 : n0 ≤ n9 := by rw [hn9x]; exact Nat.le_trans hn5 (cap_ge _ _)
  clear hn9x
  replace hL : (L8 ++ dgs 8 (nv t 2)).length ≤ 177 := by rw [List.length_append, dgs_len]; omega
  obtain ⟨L9, eL9⟩ : ∃ z, z = L8 ++ dgs 8 (nv t 2) := ⟨_, rfl⟩
  rw [← eL9] at hH hP hD hL
  refine lv_bipush (v := 45) hx hb dX0_write_171 (by decide) ?_
  refine apC (wb := (wX0 dA ad t)) (NN := 402) (ch := 45) S hl.1 hK hE hP hD hS hA hH hc9 (by omega) (by omega) hn5 (cap_le (by omega) hc9) (Nat.le_refl _) (Nat.le_refl _) ⟨Nat.le_of_ble_eq_true rfl, Nat.le_of_ble_eq_true rfl⟩ (Nat.le_of_ble_eq_true rfl) dX0_write_173 (fun H locs v10 ml10 f10 n10 hn10x hH hP hD hS => ?_)
  have hc10 : n10 ≤ 402 := by rw [hn10x]; exact cap_le (by omega) hc9
  replace hn5 : n0 ≤ n10 := by rw [hn10x]; exact Nat.le_trans hn5 (cap_ge _ _)
  clear hn10x
  replace hL : (L9 ++ [45]).length ≤ 178 := by rw [List.length_append]; show _ + 1 ≤ _; omega
  obtain ⟨L10, eL10⟩ : ∃ z, z = L9 ++ [45] := ⟨_, rfl⟩
  rw [← eL10] at hH hP hD hL
  refine lv_aload_n hx hb dX0_write_176 rfl (lv_at hl 0 rfl) ?_
  refine va_get (D := (dC, dI)) (ci := 1) (v := .ref (ad 1)) (C := RX0) (T := TX0) (N := 1) hx hb hts (fun w h => gw_mem (inX0 w h)) hown hK.1 hP 0 rfl rfl 0 (by decide) (hts _ (gw_mem wfX0_11)) (fun _ h9 => h9) rfl dX0_write_177 ?_
  refine lv_iconst (v := 3) hx hb dX0_write_180 (by decide) ?_
  refine va_iald hx hb hK.1 hP 1 0 rfl rfl (okI_in (by decide)) dX0_write_181 ?_
  rw [show t (Int32.toNatClampNeg 3) = nI (nv t 3) from nv_eq (hT8 3 (by omega))]
  refine apI (wb := (wX0 dA ad t)) (NN := 402) S hl.1 hK hE hP hD hS hA hH hc10 (by omega) (by omega) hn5 (cap_le (by omega) hc10) (Nat.le_refl _) (Nat.le_refl _) ⟨Nat.le_of_ble_eq_true rfl, Nat.le_of_ble_eq_true rfl⟩ (Nat.le_of_ble_eq_true rfl) dX0_write_182 (fun H locs v11 ml11 f11 n11 hn11x hH hP hD hS => ?_)
  have hc11 : n11 ≤ 402 := by rw [hn11x]; exact cap_le (by omega) hc10
  replace hn5 : n0 ≤ n11 := by rw [hn11x]; exact Nat.le_trans hn5 (cap_ge _ _)
  clear hn11x
  replace hL : (L10 ++ dgs 8 (nv t 3)).length ≤ 179 := by rw [List.length_append, dgs_len]; omega
  obtain ⟨L11, eL11⟩ : ∃ z, z = L10 ++ dgs 8 (nv t 3) := ⟨_, rfl⟩
  rw [← eL11] at hH hP hD hL
  refine lv_pop hx hb dX0_write_185 rfl ?_
  refine lv_aload_n hx hb dX0_write_186 rfl (lv_at hl 1 rfl) ?_
  refine lv_bipush (v := 115) hx hb dX0_write_187 (by decide) ?_
  refine apC (wb := (wX0 dA ad t)) (NN := 402) (ch := 115) S hl.1 hK hE hP hD hS hA hH hc11 (by omega) (by omega) hn5 (cap_le (by omega) hc11) (Nat.le_refl _) (Nat.le_refl _) ⟨Nat.le_of_ble_eq_true rfl, Nat.le_of_ble_eq_true rfl⟩ (Nat.le_of_ble_eq_true rfl) dX0_write_189 (fun H locs v12 ml12 f12 n12 hn12x hH hP hD hS => ?_)
  have hc12 : n12 ≤ 402 := by rw [hn12x]; exact cap_le (by omega) hc11
  replace hn5 : n0 ≤ n12 := by rw [hn12x]; exact Nat.le_trans hn5 (cap_ge _ _)
  clear hn12x
  replace hL : (L11 ++ [115]).length ≤ 180 := by rw [List.length_append]; show _ + 1 ≤ _; omega
  obtain ⟨L12, eL12⟩ : ∃ z, z = L11 ++ [115] := ⟨_, rfl⟩
  rw [← eL12] at hH hP hD hL
  refine lv_aload_n hx hb dX0_write_192 rfl (lv_at hl 0 rfl) ?_
  refine va_get (D := (dC, dI)) (ci := 1) (v := .ref (ad 1)) (C := RX0) (T := TX0) (N := 1) hx hb hts (fun w h => gw_mem (inX0 w h)) hown hK.1 hP 0 rfl rfl 0 (by decide) (hts _ (gw_mem wfX0_11)) (fun _ h9 => h9) rfl dX0_write_193 ?_
  refine lv_iconst (v := 4) hx hb dX0_write_196 (by decide) ?_
  refine va_iald hx hb hK.1 hP 1 0 rfl rfl (okI_in (by decide)) dX0_write_197 ?_
  rw [show t (Int32.toNatClampNeg 4) = nI (nv t 4) from nv_eq (hT8 4 (by omega))]
  refine apI (wb := (wX0 dA ad t)) (NN := 402) S hl.1 hK hE hP hD hS hA hH hc12 (by omega) (by omega) hn5 (cap_le (by omega) hc12) (Nat.le_refl _) (Nat.le_refl _) ⟨Nat.le_of_ble_eq_true rfl, Nat.le_of_ble_eq_true rfl⟩ (Nat.le_of_ble_eq_true rfl) dX0_write_198 (fun H locs v13 ml13 f13 n13 hn13x hH hP hD hS => ?_)
  have hc13 : n13 ≤ 402 := by rw [hn13x]; exact cap_le (by omega) hc12
  replace hn5 : n0 ≤ n13 := by rw [hn13x]; exact Nat.le_trans hn5 (cap_ge _ _)
  clear hn13x
  replace hL : (L12 ++ dgs 8 (nv t 4)).length ≤ 181 := by rw [List.length_append, dgs_len]; omega
  obtain ⟨L13, eL13⟩ : ∃ z, z = L12 ++ dgs 8 (nv t 4) := ⟨_, rfl⟩
  rw [← eL13] at hH hP hD hL
  refine lv_bipush (v := 47) hx hb dX0_write_201 (by decide) ?_
  refine apC (wb := (wX0 dA ad t)) (NN := 402) (ch := 47) S hl.1 hK hE hP hD hS hA hH hc13 (by omega) (by omega) hn5 (cap_le (by omega) hc13) (Nat.le_refl _) (Nat.le_refl _) ⟨Nat.le_of_ble_eq_true rfl, Nat.le_of_ble_eq_true rfl⟩ (Nat.le_of_ble_eq_true rfl) dX0_write_203 (fun H locs v14 ml14 f14 n14 hn14x hH hP hD hS => ?_)
  have hc14 : n14 ≤ 402 := by rw [hn14x]; exact cap_le (by omega) hc13
  replace hn5 : n0 ≤ n14 := by rw [hn14x]; exact Nat.le_trans hn5 (cap_ge _ _)
  clear hn14x
  replace hL : (L13 ++ [47]).length ≤ 182 := by rw [List.length_append]; show _ + 1 ≤ _; omega
  obtain ⟨L14, eL14⟩ : ∃ z, z = L13 ++ [47] := ⟨_, rfl⟩
  rw [← eL14] at hH hP hD hL
  refine lv_aload_n hx hb dX0_write_206 rfl (lv_at hl 0 rfl) ?_
  refine va_get (D := (dC, dI)) (ci := 1) (v := .ref (ad 1)) (C := RX0) (T := TX0) (N := 1) hx hb hts (fun w h => gw_mem (inX0 w h)) hown hK.1 hP 0 rfl rfl 0 (by decide) (hts _ (gw_mem wfX0_11)) (fun _ h9 => h9) rfl dX0_write_207 ?_
  refine lv_iconst (v := 5) hx hb dX0_write_210 (by decide) ?_
  refine va_iald hx hb hK.1 hP 1 0 rfl rfl (okI_in (by decide)) dX0_write_211 ?_
  rw [show t (Int32.toNatClampNeg 5) = nI (nv t 5) from nv_eq (hT8 5 (by omega))]
  refine apI (wb := (wX0 dA ad t)) (NN := 402) S hl.1 hK hE hP hD hS hA hH hc14 (by omega) (by omega) hn5 (cap_le (by omega) hc14) (Nat.le_refl _) (Nat.le_refl _) ⟨Nat.le_of_ble_eq_true rfl, Nat.le_of_ble_eq_true rfl⟩ (Nat.le_of_ble_eq_true rfl) dX0_write_212 (fun H locs v15 ml15 f15 n15 hn15x hH hP hD hS => ?_)
  have hc15 : n15 ≤ 402 := by rw [hn15x]; exact cap_le (by omega) hc14
  replace hn5 : n0 ≤ n15 := by rw [hn15x]; exact Nat.le_trans hn5 (cap_ge _ _)
  clear hn15x
  replace hL : (L14 ++ dgs 8 (nv t 5)).length ≤ 183 := by rw [List.length_append, dgs_len]; omega
  obtain ⟨L15, eL15⟩ : ∃ z, z = L14 ++ dgs 8 (nv t 5) := ⟨_, rfl⟩
  rw [← eL15] at hH hP hD hL
  refine lv_pop hx hb dX0_write_215 rfl ?_
  refine lv_aload_n hx hb dX0_write_216 rfl (lv_at hl 1 rfl) ?_
  refine lv_bipush (v := 47) hx hb dX0_write_217 (by decide) ?_
  refine apC (wb := (wX0 dA ad t)) (NN := 402) (ch := 47) S hl.1 hK hE hP hD hS hA hH hc15 (by omega) (by omega) hn5 (cap_le (by omega) hc15) (Nat.le_refl _) (Nat.le_refl _) ⟨Nat.le_of_ble_eq_true rfl, Nat.le_of_ble_eq_true rfl⟩ (Nat.le_of_ble_eq_true rfl) dX0_write_219 (fun H locs v16 ml16 f16 n16 hn16x hH hP hD hS => ?_)
  have hc16 : n16 ≤ 402 := by rw [hn16x]; exact cap_le (by omega) hc15
  replace hn5 : n0 ≤ n16 := by rw [hn16x]; exact Nat.le_trans hn5 (cap_ge _ _)
  clear hn16x
  replace hL : (L15 ++ [47]).length ≤ 184 := by rw [List.length_append]; show _ + 1 ≤ _; omega
  obtain ⟨L16, eL16⟩ : ∃ z, z = L15 ++ [47] := ⟨_, rfl⟩
  rw [← eL16] at hH hP hD hL
  refine lv_aload_n hx hb dX0_write_222 rfl (lv_at hl 0 rfl) ?_
  refine va_get (D := (dC, dI)) (ci := 1) (v := .ref (ad 1)) (C := RX0) (T := TX0) (N := 1) hx hb hts (fun w h => gw_mem (inX0 w h)) hown hK.1 hP 0 rfl rfl 0 (by decide) (hts _ (gw_mem wfX0_11)) (fun _ h9 => h9) rfl dX0_write_223 ?_
  refine lv_bipush (v := 6) hx hb dX0_write_226 (by decide) ?_
  refine va_iald hx hb hK.1 hP 1 0 rfl rfl (okI_in (by decide)) dX0_write_228 ?_
  rw [show t (Int32.toNatClampNeg 6) = nI (nv t 6) from nv_eq (hT8 6 (by omega))]
  refine apI (wb := (wX0 dA ad t)) (NN := 402) S hl.1 hK hE hP hD hS hA hH hc16 (by omega) (by omega) hn5 (cap_le (by omega) hc16) (Nat.le_refl _) (Nat.le_refl _) ⟨Nat.le_of_ble_eq_true rfl, Nat.le_of_ble_eq_true rfl⟩ (Nat.le_of_ble_eq_true rfl) dX0_write_229 (fun H locs v17 ml17 f17 n17 hn17x hH hP hD hS => ?_)
  have hc17 : n17 ≤ 402 := by rw [hn17x]; exact cap_le (by omega) hc16
  replace hn5 : n0 ≤ n17 := by rw [hn17x]; exact Nat.le_trans hn5 (cap_ge _ _)
  clear hn17x
  replace hL : (L16 ++ dgs 8 (nv t 6)).length ≤ 191 := by rw [List.length_append, dgs_len]; omega
  obtain ⟨L17, eL17⟩ : ∃ z, z = L16 ++ dgs 8 (nv t 6) := ⟨_, rfl⟩
  rw [← eL17] at hH hP hD hL
  refine lv_bipush (v := 122) hx hb dX0_write_232 (by decide) ?_
  refine apC (wb := (wX0 dA ad t)) (NN := 402) (ch := 122) S hl.1 hK hE hP hD hS hA hH hc17 (by omega) (by omega) hn5 (cap_le (by omega) hc17) (Nat.le_refl _) (Nat.le_refl _) ⟨Nat.le_of_ble_eq_true rfl, Nat.le_of_ble_eq_true rfl⟩ (Nat.le_of_ble_eq_true rfl) dX0_write_234 (fun H locs v18 ml18 f18 n18 hn18x hH hP hD hS => ?_)
  have hc18 : n18 ≤ 402 := by rw [hn18x]; exact cap_le (by omega) hc17
  replace hn5 : n0 ≤ n18 := by rw [hn18x]; exact Nat.le_trans hn5 (cap_ge _ _)
  clear hn18x
  replace hL : (L17 ++ [122]).length ≤ 192 := by rw [List.length_append]; show _ + 1 ≤ _; omega
  obtain ⟨L18, eL18⟩ : ∃ z, z = L17 ++ [122] := ⟨_, rfl⟩
  rw [← eL18] at hH hP hD hL
  refine lv_aload_n hx hb dX0_write_237 rfl (lv_at hl 0 rfl) ?_
  refine va_get (D := (dC, dI)) (ci := 1) (v := .ref (ad 1)) (C := RX0) (T := TX0) (N := 1) hx hb hts (fun w h => gw_mem (inX0 w h)) hown hK.1 hP 0 rfl rfl 0 (by decide) (hts _ (gw_mem wfX0_11)) (fun _ h9 => h9) rfl dX0_write_238 ?_
  refine lv_bipush (v := 7) hx hb dX0_write_241 (by decide) ?_
  refine va_iald hx hb hK.1 hP 1 0 rfl rfl (okI_in (by decide)) dX0_write_243 ?_
  rw [show t (Int32.toNatClampNeg 7) = nI (nv t 7) from nv_eq (hT8 7 (by omega))]
  refine apI (wb := (wX0 dA ad t)) (NN := 402) S hl.1 hK hE hP hD hS hA hH hc18 (by omega) (by omega) hn5 (cap_le (by omega) hc18) (Nat.le_refl _) (Nat.le_refl _) ⟨Nat.le_of_ble_eq_true rfl, Nat.le_of_ble_eq_true rfl⟩ (Nat.le_of_ble_eq_true rfl) dX0_write_244 (fun H locs v19 ml19 f19 n19 hn19x hH hP hD hS => ?_)
  have hc19 : n19 ≤ 402 := by rw [hn19x]; exact cap_le (by omega) hc18
  replace hn5 : n0 ≤ n19 := by rw [hn19x]; exact Nat.le_trans hn5 (cap_ge _ _)
  clear hn19x
  replace hL : (L18 ++ dgs 8 (nv t 7)).length ≤ 193 := by rw [List.length_append, dgs_len]; omega
  obtain ⟨L19, eL19⟩ : ∃ z, z = L18 ++ dgs 8 (nv t 7) := ⟨_, rfl⟩
  rw [← eL19] at hH hP hD hL
  refine lv_pop hx hb dX0_write_247 rfl ?_
  have eW : L19 = wrT t := by
    unfold wrT
    rw [eL19, eL18, eL17, eL16, eL15, eL14, eL13, eL12, eL11, eL10, eL9, eL8, eL7, eL6, eL5, eL4, eL3, eL2, eL1]
  rw [eW] at hH hP hD
  refine W.widen (k := 402 - n0) (n := 2 * (402 - n0)) (by omega) (by omega) ?_
  exact W.vret hx hb hr (fun st ht _ => ⟨⟨(v19, ml19, n19, f19), rfl, ⟨hH, hc19, hn5⟩, by rw [ht]; exact hP, hD⟩, hS.F ht⟩) hS.2.2 dX0_write_248
