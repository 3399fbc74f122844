section
abbrev rmX9_extreme : Room := { frames := 7, cells := 0, slots := 0, locals := 184 }
set_option maxHeartbeats 4000000 in
set_option maxRecDepth 100000 in
theorem tX9_extreme (l : Launch) (dC : Nat → ClassId) (dI : Nat → Nat → Nat) (dA : Nat → ClassId) (ad : Nat → Nat) (sz : Nat) {p1 : Int32} {p2 : Int32} {p3 : Int32} {c_tape : Nat → Int32} {c_taped : Int32} {c_tree : Nat → Int32} {c_bonds : Nat → Int32} {c_moves : Nat → Int32} {c_handMoves : Nat → Int32} {c_moved : Int32} {c_days : Int32} {c_likely : Int32} {c_outOf : Int32} {c_rateNow : Int32} {c_pence : Nat → Int64} {c_top : Int64} {c_bottom : Int64} {c_spot : Int32} {c_textLong : Int32} {c_fault : Int32} {c_number : Int32} {c_numberAt : Int32} {c_figures : Int32} {c_written : Int32} {c_wanted : Int32} {c_found : Int32} {c_drawnNow : Int32} {c_worth : Nat → Int64} {c_hold : Nat → Int64} {c_way : Nat → Int64} {c_acts : Nat → Int32} {c_sDay : Int32} {c_sUps : Int32} {c_sUp : Int32} {c_sMarks : Int32} {c_paidAll : Int64} {c_isPlayed : Int32} {c_isOn : Int32} {c_handMoved : Int32} {c_handPaid : Int64} {c_regret : Int64} {c_aside : Nat → Int32} {c_other : Nat → Int64} {c_states : Int32} {c_kept : Nat → Int32} {c_keptLong : Nat → Int64} {c_keptAt : Int32} {c_isTaking : Int32} {r : Int64} {o_c_moves : Nat → Int32} {o_c_days : Int32} {o_c_likely : Int32} {o_c_outOf : Int32} {o_c_rateNow : Int32} {o_c_pence : Nat → Int64} {o_c_top : Int64} {o_c_bottom : Int64} {o_c_worth : Nat → Int64} {o_c_hold : Nat → Int64} {o_c_acts : Nat → Int32} {o_c_sDay : Int32} {o_c_sUps : Int32} {o_c_sUp : Int32} {o_c_sMarks : Int32} {o_c_paidAll : Int64} {o_c_aside : Nat → Int32} (hf : fX9_extreme p1 p2 p3 c_tree c_bonds c_moves c_days c_likely c_outOf c_rateNow c_pence c_top c_bottom c_worth c_hold c_acts c_sDay c_sUps c_sUp c_sMarks c_paidAll c_aside = some (r, o_c_moves, o_c_days, o_c_likely, o_c_outOf, o_c_rateNow, o_c_pence, o_c_top, o_c_bottom, o_c_worth, o_c_hold, o_c_acts, o_c_sDay, o_c_sUps, o_c_sUp, o_c_sMarks, o_c_paidAll, o_c_aside)) : Met l yX9_extreme (wq (Cond.code yX9_extreme cX9_extreme 9 (some .long))) rmX9_extreme (gP [.ref (ad 0), .int p1, .int p2, .int p3] (dC, dI) dA (mW dA ad c_tape c_taped c_tree c_bonds c_moves c_handMoves c_moved c_days c_likely c_outOf c_rateNow c_pence c_top c_bottom c_spot c_textLong c_fault c_number c_numberAt c_figures c_written c_wanted c_found c_drawnNow c_worth c_hold c_way c_acts c_sDay c_sUps c_sUp c_sMarks c_paidAll c_isPlayed c_isOn c_handMoved c_handPaid c_regret c_aside c_other c_states c_kept c_keptLong c_keptAt c_isTaking) sz) (gQl (dC, dI) r (mW dA ad c_tape c_taped c_tree c_bonds o_c_moves c_handMoves c_moved o_c_days o_c_likely o_c_outOf o_c_rateNow o_c_pence o_c_top o_c_bottom c_spot c_textLong c_fault c_number c_numberAt c_figures c_written c_wanted c_found c_drawnNow o_c_worth o_c_hold c_way o_c_acts o_c_sDay o_c_sUps o_c_sUp o_c_sMarks o_c_paidAll c_isPlayed c_isOn c_handMoved c_handPaid c_regret o_c_aside c_other c_states c_kept c_keptLong c_keptAt c_isTaking) (va_A (mW dA ad c_tape c_taped c_tree c_bonds c_moves c_handMoves c_moved c_days c_likely c_outOf c_rateNow c_pence c_top c_bottom c_spot c_textLong c_fault c_number c_numberAt c_figures c_written c_wanted c_found c_drawnNow c_worth c_hold c_way c_acts c_sDay c_sUps c_sUp c_sMarks c_paidAll c_isPlayed c_isOn c_handMoved c_handPaid c_regret c_aside c_other c_states c_kept c_keptLong c_keptAt c_isTaking) sz)) 0 0 (va_A (mW dA ad c_tape c_taped c_tree c_bonds c_moves c_handMoves c_moved c_days c_likely c_outOf c_rateNow c_pence c_top c_bottom c_spot c_textLong c_fault c_number c_numberAt c_figures c_written c_wanted c_found c_drawnNow c_worth c_hold c_way c_acts c_sDay c_sUps c_sUp c_sMarks c_paidAll c_isPlayed c_isOn c_handMoved c_handPaid c_regret c_aside c_other c_states c_kept c_keptLong c_keptAt c_isTaking) sz) := by
  refine Met.ofW (cc := cX9_extreme) (maxL := 9) (ret := (some .long)) (by decide) rfl ?_
  intro p e s m args below meth c s₁ B hml hv
  obtain ⟨rfl, hsz, hP, hK, hD0⟩ := hv
  have hx := B.exec
  have hb := B.bytes
  have hr := B.returns
  have hts := atoms_spec (ws := wq (Cond.code yX9_extreme cX9_extreme 9 (some .long))) B.pre
  have hown : s.vm.findClass RX9 = some m.cls := findClass_of_methodNamed B.named
  have hlocks := B.notSynchronized
  clear B
  subst hsz
  have hD := hD0.self (sz := s.heap.size)
  generalize hAe : va_A (mW dA ad c_tape c_taped c_tree c_bonds c_moves c_handMoves c_moved c_days c_likely c_outOf c_rateNow c_pence c_top c_bottom c_spot c_textLong c_fault c_number c_numberAt c_figures c_written c_wanted c_found c_drawnNow c_worth c_hold c_way c_acts c_sDay c_sUps c_sUp c_sMarks c_paidAll c_isPlayed c_isOn c_handMoved c_handPaid c_regret c_aside c_other c_states c_kept c_keptLong c_keptAt c_isTaking) s.heap.size = A at hD ⊢
  have hA : ∀ q : Nat, s.heap.size ≤ q → A q := fun q h => by rw [← hAe]; exact Or.inr h
  clear hAe hD0
  have hS : va_S A s.heap s.heap [] := va_S.rf
  have hl := lv_entry ([.ref (ad 0), .int p1, .int p2, .int p3]) (n := 9) (Nat.le_of_ble_eq_true rfl)
  rw [lg_entry_eq]
  generalize (lg_sl ([.ref (ad 0), .int p1, .int p2, .int p3]) ++ List.replicate (9 - (lg_sl ([.ref (ad 0), .int p1, .int p2, .int p3])).length) Slot.unset).toArray = ls at hl ⊢
  have hl : lv_has ls 9 [(0, .ref (ad 0)), (1, .int p1), (2, .int p2), (3, .int p3)] := hl
  change W p l e rmX9_extreme s m ([.ref (ad 0), .int p1, .int p2, .int p3] : List Value).toArray below meth c s.heap [] 0 0 _ _
  generalize hQ : MQ below (gQl (dC, dI) r (mW dA ad c_tape c_taped c_tree c_bonds o_c_moves c_handMoves c_moved o_c_days o_c_likely o_c_outOf o_c_rateNow o_c_pence o_c_top o_c_bottom c_spot c_textLong c_fault c_number c_numberAt c_figures c_written c_wanted c_found c_drawnNow o_c_worth o_c_hold c_way o_c_acts o_c_sDay o_c_sUps o_c_sUp o_c_sMarks o_c_paidAll c_isPlayed c_isOn c_handMoved c_handPaid c_regret o_c_aside c_other c_states c_kept c_keptLong c_keptAt c_isTaking) A) ([.ref (ad 0), .int p1, .int p2, .int p3] : List Value).toArray s 0 0 A = Q
  have LP53 : ∀ (n : Nat) (x1 : Int32) (x2 : Int32) (x3 : Int32) (x4 : Int32) (x5 : Int64) (x7 : Int32) (c_days : Int32) (c_tape : Nat → Int32) (c_taped : Int32) (c_tree : Nat → Int32) (c_bonds : Nat → Int32) (c_handMoves : Nat → Int32) (c_moved : Int32) (c_likely : Int32) (c_outOf : Int32) (c_rateNow : Int32) (c_pence : Nat → Int64) (c_top : Int64) (c_bottom : Int64) (c_spot : Int32) (c_textLong : Int32) (c_fault : Int32) (c_number : Int32) (c_numberAt : Int32) (c_figures : Int32) (c_written : Int32) (c_wanted : Int32) (c_found : Int32) (c_drawnNow : Int32) (c_worth : Nat → Int64) (c_hold : Nat → Int64) (c_way : Nat → Int64) (c_acts : Nat → Int32) (c_sDay : Int32) (c_sUps : Int32) (c_sUp : Int32) (c_sMarks : Int32) (c_paidAll : Int64) (c_isPlayed : Int32) (c_isOn : Int32) (c_handMoved : Int32) (c_handPaid : Int64) (c_regret : Int64) (c_aside : Nat → Int32) (c_other : Nat → Int64) (c_states : Int32) (c_kept : Nat → Int32) (c_keptLong : Nat → Int64) (c_keptAt : Int32) (c_isTaking : Int32) (x8 : Int32) (c_moves : Nat → Int32) (o_c_moves : Nat → Int32) (H : Heap) (locs : List Loc) (ls : Array Slot), va_P (dC, dI) vwCl (mW dA ad c_tape c_taped c_tree c_bonds c_moves c_handMoves c_moved c_days c_likely c_outOf c_rateNow c_pence c_top c_bottom c_spot c_textLong c_fault c_number c_numberAt c_figures c_written c_wanted c_found c_drawnNow c_worth c_hold c_way c_acts c_sDay c_sUps c_sUp c_sMarks c_paidAll c_isPlayed c_isOn c_handMoved c_handPaid c_regret c_aside c_other c_states c_kept c_keptLong c_keptAt c_isTaking) H → va_D A (mW dA ad c_tape c_taped c_tree c_bonds c_moves c_handMoves c_moved c_days c_likely c_outOf c_rateNow c_pence c_top c_bottom c_spot c_textLong c_fault c_number c_numberAt c_figures c_written c_wanted c_found c_drawnNow c_worth c_hold c_way c_acts c_sDay c_sUps c_sUp c_sMarks c_paidAll c_isPlayed c_isOn c_handMoved c_handPaid c_regret c_aside c_other c_states c_kept c_keptLong c_keptAt c_isTaking) → va_S A s.heap H locs → lpX9_extreme_53 x1 x2 x3 x4 x5 x7 c_days n x8 c_moves = some (o_c_moves) → lv_has ls 9 [(0, .ref (ad 0)), (1, .int x1), (2, .int x2), (3, .int x3), (4, .int x4), (5, .long x5), (7, .int x7), (8, .int x8)] → (∀ (H : Heap) (locs : List Loc) (ls : Array Slot), va_P (dC, dI) vwCl (mW dA ad c_tape c_taped c_tree c_bonds o_c_moves c_handMoves c_moved c_days c_likely c_outOf c_rateNow c_pence c_top c_bottom c_spot c_textLong c_fault c_number c_numberAt c_figures c_written c_wanted c_found c_drawnNow c_worth c_hold c_way c_acts c_sDay c_sUps c_sUp c_sMarks c_paidAll c_isPlayed c_isOn c_handMoved c_handPaid c_regret c_aside c_other c_states c_kept c_keptLong c_keptAt c_isTaking) H → va_D A (mW dA ad c_tape c_taped c_tree c_bonds o_c_moves c_handMoves c_moved c_days c_likely c_outOf c_rateNow c_pence c_top c_bottom c_spot c_textLong c_fault c_number c_numberAt c_figures c_written c_wanted c_found c_drawnNow c_worth c_hold c_way c_acts c_sDay c_sUps c_sUp c_sMarks c_paidAll c_isPlayed c_isOn c_handMoved c_handPaid c_regret c_aside c_other c_states c_kept c_keptLong c_keptAt c_isTaking) → va_S A s.heap H locs → lv_has ls 9 [(0, .ref (ad 0)), (1, .int x1), (2, .int x2), (3, .int x3), (4, .int x4), (5, .long x5), (7, .int x7)] → W p l e rmX9_extreme s m ([.ref (ad 0), .int p1, .int p2, .int p3] : List Value).toArray below meth c H locs 0 0 Q (F0 m 82 ls [])) → W p l e rmX9_extreme s m ([.ref (ad 0), .int p1, .int p2, .int p3] : List Value).toArray below meth c H locs 0 0 Q (F0 m 53 ls []) := by
    intro n
    induction n with
    | zero =>
      intro x1 x2 x3 x4 x5 x7 c_days c_tape c_taped c_tree c_bonds c_handMoves c_moved c_likely c_outOf c_rateNow c_pence c_top c_bottom c_spot c_textLong c_fault c_number c_numberAt c_figures c_written c_wanted c_found c_drawnNow c_worth c_hold c_way c_acts c_sDay c_sUps c_sUp c_sMarks c_paidAll c_isPlayed c_isOn c_handMoved c_handPaid c_regret c_aside c_other c_states c_kept c_keptLong c_keptAt c_isTaking x8 c_moves o_c_moves H locs ls hP hD hS hf hl hk
      cases hf
    | succ n ih53 =>
      intro x1 x2 x3 x4 x5 x7 c_days c_tape c_taped c_tree c_bonds c_handMoves c_moved c_likely c_outOf c_rateNow c_pence c_top c_bottom c_spot c_textLong c_fault c_number c_numberAt c_figures c_written c_wanted c_found c_drawnNow c_worth c_hold c_way c_acts c_sDay c_sUps c_sUp c_sMarks c_paidAll c_isPlayed c_isOn c_handMoved c_handPaid c_regret c_aside c_other c_states c_kept c_keptLong c_keptAt c_isTaking x8 c_moves o_c_moves H locs ls hP hD hS hf hl hk
      rw [lpX9_extreme_53.eq_2] at hf
      refine lv_iload hx hb dX9_extreme_53 (lv_at hl 7 rfl) ?_
      refine lv_aload_n hx hb dX9_extreme_55 rfl (lv_at hl 0 rfl) ?_
      refine va_get (D := (dC, dI)) (ci := 9) (v := .int c_days) (C := RX9) (T := TX9) (N := 45) hx hb hts (fun w h => gw_mem (inX9 w h)) hown hK.1 hP 0 rfl rfl 7 (by decide) (hts _ (gw_mem wfX9_94)) (fun _ h9 => h9) rfl dX9_extreme_56 ?_
      refine lv_icmp_ge (tgt := 82) hx hb dX9_extreme_59 (by decide) (fun k57 => ?_) (fun k57 => ?_)
      · replace hf := ifp k57 hf
        cases hf
        exact hk _ _ _ hP hD hS (lv_sub hl [0, 1, 2, 3, 4, 5, 6] rfl)
      · replace hf := ifn k57 hf
        refine lv_aload_n hx hb dX9_extreme_62 rfl (lv_at hl 0 rfl) ?_
        refine va_get (D := (dC, dI)) (ci := 9) (v := .ref (ad 4)) (C := RX9) (T := TX9) (N := 45) hx hb hts (fun w h => gw_mem (inX9 w h)) hown hK.1 hP 0 rfl rfl 4 (by decide) (hts _ (gw_mem wfX9_20)) (fun _ h9 => h9) rfl dX9_extreme_63 ?_
        refine lv_iload hx hb dX9_extreme_66 (lv_at hl 7 rfl) ?_
        refine lv_iload hx hb dX9_extreme_68 (lv_at hl 6 rfl) ?_
        refine lv_iload hx hb dX9_extreme_70 (lv_at hl 7 rfl) ?_
        refine lv_ishr hx hb dX9_extreme_72 ?_
        refine lv_iconst (v := 1) hx hb dX9_extreme_73 (by decide) ?_
        refine lv_iand hx hb dX9_extreme_74 ?_
        obtain ⟨h58, hf⟩ := og_some hf
        obtain ⟨w59, ew59⟩ : ∃ y : Nat → Int32, y = upd c_moves (Int32.toNatClampNeg x8) ((x7 >>> (x8 &&& 31)) &&& 1) := ⟨_, rfl⟩
        replace hf := nm_at hf ew59
        refine va_iast hx hb hK.1 hP hD hS 4 0 rfl rfl (okI_in h58) dX9_extreme_75 (fun H locs hP hD hS => ?_)
        have hP : va_P (dC, dI) vwCl (mW dA ad c_tape c_taped c_tree c_bonds w59 c_handMoves c_moved c_days c_likely c_outOf c_rateNow c_pence c_top c_bottom c_spot c_textLong c_fault c_number c_numberAt c_figures c_written c_wanted c_found c_drawnNow c_worth c_hold c_way c_acts c_sDay c_sUps c_sUp c_sMarks c_paidAll c_isPlayed c_isOn c_handMoved c_handPaid c_regret c_aside c_other c_states c_kept c_keptLong c_keptAt c_isTaking) H := by rw [ew59]; exact hP
        have hD : va_D A (mW dA ad c_tape c_taped c_tree c_bonds w59 c_handMoves c_moved c_days c_likely c_outOf c_rateNow c_pence c_top c_bottom c_spot c_textLong c_fault c_number c_numberAt c_figures c_written c_wanted c_found c_drawnNow c_worth c_hold c_way c_acts c_sDay c_sUps c_sUp c_sMarks c_paidAll c_isPlayed c_isOn c_handMoved c_handPaid c_regret c_aside c_other c_states c_kept c_keptLong c_keptAt c_isTaking) := by rw [ew59]; exact hD
        obtain ⟨w60, ew60⟩ : ∃ y : Int32, y = x8 + 1 := ⟨_, rfl⟩
        replace hf := nm_at hf ew60
        refine lv_iinc (v := w60) (lv' := [(8, .int w60), (0, .ref (ad 0)), (1, .int x1), (2, .int x2), (3, .int x3), (4, .int x4), (5, .long x5), (7, .int x7)]) hx hb dX9_extreme_76 hl (k := 7) rfl (by rw [ew60]; rfl) (by decide) rfl (fun ls hl => ?_)
        refine lv_goto (tgt := 53) hx hb dX9_extreme_79 (by decide) ?_
        exact ih53 _ _ _ _ _ _ _ _ _ _ _ _ _ _ _ _ _ _ _ _ _ _ _ _ _ _ _ _ _ _ _ _ _ _ _ _ _ _ _ _ _ _ _ _ _ _ _ _ _ _ _ _ _ _ _ _ hP hD hS hf (lv_sub hl [1, 2, 3, 4, 5, 6, 7, 0] rfl) hk
  have LP39 : ∀ (n : Nat) (x1 : Int32) (x2 : Int32) (x3 : Int32) (c_bonds : Nat → Int32) (c_days : Int32) (c_pence : Nat → Int64) (c_acts : Nat → Int32) (c_tape : Nat → Int32) (c_taped : Int32) (c_tree : Nat → Int32) (c_handMoves : Nat → Int32) (c_moved : Int32) (c_likely : Int32) (c_outOf : Int32) (c_rateNow : Int32) (c_top : Int64) (c_bottom : Int64) (c_spot : Int32) (c_textLong : Int32) (c_fault : Int32) (c_number : Int32) (c_numberAt : Int32) (c_figures : Int32) (c_written : Int32) (c_wanted : Int32) (c_found : Int32) (c_drawnNow : Int32) (c_worth : Nat → Int64) (c_hold : Nat → Int64) (c_way : Nat → Int64) (c_isPlayed : Int32) (c_isOn : Int32) (c_handMoved : Int32) (c_handPaid : Int64) (c_regret : Int64) (c_aside : Nat → Int32) (c_other : Nat → Int64) (c_states : Int32) (c_kept : Nat → Int32) (c_keptLong : Nat → Int64) (c_keptAt : Int32) (c_isTaking : Int32) (x4 : Int32) (x5 : Int64) (x7 : Int32) (c_moves : Nat → Int32) (c_sDay : Int32) (c_sUps : Int32) (c_sUp : Int32) (c_sMarks : Int32) (c_paidAll : Int64) (o4 : Int32) (o5 : Int64) (o_c_moves : Nat → Int32) (o_c_sDay : Int32) (o_c_sUps : Int32) (o_c_sUp : Int32) (o_c_sMarks : Int32) (o_c_paidAll : Int64) (H : Heap) (locs : List Loc) (ls : Array Slot), va_P (dC, dI) vwCl (mW dA ad c_tape c_taped c_tree c_bonds c_moves c_handMoves c_moved c_days c_likely c_outOf c_rateNow c_pence c_top c_bottom c_spot c_textLong c_fault c_number c_numberAt c_figures c_written c_wanted c_found c_drawnNow c_worth c_hold c_way c_acts c_sDay c_sUps c_sUp c_sMarks c_paidAll c_isPlayed c_isOn c_handMoved c_handPaid c_regret c_aside c_other c_states c_kept c_keptLong c_keptAt c_isTaking) H → va_D A (mW dA ad c_tape c_taped c_tree c_bonds c_moves c_handMoves c_moved c_days c_likely c_outOf c_rateNow c_pence c_top c_bottom c_spot c_textLong c_fault c_number c_numberAt c_figures c_written c_wanted c_found c_drawnNow c_worth c_hold c_way c_acts c_sDay c_sUps c_sUp c_sMarks c_paidAll c_isPlayed c_isOn c_handMoved c_handPaid c_regret c_aside c_other c_states c_kept c_keptLong c_keptAt c_isTaking) → va_S A s.heap H locs → lpX9_extreme_39 x1 x2 x3 c_bonds c_days c_pence c_acts n x4 x5 x7 c_moves c_sDay c_sUps c_sUp c_sMarks c_paidAll = some (o4, o5, o_c_moves, o_c_sDay, o_c_sUps, o_c_sUp, o_c_sMarks, o_c_paidAll) → lv_has ls 9 [(0, .ref (ad 0)), (1, .int x1), (2, .int x2), (3, .int x3), (4, .int x4), (5, .long x5), (7, .int x7)] → (∀ (H : Heap) (locs : List Loc) (ls : Array Slot), va_P (dC, dI) vwCl (mW dA ad c_tape c_taped c_tree c_bonds o_c_moves c_handMoves c_moved c_days c_likely c_outOf c_rateNow c_pence c_top c_bottom c_spot c_textLong c_fault c_number c_numberAt c_figures c_written c_wanted c_found c_drawnNow c_worth c_hold c_way c_acts o_c_sDay o_c_sUps o_c_sUp o_c_sMarks o_c_paidAll c_isPlayed c_isOn c_handMoved c_handPaid c_regret c_aside c_other c_states c_kept c_keptLong c_keptAt c_isTaking) H → va_D A (mW dA ad c_tape c_taped c_tree c_bonds o_c_moves c_handMoves c_moved c_days c_likely c_outOf c_rateNow c_pence c_top c_bottom c_spot c_textLong c_fault c_number c_numberAt c_figures c_written c_wanted c_found c_drawnNow c_worth c_hold c_way c_acts o_c_sDay o_c_sUps o_c_sUp o_c_sMarks o_c_paidAll c_isPlayed c_isOn c_handMoved c_handPaid c_regret c_aside c_other c_states c_kept c_keptLong c_keptAt c_isTaking) → va_S A s.heap H locs → lv_has ls 9 [(0, .ref (ad 0)), (3, .int x3), (4, .int o4), (5, .long o5)] → W p l e rmX9_extreme s m ([.ref (ad 0), .int p1, .int p2, .int p3] : List Value).toArray below meth c H locs 0 0 Q (F0 m 150 ls [])) → W p l e rmX9_extreme s m ([.ref (ad 0), .int p1, .int p2, .int p3] : List Value).toArray below meth c H locs 0 0 Q (F0 m 39 ls []) := by
    intro n
    induction n with
    | zero =>
      intro x1 x2 x3 c_bonds c_days c_pence c_acts c_tape c_taped c_tree c_handMoves c_moved c_likely c_outOf c_rateNow c_top c_bottom c_spot c_textLong c_fault c_number c_numberAt c_figures c_written c_wanted c_found c_drawnNow c_worth c_hold c_way c_isPlayed c_isOn c_handMoved c_handPaid c_regret c_aside c_other c_states c_kept c_keptLong c_keptAt c_isTaking x4 x5 x7 c_moves c_sDay c_sUps c_sUp c_sMarks c_paidAll o4 o5 o_c_moves o_c_sDay o_c_sUps o_c_sUp o_c_sMarks o_c_paidAll H locs ls hP hD hS hf hl hk
      cases hf
    | succ n ih39 =>
      intro x1 x2 x3 c_bonds c_days c_pence c_acts c_tape c_taped c_tree c_handMoves c_moved c_likely c_outOf c_rateNow c_top c_bottom c_spot c_textLong c_fault c_number c_numberAt c_figures c_written c_wanted c_found c_drawnNow c_worth c_hold c_way c_isPlayed c_isOn c_handMoved c_handPaid c_regret c_aside c_other c_states c_kept c_keptLong c_keptAt c_isTaking x4 x5 x7 c_moves c_sDay c_sUps c_sUp c_sMarks c_paidAll o4 o5 o_c_moves o_c_sDay o_c_sUps o_c_sUp o_c_sMarks o_c_paidAll H locs ls hP hD hS hf hl hk
      rw [lpX9_extreme_39.eq_2] at hf
      refine lv_iload hx hb dX9_extreme_39 (lv_at hl 6 rfl) ?_
      refine lv_iconst (v := 1) hx hb dX9_extreme_41 (by decide) ?_
      refine lv_aload_n hx hb dX9_extreme_42 rfl (lv_at hl 0 rfl) ?_
      refine va_get (D := (dC, dI)) (ci := 9) (v := .int c_days) (C := RX9) (T := TX9) (N := 45) hx hb hts (fun w h => gw_mem (inX9 w h)) hown hK.1 hP 0 rfl rfl 7 (by decide) (hts _ (gw_mem wfX9_94)) (fun _ h9 => h9) rfl dX9_extreme_43 ?_
      refine lv_ishl hx hb dX9_extreme_46 ?_
      refine lv_icmp_ge (tgt := 150) hx hb dX9_extreme_47 (by decide) (fun k37 => ?_) (fun k37 => ?_)
      · replace hf := ifp k37 hf
        cases hf
        exact hk _ _ _ hP hD hS (lv_sub hl [0, 3, 4, 5] rfl)
      · replace hf := ifn k37 hf
        refine lv_iconst (v := 0) hx hb dX9_extreme_50 (by decide) ?_
        refine lv_istore (lv' := [(8, .int 0), (0, .ref (ad 0)), (1, .int x1), (2, .int x2), (3, .int x3), (4, .int x4), (5, .long x5), (7, .int x7)]) hx hb dX9_extreme_51 hl (by decide) rfl (fun ls hl => ?_)
        obtain ⟨c_moves_38, v39, hf⟩ := bd1_some hf
        refine LP53 FU _ _ _ _ _ _ _ _ _ _ _ _ _ _ _ _ _ _ _ _ _ _ _ _ _ _ _ _ _ _ _ _ _ _ _ _ _ _ _ _ _ _ _ _ _ _ _ _ _ _ _ _ _ _ _ _ hP hD hS v39 (lv_sub hl [1, 2, 3, 4, 5, 6, 7, 0] rfl) (fun H locs ls hP hD hS hl => ?_)
        refine lv_aload_n hx hb dX9_extreme_82 rfl (lv_at hl 0 rfl) ?_
        refine lv_iload_n hx hb dX9_extreme_83 rfl (lv_at hl 1 rfl) ?_
        refine lv_aload_n hx hb dX9_extreme_84 rfl (lv_at hl 0 rfl) ?_
        refine va_get (D := (dC, dI)) (ci := 9) (v := .int c_days) (C := RX9) (T := TX9) (N := 45) hx hb hts (fun w h => gw_mem (inX9 w h)) hown hK.1 hP 0 rfl rfl 7 (by decide) (hts _ (gw_mem wfX9_94)) (fun _ h9 => h9) rfl dX9_extreme_85 ?_
        obtain ⟨r40, c_sDay_41, c_sUps_42, c_sUp_43, c_sMarks_44, c_paidAll_45, v46, hf⟩ := bd6_some hf
        refine gci (va_runV (As := [.int x1, .int c_days]) (rest := []) ⟨hx, hb, hml, hown, hts⟩ (tX9_endsAlong l dC dI dA ad H.size v46) (ccX9_X9_endsAlong hts ⟨Nat.le_of_ble_eq_true rfl, Nat.le_of_ble_eq_true rfl⟩) (gPreV (ci := 9) (q0 := 0) hP hK hD rfl rfl) rfl rfl hl.1 rfl (lv_room (Nat.le_of_ble_eq_true rfl)) dX9_extreme_88 ⟨Nat.le_of_ble_eq_true rfl, Nat.le_of_ble_eq_true rfl⟩) hD hS hA (fun H locs hP hD hS => ?_)
        refine lv_istore (lv' := [(8, .int r40), (0, .ref (ad 0)), (1, .int x1), (2, .int x2), (3, .int x3), (4, .int x4), (5, .long x5), (7, .int x7)]) hx hb dX9_extreme_91 hl (by decide) rfl (fun ls hl => ?_)
        refine lv_iload hx hb dX9_extreme_93 (lv_at hl 0 rfl) ?_
        obtain ⟨j48, j49, v51, hf⟩ := bd2_some hf
        have J50 : ∀ (H : Heap) (locs : List Loc) (ls : Array Slot), va_P (dC, dI) vwCl (mW dA ad c_tape c_taped c_tree c_bonds c_moves_38 c_handMoves c_moved c_days c_likely c_outOf c_rateNow c_pence c_top c_bottom c_spot c_textLong c_fault c_number c_numberAt c_figures c_written c_wanted c_found c_drawnNow c_worth c_hold c_way c_acts c_sDay_41 c_sUps_42 c_sUp_43 c_sMarks_44 c_paidAll_45 c_isPlayed c_isOn c_handMoved c_handPaid c_regret c_aside c_other c_states c_kept c_keptLong c_keptAt c_isTaking) H → va_D A (mW dA ad c_tape c_taped c_tree c_bonds c_moves_38 c_handMoves c_moved c_days c_likely c_outOf c_rateNow c_pence c_top c_bottom c_spot c_textLong c_fault c_number c_numberAt c_figures c_written c_wanted c_found c_drawnNow c_worth c_hold c_way c_acts c_sDay_41 c_sUps_42 c_sUp_43 c_sMarks_44 c_paidAll_45 c_isPlayed c_isOn c_handMoved c_handPaid c_regret c_aside c_other c_states c_kept c_keptLong c_keptAt c_isTaking) → va_S A s.heap H locs → lv_has ls 9 [(0, .ref (ad 0)), (1, .int x1), (2, .int x2), (3, .int x3), (4, .int j48), (5, .long j49), (7, .int x7)] → W p l e rmX9_extreme s m ([.ref (ad 0), .int p1, .int p2, .int p3] : List Value).toArray below meth c H locs 0 0 Q (F0 m 144 ls []) := by
          intro H locs ls hP hD hS hl
          obtain ⟨w52, ew52⟩ : ∃ y : Int32, y = x7 + 1 := ⟨_, rfl⟩
          replace hf := nm_at hf ew52
          refine lv_iinc (v := w52) (lv' := [(7, .int w52), (0, .ref (ad 0)), (1, .int x1), (2, .int x2), (3, .int x3), (4, .int j48), (5, .long j49)]) hx hb dX9_extreme_144 hl (k := 6) rfl (by rw [ew52]; rfl) (by decide) rfl (fun ls hl => ?_)
          refine lv_goto (tgt := 39) hx hb dX9_extreme_147 (by decide) ?_
          exact ih39 _ _ _ _ _ _ _ _ _ _ _ _ _ _ _ _ _ _ _ _ _ _ _ _ _ _ _ _ _ _ _ _ _ _ _ _ _ _ _ _ _ _ _ _ _ _ _ _ _ _ _ _ _ _ _ _ _ _ _ _ _ _ hP hD hS hf (lv_sub hl [1, 2, 3, 4, 5, 6, 0] rfl) hk
        replace hf := v51
        clear v51
        refine lv_if_eq (tgt := 144) hx hb dX9_extreme_95 (by decide) (fun k47 => ?_) (fun k47 => ?_)
        · replace hf := ifp k47 hf
          cases hf
          exact J50 _ _ _ hP hD hS (lv_sub hl [1, 2, 3, 4, 5, 6, 7] rfl)
        · replace hf := ifn k47 hf
          refine lv_iload hx hb dX9_extreme_98 (lv_at hl 5 rfl) ?_
          refine lv_iconst (v := (-1)) hx hb dX9_extreme_100 (by decide) ?_
          refine lv_icmp_eq (tgt := 134) hx hb dX9_extreme_101 (by decide) (fun k53 => ?_) (fun k53 => ?_)
          · replace hf := ifp k53 hf
            refine lv_iload hx hb dX9_extreme_134 (lv_at hl 7 rfl) ?_
            refine lv_istore (lv' := [(4, .int x7), (8, .int r40), (0, .ref (ad 0)), (1, .int x1), (2, .int x2), (3, .int x3), (5, .long x5), (7, .int x7)]) hx hb dX9_extreme_136 hl (by decide) rfl (fun ls hl => ?_)
            refine lv_aload_n hx hb dX9_extreme_138 rfl (lv_at hl 2 rfl) ?_
            refine va_get (D := (dC, dI)) (ci := 9) (v := .long c_paidAll_45) (C := RX9) (T := TX9) (N := 45) hx hb hts (fun w h => gw_mem (inX9 w h)) hown hK.1 hP 0 rfl rfl 32 (by decide) (hts _ (gw_mem wfX9_345)) (fun _ h9 => h9) rfl dX9_extreme_139 ?_
            refine lv_lstore (lv' := [(5, .long c_paidAll_45), (4, .int x7), (8, .int r40), (0, .ref (ad 0)), (1, .int x1), (2, .int x2), (3, .int x3), (7, .int x7)]) hx hb dX9_extreme_142 hl (by decide) rfl (fun ls hl => ?_)
            cases hf
            exact J50 _ _ _ hP hD hS (lv_sub hl [3, 4, 5, 6, 1, 0, 7] rfl)
          · replace hf := ifn k53 hf
            refine lv_iload_n hx hb dX9_extreme_104 rfl (lv_at hl 3 rfl) ?_
            refine lv_if_eq (tgt := 121) hx hb dX9_extreme_105 (by decide) (fun k54 => ?_) (fun k54 => ?_)
            · replace hf := ifp k54 hf
              refine lv_aload_n hx hb dX9_extreme_121 rfl (lv_at hl 1 rfl) ?_
              refine va_get (D := (dC, dI)) (ci := 9) (v := .long c_paidAll_45) (C := RX9) (T := TX9) (N := 45) hx hb hts (fun w h => gw_mem (inX9 w h)) hown hK.1 hP 0 rfl rfl 32 (by decide) (hts _ (gw_mem wfX9_345)) (fun _ h9 => h9) rfl dX9_extreme_122 ?_
              refine lv_lload hx hb dX9_extreme_125 (lv_at hl 6 rfl) ?_
              refine W.lcmp hx hb dX9_extreme_127 ?_
              refine lv_if_lt (tgt := 134) hx hb dX9_extreme_128 (by decide) (fun k55 => ?_) (fun k55 => ?_)
              · replace hf := ifp (lc_lt.mp k55) hf
                refine lv_iload hx hb dX9_extreme_134 (lv_at hl 7 rfl) ?_
                refine lv_istore (lv' := [(4, .int x7), (8, .int r40), (0, .ref (ad 0)), (1, .int x1), (2, .int x2), (3, .int x3), (5, .long x5), (7, .int x7)]) hx hb dX9_extreme_136 hl (by decide) rfl (fun ls hl => ?_)
                refine lv_aload_n hx hb dX9_extreme_138 rfl (lv_at hl 2 rfl) ?_
                refine va_get (D := (dC, dI)) (ci := 9) (v := .long c_paidAll_45) (C := RX9) (T := TX9) (N := 45) hx hb hts (fun w h => gw_mem (inX9 w h)) hown hK.1 hP 0 rfl rfl 32 (by decide) (hts _ (gw_mem wfX9_345)) (fun _ h9 => h9) rfl dX9_extreme_139 ?_
                refine lv_lstore (lv' := [(5, .long c_paidAll_45), (4, .int x7), (8, .int r40), (0, .ref (ad 0)), (1, .int x1), (2, .int x2), (3, .int x3), (7, .int x7)]) hx hb dX9_extreme_142 hl (by decide) rfl (fun ls hl => ?_)
                cases hf
                exact J50 _ _ _ hP hD hS (lv_sub hl [3, 4, 5, 6, 1, 0, 7] rfl)
              · replace hf := ifn (fun h => k55 (lc_lt.mpr h)) hf
                refine lv_goto (tgt := 144) hx hb dX9_extreme_131 (by decide) ?_
                cases hf
                exact J50 _ _ _ hP hD hS (lv_sub hl [1, 2, 3, 4, 5, 6, 7] rfl)
            · replace hf := ifn k54 hf
              refine lv_aload_n hx hb dX9_extreme_108 rfl (lv_at hl 1 rfl) ?_
              refine va_get (D := (dC, dI)) (ci := 9) (v := .long c_paidAll_45) (C := RX9) (T := TX9) (N := 45) hx hb hts (fun w h => gw_mem (inX9 w h)) hown hK.1 hP 0 rfl rfl 32 (by decide) (hts _ (gw_mem wfX9_345)) (fun _ h9 => h9) rfl dX9_extreme_109 ?_
              refine lv_lload hx hb dX9_extreme_112 (lv_at hl 6 rfl) ?_
              refine W.lcmp hx hb dX9_extreme_114 ?_
              refine lv_if_gt (tgt := 134) hx hb dX9_extreme_115 (by decide) (fun k56 => ?_) (fun k56 => ?_)
              · replace hf := ifp (lc_gt.mp k56) hf
                refine lv_iload hx hb dX9_extreme_134 (lv_at hl 7 rfl) ?_
                refine lv_istore (lv' := [(4, .int x7), (8, .int r40), (0, .ref (ad 0)), (1, .int x1), (2, .int x2), (3, .int x3), (5, .long x5), (7, .int x7)]) hx hb dX9_extreme_136 hl (by decide) rfl (fun ls hl => ?_)
                refine lv_aload_n hx hb dX9_extreme_138 rfl (lv_at hl 2 rfl) ?_
                refine va_get (D := (dC, dI)) (ci := 9) (v := .long c_paidAll_45) (C := RX9) (T := TX9) (N := 45) hx hb hts (fun w h => gw_mem (inX9 w h)) hown hK.1 hP 0 rfl rfl 32 (by decide) (hts _ (gw_mem wfX9_345)) (fun _ h9 => h9) rfl dX9_extreme_139 ?_
                refine lv_lstore (lv' := [(5, .long c_paidAll_45), (4, .int x7), (8, .int r40), (0, .ref (ad 0)), (1, .int x1), (2, .int x2), (3, .int x3), (7, .int x7)]) hx hb dX9_extreme_142 hl (by decide) rfl (fun ls hl => ?_)
                cases hf
                exact J50 _ _ _ hP hD hS (lv_sub hl [3, 4, 5, 6, 1, 0, 7] rfl)
              · replace hf := ifn (fun h => k56 (lc_gt.mpr h)) hf
                refine lv_goto (tgt := 144) hx hb dX9_extreme_118 (by decide) ?_
                cases hf
                exact J50 _ _ _ hP hD hS (lv_sub hl [1, 2, 3, 4, 5, 6, 7] rfl)
  subst hQ
  unfold fX9_extreme at hf
  refine lv_iload_n hx hb dX9_extreme_0 rfl (lv_at hl 1 rfl) ?_
  obtain ⟨r1, v2, hf⟩ := bd1_some hf
  refine gci0 (va_runS (As := [.int p1]) (rest := []) ⟨hx, hb, hml, hown, hts⟩ (tX9_isBond l dC dI dA s.heap.size v2) (ccX9_X9_isBond hts ⟨Nat.le_of_ble_eq_true rfl, Nat.le_of_ble_eq_true rfl⟩) (gPreS0 hK) rfl rfl hl.1 rfl (lv_room (Nat.le_of_ble_eq_true rfl)) dX9_extreme_1 ⟨Nat.le_of_ble_eq_true rfl, Nat.le_of_ble_eq_true rfl⟩) hP hS hA (fun H locs hP hS => ?_)
  refine lv_if_eq (tgt := 17) hx hb dX9_extreme_4 (by decide) (fun k3 => ?_) (fun k3 => ?_)
  · replace hf := ifp k3 hf
    refine lv_ldc2 (v := (-1)) hx hb hown (hts _ (gw_mem wkX9_116)) dX9_extreme_17 ?_
    cases hf
    exact W.lret hx hb hr (fun t ht _ => gql hP hD hS ht) hS.2.2 dX9_extreme_20
  · replace hf := ifn k3 hf
    refine lv_iload_n hx hb dX9_extreme_7 rfl (lv_at hl 3 rfl) ?_
    refine lv_i2l hx hb dX9_extreme_8 rfl ?_
    refine lv_lconst (v := 0) hx hb dX9_extreme_9 rfl ?_
    refine lv_lconst (v := 1) hx hb dX9_extreme_10 rfl ?_
    obtain ⟨r4, v5, hf⟩ := bd1_some hf
    refine gci0 (va_runS (As := [.long (Int32.toInt64 p3), .long 0, .long 1]) (rest := []) ⟨hx, hb, hml, hown, hts⟩ (tX9_in l dC dI dA H.size v5) (ccX9_X9_in hts ⟨Nat.le_of_ble_eq_true rfl, Nat.le_of_ble_eq_true rfl⟩) (gPreS0 hK) rfl rfl hl.1 rfl (lv_room (Nat.le_of_ble_eq_true rfl)) dX9_extreme_11 ⟨Nat.le_of_ble_eq_true rfl, Nat.le_of_ble_eq_true rfl⟩) hP hS hA (fun H locs hP hS => ?_)
    refine lv_if_ne (tgt := 21) hx hb dX9_extreme_14 (by decide) (fun k6 => ?_) (fun k6 => ?_)
    · replace hf := ifn k6 hf
      refine lv_aload_n hx hb dX9_extreme_21 rfl (lv_at hl 0 rfl) ?_
      refine lv_iload_n hx hb dX9_extreme_22 rfl (lv_at hl 1 rfl) ?_
      obtain ⟨c_days_7, c_likely_8, c_outOf_9, c_rateNow_10, c_pence_11, c_top_12, c_bottom_13, c_worth_14, c_hold_15, c_acts_16, v17, hf⟩ := bd10_some hf
      refine gcv (va_runV (As := [.int p1]) (rest := []) ⟨hx, hb, hml, hown, hts⟩ (tX9_playsNow l dC dI dA ad H.size v17) (ccX9_X9_playsNow hts ⟨Nat.le_of_ble_eq_true rfl, Nat.le_of_ble_eq_true rfl⟩) (gPreV (ci := 9) (q0 := 0) hP hK hD rfl rfl) rfl rfl hl.1 rfl (lv_room (Nat.le_of_ble_eq_true rfl)) dX9_extreme_23 ⟨Nat.le_of_ble_eq_true rfl, Nat.le_of_ble_eq_true rfl⟩) hD hS hA (fun H locs hP hD hS => ?_)
      refine lv_aload_n hx hb dX9_extreme_26 rfl (lv_at hl 0 rfl) ?_
      obtain ⟨c_moves_18, c_aside_19, v20, hf⟩ := bd2_some hf
      refine gcv (va_runV (As := []) (rest := []) ⟨hx, hb, hml, hown, hts⟩ (tX9_swaps l dC dI dA ad H.size v20) (ccX9_X9_swaps hts ⟨Nat.le_of_ble_eq_true rfl, Nat.le_of_ble_eq_true rfl⟩) (gPreV (ci := 9) (q0 := 0) hP hK hD rfl rfl) rfl rfl hl.1 rfl (lv_room (Nat.le_of_ble_eq_true rfl)) dX9_extreme_27 ⟨Nat.le_of_ble_eq_true rfl, Nat.le_of_ble_eq_true rfl⟩) hD hS hA (fun H locs hP hD hS => ?_)
      refine lv_iconst (v := (-1)) hx hb dX9_extreme_30 (by decide) ?_
      refine lv_istore (lv' := [(4, .int (-1)), (0, .ref (ad 0)), (1, .int p1), (2, .int p2), (3, .int p3)]) hx hb dX9_extreme_31 hl (by decide) rfl (fun ls hl => ?_)
      refine lv_lconst (v := 0) hx hb dX9_extreme_33 rfl ?_
      refine lv_lstore (lv' := [(5, .long 0), (4, .int (-1)), (0, .ref (ad 0)), (1, .int p1), (2, .int p2), (3, .int p3)]) hx hb dX9_extreme_34 hl (by decide) rfl (fun ls hl => ?_)
      refine lv_iconst (v := 0) hx hb dX9_extreme_36 (by decide) ?_
      refine lv_istore (lv' := [(7, .int 0), (5, .long 0), (4, .int (-1)), (0, .ref (ad 0)), (1, .int p1), (2, .int p2), (3, .int p3)]) hx hb dX9_extreme_37 hl (by decide) rfl (fun ls hl => ?_)
      obtain ⟨x21, x22, c_moves_23, c_sDay_24, c_sUps_25, c_sUp_26, c_sMarks_27, c_paidAll_28, v29, hf⟩ := bd8_some hf
      refine LP39 FU _ _ _ _ _ _ _ _ _ _ _ _ _ _ _ _ _ _ _ _ _ _ _ _ _ _ _ _ _ _ _ _ _ _ _ _ _ _ _ _ _ _ _ _ _ _ _ _ _ _ _ _ _ _ _ _ _ _ _ _ _ _ hP hD hS v29 (lv_sub hl [3, 4, 5, 6, 2, 1, 0] rfl) (fun H locs ls hP hD hS hl => ?_)
      refine lv_aload_n hx hb dX9_extreme_150 rfl (lv_at hl 0 rfl) ?_
      obtain ⟨c_moves_30, c_aside_31, v32, hf⟩ := bd2_some hf
      refine gcv (va_runV (As := []) (rest := []) ⟨hx, hb, hml, hown, hts⟩ (tX9_swaps l dC dI dA ad H.size v32) (ccX9_X9_swaps hts ⟨Nat.le_of_ble_eq_true rfl, Nat.le_of_ble_eq_true rfl⟩) (gPreV (ci := 9) (q0 := 0) hP hK hD rfl rfl) rfl rfl hl.1 rfl (lv_room (Nat.le_of_ble_eq_true rfl)) dX9_extreme_151 ⟨Nat.le_of_ble_eq_true rfl, Nat.le_of_ble_eq_true rfl⟩) hD hS hA (fun H locs hP hD hS => ?_)
      refine lv_iload_n hx hb dX9_extreme_154 rfl (lv_at hl 1 rfl) ?_
      obtain ⟨j34, v36, hf⟩ := bd1_some hf
      have J35 : ∀ (H : Heap) (locs : List Loc) (ls : Array Slot), va_P (dC, dI) vwCl (mW dA ad c_tape c_taped c_tree c_bonds c_moves_30 c_handMoves c_moved c_days_7 c_likely_8 c_outOf_9 c_rateNow_10 c_pence_11 c_top_12 c_bottom_13 c_spot c_textLong c_fault c_number c_numberAt c_figures c_written c_wanted c_found c_drawnNow c_worth_14 c_hold_15 c_way c_acts_16 c_sDay_24 c_sUps_25 c_sUp_26 c_sMarks_27 c_paidAll_28 c_isPlayed c_isOn c_handMoved c_handPaid c_regret c_aside_31 c_other c_states c_kept c_keptLong c_keptAt c_isTaking) H → va_D A (mW dA ad c_tape c_taped c_tree c_bonds c_moves_30 c_handMoves c_moved c_days_7 c_likely_8 c_outOf_9 c_rateNow_10 c_pence_11 c_top_12 c_bottom_13 c_spot c_textLong c_fault c_number c_numberAt c_figures c_written c_wanted c_found c_drawnNow c_worth_14 c_hold_15 c_way c_acts_16 c_sDay_24 c_sUps_25 c_sUp_26 c_sMarks_27 c_paidAll_28 c_isPlayed c_isOn c_handMoved c_handPaid c_regret c_aside_31 c_other c_states c_kept c_keptLong c_keptAt c_isTaking) → va_S A s.heap H locs → lv_has ls 9 [] → W p l e rmX9_extreme s m ([.ref (ad 0), .int p1, .int p2, .int p3] : List Value).toArray below meth c H locs 0 0 (MQ below (gQl (dC, dI) r (mW dA ad c_tape c_taped c_tree c_bonds o_c_moves c_handMoves c_moved o_c_days o_c_likely o_c_outOf o_c_rateNow o_c_pence o_c_top o_c_bottom c_spot c_textLong c_fault c_number c_numberAt c_figures c_written c_wanted c_found c_drawnNow o_c_worth o_c_hold c_way o_c_acts o_c_sDay o_c_sUps o_c_sUp o_c_sMarks o_c_paidAll c_isPlayed c_isOn c_handMoved c_handPaid c_regret o_c_aside c_other c_states c_kept c_keptLong c_keptAt c_isTaking) A) ([.ref (ad 0), .int p1, .int p2, .int p3] : List Value).toArray s 0 0 A) (F0 m 166 ls [.long j34]) := by
        intro H locs ls hP hD hS hl
        cases hf
        exact W.lret hx hb hr (fun t ht _ => gql hP hD hS ht) hS.2.2 dX9_extreme_166
      replace hf := v36
      clear v36
      refine lv_if_ne (tgt := 163) hx hb dX9_extreme_155 (by decide) (fun k33 => ?_) (fun k33 => ?_)
      · replace hf := ifn k33 hf
        refine lv_iload hx hb dX9_extreme_163 (lv_at hl 2 rfl) ?_
        refine lv_i2l hx hb dX9_extreme_165 rfl ?_
        cases hf
        exact J35 _ _ _ hP hD hS (lv_sub hl [] rfl)
      · replace hf := ifp k33 hf
        refine lv_lload hx hb dX9_extreme_158 (lv_at hl 3 rfl) ?_
        refine lv_goto (tgt := 166) hx hb dX9_extreme_160 (by decide) ?_
        cases hf
        exact J35 _ _ _ hP hD hS (lv_sub hl [] rfl)
    · replace hf := ifp k6 hf
      refine lv_ldc2 (v := (-1)) hx hb hown (hts _ (gw_mem wkX9_116)) dX9_extreme_17 ?_
      cases hf
      exact W.lret hx hb hr (fun t ht _ => gql hP hD hS ht) hS.2.2 dX9_extreme_20
abbrev rmX9_alike : Room := { frames := 7, cells := 0, slots := 0, locals := 184 }
set_option maxHeartbeats 4000000 in
set_option maxRecDepth 100000 in
theorem tX9_alike (l : Launch) (dC : Nat → ClassId) (dI : Nat → Nat → Nat) (dA : Nat → ClassId) (ad : Nat → Nat) (sz : Nat) {p1 : Int32} {p2 : Int32} {p3 : Int32} {c_tape : Nat → Int32} {c_taped : Int32} {c_tree : Nat → Int32} {c_bonds : Nat → Int32} {c_moves : Nat → Int32} {c_handMoves : Nat → Int32} {c_moved : Int32} {c_days : Int32} {c_likely : Int32} {c_outOf : Int32} {c_rateNow : Int32} {c_pence : Nat → Int64} {c_top : Int64} {c_bottom : Int64} {c_spot : Int32} {c_textLong : Int32} {c_fault : Int32} {c_number : Int32} {c_numberAt : Int32} {c_figures : Int32} {c_written : Int32} {c_wanted : Int32} {c_found : Int32} {c_drawnNow : Int32} {c_worth : Nat → Int64} {c_hold : Nat → Int64} {c_way : Nat → Int64} {c_acts : Nat → Int32} {c_sDay : Int32} {c_sUps : Int32} {c_sUp : Int32} {c_sMarks : Int32} {c_paidAll : Int64} {c_isPlayed : Int32} {c_isOn : Int32} {c_handMoved : Int32} {c_handPaid : Int64} {c_regret : Int64} {c_aside : Nat → Int32} {c_other : Nat → Int64} {c_states : Int32} {c_kept : Nat → Int32} {c_keptLong : Nat → Int64} {c_keptAt : Int32} {c_isTaking : Int32} {r : Int32} {o_c_days : Int32} {o_c_likely : Int32} {o_c_outOf : Int32} {o_c_rateNow : Int32} {o_c_pence : Nat → Int64} {o_c_top : Int64} {o_c_bottom : Int64} {o_c_worth : Nat → Int64} {o_c_hold : Nat → Int64} {o_c_acts : Nat → Int32} {o_c_sDay : Int32} {o_c_sUps : Int32} {o_c_sUp : Int32} {o_c_sMarks : Int32} {o_c_other : Nat → Int64} (hf : fX9_alike p1 p2 p3 c_tree c_bonds c_days c_likely c_outOf c_rateNow c_pence c_top c_bottom c_worth c_hold c_acts c_sDay c_sUps c_sUp c_sMarks c_other = some (r, o_c_days, o_c_likely, o_c_outOf, o_c_rateNow, o_c_pence, o_c_top, o_c_bottom, o_c_worth, o_c_hold, o_c_acts, o_c_sDay, o_c_sUps, o_c_sUp, o_c_sMarks, o_c_other)) : Met l yX9_alike (wq (Cond.code yX9_alike cX9_alike 10 (some .int))) rmX9_alike (gP [.ref (ad 0), .int p1, .int p2, .int p3] (dC, dI) dA (mW dA ad c_tape c_taped c_tree c_bonds c_moves c_handMoves c_moved c_days c_likely c_outOf c_rateNow c_pence c_top c_bottom c_spot c_textLong c_fault c_number c_numberAt c_figures c_written c_wanted c_found c_drawnNow c_worth c_hold c_way c_acts c_sDay c_sUps c_sUp c_sMarks c_paidAll c_isPlayed c_isOn c_handMoved c_handPaid c_regret c_aside c_other c_states c_kept c_keptLong c_keptAt c_isTaking) sz) (gQi (dC, dI) r (mW dA ad c_tape c_taped c_tree c_bonds c_moves c_handMoves c_moved o_c_days o_c_likely o_c_outOf o_c_rateNow o_c_pence o_c_top o_c_bottom c_spot c_textLong c_fault c_number c_numberAt c_figures c_written c_wanted c_found c_drawnNow o_c_worth o_c_hold c_way o_c_acts o_c_sDay o_c_sUps o_c_sUp o_c_sMarks c_paidAll c_isPlayed c_isOn c_handMoved c_handPaid c_regret c_aside o_c_other c_states c_kept c_keptLong c_keptAt c_isTaking) (va_A (mW dA ad c_tape c_taped c_tree c_bonds c_moves c_handMoves c_moved c_days c_likely c_outOf c_rateNow c_pence c_top c_bottom c_spot c_textLong c_fault c_number c_numberAt c_figures c_written c_wanted c_found c_drawnNow c_worth c_hold c_way c_acts c_sDay c_sUps c_sUp c_sMarks c_paidAll c_isPlayed c_isOn c_handMoved c_handPaid c_regret c_aside c_other c_states c_kept c_keptLong c_keptAt c_isTaking) sz)) 0 0 (va_A (mW dA ad c_tape c_taped c_tree c_bonds c_moves c_handMoves c_moved c_days c_likely c_outOf c_rateNow c_pence c_top c_bottom c_spot c_textLong c_fault c_number c_numberAt c_figures c_written c_wanted c_found c_drawnNow c_worth c_hold c_way c_acts c_sDay c_sUps c_sUp c_sMarks c_paidAll c_isPlayed c_isOn c_handMoved c_handPaid c_regret c_aside c_other c_states c_kept c_keptLong c_keptAt c_isTaking) sz) := by
  refine Met.ofW (cc := cX9_alike) (maxL := 10) (ret := (some .int)) (by decide) rfl ?_
  intro p e s m args below meth c s₁ B hml hv
  obtain ⟨rfl, hsz, hP, hK, hD0⟩ := hv
  have hx := B.exec
  have hb := B.bytes
  have hr := B.returns
  have hts := atoms_spec (ws := wq (Cond.code yX9_alike cX9_alike 10 (some .int))) B.pre
  have hown : s.vm.findClass RX9 = some m.cls := findClass_of_methodNamed B.named
  have hlocks := B.notSynchronized
  clear B
  subst hsz
  have hD := hD0.self (sz := s.heap.size)
  generalize hAe : va_A (mW dA ad c_tape c_taped c_tree c_bonds c_moves c_handMoves c_moved c_days c_likely c_outOf c_rateNow c_pence c_top c_bottom c_spot c_textLong c_fault c_number c_numberAt c_figures c_written c_wanted c_found c_drawnNow c_worth c_hold c_way c_acts c_sDay c_sUps c_sUp c_sMarks c_paidAll c_isPlayed c_isOn c_handMoved c_handPaid c_regret c_aside c_other c_states c_kept c_keptLong c_keptAt c_isTaking) s.heap.size = A at hD ⊢
  have hA : ∀ q : Nat, s.heap.size ≤ q → A q := fun q h => by rw [← hAe]; exact Or.inr h
  clear hAe hD0
  have hS : va_S A s.heap s.heap [] := va_S.rf
  have hl := lv_entry ([.ref (ad 0), .int p1, .int p2, .int p3]) (n := 10) (Nat.le_of_ble_eq_true rfl)
  rw [lg_entry_eq]
  generalize (lg_sl ([.ref (ad 0), .int p1, .int p2, .int p3]) ++ List.replicate (10 - (lg_sl ([.ref (ad 0), .int p1, .int p2, .int p3])).length) Slot.unset).toArray = ls at hl ⊢
  have hl : lv_has ls 10 [(0, .ref (ad 0)), (1, .int p1), (2, .int p2), (3, .int p3)] := hl
  change W p l e rmX9_alike s m ([.ref (ad 0), .int p1, .int p2, .int p3] : List Value).toArray below meth c s.heap [] 0 0 _ _
  generalize hQ : MQ below (gQi (dC, dI) r (mW dA ad c_tape c_taped c_tree c_bonds c_moves c_handMoves c_moved o_c_days o_c_likely o_c_outOf o_c_rateNow o_c_pence o_c_top o_c_bottom c_spot c_textLong c_fault c_number c_numberAt c_figures c_written c_wanted c_found c_drawnNow o_c_worth o_c_hold c_way o_c_acts o_c_sDay o_c_sUps o_c_sUp o_c_sMarks c_paidAll c_isPlayed c_isOn c_handMoved c_handPaid c_regret c_aside o_c_other c_states c_kept c_keptLong c_keptAt c_isTaking) A) ([.ref (ad 0), .int p1, .int p2, .int p3] : List Value).toArray s 0 0 A = Q
  have LP34 : ∀ (n : Nat) (x1 : Int32) (x2 : Int32) (x3 : Int32) (c_worth : Nat → Int64) (c_tape : Nat → Int32) (c_taped : Int32) (c_tree : Nat → Int32) (c_bonds : Nat → Int32) (c_moves : Nat → Int32) (c_handMoves : Nat → Int32) (c_moved : Int32) (c_days : Int32) (c_likely : Int32) (c_outOf : Int32) (c_rateNow : Int32) (c_pence : Nat → Int64) (c_top : Int64) (c_bottom : Int64) (c_spot : Int32) (c_textLong : Int32) (c_fault : Int32) (c_number : Int32) (c_numberAt : Int32) (c_figures : Int32) (c_written : Int32) (c_wanted : Int32) (c_found : Int32) (c_drawnNow : Int32) (c_hold : Nat → Int64) (c_way : Nat → Int64) (c_acts : Nat → Int32) (c_sDay : Int32) (c_sUps : Int32) (c_sUp : Int32) (c_sMarks : Int32) (c_paidAll : Int64) (c_isPlayed : Int32) (c_isOn : Int32) (c_handMoved : Int32) (c_handPaid : Int64) (c_regret : Int64) (c_aside : Nat → Int32) (c_states : Int32) (c_kept : Nat → Int32) (c_keptLong : Nat → Int64) (c_keptAt : Int32) (c_isTaking : Int32) (x4 : Int32) (c_other : Nat → Int64) (o_c_other : Nat → Int64) (H : Heap) (locs : List Loc) (ls : Array Slot), va_P (dC, dI) vwCl (mW dA ad c_tape c_taped c_tree c_bonds c_moves c_handMoves c_moved c_days c_likely c_outOf c_rateNow c_pence c_top c_bottom c_spot c_textLong c_fault c_number c_numberAt c_figures c_written c_wanted c_found c_drawnNow c_worth c_hold c_way c_acts c_sDay c_sUps c_sUp c_sMarks c_paidAll c_isPlayed c_isOn c_handMoved c_handPaid c_regret c_aside c_other c_states c_kept c_keptLong c_keptAt c_isTaking) H → va_D A (mW dA ad c_tape c_taped c_tree c_bonds c_moves c_handMoves c_moved c_days c_likely c_outOf c_rateNow c_pence c_top c_bottom c_spot c_textLong c_fault c_number c_numberAt c_figures c_written c_wanted c_found c_drawnNow c_worth c_hold c_way c_acts c_sDay c_sUps c_sUp c_sMarks c_paidAll c_isPlayed c_isOn c_handMoved c_handPaid c_regret c_aside c_other c_states c_kept c_keptLong c_keptAt c_isTaking) → va_S A s.heap H locs → lpX9_alike_34 x1 x2 x3 c_worth n x4 c_other = some (o_c_other) → lv_has ls 10 [(0, .ref (ad 0)), (1, .int x1), (2, .int x2), (3, .int x3), (4, .int x4)] → (∀ (H : Heap) (locs : List Loc) (ls : Array Slot), va_P (dC, dI) vwCl (mW dA ad c_tape c_taped c_tree c_bonds c_moves c_handMoves c_moved c_days c_likely c_outOf c_rateNow c_pence c_top c_bottom c_spot c_textLong c_fault c_number c_numberAt c_figures c_written c_wanted c_found c_drawnNow c_worth c_hold c_way c_acts c_sDay c_sUps c_sUp c_sMarks c_paidAll c_isPlayed c_isOn c_handMoved c_handPaid c_regret c_aside o_c_other c_states c_kept c_keptLong c_keptAt c_isTaking) H → va_D A (mW dA ad c_tape c_taped c_tree c_bonds c_moves c_handMoves c_moved c_days c_likely c_outOf c_rateNow c_pence c_top c_bottom c_spot c_textLong c_fault c_number c_numberAt c_figures c_written c_wanted c_found c_drawnNow c_worth c_hold c_way c_acts c_sDay c_sUps c_sUp c_sMarks c_paidAll c_isPlayed c_isOn c_handMoved c_handPaid c_regret c_aside o_c_other c_states c_kept c_keptLong c_keptAt c_isTaking) → va_S A s.heap H locs → lv_has ls 10 [(0, .ref (ad 0)), (1, .int x1), (2, .int x2), (3, .int x3)] → W p l e rmX9_alike s m ([.ref (ad 0), .int p1, .int p2, .int p3] : List Value).toArray below meth c H locs 0 0 Q (F0 m 62 ls [])) → W p l e rmX9_alike s m ([.ref (ad 0), .int p1, .int p2, .int p3] : List Value).toArray below meth c H locs 0 0 Q (F0 m 34 ls []) := by
    intro n
    induction n with
    | zero =>
      intro x1 x2 x3 c_worth c_tape c_taped c_tree c_bonds c_moves c_handMoves c_moved c_days c_likely c_outOf c_rateNow c_pence c_top c_bottom c_spot c_textLong c_fault c_number c_numberAt c_figures c_written c_wanted c_found c_drawnNow c_hold c_way c_acts c_sDay c_sUps c_sUp c_sMarks c_paidAll c_isPlayed c_isOn c_handMoved c_handPaid c_regret c_aside c_states c_kept c_keptLong c_keptAt c_isTaking x4 c_other o_c_other H locs ls hP hD hS hf hl hk
      cases hf
    | succ n ih34 =>
      intro x1 x2 x3 c_worth c_tape c_taped c_tree c_bonds c_moves c_handMoves c_moved c_days c_likely c_outOf c_rateNow c_pence c_top c_bottom c_spot c_textLong c_fault c_number c_numberAt c_figures c_written c_wanted c_found c_drawnNow c_hold c_way c_acts c_sDay c_sUps c_sUp c_sMarks c_paidAll c_isPlayed c_isOn c_handMoved c_handPaid c_regret c_aside c_states c_kept c_keptLong c_keptAt c_isTaking x4 c_other o_c_other H locs ls hP hD hS hf hl hk
      rw [lpX9_alike_34.eq_2] at hf
      refine lv_iload hx hb dX9_alike_34 (lv_at hl 4 rfl) ?_
      refine lv_sipush (v := 784) hx hb dX9_alike_36 (by decide) ?_
      refine lv_icmp_ge (tgt := 62) hx hb dX9_alike_39 (by decide) (fun k80 => ?_) (fun k80 => ?_)
      · replace hf := ifp k80 hf
        cases hf
        exact hk _ _ _ hP hD hS (lv_sub hl [0, 1, 2, 3] rfl)
      · replace hf := ifn k80 hf
        refine lv_aload_n hx hb dX9_alike_42 rfl (lv_at hl 0 rfl) ?_
        refine va_get (D := (dC, dI)) (ci := 9) (v := .ref (ad 12)) (C := RX9) (T := TX9) (N := 45) hx hb hts (fun w h => gw_mem (inX9 w h)) hown hK.1 hP 0 rfl rfl 39 (by decide) (hts _ (gw_mem wfX9_45)) (fun _ h9 => h9) rfl dX9_alike_43 ?_
        refine lv_iload hx hb dX9_alike_46 (lv_at hl 4 rfl) ?_
        refine lv_aload_n hx hb dX9_alike_48 rfl (lv_at hl 0 rfl) ?_
        refine va_get (D := (dC, dI)) (ci := 9) (v := .ref (ad 7)) (C := RX9) (T := TX9) (N := 45) hx hb hts (fun w h => gw_mem (inX9 w h)) hown hK.1 hP 0 rfl rfl 24 (by decide) (hts _ (gw_mem wfX9_30)) (fun _ h9 => h9) rfl dX9_alike_49 ?_
        refine lv_iload hx hb dX9_alike_52 (lv_at hl 4 rfl) ?_
        obtain ⟨h81, hf⟩ := og_some hf
        refine va_lald hx hb hK.1 hP 7 1 rfl rfl (okI_in h81) dX9_alike_54 ?_
        obtain ⟨h82, hf⟩ := og_some hf
        obtain ⟨w83, ew83⟩ : ∃ y : Nat → Int64, y = vp_updL c_other (Int32.toNatClampNeg x4) (c_worth (Int32.toNatClampNeg x4)) := ⟨_, rfl⟩
        replace hf := nm_at hf ew83
        refine va_last hx hb hK.1 hP hD hS 12 1 rfl rfl (okI_in h82) dX9_alike_55 (fun H locs hP hD hS => ?_)
        have hP : va_P (dC, dI) vwCl (mW dA ad c_tape c_taped c_tree c_bonds c_moves c_handMoves c_moved c_days c_likely c_outOf c_rateNow c_pence c_top c_bottom c_spot c_textLong c_fault c_number c_numberAt c_figures c_written c_wanted c_found c_drawnNow c_worth c_hold c_way c_acts c_sDay c_sUps c_sUp c_sMarks c_paidAll c_isPlayed c_isOn c_handMoved c_handPaid c_regret c_aside w83 c_states c_kept c_keptLong c_keptAt c_isTaking) H := by rw [ew83]; exact hP
        have hD : va_D A (mW dA ad c_tape c_taped c_tree c_bonds c_moves c_handMoves c_moved c_days c_likely c_outOf c_rateNow c_pence c_top c_bottom c_spot c_textLong c_fault c_number c_numberAt c_figures c_written c_wanted c_found c_drawnNow c_worth c_hold c_way c_acts c_sDay c_sUps c_sUp c_sMarks c_paidAll c_isPlayed c_isOn c_handMoved c_handPaid c_regret c_aside w83 c_states c_kept c_keptLong c_keptAt c_isTaking) := by rw [ew83]; exact hD
        obtain ⟨w84, ew84⟩ : ∃ y : Int32, y = x4 + 1 := ⟨_, rfl⟩
        replace hf := nm_at hf ew84
        refine lv_iinc (v := w84) (lv' := [(4, .int w84), (0, .ref (ad 0)), (1, .int x1), (2, .int x2), (3, .int x3)]) hx hb dX9_alike_56 hl (k := 4) rfl (by rw [ew84]; rfl) (by decide) rfl (fun ls hl => ?_)
        refine lv_goto (tgt := 34) hx hb dX9_alike_59 (by decide) ?_
        exact ih34 _ _ _ _ _ _ _ _ _ _ _ _ _ _ _ _ _ _ _ _ _ _ _ _ _ _ _ _ _ _ _ _ _ _ _ _ _ _ _ _ _ _ _ _ _ _ _ _ _ _ _ _ _ hP hD hS hf (lv_sub hl [1, 2, 3, 4, 0] rfl) hk
  have LP110 : ∀ (n : Nat) (x1 : Int32) (x2 : Int32) (x3 : Int32) (x4 : Int32) (x5 : Int32) (c_bonds : Nat → Int32) (c_days : Int32) (c_pence : Nat → Int64) (c_worth : Nat → Int64) (c_other : Nat → Int64) (c_tape : Nat → Int32) (c_taped : Int32) (c_tree : Nat → Int32) (c_moves : Nat → Int32) (c_handMoves : Nat → Int32) (c_moved : Int32) (c_likely : Int32) (c_outOf : Int32) (c_rateNow : Int32) (c_top : Int64) (c_bottom : Int64) (c_spot : Int32) (c_textLong : Int32) (c_fault : Int32) (c_number : Int32) (c_numberAt : Int32) (c_figures : Int32) (c_written : Int32) (c_wanted : Int32) (c_found : Int32) (c_drawnNow : Int32) (c_hold : Nat → Int64) (c_way : Nat → Int64) (c_acts : Nat → Int32) (c_sDay : Int32) (c_sUps : Int32) (c_sUp : Int32) (c_sMarks : Int32) (c_paidAll : Int64) (c_isPlayed : Int32) (c_isOn : Int32) (c_handMoved : Int32) (c_handPaid : Int64) (c_regret : Int64) (c_aside : Nat → Int32) (c_states : Int32) (c_kept : Nat → Int32) (c_keptLong : Nat → Int64) (c_keptAt : Int32) (c_isTaking : Int32) (x6 : Int32) (x7 : Int32) (x8 : Int32) (tgo : Nat) (o8 : Int32) (H : Heap) (locs : List Loc) (ls : Array Slot), va_P (dC, dI) vwCl (mW dA ad c_tape c_taped c_tree c_bonds c_moves c_handMoves c_moved c_days c_likely c_outOf c_rateNow c_pence c_top c_bottom c_spot c_textLong c_fault c_number c_numberAt c_figures c_written c_wanted c_found c_drawnNow c_worth c_hold c_way c_acts c_sDay c_sUps c_sUp c_sMarks c_paidAll c_isPlayed c_isOn c_handMoved c_handPaid c_regret c_aside c_other c_states c_kept c_keptLong c_keptAt c_isTaking) H → va_D A (mW dA ad c_tape c_taped c_tree c_bonds c_moves c_handMoves c_moved c_days c_likely c_outOf c_rateNow c_pence c_top c_bottom c_spot c_textLong c_fault c_number c_numberAt c_figures c_written c_wanted c_found c_drawnNow c_worth c_hold c_way c_acts c_sDay c_sUps c_sUp c_sMarks c_paidAll c_isPlayed c_isOn c_handMoved c_handPaid c_regret c_aside c_other c_states c_kept c_keptLong c_keptAt c_isTaking) → va_S A s.heap H locs → lpX9_alike_110 x1 x2 x3 x4 x5 c_bonds c_days c_pence c_worth c_other n x6 x7 x8 = some (tgo, o8) → lv_has ls 10 [(0, .ref (ad 0)), (1, .int x1), (2, .int x2), (3, .int x3), (4, .int x4), (5, .int x5), (6, .int x6), (7, .int x7), (8, .int x8)] → (tgo = 0 → ∀ (H : Heap) (locs : List Loc) (ls : Array Slot), va_P (dC, dI) vwCl (mW dA ad c_tape c_taped c_tree c_bonds c_moves c_handMoves c_moved c_days c_likely c_outOf c_rateNow c_pence c_top c_bottom c_spot c_textLong c_fault c_number c_numberAt c_figures c_written c_wanted c_found c_drawnNow c_worth c_hold c_way c_acts c_sDay c_sUps c_sUp c_sMarks c_paidAll c_isPlayed c_isOn c_handMoved c_handPaid c_regret c_aside c_other c_states c_kept c_keptLong c_keptAt c_isTaking) H → va_D A (mW dA ad c_tape c_taped c_tree c_bonds c_moves c_handMoves c_moved c_days c_likely c_outOf c_rateNow c_pence c_top c_bottom c_spot c_textLong c_fault c_number c_numberAt c_figures c_written c_wanted c_found c_drawnNow c_worth c_hold c_way c_acts c_sDay c_sUps c_sUp c_sMarks c_paidAll c_isPlayed c_isOn c_handMoved c_handPaid c_regret c_aside c_other c_states c_kept c_keptLong c_keptAt c_isTaking) → va_S A s.heap H locs → lv_has ls 10 [(0, .ref (ad 0)), (1, .int x1), (2, .int x2), (3, .int x3), (4, .int x4), (5, .int x5), (8, .int o8)] → W p l e rmX9_alike s m ([.ref (ad 0), .int p1, .int p2, .int p3] : List Value).toArray below meth c H locs 0 0 Q (F0 m 150 ls [])) → (tgo = 1 → ∀ (H : Heap) (locs : List Loc) (ls : Array Slot), va_P (dC, dI) vwCl (mW dA ad c_tape c_taped c_tree c_bonds c_moves c_handMoves c_moved c_days c_likely c_outOf c_rateNow c_pence c_top c_bottom c_spot c_textLong c_fault c_number c_numberAt c_figures c_written c_wanted c_found c_drawnNow c_worth c_hold c_way c_acts c_sDay c_sUps c_sUp c_sMarks c_paidAll c_isPlayed c_isOn c_handMoved c_handPaid c_regret c_aside c_other c_states c_kept c_keptLong c_keptAt c_isTaking) H → va_D A (mW dA ad c_tape c_taped c_tree c_bonds c_moves c_handMoves c_moved c_days c_likely c_outOf c_rateNow c_pence c_top c_bottom c_spot c_textLong c_fault c_number c_numberAt c_figures c_written c_wanted c_found c_drawnNow c_worth c_hold c_way c_acts c_sDay c_sUps c_sUp c_sMarks c_paidAll c_isPlayed c_isOn c_handMoved c_handPaid c_regret c_aside c_other c_states c_kept c_keptLong c_keptAt c_isTaking) → va_S A s.heap H locs → lv_has ls 10 [(0, .ref (ad 0)), (1, .int x1), (2, .int x2), (3, .int x3), (4, .int x4), (5, .int x5), (8, .int o8)] → W p l e rmX9_alike s m ([.ref (ad 0), .int p1, .int p2, .int p3] : List Value).toArray below meth c H locs 0 0 Q (F0 m 233 ls [])) → W p l e rmX9_alike s m ([.ref (ad 0), .int p1, .int p2, .int p3] : List Value).toArray below meth c H locs 0 0 Q (F0 m 110 ls []) := by
    intro n
    induction n with
    | zero =>
      intro x1 x2 x3 x4 x5 c_bonds c_days c_pence c_worth c_other c_tape c_taped c_tree c_moves c_handMoves c_moved c_likely c_outOf c_rateNow c_top c_bottom c_spot c_textLong c_fault c_number c_numberAt c_figures c_written c_wanted c_found c_drawnNow c_hold c_way c_acts c_sDay c_sUps c_sUp c_sMarks c_paidAll c_isPlayed c_isOn c_handMoved c_handPaid c_regret c_aside c_states c_kept c_keptLong c_keptAt c_isTaking x6 x7 x8 tgo o8 H locs ls hP hD hS hf hl hk0 hk1
      cases hf
    | succ n ih110 =>
      intro x1 x2 x3 x4 x5 c_bonds c_days c_pence c_worth c_other c_tape c_taped c_tree c_moves c_handMoves c_moved c_likely c_outOf c_rateNow c_top c_bottom c_spot c_textLong c_fault c_number c_numberAt c_figures c_written c_wanted c_found c_drawnNow c_hold c_way c_acts c_sDay c_sUps c_sUp c_sMarks c_paidAll c_isPlayed c_isOn c_handMoved c_handPaid c_regret c_aside c_states c_kept c_keptLong c_keptAt c_isTaking x6 x7 x8 tgo o8 H locs ls hP hD hS hf hl hk0 hk1
      rw [lpX9_alike_110.eq_2] at hf
      refine lv_iload hx hb dX9_alike_110 (lv_at hl 8 rfl) ?_
      refine lv_iload hx hb dX9_alike_112 (lv_at hl 4 rfl) ?_
      refine lv_icmp_ge (tgt := 233) hx hb dX9_alike_114 (by decide) (fun k69 => ?_) (fun k69 => ?_)
      · replace hf := ifp k69 hf
        cases hf
        exact hk1 rfl _ _ _ hP hD hS (lv_sub hl [0, 1, 2, 3, 4, 5, 8] rfl)
      · replace hf := ifn k69 hf
        refine lv_aload_n hx hb dX9_alike_117 rfl (lv_at hl 0 rfl) ?_
        refine va_get (D := (dC, dI)) (ci := 9) (v := .ref (ad 12)) (C := RX9) (T := TX9) (N := 45) hx hb hts (fun w h => gw_mem (inX9 w h)) hown hK.1 hP 0 rfl rfl 39 (by decide) (hts _ (gw_mem wfX9_45)) (fun _ h9 => h9) rfl dX9_alike_118 ?_
        refine lv_iload hx hb dX9_alike_121 (lv_at hl 6 rfl) ?_
        obtain ⟨h70, hf⟩ := og_some hf
        refine va_lald hx hb hK.1 hP 12 1 rfl rfl (okI_in h70) dX9_alike_123 ?_
        refine lv_aload_n hx hb dX9_alike_124 rfl (lv_at hl 0 rfl) ?_
        refine va_get (D := (dC, dI)) (ci := 9) (v := .ref (ad 7)) (C := RX9) (T := TX9) (N := 45) hx hb hts (fun w h => gw_mem (inX9 w h)) hown hK.1 hP 0 rfl rfl 24 (by decide) (hts _ (gw_mem wfX9_30)) (fun _ h9 => h9) rfl dX9_alike_125 ?_
        refine lv_iload hx hb dX9_alike_128 (lv_at hl 7 rfl) ?_
        obtain ⟨h71, hf⟩ := og_some hf
        refine va_lald hx hb hK.1 hP 7 1 rfl rfl (okI_in h71) dX9_alike_130 ?_
        refine W.lcmp hx hb dX9_alike_131 ?_
        refine lv_if_ne (tgt := 233) hx hb dX9_alike_132 (by decide) (fun k72 => ?_) (fun k72 => ?_)
        · replace hf := ifn (fun h => k72 (lc_eq.mpr h)) hf
          cases hf
          exact hk1 rfl _ _ _ hP hD hS (lv_sub hl [0, 1, 2, 3, 4, 5, 8] rfl)
        · replace hf := ifp (lc_eq.mp k72) hf
          refine lv_iload hx hb dX9_alike_135 (lv_at hl 8 rfl) ?_
          refine lv_iconst (v := 1) hx hb dX9_alike_137 (by decide) ?_
          refine lv_iadd hx hb dX9_alike_138 ?_
          refine lv_topi (fun w73 ew73 => ?_)
          replace hf := nm_at hf ew73
          refine lv_istore (lv' := [(8, .int w73), (0, .ref (ad 0)), (1, .int x1), (2, .int x2), (3, .int x3), (4, .int x4), (5, .int x5), (6, .int x6), (7, .int x7)]) hx hb dX9_alike_139 hl (by decide) rfl (fun ls hl => ?_)
          refine lv_iload hx hb dX9_alike_141 (lv_at hl 0 rfl) ?_
          refine lv_aload_n hx hb dX9_alike_143 rfl (lv_at hl 1 rfl) ?_
          refine va_get (D := (dC, dI)) (ci := 9) (v := .int c_days) (C := RX9) (T := TX9) (N := 45) hx hb hts (fun w h => gw_mem (inX9 w h)) hown hK.1 hP 0 rfl rfl 7 (by decide) (hts _ (gw_mem wfX9_94)) (fun _ h9 => h9) rfl dX9_alike_144 ?_
          refine lv_icmp_le (tgt := 153) hx hb dX9_alike_147 (by decide) (fun k74 => ?_) (fun k74 => ?_)
          · replace hf := ifp k74 hf
            refine lv_iload hx hb dX9_alike_153 (lv_at hl 6 rfl) ?_
            refine lv_iload hx hb dX9_alike_155 (lv_at hl 0 rfl) ?_
            refine lv_iconst (v := 1) hx hb dX9_alike_157 (by decide) ?_
            refine lv_isub hx hb dX9_alike_158 ?_
            refine lv_ishr hx hb dX9_alike_159 ?_
            refine lv_iconst (v := 1) hx hb dX9_alike_160 (by decide) ?_
            refine lv_iand hx hb dX9_alike_161 ?_
            refine lv_topi (fun w75 ew75 => ?_)
            replace hf := nm_at hf ew75
            refine lv_istore (lv' := [(9, .int w75), (8, .int w73), (0, .ref (ad 0)), (1, .int x1), (2, .int x2), (3, .int x3), (4, .int x4), (5, .int x5), (6, .int x6), (7, .int x7)]) hx hb dX9_alike_162 hl (by decide) rfl (fun ls hl => ?_)
            refine lv_aload_n hx hb dX9_alike_164 rfl (lv_at hl 2 rfl) ?_
            refine lv_iload_n hx hb dX9_alike_165 rfl (lv_at hl 3 rfl) ?_
            refine lv_iload hx hb dX9_alike_166 (lv_at hl 1 rfl) ?_
            refine lv_iconst (v := 1) hx hb dX9_alike_168 (by decide) ?_
            refine lv_isub hx hb dX9_alike_169 ?_
            refine lv_iload hx hb dX9_alike_170 (lv_at hl 8 rfl) ?_
            refine lv_bipush (v := 16) hx hb dX9_alike_172 (by decide) ?_
            refine lv_idiv hx hb dX9_alike_174 (by decide) ?_
            refine lv_bipush (v := 7) hx hb dX9_alike_175 (by decide) ?_
            refine lv_irem hx hb dX9_alike_177 (by decide) ?_
            refine lv_iload hx hb dX9_alike_178 (lv_at hl 8 rfl) ?_
            refine lv_bipush (v := 8) hx hb dX9_alike_180 (by decide) ?_
            refine lv_idiv hx hb dX9_alike_182 (by decide) ?_
            refine lv_iconst (v := 2) hx hb dX9_alike_183 (by decide) ?_
            refine lv_irem hx hb dX9_alike_184 (by decide) ?_
            refine lv_iload hx hb dX9_alike_185 (lv_at hl 8 rfl) ?_
            refine lv_bipush (v := 8) hx hb dX9_alike_187 (by decide) ?_
            refine lv_irem hx hb dX9_alike_189 (by decide) ?_
            refine lv_iload hx hb dX9_alike_190 (lv_at hl 0 rfl) ?_
            obtain ⟨r76, v77, hf⟩ := bd1_some hf
            refine gci (va_runV (As := [.int x1, .int (w73 - 1), .int ((x6 / 16) - (x6 / 16) / 7 * 7), .int ((x6 / 8) - (x6 / 8) / 2 * 2), .int (x6 - x6 / 8 * 8), .int w75]) (rest := []) ⟨hx, hb, hml, hown, hts⟩ (tX9_then l dC dI dA ad H.size v77) (ccX9_X9_then hts ⟨Nat.le_of_ble_eq_true rfl, Nat.le_of_ble_eq_true rfl⟩) (gPreV (ci := 9) (q0 := 0) hP hK hD rfl rfl) rfl rfl hl.1 rfl (lv_room (Nat.le_of_ble_eq_true rfl)) dX9_alike_192 ⟨Nat.le_of_ble_eq_true rfl, Nat.le_of_ble_eq_true rfl⟩) hD hS hA (fun H locs hP hD hS => ?_)
            refine lv_istore (lv' := [(6, .int r76), (9, .int w75), (8, .int w73), (0, .ref (ad 0)), (1, .int x1), (2, .int x2), (3, .int x3), (4, .int x4), (5, .int x5), (7, .int x7)]) hx hb dX9_alike_195 hl (by decide) rfl (fun ls hl => ?_)
            refine lv_aload_n hx hb dX9_alike_197 rfl (lv_at hl 3 rfl) ?_
            refine lv_iload_n hx hb dX9_alike_198 rfl (lv_at hl 5 rfl) ?_
            refine lv_iload hx hb dX9_alike_199 (lv_at hl 2 rfl) ?_
            refine lv_iconst (v := 1) hx hb dX9_alike_201 (by decide) ?_
            refine lv_isub hx hb dX9_alike_202 ?_
            refine lv_iload hx hb dX9_alike_203 (lv_at hl 9 rfl) ?_
            refine lv_bipush (v := 16) hx hb dX9_alike_205 (by decide) ?_
            refine lv_idiv hx hb dX9_alike_207 (by decide) ?_
            refine lv_bipush (v := 7) hx hb dX9_alike_208 (by decide) ?_
            refine lv_irem hx hb dX9_alike_210 (by decide) ?_
            refine lv_iload hx hb dX9_alike_211 (lv_at hl 9 rfl) ?_
            refine lv_bipush (v := 8) hx hb dX9_alike_213 (by decide) ?_
            refine lv_idiv hx hb dX9_alike_215 (by decide) ?_
            refine lv_iconst (v := 2) hx hb dX9_alike_216 (by decide) ?_
            refine lv_irem hx hb dX9_alike_217 (by decide) ?_
            refine lv_iload hx hb dX9_alike_218 (lv_at hl 9 rfl) ?_
            refine lv_bipush (v := 8) hx hb dX9_alike_220 (by decide) ?_
            refine lv_irem hx hb dX9_alike_222 (by decide) ?_
            refine lv_iload hx hb dX9_alike_223 (lv_at hl 1 rfl) ?_
            obtain ⟨r78, v79, hf⟩ := bd1_some hf
            refine gci (va_runV (As := [.int x2, .int (w73 - 1), .int ((x7 / 16) - (x7 / 16) / 7 * 7), .int ((x7 / 8) - (x7 / 8) / 2 * 2), .int (x7 - x7 / 8 * 8), .int w75]) (rest := []) ⟨hx, hb, hml, hown, hts⟩ (tX9_then l dC dI dA ad H.size v79) (ccX9_X9_then hts ⟨Nat.le_of_ble_eq_true rfl, Nat.le_of_ble_eq_true rfl⟩) (gPreV (ci := 9) (q0 := 0) hP hK hD rfl rfl) rfl rfl hl.1 rfl (lv_room (Nat.le_of_ble_eq_true rfl)) dX9_alike_225 ⟨Nat.le_of_ble_eq_true rfl, Nat.le_of_ble_eq_true rfl⟩) hD hS hA (fun H locs hP hD hS => ?_)
            refine lv_istore (lv' := [(7, .int r78), (6, .int r76), (9, .int w75), (8, .int w73), (0, .ref (ad 0)), (1, .int x1), (2, .int x2), (3, .int x3), (4, .int x4), (5, .int x5)]) hx hb dX9_alike_228 hl (by decide) rfl (fun ls hl => ?_)
            refine lv_goto (tgt := 110) hx hb dX9_alike_230 (by decide) ?_
            exact ih110 _ _ _ _ _ _ _ _ _ _ _ _ _ _ _ _ _ _ _ _ _ _ _ _ _ _ _ _ _ _ _ _ _ _ _ _ _ _ _ _ _ _ _ _ _ _ _ _ _ _ _ _ _ _ _ _ _ _ hP hD hS hf (lv_sub hl [4, 5, 6, 7, 8, 9, 1, 0, 3] rfl) hk0 hk1
          · replace hf := ifn k74 hf
            cases hf
            exact hk0 rfl _ _ _ hP hD hS (lv_sub hl [1, 2, 3, 4, 5, 6, 0] rfl)
  have LP74 : ∀ (n : Nat) (x1 : Int32) (x2 : Int32) (x3 : Int32) (c_bonds : Nat → Int32) (c_days : Int32) (c_pence : Nat → Int64) (c_worth : Nat → Int64) (c_other : Nat → Int64) (c_tape : Nat → Int32) (c_taped : Int32) (c_tree : Nat → Int32) (c_moves : Nat → Int32) (c_handMoves : Nat → Int32) (c_moved : Int32) (c_likely : Int32) (c_outOf : Int32) (c_rateNow : Int32) (c_top : Int64) (c_bottom : Int64) (c_spot : Int32) (c_textLong : Int32) (c_fault : Int32) (c_number : Int32) (c_numberAt : Int32) (c_figures : Int32) (c_written : Int32) (c_wanted : Int32) (c_found : Int32) (c_drawnNow : Int32) (c_hold : Nat → Int64) (c_way : Nat → Int64) (c_acts : Nat → Int32) (c_paidAll : Int64) (c_isPlayed : Int32) (c_isOn : Int32) (c_handMoved : Int32) (c_handPaid : Int64) (c_regret : Int64) (c_aside : Nat → Int32) (c_states : Int32) (c_kept : Nat → Int32) (c_keptLong : Nat → Int64) (c_keptAt : Int32) (c_isTaking : Int32) (x4 : Int32) (x5 : Int32) (c_sDay : Int32) (c_sUps : Int32) (c_sUp : Int32) (c_sMarks : Int32) (o4 : Int32) (o_c_sDay : Int32) (o_c_sUps : Int32) (o_c_sUp : Int32) (o_c_sMarks : Int32) (H : Heap) (locs : List Loc) (ls : Array Slot), va_P (dC, dI) vwCl (mW dA ad c_tape c_taped c_tree c_bonds c_moves c_handMoves c_moved c_days c_likely c_outOf c_rateNow c_pence c_top c_bottom c_spot c_textLong c_fault c_number c_numberAt c_figures c_written c_wanted c_found c_drawnNow c_worth c_hold c_way c_acts c_sDay c_sUps c_sUp c_sMarks c_paidAll c_isPlayed c_isOn c_handMoved c_handPaid c_regret c_aside c_other c_states c_kept c_keptLong c_keptAt c_isTaking) H → va_D A (mW dA ad c_tape c_taped c_tree c_bonds c_moves c_handMoves c_moved c_days c_likely c_outOf c_rateNow c_pence c_top c_bottom c_spot c_textLong c_fault c_number c_numberAt c_figures c_written c_wanted c_found c_drawnNow c_worth c_hold c_way c_acts c_sDay c_sUps c_sUp c_sMarks c_paidAll c_isPlayed c_isOn c_handMoved c_handPaid c_regret c_aside c_other c_states c_kept c_keptLong c_keptAt c_isTaking) → va_S A s.heap H locs → lpX9_alike_74 x1 x2 x3 c_bonds c_days c_pence c_worth c_other n x4 x5 c_sDay c_sUps c_sUp c_sMarks = some (o4, o_c_sDay, o_c_sUps, o_c_sUp, o_c_sMarks) → lv_has ls 10 [(0, .ref (ad 0)), (1, .int x1), (2, .int x2), (3, .int x3), (4, .int x4), (5, .int x5)] → (∀ (H : Heap) (locs : List Loc) (ls : Array Slot), va_P (dC, dI) vwCl (mW dA ad c_tape c_taped c_tree c_bonds c_moves c_handMoves c_moved c_days c_likely c_outOf c_rateNow c_pence c_top c_bottom c_spot c_textLong c_fault c_number c_numberAt c_figures c_written c_wanted c_found c_drawnNow c_worth c_hold c_way c_acts o_c_sDay o_c_sUps o_c_sUp o_c_sMarks c_paidAll c_isPlayed c_isOn c_handMoved c_handPaid c_regret c_aside c_other c_states c_kept c_keptLong c_keptAt c_isTaking) H → va_D A (mW dA ad c_tape c_taped c_tree c_bonds c_moves c_handMoves c_moved c_days c_likely c_outOf c_rateNow c_pence c_top c_bottom c_spot c_textLong c_fault c_number c_numberAt c_figures c_written c_wanted c_found c_drawnNow c_worth c_hold c_way c_acts o_c_sDay o_c_sUps o_c_sUp o_c_sMarks c_paidAll c_isPlayed c_isOn c_handMoved c_handPaid c_regret c_aside c_other c_states c_kept c_keptLong c_keptAt c_isTaking) → va_S A s.heap H locs → lv_has ls 10 [(3, .int x3), (4, .int o4)] → W p l e rmX9_alike s m ([.ref (ad 0), .int p1, .int p2, .int p3] : List Value).toArray below meth c H locs 0 0 Q (F0 m 264 ls [])) → W p l e rmX9_alike s m ([.ref (ad 0), .int p1, .int p2, .int p3] : List Value).toArray below meth c H locs 0 0 Q (F0 m 74 ls []) := by
    intro n
    induction n with
    | zero =>
      intro x1 x2 x3 c_bonds c_days c_pence c_worth c_other c_tape c_taped c_tree c_moves c_handMoves c_moved c_likely c_outOf c_rateNow c_top c_bottom c_spot c_textLong c_fault c_number c_numberAt c_figures c_written c_wanted c_found c_drawnNow c_hold c_way c_acts c_paidAll c_isPlayed c_isOn c_handMoved c_handPaid c_regret c_aside c_states c_kept c_keptLong c_keptAt c_isTaking x4 x5 c_sDay c_sUps c_sUp c_sMarks o4 o_c_sDay o_c_sUps o_c_sUp o_c_sMarks H locs ls hP hD hS hf hl hk
      cases hf
    | succ n ih74 =>
      intro x1 x2 x3 c_bonds c_days c_pence c_worth c_other c_tape c_taped c_tree c_moves c_handMoves c_moved c_likely c_outOf c_rateNow c_top c_bottom c_spot c_textLong c_fault c_number c_numberAt c_figures c_written c_wanted c_found c_drawnNow c_hold c_way c_acts c_paidAll c_isPlayed c_isOn c_handMoved c_handPaid c_regret c_aside c_states c_kept c_keptLong c_keptAt c_isTaking x4 x5 c_sDay c_sUps c_sUp c_sMarks o4 o_c_sDay o_c_sUps o_c_sUp o_c_sMarks H locs ls hP hD hS hf hl hk
      rw [lpX9_alike_74.eq_2] at hf
      refine lv_iload hx hb dX9_alike_74 (lv_at hl 5 rfl) ?_
      refine lv_iconst (v := 1) hx hb dX9_alike_76 (by decide) ?_
      refine lv_aload_n hx hb dX9_alike_77 rfl (lv_at hl 0 rfl) ?_
      refine va_get (D := (dC, dI)) (ci := 9) (v := .int c_days) (C := RX9) (T := TX9) (N := 45) hx hb hts (fun w h => gw_mem (inX9 w h)) hown hK.1 hP 0 rfl rfl 7 (by decide) (hts _ (gw_mem wfX9_94)) (fun _ h9 => h9) rfl dX9_alike_78 ?_
      refine lv_ishl hx hb dX9_alike_81 ?_
      refine lv_icmp_ge (tgt := 264) hx hb dX9_alike_82 (by decide) (fun k39 => ?_) (fun k39 => ?_)
      · replace hf := ifp k39 hf
        cases hf
        exact hk _ _ _ hP hD hS (lv_sub hl [3, 4] rfl)
      · replace hf := ifn k39 hf
        refine lv_aload_n hx hb dX9_alike_85 rfl (lv_at hl 0 rfl) ?_
        refine lv_iload_n hx hb dX9_alike_86 rfl (lv_at hl 1 rfl) ?_
        obtain ⟨c_sDay_40, c_sUps_41, c_sUp_42, c_sMarks_43, v44, hf⟩ := bd4_some hf
        refine gcv (va_runV (As := [.int x1]) (rest := []) ⟨hx, hb, hml, hown, hts⟩ (tX9_starts l dC dI dA ad H.size v44) (ccX9_X9_starts hts ⟨Nat.le_of_ble_eq_true rfl, Nat.le_of_ble_eq_true rfl⟩) (gPreV (ci := 9) (q0 := 0) hP hK hD rfl rfl) rfl rfl hl.1 rfl (lv_room (Nat.le_of_ble_eq_true rfl)) dX9_alike_87 ⟨Nat.le_of_ble_eq_true rfl, Nat.le_of_ble_eq_true rfl⟩) hD hS hA (fun H locs hP hD hS => ?_)
        refine lv_aload_n hx hb dX9_alike_90 rfl (lv_at hl 0 rfl) ?_
        obtain ⟨r45, v46, hf⟩ := bd1_some hf
        refine gci (va_runV (As := []) (rest := []) ⟨hx, hb, hml, hown, hts⟩ (tX9_hereNow l dC dI dA ad H.size v46) (ccX9_X9_hereNow hts ⟨Nat.le_of_ble_eq_true rfl, Nat.le_of_ble_eq_true rfl⟩) (gPreV (ci := 9) (q0 := 0) hP hK hD rfl rfl) rfl rfl hl.1 rfl (lv_room (Nat.le_of_ble_eq_true rfl)) dX9_alike_91 ⟨Nat.le_of_ble_eq_true rfl, Nat.le_of_ble_eq_true rfl⟩) hD hS hA (fun H locs hP hD hS => ?_)
        refine lv_istore (lv' := [(6, .int r45), (0, .ref (ad 0)), (1, .int x1), (2, .int x2), (3, .int x3), (4, .int x4), (5, .int x5)]) hx hb dX9_alike_94 hl (by decide) rfl (fun ls hl => ?_)
        refine lv_aload_n hx hb dX9_alike_96 rfl (lv_at hl 1 rfl) ?_
        refine lv_iload_n hx hb dX9_alike_97 rfl (lv_at hl 3 rfl) ?_
        obtain ⟨c_sDay_47, c_sUps_48, c_sUp_49, c_sMarks_50, v51, hf⟩ := bd4_some hf
        refine gcv (va_runV (As := [.int x2]) (rest := []) ⟨hx, hb, hml, hown, hts⟩ (tX9_starts l dC dI dA ad H.size v51) (ccX9_X9_starts hts ⟨Nat.le_of_ble_eq_true rfl, Nat.le_of_ble_eq_true rfl⟩) (gPreV (ci := 9) (q0 := 0) hP hK hD rfl rfl) rfl rfl hl.1 rfl (lv_room (Nat.le_of_ble_eq_true rfl)) dX9_alike_98 ⟨Nat.le_of_ble_eq_true rfl, Nat.le_of_ble_eq_true rfl⟩) hD hS hA (fun H locs hP hD hS => ?_)
        refine lv_aload_n hx hb dX9_alike_101 rfl (lv_at hl 1 rfl) ?_
        obtain ⟨r52, v53, hf⟩ := bd1_some hf
        refine gci (va_runV (As := []) (rest := []) ⟨hx, hb, hml, hown, hts⟩ (tX9_hereNow l dC dI dA ad H.size v53) (ccX9_X9_hereNow hts ⟨Nat.le_of_ble_eq_true rfl, Nat.le_of_ble_eq_true rfl⟩) (gPreV (ci := 9) (q0 := 0) hP hK hD rfl rfl) rfl rfl hl.1 rfl (lv_room (Nat.le_of_ble_eq_true rfl)) dX9_alike_102 ⟨Nat.le_of_ble_eq_true rfl, Nat.le_of_ble_eq_true rfl⟩) hD hS hA (fun H locs hP hD hS => ?_)
        refine lv_istore (lv' := [(7, .int r52), (6, .int r45), (0, .ref (ad 0)), (1, .int x1), (2, .int x2), (3, .int x3), (4, .int x4), (5, .int x5)]) hx hb dX9_alike_105 hl (by decide) rfl (fun ls hl => ?_)
        refine lv_iconst (v := 0) hx hb dX9_alike_107 (by decide) ?_
        refine lv_istore (lv' := [(8, .int 0), (7, .int r52), (6, .int r45), (0, .ref (ad 0)), (1, .int x1), (2, .int x2), (3, .int x3), (4, .int x4), (5, .int x5)]) hx hb dX9_alike_108 hl (by decide) rfl (fun ls hl => ?_)
        obtain ⟨tg54, x55, v56, hf⟩ := bd2_some hf
        refine LP110 FU _ _ _ _ _ _ _ _ _ _ _ _ _ _ _ _ _ _ _ _ _ _ _ _ _ _ _ _ _ _ _ _ _ _ _ _ _ _ _ _ _ _ _ _ _ _ _ _ _ _ _ _ _ _ _ _ _ _ hP hD hS v56 (lv_sub hl [3, 4, 5, 6, 7, 8, 2, 1, 0] rfl) (fun etg54 H locs ls hP hD hS hl => ?_) (fun etg54 H locs ls hP hD hS hl => ?_)
        · replace hf := ifp etg54 hf
          refine lv_goto (tgt := 233) hx hb dX9_alike_150 (by decide) ?_
          refine lv_iload hx hb dX9_alike_233 (lv_at hl 6 rfl) ?_
          refine lv_aload_n hx hb dX9_alike_235 rfl (lv_at hl 0 rfl) ?_
          refine va_get (D := (dC, dI)) (ci := 9) (v := .int c_days) (C := RX9) (T := TX9) (N := 45) hx hb hts (fun w h => gw_mem (inX9 w h)) hown hK.1 hP 0 rfl rfl 7 (by decide) (hts _ (gw_mem wfX9_94)) (fun _ h9 => h9) rfl dX9_alike_236 ?_
          obtain ⟨j58, v60, hf⟩ := bd1_some hf
          have J59 : ∀ (H : Heap) (locs : List Loc) (ls : Array Slot), va_P (dC, dI) vwCl (mW dA ad c_tape c_taped c_tree c_bonds c_moves c_handMoves c_moved c_days c_likely c_outOf c_rateNow c_pence c_top c_bottom c_spot c_textLong c_fault c_number c_numberAt c_figures c_written c_wanted c_found c_drawnNow c_worth c_hold c_way c_acts c_sDay_47 c_sUps_48 c_sUp_49 c_sMarks_50 c_paidAll c_isPlayed c_isOn c_handMoved c_handPaid c_regret c_aside c_other c_states c_kept c_keptLong c_keptAt c_isTaking) H → va_D A (mW dA ad c_tape c_taped c_tree c_bonds c_moves c_handMoves c_moved c_days c_likely c_outOf c_rateNow c_pence c_top c_bottom c_spot c_textLong c_fault c_number c_numberAt c_figures c_written c_wanted c_found c_drawnNow c_worth c_hold c_way c_acts c_sDay_47 c_sUps_48 c_sUp_49 c_sMarks_50 c_paidAll c_isPlayed c_isOn c_handMoved c_handPaid c_regret c_aside c_other c_states c_kept c_keptLong c_keptAt c_isTaking) → va_S A s.heap H locs → lv_has ls 10 [(0, .ref (ad 0)), (1, .int x1), (2, .int x2), (3, .int x3), (5, .int x5)] → W p l e rmX9_alike s m ([.ref (ad 0), .int p1, .int p2, .int p3] : List Value).toArray below meth c H locs 0 0 Q (F0 m 256 ls [.int j58]) := by
            intro H locs ls hP hD hS hl
            refine lv_istore (lv' := [(4, .int j58), (0, .ref (ad 0)), (1, .int x1), (2, .int x2), (3, .int x3), (5, .int x5)]) hx hb dX9_alike_256 hl (by decide) rfl (fun ls hl => ?_)
            obtain ⟨w61, ew61⟩ : ∃ y : Int32, y = x5 + 1 := ⟨_, rfl⟩
            replace hf := nm_at hf ew61
            refine lv_iinc (v := w61) (lv' := [(5, .int w61), (4, .int j58), (0, .ref (ad 0)), (1, .int x1), (2, .int x2), (3, .int x3)]) hx hb dX9_alike_258 hl (k := 5) rfl (by rw [ew61]; rfl) (by decide) rfl (fun ls hl => ?_)
            refine lv_goto (tgt := 74) hx hb dX9_alike_261 (by decide) ?_
            exact ih74 _ _ _ _ _ _ _ _ _ _ _ _ _ _ _ _ _ _ _ _ _ _ _ _ _ _ _ _ _ _ _ _ _ _ _ _ _ _ _ _ _ _ _ _ _ _ _ _ _ _ _ _ _ _ _ _ _ _ hP hD hS hf (lv_sub hl [2, 3, 4, 5, 1, 0] rfl) hk
          replace hf := v60
          clear v60
          refine lv_icmp_gt (tgt := 254) hx hb dX9_alike_239 (by decide) (fun k57 => ?_) (fun k57 => ?_)
          · replace hf := ifp k57 hf
            refine lv_iload hx hb dX9_alike_254 (lv_at hl 4 rfl) ?_
            cases hf
            exact J59 _ _ _ hP hD hS (lv_sub hl [0, 1, 2, 3, 5] rfl)
          · replace hf := ifn k57 hf
            refine lv_iload hx hb dX9_alike_242 (lv_at hl 6 rfl) ?_
            refine lv_iload hx hb dX9_alike_244 (lv_at hl 4 rfl) ?_
            refine lv_icmp_ge (tgt := 254) hx hb dX9_alike_246 (by decide) (fun k62 => ?_) (fun k62 => ?_)
            · replace hf := ifp k62 hf
              refine lv_iload hx hb dX9_alike_254 (lv_at hl 4 rfl) ?_
              cases hf
              exact J59 _ _ _ hP hD hS (lv_sub hl [0, 1, 2, 3, 5] rfl)
            · replace hf := ifn k62 hf
              refine lv_iload hx hb dX9_alike_249 (lv_at hl 6 rfl) ?_
              refine lv_goto (tgt := 256) hx hb dX9_alike_251 (by decide) ?_
              cases hf
              exact J59 _ _ _ hP hD hS (lv_sub hl [0, 1, 2, 3, 5] rfl)
        · replace hf := ifn (c := tg54 = 0) (by rw [etg54]; decide) hf
          refine lv_iload hx hb dX9_alike_233 (lv_at hl 6 rfl) ?_
          refine lv_aload_n hx hb dX9_alike_235 rfl (lv_at hl 0 rfl) ?_
          refine va_get (D := (dC, dI)) (ci := 9) (v := .int c_days) (C := RX9) (T := TX9) (N := 45) hx hb hts (fun w h => gw_mem (inX9 w h)) hown hK.1 hP 0 rfl rfl 7 (by decide) (hts _ (gw_mem wfX9_94)) (fun _ h9 => h9) rfl dX9_alike_236 ?_
          obtain ⟨j64, v66, hf⟩ := bd1_some hf
          have J65 : ∀ (H : Heap) (locs : List Loc) (ls : Array Slot), va_P (dC, dI) vwCl (mW dA ad c_tape c_taped c_tree c_bonds c_moves c_handMoves c_moved c_days c_likely c_outOf c_rateNow c_pence c_top c_bottom c_spot c_textLong c_fault c_number c_numberAt c_figures c_written c_wanted c_found c_drawnNow c_worth c_hold c_way c_acts c_sDay_47 c_sUps_48 c_sUp_49 c_sMarks_50 c_paidAll c_isPlayed c_isOn c_handMoved c_handPaid c_regret c_aside c_other c_states c_kept c_keptLong c_keptAt c_isTaking) H → va_D A (mW dA ad c_tape c_taped c_tree c_bonds c_moves c_handMoves c_moved c_days c_likely c_outOf c_rateNow c_pence c_top c_bottom c_spot c_textLong c_fault c_number c_numberAt c_figures c_written c_wanted c_found c_drawnNow c_worth c_hold c_way c_acts c_sDay_47 c_sUps_48 c_sUp_49 c_sMarks_50 c_paidAll c_isPlayed c_isOn c_handMoved c_handPaid c_regret c_aside c_other c_states c_kept c_keptLong c_keptAt c_isTaking) → va_S A s.heap H locs → lv_has ls 10 [(0, .ref (ad 0)), (1, .int x1), (2, .int x2), (3, .int x3), (5, .int x5)] → W p l e rmX9_alike s m ([.ref (ad 0), .int p1, .int p2, .int p3] : List Value).toArray below meth c H locs 0 0 Q (F0 m 256 ls [.int j64]) := by
            intro H locs ls hP hD hS hl
            refine lv_istore (lv' := [(4, .int j64), (0, .ref (ad 0)), (1, .int x1), (2, .int x2), (3, .int x3), (5, .int x5)]) hx hb dX9_alike_256 hl (by decide) rfl (fun ls hl => ?_)
            obtain ⟨w67, ew67⟩ : ∃ y : Int32, y = x5 + 1 := ⟨_, rfl⟩
            replace hf := nm_at hf ew67
            refine lv_iinc (v := w67) (lv' := [(5, .int w67), (4, .int j64), (0, .ref (ad 0)), (1, .int x1), (2, .int x2), (3, .int x3)]) hx hb dX9_alike_258 hl (k := 5) rfl (by rw [ew67]; rfl) (by decide) rfl (fun ls hl => ?_)
            refine lv_goto (tgt := 74) hx hb dX9_alike_261 (by decide) ?_
            exact ih74 _ _ _ _ _ _ _ _ _ _ _ _ _ _ _ _ _ _ _ _ _ _ _ _ _ _ _ _ _ _ _ _ _ _ _ _ _ _ _ _ _ _ _ _ _ _ _ _ _ _ _ _ _ _ _ _ _ _ hP hD hS hf (lv_sub hl [2, 3, 4, 5, 1, 0] rfl) hk
          replace hf := v66
          clear v66
          refine lv_icmp_gt (tgt := 254) hx hb dX9_alike_239 (by decide) (fun k63 => ?_) (fun k63 => ?_)
          · replace hf := ifp k63 hf
            refine lv_iload hx hb dX9_alike_254 (lv_at hl 4 rfl) ?_
            cases hf
            exact J65 _ _ _ hP hD hS (lv_sub hl [0, 1, 2, 3, 5] rfl)
          · replace hf := ifn k63 hf
            refine lv_iload hx hb dX9_alike_242 (lv_at hl 6 rfl) ?_
            refine lv_iload hx hb dX9_alike_244 (lv_at hl 4 rfl) ?_
            refine lv_icmp_ge (tgt := 254) hx hb dX9_alike_246 (by decide) (fun k68 => ?_) (fun k68 => ?_)
            · replace hf := ifp k68 hf
              refine lv_iload hx hb dX9_alike_254 (lv_at hl 4 rfl) ?_
              cases hf
              exact J65 _ _ _ hP hD hS (lv_sub hl [0, 1, 2, 3, 5] rfl)
            · replace hf := ifn k68 hf
              refine lv_iload hx hb dX9_alike_249 (lv_at hl 6 rfl) ?_
              refine lv_goto (tgt := 256) hx hb dX9_alike_251 (by decide) ?_
              cases hf
              exact J65 _ _ _ hP hD hS (lv_sub hl [0, 1, 2, 3, 5] rfl)
  subst hQ
  unfold fX9_alike at hf
  refine lv_iload_n hx hb dX9_alike_0 rfl (lv_at hl 1 rfl) ?_
  obtain ⟨r1, v2, hf⟩ := bd1_some hf
  refine gci0 (va_runS (As := [.int p1]) (rest := []) ⟨hx, hb, hml, hown, hts⟩ (tX9_isBond l dC dI dA s.heap.size v2) (ccX9_X9_isBond hts ⟨Nat.le_of_ble_eq_true rfl, Nat.le_of_ble_eq_true rfl⟩) (gPreS0 hK) rfl rfl hl.1 rfl (lv_room (Nat.le_of_ble_eq_true rfl)) dX9_alike_1 ⟨Nat.le_of_ble_eq_true rfl, Nat.le_of_ble_eq_true rfl⟩) hP hS hA (fun H locs hP hS => ?_)
  refine lv_if_eq (tgt := 24) hx hb dX9_alike_4 (by decide) (fun k3 => ?_) (fun k3 => ?_)
  · replace hf := ifp k3 hf
    refine lv_iconst (v := (-1)) hx hb dX9_alike_24 (by decide) ?_
    cases hf
    exact W.iret hx hb hr (fun t ht _ => gqi hP hD hS ht) hS.2.2 dX9_alike_25
  · replace hf := ifn k3 hf
    refine lv_iload_n hx hb dX9_alike_7 rfl (lv_at hl 2 rfl) ?_
    obtain ⟨r4, v5, hf⟩ := bd1_some hf
    refine gci0 (va_runS (As := [.int p2]) (rest := []) ⟨hx, hb, hml, hown, hts⟩ (tX9_isBond l dC dI dA H.size v5) (ccX9_X9_isBond hts ⟨Nat.le_of_ble_eq_true rfl, Nat.le_of_ble_eq_true rfl⟩) (gPreS0 hK) rfl rfl hl.1 rfl (lv_room (Nat.le_of_ble_eq_true rfl)) dX9_alike_8 ⟨Nat.le_of_ble_eq_true rfl, Nat.le_of_ble_eq_true rfl⟩) hP hS hA (fun H locs hP hS => ?_)
    refine lv_if_eq (tgt := 24) hx hb dX9_alike_11 (by decide) (fun k6 => ?_) (fun k6 => ?_)
    · replace hf := ifp k6 hf
      refine lv_iconst (v := (-1)) hx hb dX9_alike_24 (by decide) ?_
      cases hf
      exact W.iret hx hb hr (fun t ht _ => gqi hP hD hS ht) hS.2.2 dX9_alike_25
    · replace hf := ifn k6 hf
      refine lv_iload_n hx hb dX9_alike_14 rfl (lv_at hl 3 rfl) ?_
      refine lv_i2l hx hb dX9_alike_15 rfl ?_
      refine lv_lconst (v := 0) hx hb dX9_alike_16 rfl ?_
      refine lv_lconst (v := 1) hx hb dX9_alike_17 rfl ?_
      obtain ⟨r7, v8, hf⟩ := bd1_some hf
      refine gci0 (va_runS (As := [.long (Int32.toInt64 p3), .long 0, .long 1]) (rest := []) ⟨hx, hb, hml, hown, hts⟩ (tX9_in l dC dI dA H.size v8) (ccX9_X9_in hts ⟨Nat.le_of_ble_eq_true rfl, Nat.le_of_ble_eq_true rfl⟩) (gPreS0 hK) rfl rfl hl.1 rfl (lv_room (Nat.le_of_ble_eq_true rfl)) dX9_alike_18 ⟨Nat.le_of_ble_eq_true rfl, Nat.le_of_ble_eq_true rfl⟩) hP hS hA (fun H locs hP hS => ?_)
      refine lv_if_ne (tgt := 26) hx hb dX9_alike_21 (by decide) (fun k9 => ?_) (fun k9 => ?_)
      · replace hf := ifn k9 hf
        refine lv_aload_n hx hb dX9_alike_26 rfl (lv_at hl 0 rfl) ?_
        refine lv_iload_n hx hb dX9_alike_27 rfl (lv_at hl 1 rfl) ?_
        obtain ⟨c_days_10, c_likely_11, c_outOf_12, c_rateNow_13, c_pence_14, c_top_15, c_bottom_16, c_worth_17, c_hold_18, c_acts_19, v20, hf⟩ := bd10_some hf
        refine gcv (va_runV (As := [.int p1]) (rest := []) ⟨hx, hb, hml, hown, hts⟩ (tX9_playsNow l dC dI dA ad H.size v20) (ccX9_X9_playsNow hts ⟨Nat.le_of_ble_eq_true rfl, Nat.le_of_ble_eq_true rfl⟩) (gPreV (ci := 9) (q0 := 0) hP hK hD rfl rfl) rfl rfl hl.1 rfl (lv_room (Nat.le_of_ble_eq_true rfl)) dX9_alike_28 ⟨Nat.le_of_ble_eq_true rfl, Nat.le_of_ble_eq_true rfl⟩) hD hS hA (fun H locs hP hD hS => ?_)
        refine lv_iconst (v := 0) hx hb dX9_alike_31 (by decide) ?_
        refine lv_istore (lv' := [(4, .int 0), (0, .ref (ad 0)), (1, .int p1), (2, .int p2), (3, .int p3)]) hx hb dX9_alike_32 hl (by decide) rfl (fun ls hl => ?_)
        obtain ⟨c_other_21, v22, hf⟩ := bd1_some hf
        refine LP34 FU _ _ _ _ _ _ _ _ _ _ _ _ _ _ _ _ _ _ _ _ _ _ _ _ _ _ _ _ _ _ _ _ _ _ _ _ _ _ _ _ _ _ _ _ _ _ _ _ _ _ _ _ _ hP hD hS v22 (lv_sub hl [1, 2, 3, 4, 0] rfl) (fun H locs ls hP hD hS hl => ?_)
        refine lv_aload_n hx hb dX9_alike_62 rfl (lv_at hl 0 rfl) ?_
        refine lv_iload_n hx hb dX9_alike_63 rfl (lv_at hl 2 rfl) ?_
        obtain ⟨c_worth_23, c_hold_24, c_acts_25, v26, hf⟩ := bd3_some hf
        refine gcv (va_runV (As := [.int p2]) (rest := []) ⟨hx, hb, hml, hown, hts⟩ (tX9_plays l dC dI dA ad H.size v26) (ccX9_X9_plays hts ⟨Nat.le_of_ble_eq_true rfl, Nat.le_of_ble_eq_true rfl⟩) (gPreV (ci := 9) (q0 := 0) hP hK hD rfl rfl) rfl rfl hl.1 rfl (lv_room (Nat.le_of_ble_eq_true rfl)) dX9_alike_64 ⟨Nat.le_of_ble_eq_true rfl, Nat.le_of_ble_eq_true rfl⟩) hD hS hA (fun H locs hP hD hS => ?_)
        refine lv_bipush (v := 7) hx hb dX9_alike_67 (by decide) ?_
        refine lv_istore (lv' := [(4, .int 7), (0, .ref (ad 0)), (1, .int p1), (2, .int p2), (3, .int p3)]) hx hb dX9_alike_69 hl (by decide) rfl (fun ls hl => ?_)
        refine lv_iconst (v := 0) hx hb dX9_alike_71 (by decide) ?_
        refine lv_istore (lv' := [(5, .int 0), (4, .int 7), (0, .ref (ad 0)), (1, .int p1), (2, .int p2), (3, .int p3)]) hx hb dX9_alike_72 hl (by decide) rfl (fun ls hl => ?_)
        obtain ⟨x27, c_sDay_28, c_sUps_29, c_sUp_30, c_sMarks_31, v32, hf⟩ := bd5_some hf
        refine LP74 FU _ _ _ _ _ _ _ _ _ _ _ _ _ _ _ _ _ _ _ _ _ _ _ _ _ _ _ _ _ _ _ _ _ _ _ _ _ _ _ _ _ _ _ _ _ _ _ _ _ _ _ _ _ _ _ _ _ _ hP hD hS v32 (lv_sub hl [2, 3, 4, 5, 1, 0] rfl) (fun H locs ls hP hD hS hl => ?_)
        refine lv_iload_n hx hb dX9_alike_264 rfl (lv_at hl 0 rfl) ?_
        obtain ⟨j34, v36, hf⟩ := bd1_some hf
        have J35 : ∀ (H : Heap) (locs : List Loc) (ls : Array Slot), va_P (dC, dI) vwCl (mW dA ad c_tape c_taped c_tree c_bonds c_moves c_handMoves c_moved c_days_10 c_likely_11 c_outOf_12 c_rateNow_13 c_pence_14 c_top_15 c_bottom_16 c_spot c_textLong c_fault c_number c_numberAt c_figures c_written c_wanted c_found c_drawnNow c_worth_23 c_hold_24 c_way c_acts_25 c_sDay_28 c_sUps_29 c_sUp_30 c_sMarks_31 c_paidAll c_isPlayed c_isOn c_handMoved c_handPaid c_regret c_aside c_other_21 c_states c_kept c_keptLong c_keptAt c_isTaking) H → va_D A (mW dA ad c_tape c_taped c_tree c_bonds c_moves c_handMoves c_moved c_days_10 c_likely_11 c_outOf_12 c_rateNow_13 c_pence_14 c_top_15 c_bottom_16 c_spot c_textLong c_fault c_number c_numberAt c_figures c_written c_wanted c_found c_drawnNow c_worth_23 c_hold_24 c_way c_acts_25 c_sDay_28 c_sUps_29 c_sUp_30 c_sMarks_31 c_paidAll c_isPlayed c_isOn c_handMoved c_handPaid c_regret c_aside c_other_21 c_states c_kept c_keptLong c_keptAt c_isTaking) → va_S A s.heap H locs → lv_has ls 10 [] → W p l e rmX9_alike s m ([.ref (ad 0), .int p1, .int p2, .int p3] : List Value).toArray below meth c H locs 0 0 (MQ below (gQi (dC, dI) r (mW dA ad c_tape c_taped c_tree c_bonds c_moves c_handMoves c_moved o_c_days o_c_likely o_c_outOf o_c_rateNow o_c_pence o_c_top o_c_bottom c_spot c_textLong c_fault c_number c_numberAt c_figures c_written c_wanted c_found c_drawnNow o_c_worth o_c_hold c_way o_c_acts o_c_sDay o_c_sUps o_c_sUp o_c_sMarks c_paidAll c_isPlayed c_isOn c_handMoved c_handPaid c_regret c_aside o_c_other c_states c_kept c_keptLong c_keptAt c_isTaking) A) ([.ref (ad 0), .int p1, .int p2, .int p3] : List Value).toArray s 0 0 A) (F0 m 297 ls [.int j34]) := by
          intro H locs ls hP hD hS hl
          cases hf
          exact W.iret hx hb hr (fun t ht _ => gqi hP hD hS ht) hS.2.2 dX9_alike_297
        replace hf := v36
        clear v36
        refine lv_if_ne (tgt := 283) hx hb dX9_alike_265 (by decide) (fun k33 => ?_) (fun k33 => ?_)
        · replace hf := ifn k33 hf
          refine lv_iload hx hb dX9_alike_283 (lv_at hl 1 rfl) ?_
          refine lv_bipush (v := 7) hx hb dX9_alike_285 (by decide) ?_
          refine lv_icmp_ne (tgt := 295) hx hb dX9_alike_287 (by decide) (fun k37 => ?_) (fun k37 => ?_)
          · replace hf := ifn k37 hf
            refine lv_iload hx hb dX9_alike_295 (lv_at hl 1 rfl) ?_
            cases hf
            exact J35 _ _ _ hP hD hS (lv_sub hl [] rfl)
          · replace hf := ifp k37 hf
            refine lv_bipush (v := (-2)) hx hb dX9_alike_290 (by decide) ?_
            refine lv_goto (tgt := 297) hx hb dX9_alike_292 (by decide) ?_
            cases hf
            exact J35 _ _ _ hP hD hS (lv_sub hl [] rfl)
        · replace hf := ifp k33 hf
          refine lv_iload hx hb dX9_alike_268 (lv_at hl 1 rfl) ?_
          refine lv_bipush (v := 7) hx hb dX9_alike_270 (by decide) ?_
          refine lv_icmp_ne (tgt := 279) hx hb dX9_alike_272 (by decide) (fun k38 => ?_) (fun k38 => ?_)
          · replace hf := ifn k38 hf
            refine lv_iconst (v := 0) hx hb dX9_alike_279 (by decide) ?_
            refine lv_goto (tgt := 297) hx hb dX9_alike_280 (by decide) ?_
            cases hf
            exact J35 _ _ _ hP hD hS (lv_sub hl [] rfl)
          · replace hf := ifp k38 hf
            refine lv_iconst (v := 1) hx hb dX9_alike_275 (by decide) ?_
            refine lv_goto (tgt := 297) hx hb dX9_alike_276 (by decide) ?_
            cases hf
            exact J35 _ _ _ hP hD hS (lv_sub hl [] rfl)
      · replace hf := ifp k9 hf
        refine lv_iconst (v := (-1)) hx hb dX9_alike_24 (by decide) ?_
        cases hf
        exact W.iret hx hb hr (fun t ht _ => gqi hP hD hS ht) hS.2.2 dX9_alike_25
abbrev rmX9_best : Room := { frames := 7, cells := 0, slots := 0, locals := 184 }
set_option maxHeartbeats 4000000 in
set_option maxRecDepth 100000 in
theorem tX9_best (l : Launch) (dC : Nat → ClassId) (dI : Nat → Nat → Nat) (dA : Nat → ClassId) (ad : Nat → Nat) (sz : Nat) {p1 : Int32} {c_tape : Nat → Int32} {c_taped : Int32} {c_tree : Nat → Int32} {c_bonds : Nat → Int32} {c_moves : Nat → Int32} {c_handMoves : Nat → Int32} {c_moved : Int32} {c_days : Int32} {c_likely : Int32} {c_outOf : Int32} {c_rateNow : Int32} {c_pence : Nat → Int64} {c_top : Int64} {c_bottom : Int64} {c_spot : Int32} {c_textLong : Int32} {c_fault : Int32} {c_number : Int32} {c_numberAt : Int32} {c_figures : Int32} {c_written : Int32} {c_wanted : Int32} {c_found : Int32} {c_drawnNow : Int32} {c_worth : Nat → Int64} {c_hold : Nat → Int64} {c_way : Nat → Int64} {c_acts : Nat → Int32} {c_sDay : Int32} {c_sUps : Int32} {c_sUp : Int32} {c_sMarks : Int32} {c_paidAll : Int64} {c_isPlayed : Int32} {c_isOn : Int32} {c_handMoved : Int32} {c_handPaid : Int64} {c_regret : Int64} {c_aside : Nat → Int32} {c_other : Nat → Int64} {c_states : Int32} {c_kept : Nat → Int32} {c_keptLong : Nat → Int64} {c_keptAt : Int32} {c_isTaking : Int32} {r : Int32} {o_c_days : Int32} {o_c_likely : Int32} {o_c_outOf : Int32} {o_c_rateNow : Int32} {o_c_pence : Nat → Int64} {o_c_top : Int64} {o_c_bottom : Int64} {o_c_worth : Nat → Int64} {o_c_hold : Nat → Int64} {o_c_acts : Nat → Int32} (hf : fX9_best p1 c_tree c_bonds c_days c_likely c_outOf c_rateNow c_pence c_top c_bottom c_worth c_hold c_acts = some (r, o_c_days, o_c_likely, o_c_outOf, o_c_rateNow, o_c_pence, o_c_top, o_c_bottom, o_c_worth, o_c_hold, o_c_acts)) : Met l yX9_best (wq (Cond.code yX9_best cX9_best 8 (some .int))) rmX9_best (gP [.ref (ad 0), .int p1] (dC, dI) dA (mW dA ad c_tape c_taped c_tree c_bonds c_moves c_handMoves c_moved c_days c_likely c_outOf c_rateNow c_pence c_top c_bottom c_spot c_textLong c_fault c_number c_numberAt c_figures c_written c_wanted c_found c_drawnNow c_worth c_hold c_way c_acts c_sDay c_sUps c_sUp c_sMarks c_paidAll c_isPlayed c_isOn c_handMoved c_handPaid c_regret c_aside c_other c_states c_kept c_keptLong c_keptAt c_isTaking) sz) (gQi (dC, dI) r (mW dA ad c_tape c_taped c_tree c_bonds c_moves c_handMoves c_moved o_c_days o_c_likely o_c_outOf o_c_rateNow o_c_pence o_c_top o_c_bottom c_spot c_textLong c_fault c_number c_numberAt c_figures c_written c_wanted c_found c_drawnNow o_c_worth o_c_hold c_way o_c_acts c_sDay c_sUps c_sUp c_sMarks c_paidAll c_isPlayed c_isOn c_handMoved c_handPaid c_regret c_aside c_other c_states c_kept c_keptLong c_keptAt c_isTaking) (va_A (mW dA ad c_tape c_taped c_tree c_bonds c_moves c_handMoves c_moved c_days c_likely c_outOf c_rateNow c_pence c_top c_bottom c_spot c_textLong c_fault c_number c_numberAt c_figures c_written c_wanted c_found c_drawnNow c_worth c_hold c_way c_acts c_sDay c_sUps c_sUp c_sMarks c_paidAll c_isPlayed c_isOn c_handMoved c_handPaid c_regret c_aside c_other c_states c_kept c_keptLong c_keptAt c_isTaking) sz)) 0 0 (va_A (mW dA ad c_tape c_taped c_tree c_bonds c_moves c_handMoves c_moved c_days c_likely c_outOf c_rateNow c_pence c_top c_bottom c_spot c_textLong c_fault c_number c_numberAt c_figures c_written c_wanted c_found c_drawnNow c_worth c_hold c_way c_acts c_sDay c_sUps c_sUp c_sMarks c_paidAll c_isPlayed c_isOn c_handMoved c_handPaid c_regret c_aside c_other c_states c_kept c_keptLong c_keptAt c_isTaking) sz) := by
  refine Met.ofW (cc := cX9_best) (maxL := 8) (ret := (some .int)) (by decide) rfl ?_
  intro p e s m args below meth c s₁ B hml hv
  obtain ⟨rfl, hsz, hP, hK, hD0⟩ := hv
  have hx := B.exec
  have hb := B.bytes
  have hr := B.returns
  have hts := atoms_spec (ws := wq (Cond.code yX9_best cX9_best 8 (some .int))) B.pre
  have hown : s.vm.findClass RX9 = some m.cls := findClass_of_methodNamed B.named
  have hlocks := B.notSynchronized
  clear B
  subst hsz
  have hD := hD0.self (sz := s.heap.size)
  generalize hAe : va_A (mW dA ad c_tape c_taped c_tree c_bonds c_moves c_handMoves c_moved c_days c_likely c_outOf c_rateNow c_pence c_top c_bottom c_spot c_textLong c_fault c_number c_numberAt c_figures c_written c_wanted c_found c_drawnNow c_worth c_hold c_way c_acts c_sDay c_sUps c_sUp c_sMarks c_paidAll c_isPlayed c_isOn c_handMoved c_handPaid c_regret c_aside c_other c_states c_kept c_keptLong c_keptAt c_isTaking) s.heap.size = A at hD ⊢
  have hA : ∀ q : Nat, s.heap.size ≤ q → A q := fun q h => by rw [← hAe]; exact Or.inr h
  clear hAe hD0
  have hS : va_S A s.heap s.heap [] := va_S.rf
  have hl := lv_entry ([.ref (ad 0), .int p1]) (n := 8) (Nat.le_of_ble_eq_true rfl)
  rw [lg_entry_eq]
  generalize (lg_sl ([.ref (ad 0), .int p1]) ++ List.replicate (8 - (lg_sl ([.ref (ad 0), .int p1])).length) Slot.unset).toArray = ls at hl ⊢
  have hl : lv_has ls 8 [(0, .ref (ad 0)), (1, .int p1)] := hl
  change W p l e rmX9_best s m ([.ref (ad 0), .int p1] : List Value).toArray below meth c s.heap [] 0 0 _ _
  generalize hQ : MQ below (gQi (dC, dI) r (mW dA ad c_tape c_taped c_tree c_bonds c_moves c_handMoves c_moved o_c_days o_c_likely o_c_outOf o_c_rateNow o_c_pence o_c_top o_c_bottom c_spot c_textLong c_fault c_number c_numberAt c_figures c_written c_wanted c_found c_drawnNow o_c_worth o_c_hold c_way o_c_acts c_sDay c_sUps c_sUp c_sMarks c_paidAll c_isPlayed c_isOn c_handMoved c_handPaid c_regret c_aside c_other c_states c_kept c_keptLong c_keptAt c_isTaking) A) ([.ref (ad 0), .int p1] : List Value).toArray s 0 0 A = Q
  have LP11 : ∀ (n : Nat) (x1 : Int32) (c_bonds : Nat → Int32) (c_days : Int32) (c_likely : Int32) (c_outOf : Int32) (c_rateNow : Int32) (c_pence : Nat → Int64) (c_tape : Nat → Int32) (c_taped : Int32) (c_tree : Nat → Int32) (c_moves : Nat → Int32) (c_handMoves : Nat → Int32) (c_moved : Int32) (c_top : Int64) (c_bottom : Int64) (c_spot : Int32) (c_textLong : Int32) (c_fault : Int32) (c_number : Int32) (c_numberAt : Int32) (c_figures : Int32) (c_written : Int32) (c_wanted : Int32) (c_found : Int32) (c_drawnNow : Int32) (c_way : Nat → Int64) (c_sDay : Int32) (c_sUps : Int32) (c_sUp : Int32) (c_sMarks : Int32) (c_paidAll : Int64) (c_isPlayed : Int32) (c_isOn : Int32) (c_handMoved : Int32) (c_handPaid : Int64) (c_regret : Int64) (c_aside : Nat → Int32) (c_other : Nat → Int64) (c_states : Int32) (c_kept : Nat → Int32) (c_keptLong : Nat → Int64) (c_keptAt : Int32) (c_isTaking : Int32) (x2 : Int32) (x3 : Int64) (x5 : Int32) (c_worth : Nat → Int64) (c_hold : Nat → Int64) (c_acts : Nat → Int32) (o2 : Int32) (o_c_worth : Nat → Int64) (o_c_hold : Nat → Int64) (o_c_acts : Nat → Int32) (H : Heap) (locs : List Loc) (ls : Array Slot), va_P (dC, dI) vwCl (mW dA ad c_tape c_taped c_tree c_bonds c_moves c_handMoves c_moved c_days c_likely c_outOf c_rateNow c_pence c_top c_bottom c_spot c_textLong c_fault c_number c_numberAt c_figures c_written c_wanted c_found c_drawnNow c_worth c_hold c_way c_acts c_sDay c_sUps c_sUp c_sMarks c_paidAll c_isPlayed c_isOn c_handMoved c_handPaid c_regret c_aside c_other c_states c_kept c_keptLong c_keptAt c_isTaking) H → va_D A (mW dA ad c_tape c_taped c_tree c_bonds c_moves c_handMoves c_moved c_days c_likely c_outOf c_rateNow c_pence c_top c_bottom c_spot c_textLong c_fault c_number c_numberAt c_figures c_written c_wanted c_found c_drawnNow c_worth c_hold c_way c_acts c_sDay c_sUps c_sUp c_sMarks c_paidAll c_isPlayed c_isOn c_handMoved c_handPaid c_regret c_aside c_other c_states c_kept c_keptLong c_keptAt c_isTaking) → va_S A s.heap H locs → lpX9_best_11 x1 c_bonds c_days c_likely c_outOf c_rateNow c_pence n x2 x3 x5 c_worth c_hold c_acts = some (o2, o_c_worth, o_c_hold, o_c_acts) → lv_has ls 8 [(0, .ref (ad 0)), (1, .int x1), (2, .int x2), (3, .long x3), (5, .int x5)] → (∀ (H : Heap) (locs : List Loc) (ls : Array Slot), va_P (dC, dI) vwCl (mW dA ad c_tape c_taped c_tree c_bonds c_moves c_handMoves c_moved c_days c_likely c_outOf c_rateNow c_pence c_top c_bottom c_spot c_textLong c_fault c_number c_numberAt c_figures c_written c_wanted c_found c_drawnNow o_c_worth o_c_hold c_way o_c_acts c_sDay c_sUps c_sUp c_sMarks c_paidAll c_isPlayed c_isOn c_handMoved c_handPaid c_regret c_aside c_other c_states c_kept c_keptLong c_keptAt c_isTaking) H → va_D A (mW dA ad c_tape c_taped c_tree c_bonds c_moves c_handMoves c_moved c_days c_likely c_outOf c_rateNow c_pence c_top c_bottom c_spot c_textLong c_fault c_number c_numberAt c_figures c_written c_wanted c_found c_drawnNow o_c_worth o_c_hold c_way o_c_acts c_sDay c_sUps c_sUp c_sMarks c_paidAll c_isPlayed c_isOn c_handMoved c_handPaid c_regret c_aside c_other c_states c_kept c_keptLong c_keptAt c_isTaking) → va_S A s.heap H locs → lv_has ls 8 [(2, .int o2)] → W p l e rmX9_best s m ([.ref (ad 0), .int p1] : List Value).toArray below meth c H locs 0 0 Q (F0 m 66 ls [])) → W p l e rmX9_best s m ([.ref (ad 0), .int p1] : List Value).toArray below meth c H locs 0 0 Q (F0 m 11 ls []) := by
    intro n
    induction n with
    | zero =>
      intro x1 c_bonds c_days c_likely c_outOf c_rateNow c_pence c_tape c_taped c_tree c_moves c_handMoves c_moved c_top c_bottom c_spot c_textLong c_fault c_number c_numberAt c_figures c_written c_wanted c_found c_drawnNow c_way c_sDay c_sUps c_sUp c_sMarks c_paidAll c_isPlayed c_isOn c_handMoved c_handPaid c_regret c_aside c_other c_states c_kept c_keptLong c_keptAt c_isTaking x2 x3 x5 c_worth c_hold c_acts o2 o_c_worth o_c_hold o_c_acts H locs ls hP hD hS hf hl hk
      cases hf
    | succ n ih11 =>
      intro x1 c_bonds c_days c_likely c_outOf c_rateNow c_pence c_tape c_taped c_tree c_moves c_handMoves c_moved c_top c_bottom c_spot c_textLong c_fault c_number c_numberAt c_figures c_written c_wanted c_found c_drawnNow c_way c_sDay c_sUps c_sUp c_sMarks c_paidAll c_isPlayed c_isOn c_handMoved c_handPaid c_regret c_aside c_other c_states c_kept c_keptLong c_keptAt c_isTaking x2 x3 x5 c_worth c_hold c_acts o2 o_c_worth o_c_hold o_c_acts H locs ls hP hD hS hf hl hk
      rw [lpX9_best_11.eq_2] at hf
      refine lv_iload hx hb dX9_best_11 (lv_at hl 4 rfl) ?_
      refine lv_iconst (v := 3) hx hb dX9_best_13 (by decide) ?_
      refine lv_icmp_ge (tgt := 66) hx hb dX9_best_14 (by decide) (fun k14 => ?_) (fun k14 => ?_)
      · replace hf := ifp k14 hf
        cases hf
        exact hk _ _ _ hP hD hS (lv_sub hl [2] rfl)
      · replace hf := ifn k14 hf
        refine lv_aload_n hx hb dX9_best_17 rfl (lv_at hl 0 rfl) ?_
        refine lv_iload hx hb dX9_best_18 (lv_at hl 4 rfl) ?_
        obtain ⟨r15, c_worth_16, c_hold_17, c_acts_18, v19, hf⟩ := bd4_some hf
        refine gcl (va_runV (As := [.int x5]) (rest := []) ⟨hx, hb, hml, hown, hts⟩ (tX9_valueOf l dC dI dA ad H.size v19) (ccX9_X9_valueOf hts ⟨Nat.le_of_ble_eq_true rfl, Nat.le_of_ble_eq_true rfl⟩) (gPreV (ci := 9) (q0 := 0) hP hK hD rfl rfl) rfl rfl hl.1 rfl (lv_room (Nat.le_of_ble_eq_true rfl)) dX9_best_20 ⟨Nat.le_of_ble_eq_true rfl, Nat.le_of_ble_eq_true rfl⟩) hD hS hA (fun H locs hP hD hS => ?_)
        refine lv_lstore (lv' := [(6, .long r15), (0, .ref (ad 0)), (1, .int x1), (2, .int x2), (3, .long x3), (5, .int x5)]) hx hb dX9_best_23 hl (by decide) rfl (fun ls hl => ?_)
        refine lv_iload_n hx hb dX9_best_25 rfl (lv_at hl 3 rfl) ?_
        refine lv_iconst (v := (-1)) hx hb dX9_best_26 (by decide) ?_
        obtain ⟨j21, j22, v24, hf⟩ := bd2_some hf
        have J23 : ∀ (H : Heap) (locs : List Loc) (ls : Array Slot), va_P (dC, dI) vwCl (mW dA ad c_tape c_taped c_tree c_bonds c_moves c_handMoves c_moved c_days c_likely c_outOf c_rateNow c_pence c_top c_bottom c_spot c_textLong c_fault c_number c_numberAt c_figures c_written c_wanted c_found c_drawnNow c_worth_16 c_hold_17 c_way c_acts_18 c_sDay c_sUps c_sUp c_sMarks c_paidAll c_isPlayed c_isOn c_handMoved c_handPaid c_regret c_aside c_other c_states c_kept c_keptLong c_keptAt c_isTaking) H → va_D A (mW dA ad c_tape c_taped c_tree c_bonds c_moves c_handMoves c_moved c_days c_likely c_outOf c_rateNow c_pence c_top c_bottom c_spot c_textLong c_fault c_number c_numberAt c_figures c_written c_wanted c_found c_drawnNow c_worth_16 c_hold_17 c_way c_acts_18 c_sDay c_sUps c_sUp c_sMarks c_paidAll c_isPlayed c_isOn c_handMoved c_handPaid c_regret c_aside c_other c_states c_kept c_keptLong c_keptAt c_isTaking) → va_S A s.heap H locs → lv_has ls 8 [(0, .ref (ad 0)), (1, .int x1), (2, .int j21), (3, .long j22), (5, .int x5)] → W p l e rmX9_best s m ([.ref (ad 0), .int p1] : List Value).toArray below meth c H locs 0 0 Q (F0 m 60 ls []) := by
          intro H locs ls hP hD hS hl
          obtain ⟨w25, ew25⟩ : ∃ y : Int32, y = x5 + 1 := ⟨_, rfl⟩
          replace hf := nm_at hf ew25
          refine lv_iinc (v := w25) (lv' := [(5, .int w25), (0, .ref (ad 0)), (1, .int x1), (2, .int j21), (3, .long j22)]) hx hb dX9_best_60 hl (k := 4) rfl (by rw [ew25]; rfl) (by decide) rfl (fun ls hl => ?_)
          refine lv_goto (tgt := 11) hx hb dX9_best_63 (by decide) ?_
          exact ih11 _ _ _ _ _ _ _ _ _ _ _ _ _ _ _ _ _ _ _ _ _ _ _ _ _ _ _ _ _ _ _ _ _ _ _ _ _ _ _ _ _ _ _ _ _ _ _ _ _ _ _ _ _ _ _ _ hP hD hS hf (lv_sub hl [1, 2, 3, 4, 0] rfl) hk
        replace hf := v24
        clear v24
        refine lv_icmp_eq (tgt := 54) hx hb dX9_best_27 (by decide) (fun k20 => ?_) (fun k20 => ?_)
        · replace hf := ifp k20 hf
          refine lv_iload hx hb dX9_best_54 (lv_at hl 5 rfl) ?_
          refine lv_istore_n (lv' := [(2, .int x5), (6, .long r15), (0, .ref (ad 0)), (1, .int x1), (3, .long x3), (5, .int x5)]) hx hb dX9_best_56 rfl hl (by decide) rfl (fun ls hl => ?_)
          refine lv_lload hx hb dX9_best_57 (lv_at hl 1 rfl) ?_
          refine lv_lstore_n (lv' := [(3, .long r15), (2, .int x5), (6, .long r15), (0, .ref (ad 0)), (1, .int x1), (5, .int x5)]) hx hb dX9_best_59 rfl hl (by decide) rfl (fun ls hl => ?_)
          cases hf
          exact J23 _ _ _ hP hD hS (lv_sub hl [3, 4, 1, 0, 5] rfl)
        · replace hf := ifn k20 hf
          refine lv_iload_n hx hb dX9_best_30 rfl (lv_at hl 2 rfl) ?_
          refine lv_if_eq (tgt := 44) hx hb dX9_best_31 (by decide) (fun k26 => ?_) (fun k26 => ?_)
          · replace hf := ifp k26 hf
            refine lv_lload hx hb dX9_best_44 (lv_at hl 0 rfl) ?_
            refine lv_lload_n hx hb dX9_best_46 rfl (lv_at hl 4 rfl) ?_
            refine W.lcmp hx hb dX9_best_47 ?_
            refine lv_if_lt (tgt := 54) hx hb dX9_best_48 (by decide) (fun k27 => ?_) (fun k27 => ?_)
            · replace hf := ifp (lc_lt.mp k27) hf
              refine lv_iload hx hb dX9_best_54 (lv_at hl 5 rfl) ?_
              refine lv_istore_n (lv' := [(2, .int x5), (6, .long r15), (0, .ref (ad 0)), (1, .int x1), (3, .long x3), (5, .int x5)]) hx hb dX9_best_56 rfl hl (by decide) rfl (fun ls hl => ?_)
              refine lv_lload hx hb dX9_best_57 (lv_at hl 1 rfl) ?_
              refine lv_lstore_n (lv' := [(3, .long r15), (2, .int x5), (6, .long r15), (0, .ref (ad 0)), (1, .int x1), (5, .int x5)]) hx hb dX9_best_59 rfl hl (by decide) rfl (fun ls hl => ?_)
              cases hf
              exact J23 _ _ _ hP hD hS (lv_sub hl [3, 4, 1, 0, 5] rfl)
            · replace hf := ifn (fun h => k27 (lc_lt.mpr h)) hf
              refine lv_goto (tgt := 60) hx hb dX9_best_51 (by decide) ?_
              cases hf
              exact J23 _ _ _ hP hD hS (lv_sub hl [1, 2, 3, 4, 5] rfl)
          · replace hf := ifn k26 hf
            refine lv_lload hx hb dX9_best_34 (lv_at hl 0 rfl) ?_
            refine lv_lload_n hx hb dX9_best_36 rfl (lv_at hl 4 rfl) ?_
            refine W.lcmp hx hb dX9_best_37 ?_
            refine lv_if_gt (tgt := 54) hx hb dX9_best_38 (by decide) (fun k28 => ?_) (fun k28 => ?_)
            · replace hf := ifp (lc_gt.mp k28) hf
              refine lv_iload hx hb dX9_best_54 (lv_at hl 5 rfl) ?_
              refine lv_istore_n (lv' := [(2, .int x5), (6, .long r15), (0, .ref (ad 0)), (1, .int x1), (3, .long x3), (5, .int x5)]) hx hb dX9_best_56 rfl hl (by decide) rfl (fun ls hl => ?_)
              refine lv_lload hx hb dX9_best_57 (lv_at hl 1 rfl) ?_
              refine lv_lstore_n (lv' := [(3, .long r15), (2, .int x5), (6, .long r15), (0, .ref (ad 0)), (1, .int x1), (5, .int x5)]) hx hb dX9_best_59 rfl hl (by decide) rfl (fun ls hl => ?_)
              cases hf
              exact J23 _ _ _ hP hD hS (lv_sub hl [3, 4, 1, 0, 5] rfl)
            · replace hf := ifn (fun h => k28 (lc_gt.mpr h)) hf
              refine lv_goto (tgt := 60) hx hb dX9_best_41 (by decide) ?_
              cases hf
              exact J23 _ _ _ hP hD hS (lv_sub hl [1, 2, 3, 4, 5] rfl)
  subst hQ
  unfold fX9_best at hf
  refine lv_aload_n hx hb dX9_best_0 rfl (lv_at hl 0 rfl) ?_
  obtain ⟨c_days_1, c_likely_2, c_outOf_3, c_rateNow_4, c_pence_5, c_top_6, c_bottom_7, v8, hf⟩ := bd7_some hf
  refine gcv (va_runV (As := []) (rest := []) ⟨hx, hb, hml, hown, hts⟩ (tX9_takesNow l dC dI dA ad s.heap.size v8) (ccX9_X9_takesNow hts ⟨Nat.le_of_ble_eq_true rfl, Nat.le_of_ble_eq_true rfl⟩) (gPreV (ci := 9) (q0 := 0) hP hK hD rfl rfl) rfl rfl hl.1 rfl (lv_room (Nat.le_of_ble_eq_true rfl)) dX9_best_1 ⟨Nat.le_of_ble_eq_true rfl, Nat.le_of_ble_eq_true rfl⟩) hD hS hA (fun H locs hP hD hS => ?_)
  refine lv_iconst (v := (-1)) hx hb dX9_best_4 (by decide) ?_
  refine lv_istore_n (lv' := [(2, .int (-1)), (0, .ref (ad 0)), (1, .int p1)]) hx hb dX9_best_5 rfl hl (by decide) rfl (fun ls hl => ?_)
  refine lv_lconst (v := 0) hx hb dX9_best_6 rfl ?_
  refine lv_lstore_n (lv' := [(3, .long 0), (2, .int (-1)), (0, .ref (ad 0)), (1, .int p1)]) hx hb dX9_best_7 rfl hl (by decide) rfl (fun ls hl => ?_)
  refine lv_iconst (v := 0) hx hb dX9_best_8 (by decide) ?_
  refine lv_istore (lv' := [(5, .int 0), (3, .long 0), (2, .int (-1)), (0, .ref (ad 0)), (1, .int p1)]) hx hb dX9_best_9 hl (by decide) rfl (fun ls hl => ?_)
  obtain ⟨x9, c_worth_10, c_hold_11, c_acts_12, v13, hf⟩ := bd4_some hf
  refine LP11 FU _ _ _ _ _ _ _ _ _ _ _ _ _ _ _ _ _ _ _ _ _ _ _ _ _ _ _ _ _ _ _ _ _ _ _ _ _ _ _ _ _ _ _ _ _ _ _ _ _ _ _ _ _ _ _ _ hP hD hS v13 (lv_sub hl [3, 4, 2, 1, 0] rfl) (fun H locs ls hP hD hS hl => ?_)
  refine lv_iload_n hx hb dX9_best_66 rfl (lv_at hl 0 rfl) ?_
  cases hf
  exact W.iret hx hb hr (fun t ht _ => gqi hP hD hS ht) hS.2.2 dX9_best_67
abbrev rmX9_book : Room := { frames := 7, cells := 0, slots := 0, locals := 184 }
set_option maxHeartbeats 4000000 in
set_option maxRecDepth 100000 in
theorem tX9_book (l : Launch) (dC : Nat → ClassId) (dI : Nat → Nat → Nat) (dA : Nat → ClassId) (ad : Nat → Nat) (sz : Nat) {p1 : Int32} {p2 : Int32} {p3 : Int32} {c_tape : Nat → Int32} {c_taped : Int32} {c_tree : Nat → Int32} {c_bonds : Nat → Int32} {c_moves : Nat → Int32} {c_handMoves : Nat → Int32} {c_moved : Int32} {c_days : Int32} {c_likely : Int32} {c_outOf : Int32} {c_rateNow : Int32} {c_pence : Nat → Int64} {c_top : Int64} {c_bottom : Int64} {c_spot : Int32} {c_textLong : Int32} {c_fault : Int32} {c_number : Int32} {c_numberAt : Int32} {c_figures : Int32} {c_written : Int32} {c_wanted : Int32} {c_found : Int32} {c_drawnNow : Int32} {c_worth : Nat → Int64} {c_hold : Nat → Int64} {c_way : Nat → Int64} {c_acts : Nat → Int32} {c_sDay : Int32} {c_sUps : Int32} {c_sUp : Int32} {c_sMarks : Int32} {c_paidAll : Int64} {c_isPlayed : Int32} {c_isOn : Int32} {c_handMoved : Int32} {c_handPaid : Int64} {c_regret : Int64} {c_aside : Nat → Int32} {c_other : Nat → Int64} {c_states : Int32} {c_kept : Nat → Int32} {c_keptLong : Nat → Int64} {c_keptAt : Int32} {c_isTaking : Int32} {r : Int64} {o_c_days : Int32} {o_c_likely : Int32} {o_c_outOf : Int32} {o_c_rateNow : Int32} {o_c_pence : Nat → Int64} {o_c_top : Int64} {o_c_bottom : Int64} {o_c_worth : Nat → Int64} {o_c_hold : Nat → Int64} {o_c_acts : Nat → Int32} (hf : fX9_book p1 p2 p3 c_tree c_bonds c_days c_likely c_outOf c_rateNow c_pence c_top c_bottom c_worth c_hold c_acts = some (r, o_c_days, o_c_likely, o_c_outOf, o_c_rateNow, o_c_pence, o_c_top, o_c_bottom, o_c_worth, o_c_hold, o_c_acts)) : Met l yX9_book (wq (Cond.code yX9_book cX9_book 6 (some .long))) rmX9_book (gP [.ref (ad 0), .int p1, .int p2, .int p3] (dC, dI) dA (mW dA ad c_tape c_taped c_tree c_bonds c_moves c_handMoves c_moved c_days c_likely c_outOf c_rateNow c_pence c_top c_bottom c_spot c_textLong c_fault c_number c_numberAt c_figures c_written c_wanted c_found c_drawnNow c_worth c_hold c_way c_acts c_sDay c_sUps c_sUp c_sMarks c_paidAll c_isPlayed c_isOn c_handMoved c_handPaid c_regret c_aside c_other c_states c_kept c_keptLong c_keptAt c_isTaking) sz) (gQl (dC, dI) r (mW dA ad c_tape c_taped c_tree c_bonds c_moves c_handMoves c_moved o_c_days o_c_likely o_c_outOf o_c_rateNow o_c_pence o_c_top o_c_bottom c_spot c_textLong c_fault c_number c_numberAt c_figures c_written c_wanted c_found c_drawnNow o_c_worth o_c_hold c_way o_c_acts c_sDay c_sUps c_sUp c_sMarks c_paidAll c_isPlayed c_isOn c_handMoved c_handPaid c_regret c_aside c_other c_states c_kept c_keptLong c_keptAt c_isTaking) (va_A (mW dA ad c_tape c_taped c_tree c_bonds c_moves c_handMoves c_moved c_days c_likely c_outOf c_rateNow c_pence c_top c_bottom c_spot c_textLong c_fault c_number c_numberAt c_figures c_written c_wanted c_found c_drawnNow c_worth c_hold c_way c_acts c_sDay c_sUps c_sUp c_sMarks c_paidAll c_isPlayed c_isOn c_handMoved c_handPaid c_regret c_aside c_other c_states c_kept c_keptLong c_keptAt c_isTaking) sz)) 0 0 (va_A (mW dA ad c_tape c_taped c_tree c_bonds c_moves c_handMoves c_moved c_days c_likely c_outOf c_rateNow c_pence c_top c_bottom c_spot c_textLong c_fault c_number c_numberAt c_figures c_written c_wanted c_found c_drawnNow c_worth c_hold c_way c_acts c_sDay c_sUps c_sUp c_sMarks c_paidAll c_isPlayed c_isOn c_handMoved c_handPaid c_regret c_aside c_other c_states c_kept c_keptLong c_keptAt c_isTaking) sz) := by
  refine Met.ofW (cc := cX9_book) (maxL := 6) (ret := (some .long)) (by decide) rfl ?_
  intro p e s m args below meth c s₁ B hml hv
  obtain ⟨rfl, hsz, hP, hK, hD0⟩ := hv
  have hx := B.exec
  have hb := B.bytes
  have hr := B.returns
  have hts := atoms_spec (ws := wq (Cond.code yX9_book cX9_book 6 (some .long))) B.pre
  have hown : s.vm.findClass RX9 = some m.cls := findClass_of_methodNamed B.named
  have hlocks := B.notSynchronized
  clear B
  subst hsz
  have hD := hD0.self (sz := s.heap.size)
  generalize hAe : va_A (mW dA ad c_tape c_taped c_tree c_bonds c_moves c_handMoves c_moved c_days c_likely c_outOf c_rateNow c_pence c_top c_bottom c_spot c_textLong c_fault c_number c_numberAt c_figures c_written c_wanted c_found c_drawnNow c_worth c_hold c_way c_acts c_sDay c_sUps c_sUp c_sMarks c_paidAll c_isPlayed c_isOn c_handMoved c_handPaid c_regret c_aside c_other c_states c_kept c_keptLong c_keptAt c_isTaking) s.heap.size = A at hD ⊢
  have hA : ∀ q : Nat, s.heap.size ≤ q → A q := fun q h => by rw [← hAe]; exact Or.inr h
  clear hAe hD0
  have hS : va_S A s.heap s.heap [] := va_S.rf
  have hl := lv_entry ([.ref (ad 0), .int p1, .int p2, .int p3]) (n := 6) (Nat.le_of_ble_eq_true rfl)
  rw [lg_entry_eq]
  generalize (lg_sl ([.ref (ad 0), .int p1, .int p2, .int p3]) ++ List.replicate (6 - (lg_sl ([.ref (ad 0), .int p1, .int p2, .int p3])).length) Slot.unset).toArray = ls at hl ⊢
  have hl : lv_has ls 6 [(0, .ref (ad 0)), (1, .int p1), (2, .int p2), (3, .int p3)] := hl
  change W p l e rmX9_book s m ([.ref (ad 0), .int p1, .int p2, .int p3] : List Value).toArray below meth c s.heap [] 0 0 _ _
  unfold fX9_book at hf
  refine lv_iload_n hx hb dX9_book_0 rfl (lv_at hl 1 rfl) ?_
  refine lv_i2l hx hb dX9_book_1 rfl ?_
  refine lv_ldc2 (v := (-100)) hx hb hown (hts _ (gw_mem wkX9_438)) dX9_book_2 ?_
  refine lv_ldc2 (v := 100) hx hb hown (hts _ (gw_mem wkX9_110)) dX9_book_5 ?_
  obtain ⟨r1, v2, hf⟩ := bd1_some hf
  refine gci0 (va_runS (As := [.long (Int32.toInt64 p1), .long (-100), .long 100]) (rest := []) ⟨hx, hb, hml, hown, hts⟩ (tX9_in l dC dI dA s.heap.size v2) (ccX9_X9_in hts ⟨Nat.le_of_ble_eq_true rfl, Nat.le_of_ble_eq_true rfl⟩) (gPreS0 hK) rfl rfl hl.1 rfl (lv_room (Nat.le_of_ble_eq_true rfl)) dX9_book_8 ⟨Nat.le_of_ble_eq_true rfl, Nat.le_of_ble_eq_true rfl⟩) hP hS hA (fun H locs hP hS => ?_)
  refine lv_if_eq (tgt := 42) hx hb dX9_book_11 (by decide) (fun k3 => ?_) (fun k3 => ?_)
  · replace hf := ifp k3 hf
    refine lv_ldc2 (v := (-9223372036854775808)) hx hb hown (hts _ (gw_mem wkX9_364)) dX9_book_42 ?_
    cases hf
    exact W.lret hx hb hr (fun t ht _ => gql hP hD hS ht) hS.2.2 dX9_book_45
  · replace hf := ifn k3 hf
    refine lv_iload_n hx hb dX9_book_14 rfl (lv_at hl 2 rfl) ?_
    refine lv_i2l hx hb dX9_book_15 rfl ?_
    refine lv_ldc2 (v := (-100)) hx hb hown (hts _ (gw_mem wkX9_438)) dX9_book_16 ?_
    refine lv_ldc2 (v := 100) hx hb hown (hts _ (gw_mem wkX9_110)) dX9_book_19 ?_
    obtain ⟨r4, v5, hf⟩ := bd1_some hf
    refine gci0 (va_runS (As := [.long (Int32.toInt64 p2), .long (-100), .long 100]) (rest := []) ⟨hx, hb, hml, hown, hts⟩ (tX9_in l dC dI dA H.size v5) (ccX9_X9_in hts ⟨Nat.le_of_ble_eq_true rfl, Nat.le_of_ble_eq_true rfl⟩) (gPreS0 hK) rfl rfl hl.1 rfl (lv_room (Nat.le_of_ble_eq_true rfl)) dX9_book_22 ⟨Nat.le_of_ble_eq_true rfl, Nat.le_of_ble_eq_true rfl⟩) hP hS hA (fun H locs hP hS => ?_)
    refine lv_if_eq (tgt := 42) hx hb dX9_book_25 (by decide) (fun k6 => ?_) (fun k6 => ?_)
    · replace hf := ifp k6 hf
      refine lv_ldc2 (v := (-9223372036854775808)) hx hb hown (hts _ (gw_mem wkX9_364)) dX9_book_42 ?_
      cases hf
      exact W.lret hx hb hr (fun t ht _ => gql hP hD hS ht) hS.2.2 dX9_book_45
    · replace hf := ifn k6 hf
      refine lv_iload_n hx hb dX9_book_28 rfl (lv_at hl 3 rfl) ?_
      refine lv_i2l hx hb dX9_book_29 rfl ?_
      refine lv_ldc2 (v := (-100)) hx hb hown (hts _ (gw_mem wkX9_438)) dX9_book_30 ?_
      refine lv_ldc2 (v := 100) hx hb hown (hts _ (gw_mem wkX9_110)) dX9_book_33 ?_
      obtain ⟨r7, v8, hf⟩ := bd1_some hf
      refine gci0 (va_runS (As := [.long (Int32.toInt64 p3), .long (-100), .long 100]) (rest := []) ⟨hx, hb, hml, hown, hts⟩ (tX9_in l dC dI dA H.size v8) (ccX9_X9_in hts ⟨Nat.le_of_ble_eq_true rfl, Nat.le_of_ble_eq_true rfl⟩) (gPreS0 hK) rfl rfl hl.1 rfl (lv_room (Nat.le_of_ble_eq_true rfl)) dX9_book_36 ⟨Nat.le_of_ble_eq_true rfl, Nat.le_of_ble_eq_true rfl⟩) hP hS hA (fun H locs hP hS => ?_)
      refine lv_if_ne (tgt := 46) hx hb dX9_book_39 (by decide) (fun k9 => ?_) (fun k9 => ?_)
      · replace hf := ifn k9 hf
        refine lv_aload_n hx hb dX9_book_46 rfl (lv_at hl 0 rfl) ?_
        obtain ⟨c_days_10, c_likely_11, c_outOf_12, c_rateNow_13, c_pence_14, c_top_15, c_bottom_16, v17, hf⟩ := bd7_some hf
        refine gcv (va_runV (As := []) (rest := []) ⟨hx, hb, hml, hown, hts⟩ (tX9_takesNow l dC dI dA ad H.size v17) (ccX9_X9_takesNow hts ⟨Nat.le_of_ble_eq_true rfl, Nat.le_of_ble_eq_true rfl⟩) (gPreV (ci := 9) (q0 := 0) hP hK hD rfl rfl) rfl rfl hl.1 rfl (lv_room (Nat.le_of_ble_eq_true rfl)) dX9_book_47 ⟨Nat.le_of_ble_eq_true rfl, Nat.le_of_ble_eq_true rfl⟩) hD hS hA (fun H locs hP hD hS => ?_)
        refine lv_iload_n hx hb dX9_book_50 rfl (lv_at hl 1 rfl) ?_
        refine lv_i2l hx hb dX9_book_51 rfl ?_
        refine lv_aload_n hx hb dX9_book_52 rfl (lv_at hl 0 rfl) ?_
        refine lv_iconst (v := 0) hx hb dX9_book_53 (by decide) ?_
        obtain ⟨r18, c_worth_19, c_hold_20, c_acts_21, v22, hf⟩ := bd4_some hf
        refine gcl (va_runV (As := [.int 0]) (rest := [.long (Int32.toInt64 p1)]) ⟨hx, hb, hml, hown, hts⟩ (tX9_valueOf l dC dI dA ad H.size v22) (ccX9_X9_valueOf hts ⟨Nat.le_of_ble_eq_true rfl, Nat.le_of_ble_eq_true rfl⟩) (gPreV (ci := 9) (q0 := 0) hP hK hD rfl rfl) rfl rfl hl.1 rfl (lv_room (Nat.le_of_ble_eq_true rfl)) dX9_book_54 ⟨Nat.le_of_ble_eq_true rfl, Nat.le_of_ble_eq_true rfl⟩) hD hS hA (fun H locs hP hD hS => ?_)
        refine lv_lmul hx hb dX9_book_57 ?_
        refine lv_topl (fun w23 ew23 => ?_)
        replace hf := nm_at hf ew23
        refine lv_lstore (lv' := [(4, .long w23), (0, .ref (ad 0)), (1, .int p1), (2, .int p2), (3, .int p3)]) hx hb dX9_book_58 hl (by decide) rfl (fun ls hl => ?_)
        refine lv_lload hx hb dX9_book_60 (lv_at hl 0 rfl) ?_
        refine lv_iload_n hx hb dX9_book_62 rfl (lv_at hl 3 rfl) ?_
        refine lv_i2l hx hb dX9_book_63 rfl ?_
        refine lv_aload_n hx hb dX9_book_64 rfl (lv_at hl 1 rfl) ?_
        refine lv_iconst (v := 1) hx hb dX9_book_65 (by decide) ?_
        obtain ⟨r24, c_worth_25, c_hold_26, c_acts_27, v28, hf⟩ := bd4_some hf
        refine gcl (va_runV (As := [.int 1]) (rest := [.long (Int32.toInt64 p2), .long w23]) ⟨hx, hb, hml, hown, hts⟩ (tX9_valueOf l dC dI dA ad H.size v28) (ccX9_X9_valueOf hts ⟨Nat.le_of_ble_eq_true rfl, Nat.le_of_ble_eq_true rfl⟩) (gPreV (ci := 9) (q0 := 0) hP hK hD rfl rfl) rfl rfl hl.1 rfl (lv_room (Nat.le_of_ble_eq_true rfl)) dX9_book_66 ⟨Nat.le_of_ble_eq_true rfl, Nat.le_of_ble_eq_true rfl⟩) hD hS hA (fun H locs hP hD hS => ?_)
        refine lv_lmul hx hb dX9_book_69 ?_
        refine lv_ladd hx hb dX9_book_70 ?_
        refine lv_topl (fun w29 ew29 => ?_)
        replace hf := nm_at hf ew29
        refine lv_lstore (lv' := [(4, .long w29), (0, .ref (ad 0)), (1, .int p1), (2, .int p2), (3, .int p3)]) hx hb dX9_book_71 hl (by decide) rfl (fun ls hl => ?_)
        refine lv_lload hx hb dX9_book_73 (lv_at hl 0 rfl) ?_
        refine lv_iload_n hx hb dX9_book_75 rfl (lv_at hl 4 rfl) ?_
        refine lv_i2l hx hb dX9_book_76 rfl ?_
        refine lv_aload_n hx hb dX9_book_77 rfl (lv_at hl 1 rfl) ?_
        refine lv_iconst (v := 2) hx hb dX9_book_78 (by decide) ?_
        obtain ⟨r30, c_worth_31, c_hold_32, c_acts_33, v34, hf⟩ := bd4_some hf
        refine gcl (va_runV (As := [.int 2]) (rest := [.long (Int32.toInt64 p3), .long w29]) ⟨hx, hb, hml, hown, hts⟩ (tX9_valueOf l dC dI dA ad H.size v34) (ccX9_X9_valueOf hts ⟨Nat.le_of_ble_eq_true rfl, Nat.le_of_ble_eq_true rfl⟩) (gPreV (ci := 9) (q0 := 0) hP hK hD rfl rfl) rfl rfl hl.1 rfl (lv_room (Nat.le_of_ble_eq_true rfl)) dX9_book_79 ⟨Nat.le_of_ble_eq_true rfl, Nat.le_of_ble_eq_true rfl⟩) hD hS hA (fun H locs hP hD hS => ?_)
        refine lv_lmul hx hb dX9_book_82 ?_
        refine lv_ladd hx hb dX9_book_83 ?_
        cases hf
        exact W.lret hx hb hr (fun t ht _ => gql hP hD hS ht) hS.2.2 dX9_book_84
      · replace hf := ifp k9 hf
        refine lv_ldc2 (v := (-9223372036854775808)) hx hb hown (hts _ (gw_mem wkX9_364)) dX9_book_42 ?_
        cases hf
        exact W.lret hx hb hr (fun t ht _ => gql hP hD hS ht) hS.2.2 dX9_book_45
abbrev rmX9_keeps : Room := { frames := 0, cells := 0, slots := 0, locals := 0 }
set_option maxHeartbeats 4000000 in
set_option maxRecDepth 100000 in
theorem tX9_keeps (l : Launch) (dC : Nat → ClassId) (dI : Nat → Nat → Nat) (dA : Nat → ClassId) (ad : Nat → Nat) (sz : Nat) {p1 : Int32} {c_tape : Nat → Int32} {c_taped : Int32} {c_tree : Nat → Int32} {c_bonds : Nat → Int32} {c_moves : Nat → Int32} {c_handMoves : Nat → Int32} {c_moved : Int32} {c_days : Int32} {c_likely : Int32} {c_outOf : Int32} {c_rateNow : Int32} {c_pence : Nat → Int64} {c_top : Int64} {c_bottom : Int64} {c_spot : Int32} {c_textLong : Int32} {c_fault : Int32} {c_number : Int32} {c_numberAt : Int32} {c_figures : Int32} {c_written : Int32} {c_wanted : Int32} {c_found : Int32} {c_drawnNow : Int32} {c_worth : Nat → Int64} {c_hold : Nat → Int64} {c_way : Nat → Int64} {c_acts : Nat → Int32} {c_sDay : Int32} {c_sUps : Int32} {c_sUp : Int32} {c_sMarks : Int32} {c_paidAll : Int64} {c_isPlayed : Int32} {c_isOn : Int32} {c_handMoved : Int32} {c_handPaid : Int64} {c_regret : Int64} {c_aside : Nat → Int32} {c_other : Nat → Int64} {c_states : Int32} {c_kept : Nat → Int32} {c_keptLong : Nat → Int64} {c_keptAt : Int32} {c_isTaking : Int32} {r : Int32} {o_c_kept : Nat → Int32} {o_c_keptAt : Int32} (hf : fX9_keeps p1 c_kept c_keptAt c_isTaking = some (r, o_c_kept, o_c_keptAt)) : Met l yX9_keeps (wq (Cond.code yX9_keeps cX9_keeps 2 (some .int))) rmX9_keeps (gP [.ref (ad 0), .int p1] (dC, dI) dA (mW dA ad c_tape c_taped c_tree c_bonds c_moves c_handMoves c_moved c_days c_likely c_outOf c_rateNow c_pence c_top c_bottom c_spot c_textLong c_fault c_number c_numberAt c_figures c_written c_wanted c_found c_drawnNow c_worth c_hold c_way c_acts c_sDay c_sUps c_sUp c_sMarks c_paidAll c_isPlayed c_isOn c_handMoved c_handPaid c_regret c_aside c_other c_states c_kept c_keptLong c_keptAt c_isTaking) sz) (gQi (dC, dI) r (mW dA ad c_tape c_taped c_tree c_bonds c_moves c_handMoves c_moved c_days c_likely c_outOf c_rateNow c_pence c_top c_bottom c_spot c_textLong c_fault c_number c_numberAt c_figures c_written c_wanted c_found c_drawnNow c_worth c_hold c_way c_acts c_sDay c_sUps c_sUp c_sMarks c_paidAll c_isPlayed c_isOn c_handMoved c_handPaid c_regret c_aside c_other c_states o_c_kept c_keptLong o_c_keptAt c_isTaking) (va_A (mW dA ad c_tape c_taped c_tree c_bonds c_moves c_handMoves c_moved c_days c_likely c_outOf c_rateNow c_pence c_top c_bottom c_spot c_textLong c_fault c_number c_numberAt c_figures c_written c_wanted c_found c_drawnNow c_worth c_hold c_way c_acts c_sDay c_sUps c_sUp c_sMarks c_paidAll c_isPlayed c_isOn c_handMoved c_handPaid c_regret c_aside c_other c_states c_kept c_keptLong c_keptAt c_isTaking) sz)) 0 0 (va_A (mW dA ad c_tape c_taped c_tree c_bonds c_moves c_handMoves c_moved c_days c_likely c_outOf c_rateNow c_pence c_top c_bottom c_spot c_textLong c_fault c_number c_numberAt c_figures c_written c_wanted c_found c_drawnNow c_worth c_hold c_way c_acts c_sDay c_sUps c_sUp c_sMarks c_paidAll c_isPlayed c_isOn c_handMoved c_handPaid c_regret c_aside c_other c_states c_kept c_keptLong c_keptAt c_isTaking) sz) := by
  refine Met.ofW (cc := cX9_keeps) (maxL := 2) (ret := (some .int)) (by decide) rfl ?_
  intro p e s m args below meth c s₁ B hml hv
  obtain ⟨rfl, hsz, hP, hK, hD0⟩ := hv
  have hx := B.exec
  have hb := B.bytes
  have hr := B.returns
  have hts := atoms_spec (ws := wq (Cond.code yX9_keeps cX9_keeps 2 (some .int))) B.pre
  have hown : s.vm.findClass RX9 = some m.cls := findClass_of_methodNamed B.named
  have hlocks := B.notSynchronized
  clear B
  subst hsz
  have hD := hD0.self (sz := s.heap.size)
  generalize hAe : va_A (mW dA ad c_tape c_taped c_tree c_bonds c_moves c_handMoves c_moved c_days c_likely c_outOf c_rateNow c_pence c_top c_bottom c_spot c_textLong c_fault c_number c_numberAt c_figures c_written c_wanted c_found c_drawnNow c_worth c_hold c_way c_acts c_sDay c_sUps c_sUp c_sMarks c_paidAll c_isPlayed c_isOn c_handMoved c_handPaid c_regret c_aside c_other c_states c_kept c_keptLong c_keptAt c_isTaking) s.heap.size = A at hD ⊢
  have hA : ∀ q : Nat, s.heap.size ≤ q → A q := fun q h => by rw [← hAe]; exact Or.inr h
  clear hAe hD0
  have hS : va_S A s.heap s.heap [] := va_S.rf
  have hl := lv_entry ([.ref (ad 0), .int p1]) (n := 2) (Nat.le_of_ble_eq_true rfl)
  rw [lg_entry_eq]
  generalize (lg_sl ([.ref (ad 0), .int p1]) ++ List.replicate (2 - (lg_sl ([.ref (ad 0), .int p1])).length) Slot.unset).toArray = ls at hl ⊢
  have hl : lv_has ls 2 [(0, .ref (ad 0)), (1, .int p1)] := hl
  change W p l e rmX9_keeps s m ([.ref (ad 0), .int p1] : List Value).toArray below meth c s.heap [] 0 0 _ _
  unfold fX9_keeps at hf
  refine lv_aload_n hx hb dX9_keeps_0 rfl (lv_at hl 0 rfl) ?_
  refine va_get (D := (dC, dI)) (ci := 9) (v := .int c_isTaking) (C := RX9) (T := TX9) (N := 45) hx hb hts (fun w h => gw_mem (inX9 w h)) hown hK.1 hP 0 rfl rfl 44 (by decide) (hts _ (gw_mem wfX9_440)) (fun _ h9 => h9) rfl dX9_keeps_1 ?_
  obtain ⟨c_kept_2, v4, hf⟩ := bd1_some hf
  have J3 : ∀ (H : Heap) (locs : List Loc) (ls : Array Slot), va_P (dC, dI) vwCl (mW dA ad c_tape c_taped c_tree c_bonds c_moves c_handMoves c_moved c_days c_likely c_outOf c_rateNow c_pence c_top c_bottom c_spot c_textLong c_fault c_number c_numberAt c_figures c_written c_wanted c_found c_drawnNow c_worth c_hold c_way c_acts c_sDay c_sUps c_sUp c_sMarks c_paidAll c_isPlayed c_isOn c_handMoved c_handPaid c_regret c_aside c_other c_states c_kept_2 c_keptLong c_keptAt c_isTaking) H → va_D A (mW dA ad c_tape c_taped c_tree c_bonds c_moves c_handMoves c_moved c_days c_likely c_outOf c_rateNow c_pence c_top c_bottom c_spot c_textLong c_fault c_number c_numberAt c_figures c_written c_wanted c_found c_drawnNow c_worth c_hold c_way c_acts c_sDay c_sUps c_sUp c_sMarks c_paidAll c_isPlayed c_isOn c_handMoved c_handPaid c_regret c_aside c_other c_states c_kept_2 c_keptLong c_keptAt c_isTaking) → va_S A s.heap H locs → lv_has ls 2 [(0, .ref (ad 0))] → W p l e rmX9_keeps s m ([.ref (ad 0), .int p1] : List Value).toArray below meth c H locs 0 0 (MQ below (gQi (dC, dI) r (mW dA ad c_tape c_taped c_tree c_bonds c_moves c_handMoves c_moved c_days c_likely c_outOf c_rateNow c_pence c_top c_bottom c_spot c_textLong c_fault c_number c_numberAt c_figures c_written c_wanted c_found c_drawnNow c_worth c_hold c_way c_acts c_sDay c_sUps c_sUp c_sMarks c_paidAll c_isPlayed c_isOn c_handMoved c_handPaid c_regret c_aside c_other c_states o_c_kept c_keptLong o_c_keptAt c_isTaking) A) ([.ref (ad 0), .int p1] : List Value).toArray s 0 0 A) (F0 m 17 ls []) := by
    intro H locs ls hP hD hS hl
    refine lv_aload_n hx hb dX9_keeps_17 rfl (lv_at hl 0 rfl) ?_
    refine lv_aload_n hx hb dX9_keeps_18 rfl (lv_at hl 0 rfl) ?_
    refine va_get (D := (dC, dI)) (ci := 9) (v := .int c_keptAt) (C := RX9) (T := TX9) (N := 45) hx hb hts (fun w h => gw_mem (inX9 w h)) hown hK.1 hP 0 rfl rfl 43 (by decide) (hts _ (gw_mem wfX9_443)) (fun _ h9 => h9) rfl dX9_keeps_19 ?_
    refine lv_iconst (v := 1) hx hb dX9_keeps_22 (by decide) ?_
    refine lv_iadd hx hb dX9_keeps_23 ?_
    refine lv_topi (fun w5 ew5 => ?_)
    replace hf := nm_at hf ew5
    refine va_put (D := (dC, dI)) (ci := 9) (v := .int w5) (ty := .int) (C := RX9) (T := TX9) (N := 45) hx hb hts (fun w h => gw_mem (inX9 w h)) tyX9 tyX9_ok nmX9 hown hK.1 hP hD hS 0 rfl rfl 43 (by decide) (hts _ (gw_mem wfX9_443)) (fun _ h9 => h9) rfl (by decide +kernel) rfl rfl (Nat.le_of_ble_eq_true rfl) dX9_keeps_24 (fun H locs hP hD hS => ?_)
    have hP : va_P (dC, dI) vwCl (mW dA ad c_tape c_taped c_tree c_bonds c_moves c_handMoves c_moved c_days c_likely c_outOf c_rateNow c_pence c_top c_bottom c_spot c_textLong c_fault c_number c_numberAt c_figures c_written c_wanted c_found c_drawnNow c_worth c_hold c_way c_acts c_sDay c_sUps c_sUp c_sMarks c_paidAll c_isPlayed c_isOn c_handMoved c_handPaid c_regret c_aside c_other c_states c_kept_2 c_keptLong w5 c_isTaking) H := hP
    have hD : va_D A (mW dA ad c_tape c_taped c_tree c_bonds c_moves c_handMoves c_moved c_days c_likely c_outOf c_rateNow c_pence c_top c_bottom c_spot c_textLong c_fault c_number c_numberAt c_figures c_written c_wanted c_found c_drawnNow c_worth c_hold c_way c_acts c_sDay c_sUps c_sUp c_sMarks c_paidAll c_isPlayed c_isOn c_handMoved c_handPaid c_regret c_aside c_other c_states c_kept_2 c_keptLong w5 c_isTaking) := hD
    refine lv_aload_n hx hb dX9_keeps_27 rfl (lv_at hl 0 rfl) ?_
    refine va_get (D := (dC, dI)) (ci := 9) (v := .ref (ad 13)) (C := RX9) (T := TX9) (N := 45) hx hb hts (fun w h => gw_mem (inX9 w h)) hown hK.1 hP 0 rfl rfl 41 (by decide) (hts _ (gw_mem wfX9_48)) (fun _ h9 => h9) rfl dX9_keeps_28 ?_
    refine lv_aload_n hx hb dX9_keeps_31 rfl (lv_at hl 0 rfl) ?_
    refine va_get (D := (dC, dI)) (ci := 9) (v := .int w5) (C := RX9) (T := TX9) (N := 45) hx hb hts (fun w h => gw_mem (inX9 w h)) hown hK.1 hP 0 rfl rfl 43 (by decide) (hts _ (gw_mem wfX9_443)) (fun _ h9 => h9) rfl dX9_keeps_32 ?_
    refine lv_iconst (v := 1) hx hb dX9_keeps_35 (by decide) ?_
    refine lv_isub hx hb dX9_keeps_36 ?_
    obtain ⟨h6, hf⟩ := og_some hf
    refine va_iald hx hb hK.1 hP 13 0 rfl rfl (okI_in h6) dX9_keeps_37 ?_
    cases hf
    exact W.iret hx hb hr (fun t ht _ => gqi hP hD hS ht) hS.2.2 dX9_keeps_38
  replace hf := v4
  clear v4
  refine lv_if_eq (tgt := 17) hx hb dX9_keeps_4 (by decide) (fun k1 => ?_) (fun k1 => ?_)
  · replace hf := ifp k1 hf
    cases hf
    exact J3 _ _ _ hP hD hS (lv_sub hl [0] rfl)
  · replace hf := ifn k1 hf
    refine lv_aload_n hx hb dX9_keeps_7 rfl (lv_at hl 0 rfl) ?_
    refine va_get (D := (dC, dI)) (ci := 9) (v := .ref (ad 13)) (C := RX9) (T := TX9) (N := 45) hx hb hts (fun w h => gw_mem (inX9 w h)) hown hK.1 hP 0 rfl rfl 41 (by decide) (hts _ (gw_mem wfX9_48)) (fun _ h9 => h9) rfl dX9_keeps_8 ?_
    refine lv_aload_n hx hb dX9_keeps_11 rfl (lv_at hl 0 rfl) ?_
    refine va_get (D := (dC, dI)) (ci := 9) (v := .int c_keptAt) (C := RX9) (T := TX9) (N := 45) hx hb hts (fun w h => gw_mem (inX9 w h)) hown hK.1 hP 0 rfl rfl 43 (by decide) (hts _ (gw_mem wfX9_443)) (fun _ h9 => h9) rfl dX9_keeps_12 ?_
    refine lv_iload_n hx hb dX9_keeps_15 rfl (lv_at hl 1 rfl) ?_
    obtain ⟨h7, hf⟩ := og_some hf
    obtain ⟨w8, ew8⟩ : ∃ y : Nat → Int32, y = upd c_kept (Int32.toNatClampNeg c_keptAt) p1 := ⟨_, rfl⟩
    replace hf := nm_at hf ew8
    refine va_iast hx hb hK.1 hP hD hS 13 0 rfl rfl (okI_in h7) dX9_keeps_16 (fun H locs hP hD hS => ?_)
    have hP : va_P (dC, dI) vwCl (mW dA ad c_tape c_taped c_tree c_bonds c_moves c_handMoves c_moved c_days c_likely c_outOf c_rateNow c_pence c_top c_bottom c_spot c_textLong c_fault c_number c_numberAt c_figures c_written c_wanted c_found c_drawnNow c_worth c_hold c_way c_acts c_sDay c_sUps c_sUp c_sMarks c_paidAll c_isPlayed c_isOn c_handMoved c_handPaid c_regret c_aside c_other c_states w8 c_keptLong c_keptAt c_isTaking) H := by rw [ew8]; exact hP
    have hD : va_D A (mW dA ad c_tape c_taped c_tree c_bonds c_moves c_handMoves c_moved c_days c_likely c_outOf c_rateNow c_pence c_top c_bottom c_spot c_textLong c_fault c_number c_numberAt c_figures c_written c_wanted c_found c_drawnNow c_worth c_hold c_way c_acts c_sDay c_sUps c_sUp c_sMarks c_paidAll c_isPlayed c_isOn c_handMoved c_handPaid c_regret c_aside c_other c_states w8 c_keptLong c_keptAt c_isTaking) := by rw [ew8]; exact hD
    cases hf
    exact J3 _ _ _ hP hD hS (lv_sub hl [0] rfl)
theorem ccX9_X9_keeps {R : Room} {s : State} {args : Array Value} {c0 : Cond} (ht : ∀ w ∈ wq c0, w.before args s = true) (hR : rmX9_keeps.frames + 1 ≤ R.frames ∧ 8 + (2 + 11) + rmX9_keeps.locals ≤ R.locals) : CallW R s args RX9 RX9 449 yX9_keeps cX9_keeps 2 (some .int) (wq (.code yX9_keeps cX9_keeps 2 (some .int))) rmX9_keeps 0 0 1 := gCW 1 ht wcX9_keeps wmX9_449 wiX9_keeps weX9_keeps wnX9 (by decide +kernel) rfl rfl hR
abbrev rmX9_keepsAll : Room := { frames := 1, cells := 0, slots := 0, locals := 21 }
set_option maxHeartbeats 4000000 in
set_option maxRecDepth 100000 in
theorem tX9_keepsAll (l : Launch) (dC : Nat → ClassId) (dI : Nat → Nat → Nat) (dA : Nat → ClassId) (ad : Nat → Nat) (sz : Nat) {p1 : Int32} {c_tape : Nat → Int32} {c_taped : Int32} {c_tree : Nat → Int32} {c_bonds : Nat → Int32} {c_moves : Nat → Int32} {c_handMoves : Nat → Int32} {c_moved : Int32} {c_days : Int32} {c_likely : Int32} {c_outOf : Int32} {c_rateNow : Int32} {c_pence : Nat → Int64} {c_top : Int64} {c_bottom : Int64} {c_spot : Int32} {c_textLong : Int32} {c_fault : Int32} {c_number : Int32} {c_numberAt : Int32} {c_figures : Int32} {c_written : Int32} {c_wanted : Int32} {c_found : Int32} {c_drawnNow : Int32} {c_worth : Nat → Int64} {c_hold : Nat → Int64} {c_way : Nat → Int64} {c_acts : Nat → Int32} {c_sDay : Int32} {c_sUps : Int32} {c_sUp : Int32} {c_sMarks : Int32} {c_paidAll : Int64} {c_isPlayed : Int32} {c_isOn : Int32} {c_handMoved : Int32} {c_handPaid : Int64} {c_regret : Int64} {c_aside : Nat → Int32} {c_other : Nat → Int64} {c_states : Int32} {c_kept : Nat → Int32} {c_keptLong : Nat → Int64} {c_keptAt : Int32} {c_isTaking : Int32} {o_c_tree : Nat → Int32} {o_c_bonds : Nat → Int32} {o_c_moves : Nat → Int32} {o_c_handMoves : Nat → Int32} {o_c_moved : Int32} {o_c_isPlayed : Int32} {o_c_isOn : Int32} {o_c_handMoved : Int32} {o_c_handPaid : Int64} {o_c_regret : Int64} {o_c_kept : Nat → Int32} {o_c_keptLong : Nat → Int64} {o_c_keptAt : Int32} {o_c_isTaking : Int32} (hf : fX9_keepsAll p1 c_tree c_bonds c_moves c_handMoves c_moved c_isPlayed c_isOn c_handMoved c_handPaid c_regret c_states c_kept c_keptLong c_keptAt c_isTaking = some (o_c_tree, o_c_bonds, o_c_moves, o_c_handMoves, o_c_moved, o_c_isPlayed, o_c_isOn, o_c_handMoved, o_c_handPaid, o_c_regret, o_c_kept, o_c_keptLong, o_c_keptAt, o_c_isTaking)) : Met l yX9_keepsAll (wq (Cond.code yX9_keepsAll cX9_keepsAll 3 none)) rmX9_keepsAll (gP [.ref (ad 0), .int p1] (dC, dI) dA (mW dA ad c_tape c_taped c_tree c_bonds c_moves c_handMoves c_moved c_days c_likely c_outOf c_rateNow c_pence c_top c_bottom c_spot c_textLong c_fault c_number c_numberAt c_figures c_written c_wanted c_found c_drawnNow c_worth c_hold c_way c_acts c_sDay c_sUps c_sUp c_sMarks c_paidAll c_isPlayed c_isOn c_handMoved c_handPaid c_regret c_aside c_other c_states c_kept c_keptLong c_keptAt c_isTaking) sz) (gQv (dC, dI) (mW dA ad c_tape c_taped o_c_tree o_c_bonds o_c_moves o_c_handMoves o_c_moved c_days c_likely c_outOf c_rateNow c_pence c_top c_bottom c_spot c_textLong c_fault c_number c_numberAt c_figures c_written c_wanted c_found c_drawnNow c_worth c_hold c_way c_acts c_sDay c_sUps c_sUp c_sMarks c_paidAll o_c_isPlayed o_c_isOn o_c_handMoved o_c_handPaid o_c_regret c_aside c_other c_states o_c_kept o_c_keptLong o_c_keptAt o_c_isTaking) (va_A (mW dA ad c_tape c_taped c_tree c_bonds c_moves c_handMoves c_moved c_days c_likely c_outOf c_rateNow c_pence c_top c_bottom c_spot c_textLong c_fault c_number c_numberAt c_figures c_written c_wanted c_found c_drawnNow c_worth c_hold c_way c_acts c_sDay c_sUps c_sUp c_sMarks c_paidAll c_isPlayed c_isOn c_handMoved c_handPaid c_regret c_aside c_other c_states c_kept c_keptLong c_keptAt c_isTaking) sz)) 0 0 (va_A (mW dA ad c_tape c_taped c_tree c_bonds c_moves c_handMoves c_moved c_days c_likely c_outOf c_rateNow c_pence c_top c_bottom c_spot c_textLong c_fault c_number c_numberAt c_figures c_written c_wanted c_found c_drawnNow c_worth c_hold c_way c_acts c_sDay c_sUps c_sUp c_sMarks c_paidAll c_isPlayed c_isOn c_handMoved c_handPaid c_regret c_aside c_other c_states c_kept c_keptLong c_keptAt c_isTaking) sz) := by
  refine Met.ofW (cc := cX9_keepsAll) (maxL := 3) (ret := none) (by decide) rfl ?_
  intro p e s m args below meth c s₁ B hml hv
  obtain ⟨rfl, hsz, hP, hK, hD0⟩ := hv
  have hx := B.exec
  have hb := B.bytes
  have hr := B.returns
  have hts := atoms_spec (ws := wq (Cond.code yX9_keepsAll cX9_keepsAll 3 none)) B.pre
  have hown : s.vm.findClass RX9 = some m.cls := findClass_of_methodNamed B.named
  have hlocks := B.notSynchronized
  clear B
  subst hsz
  have hD := hD0.self (sz := s.heap.size)
  generalize hAe : va_A (mW dA ad c_tape c_taped c_tree c_bonds c_moves c_handMoves c_moved c_days c_likely c_outOf c_rateNow c_pence c_top c_bottom c_spot c_textLong c_fault c_number c_numberAt c_figures c_written c_wanted c_found c_drawnNow c_worth c_hold c_way c_acts c_sDay c_sUps c_sUp c_sMarks c_paidAll c_isPlayed c_isOn c_handMoved c_handPaid c_regret c_aside c_other c_states c_kept c_keptLong c_keptAt c_isTaking) s.heap.size = A at hD ⊢
  have hA : ∀ q : Nat, s.heap.size ≤ q → A q := fun q h => by rw [← hAe]; exact Or.inr h
  clear hAe hD0
  have hS : va_S A s.heap s.heap [] := va_S.rf
  have hl := lv_entry ([.ref (ad 0), .int p1]) (n := 3) (Nat.le_of_ble_eq_true rfl)
  rw [lg_entry_eq]
  generalize (lg_sl ([.ref (ad 0), .int p1]) ++ List.replicate (3 - (lg_sl ([.ref (ad 0), .int p1])).length) Slot.unset).toArray = ls at hl ⊢
  have hl : lv_has ls 3 [(0, .ref (ad 0)), (1, .int p1)] := hl
  change W p l e rmX9_keepsAll s m ([.ref (ad 0), .int p1] : List Value).toArray below meth c s.heap [] 0 0 _ _
  generalize hQ : MQ below (gQv (dC, dI) (mW dA ad c_tape c_taped o_c_tree o_c_bonds o_c_moves o_c_handMoves o_c_moved c_days c_likely c_outOf c_rateNow c_pence c_top c_bottom c_spot c_textLong c_fault c_number c_numberAt c_figures c_written c_wanted c_found c_drawnNow c_worth c_hold c_way c_acts c_sDay c_sUps c_sUp c_sMarks c_paidAll o_c_isPlayed o_c_isOn o_c_handMoved o_c_handPaid o_c_regret c_aside c_other c_states o_c_kept o_c_keptLong o_c_keptAt o_c_isTaking) A) ([.ref (ad 0), .int p1] : List Value).toArray s 0 0 A = Q
  have LP19 : ∀ (n : Nat) (x1 : Int32) (c_isTaking : Int32) (c_tape : Nat → Int32) (c_taped : Int32) (c_bonds : Nat → Int32) (c_moves : Nat → Int32) (c_handMoves : Nat → Int32) (c_moved : Int32) (c_days : Int32) (c_likely : Int32) (c_outOf : Int32) (c_rateNow : Int32) (c_pence : Nat → Int64) (c_top : Int64) (c_bottom : Int64) (c_spot : Int32) (c_textLong : Int32) (c_fault : Int32) (c_number : Int32) (c_numberAt : Int32) (c_figures : Int32) (c_written : Int32) (c_wanted : Int32) (c_found : Int32) (c_drawnNow : Int32) (c_worth : Nat → Int64) (c_hold : Nat → Int64) (c_way : Nat → Int64) (c_acts : Nat → Int32) (c_sDay : Int32) (c_sUps : Int32) (c_sUp : Int32) (c_sMarks : Int32) (c_paidAll : Int64) (c_isPlayed : Int32) (c_isOn : Int32) (c_handMoved : Int32) (c_handPaid : Int64) (c_regret : Int64) (c_aside : Nat → Int32) (c_other : Nat → Int64) (c_states : Int32) (c_keptLong : Nat → Int64) (x2 : Int32) (c_tree : Nat → Int32) (c_kept : Nat → Int32) (c_keptAt : Int32) (o_c_tree : Nat → Int32) (o_c_kept : Nat → Int32) (o_c_keptAt : Int32) (H : Heap) (locs : List Loc) (ls : Array Slot), va_P (dC, dI) vwCl (mW dA ad c_tape c_taped c_tree c_bonds c_moves c_handMoves c_moved c_days c_likely c_outOf c_rateNow c_pence c_top c_bottom c_spot c_textLong c_fault c_number c_numberAt c_figures c_written c_wanted c_found c_drawnNow c_worth c_hold c_way c_acts c_sDay c_sUps c_sUp c_sMarks c_paidAll c_isPlayed c_isOn c_handMoved c_handPaid c_regret c_aside c_other c_states c_kept c_keptLong c_keptAt c_isTaking) H → va_D A (mW dA ad c_tape c_taped c_tree c_bonds c_moves c_handMoves c_moved c_days c_likely c_outOf c_rateNow c_pence c_top c_bottom c_spot c_textLong c_fault c_number c_numberAt c_figures c_written c_wanted c_found c_drawnNow c_worth c_hold c_way c_acts c_sDay c_sUps c_sUp c_sMarks c_paidAll c_isPlayed c_isOn c_handMoved c_handPaid c_regret c_aside c_other c_states c_kept c_keptLong c_keptAt c_isTaking) → va_S A s.heap H locs → lpX9_keepsAll_19 x1 c_isTaking n x2 c_tree c_kept c_keptAt = some (o_c_tree, o_c_kept, o_c_keptAt) → lv_has ls 3 [(0, .ref (ad 0)), (1, .int x1), (2, .int x2)] → (∀ (H : Heap) (locs : List Loc) (ls : Array Slot), va_P (dC, dI) vwCl (mW dA ad c_tape c_taped o_c_tree c_bonds c_moves c_handMoves c_moved c_days c_likely c_outOf c_rateNow c_pence c_top c_bottom c_spot c_textLong c_fault c_number c_numberAt c_figures c_written c_wanted c_found c_drawnNow c_worth c_hold c_way c_acts c_sDay c_sUps c_sUp c_sMarks c_paidAll c_isPlayed c_isOn c_handMoved c_handPaid c_regret c_aside c_other c_states o_c_kept c_keptLong o_c_keptAt c_isTaking) H → va_D A (mW dA ad c_tape c_taped o_c_tree c_bonds c_moves c_handMoves c_moved c_days c_likely c_outOf c_rateNow c_pence c_top c_bottom c_spot c_textLong c_fault c_number c_numberAt c_figures c_written c_wanted c_found c_drawnNow c_worth c_hold c_way c_acts c_sDay c_sUps c_sUp c_sMarks c_paidAll c_isPlayed c_isOn c_handMoved c_handPaid c_regret c_aside c_other c_states o_c_kept c_keptLong o_c_keptAt c_isTaking) → va_S A s.heap H locs → lv_has ls 3 [(0, .ref (ad 0)), (1, .int x1)] → W p l e rmX9_keepsAll s m ([.ref (ad 0), .int p1] : List Value).toArray below meth c H locs 0 0 Q (F0 m 47 ls [])) → W p l e rmX9_keepsAll s m ([.ref (ad 0), .int p1] : List Value).toArray below meth c H locs 0 0 Q (F0 m 19 ls []) := by
    intro n
    induction n with
    | zero =>
      intro x1 c_isTaking c_tape c_taped c_bonds c_moves c_handMoves c_moved c_days c_likely c_outOf c_rateNow c_pence c_top c_bottom c_spot c_textLong c_fault c_number c_numberAt c_figures c_written c_wanted c_found c_drawnNow c_worth c_hold c_way c_acts c_sDay c_sUps c_sUp c_sMarks c_paidAll c_isPlayed c_isOn c_handMoved c_handPaid c_regret c_aside c_other c_states c_keptLong x2 c_tree c_kept c_keptAt o_c_tree o_c_kept o_c_keptAt H locs ls hP hD hS hf hl hk
      cases hf
    | succ n ih19 =>
      intro x1 c_isTaking c_tape c_taped c_bonds c_moves c_handMoves c_moved c_days c_likely c_outOf c_rateNow c_pence c_top c_bottom c_spot c_textLong c_fault c_number c_numberAt c_figures c_written c_wanted c_found c_drawnNow c_worth c_hold c_way c_acts c_sDay c_sUps c_sUp c_sMarks c_paidAll c_isPlayed c_isOn c_handMoved c_handPaid c_regret c_aside c_other c_states c_keptLong x2 c_tree c_kept c_keptAt o_c_tree o_c_kept o_c_keptAt H locs ls hP hD hS hf hl hk
      rw [lpX9_keepsAll_19.eq_2] at hf
      refine lv_iload_n hx hb dX9_keepsAll_19 rfl (lv_at hl 2 rfl) ?_
      refine lv_bipush (v := 18) hx hb dX9_keepsAll_20 (by decide) ?_
      refine lv_icmp_ge (tgt := 47) hx hb dX9_keepsAll_22 (by decide) (fun k87 => ?_) (fun k87 => ?_)
      · replace hf := ifp k87 hf
        cases hf
        exact hk _ _ _ hP hD hS (lv_sub hl [0, 1] rfl)
      · replace hf := ifn k87 hf
        refine lv_aload_n hx hb dX9_keepsAll_25 rfl (lv_at hl 0 rfl) ?_
        refine va_get (D := (dC, dI)) (ci := 9) (v := .ref (ad 2)) (C := RX9) (T := TX9) (N := 45) hx hb hts (fun w h => gw_mem (inX9 w h)) hown hK.1 hP 0 rfl rfl 2 (by decide) (hts _ (gw_mem wfX9_13)) (fun _ h9 => h9) rfl dX9_keepsAll_26 ?_
        refine lv_iload_n hx hb dX9_keepsAll_29 rfl (lv_at hl 2 rfl) ?_
        refine lv_aload_n hx hb dX9_keepsAll_30 rfl (lv_at hl 0 rfl) ?_
        refine lv_aload_n hx hb dX9_keepsAll_31 rfl (lv_at hl 0 rfl) ?_
        refine va_get (D := (dC, dI)) (ci := 9) (v := .ref (ad 2)) (C := RX9) (T := TX9) (N := 45) hx hb hts (fun w h => gw_mem (inX9 w h)) hown hK.1 hP 0 rfl rfl 2 (by decide) (hts _ (gw_mem wfX9_13)) (fun _ h9 => h9) rfl dX9_keepsAll_32 ?_
        refine lv_iload_n hx hb dX9_keepsAll_35 rfl (lv_at hl 2 rfl) ?_
        obtain ⟨h88, hf⟩ := og_some hf
        refine va_iald hx hb hK.1 hP 2 0 rfl rfl (okI_in h88) dX9_keepsAll_36 ?_
        obtain ⟨r89, c_kept_90, c_keptAt_91, v92, hf⟩ := bd3_some hf
        refine gci (va_runV (As := [.int (c_tree (Int32.toNatClampNeg x2))]) (rest := [.int x2, .ref (ad 2)]) ⟨hx, hb, hml, hown, hts⟩ (tX9_keeps l dC dI dA ad H.size v92) (ccX9_X9_keeps hts ⟨Nat.le_of_ble_eq_true rfl, Nat.le_of_ble_eq_true rfl⟩) (gPreV (ci := 9) (q0 := 0) hP hK hD rfl rfl) rfl rfl hl.1 rfl (lv_room (Nat.le_of_ble_eq_true rfl)) dX9_keepsAll_37 ⟨Nat.le_of_ble_eq_true rfl, Nat.le_of_ble_eq_true rfl⟩) hD hS hA (fun H locs hP hD hS => ?_)
        obtain ⟨h93, hf⟩ := og_some hf
        obtain ⟨w94, ew94⟩ : ∃ y : Nat → Int32, y = upd c_tree (Int32.toNatClampNeg x2) r89 := ⟨_, rfl⟩
        replace hf := nm_at hf ew94
        refine va_iast hx hb hK.1 hP hD hS 2 0 rfl rfl (okI_in h93) dX9_keepsAll_40 (fun H locs hP hD hS => ?_)
        have hP : va_P (dC, dI) vwCl (mW dA ad c_tape c_taped w94 c_bonds c_moves c_handMoves c_moved c_days c_likely c_outOf c_rateNow c_pence c_top c_bottom c_spot c_textLong c_fault c_number c_numberAt c_figures c_written c_wanted c_found c_drawnNow c_worth c_hold c_way c_acts c_sDay c_sUps c_sUp c_sMarks c_paidAll c_isPlayed c_isOn c_handMoved c_handPaid c_regret c_aside c_other c_states c_kept_90 c_keptLong c_keptAt_91 c_isTaking) H := by rw [ew94]; exact hP
        have hD : va_D A (mW dA ad c_tape c_taped w94 c_bonds c_moves c_handMoves c_moved c_days c_likely c_outOf c_rateNow c_pence c_top c_bottom c_spot c_textLong c_fault c_number c_numberAt c_figures c_written c_wanted c_found c_drawnNow c_worth c_hold c_way c_acts c_sDay c_sUps c_sUp c_sMarks c_paidAll c_isPlayed c_isOn c_handMoved c_handPaid c_regret c_aside c_other c_states c_kept_90 c_keptLong c_keptAt_91 c_isTaking) := by rw [ew94]; exact hD
        obtain ⟨w95, ew95⟩ : ∃ y : Int32, y = x2 + 1 := ⟨_, rfl⟩
        replace hf := nm_at hf ew95
        refine lv_iinc (v := w95) (lv' := [(2, .int w95), (0, .ref (ad 0)), (1, .int x1)]) hx hb dX9_keepsAll_41 hl (k := 2) rfl (by rw [ew95]; rfl) (by decide) rfl (fun ls hl => ?_)
        refine lv_goto (tgt := 19) hx hb dX9_keepsAll_44 (by decide) ?_
        exact ih19 _ _ _ _ _ _ _ _ _ _ _ _ _ _ _ _ _ _ _ _ _ _ _ _ _ _ _ _ _ _ _ _ _ _ _ _ _ _ _ _ _ _ _ _ _ _ _ _ _ _ _ _ _ hP hD hS hf (lv_sub hl [1, 2, 0] rfl) hk
  have LP49 : ∀ (n : Nat) (x1 : Int32) (c_isTaking : Int32) (c_tape : Nat → Int32) (c_taped : Int32) (c_tree : Nat → Int32) (c_moves : Nat → Int32) (c_handMoves : Nat → Int32) (c_moved : Int32) (c_days : Int32) (c_likely : Int32) (c_outOf : Int32) (c_rateNow : Int32) (c_pence : Nat → Int64) (c_top : Int64) (c_bottom : Int64) (c_spot : Int32) (c_textLong : Int32) (c_fault : Int32) (c_number : Int32) (c_numberAt : Int32) (c_figures : Int32) (c_written : Int32) (c_wanted : Int32) (c_found : Int32) (c_drawnNow : Int32) (c_worth : Nat → Int64) (c_hold : Nat → Int64) (c_way : Nat → Int64) (c_acts : Nat → Int32) (c_sDay : Int32) (c_sUps : Int32) (c_sUp : Int32) (c_sMarks : Int32) (c_paidAll : Int64) (c_isPlayed : Int32) (c_isOn : Int32) (c_handMoved : Int32) (c_handPaid : Int64) (c_regret : Int64) (c_aside : Nat → Int32) (c_other : Nat → Int64) (c_states : Int32) (c_keptLong : Nat → Int64) (x2 : Int32) (c_bonds : Nat → Int32) (c_kept : Nat → Int32) (c_keptAt : Int32) (o_c_bonds : Nat → Int32) (o_c_kept : Nat → Int32) (o_c_keptAt : Int32) (H : Heap) (locs : List Loc) (ls : Array Slot), va_P (dC, dI) vwCl (mW dA ad c_tape c_taped c_tree c_bonds c_moves c_handMoves c_moved c_days c_likely c_outOf c_rateNow c_pence c_top c_bottom c_spot c_textLong c_fault c_number c_numberAt c_figures c_written c_wanted c_found c_drawnNow c_worth c_hold c_way c_acts c_sDay c_sUps c_sUp c_sMarks c_paidAll c_isPlayed c_isOn c_handMoved c_handPaid c_regret c_aside c_other c_states c_kept c_keptLong c_keptAt c_isTaking) H → va_D A (mW dA ad c_tape c_taped c_tree c_bonds c_moves c_handMoves c_moved c_days c_likely c_outOf c_rateNow c_pence c_top c_bottom c_spot c_textLong c_fault c_number c_numberAt c_figures c_written c_wanted c_found c_drawnNow c_worth c_hold c_way c_acts c_sDay c_sUps c_sUp c_sMarks c_paidAll c_isPlayed c_isOn c_handMoved c_handPaid c_regret c_aside c_other c_states c_kept c_keptLong c_keptAt c_isTaking) → va_S A s.heap H locs → lpX9_keepsAll_49 x1 c_isTaking n x2 c_bonds c_kept c_keptAt = some (o_c_bonds, o_c_kept, o_c_keptAt) → lv_has ls 3 [(0, .ref (ad 0)), (1, .int x1), (2, .int x2)] → (∀ (H : Heap) (locs : List Loc) (ls : Array Slot), va_P (dC, dI) vwCl (mW dA ad c_tape c_taped c_tree o_c_bonds c_moves c_handMoves c_moved c_days c_likely c_outOf c_rateNow c_pence c_top c_bottom c_spot c_textLong c_fault c_number c_numberAt c_figures c_written c_wanted c_found c_drawnNow c_worth c_hold c_way c_acts c_sDay c_sUps c_sUp c_sMarks c_paidAll c_isPlayed c_isOn c_handMoved c_handPaid c_regret c_aside c_other c_states o_c_kept c_keptLong o_c_keptAt c_isTaking) H → va_D A (mW dA ad c_tape c_taped c_tree o_c_bonds c_moves c_handMoves c_moved c_days c_likely c_outOf c_rateNow c_pence c_top c_bottom c_spot c_textLong c_fault c_number c_numberAt c_figures c_written c_wanted c_found c_drawnNow c_worth c_hold c_way c_acts c_sDay c_sUps c_sUp c_sMarks c_paidAll c_isPlayed c_isOn c_handMoved c_handPaid c_regret c_aside c_other c_states o_c_kept c_keptLong o_c_keptAt c_isTaking) → va_S A s.heap H locs → lv_has ls 3 [(0, .ref (ad 0)), (1, .int x1)] → W p l e rmX9_keepsAll s m ([.ref (ad 0), .int p1] : List Value).toArray below meth c H locs 0 0 Q (F0 m 78 ls [])) → W p l e rmX9_keepsAll s m ([.ref (ad 0), .int p1] : List Value).toArray below meth c H locs 0 0 Q (F0 m 49 ls []) := by
    intro n
    induction n with
    | zero =>
      intro x1 c_isTaking c_tape c_taped c_tree c_moves c_handMoves c_moved c_days c_likely c_outOf c_rateNow c_pence c_top c_bottom c_spot c_textLong c_fault c_number c_numberAt c_figures c_written c_wanted c_found c_drawnNow c_worth c_hold c_way c_acts c_sDay c_sUps c_sUp c_sMarks c_paidAll c_isPlayed c_isOn c_handMoved c_handPaid c_regret c_aside c_other c_states c_keptLong x2 c_bonds c_kept c_keptAt o_c_bonds o_c_kept o_c_keptAt H locs ls hP hD hS hf hl hk
      cases hf
    | succ n ih49 =>
      intro x1 c_isTaking c_tape c_taped c_tree c_moves c_handMoves c_moved c_days c_likely c_outOf c_rateNow c_pence c_top c_bottom c_spot c_textLong c_fault c_number c_numberAt c_figures c_written c_wanted c_found c_drawnNow c_worth c_hold c_way c_acts c_sDay c_sUps c_sUp c_sMarks c_paidAll c_isPlayed c_isOn c_handMoved c_handPaid c_regret c_aside c_other c_states c_keptLong x2 c_bonds c_kept c_keptAt o_c_bonds o_c_kept o_c_keptAt H locs ls hP hD hS hf hl hk
      rw [lpX9_keepsAll_49.eq_2] at hf
      refine lv_iload_n hx hb dX9_keepsAll_49 rfl (lv_at hl 2 rfl) ?_
      refine lv_sipush (v := 135) hx hb dX9_keepsAll_50 (by decide) ?_
      refine lv_icmp_ge (tgt := 78) hx hb dX9_keepsAll_53 (by decide) (fun k78 => ?_) (fun k78 => ?_)
      · replace hf := ifp k78 hf
        cases hf
        exact hk _ _ _ hP hD hS (lv_sub hl [0, 1] rfl)
      · replace hf := ifn k78 hf
        refine lv_aload_n hx hb dX9_keepsAll_56 rfl (lv_at hl 0 rfl) ?_
        refine va_get (D := (dC, dI)) (ci := 9) (v := .ref (ad 3)) (C := RX9) (T := TX9) (N := 45) hx hb hts (fun w h => gw_mem (inX9 w h)) hown hK.1 hP 0 rfl rfl 3 (by decide) (hts _ (gw_mem wfX9_17)) (fun _ h9 => h9) rfl dX9_keepsAll_57 ?_
        refine lv_iload_n hx hb dX9_keepsAll_60 rfl (lv_at hl 2 rfl) ?_
        refine lv_aload_n hx hb dX9_keepsAll_61 rfl (lv_at hl 0 rfl) ?_
        refine lv_aload_n hx hb dX9_keepsAll_62 rfl (lv_at hl 0 rfl) ?_
        refine va_get (D := (dC, dI)) (ci := 9) (v := .ref (ad 3)) (C := RX9) (T := TX9) (N := 45) hx hb hts (fun w h => gw_mem (inX9 w h)) hown hK.1 hP 0 rfl rfl 3 (by decide) (hts _ (gw_mem wfX9_17)) (fun _ h9 => h9) rfl dX9_keepsAll_63 ?_
        refine lv_iload_n hx hb dX9_keepsAll_66 rfl (lv_at hl 2 rfl) ?_
        obtain ⟨h79, hf⟩ := og_some hf
        refine va_iald hx hb hK.1 hP 3 0 rfl rfl (okI_in h79) dX9_keepsAll_67 ?_
        obtain ⟨r80, c_kept_81, c_keptAt_82, v83, hf⟩ := bd3_some hf
        refine gci (va_runV (As := [.int (c_bonds (Int32.toNatClampNeg x2))]) (rest := [.int x2, .ref (ad 3)]) ⟨hx, hb, hml, hown, hts⟩ (tX9_keeps l dC dI dA ad H.size v83) (ccX9_X9_keeps hts ⟨Nat.le_of_ble_eq_true rfl, Nat.le_of_ble_eq_true rfl⟩) (gPreV (ci := 9) (q0 := 0) hP hK hD rfl rfl) rfl rfl hl.1 rfl (lv_room (Nat.le_of_ble_eq_true rfl)) dX9_keepsAll_68 ⟨Nat.le_of_ble_eq_true rfl, Nat.le_of_ble_eq_true rfl⟩) hD hS hA (fun H locs hP hD hS => ?_)
        obtain ⟨h84, hf⟩ := og_some hf
        obtain ⟨w85, ew85⟩ : ∃ y : Nat → Int32, y = upd c_bonds (Int32.toNatClampNeg x2) r80 := ⟨_, rfl⟩
        replace hf := nm_at hf ew85
        refine va_iast hx hb hK.1 hP hD hS 3 0 rfl rfl (okI_in h84) dX9_keepsAll_71 (fun H locs hP hD hS => ?_)
        have hP : va_P (dC, dI) vwCl (mW dA ad c_tape c_taped c_tree w85 c_moves c_handMoves c_moved c_days c_likely c_outOf c_rateNow c_pence c_top c_bottom c_spot c_textLong c_fault c_number c_numberAt c_figures c_written c_wanted c_found c_drawnNow c_worth c_hold c_way c_acts c_sDay c_sUps c_sUp c_sMarks c_paidAll c_isPlayed c_isOn c_handMoved c_handPaid c_regret c_aside c_other c_states c_kept_81 c_keptLong c_keptAt_82 c_isTaking) H := by rw [ew85]; exact hP
        have hD : va_D A (mW dA ad c_tape c_taped c_tree w85 c_moves c_handMoves c_moved c_days c_likely c_outOf c_rateNow c_pence c_top c_bottom c_spot c_textLong c_fault c_number c_numberAt c_figures c_written c_wanted c_found c_drawnNow c_worth c_hold c_way c_acts c_sDay c_sUps c_sUp c_sMarks c_paidAll c_isPlayed c_isOn c_handMoved c_handPaid c_regret c_aside c_other c_states c_kept_81 c_keptLong c_keptAt_82 c_isTaking) := by rw [ew85]; exact hD
        obtain ⟨w86, ew86⟩ : ∃ y : Int32, y = x2 + 1 := ⟨_, rfl⟩
        replace hf := nm_at hf ew86
        refine lv_iinc (v := w86) (lv' := [(2, .int w86), (0, .ref (ad 0)), (1, .int x1)]) hx hb dX9_keepsAll_72 hl (k := 2) rfl (by rw [ew86]; rfl) (by decide) rfl (fun ls hl => ?_)
        refine lv_goto (tgt := 49) hx hb dX9_keepsAll_75 (by decide) ?_
        exact ih49 _ _ _ _ _ _ _ _ _ _ _ _ _ _ _ _ _ _ _ _ _ _ _ _ _ _ _ _ _ _ _ _ _ _ _ _ _ _ _ _ _ _ _ _ _ _ _ _ _ _ _ _ _ hP hD hS hf (lv_sub hl [1, 2, 0] rfl) hk
  have LP80 : ∀ (n : Nat) (x1 : Int32) (c_isTaking : Int32) (c_tape : Nat → Int32) (c_taped : Int32) (c_tree : Nat → Int32) (c_bonds : Nat → Int32) (c_moved : Int32) (c_days : Int32) (c_likely : Int32) (c_outOf : Int32) (c_rateNow : Int32) (c_pence : Nat → Int64) (c_top : Int64) (c_bottom : Int64) (c_spot : Int32) (c_textLong : Int32) (c_fault : Int32) (c_number : Int32) (c_numberAt : Int32) (c_figures : Int32) (c_written : Int32) (c_wanted : Int32) (c_found : Int32) (c_drawnNow : Int32) (c_worth : Nat → Int64) (c_hold : Nat → Int64) (c_way : Nat → Int64) (c_acts : Nat → Int32) (c_sDay : Int32) (c_sUps : Int32) (c_sUp : Int32) (c_sMarks : Int32) (c_paidAll : Int64) (c_isPlayed : Int32) (c_isOn : Int32) (c_handMoved : Int32) (c_handPaid : Int64) (c_regret : Int64) (c_aside : Nat → Int32) (c_other : Nat → Int64) (c_states : Int32) (c_keptLong : Nat → Int64) (x2 : Int32) (c_moves : Nat → Int32) (c_handMoves : Nat → Int32) (c_kept : Nat → Int32) (c_keptAt : Int32) (o_c_moves : Nat → Int32) (o_c_handMoves : Nat → Int32) (o_c_kept : Nat → Int32) (o_c_keptAt : Int32) (H : Heap) (locs : List Loc) (ls : Array Slot), va_P (dC, dI) vwCl (mW dA ad c_tape c_taped c_tree c_bonds c_moves c_handMoves c_moved c_days c_likely c_outOf c_rateNow c_pence c_top c_bottom c_spot c_textLong c_fault c_number c_numberAt c_figures c_written c_wanted c_found c_drawnNow c_worth c_hold c_way c_acts c_sDay c_sUps c_sUp c_sMarks c_paidAll c_isPlayed c_isOn c_handMoved c_handPaid c_regret c_aside c_other c_states c_kept c_keptLong c_keptAt c_isTaking) H → va_D A (mW dA ad c_tape c_taped c_tree c_bonds c_moves c_handMoves c_moved c_days c_likely c_outOf c_rateNow c_pence c_top c_bottom c_spot c_textLong c_fault c_number c_numberAt c_figures c_written c_wanted c_found c_drawnNow c_worth c_hold c_way c_acts c_sDay c_sUps c_sUp c_sMarks c_paidAll c_isPlayed c_isOn c_handMoved c_handPaid c_regret c_aside c_other c_states c_kept c_keptLong c_keptAt c_isTaking) → va_S A s.heap H locs → lpX9_keepsAll_80 x1 c_isTaking n x2 c_moves c_handMoves c_kept c_keptAt = some (o_c_moves, o_c_handMoves, o_c_kept, o_c_keptAt) → lv_has ls 3 [(0, .ref (ad 0)), (1, .int x1), (2, .int x2)] → (∀ (H : Heap) (locs : List Loc) (ls : Array Slot), va_P (dC, dI) vwCl (mW dA ad c_tape c_taped c_tree c_bonds o_c_moves o_c_handMoves c_moved c_days c_likely c_outOf c_rateNow c_pence c_top c_bottom c_spot c_textLong c_fault c_number c_numberAt c_figures c_written c_wanted c_found c_drawnNow c_worth c_hold c_way c_acts c_sDay c_sUps c_sUp c_sMarks c_paidAll c_isPlayed c_isOn c_handMoved c_handPaid c_regret c_aside c_other c_states o_c_kept c_keptLong o_c_keptAt c_isTaking) H → va_D A (mW dA ad c_tape c_taped c_tree c_bonds o_c_moves o_c_handMoves c_moved c_days c_likely c_outOf c_rateNow c_pence c_top c_bottom c_spot c_textLong c_fault c_number c_numberAt c_figures c_written c_wanted c_found c_drawnNow c_worth c_hold c_way c_acts c_sDay c_sUps c_sUp c_sMarks c_paidAll c_isPlayed c_isOn c_handMoved c_handPaid c_regret c_aside c_other c_states o_c_kept c_keptLong o_c_keptAt c_isTaking) → va_S A s.heap H locs → lv_has ls 3 [(0, .ref (ad 0)), (1, .int x1)] → W p l e rmX9_keepsAll s m ([.ref (ad 0), .int p1] : List Value).toArray below meth c H locs 0 0 Q (F0 m 124 ls [])) → W p l e rmX9_keepsAll s m ([.ref (ad 0), .int p1] : List Value).toArray below meth c H locs 0 0 Q (F0 m 80 ls []) := by
    intro n
    induction n with
    | zero =>
      intro x1 c_isTaking c_tape c_taped c_tree c_bonds c_moved c_days c_likely c_outOf c_rateNow c_pence c_top c_bottom c_spot c_textLong c_fault c_number c_numberAt c_figures c_written c_wanted c_found c_drawnNow c_worth c_hold c_way c_acts c_sDay c_sUps c_sUp c_sMarks c_paidAll c_isPlayed c_isOn c_handMoved c_handPaid c_regret c_aside c_other c_states c_keptLong x2 c_moves c_handMoves c_kept c_keptAt o_c_moves o_c_handMoves o_c_kept o_c_keptAt H locs ls hP hD hS hf hl hk
      cases hf
    | succ n ih80 =>
      intro x1 c_isTaking c_tape c_taped c_tree c_bonds c_moved c_days c_likely c_outOf c_rateNow c_pence c_top c_bottom c_spot c_textLong c_fault c_number c_numberAt c_figures c_written c_wanted c_found c_drawnNow c_worth c_hold c_way c_acts c_sDay c_sUps c_sUp c_sMarks c_paidAll c_isPlayed c_isOn c_handMoved c_handPaid c_regret c_aside c_other c_states c_keptLong x2 c_moves c_handMoves c_kept c_keptAt o_c_moves o_c_handMoves o_c_kept o_c_keptAt H locs ls hP hD hS hf hl hk
      rw [lpX9_keepsAll_80.eq_2] at hf
      refine lv_iload_n hx hb dX9_keepsAll_80 rfl (lv_at hl 2 rfl) ?_
      refine lv_bipush (v := 6) hx hb dX9_keepsAll_81 (by decide) ?_
      refine lv_icmp_ge (tgt := 124) hx hb dX9_keepsAll_83 (by decide) (fun k62 => ?_) (fun k62 => ?_)
      · replace hf := ifp k62 hf
        cases hf
        exact hk _ _ _ hP hD hS (lv_sub hl [0, 1] rfl)
      · replace hf := ifn k62 hf
        refine lv_aload_n hx hb dX9_keepsAll_86 rfl (lv_at hl 0 rfl) ?_
        refine va_get (D := (dC, dI)) (ci := 9) (v := .ref (ad 4)) (C := RX9) (T := TX9) (N := 45) hx hb hts (fun w h => gw_mem (inX9 w h)) hown hK.1 hP 0 rfl rfl 4 (by decide) (hts _ (gw_mem wfX9_20)) (fun _ h9 => h9) rfl dX9_keepsAll_87 ?_
        refine lv_iload_n hx hb dX9_keepsAll_90 rfl (lv_at hl 2 rfl) ?_
        refine lv_aload_n hx hb dX9_keepsAll_91 rfl (lv_at hl 0 rfl) ?_
        refine lv_aload_n hx hb dX9_keepsAll_92 rfl (lv_at hl 0 rfl) ?_
        refine va_get (D := (dC, dI)) (ci := 9) (v := .ref (ad 4)) (C := RX9) (T := TX9) (N := 45) hx hb hts (fun w h => gw_mem (inX9 w h)) hown hK.1 hP 0 rfl rfl 4 (by decide) (hts _ (gw_mem wfX9_20)) (fun _ h9 => h9) rfl dX9_keepsAll_93 ?_
        refine lv_iload_n hx hb dX9_keepsAll_96 rfl (lv_at hl 2 rfl) ?_
        obtain ⟨h63, hf⟩ := og_some hf
        refine va_iald hx hb hK.1 hP 4 0 rfl rfl (okI_in h63) dX9_keepsAll_97 ?_
        obtain ⟨r64, c_kept_65, c_keptAt_66, v67, hf⟩ := bd3_some hf
        refine gci (va_runV (As := [.int (c_moves (Int32.toNatClampNeg x2))]) (rest := [.int x2, .ref (ad 4)]) ⟨hx, hb, hml, hown, hts⟩ (tX9_keeps l dC dI dA ad H.size v67) (ccX9_X9_keeps hts ⟨Nat.le_of_ble_eq_true rfl, Nat.le_of_ble_eq_true rfl⟩) (gPreV (ci := 9) (q0 := 0) hP hK hD rfl rfl) rfl rfl hl.1 rfl (lv_room (Nat.le_of_ble_eq_true rfl)) dX9_keepsAll_98 ⟨Nat.le_of_ble_eq_true rfl, Nat.le_of_ble_eq_true rfl⟩) hD hS hA (fun H locs hP hD hS => ?_)
        obtain ⟨h68, hf⟩ := og_some hf
        obtain ⟨w69, ew69⟩ : ∃ y : Nat → Int32, y = upd c_moves (Int32.toNatClampNeg x2) r64 := ⟨_, rfl⟩
        replace hf := nm_at hf ew69
        refine va_iast hx hb hK.1 hP hD hS 4 0 rfl rfl (okI_in h68) dX9_keepsAll_101 (fun H locs hP hD hS => ?_)
        have hP : va_P (dC, dI) vwCl (mW dA ad c_tape c_taped c_tree c_bonds w69 c_handMoves c_moved c_days c_likely c_outOf c_rateNow c_pence c_top c_bottom c_spot c_textLong c_fault c_number c_numberAt c_figures c_written c_wanted c_found c_drawnNow c_worth c_hold c_way c_acts c_sDay c_sUps c_sUp c_sMarks c_paidAll c_isPlayed c_isOn c_handMoved c_handPaid c_regret c_aside c_other c_states c_kept_65 c_keptLong c_keptAt_66 c_isTaking) H := by rw [ew69]; exact hP
        have hD : va_D A (mW dA ad c_tape c_taped c_tree c_bonds w69 c_handMoves c_moved c_days c_likely c_outOf c_rateNow c_pence c_top c_bottom c_spot c_textLong c_fault c_number c_numberAt c_figures c_written c_wanted c_found c_drawnNow c_worth c_hold c_way c_acts c_sDay c_sUps c_sUp c_sMarks c_paidAll c_isPlayed c_isOn c_handMoved c_handPaid c_regret c_aside c_other c_states c_kept_65 c_keptLong c_keptAt_66 c_isTaking) := by rw [ew69]; exact hD
        refine lv_aload_n hx hb dX9_keepsAll_102 rfl (lv_at hl 0 rfl) ?_
        refine va_get (D := (dC, dI)) (ci := 9) (v := .ref (ad 5)) (C := RX9) (T := TX9) (N := 45) hx hb hts (fun w h => gw_mem (inX9 w h)) hown hK.1 hP 0 rfl rfl 5 (by decide) (hts _ (gw_mem wfX9_23)) (fun _ h9 => h9) rfl dX9_keepsAll_103 ?_
        refine lv_iload_n hx hb dX9_keepsAll_106 rfl (lv_at hl 2 rfl) ?_
        refine lv_aload_n hx hb dX9_keepsAll_107 rfl (lv_at hl 0 rfl) ?_
        refine lv_aload_n hx hb dX9_keepsAll_108 rfl (lv_at hl 0 rfl) ?_
        refine va_get (D := (dC, dI)) (ci := 9) (v := .ref (ad 5)) (C := RX9) (T := TX9) (N := 45) hx hb hts (fun w h => gw_mem (inX9 w h)) hown hK.1 hP 0 rfl rfl 5 (by decide) (hts _ (gw_mem wfX9_23)) (fun _ h9 => h9) rfl dX9_keepsAll_109 ?_
        refine lv_iload_n hx hb dX9_keepsAll_112 rfl (lv_at hl 2 rfl) ?_
        obtain ⟨h70, hf⟩ := og_some hf
        refine va_iald hx hb hK.1 hP 5 0 rfl rfl (okI_in h70) dX9_keepsAll_113 ?_
        obtain ⟨r71, c_kept_72, c_keptAt_73, v74, hf⟩ := bd3_some hf
        refine gci (va_runV (As := [.int (c_handMoves (Int32.toNatClampNeg x2))]) (rest := [.int x2, .ref (ad 5)]) ⟨hx, hb, hml, hown, hts⟩ (tX9_keeps l dC dI dA ad H.size v74) (ccX9_X9_keeps hts ⟨Nat.le_of_ble_eq_true rfl, Nat.le_of_ble_eq_true rfl⟩) (gPreV (ci := 9) (q0 := 0) hP hK hD rfl rfl) rfl rfl hl.1 rfl (lv_room (Nat.le_of_ble_eq_true rfl)) dX9_keepsAll_114 ⟨Nat.le_of_ble_eq_true rfl, Nat.le_of_ble_eq_true rfl⟩) hD hS hA (fun H locs hP hD hS => ?_)
        obtain ⟨h75, hf⟩ := og_some hf
        obtain ⟨w76, ew76⟩ : ∃ y : Nat → Int32, y = upd c_handMoves (Int32.toNatClampNeg x2) r71 := ⟨_, rfl⟩
        replace hf := nm_at hf ew76
        refine va_iast hx hb hK.1 hP hD hS 5 0 rfl rfl (okI_in h75) dX9_keepsAll_117 (fun H locs hP hD hS => ?_)
        have hP : va_P (dC, dI) vwCl (mW dA ad c_tape c_taped c_tree c_bonds w69 w76 c_moved c_days c_likely c_outOf c_rateNow c_pence c_top c_bottom c_spot c_textLong c_fault c_number c_numberAt c_figures c_written c_wanted c_found c_drawnNow c_worth c_hold c_way c_acts c_sDay c_sUps c_sUp c_sMarks c_paidAll c_isPlayed c_isOn c_handMoved c_handPaid c_regret c_aside c_other c_states c_kept_72 c_keptLong c_keptAt_73 c_isTaking) H := by rw [ew76]; exact hP
        have hD : va_D A (mW dA ad c_tape c_taped c_tree c_bonds w69 w76 c_moved c_days c_likely c_outOf c_rateNow c_pence c_top c_bottom c_spot c_textLong c_fault c_number c_numberAt c_figures c_written c_wanted c_found c_drawnNow c_worth c_hold c_way c_acts c_sDay c_sUps c_sUp c_sMarks c_paidAll c_isPlayed c_isOn c_handMoved c_handPaid c_regret c_aside c_other c_states c_kept_72 c_keptLong c_keptAt_73 c_isTaking) := by rw [ew76]; exact hD
        obtain ⟨w77, ew77⟩ : ∃ y : Int32, y = x2 + 1 := ⟨_, rfl⟩
        replace hf := nm_at hf ew77
        refine lv_iinc (v := w77) (lv' := [(2, .int w77), (0, .ref (ad 0)), (1, .int x1)]) hx hb dX9_keepsAll_118 hl (k := 2) rfl (by rw [ew77]; rfl) (by decide) rfl (fun ls hl => ?_)
        refine lv_goto (tgt := 80) hx hb dX9_keepsAll_121 (by decide) ?_
        exact ih80 _ _ _ _ _ _ _ _ _ _ _ _ _ _ _ _ _ _ _ _ _ _ _ _ _ _ _ _ _ _ _ _ _ _ _ _ _ _ _ _ _ _ _ _ _ _ _ _ _ _ _ _ _ _ hP hD hS hf (lv_sub hl [1, 2, 0] rfl) hk
  subst hQ
  unfold fX9_keepsAll at hf
  refine lv_aload_n hx hb dX9_keepsAll_0 rfl (lv_at hl 0 rfl) ?_
  refine lv_iload_n hx hb dX9_keepsAll_1 rfl (lv_at hl 1 rfl) ?_
  obtain ⟨h1, hf⟩ := og_some hf
  refine va_put (D := (dC, dI)) (ci := 9) (v := .int p1) (ty := .boolean) (C := RX9) (T := TX9) (N := 45) hx hb hts (fun w h => gw_mem (inX9 w h)) tyX9 tyX9_ok nmX9 hown hK.1 hP hD hS 0 rfl rfl 44 (by decide) (hts _ (gw_mem wfX9_440)) (fun _ h9 => h9) rfl (by decide +kernel) (boB_nar h1) (boB_fit h1) (Nat.le_of_ble_eq_true rfl) dX9_keepsAll_2 (fun H locs hP hD hS => ?_)
  have hP : va_P (dC, dI) vwCl (mW dA ad c_tape c_taped c_tree c_bonds c_moves c_handMoves c_moved c_days c_likely c_outOf c_rateNow c_pence c_top c_bottom c_spot c_textLong c_fault c_number c_numberAt c_figures c_written c_wanted c_found c_drawnNow c_worth c_hold c_way c_acts c_sDay c_sUps c_sUp c_sMarks c_paidAll c_isPlayed c_isOn c_handMoved c_handPaid c_regret c_aside c_other c_states c_kept c_keptLong c_keptAt p1) H := hP
  have hD : va_D A (mW dA ad c_tape c_taped c_tree c_bonds c_moves c_handMoves c_moved c_days c_likely c_outOf c_rateNow c_pence c_top c_bottom c_spot c_textLong c_fault c_number c_numberAt c_figures c_written c_wanted c_found c_drawnNow c_worth c_hold c_way c_acts c_sDay c_sUps c_sUp c_sMarks c_paidAll c_isPlayed c_isOn c_handMoved c_handPaid c_regret c_aside c_other c_states c_kept c_keptLong c_keptAt p1) := hD
  refine lv_aload_n hx hb dX9_keepsAll_5 rfl (lv_at hl 0 rfl) ?_
  refine lv_sipush (v := 178) hx hb dX9_keepsAll_6 (by decide) ?_
  refine lv_aload_n hx hb dX9_keepsAll_9 rfl (lv_at hl 0 rfl) ?_
  refine va_get (D := (dC, dI)) (ci := 9) (v := .int c_states) (C := RX9) (T := TX9) (N := 45) hx hb hts (fun w h => gw_mem (inX9 w h)) hown hK.1 hP 0 rfl rfl 40 (by decide) (hts _ (gw_mem wfX9_446)) (fun _ h9 => h9) rfl dX9_keepsAll_10 ?_
  refine lv_imul hx hb dX9_keepsAll_13 ?_
  refine lv_topi (fun w2 ew2 => ?_)
  replace hf := nm_at hf ew2
  refine va_put (D := (dC, dI)) (ci := 9) (v := .int w2) (ty := .int) (C := RX9) (T := TX9) (N := 45) hx hb hts (fun w h => gw_mem (inX9 w h)) tyX9 tyX9_ok nmX9 hown hK.1 hP hD hS 0 rfl rfl 43 (by decide) (hts _ (gw_mem wfX9_443)) (fun _ h9 => h9) rfl (by decide +kernel) rfl rfl (Nat.le_of_ble_eq_true rfl) dX9_keepsAll_14 (fun H locs hP hD hS => ?_)
  have hP : va_P (dC, dI) vwCl (mW dA ad c_tape c_taped c_tree c_bonds c_moves c_handMoves c_moved c_days c_likely c_outOf c_rateNow c_pence c_top c_bottom c_spot c_textLong c_fault c_number c_numberAt c_figures c_written c_wanted c_found c_drawnNow c_worth c_hold c_way c_acts c_sDay c_sUps c_sUp c_sMarks c_paidAll c_isPlayed c_isOn c_handMoved c_handPaid c_regret c_aside c_other c_states c_kept c_keptLong w2 p1) H := hP
  have hD : va_D A (mW dA ad c_tape c_taped c_tree c_bonds c_moves c_handMoves c_moved c_days c_likely c_outOf c_rateNow c_pence c_top c_bottom c_spot c_textLong c_fault c_number c_numberAt c_figures c_written c_wanted c_found c_drawnNow c_worth c_hold c_way c_acts c_sDay c_sUps c_sUp c_sMarks c_paidAll c_isPlayed c_isOn c_handMoved c_handPaid c_regret c_aside c_other c_states c_kept c_keptLong w2 p1) := hD
  refine lv_iconst (v := 0) hx hb dX9_keepsAll_17 (by decide) ?_
  refine lv_istore_n (lv' := [(2, .int 0), (0, .ref (ad 0)), (1, .int p1)]) hx hb dX9_keepsAll_18 rfl hl (by decide) rfl (fun ls hl => ?_)
  obtain ⟨c_tree_3, c_kept_4, c_keptAt_5, v6, hf⟩ := bd3_some hf
  refine LP19 FU _ _ _ _ _ _ _ _ _ _ _ _ _ _ _ _ _ _ _ _ _ _ _ _ _ _ _ _ _ _ _ _ _ _ _ _ _ _ _ _ _ _ _ _ _ _ _ _ _ _ _ _ _ hP hD hS v6 (lv_sub hl [1, 2, 0] rfl) (fun H locs ls hP hD hS hl => ?_)
  refine lv_iconst (v := 0) hx hb dX9_keepsAll_47 (by decide) ?_
  refine lv_istore_n (lv' := [(2, .int 0), (0, .ref (ad 0)), (1, .int p1)]) hx hb dX9_keepsAll_48 rfl hl (by decide) rfl (fun ls hl => ?_)
  obtain ⟨c_bonds_7, c_kept_8, c_keptAt_9, v10, hf⟩ := bd3_some hf
  refine LP49 FU _ _ _ _ _ _ _ _ _ _ _ _ _ _ _ _ _ _ _ _ _ _ _ _ _ _ _ _ _ _ _ _ _ _ _ _ _ _ _ _ _ _ _ _ _ _ _ _ _ _ _ _ _ hP hD hS v10 (lv_sub hl [1, 2, 0] rfl) (fun H locs ls hP hD hS hl => ?_)
  refine lv_iconst (v := 0) hx hb dX9_keepsAll_78 (by decide) ?_
  refine lv_istore_n (lv' := [(2, .int 0), (0, .ref (ad 0)), (1, .int p1)]) hx hb dX9_keepsAll_79 rfl hl (by decide) rfl (fun ls hl => ?_)
  obtain ⟨c_moves_11, c_handMoves_12, c_kept_13, c_keptAt_14, v15, hf⟩ := bd4_some hf
  refine LP80 FU _ _ _ _ _ _ _ _ _ _ _ _ _ _ _ _ _ _ _ _ _ _ _ _ _ _ _ _ _ _ _ _ _ _ _ _ _ _ _ _ _ _ _ _ _ _ _ _ _ _ _ _ _ _ hP hD hS v15 (lv_sub hl [1, 2, 0] rfl) (fun H locs ls hP hD hS hl => ?_)
  refine lv_aload_n hx hb dX9_keepsAll_124 rfl (lv_at hl 0 rfl) ?_
  refine lv_aload_n hx hb dX9_keepsAll_125 rfl (lv_at hl 0 rfl) ?_
  refine lv_aload_n hx hb dX9_keepsAll_126 rfl (lv_at hl 0 rfl) ?_
  refine va_get (D := (dC, dI)) (ci := 9) (v := .int c_moved) (C := RX9) (T := TX9) (N := 45) hx hb hts (fun w h => gw_mem (inX9 w h)) hown hK.1 hP 0 rfl rfl 6 (by decide) (hts _ (gw_mem wfX9_76)) (fun _ h9 => h9) rfl dX9_keepsAll_127 ?_
  obtain ⟨r16, c_kept_17, c_keptAt_18, v19, hf⟩ := bd3_some hf
  refine gci (va_runV (As := [.int c_moved]) (rest := [.ref (ad 0)]) ⟨hx, hb, hml, hown, hts⟩ (tX9_keeps l dC dI dA ad H.size v19) (ccX9_X9_keeps hts ⟨Nat.le_of_ble_eq_true rfl, Nat.le_of_ble_eq_true rfl⟩) (gPreV (ci := 9) (q0 := 0) hP hK hD rfl rfl) rfl rfl hl.1 rfl (lv_room (Nat.le_of_ble_eq_true rfl)) dX9_keepsAll_130 ⟨Nat.le_of_ble_eq_true rfl, Nat.le_of_ble_eq_true rfl⟩) hD hS hA (fun H locs hP hD hS => ?_)
  refine va_put (D := (dC, dI)) (ci := 9) (v := .int r16) (ty := .int) (C := RX9) (T := TX9) (N := 45) hx hb hts (fun w h => gw_mem (inX9 w h)) tyX9 tyX9_ok nmX9 hown hK.1 hP hD hS 0 rfl rfl 6 (by decide) (hts _ (gw_mem wfX9_76)) (fun _ h9 => h9) rfl (by decide +kernel) rfl rfl (Nat.le_of_ble_eq_true rfl) dX9_keepsAll_133 (fun H locs hP hD hS => ?_)
  have hP : va_P (dC, dI) vwCl (mW dA ad c_tape c_taped c_tree_3 c_bonds_7 c_moves_11 c_handMoves_12 r16 c_days c_likely c_outOf c_rateNow c_pence c_top c_bottom c_spot c_textLong c_fault c_number c_numberAt c_figures c_written c_wanted c_found c_drawnNow c_worth c_hold c_way c_acts c_sDay c_sUps c_sUp c_sMarks c_paidAll c_isPlayed c_isOn c_handMoved c_handPaid c_regret c_aside c_other c_states c_kept_17 c_keptLong c_keptAt_18 p1) H := hP
  have hD : va_D A (mW dA ad c_tape c_taped c_tree_3 c_bonds_7 c_moves_11 c_handMoves_12 r16 c_days c_likely c_outOf c_rateNow c_pence c_top c_bottom c_spot c_textLong c_fault c_number c_numberAt c_figures c_written c_wanted c_found c_drawnNow c_worth c_hold c_way c_acts c_sDay c_sUps c_sUp c_sMarks c_paidAll c_isPlayed c_isOn c_handMoved c_handPaid c_regret c_aside c_other c_states c_kept_17 c_keptLong c_keptAt_18 p1) := hD
  refine lv_aload_n hx hb dX9_keepsAll_136 rfl (lv_at hl 0 rfl) ?_
  refine lv_aload_n hx hb dX9_keepsAll_137 rfl (lv_at hl 0 rfl) ?_
  refine lv_aload_n hx hb dX9_keepsAll_138 rfl (lv_at hl 0 rfl) ?_
  refine va_get (D := (dC, dI)) (ci := 9) (v := .int c_handMoved) (C := RX9) (T := TX9) (N := 45) hx hb hts (fun w h => gw_mem (inX9 w h)) hown hK.1 hP 0 rfl rfl 35 (by decide) (hts _ (gw_mem wfX9_409)) (fun _ h9 => h9) rfl dX9_keepsAll_139 ?_
  obtain ⟨r20, c_kept_21, c_keptAt_22, v23, hf⟩ := bd3_some hf
  refine gci (va_runV (As := [.int c_handMoved]) (rest := [.ref (ad 0)]) ⟨hx, hb, hml, hown, hts⟩ (tX9_keeps l dC dI dA ad H.size v23) (ccX9_X9_keeps hts ⟨Nat.le_of_ble_eq_true rfl, Nat.le_of_ble_eq_true rfl⟩) (gPreV (ci := 9) (q0 := 0) hP hK hD rfl rfl) rfl rfl hl.1 rfl (lv_room (Nat.le_of_ble_eq_true rfl)) dX9_keepsAll_142 ⟨Nat.le_of_ble_eq_true rfl, Nat.le_of_ble_eq_true rfl⟩) hD hS hA (fun H locs hP hD hS => ?_)
  refine va_put (D := (dC, dI)) (ci := 9) (v := .int r20) (ty := .int) (C := RX9) (T := TX9) (N := 45) hx hb hts (fun w h => gw_mem (inX9 w h)) tyX9 tyX9_ok nmX9 hown hK.1 hP hD hS 0 rfl rfl 35 (by decide) (hts _ (gw_mem wfX9_409)) (fun _ h9 => h9) rfl (by decide +kernel) rfl rfl (Nat.le_of_ble_eq_true rfl) dX9_keepsAll_145 (fun H locs hP hD hS => ?_)
  have hP : va_P (dC, dI) vwCl (mW dA ad c_tape c_taped c_tree_3 c_bonds_7 c_moves_11 c_handMoves_12 r16 c_days c_likely c_outOf c_rateNow c_pence c_top c_bottom c_spot c_textLong c_fault c_number c_numberAt c_figures c_written c_wanted c_found c_drawnNow c_worth c_hold c_way c_acts c_sDay c_sUps c_sUp c_sMarks c_paidAll c_isPlayed c_isOn r20 c_handPaid c_regret c_aside c_other c_states c_kept_21 c_keptLong c_keptAt_22 p1) H := hP
  have hD : va_D A (mW dA ad c_tape c_taped c_tree_3 c_bonds_7 c_moves_11 c_handMoves_12 r16 c_days c_likely c_outOf c_rateNow c_pence c_top c_bottom c_spot c_textLong c_fault c_number c_numberAt c_figures c_written c_wanted c_found c_drawnNow c_worth c_hold c_way c_acts c_sDay c_sUps c_sUp c_sMarks c_paidAll c_isPlayed c_isOn r20 c_handPaid c_regret c_aside c_other c_states c_kept_21 c_keptLong c_keptAt_22 p1) := hD
  refine lv_aload_n hx hb dX9_keepsAll_148 rfl (lv_at hl 0 rfl) ?_
  refine lv_aload_n hx hb dX9_keepsAll_149 rfl (lv_at hl 0 rfl) ?_
  refine lv_aload_n hx hb dX9_keepsAll_150 rfl (lv_at hl 0 rfl) ?_
  refine va_get (D := (dC, dI)) (ci := 9) (v := .int c_isPlayed) (C := RX9) (T := TX9) (N := 45) hx hb hts (fun w h => gw_mem (inX9 w h)) hown hK.1 hP 0 rfl rfl 33 (by decide) (hts _ (gw_mem wfX9_412)) (fun _ h9 => h9) rfl dX9_keepsAll_151 ?_
  obtain ⟨j25, v27, hf⟩ := bd1_some hf
  have J26 : ∀ (H : Heap) (locs : List Loc) (ls : Array Slot), va_P (dC, dI) vwCl (mW dA ad c_tape c_taped c_tree_3 c_bonds_7 c_moves_11 c_handMoves_12 r16 c_days c_likely c_outOf c_rateNow c_pence c_top c_bottom c_spot c_textLong c_fault c_number c_numberAt c_figures c_written c_wanted c_found c_drawnNow c_worth c_hold c_way c_acts c_sDay c_sUps c_sUp c_sMarks c_paidAll c_isPlayed c_isOn r20 c_handPaid c_regret c_aside c_other c_states c_kept_21 c_keptLong c_keptAt_22 p1) H → va_D A (mW dA ad c_tape c_taped c_tree_3 c_bonds_7 c_moves_11 c_handMoves_12 r16 c_days c_likely c_outOf c_rateNow c_pence c_top c_bottom c_spot c_textLong c_fault c_number c_numberAt c_figures c_written c_wanted c_found c_drawnNow c_worth c_hold c_way c_acts c_sDay c_sUps c_sUp c_sMarks c_paidAll c_isPlayed c_isOn r20 c_handPaid c_regret c_aside c_other c_states c_kept_21 c_keptLong c_keptAt_22 p1) → va_S A s.heap H locs → lv_has ls 3 [(0, .ref (ad 0)), (1, .int p1)] → W p l e rmX9_keepsAll s m ([.ref (ad 0), .int p1] : List Value).toArray below meth c H locs 0 0 (MQ below (gQv (dC, dI) (mW dA ad c_tape c_taped o_c_tree o_c_bonds o_c_moves o_c_handMoves o_c_moved c_days c_likely c_outOf c_rateNow c_pence c_top c_bottom c_spot c_textLong c_fault c_number c_numberAt c_figures c_written c_wanted c_found c_drawnNow c_worth c_hold c_way c_acts c_sDay c_sUps c_sUp c_sMarks c_paidAll o_c_isPlayed o_c_isOn o_c_handMoved o_c_handPaid o_c_regret c_aside c_other c_states o_c_kept o_c_keptLong o_c_keptAt o_c_isTaking) A) ([.ref (ad 0), .int p1] : List Value).toArray s 0 0 A) (F0 m 162 ls [.int j25, .ref (ad 0), .ref (ad 0)]) := by
    intro H locs ls hP hD hS hl
    obtain ⟨r28, c_kept_29, c_keptAt_30, v31, hf⟩ := bd3_some hf
    refine gci (va_runV (As := [.int j25]) (rest := [.ref (ad 0)]) ⟨hx, hb, hml, hown, hts⟩ (tX9_keeps l dC dI dA ad H.size v31) (ccX9_X9_keeps hts ⟨Nat.le_of_ble_eq_true rfl, Nat.le_of_ble_eq_true rfl⟩) (gPreV (ci := 9) (q0 := 0) hP hK hD rfl rfl) rfl rfl hl.1 rfl (lv_room (Nat.le_of_ble_eq_true rfl)) dX9_keepsAll_162 ⟨Nat.le_of_ble_eq_true rfl, Nat.le_of_ble_eq_true rfl⟩) hD hS hA (fun H locs hP hD hS => ?_)
    refine lv_iconst (v := 1) hx hb dX9_keepsAll_165 (by decide) ?_
    obtain ⟨j33, v35, hf⟩ := bd1_some hf
    have J34 : ∀ (H : Heap) (locs : List Loc) (ls : Array Slot), va_P (dC, dI) vwCl (mW dA ad c_tape c_taped c_tree_3 c_bonds_7 c_moves_11 c_handMoves_12 r16 c_days c_likely c_outOf c_rateNow c_pence c_top c_bottom c_spot c_textLong c_fault c_number c_numberAt c_figures c_written c_wanted c_found c_drawnNow c_worth c_hold c_way c_acts c_sDay c_sUps c_sUp c_sMarks c_paidAll c_isPlayed c_isOn r20 c_handPaid c_regret c_aside c_other c_states c_kept_29 c_keptLong c_keptAt_30 p1) H → va_D A (mW dA ad c_tape c_taped c_tree_3 c_bonds_7 c_moves_11 c_handMoves_12 r16 c_days c_likely c_outOf c_rateNow c_pence c_top c_bottom c_spot c_textLong c_fault c_number c_numberAt c_figures c_written c_wanted c_found c_drawnNow c_worth c_hold c_way c_acts c_sDay c_sUps c_sUp c_sMarks c_paidAll c_isPlayed c_isOn r20 c_handPaid c_regret c_aside c_other c_states c_kept_29 c_keptLong c_keptAt_30 p1) → va_S A s.heap H locs → lv_has ls 3 [(0, .ref (ad 0)), (1, .int p1)] → W p l e rmX9_keepsAll s m ([.ref (ad 0), .int p1] : List Value).toArray below meth c H locs 0 0 (MQ below (gQv (dC, dI) (mW dA ad c_tape c_taped o_c_tree o_c_bonds o_c_moves o_c_handMoves o_c_moved c_days c_likely c_outOf c_rateNow c_pence c_top c_bottom c_spot c_textLong c_fault c_number c_numberAt c_figures c_written c_wanted c_found c_drawnNow c_worth c_hold c_way c_acts c_sDay c_sUps c_sUp c_sMarks c_paidAll o_c_isPlayed o_c_isOn o_c_handMoved o_c_handPaid o_c_regret c_aside c_other c_states o_c_kept o_c_keptLong o_c_keptAt o_c_isTaking) A) ([.ref (ad 0), .int p1] : List Value).toArray s 0 0 A) (F0 m 174 ls [.int j33, .ref (ad 0)]) := by
      intro H locs ls hP hD hS hl
      obtain ⟨h36, hf⟩ := og_some hf
      refine va_put (D := (dC, dI)) (ci := 9) (v := .int j33) (ty := .boolean) (C := RX9) (T := TX9) (N := 45) hx hb hts (fun w h => gw_mem (inX9 w h)) tyX9 tyX9_ok nmX9 hown hK.1 hP hD hS 0 rfl rfl 33 (by decide) (hts _ (gw_mem wfX9_412)) (fun _ h9 => h9) rfl (by decide +kernel) (boB_nar h36) (boB_fit h36) (Nat.le_of_ble_eq_true rfl) dX9_keepsAll_174 (fun H locs hP hD hS => ?_)
      have hP : va_P (dC, dI) vwCl (mW dA ad c_tape c_taped c_tree_3 c_bonds_7 c_moves_11 c_handMoves_12 r16 c_days c_likely c_outOf c_rateNow c_pence c_top c_bottom c_spot c_textLong c_fault c_number c_numberAt c_figures c_written c_wanted c_found c_drawnNow c_worth c_hold c_way c_acts c_sDay c_sUps c_sUp c_sMarks c_paidAll j33 c_isOn r20 c_handPaid c_regret c_aside c_other c_states c_kept_29 c_keptLong c_keptAt_30 p1) H := hP
      have hD : va_D A (mW dA ad c_tape c_taped c_tree_3 c_bonds_7 c_moves_11 c_handMoves_12 r16 c_days c_likely c_outOf c_rateNow c_pence c_top c_bottom c_spot c_textLong c_fault c_number c_numberAt c_figures c_written c_wanted c_found c_drawnNow c_worth c_hold c_way c_acts c_sDay c_sUps c_sUp c_sMarks c_paidAll j33 c_isOn r20 c_handPaid c_regret c_aside c_other c_states c_kept_29 c_keptLong c_keptAt_30 p1) := hD
      refine lv_aload_n hx hb dX9_keepsAll_177 rfl (lv_at hl 0 rfl) ?_
      refine lv_aload_n hx hb dX9_keepsAll_178 rfl (lv_at hl 0 rfl) ?_
      refine lv_aload_n hx hb dX9_keepsAll_179 rfl (lv_at hl 0 rfl) ?_
      refine va_get (D := (dC, dI)) (ci := 9) (v := .int c_isOn) (C := RX9) (T := TX9) (N := 45) hx hb hts (fun w h => gw_mem (inX9 w h)) hown hK.1 hP 0 rfl rfl 34 (by decide) (hts _ (gw_mem wfX9_416)) (fun _ h9 => h9) rfl dX9_keepsAll_180 ?_
      obtain ⟨j38, v40, hf⟩ := bd1_some hf
      have J39 : ∀ (H : Heap) (locs : List Loc) (ls : Array Slot), va_P (dC, dI) vwCl (mW dA ad c_tape c_taped c_tree_3 c_bonds_7 c_moves_11 c_handMoves_12 r16 c_days c_likely c_outOf c_rateNow c_pence c_top c_bottom c_spot c_textLong c_fault c_number c_numberAt c_figures c_written c_wanted c_found c_drawnNow c_worth c_hold c_way c_acts c_sDay c_sUps c_sUp c_sMarks c_paidAll j33 c_isOn r20 c_handPaid c_regret c_aside c_other c_states c_kept_29 c_keptLong c_keptAt_30 p1) H → va_D A (mW dA ad c_tape c_taped c_tree_3 c_bonds_7 c_moves_11 c_handMoves_12 r16 c_days c_likely c_outOf c_rateNow c_pence c_top c_bottom c_spot c_textLong c_fault c_number c_numberAt c_figures c_written c_wanted c_found c_drawnNow c_worth c_hold c_way c_acts c_sDay c_sUps c_sUp c_sMarks c_paidAll j33 c_isOn r20 c_handPaid c_regret c_aside c_other c_states c_kept_29 c_keptLong c_keptAt_30 p1) → va_S A s.heap H locs → lv_has ls 3 [(0, .ref (ad 0)), (1, .int p1)] → W p l e rmX9_keepsAll s m ([.ref (ad 0), .int p1] : List Value).toArray below meth c H locs 0 0 (MQ below (gQv (dC, dI) (mW dA ad c_tape c_taped o_c_tree o_c_bonds o_c_moves o_c_handMoves o_c_moved c_days c_likely c_outOf c_rateNow c_pence c_top c_bottom c_spot c_textLong c_fault c_number c_numberAt c_figures c_written c_wanted c_found c_drawnNow c_worth c_hold c_way c_acts c_sDay c_sUps c_sUp c_sMarks c_paidAll o_c_isPlayed o_c_isOn o_c_handMoved o_c_handPaid o_c_regret c_aside c_other c_states o_c_kept o_c_keptLong o_c_keptAt o_c_isTaking) A) ([.ref (ad 0), .int p1] : List Value).toArray s 0 0 A) (F0 m 191 ls [.int j38, .ref (ad 0), .ref (ad 0)]) := by
        intro H locs ls hP hD hS hl
        obtain ⟨r41, c_kept_42, c_keptAt_43, v44, hf⟩ := bd3_some hf
        refine gci (va_runV (As := [.int j38]) (rest := [.ref (ad 0)]) ⟨hx, hb, hml, hown, hts⟩ (tX9_keeps l dC dI dA ad H.size v44) (ccX9_X9_keeps hts ⟨Nat.le_of_ble_eq_true rfl, Nat.le_of_ble_eq_true rfl⟩) (gPreV (ci := 9) (q0 := 0) hP hK hD rfl rfl) rfl rfl hl.1 rfl (lv_room (Nat.le_of_ble_eq_true rfl)) dX9_keepsAll_191 ⟨Nat.le_of_ble_eq_true rfl, Nat.le_of_ble_eq_true rfl⟩) hD hS hA (fun H locs hP hD hS => ?_)
        refine lv_iconst (v := 1) hx hb dX9_keepsAll_194 (by decide) ?_
        obtain ⟨j46, v48, hf⟩ := bd1_some hf
        have J47 : ∀ (H : Heap) (locs : List Loc) (ls : Array Slot), va_P (dC, dI) vwCl (mW dA ad c_tape c_taped c_tree_3 c_bonds_7 c_moves_11 c_handMoves_12 r16 c_days c_likely c_outOf c_rateNow c_pence c_top c_bottom c_spot c_textLong c_fault c_number c_numberAt c_figures c_written c_wanted c_found c_drawnNow c_worth c_hold c_way c_acts c_sDay c_sUps c_sUp c_sMarks c_paidAll j33 c_isOn r20 c_handPaid c_regret c_aside c_other c_states c_kept_42 c_keptLong c_keptAt_43 p1) H → va_D A (mW dA ad c_tape c_taped c_tree_3 c_bonds_7 c_moves_11 c_handMoves_12 r16 c_days c_likely c_outOf c_rateNow c_pence c_top c_bottom c_spot c_textLong c_fault c_number c_numberAt c_figures c_written c_wanted c_found c_drawnNow c_worth c_hold c_way c_acts c_sDay c_sUps c_sUp c_sMarks c_paidAll j33 c_isOn r20 c_handPaid c_regret c_aside c_other c_states c_kept_42 c_keptLong c_keptAt_43 p1) → va_S A s.heap H locs → lv_has ls 3 [(0, .ref (ad 0)), (1, .int p1)] → W p l e rmX9_keepsAll s m ([.ref (ad 0), .int p1] : List Value).toArray below meth c H locs 0 0 (MQ below (gQv (dC, dI) (mW dA ad c_tape c_taped o_c_tree o_c_bonds o_c_moves o_c_handMoves o_c_moved c_days c_likely c_outOf c_rateNow c_pence c_top c_bottom c_spot c_textLong c_fault c_number c_numberAt c_figures c_written c_wanted c_found c_drawnNow c_worth c_hold c_way c_acts c_sDay c_sUps c_sUp c_sMarks c_paidAll o_c_isPlayed o_c_isOn o_c_handMoved o_c_handPaid o_c_regret c_aside c_other c_states o_c_kept o_c_keptLong o_c_keptAt o_c_isTaking) A) ([.ref (ad 0), .int p1] : List Value).toArray s 0 0 A) (F0 m 203 ls [.int j46, .ref (ad 0)]) := by
          intro H locs ls hP hD hS hl
          obtain ⟨h49, hf⟩ := og_some hf
          refine va_put (D := (dC, dI)) (ci := 9) (v := .int j46) (ty := .boolean) (C := RX9) (T := TX9) (N := 45) hx hb hts (fun w h => gw_mem (inX9 w h)) tyX9 tyX9_ok nmX9 hown hK.1 hP hD hS 0 rfl rfl 34 (by decide) (hts _ (gw_mem wfX9_416)) (fun _ h9 => h9) rfl (by decide +kernel) (boB_nar h49) (boB_fit h49) (Nat.le_of_ble_eq_true rfl) dX9_keepsAll_203 (fun H locs hP hD hS => ?_)
          have hP : va_P (dC, dI) vwCl (mW dA ad c_tape c_taped c_tree_3 c_bonds_7 c_moves_11 c_handMoves_12 r16 c_days c_likely c_outOf c_rateNow c_pence c_top c_bottom c_spot c_textLong c_fault c_number c_numberAt c_figures c_written c_wanted c_found c_drawnNow c_worth c_hold c_way c_acts c_sDay c_sUps c_sUp c_sMarks c_paidAll j33 j46 r20 c_handPaid c_regret c_aside c_other c_states c_kept_42 c_keptLong c_keptAt_43 p1) H := hP
          have hD : va_D A (mW dA ad c_tape c_taped c_tree_3 c_bonds_7 c_moves_11 c_handMoves_12 r16 c_days c_likely c_outOf c_rateNow c_pence c_top c_bottom c_spot c_textLong c_fault c_number c_numberAt c_figures c_written c_wanted c_found c_drawnNow c_worth c_hold c_way c_acts c_sDay c_sUps c_sUp c_sMarks c_paidAll j33 j46 r20 c_handPaid c_regret c_aside c_other c_states c_kept_42 c_keptLong c_keptAt_43 p1) := hD
          refine lv_iload_n hx hb dX9_keepsAll_206 rfl (lv_at hl 1 rfl) ?_
          obtain ⟨c_keptLong_51, v53, hf⟩ := bd1_some hf
          have J52 : ∀ (H : Heap) (locs : List Loc) (ls : Array Slot), va_P (dC, dI) vwCl (mW dA ad c_tape c_taped c_tree_3 c_bonds_7 c_moves_11 c_handMoves_12 r16 c_days c_likely c_outOf c_rateNow c_pence c_top c_bottom c_spot c_textLong c_fault c_number c_numberAt c_figures c_written c_wanted c_found c_drawnNow c_worth c_hold c_way c_acts c_sDay c_sUps c_sUp c_sMarks c_paidAll j33 j46 r20 c_handPaid c_regret c_aside c_other c_states c_kept_42 c_keptLong_51 c_keptAt_43 p1) H → va_D A (mW dA ad c_tape c_taped c_tree_3 c_bonds_7 c_moves_11 c_handMoves_12 r16 c_days c_likely c_outOf c_rateNow c_pence c_top c_bottom c_spot c_textLong c_fault c_number c_numberAt c_figures c_written c_wanted c_found c_drawnNow c_worth c_hold c_way c_acts c_sDay c_sUps c_sUp c_sMarks c_paidAll j33 j46 r20 c_handPaid c_regret c_aside c_other c_states c_kept_42 c_keptLong_51 c_keptAt_43 p1) → va_S A s.heap H locs → lv_has ls 3 [(0, .ref (ad 0))] → W p l e rmX9_keepsAll s m ([.ref (ad 0), .int p1] : List Value).toArray below meth c H locs 0 0 (MQ below (gQv (dC, dI) (mW dA ad c_tape c_taped o_c_tree o_c_bonds o_c_moves o_c_handMoves o_c_moved c_days c_likely c_outOf c_rateNow c_pence c_top c_bottom c_spot c_textLong c_fault c_number c_numberAt c_figures c_written c_wanted c_found c_drawnNow c_worth c_hold c_way c_acts c_sDay c_sUps c_sUp c_sMarks c_paidAll o_c_isPlayed o_c_isOn o_c_handMoved o_c_handPaid o_c_regret c_aside c_other c_states o_c_kept o_c_keptLong o_c_keptAt o_c_isTaking) A) ([.ref (ad 0), .int p1] : List Value).toArray s 0 0 A) (F0 m 242 ls []) := by
            intro H locs ls hP hD hS hl
            refine lv_aload_n hx hb dX9_keepsAll_242 rfl (lv_at hl 0 rfl) ?_
            refine lv_aload_n hx hb dX9_keepsAll_243 rfl (lv_at hl 0 rfl) ?_
            refine va_get (D := (dC, dI)) (ci := 9) (v := .ref (ad 14)) (C := RX9) (T := TX9) (N := 45) hx hb hts (fun w h => gw_mem (inX9 w h)) hown hK.1 hP 0 rfl rfl 42 (by decide) (hts _ (gw_mem wfX9_51)) (fun _ h9 => h9) rfl dX9_keepsAll_244 ?_
            refine lv_iconst (v := 2) hx hb dX9_keepsAll_247 (by decide) ?_
            refine lv_aload_n hx hb dX9_keepsAll_248 rfl (lv_at hl 0 rfl) ?_
            refine va_get (D := (dC, dI)) (ci := 9) (v := .int c_states) (C := RX9) (T := TX9) (N := 45) hx hb hts (fun w h => gw_mem (inX9 w h)) hown hK.1 hP 0 rfl rfl 40 (by decide) (hts _ (gw_mem wfX9_446)) (fun _ h9 => h9) rfl dX9_keepsAll_249 ?_
            refine lv_imul hx hb dX9_keepsAll_252 ?_
            obtain ⟨h54, hf⟩ := og_some hf
            refine va_lald hx hb hK.1 hP 14 1 rfl rfl (okI_in h54) dX9_keepsAll_253 ?_
            refine lv_topl (fun w55 ew55 => ?_)
            replace hf := nm_at hf ew55
            refine va_put (D := (dC, dI)) (ci := 9) (v := .long w55) (ty := .long) (C := RX9) (T := TX9) (N := 45) hx hb hts (fun w h => gw_mem (inX9 w h)) tyX9 tyX9_ok nmX9 hown hK.1 hP hD hS 0 rfl rfl 36 (by decide) (hts _ (gw_mem wfX9_419)) (fun _ h9 => h9) rfl (by decide +kernel) rfl rfl (Nat.le_of_ble_eq_true rfl) dX9_keepsAll_254 (fun H locs hP hD hS => ?_)
            have hP : va_P (dC, dI) vwCl (mW dA ad c_tape c_taped c_tree_3 c_bonds_7 c_moves_11 c_handMoves_12 r16 c_days c_likely c_outOf c_rateNow c_pence c_top c_bottom c_spot c_textLong c_fault c_number c_numberAt c_figures c_written c_wanted c_found c_drawnNow c_worth c_hold c_way c_acts c_sDay c_sUps c_sUp c_sMarks c_paidAll j33 j46 r20 w55 c_regret c_aside c_other c_states c_kept_42 c_keptLong_51 c_keptAt_43 p1) H := hP
            have hD : va_D A (mW dA ad c_tape c_taped c_tree_3 c_bonds_7 c_moves_11 c_handMoves_12 r16 c_days c_likely c_outOf c_rateNow c_pence c_top c_bottom c_spot c_textLong c_fault c_number c_numberAt c_figures c_written c_wanted c_found c_drawnNow c_worth c_hold c_way c_acts c_sDay c_sUps c_sUp c_sMarks c_paidAll j33 j46 r20 w55 c_regret c_aside c_other c_states c_kept_42 c_keptLong_51 c_keptAt_43 p1) := hD
            refine lv_aload_n hx hb dX9_keepsAll_257 rfl (lv_at hl 0 rfl) ?_
            refine lv_aload_n hx hb dX9_keepsAll_258 rfl (lv_at hl 0 rfl) ?_
            refine va_get (D := (dC, dI)) (ci := 9) (v := .ref (ad 14)) (C := RX9) (T := TX9) (N := 45) hx hb hts (fun w h => gw_mem (inX9 w h)) hown hK.1 hP 0 rfl rfl 42 (by decide) (hts _ (gw_mem wfX9_51)) (fun _ h9 => h9) rfl dX9_keepsAll_259 ?_
            refine lv_iconst (v := 2) hx hb dX9_keepsAll_262 (by decide) ?_
            refine lv_aload_n hx hb dX9_keepsAll_263 rfl (lv_at hl 0 rfl) ?_
            refine va_get (D := (dC, dI)) (ci := 9) (v := .int c_states) (C := RX9) (T := TX9) (N := 45) hx hb hts (fun w h => gw_mem (inX9 w h)) hown hK.1 hP 0 rfl rfl 40 (by decide) (hts _ (gw_mem wfX9_446)) (fun _ h9 => h9) rfl dX9_keepsAll_264 ?_
            refine lv_imul hx hb dX9_keepsAll_267 ?_
            refine lv_iconst (v := 1) hx hb dX9_keepsAll_268 (by decide) ?_
            refine lv_iadd hx hb dX9_keepsAll_269 ?_
            obtain ⟨h56, hf⟩ := og_some hf
            refine va_lald hx hb hK.1 hP 14 1 rfl rfl (okI_in h56) dX9_keepsAll_270 ?_
            refine lv_topl (fun w57 ew57 => ?_)
            replace hf := nm_at hf ew57
            refine va_put (D := (dC, dI)) (ci := 9) (v := .long w57) (ty := .long) (C := RX9) (T := TX9) (N := 45) hx hb hts (fun w h => gw_mem (inX9 w h)) tyX9 tyX9_ok nmX9 hown hK.1 hP hD hS 0 rfl rfl 37 (by decide) (hts _ (gw_mem wfX9_422)) (fun _ h9 => h9) rfl (by decide +kernel) rfl rfl (Nat.le_of_ble_eq_true rfl) dX9_keepsAll_271 (fun H locs hP hD hS => ?_)
            have hP : va_P (dC, dI) vwCl (mW dA ad c_tape c_taped c_tree_3 c_bonds_7 c_moves_11 c_handMoves_12 r16 c_days c_likely c_outOf c_rateNow c_pence c_top c_bottom c_spot c_textLong c_fault c_number c_numberAt c_figures c_written c_wanted c_found c_drawnNow c_worth c_hold c_way c_acts c_sDay c_sUps c_sUp c_sMarks c_paidAll j33 j46 r20 w55 w57 c_aside c_other c_states c_kept_42 c_keptLong_51 c_keptAt_43 p1) H := hP
            have hD : va_D A (mW dA ad c_tape c_taped c_tree_3 c_bonds_7 c_moves_11 c_handMoves_12 r16 c_days c_likely c_outOf c_rateNow c_pence c_top c_bottom c_spot c_textLong c_fault c_number c_numberAt c_figures c_written c_wanted c_found c_drawnNow c_worth c_hold c_way c_acts c_sDay c_sUps c_sUp c_sMarks c_paidAll j33 j46 r20 w55 w57 c_aside c_other c_states c_kept_42 c_keptLong_51 c_keptAt_43 p1) := hD
            cases hf
            exact W.vret hx hb hr (fun t ht _ => gqv hP hD hS ht) hS.2.2 dX9_keepsAll_274
          replace hf := v53
          clear v53
          refine lv_if_eq (tgt := 242) hx hb dX9_keepsAll_207 (by decide) (fun k50 => ?_) (fun k50 => ?_)
          · replace hf := ifp k50 hf
            cases hf
            exact J52 _ _ _ hP hD hS (lv_sub hl [0] rfl)
          · replace hf := ifn k50 hf
            refine lv_aload_n hx hb dX9_keepsAll_210 rfl (lv_at hl 0 rfl) ?_
            refine va_get (D := (dC, dI)) (ci := 9) (v := .ref (ad 14)) (C := RX9) (T := TX9) (N := 45) hx hb hts (fun w h => gw_mem (inX9 w h)) hown hK.1 hP 0 rfl rfl 42 (by decide) (hts _ (gw_mem wfX9_51)) (fun _ h9 => h9) rfl dX9_keepsAll_211 ?_
            refine lv_iconst (v := 2) hx hb dX9_keepsAll_214 (by decide) ?_
            refine lv_aload_n hx hb dX9_keepsAll_215 rfl (lv_at hl 0 rfl) ?_
            refine va_get (D := (dC, dI)) (ci := 9) (v := .int c_states) (C := RX9) (T := TX9) (N := 45) hx hb hts (fun w h => gw_mem (inX9 w h)) hown hK.1 hP 0 rfl rfl 40 (by decide) (hts _ (gw_mem wfX9_446)) (fun _ h9 => h9) rfl dX9_keepsAll_216 ?_
            refine lv_imul hx hb dX9_keepsAll_219 ?_
            refine lv_aload_n hx hb dX9_keepsAll_220 rfl (lv_at hl 0 rfl) ?_
            refine va_get (D := (dC, dI)) (ci := 9) (v := .long c_handPaid) (C := RX9) (T := TX9) (N := 45) hx hb hts (fun w h => gw_mem (inX9 w h)) hown hK.1 hP 0 rfl rfl 36 (by decide) (hts _ (gw_mem wfX9_419)) (fun _ h9 => h9) rfl dX9_keepsAll_221 ?_
            obtain ⟨h58, hf⟩ := og_some hf
            obtain ⟨w59, ew59⟩ : ∃ y : Nat → Int64, y = vp_updL c_keptLong (Int32.toNatClampNeg (2 * c_states)) c_handPaid := ⟨_, rfl⟩
            replace hf := nm_at hf ew59
            refine va_last hx hb hK.1 hP hD hS 14 1 rfl rfl (okI_in h58) dX9_keepsAll_224 (fun H locs hP hD hS => ?_)
            have hP : va_P (dC, dI) vwCl (mW dA ad c_tape c_taped c_tree_3 c_bonds_7 c_moves_11 c_handMoves_12 r16 c_days c_likely c_outOf c_rateNow c_pence c_top c_bottom c_spot c_textLong c_fault c_number c_numberAt c_figures c_written c_wanted c_found c_drawnNow c_worth c_hold c_way c_acts c_sDay c_sUps c_sUp c_sMarks c_paidAll j33 j46 r20 c_handPaid c_regret c_aside c_other c_states c_kept_42 w59 c_keptAt_43 p1) H := by rw [ew59]; exact hP
            have hD : va_D A (mW dA ad c_tape c_taped c_tree_3 c_bonds_7 c_moves_11 c_handMoves_12 r16 c_days c_likely c_outOf c_rateNow c_pence c_top c_bottom c_spot c_textLong c_fault c_number c_numberAt c_figures c_written c_wanted c_found c_drawnNow c_worth c_hold c_way c_acts c_sDay c_sUps c_sUp c_sMarks c_paidAll j33 j46 r20 c_handPaid c_regret c_aside c_other c_states c_kept_42 w59 c_keptAt_43 p1) := by rw [ew59]; exact hD
            refine lv_aload_n hx hb dX9_keepsAll_225 rfl (lv_at hl 0 rfl) ?_
            refine va_get (D := (dC, dI)) (ci := 9) (v := .ref (ad 14)) (C := RX9) (T := TX9) (N := 45) hx hb hts (fun w h => gw_mem (inX9 w h)) hown hK.1 hP 0 rfl rfl 42 (by decide) (hts _ (gw_mem wfX9_51)) (fun _ h9 => h9) rfl dX9_keepsAll_226 ?_
            refine lv_iconst (v := 2) hx hb dX9_keepsAll_229 (by decide) ?_
            refine lv_aload_n hx hb dX9_keepsAll_230 rfl (lv_at hl 0 rfl) ?_
            refine va_get (D := (dC, dI)) (ci := 9) (v := .int c_states) (C := RX9) (T := TX9) (N := 45) hx hb hts (fun w h => gw_mem (inX9 w h)) hown hK.1 hP 0 rfl rfl 40 (by decide) (hts _ (gw_mem wfX9_446)) (fun _ h9 => h9) rfl dX9_keepsAll_231 ?_
            refine lv_imul hx hb dX9_keepsAll_234 ?_
            refine lv_iconst (v := 1) hx hb dX9_keepsAll_235 (by decide) ?_
            refine lv_iadd hx hb dX9_keepsAll_236 ?_
            refine lv_aload_n hx hb dX9_keepsAll_237 rfl (lv_at hl 0 rfl) ?_
            refine va_get (D := (dC, dI)) (ci := 9) (v := .long c_regret) (C := RX9) (T := TX9) (N := 45) hx hb hts (fun w h => gw_mem (inX9 w h)) hown hK.1 hP 0 rfl rfl 37 (by decide) (hts _ (gw_mem wfX9_422)) (fun _ h9 => h9) rfl dX9_keepsAll_238 ?_
            obtain ⟨h60, hf⟩ := og_some hf
            obtain ⟨w61, ew61⟩ : ∃ y : Nat → Int64, y = vp_updL w59 (Int32.toNatClampNeg ((2 * c_states) + 1)) c_regret := ⟨_, rfl⟩
            replace hf := nm_at hf ew61
            refine va_last hx hb hK.1 hP hD hS 14 1 rfl rfl (okI_in h60) dX9_keepsAll_241 (fun H locs hP hD hS => ?_)
            have hP : va_P (dC, dI) vwCl (mW dA ad c_tape c_taped c_tree_3 c_bonds_7 c_moves_11 c_handMoves_12 r16 c_days c_likely c_outOf c_rateNow c_pence c_top c_bottom c_spot c_textLong c_fault c_number c_numberAt c_figures c_written c_wanted c_found c_drawnNow c_worth c_hold c_way c_acts c_sDay c_sUps c_sUp c_sMarks c_paidAll j33 j46 r20 c_handPaid c_regret c_aside c_other c_states c_kept_42 w61 c_keptAt_43 p1) H := by rw [ew61]; exact hP
            have hD : va_D A (mW dA ad c_tape c_taped c_tree_3 c_bonds_7 c_moves_11 c_handMoves_12 r16 c_days c_likely c_outOf c_rateNow c_pence c_top c_bottom c_spot c_textLong c_fault c_number c_numberAt c_figures c_written c_wanted c_found c_drawnNow c_worth c_hold c_way c_acts c_sDay c_sUps c_sUp c_sMarks c_paidAll j33 j46 r20 c_handPaid c_regret c_aside c_other c_states c_kept_42 w61 c_keptAt_43 p1) := by rw [ew61]; exact hD
            cases hf
            exact J52 _ _ _ hP hD hS (lv_sub hl [0] rfl)
        replace hf := v48
        clear v48
        refine lv_icmp_ne (tgt := 202) hx hb dX9_keepsAll_195 (by decide) (fun k45 => ?_) (fun k45 => ?_)
        · replace hf := ifn k45 hf
          refine lv_iconst (v := 0) hx hb dX9_keepsAll_202 (by decide) ?_
          cases hf
          exact J47 _ _ _ hP hD hS (lv_sub hl [0, 1] rfl)
        · replace hf := ifp k45 hf
          refine lv_iconst (v := 1) hx hb dX9_keepsAll_198 (by decide) ?_
          refine lv_goto (tgt := 203) hx hb dX9_keepsAll_199 (by decide) ?_
          cases hf
          exact J47 _ _ _ hP hD hS (lv_sub hl [0, 1] rfl)
      replace hf := v40
      clear v40
      refine lv_if_eq (tgt := 190) hx hb dX9_keepsAll_183 (by decide) (fun k37 => ?_) (fun k37 => ?_)
      · replace hf := ifp k37 hf
        refine lv_iconst (v := 0) hx hb dX9_keepsAll_190 (by decide) ?_
        cases hf
        exact J39 _ _ _ hP hD hS (lv_sub hl [0, 1] rfl)
      · replace hf := ifn k37 hf
        refine lv_iconst (v := 1) hx hb dX9_keepsAll_186 (by decide) ?_
        refine lv_goto (tgt := 191) hx hb dX9_keepsAll_187 (by decide) ?_
        cases hf
        exact J39 _ _ _ hP hD hS (lv_sub hl [0, 1] rfl)
    replace hf := v35
    clear v35
    refine lv_icmp_ne (tgt := 173) hx hb dX9_keepsAll_166 (by decide) (fun k32 => ?_) (fun k32 => ?_)
    · replace hf := ifn k32 hf
      refine lv_iconst (v := 0) hx hb dX9_keepsAll_173 (by decide) ?_
      cases hf
      exact J34 _ _ _ hP hD hS (lv_sub hl [0, 1] rfl)
    · replace hf := ifp k32 hf
      refine lv_iconst (v := 1) hx hb dX9_keepsAll_169 (by decide) ?_
      refine lv_goto (tgt := 174) hx hb dX9_keepsAll_170 (by decide) ?_
      cases hf
      exact J34 _ _ _ hP hD hS (lv_sub hl [0, 1] rfl)
  replace hf := v27
  clear v27
  refine lv_if_eq (tgt := 161) hx hb dX9_keepsAll_154 (by decide) (fun k24 => ?_) (fun k24 => ?_)
  · replace hf := ifp k24 hf
    refine lv_iconst (v := 0) hx hb dX9_keepsAll_161 (by decide) ?_
    cases hf
    exact J26 _ _ _ hP hD hS (lv_sub hl [0, 1] rfl)
  · replace hf := ifn k24 hf
    refine lv_iconst (v := 1) hx hb dX9_keepsAll_157 (by decide) ?_
    refine lv_goto (tgt := 162) hx hb dX9_keepsAll_158 (by decide) ?_
    cases hf
    exact J26 _ _ _ hP hD hS (lv_sub hl [0, 1] rfl)
abbrev rmX9_count : Room := { frames := 1, cells := 0, slots := 0, locals := 25 }
set_option maxHeartbeats 4000000 in
set_option maxRecDepth 100000 in
theorem tX9_count (l : Launch) (dC : Nat → ClassId) (dI : Nat → Nat → Nat) (dA : Nat → ClassId) (ad : Nat → Nat) (sz : Nat) {p1 : Int32} {c_tape : Nat → Int32} {c_taped : Int32} {c_tree : Nat → Int32} {c_bonds : Nat → Int32} {c_moves : Nat → Int32} {c_handMoves : Nat → Int32} {c_moved : Int32} {c_days : Int32} {c_likely : Int32} {c_outOf : Int32} {c_rateNow : Int32} {c_pence : Nat → Int64} {c_top : Int64} {c_bottom : Int64} {c_spot : Int32} {c_textLong : Int32} {c_fault : Int32} {c_number : Int32} {c_numberAt : Int32} {c_figures : Int32} {c_written : Int32} {c_wanted : Int32} {c_found : Int32} {c_drawnNow : Int32} {c_worth : Nat → Int64} {c_hold : Nat → Int64} {c_way : Nat → Int64} {c_acts : Nat → Int32} {c_sDay : Int32} {c_sUps : Int32} {c_sUp : Int32} {c_sMarks : Int32} {c_paidAll : Int64} {c_isPlayed : Int32} {c_isOn : Int32} {c_handMoved : Int32} {c_handPaid : Int64} {c_regret : Int64} {c_aside : Nat → Int32} {c_other : Nat → Int64} {c_states : Int32} {c_kept : Nat → Int32} {c_keptLong : Nat → Int64} {c_keptAt : Int32} {c_isTaking : Int32} {r : Int32} (hf : fX9_count p1 c_taped c_tree c_states = some (r)) : Met l yX9_count (wq (Cond.code yX9_count cX9_count 2 (some .int))) rmX9_count (gP [.ref (ad 0), .int p1] (dC, dI) dA (mW dA ad c_tape c_taped c_tree c_bonds c_moves c_handMoves c_moved c_days c_likely c_outOf c_rateNow c_pence c_top c_bottom c_spot c_textLong c_fault c_number c_numberAt c_figures c_written c_wanted c_found c_drawnNow c_worth c_hold c_way c_acts c_sDay c_sUps c_sUp c_sMarks c_paidAll c_isPlayed c_isOn c_handMoved c_handPaid c_regret c_aside c_other c_states c_kept c_keptLong c_keptAt c_isTaking) sz) (gQi (dC, dI) r (mW dA ad c_tape c_taped c_tree c_bonds c_moves c_handMoves c_moved c_days c_likely c_outOf c_rateNow c_pence c_top c_bottom c_spot c_textLong c_fault c_number c_numberAt c_figures c_written c_wanted c_found c_drawnNow c_worth c_hold c_way c_acts c_sDay c_sUps c_sUp c_sMarks c_paidAll c_isPlayed c_isOn c_handMoved c_handPaid c_regret c_aside c_other c_states c_kept c_keptLong c_keptAt c_isTaking) (va_A (mW dA ad c_tape c_taped c_tree c_bonds c_moves c_handMoves c_moved c_days c_likely c_outOf c_rateNow c_pence c_top c_bottom c_spot c_textLong c_fault c_number c_numberAt c_figures c_written c_wanted c_found c_drawnNow c_worth c_hold c_way c_acts c_sDay c_sUps c_sUp c_sMarks c_paidAll c_isPlayed c_isOn c_handMoved c_handPaid c_regret c_aside c_other c_states c_kept c_keptLong c_keptAt c_isTaking) sz)) 0 0 (va_A (mW dA ad c_tape c_taped c_tree c_bonds c_moves c_handMoves c_moved c_days c_likely c_outOf c_rateNow c_pence c_top c_bottom c_spot c_textLong c_fault c_number c_numberAt c_figures c_written c_wanted c_found c_drawnNow c_worth c_hold c_way c_acts c_sDay c_sUps c_sUp c_sMarks c_paidAll c_isPlayed c_isOn c_handMoved c_handPaid c_regret c_aside c_other c_states c_kept c_keptLong c_keptAt c_isTaking) sz) := by
  refine Met.ofW (cc := cX9_count) (maxL := 2) (ret := (some .int)) (by decide) rfl ?_
  intro p e s m args below meth c s₁ B hml hv
  obtain ⟨rfl, hsz, hP, hK, hD0⟩ := hv
  have hx := B.exec
  have hb := B.bytes
  have hr := B.returns
  have hts := atoms_spec (ws := wq (Cond.code yX9_count cX9_count 2 (some .int))) B.pre
  have hown : s.vm.findClass RX9 = some m.cls := findClass_of_methodNamed B.named
  have hlocks := B.notSynchronized
  clear B
  subst hsz
  have hD := hD0.self (sz := s.heap.size)
  generalize hAe : va_A (mW dA ad c_tape c_taped c_tree c_bonds c_moves c_handMoves c_moved c_days c_likely c_outOf c_rateNow c_pence c_top c_bottom c_spot c_textLong c_fault c_number c_numberAt c_figures c_written c_wanted c_found c_drawnNow c_worth c_hold c_way c_acts c_sDay c_sUps c_sUp c_sMarks c_paidAll c_isPlayed c_isOn c_handMoved c_handPaid c_regret c_aside c_other c_states c_kept c_keptLong c_keptAt c_isTaking) s.heap.size = A at hD ⊢
  have hA : ∀ q : Nat, s.heap.size ≤ q → A q := fun q h => by rw [← hAe]; exact Or.inr h
  clear hAe hD0
  have hS : va_S A s.heap s.heap [] := va_S.rf
  have hl := lv_entry ([.ref (ad 0), .int p1]) (n := 2) (Nat.le_of_ble_eq_true rfl)
  rw [lg_entry_eq]
  generalize (lg_sl ([.ref (ad 0), .int p1]) ++ List.replicate (2 - (lg_sl ([.ref (ad 0), .int p1])).length) Slot.unset).toArray = ls at hl ⊢
  have hl : lv_has ls 2 [(0, .ref (ad 0)), (1, .int p1)] := hl
  change W p l e rmX9_count s m ([.ref (ad 0), .int p1] : List Value).toArray below meth c s.heap [] 0 0 _ _
  unfold fX9_count at hf
  refine lv_iload_n hx hb dX9_count_0 rfl (lv_at hl 1 rfl) ?_
  refine lv_i2l hx hb dX9_count_1 rfl ?_
  refine lv_lconst (v := 0) hx hb dX9_count_2 rfl ?_
  refine lv_ldc2 (v := 8) hx hb hown (hts _ (gw_mem wkX9_452)) dX9_count_3 ?_
  obtain ⟨r1, v2, hf⟩ := bd1_some hf
  refine gci0 (va_runS (As := [.long (Int32.toInt64 p1), .long 0, .long 8]) (rest := []) ⟨hx, hb, hml, hown, hts⟩ (tX9_in l dC dI dA s.heap.size v2) (ccX9_X9_in hts ⟨Nat.le_of_ble_eq_true rfl, Nat.le_of_ble_eq_true rfl⟩) (gPreS0 hK) rfl rfl hl.1 rfl (lv_room (Nat.le_of_ble_eq_true rfl)) dX9_count_6 ⟨Nat.le_of_ble_eq_true rfl, Nat.le_of_ble_eq_true rfl⟩) hP hS hA (fun H locs hP hS => ?_)
  refine lv_if_eq (tgt := 19) hx hb dX9_count_9 (by decide) (fun k3 => ?_) (fun k3 => ?_)
  · replace hf := ifp k3 hf
    refine lv_iload_n hx hb dX9_count_19 rfl (lv_at hl 1 rfl) ?_
    refine lv_bipush (v := 9) hx hb dX9_count_20 (by decide) ?_
    obtain ⟨j5, v7, hf⟩ := bd1_some hf
    have J6 : ∀ (H : Heap) (locs : List Loc) (ls : Array Slot), va_P (dC, dI) vwCl (mW dA ad c_tape c_taped c_tree c_bonds c_moves c_handMoves c_moved c_days c_likely c_outOf c_rateNow c_pence c_top c_bottom c_spot c_textLong c_fault c_number c_numberAt c_figures c_written c_wanted c_found c_drawnNow c_worth c_hold c_way c_acts c_sDay c_sUps c_sUp c_sMarks c_paidAll c_isPlayed c_isOn c_handMoved c_handPaid c_regret c_aside c_other c_states c_kept c_keptLong c_keptAt c_isTaking) H → va_D A (mW dA ad c_tape c_taped c_tree c_bonds c_moves c_handMoves c_moved c_days c_likely c_outOf c_rateNow c_pence c_top c_bottom c_spot c_textLong c_fault c_number c_numberAt c_figures c_written c_wanted c_found c_drawnNow c_worth c_hold c_way c_acts c_sDay c_sUps c_sUp c_sMarks c_paidAll c_isPlayed c_isOn c_handMoved c_handPaid c_regret c_aside c_other c_states c_kept c_keptLong c_keptAt c_isTaking) → va_S A s.heap H locs → lv_has ls 2 [] → W p l e rmX9_count s m ([.ref (ad 0), .int p1] : List Value).toArray below meth c H locs 0 0 (MQ below (gQi (dC, dI) r (mW dA ad c_tape c_taped c_tree c_bonds c_moves c_handMoves c_moved c_days c_likely c_outOf c_rateNow c_pence c_top c_bottom c_spot c_textLong c_fault c_number c_numberAt c_figures c_written c_wanted c_found c_drawnNow c_worth c_hold c_way c_acts c_sDay c_sUps c_sUp c_sMarks c_paidAll c_isPlayed c_isOn c_handMoved c_handPaid c_regret c_aside c_other c_states c_kept c_keptLong c_keptAt c_isTaking) A) ([.ref (ad 0), .int p1] : List Value).toArray s 0 0 A) (F0 m 46 ls [.int j5]) := by
      intro H locs ls hP hD hS hl
      cases hf
      exact W.iret hx hb hr (fun t ht _ => gqi hP hD hS ht) hS.2.2 dX9_count_46
    replace hf := v7
    clear v7
    refine lv_icmp_ne (tgt := 32) hx hb dX9_count_22 (by decide) (fun k4 => ?_) (fun k4 => ?_)
    · replace hf := ifn k4 hf
      refine lv_iload_n hx hb dX9_count_32 rfl (lv_at hl 1 rfl) ?_
      refine lv_bipush (v := 10) hx hb dX9_count_33 (by decide) ?_
      refine lv_icmp_ne (tgt := 45) hx hb dX9_count_35 (by decide) (fun k8 => ?_) (fun k8 => ?_)
      · replace hf := ifn k8 hf
        refine lv_iconst (v := (-1)) hx hb dX9_count_45 (by decide) ?_
        cases hf
        exact J6 _ _ _ hP hD hS (lv_sub hl [] rfl)
      · replace hf := ifp k8 hf
        refine lv_aload_n hx hb dX9_count_38 rfl (lv_at hl 0 rfl) ?_
        refine va_get (D := (dC, dI)) (ci := 9) (v := .int c_states) (C := RX9) (T := TX9) (N := 45) hx hb hts (fun w h => gw_mem (inX9 w h)) hown hK.1 hP 0 rfl rfl 40 (by decide) (hts _ (gw_mem wfX9_446)) (fun _ h9 => h9) rfl dX9_count_39 ?_
        refine lv_goto (tgt := 46) hx hb dX9_count_42 (by decide) ?_
        cases hf
        exact J6 _ _ _ hP hD hS (lv_sub hl [] rfl)
    · replace hf := ifp k4 hf
      refine lv_aload_n hx hb dX9_count_25 rfl (lv_at hl 0 rfl) ?_
      refine va_get (D := (dC, dI)) (ci := 9) (v := .int c_taped) (C := RX9) (T := TX9) (N := 45) hx hb hts (fun w h => gw_mem (inX9 w h)) hown hK.1 hP 0 rfl rfl 1 (by decide) (hts _ (gw_mem wfX9_64)) (fun _ h9 => h9) rfl dX9_count_26 ?_
      refine lv_goto (tgt := 46) hx hb dX9_count_29 (by decide) ?_
      cases hf
      exact J6 _ _ _ hP hD hS (lv_sub hl [] rfl)
  · replace hf := ifn k3 hf
    refine lv_aload_n hx hb dX9_count_12 rfl (lv_at hl 0 rfl) ?_
    refine va_get (D := (dC, dI)) (ci := 9) (v := .ref (ad 2)) (C := RX9) (T := TX9) (N := 45) hx hb hts (fun w h => gw_mem (inX9 w h)) hown hK.1 hP 0 rfl rfl 2 (by decide) (hts _ (gw_mem wfX9_13)) (fun _ h9 => h9) rfl dX9_count_13 ?_
    refine lv_iload_n hx hb dX9_count_16 rfl (lv_at hl 1 rfl) ?_
    obtain ⟨h9, hf⟩ := og_some hf
    refine va_iald hx hb hK.1 hP 2 0 rfl rfl (okI_in h9) dX9_count_17 ?_
    cases hf
    exact W.iret hx hb hr (fun t ht _ => gqi hP hD hS ht) hS.2.2 dX9_count_18
end
section
theorem ccX9_X9_keepsAll {R : Room} {s : State} {args : Array Value} {c0 : Cond} (ht : ∀ w ∈ wq c0, w.before args s = true) (hR : rmX9_keepsAll.frames + 1 ≤ R.frames ∧ 8 + (3 + 11) + rmX9_keepsAll.locals ≤ R.locals) : CallW R s args RX9 RX9 454 yX9_keepsAll cX9_keepsAll 3 none (wq (.code yX9_keepsAll cX9_keepsAll 3 none)) rmX9_keepsAll 0 0 1 := gCW 1 ht wcX9_keepsAll wmX9_454 wiX9_keepsAll weX9_keepsAll wnX9 (by decide +kernel) rfl rfl hR
abbrev rmX9_keep : Room := { frames := 2, cells := 0, slots := 0, locals := 43 }
set_option maxHeartbeats 4000000 in
set_option maxRecDepth 100000 in
theorem tX9_keep (l : Launch) (dC : Nat → ClassId) (dI : Nat → Nat → Nat) (dA : Nat → ClassId) (ad : Nat → Nat) (sz : Nat) {c_tape : Nat → Int32} {c_taped : Int32} {c_tree : Nat → Int32} {c_bonds : Nat → Int32} {c_moves : Nat → Int32} {c_handMoves : Nat → Int32} {c_moved : Int32} {c_days : Int32} {c_likely : Int32} {c_outOf : Int32} {c_rateNow : Int32} {c_pence : Nat → Int64} {c_top : Int64} {c_bottom : Int64} {c_spot : Int32} {c_textLong : Int32} {c_fault : Int32} {c_number : Int32} {c_numberAt : Int32} {c_figures : Int32} {c_written : Int32} {c_wanted : Int32} {c_found : Int32} {c_drawnNow : Int32} {c_worth : Nat → Int64} {c_hold : Nat → Int64} {c_way : Nat → Int64} {c_acts : Nat → Int32} {c_sDay : Int32} {c_sUps : Int32} {c_sUp : Int32} {c_sMarks : Int32} {c_paidAll : Int64} {c_isPlayed : Int32} {c_isOn : Int32} {c_handMoved : Int32} {c_handPaid : Int64} {c_regret : Int64} {c_aside : Nat → Int32} {c_other : Nat → Int64} {c_states : Int32} {c_kept : Nat → Int32} {c_keptLong : Nat → Int64} {c_keptAt : Int32} {c_isTaking : Int32} {r : Int32} {o_c_tree : Nat → Int32} {o_c_bonds : Nat → Int32} {o_c_moves : Nat → Int32} {o_c_handMoves : Nat → Int32} {o_c_moved : Int32} {o_c_isPlayed : Int32} {o_c_isOn : Int32} {o_c_handMoved : Int32} {o_c_handPaid : Int64} {o_c_regret : Int64} {o_c_states : Int32} {o_c_kept : Nat → Int32} {o_c_keptLong : Nat → Int64} {o_c_keptAt : Int32} {o_c_isTaking : Int32} (hf : fX9_keep c_tree c_bonds c_moves c_handMoves c_moved c_isPlayed c_isOn c_handMoved c_handPaid c_regret c_states c_kept c_keptLong c_keptAt c_isTaking = some (r, o_c_tree, o_c_bonds, o_c_moves, o_c_handMoves, o_c_moved, o_c_isPlayed, o_c_isOn, o_c_handMoved, o_c_handPaid, o_c_regret, o_c_states, o_c_kept, o_c_keptLong, o_c_keptAt, o_c_isTaking)) : Met l yX9_keep (wq (Cond.code yX9_keep cX9_keep 1 (some .int))) rmX9_keep (gP [.ref (ad 0)] (dC, dI) dA (mW dA ad c_tape c_taped c_tree c_bonds c_moves c_handMoves c_moved c_days c_likely c_outOf c_rateNow c_pence c_top c_bottom c_spot c_textLong c_fault c_number c_numberAt c_figures c_written c_wanted c_found c_drawnNow c_worth c_hold c_way c_acts c_sDay c_sUps c_sUp c_sMarks c_paidAll c_isPlayed c_isOn c_handMoved c_handPaid c_regret c_aside c_other c_states c_kept c_keptLong c_keptAt c_isTaking) sz) (gQi (dC, dI) r (mW dA ad c_tape c_taped o_c_tree o_c_bonds o_c_moves o_c_handMoves o_c_moved c_days c_likely c_outOf c_rateNow c_pence c_top c_bottom c_spot c_textLong c_fault c_number c_numberAt c_figures c_written c_wanted c_found c_drawnNow c_worth c_hold c_way c_acts c_sDay c_sUps c_sUp c_sMarks c_paidAll o_c_isPlayed o_c_isOn o_c_handMoved o_c_handPaid o_c_regret c_aside c_other o_c_states o_c_kept o_c_keptLong o_c_keptAt o_c_isTaking) (va_A (mW dA ad c_tape c_taped c_tree c_bonds c_moves c_handMoves c_moved c_days c_likely c_outOf c_rateNow c_pence c_top c_bottom c_spot c_textLong c_fault c_number c_numberAt c_figures c_written c_wanted c_found c_drawnNow c_worth c_hold c_way c_acts c_sDay c_sUps c_sUp c_sMarks c_paidAll c_isPlayed c_isOn c_handMoved c_handPaid c_regret c_aside c_other c_states c_kept c_keptLong c_keptAt c_isTaking) sz)) 0 0 (va_A (mW dA ad c_tape c_taped c_tree c_bonds c_moves c_handMoves c_moved c_days c_likely c_outOf c_rateNow c_pence c_top c_bottom c_spot c_textLong c_fault c_number c_numberAt c_figures c_written c_wanted c_found c_drawnNow c_worth c_hold c_way c_acts c_sDay c_sUps c_sUp c_sMarks c_paidAll c_isPlayed c_isOn c_handMoved c_handPaid c_regret c_aside c_other c_states c_kept c_keptLong c_keptAt c_isTaking) sz) := by
  refine Met.ofW (cc := cX9_keep) (maxL := 1) (ret := (some .int)) (by decide) rfl ?_
  intro p e s m args below meth c s₁ B hml hv
  obtain ⟨rfl, hsz, hP, hK, hD0⟩ := hv
  have hx := B.exec
  have hb := B.bytes
  have hr := B.returns
  have hts := atoms_spec (ws := wq (Cond.code yX9_keep cX9_keep 1 (some .int))) B.pre
  have hown : s.vm.findClass RX9 = some m.cls := findClass_of_methodNamed B.named
  have hlocks := B.notSynchronized
  clear B
  subst hsz
  have hD := hD0.self (sz := s.heap.size)
  generalize hAe : va_A (mW dA ad c_tape c_taped c_tree c_bonds c_moves c_handMoves c_moved c_days c_likely c_outOf c_rateNow c_pence c_top c_bottom c_spot c_textLong c_fault c_number c_numberAt c_figures c_written c_wanted c_found c_drawnNow c_worth c_hold c_way c_acts c_sDay c_sUps c_sUp c_sMarks c_paidAll c_isPlayed c_isOn c_handMoved c_handPaid c_regret c_aside c_other c_states c_kept c_keptLong c_keptAt c_isTaking) s.heap.size = A at hD ⊢
  have hA : ∀ q : Nat, s.heap.size ≤ q → A q := fun q h => by rw [← hAe]; exact Or.inr h
  clear hAe hD0
  have hS : va_S A s.heap s.heap [] := va_S.rf
  have hl := lv_entry ([.ref (ad 0)]) (n := 1) (Nat.le_of_ble_eq_true rfl)
  rw [lg_entry_eq]
  generalize (lg_sl ([.ref (ad 0)]) ++ List.replicate (1 - (lg_sl ([.ref (ad 0)])).length) Slot.unset).toArray = ls at hl ⊢
  have hl : lv_has ls 1 [(0, .ref (ad 0))] := hl
  change W p l e rmX9_keep s m ([.ref (ad 0)] : List Value).toArray below meth c s.heap [] 0 0 _ _
  unfold fX9_keep at hf
  refine lv_aload_n hx hb dX9_keep_0 rfl (lv_at hl 0 rfl) ?_
  refine va_get (D := (dC, dI)) (ci := 9) (v := .int c_states) (C := RX9) (T := TX9) (N := 45) hx hb hts (fun w h => gw_mem (inX9 w h)) hown hK.1 hP 0 rfl rfl 40 (by decide) (hts _ (gw_mem wfX9_446)) (fun _ h9 => h9) rfl dX9_keep_1 ?_
  refine lv_bipush (v := 8) hx hb dX9_keep_4 (by decide) ?_
  refine lv_icmp_ne (tgt := 11) hx hb dX9_keep_6 (by decide) (fun k1 => ?_) (fun k1 => ?_)
  · replace hf := ifn k1 hf
    refine lv_aload_n hx hb dX9_keep_11 rfl (lv_at hl 0 rfl) ?_
    refine lv_iconst (v := 1) hx hb dX9_keep_12 (by decide) ?_
    obtain ⟨c_tree_2, c_bonds_3, c_moves_4, c_handMoves_5, c_moved_6, c_isPlayed_7, c_isOn_8, c_handMoved_9, c_handPaid_10, c_regret_11, c_kept_12, c_keptLong_13, c_keptAt_14, c_isTaking_15, v16, hf⟩ := bd14_some hf
    refine gcv (va_runV (As := [.int 1]) (rest := []) ⟨hx, hb, hml, hown, hts⟩ (tX9_keepsAll l dC dI dA ad s.heap.size v16) (ccX9_X9_keepsAll hts ⟨Nat.le_of_ble_eq_true rfl, Nat.le_of_ble_eq_true rfl⟩) (gPreV (ci := 9) (q0 := 0) hP hK hD rfl rfl) rfl rfl hl.1 rfl (lv_room (Nat.le_of_ble_eq_true rfl)) dX9_keep_13 ⟨Nat.le_of_ble_eq_true rfl, Nat.le_of_ble_eq_true rfl⟩) hD hS hA (fun H locs hP hD hS => ?_)
    refine lv_aload_n hx hb dX9_keep_16 rfl (lv_at hl 0 rfl) ?_
    refine lv_aload_n hx hb dX9_keep_17 rfl (lv_at hl 0 rfl) ?_
    refine va_get (D := (dC, dI)) (ci := 9) (v := .int c_states) (C := RX9) (T := TX9) (N := 45) hx hb hts (fun w h => gw_mem (inX9 w h)) hown hK.1 hP 0 rfl rfl 40 (by decide) (hts _ (gw_mem wfX9_446)) (fun _ h9 => h9) rfl dX9_keep_18 ?_
    refine lv_iconst (v := 1) hx hb dX9_keep_21 (by decide) ?_
    refine lv_iadd hx hb dX9_keep_22 ?_
    refine lv_topi (fun w17 ew17 => ?_)
    replace hf := nm_at hf ew17
    refine va_put (D := (dC, dI)) (ci := 9) (v := .int w17) (ty := .int) (C := RX9) (T := TX9) (N := 45) hx hb hts (fun w h => gw_mem (inX9 w h)) tyX9 tyX9_ok nmX9 hown hK.1 hP hD hS 0 rfl rfl 40 (by decide) (hts _ (gw_mem wfX9_446)) (fun _ h9 => h9) rfl (by decide +kernel) rfl rfl (Nat.le_of_ble_eq_true rfl) dX9_keep_23 (fun H locs hP hD hS => ?_)
    have hP : va_P (dC, dI) vwCl (mW dA ad c_tape c_taped c_tree_2 c_bonds_3 c_moves_4 c_handMoves_5 c_moved_6 c_days c_likely c_outOf c_rateNow c_pence c_top c_bottom c_spot c_textLong c_fault c_number c_numberAt c_figures c_written c_wanted c_found c_drawnNow c_worth c_hold c_way c_acts c_sDay c_sUps c_sUp c_sMarks c_paidAll c_isPlayed_7 c_isOn_8 c_handMoved_9 c_handPaid_10 c_regret_11 c_aside c_other w17 c_kept_12 c_keptLong_13 c_keptAt_14 c_isTaking_15) H := hP
    have hD : va_D A (mW dA ad c_tape c_taped c_tree_2 c_bonds_3 c_moves_4 c_handMoves_5 c_moved_6 c_days c_likely c_outOf c_rateNow c_pence c_top c_bottom c_spot c_textLong c_fault c_number c_numberAt c_figures c_written c_wanted c_found c_drawnNow c_worth c_hold c_way c_acts c_sDay c_sUps c_sUp c_sMarks c_paidAll c_isPlayed_7 c_isOn_8 c_handMoved_9 c_handPaid_10 c_regret_11 c_aside c_other w17 c_kept_12 c_keptLong_13 c_keptAt_14 c_isTaking_15) := hD
    refine lv_aload_n hx hb dX9_keep_26 rfl (lv_at hl 0 rfl) ?_
    refine va_get (D := (dC, dI)) (ci := 9) (v := .int w17) (C := RX9) (T := TX9) (N := 45) hx hb hts (fun w h => gw_mem (inX9 w h)) hown hK.1 hP 0 rfl rfl 40 (by decide) (hts _ (gw_mem wfX9_446)) (fun _ h9 => h9) rfl dX9_keep_27 ?_
    cases hf
    exact W.iret hx hb hr (fun t ht _ => gqi hP hD hS ht) hS.2.2 dX9_keep_30
  · replace hf := ifp k1 hf
    refine lv_iconst (v := (-1)) hx hb dX9_keep_9 (by decide) ?_
    cases hf
    exact W.iret hx hb hr (fun t ht _ => gqi hP hD hS ht) hS.2.2 dX9_keep_10
abbrev rmX9_undo : Room := { frames := 2, cells := 0, slots := 0, locals := 43 }
set_option maxHeartbeats 4000000 in
set_option maxRecDepth 100000 in
theorem tX9_undo (l : Launch) (dC : Nat → ClassId) (dI : Nat → Nat → Nat) (dA : Nat → ClassId) (ad : Nat → Nat) (sz : Nat) {c_tape : Nat → Int32} {c_taped : Int32} {c_tree : Nat → Int32} {c_bonds : Nat → Int32} {c_moves : Nat → Int32} {c_handMoves : Nat → Int32} {c_moved : Int32} {c_days : Int32} {c_likely : Int32} {c_outOf : Int32} {c_rateNow : Int32} {c_pence : Nat → Int64} {c_top : Int64} {c_bottom : Int64} {c_spot : Int32} {c_textLong : Int32} {c_fault : Int32} {c_number : Int32} {c_numberAt : Int32} {c_figures : Int32} {c_written : Int32} {c_wanted : Int32} {c_found : Int32} {c_drawnNow : Int32} {c_worth : Nat → Int64} {c_hold : Nat → Int64} {c_way : Nat → Int64} {c_acts : Nat → Int32} {c_sDay : Int32} {c_sUps : Int32} {c_sUp : Int32} {c_sMarks : Int32} {c_paidAll : Int64} {c_isPlayed : Int32} {c_isOn : Int32} {c_handMoved : Int32} {c_handPaid : Int64} {c_regret : Int64} {c_aside : Nat → Int32} {c_other : Nat → Int64} {c_states : Int32} {c_kept : Nat → Int32} {c_keptLong : Nat → Int64} {c_keptAt : Int32} {c_isTaking : Int32} {r : Int32} {o_c_tree : Nat → Int32} {o_c_bonds : Nat → Int32} {o_c_moves : Nat → Int32} {o_c_handMoves : Nat → Int32} {o_c_moved : Int32} {o_c_isPlayed : Int32} {o_c_isOn : Int32} {o_c_handMoved : Int32} {o_c_handPaid : Int64} {o_c_regret : Int64} {o_c_states : Int32} {o_c_kept : Nat → Int32} {o_c_keptLong : Nat → Int64} {o_c_keptAt : Int32} {o_c_isTaking : Int32} (hf : fX9_undo c_tree c_bonds c_moves c_handMoves c_moved c_isPlayed c_isOn c_handMoved c_handPaid c_regret c_states c_kept c_keptLong c_keptAt c_isTaking = some (r, o_c_tree, o_c_bonds, o_c_moves, o_c_handMoves, o_c_moved, o_c_isPlayed, o_c_isOn, o_c_handMoved, o_c_handPaid, o_c_regret, o_c_states, o_c_kept, o_c_keptLong, o_c_keptAt, o_c_isTaking)) : Met l yX9_undo (wq (Cond.code yX9_undo cX9_undo 1 (some .int))) rmX9_undo (gP [.ref (ad 0)] (dC, dI) dA (mW dA ad c_tape c_taped c_tree c_bonds c_moves c_handMoves c_moved c_days c_likely c_outOf c_rateNow c_pence c_top c_bottom c_spot c_textLong c_fault c_number c_numberAt c_figures c_written c_wanted c_found c_drawnNow c_worth c_hold c_way c_acts c_sDay c_sUps c_sUp c_sMarks c_paidAll c_isPlayed c_isOn c_handMoved c_handPaid c_regret c_aside c_other c_states c_kept c_keptLong c_keptAt c_isTaking) sz) (gQi (dC, dI) r (mW dA ad c_tape c_taped o_c_tree o_c_bonds o_c_moves o_c_handMoves o_c_moved c_days c_likely c_outOf c_rateNow c_pence c_top c_bottom c_spot c_textLong c_fault c_number c_numberAt c_figures c_written c_wanted c_found c_drawnNow c_worth c_hold c_way c_acts c_sDay c_sUps c_sUp c_sMarks c_paidAll o_c_isPlayed o_c_isOn o_c_handMoved o_c_handPaid o_c_regret c_aside c_other o_c_states o_c_kept o_c_keptLong o_c_keptAt o_c_isTaking) (va_A (mW dA ad c_tape c_taped c_tree c_bonds c_moves c_handMoves c_moved c_days c_likely c_outOf c_rateNow c_pence c_top c_bottom c_spot c_textLong c_fault c_number c_numberAt c_figures c_written c_wanted c_found c_drawnNow c_worth c_hold c_way c_acts c_sDay c_sUps c_sUp c_sMarks c_paidAll c_isPlayed c_isOn c_handMoved c_handPaid c_regret c_aside c_other c_states c_kept c_keptLong c_keptAt c_isTaking) sz)) 0 0 (va_A (mW dA ad c_tape c_taped c_tree c_bonds c_moves c_handMoves c_moved c_days c_likely c_outOf c_rateNow c_pence c_top c_bottom c_spot c_textLong c_fault c_number c_numberAt c_figures c_written c_wanted c_found c_drawnNow c_worth c_hold c_way c_acts c_sDay c_sUps c_sUp c_sMarks c_paidAll c_isPlayed c_isOn c_handMoved c_handPaid c_regret c_aside c_other c_states c_kept c_keptLong c_keptAt c_isTaking) sz) := by
  refine Met.ofW (cc := cX9_undo) (maxL := 1) (ret := (some .int)) (by decide) rfl ?_
  intro p e s m args below meth c s₁ B hml hv
  obtain ⟨rfl, hsz, hP, hK, hD0⟩ := hv
  have hx := B.exec
  have hb := B.bytes
  have hr := B.returns
  have hts := atoms_spec (ws := wq (Cond.code yX9_undo cX9_undo 1 (some .int))) B.pre
  have hown : s.vm.findClass RX9 = some m.cls := findClass_of_methodNamed B.named
  have hlocks := B.notSynchronized
  clear B
  subst hsz
  have hD := hD0.self (sz := s.heap.size)
  generalize hAe : va_A (mW dA ad c_tape c_taped c_tree c_bonds c_moves c_handMoves c_moved c_days c_likely c_outOf c_rateNow c_pence c_top c_bottom c_spot c_textLong c_fault c_number c_numberAt c_figures c_written c_wanted c_found c_drawnNow c_worth c_hold c_way c_acts c_sDay c_sUps c_sUp c_sMarks c_paidAll c_isPlayed c_isOn c_handMoved c_handPaid c_regret c_aside c_other c_states c_kept c_keptLong c_keptAt c_isTaking) s.heap.size = A at hD ⊢
  have hA : ∀ q : Nat, s.heap.size ≤ q → A q := fun q h => by rw [← hAe]; exact Or.inr h
  clear hAe hD0
  have hS : va_S A s.heap s.heap [] := va_S.rf
  have hl := lv_entry ([.ref (ad 0)]) (n := 1) (Nat.le_of_ble_eq_true rfl)
  rw [lg_entry_eq]
  generalize (lg_sl ([.ref (ad 0)]) ++ List.replicate (1 - (lg_sl ([.ref (ad 0)])).length) Slot.unset).toArray = ls at hl ⊢
  have hl : lv_has ls 1 [(0, .ref (ad 0))] := hl
  change W p l e rmX9_undo s m ([.ref (ad 0)] : List Value).toArray below meth c s.heap [] 0 0 _ _
  unfold fX9_undo at hf
  refine lv_aload_n hx hb dX9_undo_0 rfl (lv_at hl 0 rfl) ?_
  refine va_get (D := (dC, dI)) (ci := 9) (v := .int c_states) (C := RX9) (T := TX9) (N := 45) hx hb hts (fun w h => gw_mem (inX9 w h)) hown hK.1 hP 0 rfl rfl 40 (by decide) (hts _ (gw_mem wfX9_446)) (fun _ h9 => h9) rfl dX9_undo_1 ?_
  refine lv_if_ne (tgt := 9) hx hb dX9_undo_4 (by decide) (fun k1 => ?_) (fun k1 => ?_)
  · replace hf := ifn k1 hf
    refine lv_aload_n hx hb dX9_undo_9 rfl (lv_at hl 0 rfl) ?_
    refine lv_aload_n hx hb dX9_undo_10 rfl (lv_at hl 0 rfl) ?_
    refine va_get (D := (dC, dI)) (ci := 9) (v := .int c_states) (C := RX9) (T := TX9) (N := 45) hx hb hts (fun w h => gw_mem (inX9 w h)) hown hK.1 hP 0 rfl rfl 40 (by decide) (hts _ (gw_mem wfX9_446)) (fun _ h9 => h9) rfl dX9_undo_11 ?_
    refine lv_iconst (v := 1) hx hb dX9_undo_14 (by decide) ?_
    refine lv_isub hx hb dX9_undo_15 ?_
    refine lv_topi (fun w2 ew2 => ?_)
    replace hf := nm_at hf ew2
    refine va_put (D := (dC, dI)) (ci := 9) (v := .int w2) (ty := .int) (C := RX9) (T := TX9) (N := 45) hx hb hts (fun w h => gw_mem (inX9 w h)) tyX9 tyX9_ok nmX9 hown hK.1 hP hD hS 0 rfl rfl 40 (by decide) (hts _ (gw_mem wfX9_446)) (fun _ h9 => h9) rfl (by decide +kernel) rfl rfl (Nat.le_of_ble_eq_true rfl) dX9_undo_16 (fun H locs hP hD hS => ?_)
    have hP : va_P (dC, dI) vwCl (mW dA ad c_tape c_taped c_tree c_bonds c_moves c_handMoves c_moved c_days c_likely c_outOf c_rateNow c_pence c_top c_bottom c_spot c_textLong c_fault c_number c_numberAt c_figures c_written c_wanted c_found c_drawnNow c_worth c_hold c_way c_acts c_sDay c_sUps c_sUp c_sMarks c_paidAll c_isPlayed c_isOn c_handMoved c_handPaid c_regret c_aside c_other w2 c_kept c_keptLong c_keptAt c_isTaking) H := hP
    have hD : va_D A (mW dA ad c_tape c_taped c_tree c_bonds c_moves c_handMoves c_moved c_days c_likely c_outOf c_rateNow c_pence c_top c_bottom c_spot c_textLong c_fault c_number c_numberAt c_figures c_written c_wanted c_found c_drawnNow c_worth c_hold c_way c_acts c_sDay c_sUps c_sUp c_sMarks c_paidAll c_isPlayed c_isOn c_handMoved c_handPaid c_regret c_aside c_other w2 c_kept c_keptLong c_keptAt c_isTaking) := hD
    refine lv_aload_n hx hb dX9_undo_19 rfl (lv_at hl 0 rfl) ?_
    refine lv_iconst (v := 0) hx hb dX9_undo_20 (by decide) ?_
    obtain ⟨c_tree_3, c_bonds_4, c_moves_5, c_handMoves_6, c_moved_7, c_isPlayed_8, c_isOn_9, c_handMoved_10, c_handPaid_11, c_regret_12, c_kept_13, c_keptLong_14, c_keptAt_15, c_isTaking_16, v17, hf⟩ := bd14_some hf
    refine gcv (va_runV (As := [.int 0]) (rest := []) ⟨hx, hb, hml, hown, hts⟩ (tX9_keepsAll l dC dI dA ad H.size v17) (ccX9_X9_keepsAll hts ⟨Nat.le_of_ble_eq_true rfl, Nat.le_of_ble_eq_true rfl⟩) (gPreV (ci := 9) (q0 := 0) hP hK hD rfl rfl) rfl rfl hl.1 rfl (lv_room (Nat.le_of_ble_eq_true rfl)) dX9_undo_21 ⟨Nat.le_of_ble_eq_true rfl, Nat.le_of_ble_eq_true rfl⟩) hD hS hA (fun H locs hP hD hS => ?_)
    refine lv_aload_n hx hb dX9_undo_24 rfl (lv_at hl 0 rfl) ?_
    refine va_get (D := (dC, dI)) (ci := 9) (v := .int w2) (C := RX9) (T := TX9) (N := 45) hx hb hts (fun w h => gw_mem (inX9 w h)) hown hK.1 hP 0 rfl rfl 40 (by decide) (hts _ (gw_mem wfX9_446)) (fun _ h9 => h9) rfl dX9_undo_25 ?_
    cases hf
    exact W.iret hx hb hr (fun t ht _ => gqi hP hD hS ht) hS.2.2 dX9_undo_28
  · replace hf := ifp k1 hf
    refine lv_iconst (v := (-1)) hx hb dX9_undo_7 (by decide) ?_
    cases hf
    exact W.iret hx hb hr (fun t ht _ => gqi hP hD hS ht) hS.2.2 dX9_undo_8
end
