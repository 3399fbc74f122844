/-! pure: ends along rows, what is paid (own rows) -/
theorem rod8 : ∀ r, r < 128 → 1 ≤ r → ∀ i, i < 7 → i ≤ dR r → fX8_rowOnDay (nI r) (nI i) = some (nI (pfx r i)) := by decide +kernel
def exN (A : Nat → Nat) (r : Nat) : Nat → Nat → Nat
  | 0, x => x
  | n + 1, x => if A (pfx r x) = 0 then exN A r n (x + 1) else x
def ex (A : Nat → Nat) (r : Nat) : Nat := exN A r (dR r) 0
theorem exN_b (A : Nat → Nat) (r : Nat) : ∀ n x, x ≤ exN A r n x ∧ exN A r n x ≤ x + n ∧ (exN A r n x < x + n → A (pfx r (exN A r n x)) ≠ 0) := by
  intro n
  induction n with
  | zero => intro x; exact ⟨Nat.le_refl _, Nat.le_refl _, fun h => absurd h (Nat.lt_irrefl _)⟩
  | succ n ih =>
    intro x
    unfold exN
    by_cases h : A (pfx r x) = 0
    · rw [if_pos h]
      obtain ⟨a, b, c⟩ := ih (x + 1)
      exact ⟨by omega, by omega, fun q => c (by omega)⟩
    · rw [if_neg h]
      exact ⟨Nat.le_refl _, by omega, fun _ => h⟩
theorem ex_le (A : Nat → Nat) (r : Nat) : ex A r ≤ dR r := by have := (exN_b A r (dR r) 0).2.1; unfold ex; omega
theorem ex_end (A : Nat → Nat) {r : Nat} (h : A r ≠ 0) : A (pfx r (ex A r)) ≠ 0 := by
  by_cases g : ex A r < dR r
  · exact (exN_b A r (dR r) 0).2.2 (by unfold ex at g; omega)
  · have := ex_le A r
    rw [show ex A r = dR r by omega, pfd]; exact h
theorem ea2 {A : Nat → Nat} {ac : Nat → Int32} {r : Nat} (h1 : 1 ≤ r) (h : r < 128) (hA : ∀ i, i ≤ dR r → ac (pfx r i) = nI (A (pfx r i)) ∧ A (pfx r i) ≤ 6) : ∀ (i n x : Nat), x + i = dR r → lpX5_endAlong_2 (nI r) ac (n + i + 2) (nI x) = some (if A (pfx r (exN A r i x)) = 0 then (1, 0) else (0, nI (pfx r (exN A r i x)))) := by
  have hd6 := (row_b1 r h h1).1.1
  intro i
  induction i with
  | zero =>
    intro n x hi
    obtain ⟨g3, g4, g5⟩ := pf1 r h h1 x (by omega) (by omega)
    rw [show n + 0 + 2 = (n + 1) + 1 by omega, lpX5_endAlong_2.eq_2, day8 r h h1, bd1_mk, if_neg (nI_nlt (by omega) (by omega)), rod8 r h h1 x (by omega) (by omega), bd1_mk, acA8 g4 g5, bd1_mk, (hA x (by omega)).1]
    show _ = some (if A (pfx r x) = 0 then (1, 0) else (0, nI (pfx r x)))
    by_cases g : A (pfx r x) = 0
    · rw [if_pos g, if_pos (by rw [g]; rfl), nm_mk, nI_1, lpX5_endAlong_2.eq_2, day8 r h h1, bd1_mk, if_pos (nI_lt (by omega) (by omega))]
    · rw [if_neg g, if_neg (nI_ne0 (by omega) (by have := (hA x (by omega)).2; omega))]
  | succ i ih =>
    intro n x hi
    obtain ⟨g3, g4, g5⟩ := pf1 r h h1 x (by omega) (by omega)
    rw [show n + (i + 1) + 2 = (n + i + 2) + 1 by omega, lpX5_endAlong_2.eq_2, day8 r h h1, bd1_mk, if_neg (nI_nlt (by omega) (by omega)), rod8 r h h1 x (by omega) (by omega), bd1_mk, acA8 g4 g5, bd1_mk, (hA x (by omega)).1]
    by_cases g : A (pfx r x) = 0
    · rw [if_pos (by rw [g]; rfl), nm_mk, nI_1, ih n (x + 1) (by omega)]
      have e : exN A r (i + 1) x = exN A r i (x + 1) := if_pos g
      rw [e]
    · have e : exN A r (i + 1) x = x := if_neg g
      rw [e, if_neg g, if_neg (nI_ne0 (by omega) (by have := (hA x (by omega)).2; omega))]
theorem ea8 {A : Nat → Nat} {ac : Nat → Int32} {r : Nat} (h1 : 1 ≤ r) (h : r < 128) (hA : ∀ i, i ≤ dR r → ac (pfx r i) = nI (A (pfx r i)) ∧ A (pfx r i) ≤ 6) : fX5_endAlong (nI r) ac = some (if A (pfx r (ex A r)) = 0 then 0 else nI (pfx r (ex A r))) := by
  have hd6 := (row_b1 r h h1).1.1
  unfold fX5_endAlong
  obtain ⟨n, hn⟩ := fuN (dR r + 2) (by omega)
  rw [hn, i_0, show n + (dR r + 2) = n + dR r + 2 by omega, ea2 h1 h hA (dR r) n 0 (by omega)]
  show bd2 (some (if A (pfx r (ex A r)) = 0 then (1, 0) else (0, nI (pfx r (ex A r))))) _ = _
  by_cases g : A (pfx r (ex A r)) = 0
  · rw [if_pos g, if_pos g]; rfl
  · rw [if_neg g, if_neg g]; rfl
/-- what an act pays -/
def pyA (π : Nat → Nat → Nat) (β : Nat → Nat) (A e : Nat) : Nat := if A = 0 then 0 else if A = 1 then puL β (dR e) - 1 else if A = 3 then caL β (dR e) - 1 else if A = 5 then β 0 else tuS π β (dR e) (uR e) (bR e) - 1
abbrev pyK (π : Nat → Nat → Nat) (T : Nat) (β : Nat → Nat) (A e : Nat) : Prop := A ≤ 6 ∧ (A = 1 → puL β (dR e) ≠ 0 ∧ dR e < T) ∧ (A = 3 → caL β (dR e) ≠ 0 ∧ dR e < T) ∧ (A = 2 ∨ A = 4 ∨ A = 6 → tuS π β (dR e) (uR e) (bR e) ≠ 0)
theorem bA_k (π : Nat → Nat → Nat) (β : Nat → Nat) (t j u m h : Nat) : bA π β t j u m h ≤ 4 ∧ (bA π β t j u m h = 1 → puL β t ≠ 0) ∧ (bA π β t j u m h = 3 → caL β t ≠ 0) ∧ (bA π β t j u m h = 2 ∨ bA π β t j u m h = 4 ∨ bA π β t j u m h = 6 → tuS π β t j u ≠ 0) := by
  unfold bA
  split
  · rename_i hi
    have := hi.1.1
    split
    · exact ⟨by omega, fun _ => by omega, fun q => absurd q (by omega), fun q => absurd q (by omega)⟩
    · split
      · exact ⟨by omega, fun q => absurd q (by omega), fun q => absurd q (by omega), fun _ => by omega⟩
      · exact ⟨by omega, fun q => absurd q (by omega), fun _ => this, fun q => absurd q (by omega)⟩
  · split
    · exact ⟨by omega, fun q => absurd q (by omega), fun q => absurd q (by omega), fun q => absurd q (by omega)⟩
    · split
      · exact ⟨by omega, fun _ => by omega, fun q => absurd q (by omega), fun q => absurd q (by omega)⟩
      · exact ⟨by omega, fun q => absurd q (by omega), fun q => absurd q (by omega), fun _ => by omega⟩
theorem aR_k (π : Nat → Nat → Nat) (T p q R : Nat) (β : Nat → Nat) {e : Nat} (hd : dR e ≤ T) : pyK π T β (aR π T p q R β (bV π β) (bA π β) e) e := by
  unfold aR
  by_cases h : dR e = T
  · rw [if_pos h]
    unfold enA
    split
    · refine ⟨by omega, fun q => absurd q (by omega), fun q => absurd q (by omega), fun _ => ?_⟩
      rw [h]; omega
    · exact ⟨by omega, fun q => absurd q (by omega), fun q => absurd q (by omega), fun q => absurd q (by omega)⟩
  · rw [if_neg h]
    obtain ⟨a, b, c, d⟩ := bA_k π β (dR e) (uR e) (bR e) (mR π β e) (hR π T p q R β (bV π β) e)
    exact ⟨by omega, fun q => ⟨b q, by omega⟩, fun q => ⟨c q, by omega⟩, d⟩
theorem aR_T (π : Nat → Nat → Nat) (T p q R : Nat) (β : Nat → Nat) {e : Nat} (hd : dR e = T) : aR π T p q R β (bV π β) (bA π β) e ≠ 0 := by
  unfold aR
  rw [if_pos hd]
  unfold enA
  split <;> omega
theorem lC_1 {e : Nat} (h : e ≠ 0) : lC e = lN (e - 1) := by
  obtain ⟨n, rfl⟩ : ∃ n, e = n + 1 := ⟨e - 1, by omega⟩
  rw [lC_s, Nat.add_sub_cancel]
theorem lM_1 {e : Nat} (h : e ≠ 0) : lM e = lN (e - 1) := by
  obtain ⟨n, rfl⟩ : ∃ n, e = n + 1 := ⟨e - 1, by omega⟩
  rw [lM_s, Nat.add_sub_cancel]
theorem pba8 {ts : Nat → Int32} {β : Nat → Nat} {π : Nat → Nat → Nat} {T : Nat} (hb : CB ts β) (hK : BK β) {e A : Nat} (h1 : 1 ≤ e) (h : e < 128) {tu : Nat → Int64} {ac : Nat → Int32} (ea : ac e = nI A) (et : tu e = lC (tuS π β (dR e) (uR e) (bR e))) (hk : pyK π T β A e) : fX5_paidByAct (nI e) ts tu ac = some (lN (pyA π β A e)) := by
  have hd6 := (row_b1 e h h1).1.1
  have c1 := caL_le hK (dR e)
  have c2 := puL_le hK (dR e)
  obtain ⟨k1, k2, k3, k4⟩ := hk
  unfold fX5_paidByAct pyA fX0_face
  rw [acA8 h1 h, bd1_mk, ea, day8 e h h1, bd1_mk, bd1_mk, pu8 hb (by omega), bd1_mk, ca8 hb (by omega), bd1_mk, tuA8 h1 h, bd1_mk, et, cl_0, hb.1.1.1, bd1_mk]
  rcases (show A = 0 ∨ A = 1 ∨ A = 2 ∨ A = 3 ∨ A = 4 ∨ A = 5 ∨ A = 6 by omega) with rfl | rfl | rfl | rfl | rfl | rfl | rfl
  · rfl
  · rw [if_neg (show ¬ nI 1 = (0 : Int32) by decide), if_pos (show nI 1 = (1 : Int32) by decide), iC_l (by omega), lC_1 (k2 rfl).1]; rfl
  · rw [if_neg (show ¬ nI 2 = (0 : Int32) by decide), if_neg (show ¬ nI 2 = (1 : Int32) by decide), if_neg (show ¬ nI 2 = (3 : Int32) by decide), if_neg (show ¬ nI 2 = (5 : Int32) by decide), lC_1 (k4 (by omega))]; rfl
  · rw [if_neg (show ¬ nI 3 = (0 : Int32) by decide), if_neg (show ¬ nI 3 = (1 : Int32) by decide), if_pos (show nI 3 = (3 : Int32) by decide), iC_l (by omega), lC_1 (k3 rfl).1]; rfl
  · rw [if_neg (show ¬ nI 4 = (0 : Int32) by decide), if_neg (show ¬ nI 4 = (1 : Int32) by decide), if_neg (show ¬ nI 4 = (3 : Int32) by decide), if_neg (show ¬ nI 4 = (5 : Int32) by decide), lC_1 (k4 (by omega))]; rfl
  · rw [if_neg (show ¬ nI 5 = (0 : Int32) by decide), if_neg (show ¬ nI 5 = (1 : Int32) by decide), if_neg (show ¬ nI 5 = (3 : Int32) by decide), if_pos (show nI 5 = (5 : Int32) by decide), nI_l (by omega)]; rfl
  · rw [if_neg (show ¬ nI 6 = (0 : Int32) by decide), if_neg (show ¬ nI 6 = (1 : Int32) by decide), if_neg (show ¬ nI 6 = (3 : Int32) by decide), if_neg (show ¬ nI 6 = (5 : Int32) by decide), lC_1 (k4 (by omega))]; rfl
def cpS (β : Nat → Nat) : Nat → Nat
  | 0 => 0
  | n + 1 => cpS β n + cpF β (n + 1)
theorem pu9' {ts : Nat → Int32} {β : Nat → Nat} (hb : CB ts β) (hK : BK β) {e v : Nat} (h1 : 1 ≤ e) (h : e < 128) : ∀ (i n x : Nat), x + i = dR e → lpX5_paidUpTo_9 (nI e) ts (n + i + 1) (lN (v + cpS β x)) (nI (x + 1)) = some (lN (v + cpS β (dR e))) := by
  have hd6 := (row_b1 e h h1).1.1
  intro i
  induction i with
  | zero =>
    intro n x hi
    rw [lpX5_paidUpTo_9.eq_2, day8 e h h1, bd1_mk, if_pos (nI_lt (by omega) (by omega)), show x = dR e by omega]
  | succ i ih =>
    intro n x hi
    have hc := cpF_le hK (x + 1)
    rw [lpX5_paidUpTo_9.eq_2, day8 e h h1, bd1_mk, if_neg (nI_nlt (by omega) (by omega)), co8 hb (by omega), bd1_mk, nm_mk, nm_mk, nI_l (by omega), lN_add, nI_1, Nat.add_assoc, show n + (i + 1) = n + i + 1 by omega]
    exact ih n (x + 1) (by omega)
theorem put8 {ts : Nat → Int32} {β : Nat → Nat} {π : Nat → Nat → Nat} {T : Nat} (hb : CB ts β) (hK : BK β) {e A : Nat} (h1 : 1 ≤ e) (h : e < 128) {tu : Nat → Int64} {ac : Nat → Int32} (ea : ac e = nI A) (et : tu e = lC (tuS π β (dR e) (uR e) (bR e))) (hk : pyK π T β A e) : fX5_paidUpTo (nI e) ts tu ac = some (lN (pyA π β A e + cpS β (dR e))) := by
  have hd6 := (row_b1 e h h1).1.1
  unfold fX5_paidUpTo
  obtain ⟨n, hn⟩ := fuN (dR e + 1) (by omega)
  have := pu9' hb hK (v := pyA π β A e) h1 h (dR e) n 0 (by omega)
  rw [pba8 hb hK h1 h ea et hk, bd1_mk, hn, i_1, show n + (dR e + 1) = n + dR e + 1 by omega]
  show bd1 (lpX5_paidUpTo_9 (nI e) ts (n + dR e + 1) (lN (pyA π β A e + cpS β 0)) (nI (0 + 1))) _ = _
  rw [this, bd1_mk]
/-- the reference's side -/
theorem py9 {bs : Nat → Int32} {pe : Nat → Int64} {k T : Nat} {β : Nat → Nat} {π : Nat → Nat → Nat} (hb : RB bs k β) (hK : BK β) (hp : PK π) (hP : RP pe T π) (hT : T ≤ 6) {e A : Nat} (h1 : 1 ≤ e) (h : e < 128) (hd : dR e ≤ T) (hk : pyK π T β A e) (h0 : A ≠ 0) : fX9_paysOf (nI k) (nI A) bs (nI T) pe (nI (dR e)) (nI (uR e)) (nI (bR e)) = some (lN (pyA π β A e)) := by
  have c1 := caL_le hK (dR e)
  have c2 := puL_le hK (dR e)
  obtain ⟨k1, k2, k3, k4⟩ := hk
  unfold fX9_paysOf pyA
  rw [tu9 hb hK hp hP hT (okR π β h1 h).1 hd, bd1_mk, of9n hb 0 (by omega) (by omega), bd1_mk]
  rcases (show A = 1 ∨ A = 2 ∨ A = 3 ∨ A = 4 ∨ A = 5 ∨ A = 6 by omega) with rfl | rfl | rfl | rfl | rfl | rfl
  · rw [if_pos (show nI 1 = (1 : Int32) by decide), pu9 hb hT (k2 rfl).2, bd1_mk, iM_l (by omega), lM_1 (k2 rfl).1]; rfl
  · rw [if_neg (show ¬ nI 2 = (1 : Int32) by decide), if_neg (show ¬ nI 2 = (3 : Int32) by decide), if_neg (show ¬ nI 2 = (5 : Int32) by decide), lM_1 (k4 (by omega))]; rfl
  · rw [if_neg (show ¬ nI 3 = (1 : Int32) by decide), if_pos (show nI 3 = (3 : Int32) by decide), ca9 hb hT (k3 rfl).2, bd1_mk, iM_l (by omega), lM_1 (k3 rfl).1]; rfl
  · rw [if_neg (show ¬ nI 4 = (1 : Int32) by decide), if_neg (show ¬ nI 4 = (3 : Int32) by decide), if_neg (show ¬ nI 4 = (5 : Int32) by decide), lM_1 (k4 (by omega))]; rfl
  · rw [if_neg (show ¬ nI 5 = (1 : Int32) by decide), if_neg (show ¬ nI 5 = (3 : Int32) by decide), if_pos (show nI 5 = (5 : Int32) by decide), nI_l (by omega)]; rfl
  · rw [if_neg (show ¬ nI 6 = (1 : Int32) by decide), if_neg (show ¬ nI 6 = (3 : Int32) by decide), if_neg (show ¬ nI 6 = (5 : Int32) by decide), lM_1 (k4 (by omega))]; rfl
theorem ea12 {bs mv : Nat → Int32} {pe : Nat → Int64} {k T : Nat} {β : Nat → Nat} {π : Nat → Nat → Nat} (hb : RB bs k β) (hK : BK β) (hp : PK π) (hP : RP pe T π) (hT : T ≤ 6) {ac : Nat → Int32} {A : Nat → Nat} {r : Nat} (h1 : 1 ≤ r) (h : r < 128) (hd : dR r ≤ T) (hm : MV mv r) (hA : ∀ i, i ≤ dR r → ac (aT π β (pfx r i)) = nI (A (pfx r i)) ∧ A (pfx r i) ≤ 6) : ∀ (i n x : Nat), x + i = dR r → lpX9_endsAlong_12 (nI k) (nI (dR r)) bs mv pe ac (n + i + 1) (nI x) (nI (dR (pfx r x))) (nI (uR (pfx r x))) (nI (bR (pfx r x))) (nI (mR π β (pfx r x))) (lN (cpS β x)) = some (nI (dR (pfx r (exN A r i x))), nI (uR (pfx r (exN A r i x))), nI (bR (pfx r (exN A r i x))), nI (mR π β (pfx r (exN A r i x))), lN (cpS β (exN A r i x))) := by
  have hd6 := (row_b1 r h h1).1.1
  intro i
  induction i with
  | zero =>
    intro n x hi
    obtain ⟨g3, g4, g5⟩ := pf1 r h h1 x (by omega) (by omega)
    rw [lpX9_endsAlong_12.eq_2, hn9, bd1_mk, og32 (aT_lt π β g4 g5) (by omega), nI_clamp (by have := aT_lt π β g4 g5; omega), (hA x (by omega)).1]
    show _ = some (nI (dR (pfx r x)), nI (uR (pfx r x)), nI (bR (pfx r x)), nI (mR π β (pfx r x)), lN (cpS β x))
    by_cases g : A (pfx r x) = 0
    · rw [if_pos (by rw [g]; rfl), if_pos (nI_le (by omega) (by omega))]
    · rw [if_neg (nI_ne0 (by omega) (by have := (hA x (by omega)).2; omega))]
  | succ i ih =>
    intro n x hi
    obtain ⟨g1, g2⟩ := pf2 r h h1 x (by omega) (by omega)
    obtain ⟨g3, g4, g5⟩ := pf1 r h h1 x (by omega) (by omega)
    obtain ⟨g6, _, _⟩ := pf1 r h h1 (x + 1) (by omega) (by omega)
    rw [lpX9_endsAlong_12.eq_2, hn9, bd1_mk, og32 (aT_lt π β g4 g5) (by omega), nI_clamp (by have := aT_lt π β g4 g5; omega), (hA x (by omega)).1]
    by_cases g : A (pfx r x) = 0
    · have e : exN A r (i + 1) x = exN A r i (x + 1) := if_pos g
      have hc := cpF_le hK (x + 1)
      rw [e, if_pos (by rw [g]; rfl), if_neg (nI_ge (by omega) (by omega)), og32 (by omega) (by omega), nI_clamp (by omega), hm x (by omega), go9 hb hK hp hP hT g4 g2 (by omega) (by omega), bd4_mk, ← g1, g6, cp9 hb (by omega), bd1_mk, nm_mk, nm_mk, nI_l (by omega), lN_add, nI_1, show n + (i + 1) = n + i + 1 by omega]
      have := ih n (x + 1) (by omega)
      rw [g6] at this
      exact this
    · have e : exN A r (i + 1) x = x := if_neg g
      rw [e, if_neg (nI_ne0 (by omega) (by have := (hA x (by omega)).2; omega))]
theorem ea9 {bs mv : Nat → Int32} {pe : Nat → Int64} {k T : Nat} {β : Nat → Nat} {π : Nat → Nat → Nat} (hb : RB bs k β) (hK : BK β) (hp : PK π) (hP : RP pe T π) (hT : T ≤ 6) {ac : Nat → Int32} {A : Nat → Nat} {r : Nat} (h1 : 1 ≤ r) (h : r < 128) (hd : dR r ≤ T) (hm : MV mv r) (hA : ∀ i, i ≤ dR r → ac (aT π β (pfx r i)) = nI (A (pfx r i)) ∧ pyK π T β (A (pfx r i)) (pfx r i)) (s1 s2 s3 s4 : Int32) (s5 : Int64) : fX9_endsAlong (nI k) (nI (dR r)) bs mv (nI T) pe ac s1 s2 s3 s4 s5 = some (if A (pfx r (ex A r)) = 0 then 0 else 1, nI (dR (pfx r (ex A r))), nI (uR (pfx r (ex A r))), nI (bR (pfx r (ex A r))), nI (mR π β (pfx r (ex A r))), if A (pfx r (ex A r)) = 0 then lN (cpS β (ex A r)) else lN (pyA π β (A (pfx r (ex A r))) (pfx r (ex A r)) + cpS β (ex A r))) := by
  have hd6 := (row_b1 r h h1).1.1
  unfold fX9_endsAlong
  obtain ⟨n, hn⟩ := fuN (dR r + 1) (by omega)
  have he := ea12 hb hK hp hP hT h1 h hd hm (A := A) (fun i hi => ⟨(hA i hi).1, (hA i hi).2.1⟩) (dR r) n 0 (by omega)
  rw [pf0 r h h1] at he
  rw [sta9 hb hK hp hP hT, bd4_mk, hn, i_0, l_0, show n + (dR r + 1) = n + dR r + 1 by omega]
  have he' : lpX9_endsAlong_12 (nI k) (nI (dR r)) bs mv pe ac (n + dR r + 1) (nI 0) (nI (dR 1)) (nI (uR 1)) (nI (bR 1)) (nI (mR π β 1)) (lN 0) = some (nI (dR (pfx r (ex A r))), nI (uR (pfx r (ex A r))), nI (bR (pfx r (ex A r))), nI (mR π β (pfx r (ex A r))), lN (cpS β (ex A r))) := he
  have hle := ex_le A r
  obtain ⟨g3, g4, g5⟩ := pf1 r h h1 (ex A r) (by omega) hle
  have hl := aT_lt π β g4 g5
  rw [he', bd5_mk, hn9, bd1_mk, og32 hl (by omega), nI_clamp (by omega), (hA (ex A r) hle).1, bd1_mk, og32 hl (by omega)]
  by_cases g : A (pfx r (ex A r)) = 0
  · rw [if_pos g, if_pos g, if_pos (by rw [g])]
  · have hne : ¬ nI (A (pfx r (ex A r))) = nI 0 := fun q => g ((nI_eq (by have := (hA (ex A r) hle).2.1; omega) (by omega)).mp q)
    rw [if_neg g, if_neg g, if_neg hne, nI_clamp (by omega), (hA (ex A r) hle).1, py9 hb hK hp hP hT g4 g5 (by omega) (hA (ex A r) hle).2 g, bd1_mk, nm_mk, lN_add, Nat.add_comm (cpS β (ex A r))]
