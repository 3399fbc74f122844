theorem s7 (j p : Int32) (f : Nat → Int32) (h : fX8_within j 0 8 = some 1) (h' : okI j 9 = true) : fX7_set j p f = some (upd f (Int32.toNatClampNeg j) p) := by
  unfold fX7_set
  rw [h, bd1_mk, if_neg one_ne, og_mk _ h', nm_mk, bd1_mk]
theorem ist8 (p : Int32) : fX8_isStart p = some (bI (inr p 1 1000)) := by
  unfold fX8_isStart
  rw [wi_eq (x := p) (A := 1) (B := 1000) rfl rfl, bd1_mk, og_mk _ boB_bI]
theorem ch_e {b : Int32} (h : inr b 2 20) : (b - 1).toInt = b.toInt - 1 := by
  obtain ⟨n, rfl, l, u, q⟩ := inr_n h (by decide)
  obtain ⟨k, rfl⟩ : ∃ k, n = k + 1 := ⟨n - 1, by omega⟩
  rw [nI_pred, nI_toInt (by omega), nI_toInt q]
  omega
theorem ch8 (a b : Int32) : fX8_isChance a b = some (bI (inr b 2 20 ∧ inr a 1 (b.toInt - 1))) := by
  unfold fX8_isChance
  rw [wi_eq (x := b) (A := 2) (B := 20) rfl rfl, bd1_mk]
  by_cases h2 : inr b 2 20
  · rw [bI_t h2, if_neg one_ne, wi_eq (x := a) (A := 1) (B := b.toInt - 1) rfl (ch_e h2), bd1_mk]
    by_cases h1 : inr a 1 (b.toInt - 1)
    · rw [bI_t h1, if_neg one_ne, bd1_mk, bI_t ⟨h2, h1⟩]
      rfl
    · rw [bI_f h1, if_pos rfl, bd1_mk, bI_f (fun h => h1 h.2)]
      rfl
  · rw [bI_f h2, if_pos rfl, bd1_mk, bI_f (fun h => h2 h.1)]
    rfl
theorem ch9 (a b : Int32) : fX9_isChance a b = some (bI (inr b 2 20 ∧ inr a 1 (b.toInt - 1))) := by
  unfold fX9_isChance
  rw [in_eq (x := b) (A := 2) (B := 20) rfl rfl, bd1_mk]
  by_cases h2 : inr b 2 20
  · have e9 : (Int32.toInt64 (b - 1)).toInt = b.toInt - 1 := by rw [Int32.toInt_toInt64]; exact ch_e h2
    rw [bI_t h2, if_neg one_ne, in_eq (x := a) (A := 1) (B := b.toInt - 1) rfl e9, bd1_mk]
    by_cases h1 : inr a 1 (b.toInt - 1)
    · rw [bI_t h1, if_neg one_ne, bd1_mk, bI_t ⟨h2, h1⟩]
      rfl
    · rw [bI_f h1, if_pos rfl, bd1_mk, bI_f (fun h => h1 h.2)]
      rfl
  · rw [bI_f h2, if_pos rfl, bd1_mk, bI_f (fun h => h2 h.1)]
    rfl
/-! own rows: the fresh object, by the spec's numbers -/
def tau0 : Nat → Nat := fun i => if i = 0 then 3 else if i = 1 then 100 else if i = 2 then 6 else if i = 3 then 5 else if i = 4 then 5 else if i = 5 then 6 else if i = 6 then 1 else if i = 7 then 2 else 0
def bet0 : Nat → Nat := fun i => if i = 0 then 10000 else if i = 1 then 100 else if i = 22 then 6 else if i = 24 then 1 else 0
theorem fC0 : TC tP0 tau0 := by
  have h : ∀ i, i < 9 → tP0 i = nI (tau0 i) := by decide +kernel
  exact h
theorem fR0 : TR mT0 0 tau0 := by
  have h : ∀ i, i < 9 → mT0 (0 + i) = nI (tau0 i) := by decide +kernel
  exact h
theorem fK0 : TK tau0 := by decide +kernel
theorem bet0_b : BK bet0 := by
  have h1 : ∀ t, t < 7 → bet0 (2 + t) ≤ 1000 := by decide +kernel
  have h2 : ∀ t, t < 6 → bet0 (9 + t) ≤ 1000001 := by decide +kernel
  have h3 : ∀ t, t < 6 → bet0 (15 + t) ≤ 1000001 := by decide +kernel
  exact ⟨by decide, by decide, fun t _ h => h1 t (by omega), h2, h3, by decide, by decide, by decide, by decide, by decide, by decide⟩
theorem bet0_c : CB bT0 bet0 := by
  have h : ∀ i, i < 27 → i ≠ 2 → bT0 (cI i) = eI bet0 i := by decide +kernel
  exact CB.v h
theorem fB0 : CB3 bT0 bT0 bT0 (fun _ => bet0) := by
  intro k hk
  have e : bsel k bT0 bT0 bT0 = bT0 := by unfold bsel; split <;> (try split) <;> rfl
  rw [e]
  exact ⟨bet0_c, bet0_b⟩
theorem fb0 : ∀ k, k < 3 → RB mB0 k ((fun _ => bet0 : Nat → Nat → Nat) k) := by
  have h : ∀ k, k < 3 → ∀ i, i < 27 → mB0 (27 * k + i) = rI bet0 i := by decide +kernel
  exact fun k hk => ⟨by omega, h k hk⟩
theorem fBC0 : BCT bT0 bT0 bT0 mB0 (fun _ => bet0) := ⟨fB0, fb0⟩
theorem fP0 : PQ tau0 1 (fun _ => 0) 0 := ⟨1, by omega, by omega, by decide +kernel, rfl, by decide +kernel, MV.one⟩
theorem fT0 : TPQ 0 (fun _ => 0) (fun _ => 0) 0 := ⟨0, fun _ => 0, by omega, rfl, rfl, fun i hi => absurd hi (by omega)⟩
/-- a table's state that isn't found isn't found further on -/
theorem t74 (x2 x4 x6 x7 : Int32) (way : Nat → Int64) (d : Nat) : ∀ (n l : Nat) (u a b c : Int32), l + d < 2 ^ 31 → lpX9_table_74 x2 x4 x6 x7 way n (nI l) u = some (1, a, b, c) → ∃ l', a = nI l' ∧ l' ≤ l ∧ lpX9_table_74 x2 x4 x6 x7 way n (nI (l + d)) u = some (1, nI (l' + d), b, c) := by
  intro n
  induction n with
  | zero => intro l u a b c _ h; cases h
  | succ n ih =>
    intro l u a b c hl h
    rw [lpX9_table_74.eq_2] at h ⊢
    by_cases g : 2 ≤ u
    · rw [if_pos g] at h ⊢
      cases h
      exact ⟨l, rfl, Nat.le_refl l, rfl⟩
    · rw [if_neg g] at h ⊢
      unfold fX9_at at h ⊢
      rw [bd1_mk] at h ⊢
      obtain ⟨g2, h⟩ := og_some h
      rw [og_mk _ g2]
      by_cases g3 : way (Int32.toNatClampNeg ((((7 * x2 + x6) * 2 + u) * 8) + x7)) = 0
      · rw [if_pos g3] at h ⊢
        exact ih l _ a b c hl h
      · rw [if_neg g3] at h ⊢
        by_cases g4 : nI l = 0
        · rw [if_pos g4] at h
          cases h
        · have l0 : l ≠ 0 := fun q => g4 (by rw [q]; rfl)
          rw [if_neg g4] at h
          rw [if_neg (nI_ne0 (by omega) hl)]
          rw [nm_mk, nm_mk, i_1, pk_sub (by omega)] at h ⊢
          obtain ⟨l', e1, e2, e3⟩ := ih (l - 1) _ a b c (by omega) h
          exact ⟨l', e1, by omega, by rw [show l + d - 1 = l - 1 + d by omega]; exact e3⟩
theorem t64 (x2 x4 x6 : Int32) (way : Nat → Int64) (d : Nat) : ∀ (n l : Nat) (m a b c e : Int32), l + d < 2 ^ 31 → lpX9_table_64 x2 x4 x6 way n (nI l) m = some (1, a, b, c, e) → ∃ l', a = nI l' ∧ l' ≤ l ∧ lpX9_table_64 x2 x4 x6 way n (nI (l + d)) m = some (1, nI (l' + d), b, c, e) := by
  intro n
  induction n with
  | zero => intro l m a b c e _ h; cases h
  | succ n ih =>
    intro l m a b c e hl h
    rw [lpX9_table_64.eq_2] at h ⊢
    by_cases g : 8 ≤ m
    · rw [if_pos g] at h ⊢
      cases h
      exact ⟨l, rfl, Nat.le_refl l, rfl⟩
    · rw [if_neg g] at h ⊢
      obtain ⟨tg, y1, y2, y3, e1, h⟩ := bd4_some h
      by_cases g0 : tg = 0
      · rw [if_pos g0] at h
        cases h
      · have tg1 : tg = 1 := by
          -- a tag is 0 or 1
          have ht : ∀ (n : Nat) (x u : Int32) (z : Nat × Int32 × Int32 × Int32), lpX9_table_74 x2 x4 x6 m way n x u = some z → z.1 = 0 ∨ z.1 = 1 := by
            intro n
            induction n with
            | zero => intro x u z h; cases h
            | succ n ih2 =>
              intro x u z h
              rw [lpX9_table_74.eq_2] at h
              by_cases q1 : 2 ≤ u
              · rw [if_pos q1] at h; cases h; exact Or.inr rfl
              · rw [if_neg q1] at h
                unfold fX9_at at h
                rw [bd1_mk] at h
                obtain ⟨_, h⟩ := og_some h
                by_cases q2 : way (Int32.toNatClampNeg ((((7 * x2 + x6) * 2 + u) * 8) + m)) = 0
                · rw [if_pos q2] at h; exact ih2 _ _ _ h
                · rw [if_neg q2] at h
                  by_cases q3 : x = 0
                  · rw [if_pos q3] at h; cases h; exact Or.inl rfl
                  · rw [if_neg q3] at h; exact ih2 _ _ _ h
          exact (ht _ _ _ _ e1).resolve_left g0
        subst tg1
        rw [if_neg g0] at h
        obtain ⟨l1, rfl, k2, k3⟩ := t74 x2 x4 x6 m way d FU l 0 y1 y2 y3 hl e1
        rw [k3, bd4_mk, if_neg g0]
        rw [nm_mk] at h ⊢
        obtain ⟨l', j1, j2, j3⟩ := ih l1 _ a b c e (by omega) h
        exact ⟨l', j1, by omega, j3⟩
theorem t64g (x2 x4 x6 : Int32) (way : Nat → Int64) : ∀ (n : Nat) (x m : Int32) (z : Nat × Int32 × Int32 × Int32 × Int32), lpX9_table_64 x2 x4 x6 way n x m = some z → z.1 = 0 ∨ z.1 = 1 := by
  intro n
  induction n with
  | zero => intro x m z h; cases h
  | succ n ih =>
    intro x m z h
    rw [lpX9_table_64.eq_2] at h
    by_cases g : 8 ≤ m
    · rw [if_pos g] at h; cases h; exact Or.inr rfl
    · rw [if_neg g] at h
      obtain ⟨tg, y1, y2, y3, e1, h⟩ := bd4_some h
      by_cases g0 : tg = 0
      · rw [if_pos g0] at h; cases h; exact Or.inl rfl
      · rw [if_neg g0] at h; exact ih _ _ _ h
theorem t55 (x2 x4 : Int32) (way : Nat → Int64) (d : Nat) : ∀ (n l : Nat) (j a b c e : Int32), l + d < 2 ^ 31 → lpX9_table_55 x2 x4 way n (nI l) j = some (1, a, b, c, e) → lpX9_table_55 x2 x4 way n (nI (l + d)) j = some (1, a, b, c, e) := by
  intro n
  induction n with
  | zero => intro l j a b c e _ h; cases h
  | succ n ih =>
    intro l j a b c e hl h
    rw [lpX9_table_55.eq_2] at h ⊢
    by_cases g : x2 < j
    · rw [if_pos g] at h ⊢; exact h
    · rw [if_neg g] at h ⊢
      obtain ⟨tg, y1, y2, y3, y4, e1, h⟩ := bd5_some h
      by_cases g0 : tg = 0
      · rw [if_pos g0] at h; cases h
      · have tg1 : tg = 1 := (t64g _ _ _ _ _ _ _ _ e1).resolve_left g0
        subst tg1
        rw [if_neg g0] at h
        obtain ⟨l1, rfl, k2, k3⟩ := t64 x2 x4 j way d FU l 0 y1 y2 y3 y4 hl e1
        rw [k3, bd5_mk, if_neg g0]
        rw [nm_mk] at h ⊢
        exact ih l1 _ a b c e (by omega) h
theorem fH8 : ∀ k, k < 3 → ∀ t, t < 4 → bd10 (fX8_workOut (nI k) tP0 bT0 bT0 bT0 tP0 bT0 (fun _ => 0) (fun _ => 0) (fun _ => 0) (fun _ => 0) (fun _ => 0) (fun _ => 0) (fun _ => 0) (fun _ => 0)) (fun _ _ _ _ _ _ _ _ ma ac => (fX5_gatherStates (nI t) ma ac (fun _ => 0)).map (fun z => decide (z.1 ≤ 7))) = some true := by decide +kernel
theorem fH9 : ∀ k, k < 3 → ∀ t, t < 4 → ∀ w, w < 5 → bd11 (fX9_laysAll (nI k) mT0 mB0 0 0 0 0 (fun _ => 0) 0 0 (fun _ => 0) (fun _ => 0) (fun _ => 0) (fun _ => 0)) (fun _ _ _ _ _ _ _ _ _ way _ => (lpX9_table_55 (nI t) (nI w) way FU (nI 7) 0).map Prod.fst) = some 1 := by decide +kernel
theorem pu_00 (xs : Nat → Int32) (i : Nat) : ∃ (r1 : Int32) (o_c_tape_size : Int32) (o_c_tape_bytes : Nat → Int32) (r2 : Int32) (n_tape : Nat → Int32) (n_taped : Int32), fX8_feed (xs (i + 1)) (xs (i + 2)) (xs (i + 3)) (xs (i + 4)) (xs (i + 5)) 0 (fun _ => 0) = some (r1, o_c_tape_size, o_c_tape_bytes) ∧ fX9_feed (xs (i + 1)) (xs (i + 2)) (xs (i + 3)) (xs (i + 4)) (xs (i + 5)) (fun _ => 0) 0 = some (r2, n_tape, n_taped) ∧ r1 = r2 := by
  obtain ⟨r, ⟨o_c_tape_size, o_c_tape_bytes⟩, ⟨n_tape, n_taped⟩, e1, e2, _⟩ := (q_feed fT0 _ _ _ _ _ : Sx2 (fX8_feed (xs (i + 1)) (xs (i + 2)) (xs (i + 3)) (xs (i + 4)) (xs (i + 5)) 0 (fun _ => 0)) (fX9_feed (xs (i + 1)) (xs (i + 2)) (xs (i + 3)) (xs (i + 4)) (xs (i + 5)) (fun _ => 0) 0) _)
  exact ⟨r, o_c_tape_size, o_c_tape_bytes, r, n_tape, n_taped, e1, e2, rfl⟩
theorem pu_01 (xs : Nat → Int32) (i : Nat) : ∃ (r1 : Int32) (o_c_now_row : Int32) (o_c_now_tree_parts : Nat → Int32) (r2 : Int32) (n_tree : Nat → Int32) (n_moved : Int32), fX8_tree (xs (i + 1)) (xs (i + 2)) 1 tP0 = some (r1, o_c_now_row, o_c_now_tree_parts) ∧ fX9_tree (xs (i + 1)) (xs (i + 2)) mT0 0 = some (r2, n_tree, n_moved) ∧ r1 = r2 := by
  generalize xs (i + 1) = a
  generalize xs (i + 2) = b
  by_cases h1 : inr a 1 6
  rotate_left
  · exact ⟨_, _, _, _, _, _, (by unfold fX8_tree; rw [wi_eq (x := a) (A := 1) (B := 6) rfl rfl, bI_f h1, bd1_mk, if_pos rfl]), (by unfold fX9_tree; rw [in_eq (x := a) (A := 1) (B := 6) rfl rfl, bI_f h1, bd1_mk, if_pos rfl]), rfl⟩
  by_cases h2 : inr b 1 1000
  rotate_left
  · exact ⟨_, _, _, _, _, _, (by unfold fX8_tree; rw [wi_eq (x := a) (A := 1) (B := 6) rfl rfl, bI_t h1, bd1_mk, if_neg one_ne, ist8 b, bI_f h2, bd1_mk, if_pos rfl]), (by unfold fX9_tree; rw [in_eq (x := a) (A := 1) (B := 6) rfl rfl, bI_t h1, bd1_mk, if_neg one_ne, in_eq (x := b) (A := 1) (B := 1000) rfl rfl, bI_f h2, bd1_mk, if_pos rfl]), rfl⟩
  exact ⟨_, _, _, _, _, _, (by unfold fX8_tree; rw [wi_eq (x := a) (A := 1) (B := 6) rfl rfl, bI_t h1, bd1_mk, if_neg one_ne, ist8 b, bI_t h2, bd1_mk, if_neg one_ne, s7 0 a _ (by decide +kernel) (by decide +kernel), bd1_mk, s7 1 b _ (by decide +kernel) (by decide +kernel), bd1_mk]), (by unfold fX9_tree; rw [in_eq (x := a) (A := 1) (B := 6) rfl rfl, bI_t h1, bd1_mk, if_neg one_ne, in_eq (x := b) (A := 1) (B := 1000) rfl rfl, bI_t h2, bd1_mk, if_neg one_ne, nm_mk, nm_mk]), rfl⟩
theorem pu_02 (xs : Nat → Int32) (i : Nat) : ∃ (r1 : Int32) (o_c_now_tree_parts : Nat → Int32) (r2 : Int32) (n_tree : Nat → Int32), fX8_move (nz (xs (i + 1))) (xs (i + 2)) (xs (i + 3)) tP0 = some (r1, o_c_now_tree_parts) ∧ fX9_move (nz (xs (i + 1))) (xs (i + 2)) (xs (i + 3)) mT0 = some (r2, n_tree) ∧ r1 = r2 := by
  obtain ⟨b1, eb1, hb1⟩ := nz_n (xs (i + 1))
  rw [eb1]
  generalize xs (i + 2) = a2
  generalize xs (i + 3) = a3
  by_cases h2 : inr a2 1 20
  rotate_left
  · exact ⟨_, _, _, _, (by unfold fX8_move; rw [wi_eq (x := a2) (A := 1) (B := 20) rfl rfl, bI_f h2, bd1_mk, if_pos rfl]), (by unfold fX9_move; rw [in_eq (x := a2) (A := 1) (B := 20) rfl rfl, bI_f h2, bd1_mk, if_pos rfl]), rfl⟩
  by_cases h3 : inr a3 1 20
  rotate_left
  · exact ⟨_, _, _, _, (by unfold fX8_move; rw [wi_eq (x := a2) (A := 1) (B := 20) rfl rfl, bI_t h2, bd1_mk, if_neg one_ne, wi_eq (x := a3) (A := 1) (B := 20) rfl rfl, bI_f h3, bd1_mk, if_pos rfl]), (by unfold fX9_move; rw [in_eq (x := a2) (A := 1) (B := 20) rfl rfl, bI_t h2, bd1_mk, if_neg one_ne, in_eq (x := a3) (A := 1) (B := 20) rfl rfl, bI_f h3, bd1_mk, if_pos rfl]), rfl⟩
  obtain ⟨n2, rfl, l2, u2, _⟩ := inr_n h2 (by decide)
  obtain ⟨n3, rfl, l3, u3, _⟩ := inr_n h3 (by decide)
  have H : ∀ n2, n2 < 21 → ∀ n3, n3 < 21 → ∀ b1, b1 < 2 → (fX8_move (nI b1) (nI n2) (nI n3) tP0).map Prod.fst = (fX9_move (nI b1) (nI n2) (nI n3) mT0).map Prod.fst ∧ (fX8_move (nI b1) (nI n2) (nI n3) tP0).isSome = true := by decide +kernel
  obtain ⟨r1, o_c_now_tree_parts, r2, n_tree, e1, e2, e3⟩ := pk2 (H n2 (by omega) n3 (by omega) b1 hb1).1 (H n2 (by omega) n3 (by omega) b1 hb1).2
  exact ⟨r1, o_c_now_tree_parts, r2, n_tree, e1, e2, e3⟩
theorem pu_03 (xs : Nat → Int32) (i : Nat) : ∃ (r1 : Int32) (o_c_now_tree_parts : Nat → Int32) (r2 : Int32) (n_tree : Nat → Int32), fX8_chance (xs (i + 1)) (xs (i + 2)) tP0 = some (r1, o_c_now_tree_parts) ∧ fX9_chance (xs (i + 1)) (xs (i + 2)) mT0 = some (r2, n_tree) ∧ r1 = r2 := by
  generalize xs (i + 1) = a
  generalize xs (i + 2) = b
  by_cases h : inr b 2 20 ∧ inr a 1 (b.toInt - 1)
  · exact ⟨_, _, _, _, (by unfold fX8_chance; rw [ch8, bI_t h, bd1_mk, if_neg one_ne, s7 6 a _ (by decide +kernel) (by decide +kernel), bd1_mk, s7 7 b _ (by decide +kernel) (by decide +kernel), bd1_mk]), (by unfold fX9_chance; rw [ch9, bI_t h, bd1_mk, if_neg one_ne, nm_mk, nm_mk]), rfl⟩
  · exact ⟨_, _, _, _, (by unfold fX8_chance; rw [ch8, bI_f h, bd1_mk, if_pos rfl]), (by unfold fX9_chance; rw [ch9, bI_f h, bd1_mk, if_pos rfl]), rfl⟩
theorem pu_04 (xs : Nat → Int32) (i : Nat) : ∃ (r1 : Int32) (o_c_now_tree_parts : Nat → Int32) (r2 : Int32) (n_tree : Nat → Int32), fX8_rate (xs (i + 1)) tP0 = some (r1, o_c_now_tree_parts) ∧ fX9_rate (xs (i + 1)) mT0 = some (r2, n_tree) ∧ r1 = r2 := by
  generalize xs (i + 1) = a1
  by_cases h1 : inr a1 0 200
  rotate_left
  · exact ⟨_, _, _, _, (by unfold fX8_rate; rw [wi_eq (x := a1) (A := 0) (B := 200) rfl rfl, bI_f h1, bd1_mk, if_pos rfl]), (by unfold fX9_rate; rw [in_eq (x := a1) (A := 0) (B := 200) rfl rfl, bI_f h1, bd1_mk, if_pos rfl]), rfl⟩
  obtain ⟨n1, rfl, l1, u1, _⟩ := inr_n h1 (by decide)
  have H : ∀ n1, n1 < 201 → (fX8_rate (nI n1) tP0).map Prod.fst = (fX9_rate (nI n1) mT0).map Prod.fst ∧ (fX8_rate (nI n1) tP0).isSome = true := by decide +kernel
  obtain ⟨r1, o_c_now_tree_parts, r2, n_tree, e1, e2, e3⟩ := pk2 (H n1 (by omega)).1 (H n1 (by omega)).2
  exact ⟨r1, o_c_now_tree_parts, r2, n_tree, e1, e2, e3⟩
theorem pu_05 (xs : Nat → Int32) (i : Nat) : ∃ (r1 : Int64) (r2 : Int64) (n_top : Int64) (n_bottom : Int64), fX8_price (xs (i + 1)) (xs (i + 2)) (xs (i + 3)) tP0 = some (r1) ∧ fX9_price (xs (i + 1)) (xs (i + 2)) (xs (i + 3)) mT0 0 0 = some (r2, n_top, n_bottom) ∧ r1 = r2 := by
  generalize xs (i + 1) = a
  generalize xs (i + 2) = b
  generalize xs (i + 3) = d
  by_cases h1 : inr a 0 3
  rotate_left
  · exact ⟨_, _, _, _, (by unfold fX8_price; rw [isd8, bI_f h1, bd1_mk, if_pos rfl]), (by unfold fX9_price; rw [isd9, bI_f h1, bd1_mk, if_pos rfl]), rfl⟩
  obtain ⟨n1, rfl, l1, u1, q1⟩ := inr_n h1 (by decide)
  have w8 : ∀ x : Int32, fX8_within x 0 (nI n1) = some (bI (inr x 0 (n1 : Int))) := fun x => wi_eq rfl (nI_toInt q1)
  have w9 : ∀ x : Int32, fX9_in (Int32.toInt64 x) 0 (Int32.toInt64 (nI n1)) = some (bI (inr x 0 (n1 : Int))) := fun x => in_eq rfl (by rw [Int32.toInt_toInt64]; exact nI_toInt q1)
  by_cases h2 : inr b 0 (n1 : Int)
  rotate_left
  · exact ⟨_, _, _, _, (by unfold fX8_price; rw [isd8, bI_t h1, bd1_mk, if_neg one_ne, w8, bI_f h2, bd1_mk, if_pos rfl]), (by unfold fX9_price; rw [isd9, bI_t h1, bd1_mk, if_neg one_ne, w9, bI_f h2, bd1_mk, if_pos rfl]), rfl⟩
  by_cases h3 : inr d 0 2
  rotate_left
  · exact ⟨_, _, _, _, (by unfold fX8_price; rw [isd8, bI_t h1, bd1_mk, if_neg one_ne, w8, bI_t h2, bd1_mk, if_neg one_ne, wi_eq (x := d) (A := 0) (B := 2) rfl rfl, bI_f h3, bd1_mk, if_pos rfl]), (by unfold fX9_price; rw [isd9, bI_t h1, bd1_mk, if_neg one_ne, w9, bI_t h2, bd1_mk, if_neg one_ne, in_eq (x := d) (A := 0) (B := 2) rfl rfl, bI_f h3, bd1_mk, if_pos rfl]), rfl⟩
  obtain ⟨n2, rfl, l2, u2, _⟩ := inr_n h2 (by decide)
  obtain ⟨n3, rfl, l3, u3, _⟩ := inr_n h3 (by decide)
  have H : ∀ n1, n1 < 4 → ∀ n2, n2 < 4 → ∀ n3, n3 < 3 → fX8_price (nI n1) (nI n2) (nI n3) tP0 = (fX9_price (nI n1) (nI n2) (nI n3) mT0 0 0).map Prod.fst ∧ (fX8_price (nI n1) (nI n2) (nI n3) tP0).isSome = true := by decide +kernel
  obtain ⟨r1, r2, ⟨n_top, n_bottom⟩, e1, e2, e3⟩ := pk2b (H n1 (by omega) n2 (by omega) n3 (by omega)).1 (H n1 (by omega) n2 (by omega) n3 (by omega)).2
  exact ⟨r1, r2, n_top, n_bottom, e1, e2, e3⟩
theorem pu_06 (xs : Nat → Int32) (i : Nat) : ∃ (r1 : Int32) (o_c_now_bonds0_terms : Nat → Int32) (o_c_now_bonds1_terms : Nat → Int32) (o_c_now_bonds2_terms : Nat → Int32) (r2 : Int32) (n_bonds : Nat → Int32), fX8_bond (xs (i + 1)) (xs (i + 2)) (xs (i + 3)) bT0 bT0 bT0 = some (r1, o_c_now_bonds0_terms, o_c_now_bonds1_terms, o_c_now_bonds2_terms) ∧ fX9_bond (xs (i + 1)) (xs (i + 2)) (xs (i + 3)) mB0 = some (r2, n_bonds) ∧ r1 = r2 := by
  obtain ⟨r, ⟨o_c_now_bonds0_terms, o_c_now_bonds1_terms, o_c_now_bonds2_terms⟩, n_bonds, e1, e2, _⟩ := (q_bond fBC0 _ _ _ : Sx2 (fX8_bond (xs (i + 1)) (xs (i + 2)) (xs (i + 3)) bT0 bT0 bT0) (fX9_bond (xs (i + 1)) (xs (i + 2)) (xs (i + 3)) mB0) _)
  exact ⟨r, o_c_now_bonds0_terms, o_c_now_bonds1_terms, o_c_now_bonds2_terms, r, n_bonds, e1, e2, rfl⟩
theorem pu_07 (xs : Nat → Int32) (i : Nat) : ∃ (r1 : Int32) (o_c_now_bonds0_terms : Nat → Int32) (o_c_now_bonds1_terms : Nat → Int32) (o_c_now_bonds2_terms : Nat → Int32) (r2 : Int32) (n_bonds : Nat → Int32), fX8_coupon (xs (i + 1)) (xs (i + 2)) (xs (i + 3)) bT0 bT0 bT0 = some (r1, o_c_now_bonds0_terms, o_c_now_bonds1_terms, o_c_now_bonds2_terms) ∧ fX9_coupon (xs (i + 1)) (xs (i + 2)) (xs (i + 3)) mB0 = some (r2, n_bonds) ∧ r1 = r2 := by
  generalize xs (i + 1) = a1
  generalize xs (i + 2) = a2
  generalize xs (i + 3) = a3
  by_cases h1 : inr a1 0 2
  rotate_left
  · exact ⟨_, _, _, _, _, _, (by unfold fX8_coupon; rw [isb_eq a1, bI_f h1, bd1_mk, if_pos rfl]), (by unfold fX9_coupon; rw [isb9 a1, bI_f h1, bd1_mk, if_pos rfl]), rfl⟩
  by_cases h2 : inr a2 1 6
  rotate_left
  · exact ⟨_, _, _, _, _, _, (by unfold fX8_coupon; rw [isb_eq a1, bI_t h1, bd1_mk, if_neg one_ne, wi_eq (x := a2) (A := 1) (B := 6) rfl rfl, bI_f h2, bd1_mk, if_pos rfl]), (by unfold fX9_coupon; rw [isb9 a1, bI_t h1, bd1_mk, if_neg one_ne, in_eq (x := a2) (A := 1) (B := 6) rfl rfl, bI_f h2, bd1_mk, if_pos rfl]), rfl⟩
  by_cases h3 : inr a3 0 1000
  rotate_left
  · exact ⟨_, _, _, _, _, _, (by unfold fX8_coupon; rw [isb_eq a1, bI_t h1, bd1_mk, if_neg one_ne, wi_eq (x := a2) (A := 1) (B := 6) rfl rfl, bI_t h2, bd1_mk, if_neg one_ne, wi_eq (x := a3) (A := 0) (B := 1000) rfl rfl, bI_f h3, bd1_mk, if_pos rfl]), (by unfold fX9_coupon; rw [isb9 a1, bI_t h1, bd1_mk, if_neg one_ne, in_eq (x := a2) (A := 1) (B := 6) rfl rfl, bI_t h2, bd1_mk, if_neg one_ne, in_eq (x := a3) (A := 0) (B := 1000) rfl rfl, bI_f h3, bd1_mk, if_pos rfl]), rfl⟩
  obtain ⟨n1, rfl, l1, u1, _⟩ := inr_n h1 (by decide)
  obtain ⟨n2, rfl, l2, u2, _⟩ := inr_n h2 (by decide)
  obtain ⟨n3, rfl, l3, u3, _⟩ := inr_n h3 (by decide)
  have H : ∀ n1, n1 < 3 → ∀ n2, n2 < 7 → ∀ n3, n3 < 1001 → (fX8_coupon (nI n1) (nI n2) (nI n3) bT0 bT0 bT0).map Prod.fst = (fX9_coupon (nI n1) (nI n2) (nI n3) mB0).map Prod.fst ∧ (fX8_coupon (nI n1) (nI n2) (nI n3) bT0 bT0 bT0).isSome = true := by decide +kernel
  obtain ⟨r1, ⟨o_c_now_bonds0_terms, o_c_now_bonds1_terms, o_c_now_bonds2_terms⟩, r2, n_bonds, e1, e2, e3⟩ := pk2 (H n1 (by omega) n2 (by omega) n3 (by omega)).1 (H n1 (by omega) n2 (by omega) n3 (by omega)).2
  exact ⟨r1, o_c_now_bonds0_terms, o_c_now_bonds1_terms, o_c_now_bonds2_terms, r2, n_bonds, e1, e2, e3⟩
theorem pu_08 (xs : Nat → Int32) (i : Nat) : ∃ (r1 : Int32) (o_c_now_bonds0_terms : Nat → Int32) (o_c_now_bonds1_terms : Nat → Int32) (o_c_now_bonds2_terms : Nat → Int32) (r2 : Int32) (n_bonds : Nat → Int32), fX8_call (xs (i + 1)) (xs (i + 2)) (xs (i + 3)) bT0 bT0 bT0 = some (r1, o_c_now_bonds0_terms, o_c_now_bonds1_terms, o_c_now_bonds2_terms) ∧ fX9_call (xs (i + 1)) (xs (i + 2)) (xs (i + 3)) mB0 = some (r2, n_bonds) ∧ r1 = r2 := by
  obtain ⟨r, ⟨o_c_now_bonds0_terms, o_c_now_bonds1_terms, o_c_now_bonds2_terms⟩, n_bonds, e1, e2, _⟩ := (q_call fBC0 _ _ _ : Sx2 (fX8_call (xs (i + 1)) (xs (i + 2)) (xs (i + 3)) bT0 bT0 bT0) (fX9_call (xs (i + 1)) (xs (i + 2)) (xs (i + 3)) mB0) _)
  exact ⟨r, o_c_now_bonds0_terms, o_c_now_bonds1_terms, o_c_now_bonds2_terms, r, n_bonds, e1, e2, rfl⟩
theorem pu_09 (xs : Nat → Int32) (i : Nat) : ∃ (r1 : Int32) (o_c_now_bonds0_terms : Nat → Int32) (o_c_now_bonds1_terms : Nat → Int32) (o_c_now_bonds2_terms : Nat → Int32) (r2 : Int32) (n_bonds : Nat → Int32), fX8_put (xs (i + 1)) (xs (i + 2)) (xs (i + 3)) bT0 bT0 bT0 = some (r1, o_c_now_bonds0_terms, o_c_now_bonds1_terms, o_c_now_bonds2_terms) ∧ fX9_put (xs (i + 1)) (xs (i + 2)) (xs (i + 3)) mB0 = some (r2, n_bonds) ∧ r1 = r2 := by
  obtain ⟨r, ⟨o_c_now_bonds0_terms, o_c_now_bonds1_terms, o_c_now_bonds2_terms⟩, n_bonds, e1, e2, _⟩ := (q_put fBC0 _ _ _ : Sx2 (fX8_put (xs (i + 1)) (xs (i + 2)) (xs (i + 3)) bT0 bT0 bT0) (fX9_put (xs (i + 1)) (xs (i + 2)) (xs (i + 3)) mB0) _)
  exact ⟨r, o_c_now_bonds0_terms, o_c_now_bonds1_terms, o_c_now_bonds2_terms, r, n_bonds, e1, e2, rfl⟩
theorem pu_10 (xs : Nat → Int32) (i : Nat) : ∃ (r1 : Int32) (o_c_now_bonds0_terms : Nat → Int32) (o_c_now_bonds1_terms : Nat → Int32) (o_c_now_bonds2_terms : Nat → Int32) (r2 : Int32) (n_bonds : Nat → Int32), fX8_window (xs (i + 1)) (xs (i + 2)) (xs (i + 3)) bT0 bT0 bT0 = some (r1, o_c_now_bonds0_terms, o_c_now_bonds1_terms, o_c_now_bonds2_terms) ∧ fX9_window (xs (i + 1)) (xs (i + 2)) (xs (i + 3)) mB0 = some (r2, n_bonds) ∧ r1 = r2 := by
  generalize xs (i + 1) = a
  generalize xs (i + 2) = b
  generalize xs (i + 3) = d
  by_cases h1 : inr a 0 2
  rotate_left
  · exact ⟨_, _, _, _, _, _, (by unfold fX8_window; rw [isb_eq, bI_f h1, bd1_mk, if_pos rfl]), (by unfold fX9_window; rw [isb9, bI_f h1, bd1_mk, if_pos rfl]), rfl⟩
  by_cases h3 : inr d 0 6
  rotate_left
  · by_cases h2 : inr b 0 6
    · obtain ⟨n2, rfl, l2, u2, q2⟩ := inr_n h2 (by decide)
      have w9 : fX9_in (Int32.toInt64 d) (Int32.toInt64 (nI n2)) 6 = some (bI (inr d (n2 : Int) 6)) := in_eq (by rw [Int32.toInt_toInt64]; exact nI_toInt q2) rfl
      have h4 : ¬ inr d (n2 : Int) 6 := fun h => h3 ⟨by have := h.1; omega, h.2⟩
      exact ⟨_, _, _, _, _, _, (by unfold fX8_window; rw [isb_eq, bI_t h1, bd1_mk, if_neg one_ne, wi_eq (x := d) (A := 0) (B := 6) rfl rfl, bI_f h3, bd1_mk, if_pos rfl]), (by unfold fX9_window; rw [isb9, bI_t h1, bd1_mk, if_neg one_ne, in_eq (x := nI n2) (A := 0) (B := 6) rfl rfl, bI_t h2, bd1_mk, if_neg one_ne, w9, bI_f h4, bd1_mk, if_pos rfl]), rfl⟩
    · exact ⟨_, _, _, _, _, _, (by unfold fX8_window; rw [isb_eq, bI_t h1, bd1_mk, if_neg one_ne, wi_eq (x := d) (A := 0) (B := 6) rfl rfl, bI_f h3, bd1_mk, if_pos rfl]), (by unfold fX9_window; rw [isb9, bI_t h1, bd1_mk, if_neg one_ne, in_eq (x := b) (A := 0) (B := 6) rfl rfl, bI_f h2, bd1_mk, if_pos rfl]), rfl⟩
  obtain ⟨n3, rfl, l3, u3, q3⟩ := inr_n h3 (by decide)
  by_cases h2 : inr b 0 6
  rotate_left
  · have w8 : fX8_within b 0 (nI n3) = some (bI (inr b 0 (n3 : Int))) := wi_eq rfl (nI_toInt q3)
    have h4 : ¬ inr b 0 (n3 : Int) := fun h => h2 ⟨h.1, by have := h.2; omega⟩
    exact ⟨_, _, _, _, _, _, (by unfold fX8_window; rw [isb_eq, bI_t h1, bd1_mk, if_neg one_ne, wi_eq (x := nI n3) (A := 0) (B := 6) rfl rfl, bI_t h3, bd1_mk, if_neg one_ne, w8, bI_f h4, bd1_mk, if_pos rfl]), (by unfold fX9_window; rw [isb9, bI_t h1, bd1_mk, if_neg one_ne, in_eq (x := b) (A := 0) (B := 6) rfl rfl, bI_f h2, bd1_mk, if_pos rfl]), rfl⟩
  obtain ⟨n1, rfl, l1, u1, _⟩ := inr_n h1 (by decide)
  obtain ⟨n2, rfl, l2, u2, _⟩ := inr_n h2 (by decide)
  have H : ∀ n1, n1 < 3 → ∀ n2, n2 < 7 → ∀ n3, n3 < 7 → (fX8_window (nI n1) (nI n2) (nI n3) bT0 bT0 bT0).map Prod.fst = (fX9_window (nI n1) (nI n2) (nI n3) mB0).map Prod.fst ∧ (fX8_window (nI n1) (nI n2) (nI n3) bT0 bT0 bT0).isSome = true := by decide +kernel
  obtain ⟨r1, ⟨o1, o2, o3⟩, r2, m1, e1, e2, e3⟩ := pk2 (H n1 (by omega) n2 (by omega) n3 (by omega)).1 (H n1 (by omega) n2 (by omega) n3 (by omega)).2
  exact ⟨r1, o1, o2, o3, r2, m1, e1, e2, e3⟩
theorem pu_11 (xs : Nat → Int32) (i : Nat) : ∃ (r1 : Int32) (o_c_now_bonds0_terms : Nat → Int32) (o_c_now_bonds1_terms : Nat → Int32) (o_c_now_bonds2_terms : Nat → Int32) (r2 : Int32) (n_bonds : Nat → Int32), fX8_soft (xs (i + 1)) (xs (i + 2)) (xs (i + 3)) (xs (i + 4)) bT0 bT0 bT0 = some (r1, o_c_now_bonds0_terms, o_c_now_bonds1_terms, o_c_now_bonds2_terms) ∧ fX9_soft (xs (i + 1)) (xs (i + 2)) (xs (i + 3)) (xs (i + 4)) mB0 = some (r2, n_bonds) ∧ r1 = r2 := by
  obtain ⟨r, ⟨o_c_now_bonds0_terms, o_c_now_bonds1_terms, o_c_now_bonds2_terms⟩, n_bonds, e1, e2, _⟩ := (q_soft fBC0 _ _ _ _ : Sx2 (fX8_soft (xs (i + 1)) (xs (i + 2)) (xs (i + 3)) (xs (i + 4)) bT0 bT0 bT0) (fX9_soft (xs (i + 1)) (xs (i + 2)) (xs (i + 3)) (xs (i + 4)) mB0) _)
  exact ⟨r, o_c_now_bonds0_terms, o_c_now_bonds1_terms, o_c_now_bonds2_terms, r, n_bonds, e1, e2, rfl⟩
theorem pu_13 (xs : Nat → Int32) (i : Nat) : ∃ (r1 : Int32) (o_c_tape_size : Int32) (o_c_tape_length : Int32) (o_c_tape_place : Int32) (o_c_tape_fault : Int32) (o_c_tape_faultPlace : Int32) (o_c_tape_begin : Int32) (o_c_tape_draft_terms : Nat → Int32) (o_c_now_bonds0_terms : Nat → Int32) (o_c_now_bonds1_terms : Nat → Int32) (o_c_now_bonds2_terms : Nat → Int32) (r2 : Int32) (n_taped : Int32) (n_bonds : Nat → Int32) (n_spot : Int32) (n_textLong : Int32) (n_fault : Int32) (n_number : Int32) (n_numberAt : Int32) (n_figures : Int32), fX8_terms (xs (i + 1)) (xs (i + 2)) 0 0 0 0 0 0 (fun _ => 0) bT0 bT0 bT0 bT0 = some (r1, o_c_tape_size, o_c_tape_length, o_c_tape_place, o_c_tape_fault, o_c_tape_faultPlace, o_c_tape_begin, o_c_tape_draft_terms, o_c_now_bonds0_terms, o_c_now_bonds1_terms, o_c_now_bonds2_terms) ∧ fX9_terms (xs (i + 1)) (xs (i + 2)) (fun _ => 0) 0 mB0 0 0 0 0 0 0 = some (r2, n_taped, n_bonds, n_spot, n_textLong, n_fault, n_number, n_numberAt, n_figures) ∧ r1 = r2 := by
  generalize xs (i + 1) = a1
  generalize xs (i + 2) = a2
  by_cases h1 : inr a1 0 2
  rotate_left
  · exact ⟨_, _, _, _, _, _, _, _, _, _, _, _, _, _, _, _, _, _, _, _, (by unfold fX8_terms; rw [isb_eq a1, bI_f h1, bd1_mk, if_pos rfl]), (by unfold fX9_terms; rw [isb9 a1, bI_f h1, bd1_mk, if_pos rfl]), rfl⟩
  by_cases h2 : inr a2 1 100
  rotate_left
  · exact ⟨_, _, _, _, _, _, _, _, _, _, _, _, _, _, _, _, _, _, _, _, (by unfold fX8_terms; rw [isb_eq a1, bI_t h1, bd1_mk, if_neg one_ne, wi_eq (x := a2) (A := 1) (B := 100) rfl rfl, bI_f h2, bd1_mk, if_pos rfl]), (by unfold fX9_terms; rw [isb9 a1, bI_t h1, bd1_mk, if_neg one_ne, in_eq (x := a2) (A := 1) (B := 100) rfl rfl, bI_f h2, bd1_mk, if_pos rfl]), rfl⟩
  obtain ⟨n1, rfl, l1, u1, _⟩ := inr_n h1 (by decide)
  obtain ⟨n2, rfl, l2, u2, _⟩ := inr_n h2 (by decide)
  have H : ∀ n1, n1 < 3 → ∀ n2, n2 < 101 → (fX8_terms (nI n1) (nI n2) 0 0 0 0 0 0 (fun _ => 0) bT0 bT0 bT0 bT0).map Prod.fst = (fX9_terms (nI n1) (nI n2) (fun _ => 0) 0 mB0 0 0 0 0 0 0).map Prod.fst ∧ (fX8_terms (nI n1) (nI n2) 0 0 0 0 0 0 (fun _ => 0) bT0 bT0 bT0 bT0).isSome = true := by decide +kernel
  obtain ⟨r1, ⟨o_c_tape_size, o_c_tape_length, o_c_tape_place, o_c_tape_fault, o_c_tape_faultPlace, o_c_tape_begin, o_c_tape_draft_terms, o_c_now_bonds0_terms, o_c_now_bonds1_terms, o_c_now_bonds2_terms⟩, r2, ⟨n_taped, n_bonds, n_spot, n_textLong, n_fault, n_number, n_numberAt, n_figures⟩, e1, e2, e3⟩ := pk2 (H n1 (by omega) n2 (by omega)).1 (H n1 (by omega) n2 (by omega)).2
  exact ⟨r1, o_c_tape_size, o_c_tape_length, o_c_tape_place, o_c_tape_fault, o_c_tape_faultPlace, o_c_tape_begin, o_c_tape_draft_terms, o_c_now_bonds0_terms, o_c_now_bonds1_terms, o_c_now_bonds2_terms, r2, n_taped, n_bonds, n_spot, n_textLong, n_fault, n_number, n_numberAt, n_figures, e1, e2, e3⟩
theorem pu_14 (xs : Nat → Int32) (i : Nat) : ∃ (r1 : Int32) (r2 : Int32), fX8_told (xs (i + 1)) (xs (i + 2)) bT0 bT0 bT0 = some (r1) ∧ fX9_told (xs (i + 1)) (xs (i + 2)) mB0 = some (r2) ∧ r1 = r2 := by
  generalize xs (i + 1) = a
  generalize xs (i + 2) = b
  by_cases h1 : inr a 0 2
  rotate_left
  · exact ⟨_, _, (by unfold fX8_told; rw [isb_eq, bI_f h1, bd1_mk, if_pos rfl]), (by unfold fX9_told; rw [isb9, bI_f h1, bd1_mk, if_pos rfl]), rfl⟩
  by_cases h2 : inr b 0 35
  rotate_left
  · have q07 : ¬ inr b 0 7 := fun h => h2 ⟨by have := h.1; omega, by have := h.2; omega⟩
    have q01 : ¬ inr b 0 1 := fun h => h2 ⟨by have := h.1; omega, by have := h.2; omega⟩
    have q23 : ¬ inr b 2 3 := fun h => h2 ⟨by have := h.1; omega, by have := h.2; omega⟩
    have q47 : ¬ inr b 4 7 := fun h => h2 ⟨by have := h.1; omega, by have := h.2; omega⟩
    have q11 : ¬ inr b 11 16 := fun h => h2 ⟨by have := h.1; omega, by have := h.2; omega⟩
    have q20 : ¬ inr b 20 25 := fun h => h2 ⟨by have := h.1; omega, by have := h.2; omega⟩
    have q30 : ¬ inr b 30 35 := fun h => h2 ⟨by have := h.1; omega, by have := h.2; omega⟩
    have ht : fX0_hasTerm b = some 0 := by
      unfold fX0_hasTerm
      rw [wi_eq (x := b) (A := 0) (B := 7) rfl rfl, bI_f q07, bd1_mk, if_pos rfl, wi_eq (x := b) (A := 11) (B := 16) rfl rfl, bI_f q11, bd1_mk, if_pos rfl, wi_eq (x := b) (A := 20) (B := 25) rfl rfl, bI_f q20, bd1_mk, if_pos rfl, wi_eq (x := b) (A := 30) (B := 35) rfl rfl, bI_f q30, bd1_mk, if_pos rfl, bd1_mk]
      rfl
    exact ⟨_, _, (by unfold fX8_told; rw [isb_eq, bI_t h1, bd1_mk, if_neg one_ne, ht, bd1_mk, if_pos rfl]), (by unfold fX9_told; rw [isb9, bI_t h1, bd1_mk, if_neg one_ne, in_eq (x := b) (A := 0) (B := 1) rfl rfl, bI_f q01, bd1_mk, if_pos rfl, in_eq (x := b) (A := 2) (B := 3) rfl rfl, bI_f q23, bd1_mk, if_pos rfl, in_eq (x := b) (A := 4) (B := 7) rfl rfl, bI_f q47, bd1_mk, if_pos rfl, in_eq (x := b) (A := 11) (B := 16) rfl rfl, bI_f q11, bd1_mk, if_pos rfl, in_eq (x := b) (A := 20) (B := 25) rfl rfl, bI_f q20, bd1_mk, if_pos rfl, in_eq (x := b) (A := 30) (B := 35) rfl rfl, bI_f q30, bd1_mk, if_pos rfl, bd1_mk]), rfl⟩
  obtain ⟨n1, rfl, l1, u1, _⟩ := inr_n h1 (by decide)
  obtain ⟨n2, rfl, l2, u2, _⟩ := inr_n h2 (by decide)
  have H : ∀ n1, n1 < 3 → ∀ n2, n2 < 36 → fX8_told (nI n1) (nI n2) bT0 bT0 bT0 = fX9_told (nI n1) (nI n2) mB0 ∧ (fX8_told (nI n1) (nI n2) bT0 bT0 bT0).isSome = true := by decide +kernel
  obtain ⟨r1, r2, e1, e2, e3⟩ := pk2c (H n1 (by omega) n2 (by omega)).1 (H n1 (by omega) n2 (by omega)).2
  exact ⟨r1, r2, e1, e2, e3⟩
theorem pu_16 (xs : Nat → Int32) (i : Nat) : ∃ (r1 : Int32) (o_c_tape_size : Int32) (o_c_now_row : Int32) (r2 : Int32) (n_taped : Int32) (n_moves : Nat → Int32) (n_moved : Int32), fX8_path (xs (i + 1)) 0 (fun _ => 0) 1 tP0 = some (r1, o_c_tape_size, o_c_now_row) ∧ fX9_path (xs (i + 1)) (fun _ => 0) 0 mT0 (fun _ => 0) 0 = some (r2, n_taped, n_moves, n_moved) ∧ r1 = r2 := by
  generalize xs (i + 1) = a1
  by_cases h1 : inr a1 0 3
  rotate_left
  · exact ⟨_, _, _, _, _, _, _, (by unfold fX8_path; rw [isd8 a1, bI_f h1, bd1_mk, if_pos rfl]), (by unfold fX9_path; rw [isd9 a1, bI_f h1, bd1_mk, if_pos rfl]), rfl⟩
  obtain ⟨n1, rfl, l1, u1, _⟩ := inr_n h1 (by decide)
  have H : ∀ n1, n1 < 4 → (fX8_path (nI n1) 0 (fun _ => 0) 1 tP0).map Prod.fst = (fX9_path (nI n1) (fun _ => 0) 0 mT0 (fun _ => 0) 0).map Prod.fst ∧ (fX8_path (nI n1) 0 (fun _ => 0) 1 tP0).isSome = true := by decide +kernel
  obtain ⟨r1, ⟨o_c_tape_size, o_c_now_row⟩, r2, ⟨n_taped, n_moves, n_moved⟩, e1, e2, e3⟩ := pk2 (H n1 (by omega)).1 (H n1 (by omega)).2
  exact ⟨r1, o_c_tape_size, o_c_now_row, r2, n_taped, n_moves, n_moved, e1, e2, e3⟩
theorem pu_17 (xs : Nat → Int32) (i : Nat) : ∃ (r1 : Int32) (o_c_now_row : Int32) (o_c_draws_x : Int32) (r2 : Int32) (n_moves : Nat → Int32) (n_moved : Int32) (n_drawnNow : Int32), fX8_drawn (xs (i + 1)) (xs (i + 2)) 1 tP0 0 = some (r1, o_c_now_row, o_c_draws_x) ∧ fX9_drawn (xs (i + 1)) (xs (i + 2)) mT0 (fun _ => 0) 0 0 = some (r2, n_moves, n_moved, n_drawnNow) ∧ r1 = r2 := by
  obtain ⟨r, ⟨o_c_now_row, o_c_draws_x⟩, ⟨n_moves, n_moved, n_drawnNow⟩, e1, e2, _⟩ := (q_drawn fC0 fR0 fK0 fP0 _ _ _ _ : Sx2 (fX8_drawn (xs (i + 1)) (xs (i + 2)) 1 tP0 0) (fX9_drawn (xs (i + 1)) (xs (i + 2)) mT0 (fun _ => 0) 0 0) _)
  exact ⟨r, o_c_now_row, o_c_draws_x, r, n_moves, n_moved, n_drawnNow, e1, e2, rfl⟩
theorem pu_30 (xs : Nat → Int32) (i : Nat) : ∃ (r1 : Int32) (o_c_sheet_tree_parts : Nat → Int32) (o_c_sheet_bond_terms : Nat → Int32) (o_c_sheet_penceByUps : Nat → Int64) (o_c_sheet_pence : Nat → Int64) (o_c_sheet_turned : Nat → Int64) (o_c_sheet_called : Nat → Int64) (o_c_sheet_hold : Nat → Int64) (o_c_sheet_value : Nat → Int64) (o_c_sheet_marks : Nat → Int32) (o_c_sheet_act : Nat → Int32) (r2 : Int32) (n_bonds : Nat → Int32) (n_days : Int32) (n_likely : Int32) (n_outOf : Int32) (n_rateNow : Int32) (n_pence : Nat → Int64) (n_top : Int64) (n_bottom : Int64) (n_worth : Nat → Int64) (n_hold : Nat → Int64) (n_acts : Nat → Int32), fX8_fairCoupon (xs (i + 1)) (lj (xs (i + 2)) (xs (i + 3))) tP0 bT0 bT0 bT0 tP0 bT0 (fun _ => 0) (fun _ => 0) (fun _ => 0) (fun _ => 0) (fun _ => 0) (fun _ => 0) (fun _ => 0) (fun _ => 0) = some (r1, o_c_sheet_tree_parts, o_c_sheet_bond_terms, o_c_sheet_penceByUps, o_c_sheet_pence, o_c_sheet_turned, o_c_sheet_called, o_c_sheet_hold, o_c_sheet_value, o_c_sheet_marks, o_c_sheet_act) ∧ fX9_fairCoupon (xs (i + 1)) (lj (xs (i + 2)) (xs (i + 3))) mT0 mB0 0 0 0 0 (fun _ => 0) 0 0 (fun _ => 0) (fun _ => 0) (fun _ => 0) = some (r2, n_bonds, n_days, n_likely, n_outOf, n_rateNow, n_pence, n_top, n_bottom, n_worth, n_hold, n_acts) ∧ r1 = r2 := by
  obtain ⟨r, ⟨o_c_sheet_tree_parts, o_c_sheet_bond_terms, o_c_sheet_penceByUps, o_c_sheet_pence, o_c_sheet_turned, o_c_sheet_called, o_c_sheet_hold, o_c_sheet_value, o_c_sheet_marks, o_c_sheet_act⟩, ⟨n_bonds, n_days, n_likely, n_outOf, n_rateNow, n_pence, n_top, n_bottom, n_worth, n_hold, n_acts⟩, e1, e2, _⟩ := (q_fairCoupon fC0 fR0 fK0 fB0 fb0 _ _ _ _ _ _ _ _ _ _ _ _ _ _ _ _ _ _ _ _ _ _ : Sx2 (fX8_fairCoupon (xs (i + 1)) (lj (xs (i + 2)) (xs (i + 3))) tP0 bT0 bT0 bT0 tP0 bT0 (fun _ => 0) (fun _ => 0) (fun _ => 0) (fun _ => 0) (fun _ => 0) (fun _ => 0) (fun _ => 0) (fun _ => 0)) (fX9_fairCoupon (xs (i + 1)) (lj (xs (i + 2)) (xs (i + 3))) mT0 mB0 0 0 0 0 (fun _ => 0) 0 0 (fun _ => 0) (fun _ => 0) (fun _ => 0)) _)
  exact ⟨r, o_c_sheet_tree_parts, o_c_sheet_bond_terms, o_c_sheet_penceByUps, o_c_sheet_pence, o_c_sheet_turned, o_c_sheet_called, o_c_sheet_hold, o_c_sheet_value, o_c_sheet_marks, o_c_sheet_act, r, n_bonds, n_days, n_likely, n_outOf, n_rateNow, n_pence, n_top, n_bottom, n_worth, n_hold, n_acts, e1, e2, rfl⟩
theorem pu_31 (xs : Nat → Int32) (i : Nat) : ∃ (r1 : Int32) (o_c_sheet_tree_parts : Nat → Int32) (o_c_sheet_bond_terms : Nat → Int32) (o_c_sheet_penceByUps : Nat → Int64) (o_c_sheet_pence : Nat → Int64) (o_c_sheet_turned : Nat → Int64) (o_c_sheet_called : Nat → Int64) (o_c_sheet_hold : Nat → Int64) (o_c_sheet_value : Nat → Int64) (o_c_sheet_marks : Nat → Int32) (o_c_sheet_act : Nat → Int32) (r2 : Int32) (n_bonds : Nat → Int32) (n_days : Int32) (n_likely : Int32) (n_outOf : Int32) (n_rateNow : Int32) (n_pence : Nat → Int64) (n_top : Int64) (n_bottom : Int64) (n_worth : Nat → Int64) (n_hold : Nat → Int64) (n_acts : Nat → Int32), fX8_fairRatio (xs (i + 1)) (lj (xs (i + 2)) (xs (i + 3))) tP0 bT0 bT0 bT0 tP0 bT0 (fun _ => 0) (fun _ => 0) (fun _ => 0) (fun _ => 0) (fun _ => 0) (fun _ => 0) (fun _ => 0) (fun _ => 0) = some (r1, o_c_sheet_tree_parts, o_c_sheet_bond_terms, o_c_sheet_penceByUps, o_c_sheet_pence, o_c_sheet_turned, o_c_sheet_called, o_c_sheet_hold, o_c_sheet_value, o_c_sheet_marks, o_c_sheet_act) ∧ fX9_fairRatio (xs (i + 1)) (lj (xs (i + 2)) (xs (i + 3))) mT0 mB0 0 0 0 0 (fun _ => 0) 0 0 (fun _ => 0) (fun _ => 0) (fun _ => 0) = some (r2, n_bonds, n_days, n_likely, n_outOf, n_rateNow, n_pence, n_top, n_bottom, n_worth, n_hold, n_acts) ∧ r1 = r2 := by
  obtain ⟨r, ⟨o_c_sheet_tree_parts, o_c_sheet_bond_terms, o_c_sheet_penceByUps, o_c_sheet_pence, o_c_sheet_turned, o_c_sheet_called, o_c_sheet_hold, o_c_sheet_value, o_c_sheet_marks, o_c_sheet_act⟩, ⟨n_bonds, n_days, n_likely, n_outOf, n_rateNow, n_pence, n_top, n_bottom, n_worth, n_hold, n_acts⟩, e1, e2, _⟩ := (q_fairRatio fC0 fR0 fK0 fB0 fb0 _ _ _ _ _ _ _ _ _ _ _ _ _ _ _ _ _ _ _ _ _ _ : Sx2 (fX8_fairRatio (xs (i + 1)) (lj (xs (i + 2)) (xs (i + 3))) tP0 bT0 bT0 bT0 tP0 bT0 (fun _ => 0) (fun _ => 0) (fun _ => 0) (fun _ => 0) (fun _ => 0) (fun _ => 0) (fun _ => 0) (fun _ => 0)) (fX9_fairRatio (xs (i + 1)) (lj (xs (i + 2)) (xs (i + 3))) mT0 mB0 0 0 0 0 (fun _ => 0) 0 0 (fun _ => 0) (fun _ => 0) (fun _ => 0)) _)
  exact ⟨r, o_c_sheet_tree_parts, o_c_sheet_bond_terms, o_c_sheet_penceByUps, o_c_sheet_pence, o_c_sheet_turned, o_c_sheet_called, o_c_sheet_hold, o_c_sheet_value, o_c_sheet_marks, o_c_sheet_act, r, n_bonds, n_days, n_likely, n_outOf, n_rateNow, n_pence, n_top, n_bottom, n_worth, n_hold, n_acts, e1, e2, rfl⟩
theorem pu_32 (xs : Nat → Int32) (i : Nat) : ∃ (r1 : Int64) (o_c_sheet_tree_parts : Nat → Int32) (o_c_sheet_bond_terms : Nat → Int32) (o_c_sheet_penceByUps : Nat → Int64) (o_c_sheet_pence : Nat → Int64) (o_c_sheet_turned : Nat → Int64) (o_c_sheet_called : Nat → Int64) (o_c_sheet_hold : Nat → Int64) (o_c_sheet_value : Nat → Int64) (o_c_sheet_marks : Nat → Int32) (o_c_sheet_act : Nat → Int32) (r2 : Int64) (n_bonds : Nat → Int32) (n_days : Int32) (n_likely : Int32) (n_outOf : Int32) (n_rateNow : Int32) (n_pence : Nat → Int64) (n_top : Int64) (n_bottom : Int64) (n_worth : Nat → Int64) (n_hold : Nat → Int64) (n_acts : Nat → Int32), fX8_bestCall (xs (i + 1)) (xs (i + 2)) (xs (i + 3)) tP0 bT0 bT0 bT0 tP0 bT0 (fun _ => 0) (fun _ => 0) (fun _ => 0) (fun _ => 0) (fun _ => 0) (fun _ => 0) (fun _ => 0) (fun _ => 0) = some (r1, o_c_sheet_tree_parts, o_c_sheet_bond_terms, o_c_sheet_penceByUps, o_c_sheet_pence, o_c_sheet_turned, o_c_sheet_called, o_c_sheet_hold, o_c_sheet_value, o_c_sheet_marks, o_c_sheet_act) ∧ fX9_bestCall (xs (i + 1)) (xs (i + 2)) (xs (i + 3)) mT0 mB0 0 0 0 0 (fun _ => 0) 0 0 (fun _ => 0) (fun _ => 0) (fun _ => 0) = some (r2, n_bonds, n_days, n_likely, n_outOf, n_rateNow, n_pence, n_top, n_bottom, n_worth, n_hold, n_acts) ∧ r1 = r2 := by
  obtain ⟨r, ⟨o_c_sheet_tree_parts, o_c_sheet_bond_terms, o_c_sheet_penceByUps, o_c_sheet_pence, o_c_sheet_turned, o_c_sheet_called, o_c_sheet_hold, o_c_sheet_value, o_c_sheet_marks, o_c_sheet_act⟩, ⟨n_bonds, n_days, n_likely, n_outOf, n_rateNow, n_pence, n_top, n_bottom, n_worth, n_hold, n_acts⟩, e1, e2, _⟩ := (q_bestCall fC0 fR0 fK0 fB0 fb0 _ _ _ _ _ _ _ _ _ _ _ _ _ _ _ _ _ _ _ _ _ _ _ : Sx2 (fX8_bestCall (xs (i + 1)) (xs (i + 2)) (xs (i + 3)) tP0 bT0 bT0 bT0 tP0 bT0 (fun _ => 0) (fun _ => 0) (fun _ => 0) (fun _ => 0) (fun _ => 0) (fun _ => 0) (fun _ => 0) (fun _ => 0)) (fX9_bestCall (xs (i + 1)) (xs (i + 2)) (xs (i + 3)) mT0 mB0 0 0 0 0 (fun _ => 0) 0 0 (fun _ => 0) (fun _ => 0) (fun _ => 0)) _)
  exact ⟨r, o_c_sheet_tree_parts, o_c_sheet_bond_terms, o_c_sheet_penceByUps, o_c_sheet_pence, o_c_sheet_turned, o_c_sheet_called, o_c_sheet_hold, o_c_sheet_value, o_c_sheet_marks, o_c_sheet_act, r, n_bonds, n_days, n_likely, n_outOf, n_rateNow, n_pence, n_top, n_bottom, n_worth, n_hold, n_acts, e1, e2, rfl⟩
theorem pu_33 (xs : Nat → Int32) (i : Nat) : ∃ (r1 : Int64) (o_c_sheet_tree_parts : Nat → Int32) (o_c_sheet_bond_terms : Nat → Int32) (o_c_sheet_penceByUps : Nat → Int64) (o_c_sheet_pence : Nat → Int64) (o_c_sheet_turned : Nat → Int64) (o_c_sheet_called : Nat → Int64) (o_c_sheet_hold : Nat → Int64) (o_c_sheet_value : Nat → Int64) (o_c_sheet_marks : Nat → Int32) (o_c_sheet_act : Nat → Int32) (r2 : Int64) (n_bonds : Nat → Int32) (n_days : Int32) (n_likely : Int32) (n_outOf : Int32) (n_rateNow : Int32) (n_pence : Nat → Int64) (n_top : Int64) (n_bottom : Int64) (n_worth : Nat → Int64) (n_hold : Nat → Int64) (n_acts : Nat → Int32), fX8_bestPut (xs (i + 1)) (xs (i + 2)) (xs (i + 3)) tP0 bT0 bT0 bT0 tP0 bT0 (fun _ => 0) (fun _ => 0) (fun _ => 0) (fun _ => 0) (fun _ => 0) (fun _ => 0) (fun _ => 0) (fun _ => 0) = some (r1, o_c_sheet_tree_parts, o_c_sheet_bond_terms, o_c_sheet_penceByUps, o_c_sheet_pence, o_c_sheet_turned, o_c_sheet_called, o_c_sheet_hold, o_c_sheet_value, o_c_sheet_marks, o_c_sheet_act) ∧ fX9_bestPut (xs (i + 1)) (xs (i + 2)) (xs (i + 3)) mT0 mB0 0 0 0 0 (fun _ => 0) 0 0 (fun _ => 0) (fun _ => 0) (fun _ => 0) = some (r2, n_bonds, n_days, n_likely, n_outOf, n_rateNow, n_pence, n_top, n_bottom, n_worth, n_hold, n_acts) ∧ r1 = r2 := by
  obtain ⟨r, ⟨o_c_sheet_tree_parts, o_c_sheet_bond_terms, o_c_sheet_penceByUps, o_c_sheet_pence, o_c_sheet_turned, o_c_sheet_called, o_c_sheet_hold, o_c_sheet_value, o_c_sheet_marks, o_c_sheet_act⟩, ⟨n_bonds, n_days, n_likely, n_outOf, n_rateNow, n_pence, n_top, n_bottom, n_worth, n_hold, n_acts⟩, e1, e2, _⟩ := (q_bestPut fC0 fR0 fK0 fB0 fb0 _ _ _ _ _ _ _ _ _ _ _ _ _ _ _ _ _ _ _ _ _ _ _ : Sx2 (fX8_bestPut (xs (i + 1)) (xs (i + 2)) (xs (i + 3)) tP0 bT0 bT0 bT0 tP0 bT0 (fun _ => 0) (fun _ => 0) (fun _ => 0) (fun _ => 0) (fun _ => 0) (fun _ => 0) (fun _ => 0) (fun _ => 0)) (fX9_bestPut (xs (i + 1)) (xs (i + 2)) (xs (i + 3)) mT0 mB0 0 0 0 0 (fun _ => 0) 0 0 (fun _ => 0) (fun _ => 0) (fun _ => 0)) _)
  exact ⟨r, o_c_sheet_tree_parts, o_c_sheet_bond_terms, o_c_sheet_penceByUps, o_c_sheet_pence, o_c_sheet_turned, o_c_sheet_called, o_c_sheet_hold, o_c_sheet_value, o_c_sheet_marks, o_c_sheet_act, r, n_bonds, n_days, n_likely, n_outOf, n_rateNow, n_pence, n_top, n_bottom, n_worth, n_hold, n_acts, e1, e2, rfl⟩
theorem pu_34 (xs : Nat → Int32) (i : Nat) : ∃ (r1 : Int32) (o_c_sheet_tree_parts : Nat → Int32) (o_c_sheet_bond_terms : Nat → Int32) (o_c_sheet_penceByUps : Nat → Int64) (o_c_sheet_pence : Nat → Int64) (o_c_sheet_turned : Nat → Int64) (o_c_sheet_called : Nat → Int64) (o_c_sheet_hold : Nat → Int64) (o_c_sheet_value : Nat → Int64) (o_c_sheet_marks : Nat → Int32) (o_c_sheet_act : Nat → Int32) (r2 : Int32) (n_days : Int32) (n_likely : Int32) (n_outOf : Int32) (n_rateNow : Int32) (n_pence : Nat → Int64) (n_top : Int64) (n_bottom : Int64) (n_worth : Nat → Int64) (n_hold : Nat → Int64) (n_acts : Nat → Int32), fX8_fairRate (xs (i + 1)) (lj (xs (i + 2)) (xs (i + 3))) tP0 bT0 bT0 bT0 tP0 bT0 (fun _ => 0) (fun _ => 0) (fun _ => 0) (fun _ => 0) (fun _ => 0) (fun _ => 0) (fun _ => 0) (fun _ => 0) = some (r1, o_c_sheet_tree_parts, o_c_sheet_bond_terms, o_c_sheet_penceByUps, o_c_sheet_pence, o_c_sheet_turned, o_c_sheet_called, o_c_sheet_hold, o_c_sheet_value, o_c_sheet_marks, o_c_sheet_act) ∧ fX9_fairRate (xs (i + 1)) (lj (xs (i + 2)) (xs (i + 3))) mT0 mB0 0 0 0 0 (fun _ => 0) 0 0 (fun _ => 0) (fun _ => 0) (fun _ => 0) = some (r2, n_days, n_likely, n_outOf, n_rateNow, n_pence, n_top, n_bottom, n_worth, n_hold, n_acts) ∧ r1 = r2 := by
  obtain ⟨r, ⟨o_c_sheet_tree_parts, o_c_sheet_bond_terms, o_c_sheet_penceByUps, o_c_sheet_pence, o_c_sheet_turned, o_c_sheet_called, o_c_sheet_hold, o_c_sheet_value, o_c_sheet_marks, o_c_sheet_act⟩, ⟨n_days, n_likely, n_outOf, n_rateNow, n_pence, n_top, n_bottom, n_worth, n_hold, n_acts⟩, e1, e2, _⟩ := (q_fairRate fC0 fR0 fK0 fB0 fb0 _ _ _ _ _ _ _ _ _ _ _ _ _ _ _ _ _ _ _ _ _ _ : Sx2 (fX8_fairRate (xs (i + 1)) (lj (xs (i + 2)) (xs (i + 3))) tP0 bT0 bT0 bT0 tP0 bT0 (fun _ => 0) (fun _ => 0) (fun _ => 0) (fun _ => 0) (fun _ => 0) (fun _ => 0) (fun _ => 0) (fun _ => 0)) (fX9_fairRate (xs (i + 1)) (lj (xs (i + 2)) (xs (i + 3))) mT0 mB0 0 0 0 0 (fun _ => 0) 0 0 (fun _ => 0) (fun _ => 0) (fun _ => 0)) _)
  exact ⟨r, o_c_sheet_tree_parts, o_c_sheet_bond_terms, o_c_sheet_penceByUps, o_c_sheet_pence, o_c_sheet_turned, o_c_sheet_called, o_c_sheet_hold, o_c_sheet_value, o_c_sheet_marks, o_c_sheet_act, r, n_days, n_likely, n_outOf, n_rateNow, n_pence, n_top, n_bottom, n_worth, n_hold, n_acts, e1, e2, rfl⟩
theorem pu_36 (xs : Nat → Int32) (i : Nat) : ∃ (r1 : Int64) (o_c_sheet_tree_parts : Nat → Int32) (o_c_sheet_bond_terms : Nat → Int32) (o_c_sheet_penceByUps : Nat → Int64) (o_c_sheet_pence : Nat → Int64) (o_c_sheet_turned : Nat → Int64) (o_c_sheet_called : Nat → Int64) (o_c_sheet_hold : Nat → Int64) (o_c_sheet_value : Nat → Int64) (o_c_sheet_marks : Nat → Int32) (o_c_sheet_act : Nat → Int32) (r2 : Int64) (n_days : Int32) (n_likely : Int32) (n_outOf : Int32) (n_rateNow : Int32) (n_pence : Nat → Int64) (n_top : Int64) (n_bottom : Int64) (n_worth : Nat → Int64) (n_hold : Nat → Int64) (n_acts : Nat → Int32), fX8_shifted (xs (i + 1)) (xs (i + 2)) (xs (i + 3)) (xs (i + 4)) tP0 bT0 bT0 bT0 tP0 bT0 (fun _ => 0) (fun _ => 0) (fun _ => 0) (fun _ => 0) (fun _ => 0) (fun _ => 0) (fun _ => 0) (fun _ => 0) = some (r1, o_c_sheet_tree_parts, o_c_sheet_bond_terms, o_c_sheet_penceByUps, o_c_sheet_pence, o_c_sheet_turned, o_c_sheet_called, o_c_sheet_hold, o_c_sheet_value, o_c_sheet_marks, o_c_sheet_act) ∧ fX9_shifted (xs (i + 1)) (xs (i + 2)) (xs (i + 3)) (xs (i + 4)) mT0 mB0 0 0 0 0 (fun _ => 0) 0 0 (fun _ => 0) (fun _ => 0) (fun _ => 0) = some (r2, n_days, n_likely, n_outOf, n_rateNow, n_pence, n_top, n_bottom, n_worth, n_hold, n_acts) ∧ r1 = r2 := by
  obtain ⟨r, ⟨o_c_sheet_tree_parts, o_c_sheet_bond_terms, o_c_sheet_penceByUps, o_c_sheet_pence, o_c_sheet_turned, o_c_sheet_called, o_c_sheet_hold, o_c_sheet_value, o_c_sheet_marks, o_c_sheet_act⟩, ⟨n_days, n_likely, n_outOf, n_rateNow, n_pence, n_top, n_bottom, n_worth, n_hold, n_acts⟩, e1, e2, _⟩ := (q_shifted fC0 fR0 fK0 fB0 fb0 _ _ _ _ _ _ _ _ _ _ _ _ _ _ _ _ _ _ _ _ _ _ _ _ : Sx2 (fX8_shifted (xs (i + 1)) (xs (i + 2)) (xs (i + 3)) (xs (i + 4)) tP0 bT0 bT0 bT0 tP0 bT0 (fun _ => 0) (fun _ => 0) (fun _ => 0) (fun _ => 0) (fun _ => 0) (fun _ => 0) (fun _ => 0) (fun _ => 0)) (fX9_shifted (xs (i + 1)) (xs (i + 2)) (xs (i + 3)) (xs (i + 4)) mT0 mB0 0 0 0 0 (fun _ => 0) 0 0 (fun _ => 0) (fun _ => 0) (fun _ => 0)) _)
  exact ⟨r, o_c_sheet_tree_parts, o_c_sheet_bond_terms, o_c_sheet_penceByUps, o_c_sheet_pence, o_c_sheet_turned, o_c_sheet_called, o_c_sheet_hold, o_c_sheet_value, o_c_sheet_marks, o_c_sheet_act, r, n_days, n_likely, n_outOf, n_rateNow, n_pence, n_top, n_bottom, n_worth, n_hold, n_acts, e1, e2, rfl⟩
theorem pu_41 (xs : Nat → Int32) (i : Nat) : ∃ (r1 : Int64) (o_c_sheet_tree_parts : Nat → Int32) (o_c_sheet_bond_terms : Nat → Int32) (o_c_sheet_penceByUps : Nat → Int64) (o_c_sheet_pence : Nat → Int64) (o_c_sheet_turned : Nat → Int64) (o_c_sheet_called : Nat → Int64) (o_c_sheet_hold : Nat → Int64) (o_c_sheet_value : Nat → Int64) (o_c_sheet_marks : Nat → Int32) (o_c_sheet_act : Nat → Int32) (r2 : Int64) (n_days : Int32) (n_likely : Int32) (n_outOf : Int32) (n_rateNow : Int32) (n_pence : Nat → Int64) (n_top : Int64) (n_bottom : Int64) (n_worth : Nat → Int64) (n_hold : Nat → Int64) (n_acts : Nat → Int32) (n_sDay : Int32) (n_sUps : Int32) (n_sUp : Int32) (n_sMarks : Int32), fX8_byRule (xs (i + 1)) (xs (i + 2)) (xs (i + 3)) (nz (xs (i + 4))) 1 tP0 bT0 bT0 bT0 tP0 bT0 (fun _ => 0) (fun _ => 0) (fun _ => 0) (fun _ => 0) (fun _ => 0) (fun _ => 0) (fun _ => 0) (fun _ => 0) = some (r1, o_c_sheet_tree_parts, o_c_sheet_bond_terms, o_c_sheet_penceByUps, o_c_sheet_pence, o_c_sheet_turned, o_c_sheet_called, o_c_sheet_hold, o_c_sheet_value, o_c_sheet_marks, o_c_sheet_act) ∧ fX9_byRule (xs (i + 1)) (xs (i + 2)) (xs (i + 3)) (nz (xs (i + 4))) mT0 mB0 (fun _ => 0) 0 0 0 0 0 (fun _ => 0) 0 0 (fun _ => 0) (fun _ => 0) (fun _ => 0) 0 0 0 0 = some (r2, n_days, n_likely, n_outOf, n_rateNow, n_pence, n_top, n_bottom, n_worth, n_hold, n_acts, n_sDay, n_sUps, n_sUp, n_sMarks) ∧ r1 = r2 := by
  have H := q_byRule fC0 fR0 fK0 fB0 fb0 (mv := fun _ => 0) (r := 1) (by omega) (by omega) (by decide +kernel) MV.one (xs (i + 1)) (xs (i + 2)) (xs (i + 3)) (nz (xs (i + 4))) tP0 bT0 (fun _ => 0) (fun _ => 0) (fun _ => 0) (fun _ => 0) (fun _ => 0) (fun _ => 0) (fun _ => 0) (fun _ => 0) 0 0 0 0 (fun _ => 0) 0 0 (fun _ => 0) (fun _ => 0) (fun _ => 0) 0 0 0 0
  rw [show nI (dR 1) = (0 : Int32) by decide +kernel, show nI 1 = (1 : Int32) from rfl] at H
  obtain ⟨r, ⟨o_c_sheet_tree_parts, o_c_sheet_bond_terms, o_c_sheet_penceByUps, o_c_sheet_pence, o_c_sheet_turned, o_c_sheet_called, o_c_sheet_hold, o_c_sheet_value, o_c_sheet_marks, o_c_sheet_act⟩, ⟨n_days, n_likely, n_outOf, n_rateNow, n_pence, n_top, n_bottom, n_worth, n_hold, n_acts, n_sDay, n_sUps, n_sUp, n_sMarks⟩, e1, e2, _⟩ := H
  exact ⟨r, o_c_sheet_tree_parts, o_c_sheet_bond_terms, o_c_sheet_penceByUps, o_c_sheet_pence, o_c_sheet_turned, o_c_sheet_called, o_c_sheet_hold, o_c_sheet_value, o_c_sheet_marks, o_c_sheet_act, r, n_days, n_likely, n_outOf, n_rateNow, n_pence, n_top, n_bottom, n_worth, n_hold, n_acts, n_sDay, n_sUps, n_sUp, n_sMarks, e1, e2, rfl⟩
theorem pu_42 (xs : Nat → Int32) (i : Nat) : ∃ (r1 : Int64) (o_c_sheet_tree_parts : Nat → Int32) (o_c_sheet_bond_terms : Nat → Int32) (o_c_sheet_penceByUps : Nat → Int64) (o_c_sheet_pence : Nat → Int64) (o_c_sheet_turned : Nat → Int64) (o_c_sheet_called : Nat → Int64) (o_c_sheet_hold : Nat → Int64) (o_c_sheet_value : Nat → Int64) (o_c_sheet_marks : Nat → Int32) (o_c_sheet_act : Nat → Int32) (o_c_draws_x : Int32) (r2 : Int64) (n_moves : Nat → Int32) (n_days : Int32) (n_likely : Int32) (n_outOf : Int32) (n_rateNow : Int32) (n_pence : Nat → Int64) (n_top : Int64) (n_bottom : Int64) (n_drawnNow : Int32) (n_worth : Nat → Int64) (n_hold : Nat → Int64) (n_acts : Nat → Int32) (n_sDay : Int32) (n_sUps : Int32) (n_sUp : Int32) (n_sMarks : Int32) (n_paidAll : Int64) (n_aside : Nat → Int32), fX8_run (xs (i + 1)) (xs (i + 2)) (xs (i + 3)) tP0 bT0 bT0 bT0 tP0 bT0 (fun _ => 0) (fun _ => 0) (fun _ => 0) (fun _ => 0) (fun _ => 0) (fun _ => 0) (fun _ => 0) (fun _ => 0) 0 = some (r1, o_c_sheet_tree_parts, o_c_sheet_bond_terms, o_c_sheet_penceByUps, o_c_sheet_pence, o_c_sheet_turned, o_c_sheet_called, o_c_sheet_hold, o_c_sheet_value, o_c_sheet_marks, o_c_sheet_act, o_c_draws_x) ∧ fX9_run (xs (i + 1)) (xs (i + 2)) (xs (i + 3)) mT0 mB0 (fun _ => 0) 0 0 0 0 (fun _ => 0) 0 0 0 (fun _ => 0) (fun _ => 0) (fun _ => 0) 0 0 0 0 0 (fun _ => 0) = some (r2, n_moves, n_days, n_likely, n_outOf, n_rateNow, n_pence, n_top, n_bottom, n_drawnNow, n_worth, n_hold, n_acts, n_sDay, n_sUps, n_sUp, n_sMarks, n_paidAll, n_aside) ∧ r1 = r2 := by
  obtain ⟨r, ⟨o_c_sheet_tree_parts, o_c_sheet_bond_terms, o_c_sheet_penceByUps, o_c_sheet_pence, o_c_sheet_turned, o_c_sheet_called, o_c_sheet_hold, o_c_sheet_value, o_c_sheet_marks, o_c_sheet_act, o_c_draws_x⟩, ⟨n_moves, n_days, n_likely, n_outOf, n_rateNow, n_pence, n_top, n_bottom, n_drawnNow, n_worth, n_hold, n_acts, n_sDay, n_sUps, n_sUp, n_sMarks, n_paidAll, n_aside⟩, e1, e2, _⟩ := (q_run fC0 fR0 fK0 fB0 fb0 _ _ _ _ _ _ _ _ _ _ _ _ _ _ _ _ _ _ _ _ _ _ _ _ _ _ _ _ _ _ _ : Sx2 (fX8_run (xs (i + 1)) (xs (i + 2)) (xs (i + 3)) tP0 bT0 bT0 bT0 tP0 bT0 (fun _ => 0) (fun _ => 0) (fun _ => 0) (fun _ => 0) (fun _ => 0) (fun _ => 0) (fun _ => 0) (fun _ => 0) 0) (fX9_run (xs (i + 1)) (xs (i + 2)) (xs (i + 3)) mT0 mB0 (fun _ => 0) 0 0 0 0 (fun _ => 0) 0 0 0 (fun _ => 0) (fun _ => 0) (fun _ => 0) 0 0 0 0 0 (fun _ => 0)) _)
  exact ⟨r, o_c_sheet_tree_parts, o_c_sheet_bond_terms, o_c_sheet_penceByUps, o_c_sheet_pence, o_c_sheet_turned, o_c_sheet_called, o_c_sheet_hold, o_c_sheet_value, o_c_sheet_marks, o_c_sheet_act, o_c_draws_x, r, n_moves, n_days, n_likely, n_outOf, n_rateNow, n_pence, n_top, n_bottom, n_drawnNow, n_worth, n_hold, n_acts, n_sDay, n_sUps, n_sUp, n_sMarks, n_paidAll, n_aside, e1, e2, rfl⟩
theorem pu_45 (xs : Nat → Int32) (i : Nat) : ∃ (r1 : Int64) (o_c_sheet_tree_parts : Nat → Int32) (o_c_sheet_bond_terms : Nat → Int32) (o_c_sheet_penceByUps : Nat → Int64) (o_c_sheet_pence : Nat → Int64) (o_c_sheet_turned : Nat → Int64) (o_c_sheet_called : Nat → Int64) (o_c_sheet_hold : Nat → Int64) (o_c_sheet_value : Nat → Int64) (o_c_sheet_marks : Nat → Int32) (o_c_sheet_act : Nat → Int32) (o_c_sheet_rowOfKey : Nat → Int32) (r2 : Int64) (n_days : Int32) (n_likely : Int32) (n_outOf : Int32) (n_rateNow : Int32) (n_pence : Nat → Int64) (n_top : Int64) (n_bottom : Int64) (n_worth : Nat → Int64) (n_hold : Nat → Int64) (n_way : Nat → Int64) (n_acts : Nat → Int32), fX8_table (xs (i + 1)) (xs (i + 2)) (xs (i + 3)) (xs (i + 4)) tP0 bT0 bT0 bT0 tP0 bT0 (fun _ => 0) (fun _ => 0) (fun _ => 0) (fun _ => 0) (fun _ => 0) (fun _ => 0) (fun _ => 0) (fun _ => 0) (fun _ => 0) = some (r1, o_c_sheet_tree_parts, o_c_sheet_bond_terms, o_c_sheet_penceByUps, o_c_sheet_pence, o_c_sheet_turned, o_c_sheet_called, o_c_sheet_hold, o_c_sheet_value, o_c_sheet_marks, o_c_sheet_act, o_c_sheet_rowOfKey) ∧ fX9_table (xs (i + 1)) (xs (i + 2)) (xs (i + 3)) (xs (i + 4)) mT0 mB0 0 0 0 0 (fun _ => 0) 0 0 (fun _ => 0) (fun _ => 0) (fun _ => 0) (fun _ => 0) = some (r2, n_days, n_likely, n_outOf, n_rateNow, n_pence, n_top, n_bottom, n_worth, n_hold, n_way, n_acts) ∧ r1 = r2 := by
  generalize xs (i + 1) = a1
  generalize xs (i + 2) = a2
  generalize xs (i + 3) = a3
  generalize xs (i + 4) = a4
  by_cases h1 : inr a1 0 2
  rotate_left
  · exact ⟨_, _, _, _, _, _, _, _, _, _, _, _, _, _, _, _, _, _, _, _, _, _, _, _, (by unfold fX8_table; rw [isb8n h1, bd1_mk, if_pos rfl]), (by unfold fX9_table; rw [isb9n h1, bd1_mk, if_pos rfl]), rfl⟩
  by_cases h2 : inr a2 0 3
  rotate_left
  · exact ⟨_, _, _, _, _, _, _, _, _, _, _, _, _, _, _, _, _, _, _, _, _, _, _, _, (by unfold fX8_table; rw [isb8y h1, bd1_mk, if_neg one0, isd8n fC0 fK0 h2, bd1_mk, if_pos rfl]), (by unfold fX9_table; rw [isb9y h1, bd1_mk, if_neg one0, isd9n fR0 fK0 h2, bd1_mk, if_pos rfl]), rfl⟩
  have d8 := isd8y fC0 fK0 h2
  have d9 := isd9y fR0 fK0 h2
  by_cases h3 : a3 < 0
  · exact ⟨_, _, _, _, _, _, _, _, _, _, _, _, _, _, _, _, _, _, _, _, _, _, _, _, (by unfold fX8_table; rw [isb8y h1, bd1_mk, if_neg one0, d8, bd1_mk, if_neg one0, if_pos h3]), (by unfold fX9_table; rw [isb9y h1, bd1_mk, if_neg one0, d9, bd1_mk, if_neg one0, if_pos h3]), rfl⟩
  by_cases h4 : inr a4 0 4
  rotate_left
  · exact ⟨_, _, _, _, _, _, _, _, _, _, _, _, _, _, _, _, _, _, _, _, _, _, _, _, (by unfold fX8_table; rw [isb8y h1, bd1_mk, if_neg one0, d8, bd1_mk, if_neg one0, if_neg h3, wi0 h4, bd1_mk, if_pos rfl]), (by unfold fX9_table; rw [isb9y h1, bd1_mk, if_neg one0, d9, bd1_mk, if_neg one0, if_neg h3, in0 h4, bd1_mk, if_pos rfl]), rfl⟩
  obtain ⟨k, rfl, _, k2, _⟩ := inr_n h1 (by decide)
  obtain ⟨t, rfl, _, t2, _⟩ := inr_n h2 (by decide)
  obtain ⟨w, rfl, _, w2, _⟩ := inr_n h4 (by decide)
  obtain ⟨l, l2, rfl⟩ := nI_of h3
  by_cases hl : l < 7
  · have H : ∀ k, k < 3 → ∀ t, t < 4 → ∀ l, l < 7 → ∀ w, w < 5 → (fX8_table (nI k) (nI t) (nI l) (nI w) tP0 bT0 bT0 bT0 tP0 bT0 (fun _ => 0) (fun _ => 0) (fun _ => 0) (fun _ => 0) (fun _ => 0) (fun _ => 0) (fun _ => 0) (fun _ => 0) (fun _ => 0)).map Prod.fst = (fX9_table (nI k) (nI t) (nI l) (nI w) mT0 mB0 0 0 0 0 (fun _ => 0) 0 0 (fun _ => 0) (fun _ => 0) (fun _ => 0) (fun _ => 0)).map Prod.fst ∧ (fX8_table (nI k) (nI t) (nI l) (nI w) tP0 bT0 bT0 bT0 tP0 bT0 (fun _ => 0) (fun _ => 0) (fun _ => 0) (fun _ => 0) (fun _ => 0) (fun _ => 0) (fun _ => 0) (fun _ => 0) (fun _ => 0)).isSome = true := by decide +kernel
    obtain ⟨r1, ⟨o_c_sheet_tree_parts, o_c_sheet_bond_terms, o_c_sheet_penceByUps, o_c_sheet_pence, o_c_sheet_turned, o_c_sheet_called, o_c_sheet_hold, o_c_sheet_value, o_c_sheet_marks, o_c_sheet_act, o_c_sheet_rowOfKey⟩, r2, ⟨n_days, n_likely, n_outOf, n_rateNow, n_pence, n_top, n_bottom, n_worth, n_hold, n_way, n_acts⟩, e1, e2, e3⟩ := pk2 (H k (by omega) t (by omega) l hl w (by omega)).1 (H k (by omega) t (by omega) l hl w (by omega)).2
    exact ⟨r1, o_c_sheet_tree_parts, o_c_sheet_bond_terms, o_c_sheet_penceByUps, o_c_sheet_pence, o_c_sheet_turned, o_c_sheet_called, o_c_sheet_hold, o_c_sheet_value, o_c_sheet_marks, o_c_sheet_act, o_c_sheet_rowOfKey, r2, n_days, n_likely, n_outOf, n_rateNow, n_pence, n_top, n_bottom, n_worth, n_hold, n_way, n_acts, e1, e2, e3⟩
  · obtain ⟨d, rfl⟩ : ∃ d, l = 7 + d := ⟨l - 7, by omega⟩
    have H8 := fH8 k (by omega) t (by omega)
    have H9 := fH9 k (by omega) t (by omega) w (by omega)
    obtain ⟨c0, c1, c2, c3, c4, c5, c6, c7, c8, c9, ew, H8⟩ := bd10_some H8
    obtain ⟨n0, n1, n2, n3, n4, n5, n6, n7, n8, n9, n10, en, H9⟩ := bd11_some H9
    obtain ⟨cnt, rok, eg, hcnt⟩ : ∃ cnt rok, fX5_gatherStates (nI t) c8 c9 (fun _ => 0) = some (cnt, rok) ∧ cnt ≤ 7 := by
      cases e : fX5_gatherStates (nI t) c8 c9 (fun _ => 0) with
      | none => rw [e] at H8; cases H8
      | some z => rw [e] at H8; exact ⟨z.1, z.2, rfl, of_decide_eq_true (Option.some.inj H8)⟩
    obtain ⟨y1, y2, y3, y4, et⟩ : ∃ y1 y2 y3 y4, lpX9_table_55 (nI t) (nI w) n9 FU (nI 7) 0 = some (1, y1, y2, y3, y4) := by
      cases e : lpX9_table_55 (nI t) (nI w) n9 FU (nI 7) 0 with
      | none => rw [e] at H9; cases H9
      | some z =>
        rw [e] at H9
        obtain ⟨z0, z1, z2, z3, z4⟩ := z
        have : z0 = 1 := Option.some.inj H9
        subst this
        exact ⟨z1, z2, z3, z4, rfl⟩
    have et2 := t55 (nI t) (nI w) n9 d FU 7 0 y1 y2 y3 y4 (by omega) et
    have hge : ¬ nI (7 + d) < cnt := fun q => by
      rw [Int32.lt_iff_toInt_lt, nI_toInt l2] at q
      rw [Int32.le_iff_toInt_le] at hcnt
      have : (7 : Int32).toInt = 7 := rfl
      omega
    exact ⟨_, _, _, _, _, _, _, _, _, _, _, _, _, _, _, _, _, _, _, _, _, _, _, _, (by unfold fX8_table; rw [isb8y h1, bd1_mk, if_neg one0, d8, bd1_mk, if_neg one0, if_neg h3, wi1 h4, bd1_mk, if_neg one0, ew, bd10_mk, eg, bd2_mk, if_neg hge]), (by unfold fX9_table; rw [isb9y h1, bd1_mk, if_neg one0, d9, bd1_mk, if_neg one0, if_neg h3, in1 h4, bd1_mk, if_neg one0, en, bd11_mk, et2, bd5_mk, if_neg (by decide)]), rfl⟩
theorem pu_50 (xs : Nat → Int32) (i : Nat) : ∃ (r1 : Int64) (o_c_sheet_tree_parts : Nat → Int32) (o_c_sheet_bond_terms : Nat → Int32) (o_c_sheet_penceByUps : Nat → Int64) (o_c_sheet_pence : Nat → Int64) (o_c_sheet_turned : Nat → Int64) (o_c_sheet_called : Nat → Int64) (o_c_sheet_hold : Nat → Int64) (o_c_sheet_value : Nat → Int64) (o_c_sheet_marks : Nat → Int32) (o_c_sheet_act : Nat → Int32) (r2 : Int64) (n_days : Int32) (n_likely : Int32) (n_outOf : Int32) (n_rateNow : Int32) (n_pence : Nat → Int64) (n_top : Int64) (n_bottom : Int64) (n_worth : Nat → Int64) (n_hold : Nat → Int64) (n_acts : Nat → Int32), fX8_book (xs (i + 1)) (xs (i + 2)) (xs (i + 3)) tP0 bT0 bT0 bT0 tP0 bT0 (fun _ => 0) (fun _ => 0) (fun _ => 0) (fun _ => 0) (fun _ => 0) (fun _ => 0) (fun _ => 0) (fun _ => 0) = some (r1, o_c_sheet_tree_parts, o_c_sheet_bond_terms, o_c_sheet_penceByUps, o_c_sheet_pence, o_c_sheet_turned, o_c_sheet_called, o_c_sheet_hold, o_c_sheet_value, o_c_sheet_marks, o_c_sheet_act) ∧ fX9_book (xs (i + 1)) (xs (i + 2)) (xs (i + 3)) mT0 mB0 0 0 0 0 (fun _ => 0) 0 0 (fun _ => 0) (fun _ => 0) (fun _ => 0) = some (r2, n_days, n_likely, n_outOf, n_rateNow, n_pence, n_top, n_bottom, n_worth, n_hold, n_acts) ∧ r1 = r2 := by
  obtain ⟨r, ⟨o_c_sheet_tree_parts, o_c_sheet_bond_terms, o_c_sheet_penceByUps, o_c_sheet_pence, o_c_sheet_turned, o_c_sheet_called, o_c_sheet_hold, o_c_sheet_value, o_c_sheet_marks, o_c_sheet_act⟩, ⟨n_days, n_likely, n_outOf, n_rateNow, n_pence, n_top, n_bottom, n_worth, n_hold, n_acts⟩, e1, e2, _⟩ := (q_book fC0 fR0 fK0 fB0 fb0 _ _ _ _ _ _ _ _ _ _ _ _ _ _ _ _ _ _ _ _ _ _ _ : Sx2 (fX8_book (xs (i + 1)) (xs (i + 2)) (xs (i + 3)) tP0 bT0 bT0 bT0 tP0 bT0 (fun _ => 0) (fun _ => 0) (fun _ => 0) (fun _ => 0) (fun _ => 0) (fun _ => 0) (fun _ => 0) (fun _ => 0)) (fX9_book (xs (i + 1)) (xs (i + 2)) (xs (i + 3)) mT0 mB0 0 0 0 0 (fun _ => 0) 0 0 (fun _ => 0) (fun _ => 0) (fun _ => 0)) _)
  exact ⟨r, o_c_sheet_tree_parts, o_c_sheet_bond_terms, o_c_sheet_penceByUps, o_c_sheet_pence, o_c_sheet_turned, o_c_sheet_called, o_c_sheet_hold, o_c_sheet_value, o_c_sheet_marks, o_c_sheet_act, r, n_days, n_likely, n_outOf, n_rateNow, n_pence, n_top, n_bottom, n_worth, n_hold, n_acts, e1, e2, rfl⟩
theorem pu_51 (xs : Nat → Int32) (i : Nat) : ∃ (r1 : Int32) (r2 : Int32), fX8_count (xs (i + 1)) 0 0 tP0 = some (r1) ∧ fX9_count (xs (i + 1)) 0 mT0 0 = some (r2) ∧ r1 = r2 := by
  generalize xs (i + 1) = a
  by_cases h : inr a 0 8
  · obtain ⟨n, rfl, l1, u1, _⟩ := inr_n h (by decide)
    have H : ∀ n, n < 9 → fX8_count (nI n) 0 0 tP0 = fX9_count (nI n) 0 mT0 0 ∧ (fX8_count (nI n) 0 0 tP0).isSome = true := by decide +kernel
    obtain ⟨r1, r2, e1, e2, e3⟩ := pk2c (H n (by omega)).1 (H n (by omega)).2
    exact ⟨r1, r2, e1, e2, e3⟩
  · by_cases h9 : a = 9
    · subst h9
      obtain ⟨r1, r2, e1, e2, e3⟩ := pk2c (x := fX8_count 9 0 0 tP0) (y := fX9_count 9 0 mT0 0) (by decide +kernel) (by decide +kernel)
      exact ⟨r1, r2, e1, e2, e3⟩
    · by_cases h10 : a = 10
      · subst h10
        obtain ⟨r1, r2, e1, e2, e3⟩ := pk2c (x := fX8_count 10 0 0 tP0) (y := fX9_count 10 0 mT0 0) (by decide +kernel) (by decide +kernel)
        exact ⟨r1, r2, e1, e2, e3⟩
      · refine ⟨-1, -1, ?_, ?_, rfl⟩
        · unfold fX8_count
          rw [wi_eq (x := a) (A := 0) (B := 8) rfl rfl, bI_f h, bd1_mk, if_pos rfl, if_neg h9, if_neg h10, bd1_mk]
        · unfold fX9_count
          rw [in_eq (x := a) (A := 0) (B := 8) rfl rfl, bI_f h, bd1_mk, if_pos rfl, if_neg h9, if_neg h10, bd1_mk]
theorem pu_47 (xs : Nat → Int32) (i : Nat) : ∃ (r2 : Int32) (n_written : Int32) (n_wanted : Int32) (n_found : Int32), fX9_letter (xs (i + 1)) (xs (i + 2)) mB0 0 0 0 = some (r2, n_written, n_wanted, n_found) ∧ ltX (xs (i + 1)) (xs (i + 2)) bT0 bT0 bT0 = r2 := by
  obtain ⟨⟨r, a, b, c⟩, e, h⟩ := q_letter fBC0 (xs (i + 1)) (xs (i + 2)) 0 0 0
  exact ⟨r, a, b, c, e, h⟩
