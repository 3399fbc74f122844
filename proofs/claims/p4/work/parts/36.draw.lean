/-! pure: draws, ways along rows (own rows) -/
def dX (a : Nat) : Nat := (25173 * a + 13849) % 65536
theorem dX_lt (a : Nat) : dX a < 65536 := Nat.mod_lt _ (by omega)
def dwB (p q a : Nat) : Nat := if dX a / 4 % q < p then 1 else 0
theorem dwB_lt (p q a : Nat) : dwB p q a < 2 := by unfold dwB; split <;> omega
def dwR (p q : Nat) : Nat → Nat → Nat → Nat × Nat
  | 0, r, a => (r, a)
  | n + 1, r, a => dwR p q n (2 * r + dwB p q a) (dX a)
theorem drw8 {a q : Nat} (ha : a < 65536) (h1 : 1 ≤ q) (h2 : q ≤ 20) : fX1_drawBelow (nI q) (nI a) = some (nI (dX a / 4 % q), nI (dX a)) := by
  unfold fX1_drawBelow
  have hx := dX_lt a
  rw [i_25173, pk_mul, i_13849, nI_add, pk_andN (by omega) 16 rfl, nm_mk, if_neg (nI_nle (by omega) (by omega)), og_mk _ (by unfold nzI; rw [decide_eq_false (nI_ne0 (by omega) (by omega))]; rfl), bd1_mk]
  show some ((nI (dX a) / 4) - (nI (dX a) / 4) / nI q * nI q, nI (dX a)) = _
  rw [i_4, pk_div (by omega) (by omega) (by omega), pk_rem (by omega) (by omega) (by omega)]
theorem drw9 {a q : Nat} (ha : a < 65536) (h1 : 1 ≤ q) (h2 : q ≤ 20) : fX9_draw (nI q) (nI a) = some (nI (dX a / 4 % q), nI (dX a)) := by
  unfold fX9_draw
  have hx := dX_lt a
  rw [i_25173, pk_mul, i_13849, nI_add, i_65536, pk_rem (by omega) (by omega) (by omega), nm_mk, og_mk _ (by unfold nzI; rw [decide_eq_false (nI_ne0 (by omega) (by omega))]; rfl)]
  show some ((nI (dX a) / 4) - (nI (dX a) / 4) / nI q * nI q, nI (dX a)) = _
  rw [i_4, pk_div (by omega) (by omega) (by omega), pk_rem (by omega) (by omega) (by omega)]
theorem seed16 (s : Int32) : s &&& 65535 = nI (s.toBitVec.toNat % 65536) := pk_and s 16 rfl
theorem gt7 {f : Nat → Int32} {τ : Nat → Nat} (hf : TC f τ) {a : Nat} (ha : a < 9) : fX7_get (nI a) f = some (nI (τ a)) := by
  unfold fX7_get
  rw [win1 a 0 8 (by omega), bd1_mk, if_neg one0, og32 ha (by omega), bd1_mk, nI_clamp (by omega), hf a ha]
theorem dr5 {f : Nat → Int32} {τ : Nat → Nat} (hf : TC f τ) (hT : TK τ) {m : Nat} (hm : m ≤ 6) : ∀ (i n x r a : Nat), x + i = m → a < 65536 → lpX1_drawRow_5 (nI m) f (n + i + 1) (nI r) (nI x) (nI a) = some (nI (dwR (τ 6) (τ 7) i r a).1, nI (dwR (τ 6) (τ 7) i r a).2) := by
  intro i
  induction i with
  | zero =>
    intro n x r a hi ha
    rw [lpX1_drawRow_5.eq_2, if_pos (nI_le (by omega) (by omega))]; rfl
  | succ i ih =>
    intro n x r a hi ha
    have hb := dwB_lt (τ 6) (τ 7) a
    have hq : dX a / 4 % τ 7 < τ 7 := Nat.mod_lt _ (by omega)
    rw [lpX1_drawRow_5.eq_2, if_neg (nI_ge (by omega) (by omega)), if_neg (show ¬ (6 : Int32) ≤ nI x from nI_ge (b := 6) (by omega) (by omega)), i_7, gt7 hf (by omega), bd1_mk, drw8 ha (by omega) (by omega), bd2_mk, i_6, gt7 hf (by omega), bd1_mk]
    have e : (if nI (τ 6) ≤ nI (dX a / 4 % τ 7) then some (0 : Int32) else some 1) = some (nI (dwB (τ 6) (τ 7) a)) := by
      unfold dwB
      by_cases g : dX a / 4 % τ 7 < τ 6
      · rw [if_pos g, if_neg (nI_ge g (by omega))]; rfl
      · rw [if_neg g, if_pos (nI_le (by omega) (by omega))]; rfl
    rw [e, bd1_mk, lo8 r hb, bd1_mk, nm_mk, nI_1, show n + (i + 1) = n + i + 1 by omega, ih n (x + 1) _ _ (by omega) (dX_lt a)]
    rfl
theorem dro8 {f : Nat → Int32} {τ : Nat → Nat} (hf : TC f τ) (hT : TK τ) {m a : Nat} (hm : m ≤ 6) (ha : a < 65536) : fX1_drawRow (nI m) (nI a) f = some (nI (dwR (τ 6) (τ 7) m 1 a).1, nI (dwR (τ 6) (τ 7) m 1 a).2) := by
  unfold fX1_drawRow
  obtain ⟨n, hn⟩ := fuN (m + 1) (by omega)
  rw [hn, i_0, show (1 : Int32) = nI 1 from rfl, show n + (m + 1) = n + m + 1 by omega, dr5 hf hT hm m n 0 1 a (by omega) ha, bd2_mk]
theorem dR_pos : ∀ r, r < 128 → 1 ≤ r → ∀ n, n < 7 → dR r < n → r < 2 ^ n := by decide +kernel
theorem dR_64 : ∀ r, r < 128 → 1 ≤ r → dR r < 6 → r < 64 := by decide +kernel
theorem dwR_p (p q : Nat) : ∀ (n r a : Nat), 1 ≤ r → r < 128 → dR r + n ≤ 6 → a < 65536 → dR (dwR p q n r a).1 = dR r + n ∧ 1 ≤ (dwR p q n r a).1 ∧ (dwR p q n r a).1 < 128 ∧ (dwR p q n r a).2 < 65536 := by
  intro n
  induction n with
  | zero => intro r a h1 h2 h3 h4; exact ⟨rfl, h1, h2, h4⟩
  | succ n ih =>
    intro r a h1 h2 h3 h4
    have hb := dwB_lt p q a
    have h6 := dR_64 r h2 h1 (by omega)
    obtain ⟨c1, _, _, _⟩ := row_s r h6 h1 (dwB p q a) hb
    have := ih (2 * r + dwB p q a) (dX a) (by omega) (by omega) (by omega) (dX_lt a)
    rw [c1] at this
    refine ⟨?_, this.2⟩
    show dR (dwR p q n (2 * r + dwB p q a) (dX a)).1 = _
    rw [this.1]; omega
theorem bit_s : ∀ r, r < 64 → 1 ≤ r → ∀ b, b < 2 → ∀ i, i < 6 → i < dR r → (2 * r + b) / 2 ^ (dR r - i) % 2 = r / 2 ^ (dR r - 1 - i) % 2 := by decide +kernel
theorem MV.up {mv : Nat → Int32} {r b : Nat} (h1 : 1 ≤ r) (h : r < 64) (hb : b < 2) (hm : MV mv r) : MV (upd mv (dR r) (nI b)) (2 * r + b) := by
  obtain ⟨c1, _, _, _⟩ := row_s r h h1 b hb
  have h6 := (row_b1 r (by omega) h1).1.1
  have h7 : dR r < 6 := by
    have := (row_b1 (2 * r + b) (by omega) (by omega)).1.1
    omega
  intro i hi
  rw [upS, c1]
  rw [c1] at hi
  by_cases e : i = dR r
  · rw [if_pos e, e, show dR r + 1 - 1 - dR r = 0 by omega, Nat.pow_zero, Nat.div_one]
    congr 1
    omega
  · rw [if_neg e, hm i (by omega), show dR r + 1 - 1 - i = dR r - i by omega, bit_s r h h1 b hb i (by omega) (by omega)]
theorem MV.one {mv : Nat → Int32} : MV mv 1 := fun i hi => absurd hi (by rw [show dR 1 = 0 by decide +kernel]; omega)
theorem dr31 {tree : Nat → Int32} {τ : Nat → Nat} (hf : TR tree 0 τ) (hT : TK τ) {m : Nat} (hm : m ≤ 6) : ∀ (i n r a : Nat) (mv : Nat → Int32), 1 ≤ r → r < 128 → dR r + i = m → a < 65536 → MV mv r → Sx (lpX9_drawn_31 (nI m) tree (n + i + 1) (nI (uR r)) (nI (dR r)) mv (nI a)) (fun z => z.1 = nI (uR (dwR (τ 6) (τ 7) i r a).1) ∧ MV z.2.1 (dwR (τ 6) (τ 7) i r a).1) := by
  intro i
  induction i with
  | zero =>
    intro n r a mv h1 h2 hi ha hmv
    rw [lpX9_drawn_31.eq_2]
    exact Sx.p (nI_le (by omega) (by omega)) (Sx.mk ⟨rfl, hmv⟩)
  | succ i ih =>
    intro n r a mv h1 h2 hi ha hmv
    have hb := dwB_lt (τ 6) (τ 7) a
    have hq : dX a / 4 % τ 7 < τ 7 := Nat.mod_lt _ (by omega)
    have h6 := dR_64 r h2 h1 (by omega)
    obtain ⟨c1, c2, _, _⟩ := row_s r h6 h1 (dwB (τ 6) (τ 7) a) hb
    have e : (if nI (τ 6) ≤ nI (dX a / 4 % τ 7) then some (0 : Int32) else some 1) = some (nI (dwB (τ 6) (τ 7) a)) := by
      unfold dwB
      by_cases g : dX a / 4 % τ 7 < τ 6
      · rw [if_pos g, if_neg (nI_ge g (by omega))]; rfl
      · rw [if_neg g, if_pos (nI_le (by omega) (by omega))]; rfl
    rw [lpX9_drawn_31.eq_2, cl_7, tr0 hf (by omega), cl_6, tr0 hf (by omega)]
    refine Sx.n (nI_ge (by omega) (by omega)) (Sx.e2 (drw9 ha (by omega) (by omega)) (Sx.e1 e ?_))
    rw [og32 (by omega) (by omega), nm_mk, og32 (by omega) (by omega), nm_mk, nm_mk, nI_clamp (by omega), upS, if_pos rfl, nI_add, nI_1, ← c1, ← c2, show n + (i + 1) = n + i + 1 by omega]
    exact ih n _ _ _ (by omega) (by omega) (by omega) (dX_lt a) (hmv.up h1 h6 hb)
/-- what is left when a path is drawn -/
abbrev PQ (τ : Nat → Nat) (row : Int32) (mv : Nat → Int32) (moved : Int32) : Prop := ∃ r, 1 ≤ r ∧ r < 128 ∧ dR r ≤ τ 0 ∧ row = nI r ∧ moved = nI (dR r) ∧ MV mv r
theorem q_drawn {tr tree : Nat → Int32} {τ : Nat → Nat} (hf : TC tr τ) (hf9 : TR tree 0 τ) (hT : TK τ) {row moved : Int32} {mv : Nat → Int32} (hp : PQ τ row mv moved) (p1 p2 x y : Int32) : Sx2 (fX8_drawn p1 p2 row tr x) (fX9_drawn p1 p2 tree mv moved y) (fun s t => PQ τ s.1 t.1 t.2.1) := by
  by_cases h1 : inr p2 0 (τ 0)
  · obtain ⟨m, rfl, _, m2, _⟩ := inr_n h1 (Int.le_refl 0)
    have hs : p1.toBitVec.toNat % 65536 < 65536 := Nat.mod_lt _ (by omega)
    have hd1 : dR 1 = 0 := by decide +kernel
    obtain ⟨g1, g2, g3, g4⟩ := dwR_p (τ 6) (τ 7) m 1 (p1.toBitVec.toNat % 65536) (by omega) (by omega) (by omega) hs
    obtain ⟨n, hn⟩ := fuN (m + 1) (by omega)
    obtain ⟨⟨u, mv', d'⟩, e9, hu, hmv⟩ := dr31 hf9 hT (m := m) (by omega) m n 1 (p1.toBitVec.toNat % 65536) mv (by omega) (by omega) (by omega) hs MV.one
    dsimp only at hu hmv
    subst hu
    refine Sx2.mk (r := nI (uR (dwR (τ 6) (τ 7) m 1 (p1.toBitVec.toNat % 65536)).1)) (s1 := (nI (dwR (τ 6) (τ 7) m 1 (p1.toBitVec.toNat % 65536)).1, nI (dwR (τ 6) (τ 7) m 1 (p1.toBitVec.toNat % 65536)).2)) (s2 := (mv', nI m, d')) ?_ ?_ ⟨_, g2, g3, by omega, rfl, by rw [g1, hd1, Nat.zero_add], hmv⟩
    · unfold fX8_drawn fX1_begin
      rw [isd8y hf hT h1, bd1_mk, if_neg one0, nm_mk, bd1_mk, seed16, dro8 hf hT (by omega) hs, bd2_mk, ups8 _ g3 g2, bd1_mk]
    · unfold fX9_drawn
      rw [isd9y hf9 hT h1, bd1_mk, if_neg one0, nm_mk, seed16, hn, i_0, show n + (m + 1) = n + m + 1 by omega]
      rw [show nI 0 = nI (uR 1) from rfl]
      conv => lhs; arg 1; rw [show (lpX9_drawn_31 (nI m) tree (n + m + 1) (nI (uR 1)) (nI (uR 1)) mv (nI (p1.toBitVec.toNat % 65536))) = lpX9_drawn_31 (nI m) tree (n + m + 1) (nI (uR 1)) (nI (dR 1)) mv (nI (p1.toBitVec.toNat % 65536)) from rfl, e9]
      rfl
  · exact Sx2.mk (by unfold fX8_drawn; rw [isd8n hf hT h1, bd1_mk, if_pos rfl]) (by unfold fX9_drawn; rw [isd9n hf9 hT h1, bd1_mk, if_pos rfl]) hp
