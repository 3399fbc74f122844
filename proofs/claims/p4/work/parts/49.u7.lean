/-! pure: path, both sides (own rows) -/
theorem sB_u : ∀ v, v < 256 → ((sB v = 117) ↔ v = 117) ∧ ((sB v = 100) ↔ v = 100) ∧ ((nI v = 117) ↔ v = 117) ∧ ((nI v = 100) ↔ v = 100) := by decide +kernel
/-- moves read: none if a byte is neither -/
def okP (v : Nat → Nat) (d : Nat) : Prop := ∀ i, i < d → v i = 117 ∨ v i = 100
def bP (v : Nat → Nat) (i : Nat) : Nat := if v i = 117 then 1 else 0
def rP (v : Nat → Nat) : Nat → Nat
  | 0 => 1
  | i + 1 => 2 * rP v i + bP v i
theorem bP_lt (v : Nat → Nat) (i : Nat) : bP v i < 2 := by unfold bP; by_cases h : v i = 117; rw [if_pos h]; omega; rw [if_neg h]; omega
theorem rP_p (v : Nat → Nat) : ∀ d, d ≤ 6 → 1 ≤ rP v d ∧ rP v d < 2 * 2 ^ d ∧ rP v d < 128 ∧ dR (rP v d) = d := by
  intro d
  induction d with
  | zero => intro _; exact ⟨Nat.le_refl 1, (show 1 < 2 * 2 ^ 0 by decide), (show 1 < 128 by decide), rfl⟩
  | succ d ih =>
    intro h
    obtain ⟨a, b, c, e⟩ := ih (by omega)
    have hb := bP_lt v d
    have h64 : rP v d < 64 := dR_64 _ c a (by omega)
    have h2 : rP v (d + 1) = 2 * rP v d + bP v d := rfl
    obtain ⟨s1, _, _, _⟩ := row_s _ h64 a _ hb
    rw [h2]
    refine ⟨by omega, by rw [Nat.pow_succ]; omega, by omega, by rw [s1, e]⟩
theorem rP_bit (v : Nat → Nat) : ∀ d, d ≤ 6 → ∀ i, i < d → rP v d / 2 ^ (d - 1 - i) % 2 = bP v i := by
  intro d
  induction d with
  | zero => intro _ i hi; omega
  | succ d ih =>
    intro h i hi
    have hb := bP_lt v d
    have h2 : rP v (d + 1) = 2 * rP v d + bP v d := rfl
    rw [h2]
    by_cases e : i = d
    · subst e
      rw [show i + 1 - 1 - i = 0 by omega, Nat.pow_zero, Nat.div_one]; omega
    · have := ih (by omega) i (by omega)
      rw [show d + 1 - 1 - i = (d - 1 - i) + 1 by omega, Nat.pow_succ, Nat.mul_comm (2 ^ (d - 1 - i)) 2, ← Nat.div_div_eq_div_mul, show (2 * rP v d + bP v d) / 2 = rP v d by omega]
      exact this
theorem rm4 {by8 : Nat → Int32} {v : Nat → Nat} {d : Nat} (hd : d ≤ 6) (h : ∀ i, i < d → v i < 256 ∧ by8 i = nI (v i)) : ∀ (i n x : Nat), x + i = d → okP v x → Sx (lpX6_readMoves_4 (nI d) by8 (n + i + 1) (nI (rP v x)) (nI x)) (fun z => (okP v d → z = (1, nI (rP v d))) ∧ (¬ okP v d → z.1 = 0)) := by
  intro i
  induction i with
  | zero =>
    intro n x hi ho
    have e : x = d := by omega
    subst e
    rw [lpX6_readMoves_4.eq_2, if_pos (nI_le (by omega) (by omega))]
    exact Sx.mk ⟨fun _ => rfl, fun q => absurd ho q⟩
  | succ i ih =>
    intro n x hi ho
    obtain ⟨h1, h2⟩ := h x (by omega)
    obtain ⟨_, _, u1, u2⟩ := sB_u _ h1
    have key : v x = 117 ∨ v x = 100 → okP v (x + 1) := fun q j hj => by
      by_cases e : j = x
      · rw [e]; exact q
      · exact ho j (by omega)
    rw [lpX6_readMoves_4.eq_2, if_neg (nI_ge (by omega) (by omega)), if_neg (show ¬ (6 : Int32) ≤ nI x from nI_ge (b := 6) (by omega) (by omega)), og32 (by omega) (by omega), nI_clamp (by omega), h2]
    by_cases g : v x = 117
    · have eb : bP v x = 1 := if_pos g
      rw [if_pos (u1.mpr g), og32 (by omega) (by omega), if_pos (u1.mpr g), bd1_mk, show fX8_longer (nI (rP v x)) 1 = _ from lo8 _ (b := 1) (by omega), bd1_mk, nm_mk, nI_1, show n + (i + 1) = n + i + 1 by omega, show 2 * rP v x + 1 = rP v (x + 1) by (show _ = 2 * rP v x + bP v x); omega]
      exact ih n (x + 1) (by omega) (key (Or.inl g))
    rw [if_neg (fun z => g (u1.mp z)), og32 (by omega) (by omega)]
    by_cases g2 : v x = 100
    · have eb : bP v x = 0 := if_neg g
      rw [if_pos (u2.mpr g2), og32 (by omega) (by omega), if_neg (fun z => g (u1.mp z)), bd1_mk, show fX8_longer (nI (rP v x)) 0 = _ from lo8 _ (b := 0) (by omega), bd1_mk, nm_mk, nI_1, show n + (i + 1) = n + i + 1 by omega, show 2 * rP v x + 0 = rP v (x + 1) by (show _ = 2 * rP v x + bP v x); omega]
      exact ih n (x + 1) (by omega) (key (Or.inr g2))
    · rw [if_neg (fun z => g2 (u2.mp z))]
      exact Sx.mk ⟨fun q => by rcases q x (by omega) with q | q; exact absurd q g; exact absurd q g2, fun _ => rfl⟩
theorem uP (v : Nat → Nat) {d : Nat} (hd : d < 6) : uR (rP v (d + 1)) = uR (rP v d) + bP v d := by
  obtain ⟨a, b, c, e⟩ := rP_p v d (by omega)
  exact (row_s _ (dR_64 _ c a (by omega)) a _ (bP_lt v d)).2.1
theorem pa35 {tp : Nat → Int32} {v : Nat → Nat} {d : Nat} (hd : d ≤ 6) (h : ∀ i, i < d → v i < 256 ∧ tp i = sB (v i)) : ∀ (i n x : Nat), x + i = d → okP v x → Sx (lpX9_path_35 (nI d) tp (n + i + 1) (nI (uR (rP v x))) (nI x)) (fun z => (okP v d → z = (1, nI (uR (rP v d)))) ∧ (¬ okP v d → z.1 = 0)) := by
  intro i
  induction i with
  | zero =>
    intro n x hi ho
    have e : x = d := by omega
    subst e
    rw [lpX9_path_35.eq_2, if_pos (nI_le (by omega) (by omega))]
    exact Sx.mk ⟨fun _ => rfl, fun q => absurd ho q⟩
  | succ i ih =>
    intro n x hi ho
    obtain ⟨h1, h2⟩ := h x (by omega)
    obtain ⟨u1, u2, _, _⟩ := sB_u _ h1
    have key : v x = 117 ∨ v x = 100 → okP v (x + 1) := fun q j hj => by
      by_cases e : j = x
      · rw [e]; exact q
      · exact ho j (by omega)
    have hu := uP v (show x < 6 by omega)
    rw [lpX9_path_35.eq_2, if_neg (nI_ge (by omega) (by omega)), og32 (by omega) (by omega), nI_clamp (by omega), h2]
    by_cases g : v x = 117
    · have eb : bP v x = 1 := if_pos g
      rw [if_pos (u1.mpr g), og32 (by omega) (by omega), if_pos (u1.mpr g), bd1_mk, nm_mk, nm_mk, nI_1, nI_1, show n + (i + 1) = n + i + 1 by omega, show uR (rP v x) + 1 = uR (rP v (x + 1)) by omega]
      exact ih n (x + 1) (by omega) (key (Or.inl g))
    rw [if_neg (fun z => g (u1.mp z)), og32 (by omega) (by omega)]
    by_cases g2 : v x = 100
    · have eb : bP v x = 0 := if_neg g
      rw [if_pos (u2.mpr g2), og32 (by omega) (by omega), if_neg (fun z => g (u1.mp z)), bd1_mk, nm_mk, nm_mk, nI_1, i_0, nI_add, show n + (i + 1) = n + i + 1 by omega, show uR (rP v x) + 0 = uR (rP v (x + 1)) by omega]
      exact ih n (x + 1) (by omega) (key (Or.inr g2))
    · rw [if_neg (fun z => g2 (u2.mp z))]
      exact Sx.mk ⟨fun q => by rcases q x (by omega) with q | q; exact absurd q g; exact absurd q g2, fun _ => rfl⟩
theorem pa92 {tp : Nat → Int32} {v : Nat → Nat} {d : Nat} (hd : d ≤ 6) (h : ∀ i, i < d → v i < 256 ∧ tp i = sB (v i)) (w : Int32) : ∀ (i n x : Nat) (mv : Nat → Int32), x + i = d → (∀ y, y < x → mv y = nI (bP v y)) → Sx (lpX9_path_92 (nI d) w tp (n + i + 1) (nI x) mv) (fun z => ∀ y, y < d → z y = nI (bP v y)) := by
  intro i
  induction i with
  | zero =>
    intro n x mv hi ho
    rw [lpX9_path_92.eq_2, if_pos (nI_le (by omega) (by omega))]
    exact Sx.mk (fun y hy => ho y (by omega))
  | succ i ih =>
    intro n x mv hi ho
    obtain ⟨h1, h2⟩ := h x (by omega)
    obtain ⟨u1, u2, _, _⟩ := sB_u _ h1
    have eb : (if tp (Int32.toNatClampNeg (nI x)) = 117 then some (1 : Int32) else some 0) = some (nI (bP v x)) := by
      rw [nI_clamp (by omega), h2]
      unfold bP
      by_cases g : v x = 117
      · rw [if_pos (u1.mpr g), if_pos g]; rfl
      · rw [if_neg (fun z => g (u1.mp z)), if_neg g]; rfl
    rw [lpX9_path_92.eq_2, if_neg (nI_ge (by omega) (by omega)), og32 (by omega) (by omega), eb, bd1_mk, og32 (by omega) (by omega), nm_mk, nm_mk, nI_1, nI_clamp (by omega), show n + (i + 1) = n + i + 1 by omega]
    refine ih n (x + 1) _ (by omega) (fun y hy => ?_)
    rw [upS]
    by_cases e : y = x
    · rw [if_pos e, e]
    · rw [if_neg e]; exact ho y (by omega)
theorem q_path {tr tree : Nat → Int32} {τ : Nat → Nat} (h : TCT tr tree τ) {size taped : Int32} {bytes tape : Nat → Int32} (hT : TPQ size bytes tape taped) {row moved : Int32} {mv : Nat → Int32} (hP : PQ τ row mv moved) (p1 : Int32) : Sx2 (fX8_path p1 size bytes row tr) (fX9_path p1 tape taped tree mv moved) (fun s t => TPQ s.1 bytes tape t.1 ∧ PQ τ s.2 t.2.1 t.2.2) := by
  obtain ⟨hf, hf9, hK⟩ := h
  by_cases h1 : inr p1 0 (τ 0)
  rotate_left
  · exact Sx2.mk (by unfold fX8_path; rw [isd8n hf hK h1, bd1_mk, if_pos rfl]) (by unfold fX9_path; rw [isd9n hf9 hK h1, bd1_mk, if_pos rfl]) ⟨hT, hP⟩
  have h1' := h1
  obtain ⟨d, rfl, da, db, dc⟩ := inr_n h1 (by decide)
  obtain ⟨n, v, hn, rfl, rfl, hv⟩ := hT
  by_cases h2 : d ≤ n
  rotate_left
  · have g2 : ¬ nI d ≤ nI n := nI_ge (by omega) (by omega)
    exact Sx2.mk (by unfold fX8_path fX6_size; rw [isd8y hf hK h1', bd1_mk, if_neg one0, bd1_mk, if_neg g2]) (by unfold fX9_path; rw [isd9y hf9 hK h1', bd1_mk, if_neg one0, if_neg g2]) ⟨⟨n, v, hn, rfl, rfl, hv⟩, hP⟩
  have g2 : nI d ≤ nI n := nI_le h2 (by omega)
  have hT0 : TPQ 0 bytes tape 0 := ⟨0, v, by omega, rfl, rfl, fun i hi => absurd hi (Nat.not_lt_zero i)⟩
  obtain ⟨a1, a2, a3, a4⟩ := rP_p v d (by omega)
  obtain ⟨m, hm⟩ := fuN (d + 1) (by omega)
  obtain ⟨z8, e8, k8⟩ := rm4 (by8 := bytes) (v := v) (d := d) (by omega) (fun i hi => ⟨(hv i (by omega)).1, (hv i (by omega)).2.1⟩) d m 0 (by omega) (fun i hi => absurd hi (Nat.not_lt_zero i))
  obtain ⟨z9, e9, k9⟩ := pa35 (tp := tape) (v := v) (d := d) (by omega) (fun i hi => ⟨(hv i (by omega)).1, (hv i (by omega)).2.2⟩) d m 0 (by omega) (fun i hi => absurd hi (Nat.not_lt_zero i))
  have e8' : lpX6_readMoves_4 (nI d) bytes FU 1 0 = some z8 := by rw [hm]; exact e8
  rw [show uR (rP v 0) = 0 from (show uR 1 = 0 from rfl)] at e9
  have e9' : lpX9_path_35 (nI d) tape FU 0 0 = some z9 := by rw [hm]; exact e9
  by_cases g : okP v d
  · have q8 := k8.1 g
    have q9 := k9.1 g
    subst q8 q9
    obtain ⟨mv2, e2, k2⟩ := pa92 (tp := tape) (v := v) (d := d) (by omega) (fun i hi => ⟨(hv i (by omega)).1, (hv i (by omega)).2.2⟩) (nI (uR (rP v d))) d m 0 mv (by omega) (fun i hi => absurd hi (Nat.not_lt_zero i))
    have e2' : lpX9_path_92 (nI d) (nI (uR (rP v d))) tape FU 0 mv = some mv2 := by rw [hm]; exact e2
    refine Sx2.mk (r := nI (uR (rP v d))) (s1 := (0, nI (rP v d))) (s2 := (0, mv2, nI d)) ?_ ?_ ⟨hT0, rP v d, a1, a3, by omega, rfl, by rw [a4], fun i hi => ?_⟩
    · unfold fX8_path fX6_size fX6_readMoves fX6_clear
      rw [isd8y hf hK h1', bd1_mk, if_neg one0, bd1_mk, if_pos g2, e8', bd2_mk, if_neg (by decide), bd1_mk, bd1_mk, if_pos (show (1 : Int32) ≤ nI (rP v d) from nI_le (a := 1) a1 (by omega)), ups8 _ a3 a1, bd1_mk]
    · unfold fX9_path
      rw [isd9y hf9 hK h1', bd1_mk, if_neg one0, if_pos g2, e9', bd2_mk, if_neg (by decide), e2', bd1_mk]
    · rw [a4] at hi ⊢
      rw [rP_bit v d (by omega) i hi]
      exact k2 i hi
  · have q8 := k8.2 g
    have q9 := k9.2 g
    obtain ⟨y1, y2⟩ := z8
    obtain ⟨w1, w2⟩ := z9
    dsimp only at q8 q9
    subst q8 q9
    refine Sx2.mk (r := -2) (s1 := (0, row)) (s2 := (0, mv, moved)) ?_ ?_ ⟨hT0, hP⟩
    · unfold fX8_path fX6_size fX6_readMoves fX6_clear
      rw [isd8y hf hK h1', bd1_mk, if_neg one0, bd1_mk, if_pos g2, e8', bd2_mk, if_pos rfl, bd1_mk, bd1_mk, if_neg (by decide)]
    · unfold fX9_path
      rw [isd9y hf9 hK h1', bd1_mk, if_neg one0, if_pos g2, e9', bd2_mk, if_pos rfl]
