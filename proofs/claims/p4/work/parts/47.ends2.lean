/-! pure: ends, life: the reference's sums; both sides (own rows) -/
theorem rpx5 (q : Nat) (hq : q ≤ 20) {k : Nat} (hk : k ≤ 6) : ∀ (i n j : Nat), j + i = k → lpX9_power_5 (nI k) (nI q) (n + i + 1) (lN (q ^ j)) (nI j) = some (lN (q ^ k)) := by
  intro i
  induction i with
  | zero =>
    intro n j h
    rw [lpX9_power_5.eq_2, if_pos (nI_le (by omega) (by omega)), show j = k by omega]
  | succ i ih =>
    intro n j h
    rw [lpX9_power_5.eq_2, if_neg (nI_ge (by omega) (by omega)), nm_mk, nm_mk, nI_1, nI_l (by omega), lN_mul, ← Nat.pow_succ, show n + (i + 1) = n + i + 1 by omega, ih n (j + 1) (by omega)]
theorem rp9 {q k : Nat} (hq : q ≤ 20) (hk : k ≤ 6) : fX9_power (nI k) (nI q) = some (lN (q ^ k)) := by
  unfold fX9_power
  obtain ⟨n, hn⟩ := fuN (k + 1) (by omega)
  have := rpx5 q hq hk k n 0 (by omega)
  rw [Nat.pow_zero] at this
  rw [hn, l_1, i_0, show n + (k + 1) = n + k + 1 by omega, this, bd1_mk]
theorem day9 {x : Nat} (h : x < 784) : fX9_dayOf (nI x) = some (nI (x / 112)) := by
  unfold fX9_dayOf
  rw [i_112, pk_div (by omega) (by omega) (by omega)]
abbrev WA (π : Nat → Nat → Nat) (T p q R : Nat) (β : Nat → Nat) (way : Nat → Int64) (ac : Nat → Int32) : Prop := WW π T p q R β way ∧ ∀ s x, s ≤ T → wy π T p q R β s x ≠ 0 → ac (112 * s + x) = nI (AC π T p q R β s x) ∧ AC π T p q R β s x ≤ 6
def hX (π : Nat → Nat → Nat) (T p q R : Nat) (β : Nat → Nat) (G : Nat → Nat → Nat) (z : Nat) : Nat := if z / 112 ≤ T then wy π T p q R β (z / 112) (z % 112) * G (z / 112) (z % 112) else 0
theorem hX_d {π : Nat → Nat → Nat} {T p q R : Nat} {β : Nat → Nat} {G : Nat → Nat → Nat} : ∀ s x, s < 7 → x < 112 → hX π T p q R β G (112 * s + x) = if s ≤ T then wy π T p q R β s x * G s x else 0 := by
  intro s x h1 h2
  unfold hX
  rw [show (112 * s + x) / 112 = s by omega, show (112 * s + x) % 112 = x by omega]
theorem sm_1 (f : Nat → Nat) (x i : Nat) : sm (fun y => f (x + y)) (i + 1) = f x + sm (fun y => f (x + 1 + y)) i := by
  rw [Nat.add_comm i 1, sm_app]
  have e1 : sm (fun y => f (x + y)) 1 = f x := Nat.zero_add _
  rw [e1]
  congr 1
  exact sm_congr i (fun y _ => by rw [Nat.add_assoc])
theorem wz {π : Nat → Nat → Nat} {T p q R : Nat} {β : Nat → Nat} {way : Nat → Int64} (hN : NK T p q R) (hW : WW π T p q R β way) {x : Nat} (hx : x < 784) : (way x ≤ 0 ↔ ¬ (x / 112 ≤ T ∧ wy π T p q R β (x / 112) (x % 112) ≠ 0)) ∧ (way x = 0 ↔ ¬ (x / 112 ≤ T ∧ wy π T p q R β (x / 112) (x % 112) ≠ 0)) ∧ (x / 112 ≤ T → way x = lN (wy π T p q R β (x / 112) (x % 112))) := by
  have h := hW (x / 112) (x % 112) (by omega) (by omega)
  rw [show 112 * (x / 112) + x % 112 = x by omega] at h
  have hb : (if x / 112 ≤ T then wy π T p q R β (x / 112) (x % 112) else 0) ≤ 64000000 := by
    split
    · exact wy_b (by omega) (by omega) (by omega)
    · omega
  have hi : (if x / 112 ≤ T then wy π T p q R β (x / 112) (x % 112) else 0) = 0 ↔ ¬ (x / 112 ≤ T ∧ wy π T p q R β (x / 112) (x % 112) ≠ 0) := by
    by_cases g : x / 112 ≤ T
    · rw [if_pos g]
      exact ⟨fun z q => q.2 z, fun z => Decidable.byContradiction (fun q => z ⟨g, q⟩)⟩
    · rw [if_neg g]
      exact ⟨fun _ q => g q.1, fun _ => rfl⟩
  refine ⟨?_, ?_, fun g => by rw [h, if_pos g]⟩
  · rw [h, ← hi, l_0, pk_lLE (by omega) (by omega)]; omega
  · rw [h, ← hi, l_0, pk_lEQ (by omega) (by omega)]
theorem en44 {π : Nat → Nat → Nat} {T p q R : Nat} {β : Nat → Nat} {way : Nat → Int64} {ac : Nat → Int32} (hN : NK T p q R) (hW : WA π T p q R β way ac) {a : Nat} (ha : a ≤ 6) (w : Int32) : ∀ (i n x s : Nat), x + i = 784 → lpX9_ends_44 (nI a) w (nI T) (nI q) way ac (n + i + 1) (lN s) (nI x) = some (lN (s + sm (fun y => hX π T p q R β (Ge π T p q R β a) (x + y)) i)) := by
  intro i
  induction i with
  | zero =>
    intro n x s hi
    rw [lpX9_ends_44.eq_2, if_pos (show (784 : Int32) ≤ nI x from nI_le (a := 784) (by omega) (by omega))]; rfl
  | succ i ih =>
    intro n x s hi
    obtain ⟨z1, z2, z3⟩ := wz hN hW.1 (show x < 784 by omega)
    have hs := sm_1 (hX π T p q R β (Ge π T p q R β a)) x i
    rw [lpX9_ends_44.eq_2, if_neg (show ¬ (784 : Int32) ≤ nI x from nI_ge (b := 784) (by omega) (by omega)), og32 (by omega) (by omega), nI_clamp (by omega), hs]
    by_cases g : x / 112 ≤ T ∧ wy π T p q R β (x / 112) (x % 112) ≠ 0
    · obtain ⟨a1, a2⟩ := hW.2 (x / 112) (x % 112) g.1 g.2
      rw [show 112 * (x / 112) + x % 112 = x by omega] at a1
      rw [if_neg (fun z => z1.mp z g), og32 (by omega) (by omega), a1]
      have hx0 : hX π T p q R β (Ge π T p q R β a) x = if AC π T p q R β (x / 112) (x % 112) = a then wy π T p q R β (x / 112) (x % 112) * q ^ (T - x / 112) else 0 := by
        unfold hX Ge
        rw [if_pos g.1]
        split
        · rfl
        · exact Nat.mul_zero _
      rw [hx0]
      by_cases g2 : AC π T p q R β (x / 112) (x % 112) = a
      · rw [if_pos (by rw [g2]), og32 (by omega) (by omega), day9 (by omega), bd1_mk, pk_sub g.1, rp9 (by omega) (by omega), bd1_mk, nm_mk, bd1_mk, nm_mk, z3 g.1, lN_mul, lN_add, nI_1, if_pos g2, show n + (i + 1) = n + i + 1 by omega, ih n (x + 1) _ (by omega), Nat.add_assoc]
      · rw [if_neg (fun z => g2 ((nI_eq (by omega) (by omega)).mp z)), bd1_mk, nm_mk, nI_1, if_neg g2, Nat.zero_add, show n + (i + 1) = n + i + 1 by omega, ih n (x + 1) _ (by omega)]
    · have hx0 : hX π T p q R β (Ge π T p q R β a) x = 0 := by
        unfold hX
        split
        · rename_i h1
          have : wy π T p q R β (x / 112) (x % 112) = 0 := Decidable.byContradiction (fun z => g ⟨h1, z⟩)
          rw [this, Nat.zero_mul]
        · rfl
      rw [if_pos (z1.mpr g), bd1_mk, nm_mk, nI_1, hx0, Nat.zero_add, show n + (i + 1) = n + i + 1 by omega, ih n (x + 1) _ (by omega)]
theorem li31 {π : Nat → Nat → Nat} {T p q R : Nat} {β : Nat → Nat} {way : Nat → Int64} {ac : Nat → Int32} (hN : NK T p q R) (hW : WA π T p q R β way ac) (w : Int32) : ∀ (i n x s : Nat), x + i = 784 → lpX9_life_31 w (nI T) (nI q) way ac (n + i + 1) (lN s) (nI x) = some (lN (s + sm (fun y => hX π T p q R β (Gl π T p q R β) (x + y)) i)) := by
  intro i
  induction i with
  | zero =>
    intro n x s hi
    rw [lpX9_life_31.eq_2, if_pos (show (784 : Int32) ≤ nI x from nI_le (a := 784) (by omega) (by omega))]; rfl
  | succ i ih =>
    intro n x s hi
    obtain ⟨z1, z2, z3⟩ := wz hN hW.1 (show x < 784 by omega)
    have hs := sm_1 (hX π T p q R β (Gl π T p q R β)) x i
    rw [lpX9_life_31.eq_2, if_neg (show ¬ (784 : Int32) ≤ nI x from nI_ge (b := 784) (by omega) (by omega)), og32 (by omega) (by omega), nI_clamp (by omega), hs]
    by_cases g : x / 112 ≤ T ∧ wy π T p q R β (x / 112) (x % 112) ≠ 0
    · obtain ⟨a1, a2⟩ := hW.2 (x / 112) (x % 112) g.1 g.2
      rw [show 112 * (x / 112) + x % 112 = x by omega] at a1
      rw [if_neg (fun z => z1.mp z g), og32 (by omega) (by omega), a1]
      have hx0 : hX π T p q R β (Gl π T p q R β) x = if AC π T p q R β (x / 112) (x % 112) = 0 then 0 else wy π T p q R β (x / 112) (x % 112) * q ^ (T - x / 112) * (x / 112) := by
        unfold hX Gl
        rw [if_pos g.1]
        split
        · exact Nat.mul_zero _
        · exact (Nat.mul_assoc _ _ _).symm
      rw [hx0]
      by_cases g2 : AC π T p q R β (x / 112) (x % 112) = 0
      · rw [if_pos (by rw [g2]; rfl), bd1_mk, nm_mk, nI_1, if_pos g2, Nat.zero_add, show n + (i + 1) = n + i + 1 by omega, ih n (x + 1) _ (by omega)]
      · rw [if_neg (nI_ne0 (by omega) (by omega)), og32 (by omega) (by omega), day9 (by omega), bd1_mk, pk_sub g.1, rp9 (by omega) (by omega), bd1_mk, bd1_mk, nm_mk, bd1_mk, nm_mk, z3 g.1, lN_mul, nI_l (by omega), lN_mul, lN_add, nI_1, if_neg g2, show n + (i + 1) = n + i + 1 by omega, ih n (x + 1) _ (by omega), Nat.add_assoc]
    · have hx0 : hX π T p q R β (Gl π T p q R β) x = 0 := by
        unfold hX
        split
        · rename_i h1
          have : wy π T p q R β (x / 112) (x % 112) = 0 := Decidable.byContradiction (fun z => g ⟨h1, z⟩)
          rw [this, Nat.zero_mul]
        · rfl
      rw [if_pos (z1.mpr g), bd1_mk, nm_mk, nI_1, hx0, Nat.zero_add, show n + (i + 1) = n + i + 1 by omega, ih n (x + 1) _ (by omega)]
/-- acts by rows are no more than 6 -/
theorem acS_6 (π : Nat → Nat → Nat) (T p q R : Nat) (β : Nat → Nat) (t j u m : Nat) : acS π T p q R β t j u m ≤ 6 := by
  unfold acS
  split
  · unfold enA; split <;> omega
  · have := (bA_k π β t j u m (hG π T p q R β (bV π β) (T - t - 1) j m)).1
    omega
theorem GD.wa {π : Nat → Nat → Nat} {T p q R : Nat} {β : Nat → Nat} {wo ho : Nat → Int64} {ac : Nat → Int32} (h : GD π T p q R β (fun _ _ _ _ => True) wo ho ac) {way : Nat → Int64} (hW : WW π T p q R β way) : WA π T p q R β way ac := by
  refine ⟨hW, fun s x h1 h2 => ⟨?_, acS_6 _ _ _ _ _ _ _ _ _ _⟩⟩
  have hok := wy_ok π T p q R β s x h2
  have := (h s (x / 16) (x / 8 % 2) (x % 8) h1 hok trivial).2.2
  rw [atN_x, show (x / 16 * 2 + x / 8 % 2) * 8 + x % 8 = x by omega] at this
  exact this
theorem la9 {tree bs : Nat → Int32} {τ β : Nat → Nat} (hf9 : TR tree 0 τ) (hT : TK τ) {k : Nat} (hk : k < 3) (hb : RB bs k β) (hK : BK β) (x0 x1 x2 x3 : Int32) (pe9 : Nat → Int64) (a9 b9 : Int64) (wo9 ho9 wa9 : Nat → Int64) (ac9 : Nat → Int32) : Sx (fX9_laysAll (nI k) tree bs x0 x1 x2 x3 pe9 a9 b9 wo9 ho9 wa9 ac9) (fun z => z.1 = nI (τ 0) ∧ z.2.1 = nI (τ 6) ∧ z.2.2.1 = nI (τ 7) ∧ z.2.2.2.1 = nI (τ 8) ∧ RP z.2.2.2.2.1 (τ 0) (prF τ (τ 1)) ∧ GD (prF τ (τ 1)) (τ 0) (τ 6) (τ 7) (τ 8) β (fun _ _ _ _ => True) z.2.2.2.2.2.2.2.1 z.2.2.2.2.2.2.2.2.1 z.2.2.2.2.2.2.2.2.2.2 ∧ WA (prF τ (τ 1)) (τ 0) (τ 6) (τ 7) (τ 8) β z.2.2.2.2.2.2.2.2.2.1 z.2.2.2.2.2.2.2.2.2.2) := by
  unfold fX9_laysAll
  refine Sx.b10 (pn9 hf9 hT hk hb hK x0 x1 x2 x3 pe9 a9 b9 wo9 ho9 ac9) ?_
  rintro d0 d1 d2 d3 pe' d5 d6 d7 d8 d9 ⟨rfl, rfl, rfl, rfl, hP, hG⟩
  dsimp only at hP hG ⊢
  refine Sx.b1 (lw9 hb hK (prF_PK hT (by omega)) hP hT.n (fun t j u m h1 h2 => ⟨(hG t j u m h1 h2 trivial).2.2, acS_6 _ _ _ _ _ _ _ _ _ _⟩) wa9) ?_
  intro z hz
  exact Sx.mk ⟨rfl, rfl, rfl, rfl, hP, hG, hG.wa hz⟩
/-- the sum of both sides -/
def sE (τ β : Nat → Nat) (a : Nat) : Nat := sm (fun t => sm (fun x => wy (prF τ (τ 1)) (τ 0) (τ 6) (τ 7) (τ 8) β t x * Ge (prF τ (τ 1)) (τ 0) (τ 6) (τ 7) (τ 8) β a t x) 112) (τ 0 + 1)
def sL (τ β : Nat → Nat) : Nat := sm (fun t => sm (fun x => wy (prF τ (τ 1)) (τ 0) (τ 6) (τ 7) (τ 8) β t x * Gl (prF τ (τ 1)) (τ 0) (τ 6) (τ 7) (τ 8) β t x) 112) (τ 0 + 1)
theorem sE_b {τ : Nat → Nat} (hT : TK τ) (β : Nat → Nat) (a : Nat) : sE τ β a ≤ 7 * (6 * 64000000) := by
  refine G_b hT.n (fun t x ht => ?_)
  unfold Ge
  split
  · omega
  · omega
theorem sL_b {τ : Nat → Nat} (hT : TK τ) (β : Nat → Nat) : sL τ β ≤ 7 * (6 * 64000000) := by
  refine G_b hT.n (fun t x ht => ?_)
  unfold Gl
  split
  · omega
  · rw [Nat.mul_comm]; exact Nat.mul_le_mul (by omega) (Nat.le_refl _)
theorem qT_b {τ : Nat → Nat} (hT : TK τ) : 0 < τ 7 ^ τ 0 ∧ τ 7 ^ τ 0 ≤ 64000000 := by
  refine ⟨Nat.pow_pos (by omega), ?_⟩
  have h4 := Nat.pow_le_pow_left (show τ 7 ≤ 20 by omega) (τ 0)
  have h5 : 20 ^ τ 0 ≤ 20 ^ 6 := Nat.pow_le_pow_right (by omega) hT.1.2
  have h6 : (20 : Nat) ^ 6 = 64000000 := rfl
  exact Nat.le_trans h4 (by rw [← h6]; exact h5)
theorem cE8 {f : Nat → Int32} {τ β : Nat → Nat} (hf : TC f τ) (hT : TK τ) {ac : Nat → Int32} (hA : ∀ r, 1 ≤ r → r < 128 → dR r ≤ τ 0 → ac r = nI (A1 τ β r) ∧ A1 τ β r ≤ 6) {a : Nat} (ha : a ≤ 6) : fX5_chanceOfEnd (nI a) f ac = some (lN (sE τ β a)) := by
  have hb2 := p2b (τ 0) (by omega)
  unfold fX5_chanceOfEnd
  obtain ⟨n, hn⟩ := fuN (2 * 2 ^ τ 0) (by omega)
  have h := ce5 hf hT hA ha (2 * 2 ^ τ 0 - 1) n 1 0 (by omega) (by omega)
  have hs := rw_sum (π := prF τ (τ 1)) (T := τ 0) (p := τ 6) (q := τ 7) (R := τ 8) (β := β) (by omega) (Ge (prF τ (τ 1)) (τ 0) (τ 6) (τ 7) (τ 8) β a)
  rw [show 2 * 2 ^ τ 0 = 1 + (2 * 2 ^ τ 0 - 1) by omega, sm_app] at hs
  have e1 : sm (rwT (τ 6) (τ 7) (aR (prF τ (τ 1)) (τ 0) (τ 6) (τ 7) (τ 8) β (bV (prF τ (τ 1)) β) (bA (prF τ (τ 1)) β)) (Ge (prF τ (τ 1)) (τ 0) (τ 6) (τ 7) (τ 8) β a) (xR (prF τ (τ 1)) β)) 1 = 0 := rfl
  rw [e1, Nat.zero_add] at hs
  rw [hn, show n + 2 * 2 ^ τ 0 = n + (2 * 2 ^ τ 0 - 1) + 1 by omega, i_1, l_0, h, bd1_mk, Nat.zero_add]
  exact congrArg (fun z => some (lN z)) hs
theorem cL8 {f : Nat → Int32} {τ β : Nat → Nat} (hf : TC f τ) (hT : TK τ) {ac : Nat → Int32} (hA : ∀ r, 1 ≤ r → r < 128 → dR r ≤ τ 0 → ac r = nI (A1 τ β r) ∧ A1 τ β r ≤ 6) : fX5_chancesTimesDays f ac = some (lN (sL τ β)) := by
  have hb2 := p2b (τ 0) (by omega)
  unfold fX5_chancesTimesDays
  obtain ⟨n, hn⟩ := fuN (2 * 2 ^ τ 0) (by omega)
  have h := cl4 hf hT hA (2 * 2 ^ τ 0 - 1) n 1 0 (by omega) (by omega)
  have hs := rw_sum (π := prF τ (τ 1)) (T := τ 0) (p := τ 6) (q := τ 7) (R := τ 8) (β := β) (by omega) (Gl (prF τ (τ 1)) (τ 0) (τ 6) (τ 7) (τ 8) β)
  rw [show 2 * 2 ^ τ 0 = 1 + (2 * 2 ^ τ 0 - 1) by omega, sm_app] at hs
  have e1 : sm (rwT (τ 6) (τ 7) (aR (prF τ (τ 1)) (τ 0) (τ 6) (τ 7) (τ 8) β (bV (prF τ (τ 1)) β) (bA (prF τ (τ 1)) β)) (Gl (prF τ (τ 1)) (τ 0) (τ 6) (τ 7) (τ 8) β) (xR (prF τ (τ 1)) β)) 1 = 0 := rfl
  rw [e1, Nat.zero_add] at hs
  rw [hn, show n + 2 * 2 ^ τ 0 = n + (2 * 2 ^ τ 0 - 1) + 1 by omega, i_1, l_0, h, bd1_mk, Nat.zero_add]
  exact congrArg (fun z => some (lN z)) hs
theorem SB.a6 {τ β : Nat → Nat} (hT : TK τ) {pe tu ca ho va : Nat → Int64} {ma ac : Nat → Int32} (hS : SB τ β pe tu ca ho va ma ac) : ∀ r, 1 ≤ r → r < 128 → dR r ≤ τ 0 → ac r = nI (A1 τ β r) ∧ A1 τ β r ≤ 6 := fun r h1 h2 h3 => ⟨(hS.a hT r h1 h2 h3).1, (hS.a hT r h1 h2 h3).2.1.1⟩
theorem q_ends {tr b0 b1 b2 tree bs : Nat → Int32} {τ : Nat → Nat} {B : Nat → Nat → Nat} (hf : TC tr τ) (hf9 : TR tree 0 τ) (hT : TK τ) (hB : CB3 b0 b1 b2 B) (hb9 : ∀ k, k < 3 → RB bs k (B k)) (p1 p2 p3 : Int32) (st sb : Nat → Int32) (pu pe tu ca ho va : Nat → Int64) (ma ac : Nat → Int32) (x0 x1 x2 x3 : Int32) (pe9 : Nat → Int64) (a9 b9 : Int64) (wo9 ho9 wa9 : Nat → Int64) (ac9 : Nat → Int32) : Sx2 (fX8_ends p1 p2 p3 tr b0 b1 b2 st sb pu pe tu ca ho va ma ac) (fX9_ends p1 p2 p3 tree bs x0 x1 x2 x3 pe9 a9 b9 wo9 ho9 wa9 ac9) (fun _ _ => True) := by
  by_cases h1 : inr p1 0 2
  rotate_left
  · exact Sx2.mk (by unfold fX8_ends; rw [isb8n h1, bd1_mk, if_pos rfl]) (by unfold fX9_ends; rw [isb9n h1, bd1_mk, if_pos rfl]) (trivial)
  by_cases h2 : inr p2 1 6
  rotate_left
  · exact Sx2.mk (by unfold fX8_ends; rw [isb8y h1, bd1_mk, if_neg one0, wi0 h2, bd1_mk, if_pos rfl]) (by unfold fX9_ends; rw [isb9y h1, bd1_mk, if_neg one0, in0 h2, bd1_mk, if_pos rfl]) (trivial)
  by_cases h3 : inr p3 0 1
  rotate_left
  · exact Sx2.mk (by unfold fX8_ends; rw [isb8y h1, bd1_mk, if_neg one0, wi1 h2, bd1_mk, if_neg one0, wi0 h3, bd1_mk, if_pos rfl]) (by unfold fX9_ends; rw [isb9y h1, bd1_mk, if_neg one0, in1 h2, bd1_mk, if_neg one0, in0 h3, bd1_mk, if_pos rfl]) (trivial)
  obtain ⟨k, rfl, _, hk, _⟩ := inr_n h1 (by decide)
  have hk3 : k < 3 := by omega
  obtain ⟨a, rfl, _, a2, _⟩ := inr_n h2 (by decide)
  obtain ⟨w, rfl, _, w2, _⟩ := inr_n h3 (by decide)
  have hS := sE_b hT (B k) a
  obtain ⟨q1, q2⟩ := qT_b hT
  refine Sx2.val (v := lN ((if w = 0 then sE τ (B k) a else τ 7 ^ τ 0) / Nat.gcd (sE τ (B k) a) (τ 7 ^ τ 0))) ?_ ?_
  · unfold fX8_ends
    rw [isb8y h1, bd1_mk, if_neg one0, wi1 h2, bd1_mk, if_neg one0, wi1 h3, bd1_mk, if_neg one0]
    refine Sx.b10 (wo8 hk3 hf hT hB st sb pu pe tu ca ho va ma ac) ?_
    rintro c0 c1 c2 c3 c4 c5 c6 c7 c8 c9 ⟨hc, hcb, hsb⟩
    dsimp only at hc hcb hsb
    exact Sx.e1 (cE8 hc hT (hsb.a6 hT) (show a ≤ 6 by omega)) (Sx.e1 (cwh8 hc hT) (Sx.e1 (lt8 (by omega) q1 q2 (by omega)) (Sx.mk rfl)))
  · unfold fX9_ends
    rw [isb9y h1, bd1_mk, if_neg one0, in1 h2, bd1_mk, if_neg one0, in1 h3, bd1_mk, if_neg one0]
    refine Sx.b11 (la9 hf9 hT hk3 (hb9 k hk3) (hB k hk3).2 x0 x1 x2 x3 pe9 a9 b9 wo9 ho9 wa9 ac9) ?_
    rintro d0 d1 d2 d3 pe' d5 d6 d7 d8 d9 d10 ⟨rfl, rfl, rfl, rfl, hP, hG, hWA⟩
    dsimp only at hP hG hWA ⊢
    obtain ⟨n, hn⟩ := fuN 785 (by omega)
    have he := en44 hT.n hWA (show a ≤ 6 by omega) (nI w) 784 n 0 0 (by omega)
    have hs := wy_sum (by omega) hWA.1 (Ge (prF τ (τ 1)) (τ 0) (τ 6) (τ 7) (τ 8) (B k) a) _ hX_d
    have e2 : sm (fun y => hX (prF τ (τ 1)) (τ 0) (τ 6) (τ 7) (τ 8) (B k) (Ge (prF τ (τ 1)) (τ 0) (τ 6) (τ 7) (τ 8) (B k) a) (0 + y)) 784 = sE τ (B k) a := by
      refine Eq.trans (sm_congr 784 (fun y _ => by rw [Nat.zero_add])) hs
    rw [e2, Nat.zero_add] at he
    rw [hn, i_0, l_0]
    exact Sx.e1 he (Sx.e1 (rp9 (by omega) (by omega)) (Sx.e1 (pt9 (by omega) q1 q2 (by omega)) (Sx.mk ⟨rfl, trivial⟩)))
theorem q_life {tr b0 b1 b2 tree bs : Nat → Int32} {τ : Nat → Nat} {B : Nat → Nat → Nat} (hf : TC tr τ) (hf9 : TR tree 0 τ) (hT : TK τ) (hB : CB3 b0 b1 b2 B) (hb9 : ∀ k, k < 3 → RB bs k (B k)) (p1 p2 : Int32) (st sb : Nat → Int32) (pu pe tu ca ho va : Nat → Int64) (ma ac : Nat → Int32) (x0 x1 x2 x3 : Int32) (pe9 : Nat → Int64) (a9 b9 : Int64) (wo9 ho9 wa9 : Nat → Int64) (ac9 : Nat → Int32) : Sx2 (fX8_life p1 p2 tr b0 b1 b2 st sb pu pe tu ca ho va ma ac) (fX9_life p1 p2 tree bs x0 x1 x2 x3 pe9 a9 b9 wo9 ho9 wa9 ac9) (fun _ _ => True) := by
  by_cases h1 : inr p1 0 2
  rotate_left
  · exact Sx2.mk (by unfold fX8_life; rw [isb8n h1, bd1_mk, if_pos rfl]) (by unfold fX9_life; rw [isb9n h1, bd1_mk, if_pos rfl]) (trivial)
  by_cases h2 : inr p2 0 1
  rotate_left
  · exact Sx2.mk (by unfold fX8_life; rw [isb8y h1, bd1_mk, if_neg one0, wi0 h2, bd1_mk, if_pos rfl]) (by unfold fX9_life; rw [isb9y h1, bd1_mk, if_neg one0, in0 h2, bd1_mk, if_pos rfl]) (trivial)
  obtain ⟨k, rfl, _, hk, _⟩ := inr_n h1 (by decide)
  have hk3 : k < 3 := by omega
  obtain ⟨w, rfl, _, w2, _⟩ := inr_n h2 (by decide)
  have hS := sL_b hT (B k)
  obtain ⟨q1, q2⟩ := qT_b hT
  refine Sx2.val (v := lN ((if w = 0 then sL τ (B k) else τ 7 ^ τ 0) / Nat.gcd (sL τ (B k)) (τ 7 ^ τ 0))) ?_ ?_
  · unfold fX8_life
    rw [isb8y h1, bd1_mk, if_neg one0, wi1 h2, bd1_mk, if_neg one0]
    refine Sx.b10 (wo8 hk3 hf hT hB st sb pu pe tu ca ho va ma ac) ?_
    rintro c0 c1 c2 c3 c4 c5 c6 c7 c8 c9 ⟨hc, hcb, hsb⟩
    dsimp only at hc hcb hsb
    exact Sx.e1 (cL8 hc hT (hsb.a6 hT)) (Sx.e1 (cwh8 hc hT) (Sx.e1 (lt8 (by omega) q1 q2 (by omega)) (Sx.mk rfl)))
  · unfold fX9_life
    rw [isb9y h1, bd1_mk, if_neg one0, in1 h2, bd1_mk, if_neg one0]
    refine Sx.b11 (la9 hf9 hT hk3 (hb9 k hk3) (hB k hk3).2 x0 x1 x2 x3 pe9 a9 b9 wo9 ho9 wa9 ac9) ?_
    rintro d0 d1 d2 d3 pe' d5 d6 d7 d8 d9 d10 ⟨rfl, rfl, rfl, rfl, hP, hG, hWA⟩
    dsimp only at hP hG hWA ⊢
    obtain ⟨n, hn⟩ := fuN 785 (by omega)
    have he := li31 hT.n hWA (nI w) 784 n 0 0 (by omega)
    have hs := wy_sum (by omega) hWA.1 (Gl (prF τ (τ 1)) (τ 0) (τ 6) (τ 7) (τ 8) (B k)) _ hX_d
    have e2 : sm (fun y => hX (prF τ (τ 1)) (τ 0) (τ 6) (τ 7) (τ 8) (B k) (Gl (prF τ (τ 1)) (τ 0) (τ 6) (τ 7) (τ 8) (B k)) (0 + y)) 784 = sL τ (B k) := by
      refine Eq.trans (sm_congr 784 (fun y _ => by rw [Nat.zero_add])) hs
    rw [e2, Nat.zero_add] at he
    rw [hn, i_0, l_0]
    exact Sx.e1 he (Sx.e1 (rp9 (by omega) (by omega)) (Sx.e1 (pt9 (by omega) q1 q2 (by omega)) (Sx.mk ⟨rfl, trivial⟩)))
