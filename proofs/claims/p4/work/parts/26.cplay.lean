/-! pure: the class's rows played (own rows) -/
def vR (π : Nat → Nat → Nat) (T p q R : Nat) (β : Nat → Nat) (σ : Nat → Nat → Nat → Nat → Nat → Nat) (r : Nat) : Nat := vG π T p q R β σ (T - dR r) (uR r) (bR r) (mR π β r)
def hR (π : Nat → Nat → Nat) (T p q R : Nat) (β : Nat → Nat) (σ : Nat → Nat → Nat → Nat → Nat → Nat) (r : Nat) : Nat := hG π T p q R β σ (T - dR r - 1) (uR r) (mR π β r)
def aR (π : Nat → Nat → Nat) (T p q R : Nat) (β : Nat → Nat) (σ α : Nat → Nat → Nat → Nat → Nat → Nat) (r : Nat) : Nat := if dR r = T then enA π T β (uR r) (bR r) else α (dR r) (uR r) (bR r) (mR π β r) (hR π T p q R β σ r)
def CV (π : Nat → Nat → Nat) (T p q R : Nat) (β : Nat → Nat) (σ α : Nat → Nat → Nat → Nat → Nat → Nat) (N : Nat) (ho va : Nat → Int64) (ac : Nat → Int32) : Prop := ∀ r, N ≤ r → 1 ≤ r → r < 2 * 2 ^ T → va r = lN (vR π T p q R β σ r) ∧ (ho r = if dR r = T then -2 else lN (hR π T p q R β σ r)) ∧ ac r = nI (aR π T p q R β σ α r)
theorem p2T {T : Nat} (hT : T ≤ 6) : 2 * 2 ^ T ≤ 128 := by
  have := Nat.pow_le_pow_right (show 0 < 2 by omega) hT
  omega
theorem sr8 {ho va : Nat → Int64} {ac : Nat → Int32} {r : Nat} (h1 : 1 ≤ r) (h : r < 128) (x z : Int64) (y : Int32) : fX5_setRow (nI r) x y z ho va ac = some (vp_updL ho r x, vp_updL va r z, upd ac r y) := by
  unfold fX5_setRow
  rw [isr8 r h h1, bd1_mk, if_neg one0, og32 h (by omega), nm_mk, og32 h (by omega), nm_mk, og32 h (by omega), nm_mk, bd3_mk, nI_clamp (by omega)]
theorem lo8 (r : Nat) {b : Nat} (hb : b < 2) : fX8_longer (nI r) (nI b) = some (nI (2 * r + b)) := by
  unfold fX8_longer
  rcases (show b = 0 ∨ b = 1 by omega) with rfl | rfl
  · rw [if_pos (show nI 0 = (0 : Int32) from rfl), bd1_mk, i_2, pk_mul, i_0, nI_add, Nat.mul_comm]
  · rw [if_neg (show ¬ nI 1 = (0 : Int32) from one0), bd1_mk, i_2, pk_mul, i_1, nI_add, Nat.mul_comm]
theorem me8 {f : Nat → Int32} {τ : Nat → Nat} (hf : TC f τ) (hT : TK τ) {a b : Nat} (ha : a ≤ 64000000010000) (hb : b ≤ 64000000010000) : fX7_meanOf (lN a) (lN b) f = some (lN (mn (τ 6) (τ 7) (τ 8) a b)) := by
  unfold fX7_meanOf fX8_through
  have hin := mn_in (p := τ 6) (q := τ 7) (by omega) (by omega) ha hb
  have hq := Nat.mul_le_mul (show τ 7 ≤ 20 by omega) (show 1000 + τ 8 ≤ 1200 by omega)
  have hq0 : 0 < τ 7 * (1000 + τ 8) := Nat.mul_pos (by omega) (by omega)
  have h4 : ¬ lN (τ 7 * (1000 + τ 8)) = 0 := fun h => by rw [l_0, pk_lEQ (by omega) (by omega)] at h; omega
  rw [cl_6, cl_7, cl_8, hf 6 (by omega), hf 7 (by omega), hf 8 (by omega), nm_mk, nm_mk, nm_mk, i_1000, nI_add, pk_mul, nI_l (n := τ 7 * (1000 + τ 8)) (by omega), pk_sub (by omega), nI_l (n := τ 6) (by omega), nI_l (n := τ 7 - τ 6) (by omega), lN_mul, lN_mul, lN_add, l_1000, lN_mul, if_neg h4, og_mk, bd1_mk, bd1_mk, pk_lDiv hin hq0 (by omega)]
  · rfl
  · unfold nzL
    rw [decide_eq_false h4]; rfl
theorem lb8 {f : Nat → Int32} {τ : Nat → Nat} (hf : TC f τ) (hT : TK τ) {va : Nat → Int64} {r a b : Nat} (h1 : 1 ≤ r) (h : r < 64) (e1 : va (2 * r + 1) = lN a) (e0 : va (2 * r) = lN b) (ha : a ≤ 64000000010000) (hb : b ≤ 64000000010000) : fX5_lookBack (nI r) f va = some (lN (mn (τ 6) (τ 7) (τ 8) a b)) := by
  unfold fX5_lookBack
  rw [i_1, lo8 r (by omega), bd1_mk, va8 (by omega) (by omega), bd1_mk, i_0, lo8 r (by omega), bd1_mk, Nat.add_zero (2 * r), va8 (by omega) (by omega), bd1_mk, e1, e0, me8 hf hT ha hb, bd1_mk]
theorem anw {h pu tu : Nat} (hh : h + 1 < 2 ^ 63) (hp : pu < 2 ^ 63) (ht : tu < 2 ^ 63) : fX5_actWhenNotCalled (lN h) (lC pu) (lC tu) = some (nI (if pu ≤ h + 1 ∧ tu ≤ h + 1 then 0 else if pu ≠ 0 ∧ tu ≤ pu then 1 else 2)) := by
  unfold fX5_actWhenNotCalled
  rw [lCN]
  simp only [lC_lt (a := h + 1) (b := pu) hh hp, lC_lt (a := h + 1) (b := tu) hh ht, lC_lt (a := pu) (b := tu) hp ht, lC_neg hp]
  by_cases g1 : h + 1 < pu
  · rw [if_pos g1, if_neg (by omega : ¬ pu = 0), if_neg (by omega : ¬ (pu ≤ h + 1 ∧ tu ≤ h + 1))]
    by_cases g2 : pu < tu
    · rw [if_pos g2, if_neg (by omega)]; rfl
    · rw [if_neg g2, if_pos (by omega)]; rfl
  · rw [if_neg g1]
    by_cases g3 : h + 1 < tu
    · rw [if_pos g3, if_neg (by omega : ¬ (pu ≤ h + 1 ∧ tu ≤ h + 1)), if_neg (by omega : ¬ (pu ≠ 0 ∧ tu ≤ pu)), if_pos (by omega : pu < tu)]
      by_cases g4 : pu = 0
      · rw [if_pos g4]; rfl
      · rw [if_neg g4]; rfl
    · rw [if_neg g3, if_pos (by omega)]; rfl
theorem aoc {ts : Nat → Int32} {β : Nat → Nat} {π : Nat → Nat → Nat} (hb : CB ts β) (hK : BK β) (hp : PK π) {tu : Nat → Int64} {r : Nat} (h1 : 1 ≤ r) (h : r < 128) (et : tu r = lC (tuS π β (dR r) (uR r) (bR r))) : fX5_actOfCall (nI r) (nI (dR r)) ts tu = some (nI (if caL β (dR r) < tuS π β (dR r) (uR r) (bR r) then 4 else 3)) := by
  obtain ⟨⟨b1, b2, b3⟩, b4, b5, b6⟩ := row_b1 r h h1
  have hc := caL_le hK (dR r)
  have ht := tuS_le hp hK (dR r) (uR r) (bR r)
  unfold fX5_actOfCall
  rw [tuA8 h1 h, bd1_mk, ca8 hb (by omega), bd1_mk, iC_l (by omega), et, ite_so, bd1_mk]
  by_cases g : caL β (dR r) < tuS π β (dR r) (uR r) (bR r)
  · rw [if_pos g, if_neg (fun q => by rw [lC_le (by omega) (by omega)] at q; omega)]; rfl
  · rw [if_neg g, if_pos ((lC_le (by omega) (by omega)).mpr (by omega))]; rfl
theorem cd_0 {π : Nat → Nat → Nat} {β : Nat → Nat} {r : Nat} : cdF π β r = 0 ↔ ¬ frF β (dR r) (mR π β r) := by
  unfold cdF
  by_cases h : frF β (dR r) (mR π β r)
  · rw [if_pos h]
    have : caL β (dR r) ≤ cgS π β (dR r) (uR r) (bR r) := Nat.le_max_left _ _
    have := h.1
    exact ⟨fun q => by omega, fun q => absurd h q⟩
  · rw [if_neg h]
    exact ⟨fun _ => h, fun _ => rfl⟩
theorem cd_s {π : Nat → Nat → Nat} {β : Nat → Nat} {r : Nat} (h : frF β (dR r) (mR π β r)) : cdF π β r = cgS π β (dR r) (uR r) (bR r) := if_pos h
theorem cd_le {π : Nat → Nat → Nat} {β : Nat → Nat} (hp : PK π) (hK : BK β) (r : Nat) : cdF π β r ≤ 64000000000001 := by
  unfold cdF
  split
  · exact cgS_le hp hK _ _ _
  · omega
theorem cb8 {f ts : Nat → Int32} {τ β : Nat → Nat} {π : Nat → Nat → Nat} (hf : TC f τ) (hT : TK τ) (hb : CB ts β) (hK : BK β) (hp : PK π) {tu ca ho va : Nat → Int64} {ac : Nat → Int32} {r a b : Nat} (h1 : 1 ≤ r) (h : r < 64) (et : tu r = lC (tuS π β (dR r) (uR r) (bR r))) (ec : ca r = lC (cdF π β r)) (e1 : va (2 * r + 1) = lN a) (e0 : va (2 * r) = lN b) (ha : a ≤ 64000000007000) (hbb : b ≤ 64000000007000) : fX5_chooseBest (nI r) (nI (dR r)) f ts tu ca ho va ac = some (vp_updL ho r (lN (mn (τ 6) (τ 7) (τ 8) a b)), vp_updL va r (lN (bV π β (dR r) (uR r) (bR r) (mR π β r) (mn (τ 6) (τ 7) (τ 8) a b))), upd ac r (nI (bA π β (dR r) (uR r) (bR r) (mR π β r) (mn (τ 6) (τ 7) (τ 8) a b)))) := by
  obtain ⟨⟨b1, b2, b3⟩, b4, b5, b6⟩ := row_b1 r (by omega) h1
  have hcp := cpF_le hK (dR r)
  have hpu := puL_le hK (dR r)
  have htu := tuS_le hp hK (dR r) (uR r) (bR r)
  have hcd := cd_le hp hK r
  have hh : mn (τ 6) (τ 7) (τ 8) a b ≤ 64000000007000 := mn_le (by omega) (by omega) ha hbb
  unfold fX5_chooseBest
  rw [lb8 hf hT h1 h e1 e0 (by omega) (by omega), bd1_mk, pu8 hb (by omega), bd1_mk, nm_mk, tuA8 h1 (by omega), bd1_mk, caA8 h1 (by omega), bd1_mk, et, ec, iC_l (e := puL β (dR r)) (by omega), lC_max (by omega) (by omega), aoc hb hK hp h1 (by omega) et, co8 hb (by omega), anw (by omega) (by omega) (by omega)]
  generalize mn (τ 6) (τ 7) (τ 8) a b = m at *
  unfold bV bA bG
  by_cases hi : icF π β (dR r) (uR r) (bR r) (mR π β r) m
  · have h6 := cd_s hi.1
    have h7 : ¬ lC (cdF π β r) < 0 := fun q => by rw [lC_neg (by omega)] at q; exact cd_0.mp q hi.1
    have h8 : ¬ lN m ≤ lC (cdF π β r) := by rw [lCN, lC_le (by omega) (by omega), h6]; have := hi.2; omega
    rw [if_neg h7, if_neg h8, bd1_mk, if_neg one0, bd1_mk, nm_mk, bd1_mk, if_neg one0, if_pos hi, if_pos hi, ← h6]
    obtain ⟨x, hx⟩ : ∃ x, max (max (puL β (dR r)) (tuS π β (dR r) (uR r) (bR r))) (cdF π β r) = x + 1 := ⟨max (max (puL β (dR r)) (tuS π β (dR r) (uR r) (bR r))) (cdF π β r) - 1, by have : ¬ cdF π β r = 0 := fun q => cd_0.mp q hi.1; omega⟩
    rw [Nat.max_comm (tuS π β (dR r) (uR r) (bR r)), lC_max (by omega) (by omega), hx, lC_s, Nat.add_sub_cancel]
    by_cases g1 : cdF π β r < puL β (dR r)
    · rw [if_neg (fun q => by rw [lC_le (by omega) (by omega)] at q; omega), if_pos g1, bd1_mk, bd1_mk, bd1_mk, sr8 h1 (by omega), bd3_mk, nI_l (by omega), lN_add]; rfl
    · rw [if_pos ((lC_le (by omega) (by omega)).mpr (by omega)), if_neg g1, bd1_mk, bd1_mk, bd1_mk, bd1_mk, sr8 h1 (by omega), bd3_mk, nI_l (by omega), lN_add]
  · have hj : (if lC (cdF π β r) < 0 then some (0 : Int32) else if lN m ≤ lC (cdF π β r) then some 0 else some 1) = some 0 := by
      by_cases hfr : frF β (dR r) (mR π β r)
      · have h7 : ¬ lC (cdF π β r) < 0 := fun q => by rw [lC_neg (by omega)] at q; exact cd_0.mp q hfr
        rw [if_neg h7, if_pos]
        rw [lCN, lC_le (by omega) (by omega), cd_s hfr]
        have := fun g => hi ⟨hfr, g⟩
        omega
      · rw [if_pos ((lC_neg (by omega)).mpr (cd_0.mpr hfr))]
    rw [hj, bd1_mk, if_pos rfl, bd1_mk, nm_mk, bd1_mk, if_pos rfl, bd1_mk, bd1_mk, if_neg hi, if_neg hi]
    obtain ⟨x, hx⟩ : ∃ x, max (max (puL β (dR r)) (tuS π β (dR r) (uR r) (bR r))) (m + 1) = x + 1 := ⟨max (max (puL β (dR r)) (tuS π β (dR r) (uR r) (bR r))) (m + 1) - 1, by omega⟩
    rw [Nat.max_comm (tuS π β (dR r) (uR r) (bR r)), lCN m, lC_max (by omega) (by omega), hx, lC_s x, Nat.add_sub_cancel, sr8 h1 (by omega), bd3_mk, nI_l (by omega), lN_add]
theorem el8 {f ts : Nat → Int32} {τ β : Nat → Nat} {π : Nat → Nat → Nat} (hf : TC f τ) (hT : TK τ) (hb : CB ts β) (hK : BK β) (hp : PK π) {tu ho va : Nat → Int64} {ac : Nat → Int32} {r : Nat} (h1 : 1 ≤ r) (h : r < 128) (hd : dR r = τ 0) (et : tu r = lC (tuS π β (dR r) (uR r) (bR r))) : fX5_endOnLastDay (nI r) f ts tu ho va ac = some (vp_updL ho r (-2), vp_updL va r (lN (enV π (τ 0) β (uR r) (bR r))), upd ac r (nI (enA π (τ 0) β (uR r) (bR r)))) := by
  have hcp := cpF_le hK (τ 0)
  rw [hd] at et
  have htu := tuS_le hp hK (τ 0) (uR r) (bR r)
  have hfa := hK.1
  unfold fX5_endOnLastDay fX0_face enV enA
  rw [ld8 hf hT, bd1_mk, co8 hb (by omega), bd1_mk, tuA8 h1 h, bd1_mk, bd1_mk, et, cl_0, hb.1.1.1, nI_l (n := β 0) (by omega), lCN (β 0), nI_l (n := cpF β (τ 0)) (by omega)]
  by_cases g : β 0 + 1 < tuS π β (τ 0) (uR r) (bR r)
  · rw [if_neg (fun q => by rw [lC_le (by omega) (by omega)] at q; omega), if_pos g, Nat.max_eq_right (by omega), sr8 h1 h, bd3_mk, bd3_mk]
    obtain ⟨x, hx⟩ : ∃ x, tuS π β (τ 0) (uR r) (bR r) = x + 1 := ⟨tuS π β (τ 0) (uR r) (bR r) - 1, by omega⟩
    rw [hx, lC_s, lN_add, Nat.add_sub_cancel]; rfl
  · rw [if_pos ((lC_le (by omega) (by omega)).mpr (by omega)), if_neg g, Nat.max_eq_left (by omega), bd1_mk, nI_add, nI_l (by omega), sr8 h1 h, bd3_mk, bd3_mk, Nat.add_sub_cancel]; rfl
theorem rb8 {ts : Nat → Int32} {β : Nat → Nat} {f : Nat → Int32} {τ : Nat → Nat} {π : Nat → Nat → Nat} (hf : TC f τ) (hT : TK τ) (hb : CB ts β) (hK : BK β) (hp : PK π) {pe tu ca ho va : Nat → Int64} {ac : Nat → Int32} {r a b x y : Nat} (hx : x ≤ 1000000) (hy : y ≤ 1000000) (h1 : 1 ≤ r) (h : r < 64) (ep : pe r = lN (π (dR r) (uR r))) (et : tu r = lC (tuS π β (dR r) (uR r) (bR r))) (ec : ca r = lC (cdF π β r)) (e1 : va (2 * r + 1) = lN a) (e0 : va (2 * r) = lN b) (ha : a ≤ 64000000007000) (hbb : b ≤ 64000000007000) : fX5_chooseByRule (nI r) (nI (dR r)) (nI x) (nI y) f ts pe tu ca ho va ac = some (vp_updL ho r (lN (mn (τ 6) (τ 7) (τ 8) a b)), vp_updL va r (lN (rV x y π β (dR r) (uR r) (bR r) (mR π β r) (mn (τ 6) (τ 7) (τ 8) a b))), upd ac r (nI (rA x y π β (dR r) (uR r) (bR r) (mR π β r)))) := by
  obtain ⟨⟨b1, b2, b3⟩, b4, b5, b6⟩ := row_b1 r (by omega) h1
  have hcp := cpF_le hK (dR r)
  have hpe := hp (dR r) (uR r)
  have htu := tuS_le hp hK (dR r) (uR r) (bR r)
  have hcd := cd_le hp hK r
  have hh : mn (τ 6) (τ 7) (τ 8) a b ≤ 64000000007000 := mn_le (by omega) (by omega) ha hbb
  unfold fX5_chooseByRule
  simp only [lb8 hf hT h1 h e1 e0 (show a ≤ 64000000010000 by omega) (show b ≤ 64000000010000 by omega), bd1_mk, co8 hb (show dR r ≤ 6 by omega), tuA8 (f := tu) h1 (show r < 128 by omega), caA8 (f := ca) h1 (show r < 128 by omega), peA8 (f := pe) h1 (show r < 128 by omega), et, ec, ep, aoc hb hK hp h1 (show r < 128 by omega) et, sr8 h1 (show r < 128 by omega), bd3_mk, nI_l (n := cpF β (dR r)) (by omega), nI_l (n := x) (by omega), nI_l (n := y) (by omega), lC_neg (e := tuS π β (dR r) (uR r) (bR r)) (by omega), lC_neg (e := cdF π β r) (by omega), pk_lLT (a := π (dR r) (uR r)) (b := x) (by omega) (by omega), pk_lLT (a := π (dR r) (uR r)) (b := y) (by omega) (by omega), cd_0]
  generalize mn (τ 6) (τ 7) (τ 8) a b = m at *
  unfold rV rA
  have hC : (if ¬ frF β (dR r) (mR π β r) then some (vp_updL ho r (lN m), vp_updL va r (lN (cpF β (dR r)) + lN m), upd ac r 0) else if π (dR r) (uR r) < y then some (vp_updL ho r (lN m), vp_updL va r (lN (cpF β (dR r)) + lN m), upd ac r 0) else some (vp_updL ho r (lN m), vp_updL va r (lN (cpF β (dR r)) + lC (cdF π β r)), upd ac r (nI (if caL β (dR r) < tuS π β (dR r) (uR r) (bR r) then 4 else 3)))) = some (vp_updL ho r (lN m), vp_updL va r (lN (cpF β (dR r) + if rC π β y (dR r) (uR r) (mR π β r) then cgS π β (dR r) (uR r) (bR r) - 1 else m)), upd ac r (nI (if rC π β y (dR r) (uR r) (mR π β r) then (if caL β (dR r) < tuS π β (dR r) (uR r) (bR r) then 4 else 3) else 0))) := by
    by_cases g1 : frF β (dR r) (mR π β r)
    · rw [if_neg (fun q => q g1)]
      by_cases g2 : π (dR r) (uR r) < y
      · rw [if_pos g2, if_neg (fun q : rC π β y (dR r) (uR r) (mR π β r) => by have := q.2; omega), if_neg (fun q : rC π β y (dR r) (uR r) (mR π β r) => by have := q.2; omega), lN_add]; rfl
      · rw [if_neg g2, if_pos (show rC π β y (dR r) (uR r) (mR π β r) from ⟨g1, by omega⟩), if_pos (show rC π β y (dR r) (uR r) (mR π β r) from ⟨g1, by omega⟩), ← cd_s g1]
        obtain ⟨z, hz⟩ : ∃ z, cdF π β r = z + 1 := ⟨cdF π β r - 1, by have : ¬ cdF π β r = 0 := fun q => cd_0.mp q g1; omega⟩
        rw [hz, lC_s, lN_add, Nat.add_sub_cancel]
    · rw [if_pos g1, if_neg (fun q : rC π β y (dR r) (uR r) (mR π β r) => g1 q.1), if_neg (fun q : rC π β y (dR r) (uR r) (mR π β r) => g1 q.1), lN_add]; rfl
  rw [hC]
  by_cases g3 : tuS π β (dR r) (uR r) (bR r) = 0
  · rw [if_pos g3, bd3_mk, if_neg (fun q : rT π β x (dR r) (uR r) (bR r) => q.1 g3), if_neg (fun q : rT π β x (dR r) (uR r) (bR r) => q.1 g3)]
  · rw [if_neg g3]
    by_cases g4 : π (dR r) (uR r) < x
    · rw [if_pos g4, bd3_mk, if_neg (fun q : rT π β x (dR r) (uR r) (bR r) => by have := q.2; omega), if_neg (fun q : rT π β x (dR r) (uR r) (bR r) => by have := q.2; omega)]
    · rw [if_neg g4, bd3_mk, if_pos (show rT π β x (dR r) (uR r) (bR r) from ⟨g3, by omega⟩), if_pos (show rT π β x (dR r) (uR r) (bR r) from ⟨g3, by omega⟩)]
      obtain ⟨z, hz⟩ : ∃ z, tuS π β (dR r) (uR r) (bR r) = z + 1 := ⟨tuS π β (dR r) (uR r) (bR r) - 1, by omega⟩
      rw [hz, lC_s, lN_add, Nat.add_sub_cancel]; rfl
