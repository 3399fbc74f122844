/-! pure: the text read, both sides: blanks, figures, signs (own rows) -/
abbrev TXT (N : Nat) (v : Nat → Nat) (bytes tape : Nat → Int32) : Prop := N ≤ 100 ∧ ∀ i, i < N → v i < 256 ∧ bytes i = nI (v i) ∧ tape i = sB (v i)
def atB (N : Nat) (v : Nat → Nat) (s : Nat) : Int32 := if N ≤ s then -1 else nI (v s)
def dgB (v : Nat) : Int32 := if 48 ≤ v ∧ v ≤ 57 then 1 else 0
theorem sB_x : ∀ v, v < 256 → ((sB v = 32) ↔ v = 32) ∧ (nI v = 32 ↔ v = 32) ∧ (sB v &&& 255 = nI v) ∧ fX9_isFigure (sB v) = some (dgB v) ∧ fX9_isFigure (nI v) = some (dgB v) ∧ fX6_isDigit (nI v) = some (dgB v) := by decide +kernel
theorem sB_d : ∀ v, v < 256 → dgB v ≠ 0 → sB v = nI v ∧ 48 ≤ v ∧ v ≤ 57 := by decide +kernel
theorem dg_n1 : fX9_isFigure (-1) = some 0 ∧ fX6_isDigit (-1) = some 0 := by decide +kernel
theorem wrF : ∀ s, s < 202 → ((-1000 : Int32) * 1) - nI s ≠ 0 ∧ ((-1000 : Int32) * 2) - nI s ≠ 0 ∧ ((-1000 : Int32) * 3) - nI s ≠ 0 := by decide +kernel
theorem wr9 (k x : Int32) : fX9_wrong k x 0 = some (0, ((-1000) * k) - x) := by unfold fX9_wrong; rw [if_pos rfl, nm_mk, bd1_mk]
theorem ob0 {α : Type} (k : Option α) : og (boB 0) k = k := og_mk _ rfl
theorem ob1 {α : Type} (k : Option α) : og (boB 1) k = k := og_mk _ rfl
theorem bAt {N : Nat} {v : Nat → Nat} {bytes tape : Nat → Int32} (h : TXT N v bytes tape) {s : Nat} (hs : s ≤ N) : fX6_byteAt (nI s) (nI N) bytes = some (atB N v s) := by
  unfold fX6_byteAt atB
  have hN := h.1
  rw [if_neg (nI_pos (by omega))]
  by_cases g : N ≤ s
  · rw [if_pos (nI_le g (by omega)), bd1_mk, if_pos g]
  · rw [if_neg (nI_ge (by omega) (by omega)), if_neg (show ¬ (200 : Int32) ≤ nI s from nI_ge (b := 200) (by omega) (by omega)), og32 (by omega) (by omega), nI_clamp (by omega), bd1_mk, if_neg g, (h.2 s (by omega)).2.1]
theorem lkL {N : Nat} {v : Nat → Nat} {bytes tape : Nat → Int32} (h : TXT N v bytes tape) (n : Nat) : ∀ (i s : Nat), s + i = N → ∃ s', s ≤ s' ∧ s' ≤ N ∧ (s' < N → v s' ≠ 32) ∧ ((s < N → v s ≠ 32) → s' = s) ∧ lpX6_look_0 (nI N) bytes (n + i + 1) (nI s) = some (nI s') ∧ lpX9_see_0 tape (nI N) (n + i + 1) (nI s) = some (nI s') := by
  have hN := h.1
  intro i
  induction i with
  | zero =>
    intro s hs
    refine ⟨s, Nat.le_refl _, by omega, fun q => absurd q (by omega), fun _ => rfl, ?_, ?_⟩
    · rw [lpX6_look_0.eq_2, if_pos (nI_le (by omega) (by omega))]
    · rw [lpX9_see_0.eq_2, if_pos (nI_le (by omega) (by omega))]
  | succ i ih =>
    intro s hs
    obtain ⟨h1, h2, h3⟩ := h.2 s (by omega)
    obtain ⟨u1, u2, _⟩ := sB_x _ h1
    have hb : atB N v s = nI (v s) := if_neg (by omega)
    by_cases g : v s = 32
    · obtain ⟨s', a1, a2, a3, _, a5, a6⟩ := ih (s + 1) (by omega)
      refine ⟨s', by omega, a2, a3, fun q => absurd g (q (by omega)), ?_, ?_⟩
      · rw [lpX6_look_0.eq_2, if_neg (nI_ge (by omega) (by omega)), bAt h (by omega), bd1_mk, hb, if_pos (u2.mpr g), nm_mk, nI_1, show n + (i + 1) = n + i + 1 by omega, a5]
      · rw [lpX9_see_0.eq_2, if_neg (nI_ge (by omega) (by omega)), og32 (by omega) (by omega), nI_clamp (by omega), h3, if_pos (u1.mpr g), nm_mk, nI_1, show n + (i + 1) = n + i + 1 by omega, a6]
    · refine ⟨s, Nat.le_refl _, by omega, fun _ => g, fun _ => rfl, ?_, ?_⟩
      · rw [lpX6_look_0.eq_2, if_neg (nI_ge (by omega) (by omega)), bAt h (by omega), bd1_mk, hb, if_neg (fun q => g (u2.mp q))]
      · rw [lpX9_see_0.eq_2, if_neg (nI_ge (by omega) (by omega)), og32 (by omega) (by omega), nI_clamp (by omega), h3, if_neg (fun q => g (u1.mp q))]
theorem lk {N : Nat} {v : Nat → Nat} {bytes tape : Nat → Int32} (h : TXT N v bytes tape) {s : Nat} (hs : s ≤ N) : ∃ s', s ≤ s' ∧ s' ≤ N ∧ (s' < N → v s' ≠ 32) ∧ ((s < N → v s ≠ 32) → s' = s) ∧ fX6_look (nI N) (nI s) bytes = some (atB N v s', nI s') ∧ fX9_see tape (nI s) (nI N) = some (atB N v s', nI s') := by
  have hN := h.1
  obtain ⟨n, hn⟩ := fu_s (N - s) (by omega)
  obtain ⟨s', a1, a2, a3, a4, a5, a6⟩ := lkL h n (N - s) s (by omega)
  refine ⟨s', a1, a2, a3, a4, ?_, ?_⟩
  · unfold fX6_look
    rw [hn, a5, bd1_mk, bAt h a2, bd1_mk]
  · unfold fX9_see
    rw [hn, a6, bd1_mk]
    by_cases g : N ≤ s'
    · rw [if_pos (nI_le g (by omega)), bd1_mk, show atB N v s' = -1 from if_pos g]
    · obtain ⟨h1, h2, h3⟩ := h.2 s' (by omega)
      rw [if_neg (nI_ge (by omega) (by omega)), og32 (by omega) (by omega), nI_clamp (by omega), h3, (sB_x _ h1).2.2.1, bd1_mk, show atB N v s' = nI (v s') from if_neg g]
theorem lk0 {N : Nat} {v : Nat → Nat} {bytes tape : Nat → Int32} (h : TXT N v bytes tape) {s : Nat} (hs : s ≤ N) (hb : s < N → v s ≠ 32) : fX6_look (nI N) (nI s) bytes = some (atB N v s, nI s) ∧ fX9_see tape (nI s) (nI N) = some (atB N v s, nI s) := by
  obtain ⟨s', _, _, _, a4, a5, a6⟩ := lk h hs
  rw [a4 hb] at a5 a6
  exact ⟨a5, a6⟩
theorem dgA {N : Nat} {v : Nat → Nat} {bytes tape : Nat → Int32} (h : TXT N v bytes tape) {s : Nat} (_ : s ≤ N) : ∃ d : Int32, fX6_isDigit (atB N v s) = some d ∧ fX9_isFigure (atB N v s) = some d ∧ (d = 0 ∨ (s < N ∧ d = dgB (v s) ∧ d ≠ 0)) := by
  by_cases g : N ≤ s
  · rw [show atB N v s = -1 from if_pos g]
    exact ⟨0, dg_n1.2, dg_n1.1, Or.inl rfl⟩
  · obtain ⟨h1, h2, h3⟩ := h.2 s (by omega)
    rw [show atB N v s = nI (v s) from if_neg g]
    refine ⟨dgB (v s), (sB_x _ h1).2.2.2.2.2, (sB_x _ h1).2.2.2.2.1, ?_⟩
    by_cases e : dgB (v s) = 0
    · exact Or.inl e
    · exact Or.inr ⟨by omega, rfl, e⟩
theorem numS {x w : Nat} (hw : 48 ≤ w) : ((nI x * 10) + nI w) - 48 = nI (10 * x + (w - 48)) ∧ ((10 * nI x) + nI w) - 48 = nI (10 * x + (w - 48)) := by
  constructor
  · rw [show (10 : Int32) = nI 10 from rfl, show (48 : Int32) = nI 48 from rfl, pk_mul, nI_add, pk_sub (by omega)]
    congr 1; omega
  · rw [show (10 : Int32) = nI 10 from rfl, show (48 : Int32) = nI 48 from rfl, pk_mul, nI_add, pk_sub (by omega)]
    congr 1; omega
theorem dgL {N : Nat} {v : Nat → Nat} {bytes tape : Nat → Int32} (h : TXT N v bytes tape) (b n : Nat) : ∀ (i s x : Nat), s + i = N → b ≤ s → s ≤ b + 7 → x < 10 ^ (s - b) → ∃ (tg x' s' : Nat), s ≤ s' ∧ s' ≤ N ∧ s' ≤ b + 7 ∧ x' < 10 ^ (s' - b) ∧ lpX6_takeDigits_27 (nI N) (nI b) bytes (n + i + 1) (nI x) (nI s) = some (tg, nI x', nI s') ∧ lpX9_counts_40 7 tape (nI N) (n + i + 1) (nI s) (nI x) (nI (s - b)) = some (nI s', nI x', nI (s' - b)) ∧ ((tg = 1 ∧ (s' < N → dgB (v s') = 0)) ∨ (tg = 0 ∧ s' < N ∧ dgB (v s') ≠ 0)) ∧ ((s < N ∧ dgB (v s) ≠ 0 ∧ s < b + 7) → s < s') := by
  have hN := h.1
  intro i
  induction i with
  | zero =>
    intro s x hs hb h7 hx
    refine ⟨1, x, s, Nat.le_refl _, by omega, h7, hx, ?_, ?_, Or.inl ⟨rfl, fun q => absurd q (by omega)⟩, fun q => absurd q.1 (by omega)⟩
    · rw [lpX6_takeDigits_27.eq_2, if_pos (nI_le (by omega) (by omega))]
    · rw [lpX9_counts_40.eq_2, if_pos (nI_le (by omega) (by omega))]
  | succ i ih =>
    intro s x hs hb h7 hx
    obtain ⟨h1, h2, h3⟩ := h.2 s (by omega)
    obtain ⟨u1, u2, u3, u4, u5, u6⟩ := sB_x _ h1
    have hbt : atB N v s = nI (v s) := if_neg (by omega)
    have c0 : lpX6_takeDigits_27 (nI N) (nI b) bytes (n + (i + 1) + 1) (nI x) (nI s) = _ := lpX6_takeDigits_27.eq_2 _ _ _ _ _ _
    rw [if_neg (nI_ge (by omega) (by omega)), bAt h (by omega), bd1_mk, hbt, u6, bd1_mk] at c0
    have r0 : lpX9_counts_40 7 tape (nI N) (n + (i + 1) + 1) (nI s) (nI x) (nI (s - b)) = _ := lpX9_counts_40.eq_2 _ _ _ _ _ _ _
    rw [if_neg (show ¬ nI N ≤ nI s from nI_ge (by omega) (by omega)), og32 (by omega) (by omega), nI_clamp (by omega), h3, u4, bd1_mk] at r0
    by_cases e : dgB (v s) = 0
    · refine ⟨1, x, s, Nat.le_refl _, by omega, h7, hx, ?_, ?_, Or.inl ⟨rfl, fun _ => e⟩, fun q => absurd e q.2.1⟩
      · rw [c0, if_pos e]
      · rw [r0]
        by_cases g : (7 : Int32) ≤ nI (s - b)
        · rw [if_pos g]
        · rw [if_neg g, if_pos e]
    · by_cases g : s = b + 7
      · refine ⟨0, x, s, Nat.le_refl _, by omega, h7, hx, ?_, ?_, Or.inr ⟨rfl, by omega, e⟩, fun q => absurd q.2.2 (by omega)⟩
        · rw [c0, if_neg e, pk_sub hb, if_pos (show nI (s - b) = 7 by rw [show s - b = 7 by omega]; rfl)]
        · rw [r0, if_pos (show (7 : Int32) ≤ nI (s - b) from nI_le (a := 7) (by omega) (by omega))]
      · obtain ⟨d1, d2, d3⟩ := sB_d _ h1 e
        have hp : 10 ^ (s + 1 - b) = 10 * 10 ^ (s - b) := by rw [show s + 1 - b = (s - b) + 1 by omega, Nat.pow_succ, Nat.mul_comm]
        obtain ⟨tg, x', s', a1, a2, a3, a4, a5, a6, a7, _⟩ := ih (s + 1) (10 * x + (v s - 48)) (by omega) (by omega) (by omega) (by rw [hp]; omega)
        refine ⟨tg, x', s', by omega, a2, a3, a4, ?_, ?_, a7, fun _ => by omega⟩
        · rw [c0, if_neg e, pk_sub hb, if_neg (show ¬ nI (s - b) = 7 from fun q => by have := (nI_eq (by omega) (by omega)).mp (show nI (s - b) = nI 7 from q); omega), bd1_mk, nm_mk, nm_mk, (numS d2).1, nI_1, show n + (i + 1) = n + i + 1 by omega, a5]
        · rw [r0, if_neg (show ¬ (7 : Int32) ≤ nI (s - b) from nI_ge (b := 7) (by omega) (by omega)), if_neg e, og32 (by omega) (by omega), nm_mk, nm_mk, nm_mk, d1, (numS d2).2, nI_1, nI_1, show n + (i + 1) = n + i + 1 by omega, show s - b + 1 = s + 1 - b by omega, a6]
/-- up to seven figures -/
theorem dg7 {N : Nat} {v : Nat → Nat} {bytes tape : Nat → Int32} (h : TXT N v bytes tape) {s : Nat} (hs : s ≤ N) (f fp bg nu na fi : Int32) : ∃ s1, s ≤ s1 ∧ s1 ≤ N ∧ fX6_look (nI N) (nI s) bytes = some (atB N v s1, nI s1) ∧ (((∃ a b c d, fX6_takeDigits (atB N v s1) (nI N) (nI s1) f fp bg bytes = some (-1, a, b, c, d)) ∧ ∃ a F c d e, fX9_counts 7 tape (nI s) (nI N) 0 nu na fi = some (0, a, F, c, d, e) ∧ F ≠ 0) ∨ ∃ x s2, x < 10000000 ∧ s1 < s2 ∧ s2 ≤ N ∧ fX6_takeDigits (atB N v s1) (nI N) (nI s1) f fp bg bytes = some (nI x, nI s2, f, fp, nI s1) ∧ fX9_counts 7 tape (nI s) (nI N) 0 nu na fi = some (1, nI s2, 0, nI x, nI s1, nI (s2 - s1))) := by
  have hN := h.1
  obtain ⟨s1, a1, a2, a3, _, a5, a6⟩ := lk h hs
  refine ⟨s1, a1, a2, a5, ?_⟩
  obtain ⟨d, e1, e2, e3⟩ := dgA h a2
  by_cases g : d = 0
  · refine Or.inl ⟨⟨nI s1, 1, nI s1, bg, ?_⟩, nI s1, ((-1000) * 1) - nI s1, 0, nI s1, 0, ?_, (wrF s1 (by omega)).1⟩
    · unfold fX6_takeDigits fX6_wrong
      rw [e1, bd1_mk, if_pos g, bd3_mk]
    · unfold fX9_counts
      rw [a6, bd2_mk, e2, bd1_mk, if_pos g, wr9, bd2_mk, ob0]
  · obtain ⟨q1, q2, q3⟩ := e3.resolve_left g
    obtain ⟨n, hn⟩ := fu_s (N - s1) (by omega)
    obtain ⟨tg, x, s2, b1, b2, b3, b4, b5, b6, b7, b8⟩ := dgL h s1 n (N - s1) s1 0 (by omega) (Nat.le_refl _) (by omega) (by rw [Nat.sub_self]; decide)
    rw [Nat.sub_self] at b6
    have hlt := b8 ⟨q1, by rw [← q2]; exact g, by omega⟩
    have hx : x < 10000000 := Nat.lt_of_lt_of_le b4 (Nat.pow_le_pow_right (n := 10) (by decide) (show s2 - s1 ≤ 7 by omega))
    have c1 : fX9_counts 7 tape (nI s) (nI N) 0 nu na fi = (if nI N ≤ nI s2 then some (1, nI s2, 0, nI x, nI s1, nI (s2 - s1)) else og (okI (nI s2) 200) (bd1 (fX9_isFigure (tape (Int32.toNatClampNeg (nI s2)))) (fun r14 => if r14 = 0 then some (1, nI s2, 0, nI x, nI s1, nI (s2 - s1)) else bd2 (fX9_wrong 2 (nI s2) 0) (fun r17 c_fault_18 => og (boB r17) (some (r17, nI s2, c_fault_18, nI x, nI s1, nI (s2 - s1))))))) := by
      unfold fX9_counts
      rw [a6, bd2_mk, e2, bd1_mk, if_neg g, hn, show lpX9_counts_40 7 tape (nI N) (n + (N - s1) + 1) (nI s1) 0 0 = _ from b6, bd3_mk, if_neg (show ¬ (7 : Int32) ≤ 1 by decide)]
    have c2 : fX6_takeDigits (atB N v s1) (nI N) (nI s1) f fp bg bytes = (if tg = 0 then some (-1, nI s2, 2, nI s2, nI s1) else some (nI x, nI s2, f, fp, nI s1)) := by
      unfold fX6_takeDigits fX6_wrong
      rw [e1, bd1_mk, if_neg g, hn, show lpX6_takeDigits_27 (nI N) (nI s1) bytes (n + (N - s1) + 1) 0 (nI s1) = _ from b5, bd3_mk]
      rfl
    rcases b7 with ⟨t1, t2⟩ | ⟨t1, t2, t3⟩
    · refine Or.inr ⟨x, s2, hx, hlt, b2, ?_, ?_⟩
      · rw [c2, if_neg (by omega)]
      · rw [c1]
        by_cases k : N ≤ s2
        · rw [if_pos (nI_le k (by omega))]
        · obtain ⟨h1, h2, h3⟩ := h.2 s2 (by omega)
          rw [if_neg (nI_ge (by omega) (by omega)), og32 (by omega) (by omega), nI_clamp (by omega), h3, (sB_x _ h1).2.2.2.1, bd1_mk, if_pos (t2 (by omega))]
    · refine Or.inl ⟨⟨nI s2, 2, nI s2, nI s1, ?_⟩, nI s2, ((-1000) * 2) - nI s2, nI x, nI s1, nI (s2 - s1), ?_, (wrF s2 (by omega)).2.1⟩
      · rw [c2, if_pos t1]
      · obtain ⟨h1, h2, h3⟩ := h.2 s2 (by omega)
        rw [c1, if_neg (nI_ge (by omega) (by omega)), og32 (by omega) (by omega), nI_clamp (by omega), h3, (sB_x _ h1).2.2.2.1, bd1_mk, if_neg t3, wr9, bd2_mk, ob0]
theorem wiN {x lo hi : Nat} (hx : x < 2 ^ 31) (hl : lo < 2 ^ 31) (hh : hi < 2 ^ 31) : fX8_within (nI x) (nI lo) (nI hi) = some (if lo ≤ x ∧ x ≤ hi then 1 else 0) := by
  by_cases g : lo ≤ x ∧ x ≤ hi
  · rw [if_pos g]
    exact wi1 ((inr_nI hx).mpr ⟨Int.ofNat_le.mpr g.1, Int.ofNat_le.mpr g.2⟩) (nI_toInt hl) (nI_toInt hh)
  · rw [if_neg g]
    exact wi0 (fun q => g (by have := (inr_nI hx).mp q; omega)) (nI_toInt hl) (nI_toInt hh)
theorem inN {x lo hi : Nat} (hx : x < 2 ^ 31) (hl : lo < 2 ^ 31) (hh : hi < 2 ^ 31) : fX9_in (Int32.toInt64 (nI x)) (Int32.toInt64 (nI lo)) (Int32.toInt64 (nI hi)) = some (if lo ≤ x ∧ x ≤ hi then 1 else 0) := by
  by_cases g : lo ≤ x ∧ x ≤ hi
  · rw [if_pos g]
    exact in1 ((inr_nI hx).mpr ⟨Int.ofNat_le.mpr g.1, Int.ofNat_le.mpr g.2⟩) ((Int32.toInt_toInt64 _).trans (nI_toInt hl)) ((Int32.toInt_toInt64 _).trans (nI_toInt hh))
  · rw [if_neg g]
    exact in0 (fun q => g (by have := (inr_nI hx).mp q; omega)) ((Int32.toInt_toInt64 _).trans (nI_toInt hl)) ((Int32.toInt_toInt64 _).trans (nI_toInt hh))
/-- a number, both sides -/
theorem rd7 {N : Nat} {v : Nat → Nat} {bytes tape : Nat → Int32} (h : TXT N v bytes tape) {s : Nat} (hs : s ≤ N) {lo hi : Nat} (hl : lo < 2 ^ 31) (hh : hi < 2 ^ 31) (f fp bg nu na fi : Int32) : ((∃ a b c d, fX6_takeNumber (nI lo) (nI hi) (nI N) (nI s) f fp bg bytes = some (-1, a, b, c, d)) ∧ ∃ a F c d e, fX9_reads 7 (nI lo) (nI hi) tape (nI s) (nI N) 0 nu na fi = some (0, a, F, c, d, e) ∧ F ≠ 0) ∨ ∃ x s2 bg' na' fi', lo ≤ x ∧ x ≤ hi ∧ s < s2 ∧ s2 ≤ N ∧ fX6_takeNumber (nI lo) (nI hi) (nI N) (nI s) f fp bg bytes = some (nI x, nI s2, f, fp, bg') ∧ fX9_reads 7 (nI lo) (nI hi) tape (nI s) (nI N) 0 nu na fi = some (1, nI s2, 0, nI x, na', fi') := by
  have hN := h.1
  obtain ⟨s1, a1, a2, a3, a4⟩ := dg7 h hs f fp bg nu na fi
  rcases a4 with ⟨⟨a, b, c, d, e1⟩, k1, F, k3, k4, k5, e2, e3⟩ | ⟨x, s2, b1, b2, b3, e1, e2⟩
  · refine Or.inl ⟨⟨a, b, c, d, ?_⟩, k1, F, k3, k4, k5, ?_, e3⟩
    · unfold fX6_takeNumber
      rw [a3, bd2_mk, e1, bd5_mk, if_pos (show (-1 : Int32) < 0 by decide)]
    · unfold fX9_reads
      rw [e2, bd6_mk, if_pos rfl]
  · by_cases g : lo ≤ x ∧ x ≤ hi
    · refine Or.inr ⟨x, s2, nI s1, nI s1, nI (s2 - s1), g.1, g.2, by omega, b3, ?_, ?_⟩
      · unfold fX6_takeNumber fX6_wrong
        rw [a3, bd2_mk, e1, bd5_mk, if_neg (nI_pos (by omega)), wiN (by omega) hl hh, bd1_mk, if_pos g, if_neg one0]
      · unfold fX9_reads
        rw [e2, bd6_mk, if_neg one0, inN (by omega) hl hh, bd1_mk, if_pos g, if_neg one0, bd2_mk, ob1]
    · refine Or.inl ⟨⟨nI s2, 3, nI s1, nI s1, ?_⟩, nI s2, ((-1000) * 3) - nI s1, nI x, nI s1, nI (s2 - s1), ?_, (wrF s1 (by omega)).2.2⟩
      · unfold fX6_takeNumber fX6_wrong
        rw [a3, bd2_mk, e1, bd5_mk, if_neg (nI_pos (by omega)), wiN (by omega) hl hh, bd1_mk, if_neg g, if_pos rfl, bd3_mk]
      · unfold fX9_reads
        rw [e2, bd6_mk, if_neg one0, inN (by omega) hl hh, bd1_mk, if_neg g, if_pos rfl, wr9, bd2_mk, if_pos rfl, bd2_mk, ob0]
/-- one figure, both sides -/
theorem rd1 {N : Nat} {v : Nat → Nat} {bytes tape : Nat → Int32} (h : TXT N v bytes tape) {s : Nat} (hs : s ≤ N) {lo hi : Nat} (hl : lo < 2 ^ 31) (hh : hi < 2 ^ 31) (f fp nu na fi : Int32) : ((∃ a b c, fX6_takeDigit (nI lo) (nI hi) (nI N) (nI s) f fp bytes = some (-1, a, b, c)) ∧ ∃ a F c d e, fX9_reads 1 (nI lo) (nI hi) tape (nI s) (nI N) 0 nu na fi = some (0, a, F, c, d, e) ∧ F ≠ 0) ∨ ∃ x s2 na' fi', lo ≤ x ∧ x ≤ hi ∧ x ≤ 9 ∧ s < s2 ∧ s2 ≤ N ∧ fX6_takeDigit (nI lo) (nI hi) (nI N) (nI s) f fp bytes = some (nI x, nI s2, f, fp) ∧ fX9_reads 1 (nI lo) (nI hi) tape (nI s) (nI N) 0 nu na fi = some (1, nI s2, 0, nI x, na', fi') := by
  have hN := h.1
  obtain ⟨s1, a1, a2, a3, _, a5, a6⟩ := lk h hs
  obtain ⟨d, e1, e2, e3⟩ := dgA h a2
  by_cases g : d = 0
  · refine Or.inl ⟨⟨nI s1, 1, nI s1, ?_⟩, nI s1, ((-1000) * 1) - nI s1, 0, nI s1, 0, ?_, (wrF s1 (by omega)).1⟩
    · unfold fX6_takeDigit fX6_wrong
      rw [a5, bd2_mk, e1, bd1_mk, if_pos g, bd3_mk]
    · unfold fX9_reads fX9_counts
      rw [a6, bd2_mk, e2, bd1_mk, if_pos g, wr9, bd2_mk, ob0, bd6_mk, if_pos rfl]
  · obtain ⟨q1, q2, q3⟩ := e3.resolve_left g
    obtain ⟨h1, h2, h3⟩ := h.2 s1 q1
    obtain ⟨d1, d2, d3⟩ := sB_d _ h1 (by rw [← q2]; exact g)
    have hat : atB N v s1 = nI (v s1) := if_neg (by omega)
    obtain ⟨n, hn⟩ := fu_s 1 (by omega)
    have L : lpX9_counts_40 1 tape (nI N) FU (nI s1) 0 0 = some (nI (s1 + 1), nI (v s1 - 48), 1) := by
      rw [hn, lpX9_counts_40.eq_2, if_neg (show ¬ nI N ≤ nI s1 from nI_ge (by omega) (by omega)), if_neg (show ¬ (1 : Int32) ≤ 0 by decide), og32 (by omega) (by omega), nI_clamp (by omega), h3, (sB_x _ h1).2.2.2.1, bd1_mk, if_neg (show ¬ dgB (v s1) = 0 by rw [← q2]; exact g), og32 (by omega) (by omega), nm_mk, nm_mk, nm_mk, d1, show ((10 : Int32) * 0 + nI (v s1)) - 48 = nI (10 * 0 + (v s1 - 48)) from (numS (x := 0) d2).2, nI_1, lpX9_counts_40.eq_2]
      by_cases k : nI N ≤ nI (s1 + 1)
      · rw [if_pos k, Nat.mul_zero, Nat.zero_add]; rfl
      · rw [if_neg k, if_pos (show (1 : Int32) ≤ 0 + 1 by decide), Nat.mul_zero, Nat.zero_add]; rfl
    have dlt : v s1 - 48 ≤ 9 := by omega
    have e48 : nI (v s1) - (48 : Int32) = nI (v s1 - 48) := by rw [show (48 : Int32) = nI 48 from rfl, pk_sub d2]
    by_cases k : lo ≤ v s1 - 48 ∧ v s1 - 48 ≤ hi
    · refine Or.inr ⟨v s1 - 48, s1 + 1, nI s1, 1, k.1, k.2, dlt, by omega, by omega, ?_, ?_⟩
      · unfold fX6_takeDigit fX6_wrong
        rw [a5, bd2_mk, e1, bd1_mk, if_neg g, hat, e48, wiN (by omega) hl hh, bd1_mk, if_pos k, if_neg one0, nm_mk, nI_1]
      · unfold fX9_reads fX9_counts
        rw [a6, bd2_mk, e2, bd1_mk, if_neg g, L, bd3_mk, if_pos (show (1 : Int32) ≤ 1 by decide), bd6_mk, if_neg one0, inN (by omega) hl hh, bd1_mk, if_pos k, if_neg one0, bd2_mk, ob1]
    · refine Or.inl ⟨⟨nI s1, 3, nI s1, ?_⟩, nI (s1 + 1), ((-1000) * 3) - nI s1, nI (v s1 - 48), nI s1, 1, ?_, (wrF s1 (by omega)).2.2⟩
      · unfold fX6_takeDigit fX6_wrong
        rw [a5, bd2_mk, e1, bd1_mk, if_neg g, hat, e48, wiN (by omega) hl hh, bd1_mk, if_neg k, if_pos rfl, bd3_mk]
      · unfold fX9_reads fX9_counts
        rw [a6, bd2_mk, e2, bd1_mk, if_neg g, L, bd3_mk, if_pos (show (1 : Int32) ≤ 1 by decide), bd6_mk, if_neg one0, inN (by omega) hl hh, bd1_mk, if_neg k, if_pos rfl, wr9, bd2_mk, if_pos rfl, bd2_mk, ob0]
/-- a sign, both sides -/
theorem sg9 {N : Nat} {v : Nat → Nat} {bytes tape : Nat → Int32} (h : TXT N v bytes tape) {s : Nat} (hs : s ≤ N) (c : Int32) (hc : c ≠ -1) (f fp : Int32) : ((∃ a b d, fX6_takeSign c (nI N) (nI s) f fp bytes = some (0, a, b, d)) ∧ ∃ a F, fX9_passes c tape (nI s) (nI N) 0 = some (0, a, F) ∧ F ≠ 0) ∨ ∃ s2, s < s2 ∧ s2 ≤ N ∧ fX6_takeSign c (nI N) (nI s) f fp bytes = some (1, nI s2, f, fp) ∧ fX9_passes c tape (nI s) (nI N) 0 = some (1, nI s2, 0) := by
  have hN := h.1
  obtain ⟨s1, a1, a2, a3, _, a5, a6⟩ := lk h hs
  by_cases g : atB N v s1 = c
  · have hl : s1 < N := by
      rcases Nat.lt_or_ge s1 N with q | q
      · exact q
      · exact absurd (g.symm.trans (if_pos q)) hc
    refine Or.inr ⟨s1 + 1, by omega, by omega, ?_, ?_⟩
    · unfold fX6_takeSign
      rw [a5, bd2_mk, if_pos g, nm_mk, nI_1]
    · unfold fX9_passes
      rw [if_pos rfl, a6, bd2_mk, if_pos g, nm_mk, nI_1]
  · refine Or.inl ⟨⟨nI s1, 1, nI s1, ?_⟩, nI s1, ((-1000) * 1) - nI s1, ?_, (wrF s1 (by omega)).1⟩
    · unfold fX6_takeSign fX6_fails fX6_wrong
      rw [a5, bd2_mk, if_neg g, bd3_mk, bd3_mk, ob0]
    · unfold fX9_passes
      rw [if_pos rfl, a6, bd2_mk, if_neg g, wr9, bd2_mk, ob0]
