/-! pure: terms told by a text, both sides: that both return, and that the bonds stay alike (own rows) -/
theorem JO.le {bs0 : Nat → Int32} {N s t : Nat} {o1 : Option (Int32 × Int32 × Int32 × Int32 × Int32 × (Nat → Int32))} {o2 : Option ((Nat → Int32) × Int32 × Int32 × Int32 × Int32 × Int32)} (h : JO bs0 N t o1 o2) (hs : s ≤ t) : JO bs0 N s o1 o2 := by
  obtain ⟨r, pl, f, fp, bg, d, bs, sp, F, nu, na, fi, e1, e2, e3, e4⟩ := h
  refine ⟨r, pl, f, fp, bg, d, bs, sp, F, nu, na, fi, e1, e2, e3, ?_⟩
  rcases e4 with e4 | ⟨a1, a2, s', a3, a4, a5, a6, a7⟩
  · exact Or.inl e4
  · exact Or.inr ⟨a1, a2, s', by omega, a4, a5, a6, a7⟩
theorem JO.w1 {bs0 : Nat → Int32} {N s : Nat} {o1 : Option (Int32 × Int32 × Int32 × Int32 × Int32 × (Nat → Int32))} {o2 : Option ((Nat → Int32) × Int32 × Int32 × Int32 × Int32 × Int32)} (h : JO bs0 N s o1 o2) : JO bs0 N s (bd6 o1 (fun r a b c d e => og (boB r) (some (r, a, b, c, d, e)))) o2 := by
  obtain ⟨r, pl, f, fp, bg, d, bs, sp, F, nu, na, fi, e1, e2, e3, e4⟩ := h
  refine ⟨r, pl, f, fp, bg, d, bs, sp, F, nu, na, fi, ?_, e2, e3, e4⟩
  rw [e1, bd6_mk]
  rcases e4 with ⟨a1, _⟩ | ⟨a1, _⟩
  · rw [a1, ob0]
  · rw [a1, ob1]
theorem JO.w2 {bs0 : Nat → Int32} {N s : Nat} {o1 : Option (Int32 × Int32 × Int32 × Int32 × Int32 × (Nat → Int32))} {o2 : Option ((Nat → Int32) × Int32 × Int32 × Int32 × Int32 × Int32)} (h : JO bs0 N s o1 o2) : JO bs0 N s o1 (bd6 o2 (fun a b c d e f => some (a, b, c, d, e, f))) := by
  obtain ⟨r, pl, f, fp, bg, d, bs, sp, F, nu, na, fi, e1, e2, e3, e4⟩ := h
  exact ⟨r, pl, f, fp, bg, d, bs, sp, F, nu, na, fi, e1, by rw [e2, bd6_mk], e3, e4⟩
theorem cl_a {N : Nat} {v : Nat → Nat} {bytes tape : Nat → Int32} (h : TXT N v bytes tape) {s : Nat} (hs : s < N) (hb : v s ≠ 32) {bs0 d bs : Nat → Int32} (hD : DfQ bs0 d bs) (f fp bg nu na fi : Int32) : JO bs0 N s (fX6_takeClause (nI N) (nI s) f fp bg bytes d) (fX9_readsClause (atB N v s) tape bs (nI s) (nI N) 0 nu na fi) := by
  have hN := h.1
  unfold fX6_takeClause fX9_readsClause
  rw [(lk0 h (by omega) (fun _ => hb)).1, bd2_mk, nm_mk, nm_mk, nI_1]
  refine JO.w2 ?_
  generalize atB N v s = r
  by_cases c1 : r = 99
  · rw [if_pos c1, if_pos c1]
    exact (cl_c h (by omega) hD f fp bg nu na fi).w1.w2.le (by omega)
  rw [if_neg c1, if_neg c1]
  by_cases c2 : r = 102
  · rw [if_pos c2, if_pos c2]
    exact JO.le (cl_n h (s := s + 1) (by omega) hD (a := 0) (lo := 1) (hi := 1000000) (by omega) (by omega) (by omega) (by omega) (fun x _ _ => ⟨by omega, by omega, by omega, by omega, by omega, by omega, by omega, by omega, by omega⟩) f fp bg nu na fi) (by omega)
  rw [if_neg c2, if_neg c2]
  by_cases c3 : r = 107
  · rw [if_pos c3, if_pos c3]
    exact (cl_r h (s := s + 1) (by omega) hD (A := 9) (C := 20) (Or.inl ⟨rfl, rfl⟩) f fp bg nu na fi).w1.w2.le (by omega)
  rw [if_neg c3, if_neg c3]
  by_cases c4 : r = 110
  · rw [if_pos c4, if_pos c4]
    exact JO.le (cl_n h (s := s + 1) (by omega) hD (a := 1) (lo := 0) (hi := 1000) (by omega) (by omega) (by omega) (by omega) (fun x _ _ => ⟨by omega, by omega, by omega, by omega, by omega, by omega, by omega, by omega, by omega⟩) f fp bg nu na fi) (by omega)
  rw [if_neg c4, if_neg c4]
  by_cases c5 : r = 112
  · rw [if_pos c5, if_pos c5]
    exact (cl_r h (s := s + 1) (by omega) hD (A := 15) (C := 30) (Or.inr ⟨rfl, rfl⟩) f fp bg nu na fi).w1.w2.le (by omega)
  rw [if_neg c5, if_neg c5]
  by_cases c6 : r = 115
  · rw [if_pos c6, if_pos c6]
    exact (cl_s h (s := s + 1) (by omega) hD f fp bg nu na fi).w1.w2.le (by omega)
  rw [if_neg c6, if_neg c6]
  by_cases c7 : r = 119
  · rw [if_pos c7, if_pos c7]
    exact (cl_w h (s := s + 1) (by omega) hD f fp bg nu na fi).w2.le (by omega)
  rw [if_neg c7, if_neg c7]
  by_cases c8 : r = 122
  · rw [if_pos c8, if_pos c8]
    exact (cl_z h (s := s + 1) (by omega) hD f fp bg nu na fi).le (by omega)
  rw [if_neg c8, if_neg c8, nm_mk, i_1, pk_sub (by omega), Nat.add_sub_cancel, wr9, bd2_mk]
  unfold fX6_fails fX6_wrong
  rw [bd3_mk, bd3_mk, ob0]
  exact JO.bad rfl rfl hD (wrF s (by omega)).1
/-- a text of blanks alone: the reference finds a fault -/
theorem cl_b {N : Nat} {v : Nat → Nat} {bytes tape : Nat → Int32} (h : TXT N v bytes tape) (bs : Nat → Int32) (nu na fi : Int32) : fX9_readsClause (-1) tape bs (nI N) (nI N) 0 nu na fi = some (bs, nI N, ((-1000) * 1) - nI N, nu, na, fi) := by
  have hN := h.1
  unfold fX9_readsClause
  rw [nm_mk, nI_1, if_neg (show ¬ (-1 : Int32) = 99 by decide), if_neg (show ¬ (-1 : Int32) = 102 by decide), if_neg (show ¬ (-1 : Int32) = 107 by decide), if_neg (show ¬ (-1 : Int32) = 110 by decide), if_neg (show ¬ (-1 : Int32) = 112 by decide), if_neg (show ¬ (-1 : Int32) = 115 by decide), if_neg (show ¬ (-1 : Int32) = 119 by decide), if_neg (show ¬ (-1 : Int32) = 122 by decide), nm_mk, i_1, pk_sub (by omega), Nat.add_sub_cancel, wr9, bd2_mk, bd6_mk]
def JT (bs0 d0 : Nat → Int32) (o1 : Option (Nat × Int32 × Int32 × Int32 × Int32 × Int32 × (Nat → Int32))) (o2 : Option (Int32 × (Nat → Int32) × Int32 × Int32 × Int32 × Int32 × Int32)) : Prop :=
  ∃ tg x pl f fp bg d x9 bs sp F nu na fi, o1 = some (tg, x, pl, f, fp, bg, d) ∧ o2 = some (x9, bs, sp, F, nu, na, fi) ∧ FrB 3 bs0 bs ∧ ((tg = 0 ∧ F ≠ 0) ∨ (tg = 1 ∧ F = 0 ∧ DfQ bs0 d bs) ∨ (tg = 1 ∧ F ≠ 0 ∧ d = d0))
theorem atW {N : Nat} {v : Nat → Nat} {bytes tape : Nat → Int32} (h : TXT N v bytes tape) {s : Nat} (hs : s ≤ N) : (s = N ∧ atB N v s = -1) ∨ (s < N ∧ atB N v s ≠ -1) := by
  rcases Nat.lt_or_ge s N with q | q
  · refine Or.inr ⟨q, ?_⟩
    rw [show atB N v s = nI (v s) from if_neg (by omega)]
    have hv := (h.2 s q).1
    intro e
    have := congrArg Int32.toInt e
    rw [nI_toInt (by omega), show (-1 : Int32).toInt = -1 from rfl] at this
    omega
  · exact Or.inl ⟨by omega, if_pos q⟩
theorem tmE (p : Int32) (tape bs : Nat → Int32) (N x sp F nu na fi : Int32) (hF : F ≠ 0) (n : Nat) : lpX9_terms_57 p tape N (n + 1) x bs sp F nu na fi = some (x, bs, sp, F, nu, na, fi) := by
  rw [lpX9_terms_57.eq_2, if_neg hF]
theorem tmL {N : Nat} {v : Nat → Nat} {bytes tape : Nat → Int32} (h : TXT N v bytes tape) (bs0 d0 : Nat → Int32) (p : Int32) (n : Nat) : ∀ (i s x : Nat) (d bs : Nat → Int32) (f fp bg nu na fi : Int32), N ≤ s + i → s ≤ N → x ≤ s → 1 ≤ x → DfQ bs0 d bs → JT bs0 d0 (lpX6_readTerms_27 (nI N) bytes (n + i + 1) (nI x) (nI s) f fp bg d) (lpX9_terms_57 p tape (nI N) (n + i + 1) (nI x) bs (nI s) 0 nu na fi) := by
  have hN := h.1
  intro i
  induction i with
  | zero =>
    intro s x d bs f fp bg nu na fi hi hs hx h1 hD
    have hsN : s = N := by omega
    have hat : atB N v s = -1 := if_pos (by omega)
    obtain ⟨l1, l2⟩ := lk0 h hs (fun q => absurd q (by omega))
    rw [hat] at l1 l2
    have c : lpX6_readTerms_27 (nI N) bytes (n + 0 + 1) (nI x) (nI s) f fp bg d = some (1, nI x, nI s, f, fp, bg, d) := by
      rw [lpX6_readTerms_27.eq_2]
      by_cases g : (100 : Int32) ≤ nI x
      · rw [if_pos g]
      · rw [if_neg g, l1, bd2_mk, if_pos rfl]
    have r : lpX9_terms_57 p tape (nI N) (n + 0 + 1) (nI x) bs (nI s) 0 nu na fi = some (nI x, bs, nI s, 0, nu, na, fi) := by
      rw [lpX9_terms_57.eq_2, if_pos rfl, if_neg (nI_ne0 (by omega) (by omega)), l2, bd2_mk, if_pos rfl]
    exact ⟨_, _, _, _, _, _, _, _, _, _, _, _, _, _, c, r, hD.fr, Or.inr (Or.inl ⟨rfl, rfl, hD⟩)⟩
  | succ i ih =>
    intro s x d bs f fp bg nu na fi hi hs hx h1 hD
    obtain ⟨s1, a1, a2, a3, _, a5, a6⟩ := lk h hs
    rcases atW h a2 with ⟨q1, q2⟩ | ⟨q1, q2⟩
    · rw [q2] at a5 a6
      have c : ∃ pl, lpX6_readTerms_27 (nI N) bytes (n + (i + 1) + 1) (nI x) (nI s) f fp bg d = some (1, nI x, pl, f, fp, bg, d) := by
        rw [lpX6_readTerms_27.eq_2]
        by_cases g : (100 : Int32) ≤ nI x
        · exact ⟨nI s, by rw [if_pos g]⟩
        · exact ⟨nI s1, by rw [if_neg g, a5, bd2_mk, if_pos rfl]⟩
      obtain ⟨pl, c⟩ := c
      have r : lpX9_terms_57 p tape (nI N) (n + (i + 1) + 1) (nI x) bs (nI s) 0 nu na fi = some (nI x, bs, nI s1, 0, nu, na, fi) := by
        rw [lpX9_terms_57.eq_2, if_pos rfl, if_neg (nI_ne0 (by omega) (by omega)), a6, bd2_mk, if_pos rfl]
      exact ⟨_, _, _, _, _, _, _, _, _, _, _, _, _, _, c, r, hD.fr, Or.inr (Or.inl ⟨rfl, rfl, hD⟩)⟩
    · have g : ¬ (100 : Int32) ≤ nI x := nI_ge (b := 100) (by omega) (by omega)
      rw [lpX6_readTerms_27.eq_2, lpX9_terms_57.eq_2, if_neg g, if_pos rfl, if_neg (nI_ne0 (by omega) (by omega)), a5, a6, bd2_mk, bd2_mk, if_neg q2, if_neg q2, (lk0 h a2 a3).2, bd2_mk]
      obtain ⟨r, pl, f', fp', bg', d', bs', sp, F, nu', na', fi', e1, e2, e3, e4⟩ := cl_a h q1 (a3 q1) hD f fp bg nu na fi
      rw [e1, e2, bd6_mk, bd6_mk, nm_mk, nI_1, show n + (i + 1) = n + i + 1 by omega]
      rcases e4 with ⟨b1, b2⟩ | ⟨b1, b2, s2, b3, b4, b5, b6, b7⟩
      · rw [if_pos b1, nm_mk, tmE _ _ _ _ _ _ _ _ _ _ b2]
        exact ⟨_, _, _, _, _, _, _, _, _, _, _, _, _, _, rfl, rfl, e3, Or.inl ⟨rfl, b2⟩⟩
      · rw [if_neg (by rw [b1]; exact one0), nm_mk, b2, b5, b6]
        exact ih s2 (x + 1) d' bs' f' fp' bg' nu' na' fi' (by omega) b4 (by omega) (by omega) b7
theorem tm0 {N : Nat} {v : Nat → Nat} {bytes tape : Nat → Int32} (h : TXT N v bytes tape) (hN1 : 1 ≤ N) {bs0 d bs : Nat → Int32} (p : Int32) (f fp bg nu na fi : Int32) (hD : DfQ bs0 d bs) : JT bs0 d (lpX6_readTerms_27 (nI N) bytes FU 0 0 f fp bg d) (lpX9_terms_57 p tape (nI N) FU 0 bs 0 0 nu na fi) := by
  have hN := h.1
  obtain ⟨n, hn⟩ := fu_s (N + 1) (by omega)
  obtain ⟨s1, a1, a2, a3, _, a5, a6⟩ := lk h (Nat.zero_le N)
  rw [hn, lpX6_readTerms_27.eq_2, lpX9_terms_57.eq_2, if_neg (show ¬ (100 : Int32) ≤ 0 by decide), if_pos rfl, if_pos rfl, show fX6_look (nI N) 0 bytes = _ from a5, show fX9_see tape 0 (nI N) = _ from a6, bd2_mk, bd2_mk]
  rcases atW h a2 with ⟨q1, q2⟩ | ⟨q1, q2⟩
  · rw [if_pos q2, q2, q1, cl_b h, bd6_mk, nm_mk, show n + (N + 1) = (n + N) + 1 by omega, tmE _ _ _ _ _ _ _ _ _ _ (wrF N (by omega)).1]
    exact ⟨_, _, _, _, _, _, _, _, _, _, _, _, _, _, rfl, rfl, hD.fr, Or.inr (Or.inr ⟨rfl, (wrF N (by omega)).1, rfl⟩)⟩
  · rw [if_neg q2]
    obtain ⟨r, pl, f', fp', bg', d', bs', sp, F, nu', na', fi', e1, e2, e3, e4⟩ := cl_a h q1 (a3 q1) hD f fp bg nu na fi
    rw [e1, e2, bd6_mk, bd6_mk, nm_mk, show n + (N + 1) = n + N + 1 by omega]
    rcases e4 with ⟨b1, b2⟩ | ⟨b1, b2, s2, b3, b4, b5, b6, b7⟩
    · rw [if_pos b1, nm_mk, tmE _ _ _ _ _ _ _ _ _ _ b2]
      exact ⟨_, _, _, _, _, _, _, _, _, _, _, _, _, _, rfl, rfl, e3, Or.inl ⟨rfl, b2⟩⟩
    · rw [if_neg (by rw [b1]; exact one0), nm_mk, b2, b5, b6]
      exact tmL h bs0 d p n N s2 1 d' bs' f' fp' bg' nu' na' fi' (by omega) b4 (by omega) (by omega) b7
/-- the bonds after terms -/
theorem rdT {N : Nat} {v : Nat → Nat} {bytes tape : Nat → Int32} (h : TXT N v bytes tape) (hN1 : 1 ≤ N) {n : Nat} (hn : N ≤ n) (hn2 : n ≤ 200) {k : Nat} (hk : k < 3) {d2 bs : Nat → Int32} {β : Nat → Nat} (hc : CB d2 β) (hK : BK β) (hb : RB bs k β) (tl tp tf tfp tb nu na fi : Int32) (td : Nat → Int32) : ∃ r pl f fp bg dr d2' r9 bs' sp F nu' na' fi' β', fX6_readTerms (nI N) (nI n) tl tp tf tfp tb bytes td d2 = some (r, nI N, pl, f, fp, bg, dr, d2') ∧ bd1 (fX9_copies (nI k) 3 bs) (fun c_bonds_8 => bd7 (lpX9_terms_57 (nI k) tape (nI N) FU 0 c_bonds_8 0 0 nu na fi) (fun x10 c_bonds_11 c_spot_12 c_fault_13 c_number_14 c_numberAt_15 c_figures_16 => if c_fault_13 = 0 then bd1 (fX9_copies 3 (nI k) c_bonds_11) (fun c_bonds_19 => some (x10, 0, c_bonds_19, c_spot_12, nI N, c_fault_13, c_number_14, c_numberAt_15, c_figures_16)) else some (c_fault_13, 0, c_bonds_11, c_spot_12, nI N, c_fault_13, c_number_14, c_numberAt_15, c_figures_16))) = some (r9, (0 : Int32), bs', sp, nI N, F, nu', na', fi') ∧ CB d2' β' ∧ BK β' ∧ RB bs' k β' ∧ (∀ y, ¬ (27 * k ≤ y ∧ y < 27 * k + 27) → ¬ (81 ≤ y ∧ y < 108) → bs' y = bs y) := by
  have hN := h.1
  obtain ⟨z, e1, z1, z2⟩ := cy9 (k := k) (l := 3) (by omega) (by omega) (by omega) hb
  have tkf : ∀ a b : Nat → Int32, fX0_takeFrom a b = some (va_cpy b a 0 0 36) := fun a b => by unfold fX0_takeFrom; rw [nm_mk]; rfl
  have hD : DfQ z (va_cpy d2 td 0 0 36) z := ⟨β, hc.cpy, z1, hK, FrB.refl 3 z⟩
  obtain ⟨tg, x, pl, f, fp, bg, d, x9, bs1, sp, F, nu', na', fi', f1, f2, f3, f4⟩ := tm0 h hN1 (nI k) tf tfp tb nu na fi hD
  have w : (if nI n < nI N then nI n else nI N) = nI N := if_neg (nI_nlt (by omega) (by omega))
  have c0 : ∀ X, X = fX6_readTerms (nI N) (nI n) tl tp tf tfp tb bytes td d2 → X = (if tg = 0 then some (((-1000) * f) - fp, nI N, pl, f, fp, bg, d, d2) else some (x, nI N, pl, f, fp, bg, d, va_cpy d d2 0 0 36)) := by
    intro X hX
    rw [hX]
    unfold fX6_readTerms
    rw [tkf, bd1_mk, nm_mk, w, f1, bd7_mk]
    by_cases q : tg = 0
    · rw [if_pos q, if_pos q]
    · rw [if_neg q, if_neg q, tkf, bd1_mk]
  have c0 := c0 _ rfl
  have e1' : fX9_copies (nI k) 3 bs = some z := e1
  rw [e1', bd1_mk, f2, bd7_mk]
  rcases f4 with ⟨t1, t2⟩ | ⟨t1, t2, γ, t3, t4, t5, t6⟩ | ⟨t1, t2, t3⟩
  · rw [if_pos t1] at c0
    rw [if_neg t2]
    refine ⟨_, _, _, _, _, _, _, _, _, _, _, _, _, _, β, c0, rfl, hc, hK, (hb.fr (by omega) z2).fr (by omega) f3, fun y y1 y2 => ?_⟩
    rw [f3 y (by omega), z2 y (by omega)]
  · rw [if_neg (by omega)] at c0
    obtain ⟨w', g1, g2, g3⟩ := cy9 (k := 3) (l := k) (by omega) (by omega) (by omega) t4
    rw [if_pos t2, show fX9_copies 3 (nI k) bs1 = _ from g1, bd1_mk]
    refine ⟨_, _, _, _, _, _, _, _, _, _, _, _, _, _, γ, c0, rfl, t3.cpy, t5, g2, fun y y1 y2 => ?_⟩
    rw [g3 y (by omega), f3 y (by omega), z2 y (by omega)]
  · rw [if_neg (by omega)] at c0
    rw [if_neg t2]
    refine ⟨_, _, _, _, _, _, _, _, _, _, _, _, _, _, β, c0, rfl, by rw [t3]; exact hc.cpy.cpy, hK, (hb.fr (by omega) z2).fr (by omega) f3, fun y y1 y2 => ?_⟩
    rw [f3 y (by omega), z2 y (by omega)]
theorem q_terms {b0 b1 b2 bs : Nat → Int32} {B : Nat → Nat → Nat} (hB : BCT b0 b1 b2 bs B) {size taped : Int32} {bytes tape : Nat → Int32} (hT : TPQ size bytes tape taped) (p1 p2 tl tp tf tfp tb sp tl9 F nu na fi : Int32) (td : Nat → Int32) : ∃ r s1 s2 s3 s4 s5 s6 s7 d0 d1 d2 r9 t1 t2 t3 t4 t5 t6 t7 t8, fX8_terms p1 p2 size tl tp tf tfp tb bytes td b0 b1 b2 = some (r, s1, s2, s3, s4, s5, s6, s7, d0, d1, d2) ∧ fX9_terms p1 p2 tape taped bs sp tl9 F nu na fi = some (r9, t1, t2, t3, t4, t5, t6, t7, t8) ∧ TPQ s1 bytes tape t1 ∧ (∃ B', BCT d0 d1 d2 t2 B') ∧ (∀ y, 108 ≤ y → t2 y = bs y) := by
  by_cases h1 : inr p1 0 2
  rotate_left
  · refine ⟨-1, size, tl, tp, tf, tfp, tb, td, b0, b1, b2, -1, taped, bs, sp, tl9, F, nu, na, fi, ?_, ?_, hT, ⟨B, hB⟩, fun _ _ => rfl⟩
    · unfold fX8_terms; rw [isb8n h1, bd1_mk, if_pos rfl]
    · unfold fX9_terms; rw [isb9n h1, bd1_mk, if_pos rfl]
  by_cases h2 : inr p2 1 100
  rotate_left
  · refine ⟨-1, size, tl, tp, tf, tfp, tb, td, b0, b1, b2, -1, taped, bs, sp, tl9, F, nu, na, fi, ?_, ?_, hT, ⟨B, hB⟩, fun _ _ => rfl⟩
    · unfold fX8_terms; rw [isb8y h1, bd1_mk, if_neg one0, wi0 h2, bd1_mk, if_pos rfl]
    · unfold fX9_terms; rw [isb9y h1, bd1_mk, if_neg one0, in0 h2, bd1_mk, if_pos rfl]
  obtain ⟨n, v, n1, n2, n3, n4⟩ := hT
  subst n2 n3
  by_cases h3 : p2 ≤ nI n
  rotate_left
  · refine ⟨-1, nI n, tl, tp, tf, tfp, tb, td, b0, b1, b2, -1, nI n, bs, sp, tl9, F, nu, na, fi, ?_, ?_, ⟨n, v, n1, rfl, rfl, n4⟩, ⟨B, hB⟩, fun _ _ => rfl⟩
    · unfold fX8_terms fX6_size; rw [isb8y h1, bd1_mk, if_neg one0, wi1 h2, bd1_mk, if_neg one0, bd1_mk, if_neg h3]
    · unfold fX9_terms; rw [isb9y h1, bd1_mk, if_neg one0, in1 h2, bd1_mk, if_neg one0, if_neg h3]
  have h1' := h1
  have h2' := h2
  obtain ⟨k, rfl, ka, kb, kc⟩ := inr_n h1 (by decide)
  obtain ⟨N, rfl, Na, Nb, Nc⟩ := inr_n h2 (by decide)
  have hk : k < 3 := by omega
  have hNn : N ≤ n := by
    rcases Nat.lt_or_ge n N with q | q
    · exact absurd h3 (nI_ge q (by omega))
    · exact q
  have hX : TXT N v bytes tape := ⟨by omega, fun i hi => n4 i (by omega)⟩
  obtain ⟨r, pl, f, fp, bg, dr, d2', r9, bs', sp', F', nu', na', fi', β', e1, e2, e3, e4, e5, e6⟩ := rdT hX (by omega) hNn n1 hk (hB.1 k hk).1 (hB.1 k hk).2 (hB.2 k hk) tl tp tf tfp tb nu na fi td
  have c9 : fX9_terms (nI k) (nI N) tape (nI n) bs sp tl9 F nu na fi = some (r9, 0, bs', sp', nI N, F', nu', na', fi') := by
    unfold fX9_terms
    rw [isb9y h1', bd1_mk, if_neg one0, in1 h2', bd1_mk, if_neg one0, if_pos h3]
    exact e2
  have hT0 : TPQ 0 bytes tape 0 := ⟨0, v, by omega, rfl, rfl, fun i hi => absurd hi (by omega)⟩
  have fin : ∀ x0 x1 x2 : Nat → Int32, (∀ i, i < 3 → CB (bsel i x0 x1 x2) (if i = k then β' else B i)) → ∃ B', BCT x0 x1 x2 bs' B' := fun x0 x1 x2 hx => ⟨fun i => if i = k then β' else B i, fun i hi => ⟨hx i hi, by
      show BK (if i = k then β' else B i)
      by_cases e : i = k
      · rw [if_pos e]; exact e4
      · rw [if_neg e]; exact (hB.1 i hi).2⟩, fun j hj => by
      show RB bs' j (if j = k then β' else B j)
      by_cases e : j = k
      · rw [if_pos e, e]; exact e5
      · rw [if_neg e]
        exact ⟨(hB.2 j hj).1, fun i hi => by rw [e6 _ (by omega) (by omega), (hB.2 j hj).2 i hi]⟩⟩
  have hi8 : ∀ y, 108 ≤ y → bs' y = bs y := fun y hy => e6 y (by omega) (by omega)
  have v0 := (hB.1 0 (by omega)).1
  have v1 := (hB.1 1 (by omega)).1
  have v2 := (hB.1 2 (by omega)).1
  rcases (show k = 0 ∨ k = 1 ∨ k = 2 by omega) with rfl | rfl | rfl
  · refine ⟨r, 0, nI N, pl, f, fp, bg, dr, d2', b1, b2, r9, 0, bs', sp', nI N, F', nu', na', fi', ?_, c9, hT0, fin d2' b1 b2 (fun i hi => ?_), hi8⟩
    · unfold fX8_terms fX6_size fX6_clear
      rw [isb8y h1', bd1_mk, if_neg one0, wi1 h2', bd1_mk, if_neg one0, bd1_mk, if_pos h3, og32 (by omega) (by omega), if_pos (show nI 0 = (0 : Int32) from rfl), show fX6_readTerms (nI N) (nI n) tl tp tf tfp tb bytes td b0 = _ from e1, bd8_mk, bd10_mk, bd1_mk]
    · rcases (show i = 0 ∨ i = 1 ∨ i = 2 by omega) with rfl | rfl | rfl
      · exact e3
      · exact v1
      · exact v2
  · refine ⟨r, 0, nI N, pl, f, fp, bg, dr, b0, d2', b2, r9, 0, bs', sp', nI N, F', nu', na', fi', ?_, c9, hT0, fin b0 d2' b2 (fun i hi => ?_), hi8⟩
    · unfold fX8_terms fX6_size fX6_clear
      rw [isb8y h1', bd1_mk, if_neg one0, wi1 h2', bd1_mk, if_neg one0, bd1_mk, if_pos h3, og32 (by omega) (by omega), if_neg (show ¬ nI 1 = (0 : Int32) from one0), if_pos (show nI 1 = (1 : Int32) from rfl), show fX6_readTerms (nI N) (nI n) tl tp tf tfp tb bytes td b1 = _ from e1, bd8_mk, bd10_mk, bd1_mk]
    · rcases (show i = 0 ∨ i = 1 ∨ i = 2 by omega) with rfl | rfl | rfl
      · exact v0
      · exact e3
      · exact v2
  · refine ⟨r, 0, nI N, pl, f, fp, bg, dr, b0, b1, d2', r9, 0, bs', sp', nI N, F', nu', na', fi', ?_, c9, hT0, fin b0 b1 d2' (fun i hi => ?_), hi8⟩
    · unfold fX8_terms fX6_size fX6_clear
      rw [isb8y h1', bd1_mk, if_neg one0, wi1 h2', bd1_mk, if_neg one0, bd1_mk, if_pos h3, og32 (by omega) (by omega), if_neg (show ¬ nI 2 = (0 : Int32) by decide), if_neg (show ¬ nI 2 = (1 : Int32) by decide), show fX6_readTerms (nI N) (nI n) tl tp tf tfp tb bytes td b2 = _ from e1, bd8_mk, bd10_mk, bd1_mk]
    · rcases (show i = 0 ∨ i = 1 ∨ i = 2 by omega) with rfl | rfl | rfl
      · exact v0
      · exact v1
      · exact e3
