section
/-! pure: the clauses of a text, both sides (own rows) -/
def DfQ (bs0 d bs : Nat → Int32) : Prop := ∃ β, CB d β ∧ RB bs 3 β ∧ BK β ∧ FrB 3 bs0 bs
theorem DfQ.n {bs0 d bs : Nat → Int32} (h : DfQ bs0 d bs) {a x : Nat} (ha : a < 27) (hn : ¬ (9 ≤ a ∧ a < 21)) (hx : okB a x) : DfQ bs0 (upd d (cI a) (nI x)) (upd bs (27 * 3 + a) (nI x)) := by
  obtain ⟨β, h1, h2, h3, h4⟩ := h
  exact ⟨bup β a x, h1.up ha (by rw [eI_n hn, bup_s]), h2.up ha (by rw [rI_n hn, bup_s]), h3.up hx, h4.tr (FrB.up ha _)⟩
theorem DfQ.c {bs0 d bs : Nat → Int32} (h : DfQ bs0 d bs) {a x : Nat} (ha : 9 ≤ a ∧ a < 21) (hx : x ≤ 1000000) : DfQ bs0 (upd d (cI a) (nI x)) (upd bs (27 * 3 + a) (nI x)) := by
  obtain ⟨β, h1, h2, h3, h4⟩ := h
  exact ⟨bup β a (x + 1), h1.up (by omega) (by rw [eI_c ha, bup_s, iC_s]), h2.up (by omega) (by rw [rI_m ha, bup_s, iM_s]), h3.up ⟨by omega, by omega, by omega, by omega, by omega, by omega, by omega, by omega, by omega⟩, h4.tr (FrB.up (by omega) _)⟩
theorem DfQ.z {bs0 d bs : Nat → Int32} (h : DfQ bs0 d bs) {a : Nat} (ha : 9 ≤ a ∧ a < 21) : DfQ bs0 (upd d (cI a) (-2)) (upd bs (27 * 3 + a) (-1)) := by
  obtain ⟨β, h1, h2, h3, h4⟩ := h
  exact ⟨bup β a 0, h1.up (by omega) (by rw [eI_c ha, bup_s]; rfl), h2.up (by omega) (by rw [rI_m ha, bup_s]; rfl), h3.up ⟨by omega, by omega, by omega, by omega, by omega, by omega, by omega, by omega, by omega⟩, h4.tr (FrB.up (by omega) _)⟩
theorem DfQ.fr {bs0 d bs : Nat → Int32} (h : DfQ bs0 d bs) : FrB 3 bs0 bs := by obtain ⟨β, _, _, _, h4⟩ := h; exact h4
def JO (bs0 : Nat → Int32) (N s : Nat) (o1 : Option (Int32 × Int32 × Int32 × Int32 × Int32 × (Nat → Int32))) (o2 : Option ((Nat → Int32) × Int32 × Int32 × Int32 × Int32 × Int32)) : Prop :=
  ∃ r pl f fp bg d bs sp F nu na fi, o1 = some (r, pl, f, fp, bg, d) ∧ o2 = some (bs, sp, F, nu, na, fi) ∧ FrB 3 bs0 bs ∧ ((r = 0 ∧ F ≠ 0) ∨ (r = 1 ∧ F = 0 ∧ ∃ s', s < s' ∧ s' ≤ N ∧ pl = nI s' ∧ sp = nI s' ∧ DfQ bs0 d bs))
theorem JO.bad {bs0 : Nat → Int32} {N s : Nat} {o1 : Option (Int32 × Int32 × Int32 × Int32 × Int32 × (Nat → Int32))} {o2 : Option ((Nat → Int32) × Int32 × Int32 × Int32 × Int32 × Int32)} {pl f fp bg sp F nu na fi : Int32} {d bs : Nat → Int32} (h1 : o1 = some (0, pl, f, fp, bg, d)) (h2 : o2 = some (bs, sp, F, nu, na, fi)) (h : DfQ bs0 d bs) (hF : F ≠ 0) : JO bs0 N s o1 o2 := ⟨_, _, _, _, _, _, _, _, _, _, _, _, h1, h2, h.fr, Or.inl ⟨rfl, hF⟩⟩
theorem JO.ok {bs0 : Nat → Int32} {N s : Nat} {o1 : Option (Int32 × Int32 × Int32 × Int32 × Int32 × (Nat → Int32))} {o2 : Option ((Nat → Int32) × Int32 × Int32 × Int32 × Int32 × Int32)} {f fp bg nu na fi : Int32} {d bs : Nat → Int32} {s' : Nat} (h1 : o1 = some (1, nI s', f, fp, bg, d)) (h2 : o2 = some (bs, nI s', 0, nu, na, fi)) (a : s < s') (b : s' ≤ N) (h : DfQ bs0 d bs) : JO bs0 N s o1 o2 := ⟨_, _, _, _, _, _, _, _, _, _, _, _, h1, h2, h.fr, Or.inr ⟨rfl, rfl, s', a, b, rfl, rfl, h⟩⟩
theorem cI36 : ∀ a, a < 27 → cI a < 36 := by decide
theorem sto8 {a : Nat} (ha : a < 36) {x : Nat} (hx : x < 2 ^ 31) (d : Nat → Int32) : fX6_store (nI a) (nI x) d = some (1, upd d a (nI x)) := by
  unfold fX6_store
  rw [if_pos (show (0 : Int32) ≤ nI x from nI_le (a := 0) (Nat.zero_le _) (by omega)), xset ha, bd1_mk]
theorem sto8n (p : Int32) (d : Nat → Int32) : fX6_store p (-1) d = some (0, d) := by
  unfold fX6_store
  rw [if_neg (show ¬ (0 : Int32) ≤ -1 by decide)]
/-- a number stored -/
theorem cl_n {N : Nat} {v : Nat → Nat} {bytes tape : Nat → Int32} (h : TXT N v bytes tape) {s : Nat} (hs : s ≤ N) {bs0 d bs : Nat → Int32} (hD : DfQ bs0 d bs) {a lo hi : Nat} (ha : a < 27) (hn : ¬ (9 ≤ a ∧ a < 21)) (hl : lo < 2 ^ 31) (hh : hi < 2 ^ 31) (hok : ∀ x, lo ≤ x → x ≤ hi → okB a x) (f fp bg nu na fi : Int32) : JO bs0 N s (bd5 (fX6_takeNumber (nI lo) (nI hi) (nI N) (nI s) f fp bg bytes) (fun r pl f fp bg => bd2 (fX6_store (nI (cI a)) r d) (fun r2 d2 => og (boB r2) (some (r2, pl, f, fp, bg, d2))))) (bd6 (fX9_reads 7 (nI lo) (nI hi) tape (nI s) (nI N) 0 nu na fi) (fun r sp F nu na fi => if r = 0 then some (bs, sp, F, nu, na, fi) else bd1 (fX9_sets 3 (nI a) nu bs) (fun bs' => some (bs', sp, F, nu, na, fi)))) := by
  rcases rd7 h hs hl hh f fp bg nu na fi with ⟨⟨k1, k2, k3, k4, e1⟩, l1, F, l3, l4, l5, e2, e3⟩ | ⟨x, s2, bg', na', fi', x1, x2, x3, x4, e1, e2⟩
  · rw [e1, e2, bd5_mk, bd6_mk, sto8n, bd2_mk, ob0, if_pos rfl]
    exact JO.bad rfl rfl hD e3
  · rw [e1, e2, bd5_mk, bd6_mk, sto8 (cI36 a ha) (by omega), bd2_mk, ob1, if_neg one0, show fX9_sets 3 (nI a) (nI x) bs = _ from se9 (k := 3) (by omega) (nI x), bd1_mk]
    exact JO.ok rfl rfl x3 x4 (hD.n ha hn (hok x x1 x2))
/-- one figure stored -/
theorem cl_z {N : Nat} {v : Nat → Nat} {bytes tape : Nat → Int32} (h : TXT N v bytes tape) {s : Nat} (hs : s ≤ N) {bs0 d bs : Nat → Int32} (hD : DfQ bs0 d bs) (f fp bg nu na fi : Int32) : JO bs0 N s (bd4 (fX6_takeDigit 0 3 (nI N) (nI s) f fp bytes) (fun r pl f fp => bd2 (fX6_store 7 r d) (fun r2 d2 => og (boB r2) (some (r2, pl, f, fp, bg, d2))))) (bd6 (fX9_reads 1 0 3 tape (nI s) (nI N) 0 nu na fi) (fun r sp F nu na fi => if r = 0 then some (bs, sp, F, nu, na, fi) else bd1 (fX9_sets 3 26 nu bs) (fun bs' => some (bs', sp, F, nu, na, fi)))) := by
  rcases rd1 h hs (lo := 0) (hi := 3) (by omega) (by omega) f fp nu na fi with ⟨⟨k1, k2, k3, e1⟩, l1, F, l3, l4, l5, e2, e3⟩ | ⟨x, s2, na', fi', x1, x2, x9, x3, x4, e1, e2⟩
  · rw [show fX6_takeDigit 0 3 (nI N) (nI s) f fp bytes = _ from e1, show fX9_reads 1 0 3 tape (nI s) (nI N) 0 nu na fi = _ from e2, bd4_mk, bd6_mk, sto8n, bd2_mk, ob0, if_pos rfl]
    exact JO.bad rfl rfl hD e3
  · rw [show fX6_takeDigit 0 3 (nI N) (nI s) f fp bytes = _ from e1, show fX9_reads 1 0 3 tape (nI s) (nI N) 0 nu na fi = _ from e2, bd4_mk, bd6_mk, show fX6_store 7 (nI x) d = _ from sto8 (a := 7) (by omega) (by omega) d, bd2_mk, ob1, if_neg one0, show fX9_sets 3 26 (nI x) bs = _ from se9 (k := 3) (a := 26) (by omega) (nI x), bd1_mk]
    exact JO.ok rfl rfl x3 x4 (hD.n (a := 26) (by omega) (by omega) ⟨by omega, by omega, by omega, by omega, by omega, by omega, by omega, by omega, by omega⟩)
theorem acL {bs0 : Nat → Int32} {c : Nat} (hc : c ≤ 1000) (n : Nat) : ∀ (i t : Nat) (d bs : Nat → Int32), t + i = 7 → 1 ≤ t → DfQ bs0 d bs → ∃ d' bs', lpX0_setAllCoupons_2 (nI c) (n + i + 1) (nI t) d = some d' ∧ lpX9_readsCoupon_129 (nI c) (n + i + 1) (nI t) bs = some bs' ∧ DfQ bs0 d' bs' := by
  intro i
  induction i with
  | zero =>
    intro t d bs ht h1 hD
    refine ⟨d, bs, ?_, ?_, hD⟩
    · rw [lpX0_setAllCoupons_2.eq_2, if_pos (show (6 : Int32) < nI t from nI_lt (a := 6) (by omega) (by omega))]
    · rw [lpX9_readsCoupon_129.eq_2, if_pos (show (6 : Int32) < nI t from nI_lt (a := 6) (by omega) (by omega))]
  | succ i ih =>
    intro t d bs ht h1 hD
    have hD2 := hD.n (a := 2 + t) (x := c) (by omega) (by omega) ⟨by omega, by omega, by omega, by omega, by omega, by omega, by omega, by omega, by omega⟩
    rw [show cI (2 + t) = 10 + t by unfold cI; rw [if_neg (by omega), if_pos (by omega)]; omega] at hD2
    obtain ⟨d', bs', e1, e2, e3⟩ := ih (t + 1) _ _ (by omega) (by omega) hD2
    refine ⟨d', bs', ?_, ?_, e3⟩
    · rw [lpX0_setAllCoupons_2.eq_2, if_neg (show ¬ (6 : Int32) < nI t from nI_nlt (a := 6) (by omega) (by omega)), show (10 : Int32) + nI t = nI (10 + t) by rw [show (10 : Int32) = nI 10 from rfl, nI_add], og32 (by omega) (by omega), nm_mk, nm_mk, nI_clamp (by omega), nI_1, show n + (i + 1) = n + i + 1 by omega, e1]
    · rw [lpX9_readsCoupon_129.eq_2, if_neg (show ¬ (6 : Int32) < nI t from nI_nlt (a := 6) (by omega) (by omega)), show (2 : Int32) + nI t = nI (2 + t) by rw [show (2 : Int32) = nI 2 from rfl, nI_add], show fX9_sets 3 (nI (2 + t)) (nI c) bs = _ from se9 (k := 3) (by omega) (nI c), bd1_mk, nm_mk, nI_1, show n + (i + 1) = n + i + 1 by omega, e2]
theorem acA {bs0 d bs : Nat → Int32} {c : Nat} (hc : c ≤ 1000) (hD : DfQ bs0 d bs) : ∃ d' bs', fX0_setAllCoupons (nI c) d = some d' ∧ lpX9_readsCoupon_129 (nI c) FU 1 bs = some bs' ∧ DfQ bs0 d' bs' := by
  obtain ⟨n, hn⟩ := fu_s 6 (by decide)
  obtain ⟨d', bs', e1, e2, e3⟩ := acL hc n 6 1 d bs (by omega) (by omega) hD
  refine ⟨d', bs', ?_, ?_, e3⟩
  · unfold fX0_setAllCoupons
    rw [hn, show lpX0_setAllCoupons_2 (nI c) (n + 6 + 1) 1 d = _ from e1, bd1_mk]
  · rw [hn]; exact e2
theorem in6 {x lo hi : Nat} (hx : x < 2 ^ 31) {a b : Int64} (ha : a.toInt = lo) (hb : b.toInt = hi) : fX9_in (Int32.toInt64 (nI x)) a b = some (if lo ≤ x ∧ x ≤ hi then 1 else 0) := by
  by_cases g : lo ≤ x ∧ x ≤ hi
  · rw [if_pos g]
    exact in1 ((inr_nI hx).mpr ⟨Int.ofNat_le.mpr g.1, Int.ofNat_le.mpr g.2⟩) ha hb
  · rw [if_neg g]
    exact in0 (fun q => g (by have := (inr_nI hx).mp q; omega)) ha hb
theorem cl_c {N : Nat} {v : Nat → Nat} {bytes tape : Nat → Int32} (h : TXT N v bytes tape) {s : Nat} (hs : s ≤ N) {bs0 d bs : Nat → Int32} (hD : DfQ bs0 d bs) (f fp bg nu na fi : Int32) : JO bs0 N s (fX6_takeCoupon (nI N) (nI s) f fp bg bytes d) (fX9_readsCoupon tape bs (nI s) (nI N) 0 nu na fi) := by
  have hN := h.1
  obtain ⟨s1, a1, a2, a3, a4⟩ := dg7 h hs f fp bg nu na fi
  unfold fX6_takeCoupon fX9_readsCoupon
  rw [a3, bd2_mk]
  rcases a4 with ⟨⟨a, b, c, k, e1⟩, k1, F, k3, k4, k5, e2, e3⟩ | ⟨x, s2, b1, b2, b3, e1, e2⟩
  · rw [e1, e2, bd5_mk, bd6_mk, if_neg (show ¬ (0 : Int32) ≤ -1 by decide), if_pos rfl]
    exact JO.bad rfl rfl hD e3
  rw [e1, e2, bd5_mk, bd6_mk, if_pos (show (0 : Int32) ≤ nI x from nI_le (a := 0) (Nat.zero_le _) (by omega)), if_neg one0, pk_sub (by omega)]
  -- all coupons
  have tail : ∀ s3, s2 ≤ s3 → s3 ≤ N → JO bs0 N s (if nI x ≤ 1000 then bd1 (fX0_setAllCoupons (nI x) d) (fun c_draft_terms_17 => some (1, nI s3, f, fp, nI s1, c_draft_terms_17)) else bd3 (fX6_fails 3 (nI s1) f fp) (fun r20 c_fault_21 c_faultPlace_22 => og (boB r20) (some (r20, nI s3, c_fault_21, c_faultPlace_22, nI s1, d)))) (bd1 (fX9_in (Int32.toInt64 (nI x)) 0 1000) (fun r15 => if r15 = 0 then bd2 (fX9_wrong 3 (nI s1) 0) (fun r20 c_fault_21 => some (bs, nI s3, c_fault_21, nI x, nI s1, nI (s2 - s1))) else bd1 (lpX9_readsCoupon_129 (nI x) FU 1 bs) (fun c_bonds_18 => some (c_bonds_18, nI s3, 0, nI x, nI s1, nI (s2 - s1))))) := by
    intro s3 c1 c2
    rw [in6 (x := x) (lo := 0) (hi := 1000) (by omega) rfl rfl, bd1_mk]
    by_cases g : x ≤ 1000
    · obtain ⟨d', bs', f1, f2, f3⟩ := acA g hD
      rw [if_pos (show nI x ≤ 1000 from nI_le (b := 1000) g (by omega)), if_pos (show 0 ≤ x ∧ x ≤ 1000 from ⟨Nat.zero_le _, g⟩), if_neg one0, f1, f2, bd1_mk, bd1_mk]
      exact JO.ok rfl rfl (by omega) c2 f3
    · rw [if_neg (show ¬ nI x ≤ 1000 from nI_ge (a := 1000) (by omega) (by omega)), if_neg (show ¬ (0 ≤ x ∧ x ≤ 1000) by omega), if_pos rfl, wr9, bd2_mk]
      unfold fX6_fails fX6_wrong
      rw [bd3_mk, bd3_mk, ob0]
      exact JO.bad rfl rfl hD (wrF s1 (by omega)).2.2
  by_cases g1 : s2 - s1 = 1
  rotate_left
  · rw [if_neg (show ¬ nI (s2 - s1) = 1 from fun q => g1 ((nI_eq (by omega) (by omega)).mp (show nI (s2 - s1) = nI 1 from q))), if_neg (show ¬ nI (s2 - s1) = 1 from fun q => g1 ((nI_eq (by omega) (by omega)).mp (show nI (s2 - s1) = nI 1 from q))), bd1_mk, bd2_mk, if_pos rfl, if_pos rfl]
    exact tail s2 (Nat.le_refl _) b3
  obtain ⟨s3, c1, c2, _, _, c5, c6⟩ := lk h b3
  rw [if_pos (show nI (s2 - s1) = 1 by rw [g1]; rfl), if_pos (show nI (s2 - s1) = 1 by rw [g1]; rfl), bd1_mk, if_neg one0, c5, c6, bd2_mk, bd2_mk]
  by_cases g2 : atB N v s3 = 58
  rotate_left
  · rw [if_neg g2, if_neg g2, bd2_mk, if_pos rfl]
    exact tail s3 c1 c2
  have hl : s3 < N := by
    rcases Nat.lt_or_ge s3 N with q | q
    · exact q
    · exact absurd (g2.symm.trans (if_pos q)) (by decide)
  rw [if_pos g2, if_pos g2, bd2_mk, if_neg one0, nm_mk, show fX8_within (nI x) 1 6 = _ from wiN (x := x) (lo := 1) (hi := 6) (by omega) (by omega) (by omega), in6 (x := x) (lo := 1) (hi := 6) (by omega) rfl rfl, bd1_mk, bd1_mk]
  by_cases g3 : 1 ≤ x ∧ x ≤ 6
  rotate_left
  · rw [if_neg g3, if_pos rfl, if_pos rfl, wr9, bd2_mk]
    unfold fX6_fails fX6_wrong
    rw [bd3_mk, bd3_mk, ob0]
    exact JO.bad rfl rfl hD (wrF s1 (by omega)).2.2
  rw [if_pos g3, if_neg one0, if_neg one0, nm_mk, nI_1]
  rcases rd7 h (s := s3 + 1) (by omega) (lo := 0) (hi := 1000) (by omega) (by omega) f fp (nI s1) (nI x) (nI s1) (nI (s2 - s1)) with ⟨⟨k1, k2, k3, k4, e3⟩, l1, F, l3, l4, l5, e4, e5⟩ | ⟨y, s4, bg', na', fi', y1, y2, y3, y4, e3, e4⟩
  · rw [show fX6_takeNumber 0 1000 (nI N) (nI (s3 + 1)) f fp (nI s1) bytes = _ from e3, show fX9_reads 7 0 1000 tape (nI (s3 + 1)) (nI N) 0 (nI x) (nI s1) (nI (s2 - s1)) = _ from e4, bd5_mk, bd6_mk, sto8n, bd2_mk, ob0, if_pos rfl, bd1_mk]
    exact JO.bad rfl rfl hD e5
  · rw [show fX6_takeNumber 0 1000 (nI N) (nI (s3 + 1)) f fp (nI s1) bytes = _ from e3, show fX9_reads 7 0 1000 tape (nI (s3 + 1)) (nI N) 0 (nI x) (nI s1) (nI (s2 - s1)) = _ from e4, bd5_mk, bd6_mk, show (10 : Int32) + nI x = nI (10 + x) by rw [show (10 : Int32) = nI 10 from rfl, nI_add], sto8 (a := 10 + x) (by omega) (by omega), bd2_mk, ob1, if_neg one0, show (2 : Int32) + nI x = nI (2 + x) by rw [show (2 : Int32) = nI 2 from rfl, nI_add], show fX9_sets 3 (nI (2 + x)) (nI y) bs = _ from se9 (k := 3) (by omega) (nI y), bd1_mk, bd1_mk]
    have hD2 := hD.n (a := 2 + x) (x := y) (by omega) (by omega) ⟨by omega, by omega, by omega, by omega, by omega, by omega, by omega, by omega, by omega⟩
    rw [show cI (2 + x) = 10 + x by unfold cI; rw [if_neg (by omega), if_pos (by omega)]; omega] at hD2
    exact JO.ok rfl rfl (by omega) y4 hD2
theorem cl_r {N : Nat} {v : Nat → Nat} {bytes tape : Nat → Int32} (h : TXT N v bytes tape) {s : Nat} (hs : s ≤ N) {bs0 d bs : Nat → Int32} (hD : DfQ bs0 d bs) {A C : Nat} (hA : (A = 9 ∧ C = 20) ∨ (A = 15 ∧ C = 30)) (f fp bg nu na fi : Int32) : JO bs0 N s (fX6_takeRight (nI C) (nI N) (nI s) f fp bg bytes d) (fX9_readsPrice (nI A) tape bs (nI s) (nI N) 0 nu na fi) := by
  have hN := h.1
  unfold fX6_takeRight fX9_readsPrice
  rcases rd1 h hs (lo := 0) (hi := 5) (by omega) (by omega) f fp nu na fi with ⟨⟨k1, k2, k3, e1⟩, l1, F, l3, l4, l5, e2, e3⟩ | ⟨x, s2, na', fi', x1, x2, x9, x3, x4, e1, e2⟩
  · rw [show fX6_takeDigit 0 5 (nI N) (nI s) f fp bytes = _ from e1, show fX9_reads 1 0 5 tape (nI s) (nI N) 0 nu na fi = _ from e2, bd4_mk, bd6_mk, if_pos (show (-1 : Int32) < 0 by decide), if_pos rfl]
    exact JO.bad rfl rfl hD e3
  rw [show fX6_takeDigit 0 5 (nI N) (nI s) f fp bytes = _ from e1, show fX9_reads 1 0 5 tape (nI s) (nI N) 0 nu na fi = _ from e2, bd4_mk, bd6_mk, if_neg (nI_pos (by omega)), if_neg one0]
  rcases sg9 h x4 58 (by decide) f fp with ⟨⟨k1, k2, k3, e1⟩, l1, F, e2, e3⟩ | ⟨s3, x5, x6, e3, e4⟩
  · rw [e1, e2, bd4_mk, bd3_mk, if_pos rfl, if_pos rfl]
    exact JO.bad rfl rfl hD e3
  rw [e3, e4, bd4_mk, bd3_mk, if_neg one0, if_neg one0]
  obtain ⟨s4, c1, c2, _, _, c5, c6⟩ := lk h x6
  have hcI : cI (A + x) = C + x := by
    rcases hA with ⟨q1, q2⟩ | ⟨q1, q2⟩
    · subst q1 q2; unfold cI; rw [if_neg (by omega), if_neg (by omega), if_pos (by omega)]; omega
    · subst q1 q2; unfold cI; rw [if_neg (by omega), if_neg (by omega), if_neg (by omega), if_pos (by omega)]; omega
  have hr : 9 ≤ A + x ∧ A + x < 21 := by omega
  rw [c5, c6, bd2_mk, bd2_mk, nI_add, nI_add]
  by_cases g2 : atB N v s4 = 45
  · have hl : s4 < N := by
      rcases Nat.lt_or_ge s4 N with q | q
      · exact q
      · exact absurd (g2.symm.trans (if_pos q)) (by decide)
    rw [if_pos g2, if_pos g2, nm_mk, nm_mk, nI_1, xset (show C + x < 36 by omega), bd1_mk, show fX9_sets 3 (nI (A + x)) (-1) bs = _ from se9 (k := 3) (by omega) (-1), bd1_mk, bd6_mk]
    have hD2 := hD.z hr
    rw [hcI] at hD2
    exact JO.ok rfl rfl (by omega) (by omega) hD2
  · rw [if_neg g2, if_neg g2]
    rcases rd7 h c2 (lo := 0) (hi := 1000000) (by omega) (by omega) f fp bg (nI x) na' fi' with ⟨⟨k1, k2, k3, k4, e3⟩, l1, F, l3, l4, l5, e4, e5⟩ | ⟨y, s5, bg', na'', fi'', y1, y2, y3, y4, e3, e4⟩
    · rw [show fX6_takeNumber 0 1000000 (nI N) (nI s4) f fp bg bytes = _ from e3, show fX9_reads 7 0 1000000 tape (nI s4) (nI N) 0 (nI x) na' fi' = _ from e4, bd5_mk, bd6_mk, sto8n, bd2_mk, ob0, if_pos rfl, bd6_mk]
      exact JO.bad rfl rfl hD e5
    · rw [show fX6_takeNumber 0 1000000 (nI N) (nI s4) f fp bg bytes = _ from e3, show fX9_reads 7 0 1000000 tape (nI s4) (nI N) 0 (nI x) na' fi' = _ from e4, bd5_mk, bd6_mk, sto8 (a := C + x) (by omega) (by omega), bd2_mk, ob1, if_neg one0, show fX9_sets 3 (nI (A + x)) (nI y) bs = _ from se9 (k := 3) (by omega) (nI y), bd1_mk, bd6_mk]
      have hD2 := hD.c hr (x := y) (by omega)
      rw [hcI] at hD2
      exact JO.ok rfl rfl (by omega) y4 hD2
theorem cl_w {N : Nat} {v : Nat → Nat} {bytes tape : Nat → Int32} (h : TXT N v bytes tape) {s : Nat} (hs : s ≤ N) {bs0 d bs : Nat → Int32} (hD : DfQ bs0 d bs) (f fp bg nu na fi : Int32) : JO bs0 N s (bd5 (fX6_takeWindow (nI N) (nI s) f fp bytes d) (fun r64 c_place_65 c_fault_66 c_faultPlace_67 c_draft_terms_68 => og (boB r64) (some (r64, c_place_65, c_fault_66, c_faultPlace_67, bg, c_draft_terms_68)))) (fX9_readsWindow tape bs (nI s) (nI N) 0 nu na fi) := by
  have hN := h.1
  unfold fX6_takeWindow fX9_readsWindow
  rcases rd1 h hs (lo := 0) (hi := 6) (by omega) (by omega) f fp nu na fi with ⟨⟨k1, k2, k3, e1⟩, l1, F, l3, l4, l5, e2, e3⟩ | ⟨x, s2, na', fi', x1, x2, x9, x3, x4, e1, e2⟩
  · rw [show fX6_takeDigit 0 6 (nI N) (nI s) f fp bytes = _ from e1, show fX9_reads 1 0 6 tape (nI s) (nI N) 0 nu na fi = _ from e2, bd4_mk, bd6_mk, if_pos (show (-1 : Int32) < 0 by decide), if_pos rfl, bd5_mk, ob0]
    exact JO.bad rfl rfl hD e3
  rw [show fX6_takeDigit 0 6 (nI N) (nI s) f fp bytes = _ from e1, show fX9_reads 1 0 6 tape (nI s) (nI N) 0 nu na fi = _ from e2, bd4_mk, bd6_mk, if_neg (nI_pos (by omega)), if_neg one0]
  rcases sg9 h x4 45 (by decide) f fp with ⟨⟨k1, k2, k3, e1⟩, l1, F, e2, e3⟩ | ⟨s3, x5, x6, e3, e4⟩
  · rw [e1, e2, bd4_mk, bd3_mk, if_pos rfl, if_pos rfl, bd5_mk, ob0]
    exact JO.bad rfl rfl hD e3
  rw [e3, e4, bd4_mk, bd3_mk, if_neg one0, if_neg one0]
  rcases rd1 h x6 (lo := x) (hi := 6) (by omega) (by omega) f fp (nI x) na' fi' with ⟨⟨k1, k2, k3, e1⟩, l1, F, l3, l4, l5, e2, e3⟩ | ⟨y, s4, na'', fi'', y1, y2, y9, y3, y4, e1, e2⟩
  · rw [show fX6_takeDigit (nI x) 6 (nI N) (nI s3) f fp bytes = _ from e1, show fX9_reads 1 (nI x) 6 tape (nI s3) (nI N) 0 (nI x) na' fi' = _ from e2, bd4_mk, bd6_mk, sto8n, bd2_mk, if_pos rfl, if_pos rfl, bd2_mk, ob0, bd5_mk, ob0]
    exact JO.bad rfl rfl hD e3
  rw [show fX6_takeDigit (nI x) 6 (nI N) (nI s3) f fp bytes = _ from e1, show fX9_reads 1 (nI x) 6 tape (nI s3) (nI N) 0 (nI x) na' fi' = _ from e2, bd4_mk, bd6_mk, show fX6_store 3 (nI y) d = _ from sto8 (a := 3) (by omega) (by omega) d, bd2_mk, if_neg one0, if_neg one0, show fX6_store 2 (nI x) (upd d 3 (nI y)) = _ from sto8 (a := 2) (by omega) (by omega) _, bd2_mk, if_neg one0, bd2_mk, ob1, bd5_mk, ob1, show fX9_sets 3 21 (nI x) bs = _ from se9 (k := 3) (a := 21) (by omega) (nI x), bd1_mk, show fX9_sets 3 22 (nI y) (upd bs (27 * 3 + 21) (nI x)) = _ from se9 (k := 3) (a := 22) (by omega) (nI y), bd1_mk]
  have u : upd (upd d 3 (nI y)) 2 (nI x) = upd (upd d 2 (nI x)) 3 (nI y) := by
    funext i
    rw [upS, upS, upS, upS]
    by_cases q1 : i = 2
    · rw [if_pos q1, if_neg (by omega), if_pos q1]
    · rw [if_neg q1, if_neg q1]
  rw [u]
  exact JO.ok rfl rfl (by omega) y4 ((hD.n (a := 21) (x := x) (by omega) (by omega) ⟨by omega, by omega, by omega, by omega, by omega, by omega, by omega, by omega, by omega⟩).n (a := 22) (x := y) (by omega) (by omega) ⟨by omega, by omega, by omega, by omega, by omega, by omega, by omega, by omega, by omega⟩)
theorem cl_s {N : Nat} {v : Nat → Nat} {bytes tape : Nat → Int32} (h : TXT N v bytes tape) {s : Nat} (hs : s ≤ N) {bs0 d bs : Nat → Int32} (hD : DfQ bs0 d bs) (f fp bg nu na fi : Int32) : JO bs0 N s (fX6_takeSoft (nI N) (nI s) f fp bg bytes d) (fX9_readsSoft tape bs (nI s) (nI N) 0 nu na fi) := by
  have hN := h.1
  unfold fX6_takeSoft fX9_readsSoft
  rcases rd1 h hs (lo := 0) (hi := 3) (by omega) (by omega) f fp nu na fi with ⟨⟨k1, k2, k3, e1⟩, l1, F, l3, l4, l5, e2, e3⟩ | ⟨x, s2, na', fi', x1, x2, x9, x3, x4, e1, e2⟩
  · rw [show fX6_takeDigit 0 3 (nI N) (nI s) f fp bytes = _ from e1, show fX9_reads 1 0 3 tape (nI s) (nI N) 0 nu na fi = _ from e2, bd4_mk, bd6_mk, if_pos (show (-1 : Int32) < 0 by decide), if_pos rfl]
    exact JO.bad rfl rfl hD e3
  rw [show fX6_takeDigit 0 3 (nI N) (nI s) f fp bytes = _ from e1, show fX9_reads 1 0 3 tape (nI s) (nI N) 0 nu na fi = _ from e2, bd4_mk, bd6_mk, if_neg (nI_pos (by omega)), if_neg one0]
  rcases sg9 h x4 47 (by decide) f fp with ⟨⟨k1, k2, k3, e1⟩, l1, F, e2, e3⟩ | ⟨s3, x5, x6, e3, e4⟩
  · rw [e1, e2, bd4_mk, bd3_mk, if_pos rfl, if_pos rfl]
    exact JO.bad rfl rfl hD e3
  have hm : (if (1 : Int32) < nI x then nI x else 1) = nI (if 1 < x then x else 1) := by
    by_cases q : 1 < x
    · rw [if_pos q, if_pos (show (1 : Int32) < nI x from nI_lt (a := 1) q (by omega))]
    · rw [if_neg q, if_neg (show ¬ (1 : Int32) < nI x from nI_nlt (a := 1) (by omega) (by omega))]; rfl
  have hm2 : (if nI x ≤ 1 then (some 1 : Option Int32) else some (nI x)) = some (nI (if 1 < x then x else 1)) := by
    by_cases q : 1 < x
    · rw [if_pos q, if_neg (show ¬ nI x ≤ 1 from nI_ge (a := 1) q (by omega))]
    · rw [if_neg q, if_pos (show nI x ≤ 1 from nI_le (b := 1) (by omega) (by omega))]; rfl
  rw [e3, e4, bd4_mk, bd3_mk, if_neg one0, if_neg one0, hm, hm2, bd1_mk]
  have hM : (if 1 < x then x else 1) ≤ 3 ∧ 1 ≤ (if 1 < x then x else 1) ∧ x ≤ (if 1 < x then x else 1) := by
    by_cases q : 1 < x
    · rw [if_pos q]; omega
    · rw [if_neg q]; omega
  generalize (if 1 < x then x else 1) = M at hM ⊢
  rcases rd1 h x6 (lo := M) (hi := 3) (by omega) (by omega) f fp (nI x) na' fi' with ⟨⟨k1, k2, k3, e1⟩, l1, F, l3, l4, l5, e2, e3⟩ | ⟨y, s4, na'', fi'', y1, y2, y9, y3, y4, e1, e2⟩
  · rw [show fX6_takeDigit (nI M) 3 (nI N) (nI s3) f fp bytes = _ from e1, show fX9_reads 1 (nI M) 3 tape (nI s3) (nI N) 0 (nI x) na' fi' = _ from e2, bd4_mk, bd6_mk, if_pos (show (-1 : Int32) < 0 by decide), if_pos rfl]
    exact JO.bad rfl rfl hD e3
  rw [show fX6_takeDigit (nI M) 3 (nI N) (nI s3) f fp bytes = _ from e1, show fX9_reads 1 (nI M) 3 tape (nI s3) (nI N) 0 (nI x) na' fi' = _ from e2, bd4_mk, bd6_mk, if_neg (nI_pos (by omega)), if_neg one0]
  rcases sg9 h y4 47 (by decide) f fp with ⟨⟨k1, k2, k3, e1⟩, l1, F, e2, e3⟩ | ⟨s5, x7, x8, e3, e4⟩
  · rw [e1, e2, bd4_mk, bd3_mk, if_pos rfl, if_pos rfl, bd6_mk]
    exact JO.bad rfl rfl hD e3
  rw [e3, e4, bd4_mk, bd3_mk, if_neg one0, if_neg one0]
  rcases rd7 h x8 (lo := 0) (hi := 1000000) (by omega) (by omega) f fp bg (nI y) na'' fi'' with ⟨⟨k1, k2, k3, k4, e3⟩, l1, F, l3, l4, l5, e4, e5⟩ | ⟨z, s6, bg', na3, fi3, z1, z2, z3, z4, e3, e4⟩
  · rw [show fX6_takeNumber 0 1000000 (nI N) (nI s5) f fp bg bytes = _ from e3, show fX9_reads 7 0 1000000 tape (nI s5) (nI N) 0 (nI y) na'' fi'' = _ from e4, bd5_mk, bd6_mk, sto8n, bd2_mk, if_pos rfl, if_pos rfl, bd2_mk, ob0, bd6_mk]
    exact JO.bad rfl rfl hD e5
  rw [show fX6_takeNumber 0 1000000 (nI N) (nI s5) f fp bg bytes = _ from e3, show fX9_reads 7 0 1000000 tape (nI s5) (nI N) 0 (nI y) na'' fi'' = _ from e4, bd5_mk, bd6_mk, show fX6_store 6 (nI z) d = _ from sto8 (a := 6) (by omega) (by omega) d, bd2_mk, if_neg one0, if_neg one0, show fX6_store 5 (nI y) (upd d 6 (nI z)) = _ from sto8 (a := 5) (by omega) (by omega) _, bd2_mk, if_neg one0, show fX6_store 4 (nI x) (upd (upd d 6 (nI z)) 5 (nI y)) = _ from sto8 (a := 4) (by omega) (by omega) _, bd2_mk, if_neg one0, bd2_mk, ob1]
  unfold fX9_softens
  rw [show fX9_sets 3 23 (nI x) bs = _ from se9 (k := 3) (a := 23) (by omega) (nI x), bd1_mk, show fX9_sets 3 24 (nI y) (upd bs (27 * 3 + 23) (nI x)) = _ from se9 (k := 3) (a := 24) (by omega) (nI y), bd1_mk, show fX9_sets 3 25 (nI z) (upd (upd bs (27 * 3 + 23) (nI x)) (27 * 3 + 24) (nI y)) = _ from se9 (k := 3) (a := 25) (by omega) (nI z), bd1_mk, bd1_mk, bd6_mk]
  have u : upd (upd (upd d 6 (nI z)) 5 (nI y)) 4 (nI x) = upd (upd (upd d 4 (nI x)) 5 (nI y)) 6 (nI z) := by
    funext i
    rw [upS, upS, upS, upS, upS, upS]
    by_cases q1 : i = 4
    · rw [if_pos q1, if_neg (by omega), if_neg (by omega), if_pos q1]
    · rw [if_neg q1, if_neg q1]
      by_cases q2 : i = 5
      · rw [if_pos q2, if_neg (by omega), if_pos q2]
      · rw [if_neg q2, if_neg q2]
  rw [u]
  exact JO.ok rfl rfl (by omega) z4 (((hD.n (a := 23) (x := x) (by omega) (by omega) ⟨by omega, by omega, by omega, by omega, by omega, by omega, by omega, by omega, by omega⟩).n (a := 24) (x := y) (by omega) (by omega) ⟨by omega, by omega, by omega, by omega, by omega, by omega, by omega, by omega, by omega⟩).n (a := 25) (x := z) (by omega) (by omega) ⟨by omega, by omega, by omega, by omega, by omega, by omega, by omega, by omega, by omega⟩)
end
section
/-! pure: terms told by a text, both sides: that both return, and that the bonds stay alike (own rows) -/
theorem JO.le {bs0 : Nat → Int32} {N s t : Nat} {o1 : Option (Int32 × Int32 × Int32 × Int32 × Int32 × (Nat → Int32))} {o2 : Option ((Nat → Int32) × Int32 × Int32 × Int32 × Int32 × Int32)} (h : JO bs0 N t o1 o2) (hs : s ≤ t) : JO bs0 N s o1 o2 := by
  obtain ⟨r, pl, f, fp, bg, d, bs, sp, F, nu, na, fi, e1, e2, e3, e4⟩ := h
  refine ⟨r, pl, f, fp, bg, d, bs, sp, F, nu, na, fi, e1, e2, e3, ?_⟩
  rcases e4 with e4 | ⟨a1, a2, s', a3, a4, a5, a6, a7⟩
  · exact Or.inl e4
  · exact Or.inr ⟨a1, a2, s', by omega, a4, a5, a6, a7⟩
theorem JO.w1 {bs0 : Nat → Int32} {N s : Nat} {o1 : Option (Int32 × Int32 × Int32 × Int32 × Int32 × (Nat → Int32))} {o2 : Option ((Nat → Int32) × Int32 × Int32 × Int32 × Int32 × Int32)} (h : JO bs0 N s o1 o2) : JO bs0 N s (bd6 o1 (fun r a b c d e => og (boB r) (some (r, a, b, c, d, e)))) o2 := by
  obtain ⟨r, pl, f, fp, bg, d, bs, sp, F, nu, na, fi, e1, e2, e3, e4⟩ := h
  refine ⟨r, pl, f, fp, bg, d, bs, sp, F, nu, na, fi, ?_, e2, e3, e4⟩
  rw [e1, bd6_mk]
  rcases e4 with ⟨a1, _⟩ | ⟨a1, _⟩
  · rw [a1, ob0]
  · rw [a1, ob1]
theorem JO.w2 {bs0 : Nat → Int32} {N s : Nat} {o1 : Option (Int32 × Int32 × Int32 × Int32 × Int32 × (Nat → Int32))} {o2 : Option ((Nat → Int32) × Int32 × Int32 × Int32 × Int32 × Int32)} (h : JO bs0 N s o1 o2) : JO bs0 N s o1 (bd6 o2 (fun a b c d e f => some (a, b, c, d, e, f))) := by
  obtain ⟨r, pl, f, fp, bg, d, bs, sp, F, nu, na, fi, e1, e2, e3, e4⟩ := h
  exact ⟨r, pl, f, fp, bg, d, bs, sp, F, nu, na, fi, e1, by rw [e2, bd6_mk], e3, e4⟩
theorem cl_a {N : Nat} {v : Nat → Nat} {bytes tape : Nat → Int32} (h : TXT N v bytes tape) {s : Nat} (hs : s < N) (hb : v s ≠ 32) {bs0 d bs : Nat → Int32} (hD : DfQ bs0 d bs) (f fp bg nu na fi : Int32) : JO bs0 N s (fX6_takeClause (nI N) (nI s) f fp bg bytes d) (fX9_readsClause (atB N v s) tape bs (nI s) (nI N) 0 nu na fi) := by
  have hN := h.1
  unfold fX6_takeClause fX9_readsClause
  rw [(lk0 h (by omega) (fun _ => hb)).1, bd2_mk, nm_mk, nm_mk, nI_1]
  refine JO.w2 ?_
  generalize atB N v s = r
  by_cases c1 : r = 99
  · rw [if_pos c1, if_pos c1]
    exact (cl_c h (by omega) hD f fp bg nu na fi).w1.w2.le (by omega)
  rw [if_neg c1, if_neg c1]
  by_cases c2 : r = 102
  · rw [if_pos c2, if_pos c2]
    exact JO.le (cl_n h (s := s + 1) (by omega) hD (a := 0) (lo := 1) (hi := 1000000) (by omega) (by omega) (by omega) (by omega) (fun x _ _ => ⟨by omega, by omega, by omega, by omega, by omega, by omega, by omega, by omega, by omega⟩) f fp bg nu na fi) (by omega)
  rw [if_neg c2, if_neg c2]
  by_cases c3 : r = 107
  · rw [if_pos c3, if_pos c3]
    exact (cl_r h (s := s + 1) (by omega) hD (A := 9) (C := 20) (Or.inl ⟨rfl, rfl⟩) f fp bg nu na fi).w1.w2.le (by omega)
  rw [if_neg c3, if_neg c3]
  by_cases c4 : r = 110
  · rw [if_pos c4, if_pos c4]
    exact JO.le (cl_n h (s := s + 1) (by omega) hD (a := 1) (lo := 0) (hi := 1000) (by omega) (by omega) (by omega) (by omega) (fun x _ _ => ⟨by omega, by omega, by omega, by omega, by omega, by omega, by omega, by omega, by omega⟩) f fp bg nu na fi) (by omega)
  rw [if_neg c4, if_neg c4]
  by_cases c5 : r = 112
  · rw [if_pos c5, if_pos c5]
    exact (cl_r h (s := s + 1) (by omega) hD (A := 15) (C := 30) (Or.inr ⟨rfl, rfl⟩) f fp bg nu na fi).w1.w2.le (by omega)
  rw [if_neg c5, if_neg c5]
  by_cases c6 : r = 115
  · rw [if_pos c6, if_pos c6]
    exact (cl_s h (s := s + 1) (by omega) hD f fp bg nu na fi).w1.w2.le (by omega)
  rw [if_neg c6, if_neg c6]
  by_cases c7 : r = 119
  · rw [if_pos c7, if_pos c7]
    exact (cl_w h (s := s + 1) (by omega) hD f fp bg nu na fi).w2.le (by omega)
  rw [if_neg c7, if_neg c7]
  by_cases c8 : r = 122
  · rw [if_pos c8, if_pos c8]
    exact (cl_z h (s := s + 1) (by omega) hD f fp bg nu na fi).le (by omega)
  rw [if_neg c8, if_neg c8, nm_mk, i_1, pk_sub (by omega), Nat.add_sub_cancel, wr9, bd2_mk]
  unfold fX6_fails fX6_wrong
  rw [bd3_mk, bd3_mk, ob0]
  exact JO.bad rfl rfl hD (wrF s (by omega)).1
/-- a text of blanks alone: the reference finds a fault -/
theorem cl_b {N : Nat} {v : Nat → Nat} {bytes tape : Nat → Int32} (h : TXT N v bytes tape) (bs : Nat → Int32) (nu na fi : Int32) : fX9_readsClause (-1) tape bs (nI N) (nI N) 0 nu na fi = some (bs, nI N, ((-1000) * 1) - nI N, nu, na, fi) := by
  have hN := h.1
  unfold fX9_readsClause
  rw [nm_mk, nI_1, if_neg (show ¬ (-1 : Int32) = 99 by decide), if_neg (show ¬ (-1 : Int32) = 102 by decide), if_neg (show ¬ (-1 : Int32) = 107 by decide), if_neg (show ¬ (-1 : Int32) = 110 by decide), if_neg (show ¬ (-1 : Int32) = 112 by decide), if_neg (show ¬ (-1 : Int32) = 115 by decide), if_neg (show ¬ (-1 : Int32) = 119 by decide), if_neg (show ¬ (-1 : Int32) = 122 by decide), nm_mk, i_1, pk_sub (by omega), Nat.add_sub_cancel, wr9, bd2_mk, bd6_mk]
def JT (bs0 d0 : Nat → Int32) (o1 : Option (Nat × Int32 × Int32 × Int32 × Int32 × Int32 × (Nat → Int32))) (o2 : Option (Int32 × (Nat → Int32) × Int32 × Int32 × Int32 × Int32 × Int32)) : Prop :=
  ∃ tg x pl f fp bg d x9 bs sp F nu na fi, o1 = some (tg, x, pl, f, fp, bg, d) ∧ o2 = some (x9, bs, sp, F, nu, na, fi) ∧ FrB 3 bs0 bs ∧ ((tg = 0 ∧ F ≠ 0) ∨ (tg = 1 ∧ F = 0 ∧ DfQ bs0 d bs) ∨ (tg = 1 ∧ F ≠ 0 ∧ d = d0))
theorem atW {N : Nat} {v : Nat → Nat} {bytes tape : Nat → Int32} (h : TXT N v bytes tape) {s : Nat} (hs : s ≤ N) : (s = N ∧ atB N v s = -1) ∨ (s < N ∧ atB N v s ≠ -1) := by
  rcases Nat.lt_or_ge s N with q | q
  · refine Or.inr ⟨q, ?_⟩
    rw [show atB N v s = nI (v s) from if_neg (by omega)]
    have hv := (h.2 s q).1
    intro e
    have := congrArg Int32.toInt e
    rw [nI_toInt (by omega), show (-1 : Int32).toInt = -1 from rfl] at this
    omega
  · exact Or.inl ⟨by omega, if_pos q⟩
theorem tmE (p : Int32) (tape bs : Nat → Int32) (N x sp F nu na fi : Int32) (hF : F ≠ 0) (n : Nat) : lpX9_terms_57 p tape N (n + 1) x bs sp F nu na fi = some (x, bs, sp, F, nu, na, fi) := by
  rw [lpX9_terms_57.eq_2, if_neg hF]
theorem tmL {N : Nat} {v : Nat → Nat} {bytes tape : Nat → Int32} (h : TXT N v bytes tape) (bs0 d0 : Nat → Int32) (p : Int32) (n : Nat) : ∀ (i s x : Nat) (d bs : Nat → Int32) (f fp bg nu na fi : Int32), N ≤ s + i → s ≤ N → x ≤ s → 1 ≤ x → DfQ bs0 d bs → JT bs0 d0 (lpX6_readTerms_27 (nI N) bytes (n + i + 1) (nI x) (nI s) f fp bg d) (lpX9_terms_57 p tape (nI N) (n + i + 1) (nI x) bs (nI s) 0 nu na fi) := by
  have hN := h.1
  intro i
  induction i with
  | zero =>
    intro s x d bs f fp bg nu na fi hi hs hx h1 hD
    have hsN : s = N := by omega
    have hat : atB N v s = -1 := if_pos (by omega)
    obtain ⟨l1, l2⟩ := lk0 h hs (fun q => absurd q (by omega))
    rw [hat] at l1 l2
    have c : lpX6_readTerms_27 (nI N) bytes (n + 0 + 1) (nI x) (nI s) f fp bg d = some (1, nI x, nI s, f, fp, bg, d) := by
      rw [lpX6_readTerms_27.eq_2]
      by_cases g : (100 : Int32) ≤ nI x
      · rw [if_pos g]
      · rw [if_neg g, l1, bd2_mk, if_pos rfl]
    have r : lpX9_terms_57 p tape (nI N) (n + 0 + 1) (nI x) bs (nI s) 0 nu na fi = some (nI x, bs, nI s, 0, nu, na, fi) := by
      rw [lpX9_terms_57.eq_2, if_pos rfl, if_neg (nI_ne0 (by omega) (by omega)), l2, bd2_mk, if_pos rfl]
    exact ⟨_, _, _, _, _, _, _, _, _, _, _, _, _, _, c, r, hD.fr, Or.inr (Or.inl ⟨rfl, rfl, hD⟩)⟩
  | succ i ih =>
    intro s x d bs f fp bg nu na fi hi hs hx h1 hD
    obtain ⟨s1, a1, a2, a3, _, a5, a6⟩ := lk h hs
    rcases atW h a2 with ⟨q1, q2⟩ | ⟨q1, q2⟩
    · rw [q2] at a5 a6
      have c : ∃ pl, lpX6_readTerms_27 (nI N) bytes (n + (i + 1) + 1) (nI x) (nI s) f fp bg d = some (1, nI x, pl, f, fp, bg, d) := by
        rw [lpX6_readTerms_27.eq_2]
        by_cases g : (100 : Int32) ≤ nI x
        · exact ⟨nI s, by rw [if_pos g]⟩
        · exact ⟨nI s1, by rw [if_neg g, a5, bd2_mk, if_pos rfl]⟩
      obtain ⟨pl, c⟩ := c
      have r : lpX9_terms_57 p tape (nI N) (n + (i + 1) + 1) (nI x) bs (nI s) 0 nu na fi = some (nI x, bs, nI s1, 0, nu, na, fi) := by
        rw [lpX9_terms_57.eq_2, if_pos rfl, if_neg (nI_ne0 (by omega) (by omega)), a6, bd2_mk, if_pos rfl]
      exact ⟨_, _, _, _, _, _, _, _, _, _, _, _, _, _, c, r, hD.fr, Or.inr (Or.inl ⟨rfl, rfl, hD⟩)⟩
    · have g : ¬ (100 : Int32) ≤ nI x := nI_ge (b := 100) (by omega) (by omega)
      rw [lpX6_readTerms_27.eq_2, lpX9_terms_57.eq_2, if_neg g, if_pos rfl, if_neg (nI_ne0 (by omega) (by omega)), a5, a6, bd2_mk, bd2_mk, if_neg q2, if_neg q2, (lk0 h a2 a3).2, bd2_mk]
      obtain ⟨r, pl, f', fp', bg', d', bs', sp, F, nu', na', fi', e1, e2, e3, e4⟩ := cl_a h q1 (a3 q1) hD f fp bg nu na fi
      rw [e1, e2, bd6_mk, bd6_mk, nm_mk, nI_1, show n + (i + 1) = n + i + 1 by omega]
      rcases e4 with ⟨b1, b2⟩ | ⟨b1, b2, s2, b3, b4, b5, b6, b7⟩
      · rw [if_pos b1, nm_mk, tmE _ _ _ _ _ _ _ _ _ _ b2]
        exact ⟨_, _, _, _, _, _, _, _, _, _, _, _, _, _, rfl, rfl, e3, Or.inl ⟨rfl, b2⟩⟩
      · rw [if_neg (by rw [b1]; exact one0), nm_mk, b2, b5, b6]
        exact ih s2 (x + 1) d' bs' f' fp' bg' nu' na' fi' (by omega) b4 (by omega) (by omega) b7
theorem tm0 {N : Nat} {v : Nat → Nat} {bytes tape : Nat → Int32} (h : TXT N v bytes tape) (hN1 : 1 ≤ N) {bs0 d bs : Nat → Int32} (p : Int32) (f fp bg nu na fi : Int32) (hD : DfQ bs0 d bs) : JT bs0 d (lpX6_readTerms_27 (nI N) bytes FU 0 0 f fp bg d) (lpX9_terms_57 p tape (nI N) FU 0 bs 0 0 nu na fi) := by
  have hN := h.1
  obtain ⟨n, hn⟩ := fu_s (N + 1) (by omega)
  obtain ⟨s1, a1, a2, a3, _, a5, a6⟩ := lk h (Nat.zero_le N)
  rw [hn, lpX6_readTerms_27.eq_2, lpX9_terms_57.eq_2, if_neg (show ¬ (100 : Int32) ≤ 0 by decide), if_pos rfl, if_pos rfl, show fX6_look (nI N) 0 bytes = _ from a5, show fX9_see tape 0 (nI N) = _ from a6, bd2_mk, bd2_mk]
  rcases atW h a2 with ⟨q1, q2⟩ | ⟨q1, q2⟩
  · rw [if_pos q2, q2, q1, cl_b h, bd6_mk, nm_mk, show n + (N + 1) = (n + N) + 1 by omega, tmE _ _ _ _ _ _ _ _ _ _ (wrF N (by omega)).1]
    exact ⟨_, _, _, _, _, _, _, _, _, _, _, _, _, _, rfl, rfl, hD.fr, Or.inr (Or.inr ⟨rfl, (wrF N (by omega)).1, rfl⟩)⟩
  · rw [if_neg q2]
    obtain ⟨r, pl, f', fp', bg', d', bs', sp, F, nu', na', fi', e1, e2, e3, e4⟩ := cl_a h q1 (a3 q1) hD f fp bg nu na fi
    rw [e1, e2, bd6_mk, bd6_mk, nm_mk, show n + (N + 1) = n + N + 1 by omega]
    rcases e4 with ⟨b1, b2⟩ | ⟨b1, b2, s2, b3, b4, b5, b6, b7⟩
    · rw [if_pos b1, nm_mk, tmE _ _ _ _ _ _ _ _ _ _ b2]
      exact ⟨_, _, _, _, _, _, _, _, _, _, _, _, _, _, rfl, rfl, e3, Or.inl ⟨rfl, b2⟩⟩
    · rw [if_neg (by rw [b1]; exact one0), nm_mk, b2, b5, b6]
      exact tmL h bs0 d p n N s2 1 d' bs' f' fp' bg' nu' na' fi' (by omega) b4 (by omega) (by omega) b7
/-- the bonds after terms -/
theorem rdT {N : Nat} {v : Nat → Nat} {bytes tape : Nat → Int32} (h : TXT N v bytes tape) (hN1 : 1 ≤ N) {n : Nat} (hn : N ≤ n) (hn2 : n ≤ 200) {k : Nat} (hk : k < 3) {d2 bs : Nat → Int32} {β : Nat → Nat} (hc : CB d2 β) (hK : BK β) (hb : RB bs k β) (tl tp tf tfp tb nu na fi : Int32) (td : Nat → Int32) : ∃ r pl f fp bg dr d2' r9 bs' sp F nu' na' fi' β', fX6_readTerms (nI N) (nI n) tl tp tf tfp tb bytes td d2 = some (r, nI N, pl, f, fp, bg, dr, d2') ∧ bd1 (fX9_copies (nI k) 3 bs) (fun c_bonds_8 => bd7 (lpX9_terms_57 (nI k) tape (nI N) FU 0 c_bonds_8 0 0 nu na fi) (fun x10 c_bonds_11 c_spot_12 c_fault_13 c_number_14 c_numberAt_15 c_figures_16 => if c_fault_13 = 0 then bd1 (fX9_copies 3 (nI k) c_bonds_11) (fun c_bonds_19 => some (x10, 0, c_bonds_19, c_spot_12, nI N, c_fault_13, c_number_14, c_numberAt_15, c_figures_16)) else some (c_fault_13, 0, c_bonds_11, c_spot_12, nI N, c_fault_13, c_number_14, c_numberAt_15, c_figures_16))) = some (r9, (0 : Int32), bs', sp, nI N, F, nu', na', fi') ∧ CB d2' β' ∧ BK β' ∧ RB bs' k β' ∧ (∀ y, ¬ (27 * k ≤ y ∧ y < 27 * k + 27) → ¬ (81 ≤ y ∧ y < 108) → bs' y = bs y) := by
  have hN := h.1
  obtain ⟨z, e1, z1, z2⟩ := cy9 (k := k) (l := 3) (by omega) (by omega) (by omega) hb
  have tkf : ∀ a b : Nat → Int32, fX0_takeFrom a b = some (va_cpy b a 0 0 36) := fun a b => by unfold fX0_takeFrom; rw [nm_mk]; rfl
  have hD : DfQ z (va_cpy d2 td 0 0 36) z := ⟨β, hc.cpy, z1, hK, FrB.refl 3 z⟩
  obtain ⟨tg, x, pl, f, fp, bg, d, x9, bs1, sp, F, nu', na', fi', f1, f2, f3, f4⟩ := tm0 h hN1 (nI k) tf tfp tb nu na fi hD
  have w : (if nI n < nI N then nI n else nI N) = nI N := if_neg (nI_nlt (by omega) (by omega))
  have c0 : ∀ X, X = fX6_readTerms (nI N) (nI n) tl tp tf tfp tb bytes td d2 → X = (if tg = 0 then some (((-1000) * f) - fp, nI N, pl, f, fp, bg, d, d2) else some (x, nI N, pl, f, fp, bg, d, va_cpy d d2 0 0 36)) := by
    intro X hX
    rw [hX]
    unfold fX6_readTerms
    rw [tkf, bd1_mk, nm_mk, w, f1, bd7_mk]
    by_cases q : tg = 0
    · rw [if_pos q, if_pos q]
    · rw [if_neg q, if_neg q, tkf, bd1_mk]
  have c0 := c0 _ rfl
  have e1' : fX9_copies (nI k) 3 bs = some z := e1
  rw [e1', bd1_mk, f2, bd7_mk]
  rcases f4 with ⟨t1, t2⟩ | ⟨t1, t2, γ, t3, t4, t5, t6⟩ | ⟨t1, t2, t3⟩
  · rw [if_pos t1] at c0
    rw [if_neg t2]
    refine ⟨_, _, _, _, _, _, _, _, _, _, _, _, _, _, β, c0, rfl, hc, hK, (hb.fr (by omega) z2).fr (by omega) f3, fun y y1 y2 => ?_⟩
    rw [f3 y (by omega), z2 y (by omega)]
  · rw [if_neg (by omega)] at c0
    obtain ⟨w', g1, g2, g3⟩ := cy9 (k := 3) (l := k) (by omega) (by omega) (by omega) t4
    rw [if_pos t2, show fX9_copies 3 (nI k) bs1 = _ from g1, bd1_mk]
    refine ⟨_, _, _, _, _, _, _, _, _, _, _, _, _, _, γ, c0, rfl, t3.cpy, t5, g2, fun y y1 y2 => ?_⟩
    rw [g3 y (by omega), f3 y (by omega), z2 y (by omega)]
  · rw [if_neg (by omega)] at c0
    rw [if_neg t2]
    refine ⟨_, _, _, _, _, _, _, _, _, _, _, _, _, _, β, c0, rfl, by rw [t3]; exact hc.cpy.cpy, hK, (hb.fr (by omega) z2).fr (by omega) f3, fun y y1 y2 => ?_⟩
    rw [f3 y (by omega), z2 y (by omega)]
theorem q_terms {b0 b1 b2 bs : Nat → Int32} {B : Nat → Nat → Nat} (hB : BCT b0 b1 b2 bs B) {size taped : Int32} {bytes tape : Nat → Int32} (hT : TPQ size bytes tape taped) (p1 p2 tl tp tf tfp tb sp tl9 F nu na fi : Int32) (td : Nat → Int32) : ∃ r s1 s2 s3 s4 s5 s6 s7 d0 d1 d2 r9 t1 t2 t3 t4 t5 t6 t7 t8, fX8_terms p1 p2 size tl tp tf tfp tb bytes td b0 b1 b2 = some (r, s1, s2, s3, s4, s5, s6, s7, d0, d1, d2) ∧ fX9_terms p1 p2 tape taped bs sp tl9 F nu na fi = some (r9, t1, t2, t3, t4, t5, t6, t7, t8) ∧ TPQ s1 bytes tape t1 ∧ (∃ B', BCT d0 d1 d2 t2 B') ∧ (∀ y, 108 ≤ y → t2 y = bs y) := by
  by_cases h1 : inr p1 0 2
  rotate_left
  · refine ⟨-1, size, tl, tp, tf, tfp, tb, td, b0, b1, b2, -1, taped, bs, sp, tl9, F, nu, na, fi, ?_, ?_, hT, ⟨B, hB⟩, fun _ _ => rfl⟩
    · unfold fX8_terms; rw [isb8n h1, bd1_mk, if_pos rfl]
    · unfold fX9_terms; rw [isb9n h1, bd1_mk, if_pos rfl]
  by_cases h2 : inr p2 1 100
  rotate_left
  · refine ⟨-1, size, tl, tp, tf, tfp, tb, td, b0, b1, b2, -1, taped, bs, sp, tl9, F, nu, na, fi, ?_, ?_, hT, ⟨B, hB⟩, fun _ _ => rfl⟩
    · unfold fX8_terms; rw [isb8y h1, bd1_mk, if_neg one0, wi0 h2, bd1_mk, if_pos rfl]
    · unfold fX9_terms; rw [isb9y h1, bd1_mk, if_neg one0, in0 h2, bd1_mk, if_pos rfl]
  obtain ⟨n, v, n1, n2, n3, n4⟩ := hT
  subst n2 n3
  by_cases h3 : p2 ≤ nI n
  rotate_left
  · refine ⟨-1, nI n, tl, tp, tf, tfp, tb, td, b0, b1, b2, -1, nI n, bs, sp, tl9, F, nu, na, fi, ?_, ?_, ⟨n, v, n1, rfl, rfl, n4⟩, ⟨B, hB⟩, fun _ _ => rfl⟩
    · unfold fX8_terms fX6_size; rw [isb8y h1, bd1_mk, if_neg one0, wi1 h2, bd1_mk, if_neg one0, bd1_mk, if_neg h3]
    · unfold fX9_terms; rw [isb9y h1, bd1_mk, if_neg one0, in1 h2, bd1_mk, if_neg one0, if_neg h3]
  have h1' := h1
  have h2' := h2
  obtain ⟨k, rfl, ka, kb, kc⟩ := inr_n h1 (by decide)
  obtain ⟨N, rfl, Na, Nb, Nc⟩ := inr_n h2 (by decide)
  have hk : k < 3 := by omega
  have hNn : N ≤ n := by
    rcases Nat.lt_or_ge n N with q | q
    · exact absurd h3 (nI_ge q (by omega))
    · exact q
  have hX : TXT N v bytes tape := ⟨by omega, fun i hi => n4 i (by omega)⟩
  obtain ⟨r, pl, f, fp, bg, dr, d2', r9, bs', sp', F', nu', na', fi', β', e1, e2, e3, e4, e5, e6⟩ := rdT hX (by omega) hNn n1 hk (hB.1 k hk).1 (hB.1 k hk).2 (hB.2 k hk) tl tp tf tfp tb nu na fi td
  have c9 : fX9_terms (nI k) (nI N) tape (nI n) bs sp tl9 F nu na fi = some (r9, 0, bs', sp', nI N, F', nu', na', fi') := by
    unfold fX9_terms
    rw [isb9y h1', bd1_mk, if_neg one0, in1 h2', bd1_mk, if_neg one0, if_pos h3]
    exact e2
  have hT0 : TPQ 0 bytes tape 0 := ⟨0, v, by omega, rfl, rfl, fun i hi => absurd hi (by omega)⟩
  have fin : ∀ x0 x1 x2 : Nat → Int32, (∀ i, i < 3 → CB (bsel i x0 x1 x2) (if i = k then β' else B i)) → ∃ B', BCT x0 x1 x2 bs' B' := fun x0 x1 x2 hx => ⟨fun i => if i = k then β' else B i, fun i hi => ⟨hx i hi, by
      show BK (if i = k then β' else B i)
      by_cases e : i = k
      · rw [if_pos e]; exact e4
      · rw [if_neg e]; exact (hB.1 i hi).2⟩, fun j hj => by
      show RB bs' j (if j = k then β' else B j)
      by_cases e : j = k
      · rw [if_pos e, e]; exact e5
      · rw [if_neg e]
        exact ⟨(hB.2 j hj).1, fun i hi => by rw [e6 _ (by omega) (by omega), (hB.2 j hj).2 i hi]⟩⟩
  have hi8 : ∀ y, 108 ≤ y → bs' y = bs y := fun y hy => e6 y (by omega) (by omega)
  have v0 := (hB.1 0 (by omega)).1
  have v1 := (hB.1 1 (by omega)).1
  have v2 := (hB.1 2 (by omega)).1
  rcases (show k = 0 ∨ k = 1 ∨ k = 2 by omega) with rfl | rfl | rfl
  · refine ⟨r, 0, nI N, pl, f, fp, bg, dr, d2', b1, b2, r9, 0, bs', sp', nI N, F', nu', na', fi', ?_, c9, hT0, fin d2' b1 b2 (fun i hi => ?_), hi8⟩
    · unfold fX8_terms fX6_size fX6_clear
      rw [isb8y h1', bd1_mk, if_neg one0, wi1 h2', bd1_mk, if_neg one0, bd1_mk, if_pos h3, og32 (by omega) (by omega), if_pos (show nI 0 = (0 : Int32) from rfl), show fX6_readTerms (nI N) (nI n) tl tp tf tfp tb bytes td b0 = _ from e1, bd8_mk, bd10_mk, bd1_mk]
    · rcases (show i = 0 ∨ i = 1 ∨ i = 2 by omega) with rfl | rfl | rfl
      · exact e3
      · exact v1
      · exact v2
  · refine ⟨r, 0, nI N, pl, f, fp, bg, dr, b0, d2', b2, r9, 0, bs', sp', nI N, F', nu', na', fi', ?_, c9, hT0, fin b0 d2' b2 (fun i hi => ?_), hi8⟩
    · unfold fX8_terms fX6_size fX6_clear
      rw [isb8y h1', bd1_mk, if_neg one0, wi1 h2', bd1_mk, if_neg one0, bd1_mk, if_pos h3, og32 (by omega) (by omega), if_neg (show ¬ nI 1 = (0 : Int32) from one0), if_pos (show nI 1 = (1 : Int32) from rfl), show fX6_readTerms (nI N) (nI n) tl tp tf tfp tb bytes td b1 = _ from e1, bd8_mk, bd10_mk, bd1_mk]
    · rcases (show i = 0 ∨ i = 1 ∨ i = 2 by omega) with rfl | rfl | rfl
      · exact v0
      · exact e3
      · exact v2
  · refine ⟨r, 0, nI N, pl, f, fp, bg, dr, b0, b1, d2', r9, 0, bs', sp', nI N, F', nu', na', fi', ?_, c9, hT0, fin b0 b1 d2' (fun i hi => ?_), hi8⟩
    · unfold fX8_terms fX6_size fX6_clear
      rw [isb8y h1', bd1_mk, if_neg one0, wi1 h2', bd1_mk, if_neg one0, bd1_mk, if_pos h3, og32 (by omega) (by omega), if_neg (show ¬ nI 2 = (0 : Int32) by decide), if_neg (show ¬ nI 2 = (1 : Int32) by decide), show fX6_readTerms (nI N) (nI n) tl tp tf tfp tb bytes td b2 = _ from e1, bd8_mk, bd10_mk, bd1_mk]
    · rcases (show i = 0 ∨ i = 1 ∨ i = 2 by omega) with rfl | rfl | rfl
      · exact v0
      · exact v1
      · exact e3
end
