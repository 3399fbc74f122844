/-! pure: the reference's letter (own rows) -/
def wfd (w f0 : Int32) (L : List Nat) : Int32 := if 0 ≤ w ∧ w.toNatClampNeg < L.length then nI (L.getD w.toNatClampNeg 0) else f0
abbrev WR (w f0 : Int32) (L : List Nat) (a b : Int32) : Prop := a = nI L.length ∧ b = wfd w f0 L
theorem clamp_nI {w : Int32} (h : 0 ≤ w) : w = nI w.toNatClampNeg := by
  obtain ⟨j, hj, e⟩ := nI_of (x := w) (Int32.not_lt.mpr h)
  rw [e, nI_clamp hj]
theorem wr1 {w f0 a b : Int32} {L : List Nat} (h : WR w f0 L a b) (hl : L.length < 2 ^ 30) (c : Nat) : Sx (fX9_writes (nI c) a w b) (fun z => WR w f0 (L ++ [c]) z.1 z.2) := by
  obtain ⟨rfl, rfl⟩ := h
  unfold fX9_writes
  refine Sx.e1 (ite_so _ _) ?_
  rw [nm_mk, nI_1]
  refine Sx.mk ⟨by rw [List.length_append]; rfl, ?_⟩
  unfold wfd
  rw [List.length_append]
  by_cases e : nI L.length = w
  · subst e
    rw [if_pos rfl, nI_clamp (by omega), if_pos ⟨nI_pos' (by omega), by simp⟩]
    simp
  · rw [if_neg e]
    by_cases g : 0 ≤ w ∧ w.toNatClampNeg < L.length
    · rw [if_pos g, if_pos ⟨g.1, by simp; omega⟩]
      congr 1
      rw [List.getD_eq_getElem?_getD, List.getD_eq_getElem?_getD, List.getElem?_append_left g.2]
    · rw [if_neg g, if_neg]
      intro q
      have q2 := q.2
      simp at q2
      have h1 : ¬ w.toNatClampNeg < L.length := fun z => g ⟨q.1, z⟩
      have h2 : w.toNatClampNeg = L.length := by omega
      exact e (by rw [← h2]; exact (clamp_nI q.1).symm)
theorem Sx.w {o : Option (Int32 × Int32)} {w f0 : Int32} {L M : List Nat} (h : Sx o (fun z => WR w f0 L z.1 z.2)) (e : L = M) : Sx o (fun z => WR w f0 M z.1 z.2) := by subst e; exact h
def dgR : Nat → Nat → List Nat
  | 0, _ => []
  | k + 1, v => (if 10 ^ k ≤ v ∨ k = 0 then [48 + v / 10 ^ k % 10] else []) ++ dgR k v
theorem dgR_len (k v : Nat) : (dgR k v).length ≤ k := by
  induction k with
  | zero => exact Nat.le_refl 0
  | succ k ih =>
    unfold dgR
    rw [List.length_append]
    split
    · simp; omega
    · simp; omega
theorem p10 : ∀ k, k < 7 → 1 ≤ 10 ^ k ∧ 10 ^ k ≤ 1000000 ∧ 10 ^ (k + 1) / 10 = 10 ^ k ∧ (10 ^ k = 1 ↔ k = 0) := by decide +kernel
theorem wn3 {w f0 : Int32} {v : Nat} (hv : v < 10000000) : ∀ (k n : Nat) (a b : Int32) (L : List Nat), k ≤ 7 → L.length + k < 2 ^ 30 → WR w f0 L a b → Sx (lpX9_writesNumber_3 (nI v) w (n + k + 1) (nI (10 ^ k / 10)) a b) (fun z => WR w f0 (L ++ dgR k v) z.1 z.2) := by
  intro k
  induction k with
  | zero =>
    intro n a b L hk hl h
    rw [lpX9_writesNumber_3.eq_2]
    refine Sx.p (by decide) (Sx.mk ?_)
    show WR w f0 (L ++ []) a b
    rw [List.append_nil]; exact h
  | succ k ih =>
    intro n a b L hk hl h
    obtain ⟨q1, q2, q3, q4⟩ := p10 k (by omega)
    rw [lpX9_writesNumber_3.eq_2, q3]
    refine Sx.n (nI_nle (by omega) (by omega)) ?_
    have hd : nI (10 ^ k) / 10 = nI (10 ^ k / 10) := by rw [i_10, pk_div (by omega) (by omega) (by omega)]
    have hz : nzI (nI (10 ^ k)) = true := by unfold nzI; rw [decide_eq_false (nI_ne0 (by omega) (by omega))]; rfl
    have hc : (48 : Int32) + ((nI v / nI (10 ^ k)) - (nI v / nI (10 ^ k)) / 10 * 10) = nI (48 + v / 10 ^ k % 10) := by
      have hle : v / 10 ^ k ≤ v := Nat.div_le_self _ _
      rw [pk_div (by omega) (by omega) (by omega), i_10, pk_rem (by omega) (by omega) (by omega), i_48, nI_add]
    refine Sx.b2 (P := fun z => WR w f0 (L ++ (if 10 ^ k ≤ v ∨ k = 0 then [48 + v / 10 ^ k % 10] else [])) z.1 z.2) ?_ ?_
    · by_cases g : 10 ^ k ≤ v
      · refine Sx.p (nI_le g (by omega)) (Sx.og hz ?_)
        rw [hc, if_pos (Or.inl g)]
        exact Sx.b2 (wr1 h (by omega) _) (fun _ _ h => Sx.mk h)
      · refine Sx.n (nI_ge (by omega) (by omega)) ?_
        by_cases g0 : k = 0
        · refine Sx.p (by rw [g0]; rfl) (Sx.og hz ?_)
          rw [hc, if_pos (Or.inr g0)]
          exact Sx.b2 (wr1 h (by omega) _) (fun _ _ h => Sx.mk h)
        · refine Sx.n (fun q => g0 (q4.mp ((nI_eq (by omega) (by omega)).mp q))) (Sx.mk ?_)
          rw [if_neg (by omega), List.append_nil]; exact h
    · intro a' b' h'
      rw [nm_mk, hd, show n + (k + 1) = n + k + 1 by omega]
      have hlen : (L ++ (if 10 ^ k ≤ v ∨ k = 0 then [48 + v / 10 ^ k % 10] else [])).length ≤ L.length + 1 := by
        rw [List.length_append]; split <;> simp
      refine (ih n a' b' _ (by omega) (by omega) h').w ?_
      rw [List.append_assoc]; rfl
theorem wn9 {w f0 : Int32} {v : Nat} (hv : v < 10000000) {a b : Int32} {L : List Nat} (hl : L.length + 7 < 2 ^ 30) (h : WR w f0 L a b) : Sx (fX9_writesNumber (nI v) a w b) (fun z => WR w f0 (L ++ dgR 7 v) z.1 z.2) := by
  unfold fX9_writesNumber
  obtain ⟨n, hn⟩ := fuN 8 (by omega)
  rw [hn]
  exact Sx.b2 (wn3 hv 7 n a b L (by omega) (by omega) h) (fun _ _ h => Sx.mk h)
/-- the CLAUSES of the DAYS from d on, j of them; f: the number of a day one more, 0: none -/
def dyL (c : Nat) (f : Nat → Nat) : Nat → Nat → List Nat
  | 0, _ => []
  | j + 1, d => (if f d = 0 then [] else [c] ++ (dgR 7 d ++ ([58] ++ dgR 7 (f d - 1)))) ++ dyL c f j (d + 1)
theorem dyL_len (c : Nat) (f : Nat → Nat) : ∀ j d, (dyL c f j d).length ≤ 16 * j := by
  intro j
  induction j with
  | zero => intro d; exact Nat.le_refl 0
  | succ j ih =>
    intro d
    unfold dyL
    have h1 := ih (d + 1)
    have h2 := dgR_len 7 d
    have h3 := dgR_len 7 (f d - 1)
    rw [List.length_append]
    split
    · simp; omega
    · simp; omega
theorem wd4 {bs : Nat → Int32} {k c at' d0 hi : Nat} {least w f0 : Int32} {f : Nat → Nat} (hk : k < 5) (hf : ∀ d, d0 ≤ d → d ≤ hi → 27 * k + (at' + d) < 135 ∧ (f d = 0 → ¬ least ≤ bs (27 * k + (at' + d))) ∧ (f d ≠ 0 → least ≤ bs (27 * k + (at' + d)) ∧ bs (27 * k + (at' + d)) = nI (f d - 1) ∧ f d ≤ 1000001)) (hhi : hi ≤ 6) : ∀ (j n d : Nat) (a b : Int32) (L : List Nat), d0 ≤ d → d + j = hi + 1 → L.length + 16 * j < 2 ^ 30 → WR w f0 L a b → Sx (lpX9_writesDays_4 (nI c) (nI k) (nI at') (nI hi) least bs w (n + j + 1) (nI d) a b) (fun z => WR w f0 (L ++ dyL c f j d) z.1 z.2) := by
  intro j
  induction j with
  | zero =>
    intro n d a b L h0 hd hl h
    rw [lpX9_writesDays_4.eq_2]
    refine Sx.p (nI_lt (by omega) (by omega)) (Sx.mk ?_)
    show WR w f0 (L ++ []) a b
    rw [List.append_nil]; exact h
  | succ j ih =>
    intro n d a b L h0 hd hl h
    obtain ⟨f1, f2, f3⟩ := hf d h0 (by omega)
    have hof : fX9_of (nI k) (nI at' + nI d) bs = some (bs (27 * k + (at' + d))) := by
      unfold fX9_of
      rw [i_27, pk_mul, nI_add, nI_add, og32 (by omega) (by omega), nI_clamp (by omega)]
    rw [lpX9_writesDays_4.eq_2]
    refine Sx.n (nI_nlt (by omega) (by omega)) (Sx.e1 hof ?_)
    have l1 := dgR_len 7 d
    refine Sx.b2 (P := fun z => WR w f0 (L ++ (if f d = 0 then [] else [c] ++ (dgR 7 d ++ ([58] ++ dgR 7 (f d - 1))))) z.1 z.2) ?_ ?_
    · by_cases g : f d = 0
      · refine Sx.n (f2 g) (Sx.mk ?_)
        rw [if_pos g, List.append_nil]; exact h
      · obtain ⟨g1, g2, g3⟩ := f3 g
        refine Sx.p g1 ?_
        rw [if_neg g]
        refine Sx.b2 (wr1 h (by omega) c) (fun a1 b1 h1 => ?_)
        refine Sx.b2 (wn9 (v := d) (by omega) (by simp; omega) h1) (fun a2 b2 h2 => ?_)
        refine Sx.b2 (wr1 h2 (by simp; omega) 58) (fun a3 b3 h3 => ?_)
        refine Sx.e1 hof ?_
        rw [g2]
        refine Sx.b2 (wn9 (v := f d - 1) (by omega) (by simp; omega) h3) (fun a4 b4 h4 => Sx.mk ?_)
        have e : L ++ [c] ++ dgR 7 d ++ [58] ++ dgR 7 (f d - 1) = L ++ ([c] ++ (dgR 7 d ++ ([58] ++ dgR 7 (f d - 1)))) := by simp
        rw [← e]; exact h4
    · intro a' b' h'
      rw [nm_mk, nI_1, show n + (j + 1) = n + j + 1 by omega]
      have hlen : (L ++ (if f d = 0 then [] else [c] ++ (dgR 7 d ++ ([58] ++ dgR 7 (f d - 1))))).length ≤ L.length + 16 := by
        have l2 := dgR_len 7 (f d - 1)
        rw [List.length_append]
        split
        · simp
        · simp; omega
      refine (ih n (d + 1) a' b' _ (by omega) (by omega) (by omega) h').w ?_
      rw [List.append_assoc]; rfl
theorem wd9 {bs : Nat → Int32} {k c at' lo hi : Nat} {least w f0 : Int32} {f : Nat → Nat} (hk : k < 5) (hf : ∀ d, lo ≤ d → d ≤ hi → 27 * k + (at' + d) < 135 ∧ (f d = 0 → ¬ least ≤ bs (27 * k + (at' + d))) ∧ (f d ≠ 0 → least ≤ bs (27 * k + (at' + d)) ∧ bs (27 * k + (at' + d)) = nI (f d - 1) ∧ f d ≤ 1000001)) (hhi : hi ≤ 6) {j : Nat} (hj : lo + j = hi + 1) {a b : Int32} {L : List Nat} (hl : L.length + 16 * j < 2 ^ 30) (h : WR w f0 L a b) : Sx (fX9_writesDays (nI c) (nI k) (nI at') (nI lo) (nI hi) least bs a w b) (fun z => WR w f0 (L ++ dyL c f j lo) z.1 z.2) := by
  unfold fX9_writesDays
  obtain ⟨n, hn⟩ := fuN (j + 1) (by omega)
  rw [hn, show n + (j + 1) = n + j + 1 by omega]
  exact Sx.b2 (wd4 hk hf hhi j n lo a b L (Nat.le_refl _) hj hl h) (fun _ _ h => Sx.mk h)
def cpC (β : Nat → Nat) (d : Nat) : Nat := if β (2 + d) = 0 then 0 else β (2 + d) + 1
/-- a bond's TERMS as a text -/
def LTx (β : Nat → Nat) : List Nat := [102] ++ dgR 7 (β 0) ++ [110] ++ dgR 7 (β 1) ++ dyL 99 (cpC β) 6 1 ++ dyL 107 (caL β) 6 0 ++ dyL 112 (puL β) 6 0 ++ [119] ++ dgR 7 (β 21) ++ [45] ++ dgR 7 (β 22) ++ [115] ++ dgR 7 (β 23) ++ [47] ++ dgR 7 (β 24) ++ [47] ++ dgR 7 (β 25) ++ [122] ++ dgR 7 (β 26)
def ltV (β : Nat → Nat) (i : Int32) : Int32 := if i = -1 then nI (LTx β).length else if i < nI (LTx β).length then wfd i 0 (LTx β) else -2
theorem ltW {k c at' lo hi : Nat} {bs : Nat → Int32} {least w f0 : Int32} {f : Nat → Nat} {a b : Int32} {L : List Nat} (hk : k < 5) (hf : ∀ d, lo ≤ d → d ≤ hi → 27 * k + (at' + d) < 135 ∧ (f d = 0 → ¬ least ≤ bs (27 * k + (at' + d))) ∧ (f d ≠ 0 → least ≤ bs (27 * k + (at' + d)) ∧ bs (27 * k + (at' + d)) = nI (f d - 1) ∧ f d ≤ 1000001)) (hhi : hi ≤ 6) (hj : lo + 6 = hi + 1) (hl : L.length + 96 < 2 ^ 30) (h : WR w f0 L a b) {x1 x3 x4 x5 : Int32} (e1 : x1 = nI c := by rfl) (e3 : x3 = nI at' := by rfl) (e4 : x4 = nI lo := by rfl) (e5 : x5 = nI hi := by rfl) : Sx (fX9_writesDays x1 (nI k) x3 x4 x5 least bs a w b) (fun z => WR w f0 (L ++ dyL c f 6 lo) z.1 z.2) := by
  subst e1; subst e3; subst e4; subst e5
  exact wd9 hk hf hhi hj hl h
theorem LTx_len (β : Nat → Nat) : (LTx β).length ≤ 400 := by
  unfold LTx
  have a0 := dgR_len 7 (β 0)
  have a1 := dgR_len 7 (β 1)
  have a2 := dgR_len 7 (β 21)
  have a3 := dgR_len 7 (β 22)
  have a4 := dgR_len 7 (β 23)
  have a5 := dgR_len 7 (β 24)
  have a6 := dgR_len 7 (β 25)
  have a7 := dgR_len 7 (β 26)
  have b1 := dyL_len 99 (cpC β) 6 1
  have b2 := dyL_len 107 (caL β) 6 0
  have b3 := dyL_len 112 (puL β) 6 0
  simp only [List.length_append, List.length_cons, List.length_nil]
  omega
theorem ir_le {e : Nat} (he : e ≤ 1000001) : (e = 0 → ¬ (0 : Int32) ≤ iM e) ∧ (e ≠ 0 → (0 : Int32) ≤ iM e ∧ iM e = nI (e - 1)) := by
  refine ⟨fun h => by rw [h]; decide, fun h => ?_⟩
  obtain ⟨n, rfl⟩ : ∃ n, e = n + 1 := ⟨e - 1, by omega⟩
  rw [iM_s, Nat.add_sub_cancel]
  exact ⟨nI_pos' (by omega), rfl⟩
theorem let9 {bs : Nat → Int32} {k : Nat} {β : Nat → Nat} (hk3 : k < 3) (hb : RB bs k β) (hK : BK β) {p2 : Int32} (hp : -1 ≤ p2) (a w b : Int32) : Sx (fX9_letter (nI k) p2 bs a w b) (fun z => z.1 = ltV β p2) := by
  have a0 := dgR_len 7 (β 0)
  have a1 := dgR_len 7 (β 1)
  have a2 := dgR_len 7 (β 21)
  have a3 := dgR_len 7 (β 22)
  have a4 := dgR_len 7 (β 23)
  have a5 := dgR_len 7 (β 24)
  have a6 := dgR_len 7 (β 25)
  have a7 := dgR_len 7 (β 26)
  have b1 := dyL_len 99 (cpC β) 6 1
  have b2 := dyL_len 107 (caL β) 6 0
  have b3 := dyL_len 112 (puL β) 6 0
  have f1 : ∀ d, 1 ≤ d → d ≤ 6 → 27 * k + (2 + d) < 135 ∧ (cpC β d = 0 → ¬ (1 : Int32) ≤ bs (27 * k + (2 + d))) ∧ (cpC β d ≠ 0 → (1 : Int32) ≤ bs (27 * k + (2 + d)) ∧ bs (27 * k + (2 + d)) = nI (cpC β d - 1) ∧ cpC β d ≤ 1000001) := by
    intro d h1 hd
    rw [hb.2 (2 + d) (by omega), rI_n (by omega)]
    unfold cpC
    by_cases g : β (2 + d) = 0
    · rw [if_pos g]
      exact ⟨by omega, fun _ => by rw [g]; decide, fun q => absurd rfl q⟩
    · have := hK.2.2.1 d h1 hd
      rw [if_neg g, Nat.add_sub_cancel]
      exact ⟨by omega, fun q => absurd q (by omega), fun _ => ⟨nI_le (a := 1) (by omega) (by omega), rfl, by omega⟩⟩
  have f2 : ∀ d, 0 ≤ d → d ≤ 5 → 27 * k + (9 + d) < 135 ∧ (caL β d = 0 → ¬ (0 : Int32) ≤ bs (27 * k + (9 + d))) ∧ (caL β d ≠ 0 → (0 : Int32) ≤ bs (27 * k + (9 + d)) ∧ bs (27 * k + (9 + d)) = nI (caL β d - 1) ∧ caL β d ≤ 1000001) := by
    intro d _ hd
    have e : bs (27 * k + (9 + d)) = iM (caL β d) := by
      rw [hb.2 (9 + d) (by omega), rI_m (by omega)]
      unfold caL
      rw [if_pos (by omega)]
    have hc := caL_le hK d
    have := ir_le hc
    rw [e]
    exact ⟨by omega, this.1, fun q => ⟨(this.2 q).1, (this.2 q).2, hc⟩⟩
  have f3 : ∀ d, 0 ≤ d → d ≤ 5 → 27 * k + (15 + d) < 135 ∧ (puL β d = 0 → ¬ (0 : Int32) ≤ bs (27 * k + (15 + d))) ∧ (puL β d ≠ 0 → (0 : Int32) ≤ bs (27 * k + (15 + d)) ∧ bs (27 * k + (15 + d)) = nI (puL β d - 1) ∧ puL β d ≤ 1000001) := by
    intro d _ hd
    have e : bs (27 * k + (15 + d)) = iM (puL β d) := by
      rw [hb.2 (15 + d) (by omega), rI_m (by omega)]
      unfold puL
      rw [if_pos (by omega)]
    have hc := puL_le hK d
    have := ir_le hc
    rw [e]
    exact ⟨by omega, this.1, fun q => ⟨(this.2 q).1, (this.2 q).2, hc⟩⟩
  unfold fX9_letter
  rw [isb9' hk3, bd1_mk, if_neg one0, if_pos hp]
  have w0 : WR p2 b [] 0 b := ⟨rfl, by unfold wfd; rw [if_neg]; intro q; exact absurd q.2 (Nat.not_lt_zero _)⟩
  refine Sx.b2 (wr1 w0 (by simp) 102) (fun c0 d0 h => ?_)
  refine Sx.e1 (of9n hb 0 (by omega) (by omega)) ?_
  refine Sx.b2 (wn9 (v := β 0) (by omega) (by simp only [List.length_append, List.length_cons, List.length_nil]; omega) h) (fun c1 d1 h => ?_)
  refine Sx.b2 (wr1 h (by simp only [List.length_append, List.length_cons, List.length_nil]; omega) 110) (fun c2 d2 h => ?_)
  refine Sx.e1 (of9n hb 1 (by omega) (by omega)) ?_
  refine Sx.b2 (wn9 (v := β 1) (by omega) (by simp only [List.length_append, List.length_cons, List.length_nil]; omega) h) (fun c3 d3 h => ?_)
  refine Sx.b2 (ltW (c := 99) (at' := 2) (lo := 1) (hi := 6) (f := cpC β) (by omega) f1 (by omega) (by omega) (by simp only [List.length_append, List.length_cons, List.length_nil]; omega) h) (fun c4 d4 h => ?_)
  refine Sx.b2 (ltW (c := 107) (at' := 9) (lo := 0) (hi := 5) (f := caL β) (by omega) f2 (by omega) (by omega) (by simp only [List.length_append, List.length_cons, List.length_nil]; omega) h) (fun c5 d5 h => ?_)
  refine Sx.b2 (ltW (c := 112) (at' := 15) (lo := 0) (hi := 5) (f := puL β) (by omega) f3 (by omega) (by omega) (by simp only [List.length_append, List.length_cons, List.length_nil]; omega) h) (fun c6 d6 h => ?_)
  refine Sx.b2 (wr1 h (by simp only [List.length_append, List.length_cons, List.length_nil]; omega) 119) (fun c7 d7 h => ?_)
  refine Sx.e1 (of9n hb 21 (by omega) (by omega)) ?_
  refine Sx.b2 (wn9 (v := β 21) (by omega) (by simp only [List.length_append, List.length_cons, List.length_nil]; omega) h) (fun c8 d8 h => ?_)
  refine Sx.b2 (wr1 h (by simp only [List.length_append, List.length_cons, List.length_nil]; omega) 45) (fun c9 d9 h => ?_)
  refine Sx.e1 (of9n hb 22 (by omega) (by omega)) ?_
  refine Sx.b2 (wn9 (v := β 22) (by omega) (by simp only [List.length_append, List.length_cons, List.length_nil]; omega) h) (fun c10 d10 h => ?_)
  refine Sx.b2 (wr1 h (by simp only [List.length_append, List.length_cons, List.length_nil]; omega) 115) (fun c11 d11 h => ?_)
  refine Sx.e1 (of9n hb 23 (by omega) (by omega)) ?_
  refine Sx.b2 (wn9 (v := β 23) (by omega) (by simp only [List.length_append, List.length_cons, List.length_nil]; omega) h) (fun c12 d12 h => ?_)
  refine Sx.b2 (wr1 h (by simp only [List.length_append, List.length_cons, List.length_nil]; omega) 47) (fun c13 d13 h => ?_)
  refine Sx.e1 (of9n hb 24 (by omega) (by omega)) ?_
  refine Sx.b2 (wn9 (v := β 24) (by omega) (by simp only [List.length_append, List.length_cons, List.length_nil]; omega) h) (fun c14 d14 h => ?_)
  refine Sx.b2 (wr1 h (by simp only [List.length_append, List.length_cons, List.length_nil]; omega) 47) (fun c15 d15 h => ?_)
  refine Sx.e1 (of9n hb 25 (by omega) (by omega)) ?_
  refine Sx.b2 (wn9 (v := β 25) (by omega) (by simp only [List.length_append, List.length_cons, List.length_nil]; omega) h) (fun c16 d16 h => ?_)
  refine Sx.b2 (wr1 h (by simp only [List.length_append, List.length_cons, List.length_nil]; omega) 122) (fun c17 d17 h => ?_)
  refine Sx.e1 (of9n hb 26 (by omega) (by omega)) ?_
  refine Sx.b2 (wn9 (v := β 26) (by omega) (by simp only [List.length_append, List.length_cons, List.length_nil]; omega) h) (fun c18 d18 h => ?_)
  have hl := LTx_len β
  obtain ⟨ea, eb⟩ : WR p2 b (LTx β) c18 d18 := h
  subst ea; subst eb
  refine Sx.b1 (P := fun z => z = ltV β p2) ?_ (fun z hz => Sx.mk hz)
  unfold ltV
  by_cases g : p2 = -1
  · rw [if_pos g, if_pos g]; exact Sx.mk rfl
  · rw [if_neg g, if_neg g]
    by_cases g2 : p2 < nI (LTx β).length
    · rw [if_pos g2]
      refine Sx.n (fun q => absurd g2 (Int32.not_lt.mpr q)) (Sx.mk ?_)
      have hp0 : 0 ≤ p2 := by
        rw [Int32.le_iff_toInt_le] at hp ⊢
        rw [Int32.toInt_zero]
        have h1 : (-1 : Int32).toInt = -1 := rfl
        have h2 : p2.toInt ≠ -1 := fun q => g (Int32.toInt_inj.mp q)
        omega
      have e := clamp_nI hp0
      have hlt : p2.toNatClampNeg < (LTx β).length := by
        rw [e] at g2
        obtain ⟨j, hj, e2⟩ := nI_of (x := p2) (Int32.not_lt.mpr hp0)
        rw [e2, nI_clamp hj] at g2 ⊢
        exact (nI_ltI hj (by omega)).mp g2
      unfold wfd
      rw [if_pos ⟨hp0, hlt⟩, if_pos ⟨hp0, hlt⟩]
    · rw [if_neg g2]
      exact Sx.p (Int32.not_lt.mp g2) (Sx.mk rfl)
theorem let9n {bs : Nat → Int32} {x p2 : Int32} (h : ¬ (inr x 0 2 ∧ -1 ≤ p2)) (a w b : Int32) : fX9_letter x p2 bs a w b = some (-1, a, w, b) := by
  unfold fX9_letter
  by_cases g : inr x 0 2
  · rw [isb9y g, bd1_mk, if_neg one0, if_neg (fun q => h ⟨g, q⟩)]
  · rw [isb9n g, bd1_mk, if_pos rfl]
