section
/-! pure: the tape (own rows) -/
def sB (v : Nat) : Int32 := (nI v).toInt8.toInt32
theorem toI8 (y : Int32) : y.toInt8 = (nI (y.toBitVec.toNat % 256)).toInt8 := by
  have h : y = nI y.toBitVec.toNat := by
    refine Int32.toBitVec_inj.mp ?_
    refine BitVec.eq_of_toNat_eq ?_
    rw [pk_tn y.toBitVec.isLt]
  have e : ∀ n : Nat, (nI n).toInt8 = Int8.ofNat n := fun n => Int32.toInt8_ofNat
  rw [e]
  conv => lhs; rw [h, e]
  refine Int8.toBitVec_inj.mp ?_
  refine BitVec.eq_of_toNat_eq ?_
  show y.toBitVec.toNat % 2 ^ 8 = y.toBitVec.toNat % 256 % 2 ^ 8
  rw [Nat.mod_mod_of_dvd _ (by decide)]
theorem byC (y : Int32) : y &&& 255 = nI (y.toBitVec.toNat % 256) := pk_and y 8 rfl
theorem byM (y : Int32) : vp_nar .byte (Int8.toInt32 (Int32.toInt8 y)) = sB (y.toBitVec.toNat % 256) := by
  rw [pk_vb, toI8]; rfl
/-- what both tapes hold -/
abbrev TQ (n : Nat) (v : Nat → Nat) (size : Int32) (bytes tape : Nat → Int32) (taped : Int32) : Prop := n ≤ 200 ∧ size = nI n ∧ taped = nI n ∧ ∀ i, i < n → v i < 256 ∧ bytes i = nI (v i) ∧ tape i = sB (v i)
def vup (v : Nat → Nat) (n x : Nat) : Nat → Nat := fun i => if i = n then x else v i
theorem ap8 (x s : Int32) {m n : Nat} (hn : n < 200) (hs : ¬ s < 0) (by8 : Nat → Int32) : lpX6_append_3 x (m + 1) s (nI n) by8 = lpX6_append_3 x m (s + (-8)) (nI (n + 1)) (upd by8 n (nI ((x >>> (s &&& 31)).toBitVec.toNat % 256))) := by
  rw [lpX6_append_3.eq_2, if_neg hs, if_neg (show ¬ (200 : Int32) ≤ nI n from nI_ge (b := 200) hn (by omega)), og32 hn (by omega), nm_mk, nm_mk, nm_mk, nI_clamp (by omega), byC, nI_1]
theorem ap9 (x s : Int32) {m n : Nat} (hn : n < 200) (hs : ¬ s < 0) (tp : Nat → Int32) : lpX9_typed4_2 x (m + 1) s tp (nI n) = lpX9_typed4_2 x m (s + (-1)) (upd tp n (sB ((x >>> ((8 * s) &&& 31)).toBitVec.toNat % 256))) (nI (n + 1)) := by
  rw [lpX9_typed4_2.eq_2, if_neg hs, og32 hn (by omega), nm_mk, nm_mk, nm_mk, nI_clamp (by omega), byM, nI_1]
theorem TQ.up {n : Nat} {v : Nat → Nat} {by8 tp : Nat → Int32} (h : ∀ i, i < n → v i < 256 ∧ by8 i = nI (v i) ∧ tp i = sB (v i)) (y : Int32) : ∀ i, i < n + 1 → vup v n (y.toBitVec.toNat % 256) i < 256 ∧ upd by8 n (nI (y.toBitVec.toNat % 256)) i = nI (vup v n (y.toBitVec.toNat % 256) i) ∧ upd tp n (sB (y.toBitVec.toNat % 256)) i = sB (vup v n (y.toBitVec.toNat % 256) i) := by
  intro i hi
  rw [upS, upS]
  unfold vup
  by_cases e : i = n
  · rw [if_pos e, if_pos e, if_pos e]
    exact ⟨Nat.mod_lt _ (by omega), rfl, rfl⟩
  · rw [if_neg e, if_neg e, if_neg e]
    exact h i (by omega)
theorem ap1 (x : Int32) {n : Nat} {v : Nat → Nat} {by8 tp : Nat → Int32} (hn : n + 4 ≤ 200) (h : ∀ i, i < n → v i < 256 ∧ by8 i = nI (v i) ∧ tp i = sB (v i)) : ∃ (by8' tp' : Nat → Int32) (v' : Nat → Nat), fX6_append x (nI n) by8 = some (nI (n + 4), by8') ∧ fX9_typed4 x tp (nI n) = some (tp', nI (n + 4)) ∧ ∀ i, i < n + 4 → v' i < 256 ∧ by8' i = nI (v' i) ∧ tp' i = sB (v' i) := by
  obtain ⟨m, hm⟩ := fuN 5 (by omega)
  have h1 := TQ.up h (x >>> ((24 : Int32) &&& 31))
  have h2 := TQ.up h1 (x >>> ((16 : Int32) &&& 31))
  have h3 := TQ.up h2 (x >>> ((8 : Int32) &&& 31))
  have h4 := TQ.up h3 (x >>> ((0 : Int32) &&& 31))
  refine ⟨_, _, _, ?_, ?_, h4⟩
  · unfold fX6_append
    rw [hm, ap8 x 24 (by omega) (by decide), show (24 : Int32) + (-8) = 16 by decide, ap8 x 16 (by omega) (by decide), show (16 : Int32) + (-8) = 8 by decide, ap8 x 8 (by omega) (by decide), show (8 : Int32) + (-8) = 0 by decide, ap8 x 0 (by omega) (by decide), lpX6_append_3.eq_2, if_pos (by decide), bd2_mk]
  · unfold fX9_typed4
    rw [hm, ap9 x 3 (by omega) (by decide), show (3 : Int32) + (-1) = 2 by decide, ap9 x 2 (by omega) (by decide), show (2 : Int32) + (-1) = 1 by decide, ap9 x 1 (by omega) (by decide), show (1 : Int32) + (-1) = 0 by decide, ap9 x 0 (by omega) (by decide), lpX9_typed4_2.eq_2, if_pos (by decide), bd2_mk]
    rw [show ((8 : Int32) * 3) &&& 31 = 24 &&& 31 by decide, show ((8 : Int32) * 2) &&& 31 = 16 &&& 31 by decide, show ((8 : Int32) * 1) &&& 31 = 8 &&& 31 by decide, show ((8 : Int32) * 0) &&& 31 = 0 &&& 31 by decide]
abbrev TPQ (size : Int32) (bytes tape : Nat → Int32) (taped : Int32) : Prop := ∃ (n : Nat) (v : Nat → Nat), TQ n v size bytes tape taped
theorem q_feed {size taped : Int32} {bytes tape : Nat → Int32} (h : TPQ size bytes tape taped) (p1 p2 p3 p4 p5 : Int32) : Sx2 (fX8_feed p1 p2 p3 p4 p5 size bytes) (fX9_feed p1 p2 p3 p4 p5 tape taped) (fun s t => TPQ s.1 s.2 t.1 t.2) := by
  obtain ⟨n, v, hn, rfl, rfl, hv⟩ := h
  by_cases g : n + 20 ≤ 200
  · obtain ⟨b1, t1, v1, e1, f1, h1⟩ := ap1 p1 (by omega) hv
    obtain ⟨b2, t2, v2, e2, f2, h2⟩ := ap1 p2 (by omega) h1
    obtain ⟨b3, t3, v3, e3, f3, h3⟩ := ap1 p3 (by omega) h2
    obtain ⟨b4, t4, v4, e4, f4, h4⟩ := ap1 p4 (by omega) h3
    obtain ⟨b5, t5, v5, e5, f5, h5⟩ := ap1 p5 (by omega) h4
    refine Sx2.mk (r := nI (n + 4 + 4 + 4 + 4 + 4)) (s1 := (nI (n + 4 + 4 + 4 + 4 + 4), b5)) (s2 := (t5, nI (n + 4 + 4 + 4 + 4 + 4))) ?_ ?_ ⟨_, v5, by omega, rfl, rfl, h5⟩
    · unfold fX8_feed fX6_size
      rw [bd1_mk, i_20, nI_add, if_pos (show nI (n + 20) ≤ (200 : Int32) from nI_le (b := 200) g (by omega)), e1, bd2_mk, e2, bd2_mk, e3, bd2_mk, e4, bd2_mk, e5, bd2_mk, bd1_mk]
    · unfold fX9_feed
      rw [i_20, nI_add, if_pos (show nI (n + 20) ≤ (200 : Int32) from nI_le (b := 200) g (by omega)), f1, bd2_mk, f2, bd2_mk, f3, bd2_mk, f4, bd2_mk, f5, bd2_mk]
  · refine Sx2.mk (r := -1) (s1 := (nI n, bytes)) (s2 := (tape, nI n)) ?_ ?_ ⟨n, v, hn, rfl, rfl, hv⟩
    · unfold fX8_feed fX6_size
      rw [bd1_mk, i_20, nI_add, if_neg (show ¬ nI (n + 20) ≤ (200 : Int32) from nI_ge (a := 200) (by omega) (by omega))]
    · unfold fX9_feed
      rw [i_20, nI_add, if_neg (show ¬ nI (n + 20) ≤ (200 : Int32) from nI_ge (a := 200) (by omega) (by omega))]
end
section
/-! pure: the reference's letter (own rows) -/
def wfd (w f0 : Int32) (L : List Nat) : Int32 := if 0 ≤ w ∧ w.toNatClampNeg < L.length then nI (L.getD w.toNatClampNeg 0) else f0
abbrev WR (w f0 : Int32) (L : List Nat) (a b : Int32) : Prop := a = nI L.length ∧ b = wfd w f0 L
theorem clamp_nI {w : Int32} (h : 0 ≤ w) : w = nI w.toNatClampNeg := by
  obtain ⟨j, hj, e⟩ := nI_of (x := w) (Int32.not_lt.mpr h)
  rw [e, nI_clamp hj]
theorem wr1 {w f0 a b : Int32} {L : List Nat} (h : WR w f0 L a b) (hl : L.length < 2 ^ 30) (c : Nat) : Sx (fX9_writes (nI c) a w b) (fun z => WR w f0 (L ++ [c]) z.1 z.2) := by
  obtain ⟨rfl, rfl⟩ := h
  unfold fX9_writes
  refine Sx.e1 (ite_so _ _) ?_
  rw [nm_mk, nI_1]
  refine Sx.mk ⟨by rw [List.length_append]; rfl, ?_⟩
  unfold wfd
  rw [List.length_append]
  by_cases e : nI L.length = w
  · subst e
    rw [if_pos rfl, nI_clamp (by omega), if_pos ⟨nI_pos' (by omega), by simp⟩]
    simp
  · rw [if_neg e]
    by_cases g : 0 ≤ w ∧ w.toNatClampNeg < L.length
    · rw [if_pos g, if_pos ⟨g.1, by simp; omega⟩]
      congr 1
      rw [List.getD_eq_getElem?_getD, List.getD_eq_getElem?_getD, List.getElem?_append_left g.2]
    · rw [if_neg g, if_neg]
      intro q
      have q2 := q.2
      simp at q2
      have h1 : ¬ w.toNatClampNeg < L.length := fun z => g ⟨q.1, z⟩
      have h2 : w.toNatClampNeg = L.length := by omega
      exact e (by rw [← h2]; exact (clamp_nI q.1).symm)
theorem Sx.w {o : Option (Int32 × Int32)} {w f0 : Int32} {L M : List Nat} (h : Sx o (fun z => WR w f0 L z.1 z.2)) (e : L = M) : Sx o (fun z => WR w f0 M z.1 z.2) := by subst e; exact h
def dgR : Nat → Nat → List Nat
  | 0, _ => []
  | k + 1, v => (if 10 ^ k ≤ v ∨ k = 0 then [48 + v / 10 ^ k % 10] else []) ++ dgR k v
theorem dgR_len (k v : Nat) : (dgR k v).length ≤ k := by
  induction k with
  | zero => exact Nat.le_refl 0
  | succ k ih =>
    unfold dgR
    rw [List.length_append]
    split
    · simp; omega
    · simp; omega
theorem p10 : ∀ k, k < 7 → 1 ≤ 10 ^ k ∧ 10 ^ k ≤ 1000000 ∧ 10 ^ (k + 1) / 10 = 10 ^ k ∧ (10 ^ k = 1 ↔ k = 0) := by decide +kernel
theorem wn3 {w f0 : Int32} {v : Nat} (hv : v < 10000000) : ∀ (k n : Nat) (a b : Int32) (L : List Nat), k ≤ 7 → L.length + k < 2 ^ 30 → WR w f0 L a b → Sx (lpX9_writesNumber_3 (nI v) w (n + k + 1) (nI (10 ^ k / 10)) a b) (fun z => WR w f0 (L ++ dgR k v) z.1 z.2) := by
  intro k
  induction k with
  | zero =>
    intro n a b L hk hl h
    rw [lpX9_writesNumber_3.eq_2]
    refine Sx.p (by decide) (Sx.mk ?_)
    show WR w f0 (L ++ []) a b
    rw [List.append_nil]; exact h
  | succ k ih =>
    intro n a b L hk hl h
    obtain ⟨q1, q2, q3, q4⟩ := p10 k (by omega)
    rw [lpX9_writesNumber_3.eq_2, q3]
    refine Sx.n (nI_nle (by omega) (by omega)) ?_
    have hd : nI (10 ^ k) / 10 = nI (10 ^ k / 10) := by rw [i_10, pk_div (by omega) (by omega) (by omega)]
    have hz : nzI (nI (10 ^ k)) = true := by unfold nzI; rw [decide_eq_false (nI_ne0 (by omega) (by omega))]; rfl
    have hc : (48 : Int32) + ((nI v / nI (10 ^ k)) - (nI v / nI (10 ^ k)) / 10 * 10) = nI (48 + v / 10 ^ k % 10) := by
      have hle : v / 10 ^ k ≤ v := Nat.div_le_self _ _
      rw [pk_div (by omega) (by omega) (by omega), i_10, pk_rem (by omega) (by omega) (by omega), i_48, nI_add]
    refine Sx.b2 (P := fun z => WR w f0 (L ++ (if 10 ^ k ≤ v ∨ k = 0 then [48 + v / 10 ^ k % 10] else [])) z.1 z.2) ?_ ?_
    · by_cases g : 10 ^ k ≤ v
      · refine Sx.p (nI_le g (by omega)) (Sx.og hz ?_)
        rw [hc, if_pos (Or.inl g)]
        exact Sx.b2 (wr1 h (by omega) _) (fun _ _ h => Sx.mk h)
      · refine Sx.n (nI_ge (by omega) (by omega)) ?_
        by_cases g0 : k = 0
        · refine Sx.p (by rw [g0]; rfl) (Sx.og hz ?_)
          rw [hc, if_pos (Or.inr g0)]
          exact Sx.b2 (wr1 h (by omega) _) (fun _ _ h => Sx.mk h)
        · refine Sx.n (fun q => g0 (q4.mp ((nI_eq (by omega) (by omega)).mp q))) (Sx.mk ?_)
          rw [if_neg (by omega), List.append_nil]; exact h
    · intro a' b' h'
      rw [nm_mk, hd, show n + (k + 1) = n + k + 1 by omega]
      have hlen : (L ++ (if 10 ^ k ≤ v ∨ k = 0 then [48 + v / 10 ^ k % 10] else [])).length ≤ L.length + 1 := by
        rw [List.length_append]; split <;> simp
      refine (ih n a' b' _ (by omega) (by omega) h').w ?_
      rw [List.append_assoc]; rfl
theorem wn9 {w f0 : Int32} {v : Nat} (hv : v < 10000000) {a b : Int32} {L : List Nat} (hl : L.length + 7 < 2 ^ 30) (h : WR w f0 L a b) : Sx (fX9_writesNumber (nI v) a w b) (fun z => WR w f0 (L ++ dgR 7 v) z.1 z.2) := by
  unfold fX9_writesNumber
  obtain ⟨n, hn⟩ := fuN 8 (by omega)
  rw [hn]
  exact Sx.b2 (wn3 hv 7 n a b L (by omega) (by omega) h) (fun _ _ h => Sx.mk h)
/-- the CLAUSES of the DAYS from d on, j of them; f: the number of a day one more, 0: none -/
def dyL (c : Nat) (f : Nat → Nat) : Nat → Nat → List Nat
  | 0, _ => []
  | j + 1, d => (if f d = 0 then [] else [c] ++ (dgR 7 d ++ ([58] ++ dgR 7 (f d - 1)))) ++ dyL c f j (d + 1)
theorem dyL_len (c : Nat) (f : Nat → Nat) : ∀ j d, (dyL c f j d).length ≤ 16 * j := by
  intro j
  induction j with
  | zero => intro d; exact Nat.le_refl 0
  | succ j ih =>
    intro d
    unfold dyL
    have h1 := ih (d + 1)
    have h2 := dgR_len 7 d
    have h3 := dgR_len 7 (f d - 1)
    rw [List.length_append]
    split
    · simp; omega
    · simp; omega
theorem wd4 {bs : Nat → Int32} {k c at' d0 hi : Nat} {least w f0 : Int32} {f : Nat → Nat} (hk : k < 5) (hf : ∀ d, d0 ≤ d → d ≤ hi → 27 * k + (at' + d) < 135 ∧ (f d = 0 → ¬ least ≤ bs (27 * k + (at' + d))) ∧ (f d ≠ 0 → least ≤ bs (27 * k + (at' + d)) ∧ bs (27 * k + (at' + d)) = nI (f d - 1) ∧ f d ≤ 1000001)) (hhi : hi ≤ 6) : ∀ (j n d : Nat) (a b : Int32) (L : List Nat), d0 ≤ d → d + j = hi + 1 → L.length + 16 * j < 2 ^ 30 → WR w f0 L a b → Sx (lpX9_writesDays_4 (nI c) (nI k) (nI at') (nI hi) least bs w (n + j + 1) (nI d) a b) (fun z => WR w f0 (L ++ dyL c f j d) z.1 z.2) := by
  intro j
  induction j with
  | zero =>
    intro n d a b L h0 hd hl h
    rw [lpX9_writesDays_4.eq_2]
    refine Sx.p (nI_lt (by omega) (by omega)) (Sx.mk ?_)
    show WR w f0 (L ++ []) a b
    rw [List.append_nil]; exact h
  | succ j ih =>
    intro n d a b L h0 hd hl h
    obtain ⟨f1, f2, f3⟩ := hf d h0 (by omega)
    have hof : fX9_of (nI k) (nI at' + nI d) bs = some (bs (27 * k + (at' + d))) := by
      unfold fX9_of
      rw [i_27, pk_mul, nI_add, nI_add, og32 (by omega) (by omega), nI_clamp (by omega)]
    rw [lpX9_writesDays_4.eq_2]
    refine Sx.n (nI_nlt (by omega) (by omega)) (Sx.e1 hof ?_)
    have l1 := dgR_len 7 d
    refine Sx.b2 (P := fun z => WR w f0 (L ++ (if f d = 0 then [] else [c] ++ (dgR 7 d ++ ([58] ++ dgR 7 (f d - 1))))) z.1 z.2) ?_ ?_
    · by_cases g : f d = 0
      · refine Sx.n (f2 g) (Sx.mk ?_)
        rw [if_pos g, List.append_nil]; exact h
      · obtain ⟨g1, g2, g3⟩ := f3 g
        refine Sx.p g1 ?_
        rw [if_neg g]
        refine Sx.b2 (wr1 h (by omega) c) (fun a1 b1 h1 => ?_)
        refine Sx.b2 (wn9 (v := d) (by omega) (by simp; omega) h1) (fun a2 b2 h2 => ?_)
        refine Sx.b2 (wr1 h2 (by simp; omega) 58) (fun a3 b3 h3 => ?_)
        refine Sx.e1 hof ?_
        rw [g2]
        refine Sx.b2 (wn9 (v := f d - 1) (by omega) (by simp; omega) h3) (fun a4 b4 h4 => Sx.mk ?_)
        have e : L ++ [c] ++ dgR 7 d ++ [58] ++ dgR 7 (f d - 1) = L ++ ([c] ++ (dgR 7 d ++ ([58] ++ dgR 7 (f d - 1)))) := by simp
        rw [← e]; exact h4
    · intro a' b' h'
      rw [nm_mk, nI_1, show n + (j + 1) = n + j + 1 by omega]
      have hlen : (L ++ (if f d = 0 then [] else [c] ++ (dgR 7 d ++ ([58] ++ dgR 7 (f d - 1))))).length ≤ L.length + 16 := by
        have l2 := dgR_len 7 (f d - 1)
        rw [List.length_append]
        split
        · simp
        · simp; omega
      refine (ih n (d + 1) a' b' _ (by omega) (by omega) (by omega) h').w ?_
      rw [List.append_assoc]; rfl
theorem wd9 {bs : Nat → Int32} {k c at' lo hi : Nat} {least w f0 : Int32} {f : Nat → Nat} (hk : k < 5) (hf : ∀ d, lo ≤ d → d ≤ hi → 27 * k + (at' + d) < 135 ∧ (f d = 0 → ¬ least ≤ bs (27 * k + (at' + d))) ∧ (f d ≠ 0 → least ≤ bs (27 * k + (at' + d)) ∧ bs (27 * k + (at' + d)) = nI (f d - 1) ∧ f d ≤ 1000001)) (hhi : hi ≤ 6) {j : Nat} (hj : lo + j = hi + 1) {a b : Int32} {L : List Nat} (hl : L.length + 16 * j < 2 ^ 30) (h : WR w f0 L a b) : Sx (fX9_writesDays (nI c) (nI k) (nI at') (nI lo) (nI hi) least bs a w b) (fun z => WR w f0 (L ++ dyL c f j lo) z.1 z.2) := by
  unfold fX9_writesDays
  obtain ⟨n, hn⟩ := fuN (j + 1) (by omega)
  rw [hn, show n + (j + 1) = n + j + 1 by omega]
  exact Sx.b2 (wd4 hk hf hhi j n lo a b L (Nat.le_refl _) hj hl h) (fun _ _ h => Sx.mk h)
def cpC (β : Nat → Nat) (d : Nat) : Nat := if β (2 + d) = 0 then 0 else β (2 + d) + 1
/-- a bond's TERMS as a text -/
def LTx (β : Nat → Nat) : List Nat := [102] ++ dgR 7 (β 0) ++ [110] ++ dgR 7 (β 1) ++ dyL 99 (cpC β) 6 1 ++ dyL 107 (caL β) 6 0 ++ dyL 112 (puL β) 6 0 ++ [119] ++ dgR 7 (β 21) ++ [45] ++ dgR 7 (β 22) ++ [115] ++ dgR 7 (β 23) ++ [47] ++ dgR 7 (β 24) ++ [47] ++ dgR 7 (β 25) ++ [122] ++ dgR 7 (β 26)
def ltV (β : Nat → Nat) (i : Int32) : Int32 := if i = -1 then nI (LTx β).length else if i < nI (LTx β).length then wfd i 0 (LTx β) else -2
theorem ltW {k c at' lo hi : Nat} {bs : Nat → Int32} {least w f0 : Int32} {f : Nat → Nat} {a b : Int32} {L : List Nat} (hk : k < 5) (hf : ∀ d, lo ≤ d → d ≤ hi → 27 * k + (at' + d) < 135 ∧ (f d = 0 → ¬ least ≤ bs (27 * k + (at' + d))) ∧ (f d ≠ 0 → least ≤ bs (27 * k + (at' + d)) ∧ bs (27 * k + (at' + d)) = nI (f d - 1) ∧ f d ≤ 1000001)) (hhi : hi ≤ 6) (hj : lo + 6 = hi + 1) (hl : L.length + 96 < 2 ^ 30) (h : WR w f0 L a b) {x1 x3 x4 x5 : Int32} (e1 : x1 = nI c := by rfl) (e3 : x3 = nI at' := by rfl) (e4 : x4 = nI lo := by rfl) (e5 : x5 = nI hi := by rfl) : Sx (fX9_writesDays x1 (nI k) x3 x4 x5 least bs a w b) (fun z => WR w f0 (L ++ dyL c f 6 lo) z.1 z.2) := by
  subst e1; subst e3; subst e4; subst e5
  exact wd9 hk hf hhi hj hl h
theorem LTx_len (β : Nat → Nat) : (LTx β).length ≤ 400 := by
  unfold LTx
  have a0 := dgR_len 7 (β 0)
  have a1 := dgR_len 7 (β 1)
  have a2 := dgR_len 7 (β 21)
  have a3 := dgR_len 7 (β 22)
  have a4 := dgR_len 7 (β 23)
  have a5 := dgR_len 7 (β 24)
  have a6 := dgR_len 7 (β 25)
  have a7 := dgR_len 7 (β 26)
  have b1 := dyL_len 99 (cpC β) 6 1
  have b2 := dyL_len 107 (caL β) 6 0
  have b3 := dyL_len 112 (puL β) 6 0
  simp only [List.length_append, List.length_cons, List.length_nil]
  omega
theorem ir_le {e : Nat} (he : e ≤ 1000001) : (e = 0 → ¬ (0 : Int32) ≤ iM e) ∧ (e ≠ 0 → (0 : Int32) ≤ iM e ∧ iM e = nI (e - 1)) := by
  refine ⟨fun h => by rw [h]; decide, fun h => ?_⟩
  obtain ⟨n, rfl⟩ : ∃ n, e = n + 1 := ⟨e - 1, by omega⟩
  rw [iM_s, Nat.add_sub_cancel]
  exact ⟨nI_pos' (by omega), rfl⟩
theorem let9 {bs : Nat → Int32} {k : Nat} {β : Nat → Nat} (hk3 : k < 3) (hb : RB bs k β) (hK : BK β) {p2 : Int32} (hp : -1 ≤ p2) (a w b : Int32) : Sx (fX9_letter (nI k) p2 bs a w b) (fun z => z.1 = ltV β p2) := by
  have a0 := dgR_len 7 (β 0)
  have a1 := dgR_len 7 (β 1)
  have a2 := dgR_len 7 (β 21)
  have a3 := dgR_len 7 (β 22)
  have a4 := dgR_len 7 (β 23)
  have a5 := dgR_len 7 (β 24)
  have a6 := dgR_len 7 (β 25)
  have a7 := dgR_len 7 (β 26)
  have b1 := dyL_len 99 (cpC β) 6 1
  have b2 := dyL_len 107 (caL β) 6 0
  have b3 := dyL_len 112 (puL β) 6 0
  have f1 : ∀ d, 1 ≤ d → d ≤ 6 → 27 * k + (2 + d) < 135 ∧ (cpC β d = 0 → ¬ (1 : Int32) ≤ bs (27 * k + (2 + d))) ∧ (cpC β d ≠ 0 → (1 : Int32) ≤ bs (27 * k + (2 + d)) ∧ bs (27 * k + (2 + d)) = nI (cpC β d - 1) ∧ cpC β d ≤ 1000001) := by
    intro d h1 hd
    rw [hb.2 (2 + d) (by omega), rI_n (by omega)]
    unfold cpC
    by_cases g : β (2 + d) = 0
    · rw [if_pos g]
      exact ⟨by omega, fun _ => by rw [g]; decide, fun q => absurd rfl q⟩
    · have := hK.2.2.1 d h1 hd
      rw [if_neg g, Nat.add_sub_cancel]
      exact ⟨by omega, fun q => absurd q (by omega), fun _ => ⟨nI_le (a := 1) (by omega) (by omega), rfl, by omega⟩⟩
  have f2 : ∀ d, 0 ≤ d → d ≤ 5 → 27 * k + (9 + d) < 135 ∧ (caL β d = 0 → ¬ (0 : Int32) ≤ bs (27 * k + (9 + d))) ∧ (caL β d ≠ 0 → (0 : Int32) ≤ bs (27 * k + (9 + d)) ∧ bs (27 * k + (9 + d)) = nI (caL β d - 1) ∧ caL β d ≤ 1000001) := by
    intro d _ hd
    have e : bs (27 * k + (9 + d)) = iM (caL β d) := by
      rw [hb.2 (9 + d) (by omega), rI_m (by omega)]
      unfold caL
      rw [if_pos (by omega)]
    have hc := caL_le hK d
    have := ir_le hc
    rw [e]
    exact ⟨by omega, this.1, fun q => ⟨(this.2 q).1, (this.2 q).2, hc⟩⟩
  have f3 : ∀ d, 0 ≤ d → d ≤ 5 → 27 * k + (15 + d) < 135 ∧ (puL β d = 0 → ¬ (0 : Int32) ≤ bs (27 * k + (15 + d))) ∧ (puL β d ≠ 0 → (0 : Int32) ≤ bs (27 * k + (15 + d)) ∧ bs (27 * k + (15 + d)) = nI (puL β d - 1) ∧ puL β d ≤ 1000001) := by
    intro d _ hd
    have e : bs (27 * k + (15 + d)) = iM (puL β d) := by
      rw [hb.2 (15 + d) (by omega), rI_m (by omega)]
      unfold puL
      rw [if_pos (by omega)]
    have hc := puL_le hK d
    have := ir_le hc
    rw [e]
    exact ⟨by omega, this.1, fun q => ⟨(this.2 q).1, (this.2 q).2, hc⟩⟩
  unfold fX9_letter
  rw [isb9' hk3, bd1_mk, if_neg one0, if_pos hp]
  have w0 : WR p2 b [] 0 b := ⟨rfl, by unfold wfd; rw [if_neg]; intro q; exact absurd q.2 (Nat.not_lt_zero _)⟩
  refine Sx.b2 (wr1 w0 (by simp) 102) (fun c0 d0 h => ?_)
  refine Sx.e1 (of9n hb 0 (by omega) (by omega)) ?_
  refine Sx.b2 (wn9 (v := β 0) (by omega) (by simp only [List.length_append, List.length_cons, List.length_nil]; omega) h) (fun c1 d1 h => ?_)
  refine Sx.b2 (wr1 h (by simp only [List.length_append, List.length_cons, List.length_nil]; omega) 110) (fun c2 d2 h => ?_)
  refine Sx.e1 (of9n hb 1 (by omega) (by omega)) ?_
  refine Sx.b2 (wn9 (v := β 1) (by omega) (by simp only [List.length_append, List.length_cons, List.length_nil]; omega) h) (fun c3 d3 h => ?_)
  refine Sx.b2 (ltW (c := 99) (at' := 2) (lo := 1) (hi := 6) (f := cpC β) (by omega) f1 (by omega) (by omega) (by simp only [List.length_append, List.length_cons, List.length_nil]; omega) h) (fun c4 d4 h => ?_)
  refine Sx.b2 (ltW (c := 107) (at' := 9) (lo := 0) (hi := 5) (f := caL β) (by omega) f2 (by omega) (by omega) (by simp only [List.length_append, List.length_cons, List.length_nil]; omega) h) (fun c5 d5 h => ?_)
  refine Sx.b2 (ltW (c := 112) (at' := 15) (lo := 0) (hi := 5) (f := puL β) (by omega) f3 (by omega) (by omega) (by simp only [List.length_append, List.length_cons, List.length_nil]; omega) h) (fun c6 d6 h => ?_)
  refine Sx.b2 (wr1 h (by simp only [List.length_append, List.length_cons, List.length_nil]; omega) 119) (fun c7 d7 h => ?_)
  refine Sx.e1 (of9n hb 21 (by omega) (by omega)) ?_
  refine Sx.b2 (wn9 (v := β 21) (by omega) (by simp only [List.length_append, List.length_cons, List.length_nil]; omega) h) (fun c8 d8 h => ?_)
  refine Sx.b2 (wr1 h (by simp only [List.length_append, List.length_cons, List.length_nil]; omega) 45) (fun c9 d9 h => ?_)
  refine Sx.e1 (of9n hb 22 (by omega) (by omega)) ?_
  refine Sx.b2 (wn9 (v := β 22) (by omega) (by simp only [List.length_append, List.length_cons, List.length_nil]; omega) h) (fun c10 d10 h => ?_)
  refine Sx.b2 (wr1 h (by simp only [List.length_append, List.length_cons, List.length_nil]; omega) 115) (fun c11 d11 h => ?_)
  refine Sx.e1 (of9n hb 23 (by omega) (by omega)) ?_
  refine Sx.b2 (wn9 (v := β 23) (by omega) (by simp only [List.length_append, List.length_cons, List.length_nil]; omega) h) (fun c12 d12 h => ?_)
  refine Sx.b2 (wr1 h (by simp only [List.length_append, List.length_cons, List.length_nil]; omega) 47) (fun c13 d13 h => ?_)
  refine Sx.e1 (of9n hb 24 (by omega) (by omega)) ?_
  refine Sx.b2 (wn9 (v := β 24) (by omega) (by simp only [List.length_append, List.length_cons, List.length_nil]; omega) h) (fun c14 d14 h => ?_)
  refine Sx.b2 (wr1 h (by simp only [List.length_append, List.length_cons, List.length_nil]; omega) 47) (fun c15 d15 h => ?_)
  refine Sx.e1 (of9n hb 25 (by omega) (by omega)) ?_
  refine Sx.b2 (wn9 (v := β 25) (by omega) (by simp only [List.length_append, List.length_cons, List.length_nil]; omega) h) (fun c16 d16 h => ?_)
  refine Sx.b2 (wr1 h (by simp only [List.length_append, List.length_cons, List.length_nil]; omega) 122) (fun c17 d17 h => ?_)
  refine Sx.e1 (of9n hb 26 (by omega) (by omega)) ?_
  refine Sx.b2 (wn9 (v := β 26) (by omega) (by simp only [List.length_append, List.length_cons, List.length_nil]; omega) h) (fun c18 d18 h => ?_)
  have hl := LTx_len β
  obtain ⟨ea, eb⟩ : WR p2 b (LTx β) c18 d18 := h
  subst ea; subst eb
  refine Sx.b1 (P := fun z => z = ltV β p2) ?_ (fun z hz => Sx.mk hz)
  unfold ltV
  by_cases g : p2 = -1
  · rw [if_pos g, if_pos g]; exact Sx.mk rfl
  · rw [if_neg g, if_neg g]
    by_cases g2 : p2 < nI (LTx β).length
    · rw [if_pos g2]
      refine Sx.n (fun q => absurd g2 (Int32.not_lt.mpr q)) (Sx.mk ?_)
      have hp0 : 0 ≤ p2 := by
        rw [Int32.le_iff_toInt_le] at hp ⊢
        rw [Int32.toInt_zero]
        have h1 : (-1 : Int32).toInt = -1 := rfl
        have h2 : p2.toInt ≠ -1 := fun q => g (Int32.toInt_inj.mp q)
        omega
      have e := clamp_nI hp0
      have hlt : p2.toNatClampNeg < (LTx β).length := by
        rw [e] at g2
        obtain ⟨j, hj, e2⟩ := nI_of (x := p2) (Int32.not_lt.mpr hp0)
        rw [e2, nI_clamp hj] at g2 ⊢
        exact (nI_ltI hj (by omega)).mp g2
      unfold wfd
      rw [if_pos ⟨hp0, hlt⟩, if_pos ⟨hp0, hlt⟩]
    · rw [if_neg g2]
      exact Sx.p (Int32.not_lt.mp g2) (Sx.mk rfl)
theorem let9n {bs : Nat → Int32} {x p2 : Int32} (h : ¬ (inr x 0 2 ∧ -1 ≤ p2)) (a w b : Int32) : fX9_letter x p2 bs a w b = some (-1, a, w, b) := by
  unfold fX9_letter
  by_cases g : inr x 0 2
  · rw [isb9y g, bd1_mk, if_neg one0, if_neg (fun q => h ⟨g, q⟩)]
  · rw [isb9n g, bd1_mk, if_pos rfl]
end
section
/-! pure: sums (own rows) -/
def sm (f : Nat → Nat) : Nat → Nat
  | 0 => 0
  | n + 1 => sm f n + f n
theorem sm_congr {f g : Nat → Nat} : ∀ n, (∀ i, i < n → f i = g i) → sm f n = sm g n := by
  intro n
  induction n with
  | zero => intro _; rfl
  | succ n ih =>
    intro h
    show sm f n + f n = sm g n + g n
    rw [ih (fun i hi => h i (by omega)), h n (by omega)]
theorem sm_add (f g : Nat → Nat) : ∀ n, sm (fun i => f i + g i) n = sm f n + sm g n := by
  intro n
  induction n with
  | zero => rfl
  | succ n ih =>
    show sm (fun i => f i + g i) n + (f n + g n) = sm f n + f n + (sm g n + g n)
    rw [ih]; omega
theorem sm_mul (f : Nat → Nat) (c : Nat) : ∀ n, sm (fun i => f i * c) n = sm f n * c := by
  intro n
  induction n with
  | zero => exact (Nat.zero_mul c).symm
  | succ n ih =>
    show sm (fun i => f i * c) n + f n * c = (sm f n + f n) * c
    rw [ih, Nat.add_mul]
theorem sm_zero : ∀ n, sm (fun _ => 0) n = 0 := by
  intro n
  induction n with
  | zero => rfl
  | succ n ih => exact ih
theorem sm_swap (f : Nat → Nat → Nat) (m : Nat) : ∀ n, sm (fun i => sm (fun j => f i j) m) n = sm (fun j => sm (fun i => f i j) n) m := by
  intro n
  induction n with
  | zero => exact (sm_zero m).symm
  | succ n ih =>
    show sm (fun i => sm (fun j => f i j) m) n + sm (fun j => f n j) m = sm (fun j => sm (fun i => f i j) n + f n j) m
    rw [ih, sm_add]
theorem sm_one {f : Nat → Nat} {a : Nat} : ∀ n, sm (fun i => if a = i then f i else 0) n = if a < n then f a else 0 := by
  intro n
  induction n with
  | zero => rfl
  | succ n ih =>
    show sm (fun i => if a = i then f i else 0) n + (if a = n then f n else 0) = _
    rw [ih]
    by_cases h : a = n
    · subst h
      rw [if_neg (Nat.lt_irrefl a), if_pos rfl, if_pos (by omega), Nat.zero_add]
    · rw [if_neg h]
      by_cases g : a < n
      · rw [if_pos g, if_pos (by omega), Nat.add_zero]
      · rw [if_neg g, if_neg (by omega)]
theorem sm_two (f : Nat → Nat) : ∀ n, sm f (2 * n) = sm (fun i => f (2 * i) + f (2 * i + 1)) n := by
  intro n
  induction n with
  | zero => rfl
  | succ n ih =>
    show sm f (2 * n) + f (2 * n) + f (2 * n + 1) = sm (fun i => f (2 * i) + f (2 * i + 1)) n + (f (2 * n) + f (2 * n + 1))
    rw [ih]; omega
theorem sm_app (f : Nat → Nat) (m : Nat) : ∀ n, sm f (m + n) = sm f m + sm (fun i => f (m + i)) n := by
  intro n
  induction n with
  | zero => rfl
  | succ n ih =>
    show sm f (m + n) + f (m + n) = sm f m + (sm (fun i => f (m + i)) n + f (m + n))
    rw [ih]; omega
theorem sm_blk (f : Nat → Nat) (c : Nat) : ∀ n, sm f (c * n) = sm (fun t => sm (fun i => f (c * t + i)) c) n := by
  intro n
  induction n with
  | zero => rfl
  | succ n ih =>
    rw [Nat.mul_succ, sm_app, ih]; rfl
theorem sm_le {f g : Nat → Nat} : ∀ n, (∀ i, i < n → f i ≤ g i) → sm f n ≤ sm g n := by
  intro n
  induction n with
  | zero => intro _; exact Nat.le_refl 0
  | succ n ih =>
    intro h
    exact Nat.add_le_add (ih (fun i hi => h i (by omega))) (h n (by omega))
theorem sm_mem {f : Nat → Nat} : ∀ n i, i < n → f i ≤ sm f n := by
  intro n
  induction n with
  | zero => intro i h; omega
  | succ n ih =>
    intro i h
    show f i ≤ sm f n + f n
    by_cases e : i = n
    · subst e; omega
    · have := ih i (by omega); omega
theorem sm_pos {f : Nat → Nat} : ∀ n, sm f n ≠ 0 → ∃ i, i < n ∧ f i ≠ 0 := by
  intro n
  induction n with
  | zero => intro h; exact absurd rfl h
  | succ n ih =>
    intro h
    by_cases g : f n = 0
    · obtain ⟨i, h1, h2⟩ := ih (fun q => h (by show sm f n + f n = 0; omega))
      exact ⟨i, by omega, h2⟩
    · exact ⟨n, by omega, g⟩
theorem sm_tail {f : Nat → Nat} {m n : Nat} (h : m ≤ n) (h0 : ∀ i, m ≤ i → i < n → f i = 0) : sm f n = sm f m := by
  obtain ⟨d, rfl⟩ : ∃ d, n = m + d := ⟨n - m, by omega⟩
  rw [sm_app, sm_congr (g := fun _ => 0) d (fun i hi => h0 (m + i) (by omega) (by omega)), sm_zero]
  omega
/-- rows of all days up to T, day by day -/
theorem sm_rows (f : Nat → Nat) (h0 : f 0 = 0) : ∀ T, sm f (2 * 2 ^ T) = sm (fun t => sm (fun i => f (2 ^ t + i)) (2 ^ t)) (T + 1) := by
  intro T
  induction T with
  | zero =>
    show 0 + f 0 + f 1 = 0 + (0 + f (2 ^ 0 + 0))
    rw [h0, Nat.pow_zero, Nat.add_zero 1]; omega
  | succ T ih =>
    have e : 2 * 2 ^ (T + 1) = 2 * 2 ^ T + 2 ^ (T + 1) := by rw [Nat.pow_succ]; omega
    rw [e, sm_app, ih]
    have e2 : 2 * 2 ^ T = 2 ^ (T + 1) := by rw [Nat.pow_succ]; omega
    rw [e2]; rfl
end
section
/-! pure: the reference's ways (own rows) -/
def AC (π : Nat → Nat → Nat) (T p q R : Nat) (β : Nat → Nat) (t x : Nat) : Nat := acS π T p q R β t (x / 16) (x / 8 % 2) (x % 8)
def nx (π : Nat → Nat → Nat) (β : Nat → Nat) (t x b : Nat) : Nat := ((x / 16 + b) * 2 + b) * 8 + mkF π β (x % 8) (t + 1) (x / 16 + b)
def ctb (p q : Nat) (F : Nat → Nat) (N : Nat → Nat → Nat) (w : Nat → Nat) (y x : Nat) : Nat := if F x = 0 then (if N x 1 = y then w x * p else 0) + (if N x 0 = y then w x * (q - p) else 0) else 0
def wy (π : Nat → Nat → Nat) (T p q R : Nat) (β : Nat → Nat) : Nat → Nat → Nat
  | 0, x => if x = hiF β (π 0 0) then 1 else 0
  | t + 1, y => sm (fun x => ctb p q (AC π T p q R β t) (nx π β t) (wy π T p q R β t) y x) 112
theorem nx_lt (π : Nat → Nat → Nat) (β : Nat → Nat) (t : Nat) {x b : Nat} (hx : x < 112) (hb : b < 2) : nx π β t x b < 128 := by
  have := mkF_lt π β (x % 8) (t + 1) (x / 16 + b)
  unfold nx
  omega
theorem ctb_n {p q : Nat} {F : Nat → Nat} {N : Nat → Nat → Nat} {w : Nat → Nat} {y x : Nat} (h : ctb p q F N w y x ≠ 0) : F x = 0 ∧ w x ≠ 0 ∧ ∃ b, b < 2 ∧ N x b = y := by
  unfold ctb at h
  by_cases g : F x = 0
  · rw [if_pos g] at h
    refine ⟨g, ?_, ?_⟩
    · intro q0
      rw [q0, Nat.zero_mul, Nat.zero_mul] at h
      apply h
      split <;> split <;> rfl
    · by_cases g1 : N x 1 = y
      · exact ⟨1, by omega, g1⟩
      · by_cases g0 : N x 0 = y
        · exact ⟨0, by omega, g0⟩
        · rw [if_neg g1, if_neg g0] at h
          exact absurd rfl h
  · rw [if_neg g] at h
    exact absurd rfl h
theorem ctb_0 {p q : Nat} {F : Nat → Nat} {N : Nat → Nat → Nat} {w : Nat → Nat} {y x : Nat} (h : w x = 0 ∨ F x ≠ 0) : ctb p q F N w y x = 0 := by
  by_cases g : ctb p q F N w y x = 0
  · exact g
  · obtain ⟨a, b, _⟩ := ctb_n g
    rcases h with h | h
    · exact absurd h b
    · exact absurd a h
theorem nx_p (π : Nat → Nat → Nat) (β : Nat → Nat) (t : Nat) {x b : Nat} (hb : b < 2) : nx π β t x b / 16 = x / 16 + b ∧ nx π β t x b / 8 % 2 = b ∧ nx π β t x b % 8 = mkF π β (x % 8) (t + 1) (x / 16 + b) := by
  have := mkF_lt π β (x % 8) (t + 1) (x / 16 + b)
  unfold nx
  refine ⟨by omega, by omega, by omega⟩
theorem wy_ok (π : Nat → Nat → Nat) (T p q R : Nat) (β : Nat → Nat) : ∀ t x, wy π T p q R β t x ≠ 0 → okM π β t (x / 16) (x / 8 % 2) (x % 8) := by
  intro t
  induction t with
  | zero =>
    intro x h
    have hl := hiF_lt β (π 0 0)
    have e : x = hiF β (π 0 0) := by
      by_cases g : x = hiF β (π 0 0)
      · exact g
      · exact absurd (if_neg g) h
    have h1 : x / 16 = 0 := by omega
    have h2 : x / 8 % 2 = 0 := by omega
    have h3 : x % 8 = hiF β (π 0 0) := by omega
    rw [h1, h2, h3]
    exact ok0 π β
  | succ t ih =>
    intro y h
    obtain ⟨x, hx, hc⟩ := sm_pos 112 h
    obtain ⟨_, hw, b, hb, rfl⟩ := ctb_n hc
    have hk := ih x hw
    obtain ⟨e1, e2, e3⟩ := nx_p π β t (x := x) hb
    have hm := mkF_lt π β (x % 8) (t + 1) (x / 16 + b)
    have hm2 := mkF_2 π β (x % 8) (t + 1) (x / 16 + b)
    rw [e1, e2, e3]
    exact ⟨by omega, hm, hm2⟩
theorem wy_lt {π : Nat → Nat → Nat} {T p q R : Nat} {β : Nat → Nat} {t x : Nat} (h : wy π T p q R β t x ≠ 0) : x < 16 * (t + 1) := by
  have := (wy_ok π T p q R β t x h).1.1
  omega
theorem wyF (π : Nat → Nat → Nat) (T p q R : Nat) (β : Nat → Nat) {t : Nat} (ht : t < 6) (g : Nat → Nat) : sm (fun y => wy π T p q R β (t + 1) y * g y) 112 = sm (fun x => wy π T p q R β t x * (if AC π T p q R β t x = 0 then p * g (nx π β t x 1) + (q - p) * g (nx π β t x 0) else 0)) 112 := by
  have e1 : sm (fun y => wy π T p q R β (t + 1) y * g y) 112 = sm (fun y => wy π T p q R β (t + 1) y * g y) 128 := by
    refine (sm_tail (by omega) (fun i h1 h2 => ?_)).symm
    by_cases h : wy π T p q R β (t + 1) i = 0
    · rw [h, Nat.zero_mul]
    · have := wy_lt h
      omega
  have e2 : sm (fun y => wy π T p q R β (t + 1) y * g y) 128 = sm (fun y => sm (fun x => ctb p q (AC π T p q R β t) (nx π β t) (wy π T p q R β t) y x * g y) 112) 128 := by
    refine sm_congr 128 (fun y _ => ?_)
    exact (sm_mul _ (g y) 112).symm
  rw [e1, e2, sm_swap]
  refine sm_congr 112 (fun x hx => ?_)
  by_cases h : AC π T p q R β t x = 0
  · rw [if_pos h]
    have e3 : sm (fun y => ctb p q (AC π T p q R β t) (nx π β t) (wy π T p q R β t) y x * g y) 128 = sm (fun y => (if nx π β t x 1 = y then wy π T p q R β t x * p * g y else 0) + (if nx π β t x 0 = y then wy π T p q R β t x * (q - p) * g y else 0)) 128 := by
      refine sm_congr 128 (fun y _ => ?_)
      unfold ctb
      rw [if_pos h, Nat.add_mul]
      congr 1
      · split
        · rfl
        · exact Nat.zero_mul _
      · split
        · rfl
        · exact Nat.zero_mul _
    have l1 := nx_lt π β t hx (show 1 < 2 by omega)
    have l0 := nx_lt π β t hx (show 0 < 2 by omega)
    rw [e3, sm_add, sm_one (f := fun y => wy π T p q R β t x * p * g y), sm_one (f := fun y => wy π T p q R β t x * (q - p) * g y), if_pos l1, if_pos l0, Nat.mul_add, Nat.mul_assoc, Nat.mul_assoc]
  · rw [if_neg h, Nat.mul_zero, ← sm_zero 128]
    refine sm_congr 128 (fun y _ => ?_)
    rw [ctb_0 (Or.inr h), Nat.zero_mul]
theorem wy_tot {π : Nat → Nat → Nat} {T p q R : Nat} {β : Nat → Nat} (hp : p ≤ q) : ∀ t, t ≤ 6 → sm (fun x => wy π T p q R β t x) 112 ≤ q ^ t := by
  intro t
  induction t with
  | zero =>
    intro _
    have hl := hiF_lt β (π 0 0)
    have e : sm (fun x => wy π T p q R β 0 x) 112 = sm (fun x => if hiF β (π 0 0) = x then 1 else 0) 112 := by
      refine sm_congr 112 (fun x _ => ?_)
      show (if x = hiF β (π 0 0) then 1 else 0) = _
      by_cases h : x = hiF β (π 0 0)
      · rw [if_pos h, if_pos h.symm]
      · rw [if_neg h, if_neg (fun z => h z.symm)]
    rw [e, sm_one (f := fun _ => 1), if_pos (by omega)]
    exact Nat.le_refl 1
  | succ t ih =>
    intro ht
    have e1 : sm (fun y => wy π T p q R β (t + 1) y) 112 = sm (fun y => wy π T p q R β (t + 1) y * 1) 112 := sm_congr 112 (fun y _ => (Nat.mul_one _).symm)
    rw [e1, wyF π T p q R β (by omega) (fun _ => 1)]
    refine Nat.le_trans (sm_le (g := fun x => wy π T p q R β t x * q) 112 (fun x _ => ?_)) ?_
    · refine Nat.mul_le_mul (Nat.le_refl _) ?_
      split
      · omega
      · exact Nat.zero_le _
    · rw [sm_mul, Nat.pow_succ]
      exact Nat.mul_le_mul (ih (by omega)) (Nat.le_refl q)
theorem wy_b {π : Nat → Nat → Nat} {T p q R : Nat} {β : Nat → Nat} (hp : p ≤ q) (hq : q ≤ 20) {t x : Nat} (ht : t ≤ 6) : wy π T p q R β t x ≤ 64000000 := by
  by_cases h : wy π T p q R β t x = 0
  · omega
  · have h1 := wy_lt h
    have h2 := sm_mem (f := fun x => wy π T p q R β t x) 112 x (by omega)
    have h3 := wy_tot (π := π) (T := T) (R := R) (β := β) hp t ht
    have h4 := Nat.pow_le_pow_left hq t
    have h5 : 20 ^ t ≤ 20 ^ 6 := Nat.pow_le_pow_right (by omega) ht
    have h6 : (20 : Nat) ^ 6 = 64000000 := rfl
    exact Nat.le_trans h2 (Nat.le_trans h3 (Nat.le_trans h4 (by rw [← h6]; exact h5)))
/-- what the array of ways holds while day t is gone through -/
def WI (π : Nat → Nat → Nat) (T p q R : Nat) (β : Nat → Nat) (t N : Nat) (way : Nat → Int64) : Prop := (∀ s x, s ≤ t → x < 112 → way (112 * s + x) = lN (wy π T p q R β s x)) ∧ (∀ s x, t < s → s < 7 → x < 112 → way (112 * s + x) = lN (if s = t + 1 then sm (fun z => ctb p q (AC π T p q R β t) (nx π β t) (wy π T p q R β t) x z) N else 0))
theorem atN_x (t j u m : Nat) : atN t j u m = 112 * t + ((j * 2 + u) * 8 + m) := by unfold atN; omega
theorem w62 {bs : Nat → Int32} {pe : Nat → Int64} {k T p q R : Nat} {β : Nat → Nat} {π : Nat → Nat → Nat} (hb : RB bs k β) (hK : BK β) (hp : PK π) (hP : RP pe T π) (hN : NK T p q R) {ac : Nat → Int32} (hA : ∀ t j u m, t ≤ T → okM π β t j u m → ac (atN t j u m) = nI (acS π T p q R β t j u m) ∧ acS π T p q R β t j u m ≤ 6) {t j u : Nat} (ht : t < T) (hj : j ≤ t) (hu : u < 2) : ∀ (i n m : Nat) (way : Nat → Int64), m + i = 8 → WI π T p q R β t ((j * 2 + u) * 8 + m) way → Sx (lpX9_laysWays_62 (nI k) (nI t) (nI j) (nI u) bs (nI p) (nI q) pe ac (n + i + 1) (nI m) way) (fun z => WI π T p q R β t ((j * 2 + u) * 8 + 8) z) := by
  intro i
  induction i with
  | zero =>
    intro n m way hi hw
    rw [lpX9_laysWays_62.eq_2]
    refine Sx.p (show (8 : Int32) ≤ nI m from nI_le (a := 8) (by omega) (by omega)) (Sx.mk ?_)
    rw [show m = 8 by omega] at hw
    exact hw
  | succ i ih =>
    intro n m way hi hw
    rw [lpX9_laysWays_62.eq_2]
    refine Sx.n (show ¬ (8 : Int32) ≤ nI m from nI_ge (b := 8) (by omega) (by omega)) (Sx.e1 (at9 t j u m) ?_)
    have l1 : atN t j u m < 784 := atN_lt (by omega) (by omega) (by omega) (by omega)
    have hx : (j * 2 + u) * 8 + m < 112 := by omega
    have hwx := hw.1 t ((j * 2 + u) * 8 + m) (Nat.le_refl t) hx
    rw [← atN_x] at hwx
    have hbw := wy_b (π := π) (T := T) (R := R) (β := β) (p := p) (q := q) (by omega) (by omega) (t := t) (x := (j * 2 + u) * 8 + m) (by omega)
    rw [og32 l1 (by omega), nI_clamp (by omega), hwx]
    -- one more state done
    refine Sx.b1 (P := fun z => WI π T p q R β t ((j * 2 + u) * 8 + m + 1) z) ?_ ?_
    · have hskip : (wy π T p q R β t ((j * 2 + u) * 8 + m) = 0 ∨ AC π T p q R β t ((j * 2 + u) * 8 + m) ≠ 0) → WI π T p q R β t ((j * 2 + u) * 8 + m + 1) way := by
        intro h
        refine ⟨hw.1, fun s x h1 h2 h3 => ?_⟩
        rw [hw.2 s x h1 h2 h3]
        by_cases e : s = t + 1
        · rw [if_pos e, if_pos e]
          show _ = lN (sm _ ((j * 2 + u) * 8 + m) + ctb p q (AC π T p q R β t) (nx π β t) (wy π T p q R β t) x ((j * 2 + u) * 8 + m))
          rw [ctb_0 h, Nat.add_zero]
        · rw [if_neg e, if_neg e]
      by_cases hz : wy π T p q R β t ((j * 2 + u) * 8 + m) = 0
      · refine Sx.p (by rw [hz]; rfl) (Sx.mk (hskip (Or.inl hz)))
      · refine Sx.n (fun e => hz (by rw [l_0, pk_lEQ (by omega) (by omega)] at e; exact e)) ?_
        have hok := wy_ok π T p q R β t _ hz
        have d1 : ((j * 2 + u) * 8 + m) / 16 = j := by omega
        have d2 : ((j * 2 + u) * 8 + m) / 8 % 2 = u := by omega
        have d3 : ((j * 2 + u) * 8 + m) % 8 = m := by omega
        rw [d1, d2, d3] at hok
        obtain ⟨a1, a2⟩ := hA t j u m (by omega) hok
        have hAC : AC π T p q R β t ((j * 2 + u) * 8 + m) = acS π T p q R β t j u m := by unfold AC; rw [d1, d2, d3]
        rw [og32 l1 (by omega), a1]
        by_cases ha : acS π T p q R β t j u m = 0
        · refine Sx.p (by rw [ha]; rfl) ?_
          have b1 : atN (t + 1) (j + 1) 1 (mkF π β m (t + 1) (j + 1)) < 784 := atN_lt (by omega) (by omega) (by omega) (mkF_lt _ _ _ _ _)
          have b0 : atN (t + 1) (j + 0) 0 (mkF π β m (t + 1) (j + 0)) < 784 := atN_lt (by omega) (by omega) (by omega) (mkF_lt _ _ _ _ _)
          refine Sx.e1 (show fX9_then (nI k) (nI t) (nI j) (nI u) (nI m) 1 bs pe = _ from th9 hb hK hp hP hN.1.2 (b := 1) (nI u) hj (by omega) (by omega) ht) ?_
          refine Sx.e1 (show fX9_then (nI k) (nI t) (nI j) (nI u) (nI m) 0 bs pe = _ from th9 hb hK hp hP hN.1.2 (b := 0) (nI u) hj (by omega) (by omega) ht) ?_
          have n1 : atN (t + 1) (j + 1) 1 (mkF π β m (t + 1) (j + 1)) = 112 * (t + 1) + nx π β t ((j * 2 + u) * 8 + m) 1 := by rw [atN_x]; unfold nx; rw [d1, d3]
          have n0 : atN (t + 1) (j + 0) 0 (mkF π β m (t + 1) (j + 0)) = 112 * (t + 1) + nx π β t ((j * 2 + u) * 8 + m) 0 := by rw [atN_x]; unfold nx; rw [d1, d3]
          rw [n1] at b1 ⊢
          rw [n0] at b0 ⊢
          have l3 := nx_lt π β t hx (show 1 < 2 by omega)
          have l4 := nx_lt π β t hx (show 0 < 2 by omega)
          have p1 := nx_p π β t (x := (j * 2 + u) * 8 + m) (show 1 < 2 by omega)
          have p0 := nx_p π β t (x := (j * 2 + u) * 8 + m) (show 0 < 2 by omega)
          generalize hX : (j * 2 + u) * 8 + m = X at *
          rw [og32 b1 (by omega), og32 l1 (by omega), og32 b1 (by omega), nm_mk, og32 b0 (by omega), og32 l1 (by omega), og32 b0 (by omega), nm_mk, nI_clamp (n := 112 * (t + 1) + nx π β t X 1) (by omega), nI_clamp (n := 112 * (t + 1) + nx π β t X 0) (by omega)]
          refine Sx.mk ?_
          have ea : atN t j u m = 112 * t + X := by rw [atN_x, hX]
          rw [ea] at hwx ⊢
          have v1 := hw.2 (t + 1) (nx π β t X 1) (by omega) (by omega) (by omega)
          have v0 := hw.2 (t + 1) (nx π β t X 0) (by omega) (by omega) (by omega)
          rw [if_pos rfl] at v1 v0
          have hne : ¬ 112 * (t + 1) + nx π β t X 0 = 112 * (t + 1) + nx π β t X 1 := by omega
          rw [upL, if_neg hne, upL, if_neg (show ¬ 112 * t + X = 112 * (t + 1) + nx π β t X 1 by omega), hwx, v1, v0, pk_sub (by omega), nI_l (n := p) (by omega), nI_l (n := q - p) (by omega), lN_mul, lN_mul, lN_add, lN_add]
          refine ⟨fun s x h1 h2 => ?_, fun s x h1 h2 h3 => ?_⟩
          · rw [upL, if_neg (by omega), upL, if_neg (by omega)]
            exact hw.1 s x h1 h2
          · have hold := hw.2 s x h1 h2 h3
            rw [upL, upL]
            by_cases e : s = t + 1
            · subst e
              rw [if_pos rfl] at hold ⊢
              have hsum : sm (fun z => ctb p q (AC π T p q R β t) (nx π β t) (wy π T p q R β t) x z) (X + 1) = sm (fun z => ctb p q (AC π T p q R β t) (nx π β t) (wy π T p q R β t) x z) X + ((if nx π β t X 1 = x then wy π T p q R β t X * p else 0) + (if nx π β t X 0 = x then wy π T p q R β t X * (q - p) else 0)) := by
                show _ + ctb p q (AC π T p q R β t) (nx π β t) (wy π T p q R β t) x X = _
                unfold ctb
                rw [if_pos (show AC π T p q R β t X = 0 by rw [hAC]; exact ha)]
              rw [hsum]
              by_cases g0 : x = nx π β t X 0
              · subst g0
                rw [if_pos rfl, if_neg (show ¬ nx π β t X 1 = nx π β t X 0 by omega), if_pos rfl, Nat.zero_add]
              · rw [if_neg (show ¬ 112 * (t + 1) + x = 112 * (t + 1) + nx π β t X 0 by omega), if_neg (show ¬ nx π β t X 0 = x from fun z => g0 z.symm), Nat.add_zero]
                by_cases g1 : x = nx π β t X 1
                · subst g1
                  rw [if_pos rfl, if_pos rfl]; rfl
                · rw [if_neg (show ¬ 112 * (t + 1) + x = 112 * (t + 1) + nx π β t X 1 by omega), if_neg (show ¬ nx π β t X 1 = x from fun z => g1 z.symm), Nat.add_zero, hold]; rfl
            · rw [if_neg e] at hold ⊢
              rw [if_neg (by omega), if_neg (by omega)]
              exact hold
        · refine Sx.n (nI_ne0 (by omega) (by omega)) (Sx.mk (hskip (Or.inr (by rw [hAC]; exact ha))))
    · intro z hz
      rw [nm_mk, nI_1, show n + (i + 1) = n + i + 1 by omega]
      exact ih n (m + 1) z (by omega) hz
end
section
/-! pure: the reference's ways, all; ways by rows (own rows) -/
theorem w53 {bs : Nat → Int32} {pe : Nat → Int64} {k T p q R : Nat} {β : Nat → Nat} {π : Nat → Nat → Nat} (hb : RB bs k β) (hK : BK β) (hp : PK π) (hP : RP pe T π) (hN : NK T p q R) {ac : Nat → Int32} (hA : ∀ t j u m, t ≤ T → okM π β t j u m → ac (atN t j u m) = nI (acS π T p q R β t j u m) ∧ acS π T p q R β t j u m ≤ 6) {t j : Nat} (ht : t < T) (hj : j ≤ t) : ∀ (i n u : Nat) (way : Nat → Int64), u + i = 2 → WI π T p q R β t ((j * 2 + u) * 8) way → Sx (lpX9_laysWays_53 (nI k) (nI t) (nI j) bs (nI p) (nI q) pe ac (n + i + 1) (nI u) way) (fun z => WI π T p q R β t ((j + 1) * 16) z) := by
  intro i
  induction i with
  | zero =>
    intro n u way hi hw
    rw [lpX9_laysWays_53.eq_2]
    refine Sx.p (show (2 : Int32) ≤ nI u from nI_le (a := 2) (by omega) (by omega)) (Sx.mk ?_)
    rw [show (j * 2 + u) * 8 = (j + 1) * 16 by omega] at hw
    exact hw
  | succ i ih =>
    intro n u way hi hw
    rw [lpX9_laysWays_53.eq_2]
    refine Sx.n (show ¬ (2 : Int32) ≤ nI u from nI_ge (b := 2) (by omega) (by omega)) ?_
    obtain ⟨n', hn'⟩ := fuN 9 (by omega)
    rw [hn', i_0]
    refine Sx.b1 (w62 hb hK hp hP hN hA ht hj (show u < 2 by omega) 8 n' 0 way (by omega) hw) ?_
    intro z hz
    rw [nm_mk, nI_1, show n + (i + 1) = n + i + 1 by omega]
    refine ih n (u + 1) z (by omega) ?_
    rw [show (j * 2 + (u + 1)) * 8 = (j * 2 + u) * 8 + 8 by omega]
    exact hz
theorem w45 {bs : Nat → Int32} {pe : Nat → Int64} {k T p q R : Nat} {β : Nat → Nat} {π : Nat → Nat → Nat} (hb : RB bs k β) (hK : BK β) (hp : PK π) (hP : RP pe T π) (hN : NK T p q R) {ac : Nat → Int32} (hA : ∀ t j u m, t ≤ T → okM π β t j u m → ac (atN t j u m) = nI (acS π T p q R β t j u m) ∧ acS π T p q R β t j u m ≤ 6) {t : Nat} (ht : t < T) : ∀ (i n j : Nat) (way : Nat → Int64), j + i = t + 1 → WI π T p q R β t (j * 16) way → Sx (lpX9_laysWays_45 (nI k) (nI t) bs (nI p) (nI q) pe ac (n + i + 1) (nI j) way) (fun z => WI π T p q R β t (16 * (t + 1)) z) := by
  intro i
  induction i with
  | zero =>
    intro n j way hi hw
    rw [lpX9_laysWays_45.eq_2]
    refine Sx.p (nI_lt (by omega) (by omega)) (Sx.mk ?_)
    rw [show j * 16 = 16 * (t + 1) by omega] at hw
    exact hw
  | succ i ih =>
    intro n j way hi hw
    rw [lpX9_laysWays_45.eq_2]
    refine Sx.n (nI_nlt (by omega) (by omega)) ?_
    obtain ⟨n', hn'⟩ := fuN 3 (by omega)
    rw [hn', i_0]
    refine Sx.b1 (w53 hb hK hp hP hN hA ht (show j ≤ t by omega) 2 n' 0 way (by omega) (by rw [show (j * 2 + 0) * 8 = j * 16 by omega]; exact hw)) ?_
    intro z hz
    rw [nm_mk, nI_1, show n + (i + 1) = n + i + 1 by omega]
    exact ih n (j + 1) z (by omega) hz
theorem WI.nxt {π : Nat → Nat → Nat} {T p q R : Nat} {β : Nat → Nat} {t : Nat} {way : Nat → Int64} (ht : t < 6) (h : WI π T p q R β t (16 * (t + 1)) way) : WI π T p q R β (t + 1) 0 way := by
  refine ⟨fun s x h1 h2 => ?_, fun s x h1 h2 h3 => ?_⟩
  · by_cases e : s = t + 1
    · subst e
      rw [h.2 (t + 1) x (by omega) (by omega) h2, if_pos rfl]
      congr 1
      refine (sm_tail (by omega) (fun i g1 g2 => ?_)).symm
      refine ctb_0 (Or.inl ?_)
      by_cases g : wy π T p q R β t i = 0
      · exact g
      · have := wy_lt g
        omega
    · exact h.1 s x (by omega) h2
  · rw [h.2 s x (by omega) h2 h3, if_neg (by omega)]
    split <;> rfl
theorem w35 {bs : Nat → Int32} {pe : Nat → Int64} {k T p q R : Nat} {β : Nat → Nat} {π : Nat → Nat → Nat} (hb : RB bs k β) (hK : BK β) (hp : PK π) (hP : RP pe T π) (hN : NK T p q R) {ac : Nat → Int32} (hA : ∀ t j u m, t ≤ T → okM π β t j u m → ac (atN t j u m) = nI (acS π T p q R β t j u m) ∧ acS π T p q R β t j u m ≤ 6) : ∀ (i n t : Nat) (way : Nat → Int64), t + i = T → WI π T p q R β t 0 way → Sx (lpX9_laysWays_35 (nI k) bs (nI T) (nI p) (nI q) pe ac (n + i + 1) (nI t) way) (fun z => WI π T p q R β T 0 z) := by
  intro i
  induction i with
  | zero =>
    intro n t way hi hw
    rw [lpX9_laysWays_35.eq_2]
    refine Sx.p (nI_le (by omega) (by omega)) (Sx.mk ?_)
    rw [show t = T by omega] at hw
    exact hw
  | succ i ih =>
    intro n t way hi hw
    rw [lpX9_laysWays_35.eq_2]
    refine Sx.n (nI_ge (by omega) (by omega)) ?_
    obtain ⟨n', hn'⟩ := fuN (t + 2) (by omega)
    rw [hn', i_0]
    refine Sx.b1 (w45 hb hK hp hP hN hA (show t < T by omega) (t + 1) n' 0 way (by omega) (by rw [Nat.zero_mul]; exact hw)) ?_
    intro z hz
    rw [nm_mk, nI_1, show n + (i + 1) = n + i + 1 by omega]
    exact ih n (t + 1) z (by omega) (hz.nxt (by omega))
theorem w2 (k : Int32) : ∀ (i n x : Nat) (way : Nat → Int64), x + i = 784 → (∀ y, y < x → way y = 0) → Sx (lpX9_laysWays_2 k (n + i + 1) (nI x) way) (fun z => ∀ y, y < 784 → z y = 0) := by
  intro i
  induction i with
  | zero =>
    intro n x way hi hg
    rw [lpX9_laysWays_2.eq_2]
    exact Sx.p (show (784 : Int32) ≤ nI x from nI_le (a := 784) (by omega) (by omega)) (Sx.mk (fun y hy => hg y (by omega)))
  | succ i ih =>
    intro n x way hi hg
    rw [lpX9_laysWays_2.eq_2]
    refine Sx.n (show ¬ (784 : Int32) ≤ nI x from nI_ge (b := 784) (by omega) (by omega)) ?_
    rw [og32 (by omega) (by omega), nm_mk, nm_mk, nI_clamp (by omega), nI_1, show n + (i + 1) = n + i + 1 by omega]
    refine ih n (x + 1) _ (by omega) ?_
    intro y hy
    rw [upL]
    by_cases e : y = x
    · rw [if_pos e]
    · rw [if_neg e]; exact hg y (by omega)
/-- all ways -/
def WW (π : Nat → Nat → Nat) (T p q R : Nat) (β : Nat → Nat) (way : Nat → Int64) : Prop := ∀ s x, s < 7 → x < 112 → way (112 * s + x) = lN (if s ≤ T then wy π T p q R β s x else 0)
theorem lw9 {bs : Nat → Int32} {pe : Nat → Int64} {k T p q R : Nat} {β : Nat → Nat} {π : Nat → Nat → Nat} (hb : RB bs k β) (hK : BK β) (hp : PK π) (hP : RP pe T π) (hN : NK T p q R) {ac : Nat → Int32} (hA : ∀ t j u m, t ≤ T → okM π β t j u m → ac (atN t j u m) = nI (acS π T p q R β t j u m) ∧ acS π T p q R β t j u m ≤ 6) (way : Nat → Int64) : Sx (fX9_laysWays (nI k) bs (nI T) (nI p) (nI q) pe way ac) (fun z => WW π T p q R β z) := by
  unfold fX9_laysWays
  obtain ⟨n1, hn1⟩ := fuN 785 (by omega)
  obtain ⟨n2, hn2⟩ := fuN (T + 1) (by omega)
  refine Sx.b1 (P := fun z => ∀ y, y < 784 → z y = 0) (by rw [hn1, i_0]; exact w2 (nI k) 784 n1 0 way (by omega) (fun y hy => absurd hy (by omega))) ?_
  intro w hw
  have hl := hiF_lt β (π 0 0)
  have e0 : atN 0 0 0 (hiF β (π 0 0)) = hiF β (π 0 0) := by unfold atN; omega
  refine Sx.e1 (be9 hb hK hp hP hN.1.2) ?_
  rw [e0, og32 (by omega) (by omega), nm_mk, nI_clamp (by omega), hn2, i_0, show n2 + (T + 1) = n2 + T + 1 by omega]
  refine Sx.b1 (w35 hb hK hp hP hN hA T n2 0 _ (by omega) ⟨fun s x h1 h2 => ?_, fun s x h1 h2 h3 => ?_⟩) (fun z hz => Sx.mk ?_)
  · have : s = 0 := by omega
    subst this
    rw [upL, Nat.mul_zero, Nat.zero_add]
    show _ = lN (if x = hiF β (π 0 0) then 1 else 0)
    by_cases e : x = hiF β (π 0 0)
    · rw [if_pos e, if_pos e]; rfl
    · rw [if_neg e, if_neg e, hw x (by omega)]; rfl
  · rw [upL, if_neg (by omega), hw _ (by omega)]
    split <;> rfl
  · intro s x h1 h2
    by_cases e : s ≤ T
    · rw [if_pos e]; exact hz.1 s x e h2
    · rw [if_neg e, hz.2 s x (by omega) h1 h2]
      split <;> rfl
/-- rows by their places among a day's states -/
def xR (π : Nat → Nat → Nat) (β : Nat → Nat) (r : Nat) : Nat := (uR r * 2 + bR r) * 8 + mR π β r
theorem xR_p (π : Nat → Nat → Nat) (β : Nat → Nat) {r : Nat} (h1 : 1 ≤ r) (h : r < 128) : xR π β r / 16 = uR r ∧ xR π β r / 8 % 2 = bR r ∧ xR π β r % 8 = mR π β r ∧ xR π β r < 112 := by
  obtain ⟨⟨b1, b2, b3⟩, b4, b5, b6⟩ := row_b1 r h h1
  have := mR_lt π β r
  unfold xR
  refine ⟨by omega, by omega, by omega, by omega⟩
theorem aT_x (π : Nat → Nat → Nat) (β : Nat → Nat) (r : Nat) : aT π β r = 112 * dR r + xR π β r := by unfold aT xR; rw [atN_x]
abbrev CT (A : Nat → Nat) (r : Nat) : Prop := ∀ i, i < dR r → A (pfx r i) = 0
theorem pf_s : ∀ r, r < 64 → 1 ≤ r → ∀ b, b < 2 → ∀ i, i < 7 → i ≤ dR r → pfx (2 * r + b) i = pfx r i := by decide +kernel
theorem CT_s {A : Nat → Nat} {r b : Nat} (h1 : 1 ≤ r) (h : r < 64) (hb : b < 2) : CT A (2 * r + b) ↔ CT A r ∧ A r = 0 := by
  obtain ⟨c1, _, _, _⟩ := row_s r h h1 b hb
  have hd := (row_b1 r (by omega) h1).1.1
  constructor
  · intro g
    refine ⟨fun i hi => ?_, ?_⟩
    · have := g i (by omega)
      rwa [pf_s r h h1 b hb i (by omega) (by omega)] at this
    · have := g (dR r) (by omega)
      rwa [pf_s r h h1 b hb (dR r) (by omega) (Nat.le_refl _), pfd] at this
  · intro g i hi
    rw [c1] at hi
    rw [pf_s r h h1 b hb i (by omega) (by omega)]
    by_cases e : i = dR r
    · rw [e, pfd]; exact g.2
    · exact g.1 i (by omega)
def cw (p q : Nat) (A : Nat → Nat) (r : Nat) : Nat := if CT A r then p ^ uR r * (q - p) ^ (dR r - uR r) else 0
theorem cw_1 {p q : Nat} {A : Nat → Nat} {r : Nat} (h1 : 1 ≤ r) (h : r < 64) : cw p q A (2 * r + 1) = if A r = 0 then cw p q A r * p else 0 := by
  obtain ⟨c1, c2, _, _⟩ := row_s r h h1 1 (by omega)
  have hu := (row_b1 r (by omega) h1).1.2.1
  have hs := CT_s (A := A) h1 h (show 1 < 2 by omega)
  unfold cw
  by_cases g : A r = 0
  · rw [if_pos g]
    by_cases g2 : CT A r
    · rw [if_pos g2, if_pos (hs.mpr ⟨g2, g⟩), c1, c2, Nat.pow_succ, show dR r + 1 - (uR r + 1) = dR r - uR r by omega, Nat.mul_right_comm]
    · rw [if_neg g2, if_neg (fun z => g2 (hs.mp z).1), Nat.zero_mul]
  · rw [if_neg g, if_neg (fun z => g (hs.mp z).2)]
theorem cw_0 {p q : Nat} {A : Nat → Nat} {r : Nat} (h1 : 1 ≤ r) (h : r < 64) : cw p q A (2 * r) = if A r = 0 then cw p q A r * (q - p) else 0 := by
  obtain ⟨c1, c2, _, _⟩ := row_s r h h1 0 (by omega)
  have hu := (row_b1 r (by omega) h1).1.2.1
  have hs := CT_s (A := A) h1 h (show 0 < 2 by omega)
  rw [Nat.add_zero] at c1 c2 hs
  unfold cw
  by_cases g : A r = 0
  · rw [if_pos g]
    by_cases g2 : CT A r
    · rw [if_pos g2, if_pos (hs.mpr ⟨g2, g⟩), c1, c2, Nat.add_zero, show dR r + 1 - uR r = (dR r - uR r) + 1 by omega, Nat.pow_succ, Nat.mul_assoc]
    · rw [if_neg g2, if_neg (fun z => g2 (hs.mp z).1), Nat.zero_mul]
  · rw [if_neg g, if_neg (fun z => g (hs.mp z).2)]
theorem AC_r (π : Nat → Nat → Nat) (T p q R : Nat) (β : Nat → Nat) {r : Nat} (h1 : 1 ≤ r) (h : r < 128) : AC π T p q R β (dR r) (xR π β r) = aR π T p q R β (bV π β) (bA π β) r := by
  obtain ⟨e1, e2, e3, _⟩ := xR_p π β h1 h
  unfold AC
  rw [e1, e2, e3]
  rfl
theorem nx_r (π : Nat → Nat → Nat) (β : Nat → Nat) {r b : Nat} (h1 : 1 ≤ r) (h : r < 64) (hb : b < 2) : nx π β (dR r) (xR π β r) b = xR π β (2 * r + b) := by
  obtain ⟨e1, e2, e3, _⟩ := xR_p π β h1 (show r < 128 by omega)
  obtain ⟨c1, c2, c3, _⟩ := row_s r h h1 b hb
  unfold nx
  rw [e1, e3]
  unfold xR
  rw [c2, c3, mR_s π β h1 h hb]
/-- sums over states are sums over rows -/
theorem wyE (π : Nat → Nat → Nat) (T p q R : Nat) (β : Nat → Nat) : ∀ t, t ≤ 6 → ∀ g : Nat → Nat, sm (fun x => wy π T p q R β t x * g x) 112 = sm (fun i => cw p q (aR π T p q R β (bV π β) (bA π β)) (2 ^ t + i) * g (xR π β (2 ^ t + i))) (2 ^ t) := by
  intro t
  induction t with
  | zero =>
    intro _ g
    have hl := hiF_lt β (π 0 0)
    have e : sm (fun x => wy π T p q R β 0 x * g x) 112 = sm (fun x => if hiF β (π 0 0) = x then g x else 0) 112 := by
      refine sm_congr 112 (fun x _ => ?_)
      show (if x = hiF β (π 0 0) then 1 else 0) * g x = _
      by_cases h : x = hiF β (π 0 0)
      · rw [if_pos h, if_pos h.symm, Nat.one_mul]
      · rw [if_neg h, if_neg (fun z => h z.symm), Nat.zero_mul]
    rw [e, sm_one (f := g), if_pos (by omega)]
    show _ = 0 + cw p q (aR π T p q R β (bV π β) (bA π β)) 1 * g (xR π β 1)
    have d1 : dR 1 = 0 := by decide +kernel
    have u1 : uR 1 = 0 := by decide +kernel
    have b1 : bR 1 = 0 := by decide +kernel
    unfold cw xR
    rw [if_pos (show CT (aR π T p q R β (bV π β) (bA π β)) 1 from fun i hi => absurd hi (by rw [d1]; omega)), d1, u1, b1, mR_1]
    simp
  | succ t ih =>
    intro ht g
    rw [wyF π T p q R β (by omega) g, ih (by omega), Nat.pow_succ, Nat.mul_comm (2 ^ t) 2, sm_two]
    refine sm_congr (2 ^ t) (fun i hi => ?_)
    have hb2 := p2b t (by omega)
    have h5 : 2 ^ t ≤ 32 := Nat.pow_le_pow_right (by omega) (show t ≤ 5 by omega)
    have hd := dR_eq (2 ^ t + i) (by omega) t (by omega) (by omega) (by omega)
    have r1 : 1 ≤ 2 ^ t + i := by omega
    have r6 : 2 ^ t + i < 64 := by omega
    have e0 : 2 * 2 ^ t + 2 * i = 2 * (2 ^ t + i) := by omega
    have e1 : 2 * 2 ^ t + (2 * i + 1) = 2 * (2 ^ t + i) + 1 := by omega
    rw [e0, e1, cw_0 r1 r6, cw_1 r1 r6]
    have a := AC_r π T p q R β r1 (show 2 ^ t + i < 128 by omega)
    have n1 := nx_r π β r1 r6 (show 1 < 2 by omega)
    have n0 := nx_r π β r1 r6 (show 0 < 2 by omega)
    rw [hd] at a n1 n0
    rw [Nat.add_zero] at n0
    rw [a, n1, n0]
    by_cases g0 : aR π T p q R β (bV π β) (bA π β) (2 ^ t + i) = 0
    · rw [if_pos g0, if_pos g0, if_pos g0, Nat.mul_add, Nat.mul_assoc, Nat.mul_assoc, Nat.add_comm]
    · rw [if_neg g0, if_neg g0, if_neg g0, Nat.mul_zero, Nat.zero_mul, Nat.zero_mul]
/-- a state that can be come to -/
theorem wy_in (π : Nat → Nat → Nat) {T p q R : Nat} (β : Nat → Nat) (hp : 1 ≤ p ∧ p < q) {t x : Nat} (ht : t ≤ 6) (hx : x < 112) : wy π T p q R β t x ≠ 0 ↔ ∃ i, i < 2 ^ t ∧ CT (aR π T p q R β (bV π β) (bA π β)) (2 ^ t + i) ∧ xR π β (2 ^ t + i) = x := by
  have hE := wyE π T p q R β t ht (fun y => if x = y then 1 else 0)
  have e1 : sm (fun y => wy π T p q R β t y * (if x = y then 1 else 0)) 112 = wy π T p q R β t x := by
    have : sm (fun y => wy π T p q R β t y * (if x = y then 1 else 0)) 112 = sm (fun y => if x = y then wy π T p q R β t y else 0) 112 := by
      refine sm_congr 112 (fun y _ => ?_)
      by_cases h : x = y
      · rw [if_pos h, if_pos h, Nat.mul_one]
      · rw [if_neg h, if_neg h, Nat.mul_zero]
    rw [this, sm_one (f := fun y => wy π T p q R β t y), if_pos hx]
  rw [e1] at hE
  rw [hE]
  constructor
  · intro h
    obtain ⟨i, hi, hc⟩ := sm_pos _ h
    by_cases g : x = xR π β (2 ^ t + i)
    · refine ⟨i, hi, ?_, g.symm⟩
      rw [if_pos g, Nat.mul_one] at hc
      unfold cw at hc
      by_cases g2 : CT (aR π T p q R β (bV π β) (bA π β)) (2 ^ t + i)
      · exact g2
      · rw [if_neg g2] at hc; exact absurd rfl hc
    · rw [if_neg g, Nat.mul_zero] at hc; exact absurd rfl hc
  · rintro ⟨i, hi, hc, rfl⟩
    have h1 := sm_mem (f := fun i' => cw p q (aR π T p q R β (bV π β) (bA π β)) (2 ^ t + i') * (if xR π β (2 ^ t + i) = xR π β (2 ^ t + i') then 1 else 0)) (2 ^ t) i hi
    rw [if_pos rfl, Nat.mul_one] at h1
    have h2 : 0 < cw p q (aR π T p q R β (bV π β) (bA π β)) (2 ^ t + i) := by
      unfold cw
      rw [if_pos hc]
      exact Nat.mul_pos (Nat.pow_pos (by omega)) (Nat.pow_pos (by omega))
    omega
end
section
/-! pure: greatest divisors, prices (own rows) -/
theorem gcd_s (x y : Nat) : Nat.gcd x y = Nat.gcd y (x % y) := by rw [Nat.gcd_comm x y, Nat.gcd_rec, Nat.gcd_comm]
theorem half2 {x y : Nat} (h0 : x % y ≠ 0) (hy : y ≠ 0) : 2 * (y % (x % y)) < y := by
  have h1 : x % y < y := Nat.mod_lt _ (by omega)
  have h2 : y % (x % y) < x % y := Nat.mod_lt _ (by omega)
  have h3 := Nat.div_add_mod y (x % y)
  have h4 : 1 ≤ y / (x % y) := (Nat.le_div_iff_mul_le (by omega)).mpr (by omega)
  have h5 := Nat.mul_le_mul (Nat.le_refl (x % y)) h4
  omega
theorem lnz {y : Nat} (h : y ≠ 0) (hb : y < 2 ^ 63) : ¬ lN y = 0 := fun e => h (by rw [l_0, pk_lEQ hb (by omega)] at e; exact e)
theorem lnzb {y : Nat} (h : y ≠ 0) (hb : y < 2 ^ 63) : nzL (lN y) = true := by unfold nzL; rw [decide_eq_false (lnz h hb)]; rfl
theorem gd9 : ∀ (k x y c n : Nat), y < 2 ^ k → x < 2 ^ 63 → y < 2 ^ 63 → c + 2 * k ≤ 99 → lpX8_greatestDivisor_9 (n + 2 * k + 1) (lN x) (lN y) (nI c) = some (lN (Nat.gcd x y)) := by
  intro k
  induction k with
  | zero =>
    intro x y c n h1 h2 h3 h4
    have : y = 0 := by omega
    subst this
    rw [lpX8_greatestDivisor_9.eq_2, if_neg (show ¬ (100 : Int32) ≤ nI c from nI_ge (b := 100) (by omega) (by omega)), if_pos (show lN 0 = (0 : Int64) from rfl), Nat.gcd_zero_right]
  | succ k ih =>
    intro x y c n h1 h2 h3 h4
    rw [show n + 2 * (k + 1) + 1 = (n + 2 * k + 2) + 1 by omega, lpX8_greatestDivisor_9.eq_2, if_neg (show ¬ (100 : Int32) ≤ nI c from nI_ge (b := 100) (by omega) (by omega))]
    by_cases hy : y = 0
    · subst hy; rw [if_pos (show lN 0 = (0 : Int64) from rfl), Nat.gcd_zero_right]
    · have hm : x % y < y := Nat.mod_lt _ (by omega)
      rw [if_neg (lnz hy h3), og_mk _ (lnzb hy h3), nm_mk, nm_mk, pk_lRem h2 (by omega) h3, nI_1, gcd_s x y, show n + 2 * k + 2 = (n + 2 * k + 1) + 1 by omega, lpX8_greatestDivisor_9.eq_2, if_neg (show ¬ (100 : Int32) ≤ nI (c + 1) from nI_ge (b := 100) (by omega) (by omega))]
      by_cases hz : x % y = 0
      · rw [hz, if_pos (show lN 0 = (0 : Int64) from rfl), Nat.gcd_zero_right]
      · have h5 := half2 hz hy
        rw [Nat.pow_succ] at h1
        rw [if_neg (lnz hz (by omega)), og_mk _ (lnzb hz (by omega)), nm_mk, nm_mk, pk_lRem h3 (by omega) (by omega), nI_1, gcd_s y (x % y)]
        exact ih (x % y) (y % (x % y)) (c + 1 + 1) n (by omega) (by omega) (by omega) (by omega)
theorem gd8 {x y : Nat} (hx : x < 2 ^ 63) (hy : y ≤ 64000000) : fX8_greatestDivisor (lN x) (lN y) = some (lN (Nat.gcd x y)) := by
  unfold fX8_greatestDivisor
  obtain ⟨n, hn⟩ := fuN 53 (by omega)
  rw [hn, i_0, gd9 26 x y 0 n (by omega) hx (by omega) (by omega), bd1_mk]
theorem co17 : ∀ (k x y n : Nat), y < 2 ^ k → x < 2 ^ 63 → y < 2 ^ 63 → lpX9_common_17 (n + 2 * k + 1) (lN x) (lN y) = some (lN (Nat.gcd x y)) := by
  intro k
  induction k with
  | zero =>
    intro x y n h1 h2 h3
    have : y = 0 := by omega
    subst this
    rw [lpX9_common_17.eq_2, if_pos (show lN 0 = (0 : Int64) from rfl), Nat.gcd_zero_right]
  | succ k ih =>
    intro x y n h1 h2 h3
    rw [show n + 2 * (k + 1) + 1 = (n + 2 * k + 2) + 1 by omega, lpX9_common_17.eq_2]
    by_cases hy : y = 0
    · subst hy; rw [if_pos (show lN 0 = (0 : Int64) from rfl), Nat.gcd_zero_right]
    · have hm : x % y < y := Nat.mod_lt _ (by omega)
      rw [if_neg (lnz hy h3), og_mk _ (lnzb hy h3), nm_mk, pk_lRem h2 (by omega) h3, gcd_s x y, show n + 2 * k + 2 = (n + 2 * k + 1) + 1 by omega, lpX9_common_17.eq_2]
      by_cases hz : x % y = 0
      · rw [hz, if_pos (show lN 0 = (0 : Int64) from rfl), Nat.gcd_zero_right]
      · have h5 := half2 hz hy
        rw [Nat.pow_succ] at h1
        rw [if_neg (lnz hz (by omega)), og_mk _ (lnzb hz (by omega)), nm_mk, pk_lRem h3 (by omega) (by omega), gcd_s y (x % y)]
        exact ih (x % y) (y % (x % y)) n (by omega) (by omega) (by omega)
theorem co9 {x y : Nat} (hx : x < 2 ^ 63) (hy : y ≤ 64000000) : fX9_common (lN x) (lN y) = some (lN (Nat.gcd x y)) := by
  unfold fX9_common
  obtain ⟨n, hn⟩ := fuN 53 (by omega)
  have h0 : (0 : Int64) ≤ lN x := (pk_lLE (a := 0) (by omega) hx).mpr (Nat.zero_le x)
  rw [if_pos h0, bd1_mk, hn, co17 26 x y n (by omega) hx (by omega), bd1_mk]
theorem gc_b {x y : Nat} (hy : 0 < y) : 0 < Nat.gcd x y ∧ Nat.gcd x y ≤ y := ⟨Nat.gcd_pos_of_pos_right x hy, Nat.gcd_le_right x hy⟩
theorem thr8 {a g : Nat} (ha : a < 2 ^ 63) (hg : 0 < g) (hb : g < 2 ^ 63) : fX8_through (lN a) (lN g) = some (lN (a / g)) := by
  unfold fX8_through
  rw [if_neg (lnz (by omega) hb), og_mk _ (lnzb (by omega) hb), bd1_mk, pk_lDiv ha hg hb]
theorem lt8 {a b w : Nat} (ha : a < 2 ^ 63) (hb : 0 < b) (hb2 : b ≤ 64000000) (hw : w < 2) : fX8_inLowestTerms (lN a) (lN b) (nI w) = some (lN ((if w = 0 then a else b) / Nat.gcd a b)) := by
  unfold fX8_inLowestTerms
  obtain ⟨g1, g2⟩ := gc_b (x := a) hb
  rcases (show w = 0 ∨ w = 1 by omega) with rfl | rfl
  · rw [if_pos (show nI 0 = (0 : Int32) from rfl), bd1_mk, gd8 ha hb2, bd1_mk, thr8 ha g1 (by omega), bd1_mk, if_pos rfl]
  · rw [if_neg (show ¬ nI 1 = (0 : Int32) from one0), bd1_mk, gd8 ha hb2, bd1_mk, thr8 (by omega) g1 (by omega), bd1_mk, if_neg (by omega)]
theorem pt9 {a b w : Nat} (ha : a < 2 ^ 63) (hb : 0 < b) (hb2 : b ≤ 64000000) (hw : w < 2) : fX9_part (lN a) (lN b) (nI w) = some (lN ((if w = 0 then a else b) / Nat.gcd a b)) := by
  unfold fX9_part
  obtain ⟨g1, g2⟩ := gc_b (x := a) hb
  have hz := lnzb (show Nat.gcd a b ≠ 0 by omega) (by omega)
  rcases (show w = 0 ∨ w = 1 by omega) with rfl | rfl
  · rw [co9 ha hb2, bd1_mk, if_pos (show nI 0 = (0 : Int32) from rfl), og_mk _ hz, bd1_mk, pk_lDiv ha g1 (by omega), if_pos rfl]
  · rw [co9 ha hb2, bd1_mk, if_neg (show ¬ nI 1 = (0 : Int32) from one0), og_mk _ hz, bd1_mk, pk_lDiv (by omega) g1 (by omega), if_neg (by omega)]
theorem pT8 {f : Nat → Int32} {τ : Nat → Nat} (hf : TC f τ) (hT : TK τ) {t j : Nat} (hj : j ≤ t) (ht : t ≤ 6) : fX7_priceTop (nI t) (nI j) f = some (lN (τ 1 * τ 2 ^ j * τ 4 ^ (t - j))) := by
  unfold fX7_priceTop
  rw [cl_1, cl_2, cl_4, hf 1 (by omega), hf 2 (by omega), hf 4 (by omega), nI_l (n := τ 1) (by omega), nI_l (n := τ 2) (by omega), nI_l (n := τ 4) (by omega), pw8 _ (by omega), bd1_mk, pk_sub hj, pw8 _ (by omega), bd1_mk, lN_mul, lN_mul]
theorem pB8 {f : Nat → Int32} {τ : Nat → Nat} (hf : TC f τ) (hT : TK τ) {t j : Nat} (hj : j ≤ t) (ht : t ≤ 6) : fX7_priceBottom (nI t) (nI j) f = some (lN (τ 3 ^ j * τ 5 ^ (t - j))) := by
  unfold fX7_priceBottom
  rw [cl_3, cl_5, hf 3 (by omega), hf 5 (by omega), nI_l (n := τ 3) (by omega), nI_l (n := τ 5) (by omega), pw8 _ (by omega), bd1_mk, pk_sub hj, pw8 _ (by omega), bd1_mk, lN_mul]
theorem q_price {tr tree : Nat → Int32} {τ : Nat → Nat} (hf : TC tr τ) (hf9 : TR tree 0 τ) (hT : TK τ) (p1 p2 p3 : Int32) (a b : Int64) : ∃ v s, fX8_price p1 p2 p3 tr = some v ∧ fX9_price p1 p2 p3 tree a b = some (v, s) := by
  by_cases h1 : inr p1 0 (τ 0)
  rotate_left
  · exact ⟨-1, (a, b), by unfold fX8_price; rw [isd8n hf hT h1, bd1_mk, if_pos rfl], by unfold fX9_price; rw [isd9n hf9 hT h1, bd1_mk, if_pos rfl]⟩
  obtain ⟨t, rfl, _, t2, t3⟩ := inr_n h1 (Int.le_refl 0)
  by_cases h2 : inr p2 0 (t : Int)
  rotate_left
  · exact ⟨-1, (a, b), by unfold fX8_price; rw [isd8y hf hT h1, bd1_mk, if_neg one0, wi0 h2 rfl (nI_toInt t3), bd1_mk, if_pos rfl], by unfold fX9_price; rw [isd9y hf9 hT h1, bd1_mk, if_neg one0, in0 h2 rfl (by rw [Int32.toInt_toInt64, nI_toInt t3]), bd1_mk, if_pos rfl]⟩
  obtain ⟨j, rfl, _, j2, _⟩ := inr_n h2 (Int.le_refl 0)
  by_cases h3 : inr p3 0 2
  rotate_left
  · exact ⟨-1, (a, b), by unfold fX8_price; rw [isd8y hf hT h1, bd1_mk, if_neg one0, wi1 h2 rfl (nI_toInt t3), bd1_mk, if_neg one0, wi0 h3, bd1_mk, if_pos rfl], by unfold fX9_price; rw [isd9y hf9 hT h1, bd1_mk, if_neg one0, in1 h2 rfl (by rw [Int32.toInt_toInt64, nI_toInt t3]), bd1_mk, if_neg one0, in0 h3, bd1_mk, if_pos rfl]⟩
  obtain ⟨w, rfl, _, w2, _⟩ := inr_n h3 (by decide)
  have hj : j ≤ t := by omega
  have ht : t ≤ 6 := by omega
  have k1 := pt_le hT (s := τ 1) (by omega) hj ht
  have k2 := pb_le hT hj ht
  have k3 := pb_pos hT j t
  obtain ⟨g1, g2⟩ := gc_b (x := τ 1 * τ 2 ^ j * τ 4 ^ (t - j)) k3
  have e9 : fX9_prices 0 (tree (Int32.toNatClampNeg 1)) (nI t) (nI j) tree a b = some (lN (τ 1 * τ 2 ^ j * τ 4 ^ (t - j)), lN (τ 3 ^ j * τ 5 ^ (t - j))) := by
    rw [cl_1, tr0 hf9 (by omega)]
    exact pr9 (w := 0) hf9 (by omega) ht hj (by omega) hT a b
  refine ⟨lN (if w = 0 then prF τ (τ 1) t j else if w = 1 then τ 1 * τ 2 ^ j * τ 4 ^ (t - j) / Nat.gcd (τ 1 * τ 2 ^ j * τ 4 ^ (t - j)) (τ 3 ^ j * τ 5 ^ (t - j)) else τ 3 ^ j * τ 5 ^ (t - j) / Nat.gcd (τ 1 * τ 2 ^ j * τ 4 ^ (t - j)) (τ 3 ^ j * τ 5 ^ (t - j))), (lN (τ 1 * τ 2 ^ j * τ 4 ^ (t - j)), lN (τ 3 ^ j * τ 5 ^ (t - j))), ?_, ?_⟩
  · unfold fX8_price
    rw [isd8y hf hT h1, bd1_mk, if_neg one0, wi1 h2 rfl (nI_toInt t3), bd1_mk, if_neg one0, wi1 h3, bd1_mk, if_neg one0, pe8 hf hT hj ht, bd1_mk, pT8 hf hT hj ht, bd1_mk, pB8 hf hT hj ht, bd1_mk]
    rcases (show w = 0 ∨ w = 1 ∨ w = 2 by omega) with rfl | rfl | rfl
    · rw [if_pos (show nI 0 = (0 : Int32) from rfl), if_pos rfl]
    · rw [if_neg (show ¬ nI 1 = (0 : Int32) from one0), if_pos (show nI 1 = (1 : Int32) from rfl), bd1_mk, gd8 (by omega) k2, bd1_mk, thr8 (by omega) g1 (by omega), bd1_mk]; rfl
    · rw [if_neg (show ¬ nI 2 = (0 : Int32) by decide), if_neg (show ¬ nI 2 = (1 : Int32) by decide), bd1_mk, gd8 (by omega) k2, bd1_mk, thr8 (by omega) g1 (by omega), bd1_mk]; rfl
  · unfold fX9_price
    rw [isd9y hf9 hT h1, bd1_mk, if_neg one0, in1 h2 rfl (by rw [Int32.toInt_toInt64, nI_toInt t3]), bd1_mk, if_neg one0, in1 h3, bd1_mk, if_neg one0, e9, bd2_mk, co9 (by omega) k2, bd1_mk]
    have hz := lnzb (show Nat.gcd (τ 1 * τ 2 ^ j * τ 4 ^ (t - j)) (τ 3 ^ j * τ 5 ^ (t - j)) ≠ 0 by omega) (by omega)
    rcases (show w = 0 ∨ w = 1 ∨ w = 2 by omega) with rfl | rfl | rfl
    · rw [if_pos (show nI 0 = (0 : Int32) from rfl), og_mk _ (lnzb (by omega) (by omega)), bd1_mk, l_100, lN_mul, pk_lDiv (by omega) k3 (by omega), if_pos rfl]
      unfold prF
      rw [if_pos ⟨hj, ht⟩]
    · rw [if_neg (show ¬ nI 1 = (0 : Int32) from one0), if_pos (show nI 1 = (1 : Int32) from rfl), og_mk _ hz, bd1_mk, pk_lDiv (by omega) g1 (by omega)]; rfl
    · rw [if_neg (show ¬ nI 2 = (0 : Int32) by decide), if_neg (show ¬ nI 2 = (1 : Int32) by decide), og_mk _ hz, bd1_mk, pk_lDiv (by omega) g1 (by omega)]; rfl
end
