/-! pure: the path on both sides (own rows) -/
abbrev MV (mv : Nat → Int32) (r : Nat) : Prop := ∀ i, i < dR r → mv i = nI (r / 2 ^ (dR r - 1 - i) % 2)
def pfx (r i : Nat) : Nat := r / 2 ^ (dR r - i)
theorem pf1 : ∀ r, r < 128 → 1 ≤ r → ∀ i, i < 7 → i ≤ dR r → dR (pfx r i) = i ∧ 1 ≤ pfx r i ∧ pfx r i < 128 := by decide +kernel
theorem pf2 : ∀ r, r < 128 → 1 ≤ r → ∀ i, i < 6 → i < dR r → pfx r (i + 1) = 2 * pfx r i + r / 2 ^ (dR r - 1 - i) % 2 ∧ pfx r i < 64 := by decide +kernel
theorem pf0 : ∀ r, r < 128 → 1 ≤ r → pfx r 0 = 1 := by decide +kernel
theorem pfd (r : Nat) : pfx r (dR r) = r := by unfold pfx; rw [Nat.sub_self, Nat.pow_zero, Nat.div_one]
def aT (π : Nat → Nat → Nat) (β : Nat → Nat) (r : Nat) : Nat := atN (dR r) (uR r) (bR r) (mR π β r)
theorem okR (π : Nat → Nat → Nat) (β : Nat → Nat) {r : Nat} (h1 : 1 ≤ r) (h : r < 128) : okM π β (dR r) (uR r) (bR r) (mR π β r) := by
  obtain ⟨⟨b1, b2, b3⟩, b4, b5, b6⟩ := row_b1 r h h1
  obtain ⟨c1, c2⟩ := row_b2 r h h1
  exact ⟨⟨b2, b4, c1, c2, row_b3 r h h1⟩, mR_lt π β r, mR_2 π β h1 h⟩
theorem aT_lt (π : Nat → Nat → Nat) (β : Nat → Nat) {r : Nat} (h1 : 1 ≤ r) (h : r < 128) : aT π β r < 784 := by
  obtain ⟨⟨b1, b2, b3⟩, b4, b5, b6⟩ := row_b1 r h h1
  exact atN_lt b1 b2 b4 (mR_lt π β r)
theorem sta9 {bs : Nat → Int32} {pe : Nat → Int64} {k T : Nat} {β : Nat → Nat} {π : Nat → Nat → Nat} (hb : RB bs k β) (hK : BK β) (hp : PK π) (hP : RP pe T π) (hT : T ≤ 6) (s1 s2 s3 s4 : Int32) : fX9_starts (nI k) bs pe s1 s2 s3 s4 = some (nI (dR 1), nI (uR 1), nI (bR 1), nI (mR π β 1)) := by
  unfold fX9_starts
  rw [i_0, hi9 hb hK hp hP hT (Nat.le_refl 0) (Nat.zero_le T), bd1_mk, mR_1]
  rfl
theorem go9 {bs : Nat → Int32} {pe : Nat → Int64} {k T : Nat} {β : Nat → Nat} {π : Nat → Nat → Nat} (hb : RB bs k β) (hK : BK β) (hp : PK π) (hP : RP pe T π) (hT : T ≤ 6) {r b : Nat} (h1 : 1 ≤ r) (h : r < 64) (hbb : b < 2) (hd : dR r < T) (u : Int32) : fX9_goesOn (nI k) (nI b) bs pe (nI (dR r)) (nI (uR r)) u (nI (mR π β r)) = some (nI (dR (2 * r + b)), nI (uR (2 * r + b)), nI (bR (2 * r + b)), nI (mR π β (2 * r + b))) := by
  obtain ⟨⟨b1, b2, b3⟩, b4, b5, b6⟩ := row_b1 r (by omega) h1
  obtain ⟨c1, c2, c3, _⟩ := row_s r h h1 b hbb
  unfold fX9_goesOn
  rw [nm_mk, nm_mk, nI_1, nI_add, hi9 hb hK hp hP hT (by omega) (by omega), bd1_mk, nm_mk, shm _ (mR_lt _ _ _) _ (hiF_lt _ _), c1, c2, c3, mR_s π β h1 h hbb]
  rfl
theorem fo7 {bs mv : Nat → Int32} {pe : Nat → Int64} {k T : Nat} {β : Nat → Nat} {π : Nat → Nat → Nat} (hb : RB bs k β) (hK : BK β) (hp : PK π) (hP : RP pe T π) (hT : T ≤ 6) {r : Nat} (h1 : 1 ≤ r) (h : r < 128) (hd : dR r ≤ T) (hm : MV mv r) : ∀ (i n x : Nat), x + i = dR r → lpX9_follows_7 (nI k) (nI (dR r)) bs mv pe (n + i + 1) (nI x) (nI (dR (pfx r x))) (nI (uR (pfx r x))) (nI (bR (pfx r x))) (nI (mR π β (pfx r x))) = some (nI (dR r), nI (uR r), nI (bR r), nI (mR π β r)) := by
  have hd6 := (row_b1 r h h1).1.1
  intro i
  induction i with
  | zero =>
    intro n x hi
    rw [lpX9_follows_7.eq_2, if_pos (nI_le (by omega) (by omega)), show x = dR r by omega, pfd]
  | succ i ih =>
    intro n x hi
    obtain ⟨g1, g2⟩ := pf2 r h h1 x (by omega) (by omega)
    obtain ⟨g3, g4, _⟩ := pf1 r h h1 x (by omega) (by omega)
    rw [lpX9_follows_7.eq_2, if_neg (nI_ge (by omega) (by omega)), og32 (by omega) (by omega), nI_clamp (by omega), hm x (by omega), go9 hb hK hp hP hT g4 g2 (by omega) (by omega), bd4_mk, nm_mk, nI_1, ← g1, show n + (i + 1) = n + i + 1 by omega]
    exact ih n (x + 1) (by omega)
theorem fo9 {bs mv : Nat → Int32} {pe : Nat → Int64} {k T : Nat} {β : Nat → Nat} {π : Nat → Nat → Nat} (hb : RB bs k β) (hK : BK β) (hp : PK π) (hP : RP pe T π) (hT : T ≤ 6) {r : Nat} (h1 : 1 ≤ r) (h : r < 128) (hd : dR r ≤ T) (hm : MV mv r) (s1 s2 s3 s4 : Int32) : fX9_follows (nI k) (nI (dR r)) bs mv pe s1 s2 s3 s4 = some (nI (dR r), nI (uR r), nI (bR r), nI (mR π β r)) := by
  unfold fX9_follows
  obtain ⟨n, hn⟩ := fuN (dR r + 1) (by omega)
  have := fo7 hb hK hp hP hT h1 h hd hm (dR r) n 0 (by omega)
  rw [pf0 r h h1] at this
  rw [sta9 hb hK hp hP hT, bd4_mk, hn, i_0, show n + (dR r + 1) = n + dR r + 1 by omega, this, bd4_mk]
theorem hn9 (π : Nat → Nat → Nat) (β : Nat → Nat) (r : Nat) : fX9_hereNow (nI (dR r)) (nI (uR r)) (nI (bR r)) (nI (mR π β r)) = some (nI (aT π β r)) := by
  unfold fX9_hereNow
  rw [at9, bd1_mk]; rfl
/-- all states, by rows -/
theorem GD.r {π : Nat → Nat → Nat} {T p q R : Nat} {β : Nat → Nat} {wo ho : Nat → Int64} {ac : Nat → Int32} (h : GD π T p q R β (fun _ _ _ _ => True) wo ho ac) {r : Nat} (h1 : 1 ≤ r) (h2 : r < 128) (hd : dR r ≤ T) : wo (aT π β r) = lN (vR π T p q R β (bV π β) r) ∧ (ho (aT π β r) = if dR r = T then lN (β 0) else lN (hR π T p q R β (bV π β) r)) ∧ ac (aT π β r) = nI (aR π T p q R β (bV π β) (bA π β) r) := by
  obtain ⟨g1, g2, g3⟩ := h (dR r) (uR r) (bR r) (mR π β r) hd (okR π β h1 h2) trivial
  refine ⟨g1, ?_, ?_⟩
  · unfold hoS at g2
    by_cases e : dR r = T
    · rw [if_pos e] at g2 ⊢; exact g2
    · rw [if_neg e] at g2 ⊢; exact g2
  · exact g3
theorem pn9 {tree bs : Nat → Int32} {τ β : Nat → Nat} (hf9 : TR tree 0 τ) (hT : TK τ) {k : Nat} (hk : k < 3) (hb : RB bs k β) (hK : BK β) (x0 x1 x2 x3 : Int32) (pe9 : Nat → Int64) (a9 b9 : Int64) (wo9 ho9 : Nat → Int64) (ac9 : Nat → Int32) : Sx (fX9_playsNow (nI k) tree bs x0 x1 x2 x3 pe9 a9 b9 wo9 ho9 ac9) (fun z => z.1 = nI (τ 0) ∧ z.2.1 = nI (τ 6) ∧ z.2.2.1 = nI (τ 7) ∧ z.2.2.2.1 = nI (τ 8) ∧ RP z.2.2.2.2.1 (τ 0) (prF τ (τ 1)) ∧ GD (prF τ (τ 1)) (τ 0) (τ 6) (τ 7) (τ 8) β (fun _ _ _ _ => True) z.2.2.2.2.2.2.2.1 z.2.2.2.2.2.2.2.2.1 z.2.2.2.2.2.2.2.2.2) := by
  unfold fX9_playsNow
  refine Sx.b7 (tn9 hf9 hT x0 x1 x2 x3 pe9 a9 b9) ?_
  rintro d0 d1 d2 d3 pe' d5 d6 ⟨rfl, rfl, rfl, rfl, hP⟩
  dsimp only at hP ⊢
  refine Sx.b3 (pl9 hb hK (prF_PK hT (by omega)) hP hT.n wo9 ho9 ac9) ?_
  intro a0 a1 a2 hg
  exact Sx.mk ⟨rfl, rfl, rfl, rfl, hP, hg⟩
