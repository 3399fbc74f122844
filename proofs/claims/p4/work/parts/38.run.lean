/-! pure: run, along: both sides (own rows) -/
theorem sw2 (m0 a0 : Nat → Int32) : ∀ (i n x : Nat) (mv as : Nat → Int32), x + i = 6 → (∀ y, y < 6 → mv y = (if y < x then a0 y else m0 y) ∧ as y = (if y < x then m0 y else a0 y)) → Sx (lpX9_swaps_2 (n + i + 1) (nI x) mv as) (fun z => ∀ y, y < 6 → z.1 y = a0 y ∧ z.2 y = m0 y) := by
  intro i
  induction i with
  | zero =>
    intro n x mv as hi hg
    rw [lpX9_swaps_2.eq_2]
    refine Sx.p (show (6 : Int32) ≤ nI x from nI_le (a := 6) (by omega) (by omega)) (Sx.mk ?_)
    intro y hy
    have := hg y hy
    rwa [if_pos (by omega), if_pos (by omega)] at this
  | succ i ih =>
    intro n x mv as hi hg
    rw [lpX9_swaps_2.eq_2]
    refine Sx.n (show ¬ (6 : Int32) ≤ nI x from nI_ge (b := 6) (by omega) (by omega)) ?_
    rw [og32 (by omega) (by omega), nm_mk, og32 (by omega) (by omega), og32 (by omega) (by omega), nm_mk, og32 (by omega) (by omega), nm_mk, nm_mk, nI_clamp (by omega), nI_1, show n + (i + 1) = n + i + 1 by omega]
    refine ih n (x + 1) _ _ (by omega) ?_
    intro y hy
    obtain ⟨h1, h2⟩ := hg y hy
    obtain ⟨h3, h4⟩ := hg x (by omega)
    rw [if_neg (by omega)] at h3 h4
    rw [upS, upS]
    by_cases e : y = x
    · subst e
      rw [if_pos rfl, if_pos rfl, if_pos (by omega), if_pos (by omega)]
      exact ⟨h4, h3⟩
    · rw [if_neg e, if_neg e, h1, h2]
      by_cases g : y < x
      · rw [if_pos g, if_pos g, if_pos (by omega), if_pos (by omega)]; exact ⟨rfl, rfl⟩
      · rw [if_neg g, if_neg g, if_neg (by omega), if_neg (by omega)]; exact ⟨rfl, rfl⟩
theorem sw9 (mv as : Nat → Int32) : Sx (fX9_swaps mv as) (fun z => ∀ y, y < 6 → z.1 y = as y ∧ z.2 y = mv y) := by
  unfold fX9_swaps
  obtain ⟨n, hn⟩ := fuN 7 (by omega)
  rw [hn, i_0]
  refine Sx.b2 (sw2 mv as 6 n 0 mv as (by omega) (fun y hy => by rw [if_neg (by omega), if_neg (by omega)]; exact ⟨rfl, rfl⟩)) (fun _ _ h => Sx.mk h)
theorem rn55 (w1 w3 w6 : Int32) (w4 : Int64) {T p q : Nat} (hT : T ≤ 6) (hq : 1 ≤ p ∧ p < q ∧ q ≤ 20) : ∀ (i n r a : Nat) (mv : Nat → Int32), 1 ≤ r → r < 128 → dR r + i = T → a < 65536 → MV mv r → Sx (lpX9_run_55 w1 w3 w4 w6 (nI T) (nI p) (nI q) (n + i + 1) (nI (dR r)) mv (nI a)) (fun z => MV z.1 (dwR p q i r a).1 ∧ z.2 = nI (dwR p q i r a).2) := by
  intro i
  induction i with
  | zero =>
    intro n r a mv h1 h2 hi ha hmv
    rw [lpX9_run_55.eq_2]
    exact Sx.p (nI_le (by omega) (by omega)) (Sx.mk ⟨hmv, rfl⟩)
  | succ i ih =>
    intro n r a mv h1 h2 hi ha hmv
    have hb := dwB_lt p q a
    have hq2 : dX a / 4 % q < q := Nat.mod_lt _ (by omega)
    have h6 := dR_64 r h2 h1 (by omega)
    obtain ⟨c1, c2, _, _⟩ := row_s r h6 h1 (dwB p q a) hb
    have e : (if nI p ≤ nI (dX a / 4 % q) then some (0 : Int32) else some 1) = some (nI (dwB p q a)) := by
      unfold dwB
      by_cases g : dX a / 4 % q < p
      · rw [if_pos g, if_neg (nI_ge g (by omega))]; rfl
      · rw [if_neg g, if_pos (nI_le (by omega) (by omega))]; rfl
    rw [lpX9_run_55.eq_2]
    refine Sx.n (nI_ge (by omega) (by omega)) (Sx.e2 (drw9 ha (by omega) (by omega)) (Sx.e1 e ?_))
    rw [og32 (by omega) (by omega), nm_mk, nm_mk, nI_clamp (by omega), nI_1, ← c1, show n + (i + 1) = n + i + 1 by omega]
    exact ih n _ _ _ (by omega) (by omega) (by omega) (dX_lt a) (hmv.up h1 h6 hb)
def paR (π : Nat → Nat → Nat) (β : Nat → Nat) (A : Nat → Nat) (r : Nat) : Nat := pyA π β (A (pfx r (ex A r))) (pfx r (ex A r)) + cpS β (ex A r)
def ruS (f : Nat → Nat) (p q T : Nat) : Nat → Int64 → Nat → Int64
  | 0, s, _ => s
  | n + 1, s, a => ruS f p q T n (s + lN (f (dwR p q T 1 a).1)) (dwR p q T 1 a).2
theorem rn46 {bs : Nat → Int32} {pe : Nat → Int64} {k T p q : Nat} {β : Nat → Nat} {π : Nat → Nat → Nat} (hb : RB bs k β) (hK : BK β) (hp : PK π) (hP : RP pe T π) (hT : T ≤ 6) (hq : 1 ≤ p ∧ p < q ∧ q ≤ 20) {ac : Nat → Int32} {A : Nat → Nat} (hA : ∀ r, 1 ≤ r → r < 128 → dR r ≤ T → ac (aT π β r) = nI (A r) ∧ pyK π T β (A r) r) (hE : ∀ r, dR r = T → A r ≠ 0) {m : Nat} (hm : m ≤ 100) : ∀ (i n x a : Nat) (s : Int64) (mv : Nat → Int32) (s1 s2 s3 s4 : Int32) (s5 : Int64), x + i = m → a < 65536 → Sx (lpX9_run_46 (nI k) (nI m) bs (nI T) (nI p) (nI q) pe ac (n + i + 1) s (nI x) mv (nI a) s1 s2 s3 s4 s5) (fun z => z.1 = ruS (paR π β A) p q T i s a) := by
  have hd1 : dR 1 = 0 := by decide +kernel
  intro i
  induction i with
  | zero =>
    intro n x a s mv s1 s2 s3 s4 s5 hi ha
    rw [lpX9_run_46.eq_2]
    exact Sx.p (nI_le (by omega) (by omega)) (Sx.mk rfl)
  | succ i ih =>
    intro n x a s mv s1 s2 s3 s4 s5 hi ha
    rw [lpX9_run_46.eq_2]
    refine Sx.n (nI_ge (by omega) (by omega)) ?_
    obtain ⟨g1, g2, g3, g4⟩ := dwR_p p q T 1 a (by omega) (by omega) (by omega) ha
    have gT : dR (dwR p q T 1 a).1 = T := by rw [g1, hd1, Nat.zero_add]
    obtain ⟨n', hn'⟩ := fuN (T + 1) (by omega)
    rw [hn', show n' + (T + 1) = n' + T + 1 by omega, i_0, show nI 0 = nI (dR 1) from rfl]
    refine Sx.b2 (rn55 (nI k) (nI m) (nI x) s hT hq T n' 1 a mv (by omega) (by omega) (by omega) ha MV.one) ?_
    rintro mv' d ⟨hmv, rfl⟩
    dsimp only at hmv ⊢
    have hAr : ∀ j, j ≤ dR (dwR p q T 1 a).1 → ac (aT π β (pfx (dwR p q T 1 a).1 j)) = nI (A (pfx (dwR p q T 1 a).1 j)) ∧ pyK π T β (A (pfx (dwR p q T 1 a).1 j)) (pfx (dwR p q T 1 a).1 j) := by
      intro j hj
      obtain ⟨q1, q2, q3⟩ := pf1 _ g3 g2 j (by omega) hj
      exact hA _ q2 q3 (by omega)
    have hne : ¬ A (pfx (dwR p q T 1 a).1 (ex A (dwR p q T 1 a).1)) = 0 := ex_end A (hE _ gT)
    have he := ea9 hb hK hp hP hT g2 g3 (by omega) hmv hAr s1 s2 s3 s4 s5
    rw [gT, if_neg hne, if_neg hne] at he
    refine Sx.e6 he ?_
    refine Sx.e1 (if_neg (by decide)) ?_
    rw [nm_mk, nI_1, show n + (i + 1) = n + i + 1 by omega]
    exact ih n (x + 1) _ _ _ _ _ _ _ _ (by omega) g4
theorem rn40 {tr ts : Nat → Int32} {τ β : Nat → Nat} {π : Nat → Nat → Nat} (hf : TC tr τ) (hT : TK τ) (hb : CB ts β) (hK : BK β) {tu : Nat → Int64} {ac : Nat → Int32} {A : Nat → Nat} (hA : ∀ r, 1 ≤ r → r < 128 → dR r ≤ τ 0 → ac r = nI (A r) ∧ pyK π (τ 0) β (A r) r ∧ tu r = lC (tuS π β (dR r) (uR r) (bR r))) (hE : ∀ r, dR r = τ 0 → A r ≠ 0) {m : Nat} (hm : m ≤ 100) : ∀ (i n x a : Nat) (s : Int64), x + i = m → a < 65536 → Sx (lpX8_run_40 (nI m) tr ts tu ac (n + i + 1) s (nI x) (nI a)) (fun z => z.1 = ruS (paR π β A) (τ 6) (τ 7) (τ 0) i s a) := by
  have hd1 : dR 1 = 0 := by decide +kernel
  intro i
  induction i with
  | zero =>
    intro n x a s hi ha
    rw [lpX8_run_40.eq_2]
    exact Sx.p (nI_le (by omega) (by omega)) (Sx.mk rfl)
  | succ i ih =>
    intro n x a s hi ha
    rw [lpX8_run_40.eq_2]
    refine Sx.n (nI_ge (by omega) (by omega)) ?_
    obtain ⟨g1, g2, g3, g4⟩ := dwR_p (τ 6) (τ 7) (τ 0) 1 a (by omega) (by omega) (by omega) ha
    have gT : dR (dwR (τ 6) (τ 7) (τ 0) 1 a).1 = τ 0 := by rw [g1, hd1, Nat.zero_add]
    refine Sx.e1 (ld8 hf hT) (Sx.e2 (dro8 hf hT (by omega) ha) ?_)
    have hAr : ∀ j, j ≤ dR (dwR (τ 6) (τ 7) (τ 0) 1 a).1 → ac (pfx (dwR (τ 6) (τ 7) (τ 0) 1 a).1 j) = nI (A (pfx (dwR (τ 6) (τ 7) (τ 0) 1 a).1 j)) ∧ A (pfx (dwR (τ 6) (τ 7) (τ 0) 1 a).1 j) ≤ 6 := by
      intro j hj
      obtain ⟨q1, q2, q3⟩ := pf1 _ g3 g2 j (by omega) hj
      have := hA _ q2 q3 (by omega)
      exact ⟨this.1, this.2.1.1⟩
    have hne : ¬ A (pfx (dwR (τ 6) (τ 7) (τ 0) 1 a).1 (ex A (dwR (τ 6) (τ 7) (τ 0) 1 a).1)) = 0 := ex_end A (hE _ gT)
    have hle := ex_le A (dwR (τ 6) (τ 7) (τ 0) 1 a).1
    obtain ⟨q1, q2, q3⟩ := pf1 _ g3 g2 (ex A (dwR (τ 6) (τ 7) (τ 0) 1 a).1) (by omega) hle
    have hAe := hA _ q2 q3 (by omega)
    have he := ea8 g2 g3 hAr
    rw [if_neg hne] at he
    refine Sx.e1 he (Sx.e1 (put8 hb hK q2 q3 hAe.1 hAe.2.2 hAe.2.1) ?_)
    rw [nm_mk, nm_mk, nI_1, show n + (i + 1) = n + i + 1 by omega, q1]
    exact ih n (x + 1) _ _ (by omega) g4
/-- the best acts, by rows -/
def A1 (τ β : Nat → Nat) (r : Nat) : Nat := aR (prF τ (τ 1)) (τ 0) (τ 6) (τ 7) (τ 8) β (bV (prF τ (τ 1)) β) (bA (prF τ (τ 1)) β) r
theorem row_T {τ : Nat → Nat} (hT : TK τ) {r : Nat} (h1 : 1 ≤ r) (h : r < 128) (hd : dR r ≤ τ 0) : r < 2 * 2 ^ τ 0 := by
  have h4 := (row_b1 r h h1).2.2.2
  have h5 := Nat.pow_le_pow_right (show 0 < 2 by omega) hd
  omega
theorem SB.a {τ β : Nat → Nat} (hT : TK τ) {pe tu ca ho va : Nat → Int64} {ma ac : Nat → Int32} (hS : SB τ β pe tu ca ho va ma ac) : ∀ r, 1 ≤ r → r < 128 → dR r ≤ τ 0 → ac r = nI (A1 τ β r) ∧ pyK (prF τ (τ 1)) (τ 0) β (A1 τ β r) r ∧ tu r = lC (tuS (prF τ (τ 1)) β (dR r) (uR r) (bR r)) := by
  intro r h1 h hd
  have hr := row_T hT h1 h hd
  exact ⟨(hS.2 r h1 h1 hr).2.2, aR_k _ _ _ _ _ _ hd, (hS.1 r h1 hr).2.1⟩
theorem GD.a {τ β : Nat → Nat} {wo ho : Nat → Int64} {ac : Nat → Int32} (h : GD (prF τ (τ 1)) (τ 0) (τ 6) (τ 7) (τ 8) β (fun _ _ _ _ => True) wo ho ac) : ∀ r, 1 ≤ r → r < 128 → dR r ≤ τ 0 → ac (aT (prF τ (τ 1)) β r) = nI (A1 τ β r) ∧ pyK (prF τ (τ 1)) (τ 0) β (A1 τ β r) r := by
  intro r h1 h2 hd
  exact ⟨(h.r h1 h2 hd).2.2, aR_k _ _ _ _ _ _ hd⟩
theorem q_run {tr b0 b1 b2 tree bs : Nat → Int32} {τ : Nat → Nat} {B : Nat → Nat → Nat} (hf : TC tr τ) (hf9 : TR tree 0 τ) (hT : TK τ) (hB : CB3 b0 b1 b2 B) (hb9 : ∀ k, k < 3 → RB bs k (B k)) {mv : Nat → Int32} (p1 p2 p3 : Int32) (st sb : Nat → Int32) (pu pe tu ca ho va : Nat → Int64) (ma ac : Nat → Int32) (dx : Int32) (x0 x1 x2 x3 : Int32) (pe9 : Nat → Int64) (a9 b9 : Int64) (dn : Int32) (wo9 ho9 : Nat → Int64) (ac9 : Nat → Int32) (s1 s2 s3 s4 : Int32) (s5 : Int64) (as9 : Nat → Int32) : Sx2 (fX8_run p1 p2 p3 tr b0 b1 b2 st sb pu pe tu ca ho va ma ac dx) (fX9_run p1 p2 p3 tree bs mv x0 x1 x2 x3 pe9 a9 b9 dn wo9 ho9 ac9 s1 s2 s3 s4 s5 as9) (fun _ t => ∀ y, y < 6 → t.1 y = mv y) := by
  by_cases h1 : inr p1 0 2
  rotate_left
  · exact Sx2.mk (by unfold fX8_run; rw [isb8n h1, bd1_mk, if_pos rfl]) (by unfold fX9_run; rw [isb9n h1, bd1_mk, if_pos rfl]) (fun _ _ => rfl)
  by_cases h2 : inr p3 1 100
  rotate_left
  · exact Sx2.mk (by unfold fX8_run; rw [isb8y h1, bd1_mk, if_neg one0, wi0 h2, bd1_mk, if_pos rfl]) (by unfold fX9_run; rw [isb9y h1, bd1_mk, if_neg one0, in0 h2, bd1_mk, if_pos rfl]) (fun _ _ => rfl)
  obtain ⟨k, rfl, _, hk, _⟩ := inr_n h1 (by decide)
  have hk3 : k < 3 := by omega
  obtain ⟨m, rfl, _, m2, _⟩ := inr_n h2 (by decide)
  have hs : p2.toBitVec.toNat % 65536 < 65536 := Nat.mod_lt _ (by omega)
  obtain ⟨n, hn⟩ := fuN (m + 1) (by omega)
  have hp := prF_PK hT (show τ 1 ≤ 1000 by omega)
  refine Sx2.val (v := ruS (paR (prF τ (τ 1)) (B k) (A1 τ (B k))) (τ 6) (τ 7) (τ 0) m 0 (p2.toBitVec.toNat % 65536)) ?_ ?_
  · unfold fX8_run fX1_begin
    rw [isb8y h1, bd1_mk, if_neg one0, wi1 h2, bd1_mk, if_neg one0]
    refine Sx.b10 (wo8 hk3 hf hT hB st sb pu pe tu ca ho va ma ac) ?_
    rintro c0 c1 c2 c3 c4 c5 c6 c7 c8 c9 ⟨hc, hcb, hsb⟩
    dsimp only at hc hcb hsb
    rw [nm_mk, bd1_mk, seed16, hn, show n + (m + 1) = n + m + 1 by omega, i_0]
    exact Sx.b2 (rn40 hf hT hcb (hB k hk3).2 (hsb.a hT) (fun r hr => aR_T _ _ _ _ _ _ hr) (by omega) m n 0 _ 0 (by omega) hs) (fun _ _ h => Sx.mk h)
  · unfold fX9_run
    rw [isb9y h1, bd1_mk, if_neg one0, in1 h2, bd1_mk, if_neg one0]
    refine Sx.b10 (pn9 hf9 hT hk3 (hb9 k hk3) (hB k hk3).2 x0 x1 x2 x3 pe9 a9 b9 wo9 ho9 ac9) ?_
    rintro d0 d1 d2 d3 pe' d5 d6 d7 d8 d9 ⟨rfl, rfl, rfl, rfl, hP, hG⟩
    dsimp only at hP hG ⊢
    refine Sx.b2 (sw9 mv as9) ?_
    intro mv1 as1 hw1
    dsimp only at hw1
    rw [nm_mk, seed16, hn, show n + (m + 1) = n + m + 1 by omega, i_0]
    refine Sx.b8 (rn46 (hb9 k hk3) (hB k hk3).2 hp hP (by omega) (by omega) hG.a (fun r hr => aR_T _ _ _ _ _ _ hr) (by omega) m n 0 _ 0 mv1 s1 s2 s3 s4 s5 (by omega) hs) ?_
    rintro e0 e1 e2 e3 e4 e5 e6 e7 rfl
    refine Sx.b2 (sw9 e1 as1) ?_
    intro mv2 as2 hw2
    dsimp only at hw2
    refine Sx.mk ⟨rfl, fun y hy => ?_⟩
    show mv2 y = mv y
    rw [(hw2 y hy).1, (hw1 y hy).2]
