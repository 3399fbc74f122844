/-! pure: states that can be come to: both sides (own rows) -/
def kR (π : Nat → Nat → Nat) (β : Nat → Nat) (r : Nat) : Nat := uR r * 16 + mR π β r * 2 + bR r
def ph (x : Nat) : Nat := x / 16 * 16 + x % 8 * 2 + x / 8 % 2
def ps (y : Nat) : Nat := (y / 16 * 2 + y % 2) * 8 + y / 2 % 8
theorem ph_ps {x : Nat} : ph (ps x) = x := by
  unfold ph ps
  have hx : x = x / 16 * 16 + x / 2 % 8 * 2 + x % 2 := by omega
  have hb : x % 2 < 2 := by omega
  have hm : x / 2 % 8 < 8 := by omega
  generalize x / 16 = a at *
  generalize x / 2 % 8 = m at *
  generalize x % 2 = b at *
  have h1 : ((a * 2 + b) * 8 + m) / 16 = a := by omega
  have h2 : ((a * 2 + b) * 8 + m) % 8 = m := by omega
  have h3 : ((a * 2 + b) * 8 + m) / 8 = a * 2 + b := by omega
  rw [h1, h2, h3]; omega
theorem ps_ph {x : Nat} : ps (ph x) = x := by
  unfold ph ps
  have hx : x = (x / 16 * 2 + x / 8 % 2) * 8 + x % 8 := by omega
  have hb : x / 8 % 2 < 2 := by omega
  have hm : x % 8 < 8 := by omega
  generalize x / 16 = a at *
  generalize x / 8 % 2 = b at *
  generalize x % 8 = m at *
  have h1 : (a * 16 + m * 2 + b) / 16 = a := by omega
  have h2 : (a * 16 + m * 2 + b) % 2 = b := by omega
  have h3 : (a * 16 + m * 2 + b) / 2 = a * 8 + m := by omega
  rw [h1, h2, h3]; omega
theorem ph_lt {x : Nat} (h : x < 112) : ph x < 112 := by unfold ph; omega
theorem ps_lt {x : Nat} (h : x < 112) : ps x < 112 := by unfold ps; omega
theorem kR_p (π : Nat → Nat → Nat) (β : Nat → Nat) {r : Nat} (h1 : 1 ≤ r) (h : r < 128) : kR π β r = ph (xR π β r) ∧ kR π β r < 112 := by
  obtain ⟨e1, e2, e3, e4⟩ := xR_p π β h1 h
  have hk : kR π β r = ph (xR π β r) := by unfold kR ph; rw [e1, e2, e3]
  exact ⟨hk, by rw [hk]; exact ph_lt e4⟩
theorem sm_ph (f : Nat → Nat) : sm (fun x => f (ph x)) 112 = sm f 112 := by
  rw [show 112 = 16 * 7 by rfl, sm_blk, sm_blk]
  refine sm_congr 7 (fun j hj => ?_)
  show 0 + f (ph (16 * j + 0)) + f (ph (16 * j + 1)) + f (ph (16 * j + 2)) + f (ph (16 * j + 3)) + f (ph (16 * j + 4)) + f (ph (16 * j + 5)) + f (ph (16 * j + 6)) + f (ph (16 * j + 7)) + f (ph (16 * j + 8)) + f (ph (16 * j + 9)) + f (ph (16 * j + 10)) + f (ph (16 * j + 11)) + f (ph (16 * j + 12)) + f (ph (16 * j + 13)) + f (ph (16 * j + 14)) + f (ph (16 * j + 15)) = 0 + f (16 * j + 0) + f (16 * j + 1) + f (16 * j + 2) + f (16 * j + 3) + f (16 * j + 4) + f (16 * j + 5) + f (16 * j + 6) + f (16 * j + 7) + f (16 * j + 8) + f (16 * j + 9) + f (16 * j + 10) + f (16 * j + 11) + f (16 * j + 12) + f (16 * j + 13) + f (16 * j + 14) + f (16 * j + 15)
  rw [show ph (16 * j + 0) = 16 * j + 0 by unfold ph; omega, show ph (16 * j + 1) = 16 * j + 2 by unfold ph; omega, show ph (16 * j + 2) = 16 * j + 4 by unfold ph; omega, show ph (16 * j + 3) = 16 * j + 6 by unfold ph; omega, show ph (16 * j + 4) = 16 * j + 8 by unfold ph; omega, show ph (16 * j + 5) = 16 * j + 10 by unfold ph; omega, show ph (16 * j + 6) = 16 * j + 12 by unfold ph; omega, show ph (16 * j + 7) = 16 * j + 14 by unfold ph; omega, show ph (16 * j + 8) = 16 * j + 1 by unfold ph; omega, show ph (16 * j + 9) = 16 * j + 3 by unfold ph; omega, show ph (16 * j + 10) = 16 * j + 5 by unfold ph; omega, show ph (16 * j + 11) = 16 * j + 7 by unfold ph; omega, show ph (16 * j + 12) = 16 * j + 9 by unfold ph; omega, show ph (16 * j + 13) = 16 * j + 11 by unfold ph; omega, show ph (16 * j + 14) = 16 * j + 13 by unfold ph; omega, show ph (16 * j + 15) = 16 * j + 15 by unfold ph; omega]
  omega
/-- the first row of a key -/
def rkN (A : Nat → Nat) (K : Nat → Nat) (b : Nat) : Nat → Nat → Nat
  | 0, _ => 0
  | n + 1, y => if rkN A K b n y = 0 ∧ CT A (b + n) ∧ K (b + n) = y then b + n else rkN A K b n y
theorem rk_in {A K : Nat → Nat} {b : Nat} (hb : 1 ≤ b) (y : Nat) : ∀ n, (rkN A K b n y ≠ 0 → ∃ i, i < n ∧ rkN A K b n y = b + i ∧ CT A (b + i) ∧ K (b + i) = y) ∧ ((∃ i, i < n ∧ CT A (b + i) ∧ K (b + i) = y) → rkN A K b n y ≠ 0) := by
  intro n
  induction n with
  | zero => exact ⟨fun h => absurd rfl h, fun ⟨i, h, _⟩ => absurd h (by omega)⟩
  | succ n ih =>
    unfold rkN
    by_cases g : rkN A K b n y = 0 ∧ CT A (b + n) ∧ K (b + n) = y
    · rw [if_pos g]
      exact ⟨fun _ => ⟨n, by omega, rfl, g.2.1, g.2.2⟩, fun _ => by omega⟩
    · rw [if_neg g]
      refine ⟨fun h => ?_, fun ⟨i, h1, h2, h3⟩ => ?_⟩
      · obtain ⟨i, a, c⟩ := ih.1 h
        exact ⟨i, by omega, c⟩
      · by_cases e : i = n
        · subst e
          intro h0
          exact g ⟨h0, h2, h3⟩
        · exact ih.2 ⟨i, by omega, h2, h3⟩
def ind (x : Nat) : Nat := if x = 0 then 0 else 1
theorem cam8 : ∀ r, r < 128 → 1 ≤ r → fX8_cameUp (nI r) = some (nI (bR r)) := by decide +kernel
theorem ga2 (t : Int32) : ∀ (i n x : Nat) (rk : Nat → Int32), x + i = 112 → (∀ y, y < x → rk y = 0) → Sx (lpX5_gatherStates_2 t (n + i + 1) (nI x) rk) (fun z => ∀ y, y < 112 → z y = 0) := by
  intro i
  induction i with
  | zero =>
    intro n x rk hi hg
    rw [lpX5_gatherStates_2.eq_2]
    exact Sx.p (show (112 : Int32) ≤ nI x from nI_le (a := 112) (by omega) (by omega)) (Sx.mk (fun y hy => hg y (by omega)))
  | succ i ih =>
    intro n x rk hi hg
    rw [lpX5_gatherStates_2.eq_2]
    refine Sx.n (show ¬ (112 : Int32) ≤ nI x from nI_ge (b := 112) (by omega) (by omega)) ?_
    rw [og32 (by omega) (by omega), nm_mk, nm_mk, nI_clamp (by omega), nI_1, show n + (i + 1) = n + i + 1 by omega]
    refine ih n (x + 1) _ (by omega) ?_
    intro y hy
    rw [upS]
    by_cases e : y = x
    · rw [if_pos e]
    · rw [if_neg e]; exact hg y (by omega)
theorem ga27 {π : Nat → Nat → Nat} {β : Nat → Nat} {A : Nat → Nat} {ma ac : Nat → Int32} {t : Nat} (ht : t ≤ 6) (hA : ∀ r, 1 ≤ r → r < 128 → dR r ≤ t → ac r = nI (A r) ∧ A r ≤ 6) (hM : ∀ r, 1 ≤ r → r < 128 → dR r ≤ t → ma r = nI (mR π β r)) : ∀ (i n m : Nat) (rk : Nat → Int32), m + i = 2 ^ t → (∀ y, y < 112 → rk y = nI (rkN A (kR π β) (2 ^ t) m y)) → Sx (lpX5_gatherStates_27 (nI t) ma ac (n + i + 1) (nI (sm (fun y => ind (rkN A (kR π β) (2 ^ t) m y)) 112)) (nI (2 ^ t + m)) rk) (fun z => z.1 = nI (sm (fun y => ind (rkN A (kR π β) (2 ^ t) (2 ^ t) y)) 112) ∧ ∀ y, y < 112 → z.2 y = nI (rkN A (kR π β) (2 ^ t) (2 ^ t) y)) := by
  have hb2 := p2b t (by omega)
  intro i
  induction i with
  | zero =>
    intro n m rk hi hg
    rw [lpX5_gatherStates_27.eq_2, sh2 t (by omega)]
    refine Sx.p (nI_le (by omega) (by omega)) (Sx.mk ?_)
    rw [show m = 2 ^ t by omega] at hg ⊢
    exact ⟨rfl, hg⟩
  | succ i ih =>
    intro n m rk hi hg
    have hr1 : 1 ≤ 2 ^ t + m := by omega
    have hr : 2 ^ t + m < 128 := by omega
    have hd := dR_eq (2 ^ t + m) hr t (by omega) (by omega) (by omega)
    obtain ⟨⟨b1, b2, b3⟩, b4, b5, b6⟩ := row_b1 (2 ^ t + m) hr hr1
    have hm8 := mR_lt π β (2 ^ t + m)
    have hk := (kR_p π β hr1 hr).2
    have hAr : ∀ j, j ≤ dR (2 ^ t + m) → ac (pfx (2 ^ t + m) j) = nI (A (pfx (2 ^ t + m) j)) ∧ A (pfx (2 ^ t + m) j) ≤ 6 := by
      intro j hj
      obtain ⟨q1, q2, q3⟩ := pf1 _ hr hr1 j (by omega) hj
      exact hA _ q2 q3 (by omega)
    rw [lpX5_gatherStates_27.eq_2, sh2 t (by omega)]
    refine Sx.n (nI_ge (by omega) (by omega)) (Sx.n (show ¬ (128 : Int32) ≤ nI (2 ^ t + m) from nI_ge (b := 128) (by omega) (by omega)) ?_)
    refine Sx.e1 (ups8 _ hr hr1) (Sx.e1 (maA8 hr1 hr) (Sx.e1 (cam8 _ hr hr1) ?_))
    have eb : (if nI (bR (2 ^ t + m)) = 0 then some (0 : Int32) else some 1) = some (nI (bR (2 ^ t + m))) := by
      rcases (show bR (2 ^ t + m) = 0 ∨ bR (2 ^ t + m) = 1 by omega) with e | e
      · rw [e]; rfl
      · rw [e]; rfl
    refine Sx.e1 eb ?_
    rw [hM _ hr1 hr (by omega), i_16, pk_mul, i_2, pk_mul, nI_add, nI_add, nm_mk, show uR (2 ^ t + m) * 16 + mR π β (2 ^ t + m) * 2 + bR (2 ^ t + m) = kR π β (2 ^ t + m) from rfl]
    show Sx (bd1 (fX8_within (nI (kR π β (2 ^ t + m))) 0 111) _) _
    refine Sx.e1 (win1 (kR π β (2 ^ t + m)) 0 111 (by omega)) ?_
    refine Sx.b2 (P := fun z => z.1 = nI (sm (fun y => ind (rkN A (kR π β) (2 ^ t) (m + 1) y)) 112) ∧ ∀ y, y < 112 → z.2 y = nI (rkN A (kR π β) (2 ^ t) (m + 1) y)) ?_ ?_
    · refine Sx.n one0 ?_
      rw [og32 hk (by omega), nI_clamp (by omega), hg _ hk]
      have hsame : (rkN A (kR π β) (2 ^ t) m (kR π β (2 ^ t + m)) ≠ 0 ∨ ¬ CT A (2 ^ t + m)) → ∀ y, rkN A (kR π β) (2 ^ t) (m + 1) y = rkN A (kR π β) (2 ^ t) m y := by
        intro h y
        show (if rkN A (kR π β) (2 ^ t) m y = 0 ∧ CT A (2 ^ t + m) ∧ kR π β (2 ^ t + m) = y then 2 ^ t + m else rkN A (kR π β) (2 ^ t) m y) = _
        rw [if_neg]
        rintro ⟨z1, z2, z3⟩
        subst z3
        rcases h with h | h
        · exact h z1
        · exact h z2
      have hkeep : (rkN A (kR π β) (2 ^ t) m (kR π β (2 ^ t + m)) ≠ 0 ∨ ¬ CT A (2 ^ t + m)) → nI (sm (fun y => ind (rkN A (kR π β) (2 ^ t) m y)) 112) = nI (sm (fun y => ind (rkN A (kR π β) (2 ^ t) (m + 1) y)) 112) ∧ ∀ y, y < 112 → rk y = nI (rkN A (kR π β) (2 ^ t) (m + 1) y) := by
        intro h
        have hs := hsame h
        refine ⟨?_, fun y hy => by rw [hs y]; exact hg y hy⟩
        refine congrArg nI ?_
        exact sm_congr 112 (fun y _ => by rw [hs y])
      have hrk : rkN A (kR π β) (2 ^ t) m (kR π β (2 ^ t + m)) < 128 := by
        by_cases g : rkN A (kR π β) (2 ^ t) m (kR π β (2 ^ t + m)) = 0
        · omega
        · obtain ⟨i', a1, a2, _⟩ := (rk_in (show 1 ≤ 2 ^ t by omega) _ m).1 g
          omega
      by_cases g : rkN A (kR π β) (2 ^ t) m (kR π β (2 ^ t + m)) = 0
      · refine Sx.p (by rw [g]; rfl) (Sx.e1 (ct8 hr1 hr hAr) ?_)
        by_cases g2 : CT A (2 ^ t + m)
        · rw [if_pos g2, if_neg one0, og32 hk (by omega), nm_mk, nm_mk, nI_1]
          refine Sx.mk ⟨?_, fun y hy => ?_⟩
          · show nI (sm (fun y => ind (rkN A (kR π β) (2 ^ t) m y)) 112 + 1) = _
            refine congrArg nI ?_
            have e : ∀ y, ind (rkN A (kR π β) (2 ^ t) (m + 1) y) = ind (rkN A (kR π β) (2 ^ t) m y) + (if kR π β (2 ^ t + m) = y then 1 else 0) := by
              intro y
              show ind (if rkN A (kR π β) (2 ^ t) m y = 0 ∧ CT A (2 ^ t + m) ∧ kR π β (2 ^ t + m) = y then 2 ^ t + m else rkN A (kR π β) (2 ^ t) m y) = _
              by_cases q : kR π β (2 ^ t + m) = y
              · subst q
                rw [if_pos ⟨g, g2, rfl⟩, if_pos rfl, g]
                unfold ind
                rw [if_neg (by omega), if_pos rfl]
              · rw [if_neg (fun z => q z.2.2), if_neg q]
                rfl
            rw [sm_congr (g := fun y => ind (rkN A (kR π β) (2 ^ t) m y) + (if kR π β (2 ^ t + m) = y then 1 else 0)) 112 (fun y _ => e y), sm_add, sm_one (f := fun _ => 1), if_pos hk]
          · show upd rk (kR π β (2 ^ t + m)) (nI (2 ^ t + m)) y = nI (if rkN A (kR π β) (2 ^ t) m y = 0 ∧ CT A (2 ^ t + m) ∧ kR π β (2 ^ t + m) = y then 2 ^ t + m else rkN A (kR π β) (2 ^ t) m y)
            rw [upS]
            by_cases q : y = kR π β (2 ^ t + m)
            · subst q
              rw [if_pos rfl, if_pos ⟨g, g2, rfl⟩]
            · rw [if_neg q, if_neg (fun z => q z.2.2.symm), hg y hy]
        · rw [if_neg g2, if_pos rfl]
          exact Sx.mk (hkeep (Or.inr g2))
      · refine Sx.n (nI_ne0 (by omega) (by omega)) (Sx.mk (hkeep (Or.inl g)))
    · rintro a0 a1 ⟨rfl, h2⟩
      dsimp only at h2 ⊢
      rw [nm_mk, nI_1, Nat.add_assoc, show n + (i + 1) = n + i + 1 by omega]
      exact ih n (m + 1) a1 (by omega) h2
/-- the rows of the keys of a day -/
def RKt (τ β : Nat → Nat) (t y : Nat) : Nat := rkN (A1 τ β) (kR (prF τ (τ 1)) β) (2 ^ t) (2 ^ t) y
def cnt (τ β : Nat → Nat) (t : Nat) : Nat := sm (fun y => ind (RKt τ β t y)) 112
theorem ga8 {τ β : Nat → Nat} (hT : TK τ) {pe tu ca ho va : Nat → Int64} {ma ac : Nat → Int32} (hS : SB τ β pe tu ca ho va ma ac) {t : Nat} (ht : t ≤ τ 0) (rok : Nat → Int32) : Sx (fX5_gatherStates (nI t) ma ac rok) (fun z => z.1 = nI (cnt τ β t) ∧ ∀ y, y < 112 → z.2 y = nI (RKt τ β t y)) := by
  have hb2 := p2b t (by omega)
  unfold fX5_gatherStates
  obtain ⟨n1, hn1⟩ := fuN 113 (by omega)
  obtain ⟨n2, hn2⟩ := fuN (2 ^ t + 1) (by omega)
  refine Sx.b1 (P := fun z => ∀ y, y < 112 → z y = 0) (by rw [hn1, i_0]; exact ga2 (nI t) 112 n1 0 rok (by omega) (fun y hy => absurd hy (by omega))) ?_
  intro z hz
  rw [nm_mk, sh1 t (by omega), hn2, show n2 + (2 ^ t + 1) = n2 + 2 ^ t + 1 by omega]
  have h0 : sm (fun y => ind (rkN (A1 τ β) (kR (prF τ (τ 1)) β) (2 ^ t) 0 y)) 112 = 0 := sm_zero 112
  have := ga27 (π := prF τ (τ 1)) (β := β) (A := A1 τ β) (ma := ma) (ac := ac) (t := t) (by omega) (fun r h1 h2 h3 => hS.a6 hT r h1 h2 (by omega)) (fun r h1 h2 h3 => (hS.1 r h1 (row_T hT h1 h2 (by omega))).2.2.2) (2 ^ t) n2 0 z (by omega) (fun y hy => by rw [hz y hy]; rfl)
  rw [h0, Nat.add_zero] at this
  exact Sx.b2 this (fun _ _ h => Sx.mk h)
/-- present on both sides -/
theorem pr_in {τ β : Nat → Nat} (hT : TK τ) {t x : Nat} (ht : t ≤ τ 0) (hx : x < 112) : wy (prF τ (τ 1)) (τ 0) (τ 6) (τ 7) (τ 8) β t x ≠ 0 ↔ RKt τ β t (ph x) ≠ 0 := by
  have hb2 := p2b t (by omega)
  rw [wy_in (prF τ (τ 1)) β (by omega) (by omega) hx]
  have hr := rk_in (A := A1 τ β) (K := kR (prF τ (τ 1)) β) (b := 2 ^ t) (by omega) (ph x) (2 ^ t)
  constructor
  · rintro ⟨i, h1, h2, h3⟩
    refine hr.2 ⟨i, h1, h2, ?_⟩
    rw [(kR_p (prF τ (τ 1)) β (show 1 ≤ 2 ^ t + i by omega) (by omega)).1, h3]
  · intro h
    obtain ⟨i, h1, _, h2, h3⟩ := hr.1 h
    refine ⟨i, h1, h2, ?_⟩
    rw [(kR_p (prF τ (τ 1)) β (show 1 ≤ 2 ^ t + i by omega) (by omega)).1] at h3
    have := congrArg ps h3
    rwa [ps_ph, ps_ph] at this
theorem cnt_x {τ β : Nat → Nat} (hT : TK τ) {t : Nat} (ht : t ≤ τ 0) : sm (fun x => ind (wy (prF τ (τ 1)) (τ 0) (τ 6) (τ 7) (τ 8) β t x)) 112 = cnt τ β t := by
  unfold cnt
  rw [← sm_ph (fun y => ind (RKt τ β t y))]
  refine sm_congr 112 (fun x hx => ?_)
  have := pr_in (β := β) hT ht hx
  unfold ind
  by_cases g : wy (prF τ (τ 1)) (τ 0) (τ 6) (τ 7) (τ 8) β t x = 0
  · rw [if_pos g, if_pos (Decidable.byContradiction (fun q => this.mpr q g))]
  · rw [if_neg g, if_neg (this.mp g)]
theorem st38 {π : Nat → Nat → Nat} {T p q R : Nat} {β : Nat → Nat} {way : Nat → Int64} (hN : NK T p q R) (hW : WW π T p q R β way) {t : Nat} (ht : t ≤ T) : ∀ (i n x c : Nat), x + i = 112 → c + i < 2 ^ 30 → lpX9_states_38 (nI t) way (n + i + 1) (nI c) (nI (112 * t + x)) = some (nI (c + sm (fun y => ind (wy π T p q R β t (x + y))) i)) := by
  intro i
  induction i with
  | zero =>
    intro n x c hi hc
    rw [lpX9_states_38.eq_2, i_112, pk_mul, nI_add, if_pos (nI_le (by omega) (by omega))]; rfl
  | succ i ih =>
    intro n x c hi hc
    obtain ⟨z1, z2, z3⟩ := wz hN hW (show 112 * t + x < 784 by omega)
    rw [show (112 * t + x) / 112 = t by omega, show (112 * t + x) % 112 = x by omega] at z1
    have hs := sm_1 (fun y => ind (wy π T p q R β t y)) x i
    rw [lpX9_states_38.eq_2, i_112, pk_mul, nI_add, if_neg (nI_ge (by omega) (by omega)), og32 (by omega) (by omega), nI_clamp (by omega), hs]
    have e : (if way (112 * t + x) ≤ 0 then some (0 : Int32) else some 1) = some (nI (ind (wy π T p q R β t x))) := by
      unfold ind
      by_cases g : wy π T p q R β t x = 0
      · rw [if_pos (z1.mpr (fun q => q.2 g)), if_pos g]; rfl
      · rw [if_neg (fun q => z1.mp q ⟨ht, g⟩), if_neg g]; rfl
    have hi1 : ind (wy π T p q R β t x) ≤ 1 := by unfold ind; split <;> omega
    rw [e, bd1_mk, nm_mk, nm_mk, nI_add, nI_1, Nat.add_assoc, show n + (i + 1) = n + i + 1 by omega, ih n (x + 1) _ (by omega) (by omega), Nat.add_assoc]
theorem q_states {tr b0 b1 b2 tree bs : Nat → Int32} {τ : Nat → Nat} {B : Nat → Nat → Nat} (hf : TC tr τ) (hf9 : TR tree 0 τ) (hT : TK τ) (hB : CB3 b0 b1 b2 B) (hb9 : ∀ k, k < 3 → RB bs k (B k)) (p1 p2 : Int32) (st sb : Nat → Int32) (pu pe tu ca ho va : Nat → Int64) (ma ac : Nat → Int32) (rok : Nat → Int32) (x0 x1 x2 x3 : Int32) (pe9 : Nat → Int64) (a9 b9 : Int64) (wo9 ho9 wa9 : Nat → Int64) (ac9 : Nat → Int32) : Sx2 (fX8_states p1 p2 tr b0 b1 b2 st sb pu pe tu ca ho va ma ac rok) (fX9_states p1 p2 tree bs x0 x1 x2 x3 pe9 a9 b9 wo9 ho9 wa9 ac9) (fun _ _ => True) := by
  by_cases h1 : inr p1 0 2
  rotate_left
  · exact Sx2.mk (by unfold fX8_states; rw [isb8n h1, bd1_mk, if_pos rfl]) (by unfold fX9_states; rw [isb9n h1, bd1_mk, if_pos rfl]) (trivial)
  by_cases h2 : inr p2 0 (τ 0)
  rotate_left
  · exact Sx2.mk (by unfold fX8_states; rw [isb8y h1, bd1_mk, if_neg one0, isd8n hf hT h2, bd1_mk, if_pos rfl]) (by unfold fX9_states; rw [isb9y h1, bd1_mk, if_neg one0, isd9n hf9 hT h2, bd1_mk, if_pos rfl]) (trivial)
  obtain ⟨k, rfl, _, hk, _⟩ := inr_n h1 (by decide)
  have hk3 : k < 3 := by omega
  obtain ⟨t, rfl, _, t2, _⟩ := inr_n h2 (Int.le_refl 0)
  refine Sx2.val (v := nI (cnt τ (B k) t)) ?_ ?_
  · unfold fX8_states
    rw [isb8y h1, bd1_mk, if_neg one0, isd8y hf hT h2, bd1_mk, if_neg one0]
    refine Sx.b10 (wo8 hk3 hf hT hB st sb pu pe tu ca ho va ma ac) ?_
    rintro c0 c1 c2 c3 c4 c5 c6 c7 c8 c9 ⟨hc, hcb, hsb⟩
    dsimp only at hc hcb hsb
    exact Sx.b2 (ga8 hT hsb (by omega) rok) (fun _ _ h => Sx.mk h.1)
  · unfold fX9_states
    rw [isb9y h1, bd1_mk, if_neg one0, isd9y hf9 hT h2, bd1_mk, if_neg one0]
    refine Sx.b11 (la9 hf9 hT hk3 (hb9 k hk3) (hB k hk3).2 x0 x1 x2 x3 pe9 a9 b9 wo9 ho9 wa9 ac9) ?_
    rintro d0 d1 d2 d3 pe' d5 d6 d7 d8 d9 d10 ⟨rfl, rfl, rfl, rfl, hP, hG, hWA⟩
    dsimp only at hP hG hWA ⊢
    obtain ⟨n, hn⟩ := fuN 113 (by omega)
    have he := st38 hT.n hWA.1 (show t ≤ τ 0 by omega) 112 n 0 0 (by omega) (by omega)
    have e2 : sm (fun y => ind (wy (prF τ (τ 1)) (τ 0) (τ 6) (τ 7) (τ 8) (B k) t (0 + y))) 112 = cnt τ (B k) t := by
      refine Eq.trans (sm_congr 112 (fun y _ => by rw [Nat.zero_add])) (cnt_x hT (by omega))
    rw [e2, Nat.zero_add, Nat.add_zero] at he
    rw [nm_mk, i_112, pk_mul, hn, i_0]
    exact Sx.e1 he (Sx.mk ⟨rfl, trivial⟩)
