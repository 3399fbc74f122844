/-! pure: table, first, days: both sides (own rows) -/
theorem ps_8 (x : Nat) : ps x / 8 % 2 = x % 2 := by
  unfold ps
  have hb : x % 2 < 2 := by omega
  have hm : x / 2 % 8 < 8 := by omega
  generalize x / 16 = a at *
  generalize x / 2 % 8 = m at *
  generalize x % 2 = b at *
  have h3 : ((a * 2 + b) * 8 + m) / 8 = a * 2 + b := by omega
  rw [h3]; omega
theorem RK_p {τ β : Nat → Nat} (hT : TK τ) {t y : Nat} (ht : t ≤ τ 0) (h : RKt τ β t y ≠ 0) : 1 ≤ RKt τ β t y ∧ RKt τ β t y < 128 ∧ dR (RKt τ β t y) = t ∧ CT (A1 τ β) (RKt τ β t y) ∧ kR (prF τ (τ 1)) β (RKt τ β t y) = y := by
  have hb2 := p2b t (by omega)
  obtain ⟨i, h1, h2, h3, h4⟩ := (rk_in (A := A1 τ β) (K := kR (prF τ (τ 1)) β) (b := 2 ^ t) (by omega) y (2 ^ t)).1 h
  have e : RKt τ β t y = 2 ^ t + i := h2
  rw [e]
  exact ⟨by omega, by omega, dR_eq _ (by omega) t (by omega) (by omega) (by omega), h3, h4⟩
theorem RK_b {τ β : Nat → Nat} (hT : TK τ) {t : Nat} (ht : t ≤ τ 0) (y : Nat) : RKt τ β t y < 128 := by
  by_cases h : RKt τ β t y = 0
  · omega
  · exact (RK_p hT ht h).2.1
theorem RK_x {τ β : Nat → Nat} (hT : TK τ) {t y : Nat} (ht : t ≤ τ 0) (h : RKt τ β t y ≠ 0) : uR (RKt τ β t y) = y / 16 ∧ mR (prF τ (τ 1)) β (RKt τ β t y) = y / 2 % 8 ∧ bR (RKt τ β t y) = y % 2 := by
  obtain ⟨h1, h2, h3, h4, h5⟩ := RK_p hT ht h
  have hm := mR_lt (prF τ (τ 1)) β (RKt τ β t y)
  have hb := (row_b1 _ h2 h1).2.1
  unfold kR at h5
  refine ⟨by omega, by omega, by omega⟩
theorem RK_w {τ β : Nat → Nat} (hT : TK τ) {t y : Nat} (ht : t ≤ τ 0) (hy : y < 112) : RKt τ β t y = 0 ↔ wy (prF τ (τ 1)) (τ 0) (τ 6) (τ 7) (τ 8) β t (ps y) = 0 := by
  have := pr_in (β := β) hT ht (ps_lt hy)
  rw [ph_ps] at this
  constructor
  · intro h; exact Decidable.byContradiction (fun q => this.mp q h)
  · intro h; exact Decidable.byContradiction (fun q => this.mpr q h)
/-- both sides find the same -/
theorem fd_w {τ β : Nat → Nat} (hT : TK τ) {t : Nat} (ht : t ≤ τ 0) (l : Nat) : ((fd (fun y => wy (prF τ (τ 1)) (τ 0) (τ 6) (τ 7) (τ 8) β t (ps y)) (16 * (t + 1)) 0 l).1 < 16 * (t + 1) ↔ (fd (RKt τ β t) 112 0 l).1 < 112) ∧ ((fd (RKt τ β t) 112 0 l).1 < 112 → fd (fun y => wy (prF τ (τ 1)) (τ 0) (τ 6) (τ 7) (τ 8) β t (ps y)) (16 * (t + 1)) 0 l = fd (RKt τ β t) 112 0 l) := by
  have hap := fd_app (RKt τ β t) (112 - 16 * (t + 1)) (16 * (t + 1)) 0 l
  rw [show 16 * (t + 1) + (112 - 16 * (t + 1)) = 112 by omega, Nat.zero_add] at hap
  have hc : fd (RKt τ β t) (16 * (t + 1)) 0 l = fd (fun y => wy (prF τ (τ 1)) (τ 0) (τ 6) (τ 7) (τ 8) β t (ps y)) (16 * (t + 1)) 0 l := fd_congr _ _ _ (fun y h1 h2 => RK_w hT ht (by omega))
  rw [hc] at hap
  have hz : ∀ l', (fd (RKt τ β t) (112 - 16 * (t + 1)) (16 * (t + 1)) l').1 < 112 → False := by
    intro l' h
    obtain ⟨f1, f2, f3, _, _⟩ := fd_p (RKt τ β t) (112 - 16 * (t + 1)) (16 * (t + 1)) l'
    have h3 := (f3 (by omega)).1
    have h4 : wy (prF τ (τ 1)) (τ 0) (τ 6) (τ 7) (τ 8) β t (ps (fd (RKt τ β t) (112 - 16 * (t + 1)) (16 * (t + 1)) l').1) ≠ 0 := fun q => h3 ((RK_w hT ht h).mpr q)
    have h5 := wy_lt h4
    unfold ps at h5
    omega
  by_cases g : (fd (fun y => wy (prF τ (τ 1)) (τ 0) (τ 6) (τ 7) (τ 8) β t (ps y)) (16 * (t + 1)) 0 l).1 < 16 * (t + 1)
  · rw [if_pos g] at hap
    rw [hap]
    exact ⟨⟨fun _ => by omega, fun _ => g⟩, fun _ => rfl⟩
  · rw [if_neg g] at hap
    rw [hap]
    exact ⟨⟨fun h => absurd h g, fun h => (hz _ h).elim⟩, fun h => (hz _ h).elim⟩
theorem fd_c {τ β : Nat → Nat} {t l : Nat} : (fd (RKt τ β t) 112 0 l).1 < 112 ↔ l < cnt τ β t := by
  have h := (fd_p (RKt τ β t) 112 0 l).2.2.2.1
  rw [Nat.zero_add] at h
  rw [h]
  unfold cnt
  have : sm (fun y => ind (RKt τ β t (0 + y))) 112 = sm (fun y => ind (RKt τ β t y)) 112 := sm_congr 112 (fun y _ => by rw [Nat.zero_add])
  rw [this]
theorem cnt_b (τ β : Nat → Nat) (t : Nat) : cnt τ β t ≤ 112 := by
  have h7 : ∀ n, sm (fun _ => 1) n = n := by
    intro n
    induction n with
    | zero => rfl
    | succ n ih => show sm (fun _ => 1) n + 1 = _; rw [ih]
  have := sm_le (f := fun y => ind (RKt τ β t y)) (g := fun _ => 1) 112 (fun y _ => by unfold ind; split <;> omega)
  rw [h7] at this
  exact this
/-- the answer of table at a key -/
def tbV (τ β : Nat → Nat) (t y w : Nat) : Int64 := if w = 0 then lN (y / 16) else if w = 1 then lN (y / 2 % 8) else if w = 2 then lN (y % 2) else if w = 3 then lN (vG (prF τ (τ 1)) (τ 0) (τ 6) (τ 7) (τ 8) β (bV (prF τ (τ 1)) β) (τ 0 - t) (y / 16) (y % 2) (y / 2 % 8)) else lN (acS (prF τ (τ 1)) (τ 0) (τ 6) (τ 7) (τ 8) β t (y / 16) (y % 2) (y / 2 % 8))
def tbA (τ β : Nat → Nat) (t l w : Nat) : Int64 := if l < cnt τ β t then tbV τ β t (fd (RKt τ β t) 112 0 l).1 w else -2
theorem A1_s {τ β : Nat → Nat} (hT : TK τ) {t y : Nat} (ht : t ≤ τ 0) (h : RKt τ β t y ≠ 0) : A1 τ β (RKt τ β t y) = acS (prF τ (τ 1)) (τ 0) (τ 6) (τ 7) (τ 8) β t (y / 16) (y % 2) (y / 2 % 8) := by
  obtain ⟨h1, h2, h3, h4, h5⟩ := RK_p hT ht h
  obtain ⟨x1, x2, x3⟩ := RK_x hT ht h
  have := AC_r (prF τ (τ 1)) (τ 0) (τ 6) (τ 7) (τ 8) β h1 h2
  unfold A1
  rw [← this]
  obtain ⟨e1, e2, e3, _⟩ := xR_p (prF τ (τ 1)) β h1 h2
  unfold AC
  rw [e1, e2, e3, h3, x1, x2, x3]
theorem q_table {tr b0 b1 b2 tree bs : Nat → Int32} {τ : Nat → Nat} {B : Nat → Nat → Nat} (hf : TC tr τ) (hf9 : TR tree 0 τ) (hT : TK τ) (hB : CB3 b0 b1 b2 B) (hb9 : ∀ k, k < 3 → RB bs k (B k)) (p1 p2 p3 p4 : Int32) (st sb : Nat → Int32) (pu pe tu ca ho va : Nat → Int64) (ma ac : Nat → Int32) (rok : Nat → Int32) (x0 x1 x2 x3 : Int32) (pe9 : Nat → Int64) (a9 b9 : Int64) (wo9 ho9 wa9 : Nat → Int64) (ac9 : Nat → Int32) : Sx2 (fX8_table p1 p2 p3 p4 tr b0 b1 b2 st sb pu pe tu ca ho va ma ac rok) (fX9_table p1 p2 p3 p4 tree bs x0 x1 x2 x3 pe9 a9 b9 wo9 ho9 wa9 ac9) (fun _ _ => True) := by
  by_cases h1 : inr p1 0 2
  rotate_left
  · exact Sx2.mk (by unfold fX8_table; rw [isb8n h1, bd1_mk, if_pos rfl]) (by unfold fX9_table; rw [isb9n h1, bd1_mk, if_pos rfl]) (trivial)
  by_cases h2 : inr p2 0 (τ 0)
  rotate_left
  · exact Sx2.mk (by unfold fX8_table; rw [isb8y h1, bd1_mk, if_neg one0, isd8n hf hT h2, bd1_mk, if_pos rfl]) (by unfold fX9_table; rw [isb9y h1, bd1_mk, if_neg one0, isd9n hf9 hT h2, bd1_mk, if_pos rfl]) (trivial)
  by_cases h3 : p3 < 0
  · exact Sx2.mk (by unfold fX8_table; rw [isb8y h1, bd1_mk, if_neg one0, isd8y hf hT h2, bd1_mk, if_neg one0, if_pos h3]) (by unfold fX9_table; rw [isb9y h1, bd1_mk, if_neg one0, isd9y hf9 hT h2, bd1_mk, if_neg one0, if_pos h3]) trivial
  by_cases h4 : inr p4 0 4
  rotate_left
  · exact Sx2.mk (by unfold fX8_table; rw [isb8y h1, bd1_mk, if_neg one0, isd8y hf hT h2, bd1_mk, if_neg one0, if_neg h3, wi0 h4, bd1_mk, if_pos rfl]) (by unfold fX9_table; rw [isb9y h1, bd1_mk, if_neg one0, isd9y hf9 hT h2, bd1_mk, if_neg one0, if_neg h3, in0 h4, bd1_mk, if_pos rfl]) trivial
  obtain ⟨k, rfl, _, hk, _⟩ := inr_n h1 (by decide)
  have hk3 : k < 3 := by omega
  obtain ⟨t, rfl, _, t2, _⟩ := inr_n h2 (Int.le_refl 0)
  obtain ⟨w, rfl, _, w2, _⟩ := inr_n h4 (by decide)
  obtain ⟨l, hl, rfl⟩ := nI_of h3
  have ht : t ≤ τ 0 := by omega
  have hcb := cnt_b τ (B k) t
  refine Sx2.val (v := tbA τ (B k) t l w) ?_ ?_
  · unfold fX8_table
    rw [isb8y h1, bd1_mk, if_neg one0, isd8y hf hT h2, bd1_mk, if_neg one0, if_neg h3, wi1 h4, bd1_mk, if_neg one0]
    refine Sx.b10 (wo8 hk3 hf hT hB st sb pu pe tu ca ho va ma ac) ?_
    rintro c0 c1 c2 c3 c4 c5 c6 c7 c8 c9 ⟨hc, hcb', hsb⟩
    dsimp only at hc hcb' hsb
    refine Sx.b2 (ga8 hT hsb ht rok) ?_
    rintro z0 rk ⟨rfl, hrk⟩
    dsimp only at hrk ⊢
    unfold tbA
    by_cases g : l < cnt τ (B k) t
    · rw [if_pos g]
      have hf1 := fd_c.mpr g
      have hP : RKt τ (B k) t (fd (RKt τ (B k) t) 112 0 l).1 ≠ 0 := ((fd_p (RKt τ (B k) t) 112 0 l).2.2.1 (by omega)).1
      obtain ⟨r1, r2, r3, r4, r5⟩ := RK_p hT ht hP
      obtain ⟨u1, u2, u3⟩ := RK_x hT ht hP
      have hA := A1_s hT ht hP
      have hro := row_T hT r1 r2 (by omega)
      refine Sx.p (nI_lt g (by omega)) (Sx.e1 (sr8' (fun y hy => ⟨hrk y hy, RK_b hT ht y⟩) hl hf1) ?_)
      generalize hY : (fd (RKt τ (B k) t) 112 0 l).1 = Y at *
      unfold tbV
      rcases (show w = 0 ∨ w = 1 ∨ w = 2 ∨ w = 3 ∨ w = 4 by omega) with rfl | rfl | rfl | rfl | rfl
      · refine Sx.p rfl (Sx.e1 (ups8 _ r2 r1) (Sx.mk ?_))
        rw [if_pos rfl, u1, nI_l (by omega)]
      · refine Sx.n (by decide) (Sx.p rfl (Sx.e1 (maA8 r1 r2) (Sx.mk ?_)))
        show Int32.toInt64 (c8 (RKt τ (B k) t Y)) = _
        rw [(hsb.1 _ r1 hro).2.2.2, u2, nI_l (by omega), if_neg (by omega), if_pos rfl]
      · refine Sx.n (by decide) (Sx.n (by decide) (Sx.p rfl (Sx.e1 (cam8 _ r2 r1) ?_)))
        rw [u3]
        rcases (show Y % 2 = 0 ∨ Y % 2 = 1 by omega) with e | e
        · rw [e]; exact Sx.e1 (if_pos rfl) (Sx.mk rfl)
        · rw [e]; exact Sx.e1 (if_neg one0) (Sx.mk rfl)
      · refine Sx.n (by decide) (Sx.n (by decide) (Sx.n (by decide) (Sx.p rfl (Sx.e1 (va8 r1 r2) (Sx.mk ?_)))))
        show c7 (RKt τ (B k) t Y) = _
        rw [(hsb.2 _ r1 r1 hro).1]
        unfold vR
        rw [r3, u1, u2, u3, if_neg (by omega), if_neg (by omega), if_neg (by omega), if_pos rfl]
      · refine Sx.n (by decide) (Sx.n (by decide) (Sx.n (by decide) (Sx.n (by decide) (Sx.e1 (acA8 r1 r2) (Sx.mk ?_)))))
        show Int32.toInt64 (c9 (RKt τ (B k) t Y)) = _
        have ha6 := acS_6 (prF τ (τ 1)) (τ 0) (τ 6) (τ 7) (τ 8) (B k) t (Y / 16) (Y % 2) (Y / 2 % 8)
        rw [(hsb.a6 hT _ r1 r2 (by omega)).1, hA, nI_l (by omega), if_neg (by omega), if_neg (by omega), if_neg (by omega), if_neg (by omega)]
    · rw [if_neg g]
      exact Sx.n (nI_nlt (by omega) (by omega)) (Sx.mk rfl)
  · unfold fX9_table
    rw [isb9y h1, bd1_mk, if_neg one0, isd9y hf9 hT h2, bd1_mk, if_neg one0, if_neg h3, in1 h4, bd1_mk, if_neg one0]
    refine Sx.b11 (la9 hf9 hT hk3 (hb9 k hk3) (hB k hk3).2 x0 x1 x2 x3 pe9 a9 b9 wo9 ho9 wa9 ac9) ?_
    rintro d0 d1 d2 d3 pe' d5 d6 d7 d8 d9 d10 ⟨rfl, rfl, rfl, rfl, hP, hG, hWA⟩
    dsimp only at hP hG hWA ⊢
    obtain ⟨n, hn⟩ := fuN (t + 2) (by omega)
    have he := t55' hT.n hWA.1 ht (nI w) (t + 1) n 0 l (by omega) hl
    rw [Nat.mul_zero] at he
    obtain ⟨hw1, hw2⟩ := fd_w (β := B k) hT ht l
    rw [hn, i_0, show n + (t + 2) = n + (t + 1) + 1 by omega, he]
    unfold tbA
    by_cases g : l < cnt τ (B k) t
    · have hf1 := fd_c.mpr g
      rw [if_pos (hw1.mpr hf1), if_pos g, hw2 hf1, bd5_mk]
      have hP : RKt τ (B k) t (fd (RKt τ (B k) t) 112 0 l).1 ≠ 0 := ((fd_p (RKt τ (B k) t) 112 0 l).2.2.1 (by omega)).1
      generalize hY : (fd (RKt τ (B k) t) 112 0 l).1 = Y at *
      have hwy : wy (prF τ (τ 1)) (τ 0) (τ 6) (τ 7) (τ 8) (B k) t (ps Y) ≠ 0 := fun q => hP ((RK_w hT ht hf1).mpr q)
      have hok := wy_ok _ _ _ _ _ _ t _ hwy
      have q1 : ps Y / 16 = Y / 16 := by unfold ps; omega
      have q2 : ps Y / 8 % 2 = Y % 2 := ps_8 Y
      have q3 : ps Y % 8 = Y / 2 % 8 := by unfold ps; omega
      rw [q1, q2, q3] at hok
      obtain ⟨g1, g2, g3⟩ := hG t (Y / 16) (Y % 2) (Y / 2 % 8) ht hok trivial
      have hat : atN t (Y / 16) (Y % 2) (Y / 2 % 8) = 112 * t + ps Y := by rw [atN_x]; unfold ps; rfl
      rw [hat] at g1 g3
      have hpl := ps_lt hf1
      refine Sx.p rfl ?_
      unfold tbV
      rcases (show w = 0 ∨ w = 1 ∨ w = 2 ∨ w = 3 ∨ w = 4 by omega) with rfl | rfl | rfl | rfl | rfl
      · refine Sx.e1 (if_pos rfl) (Sx.mk ⟨?_, trivial⟩)
        rw [if_pos rfl, nI_l (by omega)]
      · refine Sx.e1 (a0 := Int32.toInt64 (nI (Y / 2 % 8))) (by rw [if_neg (show ¬ nI 1 = nI 0 by decide)]; rfl) (Sx.mk ⟨?_, trivial⟩)
        rw [nI_l (by omega), if_neg (by omega), if_pos rfl]
      · refine Sx.e1 (a0 := Int32.toInt64 (nI (Y % 2))) (by rw [if_neg (show ¬ nI 2 = nI 0 by decide)]; rfl) (Sx.mk ⟨?_, trivial⟩)
        rw [nI_l (by omega), if_neg (by omega), if_neg (by omega), if_pos rfl]
      · refine Sx.e1 (a0 := d7 (112 * t + ps Y)) (by rw [if_neg (show ¬ nI 3 = nI 0 by decide), if_neg (show ¬ nI 3 = (1 : Int32) by decide), if_neg (show ¬ nI 3 = (2 : Int32) by decide), if_pos (show nI 3 = (3 : Int32) from rfl), og32 (by omega) (by omega), nI_clamp (by omega)]) (Sx.mk ⟨?_, trivial⟩)
        show d7 (112 * t + ps Y) = _
        rw [g1, if_neg (by omega), if_neg (by omega), if_neg (by omega), if_pos rfl]
      · have ha6 := acS_6 (prF τ (τ 1)) (τ 0) (τ 6) (τ 7) (τ 8) (B k) t (Y / 16) (Y % 2) (Y / 2 % 8)
        refine Sx.e1 (a0 := Int32.toInt64 (d10 (112 * t + ps Y))) (by rw [if_neg (show ¬ nI 4 = nI 0 by decide), if_neg (show ¬ nI 4 = (1 : Int32) by decide), if_neg (show ¬ nI 4 = (2 : Int32) by decide), if_neg (show ¬ nI 4 = (3 : Int32) by decide), og32 (by omega) (by omega), nI_clamp (by omega)]) (Sx.mk ⟨?_, trivial⟩)
        show Int32.toInt64 (d10 (112 * t + ps Y)) = _
        rw [g3, nI_l (by omega), if_neg (by omega), if_neg (by omega), if_neg (by omega), if_neg (by omega)]
    · rw [if_neg (fun q => g (fd_c.mp (hw1.mp q))), if_neg g, bd5_mk]
      exact Sx.n (by decide) (Sx.mk ⟨rfl, trivial⟩)
