/-! pure: the reference's ways (own rows) -/
def AC (π : Nat → Nat → Nat) (T p q R : Nat) (β : Nat → Nat) (t x : Nat) : Nat := acS π T p q R β t (x / 16) (x / 8 % 2) (x % 8)
def nx (π : Nat → Nat → Nat) (β : Nat → Nat) (t x b : Nat) : Nat := ((x / 16 + b) * 2 + b) * 8 + mkF π β (x % 8) (t + 1) (x / 16 + b)
def ctb (p q : Nat) (F : Nat → Nat) (N : Nat → Nat → Nat) (w : Nat → Nat) (y x : Nat) : Nat := if F x = 0 then (if N x 1 = y then w x * p else 0) + (if N x 0 = y then w x * (q - p) else 0) else 0
def wy (π : Nat → Nat → Nat) (T p q R : Nat) (β : Nat → Nat) : Nat → Nat → Nat
  | 0, x => if x = hiF β (π 0 0) then 1 else 0
  | t + 1, y => sm (fun x => ctb p q (AC π T p q R β t) (nx π β t) (wy π T p q R β t) y x) 112
theorem nx_lt (π : Nat → Nat → Nat) (β : Nat → Nat) (t : Nat) {x b : Nat} (hx : x < 112) (hb : b < 2) : nx π β t x b < 128 := by
  have := mkF_lt π β (x % 8) (t + 1) (x / 16 + b)
  unfold nx
  omega
theorem ctb_n {p q : Nat} {F : Nat → Nat} {N : Nat → Nat → Nat} {w : Nat → Nat} {y x : Nat} (h : ctb p q F N w y x ≠ 0) : F x = 0 ∧ w x ≠ 0 ∧ ∃ b, b < 2 ∧ N x b = y := by
  unfold ctb at h
  by_cases g : F x = 0
  · rw [if_pos g] at h
    refine ⟨g, ?_, ?_⟩
    · intro q0
      rw [q0, Nat.zero_mul, Nat.zero_mul] at h
      apply h
      split <;> split <;> rfl
    · by_cases g1 : N x 1 = y
      · exact ⟨1, by omega, g1⟩
      · by_cases g0 : N x 0 = y
        · exact ⟨0, by omega, g0⟩
        · rw [if_neg g1, if_neg g0] at h
          exact absurd rfl h
  · rw [if_neg g] at h
    exact absurd rfl h
theorem ctb_0 {p q : Nat} {F : Nat → Nat} {N : Nat → Nat → Nat} {w : Nat → Nat} {y x : Nat} (h : w x = 0 ∨ F x ≠ 0) : ctb p q F N w y x = 0 := by
  by_cases g : ctb p q F N w y x = 0
  · exact g
  · obtain ⟨a, b, _⟩ := ctb_n g
    rcases h with h | h
    · exact absurd h b
    · exact absurd a h
theorem nx_p (π : Nat → Nat → Nat) (β : Nat → Nat) (t : Nat) {x b : Nat} (hb : b < 2) : nx π β t x b / 16 = x / 16 + b ∧ nx π β t x b / 8 % 2 = b ∧ nx π β t x b % 8 = mkF π β (x % 8) (t + 1) (x / 16 + b) := by
  have := mkF_lt π β (x % 8) (t + 1) (x / 16 + b)
  unfold nx
  refine ⟨by omega, by omega, by omega⟩
theorem wy_ok (π : Nat → Nat → Nat) (T p q R : Nat) (β : Nat → Nat) : ∀ t x, wy π T p q R β t x ≠ 0 → okM π β t (x / 16) (x / 8 % 2) (x % 8) := by
  intro t
  induction t with
  | zero =>
    intro x h
    have hl := hiF_lt β (π 0 0)
    have e : x = hiF β (π 0 0) := by
      by_cases g : x = hiF β (π 0 0)
      · exact g
      · exact absurd (if_neg g) h
    have h1 : x / 16 = 0 := by omega
    have h2 : x / 8 % 2 = 0 := by omega
    have h3 : x % 8 = hiF β (π 0 0) := by omega
    rw [h1, h2, h3]
    exact ok0 π β
  | succ t ih =>
    intro y h
    obtain ⟨x, hx, hc⟩ := sm_pos 112 h
    obtain ⟨_, hw, b, hb, rfl⟩ := ctb_n hc
    have hk := ih x hw
    obtain ⟨e1, e2, e3⟩ := nx_p π β t (x := x) hb
    have hm := mkF_lt π β (x % 8) (t + 1) (x / 16 + b)
    have hm2 := mkF_2 π β (x % 8) (t + 1) (x / 16 + b)
    rw [e1, e2, e3]
    exact ⟨by omega, hm, hm2⟩
theorem wy_lt {π : Nat → Nat → Nat} {T p q R : Nat} {β : Nat → Nat} {t x : Nat} (h : wy π T p q R β t x ≠ 0) : x < 16 * (t + 1) := by
  have := (wy_ok π T p q R β t x h).1.1
  omega
theorem wyF (π : Nat → Nat → Nat) (T p q R : Nat) (β : Nat → Nat) {t : Nat} (ht : t < 6) (g : Nat → Nat) : sm (fun y => wy π T p q R β (t + 1) y * g y) 112 = sm (fun x => wy π T p q R β t x * (if AC π T p q R β t x = 0 then p * g (nx π β t x 1) + (q - p) * g (nx π β t x 0) else 0)) 112 := by
  have e1 : sm (fun y => wy π T p q R β (t + 1) y * g y) 112 = sm (fun y => wy π T p q R β (t + 1) y * g y) 128 := by
    refine (sm_tail (by omega) (fun i h1 h2 => ?_)).symm
    by_cases h : wy π T p q R β (t + 1) i = 0
    · rw [h, Nat.zero_mul]
    · have := wy_lt h
      omega
  have e2 : sm (fun y => wy π T p q R β (t + 1) y * g y) 128 = sm (fun y => sm (fun x => ctb p q (AC π T p q R β t) (nx π β t) (wy π T p q R β t) y x * g y) 112) 128 := by
    refine sm_congr 128 (fun y _ => ?_)
    exact (sm_mul _ (g y) 112).symm
  rw [e1, e2, sm_swap]
  refine sm_congr 112 (fun x hx => ?_)
  by_cases h : AC π T p q R β t x = 0
  · rw [if_pos h]
    have e3 : sm (fun y => ctb p q (AC π T p q R β t) (nx π β t) (wy π T p q R β t) y x * g y) 128 = sm (fun y => (if nx π β t x 1 = y then wy π T p q R β t x * p * g y else 0) + (if nx π β t x 0 = y then wy π T p q R β t x * (q - p) * g y else 0)) 128 := by
      refine sm_congr 128 (fun y _ => ?_)
      unfold ctb
      rw [if_pos h, Nat.add_mul]
      congr 1
      · split
        · rfl
        · exact Nat.zero_mul _
      · split
        · rfl
        · exact Nat.zero_mul _
    have l1 := nx_lt π β t hx (show 1 < 2 by omega)
    have l0 := nx_lt π β t hx (show 0 < 2 by omega)
    rw [e3, sm_add, sm_one (f := fun y => wy π T p q R β t x * p * g y), sm_one (f := fun y => wy π T p q R β t x * (q - p) * g y), if_pos l1, if_pos l0, Nat.mul_add, Nat.mul_assoc, Nat.mul_assoc]
  · rw [if_neg h, Nat.mul_zero, ← sm_zero 128]
    refine sm_congr 128 (fun y _ => ?_)
    rw [ctb_0 (Or.inr h), Nat.zero_mul]
theorem wy_tot {π : Nat → Nat → Nat} {T p q R : Nat} {β : Nat → Nat} (hp : p ≤ q) : ∀ t, t ≤ 6 → sm (fun x => wy π T p q R β t x) 112 ≤ q ^ t := by
  intro t
  induction t with
  | zero =>
    intro _
    have hl := hiF_lt β (π 0 0)
    have e : sm (fun x => wy π T p q R β 0 x) 112 = sm (fun x => if hiF β (π 0 0) = x then 1 else 0) 112 := by
      refine sm_congr 112 (fun x _ => ?_)
      show (if x = hiF β (π 0 0) then 1 else 0) = _
      by_cases h : x = hiF β (π 0 0)
      · rw [if_pos h, if_pos h.symm]
      · rw [if_neg h, if_neg (fun z => h z.symm)]
    rw [e, sm_one (f := fun _ => 1), if_pos (by omega)]
    exact Nat.le_refl 1
  | succ t ih =>
    intro ht
    have e1 : sm (fun y => wy π T p q R β (t + 1) y) 112 = sm (fun y => wy π T p q R β (t + 1) y * 1) 112 := sm_congr 112 (fun y _ => (Nat.mul_one _).symm)
    rw [e1, wyF π T p q R β (by omega) (fun _ => 1)]
    refine Nat.le_trans (sm_le (g := fun x => wy π T p q R β t x * q) 112 (fun x _ => ?_)) ?_
    · refine Nat.mul_le_mul (Nat.le_refl _) ?_
      split
      · omega
      · exact Nat.zero_le _
    · rw [sm_mul, Nat.pow_succ]
      exact Nat.mul_le_mul (ih (by omega)) (Nat.le_refl q)
theorem wy_b {π : Nat → Nat → Nat} {T p q R : Nat} {β : Nat → Nat} (hp : p ≤ q) (hq : q ≤ 20) {t x : Nat} (ht : t ≤ 6) : wy π T p q R β t x ≤ 64000000 := by
  by_cases h : wy π T p q R β t x = 0
  · omega
  · have h1 := wy_lt h
    have h2 := sm_mem (f := fun x => wy π T p q R β t x) 112 x (by omega)
    have h3 := wy_tot (π := π) (T := T) (R := R) (β := β) hp t ht
    have h4 := Nat.pow_le_pow_left hq t
    have h5 : 20 ^ t ≤ 20 ^ 6 := Nat.pow_le_pow_right (by omega) ht
    have h6 : (20 : Nat) ^ 6 = 64000000 := rfl
    exact Nat.le_trans h2 (Nat.le_trans h3 (Nat.le_trans h4 (by rw [← h6]; exact h5)))
/-- what the array of ways holds while day t is gone through -/
def WI (π : Nat → Nat → Nat) (T p q R : Nat) (β : Nat → Nat) (t N : Nat) (way : Nat → Int64) : Prop := (∀ s x, s ≤ t → x < 112 → way (112 * s + x) = lN (wy π T p q R β s x)) ∧ (∀ s x, t < s → s < 7 → x < 112 → way (112 * s + x) = lN (if s = t + 1 then sm (fun z => ctb p q (AC π T p q R β t) (nx π β t) (wy π T p q R β t) x z) N else 0))
theorem atN_x (t j u m : Nat) : atN t j u m = 112 * t + ((j * 2 + u) * 8 + m) := by unfold atN; omega
theorem w62 {bs : Nat → Int32} {pe : Nat → Int64} {k T p q R : Nat} {β : Nat → Nat} {π : Nat → Nat → Nat} (hb : RB bs k β) (hK : BK β) (hp : PK π) (hP : RP pe T π) (hN : NK T p q R) {ac : Nat → Int32} (hA : ∀ t j u m, t ≤ T → okM π β t j u m → ac (atN t j u m) = nI (acS π T p q R β t j u m) ∧ acS π T p q R β t j u m ≤ 6) {t j u : Nat} (ht : t < T) (hj : j ≤ t) (hu : u < 2) : ∀ (i n m : Nat) (way : Nat → Int64), m + i = 8 → WI π T p q R β t ((j * 2 + u) * 8 + m) way → Sx (lpX9_laysWays_62 (nI k) (nI t) (nI j) (nI u) bs (nI p) (nI q) pe ac (n + i + 1) (nI m) way) (fun z => WI π T p q R β t ((j * 2 + u) * 8 + 8) z) := by
  intro i
  induction i with
  | zero =>
    intro n m way hi hw
    rw [lpX9_laysWays_62.eq_2]
    refine Sx.p (show (8 : Int32) ≤ nI m from nI_le (a := 8) (by omega) (by omega)) (Sx.mk ?_)
    rw [show m = 8 by omega] at hw
    exact hw
  | succ i ih =>
    intro n m way hi hw
    rw [lpX9_laysWays_62.eq_2]
    refine Sx.n (show ¬ (8 : Int32) ≤ nI m from nI_ge (b := 8) (by omega) (by omega)) (Sx.e1 (at9 t j u m) ?_)
    have l1 : atN t j u m < 784 := atN_lt (by omega) (by omega) (by omega) (by omega)
    have hx : (j * 2 + u) * 8 + m < 112 := by omega
    have hwx := hw.1 t ((j * 2 + u) * 8 + m) (Nat.le_refl t) hx
    rw [← atN_x] at hwx
    have hbw := wy_b (π := π) (T := T) (R := R) (β := β) (p := p) (q := q) (by omega) (by omega) (t := t) (x := (j * 2 + u) * 8 + m) (by omega)
    rw [og32 l1 (by omega), nI_clamp (by omega), hwx]
    -- one more state done
    refine Sx.b1 (P := fun z => WI π T p q R β t ((j * 2 + u) * 8 + m + 1) z) ?_ ?_
    · have hskip : (wy π T p q R β t ((j * 2 + u) * 8 + m) = 0 ∨ AC π T p q R β t ((j * 2 + u) * 8 + m) ≠ 0) → WI π T p q R β t ((j * 2 + u) * 8 + m + 1) way := by
        intro h
        refine ⟨hw.1, fun s x h1 h2 h3 => ?_⟩
        rw [hw.2 s x h1 h2 h3]
        by_cases e : s = t + 1
        · rw [if_pos e, if_pos e]
          show _ = lN (sm _ ((j * 2 + u) * 8 + m) + ctb p q (AC π T p q R β t) (nx π β t) (wy π T p q R β t) x ((j * 2 + u) * 8 + m))
          rw [ctb_0 h, Nat.add_zero]
        · rw [if_neg e, if_neg e]
      by_cases hz : wy π T p q R β t ((j * 2 + u) * 8 + m) = 0
      · refine Sx.p (by rw [hz]; rfl) (Sx.mk (hskip (Or.inl hz)))
      · refine Sx.n (fun e => hz (by rw [l_0, pk_lEQ (by omega) (by omega)] at e; exact e)) ?_
        have hok := wy_ok π T p q R β t _ hz
        have d1 : ((j * 2 + u) * 8 + m) / 16 = j := by omega
        have d2 : ((j * 2 + u) * 8 + m) / 8 % 2 = u := by omega
        have d3 : ((j * 2 + u) * 8 + m) % 8 = m := by omega
        rw [d1, d2, d3] at hok
        obtain ⟨a1, a2⟩ := hA t j u m (by omega) hok
        have hAC : AC π T p q R β t ((j * 2 + u) * 8 + m) = acS π T p q R β t j u m := by unfold AC; rw [d1, d2, d3]
        rw [og32 l1 (by omega), a1]
        by_cases ha : acS π T p q R β t j u m = 0
        · refine Sx.p (by rw [ha]; rfl) ?_
          have b1 : atN (t + 1) (j + 1) 1 (mkF π β m (t + 1) (j + 1)) < 784 := atN_lt (by omega) (by omega) (by omega) (mkF_lt _ _ _ _ _)
          have b0 : atN (t + 1) (j + 0) 0 (mkF π β m (t + 1) (j + 0)) < 784 := atN_lt (by omega) (by omega) (by omega) (mkF_lt _ _ _ _ _)
          refine Sx.e1 (show fX9_then (nI k) (nI t) (nI j) (nI u) (nI m) 1 bs pe = _ from th9 hb hK hp hP hN.1.2 (b := 1) (nI u) hj (by omega) (by omega) ht) ?_
          refine Sx.e1 (show fX9_then (nI k) (nI t) (nI j) (nI u) (nI m) 0 bs pe = _ from th9 hb hK hp hP hN.1.2 (b := 0) (nI u) hj (by omega) (by omega) ht) ?_
          have n1 : atN (t + 1) (j + 1) 1 (mkF π β m (t + 1) (j + 1)) = 112 * (t + 1) + nx π β t ((j * 2 + u) * 8 + m) 1 := by rw [atN_x]; unfold nx; rw [d1, d3]
          have n0 : atN (t + 1) (j + 0) 0 (mkF π β m (t + 1) (j + 0)) = 112 * (t + 1) + nx π β t ((j * 2 + u) * 8 + m) 0 := by rw [atN_x]; unfold nx; rw [d1, d3]
          rw [n1] at b1 ⊢
          rw [n0] at b0 ⊢
          have l3 := nx_lt π β t hx (show 1 < 2 by omega)
          have l4 := nx_lt π β t hx (show 0 < 2 by omega)
          have p1 := nx_p π β t (x := (j * 2 + u) * 8 + m) (show 1 < 2 by omega)
          have p0 := nx_p π β t (x := (j * 2 + u) * 8 + m) (show 0 < 2 by omega)
          generalize hX : (j * 2 + u) * 8 + m = X at *
          rw [og32 b1 (by omega), og32 l1 (by omega), og32 b1 (by omega), nm_mk, og32 b0 (by omega), og32 l1 (by omega), og32 b0 (by omega), nm_mk, nI_clamp (n := 112 * (t + 1) + nx π β t X 1) (by omega), nI_clamp (n := 112 * (t + 1) + nx π β t X 0) (by omega)]
          refine Sx.mk ?_
          have ea : atN t j u m = 112 * t + X := by rw [atN_x, hX]
          rw [ea] at hwx ⊢
          have v1 := hw.2 (t + 1) (nx π β t X 1) (by omega) (by omega) (by omega)
          have v0 := hw.2 (t + 1) (nx π β t X 0) (by omega) (by omega) (by omega)
          rw [if_pos rfl] at v1 v0
          have hne : ¬ 112 * (t + 1) + nx π β t X 0 = 112 * (t + 1) + nx π β t X 1 := by omega
          rw [upL, if_neg hne, upL, if_neg (show ¬ 112 * t + X = 112 * (t + 1) + nx π β t X 1 by omega), hwx, v1, v0, pk_sub (by omega), nI_l (n := p) (by omega), nI_l (n := q - p) (by omega), lN_mul, lN_mul, lN_add, lN_add]
          refine ⟨fun s x h1 h2 => ?_, fun s x h1 h2 h3 => ?_⟩
          · rw [upL, if_neg (by omega), upL, if_neg (by omega)]
            exact hw.1 s x h1 h2
          · have hold := hw.2 s x h1 h2 h3
            rw [upL, upL]
            by_cases e : s = t + 1
            · subst e
              rw [if_pos rfl] at hold ⊢
              have hsum : sm (fun z => ctb p q (AC π T p q R β t) (nx π β t) (wy π T p q R β t) x z) (X + 1) = sm (fun z => ctb p q (AC π T p q R β t) (nx π β t) (wy π T p q R β t) x z) X + ((if nx π β t X 1 = x then wy π T p q R β t X * p else 0) + (if nx π β t X 0 = x then wy π T p q R β t X * (q - p) else 0)) := by
                show _ + ctb p q (AC π T p q R β t) (nx π β t) (wy π T p q R β t) x X = _
                unfold ctb
                rw [if_pos (show AC π T p q R β t X = 0 by rw [hAC]; exact ha)]
              rw [hsum]
              by_cases g0 : x = nx π β t X 0
              · subst g0
                rw [if_pos rfl, if_neg (show ¬ nx π β t X 1 = nx π β t X 0 by omega), if_pos rfl, Nat.zero_add]
              · rw [if_neg (show ¬ 112 * (t + 1) + x = 112 * (t + 1) + nx π β t X 0 by omega), if_neg (show ¬ nx π β t X 0 = x from fun z => g0 z.symm), Nat.add_zero]
                by_cases g1 : x = nx π β t X 1
                · subst g1
                  rw [if_pos rfl, if_pos rfl]; rfl
                · rw [if_neg (show ¬ 112 * (t + 1) + x = 112 * (t + 1) + nx π β t X 1 by omega), if_neg (show ¬ nx π β t X 1 = x from fun z => g1 z.symm), Nat.add_zero, hold]; rfl
            · rw [if_neg e] at hold ⊢
              rw [if_neg (by omega), if_neg (by omega)]
              exact hold
        · refine Sx.n (nI_ne0 (by omega) (by omega)) (Sx.mk (hskip (Or.inr (by rw [hAC]; exact ha))))
    · intro z hz
      rw [nm_mk, nI_1, show n + (i + 1) = n + i + 1 by omega]
      exact ih n (m + 1) z (by omega) hz
