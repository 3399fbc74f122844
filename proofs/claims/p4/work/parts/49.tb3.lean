/-! pure: first, days: both sides (own rows) -/
abbrev SA (c : Int32) (a : Nat) : Prop := (c = 0 ∧ (a = 2 ∨ a = 6)) ∨ (c ≠ 0 ∧ (a = 3 ∨ a = 4))
def acY (τ β : Nat → Nat) (t y : Nat) : Nat := acS (prF τ (τ 1)) (τ 0) (τ 6) (τ 7) (τ 8) β t (y / 16) (y % 2) (y / 2 % 8)
def SP (τ β : Nat → Nat) (t : Nat) (c : Int32) (j : Nat) : Prop := ∃ y, y < 112 ∧ y / 16 = j ∧ RKt τ β t y ≠ 0 ∧ SA c (acY τ β t y)
def kl (τ β : Nat → Nat) (t l : Nat) : Nat := (fd (RKt τ β t) 112 0 l).1
theorem sm_mo (f : Nat → Nat) {m n : Nat} (h : m ≤ n) : sm f m ≤ sm f n := by
  obtain ⟨d, rfl⟩ : ∃ d, n = m + d := ⟨n - m, by omega⟩
  rw [sm_app]; omega
theorem sm_0 (f : Nat → Nat) (n : Nat) : sm (fun y => f (0 + y)) n = sm f n := sm_congr n (fun y _ => by rw [Nat.zero_add])
theorem kl_p {τ β : Nat → Nat} {t l : Nat} (h : l < cnt τ β t) : kl τ β t l < 112 ∧ RKt τ β t (kl τ β t l) ≠ 0 ∧ l = sm (fun y => ind (RKt τ β t y)) (kl τ β t l) := by
  have h1 := fd_c.mpr h
  obtain ⟨_, _, f3, _, _⟩ := fd_p (RKt τ β t) 112 0 l
  obtain ⟨a, b, _⟩ := f3 (by omega)
  rw [Nat.sub_zero, sm_0 (fun y => ind (RKt τ β t y))] at b
  exact ⟨h1, a, b⟩
theorem kl_at {τ β : Nat → Nat} {t y : Nat} (hy : y < 112) (h : RKt τ β t y ≠ 0) : ∃ l, l < cnt τ β t ∧ kl τ β t l = y ∧ l = sm (fun y => ind (RKt τ β t y)) y := by
  have := fd_at h 112 0 (by omega) (by omega)
  rw [Nat.sub_zero, sm_0 (fun y => ind (RKt τ β t y))] at this
  refine ⟨_, ?_, ?_, rfl⟩
  · refine fd_c.mp ?_
    rw [this]; exact hy
  · unfold kl; rw [this]
theorem Fa_c {τ β : Nat → Nat} {t : Nat} {c : Int32} {l : Nat} (hl : l < cnt τ β t) (hs : SA c (acY τ β t (kl τ β t l))) (hn : ∀ l', l' < l → ¬ SA c (acY τ β t (kl τ β t l'))) : Fa (SP τ β t c) 6 (nI (kl τ β t l / 16)) := by
  obtain ⟨a, b, e⟩ := kl_p hl
  refine Or.inl ⟨kl τ β t l / 16, by omega, ⟨_, a, rfl, b, hs⟩, fun d hd => ?_, rfl⟩
  rintro ⟨y, y1, y2, y3, y4⟩
  obtain ⟨l', _, e1, e2⟩ := kl_at y1 y3
  have hlt : y < kl τ β t l := by omega
  have h1 := sm_mo (fun y => ind (RKt τ β t y)) (show y + 1 ≤ kl τ β t l by omega)
  have h2 : sm (fun y => ind (RKt τ β t y)) (y + 1) = sm (fun y => ind (RKt τ β t y)) y + 1 := by
    show _ + ind (RKt τ β t y) = _
    unfold ind; rw [if_neg y3]
  refine hn l' (by omega) ?_
  rw [e1]; exact y4
theorem Fa_n {τ β : Nat → Nat} {t : Nat} {c : Int32} (hn : ∀ l', l' < cnt τ β t → ¬ SA c (acY τ β t (kl τ β t l'))) : Fa (SP τ β t c) 6 (-2) := by
  refine Or.inr ⟨fun d _ => ?_, rfl⟩
  rintro ⟨y, y1, y2, y3, y4⟩
  obtain ⟨l', h1, e1, _⟩ := kl_at y1 y3
  refine hn l' h1 ?_
  rw [e1]; exact y4
theorem fi35 {τ β : Nat → Nat} (hT : TK τ) {t : Nat} (ht : t ≤ τ 0) (c : Int32) {ac rk : Nat → Int32} (hA : ∀ r, 1 ≤ r → r < 128 → dR r ≤ τ 0 → ac r = nI (A1 τ β r) ∧ A1 τ β r ≤ 6) (hrk : ∀ y, y < 112 → rk y = nI (RKt τ β t y)) : ∀ (i n l : Nat), l + i = cnt τ β t → (∀ l', l' < l → ¬ SA c (acY τ β t (kl τ β t l'))) → Sx (lpX8_first_35 c (nI (cnt τ β t)) ac rk (n + i + 1) (nI l)) (fun z => (z.1 = 2 ∧ ∀ l', l' < cnt τ β t → ¬ SA c (acY τ β t (kl τ β t l'))) ∨ ((z.1 = 0 ∨ z.1 = 1) ∧ ∃ l, l < cnt τ β t ∧ z.2 = nI (RKt τ β t (kl τ β t l)) ∧ SA c (acY τ β t (kl τ β t l)) ∧ ∀ l', l' < l → ¬ SA c (acY τ β t (kl τ β t l')))) := by
  have hcb := cnt_b τ β t
  intro i
  induction i with
  | zero =>
    intro n l hi hg
    rw [lpX8_first_35.eq_2]
    exact Sx.p (nI_le (by omega) (by omega)) (Sx.mk (Or.inl ⟨rfl, fun l' h => hg l' (by omega)⟩))
  | succ i ih =>
    intro n l hi hg
    obtain ⟨k1, k2, k3⟩ := kl_p (τ := τ) (β := β) (t := t) (l := l) (by omega)
    obtain ⟨r1, r2, r3, r4, r5⟩ := RK_p hT ht k2
    have hA1 := A1_s hT ht k2
    obtain ⟨a1, a2⟩ := hA _ r1 r2 (by omega)
    rw [lpX8_first_35.eq_2]
    refine Sx.n (nI_ge (by omega) (by omega)) (Sx.e1 (sr8' (fun y hy => ⟨hrk y hy, RK_b hT ht y⟩) (by omega) k1) (Sx.e1 (acA8 r1 r2) ?_))
    rw [show (fd (RKt τ β t) 112 0 l).1 = kl τ β t l from rfl, a1, hA1]
    have ha : acS (prF τ (τ 1)) (τ 0) (τ 6) (τ 7) (τ 8) β t (kl τ β t l / 16) (kl τ β t l % 2) (kl τ β t l / 2 % 8) = acY τ β t (kl τ β t l) := rfl
    rw [ha] at hA1 ⊢
    rw [hA1] at a2
    generalize hX : acY τ β t (kl τ β t l) = X at *
    have e1 : (if nI X = 3 then some (1 : Int32) else if nI X = 4 then some 1 else some 0) = some (if X = 3 ∨ X = 4 then 1 else 0) := by
      rcases (show X = 0 ∨ X = 1 ∨ X = 2 ∨ X = 3 ∨ X = 4 ∨ X = 5 ∨ X = 6 by omega) with rfl | rfl | rfl | rfl | rfl | rfl | rfl <;> decide
    have e2 : (if nI X = 2 then some (1 : Int32) else if nI X = 6 then some 1 else some 0) = some (if X = 2 ∨ X = 6 then 1 else 0) := by
      rcases (show X = 0 ∨ X = 1 ∨ X = 2 ∨ X = 3 ∨ X = 4 ∨ X = 5 ∨ X = 6 by omega) with rfl | rfl | rfl | rfl | rfl | rfl | rfl <;> decide
    refine Sx.e1 e1 (Sx.e1 e2 ?_)
    have hnext : ¬ SA c X → Sx (nm (nI l + 1) (fun w => lpX8_first_35 c (nI (cnt τ β t)) ac rk (n + (i + 1)) w)) (fun z => (z.1 = 2 ∧ ∀ l', l' < cnt τ β t → ¬ SA c (acY τ β t (kl τ β t l'))) ∨ ((z.1 = 0 ∨ z.1 = 1) ∧ ∃ l, l < cnt τ β t ∧ z.2 = nI (RKt τ β t (kl τ β t l)) ∧ SA c (acY τ β t (kl τ β t l)) ∧ ∀ l', l' < l → ¬ SA c (acY τ β t (kl τ β t l')))) := by
      intro hn
      rw [nm_mk, nI_1, show n + (i + 1) = n + i + 1 by omega]
      refine ih n (l + 1) (by omega) (fun l' h => ?_)
      by_cases e : l' = l
      · rw [e, hX]; exact hn
      · exact hg l' (by omega)
    have hfound : SA c X → ∃ l, l < cnt τ β t ∧ nI (RKt τ β t (kl τ β t l)) = nI (RKt τ β t (kl τ β t l)) ∧ SA c (acY τ β t (kl τ β t l)) := fun h => ⟨l, by omega, rfl, by rw [hX]; exact h⟩
    by_cases hc : c = 0
    · refine Sx.p hc ?_
      by_cases g : X = 2 ∨ X = 6
      · rw [if_pos g]
        exact Sx.n one0 (Sx.mk (Or.inr ⟨Or.inr rfl, l, by omega, rfl, by rw [hX]; exact Or.inl ⟨hc, g⟩, hg⟩))
      · rw [if_neg g]
        exact Sx.p rfl (hnext (fun q => by rcases q with q | q; exact g q.2; exact q.1 hc))
    · refine Sx.n hc ?_
      by_cases g : X = 3 ∨ X = 4
      · rw [if_pos g]
        exact Sx.n one0 (Sx.mk (Or.inr ⟨Or.inl rfl, l, by omega, rfl, by rw [hX]; exact Or.inr ⟨hc, g⟩, hg⟩))
      · rw [if_neg g]
        exact Sx.p rfl (hnext (fun q => by rcases q with q | q; exact hc q.1; exact g q.2))
theorem fi36 {π : Nat → Nat → Nat} {T p q R : Nat} {β : Nat → Nat} {way : Nat → Int64} {ac : Nat → Int32} (hN : NK T p q R) (hW : WA π T p q R β way ac) {t : Nat} (ht : t ≤ T) (c : Int32) : ∀ (i n x : Nat), x + i = 112 → (∀ x', x' < x → wy π T p q R β t x' ≠ 0 → ¬ SA c (AC π T p q R β t x')) → Sx (lpX9_first_36 (nI t) c way ac (n + i + 1) (nI (112 * t + x))) (fun z => (z.1 = 1 ∧ ∀ x', x' < 112 → wy π T p q R β t x' ≠ 0 → ¬ SA c (AC π T p q R β t x')) ∨ (z.1 = 0 ∧ ∃ x, x < 112 ∧ z.2 = nI (112 * t + x) ∧ wy π T p q R β t x ≠ 0 ∧ SA c (AC π T p q R β t x) ∧ ∀ x', x' < x → wy π T p q R β t x' ≠ 0 → ¬ SA c (AC π T p q R β t x'))) := by
  intro i
  induction i with
  | zero =>
    intro n x hi hg
    rw [lpX9_first_36.eq_2, i_112, pk_mul, nI_add]
    exact Sx.p (nI_le (by omega) (by omega)) (Sx.mk (Or.inl ⟨rfl, fun x' h => hg x' (by omega)⟩))
  | succ i ih =>
    intro n x hi hg
    obtain ⟨z1, z2, z3⟩ := wz hN hW.1 (show 112 * t + x < 784 by omega)
    rw [show (112 * t + x) / 112 = t by omega, show (112 * t + x) % 112 = x by omega] at z2
    rw [lpX9_first_36.eq_2, i_112, pk_mul, nI_add]
    refine Sx.n (nI_ge (by omega) (by omega)) ?_
    rw [og32 (by omega) (by omega), nI_clamp (by omega), og32 (by omega) (by omega), og32 (by omega) (by omega)]
    have hnext : (wy π T p q R β t x ≠ 0 → ¬ SA c (AC π T p q R β t x)) → Sx (nm (nI (112 * t + x) + 1) (fun w => lpX9_first_36 (nI t) c way ac (n + (i + 1)) w)) (fun z => (z.1 = 1 ∧ ∀ x', x' < 112 → wy π T p q R β t x' ≠ 0 → ¬ SA c (AC π T p q R β t x')) ∨ (z.1 = 0 ∧ ∃ x, x < 112 ∧ z.2 = nI (112 * t + x) ∧ wy π T p q R β t x ≠ 0 ∧ SA c (AC π T p q R β t x) ∧ ∀ x', x' < x → wy π T p q R β t x' ≠ 0 → ¬ SA c (AC π T p q R β t x'))) := by
      intro hn
      rw [nm_mk, nI_1, Nat.add_assoc, show n + (i + 1) = n + i + 1 by omega]
      refine ih n (x + 1) (by omega) (fun x' h1 h2 => ?_)
      by_cases e : x' = x
      · subst e; exact hn h2
      · exact hg x' (by omega) h2
    by_cases g0 : wy π T p q R β t x = 0
    · exact Sx.p (z2.mpr (fun q => q.2 g0)) (hnext (fun q => absurd g0 q))
    · refine Sx.n (fun q => z2.mp q ⟨ht, g0⟩) ?_
      obtain ⟨a1, a2⟩ := hW.2 t x ht g0
      rw [a1]
      generalize hX : AC π T p q R β t x = X at *
      refine Sx.b1 (P := fun z => z = if SA c X then 1 else 0) ?_ ?_
      · by_cases hc : c = 0
        · refine Sx.p hc ?_
          by_cases g2 : X = 2
          · refine Sx.p (by rw [g2]; rfl) (Sx.mk ?_)
            rw [if_pos (Or.inl ⟨hc, Or.inl g2⟩)]
          · refine Sx.n (fun q => g2 ((nI_eq (b := 2) (by omega) (by omega)).mp q)) ?_
            by_cases g6 : X = 6
            · refine Sx.p (by rw [g6]; rfl) (Sx.mk ?_)
              rw [if_pos (Or.inl ⟨hc, Or.inr g6⟩)]
            · refine Sx.n (fun q => g6 ((nI_eq (b := 6) (by omega) (by omega)).mp q)) (Sx.mk ?_)
              rw [if_neg (fun q => by rcases q with q | q; exact q.2.elim g2 g6; exact q.1 hc)]
        · refine Sx.n hc ?_
          have h34 := iin (n := X) (a := 3) (b := 4) (by omega) (by omega) (by omega)
          rw [og32 (by omega) (by omega)]
          refine Sx.e1 h34 (Sx.mk ?_)
          by_cases g : X = 3 ∨ X = 4
          · rw [if_pos (by omega), if_pos (Or.inr ⟨hc, g⟩)]
          · rw [if_neg (by omega), if_neg (fun q => by rcases q with q | q; exact hc q.1; exact g q.2)]
      · rintro z rfl
        by_cases g : SA c X
        · rw [if_pos g]
          exact Sx.n one0 (Sx.mk (Or.inr ⟨rfl, x, by omega, rfl, g0, by rw [hX]; exact g, hg⟩))
        · rw [if_neg g]
          exact Sx.p rfl (hnext (fun _ => g))
theorem ph_2 (x : Nat) : ph x / 2 % 8 = x % 8 := by
  unfold ph
  have hb : x / 8 % 2 < 2 := by omega
  have hm : x % 8 < 8 := by omega
  generalize x / 16 = a at *
  generalize x / 8 % 2 = b at *
  generalize x % 8 = m at *
  have h3 : (a * 16 + m * 2 + b) / 2 = a * 8 + m := by omega
  rw [h3]; omega
theorem acY_x {τ β : Nat → Nat} {t x : Nat} : acY τ β t (ph x) = AC (prF τ (τ 1)) (τ 0) (τ 6) (τ 7) (τ 8) β t x := by
  unfold acY AC
  rw [show ph x / 16 = x / 16 by unfold ph; omega, show ph x % 2 = x / 8 % 2 by unfold ph; omega, ph_2 x]
theorem Fa_x {τ β : Nat → Nat} (hT : TK τ) {t : Nat} (ht : t ≤ τ 0) {c : Int32} {x : Nat} (hx : x < 112) (hw : wy (prF τ (τ 1)) (τ 0) (τ 6) (τ 7) (τ 8) β t x ≠ 0) (hs : SA c (AC (prF τ (τ 1)) (τ 0) (τ 6) (τ 7) (τ 8) β t x)) (hn : ∀ x', x' < x → wy (prF τ (τ 1)) (τ 0) (τ 6) (τ 7) (τ 8) β t x' ≠ 0 → ¬ SA c (AC (prF τ (τ 1)) (τ 0) (τ 6) (τ 7) (τ 8) β t x')) : Fa (SP τ β t c) 6 (nI (x / 16)) := by
  refine Or.inl ⟨x / 16, by omega, ⟨ph x, ph_lt hx, by unfold ph; omega, (pr_in hT ht hx).mp hw, by rw [acY_x]; exact hs⟩, fun d hd => ?_, rfl⟩
  rintro ⟨y, y1, y2, y3, y4⟩
  have h1 : wy (prF τ (τ 1)) (τ 0) (τ 6) (τ 7) (τ 8) β t (ps y) ≠ 0 := fun q => y3 ((RK_w hT ht y1).mpr q)
  refine hn (ps y) (by unfold ps; omega) h1 ?_
  rw [← acY_x, ph_ps]; exact y4
theorem Fa_y {τ β : Nat → Nat} (hT : TK τ) {t : Nat} (ht : t ≤ τ 0) {c : Int32} (hn : ∀ x', x' < 112 → wy (prF τ (τ 1)) (τ 0) (τ 6) (τ 7) (τ 8) β t x' ≠ 0 → ¬ SA c (AC (prF τ (τ 1)) (τ 0) (τ 6) (τ 7) (τ 8) β t x')) : Fa (SP τ β t c) 6 (-2) := by
  refine Or.inr ⟨fun d _ => ?_, rfl⟩
  rintro ⟨y, y1, y2, y3, y4⟩
  have h1 : wy (prF τ (τ 1)) (τ 0) (τ 6) (τ 7) (τ 8) β t (ps y) ≠ 0 := fun q => y3 ((RK_w hT ht y1).mpr q)
  refine hn (ps y) (ps_lt y1) h1 ?_
  rw [← acY_x, ph_ps]; exact y4
theorem q_first {tr b0 b1 b2 tree bs : Nat → Int32} {τ : Nat → Nat} {B : Nat → Nat → Nat} (hf : TC tr τ) (hf9 : TR tree 0 τ) (hT : TK τ) (hB : CB3 b0 b1 b2 B) (hb9 : ∀ k, k < 3 → RB bs k (B k)) (p1 p2 p3 : Int32) (st sb : Nat → Int32) (pu pe tu ca ho va : Nat → Int64) (ma ac : Nat → Int32) (rok : Nat → Int32) (x0 x1 x2 x3 : Int32) (pe9 : Nat → Int64) (a9 b9 : Int64) (wo9 ho9 wa9 : Nat → Int64) (ac9 : Nat → Int32) : Sx2 (fX8_first p1 p2 p3 tr b0 b1 b2 st sb pu pe tu ca ho va ma ac rok) (fX9_first p1 p2 p3 tree bs x0 x1 x2 x3 pe9 a9 b9 wo9 ho9 wa9 ac9) (fun _ _ => True) := by
  by_cases h1 : inr p1 0 2
  rotate_left
  · exact Sx2.mk (by unfold fX8_first; rw [isb8n h1, bd1_mk, if_pos rfl]) (by unfold fX9_first; rw [isb9n h1, bd1_mk, if_pos rfl]) (trivial)
  by_cases h2 : inr p2 0 (τ 0)
  rotate_left
  · exact Sx2.mk (by unfold fX8_first; rw [isb8y h1, bd1_mk, if_neg one0, isd8n hf hT h2, bd1_mk, if_pos rfl]) (by unfold fX9_first; rw [isb9y h1, bd1_mk, if_neg one0, isd9n hf9 hT h2, bd1_mk, if_pos rfl]) (trivial)
  obtain ⟨k, rfl, _, hk, _⟩ := inr_n h1 (by decide)
  have hk3 : k < 3 := by omega
  obtain ⟨t, rfl, _, t2, _⟩ := inr_n h2 (Int.le_refl 0)
  have ht : t ≤ τ 0 := by omega
  have hcb := cnt_b τ (B k) t
  refine Sx2.rel (P := Fa (SP τ (B k) t p3) 6) (fun _ _ a b => a.u b) ?_ ?_
  · unfold fX8_first
    rw [isb8y h1, bd1_mk, if_neg one0, isd8y hf hT h2, bd1_mk, if_neg one0]
    refine Sx.b10 (wo8 hk3 hf hT hB st sb pu pe tu ca ho va ma ac) ?_
    rintro c0 c1 c2 c3 c4 c5 c6 c7 c8 c9 ⟨hc, hcb', hsb⟩
    dsimp only at hc hcb' hsb
    refine Sx.b2 (ga8 hT hsb ht rok) ?_
    rintro z0 rk ⟨rfl, hrk⟩
    dsimp only at hrk ⊢
    obtain ⟨n, hn⟩ := fuN (cnt τ (B k) t + 1) (by omega)
    rw [hn, i_0, show n + (cnt τ (B k) t + 1) = n + cnt τ (B k) t + 1 by omega]
    refine Sx.b2 (fi35 hT ht p3 (hsb.a6 hT) hrk (cnt τ (B k) t) n 0 (by omega) (fun l' h => absurd h (by omega))) ?_
    intro tg rw' h
    dsimp only at h
    rcases h with ⟨rfl, h⟩ | ⟨htg, l, hl, rfl, hs, hn'⟩
    · exact Sx.n (by decide) (Sx.n (by decide) (Sx.mk (Fa_n h)))
    · obtain ⟨k1, k2, k3⟩ := kl_p hl
      obtain ⟨r1, r2, r3, r4, r5⟩ := RK_p hT ht k2
      have hu := (RK_x hT ht k2).1
      have hF := Fa_c hl hs hn'
      have hup := ups8 _ r2 r1
      rw [hu] at hup
      rcases htg with rfl | rfl
      · exact Sx.p rfl (Sx.e1 hup (Sx.mk hF))
      · exact Sx.n (by decide) (Sx.p rfl (Sx.e1 hup (Sx.mk hF)))
  · unfold fX9_first
    rw [isb9y h1, bd1_mk, if_neg one0, isd9y hf9 hT h2, bd1_mk, if_neg one0]
    refine Sx.b11 (la9 hf9 hT hk3 (hb9 k hk3) (hB k hk3).2 x0 x1 x2 x3 pe9 a9 b9 wo9 ho9 wa9 ac9) ?_
    rintro d0 d1 d2 d3 pe' d5 d6 d7 d8 d9 d10 ⟨rfl, rfl, rfl, rfl, hP, hG, hWA⟩
    dsimp only at hP hG hWA ⊢
    obtain ⟨n, hn⟩ := fuN 113 (by omega)
    have he := fi36 hT.n hWA ht p3 112 n 0 (by omega) (fun x' h => absurd h (by omega))
    rw [Nat.add_zero] at he
    rw [nm_mk, i_112, pk_mul, hn]
    refine Sx.b2 he ?_
    intro tg z h
    dsimp only at h
    rcases h with ⟨rfl, h⟩ | ⟨rfl, x, hx, rfl, hw, hs, hn'⟩
    · exact Sx.n (by decide) (Sx.mk ⟨Fa_y hT ht h, trivial⟩)
    · refine Sx.p rfl (Sx.mk ⟨?_, trivial⟩)
      show Fa _ 6 ((nI (112 * t + x) / 16) - (nI (112 * t + x) / 16) / 7 * 7)
      rw [i_16, pk_div (by omega) (by omega) (by omega), i_7, pk_rem (by omega) (by omega) (by omega), show (112 * t + x) / 16 % 7 = x / 16 by omega]
      exact Fa_x hT ht hx hw hs hn'
/-- days as bits -/
theorem orb : ∀ v, v < 128 → ∀ d, d < 7 → nI v ||| ((1 : Int32) <<< (nI d &&& 31)) = nI (v ||| 2 ^ d) ∧ v ||| 2 ^ d < 128 := by decide +kernel
theorem tb_or (v d e : Nat) : (v ||| 2 ^ d).testBit e = (v.testBit e || decide (d = e)) := by
  rw [Nat.testBit_or, Nat.testBit_two_pow]
theorem bit_u {v w : Nat} (hv : v < 128) (hw : w < 128) (h : ∀ d, d < 7 → v.testBit d = w.testBit d) : v = w := by
  refine Nat.eq_of_testBit_eq (fun d => ?_)
  by_cases g : d < 7
  · exact h d g
  · have h7 : 128 ≤ 2 ^ d := by
      have := Nat.pow_le_pow_right (show 0 < 2 by omega) (show 7 ≤ d by omega)
      omega
    rw [Nat.testBit_lt_two_pow (by omega), Nat.testBit_lt_two_pow (by omega)]
def DQ (v : Nat) (Q : Nat → Prop) : Prop := v < 128 ∧ ∀ d, d < 7 → (v.testBit d = true ↔ Q d)
theorem DQ.same {v : Nat} {Q Q' : Nat → Prop} (h : DQ v Q) (e : ∀ d, d < 7 → (Q d ↔ Q' d)) : DQ v Q' := ⟨h.1, fun d hd => (h.2 d hd).trans (e d hd)⟩
theorem DQ.add {v e : Nat} {Q Q' : Nat → Prop} (he : e < 7) (h : DQ v Q) (g : ∀ d, d < 7 → (Q' d ↔ Q d ∨ d = e)) : DQ (v ||| 2 ^ e) Q' := by
  refine ⟨(orb v h.1 e he).2, fun d hd => ?_⟩
  rw [tb_or, Bool.or_eq_true, decide_eq_true_iff, h.2 d hd, g d hd]
  exact ⟨fun q => q.imp id Eq.symm, fun q => q.imp id Eq.symm⟩
theorem DQ.u {v w : Nat} {Q Q' : Nat → Prop} (h : DQ v Q) (g : DQ w Q') (e : ∀ d, d < 7 → (Q d ↔ Q' d)) : v = w := by
  refine bit_u h.1 g.1 (fun d hd => ?_)
  have := (h.2 d hd).trans ((e d hd).trans (g.2 d hd).symm)
  cases hx : v.testBit d <;> cases hy : w.testBit d
  · rfl
  · rw [hx, hy] at this; exact absurd (this.mpr rfl) (by decide)
  · rw [hx, hy] at this; exact absurd (this.mp rfl) (by decide)
  · rfl
def Q8 (τ β : Nat → Nat) (a r d : Nat) : Prop := ∃ r', 1 ≤ r' ∧ r' < r ∧ dR r' = d ∧ A1 τ β r' = a ∧ CT (A1 τ β) r'
theorem da29 {f : Nat → Int32} {τ β : Nat → Nat} (hf : TC f τ) (hT : TK τ) {ac : Nat → Int32} (hA : ∀ r, 1 ≤ r → r < 128 → dR r ≤ τ 0 → ac r = nI (A1 τ β r) ∧ A1 τ β r ≤ 6) {a : Nat} (ha : a ≤ 6) : ∀ (i n r v : Nat), r + i = 2 * 2 ^ τ 0 → 1 ≤ r → DQ v (Q8 τ β a r) → Sx (lpX8_days_29 (nI a) f ac (n + i + 1) (nI v) (nI r)) (fun z => ∃ v, z = nI v ∧ DQ v (Q8 τ β a (2 * 2 ^ τ 0))) := by
  have hb2 := p2b (τ 0) (by omega)
  intro i
  induction i with
  | zero =>
    intro n r v hi h1 hg
    rw [lpX8_days_29.eq_2]
    refine Sx.e1 (lr8' hf hT) (Sx.p (nI_lt (by omega) (by omega)) (Sx.mk ⟨v, rfl, ?_⟩))
    rw [show r = 2 * 2 ^ τ 0 by omega] at hg
    exact hg
  | succ i ih =>
    intro n r v hi h1 hg
    have hr : r < 128 := by omega
    obtain ⟨⟨b1, b2, b3⟩, b4, b5, b6⟩ := row_b1 r hr h1
    have hdT : dR r ≤ τ 0 := by
      by_cases g : dR r ≤ τ 0
      · exact g
      · have := Nat.pow_le_pow_right (show 0 < 2 by omega) (show τ 0 + 1 ≤ dR r by omega)
        rw [Nat.pow_succ] at this
        omega
    obtain ⟨a1, a2⟩ := hA r h1 hr hdT
    have hAr : ∀ j, j ≤ dR r → ac (pfx r j) = nI (A1 τ β (pfx r j)) ∧ A1 τ β (pfx r j) ≤ 6 := by
      intro j hj
      obtain ⟨q1, q2, q3⟩ := pf1 r hr h1 j (by omega) hj
      exact hA _ q2 q3 (by omega)
    rw [lpX8_days_29.eq_2]
    refine Sx.e1 (lr8' hf hT) (Sx.n (nI_nlt (by omega) (by omega)) (Sx.e1 (acA8 h1 hr) ?_))
    rw [a1]
    refine Sx.b1 (P := fun z => ∃ v, z = nI v ∧ DQ v (Q8 τ β a (r + 1))) ?_ ?_
    · have hskip : ¬ (A1 τ β r = a ∧ CT (A1 τ β) r) → DQ v (Q8 τ β a (r + 1)) := by
        intro hn
        refine hg.same (fun d _ => ?_)
        constructor
        · rintro ⟨r', q1, q2, q3⟩; exact ⟨r', q1, by omega, q3⟩
        · rintro ⟨r', q1, q2, q3, q4, q5⟩
          by_cases e : r' = r
          · subst e; exact absurd ⟨q4, q5⟩ hn
          · exact ⟨r', q1, by omega, q3, q4, q5⟩
      by_cases g1 : A1 τ β r = a
      · refine Sx.p (by rw [g1]) (Sx.e1 (ct8 h1 hr hAr) ?_)
        by_cases g2 : CT (A1 τ β) r
        · rw [if_pos g2, if_neg one0]
          refine Sx.e1 (day8 r hr h1) ?_
          rw [nm_mk, (orb v hg.1 (dR r) (by omega)).1]
          refine Sx.mk ⟨_, rfl, hg.add (by omega) (fun d _ => ?_)⟩
          constructor
          · rintro ⟨r', q1, q2, q3, q4, q5⟩
            by_cases e : r' = r
            · subst e; exact Or.inr q3.symm
            · exact Or.inl ⟨r', q1, by omega, q3, q4, q5⟩
          · rintro (⟨r', q1, q2, q3⟩ | rfl)
            · exact ⟨r', q1, by omega, q3⟩
            · exact ⟨r, h1, by omega, rfl, g1, g2⟩
        · rw [if_neg g2, if_pos rfl]
          exact Sx.mk ⟨v, rfl, hskip (fun z => g2 z.2)⟩
      · refine Sx.n (fun z => g1 ((nI_eq (by omega) (by omega)).mp z)) (Sx.mk ⟨v, rfl, hskip (fun z => g1 z.1)⟩)
    · rintro z ⟨v', rfl, hv'⟩
      rw [nm_mk, nI_1, show n + (i + 1) = n + i + 1 by omega]
      exact ih n (r + 1) v' (by omega) (by omega) hv'
def Q9 (π : Nat → Nat → Nat) (T p q R : Nat) (β : Nat → Nat) (a x d : Nat) : Prop := ∃ x', x' < x ∧ x' / 112 = d ∧ d ≤ T ∧ wy π T p q R β d (x' % 112) ≠ 0 ∧ AC π T p q R β d (x' % 112) = a
theorem da31 {π : Nat → Nat → Nat} {T p q R : Nat} {β : Nat → Nat} {way : Nat → Int64} {ac : Nat → Int32} (hN : NK T p q R) (hW : WA π T p q R β way ac) {a : Nat} (ha : a ≤ 6) : ∀ (i n x v : Nat), x + i = 784 → DQ v (Q9 π T p q R β a x) → Sx (lpX9_days_31 (nI a) way ac (n + i + 1) (nI v) (nI x)) (fun z => ∃ v, z = nI v ∧ DQ v (Q9 π T p q R β a 784)) := by
  intro i
  induction i with
  | zero =>
    intro n x v hi hg
    rw [lpX9_days_31.eq_2]
    refine Sx.p (show (784 : Int32) ≤ nI x from nI_le (a := 784) (by omega) (by omega)) (Sx.mk ⟨v, rfl, ?_⟩)
    rw [show x = 784 by omega] at hg
    exact hg
  | succ i ih =>
    intro n x v hi hg
    obtain ⟨z1, z2, z3⟩ := wz hN hW.1 (show x < 784 by omega)
    rw [lpX9_days_31.eq_2]
    refine Sx.n (show ¬ (784 : Int32) ≤ nI x from nI_ge (b := 784) (by omega) (by omega)) ?_
    rw [og32 (by omega) (by omega), nI_clamp (by omega)]
    refine Sx.b1 (P := fun z => ∃ v, z = nI v ∧ DQ v (Q9 π T p q R β a (x + 1))) ?_ ?_
    · have hskip : ¬ (x / 112 ≤ T ∧ wy π T p q R β (x / 112) (x % 112) ≠ 0 ∧ AC π T p q R β (x / 112) (x % 112) = a) → DQ v (Q9 π T p q R β a (x + 1)) := by
        intro hn
        refine hg.same (fun d _ => ?_)
        constructor
        · rintro ⟨x', q1, q2⟩; exact ⟨x', by omega, q2⟩
        · rintro ⟨x', q1, q2, q3, q4, q5⟩
          by_cases e : x' = x
          · subst e; subst q2; exact absurd ⟨q3, q4, q5⟩ hn
          · exact ⟨x', by omega, q2, q3, q4, q5⟩
      by_cases g : x / 112 ≤ T ∧ wy π T p q R β (x / 112) (x % 112) ≠ 0
      · obtain ⟨a1, a2⟩ := hW.2 (x / 112) (x % 112) g.1 g.2
        rw [show 112 * (x / 112) + x % 112 = x by omega] at a1
        refine Sx.n (fun z => z1.mp z g) ?_
        rw [og32 (by omega) (by omega), a1]
        by_cases g2 : AC π T p q R β (x / 112) (x % 112) = a
        · refine Sx.p (by rw [g2]) (Sx.e1 (day9 (by omega)) ?_)
          rw [nm_mk, (orb v hg.1 (x / 112) (by omega)).1]
          refine Sx.mk ⟨_, rfl, hg.add (by omega) (fun d _ => ?_)⟩
          constructor
          · rintro ⟨x', q1, q2, q3⟩
            by_cases e : x' = x
            · subst e; exact Or.inr q2.symm
            · exact Or.inl ⟨x', by omega, q2, q3⟩
          · rintro (⟨x', q1, q2⟩ | rfl)
            · exact ⟨x', by omega, q2⟩
            · exact ⟨x, by omega, rfl, g.1, g.2, g2⟩
        · exact Sx.n (fun z => g2 ((nI_eq (by omega) (by omega)).mp z)) (Sx.mk ⟨v, rfl, hskip (fun z => g2 z.2.2)⟩)
      · exact Sx.p (z1.mpr g) (Sx.mk ⟨v, rfl, hskip (fun z => g ⟨z.1, z.2.1⟩)⟩)
    · rintro z ⟨v', rfl, hv'⟩
      rw [nm_mk, nI_1, show n + (i + 1) = n + i + 1 by omega]
      exact ih n (x + 1) v' (by omega) hv'
theorem Q89 {τ β : Nat → Nat} (hT : TK τ) (a : Nat) : ∀ d, d < 7 → (Q8 τ β a (2 * 2 ^ τ 0) d ↔ Q9 (prF τ (τ 1)) (τ 0) (τ 6) (τ 7) (τ 8) β a 784 d) := by
  have hb2 := p2b (τ 0) (by omega)
  intro d hd
  constructor
  · rintro ⟨r, q1, q2, q3, q4, q5⟩
    have hr : r < 128 := by omega
    obtain ⟨⟨b1, b2, b3⟩, b4, b5, b6⟩ := row_b1 r hr q1
    have hdT : d ≤ τ 0 := by
      by_cases g : dR r ≤ τ 0
      · omega
      · have := Nat.pow_le_pow_right (show 0 < 2 by omega) (show τ 0 + 1 ≤ dR r by omega)
        rw [Nat.pow_succ] at this
        omega
    obtain ⟨e1, e2, e3, e4⟩ := xR_p (prF τ (τ 1)) β q1 hr
    have hac := AC_r (prF τ (τ 1)) (τ 0) (τ 6) (τ 7) (τ 8) β q1 hr
    rw [q3] at b5 b6 hac
    refine ⟨112 * d + xR (prF τ (τ 1)) β r, by omega, by omega, hdT, ?_, ?_⟩
    · rw [show (112 * d + xR (prF τ (τ 1)) β r) % 112 = xR (prF τ (τ 1)) β r by omega]
      refine (wy_in (prF τ (τ 1)) β (by omega) (by omega) e4).mpr ⟨r - 2 ^ d, by omega, ?_, ?_⟩
      · rw [show 2 ^ d + (r - 2 ^ d) = r by omega]; exact q5
      · rw [show 2 ^ d + (r - 2 ^ d) = r by omega]
    · rw [show (112 * d + xR (prF τ (τ 1)) β r) % 112 = xR (prF τ (τ 1)) β r by omega, hac]
      exact q4
  · rintro ⟨x, q1, q2, q3, q4, q5⟩
    have hbd := p2b d hd
    obtain ⟨i, h1, h2, h3⟩ := (wy_in (prF τ (τ 1)) β (by omega) (by omega) (show x % 112 < 112 by omega)).mp q4
    have hdr := dR_eq (2 ^ d + i) (by omega) d hd (by omega) (by omega)
    have hac := AC_r (prF τ (τ 1)) (τ 0) (τ 6) (τ 7) (τ 8) β (show 1 ≤ 2 ^ d + i by omega) (show 2 ^ d + i < 128 by omega)
    rw [hdr, h3, q5] at hac
    have hpw := Nat.pow_le_pow_right (show 0 < 2 by omega) q3
    exact ⟨2 ^ d + i, by omega, by omega, hdr, hac.symm, h2⟩
theorem q_days {tr b0 b1 b2 tree bs : Nat → Int32} {τ : Nat → Nat} {B : Nat → Nat → Nat} (hf : TC tr τ) (hf9 : TR tree 0 τ) (hT : TK τ) (hB : CB3 b0 b1 b2 B) (hb9 : ∀ k, k < 3 → RB bs k (B k)) (p1 p2 : Int32) (st sb : Nat → Int32) (pu pe tu ca ho va : Nat → Int64) (ma ac : Nat → Int32) (x0 x1 x2 x3 : Int32) (pe9 : Nat → Int64) (a9 b9 : Int64) (wo9 ho9 wa9 : Nat → Int64) (ac9 : Nat → Int32) : Sx2 (fX8_days p1 p2 tr b0 b1 b2 st sb pu pe tu ca ho va ma ac) (fX9_days p1 p2 tree bs x0 x1 x2 x3 pe9 a9 b9 wo9 ho9 wa9 ac9) (fun _ _ => True) := by
  by_cases h1 : inr p1 0 2
  rotate_left
  · exact Sx2.mk (by unfold fX8_days; rw [isb8n h1, bd1_mk, if_pos rfl]) (by unfold fX9_days; rw [isb9n h1, bd1_mk, if_pos rfl]) (trivial)
  by_cases h2 : inr p2 0 6
  rotate_left
  · exact Sx2.mk (by unfold fX8_days; rw [isb8y h1, bd1_mk, if_neg one0, wi0 h2, bd1_mk, if_pos rfl]) (by unfold fX9_days; rw [isb9y h1, bd1_mk, if_neg one0, in0 h2, bd1_mk, if_pos rfl]) (trivial)
  obtain ⟨k, rfl, _, hk, _⟩ := inr_n h1 (by decide)
  have hk3 : k < 3 := by omega
  obtain ⟨a, rfl, _, a2, _⟩ := inr_n h2 (by decide)
  have hb2 := p2b (τ 0) (by omega)
  refine Sx2.rel (P := fun z => ∃ v, z = nI v ∧ DQ v (Q9 (prF τ (τ 1)) (τ 0) (τ 6) (τ 7) (τ 8) (B k) a 784)) ?_ ?_ ?_
  · rintro x y ⟨v, rfl, hv⟩ ⟨w, rfl, hw⟩
    rw [hv.u hw (fun _ _ => Iff.rfl)]
  · unfold fX8_days
    rw [isb8y h1, bd1_mk, if_neg one0, wi1 h2, bd1_mk, if_neg one0]
    refine Sx.b10 (wo8 hk3 hf hT hB st sb pu pe tu ca ho va ma ac) ?_
    rintro c0 c1 c2 c3 c4 c5 c6 c7 c8 c9 ⟨hc, hcb', hsb⟩
    dsimp only at hc hcb' hsb
    obtain ⟨n, hn⟩ := fuN (2 * 2 ^ τ 0) (by omega)
    rw [hn, show n + 2 * 2 ^ τ 0 = n + (2 * 2 ^ τ 0 - 1) + 1 by omega, i_0, i_1]
    refine Sx.b1 (da29 hc hT (hsb.a6 hT) (show a ≤ 6 by omega) (2 * 2 ^ τ 0 - 1) n 1 0 (by omega) (by omega) ⟨by omega, fun d _ => ⟨fun q => by rw [Nat.zero_testBit] at q; exact absurd q (by decide), fun ⟨r', q1, q2, _⟩ => absurd q2 (by omega)⟩⟩) ?_
    rintro z ⟨v, rfl, hv⟩
    exact Sx.mk ⟨v, rfl, hv.same (Q89 hT a)⟩
  · unfold fX9_days
    rw [isb9y h1, bd1_mk, if_neg one0, in1 h2, bd1_mk, if_neg one0]
    refine Sx.b11 (la9 hf9 hT hk3 (hb9 k hk3) (hB k hk3).2 x0 x1 x2 x3 pe9 a9 b9 wo9 ho9 wa9 ac9) ?_
    rintro d0 d1 d2 d3 pe' d5 d6 d7 d8 d9 d10 ⟨rfl, rfl, rfl, rfl, hP, hG, hWA⟩
    dsimp only at hP hG hWA ⊢
    obtain ⟨n, hn⟩ := fuN 785 (by omega)
    rw [hn, i_0]
    refine Sx.b1 (da31 hT.n hWA (show a ≤ 6 by omega) 784 n 0 0 (by omega) ⟨by omega, fun d _ => ⟨fun q => by rw [Nat.zero_testBit] at q; exact absurd q (by decide), fun ⟨x', q1, _⟩ => absurd q1 (by omega)⟩⟩) ?_
    intro z hz
    exact Sx.mk ⟨hz, trivial⟩
