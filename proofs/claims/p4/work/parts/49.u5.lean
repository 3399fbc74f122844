/-! pure: hedged, both sides (own rows) -/
def clp (j : Int64) : Int64 := if j ≤ 100000 then (if -100000 ≤ j then j else -100000) else 100000
theorem clp8 (r : Int64) : (if (if r < 100000 then r else 100000) < (-100000) then (-100000) else (if r < 100000 then r else 100000)) = clp r := by
  unfold clp
  by_cases a : r < 100000
  · rw [if_pos a, if_pos (Int64.le_of_lt a)]
    by_cases b : -100000 ≤ r
    · rw [if_pos b, if_neg (Int64.not_lt.mpr b)]
    · rw [if_neg b, if_pos (Int64.not_le.mp b)]
  · rw [if_neg a, if_neg (show ¬ (100000 : Int64) < -100000 by decide)]
    by_cases b : r ≤ 100000
    · have e : r = 100000 := Int64.le_antisymm b (Int64.not_lt.mp a)
      subst e
      rfl
    · rw [if_neg b]
def hv (τ β : Nat → Nat) (e : Nat) : Int64 := if rW τ e = 0 then 0 else clp (rQ τ β e)
theorem sub0 {a b : Int64} : a = b ↔ a - b = 0 := by
  constructor
  · rintro rfl; exact Int64.sub_self _
  · intro h
    have := Int64.sub_add_cancel (a := a) (b := b)
    rw [h, Int64.zero_add] at this
    exact this.symm
theorem sw8 {st : Nat → Int32} {τ β : Nat → Nat} (hc : TC st τ) (hT : TK τ) {pe tu ca ho va : Nat → Int64} {ma ac : Nat → Int32} (hsb : SB τ β pe tu ca ho va ma ac) {e : Nat} (e1 : 1 ≤ e) (e2 : e < 128) (ed : dR e < τ 0) : fX5_sharesWanted (nI e) st pe va = some (hv τ β e) := by
  obtain ⟨s1, p1, p0, r64⟩ := sh8 hc hT hsb e1 e2 ed
  unfold fX5_sharesWanted
  rw [show fX8_longer (nI e) 1 = _ from lo8 e (b := 1) (by omega), bd1_mk, peA8 (by omega) (by omega), bd1_mk, show fX8_longer (nI e) 0 = _ from lo8 e (b := 0) (by omega), bd1_mk, peA8 (by omega) (by omega), bd1_mk, p1, p0, s1]
  unfold hv
  by_cases g : rW τ e = 0
  · rw [if_pos (sub0.mpr g), bd1_mk, if_neg one0, bd1_mk, if_pos g]
  · rw [if_neg (fun z => g (sub0.mp z)), bd1_mk, if_pos rfl, bd1_mk, bd1_mk, if_neg g, if_neg g, clp8]
def hgE (τ β : Nat → Nat) (e : Nat) (c s : Int64) : Int64 := (c + ((s * lN ((prF τ (τ 1)) (dR e) (uR e))) / 1000)) - lN (pyA (prF τ (τ 1)) β (A1 τ β e) e)
def hgF (τ β : Nat → Nat) (r : Nat) : Nat → Nat → Int64 → Int64 → Int64
  | 0, x, c, s => if A1 τ β (pfx r x) = 0 then -2 else hgE τ β (pfx r x) c s
  | i + 1, x, c, s => if A1 τ β (pfx r x) = 0 then hgF τ β r i (x + 1) (((c - ((hv τ β (pfx r x) - s) * lN ((prF τ (τ 1)) (dR (pfx r x)) (uR (pfx r x)))) / 1000) * Int32.toInt64 (1000 + nI (τ 8))) / 1000 - Int32.toInt64 (nI (cpF β (x + 1)))) (hv τ β (pfx r x)) else hgE τ β (pfx r x) c s
abbrev hq8 (τ β : Nat → Nat) (H : Int64) (z : Nat × Int64 × Int64 × Int32) : Prop := (z.1 = 1 ∧ H = -2) ∨ (z.1 = 0 ∧ ∃ e, 1 ≤ e ∧ e < 128 ∧ dR e ≤ τ 0 ∧ A1 τ β e ≠ 0 ∧ z.2.2.2 = nI e ∧ H = hgE τ β e z.2.1 z.2.2.1)
abbrev hq9 (τ β : Nat → Nat) (H : Int64) (z : Nat × Int64 × Int64 × Int32 × Int32 × Int32 × Int32) : Prop := (z.1 = 0 ∧ H = -2) ∨ (z.1 = 1 ∧ ∃ e, 1 ≤ e ∧ e < 128 ∧ dR e ≤ τ 0 ∧ A1 τ β e ≠ 0 ∧ z.2.2.2.1 = nI (dR e) ∧ z.2.2.2.2.1 = nI (uR e) ∧ z.2.2.2.2.2.1 = nI (bR e) ∧ z.2.2.2.2.2.2 = nI (mR (prF τ (τ 1)) β e) ∧ H = hgE τ β e z.2.1 z.2.2.1)
theorem A1_T {τ β : Nat → Nat} {e : Nat} (h : A1 τ β e = 0) (hd : dR e ≤ τ 0) : dR e < τ 0 := by
  by_cases g : dR e = τ 0
  · exact absurd h (aR_T _ _ _ _ _ _ g)
  · omega
theorem ha12 {st sb : Nat → Int32} {τ β : Nat → Nat} (hc : TC st τ) (hcb : CB sb β) (hK : BK β) (hT : TK τ) {pe tu ca ho va : Nat → Int64} {ma ac : Nat → Int32} (hsb : SB τ β pe tu ca ho va ma ac) {r : Nat} (r1 : 1 ≤ r) (r2 : r < 128) (rd : dR r ≤ τ 0) : ∀ (i n x : Nat) (x2 s : Int64), x + i = dR r → Sx (lpX5_hedgedAlong_12 (nI r) st sb pe va ac (n + i + 2) x2 s (nI x)) (hq8 τ β (hgF τ β r i x (x2 - Int32.toInt64 (nI (cpF β x))) s)) := by
  have hd6 := (row_b1 r r2 r1).1.1
  have ha := hsb.a hT
  have step : ∀ (i n x : Nat) (x2 s : Int64), x ≤ dR r → A1 τ β (pfx r x) = 0 → lpX5_hedgedAlong_12 (nI r) st sb pe va ac (n + 1) x2 s (nI x) = lpX5_hedgedAlong_12 (nI r) st sb pe va ac n ((((x2 - Int32.toInt64 (nI (cpF β x))) - ((hv τ β (pfx r x) - s) * lN ((prF τ (τ 1)) (dR (pfx r x)) (uR (pfx r x)))) / 1000) * Int32.toInt64 (1000 + nI (τ 8))) / 1000) (hv τ β (pfx r x)) (nI (x + 1)) := by
    intro i n x x2 s hx g
    obtain ⟨g1, g2, g3⟩ := pf1 r r2 r1 x (by omega) hx
    have hdT : dR (pfx r x) < τ 0 := A1_T g (by omega)
    obtain ⟨a1, a2, a3⟩ := ha _ g2 g3 (by omega)
    have hr3 := row_T hT g2 g3 (by omega)
    rw [lpX5_hedgedAlong_12.eq_2, day8 r r2 r1, bd1_mk, if_neg (nI_nlt (by omega) (by omega)), rod8 r r2 r1 x (by omega) hx, bd1_mk, co8 hcb (by omega), bd1_mk, nm_mk, acA8 g2 g3, bd1_mk, a1, if_pos (by rw [g]; rfl), sw8 hc hT hsb g2 g3 hdT, bd1_mk, peA8 g2 g3, bd1_mk, nm_mk, show fX7_get 8 st = _ from gt7 hc (a := 8) (by omega), bd1_mk, nm_mk, nm_mk, nI_1, (hsb.1 _ g2 hr3).1]
  have stop : ∀ (n x : Nat) (x2 s : Int64), x ≤ dR r → A1 τ β (pfx r x) ≠ 0 → lpX5_hedgedAlong_12 (nI r) st sb pe va ac (n + 1) x2 s (nI x) = some (0, x2 - Int32.toInt64 (nI (cpF β x)), s, nI (pfx r x)) := by
    intro n x x2 s hx g
    obtain ⟨g1, g2, g3⟩ := pf1 r r2 r1 x (by omega) hx
    obtain ⟨a1, a2, a3⟩ := ha _ g2 g3 (by omega)
    rw [lpX5_hedgedAlong_12.eq_2, day8 r r2 r1, bd1_mk, if_neg (nI_nlt (by omega) (by omega)), rod8 r r2 r1 x (by omega) hx, bd1_mk, co8 hcb (by omega), bd1_mk, nm_mk, acA8 g2 g3, bd1_mk, a1, if_neg (nI_ne0 (by omega) (by have := a2.1; omega))]
  intro i
  induction i with
  | zero =>
    intro n x x2 s hi
    obtain ⟨g1, g2, g3⟩ := pf1 r r2 r1 x (by omega) (by omega)
    unfold hgF
    by_cases g : A1 τ β (pfx r x) = 0
    · rw [if_pos g, show n + 0 + 2 = (n + 1) + 1 by omega, step 0 (n + 1) x x2 s (by omega) g, lpX5_hedgedAlong_12.eq_2, day8 r r2 r1, bd1_mk, if_pos (nI_lt (by omega) (by omega))]
      exact Sx.mk (Or.inl ⟨rfl, rfl⟩)
    · rw [if_neg g, show n + 0 + 2 = (n + 1) + 1 by omega, stop (n + 1) x x2 s (by omega) g]
      exact Sx.mk (Or.inr ⟨rfl, pfx r x, g2, g3, by omega, g, rfl, rfl⟩)
  | succ i ih =>
    intro n x x2 s hi
    obtain ⟨g1, g2, g3⟩ := pf1 r r2 r1 x (by omega) (by omega)
    unfold hgF
    by_cases g : A1 τ β (pfx r x) = 0
    · rw [if_pos g, show n + (i + 1) + 2 = (n + i + 2) + 1 by omega, step i (n + i + 2) x x2 s (by omega) g]
      exact ih n (x + 1) _ _ (by omega)
    · rw [if_neg g, show n + (i + 1) + 2 = (n + i + 2) + 1 by omega, stop (n + i + 2) x x2 s (by omega) g]
      exact Sx.mk (Or.inr ⟨rfl, pfx r x, g2, g3, by omega, g, rfl, rfl⟩)
theorem hd37 {bs mv : Nat → Int32} {pe' wo ho : Nat → Int64} {ac : Nat → Int32} {τ β : Nat → Nat} {k : Nat} (hb : RB bs k β) (hK : BK β) (hT : TK τ) (hP : RP pe' (τ 0) (prF τ (τ 1))) (hG : GD (prF τ (τ 1)) (τ 0) (τ 6) (τ 7) (τ 8) β (fun _ _ _ _ => True) wo ho ac) {r : Nat} (r1 : 1 ≤ r) (r2 : r < 128) (rd : dR r ≤ τ 0) (hm : MV mv r) : ∀ (i n x : Nat) (c s : Int64), x + i = dR r → Sx (lpX9_hedged_37 (nI k) bs mv (nI (dR r)) (nI (τ 8)) pe' wo ac (n + i + 1) c s (nI x) (nI (dR (pfx r x))) (nI (uR (pfx r x))) (nI (bR (pfx r x))) (nI (mR (prF τ (τ 1)) β (pfx r x)))) (hq9 τ β (hgF τ β r i x c s)) := by
  have hd6 := (row_b1 r r2 r1).1.1
  have hp := prF_PK hT (show τ 1 ≤ 1000 by omega)
  have ha := hG.a
  intro i
  induction i with
  | zero =>
    intro n x c s hi
    obtain ⟨g1, g2, g3⟩ := pf1 r r2 r1 x (by omega) (by omega)
    have hl := aT_lt (prF τ (τ 1)) β g2 g3
    obtain ⟨a1, a2⟩ := ha _ g2 g3 (by omega)
    unfold hgF
    rw [lpX9_hedged_37.eq_2, hn9, bd1_mk, og32 hl (by omega), nI_clamp (by omega), a1]
    by_cases g : A1 τ β (pfx r x) = 0
    · rw [if_pos g, if_pos (by rw [g]; rfl), if_pos (by rw [show x = dR r by omega])]
      exact Sx.mk (Or.inl ⟨rfl, rfl⟩)
    · rw [if_neg g, if_neg (nI_ne0 (by omega) (by have := a2.1; omega))]
      exact Sx.mk (Or.inr ⟨rfl, pfx r x, g2, g3, by omega, g, rfl, rfl, rfl, rfl, rfl⟩)
  | succ i ih =>
    intro n x c s hi
    obtain ⟨g1, g2, g3⟩ := pf1 r r2 r1 x (by omega) (by omega)
    obtain ⟨n1, n2, n3⟩ := pf1 r r2 r1 (x + 1) (by omega) (by omega)
    obtain ⟨m1, m2⟩ := pf2 r r2 r1 x (by omega) (by omega)
    have hl := aT_lt (prF τ (τ 1)) β g2 g3
    obtain ⟨a1, a2⟩ := ha _ g2 g3 (by omega)
    obtain ⟨⟨b1, b2, _⟩, _⟩ := row_b1 _ g3 g2
    unfold hgF
    rw [lpX9_hedged_37.eq_2, hn9, bd1_mk, og32 hl (by omega), nI_clamp (by omega), a1]
    by_cases g : A1 τ β (pfx r x) = 0
    · have hdT : dR (pfx r x) < τ 0 := A1_T g (by omega)
      rw [if_pos g, if_pos (by rw [g]; rfl), if_neg (fun z => by have := (nI_eq (by omega) (by omega)).mp z; omega), ri9 hT hP g2 g3 hdT, bd1_mk]
      have ehv : (if rW τ (pfx r x) = 0 then some (0 : Int64) else bd1 (fX9_heldOf (nI k) bs pe' wo (nI (dR (pfx r x))) (nI (uR (pfx r x))) (nI (bR (pfx r x))) (nI (mR (prF τ (τ 1)) β (pfx r x)))) (fun r67 => some r67)) = some (if rW τ (pfx r x) = 0 then 0 else rQ τ β (pfx r x)) := by
        by_cases w : rW τ (pfx r x) = 0
        · rw [if_pos w, if_pos w]
        · rw [if_neg w, if_neg w, ho9' hb hK hT hP hG g2 g3 hdT w, bd1_mk]
      have ecl : ∀ j : Int64, (if j ≤ 100000 then if (-100000) ≤ j then some (j) else some ((-100000)) else some (100000)) = some (clp j) := by
        intro j
        unfold clp
        by_cases u : j ≤ 100000
        · rw [if_pos u, if_pos u]
          by_cases v : (-100000) ≤ j
          · rw [if_pos v, if_pos v]
          · rw [if_neg v, if_neg v]
        · rw [if_neg u, if_neg u]
      have e2 : clp (if rW τ (pfx r x) = 0 then 0 else rQ τ β (pfx r x)) = hv τ β (pfx r x) := by
        unfold hv
        by_cases w : rW τ (pfx r x) = 0
        · rw [if_pos w, if_pos w]; rfl
        · rw [if_neg w, if_neg w]
      rw [ehv, bd1_mk, ecl, bd1_mk, e2, i_7, pk_mul, nI_add, og32 (by omega) (by omega), nm_mk, nm_mk, og32 (by omega) (by omega), nI_clamp (n := x) (by omega), hm x (by omega), go9 hb hK hp hP (by omega) g2 m2 (by omega) hdT, bd4_mk, ← m1, n1, cp9 hb (by omega), bd1_mk, nm_mk, nm_mk, nI_1, nI_clamp (by omega), hP _ _ b2 (by omega), show n + (i + 1) = n + i + 1 by omega]
      have := ih n (x + 1) (((c - ((hv τ β (pfx r x) - s) * lN ((prF τ (τ 1)) (dR (pfx r x)) (uR (pfx r x)))) / 1000) * Int32.toInt64 (1000 + nI (τ 8))) / 1000 - Int32.toInt64 (nI (cpF β (x + 1)))) (hv τ β (pfx r x)) (by omega)
      rw [n1] at this
      exact this
    · rw [if_neg g, if_neg (nI_ne0 (by omega) (by have := a2.1; omega))]
      exact Sx.mk (Or.inr ⟨rfl, pfx r x, g2, g3, by omega, g, rfl, rfl, rfl, rfl, rfl⟩)
theorem q_hedged {tr b0 b1 b2 tree bs : Nat → Int32} {τ : Nat → Nat} {B : Nat → Nat → Nat} (hf : TC tr τ) (hf9 : TR tree 0 τ) (hT : TK τ) (hB : CB3 b0 b1 b2 B) (hb9 : ∀ k, k < 3 → RB bs k (B k)) {row moved : Int32} {mv : Nat → Int32} (hQ : PQ τ row mv moved) (p1 : Int32) (st sb : Nat → Int32) (pu pe tu ca ho va : Nat → Int64) (ma ac : Nat → Int32) (x0 x1 x2 x3 : Int32) (pe9 : Nat → Int64) (a9 b9 : Int64) (wo9 ho9 : Nat → Int64) (ac9 : Nat → Int32) (s1 s2 s3 s4 : Int32) : Sx2 (fX8_hedged p1 row tr b0 b1 b2 st sb pu pe tu ca ho va ma ac) (fX9_hedged p1 tree bs mv moved x0 x1 x2 x3 pe9 a9 b9 wo9 ho9 ac9 s1 s2 s3 s4) (fun _ _ => True) := by
  by_cases h1 : inr p1 0 2
  rotate_left
  · exact Sx2.mk (by unfold fX8_hedged; rw [isb8n h1, bd1_mk, if_pos rfl]) (by unfold fX9_hedged; rw [isb9n h1, bd1_mk, if_pos rfl]) (trivial)
  obtain ⟨k, rfl, _, hk, _⟩ := inr_n h1 (by decide)
  have hk3 : k < 3 := by omega
  have hp := prF_PK hT (show τ 1 ≤ 1000 by omega)
  obtain ⟨r, r1, r2, rd, rfl, rfl, hm⟩ := hQ
  have r3 := row_T hT r1 r2 rd
  have hl := aT_lt (prF τ (τ 1)) (B k) r1 r2
  have hd6 := (row_b1 r r2 r1).1.1
  obtain ⟨n, hn⟩ := fuN (dR r + 2) (by omega)
  have hb := hb9 k hk3
  have hK := (hB k hk3).2
  refine Sx2.val (v := hgF τ (B k) r (dR r) 0 (lN (V1 τ (B k))) 0) ?_ ?_
  · unfold fX8_hedged
    rw [isb8y h1, bd1_mk, if_neg one0]
    refine Sx.b10 (wo8 hk3 hf hT hB st sb pu pe tu ca ho va ma ac) ?_
    rintro c0 c1 c2 c3 c4 c5 c6 c7 c8 c9 ⟨hc, hcb, hsb⟩
    dsimp only at hc hcb hsb ⊢
    unfold fX5_hedgedAlong
    rw [root8 hsb, bd1_mk, hn, i_0, show n + (dR r + 2) = n + dR r + 2 by omega]
    have h := ha12 hc hcb hK hT hsb r1 r2 rd (dR r) n 0 (lN (V1 τ (B k))) 0 (by omega)
    rw [show lN (V1 τ (B k)) - Int32.toInt64 (nI (cpF (B k) 0)) = lN (V1 τ (B k)) by rw [show cpF (B k) 0 = 0 from if_neg (by omega)]; exact Int64.sub_zero _] at h
    refine Sx.b1 (P := fun z => z = hgF τ (B k) r (dR r) 0 (lN (V1 τ (B k))) 0) (Sx.b4 h ?_) (fun z hz => Sx.mk hz)
    rintro z0 z1 z2 z3 (⟨rfl, hH⟩ | ⟨rfl, e, e1, e2, ed, eA, rfl, hH⟩)
    · rw [if_neg (by decide)]
      exact Sx.mk hH.symm
    · obtain ⟨a1, a2, a3⟩ := hsb.a hT e e1 e2 ed
      have er := row_T hT e1 e2 ed
      dsimp only at hH
      rw [if_pos rfl, peA8 e1 e2, bd1_mk, pba8 hcb hK e1 e2 a1 a3 a2, bd1_mk, (hsb.1 e e1 er).1]
      exact Sx.mk hH.symm
  · unfold fX9_hedged
    rw [isb9y h1, bd1_mk, if_neg one0]
    refine Sx.b10 (pn9 hf9 hT hk3 (hb9 k hk3) (hB k hk3).2 x0 x1 x2 x3 pe9 a9 b9 wo9 ho9 ac9) ?_
    rintro d0 d1 d2 d3 pe' d5 d6 d7 d8 d9 ⟨rfl, rfl, rfl, rfl, hP, hG⟩
    dsimp only at hP hG ⊢
    have l1 := aT_lt (prF τ (τ 1)) (B k) (r := 1) (by omega) (by omega)
    have v1 := (GD.r hG (r := 1) (by omega) (by omega) (Nat.zero_le _)).1
    rw [sta9 hb hK hp hP (by omega), bd4_mk, hn9, bd1_mk, og32 l1 (by omega), nm_mk, nI_clamp (by omega), v1, vR_1, hn, i_0, show n + (dR r + 2) = (n + 1) + dR r + 1 by omega]
    have h := hd37 hb hK hT hP hG r1 r2 rd hm (dR r) (n + 1) 0 (lN (V1 τ (B k))) 0 (by omega)
    rw [pf0 r r2 r1] at h
    refine Sx.b7 h ?_
    rintro z0 z1 z2 z3 z4 z5 z6 (⟨rfl, hH⟩ | ⟨rfl, e, e1, e2, ed, eA, rfl, rfl, rfl, rfl, hH⟩)
    · rw [if_pos rfl]
      exact Sx.mk ⟨hH.symm, trivial⟩
    · obtain ⟨a1, a2⟩ := hG.a e e1 e2 ed
      have hl2 := aT_lt (prF τ (τ 1)) (B k) e1 e2
      obtain ⟨⟨b1, b2, _⟩, _⟩ := row_b1 e e2 e1
      dsimp only at hH
      rw [if_neg (by decide), i_7, pk_mul, nI_add, og32 (by omega) (by omega), hn9, bd1_mk, og32 hl2 (by omega), nI_clamp (by omega), a1, py9 hb hK hp hP (by omega) e1 e2 ed a2 eA, bd1_mk, nI_clamp (by omega), hP _ _ b2 ed]
      exact Sx.mk ⟨hH.symm, trivial⟩
