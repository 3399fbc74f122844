section
/-! pure: calls on the tree and the small ones, both sides (own rows) -/
abbrev FrT (f g : Nat → Int32) : Prop := ∀ y, 9 ≤ y → g y = f y
theorem FrT.up {f : Nat → Int32} {a : Nat} (ha : a < 9) (v : Int32) : FrT f (upd f a v) := by
  intro y hy
  rw [upS, if_neg (by omega)]
theorem FrT.tr {a b c : Nat → Int32} (h : FrT a b) (g : FrT b c) : FrT a c := fun y hy => (g y hy).trans (h y hy)
theorem TR.up {f : Nat → Int32} {τ : Nat → Nat} (h : TR f 0 τ) (a x : Nat) : TR (upd f a (nI x)) 0 (bup τ a x) := by
  intro i hi
  have g := h i hi
  rw [Nat.zero_add] at g ⊢
  rw [upS]
  unfold bup
  by_cases e : i = a
  · rw [if_pos e, if_pos e]
  · rw [if_neg e, if_neg e]; exact g
/-- what is left of the tree -/
abbrev TQ8 (τ : Nat → Nat) (tree : Nat → Int32) (s t : Nat → Int32) : Prop := ∃ τ' : Nat → Nat, TC s τ' ∧ TR t 0 τ' ∧ TK τ' ∧ τ' 0 = τ 0 ∧ FrT tree t
abbrev TCT (tr tree : Nat → Int32) (τ : Nat → Nat) : Prop := TC tr τ ∧ TR tree 0 τ ∧ TK τ
theorem TQ8.self {tr tree : Nat → Int32} {τ : Nat → Nat} (h : TCT tr tree τ) : TQ8 τ tree tr tree := ⟨τ, h.1, h.2.1, h.2.2, rfl, fun _ _ => rfl⟩
theorem PQ.one {τ : Nat → Nat} {mv : Nat → Int32} : PQ τ 1 mv 0 := ⟨1, Nat.le_refl 1, by omega, Nat.zero_le _, rfl, rfl, fun i hi => absurd hi (Nat.not_lt_zero i)⟩
theorem q_tree {tr tree : Nat → Int32} {τ : Nat → Nat} (h : TCT tr tree τ) {row moved : Int32} {mv : Nat → Int32} (hP : PQ τ row mv moved) (p1 p2 : Int32) : Sx2 (fX8_tree p1 p2 row tr) (fX9_tree p1 p2 tree moved) (fun s t => ∃ τ' : Nat → Nat, TC s.2 τ' ∧ TR t.1 0 τ' ∧ TK τ' ∧ PQ τ' s.1 mv t.2 ∧ FrT tree t.1) := by
  by_cases h1 : inr p1 1 6
  rotate_left
  · exact Sx2.mk (by unfold fX8_tree; rw [wi0 h1, bd1_mk, if_pos rfl]) (by unfold fX9_tree; rw [in0 h1, bd1_mk, if_pos rfl]) (⟨τ, h.1, h.2.1, h.2.2, hP, fun _ _ => rfl⟩)
  by_cases h2 : inr p2 1 1000
  rotate_left
  · exact Sx2.mk (by unfold fX8_tree; rw [wi1 h1, bd1_mk, if_neg one0, isS8n h2, bd1_mk, if_pos rfl]) (by unfold fX9_tree; rw [in1 h1, bd1_mk, if_neg one0, in0 h2, bd1_mk, if_pos rfl]) (⟨τ, h.1, h.2.1, h.2.2, hP, fun _ _ => rfl⟩)
  obtain ⟨n, rfl, na, nb, nc⟩ := inr_n h1 (by decide)
  obtain ⟨m, rfl, ma, mb, mc⟩ := inr_n h2 (by decide)
  obtain ⟨⟨t1, t2⟩, ⟨t3, t4⟩, ⟨⟨t5, t6⟩, ⟨t7, t8⟩, ⟨t9, t10⟩, t11, t12⟩, ⟨t13, t14, t15⟩, t16⟩ := h.2.2
  exact Sx2.mk (r := 1) (s1 := (1, upd (upd tr 0 (nI n)) 1 (nI m))) (s2 := (upd (upd tree 0 (nI n)) 1 (nI m), 0)) (by
    unfold fX8_tree
    rw [wi1 h1, bd1_mk, if_neg one0, isS8y h2, bd1_mk, if_neg one0, show fX7_set 0 (nI n) (tr) = _ from st7 (a := 0) (by omega) _ _, bd1_mk, show fX7_set 1 (nI m) (upd tr 0 (nI n)) = _ from st7 (a := 1) (by omega) _ _, bd1_mk]) (by
    unfold fX9_tree
    rw [in1 h1, bd1_mk, if_neg one0, in1 h2, bd1_mk, if_neg one0, nm_mk, nm_mk]
    rfl) ⟨bup (bup τ 0 n) 1 m, (h.1.up 0 n).up 1 m, (TR.up h.2.1 0 n).up 1 m, by show (1 ≤ n ∧ n ≤ 6) ∧ (1 ≤ m ∧ m ≤ 1000) ∧ ((1 ≤ τ 2 ∧ τ 2 ≤ 20) ∧ (1 ≤ τ 3 ∧ τ 3 ≤ 20) ∧ (1 ≤ τ 4 ∧ τ 4 ≤ 20) ∧ (1 ≤ τ 5 ∧ τ 5 ≤ 20)) ∧ (1 ≤ τ 6 ∧ τ 6 < τ 7 ∧ τ 7 ≤ 20) ∧ τ 8 ≤ 200; omega, PQ.one, (FrT.up (by omega) _).tr (FrT.up (by omega) _)⟩
theorem q_move {tr tree : Nat → Int32} {τ : Nat → Nat} (h : TCT tr tree τ) (p1 p2 p3 : Int32) : Sx2 (fX8_move p1 p2 p3 tr) (fX9_move p1 p2 p3 tree) (fun s t => TQ8 τ tree s t) := by
  by_cases h1 : inr p2 1 20
  rotate_left
  · exact Sx2.mk (by unfold fX8_move; rw [wi0 h1, bd1_mk, if_pos rfl]) (by unfold fX9_move; rw [in0 h1, bd1_mk, if_pos rfl]) (TQ8.self h)
  by_cases h2 : inr p3 1 20
  rotate_left
  · exact Sx2.mk (by unfold fX8_move; rw [wi1 h1, bd1_mk, if_neg one0, wi0 h2, bd1_mk, if_pos rfl]) (by unfold fX9_move; rw [in1 h1, bd1_mk, if_neg one0, in0 h2, bd1_mk, if_pos rfl]) (TQ8.self h)
  obtain ⟨n, rfl, na, nb, nc⟩ := inr_n h1 (by decide)
  obtain ⟨m, rfl, ma, mb, mc⟩ := inr_n h2 (by decide)
  obtain ⟨⟨t1, t2⟩, ⟨t3, t4⟩, ⟨⟨t5, t6⟩, ⟨t7, t8⟩, ⟨t9, t10⟩, t11, t12⟩, ⟨t13, t14, t15⟩, t16⟩ := h.2.2
  by_cases g : p1 = 0
  · exact Sx2.mk (r := 1) (s1 := upd (upd tr 4 (nI n)) 5 (nI m)) (s2 := upd (upd tree 4 (nI n)) 5 (nI m)) (by
      unfold fX8_move
      rw [wi1 h1, bd1_mk, if_neg one0, wi1 h2, bd1_mk, if_neg one0, if_pos g, bd1_mk, show fX7_set 4 (nI n) (tr) = _ from st7 (a := 4) (by omega) _ _, bd1_mk, if_pos g, bd1_mk, show fX7_set 5 (nI m) (upd tr 4 (nI n)) = _ from st7 (a := 5) (by omega) _ _, bd1_mk]) (by
      unfold fX9_move
      rw [in1 h1, bd1_mk, if_neg one0, in1 h2, bd1_mk, if_neg one0, if_pos g, bd1_mk, og_mk _ (by decide), nm_mk, og_mk _ (by decide), nm_mk]
      rfl) ⟨bup (bup τ 4 n) 5 m, (h.1.up 4 n).up 5 m, (TR.up h.2.1 4 n).up 5 m, by show (1 ≤ τ 0 ∧ τ 0 ≤ 6) ∧ (1 ≤ τ 1 ∧ τ 1 ≤ 1000) ∧ ((1 ≤ τ 2 ∧ τ 2 ≤ 20) ∧ (1 ≤ τ 3 ∧ τ 3 ≤ 20) ∧ (1 ≤ n ∧ n ≤ 20) ∧ (1 ≤ m ∧ m ≤ 20)) ∧ (1 ≤ τ 6 ∧ τ 6 < τ 7 ∧ τ 7 ≤ 20) ∧ τ 8 ≤ 200; omega, rfl, (FrT.up (by omega) _).tr (FrT.up (by omega) _)⟩
  · exact Sx2.mk (r := 1) (s1 := upd (upd tr 2 (nI n)) 3 (nI m)) (s2 := upd (upd tree 2 (nI n)) 3 (nI m)) (by
      unfold fX8_move
      rw [wi1 h1, bd1_mk, if_neg one0, wi1 h2, bd1_mk, if_neg one0, if_neg g, bd1_mk, show fX7_set 2 (nI n) (tr) = _ from st7 (a := 2) (by omega) _ _, bd1_mk, if_neg g, bd1_mk, show fX7_set 3 (nI m) (upd tr 2 (nI n)) = _ from st7 (a := 3) (by omega) _ _, bd1_mk]) (by
      unfold fX9_move
      rw [in1 h1, bd1_mk, if_neg one0, in1 h2, bd1_mk, if_neg one0, if_neg g, bd1_mk, og_mk _ (by decide), nm_mk, og_mk _ (by decide), nm_mk]
      rfl) ⟨bup (bup τ 2 n) 3 m, (h.1.up 2 n).up 3 m, (TR.up h.2.1 2 n).up 3 m, by show (1 ≤ τ 0 ∧ τ 0 ≤ 6) ∧ (1 ≤ τ 1 ∧ τ 1 ≤ 1000) ∧ ((1 ≤ n ∧ n ≤ 20) ∧ (1 ≤ m ∧ m ≤ 20) ∧ (1 ≤ τ 4 ∧ τ 4 ≤ 20) ∧ (1 ≤ τ 5 ∧ τ 5 ≤ 20)) ∧ (1 ≤ τ 6 ∧ τ 6 < τ 7 ∧ τ 7 ≤ 20) ∧ τ 8 ≤ 200; omega, rfl, (FrT.up (by omega) _).tr (FrT.up (by omega) _)⟩
theorem q_chance {tr tree : Nat → Int32} {τ : Nat → Nat} (h : TCT tr tree τ) (p1 p2 : Int32) : Sx2 (fX8_chance p1 p2 tr) (fX9_chance p1 p2 tree) (fun s t => TQ8 τ tree s t) := by
  by_cases h1 : chP p1 p2
  rotate_left
  · exact Sx2.mk (by unfold fX8_chance; rw [isC8n h1, bd1_mk, if_pos rfl]) (by unfold fX9_chance; rw [isC9n h1, bd1_mk, if_pos rfl]) (TQ8.self h)
  have h1' := h1
  obtain ⟨n, m, rfl, rfl, n1, n2, n3⟩ := chN h1
  obtain ⟨⟨t1, t2⟩, ⟨t3, t4⟩, ⟨⟨t5, t6⟩, ⟨t7, t8⟩, ⟨t9, t10⟩, t11, t12⟩, ⟨t13, t14, t15⟩, t16⟩ := h.2.2
  exact Sx2.mk (r := 1) (s1 := upd (upd tr 6 (nI n)) 7 (nI m)) (s2 := upd (upd tree 6 (nI n)) 7 (nI m)) (by
    unfold fX8_chance
    rw [isC8y h1', bd1_mk, if_neg one0, show fX7_set 6 (nI n) (tr) = _ from st7 (a := 6) (by omega) _ _, bd1_mk, show fX7_set 7 (nI m) (upd tr 6 (nI n)) = _ from st7 (a := 7) (by omega) _ _, bd1_mk]) (by
    unfold fX9_chance
    rw [isC9y h1', bd1_mk, if_neg one0, nm_mk, nm_mk]
    rfl) ⟨bup (bup τ 6 n) 7 m, (h.1.up 6 n).up 7 m, (TR.up h.2.1 6 n).up 7 m, by show (1 ≤ τ 0 ∧ τ 0 ≤ 6) ∧ (1 ≤ τ 1 ∧ τ 1 ≤ 1000) ∧ ((1 ≤ τ 2 ∧ τ 2 ≤ 20) ∧ (1 ≤ τ 3 ∧ τ 3 ≤ 20) ∧ (1 ≤ τ 4 ∧ τ 4 ≤ 20) ∧ (1 ≤ τ 5 ∧ τ 5 ≤ 20)) ∧ (1 ≤ n ∧ n < m ∧ m ≤ 20) ∧ τ 8 ≤ 200; omega, rfl, (FrT.up (by omega) _).tr (FrT.up (by omega) _)⟩
theorem q_rate {tr tree : Nat → Int32} {τ : Nat → Nat} (h : TCT tr tree τ) (p1 : Int32) : Sx2 (fX8_rate p1 tr) (fX9_rate p1 tree) (fun s t => TQ8 τ tree s t) := by
  by_cases h1 : inr p1 0 200
  rotate_left
  · exact Sx2.mk (by unfold fX8_rate; rw [wi0 h1, bd1_mk, if_pos rfl]) (by unfold fX9_rate; rw [in0 h1, bd1_mk, if_pos rfl]) (TQ8.self h)
  obtain ⟨n, rfl, na, nb, nc⟩ := inr_n h1 (by decide)
  obtain ⟨⟨t1, t2⟩, ⟨t3, t4⟩, ⟨⟨t5, t6⟩, ⟨t7, t8⟩, ⟨t9, t10⟩, t11, t12⟩, ⟨t13, t14, t15⟩, t16⟩ := h.2.2
  exact Sx2.mk (r := nI (τ 8)) (s1 := upd tr 8 (nI n)) (s2 := upd tree 8 (nI n)) (by
    unfold fX8_rate
    rw [wi1 h1, bd1_mk, if_neg one0, show fX7_get 8 tr = _ from gt7 h.1 (a := 8) (by omega), bd1_mk, show fX7_set 8 (nI n) (tr) = _ from st7 (a := 8) (by omega) _ _, bd1_mk]) (by
    unfold fX9_rate
    rw [in1 h1, bd1_mk, if_neg one0, nm_mk, nm_mk, show tree (Int32.toNatClampNeg 8) = _ from tr0 h.2.1 (i := 8) (by omega)]
    rfl) ⟨bup τ 8 n, h.1.up 8 n, TR.up h.2.1 8 n, by show (1 ≤ τ 0 ∧ τ 0 ≤ 6) ∧ (1 ≤ τ 1 ∧ τ 1 ≤ 1000) ∧ ((1 ≤ τ 2 ∧ τ 2 ≤ 20) ∧ (1 ≤ τ 3 ∧ τ 3 ≤ 20) ∧ (1 ≤ τ 4 ∧ τ 4 ≤ 20) ∧ (1 ≤ τ 5 ∧ τ 5 ≤ 20)) ∧ (1 ≤ τ 6 ∧ τ 6 < τ 7 ∧ τ 7 ≤ 20) ∧ n ≤ 200; omega, rfl, FrT.up (by omega) _⟩
theorem iff_b {n : Nat} (hn : n < 64) (A B : Nat) (h : A ≤ n ∧ n ≤ B) : inr (nI n) A B := (inr_nI (by omega)).mpr ⟨by omega, by omega⟩
theorem iff_f {n : Nat} (hn : n < 64) (A B : Nat) (h : ¬ (A ≤ n ∧ n ≤ B)) : ¬ inr (nI n) A B := fun q => h (by have := (inr_nI (by omega)).mp q; omega)
def hT9 (n : Nat) : Bool := n ≤ 7 || (11 ≤ n && n ≤ 16) || (20 ≤ n && n ≤ 25) || (30 ≤ n && n ≤ 35)
theorem hT_1 : ∀ n, n < 36 → hT9 n = true → fX0_hasTerm (nI n) = some 1 ∧ ∃ i, i < 27 ∧ i ≠ 2 ∧ cI i = n := by decide +kernel
theorem hT_0 : ∀ n, n < 36 → hT9 n = false → fX0_hasTerm (nI n) = some 0 := by decide +kernel
theorem hT_x {x : Int32} (h : ¬ inr x 0 35) : fX0_hasTerm x = some 0 := by
  unfold fX0_hasTerm
  rw [wi0 (fun q : inr x 0 7 => h ⟨q.1, by have := q.2; omega⟩), bd1_mk, if_pos rfl, wi0 (fun q : inr x 11 16 => h ⟨by have := q.1; omega, by have := q.2; omega⟩), bd1_mk, if_pos rfl, wi0 (fun q : inr x 20 25 => h ⟨by have := q.1; omega, by have := q.2; omega⟩), bd1_mk, if_pos rfl, wi0 (fun q : inr x 30 35 => h ⟨by have := q.1; omega, q.2⟩), bd1_mk, if_pos rfl, bd1_mk]
  rfl
theorem to9x {k : Nat} (hk : k < 3) {x : Int32} (bs : Nat → Int32) (h : ¬ inr x 0 35) : fX9_told (nI k) x bs = some (-1) := by
  unfold fX9_told
  rw [isb9' hk, bd1_mk, if_neg one0, in0 (fun q : inr x 0 1 => h ⟨by have := q.1; omega, by have := q.2; omega⟩), bd1_mk, if_pos rfl, in0 (fun q : inr x 2 3 => h ⟨by have := q.1; omega, by have := q.2; omega⟩), bd1_mk, if_pos rfl, in0 (fun q : inr x 4 7 => h ⟨by have := q.1; omega, by have := q.2; omega⟩), bd1_mk, if_pos rfl, in0 (fun q : inr x 11 16 => h ⟨by have := q.1; omega, by have := q.2; omega⟩), bd1_mk, if_pos rfl, in0 (fun q : inr x 20 25 => h ⟨by have := q.1; omega, by have := q.2; omega⟩), bd1_mk, if_pos rfl, in0 (fun q : inr x 30 35 => h ⟨by have := q.1; omega, by have := q.2; omega⟩), bd1_mk, if_pos rfl, bd1_mk]
theorem to9f {k : Nat} (hk : k < 3) {n : Nat} (hn : n < 36) (bs : Nat → Int32) (h : hT9 n = false) : fX9_told (nI k) (nI n) bs = some (-1) := by
  have hh : ¬ n ≤ 7 ∧ ¬ (11 ≤ n ∧ n ≤ 16) ∧ ¬ (20 ≤ n ∧ n ≤ 25) ∧ ¬ (30 ≤ n ∧ n ≤ 35) := by
    revert h; revert n; decide +kernel
  unfold fX9_told
  rw [isb9' hk, bd1_mk, if_neg one0, in0 (iff_f (n := n) (by omega) 0 1 (by omega)), bd1_mk, if_pos rfl, in0 (iff_f (n := n) (by omega) 2 3 (by omega)), bd1_mk, if_pos rfl, in0 (iff_f (n := n) (by omega) 4 7 (by omega)), bd1_mk, if_pos rfl, in0 (iff_f (n := n) (by omega) 11 16 (by omega)), bd1_mk, if_pos rfl, in0 (iff_f (n := n) (by omega) 20 25 (by omega)), bd1_mk, if_pos rfl, in0 (iff_f (n := n) (by omega) 30 35 (by omega)), bd1_mk, if_pos rfl, bd1_mk]
theorem nI_n2 (A n S i : Nat) (h : A + n = i + S) (hn : n < 64) {a s : Int32} (ha : a = nI A := by rfl) (hs : s = nI S := by rfl) : (a + nI n) - s = nI i := by
  subst ha hs
  rw [nI_add, h, pk_sub (by omega), Nat.add_sub_cancel]
theorem cI_r (i : Nat) (hi : i < 27) : (i < 2 → cI i = i) ∧ (2 ≤ i → i < 9 → cI i = 8 + i) ∧ (9 ≤ i → i < 15 → cI i = 11 + i) ∧ (15 ≤ i → i < 21 → cI i = 15 + i) ∧ (21 ≤ i → cI i = i - 19) := by
  revert hi; revert i; decide +kernel
theorem to9y {bs : Nat → Int32} {k : Nat} {β : Nat → Nat} (hb : RB bs k β) (hk : k < 3) (hK : BK β) {i : Nat} (hi : i < 27) (h2 : i ≠ 2) : fX9_told (nI k) (nI (cI i)) bs = some (eI β i) := by
  have hc : ∀ t, 9 ≤ t → t < 21 → β t < 2 ^ 31 := by
    intro t a b
    by_cases q : t < 15
    · have := hK.2.2.2.1 (t - 9) (by omega); rw [show 9 + (t - 9) = t by omega] at this; omega
    · have := hK.2.2.2.2.1 (t - 15) (by omega); rw [show 15 + (t - 15) = t by omega] at this; omega
  unfold fX9_told
  rcases (show i ≤ 1 ∨ (21 ≤ i ∧ i ≤ 22) ∨ (23 ≤ i ∧ i ≤ 26) ∨ (3 ≤ i ∧ i ≤ 8) ∨ (9 ≤ i ∧ i ≤ 14) ∨ (15 ≤ i ∧ i ≤ 20) by omega) with g | g | g | g | g | g
  · have ec : cI i = i := by have := cI_r i hi; omega
    rw [ec, isb9' hk, bd1_mk, if_neg one0, in1 (iff_b (n := i) (by omega) 0 1 (by omega)), bd1_mk, if_neg one0, of9 hb (by omega), bd1_mk, rI_n (by omega), eI_n (by omega)]
  · have ec : cI i = i - 19 := by have := cI_r i hi; omega
    rw [ec, isb9' hk, bd1_mk, if_neg one0, in0 (iff_f (n := i - 19) (by omega) 0 1 (by omega)), bd1_mk, if_pos rfl, in1 (iff_b (n := i - 19) (by omega) 2 3 (by omega)), bd1_mk, if_neg one0, nI_n2 21 (i - 19) 2 i (by omega) (by omega), of9 hb (by omega), bd1_mk, rI_n (by omega), eI_n (by omega)]
  · have ec : cI i = i - 19 := by have := cI_r i hi; omega
    rw [ec, isb9' hk, bd1_mk, if_neg one0, in0 (iff_f (n := i - 19) (by omega) 0 1 (by omega)), bd1_mk, if_pos rfl, in0 (iff_f (n := i - 19) (by omega) 2 3 (by omega)), bd1_mk, if_pos rfl, in1 (iff_b (n := i - 19) (by omega) 4 7 (by omega)), bd1_mk, if_neg one0, nI_n2 23 (i - 19) 4 i (by omega) (by omega), of9 hb (by omega), bd1_mk, rI_n (by omega), eI_n (by omega)]
  · have ec : cI i = 8 + i := by have := cI_r i hi; omega
    rw [ec, isb9' hk, bd1_mk, if_neg one0, in0 (iff_f (n := 8 + i) (by omega) 0 1 (by omega)), bd1_mk, if_pos rfl, in0 (iff_f (n := 8 + i) (by omega) 2 3 (by omega)), bd1_mk, if_pos rfl, in0 (iff_f (n := 8 + i) (by omega) 4 7 (by omega)), bd1_mk, if_pos rfl, in1 (iff_b (n := 8 + i) (by omega) 11 16 (by omega)), bd1_mk, if_neg one0, nI_n2 2 (8 + i) 10 i (by omega) (by omega), of9 hb (by omega), bd1_mk, rI_n (by omega), eI_n (by omega)]
  · have ec : cI i = 11 + i := by have := cI_r i hi; omega
    rw [ec, isb9' hk, bd1_mk, if_neg one0, in0 (iff_f (n := 11 + i) (by omega) 0 1 (by omega)), bd1_mk, if_pos rfl, in0 (iff_f (n := 11 + i) (by omega) 2 3 (by omega)), bd1_mk, if_pos rfl, in0 (iff_f (n := 11 + i) (by omega) 4 7 (by omega)), bd1_mk, if_pos rfl, in0 (iff_f (n := 11 + i) (by omega) 11 16 (by omega)), bd1_mk, if_pos rfl, in1 (iff_b (n := 11 + i) (by omega) 20 25 (by omega)), bd1_mk, if_neg one0, nI_n2 9 (11 + i) 20 i (by omega) (by omega), of9 hb (by omega), bd1_mk, rI_m (by omega), eI_c (by omega), td9 (hc i (by omega) (by omega)), bd1_mk]
  · have ec : cI i = 15 + i := by have := cI_r i hi; omega
    rw [ec, isb9' hk, bd1_mk, if_neg one0, in0 (iff_f (n := 15 + i) (by omega) 0 1 (by omega)), bd1_mk, if_pos rfl, in0 (iff_f (n := 15 + i) (by omega) 2 3 (by omega)), bd1_mk, if_pos rfl, in0 (iff_f (n := 15 + i) (by omega) 4 7 (by omega)), bd1_mk, if_pos rfl, in0 (iff_f (n := 15 + i) (by omega) 11 16 (by omega)), bd1_mk, if_pos rfl, in0 (iff_f (n := 15 + i) (by omega) 20 25 (by omega)), bd1_mk, if_pos rfl, in1 (iff_b (n := 15 + i) (by omega) 30 35 (by omega)), bd1_mk, if_neg one0, nI_n2 15 (15 + i) 30 i (by omega) (by omega), of9 hb (by omega), bd1_mk, rI_m (by omega), eI_c (by omega), td9 (hc i (by omega) (by omega)), bd1_mk, bd1_mk]
theorem q_told {b0 b1 b2 bs : Nat → Int32} {B : Nat → Nat → Nat} (h : BCT b0 b1 b2 bs B) (p1 p2 : Int32) : ∃ r, fX8_told p1 p2 b0 b1 b2 = some r ∧ fX9_told p1 p2 bs = some r := by
  by_cases h1 : inr p1 0 2
  rotate_left
  · exact ⟨-1, by unfold fX8_told; rw [isb8n h1, bd1_mk, if_pos rfl], by unfold fX9_told; rw [isb9n h1, bd1_mk, if_pos rfl]⟩
  have h1' := h1
  obtain ⟨k, rfl, ka, kb, kc⟩ := inr_n h1 (by decide)
  have hk : k < 3 := by omega
  by_cases h2 : inr p2 0 35
  rotate_left
  · exact ⟨-1, by unfold fX8_told; rw [isb8y h1', bd1_mk, if_neg one0, hT_x h2, bd1_mk, if_pos rfl], to9x hk bs h2⟩
  obtain ⟨n, rfl, na, nb, nc⟩ := inr_n h2 (by decide)
  have hn : n < 36 := by omega
  cases g : hT9 n with
  | false => exact ⟨-1, by unfold fX8_told; rw [isb8y h1', bd1_mk, if_neg one0, hT_0 n hn g, bd1_mk, if_pos rfl], to9f hk hn bs g⟩
  | true =>
    obtain ⟨g1, i, hi, h2i, rfl⟩ := hT_1 n hn g
    exact ⟨eI (B k) i, by unfold fX8_told; rw [isb8y h1', bd1_mk, if_neg one0, g1, bd1_mk, if_neg one0, og32 hk (by omega), gs8 hk hn, bd1_mk, (h.1 k hk).1.u i hi h2i], to9y (h.2 k hk) hk (h.1 k hk).2 hi h2i⟩
theorem q_copy {b0 b1 b2 bs : Nat → Int32} {B : Nat → Nat → Nat} (h : BCT b0 b1 b2 bs B) (p1 p2 : Int32) : Sx2 (fX8_copy p1 p2 b0 b1 b2) (fX9_copy p1 p2 bs) (fun s t => BQ bs s.1 s.2.1 s.2.2 t) := by
  by_cases h1 : inr p1 0 2
  rotate_left
  · exact Sx2.mk (by unfold fX8_copy; rw [isb8n h1, bd1_mk, if_pos rfl]) (by unfold fX9_copy; rw [isb9n h1, bd1_mk, if_pos rfl]) (BQ.self h)
  by_cases h2 : inr p2 0 2
  rotate_left
  · exact Sx2.mk (by unfold fX8_copy; rw [isb8y h1, bd1_mk, if_neg one0, isb8n h2, bd1_mk, if_pos rfl]) (by unfold fX9_copy; rw [isb9y h1, bd1_mk, if_neg one0, isb9n h2, bd1_mk, if_pos rfl]) (BQ.self h)
  by_cases h3 : p1 = p2
  · exact Sx2.mk (by unfold fX8_copy; rw [isb8y h1, bd1_mk, if_neg one0, isb8y h2, bd1_mk, if_neg one0, if_pos h3]) (by unfold fX9_copy; rw [isb9y h1, bd1_mk, if_neg one0, isb9y h2, bd1_mk, if_neg one0, if_pos h3]) (BQ.self h)
  have h1' := h1
  have h2' := h2
  obtain ⟨k, rfl, ka, kb, kc⟩ := inr_n h1 (by decide)
  obtain ⟨l, rfl, la, lb, lc⟩ := inr_n h2 (by decide)
  have hk : k < 3 := by omega
  have hl : l < 3 := by omega
  have hkl : k ≠ l := fun q => h3 (by rw [q])
  obtain ⟨t, e9, r9, f9⟩ := cy9 (k := k) (l := l) (by omega) (by omega) hkl (h.2 k hk)
  have w : ∀ j, j < 3 → RB t j ((fun i => if i = l then B k else B i) j) := by
    intro j hj
    show RB t j (if j = l then B k else B j)
    by_cases e : j = l
    · rw [if_pos e, e]; exact r9
    · rw [if_neg e]; exact (h.2 j hj).fr e f9
  have fr : FrH bs t := fun y hy => f9 y (by omega)
  have hc : ∀ f g : Nat → Int32, CB f (B k) → fX0_takeFrom g f = some (va_cpy f g 0 0 36) := fun f g _ => by unfold fX0_takeFrom; rw [nm_mk]; rfl
  have e9' : fX9_copy (nI k) (nI l) bs = some (1, t) := by unfold fX9_copy; rw [isb9y h1', bd1_mk, if_neg one0, isb9y h2', bd1_mk, if_neg one0, if_neg h3, e9, bd1_mk]
  have c8 : ∀ x0 x1 x2 : Nat → Int32, (∀ i, i < 3 → CB (bsel i x0 x1 x2) (if i = l then B k else B i)) → BQ bs x0 x1 x2 t := fun x0 x1 x2 hx => ⟨fun i => if i = l then B k else B i, fun i hi => ⟨hx i hi, by
    show BK (if i = l then B k else B i)
    by_cases e : i = l
    · rw [if_pos e]; exact (h.1 k hk).2
    · rw [if_neg e]; exact (h.1 i hi).2⟩, w, fr⟩
  have v0 := (h.1 0 (by omega)).1
  have v1 := (h.1 1 (by omega)).1
  have v2 := (h.1 2 (by omega)).1
  rcases (show (k = 1 ∧ l = 0) ∨ (k = 2 ∧ l = 0) ∨ (k = 0 ∧ l = 1) ∨ (k = 2 ∧ l = 1) ∨ (k = 0 ∧ l = 2) ∨ (k = 1 ∧ l = 2) by omega) with ⟨rfl, rfl⟩ | ⟨rfl, rfl⟩ | ⟨rfl, rfl⟩ | ⟨rfl, rfl⟩ | ⟨rfl, rfl⟩ | ⟨rfl, rfl⟩
  · refine Sx2.mk (r := 1) (s1 := (va_cpy b1 b0 0 0 36, b1, b2)) (by
      unfold fX8_copy
      rw [isb8y h1', bd1_mk, if_neg one0, isb8y h2', bd1_mk, if_neg one0, if_neg h3]
      rfl) e9' (c8 _ _ _ (fun i hi => ?_))
    rcases (show i = 0 ∨ i = 1 ∨ i = 2 by omega) with rfl | rfl | rfl
    · exact v1.cpy
    · exact v1
    · exact v2
  · refine Sx2.mk (r := 1) (s1 := (va_cpy b2 b0 0 0 36, b1, b2)) (by
      unfold fX8_copy
      rw [isb8y h1', bd1_mk, if_neg one0, isb8y h2', bd1_mk, if_neg one0, if_neg h3]
      rfl) e9' (c8 _ _ _ (fun i hi => ?_))
    rcases (show i = 0 ∨ i = 1 ∨ i = 2 by omega) with rfl | rfl | rfl
    · exact v2.cpy
    · exact v1
    · exact v2
  · refine Sx2.mk (r := 1) (s1 := (b0, va_cpy b0 b1 0 0 36, b2)) (by
      unfold fX8_copy
      rw [isb8y h1', bd1_mk, if_neg one0, isb8y h2', bd1_mk, if_neg one0, if_neg h3]
      rfl) e9' (c8 _ _ _ (fun i hi => ?_))
    rcases (show i = 0 ∨ i = 1 ∨ i = 2 by omega) with rfl | rfl | rfl
    · exact v0
    · exact v0.cpy
    · exact v2
  · refine Sx2.mk (r := 1) (s1 := (b0, va_cpy b2 b1 0 0 36, b2)) (by
      unfold fX8_copy
      rw [isb8y h1', bd1_mk, if_neg one0, isb8y h2', bd1_mk, if_neg one0, if_neg h3]
      rfl) e9' (c8 _ _ _ (fun i hi => ?_))
    rcases (show i = 0 ∨ i = 1 ∨ i = 2 by omega) with rfl | rfl | rfl
    · exact v0
    · exact v2.cpy
    · exact v2
  · refine Sx2.mk (r := 1) (s1 := (b0, b1, va_cpy b0 b2 0 0 36)) (by
      unfold fX8_copy
      rw [isb8y h1', bd1_mk, if_neg one0, isb8y h2', bd1_mk, if_neg one0, if_neg h3]
      rfl) e9' (c8 _ _ _ (fun i hi => ?_))
    rcases (show i = 0 ∨ i = 1 ∨ i = 2 by omega) with rfl | rfl | rfl
    · exact v0
    · exact v1
    · exact v0.cpy
  · refine Sx2.mk (r := 1) (s1 := (b0, b1, va_cpy b1 b2 0 0 36)) (by
      unfold fX8_copy
      rw [isb8y h1', bd1_mk, if_neg one0, isb8y h2', bd1_mk, if_neg one0, if_neg h3]
      rfl) e9' (c8 _ _ _ (fun i hi => ?_))
    rcases (show i = 0 ∨ i = 1 ∨ i = 2 by omega) with rfl | rfl | rfl
    · exact v0
    · exact v1
    · exact v1.cpy
theorem up4 {mv : Nat → Int32} {r : Nat} (h1 : 1 ≤ r) (h : r < 128) (hm : MV mv r) : ∀ (i n x : Nat), x + i = dR r → lpX9_ups_4 mv (nI (dR r)) (n + i + 1) (nI (uR (pfx r x))) (nI x) = some (nI (uR r)) := by
  have hd6 := (row_b1 r h h1).1.1
  intro i
  induction i with
  | zero =>
    intro n x hi
    rw [lpX9_ups_4.eq_2, if_pos (nI_le (by omega) (by omega)), show x = dR r by omega, pfd]
  | succ i ih =>
    intro n x hi
    obtain ⟨g1, g2⟩ := pf2 r h h1 x (by omega) (by omega)
    obtain ⟨g3, g4, _⟩ := pf1 r h h1 x (by omega) (by omega)
    obtain ⟨_, c2, _, _⟩ := row_s (pfx r x) g2 g4 (r / 2 ^ (dR r - 1 - x) % 2) (by omega)
    rw [lpX9_ups_4.eq_2, if_neg (nI_ge (by omega) (by omega)), og32 (by omega) (by omega), nm_mk, nI_clamp (by omega), hm x (by omega), nm_mk, nI_1, nI_add, ← c2, ← g1, show n + (i + 1) = n + i + 1 by omega]
    exact ih n (x + 1) (by omega)
theorem ups9 {mv : Nat → Int32} {r : Nat} (h1 : 1 ≤ r) (h : r < 128) (hm : MV mv r) : fX9_ups mv (nI (dR r)) = some (nI (uR r)) := by
  unfold fX9_ups
  have hd6 := (row_b1 r h h1).1.1
  obtain ⟨n, hn⟩ := fuN (dR r + 1) (by omega)
  have := up4 h1 h hm (dR r) n 0 (by omega)
  rw [pf0 r h h1, show nI (uR 1) = nI 0 from rfl] at this
  rw [hn, i_0, show n + (dR r + 1) = n + dR r + 1 by omega, this, bd1_mk]
theorem pfb : ∀ r, r < 128 → 1 ≤ r → ∀ i, i < 6 → i < dR r → nI (pfx r (i + 1)) &&& 1 = nI (r / 2 ^ (dR r - 1 - i) % 2) := by decide +kernel
theorem q_went {τ : Nat → Nat} {row moved : Int32} {mv : Nat → Int32} (hP : PQ τ row mv moved) (p1 : Int32) : ∃ v, fX8_went p1 row = some v ∧ fX9_went p1 mv moved = some v := by
  obtain ⟨r, h1, h, hd, rfl, rfl, hm⟩ := hP
  have hd6 := (row_b1 r h h1).1.1
  by_cases g0 : p1 = 0
  · exact ⟨nI (dR r), by unfold fX8_went; rw [day8 r h h1, bd1_mk, if_pos g0], by unfold fX9_went; rw [if_pos g0]⟩
  by_cases g1 : p1 = 1
  · exact ⟨nI (uR r), by unfold fX8_went; rw [day8 r h h1, bd1_mk, if_neg g0, if_pos g1, ups8 r h h1, bd1_mk], by unfold fX9_went; rw [if_neg g0, if_pos g1, ups9 h1 h hm, bd1_mk]⟩
  have e9 : (9 + nI (dR r) : Int32) = nI (9 + dR r) := by rw [i_9, nI_add]
  by_cases g2 : inr p1 10 ((9 + dR r : Nat) : Int)
  rotate_left
  · exact ⟨-1, by unfold fX8_went; rw [day8 r h h1, bd1_mk, if_neg g0, if_neg g1, e9, wi0 g2 rfl (nI_toInt (by omega)), bd1_mk, if_pos rfl], by unfold fX9_went; rw [if_neg g0, if_neg g1, e9, in0 g2 rfl ((Int32.toInt_toInt64 _).trans (nI_toInt (by omega))), bd1_mk, if_pos rfl, bd1_mk]⟩
  have g2' := g2
  obtain ⟨n, rfl, na, nb, nc⟩ := inr_n g2 (by decide)
  obtain ⟨i, rfl⟩ : ∃ i, n = 10 + i := ⟨n - 10, by omega⟩
  have hi : i < dR r := by omega
  refine ⟨nI (r / 2 ^ (dR r - 1 - i) % 2), ?_, ?_⟩
  · unfold fX8_went
    rw [day8 r h h1, bd1_mk, if_neg g0, if_neg g1, e9, wi1 g2' rfl (nI_toInt (by omega)), bd1_mk, if_neg one0, i_9, pk_sub (by omega), show 10 + i - 9 = i + 1 by omega, rod8 r h h1 (i + 1) (by omega) (by omega), bd1_mk, pfb r h h1 i (by omega) hi]
  · unfold fX9_went
    rw [if_neg g0, if_neg g1, e9, in1 g2' rfl ((Int32.toInt_toInt64 _).trans (nI_toInt (by omega))), bd1_mk, if_neg one0, i_10, pk_sub (by omega), show 10 + i - 10 = i by omega, og32 (by omega) (by omega), nI_clamp (by omega), hm i hi, bd1_mk]
theorem q_count {tr tree : Nat → Int32} {τ : Nat → Nat} (h : TCT tr tree τ) {kc size taped states : Int32} (hs : size = taped) (hc : kc = states) (p1 : Int32) : ∃ v, fX8_count p1 kc size tr = some v ∧ fX9_count p1 taped tree states = some v := by
  subst hs hc
  by_cases h1 : inr p1 0 8
  rotate_left
  · unfold fX8_count fX9_count
    rw [wi0 h1, in0 h1, bd1_mk, bd1_mk, if_pos rfl, if_pos rfl]
    by_cases g : p1 = 9
    · exact ⟨size, by rw [if_pos g]; rfl, by rw [if_pos g, bd1_mk]⟩
    by_cases g2 : p1 = 10
    · exact ⟨kc, by rw [if_neg g, if_pos g2, bd1_mk], by rw [if_neg g, if_pos g2, bd1_mk]⟩
    · exact ⟨-1, by rw [if_neg g, if_neg g2, bd1_mk], by rw [if_neg g, if_neg g2, bd1_mk]⟩
  have h1' := h1
  obtain ⟨n, rfl, na, nb, nc⟩ := inr_n h1 (by decide)
  exact ⟨nI (τ n), by unfold fX8_count; rw [wi1 h1', bd1_mk, if_neg one0, gt7 h.1 (by omega), bd1_mk], by unfold fX9_count; rw [in1 h1', bd1_mk, if_neg one0, og32 (by omega) (by omega), nI_clamp (by omega), tr0 h.2.1 (by omega)]⟩
end
section
/-! pure: calls at the path, both sides (own rows) -/
theorem nzL_n {y : Int64} (h : ¬ y = 0) : nzL y = true := by unfold nzL; rw [decide_eq_false h]; rfl
theorem q_value {tr b0 b1 b2 tree bs : Nat → Int32} {τ : Nat → Nat} {B : Nat → Nat → Nat} (hf : TC tr τ) (hf9 : TR tree 0 τ) (hT : TK τ) (hB : CB3 b0 b1 b2 B) (hb9 : ∀ k, k < 3 → RB bs k (B k)) {row moved : Int32} {mv : Nat → Int32} (hQ : PQ τ row mv moved) (p1 : Int32) (st sb : Nat → Int32) (pu pe tu ca ho va : Nat → Int64) (ma ac : Nat → Int32) (x0 x1 x2 x3 : Int32) (pe9 : Nat → Int64) (a9 b9 : Int64) (wo9 ho9 : Nat → Int64) (ac9 : Nat → Int32) (s1 s2 s3 s4 : Int32) : Sx2 (fX8_value p1 row tr b0 b1 b2 st sb pu pe tu ca ho va ma ac) (fX9_value p1 tree bs mv moved x0 x1 x2 x3 pe9 a9 b9 wo9 ho9 ac9 s1 s2 s3 s4) (fun _ _ => True) := by
  by_cases h1 : inr p1 0 2
  rotate_left
  · exact Sx2.mk (by unfold fX8_value; rw [isb8n h1, bd1_mk, if_pos rfl]) (by unfold fX9_value; rw [isb9n h1, bd1_mk, if_pos rfl]) (trivial)
  obtain ⟨k, rfl, _, hk, _⟩ := inr_n h1 (by decide)
  have hk3 : k < 3 := by omega
  have hp := prF_PK hT (show τ 1 ≤ 1000 by omega)
  obtain ⟨r, r1, r2, rd, rfl, rfl, hm⟩ := hQ
  have r3 := row_T hT r1 r2 rd
  have hl := aT_lt (prF τ (τ 1)) (B k) r1 r2
  have hd6 := (row_b1 r r2 r1).1.1
  refine Sx2.val (v := lN (vR (prF τ (τ 1)) (τ 0) (τ 6) (τ 7) (τ 8) (B k) (bV (prF τ (τ 1)) (B k)) r)) ?_ ?_
  · unfold fX8_value
    rw [isb8y h1, bd1_mk, if_neg one0]
    refine Sx.b10 (wo8 hk3 hf hT hB st sb pu pe tu ca ho va ma ac) ?_
    rintro c0 c1 c2 c3 c4 c5 c6 c7 c8 c9 ⟨hc, hcb, hsb⟩
    dsimp only at hc hcb hsb ⊢
    rw [va8 r1 r2, bd1_mk]
    exact Sx.mk (hsb.2 r r1 r1 r3).1
  · unfold fX9_value
    rw [isb9y h1, bd1_mk, if_neg one0]
    refine Sx.b10 (pn9 hf9 hT hk3 (hb9 k hk3) (hB k hk3).2 x0 x1 x2 x3 pe9 a9 b9 wo9 ho9 ac9) ?_
    rintro d0 d1 d2 d3 pe' d5 d6 d7 d8 d9 ⟨rfl, rfl, rfl, rfl, hP, hG⟩
    dsimp only at hP hG ⊢
    rw [fo9 (hb9 k hk3) (hB k hk3).2 hp hP (by omega) r1 r2 rd hm, bd4_mk, hn9, bd1_mk, og32 hl (by omega), nI_clamp (by omega)]
    exact Sx.mk ⟨(GD.r hG r1 r2 rd).1, trivial⟩
theorem q_act {tr b0 b1 b2 tree bs : Nat → Int32} {τ : Nat → Nat} {B : Nat → Nat → Nat} (hf : TC tr τ) (hf9 : TR tree 0 τ) (hT : TK τ) (hB : CB3 b0 b1 b2 B) (hb9 : ∀ k, k < 3 → RB bs k (B k)) {row moved : Int32} {mv : Nat → Int32} (hQ : PQ τ row mv moved) (p1 : Int32) (st sb : Nat → Int32) (pu pe tu ca ho va : Nat → Int64) (ma ac : Nat → Int32) (x0 x1 x2 x3 : Int32) (pe9 : Nat → Int64) (a9 b9 : Int64) (wo9 ho9 : Nat → Int64) (ac9 : Nat → Int32) (s1 s2 s3 s4 : Int32) : Sx2 (fX8_act p1 row tr b0 b1 b2 st sb pu pe tu ca ho va ma ac) (fX9_act p1 tree bs mv moved x0 x1 x2 x3 pe9 a9 b9 wo9 ho9 ac9 s1 s2 s3 s4) (fun _ _ => True) := by
  by_cases h1 : inr p1 0 2
  rotate_left
  · exact Sx2.mk (by unfold fX8_act; rw [isb8n h1, bd1_mk, if_pos rfl]) (by unfold fX9_act; rw [isb9n h1, bd1_mk, if_pos rfl]) (trivial)
  obtain ⟨k, rfl, _, hk, _⟩ := inr_n h1 (by decide)
  have hk3 : k < 3 := by omega
  have hp := prF_PK hT (show τ 1 ≤ 1000 by omega)
  obtain ⟨r, r1, r2, rd, rfl, rfl, hm⟩ := hQ
  have r3 := row_T hT r1 r2 rd
  have hl := aT_lt (prF τ (τ 1)) (B k) r1 r2
  have hd6 := (row_b1 r r2 r1).1.1
  refine Sx2.val (v := nI (A1 τ (B k) r)) ?_ ?_
  · unfold fX8_act
    rw [isb8y h1, bd1_mk, if_neg one0]
    refine Sx.b10 (wo8 hk3 hf hT hB st sb pu pe tu ca ho va ma ac) ?_
    rintro c0 c1 c2 c3 c4 c5 c6 c7 c8 c9 ⟨hc, hcb, hsb⟩
    dsimp only at hc hcb hsb ⊢
    rw [acA8 r1 r2, bd1_mk]
    exact Sx.mk (hsb.a hT r r1 r2 rd).1
  · unfold fX9_act
    rw [isb9y h1, bd1_mk, if_neg one0]
    refine Sx.b10 (pn9 hf9 hT hk3 (hb9 k hk3) (hB k hk3).2 x0 x1 x2 x3 pe9 a9 b9 wo9 ho9 ac9) ?_
    rintro d0 d1 d2 d3 pe' d5 d6 d7 d8 d9 ⟨rfl, rfl, rfl, rfl, hP, hG⟩
    dsimp only at hP hG ⊢
    rw [fo9 (hb9 k hk3) (hB k hk3).2 hp hP (by omega) r1 r2 rd hm, bd4_mk, hn9, bd1_mk, og32 hl (by omega), nI_clamp (by omega)]
    exact Sx.mk ⟨(hG.a r r1 r2 rd).1, trivial⟩
theorem q_along {tr b0 b1 b2 tree bs : Nat → Int32} {τ : Nat → Nat} {B : Nat → Nat → Nat} (hf : TC tr τ) (hf9 : TR tree 0 τ) (hT : TK τ) (hB : CB3 b0 b1 b2 B) (hb9 : ∀ k, k < 3 → RB bs k (B k)) {row moved : Int32} {mv : Nat → Int32} (hQ : PQ τ row mv moved) (p1 p2 : Int32) (st sb : Nat → Int32) (pu pe tu ca ho va : Nat → Int64) (ma ac : Nat → Int32) (x0 x1 x2 x3 : Int32) (pe9 : Nat → Int64) (a9 b9 : Int64) (wo9 ho9 : Nat → Int64) (ac9 : Nat → Int32) (s1 s2 s3 s4 : Int32) (s5 : Int64) : Sx2 (fX8_along p1 p2 row tr b0 b1 b2 st sb pu pe tu ca ho va ma ac) (fX9_along p1 p2 tree bs mv moved x0 x1 x2 x3 pe9 a9 b9 wo9 ho9 ac9 s1 s2 s3 s4 s5) (fun _ _ => True) := by
  by_cases h1 : inr p1 0 2
  rotate_left
  · exact Sx2.mk (by unfold fX8_along; rw [isb8n h1, bd1_mk, if_pos rfl]) (by unfold fX9_along; rw [isb9n h1, bd1_mk, if_pos rfl]) (trivial)
  by_cases h2 : inr p2 0 2
  rotate_left
  · exact Sx2.mk (by unfold fX8_along; rw [isb8y h1, bd1_mk, if_neg one0, wi0 h2, bd1_mk, if_pos rfl]) (by unfold fX9_along; rw [isb9y h1, bd1_mk, if_neg one0, in0 h2, bd1_mk, if_pos rfl]) (trivial)
  obtain ⟨k, rfl, _, hk, _⟩ := inr_n h1 (by decide)
  have hk3 : k < 3 := by omega
  have hp := prF_PK hT (show τ 1 ≤ 1000 by omega)
  obtain ⟨r, r1, r2, rd, rfl, rfl, hm⟩ := hQ
  have r3 := row_T hT r1 r2 rd
  have hl := aT_lt (prF τ (τ 1)) (B k) r1 r2
  have hd6 := (row_b1 r r2 r1).1.1
  have hA : ∀ i, i ≤ dR r → 1 ≤ pfx r i ∧ pfx r i < 128 ∧ dR (pfx r i) = i := by
    intro i hi
    obtain ⟨g1, g2, g3⟩ := pf1 r r2 r1 i (by omega) hi
    exact ⟨g2, g3, g1⟩
  obtain ⟨e1, e2, e3⟩ := hA (ex (A1 τ (B k)) r) (ex_le _ _)
  have e4 : dR (pfx r (ex (A1 τ (B k)) r)) ≤ τ 0 := by rw [e3]; have := ex_le (A1 τ (B k)) r; omega
  refine Sx2.val (v := if A1 τ (B k) (pfx r (ex (A1 τ (B k)) r)) = 0 then -2 else if p2 = 0 then lN (ex (A1 τ (B k)) r) else if p2 = 1 then lN (A1 τ (B k) (pfx r (ex (A1 τ (B k)) r))) else lN (pyA (prF τ (τ 1)) (B k) (A1 τ (B k) (pfx r (ex (A1 τ (B k)) r))) (pfx r (ex (A1 τ (B k)) r)) + cpS (B k) (ex (A1 τ (B k)) r))) ?_ ?_
  · unfold fX8_along
    rw [isb8y h1, bd1_mk, if_neg one0, wi1 h2, bd1_mk, if_neg one0]
    refine Sx.b10 (wo8 hk3 hf hT hB st sb pu pe tu ca ho va ma ac) ?_
    rintro c0 c1 c2 c3 c4 c5 c6 c7 c8 c9 ⟨hc, hcb, hsb⟩
    dsimp only at hc hcb hsb ⊢
    have ha := hsb.a hT
    rw [ea8 r1 r2 (A := A1 τ (B k)) (fun i hi => by
      obtain ⟨g2, g3, g1⟩ := hA i hi
      exact ⟨(ha _ g2 g3 (by omega)).1, (ha _ g2 g3 (by omega)).2.1.1⟩), bd1_mk]
    obtain ⟨a1, a2, a3⟩ := ha _ e1 e2 e4
    by_cases g : A1 τ (B k) (pfx r (ex (A1 τ (B k)) r)) = 0
    · rw [if_pos g, if_pos g, if_neg (by decide)]
      exact Sx.mk rfl
    · rw [if_neg g, if_neg g, if_pos (show (1 : Int32) ≤ nI (pfx r (ex (A1 τ (B k)) r)) from nI_le (a := 1) e1 (by omega))]
      by_cases g0 : p2 = 0
      · rw [if_pos g0, if_pos g0, day8 _ e2 e1, bd1_mk, e3]
        exact Sx.mk (nI_l (by omega))
      · rw [if_neg g0, if_neg g0]
        by_cases g1 : p2 = 1
        · rw [if_pos g1, if_pos g1, acA8 e1 e2, bd1_mk, bd1_mk, a1]
          exact Sx.mk (nI_l (by have := a2.1; omega))
        · rw [if_neg g1, if_neg g1, put8 hcb (hB k hk3).2 e1 e2 a1 a3 a2, bd1_mk, bd1_mk, e3]
          exact Sx.mk rfl
  · unfold fX9_along
    rw [isb9y h1, bd1_mk, if_neg one0, in1 h2, bd1_mk, if_neg one0]
    refine Sx.b10 (pn9 hf9 hT hk3 (hb9 k hk3) (hB k hk3).2 x0 x1 x2 x3 pe9 a9 b9 wo9 ho9 ac9) ?_
    rintro d0 d1 d2 d3 pe' d5 d6 d7 d8 d9 ⟨rfl, rfl, rfl, rfl, hP, hG⟩
    dsimp only at hP hG ⊢
    have ha := hG.a
    rw [ea9 (hb9 k hk3) (hB k hk3).2 hp hP (by omega) r1 r2 rd hm (A := A1 τ (B k)) (fun i hi => by
      obtain ⟨g2, g3, g1⟩ := hA i hi
      exact ha _ g2 g3 (by omega)), bd6_mk]
    obtain ⟨a1, a2⟩ := ha _ e1 e2 e4
    by_cases g : A1 τ (B k) (pfx r (ex (A1 τ (B k)) r)) = 0
    · rw [if_pos g, if_pos rfl, if_pos g]
      exact Sx.mk ⟨(if_pos g).symm, trivial⟩
    · rw [if_neg g, if_neg one0, if_neg g, if_neg g]
      by_cases g0 : p2 = 0
      · rw [if_pos g0, if_pos g0, bd1_mk, e3]
        exact Sx.mk ⟨nI_l (by omega), trivial⟩
      · rw [if_neg g0, if_neg g0]
        by_cases g1 : p2 = 1
        · have hl2 := aT_lt (prF τ (τ 1)) (B k) e1 e2
          rw [if_pos g1, if_pos g1, hn9, bd1_mk, og32 hl2 (by omega), nI_clamp (by omega), a1, bd1_mk]
          exact Sx.mk ⟨nI_l (by have := a2.1; omega), trivial⟩
        · rw [if_neg g1, if_neg g1, bd1_mk]
          exact Sx.mk ⟨rfl, trivial⟩
theorem q_held {tr b0 b1 b2 tree bs : Nat → Int32} {τ : Nat → Nat} {B : Nat → Nat → Nat} (hf : TC tr τ) (hf9 : TR tree 0 τ) (hT : TK τ) (hB : CB3 b0 b1 b2 B) (hb9 : ∀ k, k < 3 → RB bs k (B k)) {row moved : Int32} {mv : Nat → Int32} (hQ : PQ τ row mv moved) (p1 : Int32) (st sb : Nat → Int32) (pu pe tu ca ho va : Nat → Int64) (ma ac : Nat → Int32) (x0 x1 x2 x3 : Int32) (pe9 : Nat → Int64) (a9 b9 : Int64) (wo9 ho9 : Nat → Int64) (ac9 : Nat → Int32) (s1 s2 s3 s4 : Int32) : Sx2 (fX8_held p1 row tr b0 b1 b2 st sb pu pe tu ca ho va ma ac) (fX9_held p1 tree bs mv moved x0 x1 x2 x3 pe9 a9 b9 wo9 ho9 ac9 s1 s2 s3 s4) (fun _ _ => True) := by
  by_cases h1 : inr p1 0 2
  rotate_left
  · exact Sx2.mk (by unfold fX8_held; rw [isb8n h1, bd1_mk, if_pos rfl]) (by unfold fX9_held; rw [isb9n h1, bd1_mk, if_pos rfl]) (trivial)
  obtain ⟨k, rfl, _, hk, _⟩ := inr_n h1 (by decide)
  have hk3 : k < 3 := by omega
  have hp := prF_PK hT (show τ 1 ≤ 1000 by omega)
  obtain ⟨r, r1, r2, rd, rfl, rfl, hm⟩ := hQ
  have r3 := row_T hT r1 r2 rd
  have hl := aT_lt (prF τ (τ 1)) (B k) r1 r2
  have hd6 := (row_b1 r r2 r1).1.1
  by_cases hd : dR r = τ 0
  · refine Sx2.val (v := -2) ?_ ?_
    · unfold fX8_held
      rw [isb8y h1, bd1_mk, if_neg one0]
      refine Sx.b10 (wo8 hk3 hf hT hB st sb pu pe tu ca ho va ma ac) ?_
      rintro c0 c1 c2 c3 c4 c5 c6 c7 c8 c9 ⟨hc, hcb, hsb⟩
      dsimp only at hc hcb hsb ⊢
      unfold fX5_sharesHeld
      rw [day8 r r2 r1, bd1_mk, ld8 hc hT, bd1_mk, if_neg (nI_nlt (by omega) (by omega)), bd1_mk]
      exact Sx.mk rfl
    · unfold fX9_held
      rw [isb9y h1, bd1_mk, if_neg one0]
      refine Sx.b10 (pn9 hf9 hT hk3 (hb9 k hk3) (hB k hk3).2 x0 x1 x2 x3 pe9 a9 b9 wo9 ho9 ac9) ?_
      rintro d0 d1 d2 d3 pe' d5 d6 d7 d8 d9 ⟨rfl, rfl, rfl, rfl, hP, hG⟩
      dsimp only at hP hG ⊢
      rw [fo9 (hb9 k hk3) (hB k hk3).2 hp hP (by omega) r1 r2 rd hm, bd4_mk, if_pos (by rw [hd]), bd1_mk]
      exact Sx.mk ⟨rfl, trivial⟩
  have r64 : r < 64 := dR_64 r r2 r1 (by omega)
  obtain ⟨q1, q2, q3, q4⟩ := row_s r r64 r1 1 (by omega)
  obtain ⟨w1, w2, w3, w4⟩ := row_s r r64 r1 0 (by omega)
  obtain ⟨⟨_, b2, _⟩, _⟩ := row_b1 r r2 r1
  have z1 : 2 * r + 1 < 2 * 2 ^ τ 0 := row_T hT (by omega) (by omega) (by omega)
  have z0 : 2 * r + 0 < 2 * 2 ^ τ 0 := row_T hT (by omega) (by omega) (by omega)
  refine Sx2.val (v := if lN ((prF τ (τ 1)) (dR r + 1) (uR r + 1)) - lN ((prF τ (τ 1)) (dR r + 1) (uR r + 0)) = 0 then -3 else (1000 * (lN (vR (prF τ (τ 1)) (τ 0) (τ 6) (τ 7) (τ 8) (B k) (bV (prF τ (τ 1)) (B k)) (2 * r + 1)) - lN (vR (prF τ (τ 1)) (τ 0) (τ 6) (τ 7) (τ 8) (B k) (bV (prF τ (τ 1)) (B k)) (2 * r + 0)))) / (lN ((prF τ (τ 1)) (dR r + 1) (uR r + 1)) - lN ((prF τ (τ 1)) (dR r + 1) (uR r + 0)))) ?_ ?_
  · unfold fX8_held
    rw [isb8y h1, bd1_mk, if_neg one0]
    refine Sx.b10 (wo8 hk3 hf hT hB st sb pu pe tu ca ho va ma ac) ?_
    rintro c0 c1 c2 c3 c4 c5 c6 c7 c8 c9 ⟨hc, hcb, hsb⟩
    dsimp only at hc hcb hsb ⊢
    unfold fX5_sharesHeld
    rw [day8 r r2 r1, bd1_mk, ld8 hc hT, bd1_mk, if_pos (nI_lt (by omega) (by omega)), show fX8_longer (nI r) 1 = _ from lo8 r (b := 1) (by omega), bd1_mk, show fX8_longer (nI r) 0 = _ from lo8 r (b := 0) (by omega), bd1_mk, peA8 (by omega) (by omega), bd1_mk, peA8 (by omega) (by omega), bd1_mk, nm_mk, (hsb.1 (2 * r + 1) (by omega) z1).1, (hsb.1 (2 * r + 0) (by omega) z0).1, q1, q2, w1, w2]
    generalize hW : lN (prF τ (τ 1) (dR r + 1) (uR r + 1)) - lN (prF τ (τ 1) (dR r + 1) (uR r + 0)) = W
    by_cases g : W = 0
    · rw [if_pos g, if_pos g, bd1_mk, bd1_mk]
      exact Sx.mk rfl
    · rw [if_neg g, if_neg g, va8 (by omega) (by omega), bd1_mk, va8 (by omega) (by omega), bd1_mk, (hsb.2 (2 * r + 1) (by omega) (by omega) z1).1, (hsb.2 (2 * r + 0) (by omega) (by omega) z0).1]
      unfold fX8_through
      rw [if_neg g, og_mk _ (nzL_n g), bd1_mk, bd1_mk, bd1_mk, bd1_mk]
      exact Sx.mk rfl
  · unfold fX9_held
    rw [isb9y h1, bd1_mk, if_neg one0]
    refine Sx.b10 (pn9 hf9 hT hk3 (hb9 k hk3) (hB k hk3).2 x0 x1 x2 x3 pe9 a9 b9 wo9 ho9 ac9) ?_
    rintro d0 d1 d2 d3 pe' d5 d6 d7 d8 d9 ⟨rfl, rfl, rfl, rfl, hP, hG⟩
    dsimp only at hP hG ⊢
    have e1 : aT (prF τ (τ 1)) (B k) (2 * r + 1) = atN (dR r + 1) (uR r + 1) 1 (mkF (prF τ (τ 1)) (B k) (mR (prF τ (τ 1)) (B k) r) (dR r + 1) (uR r + 1)) := by unfold aT; rw [q1, q2, q3, mR_s _ _ r1 r64 (by omega)]
    have e0 : aT (prF τ (τ 1)) (B k) (2 * r + 0) = atN (dR r + 1) (uR r + 0) 0 (mkF (prF τ (τ 1)) (B k) (mR (prF τ (τ 1)) (B k) r) (dR r + 1) (uR r + 0)) := by unfold aT; rw [w1, w2, w3, mR_s _ _ r1 r64 (by omega)]
    have l1 := aT_lt (prF τ (τ 1)) (B k) (r := 2 * r + 1) (by omega) (by omega)
    have l0 := aT_lt (prF τ (τ 1)) (B k) (r := 2 * r + 0) (by omega) (by omega)
    have v1 := (GD.r hG (r := 2 * r + 1) (by omega) (by omega) (by omega)).1
    have v0 := (GD.r hG (r := 2 * r + 0) (by omega) (by omega) (by omega)).1
    have hri : fX9_rise pe' (nI (dR r)) (nI (uR r)) = some (lN ((prF τ (τ 1)) (dR r + 1) (uR r + 1)) - lN ((prF τ (τ 1)) (dR r + 1) (uR r + 0))) := by
      unfold fX9_rise
      rw [i_1, i_7, nI_add, pk_mul, nI_add, nI_add, og32 (by omega) (by omega), og32 (by omega) (by omega), nI_clamp (by omega), nI_clamp (by omega), show 7 * (dR r + 1) + uR r + 1 = 7 * (dR r + 1) + (uR r + 1) by omega, show 7 * (dR r + 1) + uR r = 7 * (dR r + 1) + (uR r + 0) by omega, hP _ _ (by omega) (by omega), hP _ _ (by omega) (by omega)]
    rw [fo9 (hb9 k hk3) (hB k hk3).2 hp hP (by omega) r1 r2 rd hm, bd4_mk, if_neg (fun z => hd ((nI_eq (by omega) (by omega)).mp z)), hri, bd1_mk]
    generalize hW : lN (prF τ (τ 1) (dR r + 1) (uR r + 1)) - lN (prF τ (τ 1) (dR r + 1) (uR r + 0)) = W at *
    by_cases g : W = 0
    · rw [if_pos g, if_pos g, bd1_mk]
      exact Sx.mk ⟨rfl, trivial⟩
    · unfold fX9_heldOf
      rw [if_neg g, if_neg g, show fX9_then (nI k) (nI (dR r)) (nI (uR r)) (nI (bR r)) (nI (mR (prF τ (τ 1)) (B k) r)) 1 bs pe' = _ from th9 (hb9 k hk3) (hB k hk3).2 hp hP (by omega) (b := 1) _ (by omega) (mR_lt _ _ _) (by omega) (by omega), bd1_mk, ← e1, og32 l1 (by omega), nm_mk, show fX9_then (nI k) (nI (dR r)) (nI (uR r)) (nI (bR r)) (nI (mR (prF τ (τ 1)) (B k) r)) 0 bs pe' = _ from th9 (hb9 k hk3) (hB k hk3).2 hp hP (by omega) (b := 0) _ (by omega) (mR_lt _ _ _) (by omega) (by omega), bd1_mk, ← e0, og32 l0 (by omega), nm_mk, hri, bd1_mk, og_mk _ (nzL_n g), bd1_mk, bd1_mk, nI_clamp (by omega), nI_clamp (by omega), v1, v0]
      exact Sx.mk ⟨rfl, trivial⟩
end
section
/-! pure: here (it returns) and instead, both sides (own rows) -/
abbrev Sz {α β : Type} (o1 : Option α) (o2 : Option β) : Prop := Sx o1 (fun _ => True) ∧ Sx o2 (fun _ => True)
theorem Sx2.z {ρ α β : Type} {o1 : Option (ρ × α)} {o2 : Option (ρ × β)} {Q : α → β → Prop} (h : Sx2 o1 o2 Q) : Sz o1 o2 := by
  obtain ⟨r, s1, s2, h1, h2, _⟩ := h
  exact ⟨⟨_, h1, trivial⟩, ⟨_, h2, trivial⟩⟩
def giN (e cp : Nat) : Int64 := if e = 0 then -2 else lN (cp + (e - 1))
theorem gi8 {ts : Nat → Int32} {β : Nat → Nat} (hb : CB ts β) (hK : BK β) {t e : Nat} (ht : t ≤ 6) (he : e < 2 ^ 62) : bd1 (if 0 ≤ lC e then bd1 (fX0_couponOn (nI t) ts) (fun r17 => some ((Int32.toInt64 r17) + lC e)) else some (-2)) (fun (j14 : Int64) => some (j14)) = some (giN e (cpF β t)) := by
  have hc := cpF_le hK t
  unfold giN
  by_cases g : e = 0
  · subst g
    rw [if_neg (by decide), if_pos rfl, bd1_mk]
  · rw [if_neg g, if_pos (by rw [lC_1 g]; exact (pk_lLE (a := 0) (by omega) (by omega)).mpr (Nat.zero_le _)), co8 hb ht, bd1_mk, bd1_mk, lC_1 g, nI_l (by omega), lN_add]
theorem n_here {tr b0 b1 b2 tree bs : Nat → Int32} {τ : Nat → Nat} {B : Nat → Nat → Nat} (hf : TC tr τ) (hf9 : TR tree 0 τ) (hT : TK τ) (hB : CB3 b0 b1 b2 B) (hb9 : ∀ k, k < 3 → RB bs k (B k)) {row moved : Int32} {mv : Nat → Int32} (hQ : PQ τ row mv moved) (p1 p2 : Int32) (st sb : Nat → Int32) (pu pe tu ca ho va : Nat → Int64) (ma ac : Nat → Int32) (x0 x1 x2 x3 : Int32) (pe9 : Nat → Int64) (a9 b9 : Int64) (wo9 ho9 : Nat → Int64) (ac9 : Nat → Int32) (s1 s2 s3 s4 : Int32) : Sz (fX8_here p1 p2 row tr b0 b1 b2 st sb pu pe tu ca ho va ma ac) (fX9_here p1 p2 tree bs mv moved x0 x1 x2 x3 pe9 a9 b9 wo9 ho9 ac9 s1 s2 s3 s4) := by
  by_cases h1 : inr p1 0 2
  rotate_left
  · exact Sx2.z (Q := fun _ _ => True) (Sx2.mk (by unfold fX8_here; rw [isb8n h1, bd1_mk, if_pos rfl]) (by unfold fX9_here; rw [isb9n h1, bd1_mk, if_pos rfl]) trivial)
  by_cases h2 : inr p2 0 4
  rotate_left
  · exact Sx2.z (Q := fun _ _ => True) (Sx2.mk (by unfold fX8_here; rw [isb8y h1, bd1_mk, if_neg one0, wi0 h2, bd1_mk, if_pos rfl]) (by unfold fX9_here; rw [isb9y h1, bd1_mk, if_neg one0, in0 h2, bd1_mk, if_pos rfl]) trivial)
  obtain ⟨k, rfl, _, hk, _⟩ := inr_n h1 (by decide)
  have hk3 : k < 3 := by omega
  have hp := prF_PK hT (show τ 1 ≤ 1000 by omega)
  obtain ⟨r, r1, r2, rd, rfl, rfl, hm⟩ := hQ
  have r3 := row_T hT r1 r2 rd
  have hl := aT_lt (prF τ (τ 1)) (B k) r1 r2
  have hd6 := (row_b1 r r2 r1).1.1
  refine ⟨?_, ?_⟩
  · unfold fX8_here
    rw [isb8y h1, bd1_mk, if_neg one0, wi1 h2, bd1_mk, if_neg one0]
    refine Sx.b10 (wo8 hk3 hf hT hB st sb pu pe tu ca ho va ma ac) ?_
    rintro c0 c1 c2 c3 c4 c5 c6 c7 c8 c9 ⟨hc, hcb, hsb⟩
    dsimp only at hc hcb hsb ⊢
    by_cases g0 : p2 = 0
    · rw [if_pos g0, hoA8 r1 r2, bd1_mk]; exact Sx.mk trivial
    rw [if_neg g0]
    by_cases g1 : p2 = 1
    · rw [if_pos g1, tuA8 r1 r2, bd1_mk]; exact Sx.mk trivial
    rw [if_neg g1]
    by_cases g2 : p2 = 2
    · rw [if_pos g2, caA8 r1 r2, bd1_mk]
      by_cases g : c5 r < 0
      · rw [if_pos g, bd1_mk]; exact Sx.mk trivial
      · rw [if_neg g, bd1_mk]; exact Sx.mk trivial
    rw [if_neg g2]
    by_cases g3 : p2 = 3
    · rw [if_pos g3, maA8 r1 r2, bd1_mk, (hsb.1 r r1 r3).2.2.2, hd8 hcb (hB k hk3).2 (mR_lt _ _ _), bd1_mk]; exact Sx.mk trivial
    · rw [if_neg g3, day8 r r2 r1, bd1_mk, co8 hcb hd6, bd1_mk]; exact Sx.mk trivial
  · unfold fX9_here
    rw [isb9y h1, bd1_mk, if_neg one0, in1 h2, bd1_mk, if_neg one0]
    refine Sx.b10 (pn9 hf9 hT hk3 (hb9 k hk3) (hB k hk3).2 x0 x1 x2 x3 pe9 a9 b9 wo9 ho9 ac9) ?_
    rintro d0 d1 d2 d3 pe' d5 d6 d7 d8 d9 ⟨rfl, rfl, rfl, rfl, hP, hG⟩
    dsimp only at hP hG ⊢
    rw [fo9 (hb9 k hk3) (hB k hk3).2 hp hP (by omega) r1 r2 rd hm, bd4_mk]
    by_cases g0 : p2 = 0
    · rw [if_pos g0]
      by_cases g : nI (dR r) = nI (τ 0)
      · rw [if_pos g, bd1_mk]; exact Sx.mk trivial
      · rw [if_neg g, hn9, bd1_mk, og32 hl (by omega), bd1_mk]; exact Sx.mk trivial
    rw [if_neg g0]
    by_cases g1 : p2 = 1
    · rw [if_pos g1, wi9 (hb9 k hk3) (hB k hk3).2 hd6, bd1_mk]
      by_cases g : inW (B k) (dR r)
      · rw [if_pos g, if_neg one0, tu9 (hb9 k hk3) (hB k hk3).2 hp hP (by omega) (okR (prF τ (τ 1)) (B k) r1 r2).1 rd, bd1_mk, bd1_mk]; exact Sx.mk trivial
      · rw [if_neg g, if_pos rfl, bd1_mk]; exact Sx.mk trivial
    rw [if_neg g1]
    by_cases g2 : p2 = 2
    · rw [if_pos g2]
      by_cases g : dR r = τ 0
      · unfold fX9_isFree
        rw [g, ca9T (by omega), bd1_mk, if_pos rfl, bd1_mk, og_mk _ (by decide), bd1_mk, if_pos rfl, bd1_mk]; exact Sx.mk trivial
      · rw [fr9 (hb9 k hk3) (hB k hk3).2 (by omega) (by omega) (mR_lt _ _ _), bd1_mk]
        by_cases g' : frF (B k) (dR r) (mR (prF τ (τ 1)) (B k) r)
        · rw [if_pos g', if_neg one0, bd1_mk]; exact Sx.mk trivial
        · rw [if_neg g', if_pos rfl, bd1_mk]; exact Sx.mk trivial
    rw [if_neg g2]
    by_cases g3 : p2 = 3
    · rw [if_pos g3, mk9 (hb9 k hk3) (hB k hk3).2 (mR_lt _ _ _), bd1_mk]; exact Sx.mk trivial
    · rw [if_neg g3, cp9 (hb9 k hk3) hd6, bd1_mk]; exact Sx.mk trivial
theorem q_instead {tr b0 b1 b2 tree bs : Nat → Int32} {τ : Nat → Nat} {B : Nat → Nat → Nat} (hf : TC tr τ) (hf9 : TR tree 0 τ) (hT : TK τ) (hB : CB3 b0 b1 b2 B) (hb9 : ∀ k, k < 3 → RB bs k (B k)) {row moved : Int32} {mv : Nat → Int32} (hQ : PQ τ row mv moved) (p1 p2 : Int32) (st sb : Nat → Int32) (pu pe tu ca ho va : Nat → Int64) (ma ac : Nat → Int32) (x0 x1 x2 x3 : Int32) (pe9 : Nat → Int64) (a9 b9 : Int64) (wo9 ho9 : Nat → Int64) (ac9 : Nat → Int32) (s1 s2 s3 s4 : Int32) : Sx2 (fX8_instead p1 p2 row tr b0 b1 b2 st sb pu pe tu ca ho va ma ac) (fX9_instead p1 p2 tree bs mv moved x0 x1 x2 x3 pe9 a9 b9 wo9 ho9 ac9 s1 s2 s3 s4) (fun _ _ => True) := by
  by_cases h1 : inr p1 0 2
  rotate_left
  · exact Sx2.mk (by unfold fX8_instead; rw [isb8n h1, bd1_mk, if_pos rfl]) (by unfold fX9_instead; rw [isb9n h1, bd1_mk, if_pos rfl]) (trivial)
  by_cases h2 : inr p2 0 3
  rotate_left
  · exact Sx2.mk (by unfold fX8_instead; rw [isb8y h1, bd1_mk, if_neg one0, wi0 h2, bd1_mk, if_pos rfl]) (by unfold fX9_instead; rw [isb9y h1, bd1_mk, if_neg one0, in0 h2, bd1_mk, if_pos rfl]) (trivial)
  obtain ⟨k, rfl, _, hk, _⟩ := inr_n h1 (by decide)
  have hk3 : k < 3 := by omega
  have hp := prF_PK hT (show τ 1 ≤ 1000 by omega)
  obtain ⟨r, r1, r2, rd, rfl, rfl, hm⟩ := hQ
  have r3 := row_T hT r1 r2 rd
  have hl := aT_lt (prF τ (τ 1)) (B k) r1 r2
  have hd6 := (row_b1 r r2 r1).1.1
  have y1 := puL_le (hB k hk3).2 (dR r)
  have y2 := cd_le hp (hB k hk3).2 r
  have y3 := tuS_le hp (hB k hk3).2 (dR r) (uR r) (bR r)
  have y4 := (hB k hk3).2.1
  have y5 : hR (prF τ (τ 1)) (τ 0) (τ 6) (τ 7) (τ 8) (B k) (bV (prF τ (τ 1)) (B k)) r ≤ 64000000007000 := Nat.le_trans (hG_b hp (hB k hk3).2 hT.n (bV_SK hp (hB k hk3).2) (by omega) _ _) (by omega)
  have y6 := cpF_le (hB k hk3).2 (dR r)
  refine Sx2.val (v := giN (if p2 = 0 then (if dR r = τ 0 then B k 0 else hR (prF τ (τ 1)) (τ 0) (τ 6) (τ 7) (τ 8) (B k) (bV (prF τ (τ 1)) (B k)) r) + 1 else if p2 = 1 then (if dR r = τ 0 then 0 else puL (B k) (dR r)) else if p2 = 2 then tuS (prF τ (τ 1)) (B k) (dR r) (uR r) (bR r) else (if dR r = τ 0 then 0 else cdF (prF τ (τ 1)) (B k) r)) (cpF (B k) (dR r))) ?_ ?_
  · unfold fX8_instead
    rw [isb8y h1, bd1_mk, if_neg one0, wi1 h2, bd1_mk, if_neg one0]
    refine Sx.b10 (wo8 hk3 hf hT hB st sb pu pe tu ca ho va ma ac) ?_
    rintro c0 c1 c2 c3 c4 c5 c6 c7 c8 c9 ⟨hc, hcb, hsb⟩
    dsimp only at hc hcb hsb ⊢
    unfold fX5_givesInstead fX0_face
    obtain ⟨v1, v2, v3⟩ := hsb.2 r r1 r1 r3
    obtain ⟨u1, u2, u3, u4⟩ := hsb.1 r r1 r3
    have key : ∀ e, e < 2 ^ 62 → bd1 (if 0 ≤ lC e then bd1 (fX0_couponOn (nI (dR r)) c1) (fun r17 => some ((Int32.toInt64 r17) + lC e)) else some (-2)) (fun (j14 : Int64) => some (j14)) = some (giN e (cpF (B k) (dR r))) := fun e he => gi8 hcb (hB k hk3).2 hd6 he
    rw [day8 r r2 r1, bd1_mk, ld8 hc hT, bd1_mk]
    by_cases hd : dR r = τ 0
    · rw [if_neg (nI_nlt (by omega) (by omega)), bd1_mk, if_pos hd, if_pos hd, if_pos hd]
      by_cases g0 : p2 = 0
      · rw [if_pos g0, if_pos g0, if_neg one0, bd1_mk, bd1_mk, bd1_mk, cl_0, hcb.1.1.1, nI_l (by omega), ← lC_s, key _ (by omega), bd1_mk]; exact Sx.mk rfl
      rw [if_neg g0, if_neg g0]
      by_cases g1 : p2 = 1
      · rw [if_pos g1, if_pos g1, if_neg one0, bd1_mk, bd1_mk, show (-2 : Int64) = lC 0 from rfl]
        rw [show (lC 0) = (-2 : Int64) from rfl]
        exact Sx.e1 (a0 := giN 0 (cpF (B k) (dR r))) rfl (Sx.mk rfl)
      rw [if_neg g1, if_neg g1]
      by_cases g2 : p2 = 2
      · rw [if_pos g2, if_pos g2, tuA8 r1 r2, bd1_mk, bd1_mk, u2, key _ (by omega), bd1_mk]; exact Sx.mk rfl
      · rw [if_neg g2, if_neg g2, if_neg one0, bd1_mk, bd1_mk]
        exact Sx.e1 (a0 := giN 0 (cpF (B k) (dR r))) rfl (Sx.mk rfl)
    · rw [if_pos (nI_lt (by omega) (by omega)), bd1_mk, if_neg hd, if_neg hd, if_neg hd]
      rw [if_neg hd] at v2
      by_cases g0 : p2 = 0
      · rw [if_pos g0, if_pos g0, if_pos rfl, hoA8 r1 r2, bd1_mk, bd1_mk, bd1_mk, v2, ← lC_s, key _ (by omega), bd1_mk]; exact Sx.mk rfl
      rw [if_neg g0, if_neg g0]
      by_cases g1 : p2 = 1
      · rw [if_pos g1, if_pos g1, if_pos rfl, pu8 hcb hd6, bd1_mk, bd1_mk, bd1_mk, iC_l (by omega), key _ (by omega), bd1_mk]; exact Sx.mk rfl
      rw [if_neg g1, if_neg g1]
      by_cases g2 : p2 = 2
      · rw [if_pos g2, if_pos g2, tuA8 r1 r2, bd1_mk, bd1_mk, u2, key _ (by omega), bd1_mk]; exact Sx.mk rfl
      · rw [if_neg g2, if_neg g2, if_pos rfl, caA8 r1 r2, bd1_mk, bd1_mk, bd1_mk, u3, key _ (by omega), bd1_mk]; exact Sx.mk rfl
  · unfold fX9_instead
    rw [isb9y h1, bd1_mk, if_neg one0, in1 h2, bd1_mk, if_neg one0]
    refine Sx.b10 (pn9 hf9 hT hk3 (hb9 k hk3) (hB k hk3).2 x0 x1 x2 x3 pe9 a9 b9 wo9 ho9 ac9) ?_
    rintro d0 d1 d2 d3 pe' d5 d6 d7 d8 d9 ⟨rfl, rfl, rfl, rfl, hP, hG⟩
    dsimp only at hP hG ⊢
    have key : ∀ e, e ≠ 0 → Int32.toInt64 (nI (cpF (B k) (dR r))) + lN (e - 1) = giN e (cpF (B k) (dR r)) := fun e he => by unfold giN; rw [if_neg he, nI_l (by omega), lN_add]
    obtain ⟨v1, v2, v3⟩ := GD.r hG r1 r2 rd
    have hoS' := (okR (prF τ (τ 1)) (B k) r1 r2).1
    unfold fX9_givesBy
    rw [fo9 (hb9 k hk3) (hB k hk3).2 hp hP (by omega) r1 r2 rd hm, bd4_mk, cp9 (hb9 k hk3) hd6, bd1_mk, nm_mk]
    by_cases g0 : p2 = 0
    · rw [if_pos g0, if_pos g0, hn9, bd1_mk, og32 hl (by omega), nI_clamp (by omega), v2, bd1_mk]
      refine Sx.mk ⟨?_, trivial⟩
      show Int32.toInt64 (nI (cpF (B k) (dR r))) + (if dR r = τ 0 then lN (B k 0) else lN (hR (prF τ (τ 1)) (τ 0) (τ 6) (τ 7) (τ 8) (B k) (bV (prF τ (τ 1)) (B k)) r)) = _
      rw [← key _ (by omega), Nat.add_sub_cancel]
      by_cases hd : dR r = τ 0
      · rw [if_pos hd, if_pos hd]
      · rw [if_neg hd, if_neg hd]
    rw [if_neg g0, if_neg g0]
    by_cases g1 : p2 = 1
    · rw [if_pos g1, if_pos g1]
      by_cases hd : dR r = τ 0
      · rw [hd, pu9T (by omega), bd1_mk, if_pos rfl, bd1_mk, bd1_mk, if_pos rfl]
        exact Sx.mk ⟨rfl, trivial⟩
      · rw [if_neg hd, pu9 (hb9 k hk3) (by omega) (by omega), bd1_mk]
        by_cases g : puL (B k) (dR r) = 0
        · rw [g, if_pos (show iM 0 = -1 from rfl), bd1_mk, bd1_mk]
          exact Sx.mk ⟨rfl, trivial⟩
        · rw [if_neg (fun z => g ((iM_m1 (by omega)).mp z)), bd1_mk, bd1_mk, bd1_mk, iM_l (by omega), lM_1 g, key _ g]
          exact Sx.mk ⟨rfl, trivial⟩
    rw [if_neg g1, if_neg g1]
    by_cases g2 : p2 = 2
    · rw [if_pos g2, if_pos g2, wi9 (hb9 k hk3) (hB k hk3).2 hd6, bd1_mk]
      by_cases g : inW (B k) (dR r)
      · have z : tuS (prF τ (τ 1)) (B k) (dR r) (uR r) (bR r) ≠ 0 := by unfold tuS tuF; rw [if_pos g]; omega
        rw [if_pos g, if_neg one0, tu9 (hb9 k hk3) (hB k hk3).2 hp hP (by omega) hoS' rd, bd1_mk, bd1_mk, bd1_mk, lM_1 z, key _ z]
        exact Sx.mk ⟨rfl, trivial⟩
      · have z : tuS (prF τ (τ 1)) (B k) (dR r) (uR r) (bR r) = 0 := by unfold tuS tuF; rw [if_neg g]
        rw [if_neg g, if_pos rfl, bd1_mk, bd1_mk, z]
        exact Sx.mk ⟨rfl, trivial⟩
    · rw [if_neg g2, if_neg g2]
      by_cases hd : dR r = τ 0
      · unfold fX9_isFree
        rw [hd, ca9T (by omega), bd1_mk, if_pos rfl, bd1_mk, og_mk _ (by decide), bd1_mk, if_pos rfl, bd1_mk, bd1_mk, if_pos rfl]
        exact Sx.mk ⟨rfl, trivial⟩
      · rw [if_neg hd, fr9 (hb9 k hk3) (hB k hk3).2 (by omega) (by omega) (mR_lt _ _ _), bd1_mk]
        by_cases g : frF (B k) (dR r) (mR (prF τ (τ 1)) (B k) r)
        · have z : cgS (prF τ (τ 1)) (B k) (dR r) (uR r) (bR r) ≠ 0 := by unfold cgS; have := g.1; omega
          rw [if_pos g, if_neg one0, cg9 (hb9 k hk3) (hB k hk3).2 hp hP (by omega) hoS' (by omega), bd1_mk, bd1_mk, bd1_mk, cd_s g, lM_1 z, key _ z]
          exact Sx.mk ⟨rfl, trivial⟩
        · rw [if_neg g, if_pos rfl, bd1_mk, bd1_mk, cd_0.mpr g]
          exact Sx.mk ⟨rfl, trivial⟩
end
section
/-! pure: rights given up, and the best of three, both sides (own rows) -/
abbrev BE (π : Nat → Nat → Nat) (β β' : Nat → Nat) : Prop := β 0 = β' 0 ∧ β 23 = β' 23 ∧ β 24 = β' 24 ∧ β 25 = β' 25 ∧ (∀ t, caL β t = caL β' t) ∧ (∀ t, puL β t = puL β' t) ∧ (∀ t, cpF β t = cpF β' t) ∧ (∀ t j u, t ≤ 6 → tuS π β t j u = tuS π β' t j u)
theorem vG_e {π : Nat → Nat → Nat} {T p q R : Nat} {β β' : Nat → Nat} (hT : T ≤ 6) (h : BE π β β') : ∀ n j u m, vG π T p q R β (bV π β) n j u m = vG π T p q R β' (bV π β') n j u m := by
  obtain ⟨h0, h23, h24, h25, hca, hpu, hcp, htu⟩ := h
  have hhi : ∀ x, hiF β x = hiF β' x := fun x => by unfold hiF; rw [h25]
  have hmk : ∀ m t j, mkF π β m t j = mkF π β' m t j := fun m t j => by unfold mkF; rw [hhi]
  intro n
  induction n with
  | zero =>
    intro j u m
    rw [vG_0, vG_0]
    unfold enV
    rw [hcp T, htu T j u hT, h0]
  | succ n ih =>
    intro j u m
    rw [vG_s, vG_s]
    have hh : hG π T p q R β (bV π β) n j m = hG π T p q R β' (bV π β') n j m := by
      unfold hG
      rw [hmk, hmk, ih, ih]
    rw [hh]
    generalize hG π T p q R β' (bV π β') n j m = b
    have ht : T - (n + 1) ≤ 6 := by omega
    generalize T - (n + 1) = t at ht ⊢
    unfold bV
    rw [bG_eq, bG_eq]
    have e1 := hcp t
    have e2 := htu t j u ht
    have e3 := hpu t
    have e4 := hca t
    have e5 : hdF β m = hdF β' m := by unfold hdF; rw [h24]
    have e6 : cgS π β t j u = cgS π β' t j u := by unfold cgS; omega
    by_cases g : frF β t m
    · have g' : frF β' t m := by unfold frF; rw [← e4, ← h23, ← e5]; exact g
      rw [if_pos g, if_pos g', e1, e2, e3, e6]
    · have g' : ¬ frF β' t m := by unfold frF; rw [← e4, ← h23, ← e5]; exact g
      rw [if_neg g, if_neg g', e1, e2, e3]
theorem V1_e {τ β β' : Nat → Nat} (hT : TK τ) (h : BE (prF τ (τ 1)) β β') : V1 τ β = V1 τ β' := by
  unfold V1 V0
  have e : hiF β (prF τ (τ 1) 0 0) = hiF β' (prF τ (τ 1) 0 0) := by unfold hiF; rw [h.2.2.2.1]
  rw [e]
  exact vG_e (by omega) h _ _ _ _
theorem BE_w (π : Nat → Nat → Nat) {β β' : Nat → Nat} (h : ∀ i, i ≠ 22 → β i = β' i) (h7 : β 21 = 7) : BE π β β' := by
  refine ⟨h 0 (by omega), h 23 (by omega), h 24 (by omega), h 25 (by omega), fun t => ?_, fun t => ?_, fun t => ?_, fun t j u ht => ?_⟩
  · unfold caL
    by_cases g : t < 6
    · rw [if_pos g, if_pos g, h _ (by omega)]
    · rw [if_neg g, if_neg g]
  · unfold puL
    by_cases g : t < 6
    · rw [if_pos g, if_pos g, h _ (by omega)]
    · rw [if_neg g, if_neg g]
  · unfold cpF
    by_cases g : 1 ≤ t ∧ t ≤ 6
    · rw [if_pos g, if_pos g, h _ (by omega)]
    · rw [if_neg g, if_neg g]
  · have h7' : β' 21 = 7 := by rw [← h 21 (by omega)]; exact h7
    unfold tuS tuF
    rw [if_neg (fun q => by have := q.1; omega), if_neg (fun q => by have := q.1; omega)]
def dz (a b : Nat) (β : Nat → Nat) : Nat → Nat := fun i => if a ≤ i ∧ i < b then 0 else β i
theorem dz_0 (a : Nat) (β : Nat → Nat) : dz a a β = β := by
  funext i
  unfold dz
  rw [if_neg (by omega)]
theorem dz_s {a b : Nat} (h : a < b) (β : Nat → Nat) : dz a b β = dz (a + 1) b (bup β a 0) := by
  funext i
  unfold dz bup
  by_cases g : a ≤ i ∧ i < b
  · rw [if_pos g]
    by_cases e : a + 1 ≤ i ∧ i < b
    · rw [if_pos e]
    · rw [if_neg e, if_pos (by omega)]
  · rw [if_neg g, if_neg (by omega), if_neg (by omega)]
theorem dz_c {a b a' b' : Nat} (h : b ≤ a') (β : Nat → Nat) : dz a b (dz a' b' β) = dz a' b' (dz a b β) := by
  funext i
  unfold dz
  by_cases g : a ≤ i ∧ i < b
  · rw [if_pos g]
    by_cases e : a' ≤ i ∧ i < b'
    · rw [if_pos e]
    · rw [if_neg e, if_pos g]
  · rw [if_neg g, if_neg g]
theorem dz_u {a b c : Nat} (h : ¬ (a ≤ c ∧ c < b)) (β : Nat → Nat) (v : Nat) : dz a b (bup β c v) = bup (dz a b β) c v := by
  funext i
  show (if a ≤ i ∧ i < b then 0 else if i = c then v else β i) = (if i = c then v else if a ≤ i ∧ i < b then 0 else β i)
  by_cases g : a ≤ i ∧ i < b
  · rw [if_pos g, if_neg (fun e => h (by omega)), if_pos g]
  · rw [if_neg g]
    by_cases e : i = c
    · rw [if_pos e, if_pos e]
    · rw [if_neg e, if_neg e, if_neg g]
def dzz (a b : Nat) (β : Nat → Nat) (i : Nat) : Nat := if a ≤ i ∧ i < b then 0 else β i
theorem BK_dz {β : Nat → Nat} (h : BK β) {a b : Nat} (ha : 9 ≤ a) (hb : b ≤ 21) : BK (dz a b β) := by
  show BK (dzz a b β)
  have n : ∀ i, i < 9 ∨ 21 ≤ i → dzz a b β i = β i := fun i hi => by unfold dzz; rw [if_neg (by omega)]
  have le : ∀ i, dzz a b β i ≤ β i := fun i => by
    unfold dzz
    by_cases g : a ≤ i ∧ i < b
    · rw [if_pos g]; omega
    · rw [if_neg g]; exact Nat.le_refl _
  obtain ⟨h0, h1, h2, h3, h4, h5, h6, h7, h8, h9, h10⟩ := h
  refine ⟨by rw [n 0 (by omega)]; exact h0, by rw [n 1 (by omega)]; exact h1, fun t x y => by rw [n _ (by omega)]; exact h2 t x y, fun t x => Nat.le_trans (le _) (h3 t x), fun t x => Nat.le_trans (le _) (h4 t x), by rw [n 21 (by omega)]; exact h5, by rw [n 22 (by omega)]; exact h6, by rw [n 23 (by omega)]; exact h7, by rw [n 24 (by omega)]; exact h8, by rw [n 25 (by omega)]; exact h9, by rw [n 26 (by omega)]; exact h10⟩
def g1 (w : Int32) (β : Nat → Nat) : Nat → Nat := if (w &&& 1) = 0 then β else dz 9 15 β
def g2 (w : Int32) (β : Nat → Nat) : Nat → Nat := if (w &&& 2) = 0 then g1 w β else dz 15 21 (g1 w β)
def g3r (w : Int32) (β : Nat → Nat) : Nat → Nat := if (w &&& 4) = 0 then g2 w β else bup (g2 w β) 21 7
def g3c (w : Int32) (β : Nat → Nat) : Nat → Nat := if (w &&& 4) = 0 then g2 w β else bup (bup (g2 w β) 21 7) 22 7
def gr (w : Int32) (β : Nat → Nat) : Nat → Nat := if (w &&& 8) = 0 then g3r w β else bup (g3r w β) 23 0
def gc (w : Int32) (β : Nat → Nat) : Nat → Nat := if (w &&& 8) = 0 then g3c w β else bup (g3c w β) 23 0
theorem g_V {τ : Nat → Nat} (hT : TK τ) (w : Int32) (β : Nat → Nat) : V1 τ (gc w β) = V1 τ (gr w β) := by
  unfold gc gr g3c g3r
  by_cases h4 : (w &&& 4) = 0
  · rw [if_pos h4, if_pos h4]
  · rw [if_neg h4, if_neg h4]
    by_cases h8 : (w &&& 8) = 0
    · rw [if_pos h8, if_pos h8]
      exact V1_e hT (BE_w _ (fun i hi => by rw [bup_n _ _ hi]) (by rw [bup_n _ _ (by omega), bup_s]))
    · rw [if_neg h8, if_neg h8]
      refine V1_e hT (BE_w _ (fun i hi => ?_) (by rw [bup_n _ _ (by omega), bup_n _ _ (by omega), bup_s]))
      by_cases e : i = 23
      · subst e; rw [bup_s, bup_s]
      · rw [bup_n _ _ e, bup_n _ _ e, bup_n _ _ hi]
theorem g2_BK {w : Int32} {β : Nat → Nat} (h : BK β) : BK (g2 w β) := by
  have h1 : BK (g1 w β) := by
    unfold g1
    by_cases e : (w &&& 1) = 0
    · rw [if_pos e]; exact h
    · rw [if_neg e]; exact BK_dz h (by omega) (by omega)
  unfold g2
  by_cases e : (w &&& 2) = 0
  · rw [if_pos e]; exact h1
  · rw [if_neg e]; exact BK_dz h1 (by omega) (by omega)
theorem gr_BK {w : Int32} {β : Nat → Nat} (h : BK β) : BK (gr w β) := by
  have h3 : BK (g3r w β) := by
    unfold g3r
    by_cases e : (w &&& 4) = 0
    · rw [if_pos e]; exact g2_BK h
    · rw [if_neg e]; exact (g2_BK h).up ⟨by omega, by omega, by omega, by omega, by omega, by omega, by omega, by omega, by omega⟩
  unfold gr
  by_cases e : (w &&& 8) = 0
  · rw [if_pos e]; exact h3
  · rw [if_neg e]; exact h3.up ⟨by omega, by omega, by omega, by omega, by omega, by omega, by omega, by omega, by omega⟩
theorem gc_BK {w : Int32} {β : Nat → Nat} (h : BK β) : BK (gc w β) := by
  have h3 : BK (g3c w β) := by
    unfold g3c
    by_cases e : (w &&& 4) = 0
    · rw [if_pos e]; exact g2_BK h
    · rw [if_neg e]; exact ((g2_BK h).up (a := 21) (x := 7) ⟨by omega, by omega, by omega, by omega, by omega, by omega, by omega, by omega, by omega⟩).up ⟨by omega, by omega, by omega, by omega, by omega, by omega, by omega, by omega, by omega⟩
  unfold gc
  by_cases e : (w &&& 8) = 0
  · rw [if_pos e]; exact h3
  · rw [if_neg e]; exact h3.up ⟨by omega, by omega, by omega, by omega, by omega, by omega, by omega, by omega, by omega⟩
theorem dr2 {C a : Nat} (ha : 9 ≤ a ∧ a + 6 ≤ 21) (hC : ∀ x, x < 6 → cI (a + x) = C + x) : ∀ (i n x : Nat) (ts : Nat → Int32) (β : Nat → Nat), x + i = 6 → CB ts β → Sx (lpX0_dropRights_2 (nI C) (n + i + 1) (nI x) ts) (fun z => CB z (dz (a + x) (a + 6) β)) := by
  intro i
  induction i with
  | zero =>
    intro n x ts β hi h
    rw [lpX0_dropRights_2.eq_2, if_pos (show (6 : Int32) ≤ nI x from nI_le (a := 6) (by omega) (by omega))]
    refine Sx.mk ?_
    rw [show x = 6 by omega, dz_0]; exact h
  | succ i ih =>
    intro n x ts β hi h
    have e := hC x (by omega)
    have l := cI_lt (show a + x < 27 by omega)
    have u := h.up (a := a + x) (x := 0) (v := -2) (by omega) (by rw [eI_c (by omega), bup_s]; rfl)
    rw [e] at u
    rw [lpX0_dropRights_2.eq_2, if_neg (show ¬ (6 : Int32) ≤ nI x from nI_ge (b := 6) (by omega) (by omega)), nI_add, xset (by omega), bd1_mk, nm_mk, nI_1, show n + (i + 1) = n + i + 1 by omega, dz_s (by omega)]
    exact ih n (x + 1) _ _ (by omega) u
theorem gu8 {ts : Nat → Int32} {β : Nat → Nat} (h : CB ts β) (w : Int32) : Sx (fX0_giveUp w ts) (fun z => CB z (gc w β)) := by
  unfold fX0_giveUp fX0_dropRights
  obtain ⟨n, hn⟩ := fuN 7 (by omega)
  refine Sx.b1 (P := fun z => CB z (g1 w β)) ?_ ?_
  · unfold g1
    by_cases e : (w &&& 1) = 0
    · rw [if_pos e, if_pos e]; exact Sx.mk h
    · rw [if_neg e, if_neg e, hn]
      refine Sx.b1 (P := fun z => CB z (dz 9 15 β)) (Sx.b1 (dr2 (C := 20) (a := 9) (by omega) (by decide) 6 n 0 ts β (by omega) h) (fun z hz => Sx.mk hz)) (fun z hz => Sx.mk hz)
  intro t1 k1
  refine Sx.b1 (P := fun z => CB z (g2 w β)) ?_ ?_
  · unfold g2
    by_cases e : (w &&& 2) = 0
    · rw [if_pos e, if_pos e]; exact Sx.mk k1
    · rw [if_neg e, if_neg e, hn]
      refine Sx.b1 (P := fun z => CB z (dz 15 21 (g1 w β))) (Sx.b1 (dr2 (C := 30) (a := 15) (by omega) (by decide) 6 n 0 t1 _ (by omega) k1) (fun z hz => Sx.mk hz)) (fun z hz => Sx.mk hz)
  intro t2 k2
  refine Sx.b1 (P := fun z => CB z (g3c w β)) ?_ ?_
  · unfold g3c
    by_cases e : (w &&& 4) = 0
    · rw [if_pos e, if_pos e]; exact Sx.mk k2
    · rw [if_neg e, if_neg e, nm_mk, nm_mk]
      exact Sx.mk ((k2.up (a := 21) (x := 7) (v := 7) (by omega) (by rw [eI_n (by omega), bup_s]; rfl)).up (a := 22) (x := 7) (v := 7) (by omega) (by rw [eI_n (by omega), bup_s]; rfl))
  intro t3 k3
  refine Sx.b1 (P := fun z => CB z (gc w β)) ?_ (fun z hz => Sx.mk hz)
  unfold gc
  by_cases e : (w &&& 8) = 0
  · rw [if_pos e, if_pos e]; exact Sx.mk k3
  · rw [if_neg e, if_neg e, nm_mk]
    exact Sx.mk (k3.up (a := 23) (x := 0) (v := 0) (by omega) (by rw [eI_n (by omega), bup_s]; rfl))
theorem vwz {tr b0 b1 b2 : Nat → Int32} {τ : Nat → Nat} {B : Nat → Nat → Nat} (hf : TC tr τ) (hT : TK τ) (hB : CB3 b0 b1 b2 B) {k : Nat} (hk : k < 3) (w : Int32) (st sb : Nat → Int32) (pu pe tu ca ho va : Nat → Int64) (ma ac : Nat → Int32) : Sx (fX8_valueWithout (nI k) w tr b0 b1 b2 st sb pu pe tu ca ho va ma ac) (fun z => z.1 = lN (V1 τ (gr w (B k)))) := by
  unfold fX8_valueWithout
  rw [isb8' hk, bd1_mk, if_neg one0, og32 (by omega) (by omega), sel8 hk, bd2_mk]
  refine Sx.b1 (gu8 (hB k hk).1.cpy w) ?_
  intro ts ht
  refine Sx.b8 (pb8 hf.cpy hT ht (gc_BK (hB k hk).2) _ _ _ _ _ _ _ _) ?_
  intro c0 c1 c2 c3 c4 c5 c6 c7 hsb
  refine Sx.e1 (root8 hsb) (Sx.mk ?_)
  show lN _ = lN _
  rw [g_V hT]
def q1 (w : Int32) (x : Nat) (β : Nat → Nat) : Nat → Nat := if (w &&& 1) = 0 then β else dz (9 + x) 15 β
def q2 (w : Int32) (x : Nat) (β : Nat → Nat) : Nat → Nat := if (w &&& 2) = 0 then β else dz (15 + x) 21 β
theorem st8 (w : Int32) : ∀ (i n x : Nat) (bs : Nat → Int32) (β : Nat → Nat), x + i = 6 → RB bs 3 β → Sx (lpX9_strips_8 w (n + i + 1) (nI x) bs) (fun z => RB z 3 (q2 w x (q1 w x β)) ∧ FrB 3 bs z) := by
  intro i
  induction i with
  | zero =>
    intro n x bs β hi h
    rw [lpX9_strips_8.eq_2, if_pos (show (6 : Int32) ≤ nI x from nI_le (a := 6) (by omega) (by omega))]
    refine Sx.mk ⟨?_, FrB.refl _ _⟩
    have e1 : q1 w x β = β := by unfold q1; rw [show 9 + x = 15 by omega, dz_0, ite_self]
    have e2 : q2 w x β = β := by unfold q2; rw [show 15 + x = 21 by omega, dz_0, ite_self]
    rw [e1, e2]; exact h
  | succ i ih =>
    intro n x bs β hi h
    rw [lpX9_strips_8.eq_2, if_neg (show ¬ (6 : Int32) ≤ nI x from nI_ge (b := 6) (by omega) (by omega))]
    refine Sx.b1 (P := fun z => RB z 3 (if (w &&& 1) = 0 then β else bup β (9 + x) 0) ∧ FrB 3 bs z) ?_ ?_
    · by_cases e : (w &&& 1) = 0
      · rw [if_pos e, if_pos e]; exact Sx.mk ⟨h, FrB.refl _ _⟩
      · rw [if_neg e, if_neg e, i_9, nI_add, show fX9_sets 3 (nI (9 + x)) (-1) bs = _ from se9 (k := 3) (by omega) _, bd1_mk]
        exact Sx.mk ⟨h.up (by omega) (by rw [rI_m (by omega), bup_s]; rfl), FrB.up (by omega) _⟩
    rintro z1 ⟨k1, f1⟩
    refine Sx.b1 (P := fun z => RB z 3 (if (w &&& 2) = 0 then (if (w &&& 1) = 0 then β else bup β (9 + x) 0) else bup (if (w &&& 1) = 0 then β else bup β (9 + x) 0) (15 + x) 0) ∧ FrB 3 bs z) ?_ ?_
    · by_cases e : (w &&& 2) = 0
      · rw [if_pos e, if_pos e]; exact Sx.mk ⟨k1, f1⟩
      · rw [if_neg e, if_neg e, i_15, nI_add, show fX9_sets 3 (nI (15 + x)) (-1) z1 = _ from se9 (k := 3) (by omega) _, bd1_mk]
        exact Sx.mk ⟨k1.up (by omega) (by rw [rI_m (by omega), bup_s]; rfl), f1.tr (FrB.up (by omega) _)⟩
    rintro z2 ⟨k2, f2⟩
    rw [nm_mk, nI_1, show n + (i + 1) = n + i + 1 by omega]
    refine (ih n (x + 1) z2 _ (by omega) k2).imp ?_
    rintro z ⟨k3, f3⟩
    refine ⟨?_, f2.tr f3⟩
    have e : q2 w x (q1 w x β) = q2 w (x + 1) (q1 w (x + 1) (if (w &&& 2) = 0 then (if (w &&& 1) = 0 then β else bup β (9 + x) 0) else bup (if (w &&& 1) = 0 then β else bup β (9 + x) 0) (15 + x) 0)) := by
      unfold q1 q2
      by_cases e1 : (w &&& 1) = 0
      · by_cases e2 : (w &&& 2) = 0
        · rw [if_pos e1, if_pos e2, if_pos e1, if_pos e2, if_pos e2, if_pos e1]
        · rw [if_pos e1, if_neg e2, if_pos e1, if_neg e2, if_neg e2, if_pos e1, dz_s (by omega)]; rfl
      · by_cases e2 : (w &&& 2) = 0
        · rw [if_neg e1, if_pos e2, if_neg e1, if_pos e2, if_pos e2, if_neg e1, dz_s (by omega)]; rfl
        · rw [if_neg e1, if_neg e2, if_neg e1, if_neg e2, if_neg e2, if_neg e1, dz_s (a := 15 + x) (by omega), dz_s (a := 9 + x) (by omega), ← dz_u (by omega)]; rfl
    rw [e]; exact k3
theorem sp9 {bs : Nat → Int32} {k : Nat} {β : Nat → Nat} (hk : k < 3) (h : RB bs k β) (w : Int32) : Sx (fX9_strips (nI k) w bs) (fun z => RB z 3 (gr w β) ∧ FrB 3 bs z) := by
  unfold fX9_strips
  refine Sx.b1 (show Sx (fX9_copies (nI k) 3 bs) _ from cy9 (k := k) (l := 3) (by omega) (by omega) (by omega) h) ?_
  rintro z0 ⟨k0, f0⟩
  obtain ⟨n, hn⟩ := fuN 7 (by omega)
  refine Sx.b1 (P := fun z => RB z 3 (g2 w β) ∧ FrB 3 bs z) ?_ ?_
  · rw [hn]
    refine (st8 w 6 n 0 z0 β (by omega) k0).imp ?_
    rintro z ⟨k1, f1⟩
    exact ⟨k1, f0.tr f1⟩
  rintro z1 ⟨k1, f1⟩
  refine Sx.b1 (P := fun z => RB z 3 (g3r w β) ∧ FrB 3 bs z) ?_ ?_
  · unfold g3r
    by_cases e : (w &&& 4) = 0
    · rw [if_pos e, if_pos e]; exact Sx.mk ⟨k1, f1⟩
    · rw [if_neg e, if_neg e, show fX9_sets 3 21 7 z1 = _ from se9 (k := 3) (a := 21) (by omega) _, bd1_mk]
      exact Sx.mk ⟨k1.up (by omega) (by rw [rI_n (by omega), bup_s]; rfl), f1.tr (FrB.up (by omega) _)⟩
  rintro z2 ⟨k2, f2⟩
  refine Sx.b1 (P := fun z => RB z 3 (gr w β) ∧ FrB 3 bs z) ?_ (fun z hz => Sx.mk hz)
  unfold gr
  by_cases e : (w &&& 8) = 0
  · rw [if_pos e, if_pos e]; exact Sx.mk ⟨k2, f2⟩
  · rw [if_neg e, if_neg e, show fX9_sets 3 23 0 z2 = _ from se9 (k := 3) (a := 23) (by omega) _, bd1_mk]
    exact Sx.mk ⟨k2.up (by omega) (by rw [rI_n (by omega), bup_s]; rfl), f2.tr (FrB.up (by omega) _)⟩
theorem q_without {tr b0 b1 b2 tree bs : Nat → Int32} {τ : Nat → Nat} {B : Nat → Nat → Nat} (hf : TC tr τ) (hf9 : TR tree 0 τ) (hT : TK τ) (hB : CB3 b0 b1 b2 B) (hb9 : ∀ k, k < 3 → RB bs k (B k)) (p1 p2 : Int32) (st sb : Nat → Int32) (pu pe tu ca ho va : Nat → Int64) (ma ac : Nat → Int32) (x0 x1 x2 x3 : Int32) (pe9 : Nat → Int64) (a9 b9 : Int64) (wo9 ho9 : Nat → Int64) (ac9 : Nat → Int32) : Sx2 (fX8_without p1 p2 tr b0 b1 b2 st sb pu pe tu ca ho va ma ac) (fX9_without p1 p2 tree bs x0 x1 x2 x3 pe9 a9 b9 wo9 ho9 ac9) (fun _ t => FrB 3 bs t.1) := by
  by_cases h1 : inr p1 0 2
  rotate_left
  · exact Sx2.mk (by unfold fX8_without; rw [isb8n h1, bd1_mk, if_pos rfl]) (by unfold fX9_without; rw [isb9n h1, bd1_mk, if_pos rfl]) (FrB.refl _ _)
  by_cases h2 : inr p2 0 15
  rotate_left
  · exact Sx2.mk (by unfold fX8_without; rw [isb8y h1, bd1_mk, if_neg one0, wi0 h2, bd1_mk, if_pos rfl]) (by unfold fX9_without; rw [isb9y h1, bd1_mk, if_neg one0, in0 h2, bd1_mk, if_pos rfl]) (FrB.refl _ _)
  obtain ⟨k, rfl, _, hk, _⟩ := inr_n h1 (by decide)
  have hk3 : k < 3 := by omega
  have hp := prF_PK hT (show τ 1 ≤ 1000 by omega)
  refine Sx2.val (v := lN (V1 τ (gr p2 (B k)))) ?_ ?_
  · unfold fX8_without
    rw [isb8y h1, bd1_mk, if_neg one0, wi1 h2, bd1_mk, if_neg one0]
    refine Sx.b11 (vwz hf hT hB hk3 p2 _ _ _ _ _ _ _ _ _ _) ?_
    rintro v0 _ _ _ _ _ _ _ _ _ _ rfl
    exact Sx.mk rfl
  · unfold fX9_without
    rw [isb9y h1, bd1_mk, if_neg one0, in1 h2, bd1_mk, if_neg one0]
    refine Sx.b7 (tn9 hf9 hT x0 x1 x2 x3 pe9 a9 b9) ?_
    rintro d0 d1 d2 d3 pe' d5 d6 ⟨rfl, rfl, rfl, rfl, hP⟩
    dsimp only at hP ⊢
    refine Sx.b1 (sp9 hk3 (hb9 k hk3) p2) ?_
    rintro z ⟨kz, fz⟩
    refine Sx.b4 (show Sx (fX9_valueOf 3 z (nI (τ 0)) (nI (τ 6)) (nI (τ 7)) (nI (τ 8)) pe' wo9 ho9 ac9) _ from vo9 (k := 3) kz (gr_BK (hB k hk3).2) hp hP hT.n wo9 ho9 ac9) ?_
    rintro v e1 e2 e3 rfl
    exact Sx.mk ⟨rfl, fz⟩
theorem q_right {tr b0 b1 b2 tree bs : Nat → Int32} {τ : Nat → Nat} {B : Nat → Nat → Nat} (hf : TC tr τ) (hf9 : TR tree 0 τ) (hT : TK τ) (hB : CB3 b0 b1 b2 B) (hb9 : ∀ k, k < 3 → RB bs k (B k)) (p1 p2 : Int32) (st sb : Nat → Int32) (pu pe tu ca ho va : Nat → Int64) (ma ac : Nat → Int32) (x0 x1 x2 x3 : Int32) (pe9 : Nat → Int64) (a9 b9 : Int64) (wo9 ho9 : Nat → Int64) (ac9 : Nat → Int32) : Sx2 (fX8_right p1 p2 tr b0 b1 b2 st sb pu pe tu ca ho va ma ac) (fX9_right p1 p2 tree bs x0 x1 x2 x3 pe9 a9 b9 wo9 ho9 ac9) (fun _ t => FrB 3 bs t.1) := by
  by_cases h1 : inr p1 0 2
  rotate_left
  · exact Sx2.mk (by unfold fX8_right; rw [isb8n h1, bd1_mk, if_pos rfl]) (by unfold fX9_right; rw [isb9n h1, bd1_mk, if_pos rfl]) (FrB.refl _ _)
  by_cases h2 : inr p2 0 3
  rotate_left
  · exact Sx2.mk (by unfold fX8_right; rw [isb8y h1, bd1_mk, if_neg one0, wi0 h2, bd1_mk, if_pos rfl]) (by unfold fX9_right; rw [isb9y h1, bd1_mk, if_neg one0, in0 h2, bd1_mk, if_pos rfl]) (FrB.refl _ _)
  obtain ⟨k, rfl, _, hk, _⟩ := inr_n h1 (by decide)
  have hk3 : k < 3 := by omega
  have hp := prF_PK hT (show τ 1 ≤ 1000 by omega)
  refine Sx2.val (v := lN (V1 τ (gr (1 <<< (p2 &&& 31)) (B k))) - lN (V1 τ (B k))) ?_ ?_
  · unfold fX8_right
    rw [isb8y h1, bd1_mk, if_neg one0, wi1 h2, bd1_mk, if_neg one0]
    refine Sx.b11 (vwz hf hT hB hk3 (1 <<< (p2 &&& 31)) _ _ _ _ _ _ _ _ _ _) ?_
    rintro v0 _ _ _ _ _ _ _ _ _ _ rfl
    refine Sx.b11 (vw0 hf hT hB hk3 _ _ _ _ _ _ _ _ _ _) ?_
    rintro v1 _ _ _ _ _ _ _ _ _ _ rfl
    exact Sx.mk rfl
  · unfold fX9_right
    rw [isb9y h1, bd1_mk, if_neg one0, in1 h2, bd1_mk, if_neg one0]
    refine Sx.b7 (tn9 hf9 hT x0 x1 x2 x3 pe9 a9 b9) ?_
    rintro d0 d1 d2 d3 pe' d5 d6 ⟨rfl, rfl, rfl, rfl, hP⟩
    dsimp only at hP ⊢
    refine Sx.b1 (sp9 hk3 (hb9 k hk3) (1 <<< (p2 &&& 31))) ?_
    rintro z ⟨kz, fz⟩
    refine Sx.b4 (show Sx (fX9_valueOf 3 z (nI (τ 0)) (nI (τ 6)) (nI (τ 7)) (nI (τ 8)) pe' wo9 ho9 ac9) _ from vo9 (k := 3) kz (gr_BK (hB k hk3).2) hp hP hT.n wo9 ho9 ac9) ?_
    rintro v e1 e2 e3 rfl
    refine Sx.b4 (vo9 ((hb9 k hk3).fr (by omega) fz) (hB k hk3).2 hp hP hT.n e1 e2 e3) ?_
    rintro v e4 e5 e6 rfl
    exact Sx.mk ⟨rfl, fz⟩
end
section
/-! pure: best of three and hedged, both sides (own rows) -/
def bsF (p : Int32) (V : Nat → Int64) : Nat → Nat → Int32 → Int64 → Int32
  | 0, _, m, _ => m
  | i + 1, x, m, v => if p = 0 then (if v ≤ V x then bsF p V i (x + 1) m v else bsF p V i (x + 1) (nI x) (V x)) else (if V x ≤ v then bsF p V i (x + 1) m v else bsF p V i (x + 1) (nI x) (V x))
theorem bs8 {tr b0 b1 b2 : Nat → Int32} {τ : Nat → Nat} {B : Nat → Nat → Nat} (hf : TC tr τ) (hT : TK τ) (hB : CB3 b0 b1 b2 B) (p : Int32) : ∀ (i n x : Nat) (m : Int32) (v : Int64) (st sb : Nat → Int32) (pu pe tu ca ho va : Nat → Int64) (ma ac : Nat → Int32), x + i = 3 → Sx (lpX8_best_12 p tr b0 b1 b2 (n + i + 1) m v (nI x) st sb pu pe tu ca ho va ma ac) (fun z => z.1 = bsF p (fun x => lN (V1 τ (B x))) i x m v) := by
  intro i
  induction i with
  | zero =>
    intro n x m v st sb pu pe tu ca ho va ma ac hi
    rw [lpX8_best_12.eq_2, if_pos (show (3 : Int32) ≤ nI x from nI_le (a := 3) (by omega) (by omega))]
    exact Sx.mk rfl
  | succ i ih =>
    intro n x m v st sb pu pe tu ca ho va ma ac hi
    rw [lpX8_best_12.eq_2, if_neg (show ¬ (3 : Int32) ≤ nI x from nI_ge (b := 3) (by omega) (by omega))]
    refine Sx.b11 (vw0 hf hT hB (k := x) (by omega) _ _ _ _ _ _ _ _ _ _) ?_
    rintro v0 c0 c1 c2 c3 c4 c5 c6 c7 c8 c9 rfl
    unfold bsF
    by_cases g : p = 0
    · rw [if_pos g, if_pos g]
      by_cases g2 : v ≤ lN (V1 τ (B x))
      · rw [if_pos g2, if_pos g2, bd2_mk, nm_mk, nI_1, show n + (i + 1) = n + i + 1 by omega]
        exact ih n (x + 1) _ _ _ _ _ _ _ _ _ _ _ _ (by omega)
      · rw [if_neg g2, if_neg g2, bd2_mk, nm_mk, nI_1, show n + (i + 1) = n + i + 1 by omega]
        exact ih n (x + 1) _ _ _ _ _ _ _ _ _ _ _ _ (by omega)
    · rw [if_neg g, if_neg g]
      by_cases g2 : lN (V1 τ (B x)) ≤ v
      · rw [if_pos g2, if_pos g2, bd2_mk, nm_mk, nI_1, show n + (i + 1) = n + i + 1 by omega]
        exact ih n (x + 1) _ _ _ _ _ _ _ _ _ _ _ _ (by omega)
      · rw [if_neg g2, if_neg g2, bd2_mk, nm_mk, nI_1, show n + (i + 1) = n + i + 1 by omega]
        exact ih n (x + 1) _ _ _ _ _ _ _ _ _ _ _ _ (by omega)
theorem bs9 {bs : Nat → Int32} {τ : Nat → Nat} {B : Nat → Nat → Nat} (hT : TK τ) (hK : ∀ k, k < 3 → BK (B k)) (hb9 : ∀ k, k < 3 → RB bs k (B k)) {pe' : Nat → Int64} (hP : RP pe' (τ 0) (prF τ (τ 1))) (p : Int32) : ∀ (i n x : Nat) (m : Int32) (v : Int64) (wo ho : Nat → Int64) (ac : Nat → Int32), x + i = 3 → m ≠ -1 → Sx (lpX9_best_11 p bs (nI (τ 0)) (nI (τ 6)) (nI (τ 7)) (nI (τ 8)) pe' (n + i + 1) m v (nI x) wo ho ac) (fun z => z.1 = bsF p (fun x => lN (V1 τ (B x))) i x m v) := by
  intro i
  induction i with
  | zero =>
    intro n x m v wo ho ac hi hm
    rw [lpX9_best_11.eq_2, if_pos (show (3 : Int32) ≤ nI x from nI_le (a := 3) (by omega) (by omega))]
    exact Sx.mk rfl
  | succ i ih =>
    intro n x m v wo ho ac hi hm
    have hx : nI x ≠ (-1 : Int32) := by
      rcases (show x = 0 ∨ x = 1 ∨ x = 2 by omega) with rfl | rfl | rfl <;> decide
    rw [lpX9_best_11.eq_2, if_neg (show ¬ (3 : Int32) ≤ nI x from nI_ge (b := 3) (by omega) (by omega))]
    refine Sx.b4 (vo9 (k := x) (hb9 x (by omega)) (hK x (by omega)) (prF_PK hT (by omega)) hP hT.n _ _ _) ?_
    rintro v0 c0 c1 c2 rfl
    unfold bsF
    rw [if_neg hm]
    have eV : lN (V0 (prF τ (τ 1)) (τ 0) (τ 6) (τ 7) (τ 8) (B x)) = lN (V1 τ (B x)) := rfl
    rw [eV]
    by_cases g : p = 0
    · rw [if_pos g, if_pos g]
      by_cases g2 : v ≤ lN (V1 τ (B x))
      · rw [if_pos g2, if_neg (Int64.not_lt.mpr g2), bd2_mk, nm_mk, nI_1, show n + (i + 1) = n + i + 1 by omega]
        exact ih n (x + 1) _ _ _ _ _ (by omega) hm
      · rw [if_neg g2, if_pos (Int64.not_le.mp g2), bd2_mk, nm_mk, nI_1, show n + (i + 1) = n + i + 1 by omega]
        exact ih n (x + 1) _ _ _ _ _ (by omega) hx
    · rw [if_neg g, if_neg g]
      by_cases g2 : lN (V1 τ (B x)) ≤ v
      · rw [if_pos g2, if_neg (Int64.not_lt.mpr g2), bd2_mk, nm_mk, nI_1, show n + (i + 1) = n + i + 1 by omega]
        exact ih n (x + 1) _ _ _ _ _ (by omega) hm
      · rw [if_neg g2, if_pos (Int64.not_le.mp g2), bd2_mk, nm_mk, nI_1, show n + (i + 1) = n + i + 1 by omega]
        exact ih n (x + 1) _ _ _ _ _ (by omega) hx
theorem q_best {tr b0 b1 b2 tree bs : Nat → Int32} {τ : Nat → Nat} {B : Nat → Nat → Nat} (hf : TC tr τ) (hf9 : TR tree 0 τ) (hT : TK τ) (hB : CB3 b0 b1 b2 B) (hb9 : ∀ k, k < 3 → RB bs k (B k)) (p1 : Int32) (st sb : Nat → Int32) (pu pe tu ca ho va : Nat → Int64) (ma ac : Nat → Int32) (x0 x1 x2 x3 : Int32) (pe9 : Nat → Int64) (a9 b9 : Int64) (wo9 ho9 : Nat → Int64) (ac9 : Nat → Int32) : Sx2 (fX8_best p1 tr b0 b1 b2 st sb pu pe tu ca ho va ma ac) (fX9_best p1 tree bs x0 x1 x2 x3 pe9 a9 b9 wo9 ho9 ac9) (fun _ _ => True) := by
  obtain ⟨n, hn⟩ := fuN 4 (by omega)
  refine Sx2.val (v := bsF p1 (fun x => lN (V1 τ (B x))) 2 1 0 (lN (V1 τ (B 0)))) ?_ ?_
  · unfold fX8_best
    refine Sx.b11 (vw0 hf hT hB (k := 0) (by omega) _ _ _ _ _ _ _ _ _ _) ?_
    rintro v0 c0 c1 c2 c3 c4 c5 c6 c7 c8 c9 rfl
    rw [hn]
    refine Sx.b11 (bs8 hf hT hB p1 2 (n + 1) 1 0 _ _ _ _ _ _ _ _ _ _ _ (by omega)) ?_
    intro a _ _ _ _ _ _ _ _ _ _ h
    exact Sx.mk h
  · unfold fX9_best
    refine Sx.b7 (tn9 hf9 hT x0 x1 x2 x3 pe9 a9 b9) ?_
    rintro d0 d1 d2 d3 pe' d5 d6 ⟨rfl, rfl, rfl, rfl, hP⟩
    dsimp only at hP ⊢
    rw [hn]
    refine Sx.b4 (P := fun z => z.1 = bsF p1 (fun x => lN (V1 τ (B x))) 2 1 0 (lN (V1 τ (B 0)))) ?_ ?_
    · rw [lpX9_best_11.eq_2, if_neg (by decide)]
      refine Sx.b4 (show Sx (fX9_valueOf 0 bs (nI (τ 0)) (nI (τ 6)) (nI (τ 7)) (nI (τ 8)) pe' wo9 ho9 ac9) _ from vo9 (k := 0) (hb9 0 (by omega)) (hB 0 (by omega)).2 (prF_PK hT (by omega)) hP hT.n _ _ _) ?_
      rintro v0 c0 c1 c2 rfl
      rw [if_pos rfl, bd2_mk, nm_mk]
      exact bs9 hT (fun k hk => (hB k hk).2) hb9 hP p1 2 n 1 0 _ _ _ _ (by omega) (by decide)
    · intro a _ _ _ h
      exact Sx.mk ⟨h, trivial⟩
def rW (τ : Nat → Nat) (e : Nat) : Int64 := (lN (prF τ (τ 1) (dR e + 1) (uR e + 1)) - lN (prF τ (τ 1) (dR e + 1) (uR e + 0)))
def rQ (τ β : Nat → Nat) (e : Nat) : Int64 := (1000 * (lN (vR (prF τ (τ 1)) (τ 0) (τ 6) (τ 7) (τ 8) β (bV (prF τ (τ 1)) β) (2 * e + 1)) - lN (vR (prF τ (τ 1)) (τ 0) (τ 6) (τ 7) (τ 8) β (bV (prF τ (τ 1)) β) (2 * e + 0)))) / rW τ e
theorem sh8 {st : Nat → Int32} {τ β : Nat → Nat} (hc : TC st τ) (hT : TK τ) {pe tu ca ho va : Nat → Int64} {ma ac : Nat → Int32} (hsb : SB τ β pe tu ca ho va ma ac) {e : Nat} (e1 : 1 ≤ e) (e2 : e < 128) (ed : dR e < τ 0) : fX5_sharesHeld (nI e) st pe va = some (if rW τ e = 0 then -3 else rQ τ β e) ∧ pe (2 * e + 1) = lN (prF τ (τ 1) (dR e + 1) (uR e + 1)) ∧ pe (2 * e + 0) = lN (prF τ (τ 1) (dR e + 1) (uR e + 0)) ∧ e < 64 := by
  have hd6 := (row_b1 e e2 e1).1.1
  have r64 : e < 64 := dR_64 e e2 e1 (by omega)
  obtain ⟨q1, q2, q3, q4⟩ := row_s e r64 e1 1 (by omega)
  obtain ⟨w1, w2, w3, w4⟩ := row_s e r64 e1 0 (by omega)
  have z1 : 2 * e + 1 < 2 * 2 ^ τ 0 := row_T hT (by omega) (by omega) (by omega)
  have z0 : 2 * e + 0 < 2 * 2 ^ τ 0 := row_T hT (by omega) (by omega) (by omega)
  have p1 := (hsb.1 (2 * e + 1) (by omega) z1).1
  have p0 := (hsb.1 (2 * e + 0) (by omega) z0).1
  rw [q1, q2] at p1
  rw [w1, w2] at p0
  refine ⟨?_, p1, p0, r64⟩
  unfold fX5_sharesHeld rQ rW
  rw [day8 e e2 e1, bd1_mk, ld8 hc hT, bd1_mk, if_pos (nI_lt (by omega) (by omega)), show fX8_longer (nI e) 1 = _ from lo8 e (b := 1) (by omega), bd1_mk, show fX8_longer (nI e) 0 = _ from lo8 e (b := 0) (by omega), bd1_mk, peA8 (by omega) (by omega), bd1_mk, peA8 (by omega) (by omega), bd1_mk, nm_mk, p1, p0]
  generalize hW : (lN (prF τ (τ 1) (dR e + 1) (uR e + 1)) - lN (prF τ (τ 1) (dR e + 1) (uR e + 0))) = W
  by_cases g : W = 0
  · rw [if_pos g, if_pos g, bd1_mk]
  · rw [if_neg g, if_neg g, va8 (by omega) (by omega), bd1_mk, va8 (by omega) (by omega), bd1_mk, (hsb.2 (2 * e + 1) (by omega) (by omega) z1).1, (hsb.2 (2 * e + 0) (by omega) (by omega) z0).1]
    unfold fX8_through
    rw [if_neg g, og_mk _ (nzL_n g), bd1_mk, bd1_mk, bd1_mk]
theorem ri9 {pe' : Nat → Int64} {τ : Nat → Nat} (hT : TK τ) (hP : RP pe' (τ 0) (prF τ (τ 1))) {e : Nat} (e1 : 1 ≤ e) (e2 : e < 128) (ed : dR e < τ 0) : fX9_rise pe' (nI (dR e)) (nI (uR e)) = some (rW τ e) := by
  obtain ⟨⟨b1, b2, _⟩, _⟩ := row_b1 e e2 e1
  unfold fX9_rise rW
  rw [i_1, i_7, nI_add, pk_mul, nI_add, nI_add, og32 (by omega) (by omega), og32 (by omega) (by omega), nI_clamp (by omega), nI_clamp (by omega), show 7 * (dR e + 1) + uR e + 1 = 7 * (dR e + 1) + (uR e + 1) by omega, show 7 * (dR e + 1) + uR e = 7 * (dR e + 1) + (uR e + 0) by omega, hP _ _ (by omega) (by omega), hP _ _ (by omega) (by omega)]
theorem ho9' {bs : Nat → Int32} {pe' wo ho : Nat → Int64} {ac : Nat → Int32} {τ β : Nat → Nat} {k : Nat} (hb : RB bs k β) (hK : BK β) (hT : TK τ) (hP : RP pe' (τ 0) (prF τ (τ 1))) (hG : GD (prF τ (τ 1)) (τ 0) (τ 6) (τ 7) (τ 8) β (fun _ _ _ _ => True) wo ho ac) {e : Nat} (e1 : 1 ≤ e) (e2 : e < 128) (ed : dR e < τ 0) (g : ¬ rW τ e = 0) : fX9_heldOf (nI k) bs pe' wo (nI (dR e)) (nI (uR e)) (nI (bR e)) (nI (mR (prF τ (τ 1)) β e)) = some (rQ τ β e) := by
  have hp := prF_PK hT (show τ 1 ≤ 1000 by omega)
  obtain ⟨⟨b1, b2, _⟩, _⟩ := row_b1 e e2 e1
  have r64 : e < 64 := dR_64 e e2 e1 (by omega)
  obtain ⟨q1, q2, q3, q4⟩ := row_s e r64 e1 1 (by omega)
  obtain ⟨w1, w2, w3, w4⟩ := row_s e r64 e1 0 (by omega)
  have f1 : aT (prF τ (τ 1)) β (2 * e + 1) = atN (dR e + 1) (uR e + 1) 1 (mkF (prF τ (τ 1)) β (mR (prF τ (τ 1)) β e) (dR e + 1) (uR e + 1)) := by unfold aT; rw [q1, q2, q3, mR_s _ _ e1 r64 (by omega)]
  have f0 : aT (prF τ (τ 1)) β (2 * e + 0) = atN (dR e + 1) (uR e + 0) 0 (mkF (prF τ (τ 1)) β (mR (prF τ (τ 1)) β e) (dR e + 1) (uR e + 0)) := by unfold aT; rw [w1, w2, w3, mR_s _ _ e1 r64 (by omega)]
  have l1 := aT_lt (prF τ (τ 1)) β (r := 2 * e + 1) (by omega) (by omega)
  have l0 := aT_lt (prF τ (τ 1)) β (r := 2 * e + 0) (by omega) (by omega)
  have v1 := (GD.r hG (r := 2 * e + 1) (by omega) (by omega) (by omega)).1
  have v0 := (GD.r hG (r := 2 * e + 0) (by omega) (by omega) (by omega)).1
  unfold fX9_heldOf rQ
  rw [show fX9_then (nI k) (nI (dR e)) (nI (uR e)) (nI (bR e)) (nI (mR (prF τ (τ 1)) β e)) 1 bs pe' = _ from th9 hb hK hp hP (by omega) (b := 1) _ (by omega) (mR_lt _ _ _) (by omega) (by omega), bd1_mk, ← f1, og32 l1 (by omega), nm_mk, show fX9_then (nI k) (nI (dR e)) (nI (uR e)) (nI (bR e)) (nI (mR (prF τ (τ 1)) β e)) 0 bs pe' = _ from th9 hb hK hp hP (by omega) (b := 0) _ (by omega) (mR_lt _ _ _) (by omega) (by omega), bd1_mk, ← f0, og32 l0 (by omega), nm_mk, ri9 hT hP e1 e2 ed, bd1_mk, og_mk _ (nzL_n g), nI_clamp (by omega), nI_clamp (by omega), v1, v0]
end
section
/-! pure: hedged, both sides (own rows) -/
def clp (j : Int64) : Int64 := if j ≤ 100000 then (if -100000 ≤ j then j else -100000) else 100000
theorem clp8 (r : Int64) : (if (if r < 100000 then r else 100000) < (-100000) then (-100000) else (if r < 100000 then r else 100000)) = clp r := by
  unfold clp
  by_cases a : r < 100000
  · rw [if_pos a, if_pos (Int64.le_of_lt a)]
    by_cases b : -100000 ≤ r
    · rw [if_pos b, if_neg (Int64.not_lt.mpr b)]
    · rw [if_neg b, if_pos (Int64.not_le.mp b)]
  · rw [if_neg a, if_neg (show ¬ (100000 : Int64) < -100000 by decide)]
    by_cases b : r ≤ 100000
    · have e : r = 100000 := Int64.le_antisymm b (Int64.not_lt.mp a)
      subst e
      rfl
    · rw [if_neg b]
def hv (τ β : Nat → Nat) (e : Nat) : Int64 := if rW τ e = 0 then 0 else clp (rQ τ β e)
theorem sub0 {a b : Int64} : a = b ↔ a - b = 0 := by
  constructor
  · rintro rfl; exact Int64.sub_self _
  · intro h
    have := Int64.sub_add_cancel (a := a) (b := b)
    rw [h, Int64.zero_add] at this
    exact this.symm
theorem sw8 {st : Nat → Int32} {τ β : Nat → Nat} (hc : TC st τ) (hT : TK τ) {pe tu ca ho va : Nat → Int64} {ma ac : Nat → Int32} (hsb : SB τ β pe tu ca ho va ma ac) {e : Nat} (e1 : 1 ≤ e) (e2 : e < 128) (ed : dR e < τ 0) : fX5_sharesWanted (nI e) st pe va = some (hv τ β e) := by
  obtain ⟨s1, p1, p0, r64⟩ := sh8 hc hT hsb e1 e2 ed
  unfold fX5_sharesWanted
  rw [show fX8_longer (nI e) 1 = _ from lo8 e (b := 1) (by omega), bd1_mk, peA8 (by omega) (by omega), bd1_mk, show fX8_longer (nI e) 0 = _ from lo8 e (b := 0) (by omega), bd1_mk, peA8 (by omega) (by omega), bd1_mk, p1, p0, s1]
  unfold hv
  by_cases g : rW τ e = 0
  · rw [if_pos (sub0.mpr g), bd1_mk, if_neg one0, bd1_mk, if_pos g]
  · rw [if_neg (fun z => g (sub0.mp z)), bd1_mk, if_pos rfl, bd1_mk, bd1_mk, if_neg g, if_neg g, clp8]
def hgE (τ β : Nat → Nat) (e : Nat) (c s : Int64) : Int64 := (c + ((s * lN ((prF τ (τ 1)) (dR e) (uR e))) / 1000)) - lN (pyA (prF τ (τ 1)) β (A1 τ β e) e)
def hgF (τ β : Nat → Nat) (r : Nat) : Nat → Nat → Int64 → Int64 → Int64
  | 0, x, c, s => if A1 τ β (pfx r x) = 0 then -2 else hgE τ β (pfx r x) c s
  | i + 1, x, c, s => if A1 τ β (pfx r x) = 0 then hgF τ β r i (x + 1) (((c - ((hv τ β (pfx r x) - s) * lN ((prF τ (τ 1)) (dR (pfx r x)) (uR (pfx r x)))) / 1000) * Int32.toInt64 (1000 + nI (τ 8))) / 1000 - Int32.toInt64 (nI (cpF β (x + 1)))) (hv τ β (pfx r x)) else hgE τ β (pfx r x) c s
abbrev hq8 (τ β : Nat → Nat) (H : Int64) (z : Nat × Int64 × Int64 × Int32) : Prop := (z.1 = 1 ∧ H = -2) ∨ (z.1 = 0 ∧ ∃ e, 1 ≤ e ∧ e < 128 ∧ dR e ≤ τ 0 ∧ A1 τ β e ≠ 0 ∧ z.2.2.2 = nI e ∧ H = hgE τ β e z.2.1 z.2.2.1)
abbrev hq9 (τ β : Nat → Nat) (H : Int64) (z : Nat × Int64 × Int64 × Int32 × Int32 × Int32 × Int32) : Prop := (z.1 = 0 ∧ H = -2) ∨ (z.1 = 1 ∧ ∃ e, 1 ≤ e ∧ e < 128 ∧ dR e ≤ τ 0 ∧ A1 τ β e ≠ 0 ∧ z.2.2.2.1 = nI (dR e) ∧ z.2.2.2.2.1 = nI (uR e) ∧ z.2.2.2.2.2.1 = nI (bR e) ∧ z.2.2.2.2.2.2 = nI (mR (prF τ (τ 1)) β e) ∧ H = hgE τ β e z.2.1 z.2.2.1)
theorem A1_T {τ β : Nat → Nat} {e : Nat} (h : A1 τ β e = 0) (hd : dR e ≤ τ 0) : dR e < τ 0 := by
  by_cases g : dR e = τ 0
  · exact absurd h (aR_T _ _ _ _ _ _ g)
  · omega
theorem ha12 {st sb : Nat → Int32} {τ β : Nat → Nat} (hc : TC st τ) (hcb : CB sb β) (hK : BK β) (hT : TK τ) {pe tu ca ho va : Nat → Int64} {ma ac : Nat → Int32} (hsb : SB τ β pe tu ca ho va ma ac) {r : Nat} (r1 : 1 ≤ r) (r2 : r < 128) (rd : dR r ≤ τ 0) : ∀ (i n x : Nat) (x2 s : Int64), x + i = dR r → Sx (lpX5_hedgedAlong_12 (nI r) st sb pe va ac (n + i + 2) x2 s (nI x)) (hq8 τ β (hgF τ β r i x (x2 - Int32.toInt64 (nI (cpF β x))) s)) := by
  have hd6 := (row_b1 r r2 r1).1.1
  have ha := hsb.a hT
  have step : ∀ (i n x : Nat) (x2 s : Int64), x ≤ dR r → A1 τ β (pfx r x) = 0 → lpX5_hedgedAlong_12 (nI r) st sb pe va ac (n + 1) x2 s (nI x) = lpX5_hedgedAlong_12 (nI r) st sb pe va ac n ((((x2 - Int32.toInt64 (nI (cpF β x))) - ((hv τ β (pfx r x) - s) * lN ((prF τ (τ 1)) (dR (pfx r x)) (uR (pfx r x)))) / 1000) * Int32.toInt64 (1000 + nI (τ 8))) / 1000) (hv τ β (pfx r x)) (nI (x + 1)) := by
    intro i n x x2 s hx g
    obtain ⟨g1, g2, g3⟩ := pf1 r r2 r1 x (by omega) hx
    have hdT : dR (pfx r x) < τ 0 := A1_T g (by omega)
    obtain ⟨a1, a2, a3⟩ := ha _ g2 g3 (by omega)
    have hr3 := row_T hT g2 g3 (by omega)
    rw [lpX5_hedgedAlong_12.eq_2, day8 r r2 r1, bd1_mk, if_neg (nI_nlt (by omega) (by omega)), rod8 r r2 r1 x (by omega) hx, bd1_mk, co8 hcb (by omega), bd1_mk, nm_mk, acA8 g2 g3, bd1_mk, a1, if_pos (by rw [g]; rfl), sw8 hc hT hsb g2 g3 hdT, bd1_mk, peA8 g2 g3, bd1_mk, nm_mk, show fX7_get 8 st = _ from gt7 hc (a := 8) (by omega), bd1_mk, nm_mk, nm_mk, nI_1, (hsb.1 _ g2 hr3).1]
  have stop : ∀ (n x : Nat) (x2 s : Int64), x ≤ dR r → A1 τ β (pfx r x) ≠ 0 → lpX5_hedgedAlong_12 (nI r) st sb pe va ac (n + 1) x2 s (nI x) = some (0, x2 - Int32.toInt64 (nI (cpF β x)), s, nI (pfx r x)) := by
    intro n x x2 s hx g
    obtain ⟨g1, g2, g3⟩ := pf1 r r2 r1 x (by omega) hx
    obtain ⟨a1, a2, a3⟩ := ha _ g2 g3 (by omega)
    rw [lpX5_hedgedAlong_12.eq_2, day8 r r2 r1, bd1_mk, if_neg (nI_nlt (by omega) (by omega)), rod8 r r2 r1 x (by omega) hx, bd1_mk, co8 hcb (by omega), bd1_mk, nm_mk, acA8 g2 g3, bd1_mk, a1, if_neg (nI_ne0 (by omega) (by have := a2.1; omega))]
  intro i
  induction i with
  | zero =>
    intro n x x2 s hi
    obtain ⟨g1, g2, g3⟩ := pf1 r r2 r1 x (by omega) (by omega)
    unfold hgF
    by_cases g : A1 τ β (pfx r x) = 0
    · rw [if_pos g, show n + 0 + 2 = (n + 1) + 1 by omega, step 0 (n + 1) x x2 s (by omega) g, lpX5_hedgedAlong_12.eq_2, day8 r r2 r1, bd1_mk, if_pos (nI_lt (by omega) (by omega))]
      exact Sx.mk (Or.inl ⟨rfl, rfl⟩)
    · rw [if_neg g, show n + 0 + 2 = (n + 1) + 1 by omega, stop (n + 1) x x2 s (by omega) g]
      exact Sx.mk (Or.inr ⟨rfl, pfx r x, g2, g3, by omega, g, rfl, rfl⟩)
  | succ i ih =>
    intro n x x2 s hi
    obtain ⟨g1, g2, g3⟩ := pf1 r r2 r1 x (by omega) (by omega)
    unfold hgF
    by_cases g : A1 τ β (pfx r x) = 0
    · rw [if_pos g, show n + (i + 1) + 2 = (n + i + 2) + 1 by omega, step i (n + i + 2) x x2 s (by omega) g]
      exact ih n (x + 1) _ _ (by omega)
    · rw [if_neg g, show n + (i + 1) + 2 = (n + i + 2) + 1 by omega, stop (n + i + 2) x x2 s (by omega) g]
      exact Sx.mk (Or.inr ⟨rfl, pfx r x, g2, g3, by omega, g, rfl, rfl⟩)
theorem hd37 {bs mv : Nat → Int32} {pe' wo ho : Nat → Int64} {ac : Nat → Int32} {τ β : Nat → Nat} {k : Nat} (hb : RB bs k β) (hK : BK β) (hT : TK τ) (hP : RP pe' (τ 0) (prF τ (τ 1))) (hG : GD (prF τ (τ 1)) (τ 0) (τ 6) (τ 7) (τ 8) β (fun _ _ _ _ => True) wo ho ac) {r : Nat} (r1 : 1 ≤ r) (r2 : r < 128) (rd : dR r ≤ τ 0) (hm : MV mv r) : ∀ (i n x : Nat) (c s : Int64), x + i = dR r → Sx (lpX9_hedged_37 (nI k) bs mv (nI (dR r)) (nI (τ 8)) pe' wo ac (n + i + 1) c s (nI x) (nI (dR (pfx r x))) (nI (uR (pfx r x))) (nI (bR (pfx r x))) (nI (mR (prF τ (τ 1)) β (pfx r x)))) (hq9 τ β (hgF τ β r i x c s)) := by
  have hd6 := (row_b1 r r2 r1).1.1
  have hp := prF_PK hT (show τ 1 ≤ 1000 by omega)
  have ha := hG.a
  intro i
  induction i with
  | zero =>
    intro n x c s hi
    obtain ⟨g1, g2, g3⟩ := pf1 r r2 r1 x (by omega) (by omega)
    have hl := aT_lt (prF τ (τ 1)) β g2 g3
    obtain ⟨a1, a2⟩ := ha _ g2 g3 (by omega)
    unfold hgF
    rw [lpX9_hedged_37.eq_2, hn9, bd1_mk, og32 hl (by omega), nI_clamp (by omega), a1]
    by_cases g : A1 τ β (pfx r x) = 0
    · rw [if_pos g, if_pos (by rw [g]; rfl), if_pos (by rw [show x = dR r by omega])]
      exact Sx.mk (Or.inl ⟨rfl, rfl⟩)
    · rw [if_neg g, if_neg (nI_ne0 (by omega) (by have := a2.1; omega))]
      exact Sx.mk (Or.inr ⟨rfl, pfx r x, g2, g3, by omega, g, rfl, rfl, rfl, rfl, rfl⟩)
  | succ i ih =>
    intro n x c s hi
    obtain ⟨g1, g2, g3⟩ := pf1 r r2 r1 x (by omega) (by omega)
    obtain ⟨n1, n2, n3⟩ := pf1 r r2 r1 (x + 1) (by omega) (by omega)
    obtain ⟨m1, m2⟩ := pf2 r r2 r1 x (by omega) (by omega)
    have hl := aT_lt (prF τ (τ 1)) β g2 g3
    obtain ⟨a1, a2⟩ := ha _ g2 g3 (by omega)
    obtain ⟨⟨b1, b2, _⟩, _⟩ := row_b1 _ g3 g2
    unfold hgF
    rw [lpX9_hedged_37.eq_2, hn9, bd1_mk, og32 hl (by omega), nI_clamp (by omega), a1]
    by_cases g : A1 τ β (pfx r x) = 0
    · have hdT : dR (pfx r x) < τ 0 := A1_T g (by omega)
      rw [if_pos g, if_pos (by rw [g]; rfl), if_neg (fun z => by have := (nI_eq (by omega) (by omega)).mp z; omega), ri9 hT hP g2 g3 hdT, bd1_mk]
      have ehv : (if rW τ (pfx r x) = 0 then some (0 : Int64) else bd1 (fX9_heldOf (nI k) bs pe' wo (nI (dR (pfx r x))) (nI (uR (pfx r x))) (nI (bR (pfx r x))) (nI (mR (prF τ (τ 1)) β (pfx r x)))) (fun r67 => some r67)) = some (if rW τ (pfx r x) = 0 then 0 else rQ τ β (pfx r x)) := by
        by_cases w : rW τ (pfx r x) = 0
        · rw [if_pos w, if_pos w]
        · rw [if_neg w, if_neg w, ho9' hb hK hT hP hG g2 g3 hdT w, bd1_mk]
      have ecl : ∀ j : Int64, (if j ≤ 100000 then if (-100000) ≤ j then some (j) else some ((-100000)) else some (100000)) = some (clp j) := by
        intro j
        unfold clp
        by_cases u : j ≤ 100000
        · rw [if_pos u, if_pos u]
          by_cases v : (-100000) ≤ j
          · rw [if_pos v, if_pos v]
          · rw [if_neg v, if_neg v]
        · rw [if_neg u, if_neg u]
      have e2 : clp (if rW τ (pfx r x) = 0 then 0 else rQ τ β (pfx r x)) = hv τ β (pfx r x) := by
        unfold hv
        by_cases w : rW τ (pfx r x) = 0
        · rw [if_pos w, if_pos w]; rfl
        · rw [if_neg w, if_neg w]
      rw [ehv, bd1_mk, ecl, bd1_mk, e2, i_7, pk_mul, nI_add, og32 (by omega) (by omega), nm_mk, nm_mk, og32 (by omega) (by omega), nI_clamp (n := x) (by omega), hm x (by omega), go9 hb hK hp hP (by omega) g2 m2 (by omega) hdT, bd4_mk, ← m1, n1, cp9 hb (by omega), bd1_mk, nm_mk, nm_mk, nI_1, nI_clamp (by omega), hP _ _ b2 (by omega), show n + (i + 1) = n + i + 1 by omega]
      have := ih n (x + 1) (((c - ((hv τ β (pfx r x) - s) * lN ((prF τ (τ 1)) (dR (pfx r x)) (uR (pfx r x)))) / 1000) * Int32.toInt64 (1000 + nI (τ 8))) / 1000 - Int32.toInt64 (nI (cpF β (x + 1)))) (hv τ β (pfx r x)) (by omega)
      rw [n1] at this
      exact this
    · rw [if_neg g, if_neg (nI_ne0 (by omega) (by have := a2.1; omega))]
      exact Sx.mk (Or.inr ⟨rfl, pfx r x, g2, g3, by omega, g, rfl, rfl, rfl, rfl, rfl⟩)
theorem q_hedged {tr b0 b1 b2 tree bs : Nat → Int32} {τ : Nat → Nat} {B : Nat → Nat → Nat} (hf : TC tr τ) (hf9 : TR tree 0 τ) (hT : TK τ) (hB : CB3 b0 b1 b2 B) (hb9 : ∀ k, k < 3 → RB bs k (B k)) {row moved : Int32} {mv : Nat → Int32} (hQ : PQ τ row mv moved) (p1 : Int32) (st sb : Nat → Int32) (pu pe tu ca ho va : Nat → Int64) (ma ac : Nat → Int32) (x0 x1 x2 x3 : Int32) (pe9 : Nat → Int64) (a9 b9 : Int64) (wo9 ho9 : Nat → Int64) (ac9 : Nat → Int32) (s1 s2 s3 s4 : Int32) : Sx2 (fX8_hedged p1 row tr b0 b1 b2 st sb pu pe tu ca ho va ma ac) (fX9_hedged p1 tree bs mv moved x0 x1 x2 x3 pe9 a9 b9 wo9 ho9 ac9 s1 s2 s3 s4) (fun _ _ => True) := by
  by_cases h1 : inr p1 0 2
  rotate_left
  · exact Sx2.mk (by unfold fX8_hedged; rw [isb8n h1, bd1_mk, if_pos rfl]) (by unfold fX9_hedged; rw [isb9n h1, bd1_mk, if_pos rfl]) (trivial)
  obtain ⟨k, rfl, _, hk, _⟩ := inr_n h1 (by decide)
  have hk3 : k < 3 := by omega
  have hp := prF_PK hT (show τ 1 ≤ 1000 by omega)
  obtain ⟨r, r1, r2, rd, rfl, rfl, hm⟩ := hQ
  have r3 := row_T hT r1 r2 rd
  have hl := aT_lt (prF τ (τ 1)) (B k) r1 r2
  have hd6 := (row_b1 r r2 r1).1.1
  obtain ⟨n, hn⟩ := fuN (dR r + 2) (by omega)
  have hb := hb9 k hk3
  have hK := (hB k hk3).2
  refine Sx2.val (v := hgF τ (B k) r (dR r) 0 (lN (V1 τ (B k))) 0) ?_ ?_
  · unfold fX8_hedged
    rw [isb8y h1, bd1_mk, if_neg one0]
    refine Sx.b10 (wo8 hk3 hf hT hB st sb pu pe tu ca ho va ma ac) ?_
    rintro c0 c1 c2 c3 c4 c5 c6 c7 c8 c9 ⟨hc, hcb, hsb⟩
    dsimp only at hc hcb hsb ⊢
    unfold fX5_hedgedAlong
    rw [root8 hsb, bd1_mk, hn, i_0, show n + (dR r + 2) = n + dR r + 2 by omega]
    have h := ha12 hc hcb hK hT hsb r1 r2 rd (dR r) n 0 (lN (V1 τ (B k))) 0 (by omega)
    rw [show lN (V1 τ (B k)) - Int32.toInt64 (nI (cpF (B k) 0)) = lN (V1 τ (B k)) by rw [show cpF (B k) 0 = 0 from if_neg (by omega)]; exact Int64.sub_zero _] at h
    refine Sx.b1 (P := fun z => z = hgF τ (B k) r (dR r) 0 (lN (V1 τ (B k))) 0) (Sx.b4 h ?_) (fun z hz => Sx.mk hz)
    rintro z0 z1 z2 z3 (⟨rfl, hH⟩ | ⟨rfl, e, e1, e2, ed, eA, rfl, hH⟩)
    · rw [if_neg (by decide)]
      exact Sx.mk hH.symm
    · obtain ⟨a1, a2, a3⟩ := hsb.a hT e e1 e2 ed
      have er := row_T hT e1 e2 ed
      dsimp only at hH
      rw [if_pos rfl, peA8 e1 e2, bd1_mk, pba8 hcb hK e1 e2 a1 a3 a2, bd1_mk, (hsb.1 e e1 er).1]
      exact Sx.mk hH.symm
  · unfold fX9_hedged
    rw [isb9y h1, bd1_mk, if_neg one0]
    refine Sx.b10 (pn9 hf9 hT hk3 (hb9 k hk3) (hB k hk3).2 x0 x1 x2 x3 pe9 a9 b9 wo9 ho9 ac9) ?_
    rintro d0 d1 d2 d3 pe' d5 d6 d7 d8 d9 ⟨rfl, rfl, rfl, rfl, hP, hG⟩
    dsimp only at hP hG ⊢
    have l1 := aT_lt (prF τ (τ 1)) (B k) (r := 1) (by omega) (by omega)
    have v1 := (GD.r hG (r := 1) (by omega) (by omega) (Nat.zero_le _)).1
    rw [sta9 hb hK hp hP (by omega), bd4_mk, hn9, bd1_mk, og32 l1 (by omega), nm_mk, nI_clamp (by omega), v1, vR_1, hn, i_0, show n + (dR r + 2) = (n + 1) + dR r + 1 by omega]
    have h := hd37 hb hK hT hP hG r1 r2 rd hm (dR r) (n + 1) 0 (lN (V1 τ (B k))) 0 (by omega)
    rw [pf0 r r2 r1] at h
    refine Sx.b7 h ?_
    rintro z0 z1 z2 z3 z4 z5 z6 (⟨rfl, hH⟩ | ⟨rfl, e, e1, e2, ed, eA, rfl, rfl, rfl, rfl, hH⟩)
    · rw [if_pos rfl]
      exact Sx.mk ⟨hH.symm, trivial⟩
    · obtain ⟨a1, a2⟩ := hG.a e e1 e2 ed
      have hl2 := aT_lt (prF τ (τ 1)) (B k) e1 e2
      obtain ⟨⟨b1, b2, _⟩, _⟩ := row_b1 e e2 e1
      dsimp only at hH
      rw [if_neg (by decide), i_7, pk_mul, nI_add, og32 (by omega) (by omega), hn9, bd1_mk, og32 hl2 (by omega), nI_clamp (by omega), a1, py9 hb hK hp hP (by omega) e1 e2 ed a2 eA, bd1_mk, nI_clamp (by omega), hP _ _ b2 ed]
      exact Sx.mk ⟨hH.symm, trivial⟩
end
