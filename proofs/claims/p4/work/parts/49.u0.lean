/-! pure: calls on the tree and the small ones, both sides (own rows) -/
abbrev FrT (f g : Nat → Int32) : Prop := ∀ y, 9 ≤ y → g y = f y
theorem FrT.up {f : Nat → Int32} {a : Nat} (ha : a < 9) (v : Int32) : FrT f (upd f a v) := by
  intro y hy
  rw [upS, if_neg (by omega)]
theorem FrT.tr {a b c : Nat → Int32} (h : FrT a b) (g : FrT b c) : FrT a c := fun y hy => (g y hy).trans (h y hy)
theorem TR.up {f : Nat → Int32} {τ : Nat → Nat} (h : TR f 0 τ) (a x : Nat) : TR (upd f a (nI x)) 0 (bup τ a x) := by
  intro i hi
  have g := h i hi
  rw [Nat.zero_add] at g ⊢
  rw [upS]
  unfold bup
  by_cases e : i = a
  · rw [if_pos e, if_pos e]
  · rw [if_neg e, if_neg e]; exact g
/-- what is left of the tree -/
abbrev TQ8 (τ : Nat → Nat) (tree : Nat → Int32) (s t : Nat → Int32) : Prop := ∃ τ' : Nat → Nat, TC s τ' ∧ TR t 0 τ' ∧ TK τ' ∧ τ' 0 = τ 0 ∧ FrT tree t
abbrev TCT (tr tree : Nat → Int32) (τ : Nat → Nat) : Prop := TC tr τ ∧ TR tree 0 τ ∧ TK τ
theorem TQ8.self {tr tree : Nat → Int32} {τ : Nat → Nat} (h : TCT tr tree τ) : TQ8 τ tree tr tree := ⟨τ, h.1, h.2.1, h.2.2, rfl, fun _ _ => rfl⟩
theorem PQ.one {τ : Nat → Nat} {mv : Nat → Int32} : PQ τ 1 mv 0 := ⟨1, Nat.le_refl 1, by omega, Nat.zero_le _, rfl, rfl, fun i hi => absurd hi (Nat.not_lt_zero i)⟩
theorem q_tree {tr tree : Nat → Int32} {τ : Nat → Nat} (h : TCT tr tree τ) {row moved : Int32} {mv : Nat → Int32} (hP : PQ τ row mv moved) (p1 p2 : Int32) : Sx2 (fX8_tree p1 p2 row tr) (fX9_tree p1 p2 tree moved) (fun s t => ∃ τ' : Nat → Nat, TC s.2 τ' ∧ TR t.1 0 τ' ∧ TK τ' ∧ PQ τ' s.1 mv t.2 ∧ FrT tree t.1) := by
  by_cases h1 : inr p1 1 6
  rotate_left
  · exact Sx2.mk (by unfold fX8_tree; rw [wi0 h1, bd1_mk, if_pos rfl]) (by unfold fX9_tree; rw [in0 h1, bd1_mk, if_pos rfl]) (⟨τ, h.1, h.2.1, h.2.2, hP, fun _ _ => rfl⟩)
  by_cases h2 : inr p2 1 1000
  rotate_left
  · exact Sx2.mk (by unfold fX8_tree; rw [wi1 h1, bd1_mk, if_neg one0, isS8n h2, bd1_mk, if_pos rfl]) (by unfold fX9_tree; rw [in1 h1, bd1_mk, if_neg one0, in0 h2, bd1_mk, if_pos rfl]) (⟨τ, h.1, h.2.1, h.2.2, hP, fun _ _ => rfl⟩)
  obtain ⟨n, rfl, na, nb, nc⟩ := inr_n h1 (by decide)
  obtain ⟨m, rfl, ma, mb, mc⟩ := inr_n h2 (by decide)
  obtain ⟨⟨t1, t2⟩, ⟨t3, t4⟩, ⟨⟨t5, t6⟩, ⟨t7, t8⟩, ⟨t9, t10⟩, t11, t12⟩, ⟨t13, t14, t15⟩, t16⟩ := h.2.2
  exact Sx2.mk (r := 1) (s1 := (1, upd (upd tr 0 (nI n)) 1 (nI m))) (s2 := (upd (upd tree 0 (nI n)) 1 (nI m), 0)) (by
    unfold fX8_tree
    rw [wi1 h1, bd1_mk, if_neg one0, isS8y h2, bd1_mk, if_neg one0, show fX7_set 0 (nI n) (tr) = _ from st7 (a := 0) (by omega) _ _, bd1_mk, show fX7_set 1 (nI m) (upd tr 0 (nI n)) = _ from st7 (a := 1) (by omega) _ _, bd1_mk]) (by
    unfold fX9_tree
    rw [in1 h1, bd1_mk, if_neg one0, in1 h2, bd1_mk, if_neg one0, nm_mk, nm_mk]
    rfl) ⟨bup (bup τ 0 n) 1 m, (h.1.up 0 n).up 1 m, (TR.up h.2.1 0 n).up 1 m, by show (1 ≤ n ∧ n ≤ 6) ∧ (1 ≤ m ∧ m ≤ 1000) ∧ ((1 ≤ τ 2 ∧ τ 2 ≤ 20) ∧ (1 ≤ τ 3 ∧ τ 3 ≤ 20) ∧ (1 ≤ τ 4 ∧ τ 4 ≤ 20) ∧ (1 ≤ τ 5 ∧ τ 5 ≤ 20)) ∧ (1 ≤ τ 6 ∧ τ 6 < τ 7 ∧ τ 7 ≤ 20) ∧ τ 8 ≤ 200; omega, PQ.one, (FrT.up (by omega) _).tr (FrT.up (by omega) _)⟩
theorem q_move {tr tree : Nat → Int32} {τ : Nat → Nat} (h : TCT tr tree τ) (p1 p2 p3 : Int32) : Sx2 (fX8_move p1 p2 p3 tr) (fX9_move p1 p2 p3 tree) (fun s t => TQ8 τ tree s t) := by
  by_cases h1 : inr p2 1 20
  rotate_left
  · exact Sx2.mk (by unfold fX8_move; rw [wi0 h1, bd1_mk, if_pos rfl]) (by unfold fX9_move; rw [in0 h1, bd1_mk, if_pos rfl]) (TQ8.self h)
  by_cases h2 : inr p3 1 20
  rotate_left
  · exact Sx2.mk (by unfold fX8_move; rw [wi1 h1, bd1_mk, if_neg one0, wi0 h2, bd1_mk, if_pos rfl]) (by unfold fX9_move; rw [in1 h1, bd1_mk, if_neg one0, in0 h2, bd1_mk, if_pos rfl]) (TQ8.self h)
  obtain ⟨n, rfl, na, nb, nc⟩ := inr_n h1 (by decide)
  obtain ⟨m, rfl, ma, mb, mc⟩ := inr_n h2 (by decide)
  obtain ⟨⟨t1, t2⟩, ⟨t3, t4⟩, ⟨⟨t5, t6⟩, ⟨t7, t8⟩, ⟨t9, t10⟩, t11, t12⟩, ⟨t13, t14, t15⟩, t16⟩ := h.2.2
  by_cases g : p1 = 0
  · exact Sx2.mk (r := 1) (s1 := upd (upd tr 4 (nI n)) 5 (nI m)) (s2 := upd (upd tree 4 (nI n)) 5 (nI m)) (by
      unfold fX8_move
      rw [wi1 h1, bd1_mk, if_neg one0, wi1 h2, bd1_mk, if_neg one0, if_pos g, bd1_mk, show fX7_set 4 (nI n) (tr) = _ from st7 (a := 4) (by omega) _ _, bd1_mk, if_pos g, bd1_mk, show fX7_set 5 (nI m) (upd tr 4 (nI n)) = _ from st7 (a := 5) (by omega) _ _, bd1_mk]) (by
      unfold fX9_move
      rw [in1 h1, bd1_mk, if_neg one0, in1 h2, bd1_mk, if_neg one0, if_pos g, bd1_mk, og_mk _ (by decide), nm_mk, og_mk _ (by decide), nm_mk]
      rfl) ⟨bup (bup τ 4 n) 5 m, (h.1.up 4 n).up 5 m, (TR.up h.2.1 4 n).up 5 m, by show (1 ≤ τ 0 ∧ τ 0 ≤ 6) ∧ (1 ≤ τ 1 ∧ τ 1 ≤ 1000) ∧ ((1 ≤ τ 2 ∧ τ 2 ≤ 20) ∧ (1 ≤ τ 3 ∧ τ 3 ≤ 20) ∧ (1 ≤ n ∧ n ≤ 20) ∧ (1 ≤ m ∧ m ≤ 20)) ∧ (1 ≤ τ 6 ∧ τ 6 < τ 7 ∧ τ 7 ≤ 20) ∧ τ 8 ≤ 200; omega, rfl, (FrT.up (by omega) _).tr (FrT.up (by omega) _)⟩
  · exact Sx2.mk (r := 1) (s1 := upd (upd tr 2 (nI n)) 3 (nI m)) (s2 := upd (upd tree 2 (nI n)) 3 (nI m)) (by
      unfold fX8_move
      rw [wi1 h1, bd1_mk, if_neg one0, wi1 h2, bd1_mk, if_neg one0, if_neg g, bd1_mk, show fX7_set 2 (nI n) (tr) = _ from st7 (a := 2) (by omega) _ _, bd1_mk, if_neg g, bd1_mk, show fX7_set 3 (nI m) (upd tr 2 (nI n)) = _ from st7 (a := 3) (by omega) _ _, bd1_mk]) (by
      unfold fX9_move
      rw [in1 h1, bd1_mk, if_neg one0, in1 h2, bd1_mk, if_neg one0, if_neg g, bd1_mk, og_mk _ (by decide), nm_mk, og_mk _ (by decide), nm_mk]
      rfl) ⟨bup (bup τ 2 n) 3 m, (h.1.up 2 n).up 3 m, (TR.up h.2.1 2 n).up 3 m, by show (1 ≤ τ 0 ∧ τ 0 ≤ 6) ∧ (1 ≤ τ 1 ∧ τ 1 ≤ 1000) ∧ ((1 ≤ n ∧ n ≤ 20) ∧ (1 ≤ m ∧ m ≤ 20) ∧ (1 ≤ τ 4 ∧ τ 4 ≤ 20) ∧ (1 ≤ τ 5 ∧ τ 5 ≤ 20)) ∧ (1 ≤ τ 6 ∧ τ 6 < τ 7 ∧ τ 7 ≤ 20) ∧ τ 8 ≤ 200; omega, rfl, (FrT.up (by omega) _).tr (FrT.up (by omega) _)⟩
theorem q_chance {tr tree : Nat → Int32} {τ : Nat → Nat} (h : TCT tr tree τ) (p1 p2 : Int32) : Sx2 (fX8_chance p1 p2 tr) (fX9_chance p1 p2 tree) (fun s t => TQ8 τ tree s t) := by
  by_cases h1 : chP p1 p2
  rotate_left
  · exact Sx2.mk (by unfold fX8_chance; rw [isC8n h1, bd1_mk, if_pos rfl]) (by unfold fX9_chance; rw [isC9n h1, bd1_mk, if_pos rfl]) (TQ8.self h)
  have h1' := h1
  obtain ⟨n, m, rfl, rfl, n1, n2, n3⟩ := chN h1
  obtain ⟨⟨t1, t2⟩, ⟨t3, t4⟩, ⟨⟨t5, t6⟩, ⟨t7, t8⟩, ⟨t9, t10⟩, t11, t12⟩, ⟨t13, t14, t15⟩, t16⟩ := h.2.2
  exact Sx2.mk (r := 1) (s1 := upd (upd tr 6 (nI n)) 7 (nI m)) (s2 := upd (upd tree 6 (nI n)) 7 (nI m)) (by
    unfold fX8_chance
    rw [isC8y h1', bd1_mk, if_neg one0, show fX7_set 6 (nI n) (tr) = _ from st7 (a := 6) (by omega) _ _, bd1_mk, show fX7_set 7 (nI m) (upd tr 6 (nI n)) = _ from st7 (a := 7) (by omega) _ _, bd1_mk]) (by
    unfold fX9_chance
    rw [isC9y h1', bd1_mk, if_neg one0, nm_mk, nm_mk]
    rfl) ⟨bup (bup τ 6 n) 7 m, (h.1.up 6 n).up 7 m, (TR.up h.2.1 6 n).up 7 m, by show (1 ≤ τ 0 ∧ τ 0 ≤ 6) ∧ (1 ≤ τ 1 ∧ τ 1 ≤ 1000) ∧ ((1 ≤ τ 2 ∧ τ 2 ≤ 20) ∧ (1 ≤ τ 3 ∧ τ 3 ≤ 20) ∧ (1 ≤ τ 4 ∧ τ 4 ≤ 20) ∧ (1 ≤ τ 5 ∧ τ 5 ≤ 20)) ∧ (1 ≤ n ∧ n < m ∧ m ≤ 20) ∧ τ 8 ≤ 200; omega, rfl, (FrT.up (by omega) _).tr (FrT.up (by omega) _)⟩
theorem q_rate {tr tree : Nat → Int32} {τ : Nat → Nat} (h : TCT tr tree τ) (p1 : Int32) : Sx2 (fX8_rate p1 tr) (fX9_rate p1 tree) (fun s t => TQ8 τ tree s t) := by
  by_cases h1 : inr p1 0 200
  rotate_left
  · exact Sx2.mk (by unfold fX8_rate; rw [wi0 h1, bd1_mk, if_pos rfl]) (by unfold fX9_rate; rw [in0 h1, bd1_mk, if_pos rfl]) (TQ8.self h)
  obtain ⟨n, rfl, na, nb, nc⟩ := inr_n h1 (by decide)
  obtain ⟨⟨t1, t2⟩, ⟨t3, t4⟩, ⟨⟨t5, t6⟩, ⟨t7, t8⟩, ⟨t9, t10⟩, t11, t12⟩, ⟨t13, t14, t15⟩, t16⟩ := h.2.2
  exact Sx2.mk (r := nI (τ 8)) (s1 := upd tr 8 (nI n)) (s2 := upd tree 8 (nI n)) (by
    unfold fX8_rate
    rw [wi1 h1, bd1_mk, if_neg one0, show fX7_get 8 tr = _ from gt7 h.1 (a := 8) (by omega), bd1_mk, show fX7_set 8 (nI n) (tr) = _ from st7 (a := 8) (by omega) _ _, bd1_mk]) (by
    unfold fX9_rate
    rw [in1 h1, bd1_mk, if_neg one0, nm_mk, nm_mk, show tree (Int32.toNatClampNeg 8) = _ from tr0 h.2.1 (i := 8) (by omega)]
    rfl) ⟨bup τ 8 n, h.1.up 8 n, TR.up h.2.1 8 n, by show (1 ≤ τ 0 ∧ τ 0 ≤ 6) ∧ (1 ≤ τ 1 ∧ τ 1 ≤ 1000) ∧ ((1 ≤ τ 2 ∧ τ 2 ≤ 20) ∧ (1 ≤ τ 3 ∧ τ 3 ≤ 20) ∧ (1 ≤ τ 4 ∧ τ 4 ≤ 20) ∧ (1 ≤ τ 5 ∧ τ 5 ≤ 20)) ∧ (1 ≤ τ 6 ∧ τ 6 < τ 7 ∧ τ 7 ≤ 20) ∧ n ≤ 200; omega, rfl, FrT.up (by omega) _⟩
theorem iff_b {n : Nat} (hn : n < 64) (A B : Nat) (h : A ≤ n ∧ n ≤ B) : inr (nI n) A B := (inr_nI (by omega)).mpr ⟨by omega, by omega⟩
theorem iff_f {n : Nat} (hn : n < 64) (A B : Nat) (h : ¬ (A ≤ n ∧ n ≤ B)) : ¬ inr (nI n) A B := fun q => h (by have := (inr_nI (by omega)).mp q; omega)
def hT9 (n : Nat) : Bool := n ≤ 7 || (11 ≤ n && n ≤ 16) || (20 ≤ n && n ≤ 25) || (30 ≤ n && n ≤ 35)
theorem hT_1 : ∀ n, n < 36 → hT9 n = true → fX0_hasTerm (nI n) = some 1 ∧ ∃ i, i < 27 ∧ i ≠ 2 ∧ cI i = n := by decide +kernel
theorem hT_0 : ∀ n, n < 36 → hT9 n = false → fX0_hasTerm (nI n) = some 0 := by decide +kernel
theorem hT_x {x : Int32} (h : ¬ inr x 0 35) : fX0_hasTerm x = some 0 := by
  unfold fX0_hasTerm
  rw [wi0 (fun q : inr x 0 7 => h ⟨q.1, by have := q.2; omega⟩), bd1_mk, if_pos rfl, wi0 (fun q : inr x 11 16 => h ⟨by have := q.1; omega, by have := q.2; omega⟩), bd1_mk, if_pos rfl, wi0 (fun q : inr x 20 25 => h ⟨by have := q.1; omega, by have := q.2; omega⟩), bd1_mk, if_pos rfl, wi0 (fun q : inr x 30 35 => h ⟨by have := q.1; omega, q.2⟩), bd1_mk, if_pos rfl, bd1_mk]
  rfl
theorem to9x {k : Nat} (hk : k < 3) {x : Int32} (bs : Nat → Int32) (h : ¬ inr x 0 35) : fX9_told (nI k) x bs = some (-1) := by
  unfold fX9_told
  rw [isb9' hk, bd1_mk, if_neg one0, in0 (fun q : inr x 0 1 => h ⟨by have := q.1; omega, by have := q.2; omega⟩), bd1_mk, if_pos rfl, in0 (fun q : inr x 2 3 => h ⟨by have := q.1; omega, by have := q.2; omega⟩), bd1_mk, if_pos rfl, in0 (fun q : inr x 4 7 => h ⟨by have := q.1; omega, by have := q.2; omega⟩), bd1_mk, if_pos rfl, in0 (fun q : inr x 11 16 => h ⟨by have := q.1; omega, by have := q.2; omega⟩), bd1_mk, if_pos rfl, in0 (fun q : inr x 20 25 => h ⟨by have := q.1; omega, by have := q.2; omega⟩), bd1_mk, if_pos rfl, in0 (fun q : inr x 30 35 => h ⟨by have := q.1; omega, by have := q.2; omega⟩), bd1_mk, if_pos rfl, bd1_mk]
theorem to9f {k : Nat} (hk : k < 3) {n : Nat} (hn : n < 36) (bs : Nat → Int32) (h : hT9 n = false) : fX9_told (nI k) (nI n) bs = some (-1) := by
  have hh : ¬ n ≤ 7 ∧ ¬ (11 ≤ n ∧ n ≤ 16) ∧ ¬ (20 ≤ n ∧ n ≤ 25) ∧ ¬ (30 ≤ n ∧ n ≤ 35) := by
    revert h; revert n; decide +kernel
  unfold fX9_told
  rw [isb9' hk, bd1_mk, if_neg one0, in0 (iff_f (n := n) (by omega) 0 1 (by omega)), bd1_mk, if_pos rfl, in0 (iff_f (n := n) (by omega) 2 3 (by omega)), bd1_mk, if_pos rfl, in0 (iff_f (n := n) (by omega) 4 7 (by omega)), bd1_mk, if_pos rfl, in0 (iff_f (n := n) (by omega) 11 16 (by omega)), bd1_mk, if_pos rfl, in0 (iff_f (n := n) (by omega) 20 25 (by omega)), bd1_mk, if_pos rfl, in0 (iff_f (n := n) (by omega) 30 35 (by omega)), bd1_mk, if_pos rfl, bd1_mk]
theorem nI_n2 (A n S i : Nat) (h : A + n = i + S) (hn : n < 64) {a s : Int32} (ha : a = nI A := by rfl) (hs : s = nI S := by rfl) : (a + nI n) - s = nI i := by
  subst ha hs
  rw [nI_add, h, pk_sub (by omega), Nat.add_sub_cancel]
theorem cI_r (i : Nat) (hi : i < 27) : (i < 2 → cI i = i) ∧ (2 ≤ i → i < 9 → cI i = 8 + i) ∧ (9 ≤ i → i < 15 → cI i = 11 + i) ∧ (15 ≤ i → i < 21 → cI i = 15 + i) ∧ (21 ≤ i → cI i = i - 19) := by
  revert hi; revert i; decide +kernel
theorem to9y {bs : Nat → Int32} {k : Nat} {β : Nat → Nat} (hb : RB bs k β) (hk : k < 3) (hK : BK β) {i : Nat} (hi : i < 27) (h2 : i ≠ 2) : fX9_told (nI k) (nI (cI i)) bs = some (eI β i) := by
  have hc : ∀ t, 9 ≤ t → t < 21 → β t < 2 ^ 31 := by
    intro t a b
    by_cases q : t < 15
    · have := hK.2.2.2.1 (t - 9) (by omega); rw [show 9 + (t - 9) = t by omega] at this; omega
    · have := hK.2.2.2.2.1 (t - 15) (by omega); rw [show 15 + (t - 15) = t by omega] at this; omega
  unfold fX9_told
  rcases (show i ≤ 1 ∨ (21 ≤ i ∧ i ≤ 22) ∨ (23 ≤ i ∧ i ≤ 26) ∨ (3 ≤ i ∧ i ≤ 8) ∨ (9 ≤ i ∧ i ≤ 14) ∨ (15 ≤ i ∧ i ≤ 20) by omega) with g | g | g | g | g | g
  · have ec : cI i = i := by have := cI_r i hi; omega
    rw [ec, isb9' hk, bd1_mk, if_neg one0, in1 (iff_b (n := i) (by omega) 0 1 (by omega)), bd1_mk, if_neg one0, of9 hb (by omega), bd1_mk, rI_n (by omega), eI_n (by omega)]
  · have ec : cI i = i - 19 := by have := cI_r i hi; omega
    rw [ec, isb9' hk, bd1_mk, if_neg one0, in0 (iff_f (n := i - 19) (by omega) 0 1 (by omega)), bd1_mk, if_pos rfl, in1 (iff_b (n := i - 19) (by omega) 2 3 (by omega)), bd1_mk, if_neg one0, nI_n2 21 (i - 19) 2 i (by omega) (by omega), of9 hb (by omega), bd1_mk, rI_n (by omega), eI_n (by omega)]
  · have ec : cI i = i - 19 := by have := cI_r i hi; omega
    rw [ec, isb9' hk, bd1_mk, if_neg one0, in0 (iff_f (n := i - 19) (by omega) 0 1 (by omega)), bd1_mk, if_pos rfl, in0 (iff_f (n := i - 19) (by omega) 2 3 (by omega)), bd1_mk, if_pos rfl, in1 (iff_b (n := i - 19) (by omega) 4 7 (by omega)), bd1_mk, if_neg one0, nI_n2 23 (i - 19) 4 i (by omega) (by omega), of9 hb (by omega), bd1_mk, rI_n (by omega), eI_n (by omega)]
  · have ec : cI i = 8 + i := by have := cI_r i hi; omega
    rw [ec, isb9' hk, bd1_mk, if_neg one0, in0 (iff_f (n := 8 + i) (by omega) 0 1 (by omega)), bd1_mk, if_pos rfl, in0 (iff_f (n := 8 + i) (by omega) 2 3 (by omega)), bd1_mk, if_pos rfl, in0 (iff_f (n := 8 + i) (by omega) 4 7 (by omega)), bd1_mk, if_pos rfl, in1 (iff_b (n := 8 + i) (by omega) 11 16 (by omega)), bd1_mk, if_neg one0, nI_n2 2 (8 + i) 10 i (by omega) (by omega), of9 hb (by omega), bd1_mk, rI_n (by omega), eI_n (by omega)]
  · have ec : cI i = 11 + i := by have := cI_r i hi; omega
    rw [ec, isb9' hk, bd1_mk, if_neg one0, in0 (iff_f (n := 11 + i) (by omega) 0 1 (by omega)), bd1_mk, if_pos rfl, in0 (iff_f (n := 11 + i) (by omega) 2 3 (by omega)), bd1_mk, if_pos rfl, in0 (iff_f (n := 11 + i) (by omega) 4 7 (by omega)), bd1_mk, if_pos rfl, in0 (iff_f (n := 11 + i) (by omega) 11 16 (by omega)), bd1_mk, if_pos rfl, in1 (iff_b (n := 11 + i) (by omega) 20 25 (by omega)), bd1_mk, if_neg one0, nI_n2 9 (11 + i) 20 i (by omega) (by omega), of9 hb (by omega), bd1_mk, rI_m (by omega), eI_c (by omega), td9 (hc i (by omega) (by omega)), bd1_mk]
  · have ec : cI i = 15 + i := by have := cI_r i hi; omega
    rw [ec, isb9' hk, bd1_mk, if_neg one0, in0 (iff_f (n := 15 + i) (by omega) 0 1 (by omega)), bd1_mk, if_pos rfl, in0 (iff_f (n := 15 + i) (by omega) 2 3 (by omega)), bd1_mk, if_pos rfl, in0 (iff_f (n := 15 + i) (by omega) 4 7 (by omega)), bd1_mk, if_pos rfl, in0 (iff_f (n := 15 + i) (by omega) 11 16 (by omega)), bd1_mk, if_pos rfl, in0 (iff_f (n := 15 + i) (by omega) 20 25 (by omega)), bd1_mk, if_pos rfl, in1 (iff_b (n := 15 + i) (by omega) 30 35 (by omega)), bd1_mk, if_neg one0, nI_n2 15 (15 + i) 30 i (by omega) (by omega), of9 hb (by omega), bd1_mk, rI_m (by omega), eI_c (by omega), td9 (hc i (by omega) (by omega)), bd1_mk, bd1_mk]
theorem q_told {b0 b1 b2 bs : Nat → Int32} {B : Nat → Nat → Nat} (h : BCT b0 b1 b2 bs B) (p1 p2 : Int32) : ∃ r, fX8_told p1 p2 b0 b1 b2 = some r ∧ fX9_told p1 p2 bs = some r := by
  by_cases h1 : inr p1 0 2
  rotate_left
  · exact ⟨-1, by unfold fX8_told; rw [isb8n h1, bd1_mk, if_pos rfl], by unfold fX9_told; rw [isb9n h1, bd1_mk, if_pos rfl]⟩
  have h1' := h1
  obtain ⟨k, rfl, ka, kb, kc⟩ := inr_n h1 (by decide)
  have hk : k < 3 := by omega
  by_cases h2 : inr p2 0 35
  rotate_left
  · exact ⟨-1, by unfold fX8_told; rw [isb8y h1', bd1_mk, if_neg one0, hT_x h2, bd1_mk, if_pos rfl], to9x hk bs h2⟩
  obtain ⟨n, rfl, na, nb, nc⟩ := inr_n h2 (by decide)
  have hn : n < 36 := by omega
  cases g : hT9 n with
  | false => exact ⟨-1, by unfold fX8_told; rw [isb8y h1', bd1_mk, if_neg one0, hT_0 n hn g, bd1_mk, if_pos rfl], to9f hk hn bs g⟩
  | true =>
    obtain ⟨g1, i, hi, h2i, rfl⟩ := hT_1 n hn g
    exact ⟨eI (B k) i, by unfold fX8_told; rw [isb8y h1', bd1_mk, if_neg one0, g1, bd1_mk, if_neg one0, og32 hk (by omega), gs8 hk hn, bd1_mk, (h.1 k hk).1.u i hi h2i], to9y (h.2 k hk) hk (h.1 k hk).2 hi h2i⟩
theorem q_copy {b0 b1 b2 bs : Nat → Int32} {B : Nat → Nat → Nat} (h : BCT b0 b1 b2 bs B) (p1 p2 : Int32) : Sx2 (fX8_copy p1 p2 b0 b1 b2) (fX9_copy p1 p2 bs) (fun s t => BQ bs s.1 s.2.1 s.2.2 t) := by
  by_cases h1 : inr p1 0 2
  rotate_left
  · exact Sx2.mk (by unfold fX8_copy; rw [isb8n h1, bd1_mk, if_pos rfl]) (by unfold fX9_copy; rw [isb9n h1, bd1_mk, if_pos rfl]) (BQ.self h)
  by_cases h2 : inr p2 0 2
  rotate_left
  · exact Sx2.mk (by unfold fX8_copy; rw [isb8y h1, bd1_mk, if_neg one0, isb8n h2, bd1_mk, if_pos rfl]) (by unfold fX9_copy; rw [isb9y h1, bd1_mk, if_neg one0, isb9n h2, bd1_mk, if_pos rfl]) (BQ.self h)
  by_cases h3 : p1 = p2
  · exact Sx2.mk (by unfold fX8_copy; rw [isb8y h1, bd1_mk, if_neg one0, isb8y h2, bd1_mk, if_neg one0, if_pos h3]) (by unfold fX9_copy; rw [isb9y h1, bd1_mk, if_neg one0, isb9y h2, bd1_mk, if_neg one0, if_pos h3]) (BQ.self h)
  have h1' := h1
  have h2' := h2
  obtain ⟨k, rfl, ka, kb, kc⟩ := inr_n h1 (by decide)
  obtain ⟨l, rfl, la, lb, lc⟩ := inr_n h2 (by decide)
  have hk : k < 3 := by omega
  have hl : l < 3 := by omega
  have hkl : k ≠ l := fun q => h3 (by rw [q])
  obtain ⟨t, e9, r9, f9⟩ := cy9 (k := k) (l := l) (by omega) (by omega) hkl (h.2 k hk)
  have w : ∀ j, j < 3 → RB t j ((fun i => if i = l then B k else B i) j) := by
    intro j hj
    show RB t j (if j = l then B k else B j)
    by_cases e : j = l
    · rw [if_pos e, e]; exact r9
    · rw [if_neg e]; exact (h.2 j hj).fr e f9
  have fr : FrH bs t := fun y hy => f9 y (by omega)
  have hc : ∀ f g : Nat → Int32, CB f (B k) → fX0_takeFrom g f = some (va_cpy f g 0 0 36) := fun f g _ => by unfold fX0_takeFrom; rw [nm_mk]; rfl
  have e9' : fX9_copy (nI k) (nI l) bs = some (1, t) := by unfold fX9_copy; rw [isb9y h1', bd1_mk, if_neg one0, isb9y h2', bd1_mk, if_neg one0, if_neg h3, e9, bd1_mk]
  have c8 : ∀ x0 x1 x2 : Nat → Int32, (∀ i, i < 3 → CB (bsel i x0 x1 x2) (if i = l then B k else B i)) → BQ bs x0 x1 x2 t := fun x0 x1 x2 hx => ⟨fun i => if i = l then B k else B i, fun i hi => ⟨hx i hi, by
    show BK (if i = l then B k else B i)
    by_cases e : i = l
    · rw [if_pos e]; exact (h.1 k hk).2
    · rw [if_neg e]; exact (h.1 i hi).2⟩, w, fr⟩
  have v0 := (h.1 0 (by omega)).1
  have v1 := (h.1 1 (by omega)).1
  have v2 := (h.1 2 (by omega)).1
  rcases (show (k = 1 ∧ l = 0) ∨ (k = 2 ∧ l = 0) ∨ (k = 0 ∧ l = 1) ∨ (k = 2 ∧ l = 1) ∨ (k = 0 ∧ l = 2) ∨ (k = 1 ∧ l = 2) by omega) with ⟨rfl, rfl⟩ | ⟨rfl, rfl⟩ | ⟨rfl, rfl⟩ | ⟨rfl, rfl⟩ | ⟨rfl, rfl⟩ | ⟨rfl, rfl⟩
  · refine Sx2.mk (r := 1) (s1 := (va_cpy b1 b0 0 0 36, b1, b2)) (by
      unfold fX8_copy
      rw [isb8y h1', bd1_mk, if_neg one0, isb8y h2', bd1_mk, if_neg one0, if_neg h3]
      rfl) e9' (c8 _ _ _ (fun i hi => ?_))
    rcases (show i = 0 ∨ i = 1 ∨ i = 2 by omega) with rfl | rfl | rfl
    · exact v1.cpy
    · exact v1
    · exact v2
  · refine Sx2.mk (r := 1) (s1 := (va_cpy b2 b0 0 0 36, b1, b2)) (by
      unfold fX8_copy
      rw [isb8y h1', bd1_mk, if_neg one0, isb8y h2', bd1_mk, if_neg one0, if_neg h3]
      rfl) e9' (c8 _ _ _ (fun i hi => ?_))
    rcases (show i = 0 ∨ i = 1 ∨ i = 2 by omega) with rfl | rfl | rfl
    · exact v2.cpy
    · exact v1
    · exact v2
  · refine Sx2.mk (r := 1) (s1 := (b0, va_cpy b0 b1 0 0 36, b2)) (by
      unfold fX8_copy
      rw [isb8y h1', bd1_mk, if_neg one0, isb8y h2', bd1_mk, if_neg one0, if_neg h3]
      rfl) e9' (c8 _ _ _ (fun i hi => ?_))
    rcases (show i = 0 ∨ i = 1 ∨ i = 2 by omega) with rfl | rfl | rfl
    · exact v0
    · exact v0.cpy
    · exact v2
  · refine Sx2.mk (r := 1) (s1 := (b0, va_cpy b2 b1 0 0 36, b2)) (by
      unfold fX8_copy
      rw [isb8y h1', bd1_mk, if_neg one0, isb8y h2', bd1_mk, if_neg one0, if_neg h3]
      rfl) e9' (c8 _ _ _ (fun i hi => ?_))
    rcases (show i = 0 ∨ i = 1 ∨ i = 2 by omega) with rfl | rfl | rfl
    · exact v0
    · exact v2.cpy
    · exact v2
  · refine Sx2.mk (r := 1) (s1 := (b0, b1, va_cpy b0 b2 0 0 36)) (by
      unfold fX8_copy
      rw [isb8y h1', bd1_mk, if_neg one0, isb8y h2', bd1_mk, if_neg one0, if_neg h3]
      rfl) e9' (c8 _ _ _ (fun i hi => ?_))
    rcases (show i = 0 ∨ i = 1 ∨ i = 2 by omega) with rfl | rfl | rfl
    · exact v0
    · exact v1
    · exact v0.cpy
  · refine Sx2.mk (r := 1) (s1 := (b0, b1, va_cpy b1 b2 0 0 36)) (by
      unfold fX8_copy
      rw [isb8y h1', bd1_mk, if_neg one0, isb8y h2', bd1_mk, if_neg one0, if_neg h3]
      rfl) e9' (c8 _ _ _ (fun i hi => ?_))
    rcases (show i = 0 ∨ i = 1 ∨ i = 2 by omega) with rfl | rfl | rfl
    · exact v0
    · exact v1
    · exact v1.cpy
theorem up4 {mv : Nat → Int32} {r : Nat} (h1 : 1 ≤ r) (h : r < 128) (hm : MV mv r) : ∀ (i n x : Nat), x + i = dR r → lpX9_ups_4 mv (nI (dR r)) (n + i + 1) (nI (uR (pfx r x))) (nI x) = some (nI (uR r)) := by
  have hd6 := (row_b1 r h h1).1.1
  intro i
  induction i with
  | zero =>
    intro n x hi
    rw [lpX9_ups_4.eq_2, if_pos (nI_le (by omega) (by omega)), show x = dR r by omega, pfd]
  | succ i ih =>
    intro n x hi
    obtain ⟨g1, g2⟩ := pf2 r h h1 x (by omega) (by omega)
    obtain ⟨g3, g4, _⟩ := pf1 r h h1 x (by omega) (by omega)
    obtain ⟨_, c2, _, _⟩ := row_s (pfx r x) g2 g4 (r / 2 ^ (dR r - 1 - x) % 2) (by omega)
    rw [lpX9_ups_4.eq_2, if_neg (nI_ge (by omega) (by omega)), og32 (by omega) (by omega), nm_mk, nI_clamp (by omega), hm x (by omega), nm_mk, nI_1, nI_add, ← c2, ← g1, show n + (i + 1) = n + i + 1 by omega]
    exact ih n (x + 1) (by omega)
theorem ups9 {mv : Nat → Int32} {r : Nat} (h1 : 1 ≤ r) (h : r < 128) (hm : MV mv r) : fX9_ups mv (nI (dR r)) = some (nI (uR r)) := by
  unfold fX9_ups
  have hd6 := (row_b1 r h h1).1.1
  obtain ⟨n, hn⟩ := fuN (dR r + 1) (by omega)
  have := up4 h1 h hm (dR r) n 0 (by omega)
  rw [pf0 r h h1, show nI (uR 1) = nI 0 from rfl] at this
  rw [hn, i_0, show n + (dR r + 1) = n + dR r + 1 by omega, this, bd1_mk]
theorem pfb : ∀ r, r < 128 → 1 ≤ r → ∀ i, i < 6 → i < dR r → nI (pfx r (i + 1)) &&& 1 = nI (r / 2 ^ (dR r - 1 - i) % 2) := by decide +kernel
theorem q_went {τ : Nat → Nat} {row moved : Int32} {mv : Nat → Int32} (hP : PQ τ row mv moved) (p1 : Int32) : ∃ v, fX8_went p1 row = some v ∧ fX9_went p1 mv moved = some v := by
  obtain ⟨r, h1, h, hd, rfl, rfl, hm⟩ := hP
  have hd6 := (row_b1 r h h1).1.1
  by_cases g0 : p1 = 0
  · exact ⟨nI (dR r), by unfold fX8_went; rw [day8 r h h1, bd1_mk, if_pos g0], by unfold fX9_went; rw [if_pos g0]⟩
  by_cases g1 : p1 = 1
  · exact ⟨nI (uR r), by unfold fX8_went; rw [day8 r h h1, bd1_mk, if_neg g0, if_pos g1, ups8 r h h1, bd1_mk], by unfold fX9_went; rw [if_neg g0, if_pos g1, ups9 h1 h hm, bd1_mk]⟩
  have e9 : (9 + nI (dR r) : Int32) = nI (9 + dR r) := by rw [i_9, nI_add]
  by_cases g2 : inr p1 10 ((9 + dR r : Nat) : Int)
  rotate_left
  · exact ⟨-1, by unfold fX8_went; rw [day8 r h h1, bd1_mk, if_neg g0, if_neg g1, e9, wi0 g2 rfl (nI_toInt (by omega)), bd1_mk, if_pos rfl], by unfold fX9_went; rw [if_neg g0, if_neg g1, e9, in0 g2 rfl ((Int32.toInt_toInt64 _).trans (nI_toInt (by omega))), bd1_mk, if_pos rfl, bd1_mk]⟩
  have g2' := g2
  obtain ⟨n, rfl, na, nb, nc⟩ := inr_n g2 (by decide)
  obtain ⟨i, rfl⟩ : ∃ i, n = 10 + i := ⟨n - 10, by omega⟩
  have hi : i < dR r := by omega
  refine ⟨nI (r / 2 ^ (dR r - 1 - i) % 2), ?_, ?_⟩
  · unfold fX8_went
    rw [day8 r h h1, bd1_mk, if_neg g0, if_neg g1, e9, wi1 g2' rfl (nI_toInt (by omega)), bd1_mk, if_neg one0, i_9, pk_sub (by omega), show 10 + i - 9 = i + 1 by omega, rod8 r h h1 (i + 1) (by omega) (by omega), bd1_mk, pfb r h h1 i (by omega) hi]
  · unfold fX9_went
    rw [if_neg g0, if_neg g1, e9, in1 g2' rfl ((Int32.toInt_toInt64 _).trans (nI_toInt (by omega))), bd1_mk, if_neg one0, i_10, pk_sub (by omega), show 10 + i - 10 = i by omega, og32 (by omega) (by omega), nI_clamp (by omega), hm i hi, bd1_mk]
theorem q_count {tr tree : Nat → Int32} {τ : Nat → Nat} (h : TCT tr tree τ) {kc size taped states : Int32} (hs : size = taped) (hc : kc = states) (p1 : Int32) : ∃ v, fX8_count p1 kc size tr = some v ∧ fX9_count p1 taped tree states = some v := by
  subst hs hc
  by_cases h1 : inr p1 0 8
  rotate_left
  · unfold fX8_count fX9_count
    rw [wi0 h1, in0 h1, bd1_mk, bd1_mk, if_pos rfl, if_pos rfl]
    by_cases g : p1 = 9
    · exact ⟨size, by rw [if_pos g]; rfl, by rw [if_pos g, bd1_mk]⟩
    by_cases g2 : p1 = 10
    · exact ⟨kc, by rw [if_neg g, if_pos g2, bd1_mk], by rw [if_neg g, if_pos g2, bd1_mk]⟩
    · exact ⟨-1, by rw [if_neg g, if_neg g2, bd1_mk], by rw [if_neg g, if_neg g2, bd1_mk]⟩
  have h1' := h1
  obtain ⟨n, rfl, na, nb, nc⟩ := inr_n h1 (by decide)
  exact ⟨nI (τ n), by unfold fX8_count; rw [wi1 h1', bd1_mk, if_neg one0, gt7 h.1 (by omega), bd1_mk], by unfold fX9_count; rw [in1 h1', bd1_mk, if_neg one0, og32 (by omega) (by omega), nI_clamp (by omega), tr0 h.2.1 (by omega)]⟩
