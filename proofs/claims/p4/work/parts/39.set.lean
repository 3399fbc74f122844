/-! pure: terms told by calls: both sides (own rows) -/
def bq (k i : Nat) (b : Nat → Int32) (a : Nat) (v : Int32) : Nat → Int32 := if k = i then upd b a v else b
def Bup (B : Nat → Nat → Nat) (k a x : Nat) : Nat → Nat → Nat := fun i => if i = k then bup (B i) a x else B i
theorem ss8 {k : Nat} (hk : k < 3) {a : Nat} (ha : a < 36) (v : Int32) (b0 b1 b2 : Nat → Int32) : (if nI k = 0 then bd1 (fX0_set (nI a) v b0) (fun x => some (x, b1, b2)) else if nI k = 1 then bd1 (fX0_set (nI a) v b1) (fun x => some (b0, x, b2)) else bd1 (fX0_set (nI a) v b2) (fun x => some (b0, b1, x))) = some (bq k 0 b0 a v, bq k 1 b1 a v, bq k 2 b2 a v) := by
  rcases (show k = 0 ∨ k = 1 ∨ k = 2 by omega) with rfl | rfl | rfl
  · rw [if_pos (show nI 0 = (0 : Int32) from rfl), xset ha, bd1_mk]; rfl
  · rw [if_neg (show ¬ nI 1 = (0 : Int32) from one0), if_pos (show nI 1 = (1 : Int32) from rfl), xset ha, bd1_mk]; rfl
  · rw [if_neg (show ¬ nI 2 = (0 : Int32) by decide), if_neg (show ¬ nI 2 = (1 : Int32) by decide), xset ha, bd1_mk]; rfl
theorem gs8 {k : Nat} (hk : k < 3) {a : Nat} (ha : a < 36) (b0 b1 b2 : Nat → Int32) : (if nI k = 0 then bd1 (fX0_get (nI a) b0) (fun x => some x) else if nI k = 1 then bd1 (fX0_get (nI a) b1) (fun x => some x) else bd1 (fX0_get (nI a) b2) (fun x => some x)) = some (bsel k b0 b1 b2 a) := by
  have hg : ∀ f : Nat → Int32, fX0_get (nI a) f = some (f a) := fun f => by
    unfold fX0_get
    rw [if_neg (nI_pos (by omega)), if_neg (show ¬ (36 : Int32) ≤ nI a from nI_ge (b := 36) ha (by omega)), og32 ha (by omega), nI_clamp (by omega)]; rfl
  rcases (show k = 0 ∨ k = 1 ∨ k = 2 by omega) with rfl | rfl | rfl
  · rw [if_pos (show nI 0 = (0 : Int32) from rfl), hg, bd1_mk]; rfl
  · rw [if_neg (show ¬ nI 1 = (0 : Int32) from one0), if_pos (show nI 1 = (1 : Int32) from rfl), hg, bd1_mk]; rfl
  · rw [if_neg (show ¬ nI 2 = (0 : Int32) by decide), if_neg (show ¬ nI 2 = (1 : Int32) by decide), hg, bd1_mk]; rfl
theorem bq_sel {k i : Nat} (hi : i < 3) (b0 b1 b2 : Nat → Int32) (a : Nat) (v : Int32) : bsel i (bq k 0 b0 a v) (bq k 1 b1 a v) (bq k 2 b2 a v) = if k = i then upd (bsel i b0 b1 b2) a v else bsel i b0 b1 b2 := by
  rcases (show i = 0 ∨ i = 1 ∨ i = 2 by omega) with rfl | rfl | rfl <;> rfl
theorem CB3.up {b0 b1 b2 : Nat → Int32} {B : Nat → Nat → Nat} (h : CB3 b0 b1 b2 B) {k a x : Nat} {v : Int32} (ha : a < 27) (hv : v = eI (bup (B k) a x) a) (hx : okB a x) : CB3 (bq k 0 b0 (cI a) v) (bq k 1 b1 (cI a) v) (bq k 2 b2 (cI a) v) (Bup B k a x) := by
  intro i hi
  rw [bq_sel hi]
  unfold Bup
  by_cases e : i = k
  · subst e
    rw [if_pos rfl, if_pos rfl]
    exact ⟨(h i hi).1.up ha hv, (h i hi).2.up hx⟩
  · rw [if_neg e, if_neg (fun q => e q.symm)]
    exact h i hi
theorem RB3.up {bs : Nat → Int32} {B : Nat → Nat → Nat} (h : ∀ j, j < 3 → RB bs j (B j)) {k a x : Nat} {v : Int32} (ha : a < 27) (hv : v = rI (bup (B k) a x) a) : ∀ j, j < 3 → RB (upd bs (27 * k + a) v) j (Bup B k a x j) := by
  intro j hj
  unfold Bup
  by_cases e : j = k
  · subst e
    rw [if_pos rfl]
    exact (h j hj).up ha hv
  · rw [if_neg e]
    exact (h j hj).fr e (FrB.up ha v)
abbrev FrH (bs t : Nat → Int32) : Prop := ∀ y, 81 ≤ y → t y = bs y
theorem FrH.up {bs : Nat → Int32} {k a : Nat} (hk : k < 3) (ha : a < 27) (v : Int32) : FrH bs (upd bs (27 * k + a) v) := by
  intro y hy
  rw [upS, if_neg (by omega)]
theorem FrH.tr {a b c : Nat → Int32} (h : FrH a b) (g : FrH b c) : FrH a c := fun y hy => (g y hy).trans (h y hy)
/-- what is left of the bonds -/
abbrev BQ (bs : Nat → Int32) (b0 b1 b2 t : Nat → Int32) : Prop := ∃ B, CB3 b0 b1 b2 B ∧ (∀ j, j < 3 → RB t j (B j)) ∧ FrH bs t
abbrev BCT (b0 b1 b2 bs : Nat → Int32) (B : Nat → Nat → Nat) : Prop := CB3 b0 b1 b2 B ∧ ∀ j, j < 3 → RB bs j (B j)
theorem BQ.self {b0 b1 b2 bs : Nat → Int32} {B : Nat → Nat → Nat} (h : BCT b0 b1 b2 bs B) : BQ bs b0 b1 b2 bs := ⟨B, h.1, h.2, fun _ _ => rfl⟩
theorem rt8 {k : Nat} (hk : k < 3) {a : Nat} (ha : a < 36) (v : Int32) (b0 b1 b2 : Nat → Int32) : fX8_replaceTerm (nI k) (nI a) v b0 b1 b2 = some (bsel k b0 b1 b2 a, bq k 0 b0 a v, bq k 1 b1 a v, bq k 2 b2 a v) := by
  unfold fX8_replaceTerm
  rw [isb8' hk, bd1_mk, if_neg one0, og32 hk (by omega), gs8 hk ha, bd1_mk, og32 hk (by omega), ss8 hk ha, bd3_mk]
theorem q_bond {b0 b1 b2 bs : Nat → Int32} {B : Nat → Nat → Nat} (h : BCT b0 b1 b2 bs B) (p1 p2 p3 : Int32) : Sx2 (fX8_bond p1 p2 p3 b0 b1 b2) (fX9_bond p1 p2 p3 bs) (fun s t => BQ bs s.1 s.2.1 s.2.2 t) := by
  by_cases h1 : inr p1 0 2
  rotate_left
  · exact Sx2.mk (by unfold fX8_bond; rw [isb8n h1, bd1_mk, if_pos rfl]) (by unfold fX9_bond; rw [isb9n h1, bd1_mk, if_pos rfl]) (BQ.self h)
  by_cases h2 : inr p2 1 1000000
  rotate_left
  · exact Sx2.mk (by unfold fX8_bond; rw [isb8y h1, bd1_mk, if_neg one0, wi0 h2, bd1_mk, if_pos rfl]) (by unfold fX9_bond; rw [isb9y h1, bd1_mk, if_neg one0, in0 h2, bd1_mk, if_pos rfl]) (BQ.self h)
  by_cases h3 : inr p3 0 1000
  rotate_left
  · exact Sx2.mk (by unfold fX8_bond; rw [isb8y h1, bd1_mk, if_neg one0, wi1 h2, bd1_mk, if_neg one0, wi0 h3, bd1_mk, if_pos rfl]) (by unfold fX9_bond; rw [isb9y h1, bd1_mk, if_neg one0, in1 h2, bd1_mk, if_neg one0, in0 h3, bd1_mk, if_pos rfl]) (BQ.self h)
  obtain ⟨k, rfl, ka, kb, kc⟩ := inr_n h1 (by decide)
  obtain ⟨f, rfl, fa, fb, fc⟩ := inr_n h2 (by decide)
  obtain ⟨r, rfl, ra, rb, rc⟩ := inr_n h3 (by decide)
  have hk : k < 3 := by omega
  have u1 := h.1.up (k := k) (a := 0) (x := f) (v := nI f) (by omega) (by rw [eI_n (by omega), bup_s]) ⟨by omega, by omega, by omega, by omega, by omega, by omega, by omega, by omega, by omega⟩
  have u2 := u1.up (k := k) (a := 1) (x := r) (v := nI r) (by omega) (by rw [eI_n (by omega), bup_s]) ⟨by omega, by omega, by omega, by omega, by omega, by omega, by omega, by omega, by omega⟩
  have w1 := RB3.up h.2 (k := k) (a := 0) (x := f) (v := nI f) (by omega) (by rw [rI_n (by omega), bup_s])
  have w2 := RB3.up w1 (k := k) (a := 1) (x := r) (v := nI r) (by omega) (by rw [rI_n (by omega), bup_s])
  refine Sx2.mk (r := 1) (s1 := (bq k 0 (bq k 0 b0 0 (nI f)) 1 (nI r), bq k 1 (bq k 1 b1 0 (nI f)) 1 (nI r), bq k 2 (bq k 2 b2 0 (nI f)) 1 (nI r))) (by
    unfold fX8_bond
    rw [isb8y h1, bd1_mk, if_neg one0, wi1 h2, bd1_mk, if_neg one0, wi1 h3, bd1_mk, if_neg one0, og32 hk (by omega)]
    rw [show (if nI k = 0 then bd1 (fX0_set 0 (nI f) b0) (fun x => some (x, b1, b2)) else if nI k = 1 then bd1 (fX0_set 0 (nI f) b1) (fun x => some (b0, x, b2)) else bd1 (fX0_set 0 (nI f) b2) (fun x => some (b0, b1, x))) = _ from ss8 hk (a := 0) (by omega) _ _ _ _, bd3_mk, og32 hk (by omega)]
    rw [show (if nI k = 0 then bd1 (fX0_set 1 (nI r) (bq k 0 b0 0 (nI f))) (fun x => some (x, (bq k 1 b1 0 (nI f)), (bq k 2 b2 0 (nI f)))) else if nI k = 1 then bd1 (fX0_set 1 (nI r) (bq k 1 b1 0 (nI f))) (fun x => some ((bq k 0 b0 0 (nI f)), x, (bq k 2 b2 0 (nI f)))) else bd1 (fX0_set 1 (nI r) (bq k 2 b2 0 (nI f))) (fun x => some ((bq k 0 b0 0 (nI f)), (bq k 1 b1 0 (nI f)), x))) = _ from ss8 hk (a := 1) (by omega) _ _ _ _, bd3_mk]) (by
    unfold fX9_bond
    rw [isb9y h1, bd1_mk, if_neg one0, in1 h2, bd1_mk, if_neg one0, in1 h3, bd1_mk, if_neg one0, i_0, i_1, se9 (by omega), bd1_mk, se9 (by omega), bd1_mk]) ⟨_, u2, w2, (FrH.up hk (by omega) _).tr (FrH.up hk (by omega) _)⟩
theorem q_coupon {b0 b1 b2 bs : Nat → Int32} {B : Nat → Nat → Nat} (h : BCT b0 b1 b2 bs B) (p1 p2 p3 : Int32) : Sx2 (fX8_coupon p1 p2 p3 b0 b1 b2) (fX9_coupon p1 p2 p3 bs) (fun s t => BQ bs s.1 s.2.1 s.2.2 t) := by
  by_cases h1 : inr p1 0 2
  rotate_left
  · exact Sx2.mk (by unfold fX8_coupon; rw [isb8n h1, bd1_mk, if_pos rfl]) (by unfold fX9_coupon; rw [isb9n h1, bd1_mk, if_pos rfl]) (BQ.self h)
  by_cases h2 : inr p2 1 6
  rotate_left
  · exact Sx2.mk (by unfold fX8_coupon; rw [isb8y h1, bd1_mk, if_neg one0, wi0 h2, bd1_mk, if_pos rfl]) (by unfold fX9_coupon; rw [isb9y h1, bd1_mk, if_neg one0, in0 h2, bd1_mk, if_pos rfl]) (BQ.self h)
  by_cases h3 : inr p3 0 1000
  rotate_left
  · exact Sx2.mk (by unfold fX8_coupon; rw [isb8y h1, bd1_mk, if_neg one0, wi1 h2, bd1_mk, if_neg one0, wi0 h3, bd1_mk, if_pos rfl]) (by unfold fX9_coupon; rw [isb9y h1, bd1_mk, if_neg one0, in1 h2, bd1_mk, if_neg one0, in0 h3, bd1_mk, if_pos rfl]) (BQ.self h)
  obtain ⟨k, rfl, ka, kb, kc⟩ := inr_n h1 (by decide)
  obtain ⟨t, rfl, ta, tb, tc⟩ := inr_n h2 (by decide)
  obtain ⟨c, rfl, ca, cb, cc⟩ := inr_n h3 (by decide)
  have hk : k < 3 := by omega
  have ec : cI (2 + t) = 10 + t := by unfold cI; rw [if_neg (by omega), if_pos (by omega)]; omega
  have u1 := h.1.up (k := k) (a := 2 + t) (x := c) (v := nI c) (by omega) (by rw [eI_n (by omega), bup_s]) ⟨by omega, by omega, by omega, by omega, by omega, by omega, by omega, by omega, by omega⟩
  have w1 := RB3.up h.2 (k := k) (a := 2 + t) (x := c) (v := nI c) (by omega) (by rw [rI_n (by omega), bup_s])
  have g1 := (h.1 k hk).1.u (2 + t) (by omega) (by omega)
  rw [eI_n (by omega)] at g1
  rw [ec] at u1 g1
  refine Sx2.mk (r := nI (B k (2 + t))) (s1 := (bq k 0 b0 (10 + t) (nI c), bq k 1 b1 (10 + t) (nI c), bq k 2 b2 (10 + t) (nI c))) (by
    unfold fX8_coupon
    rw [isb8y h1, bd1_mk, if_neg one0, wi1 h2, bd1_mk, if_neg one0, wi1 h3, bd1_mk, if_neg one0, i_10, nI_add, rt8 hk (by omega), bd4_mk, g1]) (by
    unfold fX9_coupon
    rw [isb9y h1, bd1_mk, if_neg one0, in1 h2, bd1_mk, if_neg one0, in1 h3, bd1_mk, if_neg one0, i_2, nI_add, of9 (h.2 k hk) (by omega), bd1_mk, se9 (by omega), bd1_mk, rI_n (by omega)]) ⟨_, u1, w1, FrH.up hk (by omega) _⟩
theorem q_settle {b0 b1 b2 bs : Nat → Int32} {B : Nat → Nat → Nat} (h : BCT b0 b1 b2 bs B) (p1 p2 : Int32) : Sx2 (fX8_settle p1 p2 b0 b1 b2) (fX9_settle p1 p2 bs) (fun s t => BQ bs s.1 s.2.1 s.2.2 t) := by
  by_cases h1 : inr p1 0 2
  rotate_left
  · exact Sx2.mk (by unfold fX8_settle; rw [isb8n h1, bd1_mk, if_pos rfl]) (by unfold fX9_settle; rw [isb9n h1, bd1_mk, if_pos rfl]) (BQ.self h)
  by_cases h2 : inr p2 0 3
  rotate_left
  · exact Sx2.mk (by unfold fX8_settle; rw [isb8y h1, bd1_mk, if_neg one0, wi0 h2, bd1_mk, if_pos rfl]) (by unfold fX9_settle; rw [isb9y h1, bd1_mk, if_neg one0, in0 h2, bd1_mk, if_pos rfl]) (BQ.self h)
  obtain ⟨k, rfl, ka, kb, kc⟩ := inr_n h1 (by decide)
  obtain ⟨c, rfl, ca, cb, cc⟩ := inr_n h2 (by decide)
  have hk : k < 3 := by omega
  have u1 := h.1.up (k := k) (a := 26) (x := c) (v := nI c) (by omega) (by rw [eI_n (by omega), bup_s]) ⟨by omega, by omega, by omega, by omega, by omega, by omega, by omega, by omega, by omega⟩
  have w1 := RB3.up h.2 (k := k) (a := 26) (x := c) (v := nI c) (by omega) (by rw [rI_n (by omega), bup_s])
  have g1 := (h.1 k hk).1.u 26 (by omega) (by omega)
  rw [eI_n (by omega)] at g1
  refine Sx2.mk (r := nI (B k 26)) (s1 := (bq k 0 b0 7 (nI c), bq k 1 b1 7 (nI c), bq k 2 b2 7 (nI c))) (by
    unfold fX8_settle
    rw [isb8y h1, bd1_mk, if_neg one0, wi1 h2, bd1_mk, if_neg one0, i_7, rt8 hk (by omega), bd4_mk, show bsel k b0 b1 b2 7 = _ from g1]) (by
    unfold fX9_settle
    rw [isb9y h1, bd1_mk, if_neg one0, in1 h2, bd1_mk, if_neg one0, i_26, of9 (h.2 k hk) (by omega), bd1_mk, se9 (by omega), bd1_mk, rI_n (by omega)]) ⟨_, u1, w1, FrH.up hk (by omega) _⟩
theorem td9 {e : Nat} (he : e < 2 ^ 31) : fX9_told2 (iM e) = some (iC e) := by
  unfold fX9_told2
  by_cases h : e = 0
  · subst h; rfl
  · rw [if_neg (fun q => h ((iM_m1 he).mp q)), bd1_mk]
    obtain ⟨n, rfl⟩ : ∃ n, e = n + 1 := ⟨e - 1, by omega⟩
    rw [iM_s, iC_s]
theorem inr_m1 {x : Int32} (h : inr x (-1) 1000000) : ∃ e : Nat, e ≤ 1000001 ∧ x = iM e ∧ (x = -1 ↔ e = 0) ∧ (e ≠ 0 → x = nI (e - 1)) := by
  by_cases g : x = -1
  · exact ⟨0, by omega, by rw [g]; rfl, ⟨fun _ => rfl, fun _ => g⟩, fun q => absurd rfl q⟩
  · have hx : inr x 0 1000000 := by
      refine ⟨?_, h.2⟩
      have h1 := h.1
      have h2 : x.toInt ≠ -1 := fun q => g (Int32.toInt_inj.mp q)
      omega
    obtain ⟨n, rfl, a, b, c⟩ := inr_n hx (by decide)
    exact ⟨n + 1, by omega, by rw [iM_s], ⟨fun q => absurd q g, fun q => by omega⟩, fun _ => by rw [Nat.add_sub_cancel]⟩
theorem q_call {b0 b1 b2 bs : Nat → Int32} {B : Nat → Nat → Nat} (h : BCT b0 b1 b2 bs B) (p1 p2 p3 : Int32) : Sx2 (fX8_call p1 p2 p3 b0 b1 b2) (fX9_call p1 p2 p3 bs) (fun s t => BQ bs s.1 s.2.1 s.2.2 t) := by
  by_cases h1 : inr p1 0 2
  rotate_left
  · exact Sx2.mk (by unfold fX8_call fX8_replaceRight; rw [isb8n h1, bd1_mk, if_pos rfl]; rfl) (by unfold fX9_call fX9_tells; rw [isb9n h1, bd1_mk, if_pos rfl]; rfl) (BQ.self h)
  by_cases h2 : inr p2 0 5
  rotate_left
  · exact Sx2.mk (by unfold fX8_call fX8_replaceRight; rw [isb8y h1, bd1_mk, if_neg one0, wi0 h2, bd1_mk, if_pos rfl]; rfl) (by unfold fX9_call fX9_tells; rw [isb9y h1, bd1_mk, if_neg one0, in0 h2, bd1_mk, if_pos rfl]; rfl) (BQ.self h)
  by_cases h3 : inr p3 (-1) 1000000
  rotate_left
  · have g1 : ¬ p3 = -1 := fun q => h3 (by rw [q]; decide)
    have g2 : ¬ inr p3 0 1000000 := fun q => h3 ⟨by have := q.1; omega, q.2⟩
    exact Sx2.mk (by unfold fX8_call fX8_replaceRight; rw [isb8y h1, bd1_mk, if_neg one0, wi1 h2, bd1_mk, if_neg one0, if_neg g1, isp8n g2, bd1_mk, if_pos rfl]; rfl) (by unfold fX9_call fX9_tells; rw [isb9y h1, bd1_mk, if_neg one0, in1 h2, bd1_mk, if_neg one0, in0 h3, bd1_mk, if_pos rfl]; rfl) (BQ.self h)
  obtain ⟨k, rfl, ka, kb, kc⟩ := inr_n h1 (by decide)
  obtain ⟨t, rfl, ta, tb, tc⟩ := inr_n h2 (by decide)
  have hk : k < 3 := by omega
  obtain ⟨e, he, ex, em, en⟩ := inr_m1 h3
  have ec : cI (9 + t) = 20 + t := by unfold cI; rw [if_neg (by omega), if_neg (by omega), if_pos (by omega)]; omega
  have u1 := h.1.up (k := k) (a := 9 + t) (x := e) (v := iC e) (by omega) (by rw [eI_c (by omega), bup_s]) ⟨by omega, by omega, by omega, by omega, by omega, by omega, by omega, by omega, by omega⟩
  have w1 := RB3.up h.2 (k := k) (a := 9 + t) (x := e) (v := p3) (by omega) (by rw [rI_m (by omega), bup_s, ex])
  have g1 := (h.1 k hk).1.u (9 + t) (by omega) (by omega)
  rw [eI_c (by omega)] at g1
  rw [ec] at u1 g1
  have hbk : B k (9 + t) ≤ 1000001 := (h.1 k hk).2.2.2.2.1 t (by omega)
  refine Sx2.mk (r := iC (B k (9 + t))) (s1 := (bq k 0 b0 (20 + t) (iC e), bq k 1 b1 (20 + t) (iC e), bq k 2 b2 (20 + t) (iC e))) (s2 := upd bs (27 * k + (9 + t)) p3) (by
    unfold fX8_call fX8_replaceRight
    rw [isb8y h1, bd1_mk, if_neg one0, wi1 h2, bd1_mk, if_neg one0]
    by_cases g : p3 = -1
    · have e0 : e = 0 := em.mp g
      rw [if_pos g, if_pos g, bd1_mk, i_20, nI_add, rt8 hk (by omega), bd4_mk, bd4_mk, g1, show (-2 : Int32) = iC e by rw [e0]; rfl]
    · have e0 : e ≠ 0 := fun q => g (em.mpr q)
      have g2 : inr p3 0 1000000 := ⟨by have := h3.1; have h4 : p3.toInt ≠ -1 := fun q => g (Int32.toInt_inj.mp q); omega, h3.2⟩
      rw [if_neg g, isp8y g2, bd1_mk, if_neg one0, if_neg g, bd1_mk, i_20, nI_add, rt8 hk (by omega), bd4_mk, bd4_mk, g1, show p3 = iC e by rw [en e0]; obtain ⟨m, rfl⟩ : ∃ m, e = m + 1 := ⟨e - 1, by omega⟩; rw [iC_s, Nat.add_sub_cancel]]) (by
    unfold fX9_call fX9_tells
    rw [isb9y h1, bd1_mk, if_neg one0, in1 h2, bd1_mk, if_neg one0, in1 h3, bd1_mk, if_neg one0, i_9, nI_add, of9 (h.2 k hk) (by omega), bd1_mk, se9 (by omega), bd1_mk, rI_m (by omega), td9 (by omega), bd1_mk, bd2_mk]) ⟨_, u1, w1, FrH.up hk (by omega) _⟩
theorem q_put {b0 b1 b2 bs : Nat → Int32} {B : Nat → Nat → Nat} (h : BCT b0 b1 b2 bs B) (p1 p2 p3 : Int32) : Sx2 (fX8_put p1 p2 p3 b0 b1 b2) (fX9_put p1 p2 p3 bs) (fun s t => BQ bs s.1 s.2.1 s.2.2 t) := by
  by_cases h1 : inr p1 0 2
  rotate_left
  · exact Sx2.mk (by unfold fX8_put fX8_replaceRight; rw [isb8n h1, bd1_mk, if_pos rfl]; rfl) (by unfold fX9_put fX9_tells; rw [isb9n h1, bd1_mk, if_pos rfl]; rfl) (BQ.self h)
  by_cases h2 : inr p2 0 5
  rotate_left
  · exact Sx2.mk (by unfold fX8_put fX8_replaceRight; rw [isb8y h1, bd1_mk, if_neg one0, wi0 h2, bd1_mk, if_pos rfl]; rfl) (by unfold fX9_put fX9_tells; rw [isb9y h1, bd1_mk, if_neg one0, in0 h2, bd1_mk, if_pos rfl]; rfl) (BQ.self h)
  by_cases h3 : inr p3 (-1) 1000000
  rotate_left
  · have g1 : ¬ p3 = -1 := fun q => h3 (by rw [q]; decide)
    have g2 : ¬ inr p3 0 1000000 := fun q => h3 ⟨by have := q.1; omega, q.2⟩
    exact Sx2.mk (by unfold fX8_put fX8_replaceRight; rw [isb8y h1, bd1_mk, if_neg one0, wi1 h2, bd1_mk, if_neg one0, if_neg g1, isp8n g2, bd1_mk, if_pos rfl]; rfl) (by unfold fX9_put fX9_tells; rw [isb9y h1, bd1_mk, if_neg one0, in1 h2, bd1_mk, if_neg one0, in0 h3, bd1_mk, if_pos rfl]; rfl) (BQ.self h)
  obtain ⟨k, rfl, ka, kb, kc⟩ := inr_n h1 (by decide)
  obtain ⟨t, rfl, ta, tb, tc⟩ := inr_n h2 (by decide)
  have hk : k < 3 := by omega
  obtain ⟨e, he, ex, em, en⟩ := inr_m1 h3
  have ec : cI (15 + t) = 30 + t := by unfold cI; rw [if_neg (by omega), if_neg (by omega), if_neg (by omega), if_pos (by omega)]; omega
  have u1 := h.1.up (k := k) (a := 15 + t) (x := e) (v := iC e) (by omega) (by rw [eI_c (by omega), bup_s]) ⟨by omega, by omega, by omega, by omega, by omega, by omega, by omega, by omega, by omega⟩
  have w1 := RB3.up h.2 (k := k) (a := 15 + t) (x := e) (v := p3) (by omega) (by rw [rI_m (by omega), bup_s, ex])
  have g1 := (h.1 k hk).1.u (15 + t) (by omega) (by omega)
  rw [eI_c (by omega)] at g1
  rw [ec] at u1 g1
  have hbk : B k (15 + t) ≤ 1000001 := (h.1 k hk).2.2.2.2.2.1 t (by omega)
  refine Sx2.mk (r := iC (B k (15 + t))) (s1 := (bq k 0 b0 (30 + t) (iC e), bq k 1 b1 (30 + t) (iC e), bq k 2 b2 (30 + t) (iC e))) (s2 := upd bs (27 * k + (15 + t)) p3) (by
    unfold fX8_put fX8_replaceRight
    rw [isb8y h1, bd1_mk, if_neg one0, wi1 h2, bd1_mk, if_neg one0]
    by_cases g : p3 = -1
    · have e0 : e = 0 := em.mp g
      rw [if_pos g, if_pos g, bd1_mk, i_30, nI_add, rt8 hk (by omega), bd4_mk, bd4_mk, g1, show (-2 : Int32) = iC e by rw [e0]; rfl]
    · have e0 : e ≠ 0 := fun q => g (em.mpr q)
      have g2 : inr p3 0 1000000 := ⟨by have := h3.1; have h4 : p3.toInt ≠ -1 := fun q => g (Int32.toInt_inj.mp q); omega, h3.2⟩
      rw [if_neg g, isp8y g2, bd1_mk, if_neg one0, if_neg g, bd1_mk, i_30, nI_add, rt8 hk (by omega), bd4_mk, bd4_mk, g1, show p3 = iC e by rw [en e0]; obtain ⟨m, rfl⟩ : ∃ m, e = m + 1 := ⟨e - 1, by omega⟩; rw [iC_s, Nat.add_sub_cancel]]) (by
    unfold fX9_put fX9_tells
    rw [isb9y h1, bd1_mk, if_neg one0, in1 h2, bd1_mk, if_neg one0, in1 h3, bd1_mk, if_neg one0, i_15, nI_add, of9 (h.2 k hk) (by omega), bd1_mk, se9 (by omega), bd1_mk, rI_m (by omega), td9 (by omega), bd1_mk, bd2_mk]) ⟨_, u1, w1, FrH.up hk (by omega) _⟩
theorem q_soft {b0 b1 b2 bs : Nat → Int32} {B : Nat → Nat → Nat} (h : BCT b0 b1 b2 bs B) (p1 p2 p3 p4 : Int32) : Sx2 (fX8_soft p1 p2 p3 p4 b0 b1 b2) (fX9_soft p1 p2 p3 p4 bs) (fun s t => BQ bs s.1 s.2.1 s.2.2 t) := by
  by_cases h1 : inr p1 0 2
  rotate_left
  · exact Sx2.mk (by unfold fX8_soft; rw [isb8n h1, bd1_mk, if_pos rfl]) (by unfold fX9_soft; rw [isb9n h1, bd1_mk, if_pos rfl]) (BQ.self h)
  by_cases h2 : inr p3 1 3
  rotate_left
  · exact Sx2.mk (by unfold fX8_soft; rw [isb8y h1, bd1_mk, if_neg one0, wi0 h2, bd1_mk, if_pos rfl]) (by unfold fX9_soft; rw [isb9y h1, bd1_mk, if_neg one0, in0 h2, bd1_mk, if_pos rfl]) (BQ.self h)
  by_cases h3 : inr p2 0 p3.toInt
  rotate_left
  · exact Sx2.mk (by unfold fX8_soft; rw [isb8y h1, bd1_mk, if_neg one0, wi1 h2, bd1_mk, if_neg one0, wi0 h3, bd1_mk, if_pos rfl]) (by unfold fX9_soft; rw [isb9y h1, bd1_mk, if_neg one0, in1 h2, bd1_mk, if_neg one0, in0 h3 rfl (Int32.toInt_toInt64 p3), bd1_mk, if_pos rfl]) (BQ.self h)
  by_cases h4 : inr p4 0 1000000
  rotate_left
  · exact Sx2.mk (by unfold fX8_soft; rw [isb8y h1, bd1_mk, if_neg one0, wi1 h2, bd1_mk, if_neg one0, wi1 h3, bd1_mk, if_neg one0, isp8n h4, bd1_mk, if_pos rfl]) (by unfold fX9_soft; rw [isb9y h1, bd1_mk, if_neg one0, in1 h2, bd1_mk, if_neg one0, in1 h3 rfl (Int32.toInt_toInt64 p3), bd1_mk, if_neg one0, in0 h4, bd1_mk, if_pos rfl]) (BQ.self h)
  obtain ⟨k, rfl, ka, kb, kc⟩ := inr_n h1 (by decide)
  obtain ⟨w, rfl, wa, wb, wc⟩ := inr_n h2 (by decide)
  obtain ⟨l, rfl, la, lb, lc⟩ := inr_n h4 (by decide)
  rw [nI_toInt wc] at h3
  obtain ⟨m, rfl, ma, mb, mc⟩ := inr_n h3 (by decide)
  have hk : k < 3 := by omega
  have h3' : inr (nI m) 0 (nI w).toInt := by rw [nI_toInt wc]; exact h3
  have u1 := h.1.up (k := k) (a := 23) (x := m) (v := nI m) (by omega) (by rw [eI_n (by omega), bup_s]) ⟨by omega, by omega, by omega, by omega, by omega, by omega, by omega, by omega, by omega⟩
  have u2 := u1.up (k := k) (a := 24) (x := w) (v := nI w) (by omega) (by rw [eI_n (by omega), bup_s]) ⟨by omega, by omega, by omega, by omega, by omega, by omega, by omega, by omega, by omega⟩
  have u3 := u2.up (k := k) (a := 25) (x := l) (v := nI l) (by omega) (by rw [eI_n (by omega), bup_s]) ⟨by omega, by omega, by omega, by omega, by omega, by omega, by omega, by omega, by omega⟩
  have w1 := RB3.up h.2 (k := k) (a := 23) (x := m) (v := nI m) (by omega) (by rw [rI_n (by omega), bup_s])
  have w2 := RB3.up w1 (k := k) (a := 24) (x := w) (v := nI w) (by omega) (by rw [rI_n (by omega), bup_s])
  have w3 := RB3.up w2 (k := k) (a := 25) (x := l) (v := nI l) (by omega) (by rw [rI_n (by omega), bup_s])
  refine Sx2.mk (r := 1) (s1 := ((bq k 0 (bq k 0 (bq k 0 b0 4 (nI m)) 5 (nI w)) 6 (nI l)), (bq k 1 (bq k 1 (bq k 1 b1 4 (nI m)) 5 (nI w)) 6 (nI l)), (bq k 2 (bq k 2 (bq k 2 b2 4 (nI m)) 5 (nI w)) 6 (nI l)))) (by
    unfold fX8_soft
    rw [isb8y h1, bd1_mk, if_neg one0, wi1 h2, bd1_mk, if_neg one0, wi1 h3', bd1_mk, if_neg one0, isp8y h4, bd1_mk, if_neg one0, og32 hk (by omega)]
    rw [show (if nI k = 0 then bd1 (fX0_set 4 (nI m) b0) (fun zz => some (zz, b1, b2)) else if nI k = 1 then bd1 (fX0_set 4 (nI m) b1) (fun zz => some (b0, zz, b2)) else bd1 (fX0_set 4 (nI m) b2) (fun zz => some (b0, b1, zz))) = _ from ss8 hk (a := 4) (by omega) _ _ _ _, bd3_mk, og32 hk (by omega)]
    rw [show (if nI k = 0 then bd1 (fX0_set 5 (nI w) (bq k 0 b0 4 (nI m))) (fun zz => some (zz, (bq k 1 b1 4 (nI m)), (bq k 2 b2 4 (nI m)))) else if nI k = 1 then bd1 (fX0_set 5 (nI w) (bq k 1 b1 4 (nI m))) (fun zz => some ((bq k 0 b0 4 (nI m)), zz, (bq k 2 b2 4 (nI m)))) else bd1 (fX0_set 5 (nI w) (bq k 2 b2 4 (nI m))) (fun zz => some ((bq k 0 b0 4 (nI m)), (bq k 1 b1 4 (nI m)), zz))) = _ from ss8 hk (a := 5) (by omega) _ _ _ _, bd3_mk, og32 hk (by omega)]
    rw [show (if nI k = 0 then bd1 (fX0_set 6 (nI l) (bq k 0 (bq k 0 b0 4 (nI m)) 5 (nI w))) (fun zz => some (zz, (bq k 1 (bq k 1 b1 4 (nI m)) 5 (nI w)), (bq k 2 (bq k 2 b2 4 (nI m)) 5 (nI w)))) else if nI k = 1 then bd1 (fX0_set 6 (nI l) (bq k 1 (bq k 1 b1 4 (nI m)) 5 (nI w))) (fun zz => some ((bq k 0 (bq k 0 b0 4 (nI m)) 5 (nI w)), zz, (bq k 2 (bq k 2 b2 4 (nI m)) 5 (nI w)))) else bd1 (fX0_set 6 (nI l) (bq k 2 (bq k 2 b2 4 (nI m)) 5 (nI w))) (fun zz => some ((bq k 0 (bq k 0 b0 4 (nI m)) 5 (nI w)), (bq k 1 (bq k 1 b1 4 (nI m)) 5 (nI w)), zz))) = _ from ss8 hk (a := 6) (by omega) _ _ _ _, bd3_mk]) (by
    unfold fX9_soft fX9_softens
    rw [isb9y h1, bd1_mk, if_neg one0, in1 h2, bd1_mk, if_neg one0, in1 h3' rfl (Int32.toInt_toInt64 _), bd1_mk, if_neg one0, in1 h4, bd1_mk, if_neg one0, i_23, i_24, i_25, se9 (by omega), bd1_mk, se9 (by omega), bd1_mk, se9 (by omega), bd1_mk, bd1_mk]) ⟨_, u3, w3, ((FrH.up hk (by omega) _).tr (FrH.up hk (by omega) _)).tr (FrH.up hk (by omega) _)⟩
theorem q_window {b0 b1 b2 bs : Nat → Int32} {B : Nat → Nat → Nat} (h : BCT b0 b1 b2 bs B) (p1 p2 p3 : Int32) : Sx2 (fX8_window p1 p2 p3 b0 b1 b2) (fX9_window p1 p2 p3 bs) (fun s t => BQ bs s.1 s.2.1 s.2.2 t) := by
  by_cases h1 : inr p1 0 2
  rotate_left
  · exact Sx2.mk (by unfold fX8_window; rw [isb8n h1, bd1_mk, if_pos rfl]) (by unfold fX9_window; rw [isb9n h1, bd1_mk, if_pos rfl]) (BQ.self h)
  by_cases h2 : inr p3 0 6 ∧ inr p2 0 p3.toInt
  rotate_left
  · refine Sx2.mk (r := 0) (s1 := (b0, b1, b2)) (s2 := bs) ?_ ?_ (BQ.self h)
    · unfold fX8_window
      rw [isb8y h1, bd1_mk, if_neg one0]
      by_cases g : inr p3 0 6
      · rw [wi1 g, bd1_mk, if_neg one0, wi0 (fun q => h2 ⟨g, q⟩), bd1_mk, if_pos rfl]
      · rw [wi0 g, bd1_mk, if_pos rfl]
    · unfold fX9_window
      rw [isb9y h1, bd1_mk, if_neg one0]
      by_cases g : inr p2 0 6
      · have g2 : ¬ inr p3 p2.toInt 6 := fun q => h2 ⟨⟨by have := q.1; have := g.1; omega, q.2⟩, ⟨g.1, q.1⟩⟩
        rw [in1 g, bd1_mk, if_neg one0, in0 g2 (Int32.toInt_toInt64 p2) rfl, bd1_mk, if_pos rfl]
      · rw [in0 g, bd1_mk, if_pos rfl]
  obtain ⟨h2, h3⟩ := h2
  obtain ⟨k, rfl, ka, kb, kc⟩ := inr_n h1 (by decide)
  obtain ⟨y, rfl, ya, yb, yc⟩ := inr_n h2 (by decide)
  rw [nI_toInt yc] at h3
  obtain ⟨x, rfl, xa, xb, xc⟩ := inr_n h3 (by decide)
  have hk : k < 3 := by omega
  have h3' : inr (nI x) 0 (nI y).toInt := by rw [nI_toInt yc]; exact h3
  have h4 : inr (nI x) 0 6 := by rw [inr_nI xc]; omega
  have h5 : inr (nI y) (nI x).toInt 6 := by rw [nI_toInt xc, inr_nI yc]; omega
  have u1 := h.1.up (k := k) (a := 21) (x := x) (v := nI x) (by omega) (by rw [eI_n (by omega), bup_s]) ⟨by omega, by omega, by omega, by omega, by omega, by omega, by omega, by omega, by omega⟩
  have u2 := u1.up (k := k) (a := 22) (x := y) (v := nI y) (by omega) (by rw [eI_n (by omega), bup_s]) ⟨by omega, by omega, by omega, by omega, by omega, by omega, by omega, by omega, by omega⟩
  have w1 := RB3.up h.2 (k := k) (a := 21) (x := x) (v := nI x) (by omega) (by rw [rI_n (by omega), bup_s])
  have w2 := RB3.up w1 (k := k) (a := 22) (x := y) (v := nI y) (by omega) (by rw [rI_n (by omega), bup_s])
  refine Sx2.mk (r := 1) (s1 := ((bq k 0 (bq k 0 b0 2 (nI x)) 3 (nI y)), (bq k 1 (bq k 1 b1 2 (nI x)) 3 (nI y)), (bq k 2 (bq k 2 b2 2 (nI x)) 3 (nI y)))) (by
    unfold fX8_window
    rw [isb8y h1, bd1_mk, if_neg one0, wi1 h2, bd1_mk, if_neg one0, wi1 h3', bd1_mk, if_neg one0, og32 hk (by omega)]
    rw [show (if nI k = 0 then bd1 (fX0_set 2 (nI x) b0) (fun zz => some (zz, b1, b2)) else if nI k = 1 then bd1 (fX0_set 2 (nI x) b1) (fun zz => some (b0, zz, b2)) else bd1 (fX0_set 2 (nI x) b2) (fun zz => some (b0, b1, zz))) = _ from ss8 hk (a := 2) (by omega) _ _ _ _, bd3_mk, og32 hk (by omega)]
    rw [show (if nI k = 0 then bd1 (fX0_set 3 (nI y) (bq k 0 b0 2 (nI x))) (fun zz => some (zz, (bq k 1 b1 2 (nI x)), (bq k 2 b2 2 (nI x)))) else if nI k = 1 then bd1 (fX0_set 3 (nI y) (bq k 1 b1 2 (nI x))) (fun zz => some ((bq k 0 b0 2 (nI x)), zz, (bq k 2 b2 2 (nI x)))) else bd1 (fX0_set 3 (nI y) (bq k 2 b2 2 (nI x))) (fun zz => some ((bq k 0 b0 2 (nI x)), (bq k 1 b1 2 (nI x)), zz))) = _ from ss8 hk (a := 3) (by omega) _ _ _ _, bd3_mk]) (by
    unfold fX9_window
    rw [isb9y h1, bd1_mk, if_neg one0, in1 h4, bd1_mk, if_neg one0, in1 h5 (Int32.toInt_toInt64 _) rfl, bd1_mk, if_neg one0, i_21, i_22, se9 (by omega), bd1_mk, se9 (by omega), bd1_mk]) ⟨_, u2, w2, (FrH.up hk (by omega) _).tr (FrH.up hk (by omega) _)⟩
