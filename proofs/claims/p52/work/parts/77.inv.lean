/-! the relation between class and reference over a whole run (own rows) -/
/-- what was kept, and the reference's segment i -/
def SnK (t : KTy) (K : Nat → Int32) (KL : Nat → Int64) (i : Nat) : Prop :=
  Sn t.1 t.2.1 t.2.2.1 t.2.2.2.1 t.2.2.2.2.1 t.2.2.2.2.2.1 t.2.2.2.2.2.2.1 t.2.2.2.2.2.2.2.1 t.2.2.2.2.2.2.2.2.1 t.2.2.2.2.2.2.2.2.2.1 t.2.2.2.2.2.2.2.2.2.2.1 t.2.2.2.2.2.2.2.2.2.2.2 (fun j => K (178 * i + j)) (fun j => K (178 * i + 18 + j)) (fun j => K (178 * i + 153 + 2 * j)) (fun j => K (178 * i + 153 + 2 * j + 1)) (K (178 * i + 165)) (ob9 (K (178 * i + 167))) (ob9 (K (178 * i + 168))) (K (178 * i + 166)) (KL (2 * i)) (KL (2 * i + 1))
def KI (k : Nat) (ks : List Kob) (states : Int32) (K : Nat → Int32) (KL : Nat → Int64) : Prop :=
  k ≤ 8 ∧ states = nI k ∧ ∀ i, i < k → ∃ z, ks[i]? = some z ∧ SnK z.2 K KL i
theorem SnK.fr {t : KTy} {K K' : Nat → Int32} {KL KL' : Nat → Int64} {i k : Nat} (hi : i < k) (h : SnK t K KL i) (e1 : ∀ y, y < 178 * k → K' y = K y) (e2 : ∀ y, y < 2 * k → KL' y = KL y) : SnK t K' KL' i := by
  unfold SnK at h ⊢
  rw [e1 (178 * i + 165) (by omega), e1 (178 * i + 166) (by omega), e1 (178 * i + 167) (by omega), e1 (178 * i + 168) (by omega), e2 (2 * i) (by omega), e2 (2 * i + 1) (by omega)]
  exact Sn.cg h (fun _ _ => rfl) (fun _ _ => rfl) (fun _ _ => rfl) (fun _ _ => rfl) (fun _ _ => rfl) (fun _ _ => rfl) (fun j hj => e1 _ (by omega)) (fun j hj => e1 _ (by omega)) (fun j hj => e1 _ (by omega)) (fun j hj => e1 _ (by omega)) (Or.inr rfl) (Or.inr rfl)
theorem Sn.bo {row : Int32} {tr b0 b1 b2 : Nat → Int32} {op ov hrow : Int32} {pd rg : Int64} {htr hbt : Nat → Int32} {tree bs mv hmv : Nat → Int32} {moved pl on hmd : Int32} {pd9 rg9 : Int64} (h : Sn row tr b0 b1 b2 op ov hrow pd rg htr hbt tree bs mv hmv moved pl on hmd pd9 rg9) : boB op = true ∧ boB ov = true := by
  obtain ⟨_, _, hH⟩ := h
  rcases hH with ⟨a1, _, a3⟩ | ⟨a1, _, a3, _⟩
  · refine ⟨by rw [a1]; rfl, ?_⟩
    rcases a3 with a | a
    · rw [a]; rfl
    · rw [a]; rfl
  · refine ⟨by rw [a1]; rfl, ?_⟩
    rcases a3 with a | a
    · rw [a.1]; rfl
    · rw [a.1]; rfl
theorem cpy9 {f g : Nat → Int32} {i : Nat} (h : i < 9) : va_cpy f g 0 0 9 i = f i := by
  rw [pk_cpy_in (by omega) (by omega), Nat.zero_add, Nat.sub_zero]
theorem HQ.fr {tree bs tree' bs' : Nat → Int32} {op ov hrow : Int32} {pd rg : Int64} {htr hbt hmv : Nat → Int32} {pl on hmd : Int32} {pd9 rg9 : Int64} (h : HQ tree bs op ov hrow pd rg htr hbt hmv pl on hmd pd9 rg9) (e1 : ∀ y, 9 ≤ y → tree' y = tree y) (e2 : ∀ y, 108 ≤ y → bs' y = bs y) : HQ tree' bs' op ov hrow pd rg htr hbt hmv pl on hmd pd9 rg9 := by
  rcases h with h | ⟨a1, a2, a3, a4, a5, σ, β, q, g1, g2, g3, g4, g5, g6⟩
  · exact Or.inl h
  · exact Or.inr ⟨a1, a2, a3, a4, a5, σ, β, q, g1, fun i hi => by rw [e1 _ (by omega), g2 i hi], g3, g4, ⟨g5.1, fun i hi => by rw [e2 _ (by omega), g5.2 i hi]⟩, g6⟩
theorem FrB3.h {bs bs' : Nat → Int32} (h : FrB 3 bs bs') : ∀ y, 108 ≤ y → bs' y = bs y := fun y hy => h y (by omega)
theorem FrH.h {bs bs' : Nat → Int32} (h : FrH bs bs') : ∀ y, 108 ≤ y → bs' y = bs y := fun y hy => h y (by omega)
theorem RB3.fr {bs bs' : Nat → Int32} {B : Nat → Nat → Nat} (h : ∀ j, j < 3 → RB bs j (B j)) {l : Nat} (hl : 3 ≤ l) (hf : FrB l bs bs') : ∀ j, j < 3 → RB bs' j (B j) := fun j hj => (h j hj).fr (by omega) hf
theorem PQ.cg {τ : Nat → Nat} {row moved : Int32} {mv mv' : Nat → Int32} (h : PQ τ row mv moved) (hT : TK τ) (e : ∀ y, y < 6 → mv' y = mv y) : PQ τ row mv' moved := by
  obtain ⟨r, r1, r2, rd, re, rm, rv⟩ := h
  exact ⟨r, r1, r2, rd, re, rm, MV.cg (by have := hT.1.2; omega) e rv⟩
theorem PQ.tau {τ τ' : Nat → Nat} {row moved : Int32} {mv : Nat → Int32} (h : PQ τ row mv moved) (e : τ' 0 = τ 0) : PQ τ' row mv moved := by
  obtain ⟨r, r1, r2, rd, re, rm, rv⟩ := h
  exact ⟨r, r1, r2, by omega, re, rm, rv⟩
/-- keep, the reference's side -/
theorem kp9N {tree bs mv hm : Nat → Int32} {moved pl on hmd : Int32} {pd rg : Int64} {K : Nat → Int32} {KL : Nat → Int64} {ka tk : Int32} : fX9_keep tree bs mv hm moved pl on hmd pd rg (nI 8) K KL ka tk = some (-1, tree, bs, mv, hm, moved, pl, on, hmd, pd, rg, nI 8, K, KL, ka, tk) := by
  unfold fX9_keep
  rw [if_pos (show nI 8 = (8 : Int32) from rfl)]
theorem kp9 {row : Int32} {tr b0 b1 b2 : Nat → Int32} {op ov hrow : Int32} {cp cr : Int64} {htr hbt : Nat → Int32} {tree bs mv hm : Nat → Int32} {moved pl on hmd : Int32} {pd rg : Int64} {K : Nat → Int32} {KL : Nat → Int64} {ka tk : Int32} {k : Nat} (hk : k ≤ 7) (h : Sn row tr b0 b1 b2 op ov hrow cp cr htr hbt tree bs mv hm moved pl on hmd pd rg) {ks : List Kob} {st : Int32} (hi : KI k ks st K KL) : ∃ t1 t2 t3 t4 t5 t6 t7 t8 t9 t10 K' KL' ka' tk', fX9_keep tree bs mv hm moved pl on hmd pd rg st K KL ka tk = some (nI (k + 1), t1, t2, t3, t4, t5, t6, t7, t8, t9, t10, nI (k + 1), K', KL', ka', tk') ∧ Sn row tr b0 b1 b2 op ov hrow cp cr htr hbt t1 t2 t3 t4 t5 t6 t7 t8 t9 t10 ∧ ∀ u, keR ks k (row, tr, b0, b1, b2, op, ov, hrow, cp, cr, htr, hbt) u → KI (k + 1) u (nI (k + 1)) K' KL' := by
  obtain ⟨i1, i2, i3⟩ := hi
  subst i2
  obtain ⟨z, e, zz⟩ := ka_s k (by omega) tree bs mv hm moved pl on hmd pd rg K KL ka tk
  obtain ⟨t1, t2, t3, t4, t5, t6, t7, t8, t9, t10, K', KL', ka', tk'⟩ := z
  obtain ⟨⟨c1, c2, c3, c4, c5, c6, c7, c8, c9, c10⟩, ⟨g1, g2, g3, g4, g5, g6, g7, g8, g9, g10⟩, f1, f2⟩ := zz
  dsimp only at c1 c2 c3 c4 c5 c6 c7 c8 c9 c10 g1 g2 g3 g4 g5 g6 g7 g8 g9 g10 f1 f2
  refine ⟨t1, t2, t3, t4, t5, t6, t7, t8, t9, t10, K', KL', ka', tk', ?_, ?_, ?_⟩
  · unfold fX9_keep
    rw [if_neg (show ¬ nI k = (8 : Int32) from fun q => by have := (nI_eq (by omega) (by omega)).mp (show nI k = nI 8 from q); omega), e, bd14_mk, nm_mk, nI_1]
  · rw [c5, c8, c9, c10]
    exact Sn.cg h (fun _ _ => rfl) (fun _ _ => rfl) (fun _ _ => rfl) (fun _ _ => rfl) (fun _ _ => rfl) (fun _ _ => rfl) (fun j _ => c1 j) (fun j _ => c2 j) (fun j _ => c3 j) (fun j _ => c4 j) (Or.inl c6) (Or.inl c7)
  · rintro u ⟨ks1, w, h1, h2, h3⟩
    refine ⟨by omega, rfl, fun i hi => ?_⟩
    have hlt : k < ks1.length := (List.getElem?_eq_some_iff.mp h2).1
    by_cases e : i = k
    · subst e
      refine ⟨_, by rw [h3, List.getElem?_set_self hlt], ?_⟩
      unfold SnK
      rw [g5, g6, g7, g8, g9, g10]
      exact Sn.cg h (fun _ h => cpy9 h) (fun _ h => cpy36 h) (fun _ h => cpy36 h) (fun _ h => cpy36 h) (fun _ h => cpy9 h) (fun _ h => cpy36 h) (fun j hj => g1 j hj) (fun j hj => g2 j hj) (fun j hj => g3 j hj) (fun j hj => g4 j hj) (Or.inl rfl) (Or.inl rfl)
    · obtain ⟨w', w1, w2⟩ := i3 i (by omega)
      refine ⟨w', ?_, w2.fr (k := k) (by omega) f1 f2⟩
      rw [h3, List.getElem?_set_ne (by omega)]
      rcases h1 with h1 | ⟨h1, v, h4⟩
      · rw [h1]; exact w1
      · rw [h4, List.getElem?_append_left (by omega)]; exact w1
/-- undo, the reference's side -/
theorem un9N {tree bs mv hm : Nat → Int32} {moved pl on hmd : Int32} {pd rg : Int64} {K : Nat → Int32} {KL : Nat → Int64} {ka tk : Int32} : fX9_undo tree bs mv hm moved pl on hmd pd rg (nI 0) K KL ka tk = some (-1, tree, bs, mv, hm, moved, pl, on, hmd, pd, rg, nI 0, K, KL, ka, tk) := by
  unfold fX9_undo
  rw [if_pos (show nI 0 = (0 : Int32) from rfl)]
theorem un9 {tree bs mv hm : Nat → Int32} {moved pl on hmd : Int32} {pd rg : Int64} {K : Nat → Int32} {KL : Nat → Int64} {ka tk : Int32} {k : Nat} {ks : List Kob} {st : Int32} (hi : KI (k + 1) ks st K KL) (now : KTy) : ∃ t1 t2 t3 t4 t5 t6 t7 t8 t9 t10 ka' tk' z, fX9_undo tree bs mv hm moved pl on hmd pd rg st K KL ka tk = some (nI k, t1, t2, t3, t4, t5, t6, t7, t8, t9, t10, nI k, K, KL, ka', tk') ∧ ks[k]? = some z ∧ (boB z.2.2.2.2.2.2.1 = true ∧ boB z.2.2.2.2.2.2.2.1 = true) ∧ KI k ks (nI k) K KL ∧ ∀ w, w = tkF now z.2 → Sn w.1 w.2.1 w.2.2.1 w.2.2.2.1 w.2.2.2.2.1 w.2.2.2.2.2.1 w.2.2.2.2.2.2.1 w.2.2.2.2.2.2.2.1 w.2.2.2.2.2.2.2.2.1 w.2.2.2.2.2.2.2.2.2.1 w.2.2.2.2.2.2.2.2.2.2.1 w.2.2.2.2.2.2.2.2.2.2.2 t1 t2 t3 t4 t5 t6 t7 t8 t9 t10 := by
  obtain ⟨i1, i2, i3⟩ := hi
  subst i2
  obtain ⟨z, e, zz⟩ := ka_r k (by omega) tree bs mv hm moved pl on hmd pd rg K KL ka tk
  obtain ⟨t1, t2, t3, t4, t5, t6, t7, t8, t9, t10, K', KL', ka', tk'⟩ := z
  obtain ⟨⟨g1, g2, g3, g4, g5, g6, g7, g8, g9, g10⟩, f1, f2⟩ := zz
  dsimp only at g1 g2 g3 g4 g5 g6 g7 g8 g9 g10 f1 f2
  subst f1 f2
  obtain ⟨z, z1, z2⟩ := i3 k (by omega)
  refine ⟨t1, t2, t3, t4, t5, t6, t7, t8, t9, t10, ka', tk', z, ?_, z1, Sn.bo z2, ⟨by omega, rfl, fun i hi => i3 i (by omega)⟩, ?_⟩
  · unfold fX9_undo
    rw [if_neg (show ¬ nI (k + 1) = (0 : Int32) from nI_ne0 (by omega) (by omega)), nm_mk, i_1, pk_sub (by omega), Nat.add_sub_cancel, e, bd14_mk]
  · intro w hw
    rw [hw]
    unfold SnK at z2
    rw [g5, g6, g7, g8, g9, g10] at z2
    exact Sn.cg z2 (fun _ h => cpy9 h) (fun _ h => cpy36 h) (fun _ h => cpy36 h) (fun _ h => cpy36 h) (fun _ h => cpy9 h) (fun _ h => cpy36 h) (fun j hj => (g1 j hj).symm) (fun j hj => (g2 j hj).symm) (fun j hj => (g3 j hj).symm) (fun j hj => (g4 j hj).symm) (Or.inr rfl) (Or.inr rfl)
theorem nz01 (x : Int32) : nz x = 0 ∨ nz x = 1 := by
  unfold nz
  by_cases h : x = 0
  · rw [if_pos h]; exact Or.inl rfl
  · rw [if_neg h]; exact Or.inr rfl
/-- the fresh object and the fresh reference -/
def mI0 : (Nat → Int32) × (Nat → Int32) := fX9_init.getD (fun _ => 0, fun _ => 0)
def mT0 : Nat → Int32 := mI0.1
def mB0 : Nat → Int32 := mI0.2
theorem fx9s : fX9_init.isSome = true := by decide +kernel
theorem fx9e : fX9_init = some (mT0, mB0) := by
  have h := fx9s
  unfold mT0 mB0 mI0
  cases e : fX9_init with
  | none => rw [e] at h; cases h
  | some q => rfl
theorem sbH0 : sbH [] 16 (fun _ => 0) := by
  refine ⟨?_, ?_, Nat.zero_le _⟩
  · intro i h
    exact absurd h (Nat.not_lt_zero _)
  · intro i
    exact (by decide : fits FieldType.byte (Value.int 0) = true)
def tau0 : Nat → Nat := fun i => if i = 0 then 3 else if i = 1 then 100 else if i = 2 then 6 else if i = 3 then 5 else if i = 4 then 5 else if i = 5 then 6 else if i = 6 then 1 else if i = 7 then 2 else 0
def bet0 : Nat → Nat := fun i => if i = 0 then 10000 else if i = 1 then 100 else if i = 22 then 6 else if i = 24 then 1 else 0
theorem fC0 : TC tP0 tau0 := by
  have h : ∀ i, i < 9 → tP0 i = nI (tau0 i) := by decide +kernel
  exact h
theorem fR0 : TR mT0 0 tau0 := by
  have h : ∀ i, i < 9 → mT0 (0 + i) = nI (tau0 i) := by decide +kernel
  exact h
theorem fK0 : TK tau0 := by decide +kernel
theorem bet0_b : BK bet0 := by
  have h1 : ∀ t, t < 7 → bet0 (2 + t) ≤ 1000 := by decide +kernel
  have h2 : ∀ t, t < 6 → bet0 (9 + t) ≤ 1000001 := by decide +kernel
  have h3 : ∀ t, t < 6 → bet0 (15 + t) ≤ 1000001 := by decide +kernel
  exact ⟨by decide, by decide, fun t _ h => h1 t (by omega), h2, h3, by decide, by decide, by decide, by decide, by decide, by decide⟩
theorem bet0_c : CB bT0 bet0 := by
  have h : ∀ i, i < 27 → i ≠ 2 → bT0 (cI i) = eI bet0 i := by decide +kernel
  exact CB.v h
theorem fB0 : CB3 bT0 bT0 bT0 (fun _ => bet0) := by
  intro k hk
  have e : bsel k bT0 bT0 bT0 = bT0 := by unfold bsel; split <;> (try split) <;> rfl
  rw [e]
  exact ⟨bet0_c, bet0_b⟩
theorem fb0 : ∀ k, k < 3 → RB mB0 k ((fun _ => bet0 : Nat → Nat → Nat) k) := by
  have h : ∀ k, k < 3 → ∀ i, i < 27 → mB0 (27 * k + i) = rI bet0 i := by decide +kernel
  exact fun k hk => ⟨by omega, h k hk⟩
theorem fBC0 : BCT bT0 bT0 bT0 mB0 (fun _ => bet0) := ⟨fB0, fb0⟩
theorem fP0 : PQ tau0 1 (fun _ => 0) 0 := ⟨1, by omega, by omega, by decide +kernel, rfl, by decide +kernel, MV.one⟩
theorem fT0 : TPQ 0 (fun _ => 0) (fun _ => 0) 0 := ⟨0, fun _ => 0, by omega, rfl, rfl, fun i hi => absurd hi (by omega)⟩
theorem KI0 : KI 0 [] 0 (fun _ => 0) (fun _ => 0) := ⟨by omega, rfl, fun i hi => absurd hi (by omega)⟩
theorem Sn0 : Sn 1 tP0 bT0 bT0 bT0 0 0 1 0 0 tP0 bT0 mT0 mB0 (fun _ => 0) (fun _ => 0) 0 0 0 0 0 0 := ⟨⟨tau0, ⟨fC0, fR0, fK0⟩, fP0⟩, ⟨_, fBC0⟩, Or.inl ⟨rfl, rfl, Or.inl rfl⟩⟩
