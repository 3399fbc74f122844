/-! pure: all kept by the reference, and the relation of a snapshot (own rows) -/
def nb9 (x : Int32) : Int32 := if x = 0 then 0 else 1
theorem nb9_ite (x : Int32) : (if x = 0 then (some 0 : Option Int32) else some 1) = some (nb9 x) := by
  unfold nb9
  by_cases h : x = 0
  · rw [if_pos h, if_pos h]
  · rw [if_neg h, if_neg h]
def ob9 (x : Int32) : Int32 := if x = 1 then 1 else 0
theorem ob9_ite (x : Int32) : (if x = 1 then (some 1 : Option Int32) else some 0) = some (ob9 x) := by
  unfold ob9
  by_cases h : x = 1
  · rw [if_pos h, if_pos h]
  · rw [if_neg h, if_neg h]
theorem ob9_bo (x : Int32) : boB (ob9 x) = true := by
  unfold ob9
  by_cases h : x = 1
  · rw [if_pos h]; rfl
  · rw [if_neg h]; rfl
/-- segment s of the kept numbers is this -/
def Seg (K : Nat → Int32) (KL : Nat → Int64) (s : Nat) (tree bonds mv hm : Nat → Int32) (moved pl on hmd : Int32) (pd rg : Int64) : Prop :=
  (∀ j, j < 18 → K (178 * s + j) = tree j) ∧ (∀ j, j < 135 → K (178 * s + 18 + j) = bonds j) ∧ (∀ j, j < 6 → K (178 * s + 153 + 2 * j) = mv j) ∧ (∀ j, j < 6 → K (178 * s + 153 + 2 * j + 1) = hm j) ∧ K (178 * s + 165) = moved ∧ K (178 * s + 166) = hmd ∧ ob9 (K (178 * s + 167)) = pl ∧ ob9 (K (178 * s + 168)) = on ∧ KL (2 * s) = pd ∧ KL (2 * s + 1) = rg
theorem ka_s (s : Nat) (hs : s < 8) (tree bonds mv hm : Nat → Int32) (moved pl on hmd : Int32) (pd rg : Int64) (K : Nat → Int32) (KL : Nat → Int64) (ka tk : Int32) : Sx (fX9_keepsAll 1 tree bonds mv hm moved pl on hmd pd rg (nI s) K KL ka tk) (fun z => ((∀ y, z.1 y = tree y) ∧ (∀ y, z.2.1 y = bonds y) ∧ (∀ y, z.2.2.1 y = mv y) ∧ (∀ y, z.2.2.2.1 y = hm y) ∧ z.2.2.2.2.1 = moved ∧ z.2.2.2.2.2.1 = ob9 (nb9 pl) ∧ z.2.2.2.2.2.2.1 = ob9 (nb9 on) ∧ z.2.2.2.2.2.2.2.1 = hmd ∧ z.2.2.2.2.2.2.2.2.1 = pd ∧ z.2.2.2.2.2.2.2.2.2.1 = rg) ∧ Seg z.2.2.2.2.2.2.2.2.2.2.1 z.2.2.2.2.2.2.2.2.2.2.2.1 s tree bonds mv hm moved (ob9 (nb9 pl)) (ob9 (nb9 on)) hmd pd rg ∧ (∀ y, y < 178 * s → z.2.2.2.2.2.2.2.2.2.2.1 y = K y) ∧ (∀ y, y < 2 * s → z.2.2.2.2.2.2.2.2.2.2.2.1 y = KL y)) := by
  obtain ⟨n1, h1⟩ := fu_s 18 (by decide)
  obtain ⟨n2, h2⟩ := fu_s 135 (by decide)
  obtain ⟨n3, h3⟩ := fu_s 6 (by decide)
  have e1 : (178 : Int32) * nI s = nI (178 * s) := by rw [show (178 : Int32) = nI 178 from rfl, pk_mul]
  have e2 : (2 : Int32) * nI s = nI (2 * s) := by rw [show (2 : Int32) = nI 2 from rfl, pk_mul]
  have e3 : nI (2 * s) + 1 = nI (2 * s + 1) := by rw [i_1, nI_add]
  unfold fX9_keepsAll
  rw [e1, e2, e3]
  refine Sx.og rfl (Sx.nm ?_)
  rw [h1]
  refine Sx.b3 (kp19s 1 tree 18 n1 0 (178 * s) tree K (by omega) (by omega) (fun _ => rfl)) ?_
  rintro t1 K1 a1 ⟨t1e, K1e, a1e⟩
  dsimp only at t1e K1e a1e ⊢
  subst a1e
  rw [← h1, h2]
  refine Sx.b3 (kp49s 1 bonds 135 n2 0 (178 * s + 18) bonds K1 (by omega) (by omega) (fun _ => rfl)) ?_
  rintro t2 K2 a2 ⟨t2e, K2e, a2e⟩
  dsimp only at t2e K2e a2e ⊢
  subst a2e
  rw [← h2, h3]
  refine Sx.b4 (kp80s 1 mv hm 6 n3 0 (178 * s + 18 + 135) mv hm K2 (by omega) (by omega) (fun _ => rfl) (fun _ => rfl)) ?_
  rintro t3 t4 K3 a3 ⟨t3e, t4e, K3e, a3e⟩
  dsimp only at t3e t4e K3e a3e ⊢
  subst a3e
  rw [ks1 _ _ (by omega), bd3_mk, ks1 _ _ (by omega), bd3_mk, nb9_ite, bd1_mk, ks1 _ _ (by omega), bd3_mk, ob9_ite, bd1_mk]
  refine Sx.og (ob9_bo _) ?_
  rw [nb9_ite, bd1_mk, ks1 _ _ (by omega), bd3_mk, ob9_ite, bd1_mk]
  refine Sx.og (ob9_bo _) ?_
  rw [if_neg one0, og32 (by omega) (by omega), nm_mk, nI_clamp (by omega), og32 (by omega) (by omega), nm_mk, nI_clamp (by omega), bd1_mk, og32 (by omega) (by omega), nm_mk, og32 (by omega) (by omega), nm_mk]
  have f : ∀ y, y < 178 * s + 165 ∨ 178 * s + 169 ≤ y → upd (upd (upd (upd K3 (178 * s + 18 + 135 + 2 * 6) moved) (178 * s + 18 + 135 + 2 * 6 + 1) hmd) (178 * s + 18 + 135 + 2 * 6 + 1 + 1) (nb9 pl)) (178 * s + 18 + 135 + 2 * 6 + 1 + 1 + 1) (nb9 on) y = K3 y := fun y hy => by
    rw [upS, if_neg (by omega), upS, if_neg (by omega), upS, if_neg (by omega), upS, if_neg (by omega)]
  have l0 : vp_updL (vp_updL KL (2 * s) pd) (2 * s + 1) rg (2 * s) = pd := by rw [upL, if_neg (by omega), upL, if_pos rfl]
  have l1 : vp_updL (vp_updL KL (2 * s) pd) (2 * s + 1) rg (2 * s + 1) = rg := by rw [upL, if_pos rfl]
  refine Sx.mk ⟨⟨t1e, t2e, t3e, t4e, rfl, rfl, rfl, rfl, l0, l1⟩, ⟨?_, ?_, ?_, ?_, ?_, ?_, ?_, ?_, l0, l1⟩, ?_, ?_⟩
  · intro j hj
    show upd _ _ _ _ = _
    rw [f _ (by omega), K3e, if_neg (by omega), K2e, if_neg (by omega), K1e, if_pos (by omega)]
    congr 1; omega
  · intro j hj
    show upd _ _ _ _ = _
    rw [f _ (by omega), K3e, if_neg (by omega), K2e, if_pos (by omega)]
    congr 1; omega
  · intro j hj
    show upd _ _ _ _ = _
    rw [f _ (by omega), K3e, if_pos (by omega), if_pos (by omega)]
    congr 1; omega
  · intro j hj
    show upd _ _ _ _ = _
    rw [f _ (by omega), K3e, if_pos (by omega), if_neg (by omega)]
    congr 1; omega
  · show upd _ _ _ _ = _
    rw [upS, if_neg (by omega), upS, if_neg (by omega), upS, if_neg (by omega), upS, if_pos (by omega)]
  · show upd _ _ _ _ = _
    rw [upS, if_neg (by omega), upS, if_neg (by omega), upS, if_pos (by omega)]
  · show ob9 (upd _ _ _ _) = _
    rw [upS, if_neg (by omega), upS, if_pos (by omega)]
  · show ob9 (upd _ _ _ _) = _
    rw [upS, if_pos (by omega)]
  · intro y hy
    show upd _ _ _ _ = _
    rw [f _ (by omega), K3e, if_neg (by omega), K2e, if_neg (by omega), K1e, if_neg (by omega)]
  · intro y hy
    show vp_updL _ _ _ _ = _
    rw [upL, if_neg (by omega), upL, if_neg (by omega)]
theorem ka_r (s : Nat) (hs : s < 8) (tree bonds mv hm : Nat → Int32) (moved pl on hmd : Int32) (pd rg : Int64) (K : Nat → Int32) (KL : Nat → Int64) (ka tk : Int32) : Sx (fX9_keepsAll 0 tree bonds mv hm moved pl on hmd pd rg (nI s) K KL ka tk) (fun z => (Seg K KL s z.1 z.2.1 z.2.2.1 z.2.2.2.1 z.2.2.2.2.1 z.2.2.2.2.2.1 z.2.2.2.2.2.2.1 z.2.2.2.2.2.2.2.1 z.2.2.2.2.2.2.2.2.1 z.2.2.2.2.2.2.2.2.2.1) ∧ z.2.2.2.2.2.2.2.2.2.2.1 = K ∧ z.2.2.2.2.2.2.2.2.2.2.2.1 = KL) := by
  obtain ⟨n1, h1⟩ := fu_s 18 (by decide)
  obtain ⟨n2, h2⟩ := fu_s 135 (by decide)
  obtain ⟨n3, h3⟩ := fu_s 6 (by decide)
  have e1 : (178 : Int32) * nI s = nI (178 * s) := by rw [show (178 : Int32) = nI 178 from rfl, pk_mul]
  have e2 : (2 : Int32) * nI s = nI (2 * s) := by rw [show (2 : Int32) = nI 2 from rfl, pk_mul]
  have e3 : nI (2 * s) + 1 = nI (2 * s + 1) := by rw [i_1, nI_add]
  unfold fX9_keepsAll
  rw [e1, e2, e3]
  refine Sx.og rfl (Sx.nm ?_)
  rw [h1]
  refine Sx.b3 (kp19r 0 K 18 n1 0 (178 * s) tree (by omega) (by omega)) ?_
  rintro t1 K1 a1 ⟨t1e, K1e, a1e⟩
  dsimp only at t1e K1e a1e ⊢
  subst a1e K1e
  rw [← h1, h2]
  refine Sx.b3 (kp49r 0 K1 135 n2 0 (178 * s + 18) bonds (by omega) (by omega)) ?_
  rintro t2 K2 a2 ⟨t2e, K2e, a2e⟩
  dsimp only at t2e K2e a2e ⊢
  subst a2e K2e
  rw [← h2, h3]
  refine Sx.b4 (kp80r 0 K2 6 n3 0 (178 * s + 18 + 135) mv hm (by omega) (by omega)) ?_
  rintro t3 t4 K3 a3 ⟨t3e, t4e, K3e, a3e⟩
  dsimp only at t3e t4e K3e a3e ⊢
  subst a3e K3e
  rw [ks0 _ _ (by omega), bd3_mk, ks0 _ _ (by omega), bd3_mk, nb9_ite, bd1_mk, ks0 _ _ (by omega), bd3_mk, ob9_ite, bd1_mk]
  refine Sx.og (ob9_bo _) ?_
  rw [nb9_ite, bd1_mk, ks0 _ _ (by omega), bd3_mk, ob9_ite, bd1_mk]
  refine Sx.og (ob9_bo _) ?_
  rw [if_pos rfl, bd1_mk, og32 (by omega) (by omega), nm_mk, nI_clamp (by omega), og32 (by omega) (by omega), nm_mk, nI_clamp (by omega)]
  refine Sx.mk ⟨⟨?_, ?_, ?_, ?_, rfl, rfl, rfl, rfl, rfl, rfl⟩, rfl, rfl⟩
  · intro j hj
    show _ = t1 j
    rw [t1e, if_pos (by omega)]
    rfl
  · intro j hj
    show _ = t2 j
    rw [t2e, if_pos (by omega)]
    rfl
  · intro j hj
    show _ = t3 j
    rw [t3e, if_pos (by omega)]
    rfl
  · intro j hj
    show _ = t4 j
    rw [t4e, if_pos (by omega)]
    rfl
/-- class and reference alike, as far as keep goes -/
def Sn (row : Int32) (tr b0 b1 b2 : Nat → Int32) (op ov hrow : Int32) (pd rg : Int64) (htr hbt : Nat → Int32) (tree bs mv hmv : Nat → Int32) (moved pl on hmd : Int32) (pd9 rg9 : Int64) : Prop :=
  (∃ τ, TCT tr tree τ ∧ PQ τ row mv moved) ∧ (∃ B, BCT b0 b1 b2 bs B) ∧ HQ tree bs op ov hrow pd rg htr hbt hmv pl on hmd pd9 rg9
theorem TC.cg {f g : Nat → Int32} {τ : Nat → Nat} (e : ∀ i, i < 9 → g i = f i) (h : TC f τ) : TC g τ := fun i hi => by rw [e i hi, h i hi]
theorem CB.cg {f g : Nat → Int32} {β : Nat → Nat} (e : ∀ i, i < 36 → g i = f i) (h : CB f β) : CB g β := by
  obtain ⟨⟨⟨a0, a1⟩, ⟨a2, a3⟩, ⟨a4, a5, a6⟩, a7⟩, c, d, k⟩ := h
  exact ⟨⟨⟨by rw [e _ (by omega), a0], by rw [e _ (by omega), a1]⟩, ⟨by rw [e _ (by omega), a2], by rw [e _ (by omega), a3]⟩, ⟨by rw [e _ (by omega), a4], by rw [e _ (by omega), a5], by rw [e _ (by omega), a6]⟩, by rw [e _ (by omega), a7]⟩, fun t h1 h2 => by rw [e _ (by omega), c t h1 h2], fun t h1 => by rw [e _ (by omega), d t h1], fun t h1 => by rw [e _ (by omega), k t h1]⟩
theorem RB.cg {f g : Nat → Int32} {k : Nat} {β : Nat → Nat} (e : ∀ i, i < 135 → g i = f i) (h : RB f k β) : RB g k β := ⟨h.1, fun i hi => by rw [e _ (by have := h.1; omega), h.2 i hi]⟩
theorem TR.cg {f g : Nat → Int32} {o : Nat} {τ : Nat → Nat} (ho : o ≤ 9) (e : ∀ i, i < 18 → g i = f i) (h : TR f o τ) : TR g o τ := fun i hi => by rw [e _ (by omega), h i hi]
theorem MV.cg {f g : Nat → Int32} {r : Nat} (hr : dR r ≤ 6) (e : ∀ i, i < 6 → g i = f i) (h : MV f r) : MV g r := fun i hi => by rw [e i (by omega), h i hi]
theorem bsel_cg {b0 b1 b2 d0 d1 d2 : Nat → Int32} (e0 : ∀ i, i < 36 → d0 i = b0 i) (e1 : ∀ i, i < 36 → d1 i = b1 i) (e2 : ∀ i, i < 36 → d2 i = b2 i) (k : Nat) (hk : k < 3) : ∀ i, i < 36 → bsel k d0 d1 d2 i = bsel k b0 b1 b2 i := by
  match k, hk with
  | 0, _ => exact e0
  | 1, _ => exact e1
  | 2, _ => exact e2
theorem Sn.cg {row : Int32} {tr b0 b1 b2 : Nat → Int32} {op ov hrow : Int32} {pd rg : Int64} {htr hbt : Nat → Int32} {tree bs mv hmv : Nat → Int32} {moved pl on hmd : Int32} {pd9 rg9 : Int64} {tr' b0' b1' b2' htr' hbt' tree' bs' mv' hmv' : Nat → Int32} {pl' on' : Int32} (h : Sn row tr b0 b1 b2 op ov hrow pd rg htr hbt tree bs mv hmv moved pl on hmd pd9 rg9)
    (c1 : ∀ i, i < 9 → tr' i = tr i) (c2 : ∀ i, i < 36 → b0' i = b0 i) (c3 : ∀ i, i < 36 → b1' i = b1 i) (c4 : ∀ i, i < 36 → b2' i = b2 i) (c5 : ∀ i, i < 9 → htr' i = htr i) (c6 : ∀ i, i < 36 → hbt' i = hbt i) (d1 : ∀ i, i < 18 → tree' i = tree i) (d2 : ∀ i, i < 135 → bs' i = bs i) (d3 : ∀ i, i < 6 → mv' i = mv i) (d4 : ∀ i, i < 6 → hmv' i = hmv i) (d5 : pl' = ob9 (nb9 pl) ∨ pl' = pl) (d6 : on' = ob9 (nb9 on) ∨ on' = on) :
    Sn row tr' b0' b1' b2' op ov hrow pd rg htr' hbt' tree' bs' mv' hmv' moved pl' on' hmd pd9 rg9 := by
  obtain ⟨⟨τ, ⟨h1, h2, h3⟩, r, r1, r2, rd, re, rm, rv⟩, ⟨B, hB, hR⟩, hH⟩ := h
  refine ⟨⟨τ, ⟨TC.cg c1 h1, TR.cg (by omega) d1 h2, h3⟩, r, r1, r2, rd, re, rm, MV.cg (by have := h3.1.2; omega) d3 rv⟩, ⟨B, fun k hk => ⟨CB.cg (bsel_cg c2 c3 c4 k hk) (hB k hk).1, (hB k hk).2⟩, fun j hj => RB.cg d2 (hR j hj)⟩, ?_⟩
  rcases hH with ⟨a1, a2, a3⟩ | ⟨a1, a2, a3, a4, a5, σ, β, q, g1, g2, g3, g4, g5, g6, g7, g8, g9, g10, g11, g12⟩
  · refine Or.inl ⟨a1, ?_, a3⟩
    rcases d5 with e | e
    · rw [e, a2]; rfl
    · rw [e, a2]
  · refine Or.inr ⟨a1, ?_, ?_, a4, a5, σ, β, q, TC.cg c5 g1, TR.cg (by omega) d1 g2, g3, CB.cg c6 g4, RB.cg d2 g5, g6, g7, g8, g9, g10, g11, MV.cg (by have := g3.1.2; omega) d4 g12⟩
    · rcases d5 with e | e
      · rw [e, a2]; rfl
      · rw [e, a2]
    · rcases a3 with ⟨b1, b2⟩ | ⟨b1, b2⟩
      · refine Or.inl ⟨b1, ?_⟩
        rcases d6 with e | e
        · rw [e, b2]; rfl
        · rw [e, b2]
      · refine Or.inr ⟨b1, ?_⟩
        rcases d6 with e | e
        · rw [e, b2]; rfl
        · rw [e, b2]
