section
/-! pure: byRule (own rows) -/
theorem ite10 {c : Prop} [Decidable c] : ((if c then (1 : Int32) else 0) = 0) = ¬ c := by
  by_cases h : c
  · rw [if_pos h]; exact propext ⟨fun q => absurd q one0, fun q => absurd h q⟩
  · rw [if_neg h]; exact propext ⟨fun _ => h, fun _ => rfl⟩
theorem rl9 {bs : Nat → Int32} {pe wo : Nat → Int64} {ac : Nat → Int32} {k T p q R : Nat} {β : Nat → Nat} {π : Nat → Nat → Nat} (hb : RB bs k β) (hK : BK β) (hp : PK π) (hP : RP pe T π) (hN : NK T p q R) {x y : Nat} (hx : x ≤ 1000000) (hy : y ≤ 1000000) {t j u m va vb : Nat} (hm : m < 8) (hok : okS t j u) (ht : t < T) (h1 : wo (atN (t + 1) (j + 1) 1 (mkF π β m (t + 1) (j + 1))) = lN va) (h0 : wo (atN (t + 1) j 0 (mkF π β m (t + 1) j)) = lN vb) (ha : va ≤ 64000000007000) (hbb : vb ≤ 64000000007000) : fX9_laysByRule (nI k) (nI t) (nI j) (nI u) (nI m) (nI x) (nI y) bs (nI T) (nI p) (nI q) (nI R) pe wo ac = some (vp_updL wo (atN t j u m) (lN (rV x y π β t j u m (mn p q R va vb))), upd ac (atN t j u m) (nI (rA x y π β t j u m))) := by
  unfold fX9_laysByRule
  have l1 : atN t j u m < 784 := atN_lt (by omega) (by omega) (by omega) hm
  have htu := tuS_le hp hK t j u
  have hcg := cgS_le hp hK t j u
  have hca := caL_le hK t
  have hcp := cpF_le hK t
  have hpe := hp t j
  have hh : mn p q R va vb ≤ 64000000007000 := mn_le (by omega) (by omega) ha hbb
  simp only [at9, bd1_mk, tu9 hb hK hp hP hN.1.2 hok (show t ≤ T by omega), fr9 hb hK hN.1.2 ht hm, cp9 hb (show t ≤ 6 by omega), ho9 hb hK hp hP hN (nI u) (show j ≤ t by omega) hm ht h1 h0 (by omega) (by omega), ca9 hb hN.1.2 ht, cg9 hb hK hp hP hN.1.2 hok ht, og32 l1 (show 784 < 2 ^ 31 by omega), nm_mk, nI_clamp (show atN t j u m < 2 ^ 31 by omega), i_7, pk_mul, nI_add, og32 (show 7 * t + j < 49 by omega) (show 49 < 2 ^ 31 by omega), nI_clamp (show 7 * t + j < 2 ^ 31 by omega), hP t j hok.1 (show t ≤ T by omega), nI_l (show x < 2 ^ 31 by omega), nI_l (show y < 2 ^ 31 by omega), nI_l (show cpF β t < 2 ^ 31 by omega), pk_lLT (a := π t j) (b := x) (by omega) (by omega), pk_lLT (a := π t j) (b := y) (by omega) (by omega), lM_m1 (e := tuS π β t j u) (by omega), iM_l (e := caL β t) (by omega), lM_le (a := tuS π β t j u) (b := caL β t) (by omega) (by omega), ite10]
  generalize mn p q R va vb = h at *
  have e34 : (if tuS π β t j u ≤ caL β t then some (3 : Int32) else some 4) = some (nI (if caL β t < tuS π β t j u then 4 else 3)) := by
    by_cases g : caL β t < tuS π β t j u
    · rw [if_neg (by omega), if_pos g]; rfl
    · rw [if_pos (by omega), if_neg g]; rfl
  unfold rV rA
  rw [e34]
  simp only [bd1_mk]
  have hC : (if ¬ frF β t m then some (vp_updL wo (atN t j u m) (lN (cpF β t) + lN h), upd ac (atN t j u m) 0) else if π t j < y then some (vp_updL wo (atN t j u m) (lN (cpF β t) + lN h), upd ac (atN t j u m) 0) else some (vp_updL wo (atN t j u m) (lN (cpF β t) + lM (cgS π β t j u)), upd ac (atN t j u m) (nI (if caL β t < tuS π β t j u then 4 else 3)))) = some (vp_updL wo (atN t j u m) (lN (cpF β t + if rC π β y t j m then cgS π β t j u - 1 else h)), upd ac (atN t j u m) (nI (if rC π β y t j m then (if caL β t < tuS π β t j u then 4 else 3) else 0))) := by
    by_cases g1 : frF β t m
    · rw [if_neg (fun q => q g1)]
      by_cases g2 : π t j < y
      · rw [if_pos g2, if_neg (fun q : rC π β y t j m => by have := q.2; omega), if_neg (fun q : rC π β y t j m => by have := q.2; omega), lN_add]; rfl
      · rw [if_neg g2, if_pos (show rC π β y t j m from ⟨g1, by omega⟩), if_pos (show rC π β y t j m from ⟨g1, by omega⟩)]
        obtain ⟨z, hz⟩ : ∃ z, cgS π β t j u = z + 1 := ⟨cgS π β t j u - 1, by have : caL β t ≤ cgS π β t j u := Nat.le_max_left _ _; have := g1.1; omega⟩
        rw [hz, lM_s, lN_add, Nat.add_sub_cancel]
    · rw [if_pos g1, if_neg (fun q : rC π β y t j m => g1 q.1), if_neg (fun q : rC π β y t j m => g1 q.1), lN_add]; rfl
  rw [hC]
  by_cases g3 : tuS π β t j u = 0
  · rw [if_pos g3, bd2_mk, if_neg (fun q : rT π β x t j u => q.1 g3), if_neg (fun q : rT π β x t j u => q.1 g3)]
  · rw [if_neg g3]
    by_cases g4 : π t j < x
    · rw [if_pos g4, bd2_mk, if_neg (fun q : rT π β x t j u => by have := q.2; omega), if_neg (fun q : rT π β x t j u => by have := q.2; omega)]
    · rw [if_neg g4, bd2_mk, if_pos (show rT π β x t j u from ⟨g3, by omega⟩), if_pos (show rT π β x t j u from ⟨g3, by omega⟩)]
      obtain ⟨z, hz⟩ : ∃ z, tuS π β t j u = z + 1 := ⟨tuS π β t j u - 1, by omega⟩
      rw [hz, lM_s, lN_add, Nat.add_sub_cancel]; rfl
def GR (x y : Nat) (π : Nat → Nat → Nat) (T p q R : Nat) (β : Nat → Nat) (D : Nat → Nat → Nat → Nat → Prop) (wo : Nat → Int64) (ac : Nat → Int32) : Prop := ∀ t j u m, t ≤ T → okM π β t j u m → D t j u m → wo (atN t j u m) = lN (vG π T p q R β (rV x y π β) (T - t) j u m) ∧ ac (atN t j u m) = nI (if t = T then enA π T β j u else rA x y π β t j u m)
theorem GR.sub {x y : Nat} {π : Nat → Nat → Nat} {T p q R : Nat} {β : Nat → Nat} {D D' : Nat → Nat → Nat → Nat → Prop} {wo : Nat → Int64} {ac : Nat → Int32} (h : GR x y π T p q R β D wo ac) (g : ∀ t j u m, t ≤ T → okM π β t j u m → D' t j u m → D t j u m) : GR x y π T p q R β D' wo ac := fun t j u m a b c => h t j u m a b (g t j u m a b c)
theorem GR.up {x y : Nat} {π : Nat → Nat → Nat} {T p q R : Nat} {β : Nat → Nat} {D D' : Nat → Nat → Nat → Nat → Prop} {wo : Nat → Int64} {ac : Nat → Int32} {t0 j0 u0 m0 : Nat} (hT : T ≤ 6) (ht : t0 < T) (hk : okS t0 j0 u0) (hm : m0 < 8) (h : GR x y π T p q R β D wo ac) (g : ∀ t j u m, t ≤ T → okM π β t j u m → D' t j u m → D t j u m ∨ (t = t0 ∧ j = j0 ∧ u = u0 ∧ m = m0)) {a : Int64} {c : Int32} (ea : a = lN (vG π T p q R β (rV x y π β) (T - t0) j0 u0 m0)) (ec : c = nI (rA x y π β t0 j0 u0 m0)) : GR x y π T p q R β D' (vp_updL wo (atN t0 j0 u0 m0) a) (upd ac (atN t0 j0 u0 m0) c) := by
  intro t j u m h1 h2 h3
  rw [upL, upS]
  by_cases e : atN t j u m = atN t0 j0 u0 m0
  · obtain ⟨rfl, rfl, rfl, rfl⟩ := atN_inj (by omega) (by omega) (by omega) (by omega) (by omega) (by omega) e
    rw [if_pos rfl, if_pos rfl, if_neg (by omega)]
    exact ⟨ea, ec⟩
  · rw [if_neg e, if_neg e]
    rcases g t j u m h1 h2 h3 with g | ⟨rfl, rfl, rfl, rfl⟩
    · exact h t j u m h1 h2 g
    · exact absurd rfl e
theorem r83 {bs : Nat → Int32} {pe : Nat → Int64} {k T p q R : Nat} {β : Nat → Nat} {π : Nat → Nat → Nat} (hb : RB bs k β) (hK : BK β) (hp : PK π) (hP : RP pe T π) (hN : NK T p q R) {x y : Nat} (hx : x ≤ 1000000) (hy : y ≤ 1000000) (w : Int32) {t0 j0 u0 : Nat} (ht : t0 < T) (hj : j0 ≤ t0) (hu : u0 < 2) : ∀ (i n m0 : Nat) (wo : Nat → Int64) (ac : Nat → Int32), 8 ≤ m0 + 2 * i → m0 ≤ 9 → m0 % 2 = hiF β (π t0 j0) → GR x y π T p q R β (LD t0 j0 u0 m0) wo ac → Sx (lpX9_byRule_83 (nI k) (nI x) (nI y) w (nI t0) (nI j0) (nI u0) bs (nI T) (nI p) (nI q) (nI R) pe (n + i + 1) (nI m0) wo ac) (fun z => GR x y π T p q R β (LD t0 j0 (u0 + 1) 0) z.1 z.2) := by
  intro i
  induction i with
  | zero =>
    intro n m0 wo ac h8 h9 hm hg
    rw [lpX9_byRule_83.eq_2]
    refine Sx.p (show (8 : Int32) ≤ nI m0 from nI_le (a := 8) (by omega) (by omega)) (Sx.mk (hg.sub ?_))
    intro t j u m a b c
    omega
  | succ i ih =>
    intro n m0 wo ac h8 h9 hm hg
    rw [lpX9_byRule_83.eq_2]
    by_cases hm8 : 8 ≤ m0
    · refine Sx.p (show (8 : Int32) ≤ nI m0 from nI_le (a := 8) (by omega) (by omega)) (Sx.mk (hg.sub ?_))
      intro t j u m a b c
      omega
    · refine Sx.n (show ¬ (8 : Int32) ≤ nI m0 from nI_ge (b := 8) (by omega) (by omega)) ?_
      refine Sx.e1 (st9 t0 (by omega) j0 (by omega) u0 hu) ?_
      by_cases hs : (t0 = 0 → u0 = 0) ∧ (u0 = 1 → 0 < j0 ∨ t0 = 0) ∧ (t0 = 0 ∨ u0 = 1 ∨ j0 < t0)
      · rw [if_pos hs, if_neg one0]
        have hok : okS t0 j0 u0 := by
          obtain ⟨s1, s2, s3⟩ := hs
          refine ⟨hj, hu, s1, ?_, ?_⟩
          · intro e; rcases s2 e with h | h
            · exact h
            · have := s1 h; omega
          · intro a b; omega
        have hD : ∀ t j u m, t ≤ T → okM π β t j u m → LD t0 j0 u0 (m0 + 2) t j u m → LD t0 j0 u0 m0 t j u m ∨ (t = t0 ∧ j = j0 ∧ u = u0 ∧ m = m0) := by
          intro t j u m a b c
          by_cases e : t = t0 ∧ j = j0 ∧ u = u0
          · obtain ⟨rfl, rfl, rfl⟩ := e
            have := b.2.2
            omega
          · omega
        have g1 := hg (t0 + 1) (j0 + 1) 1 (mkF π β m0 (t0 + 1) (j0 + 1)) (by omega) ⟨by omega, mkF_lt _ _ _ _ _, mkF_2 _ _ _ _ _⟩ (by omega)
        have g0 := hg (t0 + 1) j0 0 (mkF π β m0 (t0 + 1) j0) (by omega) ⟨by omega, mkF_lt _ _ _ _ _, mkF_2 _ _ _ _ _⟩ (by omega)
        have hl : T - (t0 + 1) ≤ 6 := by omega
        refine Sx.e2 (rl9 hb hK hp hP hN hx hy (by omega) hok ht g1.1 g0.1 (vG_b hp hK hN (rV_SK x y hp hK) hl _ _ _) (vG_b hp hK hN (rV_SK x y hp hK) hl _ _ _)) ?_
        obtain ⟨n', hn'⟩ : ∃ n', T - t0 = n' + 1 := ⟨T - t0 - 1, by omega⟩
        have hn2 : T - (t0 + 1) = n' := by omega
        have ht1 : t0 + 1 = T - n' := by omega
        have ht2 : T - (n' + 1) = t0 := by omega
        rw [nm_mk, i_2, nI_add, show n + (i + 1) = n + i + 1 by omega]
        refine ih n (m0 + 2) _ _ (by omega) (by omega) (by omega) (hg.up hN.1.2 ht hok (by omega) hD ?_ rfl)
        rw [hn', hn2, ht1, vG_s, ht2]; rfl
      · rw [if_neg hs, if_pos rfl]
        refine Sx.mk (hg.sub ?_)
        intro t j u m a b c
        by_cases e : t = t0 ∧ j = j0 ∧ u = u0
        · obtain ⟨rfl, rfl, rfl⟩ := e
          exact absurd (by omega) hs
        · omega
theorem r66 {bs : Nat → Int32} {pe : Nat → Int64} {k T p q R : Nat} {β : Nat → Nat} {π : Nat → Nat → Nat} (hb : RB bs k β) (hK : BK β) (hp : PK π) (hP : RP pe T π) (hN : NK T p q R) {x y : Nat} (hx : x ≤ 1000000) (hy : y ≤ 1000000) (w : Int32) {t0 j0 : Nat} (ht : t0 < T) (hj : j0 ≤ t0) : ∀ (i n u0 : Nat) (wo : Nat → Int64) (ac : Nat → Int32), u0 + i = 2 → GR x y π T p q R β (LD t0 j0 u0 0) wo ac → Sx (lpX9_byRule_66 (nI k) (nI x) (nI y) w (nI t0) (nI j0) bs (nI T) (nI p) (nI q) (nI R) pe (n + i + 1) (nI u0) wo ac) (fun z => GR x y π T p q R β (LD t0 (j0 + 1) 0 0) z.1 z.2) := by
  intro i
  induction i with
  | zero =>
    intro n u0 wo ac hi hg
    rw [lpX9_byRule_66.eq_2]
    refine Sx.p (show (2 : Int32) ≤ nI u0 from nI_le (a := 2) (by omega) (by omega)) (Sx.mk (hg.sub ?_))
    intro t j u m a b c
    omega
  | succ i ih =>
    intro n u0 wo ac hi hg
    rw [lpX9_byRule_66.eq_2]
    refine Sx.n (show ¬ (2 : Int32) ≤ nI u0 from nI_ge (b := 2) (by omega) (by omega)) ?_
    refine Sx.e1 (hi9 hb hK hp hP hN.1.2 hj (by omega)) ?_
    have hh := hiF_lt β (π t0 j0)
    obtain ⟨n', hn'⟩ := fuN 5 (by omega)
    rw [hn']
    refine Sx.b2 (r83 hb hK hp hP hN hx hy w ht hj (by omega) 4 n' (hiF β (π t0 j0)) wo ac (by omega) (by omega) (by omega) (hg.sub ?_)) ?_
    · intro t j u m a b c
      by_cases e : t = t0 ∧ j = j0 ∧ u = u0
      · obtain ⟨rfl, rfl, rfl⟩ := e
        have := b.2.2
        omega
      · omega
    · intro a0 a1 hq
      rw [nm_mk, nI_1]
      have := ih n (u0 + 1) a0 a1 (by omega) hq
      rwa [show n + (i + 1) = n + i + 1 by omega]
theorem r56 {bs : Nat → Int32} {pe : Nat → Int64} {k T p q R : Nat} {β : Nat → Nat} {π : Nat → Nat → Nat} (hb : RB bs k β) (hK : BK β) (hp : PK π) (hP : RP pe T π) (hN : NK T p q R) {x y : Nat} (hx : x ≤ 1000000) (hy : y ≤ 1000000) (w : Int32) {t0 : Nat} (ht : t0 < T) : ∀ (i n j0 : Nat) (wo : Nat → Int64) (ac : Nat → Int32), j0 + i = t0 + 1 → GR x y π T p q R β (LD t0 j0 0 0) wo ac → Sx (lpX9_byRule_56 (nI k) (nI x) (nI y) w (nI t0) bs (nI T) (nI p) (nI q) (nI R) pe (n + i + 1) (nI j0) wo ac) (fun z => GR x y π T p q R β (fun t _ _ _ => t0 ≤ t) z.1 z.2) := by
  intro i
  induction i with
  | zero =>
    intro n j0 wo ac hi hg
    rw [lpX9_byRule_56.eq_2]
    refine Sx.p (nI_lt (by omega) (by omega)) (Sx.mk (hg.sub ?_))
    intro t j u m a b c
    omega
  | succ i ih =>
    intro n j0 wo ac hi hg
    rw [lpX9_byRule_56.eq_2]
    refine Sx.n (nI_nlt (by omega) (by omega)) ?_
    obtain ⟨n', hn'⟩ := fuN 3 (by omega)
    rw [hn', i_0]
    refine Sx.b2 (r66 hb hK hp hP hN hx hy w ht (by omega) 2 n' 0 wo ac (by omega) hg) ?_
    intro a0 a1 hq
    rw [nm_mk, nI_1]
    have := ih n (j0 + 1) a0 a1 (by omega) hq
    rwa [show n + (i + 1) = n + i + 1 by omega]
theorem r48 {bs : Nat → Int32} {pe : Nat → Int64} {k T p q R : Nat} {β : Nat → Nat} {π : Nat → Nat → Nat} (hb : RB bs k β) (hK : BK β) (hp : PK π) (hP : RP pe T π) (hN : NK T p q R) {x y : Nat} (hx : x ≤ 1000000) (hy : y ≤ 1000000) (w : Int32) : ∀ (t0 n : Nat) (wo : Nat → Int64) (ac : Nat → Int32), t0 < T → GR x y π T p q R β (fun t _ _ _ => t0 < t) wo ac → Sx (lpX9_byRule_48 (nI k) (nI x) (nI y) w bs (nI T) (nI p) (nI q) (nI R) pe (n + t0 + 2) (nI t0) wo ac) (fun z => GR x y π T p q R β (fun _ _ _ _ => True) z.1 z.2) := by
  intro t0
  induction t0 with
  | zero =>
    intro n wo ac ht hg
    rw [show n + 0 + 2 = (n + 1) + 1 by omega, lpX9_byRule_48.eq_2]
    refine Sx.n (nI_pos (by omega)) ?_
    obtain ⟨n', hn'⟩ := fuN 2 (by omega)
    rw [hn', i_0]
    refine Sx.b2 (r56 hb hK hp hP hN hx hy w ht 1 n' 0 wo ac (by omega) (hg.sub (by intro t j u m a b c; omega))) ?_
    intro a0 a1 hq
    rw [nm_mk, lpX9_byRule_48.eq_2]
    refine Sx.p (by decide) (Sx.mk (hq.sub ?_))
    intro t j u m a b c
    exact Nat.zero_le _
  | succ t0 ih =>
    intro n wo ac ht hg
    rw [show n + (t0 + 1) + 2 = (n + t0 + 2) + 1 by omega, lpX9_byRule_48.eq_2]
    refine Sx.n (nI_pos (by omega)) ?_
    obtain ⟨n', hn'⟩ := fuN (t0 + 3) (by omega)
    rw [hn', i_0]
    refine Sx.b2 (r56 hb hK hp hP hN hx hy w ht (t0 + 2) n' 0 wo ac (by omega) (hg.sub (by intro t j u m a b c; omega))) ?_
    intro a0 a1 hq
    rw [nm_mk, pk_m1]
    exact ih n a0 a1 (by omega) (hq.sub (by intro t j u m a b c; omega))
theorem q_byRule {tr b0 b1 b2 tree bs : Nat → Int32} {τ : Nat → Nat} {B : Nat → Nat → Nat} (hf : TC tr τ) (hf9 : TR tree 0 τ) (hT : TK τ) (hB : CB3 b0 b1 b2 B) (hb9 : ∀ k, k < 3 → RB bs k (B k)) {mv : Nat → Int32} {r : Nat} (r1 : 1 ≤ r) (r2 : r < 128) (rd : dR r ≤ τ 0) (hm : MV mv r) (p1 p2 p3 p4 : Int32) (st sb : Nat → Int32) (pu pe tu ca ho va : Nat → Int64) (ma ac : Nat → Int32) (x0 x1 x2 x3 : Int32) (pe9 : Nat → Int64) (a9 b9 : Int64) (wo9 ho9 : Nat → Int64) (ac9 : Nat → Int32) (s1 s2 s3 s4 : Int32) : Sx2 (fX8_byRule p1 p2 p3 p4 (nI r) tr b0 b1 b2 st sb pu pe tu ca ho va ma ac) (fX9_byRule p1 p2 p3 p4 tree bs mv (nI (dR r)) x0 x1 x2 x3 pe9 a9 b9 wo9 ho9 ac9 s1 s2 s3 s4) (fun _ _ => True) := by
  by_cases h1 : inr p1 0 2
  rotate_left
  · exact Sx2.mk (by unfold fX8_byRule; rw [isb8n h1, bd1_mk, if_pos rfl]) (by unfold fX9_byRule; rw [isb9n h1, bd1_mk, if_pos rfl]) (trivial)
  by_cases h2 : inr p2 0 1000000
  rotate_left
  · exact Sx2.mk (by unfold fX8_byRule; rw [isb8y h1, bd1_mk, if_neg one0, isp8n h2, bd1_mk, if_pos rfl]) (by unfold fX9_byRule; rw [isb9y h1, bd1_mk, if_neg one0, in0 h2, bd1_mk, if_pos rfl]) (trivial)
  by_cases h3 : inr p3 0 1000000
  rotate_left
  · exact Sx2.mk (by unfold fX8_byRule; rw [isb8y h1, bd1_mk, if_neg one0, isp8y h2, bd1_mk, if_neg one0, isp8n h3, bd1_mk, if_pos rfl]) (by unfold fX9_byRule; rw [isb9y h1, bd1_mk, if_neg one0, in1 h2, bd1_mk, if_neg one0, in0 h3, bd1_mk, if_pos rfl]) (trivial)
  obtain ⟨k, rfl, _, hk, _⟩ := inr_n h1 (by decide)
  have hk3 : k < 3 := by omega
  obtain ⟨x, rfl, _, hx, _⟩ := inr_n h2 (by decide)
  obtain ⟨y, rfl, _, hy, _⟩ := inr_n h3 (by decide)
  have hp := prF_PK hT (show τ 1 ≤ 1000 by omega)
  have r3 : r < 2 * 2 ^ τ 0 := by
    have h4 := (row_b1 r r2 r1).2.2.2
    have h5 := Nat.pow_le_pow_right (show 0 < 2 by omega) rd
    omega
  refine Sx2.val (v := if p4 = 0 then lN (vG (prF τ (τ 1)) (τ 0) (τ 6) (τ 7) (τ 8) (B k) (rV x y (prF τ (τ 1)) (B k)) (τ 0) 0 0 (hiF (B k) (prF τ (τ 1) 0 0))) else Int32.toInt64 (nI (aR (prF τ (τ 1)) (τ 0) (τ 6) (τ 7) (τ 8) (B k) (rV x y (prF τ (τ 1)) (B k)) (fun t j u m _ => rA x y (prF τ (τ 1)) (B k) t j u m) r))) ?_ ?_
  · unfold fX8_byRule
    rw [isb8y h1, bd1_mk, if_neg one0, isp8y h2, bd1_mk, if_neg one0, isp8y h3, bd1_mk, if_neg one0, og32 (by omega) (by omega), sel8 hk3, bd2_mk]
    refine Sx.b8 (prl8 hf.cpy hT (hB k hk3).1.cpy (hB k hk3).2 (x := x) (y := y) (by omega) (by omega) _ _ _ _ _ _ _ _) ?_
    intro c0 c1 c2 c3 c4 c5 c6 c7 hsb
    dsimp only at hsb
    by_cases h4 : p4 = 0
    · rw [if_pos h4, if_pos h4]
      exact Sx.e1 (a0 := lN _) (by rw [rootR hsb]; rfl) (Sx.mk rfl)
    · rw [if_neg h4, if_neg h4]
      refine Sx.e1 (a0 := Int32.toInt64 (nI _)) (by rw [acA8 r1 r2, (hsb.2 r r1 r1 r3).2.2]; rfl) (Sx.mk rfl)
  · unfold fX9_byRule
    rw [isb9y h1, bd1_mk, if_neg one0, in1 h2, bd1_mk, if_neg one0, in1 h3, bd1_mk, if_neg one0]
    refine Sx.b10 (pn9 hf9 hT hk3 (hb9 k hk3) (hB k hk3).2 x0 x1 x2 x3 pe9 a9 b9 wo9 ho9 ac9) ?_
    rintro d0 d1 d2 d3 pe' d5 d6 d7 d8 d9 ⟨rfl, rfl, rfl, rfl, hP, hG⟩
    dsimp only at hP hG ⊢
    rw [nm_mk, i_1, pk_sub (by omega)]
    obtain ⟨n, hn⟩ := fuN (τ 0 + 1) (by omega)
    rw [hn, show n + (τ 0 + 1) = n + (τ 0 - 1) + 2 by omega]
    refine Sx.b2 (r48 (hb9 k hk3) (hB k hk3).2 hp hP hT.n (x := x) (y := y) (by omega) (by omega) p4 (τ 0 - 1) n d7 d9 (by omega) ?_) ?_
    · intro t j u m a b c
      have e : t = τ 0 := by omega
      subst e
      obtain ⟨g1, g2, g3⟩ := hG (τ 0) j u m a b trivial
      rw [Nat.sub_self] at g1 ⊢
      unfold acS at g3
      rw [if_pos rfl] at g3 ⊢
      exact ⟨g1, g3⟩
    · intro w0 w1 hR
      dsimp only at hR
      have hl := aT_lt (prF τ (τ 1)) (B k) r1 r2
      by_cases h4 : p4 = 0
      · rw [if_pos h4, if_pos h4, be9 (hb9 k hk3) (hB k hk3).2 hp hP (by omega), bd1_mk]
        have hl0 := hiF_lt (B k) (prF τ (τ 1) 0 0)
        have h784 : atN 0 0 0 (hiF (B k) (prF τ (τ 1) 0 0)) < 784 := atN_lt (by omega) (by omega) (by omega) (by omega)
        rw [og32 h784 (by omega), nI_clamp (by omega)]
        exact Sx.mk ⟨(hR 0 0 0 _ (by omega) (ok0 _ _) trivial).1, trivial⟩
      · rw [if_neg h4, if_neg h4, fo9 (hb9 k hk3) (hB k hk3).2 hp hP (by omega) r1 r2 rd hm, bd4_mk, hn9, bd1_mk, og32 hl (by omega), nI_clamp (by omega)]
        refine Sx.mk ⟨?_, trivial⟩
        show Int32.toInt64 (w1 (aT (prF τ (τ 1)) (B k) r)) = _
        have := (hR (dR r) (uR r) (bR r) (mR (prF τ (τ 1)) (B k) r) rd (okR _ _ r1 r2) trivial).2
        unfold aT
        rw [this]
        rfl
end
section
/-! pure: draws, ways along rows (own rows) -/
def dX (a : Nat) : Nat := (25173 * a + 13849) % 65536
theorem dX_lt (a : Nat) : dX a < 65536 := Nat.mod_lt _ (by omega)
def dwB (p q a : Nat) : Nat := if dX a / 4 % q < p then 1 else 0
theorem dwB_lt (p q a : Nat) : dwB p q a < 2 := by unfold dwB; split <;> omega
def dwR (p q : Nat) : Nat → Nat → Nat → Nat × Nat
  | 0, r, a => (r, a)
  | n + 1, r, a => dwR p q n (2 * r + dwB p q a) (dX a)
theorem drw8 {a q : Nat} (ha : a < 65536) (h1 : 1 ≤ q) (h2 : q ≤ 20) : fX1_drawBelow (nI q) (nI a) = some (nI (dX a / 4 % q), nI (dX a)) := by
  unfold fX1_drawBelow
  have hx := dX_lt a
  rw [i_25173, pk_mul, i_13849, nI_add, pk_andN (by omega) 16 rfl, nm_mk, if_neg (nI_nle (by omega) (by omega)), og_mk _ (by unfold nzI; rw [decide_eq_false (nI_ne0 (by omega) (by omega))]; rfl), bd1_mk]
  show some ((nI (dX a) / 4) - (nI (dX a) / 4) / nI q * nI q, nI (dX a)) = _
  rw [i_4, pk_div (by omega) (by omega) (by omega), pk_rem (by omega) (by omega) (by omega)]
theorem drw9 {a q : Nat} (ha : a < 65536) (h1 : 1 ≤ q) (h2 : q ≤ 20) : fX9_draw (nI q) (nI a) = some (nI (dX a / 4 % q), nI (dX a)) := by
  unfold fX9_draw
  have hx := dX_lt a
  rw [i_25173, pk_mul, i_13849, nI_add, i_65536, pk_rem (by omega) (by omega) (by omega), nm_mk, og_mk _ (by unfold nzI; rw [decide_eq_false (nI_ne0 (by omega) (by omega))]; rfl)]
  show some ((nI (dX a) / 4) - (nI (dX a) / 4) / nI q * nI q, nI (dX a)) = _
  rw [i_4, pk_div (by omega) (by omega) (by omega), pk_rem (by omega) (by omega) (by omega)]
theorem seed16 (s : Int32) : s &&& 65535 = nI (s.toBitVec.toNat % 65536) := pk_and s 16 rfl
theorem gt7 {f : Nat → Int32} {τ : Nat → Nat} (hf : TC f τ) {a : Nat} (ha : a < 9) : fX7_get (nI a) f = some (nI (τ a)) := by
  unfold fX7_get
  rw [win1 a 0 8 (by omega), bd1_mk, if_neg one0, og32 ha (by omega), bd1_mk, nI_clamp (by omega), hf a ha]
theorem dr5 {f : Nat → Int32} {τ : Nat → Nat} (hf : TC f τ) (hT : TK τ) {m : Nat} (hm : m ≤ 6) : ∀ (i n x r a : Nat), x + i = m → a < 65536 → lpX1_drawRow_5 (nI m) f (n + i + 1) (nI r) (nI x) (nI a) = some (nI (dwR (τ 6) (τ 7) i r a).1, nI (dwR (τ 6) (τ 7) i r a).2) := by
  intro i
  induction i with
  | zero =>
    intro n x r a hi ha
    rw [lpX1_drawRow_5.eq_2, if_pos (nI_le (by omega) (by omega))]; rfl
  | succ i ih =>
    intro n x r a hi ha
    have hb := dwB_lt (τ 6) (τ 7) a
    have hq : dX a / 4 % τ 7 < τ 7 := Nat.mod_lt _ (by omega)
    rw [lpX1_drawRow_5.eq_2, if_neg (nI_ge (by omega) (by omega)), if_neg (show ¬ (6 : Int32) ≤ nI x from nI_ge (b := 6) (by omega) (by omega)), i_7, gt7 hf (by omega), bd1_mk, drw8 ha (by omega) (by omega), bd2_mk, i_6, gt7 hf (by omega), bd1_mk]
    have e : (if nI (τ 6) ≤ nI (dX a / 4 % τ 7) then some (0 : Int32) else some 1) = some (nI (dwB (τ 6) (τ 7) a)) := by
      unfold dwB
      by_cases g : dX a / 4 % τ 7 < τ 6
      · rw [if_pos g, if_neg (nI_ge g (by omega))]; rfl
      · rw [if_neg g, if_pos (nI_le (by omega) (by omega))]; rfl
    rw [e, bd1_mk, lo8 r hb, bd1_mk, nm_mk, nI_1, show n + (i + 1) = n + i + 1 by omega, ih n (x + 1) _ _ (by omega) (dX_lt a)]
    rfl
theorem dro8 {f : Nat → Int32} {τ : Nat → Nat} (hf : TC f τ) (hT : TK τ) {m a : Nat} (hm : m ≤ 6) (ha : a < 65536) : fX1_drawRow (nI m) (nI a) f = some (nI (dwR (τ 6) (τ 7) m 1 a).1, nI (dwR (τ 6) (τ 7) m 1 a).2) := by
  unfold fX1_drawRow
  obtain ⟨n, hn⟩ := fuN (m + 1) (by omega)
  rw [hn, i_0, show (1 : Int32) = nI 1 from rfl, show n + (m + 1) = n + m + 1 by omega, dr5 hf hT hm m n 0 1 a (by omega) ha, bd2_mk]
theorem dR_pos : ∀ r, r < 128 → 1 ≤ r → ∀ n, n < 7 → dR r < n → r < 2 ^ n := by decide +kernel
theorem dR_64 : ∀ r, r < 128 → 1 ≤ r → dR r < 6 → r < 64 := by decide +kernel
theorem dwR_p (p q : Nat) : ∀ (n r a : Nat), 1 ≤ r → r < 128 → dR r + n ≤ 6 → a < 65536 → dR (dwR p q n r a).1 = dR r + n ∧ 1 ≤ (dwR p q n r a).1 ∧ (dwR p q n r a).1 < 128 ∧ (dwR p q n r a).2 < 65536 := by
  intro n
  induction n with
  | zero => intro r a h1 h2 h3 h4; exact ⟨rfl, h1, h2, h4⟩
  | succ n ih =>
    intro r a h1 h2 h3 h4
    have hb := dwB_lt p q a
    have h6 := dR_64 r h2 h1 (by omega)
    obtain ⟨c1, _, _, _⟩ := row_s r h6 h1 (dwB p q a) hb
    have := ih (2 * r + dwB p q a) (dX a) (by omega) (by omega) (by omega) (dX_lt a)
    rw [c1] at this
    refine ⟨?_, this.2⟩
    show dR (dwR p q n (2 * r + dwB p q a) (dX a)).1 = _
    rw [this.1]; omega
theorem bit_s : ∀ r, r < 64 → 1 ≤ r → ∀ b, b < 2 → ∀ i, i < 6 → i < dR r → (2 * r + b) / 2 ^ (dR r - i) % 2 = r / 2 ^ (dR r - 1 - i) % 2 := by decide +kernel
theorem MV.up {mv : Nat → Int32} {r b : Nat} (h1 : 1 ≤ r) (h : r < 64) (hb : b < 2) (hm : MV mv r) : MV (upd mv (dR r) (nI b)) (2 * r + b) := by
  obtain ⟨c1, _, _, _⟩ := row_s r h h1 b hb
  have h6 := (row_b1 r (by omega) h1).1.1
  have h7 : dR r < 6 := by
    have := (row_b1 (2 * r + b) (by omega) (by omega)).1.1
    omega
  intro i hi
  rw [upS, c1]
  rw [c1] at hi
  by_cases e : i = dR r
  · rw [if_pos e, e, show dR r + 1 - 1 - dR r = 0 by omega, Nat.pow_zero, Nat.div_one]
    congr 1
    omega
  · rw [if_neg e, hm i (by omega), show dR r + 1 - 1 - i = dR r - i by omega, bit_s r h h1 b hb i (by omega) (by omega)]
theorem MV.one {mv : Nat → Int32} : MV mv 1 := fun i hi => absurd hi (by rw [show dR 1 = 0 by decide +kernel]; omega)
theorem dr31 {tree : Nat → Int32} {τ : Nat → Nat} (hf : TR tree 0 τ) (hT : TK τ) {m : Nat} (hm : m ≤ 6) : ∀ (i n r a : Nat) (mv : Nat → Int32), 1 ≤ r → r < 128 → dR r + i = m → a < 65536 → MV mv r → Sx (lpX9_drawn_31 (nI m) tree (n + i + 1) (nI (uR r)) (nI (dR r)) mv (nI a)) (fun z => z.1 = nI (uR (dwR (τ 6) (τ 7) i r a).1) ∧ MV z.2.1 (dwR (τ 6) (τ 7) i r a).1) := by
  intro i
  induction i with
  | zero =>
    intro n r a mv h1 h2 hi ha hmv
    rw [lpX9_drawn_31.eq_2]
    exact Sx.p (nI_le (by omega) (by omega)) (Sx.mk ⟨rfl, hmv⟩)
  | succ i ih =>
    intro n r a mv h1 h2 hi ha hmv
    have hb := dwB_lt (τ 6) (τ 7) a
    have hq : dX a / 4 % τ 7 < τ 7 := Nat.mod_lt _ (by omega)
    have h6 := dR_64 r h2 h1 (by omega)
    obtain ⟨c1, c2, _, _⟩ := row_s r h6 h1 (dwB (τ 6) (τ 7) a) hb
    have e : (if nI (τ 6) ≤ nI (dX a / 4 % τ 7) then some (0 : Int32) else some 1) = some (nI (dwB (τ 6) (τ 7) a)) := by
      unfold dwB
      by_cases g : dX a / 4 % τ 7 < τ 6
      · rw [if_pos g, if_neg (nI_ge g (by omega))]; rfl
      · rw [if_neg g, if_pos (nI_le (by omega) (by omega))]; rfl
    rw [lpX9_drawn_31.eq_2, cl_7, tr0 hf (by omega), cl_6, tr0 hf (by omega)]
    refine Sx.n (nI_ge (by omega) (by omega)) (Sx.e2 (drw9 ha (by omega) (by omega)) (Sx.e1 e ?_))
    rw [og32 (by omega) (by omega), nm_mk, og32 (by omega) (by omega), nm_mk, nm_mk, nI_clamp (by omega), upS, if_pos rfl, nI_add, nI_1, ← c1, ← c2, show n + (i + 1) = n + i + 1 by omega]
    exact ih n _ _ _ (by omega) (by omega) (by omega) (dX_lt a) (hmv.up h1 h6 hb)
/-- what is left when a path is drawn -/
abbrev PQ (τ : Nat → Nat) (row : Int32) (mv : Nat → Int32) (moved : Int32) : Prop := ∃ r, 1 ≤ r ∧ r < 128 ∧ dR r ≤ τ 0 ∧ row = nI r ∧ moved = nI (dR r) ∧ MV mv r
theorem q_drawn {tr tree : Nat → Int32} {τ : Nat → Nat} (hf : TC tr τ) (hf9 : TR tree 0 τ) (hT : TK τ) {row moved : Int32} {mv : Nat → Int32} (hp : PQ τ row mv moved) (p1 p2 x y : Int32) : Sx2 (fX8_drawn p1 p2 row tr x) (fX9_drawn p1 p2 tree mv moved y) (fun s t => PQ τ s.1 t.1 t.2.1) := by
  by_cases h1 : inr p2 0 (τ 0)
  · obtain ⟨m, rfl, _, m2, _⟩ := inr_n h1 (Int.le_refl 0)
    have hs : p1.toBitVec.toNat % 65536 < 65536 := Nat.mod_lt _ (by omega)
    have hd1 : dR 1 = 0 := by decide +kernel
    obtain ⟨g1, g2, g3, g4⟩ := dwR_p (τ 6) (τ 7) m 1 (p1.toBitVec.toNat % 65536) (by omega) (by omega) (by omega) hs
    obtain ⟨n, hn⟩ := fuN (m + 1) (by omega)
    obtain ⟨⟨u, mv', d'⟩, e9, hu, hmv⟩ := dr31 hf9 hT (m := m) (by omega) m n 1 (p1.toBitVec.toNat % 65536) mv (by omega) (by omega) (by omega) hs MV.one
    dsimp only at hu hmv
    subst hu
    refine Sx2.mk (r := nI (uR (dwR (τ 6) (τ 7) m 1 (p1.toBitVec.toNat % 65536)).1)) (s1 := (nI (dwR (τ 6) (τ 7) m 1 (p1.toBitVec.toNat % 65536)).1, nI (dwR (τ 6) (τ 7) m 1 (p1.toBitVec.toNat % 65536)).2)) (s2 := (mv', nI m, d')) ?_ ?_ ⟨_, g2, g3, by omega, rfl, by rw [g1, hd1, Nat.zero_add], hmv⟩
    · unfold fX8_drawn fX1_begin
      rw [isd8y hf hT h1, bd1_mk, if_neg one0, nm_mk, bd1_mk, seed16, dro8 hf hT (by omega) hs, bd2_mk, ups8 _ g3 g2, bd1_mk]
    · unfold fX9_drawn
      rw [isd9y hf9 hT h1, bd1_mk, if_neg one0, nm_mk, seed16, hn, i_0, show n + (m + 1) = n + m + 1 by omega]
      rw [show nI 0 = nI (uR 1) from rfl]
      conv => lhs; arg 1; rw [show (lpX9_drawn_31 (nI m) tree (n + m + 1) (nI (uR 1)) (nI (uR 1)) mv (nI (p1.toBitVec.toNat % 65536))) = lpX9_drawn_31 (nI m) tree (n + m + 1) (nI (uR 1)) (nI (dR 1)) mv (nI (p1.toBitVec.toNat % 65536)) from rfl, e9]
      rfl
  · exact Sx2.mk (by unfold fX8_drawn; rw [isd8n hf hT h1, bd1_mk, if_pos rfl]) (by unfold fX9_drawn; rw [isd9n hf9 hT h1, bd1_mk, if_pos rfl]) hp
end
section
/-! pure: ends along rows, what is paid (own rows) -/
theorem rod8 : ∀ r, r < 128 → 1 ≤ r → ∀ i, i < 7 → i ≤ dR r → fX8_rowOnDay (nI r) (nI i) = some (nI (pfx r i)) := by decide +kernel
def exN (A : Nat → Nat) (r : Nat) : Nat → Nat → Nat
  | 0, x => x
  | n + 1, x => if A (pfx r x) = 0 then exN A r n (x + 1) else x
def ex (A : Nat → Nat) (r : Nat) : Nat := exN A r (dR r) 0
theorem exN_b (A : Nat → Nat) (r : Nat) : ∀ n x, x ≤ exN A r n x ∧ exN A r n x ≤ x + n ∧ (exN A r n x < x + n → A (pfx r (exN A r n x)) ≠ 0) := by
  intro n
  induction n with
  | zero => intro x; exact ⟨Nat.le_refl _, Nat.le_refl _, fun h => absurd h (Nat.lt_irrefl _)⟩
  | succ n ih =>
    intro x
    unfold exN
    by_cases h : A (pfx r x) = 0
    · rw [if_pos h]
      obtain ⟨a, b, c⟩ := ih (x + 1)
      exact ⟨by omega, by omega, fun q => c (by omega)⟩
    · rw [if_neg h]
      exact ⟨Nat.le_refl _, by omega, fun _ => h⟩
theorem ex_le (A : Nat → Nat) (r : Nat) : ex A r ≤ dR r := by have := (exN_b A r (dR r) 0).2.1; unfold ex; omega
theorem ex_end (A : Nat → Nat) {r : Nat} (h : A r ≠ 0) : A (pfx r (ex A r)) ≠ 0 := by
  by_cases g : ex A r < dR r
  · exact (exN_b A r (dR r) 0).2.2 (by unfold ex at g; omega)
  · have := ex_le A r
    rw [show ex A r = dR r by omega, pfd]; exact h
theorem ea2 {A : Nat → Nat} {ac : Nat → Int32} {r : Nat} (h1 : 1 ≤ r) (h : r < 128) (hA : ∀ i, i ≤ dR r → ac (pfx r i) = nI (A (pfx r i)) ∧ A (pfx r i) ≤ 6) : ∀ (i n x : Nat), x + i = dR r → lpX5_endAlong_2 (nI r) ac (n + i + 2) (nI x) = some (if A (pfx r (exN A r i x)) = 0 then (1, 0) else (0, nI (pfx r (exN A r i x)))) := by
  have hd6 := (row_b1 r h h1).1.1
  intro i
  induction i with
  | zero =>
    intro n x hi
    obtain ⟨g3, g4, g5⟩ := pf1 r h h1 x (by omega) (by omega)
    rw [show n + 0 + 2 = (n + 1) + 1 by omega, lpX5_endAlong_2.eq_2, day8 r h h1, bd1_mk, if_neg (nI_nlt (by omega) (by omega)), rod8 r h h1 x (by omega) (by omega), bd1_mk, acA8 g4 g5, bd1_mk, (hA x (by omega)).1]
    show _ = some (if A (pfx r x) = 0 then (1, 0) else (0, nI (pfx r x)))
    by_cases g : A (pfx r x) = 0
    · rw [if_pos g, if_pos (by rw [g]; rfl), nm_mk, nI_1, lpX5_endAlong_2.eq_2, day8 r h h1, bd1_mk, if_pos (nI_lt (by omega) (by omega))]
    · rw [if_neg g, if_neg (nI_ne0 (by omega) (by have := (hA x (by omega)).2; omega))]
  | succ i ih =>
    intro n x hi
    obtain ⟨g3, g4, g5⟩ := pf1 r h h1 x (by omega) (by omega)
    rw [show n + (i + 1) + 2 = (n + i + 2) + 1 by omega, lpX5_endAlong_2.eq_2, day8 r h h1, bd1_mk, if_neg (nI_nlt (by omega) (by omega)), rod8 r h h1 x (by omega) (by omega), bd1_mk, acA8 g4 g5, bd1_mk, (hA x (by omega)).1]
    by_cases g : A (pfx r x) = 0
    · rw [if_pos (by rw [g]; rfl), nm_mk, nI_1, ih n (x + 1) (by omega)]
      have e : exN A r (i + 1) x = exN A r i (x + 1) := if_pos g
      rw [e]
    · have e : exN A r (i + 1) x = x := if_neg g
      rw [e, if_neg g, if_neg (nI_ne0 (by omega) (by have := (hA x (by omega)).2; omega))]
theorem ea8 {A : Nat → Nat} {ac : Nat → Int32} {r : Nat} (h1 : 1 ≤ r) (h : r < 128) (hA : ∀ i, i ≤ dR r → ac (pfx r i) = nI (A (pfx r i)) ∧ A (pfx r i) ≤ 6) : fX5_endAlong (nI r) ac = some (if A (pfx r (ex A r)) = 0 then 0 else nI (pfx r (ex A r))) := by
  have hd6 := (row_b1 r h h1).1.1
  unfold fX5_endAlong
  obtain ⟨n, hn⟩ := fuN (dR r + 2) (by omega)
  rw [hn, i_0, show n + (dR r + 2) = n + dR r + 2 by omega, ea2 h1 h hA (dR r) n 0 (by omega)]
  show bd2 (some (if A (pfx r (ex A r)) = 0 then (1, 0) else (0, nI (pfx r (ex A r))))) _ = _
  by_cases g : A (pfx r (ex A r)) = 0
  · rw [if_pos g, if_pos g]; rfl
  · rw [if_neg g, if_neg g]; rfl
/-- what an act pays -/
def pyA (π : Nat → Nat → Nat) (β : Nat → Nat) (A e : Nat) : Nat := if A = 0 then 0 else if A = 1 then puL β (dR e) - 1 else if A = 3 then caL β (dR e) - 1 else if A = 5 then β 0 else tuS π β (dR e) (uR e) (bR e) - 1
abbrev pyK (π : Nat → Nat → Nat) (T : Nat) (β : Nat → Nat) (A e : Nat) : Prop := A ≤ 6 ∧ (A = 1 → puL β (dR e) ≠ 0 ∧ dR e < T) ∧ (A = 3 → caL β (dR e) ≠ 0 ∧ dR e < T) ∧ (A = 2 ∨ A = 4 ∨ A = 6 → tuS π β (dR e) (uR e) (bR e) ≠ 0)
theorem bA_k (π : Nat → Nat → Nat) (β : Nat → Nat) (t j u m h : Nat) : bA π β t j u m h ≤ 4 ∧ (bA π β t j u m h = 1 → puL β t ≠ 0) ∧ (bA π β t j u m h = 3 → caL β t ≠ 0) ∧ (bA π β t j u m h = 2 ∨ bA π β t j u m h = 4 ∨ bA π β t j u m h = 6 → tuS π β t j u ≠ 0) := by
  unfold bA
  split
  · rename_i hi
    have := hi.1.1
    split
    · exact ⟨by omega, fun _ => by omega, fun q => absurd q (by omega), fun q => absurd q (by omega)⟩
    · split
      · exact ⟨by omega, fun q => absurd q (by omega), fun q => absurd q (by omega), fun _ => by omega⟩
      · exact ⟨by omega, fun q => absurd q (by omega), fun _ => this, fun q => absurd q (by omega)⟩
  · split
    · exact ⟨by omega, fun q => absurd q (by omega), fun q => absurd q (by omega), fun q => absurd q (by omega)⟩
    · split
      · exact ⟨by omega, fun _ => by omega, fun q => absurd q (by omega), fun q => absurd q (by omega)⟩
      · exact ⟨by omega, fun q => absurd q (by omega), fun q => absurd q (by omega), fun _ => by omega⟩
theorem aR_k (π : Nat → Nat → Nat) (T p q R : Nat) (β : Nat → Nat) {e : Nat} (hd : dR e ≤ T) : pyK π T β (aR π T p q R β (bV π β) (bA π β) e) e := by
  unfold aR
  by_cases h : dR e = T
  · rw [if_pos h]
    unfold enA
    split
    · refine ⟨by omega, fun q => absurd q (by omega), fun q => absurd q (by omega), fun _ => ?_⟩
      rw [h]; omega
    · exact ⟨by omega, fun q => absurd q (by omega), fun q => absurd q (by omega), fun q => absurd q (by omega)⟩
  · rw [if_neg h]
    obtain ⟨a, b, c, d⟩ := bA_k π β (dR e) (uR e) (bR e) (mR π β e) (hR π T p q R β (bV π β) e)
    exact ⟨by omega, fun q => ⟨b q, by omega⟩, fun q => ⟨c q, by omega⟩, d⟩
theorem aR_T (π : Nat → Nat → Nat) (T p q R : Nat) (β : Nat → Nat) {e : Nat} (hd : dR e = T) : aR π T p q R β (bV π β) (bA π β) e ≠ 0 := by
  unfold aR
  rw [if_pos hd]
  unfold enA
  split <;> omega
theorem lC_1 {e : Nat} (h : e ≠ 0) : lC e = lN (e - 1) := by
  obtain ⟨n, rfl⟩ : ∃ n, e = n + 1 := ⟨e - 1, by omega⟩
  rw [lC_s, Nat.add_sub_cancel]
theorem lM_1 {e : Nat} (h : e ≠ 0) : lM e = lN (e - 1) := by
  obtain ⟨n, rfl⟩ : ∃ n, e = n + 1 := ⟨e - 1, by omega⟩
  rw [lM_s, Nat.add_sub_cancel]
theorem pba8 {ts : Nat → Int32} {β : Nat → Nat} {π : Nat → Nat → Nat} {T : Nat} (hb : CB ts β) (hK : BK β) {e A : Nat} (h1 : 1 ≤ e) (h : e < 128) {tu : Nat → Int64} {ac : Nat → Int32} (ea : ac e = nI A) (et : tu e = lC (tuS π β (dR e) (uR e) (bR e))) (hk : pyK π T β A e) : fX5_paidByAct (nI e) ts tu ac = some (lN (pyA π β A e)) := by
  have hd6 := (row_b1 e h h1).1.1
  have c1 := caL_le hK (dR e)
  have c2 := puL_le hK (dR e)
  obtain ⟨k1, k2, k3, k4⟩ := hk
  unfold fX5_paidByAct pyA fX0_face
  rw [acA8 h1 h, bd1_mk, ea, day8 e h h1, bd1_mk, bd1_mk, pu8 hb (by omega), bd1_mk, ca8 hb (by omega), bd1_mk, tuA8 h1 h, bd1_mk, et, cl_0, hb.1.1.1, bd1_mk]
  rcases (show A = 0 ∨ A = 1 ∨ A = 2 ∨ A = 3 ∨ A = 4 ∨ A = 5 ∨ A = 6 by omega) with rfl | rfl | rfl | rfl | rfl | rfl | rfl
  · rfl
  · rw [if_neg (show ¬ nI 1 = (0 : Int32) by decide), if_pos (show nI 1 = (1 : Int32) by decide), iC_l (by omega), lC_1 (k2 rfl).1]; rfl
  · rw [if_neg (show ¬ nI 2 = (0 : Int32) by decide), if_neg (show ¬ nI 2 = (1 : Int32) by decide), if_neg (show ¬ nI 2 = (3 : Int32) by decide), if_neg (show ¬ nI 2 = (5 : Int32) by decide), lC_1 (k4 (by omega))]; rfl
  · rw [if_neg (show ¬ nI 3 = (0 : Int32) by decide), if_neg (show ¬ nI 3 = (1 : Int32) by decide), if_pos (show nI 3 = (3 : Int32) by decide), iC_l (by omega), lC_1 (k3 rfl).1]; rfl
  · rw [if_neg (show ¬ nI 4 = (0 : Int32) by decide), if_neg (show ¬ nI 4 = (1 : Int32) by decide), if_neg (show ¬ nI 4 = (3 : Int32) by decide), if_neg (show ¬ nI 4 = (5 : Int32) by decide), lC_1 (k4 (by omega))]; rfl
  · rw [if_neg (show ¬ nI 5 = (0 : Int32) by decide), if_neg (show ¬ nI 5 = (1 : Int32) by decide), if_neg (show ¬ nI 5 = (3 : Int32) by decide), if_pos (show nI 5 = (5 : Int32) by decide), nI_l (by omega)]; rfl
  · rw [if_neg (show ¬ nI 6 = (0 : Int32) by decide), if_neg (show ¬ nI 6 = (1 : Int32) by decide), if_neg (show ¬ nI 6 = (3 : Int32) by decide), if_neg (show ¬ nI 6 = (5 : Int32) by decide), lC_1 (k4 (by omega))]; rfl
def cpS (β : Nat → Nat) : Nat → Nat
  | 0 => 0
  | n + 1 => cpS β n + cpF β (n + 1)
theorem pu9' {ts : Nat → Int32} {β : Nat → Nat} (hb : CB ts β) (hK : BK β) {e v : Nat} (h1 : 1 ≤ e) (h : e < 128) : ∀ (i n x : Nat), x + i = dR e → lpX5_paidUpTo_9 (nI e) ts (n + i + 1) (lN (v + cpS β x)) (nI (x + 1)) = some (lN (v + cpS β (dR e))) := by
  have hd6 := (row_b1 e h h1).1.1
  intro i
  induction i with
  | zero =>
    intro n x hi
    rw [lpX5_paidUpTo_9.eq_2, day8 e h h1, bd1_mk, if_pos (nI_lt (by omega) (by omega)), show x = dR e by omega]
  | succ i ih =>
    intro n x hi
    have hc := cpF_le hK (x + 1)
    rw [lpX5_paidUpTo_9.eq_2, day8 e h h1, bd1_mk, if_neg (nI_nlt (by omega) (by omega)), co8 hb (by omega), bd1_mk, nm_mk, nm_mk, nI_l (by omega), lN_add, nI_1, Nat.add_assoc, show n + (i + 1) = n + i + 1 by omega]
    exact ih n (x + 1) (by omega)
theorem put8 {ts : Nat → Int32} {β : Nat → Nat} {π : Nat → Nat → Nat} {T : Nat} (hb : CB ts β) (hK : BK β) {e A : Nat} (h1 : 1 ≤ e) (h : e < 128) {tu : Nat → Int64} {ac : Nat → Int32} (ea : ac e = nI A) (et : tu e = lC (tuS π β (dR e) (uR e) (bR e))) (hk : pyK π T β A e) : fX5_paidUpTo (nI e) ts tu ac = some (lN (pyA π β A e + cpS β (dR e))) := by
  have hd6 := (row_b1 e h h1).1.1
  unfold fX5_paidUpTo
  obtain ⟨n, hn⟩ := fuN (dR e + 1) (by omega)
  have := pu9' hb hK (v := pyA π β A e) h1 h (dR e) n 0 (by omega)
  rw [pba8 hb hK h1 h ea et hk, bd1_mk, hn, i_1, show n + (dR e + 1) = n + dR e + 1 by omega]
  show bd1 (lpX5_paidUpTo_9 (nI e) ts (n + dR e + 1) (lN (pyA π β A e + cpS β 0)) (nI (0 + 1))) _ = _
  rw [this, bd1_mk]
/-- the reference's side -/
theorem py9 {bs : Nat → Int32} {pe : Nat → Int64} {k T : Nat} {β : Nat → Nat} {π : Nat → Nat → Nat} (hb : RB bs k β) (hK : BK β) (hp : PK π) (hP : RP pe T π) (hT : T ≤ 6) {e A : Nat} (h1 : 1 ≤ e) (h : e < 128) (hd : dR e ≤ T) (hk : pyK π T β A e) (h0 : A ≠ 0) : fX9_paysOf (nI k) (nI A) bs (nI T) pe (nI (dR e)) (nI (uR e)) (nI (bR e)) = some (lN (pyA π β A e)) := by
  have c1 := caL_le hK (dR e)
  have c2 := puL_le hK (dR e)
  obtain ⟨k1, k2, k3, k4⟩ := hk
  unfold fX9_paysOf pyA
  rw [tu9 hb hK hp hP hT (okR π β h1 h).1 hd, bd1_mk, of9n hb 0 (by omega) (by omega), bd1_mk]
  rcases (show A = 1 ∨ A = 2 ∨ A = 3 ∨ A = 4 ∨ A = 5 ∨ A = 6 by omega) with rfl | rfl | rfl | rfl | rfl | rfl
  · rw [if_pos (show nI 1 = (1 : Int32) by decide), pu9 hb hT (k2 rfl).2, bd1_mk, iM_l (by omega), lM_1 (k2 rfl).1]; rfl
  · rw [if_neg (show ¬ nI 2 = (1 : Int32) by decide), if_neg (show ¬ nI 2 = (3 : Int32) by decide), if_neg (show ¬ nI 2 = (5 : Int32) by decide), lM_1 (k4 (by omega))]; rfl
  · rw [if_neg (show ¬ nI 3 = (1 : Int32) by decide), if_pos (show nI 3 = (3 : Int32) by decide), ca9 hb hT (k3 rfl).2, bd1_mk, iM_l (by omega), lM_1 (k3 rfl).1]; rfl
  · rw [if_neg (show ¬ nI 4 = (1 : Int32) by decide), if_neg (show ¬ nI 4 = (3 : Int32) by decide), if_neg (show ¬ nI 4 = (5 : Int32) by decide), lM_1 (k4 (by omega))]; rfl
  · rw [if_neg (show ¬ nI 5 = (1 : Int32) by decide), if_neg (show ¬ nI 5 = (3 : Int32) by decide), if_pos (show nI 5 = (5 : Int32) by decide), nI_l (by omega)]; rfl
  · rw [if_neg (show ¬ nI 6 = (1 : Int32) by decide), if_neg (show ¬ nI 6 = (3 : Int32) by decide), if_neg (show ¬ nI 6 = (5 : Int32) by decide), lM_1 (k4 (by omega))]; rfl
theorem ea12 {bs mv : Nat → Int32} {pe : Nat → Int64} {k T : Nat} {β : Nat → Nat} {π : Nat → Nat → Nat} (hb : RB bs k β) (hK : BK β) (hp : PK π) (hP : RP pe T π) (hT : T ≤ 6) {ac : Nat → Int32} {A : Nat → Nat} {r : Nat} (h1 : 1 ≤ r) (h : r < 128) (hd : dR r ≤ T) (hm : MV mv r) (hA : ∀ i, i ≤ dR r → ac (aT π β (pfx r i)) = nI (A (pfx r i)) ∧ A (pfx r i) ≤ 6) : ∀ (i n x : Nat), x + i = dR r → lpX9_endsAlong_12 (nI k) (nI (dR r)) bs mv pe ac (n + i + 1) (nI x) (nI (dR (pfx r x))) (nI (uR (pfx r x))) (nI (bR (pfx r x))) (nI (mR π β (pfx r x))) (lN (cpS β x)) = some (nI (dR (pfx r (exN A r i x))), nI (uR (pfx r (exN A r i x))), nI (bR (pfx r (exN A r i x))), nI (mR π β (pfx r (exN A r i x))), lN (cpS β (exN A r i x))) := by
  have hd6 := (row_b1 r h h1).1.1
  intro i
  induction i with
  | zero =>
    intro n x hi
    obtain ⟨g3, g4, g5⟩ := pf1 r h h1 x (by omega) (by omega)
    rw [lpX9_endsAlong_12.eq_2, hn9, bd1_mk, og32 (aT_lt π β g4 g5) (by omega), nI_clamp (by have := aT_lt π β g4 g5; omega), (hA x (by omega)).1]
    show _ = some (nI (dR (pfx r x)), nI (uR (pfx r x)), nI (bR (pfx r x)), nI (mR π β (pfx r x)), lN (cpS β x))
    by_cases g : A (pfx r x) = 0
    · rw [if_pos (by rw [g]; rfl), if_pos (nI_le (by omega) (by omega))]
    · rw [if_neg (nI_ne0 (by omega) (by have := (hA x (by omega)).2; omega))]
  | succ i ih =>
    intro n x hi
    obtain ⟨g1, g2⟩ := pf2 r h h1 x (by omega) (by omega)
    obtain ⟨g3, g4, g5⟩ := pf1 r h h1 x (by omega) (by omega)
    obtain ⟨g6, _, _⟩ := pf1 r h h1 (x + 1) (by omega) (by omega)
    rw [lpX9_endsAlong_12.eq_2, hn9, bd1_mk, og32 (aT_lt π β g4 g5) (by omega), nI_clamp (by have := aT_lt π β g4 g5; omega), (hA x (by omega)).1]
    by_cases g : A (pfx r x) = 0
    · have e : exN A r (i + 1) x = exN A r i (x + 1) := if_pos g
      have hc := cpF_le hK (x + 1)
      rw [e, if_pos (by rw [g]; rfl), if_neg (nI_ge (by omega) (by omega)), og32 (by omega) (by omega), nI_clamp (by omega), hm x (by omega), go9 hb hK hp hP hT g4 g2 (by omega) (by omega), bd4_mk, ← g1, g6, cp9 hb (by omega), bd1_mk, nm_mk, nm_mk, nI_l (by omega), lN_add, nI_1, show n + (i + 1) = n + i + 1 by omega]
      have := ih n (x + 1) (by omega)
      rw [g6] at this
      exact this
    · have e : exN A r (i + 1) x = x := if_neg g
      rw [e, if_neg (nI_ne0 (by omega) (by have := (hA x (by omega)).2; omega))]
theorem ea9 {bs mv : Nat → Int32} {pe : Nat → Int64} {k T : Nat} {β : Nat → Nat} {π : Nat → Nat → Nat} (hb : RB bs k β) (hK : BK β) (hp : PK π) (hP : RP pe T π) (hT : T ≤ 6) {ac : Nat → Int32} {A : Nat → Nat} {r : Nat} (h1 : 1 ≤ r) (h : r < 128) (hd : dR r ≤ T) (hm : MV mv r) (hA : ∀ i, i ≤ dR r → ac (aT π β (pfx r i)) = nI (A (pfx r i)) ∧ pyK π T β (A (pfx r i)) (pfx r i)) (s1 s2 s3 s4 : Int32) (s5 : Int64) : fX9_endsAlong (nI k) (nI (dR r)) bs mv (nI T) pe ac s1 s2 s3 s4 s5 = some (if A (pfx r (ex A r)) = 0 then 0 else 1, nI (dR (pfx r (ex A r))), nI (uR (pfx r (ex A r))), nI (bR (pfx r (ex A r))), nI (mR π β (pfx r (ex A r))), if A (pfx r (ex A r)) = 0 then lN (cpS β (ex A r)) else lN (pyA π β (A (pfx r (ex A r))) (pfx r (ex A r)) + cpS β (ex A r))) := by
  have hd6 := (row_b1 r h h1).1.1
  unfold fX9_endsAlong
  obtain ⟨n, hn⟩ := fuN (dR r + 1) (by omega)
  have he := ea12 hb hK hp hP hT h1 h hd hm (A := A) (fun i hi => ⟨(hA i hi).1, (hA i hi).2.1⟩) (dR r) n 0 (by omega)
  rw [pf0 r h h1] at he
  rw [sta9 hb hK hp hP hT, bd4_mk, hn, i_0, l_0, show n + (dR r + 1) = n + dR r + 1 by omega]
  have he' : lpX9_endsAlong_12 (nI k) (nI (dR r)) bs mv pe ac (n + dR r + 1) (nI 0) (nI (dR 1)) (nI (uR 1)) (nI (bR 1)) (nI (mR π β 1)) (lN 0) = some (nI (dR (pfx r (ex A r))), nI (uR (pfx r (ex A r))), nI (bR (pfx r (ex A r))), nI (mR π β (pfx r (ex A r))), lN (cpS β (ex A r))) := he
  have hle := ex_le A r
  obtain ⟨g3, g4, g5⟩ := pf1 r h h1 (ex A r) (by omega) hle
  have hl := aT_lt π β g4 g5
  rw [he', bd5_mk, hn9, bd1_mk, og32 hl (by omega), nI_clamp (by omega), (hA (ex A r) hle).1, bd1_mk, og32 hl (by omega)]
  by_cases g : A (pfx r (ex A r)) = 0
  · rw [if_pos g, if_pos g, if_pos (by rw [g])]
  · have hne : ¬ nI (A (pfx r (ex A r))) = nI 0 := fun q => g ((nI_eq (by have := (hA (ex A r) hle).2.1; omega) (by omega)).mp q)
    rw [if_neg g, if_neg g, if_neg hne, nI_clamp (by omega), (hA (ex A r) hle).1, py9 hb hK hp hP hT g4 g5 (by omega) (hA (ex A r) hle).2 g, bd1_mk, nm_mk, lN_add, Nat.add_comm (cpS β (ex A r))]
end
section
/-! pure: run, along: both sides (own rows) -/
theorem sw2 (m0 a0 : Nat → Int32) : ∀ (i n x : Nat) (mv as : Nat → Int32), x + i = 6 → (∀ y, y < 6 → mv y = (if y < x then a0 y else m0 y) ∧ as y = (if y < x then m0 y else a0 y)) → Sx (lpX9_swaps_2 (n + i + 1) (nI x) mv as) (fun z => ∀ y, y < 6 → z.1 y = a0 y ∧ z.2 y = m0 y) := by
  intro i
  induction i with
  | zero =>
    intro n x mv as hi hg
    rw [lpX9_swaps_2.eq_2]
    refine Sx.p (show (6 : Int32) ≤ nI x from nI_le (a := 6) (by omega) (by omega)) (Sx.mk ?_)
    intro y hy
    have := hg y hy
    rwa [if_pos (by omega), if_pos (by omega)] at this
  | succ i ih =>
    intro n x mv as hi hg
    rw [lpX9_swaps_2.eq_2]
    refine Sx.n (show ¬ (6 : Int32) ≤ nI x from nI_ge (b := 6) (by omega) (by omega)) ?_
    rw [og32 (by omega) (by omega), nm_mk, og32 (by omega) (by omega), og32 (by omega) (by omega), nm_mk, og32 (by omega) (by omega), nm_mk, nm_mk, nI_clamp (by omega), nI_1, show n + (i + 1) = n + i + 1 by omega]
    refine ih n (x + 1) _ _ (by omega) ?_
    intro y hy
    obtain ⟨h1, h2⟩ := hg y hy
    obtain ⟨h3, h4⟩ := hg x (by omega)
    rw [if_neg (by omega)] at h3 h4
    rw [upS, upS]
    by_cases e : y = x
    · subst e
      rw [if_pos rfl, if_pos rfl, if_pos (by omega), if_pos (by omega)]
      exact ⟨h4, h3⟩
    · rw [if_neg e, if_neg e, h1, h2]
      by_cases g : y < x
      · rw [if_pos g, if_pos g, if_pos (by omega), if_pos (by omega)]; exact ⟨rfl, rfl⟩
      · rw [if_neg g, if_neg g, if_neg (by omega), if_neg (by omega)]; exact ⟨rfl, rfl⟩
theorem sw9 (mv as : Nat → Int32) : Sx (fX9_swaps mv as) (fun z => ∀ y, y < 6 → z.1 y = as y ∧ z.2 y = mv y) := by
  unfold fX9_swaps
  obtain ⟨n, hn⟩ := fuN 7 (by omega)
  rw [hn, i_0]
  refine Sx.b2 (sw2 mv as 6 n 0 mv as (by omega) (fun y hy => by rw [if_neg (by omega), if_neg (by omega)]; exact ⟨rfl, rfl⟩)) (fun _ _ h => Sx.mk h)
theorem rn55 (w1 w3 w6 : Int32) (w4 : Int64) {T p q : Nat} (hT : T ≤ 6) (hq : 1 ≤ p ∧ p < q ∧ q ≤ 20) : ∀ (i n r a : Nat) (mv : Nat → Int32), 1 ≤ r → r < 128 → dR r + i = T → a < 65536 → MV mv r → Sx (lpX9_run_55 w1 w3 w4 w6 (nI T) (nI p) (nI q) (n + i + 1) (nI (dR r)) mv (nI a)) (fun z => MV z.1 (dwR p q i r a).1 ∧ z.2 = nI (dwR p q i r a).2) := by
  intro i
  induction i with
  | zero =>
    intro n r a mv h1 h2 hi ha hmv
    rw [lpX9_run_55.eq_2]
    exact Sx.p (nI_le (by omega) (by omega)) (Sx.mk ⟨hmv, rfl⟩)
  | succ i ih =>
    intro n r a mv h1 h2 hi ha hmv
    have hb := dwB_lt p q a
    have hq2 : dX a / 4 % q < q := Nat.mod_lt _ (by omega)
    have h6 := dR_64 r h2 h1 (by omega)
    obtain ⟨c1, c2, _, _⟩ := row_s r h6 h1 (dwB p q a) hb
    have e : (if nI p ≤ nI (dX a / 4 % q) then some (0 : Int32) else some 1) = some (nI (dwB p q a)) := by
      unfold dwB
      by_cases g : dX a / 4 % q < p
      · rw [if_pos g, if_neg (nI_ge g (by omega))]; rfl
      · rw [if_neg g, if_pos (nI_le (by omega) (by omega))]; rfl
    rw [lpX9_run_55.eq_2]
    refine Sx.n (nI_ge (by omega) (by omega)) (Sx.e2 (drw9 ha (by omega) (by omega)) (Sx.e1 e ?_))
    rw [og32 (by omega) (by omega), nm_mk, nm_mk, nI_clamp (by omega), nI_1, ← c1, show n + (i + 1) = n + i + 1 by omega]
    exact ih n _ _ _ (by omega) (by omega) (by omega) (dX_lt a) (hmv.up h1 h6 hb)
def paR (π : Nat → Nat → Nat) (β : Nat → Nat) (A : Nat → Nat) (r : Nat) : Nat := pyA π β (A (pfx r (ex A r))) (pfx r (ex A r)) + cpS β (ex A r)
def ruS (f : Nat → Nat) (p q T : Nat) : Nat → Int64 → Nat → Int64
  | 0, s, _ => s
  | n + 1, s, a => ruS f p q T n (s + lN (f (dwR p q T 1 a).1)) (dwR p q T 1 a).2
theorem rn46 {bs : Nat → Int32} {pe : Nat → Int64} {k T p q : Nat} {β : Nat → Nat} {π : Nat → Nat → Nat} (hb : RB bs k β) (hK : BK β) (hp : PK π) (hP : RP pe T π) (hT : T ≤ 6) (hq : 1 ≤ p ∧ p < q ∧ q ≤ 20) {ac : Nat → Int32} {A : Nat → Nat} (hA : ∀ r, 1 ≤ r → r < 128 → dR r ≤ T → ac (aT π β r) = nI (A r) ∧ pyK π T β (A r) r) (hE : ∀ r, dR r = T → A r ≠ 0) {m : Nat} (hm : m ≤ 100) : ∀ (i n x a : Nat) (s : Int64) (mv : Nat → Int32) (s1 s2 s3 s4 : Int32) (s5 : Int64), x + i = m → a < 65536 → Sx (lpX9_run_46 (nI k) (nI m) bs (nI T) (nI p) (nI q) pe ac (n + i + 1) s (nI x) mv (nI a) s1 s2 s3 s4 s5) (fun z => z.1 = ruS (paR π β A) p q T i s a) := by
  have hd1 : dR 1 = 0 := by decide +kernel
  intro i
  induction i with
  | zero =>
    intro n x a s mv s1 s2 s3 s4 s5 hi ha
    rw [lpX9_run_46.eq_2]
    exact Sx.p (nI_le (by omega) (by omega)) (Sx.mk rfl)
  | succ i ih =>
    intro n x a s mv s1 s2 s3 s4 s5 hi ha
    rw [lpX9_run_46.eq_2]
    refine Sx.n (nI_ge (by omega) (by omega)) ?_
    obtain ⟨g1, g2, g3, g4⟩ := dwR_p p q T 1 a (by omega) (by omega) (by omega) ha
    have gT : dR (dwR p q T 1 a).1 = T := by rw [g1, hd1, Nat.zero_add]
    obtain ⟨n', hn'⟩ := fuN (T + 1) (by omega)
    rw [hn', show n' + (T + 1) = n' + T + 1 by omega, i_0, show nI 0 = nI (dR 1) from rfl]
    refine Sx.b2 (rn55 (nI k) (nI m) (nI x) s hT hq T n' 1 a mv (by omega) (by omega) (by omega) ha MV.one) ?_
    rintro mv' d ⟨hmv, rfl⟩
    dsimp only at hmv ⊢
    have hAr : ∀ j, j ≤ dR (dwR p q T 1 a).1 → ac (aT π β (pfx (dwR p q T 1 a).1 j)) = nI (A (pfx (dwR p q T 1 a).1 j)) ∧ pyK π T β (A (pfx (dwR p q T 1 a).1 j)) (pfx (dwR p q T 1 a).1 j) := by
      intro j hj
      obtain ⟨q1, q2, q3⟩ := pf1 _ g3 g2 j (by omega) hj
      exact hA _ q2 q3 (by omega)
    have hne : ¬ A (pfx (dwR p q T 1 a).1 (ex A (dwR p q T 1 a).1)) = 0 := ex_end A (hE _ gT)
    have he := ea9 hb hK hp hP hT g2 g3 (by omega) hmv hAr s1 s2 s3 s4 s5
    rw [gT, if_neg hne, if_neg hne] at he
    refine Sx.e6 he ?_
    refine Sx.e1 (if_neg (by decide)) ?_
    rw [nm_mk, nI_1, show n + (i + 1) = n + i + 1 by omega]
    exact ih n (x + 1) _ _ _ _ _ _ _ _ (by omega) g4
theorem rn40 {tr ts : Nat → Int32} {τ β : Nat → Nat} {π : Nat → Nat → Nat} (hf : TC tr τ) (hT : TK τ) (hb : CB ts β) (hK : BK β) {tu : Nat → Int64} {ac : Nat → Int32} {A : Nat → Nat} (hA : ∀ r, 1 ≤ r → r < 128 → dR r ≤ τ 0 → ac r = nI (A r) ∧ pyK π (τ 0) β (A r) r ∧ tu r = lC (tuS π β (dR r) (uR r) (bR r))) (hE : ∀ r, dR r = τ 0 → A r ≠ 0) {m : Nat} (hm : m ≤ 100) : ∀ (i n x a : Nat) (s : Int64), x + i = m → a < 65536 → Sx (lpX8_run_40 (nI m) tr ts tu ac (n + i + 1) s (nI x) (nI a)) (fun z => z.1 = ruS (paR π β A) (τ 6) (τ 7) (τ 0) i s a) := by
  have hd1 : dR 1 = 0 := by decide +kernel
  intro i
  induction i with
  | zero =>
    intro n x a s hi ha
    rw [lpX8_run_40.eq_2]
    exact Sx.p (nI_le (by omega) (by omega)) (Sx.mk rfl)
  | succ i ih =>
    intro n x a s hi ha
    rw [lpX8_run_40.eq_2]
    refine Sx.n (nI_ge (by omega) (by omega)) ?_
    obtain ⟨g1, g2, g3, g4⟩ := dwR_p (τ 6) (τ 7) (τ 0) 1 a (by omega) (by omega) (by omega) ha
    have gT : dR (dwR (τ 6) (τ 7) (τ 0) 1 a).1 = τ 0 := by rw [g1, hd1, Nat.zero_add]
    refine Sx.e1 (ld8 hf hT) (Sx.e2 (dro8 hf hT (by omega) ha) ?_)
    have hAr : ∀ j, j ≤ dR (dwR (τ 6) (τ 7) (τ 0) 1 a).1 → ac (pfx (dwR (τ 6) (τ 7) (τ 0) 1 a).1 j) = nI (A (pfx (dwR (τ 6) (τ 7) (τ 0) 1 a).1 j)) ∧ A (pfx (dwR (τ 6) (τ 7) (τ 0) 1 a).1 j) ≤ 6 := by
      intro j hj
      obtain ⟨q1, q2, q3⟩ := pf1 _ g3 g2 j (by omega) hj
      have := hA _ q2 q3 (by omega)
      exact ⟨this.1, this.2.1.1⟩
    have hne : ¬ A (pfx (dwR (τ 6) (τ 7) (τ 0) 1 a).1 (ex A (dwR (τ 6) (τ 7) (τ 0) 1 a).1)) = 0 := ex_end A (hE _ gT)
    have hle := ex_le A (dwR (τ 6) (τ 7) (τ 0) 1 a).1
    obtain ⟨q1, q2, q3⟩ := pf1 _ g3 g2 (ex A (dwR (τ 6) (τ 7) (τ 0) 1 a).1) (by omega) hle
    have hAe := hA _ q2 q3 (by omega)
    have he := ea8 g2 g3 hAr
    rw [if_neg hne] at he
    refine Sx.e1 he (Sx.e1 (put8 hb hK q2 q3 hAe.1 hAe.2.2 hAe.2.1) ?_)
    rw [nm_mk, nm_mk, nI_1, show n + (i + 1) = n + i + 1 by omega, q1]
    exact ih n (x + 1) _ _ (by omega) g4
/-- the best acts, by rows -/
def A1 (τ β : Nat → Nat) (r : Nat) : Nat := aR (prF τ (τ 1)) (τ 0) (τ 6) (τ 7) (τ 8) β (bV (prF τ (τ 1)) β) (bA (prF τ (τ 1)) β) r
theorem row_T {τ : Nat → Nat} (hT : TK τ) {r : Nat} (h1 : 1 ≤ r) (h : r < 128) (hd : dR r ≤ τ 0) : r < 2 * 2 ^ τ 0 := by
  have h4 := (row_b1 r h h1).2.2.2
  have h5 := Nat.pow_le_pow_right (show 0 < 2 by omega) hd
  omega
theorem SB.a {τ β : Nat → Nat} (hT : TK τ) {pe tu ca ho va : Nat → Int64} {ma ac : Nat → Int32} (hS : SB τ β pe tu ca ho va ma ac) : ∀ r, 1 ≤ r → r < 128 → dR r ≤ τ 0 → ac r = nI (A1 τ β r) ∧ pyK (prF τ (τ 1)) (τ 0) β (A1 τ β r) r ∧ tu r = lC (tuS (prF τ (τ 1)) β (dR r) (uR r) (bR r)) := by
  intro r h1 h hd
  have hr := row_T hT h1 h hd
  exact ⟨(hS.2 r h1 h1 hr).2.2, aR_k _ _ _ _ _ _ hd, (hS.1 r h1 hr).2.1⟩
theorem GD.a {τ β : Nat → Nat} {wo ho : Nat → Int64} {ac : Nat → Int32} (h : GD (prF τ (τ 1)) (τ 0) (τ 6) (τ 7) (τ 8) β (fun _ _ _ _ => True) wo ho ac) : ∀ r, 1 ≤ r → r < 128 → dR r ≤ τ 0 → ac (aT (prF τ (τ 1)) β r) = nI (A1 τ β r) ∧ pyK (prF τ (τ 1)) (τ 0) β (A1 τ β r) r := by
  intro r h1 h2 hd
  exact ⟨(h.r h1 h2 hd).2.2, aR_k _ _ _ _ _ _ hd⟩
theorem q_run {tr b0 b1 b2 tree bs : Nat → Int32} {τ : Nat → Nat} {B : Nat → Nat → Nat} (hf : TC tr τ) (hf9 : TR tree 0 τ) (hT : TK τ) (hB : CB3 b0 b1 b2 B) (hb9 : ∀ k, k < 3 → RB bs k (B k)) {mv : Nat → Int32} (p1 p2 p3 : Int32) (st sb : Nat → Int32) (pu pe tu ca ho va : Nat → Int64) (ma ac : Nat → Int32) (dx : Int32) (x0 x1 x2 x3 : Int32) (pe9 : Nat → Int64) (a9 b9 : Int64) (dn : Int32) (wo9 ho9 : Nat → Int64) (ac9 : Nat → Int32) (s1 s2 s3 s4 : Int32) (s5 : Int64) (as9 : Nat → Int32) : Sx2 (fX8_run p1 p2 p3 tr b0 b1 b2 st sb pu pe tu ca ho va ma ac dx) (fX9_run p1 p2 p3 tree bs mv x0 x1 x2 x3 pe9 a9 b9 dn wo9 ho9 ac9 s1 s2 s3 s4 s5 as9) (fun _ t => ∀ y, y < 6 → t.1 y = mv y) := by
  by_cases h1 : inr p1 0 2
  rotate_left
  · exact Sx2.mk (by unfold fX8_run; rw [isb8n h1, bd1_mk, if_pos rfl]) (by unfold fX9_run; rw [isb9n h1, bd1_mk, if_pos rfl]) (fun _ _ => rfl)
  by_cases h2 : inr p3 1 100
  rotate_left
  · exact Sx2.mk (by unfold fX8_run; rw [isb8y h1, bd1_mk, if_neg one0, wi0 h2, bd1_mk, if_pos rfl]) (by unfold fX9_run; rw [isb9y h1, bd1_mk, if_neg one0, in0 h2, bd1_mk, if_pos rfl]) (fun _ _ => rfl)
  obtain ⟨k, rfl, _, hk, _⟩ := inr_n h1 (by decide)
  have hk3 : k < 3 := by omega
  obtain ⟨m, rfl, _, m2, _⟩ := inr_n h2 (by decide)
  have hs : p2.toBitVec.toNat % 65536 < 65536 := Nat.mod_lt _ (by omega)
  obtain ⟨n, hn⟩ := fuN (m + 1) (by omega)
  have hp := prF_PK hT (show τ 1 ≤ 1000 by omega)
  refine Sx2.val (v := ruS (paR (prF τ (τ 1)) (B k) (A1 τ (B k))) (τ 6) (τ 7) (τ 0) m 0 (p2.toBitVec.toNat % 65536)) ?_ ?_
  · unfold fX8_run fX1_begin
    rw [isb8y h1, bd1_mk, if_neg one0, wi1 h2, bd1_mk, if_neg one0]
    refine Sx.b10 (wo8 hk3 hf hT hB st sb pu pe tu ca ho va ma ac) ?_
    rintro c0 c1 c2 c3 c4 c5 c6 c7 c8 c9 ⟨hc, hcb, hsb⟩
    dsimp only at hc hcb hsb
    rw [nm_mk, bd1_mk, seed16, hn, show n + (m + 1) = n + m + 1 by omega, i_0]
    exact Sx.b2 (rn40 hf hT hcb (hB k hk3).2 (hsb.a hT) (fun r hr => aR_T _ _ _ _ _ _ hr) (by omega) m n 0 _ 0 (by omega) hs) (fun _ _ h => Sx.mk h)
  · unfold fX9_run
    rw [isb9y h1, bd1_mk, if_neg one0, in1 h2, bd1_mk, if_neg one0]
    refine Sx.b10 (pn9 hf9 hT hk3 (hb9 k hk3) (hB k hk3).2 x0 x1 x2 x3 pe9 a9 b9 wo9 ho9 ac9) ?_
    rintro d0 d1 d2 d3 pe' d5 d6 d7 d8 d9 ⟨rfl, rfl, rfl, rfl, hP, hG⟩
    dsimp only at hP hG ⊢
    refine Sx.b2 (sw9 mv as9) ?_
    intro mv1 as1 hw1
    dsimp only at hw1
    rw [nm_mk, seed16, hn, show n + (m + 1) = n + m + 1 by omega, i_0]
    refine Sx.b8 (rn46 (hb9 k hk3) (hB k hk3).2 hp hP (by omega) (by omega) hG.a (fun r hr => aR_T _ _ _ _ _ _ hr) (by omega) m n 0 _ 0 mv1 s1 s2 s3 s4 s5 (by omega) hs) ?_
    rintro e0 e1 e2 e3 e4 e5 e6 e7 rfl
    refine Sx.b2 (sw9 e1 as1) ?_
    intro mv2 as2 hw2
    dsimp only at hw2
    refine Sx.mk ⟨rfl, fun y hy => ?_⟩
    show mv2 y = mv y
    rw [(hw2 y hy).1, (hw1 y hy).2]
end
section
/-! pure: terms told by calls: both sides (own rows) -/
def bq (k i : Nat) (b : Nat → Int32) (a : Nat) (v : Int32) : Nat → Int32 := if k = i then upd b a v else b
def Bup (B : Nat → Nat → Nat) (k a x : Nat) : Nat → Nat → Nat := fun i => if i = k then bup (B i) a x else B i
theorem ss8 {k : Nat} (hk : k < 3) {a : Nat} (ha : a < 36) (v : Int32) (b0 b1 b2 : Nat → Int32) : (if nI k = 0 then bd1 (fX0_set (nI a) v b0) (fun x => some (x, b1, b2)) else if nI k = 1 then bd1 (fX0_set (nI a) v b1) (fun x => some (b0, x, b2)) else bd1 (fX0_set (nI a) v b2) (fun x => some (b0, b1, x))) = some (bq k 0 b0 a v, bq k 1 b1 a v, bq k 2 b2 a v) := by
  rcases (show k = 0 ∨ k = 1 ∨ k = 2 by omega) with rfl | rfl | rfl
  · rw [if_pos (show nI 0 = (0 : Int32) from rfl), xset ha, bd1_mk]; rfl
  · rw [if_neg (show ¬ nI 1 = (0 : Int32) from one0), if_pos (show nI 1 = (1 : Int32) from rfl), xset ha, bd1_mk]; rfl
  · rw [if_neg (show ¬ nI 2 = (0 : Int32) by decide), if_neg (show ¬ nI 2 = (1 : Int32) by decide), xset ha, bd1_mk]; rfl
theorem gs8 {k : Nat} (hk : k < 3) {a : Nat} (ha : a < 36) (b0 b1 b2 : Nat → Int32) : (if nI k = 0 then bd1 (fX0_get (nI a) b0) (fun x => some x) else if nI k = 1 then bd1 (fX0_get (nI a) b1) (fun x => some x) else bd1 (fX0_get (nI a) b2) (fun x => some x)) = some (bsel k b0 b1 b2 a) := by
  have hg : ∀ f : Nat → Int32, fX0_get (nI a) f = some (f a) := fun f => by
    unfold fX0_get
    rw [if_neg (nI_pos (by omega)), if_neg (show ¬ (36 : Int32) ≤ nI a from nI_ge (b := 36) ha (by omega)), og32 ha (by omega), nI_clamp (by omega)]; rfl
  rcases (show k = 0 ∨ k = 1 ∨ k = 2 by omega) with rfl | rfl | rfl
  · rw [if_pos (show nI 0 = (0 : Int32) from rfl), hg, bd1_mk]; rfl
  · rw [if_neg (show ¬ nI 1 = (0 : Int32) from one0), if_pos (show nI 1 = (1 : Int32) from rfl), hg, bd1_mk]; rfl
  · rw [if_neg (show ¬ nI 2 = (0 : Int32) by decide), if_neg (show ¬ nI 2 = (1 : Int32) by decide), hg, bd1_mk]; rfl
theorem bq_sel {k i : Nat} (hi : i < 3) (b0 b1 b2 : Nat → Int32) (a : Nat) (v : Int32) : bsel i (bq k 0 b0 a v) (bq k 1 b1 a v) (bq k 2 b2 a v) = if k = i then upd (bsel i b0 b1 b2) a v else bsel i b0 b1 b2 := by
  rcases (show i = 0 ∨ i = 1 ∨ i = 2 by omega) with rfl | rfl | rfl <;> rfl
theorem CB3.up {b0 b1 b2 : Nat → Int32} {B : Nat → Nat → Nat} (h : CB3 b0 b1 b2 B) {k a x : Nat} {v : Int32} (ha : a < 27) (hv : v = eI (bup (B k) a x) a) (hx : okB a x) : CB3 (bq k 0 b0 (cI a) v) (bq k 1 b1 (cI a) v) (bq k 2 b2 (cI a) v) (Bup B k a x) := by
  intro i hi
  rw [bq_sel hi]
  unfold Bup
  by_cases e : i = k
  · subst e
    rw [if_pos rfl, if_pos rfl]
    exact ⟨(h i hi).1.up ha hv, (h i hi).2.up hx⟩
  · rw [if_neg e, if_neg (fun q => e q.symm)]
    exact h i hi
theorem RB3.up {bs : Nat → Int32} {B : Nat → Nat → Nat} (h : ∀ j, j < 3 → RB bs j (B j)) {k a x : Nat} {v : Int32} (ha : a < 27) (hv : v = rI (bup (B k) a x) a) : ∀ j, j < 3 → RB (upd bs (27 * k + a) v) j (Bup B k a x j) := by
  intro j hj
  unfold Bup
  by_cases e : j = k
  · subst e
    rw [if_pos rfl]
    exact (h j hj).up ha hv
  · rw [if_neg e]
    exact (h j hj).fr e (FrB.up ha v)
abbrev FrH (bs t : Nat → Int32) : Prop := ∀ y, 81 ≤ y → t y = bs y
theorem FrH.up {bs : Nat → Int32} {k a : Nat} (hk : k < 3) (ha : a < 27) (v : Int32) : FrH bs (upd bs (27 * k + a) v) := by
  intro y hy
  rw [upS, if_neg (by omega)]
theorem FrH.tr {a b c : Nat → Int32} (h : FrH a b) (g : FrH b c) : FrH a c := fun y hy => (g y hy).trans (h y hy)
/-- what is left of the bonds -/
abbrev BQ (bs : Nat → Int32) (b0 b1 b2 t : Nat → Int32) : Prop := ∃ B, CB3 b0 b1 b2 B ∧ (∀ j, j < 3 → RB t j (B j)) ∧ FrH bs t
abbrev BCT (b0 b1 b2 bs : Nat → Int32) (B : Nat → Nat → Nat) : Prop := CB3 b0 b1 b2 B ∧ ∀ j, j < 3 → RB bs j (B j)
theorem BQ.self {b0 b1 b2 bs : Nat → Int32} {B : Nat → Nat → Nat} (h : BCT b0 b1 b2 bs B) : BQ bs b0 b1 b2 bs := ⟨B, h.1, h.2, fun _ _ => rfl⟩
theorem rt8 {k : Nat} (hk : k < 3) {a : Nat} (ha : a < 36) (v : Int32) (b0 b1 b2 : Nat → Int32) : fX8_replaceTerm (nI k) (nI a) v b0 b1 b2 = some (bsel k b0 b1 b2 a, bq k 0 b0 a v, bq k 1 b1 a v, bq k 2 b2 a v) := by
  unfold fX8_replaceTerm
  rw [isb8' hk, bd1_mk, if_neg one0, og32 hk (by omega), gs8 hk ha, bd1_mk, og32 hk (by omega), ss8 hk ha, bd3_mk]
theorem q_bond {b0 b1 b2 bs : Nat → Int32} {B : Nat → Nat → Nat} (h : BCT b0 b1 b2 bs B) (p1 p2 p3 : Int32) : Sx2 (fX8_bond p1 p2 p3 b0 b1 b2) (fX9_bond p1 p2 p3 bs) (fun s t => BQ bs s.1 s.2.1 s.2.2 t) := by
  by_cases h1 : inr p1 0 2
  rotate_left
  · exact Sx2.mk (by unfold fX8_bond; rw [isb8n h1, bd1_mk, if_pos rfl]) (by unfold fX9_bond; rw [isb9n h1, bd1_mk, if_pos rfl]) (BQ.self h)
  by_cases h2 : inr p2 1 1000000
  rotate_left
  · exact Sx2.mk (by unfold fX8_bond; rw [isb8y h1, bd1_mk, if_neg one0, wi0 h2, bd1_mk, if_pos rfl]) (by unfold fX9_bond; rw [isb9y h1, bd1_mk, if_neg one0, in0 h2, bd1_mk, if_pos rfl]) (BQ.self h)
  by_cases h3 : inr p3 0 1000
  rotate_left
  · exact Sx2.mk (by unfold fX8_bond; rw [isb8y h1, bd1_mk, if_neg one0, wi1 h2, bd1_mk, if_neg one0, wi0 h3, bd1_mk, if_pos rfl]) (by unfold fX9_bond; rw [isb9y h1, bd1_mk, if_neg one0, in1 h2, bd1_mk, if_neg one0, in0 h3, bd1_mk, if_pos rfl]) (BQ.self h)
  obtain ⟨k, rfl, ka, kb, kc⟩ := inr_n h1 (by decide)
  obtain ⟨f, rfl, fa, fb, fc⟩ := inr_n h2 (by decide)
  obtain ⟨r, rfl, ra, rb, rc⟩ := inr_n h3 (by decide)
  have hk : k < 3 := by omega
  have u1 := h.1.up (k := k) (a := 0) (x := f) (v := nI f) (by omega) (by rw [eI_n (by omega), bup_s]) ⟨by omega, by omega, by omega, by omega, by omega, by omega, by omega, by omega, by omega⟩
  have u2 := u1.up (k := k) (a := 1) (x := r) (v := nI r) (by omega) (by rw [eI_n (by omega), bup_s]) ⟨by omega, by omega, by omega, by omega, by omega, by omega, by omega, by omega, by omega⟩
  have w1 := RB3.up h.2 (k := k) (a := 0) (x := f) (v := nI f) (by omega) (by rw [rI_n (by omega), bup_s])
  have w2 := RB3.up w1 (k := k) (a := 1) (x := r) (v := nI r) (by omega) (by rw [rI_n (by omega), bup_s])
  refine Sx2.mk (r := 1) (s1 := (bq k 0 (bq k 0 b0 0 (nI f)) 1 (nI r), bq k 1 (bq k 1 b1 0 (nI f)) 1 (nI r), bq k 2 (bq k 2 b2 0 (nI f)) 1 (nI r))) (by
    unfold fX8_bond
    rw [isb8y h1, bd1_mk, if_neg one0, wi1 h2, bd1_mk, if_neg one0, wi1 h3, bd1_mk, if_neg one0, og32 hk (by omega)]
    rw [show (if nI k = 0 then bd1 (fX0_set 0 (nI f) b0) (fun x => some (x, b1, b2)) else if nI k = 1 then bd1 (fX0_set 0 (nI f) b1) (fun x => some (b0, x, b2)) else bd1 (fX0_set 0 (nI f) b2) (fun x => some (b0, b1, x))) = _ from ss8 hk (a := 0) (by omega) _ _ _ _, bd3_mk, og32 hk (by omega)]
    rw [show (if nI k = 0 then bd1 (fX0_set 1 (nI r) (bq k 0 b0 0 (nI f))) (fun x => some (x, (bq k 1 b1 0 (nI f)), (bq k 2 b2 0 (nI f)))) else if nI k = 1 then bd1 (fX0_set 1 (nI r) (bq k 1 b1 0 (nI f))) (fun x => some ((bq k 0 b0 0 (nI f)), x, (bq k 2 b2 0 (nI f)))) else bd1 (fX0_set 1 (nI r) (bq k 2 b2 0 (nI f))) (fun x => some ((bq k 0 b0 0 (nI f)), (bq k 1 b1 0 (nI f)), x))) = _ from ss8 hk (a := 1) (by omega) _ _ _ _, bd3_mk]) (by
    unfold fX9_bond
    rw [isb9y h1, bd1_mk, if_neg one0, in1 h2, bd1_mk, if_neg one0, in1 h3, bd1_mk, if_neg one0, i_0, i_1, se9 (by omega), bd1_mk, se9 (by omega), bd1_mk]) ⟨_, u2, w2, (FrH.up hk (by omega) _).tr (FrH.up hk (by omega) _)⟩
theorem q_coupon {b0 b1 b2 bs : Nat → Int32} {B : Nat → Nat → Nat} (h : BCT b0 b1 b2 bs B) (p1 p2 p3 : Int32) : Sx2 (fX8_coupon p1 p2 p3 b0 b1 b2) (fX9_coupon p1 p2 p3 bs) (fun s t => BQ bs s.1 s.2.1 s.2.2 t) := by
  by_cases h1 : inr p1 0 2
  rotate_left
  · exact Sx2.mk (by unfold fX8_coupon; rw [isb8n h1, bd1_mk, if_pos rfl]) (by unfold fX9_coupon; rw [isb9n h1, bd1_mk, if_pos rfl]) (BQ.self h)
  by_cases h2 : inr p2 1 6
  rotate_left
  · exact Sx2.mk (by unfold fX8_coupon; rw [isb8y h1, bd1_mk, if_neg one0, wi0 h2, bd1_mk, if_pos rfl]) (by unfold fX9_coupon; rw [isb9y h1, bd1_mk, if_neg one0, in0 h2, bd1_mk, if_pos rfl]) (BQ.self h)
  by_cases h3 : inr p3 0 1000
  rotate_left
  · exact Sx2.mk (by unfold fX8_coupon; rw [isb8y h1, bd1_mk, if_neg one0, wi1 h2, bd1_mk, if_neg one0, wi0 h3, bd1_mk, if_pos rfl]) (by unfold fX9_coupon; rw [isb9y h1, bd1_mk, if_neg one0, in1 h2, bd1_mk, if_neg one0, in0 h3, bd1_mk, if_pos rfl]) (BQ.self h)
  obtain ⟨k, rfl, ka, kb, kc⟩ := inr_n h1 (by decide)
  obtain ⟨t, rfl, ta, tb, tc⟩ := inr_n h2 (by decide)
  obtain ⟨c, rfl, ca, cb, cc⟩ := inr_n h3 (by decide)
  have hk : k < 3 := by omega
  have ec : cI (2 + t) = 10 + t := by unfold cI; rw [if_neg (by omega), if_pos (by omega)]; omega
  have u1 := h.1.up (k := k) (a := 2 + t) (x := c) (v := nI c) (by omega) (by rw [eI_n (by omega), bup_s]) ⟨by omega, by omega, by omega, by omega, by omega, by omega, by omega, by omega, by omega⟩
  have w1 := RB3.up h.2 (k := k) (a := 2 + t) (x := c) (v := nI c) (by omega) (by rw [rI_n (by omega), bup_s])
  have g1 := (h.1 k hk).1.u (2 + t) (by omega) (by omega)
  rw [eI_n (by omega)] at g1
  rw [ec] at u1 g1
  refine Sx2.mk (r := nI (B k (2 + t))) (s1 := (bq k 0 b0 (10 + t) (nI c), bq k 1 b1 (10 + t) (nI c), bq k 2 b2 (10 + t) (nI c))) (by
    unfold fX8_coupon
    rw [isb8y h1, bd1_mk, if_neg one0, wi1 h2, bd1_mk, if_neg one0, wi1 h3, bd1_mk, if_neg one0, i_10, nI_add, rt8 hk (by omega), bd4_mk, g1]) (by
    unfold fX9_coupon
    rw [isb9y h1, bd1_mk, if_neg one0, in1 h2, bd1_mk, if_neg one0, in1 h3, bd1_mk, if_neg one0, i_2, nI_add, of9 (h.2 k hk) (by omega), bd1_mk, se9 (by omega), bd1_mk, rI_n (by omega)]) ⟨_, u1, w1, FrH.up hk (by omega) _⟩
theorem q_settle {b0 b1 b2 bs : Nat → Int32} {B : Nat → Nat → Nat} (h : BCT b0 b1 b2 bs B) (p1 p2 : Int32) : Sx2 (fX8_settle p1 p2 b0 b1 b2) (fX9_settle p1 p2 bs) (fun s t => BQ bs s.1 s.2.1 s.2.2 t) := by
  by_cases h1 : inr p1 0 2
  rotate_left
  · exact Sx2.mk (by unfold fX8_settle; rw [isb8n h1, bd1_mk, if_pos rfl]) (by unfold fX9_settle; rw [isb9n h1, bd1_mk, if_pos rfl]) (BQ.self h)
  by_cases h2 : inr p2 0 3
  rotate_left
  · exact Sx2.mk (by unfold fX8_settle; rw [isb8y h1, bd1_mk, if_neg one0, wi0 h2, bd1_mk, if_pos rfl]) (by unfold fX9_settle; rw [isb9y h1, bd1_mk, if_neg one0, in0 h2, bd1_mk, if_pos rfl]) (BQ.self h)
  obtain ⟨k, rfl, ka, kb, kc⟩ := inr_n h1 (by decide)
  obtain ⟨c, rfl, ca, cb, cc⟩ := inr_n h2 (by decide)
  have hk : k < 3 := by omega
  have u1 := h.1.up (k := k) (a := 26) (x := c) (v := nI c) (by omega) (by rw [eI_n (by omega), bup_s]) ⟨by omega, by omega, by omega, by omega, by omega, by omega, by omega, by omega, by omega⟩
  have w1 := RB3.up h.2 (k := k) (a := 26) (x := c) (v := nI c) (by omega) (by rw [rI_n (by omega), bup_s])
  have g1 := (h.1 k hk).1.u 26 (by omega) (by omega)
  rw [eI_n (by omega)] at g1
  refine Sx2.mk (r := nI (B k 26)) (s1 := (bq k 0 b0 7 (nI c), bq k 1 b1 7 (nI c), bq k 2 b2 7 (nI c))) (by
    unfold fX8_settle
    rw [isb8y h1, bd1_mk, if_neg one0, wi1 h2, bd1_mk, if_neg one0, i_7, rt8 hk (by omega), bd4_mk, show bsel k b0 b1 b2 7 = _ from g1]) (by
    unfold fX9_settle
    rw [isb9y h1, bd1_mk, if_neg one0, in1 h2, bd1_mk, if_neg one0, i_26, of9 (h.2 k hk) (by omega), bd1_mk, se9 (by omega), bd1_mk, rI_n (by omega)]) ⟨_, u1, w1, FrH.up hk (by omega) _⟩
theorem td9 {e : Nat} (he : e < 2 ^ 31) : fX9_told2 (iM e) = some (iC e) := by
  unfold fX9_told2
  by_cases h : e = 0
  · subst h; rfl
  · rw [if_neg (fun q => h ((iM_m1 he).mp q)), bd1_mk]
    obtain ⟨n, rfl⟩ : ∃ n, e = n + 1 := ⟨e - 1, by omega⟩
    rw [iM_s, iC_s]
theorem inr_m1 {x : Int32} (h : inr x (-1) 1000000) : ∃ e : Nat, e ≤ 1000001 ∧ x = iM e ∧ (x = -1 ↔ e = 0) ∧ (e ≠ 0 → x = nI (e - 1)) := by
  by_cases g : x = -1
  · exact ⟨0, by omega, by rw [g]; rfl, ⟨fun _ => rfl, fun _ => g⟩, fun q => absurd rfl q⟩
  · have hx : inr x 0 1000000 := by
      refine ⟨?_, h.2⟩
      have h1 := h.1
      have h2 : x.toInt ≠ -1 := fun q => g (Int32.toInt_inj.mp q)
      omega
    obtain ⟨n, rfl, a, b, c⟩ := inr_n hx (by decide)
    exact ⟨n + 1, by omega, by rw [iM_s], ⟨fun q => absurd q g, fun q => by omega⟩, fun _ => by rw [Nat.add_sub_cancel]⟩
theorem q_call {b0 b1 b2 bs : Nat → Int32} {B : Nat → Nat → Nat} (h : BCT b0 b1 b2 bs B) (p1 p2 p3 : Int32) : Sx2 (fX8_call p1 p2 p3 b0 b1 b2) (fX9_call p1 p2 p3 bs) (fun s t => BQ bs s.1 s.2.1 s.2.2 t) := by
  by_cases h1 : inr p1 0 2
  rotate_left
  · exact Sx2.mk (by unfold fX8_call fX8_replaceRight; rw [isb8n h1, bd1_mk, if_pos rfl]; rfl) (by unfold fX9_call fX9_tells; rw [isb9n h1, bd1_mk, if_pos rfl]; rfl) (BQ.self h)
  by_cases h2 : inr p2 0 5
  rotate_left
  · exact Sx2.mk (by unfold fX8_call fX8_replaceRight; rw [isb8y h1, bd1_mk, if_neg one0, wi0 h2, bd1_mk, if_pos rfl]; rfl) (by unfold fX9_call fX9_tells; rw [isb9y h1, bd1_mk, if_neg one0, in0 h2, bd1_mk, if_pos rfl]; rfl) (BQ.self h)
  by_cases h3 : inr p3 (-1) 1000000
  rotate_left
  · have g1 : ¬ p3 = -1 := fun q => h3 (by rw [q]; decide)
    have g2 : ¬ inr p3 0 1000000 := fun q => h3 ⟨by have := q.1; omega, q.2⟩
    exact Sx2.mk (by unfold fX8_call fX8_replaceRight; rw [isb8y h1, bd1_mk, if_neg one0, wi1 h2, bd1_mk, if_neg one0, if_neg g1, isp8n g2, bd1_mk, if_pos rfl]; rfl) (by unfold fX9_call fX9_tells; rw [isb9y h1, bd1_mk, if_neg one0, in1 h2, bd1_mk, if_neg one0, in0 h3, bd1_mk, if_pos rfl]; rfl) (BQ.self h)
  obtain ⟨k, rfl, ka, kb, kc⟩ := inr_n h1 (by decide)
  obtain ⟨t, rfl, ta, tb, tc⟩ := inr_n h2 (by decide)
  have hk : k < 3 := by omega
  obtain ⟨e, he, ex, em, en⟩ := inr_m1 h3
  have ec : cI (9 + t) = 20 + t := by unfold cI; rw [if_neg (by omega), if_neg (by omega), if_pos (by omega)]; omega
  have u1 := h.1.up (k := k) (a := 9 + t) (x := e) (v := iC e) (by omega) (by rw [eI_c (by omega), bup_s]) ⟨by omega, by omega, by omega, by omega, by omega, by omega, by omega, by omega, by omega⟩
  have w1 := RB3.up h.2 (k := k) (a := 9 + t) (x := e) (v := p3) (by omega) (by rw [rI_m (by omega), bup_s, ex])
  have g1 := (h.1 k hk).1.u (9 + t) (by omega) (by omega)
  rw [eI_c (by omega)] at g1
  rw [ec] at u1 g1
  have hbk : B k (9 + t) ≤ 1000001 := (h.1 k hk).2.2.2.2.1 t (by omega)
  refine Sx2.mk (r := iC (B k (9 + t))) (s1 := (bq k 0 b0 (20 + t) (iC e), bq k 1 b1 (20 + t) (iC e), bq k 2 b2 (20 + t) (iC e))) (s2 := upd bs (27 * k + (9 + t)) p3) (by
    unfold fX8_call fX8_replaceRight
    rw [isb8y h1, bd1_mk, if_neg one0, wi1 h2, bd1_mk, if_neg one0]
    by_cases g : p3 = -1
    · have e0 : e = 0 := em.mp g
      rw [if_pos g, if_pos g, bd1_mk, i_20, nI_add, rt8 hk (by omega), bd4_mk, bd4_mk, g1, show (-2 : Int32) = iC e by rw [e0]; rfl]
    · have e0 : e ≠ 0 := fun q => g (em.mpr q)
      have g2 : inr p3 0 1000000 := ⟨by have := h3.1; have h4 : p3.toInt ≠ -1 := fun q => g (Int32.toInt_inj.mp q); omega, h3.2⟩
      rw [if_neg g, isp8y g2, bd1_mk, if_neg one0, if_neg g, bd1_mk, i_20, nI_add, rt8 hk (by omega), bd4_mk, bd4_mk, g1, show p3 = iC e by rw [en e0]; obtain ⟨m, rfl⟩ : ∃ m, e = m + 1 := ⟨e - 1, by omega⟩; rw [iC_s, Nat.add_sub_cancel]]) (by
    unfold fX9_call fX9_tells
    rw [isb9y h1, bd1_mk, if_neg one0, in1 h2, bd1_mk, if_neg one0, in1 h3, bd1_mk, if_neg one0, i_9, nI_add, of9 (h.2 k hk) (by omega), bd1_mk, se9 (by omega), bd1_mk, rI_m (by omega), td9 (by omega), bd1_mk, bd2_mk]) ⟨_, u1, w1, FrH.up hk (by omega) _⟩
theorem q_put {b0 b1 b2 bs : Nat → Int32} {B : Nat → Nat → Nat} (h : BCT b0 b1 b2 bs B) (p1 p2 p3 : Int32) : Sx2 (fX8_put p1 p2 p3 b0 b1 b2) (fX9_put p1 p2 p3 bs) (fun s t => BQ bs s.1 s.2.1 s.2.2 t) := by
  by_cases h1 : inr p1 0 2
  rotate_left
  · exact Sx2.mk (by unfold fX8_put fX8_replaceRight; rw [isb8n h1, bd1_mk, if_pos rfl]; rfl) (by unfold fX9_put fX9_tells; rw [isb9n h1, bd1_mk, if_pos rfl]; rfl) (BQ.self h)
  by_cases h2 : inr p2 0 5
  rotate_left
  · exact Sx2.mk (by unfold fX8_put fX8_replaceRight; rw [isb8y h1, bd1_mk, if_neg one0, wi0 h2, bd1_mk, if_pos rfl]; rfl) (by unfold fX9_put fX9_tells; rw [isb9y h1, bd1_mk, if_neg one0, in0 h2, bd1_mk, if_pos rfl]; rfl) (BQ.self h)
  by_cases h3 : inr p3 (-1) 1000000
  rotate_left
  · have g1 : ¬ p3 = -1 := fun q => h3 (by rw [q]; decide)
    have g2 : ¬ inr p3 0 1000000 := fun q => h3 ⟨by have := q.1; omega, q.2⟩
    exact Sx2.mk (by unfold fX8_put fX8_replaceRight; rw [isb8y h1, bd1_mk, if_neg one0, wi1 h2, bd1_mk, if_neg one0, if_neg g1, isp8n g2, bd1_mk, if_pos rfl]; rfl) (by unfold fX9_put fX9_tells; rw [isb9y h1, bd1_mk, if_neg one0, in1 h2, bd1_mk, if_neg one0, in0 h3, bd1_mk, if_pos rfl]; rfl) (BQ.self h)
  obtain ⟨k, rfl, ka, kb, kc⟩ := inr_n h1 (by decide)
  obtain ⟨t, rfl, ta, tb, tc⟩ := inr_n h2 (by decide)
  have hk : k < 3 := by omega
  obtain ⟨e, he, ex, em, en⟩ := inr_m1 h3
  have ec : cI (15 + t) = 30 + t := by unfold cI; rw [if_neg (by omega), if_neg (by omega), if_neg (by omega), if_pos (by omega)]; omega
  have u1 := h.1.up (k := k) (a := 15 + t) (x := e) (v := iC e) (by omega) (by rw [eI_c (by omega), bup_s]) ⟨by omega, by omega, by omega, by omega, by omega, by omega, by omega, by omega, by omega⟩
  have w1 := RB3.up h.2 (k := k) (a := 15 + t) (x := e) (v := p3) (by omega) (by rw [rI_m (by omega), bup_s, ex])
  have g1 := (h.1 k hk).1.u (15 + t) (by omega) (by omega)
  rw [eI_c (by omega)] at g1
  rw [ec] at u1 g1
  have hbk : B k (15 + t) ≤ 1000001 := (h.1 k hk).2.2.2.2.2.1 t (by omega)
  refine Sx2.mk (r := iC (B k (15 + t))) (s1 := (bq k 0 b0 (30 + t) (iC e), bq k 1 b1 (30 + t) (iC e), bq k 2 b2 (30 + t) (iC e))) (s2 := upd bs (27 * k + (15 + t)) p3) (by
    unfold fX8_put fX8_replaceRight
    rw [isb8y h1, bd1_mk, if_neg one0, wi1 h2, bd1_mk, if_neg one0]
    by_cases g : p3 = -1
    · have e0 : e = 0 := em.mp g
      rw [if_pos g, if_pos g, bd1_mk, i_30, nI_add, rt8 hk (by omega), bd4_mk, bd4_mk, g1, show (-2 : Int32) = iC e by rw [e0]; rfl]
    · have e0 : e ≠ 0 := fun q => g (em.mpr q)
      have g2 : inr p3 0 1000000 := ⟨by have := h3.1; have h4 : p3.toInt ≠ -1 := fun q => g (Int32.toInt_inj.mp q); omega, h3.2⟩
      rw [if_neg g, isp8y g2, bd1_mk, if_neg one0, if_neg g, bd1_mk, i_30, nI_add, rt8 hk (by omega), bd4_mk, bd4_mk, g1, show p3 = iC e by rw [en e0]; obtain ⟨m, rfl⟩ : ∃ m, e = m + 1 := ⟨e - 1, by omega⟩; rw [iC_s, Nat.add_sub_cancel]]) (by
    unfold fX9_put fX9_tells
    rw [isb9y h1, bd1_mk, if_neg one0, in1 h2, bd1_mk, if_neg one0, in1 h3, bd1_mk, if_neg one0, i_15, nI_add, of9 (h.2 k hk) (by omega), bd1_mk, se9 (by omega), bd1_mk, rI_m (by omega), td9 (by omega), bd1_mk, bd2_mk]) ⟨_, u1, w1, FrH.up hk (by omega) _⟩
theorem q_soft {b0 b1 b2 bs : Nat → Int32} {B : Nat → Nat → Nat} (h : BCT b0 b1 b2 bs B) (p1 p2 p3 p4 : Int32) : Sx2 (fX8_soft p1 p2 p3 p4 b0 b1 b2) (fX9_soft p1 p2 p3 p4 bs) (fun s t => BQ bs s.1 s.2.1 s.2.2 t) := by
  by_cases h1 : inr p1 0 2
  rotate_left
  · exact Sx2.mk (by unfold fX8_soft; rw [isb8n h1, bd1_mk, if_pos rfl]) (by unfold fX9_soft; rw [isb9n h1, bd1_mk, if_pos rfl]) (BQ.self h)
  by_cases h2 : inr p3 1 3
  rotate_left
  · exact Sx2.mk (by unfold fX8_soft; rw [isb8y h1, bd1_mk, if_neg one0, wi0 h2, bd1_mk, if_pos rfl]) (by unfold fX9_soft; rw [isb9y h1, bd1_mk, if_neg one0, in0 h2, bd1_mk, if_pos rfl]) (BQ.self h)
  by_cases h3 : inr p2 0 p3.toInt
  rotate_left
  · exact Sx2.mk (by unfold fX8_soft; rw [isb8y h1, bd1_mk, if_neg one0, wi1 h2, bd1_mk, if_neg one0, wi0 h3, bd1_mk, if_pos rfl]) (by unfold fX9_soft; rw [isb9y h1, bd1_mk, if_neg one0, in1 h2, bd1_mk, if_neg one0, in0 h3 rfl (Int32.toInt_toInt64 p3), bd1_mk, if_pos rfl]) (BQ.self h)
  by_cases h4 : inr p4 0 1000000
  rotate_left
  · exact Sx2.mk (by unfold fX8_soft; rw [isb8y h1, bd1_mk, if_neg one0, wi1 h2, bd1_mk, if_neg one0, wi1 h3, bd1_mk, if_neg one0, isp8n h4, bd1_mk, if_pos rfl]) (by unfold fX9_soft; rw [isb9y h1, bd1_mk, if_neg one0, in1 h2, bd1_mk, if_neg one0, in1 h3 rfl (Int32.toInt_toInt64 p3), bd1_mk, if_neg one0, in0 h4, bd1_mk, if_pos rfl]) (BQ.self h)
  obtain ⟨k, rfl, ka, kb, kc⟩ := inr_n h1 (by decide)
  obtain ⟨w, rfl, wa, wb, wc⟩ := inr_n h2 (by decide)
  obtain ⟨l, rfl, la, lb, lc⟩ := inr_n h4 (by decide)
  rw [nI_toInt wc] at h3
  obtain ⟨m, rfl, ma, mb, mc⟩ := inr_n h3 (by decide)
  have hk : k < 3 := by omega
  have h3' : inr (nI m) 0 (nI w).toInt := by rw [nI_toInt wc]; exact h3
  have u1 := h.1.up (k := k) (a := 23) (x := m) (v := nI m) (by omega) (by rw [eI_n (by omega), bup_s]) ⟨by omega, by omega, by omega, by omega, by omega, by omega, by omega, by omega, by omega⟩
  have u2 := u1.up (k := k) (a := 24) (x := w) (v := nI w) (by omega) (by rw [eI_n (by omega), bup_s]) ⟨by omega, by omega, by omega, by omega, by omega, by omega, by omega, by omega, by omega⟩
  have u3 := u2.up (k := k) (a := 25) (x := l) (v := nI l) (by omega) (by rw [eI_n (by omega), bup_s]) ⟨by omega, by omega, by omega, by omega, by omega, by omega, by omega, by omega, by omega⟩
  have w1 := RB3.up h.2 (k := k) (a := 23) (x := m) (v := nI m) (by omega) (by rw [rI_n (by omega), bup_s])
  have w2 := RB3.up w1 (k := k) (a := 24) (x := w) (v := nI w) (by omega) (by rw [rI_n (by omega), bup_s])
  have w3 := RB3.up w2 (k := k) (a := 25) (x := l) (v := nI l) (by omega) (by rw [rI_n (by omega), bup_s])
  refine Sx2.mk (r := 1) (s1 := ((bq k 0 (bq k 0 (bq k 0 b0 4 (nI m)) 5 (nI w)) 6 (nI l)), (bq k 1 (bq k 1 (bq k 1 b1 4 (nI m)) 5 (nI w)) 6 (nI l)), (bq k 2 (bq k 2 (bq k 2 b2 4 (nI m)) 5 (nI w)) 6 (nI l)))) (by
    unfold fX8_soft
    rw [isb8y h1, bd1_mk, if_neg one0, wi1 h2, bd1_mk, if_neg one0, wi1 h3', bd1_mk, if_neg one0, isp8y h4, bd1_mk, if_neg one0, og32 hk (by omega)]
    rw [show (if nI k = 0 then bd1 (fX0_set 4 (nI m) b0) (fun zz => some (zz, b1, b2)) else if nI k = 1 then bd1 (fX0_set 4 (nI m) b1) (fun zz => some (b0, zz, b2)) else bd1 (fX0_set 4 (nI m) b2) (fun zz => some (b0, b1, zz))) = _ from ss8 hk (a := 4) (by omega) _ _ _ _, bd3_mk, og32 hk (by omega)]
    rw [show (if nI k = 0 then bd1 (fX0_set 5 (nI w) (bq k 0 b0 4 (nI m))) (fun zz => some (zz, (bq k 1 b1 4 (nI m)), (bq k 2 b2 4 (nI m)))) else if nI k = 1 then bd1 (fX0_set 5 (nI w) (bq k 1 b1 4 (nI m))) (fun zz => some ((bq k 0 b0 4 (nI m)), zz, (bq k 2 b2 4 (nI m)))) else bd1 (fX0_set 5 (nI w) (bq k 2 b2 4 (nI m))) (fun zz => some ((bq k 0 b0 4 (nI m)), (bq k 1 b1 4 (nI m)), zz))) = _ from ss8 hk (a := 5) (by omega) _ _ _ _, bd3_mk, og32 hk (by omega)]
    rw [show (if nI k = 0 then bd1 (fX0_set 6 (nI l) (bq k 0 (bq k 0 b0 4 (nI m)) 5 (nI w))) (fun zz => some (zz, (bq k 1 (bq k 1 b1 4 (nI m)) 5 (nI w)), (bq k 2 (bq k 2 b2 4 (nI m)) 5 (nI w)))) else if nI k = 1 then bd1 (fX0_set 6 (nI l) (bq k 1 (bq k 1 b1 4 (nI m)) 5 (nI w))) (fun zz => some ((bq k 0 (bq k 0 b0 4 (nI m)) 5 (nI w)), zz, (bq k 2 (bq k 2 b2 4 (nI m)) 5 (nI w)))) else bd1 (fX0_set 6 (nI l) (bq k 2 (bq k 2 b2 4 (nI m)) 5 (nI w))) (fun zz => some ((bq k 0 (bq k 0 b0 4 (nI m)) 5 (nI w)), (bq k 1 (bq k 1 b1 4 (nI m)) 5 (nI w)), zz))) = _ from ss8 hk (a := 6) (by omega) _ _ _ _, bd3_mk]) (by
    unfold fX9_soft fX9_softens
    rw [isb9y h1, bd1_mk, if_neg one0, in1 h2, bd1_mk, if_neg one0, in1 h3' rfl (Int32.toInt_toInt64 _), bd1_mk, if_neg one0, in1 h4, bd1_mk, if_neg one0, i_23, i_24, i_25, se9 (by omega), bd1_mk, se9 (by omega), bd1_mk, se9 (by omega), bd1_mk, bd1_mk]) ⟨_, u3, w3, ((FrH.up hk (by omega) _).tr (FrH.up hk (by omega) _)).tr (FrH.up hk (by omega) _)⟩
theorem q_window {b0 b1 b2 bs : Nat → Int32} {B : Nat → Nat → Nat} (h : BCT b0 b1 b2 bs B) (p1 p2 p3 : Int32) : Sx2 (fX8_window p1 p2 p3 b0 b1 b2) (fX9_window p1 p2 p3 bs) (fun s t => BQ bs s.1 s.2.1 s.2.2 t) := by
  by_cases h1 : inr p1 0 2
  rotate_left
  · exact Sx2.mk (by unfold fX8_window; rw [isb8n h1, bd1_mk, if_pos rfl]) (by unfold fX9_window; rw [isb9n h1, bd1_mk, if_pos rfl]) (BQ.self h)
  by_cases h2 : inr p3 0 6 ∧ inr p2 0 p3.toInt
  rotate_left
  · refine Sx2.mk (r := 0) (s1 := (b0, b1, b2)) (s2 := bs) ?_ ?_ (BQ.self h)
    · unfold fX8_window
      rw [isb8y h1, bd1_mk, if_neg one0]
      by_cases g : inr p3 0 6
      · rw [wi1 g, bd1_mk, if_neg one0, wi0 (fun q => h2 ⟨g, q⟩), bd1_mk, if_pos rfl]
      · rw [wi0 g, bd1_mk, if_pos rfl]
    · unfold fX9_window
      rw [isb9y h1, bd1_mk, if_neg one0]
      by_cases g : inr p2 0 6
      · have g2 : ¬ inr p3 p2.toInt 6 := fun q => h2 ⟨⟨by have := q.1; have := g.1; omega, q.2⟩, ⟨g.1, q.1⟩⟩
        rw [in1 g, bd1_mk, if_neg one0, in0 g2 (Int32.toInt_toInt64 p2) rfl, bd1_mk, if_pos rfl]
      · rw [in0 g, bd1_mk, if_pos rfl]
  obtain ⟨h2, h3⟩ := h2
  obtain ⟨k, rfl, ka, kb, kc⟩ := inr_n h1 (by decide)
  obtain ⟨y, rfl, ya, yb, yc⟩ := inr_n h2 (by decide)
  rw [nI_toInt yc] at h3
  obtain ⟨x, rfl, xa, xb, xc⟩ := inr_n h3 (by decide)
  have hk : k < 3 := by omega
  have h3' : inr (nI x) 0 (nI y).toInt := by rw [nI_toInt yc]; exact h3
  have h4 : inr (nI x) 0 6 := by rw [inr_nI xc]; omega
  have h5 : inr (nI y) (nI x).toInt 6 := by rw [nI_toInt xc, inr_nI yc]; omega
  have u1 := h.1.up (k := k) (a := 21) (x := x) (v := nI x) (by omega) (by rw [eI_n (by omega), bup_s]) ⟨by omega, by omega, by omega, by omega, by omega, by omega, by omega, by omega, by omega⟩
  have u2 := u1.up (k := k) (a := 22) (x := y) (v := nI y) (by omega) (by rw [eI_n (by omega), bup_s]) ⟨by omega, by omega, by omega, by omega, by omega, by omega, by omega, by omega, by omega⟩
  have w1 := RB3.up h.2 (k := k) (a := 21) (x := x) (v := nI x) (by omega) (by rw [rI_n (by omega), bup_s])
  have w2 := RB3.up w1 (k := k) (a := 22) (x := y) (v := nI y) (by omega) (by rw [rI_n (by omega), bup_s])
  refine Sx2.mk (r := 1) (s1 := ((bq k 0 (bq k 0 b0 2 (nI x)) 3 (nI y)), (bq k 1 (bq k 1 b1 2 (nI x)) 3 (nI y)), (bq k 2 (bq k 2 b2 2 (nI x)) 3 (nI y)))) (by
    unfold fX8_window
    rw [isb8y h1, bd1_mk, if_neg one0, wi1 h2, bd1_mk, if_neg one0, wi1 h3', bd1_mk, if_neg one0, og32 hk (by omega)]
    rw [show (if nI k = 0 then bd1 (fX0_set 2 (nI x) b0) (fun zz => some (zz, b1, b2)) else if nI k = 1 then bd1 (fX0_set 2 (nI x) b1) (fun zz => some (b0, zz, b2)) else bd1 (fX0_set 2 (nI x) b2) (fun zz => some (b0, b1, zz))) = _ from ss8 hk (a := 2) (by omega) _ _ _ _, bd3_mk, og32 hk (by omega)]
    rw [show (if nI k = 0 then bd1 (fX0_set 3 (nI y) (bq k 0 b0 2 (nI x))) (fun zz => some (zz, (bq k 1 b1 2 (nI x)), (bq k 2 b2 2 (nI x)))) else if nI k = 1 then bd1 (fX0_set 3 (nI y) (bq k 1 b1 2 (nI x))) (fun zz => some ((bq k 0 b0 2 (nI x)), zz, (bq k 2 b2 2 (nI x)))) else bd1 (fX0_set 3 (nI y) (bq k 2 b2 2 (nI x))) (fun zz => some ((bq k 0 b0 2 (nI x)), (bq k 1 b1 2 (nI x)), zz))) = _ from ss8 hk (a := 3) (by omega) _ _ _ _, bd3_mk]) (by
    unfold fX9_window
    rw [isb9y h1, bd1_mk, if_neg one0, in1 h4, bd1_mk, if_neg one0, in1 h5 (Int32.toInt_toInt64 _) rfl, bd1_mk, if_neg one0, i_21, i_22, se9 (by omega), bd1_mk, se9 (by omega), bd1_mk]) ⟨_, u2, w2, (FrH.up hk (by omega) _).tr (FrH.up hk (by omega) _)⟩
end
