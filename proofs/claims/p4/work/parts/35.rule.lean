/-! pure: byRule (own rows) -/
theorem ite10 {c : Prop} [Decidable c] : ((if c then (1 : Int32) else 0) = 0) = ¬ c := by
  by_cases h : c
  · rw [if_pos h]; exact propext ⟨fun q => absurd q one0, fun q => absurd h q⟩
  · rw [if_neg h]; exact propext ⟨fun _ => h, fun _ => rfl⟩
theorem rl9 {bs : Nat → Int32} {pe wo : Nat → Int64} {ac : Nat → Int32} {k T p q R : Nat} {β : Nat → Nat} {π : Nat → Nat → Nat} (hb : RB bs k β) (hK : BK β) (hp : PK π) (hP : RP pe T π) (hN : NK T p q R) {x y : Nat} (hx : x ≤ 1000000) (hy : y ≤ 1000000) {t j u m va vb : Nat} (hm : m < 8) (hok : okS t j u) (ht : t < T) (h1 : wo (atN (t + 1) (j + 1) 1 (mkF π β m (t + 1) (j + 1))) = lN va) (h0 : wo (atN (t + 1) j 0 (mkF π β m (t + 1) j)) = lN vb) (ha : va ≤ 64000000007000) (hbb : vb ≤ 64000000007000) : fX9_laysByRule (nI k) (nI t) (nI j) (nI u) (nI m) (nI x) (nI y) bs (nI T) (nI p) (nI q) (nI R) pe wo ac = some (vp_updL wo (atN t j u m) (lN (rV x y π β t j u m (mn p q R va vb))), upd ac (atN t j u m) (nI (rA x y π β t j u m))) := by
  unfold fX9_laysByRule
  have l1 : atN t j u m < 784 := atN_lt (by omega) (by omega) (by omega) hm
  have htu := tuS_le hp hK t j u
  have hcg := cgS_le hp hK t j u
  have hca := caL_le hK t
  have hcp := cpF_le hK t
  have hpe := hp t j
  have hh : mn p q R va vb ≤ 64000000007000 := mn_le (by omega) (by omega) ha hbb
  simp only [at9, bd1_mk, tu9 hb hK hp hP hN.1.2 hok (show t ≤ T by omega), fr9 hb hK hN.1.2 ht hm, cp9 hb (show t ≤ 6 by omega), ho9 hb hK hp hP hN (nI u) (show j ≤ t by omega) hm ht h1 h0 (by omega) (by omega), ca9 hb hN.1.2 ht, cg9 hb hK hp hP hN.1.2 hok ht, og32 l1 (show 784 < 2 ^ 31 by omega), nm_mk, nI_clamp (show atN t j u m < 2 ^ 31 by omega), i_7, pk_mul, nI_add, og32 (show 7 * t + j < 49 by omega) (show 49 < 2 ^ 31 by omega), nI_clamp (show 7 * t + j < 2 ^ 31 by omega), hP t j hok.1 (show t ≤ T by omega), nI_l (show x < 2 ^ 31 by omega), nI_l (show y < 2 ^ 31 by omega), nI_l (show cpF β t < 2 ^ 31 by omega), pk_lLT (a := π t j) (b := x) (by omega) (by omega), pk_lLT (a := π t j) (b := y) (by omega) (by omega), lM_m1 (e := tuS π β t j u) (by omega), iM_l (e := caL β t) (by omega), lM_le (a := tuS π β t j u) (b := caL β t) (by omega) (by omega), ite10]
  generalize mn p q R va vb = h at *
  have e34 : (if tuS π β t j u ≤ caL β t then some (3 : Int32) else some 4) = some (nI (if caL β t < tuS π β t j u then 4 else 3)) := by
    by_cases g : caL β t < tuS π β t j u
    · rw [if_neg (by omega), if_pos g]; rfl
    · rw [if_pos (by omega), if_neg g]; rfl
  unfold rV rA
  rw [e34]
  simp only [bd1_mk]
  have hC : (if ¬ frF β t m then some (vp_updL wo (atN t j u m) (lN (cpF β t) + lN h), upd ac (atN t j u m) 0) else if π t j < y then some (vp_updL wo (atN t j u m) (lN (cpF β t) + lN h), upd ac (atN t j u m) 0) else some (vp_updL wo (atN t j u m) (lN (cpF β t) + lM (cgS π β t j u)), upd ac (atN t j u m) (nI (if caL β t < tuS π β t j u then 4 else 3)))) = some (vp_updL wo (atN t j u m) (lN (cpF β t + if rC π β y t j m then cgS π β t j u - 1 else h)), upd ac (atN t j u m) (nI (if rC π β y t j m then (if caL β t < tuS π β t j u then 4 else 3) else 0))) := by
    by_cases g1 : frF β t m
    · rw [if_neg (fun q => q g1)]
      by_cases g2 : π t j < y
      · rw [if_pos g2, if_neg (fun q : rC π β y t j m => by have := q.2; omega), if_neg (fun q : rC π β y t j m => by have := q.2; omega), lN_add]; rfl
      · rw [if_neg g2, if_pos (show rC π β y t j m from ⟨g1, by omega⟩), if_pos (show rC π β y t j m from ⟨g1, by omega⟩)]
        obtain ⟨z, hz⟩ : ∃ z, cgS π β t j u = z + 1 := ⟨cgS π β t j u - 1, by have : caL β t ≤ cgS π β t j u := Nat.le_max_left _ _; have := g1.1; omega⟩
        rw [hz, lM_s, lN_add, Nat.add_sub_cancel]
    · rw [if_pos g1, if_neg (fun q : rC π β y t j m => g1 q.1), if_neg (fun q : rC π β y t j m => g1 q.1), lN_add]; rfl
  rw [hC]
  by_cases g3 : tuS π β t j u = 0
  · rw [if_pos g3, bd2_mk, if_neg (fun q : rT π β x t j u => q.1 g3), if_neg (fun q : rT π β x t j u => q.1 g3)]
  · rw [if_neg g3]
    by_cases g4 : π t j < x
    · rw [if_pos g4, bd2_mk, if_neg (fun q : rT π β x t j u => by have := q.2; omega), if_neg (fun q : rT π β x t j u => by have := q.2; omega)]
    · rw [if_neg g4, bd2_mk, if_pos (show rT π β x t j u from ⟨g3, by omega⟩), if_pos (show rT π β x t j u from ⟨g3, by omega⟩)]
      obtain ⟨z, hz⟩ : ∃ z, tuS π β t j u = z + 1 := ⟨tuS π β t j u - 1, by omega⟩
      rw [hz, lM_s, lN_add, Nat.add_sub_cancel]; rfl
def GR (x y : Nat) (π : Nat → Nat → Nat) (T p q R : Nat) (β : Nat → Nat) (D : Nat → Nat → Nat → Nat → Prop) (wo : Nat → Int64) (ac : Nat → Int32) : Prop := ∀ t j u m, t ≤ T → okM π β t j u m → D t j u m → wo (atN t j u m) = lN (vG π T p q R β (rV x y π β) (T - t) j u m) ∧ ac (atN t j u m) = nI (if t = T then enA π T β j u else rA x y π β t j u m)
theorem GR.sub {x y : Nat} {π : Nat → Nat → Nat} {T p q R : Nat} {β : Nat → Nat} {D D' : Nat → Nat → Nat → Nat → Prop} {wo : Nat → Int64} {ac : Nat → Int32} (h : GR x y π T p q R β D wo ac) (g : ∀ t j u m, t ≤ T → okM π β t j u m → D' t j u m → D t j u m) : GR x y π T p q R β D' wo ac := fun t j u m a b c => h t j u m a b (g t j u m a b c)
theorem GR.up {x y : Nat} {π : Nat → Nat → Nat} {T p q R : Nat} {β : Nat → Nat} {D D' : Nat → Nat → Nat → Nat → Prop} {wo : Nat → Int64} {ac : Nat → Int32} {t0 j0 u0 m0 : Nat} (hT : T ≤ 6) (ht : t0 < T) (hk : okS t0 j0 u0) (hm : m0 < 8) (h : GR x y π T p q R β D wo ac) (g : ∀ t j u m, t ≤ T → okM π β t j u m → D' t j u m → D t j u m ∨ (t = t0 ∧ j = j0 ∧ u = u0 ∧ m = m0)) {a : Int64} {c : Int32} (ea : a = lN (vG π T p q R β (rV x y π β) (T - t0) j0 u0 m0)) (ec : c = nI (rA x y π β t0 j0 u0 m0)) : GR x y π T p q R β D' (vp_updL wo (atN t0 j0 u0 m0) a) (upd ac (atN t0 j0 u0 m0) c) := by
  intro t j u m h1 h2 h3
  rw [upL, upS]
  by_cases e : atN t j u m = atN t0 j0 u0 m0
  · obtain ⟨rfl, rfl, rfl, rfl⟩ := atN_inj (by omega) (by omega) (by omega) (by omega) (by omega) (by omega) e
    rw [if_pos rfl, if_pos rfl, if_neg (by omega)]
    exact ⟨ea, ec⟩
  · rw [if_neg e, if_neg e]
    rcases g t j u m h1 h2 h3 with g | ⟨rfl, rfl, rfl, rfl⟩
    · exact h t j u m h1 h2 g
    · exact absurd rfl e
theorem r83 {bs : Nat → Int32} {pe : Nat → Int64} {k T p q R : Nat} {β : Nat → Nat} {π : Nat → Nat → Nat} (hb : RB bs k β) (hK : BK β) (hp : PK π) (hP : RP pe T π) (hN : NK T p q R) {x y : Nat} (hx : x ≤ 1000000) (hy : y ≤ 1000000) (w : Int32) {t0 j0 u0 : Nat} (ht : t0 < T) (hj : j0 ≤ t0) (hu : u0 < 2) : ∀ (i n m0 : Nat) (wo : Nat → Int64) (ac : Nat → Int32), 8 ≤ m0 + 2 * i → m0 ≤ 9 → m0 % 2 = hiF β (π t0 j0) → GR x y π T p q R β (LD t0 j0 u0 m0) wo ac → Sx (lpX9_byRule_83 (nI k) (nI x) (nI y) w (nI t0) (nI j0) (nI u0) bs (nI T) (nI p) (nI q) (nI R) pe (n + i + 1) (nI m0) wo ac) (fun z => GR x y π T p q R β (LD t0 j0 (u0 + 1) 0) z.1 z.2) := by
  intro i
  induction i with
  | zero =>
    intro n m0 wo ac h8 h9 hm hg
    rw [lpX9_byRule_83.eq_2]
    refine Sx.p (show (8 : Int32) ≤ nI m0 from nI_le (a := 8) (by omega) (by omega)) (Sx.mk (hg.sub ?_))
    intro t j u m a b c
    omega
  | succ i ih =>
    intro n m0 wo ac h8 h9 hm hg
    rw [lpX9_byRule_83.eq_2]
    by_cases hm8 : 8 ≤ m0
    · refine Sx.p (show (8 : Int32) ≤ nI m0 from nI_le (a := 8) (by omega) (by omega)) (Sx.mk (hg.sub ?_))
      intro t j u m a b c
      omega
    · refine Sx.n (show ¬ (8 : Int32) ≤ nI m0 from nI_ge (b := 8) (by omega) (by omega)) ?_
      refine Sx.e1 (st9 t0 (by omega) j0 (by omega) u0 hu) ?_
      by_cases hs : (t0 = 0 → u0 = 0) ∧ (u0 = 1 → 0 < j0 ∨ t0 = 0) ∧ (t0 = 0 ∨ u0 = 1 ∨ j0 < t0)
      · rw [if_pos hs, if_neg one0]
        have hok : okS t0 j0 u0 := by
          obtain ⟨s1, s2, s3⟩ := hs
          refine ⟨hj, hu, s1, ?_, ?_⟩
          · intro e; rcases s2 e with h | h
            · exact h
            · have := s1 h; omega
          · intro a b; omega
        have hD : ∀ t j u m, t ≤ T → okM π β t j u m → LD t0 j0 u0 (m0 + 2) t j u m → LD t0 j0 u0 m0 t j u m ∨ (t = t0 ∧ j = j0 ∧ u = u0 ∧ m = m0) := by
          intro t j u m a b c
          by_cases e : t = t0 ∧ j = j0 ∧ u = u0
          · obtain ⟨rfl, rfl, rfl⟩ := e
            have := b.2.2
            omega
          · omega
        have g1 := hg (t0 + 1) (j0 + 1) 1 (mkF π β m0 (t0 + 1) (j0 + 1)) (by omega) ⟨by omega, mkF_lt _ _ _ _ _, mkF_2 _ _ _ _ _⟩ (by omega)
        have g0 := hg (t0 + 1) j0 0 (mkF π β m0 (t0 + 1) j0) (by omega) ⟨by omega, mkF_lt _ _ _ _ _, mkF_2 _ _ _ _ _⟩ (by omega)
        have hl : T - (t0 + 1) ≤ 6 := by omega
        refine Sx.e2 (rl9 hb hK hp hP hN hx hy (by omega) hok ht g1.1 g0.1 (vG_b hp hK hN (rV_SK x y hp hK) hl _ _ _) (vG_b hp hK hN (rV_SK x y hp hK) hl _ _ _)) ?_
        obtain ⟨n', hn'⟩ : ∃ n', T - t0 = n' + 1 := ⟨T - t0 - 1, by omega⟩
        have hn2 : T - (t0 + 1) = n' := by omega
        have ht1 : t0 + 1 = T - n' := by omega
        have ht2 : T - (n' + 1) = t0 := by omega
        rw [nm_mk, i_2, nI_add, show n + (i + 1) = n + i + 1 by omega]
        refine ih n (m0 + 2) _ _ (by omega) (by omega) (by omega) (hg.up hN.1.2 ht hok (by omega) hD ?_ rfl)
        rw [hn', hn2, ht1, vG_s, ht2]; rfl
      · rw [if_neg hs, if_pos rfl]
        refine Sx.mk (hg.sub ?_)
        intro t j u m a b c
        by_cases e : t = t0 ∧ j = j0 ∧ u = u0
        · obtain ⟨rfl, rfl, rfl⟩ := e
          exact absurd (by omega) hs
        · omega
theorem r66 {bs : Nat → Int32} {pe : Nat → Int64} {k T p q R : Nat} {β : Nat → Nat} {π : Nat → Nat → Nat} (hb : RB bs k β) (hK : BK β) (hp : PK π) (hP : RP pe T π) (hN : NK T p q R) {x y : Nat} (hx : x ≤ 1000000) (hy : y ≤ 1000000) (w : Int32) {t0 j0 : Nat} (ht : t0 < T) (hj : j0 ≤ t0) : ∀ (i n u0 : Nat) (wo : Nat → Int64) (ac : Nat → Int32), u0 + i = 2 → GR x y π T p q R β (LD t0 j0 u0 0) wo ac → Sx (lpX9_byRule_66 (nI k) (nI x) (nI y) w (nI t0) (nI j0) bs (nI T) (nI p) (nI q) (nI R) pe (n + i + 1) (nI u0) wo ac) (fun z => GR x y π T p q R β (LD t0 (j0 + 1) 0 0) z.1 z.2) := by
  intro i
  induction i with
  | zero =>
    intro n u0 wo ac hi hg
    rw [lpX9_byRule_66.eq_2]
    refine Sx.p (show (2 : Int32) ≤ nI u0 from nI_le (a := 2) (by omega) (by omega)) (Sx.mk (hg.sub ?_))
    intro t j u m a b c
    omega
  | succ i ih =>
    intro n u0 wo ac hi hg
    rw [lpX9_byRule_66.eq_2]
    refine Sx.n (show ¬ (2 : Int32) ≤ nI u0 from nI_ge (b := 2) (by omega) (by omega)) ?_
    refine Sx.e1 (hi9 hb hK hp hP hN.1.2 hj (by omega)) ?_
    have hh := hiF_lt β (π t0 j0)
    obtain ⟨n', hn'⟩ := fuN 5 (by omega)
    rw [hn']
    refine Sx.b2 (r83 hb hK hp hP hN hx hy w ht hj (by omega) 4 n' (hiF β (π t0 j0)) wo ac (by omega) (by omega) (by omega) (hg.sub ?_)) ?_
    · intro t j u m a b c
      by_cases e : t = t0 ∧ j = j0 ∧ u = u0
      · obtain ⟨rfl, rfl, rfl⟩ := e
        have := b.2.2
        omega
      · omega
    · intro a0 a1 hq
      rw [nm_mk, nI_1]
      have := ih n (u0 + 1) a0 a1 (by omega) hq
      rwa [show n + (i + 1) = n + i + 1 by omega]
theorem r56 {bs : Nat → Int32} {pe : Nat → Int64} {k T p q R : Nat} {β : Nat → Nat} {π : Nat → Nat → Nat} (hb : RB bs k β) (hK : BK β) (hp : PK π) (hP : RP pe T π) (hN : NK T p q R) {x y : Nat} (hx : x ≤ 1000000) (hy : y ≤ 1000000) (w : Int32) {t0 : Nat} (ht : t0 < T) : ∀ (i n j0 : Nat) (wo : Nat → Int64) (ac : Nat → Int32), j0 + i = t0 + 1 → GR x y π T p q R β (LD t0 j0 0 0) wo ac → Sx (lpX9_byRule_56 (nI k) (nI x) (nI y) w (nI t0) bs (nI T) (nI p) (nI q) (nI R) pe (n + i + 1) (nI j0) wo ac) (fun z => GR x y π T p q R β (fun t _ _ _ => t0 ≤ t) z.1 z.2) := by
  intro i
  induction i with
  | zero =>
    intro n j0 wo ac hi hg
    rw [lpX9_byRule_56.eq_2]
    refine Sx.p (nI_lt (by omega) (by omega)) (Sx.mk (hg.sub ?_))
    intro t j u m a b c
    omega
  | succ i ih =>
    intro n j0 wo ac hi hg
    rw [lpX9_byRule_56.eq_2]
    refine Sx.n (nI_nlt (by omega) (by omega)) ?_
    obtain ⟨n', hn'⟩ := fuN 3 (by omega)
    rw [hn', i_0]
    refine Sx.b2 (r66 hb hK hp hP hN hx hy w ht (by omega) 2 n' 0 wo ac (by omega) hg) ?_
    intro a0 a1 hq
    rw [nm_mk, nI_1]
    have := ih n (j0 + 1) a0 a1 (by omega) hq
    rwa [show n + (i + 1) = n + i + 1 by omega]
theorem r48 {bs : Nat → Int32} {pe : Nat → Int64} {k T p q R : Nat} {β : Nat → Nat} {π : Nat → Nat → Nat} (hb : RB bs k β) (hK : BK β) (hp : PK π) (hP : RP pe T π) (hN : NK T p q R) {x y : Nat} (hx : x ≤ 1000000) (hy : y ≤ 1000000) (w : Int32) : ∀ (t0 n : Nat) (wo : Nat → Int64) (ac : Nat → Int32), t0 < T → GR x y π T p q R β (fun t _ _ _ => t0 < t) wo ac → Sx (lpX9_byRule_48 (nI k) (nI x) (nI y) w bs (nI T) (nI p) (nI q) (nI R) pe (n + t0 + 2) (nI t0) wo ac) (fun z => GR x y π T p q R β (fun _ _ _ _ => True) z.1 z.2) := by
  intro t0
  induction t0 with
  | zero =>
    intro n wo ac ht hg
    rw [show n + 0 + 2 = (n + 1) + 1 by omega, lpX9_byRule_48.eq_2]
    refine Sx.n (nI_pos (by omega)) ?_
    obtain ⟨n', hn'⟩ := fuN 2 (by omega)
    rw [hn', i_0]
    refine Sx.b2 (r56 hb hK hp hP hN hx hy w ht 1 n' 0 wo ac (by omega) (hg.sub (by intro t j u m a b c; omega))) ?_
    intro a0 a1 hq
    rw [nm_mk, lpX9_byRule_48.eq_2]
    refine Sx.p (by decide) (Sx.mk (hq.sub ?_))
    intro t j u m a b c
    exact Nat.zero_le _
  | succ t0 ih =>
    intro n wo ac ht hg
    rw [show n + (t0 + 1) + 2 = (n + t0 + 2) + 1 by omega, lpX9_byRule_48.eq_2]
    refine Sx.n (nI_pos (by omega)) ?_
    obtain ⟨n', hn'⟩ := fuN (t0 + 3) (by omega)
    rw [hn', i_0]
    refine Sx.b2 (r56 hb hK hp hP hN hx hy w ht (t0 + 2) n' 0 wo ac (by omega) (hg.sub (by intro t j u m a b c; omega))) ?_
    intro a0 a1 hq
    rw [nm_mk, pk_m1]
    exact ih n a0 a1 (by omega) (hq.sub (by intro t j u m a b c; omega))
theorem q_byRule {tr b0 b1 b2 tree bs : Nat → Int32} {τ : Nat → Nat} {B : Nat → Nat → Nat} (hf : TC tr τ) (hf9 : TR tree 0 τ) (hT : TK τ) (hB : CB3 b0 b1 b2 B) (hb9 : ∀ k, k < 3 → RB bs k (B k)) {mv : Nat → Int32} {r : Nat} (r1 : 1 ≤ r) (r2 : r < 128) (rd : dR r ≤ τ 0) (hm : MV mv r) (p1 p2 p3 p4 : Int32) (st sb : Nat → Int32) (pu pe tu ca ho va : Nat → Int64) (ma ac : Nat → Int32) (x0 x1 x2 x3 : Int32) (pe9 : Nat → Int64) (a9 b9 : Int64) (wo9 ho9 : Nat → Int64) (ac9 : Nat → Int32) (s1 s2 s3 s4 : Int32) : Sx2 (fX8_byRule p1 p2 p3 p4 (nI r) tr b0 b1 b2 st sb pu pe tu ca ho va ma ac) (fX9_byRule p1 p2 p3 p4 tree bs mv (nI (dR r)) x0 x1 x2 x3 pe9 a9 b9 wo9 ho9 ac9 s1 s2 s3 s4) (fun _ _ => True) := by
  by_cases h1 : inr p1 0 2
  rotate_left
  · exact Sx2.mk (by unfold fX8_byRule; rw [isb8n h1, bd1_mk, if_pos rfl]) (by unfold fX9_byRule; rw [isb9n h1, bd1_mk, if_pos rfl]) (trivial)
  by_cases h2 : inr p2 0 1000000
  rotate_left
  · exact Sx2.mk (by unfold fX8_byRule; rw [isb8y h1, bd1_mk, if_neg one0, isp8n h2, bd1_mk, if_pos rfl]) (by unfold fX9_byRule; rw [isb9y h1, bd1_mk, if_neg one0, in0 h2, bd1_mk, if_pos rfl]) (trivial)
  by_cases h3 : inr p3 0 1000000
  rotate_left
  · exact Sx2.mk (by unfold fX8_byRule; rw [isb8y h1, bd1_mk, if_neg one0, isp8y h2, bd1_mk, if_neg one0, isp8n h3, bd1_mk, if_pos rfl]) (by unfold fX9_byRule; rw [isb9y h1, bd1_mk, if_neg one0, in1 h2, bd1_mk, if_neg one0, in0 h3, bd1_mk, if_pos rfl]) (trivial)
  obtain ⟨k, rfl, _, hk, _⟩ := inr_n h1 (by decide)
  have hk3 : k < 3 := by omega
  obtain ⟨x, rfl, _, hx, _⟩ := inr_n h2 (by decide)
  obtain ⟨y, rfl, _, hy, _⟩ := inr_n h3 (by decide)
  have hp := prF_PK hT (show τ 1 ≤ 1000 by omega)
  have r3 : r < 2 * 2 ^ τ 0 := by
    have h4 := (row_b1 r r2 r1).2.2.2
    have h5 := Nat.pow_le_pow_right (show 0 < 2 by omega) rd
    omega
  refine Sx2.val (v := if p4 = 0 then lN (vG (prF τ (τ 1)) (τ 0) (τ 6) (τ 7) (τ 8) (B k) (rV x y (prF τ (τ 1)) (B k)) (τ 0) 0 0 (hiF (B k) (prF τ (τ 1) 0 0))) else Int32.toInt64 (nI (aR (prF τ (τ 1)) (τ 0) (τ 6) (τ 7) (τ 8) (B k) (rV x y (prF τ (τ 1)) (B k)) (fun t j u m _ => rA x y (prF τ (τ 1)) (B k) t j u m) r))) ?_ ?_
  · unfold fX8_byRule
    rw [isb8y h1, bd1_mk, if_neg one0, isp8y h2, bd1_mk, if_neg one0, isp8y h3, bd1_mk, if_neg one0, og32 (by omega) (by omega), sel8 hk3, bd2_mk]
    refine Sx.b8 (prl8 hf.cpy hT (hB k hk3).1.cpy (hB k hk3).2 (x := x) (y := y) (by omega) (by omega) _ _ _ _ _ _ _ _) ?_
    intro c0 c1 c2 c3 c4 c5 c6 c7 hsb
    dsimp only at hsb
    by_cases h4 : p4 = 0
    · rw [if_pos h4, if_pos h4]
      exact Sx.e1 (a0 := lN _) (by rw [rootR hsb]; rfl) (Sx.mk rfl)
    · rw [if_neg h4, if_neg h4]
      refine Sx.e1 (a0 := Int32.toInt64 (nI _)) (by rw [acA8 r1 r2, (hsb.2 r r1 r1 r3).2.2]; rfl) (Sx.mk rfl)
  · unfold fX9_byRule
    rw [isb9y h1, bd1_mk, if_neg one0, in1 h2, bd1_mk, if_neg one0, in1 h3, bd1_mk, if_neg one0]
    refine Sx.b10 (pn9 hf9 hT hk3 (hb9 k hk3) (hB k hk3).2 x0 x1 x2 x3 pe9 a9 b9 wo9 ho9 ac9) ?_
    rintro d0 d1 d2 d3 pe' d5 d6 d7 d8 d9 ⟨rfl, rfl, rfl, rfl, hP, hG⟩
    dsimp only at hP hG ⊢
    rw [nm_mk, i_1, pk_sub (by omega)]
    obtain ⟨n, hn⟩ := fuN (τ 0 + 1) (by omega)
    rw [hn, show n + (τ 0 + 1) = n + (τ 0 - 1) + 2 by omega]
    refine Sx.b2 (r48 (hb9 k hk3) (hB k hk3).2 hp hP hT.n (x := x) (y := y) (by omega) (by omega) p4 (τ 0 - 1) n d7 d9 (by omega) ?_) ?_
    · intro t j u m a b c
      have e : t = τ 0 := by omega
      subst e
      obtain ⟨g1, g2, g3⟩ := hG (τ 0) j u m a b trivial
      rw [Nat.sub_self] at g1 ⊢
      unfold acS at g3
      rw [if_pos rfl] at g3 ⊢
      exact ⟨g1, g3⟩
    · intro w0 w1 hR
      dsimp only at hR
      have hl := aT_lt (prF τ (τ 1)) (B k) r1 r2
      by_cases h4 : p4 = 0
      · rw [if_pos h4, if_pos h4, be9 (hb9 k hk3) (hB k hk3).2 hp hP (by omega), bd1_mk]
        have hl0 := hiF_lt (B k) (prF τ (τ 1) 0 0)
        have h784 : atN 0 0 0 (hiF (B k) (prF τ (τ 1) 0 0)) < 784 := atN_lt (by omega) (by omega) (by omega) (by omega)
        rw [og32 h784 (by omega), nI_clamp (by omega)]
        exact Sx.mk ⟨(hR 0 0 0 _ (by omega) (ok0 _ _) trivial).1, trivial⟩
      · rw [if_neg h4, if_neg h4, fo9 (hb9 k hk3) (hB k hk3).2 hp hP (by omega) r1 r2 rd hm, bd4_mk, hn9, bd1_mk, og32 hl (by omega), nI_clamp (by omega)]
        refine Sx.mk ⟨?_, trivial⟩
        show Int32.toInt64 (w1 (aT (prF τ (τ 1)) (B k) r)) = _
        have := (hR (dR r) (uR r) (bR r) (mR (prF τ (τ 1)) (B k) r) rd (okR _ _ r1 r2) trivial).2
        unfold aT
        rw [this]
        rfl
