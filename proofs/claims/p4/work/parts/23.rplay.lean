/-! pure: the reference's states laid (own rows) -/
theorem en9 {bs : Nat → Int32} {pe wo ho : Nat → Int64} {ac : Nat → Int32} {k T : Nat} {β : Nat → Nat} {π : Nat → Nat → Nat} (hb : RB bs k β) (hK : BK β) (hp : PK π) (hP : RP pe T π) (hT : T ≤ 6) {j u m : Nat} (hm : m < 8) (hok : okS T j u) : fX9_laysEnd (nI k) (nI j) (nI u) (nI m) bs (nI T) pe wo ho ac = some (vp_updL wo (atN T j u m) (lN (enV π T β j u)), vp_updL ho (atN T j u m) (lN (β 0)), upd ac (atN T j u m) (nI (enA π T β j u))) := by
  unfold fX9_laysEnd
  have l1 : atN T j u m < 784 := atN_lt (by omega) (by omega) (by omega) hm
  have ht := tuS_le hp hK T j u
  have hf := hK.1.2
  have e0 := of9n hb (x := 0) 0 (by omega) (by omega)
  rw [tu9 hb hK hp hP hT hok (Nat.le_refl T), bd1_mk, at9, bd1_mk, e0, bd1_mk, ite_so, bd1_mk, og32 l1 (by omega), nm_mk, bd1_mk, og32 l1 (by omega), nm_mk, cp9 hb hT, bd1_mk, bd1_mk, nI_l (n := β 0) (by omega), lMN, mo9 (by omega) (by omega), bd1_mk, og32 l1 (by omega), nm_mk, nI_clamp (by omega)]
  have e1 : (if lM (tuS π β T j u) ≤ lM (β 0 + 1) then (5 : Int32) else 6) = nI (enA π T β j u) := by
    unfold enA
    by_cases h : β 0 + 1 < tuS π β T j u
    · rw [if_pos h, if_neg (fun q => by rw [lM_le (by omega) (by omega)] at q; omega)]; rfl
    · rw [if_neg h, if_pos ((lM_le (by omega) (by omega)).mpr (by omega))]; rfl
  have hcp := cpF_le hK T
  have e2 : (nI (cpF β T)).toInt64 + lM (max (β 0 + 1) (tuS π β T j u)) = lN (enV π T β j u) := by
    rw [nI_l (by omega)]
    obtain ⟨x, hx⟩ : ∃ x, max (β 0 + 1) (tuS π β T j u) = x + 1 := ⟨max (β 0 + 1) (tuS π β T j u) - 1, by omega⟩
    unfold enV
    rw [hx, lM_s, lN_add, Nat.add_sub_cancel]
  rw [e1, e2, lM_s]
theorem ls9 {bs : Nat → Int32} {pe wo ho : Nat → Int64} {ac : Nat → Int32} {k T p q R : Nat} {β : Nat → Nat} {π : Nat → Nat → Nat} (hb : RB bs k β) (hK : BK β) (hp : PK π) (hP : RP pe T π) (hN : NK T p q R) {t j u m va vb : Nat} (hm : m < 8) (hok : okS t j u) (ht : t < T) (h1 : wo (atN (t + 1) (j + 1) 1 (mkF π β m (t + 1) (j + 1))) = lN va) (h0 : wo (atN (t + 1) j 0 (mkF π β m (t + 1) j)) = lN vb) (ha : va ≤ 64000000007000) (hbb : vb ≤ 64000000007000) : fX9_laysState (nI k) (nI t) (nI j) (nI u) (nI m) bs (nI T) (nI p) (nI q) (nI R) pe wo ho ac = some (vp_updL wo (atN t j u m) (lN (bV π β t j u m (mn p q R va vb))), vp_updL ho (atN t j u m) (lN (mn p q R va vb)), upd ac (atN t j u m) (nI (bA π β t j u m (mn p q R va vb)))) := by
  unfold fX9_laysState
  have l1 : atN t j u m < 784 := atN_lt (by omega) (by omega) (by omega) hm
  have htu := tuS_le hp hK t j u
  have hpu := puL_le hK t
  have hcg := cgS_le hp hK t j u
  have hca := caL_le hK t
  have hcp := cpF_le hK t
  have hh : mn p q R va vb ≤ 64000000007000 := mn_le (by omega) (by omega) ha hbb
  rw [at9, bd1_mk, tu9 hb hK hp hP hN.1.2 hok (by omega), bd1_mk, pu9 hb hN.1.2 ht, bd1_mk, nm_mk, ho9 hb hK hp hP hN _ (by omega) hm ht h1 h0 (by omega) (by omega), bd1_mk, cg9 hb hK hp hP hN.1.2 hok ht, bd1_mk, fr9 hb hK hN.1.2 ht hm, bd1_mk, cp9 hb (by omega), iM_l (e := puL β t) (by omega), mo9 (a := puL β t) (by omega) (by omega), ca9 hb hN.1.2 ht, nI_clamp (by omega)]
  generalize mn p q R va vb = h at *
  have hbg : ∀ x, x ≤ 64000000007001 → max (max (puL β t) (tuS π β t j u)) x ≤ 64000000007001 := fun x hx => by omega
  unfold bV bA bG
  by_cases hi : icF π β t j u m h
  · have hr : ¬ lN h ≤ lM (cgS π β t j u) := by rw [lMN, lM_le (by omega) (by omega)]; have := hi.2; omega
    rw [if_pos hi.1, if_neg one0, if_neg hr, bd1_mk, og32 l1 (by omega), nm_mk, bd1_mk, bd1_mk, if_neg one0, bd1_mk, nI_l (n := cpF β t) (by omega), mo9 (by omega) (by omega), bd1_mk, og32 l1 (by omega), nm_mk, if_neg one0, if_pos hi, if_pos hi]
    have hx : ∃ x, max (max (puL β t) (tuS π β t j u)) (cgS π β t j u) = x + 1 := ⟨max (max (puL β t) (tuS π β t j u)) (cgS π β t j u) - 1, by have := hi.1.1; have : caL β t ≤ cgS π β t j u := Nat.le_max_left _ _; omega⟩
    obtain ⟨x, hx⟩ := hx
    rw [hx, lM_s, lN_add, Nat.add_sub_cancel]
    by_cases g1 : cgS π β t j u < puL β t
    · rw [if_pos g1, if_neg (fun q => by rw [lM_le (by omega) (by omega)] at q; omega), bd1_mk, og32 l1 (by omega), nm_mk, bd1_mk]; rfl
    · rw [if_neg g1, if_pos ((lM_le (by omega) (by omega)).mpr (by omega)), bd1_mk, iM_l (e := caL β t) (by omega), ite_so, bd1_mk, og32 l1 (by omega), nm_mk, bd1_mk]
      by_cases g2 : caL β t < tuS π β t j u
      · rw [if_pos g2, if_neg (fun q => by rw [lM_le (by omega) (by omega)] at q; omega)]; rfl
      · rw [if_neg g2, if_pos ((lM_le (by omega) (by omega)).mpr (by omega))]; rfl
  · have hj : (if (if frF β t m then (1 : Int32) else 0) = 0 then some (0 : Int32) else if lN h ≤ lM (cgS π β t j u) then some 0 else some 1) = some 0 := by
      by_cases hf : frF β t m
      · rw [if_pos hf, if_neg one0, if_pos]
        rw [lMN, lM_le (by omega) (by omega)]
        have := fun g => hi ⟨hf, g⟩
        omega
      · rw [if_neg hf, if_pos rfl]
    rw [hj, bd1_mk, og32 l1 (by omega), nm_mk, bd1_mk, bd1_mk, if_pos rfl, bd1_mk, nI_l (n := cpF β t) (by omega), lMN h, mo9 (by omega) (by omega), bd1_mk, og32 l1 (by omega), nm_mk, if_pos rfl, if_neg hi, if_neg hi]
    obtain ⟨x, hx⟩ : ∃ x, max (max (puL β t) (tuS π β t j u)) (h + 1) = x + 1 := ⟨max (max (puL β t) (tuS π β t j u)) (h + 1) - 1, by omega⟩
    rw [hx, lM_s, lM_s, lN_add, Nat.add_sub_cancel, ← lM_s h]
    have e3 : (if lM (h + 1) < lM (puL β t) then if lM (puL β t) = -1 then some (2 : Int32) else if lM (puL β t) < lM (tuS π β t j u) then some 2 else some 1 else if lM (h + 1) < lM (tuS π β t j u) then if lM (puL β t) = -1 then some 2 else if lM (puL β t) < lM (tuS π β t j u) then some 2 else some 1 else some 0) = some (nI (if puL β t ≤ h + 1 ∧ tuS π β t j u ≤ h + 1 then 0 else if puL β t ≠ 0 ∧ tuS π β t j u ≤ puL β t then 1 else 2)) := by
      simp only [lM_lt (a := h + 1) (b := puL β t) (by omega) (by omega), lM_lt (a := h + 1) (b := tuS π β t j u) (by omega) (by omega), lM_lt (a := puL β t) (b := tuS π β t j u) (by omega) (by omega), lM_m1 (e := puL β t) (by omega)]
      by_cases g1 : h + 1 < puL β t
      · rw [if_pos g1, if_neg (by omega : ¬ puL β t = 0), if_neg (by omega : ¬ (puL β t ≤ h + 1 ∧ tuS π β t j u ≤ h + 1))]
        by_cases g2 : puL β t < tuS π β t j u
        · rw [if_pos g2, if_neg (by omega)]; rfl
        · rw [if_neg g2, if_pos (by omega)]; rfl
      · rw [if_neg g1]
        by_cases g3 : h + 1 < tuS π β t j u
        · rw [if_pos g3, if_neg (by omega : ¬ (puL β t ≤ h + 1 ∧ tuS π β t j u ≤ h + 1)), if_neg (by omega : ¬ (puL β t ≠ 0 ∧ tuS π β t j u ≤ puL β t)), if_pos (by omega : puL β t < tuS π β t j u)]
          by_cases g4 : puL β t = 0
          · rw [if_pos g4]; rfl
          · rw [if_neg g4]; rfl
        · rw [if_neg g3, if_pos (by omega)]; rfl
    rw [e3, bd1_mk, og32 l1 (by omega), nm_mk, bd1_mk]
theorem st9 : ∀ t, t < 7 → ∀ j, j < 7 → ∀ u, u < 2 → fX9_isState (nI t) (nI j) (nI u) = some (if (t = 0 → u = 0) ∧ (u = 1 → 0 < j ∨ t = 0) ∧ (t = 0 ∨ u = 1 ∨ j < t) then 1 else 0) := by decide +kernel
/-- what the arrays hold of the states of D -/
def hoS (π : Nat → Nat → Nat) (T p q R : Nat) (β : Nat → Nat) (t j m : Nat) : Nat := if t = T then β 0 else hG π T p q R β (bV π β) (T - t - 1) j m
def acS (π : Nat → Nat → Nat) (T p q R : Nat) (β : Nat → Nat) (t j u m : Nat) : Nat := if t = T then enA π T β j u else bA π β t j u m (hG π T p q R β (bV π β) (T - t - 1) j m)
abbrev okM (π : Nat → Nat → Nat) (β : Nat → Nat) (t j u m : Nat) : Prop := okS t j u ∧ m < 8 ∧ m % 2 = hiF β (π t j)
def GD (π : Nat → Nat → Nat) (T p q R : Nat) (β : Nat → Nat) (D : Nat → Nat → Nat → Nat → Prop) (wo ho : Nat → Int64) (ac : Nat → Int32) : Prop := ∀ t j u m, t ≤ T → okM π β t j u m → D t j u m → wo (atN t j u m) = lN (vG π T p q R β (bV π β) (T - t) j u m) ∧ ho (atN t j u m) = lN (hoS π T p q R β t j m) ∧ ac (atN t j u m) = nI (acS π T p q R β t j u m)
abbrev LD (t0 j0 u0 m0 t j u m : Nat) : Prop := t0 < t ∨ (t = t0 ∧ (j < j0 ∨ (j = j0 ∧ (u < u0 ∨ (u = u0 ∧ m < m0)))))
theorem GD.sub {π : Nat → Nat → Nat} {T p q R : Nat} {β : Nat → Nat} {D D' : Nat → Nat → Nat → Nat → Prop} {wo ho : Nat → Int64} {ac : Nat → Int32} (h : GD π T p q R β D wo ho ac) (g : ∀ t j u m, t ≤ T → okM π β t j u m → D' t j u m → D t j u m) : GD π T p q R β D' wo ho ac := fun t j u m a b c => h t j u m a b (g t j u m a b c)
theorem atN_inj {t j u m t' j' u' m' : Nat} (hj : j < 7) (hu : u < 2) (hm : m < 8) (hj' : j' < 7) (hu' : u' < 2) (hm' : m' < 8) (h : atN t j u m = atN t' j' u' m') : t = t' ∧ j = j' ∧ u = u' ∧ m = m' := by
  unfold atN at h; omega
theorem GD.up {π : Nat → Nat → Nat} {T p q R : Nat} {β : Nat → Nat} {D D' : Nat → Nat → Nat → Nat → Prop} {wo ho : Nat → Int64} {ac : Nat → Int32} {t0 j0 u0 m0 : Nat} (hT : T ≤ 6) (ht : t0 ≤ T) (hk : okS t0 j0 u0) (hm : m0 < 8) (h : GD π T p q R β D wo ho ac) (g : ∀ t j u m, t ≤ T → okM π β t j u m → D' t j u m → D t j u m ∨ (t = t0 ∧ j = j0 ∧ u = u0 ∧ m = m0)) {a : Int64} {b : Int64} {c : Int32} (ea : a = lN (vG π T p q R β (bV π β) (T - t0) j0 u0 m0)) (eb : b = lN (hoS π T p q R β t0 j0 m0)) (ec : c = nI (acS π T p q R β t0 j0 u0 m0)) : GD π T p q R β D' (vp_updL wo (atN t0 j0 u0 m0) a) (vp_updL ho (atN t0 j0 u0 m0) b) (upd ac (atN t0 j0 u0 m0) c) := by
  intro t j u m h1 h2 h3
  rw [upL, upL, upS]
  by_cases e : atN t j u m = atN t0 j0 u0 m0
  · obtain ⟨rfl, rfl, rfl, rfl⟩ := atN_inj (by omega) (by omega) (by omega) (by omega) (by omega) (by omega) e
    rw [if_pos rfl, if_pos rfl, if_pos rfl]
    exact ⟨ea, eb, ec⟩
  · rw [if_neg e, if_neg e, if_neg e]
    rcases g t j u m h1 h2 h3 with g | ⟨rfl, rfl, rfl, rfl⟩
    · exact h t j u m h1 h2 g
    · exact absurd rfl e
