/-! pure: tests of arguments; both sides at once; one number of a class's bond (own rows) -/
def Sx2 {ρ α β : Type} (o1 : Option (ρ × α)) (o2 : Option (ρ × β)) (Q : α → β → Prop) : Prop := ∃ r s1 s2, o1 = some (r, s1) ∧ o2 = some (r, s2) ∧ Q s1 s2
theorem Sx2.mk {ρ α β : Type} {o1 : Option (ρ × α)} {o2 : Option (ρ × β)} {Q : α → β → Prop} {r : ρ} {s1 : α} {s2 : β} (h1 : o1 = some (r, s1)) (h2 : o2 = some (r, s2)) (h : Q s1 s2) : Sx2 o1 o2 Q := ⟨r, s1, s2, h1, h2, h⟩
theorem Sx2.of {ρ α β : Type} {o1 : Option (ρ × α)} {o2 : Option (ρ × β)} {P1 : α → Prop} {P2 : β → Prop} {v : ρ} (h1 : Sx o1 (fun z => z.1 = v ∧ P1 z.2)) (h2 : Sx o2 (fun z => z.1 = v ∧ P2 z.2)) : Sx2 o1 o2 (fun s t => P1 s ∧ P2 t) := by
  obtain ⟨⟨r, s⟩, e1, rfl, q1⟩ := h1
  obtain ⟨⟨r', t⟩, e2, rfl, q2⟩ := h2
  exact ⟨r', s, t, e1, e2, q1, q2⟩
theorem Sx2.imp {ρ α β : Type} {o1 : Option (ρ × α)} {o2 : Option (ρ × β)} {Q R : α → β → Prop} (h : Sx2 o1 o2 Q) (g : ∀ s t, Q s t → R s t) : Sx2 o1 o2 R := by
  obtain ⟨r, s, t, e1, e2, q⟩ := h
  exact ⟨r, s, t, e1, e2, g s t q⟩
theorem wi1 {x a b : Int32} {A B : Int} (h : inr x A B) (ha : a.toInt = A := by rfl) (hb : b.toInt = B := by rfl) : fX8_within x a b = some 1 := by rw [wi_eq ha hb, bI_t h]
theorem wi0 {x a b : Int32} {A B : Int} (h : ¬ inr x A B) (ha : a.toInt = A := by rfl) (hb : b.toInt = B := by rfl) : fX8_within x a b = some 0 := by rw [wi_eq ha hb, bI_f h]
theorem in1 {x : Int32} {a b : Int64} {A B : Int} (h : inr x A B) (ha : a.toInt = A := by rfl) (hb : b.toInt = B := by rfl) : fX9_in (Int32.toInt64 x) a b = some 1 := by rw [in_eq ha hb, bI_t h]
theorem in0 {x : Int32} {a b : Int64} {A B : Int} (h : ¬ inr x A B) (ha : a.toInt = A := by rfl) (hb : b.toInt = B := by rfl) : fX9_in (Int32.toInt64 x) a b = some 0 := by rw [in_eq ha hb, bI_f h]
theorem isb8y {x : Int32} (h : inr x 0 2) : fX8_isBond x = some 1 := by
  unfold fX8_isBond
  rw [wi1 h, bd1_mk]; rfl
theorem isb9y {x : Int32} (h : inr x 0 2) : fX9_isBond x = some 1 := by
  unfold fX9_isBond
  rw [in1 h, bd1_mk]; rfl
theorem isp8y {x : Int32} (h : inr x 0 1000000) : fX8_isPence x = some 1 := by
  unfold fX8_isPence
  rw [wi1 h, bd1_mk]; rfl
theorem isp8n {x : Int32} (h : ¬ inr x 0 1000000) : fX8_isPence x = some 0 := by
  unfold fX8_isPence
  rw [wi0 h, bd1_mk]; rfl
theorem isS8y {x : Int32} (h : inr x 1 1000) : fX8_isStart x = some 1 := by
  unfold fX8_isStart
  rw [wi1 h, bd1_mk]; rfl
theorem isS8n {x : Int32} (h : ¬ inr x 1 1000) : fX8_isStart x = some 0 := by
  unfold fX8_isStart
  rw [wi0 h, bd1_mk]; rfl
theorem chE {b : Int32} (h : inr b 2 20) : (b - 1).toInt = b.toInt - 1 := by
  obtain ⟨n, rfl, l, u, q⟩ := inr_n h (by decide)
  obtain ⟨k, rfl⟩ : ∃ k, n = k + 1 := ⟨n - 1, by omega⟩
  rw [nI_pred, nI_toInt (by omega), nI_toInt q]
  omega
abbrev chP (a b : Int32) : Prop := inr b 2 20 ∧ inr a 1 (b.toInt - 1)
theorem isC8y {a b : Int32} (h : chP a b) : fX8_isChance a b = some 1 := by
  unfold fX8_isChance
  rw [wi1 h.1, bd1_mk, if_neg one0, wi1 h.2 rfl (chE h.1)]; rfl
theorem isC8n {a b : Int32} (h : ¬ chP a b) : fX8_isChance a b = some 0 := by
  unfold fX8_isChance
  by_cases g : inr b 2 20
  · rw [wi1 g, bd1_mk, if_neg one0, wi0 (fun q => h ⟨g, q⟩) rfl (chE g)]; rfl
  · rw [wi0 g, bd1_mk, if_pos rfl]; rfl
theorem isC9y {a b : Int32} (h : chP a b) : fX9_isChance a b = some 1 := by
  unfold fX9_isChance
  have e : (Int32.toInt64 (b - 1)).toInt = b.toInt - 1 := by rw [Int32.toInt_toInt64]; exact chE h.1
  rw [in1 h.1, bd1_mk, if_neg one0, in1 h.2 rfl e]; rfl
theorem isC9n {a b : Int32} (h : ¬ chP a b) : fX9_isChance a b = some 0 := by
  unfold fX9_isChance
  by_cases g : inr b 2 20
  · have e : (Int32.toInt64 (b - 1)).toInt = b.toInt - 1 := by rw [Int32.toInt_toInt64]; exact chE g
    rw [in1 g, bd1_mk, if_neg one0, in0 (fun q => h ⟨g, q⟩) rfl e]; rfl
  · rw [in0 g, bd1_mk, if_pos rfl]; rfl
theorem chN {a b : Int32} (h : chP a b) : ∃ p q : Nat, a = nI p ∧ b = nI q ∧ 1 ≤ p ∧ p < q ∧ q ≤ 20 := by
  obtain ⟨q, rfl, l, u, w⟩ := inr_n h.1 (by decide)
  have h2 := h.2
  rw [nI_toInt w] at h2
  obtain ⟨p, rfl, l2, u2, w2⟩ := inr_n h2 (by decide)
  exact ⟨p, q, rfl, rfl, by omega, by omega, by omega⟩
theorem isd8y {tr : Nat → Int32} {τ : Nat → Nat} (hf : TC tr τ) (hT : TK τ) {x : Int32} (h : inr x 0 (τ 0)) : fX8_isDay x tr = some 1 := by
  unfold fX8_isDay
  rw [ld8 hf hT, bd1_mk, wi1 h rfl (nI_toInt (by omega)), bd1_mk]; rfl
theorem isd8n {tr : Nat → Int32} {τ : Nat → Nat} (hf : TC tr τ) (hT : TK τ) {x : Int32} (h : ¬ inr x 0 (τ 0)) : fX8_isDay x tr = some 0 := by
  unfold fX8_isDay
  rw [ld8 hf hT, bd1_mk, wi0 h rfl (nI_toInt (by omega)), bd1_mk]; rfl
theorem tr0 {tr : Nat → Int32} {τ : Nat → Nat} (hf : TR tr 0 τ) {i : Nat} (h : i < 9) : tr i = nI (τ i) := by
  have := hf i h
  rwa [Nat.zero_add] at this
theorem isd9y {tr : Nat → Int32} {τ : Nat → Nat} (hf : TR tr 0 τ) (hT : TK τ) {x : Int32} (h : inr x 0 (τ 0)) : fX9_in (Int32.toInt64 x) 0 (Int32.toInt64 (tr (Int32.toNatClampNeg 0))) = some 1 := by
  refine in1 h rfl ?_
  rw [cl_0, tr0 hf (by omega), Int32.toInt_toInt64, nI_toInt (by omega)]
theorem isd9n {tr : Nat → Int32} {τ : Nat → Nat} (hf : TR tr 0 τ) (hT : TK τ) {x : Int32} (h : ¬ inr x 0 (τ 0)) : fX9_in (Int32.toInt64 x) 0 (Int32.toInt64 (tr (Int32.toNatClampNeg 0))) = some 0 := by
  refine in0 h rfl ?_
  rw [cl_0, tr0 hf (by omega), Int32.toInt_toInt64, nI_toInt (by omega)]
/-- the class's bond, by the numbers of the spec -/
def cI (i : Nat) : Nat := if i < 2 then i else if i < 9 then 8 + i else if i < 15 then 11 + i else if i < 21 then 15 + i else i - 19
def eI (β : Nat → Nat) (i : Nat) : Int32 := if 9 ≤ i ∧ i < 21 then iC (β i) else nI (β i)
theorem eI_n {β : Nat → Nat} {i : Nat} (h : ¬ (9 ≤ i ∧ i < 21)) : eI β i = nI (β i) := if_neg h
theorem eI_c {β : Nat → Nat} {i : Nat} (h : 9 ≤ i ∧ i < 21) : eI β i = iC (β i) := if_pos h
theorem cI_inj {i j : Nat} (hi : i < 27) (hj : j < 27) (h : cI i = cI j) : i = j := by
  unfold cI at h
  split at h <;> split at h <;> (try split at h) <;> (try split at h) <;> (try split at h) <;> (try split at h) <;> (try split at h) <;> (try split at h) <;> omega
theorem cI_lt {i : Nat} (hi : i < 27) : cI i < 36 := by
  unfold cI
  split
  · omega
  · split
    · omega
    · split
      · omega
      · split <;> omega
theorem CB.u {ts : Nat → Int32} {β : Nat → Nat} (h : CB ts β) : ∀ i, i < 27 → i ≠ 2 → ts (cI i) = eI β i := by
  obtain ⟨⟨⟨a0, a1⟩, ⟨a2, a3⟩, ⟨a4, a5, a6⟩, a7⟩, b1, b2, b3⟩ := h
  intro i hi h2
  by_cases g1 : i < 2
  · unfold cI
    rw [if_pos g1, eI_n (by omega)]
    rcases (show i = 0 ∨ i = 1 by omega) with rfl | rfl
    · exact a0
    · exact a1
  · by_cases g2 : i < 9
    · unfold cI
      rw [if_neg g1, if_pos g2, eI_n (by omega)]
      have := b1 (i - 2) (by omega) (by omega)
      rwa [show 10 + (i - 2) = 8 + i by omega, show 2 + (i - 2) = i by omega] at this
    · by_cases g3 : i < 15
      · unfold cI
        rw [if_neg g1, if_neg g2, if_pos g3, eI_c (by omega)]
        have := b2 (i - 9) (by omega)
        rwa [show 20 + (i - 9) = 11 + i by omega, show 9 + (i - 9) = i by omega] at this
      · by_cases g4 : i < 21
        · unfold cI
          rw [if_neg g1, if_neg g2, if_neg g3, if_pos g4, eI_c (by omega)]
          have := b3 (i - 15) (by omega)
          rwa [show 30 + (i - 15) = 15 + i by omega, show 15 + (i - 15) = i by omega] at this
        · unfold cI
          rw [if_neg g1, if_neg g2, if_neg g3, if_neg g4, eI_n (by omega)]
          rcases (show i = 21 ∨ i = 22 ∨ i = 23 ∨ i = 24 ∨ i = 25 ∨ i = 26 by omega) with rfl | rfl | rfl | rfl | rfl | rfl
          · exact a2
          · exact a3
          · exact a4
          · exact a5
          · exact a6
          · exact a7
theorem CB.v {ts : Nat → Int32} {β : Nat → Nat} (h : ∀ i, i < 27 → i ≠ 2 → ts (cI i) = eI β i) : CB ts β := by
  refine ⟨⟨⟨h 0 (by omega) (by omega), h 1 (by omega) (by omega)⟩, ⟨h 21 (by omega) (by omega), h 22 (by omega) (by omega)⟩, ⟨h 23 (by omega) (by omega), h 24 (by omega) (by omega), h 25 (by omega) (by omega)⟩, h 26 (by omega) (by omega)⟩, fun t h1 h2 => ?_, fun t h1 => ?_, fun t h1 => ?_⟩
  · have := h (2 + t) (by omega) (by omega)
    rw [eI_n (by omega)] at this
    unfold cI at this
    rwa [if_neg (by omega), if_pos (by omega), show 8 + (2 + t) = 10 + t by omega] at this
  · have := h (9 + t) (by omega) (by omega)
    rw [eI_c (by omega)] at this
    unfold cI at this
    rwa [if_neg (by omega), if_neg (by omega), if_pos (by omega), show 11 + (9 + t) = 20 + t by omega] at this
  · have := h (15 + t) (by omega) (by omega)
    rw [eI_c (by omega)] at this
    unfold cI at this
    rwa [if_neg (by omega), if_neg (by omega), if_neg (by omega), if_pos (by omega), show 15 + (15 + t) = 30 + t by omega] at this
theorem CB.up {ts : Nat → Int32} {β : Nat → Nat} (h : CB ts β) {a x : Nat} {v : Int32} (ha : a < 27) (hv : v = eI (bup β a x) a) : CB (upd ts (cI a) v) (bup β a x) := by
  refine CB.v (fun i hi h2 => ?_)
  rw [upS]
  by_cases e : i = a
  · subst e; rw [if_pos rfl, hv]
  · rw [if_neg (fun q => e (cI_inj hi ha q)), h.u i hi h2]
    unfold eI
    rw [bup_n _ _ e]
/-- bounds of one number -/
def okB (a x : Nat) : Prop := (a = 0 → 1 ≤ x ∧ x ≤ 1000000) ∧ (a = 1 → x ≤ 1000) ∧ (3 ≤ a → a ≤ 8 → x ≤ 1000) ∧ (9 ≤ a → a < 21 → x ≤ 1000001) ∧ (a = 21 ∨ a = 22 → x ≤ 7) ∧ (a = 23 → x ≤ 3) ∧ (a = 24 → 1 ≤ x ∧ x ≤ 3) ∧ (a = 25 → x ≤ 1000000) ∧ (a = 26 → x ≤ 3)
theorem BK.up {β : Nat → Nat} (h : BK β) {a x : Nat} (hx : okB a x) : BK (bup β a x) := by
  obtain ⟨a0, b0, c1, d, e, f, g, i, j, k, l⟩ := h
  obtain ⟨x0, x1, x2, x3, x4, x5, x6, x7, x8⟩ := hx
  refine ⟨?_, ?_, ?_, ?_, ?_, ?_, ?_, ?_, ?_, ?_, ?_⟩
  · unfold bup; split
    · exact x0 (by omega)
    · exact a0
  · unfold bup; split
    · exact x1 (by omega)
    · exact b0
  · intro t h1 h2; unfold bup; split
    · exact x2 (by omega) (by omega)
    · exact c1 t h1 h2
  · intro t h1; unfold bup; split
    · exact x3 (by omega) (by omega)
    · exact d t h1
  · intro t h1; unfold bup; split
    · exact x3 (by omega) (by omega)
    · exact e t h1
  · unfold bup; split
    · exact x4 (by omega)
    · exact f
  · unfold bup; split
    · exact x4 (by omega)
    · exact g
  · unfold bup; split
    · exact x5 (by omega)
    · exact i
  · unfold bup; split
    · exact x6 (by omega)
    · exact j
  · unfold bup; split
    · exact x7 (by omega)
    · exact k
  · unfold bup; split
    · exact x8 (by omega)
    · exact l
