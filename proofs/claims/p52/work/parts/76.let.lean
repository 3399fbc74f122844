/-! own rows: the class's text of a bond is the reference's -/
theorem dgR_s : ∀ (k v : Nat), 1 ≤ k → 10 ≤ v → dgR (k + 1) v = dgR k (v / 10) ++ [48 + v % 10] := by
  intro k
  induction k with
  | zero => intro v h; omega
  | succ k ih =>
    intro v _ hv
    by_cases h0 : k = 0
    · subst h0
      show (if 10 ^ 1 ≤ v ∨ 1 = 0 then [48 + v / 10 ^ 1 % 10] else []) ++ ((if 10 ^ 0 ≤ v ∨ 0 = 0 then [48 + v / 10 ^ 0 % 10] else []) ++ []) = ((if 10 ^ 0 ≤ v / 10 ∨ 0 = 0 then [48 + v / 10 / 10 ^ 0 % 10] else []) ++ []) ++ [48 + v % 10]
      rw [if_pos (Or.inl (by omega)), if_pos (Or.inr rfl), if_pos (Or.inr rfl)]
      simp
    · have e : dgR (k + 1 + 1) v = (if 10 ^ (k + 1) ≤ v ∨ k + 1 = 0 then [48 + v / 10 ^ (k + 1) % 10] else []) ++ dgR (k + 1) v := rfl
      have e2 : dgR (k + 1) (v / 10) = (if 10 ^ k ≤ v / 10 ∨ k = 0 then [48 + v / 10 / 10 ^ k % 10] else []) ++ dgR k (v / 10) := rfl
      rw [e, e2, ih v (by omega) hv, List.append_assoc]
      congr 1
      have hd : v / 10 ^ (k + 1) = v / 10 / 10 ^ k := by rw [Nat.pow_succ, Nat.mul_comm, Nat.div_div_eq_div_mul]
      rw [hd]
      by_cases g : 10 ^ k ≤ v / 10
      · rw [if_pos (Or.inl g), if_pos (Or.inl (by rw [Nat.pow_succ]; exact (Nat.le_div_iff_mul_le (by omega)).mp g))]
      · rw [if_neg (fun q : 10 ^ (k + 1) ≤ v ∨ k + 1 = 0 => q.elim (fun z => g ((Nat.le_div_iff_mul_le (by omega)).mpr (by rw [Nat.pow_succ] at z; exact z))) (by omega)), if_neg (fun q : 10 ^ k ≤ v / 10 ∨ k = 0 => q.elim g h0)]
theorem dgR_1 {v : Nat} (h : v < 10) : ∀ k, 1 ≤ k → dgR k v = [48 + v] := by
  intro k
  induction k with
  | zero => intro h; omega
  | succ k ih =>
    intro _
    show (if 10 ^ k ≤ v ∨ k = 0 then [48 + v / 10 ^ k % 10] else []) ++ dgR k v = _
    by_cases h0 : k = 0
    · subst h0
      rw [if_pos (Or.inr rfl), Nat.pow_zero, Nat.div_one, Nat.mod_eq_of_lt h]; rfl
    · have hp : 10 ^ 1 ≤ 10 ^ k := Nat.pow_le_pow_right (by omega) (by omega)
      rw [if_neg (by omega), ih (by omega)]; rfl
theorem dgs_R : ∀ (k v m : Nat), 1 ≤ k → v < 10 ^ k → k ≤ m → dgs m v = dgR k v := by
  intro k
  induction k with
  | zero => intro v m h; omega
  | succ k ih =>
    intro v m _ hv hm
    obtain ⟨m, rfl⟩ : ∃ n, m = n + 1 := ⟨m - 1, by omega⟩
    rw [dgs.eq_2]
    by_cases g : 10 ≤ v
    · have hk : 1 ≤ k := by
        rcases Nat.eq_zero_or_pos k with rfl | h
        · omega
        · exact h
      rw [if_pos g, dgR_s k v hk g, ih (v / 10) m hk (by rw [Nat.pow_succ] at hv; omega) (by omega)]
    · rw [if_neg g, dgR_1 (by omega) (k + 1) (by omega)]
theorem dg7l {v : Nat} (h : v < 10000000) : dgs 8 v = dgR 7 v := dgs_R 7 v 8 (by omega) h (by omega)
theorem nv_n {t : Nat → Int32} {i v : Nat} (h : t i = nI v) (hv : v < 2 ^ 31) : nv t i = v := by
  unfold nv
  rw [h, nI_clamp hv]
theorem dyT_L {t : Nat → Int32} {base c : Nat} {th : Int32} {f : Nat → Nat} {lo hi : Nat} (hf : ∀ d, lo ≤ d → d ≤ hi → (f d = 0 → t (base + d) < th) ∧ (f d ≠ 0 → ¬ t (base + d) < th ∧ nv t (base + d) = f d - 1 ∧ f d ≤ 1000001)) (hhi : hi ≤ 6) : ∀ j d, lo ≤ d → d + j = hi + 1 → dyT t base c th j d = dyL c f j d := by
  intro j
  induction j with
  | zero => intro d _ _; rfl
  | succ j ih =>
    intro d h1 h2
    obtain ⟨a, b⟩ := hf d h1 (by omega)
    show (if t (base + d) < th then [] else wdT c d (nv t (base + d))) ++ dyT t base c th j (d + 1) = (if f d = 0 then [] else [c] ++ (dgR 7 d ++ ([58] ++ dgR 7 (f d - 1)))) ++ dyL c f j (d + 1)
    rw [ih (d + 1) (by omega) (by omega)]
    congr 1
    by_cases g : f d = 0
    · rw [if_pos g, if_pos (a g)]
    · obtain ⟨b1, b2, b3⟩ := b g
      rw [if_neg g, if_neg b1, b2]
      unfold wdT
      rw [dg7l (by omega), dg7l (by omega)]
theorem wrT_L {t : Nat → Int32} {β : Nat → Nat} (h : CB t β) (hK : BK β) : wrT t = LTx β := by
  obtain ⟨⟨⟨a0, a1⟩, ⟨a2, a3⟩, ⟨a4, a5, a6⟩, a7⟩, b1, b2, b3⟩ := h
  unfold wrT LTx
  have c1 : dyT t 10 99 1 6 1 = dyL 99 (cpC β) 6 1 := by
    refine dyT_L (lo := 1) (hi := 6) (fun d h1 h2 => ?_) (by omega) 6 1 (by omega) (by omega)
    have hb := hK.2.2.1 d h1 h2
    rw [b1 d h1 h2, nv_n (b1 d h1 h2) (by omega)]
    unfold cpC
    by_cases g : β (2 + d) = 0
    · rw [if_pos g]
      exact ⟨fun _ => by rw [g]; decide, fun q => absurd rfl q⟩
    · rw [if_neg g, Nat.add_sub_cancel]
      exact ⟨fun q => absurd q (by omega), fun _ => ⟨nI_nlt (b := 1) (by omega) (by omega), rfl, by omega⟩⟩
  have cC : ∀ e, e ≤ 1000001 → ∀ i, t i = iC e → (e = 0 → t i < 0) ∧ (e ≠ 0 → ¬ t i < 0 ∧ nv t i = e - 1 ∧ e ≤ 1000001) := by
    intro e he i hi
    refine ⟨fun q => by rw [hi, q]; decide, fun q => ?_⟩
    obtain ⟨n, rfl⟩ : ∃ n, e = n + 1 := ⟨e - 1, by omega⟩
    rw [iC_s] at hi
    refine ⟨by rw [hi]; exact nI_pos (by omega), by rw [nv_n hi (by omega), Nat.add_sub_cancel], he⟩
  have c2 : dyT t 20 107 0 6 0 = dyL 107 (caL β) 6 0 := by
    refine dyT_L (lo := 0) (hi := 5) (fun d h1 h2 => ?_) (by omega) 6 0 (by omega) (by omega)
    refine cC _ (caL_le hK d) _ ?_
    rw [b2 d (by omega)]
    unfold caL
    rw [if_pos (by omega)]
  have c3 : dyT t 30 112 0 6 0 = dyL 112 (puL β) 6 0 := by
    refine dyT_L (lo := 0) (hi := 5) (fun d h1 h2 => ?_) (by omega) 6 0 (by omega) (by omega)
    refine cC _ (puL_le hK d) _ ?_
    rw [b3 d (by omega)]
    unfold puL
    rw [if_pos (by omega)]
  rw [c1, c2, c3, nv_n a0 (by omega), nv_n a1 (by omega), nv_n a2 (by omega), nv_n a3 (by omega), nv_n a4 (by omega), nv_n a5 (by omega), nv_n a6 (by omega), nv_n a7 (by omega), dg7l (by omega), dg7l (by omega), dg7l (by omega), dg7l (by omega), dg7l (by omega), dg7l (by omega), dg7l (by omega), dg7l (by omega)]
  rfl
theorem ltA_V {t : Nat → Int32} {β : Nat → Nat} (h : CB t β) (hK : BK β) {i : Int32} (hi : -1 ≤ i) : ltA t i = ltV β i := by
  have hl := LTx_len β
  unfold ltA ltV
  rw [wrT_L h hK]
  by_cases g : i = -1
  · rw [if_pos g, if_pos g]
  · rw [if_neg g, if_neg g]
    by_cases g2 : nI (LTx β).length ≤ i
    · rw [if_pos g2, if_neg (Int32.not_lt.mpr g2)]
    · have g3 : i < nI (LTx β).length := Int32.not_le.mp g2
      rw [if_neg g2, if_pos g3]
      have hp0 : 0 ≤ i := by
        rw [Int32.le_iff_toInt_le] at hi ⊢
        rw [Int32.toInt_zero]
        have h1 : (-1 : Int32).toInt = -1 := rfl
        have h2 : i.toInt ≠ -1 := fun q => g (Int32.toInt_inj.mp q)
        omega
      have hlt : i.toNatClampNeg < (LTx β).length := by
        obtain ⟨j, hj, e2⟩ := nI_of (x := i) (Int32.not_lt.mpr hp0)
        rw [e2, nI_clamp hj]
        rw [e2] at g3
        exact (nI_ltI hj (by omega)).mp g3
      unfold wfd
      rw [if_pos ⟨hp0, hlt⟩]
/-- the class's answer of letter, and that the reference answers so -/
theorem q_letter {b0 b1 b2 bs : Nat → Int32} {B : Nat → Nat → Nat} (h : BCT b0 b1 b2 bs B) (p1 p2 a w b : Int32) : Sx (fX9_letter p1 p2 bs a w b) (fun z => ltX p1 p2 b0 b1 b2 = z.1) := by
  unfold ltX
  by_cases g : inr p1 0 2
  · rw [if_pos g]
    by_cases g2 : -1 ≤ p2
    · rw [if_pos g2]
      obtain ⟨k, rfl, _, hk, _⟩ := inr_n g (by decide)
      have hk3 : k < 3 := by omega
      have e : (if nI k = 0 then b0 else if nI k = 1 then b1 else b2) = bsel k b0 b1 b2 := by
        rcases (show k = 0 ∨ k = 1 ∨ k = 2 by omega) with rfl | rfl | rfl <;> rfl
      rw [e, ltA_V (h.1 k hk3).1 (h.1 k hk3).2 g2]
      exact (let9 hk3 (h.2 k hk3) (h.1 k hk3).2 g2 a w b).imp (fun _ h => h.symm)
    · rw [if_neg g2, let9n (fun q => g2 q.2)]
      exact Sx.mk rfl
  · rw [if_neg g, let9n (fun q => g q.1)]
    exact Sx.mk rfl
/-- the class's terms are such as its text wants -/
theorem wHyp_B {t : Nat → Int32} {β : Nat → Nat} (h : CB t β) (hK : BK β) : wHyp t := by
  obtain ⟨⟨⟨a0, a1⟩, ⟨a2, a3⟩, ⟨a4, a5, a6⟩, a7⟩, b1, b2, b3⟩ := h
  have hc : ∀ i e, e ≤ 1000001 → t i = iC e → nv t i < 10000000 := by
    intro i e he hi
    unfold nv
    rw [hi]
    by_cases g : e = 0
    · rw [g]; decide
    · obtain ⟨n, rfl⟩ : ∃ n, e = n + 1 := ⟨e - 1, by omega⟩
      rw [iC_s, nI_clamp (by omega)]; omega
  refine ⟨?_, ?_, ?_, ?_, ?_, ?_, ?_, ?_, ?_, ?_, ?_, ?_⟩
  · intro i hi
    rcases (show i = 0 ∨ i = 1 ∨ i = 2 ∨ i = 3 ∨ i = 4 ∨ i = 5 ∨ i = 6 ∨ i = 7 by omega) with rfl | rfl | rfl | rfl | rfl | rfl | rfl | rfl
    · rw [a0]; exact nI_pos (by omega)
    · rw [a1]; exact nI_pos (by omega)
    · rw [a2]; exact nI_pos (by omega)
    · rw [a3]; exact nI_pos (by omega)
    · rw [a4]; exact nI_pos (by omega)
    · rw [a5]; exact nI_pos (by omega)
    · rw [a6]; exact nI_pos (by omega)
    · rw [a7]; exact nI_pos (by omega)
  · rw [nv_n a0 (by omega)]; omega
  · rw [nv_n a1 (by omega)]; omega
  · rw [nv_n a2 (by omega)]; omega
  · rw [nv_n a3 (by omega)]; omega
  · rw [nv_n a4 (by omega)]; omega
  · rw [nv_n a5 (by omega)]; omega
  · rw [nv_n a6 (by omega)]; omega
  · rw [nv_n a7 (by omega)]; omega
  · intro d h1 h2
    have := hK.2.2.1 d h1 h2
    rw [nv_n (b1 d h1 h2) (by omega)]; omega
  · intro d h1; exact hc _ _ (hK.2.2.2.1 d h1) (b2 d h1)
  · intro d h1; exact hc _ _ (hK.2.2.2.2.1 d h1) (b3 d h1)
