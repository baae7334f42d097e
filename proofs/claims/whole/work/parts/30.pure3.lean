/-! the calls: what is refused, and the bounds behind what is not -/
/-- the number of an exception as a caller tells it: a for the first kind, b for the second, c for the third -/
def pu_k (a b c : Int32) (κ : Nat) : Int32 := if κ = 0 then 0 else if κ = 1 then a else if κ = 2 then b else c
theorem pu_rg (x lo hi : Int32) : aq_rgK x lo hi = if aR_isIn x lo hi = 0 then 1 else 0 := by
  unfold aq_rgK aR_isIn
  by_cases h1 : x < lo
  · rw [if_pos h1, if_pos h1, if_pos rfl]
  · rw [if_neg h1, if_neg h1]
    by_cases h2 : x ≤ hi
    · rw [if_pos h2, if_neg (Int32.not_lt.mpr h2), if_neg (by decide)]
    · rw [if_neg h2, if_pos (Int32.not_le.mp h2), if_pos rfl]
theorem pu_ix {x : Int32} {m : Nat} (hm : m < 1000) : aq_ixK x (nI m) = if aR_isIn x 0 (nI m - 1) = 0 then 2 else 0 := by
  have e1 : (nI m).toInt = (m : Int) := nI_toInt (by omega)
  have e2 : (nI m - 1).toInt = (m : Int) - 1 := by rw [pu_sub (by rw [e1, pu_1]; omega) (by rw [e1, pu_1]; omega), e1, pu_1]
  unfold aq_ixK aR_isIn
  by_cases h1 : x < 0
  · rw [if_pos h1, if_pos h1, if_pos rfl]
  · rw [if_neg h1, if_neg h1]
    by_cases h2 : x < nI m
    · have h3 : ¬ nI m - 1 < x := fun z => by
        have a := Int32.lt_iff_toInt_lt.mp h2
        have b := Int32.lt_iff_toInt_lt.mp z
        omega
      rw [if_pos h2, if_neg h3, if_neg (by decide)]
    · have h3 : nI m - 1 < x := Int32.lt_iff_toInt_lt.mpr (by
        have a := Int32.le_iff_toInt_le.mp (Int32.not_lt.mp h2)
        omega)
      rw [if_neg h2, if_pos h3, if_pos rfl]
theorem pu_ix24 (x : Int32) : aq_ixK x 24 = if aR_isIn x 0 23 = 0 then 2 else 0 := by
  have := pu_ix (x := x) (m := 24) (by decide)
  rw [show nI 24 - 1 = 23 from by decide, show nI 24 = 24 from by decide] at this
  exact this
theorem pu_ix9 (x : Int32) : aq_ixK x 9 = if aR_isIn x 0 8 = 0 then 2 else 0 := by
  have := pu_ix (x := x) (m := 9) (by decide)
  rw [show nI 9 - 1 = 8 from by decide, show nI 9 = 9 from by decide] at this
  exact this
theorem pu_ix4 (x : Int32) : aq_ixK x 4 = if aR_isIn x 0 3 = 0 then 2 else 0 := by
  have := pu_ix (x := x) (m := 4) (by decide)
  rw [show nI 4 - 1 = 3 from by decide, show nI 4 = 4 from by decide] at this
  exact this
theorem pu_ix12 (x : Int32) : aq_ixK x 12 = if aR_isIn x 0 11 = 0 then 2 else 0 := by
  have := pu_ix (x := x) (m := 12) (by decide)
  rw [show nI 12 - 1 = 11 from by decide, show nI 12 = 12 from by decide] at this
  exact this
theorem pu_top {n : Nat} {S Q : aq_Q} (h : aR_st S Q) : aq_top n S = aq_top n Q := by
  unfold aq_top
  split
  · rfl
  · exact h.1 _
/-- what a range says -/
theorem pu_inR {x lo hi : Int32} (h : ¬ aR_isIn x lo hi = 0) : lo.toInt ≤ x.toInt ∧ x.toInt ≤ hi.toInt := by
  unfold aR_isIn at h
  by_cases h1 : x < lo
  · rw [if_pos h1] at h
    exact absurd rfl h
  · rw [if_neg h1] at h
    by_cases h2 : hi < x
    · rw [if_pos h2] at h
      exact absurd rfl h
    · exact ⟨Int32.le_iff_toInt_le.mp (Int32.not_lt.mp h1), Int32.le_iff_toInt_le.mp (Int32.not_lt.mp h2)⟩
theorem pu_Kbuild {n : Nat} {S Q : aq_Q} (hS : aR_st S Q) (hn : n ≤ 20) (h z : Int32) : pu_k 1 9 2 (aq_buildK n Q h z) = aR_buildT n S h z := by
  have hn2 : (n < 20) = ¬ n = 20 := propext (by omega)
  unfold aq_buildK aR_buildT
  simp only [pu_rg, pu_ix24, pu_ix9, pu_ix4, pu_ix12, pu_top hS, hn2]
  by_cases c0 : aR_isIn h 0 (aq_top n Q) = 0
  · simp [aq_seq, pu_k, c0]
  · skip
    by_cases c1 : aR_isIn z 1 40 = 0
    · simp [aq_seq, pu_k, c0, c1]
    · skip
      by_cases c2 : n = 20
      · first | (simp [aq_seq, pu_k, c0, c1, c2]; done) | (simp [aq_seq, pu_k, c0, c1]; simp [c2])
      · skip
        simp [aq_seq, pu_k, c0, c1, c2]
theorem pu_Kset (h w : Int32) : pu_k 2 1 9 (aq_setK h w) = aR_setT h w := by
  unfold aq_setK aR_setT
  simp only [pu_rg, pu_ix24, pu_ix9, pu_ix4, pu_ix12]
  by_cases c0 : aR_isIn h 0 23 = 0
  · simp [aq_seq, pu_k, c0]
  · skip
    by_cases c1 : aR_isIn w 0 40 = 0
    · simp [aq_seq, pu_k, c0, c1]
    · skip
      simp [aq_seq, pu_k, c0, c1]
theorem pu_Kcis (o : Int32) : pu_k 1 9 9 (aq_rgK o 0 500) = aR_cisT o := by
  unfold aR_cisT
  simp only [pu_rg, pu_ix24, pu_ix9, pu_ix4, pu_ix12]
  by_cases c0 : aR_isIn o 0 500 = 0
  · simp [aq_seq, pu_k, c0]
  · skip
    simp [aq_seq, pu_k, c0]
theorem pu_Karch {n : Nat} (hn : n ≤ 20) (a w : Int32) : pu_k 9 1 9 (aq_archK n a w) = aR_archT n a w := by
  unfold aq_archK aR_archT
  simp only [pu_rg, pu_ix24, pu_ix9, pu_ix4, pu_ix12, pu_ix (show n < 1000 by omega)]
  by_cases c0 : aR_isIn a 0 (nI n - 1) = 0
  · simp [aq_seq, pu_k, c0]
  · skip
    by_cases c1 : aR_isIn w 0 8 = 0
    · simp [aq_seq, pu_k, c0, c1]
    · skip
      simp [aq_seq, pu_k, c0, c1]
theorem pu_KaddM {n : Nat} {S Q : aq_Q} (hS : aR_st S Q) (hn : n ≤ 20) (a x : Int32) : pu_k 2 1 3 (aq_addMK n Q a x) = aR_addMT n S a x := by
  unfold aq_addMK aR_addMT
  simp only [pu_rg, pu_ix24, pu_ix9, pu_ix4, pu_ix12, pu_ix (show n < 1000 by omega), pu_hm0, hS.2.2]
  by_cases c0 : aR_isIn a 0 (nI n - 1) = 0
  · simp [aq_seq, pu_k, c0]
  · skip
    by_cases c1 : aR_isIn x 1 30 = 0
    · simp [aq_seq, pu_k, c0, c1]
    · skip
      by_cases c2 : Q 6 a.toNatClampNeg ≤ 0
      · simp [aq_seq, pu_k, c0, c1, c2]
      · skip
        simp [aq_seq, pu_k, c0, c1, c2]
theorem pu_Kslu {n : Nat} {F C Th : Int} {Q : aq_Q} (hI : pu_I n F C Th Q) (hn : n ≤ 20) (a x : Int32) : pu_k 2 1 3 (aq_sluK n Q a x) = aR_sluT n Q a x := by
  unfold aq_sluK aR_sluT
  simp only [pu_rg, pu_ix24, pu_ix9, pu_ix4, pu_ix12, pu_ix (show n < 1000 by omega), ← pu_m0 hI]
  by_cases c0 : aR_isIn a 0 (nI n - 1) = 0
  · simp [aq_seq, pu_k, c0]
  · skip
    by_cases c1 : aR_isIn x 0 10 = 0
    · simp [aq_seq, pu_k, c0, c1]
    · skip
      by_cases c2 : Q 6 a.toNatClampNeg = 0
      · simp [aq_seq, pu_k, c0, c1, c2]
      · skip
        simp [aq_seq, pu_k, c0, c1, c2]
theorem pu_Kmill {n : Nat} (hn : n ≤ 20) (a w : Int32) : pu_k 9 1 9 (aq_millK n a w) = aR_millT n a w := by
  unfold aq_millK aR_millT
  simp only [pu_rg, pu_ix24, pu_ix9, pu_ix4, pu_ix12, pu_ix (show n < 1000 by omega)]
  by_cases c0 : aR_isIn a 0 (nI n - 1) = 0
  · simp [aq_seq, pu_k, c0]
  · skip
    by_cases c1 : aR_isIn w 0 3 = 0
    · simp [aq_seq, pu_k, c0, c1]
    · skip
      simp [aq_seq, pu_k, c0, c1]
theorem pu_Kmend {n : Nat} {F C Th : Int} {Q : aq_Q} (hI : pu_I n F C Th Q) (hn : n ≤ 20) (a : Int32) : pu_k 9 1 2 (aq_mendK n Q a) = aR_mendT n Q a := by
  have hc : ((1 : Int32) ≤ Q 10 5) = ¬ Q 10 5 = 0 := propext ⟨fun y z => by rw [z] at y; exact absurd y (by decide), fun y => Int32.le_iff_toInt_le.mpr (by
    have b := hI.2.2.2.2.1
    rw [pu_1]
    have : (Q 10 5).toInt ≠ 0 := fun w => y (pu_eq (by rw [w, pu_0]))
    omega)⟩
  unfold aq_mendK aR_mendT
  simp only [pu_rg, pu_ix24, pu_ix9, pu_ix4, pu_ix12, pu_ix (show n < 1000 by omega), hc]
  by_cases c0 : aR_isIn a 0 (nI n - 1) = 0
  · simp [aq_seq, pu_k, c0]
  · skip
    by_cases c1 : Q 10 5 = 0
    · simp [aq_seq, pu_k, c0, c1]
    · skip
      by_cases c2 : Q 3 a.toNatClampNeg = 0
      · simp [aq_seq, pu_k, c0, c1, c2]
      · skip
        simp [aq_seq, pu_k, c0, c1, c2]
theorem pu_Kquake {n : Nat} (hn : n ≤ 20) (a x : Int32) : pu_k 2 1 9 (aq_quakeK n a x) = aR_quakeT n a x := by
  unfold aq_quakeK aR_quakeT
  simp only [pu_rg, pu_ix24, pu_ix9, pu_ix4, pu_ix12, pu_ix (show n < 1000 by omega)]
  by_cases c0 : aR_isIn a 0 (nI n - 1) = 0
  · simp [aq_seq, pu_k, c0]
  · skip
    by_cases c1 : aR_isIn x 1 50 = 0
    · simp [aq_seq, pu_k, c0, c1]
    · skip
      simp [aq_seq, pu_k, c0, c1]
theorem pu_Kpas (z : Int32) : pu_k 1 9 9 (aq_rgK z 1 100) = aR_pasT z := by
  unfold aR_pasT
  simp only [pu_rg, pu_ix24, pu_ix9, pu_ix4, pu_ix12]
  by_cases c0 : aR_isIn z 1 100 = 0
  · simp [aq_seq, pu_k, c0]
  · skip
    simp [aq_seq, pu_k, c0]
theorem pu_Kcnt (w : Int32) : pu_k 9 1 9 (aq_ixK w 12) = aR_cntT w := by
  unfold aR_cntT
  simp only [pu_rg, pu_ix24, pu_ix9, pu_ix4, pu_ix12]
  by_cases c0 : aR_isIn w 0 11 = 0
  · simp [aq_seq, pu_k, c0]
  · skip
    simp [aq_seq, pu_k, c0]
theorem pu_Kfor (h w : Int32) : pu_k 1 2 9 (aq_forK h w) = aR_forT h w := by
  unfold aq_forK aR_forT
  simp only [pu_rg, pu_ix24, pu_ix9, pu_ix4, pu_ix12]
  by_cases c0 : aR_isIn h 1 100 = 0
  · simp [aq_seq, pu_k, c0]
  · skip
    by_cases c1 : aR_isIn w 0 3 = 0
    · simp [aq_seq, pu_k, c0, c1]
    · skip
      simp [aq_seq, pu_k, c0, c1]
theorem pu_Kadv (z : Int32) : pu_k 1 9 9 (aq_rgK z 1 48) = aR_advT z := by
  unfold aR_advT
  simp only [pu_rg, pu_ix24, pu_ix9, pu_ix4, pu_ix12]
  by_cases c0 : aR_isIn z 1 48 = 0
  · simp [aq_seq, pu_k, c0]
  · skip
    simp [aq_seq, pu_k, c0]
theorem pu_Vbuild {n h : Nat} {T S Q : aq_Q} {a b : Int32} (hV : pu_V n h T Q) (hS : aR_st S Q) (hk : aR_buildT n S a b = 0) : pu_V (n + 1) h T (aq_addQ n Q a b) := by
  obtain ⟨hn, h3, h4, hI, hT, h1⟩ := hV
  unfold aR_buildT at hk
  rw [pu_top hS] at hk
  have c0 : ¬ aR_isIn a 0 (aq_top n Q) = 0 := fun z => by rw [if_pos z] at hk; exact absurd hk (by decide)
  rw [if_neg c0] at hk
  have c1 : ¬ aR_isIn b 1 40 = 0 := fun z => by rw [if_pos z] at hk; exact absurd hk (by decide)
  rw [if_neg c1] at hk
  have c2 : ¬ n = 20 := fun z => by rw [if_pos z] at hk; exact absurd hk (by decide)
  have r0 := pu_inR c0
  have r1 := pu_inR c1
  rw [pu_0] at r0
  rw [pu_1, pu_40] at r1
  obtain ⟨bb, cc, s, fl, co, th⟩ := hI
  have htop : (aq_top n Q).toInt ≤ 200 ∧ ∀ i, i + 1 = n → (aq_top n Q).toInt = (Q 0 i).toInt := by
    unfold aq_top
    by_cases z : n = 0
    · rw [if_pos z]
      exact ⟨by decide, fun i hi => by omega⟩
    · rw [if_neg z]
      have hb := bb (n - 1)
      unfold pu_b at hb
      refine ⟨by omega, fun i hi => ?_⟩
      rw [show n - 1 = i by omega]
  have g : ∀ f i, f ≠ 0 → f ≠ 1 → f ≠ 10 → aq_addQ n Q a b f i = Q f i := fun f i x0 x1 x10 => by
    unfold aq_addQ
    rw [aq_up_f _ _ x10, aq_up_f _ _ x1, aq_up_f _ _ x0]
  have g10 : ∀ k, k ≠ 3 → aq_addQ n Q a b 10 k = Q 10 k := fun k hk => by
    unfold aq_addQ
    rw [aq_up_i _ _ hk, aq_up_f _ _ (by decide), aq_up_f _ _ (by decide)]
  have g0 : ∀ i, aq_addQ n Q a b 0 i = if i = n then a else Q 0 i := fun i => by
    unfold aq_addQ
    rw [aq_up_f _ _ (by decide), aq_up_f _ _ (by decide)]
    by_cases z : i = n
    · rw [if_pos z, z, aq_up_s]
    · rw [if_neg z, aq_up_i _ _ z]
  have g1 : ∀ i, aq_addQ n Q a b 1 i = if i = n then b else Q 1 i := fun i => by
    unfold aq_addQ
    rw [aq_up_f _ _ (by decide)]
    by_cases z : i = n
    · rw [if_pos z, z, aq_up_s]
    · rw [if_neg z, aq_up_i _ _ z, aq_up_f _ _ (by decide)]
  refine ⟨by omega, aq_up_s _ _ _ _, (g10 4 (by decide)).trans h4, ⟨fun i => ?_, ?_, fun i hi => ?_, fun i => ?_, ?_, ?_⟩, hT, fun i hi => ?_⟩
  · have hb := bb i
    unfold pu_b at hb ⊢
    rw [g0, g1, g 2 i (by decide) (by decide) (by decide), g 3 i (by decide) (by decide) (by decide), g 4 i (by decide) (by decide) (by decide), g 6 i (by decide) (by decide) (by decide), g 7 i (by decide) (by decide) (by decide), g 9 i (by decide) (by decide) (by decide)]
    by_cases z : i = n
    · rw [if_pos z, if_pos z]
      have h2 := h1 i (by omega)
      rw [h2, pu_0] at hb
      omega
    · rw [if_neg z, if_neg z]
      exact hb
  · rw [g10 7 (by decide), g10 6 (by decide)]
    exact cc
  · rw [g0, g0]
    by_cases z : i + 1 = n
    · rw [if_pos z, if_neg (by omega), ← htop.2 i z]
      exact r0.2
    · rw [if_neg z, if_neg (by omega)]
      exact s i (by omega)
  · rw [g 8 i (by decide) (by decide) (by decide)]
    exact fl i
  · rw [g10 5 (by decide)]
    exact co
  · rw [g10 12 (by decide)]
    exact th
  · rw [g1, if_neg (by omega)]
    exact h1 i (by omega)
theorem pu_Vset {n h t : Nat} {T Q : aq_Q} {a w : Int32} (hV : pu_V n h T Q) (hk : aR_setT a w = 0) : pu_V n h (aq_setT T t a w) Q := by
  obtain ⟨hn, h3, h4, hI, hT, h1⟩ := hV
  unfold aR_setT at hk
  have c0 : ¬ aR_isIn a 0 23 = 0 := fun z => by rw [if_pos z] at hk; exact absurd hk (by decide)
  rw [if_neg c0] at hk
  have c1 : ¬ aR_isIn w 0 40 = 0 := fun z => by rw [if_pos z] at hk; exact absurd hk (by decide)
  have r1 := pu_inR c1
  rw [pu_0, pu_40] at r1
  refine ⟨hn, h3, h4, hI, fun t2 k => ?_, h1⟩
  unfold aq_setT
  by_cases z : t2 = t ∧ k = a.toNatClampNeg
  · obtain ⟨rfl, rfl⟩ := z
    rw [aq_up_s]
    exact r1
  · rw [pu_o (by omega)]
    exact hT t2 k
theorem pu_cisE (Q : aq_Q) (v : Int32) : aR_cisQ Q v = aq_sizeQ Q v := by
  unfold aR_cisQ aR_cis1 aq_sizeQ aq_size1 aq_sizeR
  rw [aq_up_i _ _ (show (7 : Nat) ≠ 6 by decide), aq_up_i _ _ (show (9 : Nat) ≠ 7 by decide), aq_up_i _ _ (show (9 : Nat) ≠ 6 by decide)]
theorem pu_Vcis {n h : Nat} {T Q : aq_Q} {v : Int32} (hV : pu_V n h T Q) (hk : aR_cisT v = 0) : pu_V n h T (aq_sizeQ Q v) := by
  obtain ⟨hn, h3, h4, hI, hT, h1⟩ := hV
  unfold aR_cisT at hk
  have c0 : ¬ aR_isIn v 0 500 = 0 := fun z => by rw [if_pos z] at hk; exact absurd hk (by decide)
  have r0 := pu_inR c0
  rw [pu_0, show (500 : Int32).toInt = 500 from by decide] at r0
  have cc := hI.2.1
  have d1 : (Q 10 7 - v).toInt = (Q 10 7).toInt - v.toInt := pu_sub (by omega) (by omega)
  have d2 : (aq_mx 0 (Q 10 7 - v)).toInt = max 0 (Q 10 7 - v).toInt := by rw [pu_mx, pu_0]
  have d3 : (Q 10 7 - aq_mx 0 (Q 10 7 - v)).toInt = (Q 10 7).toInt - (aq_mx 0 (Q 10 7 - v)).toInt := pu_sub (by omega) (by omega)
  have e1 : aq_size1 Q v = aq_up (aq_up Q 10 7 (Q 10 7 - aq_mx 0 (Q 10 7 - v))) 10 6 v := by
    unfold aq_size1 aq_sizeR
    rw [aq_up_i _ _ (show (7 : Nat) ≠ 6 by decide)]
    exact pu_sw (by omega)
  have i1 := pu_Iw (v := Q 10 7 - aq_mx 0 (Q 10 7 - v)) hI (by omega) (by omega)
  have i2 : pu_I n (30 * (h : Int)) (60 * (h : Int)) (40 * (h : Int)) (aq_size1 Q v) := by
    rw [e1]
    exact pu_Ih i1 (by rw [aq_up_s]; omega) (by omega)
  refine ⟨hn, (aq_sizeQ_n Q v).trans h3, ?_, pu_Ix i2 (by decide), hT, fun i hi => ?_⟩
  · unfold aq_sizeQ aq_size1
    rw [aq_up_i _ _ (by decide), aq_up_i _ _ (by decide), aq_up_i _ _ (by decide)]
    exact h4
  · unfold aq_sizeQ aq_size1
    rw [aq_up_f _ _ (by decide), aq_up_f _ _ (by decide), aq_up_f _ _ (by decide)]
    exact h1 i hi
theorem pu_Vup {n h f a : Nat} {T Q : aq_Q} {x : Int32} (hV : pu_V n h T Q) (hf1 : f ≠ 1) (hf : f ≠ 10) (hI : pu_I n (30 * (h : Int)) (60 * (h : Int)) (40 * (h : Int)) (aq_up Q f a x)) : pu_V n h T (aq_up Q f a x) := by
  obtain ⟨hn, h3, h4, -, hT, h1⟩ := hV
  exact ⟨hn, (aq_up_f _ _ (Ne.symm hf)).trans h3, (aq_up_f _ _ (Ne.symm hf)).trans h4, hI, hT, fun i hi => (aq_up_f _ _ (Ne.symm hf1)).trans (h1 i hi)⟩
theorem pu_VaddM {n h : Nat} {T S Q : aq_Q} {a x : Int32} (hV : pu_V n h T Q) (hk : aR_addMT n S a x = 0) : pu_V n h T (aq_addMQ Q a x) := by
  unfold aR_addMT at hk
  have c0 : ¬ aR_isIn a 0 (nI n - 1) = 0 := fun z => by rw [if_pos z] at hk; exact absurd hk (by decide)
  rw [if_neg c0] at hk
  have c1 : ¬ aR_isIn x 1 30 = 0 := fun z => by rw [if_pos z] at hk; exact absurd hk (by decide)
  have r1 := pu_inR c1
  rw [pu_1, pu_30] at r1
  exact pu_Vup hV (by decide) (by decide) (pu_I6 hV.2.2.2.1 (by omega) (by omega))
theorem pu_Vslu {n h : Nat} {T Q : aq_Q} {a x : Int32} (hV : pu_V n h T Q) (hk : aR_sluT n Q a x = 0) : pu_V n h T (aq_sluQ Q a x) := by
  have hb := hV.2.2.2.1.1 a.toNatClampNeg
  unfold pu_b at hb
  unfold aR_sluT at hk
  have c0 : ¬ aR_isIn a 0 (nI n - 1) = 0 := fun z => by rw [if_pos z] at hk; exact absurd hk (by decide)
  rw [if_neg c0] at hk
  have c1 : ¬ aR_isIn x 0 10 = 0 := fun z => by rw [if_pos z] at hk; exact absurd hk (by decide)
  rw [if_neg c1] at hk
  have c2 : ¬ Q 6 a.toNatClampNeg = 0 := fun z => by rw [if_pos z] at hk; exact absurd hk (by decide)
  have r1 := pu_inR c1
  rw [pu_0, pu_10] at r1
  have r2 : (Q 6 a.toNatClampNeg).toInt ≠ 0 := fun w => c2 (pu_eq (by rw [w, pu_0]))
  exact pu_Vup hV (by decide) (by decide) (pu_I7 hV.2.2.2.1 (by omega) (by omega) (by omega))
theorem pu_mendE (Q : aq_Q) (a : Nat) : aR_mendQ Q a = aq_mendQ Q a := by
  unfold aR_mendQ aq_mendQ aq_mend2 aq_mend1
  rw [aq_up_f _ _ (show (3 : Nat) ≠ 10 by decide)]
theorem pu_Vmend {n h : Nat} {T Q : aq_Q} {a : Int32} (hV : pu_V n h T Q) (hk : aR_mendT n Q a = 0) : pu_V n h T (aq_mendQ Q a.toNatClampNeg) := by
  have hb := hV.2.2.2.1.1 a.toNatClampNeg
  unfold pu_b at hb
  have co := hV.2.2.2.1.2.2.2.2.1
  unfold aR_mendT at hk
  have c0 : ¬ aR_isIn a 0 (nI n - 1) = 0 := fun z => by rw [if_pos z] at hk; exact absurd hk (by decide)
  rw [if_neg c0] at hk
  have c1 : ¬ Q 10 5 = 0 := fun z => by rw [if_pos z] at hk; exact absurd hk (by decide)
  have r2 : (Q 10 5).toInt ≠ 0 := fun w => c1 (pu_eq (by rw [w, pu_0]))
  have hlt := Int32.toInt_lt (Q 10 5)
  have d1 : (Q 10 5 - 1).toInt = (Q 10 5).toInt - 1 := by rw [pu_sub (by rw [pu_1]; omega) (by rw [pu_1]; omega), pu_1]
  have i1 : pu_I n (30 * (h : Int)) (60 * (h : Int)) (40 * (h : Int)) (aq_mend1 Q) := pu_Ic hV.2.2.2.1 (by omega) (by omega)
  have e3 : aq_mend1 Q 3 a.toNatClampNeg = Q 3 a.toNatClampNeg := aq_up_f _ _ (by decide)
  have d2 : (Q 3 a.toNatClampNeg - 10).toInt = (Q 3 a.toNatClampNeg).toInt - 10 := by rw [pu_sub (by rw [pu_10]; omega) (by rw [pu_10]; omega), pu_10]
  have d3 : (aq_mx 0 (aq_mend1 Q 3 a.toNatClampNeg - 10)).toInt = max 0 ((Q 3 a.toNatClampNeg).toInt - 10) := by rw [pu_mx, pu_0, e3, d2]
  have i2 : pu_I n (30 * (h : Int)) (60 * (h : Int)) (40 * (h : Int)) (aq_mend2 Q a.toNatClampNeg) := pu_I3 i1 (by omega) (by omega)
  obtain ⟨hn, h3, h4, -, hT, h1⟩ := hV
  have v1 : pu_V n h T (aq_mend1 Q) := ⟨hn, (aq_up_i _ _ (by decide)).trans h3, (aq_up_i _ _ (by decide)).trans h4, i1, hT, fun i hi => (aq_up_f _ _ (by decide)).trans (h1 i hi)⟩
  exact pu_Vup (pu_Vup v1 (by decide) (by decide) i2) (by decide) (by decide) (pu_I4 i2 (by decide) (by decide))
theorem pu_Vquake {n h : Nat} {T Q : aq_Q} {a x : Int32} (hV : pu_V n h T Q) (hk : aR_quakeT n a x = 0) : pu_V n h T (aq_wearByQ Q a.toNatClampNeg x) := by
  unfold aR_quakeT at hk
  have c0 : ¬ aR_isIn a 0 (nI n - 1) = 0 := fun z => by rw [if_pos z] at hk; exact absurd hk (by decide)
  rw [if_neg c0] at hk
  have c1 : ¬ aR_isIn x 1 50 = 0 := fun z => by rw [if_pos z] at hk; exact absurd hk (by decide)
  have r1 := pu_inR c1
  rw [pu_1, pu_50] at r1
  exact pu_Vup hV (by decide) (by decide) (pu_wbI hV.2.2.2.1 (by omega) (by omega))
theorem pu_z {z : Int32} {B : Nat} (hB : B < 1000) (h : ¬ aR_isIn z 1 (nI B) = 0) : z.toNatClampNeg ≤ B := by
  have r := pu_inR h
  rw [pu_1, nI_toInt (by omega)] at r
  show z.toInt.toNat ≤ B
  omega
theorem pu_zp {z : Int32} (hk : aR_pasT z = 0) : z.toNatClampNeg ≤ 100 := by
  unfold aR_pasT at hk
  refine pu_z (by decide) (fun w => ?_)
  rw [show nI 100 = 100 from by decide] at w
  rw [if_pos w] at hk
  exact absurd hk (by decide)
theorem pu_for {n h z w : Nat} {T Q Q1 : aq_Q} (hV : pu_V n h T Q) (hz : h + z ≤ 1000000) : aR_forR n T Q z w = aq_forR n (aq_goQ n T z (aq_cpQ n Q Q1)) Q w := by
  have g : pu_g n (aq_goQ n T z (aq_cpQ n Q Q1)) (aq_goQ n T z Q) := pu_ggo z (pu_gcp hV.2.1)
  obtain ⟨e1, -, e3⟩ := pu_go z hV hz
  unfold aR_forR
  match w with
  | 0 =>
    rw [if_pos rfl, e3, Int32.zero_add]
    show _ = aq_goQ n T z (aq_cpQ n Q Q1) 10 12 - Q 10 12
    rw [pu_gs g (by decide) (by decide)]
  | 1 =>
    rw [if_neg (by decide), if_pos rfl, e1]
    show _ = aq_over n 5 (aq_goQ n T z (aq_cpQ n Q Q1)) - aq_over n 5 Q
    rw [pu_gover g (by decide)]
  | 2 =>
    rw [if_neg (by decide), if_neg (by decide), if_pos rfl, e1]
    exact (pu_gs g (by decide) (by decide)).symm
  | w + 3 =>
    rw [if_neg (by omega), if_neg (by omega), if_neg (by omega), e1]
    show _ = aq_over n 8 (aq_goQ n T z (aq_cpQ n Q Q1)) - aq_over n 8 Q
    rw [pu_gover g (by decide)]
theorem pu_advise {n h z : Nat} {T Q Q1 : aq_Q} (hV : pu_V n h T Q) (hz : h + z ≤ 1000000) : aR_advR n T z Q n 0 (-1) (aR_goR n T z Q 0) = aq_adviseR n T z Q Q1 := by
  have g : pu_g n (aq_goQ n T z (aq_cpQ n Q Q1)) (aq_goQ n T z Q) := pu_ggo z (pu_gcp hV.2.1)
  have e : aq_thi (aq_tw0 n T z Q Q1) Q = aR_goR n T z Q 0 := by
    unfold aq_thi aq_tw0
    rw [(pu_go z hV hz).2.2, Int32.zero_add, pu_gs g (by decide) (by decide)]
  unfold aq_adviseR
  rw [e]
  exact pu_adv hV hz n 0 _ _ _ (by omega)
theorem pu_thirsty {n h : Nat} {T Q Q1 : aq_Q} {z : Nat} (hV : pu_V n h T Q) (hz : h + z ≤ 1000000) : aR_thsR n T z 1 Q = aq_thsR n T Q z 1 (aq_cpQ n Q Q1) := pu_ths z 1 hV hz (pu_gcp hV.2.1) rfl
