/-! the state of an aqueduct of n arches at the hour h, m coins of which went to masons -/
def pw_V (n h : Nat) (m : Int) (T Q : aq_Q) : Prop := n ≤ 20 ∧ Q 10 3 = nI n ∧ Q 10 4 = nI h ∧ pu_I n (30 * (h : Int)) (60 * (h : Int)) (40 * (h : Int)) Q ∧ (∀ t k, 0 ≤ (T t k).toInt ∧ (T t k).toInt ≤ 40) ∧ pz_B n 0 (40 * (h : Int)) Q ∧ pz_M n m Q
theorem pw_hour {n h : Nat} {m : Int} {T Q : aq_Q} (hV : pw_V n h m T Q) (hh : h ≤ 1000000) : pw_V n (h + 1) m T (aq_hourQ n T Q) := by
  obtain ⟨hn, h3, h4, hI, hT, hB, hM⟩ := hV
  have hI2 := (pu_hour (d := aq_day Q) hn hI hT (by omega) (by omega) (by omega)).2
  have hBM := pz_hour (d := aq_day Q) hn hI hT (by omega) (by omega) (by omega) (by omega) hB hM
  refine ⟨hn, (aq_hourQ_n n T Q).trans h3, ?_, pu_mono (by omega) (by omega) (by omega) hI2, hT, ?_, hBM.2⟩
  · show aq_hourD n T (aq_day Q) Q 10 4 = _
    rw [aq_hourD_h, h4, nI_1]
  · rw [show (40 : Int) * ((h + 1 : Nat) : Int) = 40 * (h : Int) + 40 by omega]
    exact hBM.1
theorem pw_go {n : Nat} {m : Int} {T : aq_Q} : ∀ (k : Nat) {h : Nat} {Q : aq_Q}, pw_V n h m T Q → h + k ≤ 1000000 → pw_V n (h + k) m T (aq_goQ n T k Q)
  | 0, _, _, hV, _ => hV
  | k + 1, h, Q, hV, hk => by
    rw [aq_goQ, show h + (k + 1) = h + 1 + k by omega]
    exact pw_go k (pw_hour hV (by omega)) (by omega)
theorem pw_fore {n z : Nat} {T Q Q1 : aq_Q} (hn : Q 10 3 = nI n) : aq_forR n (aq_goQ n T z (aq_cpQ n Q Q1)) Q 0 = aq_thi (aq_goQ n T z Q) Q := by
  unfold aq_thi
  show aq_goQ n T z (aq_cpQ n Q Q1) 10 12 - Q 10 12 = _
  rw [pu_gs (pu_ggo z (pu_gcp hn)) (by decide) (by decide)]
theorem pw_bk (a b : Int32) : b + (a - b) = a := by
  rw [Int32.sub_eq_add_neg]
  have h : b + (a + -b) = a + (b + -b) := by ac_rfl
  rw [h, Int32.add_right_neg, Int32.add_zero]
/-! what the law does to it -/
theorem pw_slu {n h a : Nat} {m : Int} {T Q : aq_Q} {v : Int32} (hV : pw_V n h m T Q) (h1 : 0 ≤ v.toInt) (h2 : v.toInt ≤ 10) (h3 : v.toInt ≤ 0 ∨ 0 < (Q 6 a).toInt) : pw_V n h m T (aq_up Q 7 a v) := by
  obtain ⟨hn, q3, q4, hI, hT, hB, hM⟩ := hV
  exact ⟨hn, (aq_up_f _ _ (by decide)).trans q3, (aq_up_f _ _ (by decide)).trans q4, pu_I7 hI h1 h2 h3, hT, pz_Bc (pz_row (by decide)) (pz_row (by decide)) (fun k _ _ => aq_up_f _ _ (by decide)) hB, pz_Mc (pz_row (by decide)) (pz_row (by decide)) (pz_row (by decide)) (aq_up_f _ _ (by decide)) (aq_up_f _ _ (by decide)) hM⟩
theorem pw_quake {n h a : Nat} {m : Int} {T Q : aq_Q} {v : Int32} (hV : pw_V n h m T Q) (h1 : 0 ≤ v.toInt) (h2 : v.toInt ≤ 50) : pw_V n h m T (aq_wearByQ Q a v) := by
  obtain ⟨hn, q3, q4, hI, hT, hB, hM⟩ := hV
  exact ⟨hn, (aq_up_f _ _ (by decide)).trans q3, (aq_up_f _ _ (by decide)).trans q4, pu_wbI hI h1 h2, hT, pz_Bc (pz_row (by decide)) (pz_row (by decide)) (fun k _ _ => aq_up_f _ _ (by decide)) hB, pz_Mc (pz_row (by decide)) (pz_row (by decide)) (pz_row (by decide)) (aq_up_f _ _ (by decide)) (aq_up_f _ _ (by decide)) hM⟩
theorem pw_mendR {Q : aq_Q} {a : Nat} : aq_mendQ Q a 3 a = aq_mx 0 (Q 3 a - 10) := by
  unfold aq_mendQ aq_mend2 aq_mend1
  rw [aq_up_f _ _ (show (3 : Nat) ≠ 4 by decide), aq_up_s, aq_up_f _ _ (show (3 : Nat) ≠ 10 by decide)]
theorem pw_mend {n h a : Nat} {m : Int} {T Q : aq_Q} (hV : pw_V n h m T Q) (hh : h ≤ 1000000) (h1 : 0 < (Q 10 5).toInt) : pw_V n h (m + 1) T (aq_mendQ Q a) := by
  obtain ⟨hn, q3, q4, hI, hT, hB, hM⟩ := hV
  have hb := hI.1 a
  unfold pu_b at hb
  have hco := hI.2.2.2.2.1
  have d1 : (Q 10 5 - 1).toInt = (Q 10 5).toInt - 1 := by rw [pu_sub (by rw [pu_1]; omega) (by rw [pu_1]; omega), pu_1]
  have e3 : aq_mend1 Q 3 a = Q 3 a := aq_up_f _ _ (by decide)
  have d2 : (Q 3 a - 10).toInt = (Q 3 a).toInt - 10 := by rw [pu_sub (by rw [pu_10]; omega) (by rw [pu_10]; omega), pu_10]
  have d3 : (aq_mx 0 (Q 3 a - 10)).toInt = max 0 (Q 3 a - 10).toInt := by rw [pu_mx, pu_0]
  have i1 : pu_I n (30 * (h : Int)) (60 * (h : Int)) (40 * (h : Int)) (aq_mend1 Q) := pu_Ic hI (by omega) (by omega)
  have i2 : pu_I n (30 * (h : Int)) (60 * (h : Int)) (40 * (h : Int)) (aq_mend2 Q a) := by
    unfold aq_mend2
    rw [e3]
    exact pu_I3 i1 (by omega) (by omega)
  have r : ∀ f, f ≠ 3 → f ≠ 4 → f ≠ 10 → aq_mendQ Q a f = Q f := fun f f3 f4 f10 => (pz_row f4).trans ((pz_row f3).trans (pz_row f10))
  have k10 : ∀ k, k ≠ 5 → aq_mendQ Q a 10 k = Q 10 k := fun k hk => (aq_up_f _ _ (by decide)).trans ((aq_up_f _ _ (by decide)).trans (aq_up_i _ _ hk))
  have k5 : aq_mendQ Q a 10 5 = Q 10 5 - 1 := (aq_up_f _ _ (by decide)).trans ((aq_up_f _ _ (by decide)).trans (aq_up_s _ _ _ _))
  obtain ⟨m1, m2, m3, m4⟩ := hM
  refine ⟨hn, (k10 3 (by decide)).trans q3, (k10 4 (by decide)).trans q4, pu_I4 i2 (by decide) (by decide), hT, pz_Bc (r 2 (by decide) (by decide) (by decide)) (r 5 (by decide) (by decide) (by decide)) (fun k h7 _ => k10 k (by omega)) hB, ?_⟩
  unfold pz_M
  rw [r 9 (by decide) (by decide) (by decide), r 6 (by decide) (by decide) (by decide), r 8 (by decide) (by decide) (by decide), k10 10 (by decide), k5, d1]
  exact ⟨m1, m2, m3, by omega⟩
theorem pw_cis {n h : Nat} {m : Int} {T Q : aq_Q} {v : Int32} (hV : pw_V n h m T Q) (hh : h ≤ 1000000) (r1 : 0 ≤ v.toInt) (r2 : v.toInt ≤ 500) : pw_V n h m T (aq_sizeQ Q v) := by
  obtain ⟨hn, h3, h4, hI, hT, hB, hM⟩ := hV
  have hd := pz_bd hI hB (Int.le_refl 0)
  have cc := hI.2.1
  have d1 : (Q 10 7 - v).toInt = (Q 10 7).toInt - v.toInt := pu_sub (by omega) (by omega)
  have d2 : (aq_mx 0 (Q 10 7 - v)).toInt = max 0 (Q 10 7 - v).toInt := by rw [pu_mx, pu_0]
  obtain ⟨t, ht⟩ : ∃ t, t = aq_mx 0 (Q 10 7 - v) := ⟨_, rfl⟩
  rw [← ht] at d2
  have d3 : (Q 10 7 - t).toInt = (Q 10 7).toInt - t.toInt := pu_sub (by omega) (by omega)
  have e1 : aq_size1 Q v = aq_up (aq_up Q 10 7 (Q 10 7 - t)) 10 6 v := by
    unfold aq_size1 aq_sizeR
    rw [aq_up_i _ _ (show (7 : Nat) ≠ 6 by decide), ← ht]
    exact pu_sw (by omega)
  have e2 : aq_sizeQ Q v = aq_up (aq_up (aq_up Q 10 7 (Q 10 7 - t)) 10 6 v) 10 9 (Q 10 9 + t) := by
    unfold aq_sizeQ aq_sizeR
    rw [e1, ← ht, aq_up_i _ _ (show (9 : Nat) ≠ 6 by decide), aq_up_i _ _ (show (9 : Nat) ≠ 7 by decide)]
  obtain ⟨b1, b2, b3, b4, b5, b6⟩ := hB
  have d4 : (Q 10 9 + t).toInt = (Q 10 9).toInt + t.toInt := pu_add (by omega) (by omega)
  have i1 := pu_Iw (v := Q 10 7 - t) hI (by omega) (by omega)
  have i2 : pu_I n (30 * (h : Int)) (60 * (h : Int)) (40 * (h : Int)) (aq_up (aq_up Q 10 7 (Q 10 7 - t)) 10 6 v) := pu_Ih i1 (by rw [aq_up_s]; omega) (by omega)
  have r : ∀ f, f ≠ 10 → aq_sizeQ Q v f = Q f := fun f f10 => by rw [e2, pz_row f10, pz_row f10, pz_row f10]
  have k : ∀ k, k ≠ 6 → k ≠ 7 → k ≠ 9 → aq_sizeQ Q v 10 k = Q 10 k := fun k k6 k7 k9 => by rw [e2, aq_up_i _ _ k9, aq_up_i _ _ k6, aq_up_i _ _ k7]
  have k7 : aq_sizeQ Q v 10 7 = Q 10 7 - t := by rw [e2, aq_up_i _ _ (show (7 : Nat) ≠ 9 by decide), aq_up_i _ _ (show (7 : Nat) ≠ 6 by decide), aq_up_s]
  have k9 : aq_sizeQ Q v 10 9 = Q 10 9 + t := by rw [e2, aq_up_s]
  refine ⟨hn, (aq_sizeQ_n Q v).trans h3, (k 4 (by decide) (by decide) (by decide)).trans h4, by rw [e2]; exact pu_Ix i2 (by decide), hT, ?_, pz_Mc (r 9 (by decide)) (r 6 (by decide)) (r 8 (by decide)) (k 10 (by decide) (by decide) (by decide)) (k 5 (by decide) (by decide) (by decide)) hM⟩
  unfold pz_B
  rw [k7, k9, r 2 (by decide), r 5 (by decide), k 8 (by decide) (by decide) (by decide), k 10 (by decide) (by decide) (by decide), k 11 (by decide) (by decide) (by decide)]
  exact ⟨by omega, b2, by omega, b4, b5, b6⟩
theorem pw_tab {T : aq_Q} {t k : Nat} {v : Int32} (hT : ∀ t k, 0 ≤ (T t k).toInt ∧ (T t k).toInt ≤ 40) (h1 : 0 ≤ v.toInt) (h2 : v.toInt ≤ 40) : ∀ t' k', 0 ≤ (aq_up T t k v t' k').toInt ∧ (aq_up T t k v t' k').toInt ≤ 40 := by
  intro t' k'
  by_cases h : t' = t ∧ k' = k
  · obtain ⟨rfl, rfl⟩ := h
    rw [aq_up_s]
    exact ⟨h1, h2⟩
  · rw [pu_o (by omega)]
    exact hT t' k'
theorem pw_spr {n h t k : Nat} {m : Int} {T Q : aq_Q} {v : Int32} (hV : pw_V n h m T Q) (h1 : 0 ≤ v.toInt) (h2 : v.toInt ≤ 40) : pw_V n h m (aq_up T t k v) Q := by
  obtain ⟨hn, q3, q4, hI, hT, hB, hM⟩ := hV
  exact ⟨hn, q3, q4, hI, pw_tab hT h1 h2, hB, hM⟩
/-! while it is built -/
def pw_C (n : Nat) (T Q : aq_Q) : Prop := n ≤ 20 ∧ Q 10 3 = nI n ∧ Q 10 4 = nI 0 ∧ pu_I n 0 0 0 Q ∧ (∀ t k, 0 ≤ (T t k).toInt ∧ (T t k).toInt ≤ 40) ∧ (∀ i, Q 2 i = 0 ∧ Q 5 i = 0 ∧ Q 9 i = 0) ∧ (∀ k, 7 ≤ k → k ≤ 11 → Q 10 k = 0) ∧ (∀ i, n ≤ i → Q 6 i = 0)
theorem pw_zero {f : Nat → Int32} (h : ∀ j, f j = 0) : ∀ n, pz_s f n = 0
  | 0 => rfl
  | n + 1 => by rw [pz_ss, pw_zero h n, h n, pu_0]; rfl
theorem pw_CV {n : Nat} {T Q : aq_Q} (h : pw_C n T Q) : pw_V n 0 0 T Q := by
  obtain ⟨hn, q3, q4, hI, hT, hz, hk, h6⟩ := h
  have z8 : ∀ j, Q 8 j = 0 := fun j => pu_eq (by have := hI.2.2.2.1 j; rw [pu_0]; omega)
  have z5 : Q 10 5 = 0 := pu_eq (by have := hI.2.2.2.2.1; rw [pu_0]; omega)
  refine ⟨hn, q3, q4, hI, hT, ?_, ?_⟩
  · unfold pz_B
    rw [hk 7 (by decide) (by decide), hk 8 (by decide) (by decide), hk 9 (by decide) (by decide), hk 10 (by decide) (by decide), hk 11 (by decide) (by decide), pw_zero (fun j => (hz j).1), pw_zero (fun j => (hz j).2.1)]
    refine ⟨by decide, by decide, by decide, fun i => ?_, by decide, by decide⟩
    rw [(hz i).2.1]
    decide
  · unfold pz_M
    rw [hk 10 (by decide) (by decide), z5, pw_zero z8, pw_zero (fun j => by rw [z8 j]; decide)]
    refine ⟨fun i => ?_, fun i _ => by rw [z8 i, pu_0], by decide, by decide⟩
    have hb := hI.1 i
    unfold pu_b at hb
    rw [(hz i).2.2, pu_0]
    omega
theorem pw_Cb {n : Nat} {T Q : aq_Q} {h z : Int32} (hC : pw_C n T Q) (hn : n < 20) (h0 : 0 ≤ h.toInt) (h1 : h.toInt ≤ (aq_top n Q).toInt) (z1 : 1 ≤ z.toInt) (z2 : z.toInt ≤ 40) : pw_C (n + 1) T (aq_addQ n Q h z) := by
  obtain ⟨-, q3, q4, ⟨b, c, s, fl, co, th⟩, hT, hz, hk, h6⟩ := hC
  have r : ∀ f, f ≠ 0 → f ≠ 1 → f ≠ 10 → aq_addQ n Q h z f = Q f := fun f f0 f1 f10 => (pz_row f10).trans ((pz_row f1).trans (pz_row f0))
  have k10 : ∀ k, k ≠ 3 → aq_addQ n Q h z 10 k = Q 10 k := fun k hk => (aq_up_i _ _ hk).trans ((aq_up_f _ _ (by decide)).trans (aq_up_f _ _ (by decide)))
  have e0 : ∀ i, aq_addQ n Q h z 0 i = if i = n then h else Q 0 i := fun i => by
    unfold aq_addQ
    rw [aq_up_f _ _ (show (0 : Nat) ≠ 10 by decide), aq_up_f _ _ (show (0 : Nat) ≠ 1 by decide)]
    by_cases hi : i = n
    · subst hi
      rw [if_pos rfl, aq_up_s]
    · rw [if_neg hi, aq_up_i _ _ hi]
  have e1 : ∀ i, aq_addQ n Q h z 1 i = if i = n then z else Q 1 i := fun i => by
    unfold aq_addQ
    rw [aq_up_f _ _ (show (1 : Nat) ≠ 10 by decide)]
    by_cases hi : i = n
    · subst hi
      rw [if_pos rfl, aq_up_s]
    · rw [if_neg hi, aq_up_i _ _ hi, aq_up_f _ _ (show (1 : Nat) ≠ 0 by decide)]
  have ht : (aq_top n Q).toInt ≤ 200 := by
    unfold aq_top
    split
    · decide
    · have hb := b (n - 1)
      unfold pu_b at hb
      omega
  refine ⟨by omega, aq_up_s _ _ _ _, (k10 4 (by decide)).trans q4, ⟨fun i => ?_, ?_, fun i hi => ?_, fun i => ?_, ?_, ?_⟩, hT, fun i => ?_, fun k h7 h11 => ?_, fun i hi => ?_⟩
  · have hb := b i
    unfold pu_b at hb ⊢
    rw [e0, e1, r 2 (by decide) (by decide) (by decide), r 3 (by decide) (by decide) (by decide), r 4 (by decide) (by decide) (by decide), r 6 (by decide) (by decide) (by decide), r 7 (by decide) (by decide) (by decide), r 9 (by decide) (by decide) (by decide)]
    have z0 : (Q 2 i).toInt = 0 := by rw [(hz i).1, pu_0]
    by_cases hi : i = n
    · rw [if_pos hi, if_pos hi]
      omega
    · rw [if_neg hi, if_neg hi]
      exact hb
  · rw [k10 7 (by decide), k10 6 (by decide)]
    exact c
  · rw [e0, e0, if_neg (show ¬ i = n by omega)]
    by_cases hin : i + 1 = n
    · rw [if_pos hin]
      have e : aq_top n Q = Q 0 i := by
        unfold aq_top
        rw [if_neg (by omega), show n - 1 = i by omega]
      rw [e] at h1
      exact h1
    · rw [if_neg hin]
      exact s i (by omega)
  · rw [r 8 (by decide) (by decide) (by decide)]
    exact fl i
  · rw [k10 5 (by decide)]
    exact co
  · rw [k10 12 (by decide)]
    exact th
  · rw [r 2 (by decide) (by decide) (by decide), r 5 (by decide) (by decide) (by decide), r 9 (by decide) (by decide) (by decide)]
    exact hz i
  · rw [k10 k (by omega)]
    exact hk k h7 h11
  · rw [r 6 (by decide) (by decide) (by decide)]
    exact h6 i (by omega)
theorem pw_topb {n : Nat} {Q : aq_Q} {h z : Int32} : aq_top (n + 1) (aq_addQ n Q h z) = h := by
  unfold aq_top
  rw [if_neg (by omega), Nat.add_sub_cancel]
  unfold aq_addQ
  rw [aq_up_f _ _ (show (0 : Nat) ≠ 10 by decide), aq_up_f _ _ (show (0 : Nat) ≠ 1 by decide), aq_up_s]
/-- one field of one arch, of those that the start may change -/
theorem pw_Cu {n f i : Nat} {T Q : aq_Q} {v : Int32} (hC : pw_C n T Q) (hi : i < n) (hf : f = 3 ∨ f = 6 ∨ f = 7) (hI : pu_I n 0 0 0 (aq_up Q f i v)) : pw_C n T (aq_up Q f i v) ∧ aq_top n (aq_up Q f i v) = aq_top n Q := by
  obtain ⟨hn, q3, q4, -, hT, hz, hk, h6⟩ := hC
  refine ⟨⟨hn, (aq_up_f _ _ (by omega)).trans q3, (aq_up_f _ _ (by omega)).trans q4, hI, hT, fun j => ?_, fun k h7 h11 => (aq_up_f _ _ (by omega)).trans (hk k h7 h11), fun j hj => (pu_o (by omega)).trans (h6 j hj)⟩, ?_⟩
  · rw [aq_up_f _ _ (show 2 ≠ f by omega), aq_up_f _ _ (show 5 ≠ f by omega), aq_up_f _ _ (show 9 ≠ f by omega)]
    exact hz j
  · unfold aq_top
    rw [aq_up_f _ _ (show 0 ≠ f by omega)]
theorem pw_Ct {n t k : Nat} {T Q : aq_Q} {v : Int32} (hC : pw_C n T Q) (h1 : 0 ≤ v.toInt) (h2 : v.toInt ≤ 40) : pw_C n (aq_up T t k v) Q := by
  obtain ⟨hn, q3, q4, hI, hT, hr⟩ := hC
  exact ⟨hn, q3, q4, hI, pw_tab hT h1 h2, hr⟩
/-! what the calls refuse: nothing here -/
theorem pw_rg {x lo hi : Int32} (h1 : lo.toInt ≤ x.toInt) (h2 : x.toInt ≤ hi.toInt) : aq_rgK x lo hi = 0 := by
  unfold aq_rgK
  rw [if_neg (fun z => by have := Int32.lt_iff_toInt_lt.mp z; omega), if_pos (Int32.le_iff_toInt_le.mpr h2)]
theorem pw_rn {x lo hi : Nat} (h1 : lo ≤ x) (h2 : x ≤ hi) (h3 : hi < 2 ^ 31) : aq_rgK (nI x) (nI lo) (nI hi) = 0 := pw_rg (by rw [nI_toInt (by omega), nI_toInt (by omega)]; omega) (by rw [nI_toInt (by omega), nI_toInt (by omega)]; omega)
theorem pw_ix {k e : Nat} (h : k < e) (he : e < 2 ^ 31) : aq_ixK (nI k) (nI e) = 0 := by
  unfold aq_ixK
  rw [if_neg (Int32.not_lt.mpr (nI_pos' (by omega))), if_pos ((nI_ltI (by omega) he).mpr h)]
theorem pw_n {k : Nat} (h : k < 2 ^ 31) : (nI k).toInt = (k : Int) := nI_toInt h
/-! what the law asks at the end of each round -/
theorem pw_cnt {n h : Nat} {m : Int} {T Q : aq_Q} (hV : pw_V n h m T Q) (hh : h ≤ 1000000) : Q 10 8 = ((((Q 10 7 + aq_over n 2 Q) + Q 10 9) + aq_over n 5 Q) + Q 10 10) + Q 10 11 := by
  obtain ⟨hn, h3, h4, hI, hT, hB, hM⟩ := hV
  have hd := pz_bd hI hB (Int.le_refl 0)
  have cc := hI.2.1
  obtain ⟨b1, b2, b3, b4, b5, b6⟩ := hB
  have o2 : (aq_over n 2 Q).toInt = pz_s (Q 2) n := pz_over (fun j => (hI.1 j).2.2.1.1) (by omega)
  have o5 : (aq_over n 5 Q).toInt = pz_s (Q 5) n := pz_over b4 (by omega)
  have a1 : (Q 10 7 + aq_over n 2 Q).toInt = (Q 10 7).toInt + (aq_over n 2 Q).toInt := pu_add (by omega) (by omega)
  have a2 : ((Q 10 7 + aq_over n 2 Q) + Q 10 9).toInt = (Q 10 7 + aq_over n 2 Q).toInt + (Q 10 9).toInt := pu_add (by omega) (by omega)
  have a3 : (((Q 10 7 + aq_over n 2 Q) + Q 10 9) + aq_over n 5 Q).toInt = ((Q 10 7 + aq_over n 2 Q) + Q 10 9).toInt + (aq_over n 5 Q).toInt := pu_add (by omega) (by omega)
  have a4 : ((((Q 10 7 + aq_over n 2 Q) + Q 10 9) + aq_over n 5 Q) + Q 10 10).toInt = (((Q 10 7 + aq_over n 2 Q) + Q 10 9) + aq_over n 5 Q).toInt + (Q 10 10).toInt := pu_add (by omega) (by omega)
  have a5 : (((((Q 10 7 + aq_over n 2 Q) + Q 10 9) + aq_over n 5 Q) + Q 10 10) + Q 10 11).toInt = ((((Q 10 7 + aq_over n 2 Q) + Q 10 9) + aq_over n 5 Q) + Q 10 10).toInt + (Q 10 11).toInt := pu_add (by omega) (by omega)
  exact pu_eq (by omega)
/-- the law's own sums of flour and coins, over the first k arches -/
def pw_S (k : Nat) (Q : aq_Q) (fl co : Int32) : Prop := fl.toInt = pz_s (Q 8) k ∧ co.toInt = pz_s (fun i => Q 8 i / 10) k
theorem pw_S0 {Q : aq_Q} : pw_S 0 Q 0 0 := ⟨by rw [pz_s0, pu_0], by rw [pz_s0, pu_0]⟩
theorem pw_Sno {n h k : Nat} {m : Int} {T Q : aq_Q} {fl co : Int32} (hV : pw_V n h m T Q) (hS : pw_S k Q fl co) (h0 : aq_hasMill Q k = 0) : pw_S (k + 1) Q fl co := by
  have e : (Q 8 k).toInt = 0 := hV.2.2.2.2.2.2.2.1 k (by have := pu_hm0.mp h0; exact pu_le0.mp this)
  have e2 : Q 8 k = 0 := pu_eq (by rw [e, pu_0])
  refine ⟨?_, ?_⟩
  · rw [pz_ss, e, hS.1, Int.add_zero]
  · rw [pz_ss, hS.2]
    show _ = _ + (Q 8 k / 10).toInt
    rw [e2, show ((0 : Int32) / 10).toInt = 0 from by decide, Int.add_zero]
theorem pw_Sb {n h k : Nat} {m : Int} {T Q : aq_Q} (hV : pw_V n h m T Q) (hh : h ≤ 100000) (hk : k ≤ 20) : 0 ≤ pz_s (Q 8) k ∧ pz_s (Q 8) k ≤ 60000000 ∧ 0 ≤ pz_s (fun i => Q 8 i / 10) k ∧ pz_s (fun i => Q 8 i / 10) k ≤ 60000000 := by
  have fl := hV.2.2.2.1.2.2.2.1
  have d : ∀ i, (Q 8 i / 10).toInt = (Q 8 i).toInt / 10 := fun i => pu_d10 (fl i).1
  have h0 : ∀ k : Nat, k ≤ 20 → 0 ≤ pz_s (Q 8) k ∧ pz_s (Q 8) k ≤ 3000000 * (k : Int) ∧ 0 ≤ pz_s (fun i => Q 8 i / 10) k ∧ pz_s (fun i => Q 8 i / 10) k ≤ 3000000 * (k : Int) := by
    intro k
    induction k with
    | zero =>
      intro _
      rw [pz_s0, pz_s0]
      exact ⟨by decide, by decide, by decide, by decide⟩
    | succ k ih =>
      intro hk
      have h1 := ih (by omega)
      have h2 := fl k
      have h3 := d k
      rw [pz_ss, pz_ss]
      omega
  have := h0 k hk
  omega
theorem pw_Sm {n h k : Nat} {m : Int} {T Q : aq_Q} {fl co : Int32} (hV : pw_V n h m T Q) (hh : h ≤ 100000) (hk : k < 20) (hS : pw_S k Q fl co) : pw_S (k + 1) Q (fl + Q 8 k) (co + Q 8 k / 10) := by
  have b0 := pw_Sb hV hh (k := k) (by omega)
  have b1 := pw_Sb hV hh (k := k + 1) (by omega)
  rw [pz_ss, pz_ss] at b1
  obtain ⟨s1, s2⟩ := hS
  have e1 : (fl + Q 8 k).toInt = fl.toInt + (Q 8 k).toInt := pu_add (by omega) (by omega)
  have e2 : (co + Q 8 k / 10).toInt = co.toInt + (Q 8 k / 10).toInt := pu_add (by omega) (by omega)
  refine ⟨?_, ?_⟩
  · rw [pz_ss, e1, s1]
  · rw [pz_ss, e2, s2]
theorem pw_co {n h : Nat} {m : Nat} {T Q : aq_Q} {fl co : Int32} (hV : pw_V n h (m : Int) T Q) (hh : h ≤ 100000) (hm : m ≤ 1000000) (hS : pw_S n Q fl co) : Q 10 5 = co - nI m := by
  have b0 := pw_Sb hV hh (k := n) hV.1
  obtain ⟨s1, s2⟩ := hS
  have e : (co - nI m).toInt = co.toInt - (nI m).toInt := pu_sub (by rw [pw_n (by omega)]; omega) (by rw [pw_n (by omega)]; omega)
  have q := hV.2.2.2.2.2.2.2.2.2
  rw [pw_n (by omega)] at e
  exact pu_eq (by omega)
theorem pw_us {n h : Nat} {m : Int} {T Q : aq_Q} {fl co : Int32} (hV : pw_V n h m T Q) (hh : h ≤ 100000) (hS : pw_S n Q fl co) : ¬ Q 10 10 < fl / 2 ∧ Q 10 10 ≤ fl := by
  have b0 := pw_Sb hV hh (k := n) hV.1
  obtain ⟨s1, s2⟩ := hS
  have d : (fl / 2).toInt = fl.toInt / 2 := pu_d2 (by omega)
  have q := hV.2.2.2.2.2.2.2.2.1
  refine ⟨fun z => ?_, Int32.le_iff_toInt_le.mpr (by omega)⟩
  have := Int32.lt_iff_toInt_lt.mp z
  omega
theorem pw_dr {n h : Nat} {m : Int} {T Q : aq_Q} (hV : pw_V n h m T Q) : 0 ≤ (Q 10 11).toInt ∧ (Q 10 11).toInt ≤ (Q 10 8).toInt := by
  have hd := pz_bd hV.2.2.2.1 hV.2.2.2.2.2.1 (Int.le_refl 0)
  exact ⟨hV.2.2.2.2.2.1.2.2.2.2.2, by omega⟩
