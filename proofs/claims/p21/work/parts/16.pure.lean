/-! the pure part: where the state keeps its bounds, the class's functions and the twin's are the same -/
theorem pu_bm {x : Int} (h1 : -2147483648 ≤ x) (h2 : x < 2147483648) : x.bmod (2 ^ 32) = x := Int.bmod_eq_of_le_mul_two (by omega) (by omega)
theorem pu_eq {a b : Int32} (h : a.toInt = b.toInt) : a = b := Int32.toInt_inj.mp h
theorem pu_add {a b : Int32} (h1 : -2147483648 ≤ a.toInt + b.toInt) (h2 : a.toInt + b.toInt < 2147483648) : (a + b).toInt = a.toInt + b.toInt := by
  rw [Int32.toInt_add]
  exact pu_bm h1 h2
theorem pu_sub {a b : Int32} (h1 : -2147483648 ≤ a.toInt - b.toInt) (h2 : a.toInt - b.toInt < 2147483648) : (a - b).toInt = a.toInt - b.toInt := by
  rw [Int32.toInt_sub]
  exact pu_bm h1 h2
theorem pu_mul {a b : Int32} {A B : Int} (a0 : 0 ≤ a.toInt) (aA : a.toInt ≤ A) (b0 : 0 ≤ b.toInt) (bB : b.toInt ≤ B) (hAB : A * B < 2147483648) : (a * b).toInt = a.toInt * b.toInt ∧ 0 ≤ a.toInt * b.toInt ∧ a.toInt * b.toInt ≤ A * B := by
  have h1 : 0 ≤ a.toInt * b.toInt := Int.mul_nonneg a0 b0
  have h2 : a.toInt * b.toInt ≤ A * B := Int.mul_le_mul aA bB b0 (Int.le_trans a0 aA)
  refine ⟨?_, h1, h2⟩
  rw [Int32.toInt_mul]
  exact pu_bm (Int.le_trans (by decide) h1) (Int.lt_of_le_of_lt h2 hAB)
theorem pu_d10 {a : Int32} (h : 0 ≤ a.toInt) : (a / 10).toInt = a.toInt / 10 := by
  rw [Int32.toInt_div_of_ne_right _ _ (by decide), show (10 : Int32).toInt = 10 from by decide]
  exact Int.tdiv_eq_ediv_of_nonneg h
theorem pu_d2 {a : Int32} (h : 0 ≤ a.toInt) : (a / 2).toInt = a.toInt / 2 := by
  rw [Int32.toInt_div_of_ne_right _ _ (by decide), show (2 : Int32).toInt = 2 from by decide]
  exact Int.tdiv_eq_ediv_of_nonneg h
theorem pu_mn (a b : Int32) : (aq_mn a b).toInt = min a.toInt b.toInt := by
  unfold aq_mn
  split
  · rename_i h
    have h2 := Int32.lt_iff_toInt_lt.mp h
    omega
  · rename_i h
    have h2 := Int32.le_iff_toInt_le.mp (Int32.not_lt.mp h)
    omega
theorem pu_mx (a b : Int32) : (aq_mx a b).toInt = max a.toInt b.toInt := by
  unfold aq_mx
  split
  · rename_i h
    have h2 := Int32.lt_iff_toInt_lt.mp h
    omega
  · rename_i h
    have h2 := Int32.le_iff_toInt_le.mp (Int32.not_lt.mp h)
    omega
theorem pu_mnc (a b : Int32) : aq_mn a b = aq_mn b a := pu_eq (by rw [pu_mn, pu_mn]; omega)
theorem pu_0 : (0 : Int32).toInt = 0 := by decide
theorem pu_1 : (1 : Int32).toInt = 1 := by decide
theorem pu_2 : (2 : Int32).toInt = 2 := by decide
theorem pu_10 : (10 : Int32).toInt = 10 := by decide
theorem pu_30 : (30 : Int32).toInt = 30 := by decide
theorem pu_40 : (40 : Int32).toInt = 40 := by decide
theorem pu_50 : (50 : Int32).toInt = 50 := by decide
theorem pu_le0 {x : Int32} : x ≤ 0 ↔ x.toInt ≤ 0 := Int32.le_iff_toInt_le.trans (by rw [pu_0])
/-! updates -/
theorem pu_o {Q : aq_Q} {f i : Nat} {v : Int32} {a b : Nat} (h : a ≠ f ∨ b ≠ i) : aq_up Q f i v a b = Q a b := by
  rcases h with h | h
  · exact aq_up_f _ _ h
  · exact aq_up_i _ _ h
theorem pu_uu (Q : aq_Q) (f i : Nat) (v w : Int32) : aq_up (aq_up Q f i v) f i w = aq_up Q f i w := by
  funext a b
  by_cases h : a = f ∧ b = i
  · obtain ⟨rfl, rfl⟩ := h
    rw [aq_up_s, aq_up_s]
  · have h : a ≠ f ∨ b ≠ i := by omega
    rw [pu_o h, pu_o h, pu_o h]
theorem pu_sw {Q : aq_Q} {f i g j : Nat} {v w : Int32} (hd : f ≠ g ∨ i ≠ j) : aq_up (aq_up Q f i v) g j w = aq_up (aq_up Q g j w) f i v := by
  funext a b
  by_cases h : a = f ∧ b = i
  · obtain ⟨rfl, rfl⟩ := h
    rw [aq_up_s, pu_o hd, aq_up_s]
  · have h : a ≠ f ∨ b ≠ i := by omega
    rw [pu_o h]
    by_cases h2 : a = g ∧ b = j
    · obtain ⟨rfl, rfl⟩ := h2
      rw [aq_up_s, aq_up_s]
    · have h2 : a ≠ g ∨ b ≠ j := by omega
      rw [pu_o h2, pu_o h2, pu_o h]
theorem pu_id (Q : aq_Q) (f i : Nat) : aq_up Q f i (Q f i) = Q := by
  funext a b
  by_cases h : a = f ∧ b = i
  · obtain ⟨rfl, rfl⟩ := h
    rw [aq_up_s]
  · exact pu_o (by omega)
/-! pouring: what it leaves, and what it may be swapped with -/
theorem pu_po {n a : Nat} {w : Int32} {Q : aq_Q} {f j : Nat} (h1 : f ≠ 2 ∨ j ≠ a) (h2 : f ≠ 10 ∨ j ≠ 7) : aq_pourQ n Q a w f j = Q f j := by
  unfold aq_pourQ
  split
  · exact pu_o h1
  · exact pu_o h2
theorem pu_pu {n a f j : Nat} {v w : Int32} {Q : aq_Q} (h1 : f ≠ 1 ∨ j ≠ a) (h2 : f ≠ 2 ∨ j ≠ a) (h6 : f ≠ 10 ∨ (j ≠ 6 ∧ j ≠ 7)) : aq_pourQ n (aq_up Q f j v) a w = aq_up (aq_pourQ n Q a w) f j v ∧ aq_pourR n (aq_up Q f j v) a w = aq_pourR n Q a w := by
  unfold aq_pourQ aq_pourR
  split
  · unfold aq_fillQ aq_fillR
    rw [pu_o (by omega), pu_o (by omega)]
    exact ⟨pu_sw (by omega), rfl⟩
  · rw [pu_o (by omega), pu_o (by omega)]
    exact ⟨pu_sw (by omega), rfl⟩
theorem pu_pm {n a : Nat} {w : Int32} {Q : aq_Q} : aq_pourQ n Q (min a n) w = aq_pourQ n Q a w ∧ aq_pourR n Q (min a n) w = aq_pourR n Q a w := by
  by_cases h : a < n
  · rw [Nat.min_eq_left (Nat.le_of_lt h)]
    exact ⟨rfl, rfl⟩
  · rw [Nat.min_eq_right (Nat.le_of_not_lt h)]
    unfold aq_pourQ aq_pourR
    rw [if_neg (Nat.lt_irrefl n), if_neg h, if_neg (Nat.lt_irrefl n), if_neg h]
    exact ⟨rfl, rfl⟩
/-! the twin's steps of an hour are the class's -/
theorem pu_send (n : Nat) (Q : aq_Q) (i : Nat) : aR_sendQ n Q i = aq_sendQ n Q i := by
  have h9 : aq_mn (aq_sendG n Q i * Q 7 i / 10) (Q 6 i) = aq_mn (Q 6 i) (aq_sendG n Q i * Q 7 i / 10) := pu_mnc _ _
  have e0 : aq_leadQ1 Q i (aq_sendG n Q i) = aR_send1 n Q i := by unfold aq_leadQ1 aR_send1; rw [h9]
  have e1 : aq_send1 n Q i = aq_up (aR_send1 n Q i) 2 i (aR_send1 n Q i 2 i - aR_send1 n Q i 9 i) := by unfold aq_send1 aq_leadQ; rw [e0]
  have e2 : aq_sendR n Q i = aR_sendX n Q i := by
    unfold aq_sendR aq_leadR aR_sendX
    have : aq_leadQ Q i (aq_sendG n Q i) = aq_send1 n Q i := rfl
    rw [this, e1, pu_o (by omega)]
  unfold aR_sendQ aq_sendQ
  rw [e1, e2, (pu_pu (n := n) (a := i + 1) (f := 2) (j := i) (by omega) (by omega) (by omega)).1, (pu_pu (n := n) (a := i + 1) (f := 2) (j := i) (by omega) (by omega) (by omega)).2, pu_uu, aq_up_s, Int32.sub_sub]
theorem pu_grind (n : Nat) (Q : aq_Q) (i : Nat) : aR_grindQ n Q i = aq_grindAtQ n Q i := by
  have e2 : aR_grind2 Q i = aq_coinQ Q i := by
    unfold aR_grind2 aR_grind1 aq_coinQ aq_grindR aq_grindQ
    rw [pu_o (a := 8) (by omega), pu_o (a := 9) (by omega), aq_up_s]
    exact pu_sw (by omega)
  unfold aR_grindQ
  rw [pu_pm.1, pu_pm.2]
  have e3 : aR_grind3 Q i = aq_up (aq_coinQ Q i) 10 10 (aq_coinQ Q i 10 10 + (aq_coinQ Q i 9 i - Q 9 i / 2)) := by unfold aR_grind3; rw [e2]
  rw [e3, (pu_pu (n := n) (a := i + 2) (f := 10) (j := 10) (by omega) (by omega) (by omega)).1, (pu_pu (n := n) (a := i + 2) (f := 10) (j := 10) (by omega) (by omega) (by omega)).2, pu_o (a := 10) (b := 9) (by omega)]
  unfold aq_grindAtQ
  have e4 : aq_backQ n Q i 10 10 = aq_coinQ Q i 10 10 := by unfold aq_backQ; rw [pu_o (by omega), pu_po (by omega) (by omega)]
  have e5 : aq_backQ n Q i 9 i = aq_coinQ Q i 9 i := by unfold aq_backQ; rw [pu_o (by omega), pu_po (by omega) (by omega)]
  rw [e4, e5]
  unfold aq_backQ
  exact pu_sw (by omega)
theorem pu_spring (n : Nat) (Q : aq_Q) (w : Int32) : aR_springQ n Q w = aq_springQ n Q w := by
  unfold aR_springQ aq_springQ
  by_cases h : n = 0
  · rw [if_pos h, if_pos h, Int32.sub_zero]
  · rw [if_neg h, if_neg h]
    have e1 : aq_pourQ n (aq_giveQ Q w) 0 w = aq_fillQ (aq_giveQ Q w) 0 w := if_pos (by omega)
    have e2 : aq_pourR n (aq_giveQ Q w) 0 w = aq_fillR (aq_giveQ Q w) 0 w := if_pos (by omega)
    rw [e1, e2]
    have e3 : aq_fillQ (aq_giveQ Q w) 0 w 10 9 = aq_giveQ Q w 10 9 := pu_o (by omega)
    rw [e3]
theorem pu_leak (Q : aq_Q) (i : Nat) : aR_leakQ Q i = aq_leakQ Q i := by
  have e : aR_lost Q i = aq_lost Q i := pu_mnc _ _
  unfold aR_leakQ aq_leakQ aR_leak3 aq_leak3
  rw [e]
theorem pu_hm0 {Q : aq_Q} {i : Nat} : aq_hasMill Q i = 0 ↔ Q 6 i ≤ 0 := by
  unfold aq_hasMill
  split
  · rename_i h
    exact ⟨fun _ => h, fun _ => rfl⟩
  · rename_i h
    exact ⟨fun z => absurd z (by decide), fun z => absurd z h⟩
theorem pu_ho0 {Q : aq_Q} {i : Nat} (hl : Q 7 i ≤ 0 ∨ ¬ Q 6 i ≤ 0) : aq_hasOpen Q i = 0 ↔ Q 7 i ≤ 0 := by
  unfold aq_hasOpen
  by_cases h : aq_hasMill Q i = 0
  · rw [if_pos h]
    have := pu_hm0.mp h
    exact ⟨fun _ => hl.elim id (fun z => absurd this z), fun _ => rfl⟩
  · rw [if_neg h]
    split
    · rename_i h7
      exact ⟨fun _ => h7, fun _ => rfl⟩
    · rename_i h7
      exact ⟨fun z => absurd z (by decide), fun z => absurd z h7⟩
theorem pu_wear {Q : aq_Q} {i : Nat} (hl : Q 7 i ≤ 0 ∨ ¬ Q 6 i ≤ 0) : aR_wearQ Q i = aq_wearDayQ Q i := by
  unfold aR_wearQ aq_wearDayQ
  by_cases h : Q 2 i ≤ 0
  · rw [if_pos h, if_pos h]
  · rw [if_neg h, if_neg h]
    by_cases h7 : Q 7 i ≤ 0
    · rw [if_pos h7, if_pos ((pu_ho0 hl).mpr h7)]
      rfl
    · rw [if_neg h7, if_neg (fun z => h7 ((pu_ho0 hl).mp z))]
      rfl
theorem pu_sendA (n : Nat) : ∀ (i : Nat) (Q : aq_Q), aR_sendAll n i Q = aq_sendAll n i Q
  | 0, _ => rfl
  | i + 1, Q => by rw [aR_sendAll, aq_sendAll, pu_send, pu_sendA n i]
theorem pu_grindA (n : Nat) : ∀ (k i : Nat) (Q : aq_Q), aR_grindAll n k i Q = aq_grindAll n k i Q
  | 0, _, _ => rfl
  | k + 1, i, Q => by rw [aR_grindAll, aq_grindAll, pu_grind, pu_grindA n k]
theorem pu_leakA : ∀ (k i : Nat) (Q : aq_Q), aR_leakAll k i Q = aq_leakAll k i Q
  | 0, _, _ => rfl
  | k + 1, i, Q => by rw [aR_leakAll, aq_leakAll, pu_leak, pu_leakA k]
theorem pu_hour5 (n : Nat) (T : aq_Q) (d : Nat) (Q : aq_Q) : aR_hour5 n T d Q = aq_hour5 n T d Q := by
  unfold aR_hour5 aq_hour5
  rw [pu_leakA, pu_spring, pu_grindA, pu_sendA]
/-! the bounds -/
def pu_b (Q : aq_Q) (i : Nat) : Prop := (0 ≤ (Q 0 i).toInt ∧ (Q 0 i).toInt ≤ 200) ∧ (0 ≤ (Q 1 i).toInt ∧ (Q 1 i).toInt ≤ 40) ∧ (0 ≤ (Q 2 i).toInt ∧ (Q 2 i).toInt ≤ (Q 1 i).toInt) ∧ (0 ≤ (Q 3 i).toInt ∧ (Q 3 i).toInt ≤ 50) ∧ (0 ≤ (Q 4 i).toInt ∧ (Q 4 i).toInt ≤ 9) ∧ (0 ≤ (Q 6 i).toInt ∧ (Q 6 i).toInt ≤ 30) ∧ (0 ≤ (Q 7 i).toInt ∧ (Q 7 i).toInt ≤ 10) ∧ (0 ≤ (Q 9 i).toInt ∧ (Q 9 i).toInt ≤ 30) ∧ ((Q 7 i).toInt ≤ 0 ∨ 0 < (Q 6 i).toInt)
def pu_I (n : Nat) (F C Th : Int) (Q : aq_Q) : Prop := (∀ i, pu_b Q i) ∧ (0 ≤ (Q 10 7).toInt ∧ (Q 10 7).toInt ≤ (Q 10 6).toInt ∧ (Q 10 6).toInt ≤ 500) ∧ (∀ i, i + 1 < n → (Q 0 (i + 1)).toInt ≤ (Q 0 i).toInt) ∧ (∀ i, 0 ≤ (Q 8 i).toInt ∧ (Q 8 i).toInt ≤ F) ∧ (0 ≤ (Q 10 5).toInt ∧ (Q 10 5).toInt ≤ C) ∧ (0 ≤ (Q 10 12).toInt ∧ (Q 10 12).toInt ≤ Th)
theorem pu_mono {n : Nat} {F C Th F' C' Th' : Int} {Q : aq_Q} (hF : F ≤ F') (hC : C ≤ C') (hT : Th ≤ Th') (h : pu_I n F C Th Q) : pu_I n F' C' Th' Q := by
  obtain ⟨b, c, s, fl, co, th⟩ := h
  exact ⟨b, c, s, fun i => ⟨(fl i).1, Int.le_trans (fl i).2 hF⟩, ⟨co.1, Int.le_trans co.2 hC⟩, ⟨th.1, Int.le_trans th.2 hT⟩⟩
theorem pu_I2 {n j : Nat} {F C Th : Int} {Q : aq_Q} {v : Int32} (h : pu_I n F C Th Q) (h1 : 0 ≤ v.toInt) (h2 : v.toInt ≤ (Q 1 j).toInt) : pu_I n F C Th (aq_up Q 2 j v) := by
  obtain ⟨b, c, s, fl, co, th⟩ := h
  refine ⟨fun i => ?_, ?_, fun i hi => ?_, fun i => ?_, ?_, ?_⟩
  · have hb := b i
    unfold pu_b at hb ⊢
    simp only [aq_up_f _ _ (show (0 : Nat) ≠ 2 by decide), aq_up_f _ _ (show (1 : Nat) ≠ 2 by decide), aq_up_f _ _ (show (3 : Nat) ≠ 2 by decide), aq_up_f _ _ (show (4 : Nat) ≠ 2 by decide), aq_up_f _ _ (show (6 : Nat) ≠ 2 by decide), aq_up_f _ _ (show (7 : Nat) ≠ 2 by decide), aq_up_f _ _ (show (9 : Nat) ≠ 2 by decide)]
    by_cases k : i = j
    · subst k
      rw [aq_up_s]
      omega
    · rw [aq_up_i _ _ k]
      exact hb
  · simp only [aq_up_f _ _ (show (10 : Nat) ≠ 2 by decide)]
    exact c
  · simp only [aq_up_f _ _ (show (0 : Nat) ≠ 2 by decide)]
    exact s i hi
  · simp only [aq_up_f _ _ (show (8 : Nat) ≠ 2 by decide)]
    exact fl i
  · simp only [aq_up_f _ _ (show (10 : Nat) ≠ 2 by decide)]
    exact co
  · simp only [aq_up_f _ _ (show (10 : Nat) ≠ 2 by decide)]
    exact th
theorem pu_I3 {n j : Nat} {F C Th : Int} {Q : aq_Q} {v : Int32} (h : pu_I n F C Th Q) (h1 : 0 ≤ v.toInt) (h2 : v.toInt ≤ 50) : pu_I n F C Th (aq_up Q 3 j v) := by
  obtain ⟨b, c, s, fl, co, th⟩ := h
  refine ⟨fun i => ?_, ?_, fun i hi => ?_, fun i => ?_, ?_, ?_⟩
  · have hb := b i
    unfold pu_b at hb ⊢
    simp only [aq_up_f _ _ (show (0 : Nat) ≠ 3 by decide), aq_up_f _ _ (show (1 : Nat) ≠ 3 by decide), aq_up_f _ _ (show (2 : Nat) ≠ 3 by decide), aq_up_f _ _ (show (4 : Nat) ≠ 3 by decide), aq_up_f _ _ (show (6 : Nat) ≠ 3 by decide), aq_up_f _ _ (show (7 : Nat) ≠ 3 by decide), aq_up_f _ _ (show (9 : Nat) ≠ 3 by decide)]
    by_cases k : i = j
    · subst k
      rw [aq_up_s]
      omega
    · rw [aq_up_i _ _ k]
      exact hb
  · simp only [aq_up_f _ _ (show (10 : Nat) ≠ 3 by decide)]
    exact c
  · simp only [aq_up_f _ _ (show (0 : Nat) ≠ 3 by decide)]
    exact s i hi
  · simp only [aq_up_f _ _ (show (8 : Nat) ≠ 3 by decide)]
    exact fl i
  · simp only [aq_up_f _ _ (show (10 : Nat) ≠ 3 by decide)]
    exact co
  · simp only [aq_up_f _ _ (show (10 : Nat) ≠ 3 by decide)]
    exact th
theorem pu_I4 {n j : Nat} {F C Th : Int} {Q : aq_Q} {v : Int32} (h : pu_I n F C Th Q) (h1 : 0 ≤ v.toInt) (h2 : v.toInt ≤ 9) : pu_I n F C Th (aq_up Q 4 j v) := by
  obtain ⟨b, c, s, fl, co, th⟩ := h
  refine ⟨fun i => ?_, ?_, fun i hi => ?_, fun i => ?_, ?_, ?_⟩
  · have hb := b i
    unfold pu_b at hb ⊢
    simp only [aq_up_f _ _ (show (0 : Nat) ≠ 4 by decide), aq_up_f _ _ (show (1 : Nat) ≠ 4 by decide), aq_up_f _ _ (show (2 : Nat) ≠ 4 by decide), aq_up_f _ _ (show (3 : Nat) ≠ 4 by decide), aq_up_f _ _ (show (6 : Nat) ≠ 4 by decide), aq_up_f _ _ (show (7 : Nat) ≠ 4 by decide), aq_up_f _ _ (show (9 : Nat) ≠ 4 by decide)]
    by_cases k : i = j
    · subst k
      rw [aq_up_s]
      omega
    · rw [aq_up_i _ _ k]
      exact hb
  · simp only [aq_up_f _ _ (show (10 : Nat) ≠ 4 by decide)]
    exact c
  · simp only [aq_up_f _ _ (show (0 : Nat) ≠ 4 by decide)]
    exact s i hi
  · simp only [aq_up_f _ _ (show (8 : Nat) ≠ 4 by decide)]
    exact fl i
  · simp only [aq_up_f _ _ (show (10 : Nat) ≠ 4 by decide)]
    exact co
  · simp only [aq_up_f _ _ (show (10 : Nat) ≠ 4 by decide)]
    exact th
theorem pu_I5 {n j : Nat} {F C Th : Int} {Q : aq_Q} {v : Int32} (h : pu_I n F C Th Q) : pu_I n F C Th (aq_up Q 5 j v) := by
  obtain ⟨b, c, s, fl, co, th⟩ := h
  refine ⟨fun i => ?_, ?_, fun i hi => ?_, fun i => ?_, ?_, ?_⟩
  · have hb := b i
    unfold pu_b at hb ⊢
    simp only [aq_up_f _ _ (show (0 : Nat) ≠ 5 by decide), aq_up_f _ _ (show (1 : Nat) ≠ 5 by decide), aq_up_f _ _ (show (2 : Nat) ≠ 5 by decide), aq_up_f _ _ (show (3 : Nat) ≠ 5 by decide), aq_up_f _ _ (show (4 : Nat) ≠ 5 by decide), aq_up_f _ _ (show (6 : Nat) ≠ 5 by decide), aq_up_f _ _ (show (7 : Nat) ≠ 5 by decide), aq_up_f _ _ (show (9 : Nat) ≠ 5 by decide)]
    exact hb
  · simp only [aq_up_f _ _ (show (10 : Nat) ≠ 5 by decide)]
    exact c
  · simp only [aq_up_f _ _ (show (0 : Nat) ≠ 5 by decide)]
    exact s i hi
  · simp only [aq_up_f _ _ (show (8 : Nat) ≠ 5 by decide)]
    exact fl i
  · simp only [aq_up_f _ _ (show (10 : Nat) ≠ 5 by decide)]
    exact co
  · simp only [aq_up_f _ _ (show (10 : Nat) ≠ 5 by decide)]
    exact th
theorem pu_I6 {n j : Nat} {F C Th : Int} {Q : aq_Q} {v : Int32} (h : pu_I n F C Th Q) (h1 : 0 < v.toInt) (h2 : v.toInt ≤ 30) : pu_I n F C Th (aq_up Q 6 j v) := by
  obtain ⟨b, c, s, fl, co, th⟩ := h
  refine ⟨fun i => ?_, ?_, fun i hi => ?_, fun i => ?_, ?_, ?_⟩
  · have hb := b i
    unfold pu_b at hb ⊢
    simp only [aq_up_f _ _ (show (0 : Nat) ≠ 6 by decide), aq_up_f _ _ (show (1 : Nat) ≠ 6 by decide), aq_up_f _ _ (show (2 : Nat) ≠ 6 by decide), aq_up_f _ _ (show (3 : Nat) ≠ 6 by decide), aq_up_f _ _ (show (4 : Nat) ≠ 6 by decide), aq_up_f _ _ (show (7 : Nat) ≠ 6 by decide), aq_up_f _ _ (show (9 : Nat) ≠ 6 by decide)]
    by_cases k : i = j
    · subst k
      rw [aq_up_s]
      omega
    · rw [aq_up_i _ _ k]
      exact hb
  · simp only [aq_up_f _ _ (show (10 : Nat) ≠ 6 by decide)]
    exact c
  · simp only [aq_up_f _ _ (show (0 : Nat) ≠ 6 by decide)]
    exact s i hi
  · simp only [aq_up_f _ _ (show (8 : Nat) ≠ 6 by decide)]
    exact fl i
  · simp only [aq_up_f _ _ (show (10 : Nat) ≠ 6 by decide)]
    exact co
  · simp only [aq_up_f _ _ (show (10 : Nat) ≠ 6 by decide)]
    exact th
theorem pu_I7 {n j : Nat} {F C Th : Int} {Q : aq_Q} {v : Int32} (h : pu_I n F C Th Q) (h1 : 0 ≤ v.toInt) (h2 : v.toInt ≤ 10) (h3 : v.toInt ≤ 0 ∨ 0 < (Q 6 j).toInt) : pu_I n F C Th (aq_up Q 7 j v) := by
  obtain ⟨b, c, s, fl, co, th⟩ := h
  refine ⟨fun i => ?_, ?_, fun i hi => ?_, fun i => ?_, ?_, ?_⟩
  · have hb := b i
    unfold pu_b at hb ⊢
    simp only [aq_up_f _ _ (show (0 : Nat) ≠ 7 by decide), aq_up_f _ _ (show (1 : Nat) ≠ 7 by decide), aq_up_f _ _ (show (2 : Nat) ≠ 7 by decide), aq_up_f _ _ (show (3 : Nat) ≠ 7 by decide), aq_up_f _ _ (show (4 : Nat) ≠ 7 by decide), aq_up_f _ _ (show (6 : Nat) ≠ 7 by decide), aq_up_f _ _ (show (9 : Nat) ≠ 7 by decide)]
    by_cases k : i = j
    · subst k
      rw [aq_up_s]
      omega
    · rw [aq_up_i _ _ k]
      exact hb
  · simp only [aq_up_f _ _ (show (10 : Nat) ≠ 7 by decide)]
    exact c
  · simp only [aq_up_f _ _ (show (0 : Nat) ≠ 7 by decide)]
    exact s i hi
  · simp only [aq_up_f _ _ (show (8 : Nat) ≠ 7 by decide)]
    exact fl i
  · simp only [aq_up_f _ _ (show (10 : Nat) ≠ 7 by decide)]
    exact co
  · simp only [aq_up_f _ _ (show (10 : Nat) ≠ 7 by decide)]
    exact th
theorem pu_I8 {n j : Nat} {F C Th : Int} {Q : aq_Q} {v : Int32} (h : pu_I n F C Th Q) (h1 : 0 ≤ v.toInt) (h2 : v.toInt ≤ F) : pu_I n F C Th (aq_up Q 8 j v) := by
  obtain ⟨b, c, s, fl, co, th⟩ := h
  refine ⟨fun i => ?_, ?_, fun i hi => ?_, fun i => ?_, ?_, ?_⟩
  · have hb := b i
    unfold pu_b at hb ⊢
    simp only [aq_up_f _ _ (show (0 : Nat) ≠ 8 by decide), aq_up_f _ _ (show (1 : Nat) ≠ 8 by decide), aq_up_f _ _ (show (2 : Nat) ≠ 8 by decide), aq_up_f _ _ (show (3 : Nat) ≠ 8 by decide), aq_up_f _ _ (show (4 : Nat) ≠ 8 by decide), aq_up_f _ _ (show (6 : Nat) ≠ 8 by decide), aq_up_f _ _ (show (7 : Nat) ≠ 8 by decide), aq_up_f _ _ (show (9 : Nat) ≠ 8 by decide)]
    exact hb
  · simp only [aq_up_f _ _ (show (10 : Nat) ≠ 8 by decide)]
    exact c
  · simp only [aq_up_f _ _ (show (0 : Nat) ≠ 8 by decide)]
    exact s i hi
  · by_cases k : i = j
    · subst k
      rw [aq_up_s]
      exact ⟨h1, h2⟩
    · rw [aq_up_i _ _ k]
      exact fl i
  · simp only [aq_up_f _ _ (show (10 : Nat) ≠ 8 by decide)]
    exact co
  · simp only [aq_up_f _ _ (show (10 : Nat) ≠ 8 by decide)]
    exact th
theorem pu_I9 {n j : Nat} {F C Th : Int} {Q : aq_Q} {v : Int32} (h : pu_I n F C Th Q) (h1 : 0 ≤ v.toInt) (h2 : v.toInt ≤ 30) : pu_I n F C Th (aq_up Q 9 j v) := by
  obtain ⟨b, c, s, fl, co, th⟩ := h
  refine ⟨fun i => ?_, ?_, fun i hi => ?_, fun i => ?_, ?_, ?_⟩
  · have hb := b i
    unfold pu_b at hb ⊢
    simp only [aq_up_f _ _ (show (0 : Nat) ≠ 9 by decide), aq_up_f _ _ (show (1 : Nat) ≠ 9 by decide), aq_up_f _ _ (show (2 : Nat) ≠ 9 by decide), aq_up_f _ _ (show (3 : Nat) ≠ 9 by decide), aq_up_f _ _ (show (4 : Nat) ≠ 9 by decide), aq_up_f _ _ (show (6 : Nat) ≠ 9 by decide), aq_up_f _ _ (show (7 : Nat) ≠ 9 by decide)]
    by_cases k : i = j
    · subst k
      rw [aq_up_s]
      omega
    · rw [aq_up_i _ _ k]
      exact hb
  · simp only [aq_up_f _ _ (show (10 : Nat) ≠ 9 by decide)]
    exact c
  · simp only [aq_up_f _ _ (show (0 : Nat) ≠ 9 by decide)]
    exact s i hi
  · simp only [aq_up_f _ _ (show (8 : Nat) ≠ 9 by decide)]
    exact fl i
  · simp only [aq_up_f _ _ (show (10 : Nat) ≠ 9 by decide)]
    exact co
  · simp only [aq_up_f _ _ (show (10 : Nat) ≠ 9 by decide)]
    exact th
theorem pu_Ic {n : Nat} {F C Th C2 : Int} {Q : aq_Q} {v : Int32} (h : pu_I n F C Th Q) (h1 : 0 ≤ v.toInt) (h2 : v.toInt ≤ C2) : pu_I n F C2 Th (aq_up Q 10 5 v) := by
  obtain ⟨b, c, s, fl, co, th⟩ := h
  refine ⟨fun i => ?_, ?_, fun i hi => ?_, fun i => ?_, ?_, ?_⟩
  · have hb := b i
    unfold pu_b at hb ⊢
    simp only [aq_up_f _ _ (show (0 : Nat) ≠ 10 by decide), aq_up_f _ _ (show (1 : Nat) ≠ 10 by decide), aq_up_f _ _ (show (2 : Nat) ≠ 10 by decide), aq_up_f _ _ (show (3 : Nat) ≠ 10 by decide), aq_up_f _ _ (show (4 : Nat) ≠ 10 by decide), aq_up_f _ _ (show (6 : Nat) ≠ 10 by decide), aq_up_f _ _ (show (7 : Nat) ≠ 10 by decide), aq_up_f _ _ (show (9 : Nat) ≠ 10 by decide)]
    exact hb
  · rw [aq_up_i _ _ (show (7 : Nat) ≠ 5 by decide), aq_up_i _ _ (show (6 : Nat) ≠ 5 by decide)]
    first | exact c | omega
  · simp only [aq_up_f _ _ (show (0 : Nat) ≠ 10 by decide)]
    exact s i hi
  · simp only [aq_up_f _ _ (show (8 : Nat) ≠ 10 by decide)]
    exact fl i
  · rw [aq_up_s]
    first | exact co | omega
  · rw [aq_up_i _ _ (show (12 : Nat) ≠ 5 by decide)]
    first | exact th | omega
theorem pu_It {n : Nat} {F C Th Th2 : Int} {Q : aq_Q} {v : Int32} (h : pu_I n F C Th Q) (h1 : 0 ≤ v.toInt) (h2 : v.toInt ≤ Th2) : pu_I n F C Th2 (aq_up Q 10 12 v) := by
  obtain ⟨b, c, s, fl, co, th⟩ := h
  refine ⟨fun i => ?_, ?_, fun i hi => ?_, fun i => ?_, ?_, ?_⟩
  · have hb := b i
    unfold pu_b at hb ⊢
    simp only [aq_up_f _ _ (show (0 : Nat) ≠ 10 by decide), aq_up_f _ _ (show (1 : Nat) ≠ 10 by decide), aq_up_f _ _ (show (2 : Nat) ≠ 10 by decide), aq_up_f _ _ (show (3 : Nat) ≠ 10 by decide), aq_up_f _ _ (show (4 : Nat) ≠ 10 by decide), aq_up_f _ _ (show (6 : Nat) ≠ 10 by decide), aq_up_f _ _ (show (7 : Nat) ≠ 10 by decide), aq_up_f _ _ (show (9 : Nat) ≠ 10 by decide)]
    exact hb
  · rw [aq_up_i _ _ (show (7 : Nat) ≠ 12 by decide), aq_up_i _ _ (show (6 : Nat) ≠ 12 by decide)]
    first | exact c | omega
  · simp only [aq_up_f _ _ (show (0 : Nat) ≠ 10 by decide)]
    exact s i hi
  · simp only [aq_up_f _ _ (show (8 : Nat) ≠ 10 by decide)]
    exact fl i
  · rw [aq_up_i _ _ (show (5 : Nat) ≠ 12 by decide)]
    first | exact co | omega
  · rw [aq_up_s]
    first | exact th | omega
theorem pu_Ih {n : Nat} {F C Th : Int} {Q : aq_Q} {v : Int32} (h : pu_I n F C Th Q) (h1 : (Q 10 7).toInt ≤ v.toInt) (h2 : v.toInt ≤ 500) : pu_I n F C Th (aq_up Q 10 6 v) := by
  obtain ⟨b, c, s, fl, co, th⟩ := h
  refine ⟨fun i => ?_, ?_, fun i hi => ?_, fun i => ?_, ?_, ?_⟩
  · have hb := b i
    unfold pu_b at hb ⊢
    simp only [aq_up_f _ _ (show (0 : Nat) ≠ 10 by decide), aq_up_f _ _ (show (1 : Nat) ≠ 10 by decide), aq_up_f _ _ (show (2 : Nat) ≠ 10 by decide), aq_up_f _ _ (show (3 : Nat) ≠ 10 by decide), aq_up_f _ _ (show (4 : Nat) ≠ 10 by decide), aq_up_f _ _ (show (6 : Nat) ≠ 10 by decide), aq_up_f _ _ (show (7 : Nat) ≠ 10 by decide), aq_up_f _ _ (show (9 : Nat) ≠ 10 by decide)]
    exact hb
  · rw [aq_up_i _ _ (show (7 : Nat) ≠ 6 by decide), aq_up_s]
    first | exact c | omega
  · simp only [aq_up_f _ _ (show (0 : Nat) ≠ 10 by decide)]
    exact s i hi
  · simp only [aq_up_f _ _ (show (8 : Nat) ≠ 10 by decide)]
    exact fl i
  · rw [aq_up_i _ _ (show (5 : Nat) ≠ 6 by decide)]
    first | exact co | omega
  · rw [aq_up_i _ _ (show (12 : Nat) ≠ 6 by decide)]
    first | exact th | omega
theorem pu_Iw {n : Nat} {F C Th : Int} {Q : aq_Q} {v : Int32} (h : pu_I n F C Th Q) (h1 : 0 ≤ v.toInt) (h2 : v.toInt ≤ (Q 10 6).toInt) : pu_I n F C Th (aq_up Q 10 7 v) := by
  obtain ⟨b, c, s, fl, co, th⟩ := h
  refine ⟨fun i => ?_, ?_, fun i hi => ?_, fun i => ?_, ?_, ?_⟩
  · have hb := b i
    unfold pu_b at hb ⊢
    simp only [aq_up_f _ _ (show (0 : Nat) ≠ 10 by decide), aq_up_f _ _ (show (1 : Nat) ≠ 10 by decide), aq_up_f _ _ (show (2 : Nat) ≠ 10 by decide), aq_up_f _ _ (show (3 : Nat) ≠ 10 by decide), aq_up_f _ _ (show (4 : Nat) ≠ 10 by decide), aq_up_f _ _ (show (6 : Nat) ≠ 10 by decide), aq_up_f _ _ (show (7 : Nat) ≠ 10 by decide), aq_up_f _ _ (show (9 : Nat) ≠ 10 by decide)]
    exact hb
  · rw [aq_up_s, aq_up_i _ _ (show (6 : Nat) ≠ 7 by decide)]
    first | exact c | omega
  · simp only [aq_up_f _ _ (show (0 : Nat) ≠ 10 by decide)]
    exact s i hi
  · simp only [aq_up_f _ _ (show (8 : Nat) ≠ 10 by decide)]
    exact fl i
  · rw [aq_up_i _ _ (show (5 : Nat) ≠ 7 by decide)]
    first | exact co | omega
  · rw [aq_up_i _ _ (show (12 : Nat) ≠ 7 by decide)]
    first | exact th | omega
theorem pu_Ix {n : Nat} {F C Th : Int} {Q : aq_Q} {v : Int32} {k : Nat} (h : pu_I n F C Th Q) (h1 : k ≠ 5 ∧ k ≠ 6 ∧ k ≠ 7 ∧ k ≠ 12) : pu_I n F C Th (aq_up Q 10 k v) := by
  obtain ⟨b, c, s, fl, co, th⟩ := h
  refine ⟨fun i => ?_, ?_, fun i hi => ?_, fun i => ?_, ?_, ?_⟩
  · have hb := b i
    unfold pu_b at hb ⊢
    simp only [aq_up_f _ _ (show (0 : Nat) ≠ 10 by decide), aq_up_f _ _ (show (1 : Nat) ≠ 10 by decide), aq_up_f _ _ (show (2 : Nat) ≠ 10 by decide), aq_up_f _ _ (show (3 : Nat) ≠ 10 by decide), aq_up_f _ _ (show (4 : Nat) ≠ 10 by decide), aq_up_f _ _ (show (6 : Nat) ≠ 10 by decide), aq_up_f _ _ (show (7 : Nat) ≠ 10 by decide), aq_up_f _ _ (show (9 : Nat) ≠ 10 by decide)]
    exact hb
  · rw [aq_up_i _ _ (show (7 : Nat) ≠ k by omega), aq_up_i _ _ (show (6 : Nat) ≠ k by omega)]
    first | exact c | omega
  · simp only [aq_up_f _ _ (show (0 : Nat) ≠ 10 by decide)]
    exact s i hi
  · simp only [aq_up_f _ _ (show (8 : Nat) ≠ 10 by decide)]
    exact fl i
  · rw [aq_up_i _ _ (show (5 : Nat) ≠ k by omega)]
    first | exact co | omega
  · rw [aq_up_i _ _ (show (12 : Nat) ≠ k by omega)]
    first | exact th | omega
/-! the bounds hold at each step of an hour -/
theorem pu_fill {n a : Nat} {F C Th : Int} {Q : aq_Q} {w : Int32} (h : pu_I n F C Th Q) (w0 : 0 ≤ w.toInt) : pu_I n F C Th (aq_fillQ Q a w) ∧ 0 ≤ (aq_fillR Q a w).toInt ∧ (aq_fillR Q a w).toInt ≤ w.toInt := by
  have hb := h.1 a
  unfold pu_b at hb
  have e1 : (Q 1 a - Q 2 a).toInt = (Q 1 a).toInt - (Q 2 a).toInt := pu_sub (by omega) (by omega)
  have e2 : (aq_fillR Q a w).toInt = min w.toInt ((Q 1 a).toInt - (Q 2 a).toInt) := by unfold aq_fillR; rw [pu_mn, e1]
  have e3 : (Q 2 a + aq_fillR Q a w).toInt = (Q 2 a).toInt + (aq_fillR Q a w).toInt := pu_add (by omega) (by omega)
  exact ⟨pu_I2 h (by omega) (by omega), by omega, by omega⟩
theorem pu_pour {n a : Nat} {F C Th : Int} {Q : aq_Q} {w : Int32} (h : pu_I n F C Th Q) (w0 : 0 ≤ w.toInt) : pu_I n F C Th (aq_pourQ n Q a w) ∧ 0 ≤ (aq_pourR n Q a w).toInt ∧ (aq_pourR n Q a w).toInt ≤ w.toInt := by
  unfold aq_pourQ aq_pourR
  by_cases k : a < n
  · rw [if_pos k, if_pos k]
    exact pu_fill h w0
  · rw [if_neg k, if_neg k]
    have hc := h.2.1
    have e1 : (Q 10 6 - Q 10 7).toInt = (Q 10 6).toInt - (Q 10 7).toInt := pu_sub (by omega) (by omega)
    have e2 : (aq_mn w (Q 10 6 - Q 10 7)).toInt = min w.toInt ((Q 10 6).toInt - (Q 10 7).toInt) := by rw [pu_mn, e1]
    have e3 : (Q 10 7 + aq_mn w (Q 10 6 - Q 10 7)).toInt = (Q 10 7).toInt + (aq_mn w (Q 10 6 - Q 10 7)).toInt := pu_add (by omega) (by omega)
    exact ⟨pu_Iw h (by omega) (by omega), by omega, by omega⟩
theorem pu_drink {n : Nat} {F C Th : Int} {Q : aq_Q} {w : Int32} (h : pu_I n F C Th Q) (w0 : 0 ≤ w.toInt) (w4 : w.toInt ≤ 40) (hT : Th < 1000000000) : pu_I n F C (Th + 40) (aq_drinkQ Q w) ∧ (aq_drinkQ Q w 10 12).toInt = (Q 10 12).toInt + (w - aq_mn w (Q 10 7)).toInt ∧ 0 ≤ (w - aq_mn w (Q 10 7)).toInt ∧ (w - aq_mn w (Q 10 7)).toInt ≤ 40 := by
  have hc := h.2.1
  have ht := h.2.2.2.2.2
  have e1 : (aq_mn w (Q 10 7)).toInt = min w.toInt (Q 10 7).toInt := pu_mn _ _
  have e2 : (Q 10 7 - aq_mn w (Q 10 7)).toInt = (Q 10 7).toInt - (aq_mn w (Q 10 7)).toInt := pu_sub (by omega) (by omega)
  have e3 : (w - aq_mn w (Q 10 7)).toInt = w.toInt - (aq_mn w (Q 10 7)).toInt := pu_sub (by omega) (by omega)
  have h1 : pu_I n F C Th (aq_drink1 Q w) := pu_Iw h (by omega) (by omega)
  have h2 : pu_I n F C Th (aq_drink2 Q w) := pu_Ix h1 (by decide)
  have e4 : aq_drink2 Q w 10 12 = Q 10 12 := (aq_up_i _ _ (by decide)).trans (aq_up_i _ _ (by decide))
  have e5 : (aq_drink2 Q w 10 12 + (w - aq_mn w (Q 10 7))).toInt = (Q 10 12).toInt + (w - aq_mn w (Q 10 7)).toInt := by rw [e4]; exact pu_add (by omega) (by omega)
  refine ⟨pu_It h2 (by omega) (by omega), ?_, by omega, by omega⟩
  unfold aq_drinkQ
  rw [aq_up_s, e5]
theorem pu_slope {n i : Nat} {F C Th : Int} {Q : aq_Q} (h : pu_I n F C Th Q) : 0 ≤ (aq_slope n Q i).toInt ∧ (aq_slope n Q i).toInt ≤ 200 := by
  have hb := h.1 i
  unfold pu_b at hb
  have hb2 := h.1 (i + 1)
  unfold pu_b at hb2
  unfold aq_slope
  split
  · rename_i k
    have hs := h.2.2.1 i k
    rw [pu_sub (by omega) (by omega)]
    omega
  · rw [pu_sub (by rw [pu_0]; omega) (by rw [pu_0]; omega), pu_0]
    omega
theorem pu_sendI {n i : Nat} {F C Th : Int} {Q : aq_Q} (h : pu_I n F C Th Q) : pu_I n F C Th (aq_sendQ n Q i) := by
  rw [← pu_send]
  have hb := h.1 i
  unfold pu_b at hb
  have hs := pu_slope (i := i) h
  have r1 : (2 + aq_slope n Q i).toInt = 2 + (aq_slope n Q i).toInt := by rw [pu_add (by rw [pu_2]; omega) (by rw [pu_2]; omega), pu_2]
  have r2 : (aq_rate n Q i).toInt = min 30 (2 + (aq_slope n Q i).toInt) := by unfold aq_rate; rw [pu_mn, r1, pu_30]
  have g1 : (aq_sendG n Q i).toInt = min (Q 2 i).toInt (aq_rate n Q i).toInt := pu_mn _ _
  obtain ⟨m1, m2, m3⟩ := pu_mul (a := aq_sendG n Q i) (b := Q 7 i) (A := 30) (B := 10) (by omega) (by omega) (by omega) (by omega) (by decide)
  have m4 : (aq_sendG n Q i).toInt * (Q 7 i).toInt ≤ (aq_sendG n Q i).toInt * 10 := Int.mul_le_mul_of_nonneg_left (by omega) (by omega)
  have m5 : (aq_sendG n Q i * Q 7 i / 10).toInt = (aq_sendG n Q i * Q 7 i).toInt / 10 := pu_d10 (by omega)
  have t1 : (aq_mn (Q 6 i) (aq_sendG n Q i * Q 7 i / 10)).toInt = min (Q 6 i).toInt (aq_sendG n Q i * Q 7 i / 10).toInt := pu_mn _ _
  have h1 : pu_I n F C Th (aR_send1 n Q i) := pu_I9 h (by omega) (by omega)
  have e9 : aR_send1 n Q i 9 i = aq_mn (Q 6 i) (aq_sendG n Q i * Q 7 i / 10) := aq_up_s _ _ _ _
  have e2 : aR_send1 n Q i 2 i = Q 2 i := aq_up_f _ _ (by decide)
  have x1 : (aR_sendX n Q i).toInt = (aq_sendG n Q i).toInt - (aR_send1 n Q i 9 i).toInt := pu_sub (by rw [e9]; omega) (by rw [e9]; omega)
  rw [e9] at x1
  obtain ⟨p1, p2, p3⟩ := pu_pour (a := i + 1) h1 (w := aR_sendX n Q i) (by omega)
  have s1 : (aR_send1 n Q i 9 i + aq_pourR n (aR_send1 n Q i) (i + 1) (aR_sendX n Q i)).toInt = (aR_send1 n Q i 9 i).toInt + (aq_pourR n (aR_send1 n Q i) (i + 1) (aR_sendX n Q i)).toInt := pu_add (by rw [e9]; omega) (by rw [e9]; omega)
  rw [e9] at s1
  have s2 : (aR_send1 n Q i 2 i - (aR_send1 n Q i 9 i + aq_pourR n (aR_send1 n Q i) (i + 1) (aR_sendX n Q i))).toInt = (Q 2 i).toInt - (aR_send1 n Q i 9 i + aq_pourR n (aR_send1 n Q i) (i + 1) (aR_sendX n Q i)).toInt := by
    rw [e2]
    exact pu_sub (by rw [e9]; omega) (by rw [e9]; omega)
  rw [e9] at s2
  have z1 : aq_pourQ n (aR_send1 n Q i) (i + 1) (aR_sendX n Q i) 1 i = Q 1 i := (pu_po (by omega) (by omega)).trans (aq_up_f _ _ (by decide))
  refine pu_I2 p1 ?_ ?_
  · rw [e9]; omega
  · rw [e9, z1]; omega
theorem pu_sendAI {n : Nat} {F C Th : Int} : ∀ (i : Nat) {Q : aq_Q}, pu_I n F C Th Q → pu_I n F C Th (aq_sendAll n i Q)
  | 0, _, h => h
  | i + 1, _, h => pu_sendAI i (pu_sendI h)
theorem pu_grindI {n i : Nat} {F C Th : Int} {Q : aq_Q} (h : pu_I n F C Th Q) (hf : (Q 8 i).toInt + 30 ≤ F) (hF : F < 1000000000) (hC : C < 1000000000) : pu_I n F (C + 3) Th (aq_grindAtQ n Q i) := by
  rw [← pu_grind]
  have hb := h.1 i
  unfold pu_b at hb
  have hfl := h.2.2.2.1 i
  have hco := h.2.2.2.2.1
  have a1 : (Q 8 i + Q 9 i).toInt = (Q 8 i).toInt + (Q 9 i).toInt := pu_add (by omega) (by omega)
  have a2 : ((Q 8 i + Q 9 i) / 10).toInt = (Q 8 i + Q 9 i).toInt / 10 := pu_d10 (by omega)
  have a3 : (Q 8 i / 10).toInt = (Q 8 i).toInt / 10 := pu_d10 (by omega)
  have a4 : ((Q 8 i + Q 9 i) / 10 - Q 8 i / 10).toInt = ((Q 8 i + Q 9 i) / 10).toInt - (Q 8 i / 10).toInt := pu_sub (by omega) (by omega)
  have a5 : (Q 10 5 + ((Q 8 i + Q 9 i) / 10 - Q 8 i / 10)).toInt = (Q 10 5).toInt + ((Q 8 i + Q 9 i) / 10 - Q 8 i / 10).toInt := pu_add (by omega) (by omega)
  have h1 : pu_I n F (C + 3) Th (aR_grind1 Q i) := pu_Ic h (by omega) (by omega)
  have f8 : aR_grind1 Q i 8 i = Q 8 i := aq_up_f _ _ (by decide)
  have f9 : aR_grind1 Q i 9 i = Q 9 i := aq_up_f _ _ (by decide)
  have h2 : pu_I n F (C + 3) Th (aR_grind2 Q i) := by
    unfold aR_grind2
    rw [f8, f9]
    exact pu_I8 h1 (by omega) (by omega)
  have h3 : pu_I n F (C + 3) Th (aR_grind3 Q i) := pu_Ix h2 (by decide)
  have a6 : (Q 9 i / 2).toInt = (Q 9 i).toInt / 2 := pu_d2 (by omega)
  exact pu_Ix (pu_pour h3 (by omega)).1 (by decide)
theorem pu_grind8 {n i j : Nat} {Q : aq_Q} (hj : j ≠ i) : aq_grindAtQ n Q i 8 j = Q 8 j := by
  unfold aq_grindAtQ aq_backQ aq_coinQ aq_grindQ
  rw [pu_o (by omega), pu_o (by omega), pu_po (by omega) (by omega), pu_o (by omega), pu_o (by omega)]
theorem pu_grindAI {n : Nat} {F0 F Th : Int} (hF : F0 + 30 ≤ F) (hF1 : F < 1000000000) : ∀ (k i : Nat) {C : Int} {Q : aq_Q}, C + 3 * (k : Int) < 1000000000 → pu_I n F C Th Q → (∀ j, i ≤ j → (Q 8 j).toInt ≤ F0) → pu_I n F (C + 3 * (k : Int)) Th (aq_grindAll n k i Q)
  | 0, i, C, Q, _, h, _ => pu_mono (Int.le_refl _) (by omega) (Int.le_refl _) h
  | k + 1, i, C, Q, hC, h, hf => by
    rw [aq_grindAll]
    have h1 := pu_grindI (i := i) h (by have := hf i (Nat.le_refl i); omega) hF1 (by omega)
    have h2 := pu_grindAI hF hF1 k (i + 1) (C := C + 3) (Q := aq_grindAtQ n Q i) (by omega) h1 (fun j hj => by rw [pu_grind8 (by omega)]; exact hf j (by omega))
    exact pu_mono (Int.le_refl _) (by omega) (Int.le_refl _) h2
theorem pu_springI {n : Nat} {F C Th : Int} {Q : aq_Q} {w : Int32} (h : pu_I n F C Th Q) (w0 : 0 ≤ w.toInt) : pu_I n F C Th (aq_springQ n Q w) := by
  have h1 : pu_I n F C Th (aq_giveQ Q w) := pu_Ix h (by decide)
  unfold aq_springQ
  split
  · exact pu_Ix h1 (by decide)
  · exact pu_Ix (pu_fill h1 w0).1 (by decide)
theorem pu_leakI {n i : Nat} {F C Th : Int} {Q : aq_Q} (h : pu_I n F C Th Q) : pu_I n F C Th (aq_leakQ Q i) := by
  have hb := h.1 i
  unfold pu_b at hb
  obtain ⟨m1, m2, m3⟩ := pu_mul (a := Q 2 i) (b := Q 3 i) (A := 40) (B := 50) (by omega) (by omega) (by omega) (by omega) (by decide)
  have d1 : (Q 2 i * Q 3 i / 10).toInt = (Q 2 i * Q 3 i).toInt / 10 := pu_d10 (by omega)
  have d2 : (Q 4 i + Q 2 i * Q 3 i / 10).toInt = (Q 4 i).toInt + (Q 2 i * Q 3 i / 10).toInt := pu_add (by omega) (by omega)
  have e4 : aq_leak1 Q i 4 i = Q 4 i + Q 2 i * Q 3 i / 10 := aq_up_s _ _ _ _
  have e2 : aq_leak1 Q i 2 i = Q 2 i := aq_up_f _ _ (by decide)
  obtain ⟨x, hx⟩ : ∃ x, x = Q 4 i + Q 2 i * Q 3 i / 10 := ⟨_, rfl⟩
  rw [← hx] at d2 e4
  have d3 : (x / 10).toInt = x.toInt / 10 := pu_d10 (by omega)
  have l1 : (aq_lost Q i).toInt = min (x / 10).toInt (Q 2 i).toInt := by unfold aq_lost; rw [e4, e2, pu_mn]
  obtain ⟨n1, n2, n3⟩ := pu_mul (a := x / 10) (b := 10) (A := 100) (B := 10) (by omega) (by omega) (by rw [pu_10]; omega) (by rw [pu_10]; omega) (by decide)
  rw [pu_10] at n1
  have d4 : (x - x / 10 * 10).toInt = x.toInt - (x / 10 * 10).toInt := pu_sub (by omega) (by omega)
  have q2 : aq_leak2 Q i = aq_up Q 4 i (x - x / 10 * 10) := by
    unfold aq_leak2
    rw [e4]
    unfold aq_leak1
    exact pu_uu _ _ _ _ _
  have h2 : pu_I n F C Th (aq_leak2 Q i) := by rw [q2]; exact pu_I4 h (by omega) (by omega)
  have e22 : aq_leak2 Q i 2 i = Q 2 i := by rw [q2]; exact aq_up_f _ _ (by decide)
  have e21 : aq_leak2 Q i 1 i = Q 1 i := by rw [q2]; exact aq_up_f _ _ (by decide)
  have d5 : (aq_leak2 Q i 2 i - aq_lost Q i).toInt = (Q 2 i).toInt - (aq_lost Q i).toInt := by rw [e22]; exact pu_sub (by omega) (by omega)
  have h3 : pu_I n F C Th (aq_leak3 Q i) := pu_I2 h2 (by omega) (by rw [e21]; omega)
  exact pu_I5 h3
theorem pu_leakAI {n : Nat} {F C Th : Int} : ∀ (k i : Nat) {Q : aq_Q}, pu_I n F C Th Q → pu_I n F C Th (aq_leakAll k i Q)
  | 0, _, _, h => h
  | k + 1, i, _, h => pu_leakAI k (i + 1) (pu_leakI h)
theorem pu_wbI {n i : Nat} {F C Th : Int} {Q : aq_Q} {x : Int32} (h : pu_I n F C Th Q) (x0 : 0 ≤ x.toInt) (x1 : x.toInt ≤ 50) : pu_I n F C Th (aq_wearByQ Q i x) := by
  have hb := h.1 i
  unfold pu_b at hb
  have a1 : (Q 3 i + x).toInt = (Q 3 i).toInt + x.toInt := pu_add (by omega) (by omega)
  have a2 : (aq_mn 50 (Q 3 i + x)).toInt = min 50 (Q 3 i + x).toInt := by rw [pu_mn, pu_50]
  exact pu_I3 h (by omega) (by omega)
theorem pu_wearI {n i : Nat} {F C Th : Int} {Q : aq_Q} (h : pu_I n F C Th Q) : pu_I n F C Th (aq_wearDayQ Q i) := by
  unfold aq_wearDayQ
  split
  · exact h
  · split
    · exact pu_wbI h (by decide) (by decide)
    · exact pu_wbI h (by decide) (by decide)
theorem pu_wearAI {n : Nat} {F C Th : Int} : ∀ (k i : Nat) {Q : aq_Q}, pu_I n F C Th Q → pu_I n F C Th (aq_wearAll k i Q)
  | 0, _, _, h => h
  | k + 1, i, _, h => pu_wearAI k (i + 1) (pu_wearI h)
theorem pu_lnk {n i : Nat} {F C Th : Int} {Q : aq_Q} (h : pu_I n F C Th Q) : Q 7 i ≤ 0 ∨ ¬ Q 6 i ≤ 0 := by
  have hb := h.1 i
  unfold pu_b at hb
  rw [pu_le0, pu_le0]
  omega
theorem pu_wearA {n : Nat} {F C Th : Int} {d : Nat} : ∀ (k i : Nat) {Q : aq_Q}, pu_I n F C Th Q → aR_wearAll d k i Q = if d = 23 then aq_wearAll k i Q else Q
  | 0, _, _, _ => by
    rw [aR_wearAll]
    split
    · rfl
    · rfl
  | k + 1, i, Q, h => by
    rw [aR_wearAll]
    by_cases hd : d = 23
    · rw [if_pos hd, if_pos hd, pu_wear (pu_lnk h), pu_wearA k (i + 1) (pu_wearI h), if_pos hd]
      rfl
    · rw [if_neg hd, if_neg hd]
/-- what an hour leaves as it was, and the bounds behind it -/
theorem pu_hour5I {n d : Nat} {F C Th : Int} {T Q : aq_Q} (hn : n ≤ 20) (h : pu_I n F C Th Q) (hT : ∀ t k, 0 ≤ (T t k).toInt ∧ (T t k).toInt ≤ 40) (hF : F + 30 < 1000000000) (hC : C + 60 < 1000000000) (hTh : Th < 1000000000) : pu_I n (F + 30) (C + 60) (Th + 40) (aq_hour5 n T d Q) := by
  have h1 := (pu_drink h (hT 1 d).1 (hT 1 d).2 hTh).1
  have h8 : ∀ j, (aq_sendAll n n (aq_drinkQ Q (T 1 d)) 8 j).toInt ≤ F := fun j => ((pu_sendAI n h1).2.2.2.1 j).2
  have h2 : pu_I n (F + 30) C (Th + 40) (aq_sendAll n n (aq_drinkQ Q (T 1 d))) := pu_mono (by omega) (Int.le_refl _) (Int.le_refl _) (pu_sendAI n h1)
  have h3 := pu_grindAI (F0 := F) (Int.le_refl _) hF n 0 (C := C) (by omega) h2 (fun j _ => h8 j)
  have h4 : pu_I n (F + 30) (C + 60) (Th + 40) (aq_grindAll n n 0 (aq_sendAll n n (aq_drinkQ Q (T 1 d)))) := pu_mono (Int.le_refl _) (by omega) (Int.le_refl _) h3
  exact pu_leakAI n 0 (pu_springI h4 (hT 0 d).1)
theorem pu_hour {n d : Nat} {F C Th : Int} {T Q : aq_Q} (hn : n ≤ 20) (h : pu_I n F C Th Q) (hT : ∀ t k, 0 ≤ (T t k).toInt ∧ (T t k).toInt ≤ 40) (hF : F + 30 < 1000000000) (hC : C + 60 < 1000000000) (hTh : Th < 1000000000) : aR_hourD n T d Q = aq_hourD n T d Q ∧ pu_I n (F + 30) (C + 60) (Th + 40) (aq_hourD n T d Q) := by
  have h5 := pu_hour5I (d := d) hn h hT hF hC hTh
  have e6 : aR_hour6 n T d Q = aq_hour6 n T d Q := by
    unfold aR_hour6 aq_hour6
    rw [pu_hour5, pu_wearA n 0 h5]
  refine ⟨?_, ?_⟩
  · unfold aR_hourD aq_hourD
    rw [e6]
  · refine pu_Ix ?_ (by decide)
    unfold aq_hour6
    split
    · exact pu_wearAI n 0 h5
    · exact h5
