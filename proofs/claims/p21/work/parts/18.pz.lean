/-! what is where: the water of an aqueduct, summed over its arches; flour and coins -/
def pz_s (f : Nat → Int32) : Nat → Int | 0 => 0 | k + 1 => pz_s f k + (f k).toInt
theorem pz_ss (f : Nat → Int32) (k : Nat) : pz_s f (k + 1) = pz_s f k + (f k).toInt := rfl
theorem pz_s0 (f : Nat → Int32) : pz_s f 0 = 0 := rfl
theorem pz_one {f g : Nat → Int32} {i : Nat} (h : ∀ j, j ≠ i → g j = f j) : ∀ n, pz_s g n = pz_s f n + (if i < n then (g i).toInt - (f i).toInt else 0)
  | 0 => by
    rw [if_neg (Nat.not_lt_zero i), pz_s0, pz_s0]
    rfl
  | n + 1 => by
    rw [pz_ss, pz_ss, pz_one h n]
    by_cases hi : i < n
    · rw [if_pos hi, if_pos (by omega), h n (by omega)]
      omega
    · rw [if_neg hi]
      by_cases h2 : i = n
      · subst h2
        rw [if_pos (by omega)]
        omega
      · rw [if_neg (by omega), h n (by omega)]
        omega
theorem pz_cg {f g : Nat → Int32} : ∀ n, (∀ j, j < n → g j = f j) → pz_s g n = pz_s f n
  | 0, _ => rfl
  | n + 1, h => by rw [pz_ss, pz_ss, pz_cg n (fun j hj => h j (by omega)), h n (by omega)]
theorem pz_pos {f : Nat → Int32} : ∀ n, (∀ j, 0 ≤ (f j).toInt) → 0 ≤ pz_s f n
  | 0, _ => Int.le_refl _
  | n + 1, h => by
    have h1 := pz_pos n h
    have h2 := h n
    rw [pz_ss]
    omega
theorem pz_mono {f : Nat → Int32} {k : Nat} : ∀ n, (∀ j, 0 ≤ (f j).toInt) → k ≤ n → pz_s f k ≤ pz_s f n
  | 0, _, hk => by
    obtain rfl : k = 0 := by omega
    exact Int.le_refl _
  | n + 1, h, hk => by
    have h2 := h n
    by_cases c : k = n + 1
    · subst c
      exact Int.le_refl _
    · have h1 := pz_mono n h (k := k) (by omega)
      rw [pz_ss]
      omega
theorem pz_le {f : Nat → Int32} {i n : Nat} (h : ∀ j, 0 ≤ (f j).toInt) (hi : i < n) : (f i).toInt ≤ pz_s f n := by
  have h1 := pz_mono (k := i + 1) n h hi
  have h2 := pz_pos i h
  rw [pz_ss] at h1
  omega
/-- the class's own sums -/
theorem pz_sum {f : Nat → Int32} (h : ∀ j, 0 ≤ (f j).toInt) : ∀ (k i : Nat) (x : Int32), 0 ≤ x.toInt → x.toInt + (pz_s f (i + k) - pz_s f i) < 2147483648 → (aq_sum f k i x).toInt = x.toInt + (pz_s f (i + k) - pz_s f i)
  | 0, i, x, _, _ => by
    show x.toInt = x.toInt + (pz_s f i - pz_s f i)
    omega
  | k + 1, i, x, hx, hb => by
    have h1 := pz_mono (k := i + 1) (i + (k + 1)) h (by omega)
    rw [pz_ss] at h1
    have h2 := h i
    have e : (x + f i).toInt = x.toInt + (f i).toInt := pu_add (by omega) (by omega)
    have e2 : i + (k + 1) = i + 1 + k := by omega
    rw [aq_sum, pz_sum h k (i + 1) (x + f i) (by omega) (by rw [e, ← e2, pz_ss]; omega), e, ← e2, pz_ss]
    omega
theorem pz_over {n f : Nat} {Q : aq_Q} (h : ∀ j, 0 ≤ (Q f j).toInt) (hb : pz_s (Q f) n < 2147483648) : (aq_over n f Q).toInt = pz_s (Q f) n := by
  have := pz_sum h n 0 0 (by decide) (by rw [Nat.zero_add, pz_s0, pu_0]; omega)
  rw [Nat.zero_add, pz_s0, pu_0] at this
  unfold aq_over
  omega
/-! rows that a step leaves -/
theorem pz_row {Q : aq_Q} {f i g : Nat} {v : Int32} (h : g ≠ f) : aq_up Q f i v g = Q g := funext fun _ => aq_up_f _ _ h
theorem pz_porow {n a : Nat} {w : Int32} {Q : aq_Q} {f : Nat} (h2 : f ≠ 2) (h10 : f ≠ 10) : aq_pourQ n Q a w f = Q f := by
  unfold aq_pourQ
  split
  · exact pz_row h2
  · exact pz_row h10
theorem pz_po10 {n a : Nat} {w : Int32} {Q : aq_Q} {k : Nat} (hk : k ≠ 7) : aq_pourQ n Q a w 10 k = Q 10 k := pu_po (Or.inl (by decide)) (Or.inr hk)
theorem pz_pour {n a : Nat} {F C Th : Int} {Q : aq_Q} {w : Int32} (h : pu_I n F C Th Q) (w0 : 0 ≤ w.toInt) : pz_s (aq_pourQ n Q a w 2) n + (aq_pourQ n Q a w 10 7).toInt = pz_s (Q 2) n + (Q 10 7).toInt + (aq_pourR n Q a w).toInt := by
  unfold aq_pourQ aq_pourR
  by_cases k : a < n
  · rw [if_pos k, if_pos k]
    have hb := h.1 a
    unfold pu_b at hb
    have e1 : (Q 1 a - Q 2 a).toInt = (Q 1 a).toInt - (Q 2 a).toInt := pu_sub (by omega) (by omega)
    have e2 : (aq_fillR Q a w).toInt = min w.toInt ((Q 1 a).toInt - (Q 2 a).toInt) := by unfold aq_fillR; rw [pu_mn, e1]
    have e3 : (Q 2 a + aq_fillR Q a w).toInt = (Q 2 a).toInt + (aq_fillR Q a w).toInt := pu_add (by omega) (by omega)
    have s1 := pz_one (f := Q 2) (g := aq_fillQ Q a w 2) (i := a) (fun j hj => aq_up_i _ _ hj) n
    have v1 : aq_fillQ Q a w 2 a = Q 2 a + aq_fillR Q a w := aq_up_s _ _ _ _
    have c1 : aq_fillQ Q a w 10 7 = Q 10 7 := aq_up_f _ _ (by decide)
    rw [if_pos k, v1, e3] at s1
    rw [c1]
    omega
  · rw [if_neg k, if_neg k]
    have hc := h.2.1
    have e1 : (Q 10 6 - Q 10 7).toInt = (Q 10 6).toInt - (Q 10 7).toInt := pu_sub (by omega) (by omega)
    have e2 : (aq_mn w (Q 10 6 - Q 10 7)).toInt = min w.toInt ((Q 10 6).toInt - (Q 10 7).toInt) := by rw [pu_mn, e1]
    have e3 : (Q 10 7 + aq_mn w (Q 10 6 - Q 10 7)).toInt = (Q 10 7).toInt + (aq_mn w (Q 10 6 - Q 10 7)).toInt := pu_add (by omega) (by omega)
    have r1 : aq_up Q 10 7 (Q 10 7 + aq_mn w (Q 10 6 - Q 10 7)) 2 = Q 2 := pz_row (by decide)
    rw [r1, aq_up_s, e3]
    omega
/-- an arch sends on -/
theorem pz_sendP {n i : Nat} {F C Th : Int} {Q : aq_Q} (h : pu_I n F C Th Q) (hi : i < n) :
    0 ≤ (aq_sendQ n Q i 9 i).toInt ∧ (aq_sendQ n Q i 9 i).toInt ≤ (Q 6 i).toInt ∧ pz_s (aq_sendQ n Q i 2) n + (aq_sendQ n Q i 10 7).toInt + (aq_sendQ n Q i 9 i).toInt = pz_s (Q 2) n + (Q 10 7).toInt ∧ (∀ j, j ≠ i → aq_sendQ n Q i 9 j = Q 9 j) ∧ (∀ f, f ≠ 2 → f ≠ 9 → f ≠ 10 → aq_sendQ n Q i f = Q f) ∧ (∀ k, k ≠ 7 → aq_sendQ n Q i 10 k = Q 10 k) := by
  have hb := h.1 i
  unfold pu_b at hb
  have hs := pu_slope (i := i) h
  have r1 : (2 + aq_slope n Q i).toInt = 2 + (aq_slope n Q i).toInt := by rw [pu_add (by rw [pu_2]; omega) (by rw [pu_2]; omega), pu_2]
  have r2 : (aq_rate n Q i).toInt = min 30 (2 + (aq_slope n Q i).toInt) := by unfold aq_rate; rw [pu_mn, r1, pu_30]
  have g1 : (aq_sendG n Q i).toInt = min (Q 2 i).toInt (aq_rate n Q i).toInt := pu_mn _ _
  obtain ⟨m1, m2, m3⟩ := pu_mul (a := aq_sendG n Q i) (b := Q 7 i) (A := 30) (B := 10) (by omega) (by omega) (by omega) (by omega) (by decide)
  have m4 : (aq_sendG n Q i).toInt * (Q 7 i).toInt ≤ (aq_sendG n Q i).toInt * 10 := Int.mul_le_mul_of_nonneg_left (by omega) (by omega)
  have m5 : (aq_sendG n Q i * Q 7 i / 10).toInt = (aq_sendG n Q i * Q 7 i).toInt / 10 := pu_d10 (by omega)
  have t1 : (aq_mn (aq_sendG n Q i * Q 7 i / 10) (Q 6 i)).toInt = min (aq_sendG n Q i * Q 7 i / 10).toInt (Q 6 i).toInt := pu_mn _ _
  obtain ⟨t, ht⟩ : ∃ t, t = aq_mn (aq_sendG n Q i * Q 7 i / 10) (Q 6 i) := ⟨_, rfl⟩
  rw [← ht] at t1
  have eQ1 : aq_send1 n Q i = aq_up (aq_up Q 9 i t) 2 i (Q 2 i - t) := by
    unfold aq_send1 aq_leadQ aq_leadQ1
    rw [← ht, aq_up_s, aq_up_f _ _ (show (2 : Nat) ≠ 9 by decide)]
  have eR : aq_sendR n Q i = aq_sendG n Q i - t := by
    unfold aq_sendR aq_leadR
    have e0 : aq_leadQ Q i (aq_sendG n Q i) = aq_send1 n Q i := rfl
    rw [e0, eQ1, aq_up_f _ _ (show (9 : Nat) ≠ 2 by decide), aq_up_s]
  have s1 : (Q 2 i - t).toInt = (Q 2 i).toInt - t.toInt := pu_sub (by omega) (by omega)
  have h1 : pu_I n F C Th (aq_send1 n Q i) := by
    rw [eQ1]
    refine pu_I2 (pu_I9 h (by omega) (by omega)) (by omega) ?_
    rw [aq_up_f _ _ (show (1 : Nat) ≠ 9 by decide)]
    omega
  have x1 : (aq_sendR n Q i).toInt = (aq_sendG n Q i).toInt - t.toInt := by rw [eR]; exact pu_sub (by omega) (by omega)
  obtain ⟨p1, p2, p3⟩ := pu_pour (a := i + 1) h1 (w := aq_sendR n Q i) (by omega)
  have ps := pz_pour (a := i + 1) h1 (w := aq_sendR n Q i) (by omega)
  obtain ⟨P, hP⟩ : ∃ P, P = aq_pourQ n (aq_send1 n Q i) (i + 1) (aq_sendR n Q i) := ⟨_, rfl⟩
  obtain ⟨p, hp⟩ : ∃ p, p = aq_pourR n (aq_send1 n Q i) (i + 1) (aq_sendR n Q i) := ⟨_, rfl⟩
  have eQ : aq_sendQ n Q i = aq_up P 2 i (aq_send1 n Q i 2 i - p) := by unfold aq_sendQ; rw [← hP, ← hp]
  rw [← hP, ← hp] at ps
  rw [← hp] at p2 p3
  have e12 : aq_send1 n Q i 2 i = Q 2 i - t := by rw [eQ1, aq_up_s]
  have eP2 : P 2 i = Q 2 i - t := by rw [hP, pu_po (Or.inr (by omega)) (Or.inl (by decide)), e12]
  have s2 : (aq_send1 n Q i 2 i - p).toInt = (Q 2 i).toInt - t.toInt - p.toInt := by rw [e12, pu_sub (by omega) (by omega), s1]
  have z1 := pz_one (f := P 2) (g := aq_sendQ n Q i 2) (i := i) (fun j hj => by rw [eQ, aq_up_i _ _ hj]) n
  rw [if_pos hi, eP2, s1] at z1
  have z3 : (aq_sendQ n Q i 2 i).toInt = (Q 2 i).toInt - t.toInt - p.toInt := by rw [eQ, aq_up_s, s2]
  have z2 := pz_one (f := Q 2) (g := aq_send1 n Q i 2) (i := i) (fun j hj => by rw [eQ1, aq_up_i _ _ hj, aq_up_f _ _ (show (2 : Nat) ≠ 9 by decide)]) n
  rw [if_pos hi, e12, s1] at z2
  have c1 : aq_send1 n Q i 10 7 = Q 10 7 := by rw [eQ1, aq_up_f _ _ (show (10 : Nat) ≠ 2 by decide), aq_up_f _ _ (show (10 : Nat) ≠ 9 by decide)]
  rw [c1] at ps
  have e9 : aq_sendQ n Q i 9 i = t := by rw [eQ, aq_up_f _ _ (show (9 : Nat) ≠ 2 by decide), hP, pu_po (Or.inl (by decide)) (Or.inl (by decide)), eQ1, aq_up_f _ _ (show (9 : Nat) ≠ 2 by decide), aq_up_s]
  have e7 : aq_sendQ n Q i 10 7 = P 10 7 := by rw [eQ, aq_up_f _ _ (show (10 : Nat) ≠ 2 by decide)]
  refine ⟨by rw [e9]; omega, by rw [e9]; omega, by rw [e9, e7]; omega, fun j hj => ?_, fun f f2 f9 f10 => ?_, fun k hk => ?_⟩
  · rw [eQ, aq_up_f _ _ (show (9 : Nat) ≠ 2 by decide), hP, pu_po (Or.inl (by decide)) (Or.inl (by decide)), eQ1, aq_up_f _ _ (show (9 : Nat) ≠ 2 by decide), aq_up_i _ _ hj]
  · rw [eQ, pz_row f2, hP, pz_porow f2 f10, eQ1, pz_row f2, pz_row f9]
  · rw [eQ, aq_up_f _ _ (show (10 : Nat) ≠ 2 by decide), hP, pz_po10 hk, eQ1, aq_up_f _ _ (show (10 : Nat) ≠ 2 by decide), aq_up_f _ _ (show (10 : Nat) ≠ 9 by decide)]
/-- a mill grinds -/
theorem pz_grindP {n i : Nat} {F C Th : Int} {Q : aq_Q} (h : pu_I n F C Th Q) (hf : (Q 8 i).toInt + 30 ≤ F) (hF : F < 1000000000) (hC : C < 1000000000) (hs0 : 0 ≤ (Q 10 9).toInt) (hs : (Q 10 9).toInt < 1000000000) (hu0 : 0 ≤ (Q 10 10).toInt) (hu : (Q 10 10).toInt < 1000000000) :
    (pz_s (aq_grindAtQ n Q i 2) n + (aq_grindAtQ n Q i 10 7).toInt + (aq_grindAtQ n Q i 10 9).toInt = pz_s (Q 2) n + (Q 10 7).toInt + (Q 10 9).toInt + (Q 9 i).toInt / 2 ∧ (Q 10 9).toInt ≤ (aq_grindAtQ n Q i 10 9).toInt ∧ (aq_grindAtQ n Q i 10 10).toInt = (Q 10 10).toInt + ((Q 9 i).toInt - (Q 9 i).toInt / 2) ∧ (aq_grindAtQ n Q i 8 i).toInt = (Q 8 i).toInt + (Q 9 i).toInt ∧ (aq_grindAtQ n Q i 10 5).toInt = (Q 10 5).toInt + (((Q 8 i).toInt + (Q 9 i).toInt) / 10 - (Q 8 i).toInt / 10)) ∧
    (∀ j, j ≠ i → aq_grindAtQ n Q i 8 j = Q 8 j) ∧ (∀ f, f ≠ 2 → f ≠ 8 → f ≠ 10 → aq_grindAtQ n Q i f = Q f) ∧ aq_grindAtQ n Q i 10 8 = Q 10 8 ∧ aq_grindAtQ n Q i 10 11 = Q 10 11 := by
  have hb := h.1 i
  unfold pu_b at hb
  have hfl := h.2.2.2.1 i
  have hco := h.2.2.2.2.1
  have a1 : (Q 8 i + Q 9 i).toInt = (Q 8 i).toInt + (Q 9 i).toInt := pu_add (by omega) (by omega)
  have a2 : ((Q 8 i + Q 9 i) / 10).toInt = (Q 8 i + Q 9 i).toInt / 10 := pu_d10 (by omega)
  have a3 : (Q 8 i / 10).toInt = (Q 8 i).toInt / 10 := pu_d10 (by omega)
  have a4 : ((Q 8 i + Q 9 i) / 10 - Q 8 i / 10).toInt = ((Q 8 i + Q 9 i) / 10).toInt - (Q 8 i / 10).toInt := pu_sub (by omega) (by omega)
  have a5 : (Q 10 5 + ((Q 8 i + Q 9 i) / 10 - Q 8 i / 10)).toInt = (Q 10 5).toInt + ((Q 8 i + Q 9 i) / 10 - Q 8 i / 10).toInt := pu_add (by omega) (by omega)
  have a6 : (Q 9 i / 2).toInt = (Q 9 i).toInt / 2 := pu_d2 (by omega)
  have eC : aq_coinQ Q i = aq_up (aq_up Q 8 i (Q 8 i + Q 9 i)) 10 5 (Q 10 5 + ((Q 8 i + Q 9 i) / 10 - Q 8 i / 10)) := by
    unfold aq_coinQ aq_grindR aq_grindQ
    rw [aq_up_s]
  have hI : pu_I n F (C + 3) Th (aq_coinQ Q i) := by
    rw [eC]
    exact pu_Ic (pu_I8 h (by omega) (by omega)) (by omega) (by omega)
  obtain ⟨p1, p2, p3⟩ := pu_pour (a := i + 2) hI (w := Q 9 i / 2) (by omega)
  have ps := pz_pour (a := i + 2) hI (w := Q 9 i / 2) (by omega)
  obtain ⟨P, hP⟩ : ∃ P, P = aq_pourQ n (aq_coinQ Q i) (i + 2) (Q 9 i / 2) := ⟨_, rfl⟩
  obtain ⟨p, hp⟩ : ∃ p, p = aq_pourR n (aq_coinQ Q i) (i + 2) (Q 9 i / 2) := ⟨_, rfl⟩
  rw [← hP, ← hp] at ps
  rw [← hp] at p2 p3
  have c9 : aq_coinQ Q i 10 9 = Q 10 9 := by rw [eC, aq_up_i _ _ (show (9 : Nat) ≠ 5 by decide), aq_up_f _ _ (show (10 : Nat) ≠ 8 by decide)]
  have c7 : aq_coinQ Q i 10 7 = Q 10 7 := by rw [eC, aq_up_i _ _ (show (7 : Nat) ≠ 5 by decide), aq_up_f _ _ (show (10 : Nat) ≠ 8 by decide)]
  have c2 : aq_coinQ Q i 2 = Q 2 := by rw [eC, pz_row (show (2 : Nat) ≠ 10 by decide), pz_row (show (2 : Nat) ≠ 8 by decide)]
  rw [c7, c2] at ps
  have eB : aq_backQ n Q i = aq_up P 10 9 (Q 10 9 + (Q 9 i / 2 - p)) := by unfold aq_backQ; rw [← hP, ← hp, c9]
  have b10 : aq_backQ n Q i 10 10 = Q 10 10 := by rw [eB, aq_up_i _ _ (show (10 : Nat) ≠ 9 by decide), hP, pz_po10 (by decide), eC, aq_up_i _ _ (show (10 : Nat) ≠ 5 by decide), aq_up_f _ _ (show (10 : Nat) ≠ 8 by decide)]
  have b9 : aq_backQ n Q i 9 i = Q 9 i := by rw [eB, aq_up_f _ _ (show (9 : Nat) ≠ 10 by decide), hP, pu_po (Or.inl (by decide)) (Or.inl (by decide)), eC, aq_up_f _ _ (show (9 : Nat) ≠ 10 by decide), aq_up_f _ _ (show (9 : Nat) ≠ 8 by decide)]
  have eG : aq_grindAtQ n Q i = aq_up (aq_up P 10 9 (Q 10 9 + (Q 9 i / 2 - p))) 10 10 (Q 10 10 + (Q 9 i - Q 9 i / 2)) := by
    unfold aq_grindAtQ
    rw [b10, b9, eB]
  have v1 : (Q 9 i / 2 - p).toInt = (Q 9 i / 2).toInt - p.toInt := pu_sub (by omega) (by omega)
  have v2 : (Q 10 9 + (Q 9 i / 2 - p)).toInt = (Q 10 9).toInt + (Q 9 i / 2 - p).toInt := pu_add (by omega) (by omega)
  have v3 : (Q 9 i - Q 9 i / 2).toInt = (Q 9 i).toInt - (Q 9 i / 2).toInt := pu_sub (by omega) (by omega)
  have v4 : (Q 10 10 + (Q 9 i - Q 9 i / 2)).toInt = (Q 10 10).toInt + (Q 9 i - Q 9 i / 2).toInt := pu_add (by omega) (by omega)
  have g2 : aq_grindAtQ n Q i 2 = P 2 := by rw [eG, pz_row (show (2 : Nat) ≠ 10 by decide), pz_row (show (2 : Nat) ≠ 10 by decide)]
  have g7 : aq_grindAtQ n Q i 10 7 = P 10 7 := by rw [eG, aq_up_i _ _ (show (7 : Nat) ≠ 10 by decide), aq_up_i _ _ (show (7 : Nat) ≠ 9 by decide)]
  have g9 : aq_grindAtQ n Q i 10 9 = Q 10 9 + (Q 9 i / 2 - p) := by rw [eG, aq_up_i _ _ (show (9 : Nat) ≠ 10 by decide), aq_up_s]
  have g10 : aq_grindAtQ n Q i 10 10 = Q 10 10 + (Q 9 i - Q 9 i / 2) := by rw [eG, aq_up_s]
  have g8 : aq_grindAtQ n Q i 8 = aq_up Q 8 i (Q 8 i + Q 9 i) 8 := by rw [eG, pz_row (show (8 : Nat) ≠ 10 by decide), pz_row (show (8 : Nat) ≠ 10 by decide), hP, pz_porow (by decide) (by decide), eC, pz_row (show (8 : Nat) ≠ 10 by decide)]
  have gk : ∀ k, k ≠ 5 → k ≠ 7 → k ≠ 9 → k ≠ 10 → aq_grindAtQ n Q i 10 k = Q 10 k := fun k k5 k7 k9 k10 => by rw [eG, aq_up_i _ _ k10, aq_up_i _ _ k9, hP, pz_po10 k7, eC, aq_up_i _ _ k5, aq_up_f _ _ (show (10 : Nat) ≠ 8 by decide)]
  have g5 : aq_grindAtQ n Q i 10 5 = Q 10 5 + ((Q 8 i + Q 9 i) / 10 - Q 8 i / 10) := by rw [eG, aq_up_i _ _ (show (5 : Nat) ≠ 10 by decide), aq_up_i _ _ (show (5 : Nat) ≠ 9 by decide), hP, pz_po10 (by decide), eC, aq_up_s]
  refine ⟨⟨?_, ?_, ?_, ?_, ?_⟩, fun j hj => ?_, fun f f2 f8 f10 => ?_, gk 8 (by decide) (by decide) (by decide) (by decide), gk 11 (by decide) (by decide) (by decide) (by decide)⟩
  · rw [g2, g7, g9]
    omega
  · rw [g9]
    omega
  · rw [g10]
    omega
  · rw [g8, aq_up_s]
    omega
  · rw [g5]
    omega
  · rw [g8, aq_up_i _ _ hj]
  · rw [eG, pz_row f10, pz_row f10, hP, pz_porow f2 f10, eC, pz_row f10, pz_row f8]
/-- the spring gives -/
theorem pz_springP {n : Nat} {F C Th : Int} {Q : aq_Q} {w : Int32} (h : pu_I n F C Th Q) (w0 : 0 ≤ w.toInt) (w4 : w.toInt ≤ 40) (hs0 : 0 ≤ (Q 10 9).toInt) (hs : (Q 10 9).toInt < 1000000000) (hg0 : 0 ≤ (Q 10 8).toInt) (hg : (Q 10 8).toInt < 1000000000) :
    (pz_s (aq_springQ n Q w 2) n + (aq_springQ n Q w 10 7).toInt + (aq_springQ n Q w 10 9).toInt = pz_s (Q 2) n + (Q 10 7).toInt + (Q 10 9).toInt + w.toInt ∧ (Q 10 9).toInt ≤ (aq_springQ n Q w 10 9).toInt ∧ (aq_springQ n Q w 10 8).toInt = (Q 10 8).toInt + w.toInt) ∧
    (∀ f, f ≠ 2 → f ≠ 10 → aq_springQ n Q w f = Q f) ∧ (∀ k, k ≠ 7 → k ≠ 8 → k ≠ 9 → aq_springQ n Q w 10 k = Q 10 k) := by
  have h1 : pu_I n F C Th (aq_giveQ Q w) := pu_Ix h (by decide)
  have a1 : (Q 10 8 + w).toInt = (Q 10 8).toInt + w.toInt := pu_add (by omega) (by omega)
  have d2 : aq_giveQ Q w 2 = Q 2 := pz_row (by decide)
  have d7 : aq_giveQ Q w 10 7 = Q 10 7 := aq_up_i _ _ (by decide)
  have d9 : aq_giveQ Q w 10 9 = Q 10 9 := aq_up_i _ _ (by decide)
  by_cases k0 : n = 0
  · have eS : aq_springQ n Q w = aq_up (aq_giveQ Q w) 10 9 (Q 10 9 + (w - 0)) := by unfold aq_springQ; rw [if_pos k0, d9]
    have v1 : (w - 0).toInt = w.toInt := by rw [Int32.sub_zero]
    have v2 : (Q 10 9 + (w - 0)).toInt = (Q 10 9).toInt + (w - 0).toInt := pu_add (by omega) (by omega)
    refine ⟨⟨?_, ?_, ?_⟩, fun f f2 f10 => ?_, fun k k7 k8 k9 => ?_⟩
    · rw [eS, pz_row (show (2 : Nat) ≠ 10 by decide), aq_up_i _ _ (show (7 : Nat) ≠ 9 by decide), aq_up_s, d2, d7]
      omega
    · rw [eS, aq_up_s]
      omega
    · rw [eS, aq_up_i _ _ (show (8 : Nat) ≠ 9 by decide)]
      exact (congrArg Int32.toInt (aq_up_s _ _ _ _)).trans a1
    · rw [eS, pz_row f10]
      exact pz_row f10
    · rw [eS, aq_up_i _ _ k9]
      exact aq_up_i _ _ k8
  · have ef : aq_fillQ (aq_giveQ Q w) 0 w = aq_pourQ n (aq_giveQ Q w) 0 w := (if_pos (by omega)).symm
    have er : aq_fillR (aq_giveQ Q w) 0 w = aq_pourR n (aq_giveQ Q w) 0 w := (if_pos (by omega)).symm
    obtain ⟨p1, p2, p3⟩ := pu_pour (a := 0) h1 (w := w) w0
    have ps := pz_pour (a := 0) h1 (w := w) w0
    obtain ⟨P, hP⟩ : ∃ P, P = aq_pourQ n (aq_giveQ Q w) 0 w := ⟨_, rfl⟩
    obtain ⟨p, hp⟩ : ∃ p, p = aq_pourR n (aq_giveQ Q w) 0 w := ⟨_, rfl⟩
    rw [← hP, ← hp, d2, d7] at ps
    rw [← hp] at p2 p3
    have P9 : P 10 9 = Q 10 9 := by rw [hP, pz_po10 (by decide), d9]
    have P8 : P 10 8 = Q 10 8 + w := by rw [hP, pz_po10 (by decide)]; exact aq_up_s _ _ _ _
    have eS : aq_springQ n Q w = aq_up P 10 9 (Q 10 9 + (w - p)) := by unfold aq_springQ; rw [if_neg k0, ef, er, ← hP, ← hp, P9]
    have v1 : (w - p).toInt = w.toInt - p.toInt := pu_sub (by omega) (by omega)
    have v2 : (Q 10 9 + (w - p)).toInt = (Q 10 9).toInt + (w - p).toInt := pu_add (by omega) (by omega)
    refine ⟨⟨?_, ?_, ?_⟩, fun f f2 f10 => ?_, fun k k7 k8 k9 => ?_⟩
    · rw [eS, pz_row (show (2 : Nat) ≠ 10 by decide), aq_up_i _ _ (show (7 : Nat) ≠ 9 by decide), aq_up_s]
      omega
    · rw [eS, aq_up_s]
      omega
    · rw [eS, aq_up_i _ _ (show (8 : Nat) ≠ 9 by decide), P8, a1]
    · rw [eS, pz_row f10, hP, pz_porow f2 f10]
      exact pz_row f10
    · rw [eS, aq_up_i _ _ k9, hP, pz_po10 k7]
      exact aq_up_i _ _ k8
/-- an arch leaks -/
theorem pz_leakP {n i : Nat} {F C Th : Int} {Q : aq_Q} (h : pu_I n F C Th Q) (hi : i < n) (hl0 : 0 ≤ (Q 5 i).toInt) (hl : (Q 5 i).toInt < 1000000000) :
    pz_s (aq_leakQ Q i 2) n + pz_s (aq_leakQ Q i 5) n = pz_s (Q 2) n + pz_s (Q 5) n ∧ (Q 5 i).toInt ≤ (aq_leakQ Q i 5 i).toInt ∧ (∀ j, j ≠ i → aq_leakQ Q i 5 j = Q 5 j) ∧ (∀ f, f ≠ 2 → f ≠ 4 → f ≠ 5 → aq_leakQ Q i f = Q f) := by
  have hb := h.1 i
  unfold pu_b at hb
  obtain ⟨m1, m2, m3⟩ := pu_mul (a := Q 2 i) (b := Q 3 i) (A := 40) (B := 50) (by omega) (by omega) (by omega) (by omega) (by decide)
  have d1 : (Q 2 i * Q 3 i / 10).toInt = (Q 2 i * Q 3 i).toInt / 10 := pu_d10 (by omega)
  have d2 : (Q 4 i + Q 2 i * Q 3 i / 10).toInt = (Q 4 i).toInt + (Q 2 i * Q 3 i / 10).toInt := pu_add (by omega) (by omega)
  have e4 : aq_leak1 Q i 4 i = Q 4 i + Q 2 i * Q 3 i / 10 := aq_up_s _ _ _ _
  have e2 : aq_leak1 Q i 2 i = Q 2 i := aq_up_f _ _ (by decide)
  obtain ⟨x, hx⟩ : ∃ x, x = Q 4 i + Q 2 i * Q 3 i / 10 := ⟨_, rfl⟩
  rw [← hx] at d2 e4
  have d3 : (x / 10).toInt = x.toInt / 10 := pu_d10 (by omega)
  have l1 : (aq_lost Q i).toInt = min (x / 10).toInt (Q 2 i).toInt := by unfold aq_lost; rw [e4, e2, pu_mn]
  obtain ⟨t, ht⟩ : ∃ t, t = aq_lost Q i := ⟨_, rfl⟩
  rw [← ht] at l1
  have r2 : ∀ f, f ≠ 4 → aq_leak2 Q i f = Q f := fun f f4 => (pz_row f4).trans (pz_row f4)
  have eL : aq_leakQ Q i = aq_up (aq_up (aq_leak2 Q i) 2 i (Q 2 i - t)) 5 i (Q 5 i + t) := by
    unfold aq_leakQ aq_leak3
    rw [← ht, aq_up_f _ _ (show (5 : Nat) ≠ 2 by decide), r2 5 (by decide), r2 2 (by decide)]
  have v1 : (Q 2 i - t).toInt = (Q 2 i).toInt - t.toInt := pu_sub (by omega) (by omega)
  have v2 : (Q 5 i + t).toInt = (Q 5 i).toInt + t.toInt := pu_add (by omega) (by omega)
  have w2 : aq_leakQ Q i 2 = aq_up (aq_leak2 Q i) 2 i (Q 2 i - t) 2 := by rw [eL, pz_row (show (2 : Nat) ≠ 5 by decide)]
  have w5 : aq_leakQ Q i 5 i = Q 5 i + t := by rw [eL, aq_up_s]
  have o5 : ∀ j, j ≠ i → aq_leakQ Q i 5 j = Q 5 j := fun j hj => by rw [eL, aq_up_i _ _ hj, aq_up_f _ _ (show (5 : Nat) ≠ 2 by decide), r2 5 (by decide)]
  have z2 := pz_one (f := Q 2) (g := aq_leakQ Q i 2) (i := i) (fun j hj => by rw [w2, aq_up_i _ _ hj, r2 2 (by decide)]) n
  have y2 : aq_leakQ Q i 2 i = Q 2 i - t := by rw [w2, aq_up_s]
  have z5 := pz_one (f := Q 5) (g := aq_leakQ Q i 5) (i := i) o5 n
  rw [if_pos hi, y2, v1] at z2
  rw [if_pos hi, w5, v2] at z5
  refine ⟨by omega, by rw [w5]; omega, o5, fun f f2 f4 f5 => ?_⟩
  rw [eL, pz_row f5, pz_row f2, r2 f f4]
theorem pz_wearP {Q : aq_Q} {i f : Nat} (hf : f ≠ 3) : aq_wearDayQ Q i f = Q f := by
  unfold aq_wearDayQ
  split
  · rfl
  · split
    · exact pz_row hf
    · exact pz_row hf
/-! the two invariants -/
def pz_B (n : Nat) (x G : Int) (Q : aq_Q) : Prop := (Q 10 7).toInt + pz_s (Q 2) n + (Q 10 9).toInt + pz_s (Q 5) n + (Q 10 10).toInt + (Q 10 11).toInt + x = (Q 10 8).toInt ∧ (Q 10 8).toInt ≤ G ∧ 0 ≤ (Q 10 9).toInt ∧ (∀ i, 0 ≤ (Q 5 i).toInt) ∧ 0 ≤ (Q 10 10).toInt ∧ 0 ≤ (Q 10 11).toInt
def pz_M (n : Nat) (m : Int) (Q : aq_Q) : Prop := (∀ i, (Q 9 i).toInt ≤ (Q 6 i).toInt) ∧ (∀ i, (Q 6 i).toInt ≤ 0 → (Q 8 i).toInt = 0) ∧ (pz_s (Q 8) n ≤ 2 * (Q 10 10).toInt ∧ (Q 10 10).toInt ≤ pz_s (Q 8) n) ∧ (Q 10 5).toInt + m = pz_s (fun i => Q 8 i / 10) n
theorem pz_bd {n : Nat} {F C Th x G : Int} {Q : aq_Q} (h : pu_I n F C Th Q) (hB : pz_B n x G Q) (hx : 0 ≤ x) : ((Q 10 9).toInt ≤ G ∧ pz_s (Q 5) n ≤ G ∧ (Q 10 10).toInt ≤ G ∧ (Q 10 11).toInt ≤ (Q 10 8).toInt ∧ 0 ≤ (Q 10 8).toInt) ∧ 0 ≤ pz_s (Q 2) n ∧ 0 ≤ pz_s (Q 5) n ∧ pz_s (Q 2) n ≤ G ∧ (Q 10 11).toInt ≤ G := by
  have s2 := pz_pos (f := Q 2) n (fun j => (h.1 j).2.2.1.1)
  have s5 := pz_pos n hB.2.2.2.1
  have c := h.2.1.1
  obtain ⟨b1, b2, b3, b4, b5, b6⟩ := hB
  omega
theorem pz_Bc {n : Nat} {x G : Int} {P Q : aq_Q} (h2 : P 2 = Q 2) (h5 : P 5 = Q 5) (h10 : ∀ k, 7 ≤ k → k ≤ 11 → P 10 k = Q 10 k) (hB : pz_B n x G Q) : pz_B n x G P := by
  unfold pz_B
  rw [h2, h5, h10 7 (by decide) (by decide), h10 8 (by decide) (by decide), h10 9 (by decide) (by decide), h10 10 (by decide) (by decide), h10 11 (by decide) (by decide)]
  exact hB
theorem pz_Mc {n : Nat} {m : Int} {P Q : aq_Q} (h9 : P 9 = Q 9) (h6 : P 6 = Q 6) (h8 : P 8 = Q 8) (hu : P 10 10 = Q 10 10) (hc : P 10 5 = Q 10 5) (hM : pz_M n m Q) : pz_M n m P := by
  unfold pz_M
  rw [h9, h6, h8, hu, hc]
  exact hM
theorem pz_drinkBM {n : Nat} {F C Th G m : Int} {Q : aq_Q} {w : Int32} (h : pu_I n F C Th Q) (w0 : 0 ≤ w.toInt) (w4 : w.toInt ≤ 40) (hG : G < 1000000000) (hB : pz_B n 0 G Q) (hM : pz_M n m Q) : pz_B n 0 G (aq_drinkQ Q w) ∧ pz_M n m (aq_drinkQ Q w) := by
  have hc := h.2.1
  have hd := pz_bd h hB (Int.le_refl 0)
  have e1 : (aq_mn w (Q 10 7)).toInt = min w.toInt (Q 10 7).toInt := pu_mn _ _
  obtain ⟨t, ht⟩ : ∃ t, t = aq_mn w (Q 10 7) := ⟨_, rfl⟩
  rw [← ht] at e1
  obtain ⟨b1, b2, b3, b4, b5, b6⟩ := hB
  have v1 : (Q 10 7 - t).toInt = (Q 10 7).toInt - t.toInt := pu_sub (by omega) (by omega)
  have v2 : (Q 10 11 + t).toInt = (Q 10 11).toInt + t.toInt := pu_add (by omega) (by omega)
  have q11 : aq_drink1 Q w 10 11 = Q 10 11 := aq_up_i _ _ (by decide)
  have f7 : aq_drinkQ Q w 10 7 = Q 10 7 - t := by unfold aq_drinkQ aq_drink2 aq_drink1; rw [← ht, aq_up_i _ _ (show (7 : Nat) ≠ 12 by decide), aq_up_i _ _ (show (7 : Nat) ≠ 11 by decide), aq_up_s]
  have f11 : aq_drinkQ Q w 10 11 = Q 10 11 + t := by unfold aq_drinkQ aq_drink2; rw [q11, ← ht, aq_up_i _ _ (show (11 : Nat) ≠ 12 by decide), aq_up_s]
  have fk : ∀ k, k ≠ 7 → k ≠ 11 → k ≠ 12 → aq_drinkQ Q w 10 k = Q 10 k := fun k k7 k11 k12 => (aq_up_i _ _ k12).trans ((aq_up_i _ _ k11).trans (aq_up_i _ _ k7))
  have ff : ∀ f, f ≠ 10 → aq_drinkQ Q w f = Q f := fun f f10 => (pz_row f10).trans ((pz_row f10).trans (pz_row f10))
  refine ⟨?_, pz_Mc (ff 9 (by decide)) (ff 6 (by decide)) (ff 8 (by decide)) (fk 10 (by decide) (by decide) (by decide)) (fk 5 (by decide) (by decide) (by decide)) hM⟩
  unfold pz_B
  rw [f7, f11, ff 2 (by decide), ff 5 (by decide), fk 8 (by decide) (by decide) (by decide), fk 9 (by decide) (by decide) (by decide), fk 10 (by decide) (by decide) (by decide)]
  exact ⟨by omega, by omega, by omega, b4, by omega, by omega⟩
theorem pz_sendBM {n i : Nat} {F C Th G m : Int} {Q : aq_Q} (h : pu_I n F C Th Q) (hi : i < n) (hB : pz_B n (pz_s (Q 9) n - pz_s (Q 9) (i + 1)) G Q) (hM : pz_M n m Q) : pz_B n (pz_s (aq_sendQ n Q i 9) n - pz_s (aq_sendQ n Q i 9) i) G (aq_sendQ n Q i) ∧ pz_M n m (aq_sendQ n Q i) := by
  obtain ⟨t0, t6, ts, t9, tf, t10⟩ := pz_sendP h hi
  obtain ⟨P, hP⟩ : ∃ P, P = aq_sendQ n Q i := ⟨_, rfl⟩
  rw [← hP] at t0 t6 ts t9 tf t10 ⊢
  have z1 := pz_one (f := Q 9) (g := P 9) (i := i) t9 n
  have z2 := pz_one (f := Q 9) (g := P 9) (i := i) t9 i
  rw [if_pos hi] at z1
  rw [if_neg (Nat.lt_irrefl i)] at z2
  have z3 := pz_ss (Q 9) i
  obtain ⟨b1, b2, b3, b4, b5, b6⟩ := hB
  obtain ⟨q1, q2, q3, q4⟩ := hM
  refine ⟨?_, ?_⟩
  · unfold pz_B
    rw [t10 8 (by decide), t10 9 (by decide), t10 10 (by decide), t10 11 (by decide), tf 5 (by decide) (by decide) (by decide)]
    exact ⟨by omega, b2, b3, b4, b5, b6⟩
  · unfold pz_M
    rw [tf 6 (by decide) (by decide) (by decide), tf 8 (by decide) (by decide) (by decide), t10 10 (by decide), t10 5 (by decide)]
    refine ⟨fun j => ?_, q2, q3, q4⟩
    by_cases hj : j = i
    · subst hj
      exact t6
    · rw [t9 j hj]
      exact q1 j
theorem pz_sendABM {n : Nat} {F C Th G m : Int} : ∀ (i : Nat) {Q : aq_Q}, i ≤ n → pu_I n F C Th Q → pz_B n (pz_s (Q 9) n - pz_s (Q 9) i) G Q → pz_M n m Q → pz_B n (pz_s (aq_sendAll n i Q 9) n) G (aq_sendAll n i Q) ∧ pz_M n m (aq_sendAll n i Q)
  | 0, Q, _, _, hB, hM => by
    rw [pz_s0, Int.sub_zero] at hB
    exact ⟨hB, hM⟩
  | i + 1, Q, hi, h, hB, hM => by
    obtain ⟨h1, h2⟩ := pz_sendBM h (show i < n by omega) hB hM
    rw [aq_sendAll]
    exact pz_sendABM i (by omega) (pu_sendI h) h1 h2
theorem pz_grindBM {n i : Nat} {F C Th G m : Int} {Q : aq_Q} (h : pu_I n F C Th Q) (hi : i < n) (hf : (Q 8 i).toInt + 30 ≤ F) (hF : F < 1000000000) (hC : C < 1000000000) (hG : G < 1000000000) (hB : pz_B n (pz_s (Q 9) n - pz_s (Q 9) i) G Q) (hM : pz_M n m Q) : pz_B n (pz_s (aq_grindAtQ n Q i 9) n - pz_s (aq_grindAtQ n Q i 9) (i + 1)) G (aq_grindAtQ n Q i) ∧ pz_M n m (aq_grindAtQ n Q i) := by
  have hb := h.1 i
  unfold pu_b at hb
  have n9 : ∀ j, 0 ≤ (Q 9 j).toInt := fun j => (h.1 j).2.2.2.2.2.2.2.1.1
  have hx := pz_mono (k := i) n n9 (by omega)
  have hd := pz_bd h hB (by omega)
  have hfl := h.2.2.2.1 i
  obtain ⟨b1, b2, b3, b4, b5, b6⟩ := hB
  obtain ⟨⟨t1, t2, t3, t4, t5⟩, t8, tf, u8, u11⟩ := pz_grindP (i := i) h hf hF hC b3 (by omega) b5 (by omega)
  obtain ⟨P, hP⟩ : ∃ P, P = aq_grindAtQ n Q i := ⟨_, rfl⟩
  rw [← hP] at t1 t2 t3 t4 t5 t8 tf u8 u11 ⊢
  have z3 := pz_ss (Q 9) i
  obtain ⟨q1, q2, q3, q4⟩ := hM
  refine ⟨?_, ?_⟩
  · unfold pz_B
    rw [tf 9 (by decide) (by decide) (by decide), tf 5 (by decide) (by decide) (by decide), u8, u11]
    exact ⟨by omega, b2, by omega, b4, by omega, b6⟩
  · have z8 := pz_one (f := Q 8) (g := P 8) (i := i) t8 n
    rw [if_pos hi] at z8
    have z10 := pz_one (f := fun j => Q 8 j / 10) (g := fun j => P 8 j / 10) (i := i) (fun j hj => by rw [t8 j hj]) n
    rw [if_pos hi] at z10
    have d1 : (P 8 i / 10).toInt = (P 8 i).toInt / 10 := pu_d10 (by omega)
    have d2 : (Q 8 i / 10).toInt = (Q 8 i).toInt / 10 := pu_d10 (by omega)
    have z10 : pz_s (fun j => P 8 j / 10) n = pz_s (fun j => Q 8 j / 10) n + ((P 8 i / 10).toInt - (Q 8 i / 10).toInt) := z10
    unfold pz_M
    rw [tf 9 (by decide) (by decide) (by decide), tf 6 (by decide) (by decide) (by decide)]
    refine ⟨q1, fun j hj => ?_, by omega, ?_⟩
    · by_cases hji : j = i
      · subst hji
        have k1 := q1 j
        have k2 := q2 j hj
        omega
      · rw [t8 j hji]
        exact q2 j hj
    · rw [z10]
      omega
theorem pz_grindABM {n : Nat} {F0 F Th G m : Int} (hF : F0 + 30 ≤ F) (hF1 : F < 1000000000) (hG : G < 1000000000) : ∀ (k i : Nat) {C : Int} {Q : aq_Q}, i + k ≤ n → C + 3 * (k : Int) < 1000000000 → pu_I n F C Th Q → (∀ j, i ≤ j → (Q 8 j).toInt ≤ F0) → pz_B n (pz_s (Q 9) n - pz_s (Q 9) i) G Q → pz_M n m Q → pz_B n (pz_s (aq_grindAll n k i Q 9) n - pz_s (aq_grindAll n k i Q 9) (i + k)) G (aq_grindAll n k i Q) ∧ pz_M n m (aq_grindAll n k i Q)
  | 0, i, C, Q, _, _, _, _, hB, hM => ⟨hB, hM⟩
  | k + 1, i, C, Q, hi, hC, h, hf, hB, hM => by
    have f0 := hf i (Nat.le_refl i)
    obtain ⟨h1, h2⟩ := pz_grindBM h (show i < n by omega) (by omega) hF1 (by omega) hG hB hM
    rw [aq_grindAll, show i + (k + 1) = i + 1 + k by omega]
    exact pz_grindABM hF hF1 hG k (i + 1) (C := C + 3) (by omega) (by omega) (pu_grindI (i := i) h (by omega) hF1 (by omega)) (fun j hj => by rw [pu_grind8 (by omega)]; exact hf j (by omega)) h1 h2
theorem pz_springBM {n : Nat} {F C Th G m : Int} {Q : aq_Q} {w : Int32} (h : pu_I n F C Th Q) (w0 : 0 ≤ w.toInt) (w4 : w.toInt ≤ 40) (hG : G < 1000000000) (hB : pz_B n 0 G Q) (hM : pz_M n m Q) : pz_B n 0 (G + 40) (aq_springQ n Q w) ∧ pz_M n m (aq_springQ n Q w) := by
  have hd := pz_bd h hB (Int.le_refl 0)
  obtain ⟨b1, b2, b3, b4, b5, b6⟩ := hB
  obtain ⟨⟨t1, t2, t3⟩, tf, tk⟩ := pz_springP (w := w) h w0 w4 b3 (by omega) (by omega) (by omega)
  refine ⟨?_, pz_Mc (tf 9 (by decide) (by decide)) (tf 6 (by decide) (by decide)) (tf 8 (by decide) (by decide)) (tk 10 (by decide) (by decide) (by decide)) (tk 5 (by decide) (by decide) (by decide)) hM⟩
  unfold pz_B
  rw [tf 5 (by decide) (by decide), tk 10 (by decide) (by decide) (by decide), tk 11 (by decide) (by decide) (by decide)]
  exact ⟨by omega, by omega, by omega, b4, b5, b6⟩
theorem pz_leakBM {n i : Nat} {F C Th G m : Int} {Q : aq_Q} (h : pu_I n F C Th Q) (hi : i < n) (hG : G < 1000000000) (hB : pz_B n 0 G Q) (hM : pz_M n m Q) : pz_B n 0 G (aq_leakQ Q i) ∧ pz_M n m (aq_leakQ Q i) := by
  have hd := pz_bd h hB (Int.le_refl 0)
  obtain ⟨b1, b2, b3, b4, b5, b6⟩ := hB
  have hl := pz_le (i := i) (n := n) b4 hi
  obtain ⟨t1, t2, t5, tf⟩ := pz_leakP h hi (b4 i) (by omega)
  have f10 := tf 10 (by decide) (by decide) (by decide)
  refine ⟨?_, pz_Mc (tf 9 (by decide) (by decide) (by decide)) (tf 6 (by decide) (by decide) (by decide)) (tf 8 (by decide) (by decide) (by decide)) (congrFun f10 10) (congrFun f10 5) hM⟩
  unfold pz_B
  rw [f10]
  refine ⟨by omega, b2, b3, fun j => ?_, b5, b6⟩
  have b5i := b4 i
  by_cases hj : j = i
  · subst hj
    omega
  · rw [t5 j hj]
    exact b4 j
theorem pz_leakABM {n : Nat} {F C Th G m : Int} (hG : G < 1000000000) : ∀ (k i : Nat) {Q : aq_Q}, i + k ≤ n → pu_I n F C Th Q → pz_B n 0 G Q → pz_M n m Q → pz_B n 0 G (aq_leakAll k i Q) ∧ pz_M n m (aq_leakAll k i Q)
  | 0, _, _, _, _, hB, hM => ⟨hB, hM⟩
  | k + 1, i, Q, hi, h, hB, hM => by
    obtain ⟨h1, h2⟩ := pz_leakBM h (show i < n by omega) hG hB hM
    rw [aq_leakAll]
    exact pz_leakABM hG k (i + 1) (by omega) (pu_leakI h) h1 h2
theorem pz_wearABM {n : Nat} {G m : Int} : ∀ (k i : Nat) {Q : aq_Q}, pz_B n 0 G Q → pz_M n m Q → pz_B n 0 G (aq_wearAll k i Q) ∧ pz_M n m (aq_wearAll k i Q)
  | 0, _, _, hB, hM => ⟨hB, hM⟩
  | k + 1, i, Q, hB, hM => by
    have w := fun f hf => pz_wearP (Q := Q) (i := i) (f := f) hf
    have w10 := w 10 (by decide)
    rw [aq_wearAll]
    exact pz_wearABM k (i + 1) (pz_Bc (w 2 (by decide)) (w 5 (by decide)) (fun k _ _ => congrFun w10 k) hB) (pz_Mc (w 9 (by decide)) (w 6 (by decide)) (w 8 (by decide)) (congrFun w10 10) (congrFun w10 5) hM)
/-- an hour -/
theorem pz_hour {n d : Nat} {F C Th G m : Int} {T Q : aq_Q} (hn : n ≤ 20) (h : pu_I n F C Th Q) (hT : ∀ t k, 0 ≤ (T t k).toInt ∧ (T t k).toInt ≤ 40) (hF : F + 30 < 1000000000) (hC : C + 60 < 1000000000) (hTh : Th < 1000000000) (hG : G + 40 < 1000000000) (hB : pz_B n 0 G Q) (hM : pz_M n m Q) : pz_B n 0 (G + 40) (aq_hourD n T d Q) ∧ pz_M n m (aq_hourD n T d Q) := by
  have h1 := (pu_drink h (hT 1 d).1 (hT 1 d).2 hTh).1
  obtain ⟨B1, M1⟩ := pz_drinkBM h (hT 1 d).1 (hT 1 d).2 (by omega) hB hM
  have h8 : ∀ j, (aq_sendAll n n (aq_drinkQ Q (T 1 d)) 8 j).toInt ≤ F := fun j => ((pu_sendAI n h1).2.2.2.1 j).2
  have h2 : pu_I n (F + 30) C (Th + 40) (aq_sendAll n n (aq_drinkQ Q (T 1 d))) := pu_mono (by omega) (Int.le_refl _) (Int.le_refl _) (pu_sendAI n h1)
  obtain ⟨B2, M2⟩ := pz_sendABM (m := m) n (Nat.le_refl n) h1 (by rw [Int.sub_self]; exact B1) M1
  have h3 := pu_grindAI (F0 := F) (Int.le_refl _) hF n 0 (C := C) (by omega) h2 (fun j _ => h8 j)
  have h4 : pu_I n (F + 30) (C + 60) (Th + 40) (aq_grindAll n n 0 (aq_sendAll n n (aq_drinkQ Q (T 1 d)))) := pu_mono (Int.le_refl _) (by omega) (Int.le_refl _) h3
  obtain ⟨B3, M3⟩ := pz_grindABM (m := m) (F0 := F) (Int.le_refl _) hF (by omega : G < 1000000000) n 0 (C := C) (by omega) (by omega) h2 (fun j _ => h8 j) (by rw [pz_s0, Int.sub_zero]; exact B2) M2
  rw [Nat.zero_add, Int.sub_self] at B3
  obtain ⟨B4, M4⟩ := pz_springBM h4 (hT 0 d).1 (hT 0 d).2 (by omega) B3 M3
  obtain ⟨B5, M5⟩ := pz_leakABM (m := m) (by omega : G + 40 < 1000000000) n 0 (by omega) (pu_springI h4 (hT 0 d).1) B4 M4
  have B6 : pz_B n 0 (G + 40) (aq_hour6 n T d Q) ∧ pz_M n m (aq_hour6 n T d Q) := by
    unfold aq_hour6
    split
    · exact pz_wearABM n 0 B5 M5
    · exact ⟨B5, M5⟩
  unfold aq_hourD
  exact ⟨pz_Bc (pz_row (by decide)) (pz_row (by decide)) (fun k h7 _ => aq_up_i _ _ (by omega)) B6.1, pz_Mc (pz_row (by decide)) (pz_row (by decide)) (pz_row (by decide)) (aq_up_i _ _ (by decide)) (aq_up_i _ _ (by decide)) B6.2⟩
