/-! hours in a row -/
theorem pu_tel (a b c d : Int32) : a + (b - c) + (d - b) = a + (d - c) := by
  rw [Int32.sub_eq_add_neg, Int32.sub_eq_add_neg, Int32.sub_eq_add_neg]
  have h : a + (b + -c) + (d + -b) = (a + (d + -c)) + (b + -b) := by ac_rfl
  rw [h, Int32.add_right_neg, Int32.add_zero]
theorem pu_leadT (Q : aq_Q) (i : Nat) (g : Int32) : aq_leadQ Q i g 10 12 = Q 10 12 := (aq_up_f _ _ (by decide)).trans (aq_up_f _ _ (by decide))
theorem pu_sendT (n : Nat) (Q : aq_Q) (i : Nat) : aq_sendQ n Q i 10 12 = Q 10 12 := (aq_up_f _ _ (by decide)).trans ((pu_po (Or.inl (by decide)) (by decide)).trans (pu_leadT _ _ _))
theorem pu_grindT (n : Nat) (Q : aq_Q) (i : Nat) : aq_grindAtQ n Q i 10 12 = Q 10 12 := (aq_up_i _ _ (by decide)).trans ((aq_up_i _ _ (by decide)).trans ((pu_po (Or.inl (by decide)) (by decide)).trans ((aq_up_i _ _ (by decide)).trans (aq_up_f _ _ (by decide)))))
theorem pu_springT (n : Nat) (Q : aq_Q) (w : Int32) : aq_springQ n Q w 10 12 = Q 10 12 := by
  unfold aq_springQ
  split
  · exact (aq_up_i _ _ (by decide)).trans (aq_up_i _ _ (by decide))
  · exact (aq_up_i _ _ (by decide)).trans ((aq_up_f _ _ (by decide)).trans (aq_up_i _ _ (by decide)))
theorem pu_leakT (Q : aq_Q) (i : Nat) : aq_leakQ Q i 10 12 = Q 10 12 := (aq_up_f _ _ (by decide)).trans ((aq_up_f _ _ (by decide)).trans ((aq_up_f _ _ (by decide)).trans (aq_up_f _ _ (by decide))))
theorem pu_wearT (Q : aq_Q) (i : Nat) : aq_wearDayQ Q i 10 12 = Q 10 12 := by
  unfold aq_wearDayQ
  split
  · rfl
  · split
    · exact aq_up_f _ _ (by decide)
    · exact aq_up_f _ _ (by decide)
theorem pu_sendAT (n : Nat) : ∀ (i : Nat) (Q : aq_Q), aq_sendAll n i Q 10 12 = Q 10 12 | 0, _ => rfl | i + 1, Q => (pu_sendAT n i _).trans (pu_sendT _ _ _)
theorem pu_grindAT (n : Nat) : ∀ (k i : Nat) (Q : aq_Q), aq_grindAll n k i Q 10 12 = Q 10 12 | 0, _, _ => rfl | k + 1, i, Q => (pu_grindAT n k _ _).trans (pu_grindT _ _ _)
theorem pu_leakAT : ∀ (k i : Nat) (Q : aq_Q), aq_leakAll k i Q 10 12 = Q 10 12 | 0, _, _ => rfl | k + 1, i, Q => (pu_leakAT k _ _).trans (pu_leakT _ _)
theorem pu_wearAT : ∀ (k i : Nat) (Q : aq_Q), aq_wearAll k i Q 10 12 = Q 10 12 | 0, _, _ => rfl | k + 1, i, Q => (pu_wearAT k _ _).trans (pu_wearT _ _)
theorem pu_hourT {n d : Nat} {T Q : aq_Q} : aq_hourD n T d Q 10 12 = aq_drinkQ Q (T 1 d) 10 12 := by
  have h5 : aq_hour5 n T d Q 10 12 = aq_drinkQ Q (T 1 d) 10 12 := (pu_leakAT _ _ _).trans ((pu_springT _ _ _).trans ((pu_grindAT _ _ _ _).trans (pu_sendAT _ _ _)))
  unfold aq_hourD
  rw [aq_up_i _ _ (show (12 : Nat) ≠ 4 by decide)]
  unfold aq_hour6
  split
  · exact (pu_wearAT _ _ _).trans h5
  · exact h5
/-! two memories that agree on n arches -/
def pu_g (n : Nat) (Q P : aq_Q) : Prop := ∀ f i, (f < 10 ∧ i < n) ∨ (f = 10 ∧ 3 ≤ i ∧ i ≤ 12) → Q f i = P f i
theorem pu_ga {n f i : Nat} {Q P : aq_Q} (h : pu_g n Q P) (hf : f < 10) (hi : i < n) : Q f i = P f i := h f i (Or.inl ⟨hf, hi⟩)
theorem pu_gs {n k : Nat} {Q P : aq_Q} (h : pu_g n Q P) (h3 : 3 ≤ k) (hk : k ≤ 12) : Q 10 k = P 10 k := h 10 k (Or.inr ⟨rfl, h3, hk⟩)
theorem pu_gu {n f i : Nat} {v w : Int32} {Q P : aq_Q} (h : pu_g n Q P) (hv : v = w) : pu_g n (aq_up Q f i v) (aq_up P f i w) := by
  intro a b hab
  by_cases k : a = f ∧ b = i
  · obtain ⟨rfl, rfl⟩ := k
    rw [aq_up_s, aq_up_s, hv]
  · have k : a ≠ f ∨ b ≠ i := by omega
    rw [pu_o k, pu_o k]
    exact h a b hab
theorem pu_gfill {n a : Nat} {w : Int32} {Q P : aq_Q} (h : pu_g n Q P) (ha : a < n) : pu_g n (aq_fillQ Q a w) (aq_fillQ P a w) ∧ aq_fillR Q a w = aq_fillR P a w := by
  have e : aq_fillR Q a w = aq_fillR P a w := by unfold aq_fillR; rw [pu_ga h (by decide) ha, pu_ga h (by decide) ha]
  exact ⟨pu_gu h (by rw [e, pu_ga h (by decide) ha]), e⟩
theorem pu_gpour {n a : Nat} {w : Int32} {Q P : aq_Q} (h : pu_g n Q P) : pu_g n (aq_pourQ n Q a w) (aq_pourQ n P a w) ∧ aq_pourR n Q a w = aq_pourR n P a w := by
  unfold aq_pourQ aq_pourR
  by_cases k : a < n
  · rw [if_pos k, if_pos k, if_pos k, if_pos k]
    exact pu_gfill h k
  · rw [if_neg k, if_neg k, if_neg k, if_neg k]
    have e6 := pu_gs h (k := 6) (by decide) (by decide)
    have e7 := pu_gs h (k := 7) (by decide) (by decide)
    exact ⟨pu_gu h (by rw [e6, e7]), by rw [e6, e7]⟩
theorem pu_gslope {n i : Nat} {Q P : aq_Q} (h : pu_g n Q P) (hi : i < n) : aq_slope n Q i = aq_slope n P i := by
  unfold aq_slope
  by_cases k : i + 1 < n
  · rw [if_pos k, if_pos k, pu_ga h (by decide) hi, pu_ga h (by decide) k]
  · rw [if_neg k, if_neg k, pu_ga h (by decide) hi]
theorem pu_gsend {n i : Nat} {Q P : aq_Q} (h : pu_g n Q P) (hi : i < n) : pu_g n (aq_sendQ n Q i) (aq_sendQ n P i) := by
  rw [← pu_send, ← pu_send]
  have g : aq_sendG n Q i = aq_sendG n P i := by unfold aq_sendG aq_rate; rw [pu_ga h (by decide) hi, pu_gslope h hi]
  have s1 : pu_g n (aR_send1 n Q i) (aR_send1 n P i) := pu_gu h (by rw [g, pu_ga h (by decide) hi, pu_ga h (by decide) hi])
  have x : aR_sendX n Q i = aR_sendX n P i := by unfold aR_sendX; rw [g, pu_ga s1 (by decide) hi]
  obtain ⟨p1, p2⟩ := pu_gpour (a := i + 1) (w := aR_sendX n Q i) s1
  unfold aR_sendQ
  rw [← x]
  exact pu_gu p1 (by rw [p2, pu_ga s1 (by decide) hi, pu_ga s1 (by decide) hi])
theorem pu_ggrind {n i : Nat} {Q P : aq_Q} (h : pu_g n Q P) (hi : i < n) : pu_g n (aq_grindAtQ n Q i) (aq_grindAtQ n P i) := by
  rw [← pu_grind, ← pu_grind]
  have g1 : pu_g n (aR_grind1 Q i) (aR_grind1 P i) := pu_gu h (by rw [pu_ga h (by decide) hi, pu_ga h (by decide) hi, pu_gs h (by decide) (by decide)])
  have g2 : pu_g n (aR_grind2 Q i) (aR_grind2 P i) := pu_gu g1 (by rw [pu_ga g1 (by decide) hi, pu_ga g1 (by decide) hi])
  have g3 : pu_g n (aR_grind3 Q i) (aR_grind3 P i) := pu_gu g2 (by rw [pu_ga g2 (by decide) hi, pu_ga h (by decide) hi, pu_gs g2 (by decide) (by decide)])
  have e9 := pu_ga (f := 9) h (by decide) hi
  unfold aR_grindQ
  rw [e9]
  obtain ⟨p1, p2⟩ := pu_gpour (a := min (i + 2) n) (w := P 9 i / 2) g3
  exact pu_gu p1 (by rw [p2, pu_gs g3 (by decide) (by decide)])
theorem pu_gdrink {n : Nat} {w : Int32} {Q P : aq_Q} (h : pu_g n Q P) : pu_g n (aq_drinkQ Q w) (aq_drinkQ P w) := by
  have e7 := pu_gs h (k := 7) (by decide) (by decide)
  have h1 : pu_g n (aq_drink1 Q w) (aq_drink1 P w) := pu_gu h (by rw [e7])
  have h2 : pu_g n (aq_drink2 Q w) (aq_drink2 P w) := pu_gu h1 (by rw [e7, pu_gs h1 (by decide) (by decide)])
  exact pu_gu h2 (by rw [e7, pu_gs h2 (by decide) (by decide)])
theorem pu_gspring {n : Nat} {w : Int32} {Q P : aq_Q} (h : pu_g n Q P) : pu_g n (aq_springQ n Q w) (aq_springQ n P w) := by
  have h1 : pu_g n (aq_giveQ Q w) (aq_giveQ P w) := pu_gu h (by rw [pu_gs h (by decide) (by decide)])
  unfold aq_springQ
  by_cases k : n = 0
  · rw [if_pos k, if_pos k]
    exact pu_gu h1 (by rw [pu_gs h1 (by decide) (by decide)])
  · rw [if_neg k, if_neg k]
    obtain ⟨p1, p2⟩ := pu_gfill (a := 0) (w := w) h1 (by omega)
    exact pu_gu p1 (by rw [p2, pu_gs p1 (by decide) (by decide)])
theorem pu_gleak {n i : Nat} {Q P : aq_Q} (h : pu_g n Q P) (hi : i < n) : pu_g n (aq_leakQ Q i) (aq_leakQ P i) := by
  have h1 : pu_g n (aq_leak1 Q i) (aq_leak1 P i) := pu_gu h (by rw [pu_ga h (by decide) hi, pu_ga h (by decide) hi, pu_ga h (by decide) hi])
  have l : aq_lost Q i = aq_lost P i := by unfold aq_lost; rw [pu_ga h1 (by decide) hi, pu_ga h1 (by decide) hi]
  have h2 : pu_g n (aq_leak2 Q i) (aq_leak2 P i) := pu_gu h1 (by rw [pu_ga h1 (by decide) hi])
  have h3 : pu_g n (aq_leak3 Q i) (aq_leak3 P i) := pu_gu h2 (by rw [l, pu_ga h2 (by decide) hi])
  exact pu_gu h3 (by rw [l, pu_ga h3 (by decide) hi])
theorem pu_gwear {n i : Nat} {Q P : aq_Q} (h : pu_g n Q P) (hi : i < n) : pu_g n (aq_wearDayQ Q i) (aq_wearDayQ P i) := by
  have e : aq_hasOpen Q i = aq_hasOpen P i := by unfold aq_hasOpen aq_hasMill; rw [pu_ga h (by decide) hi, pu_ga h (by decide) hi]
  unfold aq_wearDayQ
  rw [e, pu_ga (f := 2) h (by decide) hi]
  split
  · exact h
  · split
    · exact pu_gu h (by rw [pu_ga h (by decide) hi])
    · exact pu_gu h (by rw [pu_ga h (by decide) hi])
theorem pu_gsendA {n : Nat} : ∀ (i : Nat) {Q P : aq_Q}, i ≤ n → pu_g n Q P → pu_g n (aq_sendAll n i Q) (aq_sendAll n i P)
  | 0, _, _, _, h => h
  | i + 1, _, _, hi, h => pu_gsendA i (by omega) (pu_gsend h (by omega))
theorem pu_ggrindA {n : Nat} : ∀ (k i : Nat) {Q P : aq_Q}, i + k ≤ n → pu_g n Q P → pu_g n (aq_grindAll n k i Q) (aq_grindAll n k i P)
  | 0, _, _, _, _, h => h
  | k + 1, i, _, _, hi, h => pu_ggrindA k (i + 1) (by omega) (pu_ggrind h (by omega))
theorem pu_gleakA {n : Nat} : ∀ (k i : Nat) {Q P : aq_Q}, i + k ≤ n → pu_g n Q P → pu_g n (aq_leakAll k i Q) (aq_leakAll k i P)
  | 0, _, _, _, _, h => h
  | k + 1, i, _, _, hi, h => pu_gleakA k (i + 1) (by omega) (pu_gleak h (by omega))
theorem pu_gwearA {n : Nat} : ∀ (k i : Nat) {Q P : aq_Q}, i + k ≤ n → pu_g n Q P → pu_g n (aq_wearAll k i Q) (aq_wearAll k i P)
  | 0, _, _, _, _, h => h
  | k + 1, i, _, _, hi, h => pu_gwearA k (i + 1) (by omega) (pu_gwear h (by omega))
theorem pu_ghour {n : Nat} {T Q P : aq_Q} (h : pu_g n Q P) : pu_g n (aq_hourQ n T Q) (aq_hourQ n T P) := by
  have ed : aq_day Q = aq_day P := by unfold aq_day; rw [pu_gs h (by decide) (by decide)]
  have h5 : pu_g n (aq_hour5 n T (aq_day Q) Q) (aq_hour5 n T (aq_day Q) P) := pu_gleakA n 0 (by omega) (pu_gspring (pu_ggrindA n 0 (by omega) (pu_gsendA n (Nat.le_refl n) (pu_gdrink h))))
  have h6 : pu_g n (aq_hour6 n T (aq_day Q) Q) (aq_hour6 n T (aq_day Q) P) := by
    unfold aq_hour6
    split
    · exact pu_gwearA n 0 (by omega) h5
    · exact h5
  unfold aq_hourQ
  rw [← ed]
  exact pu_gu h6 (by rw [pu_gs h6 (by decide) (by decide)])
theorem pu_ggo {n : Nat} {T : aq_Q} : ∀ (k : Nat) {Q P : aq_Q}, pu_g n Q P → pu_g n (aq_goQ n T k Q) (aq_goQ n T k P)
  | 0, _, _, h => h
  | k + 1, _, _, h => pu_ggo k (pu_ghour h)
theorem pu_cpA {Q0 Q1 : aq_Q} {i f j : Nat} (hf : f < 10) : aq_cpA Q0 Q1 i f j = if j = i then Q0 f j else Q1 f j := by
  unfold aq_cpA
  by_cases k : j = i
  · subst k
    rw [if_pos rfl]
    have hc : f = 0 ∨ f = 1 ∨ f = 2 ∨ f = 3 ∨ f = 4 ∨ f = 5 ∨ f = 6 ∨ f = 7 ∨ f = 8 ∨ f = 9 := by omega
    rcases hc with rfl | rfl | rfl | rfl | rfl | rfl | rfl | rfl | rfl | rfl <;> simp [aq_up]
  · rw [if_neg k, aq_up_i _ _ k, aq_up_i _ _ k, aq_up_i _ _ k, aq_up_i _ _ k, aq_up_i _ _ k, aq_up_i _ _ k, aq_up_i _ _ k, aq_up_i _ _ k, aq_up_i _ _ k, aq_up_i _ _ k]
theorem pu_cpAll {Q0 : aq_Q} {f j : Nat} (hf : f < 10) : ∀ (k i : Nat) (Q1 : aq_Q), i ≤ j → j < i + k → aq_cpAll Q0 k i Q1 f j = Q0 f j
  | 0, _, _, h1, h2 => by omega
  | k + 1, i, Q1, h1, h2 => by
    rw [aq_cpAll]
    by_cases c : i = j
    · subst c
      have hrest : ∀ (k i' : Nat) (Q1 : aq_Q), i < i' → aq_cpAll Q0 k i' Q1 f i = Q1 f i := by
        intro k
        induction k with
        | zero => intro i' Q1 _; rfl
        | succ k ih =>
          intro i' Q1 hi
          rw [aq_cpAll, ih _ _ (by omega), pu_cpA hf, if_neg (by omega)]
      rw [hrest k (i + 1) _ (by omega), pu_cpA hf, if_pos rfl]
    · exact pu_cpAll hf k (i + 1) _ (by omega) (by omega)
theorem pu_gcp {n : Nat} {Q Q1 : aq_Q} (hn : Q 10 3 = nI n) : pu_g n (aq_cpQ n Q Q1) Q := by
  intro f i h
  rcases h with ⟨h1, h2⟩ | ⟨rfl, h3, h4⟩
  · unfold aq_cpQ aq_cpS
    have hf : f ≠ 10 := by omega
    rw [aq_up_f _ _ hf, aq_up_f _ _ hf, aq_up_f _ _ hf, aq_up_f _ _ hf, aq_up_f _ _ hf, aq_up_f _ _ hf, aq_up_f _ _ hf, aq_up_f _ _ hf, aq_up_f _ _ hf, aq_up_f _ _ hf]
    exact pu_cpAll h1 n 0 Q1 (Nat.zero_le _) (by omega)
  · unfold aq_cpQ aq_cpS
    have hc : i = 3 ∨ i = 4 ∨ i = 5 ∨ i = 6 ∨ i = 7 ∨ i = 8 ∨ i = 9 ∨ i = 10 ∨ i = 11 ∨ i = 12 := by omega
    rcases hc with rfl | rfl | rfl | rfl | rfl | rfl | rfl | rfl | rfl | rfl <;> simp [aq_up, hn]
theorem pu_sumc {f g : Nat → Int32} : ∀ (k i : Nat) (x : Int32), (∀ j, i ≤ j → j < i + k → f j = g j) → aq_sum f k i x = aq_sum g k i x
  | 0, _, _, _ => rfl
  | k + 1, i, x, h => by
    rw [aq_sum, aq_sum, h i (Nat.le_refl i) (by omega)]
    exact pu_sumc k (i + 1) _ (fun j h1 h2 => h j (by omega) (by omega))
theorem pu_gover {n f : Nat} {Q P : aq_Q} (h : pu_g n Q P) (hf : f < 10) : aq_over n f Q = aq_over n f P := pu_sumc n 0 0 (fun j _ hj => pu_ga h hf (by omega))
