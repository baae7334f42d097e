/-! the twin's methods as pure functions, in their own order -/
def aR_st (S Q : aq_Q) : Prop := (∀ i, S 0 i = Q 0 i) ∧ (∀ i, S 1 i = Q 1 i) ∧ (∀ i, S 6 i = Q 6 i)
theorem aR_st_rf (Q : aq_Q) : aR_st Q Q := ⟨fun _ => rfl, fun _ => rfl, fun _ => rfl⟩
theorem aR_st_up {S Q : aq_Q} {f i : Nat} {v : Int32} (h0 : 0 ≠ f) (h1 : 1 ≠ f) (h6 : 6 ≠ f) (h : aR_st S Q) : aR_st S (aq_up Q f i v) :=
  ⟨fun k => (h.1 k).trans (aq_up_f _ _ h0).symm, fun k => (h.2.1 k).trans (aq_up_f _ _ h1).symm, fun k => (h.2.2 k).trans (aq_up_f _ _ h6).symm⟩
theorem aR_st_fill {S Q : aq_Q} {i : Nat} {o : Int32} (h : aR_st S Q) : aR_st S (aq_fillQ Q i o) := aR_st_up (by decide) (by decide) (by decide) h
theorem aR_st_pour {S Q : aq_Q} {n a : Nat} {o : Int32} (h : aR_st S Q) : aR_st S (aq_pourQ n Q a o) := by
  unfold aq_pourQ
  split
  · exact aR_st_fill h
  · exact aR_st_up (by decide) (by decide) (by decide) h
def aR_isIn (v a b : Int32) : Int32 := if v < a then 0 else if b < v then 0 else 1
theorem aq_mn_nat {a b : Nat} (ha : a < 2 ^ 31) (hb : b < 2 ^ 31) : aq_mn (nI a) (nI b) = nI (min a b) := by
  unfold aq_mn
  by_cases h : b < a
  · rw [if_pos ((nI_ltI hb ha).mpr h), Nat.min_eq_right (Nat.le_of_lt h)]
  · rw [if_neg (fun z => h ((nI_ltI hb ha).mp z)), Nat.min_eq_left (Nat.le_of_not_lt h)]
def aR_send1 (n : Nat) (Q : aq_Q) (i : Nat) : aq_Q := aq_up Q 9 i (aq_mn (Q 6 i) (aq_sendG n Q i * Q 7 i / 10))
def aR_sendX (n : Nat) (Q : aq_Q) (i : Nat) : Int32 := aq_sendG n Q i - aR_send1 n Q i 9 i
def aR_sendQ (n : Nat) (Q : aq_Q) (i : Nat) : aq_Q := aq_up (aq_pourQ n (aR_send1 n Q i) (i + 1) (aR_sendX n Q i)) 2 i (aR_send1 n Q i 2 i - (aR_send1 n Q i 9 i + aq_pourR n (aR_send1 n Q i) (i + 1) (aR_sendX n Q i)))
def aR_grind1 (Q : aq_Q) (i : Nat) : aq_Q := aq_up Q 10 5 (Q 10 5 + ((Q 8 i + Q 9 i) / 10 - Q 8 i / 10))
def aR_grind2 (Q : aq_Q) (i : Nat) : aq_Q := aq_up (aR_grind1 Q i) 8 i (aR_grind1 Q i 8 i + aR_grind1 Q i 9 i)
def aR_grind3 (Q : aq_Q) (i : Nat) : aq_Q := aq_up (aR_grind2 Q i) 10 10 (aR_grind2 Q i 10 10 + (aR_grind2 Q i 9 i - Q 9 i / 2))
def aR_grindQ (n : Nat) (Q : aq_Q) (i : Nat) : aq_Q := aq_up (aq_pourQ n (aR_grind3 Q i) (min (i + 2) n) (Q 9 i / 2)) 10 9 (aR_grind3 Q i 10 9 + (Q 9 i / 2 - aq_pourR n (aR_grind3 Q i) (min (i + 2) n) (Q 9 i / 2)))
def aR_springQ (n : Nat) (Q : aq_Q) (w : Int32) : aq_Q := if n = 0 then aq_up (aq_giveQ Q w) 10 9 (aq_giveQ Q w 10 9 + w) else aq_up (aq_pourQ n (aq_giveQ Q w) 0 w) 10 9 (aq_giveQ Q w 10 9 + (w - aq_pourR n (aq_giveQ Q w) 0 w))
def aR_lost (Q : aq_Q) (i : Nat) : Int32 := aq_mn (aq_leak1 Q i 2 i) (aq_leak1 Q i 4 i / 10)
def aR_leak3 (Q : aq_Q) (i : Nat) : aq_Q := aq_up (aq_leak2 Q i) 2 i (aq_leak2 Q i 2 i - aR_lost Q i)
def aR_leakQ (Q : aq_Q) (i : Nat) : aq_Q := aq_up (aR_leak3 Q i) 5 i (aR_leak3 Q i 5 i + aR_lost Q i)
def aR_wearQ (Q : aq_Q) (i : Nat) : aq_Q := if Q 2 i ≤ 0 then Q else if Q 7 i ≤ 0 then aq_up Q 3 i (aq_mn 50 (Q 3 i + 1)) else aq_up Q 3 i (aq_mn 50 (Q 3 i + 2))
def aR_sendAll (n : Nat) : Nat → aq_Q → aq_Q | 0, Q => Q | i + 1, Q => aR_sendAll n i (aR_sendQ n Q i)
def aR_grindAll (n : Nat) : Nat → Nat → aq_Q → aq_Q | 0, _, Q => Q | k + 1, i, Q => aR_grindAll n k (i + 1) (aR_grindQ n Q i)
def aR_leakAll : Nat → Nat → aq_Q → aq_Q | 0, _, Q => Q | k + 1, i, Q => aR_leakAll k (i + 1) (aR_leakQ Q i)
def aR_wearAll (d : Nat) : Nat → Nat → aq_Q → aq_Q | 0, _, Q => Q | k + 1, i, Q => if d = 23 then aR_wearAll d k (i + 1) (aR_wearQ Q i) else Q
def aR_hour5 (n : Nat) (T : aq_Q) (d : Nat) (Q : aq_Q) : aq_Q := aR_leakAll n 0 (aR_springQ n (aR_grindAll n n 0 (aR_sendAll n n (aq_drinkQ Q (T 1 d)))) (T 0 d))
def aR_hour6 (n : Nat) (T : aq_Q) (d : Nat) (Q : aq_Q) : aq_Q := aR_wearAll d n 0 (aR_hour5 n T d Q)
def aR_hourD (n : Nat) (T : aq_Q) (d : Nat) (Q : aq_Q) : aq_Q := aq_up (aR_hour6 n T d Q) 10 4 (aR_hour6 n T d Q 10 4 + 1)
theorem aR_st_send {S Q : aq_Q} {n i : Nat} (h : aR_st S Q) : aR_st S (aR_sendQ n Q i) := aR_st_up (by decide) (by decide) (by decide) (aR_st_pour (aR_st_up (by decide) (by decide) (by decide) h))
theorem aR_st_grind {S Q : aq_Q} {n i : Nat} (h : aR_st S Q) : aR_st S (aR_grindQ n Q i) := aR_st_up (by decide) (by decide) (by decide) (aR_st_pour (aR_st_up (by decide) (by decide) (by decide) (aR_st_up (by decide) (by decide) (by decide) (aR_st_up (by decide) (by decide) (by decide) h))))
theorem aR_st_drink {S Q : aq_Q} {w : Int32} (h : aR_st S Q) : aR_st S (aq_drinkQ Q w) := aR_st_up (by decide) (by decide) (by decide) (aR_st_up (by decide) (by decide) (by decide) (aR_st_up (by decide) (by decide) (by decide) h))
theorem aR_st_leak {S Q : aq_Q} {i : Nat} (h : aR_st S Q) : aR_st S (aR_leakQ Q i) := aR_st_up (by decide) (by decide) (by decide) (aR_st_up (by decide) (by decide) (by decide) (aR_st_up (by decide) (by decide) (by decide) (aR_st_up (by decide) (by decide) (by decide) h)))
theorem aR_st_wear {S Q : aq_Q} {i : Nat} (h : aR_st S Q) : aR_st S (aR_wearQ Q i) := by
  unfold aR_wearQ
  split
  · exact h
  · split
    · exact aR_st_up (by decide) (by decide) (by decide) h
    · exact aR_st_up (by decide) (by decide) (by decide) h
theorem aR_st_spring {S Q : aq_Q} {n : Nat} {w : Int32} (h : aR_st S Q) : aR_st S (aR_springQ n Q w) := by
  unfold aR_springQ
  split
  · exact aR_st_up (by decide) (by decide) (by decide) (aR_st_up (by decide) (by decide) (by decide) h)
  · exact aR_st_up (by decide) (by decide) (by decide) (aR_st_pour (aR_st_up (by decide) (by decide) (by decide) h))
theorem aR_st_sendAll {S : aq_Q} {n : Nat} : ∀ (i : Nat) {Q : aq_Q}, aR_st S Q → aR_st S (aR_sendAll n i Q) | 0, _, h => h | i + 1, _, h => aR_st_sendAll i (aR_st_send h)
theorem aR_st_grindAll {S : aq_Q} {n : Nat} : ∀ (k i : Nat) {Q : aq_Q}, aR_st S Q → aR_st S (aR_grindAll n k i Q) | 0, _, _, h => h | k + 1, i, _, h => aR_st_grindAll k (i + 1) (aR_st_grind h)
theorem aR_st_leakAll {S : aq_Q} : ∀ (k i : Nat) {Q : aq_Q}, aR_st S Q → aR_st S (aR_leakAll k i Q) | 0, _, _, h => h | k + 1, i, _, h => aR_st_leakAll k (i + 1) (aR_st_leak h)
theorem aR_st_wearAll {S : aq_Q} {d : Nat} : ∀ (k i : Nat) {Q : aq_Q}, aR_st S Q → aR_st S (aR_wearAll d k i Q)
  | 0, _, _, h => h
  | k + 1, i, Q, h => by
    rw [aR_wearAll]
    split
    · exact aR_st_wearAll k (i + 1) (aR_st_wear h)
    · exact h
theorem aR_st_hour {S Q : aq_Q} {n d : Nat} {T : aq_Q} (h : aR_st S Q) : aR_st S (aR_hourD n T d Q) :=
  aR_st_up (by decide) (by decide) (by decide) (aR_st_wearAll _ _ (aR_st_leakAll _ _ (aR_st_spring (aR_st_grindAll _ _ (aR_st_sendAll _ (aR_st_drink h))))))
theorem aR_isIn_nar (v a b : Int32) : narrow .boolean (.int (aR_isIn v a b)) = .int (aR_isIn v a b) := by
  unfold aR_isIn
  split
  · rfl
  · split
    · rfl
    · rfl
