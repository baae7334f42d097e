/-! What the class's methods do to the memory of one aqueduct, as pure functions: one a method, in the method's own order. Q f i: the arch i's field f (0 height, 1 size, 2 water, 3 wear, 4 drops, 5 leaked, 6 appetite, 7 tenths, 8 flour, 9 took); Q 10 k: the aqueduct's field k (3 arches, 4 hour, 5 coins, 6 holds, 7 cistern, 8 given, 9 spilt, 10 used, 11 drunk, 12 thirst) -/
def aq_fillR (Q : aq_Q) (i : Nat) (o : Int32) : Int32 := aq_mn o (Q 1 i - Q 2 i)
def aq_fillQ (Q : aq_Q) (i : Nat) (o : Int32) : aq_Q := aq_up Q 2 i (Q 2 i + aq_fillR Q i o)
def aq_leadQ1 (Q : aq_Q) (i : Nat) (g : Int32) : aq_Q := aq_up Q 9 i (aq_mn (g * Q 7 i / 10) (Q 6 i))
def aq_leadQ (Q : aq_Q) (i : Nat) (g : Int32) : aq_Q := aq_up (aq_leadQ1 Q i g) 2 i (aq_leadQ1 Q i g 2 i - aq_leadQ1 Q i g 9 i)
def aq_leadR (Q : aq_Q) (i : Nat) (g : Int32) : Int32 := g - aq_leadQ Q i g 9 i
def aq_grindQ (Q : aq_Q) (i : Nat) : aq_Q := aq_up Q 8 i (Q 8 i + Q 9 i)
def aq_grindR (Q : aq_Q) (i : Nat) : Int32 := aq_grindQ Q i 8 i / 10 - Q 8 i / 10
def aq_leak1 (Q : aq_Q) (i : Nat) : aq_Q := aq_up Q 4 i (Q 4 i + Q 2 i * Q 3 i / 10)
def aq_lost (Q : aq_Q) (i : Nat) : Int32 := aq_mn (aq_leak1 Q i 4 i / 10) (aq_leak1 Q i 2 i)
def aq_leak2 (Q : aq_Q) (i : Nat) : aq_Q := aq_up (aq_leak1 Q i) 4 i (aq_leak1 Q i 4 i - aq_leak1 Q i 4 i / 10 * 10)
def aq_leak3 (Q : aq_Q) (i : Nat) : aq_Q := aq_up (aq_leak2 Q i) 2 i (aq_leak2 Q i 2 i - aq_lost Q i)
def aq_leakQ (Q : aq_Q) (i : Nat) : aq_Q := aq_up (aq_leak3 Q i) 5 i (aq_leak3 Q i 5 i + aq_lost Q i)
def aq_hasMill (Q : aq_Q) (i : Nat) : Int32 := if Q 6 i ≤ 0 then 0 else 1
def aq_hasOpen (Q : aq_Q) (i : Nat) : Int32 := if aq_hasMill Q i = 0 then 0 else if Q 7 i ≤ 0 then 0 else 1
def aq_wearByQ (Q : aq_Q) (i : Nat) (x : Int32) : aq_Q := aq_up Q 3 i (aq_mn 50 (Q 3 i + x))
def aq_wearDayQ (Q : aq_Q) (i : Nat) : aq_Q := if Q 2 i ≤ 0 then Q else if aq_hasOpen Q i = 0 then aq_wearByQ Q i 1 else aq_wearByQ Q i 2
def aq_millNo (Q : aq_Q) (i w : Nat) : Int32 := if aq_hasMill Q i = 0 then (-1) else (match w with | 0 => Q 6 i | 1 => Q 7 i | 2 => Q 8 i | _ => Q 9 i)
theorem aq_fillQ_n (Q : aq_Q) (i : Nat) (o : Int32) : aq_fillQ Q i o 10 3 = Q 10 3 := aq_up_f _ _ (by decide)
theorem aq_leadQ_n (Q : aq_Q) (i : Nat) (o : Int32) : aq_leadQ Q i o 10 3 = Q 10 3 := (aq_up_f _ _ (by decide)).trans (aq_up_f _ _ (by decide))
theorem aq_grindQ_n (Q : aq_Q) (i : Nat) : aq_grindQ Q i 10 3 = Q 10 3 := aq_up_f _ _ (by decide)
theorem aq_leakQ_n (Q : aq_Q) (i : Nat) : aq_leakQ Q i 10 3 = Q 10 3 := (aq_up_f _ _ (by decide)).trans ((aq_up_f _ _ (by decide)).trans ((aq_up_f _ _ (by decide)).trans (aq_up_f _ _ (by decide))))
theorem aq_wearByQ_n (Q : aq_Q) (i : Nat) (o : Int32) : aq_wearByQ Q i o 10 3 = Q 10 3 := aq_up_f _ _ (by decide)
theorem aq_wearDayQ_n (Q : aq_Q) (i : Nat) : aq_wearDayQ Q i 10 3 = Q 10 3 := by
  unfold aq_wearDayQ
  split
  · rfl
  · split
    · exact aq_wearByQ_n _ _ _
    · exact aq_wearByQ_n _ _ _
/-! the aqueduct's methods; n: how many arches -/
def aq_pourQ (n : Nat) (Q : aq_Q) (a : Nat) (w : Int32) : aq_Q := if a < n then aq_fillQ Q a w else aq_up Q 10 7 (Q 10 7 + aq_mn w (Q 10 6 - Q 10 7))
def aq_pourR (n : Nat) (Q : aq_Q) (a : Nat) (w : Int32) : Int32 := if a < n then aq_fillR Q a w else aq_mn w (Q 10 6 - Q 10 7)
theorem aq_pourQ_n (n : Nat) (Q : aq_Q) (a : Nat) (w : Int32) : aq_pourQ n Q a w 10 3 = Q 10 3 := by
  unfold aq_pourQ
  split
  · exact aq_fillQ_n _ _ _
  · exact aq_up_i _ _ (by decide)
def aq_slope (n : Nat) (Q : aq_Q) (a : Nat) : Int32 := if a + 1 < n then Q 0 a - Q 0 (a + 1) else Q 0 a - 0
def aq_rate (n : Nat) (Q : aq_Q) (a : Nat) : Int32 := aq_mn 30 (2 + aq_slope n Q a)
def aq_sendG (n : Nat) (Q : aq_Q) (i : Nat) : Int32 := aq_mn (Q 2 i) (aq_rate n Q i)
def aq_send1 (n : Nat) (Q : aq_Q) (i : Nat) : aq_Q := aq_leadQ Q i (aq_sendG n Q i)
def aq_sendR (n : Nat) (Q : aq_Q) (i : Nat) : Int32 := aq_leadR Q i (aq_sendG n Q i)
def aq_sendQ (n : Nat) (Q : aq_Q) (i : Nat) : aq_Q := aq_up (aq_pourQ n (aq_send1 n Q i) (i + 1) (aq_sendR n Q i)) 2 i (aq_send1 n Q i 2 i - aq_pourR n (aq_send1 n Q i) (i + 1) (aq_sendR n Q i))
theorem aq_sendQ_n (n : Nat) (Q : aq_Q) (i : Nat) : aq_sendQ n Q i 10 3 = Q 10 3 := (aq_up_f _ _ (by decide)).trans ((aq_pourQ_n _ _ _ _).trans (aq_leadQ_n _ _ _))
def aq_coinQ (Q : aq_Q) (i : Nat) : aq_Q := aq_up (aq_grindQ Q i) 10 5 (Q 10 5 + aq_grindR Q i)
def aq_backQ (n : Nat) (Q : aq_Q) (i : Nat) : aq_Q := aq_up (aq_pourQ n (aq_coinQ Q i) (i + 2) (Q 9 i / 2)) 10 9 (aq_coinQ Q i 10 9 + (Q 9 i / 2 - aq_pourR n (aq_coinQ Q i) (i + 2) (Q 9 i / 2)))
def aq_grindAtQ (n : Nat) (Q : aq_Q) (i : Nat) : aq_Q := aq_up (aq_backQ n Q i) 10 10 (aq_backQ n Q i 10 10 + (aq_backQ n Q i 9 i - Q 9 i / 2))
theorem aq_grindAtQ_n (n : Nat) (Q : aq_Q) (i : Nat) : aq_grindAtQ n Q i 10 3 = Q 10 3 := (aq_up_i _ _ (by decide)).trans ((aq_up_i _ _ (by decide)).trans ((aq_pourQ_n _ _ _ _).trans ((aq_up_i _ _ (by decide)).trans (aq_grindQ_n _ _))))
def aq_drink1 (Q : aq_Q) (w : Int32) : aq_Q := aq_up Q 10 7 (Q 10 7 - aq_mn w (Q 10 7))
def aq_drink2 (Q : aq_Q) (w : Int32) : aq_Q := aq_up (aq_drink1 Q w) 10 11 (aq_drink1 Q w 10 11 + aq_mn w (Q 10 7))
def aq_drinkQ (Q : aq_Q) (w : Int32) : aq_Q := aq_up (aq_drink2 Q w) 10 12 (aq_drink2 Q w 10 12 + (w - aq_mn w (Q 10 7)))
theorem aq_drinkQ_n (Q : aq_Q) (w : Int32) : aq_drinkQ Q w 10 3 = Q 10 3 := (aq_up_i _ _ (by decide)).trans ((aq_up_i _ _ (by decide)).trans (aq_up_i _ _ (by decide)))
def aq_giveQ (Q : aq_Q) (w : Int32) : aq_Q := aq_up Q 10 8 (Q 10 8 + w)
def aq_springQ (n : Nat) (Q : aq_Q) (w : Int32) : aq_Q := if n = 0 then aq_up (aq_giveQ Q w) 10 9 (aq_giveQ Q w 10 9 + (w - 0)) else aq_up (aq_fillQ (aq_giveQ Q w) 0 w) 10 9 (aq_fillQ (aq_giveQ Q w) 0 w 10 9 + (w - aq_fillR (aq_giveQ Q w) 0 w))
theorem aq_springQ_n (n : Nat) (Q : aq_Q) (w : Int32) : aq_springQ n Q w 10 3 = Q 10 3 := by
  unfold aq_springQ
  split
  · exact (aq_up_i _ _ (by decide)).trans (aq_up_i _ _ (by decide))
  · exact (aq_up_i _ _ (by decide)).trans ((aq_fillQ_n _ _ _).trans (aq_up_i _ _ (by decide)))
/-- the loops: k rounds, the first at i -/
def aq_sendAll (n : Nat) : Nat → aq_Q → aq_Q | 0, Q => Q | i + 1, Q => aq_sendAll n i (aq_sendQ n Q i)
def aq_grindAll (n : Nat) : Nat → Nat → aq_Q → aq_Q | 0, _, Q => Q | k + 1, i, Q => aq_grindAll n k (i + 1) (aq_grindAtQ n Q i)
def aq_leakAll : Nat → Nat → aq_Q → aq_Q | 0, _, Q => Q | k + 1, i, Q => aq_leakAll k (i + 1) (aq_leakQ Q i)
def aq_wearAll : Nat → Nat → aq_Q → aq_Q | 0, _, Q => Q | k + 1, i, Q => aq_wearAll k (i + 1) (aq_wearDayQ Q i)
theorem aq_sendAll_n (n : Nat) : ∀ (i : Nat) (Q : aq_Q), aq_sendAll n i Q 10 3 = Q 10 3 | 0, _ => rfl | i + 1, Q => (aq_sendAll_n n i _).trans (aq_sendQ_n _ _ _)
theorem aq_grindAll_n (n : Nat) : ∀ (k i : Nat) (Q : aq_Q), aq_grindAll n k i Q 10 3 = Q 10 3 | 0, _, _ => rfl | k + 1, i, Q => (aq_grindAll_n n k _ _).trans (aq_grindAtQ_n _ _ _)
theorem aq_leakAll_n : ∀ (k i : Nat) (Q : aq_Q), aq_leakAll k i Q 10 3 = Q 10 3 | 0, _, _ => rfl | k + 1, i, Q => (aq_leakAll_n k _ _).trans (aq_leakQ_n _ _)
theorem aq_wearAll_n : ∀ (k i : Nat) (Q : aq_Q), aq_wearAll k i Q 10 3 = Q 10 3 | 0, _, _ => rfl | k + 1, i, Q => (aq_wearAll_n k _ _).trans (aq_wearDayQ_n _ _)
/-- an hour: T 0, T 1: the tables of the spring and the city -/
def aq_day (Q : aq_Q) : Nat := (Q 10 4).toNatClampNeg % 24
def aq_hour5 (n : Nat) (T : aq_Q) (d : Nat) (Q : aq_Q) : aq_Q := aq_leakAll n 0 (aq_springQ n (aq_grindAll n n 0 (aq_sendAll n n (aq_drinkQ Q (T 1 d)))) (T 0 d))
def aq_hour6 (n : Nat) (T : aq_Q) (d : Nat) (Q : aq_Q) : aq_Q := if d = 23 then aq_wearAll n 0 (aq_hour5 n T d Q) else aq_hour5 n T d Q
def aq_hourD (n : Nat) (T : aq_Q) (d : Nat) (Q : aq_Q) : aq_Q := aq_up (aq_hour6 n T d Q) 10 4 (aq_hour6 n T d Q 10 4 + 1)
def aq_hourQ (n : Nat) (T : aq_Q) (Q : aq_Q) : aq_Q := aq_hourD n T (aq_day Q) Q
theorem aq_hourQ_n (n : Nat) (T : aq_Q) (Q : aq_Q) : aq_hourQ n T Q 10 3 = Q 10 3 := by
  have h5 : ∀ d, aq_hour5 n T d Q 10 3 = Q 10 3 := fun d => (aq_leakAll_n _ _ _).trans ((aq_springQ_n _ _ _).trans ((aq_grindAll_n _ _ _ _).trans ((aq_sendAll_n _ _ _).trans (aq_drinkQ_n _ _))))
  unfold aq_hourQ aq_hourD
  rw [aq_up_i _ _ (show (3 : Nat) ≠ 4 by decide)]
  unfold aq_hour6
  split
  · exact (aq_wearAll_n _ _ _).trans (h5 _)
  · exact h5 _
def aq_goQ (n : Nat) (T : aq_Q) : Nat → aq_Q → aq_Q | 0, Q => Q | k + 1, Q => aq_goQ n T k (aq_hourQ n T Q)
theorem aq_goQ_n (n : Nat) (T : aq_Q) : ∀ (k : Nat) (Q : aq_Q), aq_goQ n T k Q 10 3 = Q 10 3 | 0, _ => rfl | k + 1, Q => (aq_goQ_n n T k _).trans (aq_hourQ_n _ _ _)
def aq_sum (f : Nat → Int32) : Nat → Nat → Int32 → Int32 | 0, _, x => x | k + 1, i, x => aq_sum f k (i + 1) (x + f i)
def aq_mill1 (Q : aq_Q) (i : Nat) : Int32 := if aq_hasMill Q i = 0 then 0 else 1
def aq_mills (n : Nat) (Q : aq_Q) : Int32 := aq_sum (aq_mill1 Q) n 0 0
def aq_over (n f : Nat) (Q : aq_Q) : Int32 := aq_sum (Q f) n 0 0
def aq_top (n : Nat) (Q : aq_Q) : Int32 := if n = 0 then 200 else Q 0 (n - 1)
def aq_addQ (n : Nat) (Q : aq_Q) (h z : Int32) : aq_Q := aq_up (aq_up (aq_up Q 0 n h) 1 n z) 10 3 (nI (n + 1))
def aq_sizeR (Q : aq_Q) (o : Int32) : Int32 := aq_mx 0 (Q 10 7 - o)
def aq_size1 (Q : aq_Q) (o : Int32) : aq_Q := aq_up (aq_up Q 10 6 o) 10 7 (aq_up Q 10 6 o 10 7 - aq_sizeR Q o)
def aq_sizeQ (Q : aq_Q) (o : Int32) : aq_Q := aq_up (aq_size1 Q o) 10 9 (aq_size1 Q o 10 9 + aq_sizeR Q o)
def aq_archNo (n : Nat) (Q : aq_Q) (i w : Nat) : Int32 := match w with | 0 => Q 0 i | 1 => Q 1 i | 2 => Q 2 i | 3 => Q 3 i | 4 => Q 4 i | 5 => aq_slope n Q i | 6 => aq_rate n Q i | 7 => Q 5 i | _ => if aq_hasMill Q i = 0 then 0 else 1
def aq_countNo (n : Nat) (Q : aq_Q) (w : Nat) : Int32 := match w with | 0 => Q 10 4 | 1 => nI n | 2 => aq_mills n Q | 3 => Q 10 5 | 4 => Q 10 7 | 5 => aq_over n 2 Q | 6 => Q 10 8 | 7 => Q 10 9 | 8 => aq_over n 5 Q | 9 => Q 10 10 | 10 => Q 10 11 | _ => Q 10 12
/-- the copy of the aqueduct 0 in the aqueduct 1 -/
def aq_cpA (Q0 Q1 : aq_Q) (i : Nat) : aq_Q := aq_up (aq_up (aq_up (aq_up (aq_up (aq_up (aq_up (aq_up (aq_up (aq_up Q1 0 i (Q0 0 i)) 1 i (Q0 1 i)) 2 i (Q0 2 i)) 3 i (Q0 3 i)) 4 i (Q0 4 i)) 5 i (Q0 5 i)) 6 i (Q0 6 i)) 7 i (Q0 7 i)) 8 i (Q0 8 i)) 9 i (Q0 9 i)
def aq_cpAll (Q0 : aq_Q) : Nat → Nat → aq_Q → aq_Q | 0, _, Q => Q | k + 1, i, Q => aq_cpAll Q0 k (i + 1) (aq_cpA Q0 Q i)
def aq_cpS (n : Nat) (Q0 Q1 : aq_Q) : aq_Q := aq_up (aq_up (aq_up (aq_up (aq_up (aq_up (aq_up (aq_up (aq_up (aq_up Q1 10 3 (nI n)) 10 4 (Q0 10 4)) 10 5 (Q0 10 5)) 10 6 (Q0 10 6)) 10 7 (Q0 10 7)) 10 8 (Q0 10 8)) 10 9 (Q0 10 9)) 10 10 (Q0 10 10)) 10 11 (Q0 10 11)) 10 12 (Q0 10 12)
def aq_cpQ (n : Nat) (Q0 Q1 : aq_Q) : aq_Q := aq_cpS n Q0 (aq_cpAll Q0 n 0 Q1)
/-! the hour stays, but at an hour's end -/
theorem aq_fillQ_h (Q : aq_Q) (i : Nat) (o : Int32) : aq_fillQ Q i o 10 4 = Q 10 4 := aq_up_f _ _ (by decide)
theorem aq_leadQ_h (Q : aq_Q) (i : Nat) (o : Int32) : aq_leadQ Q i o 10 4 = Q 10 4 := (aq_up_f _ _ (by decide)).trans (aq_up_f _ _ (by decide))
theorem aq_grindQ_h (Q : aq_Q) (i : Nat) : aq_grindQ Q i 10 4 = Q 10 4 := aq_up_f _ _ (by decide)
theorem aq_leakQ_h (Q : aq_Q) (i : Nat) : aq_leakQ Q i 10 4 = Q 10 4 := (aq_up_f _ _ (by decide)).trans ((aq_up_f _ _ (by decide)).trans ((aq_up_f _ _ (by decide)).trans (aq_up_f _ _ (by decide))))
theorem aq_wearByQ_h (Q : aq_Q) (i : Nat) (o : Int32) : aq_wearByQ Q i o 10 4 = Q 10 4 := aq_up_f _ _ (by decide)
theorem aq_wearDayQ_h (Q : aq_Q) (i : Nat) : aq_wearDayQ Q i 10 4 = Q 10 4 := by
  unfold aq_wearDayQ
  split
  · rfl
  · split
    · exact aq_wearByQ_h _ _ _
    · exact aq_wearByQ_h _ _ _
theorem aq_pourQ_h (n : Nat) (Q : aq_Q) (a : Nat) (w : Int32) : aq_pourQ n Q a w 10 4 = Q 10 4 := by
  unfold aq_pourQ
  split
  · exact aq_fillQ_h _ _ _
  · exact aq_up_i _ _ (by decide)
theorem aq_sendQ_h (n : Nat) (Q : aq_Q) (i : Nat) : aq_sendQ n Q i 10 4 = Q 10 4 := (aq_up_f _ _ (by decide)).trans ((aq_pourQ_h _ _ _ _).trans (aq_leadQ_h _ _ _))
theorem aq_grindAtQ_h (n : Nat) (Q : aq_Q) (i : Nat) : aq_grindAtQ n Q i 10 4 = Q 10 4 := (aq_up_i _ _ (by decide)).trans ((aq_up_i _ _ (by decide)).trans ((aq_pourQ_h _ _ _ _).trans ((aq_up_i _ _ (by decide)).trans (aq_grindQ_h _ _))))
theorem aq_drinkQ_h (Q : aq_Q) (w : Int32) : aq_drinkQ Q w 10 4 = Q 10 4 := (aq_up_i _ _ (by decide)).trans ((aq_up_i _ _ (by decide)).trans (aq_up_i _ _ (by decide)))
theorem aq_springQ_h (n : Nat) (Q : aq_Q) (w : Int32) : aq_springQ n Q w 10 4 = Q 10 4 := by
  unfold aq_springQ
  split
  · exact (aq_up_i _ _ (by decide)).trans (aq_up_i _ _ (by decide))
  · exact (aq_up_i _ _ (by decide)).trans ((aq_fillQ_h _ _ _).trans (aq_up_i _ _ (by decide)))
theorem aq_sendAll_h (n : Nat) : ∀ (i : Nat) (Q : aq_Q), aq_sendAll n i Q 10 4 = Q 10 4 | 0, _ => rfl | i + 1, Q => (aq_sendAll_h n i _).trans (aq_sendQ_h _ _ _)
theorem aq_grindAll_h (n : Nat) : ∀ (k i : Nat) (Q : aq_Q), aq_grindAll n k i Q 10 4 = Q 10 4 | 0, _, _ => rfl | k + 1, i, Q => (aq_grindAll_h n k _ _).trans (aq_grindAtQ_h _ _ _)
theorem aq_leakAll_h : ∀ (k i : Nat) (Q : aq_Q), aq_leakAll k i Q 10 4 = Q 10 4 | 0, _, _ => rfl | k + 1, i, Q => (aq_leakAll_h k _ _).trans (aq_leakQ_h _ _)
theorem aq_wearAll_h : ∀ (k i : Nat) (Q : aq_Q), aq_wearAll k i Q 10 4 = Q 10 4 | 0, _, _ => rfl | k + 1, i, Q => (aq_wearAll_h k _ _).trans (aq_wearDayQ_h _ _)
theorem aq_hour6_h (n : Nat) (T : aq_Q) (d : Nat) (Q : aq_Q) : aq_hour6 n T d Q 10 4 = Q 10 4 := by
  have h5 : aq_hour5 n T d Q 10 4 = Q 10 4 := (aq_leakAll_h _ _ _).trans ((aq_springQ_h _ _ _).trans ((aq_grindAll_h _ _ _ _).trans ((aq_sendAll_h _ _ _).trans (aq_drinkQ_h _ _))))
  unfold aq_hour6
  split
  · exact (aq_wearAll_h _ _ _).trans h5
  · exact h5
theorem aq_hourD_h (n : Nat) (T : aq_Q) (d : Nat) (Q : aq_Q) : aq_hourD n T d Q 10 4 = Q 10 4 + 1 := by
  unfold aq_hourD
  rw [aq_up_s, aq_hour6_h]
theorem aq_hourD_n (n : Nat) (T : aq_Q) (d : Nat) (Q : aq_Q) : aq_hourD n T d Q 10 3 = Q 10 3 := by
  have h5 : aq_hour5 n T d Q 10 3 = Q 10 3 := (aq_leakAll_n _ _ _).trans ((aq_springQ_n _ _ _).trans ((aq_grindAll_n _ _ _ _).trans ((aq_sendAll_n _ _ _).trans (aq_drinkQ_n _ _))))
  unfold aq_hourD
  rw [aq_up_i _ _ (show (3 : Nat) ≠ 4 by decide)]
  unfold aq_hour6
  split
  · exact (aq_wearAll_n _ _ _).trans h5
  · exact h5
theorem aq_hourQ_eq {n h : Nat} {T Q : aq_Q} (hh : Q 10 4 = nI h) (h31 : h < 2 ^ 31) : aq_hourQ n T Q = aq_hourD n T (h % 24) Q := by
  unfold aq_hourQ aq_day
  rw [hh, nI_clamp h31]
theorem aq_cpA_n (Q0 Q1 : aq_Q) (i : Nat) : aq_cpA Q0 Q1 i 10 3 = Q1 10 3 := by
  unfold aq_cpA
  rw [aq_up_f _ _ (by decide), aq_up_f _ _ (by decide), aq_up_f _ _ (by decide), aq_up_f _ _ (by decide), aq_up_f _ _ (by decide), aq_up_f _ _ (by decide), aq_up_f _ _ (by decide), aq_up_f _ _ (by decide), aq_up_f _ _ (by decide), aq_up_f _ _ (by decide)]
theorem aq_xor24 {h : Nat} (h31 : h < 2 ^ 31) : 0 ≤ (nI h ^^^ (24 : Int32)) := by
  have e : nI h ^^^ (24 : Int32) = nI (h ^^^ 24) := by
    show Int32.ofNat h ^^^ Int32.ofNat 24 = Int32.ofNat (h ^^^ 24)
    apply Int32.toBitVec_inj.mp
    simp [Int32.toBitVec_xor]
  rw [e]
  exact nI_pos' (Nat.xor_lt_two_pow (n := 31) h31 (by decide))
