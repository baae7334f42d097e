/-! the class's own calls, as pure functions: which exception (0 none), the answer, the memory behind -/
def aq_seq (a b : Nat) : Nat := if a = 0 then b else a
def aq_ixK (i e : Int32) : Nat := if i < 0 then 2 else if i < e then 0 else 2
def aq_rgK (x lo hi : Int32) : Nat := if x < lo then 1 else if x ≤ hi then 0 else 1
theorem aq_ixK_ok {i : Int32} {e : Nat} (he : e < 2 ^ 31) (h : aq_ixK i (nI e) = 0) : ∃ k : Nat, k < e ∧ i = nI k := by
  unfold aq_ixK at h
  split at h
  · cases h
  · rename_i h0
    split at h
    · rename_i h1
      rcases pk_ix i he with h2 | h2 | h2
      · exact absurd h2 h0
      · exact absurd h1 (Int32.not_lt.mpr h2)
      · exact h2
    · cases h
def aq_setK (h w : Int32) : Nat := aq_seq (aq_ixK h 24) (aq_rgK w 0 40)
def aq_setT (T : aq_Q) (t : Nat) (h w : Int32) : aq_Q := aq_up T t h.toNatClampNeg w
def aq_buildK (n : Nat) (Q : aq_Q) (h z : Int32) : Nat := aq_seq (aq_rgK h 0 (aq_top n Q)) (aq_seq (aq_rgK z 1 40) (if n < 20 then 0 else 3))
def aq_archK (n : Nat) (a w : Int32) : Nat := aq_seq (aq_ixK a (nI n)) (aq_ixK w 9)
def aq_addMK (n : Nat) (Q : aq_Q) (a x : Int32) : Nat := aq_seq (aq_ixK a (nI n)) (aq_seq (aq_rgK x 1 30) (if aq_hasMill Q a.toNatClampNeg = 0 then 0 else 3))
def aq_addMQ (Q : aq_Q) (a x : Int32) : aq_Q := aq_up Q 6 a.toNatClampNeg x
def aq_sluK (n : Nat) (Q : aq_Q) (a x : Int32) : Nat := aq_seq (aq_ixK a (nI n)) (aq_seq (aq_rgK x 0 10) (if aq_hasMill Q a.toNatClampNeg = 0 then 3 else 0))
def aq_sluQ (Q : aq_Q) (a x : Int32) : aq_Q := aq_up Q 7 a.toNatClampNeg x
def aq_millK (n : Nat) (a w : Int32) : Nat := aq_seq (aq_ixK a (nI n)) (aq_ixK w 4)
def aq_mendK (n : Nat) (Q : aq_Q) (a : Int32) : Nat := aq_seq (aq_ixK a (nI n)) (if 1 ≤ Q 10 5 then (if Q 3 a.toNatClampNeg = 0 then 3 else 0) else 3)
def aq_mend1 (Q : aq_Q) : aq_Q := aq_up Q 10 5 (Q 10 5 - 1)
def aq_mend2 (Q : aq_Q) (a : Nat) : aq_Q := aq_up (aq_mend1 Q) 3 a (aq_mx 0 (aq_mend1 Q 3 a - 10))
def aq_mendQ (Q : aq_Q) (a : Nat) : aq_Q := aq_up (aq_mend2 Q a) 4 a 0
def aq_quakeK (n : Nat) (a x : Int32) : Nat := aq_seq (aq_ixK a (nI n)) (aq_rgK x 1 50)
def aq_forK (h w : Int32) : Nat := aq_seq (aq_rgK h 1 100) (aq_ixK w 4)
theorem aq_rgK_ok {x : Int32} {a b : Nat} (ha : a < 2 ^ 31) (hb : b < 2 ^ 31) (h : aq_rgK x (nI a) (nI b) = 0) : ∃ k : Nat, a ≤ k ∧ k ≤ b ∧ x = nI k := by
  unfold aq_rgK at h
  split at h
  · cases h
  · rename_i h0
    split at h
    · rename_i h1
      have h2 : nI a ≤ x := Int32.not_lt.mp h0
      have h3 : ¬ x < 0 := Int32.not_lt.mpr (Int32.le_trans (nI_pos' ha) h2)
      obtain ⟨j, hj, rfl⟩ := nI_of h3
      exact ⟨j, (nI_leI ha hj).mp h2, (nI_leI hj hb).mp h1, rfl⟩
    · cases h
theorem aq_cpQ_n (n : Nat) (Q0 Q1 : aq_Q) : aq_cpQ n Q0 Q1 10 3 = nI n := by simp [aq_cpQ, aq_cpS, aq_up]
theorem aq_cpQ_h (n : Nat) (Q0 Q1 : aq_Q) : aq_cpQ n Q0 Q1 10 4 = Q0 10 4 := by simp [aq_cpQ, aq_cpS, aq_up]
theorem aq_sizeQ_n (Q : aq_Q) (o : Int32) : aq_sizeQ Q o 10 3 = Q 10 3 := by simp [aq_sizeQ, aq_size1, aq_up]
/-- looking ahead: the memory of the trial behind it -/
def aq_tw0 (n : Nat) (T : aq_Q) (h : Nat) (Q0 Q1 : aq_Q) : aq_Q := aq_goQ n T h (aq_cpQ n Q0 Q1)
def aq_tw (n : Nat) (T : aq_Q) (h : Nat) (Q0 Q1 : aq_Q) (a : Nat) : aq_Q := aq_goQ n T h (aq_up (aq_cpQ n Q0 Q1) 7 a 0)
def aq_forR (n : Nat) (Qt Q0 : aq_Q) (w : Nat) : Int32 := match w with | 0 => Qt 10 12 - Q0 10 12 | 1 => aq_over n 5 Qt - aq_over n 5 Q0 | 2 => Qt 10 7 | _ => aq_over n 8 Qt - aq_over n 8 Q0
def aq_thi (Qt Q0 : aq_Q) : Int32 := Qt 10 12 - Q0 10 12
def aq_advR (n : Nat) (T : aq_Q) (h : Nat) (Q0 : aq_Q) : Nat → Nat → Int32 → Int32 → aq_Q → Int32
  | 0, _, b, _, _ => b
  | k + 1, i, b, x, Q1 => if aq_hasOpen Q0 i = 0 then aq_advR n T h Q0 k (i + 1) b x Q1 else if x ≤ aq_thi (aq_tw n T h Q0 Q1 i) Q0 then aq_advR n T h Q0 k (i + 1) b x (aq_tw n T h Q0 Q1 i) else aq_advR n T h Q0 k (i + 1) (nI i) (aq_thi (aq_tw n T h Q0 Q1 i) Q0) (aq_tw n T h Q0 Q1 i)
def aq_advQ (n : Nat) (T : aq_Q) (h : Nat) (Q0 : aq_Q) : Nat → Nat → Int32 → Int32 → aq_Q → aq_Q
  | 0, _, _, _, Q1 => Q1
  | k + 1, i, b, x, Q1 => if aq_hasOpen Q0 i = 0 then aq_advQ n T h Q0 k (i + 1) b x Q1 else if x ≤ aq_thi (aq_tw n T h Q0 Q1 i) Q0 then aq_advQ n T h Q0 k (i + 1) b x (aq_tw n T h Q0 Q1 i) else aq_advQ n T h Q0 k (i + 1) (nI i) (aq_thi (aq_tw n T h Q0 Q1 i) Q0) (aq_tw n T h Q0 Q1 i)
def aq_adviseR (n : Nat) (T : aq_Q) (h : Nat) (Q0 Q1 : aq_Q) : Int32 := aq_advR n T h Q0 n 0 (-1) (aq_thi (aq_tw0 n T h Q0 Q1) Q0) (aq_tw0 n T h Q0 Q1)
def aq_adviseQ (n : Nat) (T : aq_Q) (h : Nat) (Q0 Q1 : aq_Q) : aq_Q := aq_advQ n T h Q0 n 0 (-1) (aq_thi (aq_tw0 n T h Q0 Q1) Q0) (aq_tw0 n T h Q0 Q1)
def aq_thsR (n : Nat) (T Q0 : aq_Q) : Nat → Nat → aq_Q → Int32 | 0, _, _ => (-1) | k + 1, i, Q => if aq_hourQ n T Q 10 12 ≤ Q0 10 12 then aq_thsR n T Q0 k (i + 1) (aq_hourQ n T Q) else nI i
def aq_thsQ (n : Nat) (T Q0 : aq_Q) : Nat → Nat → aq_Q → aq_Q | 0, _, Q => Q | k + 1, i, Q => if aq_hourQ n T Q 10 12 ≤ Q0 10 12 then aq_thsQ n T Q0 k (i + 1) (aq_hourQ n T Q) else aq_hourQ n T Q
def aq_worR (Q : aq_Q) : Nat → Nat → Int32 → Int32 → Int32 | 0, _, w, _ => w | k + 1, i, w, x => if Q 5 i ≤ x then aq_worR Q k (i + 1) w x else aq_worR Q k (i + 1) (nI i) (Q 5 i)
def aq_dx (d : Int64) (x : Int32) : Int64 := d * 31 + x.toInt64
def aq_dgF (f : Nat → Int32) : Nat → Nat → Int64 → Int64 | 0, _, d => d | k + 1, w, d => aq_dgF f k (w + 1) (aq_dx d (f w))
def aq_dgArch (n : Nat) (Q : aq_Q) (i : Nat) (d : Int64) : Int64 := aq_dgF (aq_millNo Q i) 4 0 (aq_dgF (aq_archNo n Q i) 9 0 d)
def aq_dgAll (n : Nat) (Q : aq_Q) : Nat → Nat → Int64 → Int64 | 0, _, d => d | k + 1, i, d => aq_dgAll n Q k (i + 1) (aq_dgArch n Q i d)
def aq_dgT (T : aq_Q) : Nat → Nat → Int64 → Int64 | 0, _, d => d | k + 1, h, d => aq_dgT T k (h + 1) (aq_dx (aq_dx d (T 0 h)) (T 1 h))
def aq_digest (n : Nat) (T Q : aq_Q) : Int64 := aq_dgAll n Q n 0 (aq_dgT T 24 0 (aq_dgF (aq_countNo n Q) 12 0 601))
