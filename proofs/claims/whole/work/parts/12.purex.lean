/-! the class's own calls, as pure functions: which exception (0 none), the answer, the memory behind -/
def aq_seq (a b : Nat) : Nat := if a = 0 then b else a
def aq_ixK (i e : Int32) : Nat := if i < 0 then 2 else if i < e then 0 else 2
def aq_rgK (x lo hi : Int32) : Nat := if x < lo then 1 else if x ≤ hi then 0 else 1
theorem aq_ixK_ok {i : Int32} {e : Nat} (he : e < 2 ^ 31) (h : aq_ixK i (nI e) = 0) : ∃ k : Nat, k < e ∧ i = nI k := by
  unfold aq_ixK at h
  split at h
  · cases h
  · rename_i h0
    split at h
    · rename_i h1
      rcases pk_ix i he with h2 | h2 | h2
      · exact absurd h2 h0
      · exact absurd h1 (Int32.not_lt.mpr h2)
      · exact h2
    · cases h
def aq_setK (h w : Int32) : Nat := aq_seq (aq_ixK h 24) (aq_rgK w 0 40)
def aq_setT (T : aq_Q) (t : Nat) (h w : Int32) : aq_Q := aq_up T t h.toNatClampNeg w
def aq_buildK (n : Nat) (Q : aq_Q) (h z : Int32) : Nat := aq_seq (aq_rgK h 0 (aq_top n Q)) (aq_seq (aq_rgK z 1 40) (if n < 20 then 0 else 3))
def aq_archK (n : Nat) (a w : Int32) : Nat := aq_seq (aq_ixK a (nI n)) (aq_ixK w 9)
def aq_addMK (n : Nat) (Q : aq_Q) (a x : Int32) : Nat := aq_seq (aq_ixK a (nI n)) (aq_seq (aq_rgK x 1 30) (if aq_hasMill Q a.toNatClampNeg = 0 then 0 else 3))
def aq_addMQ (Q : aq_Q) (a x : Int32) : aq_Q := aq_up Q 6 a.toNatClampNeg x
def aq_sluK (n : Nat) (Q : aq_Q) (a x : Int32) : Nat := aq_seq (aq_ixK a (nI n)) (aq_seq (aq_rgK x 0 10) (if aq_hasMill Q a.toNatClampNeg = 0 then 3 else 0))
def aq_sluQ (Q : aq_Q) (a x : Int32) : aq_Q := aq_up Q 7 a.toNatClampNeg x
def aq_millK (n : Nat) (a w : Int32) : Nat := aq_seq (aq_ixK a (nI n)) (aq_ixK w 4)
def aq_mendK (n : Nat) (Q : aq_Q) (a : Int32) : Nat := aq_seq (aq_ixK a (nI n)) (if 1 ≤ Q 10 5 then (if Q 3 a.toNatClampNeg = 0 then 3 else 0) else 3)
def aq_mend1 (Q : aq_Q) : aq_Q := aq_up Q 10 5 (Q 10 5 - 1)
def aq_mend2 (Q : aq_Q) (a : Nat) : aq_Q := aq_up (aq_mend1 Q) 3 a (aq_mx 0 (aq_mend1 Q 3 a - 10))
def aq_mendQ (Q : aq_Q) (a : Nat) : aq_Q := aq_up (aq_mend2 Q a) 4 a 0
def aq_quakeK (n : Nat) (a x : Int32) : Nat := aq_seq (aq_ixK a (nI n)) (aq_rgK x 1 50)
def aq_forK (h w : Int32) : Nat := aq_seq (aq_rgK h 1 100) (aq_ixK w 4)
