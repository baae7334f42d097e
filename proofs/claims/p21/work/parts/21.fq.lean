/-! a quotient of two whole numbers, the first not greater than the second, is none below 0 nor above 1 -/
theorem fq_t : FP.Core.Fmt.tails FP.Core.b64 = 4503599627370496 := by decide +kernel
theorem fq_e : FP.Core.Fmt.exps FP.Core.b64 = 2048 := by decide +kernel
theorem fq_qn : FP.Core.Fmt.qmin FP.Core.b64 = -1074 := by decide +kernel
theorem fq_qx : FP.Core.Fmt.qmax FP.Core.b64 = 971 := by decide +kernel
theorem fq_p : FP.Core.Fmt.p FP.Core.b64 = 53 := rfl
theorem fq_53 : (2 : Nat) ^ 53 = 9007199254740992 := by decide +kernel
theorem fq_52 : (2 : Nat) ^ 52 = 4503599627370496 := by decide +kernel
/-- written and read again -/
theorem fq_dec {c : Nat} {q : Int} (h1 : 4503599627370496 ≤ c) (h2 : c < 9007199254740992) (h3 : -1074 ≤ q) (h4 : q ≤ 971) : FP.Core.decode FP.Core.b64 (UInt64.ofNat (FP.Core.encode FP.Core.b64 (.fin false c q))).toNat = .fin false c q := by
  have e1 : FP.Core.encode FP.Core.b64 (.fin false c q) = ((q + 1074).toNat + 1) * 4503599627370496 + (c - 4503599627370496) := by
    show (if c < FP.Core.Fmt.tails FP.Core.b64 then FP.Core.assemble FP.Core.b64 false 0 c else FP.Core.assemble FP.Core.b64 false ((q - FP.Core.Fmt.qmin FP.Core.b64).toNat + 1) (c - FP.Core.Fmt.tails FP.Core.b64)) = _
    rw [fq_t, if_neg (by omega), fq_qn]
    unfold FP.Core.assemble
    rw [fq_t, fq_e, show Bool.toNat false = 0 from rfl, show (q - -1074).toNat = (q + 1074).toNat by omega]
    omega
  obtain ⟨n, hn⟩ : ∃ n, n = ((q + 1074).toNat + 1) * 4503599627370496 + (c - 4503599627370496) := ⟨_, rfl⟩
  rw [e1, ← hn, UInt64.toNat_ofNat', Nat.mod_eq_of_lt (by omega)]
  have hE : FP.Core.fieldE FP.Core.b64 n = (q + 1074).toNat + 1 := by
    unfold FP.Core.fieldE
    rw [fq_t, fq_e]
    omega
  have hT : FP.Core.fieldT FP.Core.b64 n = c - 4503599627370496 := by
    unfold FP.Core.fieldT
    rw [fq_t]
    omega
  have hS : FP.Core.fieldS FP.Core.b64 n = false := by
    unfold FP.Core.fieldS
    rw [fq_t, fq_e, show n / 4503599627370496 / 2048 % 2 = 0 by omega]
    rfl
  unfold FP.Core.decode
  rw [hE, hT, hS, fq_e, fq_t, fq_qn, if_neg (by omega), if_neg (by omega)]
  have x1 : 4503599627370496 + (c - 4503599627370496) = c := by omega
  have x2 : -1074 + ((((q + 1074).toNat + 1 : Nat) : Int) - 1) = q := by omega
  rw [x1, x2]
theorem fq_near (a b : Nat) : a / b ≤ FP.Core.nearest a b ∧ FP.Core.nearest a b ≤ a / b + 1 := by
  unfold FP.Core.nearest
  split
  · omega
  · split
    · omega
    · have := Nat.mod_lt (a / b) (show 0 < 2 by decide)
      omega
theorem fq_near1 (a : Nat) : FP.Core.nearest a 1 = a := by
  unfold FP.Core.nearest
  rw [Nat.mod_one, if_pos (by omega), Nat.div_one]
/-- an int as a double -/
theorem fq_i2d {a : Int32} (h : 0 < a.toInt) : ∃ (c k : Nat), FP.Core.decode FP.Core.b64 (FP.i2d a).toNat = .fin false c ((k : Int) - 52) ∧ 4503599627370496 ≤ c ∧ c < 9007199254740992 ∧ k ≤ 30 ∧ c = a.toInt.toNat * 2 ^ (52 - k) ∧ 2 ^ k ≤ a.toInt.toNat ∧ a.toInt.toNat < 2 ^ (k + 1) := by
  have ha := a.toInt_lt
  obtain ⟨n, hn⟩ : ∃ n, n = a.toInt.toNat := ⟨_, rfl⟩
  obtain ⟨k, hk⟩ : ∃ k, k = n.log2 := ⟨_, rfl⟩
  have n0 : n ≠ 0 := by omega
  have k1 : 2 ^ k ≤ n := by rw [hk]; exact Nat.log2_self_le n0
  have k2 : n < 2 ^ (k + 1) := by rw [hk]; exact Nat.lt_log2_self
  have k30 : k ≤ 30 := by
    have h31 : n < 2 ^ 31 := by omega
    have := (Nat.log2_lt n0).mpr h31
    omega
  have c1 : n * 2 ^ (52 - k) < 9007199254740992 := by
    rw [← fq_53, show 53 = (k + 1) + (52 - k) by omega, Nat.pow_add]
    exact Nat.mul_lt_mul_of_pos_right k2 (Nat.two_pow_pos _)
  have c2 : 4503599627370496 ≤ n * 2 ^ (52 - k) := by
    rw [← fq_52]
    calc 2 ^ 52 = 2 ^ k * 2 ^ (52 - k) := by rw [← Nat.pow_add, show k + (52 - k) = 52 by omega]
      _ ≤ n * 2 ^ (52 - k) := Nat.mul_le_mul_right _ k1
  refine ⟨n * 2 ^ (52 - k), k, ?_, c2, c1, k30, by rw [hn], by rw [← hn]; exact k1, by rw [← hn]; exact k2⟩
  have hnum : FP.Core.unitsNum n 0 ((k : Int) - 52) = n * 2 ^ (52 - k) := by
    unfold FP.Core.unitsNum
    rw [show ((0 : Int) - ((k : Int) - 52)).toNat = 52 - k by omega]
  have hden : FP.Core.unitsDen 1 0 ((k : Int) - 52) = 1 := by
    unfold FP.Core.unitsDen
    rw [show (((k : Int) - 52) - 0).toNat = 0 by omega]
  have hlead : FP.Core.leading n 1 = (k : Int) := by
    have e0 : ((n.log2 : Nat) : Int) - ((Nat.log2 1 : Nat) : Int) = (k : Int) := by
      rw [← hk, show Nat.log2 1 = 0 from by decide]
      omega
    show (if 1 * 2 ^ (((n.log2 : Nat) : Int) - ((Nat.log2 1 : Nat) : Int)).toNat ≤ n * 2 ^ (-(((n.log2 : Nat) : Int) - ((Nat.log2 1 : Nat) : Int))).toNat then ((n.log2 : Nat) : Int) - ((Nat.log2 1 : Nat) : Int) else ((n.log2 : Nat) : Int) - ((Nat.log2 1 : Nat) : Int) - 1) = (k : Int)
    rw [e0, show (-(k : Int)).toNat = 0 by omega, show ((k : Int)).toNat = k by omega]
    exact if_pos (by rw [Nat.one_mul, Nat.pow_zero, Nat.mul_one]; exact k1)
  have hq : FP.Core.quantum FP.Core.b64 n 1 0 = (k : Int) - 52 := by
    unfold FP.Core.quantum
    rw [hlead, fq_qn, fq_p]
    omega
  have hr : FP.Core.roundRatio FP.Core.b64 false n 1 0 = .fin false (n * 2 ^ (52 - k)) ((k : Int) - 52) := by
    unfold FP.Core.roundRatio
    rw [if_neg n0, hq]
    unfold FP.Core.roundAt
    rw [hnum, hden, fq_near1]
    unfold FP.Core.settle
    rw [fq_p, fq_53, if_pos c1]
    unfold FP.Core.bound
    rw [fq_qx, if_pos (by omega)]
  have he : FP.i2d a = UInt64.ofNat (FP.Core.encode FP.Core.b64 (FP.Core.roundRatio FP.Core.b64 false n 1 0)) := by
    have h2 : a.toInt.natAbs = n := by omega
    show UInt64.ofNat (FP.Core.encode FP.Core.b64 (FP.Core.roundRatio FP.Core.b64 (decide (a.toInt < 0)) a.toInt.natAbs 1 0)) = _
    rw [h2, show decide (a.toInt < 0) = false from decide_eq_false (by omega)]
  rw [he, hr]
  exact fq_dec c2 c1 (by omega) (by omega)
theorem fq_log {A : Nat} (h1 : 4503599627370496 ≤ A) (h2 : A < 9007199254740992) : A.log2 = 52 := (Nat.log2_eq_iff (by omega)).mpr ⟨by rw [fq_52]; exact h1, by rw [fq_53]; exact h2⟩
theorem fq_p2 {k : Nat} (h : 1 ≤ k) : 9007199254740992 ≤ 4503599627370496 * 2 ^ k := by
  have : 2 ^ 1 ≤ 2 ^ k := Nat.pow_le_pow_right (by decide) h
  omega
/-- the quotient, rounded -/
theorem fq_rr {A B : Nat} {e : Int} (a1 : 4503599627370496 ≤ A) (a2 : A < 9007199254740992) (b1 : 4503599627370496 ≤ B) (b2 : B < 9007199254740992) (e1 : -30 ≤ e) (e2 : e ≤ 0) (hv : e = 0 → A ≤ B) : ∃ (C : Nat) (Q : Int), FP.Core.roundRatio FP.Core.b64 false A B e = .fin false C Q ∧ 4503599627370496 ≤ C ∧ C < 9007199254740992 ∧ -1074 ≤ Q ∧ Q ≤ -52 ∧ C ≤ 4503599627370496 * 2 ^ (-52 - Q).toNat := by
  have hb0 : 0 < B := by omega
  have hlead : FP.Core.leading A B = if B ≤ A then 0 else -1 := by
    have e0 : ((A.log2 : Nat) : Int) - ((B.log2 : Nat) : Int) = 0 := by
      rw [fq_log a1 a2, fq_log b1 b2]
      omega
    show (if B * 2 ^ (((A.log2 : Nat) : Int) - ((B.log2 : Nat) : Int)).toNat ≤ A * 2 ^ (-(((A.log2 : Nat) : Int) - ((B.log2 : Nat) : Int))).toNat then ((A.log2 : Nat) : Int) - ((B.log2 : Nat) : Int) else ((A.log2 : Nat) : Int) - ((B.log2 : Nat) : Int) - 1) = _
    rw [e0, show (0 : Int).toNat = 0 from rfl, show (-(0 : Int)).toNat = 0 from rfl, Nat.pow_zero, Nat.mul_one, Nat.mul_one]
    rfl
  have hden : ∀ q : Int, q ≤ e → FP.Core.unitsDen B e q = B := fun q hq => by
    unfold FP.Core.unitsDen
    rw [show (q - e).toNat = 0 by omega, Nat.pow_zero, Nat.mul_one]
  have main : ∀ (q : Int) (c : Nat), -1074 ≤ q → q ≤ -52 → 4503599627370496 ≤ c → (c = 4503599627370496 ∨ (c ≤ 9007199254740992 ∧ q ≤ -53)) → ∃ (C : Nat) (Q : Int), FP.Core.settle FP.Core.b64 false c q = .fin false C Q ∧ 4503599627370496 ≤ C ∧ C < 9007199254740992 ∧ -1074 ≤ Q ∧ Q ≤ -52 ∧ C ≤ 4503599627370496 * 2 ^ (-52 - Q).toNat := by
    intro q c q1 q2 c1 hc
    unfold FP.Core.settle
    rw [fq_p, fq_53]
    by_cases hlt : c < 9007199254740992
    · rw [if_pos hlt]
      unfold FP.Core.bound
      rw [fq_qx, if_pos (by omega)]
      refine ⟨c, q, rfl, c1, hlt, q1, q2, ?_⟩
      rcases hc with hc | ⟨-, hc⟩
      · rw [hc]
        have := Nat.two_pow_pos (-52 - q).toNat
        omega
      · have := fq_p2 (k := (-52 - q).toNat) (by omega)
        omega
    · rw [if_neg hlt]
      unfold FP.Core.bound
      rw [fq_qx, if_pos (by omega), fq_t]
      refine ⟨4503599627370496, q + 1, rfl, Nat.le_refl _, by decide, by omega, by omega, ?_⟩
      have := Nat.two_pow_pos (-52 - (q + 1)).toNat
      omega
  have hq : FP.Core.quantum FP.Core.b64 A B e = FP.Core.leading A B + e - 52 := by
    unfold FP.Core.quantum
    rw [fq_qn, fq_p]
    have : FP.Core.leading A B = 0 ∨ FP.Core.leading A B = -1 := by
      rw [hlead]
      split
      · exact Or.inl rfl
      · exact Or.inr rfl
    omega
  unfold FP.Core.roundRatio
  rw [if_neg (by omega), hq]
  unfold FP.Core.roundAt
  by_cases hBA : B ≤ A
  · rw [hlead, if_pos hBA, hden _ (by omega)]
    have hnum : FP.Core.unitsNum A e (0 + e - 52) = A * 4503599627370496 := by
      unfold FP.Core.unitsNum
      rw [show (e - (0 + e - 52)).toNat = 52 by omega, fq_52]
    rw [hnum]
    have l1 : 4503599627370496 ≤ A * 4503599627370496 / B := (Nat.le_div_iff_mul_le hb0).mpr (by omega)
    have hnr := fq_near (A * 4503599627370496) B
    by_cases he : e = 0
    · have hAB : A = B := by have := hv he; omega
      have hx : FP.Core.nearest (A * 4503599627370496) B = 4503599627370496 := by
        rw [hAB]
        unfold FP.Core.nearest
        rw [Nat.mul_mod_right, if_pos (by omega), Nat.mul_div_cancel_left _ hb0]
      rw [hx]
      exact main _ _ (by omega) (by omega) (Nat.le_refl _) (Or.inl rfl)
    · have l2 : A * 4503599627370496 / B < 9007199254740992 := (Nat.div_lt_iff_lt_mul hb0).mpr (by omega)
      exact main _ _ (by omega) (by omega) (by omega) (Or.inr ⟨by omega, by omega⟩)
  · rw [hlead, if_neg hBA, hden _ (by omega)]
    have hnum : FP.Core.unitsNum A e (-1 + e - 52) = A * 9007199254740992 := by
      unfold FP.Core.unitsNum
      rw [show (e - (-1 + e - 52)).toNat = 53 by omega, fq_53]
    rw [hnum]
    have l1 : 4503599627370496 ≤ A * 9007199254740992 / B := (Nat.le_div_iff_mul_le hb0).mpr (by omega)
    have l2 : A * 9007199254740992 / B < 9007199254740992 := (Nat.div_lt_iff_lt_mul hb0).mpr (by omega)
    have hnr := fq_near (A * 9007199254740992) B
    exact main _ _ (by omega) (by omega) (by omega) (Or.inr ⟨by omega, by omega⟩)
theorem fq_cmp {a b : Int} (h : a ≤ b) : compare a b ≠ .gt := by
  show compareOfLessAndEq a b ≠ .gt
  unfold compareOfLessAndEq
  split
  · exact fun z => Ordering.noConfusion z
  · split
    · exact fun z => Ordering.noConfusion z
    · exfalso
      omega
theorem fq_cmp2 {a b : Int} (h : b ≤ a) : compare a b ≠ .lt := by
  show compareOfLessAndEq a b ≠ .lt
  unfold compareOfLessAndEq
  split
  · exfalso
    omega
  · split
    · exact fun z => Ordering.noConfusion z
    · exact fun z => Ordering.noConfusion z
theorem fq_one : FP.Core.decode FP.Core.b64 FP.dconst1.toNat = .fin false 4503599627370496 (-52) := by decide +kernel
theorem fq_zero : FP.Core.decode FP.Core.b64 FP.dconst0.toNat = .fin false 0 (-1074) := by decide +kernel
/-- what the law asks of a double: not below 0, not above 1, and a number -/
def fq_ok (x : UInt64) : Prop := ¬ Op.cmpValue (FP.dcmp x FP.dconst0) CmpOp.g < 0 ∧ Op.cmpValue (FP.dcmp x FP.dconst1) CmpOp.l ≤ 0
theorem fq_of {x : UInt64} {C : Nat} {Q : Int} (hd : FP.Core.decode FP.Core.b64 x.toNat = .fin false C Q) (q1 : -1074 ≤ Q) (q2 : Q ≤ -52) (hc : C ≤ 4503599627370496 * 2 ^ (-52 - Q).toNat) : fq_ok x := by
  refine ⟨?_, ?_⟩
  · have e : FP.dcmp x FP.dconst0 = some (compare ((FP.Core.inUnits C Q (min Q (-1074)) : Nat) : Int) ((FP.Core.inUnits 0 (-1074) (min Q (-1074)) : Nat) : Int)) := by
      show FP.Core.order (FP.Core.decode FP.Core.b64 x.toNat) (FP.Core.decode FP.Core.b64 FP.dconst0.toNat) = _
      rw [hd, fq_zero]
      rfl
    have e2 : FP.Core.inUnits 0 (-1074) (min Q (-1074)) = 0 := Nat.zero_mul _
    have h := fq_cmp2 (a := ((FP.Core.inUnits C Q (min Q (-1074)) : Nat) : Int)) (b := ((FP.Core.inUnits 0 (-1074) (min Q (-1074)) : Nat) : Int)) (by rw [e2]; omega)
    rw [e]
    cases ho : compare ((FP.Core.inUnits C Q (min Q (-1074)) : Nat) : Int) ((FP.Core.inUnits 0 (-1074) (min Q (-1074)) : Nat) : Int) with
    | lt => exact absurd ho h
    | eq => decide
    | gt => decide
  · have e : FP.dcmp x FP.dconst1 = some (compare ((FP.Core.inUnits C Q (min Q (-52)) : Nat) : Int) ((FP.Core.inUnits 4503599627370496 (-52) (min Q (-52)) : Nat) : Int)) := by
      show FP.Core.order (FP.Core.decode FP.Core.b64 x.toNat) (FP.Core.decode FP.Core.b64 FP.dconst1.toNat) = _
      rw [hd, fq_one]
      rfl
    have e1 : FP.Core.inUnits C Q (min Q (-52)) = C := by
      unfold FP.Core.inUnits
      rw [show (Q - min Q (-52)).toNat = 0 by omega, Nat.pow_zero, Nat.mul_one]
    have e2 : FP.Core.inUnits 4503599627370496 (-52) (min Q (-52)) = 4503599627370496 * 2 ^ (-52 - Q).toNat := by
      unfold FP.Core.inUnits
      rw [show (-52 - min Q (-52)).toNat = (-52 - Q).toNat by omega]
    have h := fq_cmp (a := ((FP.Core.inUnits C Q (min Q (-52)) : Nat) : Int)) (b := ((FP.Core.inUnits 4503599627370496 (-52) (min Q (-52)) : Nat) : Int)) (by rw [e1, e2]; exact Int.ofNat_le.mpr hc)
    rw [e]
    cases ho : compare ((FP.Core.inUnits C Q (min Q (-52)) : Nat) : Int) ((FP.Core.inUnits 4503599627370496 (-52) (min Q (-52)) : Nat) : Int) with
    | lt => decide
    | eq => decide
    | gt => exact absurd ho h
theorem fq_okz : fq_ok FP.dconst0 := by
  refine fq_of (C := 0) (Q := -1074) fq_zero (by decide) (by decide) (Nat.zero_le _)
/-- a number is no NaN -/
theorem fq_num {x : UInt64} {C : Nat} {Q : Int} (hd : FP.Core.decode FP.Core.b64 x.toNat = .fin false C Q) : ¬ isNaN64 x = true := by
  intro h
  have h1 := isNaN64_iff.mp h
  have e : x.toNat &&& 0x7fffffffffffffff = x.toNat % 2 ^ 63 := Nat.and_two_pow_sub_one_eq_mod x.toNat 63
  rw [e] at h1
  have hE : FP.Core.fieldE FP.Core.b64 x.toNat = 2047 := by
    show x.toNat / 2 ^ 52 % 2 ^ 11 = 2047
    omega
  unfold FP.Core.decode at hd
  rw [if_pos (by rw [hE, fq_e])] at hd
  split at hd
  · exact FP.Core.Datum.noConfusion hd
  · exact FP.Core.Datum.noConfusion hd
/-- the class's own quotient -/
theorem fq_rr2 {a g : Int32} {r : UInt64} (h0 : 0 ≤ a.toInt) (h1 : a.toInt ≤ g.toInt) (hr : aq_rr a g r) : fq_ok r := by
  unfold aq_rr at hr
  by_cases hg : g = 0
  · rw [if_pos hg] at hr
    rw [hr]
    exact fq_okz
  · rw [if_neg hg] at hr
    have hg0 : 0 < g.toInt := by
      have : g.toInt ≠ 0 := fun z => hg (pu_eq (by rw [z, pu_0]))
      omega
    obtain ⟨d, kg, hd, d1, d2, kg30, hdg, kg1, kg2⟩ := fq_i2d hg0
    have main : ∀ (C : Nat) (Q : Int), FP.Core.decode FP.Core.b64 (FP.ddiv (FP.i2d a) (FP.i2d g)).toNat = .fin false C Q → -1074 ≤ Q → Q ≤ -52 → C ≤ 4503599627370496 * 2 ^ (-52 - Q).toNat → fq_ok r := by
      intro C Q e q1 q2 hc
      unfold alike64 at hr
      simp only [Bool.or_eq_true, decide_eq_true_eq, Bool.and_eq_true] at hr
      rcases hr with hr | ⟨-, hr⟩
      · rw [hr]
        exact fq_of e q1 q2 hc
      · exact absurd hr (fq_num e)
    by_cases ha : a.toInt = 0
    · have ea : a = 0 := pu_eq (by rw [ha, pu_0])
      have ed : FP.Core.decode FP.Core.b64 (FP.i2d a).toNat = .fin false 0 (-1074) := by rw [ea]; decide +kernel
      refine main 0 (-1074) ?_ (by decide) (by decide) (Nat.zero_le _)
      have e1 : FP.ddiv (FP.i2d a) (FP.i2d g) = UInt64.ofNat (FP.Core.encode FP.Core.b64 (FP.Core.quotient FP.Core.b64 (FP.Core.decode FP.Core.b64 (FP.i2d a).toNat) (FP.Core.decode FP.Core.b64 (FP.i2d g).toNat))) := rfl
      have e2 : FP.Core.quotient FP.Core.b64 (.fin false 0 (-1074)) (.fin false d ((kg : Int) - 52)) = .fin false 0 (-1074) := by
        show (if d = 0 then _ else FP.Core.roundRatio FP.Core.b64 (false != false) 0 d (-1074 - ((kg : Int) - 52))) = _
        rw [if_neg (by omega)]
        unfold FP.Core.roundRatio
        rw [if_pos rfl, fq_qn]
        rfl
      rw [e1, ed, hd, e2]
      decide +kernel
    · obtain ⟨c, ka, hc, c1, c2, ka30, hca, ka1, ka2⟩ := fq_i2d (a := a) (by omega)
      have hk : ka ≤ kg := by
        refine Nat.le_of_not_lt (fun hlt => ?_)
        have : 2 ^ (kg + 1) ≤ 2 ^ ka := Nat.pow_le_pow_right (by decide) hlt
        omega
      obtain ⟨C, Q, hR, C1, C2, Q1, Q2, hC⟩ := fq_rr (A := c) (B := d) (e := (ka : Int) - 52 - ((kg : Int) - 52)) c1 c2 d1 d2 (by omega) (by omega) (fun he => by
        have hkk : ka = kg := by omega
        rw [hca, hdg, hkk]
        exact Nat.mul_le_mul_right _ (by omega))
      refine main C Q ?_ Q1 Q2 hC
      have e1 : FP.ddiv (FP.i2d a) (FP.i2d g) = UInt64.ofNat (FP.Core.encode FP.Core.b64 (FP.Core.quotient FP.Core.b64 (FP.Core.decode FP.Core.b64 (FP.i2d a).toNat) (FP.Core.decode FP.Core.b64 (FP.i2d g).toNat))) := rfl
      have e2 : FP.Core.quotient FP.Core.b64 (.fin false c ((ka : Int) - 52)) (.fin false d ((kg : Int) - 52)) = .fin false C Q := by
        show (if d = 0 then _ else FP.Core.roundRatio FP.Core.b64 (false != false) c d ((ka : Int) - 52 - ((kg : Int) - 52))) = _
        rw [if_neg (by omega)]
        exact hR
      rw [e1, hc, hd, e2]
      exact fq_dec C1 C2 Q1 (by omega)
