theorem in_X0_letCityDrink_X0 : ∀ w ∈ wsX00, w ∈ wsX0_letCityDrink := fun _ h => List.mem_cons_of_mem _ (List.mem_append_right _ h)
set_option maxHeartbeats 4000000 in
set_option maxRecDepth 100000 in
/-- X0_letCityDrink -/
theorem c_X0_letCityDrink (l : Launch) {D : va_G} {ad : Nat → Nat} {cI cQ : ClassId} (hJ : aq_J 49 ad) {V : aq_V} {Q : aq_Q} {j : Nat} (hj : j < 2) (o : Int32) : aq_Met l yX0_letCityDrink wsX0_letCityDrink ({ frames := 1, cells := 0, slots := 0, locals := 21 }) D (aC_t cI cQ) 49 ad [.ref (ad (3 + j)), .int o] (aC_w ad cI cQ (aq_ug V j Q)) (aq_Qv D (aC_t cI cQ) 49 ad (aC_w ad cI cQ (aq_ug V j (aq_drinkQ Q o)))) 0 0 := by
  refine aq_enter (cc := cX0_letCityDrink) (maxL := 3) (ret := none) (by decide) rfl (Nat.le_of_ble_eq_true rfl) ?_
  intro p e s m below meth c ls S hr hlocks hnm I hl
  have S : CallFix p m c cX0_letCityDrink 3 s _ wsX0_letCityDrink RX0 := S
  have hl : lv_has ls 3 [(0, .ref (ad (3 + j))), (1, .int o)] := hl
  refine lv_iload_n S.1 S.2.1 dX0_letCityDrink_0 rfl (lv_at hl 1 rfl) ?_
  refine lv_aload_n S.1 S.2.1 dX0_letCityDrink_1 rfl (lv_at hl 0 rfl) ?_
  refine aC_getS (j := j) (x := Q 10 7) S I hj 7 (by decide) (by decide) in_X0_letCityDrink_X0 (List.mem_of_getElem? (i := 1) rfl) (by rw [aq_ug_s]) dX0_letCityDrink_2 ?_
  refine aq_mmin S hl.1 (List.mem_of_getElem? (i := 2) rfl) (List.mem_of_getElem? (i := 3) rfl) (List.mem_of_getElem? (i := 4) rfl) (List.mem_of_getElem? (i := 5) rfl) (by decide) (Nat.le_of_ble_eq_true rfl) (by decide) (by decide) dX0_letCityDrink_5 ?_
  refine lv_istore_n (lv' := [(2, .int (aq_mn o (Q 10 7))), (0, .ref (ad (3 + j))), (1, .int o)]) S.1 S.2.1 dX0_letCityDrink_8 rfl hl (by decide) rfl (fun ls hl => ?_)
  refine lv_aload_n S.1 S.2.1 dX0_letCityDrink_9 rfl (lv_at hl 1 rfl) ?_
  refine lv_dup S.1 S.2.1 dX0_letCityDrink_10 rfl ?_
  refine aC_getS (j := j) (x := Q 10 7) S I hj 7 (by decide) (by decide) in_X0_letCityDrink_X0 (List.mem_of_getElem? (i := 1) rfl) (by rw [aq_ug_s]) dX0_letCityDrink_11 ?_
  refine lv_iload_n S.1 S.2.1 dX0_letCityDrink_14 rfl (lv_at hl 0 rfl) ?_
  refine lv_isub S.1 S.2.1 dX0_letCityDrink_15 ?_
  refine aC_putS (V := V) (Q := Q) (j := j) (x := Q 10 7 - (aq_mn o (Q 10 7))) hJ S I hj 7 (by decide) (by decide) in_X0_letCityDrink_X0 (List.mem_of_getElem? (i := 1) rfl) dX0_letCityDrink_16 (fun H locs M1 hM1 I => ?_)
  refine lv_aload_n S.1 S.2.1 dX0_letCityDrink_19 rfl (lv_at hl 1 rfl) ?_
  refine lv_dup S.1 S.2.1 dX0_letCityDrink_20 rfl ?_
  refine aC_getS (j := j) (x := M1 10 11) S I hj 11 (by decide) (by decide) in_X0_letCityDrink_X0 (List.mem_of_getElem? (i := 6) rfl) (by rw [aq_ug_s]) dX0_letCityDrink_21 ?_
  refine lv_iload_n S.1 S.2.1 dX0_letCityDrink_24 rfl (lv_at hl 0 rfl) ?_
  refine lv_iadd S.1 S.2.1 dX0_letCityDrink_25 ?_
  refine lv_topi (fun x2 (ex2 : x2 = M1 10 11 + (aq_mn o (Q 10 7))) => ?_)
  refine aC_putS (V := V) (Q := M1) (j := j) (x := x2) hJ S I hj 11 (by decide) (by decide) in_X0_letCityDrink_X0 (List.mem_of_getElem? (i := 6) rfl) dX0_letCityDrink_26 (fun H locs M3 hM3 I => ?_)
  refine lv_aload_n S.1 S.2.1 dX0_letCityDrink_29 rfl (lv_at hl 1 rfl) ?_
  refine lv_dup S.1 S.2.1 dX0_letCityDrink_30 rfl ?_
  refine aC_getS (j := j) (x := M3 10 12) S I hj 12 (by decide) (by decide) in_X0_letCityDrink_X0 (List.mem_of_getElem? (i := 7) rfl) (by rw [aq_ug_s]) dX0_letCityDrink_31 ?_
  refine lv_iload_n S.1 S.2.1 dX0_letCityDrink_34 rfl (lv_at hl 2 rfl) ?_
  refine lv_iload_n S.1 S.2.1 dX0_letCityDrink_35 rfl (lv_at hl 0 rfl) ?_
  refine lv_isub S.1 S.2.1 dX0_letCityDrink_36 ?_
  refine lv_iadd S.1 S.2.1 dX0_letCityDrink_37 ?_
  refine lv_topi (fun x4 (ex4 : x4 = M3 10 12 + (o - (aq_mn o (Q 10 7)))) => ?_)
  refine aC_putS (V := V) (Q := M3) (j := j) (x := x4) hJ S I hj 12 (by decide) (by decide) in_X0_letCityDrink_X0 (List.mem_of_getElem? (i := 7) rfl) dX0_letCityDrink_38 (fun H locs M5 hM5 I => ?_)
  exact aq_vret S.1 S.2.1 hr hlocks I dX0_letCityDrink_41 (by decide) (by decide) (by subst_vars; rfl)
theorem in_X0_slope_X0 : ∀ w ∈ wsX00, w ∈ wsX0_slope := fun _ h => List.mem_cons_of_mem _ (List.mem_append_left _ (List.mem_append_right _ h))
theorem in_X0_slope_X1 : ∀ w ∈ wsX10, w ∈ wsX0_slope := fun _ h => List.mem_cons_of_mem _ (List.mem_append_right _ h)
set_option maxHeartbeats 4000000 in
set_option maxRecDepth 100000 in
/-- X0_slope -/
theorem c_X0_slope (l : Launch) {D : va_G} {ad : Nat → Nat} {cI cQ : ClassId} (hJ : aq_J 49 ad) {V : aq_V} {Q : aq_Q} {j n : Nat} (hj : j < 2) (hn : Q 10 3 = nI n) (hn20 : n ≤ 20) {a : Nat} (ha : a < n) : aq_Met l yX0_slope wsX0_slope ({ frames := 0, cells := 0, slots := 0, locals := 0 }) D (aC_t cI cQ) 49 ad [.ref (ad (3 + j)), .int (nI a)] (aC_w ad cI cQ (aq_ug V j Q)) (aq_Qi D (aC_t cI cQ) 49 ad (aq_slope n Q a) (aC_w ad cI cQ (aq_ug V j Q))) 0 0 := by
  refine aq_enter (cc := cX0_slope) (maxL := 3) (ret := some .int) (by decide) rfl (Nat.le_of_ble_eq_true rfl) ?_
  intro p e s m below meth c ls S hr hlocks hnm I hl
  have S : CallFix p m c cX0_slope 3 s _ wsX0_slope RX0 := S
  have hl : lv_has ls 3 [(0, .ref (ad (3 + j))), (1, .int (nI a))] := hl
  refine lv_iload_n S.1 S.2.1 dX0_slope_0 rfl (lv_at hl 1 rfl) ?_
  refine lv_iconst (v := 1) S.1 S.2.1 dX0_slope_1 (by decide) ?_
  refine lv_iadd S.1 S.2.1 dX0_slope_2 ?_
  refine lv_topi (fun x1 (ex1 : x1 = nI a + 1) => ?_)
  rw [nI_1] at ex1; subst ex1
  refine lv_aload_n S.1 S.2.1 dX0_slope_3 rfl (lv_at hl 0 rfl) ?_
  refine aC_getS (j := j) (x := nI n) S I hj 3 (by decide) (by decide) in_X0_slope_X0 (List.mem_of_getElem? (i := 1) rfl) (by rw [aq_ug_s]; exact hn) dX0_slope_4 ?_
  refine lv_icmp_ge (tgt := 24) S.1 S.2.1 dX0_slope_7 (by decide) (fun c2 => ?_) (fun c2 => ?_)
  · have c2 : n ≤ (a + 1) := (nI_leI (a := n) (b := (a + 1)) (by omega) (by omega)).mp c2
    refine lv_iconst (v := 0) S.1 S.2.1 dX0_slope_24 (by decide) ?_
    refine lv_istore_n (lv' := [(2, .int 0), (0, .ref (ad (3 + j))), (1, .int (nI a))]) S.1 S.2.1 dX0_slope_25 rfl hl (by decide) rfl (fun ls hl => ?_)
    refine lv_aload_n S.1 S.2.1 dX0_slope_26 rfl (lv_at hl 1 rfl) ?_
    refine aC_getR (j := j) S I hj in_X0_slope_X0 (List.mem_of_getElem? (i := 2) rfl) dX0_slope_27 ?_
    refine lv_iload_n S.1 S.2.1 dX0_slope_30 rfl (lv_at hl 2 rfl) ?_
    refine aC_row (j := j) (i := a) S I hj rfl (by omega) dX0_slope_31 ?_
    refine aC_getA (j := j) (i := a) (x := Q 0 a) S I hj (by omega) 0 (by decide) in_X0_slope_X1 (List.mem_of_getElem? (i := 3) rfl) (by rw [aq_ug_s]) dX0_slope_32 ?_
    refine lv_iload_n S.1 S.2.1 dX0_slope_35 rfl (lv_at hl 0 rfl) ?_
    refine lv_isub S.1 S.2.1 dX0_slope_36 ?_
    exact aq_iret S.1 S.2.1 hr hlocks I dX0_slope_37 (by decide) (by decide) (by subst_vars; first | rfl | (simp only [aq_slope, if_neg (Nat.not_lt.mpr c2)]; done) | (simp only [aq_slope, if_neg (Nat.not_lt.mpr c2)]; rfl)) (by subst_vars; first | rfl | (simp only [aq_slope, if_neg (Nat.not_lt.mpr c2)]; done) | (simp only [aq_slope, if_neg (Nat.not_lt.mpr c2)]; rfl))
  · have c2 : (a + 1) < n := Nat.lt_of_not_le (fun z9 => c2 ((nI_leI (a := n) (b := (a + 1)) (by omega) (by omega)).mpr z9))
    refine lv_aload_n S.1 S.2.1 dX0_slope_10 rfl (lv_at hl 0 rfl) ?_
    refine aC_getR (j := j) S I hj in_X0_slope_X0 (List.mem_of_getElem? (i := 2) rfl) dX0_slope_11 ?_
    refine lv_iload_n S.1 S.2.1 dX0_slope_14 rfl (lv_at hl 1 rfl) ?_
    refine lv_iconst (v := 1) S.1 S.2.1 dX0_slope_15 (by decide) ?_
    refine lv_iadd S.1 S.2.1 dX0_slope_16 ?_
    refine lv_topi (fun x3 (ex3 : x3 = nI a + 1) => ?_)
    rw [nI_1] at ex3; subst ex3
    refine aC_row (j := j) (i := a + 1) S I hj rfl (by omega) dX0_slope_17 ?_
    refine aC_getA (j := j) (i := a + 1) (x := Q 0 (a + 1)) S I hj (by omega) 0 (by decide) in_X0_slope_X1 (List.mem_of_getElem? (i := 3) rfl) (by rw [aq_ug_s]) dX0_slope_18 ?_
    refine lv_goto (tgt := 25) S.1 S.2.1 dX0_slope_21 (by decide) ?_
    refine lv_istore_n (lv' := [(2, .int (Q 0 (a + 1))), (0, .ref (ad (3 + j))), (1, .int (nI a))]) S.1 S.2.1 dX0_slope_25 rfl hl (by decide) rfl (fun ls hl => ?_)
    refine lv_aload_n S.1 S.2.1 dX0_slope_26 rfl (lv_at hl 1 rfl) ?_
    refine aC_getR (j := j) S I hj in_X0_slope_X0 (List.mem_of_getElem? (i := 2) rfl) dX0_slope_27 ?_
    refine lv_iload_n S.1 S.2.1 dX0_slope_30 rfl (lv_at hl 2 rfl) ?_
    refine aC_row (j := j) (i := a) S I hj rfl (by omega) dX0_slope_31 ?_
    refine aC_getA (j := j) (i := a) (x := Q 0 a) S I hj (by omega) 0 (by decide) in_X0_slope_X1 (List.mem_of_getElem? (i := 3) rfl) (by rw [aq_ug_s]) dX0_slope_32 ?_
    refine lv_iload_n S.1 S.2.1 dX0_slope_35 rfl (lv_at hl 0 rfl) ?_
    refine lv_isub S.1 S.2.1 dX0_slope_36 ?_
    exact aq_iret S.1 S.2.1 hr hlocks I dX0_slope_37 (by decide) (by decide) (by subst_vars; first | rfl | (simp only [aq_slope, if_pos c2]; done) | (simp only [aq_slope, if_pos c2]; rfl)) (by subst_vars; first | rfl | (simp only [aq_slope, if_pos c2]; done) | (simp only [aq_slope, if_pos c2]; rfl))
set_option maxHeartbeats 4000000 in
set_option maxRecDepth 100000 in
/-- X0_rate -/
theorem c_X0_rate (l : Launch) {D : va_G} {ad : Nat → Nat} {cI cQ : ClassId} (hJ : aq_J 49 ad) {V : aq_V} {Q : aq_Q} {j n : Nat} (hj : j < 2) (hn : Q 10 3 = nI n) (hn20 : n ≤ 20) {a : Nat} (ha : a < n) : aq_Met l yX0_rate wsX0_rate ({ frames := 1, cells := 0, slots := 0, locals := 22 }) D (aC_t cI cQ) 49 ad [.ref (ad (3 + j)), .int (nI a)] (aC_w ad cI cQ (aq_ug V j Q)) (aq_Qi D (aC_t cI cQ) 49 ad (aq_rate n Q a) (aC_w ad cI cQ (aq_ug V j Q))) 0 0 := by
  refine aq_enter (cc := cX0_rate) (maxL := 2) (ret := some .int) (by decide) rfl (Nat.le_of_ble_eq_true rfl) ?_
  intro p e s m below meth c ls S hr hlocks hnm I hl
  have S : CallFix p m c cX0_rate 2 s _ wsX0_rate RX0 := S
  have hl : lv_has ls 2 [(0, .ref (ad (3 + j))), (1, .int (nI a))] := hl
  refine lv_bipush (v := 30) S.1 S.2.1 dX0_rate_0 (by decide) ?_
  refine lv_iconst (v := 2) S.1 S.2.1 dX0_rate_2 (by decide) ?_
  refine lv_aload_n S.1 S.2.1 dX0_rate_3 rfl (lv_at hl 0 rfl) ?_
  refine lv_iload_n S.1 S.2.1 dX0_rate_4 rfl (lv_at hl 1 rfl) ?_
  refine aq_callVi (As := [.int (nI a)]) (rest := [.int 2, .int 30]) S (c_X0_slope l hJ (V := V) (Q := Q) (j := j) hj hn hn20 (a := a) (by omega) ) (cwV 1 S.2.2.2.2 gX0_rate_X0_slope rfl rfl rfl (by decide +kernel) ⟨Nat.le_of_ble_eq_true rfl, Nat.le_of_ble_eq_true rfl⟩) (aC_recvS (j := j) I hj) I hl.1 dX0_rate_5 rfl rfl (Nat.le_of_ble_eq_true rfl) ⟨by first | decide | (dsimp only; omega), by first | decide | (dsimp only; omega)⟩ (fun H locs I => ?_)
  refine lv_iadd S.1 S.2.1 dX0_rate_8 ?_
  refine aq_mmin S hl.1 (List.mem_of_getElem? (i := 1) rfl) (List.mem_of_getElem? (i := 2) rfl) (List.mem_of_getElem? (i := 3) rfl) (List.mem_of_getElem? (i := 4) rfl) (by decide) (Nat.le_of_ble_eq_true rfl) (by decide) (by decide) dX0_rate_9 ?_
  refine lv_topi (fun x1 (ex1 : x1 = aq_mn 30 (2 + aq_slope n Q a)) => ?_)
  exact aq_iret S.1 S.2.1 hr hlocks I dX0_rate_12 (by decide) (by decide) (by subst_vars; rfl) (by subst_vars; rfl)
theorem in_X0_pour_X0 : ∀ w ∈ wsX00, w ∈ wsX0_pour := fun _ h => List.mem_cons_of_mem _ (List.mem_append_left _ (List.mem_append_right _ h))
set_option maxHeartbeats 4000000 in
set_option maxRecDepth 100000 in
/-- X0_pour -/
theorem c_X0_pour (l : Launch) {D : va_G} {ad : Nat → Nat} {cI cQ : ClassId} (hJ : aq_J 49 ad) {V : aq_V} {Q : aq_Q} {j n : Nat} (hj : j < 2) (hn : Q 10 3 = nI n) (hn20 : n ≤ 20) {a : Nat} (ha : a ≤ 22) (o : Int32) : aq_Met l yX0_pour wsX0_pour ({ frames := 2, cells := 0, slots := 0, locals := 43 }) D (aC_t cI cQ) 49 ad [.ref (ad (3 + j)), .int (nI a), .int o] (aC_w ad cI cQ (aq_ug V j Q)) (aq_Qi D (aC_t cI cQ) 49 ad (aq_pourR n Q a o) (aC_w ad cI cQ (aq_ug V j (aq_pourQ n Q a o)))) 0 0 := by
  refine aq_enter (cc := cX0_pour) (maxL := 4) (ret := some .int) (by decide) rfl (Nat.le_of_ble_eq_true rfl) ?_
  intro p e s m below meth c ls S hr hlocks hnm I hl
  have S : CallFix p m c cX0_pour 4 s _ wsX0_pour RX0 := S
  have hl : lv_has ls 4 [(0, .ref (ad (3 + j))), (1, .int (nI a)), (2, .int o)] := hl
  refine lv_iload_n S.1 S.2.1 dX0_pour_0 rfl (lv_at hl 1 rfl) ?_
  refine lv_aload_n S.1 S.2.1 dX0_pour_1 rfl (lv_at hl 0 rfl) ?_
  refine aC_getS (j := j) (x := nI n) S I hj 3 (by decide) (by decide) in_X0_pour_X0 (List.mem_of_getElem? (i := 1) rfl) (by rw [aq_ug_s]; exact hn) dX0_pour_2 ?_
  refine lv_icmp_ge (tgt := 19) S.1 S.2.1 dX0_pour_5 (by decide) (fun c1 => ?_) (fun c1 => ?_)
  · have c1 : n ≤ a := (nI_leI (a := n) (b := a) (by omega) (by omega)).mp c1
    refine lv_iload_n S.1 S.2.1 dX0_pour_19 rfl (lv_at hl 2 rfl) ?_
    refine lv_aload_n S.1 S.2.1 dX0_pour_20 rfl (lv_at hl 0 rfl) ?_
    refine aC_getS (j := j) (x := Q 10 6) S I hj 6 (by decide) (by decide) in_X0_pour_X0 (List.mem_of_getElem? (i := 3) rfl) (by rw [aq_ug_s]) dX0_pour_21 ?_
    refine lv_aload_n S.1 S.2.1 dX0_pour_24 rfl (lv_at hl 0 rfl) ?_
    refine aC_getS (j := j) (x := Q 10 7) S I hj 7 (by decide) (by decide) in_X0_pour_X0 (List.mem_of_getElem? (i := 4) rfl) (by rw [aq_ug_s]) dX0_pour_25 ?_
    refine lv_isub S.1 S.2.1 dX0_pour_28 ?_
    refine aq_mmin S hl.1 (List.mem_of_getElem? (i := 5) rfl) (List.mem_of_getElem? (i := 6) rfl) (List.mem_of_getElem? (i := 7) rfl) (List.mem_of_getElem? (i := 8) rfl) (by decide) (Nat.le_of_ble_eq_true rfl) (by decide) (by decide) dX0_pour_29 ?_
    refine lv_istore_n (lv' := [(3, .int (aq_mn o (Q 10 6 - Q 10 7))), (0, .ref (ad (3 + j))), (1, .int (nI a)), (2, .int o)]) S.1 S.2.1 dX0_pour_32 rfl hl (by decide) rfl (fun ls hl => ?_)
    refine lv_aload_n S.1 S.2.1 dX0_pour_33 rfl (lv_at hl 1 rfl) ?_
    refine lv_dup S.1 S.2.1 dX0_pour_34 rfl ?_
    refine aC_getS (j := j) (x := Q 10 7) S I hj 7 (by decide) (by decide) in_X0_pour_X0 (List.mem_of_getElem? (i := 4) rfl) (by rw [aq_ug_s]) dX0_pour_35 ?_
    refine lv_iload_n S.1 S.2.1 dX0_pour_38 rfl (lv_at hl 0 rfl) ?_
    refine lv_iadd S.1 S.2.1 dX0_pour_39 ?_
    refine lv_topi (fun x2 (ex2 : x2 = Q 10 7 + (aq_mn o (Q 10 6 - Q 10 7))) => ?_)
    refine aC_putS (V := V) (Q := Q) (j := j) (x := x2) hJ S I hj 7 (by decide) (by decide) in_X0_pour_X0 (List.mem_of_getElem? (i := 4) rfl) dX0_pour_40 (fun H locs M3 hM3 I => ?_)
    refine lv_iload_n S.1 S.2.1 dX0_pour_43 rfl (lv_at hl 0 rfl) ?_
    exact aq_iret S.1 S.2.1 hr hlocks I dX0_pour_44 (by decide) (by decide) (by subst_vars; first | rfl | (simp only [aq_pourR, aq_pourQ, if_neg (Nat.not_lt.mpr c1)]; done) | (simp only [aq_pourR, aq_pourQ, if_neg (Nat.not_lt.mpr c1)]; rfl)) (by subst_vars; first | rfl | (simp only [aq_pourR, aq_pourQ, if_neg (Nat.not_lt.mpr c1)]; done) | (simp only [aq_pourR, aq_pourQ, if_neg (Nat.not_lt.mpr c1)]; rfl))
  · have c1 : a < n := Nat.lt_of_not_le (fun z9 => c1 ((nI_leI (a := n) (b := a) (by omega) (by omega)).mpr z9))
    refine lv_aload_n S.1 S.2.1 dX0_pour_8 rfl (lv_at hl 0 rfl) ?_
    refine aC_getR (j := j) S I hj in_X0_pour_X0 (List.mem_of_getElem? (i := 2) rfl) dX0_pour_9 ?_
    refine lv_iload_n S.1 S.2.1 dX0_pour_12 rfl (lv_at hl 1 rfl) ?_
    refine aC_row (j := j) (i := a) S I hj rfl (by omega) dX0_pour_13 ?_
    refine lv_iload_n S.1 S.2.1 dX0_pour_14 rfl (lv_at hl 2 rfl) ?_
    refine aq_callVi (As := [.int o]) (rest := []) S (c_X1_fill l hJ (V := V) (Q := Q) (j := j) (i := a) hj (by omega) o) (cwV 1 S.2.2.2.2 gX0_pour_X1_fill rfl rfl rfl (by decide +kernel) ⟨Nat.le_of_ble_eq_true rfl, Nat.le_of_ble_eq_true rfl⟩) (aC_recvA (j := j) (i := a) I hj (by omega)) I hl.1 dX0_pour_15 rfl rfl (Nat.le_of_ble_eq_true rfl) ⟨by first | decide | (dsimp only; omega), by first | decide | (dsimp only; omega)⟩ (fun H locs I => ?_)
    obtain ⟨M4, hM4⟩ : ∃ z9 : aq_Q, z9 = aq_fillQ Q a o := ⟨_, rfl⟩
    rw [← hM4] at I
    exact aq_iret S.1 S.2.1 hr hlocks I dX0_pour_18 (by decide) (by decide) (by subst_vars; first | rfl | (simp only [aq_pourR, aq_pourQ, if_pos c1]; done) | (simp only [aq_pourR, aq_pourQ, if_pos c1]; rfl)) (by subst_vars; first | rfl | (simp only [aq_pourR, aq_pourQ, if_pos c1]; done) | (simp only [aq_pourR, aq_pourQ, if_pos c1]; rfl))
theorem in_X0_sendOn_X0 : ∀ w ∈ wsX00, w ∈ wsX0_sendOn := fun _ h => List.mem_cons_of_mem _ (List.mem_append_left _ (List.mem_append_right _ h))
theorem in_X0_sendOn_X1 : ∀ w ∈ wsX10, w ∈ wsX0_sendOn := fun _ h => List.mem_cons_of_mem _ (List.mem_append_right _ h)
set_option maxHeartbeats 4000000 in
set_option maxRecDepth 100000 in
/-- X0_sendOn -/
theorem c_X0_sendOn (l : Launch) {D : va_G} {ad : Nat → Nat} {cI cQ : ClassId} (hJ : aq_J 49 ad) {V : aq_V} {Q : aq_Q} {j n : Nat} (hj : j < 2) (hn : Q 10 3 = nI n) (hn20 : n ≤ 20) {a : Nat} (ha : a < n) : aq_Met l yX0_sendOn wsX0_sendOn ({ frames := 3, cells := 0, slots := 0, locals := 66 }) D (aC_t cI cQ) 49 ad [.ref (ad (3 + j)), .int (nI a)] (aC_w ad cI cQ (aq_ug V j Q)) (aq_Qv D (aC_t cI cQ) 49 ad (aC_w ad cI cQ (aq_ug V j (aq_sendQ n Q a)))) 0 0 := by
  refine aq_enter (cc := cX0_sendOn) (maxL := 5) (ret := none) (by decide) rfl (Nat.le_of_ble_eq_true rfl) ?_
  intro p e s m below meth c ls S hr hlocks hnm I hl
  have S : CallFix p m c cX0_sendOn 5 s _ wsX0_sendOn RX0 := S
  have hl : lv_has ls 5 [(0, .ref (ad (3 + j))), (1, .int (nI a))] := hl
  refine lv_aload_n S.1 S.2.1 dX0_sendOn_0 rfl (lv_at hl 0 rfl) ?_
  refine aC_getR (j := j) S I hj in_X0_sendOn_X0 (List.mem_of_getElem? (i := 1) rfl) dX0_sendOn_1 ?_
  refine lv_iload_n S.1 S.2.1 dX0_sendOn_4 rfl (lv_at hl 1 rfl) ?_
  refine aC_row (j := j) (i := a) S I hj rfl (by omega) dX0_sendOn_5 ?_
  refine lv_astore_n (lv' := [(2, .ref (ad (7 + 20 * j + a))), (0, .ref (ad (3 + j))), (1, .int (nI a))]) S.1 S.2.1 dX0_sendOn_6 rfl hl (by decide) rfl (fun ls hl => ?_)
  refine lv_aload_n S.1 S.2.1 dX0_sendOn_7 rfl (lv_at hl 0 rfl) ?_
  refine aC_getA (j := j) (i := a) (x := Q 2 a) S I hj (by omega) 2 (by decide) in_X0_sendOn_X1 (List.mem_of_getElem? (i := 2) rfl) (by rw [aq_ug_s]) dX0_sendOn_8 ?_
  refine lv_aload_n S.1 S.2.1 dX0_sendOn_11 rfl (lv_at hl 1 rfl) ?_
  refine lv_iload_n S.1 S.2.1 dX0_sendOn_12 rfl (lv_at hl 2 rfl) ?_
  refine aq_callVi (As := [.int (nI a)]) (rest := [.int (Q 2 a)]) S (c_X0_rate l hJ (V := V) (Q := Q) (j := j) hj hn hn20 (a := a) (by omega) ) (cwV 1 S.2.2.2.2 gX0_sendOn_X0_rate rfl rfl rfl (by decide +kernel) ⟨Nat.le_of_ble_eq_true rfl, Nat.le_of_ble_eq_true rfl⟩) (aC_recvS (j := j) I hj) I hl.1 dX0_sendOn_13 rfl rfl (Nat.le_of_ble_eq_true rfl) ⟨by first | decide | (dsimp only; omega), by first | decide | (dsimp only; omega)⟩ (fun H locs I => ?_)
  refine aq_mmin S hl.1 (List.mem_of_getElem? (i := 3) rfl) (List.mem_of_getElem? (i := 4) rfl) (List.mem_of_getElem? (i := 5) rfl) (List.mem_of_getElem? (i := 6) rfl) (by decide) (Nat.le_of_ble_eq_true rfl) (by decide) (by decide) dX0_sendOn_16 ?_
  refine lv_topi (fun x1 (ex1 : x1 = aq_mn (Q 2 a) (aq_rate n Q a)) => ?_)
  refine lv_istore_n (lv' := [(3, .int x1), (2, .ref (ad (7 + 20 * j + a))), (0, .ref (ad (3 + j))), (1, .int (nI a))]) S.1 S.2.1 dX0_sendOn_19 rfl hl (by decide) rfl (fun ls hl => ?_)
  refine lv_aload_n S.1 S.2.1 dX0_sendOn_20 rfl (lv_at hl 1 rfl) ?_
  refine lv_iload_n S.1 S.2.1 dX0_sendOn_21 rfl (lv_at hl 0 rfl) ?_
  refine aq_callVi (As := [.int x1]) (rest := []) S (c_X1_leadToMill l hJ (V := V) (Q := Q) (j := j) (i := a) hj (by omega) x1) (cwV 1 S.2.2.2.2 gX0_sendOn_X1_leadToMill rfl rfl rfl (by decide +kernel) ⟨Nat.le_of_ble_eq_true rfl, Nat.le_of_ble_eq_true rfl⟩) (aC_recvA (j := j) (i := a) I hj (by omega)) I hl.1 dX0_sendOn_22 rfl rfl (Nat.le_of_ble_eq_true rfl) ⟨by first | decide | (dsimp only; omega), by first | decide | (dsimp only; omega)⟩ (fun H locs I => ?_)
  obtain ⟨M2, hM2⟩ : ∃ z9 : aq_Q, z9 = aq_leadQ Q a x1 := ⟨_, rfl⟩
  rw [← hM2] at I
  refine lv_istore (lv' := [(4, .int (aq_leadR Q a x1)), (3, .int x1), (2, .ref (ad (7 + 20 * j + a))), (0, .ref (ad (3 + j))), (1, .int (nI a))]) S.1 S.2.1 dX0_sendOn_25 hl (by decide) rfl (fun ls hl => ?_)
  refine lv_aload_n S.1 S.2.1 dX0_sendOn_27 rfl (lv_at hl 2 rfl) ?_
  refine lv_dup S.1 S.2.1 dX0_sendOn_28 rfl ?_
  refine aC_getA (j := j) (i := a) (x := M2 2 a) S I hj (by omega) 2 (by decide) in_X0_sendOn_X1 (List.mem_of_getElem? (i := 2) rfl) (by rw [aq_ug_s]) dX0_sendOn_29 ?_
  refine lv_aload_n S.1 S.2.1 dX0_sendOn_32 rfl (lv_at hl 3 rfl) ?_
  refine lv_iload_n S.1 S.2.1 dX0_sendOn_33 rfl (lv_at hl 4 rfl) ?_
  refine lv_iconst (v := 1) S.1 S.2.1 dX0_sendOn_34 (by decide) ?_
  refine lv_iadd S.1 S.2.1 dX0_sendOn_35 ?_
  refine lv_topi (fun x3 (ex3 : x3 = nI a + 1) => ?_)
  rw [nI_1] at ex3; subst ex3
  refine lv_iload S.1 S.2.1 dX0_sendOn_36 (lv_at hl 0 rfl) ?_
  have hn_M2 : M2 10 3 = nI n := by rw [hM2]; exact (aq_leadQ_n _ _ _).trans hn
  refine aq_callVi (As := [.int (nI (a + 1)), .int (aq_leadR Q a x1)]) (rest := [.int (M2 2 a), .ref (ad (7 + 20 * j + a))]) S (c_X0_pour l hJ (V := V) (Q := M2) (j := j) hj hn_M2 hn20 (a := a + 1) (by omega) (aq_leadR Q a x1) ) (cwV 2 S.2.2.2.2 gX0_sendOn_X0_pour rfl rfl rfl (by decide +kernel) ⟨Nat.le_of_ble_eq_true rfl, Nat.le_of_ble_eq_true rfl⟩) (aC_recvS (j := j) I hj) I hl.1 dX0_sendOn_38 rfl rfl (Nat.le_of_ble_eq_true rfl) ⟨by first | decide | (dsimp only; omega), by first | decide | (dsimp only; omega)⟩ (fun H locs I => ?_)
  obtain ⟨M4, hM4⟩ : ∃ z9 : aq_Q, z9 = aq_pourQ n M2 (a + 1) (aq_leadR Q a x1) := ⟨_, rfl⟩
  rw [← hM4] at I
  refine lv_topi (fun x5 (ex5 : x5 = aq_pourR n M2 (a + 1) (aq_leadR Q a x1)) => ?_)
  refine lv_isub S.1 S.2.1 dX0_sendOn_41 ?_
  refine aC_putA (V := V) (Q := M4) (j := j) (i := a) (x := M2 2 a - x5) hJ S I hj (by omega) 2 (by decide) in_X0_sendOn_X1 (List.mem_of_getElem? (i := 2) rfl) dX0_sendOn_42 (fun H locs M6 hM6 I => ?_)
  exact aq_vret S.1 S.2.1 hr hlocks I dX0_sendOn_45 (by decide) (by decide) (by subst_vars; rfl)
theorem in_X0_grindAt_X0 : ∀ w ∈ wsX00, w ∈ wsX0_grindAt := fun _ h => List.mem_cons_of_mem _ (List.mem_append_left _ (List.mem_append_right _ h))
theorem in_X0_grindAt_X1 : ∀ w ∈ wsX10, w ∈ wsX0_grindAt := fun _ h => List.mem_cons_of_mem _ (List.mem_append_right _ h)
set_option maxHeartbeats 4000000 in
set_option maxRecDepth 100000 in
/-- X0_grindAt -/
theorem c_X0_grindAt (l : Launch) {D : va_G} {ad : Nat → Nat} {cI cQ : ClassId} (hJ : aq_J 49 ad) {V : aq_V} {Q : aq_Q} {j n : Nat} (hj : j < 2) (hn : Q 10 3 = nI n) (hn20 : n ≤ 20) {a : Nat} (ha : a < n) : aq_Met l yX0_grindAt wsX0_grindAt ({ frames := 3, cells := 0, slots := 0, locals := 66 }) D (aC_t cI cQ) 49 ad [.ref (ad (3 + j)), .int (nI a)] (aC_w ad cI cQ (aq_ug V j Q)) (aq_Qv D (aC_t cI cQ) 49 ad (aC_w ad cI cQ (aq_ug V j (aq_grindAtQ n Q a)))) 0 0 := by
  refine aq_enter (cc := cX0_grindAt) (maxL := 4) (ret := none) (by decide) rfl (Nat.le_of_ble_eq_true rfl) ?_
  intro p e s m below meth c ls S hr hlocks hnm I hl
  have S : CallFix p m c cX0_grindAt 4 s _ wsX0_grindAt RX0 := S
  have hl : lv_has ls 4 [(0, .ref (ad (3 + j))), (1, .int (nI a))] := hl
  refine lv_aload_n S.1 S.2.1 dX0_grindAt_0 rfl (lv_at hl 0 rfl) ?_
  refine aC_getR (j := j) S I hj in_X0_grindAt_X0 (List.mem_of_getElem? (i := 1) rfl) dX0_grindAt_1 ?_
  refine lv_iload_n S.1 S.2.1 dX0_grindAt_4 rfl (lv_at hl 1 rfl) ?_
  refine aC_row (j := j) (i := a) S I hj rfl (by omega) dX0_grindAt_5 ?_
  refine lv_astore_n (lv' := [(2, .ref (ad (7 + 20 * j + a))), (0, .ref (ad (3 + j))), (1, .int (nI a))]) S.1 S.2.1 dX0_grindAt_6 rfl hl (by decide) rfl (fun ls hl => ?_)
  refine lv_aload_n S.1 S.2.1 dX0_grindAt_7 rfl (lv_at hl 0 rfl) ?_
  refine aC_getA (j := j) (i := a) (x := Q 9 a) S I hj (by omega) 9 (by decide) in_X0_grindAt_X1 (List.mem_of_getElem? (i := 2) rfl) (by rw [aq_ug_s]) dX0_grindAt_8 ?_
  refine lv_iconst (v := 2) S.1 S.2.1 dX0_grindAt_11 (by decide) ?_
  refine lv_idiv S.1 S.2.1 dX0_grindAt_12 (by decide) ?_
  refine lv_istore_n (lv' := [(3, .int (Q 9 a / 2)), (2, .ref (ad (7 + 20 * j + a))), (0, .ref (ad (3 + j))), (1, .int (nI a))]) S.1 S.2.1 dX0_grindAt_13 rfl hl (by decide) rfl (fun ls hl => ?_)
  refine lv_aload_n S.1 S.2.1 dX0_grindAt_14 rfl (lv_at hl 2 rfl) ?_
  refine lv_dup S.1 S.2.1 dX0_grindAt_15 rfl ?_
  refine aC_getS (j := j) (x := Q 10 5) S I hj 5 (by decide) (by decide) in_X0_grindAt_X0 (List.mem_of_getElem? (i := 3) rfl) (by rw [aq_ug_s]) dX0_grindAt_16 ?_
  refine lv_aload_n S.1 S.2.1 dX0_grindAt_19 rfl (lv_at hl 1 rfl) ?_
  refine aq_callVi (As := []) (rest := [.int (Q 10 5), .ref (ad (3 + j))]) S (c_X1_grind l hJ (V := V) (Q := Q) (j := j) (i := a) hj (by omega) ) (cwV 0 S.2.2.2.2 gX0_grindAt_X1_grind rfl rfl rfl (by decide +kernel) ⟨Nat.le_of_ble_eq_true rfl, Nat.le_of_ble_eq_true rfl⟩) (aC_recvA (j := j) (i := a) I hj (by omega)) I hl.1 dX0_grindAt_20 rfl rfl (Nat.le_of_ble_eq_true rfl) ⟨by first | decide | (dsimp only; omega), by first | decide | (dsimp only; omega)⟩ (fun H locs I => ?_)
  obtain ⟨M1, hM1⟩ : ∃ z9 : aq_Q, z9 = aq_grindQ Q a := ⟨_, rfl⟩
  rw [← hM1] at I
  refine lv_iadd S.1 S.2.1 dX0_grindAt_23 ?_
  refine aC_putS (V := V) (Q := M1) (j := j) (x := Q 10 5 + aq_grindR Q a) hJ S I hj 5 (by decide) (by decide) in_X0_grindAt_X0 (List.mem_of_getElem? (i := 3) rfl) dX0_grindAt_24 (fun H locs M2 hM2 I => ?_)
  refine lv_aload_n S.1 S.2.1 dX0_grindAt_27 rfl (lv_at hl 2 rfl) ?_
  refine lv_dup S.1 S.2.1 dX0_grindAt_28 rfl ?_
  refine aC_getS (j := j) (x := M2 10 9) S I hj 9 (by decide) (by decide) in_X0_grindAt_X0 (List.mem_of_getElem? (i := 4) rfl) (by rw [aq_ug_s]) dX0_grindAt_29 ?_
  refine lv_iload_n S.1 S.2.1 dX0_grindAt_32 rfl (lv_at hl 0 rfl) ?_
  refine lv_aload_n S.1 S.2.1 dX0_grindAt_33 rfl (lv_at hl 2 rfl) ?_
  refine lv_iload_n S.1 S.2.1 dX0_grindAt_34 rfl (lv_at hl 3 rfl) ?_
  refine lv_iconst (v := 2) S.1 S.2.1 dX0_grindAt_35 (by decide) ?_
  refine lv_iadd S.1 S.2.1 dX0_grindAt_36 ?_
  refine lv_topi (fun x3 (ex3 : x3 = nI a + nI 2) => ?_)
  rw [nI_add] at ex3; subst ex3
  refine lv_iload_n S.1 S.2.1 dX0_grindAt_37 rfl (lv_at hl 0 rfl) ?_
  have hn_M1 : M1 10 3 = nI n := by rw [hM1]; exact (aq_grindQ_n _ _).trans hn
  have hn_M2 : M2 10 3 = nI n := by rw [hM2]; exact (aq_up_i _ _ (by decide)).trans hn_M1
  refine aq_callVi (As := [.int (nI (a + 2)), .int (Q 9 a / 2)]) (rest := [.int (Q 9 a / 2), .int (M2 10 9), .ref (ad (3 + j))]) S (c_X0_pour l hJ (V := V) (Q := M2) (j := j) hj hn_M2 hn20 (a := a + 2) (by omega) (Q 9 a / 2) ) (cwV 2 S.2.2.2.2 gX0_grindAt_X0_pour rfl rfl rfl (by decide +kernel) ⟨Nat.le_of_ble_eq_true rfl, Nat.le_of_ble_eq_true rfl⟩) (aC_recvS (j := j) I hj) I hl.1 dX0_grindAt_38 rfl rfl (Nat.le_of_ble_eq_true rfl) ⟨by first | decide | (dsimp only; omega), by first | decide | (dsimp only; omega)⟩ (fun H locs I => ?_)
  obtain ⟨M4, hM4⟩ : ∃ z9 : aq_Q, z9 = aq_pourQ n M2 (a + 2) (Q 9 a / 2) := ⟨_, rfl⟩
  rw [← hM4] at I
  refine lv_topi (fun x5 (ex5 : x5 = aq_pourR n M2 (a + 2) (Q 9 a / 2)) => ?_)
  refine lv_isub S.1 S.2.1 dX0_grindAt_41 ?_
  refine lv_iadd S.1 S.2.1 dX0_grindAt_42 ?_
  refine aC_putS (V := V) (Q := M4) (j := j) (x := M2 10 9 + ((Q 9 a / 2) - x5)) hJ S I hj 9 (by decide) (by decide) in_X0_grindAt_X0 (List.mem_of_getElem? (i := 4) rfl) dX0_grindAt_43 (fun H locs M6 hM6 I => ?_)
  refine lv_aload_n S.1 S.2.1 dX0_grindAt_46 rfl (lv_at hl 2 rfl) ?_
  refine lv_dup S.1 S.2.1 dX0_grindAt_47 rfl ?_
  refine aC_getS (j := j) (x := M6 10 10) S I hj 10 (by decide) (by decide) in_X0_grindAt_X0 (List.mem_of_getElem? (i := 5) rfl) (by rw [aq_ug_s]) dX0_grindAt_48 ?_
  refine lv_aload_n S.1 S.2.1 dX0_grindAt_51 rfl (lv_at hl 1 rfl) ?_
  refine aC_getA (j := j) (i := a) (x := M6 9 a) S I hj (by omega) 9 (by decide) in_X0_grindAt_X1 (List.mem_of_getElem? (i := 2) rfl) (by rw [aq_ug_s]) dX0_grindAt_52 ?_
  refine lv_iload_n S.1 S.2.1 dX0_grindAt_55 rfl (lv_at hl 0 rfl) ?_
  refine lv_isub S.1 S.2.1 dX0_grindAt_56 ?_
  refine lv_iadd S.1 S.2.1 dX0_grindAt_57 ?_
  refine lv_topi (fun x7 (ex7 : x7 = M6 10 10 + (M6 9 a - (Q 9 a / 2))) => ?_)
  refine aC_putS (V := V) (Q := M6) (j := j) (x := x7) hJ S I hj 10 (by decide) (by decide) in_X0_grindAt_X0 (List.mem_of_getElem? (i := 5) rfl) dX0_grindAt_58 (fun H locs M8 hM8 I => ?_)
  exact aq_vret S.1 S.2.1 hr hlocks I dX0_grindAt_61 (by decide) (by decide) (by subst_vars; rfl)
theorem in_X0_letSpringGive_X0 : ∀ w ∈ wsX00, w ∈ wsX0_letSpringGive := fun _ h => List.mem_cons_of_mem _ (List.mem_append_left _ (List.mem_append_right _ h))
set_option maxHeartbeats 4000000 in
set_option maxRecDepth 100000 in
/-- X0_letSpringGive -/
theorem c_X0_letSpringGive (l : Launch) {D : va_G} {ad : Nat → Nat} {cI cQ : ClassId} (hJ : aq_J 49 ad) {V : aq_V} {Q : aq_Q} {j n : Nat} (hj : j < 2) (hn : Q 10 3 = nI n) (hn20 : n ≤ 20) (o : Int32) : aq_Met l yX0_letSpringGive wsX0_letSpringGive ({ frames := 2, cells := 0, slots := 0, locals := 43 }) D (aC_t cI cQ) 49 ad [.ref (ad (3 + j)), .int o] (aC_w ad cI cQ (aq_ug V j Q)) (aq_Qv D (aC_t cI cQ) 49 ad (aC_w ad cI cQ (aq_ug V j (aq_springQ n Q o)))) 0 0 := by
  refine aq_enter (cc := cX0_letSpringGive) (maxL := 3) (ret := none) (by decide) rfl (Nat.le_of_ble_eq_true rfl) ?_
  intro p e s m below meth c ls S hr hlocks hnm I hl
  have S : CallFix p m c cX0_letSpringGive 3 s _ wsX0_letSpringGive RX0 := S
  have hl : lv_has ls 3 [(0, .ref (ad (3 + j))), (1, .int o)] := hl
  refine lv_aload_n S.1 S.2.1 dX0_letSpringGive_0 rfl (lv_at hl 0 rfl) ?_
  refine lv_dup S.1 S.2.1 dX0_letSpringGive_1 rfl ?_
  refine aC_getS (j := j) (x := Q 10 8) S I hj 8 (by decide) (by decide) in_X0_letSpringGive_X0 (List.mem_of_getElem? (i := 1) rfl) (by rw [aq_ug_s]) dX0_letSpringGive_2 ?_
  refine lv_iload_n S.1 S.2.1 dX0_letSpringGive_5 rfl (lv_at hl 1 rfl) ?_
  refine lv_iadd S.1 S.2.1 dX0_letSpringGive_6 ?_
  refine aC_putS (V := V) (Q := Q) (j := j) (x := Q 10 8 + o) hJ S I hj 8 (by decide) (by decide) in_X0_letSpringGive_X0 (List.mem_of_getElem? (i := 1) rfl) dX0_letSpringGive_7 (fun H locs M1 hM1 I => ?_)
  refine lv_aload_n S.1 S.2.1 dX0_letSpringGive_10 rfl (lv_at hl 0 rfl) ?_
  have hn_M1 : M1 10 3 = nI n := by rw [hM1]; exact (aq_up_i _ _ (by decide)).trans hn
  refine aC_getS (j := j) (x := nI n) S I hj 3 (by decide) (by decide) in_X0_letSpringGive_X0 (List.mem_of_getElem? (i := 2) rfl) (by rw [aq_ug_s]; exact hn_M1) dX0_letSpringGive_11 ?_
  refine lv_if_ne (tgt := 21) S.1 S.2.1 dX0_letSpringGive_14 (by decide) (fun c2 => ?_) (fun c2 => ?_)
  · have c2 : ¬ n = 0 := fun z9 => c2 ((nI_eq (a := n) (b := 0) (by omega) (by omega)).mpr z9)
    refine lv_aload_n S.1 S.2.1 dX0_letSpringGive_21 rfl (lv_at hl 0 rfl) ?_
    refine aC_getR (j := j) S I hj in_X0_letSpringGive_X0 (List.mem_of_getElem? (i := 3) rfl) dX0_letSpringGive_22 ?_
    refine lv_iconst (v := 0) S.1 S.2.1 dX0_letSpringGive_25 (by decide) ?_
    refine aC_row (j := j) (i := 0) S I hj rfl (by omega) dX0_letSpringGive_26 ?_
    refine lv_iload_n S.1 S.2.1 dX0_letSpringGive_27 rfl (lv_at hl 1 rfl) ?_
    refine aq_callVi (As := [.int o]) (rest := []) S (c_X1_fill l hJ (V := V) (Q := M1) (j := j) (i := 0) hj (by omega) o) (cwV 1 S.2.2.2.2 gX0_letSpringGive_X1_fill rfl rfl rfl (by decide +kernel) ⟨Nat.le_of_ble_eq_true rfl, Nat.le_of_ble_eq_true rfl⟩) (aC_recvA (j := j) (i := 0) I hj (by omega)) I hl.1 dX0_letSpringGive_28 rfl rfl (Nat.le_of_ble_eq_true rfl) ⟨by first | decide | (dsimp only; omega), by first | decide | (dsimp only; omega)⟩ (fun H locs I => ?_)
    obtain ⟨M3, hM3⟩ : ∃ z9 : aq_Q, z9 = aq_fillQ M1 0 o := ⟨_, rfl⟩
    rw [← hM3] at I
    refine lv_istore_n (lv' := [(2, .int (aq_fillR M1 0 o)), (0, .ref (ad (3 + j))), (1, .int o)]) S.1 S.2.1 dX0_letSpringGive_31 rfl hl (by decide) rfl (fun ls hl => ?_)
    refine lv_aload_n S.1 S.2.1 dX0_letSpringGive_32 rfl (lv_at hl 1 rfl) ?_
    refine lv_dup S.1 S.2.1 dX0_letSpringGive_33 rfl ?_
    refine aC_getS (j := j) (x := M3 10 9) S I hj 9 (by decide) (by decide) in_X0_letSpringGive_X0 (List.mem_of_getElem? (i := 4) rfl) (by rw [aq_ug_s]) dX0_letSpringGive_34 ?_
    refine lv_iload_n S.1 S.2.1 dX0_letSpringGive_37 rfl (lv_at hl 2 rfl) ?_
    refine lv_iload_n S.1 S.2.1 dX0_letSpringGive_38 rfl (lv_at hl 0 rfl) ?_
    refine lv_isub S.1 S.2.1 dX0_letSpringGive_39 ?_
    refine lv_iadd S.1 S.2.1 dX0_letSpringGive_40 ?_
    refine lv_topi (fun x4 (ex4 : x4 = M3 10 9 + (o - aq_fillR M1 0 o)) => ?_)
    refine aC_putS (V := V) (Q := M3) (j := j) (x := x4) hJ S I hj 9 (by decide) (by decide) in_X0_letSpringGive_X0 (List.mem_of_getElem? (i := 4) rfl) dX0_letSpringGive_41 (fun H locs M5 hM5 I => ?_)
    exact aq_vret S.1 S.2.1 hr hlocks I dX0_letSpringGive_44 (by decide) (by decide) (by subst_vars; first | rfl | (simp only [aq_springQ, if_neg c2]; done) | (simp only [aq_springQ, if_neg c2]; rfl))
  · have c2 : n = 0 := (nI_eq (a := n) (b := 0) (by omega) (by omega)).mp c2
    refine lv_iconst (v := 0) S.1 S.2.1 dX0_letSpringGive_17 (by decide) ?_
    refine lv_goto (tgt := 31) S.1 S.2.1 dX0_letSpringGive_18 (by decide) ?_
    refine lv_istore_n (lv' := [(2, .int 0), (0, .ref (ad (3 + j))), (1, .int o)]) S.1 S.2.1 dX0_letSpringGive_31 rfl hl (by decide) rfl (fun ls hl => ?_)
    refine lv_aload_n S.1 S.2.1 dX0_letSpringGive_32 rfl (lv_at hl 1 rfl) ?_
    refine lv_dup S.1 S.2.1 dX0_letSpringGive_33 rfl ?_
    refine aC_getS (j := j) (x := M1 10 9) S I hj 9 (by decide) (by decide) in_X0_letSpringGive_X0 (List.mem_of_getElem? (i := 4) rfl) (by rw [aq_ug_s]) dX0_letSpringGive_34 ?_
    refine lv_iload_n S.1 S.2.1 dX0_letSpringGive_37 rfl (lv_at hl 2 rfl) ?_
    refine lv_iload_n S.1 S.2.1 dX0_letSpringGive_38 rfl (lv_at hl 0 rfl) ?_
    refine lv_isub S.1 S.2.1 dX0_letSpringGive_39 ?_
    refine lv_iadd S.1 S.2.1 dX0_letSpringGive_40 ?_
    refine aC_putS (V := V) (Q := M1) (j := j) (x := M1 10 9 + (o - 0)) hJ S I hj 9 (by decide) (by decide) in_X0_letSpringGive_X0 (List.mem_of_getElem? (i := 4) rfl) dX0_letSpringGive_41 (fun H locs M6 hM6 I => ?_)
    exact aq_vret S.1 S.2.1 hr hlocks I dX0_letSpringGive_44 (by decide) (by decide) (by subst_vars; first | rfl | (simp only [aq_springQ, if_pos c2]; done) | (simp only [aq_springQ, if_pos c2]; rfl))
theorem in_X0_archAt_X0 : ∀ w ∈ wsX00, w ∈ wsX0_archAt := fun _ h => List.mem_cons_of_mem _ (List.mem_append_right _ h)
set_option maxHeartbeats 4000000 in
set_option maxRecDepth 100000 in
/-- X0_archAt -/
theorem c_X0_archAt (l : Launch) {D : va_G} {ad : Nat → Nat} {cI cQ : ClassId} (hJ : aq_J 49 ad) {V : aq_V} {Q : aq_Q} {j : Nat} (hj : j < 2) {a : Nat} (ha : a < 20) : aq_Met l yX0_archAt wsX0_archAt ({ frames := 0, cells := 0, slots := 0, locals := 0 }) D (aC_t cI cQ) 49 ad [.ref (ad (3 + j)), .int (nI a)] (aC_w ad cI cQ (aq_ug V j Q)) (aq_Qr D (aC_t cI cQ) 49 ad (ad (7 + 20 * j + a)) (aC_w ad cI cQ (aq_ug V j Q))) 0 0 := by
  refine aq_enter (cc := cX0_archAt) (maxL := 2) (ret := some (.object "ArchWater$Arch")) (by decide) rfl (Nat.le_of_ble_eq_true rfl) ?_
  intro p e s m below meth c ls S hr hlocks hnm I hl
  have S : CallFix p m c cX0_archAt 2 s _ wsX0_archAt RX0 := S
  have hl : lv_has ls 2 [(0, .ref (ad (3 + j))), (1, .int (nI a))] := hl
  refine lv_aload_n S.1 S.2.1 dX0_archAt_0 rfl (lv_at hl 0 rfl) ?_
  refine aC_getR (j := j) S I hj in_X0_archAt_X0 (List.mem_of_getElem? (i := 1) rfl) dX0_archAt_1 ?_
  refine lv_iload_n S.1 S.2.1 dX0_archAt_4 rfl (lv_at hl 1 rfl) ?_
  refine aC_row (j := j) (i := a) S I hj rfl (by omega) dX0_archAt_5 ?_
  exact aq_aret S.1 S.2.1 hr (Or.inl ⟨_, rfl⟩) hlocks I dX0_archAt_6 (by decide) (by decide) (by subst_vars; rfl) (by subst_vars; rfl)
theorem in_X0_mostHeightOfNext_X0 : ∀ w ∈ wsX00, w ∈ wsX0_mostHeightOfNext := fun _ h => List.mem_cons_of_mem _ (List.mem_append_left _ (List.mem_append_right _ h))
theorem in_X0_mostHeightOfNext_X1 : ∀ w ∈ wsX10, w ∈ wsX0_mostHeightOfNext := fun _ h => List.mem_cons_of_mem _ (List.mem_append_right _ h)
set_option maxHeartbeats 4000000 in
set_option maxRecDepth 100000 in
/-- X0_mostHeightOfNext -/
theorem c_X0_mostHeightOfNext (l : Launch) {D : va_G} {ad : Nat → Nat} {cI cQ : ClassId} (hJ : aq_J 49 ad) {V : aq_V} {Q : aq_Q} {j n : Nat} (hj : j < 2) (hn : Q 10 3 = nI n) (hn20 : n ≤ 20) : aq_Met l yX0_mostHeightOfNext wsX0_mostHeightOfNext ({ frames := 0, cells := 0, slots := 0, locals := 0 }) D (aC_t cI cQ) 49 ad [.ref (ad (3 + j))] (aC_w ad cI cQ (aq_ug V j Q)) (aq_Qi D (aC_t cI cQ) 49 ad (aq_top n Q) (aC_w ad cI cQ (aq_ug V j Q))) 0 0 := by
  refine aq_enter (cc := cX0_mostHeightOfNext) (maxL := 1) (ret := some .int) (by decide) rfl (Nat.le_of_ble_eq_true rfl) ?_
  intro p e s m below meth c ls S hr hlocks hnm I hl
  have S : CallFix p m c cX0_mostHeightOfNext 1 s _ wsX0_mostHeightOfNext RX0 := S
  have hl : lv_has ls 1 [(0, .ref (ad (3 + j)))] := hl
  refine lv_aload_n S.1 S.2.1 dX0_mostHeightOfNext_0 rfl (lv_at hl 0 rfl) ?_
  refine aC_getS (j := j) (x := nI n) S I hj 3 (by decide) (by decide) in_X0_mostHeightOfNext_X0 (List.mem_of_getElem? (i := 1) rfl) (by rw [aq_ug_s]; exact hn) dX0_mostHeightOfNext_1 ?_
  refine lv_if_ne (tgt := 13) S.1 S.2.1 dX0_mostHeightOfNext_4 (by decide) (fun c1 => ?_) (fun c1 => ?_)
  · have c1 : ¬ n = 0 := fun z9 => c1 ((nI_eq (a := n) (b := 0) (by omega) (by omega)).mpr z9)
    refine lv_aload_n S.1 S.2.1 dX0_mostHeightOfNext_13 rfl (lv_at hl 0 rfl) ?_
    refine aC_getR (j := j) S I hj in_X0_mostHeightOfNext_X0 (List.mem_of_getElem? (i := 2) rfl) dX0_mostHeightOfNext_14 ?_
    refine lv_aload_n S.1 S.2.1 dX0_mostHeightOfNext_17 rfl (lv_at hl 0 rfl) ?_
    refine aC_getS (j := j) (x := nI n) S I hj 3 (by decide) (by decide) in_X0_mostHeightOfNext_X0 (List.mem_of_getElem? (i := 1) rfl) (by rw [aq_ug_s]; exact hn) dX0_mostHeightOfNext_18 ?_
    refine lv_iconst (v := 1) S.1 S.2.1 dX0_mostHeightOfNext_21 (by decide) ?_
    refine lv_isub S.1 S.2.1 dX0_mostHeightOfNext_22 ?_
    refine lv_topi (fun x2 (ex2 : x2 = nI n - nI 1) => ?_)
    rw [pk_sub (by omega)] at ex2; subst ex2
    refine aC_row (j := j) (i := n - 1) S I hj rfl (by omega) dX0_mostHeightOfNext_23 ?_
    refine aC_getA (j := j) (i := n - 1) (x := Q 0 (n - 1)) S I hj (by omega) 0 (by decide) in_X0_mostHeightOfNext_X1 (List.mem_of_getElem? (i := 3) rfl) (by rw [aq_ug_s]) dX0_mostHeightOfNext_24 ?_
    exact aq_iret S.1 S.2.1 hr hlocks I dX0_mostHeightOfNext_27 (by decide) (by decide) (by subst_vars; first | rfl | (simp only [aq_top, if_neg c1]; done) | (simp only [aq_top, if_neg c1]; rfl)) (by subst_vars; first | rfl | (simp only [aq_top, if_neg c1]; done) | (simp only [aq_top, if_neg c1]; rfl))
  · have c1 : n = 0 := (nI_eq (a := n) (b := 0) (by omega) (by omega)).mp c1
    refine lv_sipush (v := 200) S.1 S.2.1 dX0_mostHeightOfNext_7 (by decide) ?_
    refine lv_goto (tgt := 27) S.1 S.2.1 dX0_mostHeightOfNext_10 (by decide) ?_
    exact aq_iret S.1 S.2.1 hr hlocks I dX0_mostHeightOfNext_27 (by decide) (by decide) (by subst_vars; first | rfl | (simp only [aq_top, if_pos c1]; done) | (simp only [aq_top, if_pos c1]; rfl)) (by subst_vars; first | rfl | (simp only [aq_top, if_pos c1]; done) | (simp only [aq_top, if_pos c1]; rfl))
theorem in_X0_addArch_X0 : ∀ w ∈ wsX00, w ∈ wsX0_addArch := fun _ h => List.mem_cons_of_mem _ (List.mem_append_left _ (List.mem_append_right _ h))
theorem in_X0_addArch_X1 : ∀ w ∈ wsX10, w ∈ wsX0_addArch := fun _ h => List.mem_cons_of_mem _ (List.mem_append_right _ h)
set_option maxHeartbeats 4000000 in
set_option maxRecDepth 100000 in
/-- X0_addArch -/
theorem c_X0_addArch (l : Launch) {D : va_G} {ad : Nat → Nat} {cI cQ : ClassId} (hJ : aq_J 49 ad) {V : aq_V} {Q : aq_Q} {j n : Nat} (hj : j < 2) (hn : Q 10 3 = nI n) (hn20 : n < 20) (h z : Int32) : aq_Met l yX0_addArch wsX0_addArch ({ frames := 0, cells := 0, slots := 0, locals := 0 }) D (aC_t cI cQ) 49 ad [.ref (ad (3 + j)), .int h, .int z] (aC_w ad cI cQ (aq_ug V j Q)) (aq_Qi D (aC_t cI cQ) 49 ad (nI n) (aC_w ad cI cQ (aq_ug V j (aq_addQ n Q h z)))) 0 0 := by
  refine aq_enter (cc := cX0_addArch) (maxL := 4) (ret := some .int) (by decide) rfl (Nat.le_of_ble_eq_true rfl) ?_
  intro p e s m below meth c ls S hr hlocks hnm I hl
  have S : CallFix p m c cX0_addArch 4 s _ wsX0_addArch RX0 := S
  have hl : lv_has ls 4 [(0, .ref (ad (3 + j))), (1, .int h), (2, .int z)] := hl
  refine lv_aload_n S.1 S.2.1 dX0_addArch_0 rfl (lv_at hl 0 rfl) ?_
  refine aC_getS (j := j) (x := nI n) S I hj 3 (by decide) (by decide) in_X0_addArch_X0 (List.mem_of_getElem? (i := 1) rfl) (by rw [aq_ug_s]; exact hn) dX0_addArch_1 ?_
  refine lv_istore_n (lv' := [(3, .int (nI n)), (0, .ref (ad (3 + j))), (1, .int h), (2, .int z)]) S.1 S.2.1 dX0_addArch_4 rfl hl (by decide) rfl (fun ls hl => ?_)
  refine lv_aload_n S.1 S.2.1 dX0_addArch_5 rfl (lv_at hl 1 rfl) ?_
  refine aC_getR (j := j) S I hj in_X0_addArch_X0 (List.mem_of_getElem? (i := 2) rfl) dX0_addArch_6 ?_
  refine lv_iload_n S.1 S.2.1 dX0_addArch_9 rfl (lv_at hl 0 rfl) ?_
  refine aC_row (j := j) (i := n) S I hj rfl (by omega) dX0_addArch_10 ?_
  refine lv_iload_n S.1 S.2.1 dX0_addArch_11 rfl (lv_at hl 2 rfl) ?_
  refine aC_putA (V := V) (Q := Q) (j := j) (i := n) (x := h) hJ S I hj (by omega) 0 (by decide) in_X0_addArch_X1 (List.mem_of_getElem? (i := 3) rfl) dX0_addArch_12 (fun H locs M1 hM1 I => ?_)
  refine lv_aload_n S.1 S.2.1 dX0_addArch_15 rfl (lv_at hl 1 rfl) ?_
  refine aC_getR (j := j) S I hj in_X0_addArch_X0 (List.mem_of_getElem? (i := 2) rfl) dX0_addArch_16 ?_
  refine lv_iload_n S.1 S.2.1 dX0_addArch_19 rfl (lv_at hl 0 rfl) ?_
  refine aC_row (j := j) (i := n) S I hj rfl (by omega) dX0_addArch_20 ?_
  refine lv_iload_n S.1 S.2.1 dX0_addArch_21 rfl (lv_at hl 3 rfl) ?_
  refine aC_putA (V := V) (Q := M1) (j := j) (i := n) (x := z) hJ S I hj (by omega) 1 (by decide) in_X0_addArch_X1 (List.mem_of_getElem? (i := 4) rfl) dX0_addArch_22 (fun H locs M2 hM2 I => ?_)
  refine lv_aload_n S.1 S.2.1 dX0_addArch_25 rfl (lv_at hl 1 rfl) ?_
  refine lv_dup S.1 S.2.1 dX0_addArch_26 rfl ?_
  have hn_M1 : M1 10 3 = nI n := by rw [hM1]; exact (aq_up_f _ _ (by decide)).trans hn
  have hn_M2 : M2 10 3 = nI n := by rw [hM2]; exact (aq_up_f _ _ (by decide)).trans hn_M1
  refine aC_getS (j := j) (x := nI n) S I hj 3 (by decide) (by decide) in_X0_addArch_X0 (List.mem_of_getElem? (i := 1) rfl) (by rw [aq_ug_s]; exact hn_M2) dX0_addArch_27 ?_
  refine lv_iconst (v := 1) S.1 S.2.1 dX0_addArch_30 (by decide) ?_
  refine lv_iadd S.1 S.2.1 dX0_addArch_31 ?_
  refine lv_topi (fun x3 (ex3 : x3 = nI n + 1) => ?_)
  rw [nI_1] at ex3; subst ex3
  refine aC_putS (V := V) (Q := M2) (j := j) (x := nI (n + 1)) hJ S I hj 3 (by decide) (by decide) in_X0_addArch_X0 (List.mem_of_getElem? (i := 1) rfl) dX0_addArch_32 (fun H locs M4 hM4 I => ?_)
  refine lv_iload_n S.1 S.2.1 dX0_addArch_35 rfl (lv_at hl 0 rfl) ?_
  exact aq_iret S.1 S.2.1 hr hlocks I dX0_addArch_36 (by decide) (by decide) (by subst_vars; rfl) (by subst_vars; rfl)
theorem in_X0_resizeCistern_X0 : ∀ w ∈ wsX00, w ∈ wsX0_resizeCistern := fun _ h => List.mem_cons_of_mem _ (List.mem_append_right _ h)
set_option maxHeartbeats 4000000 in
set_option maxRecDepth 100000 in
/-- X0_resizeCistern -/
theorem c_X0_resizeCistern (l : Launch) {D : va_G} {ad : Nat → Nat} {cI cQ : ClassId} (hJ : aq_J 49 ad) {V : aq_V} {Q : aq_Q} {j : Nat} (hj : j < 2) (o : Int32) : aq_Met l yX0_resizeCistern wsX0_resizeCistern ({ frames := 1, cells := 0, slots := 0, locals := 21 }) D (aC_t cI cQ) 49 ad [.ref (ad (3 + j)), .int o] (aC_w ad cI cQ (aq_ug V j Q)) (aq_Qi D (aC_t cI cQ) 49 ad (aq_sizeR Q o) (aC_w ad cI cQ (aq_ug V j (aq_sizeQ Q o)))) 0 0 := by
  refine aq_enter (cc := cX0_resizeCistern) (maxL := 3) (ret := some .int) (by decide) rfl (Nat.le_of_ble_eq_true rfl) ?_
  intro p e s m below meth c ls S hr hlocks hnm I hl
  have S : CallFix p m c cX0_resizeCistern 3 s _ wsX0_resizeCistern RX0 := S
  have hl : lv_has ls 3 [(0, .ref (ad (3 + j))), (1, .int o)] := hl
  refine lv_iconst (v := 0) S.1 S.2.1 dX0_resizeCistern_0 (by decide) ?_
  refine lv_aload_n S.1 S.2.1 dX0_resizeCistern_1 rfl (lv_at hl 0 rfl) ?_
  refine aC_getS (j := j) (x := Q 10 7) S I hj 7 (by decide) (by decide) in_X0_resizeCistern_X0 (List.mem_of_getElem? (i := 1) rfl) (by rw [aq_ug_s]) dX0_resizeCistern_2 ?_
  refine lv_iload_n S.1 S.2.1 dX0_resizeCistern_5 rfl (lv_at hl 1 rfl) ?_
  refine lv_isub S.1 S.2.1 dX0_resizeCistern_6 ?_
  refine aq_mmax S hl.1 (List.mem_of_getElem? (i := 2) rfl) (List.mem_of_getElem? (i := 3) rfl) (List.mem_of_getElem? (i := 4) rfl) (List.mem_of_getElem? (i := 5) rfl) (by decide) (Nat.le_of_ble_eq_true rfl) (by decide) (by decide) dX0_resizeCistern_7 ?_
  refine lv_istore_n (lv' := [(2, .int (aq_mx 0 (Q 10 7 - o))), (0, .ref (ad (3 + j))), (1, .int o)]) S.1 S.2.1 dX0_resizeCistern_10 rfl hl (by decide) rfl (fun ls hl => ?_)
  refine lv_aload_n S.1 S.2.1 dX0_resizeCistern_11 rfl (lv_at hl 1 rfl) ?_
  refine lv_iload_n S.1 S.2.1 dX0_resizeCistern_12 rfl (lv_at hl 2 rfl) ?_
  refine aC_putS (V := V) (Q := Q) (j := j) (x := o) hJ S I hj 6 (by decide) (by decide) in_X0_resizeCistern_X0 (List.mem_of_getElem? (i := 6) rfl) dX0_resizeCistern_13 (fun H locs M1 hM1 I => ?_)
  refine lv_aload_n S.1 S.2.1 dX0_resizeCistern_16 rfl (lv_at hl 1 rfl) ?_
  refine lv_dup S.1 S.2.1 dX0_resizeCistern_17 rfl ?_
  refine aC_getS (j := j) (x := M1 10 7) S I hj 7 (by decide) (by decide) in_X0_resizeCistern_X0 (List.mem_of_getElem? (i := 1) rfl) (by rw [aq_ug_s]) dX0_resizeCistern_18 ?_
  refine lv_iload_n S.1 S.2.1 dX0_resizeCistern_21 rfl (lv_at hl 0 rfl) ?_
  refine lv_isub S.1 S.2.1 dX0_resizeCistern_22 ?_
  refine lv_topi (fun x2 (ex2 : x2 = M1 10 7 - (aq_mx 0 (Q 10 7 - o))) => ?_)
  refine aC_putS (V := V) (Q := M1) (j := j) (x := x2) hJ S I hj 7 (by decide) (by decide) in_X0_resizeCistern_X0 (List.mem_of_getElem? (i := 1) rfl) dX0_resizeCistern_23 (fun H locs M3 hM3 I => ?_)
  refine lv_aload_n S.1 S.2.1 dX0_resizeCistern_26 rfl (lv_at hl 1 rfl) ?_
  refine lv_dup S.1 S.2.1 dX0_resizeCistern_27 rfl ?_
  refine aC_getS (j := j) (x := M3 10 9) S I hj 9 (by decide) (by decide) in_X0_resizeCistern_X0 (List.mem_of_getElem? (i := 7) rfl) (by rw [aq_ug_s]) dX0_resizeCistern_28 ?_
  refine lv_iload_n S.1 S.2.1 dX0_resizeCistern_31 rfl (lv_at hl 0 rfl) ?_
  refine lv_iadd S.1 S.2.1 dX0_resizeCistern_32 ?_
  refine lv_topi (fun x4 (ex4 : x4 = M3 10 9 + (aq_mx 0 (Q 10 7 - o))) => ?_)
  refine aC_putS (V := V) (Q := M3) (j := j) (x := x4) hJ S I hj 9 (by decide) (by decide) in_X0_resizeCistern_X0 (List.mem_of_getElem? (i := 7) rfl) dX0_resizeCistern_33 (fun H locs M5 hM5 I => ?_)
  refine lv_iload_n S.1 S.2.1 dX0_resizeCistern_36 rfl (lv_at hl 0 rfl) ?_
  exact aq_iret S.1 S.2.1 hr hlocks I dX0_resizeCistern_37 (by decide) (by decide) (by subst_vars; rfl) (by subst_vars; rfl)
theorem in_X0_archNumber_X0 : ∀ w ∈ wsX00, w ∈ wsX0_archNumber := fun _ h => List.mem_cons_of_mem _ (List.mem_append_left _ (List.mem_append_right _ h))
theorem in_X0_archNumber_X1 : ∀ w ∈ wsX10, w ∈ wsX0_archNumber := fun _ h => List.mem_cons_of_mem _ (List.mem_append_right _ h)
set_option maxHeartbeats 4000000 in
set_option maxRecDepth 100000 in
/-- X0_archNumber -/
theorem c_X0_archNumber (l : Launch) {D : va_G} {ad : Nat → Nat} {cI cQ : ClassId} (hJ : aq_J 49 ad) {V : aq_V} {Q : aq_Q} {j n : Nat} (hj : j < 2) (hn : Q 10 3 = nI n) (hn20 : n ≤ 20) {a : Nat} (ha : a < n) {w : Nat} (hw : w < 9) : aq_Met l yX0_archNumber wsX0_archNumber ({ frames := 2, cells := 0, slots := 0, locals := 43 }) D (aC_t cI cQ) 49 ad [.ref (ad (3 + j)), .int (nI a), .int (nI w)] (aC_w ad cI cQ (aq_ug V j Q)) (aq_Qi D (aC_t cI cQ) 49 ad (aq_archNo n Q a w) (aC_w ad cI cQ (aq_ug V j Q))) 0 0 := by
  refine aq_enter (cc := cX0_archNumber) (maxL := 4) (ret := some .int) (by decide) rfl (Nat.le_of_ble_eq_true rfl) ?_
  intro p e s m below meth c ls S hr hlocks hnm I hl
  have S : CallFix p m c cX0_archNumber 4 s _ wsX0_archNumber RX0 := S
  have hl : lv_has ls 4 [(0, .ref (ad (3 + j))), (1, .int (nI a)), (2, .int (nI w))] := hl
  refine lv_aload_n S.1 S.2.1 dX0_archNumber_0 rfl (lv_at hl 0 rfl) ?_
  refine aC_getR (j := j) S I hj in_X0_archNumber_X0 (List.mem_of_getElem? (i := 1) rfl) dX0_archNumber_1 ?_
  refine lv_iload_n S.1 S.2.1 dX0_archNumber_4 rfl (lv_at hl 1 rfl) ?_
  refine aC_row (j := j) (i := a) S I hj rfl (by omega) dX0_archNumber_5 ?_
  refine lv_astore_n (lv' := [(3, .ref (ad (7 + 20 * j + a))), (0, .ref (ad (3 + j))), (1, .int (nI a)), (2, .int (nI w))]) S.1 S.2.1 dX0_archNumber_6 rfl hl (by decide) rfl (fun ls hl => ?_)
  refine lv_iload_n S.1 S.2.1 dX0_archNumber_7 rfl (lv_at hl 3 rfl) ?_
  rcases (show w = 0 ∨ w = 1 ∨ w = 2 ∨ w = 3 ∨ w = 4 ∨ w = 5 ∨ w = 6 ∨ w = 7 ∨ w = 8 by omega) with rfl | rfl | rfl | rfl | rfl | rfl | rfl | rfl | rfl
  · refine lv_tableIn (x := nI 0) (tgt := 56) S.1 S.2.1 dX0_archNumber_8 (by decide) (by decide) rfl (by decide) ?_
    have hl : lv_has ls 4 [(3, .ref (ad (7 + 20 * j + a))), (0, .ref (ad (3 + j))), (1, .int (nI a)), (2, .int (nI 0))] := hl
    refine lv_aload_n S.1 S.2.1 dX0_archNumber_56 rfl (lv_at hl 0 rfl) ?_
    refine aC_getA (j := j) (i := a) (x := Q 0 a) S I hj (by omega) 0 (by decide) in_X0_archNumber_X1 (List.mem_of_getElem? (i := 2) rfl) (by rw [aq_ug_s]) dX0_archNumber_57 ?_
    exact aq_iret S.1 S.2.1 hr hlocks I dX0_archNumber_60 (by decide) (by decide) (by subst_vars; first | rfl | (simp only [aq_archNo]; done) | (simp only [aq_archNo]; rfl)) (by subst_vars; first | rfl | (simp only [aq_archNo]; done) | (simp only [aq_archNo]; rfl))
  · refine lv_tableIn (x := nI 1) (tgt := 61) S.1 S.2.1 dX0_archNumber_8 (by decide) (by decide) rfl (by decide) ?_
    have hl : lv_has ls 4 [(3, .ref (ad (7 + 20 * j + a))), (0, .ref (ad (3 + j))), (1, .int (nI a)), (2, .int (nI 1))] := hl
    refine lv_aload_n S.1 S.2.1 dX0_archNumber_61 rfl (lv_at hl 0 rfl) ?_
    refine aC_getA (j := j) (i := a) (x := Q 1 a) S I hj (by omega) 1 (by decide) in_X0_archNumber_X1 (List.mem_of_getElem? (i := 3) rfl) (by rw [aq_ug_s]) dX0_archNumber_62 ?_
    exact aq_iret S.1 S.2.1 hr hlocks I dX0_archNumber_65 (by decide) (by decide) (by subst_vars; first | rfl | (simp only [aq_archNo]; done) | (simp only [aq_archNo]; rfl)) (by subst_vars; first | rfl | (simp only [aq_archNo]; done) | (simp only [aq_archNo]; rfl))
  · refine lv_tableIn (x := nI 2) (tgt := 66) S.1 S.2.1 dX0_archNumber_8 (by decide) (by decide) rfl (by decide) ?_
    have hl : lv_has ls 4 [(3, .ref (ad (7 + 20 * j + a))), (0, .ref (ad (3 + j))), (1, .int (nI a)), (2, .int (nI 2))] := hl
    refine lv_aload_n S.1 S.2.1 dX0_archNumber_66 rfl (lv_at hl 0 rfl) ?_
    refine aC_getA (j := j) (i := a) (x := Q 2 a) S I hj (by omega) 2 (by decide) in_X0_archNumber_X1 (List.mem_of_getElem? (i := 4) rfl) (by rw [aq_ug_s]) dX0_archNumber_67 ?_
    exact aq_iret S.1 S.2.1 hr hlocks I dX0_archNumber_70 (by decide) (by decide) (by subst_vars; first | rfl | (simp only [aq_archNo]; done) | (simp only [aq_archNo]; rfl)) (by subst_vars; first | rfl | (simp only [aq_archNo]; done) | (simp only [aq_archNo]; rfl))
  · refine lv_tableIn (x := nI 3) (tgt := 71) S.1 S.2.1 dX0_archNumber_8 (by decide) (by decide) rfl (by decide) ?_
    have hl : lv_has ls 4 [(3, .ref (ad (7 + 20 * j + a))), (0, .ref (ad (3 + j))), (1, .int (nI a)), (2, .int (nI 3))] := hl
    refine lv_aload_n S.1 S.2.1 dX0_archNumber_71 rfl (lv_at hl 0 rfl) ?_
    refine aC_getA (j := j) (i := a) (x := Q 3 a) S I hj (by omega) 3 (by decide) in_X0_archNumber_X1 (List.mem_of_getElem? (i := 5) rfl) (by rw [aq_ug_s]) dX0_archNumber_72 ?_
    exact aq_iret S.1 S.2.1 hr hlocks I dX0_archNumber_75 (by decide) (by decide) (by subst_vars; first | rfl | (simp only [aq_archNo]; done) | (simp only [aq_archNo]; rfl)) (by subst_vars; first | rfl | (simp only [aq_archNo]; done) | (simp only [aq_archNo]; rfl))
  · refine lv_tableIn (x := nI 4) (tgt := 76) S.1 S.2.1 dX0_archNumber_8 (by decide) (by decide) rfl (by decide) ?_
    have hl : lv_has ls 4 [(3, .ref (ad (7 + 20 * j + a))), (0, .ref (ad (3 + j))), (1, .int (nI a)), (2, .int (nI 4))] := hl
    refine lv_aload_n S.1 S.2.1 dX0_archNumber_76 rfl (lv_at hl 0 rfl) ?_
    refine aC_getA (j := j) (i := a) (x := Q 4 a) S I hj (by omega) 4 (by decide) in_X0_archNumber_X1 (List.mem_of_getElem? (i := 6) rfl) (by rw [aq_ug_s]) dX0_archNumber_77 ?_
    exact aq_iret S.1 S.2.1 hr hlocks I dX0_archNumber_80 (by decide) (by decide) (by subst_vars; first | rfl | (simp only [aq_archNo]; done) | (simp only [aq_archNo]; rfl)) (by subst_vars; first | rfl | (simp only [aq_archNo]; done) | (simp only [aq_archNo]; rfl))
  · refine lv_tableIn (x := nI 5) (tgt := 81) S.1 S.2.1 dX0_archNumber_8 (by decide) (by decide) rfl (by decide) ?_
    have hl : lv_has ls 4 [(3, .ref (ad (7 + 20 * j + a))), (0, .ref (ad (3 + j))), (1, .int (nI a)), (2, .int (nI 5))] := hl
    refine lv_aload_n S.1 S.2.1 dX0_archNumber_81 rfl (lv_at hl 1 rfl) ?_
    refine lv_iload_n S.1 S.2.1 dX0_archNumber_82 rfl (lv_at hl 2 rfl) ?_
    refine aq_callVi (As := [.int (nI a)]) (rest := []) S (c_X0_slope l hJ (V := V) (Q := Q) (j := j) hj hn hn20 (a := a) (by omega) ) (cwV 1 S.2.2.2.2 gX0_archNumber_X0_slope rfl rfl rfl (by decide +kernel) ⟨Nat.le_of_ble_eq_true rfl, Nat.le_of_ble_eq_true rfl⟩) (aC_recvS (j := j) I hj) I hl.1 dX0_archNumber_83 rfl rfl (Nat.le_of_ble_eq_true rfl) ⟨by first | decide | (dsimp only; omega), by first | decide | (dsimp only; omega)⟩ (fun H locs I => ?_)
    exact aq_iret S.1 S.2.1 hr hlocks I dX0_archNumber_86 (by decide) (by decide) (by subst_vars; first | rfl | (simp only [aq_archNo]; done) | (simp only [aq_archNo]; rfl)) (by subst_vars; first | rfl | (simp only [aq_archNo]; done) | (simp only [aq_archNo]; rfl))
  · refine lv_tableIn (x := nI 6) (tgt := 87) S.1 S.2.1 dX0_archNumber_8 (by decide) (by decide) rfl (by decide) ?_
    have hl : lv_has ls 4 [(3, .ref (ad (7 + 20 * j + a))), (0, .ref (ad (3 + j))), (1, .int (nI a)), (2, .int (nI 6))] := hl
    refine lv_aload_n S.1 S.2.1 dX0_archNumber_87 rfl (lv_at hl 1 rfl) ?_
    refine lv_iload_n S.1 S.2.1 dX0_archNumber_88 rfl (lv_at hl 2 rfl) ?_
    refine aq_callVi (As := [.int (nI a)]) (rest := []) S (c_X0_rate l hJ (V := V) (Q := Q) (j := j) hj hn hn20 (a := a) (by omega) ) (cwV 1 S.2.2.2.2 gX0_archNumber_X0_rate rfl rfl rfl (by decide +kernel) ⟨Nat.le_of_ble_eq_true rfl, Nat.le_of_ble_eq_true rfl⟩) (aC_recvS (j := j) I hj) I hl.1 dX0_archNumber_89 rfl rfl (Nat.le_of_ble_eq_true rfl) ⟨by first | decide | (dsimp only; omega), by first | decide | (dsimp only; omega)⟩ (fun H locs I => ?_)
    exact aq_iret S.1 S.2.1 hr hlocks I dX0_archNumber_92 (by decide) (by decide) (by subst_vars; first | rfl | (simp only [aq_archNo]; done) | (simp only [aq_archNo]; rfl)) (by subst_vars; first | rfl | (simp only [aq_archNo]; done) | (simp only [aq_archNo]; rfl))
  · refine lv_tableIn (x := nI 7) (tgt := 93) S.1 S.2.1 dX0_archNumber_8 (by decide) (by decide) rfl (by decide) ?_
    have hl : lv_has ls 4 [(3, .ref (ad (7 + 20 * j + a))), (0, .ref (ad (3 + j))), (1, .int (nI a)), (2, .int (nI 7))] := hl
    refine lv_aload_n S.1 S.2.1 dX0_archNumber_93 rfl (lv_at hl 0 rfl) ?_
    refine aC_getA (j := j) (i := a) (x := Q 5 a) S I hj (by omega) 5 (by decide) in_X0_archNumber_X1 (List.mem_of_getElem? (i := 7) rfl) (by rw [aq_ug_s]) dX0_archNumber_94 ?_
    exact aq_iret S.1 S.2.1 hr hlocks I dX0_archNumber_97 (by decide) (by decide) (by subst_vars; first | rfl | (simp only [aq_archNo]; done) | (simp only [aq_archNo]; rfl)) (by subst_vars; first | rfl | (simp only [aq_archNo]; done) | (simp only [aq_archNo]; rfl))
  · refine lv_tableOut (x := nI 8) (tgt := 98) S.1 S.2.1 dX0_archNumber_8 (by decide) (by decide) ?_
    have hl : lv_has ls 4 [(3, .ref (ad (7 + 20 * j + a))), (0, .ref (ad (3 + j))), (1, .int (nI a)), (2, .int (nI 8))] := hl
    refine lv_aload_n S.1 S.2.1 dX0_archNumber_98 rfl (lv_at hl 0 rfl) ?_
    refine aq_callVi (As := []) (rest := []) S (c_X1_hasMill l hJ (V := V) (Q := Q) (j := j) (i := a) hj (by omega) ) (cwV 0 S.2.2.2.2 gX0_archNumber_X1_hasMill rfl rfl rfl (by decide +kernel) ⟨Nat.le_of_ble_eq_true rfl, Nat.le_of_ble_eq_true rfl⟩) (aC_recvA (j := j) (i := a) I hj (by omega)) I hl.1 dX0_archNumber_99 rfl rfl (Nat.le_of_ble_eq_true rfl) ⟨by first | decide | (dsimp only; omega), by first | decide | (dsimp only; omega)⟩ (fun H locs I => ?_)
    refine lv_if_eq (tgt := 109) S.1 S.2.1 dX0_archNumber_102 (by decide) (fun c1 => ?_) (fun c1 => ?_)
    · refine lv_iconst (v := 0) S.1 S.2.1 dX0_archNumber_109 (by decide) ?_
      exact aq_iret S.1 S.2.1 hr hlocks I dX0_archNumber_110 (by decide) (by decide) (by subst_vars; first | rfl | (simp only [aq_archNo, if_pos c1]; done) | (simp only [aq_archNo, if_pos c1]; rfl)) (by subst_vars; first | rfl | (simp only [aq_archNo, if_pos c1]; done) | (simp only [aq_archNo, if_pos c1]; rfl))
    · refine lv_iconst (v := 1) S.1 S.2.1 dX0_archNumber_105 (by decide) ?_
      refine lv_goto (tgt := 110) S.1 S.2.1 dX0_archNumber_106 (by decide) ?_
      exact aq_iret S.1 S.2.1 hr hlocks I dX0_archNumber_110 (by decide) (by decide) (by subst_vars; first | rfl | (simp only [aq_archNo, if_neg c1]; done) | (simp only [aq_archNo, if_neg c1]; rfl)) (by subst_vars; first | rfl | (simp only [aq_archNo, if_neg c1]; done) | (simp only [aq_archNo, if_neg c1]; rfl))
