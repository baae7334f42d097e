set_option maxHeartbeats 4000000 in
set_option maxRecDepth 100000 in
/-- X4_isIn -/
theorem c_X4_isIn (l : Launch) {D : va_G} {ad : Nat → Nat} {cI : ClassId} {th : Int32} {V : aq_V} (v a b : Int32) : ar_Met l yX4_isIn wsX4_isIn ({ frames := 0, cells := 0, slots := 0, locals := 0 }) D (aR_t cI) 22 ad [.int v, .int a, .int b] (aR_w ad cI th V) (aq_Qi D (aR_t cI) 22 ad (aR_isIn v a b) (aR_w ad cI th V)) 0 0 := by
  refine ar_enter (cc := cX4_isIn) (maxL := 3) (ret := some .boolean) (by decide) rfl (Nat.le_of_ble_eq_true rfl) ?_
  intro p e s m below meth c ls S hr hlocks hE I hl
  have S : CallFix p m c cX4_isIn 3 s _ wsX4_isIn RX4 := S
  have hl : lv_has ls 3 [(0, .int v), (1, .int a), (2, .int b)] := hl
  refine lv_iload_n S.1 S.2.1 dX4_isIn_0 rfl (lv_at hl 0 rfl) ?_
  refine lv_iload_n S.1 S.2.1 dX4_isIn_1 rfl (lv_at hl 1 rfl) ?_
  refine lv_icmp_lt (tgt := 14) S.1 S.2.1 dX4_isIn_2 (by decide) (fun c1 => ?_) (fun c1 => ?_)
  · refine lv_iconst (v := 0) S.1 S.2.1 dX4_isIn_14 (by decide) ?_
    exact aq_zret S.1 S.2.1 hr hlocks I dX4_isIn_15 (by decide) (by decide) (by decide) (by subst_vars; first | rfl | (simp only [aR_isIn, if_pos c1]; done) | (simp only [aR_isIn, if_pos c1]; rfl)) (by subst_vars; first | rfl | (simp only [aR_isIn, if_pos c1]; done) | (simp only [aR_isIn, if_pos c1]; rfl))
  · refine lv_iload_n S.1 S.2.1 dX4_isIn_5 rfl (lv_at hl 0 rfl) ?_
    refine lv_iload_n S.1 S.2.1 dX4_isIn_6 rfl (lv_at hl 2 rfl) ?_
    refine lv_icmp_gt (tgt := 14) S.1 S.2.1 dX4_isIn_7 (by decide) (fun c2 => ?_) (fun c2 => ?_)
    · refine lv_iconst (v := 0) S.1 S.2.1 dX4_isIn_14 (by decide) ?_
      exact aq_zret S.1 S.2.1 hr hlocks I dX4_isIn_15 (by decide) (by decide) (by decide) (by subst_vars; first | rfl | (simp only [aR_isIn, if_neg c1, if_pos c2]; done) | (simp only [aR_isIn, if_neg c1, if_pos c2]; rfl)) (by subst_vars; first | rfl | (simp only [aR_isIn, if_neg c1, if_pos c2]; done) | (simp only [aR_isIn, if_neg c1, if_pos c2]; rfl))
    · refine lv_iconst (v := 1) S.1 S.2.1 dX4_isIn_10 (by decide) ?_
      refine lv_goto (tgt := 15) S.1 S.2.1 dX4_isIn_11 (by decide) ?_
      exact aq_zret S.1 S.2.1 hr hlocks I dX4_isIn_15 (by decide) (by decide) (by decide) (by subst_vars; first | rfl | (simp only [aR_isIn, if_neg c1, if_neg c2]; done) | (simp only [aR_isIn, if_neg c1, if_neg c2]; rfl)) (by subst_vars; first | rfl | (simp only [aR_isIn, if_neg c1, if_neg c2]; done) | (simp only [aR_isIn, if_neg c1, if_neg c2]; rfl))
theorem in_X4_no_X4 : ∀ w ∈ wsX40, w ∈ wsX4_no := fun _ h => List.mem_cons_of_mem _ (List.mem_append_right _ h)
set_option maxHeartbeats 4000000 in
set_option maxRecDepth 100000 in
/-- X4_no -/
theorem c_X4_no (l : Launch) {D : va_G} {ad : Nat → Nat} {cI : ClassId} {th : Int32} (hJ : aq_J 22 ad) {V : aq_V} (v : Int32) : ar_Met l yX4_no wsX4_no ({ frames := 0, cells := 0, slots := 0, locals := 0 }) D (aR_t cI) 22 ad [.ref (ad 0), .int v] (aR_w ad cI th V) (aq_Qi D (aR_t cI) 22 ad (0) (aR_w ad cI v V)) 0 0 := by
  refine ar_enter (cc := cX4_no) (maxL := 2) (ret := some .int) (by decide) rfl (Nat.le_of_ble_eq_true rfl) ?_
  intro p e s m below meth c ls S hr hlocks hE I hl
  have S : CallFix p m c cX4_no 2 s _ wsX4_no RX4 := S
  have hl : lv_has ls 2 [(0, .ref (ad 0)), (1, .int v)] := hl
  refine lv_aload_n S.1 S.2.1 dX4_no_0 rfl (lv_at hl 0 rfl) ?_
  refine lv_iload_n S.1 S.2.1 dX4_no_1 rfl (lv_at hl 1 rfl) ?_
  refine aR_putTh (x := v) hJ S I in_X4_no_X4 (List.mem_of_getElem? (i := 1) rfl) dX4_no_2 (fun H locs I => ?_)
  refine lv_iconst (v := 0) S.1 S.2.1 dX4_no_5 (by decide) ?_
  exact aq_iret S.1 S.2.1 hr hlocks I dX4_no_6 (by decide) (by decide) (by subst_vars; rfl) (by subst_vars; rfl)
theorem in_X4_thrown_X4 : ∀ w ∈ wsX40, w ∈ wsX4_thrown := fun _ h => List.mem_cons_of_mem _ (List.mem_append_right _ h)
set_option maxHeartbeats 4000000 in
set_option maxRecDepth 100000 in
/-- X4_thrown -/
theorem c_X4_thrown (l : Launch) {D : va_G} {ad : Nat → Nat} {cI : ClassId} {th : Int32} (hJ : aq_J 22 ad) {V : aq_V}  : ar_Met l yX4_thrown wsX4_thrown ({ frames := 0, cells := 0, slots := 0, locals := 0 }) D (aR_t cI) 22 ad [.ref (ad 0)] (aR_w ad cI th V) (aq_Qi D (aR_t cI) 22 ad (th) (aR_w ad cI th V)) 0 0 := by
  refine ar_enter (cc := cX4_thrown) (maxL := 1) (ret := some .int) (by decide) rfl (Nat.le_of_ble_eq_true rfl) ?_
  intro p e s m below meth c ls S hr hlocks hE I hl
  have S : CallFix p m c cX4_thrown 1 s _ wsX4_thrown RX4 := S
  have hl : lv_has ls 1 [(0, .ref (ad 0))] := hl
  refine lv_aload_n S.1 S.2.1 dX4_thrown_0 rfl (lv_at hl 0 rfl) ?_
  refine aR_getM (v := .int th) S I 0 (by decide) in_X4_thrown_X4 (List.mem_of_getElem? (i := 1) rfl) rfl dX4_thrown_1 ?_
  exact aq_iret S.1 S.2.1 hr hlocks I dX4_thrown_4 (by decide) (by decide) (by subst_vars; rfl) (by subst_vars; rfl)
theorem in_X4_isArch_X4 : ∀ w ∈ wsX40, w ∈ wsX4_isArch := fun _ h => List.mem_cons_of_mem _ (List.mem_append_right _ h)
set_option maxHeartbeats 4000000 in
set_option maxRecDepth 100000 in
/-- X4_isArch -/
theorem c_X4_isArch (l : Launch) {D : va_G} {ad : Nat → Nat} {cI : ClassId} {th : Int32} (hJ : aq_J 22 ad) {V : aq_V} {n : Nat} (hn : V 3 10 3 = nI n) (hn20 : n ≤ 20) (v : Int32) : ar_Met l yX4_isArch wsX4_isArch ({ frames := 1, cells := 0, slots := 0, locals := 22 }) D (aR_t cI) 22 ad [.ref (ad 0), .int v] (aR_w ad cI th V) (aq_Qi D (aR_t cI) 22 ad (aR_isIn v 0 (nI n - 1)) (aR_w ad cI th V)) 0 0 := by
  refine ar_enter (cc := cX4_isArch) (maxL := 2) (ret := some .boolean) (by decide) rfl (Nat.le_of_ble_eq_true rfl) ?_
  intro p e s m below meth c ls S hr hlocks hE I hl
  have S : CallFix p m c cX4_isArch 2 s _ wsX4_isArch RX4 := S
  have hl : lv_has ls 2 [(0, .ref (ad 0)), (1, .int v)] := hl
  refine lv_iload_n S.1 S.2.1 dX4_isArch_0 rfl (lv_at hl 1 rfl) ?_
  refine lv_iconst (v := 0) S.1 S.2.1 dX4_isArch_1 (by decide) ?_
  refine lv_aload_n S.1 S.2.1 dX4_isArch_2 rfl (lv_at hl 0 rfl) ?_
  refine aR_getM (v := .int (nI n)) S I 3 (by decide) in_X4_isArch_X4 (List.mem_of_getElem? (i := 1) rfl) (by first | (rw [hn]; done) | (rw [hn]; rfl)) dX4_isArch_3 ?_
  refine lv_iconst (v := 1) S.1 S.2.1 dX4_isArch_6 (by decide) ?_
  refine lv_isub S.1 S.2.1 dX4_isArch_7 ?_
  refine ar_callSi (As := [.int v, .int 0, .int (nI n - 1)]) (rest := []) S hE (c_X4_isIn l (V := V) (th := th) v 0 (nI n - 1)) (va_cwS 3 S.2.2.2.2 gX4_isArch_X4_isIn rfl rfl rfl (by decide +kernel) ⟨Nat.le_of_ble_eq_true rfl, Nat.le_of_ble_eq_true rfl⟩)  I hl.1 dX4_isArch_8 rfl rfl (Nat.le_of_ble_eq_true rfl) ⟨by first | decide | (dsimp only; omega), by first | decide | (dsimp only; omega)⟩ (fun H locs I hk9 => ?_)
  exact aq_zret S.1 S.2.1 hr hlocks I dX4_isArch_11 (by decide) (by decide) (aR_isIn_nar _ _ _) (by subst_vars; rfl) (by subst_vars; rfl)
theorem in_X4_slope_X4 : ∀ w ∈ wsX40, w ∈ wsX4_slope := fun _ h => List.mem_cons_of_mem _ (List.mem_append_right _ h)
set_option maxHeartbeats 4000000 in
set_option maxRecDepth 100000 in
/-- X4_slope -/
theorem c_X4_slope (l : Launch) {D : va_G} {ad : Nat → Nat} {cI : ClassId} {th : Int32} (hJ : aq_J 22 ad) {V : aq_V} {Q : aq_Q} (hst : aR_st (V 3) Q) {n : Nat} (hn : V 3 10 3 = nI n) (hn20 : n ≤ 20) {a : Nat} (ha : a < n) : ar_Met l yX4_slope wsX4_slope ({ frames := 0, cells := 0, slots := 0, locals := 0 }) D (aR_t cI) 22 ad [.ref (ad 0), .int (nI a)] (aR_w ad cI th V) (aq_Qi D (aR_t cI) 22 ad (aq_slope n Q a) (aR_w ad cI th V)) 0 0 := by
  refine ar_enter (cc := cX4_slope) (maxL := 2) (ret := some .int) (by decide) rfl (Nat.le_of_ble_eq_true rfl) ?_
  intro p e s m below meth c ls S hr hlocks hE I hl
  have S : CallFix p m c cX4_slope 2 s _ wsX4_slope RX4 := S
  have hl : lv_has ls 2 [(0, .ref (ad 0)), (1, .int (nI a))] := hl
  refine lv_aload_n S.1 S.2.1 dX4_slope_0 rfl (lv_at hl 0 rfl) ?_
  refine aR_getM (v := .ref (ad 3)) S I 4 (by decide) in_X4_slope_X4 (List.mem_of_getElem? (i := 1) rfl) rfl dX4_slope_1 ?_
  refine lv_iload_n S.1 S.2.1 dX4_slope_4 rfl (lv_at hl 1 rfl) ?_
  refine aR_fld (t := 0) (f := 0) (k := a) (x := Q 0 a) S I (by decide) rfl rfl (by omega) (hst.1 _) dX4_slope_5 ?_
  refine lv_iload_n S.1 S.2.1 dX4_slope_6 rfl (lv_at hl 1 rfl) ?_
  refine lv_iconst (v := 1) S.1 S.2.1 dX4_slope_7 (by decide) ?_
  refine lv_iadd S.1 S.2.1 dX4_slope_8 ?_
  refine lv_topi (fun x1 (ex1 : x1 = nI a + 1) => ?_)
  rw [nI_1] at ex1; subst ex1
  refine lv_aload_n S.1 S.2.1 dX4_slope_9 rfl (lv_at hl 0 rfl) ?_
  refine aR_getM (v := .int (nI n)) S I 3 (by decide) in_X4_slope_X4 (List.mem_of_getElem? (i := 2) rfl) (by first | (rw [hn]; done) | (rw [hn]; rfl)) dX4_slope_10 ?_
  refine lv_icmp_ge (tgt := 27) S.1 S.2.1 dX4_slope_13 (by decide) (fun c2 => ?_) (fun c2 => ?_)
  · have c2 : n ≤ (a + 1) := (nI_leI (a := n) (b := (a + 1)) (by omega) (by omega)).mp c2
    refine lv_iconst (v := 0) S.1 S.2.1 dX4_slope_27 (by decide) ?_
    refine lv_isub S.1 S.2.1 dX4_slope_28 ?_
    exact aq_iret S.1 S.2.1 hr hlocks I dX4_slope_29 (by decide) (by decide) (by subst_vars; first | rfl | (simp only [aq_slope, if_neg (Nat.not_lt.mpr c2)]; done) | (simp only [aq_slope, if_neg (Nat.not_lt.mpr c2)]; rfl)) (by subst_vars; first | rfl | (simp only [aq_slope, if_neg (Nat.not_lt.mpr c2)]; done) | (simp only [aq_slope, if_neg (Nat.not_lt.mpr c2)]; rfl))
  · have c2 : (a + 1) < n := Nat.lt_of_not_le (fun z9 => c2 ((nI_leI (a := n) (b := (a + 1)) (by omega) (by omega)).mpr z9))
    refine lv_aload_n S.1 S.2.1 dX4_slope_16 rfl (lv_at hl 0 rfl) ?_
    refine aR_getM (v := .ref (ad 3)) S I 4 (by decide) in_X4_slope_X4 (List.mem_of_getElem? (i := 1) rfl) rfl dX4_slope_17 ?_
    refine lv_iload_n S.1 S.2.1 dX4_slope_20 rfl (lv_at hl 1 rfl) ?_
    refine lv_iconst (v := 1) S.1 S.2.1 dX4_slope_21 (by decide) ?_
    refine lv_iadd S.1 S.2.1 dX4_slope_22 ?_
    refine lv_topi (fun x3 (ex3 : x3 = nI a + 1) => ?_)
    rw [nI_1] at ex3; subst ex3
    refine aR_fld (t := 0) (f := 0) (k := a + 1) (x := Q 0 (a + 1)) S I (by decide) rfl rfl (by omega) (hst.1 _) dX4_slope_23 ?_
    refine lv_goto (tgt := 28) S.1 S.2.1 dX4_slope_24 (by decide) ?_
    refine lv_isub S.1 S.2.1 dX4_slope_28 ?_
    exact aq_iret S.1 S.2.1 hr hlocks I dX4_slope_29 (by decide) (by decide) (by subst_vars; first | rfl | (simp only [aq_slope, if_pos c2]; done) | (simp only [aq_slope, if_pos c2]; rfl)) (by subst_vars; first | rfl | (simp only [aq_slope, if_pos c2]; done) | (simp only [aq_slope, if_pos c2]; rfl))
set_option maxHeartbeats 4000000 in
set_option maxRecDepth 100000 in
/-- X4_rate -/
theorem c_X4_rate (l : Launch) {D : va_G} {ad : Nat → Nat} {cI : ClassId} {th : Int32} (hJ : aq_J 22 ad) {V : aq_V} {Q : aq_Q} (hst : aR_st (V 3) Q) {n : Nat} (hn : V 3 10 3 = nI n) (hn20 : n ≤ 20) {a : Nat} (ha : a < n) : ar_Met l yX4_rate wsX4_rate ({ frames := 1, cells := 0, slots := 0, locals := 21 }) D (aR_t cI) 22 ad [.ref (ad 0), .int (nI a)] (aR_w ad cI th V) (aq_Qi D (aR_t cI) 22 ad (aq_rate n Q a) (aR_w ad cI th V)) 0 0 := by
  refine ar_enter (cc := cX4_rate) (maxL := 2) (ret := some .int) (by decide) rfl (Nat.le_of_ble_eq_true rfl) ?_
  intro p e s m below meth c ls S hr hlocks hE I hl
  have S : CallFix p m c cX4_rate 2 s _ wsX4_rate RX4 := S
  have hl : lv_has ls 2 [(0, .ref (ad 0)), (1, .int (nI a))] := hl
  refine lv_bipush (v := 30) S.1 S.2.1 dX4_rate_0 (by decide) ?_
  refine lv_iconst (v := 2) S.1 S.2.1 dX4_rate_2 (by decide) ?_
  refine lv_aload_n S.1 S.2.1 dX4_rate_3 rfl (lv_at hl 0 rfl) ?_
  refine lv_iload_n S.1 S.2.1 dX4_rate_4 rfl (lv_at hl 1 rfl) ?_
  refine ar_callVi (As := [.int (nI a)]) (rest := [.int 2, .int 30]) S hE (c_X4_slope l hJ (V := V) (th := th) (Q := Q) hst (n := n) hn hn20 (a := a) (by omega)) (cwV 1 S.2.2.2.2 gX4_rate_X4_slope rfl rfl rfl (by decide +kernel) ⟨Nat.le_of_ble_eq_true rfl, Nat.le_of_ble_eq_true rfl⟩) (aR_recvM I) I hl.1 dX4_rate_5 rfl rfl (Nat.le_of_ble_eq_true rfl) ⟨by first | decide | (dsimp only; omega), by first | decide | (dsimp only; omega)⟩ (fun H locs I hk9 => ?_)
  refine lv_iadd S.1 S.2.1 dX4_rate_8 ?_
  refine aq_mmin S hl.1 (List.mem_of_getElem? (i := 1) rfl) (List.mem_of_getElem? (i := 2) rfl) (List.mem_of_getElem? (i := 3) rfl) (List.mem_of_getElem? (i := 4) rfl) (by decide) (Nat.le_of_ble_eq_true rfl) (by decide) (by decide) dX4_rate_9 ?_
  refine lv_topi (fun x1 (ex1 : x1 = aq_mn 30 (2 + aq_slope n Q a)) => ?_)
  exact aq_iret S.1 S.2.1 hr hlocks I dX4_rate_12 (by decide) (by decide) (by subst_vars; rfl) (by subst_vars; rfl)
theorem in_X3_come_X3 : ∀ w ∈ wsX30, w ∈ wsX3_come := fun _ h => List.mem_cons_of_mem _ (List.mem_append_left _ (List.mem_append_right _ h))
theorem in_X3_come_X4 : ∀ w ∈ wsX40, w ∈ wsX3_come := fun _ h => List.mem_cons_of_mem _ (List.mem_append_right _ h)
set_option maxHeartbeats 4000000 in
set_option maxRecDepth 100000 in
/-- X3_come -/
theorem c_X3_come (l : Launch) {D : va_G} {ad : Nat → Nat} {cI : ClassId} {th : Int32} (hJ : aq_J 22 ad) {V : aq_V} {Q : aq_Q} {j : Nat} (hj : j < 2) (hst : aR_st (V 3) Q) {n : Nat} (hn : V 3 10 3 = nI n) (hn20 : n ≤ 20) {a : Nat} (ha : a ≤ 22) (o : Int32) : ar_Met l yX3_come wsX3_come ({ frames := 1, cells := 0, slots := 0, locals := 21 }) D (aR_t cI) 22 ad [.ref (ad (6 + j)), .int (nI a), .int o] (aR_w ad cI th (aq_ug V j Q)) (aq_Qi D (aR_t cI) 22 ad (aq_pourR n Q a o) (aR_w ad cI th (aq_ug V j (aq_pourQ n Q a o)))) 0 0 := by
  refine ar_enter (cc := cX3_come) (maxL := 4) (ret := some .int) (by decide) rfl (Nat.le_of_ble_eq_true rfl) ?_
  intro p e s m below meth c ls S hr hlocks hE I hl
  have S : CallFix p m c cX3_come 4 s _ wsX3_come RX3 := S
  have hl : lv_has ls 4 [(0, .ref (ad (6 + j))), (1, .int (nI a)), (2, .int o)] := hl
  refine lv_iload_n S.1 S.2.1 dX3_come_0 rfl (lv_at hl 2 rfl) ?_
  refine lv_iload_n S.1 S.2.1 dX3_come_1 rfl (lv_at hl 1 rfl) ?_
  refine lv_aload_n S.1 S.2.1 dX3_come_2 rfl (lv_at hl 0 rfl) ?_
  refine aR_getS (j := j) (v := .ref (ad 0)) S I hj 16 (by decide) in_X3_come_X3 (List.mem_of_getElem? (i := 1) rfl) rfl dX3_come_3 ?_
  refine aR_getMN (v := .int (nI n)) S I 3 (by decide) in_X3_come_X4 (hE.1 _ (List.mem_of_getElem? (i := 17) rfl)) (by first | (rw [aq_ug_n _ _ (by first | decide | omega), hn]; done) | (rw [aq_ug_n _ _ (by first | decide | omega), hn]; rfl)) dX3_come_6 ?_
  refine lv_icmp_ge (tgt := 31) S.1 S.2.1 dX3_come_9 (by decide) (fun c1 => ?_) (fun c1 => ?_)
  · have c1 : n ≤ a := (nI_leI (a := n) (b := a) (by omega) (by omega)).mp c1
    refine lv_aload_n S.1 S.2.1 dX3_come_31 rfl (lv_at hl 0 rfl) ?_
    refine aR_getS (j := j) (v := .int (Q 10 6)) S I hj 2 (by decide) in_X3_come_X3 (List.mem_of_getElem? (i := 3) rfl) (by first | (rw [aq_ug_s]; done) | (rw [aq_ug_s]; rfl)) dX3_come_32 ?_
    refine lv_aload_n S.1 S.2.1 dX3_come_35 rfl (lv_at hl 0 rfl) ?_
    refine aR_getS (j := j) (v := .int (Q 10 7)) S I hj 1 (by decide) in_X3_come_X3 (List.mem_of_getElem? (i := 4) rfl) (by first | (rw [aq_ug_s]; done) | (rw [aq_ug_s]; rfl)) dX3_come_36 ?_
    refine lv_isub S.1 S.2.1 dX3_come_39 ?_
    refine aq_mmin S hl.1 (List.mem_of_getElem? (i := 5) rfl) (List.mem_of_getElem? (i := 6) rfl) (List.mem_of_getElem? (i := 7) rfl) (List.mem_of_getElem? (i := 8) rfl) (by decide) (Nat.le_of_ble_eq_true rfl) (by decide) (by decide) dX3_come_40 ?_
    refine lv_istore_n (lv' := [(3, .int (aq_mn o (Q 10 6 - Q 10 7))), (0, .ref (ad (6 + j))), (1, .int (nI a)), (2, .int o)]) S.1 S.2.1 dX3_come_43 rfl hl (by decide) rfl (fun ls hl => ?_)
    refine lv_iload_n S.1 S.2.1 dX3_come_44 rfl (lv_at hl 2 rfl) ?_
    refine lv_aload_n S.1 S.2.1 dX3_come_45 rfl (lv_at hl 1 rfl) ?_
    refine aR_getS (j := j) (v := .ref (ad 0)) S I hj 16 (by decide) in_X3_come_X3 (List.mem_of_getElem? (i := 1) rfl) rfl dX3_come_46 ?_
    refine aR_getMN (v := .int (nI n)) S I 3 (by decide) in_X3_come_X4 (hE.1 _ (List.mem_of_getElem? (i := 17) rfl)) (by first | (rw [aq_ug_n _ _ (by first | decide | omega), hn]; done) | (rw [aq_ug_n _ _ (by first | decide | omega), hn]; rfl)) dX3_come_49 ?_
    refine lv_icmp_ge (tgt := 68) S.1 S.2.1 dX3_come_52 (by decide) (fun c2 => ?_) (fun c2 => ?_)
    · have c2 : n ≤ a := (nI_leI (a := n) (b := a) (by omega) (by omega)).mp c2
      refine lv_aload_n S.1 S.2.1 dX3_come_68 rfl (lv_at hl 1 rfl) ?_
      refine lv_dup S.1 S.2.1 dX3_come_69 rfl ?_
      refine aR_getS (j := j) (v := .int (Q 10 7)) S I hj 1 (by decide) in_X3_come_X3 (List.mem_of_getElem? (i := 4) rfl) (by first | (rw [aq_ug_s]; done) | (rw [aq_ug_s]; rfl)) dX3_come_70 ?_
      refine lv_iload_n S.1 S.2.1 dX3_come_73 rfl (lv_at hl 0 rfl) ?_
      refine lv_iadd S.1 S.2.1 dX3_come_74 ?_
      refine lv_topi (fun x3 (ex3 : x3 = Q 10 7 + (aq_mn o (Q 10 6 - Q 10 7))) => ?_)
      refine aR_putS (V := V) (Q := Q) (j := j) (x := x3) hJ S I hj 1 (by decide) (by decide) 7 rfl in_X3_come_X3 (List.mem_of_getElem? (i := 4) rfl) dX3_come_75 (fun H locs M4 hM4 I => ?_)
      refine lv_iload_n S.1 S.2.1 dX3_come_78 rfl (lv_at hl 0 rfl) ?_
      exact aq_iret S.1 S.2.1 hr hlocks I dX3_come_79 (by decide) (by decide) (by subst_vars; first | rfl | (simp only [aq_pourR, aq_pourQ, aq_fillR, aq_fillQ, if_neg (Nat.not_lt.mpr c1), if_neg (Nat.not_lt.mpr c2)]; done) | (simp only [aq_pourR, aq_pourQ, aq_fillR, aq_fillQ, if_neg (Nat.not_lt.mpr c1), if_neg (Nat.not_lt.mpr c2)]; rfl)) (by subst_vars; first | rfl | (simp only [aq_pourR, aq_pourQ, aq_fillR, aq_fillQ, if_neg (Nat.not_lt.mpr c1), if_neg (Nat.not_lt.mpr c2)]; done) | (simp only [aq_pourR, aq_pourQ, aq_fillR, aq_fillQ, if_neg (Nat.not_lt.mpr c1), if_neg (Nat.not_lt.mpr c2)]; rfl))
    · have c2 : a < n := Nat.lt_of_not_le (fun z9 => c2 ((nI_leI (a := n) (b := a) (by omega) (by omega)).mpr z9))
      exfalso; omega
  · have c1 : a < n := Nat.lt_of_not_le (fun z9 => c1 ((nI_leI (a := n) (b := a) (by omega) (by omega)).mpr z9))
    refine lv_aload_n S.1 S.2.1 dX3_come_12 rfl (lv_at hl 0 rfl) ?_
    refine aR_getS (j := j) (v := .ref (ad 0)) S I hj 16 (by decide) in_X3_come_X3 (List.mem_of_getElem? (i := 1) rfl) rfl dX3_come_13 ?_
    refine aR_getMN (v := .ref (ad 4)) S I 5 (by decide) in_X3_come_X4 (hE.1 _ (List.mem_of_getElem? (i := 18) rfl)) rfl dX3_come_16 ?_
    refine lv_iload_n S.1 S.2.1 dX3_come_19 rfl (lv_at hl 1 rfl) ?_
    refine aR_fld (t := 1) (f := 1) (k := a) (x := Q 1 a) S I (by decide) rfl rfl (by omega) (by rw [aq_ug_n _ _ (by first | decide | omega)]; exact hst.2.1 _) dX3_come_20 ?_
    refine lv_aload_n S.1 S.2.1 dX3_come_21 rfl (lv_at hl 0 rfl) ?_
    refine aR_getS (j := j) (v := .ref (ad (8 + 7 * j))) S I hj 4 (by decide) in_X3_come_X3 (List.mem_of_getElem? (i := 2) rfl) rfl dX3_come_22 ?_
    refine lv_iload_n S.1 S.2.1 dX3_come_25 rfl (lv_at hl 1 rfl) ?_
    refine aR_ald (j := j) (a := 0) (f := 2) (k := a) (x := Q 2 a) S I hj (by decide) rfl rfl (by omega) (by rw [aq_ug_s]) dX3_come_26 ?_
    refine lv_isub S.1 S.2.1 dX3_come_27 ?_
    refine lv_goto (tgt := 40) S.1 S.2.1 dX3_come_28 (by decide) ?_
    refine aq_mmin S hl.1 (List.mem_of_getElem? (i := 5) rfl) (List.mem_of_getElem? (i := 6) rfl) (List.mem_of_getElem? (i := 7) rfl) (List.mem_of_getElem? (i := 8) rfl) (by decide) (Nat.le_of_ble_eq_true rfl) (by decide) (by decide) dX3_come_40 ?_
    refine lv_istore_n (lv' := [(3, .int (aq_mn o (Q 1 a - Q 2 a))), (0, .ref (ad (6 + j))), (1, .int (nI a)), (2, .int o)]) S.1 S.2.1 dX3_come_43 rfl hl (by decide) rfl (fun ls hl => ?_)
    refine lv_iload_n S.1 S.2.1 dX3_come_44 rfl (lv_at hl 2 rfl) ?_
    refine lv_aload_n S.1 S.2.1 dX3_come_45 rfl (lv_at hl 1 rfl) ?_
    refine aR_getS (j := j) (v := .ref (ad 0)) S I hj 16 (by decide) in_X3_come_X3 (List.mem_of_getElem? (i := 1) rfl) rfl dX3_come_46 ?_
    refine aR_getMN (v := .int (nI n)) S I 3 (by decide) in_X3_come_X4 (hE.1 _ (List.mem_of_getElem? (i := 17) rfl)) (by first | (rw [aq_ug_n _ _ (by first | decide | omega), hn]; done) | (rw [aq_ug_n _ _ (by first | decide | omega), hn]; rfl)) dX3_come_49 ?_
    refine lv_icmp_ge (tgt := 68) S.1 S.2.1 dX3_come_52 (by decide) (fun c5 => ?_) (fun c5 => ?_)
    · have c5 : n ≤ a := (nI_leI (a := n) (b := a) (by omega) (by omega)).mp c5
      exfalso; omega
    · have c5 : a < n := Nat.lt_of_not_le (fun z9 => c5 ((nI_leI (a := n) (b := a) (by omega) (by omega)).mpr z9))
      refine lv_aload_n S.1 S.2.1 dX3_come_55 rfl (lv_at hl 1 rfl) ?_
      refine aR_getS (j := j) (v := .ref (ad (8 + 7 * j))) S I hj 4 (by decide) in_X3_come_X3 (List.mem_of_getElem? (i := 2) rfl) rfl dX3_come_56 ?_
      refine lv_iload_n S.1 S.2.1 dX3_come_59 rfl (lv_at hl 2 rfl) ?_
      refine lv_dup2_11 S.1 S.2.1 dX3_come_60 rfl rfl ?_
      refine aR_ald (j := j) (a := 0) (f := 2) (k := a) (x := Q 2 a) S I hj (by decide) rfl rfl (by omega) (by rw [aq_ug_s]) dX3_come_61 ?_
      refine lv_iload_n S.1 S.2.1 dX3_come_62 rfl (lv_at hl 0 rfl) ?_
      refine lv_iadd S.1 S.2.1 dX3_come_63 ?_
      refine lv_topi (fun x6 (ex6 : x6 = Q 2 a + (aq_mn o (Q 1 a - Q 2 a))) => ?_)
      refine aR_ast (V := V) (Q := Q) (j := j) (a := 0) (f := 2) (k := a) (x := x6) hJ S I hj (by decide) rfl rfl (by omega) dX3_come_64 (fun H locs M7 hM7 I => ?_)
      refine lv_goto (tgt := 78) S.1 S.2.1 dX3_come_65 (by decide) ?_
      refine lv_iload_n S.1 S.2.1 dX3_come_78 rfl (lv_at hl 0 rfl) ?_
      exact aq_iret S.1 S.2.1 hr hlocks I dX3_come_79 (by decide) (by decide) (by subst_vars; first | rfl | (simp only [aq_pourR, aq_pourQ, aq_fillR, aq_fillQ, if_pos c1, if_pos c5]; done) | (simp only [aq_pourR, aq_pourQ, aq_fillR, aq_fillQ, if_pos c1, if_pos c5]; rfl)) (by subst_vars; first | rfl | (simp only [aq_pourR, aq_pourQ, aq_fillR, aq_fillQ, if_pos c1, if_pos c5]; done) | (simp only [aq_pourR, aq_pourQ, aq_fillR, aq_fillQ, if_pos c1, if_pos c5]; rfl))
theorem in_X3_grind_X3 : ∀ w ∈ wsX30, w ∈ wsX3_grind := fun _ h => List.mem_cons_of_mem _ (List.mem_append_left _ (List.mem_append_right _ h))
theorem in_X3_grind_X4 : ∀ w ∈ wsX40, w ∈ wsX3_grind := fun _ h => List.mem_cons_of_mem _ (List.mem_append_right _ h)
set_option maxHeartbeats 4000000 in
set_option maxRecDepth 100000 in
/-- X3_grind -/
theorem c_X3_grind (l : Launch) {D : va_G} {ad : Nat → Nat} {cI : ClassId} {th : Int32} (hJ : aq_J 22 ad) {V : aq_V} {Q : aq_Q} {j : Nat} (hj : j < 2) (hst : aR_st (V 3) Q) {n : Nat} (hn : V 3 10 3 = nI n) (hn20 : n ≤ 20) {a : Nat} (ha : a < n) : ar_Met l yX3_grind wsX3_grind ({ frames := 2, cells := 0, slots := 0, locals := 44 }) D (aR_t cI) 22 ad [.ref (ad (6 + j)), .int (nI a)] (aR_w ad cI th (aq_ug V j Q)) (aq_Qv D (aR_t cI) 22 ad (aR_w ad cI th (aq_ug V j (aR_grindQ n Q a)))) 0 0 := by
  refine ar_enter (cc := cX3_grind) (maxL := 3) (ret := none) (by decide) rfl (Nat.le_of_ble_eq_true rfl) ?_
  intro p e s m below meth c ls S hr hlocks hE I hl
  have S : CallFix p m c cX3_grind 3 s _ wsX3_grind RX3 := S
  have hl : lv_has ls 3 [(0, .ref (ad (6 + j))), (1, .int (nI a))] := hl
  refine lv_aload_n S.1 S.2.1 dX3_grind_0 rfl (lv_at hl 0 rfl) ?_
  refine aR_getS (j := j) (v := .ref (ad (14 + 7 * j))) S I hj 10 (by decide) in_X3_grind_X3 (List.mem_of_getElem? (i := 1) rfl) rfl dX3_grind_1 ?_
  refine lv_iload_n S.1 S.2.1 dX3_grind_4 rfl (lv_at hl 1 rfl) ?_
  refine aR_ald (j := j) (a := 6) (f := 9) (k := a) (x := Q 9 a) S I hj (by decide) rfl rfl (by omega) (by rw [aq_ug_s]) dX3_grind_5 ?_
  refine lv_iconst (v := 2) S.1 S.2.1 dX3_grind_6 (by decide) ?_
  refine lv_idiv S.1 S.2.1 dX3_grind_7 (by decide) ?_
  refine lv_istore_n (lv' := [(2, .int (Q 9 a / 2)), (0, .ref (ad (6 + j))), (1, .int (nI a))]) S.1 S.2.1 dX3_grind_8 rfl hl (by decide) rfl (fun ls hl => ?_)
  refine lv_aload_n S.1 S.2.1 dX3_grind_9 rfl (lv_at hl 1 rfl) ?_
  refine lv_dup S.1 S.2.1 dX3_grind_10 rfl ?_
  refine aR_getS (j := j) (v := .int (Q 10 5)) S I hj 3 (by decide) in_X3_grind_X3 (List.mem_of_getElem? (i := 2) rfl) (by first | (rw [aq_ug_s]; done) | (rw [aq_ug_s]; rfl)) dX3_grind_11 ?_
  refine lv_aload_n S.1 S.2.1 dX3_grind_14 rfl (lv_at hl 1 rfl) ?_
  refine aR_getS (j := j) (v := .ref (ad (13 + 7 * j))) S I hj 9 (by decide) in_X3_grind_X3 (List.mem_of_getElem? (i := 3) rfl) rfl dX3_grind_15 ?_
  refine lv_iload_n S.1 S.2.1 dX3_grind_18 rfl (lv_at hl 2 rfl) ?_
  refine aR_ald (j := j) (a := 5) (f := 8) (k := a) (x := Q 8 a) S I hj (by decide) rfl rfl (by omega) (by rw [aq_ug_s]) dX3_grind_19 ?_
  refine lv_aload_n S.1 S.2.1 dX3_grind_20 rfl (lv_at hl 1 rfl) ?_
  refine aR_getS (j := j) (v := .ref (ad (14 + 7 * j))) S I hj 10 (by decide) in_X3_grind_X3 (List.mem_of_getElem? (i := 1) rfl) rfl dX3_grind_21 ?_
  refine lv_iload_n S.1 S.2.1 dX3_grind_24 rfl (lv_at hl 2 rfl) ?_
  refine aR_ald (j := j) (a := 6) (f := 9) (k := a) (x := Q 9 a) S I hj (by decide) rfl rfl (by omega) (by rw [aq_ug_s]) dX3_grind_25 ?_
  refine lv_iadd S.1 S.2.1 dX3_grind_26 ?_
  refine lv_bipush (v := 10) S.1 S.2.1 dX3_grind_27 (by decide) ?_
  refine lv_idiv S.1 S.2.1 dX3_grind_29 (by decide) ?_
  refine lv_aload_n S.1 S.2.1 dX3_grind_30 rfl (lv_at hl 1 rfl) ?_
  refine aR_getS (j := j) (v := .ref (ad (13 + 7 * j))) S I hj 9 (by decide) in_X3_grind_X3 (List.mem_of_getElem? (i := 3) rfl) rfl dX3_grind_31 ?_
  refine lv_iload_n S.1 S.2.1 dX3_grind_34 rfl (lv_at hl 2 rfl) ?_
  refine aR_ald (j := j) (a := 5) (f := 8) (k := a) (x := Q 8 a) S I hj (by decide) rfl rfl (by omega) (by rw [aq_ug_s]) dX3_grind_35 ?_
  refine lv_bipush (v := 10) S.1 S.2.1 dX3_grind_36 (by decide) ?_
  refine lv_idiv S.1 S.2.1 dX3_grind_38 (by decide) ?_
  refine lv_isub S.1 S.2.1 dX3_grind_39 ?_
  refine lv_topi (fun x1 (ex1 : x1 = ((Q 8 a + Q 9 a) / 10) - (Q 8 a / 10)) => ?_)
  refine lv_iadd S.1 S.2.1 dX3_grind_40 ?_
  refine aR_putS (V := V) (Q := Q) (j := j) (x := Q 10 5 + x1) hJ S I hj 3 (by decide) (by decide) 5 rfl in_X3_grind_X3 (List.mem_of_getElem? (i := 2) rfl) dX3_grind_41 (fun H locs M2 hM2 I => ?_)
  refine lv_aload_n S.1 S.2.1 dX3_grind_44 rfl (lv_at hl 1 rfl) ?_
  refine aR_getS (j := j) (v := .ref (ad (13 + 7 * j))) S I hj 9 (by decide) in_X3_grind_X3 (List.mem_of_getElem? (i := 3) rfl) rfl dX3_grind_45 ?_
  refine lv_iload_n S.1 S.2.1 dX3_grind_48 rfl (lv_at hl 2 rfl) ?_
  refine lv_dup2_11 S.1 S.2.1 dX3_grind_49 rfl rfl ?_
  refine aR_ald (j := j) (a := 5) (f := 8) (k := a) (x := M2 8 a) S I hj (by decide) rfl rfl (by omega) (by rw [aq_ug_s]) dX3_grind_50 ?_
  refine lv_aload_n S.1 S.2.1 dX3_grind_51 rfl (lv_at hl 1 rfl) ?_
  refine aR_getS (j := j) (v := .ref (ad (14 + 7 * j))) S I hj 10 (by decide) in_X3_grind_X3 (List.mem_of_getElem? (i := 1) rfl) rfl dX3_grind_52 ?_
  refine lv_iload_n S.1 S.2.1 dX3_grind_55 rfl (lv_at hl 2 rfl) ?_
  refine aR_ald (j := j) (a := 6) (f := 9) (k := a) (x := M2 9 a) S I hj (by decide) rfl rfl (by omega) (by rw [aq_ug_s]) dX3_grind_56 ?_
  refine lv_iadd S.1 S.2.1 dX3_grind_57 ?_
  refine aR_ast (V := V) (Q := M2) (j := j) (a := 5) (f := 8) (k := a) (x := M2 8 a + M2 9 a) hJ S I hj (by decide) rfl rfl (by omega) dX3_grind_58 (fun H locs M3 hM3 I => ?_)
  refine lv_aload_n S.1 S.2.1 dX3_grind_59 rfl (lv_at hl 1 rfl) ?_
  refine lv_dup S.1 S.2.1 dX3_grind_60 rfl ?_
  refine aR_getS (j := j) (v := .int (M3 10 10)) S I hj 13 (by decide) in_X3_grind_X3 (List.mem_of_getElem? (i := 4) rfl) (by first | (rw [aq_ug_s]; done) | (rw [aq_ug_s]; rfl)) dX3_grind_61 ?_
  refine lv_aload_n S.1 S.2.1 dX3_grind_64 rfl (lv_at hl 1 rfl) ?_
  refine aR_getS (j := j) (v := .ref (ad (14 + 7 * j))) S I hj 10 (by decide) in_X3_grind_X3 (List.mem_of_getElem? (i := 1) rfl) rfl dX3_grind_65 ?_
  refine lv_iload_n S.1 S.2.1 dX3_grind_68 rfl (lv_at hl 2 rfl) ?_
  refine aR_ald (j := j) (a := 6) (f := 9) (k := a) (x := M3 9 a) S I hj (by decide) rfl rfl (by omega) (by rw [aq_ug_s]) dX3_grind_69 ?_
  refine lv_iload_n S.1 S.2.1 dX3_grind_70 rfl (lv_at hl 0 rfl) ?_
  refine lv_isub S.1 S.2.1 dX3_grind_71 ?_
  refine lv_iadd S.1 S.2.1 dX3_grind_72 ?_
  refine lv_topi (fun x4 (ex4 : x4 = M3 10 10 + (M3 9 a - (Q 9 a / 2))) => ?_)
  refine aR_putS (V := V) (Q := M3) (j := j) (x := x4) hJ S I hj 13 (by decide) (by decide) 10 rfl in_X3_grind_X3 (List.mem_of_getElem? (i := 4) rfl) dX3_grind_73 (fun H locs M5 hM5 I => ?_)
  refine lv_aload_n S.1 S.2.1 dX3_grind_76 rfl (lv_at hl 1 rfl) ?_
  refine lv_dup S.1 S.2.1 dX3_grind_77 rfl ?_
  refine aR_getS (j := j) (v := .int (M5 10 9)) S I hj 12 (by decide) in_X3_grind_X3 (List.mem_of_getElem? (i := 5) rfl) (by first | (rw [aq_ug_s]; done) | (rw [aq_ug_s]; rfl)) dX3_grind_78 ?_
  refine lv_iload_n S.1 S.2.1 dX3_grind_81 rfl (lv_at hl 0 rfl) ?_
  refine lv_aload_n S.1 S.2.1 dX3_grind_82 rfl (lv_at hl 1 rfl) ?_
  refine lv_iload_n S.1 S.2.1 dX3_grind_83 rfl (lv_at hl 2 rfl) ?_
  refine lv_iconst (v := 2) S.1 S.2.1 dX3_grind_84 (by decide) ?_
  refine lv_iadd S.1 S.2.1 dX3_grind_85 ?_
  refine lv_topi (fun x6 (ex6 : x6 = nI a + nI 2) => ?_)
  rw [nI_add] at ex6; subst ex6
  refine lv_aload_n S.1 S.2.1 dX3_grind_86 rfl (lv_at hl 1 rfl) ?_
  refine aR_getS (j := j) (v := .ref (ad 0)) S I hj 16 (by decide) in_X3_grind_X3 (List.mem_of_getElem? (i := 6) rfl) rfl dX3_grind_87 ?_
  refine aR_getMN (v := .int (nI n)) S I 3 (by decide) in_X3_grind_X4 (hE.1 _ (List.mem_of_getElem? (i := 17) rfl)) (by first | (rw [aq_ug_n _ _ (by first | decide | omega), hn]; done) | (rw [aq_ug_n _ _ (by first | decide | omega), hn]; rfl)) dX3_grind_90 ?_
  refine aq_mmin S hl.1 (List.mem_of_getElem? (i := 7) rfl) (List.mem_of_getElem? (i := 8) rfl) (List.mem_of_getElem? (i := 9) rfl) (List.mem_of_getElem? (i := 10) rfl) (by decide) (Nat.le_of_ble_eq_true rfl) (by decide) (by decide) dX3_grind_93 ?_
  refine lv_topi (fun x7 (ex7 : x7 = aq_mn (nI (a + 2)) (nI n)) => ?_)
  rw [aq_mn_nat (by omega) (by omega)] at ex7; subst ex7
  refine lv_iload_n S.1 S.2.1 dX3_grind_96 rfl (lv_at hl 0 rfl) ?_
  have hst_M2 : aR_st (V 3) M2 := by rw [hM2]; exact aR_st_up (by decide) (by decide) (by decide) hst
  have hst_M3 : aR_st (V 3) M3 := by rw [hM3]; exact aR_st_up (by decide) (by decide) (by decide) hst_M2
  have hst_M5 : aR_st (V 3) M5 := by rw [hM5]; exact aR_st_up (by decide) (by decide) (by decide) hst_M3
  refine ar_callVi (As := [.int (nI (min (a + 2) n)), .int (Q 9 a / 2)]) (rest := [.int (Q 9 a / 2), .int (M5 10 9), .ref (ad (6 + j))]) S hE (c_X3_come l hJ (V := V) (th := th) (Q := M5) (j := j) hj hst_M5 (n := n) hn hn20 (a := min (a + 2) n) (by omega) (Q 9 a / 2)) (cwV 2 S.2.2.2.2 gX3_grind_X3_come rfl rfl rfl (by decide +kernel) ⟨Nat.le_of_ble_eq_true rfl, Nat.le_of_ble_eq_true rfl⟩) (aR_recvS (j := j) I hj) I hl.1 dX3_grind_97 rfl rfl (Nat.le_of_ble_eq_true rfl) ⟨by first | decide | (dsimp only; omega), by first | decide | (dsimp only; omega)⟩ (fun H locs I hk9 => ?_)
  obtain ⟨M8, hM8⟩ : ∃ z9 : aq_Q, z9 = aq_pourQ n M5 (min (a + 2) n) (Q 9 a / 2) := ⟨_, rfl⟩
  rw [← hM8] at I
  refine lv_topi (fun x9 (ex9 : x9 = aq_pourR n M5 (min (a + 2) n) (Q 9 a / 2)) => ?_)
  refine lv_isub S.1 S.2.1 dX3_grind_100 ?_
  refine lv_iadd S.1 S.2.1 dX3_grind_101 ?_
  refine aR_putS (V := V) (Q := M8) (j := j) (x := M5 10 9 + ((Q 9 a / 2) - x9)) hJ S I hj 12 (by decide) (by decide) 9 rfl in_X3_grind_X3 (List.mem_of_getElem? (i := 5) rfl) dX3_grind_102 (fun H locs M10 hM10 I => ?_)
  exact aq_vret S.1 S.2.1 hr hlocks I dX3_grind_105 (by decide) (by decide) (by subst_vars; rfl)
