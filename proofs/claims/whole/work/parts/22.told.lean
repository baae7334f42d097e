theorem in_X4_mills_X4 : ∀ w ∈ wsX40, w ∈ wsX4_mills := fun _ h => List.mem_cons_of_mem _ (List.mem_append_right _ h)
set_option maxHeartbeats 4000000 in
set_option maxRecDepth 100000 in
/-- X4_mills -/
theorem c_X4_mills (l : Launch) {D : va_G} {ad : Nat → Nat} {cI : ClassId} {th : Int32} (hJ : aq_J 22 ad) {V : aq_V} {Q : aq_Q} (hst : aR_st (V 3) Q) {n : Nat} (hn : V 3 10 3 = nI n) (hn20 : n ≤ 20)  : ar_Met l yX4_mills wsX4_mills ({ frames := 0, cells := 0, slots := 0, locals := 0 }) D (aR_t cI) 22 ad [.ref (ad 0)] (aR_w ad cI th (aq_ug V 0 Q)) (aq_Qi D (aR_t cI) 22 ad (aR_mills n Q) (aR_w ad cI th (aq_ug V 0 Q))) 0 0 := by
  refine ar_enter (cc := cX4_mills) (maxL := 3) (ret := some .int) (by decide) rfl (Nat.le_of_ble_eq_true rfl) ?_
  intro p e s m below meth c ls S hr hlocks hE I hl
  have S : CallFix p m c cX4_mills 3 s _ wsX4_mills RX4 := S
  have hl : lv_has ls 3 [(0, .ref (ad 0))] := hl
  have L4 : ∀ (k : Nat) (i : Nat) (x : Int32), (i + k = n) → (aq_sum (aR_mill1 Q) k i x = aR_mills n Q) → ∀ (H : Heap) (locs : List Loc), aq_I D (aR_t cI) (aq_A 22 ad) (aR_w ad cI th (aq_ug V 0 Q)) s H locs → ∀ ls : Array Slot, lv_has ls 3 [(2, .int (nI i)), (1, .int x), (0, .ref (ad 0))] → W p l e ({ frames := 0, cells := 0, slots := 0, locals := 0 } : Room) s m (([.ref (ad 0)] : List Value).toArray) below meth c H locs 0 0 (MQ below ((aq_Qi D (aR_t cI) 22 ad (aR_mills n Q) (aR_w ad cI th (aq_ug V 0 Q))) s.heap.size) (([.ref (ad 0)] : List Value).toArray) s 0 0 (aq_A 22 ad s.heap.size)) (F0 m 4 ls []) := by
    intro k
    induction k with
    | zero =>
      intro i x hk hq H locs I ls hl
      refine lv_iload_n S.1 S.2.1 dX4_mills_4 rfl (lv_at hl 0 rfl) ?_
      refine lv_aload_n S.1 S.2.1 dX4_mills_5 rfl (lv_at hl 2 rfl) ?_
      refine aR_getM (v := .int (nI n)) S I 3 (by decide) in_X4_mills_X4 (List.mem_of_getElem? (i := 1) rfl) (by first | (rw [aq_ug_n _ _ (by first | decide | omega), hn]; done) | (rw [aq_ug_n _ _ (by first | decide | omega), hn]; rfl)) dX4_mills_6 ?_
      refine lv_icmp_ge (tgt := 35) S.1 S.2.1 dX4_mills_9 (by decide) (fun c1 => ?_) (fun c1 => ?_)
      · have c1 : n ≤ i := (nI_leI (a := n) (b := i) (by omega) (by omega)).mp c1
        refine lv_iload_n S.1 S.2.1 dX4_mills_35 rfl (lv_at hl 1 rfl) ?_
        exact aq_iret S.1 S.2.1 hr hlocks I dX4_mills_36 (by decide) (by decide) hq rfl
      · have c1 : i < n := Nat.lt_of_not_le (fun z9 => c1 ((nI_leI (a := n) (b := i) (by omega) (by omega)).mpr z9))
        exfalso; omega
    | succ k ih =>
      intro i x hk hq H locs I ls hl
      refine lv_iload_n S.1 S.2.1 dX4_mills_4 rfl (lv_at hl 0 rfl) ?_
      refine lv_aload_n S.1 S.2.1 dX4_mills_5 rfl (lv_at hl 2 rfl) ?_
      refine aR_getM (v := .int (nI n)) S I 3 (by decide) in_X4_mills_X4 (List.mem_of_getElem? (i := 1) rfl) (by first | (rw [aq_ug_n _ _ (by first | decide | omega), hn]; done) | (rw [aq_ug_n _ _ (by first | decide | omega), hn]; rfl)) dX4_mills_6 ?_
      refine lv_icmp_ge (tgt := 35) S.1 S.2.1 dX4_mills_9 (by decide) (fun c2 => ?_) (fun c2 => ?_)
      · have c2 : n ≤ i := (nI_leI (a := n) (b := i) (by omega) (by omega)).mp c2
        exfalso; omega
      · have c2 : i < n := Nat.lt_of_not_le (fun z9 => c2 ((nI_leI (a := n) (b := i) (by omega) (by omega)).mpr z9))
        refine lv_iload_n S.1 S.2.1 dX4_mills_12 rfl (lv_at hl 1 rfl) ?_
        refine lv_aload_n S.1 S.2.1 dX4_mills_13 rfl (lv_at hl 2 rfl) ?_
        refine aR_getM (v := .ref (ad 5)) S I 6 (by decide) in_X4_mills_X4 (List.mem_of_getElem? (i := 2) rfl) rfl dX4_mills_14 ?_
        refine lv_iload_n S.1 S.2.1 dX4_mills_17 rfl (lv_at hl 0 rfl) ?_
        refine aR_fld (t := 2) (f := 6) (k := i) (x := Q 6 i) S I (by decide) rfl rfl (by omega) (by rw [aq_ug_n _ _ (by first | decide | omega)]; exact hst.2.2 _) dX4_mills_18 ?_
        refine lv_if_le (tgt := 26) S.1 S.2.1 dX4_mills_19 (by decide) (fun c3 => ?_) (fun c3 => ?_)
        · refine lv_iconst (v := 0) S.1 S.2.1 dX4_mills_26 (by decide) ?_
          refine lv_iadd S.1 S.2.1 dX4_mills_27 ?_
          refine lv_istore_n (lv' := [(1, .int (x + 0)), (2, .int (nI i)), (0, .ref (ad 0))]) S.1 S.2.1 dX4_mills_28 rfl hl (by decide) rfl (fun ls hl => ?_)
          refine lv_iinc (v := nI (i + 1)) (lv' := [(2, .int (nI (i + 1))), (1, .int (x + 0)), (0, .ref (ad 0))]) S.1 S.2.1 dX4_mills_29 hl (k := 1) rfl (nI_1 _) (by decide) rfl (fun ls hl => ?_)
          refine lv_goto (tgt := 4) S.1 S.2.1 dX4_mills_32 (by decide) ?_
          exact ih (i + 1) (x + 0) (by omega) (by rw [← show x + aR_mill1 Q i = x + 0 from by rw [aR_mill1, if_pos c3]]; exact hq) _ _ I ls (lv_sub hl [0, 1, 2] rfl)
        · refine lv_iconst (v := 1) S.1 S.2.1 dX4_mills_22 (by decide) ?_
          refine lv_goto (tgt := 27) S.1 S.2.1 dX4_mills_23 (by decide) ?_
          refine lv_iadd S.1 S.2.1 dX4_mills_27 ?_
          refine lv_istore_n (lv' := [(1, .int (x + 1)), (2, .int (nI i)), (0, .ref (ad 0))]) S.1 S.2.1 dX4_mills_28 rfl hl (by decide) rfl (fun ls hl => ?_)
          refine lv_iinc (v := nI (i + 1)) (lv' := [(2, .int (nI (i + 1))), (1, .int (x + 1)), (0, .ref (ad 0))]) S.1 S.2.1 dX4_mills_29 hl (k := 1) rfl (nI_1 _) (by decide) rfl (fun ls hl => ?_)
          refine lv_goto (tgt := 4) S.1 S.2.1 dX4_mills_32 (by decide) ?_
          exact ih (i + 1) (x + 1) (by omega) (by rw [← show x + aR_mill1 Q i = x + 1 from by rw [aR_mill1, if_neg c3]]; exact hq) _ _ I ls (lv_sub hl [0, 1, 2] rfl)
  refine lv_iconst (v := 0) S.1 S.2.1 dX4_mills_0 (by decide) ?_
  refine lv_istore_n (lv' := [(1, .int 0), (0, .ref (ad 0))]) S.1 S.2.1 dX4_mills_1 rfl hl (by decide) rfl (fun ls hl => ?_)
  refine lv_iconst (v := 0) S.1 S.2.1 dX4_mills_2 (by decide) ?_
  refine lv_istore_n (lv' := [(2, .int 0), (1, .int 0), (0, .ref (ad 0))]) S.1 S.2.1 dX4_mills_3 rfl hl (by decide) rfl (fun ls hl => ?_)
  exact L4 n 0 0 (by omega) rfl _ _ I ls (lv_sub hl [0, 1, 2] rfl)
theorem in_X4_millTold_X3 : ∀ w ∈ wsX30, w ∈ wsX4_millTold := fun _ h => List.mem_cons_of_mem _ (List.mem_append_right _ h)
theorem in_X4_millTold_X4 : ∀ w ∈ wsX40, w ∈ wsX4_millTold := fun _ h => List.mem_cons_of_mem _ (List.mem_append_left _ (List.mem_append_right _ h))
set_option maxHeartbeats 4000000 in
set_option maxRecDepth 100000 in
/-- X4_millTold -/
theorem c_X4_millTold (l : Launch) {D : va_G} {ad : Nat → Nat} {cI : ClassId} {th : Int32} (hJ : aq_J 22 ad) {V : aq_V} {Q : aq_Q} (hst : aR_st (V 3) Q) {n : Nat} (hn : V 3 10 3 = nI n) (hn20 : n ≤ 20) {a w : Nat} (ha : a < n) (hw : w < 4) : ar_Met l yX4_millTold wsX4_millTold ({ frames := 0, cells := 0, slots := 0, locals := 0 }) D (aR_t cI) 22 ad [.ref (ad 0), .int (nI a), .int (nI w)] (aR_w ad cI th (aq_ug V 0 Q)) (aq_Qi D (aR_t cI) 22 ad (aR_millNo Q a w) (aR_w ad cI th (aq_ug V 0 Q))) 0 0 := by
  refine ar_enter (cc := cX4_millTold) (maxL := 3) (ret := some .int) (by decide) rfl (Nat.le_of_ble_eq_true rfl) ?_
  intro p e s m below meth c ls S hr hlocks hE I hl
  have S : CallFix p m c cX4_millTold 3 s _ wsX4_millTold RX4 := S
  have hl : lv_has ls 3 [(0, .ref (ad 0)), (1, .int (nI a)), (2, .int (nI w))] := hl
  refine lv_aload_n S.1 S.2.1 dX4_millTold_0 rfl (lv_at hl 0 rfl) ?_
  refine aR_getM (v := .ref (ad 5)) S I 6 (by decide) in_X4_millTold_X4 (List.mem_of_getElem? (i := 1) rfl) rfl dX4_millTold_1 ?_
  refine lv_iload_n S.1 S.2.1 dX4_millTold_4 rfl (lv_at hl 1 rfl) ?_
  refine aR_fld (t := 2) (f := 6) (k := a) (x := Q 6 a) S I (by decide) rfl rfl (by omega) (by rw [aq_ug_n _ _ (by first | decide | omega)]; exact hst.2.2 _) dX4_millTold_5 ?_
  refine lv_if_ne (tgt := 11) S.1 S.2.1 dX4_millTold_6 (by decide) (fun c1 => ?_) (fun c1 => ?_)
  · refine lv_iload_n S.1 S.2.1 dX4_millTold_11 rfl (lv_at hl 2 rfl) ?_
    refine lv_if_ne (tgt := 24) S.1 S.2.1 dX4_millTold_12 (by decide) (fun c2 => ?_) (fun c2 => ?_)
    · have c2 : ¬ w = 0 := fun z9 => c2 ((nI_eq (a := w) (b := 0) (by omega) (by omega)).mpr z9)
      refine lv_iload_n S.1 S.2.1 dX4_millTold_24 rfl (lv_at hl 2 rfl) ?_
      refine lv_iconst (v := 1) S.1 S.2.1 dX4_millTold_25 (by decide) ?_
      refine lv_icmp_ne (tgt := 41) S.1 S.2.1 dX4_millTold_26 (by decide) (fun c3 => ?_) (fun c3 => ?_)
      · have c3 : ¬ w = 1 := fun z9 => c3 ((nI_eq (a := w) (b := 1) (by omega) (by omega)).mpr z9)
        refine lv_iload_n S.1 S.2.1 dX4_millTold_41 rfl (lv_at hl 2 rfl) ?_
        refine lv_iconst (v := 2) S.1 S.2.1 dX4_millTold_42 (by decide) ?_
        refine lv_icmp_ne (tgt := 58) S.1 S.2.1 dX4_millTold_43 (by decide) (fun c4 => ?_) (fun c4 => ?_)
        · have c4 : ¬ w = 2 := fun z9 => c4 ((nI_eq (a := w) (b := 2) (by omega) (by omega)).mpr z9)
          refine lv_aload_n S.1 S.2.1 dX4_millTold_58 rfl (lv_at hl 0 rfl) ?_
          refine aR_getM (v := .ref (ad 6)) S I 7 (by decide) in_X4_millTold_X4 (List.mem_of_getElem? (i := 2) rfl) rfl dX4_millTold_59 ?_
          refine aR_getSN (j := 0) (v := .ref (ad (14 + 7 * 0))) S I (by decide) 10 (by decide) in_X4_millTold_X3 (hE.1 _ (List.mem_of_getElem? (i := 2) rfl)) rfl dX4_millTold_62 ?_
          refine lv_iload_n S.1 S.2.1 dX4_millTold_65 rfl (lv_at hl 1 rfl) ?_
          refine aR_ald (j := 0) (a := 6) (f := 9) (k := a) (x := Q 9 a) S I (by decide) (by decide) rfl rfl (by omega) (by rw [aq_ug_s]) dX4_millTold_66 ?_
          exact aq_iret S.1 S.2.1 hr hlocks I dX4_millTold_67 (by decide) (by decide) (by rcases (show w = 0 ∨ w = 1 ∨ w = 2 ∨ w = 3 by omega) with rfl | rfl | rfl | rfl <;> first | (exfalso; omega) | (simp only [aR_millNo, if_neg c1])) rfl
        · have c4 : w = 2 := (nI_eq (a := w) (b := 2) (by omega) (by omega)).mp c4
          refine lv_aload_n S.1 S.2.1 dX4_millTold_46 rfl (lv_at hl 0 rfl) ?_
          refine aR_getM (v := .ref (ad 6)) S I 7 (by decide) in_X4_millTold_X4 (List.mem_of_getElem? (i := 2) rfl) rfl dX4_millTold_47 ?_
          refine aR_getSN (j := 0) (v := .ref (ad (13 + 7 * 0))) S I (by decide) 9 (by decide) in_X4_millTold_X3 (hE.1 _ (List.mem_of_getElem? (i := 1) rfl)) rfl dX4_millTold_50 ?_
          refine lv_iload_n S.1 S.2.1 dX4_millTold_53 rfl (lv_at hl 1 rfl) ?_
          refine aR_ald (j := 0) (a := 5) (f := 8) (k := a) (x := Q 8 a) S I (by decide) (by decide) rfl rfl (by omega) (by rw [aq_ug_s]) dX4_millTold_54 ?_
          refine lv_goto (tgt := 67) S.1 S.2.1 dX4_millTold_55 (by decide) ?_
          exact aq_iret S.1 S.2.1 hr hlocks I dX4_millTold_67 (by decide) (by decide) (by rcases (show w = 0 ∨ w = 1 ∨ w = 2 ∨ w = 3 by omega) with rfl | rfl | rfl | rfl <;> first | (exfalso; omega) | (simp only [aR_millNo, if_neg c1])) rfl
      · have c3 : w = 1 := (nI_eq (a := w) (b := 1) (by omega) (by omega)).mp c3
        refine lv_aload_n S.1 S.2.1 dX4_millTold_29 rfl (lv_at hl 0 rfl) ?_
        refine aR_getM (v := .ref (ad 6)) S I 7 (by decide) in_X4_millTold_X4 (List.mem_of_getElem? (i := 2) rfl) rfl dX4_millTold_30 ?_
        refine aR_getSN (j := 0) (v := .ref (ad (12 + 7 * 0))) S I (by decide) 8 (by decide) in_X4_millTold_X3 (hE.1 _ (List.mem_of_getElem? (i := 0) rfl)) rfl dX4_millTold_33 ?_
        refine lv_iload_n S.1 S.2.1 dX4_millTold_36 rfl (lv_at hl 1 rfl) ?_
        refine aR_ald (j := 0) (a := 4) (f := 7) (k := a) (x := Q 7 a) S I (by decide) (by decide) rfl rfl (by omega) (by rw [aq_ug_s]) dX4_millTold_37 ?_
        refine lv_goto (tgt := 67) S.1 S.2.1 dX4_millTold_38 (by decide) ?_
        exact aq_iret S.1 S.2.1 hr hlocks I dX4_millTold_67 (by decide) (by decide) (by rcases (show w = 0 ∨ w = 1 ∨ w = 2 ∨ w = 3 by omega) with rfl | rfl | rfl | rfl <;> first | (exfalso; omega) | (simp only [aR_millNo, if_neg c1])) rfl
    · have c2 : w = 0 := (nI_eq (a := w) (b := 0) (by omega) (by omega)).mp c2
      refine lv_aload_n S.1 S.2.1 dX4_millTold_15 rfl (lv_at hl 0 rfl) ?_
      refine aR_getM (v := .ref (ad 5)) S I 6 (by decide) in_X4_millTold_X4 (List.mem_of_getElem? (i := 1) rfl) rfl dX4_millTold_16 ?_
      refine lv_iload_n S.1 S.2.1 dX4_millTold_19 rfl (lv_at hl 1 rfl) ?_
      refine aR_fld (t := 2) (f := 6) (k := a) (x := Q 6 a) S I (by decide) rfl rfl (by omega) (by rw [aq_ug_n _ _ (by first | decide | omega)]; exact hst.2.2 _) dX4_millTold_20 ?_
      refine lv_goto (tgt := 67) S.1 S.2.1 dX4_millTold_21 (by decide) ?_
      exact aq_iret S.1 S.2.1 hr hlocks I dX4_millTold_67 (by decide) (by decide) (by rcases (show w = 0 ∨ w = 1 ∨ w = 2 ∨ w = 3 by omega) with rfl | rfl | rfl | rfl <;> first | (exfalso; omega) | (simp only [aR_millNo, if_neg c1])) rfl
  · refine lv_iconst (v := (-1)) S.1 S.2.1 dX4_millTold_9 (by decide) ?_
    exact aq_iret S.1 S.2.1 hr hlocks I dX4_millTold_10 (by decide) (by decide) (by simp only [aR_millNo, if_pos c1]) rfl
theorem in_X4_archTold_X3 : ∀ w ∈ wsX30, w ∈ wsX4_archTold := fun _ h => List.mem_cons_of_mem _ (List.mem_append_right _ h)
theorem in_X4_archTold_X4 : ∀ w ∈ wsX40, w ∈ wsX4_archTold := fun _ h => List.mem_cons_of_mem _ (List.mem_append_left _ (List.mem_append_right _ h))
set_option maxHeartbeats 4000000 in
set_option maxRecDepth 100000 in
/-- X4_archTold -/
theorem c_X4_archTold (l : Launch) {D : va_G} {ad : Nat → Nat} {cI : ClassId} {th : Int32} (hJ : aq_J 22 ad) {V : aq_V} {Q : aq_Q} (hst : aR_st (V 3) Q) {n : Nat} (hn : V 3 10 3 = nI n) (hn20 : n ≤ 20) {a w : Nat} (ha : a < n) (hw : w < 9) : ar_Met l yX4_archTold wsX4_archTold ({ frames := 2, cells := 1, slots := 9, locals := 42 }) D (aR_t cI) 22 ad [.ref (ad 0), .int (nI a), .int (nI w)] (aR_w ad cI th (aq_ug V 0 Q)) (aq_Qi D (aR_t cI) 22 ad (aR_archNo n Q a w) (aR_w ad cI th (aq_ug V 0 Q))) 1 9 := by
  refine ar_enter (cc := cX4_archTold) (maxL := 4) (ret := some .int) (by decide) rfl (Nat.le_of_ble_eq_true rfl) ?_
  intro p e s m below meth c ls S hr hlocks hE I hl
  have S : CallFix p m c cX4_archTold 4 s _ wsX4_archTold RX4 := S
  have hl : lv_has ls 4 [(0, .ref (ad 0)), (1, .int (nI a)), (2, .int (nI w))] := hl
  refine lv_bipush (v := 9) S.1 S.2.1 dX4_archTold_0 (by decide) ?_
  refine ar_tmp_new (z := 9) hJ S I ⟨_, rfl⟩ (List.mem_of_getElem? (i := 1) rfl) (by decide) rfl (by decide) (by first | decide | (dsimp only; omega)) (by first | decide | (dsimp only; omega)) dX4_archTold_2 (fun q1 cT H I hX => ?_)
  refine lv_dup S.1 S.2.1 dX4_archTold_4 rfl ?_
  refine lv_iconst (v := 0) S.1 S.2.1 dX4_archTold_5 (by decide) ?_
  refine lv_aload_n S.1 S.2.1 dX4_archTold_6 rfl (lv_at hl 0 rfl) ?_
  refine aR_getM (v := .ref (ad 3)) S I 4 (by decide) in_X4_archTold_X4 (List.mem_of_getElem? (i := 2) rfl) rfl dX4_archTold_7 ?_
  refine lv_iload_n S.1 S.2.1 dX4_archTold_10 rfl (lv_at hl 1 rfl) ?_
  refine aR_fld (t := 0) (f := 0) (k := a) (x := Q 0 a) S I (by decide) rfl rfl (by omega) (by rw [aq_ug_n _ _ (by first | decide | omega)]; exact hst.1 _) dX4_archTold_11 ?_
  refine ar_tmp_st (k := 0) (x := Q 0 a) hJ S I hX rfl (by decide) (by decide) dX4_archTold_12 (fun H locs I hX => ?_)
  refine lv_dup S.1 S.2.1 dX4_archTold_13 rfl ?_
  refine lv_iconst (v := 1) S.1 S.2.1 dX4_archTold_14 (by decide) ?_
  refine lv_aload_n S.1 S.2.1 dX4_archTold_15 rfl (lv_at hl 0 rfl) ?_
  refine aR_getM (v := .ref (ad 4)) S I 5 (by decide) in_X4_archTold_X4 (List.mem_of_getElem? (i := 3) rfl) rfl dX4_archTold_16 ?_
  refine lv_iload_n S.1 S.2.1 dX4_archTold_19 rfl (lv_at hl 1 rfl) ?_
  refine aR_fld (t := 1) (f := 1) (k := a) (x := Q 1 a) S I (by decide) rfl rfl (by omega) (by rw [aq_ug_n _ _ (by first | decide | omega)]; exact hst.2.1 _) dX4_archTold_20 ?_
  refine ar_tmp_st (k := 1) (x := Q 1 a) hJ S I hX rfl (by decide) (by decide) dX4_archTold_21 (fun H locs I hX => ?_)
  refine lv_dup S.1 S.2.1 dX4_archTold_22 rfl ?_
  refine lv_iconst (v := 2) S.1 S.2.1 dX4_archTold_23 (by decide) ?_
  refine lv_aload_n S.1 S.2.1 dX4_archTold_24 rfl (lv_at hl 0 rfl) ?_
  refine aR_getM (v := .ref (ad 6)) S I 7 (by decide) in_X4_archTold_X4 (List.mem_of_getElem? (i := 4) rfl) rfl dX4_archTold_25 ?_
  refine aR_getSN (j := 0) (v := .ref (ad (8 + 7 * 0))) S I (by decide) 4 (by decide) in_X4_archTold_X3 (hE.1 _ (List.mem_of_getElem? (i := 12) rfl)) rfl dX4_archTold_28 ?_
  refine lv_iload_n S.1 S.2.1 dX4_archTold_31 rfl (lv_at hl 1 rfl) ?_
  refine aR_ald (j := 0) (a := 0) (f := 2) (k := a) (x := Q 2 a) S I (by decide) (by decide) rfl rfl (by omega) (by rw [aq_ug_s]) dX4_archTold_32 ?_
  refine ar_tmp_st (k := 2) (x := Q 2 a) hJ S I hX rfl (by decide) (by decide) dX4_archTold_33 (fun H locs I hX => ?_)
  refine lv_dup S.1 S.2.1 dX4_archTold_34 rfl ?_
  refine lv_iconst (v := 3) S.1 S.2.1 dX4_archTold_35 (by decide) ?_
  refine lv_aload_n S.1 S.2.1 dX4_archTold_36 rfl (lv_at hl 0 rfl) ?_
  refine aR_getM (v := .ref (ad 6)) S I 7 (by decide) in_X4_archTold_X4 (List.mem_of_getElem? (i := 4) rfl) rfl dX4_archTold_37 ?_
  refine aR_getSN (j := 0) (v := .ref (ad (9 + 7 * 0))) S I (by decide) 5 (by decide) in_X4_archTold_X3 (hE.1 _ (List.mem_of_getElem? (i := 13) rfl)) rfl dX4_archTold_40 ?_
  refine lv_iload_n S.1 S.2.1 dX4_archTold_43 rfl (lv_at hl 1 rfl) ?_
  refine aR_ald (j := 0) (a := 1) (f := 3) (k := a) (x := Q 3 a) S I (by decide) (by decide) rfl rfl (by omega) (by rw [aq_ug_s]) dX4_archTold_44 ?_
  refine ar_tmp_st (k := 3) (x := Q 3 a) hJ S I hX rfl (by decide) (by decide) dX4_archTold_45 (fun H locs I hX => ?_)
  refine lv_dup S.1 S.2.1 dX4_archTold_46 rfl ?_
  refine lv_iconst (v := 4) S.1 S.2.1 dX4_archTold_47 (by decide) ?_
  refine lv_aload_n S.1 S.2.1 dX4_archTold_48 rfl (lv_at hl 0 rfl) ?_
  refine aR_getM (v := .ref (ad 6)) S I 7 (by decide) in_X4_archTold_X4 (List.mem_of_getElem? (i := 4) rfl) rfl dX4_archTold_49 ?_
  refine aR_getSN (j := 0) (v := .ref (ad (10 + 7 * 0))) S I (by decide) 6 (by decide) in_X4_archTold_X3 (hE.1 _ (List.mem_of_getElem? (i := 14) rfl)) rfl dX4_archTold_52 ?_
  refine lv_iload_n S.1 S.2.1 dX4_archTold_55 rfl (lv_at hl 1 rfl) ?_
  refine aR_ald (j := 0) (a := 2) (f := 4) (k := a) (x := Q 4 a) S I (by decide) (by decide) rfl rfl (by omega) (by rw [aq_ug_s]) dX4_archTold_56 ?_
  refine ar_tmp_st (k := 4) (x := Q 4 a) hJ S I hX rfl (by decide) (by decide) dX4_archTold_57 (fun H locs I hX => ?_)
  refine lv_dup S.1 S.2.1 dX4_archTold_58 rfl ?_
  refine lv_iconst (v := 5) S.1 S.2.1 dX4_archTold_59 (by decide) ?_
  refine lv_aload_n S.1 S.2.1 dX4_archTold_60 rfl (lv_at hl 0 rfl) ?_
  refine lv_iload_n S.1 S.2.1 dX4_archTold_61 rfl (lv_at hl 1 rfl) ?_
  have I0 := I; have X0 := hX
  refine ar_callVi (As := [.int (nI a)]) (rest := [.int 5, .ref q1, .ref q1]) S hE (c_X4_slope l hJ (V := (aq_ug V 0 Q)) (th := th) (Q := Q) (by rw [aq_ug_n _ _ (by first | decide | omega)]; exact hst) (n := n) (by rw [aq_ug_n _ _ (by first | decide | omega)]; exact hn) hn20 (a := a) (by omega)) (cwV 1 S.2.2.2.2 gX4_archTold_X4_slope rfl rfl rfl (by decide +kernel) ⟨Nat.le_of_ble_eq_true rfl, Nat.le_of_ble_eq_true rfl⟩) (aR_recvM I) I hl.1 dX4_archTold_62 rfl rfl (Nat.le_of_ble_eq_true rfl) ⟨by first | decide | (dsimp only; omega), by first | decide | (dsimp only; omega)⟩ (fun H locs I hk9 => ?_)
  have hX := ar_tmp_keep X0 I0 I hk9
  refine ar_tmp_st (k := 5) (x := aq_slope n Q a) hJ S I hX rfl (by decide) (by decide) dX4_archTold_65 (fun H locs I hX => ?_)
  refine lv_dup S.1 S.2.1 dX4_archTold_66 rfl ?_
  refine lv_bipush (v := 6) S.1 S.2.1 dX4_archTold_67 (by decide) ?_
  refine lv_aload_n S.1 S.2.1 dX4_archTold_69 rfl (lv_at hl 0 rfl) ?_
  refine lv_iload_n S.1 S.2.1 dX4_archTold_70 rfl (lv_at hl 1 rfl) ?_
  have I0 := I; have X0 := hX
  refine ar_callVi (As := [.int (nI a)]) (rest := [.int 6, .ref q1, .ref q1]) S hE (c_X4_rate l hJ (V := (aq_ug V 0 Q)) (th := th) (Q := Q) (by rw [aq_ug_n _ _ (by first | decide | omega)]; exact hst) (n := n) (by rw [aq_ug_n _ _ (by first | decide | omega)]; exact hn) hn20 (a := a) (by omega)) (cwV 1 S.2.2.2.2 gX4_archTold_X4_rate rfl rfl rfl (by decide +kernel) ⟨Nat.le_of_ble_eq_true rfl, Nat.le_of_ble_eq_true rfl⟩) (aR_recvM I) I hl.1 dX4_archTold_71 rfl rfl (Nat.le_of_ble_eq_true rfl) ⟨by first | decide | (dsimp only; omega), by first | decide | (dsimp only; omega)⟩ (fun H locs I hk9 => ?_)
  have hX := ar_tmp_keep X0 I0 I hk9
  refine ar_tmp_st (k := 6) (x := aq_rate n Q a) hJ S I hX rfl (by decide) (by decide) dX4_archTold_74 (fun H locs I hX => ?_)
  refine lv_dup S.1 S.2.1 dX4_archTold_75 rfl ?_
  refine lv_bipush (v := 7) S.1 S.2.1 dX4_archTold_76 (by decide) ?_
  refine lv_aload_n S.1 S.2.1 dX4_archTold_78 rfl (lv_at hl 0 rfl) ?_
  refine aR_getM (v := .ref (ad 6)) S I 7 (by decide) in_X4_archTold_X4 (List.mem_of_getElem? (i := 4) rfl) rfl dX4_archTold_79 ?_
  refine aR_getSN (j := 0) (v := .ref (ad (11 + 7 * 0))) S I (by decide) 7 (by decide) in_X4_archTold_X3 (hE.1 _ (List.mem_of_getElem? (i := 15) rfl)) rfl dX4_archTold_82 ?_
  refine lv_iload_n S.1 S.2.1 dX4_archTold_85 rfl (lv_at hl 1 rfl) ?_
  refine aR_ald (j := 0) (a := 3) (f := 5) (k := a) (x := Q 5 a) S I (by decide) (by decide) rfl rfl (by omega) (by rw [aq_ug_s]) dX4_archTold_86 ?_
  refine ar_tmp_st (k := 7) (x := Q 5 a) hJ S I hX rfl (by decide) (by decide) dX4_archTold_87 (fun H locs I hX => ?_)
  refine lv_dup S.1 S.2.1 dX4_archTold_88 rfl ?_
  refine lv_bipush (v := 8) S.1 S.2.1 dX4_archTold_89 (by decide) ?_
  refine lv_aload_n S.1 S.2.1 dX4_archTold_91 rfl (lv_at hl 0 rfl) ?_
  refine aR_getM (v := .ref (ad 5)) S I 6 (by decide) in_X4_archTold_X4 (List.mem_of_getElem? (i := 5) rfl) rfl dX4_archTold_92 ?_
  refine lv_iload_n S.1 S.2.1 dX4_archTold_95 rfl (lv_at hl 1 rfl) ?_
  refine aR_fld (t := 2) (f := 6) (k := a) (x := Q 6 a) S I (by decide) rfl rfl (by omega) (by rw [aq_ug_n _ _ (by first | decide | omega)]; exact hst.2.2 _) dX4_archTold_96 ?_
  refine lv_if_le (tgt := 104) S.1 S.2.1 dX4_archTold_97 (by decide) (fun c2 => ?_) (fun c2 => ?_)
  · refine lv_iconst (v := 0) S.1 S.2.1 dX4_archTold_104 (by decide) ?_
    refine ar_tmp_st (k := 8) (x := 0) hJ S I hX rfl (by decide) (by decide) dX4_archTold_105 (fun H locs I hX => ?_)
    refine lv_astore_n (lv' := [(3, .ref q1), (0, .ref (ad 0)), (1, .int (nI a)), (2, .int (nI w))]) S.1 S.2.1 dX4_archTold_106 rfl hl (by decide) rfl (fun ls hl => ?_)
    refine lv_aload_n S.1 S.2.1 dX4_archTold_107 rfl (lv_at hl 0 rfl) ?_
    refine lv_iload_n S.1 S.2.1 dX4_archTold_108 rfl (lv_at hl 3 rfl) ?_
    refine ar_tmp_ld (k := w) (v := aR_archNo n Q a w) S hX rfl (by omega) (by omega) (by rcases (show w = 0 ∨ w = 1 ∨ w = 2 ∨ w = 3 ∨ w = 4 ∨ w = 5 ∨ w = 6 ∨ w = 7 ∨ w = 8 by omega) with rfl | rfl | rfl | rfl | rfl | rfl | rfl | rfl | rfl <;> first | rfl | (show _ = aR_mill1 Q a; rw [aR_mill1, if_pos c2]; rfl)) dX4_archTold_109 ?_
    exact aq_iret S.1 S.2.1 hr hlocks I dX4_archTold_110 (by decide) (by decide) rfl rfl
  · refine lv_iconst (v := 1) S.1 S.2.1 dX4_archTold_100 (by decide) ?_
    refine lv_goto (tgt := 105) S.1 S.2.1 dX4_archTold_101 (by decide) ?_
    refine ar_tmp_st (k := 8) (x := 1) hJ S I hX rfl (by decide) (by decide) dX4_archTold_105 (fun H locs I hX => ?_)
    refine lv_astore_n (lv' := [(3, .ref q1), (0, .ref (ad 0)), (1, .int (nI a)), (2, .int (nI w))]) S.1 S.2.1 dX4_archTold_106 rfl hl (by decide) rfl (fun ls hl => ?_)
    refine lv_aload_n S.1 S.2.1 dX4_archTold_107 rfl (lv_at hl 0 rfl) ?_
    refine lv_iload_n S.1 S.2.1 dX4_archTold_108 rfl (lv_at hl 3 rfl) ?_
    refine ar_tmp_ld (k := w) (v := aR_archNo n Q a w) S hX rfl (by omega) (by omega) (by rcases (show w = 0 ∨ w = 1 ∨ w = 2 ∨ w = 3 ∨ w = 4 ∨ w = 5 ∨ w = 6 ∨ w = 7 ∨ w = 8 by omega) with rfl | rfl | rfl | rfl | rfl | rfl | rfl | rfl | rfl <;> first | rfl | (show _ = aR_mill1 Q a; rw [aR_mill1, if_neg c2]; rfl)) dX4_archTold_109 ?_
    exact aq_iret S.1 S.2.1 hr hlocks I dX4_archTold_110 (by decide) (by decide) rfl rfl
theorem in_X4_counted_X3 : ∀ w ∈ wsX30, w ∈ wsX4_counted := fun _ h => List.mem_cons_of_mem _ (List.mem_append_right _ h)
theorem in_X4_counted_X4 : ∀ w ∈ wsX40, w ∈ wsX4_counted := fun _ h => List.mem_cons_of_mem _ (List.mem_append_left _ (List.mem_append_right _ h))
set_option maxHeartbeats 4000000 in
set_option maxRecDepth 100000 in
/-- X4_counted -/
theorem c_X4_counted (l : Launch) {D : va_G} {ad : Nat → Nat} {cI : ClassId} {th : Int32} (hJ : aq_J 22 ad) {V : aq_V} {Q : aq_Q} (hst : aR_st (V 3) Q) {n : Nat} (hn : V 3 10 3 = nI n) (hn20 : n ≤ 20) {w : Nat} (hw : w < 12) : ar_Met l yX4_counted wsX4_counted ({ frames := 1, cells := 1, slots := 12, locals := 23 }) D (aR_t cI) 22 ad [.ref (ad 0), .int (nI w)] (aR_w ad cI th (aq_ug V 0 Q)) (aq_Qi D (aR_t cI) 22 ad (aR_countNo n Q w) (aR_w ad cI th (aq_ug V 0 Q))) 1 12 := by
  refine ar_enter (cc := cX4_counted) (maxL := 3) (ret := some .int) (by decide) rfl (Nat.le_of_ble_eq_true rfl) ?_
  intro p e s m below meth c ls S hr hlocks hE I hl
  have S : CallFix p m c cX4_counted 3 s _ wsX4_counted RX4 := S
  have hl : lv_has ls 3 [(0, .ref (ad 0)), (1, .int (nI w))] := hl
  refine lv_bipush (v := 12) S.1 S.2.1 dX4_counted_0 (by decide) ?_
  refine ar_tmp_new (z := 12) hJ S I ⟨_, rfl⟩ (List.mem_of_getElem? (i := 1) rfl) (by decide) rfl (by decide) (by first | decide | (dsimp only; omega)) (by first | decide | (dsimp only; omega)) dX4_counted_2 (fun q1 cT H I hX => ?_)
  refine lv_dup S.1 S.2.1 dX4_counted_4 rfl ?_
  refine lv_iconst (v := 0) S.1 S.2.1 dX4_counted_5 (by decide) ?_
  refine lv_aload_n S.1 S.2.1 dX4_counted_6 rfl (lv_at hl 0 rfl) ?_
  refine aR_getM (v := .ref (ad 6)) S I 7 (by decide) in_X4_counted_X4 (List.mem_of_getElem? (i := 2) rfl) rfl dX4_counted_7 ?_
  refine aR_getSN (j := 0) (v := .int (Q 10 4)) S I (by decide) 0 (by decide) in_X4_counted_X3 (hE.1 _ (List.mem_of_getElem? (i := 4) rfl)) (by first | (rw [aq_ug_s]; done) | (rw [aq_ug_s]; rfl)) dX4_counted_10 ?_
  refine ar_tmp_st (k := 0) (x := Q 10 4) hJ S I hX rfl (by decide) (by decide) dX4_counted_13 (fun H locs I hX => ?_)
  refine lv_dup S.1 S.2.1 dX4_counted_14 rfl ?_
  refine lv_iconst (v := 1) S.1 S.2.1 dX4_counted_15 (by decide) ?_
  refine lv_aload_n S.1 S.2.1 dX4_counted_16 rfl (lv_at hl 0 rfl) ?_
  refine aR_getM (v := .int (nI n)) S I 3 (by decide) in_X4_counted_X4 (List.mem_of_getElem? (i := 3) rfl) (by first | (rw [aq_ug_n _ _ (by first | decide | omega), hn]; done) | (rw [aq_ug_n _ _ (by first | decide | omega), hn]; rfl)) dX4_counted_17 ?_
  refine ar_tmp_st (k := 1) (x := nI n) hJ S I hX rfl (by decide) (by decide) dX4_counted_20 (fun H locs I hX => ?_)
  refine lv_dup S.1 S.2.1 dX4_counted_21 rfl ?_
  refine lv_iconst (v := 2) S.1 S.2.1 dX4_counted_22 (by decide) ?_
  refine lv_aload_n S.1 S.2.1 dX4_counted_23 rfl (lv_at hl 0 rfl) ?_
  have I0 := I; have X0 := hX
  refine ar_callVi (As := []) (rest := [.int 2, .ref q1, .ref q1]) S hE (c_X4_mills l hJ (V := V) (th := th) (Q := Q) hst (n := n) hn hn20 ) (cwV 0 S.2.2.2.2 gX4_counted_X4_mills rfl rfl rfl (by decide +kernel) ⟨Nat.le_of_ble_eq_true rfl, Nat.le_of_ble_eq_true rfl⟩) (aR_recvM I) I hl.1 dX4_counted_24 rfl rfl (Nat.le_of_ble_eq_true rfl) ⟨by first | decide | (dsimp only; omega), by first | decide | (dsimp only; omega)⟩ (fun H locs I hk9 => ?_)
  have hX := ar_tmp_keep X0 I0 I hk9
  refine ar_tmp_st (k := 2) (x := aR_mills n Q) hJ S I hX rfl (by decide) (by decide) dX4_counted_27 (fun H locs I hX => ?_)
  refine lv_dup S.1 S.2.1 dX4_counted_28 rfl ?_
  refine lv_iconst (v := 3) S.1 S.2.1 dX4_counted_29 (by decide) ?_
  refine lv_aload_n S.1 S.2.1 dX4_counted_30 rfl (lv_at hl 0 rfl) ?_
  refine aR_getM (v := .ref (ad 6)) S I 7 (by decide) in_X4_counted_X4 (List.mem_of_getElem? (i := 2) rfl) rfl dX4_counted_31 ?_
  refine aR_getSN (j := 0) (v := .int (Q 10 5)) S I (by decide) 3 (by decide) in_X4_counted_X3 (hE.1 _ (List.mem_of_getElem? (i := 3) rfl)) (by first | (rw [aq_ug_s]; done) | (rw [aq_ug_s]; rfl)) dX4_counted_34 ?_
  refine ar_tmp_st (k := 3) (x := Q 10 5) hJ S I hX rfl (by decide) (by decide) dX4_counted_37 (fun H locs I hX => ?_)
  refine lv_dup S.1 S.2.1 dX4_counted_38 rfl ?_
  refine lv_iconst (v := 4) S.1 S.2.1 dX4_counted_39 (by decide) ?_
  refine lv_aload_n S.1 S.2.1 dX4_counted_40 rfl (lv_at hl 0 rfl) ?_
  refine aR_getM (v := .ref (ad 6)) S I 7 (by decide) in_X4_counted_X4 (List.mem_of_getElem? (i := 2) rfl) rfl dX4_counted_41 ?_
  refine aR_getSN (j := 0) (v := .int (Q 10 7)) S I (by decide) 1 (by decide) in_X4_counted_X3 (hE.1 _ (List.mem_of_getElem? (i := 9) rfl)) (by first | (rw [aq_ug_s]; done) | (rw [aq_ug_s]; rfl)) dX4_counted_44 ?_
  refine ar_tmp_st (k := 4) (x := Q 10 7) hJ S I hX rfl (by decide) (by decide) dX4_counted_47 (fun H locs I hX => ?_)
  refine lv_dup S.1 S.2.1 dX4_counted_48 rfl ?_
  refine lv_iconst (v := 5) S.1 S.2.1 dX4_counted_49 (by decide) ?_
  refine lv_aload_n S.1 S.2.1 dX4_counted_50 rfl (lv_at hl 0 rfl) ?_
  refine aR_getM (v := .ref (ad 6)) S I 7 (by decide) in_X4_counted_X4 (List.mem_of_getElem? (i := 2) rfl) rfl dX4_counted_51 ?_
  refine lv_aload_n S.1 S.2.1 dX4_counted_54 rfl (lv_at hl 0 rfl) ?_
  refine aR_getM (v := .ref (ad 6)) S I 7 (by decide) in_X4_counted_X4 (List.mem_of_getElem? (i := 2) rfl) rfl dX4_counted_55 ?_
  refine aR_getSN (j := 0) (v := .ref (ad (8 + 7 * 0))) S I (by decide) 4 (by decide) in_X4_counted_X3 (hE.1 _ (List.mem_of_getElem? (i := 12) rfl)) rfl dX4_counted_58 ?_
  have I0 := I; have X0 := hX
  refine ar_callVi (As := [.ref (ad (8 + 7 * 0))]) (rest := [.int 5, .ref q1, .ref q1]) S hE (c_X3_over l hJ (V := V) (th := th) (Q := Q) (j := 0) (by decide) hst (n := n) hn hn20 (a := 0) (f := 2) (by decide) rfl) (cwV 1 S.2.2.2.2 gX4_counted_X3_over rfl rfl rfl (by decide +kernel) ⟨Nat.le_of_ble_eq_true rfl, Nat.le_of_ble_eq_true rfl⟩) (aR_recvS (j := 0) I (by decide)) I hl.1 dX4_counted_61 rfl rfl (Nat.le_of_ble_eq_true rfl) ⟨by first | decide | (dsimp only; omega), by first | decide | (dsimp only; omega)⟩ (fun H locs I hk9 => ?_)
  have hX := ar_tmp_keep X0 I0 I hk9
  refine ar_tmp_st (k := 5) (x := aq_over n 2 Q) hJ S I hX rfl (by decide) (by decide) dX4_counted_64 (fun H locs I hX => ?_)
  refine lv_dup S.1 S.2.1 dX4_counted_65 rfl ?_
  refine lv_bipush (v := 6) S.1 S.2.1 dX4_counted_66 (by decide) ?_
  refine lv_aload_n S.1 S.2.1 dX4_counted_68 rfl (lv_at hl 0 rfl) ?_
  refine aR_getM (v := .ref (ad 6)) S I 7 (by decide) in_X4_counted_X4 (List.mem_of_getElem? (i := 2) rfl) rfl dX4_counted_69 ?_
  refine aR_getSN (j := 0) (v := .int (Q 10 8)) S I (by decide) 11 (by decide) in_X4_counted_X3 (hE.1 _ (List.mem_of_getElem? (i := 5) rfl)) (by first | (rw [aq_ug_s]; done) | (rw [aq_ug_s]; rfl)) dX4_counted_72 ?_
  refine ar_tmp_st (k := 6) (x := Q 10 8) hJ S I hX rfl (by decide) (by decide) dX4_counted_75 (fun H locs I hX => ?_)
  refine lv_dup S.1 S.2.1 dX4_counted_76 rfl ?_
  refine lv_bipush (v := 7) S.1 S.2.1 dX4_counted_77 (by decide) ?_
  refine lv_aload_n S.1 S.2.1 dX4_counted_79 rfl (lv_at hl 0 rfl) ?_
  refine aR_getM (v := .ref (ad 6)) S I 7 (by decide) in_X4_counted_X4 (List.mem_of_getElem? (i := 2) rfl) rfl dX4_counted_80 ?_
  refine aR_getSN (j := 0) (v := .int (Q 10 9)) S I (by decide) 12 (by decide) in_X4_counted_X3 (hE.1 _ (List.mem_of_getElem? (i := 11) rfl)) (by first | (rw [aq_ug_s]; done) | (rw [aq_ug_s]; rfl)) dX4_counted_83 ?_
  refine ar_tmp_st (k := 7) (x := Q 10 9) hJ S I hX rfl (by decide) (by decide) dX4_counted_86 (fun H locs I hX => ?_)
  refine lv_dup S.1 S.2.1 dX4_counted_87 rfl ?_
  refine lv_bipush (v := 8) S.1 S.2.1 dX4_counted_88 (by decide) ?_
  refine lv_aload_n S.1 S.2.1 dX4_counted_90 rfl (lv_at hl 0 rfl) ?_
  refine aR_getM (v := .ref (ad 6)) S I 7 (by decide) in_X4_counted_X4 (List.mem_of_getElem? (i := 2) rfl) rfl dX4_counted_91 ?_
  refine lv_aload_n S.1 S.2.1 dX4_counted_94 rfl (lv_at hl 0 rfl) ?_
  refine aR_getM (v := .ref (ad 6)) S I 7 (by decide) in_X4_counted_X4 (List.mem_of_getElem? (i := 2) rfl) rfl dX4_counted_95 ?_
  refine aR_getSN (j := 0) (v := .ref (ad (11 + 7 * 0))) S I (by decide) 7 (by decide) in_X4_counted_X3 (hE.1 _ (List.mem_of_getElem? (i := 15) rfl)) rfl dX4_counted_98 ?_
  have I0 := I; have X0 := hX
  refine ar_callVi (As := [.ref (ad (11 + 7 * 0))]) (rest := [.int 8, .ref q1, .ref q1]) S hE (c_X3_over l hJ (V := V) (th := th) (Q := Q) (j := 0) (by decide) hst (n := n) hn hn20 (a := 3) (f := 5) (by decide) rfl) (cwV 1 S.2.2.2.2 gX4_counted_X3_over rfl rfl rfl (by decide +kernel) ⟨Nat.le_of_ble_eq_true rfl, Nat.le_of_ble_eq_true rfl⟩) (aR_recvS (j := 0) I (by decide)) I hl.1 dX4_counted_101 rfl rfl (Nat.le_of_ble_eq_true rfl) ⟨by first | decide | (dsimp only; omega), by first | decide | (dsimp only; omega)⟩ (fun H locs I hk9 => ?_)
  have hX := ar_tmp_keep X0 I0 I hk9
  refine ar_tmp_st (k := 8) (x := aq_over n 5 Q) hJ S I hX rfl (by decide) (by decide) dX4_counted_104 (fun H locs I hX => ?_)
  refine lv_dup S.1 S.2.1 dX4_counted_105 rfl ?_
  refine lv_bipush (v := 9) S.1 S.2.1 dX4_counted_106 (by decide) ?_
  refine lv_aload_n S.1 S.2.1 dX4_counted_108 rfl (lv_at hl 0 rfl) ?_
  refine aR_getM (v := .ref (ad 6)) S I 7 (by decide) in_X4_counted_X4 (List.mem_of_getElem? (i := 2) rfl) rfl dX4_counted_109 ?_
  refine aR_getSN (j := 0) (v := .int (Q 10 10)) S I (by decide) 13 (by decide) in_X4_counted_X3 (hE.1 _ (List.mem_of_getElem? (i := 6) rfl)) (by first | (rw [aq_ug_s]; done) | (rw [aq_ug_s]; rfl)) dX4_counted_112 ?_
  refine ar_tmp_st (k := 9) (x := Q 10 10) hJ S I hX rfl (by decide) (by decide) dX4_counted_115 (fun H locs I hX => ?_)
  refine lv_dup S.1 S.2.1 dX4_counted_116 rfl ?_
  refine lv_bipush (v := 10) S.1 S.2.1 dX4_counted_117 (by decide) ?_
  refine lv_aload_n S.1 S.2.1 dX4_counted_119 rfl (lv_at hl 0 rfl) ?_
  refine aR_getM (v := .ref (ad 6)) S I 7 (by decide) in_X4_counted_X4 (List.mem_of_getElem? (i := 2) rfl) rfl dX4_counted_120 ?_
  refine aR_getSN (j := 0) (v := .int (Q 10 11)) S I (by decide) 14 (by decide) in_X4_counted_X3 (hE.1 _ (List.mem_of_getElem? (i := 7) rfl)) (by first | (rw [aq_ug_s]; done) | (rw [aq_ug_s]; rfl)) dX4_counted_123 ?_
  refine ar_tmp_st (k := 10) (x := Q 10 11) hJ S I hX rfl (by decide) (by decide) dX4_counted_126 (fun H locs I hX => ?_)
  refine lv_dup S.1 S.2.1 dX4_counted_127 rfl ?_
  refine lv_bipush (v := 11) S.1 S.2.1 dX4_counted_128 (by decide) ?_
  refine lv_aload_n S.1 S.2.1 dX4_counted_130 rfl (lv_at hl 0 rfl) ?_
  refine aR_getM (v := .ref (ad 6)) S I 7 (by decide) in_X4_counted_X4 (List.mem_of_getElem? (i := 2) rfl) rfl dX4_counted_131 ?_
  refine aR_getSN (j := 0) (v := .int (Q 10 12)) S I (by decide) 15 (by decide) in_X4_counted_X3 (hE.1 _ (List.mem_of_getElem? (i := 8) rfl)) (by first | (rw [aq_ug_s]; done) | (rw [aq_ug_s]; rfl)) dX4_counted_134 ?_
  refine ar_tmp_st (k := 11) (x := Q 10 12) hJ S I hX rfl (by decide) (by decide) dX4_counted_137 (fun H locs I hX => ?_)
  refine lv_astore_n (lv' := [(2, .ref q1), (0, .ref (ad 0)), (1, .int (nI w))]) S.1 S.2.1 dX4_counted_138 rfl hl (by decide) rfl (fun ls hl => ?_)
  refine lv_aload_n S.1 S.2.1 dX4_counted_139 rfl (lv_at hl 0 rfl) ?_
  refine lv_iload_n S.1 S.2.1 dX4_counted_140 rfl (lv_at hl 2 rfl) ?_
  refine ar_tmp_ld (k := w) (v := aR_countNo n Q w) S hX rfl (by omega) (by omega) (by rcases (show w = 0 ∨ w = 1 ∨ w = 2 ∨ w = 3 ∨ w = 4 ∨ w = 5 ∨ w = 6 ∨ w = 7 ∨ w = 8 ∨ w = 9 ∨ w = 10 ∨ w = 11 by omega) with rfl | rfl | rfl | rfl | rfl | rfl | rfl | rfl | rfl | rfl | rfl | rfl <;> first | rfl) dX4_counted_141 ?_
  exact aq_iret S.1 S.2.1 hr hlocks I dX4_counted_142 (by decide) (by decide) rfl rfl
