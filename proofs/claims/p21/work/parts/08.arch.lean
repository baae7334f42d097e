theorem in_X1_hasMill_X1 : ∀ w ∈ wsX10, w ∈ wsX1_hasMill := fun _ h => List.mem_cons_of_mem _ (List.mem_append_right _ h)
set_option maxHeartbeats 4000000 in
set_option maxRecDepth 100000 in
/-- Arch.hasMill -/
theorem c_X1_hasMill (l : Launch) {D : va_G} {ad : Nat → Nat} {cI cQ : ClassId} (hJ : aq_J 49 ad) {V : aq_V} {Q : aq_Q} {j i : Nat} (hj : j < 2) (hi : i < 20) : aq_Met l yX1_hasMill wsX1_hasMill ({ frames := 0, cells := 0, slots := 0, locals := 0 }) D (aC_t cI cQ) 49 ad [.ref (ad (7 + 20 * j + i))] (aC_w ad cI cQ (aq_ug V j Q)) (aq_Qi D (aC_t cI cQ) 49 ad (aq_hasMill Q i) (aC_w ad cI cQ (aq_ug V j Q))) 0 0 := by
  refine aq_enter (cc := cX1_hasMill) (maxL := 1) (ret := some .boolean) (by decide) rfl (Nat.le_of_ble_eq_true rfl) ?_
  intro p e s m below meth c ls S hr hlocks hnm I hl
  have S : CallFix p m c cX1_hasMill 1 s _ wsX1_hasMill RX1 := S
  have hl : lv_has ls 1 [(0, .ref (ad (7 + 20 * j + i)))] := hl
  refine lv_aload_n S.1 S.2.1 dX1_hasMill_0 rfl (lv_at hl 0 rfl) ?_
  refine aC_getA (j := j) (i := i) (x := Q 6 i) S I hj (by omega) 6 (by decide) in_X1_hasMill_X1 (List.mem_of_getElem? (i := 1) rfl) (by rw [aq_ug_s]) dX1_hasMill_1 ?_
  refine lv_if_le (tgt := 11) S.1 S.2.1 dX1_hasMill_4 (by decide) (fun c1 => ?_) (fun c1 => ?_)
  · refine lv_iconst (v := 0) S.1 S.2.1 dX1_hasMill_11 (by decide) ?_
    exact aq_zret S.1 S.2.1 hr hlocks I dX1_hasMill_12 (by decide) (by decide) (by decide) (by subst_vars; first | rfl | (simp only [aq_hasMill, if_pos c1]; done) | (simp only [aq_hasMill, if_pos c1]; rfl)) (by subst_vars; first | rfl | (simp only [aq_hasMill, if_pos c1]; done) | (simp only [aq_hasMill, if_pos c1]; rfl))
  · refine lv_iconst (v := 1) S.1 S.2.1 dX1_hasMill_7 (by decide) ?_
    refine lv_goto (tgt := 12) S.1 S.2.1 dX1_hasMill_8 (by decide) ?_
    exact aq_zret S.1 S.2.1 hr hlocks I dX1_hasMill_12 (by decide) (by decide) (by decide) (by subst_vars; first | rfl | (simp only [aq_hasMill, if_neg c1]; done) | (simp only [aq_hasMill, if_neg c1]; rfl)) (by subst_vars; first | rfl | (simp only [aq_hasMill, if_neg c1]; done) | (simp only [aq_hasMill, if_neg c1]; rfl))
theorem in_X1_hasOpenSluice_X1 : ∀ w ∈ wsX10, w ∈ wsX1_hasOpenSluice := fun _ h => List.mem_cons_of_mem _ (List.mem_append_right _ h)
set_option maxHeartbeats 4000000 in
set_option maxRecDepth 100000 in
/-- Arch.hasOpenSluice -/
theorem c_X1_hasOpenSluice (l : Launch) {D : va_G} {ad : Nat → Nat} {cI cQ : ClassId} (hJ : aq_J 49 ad) {V : aq_V} {Q : aq_Q} {j i : Nat} (hj : j < 2) (hi : i < 20) : aq_Met l yX1_hasOpenSluice wsX1_hasOpenSluice ({ frames := 1, cells := 0, slots := 0, locals := 20 }) D (aC_t cI cQ) 49 ad [.ref (ad (7 + 20 * j + i))] (aC_w ad cI cQ (aq_ug V j Q)) (aq_Qi D (aC_t cI cQ) 49 ad (aq_hasOpen Q i) (aC_w ad cI cQ (aq_ug V j Q))) 0 0 := by
  refine aq_enter (cc := cX1_hasOpenSluice) (maxL := 1) (ret := some .boolean) (by decide) rfl (Nat.le_of_ble_eq_true rfl) ?_
  intro p e s m below meth c ls S hr hlocks hnm I hl
  have S : CallFix p m c cX1_hasOpenSluice 1 s _ wsX1_hasOpenSluice RX1 := S
  have hl : lv_has ls 1 [(0, .ref (ad (7 + 20 * j + i)))] := hl
  refine lv_aload_n S.1 S.2.1 dX1_hasOpenSluice_0 rfl (lv_at hl 0 rfl) ?_
  refine aq_callVi (As := []) (rest := []) S (c_X1_hasMill l hJ (V := V) (Q := Q) (j := j) (i := i) hj (by omega) ) (cwV 0 S.2.2.2.2 gX1_hasOpenSluice_X1_hasMill rfl rfl rfl (by decide +kernel) ⟨Nat.le_of_ble_eq_true rfl, Nat.le_of_ble_eq_true rfl⟩) (aC_recvA (j := j) (i := i) I hj (by omega)) I hl.1 dX1_hasOpenSluice_1 rfl rfl (Nat.le_of_ble_eq_true rfl) ⟨by first | decide | (dsimp only; omega), by first | decide | (dsimp only; omega)⟩ (fun H locs I => ?_)
  refine lv_if_eq (tgt := 18) S.1 S.2.1 dX1_hasOpenSluice_4 (by decide) (fun c1 => ?_) (fun c1 => ?_)
  · refine lv_iconst (v := 0) S.1 S.2.1 dX1_hasOpenSluice_18 (by decide) ?_
    exact aq_zret S.1 S.2.1 hr hlocks I dX1_hasOpenSluice_19 (by decide) (by decide) (by decide) (by subst_vars; first | rfl | (simp only [aq_hasOpen, if_pos c1]; done) | (simp only [aq_hasOpen, if_pos c1]; rfl)) (by subst_vars; first | rfl | (simp only [aq_hasOpen, if_pos c1]; done) | (simp only [aq_hasOpen, if_pos c1]; rfl))
  · refine lv_aload_n S.1 S.2.1 dX1_hasOpenSluice_7 rfl (lv_at hl 0 rfl) ?_
    refine aC_getA (j := j) (i := i) (x := Q 7 i) S I hj (by omega) 7 (by decide) in_X1_hasOpenSluice_X1 (List.mem_of_getElem? (i := 1) rfl) (by rw [aq_ug_s]) dX1_hasOpenSluice_8 ?_
    refine lv_if_le (tgt := 18) S.1 S.2.1 dX1_hasOpenSluice_11 (by decide) (fun c2 => ?_) (fun c2 => ?_)
    · refine lv_iconst (v := 0) S.1 S.2.1 dX1_hasOpenSluice_18 (by decide) ?_
      exact aq_zret S.1 S.2.1 hr hlocks I dX1_hasOpenSluice_19 (by decide) (by decide) (by decide) (by subst_vars; first | rfl | (simp only [aq_hasOpen, if_neg c1, if_pos c2]; done) | (simp only [aq_hasOpen, if_neg c1, if_pos c2]; rfl)) (by subst_vars; first | rfl | (simp only [aq_hasOpen, if_neg c1, if_pos c2]; done) | (simp only [aq_hasOpen, if_neg c1, if_pos c2]; rfl))
    · refine lv_iconst (v := 1) S.1 S.2.1 dX1_hasOpenSluice_14 (by decide) ?_
      refine lv_goto (tgt := 19) S.1 S.2.1 dX1_hasOpenSluice_15 (by decide) ?_
      exact aq_zret S.1 S.2.1 hr hlocks I dX1_hasOpenSluice_19 (by decide) (by decide) (by decide) (by subst_vars; first | rfl | (simp only [aq_hasOpen, if_neg c1, if_neg c2]; done) | (simp only [aq_hasOpen, if_neg c1, if_neg c2]; rfl)) (by subst_vars; first | rfl | (simp only [aq_hasOpen, if_neg c1, if_neg c2]; done) | (simp only [aq_hasOpen, if_neg c1, if_neg c2]; rfl))
theorem in_X1_fill_X1 : ∀ w ∈ wsX10, w ∈ wsX1_fill := fun _ h => List.mem_cons_of_mem _ (List.mem_append_right _ h)
set_option maxHeartbeats 4000000 in
set_option maxRecDepth 100000 in
/-- X1_fill -/
theorem c_X1_fill (l : Launch) {D : va_G} {ad : Nat → Nat} {cI cQ : ClassId} (hJ : aq_J 49 ad) {V : aq_V} {Q : aq_Q} {j i : Nat} (hj : j < 2) (hi : i < 20) (o : Int32) : aq_Met l yX1_fill wsX1_fill ({ frames := 1, cells := 0, slots := 0, locals := 21 }) D (aC_t cI cQ) 49 ad [.ref (ad (7 + 20 * j + i)), .int o] (aC_w ad cI cQ (aq_ug V j Q)) (aq_Qi D (aC_t cI cQ) 49 ad (aq_fillR Q i o) (aC_w ad cI cQ (aq_ug V j (aq_fillQ Q i o)))) 0 0 := by
  refine aq_enter (cc := cX1_fill) (maxL := 3) (ret := some .int) (by decide) rfl (Nat.le_of_ble_eq_true rfl) ?_
  intro p e s m below meth c ls S hr hlocks hnm I hl
  have S : CallFix p m c cX1_fill 3 s _ wsX1_fill RX1 := S
  have hl : lv_has ls 3 [(0, .ref (ad (7 + 20 * j + i))), (1, .int o)] := hl
  refine lv_iload_n S.1 S.2.1 dX1_fill_0 rfl (lv_at hl 1 rfl) ?_
  refine lv_aload_n S.1 S.2.1 dX1_fill_1 rfl (lv_at hl 0 rfl) ?_
  refine aC_getA (j := j) (i := i) (x := Q 1 i) S I hj (by omega) 1 (by decide) in_X1_fill_X1 (List.mem_of_getElem? (i := 1) rfl) (by rw [aq_ug_s]) dX1_fill_2 ?_
  refine lv_aload_n S.1 S.2.1 dX1_fill_5 rfl (lv_at hl 0 rfl) ?_
  refine aC_getA (j := j) (i := i) (x := Q 2 i) S I hj (by omega) 2 (by decide) in_X1_fill_X1 (List.mem_of_getElem? (i := 2) rfl) (by rw [aq_ug_s]) dX1_fill_6 ?_
  refine lv_isub S.1 S.2.1 dX1_fill_9 ?_
  refine aq_mmin S hl.1 (List.mem_of_getElem? (i := 3) rfl) (List.mem_of_getElem? (i := 4) rfl) (List.mem_of_getElem? (i := 5) rfl) (List.mem_of_getElem? (i := 6) rfl) (by decide) (Nat.le_of_ble_eq_true rfl) (by decide) (by decide) dX1_fill_10 ?_
  refine lv_istore_n (lv' := [(2, .int (aq_mn o (Q 1 i - Q 2 i))), (0, .ref (ad (7 + 20 * j + i))), (1, .int o)]) S.1 S.2.1 dX1_fill_13 rfl hl (by decide) rfl (fun ls hl => ?_)
  refine lv_aload_n S.1 S.2.1 dX1_fill_14 rfl (lv_at hl 1 rfl) ?_
  refine lv_dup S.1 S.2.1 dX1_fill_15 rfl ?_
  refine aC_getA (j := j) (i := i) (x := Q 2 i) S I hj (by omega) 2 (by decide) in_X1_fill_X1 (List.mem_of_getElem? (i := 2) rfl) (by rw [aq_ug_s]) dX1_fill_16 ?_
  refine lv_iload_n S.1 S.2.1 dX1_fill_19 rfl (lv_at hl 0 rfl) ?_
  refine lv_iadd S.1 S.2.1 dX1_fill_20 ?_
  refine lv_topi (fun x1 (ex1 : x1 = Q 2 i + (aq_mn o (Q 1 i - Q 2 i))) => ?_)
  refine aC_putA (V := V) (Q := Q) (j := j) (i := i) (x := x1) hJ S I hj (by omega) 2 (by decide) in_X1_fill_X1 (List.mem_of_getElem? (i := 2) rfl) dX1_fill_21 (fun H locs M2 hM2 I => ?_)
  refine lv_iload_n S.1 S.2.1 dX1_fill_24 rfl (lv_at hl 0 rfl) ?_
  exact aq_iret S.1 S.2.1 hr hlocks I dX1_fill_25 (by decide) (by decide) (by subst_vars; rfl) (by subst_vars; rfl)
theorem in_X1_leadToMill_X1 : ∀ w ∈ wsX10, w ∈ wsX1_leadToMill := fun _ h => List.mem_cons_of_mem _ (List.mem_append_right _ h)
set_option maxHeartbeats 4000000 in
set_option maxRecDepth 100000 in
/-- X1_leadToMill -/
theorem c_X1_leadToMill (l : Launch) {D : va_G} {ad : Nat → Nat} {cI cQ : ClassId} (hJ : aq_J 49 ad) {V : aq_V} {Q : aq_Q} {j i : Nat} (hj : j < 2) (hi : i < 20) (o : Int32) : aq_Met l yX1_leadToMill wsX1_leadToMill ({ frames := 1, cells := 0, slots := 0, locals := 21 }) D (aC_t cI cQ) 49 ad [.ref (ad (7 + 20 * j + i)), .int o] (aC_w ad cI cQ (aq_ug V j Q)) (aq_Qi D (aC_t cI cQ) 49 ad (aq_leadR Q i o) (aC_w ad cI cQ (aq_ug V j (aq_leadQ Q i o)))) 0 0 := by
  refine aq_enter (cc := cX1_leadToMill) (maxL := 2) (ret := some .int) (by decide) rfl (Nat.le_of_ble_eq_true rfl) ?_
  intro p e s m below meth c ls S hr hlocks hnm I hl
  have S : CallFix p m c cX1_leadToMill 2 s _ wsX1_leadToMill RX1 := S
  have hl : lv_has ls 2 [(0, .ref (ad (7 + 20 * j + i))), (1, .int o)] := hl
  refine lv_aload_n S.1 S.2.1 dX1_leadToMill_0 rfl (lv_at hl 0 rfl) ?_
  refine lv_iload_n S.1 S.2.1 dX1_leadToMill_1 rfl (lv_at hl 1 rfl) ?_
  refine lv_aload_n S.1 S.2.1 dX1_leadToMill_2 rfl (lv_at hl 0 rfl) ?_
  refine aC_getA (j := j) (i := i) (x := Q 7 i) S I hj (by omega) 7 (by decide) in_X1_leadToMill_X1 (List.mem_of_getElem? (i := 1) rfl) (by rw [aq_ug_s]) dX1_leadToMill_3 ?_
  refine lv_imul S.1 S.2.1 dX1_leadToMill_6 ?_
  refine lv_bipush (v := 10) S.1 S.2.1 dX1_leadToMill_7 (by decide) ?_
  refine lv_idiv S.1 S.2.1 dX1_leadToMill_9 (by decide) ?_
  refine lv_aload_n S.1 S.2.1 dX1_leadToMill_10 rfl (lv_at hl 0 rfl) ?_
  refine aC_getA (j := j) (i := i) (x := Q 6 i) S I hj (by omega) 6 (by decide) in_X1_leadToMill_X1 (List.mem_of_getElem? (i := 2) rfl) (by rw [aq_ug_s]) dX1_leadToMill_11 ?_
  refine aq_mmin S hl.1 (List.mem_of_getElem? (i := 3) rfl) (List.mem_of_getElem? (i := 4) rfl) (List.mem_of_getElem? (i := 5) rfl) (List.mem_of_getElem? (i := 6) rfl) (by decide) (Nat.le_of_ble_eq_true rfl) (by decide) (by decide) dX1_leadToMill_14 ?_
  refine lv_topi (fun x1 (ex1 : x1 = aq_mn ((o * Q 7 i) / 10) (Q 6 i)) => ?_)
  refine aC_putA (V := V) (Q := Q) (j := j) (i := i) (x := x1) hJ S I hj (by omega) 9 (by decide) in_X1_leadToMill_X1 (List.mem_of_getElem? (i := 7) rfl) dX1_leadToMill_17 (fun H locs M2 hM2 I => ?_)
  refine lv_aload_n S.1 S.2.1 dX1_leadToMill_20 rfl (lv_at hl 0 rfl) ?_
  refine lv_dup S.1 S.2.1 dX1_leadToMill_21 rfl ?_
  refine aC_getA (j := j) (i := i) (x := M2 2 i) S I hj (by omega) 2 (by decide) in_X1_leadToMill_X1 (List.mem_of_getElem? (i := 8) rfl) (by rw [aq_ug_s]) dX1_leadToMill_22 ?_
  refine lv_aload_n S.1 S.2.1 dX1_leadToMill_25 rfl (lv_at hl 0 rfl) ?_
  refine aC_getA (j := j) (i := i) (x := M2 9 i) S I hj (by omega) 9 (by decide) in_X1_leadToMill_X1 (List.mem_of_getElem? (i := 7) rfl) (by rw [aq_ug_s]) dX1_leadToMill_26 ?_
  refine lv_isub S.1 S.2.1 dX1_leadToMill_29 ?_
  refine aC_putA (V := V) (Q := M2) (j := j) (i := i) (x := M2 2 i - M2 9 i) hJ S I hj (by omega) 2 (by decide) in_X1_leadToMill_X1 (List.mem_of_getElem? (i := 8) rfl) dX1_leadToMill_30 (fun H locs M3 hM3 I => ?_)
  refine lv_iload_n S.1 S.2.1 dX1_leadToMill_33 rfl (lv_at hl 1 rfl) ?_
  refine lv_aload_n S.1 S.2.1 dX1_leadToMill_34 rfl (lv_at hl 0 rfl) ?_
  refine aC_getA (j := j) (i := i) (x := M3 9 i) S I hj (by omega) 9 (by decide) in_X1_leadToMill_X1 (List.mem_of_getElem? (i := 7) rfl) (by rw [aq_ug_s]) dX1_leadToMill_35 ?_
  refine lv_isub S.1 S.2.1 dX1_leadToMill_38 ?_
  exact aq_iret S.1 S.2.1 hr hlocks I dX1_leadToMill_39 (by decide) (by decide) (by subst_vars; rfl) (by subst_vars; rfl)
theorem in_X1_grind_X1 : ∀ w ∈ wsX10, w ∈ wsX1_grind := fun _ h => List.mem_cons_of_mem _ (List.mem_append_right _ h)
set_option maxHeartbeats 4000000 in
set_option maxRecDepth 100000 in
/-- X1_grind -/
theorem c_X1_grind (l : Launch) {D : va_G} {ad : Nat → Nat} {cI cQ : ClassId} (hJ : aq_J 49 ad) {V : aq_V} {Q : aq_Q} {j i : Nat} (hj : j < 2) (hi : i < 20) : aq_Met l yX1_grind wsX1_grind ({ frames := 0, cells := 0, slots := 0, locals := 0 }) D (aC_t cI cQ) 49 ad [.ref (ad (7 + 20 * j + i))] (aC_w ad cI cQ (aq_ug V j Q)) (aq_Qi D (aC_t cI cQ) 49 ad (aq_grindR Q i) (aC_w ad cI cQ (aq_ug V j (aq_grindQ Q i)))) 0 0 := by
  refine aq_enter (cc := cX1_grind) (maxL := 2) (ret := some .int) (by decide) rfl (Nat.le_of_ble_eq_true rfl) ?_
  intro p e s m below meth c ls S hr hlocks hnm I hl
  have S : CallFix p m c cX1_grind 2 s _ wsX1_grind RX1 := S
  have hl : lv_has ls 2 [(0, .ref (ad (7 + 20 * j + i)))] := hl
  refine lv_aload_n S.1 S.2.1 dX1_grind_0 rfl (lv_at hl 0 rfl) ?_
  refine aC_getA (j := j) (i := i) (x := Q 8 i) S I hj (by omega) 8 (by decide) in_X1_grind_X1 (List.mem_of_getElem? (i := 1) rfl) (by rw [aq_ug_s]) dX1_grind_1 ?_
  refine lv_bipush (v := 10) S.1 S.2.1 dX1_grind_4 (by decide) ?_
  refine lv_idiv S.1 S.2.1 dX1_grind_6 (by decide) ?_
  refine lv_istore_n (lv' := [(1, .int (Q 8 i / 10)), (0, .ref (ad (7 + 20 * j + i)))]) S.1 S.2.1 dX1_grind_7 rfl hl (by decide) rfl (fun ls hl => ?_)
  refine lv_aload_n S.1 S.2.1 dX1_grind_8 rfl (lv_at hl 1 rfl) ?_
  refine lv_dup S.1 S.2.1 dX1_grind_9 rfl ?_
  refine aC_getA (j := j) (i := i) (x := Q 8 i) S I hj (by omega) 8 (by decide) in_X1_grind_X1 (List.mem_of_getElem? (i := 1) rfl) (by rw [aq_ug_s]) dX1_grind_10 ?_
  refine lv_aload_n S.1 S.2.1 dX1_grind_13 rfl (lv_at hl 1 rfl) ?_
  refine aC_getA (j := j) (i := i) (x := Q 9 i) S I hj (by omega) 9 (by decide) in_X1_grind_X1 (List.mem_of_getElem? (i := 2) rfl) (by rw [aq_ug_s]) dX1_grind_14 ?_
  refine lv_iadd S.1 S.2.1 dX1_grind_17 ?_
  refine aC_putA (V := V) (Q := Q) (j := j) (i := i) (x := Q 8 i + Q 9 i) hJ S I hj (by omega) 8 (by decide) in_X1_grind_X1 (List.mem_of_getElem? (i := 1) rfl) dX1_grind_18 (fun H locs M1 hM1 I => ?_)
  refine lv_aload_n S.1 S.2.1 dX1_grind_21 rfl (lv_at hl 1 rfl) ?_
  refine aC_getA (j := j) (i := i) (x := M1 8 i) S I hj (by omega) 8 (by decide) in_X1_grind_X1 (List.mem_of_getElem? (i := 1) rfl) (by rw [aq_ug_s]) dX1_grind_22 ?_
  refine lv_bipush (v := 10) S.1 S.2.1 dX1_grind_25 (by decide) ?_
  refine lv_idiv S.1 S.2.1 dX1_grind_27 (by decide) ?_
  refine lv_iload_n S.1 S.2.1 dX1_grind_28 rfl (lv_at hl 0 rfl) ?_
  refine lv_isub S.1 S.2.1 dX1_grind_29 ?_
  exact aq_iret S.1 S.2.1 hr hlocks I dX1_grind_30 (by decide) (by decide) (by subst_vars; rfl) (by subst_vars; rfl)
theorem in_X1_leak_X1 : ∀ w ∈ wsX10, w ∈ wsX1_leak := fun _ h => List.mem_cons_of_mem _ (List.mem_append_right _ h)
set_option maxHeartbeats 4000000 in
set_option maxRecDepth 100000 in
/-- X1_leak -/
theorem c_X1_leak (l : Launch) {D : va_G} {ad : Nat → Nat} {cI cQ : ClassId} (hJ : aq_J 49 ad) {V : aq_V} {Q : aq_Q} {j i : Nat} (hj : j < 2) (hi : i < 20) : aq_Met l yX1_leak wsX1_leak ({ frames := 1, cells := 0, slots := 0, locals := 21 }) D (aC_t cI cQ) 49 ad [.ref (ad (7 + 20 * j + i))] (aC_w ad cI cQ (aq_ug V j Q)) (aq_Qv D (aC_t cI cQ) 49 ad (aC_w ad cI cQ (aq_ug V j (aq_leakQ Q i)))) 0 0 := by
  refine aq_enter (cc := cX1_leak) (maxL := 2) (ret := none) (by decide) rfl (Nat.le_of_ble_eq_true rfl) ?_
  intro p e s m below meth c ls S hr hlocks hnm I hl
  have S : CallFix p m c cX1_leak 2 s _ wsX1_leak RX1 := S
  have hl : lv_has ls 2 [(0, .ref (ad (7 + 20 * j + i)))] := hl
  refine lv_aload_n S.1 S.2.1 dX1_leak_0 rfl (lv_at hl 0 rfl) ?_
  refine lv_dup S.1 S.2.1 dX1_leak_1 rfl ?_
  refine aC_getA (j := j) (i := i) (x := Q 4 i) S I hj (by omega) 4 (by decide) in_X1_leak_X1 (List.mem_of_getElem? (i := 1) rfl) (by rw [aq_ug_s]) dX1_leak_2 ?_
  refine lv_aload_n S.1 S.2.1 dX1_leak_5 rfl (lv_at hl 0 rfl) ?_
  refine aC_getA (j := j) (i := i) (x := Q 2 i) S I hj (by omega) 2 (by decide) in_X1_leak_X1 (List.mem_of_getElem? (i := 2) rfl) (by rw [aq_ug_s]) dX1_leak_6 ?_
  refine lv_aload_n S.1 S.2.1 dX1_leak_9 rfl (lv_at hl 0 rfl) ?_
  refine aC_getA (j := j) (i := i) (x := Q 3 i) S I hj (by omega) 3 (by decide) in_X1_leak_X1 (List.mem_of_getElem? (i := 3) rfl) (by rw [aq_ug_s]) dX1_leak_10 ?_
  refine lv_imul S.1 S.2.1 dX1_leak_13 ?_
  refine lv_bipush (v := 10) S.1 S.2.1 dX1_leak_14 (by decide) ?_
  refine lv_idiv S.1 S.2.1 dX1_leak_16 (by decide) ?_
  refine lv_iadd S.1 S.2.1 dX1_leak_17 ?_
  refine lv_topi (fun x1 (ex1 : x1 = Q 4 i + ((Q 2 i * Q 3 i) / 10)) => ?_)
  refine aC_putA (V := V) (Q := Q) (j := j) (i := i) (x := x1) hJ S I hj (by omega) 4 (by decide) in_X1_leak_X1 (List.mem_of_getElem? (i := 1) rfl) dX1_leak_18 (fun H locs M2 hM2 I => ?_)
  refine lv_aload_n S.1 S.2.1 dX1_leak_21 rfl (lv_at hl 0 rfl) ?_
  refine aC_getA (j := j) (i := i) (x := M2 4 i) S I hj (by omega) 4 (by decide) in_X1_leak_X1 (List.mem_of_getElem? (i := 1) rfl) (by rw [aq_ug_s]) dX1_leak_22 ?_
  refine lv_bipush (v := 10) S.1 S.2.1 dX1_leak_25 (by decide) ?_
  refine lv_idiv S.1 S.2.1 dX1_leak_27 (by decide) ?_
  refine lv_aload_n S.1 S.2.1 dX1_leak_28 rfl (lv_at hl 0 rfl) ?_
  refine aC_getA (j := j) (i := i) (x := M2 2 i) S I hj (by omega) 2 (by decide) in_X1_leak_X1 (List.mem_of_getElem? (i := 2) rfl) (by rw [aq_ug_s]) dX1_leak_29 ?_
  refine aq_mmin S hl.1 (List.mem_of_getElem? (i := 4) rfl) (List.mem_of_getElem? (i := 5) rfl) (List.mem_of_getElem? (i := 6) rfl) (List.mem_of_getElem? (i := 7) rfl) (by decide) (Nat.le_of_ble_eq_true rfl) (by decide) (by decide) dX1_leak_32 ?_
  refine lv_istore_n (lv' := [(1, .int (aq_mn (M2 4 i / 10) (M2 2 i))), (0, .ref (ad (7 + 20 * j + i)))]) S.1 S.2.1 dX1_leak_35 rfl hl (by decide) rfl (fun ls hl => ?_)
  refine lv_aload_n S.1 S.2.1 dX1_leak_36 rfl (lv_at hl 1 rfl) ?_
  refine lv_dup S.1 S.2.1 dX1_leak_37 rfl ?_
  refine aC_getA (j := j) (i := i) (x := M2 4 i) S I hj (by omega) 4 (by decide) in_X1_leak_X1 (List.mem_of_getElem? (i := 1) rfl) (by rw [aq_ug_s]) dX1_leak_38 ?_
  refine lv_bipush (v := 10) S.1 S.2.1 dX1_leak_41 (by decide) ?_
  refine lv_irem S.1 S.2.1 dX1_leak_43 (by decide) ?_
  refine aC_putA (V := V) (Q := M2) (j := j) (i := i) (x := M2 4 i - M2 4 i / 10 * 10) hJ S I hj (by omega) 4 (by decide) in_X1_leak_X1 (List.mem_of_getElem? (i := 1) rfl) dX1_leak_44 (fun H locs M3 hM3 I => ?_)
  refine lv_aload_n S.1 S.2.1 dX1_leak_47 rfl (lv_at hl 1 rfl) ?_
  refine lv_dup S.1 S.2.1 dX1_leak_48 rfl ?_
  refine aC_getA (j := j) (i := i) (x := M3 2 i) S I hj (by omega) 2 (by decide) in_X1_leak_X1 (List.mem_of_getElem? (i := 2) rfl) (by rw [aq_ug_s]) dX1_leak_49 ?_
  refine lv_iload_n S.1 S.2.1 dX1_leak_52 rfl (lv_at hl 0 rfl) ?_
  refine lv_isub S.1 S.2.1 dX1_leak_53 ?_
  refine lv_topi (fun x4 (ex4 : x4 = M3 2 i - (aq_mn (M2 4 i / 10) (M2 2 i))) => ?_)
  refine aC_putA (V := V) (Q := M3) (j := j) (i := i) (x := x4) hJ S I hj (by omega) 2 (by decide) in_X1_leak_X1 (List.mem_of_getElem? (i := 2) rfl) dX1_leak_54 (fun H locs M5 hM5 I => ?_)
  refine lv_aload_n S.1 S.2.1 dX1_leak_57 rfl (lv_at hl 1 rfl) ?_
  refine lv_dup S.1 S.2.1 dX1_leak_58 rfl ?_
  refine aC_getA (j := j) (i := i) (x := M5 5 i) S I hj (by omega) 5 (by decide) in_X1_leak_X1 (List.mem_of_getElem? (i := 8) rfl) (by rw [aq_ug_s]) dX1_leak_59 ?_
  refine lv_iload_n S.1 S.2.1 dX1_leak_62 rfl (lv_at hl 0 rfl) ?_
  refine lv_iadd S.1 S.2.1 dX1_leak_63 ?_
  refine lv_topi (fun x6 (ex6 : x6 = M5 5 i + (aq_mn (M2 4 i / 10) (M2 2 i))) => ?_)
  refine aC_putA (V := V) (Q := M5) (j := j) (i := i) (x := x6) hJ S I hj (by omega) 5 (by decide) in_X1_leak_X1 (List.mem_of_getElem? (i := 8) rfl) dX1_leak_64 (fun H locs M7 hM7 I => ?_)
  exact aq_vret S.1 S.2.1 hr hlocks I dX1_leak_67 (by decide) (by decide) (by subst_vars; rfl)
theorem in_X1_wearBy_X1 : ∀ w ∈ wsX10, w ∈ wsX1_wearBy := fun _ h => List.mem_cons_of_mem _ (List.mem_append_right _ h)
set_option maxHeartbeats 4000000 in
set_option maxRecDepth 100000 in
/-- X1_wearBy -/
theorem c_X1_wearBy (l : Launch) {D : va_G} {ad : Nat → Nat} {cI cQ : ClassId} (hJ : aq_J 49 ad) {V : aq_V} {Q : aq_Q} {j i : Nat} (hj : j < 2) (hi : i < 20) (o : Int32) : aq_Met l yX1_wearBy wsX1_wearBy ({ frames := 1, cells := 0, slots := 0, locals := 21 }) D (aC_t cI cQ) 49 ad [.ref (ad (7 + 20 * j + i)), .int o] (aC_w ad cI cQ (aq_ug V j Q)) (aq_Qv D (aC_t cI cQ) 49 ad (aC_w ad cI cQ (aq_ug V j (aq_wearByQ Q i o)))) 0 0 := by
  refine aq_enter (cc := cX1_wearBy) (maxL := 2) (ret := none) (by decide) rfl (Nat.le_of_ble_eq_true rfl) ?_
  intro p e s m below meth c ls S hr hlocks hnm I hl
  have S : CallFix p m c cX1_wearBy 2 s _ wsX1_wearBy RX1 := S
  have hl : lv_has ls 2 [(0, .ref (ad (7 + 20 * j + i))), (1, .int o)] := hl
  refine lv_aload_n S.1 S.2.1 dX1_wearBy_0 rfl (lv_at hl 0 rfl) ?_
  refine lv_bipush (v := 50) S.1 S.2.1 dX1_wearBy_1 (by decide) ?_
  refine lv_aload_n S.1 S.2.1 dX1_wearBy_3 rfl (lv_at hl 0 rfl) ?_
  refine aC_getA (j := j) (i := i) (x := Q 3 i) S I hj (by omega) 3 (by decide) in_X1_wearBy_X1 (List.mem_of_getElem? (i := 1) rfl) (by rw [aq_ug_s]) dX1_wearBy_4 ?_
  refine lv_iload_n S.1 S.2.1 dX1_wearBy_7 rfl (lv_at hl 1 rfl) ?_
  refine lv_iadd S.1 S.2.1 dX1_wearBy_8 ?_
  refine aq_mmin S hl.1 (List.mem_of_getElem? (i := 2) rfl) (List.mem_of_getElem? (i := 3) rfl) (List.mem_of_getElem? (i := 4) rfl) (List.mem_of_getElem? (i := 5) rfl) (by decide) (Nat.le_of_ble_eq_true rfl) (by decide) (by decide) dX1_wearBy_9 ?_
  refine aC_putA (V := V) (Q := Q) (j := j) (i := i) (x := aq_mn 50 (Q 3 i + o)) hJ S I hj (by omega) 3 (by decide) in_X1_wearBy_X1 (List.mem_of_getElem? (i := 1) rfl) dX1_wearBy_12 (fun H locs M1 hM1 I => ?_)
  exact aq_vret S.1 S.2.1 hr hlocks I dX1_wearBy_15 (by decide) (by decide) (by subst_vars; rfl)
theorem in_X1_wearOfDay_X1 : ∀ w ∈ wsX10, w ∈ wsX1_wearOfDay := fun _ h => List.mem_cons_of_mem _ (List.mem_append_right _ h)
set_option maxHeartbeats 4000000 in
set_option maxRecDepth 100000 in
/-- X1_wearOfDay -/
theorem c_X1_wearOfDay (l : Launch) {D : va_G} {ad : Nat → Nat} {cI cQ : ClassId} (hJ : aq_J 49 ad) {V : aq_V} {Q : aq_Q} {j i : Nat} (hj : j < 2) (hi : i < 20) : aq_Met l yX1_wearOfDay wsX1_wearOfDay ({ frames := 2, cells := 0, slots := 0, locals := 42 }) D (aC_t cI cQ) 49 ad [.ref (ad (7 + 20 * j + i))] (aC_w ad cI cQ (aq_ug V j Q)) (aq_Qv D (aC_t cI cQ) 49 ad (aC_w ad cI cQ (aq_ug V j (aq_wearDayQ Q i)))) 0 0 := by
  refine aq_enter (cc := cX1_wearOfDay) (maxL := 1) (ret := none) (by decide) rfl (Nat.le_of_ble_eq_true rfl) ?_
  intro p e s m below meth c ls S hr hlocks hnm I hl
  have S : CallFix p m c cX1_wearOfDay 1 s _ wsX1_wearOfDay RX1 := S
  have hl : lv_has ls 1 [(0, .ref (ad (7 + 20 * j + i)))] := hl
  refine lv_aload_n S.1 S.2.1 dX1_wearOfDay_0 rfl (lv_at hl 0 rfl) ?_
  refine aC_getA (j := j) (i := i) (x := Q 2 i) S I hj (by omega) 2 (by decide) in_X1_wearOfDay_X1 (List.mem_of_getElem? (i := 1) rfl) (by rw [aq_ug_s]) dX1_wearOfDay_1 ?_
  refine lv_if_le (tgt := 23) S.1 S.2.1 dX1_wearOfDay_4 (by decide) (fun c1 => ?_) (fun c1 => ?_)
  · exact aq_vret S.1 S.2.1 hr hlocks I dX1_wearOfDay_23 (by decide) (by decide) (by subst_vars; first | rfl | (simp only [aq_wearDayQ, if_pos c1]; done) | (simp only [aq_wearDayQ, if_pos c1]; rfl))
  · refine lv_aload_n S.1 S.2.1 dX1_wearOfDay_7 rfl (lv_at hl 0 rfl) ?_
    refine lv_aload_n S.1 S.2.1 dX1_wearOfDay_8 rfl (lv_at hl 0 rfl) ?_
    refine aq_callVi (As := []) (rest := [.ref (ad (7 + 20 * j + i))]) S (c_X1_hasOpenSluice l hJ (V := V) (Q := Q) (j := j) (i := i) hj (by omega) ) (cwV 0 S.2.2.2.2 gX1_wearOfDay_X1_hasOpenSluice rfl rfl rfl (by decide +kernel) ⟨Nat.le_of_ble_eq_true rfl, Nat.le_of_ble_eq_true rfl⟩) (aC_recvA (j := j) (i := i) I hj (by omega)) I hl.1 dX1_wearOfDay_9 rfl rfl (Nat.le_of_ble_eq_true rfl) ⟨by first | decide | (dsimp only; omega), by first | decide | (dsimp only; omega)⟩ (fun H locs I => ?_)
    refine lv_if_eq (tgt := 19) S.1 S.2.1 dX1_wearOfDay_12 (by decide) (fun c2 => ?_) (fun c2 => ?_)
    · refine lv_iconst (v := 1) S.1 S.2.1 dX1_wearOfDay_19 (by decide) ?_
      refine aq_callVv (As := [.int 1]) (rest := []) S (c_X1_wearBy l hJ (V := V) (Q := Q) (j := j) (i := i) hj (by omega) 1) (cwV 1 S.2.2.2.2 gX1_wearOfDay_X1_wearBy rfl rfl rfl (by decide +kernel) ⟨Nat.le_of_ble_eq_true rfl, Nat.le_of_ble_eq_true rfl⟩) (aC_recvA (j := j) (i := i) I hj (by omega)) I hl.1 dX1_wearOfDay_20 rfl rfl (Nat.le_of_ble_eq_true rfl) ⟨by first | decide | (dsimp only; omega), by first | decide | (dsimp only; omega)⟩ (fun H locs I => ?_)
      obtain ⟨M3, hM3⟩ : ∃ z9 : aq_Q, z9 = aq_wearByQ Q i 1 := ⟨_, rfl⟩
      rw [← hM3] at I
      exact aq_vret S.1 S.2.1 hr hlocks I dX1_wearOfDay_23 (by decide) (by decide) (by subst_vars; first | rfl | (simp only [aq_wearDayQ, if_neg c1, if_pos c2]; done) | (simp only [aq_wearDayQ, if_neg c1, if_pos c2]; rfl))
    · refine lv_iconst (v := 2) S.1 S.2.1 dX1_wearOfDay_15 (by decide) ?_
      refine lv_goto (tgt := 20) S.1 S.2.1 dX1_wearOfDay_16 (by decide) ?_
      refine aq_callVv (As := [.int 2]) (rest := []) S (c_X1_wearBy l hJ (V := V) (Q := Q) (j := j) (i := i) hj (by omega) 2) (cwV 1 S.2.2.2.2 gX1_wearOfDay_X1_wearBy rfl rfl rfl (by decide +kernel) ⟨Nat.le_of_ble_eq_true rfl, Nat.le_of_ble_eq_true rfl⟩) (aC_recvA (j := j) (i := i) I hj (by omega)) I hl.1 dX1_wearOfDay_20 rfl rfl (Nat.le_of_ble_eq_true rfl) ⟨by first | decide | (dsimp only; omega), by first | decide | (dsimp only; omega)⟩ (fun H locs I => ?_)
      obtain ⟨M4, hM4⟩ : ∃ z9 : aq_Q, z9 = aq_wearByQ Q i 2 := ⟨_, rfl⟩
      rw [← hM4] at I
      exact aq_vret S.1 S.2.1 hr hlocks I dX1_wearOfDay_23 (by decide) (by decide) (by subst_vars; first | rfl | (simp only [aq_wearDayQ, if_neg c1, if_neg c2]; done) | (simp only [aq_wearDayQ, if_neg c1, if_neg c2]; rfl))
theorem in_X1_millNumber_X1 : ∀ w ∈ wsX10, w ∈ wsX1_millNumber := fun _ h => List.mem_cons_of_mem _ (List.mem_append_right _ h)
set_option maxHeartbeats 4000000 in
set_option maxRecDepth 100000 in
/-- X1_millNumber -/
theorem c_X1_millNumber (l : Launch) {D : va_G} {ad : Nat → Nat} {cI cQ : ClassId} (hJ : aq_J 49 ad) {V : aq_V} {Q : aq_Q} {j i : Nat} (hj : j < 2) (hi : i < 20) {w : Nat} (hw : w < 4) : aq_Met l yX1_millNumber wsX1_millNumber ({ frames := 1, cells := 0, slots := 0, locals := 20 }) D (aC_t cI cQ) 49 ad [.ref (ad (7 + 20 * j + i)), .int (nI w)] (aC_w ad cI cQ (aq_ug V j Q)) (aq_Qi D (aC_t cI cQ) 49 ad (aq_millNo Q i w) (aC_w ad cI cQ (aq_ug V j Q))) 0 0 := by
  refine aq_enter (cc := cX1_millNumber) (maxL := 2) (ret := some .int) (by decide) rfl (Nat.le_of_ble_eq_true rfl) ?_
  intro p e s m below meth c ls S hr hlocks hnm I hl
  have S : CallFix p m c cX1_millNumber 2 s _ wsX1_millNumber RX1 := S
  have hl : lv_has ls 2 [(0, .ref (ad (7 + 20 * j + i))), (1, .int (nI w))] := hl
  refine lv_aload_n S.1 S.2.1 dX1_millNumber_0 rfl (lv_at hl 0 rfl) ?_
  refine aq_callVi (As := []) (rest := []) S (c_X1_hasMill l hJ (V := V) (Q := Q) (j := j) (i := i) hj (by omega) ) (cwV 0 S.2.2.2.2 gX1_millNumber_X1_hasMill rfl rfl rfl (by decide +kernel) ⟨Nat.le_of_ble_eq_true rfl, Nat.le_of_ble_eq_true rfl⟩) (aC_recvA (j := j) (i := i) I hj (by omega)) I hl.1 dX1_millNumber_1 rfl rfl (Nat.le_of_ble_eq_true rfl) ⟨by first | decide | (dsimp only; omega), by first | decide | (dsimp only; omega)⟩ (fun H locs I => ?_)
  refine lv_if_ne (tgt := 9) S.1 S.2.1 dX1_millNumber_4 (by decide) (fun c1 => ?_) (fun c1 => ?_)
  · refine lv_iload_n S.1 S.2.1 dX1_millNumber_9 rfl (lv_at hl 1 rfl) ?_
    rcases (show w = 0 ∨ w = 1 ∨ w = 2 ∨ w = 3 by omega) with rfl | rfl | rfl | rfl
    · refine lv_tableIn (x := nI 0) (tgt := 36) S.1 S.2.1 dX1_millNumber_10 (by decide) (by decide) rfl (by decide) ?_
      have hl : lv_has ls 2 [(0, .ref (ad (7 + 20 * j + i))), (1, .int (nI 0))] := hl
      refine lv_aload_n S.1 S.2.1 dX1_millNumber_36 rfl (lv_at hl 0 rfl) ?_
      refine aC_getA (j := j) (i := i) (x := Q 6 i) S I hj (by omega) 6 (by decide) in_X1_millNumber_X1 (List.mem_of_getElem? (i := 1) rfl) (by rw [aq_ug_s]) dX1_millNumber_37 ?_
      exact aq_iret S.1 S.2.1 hr hlocks I dX1_millNumber_40 (by decide) (by decide) (by subst_vars; first | rfl | (simp only [aq_millNo, if_neg c1]; done) | (simp only [aq_millNo, if_neg c1]; rfl)) (by subst_vars; first | rfl | (simp only [aq_millNo, if_neg c1]; done) | (simp only [aq_millNo, if_neg c1]; rfl))
    · refine lv_tableIn (x := nI 1) (tgt := 41) S.1 S.2.1 dX1_millNumber_10 (by decide) (by decide) rfl (by decide) ?_
      have hl : lv_has ls 2 [(0, .ref (ad (7 + 20 * j + i))), (1, .int (nI 1))] := hl
      refine lv_aload_n S.1 S.2.1 dX1_millNumber_41 rfl (lv_at hl 0 rfl) ?_
      refine aC_getA (j := j) (i := i) (x := Q 7 i) S I hj (by omega) 7 (by decide) in_X1_millNumber_X1 (List.mem_of_getElem? (i := 2) rfl) (by rw [aq_ug_s]) dX1_millNumber_42 ?_
      exact aq_iret S.1 S.2.1 hr hlocks I dX1_millNumber_45 (by decide) (by decide) (by subst_vars; first | rfl | (simp only [aq_millNo, if_neg c1]; done) | (simp only [aq_millNo, if_neg c1]; rfl)) (by subst_vars; first | rfl | (simp only [aq_millNo, if_neg c1]; done) | (simp only [aq_millNo, if_neg c1]; rfl))
    · refine lv_tableIn (x := nI 2) (tgt := 46) S.1 S.2.1 dX1_millNumber_10 (by decide) (by decide) rfl (by decide) ?_
      have hl : lv_has ls 2 [(0, .ref (ad (7 + 20 * j + i))), (1, .int (nI 2))] := hl
      refine lv_aload_n S.1 S.2.1 dX1_millNumber_46 rfl (lv_at hl 0 rfl) ?_
      refine aC_getA (j := j) (i := i) (x := Q 8 i) S I hj (by omega) 8 (by decide) in_X1_millNumber_X1 (List.mem_of_getElem? (i := 3) rfl) (by rw [aq_ug_s]) dX1_millNumber_47 ?_
      exact aq_iret S.1 S.2.1 hr hlocks I dX1_millNumber_50 (by decide) (by decide) (by subst_vars; first | rfl | (simp only [aq_millNo, if_neg c1]; done) | (simp only [aq_millNo, if_neg c1]; rfl)) (by subst_vars; first | rfl | (simp only [aq_millNo, if_neg c1]; done) | (simp only [aq_millNo, if_neg c1]; rfl))
    · refine lv_tableOut (x := nI 3) (tgt := 51) S.1 S.2.1 dX1_millNumber_10 (by decide) (by decide) ?_
      have hl : lv_has ls 2 [(0, .ref (ad (7 + 20 * j + i))), (1, .int (nI 3))] := hl
      refine lv_aload_n S.1 S.2.1 dX1_millNumber_51 rfl (lv_at hl 0 rfl) ?_
      refine aC_getA (j := j) (i := i) (x := Q 9 i) S I hj (by omega) 9 (by decide) in_X1_millNumber_X1 (List.mem_of_getElem? (i := 4) rfl) (by rw [aq_ug_s]) dX1_millNumber_52 ?_
      exact aq_iret S.1 S.2.1 hr hlocks I dX1_millNumber_55 (by decide) (by decide) (by subst_vars; first | rfl | (simp only [aq_millNo, if_neg c1]; done) | (simp only [aq_millNo, if_neg c1]; rfl)) (by subst_vars; first | rfl | (simp only [aq_millNo, if_neg c1]; done) | (simp only [aq_millNo, if_neg c1]; rfl))
  · refine lv_iconst (v := (-1)) S.1 S.2.1 dX1_millNumber_7 (by decide) ?_
    exact aq_iret S.1 S.2.1 hr hlocks I dX1_millNumber_8 (by decide) (by decide) (by subst_vars; first | rfl | (simp only [aq_millNo, if_pos c1]; done) | (simp only [aq_millNo, if_pos c1]; rfl)) (by subst_vars; first | rfl | (simp only [aq_millNo, if_pos c1]; done) | (simp only [aq_millNo, if_pos c1]; rfl))
