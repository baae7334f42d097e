theorem in_X3_pass_X3 : ∀ w ∈ wsX30, w ∈ wsX3_pass := fun _ h => List.mem_cons_of_mem _ (List.mem_append_left _ (List.mem_append_right _ h))
theorem in_X3_pass_X4 : ∀ w ∈ wsX40, w ∈ wsX3_pass := fun _ h => List.mem_cons_of_mem _ (List.mem_append_right _ h)
set_option maxHeartbeats 4000000 in
set_option maxRecDepth 100000 in
/-- X3_pass -/
theorem c_X3_pass (l : Launch) {D : va_G} {ad : Nat → Nat} {cI : ClassId} {th : Int32} (hJ : aq_J 22 ad) {V : aq_V} {Q : aq_Q} {j : Nat} (hj : j < 2) (hst : aR_st (V 3) Q) {n : Nat} (hn : V 3 10 3 = nI n) (hn20 : n ≤ 20) {h : Nat} (hh : Q 10 4 = nI h) (h31 : h < 2 ^ 31) : ar_Met l yX3_pass wsX3_pass ({ frames := 3, cells := 0, slots := 0, locals := 66 }) D (aR_t cI) 22 ad [.ref (ad (6 + j))] (aR_w ad cI th (aq_ug V j Q)) (aq_Qi D (aR_t cI) 22 ad (aR_hourD n (V 2) (h % 24) Q 10 12 - Q 10 12) (aR_w ad cI th (aq_ug V j (aR_hourD n (V 2) (h % 24) Q)))) 0 0 := by
  refine ar_enter (cc := cX3_pass) (maxL := 6) (ret := some .int) (by decide) rfl (Nat.le_of_ble_eq_true rfl) ?_
  intro p e s m below meth c ls S hr hlocks hE I hl
  have S : CallFix p m c cX3_pass 6 s _ wsX3_pass RX3 := S
  have hl : lv_has ls 6 [(0, .ref (ad (6 + j)))] := hl
  obtain ⟨d, hd⟩ : ∃ d : Nat, d = h % 24 := ⟨_, rfl⟩
  have hd24 : d < 24 := by omega
  have L392 : ∀ (k : Nat) (i : Nat) (Q' : aq_Q), (i + k = n) → (aR_st (V 3) Q') → (aR_wearAll d k i Q' = aR_hour6 n (V 2) d Q) → ∀ (H : Heap) (locs : List Loc), aq_I D (aR_t cI) (aq_A 22 ad) (aR_w ad cI th (aq_ug V j (Q'))) s H locs → ∀ ls : Array Slot, lv_has ls 6 [(4, .int (nI i)), (0, .ref (ad (6 + j))), (1, .int (nI d)), (2, .int (Q 10 12))] → W p l e ({ frames := 3, cells := 0, slots := 0, locals := 66 } : Room) s m (([.ref (ad (6 + j))] : List Value).toArray) below meth c H locs 0 0 (MQ below ((aq_Qi D (aR_t cI) 22 ad (aR_hourD n (V 2) (h % 24) Q 10 12 - Q 10 12) (aR_w ad cI th (aq_ug V j (aR_hourD n (V 2) (h % 24) Q)))) s.heap.size) (([.ref (ad (6 + j))] : List Value).toArray) s 0 0 (aq_A 22 ad s.heap.size)) (F0 m 392 ls []) := by
    intro k
    induction k with
    | zero =>
      intro i Q' hk hst' hq H locs I ls hl
      refine lv_iload S.1 S.2.1 dX3_pass_392 (lv_at hl 0 rfl) ?_
      refine lv_aload_n S.1 S.2.1 dX3_pass_394 rfl (lv_at hl 1 rfl) ?_
      refine aR_getS (j := j) (v := .ref (ad 0)) S I hj 16 (by decide) in_X3_pass_X3 (List.mem_of_getElem? (i := 3) rfl) rfl dX3_pass_395 ?_
      refine aR_getMN (v := .int (nI n)) S I 3 (by decide) in_X3_pass_X4 (hE.1 _ (List.mem_of_getElem? (i := 17) rfl)) (by first | (rw [aq_ug_n _ _ (by first | decide | omega), hn]; done) | (rw [aq_ug_n _ _ (by first | decide | omega), hn]; rfl)) dX3_pass_398 ?_
      refine lv_icmp_ge (tgt := 461) S.1 S.2.1 dX3_pass_401 (by decide) (fun c1 => ?_) (fun c1 => ?_)
      · have c1 : n ≤ i := (nI_leI (a := n) (b := i) (by omega) (by omega)).mp c1
        refine lv_aload_n S.1 S.2.1 dX3_pass_461 rfl (lv_at hl 1 rfl) ?_
        refine lv_dup S.1 S.2.1 dX3_pass_462 rfl ?_
        refine aR_getS (j := j) (v := .int (Q' 10 4)) S I hj 0 (by decide) in_X3_pass_X3 (List.mem_of_getElem? (i := 1) rfl) (by first | (rw [aq_ug_s]; done) | (rw [aq_ug_s]; rfl)) dX3_pass_463 ?_
        refine lv_iconst (v := 1) S.1 S.2.1 dX3_pass_466 (by decide) ?_
        refine lv_iadd S.1 S.2.1 dX3_pass_467 ?_
        refine aR_putS (V := V) (Q := Q') (j := j) (x := (Q' 10 4) + 1) hJ S I hj 0 (by decide) (by decide) 4 rfl in_X3_pass_X3 (List.mem_of_getElem? (i := 1) rfl) dX3_pass_468 (fun H locs M2 hM2 I => ?_)
        refine lv_aload_n S.1 S.2.1 dX3_pass_471 rfl (lv_at hl 1 rfl) ?_
        refine aR_getS (j := j) (v := .int (M2 10 12)) S I hj 15 (by decide) in_X3_pass_X3 (List.mem_of_getElem? (i := 2) rfl) (by first | (rw [aq_ug_s]; done) | (rw [aq_ug_s]; rfl)) dX3_pass_472 ?_
        refine lv_iload_n S.1 S.2.1 dX3_pass_475 rfl (lv_at hl 3 rfl) ?_
        refine lv_isub S.1 S.2.1 dX3_pass_476 ?_
        exact aq_iret S.1 S.2.1 hr hlocks I dX3_pass_477 (by decide) (by decide) (by subst hM2; rw [← hd]; exact congrArg (fun z => aq_up z 10 4 (z 10 4 + 1) 10 12 - Q 10 12) (show _ = aR_hour6 n (V 2) d Q from hq)) (by subst hM2; rw [← hd]; exact congrArg (fun z => aR_w ad cI th (aq_ug V j (aq_up z 10 4 (z 10 4 + 1)))) (show _ = aR_hour6 n (V 2) d Q from hq))
      · have c1 : i < n := Nat.lt_of_not_le (fun z9 => c1 ((nI_leI (a := n) (b := i) (by omega) (by omega)).mpr z9))
        exfalso; omega
    | succ k ih =>
      intro i Q' hk hst' hq H locs I ls hl
      refine lv_iload S.1 S.2.1 dX3_pass_392 (lv_at hl 0 rfl) ?_
      refine lv_aload_n S.1 S.2.1 dX3_pass_394 rfl (lv_at hl 1 rfl) ?_
      refine aR_getS (j := j) (v := .ref (ad 0)) S I hj 16 (by decide) in_X3_pass_X3 (List.mem_of_getElem? (i := 3) rfl) rfl dX3_pass_395 ?_
      refine aR_getMN (v := .int (nI n)) S I 3 (by decide) in_X3_pass_X4 (hE.1 _ (List.mem_of_getElem? (i := 17) rfl)) (by first | (rw [aq_ug_n _ _ (by first | decide | omega), hn]; done) | (rw [aq_ug_n _ _ (by first | decide | omega), hn]; rfl)) dX3_pass_398 ?_
      refine lv_icmp_ge (tgt := 461) S.1 S.2.1 dX3_pass_401 (by decide) (fun c3 => ?_) (fun c3 => ?_)
      · have c3 : n ≤ i := (nI_leI (a := n) (b := i) (by omega) (by omega)).mp c3
        exfalso; omega
      · have c3 : i < n := Nat.lt_of_not_le (fun z9 => c3 ((nI_leI (a := n) (b := i) (by omega) (by omega)).mpr z9))
        refine lv_iload_n S.1 S.2.1 dX3_pass_404 rfl (lv_at hl 2 rfl) ?_
        refine lv_bipush (v := 23) S.1 S.2.1 dX3_pass_405 (by decide) ?_
        refine lv_icmp_ne (tgt := 461) S.1 S.2.1 dX3_pass_407 (by decide) (fun c4 => ?_) (fun c4 => ?_)
        · have c4 : ¬ d = 23 := fun z9 => c4 ((nI_eq (a := d) (b := 23) (by omega) (by omega)).mpr z9)
          refine lv_aload_n S.1 S.2.1 dX3_pass_461 rfl (lv_at hl 1 rfl) ?_
          refine lv_dup S.1 S.2.1 dX3_pass_462 rfl ?_
          refine aR_getS (j := j) (v := .int (Q' 10 4)) S I hj 0 (by decide) in_X3_pass_X3 (List.mem_of_getElem? (i := 1) rfl) (by first | (rw [aq_ug_s]; done) | (rw [aq_ug_s]; rfl)) dX3_pass_463 ?_
          refine lv_iconst (v := 1) S.1 S.2.1 dX3_pass_466 (by decide) ?_
          refine lv_iadd S.1 S.2.1 dX3_pass_467 ?_
          refine aR_putS (V := V) (Q := Q') (j := j) (x := (Q' 10 4) + 1) hJ S I hj 0 (by decide) (by decide) 4 rfl in_X3_pass_X3 (List.mem_of_getElem? (i := 1) rfl) dX3_pass_468 (fun H locs M5 hM5 I => ?_)
          refine lv_aload_n S.1 S.2.1 dX3_pass_471 rfl (lv_at hl 1 rfl) ?_
          refine aR_getS (j := j) (v := .int (M5 10 12)) S I hj 15 (by decide) in_X3_pass_X3 (List.mem_of_getElem? (i := 2) rfl) (by first | (rw [aq_ug_s]; done) | (rw [aq_ug_s]; rfl)) dX3_pass_472 ?_
          refine lv_iload_n S.1 S.2.1 dX3_pass_475 rfl (lv_at hl 3 rfl) ?_
          refine lv_isub S.1 S.2.1 dX3_pass_476 ?_
          exact aq_iret S.1 S.2.1 hr hlocks I dX3_pass_477 (by decide) (by decide) (by subst hM5; rw [← hd]; exact congrArg (fun z => aq_up z 10 4 (z 10 4 + 1) 10 12 - Q 10 12) (show _ = aR_hour6 n (V 2) d Q from (by rw [aR_wearAll, if_neg c4] at hq; exact hq))) (by subst hM5; rw [← hd]; exact congrArg (fun z => aR_w ad cI th (aq_ug V j (aq_up z 10 4 (z 10 4 + 1)))) (show _ = aR_hour6 n (V 2) d Q from (by rw [aR_wearAll, if_neg c4] at hq; exact hq)))
        · have c4 : d = 23 := (nI_eq (a := d) (b := 23) (by omega) (by omega)).mp c4
          refine lv_aload_n S.1 S.2.1 dX3_pass_410 rfl (lv_at hl 1 rfl) ?_
          refine aR_getS (j := j) (v := .ref (ad (8 + 7 * j))) S I hj 4 (by decide) in_X3_pass_X3 (List.mem_of_getElem? (i := 10) rfl) rfl dX3_pass_411 ?_
          refine lv_iload S.1 S.2.1 dX3_pass_414 (lv_at hl 0 rfl) ?_
          refine aR_ald (j := j) (a := 0) (f := 2) (k := i) (x := Q' 2 i) S I hj (by decide) rfl rfl (by omega) (by rw [aq_ug_s]) dX3_pass_416 ?_
          refine lv_if_le (tgt := 455) S.1 S.2.1 dX3_pass_417 (by decide) (fun c6 => ?_) (fun c6 => ?_)
          · refine lv_iinc (v := nI (i + 1)) (lv' := [(4, .int (nI (i + 1))), (0, .ref (ad (6 + j))), (1, .int (nI d)), (2, .int (Q 10 12))]) S.1 S.2.1 dX3_pass_455 hl (k := 0) rfl (nI_1 _) (by decide) rfl (fun ls hl => ?_)
            refine lv_goto (tgt := 392) S.1 S.2.1 dX3_pass_458 (by decide) ?_
            exact ih (i + 1) Q' (by omega) hst' (by rw [aR_wearAll, if_pos c4] at hq; rw [aR_wearQ, if_pos c6] at hq; exact hq) _ _ I ls (lv_sub hl [0, 1, 2, 3] rfl)
          · refine lv_aload_n S.1 S.2.1 dX3_pass_420 rfl (lv_at hl 1 rfl) ?_
            refine aR_getS (j := j) (v := .ref (ad (9 + 7 * j))) S I hj 5 (by decide) in_X3_pass_X3 (List.mem_of_getElem? (i := 16) rfl) rfl dX3_pass_421 ?_
            refine lv_iload S.1 S.2.1 dX3_pass_424 (lv_at hl 0 rfl) ?_
            refine lv_bipush (v := 50) S.1 S.2.1 dX3_pass_426 (by decide) ?_
            refine lv_aload_n S.1 S.2.1 dX3_pass_428 rfl (lv_at hl 1 rfl) ?_
            refine aR_getS (j := j) (v := .ref (ad (9 + 7 * j))) S I hj 5 (by decide) in_X3_pass_X3 (List.mem_of_getElem? (i := 16) rfl) rfl dX3_pass_429 ?_
            refine lv_iload S.1 S.2.1 dX3_pass_432 (lv_at hl 0 rfl) ?_
            refine aR_ald (j := j) (a := 1) (f := 3) (k := i) (x := Q' 3 i) S I hj (by decide) rfl rfl (by omega) (by rw [aq_ug_s]) dX3_pass_434 ?_
            refine lv_aload_n S.1 S.2.1 dX3_pass_435 rfl (lv_at hl 1 rfl) ?_
            refine aR_getS (j := j) (v := .ref (ad (12 + 7 * j))) S I hj 8 (by decide) in_X3_pass_X3 (List.mem_of_getElem? (i := 12) rfl) rfl dX3_pass_436 ?_
            refine lv_iload S.1 S.2.1 dX3_pass_439 (lv_at hl 0 rfl) ?_
            refine aR_ald (j := j) (a := 4) (f := 7) (k := i) (x := Q' 7 i) S I hj (by decide) rfl rfl (by omega) (by rw [aq_ug_s]) dX3_pass_441 ?_
            refine lv_if_le (tgt := 449) S.1 S.2.1 dX3_pass_442 (by decide) (fun c7 => ?_) (fun c7 => ?_)
            · refine lv_iconst (v := 1) S.1 S.2.1 dX3_pass_449 (by decide) ?_
              refine lv_iadd S.1 S.2.1 dX3_pass_450 ?_
              refine aq_mmin S hl.1 (List.mem_of_getElem? (i := 5) rfl) (List.mem_of_getElem? (i := 6) rfl) (List.mem_of_getElem? (i := 7) rfl) (List.mem_of_getElem? (i := 8) rfl) (by decide) (Nat.le_of_ble_eq_true rfl) (by decide) (by decide) dX3_pass_451 ?_
              refine aR_ast (V := V) (Q := Q') (j := j) (a := 1) (f := 3) (k := i) (x := aq_mn 50 ((Q' 3 i) + 1)) hJ S I hj (by decide) rfl rfl (by omega) dX3_pass_454 (fun H locs M8 hM8 I => ?_)
              refine lv_iinc (v := nI (i + 1)) (lv' := [(4, .int (nI (i + 1))), (0, .ref (ad (6 + j))), (1, .int (nI d)), (2, .int (Q 10 12))]) S.1 S.2.1 dX3_pass_455 hl (k := 0) rfl (nI_1 _) (by decide) rfl (fun ls hl => ?_)
              refine lv_goto (tgt := 392) S.1 S.2.1 dX3_pass_458 (by decide) ?_
              have hst_M8 : aR_st (V 3) M8 := by rw [hM8]; exact aR_st_up (by decide) (by decide) (by decide) hst'
              exact ih (i + 1) M8 (by omega) hst_M8 (by subst hM8; rw [aR_wearAll, if_pos c4] at hq; rw [aR_wearQ, if_neg c6, if_pos c7] at hq; exact hq) _ _ I ls (lv_sub hl [0, 1, 2, 3] rfl)
            · refine lv_iconst (v := 2) S.1 S.2.1 dX3_pass_445 (by decide) ?_
              refine lv_goto (tgt := 450) S.1 S.2.1 dX3_pass_446 (by decide) ?_
              refine lv_iadd S.1 S.2.1 dX3_pass_450 ?_
              refine aq_mmin S hl.1 (List.mem_of_getElem? (i := 5) rfl) (List.mem_of_getElem? (i := 6) rfl) (List.mem_of_getElem? (i := 7) rfl) (List.mem_of_getElem? (i := 8) rfl) (by decide) (Nat.le_of_ble_eq_true rfl) (by decide) (by decide) dX3_pass_451 ?_
              refine aR_ast (V := V) (Q := Q') (j := j) (a := 1) (f := 3) (k := i) (x := aq_mn 50 ((Q' 3 i) + 2)) hJ S I hj (by decide) rfl rfl (by omega) dX3_pass_454 (fun H locs M9 hM9 I => ?_)
              refine lv_iinc (v := nI (i + 1)) (lv' := [(4, .int (nI (i + 1))), (0, .ref (ad (6 + j))), (1, .int (nI d)), (2, .int (Q 10 12))]) S.1 S.2.1 dX3_pass_455 hl (k := 0) rfl (nI_1 _) (by decide) rfl (fun ls hl => ?_)
              refine lv_goto (tgt := 392) S.1 S.2.1 dX3_pass_458 (by decide) ?_
              have hst_M9 : aR_st (V 3) M9 := by rw [hM9]; exact aR_st_up (by decide) (by decide) (by decide) hst'
              exact ih (i + 1) M9 (by omega) hst_M9 (by subst hM9; rw [aR_wearAll, if_pos c4] at hq; rw [aR_wearQ, if_neg c6, if_neg c7] at hq; exact hq) _ _ I ls (lv_sub hl [0, 1, 2, 3] rfl)
  have L285 : ∀ (k : Nat) (i : Nat) (Q' : aq_Q), (i + k = n) → (aR_st (V 3) Q') → (aR_leakAll k i Q' = aR_hour5 n (V 2) d Q) → ∀ (H : Heap) (locs : List Loc), aq_I D (aR_t cI) (aq_A 22 ad) (aR_w ad cI th (aq_ug V j (Q'))) s H locs → ∀ ls : Array Slot, lv_has ls 6 [(4, .int (nI i)), (0, .ref (ad (6 + j))), (1, .int (nI d)), (2, .int (Q 10 12))] → W p l e ({ frames := 3, cells := 0, slots := 0, locals := 66 } : Room) s m (([.ref (ad (6 + j))] : List Value).toArray) below meth c H locs 0 0 (MQ below ((aq_Qi D (aR_t cI) 22 ad (aR_hourD n (V 2) (h % 24) Q 10 12 - Q 10 12) (aR_w ad cI th (aq_ug V j (aR_hourD n (V 2) (h % 24) Q)))) s.heap.size) (([.ref (ad (6 + j))] : List Value).toArray) s 0 0 (aq_A 22 ad s.heap.size)) (F0 m 285 ls []) := by
    intro k
    induction k with
    | zero =>
      intro i Q' hk hst' hq H locs I ls hl
      refine lv_iload S.1 S.2.1 dX3_pass_285 (lv_at hl 0 rfl) ?_
      refine lv_aload_n S.1 S.2.1 dX3_pass_287 rfl (lv_at hl 1 rfl) ?_
      refine aR_getS (j := j) (v := .ref (ad 0)) S I hj 16 (by decide) in_X3_pass_X3 (List.mem_of_getElem? (i := 3) rfl) rfl dX3_pass_288 ?_
      refine aR_getMN (v := .int (nI n)) S I 3 (by decide) in_X3_pass_X4 (hE.1 _ (List.mem_of_getElem? (i := 17) rfl)) (by first | (rw [aq_ug_n _ _ (by first | decide | omega), hn]; done) | (rw [aq_ug_n _ _ (by first | decide | omega), hn]; rfl)) dX3_pass_291 ?_
      refine lv_icmp_ge (tgt := 389) S.1 S.2.1 dX3_pass_294 (by decide) (fun c10 => ?_) (fun c10 => ?_)
      · have c10 : n ≤ i := (nI_leI (a := n) (b := i) (by omega) (by omega)).mp c10
        refine lv_iconst (v := 0) S.1 S.2.1 dX3_pass_389 (by decide) ?_
        refine lv_istore (lv' := [(4, .int 0), (0, .ref (ad (6 + j))), (1, .int (nI d)), (2, .int (Q 10 12))]) S.1 S.2.1 dX3_pass_390 hl (by decide) rfl (fun ls hl => ?_)
        exact L392 n 0 Q' (by omega) hst' (congrArg (aR_wearAll d n 0) hq) _ _ I ls (lv_sub hl [0, 1, 2, 3] rfl)
      · have c10 : i < n := Nat.lt_of_not_le (fun z9 => c10 ((nI_leI (a := n) (b := i) (by omega) (by omega)).mpr z9))
        exfalso; omega
    | succ k ih =>
      intro i Q' hk hst' hq H locs I ls hl
      refine lv_iload S.1 S.2.1 dX3_pass_285 (lv_at hl 0 rfl) ?_
      refine lv_aload_n S.1 S.2.1 dX3_pass_287 rfl (lv_at hl 1 rfl) ?_
      refine aR_getS (j := j) (v := .ref (ad 0)) S I hj 16 (by decide) in_X3_pass_X3 (List.mem_of_getElem? (i := 3) rfl) rfl dX3_pass_288 ?_
      refine aR_getMN (v := .int (nI n)) S I 3 (by decide) in_X3_pass_X4 (hE.1 _ (List.mem_of_getElem? (i := 17) rfl)) (by first | (rw [aq_ug_n _ _ (by first | decide | omega), hn]; done) | (rw [aq_ug_n _ _ (by first | decide | omega), hn]; rfl)) dX3_pass_291 ?_
      refine lv_icmp_ge (tgt := 389) S.1 S.2.1 dX3_pass_294 (by decide) (fun c11 => ?_) (fun c11 => ?_)
      · have c11 : n ≤ i := (nI_leI (a := n) (b := i) (by omega) (by omega)).mp c11
        exfalso; omega
      · have c11 : i < n := Nat.lt_of_not_le (fun z9 => c11 ((nI_leI (a := n) (b := i) (by omega) (by omega)).mpr z9))
        refine lv_aload_n S.1 S.2.1 dX3_pass_297 rfl (lv_at hl 1 rfl) ?_
        refine aR_getS (j := j) (v := .ref (ad (10 + 7 * j))) S I hj 6 (by decide) in_X3_pass_X3 (List.mem_of_getElem? (i := 15) rfl) rfl dX3_pass_298 ?_
        refine lv_iload S.1 S.2.1 dX3_pass_301 (lv_at hl 0 rfl) ?_
        refine lv_dup2_11 S.1 S.2.1 dX3_pass_303 rfl rfl ?_
        refine aR_ald (j := j) (a := 2) (f := 4) (k := i) (x := Q' 4 i) S I hj (by decide) rfl rfl (by omega) (by rw [aq_ug_s]) dX3_pass_304 ?_
        refine lv_aload_n S.1 S.2.1 dX3_pass_305 rfl (lv_at hl 1 rfl) ?_
        refine aR_getS (j := j) (v := .ref (ad (8 + 7 * j))) S I hj 4 (by decide) in_X3_pass_X3 (List.mem_of_getElem? (i := 10) rfl) rfl dX3_pass_306 ?_
        refine lv_iload S.1 S.2.1 dX3_pass_309 (lv_at hl 0 rfl) ?_
        refine aR_ald (j := j) (a := 0) (f := 2) (k := i) (x := Q' 2 i) S I hj (by decide) rfl rfl (by omega) (by rw [aq_ug_s]) dX3_pass_311 ?_
        refine lv_aload_n S.1 S.2.1 dX3_pass_312 rfl (lv_at hl 1 rfl) ?_
        refine aR_getS (j := j) (v := .ref (ad (9 + 7 * j))) S I hj 5 (by decide) in_X3_pass_X3 (List.mem_of_getElem? (i := 16) rfl) rfl dX3_pass_313 ?_
        refine lv_iload S.1 S.2.1 dX3_pass_316 (lv_at hl 0 rfl) ?_
        refine aR_ald (j := j) (a := 1) (f := 3) (k := i) (x := Q' 3 i) S I hj (by decide) rfl rfl (by omega) (by rw [aq_ug_s]) dX3_pass_318 ?_
        refine lv_imul S.1 S.2.1 dX3_pass_319 ?_
        refine lv_bipush (v := 10) S.1 S.2.1 dX3_pass_320 (by decide) ?_
        refine lv_idiv S.1 S.2.1 dX3_pass_322 (by decide) ?_
        refine lv_iadd S.1 S.2.1 dX3_pass_323 ?_
        refine lv_topi (fun x12 (ex12 : x12 = (Q' 4 i) + (((Q' 2 i) * (Q' 3 i)) / 10)) => ?_)
        refine aR_ast (V := V) (Q := Q') (j := j) (a := 2) (f := 4) (k := i) (x := x12) hJ S I hj (by decide) rfl rfl (by omega) dX3_pass_324 (fun H locs M13 hM13 I => ?_)
        refine lv_aload_n S.1 S.2.1 dX3_pass_325 rfl (lv_at hl 1 rfl) ?_
        refine aR_getS (j := j) (v := .ref (ad (8 + 7 * j))) S I hj 4 (by decide) in_X3_pass_X3 (List.mem_of_getElem? (i := 10) rfl) rfl dX3_pass_326 ?_
        refine lv_iload S.1 S.2.1 dX3_pass_329 (lv_at hl 0 rfl) ?_
        refine aR_ald (j := j) (a := 0) (f := 2) (k := i) (x := M13 2 i) S I hj (by decide) rfl rfl (by omega) (by rw [aq_ug_s]) dX3_pass_331 ?_
        refine lv_aload_n S.1 S.2.1 dX3_pass_332 rfl (lv_at hl 1 rfl) ?_
        refine aR_getS (j := j) (v := .ref (ad (10 + 7 * j))) S I hj 6 (by decide) in_X3_pass_X3 (List.mem_of_getElem? (i := 15) rfl) rfl dX3_pass_333 ?_
        refine lv_iload S.1 S.2.1 dX3_pass_336 (lv_at hl 0 rfl) ?_
        refine aR_ald (j := j) (a := 2) (f := 4) (k := i) (x := M13 4 i) S I hj (by decide) rfl rfl (by omega) (by rw [aq_ug_s]) dX3_pass_338 ?_
        refine lv_bipush (v := 10) S.1 S.2.1 dX3_pass_339 (by decide) ?_
        refine lv_idiv S.1 S.2.1 dX3_pass_341 (by decide) ?_
        refine aq_mmin S hl.1 (List.mem_of_getElem? (i := 5) rfl) (List.mem_of_getElem? (i := 6) rfl) (List.mem_of_getElem? (i := 7) rfl) (List.mem_of_getElem? (i := 8) rfl) (by decide) (Nat.le_of_ble_eq_true rfl) (by decide) (by decide) dX3_pass_342 ?_
        refine lv_topi (fun x14 (ex14 : x14 = aq_mn (M13 2 i) (M13 4 i / 10)) => ?_)
        refine lv_istore (lv' := [(5, .int x14), (4, .int (nI i)), (0, .ref (ad (6 + j))), (1, .int (nI d)), (2, .int (Q 10 12))]) S.1 S.2.1 dX3_pass_345 hl (by decide) rfl (fun ls hl => ?_)
        refine lv_aload_n S.1 S.2.1 dX3_pass_347 rfl (lv_at hl 2 rfl) ?_
        refine aR_getS (j := j) (v := .ref (ad (10 + 7 * j))) S I hj 6 (by decide) in_X3_pass_X3 (List.mem_of_getElem? (i := 15) rfl) rfl dX3_pass_348 ?_
        refine lv_iload S.1 S.2.1 dX3_pass_351 (lv_at hl 1 rfl) ?_
        refine lv_dup2_11 S.1 S.2.1 dX3_pass_353 rfl rfl ?_
        refine aR_ald (j := j) (a := 2) (f := 4) (k := i) (x := M13 4 i) S I hj (by decide) rfl rfl (by omega) (by rw [aq_ug_s]) dX3_pass_354 ?_
        refine lv_bipush (v := 10) S.1 S.2.1 dX3_pass_355 (by decide) ?_
        refine lv_irem S.1 S.2.1 dX3_pass_357 (by decide) ?_
        refine aR_ast (V := V) (Q := M13) (j := j) (a := 2) (f := 4) (k := i) (x := M13 4 i - M13 4 i / 10 * 10) hJ S I hj (by decide) rfl rfl (by omega) dX3_pass_358 (fun H locs M15 hM15 I => ?_)
        refine lv_aload_n S.1 S.2.1 dX3_pass_359 rfl (lv_at hl 2 rfl) ?_
        refine aR_getS (j := j) (v := .ref (ad (8 + 7 * j))) S I hj 4 (by decide) in_X3_pass_X3 (List.mem_of_getElem? (i := 10) rfl) rfl dX3_pass_360 ?_
        refine lv_iload S.1 S.2.1 dX3_pass_363 (lv_at hl 1 rfl) ?_
        refine lv_dup2_11 S.1 S.2.1 dX3_pass_365 rfl rfl ?_
        refine aR_ald (j := j) (a := 0) (f := 2) (k := i) (x := M15 2 i) S I hj (by decide) rfl rfl (by omega) (by rw [aq_ug_s]) dX3_pass_366 ?_
        refine lv_iload S.1 S.2.1 dX3_pass_367 (lv_at hl 0 rfl) ?_
        refine lv_isub S.1 S.2.1 dX3_pass_369 ?_
        refine aR_ast (V := V) (Q := M15) (j := j) (a := 0) (f := 2) (k := i) (x := M15 2 i - x14) hJ S I hj (by decide) rfl rfl (by omega) dX3_pass_370 (fun H locs M16 hM16 I => ?_)
        refine lv_aload_n S.1 S.2.1 dX3_pass_371 rfl (lv_at hl 2 rfl) ?_
        refine aR_getS (j := j) (v := .ref (ad (11 + 7 * j))) S I hj 7 (by decide) in_X3_pass_X3 (List.mem_of_getElem? (i := 17) rfl) rfl dX3_pass_372 ?_
        refine lv_iload S.1 S.2.1 dX3_pass_375 (lv_at hl 1 rfl) ?_
        refine lv_dup2_11 S.1 S.2.1 dX3_pass_377 rfl rfl ?_
        refine aR_ald (j := j) (a := 3) (f := 5) (k := i) (x := M16 5 i) S I hj (by decide) rfl rfl (by omega) (by rw [aq_ug_s]) dX3_pass_378 ?_
        refine lv_iload S.1 S.2.1 dX3_pass_379 (lv_at hl 0 rfl) ?_
        refine lv_iadd S.1 S.2.1 dX3_pass_381 ?_
        refine aR_ast (V := V) (Q := M16) (j := j) (a := 3) (f := 5) (k := i) (x := M16 5 i + x14) hJ S I hj (by decide) rfl rfl (by omega) dX3_pass_382 (fun H locs M17 hM17 I => ?_)
        refine lv_iinc (v := nI (i + 1)) (lv' := [(4, .int (nI (i + 1))), (5, .int x14), (0, .ref (ad (6 + j))), (1, .int (nI d)), (2, .int (Q 10 12))]) S.1 S.2.1 dX3_pass_383 hl (k := 1) rfl (nI_1 _) (by decide) rfl (fun ls hl => ?_)
        refine lv_goto (tgt := 285) S.1 S.2.1 dX3_pass_386 (by decide) ?_
        have hst_M13 : aR_st (V 3) M13 := by rw [hM13]; exact aR_st_up (by decide) (by decide) (by decide) hst'
        have hst_M15 : aR_st (V 3) M15 := by rw [hM15]; exact aR_st_up (by decide) (by decide) (by decide) hst_M13
        have hst_M16 : aR_st (V 3) M16 := by rw [hM16]; exact aR_st_up (by decide) (by decide) (by decide) hst_M15
        have hst_M17 : aR_st (V 3) M17 := by rw [hM17]; exact aR_st_up (by decide) (by decide) (by decide) hst_M16
        exact ih (i + 1) M17 (by omega) hst_M17 (by subst hM17; subst hM16; subst hM15; subst ex14; subst hM13; subst ex12; exact hq) _ _ I ls (lv_sub hl [0, 2, 3, 4] rfl)
  have L185 : ∀ (k : Nat) (i : Nat) (Q' : aq_Q), (i + k = n) → (aR_st (V 3) Q') → (aR_grindAll n k i Q' = (aR_grindAll n n 0 (aR_sendAll n n (aq_drinkQ Q (V 2 1 d))))) → ∀ (H : Heap) (locs : List Loc), aq_I D (aR_t cI) (aq_A 22 ad) (aR_w ad cI th (aq_ug V j (Q'))) s H locs → ∀ ls : Array Slot, lv_has ls 6 [(4, .int (nI i)), (0, .ref (ad (6 + j))), (1, .int (nI d)), (2, .int (Q 10 12))] → W p l e ({ frames := 3, cells := 0, slots := 0, locals := 66 } : Room) s m (([.ref (ad (6 + j))] : List Value).toArray) below meth c H locs 0 0 (MQ below ((aq_Qi D (aR_t cI) 22 ad (aR_hourD n (V 2) (h % 24) Q 10 12 - Q 10 12) (aR_w ad cI th (aq_ug V j (aR_hourD n (V 2) (h % 24) Q)))) s.heap.size) (([.ref (ad (6 + j))] : List Value).toArray) s 0 0 (aq_A 22 ad s.heap.size)) (F0 m 185 ls []) := by
    intro k
    induction k with
    | zero =>
      intro i Q' hk hst' hq H locs I ls hl
      refine lv_iload S.1 S.2.1 dX3_pass_185 (lv_at hl 0 rfl) ?_
      refine lv_aload_n S.1 S.2.1 dX3_pass_187 rfl (lv_at hl 1 rfl) ?_
      refine aR_getS (j := j) (v := .ref (ad 0)) S I hj 16 (by decide) in_X3_pass_X3 (List.mem_of_getElem? (i := 3) rfl) rfl dX3_pass_188 ?_
      refine aR_getMN (v := .int (nI n)) S I 3 (by decide) in_X3_pass_X4 (hE.1 _ (List.mem_of_getElem? (i := 17) rfl)) (by first | (rw [aq_ug_n _ _ (by first | decide | omega), hn]; done) | (rw [aq_ug_n _ _ (by first | decide | omega), hn]; rfl)) dX3_pass_191 ?_
      refine lv_icmp_ge (tgt := 209) S.1 S.2.1 dX3_pass_194 (by decide) (fun c18 => ?_) (fun c18 => ?_)
      · have c18 : n ≤ i := (nI_leI (a := n) (b := i) (by omega) (by omega)).mp c18
        refine lv_aload_n S.1 S.2.1 dX3_pass_209 rfl (lv_at hl 1 rfl) ?_
        refine lv_dup S.1 S.2.1 dX3_pass_210 rfl ?_
        refine aR_getS (j := j) (v := .int (Q' 10 8)) S I hj 11 (by decide) in_X3_pass_X3 (List.mem_of_getElem? (i := 13) rfl) (by first | (rw [aq_ug_s]; done) | (rw [aq_ug_s]; rfl)) dX3_pass_211 ?_
        refine lv_aload_n S.1 S.2.1 dX3_pass_214 rfl (lv_at hl 1 rfl) ?_
        refine aR_getS (j := j) (v := .ref (ad 0)) S I hj 16 (by decide) in_X3_pass_X3 (List.mem_of_getElem? (i := 3) rfl) rfl dX3_pass_215 ?_
        refine aR_getMN (v := .ref (ad 1)) S I 1 (by decide) in_X3_pass_X4 (hE.1 _ (List.mem_of_getElem? (i := 16) rfl)) rfl dX3_pass_218 ?_
        refine lv_iload_n S.1 S.2.1 dX3_pass_221 rfl (lv_at hl 2 rfl) ?_
        refine aR_tld (t := 0) (k := d) (x := (V 2) 0 d) S I (by decide) rfl (by omega) (by rw [aq_ug_n _ _ (by first | decide | omega)]) dX3_pass_222 ?_
        refine lv_iadd S.1 S.2.1 dX3_pass_223 ?_
        refine aR_putS (V := V) (Q := Q') (j := j) (x := (Q' 10 8) + ((V 2) 0 d)) hJ S I hj 11 (by decide) (by decide) 8 rfl in_X3_pass_X3 (List.mem_of_getElem? (i := 13) rfl) dX3_pass_224 (fun H locs M19 hM19 I => ?_)
        refine lv_aload_n S.1 S.2.1 dX3_pass_227 rfl (lv_at hl 1 rfl) ?_
        refine lv_dup S.1 S.2.1 dX3_pass_228 rfl ?_
        refine aR_getS (j := j) (v := .int (M19 10 9)) S I hj 12 (by decide) in_X3_pass_X3 (List.mem_of_getElem? (i := 14) rfl) (by first | (rw [aq_ug_s]; done) | (rw [aq_ug_s]; rfl)) dX3_pass_229 ?_
        refine lv_aload_n S.1 S.2.1 dX3_pass_232 rfl (lv_at hl 1 rfl) ?_
        refine aR_getS (j := j) (v := .ref (ad 0)) S I hj 16 (by decide) in_X3_pass_X3 (List.mem_of_getElem? (i := 3) rfl) rfl dX3_pass_233 ?_
        refine aR_getMN (v := .int (nI n)) S I 3 (by decide) in_X3_pass_X4 (hE.1 _ (List.mem_of_getElem? (i := 17) rfl)) (by first | (rw [aq_ug_n _ _ (by first | decide | omega), hn]; done) | (rw [aq_ug_n _ _ (by first | decide | omega), hn]; rfl)) dX3_pass_236 ?_
        refine lv_if_ne (tgt := 254) S.1 S.2.1 dX3_pass_239 (by decide) (fun c20 => ?_) (fun c20 => ?_)
        · have c20 : ¬ n = 0 := fun z9 => c20 ((nI_eq (a := n) (b := 0) (by omega) (by omega)).mpr z9)
          refine lv_aload_n S.1 S.2.1 dX3_pass_254 rfl (lv_at hl 1 rfl) ?_
          refine aR_getS (j := j) (v := .ref (ad 0)) S I hj 16 (by decide) in_X3_pass_X3 (List.mem_of_getElem? (i := 3) rfl) rfl dX3_pass_255 ?_
          refine aR_getMN (v := .ref (ad 1)) S I 1 (by decide) in_X3_pass_X4 (hE.1 _ (List.mem_of_getElem? (i := 16) rfl)) rfl dX3_pass_258 ?_
          refine lv_iload_n S.1 S.2.1 dX3_pass_261 rfl (lv_at hl 2 rfl) ?_
          refine aR_tld (t := 0) (k := d) (x := (V 2) 0 d) S I (by decide) rfl (by omega) (by rw [aq_ug_n _ _ (by first | decide | omega)]) dX3_pass_262 ?_
          refine lv_aload_n S.1 S.2.1 dX3_pass_263 rfl (lv_at hl 1 rfl) ?_
          refine lv_iconst (v := 0) S.1 S.2.1 dX3_pass_264 (by decide) ?_
          refine lv_aload_n S.1 S.2.1 dX3_pass_265 rfl (lv_at hl 1 rfl) ?_
          refine aR_getS (j := j) (v := .ref (ad 0)) S I hj 16 (by decide) in_X3_pass_X3 (List.mem_of_getElem? (i := 3) rfl) rfl dX3_pass_266 ?_
          refine aR_getMN (v := .ref (ad 1)) S I 1 (by decide) in_X3_pass_X4 (hE.1 _ (List.mem_of_getElem? (i := 16) rfl)) rfl dX3_pass_269 ?_
          refine lv_iload_n S.1 S.2.1 dX3_pass_272 rfl (lv_at hl 2 rfl) ?_
          refine aR_tld (t := 0) (k := d) (x := (V 2) 0 d) S I (by decide) rfl (by omega) (by rw [aq_ug_n _ _ (by first | decide | omega)]) dX3_pass_273 ?_
          have hst_M19 : aR_st (V 3) M19 := by rw [hM19]; exact aR_st_up (by decide) (by decide) (by decide) hst'
          refine ar_callVi (As := [.int 0, .int ((V 2) 0 d)]) (rest := [.int ((V 2) 0 d), .int (M19 10 9), .ref (ad (6 + j))]) S hE (c_X3_come l hJ (V := V) (th := th) (Q := M19) (j := j) hj hst_M19 (n := n) hn hn20 (a := 0) (by omega) ((V 2) 0 d)) (cwV 2 S.2.2.2.2 gX3_pass_X3_come rfl rfl rfl (by decide +kernel) ⟨Nat.le_of_ble_eq_true rfl, Nat.le_of_ble_eq_true rfl⟩) (aR_recvS (j := j) I hj) I hl.1 dX3_pass_274 rfl rfl (Nat.le_of_ble_eq_true rfl) ⟨by first | decide | (dsimp only; omega), by first | decide | (dsimp only; omega)⟩ (fun H locs I hk9 => ?_)
          obtain ⟨M21, hM21⟩ : ∃ z9 : aq_Q, z9 = aq_pourQ n M19 0 ((V 2) 0 d) := ⟨_, rfl⟩
          rw [← hM21] at I
          refine lv_isub S.1 S.2.1 dX3_pass_277 ?_
          refine lv_topi (fun x22 (ex22 : x22 = ((V 2) 0 d) - (aq_pourR n M19 0 ((V 2) 0 d))) => ?_)
          refine lv_iadd S.1 S.2.1 dX3_pass_278 ?_
          refine aR_putS (V := V) (Q := M21) (j := j) (x := M19 10 9 + x22) hJ S I hj 12 (by decide) (by decide) 9 rfl in_X3_pass_X3 (List.mem_of_getElem? (i := 14) rfl) dX3_pass_279 (fun H locs M23 hM23 I => ?_)
          refine lv_iconst (v := 0) S.1 S.2.1 dX3_pass_282 (by decide) ?_
          refine lv_istore (lv' := [(4, .int 0), (0, .ref (ad (6 + j))), (1, .int (nI d)), (2, .int (Q 10 12))]) S.1 S.2.1 dX3_pass_283 hl (by decide) rfl (fun ls hl => ?_)
          have hst_M21 : aR_st (V 3) M21 := by rw [hM21]; exact aR_st_pour hst_M19
          have hst_M23 : aR_st (V 3) M23 := by rw [hM23]; exact aR_st_up (by decide) (by decide) (by decide) hst_M21
          exact L285 n 0 M23 (by omega) hst_M23 (by subst hM23; subst ex22; subst hM21; subst hM19; exact Eq.trans (congrArg (aR_leakAll n 0) (show _ = aR_springQ n Q' (V 2 0 d) from by rw [aR_springQ, if_neg c20]; rfl)) (congrArg (fun z => aR_leakAll n 0 (aR_springQ n z (V 2 0 d))) hq)) _ _ I ls (lv_sub hl [0, 1, 2, 3] rfl)
        · have c20 : n = 0 := (nI_eq (a := n) (b := 0) (by omega) (by omega)).mp c20
          refine lv_aload_n S.1 S.2.1 dX3_pass_242 rfl (lv_at hl 1 rfl) ?_
          refine aR_getS (j := j) (v := .ref (ad 0)) S I hj 16 (by decide) in_X3_pass_X3 (List.mem_of_getElem? (i := 3) rfl) rfl dX3_pass_243 ?_
          refine aR_getMN (v := .ref (ad 1)) S I 1 (by decide) in_X3_pass_X4 (hE.1 _ (List.mem_of_getElem? (i := 16) rfl)) rfl dX3_pass_246 ?_
          refine lv_iload_n S.1 S.2.1 dX3_pass_249 rfl (lv_at hl 2 rfl) ?_
          refine aR_tld (t := 0) (k := d) (x := (V 2) 0 d) S I (by decide) rfl (by omega) (by rw [aq_ug_n _ _ (by first | decide | omega)]) dX3_pass_250 ?_
          refine lv_goto (tgt := 278) S.1 S.2.1 dX3_pass_251 (by decide) ?_
          refine lv_iadd S.1 S.2.1 dX3_pass_278 ?_
          refine aR_putS (V := V) (Q := M19) (j := j) (x := M19 10 9 + ((V 2) 0 d)) hJ S I hj 12 (by decide) (by decide) 9 rfl in_X3_pass_X3 (List.mem_of_getElem? (i := 14) rfl) dX3_pass_279 (fun H locs M24 hM24 I => ?_)
          refine lv_iconst (v := 0) S.1 S.2.1 dX3_pass_282 (by decide) ?_
          refine lv_istore (lv' := [(4, .int 0), (0, .ref (ad (6 + j))), (1, .int (nI d)), (2, .int (Q 10 12))]) S.1 S.2.1 dX3_pass_283 hl (by decide) rfl (fun ls hl => ?_)
          have hst_M19 : aR_st (V 3) M19 := by rw [hM19]; exact aR_st_up (by decide) (by decide) (by decide) hst'
          have hst_M24 : aR_st (V 3) M24 := by rw [hM24]; exact aR_st_up (by decide) (by decide) (by decide) hst_M19
          exact L285 n 0 M24 (by omega) hst_M24 (by subst hM24; subst hM19; exact Eq.trans (congrArg (aR_leakAll n 0) (show _ = aR_springQ n Q' (V 2 0 d) from by rw [aR_springQ, if_pos c20]; rfl)) (congrArg (fun z => aR_leakAll n 0 (aR_springQ n z (V 2 0 d))) hq)) _ _ I ls (lv_sub hl [0, 1, 2, 3] rfl)
      · have c18 : i < n := Nat.lt_of_not_le (fun z9 => c18 ((nI_leI (a := n) (b := i) (by omega) (by omega)).mpr z9))
        exfalso; omega
    | succ k ih =>
      intro i Q' hk hst' hq H locs I ls hl
      refine lv_iload S.1 S.2.1 dX3_pass_185 (lv_at hl 0 rfl) ?_
      refine lv_aload_n S.1 S.2.1 dX3_pass_187 rfl (lv_at hl 1 rfl) ?_
      refine aR_getS (j := j) (v := .ref (ad 0)) S I hj 16 (by decide) in_X3_pass_X3 (List.mem_of_getElem? (i := 3) rfl) rfl dX3_pass_188 ?_
      refine aR_getMN (v := .int (nI n)) S I 3 (by decide) in_X3_pass_X4 (hE.1 _ (List.mem_of_getElem? (i := 17) rfl)) (by first | (rw [aq_ug_n _ _ (by first | decide | omega), hn]; done) | (rw [aq_ug_n _ _ (by first | decide | omega), hn]; rfl)) dX3_pass_191 ?_
      refine lv_icmp_ge (tgt := 209) S.1 S.2.1 dX3_pass_194 (by decide) (fun c25 => ?_) (fun c25 => ?_)
      · have c25 : n ≤ i := (nI_leI (a := n) (b := i) (by omega) (by omega)).mp c25
        exfalso; omega
      · have c25 : i < n := Nat.lt_of_not_le (fun z9 => c25 ((nI_leI (a := n) (b := i) (by omega) (by omega)).mpr z9))
        refine lv_aload_n S.1 S.2.1 dX3_pass_197 rfl (lv_at hl 1 rfl) ?_
        refine lv_iload S.1 S.2.1 dX3_pass_198 (lv_at hl 0 rfl) ?_
        refine ar_callVv (As := [.int (nI i)]) (rest := []) S hE (c_X3_grind l hJ (V := V) (th := th) (Q := Q') (j := j) hj hst' (n := n) hn hn20 (a := i) (by omega)) (cwV 1 S.2.2.2.2 gX3_pass_X3_grind rfl rfl rfl (by decide +kernel) ⟨Nat.le_of_ble_eq_true rfl, Nat.le_of_ble_eq_true rfl⟩) (aR_recvS (j := j) I hj) I hl.1 dX3_pass_200 rfl rfl (Nat.le_of_ble_eq_true rfl) ⟨by first | decide | (dsimp only; omega), by first | decide | (dsimp only; omega)⟩ (fun H locs I hk9 => ?_)
        obtain ⟨M26, hM26⟩ : ∃ z9 : aq_Q, z9 = aR_grindQ n Q' i := ⟨_, rfl⟩
        rw [← hM26] at I
        refine lv_iinc (v := nI (i + 1)) (lv' := [(4, .int (nI (i + 1))), (0, .ref (ad (6 + j))), (1, .int (nI d)), (2, .int (Q 10 12))]) S.1 S.2.1 dX3_pass_203 hl (k := 0) rfl (nI_1 _) (by decide) rfl (fun ls hl => ?_)
        refine lv_goto (tgt := 185) S.1 S.2.1 dX3_pass_206 (by decide) ?_
        have hst_M26 : aR_st (V 3) M26 := by rw [hM26]; exact aR_st_grind hst'
        exact ih (i + 1) M26 (by omega) hst_M26 (by subst hM26; exact hq) _ _ I ls (lv_sub hl [0, 1, 2, 3] rfl)
  have L81 : ∀ (k : Nat) (x : Int32) (Q' : aq_Q), (x = nI k - 1) → (k ≤ n) → (aR_st (V 3) Q') → (aR_sendAll n k Q' = (aR_sendAll n n (aq_drinkQ Q (V 2 1 d)))) → ∀ (H : Heap) (locs : List Loc), aq_I D (aR_t cI) (aq_A 22 ad) (aR_w ad cI th (aq_ug V j (Q'))) s H locs → ∀ ls : Array Slot, lv_has ls 6 [(4, .int x), (0, .ref (ad (6 + j))), (1, .int (nI d)), (2, .int (Q 10 12))] → W p l e ({ frames := 3, cells := 0, slots := 0, locals := 66 } : Room) s m (([.ref (ad (6 + j))] : List Value).toArray) below meth c H locs 0 0 (MQ below ((aq_Qi D (aR_t cI) 22 ad (aR_hourD n (V 2) (h % 24) Q 10 12 - Q 10 12) (aR_w ad cI th (aq_ug V j (aR_hourD n (V 2) (h % 24) Q)))) s.heap.size) (([.ref (ad (6 + j))] : List Value).toArray) s 0 0 (aq_A 22 ad s.heap.size)) (F0 m 81 ls []) := by
    intro k
    induction k with
    | zero =>
      intro x Q' hx hk hst' hq H locs I ls hl
      refine lv_iload S.1 S.2.1 dX3_pass_81 (lv_at hl 0 rfl) ?_
      refine lv_if_lt (tgt := 182) S.1 S.2.1 dX3_pass_83 (by decide) (fun c27 => ?_) (fun c27 => ?_)
      · refine lv_iconst (v := 0) S.1 S.2.1 dX3_pass_182 (by decide) ?_
        refine lv_istore (lv' := [(4, .int 0), (0, .ref (ad (6 + j))), (1, .int (nI d)), (2, .int (Q 10 12))]) S.1 S.2.1 dX3_pass_183 hl (by decide) rfl (fun ls hl => ?_)
        exact L185 n 0 Q' (by omega) hst' (congrArg (aR_grindAll n n 0) hq) _ _ I ls (lv_sub hl [0, 1, 2, 3] rfl)
      · exact absurd (by rw [hx]; decide) c27
    | succ k ih =>
      intro x Q' hx hk hst' hq H locs I ls hl
      rw [nI_pred] at hx; subst hx
      refine lv_iload S.1 S.2.1 dX3_pass_81 (lv_at hl 0 rfl) ?_
      refine lv_if_lt (tgt := 182) S.1 S.2.1 dX3_pass_83 (by decide) (fun c28 => ?_) (fun c28 => ?_)
      · have c28 : k < 0 := (nI_ltI (a := k) (b := 0) (by omega) (by omega)).mp c28
        exfalso; omega
      · have c28 : 0 ≤ k := Nat.le_of_not_lt (fun z9 => c28 ((nI_ltI (a := k) (b := 0) (by omega) (by omega)).mpr z9))
        refine lv_aload_n S.1 S.2.1 dX3_pass_86 rfl (lv_at hl 1 rfl) ?_
        refine aR_getS (j := j) (v := .ref (ad (8 + 7 * j))) S I hj 4 (by decide) in_X3_pass_X3 (List.mem_of_getElem? (i := 10) rfl) rfl dX3_pass_87 ?_
        refine lv_iload S.1 S.2.1 dX3_pass_90 (lv_at hl 0 rfl) ?_
        refine aR_ald (j := j) (a := 0) (f := 2) (k := k) (x := Q' 2 k) S I hj (by decide) rfl rfl (by omega) (by rw [aq_ug_s]) dX3_pass_92 ?_
        refine lv_aload_n S.1 S.2.1 dX3_pass_93 rfl (lv_at hl 1 rfl) ?_
        refine aR_getS (j := j) (v := .ref (ad 0)) S I hj 16 (by decide) in_X3_pass_X3 (List.mem_of_getElem? (i := 3) rfl) rfl dX3_pass_94 ?_
        refine lv_iload S.1 S.2.1 dX3_pass_97 (lv_at hl 0 rfl) ?_
        refine ar_callNi (As := [.int (nI k)]) (rest := [.int (Q' 2 k)]) S hE (c_X4_rate l hJ (V := (aq_ug V j (Q'))) (th := th) (Q := Q') (by rw [aq_ug_n _ _ (by first | decide | omega)]; exact hst') (n := n) (by rw [aq_ug_n _ _ (by first | decide | omega)]; exact hn) hn20 (a := k) (by omega)) ⟨va_cnB 1 S.2.2.2.2 (goodIn_r _ [21, 22, 6, 7, 8, 23, 24, 25, 19, 26, 27, 28, 59, 60, 61, 62, 63, 64, 65, 66, 67] (by decide +kernel) (by decide +kernel)) rfl rfl rfl hE.2 (S.2.2.2.2 _ (List.mem_of_getElem? (i := 19) rfl)) (by decide +kernel) ⟨Nat.le_of_ble_eq_true rfl, Nat.le_of_ble_eq_true rfl⟩, S.2.2.2.2 _ (List.mem_of_getElem? (i := 18) rfl), S.2.2.2.2 _ (List.mem_of_getElem? (i := 20) rfl)⟩ (aR_recvM I) I hl.1 dX3_pass_99 rfl rfl (Nat.le_of_ble_eq_true rfl) ⟨by first | decide | (dsimp only; omega), by first | decide | (dsimp only; omega)⟩ (fun H locs I hk9 => ?_)
        refine aq_mmin S hl.1 (List.mem_of_getElem? (i := 5) rfl) (List.mem_of_getElem? (i := 6) rfl) (List.mem_of_getElem? (i := 7) rfl) (List.mem_of_getElem? (i := 8) rfl) (by decide) (Nat.le_of_ble_eq_true rfl) (by decide) (by decide) dX3_pass_102 ?_
        refine lv_topi (fun x29 (ex29 : x29 = aq_mn (Q' 2 k) (aq_rate n Q' k)) => ?_)
        refine lv_istore (lv' := [(5, .int x29), (4, .int (nI k)), (0, .ref (ad (6 + j))), (1, .int (nI d)), (2, .int (Q 10 12))]) S.1 S.2.1 dX3_pass_105 hl (by decide) rfl (fun ls hl => ?_)
        refine lv_aload_n S.1 S.2.1 dX3_pass_107 rfl (lv_at hl 2 rfl) ?_
        refine aR_getS (j := j) (v := .ref (ad (14 + 7 * j))) S I hj 10 (by decide) in_X3_pass_X3 (List.mem_of_getElem? (i := 11) rfl) rfl dX3_pass_108 ?_
        refine lv_iload S.1 S.2.1 dX3_pass_111 (lv_at hl 1 rfl) ?_
        refine lv_aload_n S.1 S.2.1 dX3_pass_113 rfl (lv_at hl 2 rfl) ?_
        refine aR_getS (j := j) (v := .ref (ad 0)) S I hj 16 (by decide) in_X3_pass_X3 (List.mem_of_getElem? (i := 3) rfl) rfl dX3_pass_114 ?_
        refine aR_getMN (v := .ref (ad 5)) S I 6 (by decide) in_X3_pass_X4 (hE.1 _ (List.mem_of_getElem? (i := 20) rfl)) rfl dX3_pass_117 ?_
        refine lv_iload S.1 S.2.1 dX3_pass_120 (lv_at hl 1 rfl) ?_
        refine aR_fld (t := 2) (f := 6) (k := k) (x := Q' 6 k) S I (by decide) rfl rfl (by omega) (by rw [aq_ug_n _ _ (by first | decide | omega)]; exact hst'.2.2 _) dX3_pass_122 ?_
        refine lv_iload S.1 S.2.1 dX3_pass_123 (lv_at hl 0 rfl) ?_
        refine lv_aload_n S.1 S.2.1 dX3_pass_125 rfl (lv_at hl 2 rfl) ?_
        refine aR_getS (j := j) (v := .ref (ad (12 + 7 * j))) S I hj 8 (by decide) in_X3_pass_X3 (List.mem_of_getElem? (i := 12) rfl) rfl dX3_pass_126 ?_
        refine lv_iload S.1 S.2.1 dX3_pass_129 (lv_at hl 1 rfl) ?_
        refine aR_ald (j := j) (a := 4) (f := 7) (k := k) (x := Q' 7 k) S I hj (by decide) rfl rfl (by omega) (by rw [aq_ug_s]) dX3_pass_131 ?_
        refine lv_imul S.1 S.2.1 dX3_pass_132 ?_
        refine lv_bipush (v := 10) S.1 S.2.1 dX3_pass_133 (by decide) ?_
        refine lv_idiv S.1 S.2.1 dX3_pass_135 (by decide) ?_
        refine aq_mmin S hl.1 (List.mem_of_getElem? (i := 5) rfl) (List.mem_of_getElem? (i := 6) rfl) (List.mem_of_getElem? (i := 7) rfl) (List.mem_of_getElem? (i := 8) rfl) (by decide) (Nat.le_of_ble_eq_true rfl) (by decide) (by decide) dX3_pass_136 ?_
        refine lv_topi (fun x30 (ex30 : x30 = aq_mn (Q' 6 k) ((x29 * (Q' 7 k)) / 10)) => ?_)
        refine aR_ast (V := V) (Q := Q') (j := j) (a := 6) (f := 9) (k := k) (x := x30) hJ S I hj (by decide) rfl rfl (by omega) dX3_pass_139 (fun H locs M31 hM31 I => ?_)
        refine lv_aload_n S.1 S.2.1 dX3_pass_140 rfl (lv_at hl 2 rfl) ?_
        refine aR_getS (j := j) (v := .ref (ad (8 + 7 * j))) S I hj 4 (by decide) in_X3_pass_X3 (List.mem_of_getElem? (i := 10) rfl) rfl dX3_pass_141 ?_
        refine lv_iload S.1 S.2.1 dX3_pass_144 (lv_at hl 1 rfl) ?_
        refine lv_dup2_11 S.1 S.2.1 dX3_pass_146 rfl rfl ?_
        refine aR_ald (j := j) (a := 0) (f := 2) (k := k) (x := M31 2 k) S I hj (by decide) rfl rfl (by omega) (by rw [aq_ug_s]) dX3_pass_147 ?_
        refine lv_aload_n S.1 S.2.1 dX3_pass_148 rfl (lv_at hl 2 rfl) ?_
        refine aR_getS (j := j) (v := .ref (ad (14 + 7 * j))) S I hj 10 (by decide) in_X3_pass_X3 (List.mem_of_getElem? (i := 11) rfl) rfl dX3_pass_149 ?_
        refine lv_iload S.1 S.2.1 dX3_pass_152 (lv_at hl 1 rfl) ?_
        refine aR_ald (j := j) (a := 6) (f := 9) (k := k) (x := M31 9 k) S I hj (by decide) rfl rfl (by omega) (by rw [aq_ug_s]) dX3_pass_154 ?_
        refine lv_aload_n S.1 S.2.1 dX3_pass_155 rfl (lv_at hl 2 rfl) ?_
        refine lv_iload S.1 S.2.1 dX3_pass_156 (lv_at hl 1 rfl) ?_
        refine lv_iconst (v := 1) S.1 S.2.1 dX3_pass_158 (by decide) ?_
        refine lv_iadd S.1 S.2.1 dX3_pass_159 ?_
        refine lv_topi (fun x32 (ex32 : x32 = nI k + 1) => ?_)
        rw [nI_1] at ex32; subst ex32
        refine lv_iload S.1 S.2.1 dX3_pass_160 (lv_at hl 0 rfl) ?_
        refine lv_aload_n S.1 S.2.1 dX3_pass_162 rfl (lv_at hl 2 rfl) ?_
        refine aR_getS (j := j) (v := .ref (ad (14 + 7 * j))) S I hj 10 (by decide) in_X3_pass_X3 (List.mem_of_getElem? (i := 11) rfl) rfl dX3_pass_163 ?_
        refine lv_iload S.1 S.2.1 dX3_pass_166 (lv_at hl 1 rfl) ?_
        refine aR_ald (j := j) (a := 6) (f := 9) (k := k) (x := M31 9 k) S I hj (by decide) rfl rfl (by omega) (by rw [aq_ug_s]) dX3_pass_168 ?_
        refine lv_isub S.1 S.2.1 dX3_pass_169 ?_
        have hst_M31 : aR_st (V 3) M31 := by rw [hM31]; exact aR_st_up (by decide) (by decide) (by decide) hst'
        refine ar_callVi (As := [.int (nI (k + 1)), .int (x29 - M31 9 k)]) (rest := [.int (M31 9 k), .int (M31 2 k), .int (nI k), .ref (ad (8 + 7 * j))]) S hE (c_X3_come l hJ (V := V) (th := th) (Q := M31) (j := j) hj hst_M31 (n := n) hn hn20 (a := k + 1) (by omega) (x29 - M31 9 k)) (cwV 2 S.2.2.2.2 gX3_pass_X3_come rfl rfl rfl (by decide +kernel) ⟨Nat.le_of_ble_eq_true rfl, Nat.le_of_ble_eq_true rfl⟩) (aR_recvS (j := j) I hj) I hl.1 dX3_pass_170 rfl rfl (Nat.le_of_ble_eq_true rfl) ⟨by first | decide | (dsimp only; omega), by first | decide | (dsimp only; omega)⟩ (fun H locs I hk9 => ?_)
        obtain ⟨M33, hM33⟩ : ∃ z9 : aq_Q, z9 = aq_pourQ n M31 (k + 1) (x29 - M31 9 k) := ⟨_, rfl⟩
        rw [← hM33] at I
        refine lv_topi (fun x34 (ex34 : x34 = aq_pourR n M31 (k + 1) (x29 - M31 9 k)) => ?_)
        refine lv_iadd S.1 S.2.1 dX3_pass_173 ?_
        refine lv_isub S.1 S.2.1 dX3_pass_174 ?_
        refine aR_ast (V := V) (Q := M33) (j := j) (a := 0) (f := 2) (k := k) (x := M31 2 k - (M31 9 k + x34)) hJ S I hj (by decide) rfl rfl (by omega) dX3_pass_175 (fun H locs M35 hM35 I => ?_)
        refine lv_iinc (v := nI k - 1) (lv' := [(4, .int (nI k - 1)), (5, .int x29), (0, .ref (ad (6 + j))), (1, .int (nI d)), (2, .int (Q 10 12))]) S.1 S.2.1 dX3_pass_176 hl (k := 1) rfl (by rw [Int32.sub_eq_add_neg]; rfl) (by decide) rfl (fun ls hl => ?_)
        refine lv_goto (tgt := 81) S.1 S.2.1 dX3_pass_179 (by decide) ?_
        have hst_M33 : aR_st (V 3) M33 := by rw [hM33]; exact aR_st_pour hst_M31
        have hst_M35 : aR_st (V 3) M35 := by rw [hM35]; exact aR_st_up (by decide) (by decide) (by decide) hst_M33
        exact ih (nI k - 1) M35 rfl (by omega) hst_M35 (by subst hM35; subst ex34; subst hM33; subst hM31; subst ex30; subst ex29; exact hq) _ _ I ls (lv_sub hl [0, 2, 3, 4] rfl)
  refine lv_aload_n S.1 S.2.1 dX3_pass_0 rfl (lv_at hl 0 rfl) ?_
  refine aR_getS (j := j) (v := .int (nI h)) S I hj 0 (by decide) in_X3_pass_X3 (List.mem_of_getElem? (i := 1) rfl) (by first | (rw [aq_ug_s, hh]; done) | (rw [aq_ug_s, hh]; rfl)) dX3_pass_1 ?_
  refine lv_bipush (v := 24) S.1 S.2.1 dX3_pass_4 (by decide) ?_
  refine lv_irem S.1 S.2.1 dX3_pass_6 (by decide) ?_
  refine lv_topi (fun x36 (ex36 : x36 = nI h - nI h / nI 24 * nI 24) => ?_)
  rw [pk_rem (by omega) (by omega) (by omega), ← hd] at ex36; subst ex36
  refine lv_istore_n (lv' := [(1, .int (nI d)), (0, .ref (ad (6 + j)))]) S.1 S.2.1 dX3_pass_7 rfl hl (by decide) rfl (fun ls hl => ?_)
  refine lv_aload_n S.1 S.2.1 dX3_pass_8 rfl (lv_at hl 1 rfl) ?_
  refine aR_getS (j := j) (v := .int (Q 10 12)) S I hj 15 (by decide) in_X3_pass_X3 (List.mem_of_getElem? (i := 2) rfl) (by first | (rw [aq_ug_s]; done) | (rw [aq_ug_s]; rfl)) dX3_pass_9 ?_
  refine lv_istore_n (lv' := [(2, .int (Q 10 12)), (1, .int (nI d)), (0, .ref (ad (6 + j)))]) S.1 S.2.1 dX3_pass_12 rfl hl (by decide) rfl (fun ls hl => ?_)
  refine lv_aload_n S.1 S.2.1 dX3_pass_13 rfl (lv_at hl 2 rfl) ?_
  refine aR_getS (j := j) (v := .ref (ad 0)) S I hj 16 (by decide) in_X3_pass_X3 (List.mem_of_getElem? (i := 3) rfl) rfl dX3_pass_14 ?_
  refine aR_getMN (v := .ref (ad 2)) S I 2 (by decide) in_X3_pass_X4 (hE.1 _ (List.mem_of_getElem? (i := 19) rfl)) rfl dX3_pass_17 ?_
  refine lv_iload_n S.1 S.2.1 dX3_pass_20 rfl (lv_at hl 1 rfl) ?_
  refine aR_tld (t := 1) (k := d) (x := (V 2) 1 d) S I (by decide) rfl (by omega) (by rw [aq_ug_n _ _ (by first | decide | omega)]) dX3_pass_21 ?_
  refine lv_aload_n S.1 S.2.1 dX3_pass_22 rfl (lv_at hl 2 rfl) ?_
  refine aR_getS (j := j) (v := .int (Q 10 7)) S I hj 1 (by decide) in_X3_pass_X3 (List.mem_of_getElem? (i := 4) rfl) (by first | (rw [aq_ug_s]; done) | (rw [aq_ug_s]; rfl)) dX3_pass_23 ?_
  refine aq_mmin S hl.1 (List.mem_of_getElem? (i := 5) rfl) (List.mem_of_getElem? (i := 6) rfl) (List.mem_of_getElem? (i := 7) rfl) (List.mem_of_getElem? (i := 8) rfl) (by decide) (Nat.le_of_ble_eq_true rfl) (by decide) (by decide) dX3_pass_26 ?_
  refine lv_istore_n (lv' := [(3, .int (aq_mn ((V 2) 1 d) (Q 10 7))), (2, .int (Q 10 12)), (1, .int (nI d)), (0, .ref (ad (6 + j)))]) S.1 S.2.1 dX3_pass_29 rfl hl (by decide) rfl (fun ls hl => ?_)
  refine lv_aload_n S.1 S.2.1 dX3_pass_30 rfl (lv_at hl 3 rfl) ?_
  refine lv_dup S.1 S.2.1 dX3_pass_31 rfl ?_
  refine aR_getS (j := j) (v := .int (Q 10 7)) S I hj 1 (by decide) in_X3_pass_X3 (List.mem_of_getElem? (i := 4) rfl) (by first | (rw [aq_ug_s]; done) | (rw [aq_ug_s]; rfl)) dX3_pass_32 ?_
  refine lv_iload_n S.1 S.2.1 dX3_pass_35 rfl (lv_at hl 0 rfl) ?_
  refine lv_isub S.1 S.2.1 dX3_pass_36 ?_
  refine lv_topi (fun x37 (ex37 : x37 = Q 10 7 - (aq_mn ((V 2) 1 d) (Q 10 7))) => ?_)
  refine aR_putS (V := V) (Q := Q) (j := j) (x := x37) hJ S I hj 1 (by decide) (by decide) 7 rfl in_X3_pass_X3 (List.mem_of_getElem? (i := 4) rfl) dX3_pass_37 (fun H locs M38 hM38 I => ?_)
  refine lv_aload_n S.1 S.2.1 dX3_pass_40 rfl (lv_at hl 3 rfl) ?_
  refine lv_dup S.1 S.2.1 dX3_pass_41 rfl ?_
  refine aR_getS (j := j) (v := .int (M38 10 11)) S I hj 14 (by decide) in_X3_pass_X3 (List.mem_of_getElem? (i := 9) rfl) (by first | (rw [aq_ug_s]; done) | (rw [aq_ug_s]; rfl)) dX3_pass_42 ?_
  refine lv_iload_n S.1 S.2.1 dX3_pass_45 rfl (lv_at hl 0 rfl) ?_
  refine lv_iadd S.1 S.2.1 dX3_pass_46 ?_
  refine lv_topi (fun x39 (ex39 : x39 = M38 10 11 + (aq_mn ((V 2) 1 d) (Q 10 7))) => ?_)
  refine aR_putS (V := V) (Q := M38) (j := j) (x := x39) hJ S I hj 14 (by decide) (by decide) 11 rfl in_X3_pass_X3 (List.mem_of_getElem? (i := 9) rfl) dX3_pass_47 (fun H locs M40 hM40 I => ?_)
  refine lv_aload_n S.1 S.2.1 dX3_pass_50 rfl (lv_at hl 3 rfl) ?_
  refine lv_dup S.1 S.2.1 dX3_pass_51 rfl ?_
  refine aR_getS (j := j) (v := .int (M40 10 12)) S I hj 15 (by decide) in_X3_pass_X3 (List.mem_of_getElem? (i := 2) rfl) (by first | (rw [aq_ug_s]; done) | (rw [aq_ug_s]; rfl)) dX3_pass_52 ?_
  refine lv_aload_n S.1 S.2.1 dX3_pass_55 rfl (lv_at hl 3 rfl) ?_
  refine aR_getS (j := j) (v := .ref (ad 0)) S I hj 16 (by decide) in_X3_pass_X3 (List.mem_of_getElem? (i := 3) rfl) rfl dX3_pass_56 ?_
  refine aR_getMN (v := .ref (ad 2)) S I 2 (by decide) in_X3_pass_X4 (hE.1 _ (List.mem_of_getElem? (i := 19) rfl)) rfl dX3_pass_59 ?_
  refine lv_iload_n S.1 S.2.1 dX3_pass_62 rfl (lv_at hl 2 rfl) ?_
  refine aR_tld (t := 1) (k := d) (x := (V 2) 1 d) S I (by decide) rfl (by omega) (by rw [aq_ug_n _ _ (by first | decide | omega)]) dX3_pass_63 ?_
  refine lv_iload_n S.1 S.2.1 dX3_pass_64 rfl (lv_at hl 0 rfl) ?_
  refine lv_isub S.1 S.2.1 dX3_pass_65 ?_
  refine lv_topi (fun x41 (ex41 : x41 = ((V 2) 1 d) - (aq_mn ((V 2) 1 d) (Q 10 7))) => ?_)
  refine lv_iadd S.1 S.2.1 dX3_pass_66 ?_
  refine aR_putS (V := V) (Q := M40) (j := j) (x := M40 10 12 + x41) hJ S I hj 15 (by decide) (by decide) 12 rfl in_X3_pass_X3 (List.mem_of_getElem? (i := 2) rfl) dX3_pass_67 (fun H locs M42 hM42 I => ?_)
  refine lv_aload_n S.1 S.2.1 dX3_pass_70 rfl (lv_at hl 3 rfl) ?_
  refine aR_getS (j := j) (v := .ref (ad 0)) S I hj 16 (by decide) in_X3_pass_X3 (List.mem_of_getElem? (i := 3) rfl) rfl dX3_pass_71 ?_
  refine aR_getMN (v := .int (nI n)) S I 3 (by decide) in_X3_pass_X4 (hE.1 _ (List.mem_of_getElem? (i := 17) rfl)) (by first | (rw [aq_ug_n _ _ (by first | decide | omega), hn]; done) | (rw [aq_ug_n _ _ (by first | decide | omega), hn]; rfl)) dX3_pass_74 ?_
  refine lv_iconst (v := 1) S.1 S.2.1 dX3_pass_77 (by decide) ?_
  refine lv_isub S.1 S.2.1 dX3_pass_78 ?_
  refine lv_istore (lv' := [(4, .int (nI n - 1)), (3, .int (aq_mn ((V 2) 1 d) (Q 10 7))), (2, .int (Q 10 12)), (1, .int (nI d)), (0, .ref (ad (6 + j)))]) S.1 S.2.1 dX3_pass_79 hl (by decide) rfl (fun ls hl => ?_)
  have hst_M38 : aR_st (V 3) M38 := by rw [hM38]; exact aR_st_up (by decide) (by decide) (by decide) hst
  have hst_M40 : aR_st (V 3) M40 := by rw [hM40]; exact aR_st_up (by decide) (by decide) (by decide) hst_M38
  have hst_M42 : aR_st (V 3) M42 := by rw [hM42]; exact aR_st_up (by decide) (by decide) (by decide) hst_M40
  exact L81 n (nI n - 1) M42 rfl (by omega) hst_M42 (by subst hM42; subst ex41; subst hM40; subst ex39; subst hM38; subst ex37; rfl) _ _ I ls (lv_sub hl [0, 4, 3, 2] rfl)
