theorem aR_nfw : nativeFrameWords "java/lang/System" "arraycopy" 5 + 11 ≤ 64 := by decide +kernel
set_option maxHeartbeats 4000000 in
set_option maxRecDepth 100000 in
/-- State.copy: a row of the state 0 into the same of the state 1 -/
theorem c_X3_copy (l : Launch) {D : va_G} {ad : Nat → Nat} {cI : ClassId} {th : Int32} (hJ : aq_J 22 ad) {V : aq_V} {Q Y : aq_Q} {a f : Nat} (ha : a < 7) (hf : aR_rf a = f) : ar_Met l yX3_copy wsX3_copy ({ frames := 1, cells := 0, slots := 0, locals := 64 }) D (aR_t cI) 22 ad [.ref (ad 7), .ref (ad (8 + a + 7 * 0)), .ref (ad (8 + a + 7 * 1))] (aR_w ad cI th (aq_ug (aq_ug V 0 Q) 1 Y)) (aq_Qv D (aR_t cI) 22 ad (aR_w ad cI th (aq_ug (aq_ug V 0 Q) 1 (aR_cp Q Y f)))) 0 0 := by
  refine ar_enter (cc := cX3_copy) (maxL := 3) (ret := none) (by decide) rfl (Nat.le_of_ble_eq_true rfl) ?_
  intro p e s m below meth c ls S hr hlocks hE I hl
  have S : CallFix p m c cX3_copy 3 s _ wsX3_copy RX3 := S
  have hl : lv_has ls 3 [(0, .ref (ad 7)), (1, .ref (ad (8 + a + 7 * 0))), (2, .ref (ad (8 + a + 7 * 1)))] := hl
  refine lv_aload_n S.1 S.2.1 dX3_copy_0 rfl (lv_at hl 1 rfl) ?_
  refine lv_iconst (v := 0) S.1 S.2.1 dX3_copy_1 (by decide) ?_
  refine lv_aload_n S.1 S.2.1 dX3_copy_2 rfl (lv_at hl 2 rfl) ?_
  refine lv_iconst (v := 0) S.1 S.2.1 dX3_copy_3 (by decide) ?_
  refine lv_bipush (v := 20) S.1 S.2.1 dX3_copy_4 (by decide) ?_
  subst hf
  refine va_copyi (D := D) S.1 S.2.1 (S.2.2.1.trans hl.1.symm) S.2.2.2.1 (S.2.2.2.2 _ (List.mem_of_getElem? (i := 1) rfl)) (S.2.2.2.2 _ (List.mem_of_getElem? (i := 2) rfl)) (S.2.2.2.2 _ (List.mem_of_getElem? (i := 3) rfl)) (S.2.2.2.2 _ (List.mem_of_getElem? (i := 4) rfl)) I.1 I.2.1 (aq_D hJ s.heap.size _) I.2.2 (8 + a + 7 * 0) (8 + a + 7 * 1) 0 0 (c0 := cI) (c1 := cI) (n0 := 20) (n1 := 20) (f := Q (aR_rf a)) (g := Y (aR_rf a)) (ty := .int) (by rw [aq_w_at (by omega), aR_eA ha, aq_ug_n _ _ (by decide), aq_ug_s]) (by rw [aq_w_at (by omega), aR_eA ha, aq_ug_s]) rfl rfl rfl (by decide) (by decide) (by decide) (by decide) (by decide) (fun i _ => rfl) (by decide) aR_nfw dX3_copy_6 (fun H1 locs1 hP hD hS => ?_)
  have e1 : (0 : Int32).toNatClampNeg = 0 := rfl
  have e2 : (20 : Int32).toNatClampNeg = 20 := rfl
  rw [e1, e2, aq_w_set (e' := aR_e ad cI th (aq_ug (aq_ug V 0 Q) 1 (aR_cp Q Y (aR_rf a)))) (by omega) ?h1 ?h2] at hP
  · have I : aq_I D (aR_t cI) (aq_A 22 ad) (aR_w ad cI th (aq_ug (aq_ug V 0 Q) 1 (aR_cp Q Y (aR_rf a)))) s H1 locs1 := ⟨I.1, hP, hS⟩
    exact aq_vret S.1 S.2.1 hr hlocks I dX3_copy_9 (by decide) (by decide) rfl
  case h1 =>
    rw [aR_eA ha, aq_ug_s]
    congr 4
    funext k
    simp [aR_cp, va_cpy]
  case h2 =>
    intro z hz hne
    refine aR_same (fun h => ⟨rfl, ?_⟩) (fun _ _ => ?_) (fun a b => ?_) (fun a1 b1 k h4 => ?_) (fun a1 => ?_)
    · rfl
    · rfl
    · rfl
    · by_cases h : z - 6 = 1
      · rw [h, aq_ug_s, aq_ug_s]
        have hf : ¬ (10 = aR_rf a) := by unfold aR_rf; split <;> omega
        simp [aR_cp, hf]
      · rw [aq_ug_n _ _ h, aq_ug_n _ _ h]
    · by_cases h : (z - 8) / 7 = 1
      · rw [h, aq_ug_s, aq_ug_s]
        have hf : ¬ (aR_rf ((z - 8) % 7) = aR_rf a) := by unfold aR_rf; split <;> split <;> omega
        funext i
        simp [aR_cp, hf]
      · rw [aq_ug_n _ _ h, aq_ug_n _ _ h]
theorem in_X3_over_X3 : ∀ w ∈ wsX30, w ∈ wsX3_over := fun _ h => List.mem_cons_of_mem _ (List.mem_append_left _ (List.mem_append_right _ h))
theorem in_X3_over_X4 : ∀ w ∈ wsX40, w ∈ wsX3_over := fun _ h => List.mem_cons_of_mem _ (List.mem_append_right _ h)
set_option maxHeartbeats 4000000 in
set_option maxRecDepth 100000 in
/-- X3_over -/
theorem c_X3_over (l : Launch) {D : va_G} {ad : Nat → Nat} {cI : ClassId} {th : Int32} (hJ : aq_J 22 ad) {V : aq_V} {Q : aq_Q} {j : Nat} (hj : j < 2) (hst : aR_st (V 3) Q) {n : Nat} (hn : V 3 10 3 = nI n) (hn20 : n ≤ 20) {a f : Nat} (ha : a < 7) (hf : aR_rf a = f) : ar_Met l yX3_over wsX3_over ({ frames := 0, cells := 0, slots := 0, locals := 0 }) D (aR_t cI) 22 ad [.ref (ad (6 + j)), .ref (ad (8 + a + 7 * j))] (aR_w ad cI th (aq_ug V j Q)) (aq_Qi D (aR_t cI) 22 ad (aq_over n f Q) (aR_w ad cI th (aq_ug V j Q))) 0 0 := by
  refine ar_enter (cc := cX3_over) (maxL := 4) (ret := some .int) (by decide) rfl (Nat.le_of_ble_eq_true rfl) ?_
  intro p e s m below meth c ls S hr hlocks hE I hl
  have S : CallFix p m c cX3_over 4 s _ wsX3_over RX3 := S
  have hl : lv_has ls 4 [(0, .ref (ad (6 + j))), (1, .ref (ad (8 + a + 7 * j)))] := hl
  have L4 : ∀ (k : Nat) (i : Nat) (x : Int32), (i + k = n) → (aq_sum (Q f) k i x = aq_over n f Q) → ∀ (H : Heap) (locs : List Loc), aq_I D (aR_t cI) (aq_A 22 ad) (aR_w ad cI th (aq_ug V j Q)) s H locs → ∀ ls : Array Slot, lv_has ls 4 [(3, .int (nI i)), (2, .int x), (0, .ref (ad (6 + j))), (1, .ref (ad (8 + a + 7 * j)))] → W p l e ({ frames := 0, cells := 0, slots := 0, locals := 0 } : Room) s m (([.ref (ad (6 + j)), .ref (ad (8 + a + 7 * j))] : List Value).toArray) below meth c H locs 0 0 (MQ below ((aq_Qi D (aR_t cI) 22 ad (aq_over n f Q) (aR_w ad cI th (aq_ug V j Q))) s.heap.size) (([.ref (ad (6 + j)), .ref (ad (8 + a + 7 * j))] : List Value).toArray) s 0 0 (aq_A 22 ad s.heap.size)) (F0 m 4 ls []) := by
    intro k
    induction k with
    | zero =>
      intro i x hk hq H locs I ls hl
      refine lv_iload_n S.1 S.2.1 dX3_over_4 rfl (lv_at hl 0 rfl) ?_
      refine lv_aload_n S.1 S.2.1 dX3_over_5 rfl (lv_at hl 2 rfl) ?_
      refine aR_getS (j := j) (v := .ref (ad 0)) S I hj 16 (by decide) in_X3_over_X3 (List.mem_of_getElem? (i := 1) rfl) rfl dX3_over_6 ?_
      refine aR_getMN (v := .int (nI n)) S I 3 (by decide) in_X3_over_X4 (hE.1 _ (List.mem_of_getElem? (i := 17) rfl)) (by first | (rw [aq_ug_n _ _ (by first | decide | omega), hn]; done) | (rw [aq_ug_n _ _ (by first | decide | omega), hn]; rfl)) dX3_over_9 ?_
      refine lv_icmp_ge (tgt := 27) S.1 S.2.1 dX3_over_12 (by decide) (fun c1 => ?_) (fun c1 => ?_)
      · have c1 : n ≤ i := (nI_leI (a := n) (b := i) (by omega) (by omega)).mp c1
        refine lv_iload_n S.1 S.2.1 dX3_over_27 rfl (lv_at hl 1 rfl) ?_
        exact aq_iret S.1 S.2.1 hr hlocks I dX3_over_28 (by decide) (by decide) hq rfl
      · have c1 : i < n := Nat.lt_of_not_le (fun z9 => c1 ((nI_leI (a := n) (b := i) (by omega) (by omega)).mpr z9))
        exfalso; omega
    | succ k ih =>
      intro i x hk hq H locs I ls hl
      refine lv_iload_n S.1 S.2.1 dX3_over_4 rfl (lv_at hl 0 rfl) ?_
      refine lv_aload_n S.1 S.2.1 dX3_over_5 rfl (lv_at hl 2 rfl) ?_
      refine aR_getS (j := j) (v := .ref (ad 0)) S I hj 16 (by decide) in_X3_over_X3 (List.mem_of_getElem? (i := 1) rfl) rfl dX3_over_6 ?_
      refine aR_getMN (v := .int (nI n)) S I 3 (by decide) in_X3_over_X4 (hE.1 _ (List.mem_of_getElem? (i := 17) rfl)) (by first | (rw [aq_ug_n _ _ (by first | decide | omega), hn]; done) | (rw [aq_ug_n _ _ (by first | decide | omega), hn]; rfl)) dX3_over_9 ?_
      refine lv_icmp_ge (tgt := 27) S.1 S.2.1 dX3_over_12 (by decide) (fun c2 => ?_) (fun c2 => ?_)
      · have c2 : n ≤ i := (nI_leI (a := n) (b := i) (by omega) (by omega)).mp c2
        exfalso; omega
      · have c2 : i < n := Nat.lt_of_not_le (fun z9 => c2 ((nI_leI (a := n) (b := i) (by omega) (by omega)).mpr z9))
        refine lv_iload_n S.1 S.2.1 dX3_over_15 rfl (lv_at hl 1 rfl) ?_
        refine lv_aload_n S.1 S.2.1 dX3_over_16 rfl (lv_at hl 3 rfl) ?_
        refine lv_iload_n S.1 S.2.1 dX3_over_17 rfl (lv_at hl 0 rfl) ?_
        refine aR_ald (j := j) (a := a) (f := f) (k := i) (x := Q f i) S I hj ha hf rfl (by omega) (by rw [aq_ug_s]) dX3_over_18 ?_
        refine lv_iadd S.1 S.2.1 dX3_over_19 ?_
        refine lv_istore_n (lv' := [(2, .int (x + Q f i)), (3, .int (nI i)), (0, .ref (ad (6 + j))), (1, .ref (ad (8 + a + 7 * j)))]) S.1 S.2.1 dX3_over_20 rfl hl (by decide) rfl (fun ls hl => ?_)
        refine lv_iinc (v := nI (i + 1)) (lv' := [(3, .int (nI (i + 1))), (2, .int (x + Q f i)), (0, .ref (ad (6 + j))), (1, .ref (ad (8 + a + 7 * j)))]) S.1 S.2.1 dX3_over_21 hl (k := 1) rfl (nI_1 _) (by decide) rfl (fun ls hl => ?_)
        refine lv_goto (tgt := 4) S.1 S.2.1 dX3_over_24 (by decide) ?_
        exact ih (i + 1) (x + Q f i) (by omega) (by exact hq) _ _ I ls (lv_sub hl [0, 1, 2, 3] rfl)
  refine lv_iconst (v := 0) S.1 S.2.1 dX3_over_0 (by decide) ?_
  refine lv_istore_n (lv' := [(2, .int 0), (0, .ref (ad (6 + j))), (1, .ref (ad (8 + a + 7 * j)))]) S.1 S.2.1 dX3_over_1 rfl hl (by decide) rfl (fun ls hl => ?_)
  refine lv_iconst (v := 0) S.1 S.2.1 dX3_over_2 (by decide) ?_
  refine lv_istore_n (lv' := [(3, .int 0), (2, .int 0), (0, .ref (ad (6 + j))), (1, .ref (ad (8 + a + 7 * j)))]) S.1 S.2.1 dX3_over_3 rfl hl (by decide) rfl (fun ls hl => ?_)
  exact L4 n 0 0 (by omega) rfl _ _ I ls (lv_sub hl [0, 1, 2, 3] rfl)
theorem in_X3_become_X3 : ∀ w ∈ wsX30, w ∈ wsX3_become := fun _ h => List.mem_cons_of_mem _ (List.mem_append_right _ h)
set_option maxHeartbeats 4000000 in
set_option maxRecDepth 100000 in
/-- X3_become -/
theorem c_X3_become (l : Launch) {D : va_G} {ad : Nat → Nat} {cI : ClassId} {th : Int32} (hJ : aq_J 22 ad) {V : aq_V} {Q Y : aq_Q} : ar_Met l yX3_become wsX3_become ({ frames := 2, cells := 0, slots := 0, locals := 86 }) D (aR_t cI) 22 ad [.ref (ad 7), .ref (ad 6)] (aR_w ad cI th (aq_ug (aq_ug V 0 Q) 1 Y)) (aq_Qv D (aR_t cI) 22 ad (aR_w ad cI th (aq_ug (aq_ug V 0 Q) 1 Q))) 0 0 := by
  refine ar_enter (cc := cX3_become) (maxL := 2) (ret := none) (by decide) rfl (Nat.le_of_ble_eq_true rfl) ?_
  intro p e s m below meth c ls S hr hlocks hE I hl
  have S : CallFix p m c cX3_become 2 s _ wsX3_become RX3 := S
  have hl : lv_has ls 2 [(0, .ref (ad 7)), (1, .ref (ad 6))] := hl
  refine lv_aload_n S.1 S.2.1 dX3_become_0 rfl (lv_at hl 0 rfl) ?_
  refine lv_aload_n S.1 S.2.1 dX3_become_1 rfl (lv_at hl 1 rfl) ?_
  refine aR_getS (j := 0) (v := .int (Q 10 4)) S I (by decide) 0 (by decide) in_X3_become_X3 (List.mem_of_getElem? (i := 1) rfl) (by first | (rw [aq_ug_n _ _ (by decide), aq_ug_s]; done) | (rw [aq_ug_n _ _ (by decide), aq_ug_s]; rfl)) dX3_become_2 ?_
  refine aR_putS (V := (aq_ug V 0 Q)) (Q := Y) (j := 1) (x := Q 10 4) hJ S I (by decide) 0 (by decide) (by decide) 4 rfl in_X3_become_X3 (List.mem_of_getElem? (i := 1) rfl) dX3_become_5 (fun H locs M1 hM1 I => ?_)
  refine lv_aload_n S.1 S.2.1 dX3_become_8 rfl (lv_at hl 0 rfl) ?_
  refine lv_aload_n S.1 S.2.1 dX3_become_9 rfl (lv_at hl 1 rfl) ?_
  refine aR_getS (j := 0) (v := .int (Q 10 7)) S I (by decide) 1 (by decide) in_X3_become_X3 (List.mem_of_getElem? (i := 2) rfl) (by first | (rw [aq_ug_n _ _ (by decide), aq_ug_s]; done) | (rw [aq_ug_n _ _ (by decide), aq_ug_s]; rfl)) dX3_become_10 ?_
  refine aR_putS (V := (aq_ug V 0 Q)) (Q := M1) (j := 1) (x := Q 10 7) hJ S I (by decide) 1 (by decide) (by decide) 7 rfl in_X3_become_X3 (List.mem_of_getElem? (i := 2) rfl) dX3_become_13 (fun H locs M2 hM2 I => ?_)
  refine lv_aload_n S.1 S.2.1 dX3_become_16 rfl (lv_at hl 0 rfl) ?_
  refine lv_aload_n S.1 S.2.1 dX3_become_17 rfl (lv_at hl 1 rfl) ?_
  refine aR_getS (j := 0) (v := .int (Q 10 6)) S I (by decide) 2 (by decide) in_X3_become_X3 (List.mem_of_getElem? (i := 3) rfl) (by first | (rw [aq_ug_n _ _ (by decide), aq_ug_s]; done) | (rw [aq_ug_n _ _ (by decide), aq_ug_s]; rfl)) dX3_become_18 ?_
  refine aR_putS (V := (aq_ug V 0 Q)) (Q := M2) (j := 1) (x := Q 10 6) hJ S I (by decide) 2 (by decide) (by decide) 6 rfl in_X3_become_X3 (List.mem_of_getElem? (i := 3) rfl) dX3_become_21 (fun H locs M3 hM3 I => ?_)
  refine lv_aload_n S.1 S.2.1 dX3_become_24 rfl (lv_at hl 0 rfl) ?_
  refine lv_aload_n S.1 S.2.1 dX3_become_25 rfl (lv_at hl 1 rfl) ?_
  refine aR_getS (j := 0) (v := .int (Q 10 5)) S I (by decide) 3 (by decide) in_X3_become_X3 (List.mem_of_getElem? (i := 4) rfl) (by first | (rw [aq_ug_n _ _ (by decide), aq_ug_s]; done) | (rw [aq_ug_n _ _ (by decide), aq_ug_s]; rfl)) dX3_become_26 ?_
  refine aR_putS (V := (aq_ug V 0 Q)) (Q := M3) (j := 1) (x := Q 10 5) hJ S I (by decide) 3 (by decide) (by decide) 5 rfl in_X3_become_X3 (List.mem_of_getElem? (i := 4) rfl) dX3_become_29 (fun H locs M4 hM4 I => ?_)
  refine lv_aload_n S.1 S.2.1 dX3_become_32 rfl (lv_at hl 0 rfl) ?_
  refine lv_aload_n S.1 S.2.1 dX3_become_33 rfl (lv_at hl 1 rfl) ?_
  refine aR_getS (j := 0) (v := .ref (ad (8 + 7 * 0))) S I (by decide) 4 (by decide) in_X3_become_X3 (List.mem_of_getElem? (i := 5) rfl) rfl dX3_become_34 ?_
  refine lv_aload_n S.1 S.2.1 dX3_become_37 rfl (lv_at hl 0 rfl) ?_
  refine aR_getS (j := 1) (v := .ref (ad (8 + 7 * 1))) S I (by decide) 4 (by decide) in_X3_become_X3 (List.mem_of_getElem? (i := 5) rfl) rfl dX3_become_38 ?_
  refine ar_callVv (As := [.ref (ad (8 + 7 * 0)), .ref (ad (8 + 7 * 1))]) (rest := []) S hE (c_X3_copy l hJ (V := V) (Q := Q) (Y := M4) (a := 0) (f := 2) (by decide) rfl) (cwV 2 S.2.2.2.2 gX3_become_X3_copy rfl rfl rfl (by decide +kernel) ⟨Nat.le_of_ble_eq_true rfl, Nat.le_of_ble_eq_true rfl⟩) (aR_recvS (j := 1) I (by decide)) I hl.1 dX3_become_41 rfl rfl (Nat.le_of_ble_eq_true rfl) ⟨by first | decide | (dsimp only; omega), by first | decide | (dsimp only; omega)⟩ (fun H locs I hk9 => ?_)
  obtain ⟨M5, hM5⟩ : ∃ z9 : aq_Q, z9 = aR_cp Q M4 2 := ⟨_, rfl⟩
  rw [← hM5] at I
  refine lv_aload_n S.1 S.2.1 dX3_become_44 rfl (lv_at hl 0 rfl) ?_
  refine lv_aload_n S.1 S.2.1 dX3_become_45 rfl (lv_at hl 1 rfl) ?_
  refine aR_getS (j := 0) (v := .ref (ad (9 + 7 * 0))) S I (by decide) 5 (by decide) in_X3_become_X3 (List.mem_of_getElem? (i := 6) rfl) rfl dX3_become_46 ?_
  refine lv_aload_n S.1 S.2.1 dX3_become_49 rfl (lv_at hl 0 rfl) ?_
  refine aR_getS (j := 1) (v := .ref (ad (9 + 7 * 1))) S I (by decide) 5 (by decide) in_X3_become_X3 (List.mem_of_getElem? (i := 6) rfl) rfl dX3_become_50 ?_
  refine ar_callVv (As := [.ref (ad (9 + 7 * 0)), .ref (ad (9 + 7 * 1))]) (rest := []) S hE (c_X3_copy l hJ (V := V) (Q := Q) (Y := M5) (a := 1) (f := 3) (by decide) rfl) (cwV 2 S.2.2.2.2 gX3_become_X3_copy rfl rfl rfl (by decide +kernel) ⟨Nat.le_of_ble_eq_true rfl, Nat.le_of_ble_eq_true rfl⟩) (aR_recvS (j := 1) I (by decide)) I hl.1 dX3_become_53 rfl rfl (Nat.le_of_ble_eq_true rfl) ⟨by first | decide | (dsimp only; omega), by first | decide | (dsimp only; omega)⟩ (fun H locs I hk9 => ?_)
  obtain ⟨M6, hM6⟩ : ∃ z9 : aq_Q, z9 = aR_cp Q M5 3 := ⟨_, rfl⟩
  rw [← hM6] at I
  refine lv_aload_n S.1 S.2.1 dX3_become_56 rfl (lv_at hl 0 rfl) ?_
  refine lv_aload_n S.1 S.2.1 dX3_become_57 rfl (lv_at hl 1 rfl) ?_
  refine aR_getS (j := 0) (v := .ref (ad (10 + 7 * 0))) S I (by decide) 6 (by decide) in_X3_become_X3 (List.mem_of_getElem? (i := 7) rfl) rfl dX3_become_58 ?_
  refine lv_aload_n S.1 S.2.1 dX3_become_61 rfl (lv_at hl 0 rfl) ?_
  refine aR_getS (j := 1) (v := .ref (ad (10 + 7 * 1))) S I (by decide) 6 (by decide) in_X3_become_X3 (List.mem_of_getElem? (i := 7) rfl) rfl dX3_become_62 ?_
  refine ar_callVv (As := [.ref (ad (10 + 7 * 0)), .ref (ad (10 + 7 * 1))]) (rest := []) S hE (c_X3_copy l hJ (V := V) (Q := Q) (Y := M6) (a := 2) (f := 4) (by decide) rfl) (cwV 2 S.2.2.2.2 gX3_become_X3_copy rfl rfl rfl (by decide +kernel) ⟨Nat.le_of_ble_eq_true rfl, Nat.le_of_ble_eq_true rfl⟩) (aR_recvS (j := 1) I (by decide)) I hl.1 dX3_become_65 rfl rfl (Nat.le_of_ble_eq_true rfl) ⟨by first | decide | (dsimp only; omega), by first | decide | (dsimp only; omega)⟩ (fun H locs I hk9 => ?_)
  obtain ⟨M7, hM7⟩ : ∃ z9 : aq_Q, z9 = aR_cp Q M6 4 := ⟨_, rfl⟩
  rw [← hM7] at I
  refine lv_aload_n S.1 S.2.1 dX3_become_68 rfl (lv_at hl 0 rfl) ?_
  refine lv_aload_n S.1 S.2.1 dX3_become_69 rfl (lv_at hl 1 rfl) ?_
  refine aR_getS (j := 0) (v := .ref (ad (11 + 7 * 0))) S I (by decide) 7 (by decide) in_X3_become_X3 (List.mem_of_getElem? (i := 8) rfl) rfl dX3_become_70 ?_
  refine lv_aload_n S.1 S.2.1 dX3_become_73 rfl (lv_at hl 0 rfl) ?_
  refine aR_getS (j := 1) (v := .ref (ad (11 + 7 * 1))) S I (by decide) 7 (by decide) in_X3_become_X3 (List.mem_of_getElem? (i := 8) rfl) rfl dX3_become_74 ?_
  refine ar_callVv (As := [.ref (ad (11 + 7 * 0)), .ref (ad (11 + 7 * 1))]) (rest := []) S hE (c_X3_copy l hJ (V := V) (Q := Q) (Y := M7) (a := 3) (f := 5) (by decide) rfl) (cwV 2 S.2.2.2.2 gX3_become_X3_copy rfl rfl rfl (by decide +kernel) ⟨Nat.le_of_ble_eq_true rfl, Nat.le_of_ble_eq_true rfl⟩) (aR_recvS (j := 1) I (by decide)) I hl.1 dX3_become_77 rfl rfl (Nat.le_of_ble_eq_true rfl) ⟨by first | decide | (dsimp only; omega), by first | decide | (dsimp only; omega)⟩ (fun H locs I hk9 => ?_)
  obtain ⟨M8, hM8⟩ : ∃ z9 : aq_Q, z9 = aR_cp Q M7 5 := ⟨_, rfl⟩
  rw [← hM8] at I
  refine lv_aload_n S.1 S.2.1 dX3_become_80 rfl (lv_at hl 0 rfl) ?_
  refine lv_aload_n S.1 S.2.1 dX3_become_81 rfl (lv_at hl 1 rfl) ?_
  refine aR_getS (j := 0) (v := .ref (ad (12 + 7 * 0))) S I (by decide) 8 (by decide) in_X3_become_X3 (List.mem_of_getElem? (i := 9) rfl) rfl dX3_become_82 ?_
  refine lv_aload_n S.1 S.2.1 dX3_become_85 rfl (lv_at hl 0 rfl) ?_
  refine aR_getS (j := 1) (v := .ref (ad (12 + 7 * 1))) S I (by decide) 8 (by decide) in_X3_become_X3 (List.mem_of_getElem? (i := 9) rfl) rfl dX3_become_86 ?_
  refine ar_callVv (As := [.ref (ad (12 + 7 * 0)), .ref (ad (12 + 7 * 1))]) (rest := []) S hE (c_X3_copy l hJ (V := V) (Q := Q) (Y := M8) (a := 4) (f := 7) (by decide) rfl) (cwV 2 S.2.2.2.2 gX3_become_X3_copy rfl rfl rfl (by decide +kernel) ⟨Nat.le_of_ble_eq_true rfl, Nat.le_of_ble_eq_true rfl⟩) (aR_recvS (j := 1) I (by decide)) I hl.1 dX3_become_89 rfl rfl (Nat.le_of_ble_eq_true rfl) ⟨by first | decide | (dsimp only; omega), by first | decide | (dsimp only; omega)⟩ (fun H locs I hk9 => ?_)
  obtain ⟨M9, hM9⟩ : ∃ z9 : aq_Q, z9 = aR_cp Q M8 7 := ⟨_, rfl⟩
  rw [← hM9] at I
  refine lv_aload_n S.1 S.2.1 dX3_become_92 rfl (lv_at hl 0 rfl) ?_
  refine lv_aload_n S.1 S.2.1 dX3_become_93 rfl (lv_at hl 1 rfl) ?_
  refine aR_getS (j := 0) (v := .ref (ad (13 + 7 * 0))) S I (by decide) 9 (by decide) in_X3_become_X3 (List.mem_of_getElem? (i := 10) rfl) rfl dX3_become_94 ?_
  refine lv_aload_n S.1 S.2.1 dX3_become_97 rfl (lv_at hl 0 rfl) ?_
  refine aR_getS (j := 1) (v := .ref (ad (13 + 7 * 1))) S I (by decide) 9 (by decide) in_X3_become_X3 (List.mem_of_getElem? (i := 10) rfl) rfl dX3_become_98 ?_
  refine ar_callVv (As := [.ref (ad (13 + 7 * 0)), .ref (ad (13 + 7 * 1))]) (rest := []) S hE (c_X3_copy l hJ (V := V) (Q := Q) (Y := M9) (a := 5) (f := 8) (by decide) rfl) (cwV 2 S.2.2.2.2 gX3_become_X3_copy rfl rfl rfl (by decide +kernel) ⟨Nat.le_of_ble_eq_true rfl, Nat.le_of_ble_eq_true rfl⟩) (aR_recvS (j := 1) I (by decide)) I hl.1 dX3_become_101 rfl rfl (Nat.le_of_ble_eq_true rfl) ⟨by first | decide | (dsimp only; omega), by first | decide | (dsimp only; omega)⟩ (fun H locs I hk9 => ?_)
  obtain ⟨M10, hM10⟩ : ∃ z9 : aq_Q, z9 = aR_cp Q M9 8 := ⟨_, rfl⟩
  rw [← hM10] at I
  refine lv_aload_n S.1 S.2.1 dX3_become_104 rfl (lv_at hl 0 rfl) ?_
  refine lv_aload_n S.1 S.2.1 dX3_become_105 rfl (lv_at hl 1 rfl) ?_
  refine aR_getS (j := 0) (v := .ref (ad (14 + 7 * 0))) S I (by decide) 10 (by decide) in_X3_become_X3 (List.mem_of_getElem? (i := 11) rfl) rfl dX3_become_106 ?_
  refine lv_aload_n S.1 S.2.1 dX3_become_109 rfl (lv_at hl 0 rfl) ?_
  refine aR_getS (j := 1) (v := .ref (ad (14 + 7 * 1))) S I (by decide) 10 (by decide) in_X3_become_X3 (List.mem_of_getElem? (i := 11) rfl) rfl dX3_become_110 ?_
  refine ar_callVv (As := [.ref (ad (14 + 7 * 0)), .ref (ad (14 + 7 * 1))]) (rest := []) S hE (c_X3_copy l hJ (V := V) (Q := Q) (Y := M10) (a := 6) (f := 9) (by decide) rfl) (cwV 2 S.2.2.2.2 gX3_become_X3_copy rfl rfl rfl (by decide +kernel) ⟨Nat.le_of_ble_eq_true rfl, Nat.le_of_ble_eq_true rfl⟩) (aR_recvS (j := 1) I (by decide)) I hl.1 dX3_become_113 rfl rfl (Nat.le_of_ble_eq_true rfl) ⟨by first | decide | (dsimp only; omega), by first | decide | (dsimp only; omega)⟩ (fun H locs I hk9 => ?_)
  obtain ⟨M11, hM11⟩ : ∃ z9 : aq_Q, z9 = aR_cp Q M10 9 := ⟨_, rfl⟩
  rw [← hM11] at I
  refine lv_aload_n S.1 S.2.1 dX3_become_116 rfl (lv_at hl 0 rfl) ?_
  refine lv_aload_n S.1 S.2.1 dX3_become_117 rfl (lv_at hl 1 rfl) ?_
  refine aR_getS (j := 0) (v := .int (Q 10 8)) S I (by decide) 11 (by decide) in_X3_become_X3 (List.mem_of_getElem? (i := 12) rfl) (by first | (rw [aq_ug_n _ _ (by decide), aq_ug_s]; done) | (rw [aq_ug_n _ _ (by decide), aq_ug_s]; rfl)) dX3_become_118 ?_
  refine aR_putS (V := (aq_ug V 0 Q)) (Q := M11) (j := 1) (x := Q 10 8) hJ S I (by decide) 11 (by decide) (by decide) 8 rfl in_X3_become_X3 (List.mem_of_getElem? (i := 12) rfl) dX3_become_121 (fun H locs M12 hM12 I => ?_)
  refine lv_aload_n S.1 S.2.1 dX3_become_124 rfl (lv_at hl 0 rfl) ?_
  refine lv_aload_n S.1 S.2.1 dX3_become_125 rfl (lv_at hl 1 rfl) ?_
  refine aR_getS (j := 0) (v := .int (Q 10 9)) S I (by decide) 12 (by decide) in_X3_become_X3 (List.mem_of_getElem? (i := 13) rfl) (by first | (rw [aq_ug_n _ _ (by decide), aq_ug_s]; done) | (rw [aq_ug_n _ _ (by decide), aq_ug_s]; rfl)) dX3_become_126 ?_
  refine aR_putS (V := (aq_ug V 0 Q)) (Q := M12) (j := 1) (x := Q 10 9) hJ S I (by decide) 12 (by decide) (by decide) 9 rfl in_X3_become_X3 (List.mem_of_getElem? (i := 13) rfl) dX3_become_129 (fun H locs M13 hM13 I => ?_)
  refine lv_aload_n S.1 S.2.1 dX3_become_132 rfl (lv_at hl 0 rfl) ?_
  refine lv_aload_n S.1 S.2.1 dX3_become_133 rfl (lv_at hl 1 rfl) ?_
  refine aR_getS (j := 0) (v := .int (Q 10 10)) S I (by decide) 13 (by decide) in_X3_become_X3 (List.mem_of_getElem? (i := 14) rfl) (by first | (rw [aq_ug_n _ _ (by decide), aq_ug_s]; done) | (rw [aq_ug_n _ _ (by decide), aq_ug_s]; rfl)) dX3_become_134 ?_
  refine aR_putS (V := (aq_ug V 0 Q)) (Q := M13) (j := 1) (x := Q 10 10) hJ S I (by decide) 13 (by decide) (by decide) 10 rfl in_X3_become_X3 (List.mem_of_getElem? (i := 14) rfl) dX3_become_137 (fun H locs M14 hM14 I => ?_)
  refine lv_aload_n S.1 S.2.1 dX3_become_140 rfl (lv_at hl 0 rfl) ?_
  refine lv_aload_n S.1 S.2.1 dX3_become_141 rfl (lv_at hl 1 rfl) ?_
  refine aR_getS (j := 0) (v := .int (Q 10 11)) S I (by decide) 14 (by decide) in_X3_become_X3 (List.mem_of_getElem? (i := 15) rfl) (by first | (rw [aq_ug_n _ _ (by decide), aq_ug_s]; done) | (rw [aq_ug_n _ _ (by decide), aq_ug_s]; rfl)) dX3_become_142 ?_
  refine aR_putS (V := (aq_ug V 0 Q)) (Q := M14) (j := 1) (x := Q 10 11) hJ S I (by decide) 14 (by decide) (by decide) 11 rfl in_X3_become_X3 (List.mem_of_getElem? (i := 15) rfl) dX3_become_145 (fun H locs M15 hM15 I => ?_)
  refine lv_aload_n S.1 S.2.1 dX3_become_148 rfl (lv_at hl 0 rfl) ?_
  refine lv_aload_n S.1 S.2.1 dX3_become_149 rfl (lv_at hl 1 rfl) ?_
  refine aR_getS (j := 0) (v := .int (Q 10 12)) S I (by decide) 15 (by decide) in_X3_become_X3 (List.mem_of_getElem? (i := 16) rfl) (by first | (rw [aq_ug_n _ _ (by decide), aq_ug_s]; done) | (rw [aq_ug_n _ _ (by decide), aq_ug_s]; rfl)) dX3_become_150 ?_
  refine aR_putS (V := (aq_ug V 0 Q)) (Q := M15) (j := 1) (x := Q 10 12) hJ S I (by decide) 15 (by decide) (by decide) 12 rfl in_X3_become_X3 (List.mem_of_getElem? (i := 16) rfl) dX3_become_153 (fun H locs M16 hM16 I => ?_)
  have I := aR_I_eq (V' := aq_ug (aq_ug V 0 Q) 1 Q) I (by
    subst hM16 hM15 hM14 hM13 hM12 hM11 hM10 hM9 hM8 hM7 hM6 hM5 hM4 hM3 hM2 hM1
    refine ⟨rfl, fun _ _ => rfl, fun _ _ _ _ => rfl, fun j hj => ?_⟩
    rcases (show j = 0 ∨ j = 1 by omega) with rfl | rfl
    · exact ⟨fun _ _ _ => rfl, fun _ _ _ _ => rfl⟩
    · refine ⟨fun k h1 h2 => ?_, fun a ha i hi => ?_⟩
      · rcases (show k = 4 ∨ k = 5 ∨ k = 6 ∨ k = 7 ∨ k = 8 ∨ k = 9 ∨ k = 10 ∨ k = 11 ∨ k = 12 by omega) with rfl | rfl | rfl | rfl | rfl | rfl | rfl | rfl | rfl
        all_goals (simp [aq_ug, aq_up, aR_cp])
      · rcases (show a = 0 ∨ a = 1 ∨ a = 2 ∨ a = 3 ∨ a = 4 ∨ a = 5 ∨ a = 6 by omega) with rfl | rfl | rfl | rfl | rfl | rfl | rfl
        all_goals (simp [aq_ug, aq_up, aR_cp, aR_rf, hi]))
  exact aq_vret S.1 S.2.1 hr hlocks I dX3_become_156 (by decide) (by decide) rfl
set_option maxHeartbeats 4000000 in
set_option maxRecDepth 100000 in
/-- X4_pass -/
theorem c_X4_pass (l : Launch) {D : va_G} {ad : Nat → Nat} {cI : ClassId} {th : Int32} (hJ : aq_J 22 ad) {V : aq_V} {Q : aq_Q} {j : Nat} (hj : j < 2) (hst : aR_st (V 3) Q) {n : Nat} (hn : V 3 10 3 = nI n) (hn20 : n ≤ 20) {h z : Nat} (hh : Q 10 4 = nI h) (h31 : h + z < 2 ^ 31)  : ar_Met l yX4_pass wsX4_pass ({ frames := 4, cells := 0, slots := 0, locals := 91 }) D (aR_t cI) 22 ad [.ref (ad (6 + j)), .int (nI z)] (aR_w ad cI th (aq_ug V j Q)) (aq_Qi D (aR_t cI) 22 ad (aR_goR n (V 2) z Q 0) (aR_w ad cI th (aq_ug V j (aR_goQ n (V 2) z Q)))) 0 0 := by
  refine ar_enter (cc := cX4_pass) (maxL := 4) (ret := some .int) (by decide) rfl (Nat.le_of_ble_eq_true rfl) ?_
  intro p e s m below meth c ls S hr hlocks hE I hl
  have S : CallFix p m c cX4_pass 4 s _ wsX4_pass RX4 := S
  have hl : lv_has ls 4 [(0, .ref (ad (6 + j))), (1, .int (nI z))] := hl
  have L4 : ∀ (k : Nat) (i : Nat) (x : Int32) (Q' : aq_Q) (h' : Nat), (i + k = z) → (aR_st (V 3) Q') → (Q' 10 4 = nI h') → (h' + k < 2 ^ 31) → (aR_goR n (V 2) k Q' x = aR_goR n (V 2) z Q 0) → (aR_goQ n (V 2) k Q' = aR_goQ n (V 2) z Q) → ∀ (H : Heap) (locs : List Loc), aq_I D (aR_t cI) (aq_A 22 ad) (aR_w ad cI th (aq_ug V j (Q'))) s H locs → ∀ ls : Array Slot, lv_has ls 4 [(3, .int (nI i)), (2, .int x), (0, .ref (ad (6 + j))), (1, .int (nI z))] → W p l e ({ frames := 4, cells := 0, slots := 0, locals := 91 } : Room) s m (([.ref (ad (6 + j)), .int (nI z)] : List Value).toArray) below meth c H locs 0 0 (MQ below ((aq_Qi D (aR_t cI) 22 ad (aR_goR n (V 2) z Q 0) (aR_w ad cI th (aq_ug V j (aR_goQ n (V 2) z Q)))) s.heap.size) (([.ref (ad (6 + j)), .int (nI z)] : List Value).toArray) s 0 0 (aq_A 22 ad s.heap.size)) (F0 m 4 ls []) := by
    intro k
    induction k with
    | zero =>
      intro i x Q' h' hk hst' hh' h31' hqr hqq H locs I ls hl
      refine lv_iload_n S.1 S.2.1 dX4_pass_4 rfl (lv_at hl 0 rfl) ?_
      refine lv_iload_n S.1 S.2.1 dX4_pass_5 rfl (lv_at hl 3 rfl) ?_
      refine lv_icmp_ge (tgt := 22) S.1 S.2.1 dX4_pass_6 (by decide) (fun c1 => ?_) (fun c1 => ?_)
      · have c1 : z ≤ i := (nI_leI (a := z) (b := i) (by omega) (by omega)).mp c1
        refine lv_iload_n S.1 S.2.1 dX4_pass_22 rfl (lv_at hl 1 rfl) ?_
        exact aq_iret S.1 S.2.1 hr hlocks I dX4_pass_23 (by decide) (by decide) hqr (congrArg (fun z9 => aR_w ad cI th (aq_ug V j z9)) hqq)
      · have c1 : i < z := Nat.lt_of_not_le (fun z9 => c1 ((nI_leI (a := z) (b := i) (by omega) (by omega)).mpr z9))
        exfalso; omega
    | succ k ih =>
      intro i x Q' h' hk hst' hh' h31' hqr hqq H locs I ls hl
      refine lv_iload_n S.1 S.2.1 dX4_pass_4 rfl (lv_at hl 0 rfl) ?_
      refine lv_iload_n S.1 S.2.1 dX4_pass_5 rfl (lv_at hl 3 rfl) ?_
      refine lv_icmp_ge (tgt := 22) S.1 S.2.1 dX4_pass_6 (by decide) (fun c2 => ?_) (fun c2 => ?_)
      · have c2 : z ≤ i := (nI_leI (a := z) (b := i) (by omega) (by omega)).mp c2
        exfalso; omega
      · have c2 : i < z := Nat.lt_of_not_le (fun z9 => c2 ((nI_leI (a := z) (b := i) (by omega) (by omega)).mpr z9))
        refine lv_iload_n S.1 S.2.1 dX4_pass_9 rfl (lv_at hl 1 rfl) ?_
        refine lv_aload_n S.1 S.2.1 dX4_pass_10 rfl (lv_at hl 2 rfl) ?_
        refine ar_callVi (As := []) (rest := [.int x]) S hE (c_X3_pass l hJ (V := V) (th := th) (Q := Q') (j := j) hj hst' (n := n) hn hn20 (h := h') hh' (by omega)) (cwV 0 S.2.2.2.2 gX4_pass_X3_pass rfl rfl rfl (by decide +kernel) ⟨Nat.le_of_ble_eq_true rfl, Nat.le_of_ble_eq_true rfl⟩) (aR_recvS (j := j) I hj) I hl.1 dX4_pass_11 rfl rfl (Nat.le_of_ble_eq_true rfl) ⟨by first | decide | (dsimp only; omega), by first | decide | (dsimp only; omega)⟩ (fun H locs I hk9 => ?_)
        refine lv_topi (fun x3 ex3 => ?_)
        obtain ⟨M4, hM4⟩ : ∃ z9 : aq_Q, z9 = aR_hourD n (V 2) (h' % 24) Q' := ⟨_, rfl⟩
        rw [← hM4] at I ex3
        have hM4 : M4 = aR_hourQ n (V 2) Q' := by rw [hM4, aR_hourQ_eq hh' (by omega)]
        have hh_M4 : M4 10 4 = nI (h' + 1) := by rw [hM4, aR_hourQ_eq hh' (by omega), aR_hourD_h, hh', nI_1]
        refine lv_iadd S.1 S.2.1 dX4_pass_14 ?_
        refine lv_istore_n (lv' := [(2, .int (x + x3)), (3, .int (nI i)), (0, .ref (ad (6 + j))), (1, .int (nI z))]) S.1 S.2.1 dX4_pass_15 rfl hl (by decide) rfl (fun ls hl => ?_)
        refine lv_iinc (v := nI (i + 1)) (lv' := [(3, .int (nI (i + 1))), (2, .int (x + x3)), (0, .ref (ad (6 + j))), (1, .int (nI z))]) S.1 S.2.1 dX4_pass_16 hl (k := 1) rfl (nI_1 _) (by decide) rfl (fun ls hl => ?_)
        refine lv_goto (tgt := 4) S.1 S.2.1 dX4_pass_19 (by decide) ?_
        have hst_M4 : aR_st (V 3) M4 := by rw [hM4]; exact aR_st_hourQ hst'
        exact ih (i + 1) (x + x3) M4 (h' + 1) (by omega) hst_M4 hh_M4 (by omega) (by subst ex3; subst hM4; exact hqr) (by subst ex3; subst hM4; exact hqq) _ _ I ls (lv_sub hl [0, 1, 2, 3] rfl)
  refine lv_iconst (v := 0) S.1 S.2.1 dX4_pass_0 (by decide) ?_
  refine lv_istore_n (lv' := [(2, .int 0), (0, .ref (ad (6 + j))), (1, .int (nI z))]) S.1 S.2.1 dX4_pass_1 rfl hl (by decide) rfl (fun ls hl => ?_)
  refine lv_iconst (v := 0) S.1 S.2.1 dX4_pass_2 (by decide) ?_
  refine lv_istore_n (lv' := [(3, .int 0), (2, .int 0), (0, .ref (ad (6 + j))), (1, .int (nI z))]) S.1 S.2.1 dX4_pass_3 rfl hl (by decide) rfl (fun ls hl => ?_)
  exact L4 z 0 0 Q h (by omega) hst hh (by omega) rfl rfl _ _ I ls (lv_sub hl [0, 1, 2, 3] rfl)
