theorem in_X2_pass_X0 : ∀ w ∈ wsX00, w ∈ wsX2_pass := fun _ h => List.mem_cons_of_mem _ (List.mem_append_left _ (List.mem_append_left _ (List.mem_append_right _ h)))
theorem in_X2_pass_X2 : ∀ w ∈ wsX20, w ∈ wsX2_pass := fun _ h => List.mem_cons_of_mem _ (List.mem_append_left _ (List.mem_append_left _ (List.mem_append_left _ (List.mem_append_right _ h))))
set_option maxHeartbeats 4000000 in
set_option maxRecDepth 100000 in
/-- X2_pass -/
theorem c_X2_pass (l : Launch) (hlt : l.stackTraces = false) {D : va_G} {ad : Nat → Nat} {cI cQ : ClassId} (hJ : aq_J 49 ad) {V : aq_V} {Q : aq_Q} {n : Nat} (hn : Q 10 3 = nI n) (hn20 : n ≤ 20) {h : Nat} (hh : Q 10 4 = nI h) (h31 : h + 200 < 2 ^ 31) (z : Int32) : aq_MetX l yX2_pass wsX2_pass ({ frames := 7, cells := 1, slots := 6, locals := 134 }) D (aC_t cI cQ) 49 ad [.ref (ad 0), .int z] (aC_w ad cI cQ (aq_ug V 0 Q)) (aq_rgK z 1 100) (aq_QiX D (aC_t cI cQ) 49 ad (aq_rgK z 1 100) (aq_thi (aq_goQ n (V 2) z.toNatClampNeg Q) Q) (aC_w ad cI cQ (aq_ug V 0 (aq_goQ n (V 2) z.toNatClampNeg Q)))) 1 6 := by
  refine aq_enterX (cc := cX2_pass) (maxL := 3) (ret := some .int) (by decide) rfl (Nat.le_of_ble_eq_true rfl) ?_
  intro p e s m below meth c ls S hr hlocks hout hT I hl
  have S : CallFix p m c cX2_pass 3 s _ wsX2_pass RX2 := S
  have hl : lv_has ls 3 [(0, .ref (ad 0)), (1, .int z)] := hl
  refine lv_iload_n S.1 S.2.1 dX2_pass_0 rfl (lv_at hl 1 rfl) ?_
  refine lv_iconst (v := 1) S.1 S.2.1 dX2_pass_1 (by decide) ?_
  refine lv_bipush (v := 100) S.1 S.2.1 dX2_pass_2 (by decide) ?_
  refine aq_xcallSv (κ1 := aq_rgK z 1 100) (As := [.int z, .int 1, .int 100]) (rest := []) S hT hlocks hout (c_X2_requireRange l hlt (V := (aq_ug V 0 Q)) z 1 100) (va_cwS 3 S.2.2.2.2 gX2_pass_X2_requireRange rfl rfl rfl (by decide +kernel) ⟨Nat.le_of_ble_eq_true rfl, Nat.le_of_ble_eq_true rfl⟩)  I hl.1 dX2_pass_4 rfl rfl (Nat.le_of_ble_eq_true rfl) ⟨by decide, by decide⟩ ⟨by decide, by decide⟩ (fun hz => by simp [aq_seq, hz]) (fun hκ1 H locs I => ?_)
  obtain ⟨k1, hk1, gk1, ek1⟩ := aq_rgK_ok (a := 1) (b := 100) (by omega) (by omega) (show aq_rgK z (nI 1) (nI 100) = 0 from hκ1)
  subst ek1
  have nk1 : (nI k1).toNatClampNeg = k1 := nI_clamp (by omega)
  refine lv_aload_n S.1 S.2.1 dX2_pass_7 rfl (lv_at hl 0 rfl) ?_
  refine aC_getX S I 0 (by decide) in_X2_pass_X2 (List.mem_of_getElem? (i := 1) rfl) dX2_pass_8 ?_
  refine aC_getS (j := 0) (x := Q 10 12) S I (by decide) 12 (by decide) (by decide) in_X2_pass_X0 (List.mem_of_getElem? (i := 2) rfl) (by rw [aq_ug_s]) dX2_pass_11 ?_
  refine lv_istore_n (lv' := [(2, .int (Q 10 12)), (0, .ref (ad 0)), (1, .int (nI k1))]) S.1 S.2.1 dX2_pass_14 rfl hl (by decide) rfl (fun ls hl => ?_)
  refine lv_aload_n S.1 S.2.1 dX2_pass_15 rfl (lv_at hl 1 rfl) ?_
  refine aC_getX S I 0 (by decide) in_X2_pass_X2 (List.mem_of_getElem? (i := 1) rfl) dX2_pass_16 ?_
  refine lv_iload_n S.1 S.2.1 dX2_pass_19 rfl (lv_at hl 2 rfl) ?_
  refine aq_callVv (As := [.int (nI k1)]) (rest := []) S (c_X0_goOn l hJ (V := V) (Q := Q) (j := 0) (by decide) hn hn20 (T := (V 2)) rfl (h := h) (z := k1) hh (by omega)) (cwV 1 S.2.2.2.2 gX2_pass_X0_goOn rfl rfl rfl (by decide +kernel) ⟨Nat.le_of_ble_eq_true rfl, Nat.le_of_ble_eq_true rfl⟩) (aC_recvS (j := 0) I (by decide)) I hl.1 dX2_pass_20 rfl rfl (Nat.le_of_ble_eq_true rfl) ⟨by first | decide | (dsimp only; omega), by first | decide | (dsimp only; omega)⟩ (fun H locs I => ?_)
  obtain ⟨M2, hM2⟩ : ∃ z9 : aq_Q, z9 = aq_goQ n (V 2) k1 Q := ⟨_, rfl⟩
  rw [← hM2] at I
  refine lv_aload_n S.1 S.2.1 dX2_pass_23 rfl (lv_at hl 1 rfl) ?_
  refine aC_getX S I 0 (by decide) in_X2_pass_X2 (List.mem_of_getElem? (i := 1) rfl) dX2_pass_24 ?_
  refine aC_getS (j := 0) (x := M2 10 12) S I (by decide) 12 (by decide) (by decide) in_X2_pass_X0 (List.mem_of_getElem? (i := 2) rfl) (by rw [aq_ug_s]) dX2_pass_27 ?_
  refine lv_iload_n S.1 S.2.1 dX2_pass_30 rfl (lv_at hl 0 rfl) ?_
  refine lv_isub S.1 S.2.1 dX2_pass_31 ?_
  exact aq_xiret S.1 S.2.1 hr hlocks I dX2_pass_32 (by decide) (by decide) (by simp [aq_seq, hκ1, nk1]) (by subst_vars; first | rfl | (simp only [aq_thi, nk1]; done) | (simp only [aq_thi, nk1]; rfl)) (by subst_vars; first | rfl | (simp only [aq_thi, nk1]; done) | (simp only [aq_thi, nk1]; rfl))
theorem in_X2_foresee_X0 : ∀ w ∈ wsX00, w ∈ wsX2_foresee := fun _ h => List.mem_cons_of_mem _ (List.mem_append_left _ (List.mem_append_left _ (List.mem_append_left _ (List.mem_append_right _ h))))
theorem in_X2_foresee_X2 : ∀ w ∈ wsX20, w ∈ wsX2_foresee := fun _ h => List.mem_cons_of_mem _ (List.mem_append_left _ (List.mem_append_left _ (List.mem_append_left _ (List.mem_append_left _ (List.mem_append_right _ h)))))
set_option maxHeartbeats 4000000 in
set_option maxRecDepth 100000 in
/-- X2_foresee -/
theorem c_X2_foresee (l : Launch) (hlt : l.stackTraces = false) {D : va_G} {ad : Nat → Nat} {cI cQ : ClassId} (hJ : aq_J 49 ad) {V : aq_V} {Q Q1 : aq_Q} {n : Nat} (hn : Q 10 3 = nI n) (hn20 : n ≤ 20) {h : Nat} (hh : Q 10 4 = nI h) (h31 : h + 200 < 2 ^ 31) (z w : Int32) : aq_MetX l yX2_foresee wsX2_foresee ({ frames := 7, cells := 2, slots := 12, locals := 134 }) D (aC_t cI cQ) 49 ad [.ref (ad 0), .int z, .int w] (aC_w ad cI cQ (aq_ug (aq_ug V 0 Q) 1 Q1)) (aq_forK z w) (aq_QiX D (aC_t cI cQ) 49 ad (aq_forK z w) (aq_forR n (aq_goQ n (V 2) z.toNatClampNeg (aq_cpQ n Q Q1)) Q w.toNatClampNeg) (aC_w ad cI cQ (aq_ug (aq_ug (aq_tc V) 0 Q) 1 (aq_goQ n (V 2) z.toNatClampNeg (aq_cpQ n Q Q1))))) 2 12 := by
  refine aq_enterX (cc := cX2_foresee) (maxL := 3) (ret := some .int) (by decide) rfl (Nat.le_of_ble_eq_true rfl) ?_
  intro p e s m below meth c ls S hr hlocks hout hT I hl
  have S : CallFix p m c cX2_foresee 3 s _ wsX2_foresee RX2 := S
  have hl : lv_has ls 3 [(0, .ref (ad 0)), (1, .int z), (2, .int w)] := hl
  refine lv_iload_n S.1 S.2.1 dX2_foresee_0 rfl (lv_at hl 1 rfl) ?_
  refine lv_iconst (v := 1) S.1 S.2.1 dX2_foresee_1 (by decide) ?_
  refine lv_bipush (v := 100) S.1 S.2.1 dX2_foresee_2 (by decide) ?_
  refine aq_xcallSv (κ1 := aq_rgK z 1 100) (As := [.int z, .int 1, .int 100]) (rest := []) S hT hlocks hout (c_X2_requireRange l hlt (V := (aq_ug (aq_ug V 0 Q) 1 Q1)) z 1 100) (va_cwS 3 S.2.2.2.2 gX2_foresee_X2_requireRange rfl rfl rfl (by decide +kernel) ⟨Nat.le_of_ble_eq_true rfl, Nat.le_of_ble_eq_true rfl⟩)  I hl.1 dX2_foresee_4 rfl rfl (Nat.le_of_ble_eq_true rfl) ⟨by decide, by decide⟩ ⟨by decide, by decide⟩ (fun hz => by simp [aq_forK, aq_seq, hz]) (fun hκ1 H locs I => ?_)
  obtain ⟨k1, hk1, gk1, ek1⟩ := aq_rgK_ok (a := 1) (b := 100) (by omega) (by omega) (show aq_rgK z (nI 1) (nI 100) = 0 from hκ1)
  subst ek1
  have nk1 : (nI k1).toNatClampNeg = k1 := nI_clamp (by omega)
  refine lv_iload_n S.1 S.2.1 dX2_foresee_7 rfl (lv_at hl 2 rfl) ?_
  refine lv_iconst (v := 4) S.1 S.2.1 dX2_foresee_8 (by decide) ?_
  refine aq_xcallSv (κ1 := aq_ixK w 4) (As := [.int w, .int 4]) (rest := []) S hT hlocks hout (c_X2_requireIndex l hlt (V := (aq_ug (aq_ug V 0 Q) 1 Q1)) w 4) (va_cwS 2 S.2.2.2.2 gX2_foresee_X2_requireIndex rfl rfl rfl (by decide +kernel) ⟨Nat.le_of_ble_eq_true rfl, Nat.le_of_ble_eq_true rfl⟩)  I hl.1 dX2_foresee_9 rfl rfl (Nat.le_of_ble_eq_true rfl) ⟨by decide, by decide⟩ ⟨by decide, by decide⟩ (fun hz => by simp [aq_forK, aq_seq, hκ1, nk1, hz]) (fun hκ2 H locs I => ?_)
  obtain ⟨k2, hk2, ek2⟩ := aq_ixK_ok (e := 4) (by omega) (show aq_ixK w (nI 4) = 0 from hκ2)
  subst ek2
  have nk2 : (nI k2).toNatClampNeg = k2 := nI_clamp (by omega)
  refine lv_aload_n S.1 S.2.1 dX2_foresee_12 rfl (lv_at hl 0 rfl) ?_
  refine aC_getX S I 1 (by decide) in_X2_foresee_X2 (List.mem_of_getElem? (i := 1) rfl) dX2_foresee_13 ?_
  refine lv_aload_n S.1 S.2.1 dX2_foresee_16 rfl (lv_at hl 0 rfl) ?_
  refine aC_getX S I 0 (by decide) in_X2_foresee_X2 (List.mem_of_getElem? (i := 2) rfl) dX2_foresee_17 ?_
  refine aq_callVv (As := [.ref (ad 3)]) (rest := []) S (c_X0_copyFrom l hJ (V := V) (Q0 := Q) (Q1 := Q1) (n := n) hn hn20) (cwV 1 S.2.2.2.2 gX2_foresee_X0_copyFrom rfl rfl rfl (by decide +kernel) ⟨Nat.le_of_ble_eq_true rfl, Nat.le_of_ble_eq_true rfl⟩) (aC_recvS (j := 1) I (by decide)) I hl.1 dX2_foresee_20 rfl rfl (Nat.le_of_ble_eq_true rfl) ⟨by first | decide | (dsimp only; omega), by first | decide | (dsimp only; omega)⟩ (fun H locs I => ?_)
  obtain ⟨M3, hM3⟩ : ∃ z9 : aq_Q, z9 = aq_cpQ n Q Q1 := ⟨_, rfl⟩
  rw [← hM3] at I
  have hn_M3 : M3 10 3 = nI n := by rw [hM3]; exact aq_cpQ_n _ _ _
  have hh_M3 : M3 10 4 = nI h := by rw [hM3, aq_cpQ_h]; exact hh
  refine lv_aload_n S.1 S.2.1 dX2_foresee_23 rfl (lv_at hl 0 rfl) ?_
  refine aC_getX S I 1 (by decide) in_X2_foresee_X2 (List.mem_of_getElem? (i := 1) rfl) dX2_foresee_24 ?_
  refine lv_iload_n S.1 S.2.1 dX2_foresee_27 rfl (lv_at hl 1 rfl) ?_
  refine aq_callVv (As := [.int (nI k1)]) (rest := []) S (c_X0_goOn l hJ (V := (aq_ug (aq_tc V) 0 Q)) (Q := M3) (j := 1) (by decide) hn_M3 hn20 (T := (V 2)) (aq_tc_T V Q) (h := h) (z := k1) hh_M3 (by omega)) (cwV 1 S.2.2.2.2 gX2_foresee_X0_goOn rfl rfl rfl (by decide +kernel) ⟨Nat.le_of_ble_eq_true rfl, Nat.le_of_ble_eq_true rfl⟩) (aC_recvS (j := 1) I (by decide)) I hl.1 dX2_foresee_28 rfl rfl (Nat.le_of_ble_eq_true rfl) ⟨by first | decide | (dsimp only; omega), by first | decide | (dsimp only; omega)⟩ (fun H locs I => ?_)
  obtain ⟨M4, hM4⟩ : ∃ z9 : aq_Q, z9 = aq_goQ n (V 2) k1 M3 := ⟨_, rfl⟩
  rw [← hM4] at I
  refine lv_iload_n S.1 S.2.1 dX2_foresee_31 rfl (lv_at hl 2 rfl) ?_
  rcases (show k2 = 0 ∨ k2 = 1 ∨ k2 = 2 ∨ k2 = 3 by omega) with rfl | rfl | rfl | rfl
  · refine lv_tableIn (x := nI 0) (tgt := 60) S.1 S.2.1 dX2_foresee_32 (by decide) (by decide) rfl (by decide) ?_
    have hl : lv_has ls 3 [(0, .ref (ad 0)), (1, .int (nI k1)), (2, .int (nI 0))] := hl
    refine lv_aload_n S.1 S.2.1 dX2_foresee_60 rfl (lv_at hl 0 rfl) ?_
    refine aC_getX S I 1 (by decide) in_X2_foresee_X2 (List.mem_of_getElem? (i := 1) rfl) dX2_foresee_61 ?_
    refine aC_getS (j := 1) (x := M4 10 12) S I (by decide) 12 (by decide) (by decide) in_X2_foresee_X0 (List.mem_of_getElem? (i := 3) rfl) (by rw [aq_ug_s]) dX2_foresee_64 ?_
    refine lv_aload_n S.1 S.2.1 dX2_foresee_67 rfl (lv_at hl 0 rfl) ?_
    refine aC_getX S I 0 (by decide) in_X2_foresee_X2 (List.mem_of_getElem? (i := 2) rfl) dX2_foresee_68 ?_
    refine aC_getS (j := 0) (x := Q 10 12) S I (by decide) 12 (by decide) (by decide) in_X2_foresee_X0 (List.mem_of_getElem? (i := 3) rfl) (by rw [aq_ug_n _ _ (by decide), aq_ug_s]) dX2_foresee_71 ?_
    refine lv_isub S.1 S.2.1 dX2_foresee_74 ?_
    exact aq_xiret S.1 S.2.1 hr hlocks I dX2_foresee_75 (by decide) (by decide) (by simp [aq_forK, aq_seq, hκ1, hκ2, nk1, nk2]) (by subst_vars; first | rfl | (simp only [aq_forR, nk1, nk2]; done) | (simp only [aq_forR, nk1, nk2]; rfl)) (by subst_vars; first | rfl | (simp only [aq_forR, nk1, nk2]; done) | (simp only [aq_forR, nk1, nk2]; rfl))
  · refine lv_tableIn (x := nI 1) (tgt := 76) S.1 S.2.1 dX2_foresee_32 (by decide) (by decide) rfl (by decide) ?_
    have hl : lv_has ls 3 [(0, .ref (ad 0)), (1, .int (nI k1)), (2, .int (nI 1))] := hl
    refine lv_aload_n S.1 S.2.1 dX2_foresee_76 rfl (lv_at hl 0 rfl) ?_
    refine aC_getX S I 1 (by decide) in_X2_foresee_X2 (List.mem_of_getElem? (i := 1) rfl) dX2_foresee_77 ?_
    have hn_M4 : M4 10 3 = nI n := by rw [hM4]; exact (aq_goQ_n _ _ _ _).trans hn_M3
    refine aq_callVi (As := []) (rest := []) S (c_X0_leaked l hJ (V := (aq_ug (aq_tc V) 0 Q)) (Q := M4) (j := 1) (by decide) hn_M4 hn20  ) (cwV 0 S.2.2.2.2 gX2_foresee_X0_leaked rfl rfl rfl (by decide +kernel) ⟨Nat.le_of_ble_eq_true rfl, Nat.le_of_ble_eq_true rfl⟩) (aC_recvS (j := 1) I (by decide)) I hl.1 dX2_foresee_80 rfl rfl (Nat.le_of_ble_eq_true rfl) ⟨by first | decide | (dsimp only; omega), by first | decide | (dsimp only; omega)⟩ (fun H locs I => ?_)
    refine lv_aload_n S.1 S.2.1 dX2_foresee_83 rfl (lv_at hl 0 rfl) ?_
    refine aC_getX S I 0 (by decide) in_X2_foresee_X2 (List.mem_of_getElem? (i := 2) rfl) dX2_foresee_84 ?_
    rw [aq_ug_sw (aq_tc V) (show (0 : Nat) ≠ 1 by decide) Q M4] at I
    refine aq_callVi (As := []) (rest := [.int (aq_over n 5 M4)]) S (c_X0_leaked l hJ (V := (aq_ug (aq_tc V) 1 M4)) (Q := Q) (j := 0) (by decide) hn hn20  ) (cwV 0 S.2.2.2.2 gX2_foresee_X0_leaked rfl rfl rfl (by decide +kernel) ⟨Nat.le_of_ble_eq_true rfl, Nat.le_of_ble_eq_true rfl⟩) (aC_recvS (j := 0) I (by decide)) I hl.1 dX2_foresee_87 rfl rfl (Nat.le_of_ble_eq_true rfl) ⟨by first | decide | (dsimp only; omega), by first | decide | (dsimp only; omega)⟩ (fun H locs I => ?_)
    rw [← aq_ug_sw (aq_tc V) (show (0 : Nat) ≠ 1 by decide) Q M4] at I
    refine lv_isub S.1 S.2.1 dX2_foresee_90 ?_
    refine lv_topi (fun x5 (ex5 : x5 = aq_over n 5 M4 - aq_over n 5 Q) => ?_)
    exact aq_xiret S.1 S.2.1 hr hlocks I dX2_foresee_91 (by decide) (by decide) (by simp [aq_forK, aq_seq, hκ1, hκ2, nk1, nk2]) (by subst_vars; first | rfl | (simp only [aq_forR, nk1, nk2]; done) | (simp only [aq_forR, nk1, nk2]; rfl)) (by subst_vars; first | rfl | (simp only [aq_forR, nk1, nk2]; done) | (simp only [aq_forR, nk1, nk2]; rfl))
  · refine lv_tableIn (x := nI 2) (tgt := 92) S.1 S.2.1 dX2_foresee_32 (by decide) (by decide) rfl (by decide) ?_
    have hl : lv_has ls 3 [(0, .ref (ad 0)), (1, .int (nI k1)), (2, .int (nI 2))] := hl
    refine lv_aload_n S.1 S.2.1 dX2_foresee_92 rfl (lv_at hl 0 rfl) ?_
    refine aC_getX S I 1 (by decide) in_X2_foresee_X2 (List.mem_of_getElem? (i := 1) rfl) dX2_foresee_93 ?_
    refine aC_getS (j := 1) (x := M4 10 7) S I (by decide) 7 (by decide) (by decide) in_X2_foresee_X0 (List.mem_of_getElem? (i := 4) rfl) (by rw [aq_ug_s]) dX2_foresee_96 ?_
    exact aq_xiret S.1 S.2.1 hr hlocks I dX2_foresee_99 (by decide) (by decide) (by simp [aq_forK, aq_seq, hκ1, hκ2, nk1, nk2]) (by subst_vars; first | rfl | (simp only [aq_forR, nk1, nk2]; done) | (simp only [aq_forR, nk1, nk2]; rfl)) (by subst_vars; first | rfl | (simp only [aq_forR, nk1, nk2]; done) | (simp only [aq_forR, nk1, nk2]; rfl))
  · refine lv_tableOut (x := nI 3) (tgt := 100) S.1 S.2.1 dX2_foresee_32 (by decide) (by decide) ?_
    have hl : lv_has ls 3 [(0, .ref (ad 0)), (1, .int (nI k1)), (2, .int (nI 3))] := hl
    refine lv_aload_n S.1 S.2.1 dX2_foresee_100 rfl (lv_at hl 0 rfl) ?_
    refine aC_getX S I 1 (by decide) in_X2_foresee_X2 (List.mem_of_getElem? (i := 1) rfl) dX2_foresee_101 ?_
    have hn_M4 : M4 10 3 = nI n := by rw [hM4]; exact (aq_goQ_n _ _ _ _).trans hn_M3
    refine aq_callVi (As := []) (rest := []) S (c_X0_flour l hJ (V := (aq_ug (aq_tc V) 0 Q)) (Q := M4) (j := 1) (by decide) hn_M4 hn20  ) (cwV 0 S.2.2.2.2 gX2_foresee_X0_flour rfl rfl rfl (by decide +kernel) ⟨Nat.le_of_ble_eq_true rfl, Nat.le_of_ble_eq_true rfl⟩) (aC_recvS (j := 1) I (by decide)) I hl.1 dX2_foresee_104 rfl rfl (Nat.le_of_ble_eq_true rfl) ⟨by first | decide | (dsimp only; omega), by first | decide | (dsimp only; omega)⟩ (fun H locs I => ?_)
    refine lv_aload_n S.1 S.2.1 dX2_foresee_107 rfl (lv_at hl 0 rfl) ?_
    refine aC_getX S I 0 (by decide) in_X2_foresee_X2 (List.mem_of_getElem? (i := 2) rfl) dX2_foresee_108 ?_
    rw [aq_ug_sw (aq_tc V) (show (0 : Nat) ≠ 1 by decide) Q M4] at I
    refine aq_callVi (As := []) (rest := [.int (aq_over n 8 M4)]) S (c_X0_flour l hJ (V := (aq_ug (aq_tc V) 1 M4)) (Q := Q) (j := 0) (by decide) hn hn20  ) (cwV 0 S.2.2.2.2 gX2_foresee_X0_flour rfl rfl rfl (by decide +kernel) ⟨Nat.le_of_ble_eq_true rfl, Nat.le_of_ble_eq_true rfl⟩) (aC_recvS (j := 0) I (by decide)) I hl.1 dX2_foresee_111 rfl rfl (Nat.le_of_ble_eq_true rfl) ⟨by first | decide | (dsimp only; omega), by first | decide | (dsimp only; omega)⟩ (fun H locs I => ?_)
    rw [← aq_ug_sw (aq_tc V) (show (0 : Nat) ≠ 1 by decide) Q M4] at I
    refine lv_isub S.1 S.2.1 dX2_foresee_114 ?_
    refine lv_topi (fun x6 (ex6 : x6 = aq_over n 8 M4 - aq_over n 8 Q) => ?_)
    exact aq_xiret S.1 S.2.1 hr hlocks I dX2_foresee_115 (by decide) (by decide) (by simp [aq_forK, aq_seq, hκ1, hκ2, nk1, nk2]) (by subst_vars; first | rfl | (simp only [aq_forR, nk1, nk2]; done) | (simp only [aq_forR, nk1, nk2]; rfl)) (by subst_vars; first | rfl | (simp only [aq_forR, nk1, nk2]; done) | (simp only [aq_forR, nk1, nk2]; rfl))
theorem in_X2_twc0_X0 : ∀ w ∈ wsX00, w ∈ wsX2_thirstWithClosed := fun _ h => List.mem_cons_of_mem _ (List.mem_append_left _ (List.mem_append_right _ h))
theorem in_X2_twc0_X2 : ∀ w ∈ wsX20, w ∈ wsX2_thirstWithClosed := fun _ h => List.mem_cons_of_mem _ (List.mem_append_left _ (List.mem_append_left _ (List.mem_append_right _ h)))
set_option maxHeartbeats 4000000 in
set_option maxRecDepth 100000 in
/-- X2_thirstWithClosed -/
theorem c_X2_twc0 (l : Launch) {D : va_G} {ad : Nat → Nat} {cI cQ : ClassId} (hJ : aq_J 49 ad) {V : aq_V} {Q Q1 : aq_Q} {n : Nat} (hn : Q 10 3 = nI n) (hn20 : n ≤ 20) {h : Nat} (hh : Q 10 4 = nI h) (h31 : h + 200 < 2 ^ 31) {T : aq_Q} (hT : V 2 = T) {z : Nat} (hz : z ≤ 100) : aq_Met l yX2_thirstWithClosed wsX2_thirstWithClosed ({ frames := 6, cells := 0, slots := 0, locals := 134 }) D (aC_t cI cQ) 49 ad [.ref (ad 0), .int ((-1)), .int (nI z)] (aC_w ad cI cQ (aq_ug (aq_ug V 0 Q) 1 Q1)) (aq_Qi D (aC_t cI cQ) 49 ad (aq_thi (aq_tw0 n T z Q Q1) Q) (aC_w ad cI cQ (aq_ug (aq_ug (aq_tc V) 0 Q) 1 (aq_tw0 n T z Q Q1)))) 0 0 := by
  refine aq_enter (cc := cX2_thirstWithClosed) (maxL := 3) (ret := some .int) (by decide) rfl (Nat.le_of_ble_eq_true rfl) ?_
  intro p e s m below meth c ls S hr hlocks hnm I hl
  have S : CallFix p m c cX2_thirstWithClosed 3 s _ wsX2_thirstWithClosed RX2 := S
  have hl : lv_has ls 3 [(0, .ref (ad 0)), (1, .int ((-1))), (2, .int (nI z))] := hl
  refine lv_aload_n S.1 S.2.1 dX2_thirstWithClosed_0 rfl (lv_at hl 0 rfl) ?_
  refine aC_getX S I 1 (by decide) in_X2_twc0_X2 (List.mem_of_getElem? (i := 1) rfl) dX2_thirstWithClosed_1 ?_
  refine lv_aload_n S.1 S.2.1 dX2_thirstWithClosed_4 rfl (lv_at hl 0 rfl) ?_
  refine aC_getX S I 0 (by decide) in_X2_twc0_X2 (List.mem_of_getElem? (i := 2) rfl) dX2_thirstWithClosed_5 ?_
  refine aq_callVv (As := [.ref (ad 3)]) (rest := []) S (c_X0_copyFrom l hJ (V := V) (Q0 := Q) (Q1 := Q1) (n := n) hn hn20) (cwV 1 S.2.2.2.2 gX2_thirstWithClosed_X0_copyFrom rfl rfl rfl (by decide +kernel) ⟨Nat.le_of_ble_eq_true rfl, Nat.le_of_ble_eq_true rfl⟩) (aC_recvS (j := 1) I (by decide)) I hl.1 dX2_thirstWithClosed_8 rfl rfl (Nat.le_of_ble_eq_true rfl) ⟨by first | decide | (dsimp only; omega), by first | decide | (dsimp only; omega)⟩ (fun H locs I => ?_)
  obtain ⟨M1, hM1⟩ : ∃ z9 : aq_Q, z9 = aq_cpQ n Q Q1 := ⟨_, rfl⟩
  rw [← hM1] at I
  have hn_M1 : M1 10 3 = nI n := by rw [hM1]; exact aq_cpQ_n _ _ _
  have hh_M1 : M1 10 4 = nI h := by rw [hM1, aq_cpQ_h]; exact hh
  refine lv_iload_n S.1 S.2.1 dX2_thirstWithClosed_11 rfl (lv_at hl 1 rfl) ?_
  refine lv_if_lt (tgt := 38) S.1 S.2.1 dX2_thirstWithClosed_12 (by decide) (fun c2 => ?_) (fun c2 => ?_)
  · refine lv_aload_n S.1 S.2.1 dX2_thirstWithClosed_38 rfl (lv_at hl 0 rfl) ?_
    refine aC_getX S I 1 (by decide) in_X2_twc0_X2 (List.mem_of_getElem? (i := 1) rfl) dX2_thirstWithClosed_39 ?_
    refine lv_iload_n S.1 S.2.1 dX2_thirstWithClosed_42 rfl (lv_at hl 2 rfl) ?_
    refine aq_callVv (As := [.int (nI z)]) (rest := []) S (c_X0_goOn l hJ (V := (aq_ug (aq_tc V) 0 Q)) (Q := M1) (j := 1) (by decide) hn_M1 hn20 (T := T) ((aq_tc_T V Q).trans hT) (h := h) (z := z) hh_M1 (by omega)) (cwV 1 S.2.2.2.2 gX2_thirstWithClosed_X0_goOn rfl rfl rfl (by decide +kernel) ⟨Nat.le_of_ble_eq_true rfl, Nat.le_of_ble_eq_true rfl⟩) (aC_recvS (j := 1) I (by decide)) I hl.1 dX2_thirstWithClosed_43 rfl rfl (Nat.le_of_ble_eq_true rfl) ⟨by first | decide | (dsimp only; omega), by first | decide | (dsimp only; omega)⟩ (fun H locs I => ?_)
    obtain ⟨M3, hM3⟩ : ∃ z9 : aq_Q, z9 = aq_goQ n T z M1 := ⟨_, rfl⟩
    rw [← hM3] at I
    refine lv_aload_n S.1 S.2.1 dX2_thirstWithClosed_46 rfl (lv_at hl 0 rfl) ?_
    refine aC_getX S I 1 (by decide) in_X2_twc0_X2 (List.mem_of_getElem? (i := 1) rfl) dX2_thirstWithClosed_47 ?_
    refine aC_getS (j := 1) (x := M3 10 12) S I (by decide) 12 (by decide) (by decide) in_X2_twc0_X0 (List.mem_of_getElem? (i := 5) rfl) (by rw [aq_ug_s]) dX2_thirstWithClosed_50 ?_
    refine lv_aload_n S.1 S.2.1 dX2_thirstWithClosed_53 rfl (lv_at hl 0 rfl) ?_
    refine aC_getX S I 0 (by decide) in_X2_twc0_X2 (List.mem_of_getElem? (i := 2) rfl) dX2_thirstWithClosed_54 ?_
    refine aC_getS (j := 0) (x := Q 10 12) S I (by decide) 12 (by decide) (by decide) in_X2_twc0_X0 (List.mem_of_getElem? (i := 5) rfl) (by rw [aq_ug_n _ _ (by decide), aq_ug_s]) dX2_thirstWithClosed_57 ?_
    refine lv_isub S.1 S.2.1 dX2_thirstWithClosed_60 ?_
    exact aq_iret S.1 S.2.1 hr hlocks I dX2_thirstWithClosed_61 (by decide) (by decide) (by subst_vars; first | rfl | (simp only [if_pos c2]; done) | (simp only [if_pos c2]; rfl)) (by subst_vars; first | rfl | (simp only [if_pos c2]; done) | (simp only [if_pos c2]; rfl))
  · exact absurd (by decide) c2
theorem in_X2_twc_X0 : ∀ w ∈ wsX00, w ∈ wsX2_thirstWithClosed := fun _ h => List.mem_cons_of_mem _ (List.mem_append_left _ (List.mem_append_right _ h))
theorem in_X2_twc_X1 : ∀ w ∈ wsX10, w ∈ wsX2_thirstWithClosed := fun _ h => List.mem_cons_of_mem _ (List.mem_append_right _ h)
theorem in_X2_twc_X2 : ∀ w ∈ wsX20, w ∈ wsX2_thirstWithClosed := fun _ h => List.mem_cons_of_mem _ (List.mem_append_left _ (List.mem_append_left _ (List.mem_append_right _ h)))
set_option maxHeartbeats 4000000 in
set_option maxRecDepth 100000 in
/-- X2_thirstWithClosed -/
theorem c_X2_twc (l : Launch) {D : va_G} {ad : Nat → Nat} {cI cQ : ClassId} (hJ : aq_J 49 ad) {V : aq_V} {Q Q1 : aq_Q} {n : Nat} (hn : Q 10 3 = nI n) (hn20 : n ≤ 20) {h : Nat} (hh : Q 10 4 = nI h) (h31 : h + 200 < 2 ^ 31) {T : aq_Q} (hT : V 2 = T) {a z : Nat} (ha : a < n) (hz : z ≤ 100) : aq_Met l yX2_thirstWithClosed wsX2_thirstWithClosed ({ frames := 6, cells := 0, slots := 0, locals := 134 }) D (aC_t cI cQ) 49 ad [.ref (ad 0), .int (nI a), .int (nI z)] (aC_w ad cI cQ (aq_ug (aq_ug V 0 Q) 1 Q1)) (aq_Qi D (aC_t cI cQ) 49 ad (aq_thi (aq_tw n T z Q Q1 a) Q) (aC_w ad cI cQ (aq_ug (aq_ug (aq_tc V) 0 Q) 1 (aq_tw n T z Q Q1 a)))) 0 0 := by
  refine aq_enter (cc := cX2_thirstWithClosed) (maxL := 3) (ret := some .int) (by decide) rfl (Nat.le_of_ble_eq_true rfl) ?_
  intro p e s m below meth c ls S hr hlocks hnm I hl
  have S : CallFix p m c cX2_thirstWithClosed 3 s _ wsX2_thirstWithClosed RX2 := S
  have hl : lv_has ls 3 [(0, .ref (ad 0)), (1, .int (nI a)), (2, .int (nI z))] := hl
  refine lv_aload_n S.1 S.2.1 dX2_thirstWithClosed_0 rfl (lv_at hl 0 rfl) ?_
  refine aC_getX S I 1 (by decide) in_X2_twc_X2 (List.mem_of_getElem? (i := 1) rfl) dX2_thirstWithClosed_1 ?_
  refine lv_aload_n S.1 S.2.1 dX2_thirstWithClosed_4 rfl (lv_at hl 0 rfl) ?_
  refine aC_getX S I 0 (by decide) in_X2_twc_X2 (List.mem_of_getElem? (i := 2) rfl) dX2_thirstWithClosed_5 ?_
  refine aq_callVv (As := [.ref (ad 3)]) (rest := []) S (c_X0_copyFrom l hJ (V := V) (Q0 := Q) (Q1 := Q1) (n := n) hn hn20) (cwV 1 S.2.2.2.2 gX2_thirstWithClosed_X0_copyFrom rfl rfl rfl (by decide +kernel) ⟨Nat.le_of_ble_eq_true rfl, Nat.le_of_ble_eq_true rfl⟩) (aC_recvS (j := 1) I (by decide)) I hl.1 dX2_thirstWithClosed_8 rfl rfl (Nat.le_of_ble_eq_true rfl) ⟨by first | decide | (dsimp only; omega), by first | decide | (dsimp only; omega)⟩ (fun H locs I => ?_)
  obtain ⟨M1, hM1⟩ : ∃ z9 : aq_Q, z9 = aq_cpQ n Q Q1 := ⟨_, rfl⟩
  rw [← hM1] at I
  have hn_M1 : M1 10 3 = nI n := by rw [hM1]; exact aq_cpQ_n _ _ _
  have hh_M1 : M1 10 4 = nI h := by rw [hM1, aq_cpQ_h]; exact hh
  refine lv_iload_n S.1 S.2.1 dX2_thirstWithClosed_11 rfl (lv_at hl 1 rfl) ?_
  refine lv_if_lt (tgt := 38) S.1 S.2.1 dX2_thirstWithClosed_12 (by decide) (fun c2 => ?_) (fun c2 => ?_)
  · have c2 : a < 0 := (nI_ltI (a := a) (b := 0) (by omega) (by omega)).mp c2
    exfalso; omega
  · have c2 : 0 ≤ a := Nat.le_of_not_lt (fun z9 => c2 ((nI_ltI (a := a) (b := 0) (by omega) (by omega)).mpr z9))
    refine lv_iload_n S.1 S.2.1 dX2_thirstWithClosed_15 rfl (lv_at hl 1 rfl) ?_
    refine lv_aload_n S.1 S.2.1 dX2_thirstWithClosed_16 rfl (lv_at hl 0 rfl) ?_
    refine aC_getX S I 1 (by decide) in_X2_twc_X2 (List.mem_of_getElem? (i := 1) rfl) dX2_thirstWithClosed_17 ?_
    refine aC_getS (j := 1) (x := nI n) S I (by decide) 3 (by decide) (by decide) in_X2_twc_X0 (List.mem_of_getElem? (i := 3) rfl) (by rw [aq_ug_s]; exact hn_M1) dX2_thirstWithClosed_20 ?_
    refine lv_icmp_ge (tgt := 38) S.1 S.2.1 dX2_thirstWithClosed_23 (by decide) (fun c3 => ?_) (fun c3 => ?_)
    · have c3 : n ≤ a := (nI_leI (a := n) (b := a) (by omega) (by omega)).mp c3
      exfalso; omega
    · have c3 : a < n := Nat.lt_of_not_le (fun z9 => c3 ((nI_leI (a := n) (b := a) (by omega) (by omega)).mpr z9))
      refine lv_aload_n S.1 S.2.1 dX2_thirstWithClosed_26 rfl (lv_at hl 0 rfl) ?_
      refine aC_getX S I 1 (by decide) in_X2_twc_X2 (List.mem_of_getElem? (i := 1) rfl) dX2_thirstWithClosed_27 ?_
      refine lv_iload_n S.1 S.2.1 dX2_thirstWithClosed_30 rfl (lv_at hl 1 rfl) ?_
      refine aq_callVr (As := [.int (nI a)]) (rest := []) S (c_X0_archAt l hJ (V := (aq_ug (aq_tc V) 0 Q)) (Q := M1) (j := 1) (by decide)  (a := a) (by omega) ) (cwV 1 S.2.2.2.2 gX2_thirstWithClosed_X0_archAt rfl rfl rfl (by decide +kernel) ⟨Nat.le_of_ble_eq_true rfl, Nat.le_of_ble_eq_true rfl⟩) (aC_recvS (j := 1) I (by decide)) I hl.1 dX2_thirstWithClosed_31 rfl rfl (Nat.le_of_ble_eq_true rfl) ⟨by first | decide | (dsimp only; omega), by first | decide | (dsimp only; omega)⟩ (fun H locs I => ?_)
      refine lv_iconst (v := 0) S.1 S.2.1 dX2_thirstWithClosed_34 (by decide) ?_
      refine aC_putA (V := (aq_ug (aq_tc V) 0 Q)) (Q := M1) (j := 1) (i := a) (x := 0) hJ S I (by decide) (by omega) 7 (by decide) in_X2_twc_X1 (List.mem_of_getElem? (i := 4) rfl) dX2_thirstWithClosed_35 (fun H locs M4 hM4 I => ?_)
      refine lv_aload_n S.1 S.2.1 dX2_thirstWithClosed_38 rfl (lv_at hl 0 rfl) ?_
      refine aC_getX S I 1 (by decide) in_X2_twc_X2 (List.mem_of_getElem? (i := 1) rfl) dX2_thirstWithClosed_39 ?_
      refine lv_iload_n S.1 S.2.1 dX2_thirstWithClosed_42 rfl (lv_at hl 2 rfl) ?_
      have hn_M4 : M4 10 3 = nI n := by rw [hM4]; exact (aq_up_f _ _ (by decide)).trans hn_M1
      have hh_M4 : M4 10 4 = nI h := by rw [hM4]; exact (aq_up_f _ _ (by decide)).trans hh_M1
      refine aq_callVv (As := [.int (nI z)]) (rest := []) S (c_X0_goOn l hJ (V := (aq_ug (aq_tc V) 0 Q)) (Q := M4) (j := 1) (by decide) hn_M4 hn20 (T := T) ((aq_tc_T V Q).trans hT) (h := h) (z := z) hh_M4 (by omega)) (cwV 1 S.2.2.2.2 gX2_thirstWithClosed_X0_goOn rfl rfl rfl (by decide +kernel) ⟨Nat.le_of_ble_eq_true rfl, Nat.le_of_ble_eq_true rfl⟩) (aC_recvS (j := 1) I (by decide)) I hl.1 dX2_thirstWithClosed_43 rfl rfl (Nat.le_of_ble_eq_true rfl) ⟨by first | decide | (dsimp only; omega), by first | decide | (dsimp only; omega)⟩ (fun H locs I => ?_)
      obtain ⟨M5, hM5⟩ : ∃ z9 : aq_Q, z9 = aq_goQ n T z M4 := ⟨_, rfl⟩
      rw [← hM5] at I
      refine lv_aload_n S.1 S.2.1 dX2_thirstWithClosed_46 rfl (lv_at hl 0 rfl) ?_
      refine aC_getX S I 1 (by decide) in_X2_twc_X2 (List.mem_of_getElem? (i := 1) rfl) dX2_thirstWithClosed_47 ?_
      refine aC_getS (j := 1) (x := M5 10 12) S I (by decide) 12 (by decide) (by decide) in_X2_twc_X0 (List.mem_of_getElem? (i := 5) rfl) (by rw [aq_ug_s]) dX2_thirstWithClosed_50 ?_
      refine lv_aload_n S.1 S.2.1 dX2_thirstWithClosed_53 rfl (lv_at hl 0 rfl) ?_
      refine aC_getX S I 0 (by decide) in_X2_twc_X2 (List.mem_of_getElem? (i := 2) rfl) dX2_thirstWithClosed_54 ?_
      refine aC_getS (j := 0) (x := Q 10 12) S I (by decide) 12 (by decide) (by decide) in_X2_twc_X0 (List.mem_of_getElem? (i := 5) rfl) (by rw [aq_ug_n _ _ (by decide), aq_ug_s]) dX2_thirstWithClosed_57 ?_
      refine lv_isub S.1 S.2.1 dX2_thirstWithClosed_60 ?_
      exact aq_iret S.1 S.2.1 hr hlocks I dX2_thirstWithClosed_61 (by decide) (by decide) (by subst_vars; first | rfl | (simp only [if_neg (Nat.not_lt.mpr c2), if_pos c3]; done) | (simp only [if_neg (Nat.not_lt.mpr c2), if_pos c3]; rfl)) (by subst_vars; first | rfl | (simp only [if_neg (Nat.not_lt.mpr c2), if_pos c3]; done) | (simp only [if_neg (Nat.not_lt.mpr c2), if_pos c3]; rfl))
theorem in_X2_advise_X0 : ∀ w ∈ wsX00, w ∈ wsX2_advise := fun _ h => List.mem_cons_of_mem _ (List.mem_append_left _ (List.mem_append_left _ (List.mem_append_right _ h)))
theorem in_X2_advise_X2 : ∀ w ∈ wsX20, w ∈ wsX2_advise := fun _ h => List.mem_cons_of_mem _ (List.mem_append_left _ (List.mem_append_left _ (List.mem_append_left _ (List.mem_append_right _ h))))
set_option maxHeartbeats 4000000 in
set_option maxRecDepth 100000 in
/-- X2_advise -/
theorem c_X2_advise (l : Launch) (hlt : l.stackTraces = false) {D : va_G} {ad : Nat → Nat} {cI cQ : ClassId} (hJ : aq_J 49 ad) {V : aq_V} {Q Q1 : aq_Q} {n : Nat} (hn : Q 10 3 = nI n) (hn20 : n ≤ 20) {h : Nat} (hh : Q 10 4 = nI h) (h31 : h + 200 < 2 ^ 31) (z : Int32) : aq_MetX l yX2_advise wsX2_advise ({ frames := 7, cells := 1, slots := 6, locals := 156 }) D (aC_t cI cQ) 49 ad [.ref (ad 0), .int z] (aC_w ad cI cQ (aq_ug (aq_ug V 0 Q) 1 Q1)) (aq_rgK z 1 48) (aq_QiX D (aC_t cI cQ) 49 ad (aq_rgK z 1 48) (aq_adviseR n (V 2) z.toNatClampNeg Q Q1) (aC_w ad cI cQ (aq_ug (aq_ug (aq_tc V) 0 Q) 1 (aq_adviseQ n (V 2) z.toNatClampNeg Q Q1)))) 1 6 := by
  refine aq_enterX (cc := cX2_advise) (maxL := 6) (ret := some .int) (by decide) rfl (Nat.le_of_ble_eq_true rfl) ?_
  intro p e s m below meth c ls S hr hlocks hout hT I hl
  have S : CallFix p m c cX2_advise 6 s _ wsX2_advise RX2 := S
  have hl : lv_has ls 6 [(0, .ref (ad 0)), (1, .int z)] := hl
  refine lv_iload_n S.1 S.2.1 dX2_advise_0 rfl (lv_at hl 1 rfl) ?_
  refine lv_iconst (v := 1) S.1 S.2.1 dX2_advise_1 (by decide) ?_
  refine lv_bipush (v := 48) S.1 S.2.1 dX2_advise_2 (by decide) ?_
  refine aq_xcallSv (κ1 := aq_rgK z 1 48) (As := [.int z, .int 1, .int 48]) (rest := []) S hT hlocks hout (c_X2_requireRange l hlt (V := (aq_ug (aq_ug V 0 Q) 1 Q1)) z 1 48) (va_cwS 3 S.2.2.2.2 gX2_advise_X2_requireRange rfl rfl rfl (by decide +kernel) ⟨Nat.le_of_ble_eq_true rfl, Nat.le_of_ble_eq_true rfl⟩)  I hl.1 dX2_advise_4 rfl rfl (Nat.le_of_ble_eq_true rfl) ⟨by decide, by decide⟩ ⟨by decide, by decide⟩ (fun hz => by simp [aq_seq, hz]) (fun hκ1 H locs I => ?_)
  obtain ⟨k1, hk1, gk1, ek1⟩ := aq_rgK_ok (a := 1) (b := 48) (by omega) (by omega) (show aq_rgK z (nI 1) (nI 48) = 0 from hκ1)
  subst ek1
  have nk1 : (nI k1).toNatClampNeg = k1 := nI_clamp (by omega)
  refine lv_iconst (v := (-1)) S.1 S.2.1 dX2_advise_7 (by decide) ?_
  refine lv_istore_n (lv' := [(2, .int ((-1))), (0, .ref (ad 0)), (1, .int (nI k1))]) S.1 S.2.1 dX2_advise_8 rfl hl (by decide) rfl (fun ls hl => ?_)
  refine lv_aload_n S.1 S.2.1 dX2_advise_9 rfl (lv_at hl 1 rfl) ?_
  refine lv_iconst (v := (-1)) S.1 S.2.1 dX2_advise_10 (by decide) ?_
  refine lv_iload_n S.1 S.2.1 dX2_advise_11 rfl (lv_at hl 2 rfl) ?_
  refine aq_callVi (As := [.int ((-1)), .int (nI k1)]) (rest := []) S (c_X2_twc0 l hJ (V := V) (Q := Q) (Q1 := Q1) (n := n) hn hn20 (h := h) hh h31 (T := V 2) rfl (z := k1) (by omega)) (cwV 2 S.2.2.2.2 gX2_advise_X2_thirstWithClosed rfl rfl rfl (by decide +kernel) ⟨Nat.le_of_ble_eq_true rfl, Nat.le_of_ble_eq_true rfl⟩) (aC_recvX I) I hl.1 dX2_advise_12 rfl rfl (Nat.le_of_ble_eq_true rfl) ⟨by first | decide | (dsimp only; omega), by first | decide | (dsimp only; omega)⟩ (fun H locs I => ?_)
  obtain ⟨M2, hM2⟩ : ∃ z9 : aq_Q, z9 = aq_tw0 n (V 2) k1 Q Q1 := ⟨_, rfl⟩
  rw [← hM2] at I
  refine lv_topi (fun x3 (ex3 : x3 = aq_thi (aq_tw0 n (V 2) k1 Q Q1) Q) => ?_)
  refine lv_istore_n (lv' := [(3, .int x3), (2, .int ((-1))), (0, .ref (ad 0)), (1, .int (nI k1))]) S.1 S.2.1 dX2_advise_15 rfl hl (by decide) rfl (fun ls hl => ?_)
  refine lv_iconst (v := 0) S.1 S.2.1 dX2_advise_16 (by decide) ?_
  refine lv_istore (lv' := [(4, .int 0), (3, .int x3), (2, .int ((-1))), (0, .ref (ad 0)), (1, .int (nI k1))]) S.1 S.2.1 dX2_advise_17 hl (by decide) rfl (fun ls hl => ?_)
  have L19 : ∀ (k : Nat) (i : Nat) (b x : Int32) (Q' : aq_Q), (i + k = n) → (aq_advR n (V 2) k1 Q k i b x Q' = aq_adviseR n (V 2) (nI k1).toNatClampNeg Q Q1) → (aq_advQ n (V 2) k1 Q k i b x Q' = aq_adviseQ n (V 2) (nI k1).toNatClampNeg Q Q1) → ∀ (H : Heap) (locs : List Loc), aq_I D (aC_t cI cQ) (aq_A 49 ad) (aC_w ad cI cQ (aq_ug (aq_ug (aq_tc V) 0 Q) 1 (Q'))) s H locs → ∀ ls : Array Slot, lv_has ls 6 [(4, .int (nI i)), (3, .int x), (2, .int b), (0, .ref (ad 0)), (1, .int (nI k1))] → W p l e ({ frames := 7, cells := 1, slots := 6, locals := 156 } : Room) s m (([.ref (ad 0), .int (nI k1)] : List Value).toArray) below meth c H locs 1 6 (vx_MQ below ((aq_QiX D (aC_t cI cQ) 49 ad (aq_rgK (nI k1) 1 48) (aq_adviseR n (V 2) (nI k1).toNatClampNeg Q Q1) (aC_w ad cI cQ (aq_ug (aq_ug (aq_tc V) 0 Q) 1 (aq_adviseQ n (V 2) (nI k1).toNatClampNeg Q Q1)))) s.heap.size) (aq_XC D (aC_t cI cQ) 49 ad (aq_rgK (nI k1) 1 48) (aC_w ad cI cQ (aq_ug (aq_ug V 0 Q) 1 Q1)) s.heap.size) (([.ref (ad 0), .int (nI k1)] : List Value).toArray) s 1 6 (aq_A 49 ad s.heap.size)) (F0 m 19 ls []) := by
    intro k
    induction k with
    | zero =>
      intro i b x Q' hk hqr hqq H locs I ls hl
      refine lv_iload S.1 S.2.1 dX2_advise_19 (lv_at hl 0 rfl) ?_
      refine lv_aload_n S.1 S.2.1 dX2_advise_21 rfl (lv_at hl 3 rfl) ?_
      refine aC_getX S I 0 (by decide) in_X2_advise_X2 (List.mem_of_getElem? (i := 1) rfl) dX2_advise_22 ?_
      refine aC_getS (j := 0) (x := nI n) S I (by decide) 3 (by decide) (by decide) in_X2_advise_X0 (List.mem_of_getElem? (i := 2) rfl) (by rw [aq_ug_n _ _ (by decide), aq_ug_s]; exact hn) dX2_advise_25 ?_
      refine lv_icmp_ge (tgt := 73) S.1 S.2.1 dX2_advise_28 (by decide) (fun c4 => ?_) (fun c4 => ?_)
      · have c4 : n ≤ i := (nI_leI (a := n) (b := i) (by omega) (by omega)).mp c4
        refine lv_iload_n S.1 S.2.1 dX2_advise_73 rfl (lv_at hl 2 rfl) ?_
        exact aq_xiret S.1 S.2.1 hr hlocks I dX2_advise_74 (by decide) (by decide) (by simp [aq_seq, hκ1, nk1]) hqr (congrArg (fun z9 => aC_w ad cI cQ (aq_ug (aq_ug (aq_tc V) 0 Q) 1 z9)) hqq)
      · have c4 : i < n := Nat.lt_of_not_le (fun z9 => c4 ((nI_leI (a := n) (b := i) (by omega) (by omega)).mpr z9))
        exfalso; omega
    | succ k ih =>
      intro i b x Q' hk hqr hqq H locs I ls hl
      refine lv_iload S.1 S.2.1 dX2_advise_19 (lv_at hl 0 rfl) ?_
      refine lv_aload_n S.1 S.2.1 dX2_advise_21 rfl (lv_at hl 3 rfl) ?_
      refine aC_getX S I 0 (by decide) in_X2_advise_X2 (List.mem_of_getElem? (i := 1) rfl) dX2_advise_22 ?_
      refine aC_getS (j := 0) (x := nI n) S I (by decide) 3 (by decide) (by decide) in_X2_advise_X0 (List.mem_of_getElem? (i := 2) rfl) (by rw [aq_ug_n _ _ (by decide), aq_ug_s]; exact hn) dX2_advise_25 ?_
      refine lv_icmp_ge (tgt := 73) S.1 S.2.1 dX2_advise_28 (by decide) (fun c5 => ?_) (fun c5 => ?_)
      · have c5 : n ≤ i := (nI_leI (a := n) (b := i) (by omega) (by omega)).mp c5
        exfalso; omega
      · have c5 : i < n := Nat.lt_of_not_le (fun z9 => c5 ((nI_leI (a := n) (b := i) (by omega) (by omega)).mpr z9))
        refine lv_aload_n S.1 S.2.1 dX2_advise_31 rfl (lv_at hl 3 rfl) ?_
        refine aC_getX S I 0 (by decide) in_X2_advise_X2 (List.mem_of_getElem? (i := 1) rfl) dX2_advise_32 ?_
        refine lv_iload S.1 S.2.1 dX2_advise_35 (lv_at hl 0 rfl) ?_
        rw [aq_ug_sw (aq_tc V) (show (0 : Nat) ≠ 1 by decide) Q Q'] at I
        refine aq_callVr (As := [.int (nI i)]) (rest := []) S (c_X0_archAt l hJ (V := (aq_ug (aq_tc V) 1 (Q'))) (Q := Q) (j := 0) (by decide)  (a := i) (by omega) ) (cwV 1 S.2.2.2.2 gX2_advise_X0_archAt rfl rfl rfl (by decide +kernel) ⟨Nat.le_of_ble_eq_true rfl, Nat.le_of_ble_eq_true rfl⟩) (aC_recvS (j := 0) I (by decide)) I hl.1 dX2_advise_37 rfl rfl (Nat.le_of_ble_eq_true rfl) ⟨by first | decide | (dsimp only; omega), by first | decide | (dsimp only; omega)⟩ (fun H locs I => ?_)
        rw [← aq_ug_sw (aq_tc V) (show (0 : Nat) ≠ 1 by decide) Q Q'] at I
        rw [aq_ug_sw (aq_tc V) (show (0 : Nat) ≠ 1 by decide) Q Q'] at I
        refine aq_callVi (As := []) (rest := []) S (c_X1_hasOpenSluice l hJ (V := (aq_ug (aq_tc V) 1 (Q'))) (Q := Q) (j := 0) (i := i) (by decide) (by omega) ) (cwV 0 S.2.2.2.2 gX2_advise_X1_hasOpenSluice rfl rfl rfl (by decide +kernel) ⟨Nat.le_of_ble_eq_true rfl, Nat.le_of_ble_eq_true rfl⟩) (aC_recvA (j := 0) (i := i) I (by decide) (by omega)) I hl.1 dX2_advise_40 rfl rfl (Nat.le_of_ble_eq_true rfl) ⟨by first | decide | (dsimp only; omega), by first | decide | (dsimp only; omega)⟩ (fun H locs I => ?_)
        rw [← aq_ug_sw (aq_tc V) (show (0 : Nat) ≠ 1 by decide) Q Q'] at I
        refine lv_if_eq (tgt := 67) S.1 S.2.1 dX2_advise_43 (by decide) (fun c6 => ?_) (fun c6 => ?_)
        · refine lv_iinc (v := nI (i + 1)) (lv' := [(4, .int (nI (i + 1))), (3, .int x), (2, .int b), (0, .ref (ad 0)), (1, .int (nI k1))]) S.1 S.2.1 dX2_advise_67 hl (k := 0) rfl (nI_1 _) (by decide) rfl (fun ls hl => ?_)
          refine lv_goto (tgt := 19) S.1 S.2.1 dX2_advise_70 (by decide) ?_
          exact ih (i + 1) b x Q' (by omega) (by rw [aq_advR, if_pos c6] at hqr; exact hqr) (by rw [aq_advQ, if_pos c6] at hqq; exact hqq) _ _ I ls (lv_sub hl [0, 1, 2, 3, 4] rfl)
        · refine lv_aload_n S.1 S.2.1 dX2_advise_46 rfl (lv_at hl 3 rfl) ?_
          refine lv_iload S.1 S.2.1 dX2_advise_47 (lv_at hl 0 rfl) ?_
          refine lv_iload_n S.1 S.2.1 dX2_advise_49 rfl (lv_at hl 4 rfl) ?_
          refine aq_callVi (As := [.int (nI i), .int (nI k1)]) (rest := []) S (c_X2_twc l hJ (V := (aq_tc V)) (Q := Q) (Q1 := Q') (n := n) hn hn20 (h := h) hh h31 (T := V 2) (aq_tc_2 V) (a := i) (z := k1) (by omega) (by omega)) (cwV 2 S.2.2.2.2 gX2_advise_X2_thirstWithClosed rfl rfl rfl (by decide +kernel) ⟨Nat.le_of_ble_eq_true rfl, Nat.le_of_ble_eq_true rfl⟩) (aC_recvX I) I hl.1 dX2_advise_50 rfl rfl (Nat.le_of_ble_eq_true rfl) ⟨by first | decide | (dsimp only; omega), by first | decide | (dsimp only; omega)⟩ (fun H locs I => ?_)
          rw [aq_tc_tc] at I
          obtain ⟨M7, hM7⟩ : ∃ z9 : aq_Q, z9 = aq_tw n (V 2) k1 Q Q' i := ⟨_, rfl⟩
          rw [← hM7] at I
          refine lv_topi (fun x8 (ex8 : x8 = aq_thi (aq_tw n (V 2) k1 Q Q' i) Q) => ?_)
          refine lv_istore (lv' := [(5, .int x8), (4, .int (nI i)), (3, .int x), (2, .int b), (0, .ref (ad 0)), (1, .int (nI k1))]) S.1 S.2.1 dX2_advise_53 hl (by decide) rfl (fun ls hl => ?_)
          refine lv_iload S.1 S.2.1 dX2_advise_55 (lv_at hl 0 rfl) ?_
          refine lv_iload_n S.1 S.2.1 dX2_advise_57 rfl (lv_at hl 2 rfl) ?_
          refine lv_icmp_ge (tgt := 67) S.1 S.2.1 dX2_advise_58 (by decide) (fun c9 => ?_) (fun c9 => ?_)
          · refine lv_iinc (v := nI (i + 1)) (lv' := [(4, .int (nI (i + 1))), (5, .int x8), (3, .int x), (2, .int b), (0, .ref (ad 0)), (1, .int (nI k1))]) S.1 S.2.1 dX2_advise_67 hl (k := 1) rfl (nI_1 _) (by decide) rfl (fun ls hl => ?_)
            refine lv_goto (tgt := 19) S.1 S.2.1 dX2_advise_70 (by decide) ?_
            exact ih (i + 1) b x M7 (by omega) (by subst ex8; subst hM7; rw [aq_advR, if_neg c6, if_pos c9] at hqr; exact hqr) (by subst ex8; subst hM7; rw [aq_advQ, if_neg c6, if_pos c9] at hqq; exact hqq) _ _ I ls (lv_sub hl [0, 2, 3, 4, 5] rfl)
          · refine lv_iload S.1 S.2.1 dX2_advise_61 (lv_at hl 0 rfl) ?_
            refine lv_istore_n (lv' := [(3, .int x8), (5, .int x8), (4, .int (nI i)), (2, .int b), (0, .ref (ad 0)), (1, .int (nI k1))]) S.1 S.2.1 dX2_advise_63 rfl hl (by decide) rfl (fun ls hl => ?_)
            refine lv_iload S.1 S.2.1 dX2_advise_64 (lv_at hl 2 rfl) ?_
            refine lv_istore_n (lv' := [(2, .int (nI i)), (3, .int x8), (5, .int x8), (4, .int (nI i)), (0, .ref (ad 0)), (1, .int (nI k1))]) S.1 S.2.1 dX2_advise_66 rfl hl (by decide) rfl (fun ls hl => ?_)
            refine lv_iinc (v := nI (i + 1)) (lv' := [(4, .int (nI (i + 1))), (2, .int (nI i)), (3, .int x8), (5, .int x8), (0, .ref (ad 0)), (1, .int (nI k1))]) S.1 S.2.1 dX2_advise_67 hl (k := 3) rfl (nI_1 _) (by decide) rfl (fun ls hl => ?_)
            refine lv_goto (tgt := 19) S.1 S.2.1 dX2_advise_70 (by decide) ?_
            exact ih (i + 1) (nI i) x8 M7 (by omega) (by subst ex8; subst hM7; rw [aq_advR, if_neg c6, if_neg c9] at hqr; exact hqr) (by subst ex8; subst hM7; rw [aq_advQ, if_neg c6, if_neg c9] at hqq; exact hqq) _ _ I ls (lv_sub hl [0, 2, 1, 4, 5] rfl)
  exact L19 n 0 (-1) x3 M2 (by omega) (by subst ex3; subst hM2; rw [nk1]; rfl) (by subst ex3; subst hM2; rw [nk1]; rfl) _ _ I ls (lv_sub hl [0, 1, 2, 3, 4] rfl)
theorem in_X2_thirsty_X0 : ∀ w ∈ wsX00, w ∈ wsX2_thirsty := fun _ h => List.mem_cons_of_mem _ (List.mem_append_left _ (List.mem_append_right _ h))
theorem in_X2_thirsty_X2 : ∀ w ∈ wsX20, w ∈ wsX2_thirsty := fun _ h => List.mem_cons_of_mem _ (List.mem_append_left _ (List.mem_append_left _ (List.mem_append_right _ h)))
set_option maxHeartbeats 4000000 in
set_option maxRecDepth 100000 in
/-- X2_thirsty -/
theorem c_X2_thirsty (l : Launch) {D : va_G} {ad : Nat → Nat} {cI cQ : ClassId} (hJ : aq_J 49 ad) {V : aq_V} {Q Q1 : aq_Q} {n : Nat} (hn : Q 10 3 = nI n) (hn20 : n ≤ 20) {h : Nat} (hh : Q 10 4 = nI h) (h31 : h + 200 < 2 ^ 31) {z : Nat} (hz : z = 200) : aq_Met l yX2_thirsty wsX2_thirsty ({ frames := 6, cells := 0, slots := 0, locals := 134 }) D (aC_t cI cQ) 49 ad [.ref (ad 0)] (aC_w ad cI cQ (aq_ug (aq_ug V 0 Q) 1 Q1)) (aq_Qi D (aC_t cI cQ) 49 ad (aq_thsR n (V 2) Q z 1 (aq_cpQ n Q Q1)) (aC_w ad cI cQ (aq_ug (aq_ug (aq_tc V) 0 Q) 1 (aq_thsQ n (V 2) Q z 1 (aq_cpQ n Q Q1))))) 0 0 := by
  refine aq_enter (cc := cX2_thirsty) (maxL := 2) (ret := some .int) (by decide) rfl (Nat.le_of_ble_eq_true rfl) ?_
  intro p e s m below meth c ls S hr hlocks hnm I hl
  have S : CallFix p m c cX2_thirsty 2 s _ wsX2_thirsty RX2 := S
  have hl : lv_has ls 2 [(0, .ref (ad 0))] := hl
  refine lv_aload_n S.1 S.2.1 dX2_thirsty_0 rfl (lv_at hl 0 rfl) ?_
  refine aC_getX S I 1 (by decide) in_X2_thirsty_X2 (List.mem_of_getElem? (i := 1) rfl) dX2_thirsty_1 ?_
  refine lv_aload_n S.1 S.2.1 dX2_thirsty_4 rfl (lv_at hl 0 rfl) ?_
  refine aC_getX S I 0 (by decide) in_X2_thirsty_X2 (List.mem_of_getElem? (i := 2) rfl) dX2_thirsty_5 ?_
  refine aq_callVv (As := [.ref (ad 3)]) (rest := []) S (c_X0_copyFrom l hJ (V := V) (Q0 := Q) (Q1 := Q1) (n := n) hn hn20) (cwV 1 S.2.2.2.2 gX2_thirsty_X0_copyFrom rfl rfl rfl (by decide +kernel) ⟨Nat.le_of_ble_eq_true rfl, Nat.le_of_ble_eq_true rfl⟩) (aC_recvS (j := 1) I (by decide)) I hl.1 dX2_thirsty_8 rfl rfl (Nat.le_of_ble_eq_true rfl) ⟨by first | decide | (dsimp only; omega), by first | decide | (dsimp only; omega)⟩ (fun H locs I => ?_)
  obtain ⟨M1, hM1⟩ : ∃ z9 : aq_Q, z9 = aq_cpQ n Q Q1 := ⟨_, rfl⟩
  rw [← hM1] at I
  have hn_M1 : M1 10 3 = nI n := by rw [hM1]; exact aq_cpQ_n _ _ _
  have hh_M1 : M1 10 4 = nI h := by rw [hM1, aq_cpQ_h]; exact hh
  refine lv_iconst (v := 1) S.1 S.2.1 dX2_thirsty_11 (by decide) ?_
  refine lv_istore_n (lv' := [(1, .int 1), (0, .ref (ad 0))]) S.1 S.2.1 dX2_thirsty_12 rfl hl (by decide) rfl (fun ls hl => ?_)
  have L13 : ∀ (k : Nat) (i h' : Nat) (Q' : aq_Q), (i + k = z + 1) → (Q' 10 3 = nI n) → (Q' 10 4 = nI h') → (h' + k < 2 ^ 31) → (aq_thsR n (V 2) Q k i Q' = aq_thsR n (V 2) Q z 1 (aq_cpQ n Q Q1)) → (aq_thsQ n (V 2) Q k i Q' = aq_thsQ n (V 2) Q z 1 (aq_cpQ n Q Q1)) → ∀ (H : Heap) (locs : List Loc), aq_I D (aC_t cI cQ) (aq_A 49 ad) (aC_w ad cI cQ (aq_ug (aq_ug (aq_tc V) 0 Q) 1 (Q'))) s H locs → ∀ ls : Array Slot, lv_has ls 2 [(1, .int (nI i)), (0, .ref (ad 0))] → W p l e ({ frames := 6, cells := 0, slots := 0, locals := 134 } : Room) s m (([.ref (ad 0)] : List Value).toArray) below meth c H locs 0 0 (MQ below ((aq_Qi D (aC_t cI cQ) 49 ad (aq_thsR n (V 2) Q z 1 (aq_cpQ n Q Q1)) (aC_w ad cI cQ (aq_ug (aq_ug (aq_tc V) 0 Q) 1 (aq_thsQ n (V 2) Q z 1 (aq_cpQ n Q Q1))))) s.heap.size) (([.ref (ad 0)] : List Value).toArray) s 0 0 (aq_A 49 ad s.heap.size)) (F0 m 13 ls []) := by
    intro k
    induction k with
    | zero =>
      intro i h' Q' hk hn' hh' h31' hqr hqq H locs I ls hl
      refine lv_iload_n S.1 S.2.1 dX2_thirsty_13 rfl (lv_at hl 0 rfl) ?_
      refine lv_sipush (v := 200) S.1 S.2.1 dX2_thirsty_14 (by decide) ?_
      refine lv_icmp_gt (tgt := 53) S.1 S.2.1 dX2_thirsty_17 (by decide) (fun c2 => ?_) (fun c2 => ?_)
      · have c2 : 200 < i := (nI_ltI (a := 200) (b := i) (by omega) (by omega)).mp c2
        refine lv_iconst (v := (-1)) S.1 S.2.1 dX2_thirsty_53 (by decide) ?_
        exact aq_iret S.1 S.2.1 hr hlocks I dX2_thirsty_54 (by decide) (by decide) hqr (congrArg (fun z9 => aC_w ad cI cQ (aq_ug (aq_ug (aq_tc V) 0 Q) 1 z9)) hqq)
      · have c2 : i ≤ 200 := Nat.le_of_not_lt (fun z9 => c2 ((nI_ltI (a := 200) (b := i) (by omega) (by omega)).mpr z9))
        exfalso; omega
    | succ k ih =>
      intro i h' Q' hk hn' hh' h31' hqr hqq H locs I ls hl
      refine lv_iload_n S.1 S.2.1 dX2_thirsty_13 rfl (lv_at hl 0 rfl) ?_
      refine lv_sipush (v := 200) S.1 S.2.1 dX2_thirsty_14 (by decide) ?_
      refine lv_icmp_gt (tgt := 53) S.1 S.2.1 dX2_thirsty_17 (by decide) (fun c3 => ?_) (fun c3 => ?_)
      · have c3 : 200 < i := (nI_ltI (a := 200) (b := i) (by omega) (by omega)).mp c3
        exfalso; omega
      · have c3 : i ≤ 200 := Nat.le_of_not_lt (fun z9 => c3 ((nI_ltI (a := 200) (b := i) (by omega) (by omega)).mpr z9))
        refine lv_aload_n S.1 S.2.1 dX2_thirsty_20 rfl (lv_at hl 1 rfl) ?_
        refine aC_getX S I 1 (by decide) in_X2_thirsty_X2 (List.mem_of_getElem? (i := 1) rfl) dX2_thirsty_21 ?_
        refine lv_iconst (v := 1) S.1 S.2.1 dX2_thirsty_24 (by decide) ?_
        refine aq_callVv (As := [.int 1]) (rest := []) S (c_X0_goOn l hJ (V := (aq_ug (aq_tc V) 0 Q)) (Q := Q') (j := 1) (by decide) hn' hn20 (T := (V 2)) (aq_tc_T V Q) (h := h') (z := 1) hh' (by omega)) (cwV 1 S.2.2.2.2 gX2_thirsty_X0_goOn rfl rfl rfl (by decide +kernel) ⟨Nat.le_of_ble_eq_true rfl, Nat.le_of_ble_eq_true rfl⟩) (aC_recvS (j := 1) I (by decide)) I hl.1 dX2_thirsty_25 rfl rfl (Nat.le_of_ble_eq_true rfl) ⟨by first | decide | (dsimp only; omega), by first | decide | (dsimp only; omega)⟩ (fun H locs I => ?_)
        obtain ⟨M4, hM4⟩ : ∃ z9 : aq_Q, z9 = aq_goQ n (V 2) 1 Q' := ⟨_, rfl⟩
        rw [← hM4] at I
        have hM4 : M4 = aq_hourQ n (V 2) Q' := hM4
        have hh_M4 : M4 10 4 = nI (h' + 1) := by rw [hM4, aq_hourQ_eq hh' (by omega), aq_hourD_h, hh', nI_1]
        refine lv_aload_n S.1 S.2.1 dX2_thirsty_28 rfl (lv_at hl 1 rfl) ?_
        refine aC_getX S I 1 (by decide) in_X2_thirsty_X2 (List.mem_of_getElem? (i := 1) rfl) dX2_thirsty_29 ?_
        refine aC_getS (j := 1) (x := M4 10 12) S I (by decide) 12 (by decide) (by decide) in_X2_thirsty_X0 (List.mem_of_getElem? (i := 3) rfl) (by rw [aq_ug_s]) dX2_thirsty_32 ?_
        refine lv_aload_n S.1 S.2.1 dX2_thirsty_35 rfl (lv_at hl 1 rfl) ?_
        refine aC_getX S I 0 (by decide) in_X2_thirsty_X2 (List.mem_of_getElem? (i := 2) rfl) dX2_thirsty_36 ?_
        refine aC_getS (j := 0) (x := Q 10 12) S I (by decide) 12 (by decide) (by decide) in_X2_thirsty_X0 (List.mem_of_getElem? (i := 3) rfl) (by rw [aq_ug_n _ _ (by decide), aq_ug_s]) dX2_thirsty_39 ?_
        refine lv_icmp_le (tgt := 47) S.1 S.2.1 dX2_thirsty_42 (by decide) (fun c5 => ?_) (fun c5 => ?_)
        · refine lv_iinc (v := nI (i + 1)) (lv' := [(1, .int (nI (i + 1))), (0, .ref (ad 0))]) S.1 S.2.1 dX2_thirsty_47 hl (k := 0) rfl (nI_1 _) (by decide) rfl (fun ls hl => ?_)
          refine lv_goto (tgt := 13) S.1 S.2.1 dX2_thirsty_50 (by decide) ?_
          have hn_M4 : M4 10 3 = nI n := by rw [hM4]; exact (aq_hourQ_n _ _ _).trans hn'
          exact ih (i + 1) (h' + 1) M4 (by omega) hn_M4 hh_M4 (by omega) (by subst hM4; rw [aq_thsR, if_pos c5] at hqr; exact hqr) (by subst hM4; rw [aq_thsQ, if_pos c5] at hqq; exact hqq) _ _ I ls (lv_sub hl [0, 1] rfl)
        · refine lv_iload_n S.1 S.2.1 dX2_thirsty_45 rfl (lv_at hl 0 rfl) ?_
          exact aq_iret S.1 S.2.1 hr hlocks I dX2_thirsty_46 (by decide) (by decide) (by subst hM4; rw [aq_thsR, if_neg c5] at hqr; exact hqr) (by subst hM4; rw [aq_thsQ, if_neg c5] at hqq; exact (congrArg (fun z9 => aC_w ad cI cQ (aq_ug (aq_ug (aq_tc V) 0 Q) 1 z9)) hqq))
  exact L13 z 1 h M1 (by omega) hn_M1 hh_M1 (by omega) (by rw [hM1]) (by rw [hM1]) _ _ I ls (lv_sub hl [0, 1] rfl)
theorem in_X2_worst_X0 : ∀ w ∈ wsX00, w ∈ wsX2_worst := fun _ h => List.mem_cons_of_mem _ (List.mem_append_left _ (List.mem_append_right _ h))
theorem in_X2_worst_X1 : ∀ w ∈ wsX10, w ∈ wsX2_worst := fun _ h => List.mem_cons_of_mem _ (List.mem_append_right _ h)
theorem in_X2_worst_X2 : ∀ w ∈ wsX20, w ∈ wsX2_worst := fun _ h => List.mem_cons_of_mem _ (List.mem_append_left _ (List.mem_append_left _ (List.mem_append_right _ h)))
set_option maxHeartbeats 4000000 in
set_option maxRecDepth 100000 in
/-- X2_worst -/
theorem c_X2_worst (l : Launch) {D : va_G} {ad : Nat → Nat} {cI cQ : ClassId} (hJ : aq_J 49 ad) {V : aq_V} {Q : aq_Q} {n : Nat} (hn : Q 10 3 = nI n) (hn20 : n ≤ 20) : aq_Met l yX2_worst wsX2_worst ({ frames := 1, cells := 0, slots := 0, locals := 21 }) D (aC_t cI cQ) 49 ad [.ref (ad 0)] (aC_w ad cI cQ (aq_ug V 0 Q)) (aq_Qi D (aC_t cI cQ) 49 ad (aq_worR Q n 0 (-1) 0) (aC_w ad cI cQ (aq_ug V 0 Q))) 0 0 := by
  refine aq_enter (cc := cX2_worst) (maxL := 5) (ret := some .int) (by decide) rfl (Nat.le_of_ble_eq_true rfl) ?_
  intro p e s m below meth c ls S hr hlocks hnm I hl
  have S : CallFix p m c cX2_worst 5 s _ wsX2_worst RX2 := S
  have hl : lv_has ls 5 [(0, .ref (ad 0))] := hl
  have L6 : ∀ (k : Nat) (i : Nat) (w x : Int32), (i + k = n) → (aq_worR Q k i w x = aq_worR Q n 0 (-1) 0) → ∀ (H : Heap) (locs : List Loc), aq_I D (aC_t cI cQ) (aq_A 49 ad) (aC_w ad cI cQ (aq_ug V 0 Q)) s H locs → ∀ ls : Array Slot, lv_has ls 5 [(3, .int (nI i)), (2, .int x), (1, .int w), (0, .ref (ad 0))] → W p l e ({ frames := 1, cells := 0, slots := 0, locals := 21 } : Room) s m (([.ref (ad 0)] : List Value).toArray) below meth c H locs 0 0 (MQ below ((aq_Qi D (aC_t cI cQ) 49 ad (aq_worR Q n 0 (-1) 0) (aC_w ad cI cQ (aq_ug V 0 Q))) s.heap.size) (([.ref (ad 0)] : List Value).toArray) s 0 0 (aq_A 49 ad s.heap.size)) (F0 m 6 ls []) := by
    intro k
    induction k with
    | zero =>
      intro i w x hk hq H locs I ls hl
      refine lv_iload_n S.1 S.2.1 dX2_worst_6 rfl (lv_at hl 0 rfl) ?_
      refine lv_aload_n S.1 S.2.1 dX2_worst_7 rfl (lv_at hl 3 rfl) ?_
      refine aC_getX S I 0 (by decide) in_X2_worst_X2 (List.mem_of_getElem? (i := 1) rfl) dX2_worst_8 ?_
      refine aC_getS (j := 0) (x := nI n) S I (by decide) 3 (by decide) (by decide) in_X2_worst_X0 (List.mem_of_getElem? (i := 2) rfl) (by rw [aq_ug_s]; exact hn) dX2_worst_11 ?_
      refine lv_icmp_ge (tgt := 47) S.1 S.2.1 dX2_worst_14 (by decide) (fun c1 => ?_) (fun c1 => ?_)
      · have c1 : n ≤ i := (nI_leI (a := n) (b := i) (by omega) (by omega)).mp c1
        refine lv_iload_n S.1 S.2.1 dX2_worst_47 rfl (lv_at hl 2 rfl) ?_
        exact aq_iret S.1 S.2.1 hr hlocks I dX2_worst_48 (by decide) (by decide) hq rfl
      · have c1 : i < n := Nat.lt_of_not_le (fun z9 => c1 ((nI_leI (a := n) (b := i) (by omega) (by omega)).mpr z9))
        exfalso; omega
    | succ k ih =>
      intro i w x hk hq H locs I ls hl
      refine lv_iload_n S.1 S.2.1 dX2_worst_6 rfl (lv_at hl 0 rfl) ?_
      refine lv_aload_n S.1 S.2.1 dX2_worst_7 rfl (lv_at hl 3 rfl) ?_
      refine aC_getX S I 0 (by decide) in_X2_worst_X2 (List.mem_of_getElem? (i := 1) rfl) dX2_worst_8 ?_
      refine aC_getS (j := 0) (x := nI n) S I (by decide) 3 (by decide) (by decide) in_X2_worst_X0 (List.mem_of_getElem? (i := 2) rfl) (by rw [aq_ug_s]; exact hn) dX2_worst_11 ?_
      refine lv_icmp_ge (tgt := 47) S.1 S.2.1 dX2_worst_14 (by decide) (fun c2 => ?_) (fun c2 => ?_)
      · have c2 : n ≤ i := (nI_leI (a := n) (b := i) (by omega) (by omega)).mp c2
        exfalso; omega
      · have c2 : i < n := Nat.lt_of_not_le (fun z9 => c2 ((nI_leI (a := n) (b := i) (by omega) (by omega)).mpr z9))
        refine lv_aload_n S.1 S.2.1 dX2_worst_17 rfl (lv_at hl 3 rfl) ?_
        refine aC_getX S I 0 (by decide) in_X2_worst_X2 (List.mem_of_getElem? (i := 1) rfl) dX2_worst_18 ?_
        refine lv_iload_n S.1 S.2.1 dX2_worst_21 rfl (lv_at hl 0 rfl) ?_
        refine aq_callVr (As := [.int (nI i)]) (rest := []) S (c_X0_archAt l hJ (V := V) (Q := Q) (j := 0) (by decide)  (a := i) (by omega) ) (cwV 1 S.2.2.2.2 gX2_worst_X0_archAt rfl rfl rfl (by decide +kernel) ⟨Nat.le_of_ble_eq_true rfl, Nat.le_of_ble_eq_true rfl⟩) (aC_recvS (j := 0) I (by decide)) I hl.1 dX2_worst_22 rfl rfl (Nat.le_of_ble_eq_true rfl) ⟨by first | decide | (dsimp only; omega), by first | decide | (dsimp only; omega)⟩ (fun H locs I => ?_)
        refine aC_getA (j := 0) (i := i) (x := Q 5 i) S I (by decide) (by omega) 5 (by decide) in_X2_worst_X1 (List.mem_of_getElem? (i := 3) rfl) (by rw [aq_ug_s]) dX2_worst_25 ?_
        refine lv_istore (lv' := [(4, .int (Q 5 i)), (3, .int (nI i)), (2, .int x), (1, .int w), (0, .ref (ad 0))]) S.1 S.2.1 dX2_worst_28 hl (by decide) rfl (fun ls hl => ?_)
        refine lv_iload S.1 S.2.1 dX2_worst_30 (lv_at hl 0 rfl) ?_
        refine lv_iload_n S.1 S.2.1 dX2_worst_32 rfl (lv_at hl 2 rfl) ?_
        refine lv_icmp_le (tgt := 41) S.1 S.2.1 dX2_worst_33 (by decide) (fun c3 => ?_) (fun c3 => ?_)
        · refine lv_iinc (v := nI (i + 1)) (lv' := [(3, .int (nI (i + 1))), (4, .int (Q 5 i)), (2, .int x), (1, .int w), (0, .ref (ad 0))]) S.1 S.2.1 dX2_worst_41 hl (k := 1) rfl (nI_1 _) (by decide) rfl (fun ls hl => ?_)
          refine lv_goto (tgt := 6) S.1 S.2.1 dX2_worst_44 (by decide) ?_
          exact ih (i + 1) w x (by omega) (by rw [aq_worR, if_pos c3] at hq; exact hq) _ _ I ls (lv_sub hl [0, 2, 3, 4] rfl)
        · refine lv_iload S.1 S.2.1 dX2_worst_36 (lv_at hl 0 rfl) ?_
          refine lv_istore_n (lv' := [(2, .int (Q 5 i)), (4, .int (Q 5 i)), (3, .int (nI i)), (1, .int w), (0, .ref (ad 0))]) S.1 S.2.1 dX2_worst_38 rfl hl (by decide) rfl (fun ls hl => ?_)
          refine lv_iload_n S.1 S.2.1 dX2_worst_39 rfl (lv_at hl 2 rfl) ?_
          refine lv_istore_n (lv' := [(1, .int (nI i)), (2, .int (Q 5 i)), (4, .int (Q 5 i)), (3, .int (nI i)), (0, .ref (ad 0))]) S.1 S.2.1 dX2_worst_40 rfl hl (by decide) rfl (fun ls hl => ?_)
          refine lv_iinc (v := nI (i + 1)) (lv' := [(3, .int (nI (i + 1))), (1, .int (nI i)), (2, .int (Q 5 i)), (4, .int (Q 5 i)), (0, .ref (ad 0))]) S.1 S.2.1 dX2_worst_41 hl (k := 3) rfl (nI_1 _) (by decide) rfl (fun ls hl => ?_)
          refine lv_goto (tgt := 6) S.1 S.2.1 dX2_worst_44 (by decide) ?_
          exact ih (i + 1) (nI i) (Q 5 i) (by omega) (by rw [aq_worR, if_neg c3] at hq; exact hq) _ _ I ls (lv_sub hl [0, 2, 1, 4] rfl)
  refine lv_iconst (v := (-1)) S.1 S.2.1 dX2_worst_0 (by decide) ?_
  refine lv_istore_n (lv' := [(1, .int ((-1))), (0, .ref (ad 0))]) S.1 S.2.1 dX2_worst_1 rfl hl (by decide) rfl (fun ls hl => ?_)
  refine lv_iconst (v := 0) S.1 S.2.1 dX2_worst_2 (by decide) ?_
  refine lv_istore_n (lv' := [(2, .int 0), (1, .int ((-1))), (0, .ref (ad 0))]) S.1 S.2.1 dX2_worst_3 rfl hl (by decide) rfl (fun ls hl => ?_)
  refine lv_iconst (v := 0) S.1 S.2.1 dX2_worst_4 (by decide) ?_
  refine lv_istore_n (lv' := [(3, .int 0), (2, .int 0), (1, .int ((-1))), (0, .ref (ad 0))]) S.1 S.2.1 dX2_worst_5 rfl hl (by decide) rfl (fun ls hl => ?_)
  exact L6 n 0 (-1) 0 (by omega) rfl _ _ I ls (lv_sub hl [0, 1, 2, 3] rfl)
theorem in_X2_digestArch_X2 : ∀ w ∈ wsX20, w ∈ wsX2_digestArch := fun _ h => List.mem_cons_of_mem _ (List.mem_append_left _ (List.mem_append_left _ (List.mem_append_right _ h)))
set_option maxHeartbeats 4000000 in
set_option maxRecDepth 100000 in
/-- X2_digestArch -/
theorem c_X2_digestArch (l : Launch) {D : va_G} {ad : Nat → Nat} {cI cQ : ClassId} (hJ : aq_J 49 ad) {V : aq_V} {Q : aq_Q} {n : Nat} (hn : Q 10 3 = nI n) (hn20 : n ≤ 20) {i : Nat} (hi : i < n) (d0 : Int64) : aq_Met l yX2_digestArch wsX2_digestArch ({ frames := 3, cells := 0, slots := 0, locals := 66 }) D (aC_t cI cQ) 49 ad [.ref (ad 0), .long d0, .int (nI i)] (aC_w ad cI cQ (aq_ug V 0 Q)) (aq_Ql D (aC_t cI cQ) 49 ad (aq_dgArch n Q i d0) (aC_w ad cI cQ (aq_ug V 0 Q))) 0 0 := by
  refine aq_enter (cc := cX2_digestArch) (maxL := 7) (ret := some .long) (by decide) rfl (Nat.le_of_ble_eq_true rfl) ?_
  intro p e s m below meth c ls S hr hlocks hnm I hl
  have S : CallFix p m c cX2_digestArch 7 s _ wsX2_digestArch RX2 := S
  have hl : lv_has ls 7 [(0, .ref (ad 0)), (1, .long d0), (3, .int (nI i))] := hl
  have L42 : ∀ (k : Nat) (w : Nat) (d : Int64), (w + k = 4) → (aq_dgF (aq_millNo Q i) k w d = aq_dgArch n Q i d0) → ∀ (H : Heap) (locs : List Loc), aq_I D (aC_t cI cQ) (aq_A 49 ad) (aC_w ad cI cQ (aq_ug V 0 Q)) s H locs → ∀ ls : Array Slot, lv_has ls 7 [(6, .int (nI w)), (4, .long d), (0, .ref (ad 0)), (1, .long d0), (3, .int (nI i))] → W p l e ({ frames := 3, cells := 0, slots := 0, locals := 66 } : Room) s m (([.ref (ad 0), .long d0, .int (nI i)] : List Value).toArray) below meth c H locs 0 0 (MQ below ((aq_Ql D (aC_t cI cQ) 49 ad (aq_dgArch n Q i d0) (aC_w ad cI cQ (aq_ug V 0 Q))) s.heap.size) (([.ref (ad 0), .long d0, .int (nI i)] : List Value).toArray) s 0 0 (aq_A 49 ad s.heap.size)) (F0 m 42 ls []) := by
    intro k
    induction k with
    | zero =>
      intro w d hk hq H locs I ls hl
      refine lv_iload S.1 S.2.1 dX2_digestArch_42 (lv_at hl 0 rfl) ?_
      refine lv_iconst (v := 4) S.1 S.2.1 dX2_digestArch_44 (by decide) ?_
      refine lv_icmp_ge (tgt := 77) S.1 S.2.1 dX2_digestArch_45 (by decide) (fun c1 => ?_) (fun c1 => ?_)
      · have c1 : 4 ≤ w := (nI_leI (a := 4) (b := w) (by omega) (by omega)).mp c1
        refine lv_lload S.1 S.2.1 dX2_digestArch_77 (lv_at hl 1 rfl) ?_
        exact aq_lret S.1 S.2.1 hr hlocks I dX2_digestArch_79 (by first | decide | omega) (by first | decide | omega) hq rfl
      · have c1 : w < 4 := Nat.lt_of_not_le (fun z9 => c1 ((nI_leI (a := 4) (b := w) (by omega) (by omega)).mpr z9))
        exfalso; omega
    | succ k ih =>
      intro w d hk hq H locs I ls hl
      refine lv_iload S.1 S.2.1 dX2_digestArch_42 (lv_at hl 0 rfl) ?_
      refine lv_iconst (v := 4) S.1 S.2.1 dX2_digestArch_44 (by decide) ?_
      refine lv_icmp_ge (tgt := 77) S.1 S.2.1 dX2_digestArch_45 (by decide) (fun c2 => ?_) (fun c2 => ?_)
      · have c2 : 4 ≤ w := (nI_leI (a := 4) (b := w) (by omega) (by omega)).mp c2
        exfalso; omega
      · have c2 : w < 4 := Nat.lt_of_not_le (fun z9 => c2 ((nI_leI (a := 4) (b := w) (by omega) (by omega)).mpr z9))
        refine lv_lload S.1 S.2.1 dX2_digestArch_48 (lv_at hl 1 rfl) ?_
        refine lv_ldc2 (v := 31) S.1 S.2.1 S.2.2.2.1 (S.2.2.2.2 _ (List.mem_of_getElem? (i := 1) rfl)) dX2_digestArch_50 ?_
        refine lv_lmul S.1 S.2.1 dX2_digestArch_53 ?_
        refine lv_aload_n S.1 S.2.1 dX2_digestArch_54 rfl (lv_at hl 2 rfl) ?_
        refine aC_getX S I 0 (by decide) in_X2_digestArch_X2 (List.mem_of_getElem? (i := 2) rfl) dX2_digestArch_55 ?_
        refine lv_iload_n S.1 S.2.1 dX2_digestArch_58 rfl (lv_at hl 4 rfl) ?_
        refine aq_callVr (As := [.int (nI i)]) (rest := [.long (d * 31)]) S (c_X0_archAt l hJ (V := V) (Q := Q) (j := 0) (by decide)  (a := i) (by omega) ) (cwV 1 S.2.2.2.2 gX2_digestArch_X0_archAt rfl rfl rfl (by decide +kernel) ⟨Nat.le_of_ble_eq_true rfl, Nat.le_of_ble_eq_true rfl⟩) (aC_recvS (j := 0) I (by decide)) I hl.1 dX2_digestArch_59 rfl rfl (Nat.le_of_ble_eq_true rfl) ⟨by first | decide | (dsimp only; omega), by first | decide | (dsimp only; omega)⟩ (fun H locs I => ?_)
        refine lv_iload S.1 S.2.1 dX2_digestArch_62 (lv_at hl 0 rfl) ?_
        refine aq_callVi (As := [.int (nI w)]) (rest := [.long (d * 31)]) S (c_X1_millNumber l hJ (V := V) (Q := Q) (j := 0) (i := i) (by decide) (by omega) (w := w) (by omega)) (cwV 1 S.2.2.2.2 gX2_digestArch_X1_millNumber rfl rfl rfl (by decide +kernel) ⟨Nat.le_of_ble_eq_true rfl, Nat.le_of_ble_eq_true rfl⟩) (aC_recvA (j := 0) (i := i) I (by decide) (by omega)) I hl.1 dX2_digestArch_64 rfl rfl (Nat.le_of_ble_eq_true rfl) ⟨by first | decide | (dsimp only; omega), by first | decide | (dsimp only; omega)⟩ (fun H locs I => ?_)
        refine lv_i2l (v := Int32.toInt64 (aq_millNo Q i w)) S.1 S.2.1 dX2_digestArch_67 rfl ?_
        refine lv_ladd S.1 S.2.1 dX2_digestArch_68 ?_
        refine lv_lstore (lv' := [(4, .long ((d * 31) + (Int32.toInt64 (aq_millNo Q i w)))), (6, .int (nI w)), (0, .ref (ad 0)), (1, .long d0), (3, .int (nI i))]) S.1 S.2.1 dX2_digestArch_69 hl (by decide) rfl (fun ls hl => ?_)
        refine lv_iinc (v := nI (w + 1)) (lv' := [(6, .int (nI (w + 1))), (4, .long ((d * 31) + (Int32.toInt64 (aq_millNo Q i w)))), (0, .ref (ad 0)), (1, .long d0), (3, .int (nI i))]) S.1 S.2.1 dX2_digestArch_71 hl (k := 1) rfl (nI_1 _) (by decide) rfl (fun ls hl => ?_)
        refine lv_goto (tgt := 42) S.1 S.2.1 dX2_digestArch_74 (by decide) ?_
        exact ih (w + 1) ((d * 31) + (Int32.toInt64 (aq_millNo Q i w))) (by omega) (by exact hq) _ _ I ls (lv_sub hl [0, 1, 2, 3, 4] rfl)
  have L6 : ∀ (k : Nat) (w : Nat) (d : Int64), (w + k = 9) → (aq_dgF (aq_archNo n Q i) k w d = aq_dgF (aq_archNo n Q i) 9 0 d0) → ∀ (H : Heap) (locs : List Loc), aq_I D (aC_t cI cQ) (aq_A 49 ad) (aC_w ad cI cQ (aq_ug V 0 Q)) s H locs → ∀ ls : Array Slot, lv_has ls 7 [(6, .int (nI w)), (4, .long d), (0, .ref (ad 0)), (1, .long d0), (3, .int (nI i))] → W p l e ({ frames := 3, cells := 0, slots := 0, locals := 66 } : Room) s m (([.ref (ad 0), .long d0, .int (nI i)] : List Value).toArray) below meth c H locs 0 0 (MQ below ((aq_Ql D (aC_t cI cQ) 49 ad (aq_dgArch n Q i d0) (aC_w ad cI cQ (aq_ug V 0 Q))) s.heap.size) (([.ref (ad 0), .long d0, .int (nI i)] : List Value).toArray) s 0 0 (aq_A 49 ad s.heap.size)) (F0 m 6 ls []) := by
    intro k
    induction k with
    | zero =>
      intro w d hk hq H locs I ls hl
      refine lv_iload S.1 S.2.1 dX2_digestArch_6 (lv_at hl 0 rfl) ?_
      refine lv_bipush (v := 9) S.1 S.2.1 dX2_digestArch_8 (by decide) ?_
      refine lv_icmp_ge (tgt := 39) S.1 S.2.1 dX2_digestArch_10 (by decide) (fun c3 => ?_) (fun c3 => ?_)
      · have c3 : 9 ≤ w := (nI_leI (a := 9) (b := w) (by omega) (by omega)).mp c3
        refine lv_iconst (v := 0) S.1 S.2.1 dX2_digestArch_39 (by decide) ?_
        refine lv_istore (lv' := [(6, .int 0), (4, .long d), (0, .ref (ad 0)), (1, .long d0), (3, .int (nI i))]) S.1 S.2.1 dX2_digestArch_40 hl (by decide) rfl (fun ls hl => ?_)
        exact L42 4 0 d (by omega) (congrArg (aq_dgF (aq_millNo Q i) 4 0) hq) _ _ I ls (lv_sub hl [0, 1, 2, 3, 4] rfl)
      · have c3 : w < 9 := Nat.lt_of_not_le (fun z9 => c3 ((nI_leI (a := 9) (b := w) (by omega) (by omega)).mpr z9))
        exfalso; omega
    | succ k ih =>
      intro w d hk hq H locs I ls hl
      refine lv_iload S.1 S.2.1 dX2_digestArch_6 (lv_at hl 0 rfl) ?_
      refine lv_bipush (v := 9) S.1 S.2.1 dX2_digestArch_8 (by decide) ?_
      refine lv_icmp_ge (tgt := 39) S.1 S.2.1 dX2_digestArch_10 (by decide) (fun c4 => ?_) (fun c4 => ?_)
      · have c4 : 9 ≤ w := (nI_leI (a := 9) (b := w) (by omega) (by omega)).mp c4
        exfalso; omega
      · have c4 : w < 9 := Nat.lt_of_not_le (fun z9 => c4 ((nI_leI (a := 9) (b := w) (by omega) (by omega)).mpr z9))
        refine lv_lload S.1 S.2.1 dX2_digestArch_13 (lv_at hl 1 rfl) ?_
        refine lv_ldc2 (v := 31) S.1 S.2.1 S.2.2.2.1 (S.2.2.2.2 _ (List.mem_of_getElem? (i := 1) rfl)) dX2_digestArch_15 ?_
        refine lv_lmul S.1 S.2.1 dX2_digestArch_18 ?_
        refine lv_aload_n S.1 S.2.1 dX2_digestArch_19 rfl (lv_at hl 2 rfl) ?_
        refine aC_getX S I 0 (by decide) in_X2_digestArch_X2 (List.mem_of_getElem? (i := 2) rfl) dX2_digestArch_20 ?_
        refine lv_iload_n S.1 S.2.1 dX2_digestArch_23 rfl (lv_at hl 4 rfl) ?_
        refine lv_iload S.1 S.2.1 dX2_digestArch_24 (lv_at hl 0 rfl) ?_
        refine aq_callVi (As := [.int (nI i), .int (nI w)]) (rest := [.long (d * 31)]) S (c_X0_archNumber l hJ (V := V) (Q := Q) (j := 0) (by decide) hn hn20 (a := i) (by omega) (w := w) (by omega) ) (cwV 2 S.2.2.2.2 gX2_digestArch_X0_archNumber rfl rfl rfl (by decide +kernel) ⟨Nat.le_of_ble_eq_true rfl, Nat.le_of_ble_eq_true rfl⟩) (aC_recvS (j := 0) I (by decide)) I hl.1 dX2_digestArch_26 rfl rfl (Nat.le_of_ble_eq_true rfl) ⟨by first | decide | (dsimp only; omega), by first | decide | (dsimp only; omega)⟩ (fun H locs I => ?_)
        refine lv_i2l (v := Int32.toInt64 (aq_archNo n Q i w)) S.1 S.2.1 dX2_digestArch_29 rfl ?_
        refine lv_ladd S.1 S.2.1 dX2_digestArch_30 ?_
        refine lv_lstore (lv' := [(4, .long ((d * 31) + (Int32.toInt64 (aq_archNo n Q i w)))), (6, .int (nI w)), (0, .ref (ad 0)), (1, .long d0), (3, .int (nI i))]) S.1 S.2.1 dX2_digestArch_31 hl (by decide) rfl (fun ls hl => ?_)
        refine lv_iinc (v := nI (w + 1)) (lv' := [(6, .int (nI (w + 1))), (4, .long ((d * 31) + (Int32.toInt64 (aq_archNo n Q i w)))), (0, .ref (ad 0)), (1, .long d0), (3, .int (nI i))]) S.1 S.2.1 dX2_digestArch_33 hl (k := 1) rfl (nI_1 _) (by decide) rfl (fun ls hl => ?_)
        refine lv_goto (tgt := 6) S.1 S.2.1 dX2_digestArch_36 (by decide) ?_
        exact ih (w + 1) ((d * 31) + (Int32.toInt64 (aq_archNo n Q i w))) (by omega) (by exact hq) _ _ I ls (lv_sub hl [0, 1, 2, 3, 4] rfl)
  refine lv_lload_n S.1 S.2.1 dX2_digestArch_0 rfl (lv_at hl 1 rfl) ?_
  refine lv_lstore (lv' := [(4, .long d0), (0, .ref (ad 0)), (1, .long d0), (3, .int (nI i))]) S.1 S.2.1 dX2_digestArch_1 hl (by decide) rfl (fun ls hl => ?_)
  refine lv_iconst (v := 0) S.1 S.2.1 dX2_digestArch_3 (by decide) ?_
  refine lv_istore (lv' := [(6, .int 0), (4, .long d0), (0, .ref (ad 0)), (1, .long d0), (3, .int (nI i))]) S.1 S.2.1 dX2_digestArch_4 hl (by decide) rfl (fun ls hl => ?_)
  exact L6 9 0 d0 (by omega) rfl _ _ I ls (lv_sub hl [0, 1, 2, 3, 4] rfl)
theorem in_X2_digest_X0 : ∀ w ∈ wsX00, w ∈ wsX2_digest := fun _ h => List.mem_cons_of_mem _ (List.mem_append_left _ (List.mem_append_right _ h))
theorem in_X2_digest_X2 : ∀ w ∈ wsX20, w ∈ wsX2_digest := fun _ h => List.mem_cons_of_mem _ (List.mem_append_left _ (List.mem_append_left _ (List.mem_append_right _ h)))
set_option maxHeartbeats 4000000 in
set_option maxRecDepth 100000 in
/-- X2_digest -/
theorem c_X2_digest (l : Launch) {D : va_G} {ad : Nat → Nat} {cI cQ : ClassId} (hJ : aq_J 49 ad) {V : aq_V} {Q : aq_Q} {n : Nat} (hn : Q 10 3 = nI n) (hn20 : n ≤ 20) : aq_Met l yX2_digest wsX2_digest ({ frames := 4, cells := 0, slots := 0, locals := 92 }) D (aC_t cI cQ) 49 ad [.ref (ad 0)] (aC_w ad cI cQ (aq_ug V 0 Q)) (aq_Ql D (aC_t cI cQ) 49 ad (aq_digest n (V 2) Q) (aC_w ad cI cQ (aq_ug V 0 Q))) 0 0 := by
  refine aq_enter (cc := cX2_digest) (maxL := 4) (ret := some .long) (by decide) rfl (Nat.le_of_ble_eq_true rfl) ?_
  intro p e s m below meth c ls S hr hlocks hnm I hl
  have S : CallFix p m c cX2_digest 4 s _ wsX2_digest RX2 := S
  have hl : lv_has ls 4 [(0, .ref (ad 0))] := hl
  have L84 : ∀ (k : Nat) (i : Nat) (d : Int64), (i + k = n) → (aq_dgAll n Q k i d = aq_digest n (V 2) Q) → ∀ (H : Heap) (locs : List Loc), aq_I D (aC_t cI cQ) (aq_A 49 ad) (aC_w ad cI cQ (aq_ug V 0 Q)) s H locs → ∀ ls : Array Slot, lv_has ls 4 [(3, .int (nI i)), (1, .long d), (0, .ref (ad 0))] → W p l e ({ frames := 4, cells := 0, slots := 0, locals := 92 } : Room) s m (([.ref (ad 0)] : List Value).toArray) below meth c H locs 0 0 (MQ below ((aq_Ql D (aC_t cI cQ) 49 ad (aq_digest n (V 2) Q) (aC_w ad cI cQ (aq_ug V 0 Q))) s.heap.size) (([.ref (ad 0)] : List Value).toArray) s 0 0 (aq_A 49 ad s.heap.size)) (F0 m 84 ls []) := by
    intro k
    induction k with
    | zero =>
      intro i d hk hq H locs I ls hl
      refine lv_iload_n S.1 S.2.1 dX2_digest_84 rfl (lv_at hl 0 rfl) ?_
      refine lv_aload_n S.1 S.2.1 dX2_digest_85 rfl (lv_at hl 2 rfl) ?_
      refine aC_getX S I 0 (by decide) in_X2_digest_X2 (List.mem_of_getElem? (i := 3) rfl) dX2_digest_86 ?_
      refine aC_getS (j := 0) (x := nI n) S I (by decide) 3 (by decide) (by decide) in_X2_digest_X0 (List.mem_of_getElem? (i := 6) rfl) (by rw [aq_ug_s]; exact hn) dX2_digest_89 ?_
      refine lv_icmp_ge (tgt := 108) S.1 S.2.1 dX2_digest_92 (by decide) (fun c1 => ?_) (fun c1 => ?_)
      · have c1 : n ≤ i := (nI_leI (a := n) (b := i) (by omega) (by omega)).mp c1
        refine lv_lload_n S.1 S.2.1 dX2_digest_108 rfl (lv_at hl 1 rfl) ?_
        exact aq_lret S.1 S.2.1 hr hlocks I dX2_digest_109 (by first | decide | omega) (by first | decide | omega) hq rfl
      · have c1 : i < n := Nat.lt_of_not_le (fun z9 => c1 ((nI_leI (a := n) (b := i) (by omega) (by omega)).mpr z9))
        exfalso; omega
    | succ k ih =>
      intro i d hk hq H locs I ls hl
      refine lv_iload_n S.1 S.2.1 dX2_digest_84 rfl (lv_at hl 0 rfl) ?_
      refine lv_aload_n S.1 S.2.1 dX2_digest_85 rfl (lv_at hl 2 rfl) ?_
      refine aC_getX S I 0 (by decide) in_X2_digest_X2 (List.mem_of_getElem? (i := 3) rfl) dX2_digest_86 ?_
      refine aC_getS (j := 0) (x := nI n) S I (by decide) 3 (by decide) (by decide) in_X2_digest_X0 (List.mem_of_getElem? (i := 6) rfl) (by rw [aq_ug_s]; exact hn) dX2_digest_89 ?_
      refine lv_icmp_ge (tgt := 108) S.1 S.2.1 dX2_digest_92 (by decide) (fun c2 => ?_) (fun c2 => ?_)
      · have c2 : n ≤ i := (nI_leI (a := n) (b := i) (by omega) (by omega)).mp c2
        exfalso; omega
      · have c2 : i < n := Nat.lt_of_not_le (fun z9 => c2 ((nI_leI (a := n) (b := i) (by omega) (by omega)).mpr z9))
        refine lv_aload_n S.1 S.2.1 dX2_digest_95 rfl (lv_at hl 2 rfl) ?_
        refine lv_lload_n S.1 S.2.1 dX2_digest_96 rfl (lv_at hl 1 rfl) ?_
        refine lv_iload_n S.1 S.2.1 dX2_digest_97 rfl (lv_at hl 0 rfl) ?_
        refine aq_callVl (As := [.long d, .int (nI i)]) (rest := []) S (c_X2_digestArch l hJ (V := V) (Q := Q) (n := n) hn hn20 (i := i) (by omega) d) (cwV 2 S.2.2.2.2 gX2_digest_X2_digestArch rfl rfl rfl (by decide +kernel) ⟨Nat.le_of_ble_eq_true rfl, Nat.le_of_ble_eq_true rfl⟩) (aC_recvX I) I hl.1 dX2_digest_98 rfl rfl (Nat.le_of_ble_eq_true rfl) ⟨by first | decide | (dsimp only; omega), by first | decide | (dsimp only; omega)⟩ (fun H locs I => ?_)
        refine lv_lstore_n (lv' := [(1, .long (aq_dgArch n Q i d)), (3, .int (nI i)), (0, .ref (ad 0))]) S.1 S.2.1 dX2_digest_101 rfl hl (by decide) rfl (fun ls hl => ?_)
        refine lv_iinc (v := nI (i + 1)) (lv' := [(3, .int (nI (i + 1))), (1, .long (aq_dgArch n Q i d)), (0, .ref (ad 0))]) S.1 S.2.1 dX2_digest_102 hl (k := 1) rfl (nI_1 _) (by decide) rfl (fun ls hl => ?_)
        refine lv_goto (tgt := 84) S.1 S.2.1 dX2_digest_105 (by decide) ?_
        exact ih (i + 1) (aq_dgArch n Q i d) (by omega) (by exact hq) _ _ I ls (lv_sub hl [0, 1, 2] rfl)
  have L36 : ∀ (k : Nat) (w : Nat) (d : Int64), (w + k = 24) → (aq_dgT (V 2) k w d = aq_dgT (V 2) 24 0 (aq_dgF (aq_countNo n Q) 12 0 601)) → ∀ (H : Heap) (locs : List Loc), aq_I D (aC_t cI cQ) (aq_A 49 ad) (aC_w ad cI cQ (aq_ug V 0 Q)) s H locs → ∀ ls : Array Slot, lv_has ls 4 [(3, .int (nI w)), (1, .long d), (0, .ref (ad 0))] → W p l e ({ frames := 4, cells := 0, slots := 0, locals := 92 } : Room) s m (([.ref (ad 0)] : List Value).toArray) below meth c H locs 0 0 (MQ below ((aq_Ql D (aC_t cI cQ) 49 ad (aq_digest n (V 2) Q) (aC_w ad cI cQ (aq_ug V 0 Q))) s.heap.size) (([.ref (ad 0)] : List Value).toArray) s 0 0 (aq_A 49 ad s.heap.size)) (F0 m 36 ls []) := by
    intro k
    induction k with
    | zero =>
      intro w d hk hq H locs I ls hl
      refine lv_iload_n S.1 S.2.1 dX2_digest_36 rfl (lv_at hl 0 rfl) ?_
      refine lv_bipush (v := 24) S.1 S.2.1 dX2_digest_37 (by decide) ?_
      refine lv_icmp_ge (tgt := 82) S.1 S.2.1 dX2_digest_39 (by decide) (fun c3 => ?_) (fun c3 => ?_)
      · have c3 : 24 ≤ w := (nI_leI (a := 24) (b := w) (by omega) (by omega)).mp c3
        refine lv_iconst (v := 0) S.1 S.2.1 dX2_digest_82 (by decide) ?_
        refine lv_istore_n (lv' := [(3, .int 0), (1, .long d), (0, .ref (ad 0))]) S.1 S.2.1 dX2_digest_83 rfl hl (by decide) rfl (fun ls hl => ?_)
        exact L84 n 0 d (by omega) (congrArg (aq_dgAll n Q n 0) hq) _ _ I ls (lv_sub hl [0, 1, 2] rfl)
      · have c3 : w < 24 := Nat.lt_of_not_le (fun z9 => c3 ((nI_leI (a := 24) (b := w) (by omega) (by omega)).mpr z9))
        exfalso; omega
    | succ k ih =>
      intro w d hk hq H locs I ls hl
      refine lv_iload_n S.1 S.2.1 dX2_digest_36 rfl (lv_at hl 0 rfl) ?_
      refine lv_bipush (v := 24) S.1 S.2.1 dX2_digest_37 (by decide) ?_
      refine lv_icmp_ge (tgt := 82) S.1 S.2.1 dX2_digest_39 (by decide) (fun c4 => ?_) (fun c4 => ?_)
      · have c4 : 24 ≤ w := (nI_leI (a := 24) (b := w) (by omega) (by omega)).mp c4
        exfalso; omega
      · have c4 : w < 24 := Nat.lt_of_not_le (fun z9 => c4 ((nI_leI (a := 24) (b := w) (by omega) (by omega)).mpr z9))
        refine lv_lload_n S.1 S.2.1 dX2_digest_42 rfl (lv_at hl 1 rfl) ?_
        refine lv_ldc2 (v := 31) S.1 S.2.1 S.2.2.2.1 (S.2.2.2.2 _ (List.mem_of_getElem? (i := 2) rfl)) dX2_digest_43 ?_
        refine lv_lmul S.1 S.2.1 dX2_digest_46 ?_
        refine lv_aload_n S.1 S.2.1 dX2_digest_47 rfl (lv_at hl 2 rfl) ?_
        refine aC_getX S I 0 (by decide) in_X2_digest_X2 (List.mem_of_getElem? (i := 3) rfl) dX2_digest_48 ?_
        refine aC_getT (j := 0) S I (by decide) 0 (by decide) in_X2_digest_X0 (List.mem_of_getElem? (i := 4) rfl) dX2_digest_51 ?_
        refine lv_iload_n S.1 S.2.1 dX2_digest_54 rfl (lv_at hl 0 rfl) ?_
        refine aC_tld (t := 0) (j := 0) (k := w) (x := (V 2) 0 w) S I (by decide) (by decide) rfl (by omega) (show (aq_ug V 0 Q) 2 0 w = _ from by rw [aq_ug_n _ _ (by first | decide | omega)]) dX2_digest_55 ?_
        refine lv_i2l (v := Int32.toInt64 ((V 2) 0 w)) S.1 S.2.1 dX2_digest_56 rfl ?_
        refine lv_ladd S.1 S.2.1 dX2_digest_57 ?_
        refine lv_lstore_n (lv' := [(1, .long ((d * 31) + (Int32.toInt64 ((V 2) 0 w)))), (3, .int (nI w)), (0, .ref (ad 0))]) S.1 S.2.1 dX2_digest_58 rfl hl (by decide) rfl (fun ls hl => ?_)
        refine lv_lload_n S.1 S.2.1 dX2_digest_59 rfl (lv_at hl 0 rfl) ?_
        refine lv_ldc2 (v := 31) S.1 S.2.1 S.2.2.2.1 (S.2.2.2.2 _ (List.mem_of_getElem? (i := 2) rfl)) dX2_digest_60 ?_
        refine lv_lmul S.1 S.2.1 dX2_digest_63 ?_
        refine lv_aload_n S.1 S.2.1 dX2_digest_64 rfl (lv_at hl 2 rfl) ?_
        refine aC_getX S I 0 (by decide) in_X2_digest_X2 (List.mem_of_getElem? (i := 3) rfl) dX2_digest_65 ?_
        refine aC_getT (j := 0) S I (by decide) 1 (by decide) in_X2_digest_X0 (List.mem_of_getElem? (i := 5) rfl) dX2_digest_68 ?_
        refine lv_iload_n S.1 S.2.1 dX2_digest_71 rfl (lv_at hl 1 rfl) ?_
        refine aC_tld (t := 1) (j := 0) (k := w) (x := (V 2) 1 w) S I (by decide) (by decide) rfl (by omega) (show (aq_ug V 0 Q) 2 1 w = _ from by rw [aq_ug_n _ _ (by first | decide | omega)]) dX2_digest_72 ?_
        refine lv_i2l (v := Int32.toInt64 ((V 2) 1 w)) S.1 S.2.1 dX2_digest_73 rfl ?_
        refine lv_ladd S.1 S.2.1 dX2_digest_74 ?_
        refine lv_lstore_n (lv' := [(1, .long ((((d * 31) + (Int32.toInt64 ((V 2) 0 w))) * 31) + (Int32.toInt64 ((V 2) 1 w)))), (3, .int (nI w)), (0, .ref (ad 0))]) S.1 S.2.1 dX2_digest_75 rfl hl (by decide) rfl (fun ls hl => ?_)
        refine lv_iinc (v := nI (w + 1)) (lv' := [(3, .int (nI (w + 1))), (1, .long ((((d * 31) + (Int32.toInt64 ((V 2) 0 w))) * 31) + (Int32.toInt64 ((V 2) 1 w)))), (0, .ref (ad 0))]) S.1 S.2.1 dX2_digest_76 hl (k := 1) rfl (nI_1 _) (by decide) rfl (fun ls hl => ?_)
        refine lv_goto (tgt := 36) S.1 S.2.1 dX2_digest_79 (by decide) ?_
        exact ih (w + 1) ((((d * 31) + (Int32.toInt64 ((V 2) 0 w))) * 31) + (Int32.toInt64 ((V 2) 1 w))) (by omega) (by exact hq) _ _ I ls (lv_sub hl [0, 1, 2] rfl)
  have L6 : ∀ (k : Nat) (w : Nat) (d : Int64), (w + k = 12) → (aq_dgF (aq_countNo n Q) k w d = aq_dgF (aq_countNo n Q) 12 0 601) → ∀ (H : Heap) (locs : List Loc), aq_I D (aC_t cI cQ) (aq_A 49 ad) (aC_w ad cI cQ (aq_ug V 0 Q)) s H locs → ∀ ls : Array Slot, lv_has ls 4 [(3, .int (nI w)), (1, .long d), (0, .ref (ad 0))] → W p l e ({ frames := 4, cells := 0, slots := 0, locals := 92 } : Room) s m (([.ref (ad 0)] : List Value).toArray) below meth c H locs 0 0 (MQ below ((aq_Ql D (aC_t cI cQ) 49 ad (aq_digest n (V 2) Q) (aC_w ad cI cQ (aq_ug V 0 Q))) s.heap.size) (([.ref (ad 0)] : List Value).toArray) s 0 0 (aq_A 49 ad s.heap.size)) (F0 m 6 ls []) := by
    intro k
    induction k with
    | zero =>
      intro w d hk hq H locs I ls hl
      refine lv_iload_n S.1 S.2.1 dX2_digest_6 rfl (lv_at hl 0 rfl) ?_
      refine lv_bipush (v := 12) S.1 S.2.1 dX2_digest_7 (by decide) ?_
      refine lv_icmp_ge (tgt := 34) S.1 S.2.1 dX2_digest_9 (by decide) (fun c5 => ?_) (fun c5 => ?_)
      · have c5 : 12 ≤ w := (nI_leI (a := 12) (b := w) (by omega) (by omega)).mp c5
        refine lv_iconst (v := 0) S.1 S.2.1 dX2_digest_34 (by decide) ?_
        refine lv_istore_n (lv' := [(3, .int 0), (1, .long d), (0, .ref (ad 0))]) S.1 S.2.1 dX2_digest_35 rfl hl (by decide) rfl (fun ls hl => ?_)
        exact L36 24 0 d (by omega) (congrArg (aq_dgT (V 2) 24 0) hq) _ _ I ls (lv_sub hl [0, 1, 2] rfl)
      · have c5 : w < 12 := Nat.lt_of_not_le (fun z9 => c5 ((nI_leI (a := 12) (b := w) (by omega) (by omega)).mpr z9))
        exfalso; omega
    | succ k ih =>
      intro w d hk hq H locs I ls hl
      refine lv_iload_n S.1 S.2.1 dX2_digest_6 rfl (lv_at hl 0 rfl) ?_
      refine lv_bipush (v := 12) S.1 S.2.1 dX2_digest_7 (by decide) ?_
      refine lv_icmp_ge (tgt := 34) S.1 S.2.1 dX2_digest_9 (by decide) (fun c6 => ?_) (fun c6 => ?_)
      · have c6 : 12 ≤ w := (nI_leI (a := 12) (b := w) (by omega) (by omega)).mp c6
        exfalso; omega
      · have c6 : w < 12 := Nat.lt_of_not_le (fun z9 => c6 ((nI_leI (a := 12) (b := w) (by omega) (by omega)).mpr z9))
        refine lv_lload_n S.1 S.2.1 dX2_digest_12 rfl (lv_at hl 1 rfl) ?_
        refine lv_ldc2 (v := 31) S.1 S.2.1 S.2.2.2.1 (S.2.2.2.2 _ (List.mem_of_getElem? (i := 2) rfl)) dX2_digest_13 ?_
        refine lv_lmul S.1 S.2.1 dX2_digest_16 ?_
        refine lv_aload_n S.1 S.2.1 dX2_digest_17 rfl (lv_at hl 2 rfl) ?_
        refine aC_getX S I 0 (by decide) in_X2_digest_X2 (List.mem_of_getElem? (i := 3) rfl) dX2_digest_18 ?_
        refine lv_iload_n S.1 S.2.1 dX2_digest_21 rfl (lv_at hl 0 rfl) ?_
        refine aq_callVi (As := [.int (nI w)]) (rest := [.long (d * 31)]) S (c_X0_countNumber l hJ (V := V) (Q := Q) (j := 0) (by decide) hn hn20 (w := w) (by omega) ) (cwV 1 S.2.2.2.2 gX2_digest_X0_countNumber rfl rfl rfl (by decide +kernel) ⟨Nat.le_of_ble_eq_true rfl, Nat.le_of_ble_eq_true rfl⟩) (aC_recvS (j := 0) I (by decide)) I hl.1 dX2_digest_22 rfl rfl (Nat.le_of_ble_eq_true rfl) ⟨by first | decide | (dsimp only; omega), by first | decide | (dsimp only; omega)⟩ (fun H locs I => ?_)
        refine lv_i2l (v := Int32.toInt64 (aq_countNo n Q w)) S.1 S.2.1 dX2_digest_25 rfl ?_
        refine lv_ladd S.1 S.2.1 dX2_digest_26 ?_
        refine lv_lstore_n (lv' := [(1, .long ((d * 31) + (Int32.toInt64 (aq_countNo n Q w)))), (3, .int (nI w)), (0, .ref (ad 0))]) S.1 S.2.1 dX2_digest_27 rfl hl (by decide) rfl (fun ls hl => ?_)
        refine lv_iinc (v := nI (w + 1)) (lv' := [(3, .int (nI (w + 1))), (1, .long ((d * 31) + (Int32.toInt64 (aq_countNo n Q w)))), (0, .ref (ad 0))]) S.1 S.2.1 dX2_digest_28 hl (k := 1) rfl (nI_1 _) (by decide) rfl (fun ls hl => ?_)
        refine lv_goto (tgt := 6) S.1 S.2.1 dX2_digest_31 (by decide) ?_
        exact ih (w + 1) ((d * 31) + (Int32.toInt64 (aq_countNo n Q w))) (by omega) (by exact hq) _ _ I ls (lv_sub hl [0, 1, 2] rfl)
  refine lv_ldc2 (v := 601) S.1 S.2.1 S.2.2.2.1 (S.2.2.2.2 _ (List.mem_of_getElem? (i := 1) rfl)) dX2_digest_0 ?_
  refine lv_lstore_n (lv' := [(1, .long 601), (0, .ref (ad 0))]) S.1 S.2.1 dX2_digest_3 rfl hl (by decide) rfl (fun ls hl => ?_)
  refine lv_iconst (v := 0) S.1 S.2.1 dX2_digest_4 (by decide) ?_
  refine lv_istore_n (lv' := [(3, .int 0), (1, .long 601), (0, .ref (ad 0))]) S.1 S.2.1 dX2_digest_5 rfl hl (by decide) rfl (fun ls hl => ?_)
  exact L6 12 0 601 (by omega) rfl _ _ I ls (lv_sub hl [0, 1, 2] rfl)
