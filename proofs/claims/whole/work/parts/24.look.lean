/-! the twin's calls that look ahead -/
def aR_advT (z : Int32) : Int32 := if aR_isIn z 1 48 = 0 then 1 else 0
theorem in_X4_foresee_X3 : ∀ w ∈ wsX30, w ∈ wsX4_foresee := fun _ h => List.mem_cons_of_mem _ (List.mem_append_right _ h)
theorem in_X4_foresee_X4 : ∀ w ∈ wsX40, w ∈ wsX4_foresee := fun _ h => List.mem_cons_of_mem _ (List.mem_append_left _ (List.mem_append_right _ h))
set_option maxHeartbeats 4000000 in
set_option maxRecDepth 100000 in
/-- X4_foresee -/
theorem c_X4_foresee (l : Launch) {D : va_G} {ad : Nat → Nat} {cI : ClassId} {th : Int32} (hJ : aq_J 22 ad) {V : aq_V} {Q Y : aq_Q} (hst : aR_st (V 3) Q) {n : Nat} (hn : V 3 10 3 = nI n) (hn20 : n ≤ 20) {h : Nat} (hh : Q 10 4 = nI h) (h31 : h + 200 < 2 ^ 31) (z w : Int32) : ar_Met l yX4_foresee wsX4_foresee ({ frames := 5, cells := 0, slots := 0, locals := 114 }) D (aR_t cI) 22 ad [.ref (ad 0), .int z, .int w] (aR_w ad cI th (aq_ug (aq_ug V 0 Q) 1 Y)) (aq_Qi D (aR_t cI) 22 ad (if aR_forT z w = 0 then aR_forR n (V 2) Q z.toNatClampNeg w.toNatClampNeg else 0) (aR_w ad cI (aR_forT z w) (aq_ug (aq_ug V 0 Q) 1 (if aR_forT z w = 0 then aR_goQ n (V 2) z.toNatClampNeg Q else Y)))) 0 0 := by
  refine ar_enter (cc := cX4_foresee) (maxL := 4) (ret := some .int) (by decide) rfl (Nat.le_of_ble_eq_true rfl) ?_
  intro p e s m below meth c ls S hr hlocks hE I hl
  have S : CallFix p m c cX4_foresee 4 s _ wsX4_foresee RX4 := S
  have hl : lv_has ls 4 [(0, .ref (ad 0)), (1, .int z), (2, .int w)] := hl
  refine lv_aload_n S.1 S.2.1 dX4_foresee_0 rfl (lv_at hl 0 rfl) ?_
  refine lv_iconst (v := 0) S.1 S.2.1 dX4_foresee_1 (by decide) ?_
  refine aR_putTh (x := 0) hJ S I in_X4_foresee_X4 (List.mem_of_getElem? (i := 1) rfl) dX4_foresee_2 (fun H locs I => ?_)
  refine lv_iload_n S.1 S.2.1 dX4_foresee_5 rfl (lv_at hl 1 rfl) ?_
  refine lv_iconst (v := 1) S.1 S.2.1 dX4_foresee_6 (by decide) ?_
  refine lv_bipush (v := 100) S.1 S.2.1 dX4_foresee_7 (by decide) ?_
  refine ar_callSi (As := [.int z, .int 1, .int 100]) (rest := []) S hE (c_X4_isIn l (V := (aq_ug (aq_ug V 0 Q) 1 Y)) (th := 0) z 1 100) (va_cwS 3 S.2.2.2.2 gX4_foresee_X4_isIn rfl rfl rfl (by decide +kernel) ⟨Nat.le_of_ble_eq_true rfl, Nat.le_of_ble_eq_true rfl⟩)  I hl.1 dX4_foresee_9 rfl rfl (Nat.le_of_ble_eq_true rfl) ⟨by first | decide | (dsimp only; omega), by first | decide | (dsimp only; omega)⟩ (fun H locs I hk9 => ?_)
  refine lv_if_ne (tgt := 21) S.1 S.2.1 dX4_foresee_12 (by decide) (fun c1 => ?_) (fun c1 => ?_)
  · obtain ⟨k2, gk2, hk2, ek2⟩ := aR_isIn_rg (a := 1) (b := 100) (by omega) (by omega) c1
    subst ek2
    have nk2 : (nI k2).toNatClampNeg = k2 := nI_clamp (by omega)
    refine lv_iload_n S.1 S.2.1 dX4_foresee_21 rfl (lv_at hl 2 rfl) ?_
    refine lv_iconst (v := 0) S.1 S.2.1 dX4_foresee_22 (by decide) ?_
    refine lv_iconst (v := 3) S.1 S.2.1 dX4_foresee_23 (by decide) ?_
    refine ar_callSi (As := [.int w, .int 0, .int 3]) (rest := []) S hE (c_X4_isIn l (V := (aq_ug (aq_ug V 0 Q) 1 Y)) (th := 0) w 0 3) (va_cwS 3 S.2.2.2.2 gX4_foresee_X4_isIn rfl rfl rfl (by decide +kernel) ⟨Nat.le_of_ble_eq_true rfl, Nat.le_of_ble_eq_true rfl⟩)  I hl.1 dX4_foresee_24 rfl rfl (Nat.le_of_ble_eq_true rfl) ⟨by first | decide | (dsimp only; omega), by first | decide | (dsimp only; omega)⟩ (fun H locs I hk9 => ?_)
    refine lv_if_ne (tgt := 36) S.1 S.2.1 dX4_foresee_27 (by decide) (fun c3 => ?_) (fun c3 => ?_)
    · obtain ⟨k4, gk4, hk4, ek4⟩ := aR_isIn_rg (a := 0) (b := 3) (by omega) (by omega) c3
      subst ek4
      have nk4 : (nI k4).toNatClampNeg = k4 := nI_clamp (by omega)
      refine lv_aload_n S.1 S.2.1 dX4_foresee_36 rfl (lv_at hl 0 rfl) ?_
      refine aR_getM (v := .ref (ad 7)) S I 8 (by decide) in_X4_foresee_X4 (List.mem_of_getElem? (i := 2) rfl) rfl dX4_foresee_37 ?_
      refine lv_aload_n S.1 S.2.1 dX4_foresee_40 rfl (lv_at hl 0 rfl) ?_
      refine aR_getM (v := .ref (ad 6)) S I 7 (by decide) in_X4_foresee_X4 (List.mem_of_getElem? (i := 3) rfl) rfl dX4_foresee_41 ?_
      refine ar_callVv (As := [.ref (ad 6)]) (rest := []) S hE (c_X3_become l hJ (V := V) (th := 0) (Q := Q) (Y := Y)) (cwV 1 S.2.2.2.2 gX4_foresee_X3_become rfl rfl rfl (by decide +kernel) ⟨Nat.le_of_ble_eq_true rfl, Nat.le_of_ble_eq_true rfl⟩) (aR_recvS (j := 1) I (by decide)) I hl.1 dX4_foresee_44 rfl rfl (Nat.le_of_ble_eq_true rfl) ⟨by first | decide | (dsimp only; omega), by first | decide | (dsimp only; omega)⟩ (fun H locs I hk9 => ?_)
      refine lv_aload_n S.1 S.2.1 dX4_foresee_47 rfl (lv_at hl 0 rfl) ?_
      refine aR_getM (v := .ref (ad 7)) S I 8 (by decide) in_X4_foresee_X4 (List.mem_of_getElem? (i := 2) rfl) rfl dX4_foresee_48 ?_
      refine lv_iload_n S.1 S.2.1 dX4_foresee_51 rfl (lv_at hl 1 rfl) ?_
      refine ar_callSi (As := [.ref (ad 7), .int (nI k2)]) (rest := []) S hE (c_X4_pass l hJ (V := (aq_ug V 0 Q)) (th := 0) (Q := Q) (j := 1) (by decide) hst (n := n) hn hn20 (h := h) (z := k2) hh (by omega)) (va_cwS 2 S.2.2.2.2 gX4_foresee_X4_pass rfl rfl rfl (by decide +kernel) ⟨Nat.le_of_ble_eq_true rfl, Nat.le_of_ble_eq_true rfl⟩)  I hl.1 dX4_foresee_52 rfl rfl (Nat.le_of_ble_eq_true rfl) ⟨by first | decide | (dsimp only; omega), by first | decide | (dsimp only; omega)⟩ (fun H locs I hk9 => ?_)
      obtain ⟨M5, hM5⟩ : ∃ z9 : aq_Q, z9 = aR_goQ n ((aq_ug V 0 Q) 2) k2 Q := ⟨_, rfl⟩
      rw [← hM5] at I
      have hM5 : M5 = aR_goQ n (V 2) k2 Q := hM5
      refine lv_istore_n (lv' := [(3, .int (aR_goR n (V 2) k2 Q 0)), (0, .ref (ad 0)), (1, .int (nI k2)), (2, .int (nI k4))]) S.1 S.2.1 dX4_foresee_55 rfl hl (by decide) rfl (fun ls hl => ?_)
      refine lv_iload_n S.1 S.2.1 dX4_foresee_56 rfl (lv_at hl 3 rfl) ?_
      refine lv_if_ne (tgt := 64) S.1 S.2.1 dX4_foresee_57 (by decide) (fun c6 => ?_) (fun c6 => ?_)
      · have c6 : ¬ k4 = 0 := fun z9 => c6 ((nI_eq (a := k4) (b := 0) (by omega) (by omega)).mpr z9)
        refine lv_iload_n S.1 S.2.1 dX4_foresee_64 rfl (lv_at hl 3 rfl) ?_
        refine lv_iconst (v := 1) S.1 S.2.1 dX4_foresee_65 (by decide) ?_
        refine lv_icmp_ne (tgt := 101) S.1 S.2.1 dX4_foresee_66 (by decide) (fun c7 => ?_) (fun c7 => ?_)
        · have c7 : ¬ k4 = 1 := fun z9 => c7 ((nI_eq (a := k4) (b := 1) (by omega) (by omega)).mpr z9)
          refine lv_iload_n S.1 S.2.1 dX4_foresee_101 rfl (lv_at hl 3 rfl) ?_
          refine lv_iconst (v := 2) S.1 S.2.1 dX4_foresee_102 (by decide) ?_
          refine lv_icmp_ne (tgt := 116) S.1 S.2.1 dX4_foresee_103 (by decide) (fun c8 => ?_) (fun c8 => ?_)
          · have c8 : ¬ k4 = 2 := fun z9 => c8 ((nI_eq (a := k4) (b := 2) (by omega) (by omega)).mpr z9)
            refine lv_aload_n S.1 S.2.1 dX4_foresee_116 rfl (lv_at hl 1 rfl) ?_
            refine aR_getM (v := .ref (ad 7)) S I 8 (by decide) in_X4_foresee_X4 (List.mem_of_getElem? (i := 2) rfl) rfl dX4_foresee_117 ?_
            refine lv_aload_n S.1 S.2.1 dX4_foresee_120 rfl (lv_at hl 1 rfl) ?_
            refine aR_getM (v := .ref (ad 7)) S I 8 (by decide) in_X4_foresee_X4 (List.mem_of_getElem? (i := 2) rfl) rfl dX4_foresee_121 ?_
            refine aR_getSN (j := 1) (v := .ref (ad (13 + 7 * 1))) S I (by decide) 9 (by decide) in_X4_foresee_X3 (hE.1 _ (List.mem_of_getElem? (i := 1) rfl)) rfl dX4_foresee_124 ?_
            have hst_M5 : aR_st (V 3) M5 := by rw [hM5]; exact aR_st_go _ hst
            refine ar_callVi (As := [.ref (ad (13 + 7 * 1))]) (rest := []) S hE (c_X3_over l hJ (V := (aq_ug V 0 Q)) (th := 0) (Q := M5) (j := 1) (by decide) hst_M5 (n := n) hn hn20 (a := 5) (f := 8) (by decide) rfl) (cwV 1 S.2.2.2.2 gX4_foresee_X3_over rfl rfl rfl (by decide +kernel) ⟨Nat.le_of_ble_eq_true rfl, Nat.le_of_ble_eq_true rfl⟩) (aR_recvS (j := 1) I (by decide)) I hl.1 dX4_foresee_127 rfl rfl (Nat.le_of_ble_eq_true rfl) ⟨by first | decide | (dsimp only; omega), by first | decide | (dsimp only; omega)⟩ (fun H locs I hk9 => ?_)
            refine lv_aload_n S.1 S.2.1 dX4_foresee_130 rfl (lv_at hl 1 rfl) ?_
            refine aR_getM (v := .ref (ad 6)) S I 7 (by decide) in_X4_foresee_X4 (List.mem_of_getElem? (i := 3) rfl) rfl dX4_foresee_131 ?_
            refine lv_aload_n S.1 S.2.1 dX4_foresee_134 rfl (lv_at hl 1 rfl) ?_
            refine aR_getM (v := .ref (ad 6)) S I 7 (by decide) in_X4_foresee_X4 (List.mem_of_getElem? (i := 3) rfl) rfl dX4_foresee_135 ?_
            refine aR_getSN (j := 0) (v := .ref (ad (13 + 7 * 0))) S I (by decide) 9 (by decide) in_X4_foresee_X3 (hE.1 _ (List.mem_of_getElem? (i := 1) rfl)) rfl dX4_foresee_138 ?_
            rw [aq_ug_sw V (show (0 : Nat) ≠ 1 by decide) Q M5] at I
            refine ar_callVi (As := [.ref (ad (13 + 7 * 0))]) (rest := [.int (aq_over n 8 M5)]) S hE (c_X3_over l hJ (V := (aq_ug V 1 M5)) (th := 0) (Q := Q) (j := 0) (by decide) hst (n := n) hn hn20 (a := 5) (f := 8) (by decide) rfl) (cwV 1 S.2.2.2.2 gX4_foresee_X3_over rfl rfl rfl (by decide +kernel) ⟨Nat.le_of_ble_eq_true rfl, Nat.le_of_ble_eq_true rfl⟩) (aR_recvS (j := 0) I (by decide)) I hl.1 dX4_foresee_141 rfl rfl (Nat.le_of_ble_eq_true rfl) ⟨by first | decide | (dsimp only; omega), by first | decide | (dsimp only; omega)⟩ (fun H locs I hk9 => ?_)
            rw [← aq_ug_sw V (show (0 : Nat) ≠ 1 by decide) Q M5] at I
            refine lv_isub S.1 S.2.1 dX4_foresee_144 ?_
            refine lv_topi (fun x9 (ex9 : x9 = aq_over n 8 M5 - aq_over n 8 Q) => ?_)
            have hT9 : aR_forT (nI k2) (nI k4) = 0 := by subst ex9; subst hM5; simp only [aR_forT, nk2, nk4, if_neg c1, if_neg c3, if_neg c6, if_neg c7, if_neg c8]
            exact aq_iret S.1 S.2.1 hr hlocks I dX4_foresee_145 (by decide) (by decide) (by subst ex9; subst hM5; first | (rw [hT9]; done) | skip; rw [hT9]; first | rfl | (rw [if_pos rfl]; rfl) | (simp only [if_pos, true_and, aR_forR, nk2, nk4, if_neg c1, if_neg c3, if_neg c6, if_neg c7, if_neg c8]; done) | (simp only [if_pos, true_and, aR_forR, nk2, nk4, if_neg c1, if_neg c3, if_neg c6, if_neg c7, if_neg c8]; rfl)) (by subst ex9; subst hM5; first | (rw [hT9]; done) | skip; rw [hT9]; first | rfl | (rw [if_pos rfl]; rfl) | (simp only [if_pos, true_and, aR_forR, nk2, nk4, if_neg c1, if_neg c3, if_neg c6, if_neg c7, if_neg c8]; done) | (simp only [if_pos, true_and, aR_forR, nk2, nk4, if_neg c1, if_neg c3, if_neg c6, if_neg c7, if_neg c8]; rfl))
          · have c8 : k4 = 2 := (nI_eq (a := k4) (b := 2) (by omega) (by omega)).mp c8
            refine lv_aload_n S.1 S.2.1 dX4_foresee_106 rfl (lv_at hl 1 rfl) ?_
            refine aR_getM (v := .ref (ad 7)) S I 8 (by decide) in_X4_foresee_X4 (List.mem_of_getElem? (i := 2) rfl) rfl dX4_foresee_107 ?_
            refine aR_getSN (j := 1) (v := .int (M5 10 7)) S I (by decide) 1 (by decide) in_X4_foresee_X3 (hE.1 _ (List.mem_of_getElem? (i := 9) rfl)) (by first | (rw [aq_ug_s]; done) | (rw [aq_ug_s]; rfl)) dX4_foresee_110 ?_
            refine lv_goto (tgt := 145) S.1 S.2.1 dX4_foresee_113 (by decide) ?_
            have hT9 : aR_forT (nI k2) (nI k4) = 0 := by subst hM5; simp only [aR_forT, nk2, nk4, if_neg c1, if_neg c3, if_neg c6, if_neg c7, if_pos c8]
            exact aq_iret S.1 S.2.1 hr hlocks I dX4_foresee_145 (by decide) (by decide) (by subst hM5; first | (rw [hT9]; done) | skip; rw [hT9]; first | rfl | (rw [if_pos rfl]; rfl) | (simp only [if_pos, true_and, aR_forR, nk2, nk4, if_neg c1, if_neg c3, if_neg c6, if_neg c7, if_pos c8]; done) | (simp only [if_pos, true_and, aR_forR, nk2, nk4, if_neg c1, if_neg c3, if_neg c6, if_neg c7, if_pos c8]; rfl)) (by subst hM5; first | (rw [hT9]; done) | skip; rw [hT9]; first | rfl | (rw [if_pos rfl]; rfl) | (simp only [if_pos, true_and, aR_forR, nk2, nk4, if_neg c1, if_neg c3, if_neg c6, if_neg c7, if_pos c8]; done) | (simp only [if_pos, true_and, aR_forR, nk2, nk4, if_neg c1, if_neg c3, if_neg c6, if_neg c7, if_pos c8]; rfl))
        · have c7 : k4 = 1 := (nI_eq (a := k4) (b := 1) (by omega) (by omega)).mp c7
          refine lv_aload_n S.1 S.2.1 dX4_foresee_69 rfl (lv_at hl 1 rfl) ?_
          refine aR_getM (v := .ref (ad 7)) S I 8 (by decide) in_X4_foresee_X4 (List.mem_of_getElem? (i := 2) rfl) rfl dX4_foresee_70 ?_
          refine lv_aload_n S.1 S.2.1 dX4_foresee_73 rfl (lv_at hl 1 rfl) ?_
          refine aR_getM (v := .ref (ad 7)) S I 8 (by decide) in_X4_foresee_X4 (List.mem_of_getElem? (i := 2) rfl) rfl dX4_foresee_74 ?_
          refine aR_getSN (j := 1) (v := .ref (ad (11 + 7 * 1))) S I (by decide) 7 (by decide) in_X4_foresee_X3 (hE.1 _ (List.mem_of_getElem? (i := 15) rfl)) rfl dX4_foresee_77 ?_
          have hst_M5 : aR_st (V 3) M5 := by rw [hM5]; exact aR_st_go _ hst
          refine ar_callVi (As := [.ref (ad (11 + 7 * 1))]) (rest := []) S hE (c_X3_over l hJ (V := (aq_ug V 0 Q)) (th := 0) (Q := M5) (j := 1) (by decide) hst_M5 (n := n) hn hn20 (a := 3) (f := 5) (by decide) rfl) (cwV 1 S.2.2.2.2 gX4_foresee_X3_over rfl rfl rfl (by decide +kernel) ⟨Nat.le_of_ble_eq_true rfl, Nat.le_of_ble_eq_true rfl⟩) (aR_recvS (j := 1) I (by decide)) I hl.1 dX4_foresee_80 rfl rfl (Nat.le_of_ble_eq_true rfl) ⟨by first | decide | (dsimp only; omega), by first | decide | (dsimp only; omega)⟩ (fun H locs I hk9 => ?_)
          refine lv_aload_n S.1 S.2.1 dX4_foresee_83 rfl (lv_at hl 1 rfl) ?_
          refine aR_getM (v := .ref (ad 6)) S I 7 (by decide) in_X4_foresee_X4 (List.mem_of_getElem? (i := 3) rfl) rfl dX4_foresee_84 ?_
          refine lv_aload_n S.1 S.2.1 dX4_foresee_87 rfl (lv_at hl 1 rfl) ?_
          refine aR_getM (v := .ref (ad 6)) S I 7 (by decide) in_X4_foresee_X4 (List.mem_of_getElem? (i := 3) rfl) rfl dX4_foresee_88 ?_
          refine aR_getSN (j := 0) (v := .ref (ad (11 + 7 * 0))) S I (by decide) 7 (by decide) in_X4_foresee_X3 (hE.1 _ (List.mem_of_getElem? (i := 15) rfl)) rfl dX4_foresee_91 ?_
          rw [aq_ug_sw V (show (0 : Nat) ≠ 1 by decide) Q M5] at I
          refine ar_callVi (As := [.ref (ad (11 + 7 * 0))]) (rest := [.int (aq_over n 5 M5)]) S hE (c_X3_over l hJ (V := (aq_ug V 1 M5)) (th := 0) (Q := Q) (j := 0) (by decide) hst (n := n) hn hn20 (a := 3) (f := 5) (by decide) rfl) (cwV 1 S.2.2.2.2 gX4_foresee_X3_over rfl rfl rfl (by decide +kernel) ⟨Nat.le_of_ble_eq_true rfl, Nat.le_of_ble_eq_true rfl⟩) (aR_recvS (j := 0) I (by decide)) I hl.1 dX4_foresee_94 rfl rfl (Nat.le_of_ble_eq_true rfl) ⟨by first | decide | (dsimp only; omega), by first | decide | (dsimp only; omega)⟩ (fun H locs I hk9 => ?_)
          rw [← aq_ug_sw V (show (0 : Nat) ≠ 1 by decide) Q M5] at I
          refine lv_isub S.1 S.2.1 dX4_foresee_97 ?_
          refine lv_topi (fun x10 (ex10 : x10 = aq_over n 5 M5 - aq_over n 5 Q) => ?_)
          refine lv_goto (tgt := 145) S.1 S.2.1 dX4_foresee_98 (by decide) ?_
          have hT9 : aR_forT (nI k2) (nI k4) = 0 := by subst ex10; subst hM5; simp only [aR_forT, nk2, nk4, if_neg c1, if_neg c3, if_neg c6, if_pos c7]
          exact aq_iret S.1 S.2.1 hr hlocks I dX4_foresee_145 (by decide) (by decide) (by subst ex10; subst hM5; first | (rw [hT9]; done) | skip; rw [hT9]; first | rfl | (rw [if_pos rfl]; rfl) | (simp only [if_pos, true_and, aR_forR, nk2, nk4, if_neg c1, if_neg c3, if_neg c6, if_pos c7]; done) | (simp only [if_pos, true_and, aR_forR, nk2, nk4, if_neg c1, if_neg c3, if_neg c6, if_pos c7]; rfl)) (by subst ex10; subst hM5; first | (rw [hT9]; done) | skip; rw [hT9]; first | rfl | (rw [if_pos rfl]; rfl) | (simp only [if_pos, true_and, aR_forR, nk2, nk4, if_neg c1, if_neg c3, if_neg c6, if_pos c7]; done) | (simp only [if_pos, true_and, aR_forR, nk2, nk4, if_neg c1, if_neg c3, if_neg c6, if_pos c7]; rfl))
      · have c6 : k4 = 0 := (nI_eq (a := k4) (b := 0) (by omega) (by omega)).mp c6
        refine lv_iload_n S.1 S.2.1 dX4_foresee_60 rfl (lv_at hl 0 rfl) ?_
        refine lv_goto (tgt := 145) S.1 S.2.1 dX4_foresee_61 (by decide) ?_
        have hT9 : aR_forT (nI k2) (nI k4) = 0 := by subst hM5; simp only [aR_forT, nk2, nk4, if_neg c1, if_neg c3, if_pos c6]
        exact aq_iret S.1 S.2.1 hr hlocks I dX4_foresee_145 (by decide) (by decide) (by subst hM5; first | (rw [hT9]; done) | skip; rw [hT9]; first | rfl | (rw [if_pos rfl]; rfl) | (simp only [if_pos, true_and, aR_forR, nk2, nk4, if_neg c1, if_neg c3, if_pos c6]; done) | (simp only [if_pos, true_and, aR_forR, nk2, nk4, if_neg c1, if_neg c3, if_pos c6]; rfl)) (by subst hM5; first | (rw [hT9]; done) | skip; rw [hT9]; first | rfl | (rw [if_pos rfl]; rfl) | (simp only [if_pos, true_and, aR_forR, nk2, nk4, if_neg c1, if_neg c3, if_pos c6]; done) | (simp only [if_pos, true_and, aR_forR, nk2, nk4, if_neg c1, if_neg c3, if_pos c6]; rfl))
    · refine lv_aload_n S.1 S.2.1 dX4_foresee_30 rfl (lv_at hl 0 rfl) ?_
      refine lv_iconst (v := 2) S.1 S.2.1 dX4_foresee_31 (by decide) ?_
      refine ar_callVi (As := [.int 2]) (rest := []) S hE (c_X4_no l hJ (V := (aq_ug (aq_ug V 0 Q) 1 Y)) (th := 0) 2) (cwV 1 S.2.2.2.2 gX4_foresee_X4_no rfl rfl rfl (by decide +kernel) ⟨Nat.le_of_ble_eq_true rfl, Nat.le_of_ble_eq_true rfl⟩) (aR_recvM I) I hl.1 dX4_foresee_32 rfl rfl (Nat.le_of_ble_eq_true rfl) ⟨by first | decide | (dsimp only; omega), by first | decide | (dsimp only; omega)⟩ (fun H locs I hk9 => ?_)
      have hT9 : aR_forT (nI k2) w = 2 := by simp only [aR_forT, nk2, if_neg c1, if_pos c3]
      exact aq_iret S.1 S.2.1 hr hlocks I dX4_foresee_35 (by decide) (by decide) (by first | (rw [hT9]; done) | skip; rw [hT9]; first | rfl | (rw [if_neg (by decide)]; done) | (rw [if_neg (by decide)]; rfl) | (rw [if_neg (by decide), if_neg (by decide)]; done) | (rw [if_neg (by decide), if_neg (by decide)]; rfl)) (by first | (rw [hT9]; done) | skip; rw [hT9]; first | rfl | (rw [if_neg (by decide)]; done) | (rw [if_neg (by decide)]; rfl) | (rw [if_neg (by decide), if_neg (by decide)]; done) | (rw [if_neg (by decide), if_neg (by decide)]; rfl))
  · refine lv_aload_n S.1 S.2.1 dX4_foresee_15 rfl (lv_at hl 0 rfl) ?_
    refine lv_iconst (v := 1) S.1 S.2.1 dX4_foresee_16 (by decide) ?_
    refine ar_callVi (As := [.int 1]) (rest := []) S hE (c_X4_no l hJ (V := (aq_ug (aq_ug V 0 Q) 1 Y)) (th := 0) 1) (cwV 1 S.2.2.2.2 gX4_foresee_X4_no rfl rfl rfl (by decide +kernel) ⟨Nat.le_of_ble_eq_true rfl, Nat.le_of_ble_eq_true rfl⟩) (aR_recvM I) I hl.1 dX4_foresee_17 rfl rfl (Nat.le_of_ble_eq_true rfl) ⟨by first | decide | (dsimp only; omega), by first | decide | (dsimp only; omega)⟩ (fun H locs I hk9 => ?_)
    have hT9 : aR_forT z w = 1 := by simp only [aR_forT, if_pos c1]
    exact aq_iret S.1 S.2.1 hr hlocks I dX4_foresee_20 (by decide) (by decide) (by first | (rw [hT9]; done) | skip; rw [hT9]; first | rfl | (rw [if_neg (by decide)]; done) | (rw [if_neg (by decide)]; rfl) | (rw [if_neg (by decide), if_neg (by decide)]; done) | (rw [if_neg (by decide), if_neg (by decide)]; rfl)) (by first | (rw [hT9]; done) | skip; rw [hT9]; first | rfl | (rw [if_neg (by decide)]; done) | (rw [if_neg (by decide)]; rfl) | (rw [if_neg (by decide), if_neg (by decide)]; done) | (rw [if_neg (by decide), if_neg (by decide)]; rfl))
theorem in_X4_advise_X3 : ∀ w ∈ wsX30, w ∈ wsX4_advise := fun _ h => List.mem_cons_of_mem _ (List.mem_append_right _ h)
theorem in_X4_advise_X4 : ∀ w ∈ wsX40, w ∈ wsX4_advise := fun _ h => List.mem_cons_of_mem _ (List.mem_append_left _ (List.mem_append_right _ h))
set_option maxHeartbeats 4000000 in
set_option maxRecDepth 100000 in
/-- X4_advise -/
theorem c_X4_advise (l : Launch) {D : va_G} {ad : Nat → Nat} {cI : ClassId} {th : Int32} (hJ : aq_J 22 ad) {V : aq_V} {Q Y : aq_Q} (hst : aR_st (V 3) Q) {n : Nat} (hn : V 3 10 3 = nI n) (hn20 : n ≤ 20) {h : Nat} (hh : Q 10 4 = nI h) (h31 : h + 200 < 2 ^ 31) (z : Int32) : ar_Met l yX4_advise wsX4_advise ({ frames := 5, cells := 0, slots := 0, locals := 114 }) D (aR_t cI) 22 ad [.ref (ad 0), .int z] (aR_w ad cI th (aq_ug (aq_ug V 0 Q) 1 Y)) (aq_Qi D (aR_t cI) 22 ad (if aR_advT z = 0 then aR_advR n (V 2) z.toNatClampNeg Q n 0 (-1) (aR_goR n (V 2) z.toNatClampNeg Q 0) else 0) (aR_w ad cI (aR_advT z) (aq_ug (aq_ug V 0 Q) 1 ((if aR_advT z = 0 then aR_advQ n (V 2) z.toNatClampNeg Q n 0 (aR_goQ n (V 2) z.toNatClampNeg Q) else Y))))) 0 0 := by
  refine ar_enter (cc := cX4_advise) (maxL := 6) (ret := some .int) (by decide) rfl (Nat.le_of_ble_eq_true rfl) ?_
  intro p e s m below meth c ls S hr hlocks hE I hl
  have S : CallFix p m c cX4_advise 6 s _ wsX4_advise RX4 := S
  have hl : lv_has ls 6 [(0, .ref (ad 0)), (1, .int z)] := hl
  refine lv_aload_n S.1 S.2.1 dX4_advise_0 rfl (lv_at hl 0 rfl) ?_
  refine lv_iconst (v := 0) S.1 S.2.1 dX4_advise_1 (by decide) ?_
  refine aR_putTh (x := 0) hJ S I in_X4_advise_X4 (List.mem_of_getElem? (i := 1) rfl) dX4_advise_2 (fun H locs I => ?_)
  refine lv_iload_n S.1 S.2.1 dX4_advise_5 rfl (lv_at hl 1 rfl) ?_
  refine lv_iconst (v := 1) S.1 S.2.1 dX4_advise_6 (by decide) ?_
  refine lv_bipush (v := 48) S.1 S.2.1 dX4_advise_7 (by decide) ?_
  refine ar_callSi (As := [.int z, .int 1, .int 48]) (rest := []) S hE (c_X4_isIn l (V := (aq_ug (aq_ug V 0 Q) 1 Y)) (th := 0) z 1 48) (va_cwS 3 S.2.2.2.2 gX4_advise_X4_isIn rfl rfl rfl (by decide +kernel) ⟨Nat.le_of_ble_eq_true rfl, Nat.le_of_ble_eq_true rfl⟩)  I hl.1 dX4_advise_9 rfl rfl (Nat.le_of_ble_eq_true rfl) ⟨by first | decide | (dsimp only; omega), by first | decide | (dsimp only; omega)⟩ (fun H locs I hk9 => ?_)
  refine lv_if_ne (tgt := 21) S.1 S.2.1 dX4_advise_12 (by decide) (fun c1 => ?_) (fun c1 => ?_)
  · obtain ⟨k2, gk2, hk2, ek2⟩ := aR_isIn_rg (a := 1) (b := 48) (by omega) (by omega) c1
    subst ek2
    have nk2 : (nI k2).toNatClampNeg = k2 := nI_clamp (by omega)
    refine lv_aload_n S.1 S.2.1 dX4_advise_21 rfl (lv_at hl 0 rfl) ?_
    refine aR_getM (v := .ref (ad 7)) S I 8 (by decide) in_X4_advise_X4 (List.mem_of_getElem? (i := 2) rfl) rfl dX4_advise_22 ?_
    refine lv_aload_n S.1 S.2.1 dX4_advise_25 rfl (lv_at hl 0 rfl) ?_
    refine aR_getM (v := .ref (ad 6)) S I 7 (by decide) in_X4_advise_X4 (List.mem_of_getElem? (i := 3) rfl) rfl dX4_advise_26 ?_
    refine ar_callVv (As := [.ref (ad 6)]) (rest := []) S hE (c_X3_become l hJ (V := V) (th := 0) (Q := Q) (Y := Y)) (cwV 1 S.2.2.2.2 gX4_advise_X3_become rfl rfl rfl (by decide +kernel) ⟨Nat.le_of_ble_eq_true rfl, Nat.le_of_ble_eq_true rfl⟩) (aR_recvS (j := 1) I (by decide)) I hl.1 dX4_advise_29 rfl rfl (Nat.le_of_ble_eq_true rfl) ⟨by first | decide | (dsimp only; omega), by first | decide | (dsimp only; omega)⟩ (fun H locs I hk9 => ?_)
    refine lv_iconst (v := (-1)) S.1 S.2.1 dX4_advise_32 (by decide) ?_
    refine lv_istore_n (lv' := [(2, .int ((-1))), (0, .ref (ad 0)), (1, .int (nI k2))]) S.1 S.2.1 dX4_advise_33 rfl hl (by decide) rfl (fun ls hl => ?_)
    refine lv_aload_n S.1 S.2.1 dX4_advise_34 rfl (lv_at hl 1 rfl) ?_
    refine aR_getM (v := .ref (ad 7)) S I 8 (by decide) in_X4_advise_X4 (List.mem_of_getElem? (i := 2) rfl) rfl dX4_advise_35 ?_
    refine lv_iload_n S.1 S.2.1 dX4_advise_38 rfl (lv_at hl 2 rfl) ?_
    refine ar_callSi (As := [.ref (ad 7), .int (nI k2)]) (rest := []) S hE (c_X4_pass l hJ (V := (aq_ug V 0 Q)) (th := 0) (Q := Q) (j := 1) (by decide) hst (n := n) hn hn20 (h := h) (z := k2) hh (by omega)) (va_cwS 2 S.2.2.2.2 gX4_advise_X4_pass rfl rfl rfl (by decide +kernel) ⟨Nat.le_of_ble_eq_true rfl, Nat.le_of_ble_eq_true rfl⟩)  I hl.1 dX4_advise_39 rfl rfl (Nat.le_of_ble_eq_true rfl) ⟨by first | decide | (dsimp only; omega), by first | decide | (dsimp only; omega)⟩ (fun H locs I hk9 => ?_)
    obtain ⟨M3, hM3⟩ : ∃ z9 : aq_Q, z9 = aR_goQ n ((aq_ug V 0 Q) 2) k2 Q := ⟨_, rfl⟩
    rw [← hM3] at I
    have hM3 : M3 = aR_goQ n (V 2) k2 Q := hM3
    refine lv_istore_n (lv' := [(3, .int (aR_goR n (V 2) k2 Q 0)), (2, .int ((-1))), (0, .ref (ad 0)), (1, .int (nI k2))]) S.1 S.2.1 dX4_advise_42 rfl hl (by decide) rfl (fun ls hl => ?_)
    refine lv_iconst (v := 0) S.1 S.2.1 dX4_advise_43 (by decide) ?_
    refine lv_istore (lv' := [(4, .int 0), (3, .int (aR_goR n (V 2) k2 Q 0)), (2, .int ((-1))), (0, .ref (ad 0)), (1, .int (nI k2))]) S.1 S.2.1 dX4_advise_44 hl (by decide) rfl (fun ls hl => ?_)
    have L46 : ∀ (k : Nat) (i : Nat) (b x : Int32) (Y' : aq_Q), (i + k = n) → (aR_advR n (V 2) k2 Q k i b x = (if aR_advT (nI k2) = 0 then aR_advR n (V 2) (nI k2).toNatClampNeg Q n 0 (-1) (aR_goR n (V 2) (nI k2).toNatClampNeg Q 0) else 0)) → (aR_advQ n (V 2) k2 Q k i Y' = (if aR_advT (nI k2) = 0 then aR_advQ n (V 2) (nI k2).toNatClampNeg Q n 0 (aR_goQ n (V 2) (nI k2).toNatClampNeg Q) else Y)) → ∀ (H : Heap) (locs : List Loc), aq_I D (aR_t cI) (aq_A 22 ad) (aR_w ad cI 0 (aq_ug (aq_ug V 0 Q) 1 (Y'))) s H locs → ∀ ls : Array Slot, lv_has ls 6 [(4, .int (nI i)), (3, .int x), (2, .int b), (0, .ref (ad 0)), (1, .int (nI k2))] → W p l e ({ frames := 5, cells := 0, slots := 0, locals := 114 } : Room) s m (([.ref (ad 0), .int (nI k2)] : List Value).toArray) below meth c H locs 0 0 (MQ below ((aq_Qi D (aR_t cI) 22 ad (if aR_advT (nI k2) = 0 then aR_advR n (V 2) (nI k2).toNatClampNeg Q n 0 (-1) (aR_goR n (V 2) (nI k2).toNatClampNeg Q 0) else 0) (aR_w ad cI (aR_advT (nI k2)) (aq_ug (aq_ug V 0 Q) 1 ((if aR_advT (nI k2) = 0 then aR_advQ n (V 2) (nI k2).toNatClampNeg Q n 0 (aR_goQ n (V 2) (nI k2).toNatClampNeg Q) else Y))))) s.heap.size) (([.ref (ad 0), .int (nI k2)] : List Value).toArray) s 0 0 (aq_A 22 ad s.heap.size)) (F0 m 46 ls []) := by
      intro k
      induction k with
      | zero =>
        intro i b x Y' hk hqr hqq H locs I ls hl
        refine lv_iload S.1 S.2.1 dX4_advise_46 (lv_at hl 0 rfl) ?_
        refine lv_aload_n S.1 S.2.1 dX4_advise_48 rfl (lv_at hl 3 rfl) ?_
        refine aR_getM (v := .int (nI n)) S I 3 (by decide) in_X4_advise_X4 (List.mem_of_getElem? (i := 4) rfl) (by first | (rw [aq_ug_n _ _ (by first | decide | omega), aq_ug_n _ _ (by first | decide | omega), hn]; done) | (rw [aq_ug_n _ _ (by first | decide | omega), aq_ug_n _ _ (by first | decide | omega), hn]; rfl)) dX4_advise_49 ?_
        refine lv_icmp_ge (tgt := 124) S.1 S.2.1 dX4_advise_52 (by decide) (fun c4 => ?_) (fun c4 => ?_)
        · have c4 : n ≤ i := (nI_leI (a := n) (b := i) (by omega) (by omega)).mp c4
          refine lv_iload_n S.1 S.2.1 dX4_advise_124 rfl (lv_at hl 2 rfl) ?_
          have hT9 : aR_advT (nI k2) = 0 := by simp only [aR_advT, if_neg c1]
          exact aq_iret S.1 S.2.1 hr hlocks I dX4_advise_125 (by decide) (by decide) hqr (by rw [hT9] at hqq ⊢; exact (congrArg (fun z9 => aR_w ad cI 0 (aq_ug (aq_ug V 0 Q) 1 z9)) hqq))
        · have c4 : i < n := Nat.lt_of_not_le (fun z9 => c4 ((nI_leI (a := n) (b := i) (by omega) (by omega)).mpr z9))
          exfalso; omega
      | succ k ih =>
        intro i b x Y' hk hqr hqq H locs I ls hl
        refine lv_iload S.1 S.2.1 dX4_advise_46 (lv_at hl 0 rfl) ?_
        refine lv_aload_n S.1 S.2.1 dX4_advise_48 rfl (lv_at hl 3 rfl) ?_
        refine aR_getM (v := .int (nI n)) S I 3 (by decide) in_X4_advise_X4 (List.mem_of_getElem? (i := 4) rfl) (by first | (rw [aq_ug_n _ _ (by first | decide | omega), aq_ug_n _ _ (by first | decide | omega), hn]; done) | (rw [aq_ug_n _ _ (by first | decide | omega), aq_ug_n _ _ (by first | decide | omega), hn]; rfl)) dX4_advise_49 ?_
        refine lv_icmp_ge (tgt := 124) S.1 S.2.1 dX4_advise_52 (by decide) (fun c5 => ?_) (fun c5 => ?_)
        · have c5 : n ≤ i := (nI_leI (a := n) (b := i) (by omega) (by omega)).mp c5
          exfalso; omega
        · have c5 : i < n := Nat.lt_of_not_le (fun z9 => c5 ((nI_leI (a := n) (b := i) (by omega) (by omega)).mpr z9))
          refine lv_aload_n S.1 S.2.1 dX4_advise_55 rfl (lv_at hl 3 rfl) ?_
          refine aR_getM (v := .ref (ad 6)) S I 7 (by decide) in_X4_advise_X4 (List.mem_of_getElem? (i := 3) rfl) rfl dX4_advise_56 ?_
          refine aR_getSN (j := 0) (v := .ref (ad (12 + 7 * 0))) S I (by decide) 8 (by decide) in_X4_advise_X3 (hE.1 _ (List.mem_of_getElem? (i := 0) rfl)) rfl dX4_advise_59 ?_
          refine lv_iload S.1 S.2.1 dX4_advise_62 (lv_at hl 0 rfl) ?_
          refine aR_ald (j := 0) (a := 4) (f := 7) (k := i) (x := Q 7 i) S I (by decide) (by decide) rfl rfl (by omega) (by rw [aq_ug_n _ _ (by decide), aq_ug_s]) dX4_advise_64 ?_
          refine lv_if_ne (tgt := 71) S.1 S.2.1 dX4_advise_65 (by decide) (fun c6 => ?_) (fun c6 => ?_)
          · refine lv_aload_n S.1 S.2.1 dX4_advise_71 rfl (lv_at hl 3 rfl) ?_
            refine aR_getM (v := .ref (ad 7)) S I 8 (by decide) in_X4_advise_X4 (List.mem_of_getElem? (i := 2) rfl) rfl dX4_advise_72 ?_
            refine lv_aload_n S.1 S.2.1 dX4_advise_75 rfl (lv_at hl 3 rfl) ?_
            refine aR_getM (v := .ref (ad 6)) S I 7 (by decide) in_X4_advise_X4 (List.mem_of_getElem? (i := 3) rfl) rfl dX4_advise_76 ?_
            refine ar_callVv (As := [.ref (ad 6)]) (rest := []) S hE (c_X3_become l hJ (V := V) (th := 0) (Q := Q) (Y := Y')) (cwV 1 S.2.2.2.2 gX4_advise_X3_become rfl rfl rfl (by decide +kernel) ⟨Nat.le_of_ble_eq_true rfl, Nat.le_of_ble_eq_true rfl⟩) (aR_recvS (j := 1) I (by decide)) I hl.1 dX4_advise_79 rfl rfl (Nat.le_of_ble_eq_true rfl) ⟨by first | decide | (dsimp only; omega), by first | decide | (dsimp only; omega)⟩ (fun H locs I hk9 => ?_)
            refine lv_aload_n S.1 S.2.1 dX4_advise_82 rfl (lv_at hl 3 rfl) ?_
            refine aR_getM (v := .ref (ad 7)) S I 8 (by decide) in_X4_advise_X4 (List.mem_of_getElem? (i := 2) rfl) rfl dX4_advise_83 ?_
            refine aR_getSN (j := 1) (v := .ref (ad (12 + 7 * 1))) S I (by decide) 8 (by decide) in_X4_advise_X3 (hE.1 _ (List.mem_of_getElem? (i := 0) rfl)) rfl dX4_advise_86 ?_
            refine lv_iload S.1 S.2.1 dX4_advise_89 (lv_at hl 0 rfl) ?_
            refine lv_iconst (v := 0) S.1 S.2.1 dX4_advise_91 (by decide) ?_
            refine aR_ast (V := (aq_ug V 0 Q)) (Q := Q) (j := 1) (a := 4) (f := 7) (k := i) (x := 0) hJ S I (by decide) (by decide) rfl rfl (by omega) dX4_advise_92 (fun H locs M7 hM7 I => ?_)
            refine lv_aload_n S.1 S.2.1 dX4_advise_93 rfl (lv_at hl 3 rfl) ?_
            refine aR_getM (v := .ref (ad 7)) S I 8 (by decide) in_X4_advise_X4 (List.mem_of_getElem? (i := 2) rfl) rfl dX4_advise_94 ?_
            refine lv_iload_n S.1 S.2.1 dX4_advise_97 rfl (lv_at hl 4 rfl) ?_
            have hh_M7 : M7 10 4 = nI h := by rw [hM7]; exact (aq_up_f _ _ (by decide)).trans hh
            have hst_M7 : aR_st (V 3) M7 := by rw [hM7]; exact aR_st_up (by decide) (by decide) (by decide) hst
            refine ar_callSi (As := [.ref (ad 7), .int (nI k2)]) (rest := []) S hE (c_X4_pass l hJ (V := (aq_ug V 0 Q)) (th := 0) (Q := M7) (j := 1) (by decide) hst_M7 (n := n) hn hn20 (h := h) (z := k2) hh_M7 (by omega)) (va_cwS 2 S.2.2.2.2 gX4_advise_X4_pass rfl rfl rfl (by decide +kernel) ⟨Nat.le_of_ble_eq_true rfl, Nat.le_of_ble_eq_true rfl⟩)  I hl.1 dX4_advise_98 rfl rfl (Nat.le_of_ble_eq_true rfl) ⟨by first | decide | (dsimp only; omega), by first | decide | (dsimp only; omega)⟩ (fun H locs I hk9 => ?_)
            obtain ⟨M8, hM8⟩ : ∃ z9 : aq_Q, z9 = aR_goQ n ((aq_ug V 0 Q) 2) k2 M7 := ⟨_, rfl⟩
            rw [← hM8] at I
            have hM8 : M8 = aR_goQ n (V 2) k2 M7 := hM8
            refine lv_istore (lv' := [(5, .int (aR_goR n (V 2) k2 M7 0)), (4, .int (nI i)), (3, .int x), (2, .int b), (0, .ref (ad 0)), (1, .int (nI k2))]) S.1 S.2.1 dX4_advise_101 hl (by decide) rfl (fun ls hl => ?_)
            refine lv_iload S.1 S.2.1 dX4_advise_103 (lv_at hl 0 rfl) ?_
            refine lv_iload_n S.1 S.2.1 dX4_advise_105 rfl (lv_at hl 2 rfl) ?_
            refine lv_icmp_lt (tgt := 112) S.1 S.2.1 dX4_advise_106 (by decide) (fun c9 => ?_) (fun c9 => ?_)
            · refine lv_iload S.1 S.2.1 dX4_advise_112 (lv_at hl 1 rfl) ?_
              refine lv_istore_n (lv' := [(2, .int (nI i)), (5, .int (aR_goR n (V 2) k2 M7 0)), (4, .int (nI i)), (3, .int x), (0, .ref (ad 0)), (1, .int (nI k2))]) S.1 S.2.1 dX4_advise_114 rfl hl (by decide) rfl (fun ls hl => ?_)
              refine lv_iload S.1 S.2.1 dX4_advise_115 (lv_at hl 1 rfl) ?_
              refine lv_istore_n (lv' := [(3, .int (aR_goR n (V 2) k2 M7 0)), (2, .int (nI i)), (5, .int (aR_goR n (V 2) k2 M7 0)), (4, .int (nI i)), (0, .ref (ad 0)), (1, .int (nI k2))]) S.1 S.2.1 dX4_advise_117 rfl hl (by decide) rfl (fun ls hl => ?_)
              refine lv_iinc (v := nI (i + 1)) (lv' := [(4, .int (nI (i + 1))), (3, .int (aR_goR n (V 2) k2 M7 0)), (2, .int (nI i)), (5, .int (aR_goR n (V 2) k2 M7 0)), (0, .ref (ad 0)), (1, .int (nI k2))]) S.1 S.2.1 dX4_advise_118 hl (k := 3) rfl (nI_1 _) (by decide) rfl (fun ls hl => ?_)
              refine lv_goto (tgt := 46) S.1 S.2.1 dX4_advise_121 (by decide) ?_
              exact ih (i + 1) (nI i) (aR_goR n (V 2) k2 M7 0) M8 (by omega) (by subst hM8; subst hM7; rw [aR_advR, if_neg c6, aR_advX, if_neg (Int32.not_le.mpr c9)] at hqr; exact hqr) (by subst hM8; subst hM7; rw [aR_advQ, if_neg c6] at hqq; exact hqq) _ _ I ls (lv_sub hl [0, 1, 2, 4, 5] rfl)
            · refine lv_goto (tgt := 118) S.1 S.2.1 dX4_advise_109 (by decide) ?_
              refine lv_iinc (v := nI (i + 1)) (lv' := [(4, .int (nI (i + 1))), (5, .int (aR_goR n (V 2) k2 M7 0)), (3, .int x), (2, .int b), (0, .ref (ad 0)), (1, .int (nI k2))]) S.1 S.2.1 dX4_advise_118 hl (k := 1) rfl (nI_1 _) (by decide) rfl (fun ls hl => ?_)
              refine lv_goto (tgt := 46) S.1 S.2.1 dX4_advise_121 (by decide) ?_
              exact ih (i + 1) b x M8 (by omega) (by subst hM8; subst hM7; rw [aR_advR, if_neg c6, aR_advX, if_pos (Int32.not_lt.mp c9)] at hqr; exact hqr) (by subst hM8; subst hM7; rw [aR_advQ, if_neg c6] at hqq; exact hqq) _ _ I ls (lv_sub hl [0, 2, 3, 4, 5] rfl)
          · refine lv_goto (tgt := 118) S.1 S.2.1 dX4_advise_68 (by decide) ?_
            refine lv_iinc (v := nI (i + 1)) (lv' := [(4, .int (nI (i + 1))), (3, .int x), (2, .int b), (0, .ref (ad 0)), (1, .int (nI k2))]) S.1 S.2.1 dX4_advise_118 hl (k := 0) rfl (nI_1 _) (by decide) rfl (fun ls hl => ?_)
            refine lv_goto (tgt := 46) S.1 S.2.1 dX4_advise_121 (by decide) ?_
            exact ih (i + 1) b x Y' (by omega) (by rw [aR_advR, if_pos c6] at hqr; exact hqr) (by rw [aR_advQ, if_pos c6] at hqq; exact hqq) _ _ I ls (lv_sub hl [0, 1, 2, 3, 4] rfl)
    have hT9 : aR_advT (nI k2) = 0 := by simp only [aR_advT, if_neg c1]
    exact L46 n 0 (-1) (aR_goR n (V 2) k2 Q 0) M3 (by omega) (by subst hM3; rw [hT9, if_pos rfl, nk2]) (by subst hM3; rw [hT9, if_pos rfl, nk2]) _ _ I ls (lv_sub hl [0, 1, 2, 3, 4] rfl)
  · refine lv_aload_n S.1 S.2.1 dX4_advise_15 rfl (lv_at hl 0 rfl) ?_
    refine lv_iconst (v := 1) S.1 S.2.1 dX4_advise_16 (by decide) ?_
    refine ar_callVi (As := [.int 1]) (rest := []) S hE (c_X4_no l hJ (V := (aq_ug (aq_ug V 0 Q) 1 Y)) (th := 0) 1) (cwV 1 S.2.2.2.2 gX4_advise_X4_no rfl rfl rfl (by decide +kernel) ⟨Nat.le_of_ble_eq_true rfl, Nat.le_of_ble_eq_true rfl⟩) (aR_recvM I) I hl.1 dX4_advise_17 rfl rfl (Nat.le_of_ble_eq_true rfl) ⟨by first | decide | (dsimp only; omega), by first | decide | (dsimp only; omega)⟩ (fun H locs I hk9 => ?_)
    have hT9 : aR_advT z = 1 := by simp only [aR_advT, if_pos c1]
    exact aq_iret S.1 S.2.1 hr hlocks I dX4_advise_20 (by decide) (by decide) (by first | (rw [hT9]; done) | skip; rw [hT9]; first | rfl | (rw [if_neg (by decide)]; done) | (rw [if_neg (by decide)]; rfl) | (rw [if_neg (by decide), if_neg (by decide)]; done) | (rw [if_neg (by decide), if_neg (by decide)]; rfl)) (by first | (rw [hT9]; done) | skip; rw [hT9]; first | rfl | (rw [if_neg (by decide)]; done) | (rw [if_neg (by decide)]; rfl) | (rw [if_neg (by decide), if_neg (by decide)]; done) | (rw [if_neg (by decide), if_neg (by decide)]; rfl))
theorem in_X4_thirsty_X4 : ∀ w ∈ wsX40, w ∈ wsX4_thirsty := fun _ h => List.mem_cons_of_mem _ (List.mem_append_left _ (List.mem_append_right _ h))
set_option maxHeartbeats 4000000 in
set_option maxRecDepth 100000 in
/-- X4_thirsty -/
theorem c_X4_thirsty (l : Launch) {D : va_G} {ad : Nat → Nat} {cI : ClassId} {th : Int32} (hJ : aq_J 22 ad) {V : aq_V} {Q Y : aq_Q} (hst : aR_st (V 3) Q) {n : Nat} (hn : V 3 10 3 = nI n) (hn20 : n ≤ 20) {h : Nat} (hh : Q 10 4 = nI h) (h31 : h + 200 < 2 ^ 31) {z : Nat} (hz : z = 200) : ar_Met l yX4_thirsty wsX4_thirsty ({ frames := 4, cells := 0, slots := 0, locals := 107 }) D (aR_t cI) 22 ad [.ref (ad 0)] (aR_w ad cI th (aq_ug (aq_ug V 0 Q) 1 Y)) (aq_Qi D (aR_t cI) 22 ad (aR_thsR n (V 2) z 1 Q) (aR_w ad cI (0) (aq_ug (aq_ug V 0 Q) 1 (aR_thsQ n (V 2) z 1 Q)))) 0 0 := by
  refine ar_enter (cc := cX4_thirsty) (maxL := 2) (ret := some .int) (by decide) rfl (Nat.le_of_ble_eq_true rfl) ?_
  intro p e s m below meth c ls S hr hlocks hE I hl
  have S : CallFix p m c cX4_thirsty 2 s _ wsX4_thirsty RX4 := S
  have hl : lv_has ls 2 [(0, .ref (ad 0))] := hl
  refine lv_aload_n S.1 S.2.1 dX4_thirsty_0 rfl (lv_at hl 0 rfl) ?_
  refine lv_iconst (v := 0) S.1 S.2.1 dX4_thirsty_1 (by decide) ?_
  refine aR_putTh (x := 0) hJ S I in_X4_thirsty_X4 (List.mem_of_getElem? (i := 1) rfl) dX4_thirsty_2 (fun H locs I => ?_)
  refine lv_aload_n S.1 S.2.1 dX4_thirsty_5 rfl (lv_at hl 0 rfl) ?_
  refine aR_getM (v := .ref (ad 7)) S I 8 (by decide) in_X4_thirsty_X4 (List.mem_of_getElem? (i := 2) rfl) rfl dX4_thirsty_6 ?_
  refine lv_aload_n S.1 S.2.1 dX4_thirsty_9 rfl (lv_at hl 0 rfl) ?_
  refine aR_getM (v := .ref (ad 6)) S I 7 (by decide) in_X4_thirsty_X4 (List.mem_of_getElem? (i := 3) rfl) rfl dX4_thirsty_10 ?_
  refine ar_callVv (As := [.ref (ad 6)]) (rest := []) S hE (c_X3_become l hJ (V := V) (th := 0) (Q := Q) (Y := Y)) (cwV 1 S.2.2.2.2 gX4_thirsty_X3_become rfl rfl rfl (by decide +kernel) ⟨Nat.le_of_ble_eq_true rfl, Nat.le_of_ble_eq_true rfl⟩) (aR_recvS (j := 1) I (by decide)) I hl.1 dX4_thirsty_13 rfl rfl (Nat.le_of_ble_eq_true rfl) ⟨by first | decide | (dsimp only; omega), by first | decide | (dsimp only; omega)⟩ (fun H locs I hk9 => ?_)
  refine lv_iconst (v := 1) S.1 S.2.1 dX4_thirsty_16 (by decide) ?_
  refine lv_istore_n (lv' := [(1, .int 1), (0, .ref (ad 0))]) S.1 S.2.1 dX4_thirsty_17 rfl hl (by decide) rfl (fun ls hl => ?_)
  have L18 : ∀ (k : Nat) (i h' : Nat) (Y' : aq_Q), (i + k = z + 1) → (aR_st (V 3) Y') → (Y' 10 4 = nI h') → (h' + k < 2 ^ 31) → (aR_thsR n (V 2) k i Y' = aR_thsR n (V 2) z 1 Q) → (aR_thsQ n (V 2) k i Y' = aR_thsQ n (V 2) z 1 Q) → ∀ (H : Heap) (locs : List Loc), aq_I D (aR_t cI) (aq_A 22 ad) (aR_w ad cI 0 (aq_ug (aq_ug V 0 Q) 1 (Y'))) s H locs → ∀ ls : Array Slot, lv_has ls 2 [(1, .int (nI i)), (0, .ref (ad 0))] → W p l e ({ frames := 4, cells := 0, slots := 0, locals := 107 } : Room) s m (([.ref (ad 0)] : List Value).toArray) below meth c H locs 0 0 (MQ below ((aq_Qi D (aR_t cI) 22 ad (aR_thsR n (V 2) z 1 Q) (aR_w ad cI (0) (aq_ug (aq_ug V 0 Q) 1 (aR_thsQ n (V 2) z 1 Q)))) s.heap.size) (([.ref (ad 0)] : List Value).toArray) s 0 0 (aq_A 22 ad s.heap.size)) (F0 m 18 ls []) := by
    intro k
    induction k with
    | zero =>
      intro i h' Y' hk hst' hh' h31' hqr hqq H locs I ls hl
      refine lv_iload_n S.1 S.2.1 dX4_thirsty_18 rfl (lv_at hl 0 rfl) ?_
      refine lv_sipush (v := 200) S.1 S.2.1 dX4_thirsty_19 (by decide) ?_
      refine lv_icmp_gt (tgt := 43) S.1 S.2.1 dX4_thirsty_22 (by decide) (fun c1 => ?_) (fun c1 => ?_)
      · have c1 : 200 < i := (nI_ltI (a := 200) (b := i) (by omega) (by omega)).mp c1
        refine lv_iconst (v := (-1)) S.1 S.2.1 dX4_thirsty_43 (by decide) ?_
        exact aq_iret S.1 S.2.1 hr hlocks I dX4_thirsty_44 (by decide) (by decide) hqr (congrArg (fun z9 => aR_w ad cI 0 (aq_ug (aq_ug V 0 Q) 1 z9)) hqq)
      · have c1 : i ≤ 200 := Nat.le_of_not_lt (fun z9 => c1 ((nI_ltI (a := 200) (b := i) (by omega) (by omega)).mpr z9))
        exfalso; omega
    | succ k ih =>
      intro i h' Y' hk hst' hh' h31' hqr hqq H locs I ls hl
      refine lv_iload_n S.1 S.2.1 dX4_thirsty_18 rfl (lv_at hl 0 rfl) ?_
      refine lv_sipush (v := 200) S.1 S.2.1 dX4_thirsty_19 (by decide) ?_
      refine lv_icmp_gt (tgt := 43) S.1 S.2.1 dX4_thirsty_22 (by decide) (fun c2 => ?_) (fun c2 => ?_)
      · have c2 : 200 < i := (nI_ltI (a := 200) (b := i) (by omega) (by omega)).mp c2
        exfalso; omega
      · have c2 : i ≤ 200 := Nat.le_of_not_lt (fun z9 => c2 ((nI_ltI (a := 200) (b := i) (by omega) (by omega)).mpr z9))
        refine lv_aload_n S.1 S.2.1 dX4_thirsty_25 rfl (lv_at hl 1 rfl) ?_
        refine aR_getM (v := .ref (ad 7)) S I 8 (by decide) in_X4_thirsty_X4 (List.mem_of_getElem? (i := 2) rfl) rfl dX4_thirsty_26 ?_
        refine ar_callVi (As := []) (rest := []) S hE (c_X3_pass l hJ (V := (aq_ug V 0 Q)) (th := 0) (Q := Y') (j := 1) (by decide) hst' (n := n) hn hn20 (h := h') hh' (by omega)) (cwV 0 S.2.2.2.2 gX4_thirsty_X3_pass rfl rfl rfl (by decide +kernel) ⟨Nat.le_of_ble_eq_true rfl, Nat.le_of_ble_eq_true rfl⟩) (aR_recvS (j := 1) I (by decide)) I hl.1 dX4_thirsty_29 rfl rfl (Nat.le_of_ble_eq_true rfl) ⟨by first | decide | (dsimp only; omega), by first | decide | (dsimp only; omega)⟩ (fun H locs I hk9 => ?_)
        refine lv_topi (fun x3 ex3 => ?_)
        obtain ⟨M4, hM4⟩ : ∃ z9 : aq_Q, z9 = aR_hourD n ((aq_ug V 0 Q) 2) (h' % 24) Y' := ⟨_, rfl⟩
        rw [← hM4] at I ex3
        have hM4 : M4 = aR_hourD n (V 2) (h' % 24) Y' := hM4
        have hM4 : M4 = aR_hourQ n (V 2) Y' := by rw [hM4, aR_hourQ_eq hh' (by omega)]
        have hh_M4 : M4 10 4 = nI (h' + 1) := by rw [hM4, aR_hourQ_eq hh' (by omega), aR_hourD_h, hh', nI_1]
        refine lv_if_le (tgt := 37) S.1 S.2.1 dX4_thirsty_32 (by decide) (fun c5 => ?_) (fun c5 => ?_)
        · refine lv_iinc (v := nI (i + 1)) (lv' := [(1, .int (nI (i + 1))), (0, .ref (ad 0))]) S.1 S.2.1 dX4_thirsty_37 hl (k := 0) rfl (nI_1 _) (by decide) rfl (fun ls hl => ?_)
          refine lv_goto (tgt := 18) S.1 S.2.1 dX4_thirsty_40 (by decide) ?_
          have hst_M4 : aR_st (V 3) M4 := by rw [hM4]; exact aR_st_hourQ hst'
          exact ih (i + 1) (h' + 1) M4 (by omega) hst_M4 hh_M4 (by omega) (by subst ex3; subst hM4; rw [aR_thsR, if_pos c5] at hqr; exact hqr) (by subst ex3; subst hM4; rw [aR_thsQ, if_pos c5] at hqq; exact hqq) _ _ I ls (lv_sub hl [0, 1] rfl)
        · refine lv_iload_n S.1 S.2.1 dX4_thirsty_35 rfl (lv_at hl 0 rfl) ?_
          exact aq_iret S.1 S.2.1 hr hlocks I dX4_thirsty_36 (by decide) (by decide) (by subst ex3; subst hM4; rw [aR_thsR, if_neg c5] at hqr; exact hqr) (by subst ex3; subst hM4; rw [aR_thsQ, if_neg c5] at hqq; exact (congrArg (fun z9 => aR_w ad cI 0 (aq_ug (aq_ug V 0 Q) 1 z9)) hqq))
  exact L18 z 1 h Q (by omega) hst hh (by omega) rfl rfl _ _ I ls (lv_sub hl [0, 1] rfl)
