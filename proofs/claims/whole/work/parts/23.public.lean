/-! the twin's public calls -/
def aR_addQ (n : Nat) (S : aq_Q) (h z : Int32) : aq_Q := aq_up (aq_up (aq_up S 0 n h) 1 n z) 10 3 (nI (n + 1))
def aR_cisT (v : Int32) : Int32 := if aR_isIn v 0 500 = 0 then 1 else 0
def aR_cis1 (Q : aq_Q) (v : Int32) : aq_Q := aq_up (aq_up Q 10 6 v) 10 7 (Q 10 7 - aq_mx 0 (Q 10 7 - v))
def aR_cisQ (Q : aq_Q) (v : Int32) : aq_Q := aq_up (aR_cis1 Q v) 10 9 (Q 10 9 + aq_mx 0 (Q 10 7 - v))
def aR_mendQ (Q : aq_Q) (a : Nat) : aq_Q := aq_up (aq_up (aq_up Q 10 5 (Q 10 5 - 1)) 3 a (aq_mx 0 (Q 3 a - 10))) 4 a 0
def aR_cntT (w : Int32) : Int32 := if aR_isIn w 0 11 = 0 then 1 else 0
def aR_pasT (z : Int32) : Int32 := if aR_isIn z 1 100 = 0 then 1 else 0
theorem in_X4_build_X4 : ∀ w ∈ wsX40, w ∈ wsX4_build := fun _ h => List.mem_cons_of_mem _ (List.mem_append_right _ h)
set_option maxHeartbeats 4000000 in
set_option maxRecDepth 100000 in
/-- X4_build -/
theorem c_X4_build (l : Launch) {D : va_G} {ad : Nat → Nat} {cI : ClassId} {th : Int32} (hJ : aq_J 22 ad) {V : aq_V} {G : aq_Q} {n : Nat} (hn : G 10 3 = nI n) (hn20 : n ≤ 20) (h z : Int32) : ar_Met l yX4_build wsX4_build ({ frames := 1, cells := 0, slots := 0, locals := 22 }) D (aR_t cI) 22 ad [.ref (ad 0), .int h, .int z] (aR_w ad cI th (aq_ug V 3 G)) (aq_Qi D (aR_t cI) 22 ad (if aR_buildT n G h z = 0 then nI n else 0) (aR_w ad cI (aR_buildT n G h z) (aq_ug V 3 (if aR_buildT n G h z = 0 then aR_addQ n G h z else G)))) 0 0 := by
  refine ar_enter (cc := cX4_build) (maxL := 3) (ret := some .int) (by decide) rfl (Nat.le_of_ble_eq_true rfl) ?_
  intro p e s m below meth c ls S hr hlocks hE I hl
  have S : CallFix p m c cX4_build 3 s _ wsX4_build RX4 := S
  have hl : lv_has ls 3 [(0, .ref (ad 0)), (1, .int h), (2, .int z)] := hl
  refine lv_aload_n S.1 S.2.1 dX4_build_0 rfl (lv_at hl 0 rfl) ?_
  refine lv_iconst (v := 0) S.1 S.2.1 dX4_build_1 (by decide) ?_
  refine aR_putTh (x := 0) hJ S I in_X4_build_X4 (List.mem_of_getElem? (i := 1) rfl) dX4_build_2 (fun H locs I => ?_)
  refine lv_iload_n S.1 S.2.1 dX4_build_5 rfl (lv_at hl 1 rfl) ?_
  refine lv_iconst (v := 0) S.1 S.2.1 dX4_build_6 (by decide) ?_
  refine lv_aload_n S.1 S.2.1 dX4_build_7 rfl (lv_at hl 0 rfl) ?_
  refine aR_getM (v := .int (nI n)) S I 3 (by decide) in_X4_build_X4 (List.mem_of_getElem? (i := 2) rfl) (by first | (rw [aq_ug_s, hn]; done) | (rw [aq_ug_s, hn]; rfl)) dX4_build_8 ?_
  refine lv_if_ne (tgt := 20) S.1 S.2.1 dX4_build_11 (by decide) (fun c1 => ?_) (fun c1 => ?_)
  · have c1 : ¬ n = 0 := fun z9 => c1 ((nI_eq (a := n) (b := 0) (by omega) (by omega)).mpr z9)
    refine lv_aload_n S.1 S.2.1 dX4_build_20 rfl (lv_at hl 0 rfl) ?_
    refine aR_getM (v := .ref (ad 3)) S I 4 (by decide) in_X4_build_X4 (List.mem_of_getElem? (i := 3) rfl) rfl dX4_build_21 ?_
    refine lv_aload_n S.1 S.2.1 dX4_build_24 rfl (lv_at hl 0 rfl) ?_
    refine aR_getM (v := .int (nI n)) S I 3 (by decide) in_X4_build_X4 (List.mem_of_getElem? (i := 2) rfl) (by first | (rw [aq_ug_s, hn]; done) | (rw [aq_ug_s, hn]; rfl)) dX4_build_25 ?_
    refine lv_iconst (v := 1) S.1 S.2.1 dX4_build_28 (by decide) ?_
    refine lv_isub S.1 S.2.1 dX4_build_29 ?_
    refine lv_topi (fun x2 (ex2 : x2 = nI n - nI 1) => ?_)
    rw [pk_sub (by omega)] at ex2; subst ex2
    refine aR_fld (t := 0) (f := 0) (k := n - 1) (x := G 0 (n - 1)) S I (by decide) rfl rfl (by omega) (by rw [aq_ug_s]) dX4_build_30 ?_
    refine ar_callSi (As := [.int h, .int 0, .int (G 0 (n - 1))]) (rest := []) S hE (c_X4_isIn l (V := (aq_ug V 3 G)) (th := 0) h 0 (G 0 (n - 1))) (va_cwS 3 S.2.2.2.2 gX4_build_X4_isIn rfl rfl rfl (by decide +kernel) ⟨Nat.le_of_ble_eq_true rfl, Nat.le_of_ble_eq_true rfl⟩)  I hl.1 dX4_build_31 rfl rfl (Nat.le_of_ble_eq_true rfl) ⟨by first | decide | (dsimp only; omega), by first | decide | (dsimp only; omega)⟩ (fun H locs I hk9 => ?_)
    refine lv_if_eq (tgt := 47) S.1 S.2.1 dX4_build_34 (by decide) (fun c3 => ?_) (fun c3 => ?_)
    · refine lv_aload_n S.1 S.2.1 dX4_build_47 rfl (lv_at hl 0 rfl) ?_
      refine lv_iconst (v := 1) S.1 S.2.1 dX4_build_48 (by decide) ?_
      refine ar_callVi (As := [.int 1]) (rest := []) S hE (c_X4_no l hJ (V := (aq_ug V 3 G)) (th := 0) 1) (cwV 1 S.2.2.2.2 gX4_build_X4_no rfl rfl rfl (by decide +kernel) ⟨Nat.le_of_ble_eq_true rfl, Nat.le_of_ble_eq_true rfl⟩) (aR_recvM I) I hl.1 dX4_build_49 rfl rfl (Nat.le_of_ble_eq_true rfl) ⟨by first | decide | (dsimp only; omega), by first | decide | (dsimp only; omega)⟩ (fun H locs I hk9 => ?_)
      have hT9 : aR_buildT n G h z = 1 := by simp only [aR_buildT, aq_top, if_neg c1, if_pos c3]
      exact aq_iret S.1 S.2.1 hr hlocks I dX4_build_52 (by decide) (by decide) (by first | (rw [hT9]; done) | skip; rw [hT9]; first | rfl | (rw [if_neg (by decide)]; done) | (rw [if_neg (by decide)]; rfl) | (rw [if_neg (by decide), if_neg (by decide)]; done) | (rw [if_neg (by decide), if_neg (by decide)]; rfl)) (by first | (rw [hT9]; done) | skip; rw [hT9]; first | rfl | (rw [if_neg (by decide)]; done) | (rw [if_neg (by decide)]; rfl) | (rw [if_neg (by decide), if_neg (by decide)]; done) | (rw [if_neg (by decide), if_neg (by decide)]; rfl))
    · refine lv_iload_n S.1 S.2.1 dX4_build_37 rfl (lv_at hl 2 rfl) ?_
      refine lv_iconst (v := 1) S.1 S.2.1 dX4_build_38 (by decide) ?_
      refine lv_bipush (v := 40) S.1 S.2.1 dX4_build_39 (by decide) ?_
      refine ar_callSi (As := [.int z, .int 1, .int 40]) (rest := []) S hE (c_X4_isIn l (V := (aq_ug V 3 G)) (th := 0) z 1 40) (va_cwS 3 S.2.2.2.2 gX4_build_X4_isIn rfl rfl rfl (by decide +kernel) ⟨Nat.le_of_ble_eq_true rfl, Nat.le_of_ble_eq_true rfl⟩)  I hl.1 dX4_build_41 rfl rfl (Nat.le_of_ble_eq_true rfl) ⟨by first | decide | (dsimp only; omega), by first | decide | (dsimp only; omega)⟩ (fun H locs I hk9 => ?_)
      refine lv_if_ne (tgt := 53) S.1 S.2.1 dX4_build_44 (by decide) (fun c4 => ?_) (fun c4 => ?_)
      · refine lv_aload_n S.1 S.2.1 dX4_build_53 rfl (lv_at hl 0 rfl) ?_
        refine aR_getM (v := .int (nI n)) S I 3 (by decide) in_X4_build_X4 (List.mem_of_getElem? (i := 2) rfl) (by first | (rw [aq_ug_s, hn]; done) | (rw [aq_ug_s, hn]; rfl)) dX4_build_54 ?_
        refine lv_bipush (v := 20) S.1 S.2.1 dX4_build_57 (by decide) ?_
        refine lv_icmp_ne (tgt := 68) S.1 S.2.1 dX4_build_59 (by decide) (fun c5 => ?_) (fun c5 => ?_)
        · have c5 : ¬ n = 20 := fun z9 => c5 ((nI_eq (a := n) (b := 20) (by omega) (by omega)).mpr z9)
          refine lv_aload_n S.1 S.2.1 dX4_build_68 rfl (lv_at hl 0 rfl) ?_
          refine aR_getM (v := .ref (ad 3)) S I 4 (by decide) in_X4_build_X4 (List.mem_of_getElem? (i := 3) rfl) rfl dX4_build_69 ?_
          refine lv_aload_n S.1 S.2.1 dX4_build_72 rfl (lv_at hl 0 rfl) ?_
          refine aR_getM (v := .int (nI n)) S I 3 (by decide) in_X4_build_X4 (List.mem_of_getElem? (i := 2) rfl) (by first | (rw [aq_ug_s, hn]; done) | (rw [aq_ug_s, hn]; rfl)) dX4_build_73 ?_
          refine lv_iload_n S.1 S.2.1 dX4_build_76 rfl (lv_at hl 1 rfl) ?_
          refine aR_fst (V := V) (S3 := G) (t := 0) (f := 0) (k := n) (x := h) hJ S I (by decide) rfl rfl (by omega) dX4_build_77 (fun H locs M6 hM6 I => ?_)
          refine lv_aload_n S.1 S.2.1 dX4_build_78 rfl (lv_at hl 0 rfl) ?_
          refine aR_getM (v := .ref (ad 4)) S I 5 (by decide) in_X4_build_X4 (List.mem_of_getElem? (i := 4) rfl) rfl dX4_build_79 ?_
          refine lv_aload_n S.1 S.2.1 dX4_build_82 rfl (lv_at hl 0 rfl) ?_
          refine aR_getM (v := .int (nI n)) S I 3 (by decide) in_X4_build_X4 (List.mem_of_getElem? (i := 2) rfl) (by first | (rw [aq_ug_s, ((show M6 10 3 = G 10 3 by rw [hM6]; exact aq_up_f _ _ (by decide)).trans hn)]; done) | (rw [aq_ug_s, ((show M6 10 3 = G 10 3 by rw [hM6]; exact aq_up_f _ _ (by decide)).trans hn)]; rfl)) dX4_build_83 ?_
          refine lv_iload_n S.1 S.2.1 dX4_build_86 rfl (lv_at hl 2 rfl) ?_
          refine aR_fst (V := V) (S3 := M6) (t := 1) (f := 1) (k := n) (x := z) hJ S I (by decide) rfl rfl (by omega) dX4_build_87 (fun H locs M7 hM7 I => ?_)
          refine lv_aload_n S.1 S.2.1 dX4_build_88 rfl (lv_at hl 0 rfl) ?_
          refine lv_dup S.1 S.2.1 dX4_build_89 rfl ?_
          refine aR_getM (v := .int (nI n)) S I 3 (by decide) in_X4_build_X4 (List.mem_of_getElem? (i := 2) rfl) (by first | (rw [aq_ug_s, ((show M7 10 3 = M6 10 3 by rw [hM7]; exact aq_up_f _ _ (by decide)).trans ((show M6 10 3 = G 10 3 by rw [hM6]; exact aq_up_f _ _ (by decide)).trans hn))]; done) | (rw [aq_ug_s, ((show M7 10 3 = M6 10 3 by rw [hM7]; exact aq_up_f _ _ (by decide)).trans ((show M6 10 3 = G 10 3 by rw [hM6]; exact aq_up_f _ _ (by decide)).trans hn))]; rfl)) dX4_build_90 ?_
          refine lv_iconst (v := 1) S.1 S.2.1 dX4_build_93 (by decide) ?_
          refine lv_iadd S.1 S.2.1 dX4_build_94 ?_
          refine lv_topi (fun x8 (ex8 : x8 = nI n + 1) => ?_)
          rw [nI_1] at ex8; subst ex8
          refine aR_putN (V := V) (S3 := M7) (x := nI (n + 1)) hJ S I in_X4_build_X4 (List.mem_of_getElem? (i := 2) rfl) dX4_build_95 (fun H locs M9 hM9 I => ?_)
          refine lv_aload_n S.1 S.2.1 dX4_build_98 rfl (lv_at hl 0 rfl) ?_
          refine aR_getM (v := .int (nI (n + 1))) S I 3 (by decide) in_X4_build_X4 (List.mem_of_getElem? (i := 2) rfl) (by first | (rw [aq_ug_s, (show M9 10 3 = nI (n + 1) from by rw [hM9, aq_up_s])]; done) | (rw [aq_ug_s, (show M9 10 3 = nI (n + 1) from by rw [hM9, aq_up_s])]; rfl)) dX4_build_99 ?_
          refine lv_iconst (v := 1) S.1 S.2.1 dX4_build_102 (by decide) ?_
          refine lv_isub S.1 S.2.1 dX4_build_103 ?_
          refine lv_topi (fun x10 (ex10 : x10 = nI (n + 1) - 1) => ?_)
          rw [nI_pred] at ex10; subst ex10
          have hT9 : aR_buildT n G h z = 0 := by subst hM9; subst hM7; subst hM6; simp only [aR_buildT, aq_top, if_neg c1, if_neg c3, if_neg c4, if_neg c5]
          exact aq_iret S.1 S.2.1 hr hlocks I dX4_build_104 (by decide) (by decide) (by subst hM9; subst hM7; subst hM6; first | (rw [hT9]; done) | skip; rw [hT9]; first | rfl | (rw [if_pos rfl]; rfl) | (simp only [if_pos, true_and, aR_addQ, if_neg c1, if_neg c3, if_neg c4, if_neg c5]; done) | (simp only [if_pos, true_and, aR_addQ, if_neg c1, if_neg c3, if_neg c4, if_neg c5]; rfl)) (by subst hM9; subst hM7; subst hM6; first | (rw [hT9]; done) | skip; rw [hT9]; first | rfl | (rw [if_pos rfl]; rfl) | (simp only [if_pos, true_and, aR_addQ, if_neg c1, if_neg c3, if_neg c4, if_neg c5]; done) | (simp only [if_pos, true_and, aR_addQ, if_neg c1, if_neg c3, if_neg c4, if_neg c5]; rfl))
        · have c5 : n = 20 := (nI_eq (a := n) (b := 20) (by omega) (by omega)).mp c5
          refine lv_aload_n S.1 S.2.1 dX4_build_62 rfl (lv_at hl 0 rfl) ?_
          refine lv_iconst (v := 2) S.1 S.2.1 dX4_build_63 (by decide) ?_
          refine ar_callVi (As := [.int 2]) (rest := []) S hE (c_X4_no l hJ (V := (aq_ug V 3 G)) (th := 0) 2) (cwV 1 S.2.2.2.2 gX4_build_X4_no rfl rfl rfl (by decide +kernel) ⟨Nat.le_of_ble_eq_true rfl, Nat.le_of_ble_eq_true rfl⟩) (aR_recvM I) I hl.1 dX4_build_64 rfl rfl (Nat.le_of_ble_eq_true rfl) ⟨by first | decide | (dsimp only; omega), by first | decide | (dsimp only; omega)⟩ (fun H locs I hk9 => ?_)
          have hT9 : aR_buildT n G h z = 2 := by simp only [aR_buildT, aq_top, if_neg c1, if_neg c3, if_neg c4, if_pos c5]
          exact aq_iret S.1 S.2.1 hr hlocks I dX4_build_67 (by decide) (by decide) (by first | (rw [hT9]; done) | skip; rw [hT9]; first | rfl | (rw [if_neg (by decide)]; done) | (rw [if_neg (by decide)]; rfl) | (rw [if_neg (by decide), if_neg (by decide)]; done) | (rw [if_neg (by decide), if_neg (by decide)]; rfl)) (by first | (rw [hT9]; done) | skip; rw [hT9]; first | rfl | (rw [if_neg (by decide)]; done) | (rw [if_neg (by decide)]; rfl) | (rw [if_neg (by decide), if_neg (by decide)]; done) | (rw [if_neg (by decide), if_neg (by decide)]; rfl))
      · refine lv_aload_n S.1 S.2.1 dX4_build_47 rfl (lv_at hl 0 rfl) ?_
        refine lv_iconst (v := 1) S.1 S.2.1 dX4_build_48 (by decide) ?_
        refine ar_callVi (As := [.int 1]) (rest := []) S hE (c_X4_no l hJ (V := (aq_ug V 3 G)) (th := 0) 1) (cwV 1 S.2.2.2.2 gX4_build_X4_no rfl rfl rfl (by decide +kernel) ⟨Nat.le_of_ble_eq_true rfl, Nat.le_of_ble_eq_true rfl⟩) (aR_recvM I) I hl.1 dX4_build_49 rfl rfl (Nat.le_of_ble_eq_true rfl) ⟨by first | decide | (dsimp only; omega), by first | decide | (dsimp only; omega)⟩ (fun H locs I hk9 => ?_)
        have hT9 : aR_buildT n G h z = 1 := by simp only [aR_buildT, aq_top, if_neg c1, if_neg c3, if_pos c4]
        exact aq_iret S.1 S.2.1 hr hlocks I dX4_build_52 (by decide) (by decide) (by first | (rw [hT9]; done) | skip; rw [hT9]; first | rfl | (rw [if_neg (by decide)]; done) | (rw [if_neg (by decide)]; rfl) | (rw [if_neg (by decide), if_neg (by decide)]; done) | (rw [if_neg (by decide), if_neg (by decide)]; rfl)) (by first | (rw [hT9]; done) | skip; rw [hT9]; first | rfl | (rw [if_neg (by decide)]; done) | (rw [if_neg (by decide)]; rfl) | (rw [if_neg (by decide), if_neg (by decide)]; done) | (rw [if_neg (by decide), if_neg (by decide)]; rfl))
  · have c1 : n = 0 := (nI_eq (a := n) (b := 0) (by omega) (by omega)).mp c1
    refine lv_sipush (v := 200) S.1 S.2.1 dX4_build_14 (by decide) ?_
    refine lv_goto (tgt := 31) S.1 S.2.1 dX4_build_17 (by decide) ?_
    refine ar_callSi (As := [.int h, .int 0, .int 200]) (rest := []) S hE (c_X4_isIn l (V := (aq_ug V 3 G)) (th := 0) h 0 200) (va_cwS 3 S.2.2.2.2 gX4_build_X4_isIn rfl rfl rfl (by decide +kernel) ⟨Nat.le_of_ble_eq_true rfl, Nat.le_of_ble_eq_true rfl⟩)  I hl.1 dX4_build_31 rfl rfl (Nat.le_of_ble_eq_true rfl) ⟨by first | decide | (dsimp only; omega), by first | decide | (dsimp only; omega)⟩ (fun H locs I hk9 => ?_)
    refine lv_if_eq (tgt := 47) S.1 S.2.1 dX4_build_34 (by decide) (fun c11 => ?_) (fun c11 => ?_)
    · refine lv_aload_n S.1 S.2.1 dX4_build_47 rfl (lv_at hl 0 rfl) ?_
      refine lv_iconst (v := 1) S.1 S.2.1 dX4_build_48 (by decide) ?_
      refine ar_callVi (As := [.int 1]) (rest := []) S hE (c_X4_no l hJ (V := (aq_ug V 3 G)) (th := 0) 1) (cwV 1 S.2.2.2.2 gX4_build_X4_no rfl rfl rfl (by decide +kernel) ⟨Nat.le_of_ble_eq_true rfl, Nat.le_of_ble_eq_true rfl⟩) (aR_recvM I) I hl.1 dX4_build_49 rfl rfl (Nat.le_of_ble_eq_true rfl) ⟨by first | decide | (dsimp only; omega), by first | decide | (dsimp only; omega)⟩ (fun H locs I hk9 => ?_)
      have hT9 : aR_buildT n G h z = 1 := by simp only [aR_buildT, aq_top, if_pos c1, if_pos c11]
      exact aq_iret S.1 S.2.1 hr hlocks I dX4_build_52 (by decide) (by decide) (by first | (rw [hT9]; done) | skip; rw [hT9]; first | rfl | (rw [if_neg (by decide)]; done) | (rw [if_neg (by decide)]; rfl) | (rw [if_neg (by decide), if_neg (by decide)]; done) | (rw [if_neg (by decide), if_neg (by decide)]; rfl)) (by first | (rw [hT9]; done) | skip; rw [hT9]; first | rfl | (rw [if_neg (by decide)]; done) | (rw [if_neg (by decide)]; rfl) | (rw [if_neg (by decide), if_neg (by decide)]; done) | (rw [if_neg (by decide), if_neg (by decide)]; rfl))
    · refine lv_iload_n S.1 S.2.1 dX4_build_37 rfl (lv_at hl 2 rfl) ?_
      refine lv_iconst (v := 1) S.1 S.2.1 dX4_build_38 (by decide) ?_
      refine lv_bipush (v := 40) S.1 S.2.1 dX4_build_39 (by decide) ?_
      refine ar_callSi (As := [.int z, .int 1, .int 40]) (rest := []) S hE (c_X4_isIn l (V := (aq_ug V 3 G)) (th := 0) z 1 40) (va_cwS 3 S.2.2.2.2 gX4_build_X4_isIn rfl rfl rfl (by decide +kernel) ⟨Nat.le_of_ble_eq_true rfl, Nat.le_of_ble_eq_true rfl⟩)  I hl.1 dX4_build_41 rfl rfl (Nat.le_of_ble_eq_true rfl) ⟨by first | decide | (dsimp only; omega), by first | decide | (dsimp only; omega)⟩ (fun H locs I hk9 => ?_)
      refine lv_if_ne (tgt := 53) S.1 S.2.1 dX4_build_44 (by decide) (fun c12 => ?_) (fun c12 => ?_)
      · refine lv_aload_n S.1 S.2.1 dX4_build_53 rfl (lv_at hl 0 rfl) ?_
        refine aR_getM (v := .int (nI n)) S I 3 (by decide) in_X4_build_X4 (List.mem_of_getElem? (i := 2) rfl) (by first | (rw [aq_ug_s, hn]; done) | (rw [aq_ug_s, hn]; rfl)) dX4_build_54 ?_
        refine lv_bipush (v := 20) S.1 S.2.1 dX4_build_57 (by decide) ?_
        refine lv_icmp_ne (tgt := 68) S.1 S.2.1 dX4_build_59 (by decide) (fun c13 => ?_) (fun c13 => ?_)
        · have c13 : ¬ n = 20 := fun z9 => c13 ((nI_eq (a := n) (b := 20) (by omega) (by omega)).mpr z9)
          refine lv_aload_n S.1 S.2.1 dX4_build_68 rfl (lv_at hl 0 rfl) ?_
          refine aR_getM (v := .ref (ad 3)) S I 4 (by decide) in_X4_build_X4 (List.mem_of_getElem? (i := 3) rfl) rfl dX4_build_69 ?_
          refine lv_aload_n S.1 S.2.1 dX4_build_72 rfl (lv_at hl 0 rfl) ?_
          refine aR_getM (v := .int (nI n)) S I 3 (by decide) in_X4_build_X4 (List.mem_of_getElem? (i := 2) rfl) (by first | (rw [aq_ug_s, hn]; done) | (rw [aq_ug_s, hn]; rfl)) dX4_build_73 ?_
          refine lv_iload_n S.1 S.2.1 dX4_build_76 rfl (lv_at hl 1 rfl) ?_
          refine aR_fst (V := V) (S3 := G) (t := 0) (f := 0) (k := n) (x := h) hJ S I (by decide) rfl rfl (by omega) dX4_build_77 (fun H locs M14 hM14 I => ?_)
          refine lv_aload_n S.1 S.2.1 dX4_build_78 rfl (lv_at hl 0 rfl) ?_
          refine aR_getM (v := .ref (ad 4)) S I 5 (by decide) in_X4_build_X4 (List.mem_of_getElem? (i := 4) rfl) rfl dX4_build_79 ?_
          refine lv_aload_n S.1 S.2.1 dX4_build_82 rfl (lv_at hl 0 rfl) ?_
          refine aR_getM (v := .int (nI n)) S I 3 (by decide) in_X4_build_X4 (List.mem_of_getElem? (i := 2) rfl) (by first | (rw [aq_ug_s, ((show M14 10 3 = G 10 3 by rw [hM14]; exact aq_up_f _ _ (by decide)).trans hn)]; done) | (rw [aq_ug_s, ((show M14 10 3 = G 10 3 by rw [hM14]; exact aq_up_f _ _ (by decide)).trans hn)]; rfl)) dX4_build_83 ?_
          refine lv_iload_n S.1 S.2.1 dX4_build_86 rfl (lv_at hl 2 rfl) ?_
          refine aR_fst (V := V) (S3 := M14) (t := 1) (f := 1) (k := n) (x := z) hJ S I (by decide) rfl rfl (by omega) dX4_build_87 (fun H locs M15 hM15 I => ?_)
          refine lv_aload_n S.1 S.2.1 dX4_build_88 rfl (lv_at hl 0 rfl) ?_
          refine lv_dup S.1 S.2.1 dX4_build_89 rfl ?_
          refine aR_getM (v := .int (nI n)) S I 3 (by decide) in_X4_build_X4 (List.mem_of_getElem? (i := 2) rfl) (by first | (rw [aq_ug_s, ((show M15 10 3 = M14 10 3 by rw [hM15]; exact aq_up_f _ _ (by decide)).trans ((show M14 10 3 = G 10 3 by rw [hM14]; exact aq_up_f _ _ (by decide)).trans hn))]; done) | (rw [aq_ug_s, ((show M15 10 3 = M14 10 3 by rw [hM15]; exact aq_up_f _ _ (by decide)).trans ((show M14 10 3 = G 10 3 by rw [hM14]; exact aq_up_f _ _ (by decide)).trans hn))]; rfl)) dX4_build_90 ?_
          refine lv_iconst (v := 1) S.1 S.2.1 dX4_build_93 (by decide) ?_
          refine lv_iadd S.1 S.2.1 dX4_build_94 ?_
          refine lv_topi (fun x16 (ex16 : x16 = nI n + 1) => ?_)
          rw [nI_1] at ex16; subst ex16
          refine aR_putN (V := V) (S3 := M15) (x := nI (n + 1)) hJ S I in_X4_build_X4 (List.mem_of_getElem? (i := 2) rfl) dX4_build_95 (fun H locs M17 hM17 I => ?_)
          refine lv_aload_n S.1 S.2.1 dX4_build_98 rfl (lv_at hl 0 rfl) ?_
          refine aR_getM (v := .int (nI (n + 1))) S I 3 (by decide) in_X4_build_X4 (List.mem_of_getElem? (i := 2) rfl) (by first | (rw [aq_ug_s, (show M17 10 3 = nI (n + 1) from by rw [hM17, aq_up_s])]; done) | (rw [aq_ug_s, (show M17 10 3 = nI (n + 1) from by rw [hM17, aq_up_s])]; rfl)) dX4_build_99 ?_
          refine lv_iconst (v := 1) S.1 S.2.1 dX4_build_102 (by decide) ?_
          refine lv_isub S.1 S.2.1 dX4_build_103 ?_
          refine lv_topi (fun x18 (ex18 : x18 = nI (n + 1) - 1) => ?_)
          rw [nI_pred] at ex18; subst ex18
          have hT9 : aR_buildT n G h z = 0 := by subst hM17; subst hM15; subst hM14; simp only [aR_buildT, aq_top, if_pos c1, if_neg c11, if_neg c12, if_neg c13]
          exact aq_iret S.1 S.2.1 hr hlocks I dX4_build_104 (by decide) (by decide) (by subst hM17; subst hM15; subst hM14; first | (rw [hT9]; done) | skip; rw [hT9]; first | rfl | (rw [if_pos rfl]; rfl) | (simp only [if_pos, true_and, aR_addQ, if_pos c1, if_neg c11, if_neg c12, if_neg c13]; done) | (simp only [if_pos, true_and, aR_addQ, if_pos c1, if_neg c11, if_neg c12, if_neg c13]; rfl)) (by subst hM17; subst hM15; subst hM14; first | (rw [hT9]; done) | skip; rw [hT9]; first | rfl | (rw [if_pos rfl]; rfl) | (simp only [if_pos, true_and, aR_addQ, if_pos c1, if_neg c11, if_neg c12, if_neg c13]; done) | (simp only [if_pos, true_and, aR_addQ, if_pos c1, if_neg c11, if_neg c12, if_neg c13]; rfl))
        · have c13 : n = 20 := (nI_eq (a := n) (b := 20) (by omega) (by omega)).mp c13
          refine lv_aload_n S.1 S.2.1 dX4_build_62 rfl (lv_at hl 0 rfl) ?_
          refine lv_iconst (v := 2) S.1 S.2.1 dX4_build_63 (by decide) ?_
          refine ar_callVi (As := [.int 2]) (rest := []) S hE (c_X4_no l hJ (V := (aq_ug V 3 G)) (th := 0) 2) (cwV 1 S.2.2.2.2 gX4_build_X4_no rfl rfl rfl (by decide +kernel) ⟨Nat.le_of_ble_eq_true rfl, Nat.le_of_ble_eq_true rfl⟩) (aR_recvM I) I hl.1 dX4_build_64 rfl rfl (Nat.le_of_ble_eq_true rfl) ⟨by first | decide | (dsimp only; omega), by first | decide | (dsimp only; omega)⟩ (fun H locs I hk9 => ?_)
          have hT9 : aR_buildT n G h z = 2 := by simp only [aR_buildT, aq_top, if_pos c1, if_neg c11, if_neg c12, if_pos c13]
          exact aq_iret S.1 S.2.1 hr hlocks I dX4_build_67 (by decide) (by decide) (by first | (rw [hT9]; done) | skip; rw [hT9]; first | rfl | (rw [if_neg (by decide)]; done) | (rw [if_neg (by decide)]; rfl) | (rw [if_neg (by decide), if_neg (by decide)]; done) | (rw [if_neg (by decide), if_neg (by decide)]; rfl)) (by first | (rw [hT9]; done) | skip; rw [hT9]; first | rfl | (rw [if_neg (by decide)]; done) | (rw [if_neg (by decide)]; rfl) | (rw [if_neg (by decide), if_neg (by decide)]; done) | (rw [if_neg (by decide), if_neg (by decide)]; rfl))
      · refine lv_aload_n S.1 S.2.1 dX4_build_47 rfl (lv_at hl 0 rfl) ?_
        refine lv_iconst (v := 1) S.1 S.2.1 dX4_build_48 (by decide) ?_
        refine ar_callVi (As := [.int 1]) (rest := []) S hE (c_X4_no l hJ (V := (aq_ug V 3 G)) (th := 0) 1) (cwV 1 S.2.2.2.2 gX4_build_X4_no rfl rfl rfl (by decide +kernel) ⟨Nat.le_of_ble_eq_true rfl, Nat.le_of_ble_eq_true rfl⟩) (aR_recvM I) I hl.1 dX4_build_49 rfl rfl (Nat.le_of_ble_eq_true rfl) ⟨by first | decide | (dsimp only; omega), by first | decide | (dsimp only; omega)⟩ (fun H locs I hk9 => ?_)
        have hT9 : aR_buildT n G h z = 1 := by simp only [aR_buildT, aq_top, if_pos c1, if_neg c11, if_pos c12]
        exact aq_iret S.1 S.2.1 hr hlocks I dX4_build_52 (by decide) (by decide) (by first | (rw [hT9]; done) | skip; rw [hT9]; first | rfl | (rw [if_neg (by decide)]; done) | (rw [if_neg (by decide)]; rfl) | (rw [if_neg (by decide), if_neg (by decide)]; done) | (rw [if_neg (by decide), if_neg (by decide)]; rfl)) (by first | (rw [hT9]; done) | skip; rw [hT9]; first | rfl | (rw [if_neg (by decide)]; done) | (rw [if_neg (by decide)]; rfl) | (rw [if_neg (by decide), if_neg (by decide)]; done) | (rw [if_neg (by decide), if_neg (by decide)]; rfl))
theorem in_X4_set_X4 : ∀ w ∈ wsX40, w ∈ wsX4_set := fun _ h => List.mem_cons_of_mem _ (List.mem_append_right _ h)
set_option maxHeartbeats 4000000 in
set_option maxRecDepth 100000 in
/-- X4_set -/
theorem c_X4_set (l : Launch) {D : va_G} {ad : Nat → Nat} {cI : ClassId} {th : Int32} (hJ : aq_J 22 ad) {V : aq_V} {T : aq_Q} {t : Nat} (ht : t < 2) (h w : Int32) : ar_Met l yX4_set wsX4_set ({ frames := 1, cells := 0, slots := 0, locals := 22 }) D (aR_t cI) 22 ad [.ref (ad 0), .ref (ad (1 + t)), .int h, .int w] (aR_w ad cI th (aq_ug V 2 T)) (aq_Qi D (aR_t cI) 22 ad (if aR_setT h w = 0 then T t h.toNatClampNeg else 0) (aR_w ad cI (aR_setT h w) (aq_ug V 2 (if aR_setT h w = 0 then aq_up T t h.toNatClampNeg w else T)))) 0 0 := by
  refine ar_enter (cc := cX4_set) (maxL := 5) (ret := some .int) (by decide) rfl (Nat.le_of_ble_eq_true rfl) ?_
  intro p e s m below meth c ls S hr hlocks hE I hl
  have S : CallFix p m c cX4_set 5 s _ wsX4_set RX4 := S
  have hl : lv_has ls 5 [(0, .ref (ad 0)), (1, .ref (ad (1 + t))), (2, .int h), (3, .int w)] := hl
  refine lv_aload_n S.1 S.2.1 dX4_set_0 rfl (lv_at hl 0 rfl) ?_
  refine lv_iconst (v := 0) S.1 S.2.1 dX4_set_1 (by decide) ?_
  refine aR_putTh (x := 0) hJ S I in_X4_set_X4 (List.mem_of_getElem? (i := 1) rfl) dX4_set_2 (fun H locs I => ?_)
  refine lv_iload_n S.1 S.2.1 dX4_set_5 rfl (lv_at hl 2 rfl) ?_
  refine lv_iconst (v := 0) S.1 S.2.1 dX4_set_6 (by decide) ?_
  refine lv_bipush (v := 23) S.1 S.2.1 dX4_set_7 (by decide) ?_
  refine ar_callSi (As := [.int h, .int 0, .int 23]) (rest := []) S hE (c_X4_isIn l (V := (aq_ug V 2 T)) (th := 0) h 0 23) (va_cwS 3 S.2.2.2.2 gX4_set_X4_isIn rfl rfl rfl (by decide +kernel) ⟨Nat.le_of_ble_eq_true rfl, Nat.le_of_ble_eq_true rfl⟩)  I hl.1 dX4_set_9 rfl rfl (Nat.le_of_ble_eq_true rfl) ⟨by first | decide | (dsimp only; omega), by first | decide | (dsimp only; omega)⟩ (fun H locs I hk9 => ?_)
  refine lv_if_ne (tgt := 21) S.1 S.2.1 dX4_set_12 (by decide) (fun c1 => ?_) (fun c1 => ?_)
  · obtain ⟨k2, gk2, hk2, ek2⟩ := aR_isIn_rg (a := 0) (b := 23) (by omega) (by omega) c1
    subst ek2
    have nk2 : (nI k2).toNatClampNeg = k2 := nI_clamp (by omega)
    refine lv_iload_n S.1 S.2.1 dX4_set_21 rfl (lv_at hl 3 rfl) ?_
    refine lv_iconst (v := 0) S.1 S.2.1 dX4_set_22 (by decide) ?_
    refine lv_bipush (v := 40) S.1 S.2.1 dX4_set_23 (by decide) ?_
    refine ar_callSi (As := [.int w, .int 0, .int 40]) (rest := []) S hE (c_X4_isIn l (V := (aq_ug V 2 T)) (th := 0) w 0 40) (va_cwS 3 S.2.2.2.2 gX4_set_X4_isIn rfl rfl rfl (by decide +kernel) ⟨Nat.le_of_ble_eq_true rfl, Nat.le_of_ble_eq_true rfl⟩)  I hl.1 dX4_set_25 rfl rfl (Nat.le_of_ble_eq_true rfl) ⟨by first | decide | (dsimp only; omega), by first | decide | (dsimp only; omega)⟩ (fun H locs I hk9 => ?_)
    refine lv_if_ne (tgt := 37) S.1 S.2.1 dX4_set_28 (by decide) (fun c3 => ?_) (fun c3 => ?_)
    · refine lv_aload_n S.1 S.2.1 dX4_set_37 rfl (lv_at hl 1 rfl) ?_
      refine lv_iload_n S.1 S.2.1 dX4_set_38 rfl (lv_at hl 2 rfl) ?_
      refine aR_tld (t := t) (k := k2) (x := T t k2) S I ht rfl (by omega) (by rw [aq_ug_s]) dX4_set_39 ?_
      refine lv_istore (lv' := [(4, .int (T t k2)), (0, .ref (ad 0)), (1, .ref (ad (1 + t))), (2, .int (nI k2)), (3, .int w)]) S.1 S.2.1 dX4_set_40 hl (by decide) rfl (fun ls hl => ?_)
      refine lv_aload_n S.1 S.2.1 dX4_set_42 rfl (lv_at hl 2 rfl) ?_
      refine lv_iload_n S.1 S.2.1 dX4_set_43 rfl (lv_at hl 3 rfl) ?_
      refine lv_iload_n S.1 S.2.1 dX4_set_44 rfl (lv_at hl 4 rfl) ?_
      refine aR_tst (V := V) (T := T) (t := t) (k := k2) (x := w) hJ S I ht rfl (by omega) dX4_set_45 (fun H locs M4 hM4 I => ?_)
      refine lv_iload S.1 S.2.1 dX4_set_46 (lv_at hl 0 rfl) ?_
      have hT9 : aR_setT (nI k2) w = 0 := by subst hM4; simp only [aR_setT, nk2, if_neg c1, if_neg c3]
      exact aq_iret S.1 S.2.1 hr hlocks I dX4_set_48 (by decide) (by decide) (by subst hM4; first | (rw [hT9]; done) | skip; rw [hT9]; first | rfl | (rw [if_pos rfl]; rfl) | (simp only [if_pos, true_and, nk2, if_neg c1, if_neg c3]; done) | (simp only [if_pos, true_and, nk2, if_neg c1, if_neg c3]; rfl)) (by subst hM4; first | (rw [hT9]; done) | skip; rw [hT9]; first | rfl | (rw [if_pos rfl]; rfl) | (simp only [if_pos, true_and, nk2, if_neg c1, if_neg c3]; done) | (simp only [if_pos, true_and, nk2, if_neg c1, if_neg c3]; rfl))
    · refine lv_aload_n S.1 S.2.1 dX4_set_31 rfl (lv_at hl 0 rfl) ?_
      refine lv_iconst (v := 2) S.1 S.2.1 dX4_set_32 (by decide) ?_
      refine ar_callVi (As := [.int 2]) (rest := []) S hE (c_X4_no l hJ (V := (aq_ug V 2 T)) (th := 0) 2) (cwV 1 S.2.2.2.2 gX4_set_X4_no rfl rfl rfl (by decide +kernel) ⟨Nat.le_of_ble_eq_true rfl, Nat.le_of_ble_eq_true rfl⟩) (aR_recvM I) I hl.1 dX4_set_33 rfl rfl (Nat.le_of_ble_eq_true rfl) ⟨by first | decide | (dsimp only; omega), by first | decide | (dsimp only; omega)⟩ (fun H locs I hk9 => ?_)
      have hT9 : aR_setT (nI k2) w = 2 := by simp only [aR_setT, nk2, if_neg c1, if_pos c3]
      exact aq_iret S.1 S.2.1 hr hlocks I dX4_set_36 (by decide) (by decide) (by first | (rw [hT9]; done) | skip; rw [hT9]; first | rfl | (rw [if_neg (by decide)]; done) | (rw [if_neg (by decide)]; rfl) | (rw [if_neg (by decide), if_neg (by decide)]; done) | (rw [if_neg (by decide), if_neg (by decide)]; rfl)) (by first | (rw [hT9]; done) | skip; rw [hT9]; first | rfl | (rw [if_neg (by decide)]; done) | (rw [if_neg (by decide)]; rfl) | (rw [if_neg (by decide), if_neg (by decide)]; done) | (rw [if_neg (by decide), if_neg (by decide)]; rfl))
  · refine lv_aload_n S.1 S.2.1 dX4_set_15 rfl (lv_at hl 0 rfl) ?_
    refine lv_iconst (v := 1) S.1 S.2.1 dX4_set_16 (by decide) ?_
    refine ar_callVi (As := [.int 1]) (rest := []) S hE (c_X4_no l hJ (V := (aq_ug V 2 T)) (th := 0) 1) (cwV 1 S.2.2.2.2 gX4_set_X4_no rfl rfl rfl (by decide +kernel) ⟨Nat.le_of_ble_eq_true rfl, Nat.le_of_ble_eq_true rfl⟩) (aR_recvM I) I hl.1 dX4_set_17 rfl rfl (Nat.le_of_ble_eq_true rfl) ⟨by first | decide | (dsimp only; omega), by first | decide | (dsimp only; omega)⟩ (fun H locs I hk9 => ?_)
    have hT9 : aR_setT h w = 1 := by simp only [aR_setT, if_pos c1]
    exact aq_iret S.1 S.2.1 hr hlocks I dX4_set_20 (by decide) (by decide) (by first | (rw [hT9]; done) | skip; rw [hT9]; first | rfl | (rw [if_neg (by decide)]; done) | (rw [if_neg (by decide)]; rfl) | (rw [if_neg (by decide), if_neg (by decide)]; done) | (rw [if_neg (by decide), if_neg (by decide)]; rfl)) (by first | (rw [hT9]; done) | skip; rw [hT9]; first | rfl | (rw [if_neg (by decide)]; done) | (rw [if_neg (by decide)]; rfl) | (rw [if_neg (by decide), if_neg (by decide)]; done) | (rw [if_neg (by decide), if_neg (by decide)]; rfl))
theorem in_X4_setSpring_X4 : ∀ w ∈ wsX40, w ∈ wsX4_setSpring := fun _ h => List.mem_cons_of_mem _ (List.mem_append_right _ h)
set_option maxHeartbeats 4000000 in
set_option maxRecDepth 100000 in
/-- X4_setSpring -/
theorem c_X4_setSpring (l : Launch) {D : va_G} {ad : Nat → Nat} {cI : ClassId} {th : Int32} (hJ : aq_J 22 ad) {V : aq_V} {T : aq_Q} (h w : Int32) : ar_Met l yX4_setSpring wsX4_setSpring ({ frames := 2, cells := 0, slots := 0, locals := 46 }) D (aR_t cI) 22 ad [.ref (ad 0), .int h, .int w] (aR_w ad cI th (aq_ug V 2 T)) (aq_Qi D (aR_t cI) 22 ad (if aR_setT h w = 0 then T 0 h.toNatClampNeg else 0) (aR_w ad cI (aR_setT h w) (aq_ug V 2 (if aR_setT h w = 0 then aq_up T 0 h.toNatClampNeg w else T)))) 0 0 := by
  refine ar_enter (cc := cX4_setSpring) (maxL := 3) (ret := some .int) (by decide) rfl (Nat.le_of_ble_eq_true rfl) ?_
  intro p e s m below meth c ls S hr hlocks hE I hl
  have S : CallFix p m c cX4_setSpring 3 s _ wsX4_setSpring RX4 := S
  have hl : lv_has ls 3 [(0, .ref (ad 0)), (1, .int h), (2, .int w)] := hl
  refine lv_aload_n S.1 S.2.1 dX4_setSpring_0 rfl (lv_at hl 0 rfl) ?_
  refine lv_aload_n S.1 S.2.1 dX4_setSpring_1 rfl (lv_at hl 0 rfl) ?_
  refine aR_getM (v := .ref (ad 1)) S I 1 (by decide) in_X4_setSpring_X4 (List.mem_of_getElem? (i := 1) rfl) rfl dX4_setSpring_2 ?_
  refine lv_iload_n S.1 S.2.1 dX4_setSpring_5 rfl (lv_at hl 1 rfl) ?_
  refine lv_iload_n S.1 S.2.1 dX4_setSpring_6 rfl (lv_at hl 2 rfl) ?_
  refine ar_callVi (As := [.ref (ad 1), .int h, .int w]) (rest := []) S hE (c_X4_set l hJ (V := V) (th := th) (T := T) (t := 0) (by decide) h w) (cwV 3 S.2.2.2.2 gX4_setSpring_X4_set rfl rfl rfl (by decide +kernel) ⟨Nat.le_of_ble_eq_true rfl, Nat.le_of_ble_eq_true rfl⟩) (aR_recvM I) I hl.1 dX4_setSpring_7 rfl rfl (Nat.le_of_ble_eq_true rfl) ⟨by first | decide | (dsimp only; omega), by first | decide | (dsimp only; omega)⟩ (fun H locs I hk9 => ?_)
  obtain ⟨M1, hM1⟩ : ∃ z9 : aq_Q, z9 = if aR_setT h w = 0 then aq_up T 0 h.toNatClampNeg w else T := ⟨_, rfl⟩
  rw [← hM1] at I
  refine lv_topi (fun x2 (ex2 : x2 = if aR_setT h w = 0 then T 0 h.toNatClampNeg else 0) => ?_)
  exact aq_iret S.1 S.2.1 hr hlocks I dX4_setSpring_10 (by decide) (by decide) (by subst_vars; rfl) (by subst_vars; rfl)
theorem in_X4_setCity_X4 : ∀ w ∈ wsX40, w ∈ wsX4_setCity := fun _ h => List.mem_cons_of_mem _ (List.mem_append_right _ h)
set_option maxHeartbeats 4000000 in
set_option maxRecDepth 100000 in
/-- X4_setCity -/
theorem c_X4_setCity (l : Launch) {D : va_G} {ad : Nat → Nat} {cI : ClassId} {th : Int32} (hJ : aq_J 22 ad) {V : aq_V} {T : aq_Q} (h w : Int32) : ar_Met l yX4_setCity wsX4_setCity ({ frames := 2, cells := 0, slots := 0, locals := 46 }) D (aR_t cI) 22 ad [.ref (ad 0), .int h, .int w] (aR_w ad cI th (aq_ug V 2 T)) (aq_Qi D (aR_t cI) 22 ad (if aR_setT h w = 0 then T 1 h.toNatClampNeg else 0) (aR_w ad cI (aR_setT h w) (aq_ug V 2 (if aR_setT h w = 0 then aq_up T 1 h.toNatClampNeg w else T)))) 0 0 := by
  refine ar_enter (cc := cX4_setCity) (maxL := 3) (ret := some .int) (by decide) rfl (Nat.le_of_ble_eq_true rfl) ?_
  intro p e s m below meth c ls S hr hlocks hE I hl
  have S : CallFix p m c cX4_setCity 3 s _ wsX4_setCity RX4 := S
  have hl : lv_has ls 3 [(0, .ref (ad 0)), (1, .int h), (2, .int w)] := hl
  refine lv_aload_n S.1 S.2.1 dX4_setCity_0 rfl (lv_at hl 0 rfl) ?_
  refine lv_aload_n S.1 S.2.1 dX4_setCity_1 rfl (lv_at hl 0 rfl) ?_
  refine aR_getM (v := .ref (ad 2)) S I 2 (by decide) in_X4_setCity_X4 (List.mem_of_getElem? (i := 1) rfl) rfl dX4_setCity_2 ?_
  refine lv_iload_n S.1 S.2.1 dX4_setCity_5 rfl (lv_at hl 1 rfl) ?_
  refine lv_iload_n S.1 S.2.1 dX4_setCity_6 rfl (lv_at hl 2 rfl) ?_
  refine ar_callVi (As := [.ref (ad 2), .int h, .int w]) (rest := []) S hE (c_X4_set l hJ (V := V) (th := th) (T := T) (t := 1) (by decide) h w) (cwV 3 S.2.2.2.2 gX4_setCity_X4_set rfl rfl rfl (by decide +kernel) ⟨Nat.le_of_ble_eq_true rfl, Nat.le_of_ble_eq_true rfl⟩) (aR_recvM I) I hl.1 dX4_setCity_7 rfl rfl (Nat.le_of_ble_eq_true rfl) ⟨by first | decide | (dsimp only; omega), by first | decide | (dsimp only; omega)⟩ (fun H locs I hk9 => ?_)
  obtain ⟨M1, hM1⟩ : ∃ z9 : aq_Q, z9 = if aR_setT h w = 0 then aq_up T 1 h.toNatClampNeg w else T := ⟨_, rfl⟩
  rw [← hM1] at I
  refine lv_topi (fun x2 (ex2 : x2 = if aR_setT h w = 0 then T 1 h.toNatClampNeg else 0) => ?_)
  exact aq_iret S.1 S.2.1 hr hlocks I dX4_setCity_10 (by decide) (by decide) (by subst_vars; rfl) (by subst_vars; rfl)
theorem in_X4_setCistern_X3 : ∀ w ∈ wsX30, w ∈ wsX4_setCistern := fun _ h => List.mem_cons_of_mem _ (List.mem_append_right _ h)
theorem in_X4_setCistern_X4 : ∀ w ∈ wsX40, w ∈ wsX4_setCistern := fun _ h => List.mem_cons_of_mem _ (List.mem_append_left _ (List.mem_append_right _ h))
set_option maxHeartbeats 4000000 in
set_option maxRecDepth 100000 in
/-- X4_setCistern -/
theorem c_X4_setCistern (l : Launch) {D : va_G} {ad : Nat → Nat} {cI : ClassId} {th : Int32} (hJ : aq_J 22 ad) {V : aq_V} {Q : aq_Q} (v : Int32) : ar_Met l yX4_setCistern wsX4_setCistern ({ frames := 1, cells := 0, slots := 0, locals := 22 }) D (aR_t cI) 22 ad [.ref (ad 0), .int v] (aR_w ad cI th (aq_ug V 0 Q)) (aq_Qi D (aR_t cI) 22 ad (if aR_cisT v = 0 then aq_sizeR Q v else 0) (aR_w ad cI (aR_cisT v) (aq_ug V 0 (if aR_cisT v = 0 then aR_cisQ Q v else Q)))) 0 0 := by
  refine ar_enter (cc := cX4_setCistern) (maxL := 3) (ret := some .int) (by decide) rfl (Nat.le_of_ble_eq_true rfl) ?_
  intro p e s m below meth c ls S hr hlocks hE I hl
  have S : CallFix p m c cX4_setCistern 3 s _ wsX4_setCistern RX4 := S
  have hl : lv_has ls 3 [(0, .ref (ad 0)), (1, .int v)] := hl
  refine lv_aload_n S.1 S.2.1 dX4_setCistern_0 rfl (lv_at hl 0 rfl) ?_
  refine lv_iconst (v := 0) S.1 S.2.1 dX4_setCistern_1 (by decide) ?_
  refine aR_putTh (x := 0) hJ S I in_X4_setCistern_X4 (List.mem_of_getElem? (i := 1) rfl) dX4_setCistern_2 (fun H locs I => ?_)
  refine lv_iload_n S.1 S.2.1 dX4_setCistern_5 rfl (lv_at hl 1 rfl) ?_
  refine lv_iconst (v := 0) S.1 S.2.1 dX4_setCistern_6 (by decide) ?_
  refine lv_sipush (v := 500) S.1 S.2.1 dX4_setCistern_7 (by decide) ?_
  refine ar_callSi (As := [.int v, .int 0, .int 500]) (rest := []) S hE (c_X4_isIn l (V := (aq_ug V 0 Q)) (th := 0) v 0 500) (va_cwS 3 S.2.2.2.2 gX4_setCistern_X4_isIn rfl rfl rfl (by decide +kernel) ⟨Nat.le_of_ble_eq_true rfl, Nat.le_of_ble_eq_true rfl⟩)  I hl.1 dX4_setCistern_10 rfl rfl (Nat.le_of_ble_eq_true rfl) ⟨by first | decide | (dsimp only; omega), by first | decide | (dsimp only; omega)⟩ (fun H locs I hk9 => ?_)
  refine lv_if_ne (tgt := 22) S.1 S.2.1 dX4_setCistern_13 (by decide) (fun c1 => ?_) (fun c1 => ?_)
  · refine lv_iconst (v := 0) S.1 S.2.1 dX4_setCistern_22 (by decide) ?_
    refine lv_aload_n S.1 S.2.1 dX4_setCistern_23 rfl (lv_at hl 0 rfl) ?_
    refine aR_getM (v := .ref (ad 6)) S I 7 (by decide) in_X4_setCistern_X4 (List.mem_of_getElem? (i := 2) rfl) rfl dX4_setCistern_24 ?_
    refine aR_getSN (j := 0) (v := .int (Q 10 7)) S I (by decide) 1 (by decide) in_X4_setCistern_X3 (hE.1 _ (List.mem_of_getElem? (i := 9) rfl)) (by first | (rw [aq_ug_s]; done) | (rw [aq_ug_s]; rfl)) dX4_setCistern_27 ?_
    refine lv_iload_n S.1 S.2.1 dX4_setCistern_30 rfl (lv_at hl 1 rfl) ?_
    refine lv_isub S.1 S.2.1 dX4_setCistern_31 ?_
    refine aq_mmax S hl.1 (List.mem_of_getElem? (i := 3) rfl) (List.mem_of_getElem? (i := 4) rfl) (List.mem_of_getElem? (i := 5) rfl) (List.mem_of_getElem? (i := 6) rfl) (by decide) (Nat.le_of_ble_eq_true rfl) (by decide) (by decide) dX4_setCistern_32 ?_
    refine lv_istore_n (lv' := [(2, .int (aq_mx 0 (Q 10 7 - v))), (0, .ref (ad 0)), (1, .int v)]) S.1 S.2.1 dX4_setCistern_35 rfl hl (by decide) rfl (fun ls hl => ?_)
    refine lv_aload_n S.1 S.2.1 dX4_setCistern_36 rfl (lv_at hl 1 rfl) ?_
    refine aR_getM (v := .ref (ad 6)) S I 7 (by decide) in_X4_setCistern_X4 (List.mem_of_getElem? (i := 2) rfl) rfl dX4_setCistern_37 ?_
    refine lv_iload_n S.1 S.2.1 dX4_setCistern_40 rfl (lv_at hl 2 rfl) ?_
    refine aR_putSN (V := V) (Q := Q) (j := 0) (x := v) hJ S I (by decide) 2 (by decide) (by decide) 6 rfl in_X4_setCistern_X3 (hE.1 _ (List.mem_of_getElem? (i := 10) rfl)) dX4_setCistern_41 (fun H locs M2 hM2 I => ?_)
    refine lv_aload_n S.1 S.2.1 dX4_setCistern_44 rfl (lv_at hl 1 rfl) ?_
    refine aR_getM (v := .ref (ad 6)) S I 7 (by decide) in_X4_setCistern_X4 (List.mem_of_getElem? (i := 2) rfl) rfl dX4_setCistern_45 ?_
    refine lv_dup S.1 S.2.1 dX4_setCistern_48 rfl ?_
    refine aR_getSN (j := 0) (v := .int (M2 10 7)) S I (by decide) 1 (by decide) in_X4_setCistern_X3 (hE.1 _ (List.mem_of_getElem? (i := 9) rfl)) (by first | (rw [aq_ug_s]; done) | (rw [aq_ug_s]; rfl)) dX4_setCistern_49 ?_
    refine lv_iload_n S.1 S.2.1 dX4_setCistern_52 rfl (lv_at hl 0 rfl) ?_
    refine lv_isub S.1 S.2.1 dX4_setCistern_53 ?_
    refine lv_topi (fun x3 (ex3 : x3 = M2 10 7 - (aq_mx 0 (Q 10 7 - v))) => ?_)
    refine aR_putSN (V := V) (Q := M2) (j := 0) (x := x3) hJ S I (by decide) 1 (by decide) (by decide) 7 rfl in_X4_setCistern_X3 (hE.1 _ (List.mem_of_getElem? (i := 9) rfl)) dX4_setCistern_54 (fun H locs M4 hM4 I => ?_)
    refine lv_aload_n S.1 S.2.1 dX4_setCistern_57 rfl (lv_at hl 1 rfl) ?_
    refine aR_getM (v := .ref (ad 6)) S I 7 (by decide) in_X4_setCistern_X4 (List.mem_of_getElem? (i := 2) rfl) rfl dX4_setCistern_58 ?_
    refine lv_dup S.1 S.2.1 dX4_setCistern_61 rfl ?_
    refine aR_getSN (j := 0) (v := .int (M4 10 9)) S I (by decide) 12 (by decide) in_X4_setCistern_X3 (hE.1 _ (List.mem_of_getElem? (i := 11) rfl)) (by first | (rw [aq_ug_s]; done) | (rw [aq_ug_s]; rfl)) dX4_setCistern_62 ?_
    refine lv_iload_n S.1 S.2.1 dX4_setCistern_65 rfl (lv_at hl 0 rfl) ?_
    refine lv_iadd S.1 S.2.1 dX4_setCistern_66 ?_
    refine lv_topi (fun x5 (ex5 : x5 = M4 10 9 + (aq_mx 0 (Q 10 7 - v))) => ?_)
    refine aR_putSN (V := V) (Q := M4) (j := 0) (x := x5) hJ S I (by decide) 12 (by decide) (by decide) 9 rfl in_X4_setCistern_X3 (hE.1 _ (List.mem_of_getElem? (i := 11) rfl)) dX4_setCistern_67 (fun H locs M6 hM6 I => ?_)
    refine lv_iload_n S.1 S.2.1 dX4_setCistern_70 rfl (lv_at hl 0 rfl) ?_
    have hT9 : aR_cisT v = 0 := by subst hM6; subst ex5; subst hM4; subst ex3; subst hM2; simp only [aR_cisT, if_neg c1]
    exact aq_iret S.1 S.2.1 hr hlocks I dX4_setCistern_71 (by decide) (by decide) (by subst hM6; subst ex5; subst hM4; subst ex3; subst hM2; first | (rw [hT9]; done) | skip; rw [hT9]; first | rfl | (rw [if_pos rfl]; rfl) | (simp only [if_pos, true_and, aR_cisQ, aq_sizeR, if_neg c1]; done) | (simp only [if_pos, true_and, aR_cisQ, aq_sizeR, if_neg c1]; rfl)) (by subst hM6; subst ex5; subst hM4; subst ex3; subst hM2; first | (rw [hT9]; done) | skip; rw [hT9]; first | rfl | (rw [if_pos rfl]; rfl) | (simp only [if_pos, true_and, aR_cisQ, aq_sizeR, if_neg c1]; done) | (simp only [if_pos, true_and, aR_cisQ, aq_sizeR, if_neg c1]; rfl))
  · refine lv_aload_n S.1 S.2.1 dX4_setCistern_16 rfl (lv_at hl 0 rfl) ?_
    refine lv_iconst (v := 1) S.1 S.2.1 dX4_setCistern_17 (by decide) ?_
    refine ar_callVi (As := [.int 1]) (rest := []) S hE (c_X4_no l hJ (V := (aq_ug V 0 Q)) (th := 0) 1) (cwV 1 S.2.2.2.2 gX4_setCistern_X4_no rfl rfl rfl (by decide +kernel) ⟨Nat.le_of_ble_eq_true rfl, Nat.le_of_ble_eq_true rfl⟩) (aR_recvM I) I hl.1 dX4_setCistern_18 rfl rfl (Nat.le_of_ble_eq_true rfl) ⟨by first | decide | (dsimp only; omega), by first | decide | (dsimp only; omega)⟩ (fun H locs I hk9 => ?_)
    have hT9 : aR_cisT v = 1 := by simp only [aR_cisT, if_pos c1]
    exact aq_iret S.1 S.2.1 hr hlocks I dX4_setCistern_21 (by decide) (by decide) (by first | (rw [hT9]; done) | skip; rw [hT9]; first | rfl | (rw [if_neg (by decide)]; done) | (rw [if_neg (by decide)]; rfl) | (rw [if_neg (by decide), if_neg (by decide)]; done) | (rw [if_neg (by decide), if_neg (by decide)]; rfl)) (by first | (rw [hT9]; done) | skip; rw [hT9]; first | rfl | (rw [if_neg (by decide)]; done) | (rw [if_neg (by decide)]; rfl) | (rw [if_neg (by decide), if_neg (by decide)]; done) | (rw [if_neg (by decide), if_neg (by decide)]; rfl))
theorem in_X4_arch_X4 : ∀ w ∈ wsX40, w ∈ wsX4_arch := fun _ h => List.mem_cons_of_mem _ (List.mem_append_left _ (List.mem_append_right _ h))
set_option maxHeartbeats 4000000 in
set_option maxRecDepth 100000 in
/-- X4_arch -/
theorem c_X4_arch (l : Launch) {D : va_G} {ad : Nat → Nat} {cI : ClassId} {th : Int32} (hJ : aq_J 22 ad) {V : aq_V} {Q : aq_Q} (hst : aR_st (V 3) Q) {n : Nat} (hn : V 3 10 3 = nI n) (hn20 : n ≤ 20) (a w : Int32) : ar_Met l yX4_arch wsX4_arch ({ frames := 3, cells := 1, slots := 9, locals := 65 }) D (aR_t cI) 22 ad [.ref (ad 0), .int a, .int w] (aR_w ad cI th (aq_ug V 0 Q)) (aq_Qi D (aR_t cI) 22 ad (if aR_archT n a w = 0 then aR_archNo n Q a.toNatClampNeg w.toNatClampNeg else 0) (aR_w ad cI (aR_archT n a w) (aq_ug V 0 Q))) 1 9 := by
  refine ar_enter (cc := cX4_arch) (maxL := 3) (ret := some .int) (by decide) rfl (Nat.le_of_ble_eq_true rfl) ?_
  intro p e s m below meth c ls S hr hlocks hE I hl
  have S : CallFix p m c cX4_arch 3 s _ wsX4_arch RX4 := S
  have hl : lv_has ls 3 [(0, .ref (ad 0)), (1, .int a), (2, .int w)] := hl
  refine lv_aload_n S.1 S.2.1 dX4_arch_0 rfl (lv_at hl 0 rfl) ?_
  refine lv_iconst (v := 0) S.1 S.2.1 dX4_arch_1 (by decide) ?_
  refine aR_putTh (x := 0) hJ S I in_X4_arch_X4 (List.mem_of_getElem? (i := 1) rfl) dX4_arch_2 (fun H locs I => ?_)
  refine lv_aload_n S.1 S.2.1 dX4_arch_5 rfl (lv_at hl 0 rfl) ?_
  refine lv_iload_n S.1 S.2.1 dX4_arch_6 rfl (lv_at hl 1 rfl) ?_
  refine ar_callVi (As := [.int a]) (rest := []) S hE (c_X4_isArch l hJ (V := (aq_ug V 0 Q)) (th := 0) (n := n) (by rw [aq_ug_n _ _ (by first | decide | omega)]; exact hn) hn20 a) (cwV 1 S.2.2.2.2 gX4_arch_X4_isArch rfl rfl rfl (by decide +kernel) ⟨Nat.le_of_ble_eq_true rfl, Nat.le_of_ble_eq_true rfl⟩) (aR_recvM I) I hl.1 dX4_arch_7 rfl rfl (Nat.le_of_ble_eq_true rfl) ⟨by first | decide | (dsimp only; omega), by first | decide | (dsimp only; omega)⟩ (fun H locs I hk9 => ?_)
  refine lv_if_eq (tgt := 32) S.1 S.2.1 dX4_arch_10 (by decide) (fun c1 => ?_) (fun c1 => ?_)
  · refine lv_aload_n S.1 S.2.1 dX4_arch_32 rfl (lv_at hl 0 rfl) ?_
    refine lv_iconst (v := 1) S.1 S.2.1 dX4_arch_33 (by decide) ?_
    refine ar_callVi (As := [.int 1]) (rest := []) S hE (c_X4_no l hJ (V := (aq_ug V 0 Q)) (th := 0) 1) (cwV 1 S.2.2.2.2 gX4_arch_X4_no rfl rfl rfl (by decide +kernel) ⟨Nat.le_of_ble_eq_true rfl, Nat.le_of_ble_eq_true rfl⟩) (aR_recvM I) I hl.1 dX4_arch_34 rfl rfl (Nat.le_of_ble_eq_true rfl) ⟨by first | decide | (dsimp only; omega), by first | decide | (dsimp only; omega)⟩ (fun H locs I hk9 => ?_)
    have hT9 : aR_archT n a w = 1 := by simp only [aR_archT, if_pos c1]
    exact aq_iret S.1 S.2.1 hr hlocks I dX4_arch_37 (by decide) (by decide) (by first | (rw [hT9]; done) | skip; rw [hT9]; first | rfl | (rw [if_neg (by decide)]; done) | (rw [if_neg (by decide)]; rfl) | (rw [if_neg (by decide), if_neg (by decide)]; done) | (rw [if_neg (by decide), if_neg (by decide)]; rfl)) (by first | (rw [hT9]; done) | skip; rw [hT9]; first | rfl | (rw [if_neg (by decide)]; done) | (rw [if_neg (by decide)]; rfl) | (rw [if_neg (by decide), if_neg (by decide)]; done) | (rw [if_neg (by decide), if_neg (by decide)]; rfl))
  · obtain ⟨k2, hk2, ek2⟩ := aR_isIn_ar hn20 c1
    subst ek2
    have nk2 : (nI k2).toNatClampNeg = k2 := nI_clamp (by omega)
    refine lv_iload_n S.1 S.2.1 dX4_arch_13 rfl (lv_at hl 2 rfl) ?_
    refine lv_iconst (v := 0) S.1 S.2.1 dX4_arch_14 (by decide) ?_
    refine lv_bipush (v := 8) S.1 S.2.1 dX4_arch_15 (by decide) ?_
    refine ar_callSi (As := [.int w, .int 0, .int 8]) (rest := []) S hE (c_X4_isIn l (V := (aq_ug V 0 Q)) (th := 0) w 0 8) (va_cwS 3 S.2.2.2.2 gX4_arch_X4_isIn rfl rfl rfl (by decide +kernel) ⟨Nat.le_of_ble_eq_true rfl, Nat.le_of_ble_eq_true rfl⟩)  I hl.1 dX4_arch_17 rfl rfl (Nat.le_of_ble_eq_true rfl) ⟨by first | decide | (dsimp only; omega), by first | decide | (dsimp only; omega)⟩ (fun H locs I hk9 => ?_)
    refine lv_if_eq (tgt := 32) S.1 S.2.1 dX4_arch_20 (by decide) (fun c3 => ?_) (fun c3 => ?_)
    · refine lv_aload_n S.1 S.2.1 dX4_arch_32 rfl (lv_at hl 0 rfl) ?_
      refine lv_iconst (v := 1) S.1 S.2.1 dX4_arch_33 (by decide) ?_
      refine ar_callVi (As := [.int 1]) (rest := []) S hE (c_X4_no l hJ (V := (aq_ug V 0 Q)) (th := 0) 1) (cwV 1 S.2.2.2.2 gX4_arch_X4_no rfl rfl rfl (by decide +kernel) ⟨Nat.le_of_ble_eq_true rfl, Nat.le_of_ble_eq_true rfl⟩) (aR_recvM I) I hl.1 dX4_arch_34 rfl rfl (Nat.le_of_ble_eq_true rfl) ⟨by first | decide | (dsimp only; omega), by first | decide | (dsimp only; omega)⟩ (fun H locs I hk9 => ?_)
      have hT9 : aR_archT n (nI k2) w = 1 := by simp only [aR_archT, nk2, if_neg c1, if_pos c3]
      exact aq_iret S.1 S.2.1 hr hlocks I dX4_arch_37 (by decide) (by decide) (by first | (rw [hT9]; done) | skip; rw [hT9]; first | rfl | (rw [if_neg (by decide)]; done) | (rw [if_neg (by decide)]; rfl) | (rw [if_neg (by decide), if_neg (by decide)]; done) | (rw [if_neg (by decide), if_neg (by decide)]; rfl)) (by first | (rw [hT9]; done) | skip; rw [hT9]; first | rfl | (rw [if_neg (by decide)]; done) | (rw [if_neg (by decide)]; rfl) | (rw [if_neg (by decide), if_neg (by decide)]; done) | (rw [if_neg (by decide), if_neg (by decide)]; rfl))
    · obtain ⟨k4, gk4, hk4, ek4⟩ := aR_isIn_rg (a := 0) (b := 8) (by omega) (by omega) c3
      subst ek4
      have nk4 : (nI k4).toNatClampNeg = k4 := nI_clamp (by omega)
      refine lv_aload_n S.1 S.2.1 dX4_arch_23 rfl (lv_at hl 0 rfl) ?_
      refine lv_iload_n S.1 S.2.1 dX4_arch_24 rfl (lv_at hl 1 rfl) ?_
      refine lv_iload_n S.1 S.2.1 dX4_arch_25 rfl (lv_at hl 2 rfl) ?_
      refine ar_callVi (As := [.int (nI k2), .int (nI k4)]) (rest := []) S hE (c_X4_archTold l hJ (V := V) (th := 0) (Q := Q) hst (n := n) hn hn20 (a := k2) (w := k4) (by omega) (by omega)) (cwV 2 S.2.2.2.2 gX4_arch_X4_archTold rfl rfl rfl (by decide +kernel) ⟨Nat.le_of_ble_eq_true rfl, Nat.le_of_ble_eq_true rfl⟩) (aR_recvM I) I hl.1 dX4_arch_26 rfl rfl (Nat.le_of_ble_eq_true rfl) ⟨by first | decide | (dsimp only; omega), by first | decide | (dsimp only; omega)⟩ (fun H locs I hk9 => ?_)
      refine lv_goto (tgt := 37) S.1 S.2.1 dX4_arch_29 (by decide) ?_
      have hT9 : aR_archT n (nI k2) (nI k4) = 0 := by simp only [aR_archT, nk2, nk4, if_neg c1, if_neg c3]
      exact aq_iret S.1 S.2.1 hr hlocks I dX4_arch_37 (by decide) (by decide) (by first | (rw [hT9]; done) | skip; rw [hT9]; first | rfl | (rw [if_pos rfl]; rfl) | (simp only [if_pos, true_and, nk2, nk4, if_neg c1, if_neg c3]; done) | (simp only [if_pos, true_and, nk2, nk4, if_neg c1, if_neg c3]; rfl)) (by first | (rw [hT9]; done) | skip; rw [hT9]; first | rfl | (rw [if_pos rfl]; rfl) | (simp only [if_pos, true_and, nk2, nk4, if_neg c1, if_neg c3]; done) | (simp only [if_pos, true_and, nk2, nk4, if_neg c1, if_neg c3]; rfl))
theorem in_X4_mill_X4 : ∀ w ∈ wsX40, w ∈ wsX4_mill := fun _ h => List.mem_cons_of_mem _ (List.mem_append_left _ (List.mem_append_right _ h))
set_option maxHeartbeats 4000000 in
set_option maxRecDepth 100000 in
/-- X4_mill -/
theorem c_X4_mill (l : Launch) {D : va_G} {ad : Nat → Nat} {cI : ClassId} {th : Int32} (hJ : aq_J 22 ad) {V : aq_V} {Q : aq_Q} (hst : aR_st (V 3) Q) {n : Nat} (hn : V 3 10 3 = nI n) (hn20 : n ≤ 20) (a w : Int32) : ar_Met l yX4_mill wsX4_mill ({ frames := 2, cells := 0, slots := 0, locals := 43 }) D (aR_t cI) 22 ad [.ref (ad 0), .int a, .int w] (aR_w ad cI th (aq_ug V 0 Q)) (aq_Qi D (aR_t cI) 22 ad (if aR_millT n a w = 0 then aR_millNo Q a.toNatClampNeg w.toNatClampNeg else 0) (aR_w ad cI (aR_millT n a w) (aq_ug V 0 Q))) 0 0 := by
  refine ar_enter (cc := cX4_mill) (maxL := 3) (ret := some .int) (by decide) rfl (Nat.le_of_ble_eq_true rfl) ?_
  intro p e s m below meth c ls S hr hlocks hE I hl
  have S : CallFix p m c cX4_mill 3 s _ wsX4_mill RX4 := S
  have hl : lv_has ls 3 [(0, .ref (ad 0)), (1, .int a), (2, .int w)] := hl
  refine lv_aload_n S.1 S.2.1 dX4_mill_0 rfl (lv_at hl 0 rfl) ?_
  refine lv_iconst (v := 0) S.1 S.2.1 dX4_mill_1 (by decide) ?_
  refine aR_putTh (x := 0) hJ S I in_X4_mill_X4 (List.mem_of_getElem? (i := 1) rfl) dX4_mill_2 (fun H locs I => ?_)
  refine lv_aload_n S.1 S.2.1 dX4_mill_5 rfl (lv_at hl 0 rfl) ?_
  refine lv_iload_n S.1 S.2.1 dX4_mill_6 rfl (lv_at hl 1 rfl) ?_
  refine ar_callVi (As := [.int a]) (rest := []) S hE (c_X4_isArch l hJ (V := (aq_ug V 0 Q)) (th := 0) (n := n) (by rw [aq_ug_n _ _ (by first | decide | omega)]; exact hn) hn20 a) (cwV 1 S.2.2.2.2 gX4_mill_X4_isArch rfl rfl rfl (by decide +kernel) ⟨Nat.le_of_ble_eq_true rfl, Nat.le_of_ble_eq_true rfl⟩) (aR_recvM I) I hl.1 dX4_mill_7 rfl rfl (Nat.le_of_ble_eq_true rfl) ⟨by first | decide | (dsimp only; omega), by first | decide | (dsimp only; omega)⟩ (fun H locs I hk9 => ?_)
  refine lv_if_eq (tgt := 31) S.1 S.2.1 dX4_mill_10 (by decide) (fun c1 => ?_) (fun c1 => ?_)
  · refine lv_aload_n S.1 S.2.1 dX4_mill_31 rfl (lv_at hl 0 rfl) ?_
    refine lv_iconst (v := 1) S.1 S.2.1 dX4_mill_32 (by decide) ?_
    refine ar_callVi (As := [.int 1]) (rest := []) S hE (c_X4_no l hJ (V := (aq_ug V 0 Q)) (th := 0) 1) (cwV 1 S.2.2.2.2 gX4_mill_X4_no rfl rfl rfl (by decide +kernel) ⟨Nat.le_of_ble_eq_true rfl, Nat.le_of_ble_eq_true rfl⟩) (aR_recvM I) I hl.1 dX4_mill_33 rfl rfl (Nat.le_of_ble_eq_true rfl) ⟨by first | decide | (dsimp only; omega), by first | decide | (dsimp only; omega)⟩ (fun H locs I hk9 => ?_)
    have hT9 : aR_millT n a w = 1 := by simp only [aR_millT, if_pos c1]
    exact aq_iret S.1 S.2.1 hr hlocks I dX4_mill_36 (by decide) (by decide) (by first | (rw [hT9]; done) | skip; rw [hT9]; first | rfl | (rw [if_neg (by decide)]; done) | (rw [if_neg (by decide)]; rfl) | (rw [if_neg (by decide), if_neg (by decide)]; done) | (rw [if_neg (by decide), if_neg (by decide)]; rfl)) (by first | (rw [hT9]; done) | skip; rw [hT9]; first | rfl | (rw [if_neg (by decide)]; done) | (rw [if_neg (by decide)]; rfl) | (rw [if_neg (by decide), if_neg (by decide)]; done) | (rw [if_neg (by decide), if_neg (by decide)]; rfl))
  · obtain ⟨k2, hk2, ek2⟩ := aR_isIn_ar hn20 c1
    subst ek2
    have nk2 : (nI k2).toNatClampNeg = k2 := nI_clamp (by omega)
    refine lv_iload_n S.1 S.2.1 dX4_mill_13 rfl (lv_at hl 2 rfl) ?_
    refine lv_iconst (v := 0) S.1 S.2.1 dX4_mill_14 (by decide) ?_
    refine lv_iconst (v := 3) S.1 S.2.1 dX4_mill_15 (by decide) ?_
    refine ar_callSi (As := [.int w, .int 0, .int 3]) (rest := []) S hE (c_X4_isIn l (V := (aq_ug V 0 Q)) (th := 0) w 0 3) (va_cwS 3 S.2.2.2.2 gX4_mill_X4_isIn rfl rfl rfl (by decide +kernel) ⟨Nat.le_of_ble_eq_true rfl, Nat.le_of_ble_eq_true rfl⟩)  I hl.1 dX4_mill_16 rfl rfl (Nat.le_of_ble_eq_true rfl) ⟨by first | decide | (dsimp only; omega), by first | decide | (dsimp only; omega)⟩ (fun H locs I hk9 => ?_)
    refine lv_if_eq (tgt := 31) S.1 S.2.1 dX4_mill_19 (by decide) (fun c3 => ?_) (fun c3 => ?_)
    · refine lv_aload_n S.1 S.2.1 dX4_mill_31 rfl (lv_at hl 0 rfl) ?_
      refine lv_iconst (v := 1) S.1 S.2.1 dX4_mill_32 (by decide) ?_
      refine ar_callVi (As := [.int 1]) (rest := []) S hE (c_X4_no l hJ (V := (aq_ug V 0 Q)) (th := 0) 1) (cwV 1 S.2.2.2.2 gX4_mill_X4_no rfl rfl rfl (by decide +kernel) ⟨Nat.le_of_ble_eq_true rfl, Nat.le_of_ble_eq_true rfl⟩) (aR_recvM I) I hl.1 dX4_mill_33 rfl rfl (Nat.le_of_ble_eq_true rfl) ⟨by first | decide | (dsimp only; omega), by first | decide | (dsimp only; omega)⟩ (fun H locs I hk9 => ?_)
      have hT9 : aR_millT n (nI k2) w = 1 := by simp only [aR_millT, nk2, if_neg c1, if_pos c3]
      exact aq_iret S.1 S.2.1 hr hlocks I dX4_mill_36 (by decide) (by decide) (by first | (rw [hT9]; done) | skip; rw [hT9]; first | rfl | (rw [if_neg (by decide)]; done) | (rw [if_neg (by decide)]; rfl) | (rw [if_neg (by decide), if_neg (by decide)]; done) | (rw [if_neg (by decide), if_neg (by decide)]; rfl)) (by first | (rw [hT9]; done) | skip; rw [hT9]; first | rfl | (rw [if_neg (by decide)]; done) | (rw [if_neg (by decide)]; rfl) | (rw [if_neg (by decide), if_neg (by decide)]; done) | (rw [if_neg (by decide), if_neg (by decide)]; rfl))
    · obtain ⟨k4, gk4, hk4, ek4⟩ := aR_isIn_rg (a := 0) (b := 3) (by omega) (by omega) c3
      subst ek4
      have nk4 : (nI k4).toNatClampNeg = k4 := nI_clamp (by omega)
      refine lv_aload_n S.1 S.2.1 dX4_mill_22 rfl (lv_at hl 0 rfl) ?_
      refine lv_iload_n S.1 S.2.1 dX4_mill_23 rfl (lv_at hl 1 rfl) ?_
      refine lv_iload_n S.1 S.2.1 dX4_mill_24 rfl (lv_at hl 2 rfl) ?_
      refine ar_callVi (As := [.int (nI k2), .int (nI k4)]) (rest := []) S hE (c_X4_millTold l hJ (V := V) (th := 0) (Q := Q) hst (n := n) hn hn20 (a := k2) (w := k4) (by omega) (by omega)) (cwV 2 S.2.2.2.2 gX4_mill_X4_millTold rfl rfl rfl (by decide +kernel) ⟨Nat.le_of_ble_eq_true rfl, Nat.le_of_ble_eq_true rfl⟩) (aR_recvM I) I hl.1 dX4_mill_25 rfl rfl (Nat.le_of_ble_eq_true rfl) ⟨by first | decide | (dsimp only; omega), by first | decide | (dsimp only; omega)⟩ (fun H locs I hk9 => ?_)
      refine lv_goto (tgt := 36) S.1 S.2.1 dX4_mill_28 (by decide) ?_
      have hT9 : aR_millT n (nI k2) (nI k4) = 0 := by simp only [aR_millT, nk2, nk4, if_neg c1, if_neg c3]
      exact aq_iret S.1 S.2.1 hr hlocks I dX4_mill_36 (by decide) (by decide) (by first | (rw [hT9]; done) | skip; rw [hT9]; first | rfl | (rw [if_pos rfl]; rfl) | (simp only [if_pos, true_and, nk2, nk4, if_neg c1, if_neg c3]; done) | (simp only [if_pos, true_and, nk2, nk4, if_neg c1, if_neg c3]; rfl)) (by first | (rw [hT9]; done) | skip; rw [hT9]; first | rfl | (rw [if_pos rfl]; rfl) | (simp only [if_pos, true_and, nk2, nk4, if_neg c1, if_neg c3]; done) | (simp only [if_pos, true_and, nk2, nk4, if_neg c1, if_neg c3]; rfl))
theorem in_X4_setSluice_X3 : ∀ w ∈ wsX30, w ∈ wsX4_setSluice := fun _ h => List.mem_cons_of_mem _ (List.mem_append_right _ h)
theorem in_X4_setSluice_X4 : ∀ w ∈ wsX40, w ∈ wsX4_setSluice := fun _ h => List.mem_cons_of_mem _ (List.mem_append_left _ (List.mem_append_right _ h))
set_option maxHeartbeats 4000000 in
set_option maxRecDepth 100000 in
/-- X4_setSluice -/
theorem c_X4_setSluice (l : Launch) {D : va_G} {ad : Nat → Nat} {cI : ClassId} {th : Int32} (hJ : aq_J 22 ad) {V : aq_V} {Q : aq_Q} (hst : aR_st (V 3) Q) {n : Nat} (hn : V 3 10 3 = nI n) (hn20 : n ≤ 20) (a x : Int32) : ar_Met l yX4_setSluice wsX4_setSluice ({ frames := 2, cells := 0, slots := 0, locals := 43 }) D (aR_t cI) 22 ad [.ref (ad 0), .int a, .int x] (aR_w ad cI th (aq_ug V 0 Q)) (aq_Qi D (aR_t cI) 22 ad (if aR_sluT n Q a x = 0 then Q 7 a.toNatClampNeg else 0) (aR_w ad cI (aR_sluT n Q a x) (aq_ug V 0 (if aR_sluT n Q a x = 0 then aq_up Q 7 a.toNatClampNeg x else Q)))) 0 0 := by
  refine ar_enter (cc := cX4_setSluice) (maxL := 4) (ret := some .int) (by decide) rfl (Nat.le_of_ble_eq_true rfl) ?_
  intro p e s m below meth c ls S hr hlocks hE I hl
  have S : CallFix p m c cX4_setSluice 4 s _ wsX4_setSluice RX4 := S
  have hl : lv_has ls 4 [(0, .ref (ad 0)), (1, .int a), (2, .int x)] := hl
  refine lv_aload_n S.1 S.2.1 dX4_setSluice_0 rfl (lv_at hl 0 rfl) ?_
  refine lv_iconst (v := 0) S.1 S.2.1 dX4_setSluice_1 (by decide) ?_
  refine aR_putTh (x := 0) hJ S I in_X4_setSluice_X4 (List.mem_of_getElem? (i := 1) rfl) dX4_setSluice_2 (fun H locs I => ?_)
  refine lv_aload_n S.1 S.2.1 dX4_setSluice_5 rfl (lv_at hl 0 rfl) ?_
  refine lv_iload_n S.1 S.2.1 dX4_setSluice_6 rfl (lv_at hl 1 rfl) ?_
  refine ar_callVi (As := [.int a]) (rest := []) S hE (c_X4_isArch l hJ (V := (aq_ug V 0 Q)) (th := 0) (n := n) (by rw [aq_ug_n _ _ (by first | decide | omega)]; exact hn) hn20 a) (cwV 1 S.2.2.2.2 gX4_setSluice_X4_isArch rfl rfl rfl (by decide +kernel) ⟨Nat.le_of_ble_eq_true rfl, Nat.le_of_ble_eq_true rfl⟩) (aR_recvM I) I hl.1 dX4_setSluice_7 rfl rfl (Nat.le_of_ble_eq_true rfl) ⟨by first | decide | (dsimp only; omega), by first | decide | (dsimp only; omega)⟩ (fun H locs I hk9 => ?_)
  refine lv_if_ne (tgt := 19) S.1 S.2.1 dX4_setSluice_10 (by decide) (fun c1 => ?_) (fun c1 => ?_)
  · obtain ⟨k2, hk2, ek2⟩ := aR_isIn_ar hn20 c1
    subst ek2
    have nk2 : (nI k2).toNatClampNeg = k2 := nI_clamp (by omega)
    refine lv_iload_n S.1 S.2.1 dX4_setSluice_19 rfl (lv_at hl 2 rfl) ?_
    refine lv_iconst (v := 0) S.1 S.2.1 dX4_setSluice_20 (by decide) ?_
    refine lv_bipush (v := 10) S.1 S.2.1 dX4_setSluice_21 (by decide) ?_
    refine ar_callSi (As := [.int x, .int 0, .int 10]) (rest := []) S hE (c_X4_isIn l (V := (aq_ug V 0 Q)) (th := 0) x 0 10) (va_cwS 3 S.2.2.2.2 gX4_setSluice_X4_isIn rfl rfl rfl (by decide +kernel) ⟨Nat.le_of_ble_eq_true rfl, Nat.le_of_ble_eq_true rfl⟩)  I hl.1 dX4_setSluice_23 rfl rfl (Nat.le_of_ble_eq_true rfl) ⟨by first | decide | (dsimp only; omega), by first | decide | (dsimp only; omega)⟩ (fun H locs I hk9 => ?_)
    refine lv_if_ne (tgt := 35) S.1 S.2.1 dX4_setSluice_26 (by decide) (fun c3 => ?_) (fun c3 => ?_)
    · refine lv_aload_n S.1 S.2.1 dX4_setSluice_35 rfl (lv_at hl 0 rfl) ?_
      refine aR_getM (v := .ref (ad 5)) S I 6 (by decide) in_X4_setSluice_X4 (List.mem_of_getElem? (i := 2) rfl) rfl dX4_setSluice_36 ?_
      refine lv_iload_n S.1 S.2.1 dX4_setSluice_39 rfl (lv_at hl 1 rfl) ?_
      refine aR_fld (t := 2) (f := 6) (k := k2) (x := Q 6 k2) S I (by decide) rfl rfl (by omega) (by rw [aq_ug_n _ _ (by first | decide | omega)]; exact hst.2.2 _) dX4_setSluice_40 ?_
      refine lv_if_ne (tgt := 50) S.1 S.2.1 dX4_setSluice_41 (by decide) (fun c4 => ?_) (fun c4 => ?_)
      · refine lv_aload_n S.1 S.2.1 dX4_setSluice_50 rfl (lv_at hl 0 rfl) ?_
        refine aR_getM (v := .ref (ad 6)) S I 7 (by decide) in_X4_setSluice_X4 (List.mem_of_getElem? (i := 3) rfl) rfl dX4_setSluice_51 ?_
        refine aR_getSN (j := 0) (v := .ref (ad (12 + 7 * 0))) S I (by decide) 8 (by decide) in_X4_setSluice_X3 (hE.1 _ (List.mem_of_getElem? (i := 0) rfl)) rfl dX4_setSluice_54 ?_
        refine lv_iload_n S.1 S.2.1 dX4_setSluice_57 rfl (lv_at hl 1 rfl) ?_
        refine aR_ald (j := 0) (a := 4) (f := 7) (k := k2) (x := Q 7 k2) S I (by decide) (by decide) rfl rfl (by omega) (by rw [aq_ug_s]) dX4_setSluice_58 ?_
        refine lv_istore_n (lv' := [(3, .int (Q 7 k2)), (0, .ref (ad 0)), (1, .int (nI k2)), (2, .int x)]) S.1 S.2.1 dX4_setSluice_59 rfl hl (by decide) rfl (fun ls hl => ?_)
        refine lv_aload_n S.1 S.2.1 dX4_setSluice_60 rfl (lv_at hl 1 rfl) ?_
        refine aR_getM (v := .ref (ad 6)) S I 7 (by decide) in_X4_setSluice_X4 (List.mem_of_getElem? (i := 3) rfl) rfl dX4_setSluice_61 ?_
        refine aR_getSN (j := 0) (v := .ref (ad (12 + 7 * 0))) S I (by decide) 8 (by decide) in_X4_setSluice_X3 (hE.1 _ (List.mem_of_getElem? (i := 0) rfl)) rfl dX4_setSluice_64 ?_
        refine lv_iload_n S.1 S.2.1 dX4_setSluice_67 rfl (lv_at hl 2 rfl) ?_
        refine lv_iload_n S.1 S.2.1 dX4_setSluice_68 rfl (lv_at hl 3 rfl) ?_
        refine aR_ast (V := V) (Q := Q) (j := 0) (a := 4) (f := 7) (k := k2) (x := x) hJ S I (by decide) (by decide) rfl rfl (by omega) dX4_setSluice_69 (fun H locs M5 hM5 I => ?_)
        refine lv_iload_n S.1 S.2.1 dX4_setSluice_70 rfl (lv_at hl 0 rfl) ?_
        have hT9 : aR_sluT n Q (nI k2) x = 0 := by subst hM5; simp only [aR_sluT, nk2, if_neg c1, if_neg c3, if_neg c4]
        exact aq_iret S.1 S.2.1 hr hlocks I dX4_setSluice_71 (by decide) (by decide) (by subst hM5; first | (rw [hT9]; done) | skip; rw [hT9]; first | rfl | (rw [if_pos rfl]; rfl) | (simp only [if_pos, true_and, nk2, if_neg c1, if_neg c3, if_neg c4]; done) | (simp only [if_pos, true_and, nk2, if_neg c1, if_neg c3, if_neg c4]; rfl)) (by subst hM5; first | (rw [hT9]; done) | skip; rw [hT9]; first | rfl | (rw [if_pos rfl]; rfl) | (simp only [if_pos, true_and, nk2, if_neg c1, if_neg c3, if_neg c4]; done) | (simp only [if_pos, true_and, nk2, if_neg c1, if_neg c3, if_neg c4]; rfl))
      · refine lv_aload_n S.1 S.2.1 dX4_setSluice_44 rfl (lv_at hl 0 rfl) ?_
        refine lv_iconst (v := 3) S.1 S.2.1 dX4_setSluice_45 (by decide) ?_
        refine ar_callVi (As := [.int 3]) (rest := []) S hE (c_X4_no l hJ (V := (aq_ug V 0 Q)) (th := 0) 3) (cwV 1 S.2.2.2.2 gX4_setSluice_X4_no rfl rfl rfl (by decide +kernel) ⟨Nat.le_of_ble_eq_true rfl, Nat.le_of_ble_eq_true rfl⟩) (aR_recvM I) I hl.1 dX4_setSluice_46 rfl rfl (Nat.le_of_ble_eq_true rfl) ⟨by first | decide | (dsimp only; omega), by first | decide | (dsimp only; omega)⟩ (fun H locs I hk9 => ?_)
        have hT9 : aR_sluT n Q (nI k2) x = 3 := by simp only [aR_sluT, nk2, if_neg c1, if_neg c3, if_pos c4]
        exact aq_iret S.1 S.2.1 hr hlocks I dX4_setSluice_49 (by decide) (by decide) (by first | (rw [hT9]; done) | skip; rw [hT9]; first | rfl | (rw [if_neg (by decide)]; done) | (rw [if_neg (by decide)]; rfl) | (rw [if_neg (by decide), if_neg (by decide)]; done) | (rw [if_neg (by decide), if_neg (by decide)]; rfl)) (by first | (rw [hT9]; done) | skip; rw [hT9]; first | rfl | (rw [if_neg (by decide)]; done) | (rw [if_neg (by decide)]; rfl) | (rw [if_neg (by decide), if_neg (by decide)]; done) | (rw [if_neg (by decide), if_neg (by decide)]; rfl))
    · refine lv_aload_n S.1 S.2.1 dX4_setSluice_29 rfl (lv_at hl 0 rfl) ?_
      refine lv_iconst (v := 2) S.1 S.2.1 dX4_setSluice_30 (by decide) ?_
      refine ar_callVi (As := [.int 2]) (rest := []) S hE (c_X4_no l hJ (V := (aq_ug V 0 Q)) (th := 0) 2) (cwV 1 S.2.2.2.2 gX4_setSluice_X4_no rfl rfl rfl (by decide +kernel) ⟨Nat.le_of_ble_eq_true rfl, Nat.le_of_ble_eq_true rfl⟩) (aR_recvM I) I hl.1 dX4_setSluice_31 rfl rfl (Nat.le_of_ble_eq_true rfl) ⟨by first | decide | (dsimp only; omega), by first | decide | (dsimp only; omega)⟩ (fun H locs I hk9 => ?_)
      have hT9 : aR_sluT n Q (nI k2) x = 2 := by simp only [aR_sluT, nk2, if_neg c1, if_pos c3]
      exact aq_iret S.1 S.2.1 hr hlocks I dX4_setSluice_34 (by decide) (by decide) (by first | (rw [hT9]; done) | skip; rw [hT9]; first | rfl | (rw [if_neg (by decide)]; done) | (rw [if_neg (by decide)]; rfl) | (rw [if_neg (by decide), if_neg (by decide)]; done) | (rw [if_neg (by decide), if_neg (by decide)]; rfl)) (by first | (rw [hT9]; done) | skip; rw [hT9]; first | rfl | (rw [if_neg (by decide)]; done) | (rw [if_neg (by decide)]; rfl) | (rw [if_neg (by decide), if_neg (by decide)]; done) | (rw [if_neg (by decide), if_neg (by decide)]; rfl))
  · refine lv_aload_n S.1 S.2.1 dX4_setSluice_13 rfl (lv_at hl 0 rfl) ?_
    refine lv_iconst (v := 1) S.1 S.2.1 dX4_setSluice_14 (by decide) ?_
    refine ar_callVi (As := [.int 1]) (rest := []) S hE (c_X4_no l hJ (V := (aq_ug V 0 Q)) (th := 0) 1) (cwV 1 S.2.2.2.2 gX4_setSluice_X4_no rfl rfl rfl (by decide +kernel) ⟨Nat.le_of_ble_eq_true rfl, Nat.le_of_ble_eq_true rfl⟩) (aR_recvM I) I hl.1 dX4_setSluice_15 rfl rfl (Nat.le_of_ble_eq_true rfl) ⟨by first | decide | (dsimp only; omega), by first | decide | (dsimp only; omega)⟩ (fun H locs I hk9 => ?_)
    have hT9 : aR_sluT n Q a x = 1 := by simp only [aR_sluT, if_pos c1]
    exact aq_iret S.1 S.2.1 hr hlocks I dX4_setSluice_18 (by decide) (by decide) (by first | (rw [hT9]; done) | skip; rw [hT9]; first | rfl | (rw [if_neg (by decide)]; done) | (rw [if_neg (by decide)]; rfl) | (rw [if_neg (by decide), if_neg (by decide)]; done) | (rw [if_neg (by decide), if_neg (by decide)]; rfl)) (by first | (rw [hT9]; done) | skip; rw [hT9]; first | rfl | (rw [if_neg (by decide)]; done) | (rw [if_neg (by decide)]; rfl) | (rw [if_neg (by decide), if_neg (by decide)]; done) | (rw [if_neg (by decide), if_neg (by decide)]; rfl))
theorem in_X4_mend_X3 : ∀ w ∈ wsX30, w ∈ wsX4_mend := fun _ h => List.mem_cons_of_mem _ (List.mem_append_right _ h)
theorem in_X4_mend_X4 : ∀ w ∈ wsX40, w ∈ wsX4_mend := fun _ h => List.mem_cons_of_mem _ (List.mem_append_left _ (List.mem_append_right _ h))
set_option maxHeartbeats 4000000 in
set_option maxRecDepth 100000 in
/-- X4_mend -/
theorem c_X4_mend (l : Launch) {D : va_G} {ad : Nat → Nat} {cI : ClassId} {th : Int32} (hJ : aq_J 22 ad) {V : aq_V} {Q : aq_Q} (hst : aR_st (V 3) Q) {n : Nat} (hn : V 3 10 3 = nI n) (hn20 : n ≤ 20) (a : Int32) : ar_Met l yX4_mend wsX4_mend ({ frames := 2, cells := 0, slots := 0, locals := 43 }) D (aR_t cI) 22 ad [.ref (ad 0), .int a] (aR_w ad cI th (aq_ug V 0 Q)) (aq_Qi D (aR_t cI) 22 ad (if aR_mendT n Q a = 0 then aR_mendQ Q a.toNatClampNeg 3 a.toNatClampNeg else 0) (aR_w ad cI (aR_mendT n Q a) (aq_ug V 0 (if aR_mendT n Q a = 0 then aR_mendQ Q a.toNatClampNeg else Q)))) 0 0 := by
  refine ar_enter (cc := cX4_mend) (maxL := 2) (ret := some .int) (by decide) rfl (Nat.le_of_ble_eq_true rfl) ?_
  intro p e s m below meth c ls S hr hlocks hE I hl
  have S : CallFix p m c cX4_mend 2 s _ wsX4_mend RX4 := S
  have hl : lv_has ls 2 [(0, .ref (ad 0)), (1, .int a)] := hl
  refine lv_aload_n S.1 S.2.1 dX4_mend_0 rfl (lv_at hl 0 rfl) ?_
  refine lv_iconst (v := 0) S.1 S.2.1 dX4_mend_1 (by decide) ?_
  refine aR_putTh (x := 0) hJ S I in_X4_mend_X4 (List.mem_of_getElem? (i := 1) rfl) dX4_mend_2 (fun H locs I => ?_)
  refine lv_aload_n S.1 S.2.1 dX4_mend_5 rfl (lv_at hl 0 rfl) ?_
  refine lv_iload_n S.1 S.2.1 dX4_mend_6 rfl (lv_at hl 1 rfl) ?_
  refine ar_callVi (As := [.int a]) (rest := []) S hE (c_X4_isArch l hJ (V := (aq_ug V 0 Q)) (th := 0) (n := n) (by rw [aq_ug_n _ _ (by first | decide | omega)]; exact hn) hn20 a) (cwV 1 S.2.2.2.2 gX4_mend_X4_isArch rfl rfl rfl (by decide +kernel) ⟨Nat.le_of_ble_eq_true rfl, Nat.le_of_ble_eq_true rfl⟩) (aR_recvM I) I hl.1 dX4_mend_7 rfl rfl (Nat.le_of_ble_eq_true rfl) ⟨by first | decide | (dsimp only; omega), by first | decide | (dsimp only; omega)⟩ (fun H locs I hk9 => ?_)
  refine lv_if_ne (tgt := 19) S.1 S.2.1 dX4_mend_10 (by decide) (fun c1 => ?_) (fun c1 => ?_)
  · obtain ⟨k2, hk2, ek2⟩ := aR_isIn_ar hn20 c1
    subst ek2
    have nk2 : (nI k2).toNatClampNeg = k2 := nI_clamp (by omega)
    refine lv_aload_n S.1 S.2.1 dX4_mend_19 rfl (lv_at hl 0 rfl) ?_
    refine aR_getM (v := .ref (ad 6)) S I 7 (by decide) in_X4_mend_X4 (List.mem_of_getElem? (i := 2) rfl) rfl dX4_mend_20 ?_
    refine aR_getSN (j := 0) (v := .int (Q 10 5)) S I (by decide) 3 (by decide) in_X4_mend_X3 (hE.1 _ (List.mem_of_getElem? (i := 3) rfl)) (by first | (rw [aq_ug_s]; done) | (rw [aq_ug_s]; rfl)) dX4_mend_23 ?_
    refine lv_if_eq (tgt := 41) S.1 S.2.1 dX4_mend_26 (by decide) (fun c3 => ?_) (fun c3 => ?_)
    · refine lv_aload_n S.1 S.2.1 dX4_mend_41 rfl (lv_at hl 0 rfl) ?_
      refine lv_iconst (v := 2) S.1 S.2.1 dX4_mend_42 (by decide) ?_
      refine ar_callVi (As := [.int 2]) (rest := []) S hE (c_X4_no l hJ (V := (aq_ug V 0 Q)) (th := 0) 2) (cwV 1 S.2.2.2.2 gX4_mend_X4_no rfl rfl rfl (by decide +kernel) ⟨Nat.le_of_ble_eq_true rfl, Nat.le_of_ble_eq_true rfl⟩) (aR_recvM I) I hl.1 dX4_mend_43 rfl rfl (Nat.le_of_ble_eq_true rfl) ⟨by first | decide | (dsimp only; omega), by first | decide | (dsimp only; omega)⟩ (fun H locs I hk9 => ?_)
      have hT9 : aR_mendT n Q (nI k2) = 2 := by simp only [aR_mendT, nk2, if_neg c1, if_pos c3]
      exact aq_iret S.1 S.2.1 hr hlocks I dX4_mend_46 (by decide) (by decide) (by first | (rw [hT9]; done) | skip; rw [hT9]; first | rfl | (rw [if_neg (by decide)]; done) | (rw [if_neg (by decide)]; rfl) | (rw [if_neg (by decide), if_neg (by decide)]; done) | (rw [if_neg (by decide), if_neg (by decide)]; rfl)) (by first | (rw [hT9]; done) | skip; rw [hT9]; first | rfl | (rw [if_neg (by decide)]; done) | (rw [if_neg (by decide)]; rfl) | (rw [if_neg (by decide), if_neg (by decide)]; done) | (rw [if_neg (by decide), if_neg (by decide)]; rfl))
    · refine lv_aload_n S.1 S.2.1 dX4_mend_29 rfl (lv_at hl 0 rfl) ?_
      refine aR_getM (v := .ref (ad 6)) S I 7 (by decide) in_X4_mend_X4 (List.mem_of_getElem? (i := 2) rfl) rfl dX4_mend_30 ?_
      refine aR_getSN (j := 0) (v := .ref (ad (9 + 7 * 0))) S I (by decide) 5 (by decide) in_X4_mend_X3 (hE.1 _ (List.mem_of_getElem? (i := 13) rfl)) rfl dX4_mend_33 ?_
      refine lv_iload_n S.1 S.2.1 dX4_mend_36 rfl (lv_at hl 1 rfl) ?_
      refine aR_ald (j := 0) (a := 1) (f := 3) (k := k2) (x := Q 3 k2) S I (by decide) (by decide) rfl rfl (by omega) (by rw [aq_ug_s]) dX4_mend_37 ?_
      refine lv_if_ne (tgt := 47) S.1 S.2.1 dX4_mend_38 (by decide) (fun c4 => ?_) (fun c4 => ?_)
      · refine lv_aload_n S.1 S.2.1 dX4_mend_47 rfl (lv_at hl 0 rfl) ?_
        refine aR_getM (v := .ref (ad 6)) S I 7 (by decide) in_X4_mend_X4 (List.mem_of_getElem? (i := 2) rfl) rfl dX4_mend_48 ?_
        refine lv_dup S.1 S.2.1 dX4_mend_51 rfl ?_
        refine aR_getSN (j := 0) (v := .int (Q 10 5)) S I (by decide) 3 (by decide) in_X4_mend_X3 (hE.1 _ (List.mem_of_getElem? (i := 3) rfl)) (by first | (rw [aq_ug_s]; done) | (rw [aq_ug_s]; rfl)) dX4_mend_52 ?_
        refine lv_iconst (v := 1) S.1 S.2.1 dX4_mend_55 (by decide) ?_
        refine lv_isub S.1 S.2.1 dX4_mend_56 ?_
        refine aR_putSN (V := V) (Q := Q) (j := 0) (x := Q 10 5 - 1) hJ S I (by decide) 3 (by decide) (by decide) 5 rfl in_X4_mend_X3 (hE.1 _ (List.mem_of_getElem? (i := 3) rfl)) dX4_mend_57 (fun H locs M5 hM5 I => ?_)
        refine lv_aload_n S.1 S.2.1 dX4_mend_60 rfl (lv_at hl 0 rfl) ?_
        refine aR_getM (v := .ref (ad 6)) S I 7 (by decide) in_X4_mend_X4 (List.mem_of_getElem? (i := 2) rfl) rfl dX4_mend_61 ?_
        refine aR_getSN (j := 0) (v := .ref (ad (9 + 7 * 0))) S I (by decide) 5 (by decide) in_X4_mend_X3 (hE.1 _ (List.mem_of_getElem? (i := 13) rfl)) rfl dX4_mend_64 ?_
        refine lv_iload_n S.1 S.2.1 dX4_mend_67 rfl (lv_at hl 1 rfl) ?_
        refine lv_iconst (v := 0) S.1 S.2.1 dX4_mend_68 (by decide) ?_
        refine lv_aload_n S.1 S.2.1 dX4_mend_69 rfl (lv_at hl 0 rfl) ?_
        refine aR_getM (v := .ref (ad 6)) S I 7 (by decide) in_X4_mend_X4 (List.mem_of_getElem? (i := 2) rfl) rfl dX4_mend_70 ?_
        refine aR_getSN (j := 0) (v := .ref (ad (9 + 7 * 0))) S I (by decide) 5 (by decide) in_X4_mend_X3 (hE.1 _ (List.mem_of_getElem? (i := 13) rfl)) rfl dX4_mend_73 ?_
        refine lv_iload_n S.1 S.2.1 dX4_mend_76 rfl (lv_at hl 1 rfl) ?_
        refine aR_ald (j := 0) (a := 1) (f := 3) (k := k2) (x := M5 3 k2) S I (by decide) (by decide) rfl rfl (by omega) (by rw [aq_ug_s]) dX4_mend_77 ?_
        refine lv_bipush (v := 10) S.1 S.2.1 dX4_mend_78 (by decide) ?_
        refine lv_isub S.1 S.2.1 dX4_mend_80 ?_
        refine aq_mmax S hl.1 (List.mem_of_getElem? (i := 3) rfl) (List.mem_of_getElem? (i := 4) rfl) (List.mem_of_getElem? (i := 5) rfl) (List.mem_of_getElem? (i := 6) rfl) (by decide) (Nat.le_of_ble_eq_true rfl) (by decide) (by decide) dX4_mend_81 ?_
        refine aR_ast (V := V) (Q := M5) (j := 0) (a := 1) (f := 3) (k := k2) (x := aq_mx 0 (M5 3 k2 - 10)) hJ S I (by decide) (by decide) rfl rfl (by omega) dX4_mend_84 (fun H locs M6 hM6 I => ?_)
        refine lv_aload_n S.1 S.2.1 dX4_mend_85 rfl (lv_at hl 0 rfl) ?_
        refine aR_getM (v := .ref (ad 6)) S I 7 (by decide) in_X4_mend_X4 (List.mem_of_getElem? (i := 2) rfl) rfl dX4_mend_86 ?_
        refine aR_getSN (j := 0) (v := .ref (ad (10 + 7 * 0))) S I (by decide) 6 (by decide) in_X4_mend_X3 (hE.1 _ (List.mem_of_getElem? (i := 14) rfl)) rfl dX4_mend_89 ?_
        refine lv_iload_n S.1 S.2.1 dX4_mend_92 rfl (lv_at hl 1 rfl) ?_
        refine lv_iconst (v := 0) S.1 S.2.1 dX4_mend_93 (by decide) ?_
        refine aR_ast (V := V) (Q := M6) (j := 0) (a := 2) (f := 4) (k := k2) (x := 0) hJ S I (by decide) (by decide) rfl rfl (by omega) dX4_mend_94 (fun H locs M7 hM7 I => ?_)
        refine lv_aload_n S.1 S.2.1 dX4_mend_95 rfl (lv_at hl 0 rfl) ?_
        refine aR_getM (v := .ref (ad 6)) S I 7 (by decide) in_X4_mend_X4 (List.mem_of_getElem? (i := 2) rfl) rfl dX4_mend_96 ?_
        refine aR_getSN (j := 0) (v := .ref (ad (9 + 7 * 0))) S I (by decide) 5 (by decide) in_X4_mend_X3 (hE.1 _ (List.mem_of_getElem? (i := 13) rfl)) rfl dX4_mend_99 ?_
        refine lv_iload_n S.1 S.2.1 dX4_mend_102 rfl (lv_at hl 1 rfl) ?_
        refine aR_ald (j := 0) (a := 1) (f := 3) (k := k2) (x := M7 3 k2) S I (by decide) (by decide) rfl rfl (by omega) (by rw [aq_ug_s]) dX4_mend_103 ?_
        have hT9 : aR_mendT n Q (nI k2) = 0 := by subst hM7; subst hM6; subst hM5; simp only [aR_mendT, nk2, if_neg c1, if_neg c3, if_neg c4]
        exact aq_iret S.1 S.2.1 hr hlocks I dX4_mend_104 (by decide) (by decide) (by subst hM7; subst hM6; subst hM5; first | (rw [hT9]; done) | skip; rw [hT9]; first | rfl | (rw [if_pos rfl]; rfl) | (simp only [if_pos, true_and, aR_mendQ, nk2, if_neg c1, if_neg c3, if_neg c4]; done) | (simp only [if_pos, true_and, aR_mendQ, nk2, if_neg c1, if_neg c3, if_neg c4]; rfl)) (by subst hM7; subst hM6; subst hM5; first | (rw [hT9]; done) | skip; rw [hT9]; first | rfl | (rw [if_pos rfl]; rfl) | (simp only [if_pos, true_and, aR_mendQ, nk2, if_neg c1, if_neg c3, if_neg c4]; done) | (simp only [if_pos, true_and, aR_mendQ, nk2, if_neg c1, if_neg c3, if_neg c4]; rfl))
      · refine lv_aload_n S.1 S.2.1 dX4_mend_41 rfl (lv_at hl 0 rfl) ?_
        refine lv_iconst (v := 2) S.1 S.2.1 dX4_mend_42 (by decide) ?_
        refine ar_callVi (As := [.int 2]) (rest := []) S hE (c_X4_no l hJ (V := (aq_ug V 0 Q)) (th := 0) 2) (cwV 1 S.2.2.2.2 gX4_mend_X4_no rfl rfl rfl (by decide +kernel) ⟨Nat.le_of_ble_eq_true rfl, Nat.le_of_ble_eq_true rfl⟩) (aR_recvM I) I hl.1 dX4_mend_43 rfl rfl (Nat.le_of_ble_eq_true rfl) ⟨by first | decide | (dsimp only; omega), by first | decide | (dsimp only; omega)⟩ (fun H locs I hk9 => ?_)
        have hT9 : aR_mendT n Q (nI k2) = 2 := by simp only [aR_mendT, nk2, if_neg c1, if_neg c3, if_pos c4]
        exact aq_iret S.1 S.2.1 hr hlocks I dX4_mend_46 (by decide) (by decide) (by first | (rw [hT9]; done) | skip; rw [hT9]; first | rfl | (rw [if_neg (by decide)]; done) | (rw [if_neg (by decide)]; rfl) | (rw [if_neg (by decide), if_neg (by decide)]; done) | (rw [if_neg (by decide), if_neg (by decide)]; rfl)) (by first | (rw [hT9]; done) | skip; rw [hT9]; first | rfl | (rw [if_neg (by decide)]; done) | (rw [if_neg (by decide)]; rfl) | (rw [if_neg (by decide), if_neg (by decide)]; done) | (rw [if_neg (by decide), if_neg (by decide)]; rfl))
  · refine lv_aload_n S.1 S.2.1 dX4_mend_13 rfl (lv_at hl 0 rfl) ?_
    refine lv_iconst (v := 1) S.1 S.2.1 dX4_mend_14 (by decide) ?_
    refine ar_callVi (As := [.int 1]) (rest := []) S hE (c_X4_no l hJ (V := (aq_ug V 0 Q)) (th := 0) 1) (cwV 1 S.2.2.2.2 gX4_mend_X4_no rfl rfl rfl (by decide +kernel) ⟨Nat.le_of_ble_eq_true rfl, Nat.le_of_ble_eq_true rfl⟩) (aR_recvM I) I hl.1 dX4_mend_15 rfl rfl (Nat.le_of_ble_eq_true rfl) ⟨by first | decide | (dsimp only; omega), by first | decide | (dsimp only; omega)⟩ (fun H locs I hk9 => ?_)
    have hT9 : aR_mendT n Q a = 1 := by simp only [aR_mendT, if_pos c1]
    exact aq_iret S.1 S.2.1 hr hlocks I dX4_mend_18 (by decide) (by decide) (by first | (rw [hT9]; done) | skip; rw [hT9]; first | rfl | (rw [if_neg (by decide)]; done) | (rw [if_neg (by decide)]; rfl) | (rw [if_neg (by decide), if_neg (by decide)]; done) | (rw [if_neg (by decide), if_neg (by decide)]; rfl)) (by first | (rw [hT9]; done) | skip; rw [hT9]; first | rfl | (rw [if_neg (by decide)]; done) | (rw [if_neg (by decide)]; rfl) | (rw [if_neg (by decide), if_neg (by decide)]; done) | (rw [if_neg (by decide), if_neg (by decide)]; rfl))
theorem in_X4_quake_X3 : ∀ w ∈ wsX30, w ∈ wsX4_quake := fun _ h => List.mem_cons_of_mem _ (List.mem_append_right _ h)
theorem in_X4_quake_X4 : ∀ w ∈ wsX40, w ∈ wsX4_quake := fun _ h => List.mem_cons_of_mem _ (List.mem_append_left _ (List.mem_append_right _ h))
set_option maxHeartbeats 4000000 in
set_option maxRecDepth 100000 in
/-- X4_quake -/
theorem c_X4_quake (l : Launch) {D : va_G} {ad : Nat → Nat} {cI : ClassId} {th : Int32} (hJ : aq_J 22 ad) {V : aq_V} {Q : aq_Q} (hst : aR_st (V 3) Q) {n : Nat} (hn : V 3 10 3 = nI n) (hn20 : n ≤ 20) (a x : Int32) : ar_Met l yX4_quake wsX4_quake ({ frames := 2, cells := 0, slots := 0, locals := 43 }) D (aR_t cI) 22 ad [.ref (ad 0), .int a, .int x] (aR_w ad cI th (aq_ug V 0 Q)) (aq_Qi D (aR_t cI) 22 ad (if aR_quakeT n a x = 0 then aR_quakeQ Q a.toNatClampNeg x 3 a.toNatClampNeg else 0) (aR_w ad cI (aR_quakeT n a x) (aq_ug V 0 (if aR_quakeT n a x = 0 then aR_quakeQ Q a.toNatClampNeg x else Q)))) 0 0 := by
  refine ar_enter (cc := cX4_quake) (maxL := 3) (ret := some .int) (by decide) rfl (Nat.le_of_ble_eq_true rfl) ?_
  intro p e s m below meth c ls S hr hlocks hE I hl
  have S : CallFix p m c cX4_quake 3 s _ wsX4_quake RX4 := S
  have hl : lv_has ls 3 [(0, .ref (ad 0)), (1, .int a), (2, .int x)] := hl
  refine lv_aload_n S.1 S.2.1 dX4_quake_0 rfl (lv_at hl 0 rfl) ?_
  refine lv_iconst (v := 0) S.1 S.2.1 dX4_quake_1 (by decide) ?_
  refine aR_putTh (x := 0) hJ S I in_X4_quake_X4 (List.mem_of_getElem? (i := 1) rfl) dX4_quake_2 (fun H locs I => ?_)
  refine lv_aload_n S.1 S.2.1 dX4_quake_5 rfl (lv_at hl 0 rfl) ?_
  refine lv_iload_n S.1 S.2.1 dX4_quake_6 rfl (lv_at hl 1 rfl) ?_
  refine ar_callVi (As := [.int a]) (rest := []) S hE (c_X4_isArch l hJ (V := (aq_ug V 0 Q)) (th := 0) (n := n) (by rw [aq_ug_n _ _ (by first | decide | omega)]; exact hn) hn20 a) (cwV 1 S.2.2.2.2 gX4_quake_X4_isArch rfl rfl rfl (by decide +kernel) ⟨Nat.le_of_ble_eq_true rfl, Nat.le_of_ble_eq_true rfl⟩) (aR_recvM I) I hl.1 dX4_quake_7 rfl rfl (Nat.le_of_ble_eq_true rfl) ⟨by first | decide | (dsimp only; omega), by first | decide | (dsimp only; omega)⟩ (fun H locs I hk9 => ?_)
  refine lv_if_ne (tgt := 19) S.1 S.2.1 dX4_quake_10 (by decide) (fun c1 => ?_) (fun c1 => ?_)
  · obtain ⟨k2, hk2, ek2⟩ := aR_isIn_ar hn20 c1
    subst ek2
    have nk2 : (nI k2).toNatClampNeg = k2 := nI_clamp (by omega)
    refine lv_iload_n S.1 S.2.1 dX4_quake_19 rfl (lv_at hl 2 rfl) ?_
    refine lv_iconst (v := 1) S.1 S.2.1 dX4_quake_20 (by decide) ?_
    refine lv_bipush (v := 50) S.1 S.2.1 dX4_quake_21 (by decide) ?_
    refine ar_callSi (As := [.int x, .int 1, .int 50]) (rest := []) S hE (c_X4_isIn l (V := (aq_ug V 0 Q)) (th := 0) x 1 50) (va_cwS 3 S.2.2.2.2 gX4_quake_X4_isIn rfl rfl rfl (by decide +kernel) ⟨Nat.le_of_ble_eq_true rfl, Nat.le_of_ble_eq_true rfl⟩)  I hl.1 dX4_quake_23 rfl rfl (Nat.le_of_ble_eq_true rfl) ⟨by first | decide | (dsimp only; omega), by first | decide | (dsimp only; omega)⟩ (fun H locs I hk9 => ?_)
    refine lv_if_ne (tgt := 35) S.1 S.2.1 dX4_quake_26 (by decide) (fun c3 => ?_) (fun c3 => ?_)
    · refine lv_aload_n S.1 S.2.1 dX4_quake_35 rfl (lv_at hl 0 rfl) ?_
      refine aR_getM (v := .ref (ad 6)) S I 7 (by decide) in_X4_quake_X4 (List.mem_of_getElem? (i := 2) rfl) rfl dX4_quake_36 ?_
      refine aR_getSN (j := 0) (v := .ref (ad (9 + 7 * 0))) S I (by decide) 5 (by decide) in_X4_quake_X3 (hE.1 _ (List.mem_of_getElem? (i := 13) rfl)) rfl dX4_quake_39 ?_
      refine lv_iload_n S.1 S.2.1 dX4_quake_42 rfl (lv_at hl 1 rfl) ?_
      refine lv_bipush (v := 50) S.1 S.2.1 dX4_quake_43 (by decide) ?_
      refine lv_aload_n S.1 S.2.1 dX4_quake_45 rfl (lv_at hl 0 rfl) ?_
      refine aR_getM (v := .ref (ad 6)) S I 7 (by decide) in_X4_quake_X4 (List.mem_of_getElem? (i := 2) rfl) rfl dX4_quake_46 ?_
      refine aR_getSN (j := 0) (v := .ref (ad (9 + 7 * 0))) S I (by decide) 5 (by decide) in_X4_quake_X3 (hE.1 _ (List.mem_of_getElem? (i := 13) rfl)) rfl dX4_quake_49 ?_
      refine lv_iload_n S.1 S.2.1 dX4_quake_52 rfl (lv_at hl 1 rfl) ?_
      refine aR_ald (j := 0) (a := 1) (f := 3) (k := k2) (x := Q 3 k2) S I (by decide) (by decide) rfl rfl (by omega) (by rw [aq_ug_s]) dX4_quake_53 ?_
      refine lv_iload_n S.1 S.2.1 dX4_quake_54 rfl (lv_at hl 2 rfl) ?_
      refine lv_iadd S.1 S.2.1 dX4_quake_55 ?_
      refine aq_mmin S hl.1 (List.mem_of_getElem? (i := 3) rfl) (List.mem_of_getElem? (i := 4) rfl) (List.mem_of_getElem? (i := 5) rfl) (List.mem_of_getElem? (i := 6) rfl) (by decide) (Nat.le_of_ble_eq_true rfl) (by decide) (by decide) dX4_quake_56 ?_
      refine aR_ast (V := V) (Q := Q) (j := 0) (a := 1) (f := 3) (k := k2) (x := aq_mn 50 (Q 3 k2 + x)) hJ S I (by decide) (by decide) rfl rfl (by omega) dX4_quake_59 (fun H locs M4 hM4 I => ?_)
      refine lv_aload_n S.1 S.2.1 dX4_quake_60 rfl (lv_at hl 0 rfl) ?_
      refine aR_getM (v := .ref (ad 6)) S I 7 (by decide) in_X4_quake_X4 (List.mem_of_getElem? (i := 2) rfl) rfl dX4_quake_61 ?_
      refine aR_getSN (j := 0) (v := .ref (ad (9 + 7 * 0))) S I (by decide) 5 (by decide) in_X4_quake_X3 (hE.1 _ (List.mem_of_getElem? (i := 13) rfl)) rfl dX4_quake_64 ?_
      refine lv_iload_n S.1 S.2.1 dX4_quake_67 rfl (lv_at hl 1 rfl) ?_
      refine aR_ald (j := 0) (a := 1) (f := 3) (k := k2) (x := M4 3 k2) S I (by decide) (by decide) rfl rfl (by omega) (by rw [aq_ug_s]) dX4_quake_68 ?_
      have hT9 : aR_quakeT n (nI k2) x = 0 := by subst hM4; simp only [aR_quakeT, nk2, if_neg c1, if_neg c3]
      exact aq_iret S.1 S.2.1 hr hlocks I dX4_quake_69 (by decide) (by decide) (by subst hM4; first | (rw [hT9]; done) | skip; rw [hT9]; first | rfl | (rw [if_pos rfl]; rfl) | (simp only [if_pos, true_and, aR_quakeQ, nk2, if_neg c1, if_neg c3]; done) | (simp only [if_pos, true_and, aR_quakeQ, nk2, if_neg c1, if_neg c3]; rfl)) (by subst hM4; first | (rw [hT9]; done) | skip; rw [hT9]; first | rfl | (rw [if_pos rfl]; rfl) | (simp only [if_pos, true_and, aR_quakeQ, nk2, if_neg c1, if_neg c3]; done) | (simp only [if_pos, true_and, aR_quakeQ, nk2, if_neg c1, if_neg c3]; rfl))
    · refine lv_aload_n S.1 S.2.1 dX4_quake_29 rfl (lv_at hl 0 rfl) ?_
      refine lv_iconst (v := 2) S.1 S.2.1 dX4_quake_30 (by decide) ?_
      refine ar_callVi (As := [.int 2]) (rest := []) S hE (c_X4_no l hJ (V := (aq_ug V 0 Q)) (th := 0) 2) (cwV 1 S.2.2.2.2 gX4_quake_X4_no rfl rfl rfl (by decide +kernel) ⟨Nat.le_of_ble_eq_true rfl, Nat.le_of_ble_eq_true rfl⟩) (aR_recvM I) I hl.1 dX4_quake_31 rfl rfl (Nat.le_of_ble_eq_true rfl) ⟨by first | decide | (dsimp only; omega), by first | decide | (dsimp only; omega)⟩ (fun H locs I hk9 => ?_)
      have hT9 : aR_quakeT n (nI k2) x = 2 := by simp only [aR_quakeT, nk2, if_neg c1, if_pos c3]
      exact aq_iret S.1 S.2.1 hr hlocks I dX4_quake_34 (by decide) (by decide) (by first | (rw [hT9]; done) | skip; rw [hT9]; first | rfl | (rw [if_neg (by decide)]; done) | (rw [if_neg (by decide)]; rfl) | (rw [if_neg (by decide), if_neg (by decide)]; done) | (rw [if_neg (by decide), if_neg (by decide)]; rfl)) (by first | (rw [hT9]; done) | skip; rw [hT9]; first | rfl | (rw [if_neg (by decide)]; done) | (rw [if_neg (by decide)]; rfl) | (rw [if_neg (by decide), if_neg (by decide)]; done) | (rw [if_neg (by decide), if_neg (by decide)]; rfl))
  · refine lv_aload_n S.1 S.2.1 dX4_quake_13 rfl (lv_at hl 0 rfl) ?_
    refine lv_iconst (v := 1) S.1 S.2.1 dX4_quake_14 (by decide) ?_
    refine ar_callVi (As := [.int 1]) (rest := []) S hE (c_X4_no l hJ (V := (aq_ug V 0 Q)) (th := 0) 1) (cwV 1 S.2.2.2.2 gX4_quake_X4_no rfl rfl rfl (by decide +kernel) ⟨Nat.le_of_ble_eq_true rfl, Nat.le_of_ble_eq_true rfl⟩) (aR_recvM I) I hl.1 dX4_quake_15 rfl rfl (Nat.le_of_ble_eq_true rfl) ⟨by first | decide | (dsimp only; omega), by first | decide | (dsimp only; omega)⟩ (fun H locs I hk9 => ?_)
    have hT9 : aR_quakeT n a x = 1 := by simp only [aR_quakeT, if_pos c1]
    exact aq_iret S.1 S.2.1 hr hlocks I dX4_quake_18 (by decide) (by decide) (by first | (rw [hT9]; done) | skip; rw [hT9]; first | rfl | (rw [if_neg (by decide)]; done) | (rw [if_neg (by decide)]; rfl) | (rw [if_neg (by decide), if_neg (by decide)]; done) | (rw [if_neg (by decide), if_neg (by decide)]; rfl)) (by first | (rw [hT9]; done) | skip; rw [hT9]; first | rfl | (rw [if_neg (by decide)]; done) | (rw [if_neg (by decide)]; rfl) | (rw [if_neg (by decide), if_neg (by decide)]; done) | (rw [if_neg (by decide), if_neg (by decide)]; rfl))
theorem in_X4_count_X4 : ∀ w ∈ wsX40, w ∈ wsX4_count := fun _ h => List.mem_cons_of_mem _ (List.mem_append_left _ (List.mem_append_right _ h))
set_option maxHeartbeats 4000000 in
set_option maxRecDepth 100000 in
/-- X4_count -/
theorem c_X4_count (l : Launch) {D : va_G} {ad : Nat → Nat} {cI : ClassId} {th : Int32} (hJ : aq_J 22 ad) {V : aq_V} {Q : aq_Q} (hst : aR_st (V 3) Q) {n : Nat} (hn : V 3 10 3 = nI n) (hn20 : n ≤ 20) (w : Int32) : ar_Met l yX4_count wsX4_count ({ frames := 2, cells := 1, slots := 12, locals := 45 }) D (aR_t cI) 22 ad [.ref (ad 0), .int w] (aR_w ad cI th (aq_ug V 0 Q)) (aq_Qi D (aR_t cI) 22 ad (if aR_cntT w = 0 then aR_countNo n Q w.toNatClampNeg else 0) (aR_w ad cI (aR_cntT w) (aq_ug V 0 Q))) 1 12 := by
  refine ar_enter (cc := cX4_count) (maxL := 2) (ret := some .int) (by decide) rfl (Nat.le_of_ble_eq_true rfl) ?_
  intro p e s m below meth c ls S hr hlocks hE I hl
  have S : CallFix p m c cX4_count 2 s _ wsX4_count RX4 := S
  have hl : lv_has ls 2 [(0, .ref (ad 0)), (1, .int w)] := hl
  refine lv_aload_n S.1 S.2.1 dX4_count_0 rfl (lv_at hl 0 rfl) ?_
  refine lv_iconst (v := 0) S.1 S.2.1 dX4_count_1 (by decide) ?_
  refine aR_putTh (x := 0) hJ S I in_X4_count_X4 (List.mem_of_getElem? (i := 1) rfl) dX4_count_2 (fun H locs I => ?_)
  refine lv_iload_n S.1 S.2.1 dX4_count_5 rfl (lv_at hl 1 rfl) ?_
  refine lv_iconst (v := 0) S.1 S.2.1 dX4_count_6 (by decide) ?_
  refine lv_bipush (v := 11) S.1 S.2.1 dX4_count_7 (by decide) ?_
  refine ar_callSi (As := [.int w, .int 0, .int 11]) (rest := []) S hE (c_X4_isIn l (V := (aq_ug V 0 Q)) (th := 0) w 0 11) (va_cwS 3 S.2.2.2.2 gX4_count_X4_isIn rfl rfl rfl (by decide +kernel) ⟨Nat.le_of_ble_eq_true rfl, Nat.le_of_ble_eq_true rfl⟩)  I hl.1 dX4_count_9 rfl rfl (Nat.le_of_ble_eq_true rfl) ⟨by first | decide | (dsimp only; omega), by first | decide | (dsimp only; omega)⟩ (fun H locs I hk9 => ?_)
  refine lv_if_eq (tgt := 23) S.1 S.2.1 dX4_count_12 (by decide) (fun c1 => ?_) (fun c1 => ?_)
  · refine lv_aload_n S.1 S.2.1 dX4_count_23 rfl (lv_at hl 0 rfl) ?_
    refine lv_iconst (v := 1) S.1 S.2.1 dX4_count_24 (by decide) ?_
    refine ar_callVi (As := [.int 1]) (rest := []) S hE (c_X4_no l hJ (V := (aq_ug V 0 Q)) (th := 0) 1) (cwV 1 S.2.2.2.2 gX4_count_X4_no rfl rfl rfl (by decide +kernel) ⟨Nat.le_of_ble_eq_true rfl, Nat.le_of_ble_eq_true rfl⟩) (aR_recvM I) I hl.1 dX4_count_25 rfl rfl (Nat.le_of_ble_eq_true rfl) ⟨by first | decide | (dsimp only; omega), by first | decide | (dsimp only; omega)⟩ (fun H locs I hk9 => ?_)
    have hT9 : aR_cntT w = 1 := by simp only [aR_cntT, if_pos c1]
    exact aq_iret S.1 S.2.1 hr hlocks I dX4_count_28 (by decide) (by decide) (by first | (rw [hT9]; done) | skip; rw [hT9]; first | rfl | (rw [if_neg (by decide)]; done) | (rw [if_neg (by decide)]; rfl) | (rw [if_neg (by decide), if_neg (by decide)]; done) | (rw [if_neg (by decide), if_neg (by decide)]; rfl)) (by first | (rw [hT9]; done) | skip; rw [hT9]; first | rfl | (rw [if_neg (by decide)]; done) | (rw [if_neg (by decide)]; rfl) | (rw [if_neg (by decide), if_neg (by decide)]; done) | (rw [if_neg (by decide), if_neg (by decide)]; rfl))
  · obtain ⟨k2, gk2, hk2, ek2⟩ := aR_isIn_rg (a := 0) (b := 11) (by omega) (by omega) c1
    subst ek2
    have nk2 : (nI k2).toNatClampNeg = k2 := nI_clamp (by omega)
    refine lv_aload_n S.1 S.2.1 dX4_count_15 rfl (lv_at hl 0 rfl) ?_
    refine lv_iload_n S.1 S.2.1 dX4_count_16 rfl (lv_at hl 1 rfl) ?_
    refine ar_callVi (As := [.int (nI k2)]) (rest := []) S hE (c_X4_counted l hJ (V := V) (th := 0) (Q := Q) hst (n := n) hn hn20 (w := k2) (by omega)) (cwV 1 S.2.2.2.2 gX4_count_X4_counted rfl rfl rfl (by decide +kernel) ⟨Nat.le_of_ble_eq_true rfl, Nat.le_of_ble_eq_true rfl⟩) (aR_recvM I) I hl.1 dX4_count_17 rfl rfl (Nat.le_of_ble_eq_true rfl) ⟨by first | decide | (dsimp only; omega), by first | decide | (dsimp only; omega)⟩ (fun H locs I hk9 => ?_)
    refine lv_goto (tgt := 28) S.1 S.2.1 dX4_count_20 (by decide) ?_
    have hT9 : aR_cntT (nI k2) = 0 := by simp only [aR_cntT, nk2, if_neg c1]
    exact aq_iret S.1 S.2.1 hr hlocks I dX4_count_28 (by decide) (by decide) (by first | (rw [hT9]; done) | skip; rw [hT9]; first | rfl | (rw [if_pos rfl]; rfl) | (simp only [if_pos, true_and, nk2, if_neg c1]; done) | (simp only [if_pos, true_and, nk2, if_neg c1]; rfl)) (by first | (rw [hT9]; done) | skip; rw [hT9]; first | rfl | (rw [if_pos rfl]; rfl) | (simp only [if_pos, true_and, nk2, if_neg c1]; done) | (simp only [if_pos, true_and, nk2, if_neg c1]; rfl))
theorem in_X4_pass__X4 : ∀ w ∈ wsX40, w ∈ wsX4_pass_ := fun _ h => List.mem_cons_of_mem _ (List.mem_append_left _ (List.mem_append_right _ h))
set_option maxHeartbeats 4000000 in
set_option maxRecDepth 100000 in
/-- X4_pass_ -/
theorem c_X4_pass_ (l : Launch) {D : va_G} {ad : Nat → Nat} {cI : ClassId} {th : Int32} (hJ : aq_J 22 ad) {V : aq_V} {Q : aq_Q} (hst : aR_st (V 3) Q) {n : Nat} (hn : V 3 10 3 = nI n) (hn20 : n ≤ 20) {h : Nat} (hh : Q 10 4 = nI h) (h31 : h + 200 < 2 ^ 31) (z : Int32) : ar_Met l yX4_pass_ wsX4_pass_ ({ frames := 5, cells := 0, slots := 0, locals := 114 }) D (aR_t cI) 22 ad [.ref (ad 0), .int z] (aR_w ad cI th (aq_ug V 0 Q)) (aq_Qi D (aR_t cI) 22 ad (if aR_pasT z = 0 then aR_goR n (V 2) z.toNatClampNeg Q 0 else 0) (aR_w ad cI (aR_pasT z) (aq_ug V 0 (if aR_pasT z = 0 then aR_goQ n (V 2) z.toNatClampNeg Q else Q)))) 0 0 := by
  refine ar_enter (cc := cX4_pass_) (maxL := 2) (ret := some .int) (by decide) rfl (Nat.le_of_ble_eq_true rfl) ?_
  intro p e s m below meth c ls S hr hlocks hE I hl
  have S : CallFix p m c cX4_pass_ 2 s _ wsX4_pass_ RX4 := S
  have hl : lv_has ls 2 [(0, .ref (ad 0)), (1, .int z)] := hl
  refine lv_aload_n S.1 S.2.1 dX4_pass__0 rfl (lv_at hl 0 rfl) ?_
  refine lv_iconst (v := 0) S.1 S.2.1 dX4_pass__1 (by decide) ?_
  refine aR_putTh (x := 0) hJ S I in_X4_pass__X4 (List.mem_of_getElem? (i := 1) rfl) dX4_pass__2 (fun H locs I => ?_)
  refine lv_iload_n S.1 S.2.1 dX4_pass__5 rfl (lv_at hl 1 rfl) ?_
  refine lv_iconst (v := 1) S.1 S.2.1 dX4_pass__6 (by decide) ?_
  refine lv_bipush (v := 100) S.1 S.2.1 dX4_pass__7 (by decide) ?_
  refine ar_callSi (As := [.int z, .int 1, .int 100]) (rest := []) S hE (c_X4_isIn l (V := (aq_ug V 0 Q)) (th := 0) z 1 100) (va_cwS 3 S.2.2.2.2 gX4_pass__X4_isIn rfl rfl rfl (by decide +kernel) ⟨Nat.le_of_ble_eq_true rfl, Nat.le_of_ble_eq_true rfl⟩)  I hl.1 dX4_pass__9 rfl rfl (Nat.le_of_ble_eq_true rfl) ⟨by first | decide | (dsimp only; omega), by first | decide | (dsimp only; omega)⟩ (fun H locs I hk9 => ?_)
  refine lv_if_eq (tgt := 26) S.1 S.2.1 dX4_pass__12 (by decide) (fun c1 => ?_) (fun c1 => ?_)
  · refine lv_aload_n S.1 S.2.1 dX4_pass__26 rfl (lv_at hl 0 rfl) ?_
    refine lv_iconst (v := 1) S.1 S.2.1 dX4_pass__27 (by decide) ?_
    refine ar_callVi (As := [.int 1]) (rest := []) S hE (c_X4_no l hJ (V := (aq_ug V 0 Q)) (th := 0) 1) (cwV 1 S.2.2.2.2 gX4_pass__X4_no rfl rfl rfl (by decide +kernel) ⟨Nat.le_of_ble_eq_true rfl, Nat.le_of_ble_eq_true rfl⟩) (aR_recvM I) I hl.1 dX4_pass__28 rfl rfl (Nat.le_of_ble_eq_true rfl) ⟨by first | decide | (dsimp only; omega), by first | decide | (dsimp only; omega)⟩ (fun H locs I hk9 => ?_)
    have hT9 : aR_pasT z = 1 := by simp only [aR_pasT, if_pos c1]
    exact aq_iret S.1 S.2.1 hr hlocks I dX4_pass__31 (by decide) (by decide) (by first | (rw [hT9]; done) | skip; rw [hT9]; first | rfl | (rw [if_neg (by decide)]; done) | (rw [if_neg (by decide)]; rfl) | (rw [if_neg (by decide), if_neg (by decide)]; done) | (rw [if_neg (by decide), if_neg (by decide)]; rfl)) (by first | (rw [hT9]; done) | skip; rw [hT9]; first | rfl | (rw [if_neg (by decide)]; done) | (rw [if_neg (by decide)]; rfl) | (rw [if_neg (by decide), if_neg (by decide)]; done) | (rw [if_neg (by decide), if_neg (by decide)]; rfl))
  · obtain ⟨k2, gk2, hk2, ek2⟩ := aR_isIn_rg (a := 1) (b := 100) (by omega) (by omega) c1
    subst ek2
    have nk2 : (nI k2).toNatClampNeg = k2 := nI_clamp (by omega)
    refine lv_aload_n S.1 S.2.1 dX4_pass__15 rfl (lv_at hl 0 rfl) ?_
    refine aR_getM (v := .ref (ad 6)) S I 7 (by decide) in_X4_pass__X4 (List.mem_of_getElem? (i := 2) rfl) rfl dX4_pass__16 ?_
    refine lv_iload_n S.1 S.2.1 dX4_pass__19 rfl (lv_at hl 1 rfl) ?_
    refine ar_callSi (As := [.ref (ad 6), .int (nI k2)]) (rest := []) S hE (c_X4_pass l hJ (V := V) (th := 0) (Q := Q) (j := 0) (by decide) hst (n := n) hn hn20 (h := h) (z := k2) hh (by omega)) (va_cwS 2 S.2.2.2.2 gX4_pass__X4_pass rfl rfl rfl (by decide +kernel) ⟨Nat.le_of_ble_eq_true rfl, Nat.le_of_ble_eq_true rfl⟩)  I hl.1 dX4_pass__20 rfl rfl (Nat.le_of_ble_eq_true rfl) ⟨by first | decide | (dsimp only; omega), by first | decide | (dsimp only; omega)⟩ (fun H locs I hk9 => ?_)
    obtain ⟨M3, hM3⟩ : ∃ z9 : aq_Q, z9 = aR_goQ n (V 2) k2 Q := ⟨_, rfl⟩
    rw [← hM3] at I
    refine lv_goto (tgt := 31) S.1 S.2.1 dX4_pass__23 (by decide) ?_
    have hT9 : aR_pasT (nI k2) = 0 := by subst hM3; simp only [aR_pasT, nk2, if_neg c1]
    exact aq_iret S.1 S.2.1 hr hlocks I dX4_pass__31 (by decide) (by decide) (by subst hM3; first | (rw [hT9]; done) | skip; rw [hT9]; first | rfl | (rw [if_pos rfl]; rfl) | (simp only [if_pos, true_and, nk2, if_neg c1]; done) | (simp only [if_pos, true_and, nk2, if_neg c1]; rfl)) (by subst hM3; first | (rw [hT9]; done) | skip; rw [hT9]; first | rfl | (rw [if_pos rfl]; rfl) | (simp only [if_pos, true_and, nk2, if_neg c1]; done) | (simp only [if_pos, true_and, nk2, if_neg c1]; rfl))
