theorem aR_st_up6 {S Q : aq_Q} {i : Nat} {v : Int32} (h : aR_st S Q) : aR_st (aq_up S 6 i v) (aq_up Q 6 i v) :=
  ⟨fun k => by rw [aq_up_f _ _ (by decide), aq_up_f _ _ (by decide)]; exact h.1 k, fun k => by rw [aq_up_f _ _ (by decide), aq_up_f _ _ (by decide)]; exact h.2.1 k, fun k => by by_cases e : k = i <;> simp [aq_up, e, h.2.2 k]⟩
theorem in_X4_addMill_X4 : ∀ w ∈ wsX40, w ∈ wsX4_addMill := fun _ h => List.mem_cons_of_mem _ (List.mem_append_right _ h)
set_option maxHeartbeats 4000000 in
set_option maxRecDepth 100000 in
/-- X4_addMill -/
theorem c_X4_addMill (l : Launch) {D : va_G} {ad : Nat → Nat} {cI : ClassId} {th : Int32} (hJ : aq_J 22 ad) {V : aq_V} {G Q : aq_Q} (hst : aR_st G Q) {n : Nat} (hn : G 10 3 = nI n) (hn20 : n ≤ 20) (a x : Int32) : ar_Met l yX4_addMill wsX4_addMill ({ frames := 2, cells := 0, slots := 0, locals := 43 }) D (aR_t cI) 22 ad [.ref (ad 0), .int a, .int x] (aR_w ad cI th (aq_ug (aq_ug V 3 G) 0 Q)) (aq_Qi D (aR_t cI) 22 ad (if aR_addMT n G a x = 0 then aR_mills n (aq_up Q 6 a.toNatClampNeg x) else 0) (aR_w ad cI (aR_addMT n G a x) (aq_ug (aq_ug V 3 (if aR_addMT n G a x = 0 then aq_up G 6 a.toNatClampNeg x else G)) 0 (if aR_addMT n G a x = 0 then aq_up Q 6 a.toNatClampNeg x else Q)))) 0 0 := by
  refine ar_enter (cc := cX4_addMill) (maxL := 3) (ret := some .int) (by decide) rfl (Nat.le_of_ble_eq_true rfl) ?_
  intro p e s m below meth c ls S hr hlocks hE I hl
  have S : CallFix p m c cX4_addMill 3 s _ wsX4_addMill RX4 := S
  have hl : lv_has ls 3 [(0, .ref (ad 0)), (1, .int a), (2, .int x)] := hl
  refine lv_aload_n S.1 S.2.1 dX4_addMill_0 rfl (lv_at hl 0 rfl) ?_
  refine lv_iconst (v := 0) S.1 S.2.1 dX4_addMill_1 (by decide) ?_
  refine aR_putTh (x := 0) hJ S I in_X4_addMill_X4 (List.mem_of_getElem? (i := 1) rfl) dX4_addMill_2 (fun H locs I => ?_)
  refine lv_aload_n S.1 S.2.1 dX4_addMill_5 rfl (lv_at hl 0 rfl) ?_
  refine lv_iload_n S.1 S.2.1 dX4_addMill_6 rfl (lv_at hl 1 rfl) ?_
  refine ar_callVi (As := [.int a]) (rest := []) S hE (c_X4_isArch l hJ (V := (aq_ug (aq_ug V 3 G) 0 Q)) (th := 0) (n := n) (by rw [aq_ug_n _ _ (by decide), aq_ug_s]; exact hn) hn20 a) (cwV 1 S.2.2.2.2 gX4_addMill_X4_isArch rfl rfl rfl (by decide +kernel) ⟨Nat.le_of_ble_eq_true rfl, Nat.le_of_ble_eq_true rfl⟩) (aR_recvM I) I hl.1 dX4_addMill_7 rfl rfl (Nat.le_of_ble_eq_true rfl) ⟨by first | decide | (dsimp only; omega), by first | decide | (dsimp only; omega)⟩ (fun H locs I hk9 => ?_)
  refine lv_if_ne (tgt := 19) S.1 S.2.1 dX4_addMill_10 (by decide) (fun c1 => ?_) (fun c1 => ?_)
  · obtain ⟨k2, hk2, ek2⟩ := aR_isIn_ar hn20 c1
    subst ek2
    have nk2 : (nI k2).toNatClampNeg = k2 := nI_clamp (by omega)
    refine lv_iload_n S.1 S.2.1 dX4_addMill_19 rfl (lv_at hl 2 rfl) ?_
    refine lv_iconst (v := 1) S.1 S.2.1 dX4_addMill_20 (by decide) ?_
    refine lv_bipush (v := 30) S.1 S.2.1 dX4_addMill_21 (by decide) ?_
    refine ar_callSi (As := [.int x, .int 1, .int 30]) (rest := []) S hE (c_X4_isIn l (V := (aq_ug (aq_ug V 3 G) 0 Q)) (th := 0) x 1 30) (va_cwS 3 S.2.2.2.2 gX4_addMill_X4_isIn rfl rfl rfl (by decide +kernel) ⟨Nat.le_of_ble_eq_true rfl, Nat.le_of_ble_eq_true rfl⟩)  I hl.1 dX4_addMill_23 rfl rfl (Nat.le_of_ble_eq_true rfl) ⟨by first | decide | (dsimp only; omega), by first | decide | (dsimp only; omega)⟩ (fun H locs I hk9 => ?_)
    refine lv_if_ne (tgt := 35) S.1 S.2.1 dX4_addMill_26 (by decide) (fun c3 => ?_) (fun c3 => ?_)
    · refine lv_aload_n S.1 S.2.1 dX4_addMill_35 rfl (lv_at hl 0 rfl) ?_
      refine aR_getM (v := .ref (ad 5)) S I 6 (by decide) in_X4_addMill_X4 (List.mem_of_getElem? (i := 2) rfl) rfl dX4_addMill_36 ?_
      refine lv_iload_n S.1 S.2.1 dX4_addMill_39 rfl (lv_at hl 1 rfl) ?_
      refine aR_fld (t := 2) (f := 6) (k := k2) (x := G 6 k2) S I (by decide) rfl rfl (by omega) (by rw [aq_ug_n _ _ (by decide), aq_ug_s]) dX4_addMill_40 ?_
      refine lv_if_le (tgt := 50) S.1 S.2.1 dX4_addMill_41 (by decide) (fun c4 => ?_) (fun c4 => ?_)
      · refine lv_aload_n S.1 S.2.1 dX4_addMill_50 rfl (lv_at hl 0 rfl) ?_
        refine aR_getM (v := .ref (ad 5)) S I 6 (by decide) in_X4_addMill_X4 (List.mem_of_getElem? (i := 2) rfl) rfl dX4_addMill_51 ?_
        refine lv_iload_n S.1 S.2.1 dX4_addMill_54 rfl (lv_at hl 1 rfl) ?_
        refine lv_iload_n S.1 S.2.1 dX4_addMill_55 rfl (lv_at hl 2 rfl) ?_
        rw [aq_ug_sw V (show (3 : Nat) ≠ 0 by decide) G Q] at I
        refine aR_fst (V := (aq_ug V 0 Q)) (S3 := G) (t := 2) (f := 6) (k := k2) (x := x) hJ S I (by decide) rfl rfl (by omega) dX4_addMill_56 (fun H locs M5 hM5 I => ?_)
        obtain ⟨M6, hM6⟩ : ∃ z9 : aq_Q, z9 = aq_up Q 6 k2 x := ⟨_, rfl⟩
        have I := aR_I_eq (V' := aq_ug (aq_ug V 3 M5) 0 M6) I ⟨rfl, fun _ _ => rfl, fun _ _ _ _ => rfl, fun j hj => by
          rcases (show j = 0 ∨ j = 1 by omega) with rfl | rfl
          · subst hM6
            exact ⟨fun k _ _ => (aq_up_f Q x (show (10 : Nat) ≠ 6 by decide) : aq_up Q 6 k2 x 10 k = Q 10 k), fun a _ i _ => (aq_up_f Q x (show aR_rf a ≠ 6 by unfold aR_rf; split <;> omega) : aq_up Q 6 k2 x (aR_rf a) i = Q (aR_rf a) i)⟩
          · exact ⟨fun _ _ _ => rfl, fun _ _ _ _ => rfl⟩⟩
        have hst9 : aR_st M5 M6 := by rw [hM5, hM6]; exact aR_st_up6 hst
        have hn9 : M5 10 3 = nI n := by rw [hM5]; exact (aq_up_f _ _ (by decide)).trans hn
        refine lv_aload_n S.1 S.2.1 dX4_addMill_57 rfl (lv_at hl 0 rfl) ?_
        refine ar_callVi (As := []) (rest := []) S hE (c_X4_mills l hJ (V := (aq_ug V 3 M5)) (th := 0) (Q := M6) hst9 (n := n) hn9 hn20 ) (cwV 0 S.2.2.2.2 gX4_addMill_X4_mills rfl rfl rfl (by decide +kernel) ⟨Nat.le_of_ble_eq_true rfl, Nat.le_of_ble_eq_true rfl⟩) (aR_recvM I) I hl.1 dX4_addMill_58 rfl rfl (Nat.le_of_ble_eq_true rfl) ⟨by first | decide | (dsimp only; omega), by first | decide | (dsimp only; omega)⟩ (fun H locs I hk9 => ?_)
        have hT9 : aR_addMT n G (nI k2) x = 0 := by subst hM6; subst hM5; simp only [aR_addMT, nk2, if_neg c1, if_neg c3, if_pos c4]
        exact aq_iret S.1 S.2.1 hr hlocks I dX4_addMill_61 (by decide) (by decide) (by subst hM6; subst hM5; first | (rw [hT9]; done) | skip; rw [hT9]; first | rfl | (rw [if_pos rfl]; rfl) | (simp only [if_pos, true_and, nk2, if_neg c1, if_neg c3, if_pos c4]; done) | (simp only [if_pos, true_and, nk2, if_neg c1, if_neg c3, if_pos c4]; rfl)) (by subst hM6; subst hM5; first | (rw [hT9]; done) | skip; rw [hT9]; first | rfl | (rw [if_pos rfl]; rfl) | (simp only [if_pos, true_and, nk2, if_neg c1, if_neg c3, if_pos c4]; done) | (simp only [if_pos, true_and, nk2, if_neg c1, if_neg c3, if_pos c4]; rfl))
      · refine lv_aload_n S.1 S.2.1 dX4_addMill_44 rfl (lv_at hl 0 rfl) ?_
        refine lv_iconst (v := 3) S.1 S.2.1 dX4_addMill_45 (by decide) ?_
        refine ar_callVi (As := [.int 3]) (rest := []) S hE (c_X4_no l hJ (V := (aq_ug (aq_ug V 3 G) 0 Q)) (th := 0) 3) (cwV 1 S.2.2.2.2 gX4_addMill_X4_no rfl rfl rfl (by decide +kernel) ⟨Nat.le_of_ble_eq_true rfl, Nat.le_of_ble_eq_true rfl⟩) (aR_recvM I) I hl.1 dX4_addMill_46 rfl rfl (Nat.le_of_ble_eq_true rfl) ⟨by first | decide | (dsimp only; omega), by first | decide | (dsimp only; omega)⟩ (fun H locs I hk9 => ?_)
        have hT9 : aR_addMT n G (nI k2) x = 3 := by simp only [aR_addMT, nk2, if_neg c1, if_neg c3, if_neg c4]
        exact aq_iret S.1 S.2.1 hr hlocks I dX4_addMill_49 (by decide) (by decide) (by first | (rw [hT9]; done) | skip; rw [hT9]; first | rfl | (rw [if_neg (by decide)]; done) | (rw [if_neg (by decide)]; rfl) | (rw [if_neg (by decide), if_neg (by decide)]; done) | (rw [if_neg (by decide), if_neg (by decide)]; rfl)) (by first | (rw [hT9]; done) | skip; rw [hT9]; first | rfl | (rw [if_neg (by decide)]; done) | (rw [if_neg (by decide)]; rfl) | (rw [if_neg (by decide), if_neg (by decide)]; done) | (rw [if_neg (by decide), if_neg (by decide)]; rfl))
    · refine lv_aload_n S.1 S.2.1 dX4_addMill_29 rfl (lv_at hl 0 rfl) ?_
      refine lv_iconst (v := 2) S.1 S.2.1 dX4_addMill_30 (by decide) ?_
      refine ar_callVi (As := [.int 2]) (rest := []) S hE (c_X4_no l hJ (V := (aq_ug (aq_ug V 3 G) 0 Q)) (th := 0) 2) (cwV 1 S.2.2.2.2 gX4_addMill_X4_no rfl rfl rfl (by decide +kernel) ⟨Nat.le_of_ble_eq_true rfl, Nat.le_of_ble_eq_true rfl⟩) (aR_recvM I) I hl.1 dX4_addMill_31 rfl rfl (Nat.le_of_ble_eq_true rfl) ⟨by first | decide | (dsimp only; omega), by first | decide | (dsimp only; omega)⟩ (fun H locs I hk9 => ?_)
      have hT9 : aR_addMT n G (nI k2) x = 2 := by simp only [aR_addMT, nk2, if_neg c1, if_pos c3]
      exact aq_iret S.1 S.2.1 hr hlocks I dX4_addMill_34 (by decide) (by decide) (by first | (rw [hT9]; done) | skip; rw [hT9]; first | rfl | (rw [if_neg (by decide)]; done) | (rw [if_neg (by decide)]; rfl) | (rw [if_neg (by decide), if_neg (by decide)]; done) | (rw [if_neg (by decide), if_neg (by decide)]; rfl)) (by first | (rw [hT9]; done) | skip; rw [hT9]; first | rfl | (rw [if_neg (by decide)]; done) | (rw [if_neg (by decide)]; rfl) | (rw [if_neg (by decide), if_neg (by decide)]; done) | (rw [if_neg (by decide), if_neg (by decide)]; rfl))
  · refine lv_aload_n S.1 S.2.1 dX4_addMill_13 rfl (lv_at hl 0 rfl) ?_
    refine lv_iconst (v := 1) S.1 S.2.1 dX4_addMill_14 (by decide) ?_
    refine ar_callVi (As := [.int 1]) (rest := []) S hE (c_X4_no l hJ (V := (aq_ug (aq_ug V 3 G) 0 Q)) (th := 0) 1) (cwV 1 S.2.2.2.2 gX4_addMill_X4_no rfl rfl rfl (by decide +kernel) ⟨Nat.le_of_ble_eq_true rfl, Nat.le_of_ble_eq_true rfl⟩) (aR_recvM I) I hl.1 dX4_addMill_15 rfl rfl (Nat.le_of_ble_eq_true rfl) ⟨by first | decide | (dsimp only; omega), by first | decide | (dsimp only; omega)⟩ (fun H locs I hk9 => ?_)
    have hT9 : aR_addMT n G a x = 1 := by simp only [aR_addMT, if_pos c1]
    exact aq_iret S.1 S.2.1 hr hlocks I dX4_addMill_18 (by decide) (by decide) (by first | (rw [hT9]; done) | skip; rw [hT9]; first | rfl | (rw [if_neg (by decide)]; done) | (rw [if_neg (by decide)]; rfl) | (rw [if_neg (by decide), if_neg (by decide)]; done) | (rw [if_neg (by decide), if_neg (by decide)]; rfl)) (by first | (rw [hT9]; done) | skip; rw [hT9]; first | rfl | (rw [if_neg (by decide)]; done) | (rw [if_neg (by decide)]; rfl) | (rw [if_neg (by decide), if_neg (by decide)]; done) | (rw [if_neg (by decide), if_neg (by decide)]; rfl))
