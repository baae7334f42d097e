set_option maxHeartbeats 4000000 in
set_option maxRecDepth 100000 in
/-- X2_requireIndex -/
theorem c_X2_requireIndex (l : Launch) (hlt : l.stackTraces = false) {D : va_G} {ad : Nat → Nat} {cI cQ : ClassId} {V : aq_V} (i e0 : Int32) : aq_MetX l yX2_requireIndex wsX2_requireIndex ({ frames := 6, cells := 1, slots := 6, locals := 90 }) D (aC_t cI cQ) 49 ad [.int i, .int e0] (aC_w ad cI cQ V) (aq_ixK i e0) (aq_QvX D (aC_t cI cQ) 49 ad (aq_ixK i e0) (aC_w ad cI cQ V)) 1 6 := by
  refine aq_enterX (cc := cX2_requireIndex) (maxL := 2) (ret := none) (by decide) rfl (Nat.le_of_ble_eq_true rfl) ?_
  intro p e s m below meth c ls S hr hlocks hout hT I hl
  have S : CallFix p m c cX2_requireIndex 2 s _ wsX2_requireIndex RX2 := S
  have hl : lv_has ls 2 [(0, .int i), (1, .int e0)] := hl
  refine lv_iload_n S.1 S.2.1 dX2_requireIndex_0 rfl (lv_at hl 0 rfl) ?_
  refine lv_if_lt (tgt := 9) S.1 S.2.1 dX2_requireIndex_1 (by decide) (fun c1 => ?_) (fun c1 => ?_)
  · obtain ⟨sa, hsa⟩ := hT.2.2.2.2.2.2.2.2.1
    have hκ9 : aq_ixK i e0 = 2 := (by simp [aq_ixK, aq_seq, c1])
    exact aq_throw (cls := "java/lang/IndexOutOfBoundsException") (text := "there is none of this number") (sa := sa) S hlt hT hlocks hout I hl.1 (by decide +kernel) (List.mem_of_getElem? (i := 1) rfl) (List.mem_of_getElem? (i := 2) rfl) hsa (fun _ h => List.mem_cons_of_mem _ (List.mem_append_right _ h)) aq_bad2 (aq_badB2 hT) aq_ot2 dX2_requireIndex_9 dX2_requireIndex_12 dX2_requireIndex_13 dX2_requireIndex_15 dX2_requireIndex_18 (by decide) (Nat.le_of_ble_eq_true rfl) (by decide) (by decide) (by decide) (by decide) ⟨by rw [hκ9]; decide, by rw [hκ9]; rfl⟩
  · refine lv_iload_n S.1 S.2.1 dX2_requireIndex_4 rfl (lv_at hl 0 rfl) ?_
    refine lv_iload_n S.1 S.2.1 dX2_requireIndex_5 rfl (lv_at hl 1 rfl) ?_
    refine lv_icmp_lt (tgt := 19) S.1 S.2.1 dX2_requireIndex_6 (by decide) (fun c2 => ?_) (fun c2 => ?_)
    · exact aq_xvret S.1 S.2.1 hr hlocks I dX2_requireIndex_19 (by decide) (by decide) (by simp [aq_ixK, aq_seq, c1, c2]) (by subst_vars; first | rfl | (simp only [if_neg c1, if_pos c2]; done) | (simp only [if_neg c1, if_pos c2]; rfl))
    · obtain ⟨sa, hsa⟩ := hT.2.2.2.2.2.2.2.2.1
      have hκ9 : aq_ixK i e0 = 2 := (by simp [aq_ixK, aq_seq, c1, c2])
      exact aq_throw (cls := "java/lang/IndexOutOfBoundsException") (text := "there is none of this number") (sa := sa) S hlt hT hlocks hout I hl.1 (by decide +kernel) (List.mem_of_getElem? (i := 1) rfl) (List.mem_of_getElem? (i := 2) rfl) hsa (fun _ h => List.mem_cons_of_mem _ (List.mem_append_right _ h)) aq_bad2 (aq_badB2 hT) aq_ot2 dX2_requireIndex_9 dX2_requireIndex_12 dX2_requireIndex_13 dX2_requireIndex_15 dX2_requireIndex_18 (by decide) (Nat.le_of_ble_eq_true rfl) (by decide) (by decide) (by decide) (by decide) ⟨by rw [hκ9]; decide, by rw [hκ9]; rfl⟩
set_option maxHeartbeats 4000000 in
set_option maxRecDepth 100000 in
/-- X2_requireRange -/
theorem c_X2_requireRange (l : Launch) (hlt : l.stackTraces = false) {D : va_G} {ad : Nat → Nat} {cI cQ : ClassId} {V : aq_V} (i a b : Int32) : aq_MetX l yX2_requireRange wsX2_requireRange ({ frames := 6, cells := 1, slots := 6, locals := 90 }) D (aC_t cI cQ) 49 ad [.int i, .int a, .int b] (aC_w ad cI cQ V) (aq_rgK i a b) (aq_QvX D (aC_t cI cQ) 49 ad (aq_rgK i a b) (aC_w ad cI cQ V)) 1 6 := by
  refine aq_enterX (cc := cX2_requireRange) (maxL := 3) (ret := none) (by decide) rfl (Nat.le_of_ble_eq_true rfl) ?_
  intro p e s m below meth c ls S hr hlocks hout hT I hl
  have S : CallFix p m c cX2_requireRange 3 s _ wsX2_requireRange RX2 := S
  have hl : lv_has ls 3 [(0, .int i), (1, .int a), (2, .int b)] := hl
  refine lv_iload_n S.1 S.2.1 dX2_requireRange_0 rfl (lv_at hl 0 rfl) ?_
  refine lv_iload_n S.1 S.2.1 dX2_requireRange_1 rfl (lv_at hl 1 rfl) ?_
  refine lv_icmp_lt (tgt := 10) S.1 S.2.1 dX2_requireRange_2 (by decide) (fun c1 => ?_) (fun c1 => ?_)
  · obtain ⟨sa, hsa⟩ := hT.2.2.2.2.2.2.2.2.2
    have hκ9 : aq_rgK i a b = 1 := (by simp [aq_rgK, aq_seq, c1])
    exact aq_throw (cls := "java/lang/IllegalArgumentException") (text := "the number is too small or too great") (sa := sa) S hlt hT hlocks hout I hl.1 (by decide +kernel) (List.mem_of_getElem? (i := 1) rfl) (List.mem_of_getElem? (i := 2) rfl) hsa (fun _ h => List.mem_cons_of_mem _ (List.mem_append_right _ h)) aq_bad1 (aq_badB1 hT) aq_ot1 dX2_requireRange_10 dX2_requireRange_13 dX2_requireRange_14 dX2_requireRange_16 dX2_requireRange_19 (by decide) (Nat.le_of_ble_eq_true rfl) (by decide) (by decide) (by decide) (by decide) ⟨by rw [hκ9]; decide, by rw [hκ9]; rfl⟩
  · refine lv_iload_n S.1 S.2.1 dX2_requireRange_5 rfl (lv_at hl 0 rfl) ?_
    refine lv_iload_n S.1 S.2.1 dX2_requireRange_6 rfl (lv_at hl 2 rfl) ?_
    refine lv_icmp_le (tgt := 20) S.1 S.2.1 dX2_requireRange_7 (by decide) (fun c2 => ?_) (fun c2 => ?_)
    · exact aq_xvret S.1 S.2.1 hr hlocks I dX2_requireRange_20 (by decide) (by decide) (by simp [aq_rgK, aq_seq, c1, c2]) (by subst_vars; first | rfl | (simp only [if_neg c1, if_pos c2]; done) | (simp only [if_neg c1, if_pos c2]; rfl))
    · obtain ⟨sa, hsa⟩ := hT.2.2.2.2.2.2.2.2.2
      have hκ9 : aq_rgK i a b = 1 := (by simp [aq_rgK, aq_seq, c1, c2])
      exact aq_throw (cls := "java/lang/IllegalArgumentException") (text := "the number is too small or too great") (sa := sa) S hlt hT hlocks hout I hl.1 (by decide +kernel) (List.mem_of_getElem? (i := 1) rfl) (List.mem_of_getElem? (i := 2) rfl) hsa (fun _ h => List.mem_cons_of_mem _ (List.mem_append_right _ h)) aq_bad1 (aq_badB1 hT) aq_ot1 dX2_requireRange_10 dX2_requireRange_13 dX2_requireRange_14 dX2_requireRange_16 dX2_requireRange_19 (by decide) (Nat.le_of_ble_eq_true rfl) (by decide) (by decide) (by decide) (by decide) ⟨by rw [hκ9]; decide, by rw [hκ9]; rfl⟩
theorem in_X2_requireArch_X0 : ∀ w ∈ wsX00, w ∈ wsX2_requireArch := fun _ h => List.mem_cons_of_mem _ (List.mem_append_left _ (List.mem_append_right _ h))
theorem in_X2_requireArch_X2 : ∀ w ∈ wsX20, w ∈ wsX2_requireArch := fun _ h => List.mem_cons_of_mem _ (List.mem_append_left _ (List.mem_append_left _ (List.mem_append_right _ h)))
set_option maxHeartbeats 4000000 in
set_option maxRecDepth 100000 in
/-- X2_requireArch -/
theorem c_X2_requireArch (l : Launch) (hlt : l.stackTraces = false) {D : va_G} {ad : Nat → Nat} {cI cQ : ClassId} (hJ : aq_J 49 ad) {V : aq_V} {Q : aq_Q} {n : Nat} (hn : Q 10 3 = nI n) (hn20 : n ≤ 20) (i : Int32) : aq_MetX l yX2_requireArch wsX2_requireArch ({ frames := 7, cells := 1, slots := 6, locals := 111 }) D (aC_t cI cQ) 49 ad [.ref (ad 0), .int i] (aC_w ad cI cQ (aq_ug V 0 Q)) (aq_ixK i (nI n)) (aq_QvX D (aC_t cI cQ) 49 ad (aq_ixK i (nI n)) (aC_w ad cI cQ (aq_ug V 0 Q))) 1 6 := by
  refine aq_enterX (cc := cX2_requireArch) (maxL := 2) (ret := none) (by decide) rfl (Nat.le_of_ble_eq_true rfl) ?_
  intro p e s m below meth c ls S hr hlocks hout hT I hl
  have S : CallFix p m c cX2_requireArch 2 s _ wsX2_requireArch RX2 := S
  have hl : lv_has ls 2 [(0, .ref (ad 0)), (1, .int i)] := hl
  refine lv_iload_n S.1 S.2.1 dX2_requireArch_0 rfl (lv_at hl 1 rfl) ?_
  refine lv_aload_n S.1 S.2.1 dX2_requireArch_1 rfl (lv_at hl 0 rfl) ?_
  refine aC_getX S I 0 (by decide) in_X2_requireArch_X2 (List.mem_of_getElem? (i := 1) rfl) dX2_requireArch_2 ?_
  refine aC_getS (j := 0) (x := nI n) S I (by decide) 3 (by decide) (by decide) in_X2_requireArch_X0 (List.mem_of_getElem? (i := 2) rfl) (by rw [aq_ug_s]; exact hn) dX2_requireArch_5 ?_
  refine aq_xcallSv (κ1 := aq_ixK i (nI n)) (As := [.int i, .int (nI n)]) (rest := []) S hT hlocks hout (c_X2_requireIndex l hlt (V := (aq_ug V 0 Q)) i (nI n)) (va_cwS 2 S.2.2.2.2 gX2_requireArch_X2_requireIndex rfl rfl rfl (by decide +kernel) ⟨Nat.le_of_ble_eq_true rfl, Nat.le_of_ble_eq_true rfl⟩)  I hl.1 dX2_requireArch_8 rfl rfl (Nat.le_of_ble_eq_true rfl) ⟨by decide, by decide⟩ ⟨by decide, by decide⟩ (fun hz => by simp [aq_seq, hz]) (fun hκ1 H locs I => ?_)
  exact aq_xvret S.1 S.2.1 hr hlocks I dX2_requireArch_11 (by decide) (by decide) (by simp [aq_seq, hκ1]) (by subst_vars; rfl)
set_option maxHeartbeats 4000000 in
set_option maxRecDepth 100000 in
/-- X2_setHour -/
theorem c_X2_setHour (l : Launch) (hlt : l.stackTraces = false) {D : va_G} {ad : Nat → Nat} {cI cQ : ClassId} (hJ : aq_J 49 ad) {V : aq_V} {T : aq_Q} {t : Nat} (ht : t < 2) (h w : Int32) : aq_MetX l yX2_setHour wsX2_setHour ({ frames := 7, cells := 2, slots := 12, locals := 112 }) D (aC_t cI cQ) 49 ad [.ref (ad (1 + t)), .int h, .int w] (aC_w ad cI cQ (aq_ug V 2 T)) (aq_setK h w) (aq_QiX D (aC_t cI cQ) 49 ad (aq_setK h w) (T t h.toNatClampNeg) (aC_w ad cI cQ (aq_ug V 2 (aq_setT T t h w)))) 2 12 := by
  refine aq_enterX (cc := cX2_setHour) (maxL := 4) (ret := some .int) (by decide) rfl (Nat.le_of_ble_eq_true rfl) ?_
  intro p e s m below meth c ls S hr hlocks hout hT I hl
  have S : CallFix p m c cX2_setHour 4 s _ wsX2_setHour RX2 := S
  have hl : lv_has ls 4 [(0, .ref (ad (1 + t))), (1, .int h), (2, .int w)] := hl
  refine lv_iload_n S.1 S.2.1 dX2_setHour_0 rfl (lv_at hl 1 rfl) ?_
  refine lv_bipush (v := 24) S.1 S.2.1 dX2_setHour_1 (by decide) ?_
  refine aq_xcallSv (κ1 := aq_ixK h 24) (As := [.int h, .int 24]) (rest := []) S hT hlocks hout (c_X2_requireIndex l hlt (V := (aq_ug V 2 T)) h 24) (va_cwS 2 S.2.2.2.2 gX2_setHour_X2_requireIndex rfl rfl rfl (by decide +kernel) ⟨Nat.le_of_ble_eq_true rfl, Nat.le_of_ble_eq_true rfl⟩)  I hl.1 dX2_setHour_3 rfl rfl (Nat.le_of_ble_eq_true rfl) ⟨by decide, by decide⟩ ⟨by decide, by decide⟩ (fun hz => by simp [aq_setK, aq_seq, hz]) (fun hκ1 H locs I => ?_)
  obtain ⟨k1, hk1, ek1⟩ := aq_ixK_ok (e := 24) (by omega) (show aq_ixK h (nI 24) = 0 from hκ1)
  subst ek1
  have nk1 : (nI k1).toNatClampNeg = k1 := nI_clamp (by omega)
  refine lv_iload_n S.1 S.2.1 dX2_setHour_6 rfl (lv_at hl 2 rfl) ?_
  refine lv_iconst (v := 0) S.1 S.2.1 dX2_setHour_7 (by decide) ?_
  refine lv_bipush (v := 40) S.1 S.2.1 dX2_setHour_8 (by decide) ?_
  refine aq_xcallSv (κ1 := aq_rgK w 0 40) (As := [.int w, .int 0, .int 40]) (rest := []) S hT hlocks hout (c_X2_requireRange l hlt (V := (aq_ug V 2 T)) w 0 40) (va_cwS 3 S.2.2.2.2 gX2_setHour_X2_requireRange rfl rfl rfl (by decide +kernel) ⟨Nat.le_of_ble_eq_true rfl, Nat.le_of_ble_eq_true rfl⟩)  I hl.1 dX2_setHour_10 rfl rfl (Nat.le_of_ble_eq_true rfl) ⟨by decide, by decide⟩ ⟨by decide, by decide⟩ (fun hz => by simp [aq_setK, aq_seq, hκ1, nk1, hz]) (fun hκ2 H locs I => ?_)
  refine lv_aload_n S.1 S.2.1 dX2_setHour_13 rfl (lv_at hl 0 rfl) ?_
  refine lv_iload_n S.1 S.2.1 dX2_setHour_14 rfl (lv_at hl 1 rfl) ?_
  refine aC_tl0 (t := t) (k := k1) (x := T t k1) S I ht rfl (by omega) (by rw [aq_ug_s]) dX2_setHour_15 ?_
  refine lv_istore_n (lv' := [(3, .int (T t k1)), (0, .ref (ad (1 + t))), (1, .int (nI k1)), (2, .int w)]) S.1 S.2.1 dX2_setHour_16 rfl hl (by decide) rfl (fun ls hl => ?_)
  refine lv_aload_n S.1 S.2.1 dX2_setHour_17 rfl (lv_at hl 1 rfl) ?_
  refine lv_iload_n S.1 S.2.1 dX2_setHour_18 rfl (lv_at hl 2 rfl) ?_
  refine lv_iload_n S.1 S.2.1 dX2_setHour_19 rfl (lv_at hl 3 rfl) ?_
  refine aC_tst (V := V) (T := T) (t := t) (k := k1) (x := w) hJ S I ht rfl (by omega) dX2_setHour_20 (fun H locs M2 hM2 I => ?_)
  refine lv_iload_n S.1 S.2.1 dX2_setHour_21 rfl (lv_at hl 0 rfl) ?_
  exact aq_xiret S.1 S.2.1 hr hlocks I dX2_setHour_22 (by decide) (by decide) (by simp [aq_setK, aq_seq, hκ1, hκ2, nk1]) (by subst_vars; first | rfl | (simp only [aq_setT, nk1]; done) | (simp only [aq_setT, nk1]; rfl)) (by subst_vars; first | rfl | (simp only [aq_setT, nk1]; done) | (simp only [aq_setT, nk1]; rfl))
theorem in_X2_setSpring_X0 : ∀ w ∈ wsX00, w ∈ wsX2_setSpring := fun _ h => List.mem_cons_of_mem _ (List.mem_append_left _ (List.mem_append_left _ (List.mem_append_right _ h)))
theorem in_X2_setSpring_X2 : ∀ w ∈ wsX20, w ∈ wsX2_setSpring := fun _ h => List.mem_cons_of_mem _ (List.mem_append_left _ (List.mem_append_left _ (List.mem_append_left _ (List.mem_append_right _ h))))
set_option maxHeartbeats 4000000 in
set_option maxRecDepth 100000 in
/-- X2_setSpring -/
theorem c_X2_setSpring (l : Launch) (hlt : l.stackTraces = false) {D : va_G} {ad : Nat → Nat} {cI cQ : ClassId} (hJ : aq_J 49 ad) {V : aq_V} {T : aq_Q} (h w : Int32) : aq_MetX l yX2_setSpring wsX2_setSpring ({ frames := 8, cells := 2, slots := 12, locals := 135 }) D (aC_t cI cQ) 49 ad [.ref (ad 0), .int h, .int w] (aC_w ad cI cQ (aq_ug V 2 T)) (aq_setK h w) (aq_QiX D (aC_t cI cQ) 49 ad (aq_setK h w) (T 0 h.toNatClampNeg) (aC_w ad cI cQ (aq_ug V 2 (aq_setT T 0 h w)))) 2 12 := by
  refine aq_enterX (cc := cX2_setSpring) (maxL := 3) (ret := some .int) (by decide) rfl (Nat.le_of_ble_eq_true rfl) ?_
  intro p e s m below meth c ls S hr hlocks hout hT I hl
  have S : CallFix p m c cX2_setSpring 3 s _ wsX2_setSpring RX2 := S
  have hl : lv_has ls 3 [(0, .ref (ad 0)), (1, .int h), (2, .int w)] := hl
  refine lv_aload_n S.1 S.2.1 dX2_setSpring_0 rfl (lv_at hl 0 rfl) ?_
  refine aC_getX S I 0 (by decide) in_X2_setSpring_X2 (List.mem_of_getElem? (i := 1) rfl) dX2_setSpring_1 ?_
  refine aC_getT (j := 0) S I (by decide) 0 (by decide) in_X2_setSpring_X0 (List.mem_of_getElem? (i := 2) rfl) dX2_setSpring_4 ?_
  refine lv_iload_n S.1 S.2.1 dX2_setSpring_7 rfl (lv_at hl 1 rfl) ?_
  refine lv_iload_n S.1 S.2.1 dX2_setSpring_8 rfl (lv_at hl 2 rfl) ?_
  refine aq_xcallSi (κ1 := aq_setK h w) (As := [.ref (ad (1 + 0 + 46 * 0)), .int h, .int w]) (rest := []) S hT hlocks hout (c_X2_setHour l hlt hJ (V := V) (T := T) (t := 0) (by decide) h w) (va_cwS 3 S.2.2.2.2 gX2_setSpring_X2_setHour rfl rfl rfl (by decide +kernel) ⟨Nat.le_of_ble_eq_true rfl, Nat.le_of_ble_eq_true rfl⟩)  I hl.1 dX2_setSpring_9 rfl rfl (Nat.le_of_ble_eq_true rfl) ⟨by decide, by decide⟩ ⟨by decide, by decide⟩ (fun hz => by simp [aq_seq, hz]) (fun hκ1 H locs I => ?_)
  obtain ⟨M1, hM1⟩ : ∃ z9 : aq_Q, z9 = aq_setT T 0 h w := ⟨_, rfl⟩
  rw [← hM1] at I
  exact aq_xiret S.1 S.2.1 hr hlocks I dX2_setSpring_12 (by decide) (by decide) (by simp [aq_seq, hκ1]) (by subst_vars; rfl) (by subst_vars; rfl)
theorem in_X2_setCity_X0 : ∀ w ∈ wsX00, w ∈ wsX2_setCity := fun _ h => List.mem_cons_of_mem _ (List.mem_append_left _ (List.mem_append_left _ (List.mem_append_right _ h)))
theorem in_X2_setCity_X2 : ∀ w ∈ wsX20, w ∈ wsX2_setCity := fun _ h => List.mem_cons_of_mem _ (List.mem_append_left _ (List.mem_append_left _ (List.mem_append_left _ (List.mem_append_right _ h))))
set_option maxHeartbeats 4000000 in
set_option maxRecDepth 100000 in
/-- X2_setCity -/
theorem c_X2_setCity (l : Launch) (hlt : l.stackTraces = false) {D : va_G} {ad : Nat → Nat} {cI cQ : ClassId} (hJ : aq_J 49 ad) {V : aq_V} {T : aq_Q} (h w : Int32) : aq_MetX l yX2_setCity wsX2_setCity ({ frames := 8, cells := 2, slots := 12, locals := 135 }) D (aC_t cI cQ) 49 ad [.ref (ad 0), .int h, .int w] (aC_w ad cI cQ (aq_ug V 2 T)) (aq_setK h w) (aq_QiX D (aC_t cI cQ) 49 ad (aq_setK h w) (T 1 h.toNatClampNeg) (aC_w ad cI cQ (aq_ug V 2 (aq_setT T 1 h w)))) 2 12 := by
  refine aq_enterX (cc := cX2_setCity) (maxL := 3) (ret := some .int) (by decide) rfl (Nat.le_of_ble_eq_true rfl) ?_
  intro p e s m below meth c ls S hr hlocks hout hT I hl
  have S : CallFix p m c cX2_setCity 3 s _ wsX2_setCity RX2 := S
  have hl : lv_has ls 3 [(0, .ref (ad 0)), (1, .int h), (2, .int w)] := hl
  refine lv_aload_n S.1 S.2.1 dX2_setCity_0 rfl (lv_at hl 0 rfl) ?_
  refine aC_getX S I 0 (by decide) in_X2_setCity_X2 (List.mem_of_getElem? (i := 1) rfl) dX2_setCity_1 ?_
  refine aC_getT (j := 0) S I (by decide) 1 (by decide) in_X2_setCity_X0 (List.mem_of_getElem? (i := 2) rfl) dX2_setCity_4 ?_
  refine lv_iload_n S.1 S.2.1 dX2_setCity_7 rfl (lv_at hl 1 rfl) ?_
  refine lv_iload_n S.1 S.2.1 dX2_setCity_8 rfl (lv_at hl 2 rfl) ?_
  refine aq_xcallSi (κ1 := aq_setK h w) (As := [.ref (ad (1 + 1 + 46 * 0)), .int h, .int w]) (rest := []) S hT hlocks hout (c_X2_setHour l hlt hJ (V := V) (T := T) (t := 1) (by decide) h w) (va_cwS 3 S.2.2.2.2 gX2_setCity_X2_setHour rfl rfl rfl (by decide +kernel) ⟨Nat.le_of_ble_eq_true rfl, Nat.le_of_ble_eq_true rfl⟩)  I hl.1 dX2_setCity_9 rfl rfl (Nat.le_of_ble_eq_true rfl) ⟨by decide, by decide⟩ ⟨by decide, by decide⟩ (fun hz => by simp [aq_seq, hz]) (fun hκ1 H locs I => ?_)
  obtain ⟨M1, hM1⟩ : ∃ z9 : aq_Q, z9 = aq_setT T 1 h w := ⟨_, rfl⟩
  rw [← hM1] at I
  exact aq_xiret S.1 S.2.1 hr hlocks I dX2_setCity_12 (by decide) (by decide) (by simp [aq_seq, hκ1]) (by subst_vars; rfl) (by subst_vars; rfl)
theorem in_X2_build_X0 : ∀ w ∈ wsX00, w ∈ wsX2_build := fun _ h => List.mem_cons_of_mem _ (List.mem_append_left _ (List.mem_append_left _ (List.mem_append_left _ (List.mem_append_right _ h))))
theorem in_X2_build_X2 : ∀ w ∈ wsX20, w ∈ wsX2_build := fun _ h => List.mem_cons_of_mem _ (List.mem_append_left _ (List.mem_append_left _ (List.mem_append_left _ (List.mem_append_left _ (List.mem_append_right _ h)))))
set_option maxHeartbeats 4000000 in
set_option maxRecDepth 100000 in
/-- X2_build -/
theorem c_X2_build (l : Launch) (hlt : l.stackTraces = false) {D : va_G} {ad : Nat → Nat} {cI cQ : ClassId} (hJ : aq_J 49 ad) {V : aq_V} {Q : aq_Q} {n : Nat} (hn : Q 10 3 = nI n) (hn20 : n ≤ 20) (h z : Int32) : aq_MetX l yX2_build wsX2_build ({ frames := 7, cells := 3, slots := 18, locals := 112 }) D (aC_t cI cQ) 49 ad [.ref (ad 0), .int h, .int z] (aC_w ad cI cQ (aq_ug V 0 Q)) (aq_buildK n Q h z) (aq_QiX D (aC_t cI cQ) 49 ad (aq_buildK n Q h z) (nI n) (aC_w ad cI cQ (aq_ug V 0 (aq_addQ n Q h z)))) 3 18 := by
  refine aq_enterX (cc := cX2_build) (maxL := 3) (ret := some .int) (by decide) rfl (Nat.le_of_ble_eq_true rfl) ?_
  intro p e s m below meth c ls S hr hlocks hout hT I hl
  have S : CallFix p m c cX2_build 3 s _ wsX2_build RX2 := S
  have hl : lv_has ls 3 [(0, .ref (ad 0)), (1, .int h), (2, .int z)] := hl
  refine lv_iload_n S.1 S.2.1 dX2_build_0 rfl (lv_at hl 1 rfl) ?_
  refine lv_iconst (v := 0) S.1 S.2.1 dX2_build_1 (by decide) ?_
  refine lv_aload_n S.1 S.2.1 dX2_build_2 rfl (lv_at hl 0 rfl) ?_
  refine aC_getX S I 0 (by decide) in_X2_build_X2 (List.mem_of_getElem? (i := 3) rfl) dX2_build_3 ?_
  refine aq_callVi (As := []) (rest := [.int 0, .int h]) S (c_X0_mostHeightOfNext l hJ (V := V) (Q := Q) (j := 0) (by decide) hn hn20  ) (cwV 0 S.2.2.2.2 gX2_build_X0_mostHeightOfNext rfl rfl rfl (by decide +kernel) ⟨Nat.le_of_ble_eq_true rfl, Nat.le_of_ble_eq_true rfl⟩) (aC_recvS (j := 0) I (by decide)) I hl.1 dX2_build_6 rfl rfl (Nat.le_of_ble_eq_true rfl) ⟨by first | decide | (dsimp only; omega), by first | decide | (dsimp only; omega)⟩ (fun H locs I => ?_)
  refine aq_xcallSv (κ1 := aq_rgK h 0 (aq_top n Q)) (As := [.int h, .int 0, .int (aq_top n Q)]) (rest := []) S hT hlocks hout (c_X2_requireRange l hlt (V := (aq_ug V 0 Q)) h 0 (aq_top n Q)) (va_cwS 3 S.2.2.2.2 gX2_build_X2_requireRange rfl rfl rfl (by decide +kernel) ⟨Nat.le_of_ble_eq_true rfl, Nat.le_of_ble_eq_true rfl⟩)  I hl.1 dX2_build_9 rfl rfl (Nat.le_of_ble_eq_true rfl) ⟨by decide, by decide⟩ ⟨by decide, by decide⟩ (fun hz => by simp [aq_buildK, aq_seq, hz]) (fun hκ1 H locs I => ?_)
  refine lv_iload_n S.1 S.2.1 dX2_build_12 rfl (lv_at hl 2 rfl) ?_
  refine lv_iconst (v := 1) S.1 S.2.1 dX2_build_13 (by decide) ?_
  refine lv_bipush (v := 40) S.1 S.2.1 dX2_build_14 (by decide) ?_
  refine aq_xcallSv (κ1 := aq_rgK z 1 40) (As := [.int z, .int 1, .int 40]) (rest := []) S hT hlocks hout (c_X2_requireRange l hlt (V := (aq_ug V 0 Q)) z 1 40) (va_cwS 3 S.2.2.2.2 gX2_build_X2_requireRange rfl rfl rfl (by decide +kernel) ⟨Nat.le_of_ble_eq_true rfl, Nat.le_of_ble_eq_true rfl⟩)  I hl.1 dX2_build_16 rfl rfl (Nat.le_of_ble_eq_true rfl) ⟨by decide, by decide⟩ ⟨by decide, by decide⟩ (fun hz => by simp [aq_buildK, aq_seq, hκ1, hz]) (fun hκ2 H locs I => ?_)
  refine lv_aload_n S.1 S.2.1 dX2_build_19 rfl (lv_at hl 0 rfl) ?_
  refine aC_getX S I 0 (by decide) in_X2_build_X2 (List.mem_of_getElem? (i := 3) rfl) dX2_build_20 ?_
  refine aC_getS (j := 0) (x := nI n) S I (by decide) 3 (by decide) (by decide) in_X2_build_X0 (List.mem_of_getElem? (i := 4) rfl) (by rw [aq_ug_s]; exact hn) dX2_build_23 ?_
  refine lv_bipush (v := 20) S.1 S.2.1 dX2_build_26 (by decide) ?_
  refine lv_icmp_lt (tgt := 41) S.1 S.2.1 dX2_build_28 (by decide) (fun c1 => ?_) (fun c1 => ?_)
  · have c1 : n < 20 := (nI_ltI (a := n) (b := 20) (by omega) (by omega)).mp c1
    refine lv_aload_n S.1 S.2.1 dX2_build_41 rfl (lv_at hl 0 rfl) ?_
    refine aC_getX S I 0 (by decide) in_X2_build_X2 (List.mem_of_getElem? (i := 3) rfl) dX2_build_42 ?_
    refine lv_iload_n S.1 S.2.1 dX2_build_45 rfl (lv_at hl 1 rfl) ?_
    refine lv_iload_n S.1 S.2.1 dX2_build_46 rfl (lv_at hl 2 rfl) ?_
    refine aq_callVi (As := [.int h, .int z]) (rest := []) S (c_X0_addArch l hJ (V := V) (Q := Q) (j := 0) (by decide) hn (by omega) h z ) (cwV 2 S.2.2.2.2 gX2_build_X0_addArch rfl rfl rfl (by decide +kernel) ⟨Nat.le_of_ble_eq_true rfl, Nat.le_of_ble_eq_true rfl⟩) (aC_recvS (j := 0) I (by decide)) I hl.1 dX2_build_47 rfl rfl (Nat.le_of_ble_eq_true rfl) ⟨by first | decide | (dsimp only; omega), by first | decide | (dsimp only; omega)⟩ (fun H locs I => ?_)
    obtain ⟨M2, hM2⟩ : ∃ z9 : aq_Q, z9 = aq_addQ n Q h z := ⟨_, rfl⟩
    rw [← hM2] at I
    exact aq_xiret S.1 S.2.1 hr hlocks I dX2_build_50 (by decide) (by decide) (by simp [aq_buildK, aq_seq, hκ1, hκ2, c1]) (by subst_vars; first | rfl | (simp only [if_pos c1]; done) | (simp only [if_pos c1]; rfl)) (by subst_vars; first | rfl | (simp only [if_pos c1]; done) | (simp only [if_pos c1]; rfl))
  · have c1 : 20 ≤ n := Nat.le_of_not_lt (fun z9 => c1 ((nI_ltI (a := n) (b := 20) (by omega) (by omega)).mpr z9))
    obtain ⟨sa, hsa⟩ := hT.2.2.2.1
    have hκ9 : aq_buildK n Q h z = 3 := (by simp [aq_buildK, aq_seq, hκ1, hκ2, c1])
    exact aq_throw (cls := "java/lang/IllegalStateException") (text := "there are as many arches as there can be") (sa := sa) S hlt hT hlocks hout I hl.1 (by decide +kernel) (List.mem_of_getElem? (i := 1) rfl) (List.mem_of_getElem? (i := 2) rfl) hsa (fun _ h => List.mem_cons_of_mem _ (List.mem_append_left _ (List.mem_append_right _ h))) aq_bad3 (aq_badB3 hT) aq_ot3 dX2_build_31 dX2_build_34 dX2_build_35 dX2_build_37 dX2_build_40 (by decide) (Nat.le_of_ble_eq_true rfl) (by decide) (by decide) (by decide) (by decide) ⟨by rw [hκ9]; decide, by rw [hκ9]; rfl⟩
theorem in_X2_setCistern_X2 : ∀ w ∈ wsX20, w ∈ wsX2_setCistern := fun _ h => List.mem_cons_of_mem _ (List.mem_append_left _ (List.mem_append_left _ (List.mem_append_right _ h)))
set_option maxHeartbeats 4000000 in
set_option maxRecDepth 100000 in
/-- X2_setCistern -/
theorem c_X2_setCistern (l : Launch) (hlt : l.stackTraces = false) {D : va_G} {ad : Nat → Nat} {cI cQ : ClassId} (hJ : aq_J 49 ad) {V : aq_V} {Q : aq_Q} (o : Int32) : aq_MetX l yX2_setCistern wsX2_setCistern ({ frames := 7, cells := 1, slots := 6, locals := 112 }) D (aC_t cI cQ) 49 ad [.ref (ad 0), .int o] (aC_w ad cI cQ (aq_ug V 0 Q)) (aq_rgK o 0 500) (aq_QiX D (aC_t cI cQ) 49 ad (aq_rgK o 0 500) (aq_sizeR Q o) (aC_w ad cI cQ (aq_ug V 0 (aq_sizeQ Q o)))) 1 6 := by
  refine aq_enterX (cc := cX2_setCistern) (maxL := 2) (ret := some .int) (by decide) rfl (Nat.le_of_ble_eq_true rfl) ?_
  intro p e s m below meth c ls S hr hlocks hout hT I hl
  have S : CallFix p m c cX2_setCistern 2 s _ wsX2_setCistern RX2 := S
  have hl : lv_has ls 2 [(0, .ref (ad 0)), (1, .int o)] := hl
  refine lv_iload_n S.1 S.2.1 dX2_setCistern_0 rfl (lv_at hl 1 rfl) ?_
  refine lv_iconst (v := 0) S.1 S.2.1 dX2_setCistern_1 (by decide) ?_
  refine lv_sipush (v := 500) S.1 S.2.1 dX2_setCistern_2 (by decide) ?_
  refine aq_xcallSv (κ1 := aq_rgK o 0 500) (As := [.int o, .int 0, .int 500]) (rest := []) S hT hlocks hout (c_X2_requireRange l hlt (V := (aq_ug V 0 Q)) o 0 500) (va_cwS 3 S.2.2.2.2 gX2_setCistern_X2_requireRange rfl rfl rfl (by decide +kernel) ⟨Nat.le_of_ble_eq_true rfl, Nat.le_of_ble_eq_true rfl⟩)  I hl.1 dX2_setCistern_5 rfl rfl (Nat.le_of_ble_eq_true rfl) ⟨by decide, by decide⟩ ⟨by decide, by decide⟩ (fun hz => by simp [aq_seq, hz]) (fun hκ1 H locs I => ?_)
  refine lv_aload_n S.1 S.2.1 dX2_setCistern_8 rfl (lv_at hl 0 rfl) ?_
  refine aC_getX S I 0 (by decide) in_X2_setCistern_X2 (List.mem_of_getElem? (i := 1) rfl) dX2_setCistern_9 ?_
  refine lv_iload_n S.1 S.2.1 dX2_setCistern_12 rfl (lv_at hl 1 rfl) ?_
  refine aq_callVi (As := [.int o]) (rest := []) S (c_X0_resizeCistern l hJ (V := V) (Q := Q) (j := 0) (by decide)  o ) (cwV 1 S.2.2.2.2 gX2_setCistern_X0_resizeCistern rfl rfl rfl (by decide +kernel) ⟨Nat.le_of_ble_eq_true rfl, Nat.le_of_ble_eq_true rfl⟩) (aC_recvS (j := 0) I (by decide)) I hl.1 dX2_setCistern_13 rfl rfl (Nat.le_of_ble_eq_true rfl) ⟨by first | decide | (dsimp only; omega), by first | decide | (dsimp only; omega)⟩ (fun H locs I => ?_)
  obtain ⟨M1, hM1⟩ : ∃ z9 : aq_Q, z9 = aq_sizeQ Q o := ⟨_, rfl⟩
  rw [← hM1] at I
  exact aq_xiret S.1 S.2.1 hr hlocks I dX2_setCistern_16 (by decide) (by decide) (by simp [aq_seq, hκ1]) (by subst_vars; rfl) (by subst_vars; rfl)
theorem in_X2_arch_X2 : ∀ w ∈ wsX20, w ∈ wsX2_arch := fun _ h => List.mem_cons_of_mem _ (List.mem_append_left _ (List.mem_append_left _ (List.mem_append_left _ (List.mem_append_right _ h))))
set_option maxHeartbeats 4000000 in
set_option maxRecDepth 100000 in
/-- X2_arch -/
theorem c_X2_arch (l : Launch) (hlt : l.stackTraces = false) {D : va_G} {ad : Nat → Nat} {cI cQ : ClassId} (hJ : aq_J 49 ad) {V : aq_V} {Q : aq_Q} {n : Nat} (hn : Q 10 3 = nI n) (hn20 : n ≤ 20) (a w : Int32) : aq_MetX l yX2_arch wsX2_arch ({ frames := 8, cells := 2, slots := 12, locals := 132 }) D (aC_t cI cQ) 49 ad [.ref (ad 0), .int a, .int w] (aC_w ad cI cQ (aq_ug V 0 Q)) (aq_archK n a w) (aq_QiX D (aC_t cI cQ) 49 ad (aq_archK n a w) (aq_archNo n Q a.toNatClampNeg w.toNatClampNeg) (aC_w ad cI cQ (aq_ug V 0 Q))) 2 12 := by
  refine aq_enterX (cc := cX2_arch) (maxL := 3) (ret := some .int) (by decide) rfl (Nat.le_of_ble_eq_true rfl) ?_
  intro p e s m below meth c ls S hr hlocks hout hT I hl
  have S : CallFix p m c cX2_arch 3 s _ wsX2_arch RX2 := S
  have hl : lv_has ls 3 [(0, .ref (ad 0)), (1, .int a), (2, .int w)] := hl
  refine lv_aload_n S.1 S.2.1 dX2_arch_0 rfl (lv_at hl 0 rfl) ?_
  refine lv_iload_n S.1 S.2.1 dX2_arch_1 rfl (lv_at hl 1 rfl) ?_
  refine aq_xcallVv (κ1 := aq_ixK a (nI n)) (As := [.int a]) (rest := []) S hT hlocks hout (c_X2_requireArch l hlt hJ (V := V) (Q := Q) (n := n) hn hn20 a) (cwV 1 S.2.2.2.2 gX2_arch_X2_requireArch rfl rfl rfl (by decide +kernel) ⟨Nat.le_of_ble_eq_true rfl, Nat.le_of_ble_eq_true rfl⟩) (aC_recvX I) I hl.1 dX2_arch_2 rfl rfl (Nat.le_of_ble_eq_true rfl) ⟨by decide, by decide⟩ ⟨by decide, by decide⟩ (fun hz => by simp [aq_archK, aq_seq, hz]) (fun hκ1 H locs I => ?_)
  obtain ⟨k1, hk1, ek1⟩ := aq_ixK_ok (e := n) (by omega) (show aq_ixK a (nI n) = 0 from hκ1)
  subst ek1
  have nk1 : (nI k1).toNatClampNeg = k1 := nI_clamp (by omega)
  refine lv_iload_n S.1 S.2.1 dX2_arch_5 rfl (lv_at hl 2 rfl) ?_
  refine lv_bipush (v := 9) S.1 S.2.1 dX2_arch_6 (by decide) ?_
  refine aq_xcallSv (κ1 := aq_ixK w 9) (As := [.int w, .int 9]) (rest := []) S hT hlocks hout (c_X2_requireIndex l hlt (V := (aq_ug V 0 Q)) w 9) (va_cwS 2 S.2.2.2.2 gX2_arch_X2_requireIndex rfl rfl rfl (by decide +kernel) ⟨Nat.le_of_ble_eq_true rfl, Nat.le_of_ble_eq_true rfl⟩)  I hl.1 dX2_arch_8 rfl rfl (Nat.le_of_ble_eq_true rfl) ⟨by decide, by decide⟩ ⟨by decide, by decide⟩ (fun hz => by simp [aq_archK, aq_seq, hκ1, nk1, hz]) (fun hκ2 H locs I => ?_)
  obtain ⟨k2, hk2, ek2⟩ := aq_ixK_ok (e := 9) (by omega) (show aq_ixK w (nI 9) = 0 from hκ2)
  subst ek2
  have nk2 : (nI k2).toNatClampNeg = k2 := nI_clamp (by omega)
  refine lv_aload_n S.1 S.2.1 dX2_arch_11 rfl (lv_at hl 0 rfl) ?_
  refine aC_getX S I 0 (by decide) in_X2_arch_X2 (List.mem_of_getElem? (i := 1) rfl) dX2_arch_12 ?_
  refine lv_iload_n S.1 S.2.1 dX2_arch_15 rfl (lv_at hl 1 rfl) ?_
  refine lv_iload_n S.1 S.2.1 dX2_arch_16 rfl (lv_at hl 2 rfl) ?_
  refine aq_callVi (As := [.int (nI k1), .int (nI k2)]) (rest := []) S (c_X0_archNumber l hJ (V := V) (Q := Q) (j := 0) (by decide) hn hn20 (a := k1) (by omega) (w := k2) (by omega) ) (cwV 2 S.2.2.2.2 gX2_arch_X0_archNumber rfl rfl rfl (by decide +kernel) ⟨Nat.le_of_ble_eq_true rfl, Nat.le_of_ble_eq_true rfl⟩) (aC_recvS (j := 0) I (by decide)) I hl.1 dX2_arch_17 rfl rfl (Nat.le_of_ble_eq_true rfl) ⟨by first | decide | (dsimp only; omega), by first | decide | (dsimp only; omega)⟩ (fun H locs I => ?_)
  exact aq_xiret S.1 S.2.1 hr hlocks I dX2_arch_20 (by decide) (by decide) (by simp [aq_archK, aq_seq, hκ1, hκ2, nk1, nk2]) (by subst_vars; first | rfl | (simp only [nk1, nk2]; done) | (simp only [nk1, nk2]; rfl)) (by subst_vars; first | rfl | (simp only [nk1, nk2]; done) | (simp only [nk1, nk2]; rfl))
theorem in_X2_addMill_X1 : ∀ w ∈ wsX10, w ∈ wsX2_addMill := fun _ h => List.mem_cons_of_mem _ (List.mem_append_left _ (List.mem_append_left _ (List.mem_append_left _ (List.mem_append_left _ (List.mem_append_right _ h)))))
theorem in_X2_addMill_X2 : ∀ w ∈ wsX20, w ∈ wsX2_addMill := fun _ h => List.mem_cons_of_mem _ (List.mem_append_left _ (List.mem_append_left _ (List.mem_append_left _ (List.mem_append_left _ (List.mem_append_left _ (List.mem_append_right _ h))))))
set_option maxHeartbeats 4000000 in
set_option maxRecDepth 100000 in
/-- X2_addMill -/
theorem c_X2_addMill (l : Launch) (hlt : l.stackTraces = false) {D : va_G} {ad : Nat → Nat} {cI cQ : ClassId} (hJ : aq_J 49 ad) {V : aq_V} {Q : aq_Q} {n : Nat} (hn : Q 10 3 = nI n) (hn20 : n ≤ 20) (a x : Int32) : aq_MetX l yX2_addMill wsX2_addMill ({ frames := 8, cells := 3, slots := 18, locals := 132 }) D (aC_t cI cQ) 49 ad [.ref (ad 0), .int a, .int x] (aC_w ad cI cQ (aq_ug V 0 Q)) (aq_addMK n Q a x) (aq_QiX D (aC_t cI cQ) 49 ad (aq_addMK n Q a x) (aq_mills n (aq_addMQ Q a x)) (aC_w ad cI cQ (aq_ug V 0 (aq_addMQ Q a x)))) 3 18 := by
  refine aq_enterX (cc := cX2_addMill) (maxL := 4) (ret := some .int) (by decide) rfl (Nat.le_of_ble_eq_true rfl) ?_
  intro p e s m below meth c ls S hr hlocks hout hT I hl
  have S : CallFix p m c cX2_addMill 4 s _ wsX2_addMill RX2 := S
  have hl : lv_has ls 4 [(0, .ref (ad 0)), (1, .int a), (2, .int x)] := hl
  refine lv_aload_n S.1 S.2.1 dX2_addMill_0 rfl (lv_at hl 0 rfl) ?_
  refine lv_iload_n S.1 S.2.1 dX2_addMill_1 rfl (lv_at hl 1 rfl) ?_
  refine aq_xcallVv (κ1 := aq_ixK a (nI n)) (As := [.int a]) (rest := []) S hT hlocks hout (c_X2_requireArch l hlt hJ (V := V) (Q := Q) (n := n) hn hn20 a) (cwV 1 S.2.2.2.2 gX2_addMill_X2_requireArch rfl rfl rfl (by decide +kernel) ⟨Nat.le_of_ble_eq_true rfl, Nat.le_of_ble_eq_true rfl⟩) (aC_recvX I) I hl.1 dX2_addMill_2 rfl rfl (Nat.le_of_ble_eq_true rfl) ⟨by decide, by decide⟩ ⟨by decide, by decide⟩ (fun hz => by simp [aq_addMK, aq_seq, hz]) (fun hκ1 H locs I => ?_)
  obtain ⟨k1, hk1, ek1⟩ := aq_ixK_ok (e := n) (by omega) (show aq_ixK a (nI n) = 0 from hκ1)
  subst ek1
  have nk1 : (nI k1).toNatClampNeg = k1 := nI_clamp (by omega)
  refine lv_iload_n S.1 S.2.1 dX2_addMill_5 rfl (lv_at hl 2 rfl) ?_
  refine lv_iconst (v := 1) S.1 S.2.1 dX2_addMill_6 (by decide) ?_
  refine lv_bipush (v := 30) S.1 S.2.1 dX2_addMill_7 (by decide) ?_
  refine aq_xcallSv (κ1 := aq_rgK x 1 30) (As := [.int x, .int 1, .int 30]) (rest := []) S hT hlocks hout (c_X2_requireRange l hlt (V := (aq_ug V 0 Q)) x 1 30) (va_cwS 3 S.2.2.2.2 gX2_addMill_X2_requireRange rfl rfl rfl (by decide +kernel) ⟨Nat.le_of_ble_eq_true rfl, Nat.le_of_ble_eq_true rfl⟩)  I hl.1 dX2_addMill_9 rfl rfl (Nat.le_of_ble_eq_true rfl) ⟨by decide, by decide⟩ ⟨by decide, by decide⟩ (fun hz => by simp [aq_addMK, aq_seq, hκ1, nk1, hz]) (fun hκ2 H locs I => ?_)
  refine lv_aload_n S.1 S.2.1 dX2_addMill_12 rfl (lv_at hl 0 rfl) ?_
  refine aC_getX S I 0 (by decide) in_X2_addMill_X2 (List.mem_of_getElem? (i := 3) rfl) dX2_addMill_13 ?_
  refine lv_iload_n S.1 S.2.1 dX2_addMill_16 rfl (lv_at hl 1 rfl) ?_
  refine aq_callVr (As := [.int (nI k1)]) (rest := []) S (c_X0_archAt l hJ (V := V) (Q := Q) (j := 0) (by decide)  (a := k1) (by omega) ) (cwV 1 S.2.2.2.2 gX2_addMill_X0_archAt rfl rfl rfl (by decide +kernel) ⟨Nat.le_of_ble_eq_true rfl, Nat.le_of_ble_eq_true rfl⟩) (aC_recvS (j := 0) I (by decide)) I hl.1 dX2_addMill_17 rfl rfl (Nat.le_of_ble_eq_true rfl) ⟨by first | decide | (dsimp only; omega), by first | decide | (dsimp only; omega)⟩ (fun H locs I => ?_)
  refine lv_astore_n (lv' := [(3, .ref (ad (7 + 20 * 0 + k1))), (0, .ref (ad 0)), (1, .int (nI k1)), (2, .int x)]) S.1 S.2.1 dX2_addMill_20 rfl hl (by decide) rfl (fun ls hl => ?_)
  refine lv_aload_n S.1 S.2.1 dX2_addMill_21 rfl (lv_at hl 0 rfl) ?_
  refine aq_callVi (As := []) (rest := []) S (c_X1_hasMill l hJ (V := V) (Q := Q) (j := 0) (i := k1) (by decide) (by omega) ) (cwV 0 S.2.2.2.2 gX2_addMill_X1_hasMill rfl rfl rfl (by decide +kernel) ⟨Nat.le_of_ble_eq_true rfl, Nat.le_of_ble_eq_true rfl⟩) (aC_recvA (j := 0) (i := k1) I (by decide) (by omega)) I hl.1 dX2_addMill_22 rfl rfl (Nat.le_of_ble_eq_true rfl) ⟨by first | decide | (dsimp only; omega), by first | decide | (dsimp only; omega)⟩ (fun H locs I => ?_)
  refine lv_if_eq (tgt := 38) S.1 S.2.1 dX2_addMill_25 (by decide) (fun c2 => ?_) (fun c2 => ?_)
  · refine lv_aload_n S.1 S.2.1 dX2_addMill_38 rfl (lv_at hl 0 rfl) ?_
    refine lv_iload_n S.1 S.2.1 dX2_addMill_39 rfl (lv_at hl 3 rfl) ?_
    refine aC_putA (V := V) (Q := Q) (j := 0) (i := k1) (x := x) hJ S I (by decide) (by omega) 6 (by decide) in_X2_addMill_X1 (List.mem_of_getElem? (i := 4) rfl) dX2_addMill_40 (fun H locs M3 hM3 I => ?_)
    refine lv_aload_n S.1 S.2.1 dX2_addMill_43 rfl (lv_at hl 1 rfl) ?_
    refine aC_getX S I 0 (by decide) in_X2_addMill_X2 (List.mem_of_getElem? (i := 3) rfl) dX2_addMill_44 ?_
    have hn_M3 : M3 10 3 = nI n := by rw [hM3]; exact (aq_up_f _ _ (by decide)).trans hn
    refine aq_callVi (As := []) (rest := []) S (c_X0_mills l hJ (V := V) (Q := M3) (j := 0) (by decide) hn_M3 hn20  ) (cwV 0 S.2.2.2.2 gX2_addMill_X0_mills rfl rfl rfl (by decide +kernel) ⟨Nat.le_of_ble_eq_true rfl, Nat.le_of_ble_eq_true rfl⟩) (aC_recvS (j := 0) I (by decide)) I hl.1 dX2_addMill_47 rfl rfl (Nat.le_of_ble_eq_true rfl) ⟨by first | decide | (dsimp only; omega), by first | decide | (dsimp only; omega)⟩ (fun H locs I => ?_)
    exact aq_xiret S.1 S.2.1 hr hlocks I dX2_addMill_50 (by decide) (by decide) (by simp [aq_addMK, aq_seq, hκ1, hκ2, c2, nk1]) (by subst_vars; first | rfl | (simp only [aq_addMQ, nk1, if_pos c2]; done) | (simp only [aq_addMQ, nk1, if_pos c2]; rfl)) (by subst_vars; first | rfl | (simp only [aq_addMQ, nk1, if_pos c2]; done) | (simp only [aq_addMQ, nk1, if_pos c2]; rfl))
  · obtain ⟨sa, hsa⟩ := hT.2.2.2.2.1
    have hκ9 : aq_addMK n Q (nI k1) x = 3 := (by simp [aq_addMK, aq_seq, hκ1, hκ2, c2, nk1])
    exact aq_throw (cls := "java/lang/IllegalStateException") (text := "there is a mill already") (sa := sa) S hlt hT hlocks hout I hl.1 (by decide +kernel) (List.mem_of_getElem? (i := 1) rfl) (List.mem_of_getElem? (i := 2) rfl) hsa (fun _ h => List.mem_cons_of_mem _ (List.mem_append_left _ (List.mem_append_left _ (List.mem_append_right _ h)))) aq_bad3 (aq_badB3 hT) aq_ot3 dX2_addMill_28 dX2_addMill_31 dX2_addMill_32 dX2_addMill_34 dX2_addMill_37 (by decide) (Nat.le_of_ble_eq_true rfl) (by decide) (by decide) (by decide) (by decide) ⟨by rw [hκ9]; decide, by rw [hκ9]; rfl⟩
theorem in_X2_setSluice_X1 : ∀ w ∈ wsX10, w ∈ wsX2_setSluice := fun _ h => List.mem_cons_of_mem _ (List.mem_append_left _ (List.mem_append_left _ (List.mem_append_left _ (List.mem_append_left _ (List.mem_append_right _ h)))))
theorem in_X2_setSluice_X2 : ∀ w ∈ wsX20, w ∈ wsX2_setSluice := fun _ h => List.mem_cons_of_mem _ (List.mem_append_left _ (List.mem_append_left _ (List.mem_append_left _ (List.mem_append_left _ (List.mem_append_left _ (List.mem_append_right _ h))))))
set_option maxHeartbeats 4000000 in
set_option maxRecDepth 100000 in
/-- X2_setSluice -/
theorem c_X2_setSluice (l : Launch) (hlt : l.stackTraces = false) {D : va_G} {ad : Nat → Nat} {cI cQ : ClassId} (hJ : aq_J 49 ad) {V : aq_V} {Q : aq_Q} {n : Nat} (hn : Q 10 3 = nI n) (hn20 : n ≤ 20) (a x : Int32) : aq_MetX l yX2_setSluice wsX2_setSluice ({ frames := 8, cells := 3, slots := 18, locals := 132 }) D (aC_t cI cQ) 49 ad [.ref (ad 0), .int a, .int x] (aC_w ad cI cQ (aq_ug V 0 Q)) (aq_sluK n Q a x) (aq_QiX D (aC_t cI cQ) 49 ad (aq_sluK n Q a x) (Q 7 a.toNatClampNeg) (aC_w ad cI cQ (aq_ug V 0 (aq_sluQ Q a x)))) 3 18 := by
  refine aq_enterX (cc := cX2_setSluice) (maxL := 5) (ret := some .int) (by decide) rfl (Nat.le_of_ble_eq_true rfl) ?_
  intro p e s m below meth c ls S hr hlocks hout hT I hl
  have S : CallFix p m c cX2_setSluice 5 s _ wsX2_setSluice RX2 := S
  have hl : lv_has ls 5 [(0, .ref (ad 0)), (1, .int a), (2, .int x)] := hl
  refine lv_aload_n S.1 S.2.1 dX2_setSluice_0 rfl (lv_at hl 0 rfl) ?_
  refine lv_iload_n S.1 S.2.1 dX2_setSluice_1 rfl (lv_at hl 1 rfl) ?_
  refine aq_xcallVv (κ1 := aq_ixK a (nI n)) (As := [.int a]) (rest := []) S hT hlocks hout (c_X2_requireArch l hlt hJ (V := V) (Q := Q) (n := n) hn hn20 a) (cwV 1 S.2.2.2.2 gX2_setSluice_X2_requireArch rfl rfl rfl (by decide +kernel) ⟨Nat.le_of_ble_eq_true rfl, Nat.le_of_ble_eq_true rfl⟩) (aC_recvX I) I hl.1 dX2_setSluice_2 rfl rfl (Nat.le_of_ble_eq_true rfl) ⟨by decide, by decide⟩ ⟨by decide, by decide⟩ (fun hz => by simp [aq_sluK, aq_seq, hz]) (fun hκ1 H locs I => ?_)
  obtain ⟨k1, hk1, ek1⟩ := aq_ixK_ok (e := n) (by omega) (show aq_ixK a (nI n) = 0 from hκ1)
  subst ek1
  have nk1 : (nI k1).toNatClampNeg = k1 := nI_clamp (by omega)
  refine lv_iload_n S.1 S.2.1 dX2_setSluice_5 rfl (lv_at hl 2 rfl) ?_
  refine lv_iconst (v := 0) S.1 S.2.1 dX2_setSluice_6 (by decide) ?_
  refine lv_bipush (v := 10) S.1 S.2.1 dX2_setSluice_7 (by decide) ?_
  refine aq_xcallSv (κ1 := aq_rgK x 0 10) (As := [.int x, .int 0, .int 10]) (rest := []) S hT hlocks hout (c_X2_requireRange l hlt (V := (aq_ug V 0 Q)) x 0 10) (va_cwS 3 S.2.2.2.2 gX2_setSluice_X2_requireRange rfl rfl rfl (by decide +kernel) ⟨Nat.le_of_ble_eq_true rfl, Nat.le_of_ble_eq_true rfl⟩)  I hl.1 dX2_setSluice_9 rfl rfl (Nat.le_of_ble_eq_true rfl) ⟨by decide, by decide⟩ ⟨by decide, by decide⟩ (fun hz => by simp [aq_sluK, aq_seq, hκ1, nk1, hz]) (fun hκ2 H locs I => ?_)
  refine lv_aload_n S.1 S.2.1 dX2_setSluice_12 rfl (lv_at hl 0 rfl) ?_
  refine aC_getX S I 0 (by decide) in_X2_setSluice_X2 (List.mem_of_getElem? (i := 3) rfl) dX2_setSluice_13 ?_
  refine lv_iload_n S.1 S.2.1 dX2_setSluice_16 rfl (lv_at hl 1 rfl) ?_
  refine aq_callVr (As := [.int (nI k1)]) (rest := []) S (c_X0_archAt l hJ (V := V) (Q := Q) (j := 0) (by decide)  (a := k1) (by omega) ) (cwV 1 S.2.2.2.2 gX2_setSluice_X0_archAt rfl rfl rfl (by decide +kernel) ⟨Nat.le_of_ble_eq_true rfl, Nat.le_of_ble_eq_true rfl⟩) (aC_recvS (j := 0) I (by decide)) I hl.1 dX2_setSluice_17 rfl rfl (Nat.le_of_ble_eq_true rfl) ⟨by first | decide | (dsimp only; omega), by first | decide | (dsimp only; omega)⟩ (fun H locs I => ?_)
  refine lv_astore_n (lv' := [(3, .ref (ad (7 + 20 * 0 + k1))), (0, .ref (ad 0)), (1, .int (nI k1)), (2, .int x)]) S.1 S.2.1 dX2_setSluice_20 rfl hl (by decide) rfl (fun ls hl => ?_)
  refine lv_aload_n S.1 S.2.1 dX2_setSluice_21 rfl (lv_at hl 0 rfl) ?_
  refine aq_callVi (As := []) (rest := []) S (c_X1_hasMill l hJ (V := V) (Q := Q) (j := 0) (i := k1) (by decide) (by omega) ) (cwV 0 S.2.2.2.2 gX2_setSluice_X1_hasMill rfl rfl rfl (by decide +kernel) ⟨Nat.le_of_ble_eq_true rfl, Nat.le_of_ble_eq_true rfl⟩) (aC_recvA (j := 0) (i := k1) I (by decide) (by omega)) I hl.1 dX2_setSluice_22 rfl rfl (Nat.le_of_ble_eq_true rfl) ⟨by first | decide | (dsimp only; omega), by first | decide | (dsimp only; omega)⟩ (fun H locs I => ?_)
  refine lv_if_ne (tgt := 38) S.1 S.2.1 dX2_setSluice_25 (by decide) (fun c2 => ?_) (fun c2 => ?_)
  · refine lv_aload_n S.1 S.2.1 dX2_setSluice_38 rfl (lv_at hl 0 rfl) ?_
    refine aC_getA (j := 0) (i := k1) (x := Q 7 k1) S I (by decide) (by omega) 7 (by decide) in_X2_setSluice_X1 (List.mem_of_getElem? (i := 4) rfl) (by rw [aq_ug_s]) dX2_setSluice_39 ?_
    refine lv_istore (lv' := [(4, .int (Q 7 k1)), (3, .ref (ad (7 + 20 * 0 + k1))), (0, .ref (ad 0)), (1, .int (nI k1)), (2, .int x)]) S.1 S.2.1 dX2_setSluice_42 hl (by decide) rfl (fun ls hl => ?_)
    refine lv_aload_n S.1 S.2.1 dX2_setSluice_44 rfl (lv_at hl 1 rfl) ?_
    refine lv_iload_n S.1 S.2.1 dX2_setSluice_45 rfl (lv_at hl 4 rfl) ?_
    refine aC_putA (V := V) (Q := Q) (j := 0) (i := k1) (x := x) hJ S I (by decide) (by omega) 7 (by decide) in_X2_setSluice_X1 (List.mem_of_getElem? (i := 4) rfl) dX2_setSluice_46 (fun H locs M3 hM3 I => ?_)
    refine lv_iload S.1 S.2.1 dX2_setSluice_49 (lv_at hl 0 rfl) ?_
    exact aq_xiret S.1 S.2.1 hr hlocks I dX2_setSluice_51 (by decide) (by decide) (by simp [aq_sluK, aq_seq, hκ1, hκ2, c2, nk1]) (by subst_vars; first | rfl | (simp only [aq_sluQ, nk1, if_neg c2]; done) | (simp only [aq_sluQ, nk1, if_neg c2]; rfl)) (by subst_vars; first | rfl | (simp only [aq_sluQ, nk1, if_neg c2]; done) | (simp only [aq_sluQ, nk1, if_neg c2]; rfl))
  · obtain ⟨sa, hsa⟩ := hT.2.2.2.2.2.1
    have hκ9 : aq_sluK n Q (nI k1) x = 3 := (by simp [aq_sluK, aq_seq, hκ1, hκ2, c2, nk1])
    exact aq_throw (cls := "java/lang/IllegalStateException") (text := "there is no mill") (sa := sa) S hlt hT hlocks hout I hl.1 (by decide +kernel) (List.mem_of_getElem? (i := 1) rfl) (List.mem_of_getElem? (i := 2) rfl) hsa (fun _ h => List.mem_cons_of_mem _ (List.mem_append_left _ (List.mem_append_left _ (List.mem_append_right _ h)))) aq_bad3 (aq_badB3 hT) aq_ot3 dX2_setSluice_28 dX2_setSluice_31 dX2_setSluice_32 dX2_setSluice_34 dX2_setSluice_37 (by decide) (Nat.le_of_ble_eq_true rfl) (by decide) (by decide) (by decide) (by decide) ⟨by rw [hκ9]; decide, by rw [hκ9]; rfl⟩
theorem in_X2_mill_X2 : ∀ w ∈ wsX20, w ∈ wsX2_mill := fun _ h => List.mem_cons_of_mem _ (List.mem_append_left _ (List.mem_append_left _ (List.mem_append_left _ (List.mem_append_right _ h))))
set_option maxHeartbeats 4000000 in
set_option maxRecDepth 100000 in
/-- X2_mill -/
theorem c_X2_mill (l : Launch) (hlt : l.stackTraces = false) {D : va_G} {ad : Nat → Nat} {cI cQ : ClassId} (hJ : aq_J 49 ad) {V : aq_V} {Q : aq_Q} {n : Nat} (hn : Q 10 3 = nI n) (hn20 : n ≤ 20) (a w : Int32) : aq_MetX l yX2_mill wsX2_mill ({ frames := 8, cells := 2, slots := 12, locals := 132 }) D (aC_t cI cQ) 49 ad [.ref (ad 0), .int a, .int w] (aC_w ad cI cQ (aq_ug V 0 Q)) (aq_millK n a w) (aq_QiX D (aC_t cI cQ) 49 ad (aq_millK n a w) (aq_millNo Q a.toNatClampNeg w.toNatClampNeg) (aC_w ad cI cQ (aq_ug V 0 Q))) 2 12 := by
  refine aq_enterX (cc := cX2_mill) (maxL := 3) (ret := some .int) (by decide) rfl (Nat.le_of_ble_eq_true rfl) ?_
  intro p e s m below meth c ls S hr hlocks hout hT I hl
  have S : CallFix p m c cX2_mill 3 s _ wsX2_mill RX2 := S
  have hl : lv_has ls 3 [(0, .ref (ad 0)), (1, .int a), (2, .int w)] := hl
  refine lv_aload_n S.1 S.2.1 dX2_mill_0 rfl (lv_at hl 0 rfl) ?_
  refine lv_iload_n S.1 S.2.1 dX2_mill_1 rfl (lv_at hl 1 rfl) ?_
  refine aq_xcallVv (κ1 := aq_ixK a (nI n)) (As := [.int a]) (rest := []) S hT hlocks hout (c_X2_requireArch l hlt hJ (V := V) (Q := Q) (n := n) hn hn20 a) (cwV 1 S.2.2.2.2 gX2_mill_X2_requireArch rfl rfl rfl (by decide +kernel) ⟨Nat.le_of_ble_eq_true rfl, Nat.le_of_ble_eq_true rfl⟩) (aC_recvX I) I hl.1 dX2_mill_2 rfl rfl (Nat.le_of_ble_eq_true rfl) ⟨by decide, by decide⟩ ⟨by decide, by decide⟩ (fun hz => by simp [aq_millK, aq_seq, hz]) (fun hκ1 H locs I => ?_)
  obtain ⟨k1, hk1, ek1⟩ := aq_ixK_ok (e := n) (by omega) (show aq_ixK a (nI n) = 0 from hκ1)
  subst ek1
  have nk1 : (nI k1).toNatClampNeg = k1 := nI_clamp (by omega)
  refine lv_iload_n S.1 S.2.1 dX2_mill_5 rfl (lv_at hl 2 rfl) ?_
  refine lv_iconst (v := 4) S.1 S.2.1 dX2_mill_6 (by decide) ?_
  refine aq_xcallSv (κ1 := aq_ixK w 4) (As := [.int w, .int 4]) (rest := []) S hT hlocks hout (c_X2_requireIndex l hlt (V := (aq_ug V 0 Q)) w 4) (va_cwS 2 S.2.2.2.2 gX2_mill_X2_requireIndex rfl rfl rfl (by decide +kernel) ⟨Nat.le_of_ble_eq_true rfl, Nat.le_of_ble_eq_true rfl⟩)  I hl.1 dX2_mill_7 rfl rfl (Nat.le_of_ble_eq_true rfl) ⟨by decide, by decide⟩ ⟨by decide, by decide⟩ (fun hz => by simp [aq_millK, aq_seq, hκ1, nk1, hz]) (fun hκ2 H locs I => ?_)
  obtain ⟨k2, hk2, ek2⟩ := aq_ixK_ok (e := 4) (by omega) (show aq_ixK w (nI 4) = 0 from hκ2)
  subst ek2
  have nk2 : (nI k2).toNatClampNeg = k2 := nI_clamp (by omega)
  refine lv_aload_n S.1 S.2.1 dX2_mill_10 rfl (lv_at hl 0 rfl) ?_
  refine aC_getX S I 0 (by decide) in_X2_mill_X2 (List.mem_of_getElem? (i := 1) rfl) dX2_mill_11 ?_
  refine lv_iload_n S.1 S.2.1 dX2_mill_14 rfl (lv_at hl 1 rfl) ?_
  refine aq_callVr (As := [.int (nI k1)]) (rest := []) S (c_X0_archAt l hJ (V := V) (Q := Q) (j := 0) (by decide)  (a := k1) (by omega) ) (cwV 1 S.2.2.2.2 gX2_mill_X0_archAt rfl rfl rfl (by decide +kernel) ⟨Nat.le_of_ble_eq_true rfl, Nat.le_of_ble_eq_true rfl⟩) (aC_recvS (j := 0) I (by decide)) I hl.1 dX2_mill_15 rfl rfl (Nat.le_of_ble_eq_true rfl) ⟨by first | decide | (dsimp only; omega), by first | decide | (dsimp only; omega)⟩ (fun H locs I => ?_)
  refine lv_iload_n S.1 S.2.1 dX2_mill_18 rfl (lv_at hl 2 rfl) ?_
  refine aq_callVi (As := [.int (nI k2)]) (rest := []) S (c_X1_millNumber l hJ (V := V) (Q := Q) (j := 0) (i := k1) (by decide) (by omega) (w := k2) (by omega)) (cwV 1 S.2.2.2.2 gX2_mill_X1_millNumber rfl rfl rfl (by decide +kernel) ⟨Nat.le_of_ble_eq_true rfl, Nat.le_of_ble_eq_true rfl⟩) (aC_recvA (j := 0) (i := k1) I (by decide) (by omega)) I hl.1 dX2_mill_19 rfl rfl (Nat.le_of_ble_eq_true rfl) ⟨by first | decide | (dsimp only; omega), by first | decide | (dsimp only; omega)⟩ (fun H locs I => ?_)
  exact aq_xiret S.1 S.2.1 hr hlocks I dX2_mill_22 (by decide) (by decide) (by simp [aq_millK, aq_seq, hκ1, hκ2, nk1, nk2]) (by subst_vars; first | rfl | (simp only [nk1, nk2]; done) | (simp only [nk1, nk2]; rfl)) (by subst_vars; first | rfl | (simp only [nk1, nk2]; done) | (simp only [nk1, nk2]; rfl))
theorem in_X2_mend_X0 : ∀ w ∈ wsX00, w ∈ wsX2_mend := fun _ h => List.mem_cons_of_mem _ (List.mem_append_left _ (List.mem_append_left _ (List.mem_append_left _ (List.mem_append_right _ h))))
theorem in_X2_mend_X1 : ∀ w ∈ wsX10, w ∈ wsX2_mend := fun _ h => List.mem_cons_of_mem _ (List.mem_append_left _ (List.mem_append_left _ (List.mem_append_right _ h)))
theorem in_X2_mend_X2 : ∀ w ∈ wsX20, w ∈ wsX2_mend := fun _ h => List.mem_cons_of_mem _ (List.mem_append_left _ (List.mem_append_left _ (List.mem_append_left _ (List.mem_append_left _ (List.mem_append_right _ h)))))
set_option maxHeartbeats 4000000 in
set_option maxRecDepth 100000 in
/-- X2_mend -/
theorem c_X2_mend (l : Launch) (hlt : l.stackTraces = false) {D : va_G} {ad : Nat → Nat} {cI cQ : ClassId} (hJ : aq_J 49 ad) {V : aq_V} {Q : aq_Q} {n : Nat} (hn : Q 10 3 = nI n) (hn20 : n ≤ 20) (a : Int32) : aq_MetX l yX2_mend wsX2_mend ({ frames := 8, cells := 3, slots := 18, locals := 132 }) D (aC_t cI cQ) 49 ad [.ref (ad 0), .int a] (aC_w ad cI cQ (aq_ug V 0 Q)) (aq_mendK n Q a) (aq_QiX D (aC_t cI cQ) 49 ad (aq_mendK n Q a) (aq_mendQ Q a.toNatClampNeg 3 a.toNatClampNeg) (aC_w ad cI cQ (aq_ug V 0 (aq_mendQ Q a.toNatClampNeg)))) 3 18 := by
  refine aq_enterX (cc := cX2_mend) (maxL := 3) (ret := some .int) (by decide) rfl (Nat.le_of_ble_eq_true rfl) ?_
  intro p e s m below meth c ls S hr hlocks hout hT I hl
  have S : CallFix p m c cX2_mend 3 s _ wsX2_mend RX2 := S
  have hl : lv_has ls 3 [(0, .ref (ad 0)), (1, .int a)] := hl
  refine lv_aload_n S.1 S.2.1 dX2_mend_0 rfl (lv_at hl 0 rfl) ?_
  refine lv_iload_n S.1 S.2.1 dX2_mend_1 rfl (lv_at hl 1 rfl) ?_
  refine aq_xcallVv (κ1 := aq_ixK a (nI n)) (As := [.int a]) (rest := []) S hT hlocks hout (c_X2_requireArch l hlt hJ (V := V) (Q := Q) (n := n) hn hn20 a) (cwV 1 S.2.2.2.2 gX2_mend_X2_requireArch rfl rfl rfl (by decide +kernel) ⟨Nat.le_of_ble_eq_true rfl, Nat.le_of_ble_eq_true rfl⟩) (aC_recvX I) I hl.1 dX2_mend_2 rfl rfl (Nat.le_of_ble_eq_true rfl) ⟨by decide, by decide⟩ ⟨by decide, by decide⟩ (fun hz => by simp [aq_mendK, aq_seq, hz]) (fun hκ1 H locs I => ?_)
  obtain ⟨k1, hk1, ek1⟩ := aq_ixK_ok (e := n) (by omega) (show aq_ixK a (nI n) = 0 from hκ1)
  subst ek1
  have nk1 : (nI k1).toNatClampNeg = k1 := nI_clamp (by omega)
  refine lv_aload_n S.1 S.2.1 dX2_mend_5 rfl (lv_at hl 0 rfl) ?_
  refine aC_getX S I 0 (by decide) in_X2_mend_X2 (List.mem_of_getElem? (i := 3) rfl) dX2_mend_6 ?_
  refine lv_iload_n S.1 S.2.1 dX2_mend_9 rfl (lv_at hl 1 rfl) ?_
  refine aq_callVr (As := [.int (nI k1)]) (rest := []) S (c_X0_archAt l hJ (V := V) (Q := Q) (j := 0) (by decide)  (a := k1) (by omega) ) (cwV 1 S.2.2.2.2 gX2_mend_X0_archAt rfl rfl rfl (by decide +kernel) ⟨Nat.le_of_ble_eq_true rfl, Nat.le_of_ble_eq_true rfl⟩) (aC_recvS (j := 0) I (by decide)) I hl.1 dX2_mend_10 rfl rfl (Nat.le_of_ble_eq_true rfl) ⟨by first | decide | (dsimp only; omega), by first | decide | (dsimp only; omega)⟩ (fun H locs I => ?_)
  refine lv_astore_n (lv' := [(2, .ref (ad (7 + 20 * 0 + k1))), (0, .ref (ad 0)), (1, .int (nI k1))]) S.1 S.2.1 dX2_mend_13 rfl hl (by decide) rfl (fun ls hl => ?_)
  refine lv_aload_n S.1 S.2.1 dX2_mend_14 rfl (lv_at hl 1 rfl) ?_
  refine aC_getX S I 0 (by decide) in_X2_mend_X2 (List.mem_of_getElem? (i := 3) rfl) dX2_mend_15 ?_
  refine aC_getS (j := 0) (x := Q 10 5) S I (by decide) 5 (by decide) (by decide) in_X2_mend_X0 (List.mem_of_getElem? (i := 4) rfl) (by rw [aq_ug_s]) dX2_mend_18 ?_
  refine lv_iconst (v := 1) S.1 S.2.1 dX2_mend_21 (by decide) ?_
  refine lv_icmp_ge (tgt := 35) S.1 S.2.1 dX2_mend_22 (by decide) (fun c2 => ?_) (fun c2 => ?_)
  · refine lv_aload_n S.1 S.2.1 dX2_mend_35 rfl (lv_at hl 0 rfl) ?_
    refine aC_getA (j := 0) (i := k1) (x := Q 3 k1) S I (by decide) (by omega) 3 (by decide) in_X2_mend_X1 (List.mem_of_getElem? (i := 5) rfl) (by rw [aq_ug_s]) dX2_mend_36 ?_
    refine lv_if_ne (tgt := 52) S.1 S.2.1 dX2_mend_39 (by decide) (fun c3 => ?_) (fun c3 => ?_)
    · refine lv_aload_n S.1 S.2.1 dX2_mend_52 rfl (lv_at hl 1 rfl) ?_
      refine aC_getX S I 0 (by decide) in_X2_mend_X2 (List.mem_of_getElem? (i := 3) rfl) dX2_mend_53 ?_
      refine lv_dup S.1 S.2.1 dX2_mend_56 rfl ?_
      refine aC_getS (j := 0) (x := Q 10 5) S I (by decide) 5 (by decide) (by decide) in_X2_mend_X0 (List.mem_of_getElem? (i := 4) rfl) (by rw [aq_ug_s]) dX2_mend_57 ?_
      refine lv_iconst (v := 1) S.1 S.2.1 dX2_mend_60 (by decide) ?_
      refine lv_isub S.1 S.2.1 dX2_mend_61 ?_
      refine aC_putS (V := V) (Q := Q) (j := 0) (x := Q 10 5 - 1) hJ S I (by decide) 5 (by decide) (by decide) in_X2_mend_X0 (List.mem_of_getElem? (i := 4) rfl) dX2_mend_62 (fun H locs M4 hM4 I => ?_)
      refine lv_aload_n S.1 S.2.1 dX2_mend_65 rfl (lv_at hl 0 rfl) ?_
      refine lv_iconst (v := 0) S.1 S.2.1 dX2_mend_66 (by decide) ?_
      refine lv_aload_n S.1 S.2.1 dX2_mend_67 rfl (lv_at hl 0 rfl) ?_
      refine aC_getA (j := 0) (i := k1) (x := M4 3 k1) S I (by decide) (by omega) 3 (by decide) in_X2_mend_X1 (List.mem_of_getElem? (i := 5) rfl) (by rw [aq_ug_s]) dX2_mend_68 ?_
      refine lv_bipush (v := 10) S.1 S.2.1 dX2_mend_71 (by decide) ?_
      refine lv_isub S.1 S.2.1 dX2_mend_73 ?_
      refine aq_mmax S hl.1 (List.mem_of_getElem? (i := 6) rfl) (List.mem_of_getElem? (i := 7) rfl) (List.mem_of_getElem? (i := 8) rfl) (List.mem_of_getElem? (i := 9) rfl) (by decide) (Nat.le_of_ble_eq_true rfl) (by decide) (by decide) dX2_mend_74 ?_
      refine aC_putA (V := V) (Q := M4) (j := 0) (i := k1) (x := aq_mx 0 (M4 3 k1 - 10)) hJ S I (by decide) (by omega) 3 (by decide) in_X2_mend_X1 (List.mem_of_getElem? (i := 5) rfl) dX2_mend_77 (fun H locs M5 hM5 I => ?_)
      refine lv_aload_n S.1 S.2.1 dX2_mend_80 rfl (lv_at hl 0 rfl) ?_
      refine lv_iconst (v := 0) S.1 S.2.1 dX2_mend_81 (by decide) ?_
      refine aC_putA (V := V) (Q := M5) (j := 0) (i := k1) (x := 0) hJ S I (by decide) (by omega) 4 (by decide) in_X2_mend_X1 (List.mem_of_getElem? (i := 10) rfl) dX2_mend_82 (fun H locs M6 hM6 I => ?_)
      refine lv_aload_n S.1 S.2.1 dX2_mend_85 rfl (lv_at hl 0 rfl) ?_
      refine aC_getA (j := 0) (i := k1) (x := M6 3 k1) S I (by decide) (by omega) 3 (by decide) in_X2_mend_X1 (List.mem_of_getElem? (i := 5) rfl) (by rw [aq_ug_s]) dX2_mend_86 ?_
      exact aq_xiret S.1 S.2.1 hr hlocks I dX2_mend_89 (by decide) (by decide) (by simp [aq_mendK, aq_seq, hκ1, c2, c3, nk1]) (by subst_vars; first | rfl | (simp only [nk1, if_pos c2, if_neg c3]; done) | (simp only [nk1, if_pos c2, if_neg c3]; rfl)) (by subst_vars; first | rfl | (simp only [nk1, if_pos c2, if_neg c3]; done) | (simp only [nk1, if_pos c2, if_neg c3]; rfl))
    · obtain ⟨sa, hsa⟩ := hT.2.2.2.2.2.2.2.1
      have hκ9 : aq_mendK n Q (nI k1) = 3 := (by simp [aq_mendK, aq_seq, hκ1, c2, c3, nk1])
      exact aq_throw (cls := "java/lang/IllegalStateException") (text := "the arch is not worn") (sa := sa) S hlt hT hlocks hout I hl.1 (by decide +kernel) (List.mem_of_getElem? (i := 1) rfl) (List.mem_of_getElem? (i := 2) rfl) hsa (fun _ h => List.mem_cons_of_mem _ (List.mem_append_left _ (List.mem_append_right _ h))) aq_bad3 (aq_badB3 hT) aq_ot3 dX2_mend_42 dX2_mend_45 dX2_mend_46 dX2_mend_48 dX2_mend_51 (by decide) (Nat.le_of_ble_eq_true rfl) (by decide) (by decide) (by decide) (by decide) ⟨by rw [hκ9]; decide, by rw [hκ9]; rfl⟩
  · obtain ⟨sa, hsa⟩ := hT.2.2.2.2.2.2.1
    have hκ9 : aq_mendK n Q (nI k1) = 3 := (by simp [aq_mendK, aq_seq, hκ1, c2, nk1])
    exact aq_throw (cls := "java/lang/IllegalStateException") (text := "there is no coin") (sa := sa) S hlt hT hlocks hout I hl.1 (by decide +kernel) (List.mem_of_getElem? (i := 1) rfl) (List.mem_of_getElem? (i := 2) rfl) hsa (fun _ h => List.mem_cons_of_mem _ (List.mem_append_left _ (List.mem_append_right _ h))) aq_bad3 (aq_badB3 hT) aq_ot3 dX2_mend_25 dX2_mend_28 dX2_mend_29 dX2_mend_31 dX2_mend_34 (by decide) (Nat.le_of_ble_eq_true rfl) (by decide) (by decide) (by decide) (by decide) ⟨by rw [hκ9]; decide, by rw [hκ9]; rfl⟩
theorem in_X2_quake_X1 : ∀ w ∈ wsX10, w ∈ wsX2_quake := fun _ h => List.mem_cons_of_mem _ (List.mem_append_left _ (List.mem_append_left _ (List.mem_append_left _ (List.mem_append_right _ h))))
theorem in_X2_quake_X2 : ∀ w ∈ wsX20, w ∈ wsX2_quake := fun _ h => List.mem_cons_of_mem _ (List.mem_append_left _ (List.mem_append_left _ (List.mem_append_left _ (List.mem_append_left _ (List.mem_append_right _ h)))))
set_option maxHeartbeats 4000000 in
set_option maxRecDepth 100000 in
/-- X2_quake -/
theorem c_X2_quake (l : Launch) (hlt : l.stackTraces = false) {D : va_G} {ad : Nat → Nat} {cI cQ : ClassId} (hJ : aq_J 49 ad) {V : aq_V} {Q : aq_Q} {n : Nat} (hn : Q 10 3 = nI n) (hn20 : n ≤ 20) (a x : Int32) : aq_MetX l yX2_quake wsX2_quake ({ frames := 8, cells := 2, slots := 12, locals := 132 }) D (aC_t cI cQ) 49 ad [.ref (ad 0), .int a, .int x] (aC_w ad cI cQ (aq_ug V 0 Q)) (aq_quakeK n a x) (aq_QiX D (aC_t cI cQ) 49 ad (aq_quakeK n a x) (aq_wearByQ Q a.toNatClampNeg x 3 a.toNatClampNeg) (aC_w ad cI cQ (aq_ug V 0 (aq_wearByQ Q a.toNatClampNeg x)))) 2 12 := by
  refine aq_enterX (cc := cX2_quake) (maxL := 4) (ret := some .int) (by decide) rfl (Nat.le_of_ble_eq_true rfl) ?_
  intro p e s m below meth c ls S hr hlocks hout hT I hl
  have S : CallFix p m c cX2_quake 4 s _ wsX2_quake RX2 := S
  have hl : lv_has ls 4 [(0, .ref (ad 0)), (1, .int a), (2, .int x)] := hl
  refine lv_aload_n S.1 S.2.1 dX2_quake_0 rfl (lv_at hl 0 rfl) ?_
  refine lv_iload_n S.1 S.2.1 dX2_quake_1 rfl (lv_at hl 1 rfl) ?_
  refine aq_xcallVv (κ1 := aq_ixK a (nI n)) (As := [.int a]) (rest := []) S hT hlocks hout (c_X2_requireArch l hlt hJ (V := V) (Q := Q) (n := n) hn hn20 a) (cwV 1 S.2.2.2.2 gX2_quake_X2_requireArch rfl rfl rfl (by decide +kernel) ⟨Nat.le_of_ble_eq_true rfl, Nat.le_of_ble_eq_true rfl⟩) (aC_recvX I) I hl.1 dX2_quake_2 rfl rfl (Nat.le_of_ble_eq_true rfl) ⟨by decide, by decide⟩ ⟨by decide, by decide⟩ (fun hz => by simp [aq_quakeK, aq_seq, hz]) (fun hκ1 H locs I => ?_)
  obtain ⟨k1, hk1, ek1⟩ := aq_ixK_ok (e := n) (by omega) (show aq_ixK a (nI n) = 0 from hκ1)
  subst ek1
  have nk1 : (nI k1).toNatClampNeg = k1 := nI_clamp (by omega)
  refine lv_iload_n S.1 S.2.1 dX2_quake_5 rfl (lv_at hl 2 rfl) ?_
  refine lv_iconst (v := 1) S.1 S.2.1 dX2_quake_6 (by decide) ?_
  refine lv_bipush (v := 50) S.1 S.2.1 dX2_quake_7 (by decide) ?_
  refine aq_xcallSv (κ1 := aq_rgK x 1 50) (As := [.int x, .int 1, .int 50]) (rest := []) S hT hlocks hout (c_X2_requireRange l hlt (V := (aq_ug V 0 Q)) x 1 50) (va_cwS 3 S.2.2.2.2 gX2_quake_X2_requireRange rfl rfl rfl (by decide +kernel) ⟨Nat.le_of_ble_eq_true rfl, Nat.le_of_ble_eq_true rfl⟩)  I hl.1 dX2_quake_9 rfl rfl (Nat.le_of_ble_eq_true rfl) ⟨by decide, by decide⟩ ⟨by decide, by decide⟩ (fun hz => by simp [aq_quakeK, aq_seq, hκ1, nk1, hz]) (fun hκ2 H locs I => ?_)
  refine lv_aload_n S.1 S.2.1 dX2_quake_12 rfl (lv_at hl 0 rfl) ?_
  refine aC_getX S I 0 (by decide) in_X2_quake_X2 (List.mem_of_getElem? (i := 1) rfl) dX2_quake_13 ?_
  refine lv_iload_n S.1 S.2.1 dX2_quake_16 rfl (lv_at hl 1 rfl) ?_
  refine aq_callVr (As := [.int (nI k1)]) (rest := []) S (c_X0_archAt l hJ (V := V) (Q := Q) (j := 0) (by decide)  (a := k1) (by omega) ) (cwV 1 S.2.2.2.2 gX2_quake_X0_archAt rfl rfl rfl (by decide +kernel) ⟨Nat.le_of_ble_eq_true rfl, Nat.le_of_ble_eq_true rfl⟩) (aC_recvS (j := 0) I (by decide)) I hl.1 dX2_quake_17 rfl rfl (Nat.le_of_ble_eq_true rfl) ⟨by first | decide | (dsimp only; omega), by first | decide | (dsimp only; omega)⟩ (fun H locs I => ?_)
  refine lv_astore_n (lv' := [(3, .ref (ad (7 + 20 * 0 + k1))), (0, .ref (ad 0)), (1, .int (nI k1)), (2, .int x)]) S.1 S.2.1 dX2_quake_20 rfl hl (by decide) rfl (fun ls hl => ?_)
  refine lv_aload_n S.1 S.2.1 dX2_quake_21 rfl (lv_at hl 0 rfl) ?_
  refine lv_iload_n S.1 S.2.1 dX2_quake_22 rfl (lv_at hl 3 rfl) ?_
  refine aq_callVv (As := [.int x]) (rest := []) S (c_X1_wearBy l hJ (V := V) (Q := Q) (j := 0) (i := k1) (by decide) (by omega) x) (cwV 1 S.2.2.2.2 gX2_quake_X1_wearBy rfl rfl rfl (by decide +kernel) ⟨Nat.le_of_ble_eq_true rfl, Nat.le_of_ble_eq_true rfl⟩) (aC_recvA (j := 0) (i := k1) I (by decide) (by omega)) I hl.1 dX2_quake_23 rfl rfl (Nat.le_of_ble_eq_true rfl) ⟨by first | decide | (dsimp only; omega), by first | decide | (dsimp only; omega)⟩ (fun H locs I => ?_)
  obtain ⟨M2, hM2⟩ : ∃ z9 : aq_Q, z9 = aq_wearByQ Q k1 x := ⟨_, rfl⟩
  rw [← hM2] at I
  refine lv_aload_n S.1 S.2.1 dX2_quake_26 rfl (lv_at hl 0 rfl) ?_
  refine aC_getA (j := 0) (i := k1) (x := M2 3 k1) S I (by decide) (by omega) 3 (by decide) in_X2_quake_X1 (List.mem_of_getElem? (i := 2) rfl) (by rw [aq_ug_s]) dX2_quake_27 ?_
  exact aq_xiret S.1 S.2.1 hr hlocks I dX2_quake_30 (by decide) (by decide) (by simp [aq_quakeK, aq_seq, hκ1, hκ2, nk1]) (by subst_vars; first | rfl | (simp only [nk1]; done) | (simp only [nk1]; rfl)) (by subst_vars; first | rfl | (simp only [nk1]; done) | (simp only [nk1]; rfl))
theorem in_X2_count_X2 : ∀ w ∈ wsX20, w ∈ wsX2_count := fun _ h => List.mem_cons_of_mem _ (List.mem_append_left _ (List.mem_append_left _ (List.mem_append_left _ (List.mem_append_right _ h))))
set_option maxHeartbeats 4000000 in
set_option maxRecDepth 100000 in
/-- X2_count -/
theorem c_X2_count (l : Launch) (hlt : l.stackTraces = false) {D : va_G} {ad : Nat → Nat} {cI cQ : ClassId} (hJ : aq_J 49 ad) {V : aq_V} {Q : aq_Q} {n : Nat} (hn : Q 10 3 = nI n) (hn20 : n ≤ 20) (w : Int32) : aq_MetX l yX2_count wsX2_count ({ frames := 7, cells := 1, slots := 6, locals := 111 }) D (aC_t cI cQ) 49 ad [.ref (ad 0), .int w] (aC_w ad cI cQ (aq_ug V 0 Q)) (aq_ixK w 12) (aq_QiX D (aC_t cI cQ) 49 ad (aq_ixK w 12) (aq_countNo n Q w.toNatClampNeg) (aC_w ad cI cQ (aq_ug V 0 Q))) 1 6 := by
  refine aq_enterX (cc := cX2_count) (maxL := 2) (ret := some .int) (by decide) rfl (Nat.le_of_ble_eq_true rfl) ?_
  intro p e s m below meth c ls S hr hlocks hout hT I hl
  have S : CallFix p m c cX2_count 2 s _ wsX2_count RX2 := S
  have hl : lv_has ls 2 [(0, .ref (ad 0)), (1, .int w)] := hl
  refine lv_iload_n S.1 S.2.1 dX2_count_0 rfl (lv_at hl 1 rfl) ?_
  refine lv_bipush (v := 12) S.1 S.2.1 dX2_count_1 (by decide) ?_
  refine aq_xcallSv (κ1 := aq_ixK w 12) (As := [.int w, .int 12]) (rest := []) S hT hlocks hout (c_X2_requireIndex l hlt (V := (aq_ug V 0 Q)) w 12) (va_cwS 2 S.2.2.2.2 gX2_count_X2_requireIndex rfl rfl rfl (by decide +kernel) ⟨Nat.le_of_ble_eq_true rfl, Nat.le_of_ble_eq_true rfl⟩)  I hl.1 dX2_count_3 rfl rfl (Nat.le_of_ble_eq_true rfl) ⟨by decide, by decide⟩ ⟨by decide, by decide⟩ (fun hz => by simp [aq_seq, hz]) (fun hκ1 H locs I => ?_)
  obtain ⟨k1, hk1, ek1⟩ := aq_ixK_ok (e := 12) (by omega) (show aq_ixK w (nI 12) = 0 from hκ1)
  subst ek1
  have nk1 : (nI k1).toNatClampNeg = k1 := nI_clamp (by omega)
  refine lv_aload_n S.1 S.2.1 dX2_count_6 rfl (lv_at hl 0 rfl) ?_
  refine aC_getX S I 0 (by decide) in_X2_count_X2 (List.mem_of_getElem? (i := 1) rfl) dX2_count_7 ?_
  refine lv_iload_n S.1 S.2.1 dX2_count_10 rfl (lv_at hl 1 rfl) ?_
  refine aq_callVi (As := [.int (nI k1)]) (rest := []) S (c_X0_countNumber l hJ (V := V) (Q := Q) (j := 0) (by decide) hn hn20 (w := k1) (by omega) ) (cwV 1 S.2.2.2.2 gX2_count_X0_countNumber rfl rfl rfl (by decide +kernel) ⟨Nat.le_of_ble_eq_true rfl, Nat.le_of_ble_eq_true rfl⟩) (aC_recvS (j := 0) I (by decide)) I hl.1 dX2_count_11 rfl rfl (Nat.le_of_ble_eq_true rfl) ⟨by first | decide | (dsimp only; omega), by first | decide | (dsimp only; omega)⟩ (fun H locs I => ?_)
  exact aq_xiret S.1 S.2.1 hr hlocks I dX2_count_14 (by decide) (by decide) (by simp [aq_seq, hκ1, nk1]) (by subst_vars; first | rfl | (simp only [nk1]; done) | (simp only [nk1]; rfl)) (by subst_vars; first | rfl | (simp only [nk1]; done) | (simp only [nk1]; rfl))
