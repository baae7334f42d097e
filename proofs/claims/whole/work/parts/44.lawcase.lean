/-! the switch, case by case -/
theorem ly_q_build (n : Nat) (Q : aq_Q) (a b : Int32) : aq_buildK n Q a b = 0 ∨ aq_buildK n Q a b = 1 ∨ aq_buildK n Q a b = 3 := by
  unfold aq_buildK aq_seq
  rcases aq_rgK2 a 0 (aq_top n Q) with h0 | h0
  · rw [h0, if_pos rfl]
    rcases aq_rgK2 b 1 40 with h1 | h1
    · rw [h1, if_pos rfl]
      split
      · first | exact Or.inl rfl | exact Or.inr rfl | exact Or.inr (Or.inl rfl) | exact Or.inr (Or.inr rfl) | exact Or.inr (Or.inr (Or.inl rfl)) | exact Or.inr (Or.inr (Or.inr rfl))
      · first | exact Or.inl rfl | exact Or.inr rfl | exact Or.inr (Or.inl rfl) | exact Or.inr (Or.inr rfl) | exact Or.inr (Or.inr (Or.inl rfl)) | exact Or.inr (Or.inr (Or.inr rfl))
    · rw [h1, if_neg (by decide)]
      first | exact Or.inl rfl | exact Or.inr rfl | exact Or.inr (Or.inl rfl) | exact Or.inr (Or.inr rfl) | exact Or.inr (Or.inr (Or.inl rfl)) | exact Or.inr (Or.inr (Or.inr rfl))
  · rw [h0, if_neg (by decide)]
    first | exact Or.inl rfl | exact Or.inr rfl | exact Or.inr (Or.inl rfl) | exact Or.inr (Or.inr rfl) | exact Or.inr (Or.inr (Or.inl rfl)) | exact Or.inr (Or.inr (Or.inr rfl))
theorem ly_q_setSpring (n : Nat) (Q : aq_Q) (a b : Int32) : aq_setK a b = 0 ∨ aq_setK a b = 1 ∨ aq_setK a b = 2 := by
  unfold aq_setK aq_seq
  rcases aq_ixK2 a 24 with h0 | h0
  · rw [h0, if_pos rfl]
    rcases aq_rgK2 b 0 40 with h1 | h1
    · rw [h1]
      first | exact Or.inl rfl | exact Or.inr rfl | exact Or.inr (Or.inl rfl) | exact Or.inr (Or.inr rfl) | exact Or.inr (Or.inr (Or.inl rfl)) | exact Or.inr (Or.inr (Or.inr rfl))
    · rw [h1]
      first | exact Or.inl rfl | exact Or.inr rfl | exact Or.inr (Or.inl rfl) | exact Or.inr (Or.inr rfl) | exact Or.inr (Or.inr (Or.inl rfl)) | exact Or.inr (Or.inr (Or.inr rfl))
  · rw [h0, if_neg (by decide)]
    first | exact Or.inl rfl | exact Or.inr rfl | exact Or.inr (Or.inl rfl) | exact Or.inr (Or.inr rfl) | exact Or.inr (Or.inr (Or.inl rfl)) | exact Or.inr (Or.inr (Or.inr rfl))
theorem ly_q_setCistern (n : Nat) (Q : aq_Q) (a b : Int32) : aq_rgK a 0 500 = 0 ∨ aq_rgK a 0 500 = 1 := by
  rcases aq_rgK2 a 0 500 with h0 | h0
  · rw [h0]
    first | exact Or.inl rfl | exact Or.inr rfl | exact Or.inr (Or.inl rfl) | exact Or.inr (Or.inr rfl) | exact Or.inr (Or.inr (Or.inl rfl)) | exact Or.inr (Or.inr (Or.inr rfl))
  · rw [h0]
    first | exact Or.inl rfl | exact Or.inr rfl | exact Or.inr (Or.inl rfl) | exact Or.inr (Or.inr rfl) | exact Or.inr (Or.inr (Or.inl rfl)) | exact Or.inr (Or.inr (Or.inr rfl))
theorem ly_q_arch (n : Nat) (Q : aq_Q) (a b : Int32) : aq_archK n a b = 0 ∨ aq_archK n a b = 2 := by
  unfold aq_archK aq_seq
  rcases aq_ixK2 a (nI n) with h0 | h0
  · rw [h0, if_pos rfl]
    rcases aq_ixK2 b 9 with h1 | h1
    · rw [h1]
      first | exact Or.inl rfl | exact Or.inr rfl | exact Or.inr (Or.inl rfl) | exact Or.inr (Or.inr rfl) | exact Or.inr (Or.inr (Or.inl rfl)) | exact Or.inr (Or.inr (Or.inr rfl))
    · rw [h1]
      first | exact Or.inl rfl | exact Or.inr rfl | exact Or.inr (Or.inl rfl) | exact Or.inr (Or.inr rfl) | exact Or.inr (Or.inr (Or.inl rfl)) | exact Or.inr (Or.inr (Or.inr rfl))
  · rw [h0, if_neg (by decide)]
    first | exact Or.inl rfl | exact Or.inr rfl | exact Or.inr (Or.inl rfl) | exact Or.inr (Or.inr rfl) | exact Or.inr (Or.inr (Or.inl rfl)) | exact Or.inr (Or.inr (Or.inr rfl))
theorem ly_q_addMill (n : Nat) (Q : aq_Q) (a b : Int32) : aq_addMK n Q a b = 0 ∨ aq_addMK n Q a b = 1 ∨ aq_addMK n Q a b = 2 ∨ aq_addMK n Q a b = 3 := by
  unfold aq_addMK aq_seq
  rcases aq_ixK2 a (nI n) with h0 | h0
  · rw [h0, if_pos rfl]
    rcases aq_rgK2 b 1 30 with h1 | h1
    · rw [h1, if_pos rfl]
      split
      · first | exact Or.inl rfl | exact Or.inr rfl | exact Or.inr (Or.inl rfl) | exact Or.inr (Or.inr rfl) | exact Or.inr (Or.inr (Or.inl rfl)) | exact Or.inr (Or.inr (Or.inr rfl))
      · first | exact Or.inl rfl | exact Or.inr rfl | exact Or.inr (Or.inl rfl) | exact Or.inr (Or.inr rfl) | exact Or.inr (Or.inr (Or.inl rfl)) | exact Or.inr (Or.inr (Or.inr rfl))
    · rw [h1, if_neg (by decide)]
      first | exact Or.inl rfl | exact Or.inr rfl | exact Or.inr (Or.inl rfl) | exact Or.inr (Or.inr rfl) | exact Or.inr (Or.inr (Or.inl rfl)) | exact Or.inr (Or.inr (Or.inr rfl))
  · rw [h0, if_neg (by decide)]
    first | exact Or.inl rfl | exact Or.inr rfl | exact Or.inr (Or.inl rfl) | exact Or.inr (Or.inr rfl) | exact Or.inr (Or.inr (Or.inl rfl)) | exact Or.inr (Or.inr (Or.inr rfl))
theorem ly_q_setSluice (n : Nat) (Q : aq_Q) (a b : Int32) : aq_sluK n Q a b = 0 ∨ aq_sluK n Q a b = 1 ∨ aq_sluK n Q a b = 2 ∨ aq_sluK n Q a b = 3 := by
  unfold aq_sluK aq_seq
  rcases aq_ixK2 a (nI n) with h0 | h0
  · rw [h0, if_pos rfl]
    rcases aq_rgK2 b 0 10 with h1 | h1
    · rw [h1, if_pos rfl]
      split
      · first | exact Or.inl rfl | exact Or.inr rfl | exact Or.inr (Or.inl rfl) | exact Or.inr (Or.inr rfl) | exact Or.inr (Or.inr (Or.inl rfl)) | exact Or.inr (Or.inr (Or.inr rfl))
      · first | exact Or.inl rfl | exact Or.inr rfl | exact Or.inr (Or.inl rfl) | exact Or.inr (Or.inr rfl) | exact Or.inr (Or.inr (Or.inl rfl)) | exact Or.inr (Or.inr (Or.inr rfl))
    · rw [h1, if_neg (by decide)]
      first | exact Or.inl rfl | exact Or.inr rfl | exact Or.inr (Or.inl rfl) | exact Or.inr (Or.inr rfl) | exact Or.inr (Or.inr (Or.inl rfl)) | exact Or.inr (Or.inr (Or.inr rfl))
  · rw [h0, if_neg (by decide)]
    first | exact Or.inl rfl | exact Or.inr rfl | exact Or.inr (Or.inl rfl) | exact Or.inr (Or.inr rfl) | exact Or.inr (Or.inr (Or.inl rfl)) | exact Or.inr (Or.inr (Or.inr rfl))
theorem ly_q_mill (n : Nat) (Q : aq_Q) (a b : Int32) : aq_millK n a b = 0 ∨ aq_millK n a b = 2 := by
  unfold aq_millK aq_seq
  rcases aq_ixK2 a (nI n) with h0 | h0
  · rw [h0, if_pos rfl]
    rcases aq_ixK2 b 4 with h1 | h1
    · rw [h1]
      first | exact Or.inl rfl | exact Or.inr rfl | exact Or.inr (Or.inl rfl) | exact Or.inr (Or.inr rfl) | exact Or.inr (Or.inr (Or.inl rfl)) | exact Or.inr (Or.inr (Or.inr rfl))
    · rw [h1]
      first | exact Or.inl rfl | exact Or.inr rfl | exact Or.inr (Or.inl rfl) | exact Or.inr (Or.inr rfl) | exact Or.inr (Or.inr (Or.inl rfl)) | exact Or.inr (Or.inr (Or.inr rfl))
  · rw [h0, if_neg (by decide)]
    first | exact Or.inl rfl | exact Or.inr rfl | exact Or.inr (Or.inl rfl) | exact Or.inr (Or.inr rfl) | exact Or.inr (Or.inr (Or.inl rfl)) | exact Or.inr (Or.inr (Or.inr rfl))
theorem ly_q_mend (n : Nat) (Q : aq_Q) (a b : Int32) : aq_mendK n Q a = 0 ∨ aq_mendK n Q a = 2 ∨ aq_mendK n Q a = 3 := by
  unfold aq_mendK aq_seq
  rcases aq_ixK2 a (nI n) with h0 | h0
  · rw [h0, if_pos rfl]
    split
    · split
      · first | exact Or.inl rfl | exact Or.inr rfl | exact Or.inr (Or.inl rfl) | exact Or.inr (Or.inr rfl) | exact Or.inr (Or.inr (Or.inl rfl)) | exact Or.inr (Or.inr (Or.inr rfl))
      · first | exact Or.inl rfl | exact Or.inr rfl | exact Or.inr (Or.inl rfl) | exact Or.inr (Or.inr rfl) | exact Or.inr (Or.inr (Or.inl rfl)) | exact Or.inr (Or.inr (Or.inr rfl))
    · first | exact Or.inl rfl | exact Or.inr rfl | exact Or.inr (Or.inl rfl) | exact Or.inr (Or.inr rfl) | exact Or.inr (Or.inr (Or.inl rfl)) | exact Or.inr (Or.inr (Or.inr rfl))
  · rw [h0, if_neg (by decide)]
    first | exact Or.inl rfl | exact Or.inr rfl | exact Or.inr (Or.inl rfl) | exact Or.inr (Or.inr rfl) | exact Or.inr (Or.inr (Or.inl rfl)) | exact Or.inr (Or.inr (Or.inr rfl))
theorem ly_q_quake (n : Nat) (Q : aq_Q) (a b : Int32) : aq_quakeK n a b = 0 ∨ aq_quakeK n a b = 1 ∨ aq_quakeK n a b = 2 := by
  unfold aq_quakeK aq_seq
  rcases aq_ixK2 a (nI n) with h0 | h0
  · rw [h0, if_pos rfl]
    rcases aq_rgK2 b 1 50 with h1 | h1
    · rw [h1]
      first | exact Or.inl rfl | exact Or.inr rfl | exact Or.inr (Or.inl rfl) | exact Or.inr (Or.inr rfl) | exact Or.inr (Or.inr (Or.inl rfl)) | exact Or.inr (Or.inr (Or.inr rfl))
    · rw [h1]
      first | exact Or.inl rfl | exact Or.inr rfl | exact Or.inr (Or.inl rfl) | exact Or.inr (Or.inr rfl) | exact Or.inr (Or.inr (Or.inl rfl)) | exact Or.inr (Or.inr (Or.inr rfl))
  · rw [h0, if_neg (by decide)]
    first | exact Or.inl rfl | exact Or.inr rfl | exact Or.inr (Or.inl rfl) | exact Or.inr (Or.inr rfl) | exact Or.inr (Or.inr (Or.inl rfl)) | exact Or.inr (Or.inr (Or.inr rfl))
theorem ly_q_pass (n : Nat) (Q : aq_Q) (a b : Int32) : aq_rgK a 1 100 = 0 ∨ aq_rgK a 1 100 = 1 := by
  rcases aq_rgK2 a 1 100 with h0 | h0
  · rw [h0]
    first | exact Or.inl rfl | exact Or.inr rfl | exact Or.inr (Or.inl rfl) | exact Or.inr (Or.inr rfl) | exact Or.inr (Or.inr (Or.inl rfl)) | exact Or.inr (Or.inr (Or.inr rfl))
  · rw [h0]
    first | exact Or.inl rfl | exact Or.inr rfl | exact Or.inr (Or.inl rfl) | exact Or.inr (Or.inr rfl) | exact Or.inr (Or.inr (Or.inl rfl)) | exact Or.inr (Or.inr (Or.inr rfl))
theorem ly_q_count (n : Nat) (Q : aq_Q) (a b : Int32) : aq_ixK a 12 = 0 ∨ aq_ixK a 12 = 2 := by
  rcases aq_ixK2 a 12 with h0 | h0
  · rw [h0]
    first | exact Or.inl rfl | exact Or.inr rfl | exact Or.inr (Or.inl rfl) | exact Or.inr (Or.inr rfl) | exact Or.inr (Or.inr (Or.inl rfl)) | exact Or.inr (Or.inr (Or.inr rfl))
  · rw [h0]
    first | exact Or.inl rfl | exact Or.inr rfl | exact Or.inr (Or.inl rfl) | exact Or.inr (Or.inr rfl) | exact Or.inr (Or.inr (Or.inl rfl)) | exact Or.inr (Or.inr (Or.inr rfl))
theorem ly_q_foresee (n : Nat) (Q : aq_Q) (a b : Int32) : aq_forK a b = 0 ∨ aq_forK a b = 1 ∨ aq_forK a b = 2 := by
  unfold aq_forK aq_seq
  rcases aq_rgK2 a 1 100 with h0 | h0
  · rw [h0, if_pos rfl]
    rcases aq_ixK2 b 4 with h1 | h1
    · rw [h1]
      first | exact Or.inl rfl | exact Or.inr rfl | exact Or.inr (Or.inl rfl) | exact Or.inr (Or.inr rfl) | exact Or.inr (Or.inr (Or.inl rfl)) | exact Or.inr (Or.inr (Or.inr rfl))
    · rw [h1]
      first | exact Or.inl rfl | exact Or.inr rfl | exact Or.inr (Or.inl rfl) | exact Or.inr (Or.inr rfl) | exact Or.inr (Or.inr (Or.inl rfl)) | exact Or.inr (Or.inr (Or.inr rfl))
  · rw [h0, if_neg (by decide)]
    first | exact Or.inl rfl | exact Or.inr rfl | exact Or.inr (Or.inl rfl) | exact Or.inr (Or.inr rfl) | exact Or.inr (Or.inr (Or.inl rfl)) | exact Or.inr (Or.inr (Or.inr rfl))
theorem ly_q_advise (n : Nat) (Q : aq_Q) (a b : Int32) : aq_rgK a 1 48 = 0 ∨ aq_rgK a 1 48 = 1 := by
  rcases aq_rgK2 a 1 48 with h0 | h0
  · rw [h0]
    first | exact Or.inl rfl | exact Or.inr rfl | exact Or.inr (Or.inl rfl) | exact Or.inr (Or.inr rfl) | exact Or.inr (Or.inr (Or.inl rfl)) | exact Or.inr (Or.inr (Or.inr rfl))
  · rw [h0]
    first | exact Or.inl rfl | exact Or.inr rfl | exact Or.inr (Or.inl rfl) | exact Or.inr (Or.inr rfl) | exact Or.inr (Or.inr (Or.inl rfl)) | exact Or.inr (Or.inr (Or.inr rfl))
set_option maxHeartbeats 4000000 in
set_option maxRecDepth 100000 in
theorem ly_c_build (l : Launch) (hlt : l.stackTraces = false) {p : Program} {e : Env} {s : State} {m : MethodId} {args : Array Value} {below : List Frame} {meth : Method} {c : Code} {Q : State → Prop} {D : va_G} {cI cQ cL cR : ClassId} {adC adR : Nat → Nat} {o bs : Nat} {VC VR : aq_V} {th : Int32} {f : Nat → Int64} {H : Heap} {locs : List Loc} {cells slots n h j L : Nat} {xs : Nat → Int32} {ls : Array Slot} (S : CallFix p m c cL_law 9 s args wsL_law RL) (E : ly_E s) (hD : ly_D adC adR o s.heap.size) (hX : va_X bs L xs s s.heap) (hbl : bs < s.heap.size) (hj : 3 * j + 2 < L) (hL : L ≤ 1536) (hR : ly_R n h VC VR) (hh : h ≤ 100000) (Wd : ly_W D cI cQ cL cR adC adR o VC VR th f s H) (hS : ly_S s H locs) (hc : cells + 200 ≤ 601024) (hs : slots + 2000 ≤ 7293034) (hl : lv_has ls 9 [(4, .int (nI (3 * j))), (3, .ref o), (2, .ref (adR 0)), (1, .ref (adC 0)), (0, .ref bs)])
    (K : ∀ (n' h' : Nat) (VC' VR' : aq_V) (th' : Int32) (f' : Nat → Int64) (H' : Heap) (locs' : List Loc) (ls' : Array Slot), h' ≤ h + 100 → ly_R n' h' VC' VR' → ly_W D cI cQ cL cR adC adR o VC' VR' th' f' s H' → ly_S s H' locs' → lv_has ls' 9 [(4, .int (nI (3 * j))), (3, .ref o), (2, .ref (adR 0)), (1, .ref (adC 0)), (0, .ref bs)] → W p l e room_1 s m args below meth c H' locs' (cells + 200) (slots + 2000) Q (F0 m 1097 ls' [])) : W p l e room_1 s m args below meth c H locs cells slots Q (F0 m 124 ls []) := by
  have hst : aR_st (VR 3) (VR 0) := by rw [hR.2.1]; exact hR.2.2.2.1
  have h4 : VR 0 10 4 = nI h := by rw [hR.2.1]; exact hR.1.2.2.1
  refine lv_aload_n S.1 S.2.1 dL_law_124 rfl (lv_at hl 3 rfl) ?_
  refine lv_aload_n S.1 S.2.1 dL_law_125 rfl (lv_at hl 4 rfl) ?_
  refine lv_iload S.1 S.2.1 dL_law_126 (lv_at hl 0 rfl) ?_
  refine lv_iconst (v := 1) S.1 S.2.1 dL_law_128 (by decide) ?_
  refine lv_iadd S.1 S.2.1 dL_law_129 ?_
  refine lv_topi (fun x1 (ex1 : x1 = nI (3 * j) + nI 1) => ?_)
  rw [nI_add] at ex1; subst ex1
  refine va_sld S.1 S.2.1 hX hbl (Nat.not_le.mpr hbl) hS (vp_in_nI (by omega) (by omega)) dL_law_130 ?_
  rw [nI_clamp (by omega)]
  generalize ha : xs (3 * j + 1) = a
  refine lv_aload_n S.1 S.2.1 dL_law_131 rfl (lv_at hl 4 rfl) ?_
  refine lv_iload S.1 S.2.1 dL_law_132 (lv_at hl 0 rfl) ?_
  refine lv_iconst (v := 2) S.1 S.2.1 dL_law_134 (by decide) ?_
  refine lv_iadd S.1 S.2.1 dL_law_135 ?_
  refine lv_topi (fun x2 (ex2 : x2 = nI (3 * j) + nI 2) => ?_)
  rw [nI_add] at ex2; subst ex2
  refine va_sld S.1 S.2.1 hX hbl (Nat.not_le.mpr hbl) hS (vp_in_nI (by omega) (by omega)) dL_law_136 ?_
  rw [nI_clamp (by omega)]
  generalize hb : xs (3 * j + 2) = b
  refine lv_aload_n S.1 S.2.1 dL_law_137 rfl (lv_at hl 1 rfl) ?_
  have hMx := c_X2_build l hlt (D := D) (cI := cI) (cQ := cQ) hD.1.1 (V := VC) (Q := VC 0) (n := n) hR.1.2.1 hR.1.1 a b
  simp only [aq_ug_id, aq_tc_id] at hMx
  have hMx := c_L_build l (cL := cL) (f := f) hD.2.2.1.1 a b hMx (ly_q_build n (VC 0) a b)
  have hk := ly_k_build hR a b
  rw [hk] at hMx
  refine ly_wrap (As := [.ref (adC 0), .int a, .int b, .ref o]) (rest := []) S E hD hMx (vx_cwSW 4 S.2.2.2.2 gL_law_L_build rfl rfl rfl (by decide +kernel) ⟨(Nat.le_of_ble_eq_true rfl), (Nat.le_of_ble_eq_true rfl)⟩) Wd hS hl.1 dL_law_138 rfl rfl (Nat.le_of_ble_eq_true rfl) ⟨by show _ ≤ 601024; omega, by show _ ≤ 7293034; omega⟩ (fun H locs f1 hf1 Wd hS => ?_)
  refine lv_istore (lv' := [(5, .int (aR_buildT n (VR 3) a b)), (4, .int (nI (3 * j))), (3, .ref o), (2, .ref (adR 0)), (1, .ref (adC 0)), (0, .ref bs)]) S.1 S.2.1 dL_law_141 hl (by decide) rfl (fun ls hl => ?_)
  refine lv_aload_n S.1 S.2.1 dL_law_143 rfl (lv_at hl 3 rfl) ?_
  refine lv_aload_n S.1 S.2.1 dL_law_144 rfl (lv_at hl 5 rfl) ?_
  refine lv_iload S.1 S.2.1 dL_law_145 (lv_at hl 1 rfl) ?_
  refine lv_iconst (v := 1) S.1 S.2.1 dL_law_147 (by decide) ?_
  refine lv_iadd S.1 S.2.1 dL_law_148 ?_
  refine lv_topi (fun x3 (ex3 : x3 = nI (3 * j) + nI 1) => ?_)
  rw [nI_add] at ex3; subst ex3
  refine va_sld S.1 S.2.1 hX hbl (Nat.not_le.mpr hbl) hS (vp_in_nI (by omega) (by omega)) dL_law_149 ?_
  rw [nI_clamp (by omega)]
  rw [ha]
  refine lv_aload_n S.1 S.2.1 dL_law_150 rfl (lv_at hl 5 rfl) ?_
  refine lv_iload S.1 S.2.1 dL_law_151 (lv_at hl 1 rfl) ?_
  refine lv_iconst (v := 2) S.1 S.2.1 dL_law_153 (by decide) ?_
  refine lv_iadd S.1 S.2.1 dL_law_154 ?_
  refine lv_topi (fun x4 (ex4 : x4 = nI (3 * j) + nI 2) => ?_)
  rw [nI_add] at ex4; subst ex4
  refine va_sld S.1 S.2.1 hX hbl (Nat.not_le.mpr hbl) hS (vp_in_nI (by omega) (by omega)) dL_law_155 ?_
  rw [nI_clamp (by omega)]
  rw [hb]
  have hMm := c_X4_build l (D := D) (cI := cR) (th := th) hD.1.2 (V := VR) (G := VR 3) (n := n) hR.2.2.2.2 hR.1.1 a b
  simp only [aq_ug_id] at hMm
  refine ly_mod (As := [.int a, .int b]) (rest := []) S E hD hMm (cwV 2 S.2.2.2.2 gL_law_X4_build rfl rfl rfl (by decide +kernel) ⟨(Nat.le_of_ble_eq_true rfl), (Nat.le_of_ble_eq_true rfl)⟩) Wd hS hl.1 dL_law_156 rfl rfl (Nat.le_of_ble_eq_true rfl) ⟨by show _ ≤ 601024; omega, by show _ ≤ 7293034; omega⟩ (fun H locs Wd hS => ?_)
  refine lv_istore (lv' := [(6, .int (if aR_buildT n (VR 3) a b = 0 then nI n else 0)), (5, .int (aR_buildT n (VR 3) a b)), (4, .int (nI (3 * j))), (3, .ref o), (2, .ref (adR 0)), (1, .ref (adC 0)), (0, .ref bs)]) S.1 S.2.1 dL_law_159 hl (by decide) rfl (fun ls hl => ?_)
  refine lv_aload_n S.1 S.2.1 dL_law_161 rfl (lv_at hl 4 rfl) ?_
  refine ly_mod (As := []) (rest := []) S E hD (c_X4_thrown l hD.1.2) (cwV 0 S.2.2.2.2 gL_law_X4_thrown rfl rfl rfl (by decide +kernel) ⟨(Nat.le_of_ble_eq_true rfl), (Nat.le_of_ble_eq_true rfl)⟩) Wd hS hl.1 dL_law_162 rfl rfl (Nat.le_of_ble_eq_true rfl) ⟨by show _ ≤ 601024; omega, by show _ ≤ 7293034; omega⟩ (fun H locs Wd hS => ?_)
  refine lv_iload S.1 S.2.1 dL_law_165 (lv_at hl 1 rfl) ?_
  refine lv_icmp_eq (tgt := 172) S.1 S.2.1 dL_law_167 (by decide) (fun _ => ?_) (fun c1 => absurd rfl c1)
  obtain ⟨n1, h1, VR1, hh1, hR1, he1⟩ := ly_s_build hR hh a b
  have Wd1 : ly_W D cI cQ cL cR adC adR o _ VR1 _ f1 s H := ⟨Wd.1, Wd.2.1, ly_eqR Wd.2.2 he1⟩
  have fin : W p l e room_1 s m args below meth c H locs (cells + 200) (slots + 2000) Q (F0 m 1097 ls []) := K n1 h1 _ VR1 _ f1 H locs ls hh1 hR1 Wd1 hS (lv_sub hl [2, 3, 4, 5, 6] rfl)
  refine lv_iload S.1 S.2.1 dL_law_172 (lv_at hl 1 rfl) ?_
  refine lv_if_ne (tgt := 189) S.1 S.2.1 dL_law_174 (by decide) (fun _ => ?_) (fun hz => ?_)
  · refine lv_goto (tgt := 1097) S.1 S.2.1 dL_law_189 (by decide) ?_
    exact W.widen (by omega) (by omega) fin
  · have h0 : aq_buildK n (VC 0) a b = 0 := pu_k0 (by decide) (by decide) (by decide) (hk.trans hz)
    have hrr := ly_r_build hR hh a b hz
    refine lv_aload_n S.1 S.2.1 dL_law_177 rfl (lv_at hl 3 rfl) ?_
    refine lv_iconst (v := 0) S.1 S.2.1 dL_law_178 (by decide) ?_
    refine va_lald (D := D) S.1 S.2.1 Wd.1.2.2.1 Wd.1.2.2.2 0 0 rfl rfl (by rw [← nI_0]; exact vp_in_nI (by omega) (by omega)) dL_law_179 ?_
    refine lv_iload S.1 S.2.1 dL_law_180 (lv_at hl 0 rfl) ?_
    refine lv_i2l S.1 S.2.1 dL_law_182 rfl ?_
    refine W.lcmp S.1 S.2.1 dL_law_183 ?_
    have hcm : lg_cmp (f1 (0 : Int32).toNatClampNeg) (Int32.toInt64 (if aR_buildT n (VR 3) a b = 0 then nI n else 0)) = 0 := by
      rw [if_pos hz, hrr, show (0 : Int32).toNatClampNeg = 0 from rfl, hf1 h0]
      simp [lg_cmp]
    rw [hcm]
    refine lv_if_eq (tgt := 189) S.1 S.2.1 dL_law_184 (by decide) (fun _ => ?_) (fun c2 => absurd rfl c2)
    refine lv_goto (tgt := 1097) S.1 S.2.1 dL_law_189 (by decide) ?_
    exact W.widen (by omega) (by omega) fin
set_option maxHeartbeats 4000000 in
set_option maxRecDepth 100000 in
theorem ly_c_setSpring (l : Launch) (hlt : l.stackTraces = false) {p : Program} {e : Env} {s : State} {m : MethodId} {args : Array Value} {below : List Frame} {meth : Method} {c : Code} {Q : State → Prop} {D : va_G} {cI cQ cL cR : ClassId} {adC adR : Nat → Nat} {o bs : Nat} {VC VR : aq_V} {th : Int32} {f : Nat → Int64} {H : Heap} {locs : List Loc} {cells slots n h j L : Nat} {xs : Nat → Int32} {ls : Array Slot} (S : CallFix p m c cL_law 9 s args wsL_law RL) (E : ly_E s) (hD : ly_D adC adR o s.heap.size) (hX : va_X bs L xs s s.heap) (hbl : bs < s.heap.size) (hj : 3 * j + 2 < L) (hL : L ≤ 1536) (hR : ly_R n h VC VR) (hh : h ≤ 100000) (Wd : ly_W D cI cQ cL cR adC adR o VC VR th f s H) (hS : ly_S s H locs) (hc : cells + 200 ≤ 601024) (hs : slots + 2000 ≤ 7293034) (hl : lv_has ls 9 [(4, .int (nI (3 * j))), (3, .ref o), (2, .ref (adR 0)), (1, .ref (adC 0)), (0, .ref bs)])
    (K : ∀ (n' h' : Nat) (VC' VR' : aq_V) (th' : Int32) (f' : Nat → Int64) (H' : Heap) (locs' : List Loc) (ls' : Array Slot), h' ≤ h + 100 → ly_R n' h' VC' VR' → ly_W D cI cQ cL cR adC adR o VC' VR' th' f' s H' → ly_S s H' locs' → lv_has ls' 9 [(4, .int (nI (3 * j))), (3, .ref o), (2, .ref (adR 0)), (1, .ref (adC 0)), (0, .ref bs)] → W p l e room_1 s m args below meth c H' locs' (cells + 200) (slots + 2000) Q (F0 m 1097 ls' [])) : W p l e room_1 s m args below meth c H locs cells slots Q (F0 m 192 ls []) := by
  have hst : aR_st (VR 3) (VR 0) := by rw [hR.2.1]; exact hR.2.2.2.1
  have h4 : VR 0 10 4 = nI h := by rw [hR.2.1]; exact hR.1.2.2.1
  refine lv_aload_n S.1 S.2.1 dL_law_192 rfl (lv_at hl 3 rfl) ?_
  refine lv_aload_n S.1 S.2.1 dL_law_193 rfl (lv_at hl 4 rfl) ?_
  refine lv_iload S.1 S.2.1 dL_law_194 (lv_at hl 0 rfl) ?_
  refine lv_iconst (v := 1) S.1 S.2.1 dL_law_196 (by decide) ?_
  refine lv_iadd S.1 S.2.1 dL_law_197 ?_
  refine lv_topi (fun x1 (ex1 : x1 = nI (3 * j) + nI 1) => ?_)
  rw [nI_add] at ex1; subst ex1
  refine va_sld S.1 S.2.1 hX hbl (Nat.not_le.mpr hbl) hS (vp_in_nI (by omega) (by omega)) dL_law_198 ?_
  rw [nI_clamp (by omega)]
  generalize ha : xs (3 * j + 1) = a
  refine lv_aload_n S.1 S.2.1 dL_law_199 rfl (lv_at hl 4 rfl) ?_
  refine lv_iload S.1 S.2.1 dL_law_200 (lv_at hl 0 rfl) ?_
  refine lv_iconst (v := 2) S.1 S.2.1 dL_law_202 (by decide) ?_
  refine lv_iadd S.1 S.2.1 dL_law_203 ?_
  refine lv_topi (fun x2 (ex2 : x2 = nI (3 * j) + nI 2) => ?_)
  rw [nI_add] at ex2; subst ex2
  refine va_sld S.1 S.2.1 hX hbl (Nat.not_le.mpr hbl) hS (vp_in_nI (by omega) (by omega)) dL_law_204 ?_
  rw [nI_clamp (by omega)]
  generalize hb : xs (3 * j + 2) = b
  refine lv_aload_n S.1 S.2.1 dL_law_205 rfl (lv_at hl 1 rfl) ?_
  have hMx := c_X2_setSpring l hlt (D := D) (cI := cI) (cQ := cQ) hD.1.1 (V := VC) (T := VC 2) a b
  simp only [aq_ug_id, aq_tc_id] at hMx
  have hMx := c_L_setSpring l (cL := cL) (f := f) hD.2.2.1.1 a b hMx (ly_q_setSpring n (VC 0) a b)
  have hk := ly_k_setSpring hR a b
  rw [hk] at hMx
  refine ly_wrap (As := [.ref (adC 0), .int a, .int b, .ref o]) (rest := []) S E hD hMx (vx_cwSW 4 S.2.2.2.2 gL_law_L_setSpring rfl rfl rfl (by decide +kernel) ⟨(Nat.le_of_ble_eq_true rfl), (Nat.le_of_ble_eq_true rfl)⟩) Wd hS hl.1 dL_law_206 rfl rfl (Nat.le_of_ble_eq_true rfl) ⟨by show _ ≤ 601024; omega, by show _ ≤ 7293034; omega⟩ (fun H locs f1 hf1 Wd hS => ?_)
  refine lv_istore (lv' := [(5, .int (aR_setT a b)), (4, .int (nI (3 * j))), (3, .ref o), (2, .ref (adR 0)), (1, .ref (adC 0)), (0, .ref bs)]) S.1 S.2.1 dL_law_209 hl (by decide) rfl (fun ls hl => ?_)
  refine lv_aload_n S.1 S.2.1 dL_law_211 rfl (lv_at hl 3 rfl) ?_
  refine lv_aload_n S.1 S.2.1 dL_law_212 rfl (lv_at hl 5 rfl) ?_
  refine lv_iload S.1 S.2.1 dL_law_213 (lv_at hl 1 rfl) ?_
  refine lv_iconst (v := 1) S.1 S.2.1 dL_law_215 (by decide) ?_
  refine lv_iadd S.1 S.2.1 dL_law_216 ?_
  refine lv_topi (fun x3 (ex3 : x3 = nI (3 * j) + nI 1) => ?_)
  rw [nI_add] at ex3; subst ex3
  refine va_sld S.1 S.2.1 hX hbl (Nat.not_le.mpr hbl) hS (vp_in_nI (by omega) (by omega)) dL_law_217 ?_
  rw [nI_clamp (by omega)]
  rw [ha]
  refine lv_aload_n S.1 S.2.1 dL_law_218 rfl (lv_at hl 5 rfl) ?_
  refine lv_iload S.1 S.2.1 dL_law_219 (lv_at hl 1 rfl) ?_
  refine lv_iconst (v := 2) S.1 S.2.1 dL_law_221 (by decide) ?_
  refine lv_iadd S.1 S.2.1 dL_law_222 ?_
  refine lv_topi (fun x4 (ex4 : x4 = nI (3 * j) + nI 2) => ?_)
  rw [nI_add] at ex4; subst ex4
  refine va_sld S.1 S.2.1 hX hbl (Nat.not_le.mpr hbl) hS (vp_in_nI (by omega) (by omega)) dL_law_223 ?_
  rw [nI_clamp (by omega)]
  rw [hb]
  have hMm := c_X4_setSpring l (D := D) (cI := cR) (th := th) hD.1.2 (V := VR) (T := VR 2) a b
  simp only [aq_ug_id] at hMm
  refine ly_mod (As := [.int a, .int b]) (rest := []) S E hD hMm (cwV 2 S.2.2.2.2 gL_law_X4_setSpring rfl rfl rfl (by decide +kernel) ⟨(Nat.le_of_ble_eq_true rfl), (Nat.le_of_ble_eq_true rfl)⟩) Wd hS hl.1 dL_law_224 rfl rfl (Nat.le_of_ble_eq_true rfl) ⟨by show _ ≤ 601024; omega, by show _ ≤ 7293034; omega⟩ (fun H locs Wd hS => ?_)
  refine lv_istore (lv' := [(6, .int (if aR_setT a b = 0 then VR 2 0 a.toNatClampNeg else 0)), (5, .int (aR_setT a b)), (4, .int (nI (3 * j))), (3, .ref o), (2, .ref (adR 0)), (1, .ref (adC 0)), (0, .ref bs)]) S.1 S.2.1 dL_law_227 hl (by decide) rfl (fun ls hl => ?_)
  refine lv_aload_n S.1 S.2.1 dL_law_229 rfl (lv_at hl 4 rfl) ?_
  refine ly_mod (As := []) (rest := []) S E hD (c_X4_thrown l hD.1.2) (cwV 0 S.2.2.2.2 gL_law_X4_thrown rfl rfl rfl (by decide +kernel) ⟨(Nat.le_of_ble_eq_true rfl), (Nat.le_of_ble_eq_true rfl)⟩) Wd hS hl.1 dL_law_230 rfl rfl (Nat.le_of_ble_eq_true rfl) ⟨by show _ ≤ 601024; omega, by show _ ≤ 7293034; omega⟩ (fun H locs Wd hS => ?_)
  refine lv_iload S.1 S.2.1 dL_law_233 (lv_at hl 1 rfl) ?_
  refine lv_icmp_eq (tgt := 240) S.1 S.2.1 dL_law_235 (by decide) (fun _ => ?_) (fun c1 => absurd rfl c1)
  obtain ⟨n1, h1, VR1, hh1, hR1, he1⟩ := ly_s_setSpring hR hh a b
  have Wd1 : ly_W D cI cQ cL cR adC adR o _ VR1 _ f1 s H := ⟨Wd.1, Wd.2.1, ly_eqR Wd.2.2 he1⟩
  have fin : W p l e room_1 s m args below meth c H locs (cells + 200) (slots + 2000) Q (F0 m 1097 ls []) := K n1 h1 _ VR1 _ f1 H locs ls hh1 hR1 Wd1 hS (lv_sub hl [2, 3, 4, 5, 6] rfl)
  refine lv_iload S.1 S.2.1 dL_law_240 (lv_at hl 1 rfl) ?_
  refine lv_if_ne (tgt := 257) S.1 S.2.1 dL_law_242 (by decide) (fun _ => ?_) (fun hz => ?_)
  · refine lv_goto (tgt := 1097) S.1 S.2.1 dL_law_257 (by decide) ?_
    exact W.widen (by omega) (by omega) fin
  · have h0 : aq_setK a b = 0 := pu_k0 (by decide) (by decide) (by decide) (hk.trans hz)
    have hrr := ly_r_setSpring hR hh a b hz
    refine lv_aload_n S.1 S.2.1 dL_law_245 rfl (lv_at hl 3 rfl) ?_
    refine lv_iconst (v := 0) S.1 S.2.1 dL_law_246 (by decide) ?_
    refine va_lald (D := D) S.1 S.2.1 Wd.1.2.2.1 Wd.1.2.2.2 0 0 rfl rfl (by rw [← nI_0]; exact vp_in_nI (by omega) (by omega)) dL_law_247 ?_
    refine lv_iload S.1 S.2.1 dL_law_248 (lv_at hl 0 rfl) ?_
    refine lv_i2l S.1 S.2.1 dL_law_250 rfl ?_
    refine W.lcmp S.1 S.2.1 dL_law_251 ?_
    have hcm : lg_cmp (f1 (0 : Int32).toNatClampNeg) (Int32.toInt64 (if aR_setT a b = 0 then VR 2 0 a.toNatClampNeg else 0)) = 0 := by
      rw [if_pos hz, hrr, show (0 : Int32).toNatClampNeg = 0 from rfl, hf1 h0]
      simp [lg_cmp]
    rw [hcm]
    refine lv_if_eq (tgt := 257) S.1 S.2.1 dL_law_252 (by decide) (fun _ => ?_) (fun c2 => absurd rfl c2)
    refine lv_goto (tgt := 1097) S.1 S.2.1 dL_law_257 (by decide) ?_
    exact W.widen (by omega) (by omega) fin
set_option maxHeartbeats 4000000 in
set_option maxRecDepth 100000 in
theorem ly_c_setCity (l : Launch) (hlt : l.stackTraces = false) {p : Program} {e : Env} {s : State} {m : MethodId} {args : Array Value} {below : List Frame} {meth : Method} {c : Code} {Q : State → Prop} {D : va_G} {cI cQ cL cR : ClassId} {adC adR : Nat → Nat} {o bs : Nat} {VC VR : aq_V} {th : Int32} {f : Nat → Int64} {H : Heap} {locs : List Loc} {cells slots n h j L : Nat} {xs : Nat → Int32} {ls : Array Slot} (S : CallFix p m c cL_law 9 s args wsL_law RL) (E : ly_E s) (hD : ly_D adC adR o s.heap.size) (hX : va_X bs L xs s s.heap) (hbl : bs < s.heap.size) (hj : 3 * j + 2 < L) (hL : L ≤ 1536) (hR : ly_R n h VC VR) (hh : h ≤ 100000) (Wd : ly_W D cI cQ cL cR adC adR o VC VR th f s H) (hS : ly_S s H locs) (hc : cells + 200 ≤ 601024) (hs : slots + 2000 ≤ 7293034) (hl : lv_has ls 9 [(4, .int (nI (3 * j))), (3, .ref o), (2, .ref (adR 0)), (1, .ref (adC 0)), (0, .ref bs)])
    (K : ∀ (n' h' : Nat) (VC' VR' : aq_V) (th' : Int32) (f' : Nat → Int64) (H' : Heap) (locs' : List Loc) (ls' : Array Slot), h' ≤ h + 100 → ly_R n' h' VC' VR' → ly_W D cI cQ cL cR adC adR o VC' VR' th' f' s H' → ly_S s H' locs' → lv_has ls' 9 [(4, .int (nI (3 * j))), (3, .ref o), (2, .ref (adR 0)), (1, .ref (adC 0)), (0, .ref bs)] → W p l e room_1 s m args below meth c H' locs' (cells + 200) (slots + 2000) Q (F0 m 1097 ls' [])) : W p l e room_1 s m args below meth c H locs cells slots Q (F0 m 260 ls []) := by
  have hst : aR_st (VR 3) (VR 0) := by rw [hR.2.1]; exact hR.2.2.2.1
  have h4 : VR 0 10 4 = nI h := by rw [hR.2.1]; exact hR.1.2.2.1
  refine lv_aload_n S.1 S.2.1 dL_law_260 rfl (lv_at hl 3 rfl) ?_
  refine lv_aload_n S.1 S.2.1 dL_law_261 rfl (lv_at hl 4 rfl) ?_
  refine lv_iload S.1 S.2.1 dL_law_262 (lv_at hl 0 rfl) ?_
  refine lv_iconst (v := 1) S.1 S.2.1 dL_law_264 (by decide) ?_
  refine lv_iadd S.1 S.2.1 dL_law_265 ?_
  refine lv_topi (fun x1 (ex1 : x1 = nI (3 * j) + nI 1) => ?_)
  rw [nI_add] at ex1; subst ex1
  refine va_sld S.1 S.2.1 hX hbl (Nat.not_le.mpr hbl) hS (vp_in_nI (by omega) (by omega)) dL_law_266 ?_
  rw [nI_clamp (by omega)]
  generalize ha : xs (3 * j + 1) = a
  refine lv_aload_n S.1 S.2.1 dL_law_267 rfl (lv_at hl 4 rfl) ?_
  refine lv_iload S.1 S.2.1 dL_law_268 (lv_at hl 0 rfl) ?_
  refine lv_iconst (v := 2) S.1 S.2.1 dL_law_270 (by decide) ?_
  refine lv_iadd S.1 S.2.1 dL_law_271 ?_
  refine lv_topi (fun x2 (ex2 : x2 = nI (3 * j) + nI 2) => ?_)
  rw [nI_add] at ex2; subst ex2
  refine va_sld S.1 S.2.1 hX hbl (Nat.not_le.mpr hbl) hS (vp_in_nI (by omega) (by omega)) dL_law_272 ?_
  rw [nI_clamp (by omega)]
  generalize hb : xs (3 * j + 2) = b
  refine lv_aload_n S.1 S.2.1 dL_law_273 rfl (lv_at hl 1 rfl) ?_
  have hMx := c_X2_setCity l hlt (D := D) (cI := cI) (cQ := cQ) hD.1.1 (V := VC) (T := VC 2) a b
  simp only [aq_ug_id, aq_tc_id] at hMx
  have hMx := c_L_setCity l (cL := cL) (f := f) hD.2.2.1.1 a b hMx (ly_q_setSpring n (VC 0) a b)
  have hk := ly_k_setCity hR a b
  rw [hk] at hMx
  refine ly_wrap (As := [.ref (adC 0), .int a, .int b, .ref o]) (rest := []) S E hD hMx (vx_cwSW 4 S.2.2.2.2 gL_law_L_setCity rfl rfl rfl (by decide +kernel) ⟨(Nat.le_of_ble_eq_true rfl), (Nat.le_of_ble_eq_true rfl)⟩) Wd hS hl.1 dL_law_274 rfl rfl (Nat.le_of_ble_eq_true rfl) ⟨by show _ ≤ 601024; omega, by show _ ≤ 7293034; omega⟩ (fun H locs f1 hf1 Wd hS => ?_)
  refine lv_istore (lv' := [(5, .int (aR_setT a b)), (4, .int (nI (3 * j))), (3, .ref o), (2, .ref (adR 0)), (1, .ref (adC 0)), (0, .ref bs)]) S.1 S.2.1 dL_law_277 hl (by decide) rfl (fun ls hl => ?_)
  refine lv_aload_n S.1 S.2.1 dL_law_279 rfl (lv_at hl 3 rfl) ?_
  refine lv_aload_n S.1 S.2.1 dL_law_280 rfl (lv_at hl 5 rfl) ?_
  refine lv_iload S.1 S.2.1 dL_law_281 (lv_at hl 1 rfl) ?_
  refine lv_iconst (v := 1) S.1 S.2.1 dL_law_283 (by decide) ?_
  refine lv_iadd S.1 S.2.1 dL_law_284 ?_
  refine lv_topi (fun x3 (ex3 : x3 = nI (3 * j) + nI 1) => ?_)
  rw [nI_add] at ex3; subst ex3
  refine va_sld S.1 S.2.1 hX hbl (Nat.not_le.mpr hbl) hS (vp_in_nI (by omega) (by omega)) dL_law_285 ?_
  rw [nI_clamp (by omega)]
  rw [ha]
  refine lv_aload_n S.1 S.2.1 dL_law_286 rfl (lv_at hl 5 rfl) ?_
  refine lv_iload S.1 S.2.1 dL_law_287 (lv_at hl 1 rfl) ?_
  refine lv_iconst (v := 2) S.1 S.2.1 dL_law_289 (by decide) ?_
  refine lv_iadd S.1 S.2.1 dL_law_290 ?_
  refine lv_topi (fun x4 (ex4 : x4 = nI (3 * j) + nI 2) => ?_)
  rw [nI_add] at ex4; subst ex4
  refine va_sld S.1 S.2.1 hX hbl (Nat.not_le.mpr hbl) hS (vp_in_nI (by omega) (by omega)) dL_law_291 ?_
  rw [nI_clamp (by omega)]
  rw [hb]
  have hMm := c_X4_setCity l (D := D) (cI := cR) (th := th) hD.1.2 (V := VR) (T := VR 2) a b
  simp only [aq_ug_id] at hMm
  refine ly_mod (As := [.int a, .int b]) (rest := []) S E hD hMm (cwV 2 S.2.2.2.2 gL_law_X4_setCity rfl rfl rfl (by decide +kernel) ⟨(Nat.le_of_ble_eq_true rfl), (Nat.le_of_ble_eq_true rfl)⟩) Wd hS hl.1 dL_law_292 rfl rfl (Nat.le_of_ble_eq_true rfl) ⟨by show _ ≤ 601024; omega, by show _ ≤ 7293034; omega⟩ (fun H locs Wd hS => ?_)
  refine lv_istore (lv' := [(6, .int (if aR_setT a b = 0 then VR 2 1 a.toNatClampNeg else 0)), (5, .int (aR_setT a b)), (4, .int (nI (3 * j))), (3, .ref o), (2, .ref (adR 0)), (1, .ref (adC 0)), (0, .ref bs)]) S.1 S.2.1 dL_law_295 hl (by decide) rfl (fun ls hl => ?_)
  refine lv_aload_n S.1 S.2.1 dL_law_297 rfl (lv_at hl 4 rfl) ?_
  refine ly_mod (As := []) (rest := []) S E hD (c_X4_thrown l hD.1.2) (cwV 0 S.2.2.2.2 gL_law_X4_thrown rfl rfl rfl (by decide +kernel) ⟨(Nat.le_of_ble_eq_true rfl), (Nat.le_of_ble_eq_true rfl)⟩) Wd hS hl.1 dL_law_298 rfl rfl (Nat.le_of_ble_eq_true rfl) ⟨by show _ ≤ 601024; omega, by show _ ≤ 7293034; omega⟩ (fun H locs Wd hS => ?_)
  refine lv_iload S.1 S.2.1 dL_law_301 (lv_at hl 1 rfl) ?_
  refine lv_icmp_eq (tgt := 308) S.1 S.2.1 dL_law_303 (by decide) (fun _ => ?_) (fun c1 => absurd rfl c1)
  obtain ⟨n1, h1, VR1, hh1, hR1, he1⟩ := ly_s_setCity hR hh a b
  have Wd1 : ly_W D cI cQ cL cR adC adR o _ VR1 _ f1 s H := ⟨Wd.1, Wd.2.1, ly_eqR Wd.2.2 he1⟩
  have fin : W p l e room_1 s m args below meth c H locs (cells + 200) (slots + 2000) Q (F0 m 1097 ls []) := K n1 h1 _ VR1 _ f1 H locs ls hh1 hR1 Wd1 hS (lv_sub hl [2, 3, 4, 5, 6] rfl)
  refine lv_iload S.1 S.2.1 dL_law_308 (lv_at hl 1 rfl) ?_
  refine lv_if_ne (tgt := 325) S.1 S.2.1 dL_law_310 (by decide) (fun _ => ?_) (fun hz => ?_)
  · refine lv_goto (tgt := 1097) S.1 S.2.1 dL_law_325 (by decide) ?_
    exact W.widen (by omega) (by omega) fin
  · have h0 : aq_setK a b = 0 := pu_k0 (by decide) (by decide) (by decide) (hk.trans hz)
    have hrr := ly_r_setCity hR hh a b hz
    refine lv_aload_n S.1 S.2.1 dL_law_313 rfl (lv_at hl 3 rfl) ?_
    refine lv_iconst (v := 0) S.1 S.2.1 dL_law_314 (by decide) ?_
    refine va_lald (D := D) S.1 S.2.1 Wd.1.2.2.1 Wd.1.2.2.2 0 0 rfl rfl (by rw [← nI_0]; exact vp_in_nI (by omega) (by omega)) dL_law_315 ?_
    refine lv_iload S.1 S.2.1 dL_law_316 (lv_at hl 0 rfl) ?_
    refine lv_i2l S.1 S.2.1 dL_law_318 rfl ?_
    refine W.lcmp S.1 S.2.1 dL_law_319 ?_
    have hcm : lg_cmp (f1 (0 : Int32).toNatClampNeg) (Int32.toInt64 (if aR_setT a b = 0 then VR 2 1 a.toNatClampNeg else 0)) = 0 := by
      rw [if_pos hz, hrr, show (0 : Int32).toNatClampNeg = 0 from rfl, hf1 h0]
      simp [lg_cmp]
    rw [hcm]
    refine lv_if_eq (tgt := 325) S.1 S.2.1 dL_law_320 (by decide) (fun _ => ?_) (fun c2 => absurd rfl c2)
    refine lv_goto (tgt := 1097) S.1 S.2.1 dL_law_325 (by decide) ?_
    exact W.widen (by omega) (by omega) fin
set_option maxHeartbeats 4000000 in
set_option maxRecDepth 100000 in
theorem ly_c_setCistern (l : Launch) (hlt : l.stackTraces = false) {p : Program} {e : Env} {s : State} {m : MethodId} {args : Array Value} {below : List Frame} {meth : Method} {c : Code} {Q : State → Prop} {D : va_G} {cI cQ cL cR : ClassId} {adC adR : Nat → Nat} {o bs : Nat} {VC VR : aq_V} {th : Int32} {f : Nat → Int64} {H : Heap} {locs : List Loc} {cells slots n h j L : Nat} {xs : Nat → Int32} {ls : Array Slot} (S : CallFix p m c cL_law 9 s args wsL_law RL) (E : ly_E s) (hD : ly_D adC adR o s.heap.size) (hX : va_X bs L xs s s.heap) (hbl : bs < s.heap.size) (hj : 3 * j + 2 < L) (hL : L ≤ 1536) (hR : ly_R n h VC VR) (hh : h ≤ 100000) (Wd : ly_W D cI cQ cL cR adC adR o VC VR th f s H) (hS : ly_S s H locs) (hc : cells + 200 ≤ 601024) (hs : slots + 2000 ≤ 7293034) (hl : lv_has ls 9 [(4, .int (nI (3 * j))), (3, .ref o), (2, .ref (adR 0)), (1, .ref (adC 0)), (0, .ref bs)])
    (K : ∀ (n' h' : Nat) (VC' VR' : aq_V) (th' : Int32) (f' : Nat → Int64) (H' : Heap) (locs' : List Loc) (ls' : Array Slot), h' ≤ h + 100 → ly_R n' h' VC' VR' → ly_W D cI cQ cL cR adC adR o VC' VR' th' f' s H' → ly_S s H' locs' → lv_has ls' 9 [(4, .int (nI (3 * j))), (3, .ref o), (2, .ref (adR 0)), (1, .ref (adC 0)), (0, .ref bs)] → W p l e room_1 s m args below meth c H' locs' (cells + 200) (slots + 2000) Q (F0 m 1097 ls' [])) : W p l e room_1 s m args below meth c H locs cells slots Q (F0 m 328 ls []) := by
  have hst : aR_st (VR 3) (VR 0) := by rw [hR.2.1]; exact hR.2.2.2.1
  have h4 : VR 0 10 4 = nI h := by rw [hR.2.1]; exact hR.1.2.2.1
  refine lv_aload_n S.1 S.2.1 dL_law_328 rfl (lv_at hl 3 rfl) ?_
  refine lv_aload_n S.1 S.2.1 dL_law_329 rfl (lv_at hl 4 rfl) ?_
  refine lv_iload S.1 S.2.1 dL_law_330 (lv_at hl 0 rfl) ?_
  refine lv_iconst (v := 1) S.1 S.2.1 dL_law_332 (by decide) ?_
  refine lv_iadd S.1 S.2.1 dL_law_333 ?_
  refine lv_topi (fun x1 (ex1 : x1 = nI (3 * j) + nI 1) => ?_)
  rw [nI_add] at ex1; subst ex1
  refine va_sld S.1 S.2.1 hX hbl (Nat.not_le.mpr hbl) hS (vp_in_nI (by omega) (by omega)) dL_law_334 ?_
  rw [nI_clamp (by omega)]
  generalize ha : xs (3 * j + 1) = a
  refine lv_aload_n S.1 S.2.1 dL_law_335 rfl (lv_at hl 1 rfl) ?_
  have hMx := c_X2_setCistern l hlt (D := D) (cI := cI) (cQ := cQ) hD.1.1 (V := VC) (Q := VC 0) a
  simp only [aq_ug_id, aq_tc_id] at hMx
  have hMx := c_L_setCistern l (cL := cL) (f := f) hD.2.2.1.1 a hMx (ly_q_setCistern n (VC 0) a a)
  have hk := ly_k_setCistern hR a
  rw [hk] at hMx
  refine ly_wrap (As := [.ref (adC 0), .int a, .ref o]) (rest := []) S E hD hMx (vx_cwSW 3 S.2.2.2.2 gL_law_L_setCistern rfl rfl rfl (by decide +kernel) ⟨(Nat.le_of_ble_eq_true rfl), (Nat.le_of_ble_eq_true rfl)⟩) Wd hS hl.1 dL_law_336 rfl rfl (Nat.le_of_ble_eq_true rfl) ⟨by show _ ≤ 601024; omega, by show _ ≤ 7293034; omega⟩ (fun H locs f1 hf1 Wd hS => ?_)
  refine lv_istore (lv' := [(5, .int (aR_cisT a)), (4, .int (nI (3 * j))), (3, .ref o), (2, .ref (adR 0)), (1, .ref (adC 0)), (0, .ref bs)]) S.1 S.2.1 dL_law_339 hl (by decide) rfl (fun ls hl => ?_)
  refine lv_aload_n S.1 S.2.1 dL_law_341 rfl (lv_at hl 3 rfl) ?_
  refine lv_aload_n S.1 S.2.1 dL_law_342 rfl (lv_at hl 5 rfl) ?_
  refine lv_iload S.1 S.2.1 dL_law_343 (lv_at hl 1 rfl) ?_
  refine lv_iconst (v := 1) S.1 S.2.1 dL_law_345 (by decide) ?_
  refine lv_iadd S.1 S.2.1 dL_law_346 ?_
  refine lv_topi (fun x2 (ex2 : x2 = nI (3 * j) + nI 1) => ?_)
  rw [nI_add] at ex2; subst ex2
  refine va_sld S.1 S.2.1 hX hbl (Nat.not_le.mpr hbl) hS (vp_in_nI (by omega) (by omega)) dL_law_347 ?_
  rw [nI_clamp (by omega)]
  rw [ha]
  have hMm := c_X4_setCistern l (D := D) (cI := cR) (th := th) hD.1.2 (V := VR) (Q := VR 0) a
  simp only [aq_ug_id] at hMm
  refine ly_mod (As := [.int a]) (rest := []) S E hD hMm (cwV 1 S.2.2.2.2 gL_law_X4_setCistern rfl rfl rfl (by decide +kernel) ⟨(Nat.le_of_ble_eq_true rfl), (Nat.le_of_ble_eq_true rfl)⟩) Wd hS hl.1 dL_law_348 rfl rfl (Nat.le_of_ble_eq_true rfl) ⟨by show _ ≤ 601024; omega, by show _ ≤ 7293034; omega⟩ (fun H locs Wd hS => ?_)
  refine lv_istore (lv' := [(6, .int (if aR_cisT a = 0 then aq_sizeR (VR 0) a else 0)), (5, .int (aR_cisT a)), (4, .int (nI (3 * j))), (3, .ref o), (2, .ref (adR 0)), (1, .ref (adC 0)), (0, .ref bs)]) S.1 S.2.1 dL_law_351 hl (by decide) rfl (fun ls hl => ?_)
  refine lv_aload_n S.1 S.2.1 dL_law_353 rfl (lv_at hl 4 rfl) ?_
  refine ly_mod (As := []) (rest := []) S E hD (c_X4_thrown l hD.1.2) (cwV 0 S.2.2.2.2 gL_law_X4_thrown rfl rfl rfl (by decide +kernel) ⟨(Nat.le_of_ble_eq_true rfl), (Nat.le_of_ble_eq_true rfl)⟩) Wd hS hl.1 dL_law_354 rfl rfl (Nat.le_of_ble_eq_true rfl) ⟨by show _ ≤ 601024; omega, by show _ ≤ 7293034; omega⟩ (fun H locs Wd hS => ?_)
  refine lv_iload S.1 S.2.1 dL_law_357 (lv_at hl 1 rfl) ?_
  refine lv_icmp_eq (tgt := 364) S.1 S.2.1 dL_law_359 (by decide) (fun _ => ?_) (fun c1 => absurd rfl c1)
  obtain ⟨n1, h1, VR1, hh1, hR1, he1⟩ := ly_s_setCistern hR hh a
  have Wd1 : ly_W D cI cQ cL cR adC adR o _ VR1 _ f1 s H := ⟨Wd.1, Wd.2.1, ly_eqR Wd.2.2 he1⟩
  have fin : W p l e room_1 s m args below meth c H locs (cells + 200) (slots + 2000) Q (F0 m 1097 ls []) := K n1 h1 _ VR1 _ f1 H locs ls hh1 hR1 Wd1 hS (lv_sub hl [2, 3, 4, 5, 6] rfl)
  refine lv_iload S.1 S.2.1 dL_law_364 (lv_at hl 1 rfl) ?_
  refine lv_if_ne (tgt := 381) S.1 S.2.1 dL_law_366 (by decide) (fun _ => ?_) (fun hz => ?_)
  · refine lv_goto (tgt := 1097) S.1 S.2.1 dL_law_381 (by decide) ?_
    exact W.widen (by omega) (by omega) fin
  · have h0 : aq_rgK a 0 500 = 0 := pu_k0 (by decide) (by decide) (by decide) (hk.trans hz)
    have hrr := ly_r_setCistern hR hh a hz
    refine lv_aload_n S.1 S.2.1 dL_law_369 rfl (lv_at hl 3 rfl) ?_
    refine lv_iconst (v := 0) S.1 S.2.1 dL_law_370 (by decide) ?_
    refine va_lald (D := D) S.1 S.2.1 Wd.1.2.2.1 Wd.1.2.2.2 0 0 rfl rfl (by rw [← nI_0]; exact vp_in_nI (by omega) (by omega)) dL_law_371 ?_
    refine lv_iload S.1 S.2.1 dL_law_372 (lv_at hl 0 rfl) ?_
    refine lv_i2l S.1 S.2.1 dL_law_374 rfl ?_
    refine W.lcmp S.1 S.2.1 dL_law_375 ?_
    have hcm : lg_cmp (f1 (0 : Int32).toNatClampNeg) (Int32.toInt64 (if aR_cisT a = 0 then aq_sizeR (VR 0) a else 0)) = 0 := by
      rw [if_pos hz, hrr, show (0 : Int32).toNatClampNeg = 0 from rfl, hf1 h0]
      simp [lg_cmp]
    rw [hcm]
    refine lv_if_eq (tgt := 381) S.1 S.2.1 dL_law_376 (by decide) (fun _ => ?_) (fun c2 => absurd rfl c2)
    refine lv_goto (tgt := 1097) S.1 S.2.1 dL_law_381 (by decide) ?_
    exact W.widen (by omega) (by omega) fin
set_option maxHeartbeats 4000000 in
set_option maxRecDepth 100000 in
theorem ly_c_arch (l : Launch) (hlt : l.stackTraces = false) {p : Program} {e : Env} {s : State} {m : MethodId} {args : Array Value} {below : List Frame} {meth : Method} {c : Code} {Q : State → Prop} {D : va_G} {cI cQ cL cR : ClassId} {adC adR : Nat → Nat} {o bs : Nat} {VC VR : aq_V} {th : Int32} {f : Nat → Int64} {H : Heap} {locs : List Loc} {cells slots n h j L : Nat} {xs : Nat → Int32} {ls : Array Slot} (S : CallFix p m c cL_law 9 s args wsL_law RL) (E : ly_E s) (hD : ly_D adC adR o s.heap.size) (hX : va_X bs L xs s s.heap) (hbl : bs < s.heap.size) (hj : 3 * j + 2 < L) (hL : L ≤ 1536) (hR : ly_R n h VC VR) (hh : h ≤ 100000) (Wd : ly_W D cI cQ cL cR adC adR o VC VR th f s H) (hS : ly_S s H locs) (hc : cells + 200 ≤ 601024) (hs : slots + 2000 ≤ 7293034) (hl : lv_has ls 9 [(4, .int (nI (3 * j))), (3, .ref o), (2, .ref (adR 0)), (1, .ref (adC 0)), (0, .ref bs)])
    (K : ∀ (n' h' : Nat) (VC' VR' : aq_V) (th' : Int32) (f' : Nat → Int64) (H' : Heap) (locs' : List Loc) (ls' : Array Slot), h' ≤ h + 100 → ly_R n' h' VC' VR' → ly_W D cI cQ cL cR adC adR o VC' VR' th' f' s H' → ly_S s H' locs' → lv_has ls' 9 [(4, .int (nI (3 * j))), (3, .ref o), (2, .ref (adR 0)), (1, .ref (adC 0)), (0, .ref bs)] → W p l e room_1 s m args below meth c H' locs' (cells + 200) (slots + 2000) Q (F0 m 1097 ls' [])) : W p l e room_1 s m args below meth c H locs cells slots Q (F0 m 384 ls []) := by
  have hst : aR_st (VR 3) (VR 0) := by rw [hR.2.1]; exact hR.2.2.2.1
  have h4 : VR 0 10 4 = nI h := by rw [hR.2.1]; exact hR.1.2.2.1
  refine lv_aload_n S.1 S.2.1 dL_law_384 rfl (lv_at hl 3 rfl) ?_
  refine lv_aload_n S.1 S.2.1 dL_law_385 rfl (lv_at hl 4 rfl) ?_
  refine lv_iload S.1 S.2.1 dL_law_386 (lv_at hl 0 rfl) ?_
  refine lv_iconst (v := 1) S.1 S.2.1 dL_law_388 (by decide) ?_
  refine lv_iadd S.1 S.2.1 dL_law_389 ?_
  refine lv_topi (fun x1 (ex1 : x1 = nI (3 * j) + nI 1) => ?_)
  rw [nI_add] at ex1; subst ex1
  refine va_sld S.1 S.2.1 hX hbl (Nat.not_le.mpr hbl) hS (vp_in_nI (by omega) (by omega)) dL_law_390 ?_
  rw [nI_clamp (by omega)]
  generalize ha : xs (3 * j + 1) = a
  refine lv_aload_n S.1 S.2.1 dL_law_391 rfl (lv_at hl 4 rfl) ?_
  refine lv_iload S.1 S.2.1 dL_law_392 (lv_at hl 0 rfl) ?_
  refine lv_iconst (v := 2) S.1 S.2.1 dL_law_394 (by decide) ?_
  refine lv_iadd S.1 S.2.1 dL_law_395 ?_
  refine lv_topi (fun x2 (ex2 : x2 = nI (3 * j) + nI 2) => ?_)
  rw [nI_add] at ex2; subst ex2
  refine va_sld S.1 S.2.1 hX hbl (Nat.not_le.mpr hbl) hS (vp_in_nI (by omega) (by omega)) dL_law_396 ?_
  rw [nI_clamp (by omega)]
  generalize hb : xs (3 * j + 2) = b
  refine lv_aload_n S.1 S.2.1 dL_law_397 rfl (lv_at hl 1 rfl) ?_
  have hMx := c_X2_arch l hlt (D := D) (cI := cI) (cQ := cQ) hD.1.1 (V := VC) (Q := VC 0) (n := n) hR.1.2.1 hR.1.1 a b
  simp only [aq_ug_id, aq_tc_id] at hMx
  have hMx := c_L_arch l (cL := cL) (f := f) hD.2.2.1.1 a b hMx (ly_q_arch n (VC 0) a b)
  have hk := ly_k_arch hR a b
  rw [hk] at hMx
  refine ly_wrap (As := [.ref (adC 0), .int a, .int b, .ref o]) (rest := []) S E hD hMx (vx_cwSW 4 S.2.2.2.2 gL_law_L_arch rfl rfl rfl (by decide +kernel) ⟨(Nat.le_of_ble_eq_true rfl), (Nat.le_of_ble_eq_true rfl)⟩) Wd hS hl.1 dL_law_398 rfl rfl (Nat.le_of_ble_eq_true rfl) ⟨by show _ ≤ 601024; omega, by show _ ≤ 7293034; omega⟩ (fun H locs f1 hf1 Wd hS => ?_)
  refine lv_istore (lv' := [(5, .int (aR_archT n a b)), (4, .int (nI (3 * j))), (3, .ref o), (2, .ref (adR 0)), (1, .ref (adC 0)), (0, .ref bs)]) S.1 S.2.1 dL_law_401 hl (by decide) rfl (fun ls hl => ?_)
  refine lv_aload_n S.1 S.2.1 dL_law_403 rfl (lv_at hl 3 rfl) ?_
  refine lv_aload_n S.1 S.2.1 dL_law_404 rfl (lv_at hl 5 rfl) ?_
  refine lv_iload S.1 S.2.1 dL_law_405 (lv_at hl 1 rfl) ?_
  refine lv_iconst (v := 1) S.1 S.2.1 dL_law_407 (by decide) ?_
  refine lv_iadd S.1 S.2.1 dL_law_408 ?_
  refine lv_topi (fun x3 (ex3 : x3 = nI (3 * j) + nI 1) => ?_)
  rw [nI_add] at ex3; subst ex3
  refine va_sld S.1 S.2.1 hX hbl (Nat.not_le.mpr hbl) hS (vp_in_nI (by omega) (by omega)) dL_law_409 ?_
  rw [nI_clamp (by omega)]
  rw [ha]
  refine lv_aload_n S.1 S.2.1 dL_law_410 rfl (lv_at hl 5 rfl) ?_
  refine lv_iload S.1 S.2.1 dL_law_411 (lv_at hl 1 rfl) ?_
  refine lv_iconst (v := 2) S.1 S.2.1 dL_law_413 (by decide) ?_
  refine lv_iadd S.1 S.2.1 dL_law_414 ?_
  refine lv_topi (fun x4 (ex4 : x4 = nI (3 * j) + nI 2) => ?_)
  rw [nI_add] at ex4; subst ex4
  refine va_sld S.1 S.2.1 hX hbl (Nat.not_le.mpr hbl) hS (vp_in_nI (by omega) (by omega)) dL_law_415 ?_
  rw [nI_clamp (by omega)]
  rw [hb]
  have hMm := c_X4_arch l (D := D) (cI := cR) (th := th) hD.1.2 (V := VR) (Q := VR 0) hst (n := n) hR.2.2.2.2 hR.1.1 a b
  simp only [aq_ug_id] at hMm
  refine ly_mod (As := [.int a, .int b]) (rest := []) S E hD hMm (cwV 2 S.2.2.2.2 gL_law_X4_arch rfl rfl rfl (by decide +kernel) ⟨(Nat.le_of_ble_eq_true rfl), (Nat.le_of_ble_eq_true rfl)⟩) Wd hS hl.1 dL_law_416 rfl rfl (Nat.le_of_ble_eq_true rfl) ⟨by show _ ≤ 601024; omega, by show _ ≤ 7293034; omega⟩ (fun H locs Wd hS => ?_)
  refine lv_istore (lv' := [(6, .int (if aR_archT n a b = 0 then aR_archNo n (VR 0) a.toNatClampNeg b.toNatClampNeg else 0)), (5, .int (aR_archT n a b)), (4, .int (nI (3 * j))), (3, .ref o), (2, .ref (adR 0)), (1, .ref (adC 0)), (0, .ref bs)]) S.1 S.2.1 dL_law_419 hl (by decide) rfl (fun ls hl => ?_)
  refine lv_aload_n S.1 S.2.1 dL_law_421 rfl (lv_at hl 4 rfl) ?_
  refine ly_mod (As := []) (rest := []) S E hD (c_X4_thrown l hD.1.2) (cwV 0 S.2.2.2.2 gL_law_X4_thrown rfl rfl rfl (by decide +kernel) ⟨(Nat.le_of_ble_eq_true rfl), (Nat.le_of_ble_eq_true rfl)⟩) Wd hS hl.1 dL_law_422 rfl rfl (Nat.le_of_ble_eq_true rfl) ⟨by show _ ≤ 601024; omega, by show _ ≤ 7293034; omega⟩ (fun H locs Wd hS => ?_)
  refine lv_iload S.1 S.2.1 dL_law_425 (lv_at hl 1 rfl) ?_
  refine lv_icmp_eq (tgt := 432) S.1 S.2.1 dL_law_427 (by decide) (fun _ => ?_) (fun c1 => absurd rfl c1)
  obtain ⟨n1, h1, VR1, hh1, hR1, he1⟩ := ly_s_arch hR hh a b
  have Wd1 : ly_W D cI cQ cL cR adC adR o _ VR1 _ f1 s H := ⟨Wd.1, Wd.2.1, ly_eqR Wd.2.2 he1⟩
  have fin : W p l e room_1 s m args below meth c H locs (cells + 200) (slots + 2000) Q (F0 m 1097 ls []) := K n1 h1 _ VR1 _ f1 H locs ls hh1 hR1 Wd1 hS (lv_sub hl [2, 3, 4, 5, 6] rfl)
  refine lv_iload S.1 S.2.1 dL_law_432 (lv_at hl 1 rfl) ?_
  refine lv_if_ne (tgt := 449) S.1 S.2.1 dL_law_434 (by decide) (fun _ => ?_) (fun hz => ?_)
  · refine lv_goto (tgt := 1097) S.1 S.2.1 dL_law_449 (by decide) ?_
    exact W.widen (by omega) (by omega) fin
  · have h0 : aq_archK n a b = 0 := pu_k0 (by decide) (by decide) (by decide) (hk.trans hz)
    have hrr := ly_r_arch hR hh a b hz
    refine lv_aload_n S.1 S.2.1 dL_law_437 rfl (lv_at hl 3 rfl) ?_
    refine lv_iconst (v := 0) S.1 S.2.1 dL_law_438 (by decide) ?_
    refine va_lald (D := D) S.1 S.2.1 Wd.1.2.2.1 Wd.1.2.2.2 0 0 rfl rfl (by rw [← nI_0]; exact vp_in_nI (by omega) (by omega)) dL_law_439 ?_
    refine lv_iload S.1 S.2.1 dL_law_440 (lv_at hl 0 rfl) ?_
    refine lv_i2l S.1 S.2.1 dL_law_442 rfl ?_
    refine W.lcmp S.1 S.2.1 dL_law_443 ?_
    have hcm : lg_cmp (f1 (0 : Int32).toNatClampNeg) (Int32.toInt64 (if aR_archT n a b = 0 then aR_archNo n (VR 0) a.toNatClampNeg b.toNatClampNeg else 0)) = 0 := by
      rw [if_pos hz, hrr, show (0 : Int32).toNatClampNeg = 0 from rfl, hf1 h0]
      simp [lg_cmp]
    rw [hcm]
    refine lv_if_eq (tgt := 449) S.1 S.2.1 dL_law_444 (by decide) (fun _ => ?_) (fun c2 => absurd rfl c2)
    refine lv_goto (tgt := 1097) S.1 S.2.1 dL_law_449 (by decide) ?_
    exact W.widen (by omega) (by omega) fin
set_option maxHeartbeats 4000000 in
set_option maxRecDepth 100000 in
theorem ly_c_addMill (l : Launch) (hlt : l.stackTraces = false) {p : Program} {e : Env} {s : State} {m : MethodId} {args : Array Value} {below : List Frame} {meth : Method} {c : Code} {Q : State → Prop} {D : va_G} {cI cQ cL cR : ClassId} {adC adR : Nat → Nat} {o bs : Nat} {VC VR : aq_V} {th : Int32} {f : Nat → Int64} {H : Heap} {locs : List Loc} {cells slots n h j L : Nat} {xs : Nat → Int32} {ls : Array Slot} (S : CallFix p m c cL_law 9 s args wsL_law RL) (E : ly_E s) (hD : ly_D adC adR o s.heap.size) (hX : va_X bs L xs s s.heap) (hbl : bs < s.heap.size) (hj : 3 * j + 2 < L) (hL : L ≤ 1536) (hR : ly_R n h VC VR) (hh : h ≤ 100000) (Wd : ly_W D cI cQ cL cR adC adR o VC VR th f s H) (hS : ly_S s H locs) (hc : cells + 200 ≤ 601024) (hs : slots + 2000 ≤ 7293034) (hl : lv_has ls 9 [(4, .int (nI (3 * j))), (3, .ref o), (2, .ref (adR 0)), (1, .ref (adC 0)), (0, .ref bs)])
    (K : ∀ (n' h' : Nat) (VC' VR' : aq_V) (th' : Int32) (f' : Nat → Int64) (H' : Heap) (locs' : List Loc) (ls' : Array Slot), h' ≤ h + 100 → ly_R n' h' VC' VR' → ly_W D cI cQ cL cR adC adR o VC' VR' th' f' s H' → ly_S s H' locs' → lv_has ls' 9 [(4, .int (nI (3 * j))), (3, .ref o), (2, .ref (adR 0)), (1, .ref (adC 0)), (0, .ref bs)] → W p l e room_1 s m args below meth c H' locs' (cells + 200) (slots + 2000) Q (F0 m 1097 ls' [])) : W p l e room_1 s m args below meth c H locs cells slots Q (F0 m 452 ls []) := by
  have hst : aR_st (VR 3) (VR 0) := by rw [hR.2.1]; exact hR.2.2.2.1
  have h4 : VR 0 10 4 = nI h := by rw [hR.2.1]; exact hR.1.2.2.1
  refine lv_aload_n S.1 S.2.1 dL_law_452 rfl (lv_at hl 3 rfl) ?_
  refine lv_aload_n S.1 S.2.1 dL_law_453 rfl (lv_at hl 4 rfl) ?_
  refine lv_iload S.1 S.2.1 dL_law_454 (lv_at hl 0 rfl) ?_
  refine lv_iconst (v := 1) S.1 S.2.1 dL_law_456 (by decide) ?_
  refine lv_iadd S.1 S.2.1 dL_law_457 ?_
  refine lv_topi (fun x1 (ex1 : x1 = nI (3 * j) + nI 1) => ?_)
  rw [nI_add] at ex1; subst ex1
  refine va_sld S.1 S.2.1 hX hbl (Nat.not_le.mpr hbl) hS (vp_in_nI (by omega) (by omega)) dL_law_458 ?_
  rw [nI_clamp (by omega)]
  generalize ha : xs (3 * j + 1) = a
  refine lv_aload_n S.1 S.2.1 dL_law_459 rfl (lv_at hl 4 rfl) ?_
  refine lv_iload S.1 S.2.1 dL_law_460 (lv_at hl 0 rfl) ?_
  refine lv_iconst (v := 2) S.1 S.2.1 dL_law_462 (by decide) ?_
  refine lv_iadd S.1 S.2.1 dL_law_463 ?_
  refine lv_topi (fun x2 (ex2 : x2 = nI (3 * j) + nI 2) => ?_)
  rw [nI_add] at ex2; subst ex2
  refine va_sld S.1 S.2.1 hX hbl (Nat.not_le.mpr hbl) hS (vp_in_nI (by omega) (by omega)) dL_law_464 ?_
  rw [nI_clamp (by omega)]
  generalize hb : xs (3 * j + 2) = b
  refine lv_aload_n S.1 S.2.1 dL_law_465 rfl (lv_at hl 1 rfl) ?_
  have hMx := c_X2_addMill l hlt (D := D) (cI := cI) (cQ := cQ) hD.1.1 (V := VC) (Q := VC 0) (n := n) hR.1.2.1 hR.1.1 a b
  simp only [aq_ug_id, aq_tc_id] at hMx
  have hMx := c_L_addMill l (cL := cL) (f := f) hD.2.2.1.1 a b hMx (ly_q_addMill n (VC 0) a b)
  have hk := ly_k_addMill hR a b
  rw [hk] at hMx
  refine ly_wrap (As := [.ref (adC 0), .int a, .int b, .ref o]) (rest := []) S E hD hMx (vx_cwSW 4 S.2.2.2.2 gL_law_L_addMill rfl rfl rfl (by decide +kernel) ⟨(Nat.le_of_ble_eq_true rfl), (Nat.le_of_ble_eq_true rfl)⟩) Wd hS hl.1 dL_law_466 rfl rfl (Nat.le_of_ble_eq_true rfl) ⟨by show _ ≤ 601024; omega, by show _ ≤ 7293034; omega⟩ (fun H locs f1 hf1 Wd hS => ?_)
  refine lv_istore (lv' := [(5, .int (aR_addMT n (VR 3) a b)), (4, .int (nI (3 * j))), (3, .ref o), (2, .ref (adR 0)), (1, .ref (adC 0)), (0, .ref bs)]) S.1 S.2.1 dL_law_469 hl (by decide) rfl (fun ls hl => ?_)
  refine lv_aload_n S.1 S.2.1 dL_law_471 rfl (lv_at hl 3 rfl) ?_
  refine lv_aload_n S.1 S.2.1 dL_law_472 rfl (lv_at hl 5 rfl) ?_
  refine lv_iload S.1 S.2.1 dL_law_473 (lv_at hl 1 rfl) ?_
  refine lv_iconst (v := 1) S.1 S.2.1 dL_law_475 (by decide) ?_
  refine lv_iadd S.1 S.2.1 dL_law_476 ?_
  refine lv_topi (fun x3 (ex3 : x3 = nI (3 * j) + nI 1) => ?_)
  rw [nI_add] at ex3; subst ex3
  refine va_sld S.1 S.2.1 hX hbl (Nat.not_le.mpr hbl) hS (vp_in_nI (by omega) (by omega)) dL_law_477 ?_
  rw [nI_clamp (by omega)]
  rw [ha]
  refine lv_aload_n S.1 S.2.1 dL_law_478 rfl (lv_at hl 5 rfl) ?_
  refine lv_iload S.1 S.2.1 dL_law_479 (lv_at hl 1 rfl) ?_
  refine lv_iconst (v := 2) S.1 S.2.1 dL_law_481 (by decide) ?_
  refine lv_iadd S.1 S.2.1 dL_law_482 ?_
  refine lv_topi (fun x4 (ex4 : x4 = nI (3 * j) + nI 2) => ?_)
  rw [nI_add] at ex4; subst ex4
  refine va_sld S.1 S.2.1 hX hbl (Nat.not_le.mpr hbl) hS (vp_in_nI (by omega) (by omega)) dL_law_483 ?_
  rw [nI_clamp (by omega)]
  rw [hb]
  have hMm := c_X4_addMill l (D := D) (cI := cR) (th := th) hD.1.2 (V := VR) (G := VR 3) (Q := VR 0) hst (n := n) hR.2.2.2.2 hR.1.1 a b
  simp only [aq_ug_id] at hMm
  refine ly_mod (As := [.int a, .int b]) (rest := []) S E hD hMm (cwV 2 S.2.2.2.2 gL_law_X4_addMill rfl rfl rfl (by decide +kernel) ⟨(Nat.le_of_ble_eq_true rfl), (Nat.le_of_ble_eq_true rfl)⟩) Wd hS hl.1 dL_law_484 rfl rfl (Nat.le_of_ble_eq_true rfl) ⟨by show _ ≤ 601024; omega, by show _ ≤ 7293034; omega⟩ (fun H locs Wd hS => ?_)
  refine lv_istore (lv' := [(6, .int (if aR_addMT n (VR 3) a b = 0 then aR_mills n (aq_up (VR 0) 6 a.toNatClampNeg b) else 0)), (5, .int (aR_addMT n (VR 3) a b)), (4, .int (nI (3 * j))), (3, .ref o), (2, .ref (adR 0)), (1, .ref (adC 0)), (0, .ref bs)]) S.1 S.2.1 dL_law_487 hl (by decide) rfl (fun ls hl => ?_)
  refine lv_aload_n S.1 S.2.1 dL_law_489 rfl (lv_at hl 4 rfl) ?_
  refine ly_mod (As := []) (rest := []) S E hD (c_X4_thrown l hD.1.2) (cwV 0 S.2.2.2.2 gL_law_X4_thrown rfl rfl rfl (by decide +kernel) ⟨(Nat.le_of_ble_eq_true rfl), (Nat.le_of_ble_eq_true rfl)⟩) Wd hS hl.1 dL_law_490 rfl rfl (Nat.le_of_ble_eq_true rfl) ⟨by show _ ≤ 601024; omega, by show _ ≤ 7293034; omega⟩ (fun H locs Wd hS => ?_)
  refine lv_iload S.1 S.2.1 dL_law_493 (lv_at hl 1 rfl) ?_
  refine lv_icmp_eq (tgt := 500) S.1 S.2.1 dL_law_495 (by decide) (fun _ => ?_) (fun c1 => absurd rfl c1)
  obtain ⟨n1, h1, VR1, hh1, hR1, he1⟩ := ly_s_addMill hR hh a b
  have Wd1 : ly_W D cI cQ cL cR adC adR o _ VR1 _ f1 s H := ⟨Wd.1, Wd.2.1, ly_eqR Wd.2.2 he1⟩
  have fin : W p l e room_1 s m args below meth c H locs (cells + 200) (slots + 2000) Q (F0 m 1097 ls []) := K n1 h1 _ VR1 _ f1 H locs ls hh1 hR1 Wd1 hS (lv_sub hl [2, 3, 4, 5, 6] rfl)
  refine lv_iload S.1 S.2.1 dL_law_500 (lv_at hl 1 rfl) ?_
  refine lv_if_ne (tgt := 517) S.1 S.2.1 dL_law_502 (by decide) (fun _ => ?_) (fun hz => ?_)
  · refine lv_goto (tgt := 1097) S.1 S.2.1 dL_law_517 (by decide) ?_
    exact W.widen (by omega) (by omega) fin
  · have h0 : aq_addMK n (VC 0) a b = 0 := pu_k0 (by decide) (by decide) (by decide) (hk.trans hz)
    have hrr := ly_r_addMill hR hh a b hz
    refine lv_aload_n S.1 S.2.1 dL_law_505 rfl (lv_at hl 3 rfl) ?_
    refine lv_iconst (v := 0) S.1 S.2.1 dL_law_506 (by decide) ?_
    refine va_lald (D := D) S.1 S.2.1 Wd.1.2.2.1 Wd.1.2.2.2 0 0 rfl rfl (by rw [← nI_0]; exact vp_in_nI (by omega) (by omega)) dL_law_507 ?_
    refine lv_iload S.1 S.2.1 dL_law_508 (lv_at hl 0 rfl) ?_
    refine lv_i2l S.1 S.2.1 dL_law_510 rfl ?_
    refine W.lcmp S.1 S.2.1 dL_law_511 ?_
    have hcm : lg_cmp (f1 (0 : Int32).toNatClampNeg) (Int32.toInt64 (if aR_addMT n (VR 3) a b = 0 then aR_mills n (aq_up (VR 0) 6 a.toNatClampNeg b) else 0)) = 0 := by
      rw [if_pos hz, hrr, show (0 : Int32).toNatClampNeg = 0 from rfl, hf1 h0]
      simp [lg_cmp]
    rw [hcm]
    refine lv_if_eq (tgt := 517) S.1 S.2.1 dL_law_512 (by decide) (fun _ => ?_) (fun c2 => absurd rfl c2)
    refine lv_goto (tgt := 1097) S.1 S.2.1 dL_law_517 (by decide) ?_
    exact W.widen (by omega) (by omega) fin
set_option maxHeartbeats 4000000 in
set_option maxRecDepth 100000 in
theorem ly_c_setSluice (l : Launch) (hlt : l.stackTraces = false) {p : Program} {e : Env} {s : State} {m : MethodId} {args : Array Value} {below : List Frame} {meth : Method} {c : Code} {Q : State → Prop} {D : va_G} {cI cQ cL cR : ClassId} {adC adR : Nat → Nat} {o bs : Nat} {VC VR : aq_V} {th : Int32} {f : Nat → Int64} {H : Heap} {locs : List Loc} {cells slots n h j L : Nat} {xs : Nat → Int32} {ls : Array Slot} (S : CallFix p m c cL_law 9 s args wsL_law RL) (E : ly_E s) (hD : ly_D adC adR o s.heap.size) (hX : va_X bs L xs s s.heap) (hbl : bs < s.heap.size) (hj : 3 * j + 2 < L) (hL : L ≤ 1536) (hR : ly_R n h VC VR) (hh : h ≤ 100000) (Wd : ly_W D cI cQ cL cR adC adR o VC VR th f s H) (hS : ly_S s H locs) (hc : cells + 200 ≤ 601024) (hs : slots + 2000 ≤ 7293034) (hl : lv_has ls 9 [(4, .int (nI (3 * j))), (3, .ref o), (2, .ref (adR 0)), (1, .ref (adC 0)), (0, .ref bs)])
    (K : ∀ (n' h' : Nat) (VC' VR' : aq_V) (th' : Int32) (f' : Nat → Int64) (H' : Heap) (locs' : List Loc) (ls' : Array Slot), h' ≤ h + 100 → ly_R n' h' VC' VR' → ly_W D cI cQ cL cR adC adR o VC' VR' th' f' s H' → ly_S s H' locs' → lv_has ls' 9 [(4, .int (nI (3 * j))), (3, .ref o), (2, .ref (adR 0)), (1, .ref (adC 0)), (0, .ref bs)] → W p l e room_1 s m args below meth c H' locs' (cells + 200) (slots + 2000) Q (F0 m 1097 ls' [])) : W p l e room_1 s m args below meth c H locs cells slots Q (F0 m 520 ls []) := by
  have hst : aR_st (VR 3) (VR 0) := by rw [hR.2.1]; exact hR.2.2.2.1
  have h4 : VR 0 10 4 = nI h := by rw [hR.2.1]; exact hR.1.2.2.1
  refine lv_aload_n S.1 S.2.1 dL_law_520 rfl (lv_at hl 3 rfl) ?_
  refine lv_aload_n S.1 S.2.1 dL_law_521 rfl (lv_at hl 4 rfl) ?_
  refine lv_iload S.1 S.2.1 dL_law_522 (lv_at hl 0 rfl) ?_
  refine lv_iconst (v := 1) S.1 S.2.1 dL_law_524 (by decide) ?_
  refine lv_iadd S.1 S.2.1 dL_law_525 ?_
  refine lv_topi (fun x1 (ex1 : x1 = nI (3 * j) + nI 1) => ?_)
  rw [nI_add] at ex1; subst ex1
  refine va_sld S.1 S.2.1 hX hbl (Nat.not_le.mpr hbl) hS (vp_in_nI (by omega) (by omega)) dL_law_526 ?_
  rw [nI_clamp (by omega)]
  generalize ha : xs (3 * j + 1) = a
  refine lv_aload_n S.1 S.2.1 dL_law_527 rfl (lv_at hl 4 rfl) ?_
  refine lv_iload S.1 S.2.1 dL_law_528 (lv_at hl 0 rfl) ?_
  refine lv_iconst (v := 2) S.1 S.2.1 dL_law_530 (by decide) ?_
  refine lv_iadd S.1 S.2.1 dL_law_531 ?_
  refine lv_topi (fun x2 (ex2 : x2 = nI (3 * j) + nI 2) => ?_)
  rw [nI_add] at ex2; subst ex2
  refine va_sld S.1 S.2.1 hX hbl (Nat.not_le.mpr hbl) hS (vp_in_nI (by omega) (by omega)) dL_law_532 ?_
  rw [nI_clamp (by omega)]
  generalize hb : xs (3 * j + 2) = b
  refine lv_aload_n S.1 S.2.1 dL_law_533 rfl (lv_at hl 1 rfl) ?_
  have hMx := c_X2_setSluice l hlt (D := D) (cI := cI) (cQ := cQ) hD.1.1 (V := VC) (Q := VC 0) (n := n) hR.1.2.1 hR.1.1 a b
  simp only [aq_ug_id, aq_tc_id] at hMx
  have hMx := c_L_setSluice l (cL := cL) (f := f) hD.2.2.1.1 a b hMx (ly_q_setSluice n (VC 0) a b)
  have hk := ly_k_setSluice hR a b
  rw [hk] at hMx
  refine ly_wrap (As := [.ref (adC 0), .int a, .int b, .ref o]) (rest := []) S E hD hMx (vx_cwSW 4 S.2.2.2.2 gL_law_L_setSluice rfl rfl rfl (by decide +kernel) ⟨(Nat.le_of_ble_eq_true rfl), (Nat.le_of_ble_eq_true rfl)⟩) Wd hS hl.1 dL_law_534 rfl rfl (Nat.le_of_ble_eq_true rfl) ⟨by show _ ≤ 601024; omega, by show _ ≤ 7293034; omega⟩ (fun H locs f1 hf1 Wd hS => ?_)
  refine lv_istore (lv' := [(5, .int (aR_sluT n (VR 0) a b)), (4, .int (nI (3 * j))), (3, .ref o), (2, .ref (adR 0)), (1, .ref (adC 0)), (0, .ref bs)]) S.1 S.2.1 dL_law_537 hl (by decide) rfl (fun ls hl => ?_)
  refine lv_aload_n S.1 S.2.1 dL_law_539 rfl (lv_at hl 3 rfl) ?_
  refine lv_aload_n S.1 S.2.1 dL_law_540 rfl (lv_at hl 5 rfl) ?_
  refine lv_iload S.1 S.2.1 dL_law_541 (lv_at hl 1 rfl) ?_
  refine lv_iconst (v := 1) S.1 S.2.1 dL_law_543 (by decide) ?_
  refine lv_iadd S.1 S.2.1 dL_law_544 ?_
  refine lv_topi (fun x3 (ex3 : x3 = nI (3 * j) + nI 1) => ?_)
  rw [nI_add] at ex3; subst ex3
  refine va_sld S.1 S.2.1 hX hbl (Nat.not_le.mpr hbl) hS (vp_in_nI (by omega) (by omega)) dL_law_545 ?_
  rw [nI_clamp (by omega)]
  rw [ha]
  refine lv_aload_n S.1 S.2.1 dL_law_546 rfl (lv_at hl 5 rfl) ?_
  refine lv_iload S.1 S.2.1 dL_law_547 (lv_at hl 1 rfl) ?_
  refine lv_iconst (v := 2) S.1 S.2.1 dL_law_549 (by decide) ?_
  refine lv_iadd S.1 S.2.1 dL_law_550 ?_
  refine lv_topi (fun x4 (ex4 : x4 = nI (3 * j) + nI 2) => ?_)
  rw [nI_add] at ex4; subst ex4
  refine va_sld S.1 S.2.1 hX hbl (Nat.not_le.mpr hbl) hS (vp_in_nI (by omega) (by omega)) dL_law_551 ?_
  rw [nI_clamp (by omega)]
  rw [hb]
  have hMm := c_X4_setSluice l (D := D) (cI := cR) (th := th) hD.1.2 (V := VR) (Q := VR 0) hst (n := n) hR.2.2.2.2 hR.1.1 a b
  simp only [aq_ug_id] at hMm
  refine ly_mod (As := [.int a, .int b]) (rest := []) S E hD hMm (cwV 2 S.2.2.2.2 gL_law_X4_setSluice rfl rfl rfl (by decide +kernel) ⟨(Nat.le_of_ble_eq_true rfl), (Nat.le_of_ble_eq_true rfl)⟩) Wd hS hl.1 dL_law_552 rfl rfl (Nat.le_of_ble_eq_true rfl) ⟨by show _ ≤ 601024; omega, by show _ ≤ 7293034; omega⟩ (fun H locs Wd hS => ?_)
  refine lv_istore (lv' := [(6, .int (if aR_sluT n (VR 0) a b = 0 then VR 0 7 a.toNatClampNeg else 0)), (5, .int (aR_sluT n (VR 0) a b)), (4, .int (nI (3 * j))), (3, .ref o), (2, .ref (adR 0)), (1, .ref (adC 0)), (0, .ref bs)]) S.1 S.2.1 dL_law_555 hl (by decide) rfl (fun ls hl => ?_)
  refine lv_aload_n S.1 S.2.1 dL_law_557 rfl (lv_at hl 4 rfl) ?_
  refine ly_mod (As := []) (rest := []) S E hD (c_X4_thrown l hD.1.2) (cwV 0 S.2.2.2.2 gL_law_X4_thrown rfl rfl rfl (by decide +kernel) ⟨(Nat.le_of_ble_eq_true rfl), (Nat.le_of_ble_eq_true rfl)⟩) Wd hS hl.1 dL_law_558 rfl rfl (Nat.le_of_ble_eq_true rfl) ⟨by show _ ≤ 601024; omega, by show _ ≤ 7293034; omega⟩ (fun H locs Wd hS => ?_)
  refine lv_iload S.1 S.2.1 dL_law_561 (lv_at hl 1 rfl) ?_
  refine lv_icmp_eq (tgt := 568) S.1 S.2.1 dL_law_563 (by decide) (fun _ => ?_) (fun c1 => absurd rfl c1)
  obtain ⟨n1, h1, VR1, hh1, hR1, he1⟩ := ly_s_setSluice hR hh a b
  have Wd1 : ly_W D cI cQ cL cR adC adR o _ VR1 _ f1 s H := ⟨Wd.1, Wd.2.1, ly_eqR Wd.2.2 he1⟩
  have fin : W p l e room_1 s m args below meth c H locs (cells + 200) (slots + 2000) Q (F0 m 1097 ls []) := K n1 h1 _ VR1 _ f1 H locs ls hh1 hR1 Wd1 hS (lv_sub hl [2, 3, 4, 5, 6] rfl)
  refine lv_iload S.1 S.2.1 dL_law_568 (lv_at hl 1 rfl) ?_
  refine lv_if_ne (tgt := 585) S.1 S.2.1 dL_law_570 (by decide) (fun _ => ?_) (fun hz => ?_)
  · refine lv_goto (tgt := 1097) S.1 S.2.1 dL_law_585 (by decide) ?_
    exact W.widen (by omega) (by omega) fin
  · have h0 : aq_sluK n (VC 0) a b = 0 := pu_k0 (by decide) (by decide) (by decide) (hk.trans hz)
    have hrr := ly_r_setSluice hR hh a b hz
    refine lv_aload_n S.1 S.2.1 dL_law_573 rfl (lv_at hl 3 rfl) ?_
    refine lv_iconst (v := 0) S.1 S.2.1 dL_law_574 (by decide) ?_
    refine va_lald (D := D) S.1 S.2.1 Wd.1.2.2.1 Wd.1.2.2.2 0 0 rfl rfl (by rw [← nI_0]; exact vp_in_nI (by omega) (by omega)) dL_law_575 ?_
    refine lv_iload S.1 S.2.1 dL_law_576 (lv_at hl 0 rfl) ?_
    refine lv_i2l S.1 S.2.1 dL_law_578 rfl ?_
    refine W.lcmp S.1 S.2.1 dL_law_579 ?_
    have hcm : lg_cmp (f1 (0 : Int32).toNatClampNeg) (Int32.toInt64 (if aR_sluT n (VR 0) a b = 0 then VR 0 7 a.toNatClampNeg else 0)) = 0 := by
      rw [if_pos hz, hrr, show (0 : Int32).toNatClampNeg = 0 from rfl, hf1 h0]
      simp [lg_cmp]
    rw [hcm]
    refine lv_if_eq (tgt := 585) S.1 S.2.1 dL_law_580 (by decide) (fun _ => ?_) (fun c2 => absurd rfl c2)
    refine lv_goto (tgt := 1097) S.1 S.2.1 dL_law_585 (by decide) ?_
    exact W.widen (by omega) (by omega) fin
set_option maxHeartbeats 4000000 in
set_option maxRecDepth 100000 in
theorem ly_c_mill (l : Launch) (hlt : l.stackTraces = false) {p : Program} {e : Env} {s : State} {m : MethodId} {args : Array Value} {below : List Frame} {meth : Method} {c : Code} {Q : State → Prop} {D : va_G} {cI cQ cL cR : ClassId} {adC adR : Nat → Nat} {o bs : Nat} {VC VR : aq_V} {th : Int32} {f : Nat → Int64} {H : Heap} {locs : List Loc} {cells slots n h j L : Nat} {xs : Nat → Int32} {ls : Array Slot} (S : CallFix p m c cL_law 9 s args wsL_law RL) (E : ly_E s) (hD : ly_D adC adR o s.heap.size) (hX : va_X bs L xs s s.heap) (hbl : bs < s.heap.size) (hj : 3 * j + 2 < L) (hL : L ≤ 1536) (hR : ly_R n h VC VR) (hh : h ≤ 100000) (Wd : ly_W D cI cQ cL cR adC adR o VC VR th f s H) (hS : ly_S s H locs) (hc : cells + 200 ≤ 601024) (hs : slots + 2000 ≤ 7293034) (hl : lv_has ls 9 [(4, .int (nI (3 * j))), (3, .ref o), (2, .ref (adR 0)), (1, .ref (adC 0)), (0, .ref bs)])
    (K : ∀ (n' h' : Nat) (VC' VR' : aq_V) (th' : Int32) (f' : Nat → Int64) (H' : Heap) (locs' : List Loc) (ls' : Array Slot), h' ≤ h + 100 → ly_R n' h' VC' VR' → ly_W D cI cQ cL cR adC adR o VC' VR' th' f' s H' → ly_S s H' locs' → lv_has ls' 9 [(4, .int (nI (3 * j))), (3, .ref o), (2, .ref (adR 0)), (1, .ref (adC 0)), (0, .ref bs)] → W p l e room_1 s m args below meth c H' locs' (cells + 200) (slots + 2000) Q (F0 m 1097 ls' [])) : W p l e room_1 s m args below meth c H locs cells slots Q (F0 m 588 ls []) := by
  have hst : aR_st (VR 3) (VR 0) := by rw [hR.2.1]; exact hR.2.2.2.1
  have h4 : VR 0 10 4 = nI h := by rw [hR.2.1]; exact hR.1.2.2.1
  refine lv_aload_n S.1 S.2.1 dL_law_588 rfl (lv_at hl 3 rfl) ?_
  refine lv_aload_n S.1 S.2.1 dL_law_589 rfl (lv_at hl 4 rfl) ?_
  refine lv_iload S.1 S.2.1 dL_law_590 (lv_at hl 0 rfl) ?_
  refine lv_iconst (v := 1) S.1 S.2.1 dL_law_592 (by decide) ?_
  refine lv_iadd S.1 S.2.1 dL_law_593 ?_
  refine lv_topi (fun x1 (ex1 : x1 = nI (3 * j) + nI 1) => ?_)
  rw [nI_add] at ex1; subst ex1
  refine va_sld S.1 S.2.1 hX hbl (Nat.not_le.mpr hbl) hS (vp_in_nI (by omega) (by omega)) dL_law_594 ?_
  rw [nI_clamp (by omega)]
  generalize ha : xs (3 * j + 1) = a
  refine lv_aload_n S.1 S.2.1 dL_law_595 rfl (lv_at hl 4 rfl) ?_
  refine lv_iload S.1 S.2.1 dL_law_596 (lv_at hl 0 rfl) ?_
  refine lv_iconst (v := 2) S.1 S.2.1 dL_law_598 (by decide) ?_
  refine lv_iadd S.1 S.2.1 dL_law_599 ?_
  refine lv_topi (fun x2 (ex2 : x2 = nI (3 * j) + nI 2) => ?_)
  rw [nI_add] at ex2; subst ex2
  refine va_sld S.1 S.2.1 hX hbl (Nat.not_le.mpr hbl) hS (vp_in_nI (by omega) (by omega)) dL_law_600 ?_
  rw [nI_clamp (by omega)]
  generalize hb : xs (3 * j + 2) = b
  refine lv_aload_n S.1 S.2.1 dL_law_601 rfl (lv_at hl 1 rfl) ?_
  have hMx := c_X2_mill l hlt (D := D) (cI := cI) (cQ := cQ) hD.1.1 (V := VC) (Q := VC 0) (n := n) hR.1.2.1 hR.1.1 a b
  simp only [aq_ug_id, aq_tc_id] at hMx
  have hMx := c_L_mill l (cL := cL) (f := f) hD.2.2.1.1 a b hMx (ly_q_mill n (VC 0) a b)
  have hk := ly_k_mill hR a b
  rw [hk] at hMx
  refine ly_wrap (As := [.ref (adC 0), .int a, .int b, .ref o]) (rest := []) S E hD hMx (vx_cwSW 4 S.2.2.2.2 gL_law_L_mill rfl rfl rfl (by decide +kernel) ⟨(Nat.le_of_ble_eq_true rfl), (Nat.le_of_ble_eq_true rfl)⟩) Wd hS hl.1 dL_law_602 rfl rfl (Nat.le_of_ble_eq_true rfl) ⟨by show _ ≤ 601024; omega, by show _ ≤ 7293034; omega⟩ (fun H locs f1 hf1 Wd hS => ?_)
  refine lv_istore (lv' := [(5, .int (aR_millT n a b)), (4, .int (nI (3 * j))), (3, .ref o), (2, .ref (adR 0)), (1, .ref (adC 0)), (0, .ref bs)]) S.1 S.2.1 dL_law_605 hl (by decide) rfl (fun ls hl => ?_)
  refine lv_aload_n S.1 S.2.1 dL_law_607 rfl (lv_at hl 3 rfl) ?_
  refine lv_aload_n S.1 S.2.1 dL_law_608 rfl (lv_at hl 5 rfl) ?_
  refine lv_iload S.1 S.2.1 dL_law_609 (lv_at hl 1 rfl) ?_
  refine lv_iconst (v := 1) S.1 S.2.1 dL_law_611 (by decide) ?_
  refine lv_iadd S.1 S.2.1 dL_law_612 ?_
  refine lv_topi (fun x3 (ex3 : x3 = nI (3 * j) + nI 1) => ?_)
  rw [nI_add] at ex3; subst ex3
  refine va_sld S.1 S.2.1 hX hbl (Nat.not_le.mpr hbl) hS (vp_in_nI (by omega) (by omega)) dL_law_613 ?_
  rw [nI_clamp (by omega)]
  rw [ha]
  refine lv_aload_n S.1 S.2.1 dL_law_614 rfl (lv_at hl 5 rfl) ?_
  refine lv_iload S.1 S.2.1 dL_law_615 (lv_at hl 1 rfl) ?_
  refine lv_iconst (v := 2) S.1 S.2.1 dL_law_617 (by decide) ?_
  refine lv_iadd S.1 S.2.1 dL_law_618 ?_
  refine lv_topi (fun x4 (ex4 : x4 = nI (3 * j) + nI 2) => ?_)
  rw [nI_add] at ex4; subst ex4
  refine va_sld S.1 S.2.1 hX hbl (Nat.not_le.mpr hbl) hS (vp_in_nI (by omega) (by omega)) dL_law_619 ?_
  rw [nI_clamp (by omega)]
  rw [hb]
  have hMm := c_X4_mill l (D := D) (cI := cR) (th := th) hD.1.2 (V := VR) (Q := VR 0) hst (n := n) hR.2.2.2.2 hR.1.1 a b
  simp only [aq_ug_id] at hMm
  refine ly_mod (As := [.int a, .int b]) (rest := []) S E hD hMm (cwV 2 S.2.2.2.2 gL_law_X4_mill rfl rfl rfl (by decide +kernel) ⟨(Nat.le_of_ble_eq_true rfl), (Nat.le_of_ble_eq_true rfl)⟩) Wd hS hl.1 dL_law_620 rfl rfl (Nat.le_of_ble_eq_true rfl) ⟨by show _ ≤ 601024; omega, by show _ ≤ 7293034; omega⟩ (fun H locs Wd hS => ?_)
  refine lv_istore (lv' := [(6, .int (if aR_millT n a b = 0 then aR_millNo (VR 0) a.toNatClampNeg b.toNatClampNeg else 0)), (5, .int (aR_millT n a b)), (4, .int (nI (3 * j))), (3, .ref o), (2, .ref (adR 0)), (1, .ref (adC 0)), (0, .ref bs)]) S.1 S.2.1 dL_law_623 hl (by decide) rfl (fun ls hl => ?_)
  refine lv_aload_n S.1 S.2.1 dL_law_625 rfl (lv_at hl 4 rfl) ?_
  refine ly_mod (As := []) (rest := []) S E hD (c_X4_thrown l hD.1.2) (cwV 0 S.2.2.2.2 gL_law_X4_thrown rfl rfl rfl (by decide +kernel) ⟨(Nat.le_of_ble_eq_true rfl), (Nat.le_of_ble_eq_true rfl)⟩) Wd hS hl.1 dL_law_626 rfl rfl (Nat.le_of_ble_eq_true rfl) ⟨by show _ ≤ 601024; omega, by show _ ≤ 7293034; omega⟩ (fun H locs Wd hS => ?_)
  refine lv_iload S.1 S.2.1 dL_law_629 (lv_at hl 1 rfl) ?_
  refine lv_icmp_eq (tgt := 636) S.1 S.2.1 dL_law_631 (by decide) (fun _ => ?_) (fun c1 => absurd rfl c1)
  obtain ⟨n1, h1, VR1, hh1, hR1, he1⟩ := ly_s_mill hR hh a b
  have Wd1 : ly_W D cI cQ cL cR adC adR o _ VR1 _ f1 s H := ⟨Wd.1, Wd.2.1, ly_eqR Wd.2.2 he1⟩
  have fin : W p l e room_1 s m args below meth c H locs (cells + 200) (slots + 2000) Q (F0 m 1097 ls []) := K n1 h1 _ VR1 _ f1 H locs ls hh1 hR1 Wd1 hS (lv_sub hl [2, 3, 4, 5, 6] rfl)
  refine lv_iload S.1 S.2.1 dL_law_636 (lv_at hl 1 rfl) ?_
  refine lv_if_ne (tgt := 653) S.1 S.2.1 dL_law_638 (by decide) (fun _ => ?_) (fun hz => ?_)
  · refine lv_goto (tgt := 1097) S.1 S.2.1 dL_law_653 (by decide) ?_
    exact W.widen (by omega) (by omega) fin
  · have h0 : aq_millK n a b = 0 := pu_k0 (by decide) (by decide) (by decide) (hk.trans hz)
    have hrr := ly_r_mill hR hh a b hz
    refine lv_aload_n S.1 S.2.1 dL_law_641 rfl (lv_at hl 3 rfl) ?_
    refine lv_iconst (v := 0) S.1 S.2.1 dL_law_642 (by decide) ?_
    refine va_lald (D := D) S.1 S.2.1 Wd.1.2.2.1 Wd.1.2.2.2 0 0 rfl rfl (by rw [← nI_0]; exact vp_in_nI (by omega) (by omega)) dL_law_643 ?_
    refine lv_iload S.1 S.2.1 dL_law_644 (lv_at hl 0 rfl) ?_
    refine lv_i2l S.1 S.2.1 dL_law_646 rfl ?_
    refine W.lcmp S.1 S.2.1 dL_law_647 ?_
    have hcm : lg_cmp (f1 (0 : Int32).toNatClampNeg) (Int32.toInt64 (if aR_millT n a b = 0 then aR_millNo (VR 0) a.toNatClampNeg b.toNatClampNeg else 0)) = 0 := by
      rw [if_pos hz, hrr, show (0 : Int32).toNatClampNeg = 0 from rfl, hf1 h0]
      simp [lg_cmp]
    rw [hcm]
    refine lv_if_eq (tgt := 653) S.1 S.2.1 dL_law_648 (by decide) (fun _ => ?_) (fun c2 => absurd rfl c2)
    refine lv_goto (tgt := 1097) S.1 S.2.1 dL_law_653 (by decide) ?_
    exact W.widen (by omega) (by omega) fin
set_option maxHeartbeats 4000000 in
set_option maxRecDepth 100000 in
theorem ly_c_mend (l : Launch) (hlt : l.stackTraces = false) {p : Program} {e : Env} {s : State} {m : MethodId} {args : Array Value} {below : List Frame} {meth : Method} {c : Code} {Q : State → Prop} {D : va_G} {cI cQ cL cR : ClassId} {adC adR : Nat → Nat} {o bs : Nat} {VC VR : aq_V} {th : Int32} {f : Nat → Int64} {H : Heap} {locs : List Loc} {cells slots n h j L : Nat} {xs : Nat → Int32} {ls : Array Slot} (S : CallFix p m c cL_law 9 s args wsL_law RL) (E : ly_E s) (hD : ly_D adC adR o s.heap.size) (hX : va_X bs L xs s s.heap) (hbl : bs < s.heap.size) (hj : 3 * j + 2 < L) (hL : L ≤ 1536) (hR : ly_R n h VC VR) (hh : h ≤ 100000) (Wd : ly_W D cI cQ cL cR adC adR o VC VR th f s H) (hS : ly_S s H locs) (hc : cells + 200 ≤ 601024) (hs : slots + 2000 ≤ 7293034) (hl : lv_has ls 9 [(4, .int (nI (3 * j))), (3, .ref o), (2, .ref (adR 0)), (1, .ref (adC 0)), (0, .ref bs)])
    (K : ∀ (n' h' : Nat) (VC' VR' : aq_V) (th' : Int32) (f' : Nat → Int64) (H' : Heap) (locs' : List Loc) (ls' : Array Slot), h' ≤ h + 100 → ly_R n' h' VC' VR' → ly_W D cI cQ cL cR adC adR o VC' VR' th' f' s H' → ly_S s H' locs' → lv_has ls' 9 [(4, .int (nI (3 * j))), (3, .ref o), (2, .ref (adR 0)), (1, .ref (adC 0)), (0, .ref bs)] → W p l e room_1 s m args below meth c H' locs' (cells + 200) (slots + 2000) Q (F0 m 1097 ls' [])) : W p l e room_1 s m args below meth c H locs cells slots Q (F0 m 656 ls []) := by
  have hst : aR_st (VR 3) (VR 0) := by rw [hR.2.1]; exact hR.2.2.2.1
  have h4 : VR 0 10 4 = nI h := by rw [hR.2.1]; exact hR.1.2.2.1
  refine lv_aload_n S.1 S.2.1 dL_law_656 rfl (lv_at hl 3 rfl) ?_
  refine lv_aload_n S.1 S.2.1 dL_law_657 rfl (lv_at hl 4 rfl) ?_
  refine lv_iload S.1 S.2.1 dL_law_658 (lv_at hl 0 rfl) ?_
  refine lv_iconst (v := 1) S.1 S.2.1 dL_law_660 (by decide) ?_
  refine lv_iadd S.1 S.2.1 dL_law_661 ?_
  refine lv_topi (fun x1 (ex1 : x1 = nI (3 * j) + nI 1) => ?_)
  rw [nI_add] at ex1; subst ex1
  refine va_sld S.1 S.2.1 hX hbl (Nat.not_le.mpr hbl) hS (vp_in_nI (by omega) (by omega)) dL_law_662 ?_
  rw [nI_clamp (by omega)]
  generalize ha : xs (3 * j + 1) = a
  refine lv_aload_n S.1 S.2.1 dL_law_663 rfl (lv_at hl 1 rfl) ?_
  have hMx := c_X2_mend l hlt (D := D) (cI := cI) (cQ := cQ) hD.1.1 (V := VC) (Q := VC 0) (n := n) hR.1.2.1 hR.1.1 a
  simp only [aq_ug_id, aq_tc_id] at hMx
  have hMx := c_L_mend l (cL := cL) (f := f) hD.2.2.1.1 a hMx (ly_q_mend n (VC 0) a a)
  have hk := ly_k_mend hR a
  rw [hk] at hMx
  refine ly_wrap (As := [.ref (adC 0), .int a, .ref o]) (rest := []) S E hD hMx (vx_cwSW 3 S.2.2.2.2 gL_law_L_mend rfl rfl rfl (by decide +kernel) ⟨(Nat.le_of_ble_eq_true rfl), (Nat.le_of_ble_eq_true rfl)⟩) Wd hS hl.1 dL_law_664 rfl rfl (Nat.le_of_ble_eq_true rfl) ⟨by show _ ≤ 601024; omega, by show _ ≤ 7293034; omega⟩ (fun H locs f1 hf1 Wd hS => ?_)
  refine lv_istore (lv' := [(5, .int (aR_mendT n (VR 0) a)), (4, .int (nI (3 * j))), (3, .ref o), (2, .ref (adR 0)), (1, .ref (adC 0)), (0, .ref bs)]) S.1 S.2.1 dL_law_667 hl (by decide) rfl (fun ls hl => ?_)
  refine lv_aload_n S.1 S.2.1 dL_law_669 rfl (lv_at hl 3 rfl) ?_
  refine lv_aload_n S.1 S.2.1 dL_law_670 rfl (lv_at hl 5 rfl) ?_
  refine lv_iload S.1 S.2.1 dL_law_671 (lv_at hl 1 rfl) ?_
  refine lv_iconst (v := 1) S.1 S.2.1 dL_law_673 (by decide) ?_
  refine lv_iadd S.1 S.2.1 dL_law_674 ?_
  refine lv_topi (fun x2 (ex2 : x2 = nI (3 * j) + nI 1) => ?_)
  rw [nI_add] at ex2; subst ex2
  refine va_sld S.1 S.2.1 hX hbl (Nat.not_le.mpr hbl) hS (vp_in_nI (by omega) (by omega)) dL_law_675 ?_
  rw [nI_clamp (by omega)]
  rw [ha]
  have hMm := c_X4_mend l (D := D) (cI := cR) (th := th) hD.1.2 (V := VR) (Q := VR 0) hst (n := n) hR.2.2.2.2 hR.1.1 a
  simp only [aq_ug_id] at hMm
  refine ly_mod (As := [.int a]) (rest := []) S E hD hMm (cwV 1 S.2.2.2.2 gL_law_X4_mend rfl rfl rfl (by decide +kernel) ⟨(Nat.le_of_ble_eq_true rfl), (Nat.le_of_ble_eq_true rfl)⟩) Wd hS hl.1 dL_law_676 rfl rfl (Nat.le_of_ble_eq_true rfl) ⟨by show _ ≤ 601024; omega, by show _ ≤ 7293034; omega⟩ (fun H locs Wd hS => ?_)
  refine lv_istore (lv' := [(6, .int (if aR_mendT n (VR 0) a = 0 then aR_mendQ (VR 0) a.toNatClampNeg 3 a.toNatClampNeg else 0)), (5, .int (aR_mendT n (VR 0) a)), (4, .int (nI (3 * j))), (3, .ref o), (2, .ref (adR 0)), (1, .ref (adC 0)), (0, .ref bs)]) S.1 S.2.1 dL_law_679 hl (by decide) rfl (fun ls hl => ?_)
  refine lv_aload_n S.1 S.2.1 dL_law_681 rfl (lv_at hl 4 rfl) ?_
  refine ly_mod (As := []) (rest := []) S E hD (c_X4_thrown l hD.1.2) (cwV 0 S.2.2.2.2 gL_law_X4_thrown rfl rfl rfl (by decide +kernel) ⟨(Nat.le_of_ble_eq_true rfl), (Nat.le_of_ble_eq_true rfl)⟩) Wd hS hl.1 dL_law_682 rfl rfl (Nat.le_of_ble_eq_true rfl) ⟨by show _ ≤ 601024; omega, by show _ ≤ 7293034; omega⟩ (fun H locs Wd hS => ?_)
  refine lv_iload S.1 S.2.1 dL_law_685 (lv_at hl 1 rfl) ?_
  refine lv_icmp_eq (tgt := 692) S.1 S.2.1 dL_law_687 (by decide) (fun _ => ?_) (fun c1 => absurd rfl c1)
  obtain ⟨n1, h1, VR1, hh1, hR1, he1⟩ := ly_s_mend hR hh a
  have Wd1 : ly_W D cI cQ cL cR adC adR o _ VR1 _ f1 s H := ⟨Wd.1, Wd.2.1, ly_eqR Wd.2.2 he1⟩
  have fin : W p l e room_1 s m args below meth c H locs (cells + 200) (slots + 2000) Q (F0 m 1097 ls []) := K n1 h1 _ VR1 _ f1 H locs ls hh1 hR1 Wd1 hS (lv_sub hl [2, 3, 4, 5, 6] rfl)
  refine lv_iload S.1 S.2.1 dL_law_692 (lv_at hl 1 rfl) ?_
  refine lv_if_ne (tgt := 709) S.1 S.2.1 dL_law_694 (by decide) (fun _ => ?_) (fun hz => ?_)
  · refine lv_goto (tgt := 1097) S.1 S.2.1 dL_law_709 (by decide) ?_
    exact W.widen (by omega) (by omega) fin
  · have h0 : aq_mendK n (VC 0) a = 0 := pu_k0 (by decide) (by decide) (by decide) (hk.trans hz)
    have hrr := ly_r_mend hR hh a hz
    refine lv_aload_n S.1 S.2.1 dL_law_697 rfl (lv_at hl 3 rfl) ?_
    refine lv_iconst (v := 0) S.1 S.2.1 dL_law_698 (by decide) ?_
    refine va_lald (D := D) S.1 S.2.1 Wd.1.2.2.1 Wd.1.2.2.2 0 0 rfl rfl (by rw [← nI_0]; exact vp_in_nI (by omega) (by omega)) dL_law_699 ?_
    refine lv_iload S.1 S.2.1 dL_law_700 (lv_at hl 0 rfl) ?_
    refine lv_i2l S.1 S.2.1 dL_law_702 rfl ?_
    refine W.lcmp S.1 S.2.1 dL_law_703 ?_
    have hcm : lg_cmp (f1 (0 : Int32).toNatClampNeg) (Int32.toInt64 (if aR_mendT n (VR 0) a = 0 then aR_mendQ (VR 0) a.toNatClampNeg 3 a.toNatClampNeg else 0)) = 0 := by
      rw [if_pos hz, hrr, show (0 : Int32).toNatClampNeg = 0 from rfl, hf1 h0]
      simp [lg_cmp]
    rw [hcm]
    refine lv_if_eq (tgt := 709) S.1 S.2.1 dL_law_704 (by decide) (fun _ => ?_) (fun c2 => absurd rfl c2)
    refine lv_goto (tgt := 1097) S.1 S.2.1 dL_law_709 (by decide) ?_
    exact W.widen (by omega) (by omega) fin
set_option maxHeartbeats 4000000 in
set_option maxRecDepth 100000 in
theorem ly_c_quake (l : Launch) (hlt : l.stackTraces = false) {p : Program} {e : Env} {s : State} {m : MethodId} {args : Array Value} {below : List Frame} {meth : Method} {c : Code} {Q : State → Prop} {D : va_G} {cI cQ cL cR : ClassId} {adC adR : Nat → Nat} {o bs : Nat} {VC VR : aq_V} {th : Int32} {f : Nat → Int64} {H : Heap} {locs : List Loc} {cells slots n h j L : Nat} {xs : Nat → Int32} {ls : Array Slot} (S : CallFix p m c cL_law 9 s args wsL_law RL) (E : ly_E s) (hD : ly_D adC adR o s.heap.size) (hX : va_X bs L xs s s.heap) (hbl : bs < s.heap.size) (hj : 3 * j + 2 < L) (hL : L ≤ 1536) (hR : ly_R n h VC VR) (hh : h ≤ 100000) (Wd : ly_W D cI cQ cL cR adC adR o VC VR th f s H) (hS : ly_S s H locs) (hc : cells + 200 ≤ 601024) (hs : slots + 2000 ≤ 7293034) (hl : lv_has ls 9 [(4, .int (nI (3 * j))), (3, .ref o), (2, .ref (adR 0)), (1, .ref (adC 0)), (0, .ref bs)])
    (K : ∀ (n' h' : Nat) (VC' VR' : aq_V) (th' : Int32) (f' : Nat → Int64) (H' : Heap) (locs' : List Loc) (ls' : Array Slot), h' ≤ h + 100 → ly_R n' h' VC' VR' → ly_W D cI cQ cL cR adC adR o VC' VR' th' f' s H' → ly_S s H' locs' → lv_has ls' 9 [(4, .int (nI (3 * j))), (3, .ref o), (2, .ref (adR 0)), (1, .ref (adC 0)), (0, .ref bs)] → W p l e room_1 s m args below meth c H' locs' (cells + 200) (slots + 2000) Q (F0 m 1097 ls' [])) : W p l e room_1 s m args below meth c H locs cells slots Q (F0 m 712 ls []) := by
  have hst : aR_st (VR 3) (VR 0) := by rw [hR.2.1]; exact hR.2.2.2.1
  have h4 : VR 0 10 4 = nI h := by rw [hR.2.1]; exact hR.1.2.2.1
  refine lv_aload_n S.1 S.2.1 dL_law_712 rfl (lv_at hl 3 rfl) ?_
  refine lv_aload_n S.1 S.2.1 dL_law_713 rfl (lv_at hl 4 rfl) ?_
  refine lv_iload S.1 S.2.1 dL_law_714 (lv_at hl 0 rfl) ?_
  refine lv_iconst (v := 1) S.1 S.2.1 dL_law_716 (by decide) ?_
  refine lv_iadd S.1 S.2.1 dL_law_717 ?_
  refine lv_topi (fun x1 (ex1 : x1 = nI (3 * j) + nI 1) => ?_)
  rw [nI_add] at ex1; subst ex1
  refine va_sld S.1 S.2.1 hX hbl (Nat.not_le.mpr hbl) hS (vp_in_nI (by omega) (by omega)) dL_law_718 ?_
  rw [nI_clamp (by omega)]
  generalize ha : xs (3 * j + 1) = a
  refine lv_aload_n S.1 S.2.1 dL_law_719 rfl (lv_at hl 4 rfl) ?_
  refine lv_iload S.1 S.2.1 dL_law_720 (lv_at hl 0 rfl) ?_
  refine lv_iconst (v := 2) S.1 S.2.1 dL_law_722 (by decide) ?_
  refine lv_iadd S.1 S.2.1 dL_law_723 ?_
  refine lv_topi (fun x2 (ex2 : x2 = nI (3 * j) + nI 2) => ?_)
  rw [nI_add] at ex2; subst ex2
  refine va_sld S.1 S.2.1 hX hbl (Nat.not_le.mpr hbl) hS (vp_in_nI (by omega) (by omega)) dL_law_724 ?_
  rw [nI_clamp (by omega)]
  generalize hb : xs (3 * j + 2) = b
  refine lv_aload_n S.1 S.2.1 dL_law_725 rfl (lv_at hl 1 rfl) ?_
  have hMx := c_X2_quake l hlt (D := D) (cI := cI) (cQ := cQ) hD.1.1 (V := VC) (Q := VC 0) (n := n) hR.1.2.1 hR.1.1 a b
  simp only [aq_ug_id, aq_tc_id] at hMx
  have hMx := c_L_quake l (cL := cL) (f := f) hD.2.2.1.1 a b hMx (ly_q_quake n (VC 0) a b)
  have hk := ly_k_quake hR a b
  rw [hk] at hMx
  refine ly_wrap (As := [.ref (adC 0), .int a, .int b, .ref o]) (rest := []) S E hD hMx (vx_cwSW 4 S.2.2.2.2 gL_law_L_quake rfl rfl rfl (by decide +kernel) ⟨(Nat.le_of_ble_eq_true rfl), (Nat.le_of_ble_eq_true rfl)⟩) Wd hS hl.1 dL_law_726 rfl rfl (Nat.le_of_ble_eq_true rfl) ⟨by show _ ≤ 601024; omega, by show _ ≤ 7293034; omega⟩ (fun H locs f1 hf1 Wd hS => ?_)
  refine lv_istore (lv' := [(5, .int (aR_quakeT n a b)), (4, .int (nI (3 * j))), (3, .ref o), (2, .ref (adR 0)), (1, .ref (adC 0)), (0, .ref bs)]) S.1 S.2.1 dL_law_729 hl (by decide) rfl (fun ls hl => ?_)
  refine lv_aload_n S.1 S.2.1 dL_law_731 rfl (lv_at hl 3 rfl) ?_
  refine lv_aload_n S.1 S.2.1 dL_law_732 rfl (lv_at hl 5 rfl) ?_
  refine lv_iload S.1 S.2.1 dL_law_733 (lv_at hl 1 rfl) ?_
  refine lv_iconst (v := 1) S.1 S.2.1 dL_law_735 (by decide) ?_
  refine lv_iadd S.1 S.2.1 dL_law_736 ?_
  refine lv_topi (fun x3 (ex3 : x3 = nI (3 * j) + nI 1) => ?_)
  rw [nI_add] at ex3; subst ex3
  refine va_sld S.1 S.2.1 hX hbl (Nat.not_le.mpr hbl) hS (vp_in_nI (by omega) (by omega)) dL_law_737 ?_
  rw [nI_clamp (by omega)]
  rw [ha]
  refine lv_aload_n S.1 S.2.1 dL_law_738 rfl (lv_at hl 5 rfl) ?_
  refine lv_iload S.1 S.2.1 dL_law_739 (lv_at hl 1 rfl) ?_
  refine lv_iconst (v := 2) S.1 S.2.1 dL_law_741 (by decide) ?_
  refine lv_iadd S.1 S.2.1 dL_law_742 ?_
  refine lv_topi (fun x4 (ex4 : x4 = nI (3 * j) + nI 2) => ?_)
  rw [nI_add] at ex4; subst ex4
  refine va_sld S.1 S.2.1 hX hbl (Nat.not_le.mpr hbl) hS (vp_in_nI (by omega) (by omega)) dL_law_743 ?_
  rw [nI_clamp (by omega)]
  rw [hb]
  have hMm := c_X4_quake l (D := D) (cI := cR) (th := th) hD.1.2 (V := VR) (Q := VR 0) hst (n := n) hR.2.2.2.2 hR.1.1 a b
  simp only [aq_ug_id] at hMm
  refine ly_mod (As := [.int a, .int b]) (rest := []) S E hD hMm (cwV 2 S.2.2.2.2 gL_law_X4_quake rfl rfl rfl (by decide +kernel) ⟨(Nat.le_of_ble_eq_true rfl), (Nat.le_of_ble_eq_true rfl)⟩) Wd hS hl.1 dL_law_744 rfl rfl (Nat.le_of_ble_eq_true rfl) ⟨by show _ ≤ 601024; omega, by show _ ≤ 7293034; omega⟩ (fun H locs Wd hS => ?_)
  refine lv_istore (lv' := [(6, .int (if aR_quakeT n a b = 0 then aR_quakeQ (VR 0) a.toNatClampNeg b 3 a.toNatClampNeg else 0)), (5, .int (aR_quakeT n a b)), (4, .int (nI (3 * j))), (3, .ref o), (2, .ref (adR 0)), (1, .ref (adC 0)), (0, .ref bs)]) S.1 S.2.1 dL_law_747 hl (by decide) rfl (fun ls hl => ?_)
  refine lv_aload_n S.1 S.2.1 dL_law_749 rfl (lv_at hl 4 rfl) ?_
  refine ly_mod (As := []) (rest := []) S E hD (c_X4_thrown l hD.1.2) (cwV 0 S.2.2.2.2 gL_law_X4_thrown rfl rfl rfl (by decide +kernel) ⟨(Nat.le_of_ble_eq_true rfl), (Nat.le_of_ble_eq_true rfl)⟩) Wd hS hl.1 dL_law_750 rfl rfl (Nat.le_of_ble_eq_true rfl) ⟨by show _ ≤ 601024; omega, by show _ ≤ 7293034; omega⟩ (fun H locs Wd hS => ?_)
  refine lv_iload S.1 S.2.1 dL_law_753 (lv_at hl 1 rfl) ?_
  refine lv_icmp_eq (tgt := 760) S.1 S.2.1 dL_law_755 (by decide) (fun _ => ?_) (fun c1 => absurd rfl c1)
  obtain ⟨n1, h1, VR1, hh1, hR1, he1⟩ := ly_s_quake hR hh a b
  have Wd1 : ly_W D cI cQ cL cR adC adR o _ VR1 _ f1 s H := ⟨Wd.1, Wd.2.1, ly_eqR Wd.2.2 he1⟩
  have fin : W p l e room_1 s m args below meth c H locs (cells + 200) (slots + 2000) Q (F0 m 1097 ls []) := K n1 h1 _ VR1 _ f1 H locs ls hh1 hR1 Wd1 hS (lv_sub hl [2, 3, 4, 5, 6] rfl)
  refine lv_iload S.1 S.2.1 dL_law_760 (lv_at hl 1 rfl) ?_
  refine lv_if_ne (tgt := 777) S.1 S.2.1 dL_law_762 (by decide) (fun _ => ?_) (fun hz => ?_)
  · refine lv_goto (tgt := 1097) S.1 S.2.1 dL_law_777 (by decide) ?_
    exact W.widen (by omega) (by omega) fin
  · have h0 : aq_quakeK n a b = 0 := pu_k0 (by decide) (by decide) (by decide) (hk.trans hz)
    have hrr := ly_r_quake hR hh a b hz
    refine lv_aload_n S.1 S.2.1 dL_law_765 rfl (lv_at hl 3 rfl) ?_
    refine lv_iconst (v := 0) S.1 S.2.1 dL_law_766 (by decide) ?_
    refine va_lald (D := D) S.1 S.2.1 Wd.1.2.2.1 Wd.1.2.2.2 0 0 rfl rfl (by rw [← nI_0]; exact vp_in_nI (by omega) (by omega)) dL_law_767 ?_
    refine lv_iload S.1 S.2.1 dL_law_768 (lv_at hl 0 rfl) ?_
    refine lv_i2l S.1 S.2.1 dL_law_770 rfl ?_
    refine W.lcmp S.1 S.2.1 dL_law_771 ?_
    have hcm : lg_cmp (f1 (0 : Int32).toNatClampNeg) (Int32.toInt64 (if aR_quakeT n a b = 0 then aR_quakeQ (VR 0) a.toNatClampNeg b 3 a.toNatClampNeg else 0)) = 0 := by
      rw [if_pos hz, hrr, show (0 : Int32).toNatClampNeg = 0 from rfl, hf1 h0]
      simp [lg_cmp]
    rw [hcm]
    refine lv_if_eq (tgt := 777) S.1 S.2.1 dL_law_772 (by decide) (fun _ => ?_) (fun c2 => absurd rfl c2)
    refine lv_goto (tgt := 1097) S.1 S.2.1 dL_law_777 (by decide) ?_
    exact W.widen (by omega) (by omega) fin
set_option maxHeartbeats 4000000 in
set_option maxRecDepth 100000 in
theorem ly_c_pass (l : Launch) (hlt : l.stackTraces = false) {p : Program} {e : Env} {s : State} {m : MethodId} {args : Array Value} {below : List Frame} {meth : Method} {c : Code} {Q : State → Prop} {D : va_G} {cI cQ cL cR : ClassId} {adC adR : Nat → Nat} {o bs : Nat} {VC VR : aq_V} {th : Int32} {f : Nat → Int64} {H : Heap} {locs : List Loc} {cells slots n h j L : Nat} {xs : Nat → Int32} {ls : Array Slot} (S : CallFix p m c cL_law 9 s args wsL_law RL) (E : ly_E s) (hD : ly_D adC adR o s.heap.size) (hX : va_X bs L xs s s.heap) (hbl : bs < s.heap.size) (hj : 3 * j + 2 < L) (hL : L ≤ 1536) (hR : ly_R n h VC VR) (hh : h ≤ 100000) (Wd : ly_W D cI cQ cL cR adC adR o VC VR th f s H) (hS : ly_S s H locs) (hc : cells + 200 ≤ 601024) (hs : slots + 2000 ≤ 7293034) (hl : lv_has ls 9 [(4, .int (nI (3 * j))), (3, .ref o), (2, .ref (adR 0)), (1, .ref (adC 0)), (0, .ref bs)])
    (K : ∀ (n' h' : Nat) (VC' VR' : aq_V) (th' : Int32) (f' : Nat → Int64) (H' : Heap) (locs' : List Loc) (ls' : Array Slot), h' ≤ h + 100 → ly_R n' h' VC' VR' → ly_W D cI cQ cL cR adC adR o VC' VR' th' f' s H' → ly_S s H' locs' → lv_has ls' 9 [(4, .int (nI (3 * j))), (3, .ref o), (2, .ref (adR 0)), (1, .ref (adC 0)), (0, .ref bs)] → W p l e room_1 s m args below meth c H' locs' (cells + 200) (slots + 2000) Q (F0 m 1097 ls' [])) : W p l e room_1 s m args below meth c H locs cells slots Q (F0 m 780 ls []) := by
  have hst : aR_st (VR 3) (VR 0) := by rw [hR.2.1]; exact hR.2.2.2.1
  have h4 : VR 0 10 4 = nI h := by rw [hR.2.1]; exact hR.1.2.2.1
  refine lv_aload_n S.1 S.2.1 dL_law_780 rfl (lv_at hl 3 rfl) ?_
  refine lv_aload_n S.1 S.2.1 dL_law_781 rfl (lv_at hl 4 rfl) ?_
  refine lv_iload S.1 S.2.1 dL_law_782 (lv_at hl 0 rfl) ?_
  refine lv_iconst (v := 1) S.1 S.2.1 dL_law_784 (by decide) ?_
  refine lv_iadd S.1 S.2.1 dL_law_785 ?_
  refine lv_topi (fun x1 (ex1 : x1 = nI (3 * j) + nI 1) => ?_)
  rw [nI_add] at ex1; subst ex1
  refine va_sld S.1 S.2.1 hX hbl (Nat.not_le.mpr hbl) hS (vp_in_nI (by omega) (by omega)) dL_law_786 ?_
  rw [nI_clamp (by omega)]
  generalize ha : xs (3 * j + 1) = a
  refine lv_aload_n S.1 S.2.1 dL_law_787 rfl (lv_at hl 1 rfl) ?_
  have hMx := c_X2_pass l hlt (D := D) (cI := cI) (cQ := cQ) hD.1.1 (V := VC) (Q := VC 0) (n := n) hR.1.2.1 hR.1.1 (h := h) hR.1.2.2.1 (by omega) a
  simp only [aq_ug_id, aq_tc_id] at hMx
  have hMx := c_L_pass l (cL := cL) (f := f) hD.2.2.1.1 a hMx (ly_q_pass n (VC 0) a a)
  have hk := ly_k_pass hR a
  rw [hk] at hMx
  refine ly_wrap (As := [.ref (adC 0), .int a, .ref o]) (rest := []) S E hD hMx (vx_cwSW 3 S.2.2.2.2 gL_law_L_pass rfl rfl rfl (by decide +kernel) ⟨(Nat.le_of_ble_eq_true rfl), (Nat.le_of_ble_eq_true rfl)⟩) Wd hS hl.1 dL_law_788 rfl rfl (Nat.le_of_ble_eq_true rfl) ⟨by show _ ≤ 601024; omega, by show _ ≤ 7293034; omega⟩ (fun H locs f1 hf1 Wd hS => ?_)
  refine lv_istore (lv' := [(5, .int (aR_pasT a)), (4, .int (nI (3 * j))), (3, .ref o), (2, .ref (adR 0)), (1, .ref (adC 0)), (0, .ref bs)]) S.1 S.2.1 dL_law_791 hl (by decide) rfl (fun ls hl => ?_)
  refine lv_aload_n S.1 S.2.1 dL_law_793 rfl (lv_at hl 3 rfl) ?_
  refine lv_aload_n S.1 S.2.1 dL_law_794 rfl (lv_at hl 5 rfl) ?_
  refine lv_iload S.1 S.2.1 dL_law_795 (lv_at hl 1 rfl) ?_
  refine lv_iconst (v := 1) S.1 S.2.1 dL_law_797 (by decide) ?_
  refine lv_iadd S.1 S.2.1 dL_law_798 ?_
  refine lv_topi (fun x2 (ex2 : x2 = nI (3 * j) + nI 1) => ?_)
  rw [nI_add] at ex2; subst ex2
  refine va_sld S.1 S.2.1 hX hbl (Nat.not_le.mpr hbl) hS (vp_in_nI (by omega) (by omega)) dL_law_799 ?_
  rw [nI_clamp (by omega)]
  rw [ha]
  have hMm := c_X4_pass_ l (D := D) (cI := cR) (th := th) hD.1.2 (V := VR) (Q := VR 0) hst (n := n) hR.2.2.2.2 hR.1.1 (h := h) h4 (by omega) a
  simp only [aq_ug_id] at hMm
  refine ly_mod (As := [.int a]) (rest := []) S E hD hMm (cwV 1 S.2.2.2.2 gL_law_X4_pass_ rfl rfl rfl (by decide +kernel) ⟨(Nat.le_of_ble_eq_true rfl), (Nat.le_of_ble_eq_true rfl)⟩) Wd hS hl.1 dL_law_800 rfl rfl (Nat.le_of_ble_eq_true rfl) ⟨by show _ ≤ 601024; omega, by show _ ≤ 7293034; omega⟩ (fun H locs Wd hS => ?_)
  refine lv_istore (lv' := [(6, .int (if aR_pasT a = 0 then aR_goR n (VR 2) a.toNatClampNeg (VR 0) 0 else 0)), (5, .int (aR_pasT a)), (4, .int (nI (3 * j))), (3, .ref o), (2, .ref (adR 0)), (1, .ref (adC 0)), (0, .ref bs)]) S.1 S.2.1 dL_law_803 hl (by decide) rfl (fun ls hl => ?_)
  refine lv_aload_n S.1 S.2.1 dL_law_805 rfl (lv_at hl 4 rfl) ?_
  refine ly_mod (As := []) (rest := []) S E hD (c_X4_thrown l hD.1.2) (cwV 0 S.2.2.2.2 gL_law_X4_thrown rfl rfl rfl (by decide +kernel) ⟨(Nat.le_of_ble_eq_true rfl), (Nat.le_of_ble_eq_true rfl)⟩) Wd hS hl.1 dL_law_806 rfl rfl (Nat.le_of_ble_eq_true rfl) ⟨by show _ ≤ 601024; omega, by show _ ≤ 7293034; omega⟩ (fun H locs Wd hS => ?_)
  refine lv_iload S.1 S.2.1 dL_law_809 (lv_at hl 1 rfl) ?_
  refine lv_icmp_eq (tgt := 816) S.1 S.2.1 dL_law_811 (by decide) (fun _ => ?_) (fun c1 => absurd rfl c1)
  obtain ⟨n1, h1, VR1, hh1, hR1, he1⟩ := ly_s_pass hR hh a
  have Wd1 : ly_W D cI cQ cL cR adC adR o _ VR1 _ f1 s H := ⟨Wd.1, Wd.2.1, ly_eqR Wd.2.2 he1⟩
  have fin : W p l e room_1 s m args below meth c H locs (cells + 200) (slots + 2000) Q (F0 m 1097 ls []) := K n1 h1 _ VR1 _ f1 H locs ls hh1 hR1 Wd1 hS (lv_sub hl [2, 3, 4, 5, 6] rfl)
  refine lv_iload S.1 S.2.1 dL_law_816 (lv_at hl 1 rfl) ?_
  refine lv_if_ne (tgt := 833) S.1 S.2.1 dL_law_818 (by decide) (fun _ => ?_) (fun hz => ?_)
  · refine lv_goto (tgt := 1097) S.1 S.2.1 dL_law_833 (by decide) ?_
    exact W.widen (by omega) (by omega) fin
  · have h0 : aq_rgK a 1 100 = 0 := pu_k0 (by decide) (by decide) (by decide) (hk.trans hz)
    have hrr := ly_r_pass hR hh a hz
    refine lv_aload_n S.1 S.2.1 dL_law_821 rfl (lv_at hl 3 rfl) ?_
    refine lv_iconst (v := 0) S.1 S.2.1 dL_law_822 (by decide) ?_
    refine va_lald (D := D) S.1 S.2.1 Wd.1.2.2.1 Wd.1.2.2.2 0 0 rfl rfl (by rw [← nI_0]; exact vp_in_nI (by omega) (by omega)) dL_law_823 ?_
    refine lv_iload S.1 S.2.1 dL_law_824 (lv_at hl 0 rfl) ?_
    refine lv_i2l S.1 S.2.1 dL_law_826 rfl ?_
    refine W.lcmp S.1 S.2.1 dL_law_827 ?_
    have hcm : lg_cmp (f1 (0 : Int32).toNatClampNeg) (Int32.toInt64 (if aR_pasT a = 0 then aR_goR n (VR 2) a.toNatClampNeg (VR 0) 0 else 0)) = 0 := by
      rw [if_pos hz, hrr, show (0 : Int32).toNatClampNeg = 0 from rfl, hf1 h0]
      simp [lg_cmp]
    rw [hcm]
    refine lv_if_eq (tgt := 833) S.1 S.2.1 dL_law_828 (by decide) (fun _ => ?_) (fun c2 => absurd rfl c2)
    refine lv_goto (tgt := 1097) S.1 S.2.1 dL_law_833 (by decide) ?_
    exact W.widen (by omega) (by omega) fin
set_option maxHeartbeats 4000000 in
set_option maxRecDepth 100000 in
theorem ly_c_count (l : Launch) (hlt : l.stackTraces = false) {p : Program} {e : Env} {s : State} {m : MethodId} {args : Array Value} {below : List Frame} {meth : Method} {c : Code} {Q : State → Prop} {D : va_G} {cI cQ cL cR : ClassId} {adC adR : Nat → Nat} {o bs : Nat} {VC VR : aq_V} {th : Int32} {f : Nat → Int64} {H : Heap} {locs : List Loc} {cells slots n h j L : Nat} {xs : Nat → Int32} {ls : Array Slot} (S : CallFix p m c cL_law 9 s args wsL_law RL) (E : ly_E s) (hD : ly_D adC adR o s.heap.size) (hX : va_X bs L xs s s.heap) (hbl : bs < s.heap.size) (hj : 3 * j + 2 < L) (hL : L ≤ 1536) (hR : ly_R n h VC VR) (hh : h ≤ 100000) (Wd : ly_W D cI cQ cL cR adC adR o VC VR th f s H) (hS : ly_S s H locs) (hc : cells + 200 ≤ 601024) (hs : slots + 2000 ≤ 7293034) (hl : lv_has ls 9 [(4, .int (nI (3 * j))), (3, .ref o), (2, .ref (adR 0)), (1, .ref (adC 0)), (0, .ref bs)])
    (K : ∀ (n' h' : Nat) (VC' VR' : aq_V) (th' : Int32) (f' : Nat → Int64) (H' : Heap) (locs' : List Loc) (ls' : Array Slot), h' ≤ h + 100 → ly_R n' h' VC' VR' → ly_W D cI cQ cL cR adC adR o VC' VR' th' f' s H' → ly_S s H' locs' → lv_has ls' 9 [(4, .int (nI (3 * j))), (3, .ref o), (2, .ref (adR 0)), (1, .ref (adC 0)), (0, .ref bs)] → W p l e room_1 s m args below meth c H' locs' (cells + 200) (slots + 2000) Q (F0 m 1097 ls' [])) : W p l e room_1 s m args below meth c H locs cells slots Q (F0 m 836 ls []) := by
  have hst : aR_st (VR 3) (VR 0) := by rw [hR.2.1]; exact hR.2.2.2.1
  have h4 : VR 0 10 4 = nI h := by rw [hR.2.1]; exact hR.1.2.2.1
  refine lv_aload_n S.1 S.2.1 dL_law_836 rfl (lv_at hl 3 rfl) ?_
  refine lv_aload_n S.1 S.2.1 dL_law_837 rfl (lv_at hl 4 rfl) ?_
  refine lv_iload S.1 S.2.1 dL_law_838 (lv_at hl 0 rfl) ?_
  refine lv_iconst (v := 1) S.1 S.2.1 dL_law_840 (by decide) ?_
  refine lv_iadd S.1 S.2.1 dL_law_841 ?_
  refine lv_topi (fun x1 (ex1 : x1 = nI (3 * j) + nI 1) => ?_)
  rw [nI_add] at ex1; subst ex1
  refine va_sld S.1 S.2.1 hX hbl (Nat.not_le.mpr hbl) hS (vp_in_nI (by omega) (by omega)) dL_law_842 ?_
  rw [nI_clamp (by omega)]
  generalize ha : xs (3 * j + 1) = a
  refine lv_aload_n S.1 S.2.1 dL_law_843 rfl (lv_at hl 1 rfl) ?_
  have hMx := c_X2_count l hlt (D := D) (cI := cI) (cQ := cQ) hD.1.1 (V := VC) (Q := VC 0) (n := n) hR.1.2.1 hR.1.1 a
  simp only [aq_ug_id, aq_tc_id] at hMx
  have hMx := c_L_count l (cL := cL) (f := f) hD.2.2.1.1 a hMx (ly_q_count n (VC 0) a a)
  have hk := ly_k_count hR a
  rw [hk] at hMx
  refine ly_wrap (As := [.ref (adC 0), .int a, .ref o]) (rest := []) S E hD hMx (vx_cwSW 3 S.2.2.2.2 gL_law_L_count rfl rfl rfl (by decide +kernel) ⟨(Nat.le_of_ble_eq_true rfl), (Nat.le_of_ble_eq_true rfl)⟩) Wd hS hl.1 dL_law_844 rfl rfl (Nat.le_of_ble_eq_true rfl) ⟨by show _ ≤ 601024; omega, by show _ ≤ 7293034; omega⟩ (fun H locs f1 hf1 Wd hS => ?_)
  refine lv_istore (lv' := [(5, .int (aR_cntT a)), (4, .int (nI (3 * j))), (3, .ref o), (2, .ref (adR 0)), (1, .ref (adC 0)), (0, .ref bs)]) S.1 S.2.1 dL_law_847 hl (by decide) rfl (fun ls hl => ?_)
  refine lv_aload_n S.1 S.2.1 dL_law_849 rfl (lv_at hl 3 rfl) ?_
  refine lv_aload_n S.1 S.2.1 dL_law_850 rfl (lv_at hl 5 rfl) ?_
  refine lv_iload S.1 S.2.1 dL_law_851 (lv_at hl 1 rfl) ?_
  refine lv_iconst (v := 1) S.1 S.2.1 dL_law_853 (by decide) ?_
  refine lv_iadd S.1 S.2.1 dL_law_854 ?_
  refine lv_topi (fun x2 (ex2 : x2 = nI (3 * j) + nI 1) => ?_)
  rw [nI_add] at ex2; subst ex2
  refine va_sld S.1 S.2.1 hX hbl (Nat.not_le.mpr hbl) hS (vp_in_nI (by omega) (by omega)) dL_law_855 ?_
  rw [nI_clamp (by omega)]
  rw [ha]
  have hMm := c_X4_count l (D := D) (cI := cR) (th := th) hD.1.2 (V := VR) (Q := VR 0) hst (n := n) hR.2.2.2.2 hR.1.1 a
  simp only [aq_ug_id] at hMm
  refine ly_mod (As := [.int a]) (rest := []) S E hD hMm (cwV 1 S.2.2.2.2 gL_law_X4_count rfl rfl rfl (by decide +kernel) ⟨(Nat.le_of_ble_eq_true rfl), (Nat.le_of_ble_eq_true rfl)⟩) Wd hS hl.1 dL_law_856 rfl rfl (Nat.le_of_ble_eq_true rfl) ⟨by show _ ≤ 601024; omega, by show _ ≤ 7293034; omega⟩ (fun H locs Wd hS => ?_)
  refine lv_istore (lv' := [(6, .int (if aR_cntT a = 0 then aR_countNo n (VR 0) a.toNatClampNeg else 0)), (5, .int (aR_cntT a)), (4, .int (nI (3 * j))), (3, .ref o), (2, .ref (adR 0)), (1, .ref (adC 0)), (0, .ref bs)]) S.1 S.2.1 dL_law_859 hl (by decide) rfl (fun ls hl => ?_)
  refine lv_aload_n S.1 S.2.1 dL_law_861 rfl (lv_at hl 4 rfl) ?_
  refine ly_mod (As := []) (rest := []) S E hD (c_X4_thrown l hD.1.2) (cwV 0 S.2.2.2.2 gL_law_X4_thrown rfl rfl rfl (by decide +kernel) ⟨(Nat.le_of_ble_eq_true rfl), (Nat.le_of_ble_eq_true rfl)⟩) Wd hS hl.1 dL_law_862 rfl rfl (Nat.le_of_ble_eq_true rfl) ⟨by show _ ≤ 601024; omega, by show _ ≤ 7293034; omega⟩ (fun H locs Wd hS => ?_)
  refine lv_iload S.1 S.2.1 dL_law_865 (lv_at hl 1 rfl) ?_
  refine lv_icmp_eq (tgt := 872) S.1 S.2.1 dL_law_867 (by decide) (fun _ => ?_) (fun c1 => absurd rfl c1)
  obtain ⟨n1, h1, VR1, hh1, hR1, he1⟩ := ly_s_count hR hh a
  have Wd1 : ly_W D cI cQ cL cR adC adR o _ VR1 _ f1 s H := ⟨Wd.1, Wd.2.1, ly_eqR Wd.2.2 he1⟩
  have fin : W p l e room_1 s m args below meth c H locs (cells + 200) (slots + 2000) Q (F0 m 1097 ls []) := K n1 h1 _ VR1 _ f1 H locs ls hh1 hR1 Wd1 hS (lv_sub hl [2, 3, 4, 5, 6] rfl)
  refine lv_iload S.1 S.2.1 dL_law_872 (lv_at hl 1 rfl) ?_
  refine lv_if_ne (tgt := 889) S.1 S.2.1 dL_law_874 (by decide) (fun _ => ?_) (fun hz => ?_)
  · refine lv_goto (tgt := 1097) S.1 S.2.1 dL_law_889 (by decide) ?_
    exact W.widen (by omega) (by omega) fin
  · have h0 : aq_ixK a 12 = 0 := pu_k0 (by decide) (by decide) (by decide) (hk.trans hz)
    have hrr := ly_r_count hR hh a hz
    refine lv_aload_n S.1 S.2.1 dL_law_877 rfl (lv_at hl 3 rfl) ?_
    refine lv_iconst (v := 0) S.1 S.2.1 dL_law_878 (by decide) ?_
    refine va_lald (D := D) S.1 S.2.1 Wd.1.2.2.1 Wd.1.2.2.2 0 0 rfl rfl (by rw [← nI_0]; exact vp_in_nI (by omega) (by omega)) dL_law_879 ?_
    refine lv_iload S.1 S.2.1 dL_law_880 (lv_at hl 0 rfl) ?_
    refine lv_i2l S.1 S.2.1 dL_law_882 rfl ?_
    refine W.lcmp S.1 S.2.1 dL_law_883 ?_
    have hcm : lg_cmp (f1 (0 : Int32).toNatClampNeg) (Int32.toInt64 (if aR_cntT a = 0 then aR_countNo n (VR 0) a.toNatClampNeg else 0)) = 0 := by
      rw [if_pos hz, hrr, show (0 : Int32).toNatClampNeg = 0 from rfl, hf1 h0]
      simp [lg_cmp]
    rw [hcm]
    refine lv_if_eq (tgt := 889) S.1 S.2.1 dL_law_884 (by decide) (fun _ => ?_) (fun c2 => absurd rfl c2)
    refine lv_goto (tgt := 1097) S.1 S.2.1 dL_law_889 (by decide) ?_
    exact W.widen (by omega) (by omega) fin
set_option maxHeartbeats 4000000 in
set_option maxRecDepth 100000 in
theorem ly_c_foresee (l : Launch) (hlt : l.stackTraces = false) {p : Program} {e : Env} {s : State} {m : MethodId} {args : Array Value} {below : List Frame} {meth : Method} {c : Code} {Q : State → Prop} {D : va_G} {cI cQ cL cR : ClassId} {adC adR : Nat → Nat} {o bs : Nat} {VC VR : aq_V} {th : Int32} {f : Nat → Int64} {H : Heap} {locs : List Loc} {cells slots n h j L : Nat} {xs : Nat → Int32} {ls : Array Slot} (S : CallFix p m c cL_law 9 s args wsL_law RL) (E : ly_E s) (hD : ly_D adC adR o s.heap.size) (hX : va_X bs L xs s s.heap) (hbl : bs < s.heap.size) (hj : 3 * j + 2 < L) (hL : L ≤ 1536) (hR : ly_R n h VC VR) (hh : h ≤ 100000) (Wd : ly_W D cI cQ cL cR adC adR o VC VR th f s H) (hS : ly_S s H locs) (hc : cells + 200 ≤ 601024) (hs : slots + 2000 ≤ 7293034) (hl : lv_has ls 9 [(4, .int (nI (3 * j))), (3, .ref o), (2, .ref (adR 0)), (1, .ref (adC 0)), (0, .ref bs)])
    (K : ∀ (n' h' : Nat) (VC' VR' : aq_V) (th' : Int32) (f' : Nat → Int64) (H' : Heap) (locs' : List Loc) (ls' : Array Slot), h' ≤ h + 100 → ly_R n' h' VC' VR' → ly_W D cI cQ cL cR adC adR o VC' VR' th' f' s H' → ly_S s H' locs' → lv_has ls' 9 [(4, .int (nI (3 * j))), (3, .ref o), (2, .ref (adR 0)), (1, .ref (adC 0)), (0, .ref bs)] → W p l e room_1 s m args below meth c H' locs' (cells + 200) (slots + 2000) Q (F0 m 1097 ls' [])) : W p l e room_1 s m args below meth c H locs cells slots Q (F0 m 892 ls []) := by
  have hst : aR_st (VR 3) (VR 0) := by rw [hR.2.1]; exact hR.2.2.2.1
  have h4 : VR 0 10 4 = nI h := by rw [hR.2.1]; exact hR.1.2.2.1
  refine lv_aload_n S.1 S.2.1 dL_law_892 rfl (lv_at hl 3 rfl) ?_
  refine lv_aload_n S.1 S.2.1 dL_law_893 rfl (lv_at hl 4 rfl) ?_
  refine lv_iload S.1 S.2.1 dL_law_894 (lv_at hl 0 rfl) ?_
  refine lv_iconst (v := 1) S.1 S.2.1 dL_law_896 (by decide) ?_
  refine lv_iadd S.1 S.2.1 dL_law_897 ?_
  refine lv_topi (fun x1 (ex1 : x1 = nI (3 * j) + nI 1) => ?_)
  rw [nI_add] at ex1; subst ex1
  refine va_sld S.1 S.2.1 hX hbl (Nat.not_le.mpr hbl) hS (vp_in_nI (by omega) (by omega)) dL_law_898 ?_
  rw [nI_clamp (by omega)]
  generalize ha : xs (3 * j + 1) = a
  refine lv_aload_n S.1 S.2.1 dL_law_899 rfl (lv_at hl 4 rfl) ?_
  refine lv_iload S.1 S.2.1 dL_law_900 (lv_at hl 0 rfl) ?_
  refine lv_iconst (v := 2) S.1 S.2.1 dL_law_902 (by decide) ?_
  refine lv_iadd S.1 S.2.1 dL_law_903 ?_
  refine lv_topi (fun x2 (ex2 : x2 = nI (3 * j) + nI 2) => ?_)
  rw [nI_add] at ex2; subst ex2
  refine va_sld S.1 S.2.1 hX hbl (Nat.not_le.mpr hbl) hS (vp_in_nI (by omega) (by omega)) dL_law_904 ?_
  rw [nI_clamp (by omega)]
  generalize hb : xs (3 * j + 2) = b
  refine lv_aload_n S.1 S.2.1 dL_law_905 rfl (lv_at hl 1 rfl) ?_
  have hMx := c_X2_foresee l hlt (D := D) (cI := cI) (cQ := cQ) hD.1.1 (V := VC) (Q := VC 0) (Q1 := VC 1) (n := n) hR.1.2.1 hR.1.1 (h := h) hR.1.2.2.1 (by omega) a b
  simp only [aq_ug_id, aq_tc_id] at hMx
  have hMx := c_L_foresee l (cL := cL) (f := f) hD.2.2.1.1 a b hMx (ly_q_foresee n (VC 0) a b)
  have hk := ly_k_foresee hR a b
  rw [hk] at hMx
  refine ly_wrap (As := [.ref (adC 0), .int a, .int b, .ref o]) (rest := []) S E hD hMx (vx_cwSW 4 S.2.2.2.2 gL_law_L_foresee rfl rfl rfl (by decide +kernel) ⟨(Nat.le_of_ble_eq_true rfl), (Nat.le_of_ble_eq_true rfl)⟩) Wd hS hl.1 dL_law_906 rfl rfl (Nat.le_of_ble_eq_true rfl) ⟨by show _ ≤ 601024; omega, by show _ ≤ 7293034; omega⟩ (fun H locs f1 hf1 Wd hS => ?_)
  refine lv_istore (lv' := [(5, .int (aR_forT a b)), (4, .int (nI (3 * j))), (3, .ref o), (2, .ref (adR 0)), (1, .ref (adC 0)), (0, .ref bs)]) S.1 S.2.1 dL_law_909 hl (by decide) rfl (fun ls hl => ?_)
  refine lv_aload_n S.1 S.2.1 dL_law_911 rfl (lv_at hl 3 rfl) ?_
  refine lv_aload_n S.1 S.2.1 dL_law_912 rfl (lv_at hl 5 rfl) ?_
  refine lv_iload S.1 S.2.1 dL_law_913 (lv_at hl 1 rfl) ?_
  refine lv_iconst (v := 1) S.1 S.2.1 dL_law_915 (by decide) ?_
  refine lv_iadd S.1 S.2.1 dL_law_916 ?_
  refine lv_topi (fun x3 (ex3 : x3 = nI (3 * j) + nI 1) => ?_)
  rw [nI_add] at ex3; subst ex3
  refine va_sld S.1 S.2.1 hX hbl (Nat.not_le.mpr hbl) hS (vp_in_nI (by omega) (by omega)) dL_law_917 ?_
  rw [nI_clamp (by omega)]
  rw [ha]
  refine lv_aload_n S.1 S.2.1 dL_law_918 rfl (lv_at hl 5 rfl) ?_
  refine lv_iload S.1 S.2.1 dL_law_919 (lv_at hl 1 rfl) ?_
  refine lv_iconst (v := 2) S.1 S.2.1 dL_law_921 (by decide) ?_
  refine lv_iadd S.1 S.2.1 dL_law_922 ?_
  refine lv_topi (fun x4 (ex4 : x4 = nI (3 * j) + nI 2) => ?_)
  rw [nI_add] at ex4; subst ex4
  refine va_sld S.1 S.2.1 hX hbl (Nat.not_le.mpr hbl) hS (vp_in_nI (by omega) (by omega)) dL_law_923 ?_
  rw [nI_clamp (by omega)]
  rw [hb]
  have hMm := c_X4_foresee l (D := D) (cI := cR) (th := th) hD.1.2 (V := VR) (Q := VR 0) (Y := VR 1) hst (n := n) hR.2.2.2.2 hR.1.1 (h := h) h4 (by omega) a b
  simp only [aq_ug_id] at hMm
  refine ly_mod (As := [.int a, .int b]) (rest := []) S E hD hMm (cwV 2 S.2.2.2.2 gL_law_X4_foresee rfl rfl rfl (by decide +kernel) ⟨(Nat.le_of_ble_eq_true rfl), (Nat.le_of_ble_eq_true rfl)⟩) Wd hS hl.1 dL_law_924 rfl rfl (Nat.le_of_ble_eq_true rfl) ⟨by show _ ≤ 601024; omega, by show _ ≤ 7293034; omega⟩ (fun H locs Wd hS => ?_)
  refine lv_istore (lv' := [(6, .int (if aR_forT a b = 0 then aR_forR n (VR 2) (VR 0) a.toNatClampNeg b.toNatClampNeg else 0)), (5, .int (aR_forT a b)), (4, .int (nI (3 * j))), (3, .ref o), (2, .ref (adR 0)), (1, .ref (adC 0)), (0, .ref bs)]) S.1 S.2.1 dL_law_927 hl (by decide) rfl (fun ls hl => ?_)
  refine lv_aload_n S.1 S.2.1 dL_law_929 rfl (lv_at hl 4 rfl) ?_
  refine ly_mod (As := []) (rest := []) S E hD (c_X4_thrown l hD.1.2) (cwV 0 S.2.2.2.2 gL_law_X4_thrown rfl rfl rfl (by decide +kernel) ⟨(Nat.le_of_ble_eq_true rfl), (Nat.le_of_ble_eq_true rfl)⟩) Wd hS hl.1 dL_law_930 rfl rfl (Nat.le_of_ble_eq_true rfl) ⟨by show _ ≤ 601024; omega, by show _ ≤ 7293034; omega⟩ (fun H locs Wd hS => ?_)
  refine lv_iload S.1 S.2.1 dL_law_933 (lv_at hl 1 rfl) ?_
  refine lv_icmp_eq (tgt := 940) S.1 S.2.1 dL_law_935 (by decide) (fun _ => ?_) (fun c1 => absurd rfl c1)
  obtain ⟨n1, h1, VR1, hh1, hR1, he1⟩ := ly_s_foresee hR hh a b
  have Wd1 : ly_W D cI cQ cL cR adC adR o _ VR1 _ f1 s H := ⟨Wd.1, Wd.2.1, ly_eqR Wd.2.2 he1⟩
  have fin : W p l e room_1 s m args below meth c H locs (cells + 200) (slots + 2000) Q (F0 m 1097 ls []) := K n1 h1 _ VR1 _ f1 H locs ls hh1 hR1 Wd1 hS (lv_sub hl [2, 3, 4, 5, 6] rfl)
  refine lv_iload S.1 S.2.1 dL_law_940 (lv_at hl 1 rfl) ?_
  refine lv_if_ne (tgt := 957) S.1 S.2.1 dL_law_942 (by decide) (fun _ => ?_) (fun hz => ?_)
  · refine lv_goto (tgt := 1097) S.1 S.2.1 dL_law_957 (by decide) ?_
    exact W.widen (by omega) (by omega) fin
  · have h0 : aq_forK a b = 0 := pu_k0 (by decide) (by decide) (by decide) (hk.trans hz)
    have hrr := ly_r_foresee hR hh a b hz
    refine lv_aload_n S.1 S.2.1 dL_law_945 rfl (lv_at hl 3 rfl) ?_
    refine lv_iconst (v := 0) S.1 S.2.1 dL_law_946 (by decide) ?_
    refine va_lald (D := D) S.1 S.2.1 Wd.1.2.2.1 Wd.1.2.2.2 0 0 rfl rfl (by rw [← nI_0]; exact vp_in_nI (by omega) (by omega)) dL_law_947 ?_
    refine lv_iload S.1 S.2.1 dL_law_948 (lv_at hl 0 rfl) ?_
    refine lv_i2l S.1 S.2.1 dL_law_950 rfl ?_
    refine W.lcmp S.1 S.2.1 dL_law_951 ?_
    have hcm : lg_cmp (f1 (0 : Int32).toNatClampNeg) (Int32.toInt64 (if aR_forT a b = 0 then aR_forR n (VR 2) (VR 0) a.toNatClampNeg b.toNatClampNeg else 0)) = 0 := by
      rw [if_pos hz, hrr, show (0 : Int32).toNatClampNeg = 0 from rfl, hf1 h0]
      simp [lg_cmp]
    rw [hcm]
    refine lv_if_eq (tgt := 957) S.1 S.2.1 dL_law_952 (by decide) (fun _ => ?_) (fun c2 => absurd rfl c2)
    refine lv_goto (tgt := 1097) S.1 S.2.1 dL_law_957 (by decide) ?_
    exact W.widen (by omega) (by omega) fin
set_option maxHeartbeats 4000000 in
set_option maxRecDepth 100000 in
theorem ly_c_advise (l : Launch) (hlt : l.stackTraces = false) {p : Program} {e : Env} {s : State} {m : MethodId} {args : Array Value} {below : List Frame} {meth : Method} {c : Code} {Q : State → Prop} {D : va_G} {cI cQ cL cR : ClassId} {adC adR : Nat → Nat} {o bs : Nat} {VC VR : aq_V} {th : Int32} {f : Nat → Int64} {H : Heap} {locs : List Loc} {cells slots n h j L : Nat} {xs : Nat → Int32} {ls : Array Slot} (S : CallFix p m c cL_law 9 s args wsL_law RL) (E : ly_E s) (hD : ly_D adC adR o s.heap.size) (hX : va_X bs L xs s s.heap) (hbl : bs < s.heap.size) (hj : 3 * j + 2 < L) (hL : L ≤ 1536) (hR : ly_R n h VC VR) (hh : h ≤ 100000) (Wd : ly_W D cI cQ cL cR adC adR o VC VR th f s H) (hS : ly_S s H locs) (hc : cells + 200 ≤ 601024) (hs : slots + 2000 ≤ 7293034) (hl : lv_has ls 9 [(4, .int (nI (3 * j))), (3, .ref o), (2, .ref (adR 0)), (1, .ref (adC 0)), (0, .ref bs)])
    (K : ∀ (n' h' : Nat) (VC' VR' : aq_V) (th' : Int32) (f' : Nat → Int64) (H' : Heap) (locs' : List Loc) (ls' : Array Slot), h' ≤ h + 100 → ly_R n' h' VC' VR' → ly_W D cI cQ cL cR adC adR o VC' VR' th' f' s H' → ly_S s H' locs' → lv_has ls' 9 [(4, .int (nI (3 * j))), (3, .ref o), (2, .ref (adR 0)), (1, .ref (adC 0)), (0, .ref bs)] → W p l e room_1 s m args below meth c H' locs' (cells + 200) (slots + 2000) Q (F0 m 1097 ls' [])) : W p l e room_1 s m args below meth c H locs cells slots Q (F0 m 960 ls []) := by
  have hst : aR_st (VR 3) (VR 0) := by rw [hR.2.1]; exact hR.2.2.2.1
  have h4 : VR 0 10 4 = nI h := by rw [hR.2.1]; exact hR.1.2.2.1
  refine lv_aload_n S.1 S.2.1 dL_law_960 rfl (lv_at hl 3 rfl) ?_
  refine lv_aload_n S.1 S.2.1 dL_law_961 rfl (lv_at hl 4 rfl) ?_
  refine lv_iload S.1 S.2.1 dL_law_962 (lv_at hl 0 rfl) ?_
  refine lv_iconst (v := 1) S.1 S.2.1 dL_law_964 (by decide) ?_
  refine lv_iadd S.1 S.2.1 dL_law_965 ?_
  refine lv_topi (fun x1 (ex1 : x1 = nI (3 * j) + nI 1) => ?_)
  rw [nI_add] at ex1; subst ex1
  refine va_sld S.1 S.2.1 hX hbl (Nat.not_le.mpr hbl) hS (vp_in_nI (by omega) (by omega)) dL_law_966 ?_
  rw [nI_clamp (by omega)]
  generalize ha : xs (3 * j + 1) = a
  refine lv_aload_n S.1 S.2.1 dL_law_967 rfl (lv_at hl 1 rfl) ?_
  have hMx := c_X2_advise l hlt (D := D) (cI := cI) (cQ := cQ) hD.1.1 (V := VC) (Q := VC 0) (Q1 := VC 1) (n := n) hR.1.2.1 hR.1.1 (h := h) hR.1.2.2.1 (by omega) a
  simp only [aq_ug_id, aq_tc_id] at hMx
  have hMx := c_L_advise l (cL := cL) (f := f) hD.2.2.1.1 a hMx (ly_q_advise n (VC 0) a a)
  have hk := ly_k_advise hR a
  rw [hk] at hMx
  refine ly_wrap (As := [.ref (adC 0), .int a, .ref o]) (rest := []) S E hD hMx (vx_cwSW 3 S.2.2.2.2 gL_law_L_advise rfl rfl rfl (by decide +kernel) ⟨(Nat.le_of_ble_eq_true rfl), (Nat.le_of_ble_eq_true rfl)⟩) Wd hS hl.1 dL_law_968 rfl rfl (Nat.le_of_ble_eq_true rfl) ⟨by show _ ≤ 601024; omega, by show _ ≤ 7293034; omega⟩ (fun H locs f1 hf1 Wd hS => ?_)
  refine lv_istore (lv' := [(5, .int (aR_advT a)), (4, .int (nI (3 * j))), (3, .ref o), (2, .ref (adR 0)), (1, .ref (adC 0)), (0, .ref bs)]) S.1 S.2.1 dL_law_971 hl (by decide) rfl (fun ls hl => ?_)
  refine lv_aload_n S.1 S.2.1 dL_law_973 rfl (lv_at hl 3 rfl) ?_
  refine lv_aload_n S.1 S.2.1 dL_law_974 rfl (lv_at hl 5 rfl) ?_
  refine lv_iload S.1 S.2.1 dL_law_975 (lv_at hl 1 rfl) ?_
  refine lv_iconst (v := 1) S.1 S.2.1 dL_law_977 (by decide) ?_
  refine lv_iadd S.1 S.2.1 dL_law_978 ?_
  refine lv_topi (fun x2 (ex2 : x2 = nI (3 * j) + nI 1) => ?_)
  rw [nI_add] at ex2; subst ex2
  refine va_sld S.1 S.2.1 hX hbl (Nat.not_le.mpr hbl) hS (vp_in_nI (by omega) (by omega)) dL_law_979 ?_
  rw [nI_clamp (by omega)]
  rw [ha]
  have hMm := c_X4_advise l (D := D) (cI := cR) (th := th) hD.1.2 (V := VR) (Q := VR 0) (Y := VR 1) hst (n := n) hR.2.2.2.2 hR.1.1 (h := h) h4 (by omega) a
  simp only [aq_ug_id] at hMm
  refine ly_mod (As := [.int a]) (rest := []) S E hD hMm (cwV 1 S.2.2.2.2 gL_law_X4_advise rfl rfl rfl (by decide +kernel) ⟨(Nat.le_of_ble_eq_true rfl), (Nat.le_of_ble_eq_true rfl)⟩) Wd hS hl.1 dL_law_980 rfl rfl (Nat.le_of_ble_eq_true rfl) ⟨by show _ ≤ 601024; omega, by show _ ≤ 7293034; omega⟩ (fun H locs Wd hS => ?_)
  refine lv_istore (lv' := [(6, .int (if aR_advT a = 0 then aR_advR n (VR 2) a.toNatClampNeg (VR 0) n 0 (-1) (aR_goR n (VR 2) a.toNatClampNeg (VR 0) 0) else 0)), (5, .int (aR_advT a)), (4, .int (nI (3 * j))), (3, .ref o), (2, .ref (adR 0)), (1, .ref (adC 0)), (0, .ref bs)]) S.1 S.2.1 dL_law_983 hl (by decide) rfl (fun ls hl => ?_)
  refine lv_aload_n S.1 S.2.1 dL_law_985 rfl (lv_at hl 4 rfl) ?_
  refine ly_mod (As := []) (rest := []) S E hD (c_X4_thrown l hD.1.2) (cwV 0 S.2.2.2.2 gL_law_X4_thrown rfl rfl rfl (by decide +kernel) ⟨(Nat.le_of_ble_eq_true rfl), (Nat.le_of_ble_eq_true rfl)⟩) Wd hS hl.1 dL_law_986 rfl rfl (Nat.le_of_ble_eq_true rfl) ⟨by show _ ≤ 601024; omega, by show _ ≤ 7293034; omega⟩ (fun H locs Wd hS => ?_)
  refine lv_iload S.1 S.2.1 dL_law_989 (lv_at hl 1 rfl) ?_
  refine lv_icmp_eq (tgt := 996) S.1 S.2.1 dL_law_991 (by decide) (fun _ => ?_) (fun c1 => absurd rfl c1)
  obtain ⟨n1, h1, VR1, hh1, hR1, he1⟩ := ly_s_advise hR hh a
  have Wd1 : ly_W D cI cQ cL cR adC adR o _ VR1 _ f1 s H := ⟨Wd.1, Wd.2.1, ly_eqR Wd.2.2 he1⟩
  have fin : W p l e room_1 s m args below meth c H locs (cells + 200) (slots + 2000) Q (F0 m 1097 ls []) := K n1 h1 _ VR1 _ f1 H locs ls hh1 hR1 Wd1 hS (lv_sub hl [2, 3, 4, 5, 6] rfl)
  refine lv_iload S.1 S.2.1 dL_law_996 (lv_at hl 1 rfl) ?_
  refine lv_if_ne (tgt := 1013) S.1 S.2.1 dL_law_998 (by decide) (fun _ => ?_) (fun hz => ?_)
  · refine lv_goto (tgt := 1097) S.1 S.2.1 dL_law_1013 (by decide) ?_
    exact W.widen (by omega) (by omega) fin
  · have h0 : aq_rgK a 1 48 = 0 := pu_k0 (by decide) (by decide) (by decide) (hk.trans hz)
    have hrr := ly_r_advise hR hh a hz
    refine lv_aload_n S.1 S.2.1 dL_law_1001 rfl (lv_at hl 3 rfl) ?_
    refine lv_iconst (v := 0) S.1 S.2.1 dL_law_1002 (by decide) ?_
    refine va_lald (D := D) S.1 S.2.1 Wd.1.2.2.1 Wd.1.2.2.2 0 0 rfl rfl (by rw [← nI_0]; exact vp_in_nI (by omega) (by omega)) dL_law_1003 ?_
    refine lv_iload S.1 S.2.1 dL_law_1004 (lv_at hl 0 rfl) ?_
    refine lv_i2l S.1 S.2.1 dL_law_1006 rfl ?_
    refine W.lcmp S.1 S.2.1 dL_law_1007 ?_
    have hcm : lg_cmp (f1 (0 : Int32).toNatClampNeg) (Int32.toInt64 (if aR_advT a = 0 then aR_advR n (VR 2) a.toNatClampNeg (VR 0) n 0 (-1) (aR_goR n (VR 2) a.toNatClampNeg (VR 0) 0) else 0)) = 0 := by
      rw [if_pos hz, hrr, show (0 : Int32).toNatClampNeg = 0 from rfl, hf1 h0]
      simp [lg_cmp]
    rw [hcm]
    refine lv_if_eq (tgt := 1013) S.1 S.2.1 dL_law_1008 (by decide) (fun _ => ?_) (fun c2 => absurd rfl c2)
    refine lv_goto (tgt := 1097) S.1 S.2.1 dL_law_1013 (by decide) ?_
    exact W.widen (by omega) (by omega) fin
set_option maxHeartbeats 4000000 in
set_option maxRecDepth 100000 in
theorem ly_c_thirsty (l : Launch) (hlt : l.stackTraces = false) {p : Program} {e : Env} {s : State} {m : MethodId} {args : Array Value} {below : List Frame} {meth : Method} {c : Code} {Q : State → Prop} {D : va_G} {cI cQ cL cR : ClassId} {adC adR : Nat → Nat} {o bs : Nat} {VC VR : aq_V} {th : Int32} {f : Nat → Int64} {H : Heap} {locs : List Loc} {cells slots n h j L : Nat} {xs : Nat → Int32} {ls : Array Slot} (S : CallFix p m c cL_law 9 s args wsL_law RL) (E : ly_E s) (hD : ly_D adC adR o s.heap.size) (hX : va_X bs L xs s s.heap) (hbl : bs < s.heap.size) (hj : 3 * j + 2 < L) (hL : L ≤ 1536) (hR : ly_R n h VC VR) (hh : h ≤ 100000) (Wd : ly_W D cI cQ cL cR adC adR o VC VR th f s H) (hS : ly_S s H locs) (hc : cells + 200 ≤ 601024) (hs : slots + 2000 ≤ 7293034) (hl : lv_has ls 9 [(4, .int (nI (3 * j))), (3, .ref o), (2, .ref (adR 0)), (1, .ref (adC 0)), (0, .ref bs)])
    (K : ∀ (n' h' : Nat) (VC' VR' : aq_V) (th' : Int32) (f' : Nat → Int64) (H' : Heap) (locs' : List Loc) (ls' : Array Slot), h' ≤ h + 100 → ly_R n' h' VC' VR' → ly_W D cI cQ cL cR adC adR o VC' VR' th' f' s H' → ly_S s H' locs' → lv_has ls' 9 [(4, .int (nI (3 * j))), (3, .ref o), (2, .ref (adR 0)), (1, .ref (adC 0)), (0, .ref bs)] → W p l e room_1 s m args below meth c H' locs' (cells + 200) (slots + 2000) Q (F0 m 1097 ls' [])) : W p l e room_1 s m args below meth c H locs cells slots Q (F0 m 1016 ls []) := by
  have hst : aR_st (VR 3) (VR 0) := by rw [hR.2.1]; exact hR.2.2.2.1
  have h4 : VR 0 10 4 = nI h := by rw [hR.2.1]; exact hR.1.2.2.1
  obtain ⟨z, hz⟩ : ∃ z : Nat, z = 200 := ⟨_, rfl⟩
  refine lv_aload_n S.1 S.2.1 dL_law_1016 rfl (lv_at hl 3 rfl) ?_
  have hMx := c_X2_thirsty l (D := D) (cI := cI) (cQ := cQ) hD.1.1 (V := VC) (Q := VC 0) (Q1 := VC 1) (n := n) hR.1.2.1 hR.1.1 (h := h) hR.1.2.2.1 (by omega) hz
  simp only [aq_ug_id, aq_tc_id] at hMx
  refine ly_obj (As := []) (rest := []) S hD hMx (cwV 0 S.2.2.2.2 gL_law_X2_thirsty rfl rfl rfl (by decide +kernel) ⟨(Nat.le_of_ble_eq_true rfl), (Nat.le_of_ble_eq_true rfl)⟩) Wd hS hl.1 dL_law_1017 rfl rfl (Nat.le_of_ble_eq_true rfl) ⟨by show _ ≤ 601024; omega, by show _ ≤ 7293034; omega⟩ (fun H locs Wd hS => ?_)
  refine lv_aload_n S.1 S.2.1 dL_law_1020 rfl (lv_at hl 2 rfl) ?_
  have hMm := c_X4_thirsty l (D := D) (cI := cR) (th := th) hD.1.2 (V := VR) (Q := VR 0) (Y := VR 1) hst (n := n) hR.2.2.2.2 hR.1.1 (h := h) h4 (by omega) hz
  simp only [aq_ug_id] at hMm
  refine ly_mod (As := []) (rest := [.int (aq_thsR n (VC 2) (VC 0) z 1 (aq_cpQ n (VC 0) (VC 1)))]) S E hD hMm (cwV 0 S.2.2.2.2 gL_law_X4_thirsty rfl rfl rfl (by decide +kernel) ⟨(Nat.le_of_ble_eq_true rfl), (Nat.le_of_ble_eq_true rfl)⟩) Wd hS hl.1 dL_law_1021 rfl rfl (Nat.le_of_ble_eq_true rfl) ⟨by show _ ≤ 601024; omega, by show _ ≤ 7293034; omega⟩ (fun H locs Wd hS => ?_)
  have hre : aR_thsR n (VR 2) z 1 (VR 0) = aq_thsR n (VC 2) (VC 0) z 1 (aq_cpQ n (VC 0) (VC 1)) := by rw [hR.2.1, hR.2.2.1]; exact pu_thirsty hR.1 (by omega)
  rw [hre]
  refine lv_icmp_eq (tgt := 1097) S.1 S.2.1 dL_law_1024 (by decide) (fun _ => ?_) (fun c1 => absurd rfl c1)
  exact W.widen (by omega) (by omega) (K n h _ _ _ f H locs ls (by omega) (ly_R1 hR) Wd hS hl)
set_option maxHeartbeats 4000000 in
set_option maxRecDepth 100000 in
theorem ly_c_worst (l : Launch) (hlt : l.stackTraces = false) {p : Program} {e : Env} {s : State} {m : MethodId} {args : Array Value} {below : List Frame} {meth : Method} {c : Code} {Q : State → Prop} {D : va_G} {cI cQ cL cR : ClassId} {adC adR : Nat → Nat} {o bs : Nat} {VC VR : aq_V} {th : Int32} {f : Nat → Int64} {H : Heap} {locs : List Loc} {cells slots n h j L : Nat} {xs : Nat → Int32} {ls : Array Slot} (S : CallFix p m c cL_law 9 s args wsL_law RL) (E : ly_E s) (hD : ly_D adC adR o s.heap.size) (hX : va_X bs L xs s s.heap) (hbl : bs < s.heap.size) (hj : 3 * j + 2 < L) (hL : L ≤ 1536) (hR : ly_R n h VC VR) (hh : h ≤ 100000) (Wd : ly_W D cI cQ cL cR adC adR o VC VR th f s H) (hS : ly_S s H locs) (hc : cells + 200 ≤ 601024) (hs : slots + 2000 ≤ 7293034) (hl : lv_has ls 9 [(4, .int (nI (3 * j))), (3, .ref o), (2, .ref (adR 0)), (1, .ref (adC 0)), (0, .ref bs)])
    (K : ∀ (n' h' : Nat) (VC' VR' : aq_V) (th' : Int32) (f' : Nat → Int64) (H' : Heap) (locs' : List Loc) (ls' : Array Slot), h' ≤ h + 100 → ly_R n' h' VC' VR' → ly_W D cI cQ cL cR adC adR o VC' VR' th' f' s H' → ly_S s H' locs' → lv_has ls' 9 [(4, .int (nI (3 * j))), (3, .ref o), (2, .ref (adR 0)), (1, .ref (adC 0)), (0, .ref bs)] → W p l e room_1 s m args below meth c H' locs' (cells + 200) (slots + 2000) Q (F0 m 1097 ls' [])) : W p l e room_1 s m args below meth c H locs cells slots Q (F0 m 1029 ls []) := by
  have hst : aR_st (VR 3) (VR 0) := by rw [hR.2.1]; exact hR.2.2.2.1
  refine lv_aload_n S.1 S.2.1 dL_law_1029 rfl (lv_at hl 3 rfl) ?_
  have hMx := c_X2_worst l (D := D) (cI := cI) (cQ := cQ) hD.1.1 (V := VC) (Q := VC 0) (n := n) hR.1.2.1 hR.1.1
  simp only [aq_ug_id, aq_tc_id] at hMx
  refine ly_obj (As := []) (rest := []) S hD hMx (cwV 0 S.2.2.2.2 gL_law_X2_worst rfl rfl rfl (by decide +kernel) ⟨(Nat.le_of_ble_eq_true rfl), (Nat.le_of_ble_eq_true rfl)⟩) Wd hS hl.1 dL_law_1030 rfl rfl (Nat.le_of_ble_eq_true rfl) ⟨by show _ ≤ 601024; omega, by show _ ≤ 7293034; omega⟩ (fun H locs Wd hS => ?_)
  refine lv_aload_n S.1 S.2.1 dL_law_1033 rfl (lv_at hl 2 rfl) ?_
  have hMm := c_X4_worst l (D := D) (cI := cR) (th := th) hD.1.2 (V := VR) (Q := VR 0) hst (n := n) hR.2.2.2.2 hR.1.1
  simp only [aq_ug_id] at hMm
  refine ly_mod (As := []) (rest := [.int (aq_worR (VC 0) n 0 (-1) 0)]) S E hD hMm (cwV 0 S.2.2.2.2 gL_law_X4_worst rfl rfl rfl (by decide +kernel) ⟨(Nat.le_of_ble_eq_true rfl), (Nat.le_of_ble_eq_true rfl)⟩) Wd hS hl.1 dL_law_1034 rfl rfl (Nat.le_of_ble_eq_true rfl) ⟨by show _ ≤ 601024; omega, by show _ ≤ 7293034; omega⟩ (fun H locs Wd hS => ?_)
  have hre : aR_worR (VR 0) n 0 (-1) = aq_worR (VC 0) n 0 (-1) 0 := by rw [hR.2.1]; exact pu_worst hR.1
  rw [hre]
  refine lv_icmp_eq (tgt := 1097) S.1 S.2.1 dL_law_1037 (by decide) (fun _ => ?_) (fun c1 => absurd rfl c1)
  exact W.widen (by omega) (by omega) (K n h _ _ _ f H locs ls (by omega) hR Wd hS hl)
set_option maxHeartbeats 4000000 in
set_option maxRecDepth 100000 in
theorem ly_c_digest (l : Launch) (hlt : l.stackTraces = false) {p : Program} {e : Env} {s : State} {m : MethodId} {args : Array Value} {below : List Frame} {meth : Method} {c : Code} {Q : State → Prop} {D : va_G} {cI cQ cL cR : ClassId} {adC adR : Nat → Nat} {o bs : Nat} {VC VR : aq_V} {th : Int32} {f : Nat → Int64} {H : Heap} {locs : List Loc} {cells slots n h j L : Nat} {xs : Nat → Int32} {ls : Array Slot} (S : CallFix p m c cL_law 9 s args wsL_law RL) (E : ly_E s) (hD : ly_D adC adR o s.heap.size) (hX : va_X bs L xs s s.heap) (hbl : bs < s.heap.size) (hj : 3 * j + 2 < L) (hL : L ≤ 1536) (hR : ly_R n h VC VR) (hh : h ≤ 100000) (Wd : ly_W D cI cQ cL cR adC adR o VC VR th f s H) (hS : ly_S s H locs) (hc : cells + 200 ≤ 601024) (hs : slots + 2000 ≤ 7293034) (hl : lv_has ls 9 [(4, .int (nI (3 * j))), (3, .ref o), (2, .ref (adR 0)), (1, .ref (adC 0)), (0, .ref bs)])
    (K : ∀ (n' h' : Nat) (VC' VR' : aq_V) (th' : Int32) (f' : Nat → Int64) (H' : Heap) (locs' : List Loc) (ls' : Array Slot), h' ≤ h + 100 → ly_R n' h' VC' VR' → ly_W D cI cQ cL cR adC adR o VC' VR' th' f' s H' → ly_S s H' locs' → lv_has ls' 9 [(4, .int (nI (3 * j))), (3, .ref o), (2, .ref (adR 0)), (1, .ref (adC 0)), (0, .ref bs)] → W p l e room_1 s m args below meth c H' locs' (cells + 200) (slots + 2000) Q (F0 m 1097 ls' [])) : W p l e room_1 s m args below meth c H locs cells slots Q (F0 m 1083 ls []) := by
  have hst : aR_st (VR 3) (VR 0) := by rw [hR.2.1]; exact hR.2.2.2.1
  refine lv_aload_n S.1 S.2.1 dL_law_1083 rfl (lv_at hl 3 rfl) ?_
  have hMx := c_X2_digest l (D := D) (cI := cI) (cQ := cQ) hD.1.1 (V := VC) (Q := VC 0) (n := n) hR.1.2.1 hR.1.1
  simp only [aq_ug_id, aq_tc_id] at hMx
  refine ly_objl (As := []) (rest := []) S hD hMx (cwV 0 S.2.2.2.2 gL_law_X2_digest rfl rfl rfl (by decide +kernel) ⟨(Nat.le_of_ble_eq_true rfl), (Nat.le_of_ble_eq_true rfl)⟩) Wd hS hl.1 dL_law_1084 rfl rfl (Nat.le_of_ble_eq_true rfl) ⟨by show _ ≤ 601024; omega, by show _ ≤ 7293034; omega⟩ (fun H locs Wd hS => ?_)
  refine lv_aload_n S.1 S.2.1 dL_law_1087 rfl (lv_at hl 2 rfl) ?_
  have hMm := c_X4_digest l (D := D) (cI := cR) (th := th) hD.1.2 (V := VR) (Q := VR 0) hst (n := n) hR.2.2.2.2 hR.1.1
  simp only [aq_ug_id] at hMm
  refine ly_modl (As := []) (rest := [.long (aq_digest n (VC 2) (VC 0))]) S E hD hMm (cwV 0 S.2.2.2.2 gL_law_X4_digest rfl rfl rfl (by decide +kernel) ⟨(Nat.le_of_ble_eq_true rfl), (Nat.le_of_ble_eq_true rfl)⟩) Wd hS hl.1 dL_law_1088 rfl rfl (Nat.le_of_ble_eq_true rfl) ⟨by show _ ≤ 601024; omega, by show _ ≤ 7293034; omega⟩ (fun H locs Wd hS => ?_)
  have hre : aR_digest n (VR 2) (VR 0) = aq_digest n (VC 2) (VC 0) := by rw [hR.2.1, hR.2.2.1]; exact pu_digest hR.1
  rw [hre]
  refine W.lcmp S.1 S.2.1 dL_law_1091 ?_
  have hcm : lg_cmp (aq_digest n (VC 2) (VC 0)) (aq_digest n (VC 2) (VC 0)) = 0 := by simp [lg_cmp]
  rw [hcm]
  refine lv_if_eq (tgt := 1097) S.1 S.2.1 dL_law_1092 (by decide) (fun _ => ?_) (fun c1 => absurd rfl c1)
  exact W.widen (by omega) (by omega) (K n h _ _ _ f H locs ls (by omega) hR Wd hS hl)
/-- a NaN is no number that compares as equal -/
theorem ly_nan {b : UInt64} (h : isNaN64 b = true) : FP.Core.decode FP.Core.b64 b.toNat = .nan := by
  have h1 := isNaN64_iff.mp h
  have e : b.toNat &&& 0x7fffffffffffffff = b.toNat % 2 ^ 63 := Nat.and_two_pow_sub_one_eq_mod b.toNat 63
  rw [e] at h1
  have hE : FP.Core.fieldE FP.Core.b64 b.toNat = 2047 := by
    show b.toNat / 2 ^ 52 % 2 ^ 11 = 2047
    omega
  have hT : ¬ FP.Core.fieldT FP.Core.b64 b.toNat = 0 := by
    show ¬ b.toNat % 2 ^ 52 = 0
    omega
  unfold FP.Core.decode
  rw [if_pos (by rw [hE]; rfl), if_neg hT]
theorem ly_cmpn {b c : UInt64} (h : isNaN64 b = true) : ¬ Op.cmpValue (FP.dcmp b c) CmpOp.l = 0 := by
  have e : FP.dcmp b c = none := by
    show FP.Core.order (FP.Core.decode FP.Core.b64 b.toNat) _ = none
    rw [ly_nan h]
    rfl
  rw [e]
  decide
/-- two answers of one quotient: the same number, or both none -/
theorem ly_two {a g : Int32} {x y : UInt64} (hx : aq_rr a g x) (hy : aq_rr a g y) : x = y ∨ (isNaN64 x = true ∧ isNaN64 y = true) := by
  unfold aq_rr at hx hy
  by_cases h : g = 0
  · rw [if_pos h] at hx hy
    exact Or.inl (hx.trans hy.symm)
  · rw [if_neg h] at hx hy
    unfold alike64 at hx hy
    simp only [Bool.or_eq_true, decide_eq_true_eq, Bool.and_eq_true] at hx hy
    rcases hx with hx | ⟨h1, h2⟩
    · rcases hy with hy | ⟨h3, h4⟩
      · exact Or.inl (hx.trans hy.symm)
      · exact Or.inr ⟨by rw [hx]; exact h4, h3⟩
    · rcases hy with hy | ⟨h3, h4⟩
      · exact Or.inr ⟨h1, by rw [hy]; exact h2⟩
      · exact Or.inr ⟨h1, h3⟩
set_option maxHeartbeats 4000000 in
set_option maxRecDepth 100000 in
theorem ly_c_reaches (l : Launch) (hlt : l.stackTraces = false) {p : Program} {e : Env} {s : State} {m : MethodId} {args : Array Value} {below : List Frame} {meth : Method} {c : Code} {Q : State → Prop} {D : va_G} {cI cQ cL cR : ClassId} {adC adR : Nat → Nat} {o bs : Nat} {VC VR : aq_V} {th : Int32} {f : Nat → Int64} {H : Heap} {locs : List Loc} {cells slots n h j L : Nat} {xs : Nat → Int32} {ls : Array Slot} {d0 : Drawn} (hd0 : s.drawn.sameBut d0 lw_cs) (S : CallFix p m c cL_law 9 (s.setDrawn d0) args wsL_law RL) (E : ly_E (s.setDrawn d0)) (hD : ly_D adC adR o s.heap.size) (hX : va_X bs L xs s s.heap) (hbl : bs < s.heap.size) (hj : 3 * j + 2 < L) (hL : L ≤ 1536) (hR : ly_R n h VC VR) (hh : h ≤ 100000) (Wd : ly_W D cI cQ cL cR adC adR o VC VR th f s H) (hS : ly_S s H locs) (hc : cells + 200 ≤ 601024) (hs : slots + 2000 ≤ 7293034) (hl : lv_has ls 9 [(4, .int (nI (3 * j))), (3, .ref o), (2, .ref (adR 0)), (1, .ref (adC 0)), (0, .ref bs)])
    (K : ∀ (n' h' : Nat) (VC' VR' : aq_V) (th' : Int32) (f' : Nat → Int64) (H' : Heap) (locs' : List Loc) (ls' : Array Slot) (d1 : Drawn), s.drawn.sameBut d1 lw_cs → h' ≤ h + 100 → ly_R n' h' VC' VR' → ly_W D cI cQ cL cR adC adR o VC' VR' th' f' s H' → ly_S s H' locs' → lv_has ls' 9 [(4, .int (nI (3 * j))), (3, .ref o), (2, .ref (adR 0)), (1, .ref (adC 0)), (0, .ref bs)] → W p l e room_1 (s.setDrawn d1) m args below meth c H' locs' (cells + 200) (slots + 2000) Q (F0 m 1097 ls' [])) : W p l e room_1 (s.setDrawn d0) m args below meth c H locs cells slots Q (F0 m 1042 ls []) := by
  refine lv_aload_n S.1 S.2.1 dL_law_1042 rfl (lv_at hl 3 rfl) ?_
  have hMx := c_X2_reaches l (D := D) (ad := adC) (cI := cI) (cQ := cQ) (V := VC) (Q := VC 0)
  simp only [aq_ug_id, aq_tc_id] at hMx
  refine ly_objd (As := []) (rest := []) hd0 S hD hMx (cwV 0 S.2.2.2.2 gL_law_X2_reaches rfl rfl rfl (by decide +kernel) ⟨(Nat.le_of_ble_eq_true rfl), (Nat.le_of_ble_eq_true rfl)⟩) Wd hS hl.1 dL_law_1043 rfl rfl (Nat.le_of_ble_eq_true rfl) ⟨by show _ ≤ 601024; omega, by show _ ≤ 7293034; omega⟩ (fun x H locs d1 hd1 hx Wd hS => ?_)
  refine lv_dstore (lv' := [(5, .double x), (4, .int (nI (3 * j))), (3, .ref o), (2, .ref (adR 0)), (1, .ref (adC 0)), (0, .ref bs)]) S.1 S.2.1 dL_law_1046 hl (by decide) rfl (fun ls hl => ?_)
  have S : CallFix p m c cL_law 9 (s.setDrawn d1) args wsL_law RL := ⟨S.1, S.2.1, S.2.2.1, S.2.2.2.1, fun w hw => (Cond.before_setDrawn args s d1 w).trans ((Cond.before_setDrawn args s d0 w).symm.trans (S.2.2.2.2 w hw))⟩
  have E : ly_E (s.setDrawn d1) := (ly_E.drawn d1 E)
  refine lv_aload_n S.1 S.2.1 dL_law_1048 rfl (lv_at hl 3 rfl) ?_
  have hMm := c_X4_reaches l (D := D) (cI := cR) (th := th) hD.1.2 (V := VR) (Q := VR 0)
  simp only [aq_ug_id] at hMm
  refine ly_modd (As := []) (rest := []) hd1 S E hD hMm (cwV 0 S.2.2.2.2 gL_law_X4_reaches rfl rfl rfl (by decide +kernel) ⟨(Nat.le_of_ble_eq_true rfl), (Nat.le_of_ble_eq_true rfl)⟩) Wd hS hl.1 dL_law_1049 rfl rfl (Nat.le_of_ble_eq_true rfl) ⟨by show _ ≤ 601024; omega, by show _ ≤ 7293034; omega⟩ (fun y H locs d2 hd2 hy Wd hS => ?_)
  refine lv_dstore (lv' := [(7, .double y), (5, .double x), (4, .int (nI (3 * j))), (3, .ref o), (2, .ref (adR 0)), (1, .ref (adC 0)), (0, .ref bs)]) S.1 S.2.1 dL_law_1052 hl (by decide) rfl (fun ls hl => ?_)
  have hxy := ly_two hx (by rw [hR.2.1] at hy; exact hy)
  have fin : W p l e room_1 (s.setDrawn d2) m args below meth c H locs (cells + 200) (slots + 2000) Q (F0 m 1080 ls []) := lv_goto (tgt := 1097) S.1 S.2.1 dL_law_1080 (by decide) (K n h _ _ _ f H locs ls d2 hd2 (by omega) hR Wd hS (lv_sub hl [2, 3, 4, 5, 6] rfl))
  refine W.widen (k := cells + 200) (n := slots + 2000) (by omega) (by omega) ?_
  refine lv_dload S.1 S.2.1 dL_law_1054 (lv_at hl 1 rfl) ?_
  refine lv_dload S.1 S.2.1 dL_law_1056 (lv_at hl 0 rfl) ?_
  refine lv_dcmp S.1 S.2.1 dL_law_1058 ?_
  refine lv_if_eq (tgt := 1080) S.1 S.2.1 dL_law_1059 (by decide) (fun _ => fin) (fun c1 => ?_)
  refine lv_dload S.1 S.2.1 dL_law_1062 (lv_at hl 1 rfl) ?_
  refine lv_dload S.1 S.2.1 dL_law_1064 (lv_at hl 1 rfl) ?_
  refine lv_dcmp S.1 S.2.1 dL_law_1066 ?_
  refine lv_if_eq (tgt := 1078) S.1 S.2.1 dL_law_1067 (by decide) (fun c2 => ?_) (fun c2 => ?_)
  · exfalso
    rcases hxy with rfl | ⟨h1, h2⟩
    · exact c1 c2
    · exact ly_cmpn h1 c2
  refine lv_dload S.1 S.2.1 dL_law_1070 (lv_at hl 0 rfl) ?_
  refine lv_dload S.1 S.2.1 dL_law_1072 (lv_at hl 0 rfl) ?_
  refine lv_dcmp S.1 S.2.1 dL_law_1074 ?_
  refine lv_if_ne (tgt := 1080) S.1 S.2.1 dL_law_1075 (by decide) (fun _ => fin) (fun c3 => ?_)
  exfalso
  rcases hxy with rfl | ⟨h1, h2⟩
  · exact c1 c3
  · exact ly_cmpn h2 c3
