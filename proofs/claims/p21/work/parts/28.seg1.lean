set_option maxHeartbeats 8000000 in
set_option maxRecDepth 100000 in
theorem law_A (l : Launch) (hlt : l.stackTraces = false) {p : Program} {e : Env} {s : State} {m : MethodId} {args : Array Value} {below : List Frame} {meth : Method} {c : Code} {Q : State → Prop} {D : va_G} {cI cQ : ClassId} {ad : Nat → Nat} {b L : Nat} {xs : Nat → Int32} {H : Heap} {locs : List Loc} {cells slots n h me j : Nat} {V : aq_V} {ls : Array Slot} (S : CallFix p m c cL_law 15 s args wsL_law RL) (E : pl_E s) (hD : pl_D ad s.heap.size) (hX : va_X b L xs s s.heap) (hbl : b < s.heap.size) (hL : L ≤ 260) (hn1 : 1 ≤ n) (hj : j < 45) (hh : h ≤ 1000) (hme : me ≤ 1000) (hV : pw_V n h ((me : Nat) : Int) (V 2) (V 0)) (Wd : pl_W D cI cQ ad V s H) (hS : pl_S s H locs) (hc : cells + 600 ≤ 600172) (hs : slots + 5000 ≤ 7300668) (hl : lv_has ls 15 [(4, .int (nI j)), (3, .int (nI me)), (2, .int (nI n)), (1, .ref (ad 0)), (0, .ref b)]) (K : ∀ (x : Int32) (me' : Nat) (V' : aq_V) (H' : Heap) (locs' : List Loc) (ls' : Array Slot), me' ≤ me + 1 → pw_V n h ((me' : Nat) : Int) (V' 2) (V' 0) → pl_W D cI cQ ad V' s H' → pl_S s H' locs' → lv_has ls' 15 [(5, .int x), (4, .int (nI j)), (3, .int (nI me')), (2, .int (nI n)), (1, .ref (ad 0)), (0, .ref b)] → W p l e room_1 s m args below meth c H' locs' (cells + 10) (slots + 60) Q (F0 m 236 ls' [])) : W p l e room_1 s m args below meth c H locs (cells) (slots) Q (F0 m 23 ls []) := by
  have h20 := hV.1
  refine lv_aload_n S.1 S.2.1 dL_law_23 rfl (lv_at hl 4 rfl) ?_
  refine lv_iload S.1 S.2.1 dL_law_24 (lv_at hl 0 rfl) ?_
  refine lv_bipush (v := 16) S.1 S.2.1 dL_law_26 (by decide) ?_
  refine lv_irem S.1 S.2.1 dL_law_28 (by decide) ?_
  refine lv_topi (fun x1 (ex1 : x1 = nI j - nI j / nI 16 * nI 16) => ?_)
  rw [pk_rem (by omega) (by decide) (by decide)] at ex1; subst ex1
  refine pl_cell (k := (j % 16)) S rfl (by omega) (by omega) hX hbl (va_cwS 2 S.2.2.2.2 gL_law_L_cell rfl rfl rfl (by decide +kernel) ⟨(Nat.le_of_ble_eq_true rfl), (Nat.le_of_ble_eq_true rfl)⟩) Wd hS hl.1 dL_law_29 (Nat.le_of_ble_eq_true rfl) ⟨by show _ ≤ 600172; omega, by show _ ≤ 7300668; omega⟩ (fun x2 H locs Wd hS => ?_)
  refine lv_iload S.1 S.2.1 dL_law_32 (lv_at hl 0 rfl) ?_
  refine lv_bipush (v := 16) S.1 S.2.1 dL_law_34 (by decide) ?_
  refine lv_idiv S.1 S.2.1 dL_law_36 (by decide) ?_
  refine lv_bipush (v := 6) S.1 S.2.1 dL_law_37 (by decide) ?_
  refine lv_imul S.1 S.2.1 dL_law_39 ?_
  refine lv_topi (fun x3 _ => ?_)
  refine lv_ishr S.1 S.2.1 dL_law_40 ?_
  refine lv_topi (fun x4 _ => ?_)
  refine lv_istore (lv' := [(5, .int x4), (4, .int (nI j)), (3, .int (nI me)), (2, .int (nI n)), (1, .ref (ad 0)), (0, .ref b)]) S.1 S.2.1 dL_law_41 hl (by decide) rfl (fun ls hl => ?_)
  refine lv_iload S.1 S.2.1 dL_law_43 (lv_at hl 0 rfl) ?_
  refine lv_iconst (v := 3) S.1 S.2.1 dL_law_45 (by decide) ?_
  refine lv_ishr S.1 S.2.1 dL_law_46 ?_
  refine lv_topi (fun x5 _ => ?_)
  refine lv_iload_n S.1 S.2.1 dL_law_47 rfl (lv_at hl 3 rfl) ?_
  refine pl_below (n := n) S rfl (by omega) (by omega) (va_cwS 2 S.2.2.2.2 gL_law_L_below rfl rfl rfl (by decide +kernel) ⟨(Nat.le_of_ble_eq_true rfl), (Nat.le_of_ble_eq_true rfl)⟩) Wd hS hl.1 dL_law_48 (Nat.le_of_ble_eq_true rfl) ⟨by show _ ≤ 600172; omega, by show _ ≤ 7300668; omega⟩ (fun k6 hk6 H locs Wd hS => ?_)
  refine lv_istore (lv' := [(6, .int (nI k6)), (5, .int x4), (4, .int (nI j)), (3, .int (nI me)), (2, .int (nI n)), (1, .ref (ad 0)), (0, .ref b)]) S.1 S.2.1 dL_law_51 hl (by decide) rfl (fun ls hl => ?_)
  refine lv_iload S.1 S.2.1 dL_law_53 (lv_at hl 1 rfl) ?_
  refine lv_bipush (v := 7) S.1 S.2.1 dL_law_55 (by decide) ?_
  refine pl_below (n := 7) S rfl (by omega) (by omega) (va_cwS 2 S.2.2.2.2 gL_law_L_below rfl rfl rfl (by decide +kernel) ⟨(Nat.le_of_ble_eq_true rfl), (Nat.le_of_ble_eq_true rfl)⟩) Wd hS hl.1 dL_law_57 (Nat.le_of_ble_eq_true rfl) ⟨by show _ ≤ 600172; omega, by show _ ≤ 7300668; omega⟩ (fun k7 hk7 H locs Wd hS => ?_)
  rcases (show k7 = 0 ∨ k7 = 1 ∨ k7 = 2 ∨ k7 = 3 ∨ k7 = 4 ∨ k7 = 5 ∨ k7 = 6 by omega) with rfl | rfl | rfl | rfl | rfl | rfl | rfl
  · refine lv_tableIn (x := nI 0) (tgt := 92) S.1 S.2.1 dL_law_60 (by decide) (by decide) rfl (by decide) ?_
    have hl : lv_has ls 15 [(6, .int (nI k6)), (5, .int x4), (4, .int (nI j)), (3, .int (nI me)), (2, .int (nI n)), (1, .ref (ad 0)), (0, .ref b)] := hl
    refine lv_aload_n S.1 S.2.1 dL_law_92 rfl (lv_at hl 5 rfl) ?_
    refine lv_iload S.1 S.2.1 dL_law_93 (lv_at hl 0 rfl) ?_
    refine lv_bipush (v := 8) S.1 S.2.1 dL_law_95 (by decide) ?_
    have hM := c_X2_arch l hlt hD.1 (D := D) (cI := cI) (cQ := cQ) (V := V) (Q := V 0) (n := n) hV.2.1 hV.1 (nI k6) 8
    simp only [aq_ug_id, aq_tc_id, (nI_clamp (by omega) : (nI k6).toNatClampNeg = k6), (by decide : (8 : Int32).toNatClampNeg = 8)] at hM
    refine pl_callX (As := [.int (nI k6), .int 8]) (rest := []) (r := ((if aq_hasMill (V 0) k6 = 0 then (0 : Int32) else 1))) S E hD hM (pq_arch (w := 8) (by omega) hV.1 (by decide)) (cwV 2 S.2.2.2.2 gL_law_X2_arch rfl rfl rfl (by decide +kernel) ⟨(Nat.le_of_ble_eq_true rfl), (Nat.le_of_ble_eq_true rfl)⟩) Wd hS hl.1 dL_law_97 rfl rfl (Nat.le_of_ble_eq_true rfl) ⟨by show _ ≤ 600172; omega, by show _ ≤ 7300668; omega⟩ (fun H locs Wd hS => ?_)
    refine lv_iconst (v := 1) S.1 S.2.1 dL_law_100 (by decide) ?_
    refine lv_icmp_ne (tgt := 236) S.1 S.2.1 dL_law_101 (by decide) (fun c8 => ?_) (fun c8 => ?_)
    · exact W.widen (k := cells + 10) (n := slots + 60) (by omega) (by omega) (K x4 (me) V H _ ls (by omega) hV Wd hS (lv_sub hl [1, 2, 3, 4, 5, 6] rfl))
    · have h6 := pv_hm c8
      refine lv_aload_n S.1 S.2.1 dL_law_104 rfl (lv_at hl 5 rfl) ?_
      refine lv_iload S.1 S.2.1 dL_law_105 (lv_at hl 0 rfl) ?_
      refine lv_iload S.1 S.2.1 dL_law_107 (lv_at hl 1 rfl) ?_
      refine lv_bipush (v := 6) S.1 S.2.1 dL_law_109 (by decide) ?_
      refine lv_ishr S.1 S.2.1 dL_law_111 ?_
      refine lv_topi (fun x9 _ => ?_)
      refine lv_bipush (v := 11) S.1 S.2.1 dL_law_112 (by decide) ?_
      refine pl_below (n := 11) S rfl (by omega) (by omega) (va_cwS 2 S.2.2.2.2 gL_law_L_below rfl rfl rfl (by decide +kernel) ⟨(Nat.le_of_ble_eq_true rfl), (Nat.le_of_ble_eq_true rfl)⟩) Wd hS hl.1 dL_law_114 (Nat.le_of_ble_eq_true rfl) ⟨by show _ ≤ 600172; omega, by show _ ≤ 7300668; omega⟩ (fun k10 hk10 H locs Wd hS => ?_)
      have hM := c_X2_setSluice l hlt hD.1 (D := D) (cI := cI) (cQ := cQ) (V := V) (Q := V 0) (n := n) hV.2.1 hV.1 (nI k6) (nI k10)
      simp only [aq_ug_id, aq_tc_id] at hM
      rw [pv_slu (show k6 < 2 ^ 31 by omega)] at hM
      refine pl_callX (As := [.int (nI k6), .int (nI k10)]) (rest := []) S E hD hM (pq_slu (by omega) hV.1 (by omega) h6) (cwV 2 S.2.2.2.2 gL_law_X2_setSluice rfl rfl rfl (by decide +kernel) ⟨(Nat.le_of_ble_eq_true rfl), (Nat.le_of_ble_eq_true rfl)⟩) Wd hS hl.1 dL_law_117 rfl rfl (Nat.le_of_ble_eq_true rfl) ⟨by show _ ≤ 600172; omega, by show _ ≤ 7300668; omega⟩ (fun H locs Wd hS => ?_)
      obtain ⟨V11, hV11⟩ : ∃ z9 : aq_V, z9 = aq_ug V 0 (aq_up (V 0) 7 k6 (nI k10)) := ⟨_, rfl⟩
      rw [← hV11] at Wd
      have hV11s : pw_V n h ((me : Nat) : Int) (V11 2) (V11 0) := by
        rw [hV11, aq_ug_s, aq_ug_n _ _ (show (2 : Nat) ≠ 0 by decide)]
        exact pw_slu hV (by rw [pv_n (by omega)]; omega) (by rw [pv_n (by omega)]; omega) (Or.inr h6)
      refine lv_pop S.1 S.2.1 dL_law_120 rfl ?_
      refine lv_goto (tgt := 236) S.1 S.2.1 dL_law_121 (by decide) ?_
      exact W.widen (k := cells + 10) (n := slots + 60) (by omega) (by omega) (K x4 (me) V11 H _ ls (by omega) hV11s Wd hS (lv_sub hl [1, 2, 3, 4, 5, 6] rfl))
  · refine lv_tableIn (x := nI 1) (tgt := 124) S.1 S.2.1 dL_law_60 (by decide) (by decide) rfl (by decide) ?_
    have hl : lv_has ls 15 [(6, .int (nI k6)), (5, .int x4), (4, .int (nI j)), (3, .int (nI me)), (2, .int (nI n)), (1, .ref (ad 0)), (0, .ref b)] := hl
    refine lv_aload_n S.1 S.2.1 dL_law_124 rfl (lv_at hl 5 rfl) ?_
    refine lv_iload S.1 S.2.1 dL_law_125 (lv_at hl 0 rfl) ?_
    refine lv_iconst (v := 1) S.1 S.2.1 dL_law_127 (by decide) ?_
    refine lv_iload S.1 S.2.1 dL_law_128 (lv_at hl 1 rfl) ?_
    refine lv_bipush (v := 6) S.1 S.2.1 dL_law_130 (by decide) ?_
    refine lv_ishr S.1 S.2.1 dL_law_132 ?_
    refine lv_topi (fun x12 _ => ?_)
    refine lv_bipush (v := 20) S.1 S.2.1 dL_law_133 (by decide) ?_
    refine pl_below (n := 20) S rfl (by omega) (by omega) (va_cwS 2 S.2.2.2.2 gL_law_L_below rfl rfl rfl (by decide +kernel) ⟨(Nat.le_of_ble_eq_true rfl), (Nat.le_of_ble_eq_true rfl)⟩) Wd hS hl.1 dL_law_135 (Nat.le_of_ble_eq_true rfl) ⟨by show _ ≤ 600172; omega, by show _ ≤ 7300668; omega⟩ (fun k13 hk13 H locs Wd hS => ?_)
    refine lv_iadd S.1 S.2.1 dL_law_138 ?_
    refine lv_topi (fun x14 (ex14 : x14 = nI 1 + nI k13) => ?_)
    rw [nI_add] at ex14; subst ex14
    have hM := c_X2_quake l hlt hD.1 (D := D) (cI := cI) (cQ := cQ) (V := V) (Q := V 0) (n := n) hV.2.1 hV.1 (nI k6) (nI (1 + k13))
    simp only [aq_ug_id, aq_tc_id, (nI_clamp (by omega) : (nI k6).toNatClampNeg = k6)] at hM
    refine pl_callX (As := [.int (nI k6), .int (nI (1 + k13))]) (rest := []) S E hD hM (pq_quake (by omega) hV.1 (by omega) (by omega)) (cwV 2 S.2.2.2.2 gL_law_X2_quake rfl rfl rfl (by decide +kernel) ⟨(Nat.le_of_ble_eq_true rfl), (Nat.le_of_ble_eq_true rfl)⟩) Wd hS hl.1 dL_law_139 rfl rfl (Nat.le_of_ble_eq_true rfl) ⟨by show _ ≤ 600172; omega, by show _ ≤ 7300668; omega⟩ (fun H locs Wd hS => ?_)
    obtain ⟨V15, hV15⟩ : ∃ z9 : aq_V, z9 = aq_ug V 0 (aq_wearByQ (V 0) k6 (nI (1 + k13))) := ⟨_, rfl⟩
    rw [← hV15] at Wd
    have hV15s : pw_V n h ((me : Nat) : Int) (V15 2) (V15 0) := by
      rw [hV15, aq_ug_s, aq_ug_n _ _ (show (2 : Nat) ≠ 0 by decide)]
      exact pw_quake hV (by rw [pv_n (by omega)]; omega) (by rw [pv_n (by omega)]; omega)
    refine lv_pop S.1 S.2.1 dL_law_142 rfl ?_
    refine lv_goto (tgt := 236) S.1 S.2.1 dL_law_143 (by decide) ?_
    exact W.widen (k := cells + 10) (n := slots + 60) (by omega) (by omega) (K x4 (me) V15 H _ ls (by omega) hV15s Wd hS (lv_sub hl [1, 2, 3, 4, 5, 6] rfl))
  · refine lv_tableIn (x := nI 2) (tgt := 146) S.1 S.2.1 dL_law_60 (by decide) (by decide) rfl (by decide) ?_
    have hl : lv_has ls 15 [(6, .int (nI k6)), (5, .int x4), (4, .int (nI j)), (3, .int (nI me)), (2, .int (nI n)), (1, .ref (ad 0)), (0, .ref b)] := hl
    refine lv_aload_n S.1 S.2.1 dL_law_146 rfl (lv_at hl 5 rfl) ?_
    refine lv_iload S.1 S.2.1 dL_law_147 (lv_at hl 0 rfl) ?_
    refine lv_iconst (v := 3) S.1 S.2.1 dL_law_149 (by decide) ?_
    have hM := c_X2_arch l hlt hD.1 (D := D) (cI := cI) (cQ := cQ) (V := V) (Q := V 0) (n := n) hV.2.1 hV.1 (nI k6) 3
    simp only [aq_ug_id, aq_tc_id, (nI_clamp (by omega) : (nI k6).toNatClampNeg = k6), (by decide : (3 : Int32).toNatClampNeg = 3)] at hM
    refine pl_callX (As := [.int (nI k6), .int 3]) (rest := []) (r := (V 0 3 k6)) S E hD hM (pq_arch (w := 3) (by omega) hV.1 (by decide)) (cwV 2 S.2.2.2.2 gL_law_X2_arch rfl rfl rfl (by decide +kernel) ⟨(Nat.le_of_ble_eq_true rfl), (Nat.le_of_ble_eq_true rfl)⟩) Wd hS hl.1 dL_law_150 rfl rfl (Nat.le_of_ble_eq_true rfl) ⟨by show _ ≤ 600172; omega, by show _ ≤ 7300668; omega⟩ (fun H locs Wd hS => ?_)
    refine lv_istore (lv' := [(7, .int (V 0 3 k6)), (6, .int (nI k6)), (5, .int x4), (4, .int (nI j)), (3, .int (nI me)), (2, .int (nI n)), (1, .ref (ad 0)), (0, .ref b)]) S.1 S.2.1 dL_law_153 hl (by decide) rfl (fun ls hl => ?_)
    refine lv_aload_n S.1 S.2.1 dL_law_155 rfl (lv_at hl 6 rfl) ?_
    refine lv_iconst (v := 3) S.1 S.2.1 dL_law_156 (by decide) ?_
    have hM := c_X2_count l hlt hD.1 (D := D) (cI := cI) (cQ := cQ) (V := V) (Q := V 0) (n := n) hV.2.1 hV.1 3
    simp only [aq_ug_id, aq_tc_id, (by decide : (3 : Int32).toNatClampNeg = 3)] at hM
    refine pl_callX (As := [.int 3]) (rest := []) (r := (V 0 10 5)) S E hD hM (pq_cnt (w := 3) (by decide)) (cwV 1 S.2.2.2.2 gL_law_X2_count rfl rfl rfl (by decide +kernel) ⟨(Nat.le_of_ble_eq_true rfl), (Nat.le_of_ble_eq_true rfl)⟩) Wd hS hl.1 dL_law_157 rfl rfl (Nat.le_of_ble_eq_true rfl) ⟨by show _ ≤ 600172; omega, by show _ ≤ 7300668; omega⟩ (fun H locs Wd hS => ?_)
    refine lv_if_le (tgt := 236) S.1 S.2.1 dL_law_160 (by decide) (fun c16 => ?_) (fun c16 => ?_)
    · exact W.widen (k := cells + 10) (n := slots + 60) (by omega) (by omega) (K x4 (me) V H _ ls (by omega) hV Wd hS (lv_sub hl [2, 3, 4, 5, 6, 7] rfl))
    · refine lv_iload S.1 S.2.1 dL_law_163 (lv_at hl 0 rfl) ?_
      refine lv_if_le (tgt := 236) S.1 S.2.1 dL_law_165 (by decide) (fun c17 => ?_) (fun c17 => ?_)
      · exact W.widen (k := cells + 10) (n := slots + 60) (by omega) (by omega) (K x4 (me) V H _ ls (by omega) hV Wd hS (lv_sub hl [2, 3, 4, 5, 6, 7] rfl))
      · refine lv_aload_n S.1 S.2.1 dL_law_168 rfl (lv_at hl 6 rfl) ?_
        refine lv_iload S.1 S.2.1 dL_law_169 (lv_at hl 1 rfl) ?_
        have hM := c_X2_mend l hlt hD.1 (D := D) (cI := cI) (cQ := cQ) (V := V) (Q := V 0) (n := n) hV.2.1 hV.1 (nI k6)
        simp only [aq_ug_id, aq_tc_id, (nI_clamp (by omega) : (nI k6).toNatClampNeg = k6)] at hM
        rw [pw_mendR] at hM
        refine pl_callX (As := [.int (nI k6)]) (rest := []) S E hD hM (pq_mend (by omega) hV.1 c16 c17) (cwV 1 S.2.2.2.2 gL_law_X2_mend rfl rfl rfl (by decide +kernel) ⟨(Nat.le_of_ble_eq_true rfl), (Nat.le_of_ble_eq_true rfl)⟩) Wd hS hl.1 dL_law_171 rfl rfl (Nat.le_of_ble_eq_true rfl) ⟨by show _ ≤ 600172; omega, by show _ ≤ 7300668; omega⟩ (fun H locs Wd hS => ?_)
        obtain ⟨V18, hV18⟩ : ∃ z9 : aq_V, z9 = aq_ug V 0 (aq_mendQ (V 0) k6) := ⟨_, rfl⟩
        rw [← hV18] at Wd
        have hV18s : pw_V n h ((me + 1 : Nat) : Int) (V18 2) (V18 0) := by
          rw [hV18, aq_ug_s, aq_ug_n _ _ (show (2 : Nat) ≠ 0 by decide)]
          have z := pw_mend (a := k6) hV (by omega) (by have q9 : ¬ (V 0 10 5).toInt ≤ 0 := fun y => c16 (pu_le0.mpr y); omega)
          rw [show (((me + 1 : Nat)) : Int) = ((me : Nat) : Int) + 1 by omega]
          exact z
        refine lv_iconst (v := 0) S.1 S.2.1 dL_law_174 (by decide) ?_
        refine lv_iload S.1 S.2.1 dL_law_175 (lv_at hl 0 rfl) ?_
        refine lv_bipush (v := 10) S.1 S.2.1 dL_law_177 (by decide) ?_
        refine lv_isub S.1 S.2.1 dL_law_179 ?_
        refine aq_mmax S hl.1 (List.mem_of_getElem? (i := 0) rfl) (List.mem_of_getElem? (i := 1) rfl) (List.mem_of_getElem? (i := 2) rfl) (List.mem_of_getElem? (i := 3) rfl) (by decide) (Nat.le_of_ble_eq_true rfl) (by show _ ≤ 600172; omega) (by show _ ≤ 7300668; omega) dL_law_180 ?_
        refine lv_icmp_eq (tgt := 188) S.1 S.2.1 dL_law_183 (by decide) (fun c19 => ?_) (fun c19 => ?_)
        · refine lv_iinc (v := nI (me + 1)) (lv' := [(3, .int (nI (me + 1))), (7, .int (V 0 3 k6)), (6, .int (nI k6)), (5, .int x4), (4, .int (nI j)), (2, .int (nI n)), (1, .ref (ad 0)), (0, .ref b)]) S.1 S.2.1 dL_law_188 hl (k := 4) rfl (nI_1 _) (by decide) rfl (fun ls hl => ?_)
          refine lv_goto (tgt := 236) S.1 S.2.1 dL_law_191 (by decide) ?_
          exact W.widen (k := cells + 10) (n := slots + 60) (by omega) (by omega) (K x4 (me + 1) V18 H _ ls (by omega) hV18s Wd hS (lv_sub hl [3, 4, 0, 5, 6, 7] rfl))
        · exact absurd rfl c19
  · refine lv_tableIn (x := nI 3) (tgt := 194) S.1 S.2.1 dL_law_60 (by decide) (by decide) rfl (by decide) ?_
    have hl : lv_has ls 15 [(6, .int (nI k6)), (5, .int x4), (4, .int (nI j)), (3, .int (nI me)), (2, .int (nI n)), (1, .ref (ad 0)), (0, .ref b)] := hl
    refine lv_aload_n S.1 S.2.1 dL_law_194 rfl (lv_at hl 5 rfl) ?_
    refine lv_iload S.1 S.2.1 dL_law_195 (lv_at hl 1 rfl) ?_
    refine lv_iconst (v := 5) S.1 S.2.1 dL_law_197 (by decide) ?_
    refine lv_ishr S.1 S.2.1 dL_law_198 ?_
    refine lv_topi (fun x20 _ => ?_)
    refine lv_sipush (v := 501) S.1 S.2.1 dL_law_199 (by decide) ?_
    refine pl_below (n := 501) S rfl (by omega) (by omega) (va_cwS 2 S.2.2.2.2 gL_law_L_below rfl rfl rfl (by decide +kernel) ⟨(Nat.le_of_ble_eq_true rfl), (Nat.le_of_ble_eq_true rfl)⟩) Wd hS hl.1 dL_law_202 (Nat.le_of_ble_eq_true rfl) ⟨by show _ ≤ 600172; omega, by show _ ≤ 7300668; omega⟩ (fun k21 hk21 H locs Wd hS => ?_)
    have hM := c_X2_setCistern l hlt hD.1 (D := D) (cI := cI) (cQ := cQ) (V := V) (Q := V 0) (nI k21)
    simp only [aq_ug_id, aq_tc_id] at hM
    refine pl_callX (As := [.int (nI k21)]) (rest := []) S E hD hM (pq_cis (by omega)) (cwV 1 S.2.2.2.2 gL_law_X2_setCistern rfl rfl rfl (by decide +kernel) ⟨(Nat.le_of_ble_eq_true rfl), (Nat.le_of_ble_eq_true rfl)⟩) Wd hS hl.1 dL_law_205 rfl rfl (Nat.le_of_ble_eq_true rfl) ⟨by show _ ≤ 600172; omega, by show _ ≤ 7300668; omega⟩ (fun H locs Wd hS => ?_)
    obtain ⟨V22, hV22⟩ : ∃ z9 : aq_V, z9 = aq_ug V 0 (aq_sizeQ (V 0) (nI k21)) := ⟨_, rfl⟩
    rw [← hV22] at Wd
    have hV22s : pw_V n h ((me : Nat) : Int) (V22 2) (V22 0) := by
      rw [hV22, aq_ug_s, aq_ug_n _ _ (show (2 : Nat) ≠ 0 by decide)]
      exact pw_cis hV (by omega) (by rw [pv_n (by omega)]; omega) (by rw [pv_n (by omega)]; omega)
    refine lv_pop S.1 S.2.1 dL_law_208 rfl ?_
    refine lv_goto (tgt := 236) S.1 S.2.1 dL_law_209 (by decide) ?_
    exact W.widen (k := cells + 10) (n := slots + 60) (by omega) (by omega) (K x4 (me) V22 H _ ls (by omega) hV22s Wd hS (lv_sub hl [1, 2, 3, 4, 5, 6] rfl))
  · refine lv_tableOut (x := nI 4) (tgt := 212) S.1 S.2.1 dL_law_60 (by decide) (by decide) ?_
    have hl : lv_has ls 15 [(6, .int (nI k6)), (5, .int x4), (4, .int (nI j)), (3, .int (nI me)), (2, .int (nI n)), (1, .ref (ad 0)), (0, .ref b)] := hl
    refine lv_aload_n S.1 S.2.1 dL_law_212 rfl (lv_at hl 5 rfl) ?_
    refine lv_iload S.1 S.2.1 dL_law_213 (lv_at hl 1 rfl) ?_
    refine lv_iconst (v := 4) S.1 S.2.1 dL_law_215 (by decide) ?_
    refine lv_ishr S.1 S.2.1 dL_law_216 ?_
    refine lv_topi (fun x23 _ => ?_)
    refine lv_bipush (v := 24) S.1 S.2.1 dL_law_217 (by decide) ?_
    refine pl_below (n := 24) S rfl (by omega) (by omega) (va_cwS 2 S.2.2.2.2 gL_law_L_below rfl rfl rfl (by decide +kernel) ⟨(Nat.le_of_ble_eq_true rfl), (Nat.le_of_ble_eq_true rfl)⟩) Wd hS hl.1 dL_law_219 (Nat.le_of_ble_eq_true rfl) ⟨by show _ ≤ 600172; omega, by show _ ≤ 7300668; omega⟩ (fun k24 hk24 H locs Wd hS => ?_)
    refine lv_iload S.1 S.2.1 dL_law_222 (lv_at hl 1 rfl) ?_
    refine lv_bipush (v := 7) S.1 S.2.1 dL_law_224 (by decide) ?_
    refine lv_ishr S.1 S.2.1 dL_law_226 ?_
    refine lv_topi (fun x25 _ => ?_)
    refine lv_bipush (v := 41) S.1 S.2.1 dL_law_227 (by decide) ?_
    refine pl_below (n := 41) S rfl (by omega) (by omega) (va_cwS 2 S.2.2.2.2 gL_law_L_below rfl rfl rfl (by decide +kernel) ⟨(Nat.le_of_ble_eq_true rfl), (Nat.le_of_ble_eq_true rfl)⟩) Wd hS hl.1 dL_law_229 (Nat.le_of_ble_eq_true rfl) ⟨by show _ ≤ 600172; omega, by show _ ≤ 7300668; omega⟩ (fun k26 hk26 H locs Wd hS => ?_)
    have hM := c_X2_setSpring l hlt hD.1 (D := D) (cI := cI) (cQ := cQ) (V := V) (T := V 2) (nI k24) (nI k26)
    simp only [aq_ug_id, aq_tc_id] at hM
    rw [pv_set (show k24 < 2 ^ 31 by omega)] at hM
    refine pl_callX (As := [.int (nI k24), .int (nI k26)]) (rest := []) S E hD hM (pq_set (by omega) (by omega)) (cwV 2 S.2.2.2.2 gL_law_X2_setSpring rfl rfl rfl (by decide +kernel) ⟨(Nat.le_of_ble_eq_true rfl), (Nat.le_of_ble_eq_true rfl)⟩) Wd hS hl.1 dL_law_232 rfl rfl (Nat.le_of_ble_eq_true rfl) ⟨by show _ ≤ 600172; omega, by show _ ≤ 7300668; omega⟩ (fun H locs Wd hS => ?_)
    obtain ⟨V27, hV27⟩ : ∃ z9 : aq_V, z9 = aq_ug V 2 (aq_up (V 2) 0 k24 (nI k26)) := ⟨_, rfl⟩
    rw [← hV27] at Wd
    have hV27s : pw_V n h ((me : Nat) : Int) (V27 2) (V27 0) := by
      rw [hV27, aq_ug_s, aq_ug_n _ _ (show (0 : Nat) ≠ 2 by decide)]
      exact pw_spr hV (by rw [pv_n (by omega)]; omega) (by rw [pv_n (by omega)]; omega)
    refine lv_pop S.1 S.2.1 dL_law_235 rfl ?_
    exact W.widen (k := cells + 10) (n := slots + 60) (by omega) (by omega) (K x4 (me) V27 H _ ls (by omega) hV27s Wd hS (lv_sub hl [1, 2, 3, 4, 5, 6] rfl))
  · refine lv_tableOut (x := nI 5) (tgt := 212) S.1 S.2.1 dL_law_60 (by decide) (by decide) ?_
    have hl : lv_has ls 15 [(6, .int (nI k6)), (5, .int x4), (4, .int (nI j)), (3, .int (nI me)), (2, .int (nI n)), (1, .ref (ad 0)), (0, .ref b)] := hl
    refine lv_aload_n S.1 S.2.1 dL_law_212 rfl (lv_at hl 5 rfl) ?_
    refine lv_iload S.1 S.2.1 dL_law_213 (lv_at hl 1 rfl) ?_
    refine lv_iconst (v := 4) S.1 S.2.1 dL_law_215 (by decide) ?_
    refine lv_ishr S.1 S.2.1 dL_law_216 ?_
    refine lv_topi (fun x28 _ => ?_)
    refine lv_bipush (v := 24) S.1 S.2.1 dL_law_217 (by decide) ?_
    refine pl_below (n := 24) S rfl (by omega) (by omega) (va_cwS 2 S.2.2.2.2 gL_law_L_below rfl rfl rfl (by decide +kernel) ⟨(Nat.le_of_ble_eq_true rfl), (Nat.le_of_ble_eq_true rfl)⟩) Wd hS hl.1 dL_law_219 (Nat.le_of_ble_eq_true rfl) ⟨by show _ ≤ 600172; omega, by show _ ≤ 7300668; omega⟩ (fun k29 hk29 H locs Wd hS => ?_)
    refine lv_iload S.1 S.2.1 dL_law_222 (lv_at hl 1 rfl) ?_
    refine lv_bipush (v := 7) S.1 S.2.1 dL_law_224 (by decide) ?_
    refine lv_ishr S.1 S.2.1 dL_law_226 ?_
    refine lv_topi (fun x30 _ => ?_)
    refine lv_bipush (v := 41) S.1 S.2.1 dL_law_227 (by decide) ?_
    refine pl_below (n := 41) S rfl (by omega) (by omega) (va_cwS 2 S.2.2.2.2 gL_law_L_below rfl rfl rfl (by decide +kernel) ⟨(Nat.le_of_ble_eq_true rfl), (Nat.le_of_ble_eq_true rfl)⟩) Wd hS hl.1 dL_law_229 (Nat.le_of_ble_eq_true rfl) ⟨by show _ ≤ 600172; omega, by show _ ≤ 7300668; omega⟩ (fun k31 hk31 H locs Wd hS => ?_)
    have hM := c_X2_setSpring l hlt hD.1 (D := D) (cI := cI) (cQ := cQ) (V := V) (T := V 2) (nI k29) (nI k31)
    simp only [aq_ug_id, aq_tc_id] at hM
    rw [pv_set (show k29 < 2 ^ 31 by omega)] at hM
    refine pl_callX (As := [.int (nI k29), .int (nI k31)]) (rest := []) S E hD hM (pq_set (by omega) (by omega)) (cwV 2 S.2.2.2.2 gL_law_X2_setSpring rfl rfl rfl (by decide +kernel) ⟨(Nat.le_of_ble_eq_true rfl), (Nat.le_of_ble_eq_true rfl)⟩) Wd hS hl.1 dL_law_232 rfl rfl (Nat.le_of_ble_eq_true rfl) ⟨by show _ ≤ 600172; omega, by show _ ≤ 7300668; omega⟩ (fun H locs Wd hS => ?_)
    obtain ⟨V32, hV32⟩ : ∃ z9 : aq_V, z9 = aq_ug V 2 (aq_up (V 2) 0 k29 (nI k31)) := ⟨_, rfl⟩
    rw [← hV32] at Wd
    have hV32s : pw_V n h ((me : Nat) : Int) (V32 2) (V32 0) := by
      rw [hV32, aq_ug_s, aq_ug_n _ _ (show (0 : Nat) ≠ 2 by decide)]
      exact pw_spr hV (by rw [pv_n (by omega)]; omega) (by rw [pv_n (by omega)]; omega)
    refine lv_pop S.1 S.2.1 dL_law_235 rfl ?_
    exact W.widen (k := cells + 10) (n := slots + 60) (by omega) (by omega) (K x4 (me) V32 H _ ls (by omega) hV32s Wd hS (lv_sub hl [1, 2, 3, 4, 5, 6] rfl))
  · refine lv_tableOut (x := nI 6) (tgt := 212) S.1 S.2.1 dL_law_60 (by decide) (by decide) ?_
    have hl : lv_has ls 15 [(6, .int (nI k6)), (5, .int x4), (4, .int (nI j)), (3, .int (nI me)), (2, .int (nI n)), (1, .ref (ad 0)), (0, .ref b)] := hl
    refine lv_aload_n S.1 S.2.1 dL_law_212 rfl (lv_at hl 5 rfl) ?_
    refine lv_iload S.1 S.2.1 dL_law_213 (lv_at hl 1 rfl) ?_
    refine lv_iconst (v := 4) S.1 S.2.1 dL_law_215 (by decide) ?_
    refine lv_ishr S.1 S.2.1 dL_law_216 ?_
    refine lv_topi (fun x33 _ => ?_)
    refine lv_bipush (v := 24) S.1 S.2.1 dL_law_217 (by decide) ?_
    refine pl_below (n := 24) S rfl (by omega) (by omega) (va_cwS 2 S.2.2.2.2 gL_law_L_below rfl rfl rfl (by decide +kernel) ⟨(Nat.le_of_ble_eq_true rfl), (Nat.le_of_ble_eq_true rfl)⟩) Wd hS hl.1 dL_law_219 (Nat.le_of_ble_eq_true rfl) ⟨by show _ ≤ 600172; omega, by show _ ≤ 7300668; omega⟩ (fun k34 hk34 H locs Wd hS => ?_)
    refine lv_iload S.1 S.2.1 dL_law_222 (lv_at hl 1 rfl) ?_
    refine lv_bipush (v := 7) S.1 S.2.1 dL_law_224 (by decide) ?_
    refine lv_ishr S.1 S.2.1 dL_law_226 ?_
    refine lv_topi (fun x35 _ => ?_)
    refine lv_bipush (v := 41) S.1 S.2.1 dL_law_227 (by decide) ?_
    refine pl_below (n := 41) S rfl (by omega) (by omega) (va_cwS 2 S.2.2.2.2 gL_law_L_below rfl rfl rfl (by decide +kernel) ⟨(Nat.le_of_ble_eq_true rfl), (Nat.le_of_ble_eq_true rfl)⟩) Wd hS hl.1 dL_law_229 (Nat.le_of_ble_eq_true rfl) ⟨by show _ ≤ 600172; omega, by show _ ≤ 7300668; omega⟩ (fun k36 hk36 H locs Wd hS => ?_)
    have hM := c_X2_setSpring l hlt hD.1 (D := D) (cI := cI) (cQ := cQ) (V := V) (T := V 2) (nI k34) (nI k36)
    simp only [aq_ug_id, aq_tc_id] at hM
    rw [pv_set (show k34 < 2 ^ 31 by omega)] at hM
    refine pl_callX (As := [.int (nI k34), .int (nI k36)]) (rest := []) S E hD hM (pq_set (by omega) (by omega)) (cwV 2 S.2.2.2.2 gL_law_X2_setSpring rfl rfl rfl (by decide +kernel) ⟨(Nat.le_of_ble_eq_true rfl), (Nat.le_of_ble_eq_true rfl)⟩) Wd hS hl.1 dL_law_232 rfl rfl (Nat.le_of_ble_eq_true rfl) ⟨by show _ ≤ 600172; omega, by show _ ≤ 7300668; omega⟩ (fun H locs Wd hS => ?_)
    obtain ⟨V37, hV37⟩ : ∃ z9 : aq_V, z9 = aq_ug V 2 (aq_up (V 2) 0 k34 (nI k36)) := ⟨_, rfl⟩
    rw [← hV37] at Wd
    have hV37s : pw_V n h ((me : Nat) : Int) (V37 2) (V37 0) := by
      rw [hV37, aq_ug_s, aq_ug_n _ _ (show (0 : Nat) ≠ 2 by decide)]
      exact pw_spr hV (by rw [pv_n (by omega)]; omega) (by rw [pv_n (by omega)]; omega)
    refine lv_pop S.1 S.2.1 dL_law_235 rfl ?_
    exact W.widen (k := cells + 10) (n := slots + 60) (by omega) (by omega) (K x4 (me) V37 H _ ls (by omega) hV37s Wd hS (lv_sub hl [1, 2, 3, 4, 5, 6] rfl))
