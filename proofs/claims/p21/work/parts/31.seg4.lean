set_option maxHeartbeats 8000000 in
set_option maxRecDepth 100000 in
theorem law_D (l : Launch) (hlt : l.stackTraces = false) {p : Program} {e : Env} {s : State} {m : MethodId} {args : Array Value} {below : List Frame} {meth : Method} {c : Code} {Q : State → Prop} {D : va_G} {cI cQ : ClassId} {ad : Nat → Nat} {b L : Nat} {xs : Nat → Int32} {H : Heap} {locs : List Loc} {cells slots n h me j : Nat} {V : aq_V} {ls : Array Slot} {fl co : Int32} (S : CallFix p m c cL_law 15 s args wsL_law RL) (E : pl_E s) (hD : pl_D ad s.heap.size) (hX : va_X b L xs s s.heap) (hbl : b < s.heap.size) (hL : L ≤ 260) (hn1 : 1 ≤ n) (hj : j < 45) (hh : h ≤ 1000) (hme : me ≤ 1000) (hV : pw_V n h ((me : Nat) : Int) (V 2) (V 0)) (Wd : pl_W D cI cQ ad V s H) (hS : pl_S s H locs) (hc : cells + 600 ≤ 600172) (hs : slots + 5000 ≤ 7300668) (hS2 : pw_S n (V 0) fl co) (hl : lv_has ls 15 [(13, .int co), (12, .int fl), (4, .int (nI j)), (3, .int (nI me)), (2, .int (nI n)), (1, .ref (ad 0)), (0, .ref b)]) (K : ∀ (H' : Heap) (locs' : List Loc) (ls' : Array Slot), pl_W D cI cQ ad V s H' → pl_S s H' locs' → lv_has ls' 15 [(4, .int (nI j)), (3, .int (nI me)), (2, .int (nI n)), (1, .ref (ad 0)), (0, .ref b)] → W p l e room_1 s m args below meth c H' locs' (cells + 12) (slots + 72) Q (F0 m 603 ls' [])) : W p l e room_1 s m args below meth c H locs (cells) (slots) Q (F0 m 519 ls []) := by
  have h20 := hV.1
  refine lv_aload_n S.1 S.2.1 dL_law_519 rfl (lv_at hl 5 rfl) ?_
  refine lv_bipush (v := 6) S.1 S.2.1 dL_law_520 (by decide) ?_
  have hM := c_X2_count l hlt hD.1 (D := D) (cI := cI) (cQ := cQ) (V := V) (Q := V 0) (n := n) hV.2.1 hV.1 6
  simp only [aq_ug_id, aq_tc_id, (by decide : (6 : Int32).toNatClampNeg = 6)] at hM
  refine pl_callX (As := [.int 6]) (rest := []) (r := (V 0 10 8)) S E hD hM (pq_cnt (w := 6) (by decide)) (cwV 1 S.2.2.2.2 gL_law_X2_count rfl rfl rfl (by decide +kernel) ⟨(Nat.le_of_ble_eq_true rfl), (Nat.le_of_ble_eq_true rfl)⟩) Wd hS hl.1 dL_law_522 rfl rfl (Nat.le_of_ble_eq_true rfl) ⟨by show _ ≤ 600172; omega, by show _ ≤ 7300668; omega⟩ (fun H locs Wd hS => ?_)
  refine lv_aload_n S.1 S.2.1 dL_law_525 rfl (lv_at hl 5 rfl) ?_
  refine lv_iconst (v := 4) S.1 S.2.1 dL_law_526 (by decide) ?_
  have hM := c_X2_count l hlt hD.1 (D := D) (cI := cI) (cQ := cQ) (V := V) (Q := V 0) (n := n) hV.2.1 hV.1 4
  simp only [aq_ug_id, aq_tc_id, (by decide : (4 : Int32).toNatClampNeg = 4)] at hM
  refine pl_callX (As := [.int 4]) (rest := [.int (V 0 10 8)]) (r := (V 0 10 7)) S E hD hM (pq_cnt (w := 4) (by decide)) (cwV 1 S.2.2.2.2 gL_law_X2_count rfl rfl rfl (by decide +kernel) ⟨(Nat.le_of_ble_eq_true rfl), (Nat.le_of_ble_eq_true rfl)⟩) Wd hS hl.1 dL_law_527 rfl rfl (Nat.le_of_ble_eq_true rfl) ⟨by show _ ≤ 600172; omega, by show _ ≤ 7300668; omega⟩ (fun H locs Wd hS => ?_)
  refine lv_aload_n S.1 S.2.1 dL_law_530 rfl (lv_at hl 5 rfl) ?_
  refine lv_iconst (v := 5) S.1 S.2.1 dL_law_531 (by decide) ?_
  have hM := c_X2_count l hlt hD.1 (D := D) (cI := cI) (cQ := cQ) (V := V) (Q := V 0) (n := n) hV.2.1 hV.1 5
  simp only [aq_ug_id, aq_tc_id, (by decide : (5 : Int32).toNatClampNeg = 5)] at hM
  refine pl_callX (As := [.int 5]) (rest := [.int (V 0 10 7), .int (V 0 10 8)]) (r := (aq_over n 2 (V 0))) S E hD hM (pq_cnt (w := 5) (by decide)) (cwV 1 S.2.2.2.2 gL_law_X2_count rfl rfl rfl (by decide +kernel) ⟨(Nat.le_of_ble_eq_true rfl), (Nat.le_of_ble_eq_true rfl)⟩) Wd hS hl.1 dL_law_532 rfl rfl (Nat.le_of_ble_eq_true rfl) ⟨by show _ ≤ 600172; omega, by show _ ≤ 7300668; omega⟩ (fun H locs Wd hS => ?_)
  refine lv_iadd S.1 S.2.1 dL_law_535 ?_
  refine lv_aload_n S.1 S.2.1 dL_law_536 rfl (lv_at hl 5 rfl) ?_
  refine lv_bipush (v := 7) S.1 S.2.1 dL_law_537 (by decide) ?_
  have hM := c_X2_count l hlt hD.1 (D := D) (cI := cI) (cQ := cQ) (V := V) (Q := V 0) (n := n) hV.2.1 hV.1 7
  simp only [aq_ug_id, aq_tc_id, (by decide : (7 : Int32).toNatClampNeg = 7)] at hM
  refine pl_callX (As := [.int 7]) (rest := [.int (V 0 10 7 + (aq_over n 2 (V 0))), .int (V 0 10 8)]) (r := (V 0 10 9)) S E hD hM (pq_cnt (w := 7) (by decide)) (cwV 1 S.2.2.2.2 gL_law_X2_count rfl rfl rfl (by decide +kernel) ⟨(Nat.le_of_ble_eq_true rfl), (Nat.le_of_ble_eq_true rfl)⟩) Wd hS hl.1 dL_law_539 rfl rfl (Nat.le_of_ble_eq_true rfl) ⟨by show _ ≤ 600172; omega, by show _ ≤ 7300668; omega⟩ (fun H locs Wd hS => ?_)
  refine lv_iadd S.1 S.2.1 dL_law_542 ?_
  refine lv_aload_n S.1 S.2.1 dL_law_543 rfl (lv_at hl 5 rfl) ?_
  refine lv_bipush (v := 8) S.1 S.2.1 dL_law_544 (by decide) ?_
  have hM := c_X2_count l hlt hD.1 (D := D) (cI := cI) (cQ := cQ) (V := V) (Q := V 0) (n := n) hV.2.1 hV.1 8
  simp only [aq_ug_id, aq_tc_id, (by decide : (8 : Int32).toNatClampNeg = 8)] at hM
  refine pl_callX (As := [.int 8]) (rest := [.int ((V 0 10 7 + (aq_over n 2 (V 0))) + V 0 10 9), .int (V 0 10 8)]) (r := (aq_over n 5 (V 0))) S E hD hM (pq_cnt (w := 8) (by decide)) (cwV 1 S.2.2.2.2 gL_law_X2_count rfl rfl rfl (by decide +kernel) ⟨(Nat.le_of_ble_eq_true rfl), (Nat.le_of_ble_eq_true rfl)⟩) Wd hS hl.1 dL_law_546 rfl rfl (Nat.le_of_ble_eq_true rfl) ⟨by show _ ≤ 600172; omega, by show _ ≤ 7300668; omega⟩ (fun H locs Wd hS => ?_)
  refine lv_iadd S.1 S.2.1 dL_law_549 ?_
  refine lv_aload_n S.1 S.2.1 dL_law_550 rfl (lv_at hl 5 rfl) ?_
  refine lv_bipush (v := 9) S.1 S.2.1 dL_law_551 (by decide) ?_
  have hM := c_X2_count l hlt hD.1 (D := D) (cI := cI) (cQ := cQ) (V := V) (Q := V 0) (n := n) hV.2.1 hV.1 9
  simp only [aq_ug_id, aq_tc_id, (by decide : (9 : Int32).toNatClampNeg = 9)] at hM
  refine pl_callX (As := [.int 9]) (rest := [.int (((V 0 10 7 + (aq_over n 2 (V 0))) + V 0 10 9) + (aq_over n 5 (V 0))), .int (V 0 10 8)]) (r := (V 0 10 10)) S E hD hM (pq_cnt (w := 9) (by decide)) (cwV 1 S.2.2.2.2 gL_law_X2_count rfl rfl rfl (by decide +kernel) ⟨(Nat.le_of_ble_eq_true rfl), (Nat.le_of_ble_eq_true rfl)⟩) Wd hS hl.1 dL_law_553 rfl rfl (Nat.le_of_ble_eq_true rfl) ⟨by show _ ≤ 600172; omega, by show _ ≤ 7300668; omega⟩ (fun H locs Wd hS => ?_)
  refine lv_iadd S.1 S.2.1 dL_law_556 ?_
  refine lv_aload_n S.1 S.2.1 dL_law_557 rfl (lv_at hl 5 rfl) ?_
  refine lv_bipush (v := 10) S.1 S.2.1 dL_law_558 (by decide) ?_
  have hM := c_X2_count l hlt hD.1 (D := D) (cI := cI) (cQ := cQ) (V := V) (Q := V 0) (n := n) hV.2.1 hV.1 10
  simp only [aq_ug_id, aq_tc_id, (by decide : (10 : Int32).toNatClampNeg = 10)] at hM
  refine pl_callX (As := [.int 10]) (rest := [.int ((((V 0 10 7 + (aq_over n 2 (V 0))) + V 0 10 9) + (aq_over n 5 (V 0))) + V 0 10 10), .int (V 0 10 8)]) (r := (V 0 10 11)) S E hD hM (pq_cnt (w := 10) (by decide)) (cwV 1 S.2.2.2.2 gL_law_X2_count rfl rfl rfl (by decide +kernel) ⟨(Nat.le_of_ble_eq_true rfl), (Nat.le_of_ble_eq_true rfl)⟩) Wd hS hl.1 dL_law_560 rfl rfl (Nat.le_of_ble_eq_true rfl) ⟨by show _ ≤ 600172; omega, by show _ ≤ 7300668; omega⟩ (fun H locs Wd hS => ?_)
  refine lv_iadd S.1 S.2.1 dL_law_563 ?_
  refine lv_icmp_ne (tgt := 621) S.1 S.2.1 dL_law_564 (by decide) (fun c1 => ?_) (fun c1 => ?_)
  · exact absurd (pw_cnt hV (by omega)) c1
  · refine lv_aload_n S.1 S.2.1 dL_law_567 rfl (lv_at hl 5 rfl) ?_
    refine lv_iconst (v := 3) S.1 S.2.1 dL_law_568 (by decide) ?_
    have hM := c_X2_count l hlt hD.1 (D := D) (cI := cI) (cQ := cQ) (V := V) (Q := V 0) (n := n) hV.2.1 hV.1 3
    simp only [aq_ug_id, aq_tc_id, (by decide : (3 : Int32).toNatClampNeg = 3)] at hM
    refine pl_callX (As := [.int 3]) (rest := []) (r := (V 0 10 5)) S E hD hM (pq_cnt (w := 3) (by decide)) (cwV 1 S.2.2.2.2 gL_law_X2_count rfl rfl rfl (by decide +kernel) ⟨(Nat.le_of_ble_eq_true rfl), (Nat.le_of_ble_eq_true rfl)⟩) Wd hS hl.1 dL_law_569 rfl rfl (Nat.le_of_ble_eq_true rfl) ⟨by show _ ≤ 600172; omega, by show _ ≤ 7300668; omega⟩ (fun H locs Wd hS => ?_)
    refine lv_iload S.1 S.2.1 dL_law_572 (lv_at hl 0 rfl) ?_
    refine lv_iload_n S.1 S.2.1 dL_law_574 rfl (lv_at hl 3 rfl) ?_
    refine lv_isub S.1 S.2.1 dL_law_575 ?_
    refine lv_icmp_ne (tgt := 621) S.1 S.2.1 dL_law_576 (by decide) (fun c2 => ?_) (fun c2 => ?_)
    · exact absurd (pw_co hV (by omega) (by omega) hS2) c2
    · refine lv_aload_n S.1 S.2.1 dL_law_579 rfl (lv_at hl 5 rfl) ?_
      refine lv_bipush (v := 9) S.1 S.2.1 dL_law_580 (by decide) ?_
      have hM := c_X2_count l hlt hD.1 (D := D) (cI := cI) (cQ := cQ) (V := V) (Q := V 0) (n := n) hV.2.1 hV.1 9
      simp only [aq_ug_id, aq_tc_id, (by decide : (9 : Int32).toNatClampNeg = 9)] at hM
      refine pl_callX (As := [.int 9]) (rest := []) (r := (V 0 10 10)) S E hD hM (pq_cnt (w := 9) (by decide)) (cwV 1 S.2.2.2.2 gL_law_X2_count rfl rfl rfl (by decide +kernel) ⟨(Nat.le_of_ble_eq_true rfl), (Nat.le_of_ble_eq_true rfl)⟩) Wd hS hl.1 dL_law_582 rfl rfl (Nat.le_of_ble_eq_true rfl) ⟨by show _ ≤ 600172; omega, by show _ ≤ 7300668; omega⟩ (fun H locs Wd hS => ?_)
      refine lv_iload S.1 S.2.1 dL_law_585 (lv_at hl 1 rfl) ?_
      refine lv_iconst (v := 2) S.1 S.2.1 dL_law_587 (by decide) ?_
      refine lv_idiv S.1 S.2.1 dL_law_588 (by decide) ?_
      refine lv_icmp_lt (tgt := 621) S.1 S.2.1 dL_law_589 (by decide) (fun c3 => ?_) (fun c3 => ?_)
      · exact absurd c3 (pw_us hV (by omega) hS2).1
      · refine lv_aload_n S.1 S.2.1 dL_law_592 rfl (lv_at hl 5 rfl) ?_
        refine lv_bipush (v := 9) S.1 S.2.1 dL_law_593 (by decide) ?_
        have hM := c_X2_count l hlt hD.1 (D := D) (cI := cI) (cQ := cQ) (V := V) (Q := V 0) (n := n) hV.2.1 hV.1 9
        simp only [aq_ug_id, aq_tc_id, (by decide : (9 : Int32).toNatClampNeg = 9)] at hM
        refine pl_callX (As := [.int 9]) (rest := []) (r := (V 0 10 10)) S E hD hM (pq_cnt (w := 9) (by decide)) (cwV 1 S.2.2.2.2 gL_law_X2_count rfl rfl rfl (by decide +kernel) ⟨(Nat.le_of_ble_eq_true rfl), (Nat.le_of_ble_eq_true rfl)⟩) Wd hS hl.1 dL_law_595 rfl rfl (Nat.le_of_ble_eq_true rfl) ⟨by show _ ≤ 600172; omega, by show _ ≤ 7300668; omega⟩ (fun H locs Wd hS => ?_)
        refine lv_iload S.1 S.2.1 dL_law_598 (lv_at hl 1 rfl) ?_
        refine lv_icmp_gt (tgt := 621) S.1 S.2.1 dL_law_600 (by decide) (fun c4 => ?_) (fun c4 => ?_)
        · exact absurd (pw_us hV (by omega) hS2).2 (Int32.not_le.mpr c4)
        · exact W.widen (k := cells + 12) (n := slots + 72) (by omega) (by omega) (K H _ ls Wd hS (lv_sub hl [2, 3, 4, 5, 6] rfl))
