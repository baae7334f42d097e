set_option maxHeartbeats 8000000 in
set_option maxRecDepth 100000 in
theorem law_C (l : Launch) (hlt : l.stackTraces = false) {p : Program} {e : Env} {s : State} {m : MethodId} {args : Array Value} {below : List Frame} {meth : Method} {c : Code} {Q : State → Prop} {D : va_G} {cI cQ : ClassId} {ad : Nat → Nat} {b L : Nat} {xs : Nat → Int32} {H : Heap} {locs : List Loc} {cells slots n h me j : Nat} {V : aq_V} {ls : Array Slot} (S : CallFix p m c cL_law 15 s args wsL_law RL) (E : pl_E s) (hD : pl_D ad s.heap.size) (hX : va_X b L xs s s.heap) (hbl : b < s.heap.size) (hL : L ≤ 260) (hn1 : 1 ≤ n) (hj : j < 45) (hh : h ≤ 1000) (hme : me ≤ 1000) (hV : pw_V n h ((me : Nat) : Int) (V 2) (V 0)) (Wd : pl_W D cI cQ ad V s H) (hS : pl_S s H locs) (hc : cells + 600 ≤ 600172) (hs : slots + 5000 ≤ 7300668) (hl : lv_has ls 15 [(4, .int (nI j)), (3, .int (nI me)), (2, .int (nI n)), (1, .ref (ad 0)), (0, .ref b)]) (K : ∀ (fl co : Int32) (H' : Heap) (locs' : List Loc) (ls' : Array Slot), pw_S n (V 0) fl co → pl_W D cI cQ ad V s H' → pl_S s H' locs' → lv_has ls' 15 [(13, .int co), (12, .int fl), (4, .int (nI j)), (3, .int (nI me)), (2, .int (nI n)), (1, .ref (ad 0)), (0, .ref b)] → W p l e room_1 s m args below meth c H' locs' (cells + 26 * n) (slots + 156 * n) Q (F0 m 519 ls' [])) : W p l e room_1 s m args below meth c H locs (cells) (slots) Q (F0 m 353 ls []) := by
  have h20 := hV.1
  have L362 : ∀ (k i : Nat) (fl co : Int32), i + k = n → pw_S i (V 0) fl co → ∀ (H : Heap) (locs : List Loc), pl_W D cI cQ ad V s H → pl_S s H locs → ∀ ls : Array Slot, lv_has ls 15 [(14, .int (nI i)), (13, .int co), (12, .int fl), (4, .int (nI j)), (3, .int (nI me)), (2, .int (nI n)), (1, .ref (ad 0)), (0, .ref b)] → W p l e room_1 s m args below meth c H locs (cells + 26 * i) (slots + 156 * i) Q (F0 m 362 ls []) := by
    intro k
    induction k with
    | zero =>
      intro i fl co hk hSi H locs Wd hS ls hl
      obtain rfl : i = n := by omega
      refine lv_iload S.1 S.2.1 dL_law_362 (lv_at hl 0 rfl) ?_
      refine lv_iload_n S.1 S.2.1 dL_law_364 rfl (lv_at hl 5 rfl) ?_
      refine lv_icmp_ge (tgt := 519) S.1 S.2.1 dL_law_365 (by decide) (fun _ => ?_) (fun c1 => ?_)
      · exact K fl co H _ ls hSi Wd hS (lv_sub hl [1, 2, 3, 4, 5, 6, 7] rfl)
      · exact absurd (Int32.le_refl _) c1
    | succ k ih =>
      intro i fl co hk hSi H locs Wd hS ls hl
      have hb := hV.2.2.2.1.1 i
      unfold pu_b at hb
      refine lv_iload S.1 S.2.1 dL_law_362 (lv_at hl 0 rfl) ?_
      refine lv_iload_n S.1 S.2.1 dL_law_364 rfl (lv_at hl 5 rfl) ?_
      refine lv_icmp_ge (tgt := 519) S.1 S.2.1 dL_law_365 (by decide) (fun c1 => ?_) (fun c1 => ?_)
      · have c1 : n ≤ i := (nI_leI (a := n) (b := i) (by omega) (by omega)).mp c1
        exfalso; omega
      · have c1 : i < n := Nat.lt_of_not_le (fun z9 => c1 ((nI_leI (a := n) (b := i) (by omega) (by omega)).mpr z9))
        refine lv_aload_n S.1 S.2.1 dL_law_368 rfl (lv_at hl 6 rfl) ?_
        refine lv_iload S.1 S.2.1 dL_law_369 (lv_at hl 0 rfl) ?_
        refine lv_iconst (v := 2) S.1 S.2.1 dL_law_371 (by decide) ?_
        have hM := c_X2_arch l hlt hD.1 (D := D) (cI := cI) (cQ := cQ) (V := V) (Q := V 0) (n := n) hV.2.1 hV.1 (nI i) 2
        simp only [aq_ug_id, aq_tc_id, (nI_clamp (by omega) : (nI i).toNatClampNeg = i), (by decide : (2 : Int32).toNatClampNeg = 2)] at hM
        refine pl_callX (As := [.int (nI i), .int 2]) (rest := []) (r := (V 0 2 i)) S E hD hM (pq_arch (w := 2) (by omega) hV.1 (by decide)) (cwV 2 S.2.2.2.2 gL_law_X2_arch rfl rfl rfl (by decide +kernel) ⟨(Nat.le_of_ble_eq_true rfl), (Nat.le_of_ble_eq_true rfl)⟩) Wd hS hl.1 dL_law_372 rfl rfl (Nat.le_of_ble_eq_true rfl) ⟨by show _ ≤ 600172; omega, by show _ ≤ 7300668; omega⟩ (fun H locs Wd hS => ?_)
        refine lv_if_lt (tgt := 439) S.1 S.2.1 dL_law_375 (by decide) (fun c2 => ?_) (fun c2 => ?_)
        · exfalso
          have z9 := Int32.lt_iff_toInt_lt.mp c2
          rw [pu_0] at z9
          omega
        · refine lv_aload_n S.1 S.2.1 dL_law_378 rfl (lv_at hl 6 rfl) ?_
          refine lv_iload S.1 S.2.1 dL_law_379 (lv_at hl 0 rfl) ?_
          refine lv_iconst (v := 2) S.1 S.2.1 dL_law_381 (by decide) ?_
          have hM := c_X2_arch l hlt hD.1 (D := D) (cI := cI) (cQ := cQ) (V := V) (Q := V 0) (n := n) hV.2.1 hV.1 (nI i) 2
          simp only [aq_ug_id, aq_tc_id, (nI_clamp (by omega) : (nI i).toNatClampNeg = i), (by decide : (2 : Int32).toNatClampNeg = 2)] at hM
          refine pl_callX (As := [.int (nI i), .int 2]) (rest := []) (r := (V 0 2 i)) S E hD hM (pq_arch (w := 2) (by omega) hV.1 (by decide)) (cwV 2 S.2.2.2.2 gL_law_X2_arch rfl rfl rfl (by decide +kernel) ⟨(Nat.le_of_ble_eq_true rfl), (Nat.le_of_ble_eq_true rfl)⟩) Wd hS hl.1 dL_law_382 rfl rfl (Nat.le_of_ble_eq_true rfl) ⟨by show _ ≤ 600172; omega, by show _ ≤ 7300668; omega⟩ (fun H locs Wd hS => ?_)
          refine lv_aload_n S.1 S.2.1 dL_law_385 rfl (lv_at hl 6 rfl) ?_
          refine lv_iload S.1 S.2.1 dL_law_386 (lv_at hl 0 rfl) ?_
          refine lv_iconst (v := 1) S.1 S.2.1 dL_law_388 (by decide) ?_
          have hM := c_X2_arch l hlt hD.1 (D := D) (cI := cI) (cQ := cQ) (V := V) (Q := V 0) (n := n) hV.2.1 hV.1 (nI i) 1
          simp only [aq_ug_id, aq_tc_id, (nI_clamp (by omega) : (nI i).toNatClampNeg = i), (by decide : (1 : Int32).toNatClampNeg = 1)] at hM
          refine pl_callX (As := [.int (nI i), .int 1]) (rest := [.int (V 0 2 i)]) (r := (V 0 1 i)) S E hD hM (pq_arch (w := 1) (by omega) hV.1 (by decide)) (cwV 2 S.2.2.2.2 gL_law_X2_arch rfl rfl rfl (by decide +kernel) ⟨(Nat.le_of_ble_eq_true rfl), (Nat.le_of_ble_eq_true rfl)⟩) Wd hS hl.1 dL_law_389 rfl rfl (Nat.le_of_ble_eq_true rfl) ⟨by show _ ≤ 600172; omega, by show _ ≤ 7300668; omega⟩ (fun H locs Wd hS => ?_)
          refine lv_icmp_gt (tgt := 439) S.1 S.2.1 dL_law_392 (by decide) (fun c3 => ?_) (fun c3 => ?_)
          · exfalso
            have z9 := Int32.lt_iff_toInt_lt.mp c3
            omega
          · refine lv_aload_n S.1 S.2.1 dL_law_395 rfl (lv_at hl 6 rfl) ?_
            refine lv_iload S.1 S.2.1 dL_law_396 (lv_at hl 0 rfl) ?_
            refine lv_iconst (v := 3) S.1 S.2.1 dL_law_398 (by decide) ?_
            have hM := c_X2_arch l hlt hD.1 (D := D) (cI := cI) (cQ := cQ) (V := V) (Q := V 0) (n := n) hV.2.1 hV.1 (nI i) 3
            simp only [aq_ug_id, aq_tc_id, (nI_clamp (by omega) : (nI i).toNatClampNeg = i), (by decide : (3 : Int32).toNatClampNeg = 3)] at hM
            refine pl_callX (As := [.int (nI i), .int 3]) (rest := []) (r := (V 0 3 i)) S E hD hM (pq_arch (w := 3) (by omega) hV.1 (by decide)) (cwV 2 S.2.2.2.2 gL_law_X2_arch rfl rfl rfl (by decide +kernel) ⟨(Nat.le_of_ble_eq_true rfl), (Nat.le_of_ble_eq_true rfl)⟩) Wd hS hl.1 dL_law_399 rfl rfl (Nat.le_of_ble_eq_true rfl) ⟨by show _ ≤ 600172; omega, by show _ ≤ 7300668; omega⟩ (fun H locs Wd hS => ?_)
            refine lv_if_lt (tgt := 439) S.1 S.2.1 dL_law_402 (by decide) (fun c4 => ?_) (fun c4 => ?_)
            · exfalso
              have z9 := Int32.lt_iff_toInt_lt.mp c4
              rw [pu_0] at z9
              omega
            · refine lv_aload_n S.1 S.2.1 dL_law_405 rfl (lv_at hl 6 rfl) ?_
              refine lv_iload S.1 S.2.1 dL_law_406 (lv_at hl 0 rfl) ?_
              refine lv_iconst (v := 3) S.1 S.2.1 dL_law_408 (by decide) ?_
              have hM := c_X2_arch l hlt hD.1 (D := D) (cI := cI) (cQ := cQ) (V := V) (Q := V 0) (n := n) hV.2.1 hV.1 (nI i) 3
              simp only [aq_ug_id, aq_tc_id, (nI_clamp (by omega) : (nI i).toNatClampNeg = i), (by decide : (3 : Int32).toNatClampNeg = 3)] at hM
              refine pl_callX (As := [.int (nI i), .int 3]) (rest := []) (r := (V 0 3 i)) S E hD hM (pq_arch (w := 3) (by omega) hV.1 (by decide)) (cwV 2 S.2.2.2.2 gL_law_X2_arch rfl rfl rfl (by decide +kernel) ⟨(Nat.le_of_ble_eq_true rfl), (Nat.le_of_ble_eq_true rfl)⟩) Wd hS hl.1 dL_law_409 rfl rfl (Nat.le_of_ble_eq_true rfl) ⟨by show _ ≤ 600172; omega, by show _ ≤ 7300668; omega⟩ (fun H locs Wd hS => ?_)
              refine lv_bipush (v := 50) S.1 S.2.1 dL_law_412 (by decide) ?_
              refine lv_icmp_gt (tgt := 439) S.1 S.2.1 dL_law_414 (by decide) (fun c5 => ?_) (fun c5 => ?_)
              · exfalso
                have z9 := Int32.lt_iff_toInt_lt.mp c5
                rw [pu_50] at z9
                omega
              · refine lv_aload_n S.1 S.2.1 dL_law_417 rfl (lv_at hl 6 rfl) ?_
                refine lv_iload S.1 S.2.1 dL_law_418 (lv_at hl 0 rfl) ?_
                refine lv_iconst (v := 4) S.1 S.2.1 dL_law_420 (by decide) ?_
                have hM := c_X2_arch l hlt hD.1 (D := D) (cI := cI) (cQ := cQ) (V := V) (Q := V 0) (n := n) hV.2.1 hV.1 (nI i) 4
                simp only [aq_ug_id, aq_tc_id, (nI_clamp (by omega) : (nI i).toNatClampNeg = i), (by decide : (4 : Int32).toNatClampNeg = 4)] at hM
                refine pl_callX (As := [.int (nI i), .int 4]) (rest := []) (r := (V 0 4 i)) S E hD hM (pq_arch (w := 4) (by omega) hV.1 (by decide)) (cwV 2 S.2.2.2.2 gL_law_X2_arch rfl rfl rfl (by decide +kernel) ⟨(Nat.le_of_ble_eq_true rfl), (Nat.le_of_ble_eq_true rfl)⟩) Wd hS hl.1 dL_law_421 rfl rfl (Nat.le_of_ble_eq_true rfl) ⟨by show _ ≤ 600172; omega, by show _ ≤ 7300668; omega⟩ (fun H locs Wd hS => ?_)
                refine lv_if_lt (tgt := 439) S.1 S.2.1 dL_law_424 (by decide) (fun c6 => ?_) (fun c6 => ?_)
                · exfalso
                  have z9 := Int32.lt_iff_toInt_lt.mp c6
                  rw [pu_0] at z9
                  omega
                · refine lv_aload_n S.1 S.2.1 dL_law_427 rfl (lv_at hl 6 rfl) ?_
                  refine lv_iload S.1 S.2.1 dL_law_428 (lv_at hl 0 rfl) ?_
                  refine lv_iconst (v := 4) S.1 S.2.1 dL_law_430 (by decide) ?_
                  have hM := c_X2_arch l hlt hD.1 (D := D) (cI := cI) (cQ := cQ) (V := V) (Q := V 0) (n := n) hV.2.1 hV.1 (nI i) 4
                  simp only [aq_ug_id, aq_tc_id, (nI_clamp (by omega) : (nI i).toNatClampNeg = i), (by decide : (4 : Int32).toNatClampNeg = 4)] at hM
                  refine pl_callX (As := [.int (nI i), .int 4]) (rest := []) (r := (V 0 4 i)) S E hD hM (pq_arch (w := 4) (by omega) hV.1 (by decide)) (cwV 2 S.2.2.2.2 gL_law_X2_arch rfl rfl rfl (by decide +kernel) ⟨(Nat.le_of_ble_eq_true rfl), (Nat.le_of_ble_eq_true rfl)⟩) Wd hS hl.1 dL_law_431 rfl rfl (Nat.le_of_ble_eq_true rfl) ⟨by show _ ≤ 600172; omega, by show _ ≤ 7300668; omega⟩ (fun H locs Wd hS => ?_)
                  refine lv_bipush (v := 9) S.1 S.2.1 dL_law_434 (by decide) ?_
                  refine lv_icmp_le (tgt := 441) S.1 S.2.1 dL_law_436 (by decide) (fun c7 => ?_) (fun c7 => ?_)
                  · refine lv_aload_n S.1 S.2.1 dL_law_441 rfl (lv_at hl 6 rfl) ?_
                    refine lv_iload S.1 S.2.1 dL_law_442 (lv_at hl 0 rfl) ?_
                    refine lv_bipush (v := 8) S.1 S.2.1 dL_law_444 (by decide) ?_
                    have hM := c_X2_arch l hlt hD.1 (D := D) (cI := cI) (cQ := cQ) (V := V) (Q := V 0) (n := n) hV.2.1 hV.1 (nI i) 8
                    simp only [aq_ug_id, aq_tc_id, (nI_clamp (by omega) : (nI i).toNatClampNeg = i), (by decide : (8 : Int32).toNatClampNeg = 8)] at hM
                    refine pl_callX (As := [.int (nI i), .int 8]) (rest := []) (r := ((if aq_hasMill (V 0) i = 0 then (0 : Int32) else 1))) S E hD hM (pq_arch (w := 8) (by omega) hV.1 (by decide)) (cwV 2 S.2.2.2.2 gL_law_X2_arch rfl rfl rfl (by decide +kernel) ⟨(Nat.le_of_ble_eq_true rfl), (Nat.le_of_ble_eq_true rfl)⟩) Wd hS hl.1 dL_law_446 rfl rfl (Nat.le_of_ble_eq_true rfl) ⟨by show _ ≤ 600172; omega, by show _ ≤ 7300668; omega⟩ (fun H locs Wd hS => ?_)
                    refine lv_if_ne (tgt := 455) S.1 S.2.1 dL_law_449 (by decide) (fun c8 => ?_) (fun c8 => ?_)
                    · have hmill := pv_h1 c8
                      refine lv_iload S.1 S.2.1 dL_law_455 (lv_at hl 2 rfl) ?_
                      refine lv_aload_n S.1 S.2.1 dL_law_457 rfl (lv_at hl 6 rfl) ?_
                      refine lv_iload S.1 S.2.1 dL_law_458 (lv_at hl 0 rfl) ?_
                      refine lv_iconst (v := 2) S.1 S.2.1 dL_law_460 (by decide) ?_
                      have hM := c_X2_mill l hlt hD.1 (D := D) (cI := cI) (cQ := cQ) (V := V) (Q := V 0) (n := n) hV.2.1 hV.1 (nI i) 2
                      simp only [aq_ug_id, aq_tc_id, (nI_clamp (by omega) : (nI i).toNatClampNeg = i), (by decide : (2 : Int32).toNatClampNeg = 2)] at hM
                      rw [show aq_millNo (V 0) i 2 = V 0 8 i from if_neg hmill] at hM
                      refine pl_callX (As := [.int (nI i), .int 2]) (rest := [.int fl]) (r := (V 0 8 i)) S E hD hM (pq_mill (w := 2) (by omega) hV.1 (by decide)) (cwV 2 S.2.2.2.2 gL_law_X2_mill rfl rfl rfl (by decide +kernel) ⟨(Nat.le_of_ble_eq_true rfl), (Nat.le_of_ble_eq_true rfl)⟩) Wd hS hl.1 dL_law_461 rfl rfl (Nat.le_of_ble_eq_true rfl) ⟨by show _ ≤ 600172; omega, by show _ ≤ 7300668; omega⟩ (fun H locs Wd hS => ?_)
                      refine lv_iadd S.1 S.2.1 dL_law_464 ?_
                      refine lv_istore (lv' := [(12, .int (fl + V 0 8 i)), (14, .int (nI i)), (13, .int co), (4, .int (nI j)), (3, .int (nI me)), (2, .int (nI n)), (1, .ref (ad 0)), (0, .ref b)]) S.1 S.2.1 dL_law_465 hl (by decide) rfl (fun ls hl => ?_)
                      refine lv_iload S.1 S.2.1 dL_law_467 (lv_at hl 2 rfl) ?_
                      refine lv_aload_n S.1 S.2.1 dL_law_469 rfl (lv_at hl 6 rfl) ?_
                      refine lv_iload S.1 S.2.1 dL_law_470 (lv_at hl 1 rfl) ?_
                      refine lv_iconst (v := 2) S.1 S.2.1 dL_law_472 (by decide) ?_
                      have hM := c_X2_mill l hlt hD.1 (D := D) (cI := cI) (cQ := cQ) (V := V) (Q := V 0) (n := n) hV.2.1 hV.1 (nI i) 2
                      simp only [aq_ug_id, aq_tc_id, (nI_clamp (by omega) : (nI i).toNatClampNeg = i), (by decide : (2 : Int32).toNatClampNeg = 2)] at hM
                      rw [show aq_millNo (V 0) i 2 = V 0 8 i from if_neg hmill] at hM
                      refine pl_callX (As := [.int (nI i), .int 2]) (rest := [.int co]) (r := (V 0 8 i)) S E hD hM (pq_mill (w := 2) (by omega) hV.1 (by decide)) (cwV 2 S.2.2.2.2 gL_law_X2_mill rfl rfl rfl (by decide +kernel) ⟨(Nat.le_of_ble_eq_true rfl), (Nat.le_of_ble_eq_true rfl)⟩) Wd hS hl.1 dL_law_473 rfl rfl (Nat.le_of_ble_eq_true rfl) ⟨by show _ ≤ 600172; omega, by show _ ≤ 7300668; omega⟩ (fun H locs Wd hS => ?_)
                      refine lv_bipush (v := 10) S.1 S.2.1 dL_law_476 (by decide) ?_
                      refine lv_idiv S.1 S.2.1 dL_law_478 (by decide) ?_
                      refine lv_iadd S.1 S.2.1 dL_law_479 ?_
                      refine lv_istore (lv' := [(13, .int (co + (V 0 8 i / 10))), (12, .int (fl + V 0 8 i)), (14, .int (nI i)), (4, .int (nI j)), (3, .int (nI me)), (2, .int (nI n)), (1, .ref (ad 0)), (0, .ref b)]) S.1 S.2.1 dL_law_480 hl (by decide) rfl (fun ls hl => ?_)
                      refine lv_aload_n S.1 S.2.1 dL_law_482 rfl (lv_at hl 6 rfl) ?_
                      refine lv_iload S.1 S.2.1 dL_law_483 (lv_at hl 2 rfl) ?_
                      refine lv_iconst (v := 3) S.1 S.2.1 dL_law_485 (by decide) ?_
                      have hM := c_X2_mill l hlt hD.1 (D := D) (cI := cI) (cQ := cQ) (V := V) (Q := V 0) (n := n) hV.2.1 hV.1 (nI i) 3
                      simp only [aq_ug_id, aq_tc_id, (nI_clamp (by omega) : (nI i).toNatClampNeg = i), (by decide : (3 : Int32).toNatClampNeg = 3)] at hM
                      rw [show aq_millNo (V 0) i 3 = V 0 9 i from if_neg hmill] at hM
                      refine pl_callX (As := [.int (nI i), .int 3]) (rest := []) (r := (V 0 9 i)) S E hD hM (pq_mill (w := 3) (by omega) hV.1 (by decide)) (cwV 2 S.2.2.2.2 gL_law_X2_mill rfl rfl rfl (by decide +kernel) ⟨(Nat.le_of_ble_eq_true rfl), (Nat.le_of_ble_eq_true rfl)⟩) Wd hS hl.1 dL_law_486 rfl rfl (Nat.le_of_ble_eq_true rfl) ⟨by show _ ≤ 600172; omega, by show _ ≤ 7300668; omega⟩ (fun H locs Wd hS => ?_)
                      refine lv_aload_n S.1 S.2.1 dL_law_489 rfl (lv_at hl 6 rfl) ?_
                      refine lv_iload S.1 S.2.1 dL_law_490 (lv_at hl 2 rfl) ?_
                      refine lv_iconst (v := 0) S.1 S.2.1 dL_law_492 (by decide) ?_
                      have hM := c_X2_mill l hlt hD.1 (D := D) (cI := cI) (cQ := cQ) (V := V) (Q := V 0) (n := n) hV.2.1 hV.1 (nI i) 0
                      simp only [aq_ug_id, aq_tc_id, (nI_clamp (by omega) : (nI i).toNatClampNeg = i), (by decide : (0 : Int32).toNatClampNeg = 0)] at hM
                      rw [show aq_millNo (V 0) i 0 = V 0 6 i from if_neg hmill] at hM
                      refine pl_callX (As := [.int (nI i), .int 0]) (rest := [.int (V 0 9 i)]) (r := (V 0 6 i)) S E hD hM (pq_mill (w := 0) (by omega) hV.1 (by decide)) (cwV 2 S.2.2.2.2 gL_law_X2_mill rfl rfl rfl (by decide +kernel) ⟨(Nat.le_of_ble_eq_true rfl), (Nat.le_of_ble_eq_true rfl)⟩) Wd hS hl.1 dL_law_493 rfl rfl (Nat.le_of_ble_eq_true rfl) ⟨by show _ ≤ 600172; omega, by show _ ≤ 7300668; omega⟩ (fun H locs Wd hS => ?_)
                      refine lv_icmp_gt (tgt := 511) S.1 S.2.1 dL_law_496 (by decide) (fun c9 => ?_) (fun c9 => ?_)
                      · exfalso
                        have z9 := Int32.lt_iff_toInt_lt.mp c9
                        have z8 := hV.2.2.2.2.2.2.1 i
                        omega
                      · refine lv_aload_n S.1 S.2.1 dL_law_499 rfl (lv_at hl 6 rfl) ?_
                        refine lv_iload S.1 S.2.1 dL_law_500 (lv_at hl 2 rfl) ?_
                        refine lv_iconst (v := 3) S.1 S.2.1 dL_law_502 (by decide) ?_
                        have hM := c_X2_mill l hlt hD.1 (D := D) (cI := cI) (cQ := cQ) (V := V) (Q := V 0) (n := n) hV.2.1 hV.1 (nI i) 3
                        simp only [aq_ug_id, aq_tc_id, (nI_clamp (by omega) : (nI i).toNatClampNeg = i), (by decide : (3 : Int32).toNatClampNeg = 3)] at hM
                        rw [show aq_millNo (V 0) i 3 = V 0 9 i from if_neg hmill] at hM
                        refine pl_callX (As := [.int (nI i), .int 3]) (rest := []) (r := (V 0 9 i)) S E hD hM (pq_mill (w := 3) (by omega) hV.1 (by decide)) (cwV 2 S.2.2.2.2 gL_law_X2_mill rfl rfl rfl (by decide +kernel) ⟨(Nat.le_of_ble_eq_true rfl), (Nat.le_of_ble_eq_true rfl)⟩) Wd hS hl.1 dL_law_503 rfl rfl (Nat.le_of_ble_eq_true rfl) ⟨by show _ ≤ 600172; omega, by show _ ≤ 7300668; omega⟩ (fun H locs Wd hS => ?_)
                        refine lv_bipush (v := 30) S.1 S.2.1 dL_law_506 (by decide) ?_
                        refine lv_icmp_le (tgt := 513) S.1 S.2.1 dL_law_508 (by decide) (fun c10 => ?_) (fun c10 => ?_)
                        · refine lv_iinc (v := nI (i + 1)) (lv' := [(14, .int (nI (i + 1))), (13, .int (co + (V 0 8 i / 10))), (12, .int (fl + V 0 8 i)), (4, .int (nI j)), (3, .int (nI me)), (2, .int (nI n)), (1, .ref (ad 0)), (0, .ref b)]) S.1 S.2.1 dL_law_513 hl (k := 2) rfl (nI_1 _) (by decide) rfl (fun ls hl => ?_)
                          refine lv_goto (tgt := 362) S.1 S.2.1 dL_law_516 (by decide) ?_
                          exact W.widen (k := cells + 26 * (i + 1)) (n := slots + 156 * (i + 1)) (by omega) (by omega) (ih (i + 1) (fl + V 0 8 i) (co + (V 0 8 i / 10)) (by omega) (pw_Sm hV (by omega) (by omega) hSi) H _ Wd hS ls (lv_sub hl [0, 1, 2, 3, 4, 5, 6, 7] rfl))
                        · exfalso
                          have z9 := Int32.lt_iff_toInt_lt.mp (Int32.not_le.mp c10)
                          rw [pu_30] at z9
                          omega
                    · refine lv_goto (tgt := 513) S.1 S.2.1 dL_law_452 (by decide) ?_
                      refine lv_iinc (v := nI (i + 1)) (lv' := [(14, .int (nI (i + 1))), (13, .int co), (12, .int fl), (4, .int (nI j)), (3, .int (nI me)), (2, .int (nI n)), (1, .ref (ad 0)), (0, .ref b)]) S.1 S.2.1 dL_law_513 hl (k := 0) rfl (nI_1 _) (by decide) rfl (fun ls hl => ?_)
                      refine lv_goto (tgt := 362) S.1 S.2.1 dL_law_516 (by decide) ?_
                      exact W.widen (k := cells + 26 * (i + 1)) (n := slots + 156 * (i + 1)) (by omega) (by omega) (ih (i + 1) (fl) (co) (by omega) (pw_Sno hV hSi (pv_h0 c8)) H _ Wd hS ls (lv_sub hl [0, 1, 2, 3, 4, 5, 6, 7] rfl))
                  · exfalso
                    have z9 := Int32.lt_iff_toInt_lt.mp (Int32.not_le.mp c7)
                    rw [show (9 : Int32).toInt = 9 from by decide] at z9
                    omega
  refine lv_iconst (v := 0) S.1 S.2.1 dL_law_353 (by decide) ?_
  refine lv_istore (lv' := [(12, .int 0), (4, .int (nI j)), (3, .int (nI me)), (2, .int (nI n)), (1, .ref (ad 0)), (0, .ref b)]) S.1 S.2.1 dL_law_354 hl (by decide) rfl (fun ls hl => ?_)
  refine lv_iconst (v := 0) S.1 S.2.1 dL_law_356 (by decide) ?_
  refine lv_istore (lv' := [(13, .int 0), (12, .int 0), (4, .int (nI j)), (3, .int (nI me)), (2, .int (nI n)), (1, .ref (ad 0)), (0, .ref b)]) S.1 S.2.1 dL_law_357 hl (by decide) rfl (fun ls hl => ?_)
  refine lv_iconst (v := 0) S.1 S.2.1 dL_law_359 (by decide) ?_
  refine lv_istore (lv' := [(14, .int 0), (13, .int 0), (12, .int 0), (4, .int (nI j)), (3, .int (nI me)), (2, .int (nI n)), (1, .ref (ad 0)), (0, .ref b)]) S.1 S.2.1 dL_law_360 hl (by decide) rfl (fun ls hl => ?_)
  exact L362 n 0 0 0 (by omega) pw_S0 H _ Wd hS ls (lv_sub hl [0, 1, 2, 3, 4, 5, 6, 7] rfl)
