set_option maxHeartbeats 8000000 in
set_option maxRecDepth 100000 in
theorem law_B1 (l : Launch) (hlt : l.stackTraces = false) {p : Program} {e : Env} {s : State} {m : MethodId} {args : Array Value} {below : List Frame} {meth : Method} {c : Code} {Q : State → Prop} {D : va_G} {cI cQ : ClassId} {ad : Nat → Nat} {b L : Nat} {xs : Nat → Int32} {H : Heap} {locs : List Loc} {cells slots n h me j : Nat} {V : aq_V} {ls : Array Slot} {x : Int32} (S : CallFix p m c cL_law 15 s args wsL_law RL) (E : pl_E s) (hD : pl_D ad s.heap.size) (hX : va_X b L xs s s.heap) (hbl : b < s.heap.size) (hL : L ≤ 260) (hn1 : 1 ≤ n) (hj : j < 45) (hh : h ≤ 1000) (hme : me ≤ 1000) (hV : pw_V n h ((me : Nat) : Int) (V 2) (V 0)) (Wd : pl_W D cI cQ ad V s H) (hS : pl_S s H locs) (hc : cells + 600 ≤ 600172) (hs : slots + 5000 ≤ 7300668) (hl : lv_has ls 15 [(5, .int x), (4, .int (nI j)), (3, .int (nI me)), (2, .int (nI n)), (1, .ref (ad 0)), (0, .ref b)]) (K : ∀ (z : Nat) (V' : aq_V) (H' : Heap) (locs' : List Loc) (ls' : Array Slot), 1 ≤ z → z ≤ 9 → V' 0 = V 0 → V' 2 = V 2 → pl_W D cI cQ ad V' s H' → pl_S s H' locs' → lv_has ls' 15 [(10, .int (aq_thi (aq_goQ n (V 2) z (V 0)) (V 0))), (8, .long (aq_digest n (V 2) (V 0))), (7, .int (nI z)), (5, .int x), (4, .int (nI j)), (3, .int (nI me)), (2, .int (nI n)), (1, .ref (ad 0)), (0, .ref b)] → W p l e room_1 s m args below meth c H' locs' (cells + 4) (slots + 24) Q (F0 m 288 ls' [])) : W p l e room_1 s m args below meth c H locs (cells) (slots) Q (F0 m 236 ls []) := by
  have h20 := hV.1
  refine lv_iconst (v := 1) S.1 S.2.1 dL_law_236 (by decide) ?_
  refine lv_iload S.1 S.2.1 dL_law_237 (lv_at hl 0 rfl) ?_
  refine lv_iconst (v := 5) S.1 S.2.1 dL_law_239 (by decide) ?_
  refine lv_ishr S.1 S.2.1 dL_law_240 ?_
  refine lv_topi (fun x1 _ => ?_)
  refine lv_bipush (v := 9) S.1 S.2.1 dL_law_241 (by decide) ?_
  refine pl_below (n := 9) S rfl (by omega) (by omega) (va_cwS 2 S.2.2.2.2 gL_law_L_below rfl rfl rfl (by decide +kernel) ⟨(Nat.le_of_ble_eq_true rfl), (Nat.le_of_ble_eq_true rfl)⟩) Wd hS hl.1 dL_law_243 (Nat.le_of_ble_eq_true rfl) ⟨by show _ ≤ 600172; omega, by show _ ≤ 7300668; omega⟩ (fun k2 hk2 H locs Wd hS => ?_)
  refine lv_iadd S.1 S.2.1 dL_law_246 ?_
  refine lv_topi (fun x3 (ex3 : x3 = nI 1 + nI k2) => ?_)
  rw [nI_add] at ex3; subst ex3
  refine lv_istore (lv' := [(7, .int (nI (1 + k2))), (5, .int x), (4, .int (nI j)), (3, .int (nI me)), (2, .int (nI n)), (1, .ref (ad 0)), (0, .ref b)]) S.1 S.2.1 dL_law_247 hl (by decide) rfl (fun ls hl => ?_)
  refine lv_aload_n S.1 S.2.1 dL_law_249 rfl (lv_at hl 5 rfl) ?_
  have hM := c_X2_digest l hD.1 (D := D) (cI := cI) (cQ := cQ) (V := V) (Q := V 0) (n := n) hV.2.1 hV.1
  simp only [aq_ug_id, aq_tc_id] at hM
  refine pl_calll (As := []) (rest := []) S hD hM (cwV 0 S.2.2.2.2 gL_law_X2_digest rfl rfl rfl (by decide +kernel) ⟨(Nat.le_of_ble_eq_true rfl), (Nat.le_of_ble_eq_true rfl)⟩) Wd hS hl.1 dL_law_250 rfl rfl (Nat.le_of_ble_eq_true rfl) ⟨by show _ ≤ 600172; omega, by show _ ≤ 7300668; omega⟩ (fun H locs Wd hS => ?_)
  refine lv_lstore (lv' := [(8, .long (aq_digest n (V 2) (V 0))), (7, .int (nI (1 + k2))), (5, .int x), (4, .int (nI j)), (3, .int (nI me)), (2, .int (nI n)), (1, .ref (ad 0)), (0, .ref b)]) S.1 S.2.1 dL_law_253 hl (by decide) rfl (fun ls hl => ?_)
  refine lv_aload_n S.1 S.2.1 dL_law_255 rfl (lv_at hl 6 rfl) ?_
  refine lv_iload S.1 S.2.1 dL_law_256 (lv_at hl 1 rfl) ?_
  refine lv_iconst (v := 0) S.1 S.2.1 dL_law_258 (by decide) ?_
  have hM := c_X2_foresee l hlt hD.1 (D := D) (cI := cI) (cQ := cQ) (V := V) (Q := V 0) (Q1 := V 1) (n := n) hV.2.1 hV.1 (h := h) hV.2.2.1 (by omega) (nI (1 + k2)) 0
  simp only [aq_ug_id, aq_tc_id, (nI_clamp (by omega) : (nI (1 + k2)).toNatClampNeg = (1 + k2)), (by decide : (0 : Int32).toNatClampNeg = 0)] at hM
  rw [pw_fore hV.2.1] at hM
  refine pl_callX (As := [.int (nI (1 + k2)), .int 0]) (rest := []) (r := (aq_thi (aq_goQ n (V 2) (1 + k2) (V 0)) (V 0))) S E hD hM (pq_for (by omega) (by omega)) (cwV 2 S.2.2.2.2 gL_law_X2_foresee rfl rfl rfl (by decide +kernel) ⟨(Nat.le_of_ble_eq_true rfl), (Nat.le_of_ble_eq_true rfl)⟩) Wd hS hl.1 dL_law_259 rfl rfl (Nat.le_of_ble_eq_true rfl) ⟨by show _ ≤ 600172; omega, by show _ ≤ 7300668; omega⟩ (fun H locs Wd hS => ?_)
  obtain ⟨V4, hV4⟩ : ∃ z9 : aq_V, z9 = aq_ug (aq_tc V) 1 (aq_goQ n (V 2) (1 + k2) (aq_cpQ n (V 0) (V 1))) := ⟨_, rfl⟩
  rw [← hV4] at Wd
  have qV4 : V4 0 = V 0 := by rw [hV4, aq_ug_n _ _ (show (0 : Nat) ≠ 1 by decide), aq_tc_0]
  have tV4 : V4 2 = V 2 := by rw [hV4, aq_ug_n _ _ (show (2 : Nat) ≠ 1 by decide), aq_tc_2]
  have hV4s : pw_V n h ((me : Nat) : Int) (V4 2) (V4 0) := by
    rw [qV4, tV4]
    exact hV
  refine lv_istore (lv' := [(10, .int (aq_thi (aq_goQ n (V 2) (1 + k2) (V 0)) (V 0))), (8, .long (aq_digest n (V 2) (V 0))), (7, .int (nI (1 + k2))), (5, .int x), (4, .int (nI j)), (3, .int (nI me)), (2, .int (nI n)), (1, .ref (ad 0)), (0, .ref b)]) S.1 S.2.1 dL_law_262 hl (by decide) rfl (fun ls hl => ?_)
  refine lv_iload S.1 S.2.1 dL_law_264 (lv_at hl 4 rfl) ?_
  refine lv_bipush (v := 6) S.1 S.2.1 dL_law_266 (by decide) ?_
  refine lv_irem S.1 S.2.1 dL_law_268 (by decide) ?_
  refine lv_topi (fun x5 (ex5 : x5 = nI j - nI j / nI 6 * nI 6) => ?_)
  rw [pk_rem (by omega) (by decide) (by decide)] at ex5; subst ex5
  refine lv_if_ne (tgt := 288) S.1 S.2.1 dL_law_269 (by decide) (fun c6 => ?_) (fun c6 => ?_)
  · have c6 : ¬ (j % 6) = 0 := fun z9 => c6 ((nI_eq (a := (j % 6)) (b := 0) (by omega) (by omega)).mpr z9)
    exact W.widen (k := cells + 4) (n := slots + 24) (by omega) (by omega) (K (1 + k2) V4 H _ ls (by omega) (by omega) qV4 tV4 Wd hS (lv_sub hl [0, 1, 2, 3, 4, 5, 6, 7, 8] rfl))
  · have c6 : (j % 6) = 0 := (nI_eq (a := (j % 6)) (b := 0) (by omega) (by omega)).mp c6
    refine lv_aload_n S.1 S.2.1 dL_law_272 rfl (lv_at hl 7 rfl) ?_
    refine lv_iconst (v := 1) S.1 S.2.1 dL_law_273 (by decide) ?_
    refine lv_iload S.1 S.2.1 dL_law_274 (lv_at hl 3 rfl) ?_
    refine lv_iconst (v := 4) S.1 S.2.1 dL_law_276 (by decide) ?_
    refine lv_ishr S.1 S.2.1 dL_law_277 ?_
    refine lv_topi (fun x7 _ => ?_)
    refine lv_bipush (v := 20) S.1 S.2.1 dL_law_278 (by decide) ?_
    refine pl_below (n := 20) S rfl (by omega) (by omega) (va_cwS 2 S.2.2.2.2 gL_law_L_below rfl rfl rfl (by decide +kernel) ⟨(Nat.le_of_ble_eq_true rfl), (Nat.le_of_ble_eq_true rfl)⟩) Wd hS hl.1 dL_law_280 (Nat.le_of_ble_eq_true rfl) ⟨by show _ ≤ 600172; omega, by show _ ≤ 7300668; omega⟩ (fun k8 hk8 H locs Wd hS => ?_)
    refine lv_iadd S.1 S.2.1 dL_law_283 ?_
    refine lv_topi (fun x9 (ex9 : x9 = nI 1 + nI k8) => ?_)
    rw [nI_add] at ex9; subst ex9
    have hM := c_X2_advise l hlt hD.1 (D := D) (cI := cI) (cQ := cQ) (V := V4) (Q := V4 0) (Q1 := V4 1) (n := n) hV4s.2.1 hV4s.1 (h := h) hV4s.2.2.1 (by omega) (nI (1 + k8))
    simp only [aq_ug_id, aq_tc_id, (nI_clamp (by omega) : (nI (1 + k8)).toNatClampNeg = (1 + k8))] at hM
    refine pl_callX (As := [.int (nI (1 + k8))]) (rest := []) S E hD hM (pq_adv (by omega) (by omega)) (cwV 1 S.2.2.2.2 gL_law_X2_advise rfl rfl rfl (by decide +kernel) ⟨(Nat.le_of_ble_eq_true rfl), (Nat.le_of_ble_eq_true rfl)⟩) Wd hS hl.1 dL_law_284 rfl rfl (Nat.le_of_ble_eq_true rfl) ⟨by show _ ≤ 600172; omega, by show _ ≤ 7300668; omega⟩ (fun H locs Wd hS => ?_)
    obtain ⟨V10, hV10⟩ : ∃ z9 : aq_V, z9 = aq_ug (aq_tc V4) 1 (aq_adviseQ n (V4 2) (1 + k8) (V4 0) (V4 1)) := ⟨_, rfl⟩
    rw [← hV10] at Wd
    have qV10 : V10 0 = V4 0 := by rw [hV10, aq_ug_n _ _ (show (0 : Nat) ≠ 1 by decide), aq_tc_0]
    have tV10 : V10 2 = V4 2 := by rw [hV10, aq_ug_n _ _ (show (2 : Nat) ≠ 1 by decide), aq_tc_2]
    have hV10s : pw_V n h ((me : Nat) : Int) (V10 2) (V10 0) := by
      rw [qV10, tV10]
      exact hV4s
    refine lv_pop S.1 S.2.1 dL_law_287 rfl ?_
    exact W.widen (k := cells + 4) (n := slots + 24) (by omega) (by omega) (K (1 + k2) V10 H _ ls (by omega) (by omega) (qV10.trans qV4) (tV10.trans tV4) Wd hS (lv_sub hl [0, 1, 2, 3, 4, 5, 6, 7, 8] rfl))
set_option maxHeartbeats 8000000 in
set_option maxRecDepth 100000 in
theorem law_B2 (l : Launch) (hlt : l.stackTraces = false) {p : Program} {e : Env} {s : State} {m : MethodId} {args : Array Value} {below : List Frame} {meth : Method} {c : Code} {Q : State → Prop} {D : va_G} {cI cQ : ClassId} {ad : Nat → Nat} {b L : Nat} {xs : Nat → Int32} {H : Heap} {locs : List Loc} {cells slots n h me j : Nat} {V : aq_V} {ls : Array Slot} {x th : Int32} {dg : Int64} {z : Nat} (S : CallFix p m c cL_law 15 s args wsL_law RL) (E : pl_E s) (hD : pl_D ad s.heap.size) (hX : va_X b L xs s s.heap) (hbl : b < s.heap.size) (hL : L ≤ 260) (hn1 : 1 ≤ n) (hj : j < 45) (hh : h ≤ 1000) (hme : me ≤ 1000) (hV : pw_V n h ((me : Nat) : Int) (V 2) (V 0)) (Wd : pl_W D cI cQ ad V s H) (hS : pl_S s H locs) (hc : cells + 600 ≤ 600172) (hs : slots + 5000 ≤ 7300668) (hl : lv_has ls 15 [(10, .int th), (8, .long dg), (7, .int (nI z)), (5, .int x), (4, .int (nI j)), (3, .int (nI me)), (2, .int (nI n)), (1, .ref (ad 0)), (0, .ref b)]) (K : ∀ (V' : aq_V) (H' : Heap) (locs' : List Loc) (ls' : Array Slot), V' 0 = V 0 → V' 2 = V 2 → pl_W D cI cQ ad V' s H' → pl_S s H' locs' → lv_has ls' 15 [(10, .int th), (8, .long dg), (7, .int (nI z)), (5, .int x), (4, .int (nI j)), (3, .int (nI me)), (2, .int (nI n)), (1, .ref (ad 0)), (0, .ref b)] → W p l e room_1 s m args below meth c H' locs' (cells) (slots) Q (F0 m 301 ls' [])) : W p l e room_1 s m args below meth c H locs (cells) (slots) Q (F0 m 288 ls []) := by
  have h20 := hV.1
  refine lv_iload S.1 S.2.1 dL_law_288 (lv_at hl 4 rfl) ?_
  refine lv_bipush (v := 9) S.1 S.2.1 dL_law_290 (by decide) ?_
  refine lv_irem S.1 S.2.1 dL_law_292 (by decide) ?_
  refine lv_topi (fun x1 (ex1 : x1 = nI j - nI j / nI 9 * nI 9) => ?_)
  rw [pk_rem (by omega) (by decide) (by decide)] at ex1; subst ex1
  refine lv_if_ne (tgt := 301) S.1 S.2.1 dL_law_293 (by decide) (fun c2 => ?_) (fun c2 => ?_)
  · have c2 : ¬ (j % 9) = 0 := fun z9 => c2 ((nI_eq (a := (j % 9)) (b := 0) (by omega) (by omega)).mpr z9)
    exact K V H _ ls rfl rfl Wd hS (lv_sub hl [0, 1, 2, 3, 4, 5, 6, 7, 8] rfl)
  · have c2 : (j % 9) = 0 := (nI_eq (a := (j % 9)) (b := 0) (by omega) (by omega)).mp c2
    refine lv_aload_n S.1 S.2.1 dL_law_296 rfl (lv_at hl 7 rfl) ?_
    obtain ⟨z200, hz200⟩ : ∃ z : Nat, z = 200 := ⟨_, rfl⟩
    have hM := c_X2_thirsty l hD.1 (D := D) (cI := cI) (cQ := cQ) (V := V) (Q := V 0) (Q1 := V 1) (n := n) hV.2.1 hV.1 (h := h) hV.2.2.1 (by omega) hz200
    simp only [aq_ug_id, aq_tc_id] at hM
    refine pl_call (As := []) (rest := []) S hD hM (cwV 0 S.2.2.2.2 gL_law_X2_thirsty rfl rfl rfl (by decide +kernel) ⟨(Nat.le_of_ble_eq_true rfl), (Nat.le_of_ble_eq_true rfl)⟩) Wd hS hl.1 dL_law_297 rfl rfl (Nat.le_of_ble_eq_true rfl) ⟨by show _ ≤ 600172; omega, by show _ ≤ 7300668; omega⟩ (fun H locs Wd hS => ?_)
    obtain ⟨V3, hV3⟩ : ∃ z9 : aq_V, z9 = aq_ug (aq_tc V) 1 (aq_thsQ n (V 2) (V 0) z200 1 (aq_cpQ n (V 0) (V 1))) := ⟨_, rfl⟩
    rw [← hV3] at Wd
    have qV3 : V3 0 = V 0 := by rw [hV3, aq_ug_n _ _ (show (0 : Nat) ≠ 1 by decide), aq_tc_0]
    have tV3 : V3 2 = V 2 := by rw [hV3, aq_ug_n _ _ (show (2 : Nat) ≠ 1 by decide), aq_tc_2]
    have hV3s : pw_V n h ((me : Nat) : Int) (V3 2) (V3 0) := by
      rw [qV3, tV3]
      exact hV
    refine lv_pop S.1 S.2.1 dL_law_300 rfl ?_
    exact K V3 H _ ls qV3 tV3 Wd hS (lv_sub hl [0, 1, 2, 3, 4, 5, 6, 7, 8] rfl)
set_option maxHeartbeats 8000000 in
set_option maxRecDepth 100000 in
theorem law_B3 (l : Launch) (hlt : l.stackTraces = false) {p : Program} {e : Env} {s : State} {m : MethodId} {args : Array Value} {below : List Frame} {meth : Method} {c : Code} {Q : State → Prop} {D : va_G} {cI cQ : ClassId} {ad : Nat → Nat} {b L : Nat} {xs : Nat → Int32} {H : Heap} {locs : List Loc} {cells slots n h me j : Nat} {V : aq_V} {ls : Array Slot} {x th : Int32} {dg : Int64} {z : Nat} (S : CallFix p m c cL_law 15 s args wsL_law RL) (E : pl_E s) (hD : pl_D ad s.heap.size) (hX : va_X b L xs s s.heap) (hbl : b < s.heap.size) (hL : L ≤ 260) (hn1 : 1 ≤ n) (hj : j < 45) (hh : h ≤ 1000) (hme : me ≤ 1000) (hV : pw_V n h ((me : Nat) : Int) (V 2) (V 0)) (Wd : pl_W D cI cQ ad V s H) (hS : pl_S s H locs) (hc : cells + 600 ≤ 600172) (hs : slots + 5000 ≤ 7300668) (hz1 : 1 ≤ z) (hz9 : z ≤ 9) (hth : th = aq_thi (aq_goQ n (V 2) z (V 0)) (V 0)) (hdg : dg = aq_digest n (V 2) (V 0)) (hl : lv_has ls 15 [(10, .int th), (8, .long dg), (7, .int (nI z)), (5, .int x), (4, .int (nI j)), (3, .int (nI me)), (2, .int (nI n)), (1, .ref (ad 0)), (0, .ref b)]) (K : ∀ (V' : aq_V) (H' : Heap) (locs' : List Loc) (ls' : Array Slot), pw_V n (h + z) ((me : Nat) : Int) (V' 2) (V' 0) → pl_W D cI cQ ad V' s H' → pl_S s H' locs' → lv_has ls' 15 [(4, .int (nI j)), (3, .int (nI me)), (2, .int (nI n)), (1, .ref (ad 0)), (0, .ref b)] → W p l e room_1 s m args below meth c H' locs' (cells + 4) (slots + 24) Q (F0 m 353 ls' [])) : W p l e room_1 s m args below meth c H locs (cells) (slots) Q (F0 m 301 ls []) := by
  have h20 := hV.1
  refine lv_aload_n S.1 S.2.1 dL_law_301 rfl (lv_at hl 7 rfl) ?_
  have hM := c_X2_worst l hD.1 (D := D) (cI := cI) (cQ := cQ) (V := V) (Q := V 0) (n := n) hV.2.1 hV.1
  simp only [aq_ug_id, aq_tc_id] at hM
  refine pl_call (As := []) (rest := []) S hD hM (cwV 0 S.2.2.2.2 gL_law_X2_worst rfl rfl rfl (by decide +kernel) ⟨(Nat.le_of_ble_eq_true rfl), (Nat.le_of_ble_eq_true rfl)⟩) Wd hS hl.1 dL_law_302 rfl rfl (Nat.le_of_ble_eq_true rfl) ⟨by show _ ≤ 600172; omega, by show _ ≤ 7300668; omega⟩ (fun H locs Wd hS => ?_)
  refine lv_pop S.1 S.2.1 dL_law_305 rfl ?_
  refine lv_aload_n S.1 S.2.1 dL_law_306 rfl (lv_at hl 7 rfl) ?_
  have hM := c_X2_digest l hD.1 (D := D) (cI := cI) (cQ := cQ) (V := V) (Q := V 0) (n := n) hV.2.1 hV.1
  simp only [aq_ug_id, aq_tc_id] at hM
  refine pl_calll (As := []) (rest := []) S hD hM (cwV 0 S.2.2.2.2 gL_law_X2_digest rfl rfl rfl (by decide +kernel) ⟨(Nat.le_of_ble_eq_true rfl), (Nat.le_of_ble_eq_true rfl)⟩) Wd hS hl.1 dL_law_307 rfl rfl (Nat.le_of_ble_eq_true rfl) ⟨by show _ ≤ 600172; omega, by show _ ≤ 7300668; omega⟩ (fun H locs Wd hS => ?_)
  refine lv_lload S.1 S.2.1 dL_law_310 (lv_at hl 1 rfl) ?_
  refine W.lcmp S.1 S.2.1 dL_law_312 ?_
  refine lv_if_eq (tgt := 318) S.1 S.2.1 dL_law_313 (by decide) (fun c1 => ?_) (fun c1 => ?_)
  · refine lv_aload_n S.1 S.2.1 dL_law_318 rfl (lv_at hl 7 rfl) ?_
    refine lv_bipush (v := 11) S.1 S.2.1 dL_law_319 (by decide) ?_
    have hM := c_X2_count l hlt hD.1 (D := D) (cI := cI) (cQ := cQ) (V := V) (Q := V 0) (n := n) hV.2.1 hV.1 11
    simp only [aq_ug_id, aq_tc_id, (by decide : (11 : Int32).toNatClampNeg = 11)] at hM
    refine pl_callX (As := [.int 11]) (rest := []) (r := (V 0 10 12)) S E hD hM (pq_cnt (w := 11) (by decide)) (cwV 1 S.2.2.2.2 gL_law_X2_count rfl rfl rfl (by decide +kernel) ⟨(Nat.le_of_ble_eq_true rfl), (Nat.le_of_ble_eq_true rfl)⟩) Wd hS hl.1 dL_law_321 rfl rfl (Nat.le_of_ble_eq_true rfl) ⟨by show _ ≤ 600172; omega, by show _ ≤ 7300668; omega⟩ (fun H locs Wd hS => ?_)
    refine lv_istore (lv' := [(11, .int (V 0 10 12)), (10, .int th), (8, .long dg), (7, .int (nI z)), (5, .int x), (4, .int (nI j)), (3, .int (nI me)), (2, .int (nI n)), (1, .ref (ad 0)), (0, .ref b)]) S.1 S.2.1 dL_law_324 hl (by decide) rfl (fun ls hl => ?_)
    refine lv_aload_n S.1 S.2.1 dL_law_326 rfl (lv_at hl 8 rfl) ?_
    refine lv_iload S.1 S.2.1 dL_law_327 (lv_at hl 3 rfl) ?_
    have hM := c_X2_pass l hlt hD.1 (D := D) (cI := cI) (cQ := cQ) (V := V) (Q := V 0) (n := n) hV.2.1 hV.1 (h := h) hV.2.2.1 (by omega) (nI z)
    simp only [aq_ug_id, aq_tc_id, (nI_clamp (by omega) : (nI z).toNatClampNeg = z)] at hM
    refine pl_callX (As := [.int (nI z)]) (rest := []) (r := (aq_thi (aq_goQ n (V 2) z (V 0)) (V 0))) S E hD hM (pq_pass (by omega) (by omega)) (cwV 1 S.2.2.2.2 gL_law_X2_pass rfl rfl rfl (by decide +kernel) ⟨(Nat.le_of_ble_eq_true rfl), (Nat.le_of_ble_eq_true rfl)⟩) Wd hS hl.1 dL_law_329 rfl rfl (Nat.le_of_ble_eq_true rfl) ⟨by show _ ≤ 600172; omega, by show _ ≤ 7300668; omega⟩ (fun H locs Wd hS => ?_)
    obtain ⟨V2, hV2⟩ : ∃ z9 : aq_V, z9 = aq_ug V 0 (aq_goQ n (V 2) z (V 0)) := ⟨_, rfl⟩
    rw [← hV2] at Wd
    have hV2s : pw_V n (h + z) ((me : Nat) : Int) (V2 2) (V2 0) := by
      rw [hV2, aq_ug_s, aq_ug_n _ _ (show (2 : Nat) ≠ 0 by decide)]
      exact pw_go z hV (by omega)
    refine lv_iload S.1 S.2.1 dL_law_332 (lv_at hl 1 rfl) ?_
    refine lv_icmp_ne (tgt := 351) S.1 S.2.1 dL_law_334 (by decide) (fun c3 => ?_) (fun c3 => ?_)
    · exact absurd hth.symm c3
    · refine lv_aload_n S.1 S.2.1 dL_law_337 rfl (lv_at hl 8 rfl) ?_
      refine lv_bipush (v := 11) S.1 S.2.1 dL_law_338 (by decide) ?_
      have hM := c_X2_count l hlt hD.1 (D := D) (cI := cI) (cQ := cQ) (V := V2) (Q := V2 0) (n := n) hV2s.2.1 hV2s.1 11
      simp only [aq_ug_id, aq_tc_id, (by decide : (11 : Int32).toNatClampNeg = 11)] at hM
      refine pl_callX (As := [.int 11]) (rest := []) (r := (V2 0 10 12)) S E hD hM (pq_cnt (w := 11) (by decide)) (cwV 1 S.2.2.2.2 gL_law_X2_count rfl rfl rfl (by decide +kernel) ⟨(Nat.le_of_ble_eq_true rfl), (Nat.le_of_ble_eq_true rfl)⟩) Wd hS hl.1 dL_law_340 rfl rfl (Nat.le_of_ble_eq_true rfl) ⟨by show _ ≤ 600172; omega, by show _ ≤ 7300668; omega⟩ (fun H locs Wd hS => ?_)
      refine lv_iload S.1 S.2.1 dL_law_343 (lv_at hl 0 rfl) ?_
      refine lv_iload S.1 S.2.1 dL_law_345 (lv_at hl 1 rfl) ?_
      refine lv_iadd S.1 S.2.1 dL_law_347 ?_
      refine lv_icmp_eq (tgt := 353) S.1 S.2.1 dL_law_348 (by decide) (fun c4 => ?_) (fun c4 => ?_)
      · exact W.widen (k := cells + 4) (n := slots + 24) (by omega) (by omega) (K V2 H _ ls hV2s Wd hS (lv_sub hl [5, 6, 7, 8, 9] rfl))
      · exact absurd (by rw [hV2, aq_ug_s, hth]; exact (pw_bk _ _).symm) c4
  · exact absurd (by rw [hdg]; simp [lg_cmp]) c1
