set_option maxHeartbeats 8000000 in
set_option maxRecDepth 100000 in
theorem aqd_2 (l : Launch) (hlt : l.stackTraces = false) {p : Program} {e : Env} {s : State} {m : MethodId} {args : Array Value} {below : List Frame} {meth : Method} {c : Code} {Q : State → Prop} {D : va_G} {cI cQ : ClassId} {ad : Nat → Nat} {b L n : Nat} {xs : Nat → Int32} {H : Heap} {locs : List Loc} {cells slots : Nat} {V : aq_V} {ls : Array Slot} (S : CallFix p m c cL_aqueduct 6 s args wsL_aqueduct RL) (E : pl_E s) (hD : pl_D ad s.heap.size) (hX : va_X b L xs s s.heap) (hbl : b < s.heap.size) (hL : L ≤ 260) (hC : pw_C n (V 2) (V 0)) (Wd : pl_W D cI cQ ad V s H) (hS : pl_S s H locs) (hc : cells + 100 ≤ 400) (hs : slots + 600 ≤ 2600) (hl : lv_has ls 6 [(2, .int (nI n)), (1, .ref (ad 0)), (0, .ref b)]) (K : ∀ (V' : aq_V) (H' : Heap) (locs' : List Loc) (ls' : Array Slot), pw_V n 0 ((0 : Nat) : Int) (V' 2) (V' 0) → pl_W D cI cQ ad V' s H' → pl_S s H' locs' → lv_has ls' 6 [(1, .ref (ad 0)), (0, .ref b)] → W p l e ({ frames := 9, cells := 400, slots := 2600, locals := 157 } : Room) s m args below meth c H' locs' (cells + 97) (slots + 582) Q (F0 m 254 ls' [])) : W p l e ({ frames := 9, cells := 400, slots := 2600, locals := 157 } : Room) s m args below meth c H locs (cells) (slots) Q (F0 m 169 ls []) := by
  have L172 : ∀ (k t : Nat) (V : aq_V), t + k = 24 → pw_C n (V 2) (V 0) → ∀ (H : Heap) (locs : List Loc), pl_W D cI cQ ad V s H → pl_S s H locs → ∀ ls : Array Slot, lv_has ls 6 [(4, .int (nI t)), (2, .int (nI n)), (1, .ref (ad 0)), (0, .ref b)] → W p l e ({ frames := 9, cells := 400, slots := 2600, locals := 157 } : Room) s m args below meth c H locs (cells + 4 * t) (slots + 24 * t) Q (F0 m 172 ls []) := by
    intro k
    induction k with
    | zero =>
      intro t V hk hV H locs Wd hS ls hl
      obtain rfl : t = 24 := by omega
      refine lv_iload S.1 S.2.1 dL_aqueduct_172 (lv_at hl 0 rfl) ?_
      refine lv_bipush (v := 24) S.1 S.2.1 dL_aqueduct_174 (by decide) ?_
      refine lv_icmp_ge (tgt := 237) S.1 S.2.1 dL_aqueduct_176 (by decide) (fun c1 => ?_) (fun c1 => ?_)
      · have c1 : 24 ≤ 24 := (nI_leI (a := 24) (b := 24) (by omega) (by omega)).mp c1
        refine lv_aload_n S.1 S.2.1 dL_aqueduct_237 rfl (lv_at hl 2 rfl) ?_
        refine lv_aload_n S.1 S.2.1 dL_aqueduct_238 rfl (lv_at hl 3 rfl) ?_
        refine lv_bipush (v := 10) S.1 S.2.1 dL_aqueduct_239 (by decide) ?_
        refine pl_cell (k := 10) S rfl (by omega) (by omega) hX hbl (va_cwS 2 S.2.2.2.2 gL_aqueduct_L_cell rfl rfl rfl (by decide +kernel) ⟨(Nat.le_of_ble_eq_true rfl), (Nat.le_of_ble_eq_true rfl)⟩) Wd hS hl.1 dL_aqueduct_241 (Nat.le_of_ble_eq_true rfl) ⟨by show _ ≤ 400; omega, by show _ ≤ 2600; omega⟩ (fun x2 H locs Wd hS => ?_)
        refine lv_sipush (v := 501) S.1 S.2.1 dL_aqueduct_244 (by decide) ?_
        refine pl_below (n := 501) S rfl (by omega) (by omega) (va_cwS 2 S.2.2.2.2 gL_aqueduct_L_below rfl rfl rfl (by decide +kernel) ⟨(Nat.le_of_ble_eq_true rfl), (Nat.le_of_ble_eq_true rfl)⟩) Wd hS hl.1 dL_aqueduct_247 (Nat.le_of_ble_eq_true rfl) ⟨by show _ ≤ 400; omega, by show _ ≤ 2600; omega⟩ (fun k3 hk3 H locs Wd hS => ?_)
        have hM := c_X2_setCistern l hlt hD.1 (D := D) (cI := cI) (cQ := cQ) (V := V) (Q := V 0) (nI k3)
        simp only [aq_ug_id, aq_tc_id] at hM
        refine pl_callX (As := [.int (nI k3)]) (rest := []) S E hD hM (pq_cis (by omega)) (cwV 1 S.2.2.2.2 gL_aqueduct_X2_setCistern rfl rfl rfl (by decide +kernel) ⟨(Nat.le_of_ble_eq_true rfl), (Nat.le_of_ble_eq_true rfl)⟩) Wd hS hl.1 dL_aqueduct_250 rfl rfl (Nat.le_of_ble_eq_true rfl) ⟨by show _ ≤ 400; omega, by show _ ≤ 2600; omega⟩ (fun H locs Wd hS => ?_)
        obtain ⟨V4, hV4⟩ : ∃ z9 : aq_V, z9 = aq_ug V 0 (aq_sizeQ (V 0) (nI k3)) := ⟨_, rfl⟩
        rw [← hV4] at Wd
        have hV4s : pw_V n 0 ((0 : Nat) : Int) (V4 2) (V4 0) := by
          rw [hV4, aq_ug_s, aq_ug_n _ _ (show (2 : Nat) ≠ 0 by decide)]
          exact pw_cis (pw_CV hV) (by omega) (by rw [pv_n (by omega)]; omega) (by rw [pv_n (by omega)]; omega)
        refine lv_pop S.1 S.2.1 dL_aqueduct_253 rfl ?_
        exact W.widen (k := cells + 97) (n := slots + 582) (by omega) (by omega) (K V4 H _ ls hV4s Wd hS (lv_sub hl [2, 3] rfl))
      · have c1 : 24 < 24 := Nat.lt_of_not_le (fun z9 => c1 ((nI_leI (a := 24) (b := 24) (by omega) (by omega)).mpr z9))
        exfalso; omega
    | succ k ih =>
      intro t V hk hV H locs Wd hS ls hl
      refine lv_iload S.1 S.2.1 dL_aqueduct_172 (lv_at hl 0 rfl) ?_
      refine lv_bipush (v := 24) S.1 S.2.1 dL_aqueduct_174 (by decide) ?_
      refine lv_icmp_ge (tgt := 237) S.1 S.2.1 dL_aqueduct_176 (by decide) (fun c1 => ?_) (fun c1 => ?_)
      · have c1 : 24 ≤ t := (nI_leI (a := 24) (b := t) (by omega) (by omega)).mp c1
        exfalso; omega
      · have c1 : t < 24 := Nat.lt_of_not_le (fun z9 => c1 ((nI_leI (a := 24) (b := t) (by omega) (by omega)).mpr z9))
        refine lv_aload_n S.1 S.2.1 dL_aqueduct_179 rfl (lv_at hl 2 rfl) ?_
        refine lv_iload S.1 S.2.1 dL_aqueduct_180 (lv_at hl 0 rfl) ?_
        refine lv_aload_n S.1 S.2.1 dL_aqueduct_182 rfl (lv_at hl 3 rfl) ?_
        refine lv_bipush (v := 6) S.1 S.2.1 dL_aqueduct_183 (by decide) ?_
        refine lv_iload S.1 S.2.1 dL_aqueduct_185 (lv_at hl 0 rfl) ?_
        refine lv_iconst (v := 2) S.1 S.2.1 dL_aqueduct_187 (by decide) ?_
        refine lv_irem S.1 S.2.1 dL_aqueduct_188 (by decide) ?_
        refine lv_topi (fun x2 (ex2 : x2 = nI t - nI t / nI 2 * nI 2) => ?_)
        rw [pk_rem (by omega) (by decide) (by decide)] at ex2; subst ex2
        refine lv_iadd S.1 S.2.1 dL_aqueduct_189 ?_
        refine lv_topi (fun x3 (ex3 : x3 = nI 6 + nI (t % 2)) => ?_)
        rw [nI_add] at ex3; subst ex3
        refine pl_cell (k := (6 + (t % 2))) S rfl (by omega) (by omega) hX hbl (va_cwS 2 S.2.2.2.2 gL_aqueduct_L_cell rfl rfl rfl (by decide +kernel) ⟨(Nat.le_of_ble_eq_true rfl), (Nat.le_of_ble_eq_true rfl)⟩) Wd hS hl.1 dL_aqueduct_190 (Nat.le_of_ble_eq_true rfl) ⟨by show _ ≤ 400; omega, by show _ ≤ 2600; omega⟩ (fun x4 H locs Wd hS => ?_)
        refine lv_iload S.1 S.2.1 dL_aqueduct_193 (lv_at hl 0 rfl) ?_
        refine lv_ishr S.1 S.2.1 dL_aqueduct_195 ?_
        refine lv_topi (fun x5 _ => ?_)
        refine lv_bipush (v := 41) S.1 S.2.1 dL_aqueduct_196 (by decide) ?_
        refine pl_below (n := 41) S rfl (by omega) (by omega) (va_cwS 2 S.2.2.2.2 gL_aqueduct_L_below rfl rfl rfl (by decide +kernel) ⟨(Nat.le_of_ble_eq_true rfl), (Nat.le_of_ble_eq_true rfl)⟩) Wd hS hl.1 dL_aqueduct_198 (Nat.le_of_ble_eq_true rfl) ⟨by show _ ≤ 400; omega, by show _ ≤ 2600; omega⟩ (fun k6 hk6 H locs Wd hS => ?_)
        have hM := c_X2_setSpring l hlt hD.1 (D := D) (cI := cI) (cQ := cQ) (V := V) (T := V 2) (nI t) (nI k6)
        simp only [aq_ug_id, aq_tc_id] at hM
        rw [pv_set (show t < 2 ^ 31 by omega)] at hM
        refine pl_callX (As := [.int (nI t), .int (nI k6)]) (rest := []) S E hD hM (pq_set (by omega) (by omega)) (cwV 2 S.2.2.2.2 gL_aqueduct_X2_setSpring rfl rfl rfl (by decide +kernel) ⟨(Nat.le_of_ble_eq_true rfl), (Nat.le_of_ble_eq_true rfl)⟩) Wd hS hl.1 dL_aqueduct_201 rfl rfl (Nat.le_of_ble_eq_true rfl) ⟨by show _ ≤ 400; omega, by show _ ≤ 2600; omega⟩ (fun H locs Wd hS => ?_)
        obtain ⟨V7, hV7⟩ : ∃ z9 : aq_V, z9 = aq_ug V 2 (aq_up (V 2) 0 t (nI k6)) := ⟨_, rfl⟩
        rw [← hV7] at Wd
        have hV7s : pw_C n (V7 2) (V7 0) := by
          rw [hV7, aq_ug_s, aq_ug_n _ _ (show (0 : Nat) ≠ 2 by decide)]
          exact pw_Ct hV (by rw [pv_n (by omega)]; omega) (by rw [pv_n (by omega)]; omega)
        refine lv_pop S.1 S.2.1 dL_aqueduct_204 rfl ?_
        refine lv_aload_n S.1 S.2.1 dL_aqueduct_205 rfl (lv_at hl 2 rfl) ?_
        refine lv_iload S.1 S.2.1 dL_aqueduct_206 (lv_at hl 0 rfl) ?_
        refine lv_aload_n S.1 S.2.1 dL_aqueduct_208 rfl (lv_at hl 3 rfl) ?_
        refine lv_bipush (v := 8) S.1 S.2.1 dL_aqueduct_209 (by decide) ?_
        refine lv_iload S.1 S.2.1 dL_aqueduct_211 (lv_at hl 0 rfl) ?_
        refine lv_iconst (v := 2) S.1 S.2.1 dL_aqueduct_213 (by decide) ?_
        refine lv_irem S.1 S.2.1 dL_aqueduct_214 (by decide) ?_
        refine lv_topi (fun x8 (ex8 : x8 = nI t - nI t / nI 2 * nI 2) => ?_)
        rw [pk_rem (by omega) (by decide) (by decide)] at ex8; subst ex8
        refine lv_iadd S.1 S.2.1 dL_aqueduct_215 ?_
        refine lv_topi (fun x9 (ex9 : x9 = nI 8 + nI (t % 2)) => ?_)
        rw [nI_add] at ex9; subst ex9
        refine pl_cell (k := (8 + (t % 2))) S rfl (by omega) (by omega) hX hbl (va_cwS 2 S.2.2.2.2 gL_aqueduct_L_cell rfl rfl rfl (by decide +kernel) ⟨(Nat.le_of_ble_eq_true rfl), (Nat.le_of_ble_eq_true rfl)⟩) Wd hS hl.1 dL_aqueduct_216 (Nat.le_of_ble_eq_true rfl) ⟨by show _ ≤ 400; omega, by show _ ≤ 2600; omega⟩ (fun x10 H locs Wd hS => ?_)
        refine lv_iload S.1 S.2.1 dL_aqueduct_219 (lv_at hl 0 rfl) ?_
        refine lv_ishr S.1 S.2.1 dL_aqueduct_221 ?_
        refine lv_topi (fun x11 _ => ?_)
        refine lv_bipush (v := 31) S.1 S.2.1 dL_aqueduct_222 (by decide) ?_
        refine pl_below (n := 31) S rfl (by omega) (by omega) (va_cwS 2 S.2.2.2.2 gL_aqueduct_L_below rfl rfl rfl (by decide +kernel) ⟨(Nat.le_of_ble_eq_true rfl), (Nat.le_of_ble_eq_true rfl)⟩) Wd hS hl.1 dL_aqueduct_224 (Nat.le_of_ble_eq_true rfl) ⟨by show _ ≤ 400; omega, by show _ ≤ 2600; omega⟩ (fun k12 hk12 H locs Wd hS => ?_)
        have hM := c_X2_setCity l hlt hD.1 (D := D) (cI := cI) (cQ := cQ) (V := V7) (T := V7 2) (nI t) (nI k12)
        simp only [aq_ug_id, aq_tc_id] at hM
        rw [pv_set (show t < 2 ^ 31 by omega)] at hM
        refine pl_callX (As := [.int (nI t), .int (nI k12)]) (rest := []) S E hD hM (pq_set (by omega) (by omega)) (cwV 2 S.2.2.2.2 gL_aqueduct_X2_setCity rfl rfl rfl (by decide +kernel) ⟨(Nat.le_of_ble_eq_true rfl), (Nat.le_of_ble_eq_true rfl)⟩) Wd hS hl.1 dL_aqueduct_227 rfl rfl (Nat.le_of_ble_eq_true rfl) ⟨by show _ ≤ 400; omega, by show _ ≤ 2600; omega⟩ (fun H locs Wd hS => ?_)
        obtain ⟨V13, hV13⟩ : ∃ z9 : aq_V, z9 = aq_ug V7 2 (aq_up (V7 2) 1 t (nI k12)) := ⟨_, rfl⟩
        rw [← hV13] at Wd
        have hV13s : pw_C n (V13 2) (V13 0) := by
          rw [hV13, aq_ug_s, aq_ug_n _ _ (show (0 : Nat) ≠ 2 by decide)]
          exact pw_Ct hV7s (by rw [pv_n (by omega)]; omega) (by rw [pv_n (by omega)]; omega)
        refine lv_pop S.1 S.2.1 dL_aqueduct_230 rfl ?_
        refine lv_iinc (v := nI (t + 1)) (lv' := [(4, .int (nI (t + 1))), (2, .int (nI n)), (1, .ref (ad 0)), (0, .ref b)]) S.1 S.2.1 dL_aqueduct_231 hl (k := 0) rfl (nI_1 _) (by decide) rfl (fun ls hl => ?_)
        refine lv_goto (tgt := 172) S.1 S.2.1 dL_aqueduct_234 (by decide) ?_
        exact W.widen (k := cells + 4 * (t + 1)) (n := slots + 24 * (t + 1)) (by omega) (by omega) (ih (t + 1) V13 (by omega) hV13s H _ Wd hS ls (lv_sub hl [0, 1, 2, 3] rfl))
  refine lv_iconst (v := 0) S.1 S.2.1 dL_aqueduct_169 (by decide) ?_
  refine lv_istore (lv' := [(4, .int 0), (2, .int (nI n)), (1, .ref (ad 0)), (0, .ref b)]) S.1 S.2.1 dL_aqueduct_170 hl (by decide) rfl (fun ls hl => ?_)
  exact L172 24 0 V (by omega) hC H _ Wd hS ls (lv_sub hl [0, 1, 2, 3] rfl)
/-- the next arch's highest height, while it is built -/
theorem pw_topr {n : Nat} {T Q : aq_Q} (hC : pw_C n T Q) : 0 ≤ (aq_top n Q).toInt ∧ (aq_top n Q).toInt ≤ 200 := by
  unfold aq_top
  split
  · decide
  · have hb := hC.2.2.2.1.1 (n - 1)
    unfold pu_b at hb
    omega
set_option maxHeartbeats 8000000 in
set_option maxRecDepth 100000 in
theorem aqd_1 (l : Launch) (hlt : l.stackTraces = false) {p : Program} {e : Env} {s : State} {m : MethodId} {args : Array Value} {below : List Frame} {meth : Method} {c : Code} {Q : State → Prop} {D : va_G} {cI cQ : ClassId} {ad : Nat → Nat} {b L n : Nat} {xs : Nat → Int32} {cells slots : Nat} (S : CallFix p m c cL_aqueduct 6 s args wsL_aqueduct RL) (E : pl_E s) (hD : pl_D ad s.heap.size) (hX : va_X b L xs s s.heap) (hbl : b < s.heap.size) (hL : L ≤ 260) (hn20 : n ≤ 20) (hc : cells + 220 ≤ 400) (hs : slots + 1320 ≤ 2600) (K : ∀ (V' : aq_V) (H' : Heap) (locs' : List Loc) (ls' : Array Slot), pw_C n (V' 2) (V' 0) → pl_W D cI cQ ad V' s H' → pl_S s H' locs' → lv_has ls' 6 [(2, .int (nI n)), (1, .ref (ad 0)), (0, .ref b)] → W p l e ({ frames := 9, cells := 400, slots := 2600, locals := 157 } : Room) s m args below meth c H' locs' (cells + 11 * n) (slots + 66 * n) Q (F0 m 169 ls' [])) : ∀ (k i : Nat) (V : aq_V) (hgt : Int32), i + k = n → pw_C i (V 2) (V 0) → aq_top i (V 0) = hgt → ∀ (H : Heap) (locs : List Loc), pl_W D cI cQ ad V s H → pl_S s H locs → ∀ ls : Array Slot, lv_has ls 6 [(4, .int (nI i)), (3, .int hgt), (2, .int (nI n)), (1, .ref (ad 0)), (0, .ref b)] → W p l e ({ frames := 9, cells := 400, slots := 2600, locals := 157 } : Room) s m args below meth c H locs (cells + 11 * i) (slots + 66 * i) Q (F0 m 28 ls []) := by
  intro k
  induction k with
  | zero =>
    intro i V hgt hk hV ht H locs Wd hS ls hl
    obtain rfl : n = i := by omega
    refine lv_iload S.1 S.2.1 dL_aqueduct_28 (lv_at hl 0 rfl) ?_
    refine lv_iload_n S.1 S.2.1 dL_aqueduct_30 rfl (lv_at hl 2 rfl) ?_
    refine lv_icmp_ge (tgt := 169) S.1 S.2.1 dL_aqueduct_31 (by decide) (fun c1 => ?_) (fun c1 => ?_)
    · have c1 : n ≤ n := (nI_leI (a := n) (b := n) (by omega) (by omega)).mp c1
      exact K V H _ ls hV Wd hS (lv_sub hl [2, 3, 4] rfl)
    · have c1 : n < n := Nat.lt_of_not_le (fun z9 => c1 ((nI_leI (a := n) (b := n) (by omega) (by omega)).mpr z9))
      exfalso; omega
  | succ k ih =>
    intro i V hgt hk hV ht H locs Wd hS ls hl
    refine lv_iload S.1 S.2.1 dL_aqueduct_28 (lv_at hl 0 rfl) ?_
    refine lv_iload_n S.1 S.2.1 dL_aqueduct_30 rfl (lv_at hl 2 rfl) ?_
    refine lv_icmp_ge (tgt := 169) S.1 S.2.1 dL_aqueduct_31 (by decide) (fun c1 => ?_) (fun c1 => ?_)
    · have c1 : n ≤ i := (nI_leI (a := n) (b := i) (by omega) (by omega)).mp c1
      exfalso; omega
    · have c1 : i < n := Nat.lt_of_not_le (fun z9 => c1 ((nI_leI (a := n) (b := i) (by omega) (by omega)).mpr z9))
      refine lv_aload_n S.1 S.2.1 dL_aqueduct_34 rfl (lv_at hl 4 rfl) ?_
      refine lv_iconst (v := 1) S.1 S.2.1 dL_aqueduct_35 (by decide) ?_
      refine lv_iload S.1 S.2.1 dL_aqueduct_36 (lv_at hl 0 rfl) ?_
      refine lv_iconst (v := 5) S.1 S.2.1 dL_aqueduct_38 (by decide) ?_
      refine lv_irem S.1 S.2.1 dL_aqueduct_39 (by decide) ?_
      refine lv_topi (fun x2 (ex2 : x2 = nI i - nI i / nI 5 * nI 5) => ?_)
      rw [pk_rem (by omega) (by decide) (by decide)] at ex2; subst ex2
      refine lv_iadd S.1 S.2.1 dL_aqueduct_40 ?_
      refine lv_topi (fun x3 (ex3 : x3 = nI 1 + nI (i % 5)) => ?_)
      rw [nI_add] at ex3; subst ex3
      refine pl_cell (k := (1 + (i % 5))) S rfl (by omega) (by omega) hX hbl (va_cwS 2 S.2.2.2.2 gL_aqueduct_L_cell rfl rfl rfl (by decide +kernel) ⟨(Nat.le_of_ble_eq_true rfl), (Nat.le_of_ble_eq_true rfl)⟩) Wd hS hl.1 dL_aqueduct_41 (Nat.le_of_ble_eq_true rfl) ⟨by show _ ≤ 400; omega, by show _ ≤ 2600; omega⟩ (fun x4 H locs Wd hS => ?_)
      refine lv_iload S.1 S.2.1 dL_aqueduct_44 (lv_at hl 0 rfl) ?_
      refine lv_iconst (v := 5) S.1 S.2.1 dL_aqueduct_46 (by decide) ?_
      refine lv_idiv S.1 S.2.1 dL_aqueduct_47 (by decide) ?_
      refine lv_bipush (v := 6) S.1 S.2.1 dL_aqueduct_48 (by decide) ?_
      refine lv_imul S.1 S.2.1 dL_aqueduct_50 ?_
      refine lv_topi (fun x5 _ => ?_)
      refine lv_ishr S.1 S.2.1 dL_aqueduct_51 ?_
      refine lv_topi (fun x6 _ => ?_)
      refine lv_istore (lv' := [(5, .int x6), (4, .int (nI i)), (3, .int hgt), (2, .int (nI n)), (1, .ref (ad 0)), (0, .ref b)]) S.1 S.2.1 dL_aqueduct_52 hl (by decide) rfl (fun ls hl => ?_)
      refine lv_iconst (v := 0) S.1 S.2.1 dL_aqueduct_54 (by decide) ?_
      refine lv_iload_n S.1 S.2.1 dL_aqueduct_55 rfl (lv_at hl 2 rfl) ?_
      refine lv_iload S.1 S.2.1 dL_aqueduct_56 (lv_at hl 0 rfl) ?_
      refine lv_bipush (v := 18) S.1 S.2.1 dL_aqueduct_58 (by decide) ?_
      refine pl_below (n := 18) S rfl (by omega) (by omega) (va_cwS 2 S.2.2.2.2 gL_aqueduct_L_below rfl rfl rfl (by decide +kernel) ⟨(Nat.le_of_ble_eq_true rfl), (Nat.le_of_ble_eq_true rfl)⟩) Wd hS hl.1 dL_aqueduct_60 (Nat.le_of_ble_eq_true rfl) ⟨by show _ ≤ 400; omega, by show _ ≤ 2600; omega⟩ (fun k7 hk7 H locs Wd hS => ?_)
      refine lv_isub S.1 S.2.1 dL_aqueduct_63 ?_
      refine aq_mmax S hl.1 (List.mem_of_getElem? (i := 4) rfl) (List.mem_of_getElem? (i := 5) rfl) (List.mem_of_getElem? (i := 6) rfl) (List.mem_of_getElem? (i := 7) rfl) (by decide) (Nat.le_of_ble_eq_true rfl) (by show _ ≤ 400; omega) (by show _ ≤ 2600; omega) dL_aqueduct_64 ?_
      refine lv_topi (fun h2 (eh2 : h2 = aq_mx 0 (hgt - nI k7)) => ?_)
      have hgb : 0 ≤ hgt.toInt ∧ hgt.toInt ≤ 200 := by rw [← ht]; exact pw_topr hV
      have d1 : (hgt - nI k7).toInt = hgt.toInt - (k7 : Int) := by rw [pu_sub (by rw [pv_n (by omega)]; omega) (by rw [pv_n (by omega)]; omega), pv_n (by omega)]
      have hg0 : 0 ≤ h2.toInt := by rw [eh2, pu_mx, pu_0]; omega
      have hg1 : h2.toInt ≤ hgt.toInt := by rw [eh2, pu_mx, pu_0, d1]; omega
      refine lv_istore_n (lv' := [(3, .int h2), (5, .int x6), (4, .int (nI i)), (2, .int (nI n)), (1, .ref (ad 0)), (0, .ref b)]) S.1 S.2.1 dL_aqueduct_67 rfl hl (by decide) rfl (fun ls hl => ?_)
      refine lv_aload_n S.1 S.2.1 dL_aqueduct_68 rfl (lv_at hl 4 rfl) ?_
      refine lv_iload_n S.1 S.2.1 dL_aqueduct_69 rfl (lv_at hl 0 rfl) ?_
      refine lv_iconst (v := 1) S.1 S.2.1 dL_aqueduct_70 (by decide) ?_
      refine lv_iload S.1 S.2.1 dL_aqueduct_71 (lv_at hl 1 rfl) ?_
      refine lv_iconst (v := 4) S.1 S.2.1 dL_aqueduct_73 (by decide) ?_
      refine lv_ishr S.1 S.2.1 dL_aqueduct_74 ?_
      refine lv_topi (fun x8 _ => ?_)
      refine lv_bipush (v := 40) S.1 S.2.1 dL_aqueduct_75 (by decide) ?_
      refine pl_below (n := 40) S rfl (by omega) (by omega) (va_cwS 2 S.2.2.2.2 gL_aqueduct_L_below rfl rfl rfl (by decide +kernel) ⟨(Nat.le_of_ble_eq_true rfl), (Nat.le_of_ble_eq_true rfl)⟩) Wd hS hl.1 dL_aqueduct_77 (Nat.le_of_ble_eq_true rfl) ⟨by show _ ≤ 400; omega, by show _ ≤ 2600; omega⟩ (fun k9 hk9 H locs Wd hS => ?_)
      refine lv_iadd S.1 S.2.1 dL_aqueduct_80 ?_
      refine lv_topi (fun x10 (ex10 : x10 = nI 1 + nI k9) => ?_)
      rw [nI_add] at ex10; subst ex10
      have hM := c_X2_build l hlt hD.1 (D := D) (cI := cI) (cQ := cQ) (V := V) (Q := V 0) (n := i) hV.2.1 hV.1 h2 (nI (1 + k9))
      simp only [aq_ug_id, aq_tc_id] at hM
      refine pl_callX (As := [.int h2, .int (nI (1 + k9))]) (rest := []) S E hD hM (pq_build hg0 (by rw [ht]; exact hg1) (by rw [pv_n (by omega)]; omega) (by rw [pv_n (by omega)]; omega) (by omega)) (cwV 2 S.2.2.2.2 gL_aqueduct_X2_build rfl rfl rfl (by decide +kernel) ⟨(Nat.le_of_ble_eq_true rfl), (Nat.le_of_ble_eq_true rfl)⟩) Wd hS hl.1 dL_aqueduct_81 rfl rfl (Nat.le_of_ble_eq_true rfl) ⟨by show _ ≤ 400; omega, by show _ ≤ 2600; omega⟩ (fun H locs Wd hS => ?_)
      obtain ⟨V11, hV11⟩ : ∃ z9 : aq_V, z9 = aq_ug V 0 (aq_addQ i (V 0) h2 (nI (1 + k9))) := ⟨_, rfl⟩
      rw [← hV11] at Wd
      have hV11s : pw_C (i + 1) (V11 2) (V11 0) := by
        rw [hV11, aq_ug_s, aq_ug_n _ _ (show (2 : Nat) ≠ 0 by decide)]
        exact pw_Cb hV (by omega) hg0 (by rw [ht]; exact hg1) (by rw [pv_n (by omega)]; omega) (by rw [pv_n (by omega)]; omega)
      have htV11 : aq_top (i + 1) (V11 0) = h2 := by rw [hV11, aq_ug_s]; exact pw_topb
      have h60 : V11 0 6 i = 0 := by rw [hV11, aq_ug_s]; exact ((aq_up_f _ _ (by decide)).trans ((aq_up_f _ _ (by decide)).trans (aq_up_f _ _ (by decide)))).trans (hV.2.2.2.2.2.2.2 _ (Nat.le_refl _))
      refine lv_pop S.1 S.2.1 dL_aqueduct_84 rfl ?_
      refine lv_iload S.1 S.2.1 dL_aqueduct_85 (lv_at hl 1 rfl) ?_
      refine lv_bipush (v := 7) S.1 S.2.1 dL_aqueduct_87 (by decide) ?_
      refine lv_ishr S.1 S.2.1 dL_aqueduct_89 ?_
      refine lv_topi (fun x12 _ => ?_)
      refine lv_iconst (v := 3) S.1 S.2.1 dL_aqueduct_90 (by decide) ?_
      refine pl_below (n := 3) S rfl (by omega) (by omega) (va_cwS 2 S.2.2.2.2 gL_aqueduct_L_below rfl rfl rfl (by decide +kernel) ⟨(Nat.le_of_ble_eq_true rfl), (Nat.le_of_ble_eq_true rfl)⟩) Wd hS hl.1 dL_aqueduct_91 (Nat.le_of_ble_eq_true rfl) ⟨by show _ ≤ 400; omega, by show _ ≤ 2600; omega⟩ (fun k13 hk13 H locs Wd hS => ?_)
      refine lv_if_ne (tgt := 132) S.1 S.2.1 dL_aqueduct_94 (by decide) (fun c14 => ?_) (fun c14 => ?_)
      · have c14 : ¬ k13 = 0 := fun z9 => c14 ((nI_eq (a := k13) (b := 0) (by omega) (by omega)).mpr z9)
        refine lv_iload S.1 S.2.1 dL_aqueduct_132 (lv_at hl 1 rfl) ?_
        refine lv_bipush (v := 8) S.1 S.2.1 dL_aqueduct_134 (by decide) ?_
        refine lv_ishr S.1 S.2.1 dL_aqueduct_136 ?_
        refine lv_topi (fun x15 _ => ?_)
        refine lv_iconst (v := 3) S.1 S.2.1 dL_aqueduct_137 (by decide) ?_
        refine pl_below (n := 3) S rfl (by omega) (by omega) (va_cwS 2 S.2.2.2.2 gL_aqueduct_L_below rfl rfl rfl (by decide +kernel) ⟨(Nat.le_of_ble_eq_true rfl), (Nat.le_of_ble_eq_true rfl)⟩) Wd hS hl.1 dL_aqueduct_138 (Nat.le_of_ble_eq_true rfl) ⟨by show _ ≤ 400; omega, by show _ ≤ 2600; omega⟩ (fun k16 hk16 H locs Wd hS => ?_)
        refine lv_if_ne (tgt := 163) S.1 S.2.1 dL_aqueduct_141 (by decide) (fun c17 => ?_) (fun c17 => ?_)
        · have c17 : ¬ k16 = 0 := fun z9 => c17 ((nI_eq (a := k16) (b := 0) (by omega) (by omega)).mpr z9)
          refine lv_iinc (v := nI (i + 1)) (lv' := [(4, .int (nI (i + 1))), (3, .int h2), (5, .int x6), (2, .int (nI n)), (1, .ref (ad 0)), (0, .ref b)]) S.1 S.2.1 dL_aqueduct_163 hl (k := 2) rfl (nI_1 _) (by decide) rfl (fun ls hl => ?_)
          refine lv_goto (tgt := 28) S.1 S.2.1 dL_aqueduct_166 (by decide) ?_
          exact W.widen (k := cells + 11 * (i + 1)) (n := slots + 66 * (i + 1)) (by omega) (by omega) (ih (i + 1) V11 h2 (by omega) hV11s htV11 H _ Wd hS ls (lv_sub hl [0, 1, 3, 4, 5] rfl))
        · have c17 : k16 = 0 := (nI_eq (a := k16) (b := 0) (by omega) (by omega)).mp c17
          refine lv_aload_n S.1 S.2.1 dL_aqueduct_144 rfl (lv_at hl 4 rfl) ?_
          refine lv_iload S.1 S.2.1 dL_aqueduct_145 (lv_at hl 2 rfl) ?_
          refine lv_iconst (v := 1) S.1 S.2.1 dL_aqueduct_147 (by decide) ?_
          refine lv_iload S.1 S.2.1 dL_aqueduct_148 (lv_at hl 1 rfl) ?_
          refine lv_bipush (v := 6) S.1 S.2.1 dL_aqueduct_150 (by decide) ?_
          refine lv_ishr S.1 S.2.1 dL_aqueduct_152 ?_
          refine lv_topi (fun x18 _ => ?_)
          refine lv_bipush (v := 50) S.1 S.2.1 dL_aqueduct_153 (by decide) ?_
          refine pl_below (n := 50) S rfl (by omega) (by omega) (va_cwS 2 S.2.2.2.2 gL_aqueduct_L_below rfl rfl rfl (by decide +kernel) ⟨(Nat.le_of_ble_eq_true rfl), (Nat.le_of_ble_eq_true rfl)⟩) Wd hS hl.1 dL_aqueduct_155 (Nat.le_of_ble_eq_true rfl) ⟨by show _ ≤ 400; omega, by show _ ≤ 2600; omega⟩ (fun k19 hk19 H locs Wd hS => ?_)
          refine lv_iadd S.1 S.2.1 dL_aqueduct_158 ?_
          refine lv_topi (fun x20 (ex20 : x20 = nI 1 + nI k19) => ?_)
          rw [nI_add] at ex20; subst ex20
          have hM := c_X2_quake l hlt hD.1 (D := D) (cI := cI) (cQ := cQ) (V := V11) (Q := V11 0) (n := i + 1) hV11s.2.1 hV11s.1 (nI i) (nI (1 + k19))
          simp only [aq_ug_id, aq_tc_id, (nI_clamp (by omega) : (nI i).toNatClampNeg = i)] at hM
          refine pl_callX (As := [.int (nI i), .int (nI (1 + k19))]) (rest := []) S E hD hM (pq_quake (by omega) hV11s.1 (by omega) (by omega)) (cwV 2 S.2.2.2.2 gL_aqueduct_X2_quake rfl rfl rfl (by decide +kernel) ⟨(Nat.le_of_ble_eq_true rfl), (Nat.le_of_ble_eq_true rfl)⟩) Wd hS hl.1 dL_aqueduct_159 rfl rfl (Nat.le_of_ble_eq_true rfl) ⟨by show _ ≤ 400; omega, by show _ ≤ 2600; omega⟩ (fun H locs Wd hS => ?_)
          obtain ⟨V21, hV21⟩ : ∃ z9 : aq_V, z9 = aq_ug V11 0 (aq_wearByQ (V11 0) i (nI (1 + k19))) := ⟨_, rfl⟩
          rw [← hV21] at Wd
          have hcu := pw_Cu (f := 3) hV11s (show i < i + 1 by omega) (by decide) (pu_wbI (i := i) (x := nI (1 + k19)) hV11s.2.2.2.1 (by rw [pv_n (by omega)]; omega) (by rw [pv_n (by omega)]; omega))
          have hV21s : pw_C (i + 1) (V21 2) (V21 0) := by
            rw [hV21, aq_ug_s, aq_ug_n _ _ (show (2 : Nat) ≠ 0 by decide)]
            exact hcu.1
          have htV21 : aq_top (i + 1) (V21 0) = h2 := by rw [hV21, aq_ug_s]; exact hcu.2.trans htV11
          refine lv_pop S.1 S.2.1 dL_aqueduct_162 rfl ?_
          refine lv_iinc (v := nI (i + 1)) (lv' := [(4, .int (nI (i + 1))), (3, .int h2), (5, .int x6), (2, .int (nI n)), (1, .ref (ad 0)), (0, .ref b)]) S.1 S.2.1 dL_aqueduct_163 hl (k := 2) rfl (nI_1 _) (by decide) rfl (fun ls hl => ?_)
          refine lv_goto (tgt := 28) S.1 S.2.1 dL_aqueduct_166 (by decide) ?_
          exact W.widen (k := cells + 11 * (i + 1)) (n := slots + 66 * (i + 1)) (by omega) (by omega) (ih (i + 1) V21 h2 (by omega) hV21s htV21 H _ Wd hS ls (lv_sub hl [0, 1, 3, 4, 5] rfl))
      · have c14 : k13 = 0 := (nI_eq (a := k13) (b := 0) (by omega) (by omega)).mp c14
        refine lv_aload_n S.1 S.2.1 dL_aqueduct_97 rfl (lv_at hl 4 rfl) ?_
        refine lv_iload S.1 S.2.1 dL_aqueduct_98 (lv_at hl 2 rfl) ?_
        refine lv_iconst (v := 1) S.1 S.2.1 dL_aqueduct_100 (by decide) ?_
        refine lv_iload S.1 S.2.1 dL_aqueduct_101 (lv_at hl 1 rfl) ?_
        refine lv_iconst (v := 5) S.1 S.2.1 dL_aqueduct_103 (by decide) ?_
        refine lv_ishr S.1 S.2.1 dL_aqueduct_104 ?_
        refine lv_topi (fun x22 _ => ?_)
        refine lv_bipush (v := 30) S.1 S.2.1 dL_aqueduct_105 (by decide) ?_
        refine pl_below (n := 30) S rfl (by omega) (by omega) (va_cwS 2 S.2.2.2.2 gL_aqueduct_L_below rfl rfl rfl (by decide +kernel) ⟨(Nat.le_of_ble_eq_true rfl), (Nat.le_of_ble_eq_true rfl)⟩) Wd hS hl.1 dL_aqueduct_107 (Nat.le_of_ble_eq_true rfl) ⟨by show _ ≤ 400; omega, by show _ ≤ 2600; omega⟩ (fun k23 hk23 H locs Wd hS => ?_)
        refine lv_iadd S.1 S.2.1 dL_aqueduct_110 ?_
        refine lv_topi (fun x24 (ex24 : x24 = nI 1 + nI k23) => ?_)
        rw [nI_add] at ex24; subst ex24
        have hM := c_X2_addMill l hlt hD.1 (D := D) (cI := cI) (cQ := cQ) (V := V11) (Q := V11 0) (n := i + 1) hV11s.2.1 hV11s.1 (nI i) (nI (1 + k23))
        simp only [aq_ug_id, aq_tc_id] at hM
        rw [pv_add (show i < 2 ^ 31 by omega)] at hM
        refine pl_callX (As := [.int (nI i), .int (nI (1 + k23))]) (rest := []) S E hD hM (pq_add (by omega) hV11s.1 (by omega) (by omega) h60) (cwV 2 S.2.2.2.2 gL_aqueduct_X2_addMill rfl rfl rfl (by decide +kernel) ⟨(Nat.le_of_ble_eq_true rfl), (Nat.le_of_ble_eq_true rfl)⟩) Wd hS hl.1 dL_aqueduct_111 rfl rfl (Nat.le_of_ble_eq_true rfl) ⟨by show _ ≤ 400; omega, by show _ ≤ 2600; omega⟩ (fun H locs Wd hS => ?_)
        obtain ⟨V25, hV25⟩ : ∃ z9 : aq_V, z9 = aq_ug V11 0 (aq_up (V11 0) 6 i (nI (1 + k23))) := ⟨_, rfl⟩
        rw [← hV25] at Wd
        have hcu := pw_Cu (f := 6) hV11s (show i < i + 1 by omega) (by decide) (pu_I6 (j := i) (v := nI (1 + k23)) hV11s.2.2.2.1 (by rw [pv_n (by omega)]; omega) (by rw [pv_n (by omega)]; omega))
        have hV25s : pw_C (i + 1) (V25 2) (V25 0) := by
          rw [hV25, aq_ug_s, aq_ug_n _ _ (show (2 : Nat) ≠ 0 by decide)]
          exact hcu.1
        have htV25 : aq_top (i + 1) (V25 0) = h2 := by rw [hV25, aq_ug_s]; exact hcu.2.trans htV11
        have h66 : 0 < (V25 0 6 i).toInt := by rw [hV25, aq_ug_s, aq_up_s, pv_n (by omega)]; omega
        refine lv_pop S.1 S.2.1 dL_aqueduct_114 rfl ?_
        refine lv_aload_n S.1 S.2.1 dL_aqueduct_115 rfl (lv_at hl 4 rfl) ?_
        refine lv_iload S.1 S.2.1 dL_aqueduct_116 (lv_at hl 2 rfl) ?_
        refine lv_iload S.1 S.2.1 dL_aqueduct_118 (lv_at hl 1 rfl) ?_
        refine lv_bipush (v := 9) S.1 S.2.1 dL_aqueduct_120 (by decide) ?_
        refine lv_ishr S.1 S.2.1 dL_aqueduct_122 ?_
        refine lv_topi (fun x26 _ => ?_)
        refine lv_bipush (v := 11) S.1 S.2.1 dL_aqueduct_123 (by decide) ?_
        refine pl_below (n := 11) S rfl (by omega) (by omega) (va_cwS 2 S.2.2.2.2 gL_aqueduct_L_below rfl rfl rfl (by decide +kernel) ⟨(Nat.le_of_ble_eq_true rfl), (Nat.le_of_ble_eq_true rfl)⟩) Wd hS hl.1 dL_aqueduct_125 (Nat.le_of_ble_eq_true rfl) ⟨by show _ ≤ 400; omega, by show _ ≤ 2600; omega⟩ (fun k27 hk27 H locs Wd hS => ?_)
        have hM := c_X2_setSluice l hlt hD.1 (D := D) (cI := cI) (cQ := cQ) (V := V25) (Q := V25 0) (n := i + 1) hV25s.2.1 hV25s.1 (nI i) (nI k27)
        simp only [aq_ug_id, aq_tc_id] at hM
        rw [pv_slu (show i < 2 ^ 31 by omega)] at hM
        refine pl_callX (As := [.int (nI i), .int (nI k27)]) (rest := []) S E hD hM (pq_slu (by omega) hV25s.1 (by omega) h66) (cwV 2 S.2.2.2.2 gL_aqueduct_X2_setSluice rfl rfl rfl (by decide +kernel) ⟨(Nat.le_of_ble_eq_true rfl), (Nat.le_of_ble_eq_true rfl)⟩) Wd hS hl.1 dL_aqueduct_128 rfl rfl (Nat.le_of_ble_eq_true rfl) ⟨by show _ ≤ 400; omega, by show _ ≤ 2600; omega⟩ (fun H locs Wd hS => ?_)
        obtain ⟨V28, hV28⟩ : ∃ z9 : aq_V, z9 = aq_ug V25 0 (aq_up (V25 0) 7 i (nI k27)) := ⟨_, rfl⟩
        rw [← hV28] at Wd
        have hcu := pw_Cu (f := 7) hV25s (show i < i + 1 by omega) (by decide) (pu_I7 (j := i) (v := nI k27) hV25s.2.2.2.1 (by rw [pv_n (by omega)]; omega) (by rw [pv_n (by omega)]; omega) (Or.inr h66))
        have hV28s : pw_C (i + 1) (V28 2) (V28 0) := by
          rw [hV28, aq_ug_s, aq_ug_n _ _ (show (2 : Nat) ≠ 0 by decide)]
          exact hcu.1
        have htV28 : aq_top (i + 1) (V28 0) = h2 := by rw [hV28, aq_ug_s]; exact hcu.2.trans htV25
        refine lv_pop S.1 S.2.1 dL_aqueduct_131 rfl ?_
        refine lv_iload S.1 S.2.1 dL_aqueduct_132 (lv_at hl 1 rfl) ?_
        refine lv_bipush (v := 8) S.1 S.2.1 dL_aqueduct_134 (by decide) ?_
        refine lv_ishr S.1 S.2.1 dL_aqueduct_136 ?_
        refine lv_topi (fun x29 _ => ?_)
        refine lv_iconst (v := 3) S.1 S.2.1 dL_aqueduct_137 (by decide) ?_
        refine pl_below (n := 3) S rfl (by omega) (by omega) (va_cwS 2 S.2.2.2.2 gL_aqueduct_L_below rfl rfl rfl (by decide +kernel) ⟨(Nat.le_of_ble_eq_true rfl), (Nat.le_of_ble_eq_true rfl)⟩) Wd hS hl.1 dL_aqueduct_138 (Nat.le_of_ble_eq_true rfl) ⟨by show _ ≤ 400; omega, by show _ ≤ 2600; omega⟩ (fun k30 hk30 H locs Wd hS => ?_)
        refine lv_if_ne (tgt := 163) S.1 S.2.1 dL_aqueduct_141 (by decide) (fun c31 => ?_) (fun c31 => ?_)
        · have c31 : ¬ k30 = 0 := fun z9 => c31 ((nI_eq (a := k30) (b := 0) (by omega) (by omega)).mpr z9)
          refine lv_iinc (v := nI (i + 1)) (lv' := [(4, .int (nI (i + 1))), (3, .int h2), (5, .int x6), (2, .int (nI n)), (1, .ref (ad 0)), (0, .ref b)]) S.1 S.2.1 dL_aqueduct_163 hl (k := 2) rfl (nI_1 _) (by decide) rfl (fun ls hl => ?_)
          refine lv_goto (tgt := 28) S.1 S.2.1 dL_aqueduct_166 (by decide) ?_
          exact W.widen (k := cells + 11 * (i + 1)) (n := slots + 66 * (i + 1)) (by omega) (by omega) (ih (i + 1) V28 h2 (by omega) hV28s htV28 H _ Wd hS ls (lv_sub hl [0, 1, 3, 4, 5] rfl))
        · have c31 : k30 = 0 := (nI_eq (a := k30) (b := 0) (by omega) (by omega)).mp c31
          refine lv_aload_n S.1 S.2.1 dL_aqueduct_144 rfl (lv_at hl 4 rfl) ?_
          refine lv_iload S.1 S.2.1 dL_aqueduct_145 (lv_at hl 2 rfl) ?_
          refine lv_iconst (v := 1) S.1 S.2.1 dL_aqueduct_147 (by decide) ?_
          refine lv_iload S.1 S.2.1 dL_aqueduct_148 (lv_at hl 1 rfl) ?_
          refine lv_bipush (v := 6) S.1 S.2.1 dL_aqueduct_150 (by decide) ?_
          refine lv_ishr S.1 S.2.1 dL_aqueduct_152 ?_
          refine lv_topi (fun x32 _ => ?_)
          refine lv_bipush (v := 50) S.1 S.2.1 dL_aqueduct_153 (by decide) ?_
          refine pl_below (n := 50) S rfl (by omega) (by omega) (va_cwS 2 S.2.2.2.2 gL_aqueduct_L_below rfl rfl rfl (by decide +kernel) ⟨(Nat.le_of_ble_eq_true rfl), (Nat.le_of_ble_eq_true rfl)⟩) Wd hS hl.1 dL_aqueduct_155 (Nat.le_of_ble_eq_true rfl) ⟨by show _ ≤ 400; omega, by show _ ≤ 2600; omega⟩ (fun k33 hk33 H locs Wd hS => ?_)
          refine lv_iadd S.1 S.2.1 dL_aqueduct_158 ?_
          refine lv_topi (fun x34 (ex34 : x34 = nI 1 + nI k33) => ?_)
          rw [nI_add] at ex34; subst ex34
          have hM := c_X2_quake l hlt hD.1 (D := D) (cI := cI) (cQ := cQ) (V := V28) (Q := V28 0) (n := i + 1) hV28s.2.1 hV28s.1 (nI i) (nI (1 + k33))
          simp only [aq_ug_id, aq_tc_id, (nI_clamp (by omega) : (nI i).toNatClampNeg = i)] at hM
          refine pl_callX (As := [.int (nI i), .int (nI (1 + k33))]) (rest := []) S E hD hM (pq_quake (by omega) hV28s.1 (by omega) (by omega)) (cwV 2 S.2.2.2.2 gL_aqueduct_X2_quake rfl rfl rfl (by decide +kernel) ⟨(Nat.le_of_ble_eq_true rfl), (Nat.le_of_ble_eq_true rfl)⟩) Wd hS hl.1 dL_aqueduct_159 rfl rfl (Nat.le_of_ble_eq_true rfl) ⟨by show _ ≤ 400; omega, by show _ ≤ 2600; omega⟩ (fun H locs Wd hS => ?_)
          obtain ⟨V35, hV35⟩ : ∃ z9 : aq_V, z9 = aq_ug V28 0 (aq_wearByQ (V28 0) i (nI (1 + k33))) := ⟨_, rfl⟩
          rw [← hV35] at Wd
          have hcu := pw_Cu (f := 3) hV28s (show i < i + 1 by omega) (by decide) (pu_wbI (i := i) (x := nI (1 + k33)) hV28s.2.2.2.1 (by rw [pv_n (by omega)]; omega) (by rw [pv_n (by omega)]; omega))
          have hV35s : pw_C (i + 1) (V35 2) (V35 0) := by
            rw [hV35, aq_ug_s, aq_ug_n _ _ (show (2 : Nat) ≠ 0 by decide)]
            exact hcu.1
          have htV35 : aq_top (i + 1) (V35 0) = h2 := by rw [hV35, aq_ug_s]; exact hcu.2.trans htV28
          refine lv_pop S.1 S.2.1 dL_aqueduct_162 rfl ?_
          refine lv_iinc (v := nI (i + 1)) (lv' := [(4, .int (nI (i + 1))), (3, .int h2), (5, .int x6), (2, .int (nI n)), (1, .ref (ad 0)), (0, .ref b)]) S.1 S.2.1 dL_aqueduct_163 hl (k := 2) rfl (nI_1 _) (by decide) rfl (fun ls hl => ?_)
          refine lv_goto (tgt := 28) S.1 S.2.1 dL_aqueduct_166 (by decide) ?_
          exact W.widen (k := cells + 11 * (i + 1)) (n := slots + 66 * (i + 1)) (by omega) (by omega) (ih (i + 1) V35 h2 (by omega) hV35s htV35 H _ Wd hS ls (lv_sub hl [0, 1, 3, 4, 5] rfl))
