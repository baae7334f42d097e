/-! the twin's worst arch -/
def aR_worR (Q : aq_Q) : Nat → Nat → Int32 → Int32
  | 0, _, w => w
  | k + 1, i, w => if Q 5 i ≤ 0 then aR_worR Q k (i + 1) w else if w = (-1) then aR_worR Q k (i + 1) (nI i) else if Q 5 i ≤ Q 5 w.toNatClampNeg then aR_worR Q k (i + 1) w else aR_worR Q k (i + 1) (nI i)
theorem in_X4_worst_X3 : ∀ w ∈ wsX30, w ∈ wsX4_worst := fun _ h => List.mem_cons_of_mem _ (List.mem_append_right _ h)
theorem in_X4_worst_X4 : ∀ w ∈ wsX40, w ∈ wsX4_worst := fun _ h => List.mem_cons_of_mem _ (List.mem_append_left _ (List.mem_append_right _ h))
set_option maxHeartbeats 4000000 in
set_option maxRecDepth 100000 in
/-- X4_worst -/
theorem c_X4_worst (l : Launch) {D : va_G} {ad : Nat → Nat} {cI : ClassId} {th : Int32} (hJ : aq_J 22 ad) {V : aq_V} {Q : aq_Q} (hst : aR_st (V 3) Q) {n : Nat} (hn : V 3 10 3 = nI n) (hn20 : n ≤ 20)  : ar_Met l yX4_worst wsX4_worst ({ frames := 0, cells := 0, slots := 0, locals := 0 }) D (aR_t cI) 22 ad [.ref (ad 0)] (aR_w ad cI th (aq_ug V 0 Q)) (aq_Qi D (aR_t cI) 22 ad (aR_worR Q n 0 (-1)) (aR_w ad cI 0 (aq_ug V 0 Q))) 0 0 := by
  refine ar_enter (cc := cX4_worst) (maxL := 3) (ret := some .int) (by decide) rfl (Nat.le_of_ble_eq_true rfl) ?_
  intro p e s m below meth c ls S hr hlocks hE I hl
  have S : CallFix p m c cX4_worst 3 s _ wsX4_worst RX4 := S
  have hl : lv_has ls 3 [(0, .ref (ad 0))] := hl
  have L9 : ∀ (k : Nat) (i : Nat) (w : Int32), (i + k = n) → (w = -1 ∨ ∃ b0, b0 < n ∧ w = nI b0) → (aR_worR Q k i w = aR_worR Q n 0 (-1)) → ∀ (H : Heap) (locs : List Loc), aq_I D (aR_t cI) (aq_A 22 ad) (aR_w ad cI 0 (aq_ug V 0 Q)) s H locs → ∀ ls : Array Slot, lv_has ls 3 [(2, .int (nI i)), (1, .int w), (0, .ref (ad 0))] → W p l e ({ frames := 0, cells := 0, slots := 0, locals := 0 } : Room) s m (([.ref (ad 0)] : List Value).toArray) below meth c H locs 0 0 (MQ below ((aq_Qi D (aR_t cI) 22 ad (aR_worR Q n 0 (-1)) (aR_w ad cI 0 (aq_ug V 0 Q))) s.heap.size) (([.ref (ad 0)] : List Value).toArray) s 0 0 (aq_A 22 ad s.heap.size)) (F0 m 9 ls []) := by
    intro k
    induction k with
    | zero =>
      intro i w hk hw hq H locs I ls hl
      refine lv_iload_n S.1 S.2.1 dX4_worst_9 rfl (lv_at hl 0 rfl) ?_
      refine lv_aload_n S.1 S.2.1 dX4_worst_10 rfl (lv_at hl 2 rfl) ?_
      refine aR_getM (v := .int (nI n)) S I 3 (by decide) in_X4_worst_X4 (List.mem_of_getElem? (i := 2) rfl) (by first | (rw [aq_ug_n _ _ (by first | decide | omega), hn]; done) | (rw [aq_ug_n _ _ (by first | decide | omega), hn]; rfl)) dX4_worst_11 ?_
      refine lv_icmp_ge (tgt := 63) S.1 S.2.1 dX4_worst_14 (by decide) (fun c1 => ?_) (fun c1 => ?_)
      · have c1 : n ≤ i := (nI_leI (a := n) (b := i) (by omega) (by omega)).mp c1
        refine lv_iload_n S.1 S.2.1 dX4_worst_63 rfl (lv_at hl 1 rfl) ?_
        exact aq_iret S.1 S.2.1 hr hlocks I dX4_worst_64 (by decide) (by decide) hq rfl
      · have c1 : i < n := Nat.lt_of_not_le (fun z9 => c1 ((nI_leI (a := n) (b := i) (by omega) (by omega)).mpr z9))
        exfalso; omega
    | succ k ih =>
      intro i w hk hw hq H locs I ls hl
      refine lv_iload_n S.1 S.2.1 dX4_worst_9 rfl (lv_at hl 0 rfl) ?_
      refine lv_aload_n S.1 S.2.1 dX4_worst_10 rfl (lv_at hl 2 rfl) ?_
      refine aR_getM (v := .int (nI n)) S I 3 (by decide) in_X4_worst_X4 (List.mem_of_getElem? (i := 2) rfl) (by first | (rw [aq_ug_n _ _ (by first | decide | omega), hn]; done) | (rw [aq_ug_n _ _ (by first | decide | omega), hn]; rfl)) dX4_worst_11 ?_
      refine lv_icmp_ge (tgt := 63) S.1 S.2.1 dX4_worst_14 (by decide) (fun c2 => ?_) (fun c2 => ?_)
      · have c2 : n ≤ i := (nI_leI (a := n) (b := i) (by omega) (by omega)).mp c2
        exfalso; omega
      · have c2 : i < n := Nat.lt_of_not_le (fun z9 => c2 ((nI_leI (a := n) (b := i) (by omega) (by omega)).mpr z9))
        refine lv_aload_n S.1 S.2.1 dX4_worst_17 rfl (lv_at hl 2 rfl) ?_
        refine aR_getM (v := .ref (ad 6)) S I 7 (by decide) in_X4_worst_X4 (List.mem_of_getElem? (i := 3) rfl) rfl dX4_worst_18 ?_
        refine aR_getSN (j := 0) (v := .ref (ad (11 + 7 * 0))) S I (by decide) 7 (by decide) in_X4_worst_X3 (hE.1 _ (List.mem_of_getElem? (i := 15) rfl)) rfl dX4_worst_21 ?_
        refine lv_iload_n S.1 S.2.1 dX4_worst_24 rfl (lv_at hl 0 rfl) ?_
        refine aR_ald (j := 0) (a := 3) (f := 5) (k := i) (x := Q 5 i) S I (by decide) (by decide) rfl rfl (by omega) (by rw [aq_ug_s]) dX4_worst_25 ?_
        refine lv_if_le (tgt := 57) S.1 S.2.1 dX4_worst_26 (by decide) (fun c3 => ?_) (fun c3 => ?_)
        · refine lv_iinc (v := nI (i + 1)) (lv' := [(2, .int (nI (i + 1))), (1, .int w), (0, .ref (ad 0))]) S.1 S.2.1 dX4_worst_57 hl (k := 0) rfl (nI_1 _) (by decide) rfl (fun ls hl => ?_)
          refine lv_goto (tgt := 9) S.1 S.2.1 dX4_worst_60 (by decide) ?_
          exact ih (i + 1) w (by omega) hw (by rw [aR_worR, if_pos c3] at hq; exact hq) _ _ I ls (lv_sub hl [0, 1, 2] rfl)
        · refine lv_iload_n S.1 S.2.1 dX4_worst_29 rfl (lv_at hl 1 rfl) ?_
          refine lv_iconst (v := (-1)) S.1 S.2.1 dX4_worst_30 (by decide) ?_
          refine lv_icmp_eq (tgt := 55) S.1 S.2.1 dX4_worst_31 (by decide) (fun c4 => ?_) (fun c4 => ?_)
          · refine lv_iload_n S.1 S.2.1 dX4_worst_55 rfl (lv_at hl 0 rfl) ?_
            refine lv_istore_n (lv' := [(1, .int (nI i)), (2, .int (nI i)), (0, .ref (ad 0))]) S.1 S.2.1 dX4_worst_56 rfl hl (by decide) rfl (fun ls hl => ?_)
            refine lv_iinc (v := nI (i + 1)) (lv' := [(2, .int (nI (i + 1))), (1, .int (nI i)), (0, .ref (ad 0))]) S.1 S.2.1 dX4_worst_57 hl (k := 1) rfl (nI_1 _) (by decide) rfl (fun ls hl => ?_)
            refine lv_goto (tgt := 9) S.1 S.2.1 dX4_worst_60 (by decide) ?_
            exact ih (i + 1) (nI i) (by omega) (Or.inr ⟨i, by omega, rfl⟩) (by rw [aR_worR, if_neg c3, if_pos c4] at hq; exact hq) _ _ I ls (lv_sub hl [0, 1, 2] rfl)
          · obtain ⟨b0, hb0, eb0⟩ := hw.resolve_left c4
            subst eb0
            have nb0 : (nI b0).toNatClampNeg = b0 := nI_clamp (by omega)
            refine lv_aload_n S.1 S.2.1 dX4_worst_34 rfl (lv_at hl 2 rfl) ?_
            refine aR_getM (v := .ref (ad 6)) S I 7 (by decide) in_X4_worst_X4 (List.mem_of_getElem? (i := 3) rfl) rfl dX4_worst_35 ?_
            refine aR_getSN (j := 0) (v := .ref (ad (11 + 7 * 0))) S I (by decide) 7 (by decide) in_X4_worst_X3 (hE.1 _ (List.mem_of_getElem? (i := 15) rfl)) rfl dX4_worst_38 ?_
            refine lv_iload_n S.1 S.2.1 dX4_worst_41 rfl (lv_at hl 0 rfl) ?_
            refine aR_ald (j := 0) (a := 3) (f := 5) (k := i) (x := Q 5 i) S I (by decide) (by decide) rfl rfl (by omega) (by rw [aq_ug_s]) dX4_worst_42 ?_
            refine lv_aload_n S.1 S.2.1 dX4_worst_43 rfl (lv_at hl 2 rfl) ?_
            refine aR_getM (v := .ref (ad 6)) S I 7 (by decide) in_X4_worst_X4 (List.mem_of_getElem? (i := 3) rfl) rfl dX4_worst_44 ?_
            refine aR_getSN (j := 0) (v := .ref (ad (11 + 7 * 0))) S I (by decide) 7 (by decide) in_X4_worst_X3 (hE.1 _ (List.mem_of_getElem? (i := 15) rfl)) rfl dX4_worst_47 ?_
            refine lv_iload_n S.1 S.2.1 dX4_worst_50 rfl (lv_at hl 1 rfl) ?_
            refine aR_ald (j := 0) (a := 3) (f := 5) (k := b0) (x := Q 5 b0) S I (by decide) (by decide) rfl rfl (by omega) (by rw [aq_ug_s]) dX4_worst_51 ?_
            refine lv_icmp_le (tgt := 57) S.1 S.2.1 dX4_worst_52 (by decide) (fun c5 => ?_) (fun c5 => ?_)
            · refine lv_iinc (v := nI (i + 1)) (lv' := [(2, .int (nI (i + 1))), (1, .int (nI b0)), (0, .ref (ad 0))]) S.1 S.2.1 dX4_worst_57 hl (k := 0) rfl (nI_1 _) (by decide) rfl (fun ls hl => ?_)
              refine lv_goto (tgt := 9) S.1 S.2.1 dX4_worst_60 (by decide) ?_
              exact ih (i + 1) (nI b0) (by omega) (Or.inr ⟨b0, by omega, rfl⟩) (by rw [aR_worR, if_neg c3, if_neg c4, nb0, if_pos c5] at hq; exact hq) _ _ I ls (lv_sub hl [0, 1, 2] rfl)
            · refine lv_iload_n S.1 S.2.1 dX4_worst_55 rfl (lv_at hl 0 rfl) ?_
              refine lv_istore_n (lv' := [(1, .int (nI i)), (2, .int (nI i)), (0, .ref (ad 0))]) S.1 S.2.1 dX4_worst_56 rfl hl (by decide) rfl (fun ls hl => ?_)
              refine lv_iinc (v := nI (i + 1)) (lv' := [(2, .int (nI (i + 1))), (1, .int (nI i)), (0, .ref (ad 0))]) S.1 S.2.1 dX4_worst_57 hl (k := 1) rfl (nI_1 _) (by decide) rfl (fun ls hl => ?_)
              refine lv_goto (tgt := 9) S.1 S.2.1 dX4_worst_60 (by decide) ?_
              exact ih (i + 1) (nI i) (by omega) (Or.inr ⟨i, by omega, rfl⟩) (by rw [aR_worR, if_neg c3, if_neg c4, nb0, if_neg c5] at hq; exact hq) _ _ I ls (lv_sub hl [0, 1, 2] rfl)
  refine lv_aload_n S.1 S.2.1 dX4_worst_0 rfl (lv_at hl 0 rfl) ?_
  refine lv_iconst (v := 0) S.1 S.2.1 dX4_worst_1 (by decide) ?_
  refine aR_putTh (x := 0) hJ S I in_X4_worst_X4 (List.mem_of_getElem? (i := 1) rfl) dX4_worst_2 (fun H locs I => ?_)
  refine lv_iconst (v := (-1)) S.1 S.2.1 dX4_worst_5 (by decide) ?_
  refine lv_istore_n (lv' := [(1, .int ((-1))), (0, .ref (ad 0))]) S.1 S.2.1 dX4_worst_6 rfl hl (by decide) rfl (fun ls hl => ?_)
  refine lv_iconst (v := 0) S.1 S.2.1 dX4_worst_7 (by decide) ?_
  refine lv_istore_n (lv' := [(2, .int 0), (1, .int ((-1))), (0, .ref (ad 0))]) S.1 S.2.1 dX4_worst_8 rfl hl (by decide) rfl (fun ls hl => ?_)
  exact L9 n 0 (-1) (by omega) (Or.inl rfl) rfl _ _ I ls (lv_sub hl [0, 1, 2] rfl)
