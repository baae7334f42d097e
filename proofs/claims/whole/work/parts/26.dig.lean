theorem in_X4_digest_X4 : ∀ w ∈ wsX40, w ∈ wsX4_digest := fun _ h => List.mem_cons_of_mem _ (List.mem_append_left _ (List.mem_append_right _ h))
set_option maxHeartbeats 4000000 in
set_option maxRecDepth 100000 in
/-- X4_digest -/
theorem c_X4_digest (l : Launch) {D : va_G} {ad : Nat → Nat} {cI : ClassId} {th : Int32} (hJ : aq_J 22 ad) {V : aq_V} {Q : aq_Q} (hst : aR_st (V 3) Q) {n : Nat} (hn : V 3 10 3 = nI n) (hn20 : n ≤ 20)  : ar_Met l yX4_digest wsX4_digest ({ frames := 3, cells := 192, slots := 1764, locals := 65 }) D (aR_t cI) 22 ad [.ref (ad 0)] (aR_w ad cI th (aq_ug V 0 Q)) (aq_Ql D (aR_t cI) 22 ad (aR_digest n (V 2) Q) (aR_w ad cI 0 (aq_ug V 0 Q))) 192 1764 := by
  refine ar_enter (cc := cX4_digest) (maxL := 5) (ret := some .long) (by decide) rfl (Nat.le_of_ble_eq_true rfl) ?_
  intro p e s m below meth c ls S hr hlocks hE I hl
  have S : CallFix p m c cX4_digest 5 s _ wsX4_digest RX4 := S
  have hl : lv_has ls 5 [(0, .ref (ad 0))] := hl
  have L78 : ∀ (k : Nat) (i : Nat) (d : Int64), (i + k = n) → (aR_dgAll n Q k i d = aR_digest n (V 2) Q) → ∀ (H : Heap) (locs : List Loc), aq_I D (aR_t cI) (aq_A 22 ad) (aR_w ad cI 0 (aq_ug V 0 Q)) s H locs → ∀ ls : Array Slot, lv_has ls 5 [(3, .int (nI i)), (1, .long d), (0, .ref (ad 0))] → W p l e ({ frames := 3, cells := 192, slots := 1764, locals := 65 } : Room) s m (([.ref (ad 0)] : List Value).toArray) below meth c H locs (12 + 9 * i) (144 + 81 * i) (MQ below ((aq_Ql D (aR_t cI) 22 ad (aR_digest n (V 2) Q) (aR_w ad cI 0 (aq_ug V 0 Q))) s.heap.size) (([.ref (ad 0)] : List Value).toArray) s 192 1764 (aq_A 22 ad s.heap.size)) (F0 m 78 ls []) := by
    intro k
    induction k with
    | zero =>
      intro i d hk hq H locs I ls hl
      refine lv_iload_n S.1 S.2.1 dX4_digest_78 rfl (lv_at hl 0 rfl) ?_
      refine lv_aload_n S.1 S.2.1 dX4_digest_79 rfl (lv_at hl 2 rfl) ?_
      refine aR_getM (v := .int (nI n)) S I 3 (by decide) in_X4_digest_X4 (List.mem_of_getElem? (i := 6) rfl) (by first | (rw [aq_ug_n _ _ (by first | decide | omega), hn]; done) | (rw [aq_ug_n _ _ (by first | decide | omega), hn]; rfl)) dX4_digest_80 ?_
      refine lv_icmp_ge (tgt := 153) S.1 S.2.1 dX4_digest_83 (by decide) (fun c1 => ?_) (fun c1 => ?_)
      · have c1 : n ≤ i := (nI_leI (a := n) (b := i) (by omega) (by omega)).mp c1
        refine lv_lload_n S.1 S.2.1 dX4_digest_153 rfl (lv_at hl 1 rfl) ?_
        exact aq_lret S.1 S.2.1 hr hlocks I dX4_digest_154 (by first | decide | omega) (by first | decide | omega) hq rfl
      · have c1 : i < n := Nat.lt_of_not_le (fun z9 => c1 ((nI_leI (a := n) (b := i) (by omega) (by omega)).mpr z9))
        exfalso; omega
    | succ k ih =>
      intro i d hk hq H locs I ls hl
      refine lv_iload_n S.1 S.2.1 dX4_digest_78 rfl (lv_at hl 0 rfl) ?_
      refine lv_aload_n S.1 S.2.1 dX4_digest_79 rfl (lv_at hl 2 rfl) ?_
      refine aR_getM (v := .int (nI n)) S I 3 (by decide) in_X4_digest_X4 (List.mem_of_getElem? (i := 6) rfl) (by first | (rw [aq_ug_n _ _ (by first | decide | omega), hn]; done) | (rw [aq_ug_n _ _ (by first | decide | omega), hn]; rfl)) dX4_digest_80 ?_
      refine lv_icmp_ge (tgt := 153) S.1 S.2.1 dX4_digest_83 (by decide) (fun c2 => ?_) (fun c2 => ?_)
      · have c2 : n ≤ i := (nI_leI (a := n) (b := i) (by omega) (by omega)).mp c2
        exfalso; omega
      · have c2 : i < n := Nat.lt_of_not_le (fun z9 => c2 ((nI_leI (a := n) (b := i) (by omega) (by omega)).mpr z9))
        refine lv_iconst (v := 0) S.1 S.2.1 dX4_digest_86 (by decide) ?_
        refine lv_istore (lv' := [(4, .int 0), (3, .int (nI i)), (1, .long d), (0, .ref (ad 0))]) S.1 S.2.1 dX4_digest_87 hl (by decide) rfl (fun ls hl => ?_)
        refine W.cs (cells' := 12 + 9 * i + 0) (slots' := 144 + 81 * i + 9 * 0) (by omega) (by omega) ?_
        have L89 : ∀ (k : Nat) (w : Nat) (e0 : Int64), (w + k = 9) → (aq_dgF (aR_archNo n Q i) k w e0 = aq_dgF (aR_archNo n Q i) 9 0 d) → ∀ (H : Heap) (locs : List Loc), aq_I D (aR_t cI) (aq_A 22 ad) (aR_w ad cI 0 (aq_ug V 0 Q)) s H locs → ∀ ls : Array Slot, lv_has ls 5 [(4, .int (nI w)), (3, .int (nI i)), (1, .long e0), (0, .ref (ad 0))] → W p l e ({ frames := 3, cells := 192, slots := 1764, locals := 65 } : Room) s m (([.ref (ad 0)] : List Value).toArray) below meth c H locs (12 + 9 * i + w) (144 + 81 * i + 9 * w) (MQ below ((aq_Ql D (aR_t cI) 22 ad (aR_digest n (V 2) Q) (aR_w ad cI 0 (aq_ug V 0 Q))) s.heap.size) (([.ref (ad 0)] : List Value).toArray) s 192 1764 (aq_A 22 ad s.heap.size)) (F0 m 89 ls []) := by
          intro k
          induction k with
          | zero =>
            intro w e0 hk9 hq9 H locs I ls hl
            refine lv_iload S.1 S.2.1 dX4_digest_89 (lv_at hl 0 rfl) ?_
            refine lv_bipush (v := 9) S.1 S.2.1 dX4_digest_91 (by decide) ?_
            refine lv_icmp_ge (tgt := 117) S.1 S.2.1 dX4_digest_93 (by decide) (fun c3 => ?_) (fun c3 => ?_)
            · have c3 : 9 ≤ w := (nI_leI (a := 9) (b := w) (by omega) (by omega)).mp c3
              refine lv_iconst (v := 0) S.1 S.2.1 dX4_digest_117 (by decide) ?_
              refine lv_istore (lv' := [(4, .int 0), (3, .int (nI i)), (1, .long e0), (0, .ref (ad 0))]) S.1 S.2.1 dX4_digest_118 hl (by decide) rfl (fun ls hl => ?_)
              refine W.cs (cells' := 12 + 9 * (i + 1)) (slots' := 144 + 81 * (i + 1)) (by omega) (by omega) ?_
              have L120 : ∀ (k : Nat) (w : Nat) (e1 : Int64), (w + k = 4) → (aq_dgF (aR_millNo Q i) k w e1 = aR_dgArch n Q i d) → ∀ (H : Heap) (locs : List Loc), aq_I D (aR_t cI) (aq_A 22 ad) (aR_w ad cI 0 (aq_ug V 0 Q)) s H locs → ∀ ls : Array Slot, lv_has ls 5 [(4, .int (nI w)), (3, .int (nI i)), (1, .long e1), (0, .ref (ad 0))] → W p l e ({ frames := 3, cells := 192, slots := 1764, locals := 65 } : Room) s m (([.ref (ad 0)] : List Value).toArray) below meth c H locs (12 + 9 * (i + 1)) (144 + 81 * (i + 1)) (MQ below ((aq_Ql D (aR_t cI) 22 ad (aR_digest n (V 2) Q) (aR_w ad cI 0 (aq_ug V 0 Q))) s.heap.size) (([.ref (ad 0)] : List Value).toArray) s 192 1764 (aq_A 22 ad s.heap.size)) (F0 m 120 ls []) := by
                intro k
                induction k with
                | zero =>
                  intro w e1 hk4 hq4 H locs I ls hl
                  refine lv_iload S.1 S.2.1 dX4_digest_120 (lv_at hl 0 rfl) ?_
                  refine lv_iconst (v := 4) S.1 S.2.1 dX4_digest_122 (by decide) ?_
                  refine lv_icmp_ge (tgt := 147) S.1 S.2.1 dX4_digest_123 (by decide) (fun c4 => ?_) (fun c4 => ?_)
                  · have c4 : 4 ≤ w := (nI_leI (a := 4) (b := w) (by omega) (by omega)).mp c4
                    refine lv_iinc (v := nI (i + 1)) (lv' := [(3, .int (nI (i + 1))), (4, .int (nI w)), (1, .long e1), (0, .ref (ad 0))]) S.1 S.2.1 dX4_digest_147 hl (k := 1) rfl (nI_1 _) (by decide) rfl (fun ls hl => ?_)
                    refine lv_goto (tgt := 78) S.1 S.2.1 dX4_digest_150 (by decide) ?_
                    refine W.cs (cells' := 12 + 9 * (i + 1)) (slots' := 144 + 81 * (i + 1)) (by omega) (by omega) ?_
                    exact ih (i + 1) e1 (by omega) (by rw [aR_dgAll, ← hq4] at hq; exact hq) _ _ I ls (lv_sub hl [0, 2, 3] rfl)
                  · have c4 : w < 4 := Nat.lt_of_not_le (fun z9 => c4 ((nI_leI (a := 4) (b := w) (by omega) (by omega)).mpr z9))
                    exfalso; omega
                | succ k ih =>
                  intro w e1 hk4 hq4 H locs I ls hl
                  refine lv_iload S.1 S.2.1 dX4_digest_120 (lv_at hl 0 rfl) ?_
                  refine lv_iconst (v := 4) S.1 S.2.1 dX4_digest_122 (by decide) ?_
                  refine lv_icmp_ge (tgt := 147) S.1 S.2.1 dX4_digest_123 (by decide) (fun c5 => ?_) (fun c5 => ?_)
                  · have c5 : 4 ≤ w := (nI_leI (a := 4) (b := w) (by omega) (by omega)).mp c5
                    exfalso; omega
                  · have c5 : w < 4 := Nat.lt_of_not_le (fun z9 => c5 ((nI_leI (a := 4) (b := w) (by omega) (by omega)).mpr z9))
                    refine lv_lload_n S.1 S.2.1 dX4_digest_126 rfl (lv_at hl 2 rfl) ?_
                    refine lv_ldc2 (v := 31) S.1 S.2.1 S.2.2.2.1 (S.2.2.2.2 _ (List.mem_of_getElem? (i := 3) rfl)) dX4_digest_127 ?_
                    refine lv_lmul S.1 S.2.1 dX4_digest_130 ?_
                    refine lv_aload_n S.1 S.2.1 dX4_digest_131 rfl (lv_at hl 3 rfl) ?_
                    refine lv_iload_n S.1 S.2.1 dX4_digest_132 rfl (lv_at hl 1 rfl) ?_
                    refine lv_iload S.1 S.2.1 dX4_digest_133 (lv_at hl 0 rfl) ?_
                    refine ar_callVi (As := [.int (nI i), .int (nI w)]) (rest := [.long (e1 * 31)]) S hE (c_X4_millTold l hJ (V := V) (th := 0) (Q := Q) hst (n := n) hn hn20 (a := i) (w := w) (by omega) (by omega)) (cwV 2 S.2.2.2.2 gX4_digest_X4_millTold rfl rfl rfl (by decide +kernel) ⟨Nat.le_of_ble_eq_true rfl, Nat.le_of_ble_eq_true rfl⟩) (aR_recvM I) I hl.1 dX4_digest_135 rfl rfl (Nat.le_of_ble_eq_true rfl) ⟨by first | decide | (dsimp only; omega), by first | decide | (dsimp only; omega)⟩ (fun H locs I hk9 => ?_)
                    refine lv_i2l (v := Int32.toInt64 (aR_millNo Q i w)) S.1 S.2.1 dX4_digest_138 rfl ?_
                    refine lv_ladd S.1 S.2.1 dX4_digest_139 ?_
                    refine lv_lstore_n (lv' := [(1, .long ((e1 * 31) + (Int32.toInt64 (aR_millNo Q i w)))), (4, .int (nI w)), (3, .int (nI i)), (0, .ref (ad 0))]) S.1 S.2.1 dX4_digest_140 rfl hl (by decide) rfl (fun ls hl => ?_)
                    refine lv_iinc (v := nI (w + 1)) (lv' := [(4, .int (nI (w + 1))), (1, .long ((e1 * 31) + (Int32.toInt64 (aR_millNo Q i w)))), (3, .int (nI i)), (0, .ref (ad 0))]) S.1 S.2.1 dX4_digest_141 hl (k := 1) rfl (nI_1 _) (by decide) rfl (fun ls hl => ?_)
                    refine lv_goto (tgt := 120) S.1 S.2.1 dX4_digest_144 (by decide) ?_
                    refine W.cs (cells' := 12 + 9 * (i + 1)) (slots' := 144 + 81 * (i + 1)) (by omega) (by omega) ?_
                    exact ih (w + 1) ((e1 * 31) + (Int32.toInt64 (aR_millNo Q i w))) (by omega) (by exact hq4) _ _ I ls (lv_sub hl [0, 2, 1, 3] rfl)
              exact L120 4 0 e0 (by omega) (congrArg (aq_dgF (aR_millNo Q i) 4 0) hq9) _ _ I ls (lv_sub hl [0, 1, 2, 3] rfl)
            · have c3 : w < 9 := Nat.lt_of_not_le (fun z9 => c3 ((nI_leI (a := 9) (b := w) (by omega) (by omega)).mpr z9))
              exfalso; omega
          | succ k ih =>
            intro w e0 hk9 hq9 H locs I ls hl
            refine lv_iload S.1 S.2.1 dX4_digest_89 (lv_at hl 0 rfl) ?_
            refine lv_bipush (v := 9) S.1 S.2.1 dX4_digest_91 (by decide) ?_
            refine lv_icmp_ge (tgt := 117) S.1 S.2.1 dX4_digest_93 (by decide) (fun c6 => ?_) (fun c6 => ?_)
            · have c6 : 9 ≤ w := (nI_leI (a := 9) (b := w) (by omega) (by omega)).mp c6
              exfalso; omega
            · have c6 : w < 9 := Nat.lt_of_not_le (fun z9 => c6 ((nI_leI (a := 9) (b := w) (by omega) (by omega)).mpr z9))
              refine lv_lload_n S.1 S.2.1 dX4_digest_96 rfl (lv_at hl 2 rfl) ?_
              refine lv_ldc2 (v := 31) S.1 S.2.1 S.2.2.2.1 (S.2.2.2.2 _ (List.mem_of_getElem? (i := 3) rfl)) dX4_digest_97 ?_
              refine lv_lmul S.1 S.2.1 dX4_digest_100 ?_
              refine lv_aload_n S.1 S.2.1 dX4_digest_101 rfl (lv_at hl 3 rfl) ?_
              refine lv_iload_n S.1 S.2.1 dX4_digest_102 rfl (lv_at hl 1 rfl) ?_
              refine lv_iload S.1 S.2.1 dX4_digest_103 (lv_at hl 0 rfl) ?_
              refine ar_callVi (As := [.int (nI i), .int (nI w)]) (rest := [.long (e0 * 31)]) S hE (c_X4_archTold l hJ (V := V) (th := 0) (Q := Q) hst (n := n) hn hn20 (a := i) (w := w) (by omega) (by omega)) (cwV 2 S.2.2.2.2 gX4_digest_X4_archTold rfl rfl rfl (by decide +kernel) ⟨Nat.le_of_ble_eq_true rfl, Nat.le_of_ble_eq_true rfl⟩) (aR_recvM I) I hl.1 dX4_digest_105 rfl rfl (Nat.le_of_ble_eq_true rfl) ⟨by first | decide | (dsimp only; omega), by first | decide | (dsimp only; omega)⟩ (fun H locs I hk9 => ?_)
              refine lv_i2l (v := Int32.toInt64 (aR_archNo n Q i w)) S.1 S.2.1 dX4_digest_108 rfl ?_
              refine lv_ladd S.1 S.2.1 dX4_digest_109 ?_
              refine lv_lstore_n (lv' := [(1, .long ((e0 * 31) + (Int32.toInt64 (aR_archNo n Q i w)))), (4, .int (nI w)), (3, .int (nI i)), (0, .ref (ad 0))]) S.1 S.2.1 dX4_digest_110 rfl hl (by decide) rfl (fun ls hl => ?_)
              refine lv_iinc (v := nI (w + 1)) (lv' := [(4, .int (nI (w + 1))), (1, .long ((e0 * 31) + (Int32.toInt64 (aR_archNo n Q i w)))), (3, .int (nI i)), (0, .ref (ad 0))]) S.1 S.2.1 dX4_digest_111 hl (k := 1) rfl (nI_1 _) (by decide) rfl (fun ls hl => ?_)
              refine lv_goto (tgt := 89) S.1 S.2.1 dX4_digest_114 (by decide) ?_
              refine W.cs (cells' := 12 + 9 * i + (w + 1)) (slots' := 144 + 81 * i + 9 * (w + 1)) (by omega) (by omega) ?_
              exact ih (w + 1) ((e0 * 31) + (Int32.toInt64 (aR_archNo n Q i w))) (by omega) (by exact hq9) _ _ I ls (lv_sub hl [0, 2, 1, 3] rfl)
        exact L89 9 0 d (by omega) rfl _ _ I ls (lv_sub hl [0, 1, 2, 3] rfl)
  have L38 : ∀ (k : Nat) (w : Nat) (d : Int64), (w + k = 24) → (aq_dgT (V 2) k w d = aq_dgT (V 2) 24 0 (aq_dgF (aR_countNo n Q) 12 0 601)) → ∀ (H : Heap) (locs : List Loc), aq_I D (aR_t cI) (aq_A 22 ad) (aR_w ad cI 0 (aq_ug V 0 Q)) s H locs → ∀ ls : Array Slot, lv_has ls 5 [(3, .int (nI w)), (1, .long d), (0, .ref (ad 0))] → W p l e ({ frames := 3, cells := 192, slots := 1764, locals := 65 } : Room) s m (([.ref (ad 0)] : List Value).toArray) below meth c H locs 12 144 (MQ below ((aq_Ql D (aR_t cI) 22 ad (aR_digest n (V 2) Q) (aR_w ad cI 0 (aq_ug V 0 Q))) s.heap.size) (([.ref (ad 0)] : List Value).toArray) s 192 1764 (aq_A 22 ad s.heap.size)) (F0 m 38 ls []) := by
    intro k
    induction k with
    | zero =>
      intro w d hk hq H locs I ls hl
      refine lv_iload_n S.1 S.2.1 dX4_digest_38 rfl (lv_at hl 0 rfl) ?_
      refine lv_bipush (v := 24) S.1 S.2.1 dX4_digest_39 (by decide) ?_
      refine lv_icmp_ge (tgt := 76) S.1 S.2.1 dX4_digest_41 (by decide) (fun c7 => ?_) (fun c7 => ?_)
      · have c7 : 24 ≤ w := (nI_leI (a := 24) (b := w) (by omega) (by omega)).mp c7
        refine lv_iconst (v := 0) S.1 S.2.1 dX4_digest_76 (by decide) ?_
        refine lv_istore_n (lv' := [(3, .int 0), (1, .long d), (0, .ref (ad 0))]) S.1 S.2.1 dX4_digest_77 rfl hl (by decide) rfl (fun ls hl => ?_)
        refine W.cs (cells' := 12 + 9 * 0) (slots' := 144 + 81 * 0) (by omega) (by omega) ?_
        exact L78 n 0 d (by omega) (congrArg (aR_dgAll n Q n 0) hq) _ _ I ls (lv_sub hl [0, 1, 2] rfl)
      · have c7 : w < 24 := Nat.lt_of_not_le (fun z9 => c7 ((nI_leI (a := 24) (b := w) (by omega) (by omega)).mpr z9))
        exfalso; omega
    | succ k ih =>
      intro w d hk hq H locs I ls hl
      refine lv_iload_n S.1 S.2.1 dX4_digest_38 rfl (lv_at hl 0 rfl) ?_
      refine lv_bipush (v := 24) S.1 S.2.1 dX4_digest_39 (by decide) ?_
      refine lv_icmp_ge (tgt := 76) S.1 S.2.1 dX4_digest_41 (by decide) (fun c8 => ?_) (fun c8 => ?_)
      · have c8 : 24 ≤ w := (nI_leI (a := 24) (b := w) (by omega) (by omega)).mp c8
        exfalso; omega
      · have c8 : w < 24 := Nat.lt_of_not_le (fun z9 => c8 ((nI_leI (a := 24) (b := w) (by omega) (by omega)).mpr z9))
        refine lv_lload_n S.1 S.2.1 dX4_digest_44 rfl (lv_at hl 1 rfl) ?_
        refine lv_ldc2 (v := 31) S.1 S.2.1 S.2.2.2.1 (S.2.2.2.2 _ (List.mem_of_getElem? (i := 3) rfl)) dX4_digest_45 ?_
        refine lv_lmul S.1 S.2.1 dX4_digest_48 ?_
        refine lv_aload_n S.1 S.2.1 dX4_digest_49 rfl (lv_at hl 2 rfl) ?_
        refine aR_getM (v := .ref (ad 1)) S I 1 (by decide) in_X4_digest_X4 (List.mem_of_getElem? (i := 4) rfl) rfl dX4_digest_50 ?_
        refine lv_iload_n S.1 S.2.1 dX4_digest_53 rfl (lv_at hl 0 rfl) ?_
        refine aR_tld (t := 0) (k := w) (x := (V 2) 0 w) S I (by decide) rfl (by omega) (by rw [aq_ug_n _ _ (by first | decide | omega)]) dX4_digest_54 ?_
        refine lv_i2l (v := Int32.toInt64 ((V 2) 0 w)) S.1 S.2.1 dX4_digest_55 rfl ?_
        refine lv_ladd S.1 S.2.1 dX4_digest_56 ?_
        refine lv_ldc2 (v := 31) S.1 S.2.1 S.2.2.2.1 (S.2.2.2.2 _ (List.mem_of_getElem? (i := 3) rfl)) dX4_digest_57 ?_
        refine lv_lmul S.1 S.2.1 dX4_digest_60 ?_
        refine lv_aload_n S.1 S.2.1 dX4_digest_61 rfl (lv_at hl 2 rfl) ?_
        refine aR_getM (v := .ref (ad 2)) S I 2 (by decide) in_X4_digest_X4 (List.mem_of_getElem? (i := 5) rfl) rfl dX4_digest_62 ?_
        refine lv_iload_n S.1 S.2.1 dX4_digest_65 rfl (lv_at hl 0 rfl) ?_
        refine aR_tld (t := 1) (k := w) (x := (V 2) 1 w) S I (by decide) rfl (by omega) (by rw [aq_ug_n _ _ (by first | decide | omega)]) dX4_digest_66 ?_
        refine lv_i2l (v := Int32.toInt64 ((V 2) 1 w)) S.1 S.2.1 dX4_digest_67 rfl ?_
        refine lv_ladd S.1 S.2.1 dX4_digest_68 ?_
        refine lv_lstore_n (lv' := [(1, .long ((((d * 31) + (Int32.toInt64 ((V 2) 0 w))) * 31) + (Int32.toInt64 ((V 2) 1 w)))), (3, .int (nI w)), (0, .ref (ad 0))]) S.1 S.2.1 dX4_digest_69 rfl hl (by decide) rfl (fun ls hl => ?_)
        refine lv_iinc (v := nI (w + 1)) (lv' := [(3, .int (nI (w + 1))), (1, .long ((((d * 31) + (Int32.toInt64 ((V 2) 0 w))) * 31) + (Int32.toInt64 ((V 2) 1 w)))), (0, .ref (ad 0))]) S.1 S.2.1 dX4_digest_70 hl (k := 1) rfl (nI_1 _) (by decide) rfl (fun ls hl => ?_)
        refine lv_goto (tgt := 38) S.1 S.2.1 dX4_digest_73 (by decide) ?_
        refine W.cs (cells' := 12) (slots' := 144) (by omega) (by omega) ?_
        exact ih (w + 1) ((((d * 31) + (Int32.toInt64 ((V 2) 0 w))) * 31) + (Int32.toInt64 ((V 2) 1 w))) (by omega) (by exact hq) _ _ I ls (lv_sub hl [0, 1, 2] rfl)
  have L11 : ∀ (k : Nat) (w : Nat) (d : Int64), (w + k = 12) → (aq_dgF (aR_countNo n Q) k w d = aq_dgF (aR_countNo n Q) 12 0 601) → ∀ (H : Heap) (locs : List Loc), aq_I D (aR_t cI) (aq_A 22 ad) (aR_w ad cI 0 (aq_ug V 0 Q)) s H locs → ∀ ls : Array Slot, lv_has ls 5 [(3, .int (nI w)), (1, .long d), (0, .ref (ad 0))] → W p l e ({ frames := 3, cells := 192, slots := 1764, locals := 65 } : Room) s m (([.ref (ad 0)] : List Value).toArray) below meth c H locs w (12 * w) (MQ below ((aq_Ql D (aR_t cI) 22 ad (aR_digest n (V 2) Q) (aR_w ad cI 0 (aq_ug V 0 Q))) s.heap.size) (([.ref (ad 0)] : List Value).toArray) s 192 1764 (aq_A 22 ad s.heap.size)) (F0 m 11 ls []) := by
    intro k
    induction k with
    | zero =>
      intro w d hk hq H locs I ls hl
      refine lv_iload_n S.1 S.2.1 dX4_digest_11 rfl (lv_at hl 0 rfl) ?_
      refine lv_bipush (v := 12) S.1 S.2.1 dX4_digest_12 (by decide) ?_
      refine lv_icmp_ge (tgt := 36) S.1 S.2.1 dX4_digest_14 (by decide) (fun c9 => ?_) (fun c9 => ?_)
      · have c9 : 12 ≤ w := (nI_leI (a := 12) (b := w) (by omega) (by omega)).mp c9
        refine lv_iconst (v := 0) S.1 S.2.1 dX4_digest_36 (by decide) ?_
        refine lv_istore_n (lv' := [(3, .int 0), (1, .long d), (0, .ref (ad 0))]) S.1 S.2.1 dX4_digest_37 rfl hl (by decide) rfl (fun ls hl => ?_)
        refine W.cs (cells' := 12) (slots' := 144) (by omega) (by omega) ?_
        exact L38 24 0 d (by omega) (congrArg (aq_dgT (V 2) 24 0) hq) _ _ I ls (lv_sub hl [0, 1, 2] rfl)
      · have c9 : w < 12 := Nat.lt_of_not_le (fun z9 => c9 ((nI_leI (a := 12) (b := w) (by omega) (by omega)).mpr z9))
        exfalso; omega
    | succ k ih =>
      intro w d hk hq H locs I ls hl
      refine lv_iload_n S.1 S.2.1 dX4_digest_11 rfl (lv_at hl 0 rfl) ?_
      refine lv_bipush (v := 12) S.1 S.2.1 dX4_digest_12 (by decide) ?_
      refine lv_icmp_ge (tgt := 36) S.1 S.2.1 dX4_digest_14 (by decide) (fun c10 => ?_) (fun c10 => ?_)
      · have c10 : 12 ≤ w := (nI_leI (a := 12) (b := w) (by omega) (by omega)).mp c10
        exfalso; omega
      · have c10 : w < 12 := Nat.lt_of_not_le (fun z9 => c10 ((nI_leI (a := 12) (b := w) (by omega) (by omega)).mpr z9))
        refine lv_lload_n S.1 S.2.1 dX4_digest_17 rfl (lv_at hl 1 rfl) ?_
        refine lv_ldc2 (v := 31) S.1 S.2.1 S.2.2.2.1 (S.2.2.2.2 _ (List.mem_of_getElem? (i := 3) rfl)) dX4_digest_18 ?_
        refine lv_lmul S.1 S.2.1 dX4_digest_21 ?_
        refine lv_aload_n S.1 S.2.1 dX4_digest_22 rfl (lv_at hl 2 rfl) ?_
        refine lv_iload_n S.1 S.2.1 dX4_digest_23 rfl (lv_at hl 0 rfl) ?_
        refine ar_callVi (As := [.int (nI w)]) (rest := [.long (d * 31)]) S hE (c_X4_counted l hJ (V := V) (th := 0) (Q := Q) hst (n := n) hn hn20 (w := w) (by omega)) (cwV 1 S.2.2.2.2 gX4_digest_X4_counted rfl rfl rfl (by decide +kernel) ⟨Nat.le_of_ble_eq_true rfl, Nat.le_of_ble_eq_true rfl⟩) (aR_recvM I) I hl.1 dX4_digest_24 rfl rfl (Nat.le_of_ble_eq_true rfl) ⟨by first | decide | (dsimp only; omega), by first | decide | (dsimp only; omega)⟩ (fun H locs I hk9 => ?_)
        refine lv_i2l (v := Int32.toInt64 (aR_countNo n Q w)) S.1 S.2.1 dX4_digest_27 rfl ?_
        refine lv_ladd S.1 S.2.1 dX4_digest_28 ?_
        refine lv_lstore_n (lv' := [(1, .long ((d * 31) + (Int32.toInt64 (aR_countNo n Q w)))), (3, .int (nI w)), (0, .ref (ad 0))]) S.1 S.2.1 dX4_digest_29 rfl hl (by decide) rfl (fun ls hl => ?_)
        refine lv_iinc (v := nI (w + 1)) (lv' := [(3, .int (nI (w + 1))), (1, .long ((d * 31) + (Int32.toInt64 (aR_countNo n Q w)))), (0, .ref (ad 0))]) S.1 S.2.1 dX4_digest_30 hl (k := 1) rfl (nI_1 _) (by decide) rfl (fun ls hl => ?_)
        refine lv_goto (tgt := 11) S.1 S.2.1 dX4_digest_33 (by decide) ?_
        refine W.cs (cells' := w + 1) (slots' := 12 * (w + 1)) (by omega) (by omega) ?_
        exact ih (w + 1) ((d * 31) + (Int32.toInt64 (aR_countNo n Q w))) (by omega) (by exact hq) _ _ I ls (lv_sub hl [0, 1, 2] rfl)
  refine lv_aload_n S.1 S.2.1 dX4_digest_0 rfl (lv_at hl 0 rfl) ?_
  refine lv_iconst (v := 0) S.1 S.2.1 dX4_digest_1 (by decide) ?_
  refine aR_putTh (x := 0) hJ S I in_X4_digest_X4 (List.mem_of_getElem? (i := 1) rfl) dX4_digest_2 (fun H locs I => ?_)
  refine lv_ldc2 (v := 601) S.1 S.2.1 S.2.2.2.1 (S.2.2.2.2 _ (List.mem_of_getElem? (i := 2) rfl)) dX4_digest_5 ?_
  refine lv_lstore_n (lv' := [(1, .long 601), (0, .ref (ad 0))]) S.1 S.2.1 dX4_digest_8 rfl hl (by decide) rfl (fun ls hl => ?_)
  refine lv_iconst (v := 0) S.1 S.2.1 dX4_digest_9 (by decide) ?_
  refine lv_istore_n (lv' := [(3, .int 0), (1, .long 601), (0, .ref (ad 0))]) S.1 S.2.1 dX4_digest_10 rfl hl (by decide) rfl (fun ls hl => ?_)
  refine W.cs (cells' := 0) (slots' := 12 * 0) (by omega) (by omega) ?_
  exact L11 12 0 601 (by omega) rfl _ _ I ls (lv_sub hl [0, 1, 2] rfl)
