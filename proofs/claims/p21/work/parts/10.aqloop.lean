/-- a method of a class of which some methods are run by an entry instead: this one isn't -/
theorem aq_ofWF {l : Launch} {y : MethodName} {ws ws' : List Cond} {rm : Room} {Pc : Array Value → State → Prop} {Qc : Array Value → State → Outcome → State → Prop} {mc ms : Nat} {free : Addr → Prop} {cc : ByteArray} {maxL : Nat} {ret : Option FieldType}
    (hy : plainFor y = true) (hw : ws = Cond.code y cc maxL ret :: ws')
    (body : ∀ p e s m args below meth c s₁, BodyLoose p l y (headSpec ws rm) cc maxL ret e s m args below meth c s₁ → c.maxLocals = maxL → Pc args s →
      W p l e (headSpec ws rm).room s m args below meth c s.heap [] 0 0 (MQ below Qc args s mc ms free) (entryFrame m args maxL)) : Met l y ws rm Pc Qc mc ms free := by
  refine MetFree.of_bodySF (code := cc) (maxLocals := maxL) (ret := ret) hy ?_ ?_
  · intro args s m h hn
    obtain ⟨meth, c, h1, h2, h3, h4, h5, h6, -, -⟩ := Cond.code_spec hn (atoms_spec (ws := ws) h _ (by rw [hw]; exact List.mem_cons_self))
    exact ⟨meth, c, h1, h2, h3, h4, h5, h6⟩
  · intro p e s m args below meth c s₁ B hml hP _
    have hh0 : s₁.heap = s.heap := by rw [B.state]; rfl
    obtain ⟨t, a1, o, b1, b2, b3⟩ := body p e s m args below meth c s₁ B hml hP s₁ hh0 (Stand.of_body B)
    exact ⟨t, o, a1, b1, b2, ⟨b3.1, b3.2⟩⟩
theorem aq_enterF {l : Launch} {cc : ByteArray} {maxL mc ms N : Nat} {ad : Nat → Nat} {ret : Option FieldType} {ws ws' : List Cond} {rm : Room} {y : MethodName} {D : va_G} {tys : List (ClassId × FieldType)} {w : va_W} {As : List Value} {Qc : Nat → Array Value → State → Outcome → State → Prop} (hy : plainFor y = true) (hw : ws = Cond.code y cc maxL ret :: ws') (hn : (lg_sl As).length ≤ maxL)
    (k : ∀ (p : Program) (e : Env) (s : State) (m : MethodId) (below : List Frame) (meth : Method) (c : Code) (ls : Array Slot), CallFix p m c cc maxL s As.toArray ws y.cls → meth.sig.returnType = ret → meth.locks = false → meth.name = y.name → aq_I D tys (aq_A N ad) w s s.heap [] → lv_has ls maxL (lv_args 0 As) →
      W p l e rm s m As.toArray below meth c s.heap [] 0 0 (MQ below (Qc s.heap.size) As.toArray s mc ms (aq_A N ad s.heap.size)) (F0 m 0 ls [])) :
    aq_Met l y ws rm D tys N ad As w Qc mc ms := by
  intro sz
  refine aq_ofWF (cc := cc) (maxL := maxL) (ret := ret) hy hw ?_
  intro p e s m args below meth c s₁ B hml hv
  obtain ⟨rfl, hsz, hK, hP⟩ := hv
  subst hsz
  have hl := lv_entry As (n := maxL) hn
  rw [lg_entry_eq]
  exact k p e s m below meth c _ ⟨B.exec, B.bytes, hml, findClass_of_methodNamed B.named, atoms_spec (ws := ws) B.pre⟩ B.returns B.notSynchronized (name_of_methodNamed B.named B.method).1 ⟨hK, hP, va_S.rf⟩ hl
set_option maxHeartbeats 4000000 in
set_option maxRecDepth 100000 in
/-- Math.floorMod(h, 24) of an h that is not negative -/
theorem c_J9_floorMod (l : Launch) {D : va_G} {tys : List (ClassId × FieldType)} {N : Nat} {ad : Nat → Nat} {w : va_W} {h d : Nat} (hd : d = h % 24) (h31 : h < 2 ^ 31) : aq_Met l yJ9_floorMod_7cf53 wsJ9_floorMod_7cf53 ({ frames := 0, cells := 0, slots := 0, locals := 0 }) D tys N ad [.int (nI h), .int 24] w (aq_Qi D tys N ad (nI d) w) 0 0 := by
  refine aq_enterF (cc := cJ9_floorMod_7cf53) (maxL := 3) (ret := some .int) (by decide +kernel) rfl (Nat.le_of_ble_eq_true rfl) ?_
  intro p e s m below meth c ls S hr hlocks hnm I hl
  have S : CallFix p m c cJ9_floorMod_7cf53 3 s _ wsJ9_floorMod_7cf53 RJ9 := S
  have hl : lv_has ls 3 [(0, .int (nI h)), (1, .int 24)] := hl
  refine lv_iload_n S.1 S.2.1 dJ9_floorMod_7cf53_0 rfl (lv_at hl 0 rfl) ?_
  refine lv_iload_n S.1 S.2.1 dJ9_floorMod_7cf53_1 rfl (lv_at hl 1 rfl) ?_
  refine lv_irem S.1 S.2.1 dJ9_floorMod_7cf53_2 (by decide) ?_
  refine lv_topi (fun x (ex : x = nI h - nI h / nI 24 * nI 24) => ?_)
  rw [pk_rem h31 (by omega) (by omega), ← hd] at ex
  subst ex
  refine lv_istore_n (lv' := [(2, .int (nI d)), (0, .int (nI h)), (1, .int 24)]) S.1 S.2.1 dJ9_floorMod_7cf53_3 rfl hl (by decide) rfl (fun ls hl => ?_)
  refine lv_iload_n S.1 S.2.1 dJ9_floorMod_7cf53_4 rfl (lv_at hl 1 rfl) ?_
  refine lv_iload_n S.1 S.2.1 dJ9_floorMod_7cf53_5 rfl (lv_at hl 2 rfl) ?_
  refine lv_ixor S.1 S.2.1 dJ9_floorMod_7cf53_6 ?_
  refine lv_if_ge (tgt := 18) S.1 S.2.1 dJ9_floorMod_7cf53_7 (by decide) (fun c1 => ?_) (fun c1 => ?_)
  · refine lv_iload_n S.1 S.2.1 dJ9_floorMod_7cf53_18 rfl (lv_at hl 0 rfl) ?_
    exact aq_iret S.1 S.2.1 hr hlocks I dJ9_floorMod_7cf53_19 (by decide) (by decide) rfl rfl
  · exact absurd (aq_xor24 h31) c1
theorem in_X0_wearAll_X0 : ∀ w ∈ wsX00, w ∈ wsX0_wearAll := fun _ h => List.mem_cons_of_mem _ (List.mem_append_left _ (List.mem_append_right _ h))
set_option maxHeartbeats 4000000 in
set_option maxRecDepth 100000 in
/-- X0_wearAll -/
theorem c_X0_wearAll (l : Launch) {D : va_G} {ad : Nat → Nat} {cI cQ : ClassId} (hJ : aq_J 49 ad) {V : aq_V} {Q : aq_Q} {j n : Nat} (hj : j < 2) (hn : Q 10 3 = nI n) (hn20 : n ≤ 20) : aq_Met l yX0_wearAll wsX0_wearAll ({ frames := 3, cells := 0, slots := 0, locals := 62 }) D (aC_t cI cQ) 49 ad [.ref (ad (3 + j))] (aC_w ad cI cQ (aq_ug V j Q)) (aq_Qv D (aC_t cI cQ) 49 ad (aC_w ad cI cQ (aq_ug V j (aq_wearAll n 0 Q)))) 0 0 := by
  refine aq_enter (cc := cX0_wearAll) (maxL := 2) (ret := none) (by decide) rfl (Nat.le_of_ble_eq_true rfl) ?_
  intro p e s m below meth c ls S hr hlocks hnm I hl
  have S : CallFix p m c cX0_wearAll 2 s _ wsX0_wearAll RX0 := S
  have hl : lv_has ls 2 [(0, .ref (ad (3 + j)))] := hl
  have L2 : ∀ (k : Nat) (i : Nat) (Q' : aq_Q), (i + k = n) → (Q' 10 3 = nI n) → (aq_wearAll k i Q' = aq_wearAll n 0 Q) → ∀ (H : Heap) (locs : List Loc), aq_I D (aC_t cI cQ) (aq_A 49 ad) (aC_w ad cI cQ (aq_ug V j (Q'))) s H locs → ∀ ls : Array Slot, lv_has ls 2 [(1, .int (nI i)), (0, .ref (ad (3 + j)))] → W p l e ({ frames := 3, cells := 0, slots := 0, locals := 62 } : Room) s m (([.ref (ad (3 + j))] : List Value).toArray) below meth c H locs 0 0 (MQ below ((aq_Qv D (aC_t cI cQ) 49 ad (aC_w ad cI cQ (aq_ug V j (aq_wearAll n 0 Q)))) s.heap.size) (([.ref (ad (3 + j))] : List Value).toArray) s 0 0 (aq_A 49 ad s.heap.size)) (F0 m 2 ls []) := by
    intro k
    induction k with
    | zero =>
      intro i Q' hk hn' hq H locs I ls hl
      refine lv_iload_n S.1 S.2.1 dX0_wearAll_2 rfl (lv_at hl 0 rfl) ?_
      refine lv_aload_n S.1 S.2.1 dX0_wearAll_3 rfl (lv_at hl 1 rfl) ?_
      refine aC_getS (j := j) (x := nI n) S I hj 3 (by decide) (by decide) in_X0_wearAll_X0 (List.mem_of_getElem? (i := 1) rfl) (by rw [aq_ug_s]; exact hn') dX0_wearAll_4 ?_
      refine lv_icmp_ge (tgt := 25) S.1 S.2.1 dX0_wearAll_7 (by decide) (fun c1 => ?_) (fun c1 => ?_)
      · have c1 : n ≤ i := (nI_leI (a := n) (b := i) (by omega) (by omega)).mp c1
        exact aq_vret S.1 S.2.1 hr hlocks I dX0_wearAll_25 (by decide) (by decide) (congrArg (fun z => aC_w ad cI cQ (aq_ug V j z)) hq)
      · have c1 : i < n := Nat.lt_of_not_le (fun z9 => c1 ((nI_leI (a := n) (b := i) (by omega) (by omega)).mpr z9))
        exfalso; omega
    | succ k ih =>
      intro i Q' hk hn' hq H locs I ls hl
      refine lv_iload_n S.1 S.2.1 dX0_wearAll_2 rfl (lv_at hl 0 rfl) ?_
      refine lv_aload_n S.1 S.2.1 dX0_wearAll_3 rfl (lv_at hl 1 rfl) ?_
      refine aC_getS (j := j) (x := nI n) S I hj 3 (by decide) (by decide) in_X0_wearAll_X0 (List.mem_of_getElem? (i := 1) rfl) (by rw [aq_ug_s]; exact hn') dX0_wearAll_4 ?_
      refine lv_icmp_ge (tgt := 25) S.1 S.2.1 dX0_wearAll_7 (by decide) (fun c2 => ?_) (fun c2 => ?_)
      · have c2 : n ≤ i := (nI_leI (a := n) (b := i) (by omega) (by omega)).mp c2
        exfalso; omega
      · have c2 : i < n := Nat.lt_of_not_le (fun z9 => c2 ((nI_leI (a := n) (b := i) (by omega) (by omega)).mpr z9))
        refine lv_aload_n S.1 S.2.1 dX0_wearAll_10 rfl (lv_at hl 1 rfl) ?_
        refine aC_getR (j := j) S I hj in_X0_wearAll_X0 (List.mem_of_getElem? (i := 2) rfl) dX0_wearAll_11 ?_
        refine lv_iload_n S.1 S.2.1 dX0_wearAll_14 rfl (lv_at hl 0 rfl) ?_
        refine aC_row (j := j) (i := i) S I hj rfl (by omega) dX0_wearAll_15 ?_
        refine aq_callVv (As := []) (rest := []) S (c_X1_wearOfDay l hJ (V := V) (Q := Q') (j := j) (i := i) hj (by omega) ) (cwV 0 S.2.2.2.2 gX0_wearAll_X1_wearOfDay rfl rfl rfl (by decide +kernel) ⟨Nat.le_of_ble_eq_true rfl, Nat.le_of_ble_eq_true rfl⟩) (aC_recvA (j := j) (i := i) I hj (by omega)) I hl.1 dX0_wearAll_16 rfl rfl (Nat.le_of_ble_eq_true rfl) ⟨by first | decide | (dsimp only; omega), by first | decide | (dsimp only; omega)⟩ (fun H locs I => ?_)
        obtain ⟨M3, hM3⟩ : ∃ z9 : aq_Q, z9 = aq_wearDayQ Q' i := ⟨_, rfl⟩
        rw [← hM3] at I
        refine lv_iinc (v := nI (i + 1)) (lv' := [(1, .int (nI (i + 1))), (0, .ref (ad (3 + j)))]) S.1 S.2.1 dX0_wearAll_19 hl (k := 0) rfl (nI_1 _) (by decide) rfl (fun ls hl => ?_)
        refine lv_goto (tgt := 2) S.1 S.2.1 dX0_wearAll_22 (by decide) ?_
        have hn_M3 : M3 10 3 = nI n := by rw [hM3]; exact (aq_wearDayQ_n _ _).trans hn'
        exact ih (i + 1) M3 (by omega) hn_M3 (by rw [hM3]; exact hq) _ _ I ls (lv_sub hl [0, 1] rfl)
  refine lv_iconst (v := 0) S.1 S.2.1 dX0_wearAll_0 (by decide) ?_
  refine lv_istore_n (lv' := [(1, .int 0), (0, .ref (ad (3 + j)))]) S.1 S.2.1 dX0_wearAll_1 rfl hl (by decide) rfl (fun ls hl => ?_)
  exact L2 n 0 Q (by omega) hn rfl _ _ I ls (lv_sub hl [0, 1] rfl)
theorem in_X0_mills_X0 : ∀ w ∈ wsX00, w ∈ wsX0_mills := fun _ h => List.mem_cons_of_mem _ (List.mem_append_left _ (List.mem_append_right _ h))
set_option maxHeartbeats 4000000 in
set_option maxRecDepth 100000 in
/-- X0_mills -/
theorem c_X0_mills (l : Launch) {D : va_G} {ad : Nat → Nat} {cI cQ : ClassId} (hJ : aq_J 49 ad) {V : aq_V} {Q : aq_Q} {j n : Nat} (hj : j < 2) (hn : Q 10 3 = nI n) (hn20 : n ≤ 20) : aq_Met l yX0_mills wsX0_mills ({ frames := 1, cells := 0, slots := 0, locals := 20 }) D (aC_t cI cQ) 49 ad [.ref (ad (3 + j))] (aC_w ad cI cQ (aq_ug V j Q)) (aq_Qi D (aC_t cI cQ) 49 ad (aq_mills n Q) (aC_w ad cI cQ (aq_ug V j Q))) 0 0 := by
  refine aq_enter (cc := cX0_mills) (maxL := 3) (ret := some .int) (by decide) rfl (Nat.le_of_ble_eq_true rfl) ?_
  intro p e s m below meth c ls S hr hlocks hnm I hl
  have S : CallFix p m c cX0_mills 3 s _ wsX0_mills RX0 := S
  have hl : lv_has ls 3 [(0, .ref (ad (3 + j)))] := hl
  have L4 : ∀ (k : Nat) (i : Nat) (x : Int32), (i + k = n) → (aq_sum (aq_mill1 Q) k i x = aq_mills n Q) → ∀ (H : Heap) (locs : List Loc), aq_I D (aC_t cI cQ) (aq_A 49 ad) (aC_w ad cI cQ (aq_ug V j Q)) s H locs → ∀ ls : Array Slot, lv_has ls 3 [(2, .int (nI i)), (1, .int x), (0, .ref (ad (3 + j)))] → W p l e ({ frames := 1, cells := 0, slots := 0, locals := 20 } : Room) s m (([.ref (ad (3 + j))] : List Value).toArray) below meth c H locs 0 0 (MQ below ((aq_Qi D (aC_t cI cQ) 49 ad (aq_mills n Q) (aC_w ad cI cQ (aq_ug V j Q))) s.heap.size) (([.ref (ad (3 + j))] : List Value).toArray) s 0 0 (aq_A 49 ad s.heap.size)) (F0 m 4 ls []) := by
    intro k
    induction k with
    | zero =>
      intro i x hk hq H locs I ls hl
      refine lv_iload_n S.1 S.2.1 dX0_mills_4 rfl (lv_at hl 0 rfl) ?_
      refine lv_aload_n S.1 S.2.1 dX0_mills_5 rfl (lv_at hl 2 rfl) ?_
      refine aC_getS (j := j) (x := nI n) S I hj 3 (by decide) (by decide) in_X0_mills_X0 (List.mem_of_getElem? (i := 1) rfl) (by rw [aq_ug_s]; exact hn) dX0_mills_6 ?_
      refine lv_icmp_ge (tgt := 38) S.1 S.2.1 dX0_mills_9 (by decide) (fun c1 => ?_) (fun c1 => ?_)
      · have c1 : n ≤ i := (nI_leI (a := n) (b := i) (by omega) (by omega)).mp c1
        refine lv_iload_n S.1 S.2.1 dX0_mills_38 rfl (lv_at hl 1 rfl) ?_
        exact aq_iret S.1 S.2.1 hr hlocks I dX0_mills_39 (by decide) (by decide) hq rfl
      · have c1 : i < n := Nat.lt_of_not_le (fun z9 => c1 ((nI_leI (a := n) (b := i) (by omega) (by omega)).mpr z9))
        exfalso; omega
    | succ k ih =>
      intro i x hk hq H locs I ls hl
      refine lv_iload_n S.1 S.2.1 dX0_mills_4 rfl (lv_at hl 0 rfl) ?_
      refine lv_aload_n S.1 S.2.1 dX0_mills_5 rfl (lv_at hl 2 rfl) ?_
      refine aC_getS (j := j) (x := nI n) S I hj 3 (by decide) (by decide) in_X0_mills_X0 (List.mem_of_getElem? (i := 1) rfl) (by rw [aq_ug_s]; exact hn) dX0_mills_6 ?_
      refine lv_icmp_ge (tgt := 38) S.1 S.2.1 dX0_mills_9 (by decide) (fun c2 => ?_) (fun c2 => ?_)
      · have c2 : n ≤ i := (nI_leI (a := n) (b := i) (by omega) (by omega)).mp c2
        exfalso; omega
      · have c2 : i < n := Nat.lt_of_not_le (fun z9 => c2 ((nI_leI (a := n) (b := i) (by omega) (by omega)).mpr z9))
        refine lv_iload_n S.1 S.2.1 dX0_mills_12 rfl (lv_at hl 1 rfl) ?_
        refine lv_aload_n S.1 S.2.1 dX0_mills_13 rfl (lv_at hl 2 rfl) ?_
        refine aC_getR (j := j) S I hj in_X0_mills_X0 (List.mem_of_getElem? (i := 2) rfl) dX0_mills_14 ?_
        refine lv_iload_n S.1 S.2.1 dX0_mills_17 rfl (lv_at hl 0 rfl) ?_
        refine aC_row (j := j) (i := i) S I hj rfl (by omega) dX0_mills_18 ?_
        refine aq_callVi (As := []) (rest := [.int x]) S (c_X1_hasMill l hJ (V := V) (Q := Q) (j := j) (i := i) hj (by omega) ) (cwV 0 S.2.2.2.2 gX0_mills_X1_hasMill rfl rfl rfl (by decide +kernel) ⟨Nat.le_of_ble_eq_true rfl, Nat.le_of_ble_eq_true rfl⟩) (aC_recvA (j := j) (i := i) I hj (by omega)) I hl.1 dX0_mills_19 rfl rfl (Nat.le_of_ble_eq_true rfl) ⟨by first | decide | (dsimp only; omega), by first | decide | (dsimp only; omega)⟩ (fun H locs I => ?_)
        refine lv_if_eq (tgt := 29) S.1 S.2.1 dX0_mills_22 (by decide) (fun c3 => ?_) (fun c3 => ?_)
        · refine lv_iconst (v := 0) S.1 S.2.1 dX0_mills_29 (by decide) ?_
          refine lv_iadd S.1 S.2.1 dX0_mills_30 ?_
          refine lv_istore_n (lv' := [(1, .int (x + 0)), (2, .int (nI i)), (0, .ref (ad (3 + j)))]) S.1 S.2.1 dX0_mills_31 rfl hl (by decide) rfl (fun ls hl => ?_)
          refine lv_iinc (v := nI (i + 1)) (lv' := [(2, .int (nI (i + 1))), (1, .int (x + 0)), (0, .ref (ad (3 + j)))]) S.1 S.2.1 dX0_mills_32 hl (k := 1) rfl (nI_1 _) (by decide) rfl (fun ls hl => ?_)
          refine lv_goto (tgt := 4) S.1 S.2.1 dX0_mills_35 (by decide) ?_
          exact ih (i + 1) (x + 0) (by omega) (by rw [← show x + aq_mill1 Q i = x + 0 from by rw [aq_mill1, if_pos c3]]; exact hq) _ _ I ls (lv_sub hl [0, 1, 2] rfl)
        · refine lv_iconst (v := 1) S.1 S.2.1 dX0_mills_25 (by decide) ?_
          refine lv_goto (tgt := 30) S.1 S.2.1 dX0_mills_26 (by decide) ?_
          refine lv_iadd S.1 S.2.1 dX0_mills_30 ?_
          refine lv_istore_n (lv' := [(1, .int (x + 1)), (2, .int (nI i)), (0, .ref (ad (3 + j)))]) S.1 S.2.1 dX0_mills_31 rfl hl (by decide) rfl (fun ls hl => ?_)
          refine lv_iinc (v := nI (i + 1)) (lv' := [(2, .int (nI (i + 1))), (1, .int (x + 1)), (0, .ref (ad (3 + j)))]) S.1 S.2.1 dX0_mills_32 hl (k := 1) rfl (nI_1 _) (by decide) rfl (fun ls hl => ?_)
          refine lv_goto (tgt := 4) S.1 S.2.1 dX0_mills_35 (by decide) ?_
          exact ih (i + 1) (x + 1) (by omega) (by rw [← show x + aq_mill1 Q i = x + 1 from by rw [aq_mill1, if_neg c3]]; exact hq) _ _ I ls (lv_sub hl [0, 1, 2] rfl)
  refine lv_iconst (v := 0) S.1 S.2.1 dX0_mills_0 (by decide) ?_
  refine lv_istore_n (lv' := [(1, .int 0), (0, .ref (ad (3 + j)))]) S.1 S.2.1 dX0_mills_1 rfl hl (by decide) rfl (fun ls hl => ?_)
  refine lv_iconst (v := 0) S.1 S.2.1 dX0_mills_2 (by decide) ?_
  refine lv_istore_n (lv' := [(2, .int 0), (1, .int 0), (0, .ref (ad (3 + j)))]) S.1 S.2.1 dX0_mills_3 rfl hl (by decide) rfl (fun ls hl => ?_)
  exact L4 n 0 0 (by omega) rfl _ _ I ls (lv_sub hl [0, 1, 2] rfl)
theorem in_X0_water_X0 : ∀ w ∈ wsX00, w ∈ wsX0_water := fun _ h => List.mem_cons_of_mem _ (List.mem_append_left _ (List.mem_append_right _ h))
theorem in_X0_water_X1 : ∀ w ∈ wsX10, w ∈ wsX0_water := fun _ h => List.mem_cons_of_mem _ (List.mem_append_right _ h)
set_option maxHeartbeats 4000000 in
set_option maxRecDepth 100000 in
/-- X0_water -/
theorem c_X0_water (l : Launch) {D : va_G} {ad : Nat → Nat} {cI cQ : ClassId} (hJ : aq_J 49 ad) {V : aq_V} {Q : aq_Q} {j n : Nat} (hj : j < 2) (hn : Q 10 3 = nI n) (hn20 : n ≤ 20) : aq_Met l yX0_water wsX0_water ({ frames := 0, cells := 0, slots := 0, locals := 0 }) D (aC_t cI cQ) 49 ad [.ref (ad (3 + j))] (aC_w ad cI cQ (aq_ug V j Q)) (aq_Qi D (aC_t cI cQ) 49 ad (aq_over n 2 Q) (aC_w ad cI cQ (aq_ug V j Q))) 0 0 := by
  refine aq_enter (cc := cX0_water) (maxL := 3) (ret := some .int) (by decide) rfl (Nat.le_of_ble_eq_true rfl) ?_
  intro p e s m below meth c ls S hr hlocks hnm I hl
  have S : CallFix p m c cX0_water 3 s _ wsX0_water RX0 := S
  have hl : lv_has ls 3 [(0, .ref (ad (3 + j)))] := hl
  have L4 : ∀ (k : Nat) (i : Nat) (x : Int32), (i + k = n) → (aq_sum (Q 2) k i x = aq_over n 2 Q) → ∀ (H : Heap) (locs : List Loc), aq_I D (aC_t cI cQ) (aq_A 49 ad) (aC_w ad cI cQ (aq_ug V j Q)) s H locs → ∀ ls : Array Slot, lv_has ls 3 [(2, .int (nI i)), (1, .int x), (0, .ref (ad (3 + j)))] → W p l e ({ frames := 0, cells := 0, slots := 0, locals := 0 } : Room) s m (([.ref (ad (3 + j))] : List Value).toArray) below meth c H locs 0 0 (MQ below ((aq_Qi D (aC_t cI cQ) 49 ad (aq_over n 2 Q) (aC_w ad cI cQ (aq_ug V j Q))) s.heap.size) (([.ref (ad (3 + j))] : List Value).toArray) s 0 0 (aq_A 49 ad s.heap.size)) (F0 m 4 ls []) := by
    intro k
    induction k with
    | zero =>
      intro i x hk hq H locs I ls hl
      refine lv_iload_n S.1 S.2.1 dX0_water_4 rfl (lv_at hl 0 rfl) ?_
      refine lv_aload_n S.1 S.2.1 dX0_water_5 rfl (lv_at hl 2 rfl) ?_
      refine aC_getS (j := j) (x := nI n) S I hj 3 (by decide) (by decide) in_X0_water_X0 (List.mem_of_getElem? (i := 1) rfl) (by rw [aq_ug_s]; exact hn) dX0_water_6 ?_
      refine lv_icmp_ge (tgt := 30) S.1 S.2.1 dX0_water_9 (by decide) (fun c1 => ?_) (fun c1 => ?_)
      · have c1 : n ≤ i := (nI_leI (a := n) (b := i) (by omega) (by omega)).mp c1
        refine lv_iload_n S.1 S.2.1 dX0_water_30 rfl (lv_at hl 1 rfl) ?_
        exact aq_iret S.1 S.2.1 hr hlocks I dX0_water_31 (by decide) (by decide) hq rfl
      · have c1 : i < n := Nat.lt_of_not_le (fun z9 => c1 ((nI_leI (a := n) (b := i) (by omega) (by omega)).mpr z9))
        exfalso; omega
    | succ k ih =>
      intro i x hk hq H locs I ls hl
      refine lv_iload_n S.1 S.2.1 dX0_water_4 rfl (lv_at hl 0 rfl) ?_
      refine lv_aload_n S.1 S.2.1 dX0_water_5 rfl (lv_at hl 2 rfl) ?_
      refine aC_getS (j := j) (x := nI n) S I hj 3 (by decide) (by decide) in_X0_water_X0 (List.mem_of_getElem? (i := 1) rfl) (by rw [aq_ug_s]; exact hn) dX0_water_6 ?_
      refine lv_icmp_ge (tgt := 30) S.1 S.2.1 dX0_water_9 (by decide) (fun c2 => ?_) (fun c2 => ?_)
      · have c2 : n ≤ i := (nI_leI (a := n) (b := i) (by omega) (by omega)).mp c2
        exfalso; omega
      · have c2 : i < n := Nat.lt_of_not_le (fun z9 => c2 ((nI_leI (a := n) (b := i) (by omega) (by omega)).mpr z9))
        refine lv_iload_n S.1 S.2.1 dX0_water_12 rfl (lv_at hl 1 rfl) ?_
        refine lv_aload_n S.1 S.2.1 dX0_water_13 rfl (lv_at hl 2 rfl) ?_
        refine aC_getR (j := j) S I hj in_X0_water_X0 (List.mem_of_getElem? (i := 2) rfl) dX0_water_14 ?_
        refine lv_iload_n S.1 S.2.1 dX0_water_17 rfl (lv_at hl 0 rfl) ?_
        refine aC_row (j := j) (i := i) S I hj rfl (by omega) dX0_water_18 ?_
        refine aC_getA (j := j) (i := i) (x := Q 2 i) S I hj (by omega) 2 (by decide) in_X0_water_X1 (List.mem_of_getElem? (i := 3) rfl) (by rw [aq_ug_s]) dX0_water_19 ?_
        refine lv_iadd S.1 S.2.1 dX0_water_22 ?_
        refine lv_istore_n (lv' := [(1, .int (x + Q 2 i)), (2, .int (nI i)), (0, .ref (ad (3 + j)))]) S.1 S.2.1 dX0_water_23 rfl hl (by decide) rfl (fun ls hl => ?_)
        refine lv_iinc (v := nI (i + 1)) (lv' := [(2, .int (nI (i + 1))), (1, .int (x + Q 2 i)), (0, .ref (ad (3 + j)))]) S.1 S.2.1 dX0_water_24 hl (k := 1) rfl (nI_1 _) (by decide) rfl (fun ls hl => ?_)
        refine lv_goto (tgt := 4) S.1 S.2.1 dX0_water_27 (by decide) ?_
        exact ih (i + 1) (x + Q 2 i) (by omega) hq _ _ I ls (lv_sub hl [0, 1, 2] rfl)
  refine lv_iconst (v := 0) S.1 S.2.1 dX0_water_0 (by decide) ?_
  refine lv_istore_n (lv' := [(1, .int 0), (0, .ref (ad (3 + j)))]) S.1 S.2.1 dX0_water_1 rfl hl (by decide) rfl (fun ls hl => ?_)
  refine lv_iconst (v := 0) S.1 S.2.1 dX0_water_2 (by decide) ?_
  refine lv_istore_n (lv' := [(2, .int 0), (1, .int 0), (0, .ref (ad (3 + j)))]) S.1 S.2.1 dX0_water_3 rfl hl (by decide) rfl (fun ls hl => ?_)
  exact L4 n 0 0 (by omega) rfl _ _ I ls (lv_sub hl [0, 1, 2] rfl)
theorem in_X0_leaked_X0 : ∀ w ∈ wsX00, w ∈ wsX0_leaked := fun _ h => List.mem_cons_of_mem _ (List.mem_append_left _ (List.mem_append_right _ h))
theorem in_X0_leaked_X1 : ∀ w ∈ wsX10, w ∈ wsX0_leaked := fun _ h => List.mem_cons_of_mem _ (List.mem_append_right _ h)
set_option maxHeartbeats 4000000 in
set_option maxRecDepth 100000 in
/-- X0_leaked -/
theorem c_X0_leaked (l : Launch) {D : va_G} {ad : Nat → Nat} {cI cQ : ClassId} (hJ : aq_J 49 ad) {V : aq_V} {Q : aq_Q} {j n : Nat} (hj : j < 2) (hn : Q 10 3 = nI n) (hn20 : n ≤ 20) : aq_Met l yX0_leaked wsX0_leaked ({ frames := 0, cells := 0, slots := 0, locals := 0 }) D (aC_t cI cQ) 49 ad [.ref (ad (3 + j))] (aC_w ad cI cQ (aq_ug V j Q)) (aq_Qi D (aC_t cI cQ) 49 ad (aq_over n 5 Q) (aC_w ad cI cQ (aq_ug V j Q))) 0 0 := by
  refine aq_enter (cc := cX0_leaked) (maxL := 3) (ret := some .int) (by decide) rfl (Nat.le_of_ble_eq_true rfl) ?_
  intro p e s m below meth c ls S hr hlocks hnm I hl
  have S : CallFix p m c cX0_leaked 3 s _ wsX0_leaked RX0 := S
  have hl : lv_has ls 3 [(0, .ref (ad (3 + j)))] := hl
  have L4 : ∀ (k : Nat) (i : Nat) (x : Int32), (i + k = n) → (aq_sum (Q 5) k i x = aq_over n 5 Q) → ∀ (H : Heap) (locs : List Loc), aq_I D (aC_t cI cQ) (aq_A 49 ad) (aC_w ad cI cQ (aq_ug V j Q)) s H locs → ∀ ls : Array Slot, lv_has ls 3 [(2, .int (nI i)), (1, .int x), (0, .ref (ad (3 + j)))] → W p l e ({ frames := 0, cells := 0, slots := 0, locals := 0 } : Room) s m (([.ref (ad (3 + j))] : List Value).toArray) below meth c H locs 0 0 (MQ below ((aq_Qi D (aC_t cI cQ) 49 ad (aq_over n 5 Q) (aC_w ad cI cQ (aq_ug V j Q))) s.heap.size) (([.ref (ad (3 + j))] : List Value).toArray) s 0 0 (aq_A 49 ad s.heap.size)) (F0 m 4 ls []) := by
    intro k
    induction k with
    | zero =>
      intro i x hk hq H locs I ls hl
      refine lv_iload_n S.1 S.2.1 dX0_leaked_4 rfl (lv_at hl 0 rfl) ?_
      refine lv_aload_n S.1 S.2.1 dX0_leaked_5 rfl (lv_at hl 2 rfl) ?_
      refine aC_getS (j := j) (x := nI n) S I hj 3 (by decide) (by decide) in_X0_leaked_X0 (List.mem_of_getElem? (i := 1) rfl) (by rw [aq_ug_s]; exact hn) dX0_leaked_6 ?_
      refine lv_icmp_ge (tgt := 30) S.1 S.2.1 dX0_leaked_9 (by decide) (fun c1 => ?_) (fun c1 => ?_)
      · have c1 : n ≤ i := (nI_leI (a := n) (b := i) (by omega) (by omega)).mp c1
        refine lv_iload_n S.1 S.2.1 dX0_leaked_30 rfl (lv_at hl 1 rfl) ?_
        exact aq_iret S.1 S.2.1 hr hlocks I dX0_leaked_31 (by decide) (by decide) hq rfl
      · have c1 : i < n := Nat.lt_of_not_le (fun z9 => c1 ((nI_leI (a := n) (b := i) (by omega) (by omega)).mpr z9))
        exfalso; omega
    | succ k ih =>
      intro i x hk hq H locs I ls hl
      refine lv_iload_n S.1 S.2.1 dX0_leaked_4 rfl (lv_at hl 0 rfl) ?_
      refine lv_aload_n S.1 S.2.1 dX0_leaked_5 rfl (lv_at hl 2 rfl) ?_
      refine aC_getS (j := j) (x := nI n) S I hj 3 (by decide) (by decide) in_X0_leaked_X0 (List.mem_of_getElem? (i := 1) rfl) (by rw [aq_ug_s]; exact hn) dX0_leaked_6 ?_
      refine lv_icmp_ge (tgt := 30) S.1 S.2.1 dX0_leaked_9 (by decide) (fun c2 => ?_) (fun c2 => ?_)
      · have c2 : n ≤ i := (nI_leI (a := n) (b := i) (by omega) (by omega)).mp c2
        exfalso; omega
      · have c2 : i < n := Nat.lt_of_not_le (fun z9 => c2 ((nI_leI (a := n) (b := i) (by omega) (by omega)).mpr z9))
        refine lv_iload_n S.1 S.2.1 dX0_leaked_12 rfl (lv_at hl 1 rfl) ?_
        refine lv_aload_n S.1 S.2.1 dX0_leaked_13 rfl (lv_at hl 2 rfl) ?_
        refine aC_getR (j := j) S I hj in_X0_leaked_X0 (List.mem_of_getElem? (i := 2) rfl) dX0_leaked_14 ?_
        refine lv_iload_n S.1 S.2.1 dX0_leaked_17 rfl (lv_at hl 0 rfl) ?_
        refine aC_row (j := j) (i := i) S I hj rfl (by omega) dX0_leaked_18 ?_
        refine aC_getA (j := j) (i := i) (x := Q 5 i) S I hj (by omega) 5 (by decide) in_X0_leaked_X1 (List.mem_of_getElem? (i := 3) rfl) (by rw [aq_ug_s]) dX0_leaked_19 ?_
        refine lv_iadd S.1 S.2.1 dX0_leaked_22 ?_
        refine lv_istore_n (lv' := [(1, .int (x + Q 5 i)), (2, .int (nI i)), (0, .ref (ad (3 + j)))]) S.1 S.2.1 dX0_leaked_23 rfl hl (by decide) rfl (fun ls hl => ?_)
        refine lv_iinc (v := nI (i + 1)) (lv' := [(2, .int (nI (i + 1))), (1, .int (x + Q 5 i)), (0, .ref (ad (3 + j)))]) S.1 S.2.1 dX0_leaked_24 hl (k := 1) rfl (nI_1 _) (by decide) rfl (fun ls hl => ?_)
        refine lv_goto (tgt := 4) S.1 S.2.1 dX0_leaked_27 (by decide) ?_
        exact ih (i + 1) (x + Q 5 i) (by omega) hq _ _ I ls (lv_sub hl [0, 1, 2] rfl)
  refine lv_iconst (v := 0) S.1 S.2.1 dX0_leaked_0 (by decide) ?_
  refine lv_istore_n (lv' := [(1, .int 0), (0, .ref (ad (3 + j)))]) S.1 S.2.1 dX0_leaked_1 rfl hl (by decide) rfl (fun ls hl => ?_)
  refine lv_iconst (v := 0) S.1 S.2.1 dX0_leaked_2 (by decide) ?_
  refine lv_istore_n (lv' := [(2, .int 0), (1, .int 0), (0, .ref (ad (3 + j)))]) S.1 S.2.1 dX0_leaked_3 rfl hl (by decide) rfl (fun ls hl => ?_)
  exact L4 n 0 0 (by omega) rfl _ _ I ls (lv_sub hl [0, 1, 2] rfl)
theorem in_X0_flour_X0 : ∀ w ∈ wsX00, w ∈ wsX0_flour := fun _ h => List.mem_cons_of_mem _ (List.mem_append_left _ (List.mem_append_right _ h))
theorem in_X0_flour_X1 : ∀ w ∈ wsX10, w ∈ wsX0_flour := fun _ h => List.mem_cons_of_mem _ (List.mem_append_right _ h)
set_option maxHeartbeats 4000000 in
set_option maxRecDepth 100000 in
/-- X0_flour -/
theorem c_X0_flour (l : Launch) {D : va_G} {ad : Nat → Nat} {cI cQ : ClassId} (hJ : aq_J 49 ad) {V : aq_V} {Q : aq_Q} {j n : Nat} (hj : j < 2) (hn : Q 10 3 = nI n) (hn20 : n ≤ 20) : aq_Met l yX0_flour wsX0_flour ({ frames := 0, cells := 0, slots := 0, locals := 0 }) D (aC_t cI cQ) 49 ad [.ref (ad (3 + j))] (aC_w ad cI cQ (aq_ug V j Q)) (aq_Qi D (aC_t cI cQ) 49 ad (aq_over n 8 Q) (aC_w ad cI cQ (aq_ug V j Q))) 0 0 := by
  refine aq_enter (cc := cX0_flour) (maxL := 3) (ret := some .int) (by decide) rfl (Nat.le_of_ble_eq_true rfl) ?_
  intro p e s m below meth c ls S hr hlocks hnm I hl
  have S : CallFix p m c cX0_flour 3 s _ wsX0_flour RX0 := S
  have hl : lv_has ls 3 [(0, .ref (ad (3 + j)))] := hl
  have L4 : ∀ (k : Nat) (i : Nat) (x : Int32), (i + k = n) → (aq_sum (Q 8) k i x = aq_over n 8 Q) → ∀ (H : Heap) (locs : List Loc), aq_I D (aC_t cI cQ) (aq_A 49 ad) (aC_w ad cI cQ (aq_ug V j Q)) s H locs → ∀ ls : Array Slot, lv_has ls 3 [(2, .int (nI i)), (1, .int x), (0, .ref (ad (3 + j)))] → W p l e ({ frames := 0, cells := 0, slots := 0, locals := 0 } : Room) s m (([.ref (ad (3 + j))] : List Value).toArray) below meth c H locs 0 0 (MQ below ((aq_Qi D (aC_t cI cQ) 49 ad (aq_over n 8 Q) (aC_w ad cI cQ (aq_ug V j Q))) s.heap.size) (([.ref (ad (3 + j))] : List Value).toArray) s 0 0 (aq_A 49 ad s.heap.size)) (F0 m 4 ls []) := by
    intro k
    induction k with
    | zero =>
      intro i x hk hq H locs I ls hl
      refine lv_iload_n S.1 S.2.1 dX0_flour_4 rfl (lv_at hl 0 rfl) ?_
      refine lv_aload_n S.1 S.2.1 dX0_flour_5 rfl (lv_at hl 2 rfl) ?_
      refine aC_getS (j := j) (x := nI n) S I hj 3 (by decide) (by decide) in_X0_flour_X0 (List.mem_of_getElem? (i := 1) rfl) (by rw [aq_ug_s]; exact hn) dX0_flour_6 ?_
      refine lv_icmp_ge (tgt := 30) S.1 S.2.1 dX0_flour_9 (by decide) (fun c1 => ?_) (fun c1 => ?_)
      · have c1 : n ≤ i := (nI_leI (a := n) (b := i) (by omega) (by omega)).mp c1
        refine lv_iload_n S.1 S.2.1 dX0_flour_30 rfl (lv_at hl 1 rfl) ?_
        exact aq_iret S.1 S.2.1 hr hlocks I dX0_flour_31 (by decide) (by decide) hq rfl
      · have c1 : i < n := Nat.lt_of_not_le (fun z9 => c1 ((nI_leI (a := n) (b := i) (by omega) (by omega)).mpr z9))
        exfalso; omega
    | succ k ih =>
      intro i x hk hq H locs I ls hl
      refine lv_iload_n S.1 S.2.1 dX0_flour_4 rfl (lv_at hl 0 rfl) ?_
      refine lv_aload_n S.1 S.2.1 dX0_flour_5 rfl (lv_at hl 2 rfl) ?_
      refine aC_getS (j := j) (x := nI n) S I hj 3 (by decide) (by decide) in_X0_flour_X0 (List.mem_of_getElem? (i := 1) rfl) (by rw [aq_ug_s]; exact hn) dX0_flour_6 ?_
      refine lv_icmp_ge (tgt := 30) S.1 S.2.1 dX0_flour_9 (by decide) (fun c2 => ?_) (fun c2 => ?_)
      · have c2 : n ≤ i := (nI_leI (a := n) (b := i) (by omega) (by omega)).mp c2
        exfalso; omega
      · have c2 : i < n := Nat.lt_of_not_le (fun z9 => c2 ((nI_leI (a := n) (b := i) (by omega) (by omega)).mpr z9))
        refine lv_iload_n S.1 S.2.1 dX0_flour_12 rfl (lv_at hl 1 rfl) ?_
        refine lv_aload_n S.1 S.2.1 dX0_flour_13 rfl (lv_at hl 2 rfl) ?_
        refine aC_getR (j := j) S I hj in_X0_flour_X0 (List.mem_of_getElem? (i := 2) rfl) dX0_flour_14 ?_
        refine lv_iload_n S.1 S.2.1 dX0_flour_17 rfl (lv_at hl 0 rfl) ?_
        refine aC_row (j := j) (i := i) S I hj rfl (by omega) dX0_flour_18 ?_
        refine aC_getA (j := j) (i := i) (x := Q 8 i) S I hj (by omega) 8 (by decide) in_X0_flour_X1 (List.mem_of_getElem? (i := 3) rfl) (by rw [aq_ug_s]) dX0_flour_19 ?_
        refine lv_iadd S.1 S.2.1 dX0_flour_22 ?_
        refine lv_istore_n (lv' := [(1, .int (x + Q 8 i)), (2, .int (nI i)), (0, .ref (ad (3 + j)))]) S.1 S.2.1 dX0_flour_23 rfl hl (by decide) rfl (fun ls hl => ?_)
        refine lv_iinc (v := nI (i + 1)) (lv' := [(2, .int (nI (i + 1))), (1, .int (x + Q 8 i)), (0, .ref (ad (3 + j)))]) S.1 S.2.1 dX0_flour_24 hl (k := 1) rfl (nI_1 _) (by decide) rfl (fun ls hl => ?_)
        refine lv_goto (tgt := 4) S.1 S.2.1 dX0_flour_27 (by decide) ?_
        exact ih (i + 1) (x + Q 8 i) (by omega) hq _ _ I ls (lv_sub hl [0, 1, 2] rfl)
  refine lv_iconst (v := 0) S.1 S.2.1 dX0_flour_0 (by decide) ?_
  refine lv_istore_n (lv' := [(1, .int 0), (0, .ref (ad (3 + j)))]) S.1 S.2.1 dX0_flour_1 rfl hl (by decide) rfl (fun ls hl => ?_)
  refine lv_iconst (v := 0) S.1 S.2.1 dX0_flour_2 (by decide) ?_
  refine lv_istore_n (lv' := [(2, .int 0), (1, .int 0), (0, .ref (ad (3 + j)))]) S.1 S.2.1 dX0_flour_3 rfl hl (by decide) rfl (fun ls hl => ?_)
  exact L4 n 0 0 (by omega) rfl _ _ I ls (lv_sub hl [0, 1, 2] rfl)
theorem in_X0_countNumber_X0 : ∀ w ∈ wsX00, w ∈ wsX0_countNumber := fun _ h => List.mem_cons_of_mem _ (List.mem_append_left _ (List.mem_append_right _ h))
set_option maxHeartbeats 4000000 in
set_option maxRecDepth 100000 in
/-- X0_countNumber -/
theorem c_X0_countNumber (l : Launch) {D : va_G} {ad : Nat → Nat} {cI cQ : ClassId} (hJ : aq_J 49 ad) {V : aq_V} {Q : aq_Q} {j n : Nat} (hj : j < 2) (hn : Q 10 3 = nI n) (hn20 : n ≤ 20) {w : Nat} (hw : w < 12) : aq_Met l yX0_countNumber wsX0_countNumber ({ frames := 2, cells := 0, slots := 0, locals := 42 }) D (aC_t cI cQ) 49 ad [.ref (ad (3 + j)), .int (nI w)] (aC_w ad cI cQ (aq_ug V j Q)) (aq_Qi D (aC_t cI cQ) 49 ad (aq_countNo n Q w) (aC_w ad cI cQ (aq_ug V j Q))) 0 0 := by
  refine aq_enter (cc := cX0_countNumber) (maxL := 2) (ret := some .int) (by decide) rfl (Nat.le_of_ble_eq_true rfl) ?_
  intro p e s m below meth c ls S hr hlocks hnm I hl
  have S : CallFix p m c cX0_countNumber 2 s _ wsX0_countNumber RX0 := S
  have hl : lv_has ls 2 [(0, .ref (ad (3 + j))), (1, .int (nI w))] := hl
  refine lv_iload_n S.1 S.2.1 dX0_countNumber_0 rfl (lv_at hl 1 rfl) ?_
  rcases (show w = 0 ∨ w = 1 ∨ w = 2 ∨ w = 3 ∨ w = 4 ∨ w = 5 ∨ w = 6 ∨ w = 7 ∨ w = 8 ∨ w = 9 ∨ w = 10 ∨ w = 11 by omega) with rfl | rfl | rfl | rfl | rfl | rfl | rfl | rfl | rfl | rfl | rfl | rfl
  · refine lv_tableIn (x := nI 0) (tgt := 60) S.1 S.2.1 dX0_countNumber_1 (by decide) (by decide) rfl (by decide) ?_
    have hl : lv_has ls 2 [(0, .ref (ad (3 + j))), (1, .int (nI 0))] := hl
    refine lv_aload_n S.1 S.2.1 dX0_countNumber_60 rfl (lv_at hl 0 rfl) ?_
    refine aC_getS (j := j) (x := Q 10 4) S I hj 4 (by decide) (by decide) in_X0_countNumber_X0 (List.mem_of_getElem? (i := 1) rfl) (by rw [aq_ug_s]) dX0_countNumber_61 ?_
    exact aq_iret S.1 S.2.1 hr hlocks I dX0_countNumber_64 (by decide) (by decide) (by subst_vars; first | rfl | (simp only [aq_countNo]; done) | (simp only [aq_countNo]; rfl)) (by subst_vars; first | rfl | (simp only [aq_countNo]; done) | (simp only [aq_countNo]; rfl))
  · refine lv_tableIn (x := nI 1) (tgt := 65) S.1 S.2.1 dX0_countNumber_1 (by decide) (by decide) rfl (by decide) ?_
    have hl : lv_has ls 2 [(0, .ref (ad (3 + j))), (1, .int (nI 1))] := hl
    refine lv_aload_n S.1 S.2.1 dX0_countNumber_65 rfl (lv_at hl 0 rfl) ?_
    refine aC_getS (j := j) (x := nI n) S I hj 3 (by decide) (by decide) in_X0_countNumber_X0 (List.mem_of_getElem? (i := 2) rfl) (by rw [aq_ug_s]; exact hn) dX0_countNumber_66 ?_
    exact aq_iret S.1 S.2.1 hr hlocks I dX0_countNumber_69 (by decide) (by decide) (by subst_vars; first | rfl | (simp only [aq_countNo]; done) | (simp only [aq_countNo]; rfl)) (by subst_vars; first | rfl | (simp only [aq_countNo]; done) | (simp only [aq_countNo]; rfl))
  · refine lv_tableIn (x := nI 2) (tgt := 70) S.1 S.2.1 dX0_countNumber_1 (by decide) (by decide) rfl (by decide) ?_
    have hl : lv_has ls 2 [(0, .ref (ad (3 + j))), (1, .int (nI 2))] := hl
    refine lv_aload_n S.1 S.2.1 dX0_countNumber_70 rfl (lv_at hl 0 rfl) ?_
    refine aq_callVi (As := []) (rest := []) S (c_X0_mills l hJ (V := V) (Q := Q) (j := j) hj hn hn20  ) (cwV 0 S.2.2.2.2 gX0_countNumber_X0_mills rfl rfl rfl (by decide +kernel) ⟨Nat.le_of_ble_eq_true rfl, Nat.le_of_ble_eq_true rfl⟩) (aC_recvS (j := j) I hj) I hl.1 dX0_countNumber_71 rfl rfl (Nat.le_of_ble_eq_true rfl) ⟨by first | decide | (dsimp only; omega), by first | decide | (dsimp only; omega)⟩ (fun H locs I => ?_)
    exact aq_iret S.1 S.2.1 hr hlocks I dX0_countNumber_74 (by decide) (by decide) (by subst_vars; first | rfl | (simp only [aq_countNo]; done) | (simp only [aq_countNo]; rfl)) (by subst_vars; first | rfl | (simp only [aq_countNo]; done) | (simp only [aq_countNo]; rfl))
  · refine lv_tableIn (x := nI 3) (tgt := 75) S.1 S.2.1 dX0_countNumber_1 (by decide) (by decide) rfl (by decide) ?_
    have hl : lv_has ls 2 [(0, .ref (ad (3 + j))), (1, .int (nI 3))] := hl
    refine lv_aload_n S.1 S.2.1 dX0_countNumber_75 rfl (lv_at hl 0 rfl) ?_
    refine aC_getS (j := j) (x := Q 10 5) S I hj 5 (by decide) (by decide) in_X0_countNumber_X0 (List.mem_of_getElem? (i := 3) rfl) (by rw [aq_ug_s]) dX0_countNumber_76 ?_
    exact aq_iret S.1 S.2.1 hr hlocks I dX0_countNumber_79 (by decide) (by decide) (by subst_vars; first | rfl | (simp only [aq_countNo]; done) | (simp only [aq_countNo]; rfl)) (by subst_vars; first | rfl | (simp only [aq_countNo]; done) | (simp only [aq_countNo]; rfl))
  · refine lv_tableIn (x := nI 4) (tgt := 80) S.1 S.2.1 dX0_countNumber_1 (by decide) (by decide) rfl (by decide) ?_
    have hl : lv_has ls 2 [(0, .ref (ad (3 + j))), (1, .int (nI 4))] := hl
    refine lv_aload_n S.1 S.2.1 dX0_countNumber_80 rfl (lv_at hl 0 rfl) ?_
    refine aC_getS (j := j) (x := Q 10 7) S I hj 7 (by decide) (by decide) in_X0_countNumber_X0 (List.mem_of_getElem? (i := 4) rfl) (by rw [aq_ug_s]) dX0_countNumber_81 ?_
    exact aq_iret S.1 S.2.1 hr hlocks I dX0_countNumber_84 (by decide) (by decide) (by subst_vars; first | rfl | (simp only [aq_countNo]; done) | (simp only [aq_countNo]; rfl)) (by subst_vars; first | rfl | (simp only [aq_countNo]; done) | (simp only [aq_countNo]; rfl))
  · refine lv_tableIn (x := nI 5) (tgt := 85) S.1 S.2.1 dX0_countNumber_1 (by decide) (by decide) rfl (by decide) ?_
    have hl : lv_has ls 2 [(0, .ref (ad (3 + j))), (1, .int (nI 5))] := hl
    refine lv_aload_n S.1 S.2.1 dX0_countNumber_85 rfl (lv_at hl 0 rfl) ?_
    refine aq_callVi (As := []) (rest := []) S (c_X0_water l hJ (V := V) (Q := Q) (j := j) hj hn hn20  ) (cwV 0 S.2.2.2.2 gX0_countNumber_X0_water rfl rfl rfl (by decide +kernel) ⟨Nat.le_of_ble_eq_true rfl, Nat.le_of_ble_eq_true rfl⟩) (aC_recvS (j := j) I hj) I hl.1 dX0_countNumber_86 rfl rfl (Nat.le_of_ble_eq_true rfl) ⟨by first | decide | (dsimp only; omega), by first | decide | (dsimp only; omega)⟩ (fun H locs I => ?_)
    exact aq_iret S.1 S.2.1 hr hlocks I dX0_countNumber_89 (by decide) (by decide) (by subst_vars; first | rfl | (simp only [aq_countNo]; done) | (simp only [aq_countNo]; rfl)) (by subst_vars; first | rfl | (simp only [aq_countNo]; done) | (simp only [aq_countNo]; rfl))
  · refine lv_tableIn (x := nI 6) (tgt := 90) S.1 S.2.1 dX0_countNumber_1 (by decide) (by decide) rfl (by decide) ?_
    have hl : lv_has ls 2 [(0, .ref (ad (3 + j))), (1, .int (nI 6))] := hl
    refine lv_aload_n S.1 S.2.1 dX0_countNumber_90 rfl (lv_at hl 0 rfl) ?_
    refine aC_getS (j := j) (x := Q 10 8) S I hj 8 (by decide) (by decide) in_X0_countNumber_X0 (List.mem_of_getElem? (i := 5) rfl) (by rw [aq_ug_s]) dX0_countNumber_91 ?_
    exact aq_iret S.1 S.2.1 hr hlocks I dX0_countNumber_94 (by decide) (by decide) (by subst_vars; first | rfl | (simp only [aq_countNo]; done) | (simp only [aq_countNo]; rfl)) (by subst_vars; first | rfl | (simp only [aq_countNo]; done) | (simp only [aq_countNo]; rfl))
  · refine lv_tableIn (x := nI 7) (tgt := 95) S.1 S.2.1 dX0_countNumber_1 (by decide) (by decide) rfl (by decide) ?_
    have hl : lv_has ls 2 [(0, .ref (ad (3 + j))), (1, .int (nI 7))] := hl
    refine lv_aload_n S.1 S.2.1 dX0_countNumber_95 rfl (lv_at hl 0 rfl) ?_
    refine aC_getS (j := j) (x := Q 10 9) S I hj 9 (by decide) (by decide) in_X0_countNumber_X0 (List.mem_of_getElem? (i := 6) rfl) (by rw [aq_ug_s]) dX0_countNumber_96 ?_
    exact aq_iret S.1 S.2.1 hr hlocks I dX0_countNumber_99 (by decide) (by decide) (by subst_vars; first | rfl | (simp only [aq_countNo]; done) | (simp only [aq_countNo]; rfl)) (by subst_vars; first | rfl | (simp only [aq_countNo]; done) | (simp only [aq_countNo]; rfl))
  · refine lv_tableIn (x := nI 8) (tgt := 100) S.1 S.2.1 dX0_countNumber_1 (by decide) (by decide) rfl (by decide) ?_
    have hl : lv_has ls 2 [(0, .ref (ad (3 + j))), (1, .int (nI 8))] := hl
    refine lv_aload_n S.1 S.2.1 dX0_countNumber_100 rfl (lv_at hl 0 rfl) ?_
    refine aq_callVi (As := []) (rest := []) S (c_X0_leaked l hJ (V := V) (Q := Q) (j := j) hj hn hn20  ) (cwV 0 S.2.2.2.2 gX0_countNumber_X0_leaked rfl rfl rfl (by decide +kernel) ⟨Nat.le_of_ble_eq_true rfl, Nat.le_of_ble_eq_true rfl⟩) (aC_recvS (j := j) I hj) I hl.1 dX0_countNumber_101 rfl rfl (Nat.le_of_ble_eq_true rfl) ⟨by first | decide | (dsimp only; omega), by first | decide | (dsimp only; omega)⟩ (fun H locs I => ?_)
    exact aq_iret S.1 S.2.1 hr hlocks I dX0_countNumber_104 (by decide) (by decide) (by subst_vars; first | rfl | (simp only [aq_countNo]; done) | (simp only [aq_countNo]; rfl)) (by subst_vars; first | rfl | (simp only [aq_countNo]; done) | (simp only [aq_countNo]; rfl))
  · refine lv_tableIn (x := nI 9) (tgt := 105) S.1 S.2.1 dX0_countNumber_1 (by decide) (by decide) rfl (by decide) ?_
    have hl : lv_has ls 2 [(0, .ref (ad (3 + j))), (1, .int (nI 9))] := hl
    refine lv_aload_n S.1 S.2.1 dX0_countNumber_105 rfl (lv_at hl 0 rfl) ?_
    refine aC_getS (j := j) (x := Q 10 10) S I hj 10 (by decide) (by decide) in_X0_countNumber_X0 (List.mem_of_getElem? (i := 7) rfl) (by rw [aq_ug_s]) dX0_countNumber_106 ?_
    exact aq_iret S.1 S.2.1 hr hlocks I dX0_countNumber_109 (by decide) (by decide) (by subst_vars; first | rfl | (simp only [aq_countNo]; done) | (simp only [aq_countNo]; rfl)) (by subst_vars; first | rfl | (simp only [aq_countNo]; done) | (simp only [aq_countNo]; rfl))
  · refine lv_tableIn (x := nI 10) (tgt := 110) S.1 S.2.1 dX0_countNumber_1 (by decide) (by decide) rfl (by decide) ?_
    have hl : lv_has ls 2 [(0, .ref (ad (3 + j))), (1, .int (nI 10))] := hl
    refine lv_aload_n S.1 S.2.1 dX0_countNumber_110 rfl (lv_at hl 0 rfl) ?_
    refine aC_getS (j := j) (x := Q 10 11) S I hj 11 (by decide) (by decide) in_X0_countNumber_X0 (List.mem_of_getElem? (i := 8) rfl) (by rw [aq_ug_s]) dX0_countNumber_111 ?_
    exact aq_iret S.1 S.2.1 hr hlocks I dX0_countNumber_114 (by decide) (by decide) (by subst_vars; first | rfl | (simp only [aq_countNo]; done) | (simp only [aq_countNo]; rfl)) (by subst_vars; first | rfl | (simp only [aq_countNo]; done) | (simp only [aq_countNo]; rfl))
  · refine lv_tableOut (x := nI 11) (tgt := 115) S.1 S.2.1 dX0_countNumber_1 (by decide) (by decide) ?_
    have hl : lv_has ls 2 [(0, .ref (ad (3 + j))), (1, .int (nI 11))] := hl
    refine lv_aload_n S.1 S.2.1 dX0_countNumber_115 rfl (lv_at hl 0 rfl) ?_
    refine aC_getS (j := j) (x := Q 10 12) S I hj 12 (by decide) (by decide) in_X0_countNumber_X0 (List.mem_of_getElem? (i := 9) rfl) (by rw [aq_ug_s]) dX0_countNumber_116 ?_
    exact aq_iret S.1 S.2.1 hr hlocks I dX0_countNumber_119 (by decide) (by decide) (by subst_vars; first | rfl | (simp only [aq_countNo]; done) | (simp only [aq_countNo]; rfl)) (by subst_vars; first | rfl | (simp only [aq_countNo]; done) | (simp only [aq_countNo]; rfl))
theorem in_X0_goOnAnHour_X0 : ∀ w ∈ wsX00, w ∈ wsX0_goOnAnHour := fun _ h => List.mem_cons_of_mem _ (List.mem_append_left _ (List.mem_append_right _ h))
set_option maxHeartbeats 4000000 in
set_option maxRecDepth 100000 in
/-- X0_goOnAnHour -/
theorem c_X0_goOnAnHour (l : Launch) {D : va_G} {ad : Nat → Nat} {cI cQ : ClassId} (hJ : aq_J 49 ad) {V : aq_V} {Q : aq_Q} {j n : Nat} (hj : j < 2) (hn : Q 10 3 = nI n) (hn20 : n ≤ 20) {T : aq_Q} (hT : V (2 + j) = T) {h : Nat} (hh : Q 10 4 = nI h) (h31 : h < 2 ^ 31) : aq_Met l yX0_goOnAnHour wsX0_goOnAnHour ({ frames := 4, cells := 0, slots := 0, locals := 90 }) D (aC_t cI cQ) 49 ad [.ref (ad (3 + j))] (aC_w ad cI cQ (aq_ug V j Q)) (aq_Qv D (aC_t cI cQ) 49 ad (aC_w ad cI cQ (aq_ug V j (aq_hourD n T (h % 24) Q)))) 0 0 := by
  refine aq_enter (cc := cX0_goOnAnHour) (maxL := 3) (ret := none) (by decide) rfl (Nat.le_of_ble_eq_true rfl) ?_
  intro p e s m below meth c ls S hr hlocks hnm I hl
  have S : CallFix p m c cX0_goOnAnHour 3 s _ wsX0_goOnAnHour RX0 := S
  have hl : lv_has ls 3 [(0, .ref (ad (3 + j)))] := hl
  obtain ⟨d, hd⟩ : ∃ d : Nat, d = h % 24 := ⟨_, rfl⟩
  have hd24 : d < 24 := by omega
  have L75 : ∀ (k : Nat) (i : Nat) (Q' : aq_Q), (i + k = n) → (Q' 10 3 = nI n) → (aq_leakAll k i Q' = aq_hour5 n T d Q) → ∀ (H : Heap) (locs : List Loc), aq_I D (aC_t cI cQ) (aq_A 49 ad) (aC_w ad cI cQ (aq_ug V j (Q'))) s H locs → ∀ ls : Array Slot, lv_has ls 3 [(2, .int (nI i)), (0, .ref (ad (3 + j))), (1, .int (nI d))] → W p l e ({ frames := 4, cells := 0, slots := 0, locals := 90 } : Room) s m (([.ref (ad (3 + j))] : List Value).toArray) below meth c H locs 0 0 (MQ below ((aq_Qv D (aC_t cI cQ) 49 ad (aC_w ad cI cQ (aq_ug V j (aq_hourD n T (h % 24) Q)))) s.heap.size) (([.ref (ad (3 + j))] : List Value).toArray) s 0 0 (aq_A 49 ad s.heap.size)) (F0 m 75 ls []) := by
    intro k
    induction k with
    | zero =>
      intro i Q' hk hn' hq H locs I ls hl
      refine lv_iload_n S.1 S.2.1 dX0_goOnAnHour_75 rfl (lv_at hl 0 rfl) ?_
      refine lv_aload_n S.1 S.2.1 dX0_goOnAnHour_76 rfl (lv_at hl 1 rfl) ?_
      refine aC_getS (j := j) (x := nI n) S I hj 3 (by decide) (by decide) in_X0_goOnAnHour_X0 (List.mem_of_getElem? (i := 3) rfl) (by rw [aq_ug_s]; exact hn') dX0_goOnAnHour_77 ?_
      refine lv_icmp_ge (tgt := 98) S.1 S.2.1 dX0_goOnAnHour_80 (by decide) (fun c1 => ?_) (fun c1 => ?_)
      · have c1 : n ≤ i := (nI_leI (a := n) (b := i) (by omega) (by omega)).mp c1
        refine lv_iload_n S.1 S.2.1 dX0_goOnAnHour_98 rfl (lv_at hl 2 rfl) ?_
        refine lv_bipush (v := 23) S.1 S.2.1 dX0_goOnAnHour_99 (by decide) ?_
        refine lv_icmp_ne (tgt := 108) S.1 S.2.1 dX0_goOnAnHour_101 (by decide) (fun c2 => ?_) (fun c2 => ?_)
        · have c2 : ¬ d = 23 := fun z9 => c2 ((nI_eq (a := d) (b := 23) (by omega) (by omega)).mpr z9)
          refine lv_aload_n S.1 S.2.1 dX0_goOnAnHour_108 rfl (lv_at hl 1 rfl) ?_
          refine lv_dup S.1 S.2.1 dX0_goOnAnHour_109 rfl ?_
          refine aC_getS (j := j) (x := Q' 10 4) S I hj 4 (by decide) (by decide) in_X0_goOnAnHour_X0 (List.mem_of_getElem? (i := 1) rfl) (by rw [aq_ug_s]) dX0_goOnAnHour_110 ?_
          refine lv_iconst (v := 1) S.1 S.2.1 dX0_goOnAnHour_113 (by decide) ?_
          refine lv_iadd S.1 S.2.1 dX0_goOnAnHour_114 ?_
          refine aC_putS (V := V) (Q := Q') (j := j) (x := (Q' 10 4) + 1) hJ S I hj 4 (by decide) (by decide) in_X0_goOnAnHour_X0 (List.mem_of_getElem? (i := 1) rfl) dX0_goOnAnHour_115 (fun H locs M3 hM3 I => ?_)
          exact aq_vret S.1 S.2.1 hr hlocks I dX0_goOnAnHour_118 (by decide) (by decide) (by rw [hM3, ← hd]; exact congrArg (fun z => aC_w ad cI cQ (aq_ug V j (aq_up z 10 4 (z 10 4 + 1)))) (show _ = aq_hour6 n T d Q from by rw [aq_hour6, if_neg c2]; exact hq))
        · have c2 : d = 23 := (nI_eq (a := d) (b := 23) (by omega) (by omega)).mp c2
          refine lv_aload_n S.1 S.2.1 dX0_goOnAnHour_104 rfl (lv_at hl 1 rfl) ?_
          refine aq_callVv (As := []) (rest := []) S (c_X0_wearAll l hJ (V := V) (Q := Q') (j := j) hj hn' hn20) (cwV 0 S.2.2.2.2 gX0_goOnAnHour_X0_wearAll rfl rfl rfl (by decide +kernel) ⟨Nat.le_of_ble_eq_true rfl, Nat.le_of_ble_eq_true rfl⟩) (aC_recvS (j := j) I hj) I hl.1 dX0_goOnAnHour_105 rfl rfl (Nat.le_of_ble_eq_true rfl) ⟨by first | decide | (dsimp only; omega), by first | decide | (dsimp only; omega)⟩ (fun H locs I => ?_)
          obtain ⟨M4, hM4⟩ : ∃ z9 : aq_Q, z9 = aq_wearAll n 0 Q' := ⟨_, rfl⟩
          rw [← hM4] at I
          refine lv_aload_n S.1 S.2.1 dX0_goOnAnHour_108 rfl (lv_at hl 1 rfl) ?_
          refine lv_dup S.1 S.2.1 dX0_goOnAnHour_109 rfl ?_
          refine aC_getS (j := j) (x := M4 10 4) S I hj 4 (by decide) (by decide) in_X0_goOnAnHour_X0 (List.mem_of_getElem? (i := 1) rfl) (by rw [aq_ug_s]) dX0_goOnAnHour_110 ?_
          refine lv_iconst (v := 1) S.1 S.2.1 dX0_goOnAnHour_113 (by decide) ?_
          refine lv_iadd S.1 S.2.1 dX0_goOnAnHour_114 ?_
          refine aC_putS (V := V) (Q := M4) (j := j) (x := M4 10 4 + 1) hJ S I hj 4 (by decide) (by decide) in_X0_goOnAnHour_X0 (List.mem_of_getElem? (i := 1) rfl) dX0_goOnAnHour_115 (fun H locs M5 hM5 I => ?_)
          exact aq_vret S.1 S.2.1 hr hlocks I dX0_goOnAnHour_118 (by decide) (by decide) (by rw [hM5, hM4, ← hd]; exact congrArg (fun z => aC_w ad cI cQ (aq_ug V j (aq_up z 10 4 (z 10 4 + 1)))) (show _ = aq_hour6 n T d Q from by rw [aq_hour6, if_pos c2]; exact congrArg (aq_wearAll n 0) hq))
      · have c1 : i < n := Nat.lt_of_not_le (fun z9 => c1 ((nI_leI (a := n) (b := i) (by omega) (by omega)).mpr z9))
        exfalso; omega
    | succ k ih =>
      intro i Q' hk hn' hq H locs I ls hl
      refine lv_iload_n S.1 S.2.1 dX0_goOnAnHour_75 rfl (lv_at hl 0 rfl) ?_
      refine lv_aload_n S.1 S.2.1 dX0_goOnAnHour_76 rfl (lv_at hl 1 rfl) ?_
      refine aC_getS (j := j) (x := nI n) S I hj 3 (by decide) (by decide) in_X0_goOnAnHour_X0 (List.mem_of_getElem? (i := 3) rfl) (by rw [aq_ug_s]; exact hn') dX0_goOnAnHour_77 ?_
      refine lv_icmp_ge (tgt := 98) S.1 S.2.1 dX0_goOnAnHour_80 (by decide) (fun c6 => ?_) (fun c6 => ?_)
      · have c6 : n ≤ i := (nI_leI (a := n) (b := i) (by omega) (by omega)).mp c6
        exfalso; omega
      · have c6 : i < n := Nat.lt_of_not_le (fun z9 => c6 ((nI_leI (a := n) (b := i) (by omega) (by omega)).mpr z9))
        refine lv_aload_n S.1 S.2.1 dX0_goOnAnHour_83 rfl (lv_at hl 1 rfl) ?_
        refine aC_getR (j := j) S I hj in_X0_goOnAnHour_X0 (List.mem_of_getElem? (i := 5) rfl) dX0_goOnAnHour_84 ?_
        refine lv_iload_n S.1 S.2.1 dX0_goOnAnHour_87 rfl (lv_at hl 0 rfl) ?_
        refine aC_row (j := j) (i := i) S I hj rfl (by omega) dX0_goOnAnHour_88 ?_
        refine aq_callVv (As := []) (rest := []) S (c_X1_leak l hJ (V := V) (Q := Q') (j := j) (i := i) hj (by omega) ) (cwV 0 S.2.2.2.2 gX0_goOnAnHour_X1_leak rfl rfl rfl (by decide +kernel) ⟨Nat.le_of_ble_eq_true rfl, Nat.le_of_ble_eq_true rfl⟩) (aC_recvA (j := j) (i := i) I hj (by omega)) I hl.1 dX0_goOnAnHour_89 rfl rfl (Nat.le_of_ble_eq_true rfl) ⟨by first | decide | (dsimp only; omega), by first | decide | (dsimp only; omega)⟩ (fun H locs I => ?_)
        obtain ⟨M7, hM7⟩ : ∃ z9 : aq_Q, z9 = aq_leakQ Q' i := ⟨_, rfl⟩
        rw [← hM7] at I
        refine lv_iinc (v := nI (i + 1)) (lv' := [(2, .int (nI (i + 1))), (0, .ref (ad (3 + j))), (1, .int (nI d))]) S.1 S.2.1 dX0_goOnAnHour_92 hl (k := 0) rfl (nI_1 _) (by decide) rfl (fun ls hl => ?_)
        refine lv_goto (tgt := 75) S.1 S.2.1 dX0_goOnAnHour_95 (by decide) ?_
        have hn_M7 : M7 10 3 = nI n := by rw [hM7]; exact (aq_leakQ_n _ _).trans hn'
        exact ih (i + 1) M7 (by omega) hn_M7 (by rw [hM7]; exact hq) _ _ I ls (lv_sub hl [0, 1, 2] rfl)
  have L44 : ∀ (k : Nat) (i : Nat) (Q' : aq_Q), (i + k = n) → (Q' 10 3 = nI n) → (aq_grindAll n k i Q' = (aq_grindAll n n 0 (aq_sendAll n n (aq_drinkQ Q (T 1 d))))) → ∀ (H : Heap) (locs : List Loc), aq_I D (aC_t cI cQ) (aq_A 49 ad) (aC_w ad cI cQ (aq_ug V j (Q'))) s H locs → ∀ ls : Array Slot, lv_has ls 3 [(2, .int (nI i)), (0, .ref (ad (3 + j))), (1, .int (nI d))] → W p l e ({ frames := 4, cells := 0, slots := 0, locals := 90 } : Room) s m (([.ref (ad (3 + j))] : List Value).toArray) below meth c H locs 0 0 (MQ below ((aq_Qv D (aC_t cI cQ) 49 ad (aC_w ad cI cQ (aq_ug V j (aq_hourD n T (h % 24) Q)))) s.heap.size) (([.ref (ad (3 + j))] : List Value).toArray) s 0 0 (aq_A 49 ad s.heap.size)) (F0 m 44 ls []) := by
    intro k
    induction k with
    | zero =>
      intro i Q' hk hn' hq H locs I ls hl
      refine lv_iload_n S.1 S.2.1 dX0_goOnAnHour_44 rfl (lv_at hl 0 rfl) ?_
      refine lv_aload_n S.1 S.2.1 dX0_goOnAnHour_45 rfl (lv_at hl 1 rfl) ?_
      refine aC_getS (j := j) (x := nI n) S I hj 3 (by decide) (by decide) in_X0_goOnAnHour_X0 (List.mem_of_getElem? (i := 3) rfl) (by rw [aq_ug_s]; exact hn') dX0_goOnAnHour_46 ?_
      refine lv_icmp_ge (tgt := 63) S.1 S.2.1 dX0_goOnAnHour_49 (by decide) (fun c8 => ?_) (fun c8 => ?_)
      · have c8 : n ≤ i := (nI_leI (a := n) (b := i) (by omega) (by omega)).mp c8
        refine lv_aload_n S.1 S.2.1 dX0_goOnAnHour_63 rfl (lv_at hl 1 rfl) ?_
        refine lv_aload_n S.1 S.2.1 dX0_goOnAnHour_64 rfl (lv_at hl 1 rfl) ?_
        refine aC_getT (j := j) S I hj 0 (by decide) in_X0_goOnAnHour_X0 (List.mem_of_getElem? (i := 4) rfl) dX0_goOnAnHour_65 ?_
        refine lv_iload_n S.1 S.2.1 dX0_goOnAnHour_68 rfl (lv_at hl 2 rfl) ?_
        refine aC_tld (t := 0) (j := j) (k := d) (x := T 0 d) S I (by decide) hj rfl (by omega) (by rw [aq_ug_n _ _ (by omega), hT]) dX0_goOnAnHour_69 ?_
        refine aq_callVv (As := [.int (T 0 d)]) (rest := []) S (c_X0_letSpringGive l hJ (V := V) (Q := Q') (j := j) hj hn' hn20 (T 0 d) ) (cwV 1 S.2.2.2.2 gX0_goOnAnHour_X0_letSpringGive rfl rfl rfl (by decide +kernel) ⟨Nat.le_of_ble_eq_true rfl, Nat.le_of_ble_eq_true rfl⟩) (aC_recvS (j := j) I hj) I hl.1 dX0_goOnAnHour_70 rfl rfl (Nat.le_of_ble_eq_true rfl) ⟨by first | decide | (dsimp only; omega), by first | decide | (dsimp only; omega)⟩ (fun H locs I => ?_)
        obtain ⟨M9, hM9⟩ : ∃ z9 : aq_Q, z9 = aq_springQ n Q' (T 0 d) := ⟨_, rfl⟩
        rw [← hM9] at I
        refine lv_iconst (v := 0) S.1 S.2.1 dX0_goOnAnHour_73 (by decide) ?_
        refine lv_istore_n (lv' := [(2, .int 0), (0, .ref (ad (3 + j))), (1, .int (nI d))]) S.1 S.2.1 dX0_goOnAnHour_74 rfl hl (by decide) rfl (fun ls hl => ?_)
        have hn_M9 : M9 10 3 = nI n := by rw [hM9]; exact (aq_springQ_n _ _ _).trans hn'
        exact L75 n 0 M9 (by omega) hn_M9 (by rw [hM9]; exact congrArg (fun z => aq_leakAll n 0 (aq_springQ n z (T 0 d))) hq) _ _ I ls (lv_sub hl [0, 1, 2] rfl)
      · have c8 : i < n := Nat.lt_of_not_le (fun z9 => c8 ((nI_leI (a := n) (b := i) (by omega) (by omega)).mpr z9))
        exfalso; omega
    | succ k ih =>
      intro i Q' hk hn' hq H locs I ls hl
      refine lv_iload_n S.1 S.2.1 dX0_goOnAnHour_44 rfl (lv_at hl 0 rfl) ?_
      refine lv_aload_n S.1 S.2.1 dX0_goOnAnHour_45 rfl (lv_at hl 1 rfl) ?_
      refine aC_getS (j := j) (x := nI n) S I hj 3 (by decide) (by decide) in_X0_goOnAnHour_X0 (List.mem_of_getElem? (i := 3) rfl) (by rw [aq_ug_s]; exact hn') dX0_goOnAnHour_46 ?_
      refine lv_icmp_ge (tgt := 63) S.1 S.2.1 dX0_goOnAnHour_49 (by decide) (fun c10 => ?_) (fun c10 => ?_)
      · have c10 : n ≤ i := (nI_leI (a := n) (b := i) (by omega) (by omega)).mp c10
        exfalso; omega
      · have c10 : i < n := Nat.lt_of_not_le (fun z9 => c10 ((nI_leI (a := n) (b := i) (by omega) (by omega)).mpr z9))
        refine lv_aload_n S.1 S.2.1 dX0_goOnAnHour_52 rfl (lv_at hl 1 rfl) ?_
        refine lv_iload_n S.1 S.2.1 dX0_goOnAnHour_53 rfl (lv_at hl 0 rfl) ?_
        refine aq_callVv (As := [.int (nI i)]) (rest := []) S (c_X0_grindAt l hJ (V := V) (Q := Q') (j := j) hj hn' hn20 (a := i) (by omega) ) (cwV 1 S.2.2.2.2 gX0_goOnAnHour_X0_grindAt rfl rfl rfl (by decide +kernel) ⟨Nat.le_of_ble_eq_true rfl, Nat.le_of_ble_eq_true rfl⟩) (aC_recvS (j := j) I hj) I hl.1 dX0_goOnAnHour_54 rfl rfl (Nat.le_of_ble_eq_true rfl) ⟨by first | decide | (dsimp only; omega), by first | decide | (dsimp only; omega)⟩ (fun H locs I => ?_)
        obtain ⟨M11, hM11⟩ : ∃ z9 : aq_Q, z9 = aq_grindAtQ n Q' i := ⟨_, rfl⟩
        rw [← hM11] at I
        refine lv_iinc (v := nI (i + 1)) (lv' := [(2, .int (nI (i + 1))), (0, .ref (ad (3 + j))), (1, .int (nI d))]) S.1 S.2.1 dX0_goOnAnHour_57 hl (k := 0) rfl (nI_1 _) (by decide) rfl (fun ls hl => ?_)
        refine lv_goto (tgt := 44) S.1 S.2.1 dX0_goOnAnHour_60 (by decide) ?_
        have hn_M11 : M11 10 3 = nI n := by rw [hM11]; exact (aq_grindAtQ_n _ _ _).trans hn'
        exact ih (i + 1) M11 (by omega) hn_M11 (by rw [hM11]; exact hq) _ _ I ls (lv_sub hl [0, 1, 2] rfl)
  have L27 : ∀ (k : Nat) (x : Int32) (Q' : aq_Q), (x = nI k - 1) → (k ≤ n) → (Q' 10 3 = nI n) → (aq_sendAll n k Q' = (aq_sendAll n n (aq_drinkQ Q (T 1 d)))) → ∀ (H : Heap) (locs : List Loc), aq_I D (aC_t cI cQ) (aq_A 49 ad) (aC_w ad cI cQ (aq_ug V j (Q'))) s H locs → ∀ ls : Array Slot, lv_has ls 3 [(2, .int x), (0, .ref (ad (3 + j))), (1, .int (nI d))] → W p l e ({ frames := 4, cells := 0, slots := 0, locals := 90 } : Room) s m (([.ref (ad (3 + j))] : List Value).toArray) below meth c H locs 0 0 (MQ below ((aq_Qv D (aC_t cI cQ) 49 ad (aC_w ad cI cQ (aq_ug V j (aq_hourD n T (h % 24) Q)))) s.heap.size) (([.ref (ad (3 + j))] : List Value).toArray) s 0 0 (aq_A 49 ad s.heap.size)) (F0 m 27 ls []) := by
    intro k
    induction k with
    | zero =>
      intro x Q' hx hk hn' hq H locs I ls hl
      refine lv_iload_n S.1 S.2.1 dX0_goOnAnHour_27 rfl (lv_at hl 0 rfl) ?_
      refine lv_if_lt (tgt := 42) S.1 S.2.1 dX0_goOnAnHour_28 (by decide) (fun c12 => ?_) (fun c12 => ?_)
      · refine lv_iconst (v := 0) S.1 S.2.1 dX0_goOnAnHour_42 (by decide) ?_
        refine lv_istore_n (lv' := [(2, .int 0), (0, .ref (ad (3 + j))), (1, .int (nI d))]) S.1 S.2.1 dX0_goOnAnHour_43 rfl hl (by decide) rfl (fun ls hl => ?_)
        exact L44 n 0 Q' (by omega) hn' (congrArg (aq_grindAll n n 0) hq) _ _ I ls (lv_sub hl [0, 1, 2] rfl)
      · exact absurd (by rw [hx]; decide) c12
    | succ k ih =>
      intro x Q' hx hk hn' hq H locs I ls hl
      rw [nI_pred] at hx; subst hx
      refine lv_iload_n S.1 S.2.1 dX0_goOnAnHour_27 rfl (lv_at hl 0 rfl) ?_
      refine lv_if_lt (tgt := 42) S.1 S.2.1 dX0_goOnAnHour_28 (by decide) (fun c13 => ?_) (fun c13 => ?_)
      · have c13 : k < 0 := (nI_ltI (a := k) (b := 0) (by omega) (by omega)).mp c13
        exfalso; omega
      · have c13 : 0 ≤ k := Nat.le_of_not_lt (fun z9 => c13 ((nI_ltI (a := k) (b := 0) (by omega) (by omega)).mpr z9))
        refine lv_aload_n S.1 S.2.1 dX0_goOnAnHour_31 rfl (lv_at hl 1 rfl) ?_
        refine lv_iload_n S.1 S.2.1 dX0_goOnAnHour_32 rfl (lv_at hl 0 rfl) ?_
        refine aq_callVv (As := [.int (nI k)]) (rest := []) S (c_X0_sendOn l hJ (V := V) (Q := Q') (j := j) hj hn' hn20 (a := k) (by omega) ) (cwV 1 S.2.2.2.2 gX0_goOnAnHour_X0_sendOn rfl rfl rfl (by decide +kernel) ⟨Nat.le_of_ble_eq_true rfl, Nat.le_of_ble_eq_true rfl⟩) (aC_recvS (j := j) I hj) I hl.1 dX0_goOnAnHour_33 rfl rfl (Nat.le_of_ble_eq_true rfl) ⟨by first | decide | (dsimp only; omega), by first | decide | (dsimp only; omega)⟩ (fun H locs I => ?_)
        obtain ⟨M14, hM14⟩ : ∃ z9 : aq_Q, z9 = aq_sendQ n Q' k := ⟨_, rfl⟩
        rw [← hM14] at I
        refine lv_iinc (v := nI k - 1) (lv' := [(2, .int (nI k - 1)), (0, .ref (ad (3 + j))), (1, .int (nI d))]) S.1 S.2.1 dX0_goOnAnHour_36 hl (k := 0) rfl (by rw [Int32.sub_eq_add_neg]; rfl) (by decide) rfl (fun ls hl => ?_)
        refine lv_goto (tgt := 27) S.1 S.2.1 dX0_goOnAnHour_39 (by decide) ?_
        have hn_M14 : M14 10 3 = nI n := by rw [hM14]; exact (aq_sendQ_n _ _ _).trans hn'
        exact ih (nI k - 1) M14 rfl (by omega) hn_M14 (by rw [hM14]; exact hq) _ _ I ls (lv_sub hl [0, 1, 2] rfl)
  refine lv_aload_n S.1 S.2.1 dX0_goOnAnHour_0 rfl (lv_at hl 0 rfl) ?_
  refine aC_getS (j := j) (x := nI h) S I hj 4 (by decide) (by decide) in_X0_goOnAnHour_X0 (List.mem_of_getElem? (i := 1) rfl) (by rw [aq_ug_s]; exact hh) dX0_goOnAnHour_1 ?_
  refine lv_bipush (v := 24) S.1 S.2.1 dX0_goOnAnHour_4 (by decide) ?_
  refine aq_callSi (As := [.int (nI h), .int 24]) (rest := []) S (c_J9_floorMod l (h := h) (d := d) hd (by omega)) (va_cwS 2 S.2.2.2.2 gX0_goOnAnHour_J9_floorMod_7cf53 rfl rfl rfl (by decide +kernel) ⟨Nat.le_of_ble_eq_true rfl, Nat.le_of_ble_eq_true rfl⟩)  I hl.1 dX0_goOnAnHour_6 rfl rfl (Nat.le_of_ble_eq_true rfl) ⟨by first | decide | (dsimp only; omega), by first | decide | (dsimp only; omega)⟩ (fun H locs I => ?_)
  refine lv_istore_n (lv' := [(1, .int (nI d)), (0, .ref (ad (3 + j)))]) S.1 S.2.1 dX0_goOnAnHour_9 rfl hl (by decide) rfl (fun ls hl => ?_)
  refine lv_aload_n S.1 S.2.1 dX0_goOnAnHour_10 rfl (lv_at hl 1 rfl) ?_
  refine lv_aload_n S.1 S.2.1 dX0_goOnAnHour_11 rfl (lv_at hl 1 rfl) ?_
  refine aC_getT (j := j) S I hj 1 (by decide) in_X0_goOnAnHour_X0 (List.mem_of_getElem? (i := 2) rfl) dX0_goOnAnHour_12 ?_
  refine lv_iload_n S.1 S.2.1 dX0_goOnAnHour_15 rfl (lv_at hl 0 rfl) ?_
  refine aC_tld (t := 1) (j := j) (k := d) (x := T 1 d) S I (by decide) hj rfl (by omega) (by rw [aq_ug_n _ _ (by omega), hT]) dX0_goOnAnHour_16 ?_
  refine aq_callVv (As := [.int (T 1 d)]) (rest := []) S (c_X0_letCityDrink l hJ (V := V) (Q := Q) (j := j) hj  (T 1 d) ) (cwV 1 S.2.2.2.2 gX0_goOnAnHour_X0_letCityDrink rfl rfl rfl (by decide +kernel) ⟨Nat.le_of_ble_eq_true rfl, Nat.le_of_ble_eq_true rfl⟩) (aC_recvS (j := j) I hj) I hl.1 dX0_goOnAnHour_17 rfl rfl (Nat.le_of_ble_eq_true rfl) ⟨by first | decide | (dsimp only; omega), by first | decide | (dsimp only; omega)⟩ (fun H locs I => ?_)
  obtain ⟨M15, hM15⟩ : ∃ z9 : aq_Q, z9 = aq_drinkQ Q (T 1 d) := ⟨_, rfl⟩
  rw [← hM15] at I
  refine lv_aload_n S.1 S.2.1 dX0_goOnAnHour_20 rfl (lv_at hl 1 rfl) ?_
  have hn_M15 : M15 10 3 = nI n := by rw [hM15]; exact (aq_drinkQ_n _ _).trans hn
  refine aC_getS (j := j) (x := nI n) S I hj 3 (by decide) (by decide) in_X0_goOnAnHour_X0 (List.mem_of_getElem? (i := 3) rfl) (by rw [aq_ug_s]; exact hn_M15) dX0_goOnAnHour_21 ?_
  refine lv_iconst (v := 1) S.1 S.2.1 dX0_goOnAnHour_24 (by decide) ?_
  refine lv_isub S.1 S.2.1 dX0_goOnAnHour_25 ?_
  refine lv_istore_n (lv' := [(2, .int (nI n - 1)), (1, .int (nI d)), (0, .ref (ad (3 + j)))]) S.1 S.2.1 dX0_goOnAnHour_26 rfl hl (by decide) rfl (fun ls hl => ?_)
  exact L27 n (nI n - 1) M15 rfl (by omega) hn_M15 (by rw [hM15]) _ _ I ls (lv_sub hl [0, 2, 1] rfl)
set_option maxHeartbeats 4000000 in
set_option maxRecDepth 100000 in
/-- X0_goOn -/
theorem c_X0_goOn (l : Launch) {D : va_G} {ad : Nat → Nat} {cI cQ : ClassId} (hJ : aq_J 49 ad) {V : aq_V} {Q : aq_Q} {j n : Nat} (hj : j < 2) (hn : Q 10 3 = nI n) (hn20 : n ≤ 20) {T : aq_Q} (hT : V (2 + j) = T) {h z : Nat} (hh : Q 10 4 = nI h) (h31 : h + z < 2 ^ 31) : aq_Met l yX0_goOn wsX0_goOn ({ frames := 5, cells := 0, slots := 0, locals := 112 }) D (aC_t cI cQ) 49 ad [.ref (ad (3 + j)), .int (nI z)] (aC_w ad cI cQ (aq_ug V j Q)) (aq_Qv D (aC_t cI cQ) 49 ad (aC_w ad cI cQ (aq_ug V j (aq_goQ n T z Q)))) 0 0 := by
  refine aq_enter (cc := cX0_goOn) (maxL := 3) (ret := none) (by decide) rfl (Nat.le_of_ble_eq_true rfl) ?_
  intro p e s m below meth c ls S hr hlocks hnm I hl
  have S : CallFix p m c cX0_goOn 3 s _ wsX0_goOn RX0 := S
  have hl : lv_has ls 3 [(0, .ref (ad (3 + j))), (1, .int (nI z))] := hl
  have L2 : ∀ (k : Nat) (i : Nat) (Q' : aq_Q) (h' : Nat), (i + k = z) → (Q' 10 3 = nI n) → (Q' 10 4 = nI h') → (h' + k < 2 ^ 31) → (aq_goQ n T k Q' = aq_goQ n T z Q) → ∀ (H : Heap) (locs : List Loc), aq_I D (aC_t cI cQ) (aq_A 49 ad) (aC_w ad cI cQ (aq_ug V j (Q'))) s H locs → ∀ ls : Array Slot, lv_has ls 3 [(2, .int (nI i)), (0, .ref (ad (3 + j))), (1, .int (nI z))] → W p l e ({ frames := 5, cells := 0, slots := 0, locals := 112 } : Room) s m (([.ref (ad (3 + j)), .int (nI z)] : List Value).toArray) below meth c H locs 0 0 (MQ below ((aq_Qv D (aC_t cI cQ) 49 ad (aC_w ad cI cQ (aq_ug V j (aq_goQ n T z Q)))) s.heap.size) (([.ref (ad (3 + j)), .int (nI z)] : List Value).toArray) s 0 0 (aq_A 49 ad s.heap.size)) (F0 m 2 ls []) := by
    intro k
    induction k with
    | zero =>
      intro i Q' h' hk hn' hh' h31' hq H locs I ls hl
      refine lv_iload_n S.1 S.2.1 dX0_goOn_2 rfl (lv_at hl 0 rfl) ?_
      refine lv_iload_n S.1 S.2.1 dX0_goOn_3 rfl (lv_at hl 2 rfl) ?_
      refine lv_icmp_ge (tgt := 17) S.1 S.2.1 dX0_goOn_4 (by decide) (fun c1 => ?_) (fun c1 => ?_)
      · have c1 : z ≤ i := (nI_leI (a := z) (b := i) (by omega) (by omega)).mp c1
        exact aq_vret S.1 S.2.1 hr hlocks I dX0_goOn_17 (by decide) (by decide) (congrArg (fun z => aC_w ad cI cQ (aq_ug V j z)) hq)
      · have c1 : i < z := Nat.lt_of_not_le (fun z9 => c1 ((nI_leI (a := z) (b := i) (by omega) (by omega)).mpr z9))
        exfalso; omega
    | succ k ih =>
      intro i Q' h' hk hn' hh' h31' hq H locs I ls hl
      refine lv_iload_n S.1 S.2.1 dX0_goOn_2 rfl (lv_at hl 0 rfl) ?_
      refine lv_iload_n S.1 S.2.1 dX0_goOn_3 rfl (lv_at hl 2 rfl) ?_
      refine lv_icmp_ge (tgt := 17) S.1 S.2.1 dX0_goOn_4 (by decide) (fun c2 => ?_) (fun c2 => ?_)
      · have c2 : z ≤ i := (nI_leI (a := z) (b := i) (by omega) (by omega)).mp c2
        exfalso; omega
      · have c2 : i < z := Nat.lt_of_not_le (fun z9 => c2 ((nI_leI (a := z) (b := i) (by omega) (by omega)).mpr z9))
        refine lv_aload_n S.1 S.2.1 dX0_goOn_7 rfl (lv_at hl 1 rfl) ?_
        refine aq_callVv (As := []) (rest := []) S (c_X0_goOnAnHour l hJ (V := V) (Q := Q') (j := j) hj hn' hn20 (T := T) hT (h := h') hh' (by omega)) (cwV 0 S.2.2.2.2 gX0_goOn_X0_goOnAnHour rfl rfl rfl (by decide +kernel) ⟨Nat.le_of_ble_eq_true rfl, Nat.le_of_ble_eq_true rfl⟩) (aC_recvS (j := j) I hj) I hl.1 dX0_goOn_8 rfl rfl (Nat.le_of_ble_eq_true rfl) ⟨by first | decide | (dsimp only; omega), by first | decide | (dsimp only; omega)⟩ (fun H locs I => ?_)
        obtain ⟨M3, hM3⟩ : ∃ z9 : aq_Q, z9 = aq_hourD n T (h' % 24) Q' := ⟨_, rfl⟩
        rw [← hM3] at I
        refine lv_iinc (v := nI (i + 1)) (lv' := [(2, .int (nI (i + 1))), (0, .ref (ad (3 + j))), (1, .int (nI z))]) S.1 S.2.1 dX0_goOn_11 hl (k := 0) rfl (nI_1 _) (by decide) rfl (fun ls hl => ?_)
        refine lv_goto (tgt := 2) S.1 S.2.1 dX0_goOn_14 (by decide) ?_
        have hn_M3 : M3 10 3 = nI n := by rw [hM3]; exact (aq_hourD_n _ _ _ _).trans hn'
        exact ih (i + 1) M3 (h' + 1) (by omega) hn_M3 (by rw [hM3, aq_hourD_h, hh', nI_1]) (by omega) (by rw [hM3, ← aq_hourQ_eq hh' (by omega)]; exact hq) _ _ I ls (lv_sub hl [0, 1, 2] rfl)
  refine lv_iconst (v := 0) S.1 S.2.1 dX0_goOn_0 (by decide) ?_
  refine lv_istore_n (lv' := [(2, .int 0), (0, .ref (ad (3 + j))), (1, .int (nI z))]) S.1 S.2.1 dX0_goOn_1 rfl hl (by decide) rfl (fun ls hl => ?_)
  exact L2 z 0 Q h (by omega) hn hh (by omega) rfl _ _ I ls (lv_sub hl [0, 1, 2] rfl)
theorem in_X1_copyFrom_X1 : ∀ w ∈ wsX10, w ∈ wsX1_copyFrom := fun _ h => List.mem_cons_of_mem _ (List.mem_append_right _ h)
set_option maxHeartbeats 4000000 in
set_option maxRecDepth 100000 in
/-- X1_copyFrom -/
theorem c_X1_copyFrom (l : Launch) {D : va_G} {ad : Nat → Nat} {cI cQ : ClassId} (hJ : aq_J 49 ad) {V : aq_V} {Q0 Q1 : aq_Q} {i : Nat} (hi : i < 20) : aq_Met l yX1_copyFrom wsX1_copyFrom ({ frames := 0, cells := 0, slots := 0, locals := 0 }) D (aC_t cI cQ) 49 ad [.ref (ad (7 + 20 * 1 + i)), .ref (ad (7 + 20 * 0 + i))] (aC_w ad cI cQ (aq_ug (aq_ug V 0 Q0) 1 Q1)) (aq_Qv D (aC_t cI cQ) 49 ad (aC_w ad cI cQ (aq_ug (aq_ug V 0 Q0) 1 (aq_cpA Q0 Q1 i)))) 0 0 := by
  refine aq_enter (cc := cX1_copyFrom) (maxL := 2) (ret := none) (by decide) rfl (Nat.le_of_ble_eq_true rfl) ?_
  intro p e s m below meth c ls S hr hlocks hnm I hl
  have S : CallFix p m c cX1_copyFrom 2 s _ wsX1_copyFrom RX1 := S
  have hl : lv_has ls 2 [(0, .ref (ad (7 + 20 * 1 + i))), (1, .ref (ad (7 + 20 * 0 + i)))] := hl
  refine lv_aload_n S.1 S.2.1 dX1_copyFrom_0 rfl (lv_at hl 0 rfl) ?_
  refine lv_aload_n S.1 S.2.1 dX1_copyFrom_1 rfl (lv_at hl 1 rfl) ?_
  refine aC_getA (j := 0) (i := i) (x := Q0 0 i) S I (by decide) (by omega) 0 (by decide) in_X1_copyFrom_X1 (List.mem_of_getElem? (i := 1) rfl) (by rw [aq_ug_n _ _ (by decide), aq_ug_s]) dX1_copyFrom_2 ?_
  refine aC_putA (V := (aq_ug V 0 Q0)) (Q := Q1) (j := 1) (i := i) (x := Q0 0 i) hJ S I (by decide) (by omega) 0 (by decide) in_X1_copyFrom_X1 (List.mem_of_getElem? (i := 1) rfl) dX1_copyFrom_5 (fun H locs M1 hM1 I => ?_)
  refine lv_aload_n S.1 S.2.1 dX1_copyFrom_8 rfl (lv_at hl 0 rfl) ?_
  refine lv_aload_n S.1 S.2.1 dX1_copyFrom_9 rfl (lv_at hl 1 rfl) ?_
  refine aC_getA (j := 0) (i := i) (x := Q0 1 i) S I (by decide) (by omega) 1 (by decide) in_X1_copyFrom_X1 (List.mem_of_getElem? (i := 2) rfl) (by rw [aq_ug_n _ _ (by decide), aq_ug_s]) dX1_copyFrom_10 ?_
  refine aC_putA (V := (aq_ug V 0 Q0)) (Q := M1) (j := 1) (i := i) (x := Q0 1 i) hJ S I (by decide) (by omega) 1 (by decide) in_X1_copyFrom_X1 (List.mem_of_getElem? (i := 2) rfl) dX1_copyFrom_13 (fun H locs M2 hM2 I => ?_)
  refine lv_aload_n S.1 S.2.1 dX1_copyFrom_16 rfl (lv_at hl 0 rfl) ?_
  refine lv_aload_n S.1 S.2.1 dX1_copyFrom_17 rfl (lv_at hl 1 rfl) ?_
  refine aC_getA (j := 0) (i := i) (x := Q0 2 i) S I (by decide) (by omega) 2 (by decide) in_X1_copyFrom_X1 (List.mem_of_getElem? (i := 3) rfl) (by rw [aq_ug_n _ _ (by decide), aq_ug_s]) dX1_copyFrom_18 ?_
  refine aC_putA (V := (aq_ug V 0 Q0)) (Q := M2) (j := 1) (i := i) (x := Q0 2 i) hJ S I (by decide) (by omega) 2 (by decide) in_X1_copyFrom_X1 (List.mem_of_getElem? (i := 3) rfl) dX1_copyFrom_21 (fun H locs M3 hM3 I => ?_)
  refine lv_aload_n S.1 S.2.1 dX1_copyFrom_24 rfl (lv_at hl 0 rfl) ?_
  refine lv_aload_n S.1 S.2.1 dX1_copyFrom_25 rfl (lv_at hl 1 rfl) ?_
  refine aC_getA (j := 0) (i := i) (x := Q0 3 i) S I (by decide) (by omega) 3 (by decide) in_X1_copyFrom_X1 (List.mem_of_getElem? (i := 4) rfl) (by rw [aq_ug_n _ _ (by decide), aq_ug_s]) dX1_copyFrom_26 ?_
  refine aC_putA (V := (aq_ug V 0 Q0)) (Q := M3) (j := 1) (i := i) (x := Q0 3 i) hJ S I (by decide) (by omega) 3 (by decide) in_X1_copyFrom_X1 (List.mem_of_getElem? (i := 4) rfl) dX1_copyFrom_29 (fun H locs M4 hM4 I => ?_)
  refine lv_aload_n S.1 S.2.1 dX1_copyFrom_32 rfl (lv_at hl 0 rfl) ?_
  refine lv_aload_n S.1 S.2.1 dX1_copyFrom_33 rfl (lv_at hl 1 rfl) ?_
  refine aC_getA (j := 0) (i := i) (x := Q0 4 i) S I (by decide) (by omega) 4 (by decide) in_X1_copyFrom_X1 (List.mem_of_getElem? (i := 5) rfl) (by rw [aq_ug_n _ _ (by decide), aq_ug_s]) dX1_copyFrom_34 ?_
  refine aC_putA (V := (aq_ug V 0 Q0)) (Q := M4) (j := 1) (i := i) (x := Q0 4 i) hJ S I (by decide) (by omega) 4 (by decide) in_X1_copyFrom_X1 (List.mem_of_getElem? (i := 5) rfl) dX1_copyFrom_37 (fun H locs M5 hM5 I => ?_)
  refine lv_aload_n S.1 S.2.1 dX1_copyFrom_40 rfl (lv_at hl 0 rfl) ?_
  refine lv_aload_n S.1 S.2.1 dX1_copyFrom_41 rfl (lv_at hl 1 rfl) ?_
  refine aC_getA (j := 0) (i := i) (x := Q0 5 i) S I (by decide) (by omega) 5 (by decide) in_X1_copyFrom_X1 (List.mem_of_getElem? (i := 6) rfl) (by rw [aq_ug_n _ _ (by decide), aq_ug_s]) dX1_copyFrom_42 ?_
  refine aC_putA (V := (aq_ug V 0 Q0)) (Q := M5) (j := 1) (i := i) (x := Q0 5 i) hJ S I (by decide) (by omega) 5 (by decide) in_X1_copyFrom_X1 (List.mem_of_getElem? (i := 6) rfl) dX1_copyFrom_45 (fun H locs M6 hM6 I => ?_)
  refine lv_aload_n S.1 S.2.1 dX1_copyFrom_48 rfl (lv_at hl 0 rfl) ?_
  refine lv_aload_n S.1 S.2.1 dX1_copyFrom_49 rfl (lv_at hl 1 rfl) ?_
  refine aC_getA (j := 0) (i := i) (x := Q0 6 i) S I (by decide) (by omega) 6 (by decide) in_X1_copyFrom_X1 (List.mem_of_getElem? (i := 7) rfl) (by rw [aq_ug_n _ _ (by decide), aq_ug_s]) dX1_copyFrom_50 ?_
  refine aC_putA (V := (aq_ug V 0 Q0)) (Q := M6) (j := 1) (i := i) (x := Q0 6 i) hJ S I (by decide) (by omega) 6 (by decide) in_X1_copyFrom_X1 (List.mem_of_getElem? (i := 7) rfl) dX1_copyFrom_53 (fun H locs M7 hM7 I => ?_)
  refine lv_aload_n S.1 S.2.1 dX1_copyFrom_56 rfl (lv_at hl 0 rfl) ?_
  refine lv_aload_n S.1 S.2.1 dX1_copyFrom_57 rfl (lv_at hl 1 rfl) ?_
  refine aC_getA (j := 0) (i := i) (x := Q0 7 i) S I (by decide) (by omega) 7 (by decide) in_X1_copyFrom_X1 (List.mem_of_getElem? (i := 8) rfl) (by rw [aq_ug_n _ _ (by decide), aq_ug_s]) dX1_copyFrom_58 ?_
  refine aC_putA (V := (aq_ug V 0 Q0)) (Q := M7) (j := 1) (i := i) (x := Q0 7 i) hJ S I (by decide) (by omega) 7 (by decide) in_X1_copyFrom_X1 (List.mem_of_getElem? (i := 8) rfl) dX1_copyFrom_61 (fun H locs M8 hM8 I => ?_)
  refine lv_aload_n S.1 S.2.1 dX1_copyFrom_64 rfl (lv_at hl 0 rfl) ?_
  refine lv_aload_n S.1 S.2.1 dX1_copyFrom_65 rfl (lv_at hl 1 rfl) ?_
  refine aC_getA (j := 0) (i := i) (x := Q0 8 i) S I (by decide) (by omega) 8 (by decide) in_X1_copyFrom_X1 (List.mem_of_getElem? (i := 9) rfl) (by rw [aq_ug_n _ _ (by decide), aq_ug_s]) dX1_copyFrom_66 ?_
  refine aC_putA (V := (aq_ug V 0 Q0)) (Q := M8) (j := 1) (i := i) (x := Q0 8 i) hJ S I (by decide) (by omega) 8 (by decide) in_X1_copyFrom_X1 (List.mem_of_getElem? (i := 9) rfl) dX1_copyFrom_69 (fun H locs M9 hM9 I => ?_)
  refine lv_aload_n S.1 S.2.1 dX1_copyFrom_72 rfl (lv_at hl 0 rfl) ?_
  refine lv_aload_n S.1 S.2.1 dX1_copyFrom_73 rfl (lv_at hl 1 rfl) ?_
  refine aC_getA (j := 0) (i := i) (x := Q0 9 i) S I (by decide) (by omega) 9 (by decide) in_X1_copyFrom_X1 (List.mem_of_getElem? (i := 10) rfl) (by rw [aq_ug_n _ _ (by decide), aq_ug_s]) dX1_copyFrom_74 ?_
  refine aC_putA (V := (aq_ug V 0 Q0)) (Q := M9) (j := 1) (i := i) (x := Q0 9 i) hJ S I (by decide) (by omega) 9 (by decide) in_X1_copyFrom_X1 (List.mem_of_getElem? (i := 10) rfl) dX1_copyFrom_77 (fun H locs M10 hM10 I => ?_)
  exact aq_vret S.1 S.2.1 hr hlocks I dX1_copyFrom_80 (by decide) (by decide) (by subst_vars; rfl)
theorem in_X0_copyFrom_X0 : ∀ w ∈ wsX00, w ∈ wsX0_copyFrom := fun _ h => List.mem_cons_of_mem _ (List.mem_append_left _ (List.mem_append_right _ h))
set_option maxHeartbeats 4000000 in
set_option maxRecDepth 100000 in
/-- X0_copyFrom -/
theorem c_X0_copyFrom (l : Launch) {D : va_G} {ad : Nat → Nat} {cI cQ : ClassId} (hJ : aq_J 49 ad) {V : aq_V} {Q0 Q1 : aq_Q} {n : Nat} (hn : Q0 10 3 = nI n) (hn20 : n ≤ 20) : aq_Met l yX0_copyFrom wsX0_copyFrom ({ frames := 1, cells := 0, slots := 0, locals := 64 }) D (aC_t cI cQ) 49 ad [.ref (ad 4), .ref (ad 3)] (aC_w ad cI cQ (aq_ug (aq_ug V 0 Q0) 1 Q1)) (aq_Qv D (aC_t cI cQ) 49 ad (aC_w ad cI cQ (aq_ug (aq_ug (aq_tc V) 0 Q0) 1 (aq_cpQ n Q0 Q1)))) 0 0 := by
  refine aq_enter (cc := cX0_copyFrom) (maxL := 3) (ret := none) (by decide) rfl (Nat.le_of_ble_eq_true rfl) ?_
  intro p e s m below meth c ls S hr hlocks hnm I hl
  have S : CallFix p m c cX0_copyFrom 3 s _ wsX0_copyFrom RX0 := S
  have hl : lv_has ls 3 [(0, .ref (ad 4)), (1, .ref (ad 3))] := hl
  have L32 : ∀ (k : Nat) (i : Nat) (Q' : aq_Q), (i + k = n) → (aq_cpAll Q0 k i Q' = aq_cpAll Q0 n 0 Q1) → ∀ (H : Heap) (locs : List Loc), aq_I D (aC_t cI cQ) (aq_A 49 ad) (aC_w ad cI cQ (aq_ug (aq_ug (aq_tc V) 0 Q0) 1 (Q'))) s H locs → ∀ ls : Array Slot, lv_has ls 3 [(2, .int (nI i)), (0, .ref (ad 4)), (1, .ref (ad 3))] → W p l e ({ frames := 1, cells := 0, slots := 0, locals := 64 } : Room) s m (([.ref (ad 4), .ref (ad 3)] : List Value).toArray) below meth c H locs 0 0 (MQ below ((aq_Qv D (aC_t cI cQ) 49 ad (aC_w ad cI cQ (aq_ug (aq_ug (aq_tc V) 0 Q0) 1 (aq_cpQ n Q0 Q1)))) s.heap.size) (([.ref (ad 4), .ref (ad 3)] : List Value).toArray) s 0 0 (aq_A 49 ad s.heap.size)) (F0 m 32 ls []) := by
    intro k
    induction k with
    | zero =>
      intro i Q' hk hq H locs I ls hl
      refine lv_iload_n S.1 S.2.1 dX0_copyFrom_32 rfl (lv_at hl 0 rfl) ?_
      refine lv_aload_n S.1 S.2.1 dX0_copyFrom_33 rfl (lv_at hl 2 rfl) ?_
      refine aC_getS (j := 0) (x := nI n) S I (by decide) 3 (by decide) (by decide) in_X0_copyFrom_X0 (List.mem_of_getElem? (i := 7) rfl) (by rw [aq_ug_n _ _ (by decide), aq_ug_s]; exact hn) dX0_copyFrom_34 ?_
      refine lv_icmp_ge (tgt := 61) S.1 S.2.1 dX0_copyFrom_37 (by decide) (fun c1 => ?_) (fun c1 => ?_)
      · have c1 : n ≤ i := (nI_leI (a := n) (b := i) (by omega) (by omega)).mp c1
        refine lv_aload_n S.1 S.2.1 dX0_copyFrom_61 rfl (lv_at hl 1 rfl) ?_
        refine lv_aload_n S.1 S.2.1 dX0_copyFrom_62 rfl (lv_at hl 2 rfl) ?_
        refine aC_getS (j := 0) (x := nI n) S I (by decide) 3 (by decide) (by decide) in_X0_copyFrom_X0 (List.mem_of_getElem? (i := 7) rfl) (by rw [aq_ug_n _ _ (by decide), aq_ug_s]; exact hn) dX0_copyFrom_63 ?_
        refine aC_putS (V := (aq_ug (aq_tc V) 0 Q0)) (Q := Q') (j := 1) (x := nI n) hJ S I (by decide) 3 (by decide) (by decide) in_X0_copyFrom_X0 (List.mem_of_getElem? (i := 7) rfl) dX0_copyFrom_66 (fun H locs M2 hM2 I => ?_)
        refine lv_aload_n S.1 S.2.1 dX0_copyFrom_69 rfl (lv_at hl 1 rfl) ?_
        refine lv_aload_n S.1 S.2.1 dX0_copyFrom_70 rfl (lv_at hl 2 rfl) ?_
        refine aC_getS (j := 0) (x := Q0 10 4) S I (by decide) 4 (by decide) (by decide) in_X0_copyFrom_X0 (List.mem_of_getElem? (i := 9) rfl) (by rw [aq_ug_n _ _ (by decide), aq_ug_s]) dX0_copyFrom_71 ?_
        refine aC_putS (V := (aq_ug (aq_tc V) 0 Q0)) (Q := M2) (j := 1) (x := Q0 10 4) hJ S I (by decide) 4 (by decide) (by decide) in_X0_copyFrom_X0 (List.mem_of_getElem? (i := 9) rfl) dX0_copyFrom_74 (fun H locs M3 hM3 I => ?_)
        refine lv_aload_n S.1 S.2.1 dX0_copyFrom_77 rfl (lv_at hl 1 rfl) ?_
        refine lv_aload_n S.1 S.2.1 dX0_copyFrom_78 rfl (lv_at hl 2 rfl) ?_
        refine aC_getS (j := 0) (x := Q0 10 5) S I (by decide) 5 (by decide) (by decide) in_X0_copyFrom_X0 (List.mem_of_getElem? (i := 10) rfl) (by rw [aq_ug_n _ _ (by decide), aq_ug_s]) dX0_copyFrom_79 ?_
        refine aC_putS (V := (aq_ug (aq_tc V) 0 Q0)) (Q := M3) (j := 1) (x := Q0 10 5) hJ S I (by decide) 5 (by decide) (by decide) in_X0_copyFrom_X0 (List.mem_of_getElem? (i := 10) rfl) dX0_copyFrom_82 (fun H locs M4 hM4 I => ?_)
        refine lv_aload_n S.1 S.2.1 dX0_copyFrom_85 rfl (lv_at hl 1 rfl) ?_
        refine lv_aload_n S.1 S.2.1 dX0_copyFrom_86 rfl (lv_at hl 2 rfl) ?_
        refine aC_getS (j := 0) (x := Q0 10 6) S I (by decide) 6 (by decide) (by decide) in_X0_copyFrom_X0 (List.mem_of_getElem? (i := 11) rfl) (by rw [aq_ug_n _ _ (by decide), aq_ug_s]) dX0_copyFrom_87 ?_
        refine aC_putS (V := (aq_ug (aq_tc V) 0 Q0)) (Q := M4) (j := 1) (x := Q0 10 6) hJ S I (by decide) 6 (by decide) (by decide) in_X0_copyFrom_X0 (List.mem_of_getElem? (i := 11) rfl) dX0_copyFrom_90 (fun H locs M5 hM5 I => ?_)
        refine lv_aload_n S.1 S.2.1 dX0_copyFrom_93 rfl (lv_at hl 1 rfl) ?_
        refine lv_aload_n S.1 S.2.1 dX0_copyFrom_94 rfl (lv_at hl 2 rfl) ?_
        refine aC_getS (j := 0) (x := Q0 10 7) S I (by decide) 7 (by decide) (by decide) in_X0_copyFrom_X0 (List.mem_of_getElem? (i := 12) rfl) (by rw [aq_ug_n _ _ (by decide), aq_ug_s]) dX0_copyFrom_95 ?_
        refine aC_putS (V := (aq_ug (aq_tc V) 0 Q0)) (Q := M5) (j := 1) (x := Q0 10 7) hJ S I (by decide) 7 (by decide) (by decide) in_X0_copyFrom_X0 (List.mem_of_getElem? (i := 12) rfl) dX0_copyFrom_98 (fun H locs M6 hM6 I => ?_)
        refine lv_aload_n S.1 S.2.1 dX0_copyFrom_101 rfl (lv_at hl 1 rfl) ?_
        refine lv_aload_n S.1 S.2.1 dX0_copyFrom_102 rfl (lv_at hl 2 rfl) ?_
        refine aC_getS (j := 0) (x := Q0 10 8) S I (by decide) 8 (by decide) (by decide) in_X0_copyFrom_X0 (List.mem_of_getElem? (i := 13) rfl) (by rw [aq_ug_n _ _ (by decide), aq_ug_s]) dX0_copyFrom_103 ?_
        refine aC_putS (V := (aq_ug (aq_tc V) 0 Q0)) (Q := M6) (j := 1) (x := Q0 10 8) hJ S I (by decide) 8 (by decide) (by decide) in_X0_copyFrom_X0 (List.mem_of_getElem? (i := 13) rfl) dX0_copyFrom_106 (fun H locs M7 hM7 I => ?_)
        refine lv_aload_n S.1 S.2.1 dX0_copyFrom_109 rfl (lv_at hl 1 rfl) ?_
        refine lv_aload_n S.1 S.2.1 dX0_copyFrom_110 rfl (lv_at hl 2 rfl) ?_
        refine aC_getS (j := 0) (x := Q0 10 9) S I (by decide) 9 (by decide) (by decide) in_X0_copyFrom_X0 (List.mem_of_getElem? (i := 14) rfl) (by rw [aq_ug_n _ _ (by decide), aq_ug_s]) dX0_copyFrom_111 ?_
        refine aC_putS (V := (aq_ug (aq_tc V) 0 Q0)) (Q := M7) (j := 1) (x := Q0 10 9) hJ S I (by decide) 9 (by decide) (by decide) in_X0_copyFrom_X0 (List.mem_of_getElem? (i := 14) rfl) dX0_copyFrom_114 (fun H locs M8 hM8 I => ?_)
        refine lv_aload_n S.1 S.2.1 dX0_copyFrom_117 rfl (lv_at hl 1 rfl) ?_
        refine lv_aload_n S.1 S.2.1 dX0_copyFrom_118 rfl (lv_at hl 2 rfl) ?_
        refine aC_getS (j := 0) (x := Q0 10 10) S I (by decide) 10 (by decide) (by decide) in_X0_copyFrom_X0 (List.mem_of_getElem? (i := 15) rfl) (by rw [aq_ug_n _ _ (by decide), aq_ug_s]) dX0_copyFrom_119 ?_
        refine aC_putS (V := (aq_ug (aq_tc V) 0 Q0)) (Q := M8) (j := 1) (x := Q0 10 10) hJ S I (by decide) 10 (by decide) (by decide) in_X0_copyFrom_X0 (List.mem_of_getElem? (i := 15) rfl) dX0_copyFrom_122 (fun H locs M9 hM9 I => ?_)
        refine lv_aload_n S.1 S.2.1 dX0_copyFrom_125 rfl (lv_at hl 1 rfl) ?_
        refine lv_aload_n S.1 S.2.1 dX0_copyFrom_126 rfl (lv_at hl 2 rfl) ?_
        refine aC_getS (j := 0) (x := Q0 10 11) S I (by decide) 11 (by decide) (by decide) in_X0_copyFrom_X0 (List.mem_of_getElem? (i := 16) rfl) (by rw [aq_ug_n _ _ (by decide), aq_ug_s]) dX0_copyFrom_127 ?_
        refine aC_putS (V := (aq_ug (aq_tc V) 0 Q0)) (Q := M9) (j := 1) (x := Q0 10 11) hJ S I (by decide) 11 (by decide) (by decide) in_X0_copyFrom_X0 (List.mem_of_getElem? (i := 16) rfl) dX0_copyFrom_130 (fun H locs M10 hM10 I => ?_)
        refine lv_aload_n S.1 S.2.1 dX0_copyFrom_133 rfl (lv_at hl 1 rfl) ?_
        refine lv_aload_n S.1 S.2.1 dX0_copyFrom_134 rfl (lv_at hl 2 rfl) ?_
        refine aC_getS (j := 0) (x := Q0 10 12) S I (by decide) 12 (by decide) (by decide) in_X0_copyFrom_X0 (List.mem_of_getElem? (i := 17) rfl) (by rw [aq_ug_n _ _ (by decide), aq_ug_s]) dX0_copyFrom_135 ?_
        refine aC_putS (V := (aq_ug (aq_tc V) 0 Q0)) (Q := M10) (j := 1) (x := Q0 10 12) hJ S I (by decide) 12 (by decide) (by decide) in_X0_copyFrom_X0 (List.mem_of_getElem? (i := 17) rfl) dX0_copyFrom_138 (fun H locs M11 hM11 I => ?_)
        exact aq_vret S.1 S.2.1 hr hlocks I dX0_copyFrom_141 (by decide) (by decide) (by rw [hM11, hM10, hM9, hM8, hM7, hM6, hM5, hM4, hM3, hM2]; exact congrArg (fun z => aC_w ad cI cQ (aq_ug (aq_ug (aq_tc V) 0 Q0) 1 (aq_cpS n Q0 z))) hq)
      · have c1 : i < n := Nat.lt_of_not_le (fun z9 => c1 ((nI_leI (a := n) (b := i) (by omega) (by omega)).mpr z9))
        exfalso; omega
    | succ k ih =>
      intro i Q' hk hq H locs I ls hl
      refine lv_iload_n S.1 S.2.1 dX0_copyFrom_32 rfl (lv_at hl 0 rfl) ?_
      refine lv_aload_n S.1 S.2.1 dX0_copyFrom_33 rfl (lv_at hl 2 rfl) ?_
      refine aC_getS (j := 0) (x := nI n) S I (by decide) 3 (by decide) (by decide) in_X0_copyFrom_X0 (List.mem_of_getElem? (i := 7) rfl) (by rw [aq_ug_n _ _ (by decide), aq_ug_s]; exact hn) dX0_copyFrom_34 ?_
      refine lv_icmp_ge (tgt := 61) S.1 S.2.1 dX0_copyFrom_37 (by decide) (fun c12 => ?_) (fun c12 => ?_)
      · have c12 : n ≤ i := (nI_leI (a := n) (b := i) (by omega) (by omega)).mp c12
        exfalso; omega
      · have c12 : i < n := Nat.lt_of_not_le (fun z9 => c12 ((nI_leI (a := n) (b := i) (by omega) (by omega)).mpr z9))
        refine lv_aload_n S.1 S.2.1 dX0_copyFrom_40 rfl (lv_at hl 1 rfl) ?_
        refine aC_getR (j := 1) S I (by decide) in_X0_copyFrom_X0 (List.mem_of_getElem? (i := 8) rfl) dX0_copyFrom_41 ?_
        refine lv_iload_n S.1 S.2.1 dX0_copyFrom_44 rfl (lv_at hl 0 rfl) ?_
        refine aC_row (j := 1) (i := i) S I (by decide) rfl (by omega) dX0_copyFrom_45 ?_
        refine lv_aload_n S.1 S.2.1 dX0_copyFrom_46 rfl (lv_at hl 2 rfl) ?_
        refine aC_getR (j := 0) S I (by decide) in_X0_copyFrom_X0 (List.mem_of_getElem? (i := 8) rfl) dX0_copyFrom_47 ?_
        refine lv_iload_n S.1 S.2.1 dX0_copyFrom_50 rfl (lv_at hl 0 rfl) ?_
        refine aC_row (j := 0) (i := i) S I (by decide) rfl (by omega) dX0_copyFrom_51 ?_
        refine aq_callVv (As := [.ref (ad (7 + 20 * 0 + i))]) (rest := []) S (c_X1_copyFrom l hJ (V := aq_tc V) (Q0 := Q0) (Q1 := Q') (i := i) (by omega)) (cwV 1 S.2.2.2.2 gX0_copyFrom_X1_copyFrom rfl rfl rfl (by decide +kernel) ⟨Nat.le_of_ble_eq_true rfl, Nat.le_of_ble_eq_true rfl⟩) (aC_recvA (j := 1) (i := i) I (by decide) (by omega)) I hl.1 dX0_copyFrom_52 rfl rfl (Nat.le_of_ble_eq_true rfl) ⟨by first | decide | (dsimp only; omega), by first | decide | (dsimp only; omega)⟩ (fun H locs I => ?_)
        obtain ⟨M13, hM13⟩ : ∃ z9 : aq_Q, z9 = aq_cpA Q0 Q' i := ⟨_, rfl⟩
        rw [← hM13] at I
        refine lv_iinc (v := nI (i + 1)) (lv' := [(2, .int (nI (i + 1))), (0, .ref (ad 4)), (1, .ref (ad 3))]) S.1 S.2.1 dX0_copyFrom_55 hl (k := 0) rfl (nI_1 _) (by decide) rfl (fun ls hl => ?_)
        refine lv_goto (tgt := 32) S.1 S.2.1 dX0_copyFrom_58 (by decide) ?_
        exact ih (i + 1) M13 (by omega) (by rw [hM13]; exact hq) _ _ I ls (lv_sub hl [0, 1, 2] rfl)
  refine lv_aload_n S.1 S.2.1 dX0_copyFrom_0 rfl (lv_at hl 1 rfl) ?_
  refine aC_getT (j := 0) S I (by decide) 0 (by decide) in_X0_copyFrom_X0 (List.mem_of_getElem? (i := 1) rfl) dX0_copyFrom_1 ?_
  refine lv_iconst (v := 0) S.1 S.2.1 dX0_copyFrom_4 (by decide) ?_
  refine lv_aload_n S.1 S.2.1 dX0_copyFrom_5 rfl (lv_at hl 0 rfl) ?_
  refine aC_getT (j := 1) S I (by decide) 0 (by decide) in_X0_copyFrom_X0 (List.mem_of_getElem? (i := 1) rfl) dX0_copyFrom_6 ?_
  refine lv_iconst (v := 0) S.1 S.2.1 dX0_copyFrom_9 (by decide) ?_
  refine lv_bipush (v := 24) S.1 S.2.1 dX0_copyFrom_10 (by decide) ?_
  refine aC_copy (t := 0) (rest := []) hJ S hl.1 I (by decide) (List.mem_of_getElem? (i := 2) rfl) (List.mem_of_getElem? (i := 3) rfl) (List.mem_of_getElem? (i := 4) rfl) (List.mem_of_getElem? (i := 5) rfl) (by decide) (by decide) dX0_copyFrom_12 (fun H locs I => ?_)
  refine lv_aload_n S.1 S.2.1 dX0_copyFrom_15 rfl (lv_at hl 1 rfl) ?_
  refine aC_getT (j := 0) S I (by decide) 1 (by decide) in_X0_copyFrom_X0 (List.mem_of_getElem? (i := 6) rfl) dX0_copyFrom_16 ?_
  refine lv_iconst (v := 0) S.1 S.2.1 dX0_copyFrom_19 (by decide) ?_
  refine lv_aload_n S.1 S.2.1 dX0_copyFrom_20 rfl (lv_at hl 0 rfl) ?_
  refine aC_getT (j := 1) S I (by decide) 1 (by decide) in_X0_copyFrom_X0 (List.mem_of_getElem? (i := 6) rfl) dX0_copyFrom_21 ?_
  refine lv_iconst (v := 0) S.1 S.2.1 dX0_copyFrom_24 (by decide) ?_
  refine lv_bipush (v := 24) S.1 S.2.1 dX0_copyFrom_25 (by decide) ?_
  refine aC_copy (t := 1) (rest := []) hJ S hl.1 I (by decide) (List.mem_of_getElem? (i := 2) rfl) (List.mem_of_getElem? (i := 3) rfl) (List.mem_of_getElem? (i := 4) rfl) (List.mem_of_getElem? (i := 5) rfl) (by decide) (by decide) dX0_copyFrom_27 (fun H locs I => ?_)
  have I := aC_Ic12 I
  rw [aq_tc_sw] at I
  refine lv_iconst (v := 0) S.1 S.2.1 dX0_copyFrom_30 (by decide) ?_
  refine lv_istore_n (lv' := [(2, .int 0), (0, .ref (ad 4)), (1, .ref (ad 3))]) S.1 S.2.1 dX0_copyFrom_31 rfl hl (by decide) rfl (fun ls hl => ?_)
  exact L32 n 0 Q1 (by omega) rfl _ _ I ls (lv_sub hl [0, 1, 2] rfl)
