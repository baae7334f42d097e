/-! the law's helpers: a call of the object, its answer into a row of one long, its throw told as a number -/
def lx_o (o : Nat) (cL : ClassId) (f : Nat → Int64) : va_W := [(o, .inl (cL, 1, .inr (.inl f)))]
def lx_A (ad : Nat → Nat) (o sz : Nat) : Nat → Prop := fun q => aq_A 49 ad sz q ∨ q = o
def lx_N (U : State) : Prop := (va_Nc (aq_en 3) (aq_en 1) U ∧ va_Nc (aq_en 2) (aq_en 1) U) ∧ (va_Nc (aq_en 1) (aq_en 2) U ∧ va_Nc (aq_en 3) (aq_en 2) U)
theorem lx_N.moved {u U : State} (hvm : u.vm.Alike U.vm) (h : lx_N u) : lx_N U := ⟨⟨h.1.1.moved hvm, h.1.2.moved hvm⟩, ⟨h.2.1.moved hvm, h.2.2.moved hvm⟩⟩
def lx_J (D : va_G) (cI cQ cL : ClassId) (ad : Nat → Nat) (o : Nat) (V : aq_V) (f : Nat → Int64) (s : State) (H : Heap) : Prop := va_K D vwCl (aC_t cI cQ) s ∧ va_P D vwCl (aC_w ad cI cQ V) H ∧ va_K D vwCl [(cL, .long)] s ∧ va_P D vwCl (lx_o o cL f) H
def lx_Pc (D : va_G) (cI cQ cL : ClassId) (ad : Nat → Nat) (o : Nat) (As : List Value) (V : aq_V) (f : Nat → Int64) (sz : Nat) : Array Value → State → Prop := va_Pc As (fun U => U.heap.size = sz ∧ lx_J D cI cQ cL ad o V f U U.heap ∧ aq_TE (aq_A 49 ad sz) U U.heap ∧ lx_N U)
def lx_Qc (D : va_G) (cI cQ cL : ClassId) (ad : Nat → Nat) (o κ : Nat) (k r : Int32) (V V1 : aq_V) (sz : Nat) : Array Value → State → Outcome → State → Prop := va_Qi (fun (x : Int32) (f : Nat → Int64) => x = k ∧ (κ = 0 → f 0 = r.toInt64)) (fun f t => lx_J D cI cQ cL ad o (if κ = 0 then V1 else V) f t t.heap) (lx_A ad o sz)
theorem aq_rgK2 (x a b : Int32) : aq_rgK x a b = 0 ∨ aq_rgK x a b = 1 := by
  unfold aq_rgK
  split
  · exact Or.inr rfl
  · split
    · exact Or.inl rfl
    · exact Or.inr rfl
theorem aq_ixK2 (x a : Int32) : aq_ixK x a = 0 ∨ aq_ixK x a = 2 := by
  unfold aq_ixK
  split
  · exact Or.inr rfl
  · split
    · exact Or.inl rfl
    · exact Or.inr rfl
section LXA
variable {p : Program} {l : Launch} {e : Env} {R : Room} {s : State} {m : MethodId} {args : Array Value} {below : List Frame} {meth : Method} {c : Code} {H : Heap} {locs : List Loc} {cells slots : Nat} {Q : State → Prop}
variable {cc bytes : ByteArray} {maxL nL mc ms mc1 ms1 n index pc κ o : Nat} {ad : Nat → Nat} {ls : Array Slot} {st rest : List Value} {ret : Option FieldType} {ws ws' Ts : List Cond} {rm : Room} {y : MethodName} {own : String} {D : va_G} {cI cQ cL : ClassId} {As : List Value} {V V1 V9 : aq_V} {f : Nat → Int64} {hh : List (Nat × Nat × Nat × Nat)}
theorem lx_ofWH {Pc : Array Value → State → Prop} {Qc : Array Value → State → Outcome → State → Prop} {free : Addr → Prop} (hy : plainName y.cls = true) (hw : ws = Cond.codeWith y cc maxL ret hh :: ws')
    (body : ∀ p e s m args below meth c s₁, BodyLoose p l y (headSpec ws rm) cc maxL ret e s m args below meth c s₁ → c.maxLocals = maxL → c.exceptionTable.toList = tableOf hh → Pc args s →
      W p l e (headSpec ws rm).room s m args below meth c s.heap [] 0 0 (MQ below Qc args s mc ms free) (entryFrame m args maxL)) : Met l y ws rm Pc Qc mc ms free := by
  refine MetFree.of_bodyS (code := cc) (maxLocals := maxL) (ret := ret) hy ?_ ?_
  · intro args s m h hn
    obtain ⟨m9, meth, c, hn9, h1, h2, h3, h4, -, h5, h6, -⟩ := Cond.codeWith_spec (atoms_spec (ws := ws) h _ (by rw [hw]; exact List.mem_cons_self))
    cases hn.symm.trans hn9
    exact ⟨meth, c, h1, h2, h3, h4, h5, h6⟩
  · intro p e s m args below meth c s₁ B hml hP _
    have hh0 : s₁.heap = s.heap := by rw [B.state]; rfl
    have ht := vx_table (x := y) B (atoms_spec (ws := ws) B.pre _ (by rw [hw]; exact List.mem_cons_self))
    obtain ⟨t, a1, o, b1, b2, b3⟩ := body p e s m args below meth c s₁ B hml ht hP s₁ hh0 (Stand.of_body B)
    exact ⟨t, o, a1, b1, b2, ⟨b3.1, b3.2⟩⟩
theorem lx_enter {Qc : Nat → Array Value → State → Outcome → State → Prop} (hy : plainName y.cls = true) (hw : ws = Cond.codeWith y cc maxL ret hh :: ws') (hn : (lg_sl As).length ≤ maxL)
    (k : ∀ (p : Program) (e : Env) (s : State) (m : MethodId) (below : List Frame) (meth : Method) (c : Code) (ls : Array Slot), CallFix p m c cc maxL s As.toArray ws y.cls → meth.sig.returnType = ret → meth.locks = false → c.exceptionTable.toList = tableOf hh → aq_TE (aq_A 49 ad s.heap.size) s s.heap → lx_N s → lx_J D cI cQ cL ad o V f s s.heap → lv_has ls maxL (lv_args 0 As) →
      W p l e rm s m As.toArray below meth c s.heap [] 0 0 (MQ below (Qc s.heap.size) As.toArray s mc ms (lx_A ad o s.heap.size)) (F0 m 0 ls [])) :
    ∀ sz, Met l y ws rm (lx_Pc D cI cQ cL ad o As V f sz) (Qc sz) mc ms (lx_A ad o sz) := by
  intro sz
  refine lx_ofWH (cc := cc) (maxL := maxL) (ret := ret) (hh := hh) hy hw ?_
  intro p e s m args below meth c s₁ B hml ht hv
  obtain ⟨rfl, hsz, hJ, hT, hN⟩ := hv
  subst hsz
  have hl := lv_entry As (n := maxL) hn
  rw [lg_entry_eq]
  exact k p e s m below meth c _ ⟨B.exec, B.bytes, hml, findClass_of_methodNamed B.named, atoms_spec (ws := ws) B.pre⟩ B.returns B.notSynchronized ht hT hN hJ hl
theorem lx_keep {H1 : Heap} (hP : va_P D vwCl (lx_o o cL f) H) (ho : ∀ c, c < 49 → o ≠ ad c) (hk : ∀ q : Nat, q < H.size → ¬ aq_A 49 ad H.size q → H1[q]? = H[q]?) : va_P D vwCl (lx_o o cL f) H1 := by
  have hl : o < H.size := (hP 0 _ rfl).lt
  refine hP.kept (fun k z hz => ?_)
  have h1 : k < 1 := (List.getElem?_eq_some_iff.mp hz).1
  rw [show k = 0 by omega] at hz
  cases hz
  refine hk o hl (fun h => ?_)
  rcases h with ⟨c2, h2, h3⟩ | h
  · exact ho c2 h2 h3
  · exact absurd h (Nat.not_le.mpr hl)
theorem lx_call {r : Int32} (S : CallFix p m c cc nL s args Ts RL) (hT : aq_TE (aq_A 49 ad s.heap.size) s s.heap) (ho : ∀ c, c < 49 → o ≠ ad c) (hM : aq_MetX l y ws rm D (aC_t cI cQ) 49 ad (.ref (ad 0) :: As) (aC_w ad cI cQ V) κ (aq_QiX D (aC_t cI cQ) 49 ad κ r (aC_w ad cI cQ V1)) mc1 ms1) (cw : CallW R s args RL RX2 index y bytes maxL ret ws rm mc1 ms1 n)
    (J : lx_J D cI cQ cL ad o V f s s.heap) (hsz : ls.size = nL) (hdg : decode cc pc = .ok (.invokevirtual index, 3)) (hn : As.length = n) (hst : st = As.reverse ++ .ref (ad 0) :: rest) (hW : (rest.map fun v => v.category).sum ≤ 8) (hf : 0 + mc1 ≤ R.cells ∧ 0 + ms1 ≤ R.slots)
    (kx : ∀ (ce : Cell) (q9 : Addr) (H1 : Heap) (locs1 : List Loc), κ ≠ 0 → lx_J D cI cQ cL ad o V f s H1 → va_S (lx_A ad o s.heap.size) s.heap H1 locs1 → H1[q9]? = some ce → ce.vm = .none → s.vm.findClass (aq_en κ) = some ce.cls → vx_W p l e R s m args below meth c H1 locs1 (0 + mc1) (0 + ms1) Q (F0 m pc ls rest) q9)
    (kk : κ = 0 → ∀ (H1 : Heap) (locs1 : List Loc), lx_J D cI cQ cL ad o V1 f s H1 → va_S (lx_A ad o s.heap.size) s.heap H1 locs1 → W p l e R s m args below meth c H1 locs1 (0 + mc1) (0 + ms1) Q (F0 m (pc + 3) ls (.int r :: rest))) : W p l e R s m args below meth c s.heap [] 0 0 Q (F0 m pc ls st) := by
  have I : aq_I D (aC_t cI cQ) (aq_A 49 ad) (aC_w ad cI cQ V) s s.heap [] := ⟨J.1, J.2.1, va_S.rf⟩
  refine vx_calli (A0 := lx_A ad o s.heap.size) (vx_runV S (hM s.heap.size) cw (aq_preVX I hT (aC_recvX I)) rfl hn hsz hst (lv_room hW) hdg hf) va_S.rf (fun q _ h => Or.inl h) (fun q h => Or.inl h) (fun q _ h => Or.inl h) (fun E ce q9 u t H1 locs1 ht hvm hx hB hz hk hS hce hcv hcl => ?_) (fun x u t H1 locs1 ht hvm hx hB hz hk hS => ?_)
  · obtain ⟨⟨h0, hE⟩, hB⟩ := hB
    subst hE
    exact kx ce q9 H1 locs1 h0 ⟨J.1, by rw [← ht]; exact hB.2, J.2.2.1, lx_keep J.2.2.2 ho hk⟩ hS hce hcv hcl
  · obtain ⟨h0, hr⟩ := hx
    subst hr
    exact kk h0 H1 locs1 ⟨J.1, by rw [← ht]; exact hB.2, J.2.2.1, lx_keep J.2.2.2 ho hk⟩ hS
theorem lx_last {x : Int64} (S : CallFix p m c cc nL s args Ts own) (ho : ∀ c, c < 49 → o ≠ ad c) (J : lx_J D cI cQ cL ad o V f s H) (hS : va_S (lx_A ad o s.heap.size) s.heap H locs) (hdg : decode cc pc = .ok (.lastore, 1))
    (kk : ∀ (H1 : Heap) (locs1 : List Loc) (f1 : Nat → Int64), f1 0 = x → lx_J D cI cQ cL ad o V f1 s H1 → va_S (lx_A ad o s.heap.size) s.heap H1 locs1 → W p l e R s m args below meth c H1 locs1 cells slots Q (F0 m (pc + 1) ls rest)) : W p l e R s m args below meth c H locs cells slots Q (F0 m pc ls (.long x :: .int 0 :: .ref o :: rest)) := by
  have hin : vp_in (0 : Int32) 1 := by rw [← nI_0]; exact vp_in_nI (by omega) (by omega)
  refine W.last S.1 S.2.1 (a := o) (J.2.2.2 0 _ rfl) ((J.2.2.1.2 0 _ rfl).1 1 (fun j => .long (f j))) (fun h => by cases h) (by show ¬ ((0 : Int32) < 0 ∨ (arrV _ _ _).slots.size ≤ _); rw [arrV_size]; exact hin) rfl rfl hdg fun H1 e1 z1 oq => ?_
  refine kk H1 _ (vp_updL f 0 x) (by simp [vp_updL]) ⟨J.1, J.2.1.kept (fun k z hz => ?_), J.2.2.1, fun k z hz => ?_⟩ (hS.put z1 oq (Or.inr rfl))
  · obtain ⟨h1, rfl⟩ := aq_w_in hz
    exact oq _ (fun h => ho k h1 h.symm)
  · have h1 : k < 1 := (List.getElem?_eq_some_iff.mp hz).1
    rw [show k = 0 by omega] at hz
    cases hz
    show H1[o]? = some (vp_cell _ _)
    rw [e1]
    rw [vp_cell_l, vp_cell_l, arrV_store]
    congr 2
    funext q
    have h0 : (0 : Int32).toNatClampNeg = 0 := rfl
    rw [h0]
    by_cases hq : q = 0
    · subst hq
      simp [updV, vp_updL]
    · simp [updV, vp_updL, hq]
theorem lx_iret {x k r : Int32} (hx : p.tables.exec = Jvm.exec) (hb : c.code = cc) (hr : meth.sig.returnType = some .int) (hlocks : meth.locks = false) (J : lx_J D cI cQ cL ad o V9 f s H) (hS : va_S (lx_A ad o s.heap.size) s.heap H locs) (hdg : decode cc pc = .ok (.ireturn, 1)) (hc : cells ≤ mc) (hs : slots ≤ ms) (he : x = k ∧ (κ = 0 → f 0 = r.toInt64)) (hV : V9 = if κ = 0 then V1 else V) :
    W p l e R s m args below meth c H locs cells slots (MQ below (lx_Qc D cI cQ cL ad o κ k r V V1 s.heap.size) args s mc ms (lx_A ad o s.heap.size)) (F0 m pc ls [.int x]) := by
  subst hV
  exact W.widen hc hs (W.iret (v := x) hx hb hr (fun t ht hW => ⟨⟨x, f, rfl, he, va_K.moved hW.alike J.1, by rw [ht]; exact J.2.1, va_K.moved hW.alike J.2.2.1, by rw [ht]; exact J.2.2.2⟩, hS.F ht⟩) hS.2.2 hdg)
end LXA
set_option maxHeartbeats 4000000 in
set_option maxRecDepth 100000 in
theorem c_L_build (l : Launch) {D : va_G} {ad : Nat → Nat} {cI cQ cL : ClassId} {o κ : Nat} (ho : ∀ c, c < 49 → o ≠ ad c) {V V1 : aq_V} {f : Nat → Int64} (a b : Int32) {r : Int32} (hM : aq_MetX l yX2_build wsX2_build ({ frames := 7, cells := 3, slots := 18, locals := 112 } : Room) D (aC_t cI cQ) 49 ad [.ref (ad 0), .int a, .int b] (aC_w ad cI cQ V) κ (aq_QiX D (aC_t cI cQ) 49 ad κ r (aC_w ad cI cQ V1)) 3 18) (hκ : κ = 0 ∨ κ = 1 ∨ κ = 3) : ∀ sz, Met l yL_build wsL_build ({ frames := 8, cells := 3, slots := 18, locals := 134 }) (lx_Pc D cI cQ cL ad o [.ref (ad 0), .int a, .int b, .ref o] V f sz) (lx_Qc D cI cQ cL ad o κ (pu_k 1 9 2 κ) r V V1 sz) 3 18 (lx_A ad o sz) := by
  refine lx_enter (cc := cL_build) (maxL := 5) (ret := some .int) (hh := [(0, 10, 13, 13), (0, 10, 17, 15)]) (by decide) rfl (Nat.le_of_ble_eq_true rfl) ?_
  intro p e s m below meth c ls S hr hlocks htab hT hN J hl
  have S : CallFix p m c cL_build 5 s _ wsL_build RL := S
  have hl : lv_has ls 5 [(0, .ref (ad 0)), (1, .int a), (2, .int b), (3, .ref o)] := hl
  refine lv_aload_n S.1 S.2.1 dL_build_0 rfl (lv_at hl 3 rfl) ?_
  refine lv_iconst (v := 0) S.1 S.2.1 dL_build_1 (by decide) ?_
  refine lv_aload_n S.1 S.2.1 dL_build_2 rfl (lv_at hl 0 rfl) ?_
  refine lv_iload_n S.1 S.2.1 dL_build_3 rfl (lv_at hl 1 rfl) ?_
  refine lv_iload_n S.1 S.2.1 dL_build_4 rfl (lv_at hl 2 rfl) ?_
  refine lx_call (As := [.int a, .int b]) (rest := [.int 0, .ref o]) (κ := κ) (r := r) (V1 := V1) S hT ho hM (cwV 2 S.2.2.2.2 gL_build_X2_build rfl rfl rfl (by decide +kernel) ⟨Nat.le_of_ble_eq_true rfl, Nat.le_of_ble_eq_true rfl⟩) J hl.1 dL_build_5 rfl rfl (Nat.le_of_ble_eq_true rfl) ⟨by decide, by decide⟩ (fun ce q9 H locs h0 J hS hce hcv hcl => ?_) (fun h0 H locs J hS => ?_)
  · rcases hκ with rfl | rfl | rfl
    · exact absurd rfl h0
    · refine vx_catch (own := RL) (name := "java/lang/IllegalArgumentException") (E := "java/lang/IllegalArgumentException") S.2.2.2.1 [] ⟨0, 10, 13, 13⟩ [⟨0, 10, 17, 15⟩] (by rw [htab]; rfl) (fun z hz => ?_) rfl (by decide) (S.2.2.2.2 _ (List.mem_of_getElem? (i := 1) rfl)) (va_Nw.use rfl hT.1.1) hce hcv hcl ?_
      · exact absurd hz List.not_mem_nil
      · refine lv_astore (lv' := [(4, .ref q9), (0, .ref (ad 0)), (1, .int a), (2, .int b), (3, .ref o)]) S.1 S.2.1 dL_build_13 hl (by decide) rfl (fun ls hl => ?_)
        refine lv_iconst (v := 1) S.1 S.2.1 dL_build_15 (by decide) ?_
        exact lx_iret S.1 S.2.1 hr hlocks J hS dL_build_16 (by decide) (by decide) ⟨rfl, fun h => absurd h (by decide)⟩ rfl
    · refine vx_catch (own := RL) (name := "java/lang/IllegalStateException") (E := "java/lang/IllegalStateException") S.2.2.2.1 [⟨0, 10, 13, 13⟩] ⟨0, 10, 17, 15⟩ [] (by rw [htab]; rfl) (fun z hz => ?_) rfl (by decide) (S.2.2.2.2 _ (List.mem_of_getElem? (i := 2) rfl)) (va_Nw.use rfl hT.1.2.2) hce hcv hcl ?_
      · rcases List.mem_cons.mp hz with rfl | hz
        · exact Or.inr ⟨by decide, "java/lang/IllegalArgumentException", S.2.2.2.2 _ (List.mem_of_getElem? (i := 1) rfl), hN.1.1⟩
        · exact absurd hz List.not_mem_nil
      · refine lv_astore (lv' := [(4, .ref q9), (0, .ref (ad 0)), (1, .int a), (2, .int b), (3, .ref o)]) S.1 S.2.1 dL_build_17 hl (by decide) rfl (fun ls hl => ?_)
        refine lv_iconst (v := 2) S.1 S.2.1 dL_build_19 (by decide) ?_
        exact lx_iret S.1 S.2.1 hr hlocks J hS dL_build_20 (by decide) (by decide) ⟨rfl, fun h => absurd h (by decide)⟩ rfl
  · subst h0
    refine lv_i2l (v := r.toInt64) S.1 S.2.1 dL_build_8 rfl ?_
    refine lx_last S ho J hS dL_build_9 (fun H locs f1 hf1 J hS => ?_)
    refine lv_goto (tgt := 21) S.1 S.2.1 dL_build_10 (by decide) ?_
    refine lv_iconst (v := 0) S.1 S.2.1 dL_build_21 (by decide) ?_
    exact lx_iret S.1 S.2.1 hr hlocks J hS dL_build_22 (by decide) (by decide) ⟨rfl, fun _ => hf1⟩ rfl
set_option maxHeartbeats 4000000 in
set_option maxRecDepth 100000 in
theorem c_L_setSpring (l : Launch) {D : va_G} {ad : Nat → Nat} {cI cQ cL : ClassId} {o κ : Nat} (ho : ∀ c, c < 49 → o ≠ ad c) {V V1 : aq_V} {f : Nat → Int64} (a b : Int32) {r : Int32} (hM : aq_MetX l yX2_setSpring wsX2_setSpring ({ frames := 8, cells := 2, slots := 12, locals := 135 } : Room) D (aC_t cI cQ) 49 ad [.ref (ad 0), .int a, .int b] (aC_w ad cI cQ V) κ (aq_QiX D (aC_t cI cQ) 49 ad κ r (aC_w ad cI cQ V1)) 2 12) (hκ : κ = 0 ∨ κ = 1 ∨ κ = 2) : ∀ sz, Met l yL_setSpring wsL_setSpring ({ frames := 9, cells := 2, slots := 12, locals := 157 }) (lx_Pc D cI cQ cL ad o [.ref (ad 0), .int a, .int b, .ref o] V f sz) (lx_Qc D cI cQ cL ad o κ (pu_k 2 1 9 κ) r V V1 sz) 2 12 (lx_A ad o sz) := by
  refine lx_enter (cc := cL_setSpring) (maxL := 5) (ret := some .int) (hh := [(0, 10, 13, 20), (0, 10, 17, 13)]) (by decide) rfl (Nat.le_of_ble_eq_true rfl) ?_
  intro p e s m below meth c ls S hr hlocks htab hT hN J hl
  have S : CallFix p m c cL_setSpring 5 s _ wsL_setSpring RL := S
  have hl : lv_has ls 5 [(0, .ref (ad 0)), (1, .int a), (2, .int b), (3, .ref o)] := hl
  refine lv_aload_n S.1 S.2.1 dL_setSpring_0 rfl (lv_at hl 3 rfl) ?_
  refine lv_iconst (v := 0) S.1 S.2.1 dL_setSpring_1 (by decide) ?_
  refine lv_aload_n S.1 S.2.1 dL_setSpring_2 rfl (lv_at hl 0 rfl) ?_
  refine lv_iload_n S.1 S.2.1 dL_setSpring_3 rfl (lv_at hl 1 rfl) ?_
  refine lv_iload_n S.1 S.2.1 dL_setSpring_4 rfl (lv_at hl 2 rfl) ?_
  refine lx_call (As := [.int a, .int b]) (rest := [.int 0, .ref o]) (κ := κ) (r := r) (V1 := V1) S hT ho hM (cwV 2 S.2.2.2.2 gL_setSpring_X2_setSpring rfl rfl rfl (by decide +kernel) ⟨Nat.le_of_ble_eq_true rfl, Nat.le_of_ble_eq_true rfl⟩) J hl.1 dL_setSpring_5 rfl rfl (Nat.le_of_ble_eq_true rfl) ⟨by decide, by decide⟩ (fun ce q9 H locs h0 J hS hce hcv hcl => ?_) (fun h0 H locs J hS => ?_)
  · rcases hκ with rfl | rfl | rfl
    · exact absurd rfl h0
    · refine vx_catch (own := RL) (name := "java/lang/IllegalArgumentException") (E := "java/lang/IllegalArgumentException") S.2.2.2.1 [⟨0, 10, 13, 20⟩] ⟨0, 10, 17, 13⟩ [] (by rw [htab]; rfl) (fun z hz => ?_) rfl (by decide) (S.2.2.2.2 _ (List.mem_of_getElem? (i := 2) rfl)) (va_Nw.use rfl hT.1.1) hce hcv hcl ?_
      · rcases List.mem_cons.mp hz with rfl | hz
        · exact Or.inr ⟨by decide, "java/lang/IndexOutOfBoundsException", S.2.2.2.2 _ (List.mem_of_getElem? (i := 1) rfl), hN.2.1⟩
        · exact absurd hz List.not_mem_nil
      · refine lv_astore (lv' := [(4, .ref q9), (0, .ref (ad 0)), (1, .int a), (2, .int b), (3, .ref o)]) S.1 S.2.1 dL_setSpring_17 hl (by decide) rfl (fun ls hl => ?_)
        refine lv_iconst (v := 2) S.1 S.2.1 dL_setSpring_19 (by decide) ?_
        exact lx_iret S.1 S.2.1 hr hlocks J hS dL_setSpring_20 (by decide) (by decide) ⟨rfl, fun h => absurd h (by decide)⟩ rfl
    · refine vx_catch (own := RL) (name := "java/lang/IndexOutOfBoundsException") (E := "java/lang/IndexOutOfBoundsException") S.2.2.2.1 [] ⟨0, 10, 13, 20⟩ [⟨0, 10, 17, 13⟩] (by rw [htab]; rfl) (fun z hz => ?_) rfl (by decide) (S.2.2.2.2 _ (List.mem_of_getElem? (i := 1) rfl)) (va_Nw.use rfl hT.1.2.1) hce hcv hcl ?_
      · exact absurd hz List.not_mem_nil
      · refine lv_astore (lv' := [(4, .ref q9), (0, .ref (ad 0)), (1, .int a), (2, .int b), (3, .ref o)]) S.1 S.2.1 dL_setSpring_13 hl (by decide) rfl (fun ls hl => ?_)
        refine lv_iconst (v := 1) S.1 S.2.1 dL_setSpring_15 (by decide) ?_
        exact lx_iret S.1 S.2.1 hr hlocks J hS dL_setSpring_16 (by decide) (by decide) ⟨rfl, fun h => absurd h (by decide)⟩ rfl
  · subst h0
    refine lv_i2l (v := r.toInt64) S.1 S.2.1 dL_setSpring_8 rfl ?_
    refine lx_last S ho J hS dL_setSpring_9 (fun H locs f1 hf1 J hS => ?_)
    refine lv_goto (tgt := 21) S.1 S.2.1 dL_setSpring_10 (by decide) ?_
    refine lv_iconst (v := 0) S.1 S.2.1 dL_setSpring_21 (by decide) ?_
    exact lx_iret S.1 S.2.1 hr hlocks J hS dL_setSpring_22 (by decide) (by decide) ⟨rfl, fun _ => hf1⟩ rfl
set_option maxHeartbeats 4000000 in
set_option maxRecDepth 100000 in
theorem c_L_setCity (l : Launch) {D : va_G} {ad : Nat → Nat} {cI cQ cL : ClassId} {o κ : Nat} (ho : ∀ c, c < 49 → o ≠ ad c) {V V1 : aq_V} {f : Nat → Int64} (a b : Int32) {r : Int32} (hM : aq_MetX l yX2_setCity wsX2_setCity ({ frames := 8, cells := 2, slots := 12, locals := 135 } : Room) D (aC_t cI cQ) 49 ad [.ref (ad 0), .int a, .int b] (aC_w ad cI cQ V) κ (aq_QiX D (aC_t cI cQ) 49 ad κ r (aC_w ad cI cQ V1)) 2 12) (hκ : κ = 0 ∨ κ = 1 ∨ κ = 2) : ∀ sz, Met l yL_setCity wsL_setCity ({ frames := 9, cells := 2, slots := 12, locals := 157 }) (lx_Pc D cI cQ cL ad o [.ref (ad 0), .int a, .int b, .ref o] V f sz) (lx_Qc D cI cQ cL ad o κ (pu_k 2 1 9 κ) r V V1 sz) 2 12 (lx_A ad o sz) := by
  refine lx_enter (cc := cL_setCity) (maxL := 5) (ret := some .int) (hh := [(0, 10, 13, 20), (0, 10, 17, 13)]) (by decide) rfl (Nat.le_of_ble_eq_true rfl) ?_
  intro p e s m below meth c ls S hr hlocks htab hT hN J hl
  have S : CallFix p m c cL_setCity 5 s _ wsL_setCity RL := S
  have hl : lv_has ls 5 [(0, .ref (ad 0)), (1, .int a), (2, .int b), (3, .ref o)] := hl
  refine lv_aload_n S.1 S.2.1 dL_setCity_0 rfl (lv_at hl 3 rfl) ?_
  refine lv_iconst (v := 0) S.1 S.2.1 dL_setCity_1 (by decide) ?_
  refine lv_aload_n S.1 S.2.1 dL_setCity_2 rfl (lv_at hl 0 rfl) ?_
  refine lv_iload_n S.1 S.2.1 dL_setCity_3 rfl (lv_at hl 1 rfl) ?_
  refine lv_iload_n S.1 S.2.1 dL_setCity_4 rfl (lv_at hl 2 rfl) ?_
  refine lx_call (As := [.int a, .int b]) (rest := [.int 0, .ref o]) (κ := κ) (r := r) (V1 := V1) S hT ho hM (cwV 2 S.2.2.2.2 gL_setCity_X2_setCity rfl rfl rfl (by decide +kernel) ⟨Nat.le_of_ble_eq_true rfl, Nat.le_of_ble_eq_true rfl⟩) J hl.1 dL_setCity_5 rfl rfl (Nat.le_of_ble_eq_true rfl) ⟨by decide, by decide⟩ (fun ce q9 H locs h0 J hS hce hcv hcl => ?_) (fun h0 H locs J hS => ?_)
  · rcases hκ with rfl | rfl | rfl
    · exact absurd rfl h0
    · refine vx_catch (own := RL) (name := "java/lang/IllegalArgumentException") (E := "java/lang/IllegalArgumentException") S.2.2.2.1 [⟨0, 10, 13, 20⟩] ⟨0, 10, 17, 13⟩ [] (by rw [htab]; rfl) (fun z hz => ?_) rfl (by decide) (S.2.2.2.2 _ (List.mem_of_getElem? (i := 2) rfl)) (va_Nw.use rfl hT.1.1) hce hcv hcl ?_
      · rcases List.mem_cons.mp hz with rfl | hz
        · exact Or.inr ⟨by decide, "java/lang/IndexOutOfBoundsException", S.2.2.2.2 _ (List.mem_of_getElem? (i := 1) rfl), hN.2.1⟩
        · exact absurd hz List.not_mem_nil
      · refine lv_astore (lv' := [(4, .ref q9), (0, .ref (ad 0)), (1, .int a), (2, .int b), (3, .ref o)]) S.1 S.2.1 dL_setCity_17 hl (by decide) rfl (fun ls hl => ?_)
        refine lv_iconst (v := 2) S.1 S.2.1 dL_setCity_19 (by decide) ?_
        exact lx_iret S.1 S.2.1 hr hlocks J hS dL_setCity_20 (by decide) (by decide) ⟨rfl, fun h => absurd h (by decide)⟩ rfl
    · refine vx_catch (own := RL) (name := "java/lang/IndexOutOfBoundsException") (E := "java/lang/IndexOutOfBoundsException") S.2.2.2.1 [] ⟨0, 10, 13, 20⟩ [⟨0, 10, 17, 13⟩] (by rw [htab]; rfl) (fun z hz => ?_) rfl (by decide) (S.2.2.2.2 _ (List.mem_of_getElem? (i := 1) rfl)) (va_Nw.use rfl hT.1.2.1) hce hcv hcl ?_
      · exact absurd hz List.not_mem_nil
      · refine lv_astore (lv' := [(4, .ref q9), (0, .ref (ad 0)), (1, .int a), (2, .int b), (3, .ref o)]) S.1 S.2.1 dL_setCity_13 hl (by decide) rfl (fun ls hl => ?_)
        refine lv_iconst (v := 1) S.1 S.2.1 dL_setCity_15 (by decide) ?_
        exact lx_iret S.1 S.2.1 hr hlocks J hS dL_setCity_16 (by decide) (by decide) ⟨rfl, fun h => absurd h (by decide)⟩ rfl
  · subst h0
    refine lv_i2l (v := r.toInt64) S.1 S.2.1 dL_setCity_8 rfl ?_
    refine lx_last S ho J hS dL_setCity_9 (fun H locs f1 hf1 J hS => ?_)
    refine lv_goto (tgt := 21) S.1 S.2.1 dL_setCity_10 (by decide) ?_
    refine lv_iconst (v := 0) S.1 S.2.1 dL_setCity_21 (by decide) ?_
    exact lx_iret S.1 S.2.1 hr hlocks J hS dL_setCity_22 (by decide) (by decide) ⟨rfl, fun _ => hf1⟩ rfl
set_option maxHeartbeats 4000000 in
set_option maxRecDepth 100000 in
theorem c_L_setCistern (l : Launch) {D : va_G} {ad : Nat → Nat} {cI cQ cL : ClassId} {o κ : Nat} (ho : ∀ c, c < 49 → o ≠ ad c) {V V1 : aq_V} {f : Nat → Int64} (a : Int32) {r : Int32} (hM : aq_MetX l yX2_setCistern wsX2_setCistern ({ frames := 7, cells := 1, slots := 6, locals := 112 } : Room) D (aC_t cI cQ) 49 ad [.ref (ad 0), .int a] (aC_w ad cI cQ V) κ (aq_QiX D (aC_t cI cQ) 49 ad κ r (aC_w ad cI cQ V1)) 1 6) (hκ : κ = 0 ∨ κ = 1) : ∀ sz, Met l yL_setCistern wsL_setCistern ({ frames := 8, cells := 1, slots := 6, locals := 133 }) (lx_Pc D cI cQ cL ad o [.ref (ad 0), .int a, .ref o] V f sz) (lx_Qc D cI cQ cL ad o κ (pu_k 1 9 9 κ) r V V1 sz) 1 6 (lx_A ad o sz) := by
  refine lx_enter (cc := cL_setCistern) (maxL := 4) (ret := some .int) (hh := [(0, 9, 12, 13)]) (by decide) rfl (Nat.le_of_ble_eq_true rfl) ?_
  intro p e s m below meth c ls S hr hlocks htab hT hN J hl
  have S : CallFix p m c cL_setCistern 4 s _ wsL_setCistern RL := S
  have hl : lv_has ls 4 [(0, .ref (ad 0)), (1, .int a), (2, .ref o)] := hl
  refine lv_aload_n S.1 S.2.1 dL_setCistern_0 rfl (lv_at hl 2 rfl) ?_
  refine lv_iconst (v := 0) S.1 S.2.1 dL_setCistern_1 (by decide) ?_
  refine lv_aload_n S.1 S.2.1 dL_setCistern_2 rfl (lv_at hl 0 rfl) ?_
  refine lv_iload_n S.1 S.2.1 dL_setCistern_3 rfl (lv_at hl 1 rfl) ?_
  refine lx_call (As := [.int a]) (rest := [.int 0, .ref o]) (κ := κ) (r := r) (V1 := V1) S hT ho hM (cwV 1 S.2.2.2.2 gL_setCistern_X2_setCistern rfl rfl rfl (by decide +kernel) ⟨Nat.le_of_ble_eq_true rfl, Nat.le_of_ble_eq_true rfl⟩) J hl.1 dL_setCistern_4 rfl rfl (Nat.le_of_ble_eq_true rfl) ⟨by decide, by decide⟩ (fun ce q9 H locs h0 J hS hce hcv hcl => ?_) (fun h0 H locs J hS => ?_)
  · rcases hκ with rfl | rfl
    · exact absurd rfl h0
    · refine vx_catch (own := RL) (name := "java/lang/IllegalArgumentException") (E := "java/lang/IllegalArgumentException") S.2.2.2.1 [] ⟨0, 9, 12, 13⟩ [] (by rw [htab]; rfl) (fun z hz => ?_) rfl (by decide) (S.2.2.2.2 _ (List.mem_of_getElem? (i := 1) rfl)) (va_Nw.use rfl hT.1.1) hce hcv hcl ?_
      · exact absurd hz List.not_mem_nil
      · refine lv_astore_n (lv' := [(3, .ref q9), (0, .ref (ad 0)), (1, .int a), (2, .ref o)]) S.1 S.2.1 dL_setCistern_12 rfl hl (by decide) rfl (fun ls hl => ?_)
        refine lv_iconst (v := 1) S.1 S.2.1 dL_setCistern_13 (by decide) ?_
        exact lx_iret S.1 S.2.1 hr hlocks J hS dL_setCistern_14 (by decide) (by decide) ⟨rfl, fun h => absurd h (by decide)⟩ rfl
  · subst h0
    refine lv_i2l (v := r.toInt64) S.1 S.2.1 dL_setCistern_7 rfl ?_
    refine lx_last S ho J hS dL_setCistern_8 (fun H locs f1 hf1 J hS => ?_)
    refine lv_goto (tgt := 15) S.1 S.2.1 dL_setCistern_9 (by decide) ?_
    refine lv_iconst (v := 0) S.1 S.2.1 dL_setCistern_15 (by decide) ?_
    exact lx_iret S.1 S.2.1 hr hlocks J hS dL_setCistern_16 (by decide) (by decide) ⟨rfl, fun _ => hf1⟩ rfl
set_option maxHeartbeats 4000000 in
set_option maxRecDepth 100000 in
theorem c_L_arch (l : Launch) {D : va_G} {ad : Nat → Nat} {cI cQ cL : ClassId} {o κ : Nat} (ho : ∀ c, c < 49 → o ≠ ad c) {V V1 : aq_V} {f : Nat → Int64} (a b : Int32) {r : Int32} (hM : aq_MetX l yX2_arch wsX2_arch ({ frames := 8, cells := 2, slots := 12, locals := 132 } : Room) D (aC_t cI cQ) 49 ad [.ref (ad 0), .int a, .int b] (aC_w ad cI cQ V) κ (aq_QiX D (aC_t cI cQ) 49 ad κ r (aC_w ad cI cQ V1)) 2 12) (hκ : κ = 0 ∨ κ = 2) : ∀ sz, Met l yL_arch wsL_arch ({ frames := 9, cells := 2, slots := 12, locals := 154 }) (lx_Pc D cI cQ cL ad o [.ref (ad 0), .int a, .int b, .ref o] V f sz) (lx_Qc D cI cQ cL ad o κ (pu_k 9 1 9 κ) r V V1 sz) 2 12 (lx_A ad o sz) := by
  refine lx_enter (cc := cL_arch) (maxL := 5) (ret := some .int) (hh := [(0, 10, 13, 20)]) (by decide) rfl (Nat.le_of_ble_eq_true rfl) ?_
  intro p e s m below meth c ls S hr hlocks htab hT hN J hl
  have S : CallFix p m c cL_arch 5 s _ wsL_arch RL := S
  have hl : lv_has ls 5 [(0, .ref (ad 0)), (1, .int a), (2, .int b), (3, .ref o)] := hl
  refine lv_aload_n S.1 S.2.1 dL_arch_0 rfl (lv_at hl 3 rfl) ?_
  refine lv_iconst (v := 0) S.1 S.2.1 dL_arch_1 (by decide) ?_
  refine lv_aload_n S.1 S.2.1 dL_arch_2 rfl (lv_at hl 0 rfl) ?_
  refine lv_iload_n S.1 S.2.1 dL_arch_3 rfl (lv_at hl 1 rfl) ?_
  refine lv_iload_n S.1 S.2.1 dL_arch_4 rfl (lv_at hl 2 rfl) ?_
  refine lx_call (As := [.int a, .int b]) (rest := [.int 0, .ref o]) (κ := κ) (r := r) (V1 := V1) S hT ho hM (cwV 2 S.2.2.2.2 gL_arch_X2_arch rfl rfl rfl (by decide +kernel) ⟨Nat.le_of_ble_eq_true rfl, Nat.le_of_ble_eq_true rfl⟩) J hl.1 dL_arch_5 rfl rfl (Nat.le_of_ble_eq_true rfl) ⟨by decide, by decide⟩ (fun ce q9 H locs h0 J hS hce hcv hcl => ?_) (fun h0 H locs J hS => ?_)
  · rcases hκ with rfl | rfl
    · exact absurd rfl h0
    · refine vx_catch (own := RL) (name := "java/lang/IndexOutOfBoundsException") (E := "java/lang/IndexOutOfBoundsException") S.2.2.2.1 [] ⟨0, 10, 13, 20⟩ [] (by rw [htab]; rfl) (fun z hz => ?_) rfl (by decide) (S.2.2.2.2 _ (List.mem_of_getElem? (i := 1) rfl)) (va_Nw.use rfl hT.1.2.1) hce hcv hcl ?_
      · exact absurd hz List.not_mem_nil
      · refine lv_astore (lv' := [(4, .ref q9), (0, .ref (ad 0)), (1, .int a), (2, .int b), (3, .ref o)]) S.1 S.2.1 dL_arch_13 hl (by decide) rfl (fun ls hl => ?_)
        refine lv_iconst (v := 1) S.1 S.2.1 dL_arch_15 (by decide) ?_
        exact lx_iret S.1 S.2.1 hr hlocks J hS dL_arch_16 (by decide) (by decide) ⟨rfl, fun h => absurd h (by decide)⟩ rfl
  · subst h0
    refine lv_i2l (v := r.toInt64) S.1 S.2.1 dL_arch_8 rfl ?_
    refine lx_last S ho J hS dL_arch_9 (fun H locs f1 hf1 J hS => ?_)
    refine lv_goto (tgt := 17) S.1 S.2.1 dL_arch_10 (by decide) ?_
    refine lv_iconst (v := 0) S.1 S.2.1 dL_arch_17 (by decide) ?_
    exact lx_iret S.1 S.2.1 hr hlocks J hS dL_arch_18 (by decide) (by decide) ⟨rfl, fun _ => hf1⟩ rfl
set_option maxHeartbeats 4000000 in
set_option maxRecDepth 100000 in
theorem c_L_addMill (l : Launch) {D : va_G} {ad : Nat → Nat} {cI cQ cL : ClassId} {o κ : Nat} (ho : ∀ c, c < 49 → o ≠ ad c) {V V1 : aq_V} {f : Nat → Int64} (a b : Int32) {r : Int32} (hM : aq_MetX l yX2_addMill wsX2_addMill ({ frames := 8, cells := 3, slots := 18, locals := 132 } : Room) D (aC_t cI cQ) 49 ad [.ref (ad 0), .int a, .int b] (aC_w ad cI cQ V) κ (aq_QiX D (aC_t cI cQ) 49 ad κ r (aC_w ad cI cQ V1)) 3 18) (hκ : κ = 0 ∨ κ = 1 ∨ κ = 2 ∨ κ = 3) : ∀ sz, Met l yL_addMill wsL_addMill ({ frames := 9, cells := 3, slots := 18, locals := 155 }) (lx_Pc D cI cQ cL ad o [.ref (ad 0), .int a, .int b, .ref o] V f sz) (lx_Qc D cI cQ cL ad o κ (pu_k 2 1 3 κ) r V V1 sz) 3 18 (lx_A ad o sz) := by
  refine lx_enter (cc := cL_addMill) (maxL := 5) (ret := some .int) (hh := [(0, 10, 13, 20), (0, 10, 17, 13), (0, 10, 21, 15)]) (by decide) rfl (Nat.le_of_ble_eq_true rfl) ?_
  intro p e s m below meth c ls S hr hlocks htab hT hN J hl
  have S : CallFix p m c cL_addMill 5 s _ wsL_addMill RL := S
  have hl : lv_has ls 5 [(0, .ref (ad 0)), (1, .int a), (2, .int b), (3, .ref o)] := hl
  refine lv_aload_n S.1 S.2.1 dL_addMill_0 rfl (lv_at hl 3 rfl) ?_
  refine lv_iconst (v := 0) S.1 S.2.1 dL_addMill_1 (by decide) ?_
  refine lv_aload_n S.1 S.2.1 dL_addMill_2 rfl (lv_at hl 0 rfl) ?_
  refine lv_iload_n S.1 S.2.1 dL_addMill_3 rfl (lv_at hl 1 rfl) ?_
  refine lv_iload_n S.1 S.2.1 dL_addMill_4 rfl (lv_at hl 2 rfl) ?_
  refine lx_call (As := [.int a, .int b]) (rest := [.int 0, .ref o]) (κ := κ) (r := r) (V1 := V1) S hT ho hM (cwV 2 S.2.2.2.2 gL_addMill_X2_addMill rfl rfl rfl (by decide +kernel) ⟨Nat.le_of_ble_eq_true rfl, Nat.le_of_ble_eq_true rfl⟩) J hl.1 dL_addMill_5 rfl rfl (Nat.le_of_ble_eq_true rfl) ⟨by decide, by decide⟩ (fun ce q9 H locs h0 J hS hce hcv hcl => ?_) (fun h0 H locs J hS => ?_)
  · rcases hκ with rfl | rfl | rfl | rfl
    · exact absurd rfl h0
    · refine vx_catch (own := RL) (name := "java/lang/IllegalArgumentException") (E := "java/lang/IllegalArgumentException") S.2.2.2.1 [⟨0, 10, 13, 20⟩] ⟨0, 10, 17, 13⟩ [⟨0, 10, 21, 15⟩] (by rw [htab]; rfl) (fun z hz => ?_) rfl (by decide) (S.2.2.2.2 _ (List.mem_of_getElem? (i := 2) rfl)) (va_Nw.use rfl hT.1.1) hce hcv hcl ?_
      · rcases List.mem_cons.mp hz with rfl | hz
        · exact Or.inr ⟨by decide, "java/lang/IndexOutOfBoundsException", S.2.2.2.2 _ (List.mem_of_getElem? (i := 1) rfl), hN.2.1⟩
        · exact absurd hz List.not_mem_nil
      · refine lv_astore (lv' := [(4, .ref q9), (0, .ref (ad 0)), (1, .int a), (2, .int b), (3, .ref o)]) S.1 S.2.1 dL_addMill_17 hl (by decide) rfl (fun ls hl => ?_)
        refine lv_iconst (v := 2) S.1 S.2.1 dL_addMill_19 (by decide) ?_
        exact lx_iret S.1 S.2.1 hr hlocks J hS dL_addMill_20 (by decide) (by decide) ⟨rfl, fun h => absurd h (by decide)⟩ rfl
    · refine vx_catch (own := RL) (name := "java/lang/IndexOutOfBoundsException") (E := "java/lang/IndexOutOfBoundsException") S.2.2.2.1 [] ⟨0, 10, 13, 20⟩ [⟨0, 10, 17, 13⟩, ⟨0, 10, 21, 15⟩] (by rw [htab]; rfl) (fun z hz => ?_) rfl (by decide) (S.2.2.2.2 _ (List.mem_of_getElem? (i := 1) rfl)) (va_Nw.use rfl hT.1.2.1) hce hcv hcl ?_
      · exact absurd hz List.not_mem_nil
      · refine lv_astore (lv' := [(4, .ref q9), (0, .ref (ad 0)), (1, .int a), (2, .int b), (3, .ref o)]) S.1 S.2.1 dL_addMill_13 hl (by decide) rfl (fun ls hl => ?_)
        refine lv_iconst (v := 1) S.1 S.2.1 dL_addMill_15 (by decide) ?_
        exact lx_iret S.1 S.2.1 hr hlocks J hS dL_addMill_16 (by decide) (by decide) ⟨rfl, fun h => absurd h (by decide)⟩ rfl
    · refine vx_catch (own := RL) (name := "java/lang/IllegalStateException") (E := "java/lang/IllegalStateException") S.2.2.2.1 [⟨0, 10, 13, 20⟩, ⟨0, 10, 17, 13⟩] ⟨0, 10, 21, 15⟩ [] (by rw [htab]; rfl) (fun z hz => ?_) rfl (by decide) (S.2.2.2.2 _ (List.mem_of_getElem? (i := 3) rfl)) (va_Nw.use rfl hT.1.2.2) hce hcv hcl ?_
      · rcases List.mem_cons.mp hz with rfl | hz
        · exact Or.inr ⟨by decide, "java/lang/IndexOutOfBoundsException", S.2.2.2.2 _ (List.mem_of_getElem? (i := 1) rfl), hN.2.2⟩
        · rcases List.mem_cons.mp hz with rfl | hz
          · exact Or.inr ⟨by decide, "java/lang/IllegalArgumentException", S.2.2.2.2 _ (List.mem_of_getElem? (i := 2) rfl), hN.1.1⟩
          · exact absurd hz List.not_mem_nil
      · refine lv_astore (lv' := [(4, .ref q9), (0, .ref (ad 0)), (1, .int a), (2, .int b), (3, .ref o)]) S.1 S.2.1 dL_addMill_21 hl (by decide) rfl (fun ls hl => ?_)
        refine lv_iconst (v := 3) S.1 S.2.1 dL_addMill_23 (by decide) ?_
        exact lx_iret S.1 S.2.1 hr hlocks J hS dL_addMill_24 (by decide) (by decide) ⟨rfl, fun h => absurd h (by decide)⟩ rfl
  · subst h0
    refine lv_i2l (v := r.toInt64) S.1 S.2.1 dL_addMill_8 rfl ?_
    refine lx_last S ho J hS dL_addMill_9 (fun H locs f1 hf1 J hS => ?_)
    refine lv_goto (tgt := 25) S.1 S.2.1 dL_addMill_10 (by decide) ?_
    refine lv_iconst (v := 0) S.1 S.2.1 dL_addMill_25 (by decide) ?_
    exact lx_iret S.1 S.2.1 hr hlocks J hS dL_addMill_26 (by decide) (by decide) ⟨rfl, fun _ => hf1⟩ rfl
set_option maxHeartbeats 4000000 in
set_option maxRecDepth 100000 in
theorem c_L_setSluice (l : Launch) {D : va_G} {ad : Nat → Nat} {cI cQ cL : ClassId} {o κ : Nat} (ho : ∀ c, c < 49 → o ≠ ad c) {V V1 : aq_V} {f : Nat → Int64} (a b : Int32) {r : Int32} (hM : aq_MetX l yX2_setSluice wsX2_setSluice ({ frames := 8, cells := 3, slots := 18, locals := 132 } : Room) D (aC_t cI cQ) 49 ad [.ref (ad 0), .int a, .int b] (aC_w ad cI cQ V) κ (aq_QiX D (aC_t cI cQ) 49 ad κ r (aC_w ad cI cQ V1)) 3 18) (hκ : κ = 0 ∨ κ = 1 ∨ κ = 2 ∨ κ = 3) : ∀ sz, Met l yL_setSluice wsL_setSluice ({ frames := 9, cells := 3, slots := 18, locals := 156 }) (lx_Pc D cI cQ cL ad o [.ref (ad 0), .int a, .int b, .ref o] V f sz) (lx_Qc D cI cQ cL ad o κ (pu_k 2 1 3 κ) r V V1 sz) 3 18 (lx_A ad o sz) := by
  refine lx_enter (cc := cL_setSluice) (maxL := 5) (ret := some .int) (hh := [(0, 10, 13, 20), (0, 10, 17, 13), (0, 10, 21, 15)]) (by decide) rfl (Nat.le_of_ble_eq_true rfl) ?_
  intro p e s m below meth c ls S hr hlocks htab hT hN J hl
  have S : CallFix p m c cL_setSluice 5 s _ wsL_setSluice RL := S
  have hl : lv_has ls 5 [(0, .ref (ad 0)), (1, .int a), (2, .int b), (3, .ref o)] := hl
  refine lv_aload_n S.1 S.2.1 dL_setSluice_0 rfl (lv_at hl 3 rfl) ?_
  refine lv_iconst (v := 0) S.1 S.2.1 dL_setSluice_1 (by decide) ?_
  refine lv_aload_n S.1 S.2.1 dL_setSluice_2 rfl (lv_at hl 0 rfl) ?_
  refine lv_iload_n S.1 S.2.1 dL_setSluice_3 rfl (lv_at hl 1 rfl) ?_
  refine lv_iload_n S.1 S.2.1 dL_setSluice_4 rfl (lv_at hl 2 rfl) ?_
  refine lx_call (As := [.int a, .int b]) (rest := [.int 0, .ref o]) (κ := κ) (r := r) (V1 := V1) S hT ho hM (cwV 2 S.2.2.2.2 gL_setSluice_X2_setSluice rfl rfl rfl (by decide +kernel) ⟨Nat.le_of_ble_eq_true rfl, Nat.le_of_ble_eq_true rfl⟩) J hl.1 dL_setSluice_5 rfl rfl (Nat.le_of_ble_eq_true rfl) ⟨by decide, by decide⟩ (fun ce q9 H locs h0 J hS hce hcv hcl => ?_) (fun h0 H locs J hS => ?_)
  · rcases hκ with rfl | rfl | rfl | rfl
    · exact absurd rfl h0
    · refine vx_catch (own := RL) (name := "java/lang/IllegalArgumentException") (E := "java/lang/IllegalArgumentException") S.2.2.2.1 [⟨0, 10, 13, 20⟩] ⟨0, 10, 17, 13⟩ [⟨0, 10, 21, 15⟩] (by rw [htab]; rfl) (fun z hz => ?_) rfl (by decide) (S.2.2.2.2 _ (List.mem_of_getElem? (i := 2) rfl)) (va_Nw.use rfl hT.1.1) hce hcv hcl ?_
      · rcases List.mem_cons.mp hz with rfl | hz
        · exact Or.inr ⟨by decide, "java/lang/IndexOutOfBoundsException", S.2.2.2.2 _ (List.mem_of_getElem? (i := 1) rfl), hN.2.1⟩
        · exact absurd hz List.not_mem_nil
      · refine lv_astore (lv' := [(4, .ref q9), (0, .ref (ad 0)), (1, .int a), (2, .int b), (3, .ref o)]) S.1 S.2.1 dL_setSluice_17 hl (by decide) rfl (fun ls hl => ?_)
        refine lv_iconst (v := 2) S.1 S.2.1 dL_setSluice_19 (by decide) ?_
        exact lx_iret S.1 S.2.1 hr hlocks J hS dL_setSluice_20 (by decide) (by decide) ⟨rfl, fun h => absurd h (by decide)⟩ rfl
    · refine vx_catch (own := RL) (name := "java/lang/IndexOutOfBoundsException") (E := "java/lang/IndexOutOfBoundsException") S.2.2.2.1 [] ⟨0, 10, 13, 20⟩ [⟨0, 10, 17, 13⟩, ⟨0, 10, 21, 15⟩] (by rw [htab]; rfl) (fun z hz => ?_) rfl (by decide) (S.2.2.2.2 _ (List.mem_of_getElem? (i := 1) rfl)) (va_Nw.use rfl hT.1.2.1) hce hcv hcl ?_
      · exact absurd hz List.not_mem_nil
      · refine lv_astore (lv' := [(4, .ref q9), (0, .ref (ad 0)), (1, .int a), (2, .int b), (3, .ref o)]) S.1 S.2.1 dL_setSluice_13 hl (by decide) rfl (fun ls hl => ?_)
        refine lv_iconst (v := 1) S.1 S.2.1 dL_setSluice_15 (by decide) ?_
        exact lx_iret S.1 S.2.1 hr hlocks J hS dL_setSluice_16 (by decide) (by decide) ⟨rfl, fun h => absurd h (by decide)⟩ rfl
    · refine vx_catch (own := RL) (name := "java/lang/IllegalStateException") (E := "java/lang/IllegalStateException") S.2.2.2.1 [⟨0, 10, 13, 20⟩, ⟨0, 10, 17, 13⟩] ⟨0, 10, 21, 15⟩ [] (by rw [htab]; rfl) (fun z hz => ?_) rfl (by decide) (S.2.2.2.2 _ (List.mem_of_getElem? (i := 3) rfl)) (va_Nw.use rfl hT.1.2.2) hce hcv hcl ?_
      · rcases List.mem_cons.mp hz with rfl | hz
        · exact Or.inr ⟨by decide, "java/lang/IndexOutOfBoundsException", S.2.2.2.2 _ (List.mem_of_getElem? (i := 1) rfl), hN.2.2⟩
        · rcases List.mem_cons.mp hz with rfl | hz
          · exact Or.inr ⟨by decide, "java/lang/IllegalArgumentException", S.2.2.2.2 _ (List.mem_of_getElem? (i := 2) rfl), hN.1.1⟩
          · exact absurd hz List.not_mem_nil
      · refine lv_astore (lv' := [(4, .ref q9), (0, .ref (ad 0)), (1, .int a), (2, .int b), (3, .ref o)]) S.1 S.2.1 dL_setSluice_21 hl (by decide) rfl (fun ls hl => ?_)
        refine lv_iconst (v := 3) S.1 S.2.1 dL_setSluice_23 (by decide) ?_
        exact lx_iret S.1 S.2.1 hr hlocks J hS dL_setSluice_24 (by decide) (by decide) ⟨rfl, fun h => absurd h (by decide)⟩ rfl
  · subst h0
    refine lv_i2l (v := r.toInt64) S.1 S.2.1 dL_setSluice_8 rfl ?_
    refine lx_last S ho J hS dL_setSluice_9 (fun H locs f1 hf1 J hS => ?_)
    refine lv_goto (tgt := 25) S.1 S.2.1 dL_setSluice_10 (by decide) ?_
    refine lv_iconst (v := 0) S.1 S.2.1 dL_setSluice_25 (by decide) ?_
    exact lx_iret S.1 S.2.1 hr hlocks J hS dL_setSluice_26 (by decide) (by decide) ⟨rfl, fun _ => hf1⟩ rfl
set_option maxHeartbeats 4000000 in
set_option maxRecDepth 100000 in
theorem c_L_mill (l : Launch) {D : va_G} {ad : Nat → Nat} {cI cQ cL : ClassId} {o κ : Nat} (ho : ∀ c, c < 49 → o ≠ ad c) {V V1 : aq_V} {f : Nat → Int64} (a b : Int32) {r : Int32} (hM : aq_MetX l yX2_mill wsX2_mill ({ frames := 8, cells := 2, slots := 12, locals := 132 } : Room) D (aC_t cI cQ) 49 ad [.ref (ad 0), .int a, .int b] (aC_w ad cI cQ V) κ (aq_QiX D (aC_t cI cQ) 49 ad κ r (aC_w ad cI cQ V1)) 2 12) (hκ : κ = 0 ∨ κ = 2) : ∀ sz, Met l yL_mill wsL_mill ({ frames := 9, cells := 2, slots := 12, locals := 154 }) (lx_Pc D cI cQ cL ad o [.ref (ad 0), .int a, .int b, .ref o] V f sz) (lx_Qc D cI cQ cL ad o κ (pu_k 9 1 9 κ) r V V1 sz) 2 12 (lx_A ad o sz) := by
  refine lx_enter (cc := cL_mill) (maxL := 5) (ret := some .int) (hh := [(0, 10, 13, 20)]) (by decide) rfl (Nat.le_of_ble_eq_true rfl) ?_
  intro p e s m below meth c ls S hr hlocks htab hT hN J hl
  have S : CallFix p m c cL_mill 5 s _ wsL_mill RL := S
  have hl : lv_has ls 5 [(0, .ref (ad 0)), (1, .int a), (2, .int b), (3, .ref o)] := hl
  refine lv_aload_n S.1 S.2.1 dL_mill_0 rfl (lv_at hl 3 rfl) ?_
  refine lv_iconst (v := 0) S.1 S.2.1 dL_mill_1 (by decide) ?_
  refine lv_aload_n S.1 S.2.1 dL_mill_2 rfl (lv_at hl 0 rfl) ?_
  refine lv_iload_n S.1 S.2.1 dL_mill_3 rfl (lv_at hl 1 rfl) ?_
  refine lv_iload_n S.1 S.2.1 dL_mill_4 rfl (lv_at hl 2 rfl) ?_
  refine lx_call (As := [.int a, .int b]) (rest := [.int 0, .ref o]) (κ := κ) (r := r) (V1 := V1) S hT ho hM (cwV 2 S.2.2.2.2 gL_mill_X2_mill rfl rfl rfl (by decide +kernel) ⟨Nat.le_of_ble_eq_true rfl, Nat.le_of_ble_eq_true rfl⟩) J hl.1 dL_mill_5 rfl rfl (Nat.le_of_ble_eq_true rfl) ⟨by decide, by decide⟩ (fun ce q9 H locs h0 J hS hce hcv hcl => ?_) (fun h0 H locs J hS => ?_)
  · rcases hκ with rfl | rfl
    · exact absurd rfl h0
    · refine vx_catch (own := RL) (name := "java/lang/IndexOutOfBoundsException") (E := "java/lang/IndexOutOfBoundsException") S.2.2.2.1 [] ⟨0, 10, 13, 20⟩ [] (by rw [htab]; rfl) (fun z hz => ?_) rfl (by decide) (S.2.2.2.2 _ (List.mem_of_getElem? (i := 1) rfl)) (va_Nw.use rfl hT.1.2.1) hce hcv hcl ?_
      · exact absurd hz List.not_mem_nil
      · refine lv_astore (lv' := [(4, .ref q9), (0, .ref (ad 0)), (1, .int a), (2, .int b), (3, .ref o)]) S.1 S.2.1 dL_mill_13 hl (by decide) rfl (fun ls hl => ?_)
        refine lv_iconst (v := 1) S.1 S.2.1 dL_mill_15 (by decide) ?_
        exact lx_iret S.1 S.2.1 hr hlocks J hS dL_mill_16 (by decide) (by decide) ⟨rfl, fun h => absurd h (by decide)⟩ rfl
  · subst h0
    refine lv_i2l (v := r.toInt64) S.1 S.2.1 dL_mill_8 rfl ?_
    refine lx_last S ho J hS dL_mill_9 (fun H locs f1 hf1 J hS => ?_)
    refine lv_goto (tgt := 17) S.1 S.2.1 dL_mill_10 (by decide) ?_
    refine lv_iconst (v := 0) S.1 S.2.1 dL_mill_17 (by decide) ?_
    exact lx_iret S.1 S.2.1 hr hlocks J hS dL_mill_18 (by decide) (by decide) ⟨rfl, fun _ => hf1⟩ rfl
set_option maxHeartbeats 4000000 in
set_option maxRecDepth 100000 in
theorem c_L_mend (l : Launch) {D : va_G} {ad : Nat → Nat} {cI cQ cL : ClassId} {o κ : Nat} (ho : ∀ c, c < 49 → o ≠ ad c) {V V1 : aq_V} {f : Nat → Int64} (a : Int32) {r : Int32} (hM : aq_MetX l yX2_mend wsX2_mend ({ frames := 8, cells := 3, slots := 18, locals := 132 } : Room) D (aC_t cI cQ) 49 ad [.ref (ad 0), .int a] (aC_w ad cI cQ V) κ (aq_QiX D (aC_t cI cQ) 49 ad κ r (aC_w ad cI cQ V1)) 3 18) (hκ : κ = 0 ∨ κ = 2 ∨ κ = 3) : ∀ sz, Met l yL_mend wsL_mend ({ frames := 9, cells := 3, slots := 18, locals := 154 }) (lx_Pc D cI cQ cL ad o [.ref (ad 0), .int a, .ref o] V f sz) (lx_Qc D cI cQ cL ad o κ (pu_k 9 1 2 κ) r V V1 sz) 3 18 (lx_A ad o sz) := by
  refine lx_enter (cc := cL_mend) (maxL := 4) (ret := some .int) (hh := [(0, 9, 12, 20), (0, 9, 15, 15)]) (by decide) rfl (Nat.le_of_ble_eq_true rfl) ?_
  intro p e s m below meth c ls S hr hlocks htab hT hN J hl
  have S : CallFix p m c cL_mend 4 s _ wsL_mend RL := S
  have hl : lv_has ls 4 [(0, .ref (ad 0)), (1, .int a), (2, .ref o)] := hl
  refine lv_aload_n S.1 S.2.1 dL_mend_0 rfl (lv_at hl 2 rfl) ?_
  refine lv_iconst (v := 0) S.1 S.2.1 dL_mend_1 (by decide) ?_
  refine lv_aload_n S.1 S.2.1 dL_mend_2 rfl (lv_at hl 0 rfl) ?_
  refine lv_iload_n S.1 S.2.1 dL_mend_3 rfl (lv_at hl 1 rfl) ?_
  refine lx_call (As := [.int a]) (rest := [.int 0, .ref o]) (κ := κ) (r := r) (V1 := V1) S hT ho hM (cwV 1 S.2.2.2.2 gL_mend_X2_mend rfl rfl rfl (by decide +kernel) ⟨Nat.le_of_ble_eq_true rfl, Nat.le_of_ble_eq_true rfl⟩) J hl.1 dL_mend_4 rfl rfl (Nat.le_of_ble_eq_true rfl) ⟨by decide, by decide⟩ (fun ce q9 H locs h0 J hS hce hcv hcl => ?_) (fun h0 H locs J hS => ?_)
  · rcases hκ with rfl | rfl | rfl
    · exact absurd rfl h0
    · refine vx_catch (own := RL) (name := "java/lang/IndexOutOfBoundsException") (E := "java/lang/IndexOutOfBoundsException") S.2.2.2.1 [] ⟨0, 9, 12, 20⟩ [⟨0, 9, 15, 15⟩] (by rw [htab]; rfl) (fun z hz => ?_) rfl (by decide) (S.2.2.2.2 _ (List.mem_of_getElem? (i := 1) rfl)) (va_Nw.use rfl hT.1.2.1) hce hcv hcl ?_
      · exact absurd hz List.not_mem_nil
      · refine lv_astore_n (lv' := [(3, .ref q9), (0, .ref (ad 0)), (1, .int a), (2, .ref o)]) S.1 S.2.1 dL_mend_12 rfl hl (by decide) rfl (fun ls hl => ?_)
        refine lv_iconst (v := 1) S.1 S.2.1 dL_mend_13 (by decide) ?_
        exact lx_iret S.1 S.2.1 hr hlocks J hS dL_mend_14 (by decide) (by decide) ⟨rfl, fun h => absurd h (by decide)⟩ rfl
    · refine vx_catch (own := RL) (name := "java/lang/IllegalStateException") (E := "java/lang/IllegalStateException") S.2.2.2.1 [⟨0, 9, 12, 20⟩] ⟨0, 9, 15, 15⟩ [] (by rw [htab]; rfl) (fun z hz => ?_) rfl (by decide) (S.2.2.2.2 _ (List.mem_of_getElem? (i := 2) rfl)) (va_Nw.use rfl hT.1.2.2) hce hcv hcl ?_
      · rcases List.mem_cons.mp hz with rfl | hz
        · exact Or.inr ⟨by decide, "java/lang/IndexOutOfBoundsException", S.2.2.2.2 _ (List.mem_of_getElem? (i := 1) rfl), hN.2.2⟩
        · exact absurd hz List.not_mem_nil
      · refine lv_astore_n (lv' := [(3, .ref q9), (0, .ref (ad 0)), (1, .int a), (2, .ref o)]) S.1 S.2.1 dL_mend_15 rfl hl (by decide) rfl (fun ls hl => ?_)
        refine lv_iconst (v := 2) S.1 S.2.1 dL_mend_16 (by decide) ?_
        exact lx_iret S.1 S.2.1 hr hlocks J hS dL_mend_17 (by decide) (by decide) ⟨rfl, fun h => absurd h (by decide)⟩ rfl
  · subst h0
    refine lv_i2l (v := r.toInt64) S.1 S.2.1 dL_mend_7 rfl ?_
    refine lx_last S ho J hS dL_mend_8 (fun H locs f1 hf1 J hS => ?_)
    refine lv_goto (tgt := 18) S.1 S.2.1 dL_mend_9 (by decide) ?_
    refine lv_iconst (v := 0) S.1 S.2.1 dL_mend_18 (by decide) ?_
    exact lx_iret S.1 S.2.1 hr hlocks J hS dL_mend_19 (by decide) (by decide) ⟨rfl, fun _ => hf1⟩ rfl
set_option maxHeartbeats 4000000 in
set_option maxRecDepth 100000 in
theorem c_L_quake (l : Launch) {D : va_G} {ad : Nat → Nat} {cI cQ cL : ClassId} {o κ : Nat} (ho : ∀ c, c < 49 → o ≠ ad c) {V V1 : aq_V} {f : Nat → Int64} (a b : Int32) {r : Int32} (hM : aq_MetX l yX2_quake wsX2_quake ({ frames := 8, cells := 2, slots := 12, locals := 132 } : Room) D (aC_t cI cQ) 49 ad [.ref (ad 0), .int a, .int b] (aC_w ad cI cQ V) κ (aq_QiX D (aC_t cI cQ) 49 ad κ r (aC_w ad cI cQ V1)) 2 12) (hκ : κ = 0 ∨ κ = 1 ∨ κ = 2) : ∀ sz, Met l yL_quake wsL_quake ({ frames := 9, cells := 2, slots := 12, locals := 155 }) (lx_Pc D cI cQ cL ad o [.ref (ad 0), .int a, .int b, .ref o] V f sz) (lx_Qc D cI cQ cL ad o κ (pu_k 2 1 9 κ) r V V1 sz) 2 12 (lx_A ad o sz) := by
  refine lx_enter (cc := cL_quake) (maxL := 5) (ret := some .int) (hh := [(0, 10, 13, 20), (0, 10, 17, 13)]) (by decide) rfl (Nat.le_of_ble_eq_true rfl) ?_
  intro p e s m below meth c ls S hr hlocks htab hT hN J hl
  have S : CallFix p m c cL_quake 5 s _ wsL_quake RL := S
  have hl : lv_has ls 5 [(0, .ref (ad 0)), (1, .int a), (2, .int b), (3, .ref o)] := hl
  refine lv_aload_n S.1 S.2.1 dL_quake_0 rfl (lv_at hl 3 rfl) ?_
  refine lv_iconst (v := 0) S.1 S.2.1 dL_quake_1 (by decide) ?_
  refine lv_aload_n S.1 S.2.1 dL_quake_2 rfl (lv_at hl 0 rfl) ?_
  refine lv_iload_n S.1 S.2.1 dL_quake_3 rfl (lv_at hl 1 rfl) ?_
  refine lv_iload_n S.1 S.2.1 dL_quake_4 rfl (lv_at hl 2 rfl) ?_
  refine lx_call (As := [.int a, .int b]) (rest := [.int 0, .ref o]) (κ := κ) (r := r) (V1 := V1) S hT ho hM (cwV 2 S.2.2.2.2 gL_quake_X2_quake rfl rfl rfl (by decide +kernel) ⟨Nat.le_of_ble_eq_true rfl, Nat.le_of_ble_eq_true rfl⟩) J hl.1 dL_quake_5 rfl rfl (Nat.le_of_ble_eq_true rfl) ⟨by decide, by decide⟩ (fun ce q9 H locs h0 J hS hce hcv hcl => ?_) (fun h0 H locs J hS => ?_)
  · rcases hκ with rfl | rfl | rfl
    · exact absurd rfl h0
    · refine vx_catch (own := RL) (name := "java/lang/IllegalArgumentException") (E := "java/lang/IllegalArgumentException") S.2.2.2.1 [⟨0, 10, 13, 20⟩] ⟨0, 10, 17, 13⟩ [] (by rw [htab]; rfl) (fun z hz => ?_) rfl (by decide) (S.2.2.2.2 _ (List.mem_of_getElem? (i := 2) rfl)) (va_Nw.use rfl hT.1.1) hce hcv hcl ?_
      · rcases List.mem_cons.mp hz with rfl | hz
        · exact Or.inr ⟨by decide, "java/lang/IndexOutOfBoundsException", S.2.2.2.2 _ (List.mem_of_getElem? (i := 1) rfl), hN.2.1⟩
        · exact absurd hz List.not_mem_nil
      · refine lv_astore (lv' := [(4, .ref q9), (0, .ref (ad 0)), (1, .int a), (2, .int b), (3, .ref o)]) S.1 S.2.1 dL_quake_17 hl (by decide) rfl (fun ls hl => ?_)
        refine lv_iconst (v := 2) S.1 S.2.1 dL_quake_19 (by decide) ?_
        exact lx_iret S.1 S.2.1 hr hlocks J hS dL_quake_20 (by decide) (by decide) ⟨rfl, fun h => absurd h (by decide)⟩ rfl
    · refine vx_catch (own := RL) (name := "java/lang/IndexOutOfBoundsException") (E := "java/lang/IndexOutOfBoundsException") S.2.2.2.1 [] ⟨0, 10, 13, 20⟩ [⟨0, 10, 17, 13⟩] (by rw [htab]; rfl) (fun z hz => ?_) rfl (by decide) (S.2.2.2.2 _ (List.mem_of_getElem? (i := 1) rfl)) (va_Nw.use rfl hT.1.2.1) hce hcv hcl ?_
      · exact absurd hz List.not_mem_nil
      · refine lv_astore (lv' := [(4, .ref q9), (0, .ref (ad 0)), (1, .int a), (2, .int b), (3, .ref o)]) S.1 S.2.1 dL_quake_13 hl (by decide) rfl (fun ls hl => ?_)
        refine lv_iconst (v := 1) S.1 S.2.1 dL_quake_15 (by decide) ?_
        exact lx_iret S.1 S.2.1 hr hlocks J hS dL_quake_16 (by decide) (by decide) ⟨rfl, fun h => absurd h (by decide)⟩ rfl
  · subst h0
    refine lv_i2l (v := r.toInt64) S.1 S.2.1 dL_quake_8 rfl ?_
    refine lx_last S ho J hS dL_quake_9 (fun H locs f1 hf1 J hS => ?_)
    refine lv_goto (tgt := 21) S.1 S.2.1 dL_quake_10 (by decide) ?_
    refine lv_iconst (v := 0) S.1 S.2.1 dL_quake_21 (by decide) ?_
    exact lx_iret S.1 S.2.1 hr hlocks J hS dL_quake_22 (by decide) (by decide) ⟨rfl, fun _ => hf1⟩ rfl
set_option maxHeartbeats 4000000 in
set_option maxRecDepth 100000 in
theorem c_L_pass (l : Launch) {D : va_G} {ad : Nat → Nat} {cI cQ cL : ClassId} {o κ : Nat} (ho : ∀ c, c < 49 → o ≠ ad c) {V V1 : aq_V} {f : Nat → Int64} (a : Int32) {r : Int32} (hM : aq_MetX l yX2_pass wsX2_pass ({ frames := 7, cells := 1, slots := 6, locals := 134 } : Room) D (aC_t cI cQ) 49 ad [.ref (ad 0), .int a] (aC_w ad cI cQ V) κ (aq_QiX D (aC_t cI cQ) 49 ad κ r (aC_w ad cI cQ V1)) 1 6) (hκ : κ = 0 ∨ κ = 1) : ∀ sz, Met l yL_pass wsL_pass ({ frames := 8, cells := 1, slots := 6, locals := 156 }) (lx_Pc D cI cQ cL ad o [.ref (ad 0), .int a, .ref o] V f sz) (lx_Qc D cI cQ cL ad o κ (pu_k 1 9 9 κ) r V V1 sz) 1 6 (lx_A ad o sz) := by
  refine lx_enter (cc := cL_pass) (maxL := 4) (ret := some .int) (hh := [(0, 9, 12, 13)]) (by decide) rfl (Nat.le_of_ble_eq_true rfl) ?_
  intro p e s m below meth c ls S hr hlocks htab hT hN J hl
  have S : CallFix p m c cL_pass 4 s _ wsL_pass RL := S
  have hl : lv_has ls 4 [(0, .ref (ad 0)), (1, .int a), (2, .ref o)] := hl
  refine lv_aload_n S.1 S.2.1 dL_pass_0 rfl (lv_at hl 2 rfl) ?_
  refine lv_iconst (v := 0) S.1 S.2.1 dL_pass_1 (by decide) ?_
  refine lv_aload_n S.1 S.2.1 dL_pass_2 rfl (lv_at hl 0 rfl) ?_
  refine lv_iload_n S.1 S.2.1 dL_pass_3 rfl (lv_at hl 1 rfl) ?_
  refine lx_call (As := [.int a]) (rest := [.int 0, .ref o]) (κ := κ) (r := r) (V1 := V1) S hT ho hM (cwV 1 S.2.2.2.2 gL_pass_X2_pass rfl rfl rfl (by decide +kernel) ⟨Nat.le_of_ble_eq_true rfl, Nat.le_of_ble_eq_true rfl⟩) J hl.1 dL_pass_4 rfl rfl (Nat.le_of_ble_eq_true rfl) ⟨by decide, by decide⟩ (fun ce q9 H locs h0 J hS hce hcv hcl => ?_) (fun h0 H locs J hS => ?_)
  · rcases hκ with rfl | rfl
    · exact absurd rfl h0
    · refine vx_catch (own := RL) (name := "java/lang/IllegalArgumentException") (E := "java/lang/IllegalArgumentException") S.2.2.2.1 [] ⟨0, 9, 12, 13⟩ [] (by rw [htab]; rfl) (fun z hz => ?_) rfl (by decide) (S.2.2.2.2 _ (List.mem_of_getElem? (i := 1) rfl)) (va_Nw.use rfl hT.1.1) hce hcv hcl ?_
      · exact absurd hz List.not_mem_nil
      · refine lv_astore_n (lv' := [(3, .ref q9), (0, .ref (ad 0)), (1, .int a), (2, .ref o)]) S.1 S.2.1 dL_pass_12 rfl hl (by decide) rfl (fun ls hl => ?_)
        refine lv_iconst (v := 1) S.1 S.2.1 dL_pass_13 (by decide) ?_
        exact lx_iret S.1 S.2.1 hr hlocks J hS dL_pass_14 (by decide) (by decide) ⟨rfl, fun h => absurd h (by decide)⟩ rfl
  · subst h0
    refine lv_i2l (v := r.toInt64) S.1 S.2.1 dL_pass_7 rfl ?_
    refine lx_last S ho J hS dL_pass_8 (fun H locs f1 hf1 J hS => ?_)
    refine lv_goto (tgt := 15) S.1 S.2.1 dL_pass_9 (by decide) ?_
    refine lv_iconst (v := 0) S.1 S.2.1 dL_pass_15 (by decide) ?_
    exact lx_iret S.1 S.2.1 hr hlocks J hS dL_pass_16 (by decide) (by decide) ⟨rfl, fun _ => hf1⟩ rfl
set_option maxHeartbeats 4000000 in
set_option maxRecDepth 100000 in
theorem c_L_count (l : Launch) {D : va_G} {ad : Nat → Nat} {cI cQ cL : ClassId} {o κ : Nat} (ho : ∀ c, c < 49 → o ≠ ad c) {V V1 : aq_V} {f : Nat → Int64} (a : Int32) {r : Int32} (hM : aq_MetX l yX2_count wsX2_count ({ frames := 7, cells := 1, slots := 6, locals := 111 } : Room) D (aC_t cI cQ) 49 ad [.ref (ad 0), .int a] (aC_w ad cI cQ V) κ (aq_QiX D (aC_t cI cQ) 49 ad κ r (aC_w ad cI cQ V1)) 1 6) (hκ : κ = 0 ∨ κ = 2) : ∀ sz, Met l yL_count wsL_count ({ frames := 8, cells := 1, slots := 6, locals := 132 }) (lx_Pc D cI cQ cL ad o [.ref (ad 0), .int a, .ref o] V f sz) (lx_Qc D cI cQ cL ad o κ (pu_k 9 1 9 κ) r V V1 sz) 1 6 (lx_A ad o sz) := by
  refine lx_enter (cc := cL_count) (maxL := 4) (ret := some .int) (hh := [(0, 9, 12, 20)]) (by decide) rfl (Nat.le_of_ble_eq_true rfl) ?_
  intro p e s m below meth c ls S hr hlocks htab hT hN J hl
  have S : CallFix p m c cL_count 4 s _ wsL_count RL := S
  have hl : lv_has ls 4 [(0, .ref (ad 0)), (1, .int a), (2, .ref o)] := hl
  refine lv_aload_n S.1 S.2.1 dL_count_0 rfl (lv_at hl 2 rfl) ?_
  refine lv_iconst (v := 0) S.1 S.2.1 dL_count_1 (by decide) ?_
  refine lv_aload_n S.1 S.2.1 dL_count_2 rfl (lv_at hl 0 rfl) ?_
  refine lv_iload_n S.1 S.2.1 dL_count_3 rfl (lv_at hl 1 rfl) ?_
  refine lx_call (As := [.int a]) (rest := [.int 0, .ref o]) (κ := κ) (r := r) (V1 := V1) S hT ho hM (cwV 1 S.2.2.2.2 gL_count_X2_count rfl rfl rfl (by decide +kernel) ⟨Nat.le_of_ble_eq_true rfl, Nat.le_of_ble_eq_true rfl⟩) J hl.1 dL_count_4 rfl rfl (Nat.le_of_ble_eq_true rfl) ⟨by decide, by decide⟩ (fun ce q9 H locs h0 J hS hce hcv hcl => ?_) (fun h0 H locs J hS => ?_)
  · rcases hκ with rfl | rfl
    · exact absurd rfl h0
    · refine vx_catch (own := RL) (name := "java/lang/IndexOutOfBoundsException") (E := "java/lang/IndexOutOfBoundsException") S.2.2.2.1 [] ⟨0, 9, 12, 20⟩ [] (by rw [htab]; rfl) (fun z hz => ?_) rfl (by decide) (S.2.2.2.2 _ (List.mem_of_getElem? (i := 1) rfl)) (va_Nw.use rfl hT.1.2.1) hce hcv hcl ?_
      · exact absurd hz List.not_mem_nil
      · refine lv_astore_n (lv' := [(3, .ref q9), (0, .ref (ad 0)), (1, .int a), (2, .ref o)]) S.1 S.2.1 dL_count_12 rfl hl (by decide) rfl (fun ls hl => ?_)
        refine lv_iconst (v := 1) S.1 S.2.1 dL_count_13 (by decide) ?_
        exact lx_iret S.1 S.2.1 hr hlocks J hS dL_count_14 (by decide) (by decide) ⟨rfl, fun h => absurd h (by decide)⟩ rfl
  · subst h0
    refine lv_i2l (v := r.toInt64) S.1 S.2.1 dL_count_7 rfl ?_
    refine lx_last S ho J hS dL_count_8 (fun H locs f1 hf1 J hS => ?_)
    refine lv_goto (tgt := 15) S.1 S.2.1 dL_count_9 (by decide) ?_
    refine lv_iconst (v := 0) S.1 S.2.1 dL_count_15 (by decide) ?_
    exact lx_iret S.1 S.2.1 hr hlocks J hS dL_count_16 (by decide) (by decide) ⟨rfl, fun _ => hf1⟩ rfl
set_option maxHeartbeats 4000000 in
set_option maxRecDepth 100000 in
theorem c_L_foresee (l : Launch) {D : va_G} {ad : Nat → Nat} {cI cQ cL : ClassId} {o κ : Nat} (ho : ∀ c, c < 49 → o ≠ ad c) {V V1 : aq_V} {f : Nat → Int64} (a b : Int32) {r : Int32} (hM : aq_MetX l yX2_foresee wsX2_foresee ({ frames := 7, cells := 2, slots := 12, locals := 134 } : Room) D (aC_t cI cQ) 49 ad [.ref (ad 0), .int a, .int b] (aC_w ad cI cQ V) κ (aq_QiX D (aC_t cI cQ) 49 ad κ r (aC_w ad cI cQ V1)) 2 12) (hκ : κ = 0 ∨ κ = 1 ∨ κ = 2) : ∀ sz, Met l yL_foresee wsL_foresee ({ frames := 8, cells := 2, slots := 12, locals := 156 }) (lx_Pc D cI cQ cL ad o [.ref (ad 0), .int a, .int b, .ref o] V f sz) (lx_Qc D cI cQ cL ad o κ (pu_k 1 2 9 κ) r V V1 sz) 2 12 (lx_A ad o sz) := by
  refine lx_enter (cc := cL_foresee) (maxL := 5) (ret := some .int) (hh := [(0, 10, 13, 13), (0, 10, 17, 20)]) (by decide) rfl (Nat.le_of_ble_eq_true rfl) ?_
  intro p e s m below meth c ls S hr hlocks htab hT hN J hl
  have S : CallFix p m c cL_foresee 5 s _ wsL_foresee RL := S
  have hl : lv_has ls 5 [(0, .ref (ad 0)), (1, .int a), (2, .int b), (3, .ref o)] := hl
  refine lv_aload_n S.1 S.2.1 dL_foresee_0 rfl (lv_at hl 3 rfl) ?_
  refine lv_iconst (v := 0) S.1 S.2.1 dL_foresee_1 (by decide) ?_
  refine lv_aload_n S.1 S.2.1 dL_foresee_2 rfl (lv_at hl 0 rfl) ?_
  refine lv_iload_n S.1 S.2.1 dL_foresee_3 rfl (lv_at hl 1 rfl) ?_
  refine lv_iload_n S.1 S.2.1 dL_foresee_4 rfl (lv_at hl 2 rfl) ?_
  refine lx_call (As := [.int a, .int b]) (rest := [.int 0, .ref o]) (κ := κ) (r := r) (V1 := V1) S hT ho hM (cwV 2 S.2.2.2.2 gL_foresee_X2_foresee rfl rfl rfl (by decide +kernel) ⟨Nat.le_of_ble_eq_true rfl, Nat.le_of_ble_eq_true rfl⟩) J hl.1 dL_foresee_5 rfl rfl (Nat.le_of_ble_eq_true rfl) ⟨by decide, by decide⟩ (fun ce q9 H locs h0 J hS hce hcv hcl => ?_) (fun h0 H locs J hS => ?_)
  · rcases hκ with rfl | rfl | rfl
    · exact absurd rfl h0
    · refine vx_catch (own := RL) (name := "java/lang/IllegalArgumentException") (E := "java/lang/IllegalArgumentException") S.2.2.2.1 [] ⟨0, 10, 13, 13⟩ [⟨0, 10, 17, 20⟩] (by rw [htab]; rfl) (fun z hz => ?_) rfl (by decide) (S.2.2.2.2 _ (List.mem_of_getElem? (i := 1) rfl)) (va_Nw.use rfl hT.1.1) hce hcv hcl ?_
      · exact absurd hz List.not_mem_nil
      · refine lv_astore (lv' := [(4, .ref q9), (0, .ref (ad 0)), (1, .int a), (2, .int b), (3, .ref o)]) S.1 S.2.1 dL_foresee_13 hl (by decide) rfl (fun ls hl => ?_)
        refine lv_iconst (v := 1) S.1 S.2.1 dL_foresee_15 (by decide) ?_
        exact lx_iret S.1 S.2.1 hr hlocks J hS dL_foresee_16 (by decide) (by decide) ⟨rfl, fun h => absurd h (by decide)⟩ rfl
    · refine vx_catch (own := RL) (name := "java/lang/IndexOutOfBoundsException") (E := "java/lang/IndexOutOfBoundsException") S.2.2.2.1 [⟨0, 10, 13, 13⟩] ⟨0, 10, 17, 20⟩ [] (by rw [htab]; rfl) (fun z hz => ?_) rfl (by decide) (S.2.2.2.2 _ (List.mem_of_getElem? (i := 2) rfl)) (va_Nw.use rfl hT.1.2.1) hce hcv hcl ?_
      · rcases List.mem_cons.mp hz with rfl | hz
        · exact Or.inr ⟨by decide, "java/lang/IllegalArgumentException", S.2.2.2.2 _ (List.mem_of_getElem? (i := 1) rfl), hN.1.2⟩
        · exact absurd hz List.not_mem_nil
      · refine lv_astore (lv' := [(4, .ref q9), (0, .ref (ad 0)), (1, .int a), (2, .int b), (3, .ref o)]) S.1 S.2.1 dL_foresee_17 hl (by decide) rfl (fun ls hl => ?_)
        refine lv_iconst (v := 2) S.1 S.2.1 dL_foresee_19 (by decide) ?_
        exact lx_iret S.1 S.2.1 hr hlocks J hS dL_foresee_20 (by decide) (by decide) ⟨rfl, fun h => absurd h (by decide)⟩ rfl
  · subst h0
    refine lv_i2l (v := r.toInt64) S.1 S.2.1 dL_foresee_8 rfl ?_
    refine lx_last S ho J hS dL_foresee_9 (fun H locs f1 hf1 J hS => ?_)
    refine lv_goto (tgt := 21) S.1 S.2.1 dL_foresee_10 (by decide) ?_
    refine lv_iconst (v := 0) S.1 S.2.1 dL_foresee_21 (by decide) ?_
    exact lx_iret S.1 S.2.1 hr hlocks J hS dL_foresee_22 (by decide) (by decide) ⟨rfl, fun _ => hf1⟩ rfl
set_option maxHeartbeats 4000000 in
set_option maxRecDepth 100000 in
theorem c_L_advise (l : Launch) {D : va_G} {ad : Nat → Nat} {cI cQ cL : ClassId} {o κ : Nat} (ho : ∀ c, c < 49 → o ≠ ad c) {V V1 : aq_V} {f : Nat → Int64} (a : Int32) {r : Int32} (hM : aq_MetX l yX2_advise wsX2_advise ({ frames := 7, cells := 1, slots := 6, locals := 156 } : Room) D (aC_t cI cQ) 49 ad [.ref (ad 0), .int a] (aC_w ad cI cQ V) κ (aq_QiX D (aC_t cI cQ) 49 ad κ r (aC_w ad cI cQ V1)) 1 6) (hκ : κ = 0 ∨ κ = 1) : ∀ sz, Met l yL_advise wsL_advise ({ frames := 8, cells := 1, slots := 6, locals := 181 }) (lx_Pc D cI cQ cL ad o [.ref (ad 0), .int a, .ref o] V f sz) (lx_Qc D cI cQ cL ad o κ (pu_k 1 9 9 κ) r V V1 sz) 1 6 (lx_A ad o sz) := by
  refine lx_enter (cc := cL_advise) (maxL := 4) (ret := some .int) (hh := [(0, 9, 12, 13)]) (by decide) rfl (Nat.le_of_ble_eq_true rfl) ?_
  intro p e s m below meth c ls S hr hlocks htab hT hN J hl
  have S : CallFix p m c cL_advise 4 s _ wsL_advise RL := S
  have hl : lv_has ls 4 [(0, .ref (ad 0)), (1, .int a), (2, .ref o)] := hl
  refine lv_aload_n S.1 S.2.1 dL_advise_0 rfl (lv_at hl 2 rfl) ?_
  refine lv_iconst (v := 0) S.1 S.2.1 dL_advise_1 (by decide) ?_
  refine lv_aload_n S.1 S.2.1 dL_advise_2 rfl (lv_at hl 0 rfl) ?_
  refine lv_iload_n S.1 S.2.1 dL_advise_3 rfl (lv_at hl 1 rfl) ?_
  refine lx_call (As := [.int a]) (rest := [.int 0, .ref o]) (κ := κ) (r := r) (V1 := V1) S hT ho hM (cwV 1 S.2.2.2.2 gL_advise_X2_advise rfl rfl rfl (by decide +kernel) ⟨Nat.le_of_ble_eq_true rfl, Nat.le_of_ble_eq_true rfl⟩) J hl.1 dL_advise_4 rfl rfl (Nat.le_of_ble_eq_true rfl) ⟨by decide, by decide⟩ (fun ce q9 H locs h0 J hS hce hcv hcl => ?_) (fun h0 H locs J hS => ?_)
  · rcases hκ with rfl | rfl
    · exact absurd rfl h0
    · refine vx_catch (own := RL) (name := "java/lang/IllegalArgumentException") (E := "java/lang/IllegalArgumentException") S.2.2.2.1 [] ⟨0, 9, 12, 13⟩ [] (by rw [htab]; rfl) (fun z hz => ?_) rfl (by decide) (S.2.2.2.2 _ (List.mem_of_getElem? (i := 1) rfl)) (va_Nw.use rfl hT.1.1) hce hcv hcl ?_
      · exact absurd hz List.not_mem_nil
      · refine lv_astore_n (lv' := [(3, .ref q9), (0, .ref (ad 0)), (1, .int a), (2, .ref o)]) S.1 S.2.1 dL_advise_12 rfl hl (by decide) rfl (fun ls hl => ?_)
        refine lv_iconst (v := 1) S.1 S.2.1 dL_advise_13 (by decide) ?_
        exact lx_iret S.1 S.2.1 hr hlocks J hS dL_advise_14 (by decide) (by decide) ⟨rfl, fun h => absurd h (by decide)⟩ rfl
  · subst h0
    refine lv_i2l (v := r.toInt64) S.1 S.2.1 dL_advise_7 rfl ?_
    refine lx_last S ho J hS dL_advise_8 (fun H locs f1 hf1 J hS => ?_)
    refine lv_goto (tgt := 15) S.1 S.2.1 dL_advise_9 (by decide) ?_
    refine lv_iconst (v := 0) S.1 S.2.1 dL_advise_15 (by decide) ?_
    exact lx_iret S.1 S.2.1 hr hlocks J hS dL_advise_16 (by decide) (by decide) ⟨rfl, fun _ => hf1⟩ rfl
