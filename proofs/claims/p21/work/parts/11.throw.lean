/-! methods that may throw: 1 IllegalArgumentException, 2 IndexOutOfBoundsException, 3 IllegalStateException; 0: none -/
def aq_en (κ : Nat) : String := if κ = 1 then "java/lang/IllegalArgumentException" else if κ = 2 then "java/lang/IndexOutOfBoundsException" else "java/lang/IllegalStateException"
abbrev aq_xn : List String := ["java/lang/RuntimeException", "java/lang/Exception"]
def aq_xd (n : String) : Cond := .declares ⟨n, "<init>", "(Ljava/lang/String;)V"⟩
/-- what a throw stands on: words of the tables, two statics of Throwable, the texts -/
def aq_TE (A : Nat → Prop) (U : State) (H : Heap) : Prop :=
  (va_Nw (.castable "java/lang/IllegalArgumentException" "java/lang/IllegalArgumentException") U ∧ va_Nw (.castable "java/lang/IndexOutOfBoundsException" "java/lang/IndexOutOfBoundsException") U ∧ va_Nw (.castable "java/lang/IllegalStateException" "java/lang/IllegalStateException") U) ∧
  (va_Nw (aq_xd "java/lang/RuntimeException") U ∧ va_Nw (aq_xd "java/lang/Exception") U ∧ va_Nw (aq_xd "java/lang/Throwable") U) ∧
  (vx_Zq Bundle.tN "UNASSIGNED_STACK" Bundle.steD A U H ∧ vx_Zq Bundle.tN "SUPPRESSED_SENTINEL" Bundle.listD A U H) ∧
  (∃ sa, vk_R RX2 33 "there are as many arches as there can be" sa U) ∧ (∃ sa, vk_R RX2 78 "there is a mill already" sa U) ∧ (∃ sa, vk_R RX2 86 "there is no mill" sa U) ∧ (∃ sa, vk_R RX2 97 "there is no coin" sa U) ∧ (∃ sa, vk_R RX2 102 "the arch is not worn" sa U) ∧ (∃ sa, vk_R RX2 161 "there is none of this number" sa U) ∧ (∃ sa, vk_R RX2 166 "the number is too small or too great" sa U)
theorem aq_TE.warm {A B : Nat → Prop} {s U : State} {H : Heap} (hW : s.WarmedH U.vm) (hk : ∀ a : Nat, a < s.heap.size → ¬ A a → H[a]? = s.heap[a]?) (hAB : ∀ q, B q → A q) (h : aq_TE A s s.heap) : aq_TE B U H := by
  obtain ⟨⟨a1, a2, a3⟩, ⟨b1, b2, b3⟩, ⟨c1, c2⟩, ⟨_, d1⟩, ⟨_, d2⟩, ⟨_, d3⟩, ⟨_, d4⟩, ⟨_, d5⟩, ⟨_, d6⟩, ⟨_, d7⟩⟩ := h
  exact ⟨⟨va_Nw.warmC hW a1, va_Nw.warmC hW a2, va_Nw.warmC hW a3⟩, ⟨va_Nw.warmD hW b1, va_Nw.warmD hW b2, va_Nw.warmD hW b3⟩, ⟨vx_Zq.moved hW.alike ((c1.kept hk).narrow hAB), vx_Zq.moved hW.alike ((c2.kept hk).narrow hAB)⟩,
    ⟨_, vk_R.warm hW d1⟩, ⟨_, vk_R.warm hW d2⟩, ⟨_, vk_R.warm hW d3⟩, ⟨_, vk_R.warm hW d4⟩, ⟨_, vk_R.warm hW d5⟩, ⟨_, vk_R.warm hW d6⟩, ⟨_, vk_R.warm hW d7⟩⟩
theorem aq_TE.calling {A : Nat → Prop} {U : State} {g : JFrame} {mk : MethodId} {a : Array Value} (h : aq_TE A U U.heap) : aq_TE A (U.calling g mk a) (U.calling g mk a).heap := by
  obtain ⟨⟨a1, a2, a3⟩, ⟨b1, b2, b3⟩, ⟨c1, c2⟩, ⟨_, d1⟩, ⟨_, d2⟩, ⟨_, d3⟩, ⟨_, d4⟩, ⟨_, d5⟩, ⟨_, d6⟩, ⟨_, d7⟩⟩ := h
  exact ⟨⟨va_Nw.same rfl (u := U) rfl a1, va_Nw.same rfl (u := U) rfl a2, va_Nw.same rfl (u := U) rfl a3⟩, ⟨va_Nw.same rfl (u := U) rfl b1, va_Nw.same rfl (u := U) rfl b2, va_Nw.same rfl (u := U) rfl b3⟩, ⟨vx_Zq.moved (u := U) (Vm.Alike.refl U.vm) c1, vx_Zq.moved (u := U) (Vm.Alike.refl U.vm) c2⟩,
    ⟨_, vk_R.same (u := U) rfl d1⟩, ⟨_, vk_R.same (u := U) rfl d2⟩, ⟨_, vk_R.same (u := U) rfl d3⟩, ⟨_, vk_R.same (u := U) rfl d4⟩, ⟨_, vk_R.same (u := U) rfl d5⟩, ⟨_, vk_R.same (u := U) rfl d6⟩, ⟨_, vk_R.same (u := U) rfl d7⟩⟩
def aq_PcX (D : va_G) (tys : List (ClassId × FieldType)) (N : Nat) (ad : Nat → Nat) (As : List Value) (w : va_W) (sz : Nat) : Array Value → State → Prop := va_Pc As (fun U => U.heap.size = sz ∧ aq_B D tys w U ∧ aq_TE (aq_A N ad sz) U U.heap)
def aq_XC (D : va_G) (tys : List (ClassId × FieldType)) (N : Nat) (ad : Nat → Nat) (κ : Nat) (w : va_W) (sz : Nat) : String → State → State → Prop := vx_X (fun (_ : Unit) => True) (fun E _ t => (κ ≠ 0 ∧ E = aq_en κ) ∧ aq_B D tys w t) (aq_A N ad sz)
def aq_QiX (D : va_G) (tys : List (ClassId × FieldType)) (N : Nat) (ad : Nat → Nat) (κ : Nat) (r : Int32) (w' : va_W) (sz : Nat) : Array Value → State → Outcome → State → Prop := va_Qi (fun (x : Int32) (_ : Unit) => κ = 0 ∧ x = r) (fun _ t => aq_B D tys w' t) (aq_A N ad sz)
def aq_QvX (D : va_G) (tys : List (ClassId × FieldType)) (N : Nat) (ad : Nat → Nat) (κ : Nat) (w' : va_W) (sz : Nat) : Array Value → State → Outcome → State → Prop := va_Qv (fun (_ : Unit) => κ = 0) (fun _ t => aq_B D tys w' t) (aq_A N ad sz)
def aq_MetX (l : Launch) (y : MethodName) (ws : List Cond) (rm : Room) (D : va_G) (tys : List (ClassId × FieldType)) (N : Nat) (ad : Nat → Nat) (As : List Value) (w : va_W) (κ : Nat) (Qc : Nat → Array Value → State → Outcome → State → Prop) (mc ms : Nat) : Prop :=
  ∀ sz, vx_Met l y ws rm (aq_PcX D tys N ad As w sz) (Qc sz) (aq_XC D tys N ad κ w sz) mc ms (aq_A N ad sz)
theorem aq_bad1 : ∀ w ∈ (vx_atS RX2 168 "java/lang/IllegalArgumentException" aq_xn).filter (fun w => !goodWord w), w ∈ [Cond.castable "java/lang/IllegalArgumentException" "java/lang/IllegalArgumentException", aq_xd "java/lang/RuntimeException", aq_xd "java/lang/Exception", aq_xd "java/lang/Throwable"] := by decide +kernel
theorem aq_bad2 : ∀ w ∈ (vx_atS RX2 163 "java/lang/IndexOutOfBoundsException" aq_xn).filter (fun w => !goodWord w), w ∈ [Cond.castable "java/lang/IndexOutOfBoundsException" "java/lang/IndexOutOfBoundsException", aq_xd "java/lang/RuntimeException", aq_xd "java/lang/Exception", aq_xd "java/lang/Throwable"] := by decide +kernel
theorem aq_bad3 : ∀ w ∈ (vx_atS RX2 35 "java/lang/IllegalStateException" aq_xn).filter (fun w => !goodWord w), w ∈ [Cond.castable "java/lang/IllegalStateException" "java/lang/IllegalStateException", aq_xd "java/lang/RuntimeException", aq_xd "java/lang/Exception", aq_xd "java/lang/Throwable"] := by decide +kernel
theorem aq_ot1 : ∀ w ∈ Cond.classLink RX2 164 "java/lang/IllegalArgumentException" :: Cond.initialized "java/lang/IllegalArgumentException" :: vx_atS RX2 168 "java/lang/IllegalArgumentException" aq_xn, vx_ot w = true := by decide +kernel
theorem aq_ot2 : ∀ w ∈ Cond.classLink RX2 159 "java/lang/IndexOutOfBoundsException" :: Cond.initialized "java/lang/IndexOutOfBoundsException" :: vx_atS RX2 163 "java/lang/IndexOutOfBoundsException" aq_xn, vx_ot w = true := by decide +kernel
theorem aq_ot3 : ∀ w ∈ Cond.classLink RX2 31 "java/lang/IllegalStateException" :: Cond.initialized "java/lang/IllegalStateException" :: vx_atS RX2 35 "java/lang/IllegalStateException" aq_xn, vx_ot w = true := by decide +kernel
section AQX
variable {p : Program} {l : Launch} {e : Env} {R : Room} {s : State} {m : MethodId} {args : Array Value} {below : List Frame} {meth : Method} {c : Code} {H : Heap} {locs : List Loc} {cells slots : Nat} {Q : State → Prop}
variable {cc bytes : ByteArray} {maxL nL mc ms mc1 ms1 n index pc N κ κ1 : Nat} {ad : Nat → Nat} {ls : Array Slot} {st rest : List Value} {ret : Option FieldType} {ws ws' Ts : List Cond} {rm : Room} {y : MethodName} {own C ref : String} {D : va_G} {tys : List (ClassId × FieldType)} {w w' w0 w1 : va_W} {As : List Value} {Qc : Nat → Array Value → State → Outcome → State → Prop}
theorem aq_enterX (hy : plainName y.cls = true) (hw : ws = Cond.code y cc maxL ret :: ws') (hn : (lg_sl As).length ≤ maxL)
    (k : ∀ (p : Program) (e : Env) (s : State) (m : MethodId) (below : List Frame) (meth : Method) (c : Code) (ls : Array Slot), CallFix p m c cc maxL s As.toArray ws y.cls → meth.sig.returnType = ret → meth.locks = false → (∀ x ∈ c.exceptionTable.toList, False) → aq_TE (aq_A N ad s.heap.size) s s.heap → aq_I D tys (aq_A N ad) w s s.heap [] → lv_has ls maxL (lv_args 0 As) →
      W p l e rm s m As.toArray below meth c s.heap [] 0 0 (vx_MQ below (Qc s.heap.size) (aq_XC D tys N ad κ w s.heap.size) As.toArray s mc ms (aq_A N ad s.heap.size)) (F0 m 0 ls [])) :
    aq_MetX l y ws rm D tys N ad As w κ Qc mc ms := by
  intro sz
  refine vx_ofW (cc := cc) (maxL := maxL) (ret := ret) hy hw ?_
  intro p e s m args below meth c s₁ B hml hout hv
  obtain ⟨rfl, hsz, hB, hT⟩ := hv
  subst hsz
  have hl := lv_entry As (n := maxL) hn
  rw [lg_entry_eq]
  exact k p e s m below meth c _ ⟨B.exec, B.bytes, hml, findClass_of_methodNamed B.named, atoms_spec (ws := ws) B.pre⟩ B.returns B.notSynchronized hout hT ⟨hB.1, hB.2, va_S.rf⟩ hl
theorem aq_blindX {sz : Nat} : FrameBlind (aq_PcX D tys N ad As w sz) := fun a U g mk q => by
  obtain ⟨q0, q1, ⟨qK, qP⟩, qT⟩ := q
  exact ⟨q0, q1, ⟨va_K.moved (u := U) (U := U.calling g mk a) (Vm.Alike.refl U.vm) qK, qP⟩, qT.calling⟩
theorem aq_preVX {b : Addr} (I : aq_I D tys (aq_A N ad) w s H locs) (hT : aq_TE (aq_A N ad s.heap.size) s s.heap) (hr : ∃ cell : Cell, H[b]? = some cell ∧ cell.vm.isStatics = false ∧ s.vm.findClass C = some cell.cls) : PreV s H C b (aq_PcX D tys N ad (.ref b :: As) w H.size) As :=
  ⟨aq_blindX, hr, fun U hU hW => ⟨rfl, by rw [hU], ⟨va_K.moved hW.alike I.1, by rw [hU]; exact I.2.1⟩, by rw [hU]; exact hT.warm hW I.2.2.2.1 (aq_free I)⟩⟩
theorem aq_preSX (I : aq_I D tys (aq_A N ad) w s H locs) (hT : aq_TE (aq_A N ad s.heap.size) s s.heap) : PreS s H (aq_PcX D tys N ad As w H.size) As :=
  ⟨aq_blindX, fun U hU hW => ⟨rfl, by rw [hU], ⟨va_K.moved hW.alike I.1, by rw [hU]; exact I.2.1⟩, by rw [hU]; exact hT.warm hW I.2.2.2.1 (aq_free I)⟩⟩
/-- what a callee throws goes on to the caller -/
theorem aq_onward (hlocks : meth.locks = false) (hout : ∀ x ∈ c.exceptionTable.toList, False) {E : String} {ce : Cell} {q9 : Addr} {t : State} {H1 : Heap} {locs1 : List Loc} (ht : t.heap = H1) (hvm : s.vm.Alike t.vm) (hB : (κ1 ≠ 0 ∧ E = aq_en κ1) ∧ aq_B D tys w t) (hS : va_S (aq_A N ad s.heap.size) s.heap H1 locs1) (hce : H1[q9]? = some ce) (hcv : ce.vm = .none) (hcl : s.vm.findClass E = some ce.cls) (hc : cells ≤ mc) (hs : slots ≤ ms) (hp : κ1 ≠ 0 → κ = κ1) :
    vx_W p l e R s m args below meth c H1 locs1 cells slots (vx_MQ below (Qc s.heap.size) (aq_XC D tys N ad κ w s.heap.size) args s mc ms (aq_A N ad s.heap.size)) (F0 m pc ls rest) q9 := by
  obtain ⟨⟨hz, hE⟩, hB⟩ := hB
  refine vx_out (fun x hx => (hout x hx).elim) hlocks hce hcv hcl (fun t2 ht2 hA2 => ⟨(), trivial, ⟨⟨by rw [hp hz]; exact hz, by rw [hE, hp hz]⟩, va_K.moved (hvm.symm.trans hA2) hB.1, by rw [ht2, ← ht]; exact hB.2⟩, hS.F ht2⟩) hS.2.2 hc hs
theorem aq_xcallSv (S : CallFix p m c cc nL s args Ts own) (hT : aq_TE (aq_A N ad s.heap.size) s s.heap) (hlocks : meth.locks = false) (hout : ∀ x ∈ c.exceptionTable.toList, False) (hM : aq_MetX l y ws rm D tys N ad As w κ1 (aq_QvX D tys N ad κ1 w') mc1 ms1) (cw : CallB R s args own index y bytes maxL ret ws rm mc1 ms1 n ∧ (Cond.static y).before args s = true)
    (I : aq_I D tys (aq_A N ad) w s H locs) (hsz : ls.size = nL) (hdg : decode cc pc = .ok (.invokestatic index, 3)) (hn : As.length = n) (hst : st = As.reverse ++ rest) (hW : (rest.map fun v => v.category).sum ≤ 8) (hf : cells + mc1 ≤ R.cells ∧ slots + ms1 ≤ R.slots) (hg : cells + mc1 ≤ mc ∧ slots + ms1 ≤ ms) (hp : κ1 ≠ 0 → κ = κ1)
    (kk : κ1 = 0 → ∀ (H1 : Heap) (locs1 : List Loc), aq_I D tys (aq_A N ad) w' s H1 locs1 → W p l e R s m args below meth c H1 locs1 (cells + mc1) (slots + ms1) (vx_MQ below (Qc s.heap.size) (aq_XC D tys N ad κ w s.heap.size) args s mc ms (aq_A N ad s.heap.size)) (F0 m (pc + 3) ls rest)) : W p l e R s m args below meth c H locs cells slots (vx_MQ below (Qc s.heap.size) (aq_XC D tys N ad κ w s.heap.size) args s mc ms (aq_A N ad s.heap.size)) (F0 m pc ls st) := by
  refine vx_callv (vx_runS S (hM H.size) cw (aq_preSX I hT) rfl hn hsz hst (lv_room hW) hdg hf) I.2.2 (fun q _ h => aq_free I q h) (aq_free I) (fun q _ h => aq_free I q h) (fun E ce q9 u t H1 locs1 ht hvm hx hB _ _ hS hce hcv hcl => aq_onward hlocks hout ht hvm hB hS hce hcv hcl hg.1 hg.2 hp) (fun u t H1 locs1 ht hvm hx hB _ _ hS => ?_)
  exact kk hx H1 locs1 (aq_back I ht hvm hB hS)
theorem aq_xcallVv {b : Addr} (S : CallFix p m c cc nL s args Ts own) (hT : aq_TE (aq_A N ad s.heap.size) s s.heap) (hlocks : meth.locks = false) (hout : ∀ x ∈ c.exceptionTable.toList, False) (hM : aq_MetX l y ws rm D tys N ad (.ref b :: As) w κ1 (aq_QvX D tys N ad κ1 w') mc1 ms1) (cw : CallW R s args own C index y bytes maxL ret ws rm mc1 ms1 n) (hr : ∃ cell : Cell, H[b]? = some cell ∧ cell.vm.isStatics = false ∧ s.vm.findClass C = some cell.cls)
    (I : aq_I D tys (aq_A N ad) w s H locs) (hsz : ls.size = nL) (hdg : decode cc pc = .ok (.invokevirtual index, 3)) (hn : As.length = n) (hst : st = As.reverse ++ .ref b :: rest) (hW : (rest.map fun v => v.category).sum ≤ 8) (hf : cells + mc1 ≤ R.cells ∧ slots + ms1 ≤ R.slots) (hg : cells + mc1 ≤ mc ∧ slots + ms1 ≤ ms) (hp : κ1 ≠ 0 → κ = κ1)
    (kk : κ1 = 0 → ∀ (H1 : Heap) (locs1 : List Loc), aq_I D tys (aq_A N ad) w' s H1 locs1 → W p l e R s m args below meth c H1 locs1 (cells + mc1) (slots + ms1) (vx_MQ below (Qc s.heap.size) (aq_XC D tys N ad κ w s.heap.size) args s mc ms (aq_A N ad s.heap.size)) (F0 m (pc + 3) ls rest)) : W p l e R s m args below meth c H locs cells slots (vx_MQ below (Qc s.heap.size) (aq_XC D tys N ad κ w s.heap.size) args s mc ms (aq_A N ad s.heap.size)) (F0 m pc ls st) := by
  refine vx_callv (vx_runV S (hM H.size) cw (aq_preVX I hT hr) rfl hn hsz hst (lv_room hW) hdg hf) I.2.2 (fun q _ h => aq_free I q h) (aq_free I) (fun q _ h => aq_free I q h) (fun E ce q9 u t H1 locs1 ht hvm hx hB _ _ hS hce hcv hcl => aq_onward hlocks hout ht hvm hB hS hce hcv hcl hg.1 hg.2 hp) (fun u t H1 locs1 ht hvm hx hB _ _ hS => ?_)
  exact kk hx H1 locs1 (aq_back I ht hvm hB hS)
theorem aq_xcallSi {r : Int32} (S : CallFix p m c cc nL s args Ts own) (hT : aq_TE (aq_A N ad s.heap.size) s s.heap) (hlocks : meth.locks = false) (hout : ∀ x ∈ c.exceptionTable.toList, False) (hM : aq_MetX l y ws rm D tys N ad As w κ1 (aq_QiX D tys N ad κ1 r w') mc1 ms1) (cw : CallB R s args own index y bytes maxL ret ws rm mc1 ms1 n ∧ (Cond.static y).before args s = true)
    (I : aq_I D tys (aq_A N ad) w s H locs) (hsz : ls.size = nL) (hdg : decode cc pc = .ok (.invokestatic index, 3)) (hn : As.length = n) (hst : st = As.reverse ++ rest) (hW : (rest.map fun v => v.category).sum ≤ 8) (hf : cells + mc1 ≤ R.cells ∧ slots + ms1 ≤ R.slots) (hg : cells + mc1 ≤ mc ∧ slots + ms1 ≤ ms) (hp : κ1 ≠ 0 → κ = κ1)
    (kk : κ1 = 0 → ∀ (H1 : Heap) (locs1 : List Loc), aq_I D tys (aq_A N ad) w' s H1 locs1 → W p l e R s m args below meth c H1 locs1 (cells + mc1) (slots + ms1) (vx_MQ below (Qc s.heap.size) (aq_XC D tys N ad κ w s.heap.size) args s mc ms (aq_A N ad s.heap.size)) (F0 m (pc + 3) ls (.int r :: rest))) : W p l e R s m args below meth c H locs cells slots (vx_MQ below (Qc s.heap.size) (aq_XC D tys N ad κ w s.heap.size) args s mc ms (aq_A N ad s.heap.size)) (F0 m pc ls st) := by
  refine vx_calli (vx_runS S (hM H.size) cw (aq_preSX I hT) rfl hn hsz hst (lv_room hW) hdg hf) I.2.2 (fun q _ h => aq_free I q h) (aq_free I) (fun q _ h => aq_free I q h) (fun E ce q9 u t H1 locs1 ht hvm hx hB _ _ hS hce hcv hcl => aq_onward hlocks hout ht hvm hB hS hce hcv hcl hg.1 hg.2 hp) (fun x u t H1 locs1 ht hvm hx hB _ _ hS => ?_)
  obtain ⟨hx0, hx1⟩ := hx
  subst hx1
  exact kk hx0 H1 locs1 (aq_back I ht hvm hB hS)
/-- 'throw new E("..")' in the class -/
theorem aq_throw {cls text : String} {ik is ic sa : Nat} {B : List Cond} (S : CallFix p m c cc nL s args Ts RX2) (hlt : l.stackTraces = false) (hT : aq_TE (aq_A N ad s.heap.size) s s.heap) (hlocks : meth.locks = false) (hout : ∀ x ∈ c.exceptionTable.toList, False) (I : aq_I D tys (aq_A N ad) w s H locs) (hsz : ls.size = nL) (hcls : Bundle.fit cls = true)
    (hk : Cond.classLink RX2 ik cls ∈ Ts) (hini : Cond.initialized cls ∈ Ts) (hstr : vk_R RX2 is text sa s) (hgw : ∀ w ∈ (vx_atS RX2 ic cls aq_xn).filter goodWord, w ∈ Ts) (hbad : ∀ w ∈ (vx_atS RX2 ic cls aq_xn).filter (fun w => !goodWord w), w ∈ B) (hB : ∀ w ∈ B, w.before args s = true) (hot : ∀ w ∈ Cond.classLink RX2 ik cls :: Cond.initialized cls :: vx_atS RX2 ic cls aq_xn, vx_ot w = true)
    (d0 : decode cc pc = .ok (.new ik, 3)) (d3 : decode cc (pc + 3) = .ok (.dup, 1)) (d4 : decode cc (pc + 4) = .ok (.ldc is, 2)) (d6 : decode cc (pc + 6) = .ok (.invokespecial ic, 3)) (d9 : decode cc (pc + 9) = .ok (.athrow, 1))
    (hRf : 5 < R.frames) (hRl : (rest.map fun v => v.category).sum + 82 ≤ R.locals) (hRc : cells + 1 ≤ R.cells) (hRs : slots + 6 ≤ R.slots) (hc : cells + 1 ≤ mc) (hs : slots + 6 ≤ ms) (hκ : κ ≠ 0 ∧ cls = aq_en κ) :
    W p l e R s m args below meth c H locs cells slots (vx_MQ below (Qc s.heap.size) (aq_XC D tys N ad κ w s.heap.size) args s mc ms (aq_A N ad s.heap.size)) (F0 m pc ls rest) := by
  refine vx_throwS (names := aq_xn) S.1 S.2.1 hlt S.2.2.2.1 hcls (by decide) (S.2.2.2.2 _ hk) (S.2.2.2.2 _ hini) hstr (vx_hat (fun w hw => S.2.2.2.2 w (hgw w hw)) hbad hB) hot hT.2.2.1.1 hT.2.2.1.2 I.2.2 (hsz.trans S.2.2.1.symm) d0 d3 d4 d6 d9 (fun x hx => (hout x hx).elim) hRf (by simpa using hRl) hRc hRs hlocks (fun t hA hsz2 hq => ?_) I.2.2.2.2 hc hs
  refine ⟨(), trivial, ⟨hκ, va_K.moved hA I.1, I.2.1.kept (fun k q hk => hq q.1 ((I.2.1 k q hk).lt))⟩, Nat.le_trans I.2.2.1 hsz2, fun q h1 h2 => ?_⟩
  rw [hq q (Nat.lt_of_lt_of_le h1 I.2.2.1)]
  exact I.2.2.2.1 q h1 h2
theorem aq_badB1 (hT : aq_TE (aq_A N ad s.heap.size) s s.heap) : ∀ w ∈ [Cond.castable "java/lang/IllegalArgumentException" "java/lang/IllegalArgumentException", aq_xd "java/lang/RuntimeException", aq_xd "java/lang/Exception", aq_xd "java/lang/Throwable"], w.before args s = true :=
  vx_c (va_Nw.use rfl hT.1.1) (vx_c (va_Nw.use rfl hT.2.1.1) (vx_c (va_Nw.use rfl hT.2.1.2.1) (vx_c (va_Nw.use rfl hT.2.1.2.2) vx_n)))
theorem aq_badB2 (hT : aq_TE (aq_A N ad s.heap.size) s s.heap) : ∀ w ∈ [Cond.castable "java/lang/IndexOutOfBoundsException" "java/lang/IndexOutOfBoundsException", aq_xd "java/lang/RuntimeException", aq_xd "java/lang/Exception", aq_xd "java/lang/Throwable"], w.before args s = true :=
  vx_c (va_Nw.use rfl hT.1.2.1) (vx_c (va_Nw.use rfl hT.2.1.1) (vx_c (va_Nw.use rfl hT.2.1.2.1) (vx_c (va_Nw.use rfl hT.2.1.2.2) vx_n)))
theorem aq_badB3 (hT : aq_TE (aq_A N ad s.heap.size) s s.heap) : ∀ w ∈ [Cond.castable "java/lang/IllegalStateException" "java/lang/IllegalStateException", aq_xd "java/lang/RuntimeException", aq_xd "java/lang/Exception", aq_xd "java/lang/Throwable"], w.before args s = true :=
  vx_c (va_Nw.use rfl hT.1.2.2) (vx_c (va_Nw.use rfl hT.2.1.1) (vx_c (va_Nw.use rfl hT.2.1.2.1) (vx_c (va_Nw.use rfl hT.2.1.2.2) vx_n)))
/-- the ends -/
theorem aq_xiret {x r : Int32} (hx : p.tables.exec = Jvm.exec) (hb : c.code = cc) (hr : meth.sig.returnType = some .int) (hlocks : meth.locks = false) (I : aq_I D tys (aq_A N ad) w1 s H locs) (hdg : decode cc pc = .ok (.ireturn, 1)) (hc : cells ≤ mc) (hs : slots ≤ ms) (hκ : κ = 0) (he : x = r) (hw : w1 = w') :
    W p l e R s m args below meth c H locs cells slots (vx_MQ below (aq_QiX D tys N ad κ r w' s.heap.size) (aq_XC D tys N ad κ w0 s.heap.size) args s mc ms (aq_A N ad s.heap.size)) (F0 m pc ls [.int x]) := by
  subst he; subst hw
  exact vx_ret (W.widen hc hs (W.iret (v := x) hx hb hr (fun t ht hW => ⟨⟨x, (), rfl, ⟨hκ, rfl⟩, va_K.moved hW.alike I.1, by rw [ht]; exact I.2.1⟩, I.2.2.F ht⟩) I.2.2.2.2 hdg))
theorem aq_xvret (hx : p.tables.exec = Jvm.exec) (hb : c.code = cc) (hr : meth.sig.returnType = none) (hlocks : meth.locks = false) (I : aq_I D tys (aq_A N ad) w1 s H locs) (hdg : decode cc pc = .ok (.return_, 1)) (hc : cells ≤ mc) (hs : slots ≤ ms) (hκ : κ = 0) (hw : w1 = w') :
    W p l e R s m args below meth c H locs cells slots (vx_MQ below (aq_QvX D tys N ad κ w' s.heap.size) (aq_XC D tys N ad κ w0 s.heap.size) args s mc ms (aq_A N ad s.heap.size)) (F0 m pc ls []) := by
  subst hw
  exact vx_ret (W.widen hc hs (W.vret hx hb hr (fun t ht hW => ⟨⟨(), rfl, hκ, va_K.moved hW.alike I.1, by rw [ht]; exact I.2.1⟩, I.2.2.F ht⟩) I.2.2.2.2 hdg))
end AQX
