/-! The states of the system and of its twin: a world of N cells at the addresses ad 0 .. ad (N-1), what each holds told by one function. -/
/-- Math.min and Math.max as they are called: the first argument, the second -/
def aq_mn (x y : Int32) : Int32 := if y < x then y else x
def aq_mx (x y : Int32) : Int32 := if x < y then y else x
abbrev aq_Q : Type := Nat → Nat → Int32
abbrev aq_V : Type := Nat → aq_Q
def aq_up (Q : aq_Q) (f i : Nat) (v : Int32) : aq_Q := fun f' i' => if f' = f then (if i' = i then v else Q f' i') else Q f' i'
def aq_ug (V : aq_V) (j : Nat) (Q : aq_Q) : aq_V := fun j' => if j' = j then Q else V j'
theorem aq_ug_s (V : aq_V) (j : Nat) (Q : aq_Q) : aq_ug V j Q j = Q := if_pos rfl
theorem aq_ug_n (V : aq_V) {j k : Nat} (Q : aq_Q) (h : k ≠ j) : aq_ug V j Q k = V k := if_neg h
theorem aq_ug_id (V : aq_V) (j : Nat) : aq_ug V j (V j) = V := by
  funext k
  by_cases h : k = j
  · subst h; exact aq_ug_s _ _ _
  · exact aq_ug_n _ _ h
theorem aq_ug_ug (V : aq_V) (j : Nat) (Q Q' : aq_Q) : aq_ug (aq_ug V j Q) j Q' = aq_ug V j Q' := by
  funext k
  by_cases h : k = j
  · subst h; rw [aq_ug_s, aq_ug_s]
  · rw [aq_ug_n _ _ h, aq_ug_n _ _ h, aq_ug_n _ _ h]
theorem aq_ug_sw (V : aq_V) {j k : Nat} (h : j ≠ k) (Q Q' : aq_Q) : aq_ug (aq_ug V j Q) k Q' = aq_ug (aq_ug V k Q') j Q := by
  funext i
  by_cases h1 : i = j
  · subst h1; rw [aq_ug_s, aq_ug_n _ _ h, aq_ug_s]
  · by_cases h2 : i = k
    · subst h2; rw [aq_ug_s, aq_ug_n _ _ h1, aq_ug_s]
    · rw [aq_ug_n _ _ h2, aq_ug_n _ _ h1, aq_ug_n _ _ h1, aq_ug_n _ _ h2]
theorem aq_up_s (Q : aq_Q) (f i : Nat) (v : Int32) : aq_up Q f i v f i = v := by simp [aq_up]
theorem aq_up_f (Q : aq_Q) {f i f' i' : Nat} (v : Int32) (h : f' ≠ f) : aq_up Q f i v f' i' = Q f' i' := by simp [aq_up, h]
theorem aq_up_i (Q : aq_Q) {f i f' i' : Nat} (v : Int32) (h : i' ≠ i) : aq_up Q f i v f' i' = Q f' i' := by simp [aq_up, h]
def aq_w (N : Nat) (ad : Nat → Nat) (e : Nat → va_E) : va_W := (List.range N).map (fun c => (ad c, e c))
theorem aq_w_len (N : Nat) (ad : Nat → Nat) (e : Nat → va_E) : (aq_w N ad e).length = N := by simp [aq_w]
theorem aq_w_at {N c : Nat} {ad : Nat → Nat} {e : Nat → va_E} (h : c < N) : (aq_w N ad e)[c]? = some (ad c, e c) := by simp [aq_w, h]
theorem aq_w_in {N k : Nat} {ad : Nat → Nat} {e : Nat → va_E} {q : Nat × va_E} (h : (aq_w N ad e)[k]? = some q) : k < N ∧ q = (ad k, e k) := by
  have hl : k < N := by have := (List.getElem?_eq_some_iff.mp h).1; rwa [aq_w_len] at this
  rw [aq_w_at hl] at h
  exact ⟨hl, (Option.some.inj h).symm⟩
theorem aq_w_set {N c : Nat} {ad : Nat → Nat} {e e' : Nat → va_E} {x : va_E} (h : c < N) (hx : e' c = x) (ho : ∀ k, k < N → k ≠ c → e' k = e k) : (aq_w N ad e).set c (ad c, x) = aq_w N ad e' := by
  apply List.ext_getElem?
  intro k
  by_cases hk : k < N
  · rw [aq_w_at hk]
    by_cases hc : k = c
    · subst hc
      rw [List.getElem?_set_self (by rw [aq_w_len]; exact hk), hx]
    · rw [List.getElem?_set_ne (Ne.symm hc), aq_w_at hk, ho k hk hc]
  · rw [List.getElem?_eq_none (by rw [List.length_set, aq_w_len]; omega), List.getElem?_eq_none (by rw [aq_w_len]; omega)]
def aq_J (N : Nat) (ad : Nat → Nat) : Prop := ∀ c d : Nat, c < N → d < N → ad c = ad d → c = d
def aq_A (N : Nat) (ad : Nat → Nat) (sz : Nat) : Nat → Prop := fun q => (∃ c, c < N ∧ q = ad c) ∨ sz ≤ q
theorem aq_D {N : Nat} {ad : Nat → Nat} (hJ : aq_J N ad) (sz : Nat) (e : Nat → va_E) : va_D (aq_A N ad sz) (aq_w N ad e) := by
  refine ⟨fun i j p q hi hj hpq => ?_, fun k q hk => ?_⟩
  · obtain ⟨h1, rfl⟩ := aq_w_in hi
    obtain ⟨h2, rfl⟩ := aq_w_in hj
    exact hJ i j h1 h2 hpq
  · obtain ⟨h1, rfl⟩ := aq_w_in hk
    exact Or.inl ⟨k, h1, rfl⟩
/-- the world at a state, and within a method -/
def aq_B (D : va_G) (tys : List (ClassId × FieldType)) (w : va_W) (U : State) : Prop := va_K D vwCl tys U ∧ va_P D vwCl w U.heap
def aq_I (D : va_G) (tys : List (ClassId × FieldType)) (A : Nat → Nat → Prop) (w : va_W) (s : State) (H : Heap) (locs : List Loc) : Prop := va_K D vwCl tys s ∧ va_P D vwCl w H ∧ va_S (A s.heap.size) s.heap H locs
/-- contracts: the method leaves the world w' and answers r -/
def aq_Pc (D : va_G) (tys : List (ClassId × FieldType)) (As : List Value) (w : va_W) (sz : Nat) : Array Value → State → Prop := va_Pc As (fun U => U.heap.size = sz ∧ aq_B D tys w U)
def aq_Qi (D : va_G) (tys : List (ClassId × FieldType)) (N : Nat) (ad : Nat → Nat) (r : Int32) (w' : va_W) (sz : Nat) : Array Value → State → Outcome → State → Prop := va_Qi (fun (x : Int32) (_ : Unit) => x = r) (fun _ t => aq_B D tys w' t) (aq_A N ad sz)
def aq_Ql (D : va_G) (tys : List (ClassId × FieldType)) (N : Nat) (ad : Nat → Nat) (r : Int64) (w' : va_W) (sz : Nat) : Array Value → State → Outcome → State → Prop := va_Ql (fun (x : Int64) (_ : Unit) => x = r) (fun _ t => aq_B D tys w' t) (aq_A N ad sz)
def aq_Qd (D : va_G) (tys : List (ClassId × FieldType)) (N : Nat) (ad : Nat → Nat) (r : UInt64 → Prop) (w' : va_W) (sz : Nat) : Array Value → State → Outcome → State → Prop := va_Qd (fun (x : UInt64) (_ : Unit) => r x) (fun _ t => aq_B D tys w' t) (aq_A N ad sz)
def aq_Qv (D : va_G) (tys : List (ClassId × FieldType)) (N : Nat) (ad : Nat → Nat) (w' : va_W) (sz : Nat) : Array Value → State → Outcome → State → Prop := va_Qv (fun (_ : Unit) => True) (fun _ t => aq_B D tys w' t) (aq_A N ad sz)
def aq_Qr (D : va_G) (tys : List (ClassId × FieldType)) (N : Nat) (ad : Nat → Nat) (r : Nat) (w' : va_W) (sz : Nat) : Array Value → State → Outcome → State → Prop := va_Qr (fun (_ : Unit) => True) (fun _ a t => a = r ∧ aq_B D tys w' t) (aq_A N ad sz)
def aq_Met (l : Launch) (y : MethodName) (ws : List Cond) (rm : Room) (D : va_G) (tys : List (ClassId × FieldType)) (N : Nat) (ad : Nat → Nat) (As : List Value) (w : va_W) (Qc : Nat → Array Value → State → Outcome → State → Prop) (mc ms : Nat) : Prop :=
  ∀ sz, Met l y ws rm (aq_Pc D tys As w sz) (Qc sz) mc ms (aq_A N ad sz)
section AQ
variable {p : Program} {l : Launch} {e : Env} {R : Room} {s : State} {m : MethodId} {args : Array Value} {below : List Frame} {meth : Method} {c : Code} {H : Heap} {locs : List Loc} {cells slots : Nat} {Q : State → Prop}
variable {cc bytes : ByteArray} {maxL nL mc ms n index pc N : Nat} {ad : Nat → Nat} {ls : Array Slot} {st rest : List Value} {ret : Option FieldType} {ws ws' Ts : List Cond} {rm : Room} {y : MethodName} {own C ref : String} {D : va_G} {tys : List (ClassId × FieldType)} {w w' : va_W} {As : List Value}
theorem aq_enter {Qc : Nat → Array Value → State → Outcome → State → Prop} (hy : plainName y.cls = true) (hw : ws = Cond.code y cc maxL ret :: ws') (hn : (lg_sl As).length ≤ maxL)
    (k : ∀ (p : Program) (e : Env) (s : State) (m : MethodId) (below : List Frame) (meth : Method) (c : Code) (ls : Array Slot), CallFix p m c cc maxL s As.toArray ws y.cls → meth.sig.returnType = ret → meth.locks = false → meth.name = y.name → aq_I D tys (aq_A N ad) w s s.heap [] → lv_has ls maxL (lv_args 0 As) →
      W p l e rm s m As.toArray below meth c s.heap [] 0 0 (MQ below (Qc s.heap.size) As.toArray s mc ms (aq_A N ad s.heap.size)) (F0 m 0 ls [])) :
    aq_Met l y ws rm D tys N ad As w Qc mc ms := by
  intro sz
  refine Met.ofW (cc := cc) (maxL := maxL) (ret := ret) hy hw ?_
  intro p e s m args below meth c s₁ B hml hv
  obtain ⟨rfl, hsz, hK, hP⟩ := hv
  subst hsz
  have hl := lv_entry As (n := maxL) hn
  rw [lg_entry_eq]
  exact k p e s m below meth c _ ⟨B.exec, B.bytes, hml, findClass_of_methodNamed B.named, atoms_spec (ws := ws) B.pre⟩ B.returns B.notSynchronized (name_of_methodNamed B.named B.method).1 ⟨hK, hP, va_S.rf⟩ hl
theorem aq_A_ge {sz q : Nat} (h : sz ≤ q) : aq_A N ad sz q := Or.inr h
theorem aq_A_le {a b : Nat} (h : a ≤ b) {q : Nat} (hq : aq_A N ad b q) : aq_A N ad a q := hq.elim Or.inl (fun z => Or.inr (Nat.le_trans h z))
theorem aq_blind {D : va_G} {tys : List (ClassId × FieldType)} {As : List Value} {w : va_W} {sz : Nat} : FrameBlind (aq_Pc D tys As w sz) := fun a U g mk q => by
  obtain ⟨q0, q1, qK, qP⟩ := q
  exact ⟨q0, q1, va_K.moved (u := U) (U := U.calling g mk a) (Vm.Alike.refl U.vm) qK, qP⟩
theorem aq_back (I : aq_I D tys (aq_A N ad) w s H locs) {t : State} {H1 : Heap} {locs1 : List Loc} (ht : t.heap = H1) (hvm : s.vm.Alike t.vm) (hB : aq_B D tys w' t) (hS : va_S (aq_A N ad s.heap.size) s.heap H1 locs1) : aq_I D tys (aq_A N ad) w' s H1 locs1 :=
  ⟨va_K.moved hvm.symm hB.1, by rw [← ht]; exact hB.2, hS⟩
theorem aq_preV {b : Addr} (I : aq_I D tys (aq_A N ad) w s H locs) (hr : ∃ cell : Cell, H[b]? = some cell ∧ cell.vm.isStatics = false ∧ s.vm.findClass C = some cell.cls) : PreV s H C b (aq_Pc D tys (.ref b :: As) w H.size) As :=
  ⟨aq_blind, hr, fun U hU hW => ⟨rfl, by rw [hU], va_K.moved hW.alike I.1, by rw [hU]; exact I.2.1⟩⟩
theorem aq_preS (I : aq_I D tys (aq_A N ad) w s H locs) : PreS s H (aq_Pc D tys As w H.size) As :=
  ⟨aq_blind, fun U hU hW => ⟨rfl, by rw [hU], va_K.moved hW.alike I.1, by rw [hU]; exact I.2.1⟩⟩
theorem aq_free (I : aq_I D tys (aq_A N ad) w s H locs) : ∀ q, aq_A N ad H.size q → aq_A N ad s.heap.size q := fun _ h => aq_A_le I.2.2.1 h
/-- the receiver -/
theorem aq_recv {ev : Nat → va_E} {ci k T : Nat} {cr : vw_C} {fs : List Value} (I : aq_I D tys (aq_A N ad) (aq_w N ad ev) s H locs) (hk : k < N) (he : ev k = .inr (ci, fs)) (hc : vwCl[ci]? = some cr) : ∃ cell : Cell, H[ad k]? = some cell ∧ cell.vm.isStatics = false ∧ s.vm.findClass cr.1 = some cell.cls :=
  va_recv I.1 I.2.1 (q0 := k) (ci := ci) (fs := fs) hc (by rw [aq_w_at hk, he])
theorem aq_callVi {r : Int32} {b : Addr} (S : CallFix p m c cc nL s args Ts own) (hM : aq_Met l y ws rm D tys N ad (.ref b :: As) w (aq_Qi D tys N ad r w') mc ms) (cw : CallW R s args own C index y bytes maxL ret ws rm mc ms n) (hr : ∃ cell : Cell, H[b]? = some cell ∧ cell.vm.isStatics = false ∧ s.vm.findClass C = some cell.cls)
    (I : aq_I D tys (aq_A N ad) w s H locs) (hsz : ls.size = nL) (hdg : decode cc pc = .ok (.invokevirtual index, 3)) (hn : As.length = n) (hst : st = As.reverse ++ .ref b :: rest) (hW : (rest.map fun v => v.category).sum ≤ 8) (hf : cells + mc ≤ R.cells ∧ slots + ms ≤ R.slots)
    (kk : ∀ (H1 : Heap) (locs1 : List Loc), aq_I D tys (aq_A N ad) w' s H1 locs1 → W p l e R s m args below meth c H1 locs1 (cells + mc) (slots + ms) Q (F0 m (pc + 3) ls (.int r :: rest))) : W p l e R s m args below meth c H locs cells slots Q (F0 m pc ls st) := by
  refine va_calli (va_runV S (hM H.size) cw (aq_preV I hr) rfl hn hsz hst (lv_room hW) hdg hf) I.2.2 (fun q _ h => aq_free I q h) (aq_free I) (fun x u t H1 locs1 ht hvm hx hB _ _ hS => ?_)
  subst hx
  exact kk H1 locs1 (aq_back I ht hvm hB hS)
theorem aq_callVv {b : Addr} (S : CallFix p m c cc nL s args Ts own) (hM : aq_Met l y ws rm D tys N ad (.ref b :: As) w (aq_Qv D tys N ad w') mc ms) (cw : CallW R s args own C index y bytes maxL ret ws rm mc ms n) (hr : ∃ cell : Cell, H[b]? = some cell ∧ cell.vm.isStatics = false ∧ s.vm.findClass C = some cell.cls)
    (I : aq_I D tys (aq_A N ad) w s H locs) (hsz : ls.size = nL) (hdg : decode cc pc = .ok (.invokevirtual index, 3)) (hn : As.length = n) (hst : st = As.reverse ++ .ref b :: rest) (hW : (rest.map fun v => v.category).sum ≤ 8) (hf : cells + mc ≤ R.cells ∧ slots + ms ≤ R.slots)
    (kk : ∀ (H1 : Heap) (locs1 : List Loc), aq_I D tys (aq_A N ad) w' s H1 locs1 → W p l e R s m args below meth c H1 locs1 (cells + mc) (slots + ms) Q (F0 m (pc + 3) ls rest)) : W p l e R s m args below meth c H locs cells slots Q (F0 m pc ls st) := by
  refine va_callv (va_runV S (hM H.size) cw (aq_preV I hr) rfl hn hsz hst (lv_room hW) hdg hf) I.2.2 (fun q _ h => aq_free I q h) (aq_free I) (fun u t H1 locs1 ht hvm hx hB _ _ hS => ?_)
  exact kk H1 locs1 (aq_back I ht hvm hB hS)
theorem aq_callVl {r : Int64} {b : Addr} (S : CallFix p m c cc nL s args Ts own) (hM : aq_Met l y ws rm D tys N ad (.ref b :: As) w (aq_Ql D tys N ad r w') mc ms) (cw : CallW R s args own C index y bytes maxL ret ws rm mc ms n) (hr : ∃ cell : Cell, H[b]? = some cell ∧ cell.vm.isStatics = false ∧ s.vm.findClass C = some cell.cls)
    (I : aq_I D tys (aq_A N ad) w s H locs) (hsz : ls.size = nL) (hdg : decode cc pc = .ok (.invokevirtual index, 3)) (hn : As.length = n) (hst : st = As.reverse ++ .ref b :: rest) (hW : (rest.map fun v => v.category).sum ≤ 8) (hf : cells + mc ≤ R.cells ∧ slots + ms ≤ R.slots)
    (kk : ∀ (H1 : Heap) (locs1 : List Loc), aq_I D tys (aq_A N ad) w' s H1 locs1 → W p l e R s m args below meth c H1 locs1 (cells + mc) (slots + ms) Q (F0 m (pc + 3) ls (.long r :: rest))) : W p l e R s m args below meth c H locs cells slots Q (F0 m pc ls st) := by
  refine va_calll (va_runV S (hM H.size) cw (aq_preV I hr) rfl hn hsz hst (lv_room hW) hdg hf) I.2.2 (fun q _ h => aq_free I q h) (aq_free I) (fun x u t H1 locs1 ht hvm hx hB _ _ hS => ?_)
  subst hx
  exact kk H1 locs1 (aq_back I ht hvm hB hS)
theorem aq_callVr {r : Nat} {b : Addr} (S : CallFix p m c cc nL s args Ts own) (hM : aq_Met l y ws rm D tys N ad (.ref b :: As) w (aq_Qr D tys N ad r w') mc ms) (cw : CallW R s args own C index y bytes maxL ret ws rm mc ms n) (hr : ∃ cell : Cell, H[b]? = some cell ∧ cell.vm.isStatics = false ∧ s.vm.findClass C = some cell.cls)
    (I : aq_I D tys (aq_A N ad) w s H locs) (hsz : ls.size = nL) (hdg : decode cc pc = .ok (.invokevirtual index, 3)) (hn : As.length = n) (hst : st = As.reverse ++ .ref b :: rest) (hW : (rest.map fun v => v.category).sum ≤ 8) (hf : cells + mc ≤ R.cells ∧ slots + ms ≤ R.slots)
    (kk : ∀ (H1 : Heap) (locs1 : List Loc), aq_I D tys (aq_A N ad) w' s H1 locs1 → W p l e R s m args below meth c H1 locs1 (cells + mc) (slots + ms) Q (F0 m (pc + 3) ls (.ref r :: rest))) : W p l e R s m args below meth c H locs cells slots Q (F0 m pc ls st) := by
  refine va_callr (va_runV S (hM H.size) cw (aq_preV I hr) rfl hn hsz hst (lv_room hW) hdg hf) I.2.2 (fun q _ h => aq_free I q h) (aq_free I) (fun u ra t H1 locs1 ht hvm hx hB _ _ hS => ?_)
  obtain ⟨hB1, hB⟩ := hB
  subst hB1
  exact kk H1 locs1 (aq_back I ht hvm hB hS)
theorem aq_callSi {r : Int32} (S : CallFix p m c cc nL s args Ts own) (hM : aq_Met l y ws rm D tys N ad As w (aq_Qi D tys N ad r w') mc ms) (cw : CallB R s args own index y bytes maxL ret ws rm mc ms n ∧ (Cond.static y).before args s = true)
    (I : aq_I D tys (aq_A N ad) w s H locs) (hsz : ls.size = nL) (hdg : decode cc pc = .ok (.invokestatic index, 3)) (hn : As.length = n) (hst : st = As.reverse ++ rest) (hW : (rest.map fun v => v.category).sum ≤ 8) (hf : cells + mc ≤ R.cells ∧ slots + ms ≤ R.slots)
    (kk : ∀ (H1 : Heap) (locs1 : List Loc), aq_I D tys (aq_A N ad) w' s H1 locs1 → W p l e R s m args below meth c H1 locs1 (cells + mc) (slots + ms) Q (F0 m (pc + 3) ls (.int r :: rest))) : W p l e R s m args below meth c H locs cells slots Q (F0 m pc ls st) := by
  refine va_calli (va_runS S (hM H.size) cw (aq_preS I) rfl hn hsz hst (lv_room hW) hdg hf) I.2.2 (fun q _ h => aq_free I q h) (aq_free I) (fun x u t H1 locs1 ht hvm hx hB _ _ hS => ?_)
  subst hx
  exact kk H1 locs1 (aq_back I ht hvm hB hS)
/-- the ends -/
theorem aq_iret {x r : Int32} {w1 : va_W} (hx : p.tables.exec = Jvm.exec) (hb : c.code = cc) (hr : meth.sig.returnType = some .int) (hlocks : meth.locks = false) (I : aq_I D tys (aq_A N ad) w1 s H locs) (hdg : decode cc pc = .ok (.ireturn, 1)) (hc : cells ≤ mc) (hs : slots ≤ ms) (he : x = r) (hw : w1 = w') :
    W p l e R s m args below meth c H locs cells slots (MQ below (aq_Qi D tys N ad r w' s.heap.size) args s mc ms (aq_A N ad s.heap.size)) (F0 m pc ls [.int x]) := by
  subst he; subst hw
  exact W.widen hc hs (W.iret (v := x) hx hb hr (fun t ht hW => ⟨⟨x, (), rfl, rfl, va_K.moved hW.alike I.1, by rw [ht]; exact I.2.1⟩, I.2.2.F ht⟩) I.2.2.2.2 hdg)
theorem aq_zret {x r : Int32} {w1 : va_W} (hx : p.tables.exec = Jvm.exec) (hb : c.code = cc) (hr : meth.sig.returnType = some .boolean) (hlocks : meth.locks = false) (I : aq_I D tys (aq_A N ad) w1 s H locs) (hdg : decode cc pc = .ok (.ireturn, 1)) (hc : cells ≤ mc) (hs : slots ≤ ms) (hnr : narrow .boolean (.int x) = .int x) (he : x = r) (hw : w1 = w') :
    W p l e R s m args below meth c H locs cells slots (MQ below (aq_Qi D tys N ad r w' s.heap.size) args s mc ms (aq_A N ad s.heap.size)) (F0 m pc ls [.int x]) := by
  subst he; subst hw
  exact W.widen hc hs (W.zret (v := x) hx hb hr hnr (fun t ht hW => ⟨⟨x, (), rfl, rfl, va_K.moved hW.alike I.1, by rw [ht]; exact I.2.1⟩, I.2.2.F ht⟩) I.2.2.2.2 hdg)
theorem aq_lret {x r : Int64} {w1 : va_W} (hx : p.tables.exec = Jvm.exec) (hb : c.code = cc) (hr : meth.sig.returnType = some .long) (hlocks : meth.locks = false) (I : aq_I D tys (aq_A N ad) w1 s H locs) (hdg : decode cc pc = .ok (.lreturn, 1)) (hc : cells ≤ mc) (hs : slots ≤ ms) (he : x = r) (hw : w1 = w') :
    W p l e R s m args below meth c H locs cells slots (MQ below (aq_Ql D tys N ad r w' s.heap.size) args s mc ms (aq_A N ad s.heap.size)) (F0 m pc ls [.long x]) := by
  subst he; subst hw
  exact W.widen hc hs (W.lret (v := x) hx hb hr (fun t ht hW => ⟨⟨x, (), rfl, rfl, va_K.moved hW.alike I.1, by rw [ht]; exact I.2.1⟩, I.2.2.F ht⟩) I.2.2.2.2 hdg)
theorem aq_vret {w1 : va_W} (hx : p.tables.exec = Jvm.exec) (hb : c.code = cc) (hr : meth.sig.returnType = none) (hlocks : meth.locks = false) (I : aq_I D tys (aq_A N ad) w1 s H locs) (hdg : decode cc pc = .ok (.return_, 1)) (hc : cells ≤ mc) (hs : slots ≤ ms) (hw : w1 = w') :
    W p l e R s m args below meth c H locs cells slots (MQ below (aq_Qv D tys N ad w' s.heap.size) args s mc ms (aq_A N ad s.heap.size)) (F0 m pc ls []) := by
  subst hw
  exact W.widen hc hs (W.vret hx hb hr (fun t ht hW => ⟨⟨(), rfl, trivial, va_K.moved hW.alike I.1, by rw [ht]; exact I.2.1⟩, I.2.2.F ht⟩) I.2.2.2.2 hdg)
theorem aq_aret {x r : Nat} {w1 : va_W} {rt : FieldType} (hx : p.tables.exec = Jvm.exec) (hb : c.code = cc) (hr : meth.sig.returnType = some rt) (hrt : (∃ n, rt = .object n) ∨ ∃ t, rt = .array t) (hlocks : meth.locks = false) (I : aq_I D tys (aq_A N ad) w1 s H locs) (hdg : decode cc pc = .ok (.areturn, 1)) (hc : cells ≤ mc) (hs : slots ≤ ms) (he : x = r) (hw : w1 = w') :
    W p l e R s m args below meth c H locs cells slots (MQ below (aq_Qr D tys N ad r w' s.heap.size) args s mc ms (aq_A N ad s.heap.size)) (F0 m pc ls [.ref x]) := by
  subst he; subst hw
  exact W.widen hc hs (W.aret (v := .ref x) hx hb hr hrt (Or.inr ⟨_, rfl⟩) (fun t ht hW => ⟨⟨(), x, rfl, trivial, rfl, va_K.moved hW.alike I.1, by rw [ht]; exact I.2.1⟩, I.2.2.F ht⟩) I.2.2.2.2 hdg)
/-- a field's value, a field written, an array's place read and written: by the cell's number in the world -/
theorem aq_get {ev : Nat → va_E} {ci k0 nF : Nat} {T : u_T} {fs : List Value} {v : Value} (S : CallFix p m c cc nL s args Ts own) (I : aq_I D tys (aq_A N ad) (aq_w N ad ev) s H locs) (hk0 : k0 < N) (he : ev k0 = .inr (ci, fs)) (hc : vwCl[ci]? = some (C, T, nF)) (hin : ∀ w ∈ u_ws C T nF, w ∈ Ts) (k : Nat) (hk : k < nF) (hl : Cond.fieldLink own index ref (T k).2.1 (T k).2.2.1 ∈ Ts) (hsame : (T k).1 = ref) (hv : fs[k]? = some v) (hdg : decode cc pc = .ok (.getfield index, 3))
    (kk : W p l e R s m args below meth c H locs cells slots Q (F0 m (pc + 3) ls (v :: rest))) : W p l e R s m args below meth c H locs cells slots Q (F0 m pc ls (.ref (ad k0) :: rest)) :=
  va_get (D := D) (ci := ci) (v := v) (C := C) (T := T) (N := nF) S.1 S.2.1 S.2.2.2.2 hin S.2.2.2.1 I.1 I.2.1 k0 (by rw [aq_w_at hk0, he]) hc k hk (S.2.2.2.2 _ hl) (fun x h => by rw [← hsame]; exact h) hv hdg kk
theorem aq_put {ev ev' : Nat → va_E} {ci k0 nF : Nat} {T : u_T} {ty0 : Nat → FieldType} {fs : List Value} {x : Int32} (hJ : aq_J N ad) (S : CallFix p m c cc nL s args Ts own) (I : aq_I D tys (aq_A N ad) (aq_w N ad ev) s H locs) (hk0 : k0 < N) (he : ev k0 = .inr (ci, fs)) (hc : vwCl[ci]? = some (C, T, nF)) (hin : ∀ w ∈ u_ws C T nF, w ∈ Ts) (hty : ∀ k, k < nF → parseFieldDescriptor (T k).2.2.1 = some (ty0 k)) (hnm : ∀ a, a < nF → ∀ b, b < nF → a ≠ b → (T a).2.1 ≠ (T b).2.1) (k : Nat) (hk : k < nF) (hl : Cond.fieldLink own index ref (T k).2.1 (T k).2.2.1 ∈ Ts) (hsame : (T k).1 = ref) (hfin : (T k).2.2.2 = false) (hd : parseFieldDescriptor (T k).2.2.1 = some .int) (hlen : k < fs.length) (hdg : decode cc pc = .ok (.putfield index, 3))
    (he' : ev' k0 = .inr (ci, fs.set k (.int x))) (ho : ∀ j, j < N → j ≠ k0 → ev' j = ev j)
    (kk : ∀ (H1 : Heap) (locs1 : List Loc), aq_I D tys (aq_A N ad) (aq_w N ad ev') s H1 locs1 → W p l e R s m args below meth c H1 locs1 cells slots Q (F0 m (pc + 3) ls rest)) : W p l e R s m args below meth c H locs cells slots Q (F0 m pc ls (.int x :: .ref (ad k0) :: rest)) := by
  refine va_put (D := D) (ci := ci) (v := .int x) (ty := .int) (C := C) (T := T) (N := nF) S.1 S.2.1 S.2.2.2.2 hin ty0 hty hnm S.2.2.2.1 I.1 I.2.1 (aq_D hJ s.heap.size ev) I.2.2 k0 (fs := fs) (by rw [aq_w_at hk0, he]) hc k hk (S.2.2.2.2 _ hl) (fun x h => by rw [← hsame]; exact h) hfin hd rfl rfl hlen hdg (fun H1 locs1 hP hD hS => ?_)
  rw [aq_w_set hk0 he' ho] at hP
  exact kk H1 locs1 ⟨I.1, hP, hS⟩
theorem aq_ild {ev : Nat → va_E} {k0 t0 z : Nat} {cA : ClassId} {f : Nat → Int32} {i : Int32} {j : Nat} {v : Int32} (S : CallFix p m c cc nL s args Ts own) (I : aq_I D tys (aq_A N ad) (aq_w N ad ev) s H locs) (hk0 : k0 < N) (he : ev k0 = .inl (cA, z, .inl f)) (ht : tys[t0]? = some (cA, .int)) (hi : i = nI j) (hj : j < z) (hz : z < 2 ^ 31) (hv : f j = v) (hdg : decode cc pc = .ok (.iaload, 1))
    (kk : W p l e R s m args below meth c H locs cells slots Q (F0 m (pc + 1) ls (.int v :: rest))) : W p l e R s m args below meth c H locs cells slots Q (F0 m pc ls (.int i :: .ref (ad k0) :: rest)) := by
  subst hi
  refine va_iald (D := D) S.1 S.2.1 I.1 I.2.1 k0 t0 (cA := cA) (n := z) (f := f) (by rw [aq_w_at hk0, he]) ht (vp_in_nI hj hz) hdg ?_
  rw [nI_clamp (by omega), hv]
  exact kk
theorem aq_ist {ev ev' : Nat → va_E} {k0 t0 z : Nat} {cA : ClassId} {f : Nat → Int32} {i : Int32} {j : Nat} {x : Int32} (hJ : aq_J N ad) (S : CallFix p m c cc nL s args Ts own) (I : aq_I D tys (aq_A N ad) (aq_w N ad ev) s H locs) (hk0 : k0 < N) (he : ev k0 = .inl (cA, z, .inl f)) (ht : tys[t0]? = some (cA, .int)) (hi : i = nI j) (hj : j < z) (hz : z < 2 ^ 31) (hdg : decode cc pc = .ok (.iastore, 1))
    (he' : ev' k0 = .inl (cA, z, .inl (fun k => if k = j then x else f k))) (ho : ∀ j, j < N → j ≠ k0 → ev' j = ev j)
    (kk : ∀ (H1 : Heap) (locs1 : List Loc), aq_I D tys (aq_A N ad) (aq_w N ad ev') s H1 locs1 → W p l e R s m args below meth c H1 locs1 cells slots Q (F0 m (pc + 1) ls rest)) : W p l e R s m args below meth c H locs cells slots Q (F0 m pc ls (.int x :: .int i :: .ref (ad k0) :: rest)) := by
  subst hi
  refine va_iast (D := D) S.1 S.2.1 I.1 I.2.1 (aq_D hJ s.heap.size ev) I.2.2 k0 t0 (cA := cA) (n := z) (f := f) (by rw [aq_w_at hk0, he]) ht (vp_in_nI hj hz) hdg (fun H1 locs1 hP hD hS => ?_)
  rw [nI_clamp (by omega)] at hP
  rw [aq_w_set hk0 (e' := ev') (by rw [he']; rfl) ho] at hP
  exact kk H1 locs1 ⟨I.1, hP, hS⟩
theorem aq_mmin {x y : Int32} (S : CallFix p m c cc nL s args Ts own) (hsz : ls.size = nL) (h1 : Cond.methodLink own index Lib.Math.min.name ∈ Ts) (h2 : Cond.static Lib.Math.min.name ∈ Ts) (h3 : Cond.initialized "java/lang/Math" ∈ Ts) (h4 : Cond.code Lib.Math.min.name Lib.Math.min.code 2 (some .int) ∈ Ts) (hf : 1 ≤ R.frames) (hlo : (rest.map fun v => v.category).sum + 13 ≤ R.locals) (hc : cells ≤ R.cells) (hs : slots ≤ R.slots) (hdg : decode cc pc = .ok (.invokestatic index, 3))
    (kk : W p l e R s m args below meth c H locs cells slots Q (F0 m (pc + 3) ls (.int (aq_mn x y) :: rest))) : W p l e R s m args below meth c H locs cells slots Q (F0 m pc ls (.int y :: .int x :: rest)) :=
  va_mmin S.1 S.2.1 (S.2.2.1.trans hsz.symm) S.2.2.2.1 (S.2.2.2.2 _ h1) (S.2.2.2.2 _ h2) (S.2.2.2.2 _ h3) (S.2.2.2.2 _ h4) hf hlo hc hs hdg kk
theorem aq_mmax {x y : Int32} (S : CallFix p m c cc nL s args Ts own) (hsz : ls.size = nL) (h1 : Cond.methodLink own index Lib.Math.max.name ∈ Ts) (h2 : Cond.static Lib.Math.max.name ∈ Ts) (h3 : Cond.initialized "java/lang/Math" ∈ Ts) (h4 : Cond.code Lib.Math.max.name Lib.Math.max.code 2 (some .int) ∈ Ts) (hf : 1 ≤ R.frames) (hlo : (rest.map fun v => v.category).sum + 13 ≤ R.locals) (hc : cells ≤ R.cells) (hs : slots ≤ R.slots) (hdg : decode cc pc = .ok (.invokestatic index, 3))
    (kk : W p l e R s m args below meth c H locs cells slots Q (F0 m (pc + 3) ls (.int (aq_mx x y) :: rest))) : W p l e R s m args below meth c H locs cells slots Q (F0 m pc ls (.int y :: .int x :: rest)) :=
  va_mmax S.1 S.2.1 (S.2.2.1.trans hsz.symm) S.2.2.2.1 (S.2.2.2.2 _ h1) (S.2.2.2.2 _ h2) (S.2.2.2.2 _ h3) (S.2.2.2.2 _ h4) hf hlo hc hs hdg kk
end AQ
