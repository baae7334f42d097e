/-! the two calls that divide: their ends may draw -/
def aq_rr (a g : Int32) (r : UInt64) : Prop := if g = 0 then r = FP.dconst0 else alike64 r (FP.ddiv (FP.i2d a) (FP.i2d g)) = true
def aq_MetD (l : Launch) (y : MethodName) (ws : List Cond) (rm : Room) (D : va_G) (tys : List (ClassId × FieldType)) (N : Nat) (ad : Nat → Nat) (As : List Value) (w : va_W) (Qc : Nat → Array Value → State → Outcome → State → Prop) (mc ms : Nat) : Prop :=
  ∀ sz, MetD lw_cs l y ws rm (aq_Pc D tys As w sz) (Qc sz) mc ms (aq_A N ad sz)
section RCH
variable {p : Program} {l : Launch} {e : Env} {R : Room} {s : State} {m : MethodId} {args : Array Value} {below : List Frame} {meth : Method} {c : Code} {H : Heap} {locs : List Loc} {cells slots : Nat} {Q : State → Prop}
variable {cc : ByteArray} {maxL nL mc ms n index pc N : Nat} {ad : Nat → Nat} {ls : Array Slot} {st rest : List Value} {ret : Option FieldType} {ws ws' Ts : List Cond} {rm : Room} {y : MethodName} {own C : String} {D : va_G} {tys : List (ClassId × FieldType)} {w w' : va_W} {As : List Value}
theorem aq_enterD {Qc : Nat → Array Value → State → Outcome → State → Prop} (hy : plainName y.cls = true) (hw : ws = Cond.code y cc maxL ret :: ws') (hn : (lg_sl As).length ≤ maxL)
    (k : ∀ (p : Program) (e : Env) (s : State) (m : MethodId) (below : List Frame) (meth : Method) (c : Code) (ls : Array Slot), CallFix p m c cc maxL s As.toArray ws y.cls → meth.sig.returnType = ret → meth.locks = false → aq_I D tys (aq_A N ad) w s s.heap [] → lv_has ls maxL (lv_args 0 As) →
      W p l e rm s m As.toArray below meth c s.heap [] 0 0 (MQD lw_cs below (Qc s.heap.size) As.toArray s mc ms (aq_A N ad s.heap.size)) (F0 m 0 ls [])) :
    aq_MetD l y ws rm D tys N ad As w Qc mc ms := by
  intro sz
  refine MetD.ofW (cc := cc) (maxL := maxL) (ret := ret) hy hw ?_
  intro p e s m args below meth c s₁ B hml hv hd0
  obtain ⟨rfl, hsz, hK, hP⟩ := hv
  subst hsz
  have hl := lv_entry As (n := maxL) hn
  rw [lg_entry_eq]
  exact k p e s m below meth c _ ⟨B.exec, B.bytes, hml, findClass_of_methodNamed B.named, atoms_spec (ws := ws) B.pre⟩ B.returns B.notSynchronized ⟨hK, hP, va_S.rf⟩ hl
theorem aq_dretD {x : UInt64} {r : UInt64 → Prop} {w1 : va_W} {d1 : Drawn} (hd1 : s.drawn.sameBut d1 lw_cs) (hx : p.tables.exec = Jvm.exec) (hb : c.code = cc) (hr : meth.sig.returnType = some .double) (hlocks : meth.locks = false) (I : aq_I D tys (aq_A N ad) w1 s H locs) (hdg : decode cc pc = .ok (.dreturn, 1)) (hc : cells ≤ mc) (hs : slots ≤ ms) (he : r x) (hw : w1 = w') :
    W p l e R (s.setDrawn d1) m args below meth c H locs cells slots (MQD lw_cs below (aq_Qd D tys N ad r w' s.heap.size) args s mc ms (aq_A N ad s.heap.size)) (F0 m pc ls [.double x]) := by
  subst hw
  refine W.endD hd1 ?_
  exact W.widen hc hs (W.dret (v := x) hx hb hr (fun t ht hW => ⟨⟨x, (), rfl, he, va_K.moved (u := s) hW.alike I.1, by rw [ht]; exact I.2.1⟩, I.2.2.F ht⟩) I.2.2.2.2 hdg)
end RCH
theorem in_X2_reaches_X2 : ∀ w ∈ wsX20, w ∈ wsX2_reaches := fun _ h => List.mem_cons_of_mem _ (List.mem_append_left _ (List.mem_append_right _ h))
theorem in_X2_reaches_X0 : ∀ w ∈ wsX00, w ∈ wsX2_reaches := fun _ h => List.mem_cons_of_mem _ (List.mem_append_right _ h)
set_option maxHeartbeats 4000000 in
set_option maxRecDepth 100000 in
theorem c_X2_reaches (l : Launch) {D : va_G} {ad : Nat → Nat} {cI cQ : ClassId} {V : aq_V} {Q : aq_Q} : aq_MetD l yX2_reaches wsX2_reaches ({ frames := 0, cells := 0, slots := 0, locals := 0 }) D (aC_t cI cQ) 49 ad [.ref (ad 0)] (aC_w ad cI cQ (aq_ug V 0 Q)) (aq_Qd D (aC_t cI cQ) 49 ad (aq_rr (Q 10 11) (Q 10 8)) (aC_w ad cI cQ (aq_ug V 0 Q))) 0 0 := by
  refine aq_enterD (cc := cX2_reaches) (maxL := 1) (ret := some .double) (by decide) rfl (Nat.le_of_ble_eq_true rfl) ?_
  intro p e s m below meth c ls S hr hlocks I hl
  have S : CallFix p m c cX2_reaches 1 s _ wsX2_reaches RX2 := S
  have hl : lv_has ls 1 [(0, .ref (ad 0))] := hl
  refine lv_aload_n S.1 S.2.1 dX2_reaches_0 rfl (lv_at hl 0 rfl) ?_
  refine aC_getX S I 0 (by decide) in_X2_reaches_X2 (List.mem_of_getElem? (i := 1) rfl) dX2_reaches_1 ?_
  refine aC_getS (j := 0) (x := Q 10 8) S I (by decide) 8 (by decide) (by decide) in_X2_reaches_X0 (List.mem_of_getElem? (i := 2) rfl) (by rw [aq_ug_s]) dX2_reaches_4 ?_
  refine lv_if_ne (tgt := 12) S.1 S.2.1 dX2_reaches_7 (by decide) (fun c1 => ?_) (fun c1 => ?_)
  · refine lv_aload_n S.1 S.2.1 dX2_reaches_12 rfl (lv_at hl 0 rfl) ?_
    refine aC_getX S I 0 (by decide) in_X2_reaches_X2 (List.mem_of_getElem? (i := 1) rfl) dX2_reaches_13 ?_
    refine aC_getS (j := 0) (x := Q 10 11) S I (by decide) 11 (by decide) (by decide) in_X2_reaches_X0 (List.mem_of_getElem? (i := 3) rfl) (by rw [aq_ug_s]) dX2_reaches_16 ?_
    refine lv_i2d S.1 S.2.1 dX2_reaches_19 ?_
    refine lv_aload_n S.1 S.2.1 dX2_reaches_20 rfl (lv_at hl 0 rfl) ?_
    refine aC_getX S I 0 (by decide) in_X2_reaches_X2 (List.mem_of_getElem? (i := 1) rfl) dX2_reaches_21 ?_
    refine aC_getS (j := 0) (x := Q 10 8) S I (by decide) 8 (by decide) (by decide) in_X2_reaches_X0 (List.mem_of_getElem? (i := 2) rfl) (by rw [aq_ug_s]) dX2_reaches_24 ?_
    refine lv_i2d S.1 S.2.1 dX2_reaches_27 ?_
    refine W.base ?_
    refine lv_ddiv_any (s := s) (d0 := s.drawn) (Drawn.sameBut.refl s.drawn lw_cs) lw_bits S.1 S.2.1 dX2_reaches_28 (fun r d1 hal hd1 => ?_)
    exact aq_dretD hd1 S.1 S.2.1 hr hlocks I dX2_reaches_29 (Nat.le_refl _) (Nat.le_refl _) (by unfold aq_rr; rw [if_neg c1]; exact hal) rfl
  · refine lv_dconst0 S.1 S.2.1 dX2_reaches_10 ?_
    refine W.base ?_
    exact aq_dretD (Drawn.sameBut.refl s.drawn lw_cs) S.1 S.2.1 hr hlocks I dX2_reaches_11 (Nat.le_refl _) (Nat.le_refl _) (by unfold aq_rr; rw [if_pos c1]) rfl
