section
-- ===== PART A: goes FIRST, ahead of the names: the tables' words, and 'selects' of the private methods out of them =====
/-- a private method of a class that the tables say can be made, by its rows of tables_1 -/
def lw_okq (q : MethodName × Nat) : Prop := (q.1.cls ≠ "java/lang/invoke/MethodHandle" ∧ q.1.cls ≠ "java/lang/invoke/VarHandle") ∧ Cond.instantiable q.1.cls q.2 ∈ tables_1 ∧ Cond.privateMethod q.1 ∈ tables_1 ∧ Cond.instanceMethod q.1 ∈ tables_1
theorem lw_p0 : lw_okq (⟨"ArchWater$Aqueduct", "goOnAnHour", "()V"⟩, 13) := ⟨⟨by decide +kernel, by decide +kernel⟩, List.mem_of_getElem? (i := 23) (by decide +kernel), List.mem_of_getElem? (i := 155) (by decide +kernel), List.mem_of_getElem? (i := 156) (by decide +kernel)⟩
theorem lw_p1 : lw_okq (⟨"ArchWater$Aqueduct", "letCityDrink", "(I)V"⟩, 13) := ⟨⟨by decide +kernel, by decide +kernel⟩, List.mem_of_getElem? (i := 23) (by decide +kernel), List.mem_of_getElem? (i := 162) (by decide +kernel), List.mem_of_getElem? (i := 163) (by decide +kernel)⟩
theorem lw_p2 : lw_okq (⟨"ArchWater$Aqueduct", "sendOn", "(I)V"⟩, 13) := ⟨⟨by decide +kernel, by decide +kernel⟩, List.mem_of_getElem? (i := 23) (by decide +kernel), List.mem_of_getElem? (i := 169) (by decide +kernel), List.mem_of_getElem? (i := 170) (by decide +kernel)⟩
theorem lw_p3 : lw_okq (⟨"ArchWater$Aqueduct", "rate", "(I)I"⟩, 13) := ⟨⟨by decide +kernel, by decide +kernel⟩, List.mem_of_getElem? (i := 23) (by decide +kernel), List.mem_of_getElem? (i := 173) (by decide +kernel), List.mem_of_getElem? (i := 174) (by decide +kernel)⟩
theorem lw_p4 : lw_okq (⟨"ArchWater$Aqueduct", "slope", "(I)I"⟩, 13) := ⟨⟨by decide +kernel, by decide +kernel⟩, List.mem_of_getElem? (i := 23) (by decide +kernel), List.mem_of_getElem? (i := 177) (by decide +kernel), List.mem_of_getElem? (i := 178) (by decide +kernel)⟩
theorem lw_p5 : lw_okq (⟨"ArchWater$Aqueduct", "pour", "(II)I"⟩, 13) := ⟨⟨by decide +kernel, by decide +kernel⟩, List.mem_of_getElem? (i := 23) (by decide +kernel), List.mem_of_getElem? (i := 186) (by decide +kernel), List.mem_of_getElem? (i := 187) (by decide +kernel)⟩
theorem lw_p6 : lw_okq (⟨"ArchWater$Aqueduct", "grindAt", "(I)V"⟩, 13) := ⟨⟨by decide +kernel, by decide +kernel⟩, List.mem_of_getElem? (i := 23) (by decide +kernel), List.mem_of_getElem? (i := 194) (by decide +kernel), List.mem_of_getElem? (i := 195) (by decide +kernel)⟩
theorem lw_p7 : lw_okq (⟨"ArchWater$Aqueduct", "letSpringGive", "(I)V"⟩, 13) := ⟨⟨by decide +kernel, by decide +kernel⟩, List.mem_of_getElem? (i := 23) (by decide +kernel), List.mem_of_getElem? (i := 202) (by decide +kernel), List.mem_of_getElem? (i := 203) (by decide +kernel)⟩
theorem lw_p8 : lw_okq (⟨"ArchWater$Aqueduct", "wearAll", "()V"⟩, 13) := ⟨⟨by decide +kernel, by decide +kernel⟩, List.mem_of_getElem? (i := 23) (by decide +kernel), List.mem_of_getElem? (i := 210) (by decide +kernel), List.mem_of_getElem? (i := 211) (by decide +kernel)⟩
theorem lw_p9 : lw_okq (⟨"ArchWater", "digestArch", "(JI)J"⟩, 2) := ⟨⟨by decide +kernel, by decide +kernel⟩, List.mem_of_getElem? (i := 15) (by decide +kernel), List.mem_of_getElem? (i := 265) (by decide +kernel), List.mem_of_getElem? (i := 266) (by decide +kernel)⟩
theorem lw_p10 : lw_okq (⟨"java/lang/Throwable", "fillInStackTrace", "(I)Ljava/lang/Throwable;"⟩, 6) := ⟨⟨by decide +kernel, by decide +kernel⟩, List.mem_of_getElem? (i := 331) (by decide +kernel), List.mem_of_getElem? (i := 329) (by decide +kernel), List.mem_of_getElem? (i := 330) (by decide +kernel)⟩
theorem lw_p11 : lw_okq (⟨"ArchWater", "requireArch", "(I)V"⟩, 2) := ⟨⟨by decide +kernel, by decide +kernel⟩, List.mem_of_getElem? (i := 15) (by decide +kernel), List.mem_of_getElem? (i := 439) (by decide +kernel), List.mem_of_getElem? (i := 440) (by decide +kernel)⟩
theorem lw_p12 : lw_okq (⟨"ArchWater", "thirstWithClosed", "(II)I"⟩, 2) := ⟨⟨by decide +kernel, by decide +kernel⟩, List.mem_of_getElem? (i := 15) (by decide +kernel), List.mem_of_getElem? (i := 519) (by decide +kernel), List.mem_of_getElem? (i := 520) (by decide +kernel)⟩
theorem lw_p13 : lw_okq (⟨"ArchWaterModel", "no", "(I)I"⟩, 9) := ⟨⟨by decide +kernel, by decide +kernel⟩, List.mem_of_getElem? (i := 524) (by decide +kernel), List.mem_of_getElem? (i := 648) (by decide +kernel), List.mem_of_getElem? (i := 649) (by decide +kernel)⟩
theorem lw_p14 : lw_okq (⟨"ArchWaterModel", "set", "([III)I"⟩, 9) := ⟨⟨by decide +kernel, by decide +kernel⟩, List.mem_of_getElem? (i := 524) (by decide +kernel), List.mem_of_getElem? (i := 656) (by decide +kernel), List.mem_of_getElem? (i := 657) (by decide +kernel)⟩
theorem lw_p15 : lw_okq (⟨"ArchWaterModel", "isArch", "(I)Z"⟩, 9) := ⟨⟨by decide +kernel, by decide +kernel⟩, List.mem_of_getElem? (i := 524) (by decide +kernel), List.mem_of_getElem? (i := 673) (by decide +kernel), List.mem_of_getElem? (i := 674) (by decide +kernel)⟩
def lw_privs_1 : List (MethodName × Nat) := [(⟨"ArchWater$Aqueduct", "goOnAnHour", "()V"⟩, 13), (⟨"ArchWater$Aqueduct", "letCityDrink", "(I)V"⟩, 13), (⟨"ArchWater$Aqueduct", "sendOn", "(I)V"⟩, 13), (⟨"ArchWater$Aqueduct", "rate", "(I)I"⟩, 13), (⟨"ArchWater$Aqueduct", "slope", "(I)I"⟩, 13), (⟨"ArchWater$Aqueduct", "pour", "(II)I"⟩, 13), (⟨"ArchWater$Aqueduct", "grindAt", "(I)V"⟩, 13), (⟨"ArchWater$Aqueduct", "letSpringGive", "(I)V"⟩, 13), (⟨"ArchWater$Aqueduct", "wearAll", "()V"⟩, 13), (⟨"ArchWater", "digestArch", "(JI)J"⟩, 2), (⟨"java/lang/Throwable", "fillInStackTrace", "(I)Ljava/lang/Throwable;"⟩, 6), (⟨"ArchWater", "requireArch", "(I)V"⟩, 2), (⟨"ArchWater", "thirstWithClosed", "(II)I"⟩, 2), (⟨"ArchWaterModel", "no", "(I)I"⟩, 9), (⟨"ArchWaterModel", "set", "([III)I"⟩, 9), (⟨"ArchWaterModel", "isArch", "(I)Z"⟩, 9)]
theorem lw_r1 : ∀ q ∈ lw_privs_1, lw_okq q := List.forall_mem_cons.mpr ⟨lw_p0, List.forall_mem_cons.mpr ⟨lw_p1, List.forall_mem_cons.mpr ⟨lw_p2, List.forall_mem_cons.mpr ⟨lw_p3, List.forall_mem_cons.mpr ⟨lw_p4, List.forall_mem_cons.mpr ⟨lw_p5, List.forall_mem_cons.mpr ⟨lw_p6, List.forall_mem_cons.mpr ⟨lw_p7, List.forall_mem_cons.mpr ⟨lw_p8, List.forall_mem_cons.mpr ⟨lw_p9, List.forall_mem_cons.mpr ⟨lw_p10, List.forall_mem_cons.mpr ⟨lw_p11, List.forall_mem_cons.mpr ⟨lw_p12, List.forall_mem_cons.mpr ⟨lw_p13, List.forall_mem_cons.mpr ⟨lw_p14, List.forall_mem_cons.mpr ⟨lw_p15, fun _ h => absurd h List.not_mem_nil⟩⟩⟩⟩⟩⟩⟩⟩⟩⟩⟩⟩⟩⟩⟩⟩
theorem lw_p16 : lw_okq (⟨"ArchWaterModel", "archTold", "(II)I"⟩, 9) := ⟨⟨by decide +kernel, by decide +kernel⟩, List.mem_of_getElem? (i := 524) (by decide +kernel), List.mem_of_getElem? (i := 677) (by decide +kernel), List.mem_of_getElem? (i := 678) (by decide +kernel)⟩
theorem lw_p17 : lw_okq (⟨"ArchWaterModel", "slope", "(I)I"⟩, 9) := ⟨⟨by decide +kernel, by decide +kernel⟩, List.mem_of_getElem? (i := 524) (by decide +kernel), List.mem_of_getElem? (i := 681) (by decide +kernel), List.mem_of_getElem? (i := 682) (by decide +kernel)⟩
theorem lw_p18 : lw_okq (⟨"ArchWaterModel", "rate", "(I)I"⟩, 9) := ⟨⟨by decide +kernel, by decide +kernel⟩, List.mem_of_getElem? (i := 524) (by decide +kernel), List.mem_of_getElem? (i := 685) (by decide +kernel), List.mem_of_getElem? (i := 686) (by decide +kernel)⟩
theorem lw_p19 : lw_okq (⟨"ArchWaterModel", "mills", "()I"⟩, 9) := ⟨⟨by decide +kernel, by decide +kernel⟩, List.mem_of_getElem? (i := 524) (by decide +kernel), List.mem_of_getElem? (i := 694) (by decide +kernel), List.mem_of_getElem? (i := 695) (by decide +kernel)⟩
theorem lw_p20 : lw_okq (⟨"ArchWaterModel", "millTold", "(II)I"⟩, 9) := ⟨⟨by decide +kernel, by decide +kernel⟩, List.mem_of_getElem? (i := 524) (by decide +kernel), List.mem_of_getElem? (i := 706) (by decide +kernel), List.mem_of_getElem? (i := 707) (by decide +kernel)⟩
theorem lw_p21 : lw_okq (⟨"ArchWaterModel$State", "come", "(II)I"⟩, 17) := ⟨⟨by decide +kernel, by decide +kernel⟩, List.mem_of_getElem? (i := 530) (by decide +kernel), List.mem_of_getElem? (i := 731) (by decide +kernel), List.mem_of_getElem? (i := 732) (by decide +kernel)⟩
theorem lw_p22 : lw_okq (⟨"ArchWaterModel$State", "grind", "(I)V"⟩, 17) := ⟨⟨by decide +kernel, by decide +kernel⟩, List.mem_of_getElem? (i := 530) (by decide +kernel), List.mem_of_getElem? (i := 735) (by decide +kernel), List.mem_of_getElem? (i := 736) (by decide +kernel)⟩
theorem lw_p23 : lw_okq (⟨"ArchWaterModel", "counted", "(I)I"⟩, 9) := ⟨⟨by decide +kernel, by decide +kernel⟩, List.mem_of_getElem? (i := 524) (by decide +kernel), List.mem_of_getElem? (i := 743) (by decide +kernel), List.mem_of_getElem? (i := 744) (by decide +kernel)⟩
theorem lw_p24 : lw_okq (⟨"ArchWaterModel$State", "copy", "([I[I)V"⟩, 17) := ⟨⟨by decide +kernel, by decide +kernel⟩, List.mem_of_getElem? (i := 530) (by decide +kernel), List.mem_of_getElem? (i := 759) (by decide +kernel), List.mem_of_getElem? (i := 760) (by decide +kernel)⟩
def lw_privs_2 : List (MethodName × Nat) := [(⟨"ArchWaterModel", "archTold", "(II)I"⟩, 9), (⟨"ArchWaterModel", "slope", "(I)I"⟩, 9), (⟨"ArchWaterModel", "rate", "(I)I"⟩, 9), (⟨"ArchWaterModel", "mills", "()I"⟩, 9), (⟨"ArchWaterModel", "millTold", "(II)I"⟩, 9), (⟨"ArchWaterModel$State", "come", "(II)I"⟩, 17), (⟨"ArchWaterModel$State", "grind", "(I)V"⟩, 17), (⟨"ArchWaterModel", "counted", "(I)I"⟩, 9), (⟨"ArchWaterModel$State", "copy", "([I[I)V"⟩, 17)]
theorem lw_r2 : ∀ q ∈ lw_privs_2, lw_okq q := List.forall_mem_cons.mpr ⟨lw_p16, List.forall_mem_cons.mpr ⟨lw_p17, List.forall_mem_cons.mpr ⟨lw_p18, List.forall_mem_cons.mpr ⟨lw_p19, List.forall_mem_cons.mpr ⟨lw_p20, List.forall_mem_cons.mpr ⟨lw_p21, List.forall_mem_cons.mpr ⟨lw_p22, List.forall_mem_cons.mpr ⟨lw_p23, List.forall_mem_cons.mpr ⟨lw_p24, fun _ h => absurd h List.not_mem_nil⟩⟩⟩⟩⟩⟩⟩⟩⟩
def lw_privs : List (MethodName × Nat) := lw_privs_1 ++ (lw_privs_2)
def lw_tbl : List Cond := k2_sels lw_privs ++ tables_1
theorem lw_privs_ok : ∀ q ∈ lw_privs, lw_okq q := by
  show ∀ q ∈ lw_privs_1 ++ (lw_privs_2), lw_okq q
  exact List.forall_mem_append.mpr ⟨lw_r1, lw_r2⟩
/-- the streams that the claim lets the run draw from -/
abbrev lw_cs : List Choice := [Jvm.Choice.named "NaN.bits"]
theorem lw_bits : nanBits ∈ lw_cs := by first | decide | exact List.mem_cons_self | simp [lw_cs, nanBits]
end
section
/-! ===== BEGIN words of one list among another's, by their places ===== -/
theorem goodIn_r {big : List Cond} (ws : List Cond) (ps : List Nat) (hp : ws = ps.filterMap (fun i => big[i]?)) (h : ws.all goodWord = true) : GoodIn big ws := by
  intro w hw
  have h1 := List.all_eq_true.mp h w hw
  rw [hp] at hw
  obtain ⟨i, -, hi⟩ := List.mem_filterMap.mp hw
  have hm : w ∈ big := by first | exact List.mem_of_getElem? hi | exact List.getElem?_mem hi
  exact ⟨hm, good_of_word h1⟩
theorem goodIn_app {big a b : List Cond} (ha : GoodIn big a) (hb : GoodIn big b) : GoodIn big (a ++ b) := fun w h => (List.mem_append.mp h).elim (ha w) (hb w)
theorem goodIn_ca {big a b : List Cond} {c : Cond} (ha : GoodIn big (c :: a)) (hb : GoodIn big b) : GoodIn big (c :: (a ++ b)) := fun w h => (List.mem_cons.mp h).elim (fun e => ha w (List.mem_cons.mpr (Or.inl e))) (fun h => (List.mem_append.mp h).elim (fun h => ha w (List.mem_cons.mpr (Or.inr h))) (hb w))
theorem goodIn_sub {big ws : List Cond} (hm : ∀ w ∈ ws, w ∈ big) (h : ws.all goodWord = true) : GoodIn big ws := fun w hw => ⟨hm w hw, good_of_word (List.all_eq_true.mp h w hw)⟩
/-! ===== END ===== -/

/-! ===== BEGIN exceptions that leave a method, and their catching by the caller (launches without stack traces) ===== -/
section VXA
/-! The laws vx_back, vx_callV, vx_callS, vx_callSW, vx_throw0, vx_throwS follow proofs of the library, with one case more: JvmDerived/Free/Laws.lean (Back.of_free), Shelf42/LK1.lean (callV, callS), Shelf/KitTraced.lean (throwNew0V, throwNewS). -/
/-- where a method has thrown q: the class by its name, the cell, what was written, the world -/
def vx_T (XC : String → State → State → Prop) (st : State) (q : Addr) (t : State) (mc ms : Nat) (free : Addr → Prop) : Prop :=
  ∃ (E : String) (ce : Cell) (L : List Loc), XC E st t ∧ t.heap[q]? = some ce ∧ ce.vm = .none ∧ st.vm.findClass E = some ce.cls ∧ st.WarmedH t.vm ∧ st.sameButNew ({ t with vm := st.vm } : State) L mc ms ∧ ∀ z ∈ L, free z.base
def vx_Q (Qc : Array Value → State → Outcome → State → Prop) (XC : String → State → State → Prop) (mc ms : Nat) (free : Addr → Prop) : Array Value → State → Outcome → State → Prop := fun a st o t =>
  (Qc a st o t ∧ ∃ L, FrameEnd st o t L mc ms ∧ ∀ q ∈ L, free q.base) ∨ ∃ q, o = .threw q ∧ vx_T XC st q t mc ms free
/-- a callee that returns or throws -/
def vx_Met (l : Launch) (y : MethodName) (ws : List Cond) (rm : Room) (Pc : Array Value → State → Prop) (Qc : Array Value → State → Outcome → State → Prop) (XC : String → State → State → Prop) (mc ms : Nat) (free : Addr → Prop) : Prop :=
  MetFree l y (headSpec ws rm) Pc (fun _ _ _ _ _ => True) (vx_Q Qc XC mc ms free)
def vx_Post (XC : String → State → State → Prop) (mc ms : Nat) (free : Addr → Prop) : Pt → Array Value → Addr → Pt → Prop := fun A a q B =>
  ∃ (g : JFrame) (mk : MethodId) (t : State) (L : List Loc) (E : String) (ce : Cell), B.U.heap = t.heap ∧ B.U.vm = t.vm ∧ XC E (A.U.calling g mk a) t ∧ t.heap[q]? = some ce ∧ ce.vm = .none ∧ A.U.vm.findClass E = some ce.cls ∧ B.locs = A.locs ++ L ∧ (∀ z ∈ L, free z.base) ∧ B.cells = A.cells + mc ∧ B.slots = A.slots + ms
def vx_Back (l : Launch) (R : Room) (p : Program) (e : Env) (below : List Frame) (s : State) (sargs : Array Value) (y : MethodName) (len W9 : Nat)
    (Pre : Pt → Array Value → Prop) (Post : Pt → Array Value → Option Value → Pt → Prop) (PostX : Pt → Array Value → Addr → Pt → Prop) : Prop :=
  ∀ (m : MethodId) (meth : Method) (c : Code) (A : Pt) (g : JFrame) (ig : Instr) (mk : MethodId) (a : Array Value),
    Stand p l e R s m sargs below meth c A.U A.locs A.cells A.slots → g.method = m → g.locals.size = c.maxLocals → decode c.code g.pc = .ok (ig, len) →
    2 * g.monitorRoom + (g.stack.map fun v => v.category).sum ≤ W9 → A.U.methodNamed? y = some mk → Pre A a →
    (∃ (v : Option Value) (B : Pt), Stand p l e R s m sargs below meth c B.U B.locs B.cells B.slots ∧ Post A a v B ∧
      Steps p.tables e below (doInvoke e (A.U.setTop g) [] mk a).1 (B.U.setTop { g with pc := g.pc + len, stack := v.toList ++ g.stack })) ∨
    (∃ (q : Addr) (B : Pt), Stand p l e R s m sargs below meth c B.U B.locs B.cells B.slots ∧ PostX A a q B ∧
      Steps p.tables e below (doInvoke e (A.U.setTop g) [] mk a).1 ((B.U.setTop g).pushFrame (.throwing q)))
section Payer
variable {l : Launch} {R : Room} {p : Program} {e : Env} {below : List Frame} {s : State} {sargs : Array Value} {y : MethodName} {len W9 : Nat}
theorem vx_back {ws : List Cond} {rm : Room} {Pc : Array Value → State → Prop} {Qc : Array Value → State → Outcome → State → Prop} {XC : String → State → State → Prop} {mc ms : Nat} {free : Addr → Prop} {bytes : ByteArray} {maxL : Nat} {ret : Option FieldType}
    (hM : vx_Met l y ws rm Pc Qc XC mc ms free) (hblind : FrameBlind Pc) (hrc : rm.cells = mc) (hrs : rm.slots = ms)
    (hframes : rm.frames + 1 ≤ R.frames) (hlocals : W9 + (maxL + 11) + rm.locals ≤ R.locals)
    (hws : ∀ w ∈ ws, ∀ a' U, s.WarmedH U.vm → w.before a' U = true) (hcode : Cond.code y bytes maxL ret ∈ ws) (hinit : ∀ a' U, s.WarmedH U.vm → (Cond.initialized y.cls).before a' U = true) :
    vx_Back l R p e below s sargs y len W9 (PreOf R mc ms Pc) (PostOf Qc mc ms free) (vx_Post XC mc ms free) := by
  intro m meth c A g ig mk a X hg hsize hdg hW hn hp
  have h1 : (headSpec ws rm).pre.before a A.U = true := atoms_intro fun w hw => hws w hw _ _ X.warmed
  have h2 : (Cond.code y bytes maxL ret).before a A.U = true := hws _ hcode _ _ X.warmed
  have h3 : (Cond.initialized y.cls).before a A.U = true := hinit _ _ X.warmed
  have h4 : A.cells + (headSpec ws rm).room.cells ≤ R.cells := by rw [show (headSpec ws rm).room.cells = mc from hrc]; exact hp.1
  have h5 : A.slots + (headSpec ws rm).room.slots ≤ R.slots := by rw [show (headSpec ws rm).room.slots = ms from hrs]; exact hp.2.1
  have hPc : Pc a (A.U.calling g mk a) := hblind _ _ _ _ hp.2.2
  obtain ⟨U, Ls, c0, s0⟩ := A
  dsimp only [Pt.U, Pt.locs, Pt.cells, Pt.slots] at h1 h2 h3 h4 h5 X hn hPc ⊢
  obtain ⟨methY, cY, hmY, hcY, -, hlY, -, -, -, -⟩ := Cond.code_spec hn h2
  obtain ⟨kY, hkY, -⟩ := className_of_methodNamed hn
  have hinitY : kY.init = .initialized := Cond.initialized_spec (findClass_of_methodNamed hn) hkY h3
  have h : At U g.method c below := by rw [hg]; exact X.here
  have hlocals9 : W9 + (maxL + 11) + (headSpec ws rm).room.locals ≤ R.locals := hlocals
  have happ : (headSpec ws rm).appliesLoose y e.platform (U.calling g mk a) = true :=
    Spec.appliesLoose_calling (g := g) h hdg hn hkY hinitY
      (X.room_calling (g := g) (R' := (headSpec ws rm).room) hsize hmY hcY hframes (by rw [hlY]; omega) h4 h5) h1
  obtain ⟨mid, hmid⟩ := h.above
  have hfr : (U.setTop g).frames = (.java g :: mid) ++ below := by rw [State.frames_setTop' g h.top, hmid]; rfl
  obtain ⟨o, s₂, hsteps, -, hend, hq⟩ := Steps.callFree hM p X.admits X.cas X.clock (acts := []) hfr happ hPc trivial
  have hq' : vx_Q Qc XC mc ms free a (U.calling g mk a) o s₂ := hq
  rw [State.frames_setTop' g h.top] at hend
  obtain ⟨g₀, hg0⟩ := Option.isSome_iff_exists.mp h.top
  obtain ⟨r, hr⟩ := State.topJava?_eq_some.mp hg0
  have hr' : (({ U with heap := s₂.heap, slotsUsed := s₂.slotsUsed } : State).setVm s₂.vm).frames = .java g₀ :: r := hr
  rcases hq' with ⟨hqc, L, hfe, hL⟩ | ⟨q, rfl, E, ce, L, hx, hce, hcv, hcl, hW₂, hsm, hL⟩
  · obtain ⟨⟨v, rfl⟩, hW₂, e2, q2, q3, q4, q5, q6⟩ := id hfe
    have e3 : s₂ = ({ (U.calling g mk a).setFrames s₂.frames with heap := s₂.heap, slotsUsed := s₂.slotsUsed } : State).setVm s₂.vm := by
      have : s₂ = ({ s₂ with vm := (U.calling g mk a).vm } : State).setVm s₂.vm := rfl
      rw [e2] at this
      exact this
    obtain ⟨c₂, i₂, len₂, hc₂, hd₂, hf₂⟩ := hend
    have hW' : U.WarmedH s₂.vm := hW₂
    have hcc : c₂ = c := by
      have h1 : s₂.code? g.method = U.code? g.method := by
        rw [State.code?_eq, State.code?_eq, hW'.alike.method?]
      exact Option.some.inj (hc₂.symm.trans (h1.trans h.code))
    subst hcc
    have hlen : len₂ = len := by rw [hdg] at hd₂; cases hd₂; rfl
    subst hlen
    have hs₂ : s₂ = (({ U with heap := s₂.heap, slotsUsed := s₂.slotsUsed } : State).setVm s₂.vm).setTop { g with pc := g.pc + len₂, stack := v.toList ++ g.stack } := by
      refine e3.trans ?_
      rw [hf₂, State.calling_eq h.top, State.setFrames_setFrames, State.setTop_of_frames _ hr', hr]
      rfl
    have hsame : U.sameButNew ({ U with heap := s₂.heap, slotsUsed := s₂.slotsUsed } : State) L mc ms := by
      refine ⟨?_, q2, q3, q4, q5, q6⟩
      obtain ⟨t, ht, -⟩ := State.frames_cons hr
      show ({ U with heap := s₂.heap, slotsUsed := s₂.slotsUsed } : State) = { U.setFrames U.frames with heap := s₂.heap, slotsUsed := s₂.slotsUsed }
      rw [State.setFrames_self ht]
    subst hg
    refine Or.inl ⟨v, ⟨(({ U with heap := s₂.heap, slotsUsed := s₂.slotsUsed } : State).setVm s₂.vm), Ls ++ L, c0 + mc, s0 + ms⟩,
      ⟨X.admits, X.cas, X.clock, X.frames, X.room, X.hears, X.method, X.code, (X.here.setHeapUsed s₂.heap s₂.slotsUsed).setVm hW'.alike, X.tail, State.WarmedH.trans X.warmed hW', X.limits, X.bytes, X.same.trans (hsame.setVm s.vm)⟩,
      ⟨g, mk, s₂, L, rfl, rfl, hqc, rfl, hL, rfl, rfl⟩, ?_⟩
    show Steps p.tables e below _ ((({ U with heap := s₂.heap, slotsUsed := s₂.slotsUsed } : State).setVm s₂.vm).setTop { g with pc := g.pc + len₂, stack := v.toList ++ g.stack })
    rw [← hs₂]
    exact hsteps
  · obtain ⟨e2, q2, q3, q4, q5, q6⟩ := id hsm
    have e3 : s₂ = ({ (U.calling g mk a).setFrames s₂.frames with heap := s₂.heap, slotsUsed := s₂.slotsUsed } : State).setVm s₂.vm := by
      have : s₂ = ({ s₂ with vm := (U.calling g mk a).vm } : State).setVm s₂.vm := rfl
      rw [e2] at this
      exact this
    have hf₂ : s₂.frames = .throwing q :: .java g :: U.frames.tail := hend
    have hW' : U.WarmedH s₂.vm := hW₂
    have hs₂ : s₂ = ((({ U with heap := s₂.heap, slotsUsed := s₂.slotsUsed } : State).setVm s₂.vm).setTop g).pushFrame (.throwing q) := by
      refine e3.trans ?_
      rw [hf₂, State.calling_eq h.top, State.setFrames_setFrames, State.pushFrame, State.frames_setTop _ hr', State.setTop_of_frames _ hr', State.setFrames_setFrames, hr]
      rfl
    have hsame : U.sameButNew ({ U with heap := s₂.heap, slotsUsed := s₂.slotsUsed } : State) L mc ms := by
      refine ⟨?_, q2, q3, q4, q5, q6⟩
      obtain ⟨t, ht, -⟩ := State.frames_cons hr
      show ({ U with heap := s₂.heap, slotsUsed := s₂.slotsUsed } : State) = { U.setFrames U.frames with heap := s₂.heap, slotsUsed := s₂.slotsUsed }
      rw [State.setFrames_self ht]
    subst hg
    refine Or.inr ⟨q, ⟨(({ U with heap := s₂.heap, slotsUsed := s₂.slotsUsed } : State).setVm s₂.vm), Ls ++ L, c0 + mc, s0 + ms⟩,
      ⟨X.admits, X.cas, X.clock, X.frames, X.room, X.hears, X.method, X.code, (X.here.setHeapUsed s₂.heap s₂.slotsUsed).setVm hW'.alike, X.tail, State.WarmedH.trans X.warmed hW', X.limits, X.bytes, X.same.trans (hsame.setVm s.vm)⟩,
      ⟨g, mk, s₂, L, E, ce, rfl, rfl, hx, hce, hcv, hcl, rfl, hL, rfl, rfl⟩, ?_⟩
    show Steps p.tables e below _ (((({ U with heap := s₂.heap, slotsUsed := s₂.slotsUsed } : State).setVm s₂.vm).setTop g).pushFrame (.throwing q))
    rw [← hs₂]
    exact hsteps
end Payer
section Calls
variable {p : Program} {l : Launch} {e : Env} {R : Room} {s : State} {m : MethodId} {args : Array Value} {below : List Frame} {meth : Method} {c : Code} {T : State} {locs : List Loc} {cells slots : Nat}
theorem vx_callV (X : Stand p l e R s m args below meth c T locs cells slots) (hexec : p.tables.exec = Jvm.exec) {own C : String} {index : Nat} {y : MethodName} {bytes : ByteArray} {maxL : Nat} {ret : Option FieldType}
    (hown : s.vm.findClass own = some m.cls) (hlink : (Cond.methodLink own index y).before args s = true) (hinst : (Cond.instanceMethod y).before args s = true) (hsel : (Cond.selects C y y).before args s = true)
    (hcode : (Cond.code y bytes maxL ret).before args s = true) (hy : y.cls ≠ "java/lang/invoke/MethodHandle" ∧ y.cls ≠ "java/lang/invoke/VarHandle")
    {W9 : Nat} {Pre : Pt → Array Value → Prop} {Post : Pt → Array Value → Option Value → Pt → Prop} {PostX : Pt → Array Value → Addr → Pt → Prop} (hK : vx_Back l R p e below s args y 3 W9 Pre Post PostX)
    {b : Addr} {cellB : Cell} (hcell : T.heap[b]? = some cellB) (hobj : cellB.vm.isStatics = false) (hcls : s.vm.findClass C = some cellB.cls)
    {g : JFrame} (hg : g.method = m) (hsize : g.locals.size = c.maxLocals) {argsL rest : List Value} (hlen : ∀ sig, parseMethodDescriptor y.desc = some sig → argsL.length = sig.parameters.length)
    (hstack : g.stack = argsL.reverse ++ .ref b :: rest) (hW : 2 * g.monitorRoom + (rest.map fun v => v.category).sum ≤ W9) (hdg : decode c.code g.pc = .ok (.invokevirtual index, 3))
    (hpre : ∀ vm₁, s.WarmedH vm₁ → Pre ⟨T.setVm vm₁, locs, cells, slots⟩ (Value.ref b :: argsL).toArray) :
    (∃ (v : Option Value) (vm₁ : Vm) (B : Pt), s.WarmedH vm₁ ∧ Stand p l e R s m args below meth c B.U B.locs B.cells B.slots ∧ Post ⟨T.setVm vm₁, locs, cells, slots⟩ (Value.ref b :: argsL).toArray v B ∧
      ∀ target, Steps p.tables e below (B.U.setTop { g with pc := g.pc + 3, stack := v.toList ++ rest }) target → Steps p.tables e below (T.setTop g) target) ∨
    (∃ (q : Addr) (vm₁ : Vm) (B : Pt), s.WarmedH vm₁ ∧ Stand p l e R s m args below meth c B.U B.locs B.cells B.slots ∧ PostX ⟨T.setVm vm₁, locs, cells, slots⟩ (Value.ref b :: argsL).toArray q B ∧
      Steps p.tables e below (T.setTop g) ((B.U.setTop { g with stack := rest }).pushFrame (.throwing q))) := by
  obtain ⟨mk, methM, hnamed, hmethM, hstM, habM⟩ := Cond.instanceMethod_spec hinst
  obtain ⟨methM', cM, hmethM', -, -, -, -, -, -, hsigM⟩ := Cond.code_spec hnamed hcode
  cases hmethM.symm.trans hmethM'
  obtain ⟨c2, r2, m2, q1, q2, q3, q4, kP, hkP, hkPi⟩ := Cond.selects_spec hsel
  cases hcls.symm.trans q1
  cases (State.methodFound?_of_named hnamed hy).symm.trans q2
  cases hnamed.symm.trans q3
  have hselP : selectMethod e.platform s.vm cellB.cls mk = .method mk := by rw [Launch.admits_selectMethod X.admits]; exact q4
  obtain ⟨vm₁, X₁, hstep₁⟩ := X.invokevirtual hexec hown hlink hnamed hmethM hstM hkP hkPi hy (a := b) (cell := cellB) hcell
    (fun z h => by rw [h] at hobj; cases hobj) hselP hmethM habM hkP hkPi (g := g) hg (argsL := argsL) (rest := rest) (hlen _ hsigM) hstack hdg
  rcases hK m meth c ⟨T.setVm vm₁, locs, cells, slots⟩ { g with stack := rest } (.invokevirtual index) mk (Value.ref b :: argsL).toArray X₁ hg hsize hdg hW (X₁.named hnamed) (hpre vm₁ X₁.warmed) with ⟨v, B, X', hpost, hsteps⟩ | ⟨q, B, X', hpost, hsteps⟩
  · exact Or.inl ⟨v, vm₁, B, X₁.warmed, X', hpost, fun target h => hstep₁ _ fun acts => by rw [doInvoke_state]; exact hsteps.trans h⟩
  · exact Or.inr ⟨q, vm₁, B, X₁.warmed, X', hpost, hstep₁ _ fun acts => by rw [doInvoke_state]; exact hsteps⟩
theorem vx_callS (X : Stand p l e R s m args below meth c T locs cells slots) (hexec : p.tables.exec = Jvm.exec) {own : String} {index : Nat} {y : MethodName} {bytes : ByteArray} {maxL : Nat} {ret : Option FieldType}
    (hown : s.vm.findClass own = some m.cls) (hlink : (Cond.methodLink own index y).before args s = true) (hstat : (Cond.static y).before args s = true) (hinit : (Cond.initialized y.cls).before args s = true)
    (hcode : (Cond.code y bytes maxL ret).before args s = true) (hy : y.cls ≠ "java/lang/invoke/MethodHandle" ∧ y.cls ≠ "java/lang/invoke/VarHandle")
    {W9 : Nat} {Pre : Pt → Array Value → Prop} {Post : Pt → Array Value → Option Value → Pt → Prop} {PostX : Pt → Array Value → Addr → Pt → Prop} (hK : vx_Back l R p e below s args y 3 W9 Pre Post PostX)
    {g : JFrame} (hg : g.method = m) (hsize : g.locals.size = c.maxLocals) {argsL rest : List Value} (hlen : ∀ sig, parseMethodDescriptor y.desc = some sig → argsL.length = sig.parameters.length)
    (hstack : g.stack = argsL.reverse ++ rest) (hW : 2 * g.monitorRoom + (rest.map fun v => v.category).sum ≤ W9) (hdg : decode c.code g.pc = .ok (.invokestatic index, 3))
    (hpre : ∀ vm₁, s.WarmedH vm₁ → Pre ⟨T.setVm vm₁, locs, cells, slots⟩ argsL.toArray) :
    (∃ (v : Option Value) (vm₁ : Vm) (B : Pt), s.WarmedH vm₁ ∧ Stand p l e R s m args below meth c B.U B.locs B.cells B.slots ∧ Post ⟨T.setVm vm₁, locs, cells, slots⟩ argsL.toArray v B ∧
      ∀ target, Steps p.tables e below (B.U.setTop { g with pc := g.pc + 3, stack := v.toList ++ rest }) target → Steps p.tables e below (T.setTop g) target) ∨
    (∃ (q : Addr) (vm₁ : Vm) (B : Pt), s.WarmedH vm₁ ∧ Stand p l e R s m args below meth c B.U B.locs B.cells B.slots ∧ PostX ⟨T.setVm vm₁, locs, cells, slots⟩ argsL.toArray q B ∧
      Steps p.tables e below (T.setTop g) ((B.U.setTop { g with stack := rest }).pushFrame (.throwing q))) := by
  obtain ⟨mk, hnamed⟩ := Cond.code_named hcode
  obtain ⟨methM, cM, hmethM, -, -, -, -, -, -, hsigM⟩ := Cond.code_spec hnamed hcode
  have hstatic : methM.isStatic = true := Cond.static_spec hnamed hmethM hstat
  obtain ⟨kP, hkP, -⟩ := className_of_methodNamed hnamed
  have hinitP : kP.init = .initialized := Cond.initialized_spec (findClass_of_methodNamed hnamed) hkP hinit
  obtain ⟨vm₁, X₁, hstep₁⟩ := X.invokestatic hexec hown hlink hnamed hmethM hstatic hkP hinitP hy (g := g) hg (argsL := argsL) (rest := rest) (hlen _ hsigM) hstack hdg
  rcases hK m meth c ⟨T.setVm vm₁, locs, cells, slots⟩ { g with stack := rest } (.invokestatic index) mk argsL.toArray X₁ hg hsize hdg hW (X₁.named hnamed) (hpre vm₁ X₁.warmed) with ⟨v, B, X', hpost, hsteps⟩ | ⟨q, B, X', hpost, hsteps⟩
  · exact Or.inl ⟨v, vm₁, B, X₁.warmed, X', hpost, fun target h => hstep₁ _ fun acts => by rw [doInvoke_state]; exact hsteps.trans h⟩
  · exact Or.inr ⟨q, vm₁, B, X₁.warmed, X', hpost, hstep₁ _ fun acts => by rw [doInvoke_state]; exact hsteps⟩
end Calls
theorem vx_cls {s : State} {T : State} {vm₁ : Vm} {E : String} {k : ClassId} (hW : s.WarmedH vm₁) (h : (T.setVm vm₁).vm.findClass E = some k) : s.vm.findClass E = some k := by
  have h1 : vm₁.findClass E = some k := h
  rw [hW.alike.findClass] at h1
  exact h1
/-- the method's frame g, with q thrown over it -/
def vx_W (p : Program) (l : Launch) (e : Env) (R : Room) (s : State) (m : MethodId) (args : Array Value) (below : List Frame) (meth : Method) (c : Code) (H : Heap) (locs : List Loc) (cells slots : Nat) (Q : State → Prop) (g : JFrame) (q : Addr) : Prop :=
  ∀ T : State, T.heap = H → Stand p l e R s m args below meth c T locs cells slots → ∃ t, Steps p.tables e below ((T.setTop g).pushFrame (.throwing q)) t ∧ Q t
def vx_Run (p : Program) (l : Launch) (e : Env) (R : Room) (s : State) (m : MethodId) (args : Array Value) (below : List Frame) (meth : Method) (c : Code) (H : Heap) (locs : List Loc) (cells slots mc ms : Nat) (g : JFrame) (rest : List Value) (Qa : State → Outcome → State → Prop) (XC : String → State → State → Prop) (free : Addr → Prop) : Prop :=
  ∀ T : State, T.heap = H → Stand p l e R s m args below meth c T locs cells slots →
    (∃ (v : Option Value) (st₀ t T' : State) (L : List Loc), st₀.heap = H ∧ Stand p l e R s m args below meth c T' (locs ++ L) (cells + mc) (slots + ms) ∧ (∀ q ∈ L, free q.base) ∧ T'.heap = t.heap ∧ T'.vm = t.vm ∧ Qa st₀ (.returned v) t ∧
      Goes p e below T g T' { g with pc := g.pc + 3, stack := v.toList ++ rest }) ∨
    (∃ (q : Addr) (st₀ t T' : State) (L : List Loc) (E : String) (ce : Cell), st₀.heap = H ∧ Stand p l e R s m args below meth c T' (locs ++ L) (cells + mc) (slots + ms) ∧ (∀ z ∈ L, free z.base) ∧ T'.heap = t.heap ∧ T'.vm = t.vm ∧ XC E st₀ t ∧ t.heap[q]? = some ce ∧ ce.vm = .none ∧ s.vm.findClass E = some ce.cls ∧
      Steps p.tables e below (T.setTop g) ((T'.setTop { g with stack := rest }).pushFrame (.throwing q)))
def vx_X {S : Type} (px : S → Prop) (B : String → S → State → Prop) (A : Nat → Prop) : String → State → State → Prop := fun E st t => ∃ u : S, px u ∧ B E u t ∧ va_F A st t
section Runs
variable {p : Program} {l : Launch} {e : Env} {R : Room} {s : State} {m : MethodId} {args : Array Value} {below : List Frame} {meth : Method} {c : Code} {H : Heap} {locs : List Loc} {cells slots : Nat}
variable {y : MethodName} {bytes cc : ByteArray} {maxL nL mc ms n index : Nat} {ret : Option FieldType} {ws : List Cond} {rm : Room} {Pc : Array Value → State → Prop} {Qc : Array Value → State → Outcome → State → Prop} {XC : String → State → State → Prop} {free : Addr → Prop} {Ts : List Cond} {own C : String} {b : Addr} {As rest : List Value} {g : JFrame}
theorem vx_callBack (cb : CallB R s args own index y bytes maxL ret ws rm mc ms n) (hM : vx_Met l y ws rm Pc Qc XC mc ms free) (hbl : FrameBlind Pc) : vx_Back l R p e below s args y 3 8 (PreOf R mc ms Pc) (PostOf Qc mc ms free) (vx_Post XC mc ms free) := by
  obtain ⟨hrc, hrs, hfr, hlo, hws, hcw, -, hini, -⟩ := cb
  exact vx_back (bytes := bytes) (maxL := maxL) (ret := ret) hM hbl hrc hrs hfr hlo hws hcw (fun a' U hW => word_at hW (Or.inl (by first | rfl | simp [Cond.onTables, Cond.keeps, Cond.steady])) hini)
theorem vx_runV (S : CallFix p m c cc nL s args Ts own) (hM : vx_Met l y ws rm Pc Qc XC mc ms free) (cw : CallW R s args own C index y bytes maxL ret ws rm mc ms n) (hp : PreV s H C b Pc As)
    (hg : g.method = m) (hn : As.length = n) (hsize : g.locals.size = nL) (hstack : g.stack = As.reverse ++ .ref b :: rest) (hW : 2 * g.monitorRoom + (rest.map fun v => v.category).sum ≤ 8) (hdg : decode cc g.pc = .ok (.invokevirtual index, 3)) (hf : cells + mc ≤ R.cells ∧ slots + ms ≤ R.slots) :
    vx_Run p l e R s m args below meth c H locs cells slots mc ms g rest (Qc (Value.ref b :: As).toArray) XC free := by
  have hK : vx_Back l R p e below s args y 3 8 (PreOf R mc ms Pc) (PostOf Qc mc ms free) (vx_Post XC mc ms free) := vx_callBack cw.1 hM hp.1
  obtain ⟨⟨-, -, -, -, -, -, hcode, -, hy, hlen, hl⟩, hin, hse⟩ := cw
  obtain ⟨hx, hb, hml, ho, -⟩ := S
  obtain ⟨-, ⟨cellB, hcB, hoB, hclB⟩, hPc⟩ := hp
  intro T hT X
  rcases vx_callV X hx (C := C) (bytes := bytes) (maxL := maxL) (ret := ret) ho hl hin hse hcode hy hK (by rw [hT]; exact hcB) hoB hclB hg (hsize.trans hml.symm) (argsL := As) (rest := rest) (fun sig h => hn.trans (hlen sig h)) hstack hW (by rw [hb]; exact hdg)
    (fun vm₁ hW₁ => ⟨hf.1, hf.2, hPc (T.setVm vm₁) hT hW₁⟩) with ⟨v, vm₁, ⟨U', l2, c2, s2⟩, hW₁, X', ⟨g', mk, t, L, e1, e2, hq, h1, hL, h2, h3⟩, st⟩ | ⟨q, vm₁, ⟨U', l2, c2, s2⟩, hW₁, X', ⟨g', mk, t, L, E, ce, e1, e2, hq, hce, hcv, hcl, h1, hL, h2, h3⟩, st⟩
  · dsimp only [Pt.U, Pt.locs, Pt.cells, Pt.slots] at X' e1 e2 h1 h2 h3 st
    subst h1; subst h2; subst h3
    exact Or.inl ⟨v, (T.setVm vm₁).calling g' mk (Value.ref b :: As).toArray, t, U', L, hT, X', hL, e1, e2, hq, st⟩
  · dsimp only [Pt.U, Pt.locs, Pt.cells, Pt.slots] at X' e1 e2 h1 h2 h3 st hcl
    subst h1; subst h2; subst h3
    exact Or.inr ⟨q, (T.setVm vm₁).calling g' mk (Value.ref b :: As).toArray, t, U', L, E, ce, hT, X', hL, e1, e2, hq, hce, hcv, vx_cls hW₁ hcl, st⟩
theorem vx_runS (S : CallFix p m c cc nL s args Ts own) (hM : vx_Met l y ws rm Pc Qc XC mc ms free) (cw : CallB R s args own index y bytes maxL ret ws rm mc ms n ∧ (Cond.static y).before args s = true) (hp : PreS s H Pc As)
    (hg : g.method = m) (hn : As.length = n) (hsize : g.locals.size = nL) (hstack : g.stack = As.reverse ++ rest) (hW : 2 * g.monitorRoom + (rest.map fun v => v.category).sum ≤ 8) (hdg : decode cc g.pc = .ok (.invokestatic index, 3)) (hf : cells + mc ≤ R.cells ∧ slots + ms ≤ R.slots) :
    vx_Run p l e R s m args below meth c H locs cells slots mc ms g rest (Qc As.toArray) XC free := by
  have hK : vx_Back l R p e below s args y 3 8 (PreOf R mc ms Pc) (PostOf Qc mc ms free) (vx_Post XC mc ms free) := vx_callBack cw.1 hM hp.1
  obtain ⟨⟨-, -, -, -, -, -, hcode, hini, hy, hlen, hl⟩, hstt⟩ := cw
  obtain ⟨hx, hb, hml, ho, -⟩ := S
  intro T hT X
  rcases vx_callS X hx (bytes := bytes) (maxL := maxL) (ret := ret) ho hl hstt hini hcode hy hK hg (hsize.trans hml.symm) (argsL := As) (rest := rest) (fun sig h => hn.trans (hlen sig h)) hstack hW (by rw [hb]; exact hdg)
    (fun vm₁ hW₁ => ⟨hf.1, hf.2, hp.2 (T.setVm vm₁) hT hW₁⟩) with ⟨v, vm₁, ⟨U', l2, c2, s2⟩, hW₁, X', ⟨g', mk, t, L, e1, e2, hq, h1, hL, h2, h3⟩, st⟩ | ⟨q, vm₁, ⟨U', l2, c2, s2⟩, hW₁, X', ⟨g', mk, t, L, E, ce, e1, e2, hq, hce, hcv, hcl, h1, hL, h2, h3⟩, st⟩
  · dsimp only [Pt.U, Pt.locs, Pt.cells, Pt.slots] at X' e1 e2 h1 h2 h3 st
    subst h1; subst h2; subst h3
    exact Or.inl ⟨v, (T.setVm vm₁).calling g' mk As.toArray, t, U', L, hT, X', hL, e1, e2, hq, st⟩
  · dsimp only [Pt.U, Pt.locs, Pt.cells, Pt.slots] at X' e1 e2 h1 h2 h3 st hcl
    subst h1; subst h2; subst h3
    exact Or.inr ⟨q, (T.setVm vm₁).calling g' mk As.toArray, t, U', L, E, ce, hT, X', hL, e1, e2, hq, hce, hcv, vx_cls hW₁ hcl, st⟩
end Runs
section Rows
variable {p : Program} {l : Launch} {e : Env} {R : Room} {s : State} {m : MethodId} {args : Array Value} {below : List Frame} {meth : Method} {c : Code} {H : Heap} {locs : List Loc} {cells slots : Nat} {Q : State → Prop}
variable {mc ms : Nat} {free : Addr → Prop} {A0 A1 : Nat → Prop} {H0 : Heap} {a : Array Value} {pc : Nat} {ls : Array Slot} {st0 rest : List Value}
theorem vx_keep {st₀ t T' : State} {L : List Loc} (h0 : st₀.heap = H) (e1 : T'.heap = t.heap) (hS : va_S A0 H0 H locs) (hA : ∀ q, q < H.size → A1 q → A0 q) (hf : ∀ q, free q → A0 q) (hL : ∀ q ∈ L, free q.base) (hF : va_F A1 st₀ t) :
    H.size ≤ T'.heap.size ∧ (∀ q : Nat, q < H.size → ¬ A1 q → T'.heap[q]? = H[q]?) ∧ va_S A0 H0 T'.heap (locs ++ L) := by
  obtain ⟨hz, hk⟩ := hF
  rw [h0] at hz hk
  exact ⟨by rw [e1]; exact hz, fun q h1 h2 => by rw [e1]; exact hk q h1 h2,
    ⟨Nat.le_trans hS.1 (by rw [e1]; exact hz), fun q h1 h2 => by rw [e1, hk q (Nat.lt_of_lt_of_le h1 hS.1) (fun z => h2 (hA q (Nat.lt_of_lt_of_le h1 hS.1) z))]; exact hS.2.1 q h1 h2, fun q hq => by
      rcases List.mem_append.mp hq with h | h
      · exact hS.2.2 q h
      · exact hf _ (hL q h)⟩⟩
theorem vx_calli {S SX : Type} {post : Int32 → S → Prop} {px : SX → Prop} {B : S → State → Prop} {BX : String → SX → State → Prop} {AX : Nat → Prop} (hr : vx_Run p l e R s m args below meth c H locs cells slots mc ms (F0 m pc ls st0) rest (va_Qi post B A1 a) (vx_X px BX AX) free) (hS : va_S A0 H0 H locs) (hA : ∀ q, q < H.size → A1 q → A0 q) (hf : ∀ q, free q → A0 q) (hAX : ∀ q, q < H.size → AX q → A0 q)
    (kx : ∀ (E : String) (ce : Cell) (q9 : Addr) (u : SX) (t : State) (H1 : Heap) (locs1 : List Loc), t.heap = H1 → s.vm.Alike t.vm → px u → BX E u t → H.size ≤ H1.size → (∀ q : Nat, q < H.size → ¬ AX q → H1[q]? = H[q]?) → va_S A0 H0 H1 locs1 → H1[q9]? = some ce → ce.vm = .none → s.vm.findClass E = some ce.cls → vx_W p l e R s m args below meth c H1 locs1 (cells + mc) (slots + ms) Q (F0 m pc ls rest) q9)
    (kk : ∀ (r : Int32) (u : S) (t : State) (H1 : Heap) (locs1 : List Loc), t.heap = H1 → s.vm.Alike t.vm → post r u → B u t → H.size ≤ H1.size → (∀ q : Nat, q < H.size → ¬ A1 q → H1[q]? = H[q]?) → va_S A0 H0 H1 locs1 → W p l e R s m args below meth c H1 locs1 (cells + mc) (slots + ms) Q (F0 m (pc + 3) ls (.int r :: rest))) : W p l e R s m args below meth c H locs cells slots Q (F0 m pc ls st0) := by
  intro T hT X
  rcases hr T hT X with ⟨v, st₀, t, T', L, h0, X', hL, e1, e2, ⟨⟨r, u, hv, hp, hb⟩, hF⟩, st⟩ | ⟨q, st₀, t, T', L, E, ce, h0, X', hL, e1, e2, ⟨u, hp, hb, hF⟩, hce, hcv, hcl, st⟩
  · cases hv
    obtain ⟨k1, k2, k3⟩ := vx_keep h0 e1 hS hA hf hL hF
    obtain ⟨t2, a1, b1⟩ := kk r u t T'.heap (locs ++ L) e1.symm (by rw [← e2]; exact X'.warmed.alike) hp hb k1 k2 k3 T' rfl X'
    exact ⟨t2, st t2 a1, b1⟩
  · obtain ⟨k1, k2, k3⟩ := vx_keep h0 e1 hS hAX hf hL hF
    obtain ⟨t2, a1, b1⟩ := kx E ce q u t T'.heap (locs ++ L) e1.symm (by rw [← e2]; exact X'.warmed.alike) hp hb k1 k2 k3 (by rw [e1]; exact hce) hcv hcl T' rfl X'
    exact ⟨t2, st.trans a1, b1⟩
theorem vx_calll {S SX : Type} {post : Int64 → S → Prop} {px : SX → Prop} {B : S → State → Prop} {BX : String → SX → State → Prop} {AX : Nat → Prop} (hr : vx_Run p l e R s m args below meth c H locs cells slots mc ms (F0 m pc ls st0) rest (va_Ql post B A1 a) (vx_X px BX AX) free) (hS : va_S A0 H0 H locs) (hA : ∀ q, q < H.size → A1 q → A0 q) (hf : ∀ q, free q → A0 q) (hAX : ∀ q, q < H.size → AX q → A0 q)
    (kx : ∀ (E : String) (ce : Cell) (q9 : Addr) (u : SX) (t : State) (H1 : Heap) (locs1 : List Loc), t.heap = H1 → s.vm.Alike t.vm → px u → BX E u t → H.size ≤ H1.size → (∀ q : Nat, q < H.size → ¬ AX q → H1[q]? = H[q]?) → va_S A0 H0 H1 locs1 → H1[q9]? = some ce → ce.vm = .none → s.vm.findClass E = some ce.cls → vx_W p l e R s m args below meth c H1 locs1 (cells + mc) (slots + ms) Q (F0 m pc ls rest) q9)
    (kk : ∀ (r : Int64) (u : S) (t : State) (H1 : Heap) (locs1 : List Loc), t.heap = H1 → s.vm.Alike t.vm → post r u → B u t → H.size ≤ H1.size → (∀ q : Nat, q < H.size → ¬ A1 q → H1[q]? = H[q]?) → va_S A0 H0 H1 locs1 → W p l e R s m args below meth c H1 locs1 (cells + mc) (slots + ms) Q (F0 m (pc + 3) ls (.long r :: rest))) : W p l e R s m args below meth c H locs cells slots Q (F0 m pc ls st0) := by
  intro T hT X
  rcases hr T hT X with ⟨v, st₀, t, T', L, h0, X', hL, e1, e2, ⟨⟨r, u, hv, hp, hb⟩, hF⟩, st⟩ | ⟨q, st₀, t, T', L, E, ce, h0, X', hL, e1, e2, ⟨u, hp, hb, hF⟩, hce, hcv, hcl, st⟩
  · cases hv
    obtain ⟨k1, k2, k3⟩ := vx_keep h0 e1 hS hA hf hL hF
    obtain ⟨t2, a1, b1⟩ := kk r u t T'.heap (locs ++ L) e1.symm (by rw [← e2]; exact X'.warmed.alike) hp hb k1 k2 k3 T' rfl X'
    exact ⟨t2, st t2 a1, b1⟩
  · obtain ⟨k1, k2, k3⟩ := vx_keep h0 e1 hS hAX hf hL hF
    obtain ⟨t2, a1, b1⟩ := kx E ce q u t T'.heap (locs ++ L) e1.symm (by rw [← e2]; exact X'.warmed.alike) hp hb k1 k2 k3 (by rw [e1]; exact hce) hcv hcl T' rfl X'
    exact ⟨t2, st.trans a1, b1⟩
theorem vx_callf {S SX : Type} {post : UInt32 → S → Prop} {px : SX → Prop} {B : S → State → Prop} {BX : String → SX → State → Prop} {AX : Nat → Prop} (hr : vx_Run p l e R s m args below meth c H locs cells slots mc ms (F0 m pc ls st0) rest (va_Qf post B A1 a) (vx_X px BX AX) free) (hS : va_S A0 H0 H locs) (hA : ∀ q, q < H.size → A1 q → A0 q) (hf : ∀ q, free q → A0 q) (hAX : ∀ q, q < H.size → AX q → A0 q)
    (kx : ∀ (E : String) (ce : Cell) (q9 : Addr) (u : SX) (t : State) (H1 : Heap) (locs1 : List Loc), t.heap = H1 → s.vm.Alike t.vm → px u → BX E u t → H.size ≤ H1.size → (∀ q : Nat, q < H.size → ¬ AX q → H1[q]? = H[q]?) → va_S A0 H0 H1 locs1 → H1[q9]? = some ce → ce.vm = .none → s.vm.findClass E = some ce.cls → vx_W p l e R s m args below meth c H1 locs1 (cells + mc) (slots + ms) Q (F0 m pc ls rest) q9)
    (kk : ∀ (r : UInt32) (u : S) (t : State) (H1 : Heap) (locs1 : List Loc), t.heap = H1 → s.vm.Alike t.vm → post r u → B u t → H.size ≤ H1.size → (∀ q : Nat, q < H.size → ¬ A1 q → H1[q]? = H[q]?) → va_S A0 H0 H1 locs1 → W p l e R s m args below meth c H1 locs1 (cells + mc) (slots + ms) Q (F0 m (pc + 3) ls (.float r :: rest))) : W p l e R s m args below meth c H locs cells slots Q (F0 m pc ls st0) := by
  intro T hT X
  rcases hr T hT X with ⟨v, st₀, t, T', L, h0, X', hL, e1, e2, ⟨⟨r, u, hv, hp, hb⟩, hF⟩, st⟩ | ⟨q, st₀, t, T', L, E, ce, h0, X', hL, e1, e2, ⟨u, hp, hb, hF⟩, hce, hcv, hcl, st⟩
  · cases hv
    obtain ⟨k1, k2, k3⟩ := vx_keep h0 e1 hS hA hf hL hF
    obtain ⟨t2, a1, b1⟩ := kk r u t T'.heap (locs ++ L) e1.symm (by rw [← e2]; exact X'.warmed.alike) hp hb k1 k2 k3 T' rfl X'
    exact ⟨t2, st t2 a1, b1⟩
  · obtain ⟨k1, k2, k3⟩ := vx_keep h0 e1 hS hAX hf hL hF
    obtain ⟨t2, a1, b1⟩ := kx E ce q u t T'.heap (locs ++ L) e1.symm (by rw [← e2]; exact X'.warmed.alike) hp hb k1 k2 k3 (by rw [e1]; exact hce) hcv hcl T' rfl X'
    exact ⟨t2, st.trans a1, b1⟩
theorem vx_calld {S SX : Type} {post : UInt64 → S → Prop} {px : SX → Prop} {B : S → State → Prop} {BX : String → SX → State → Prop} {AX : Nat → Prop} (hr : vx_Run p l e R s m args below meth c H locs cells slots mc ms (F0 m pc ls st0) rest (va_Qd post B A1 a) (vx_X px BX AX) free) (hS : va_S A0 H0 H locs) (hA : ∀ q, q < H.size → A1 q → A0 q) (hf : ∀ q, free q → A0 q) (hAX : ∀ q, q < H.size → AX q → A0 q)
    (kx : ∀ (E : String) (ce : Cell) (q9 : Addr) (u : SX) (t : State) (H1 : Heap) (locs1 : List Loc), t.heap = H1 → s.vm.Alike t.vm → px u → BX E u t → H.size ≤ H1.size → (∀ q : Nat, q < H.size → ¬ AX q → H1[q]? = H[q]?) → va_S A0 H0 H1 locs1 → H1[q9]? = some ce → ce.vm = .none → s.vm.findClass E = some ce.cls → vx_W p l e R s m args below meth c H1 locs1 (cells + mc) (slots + ms) Q (F0 m pc ls rest) q9)
    (kk : ∀ (r : UInt64) (u : S) (t : State) (H1 : Heap) (locs1 : List Loc), t.heap = H1 → s.vm.Alike t.vm → post r u → B u t → H.size ≤ H1.size → (∀ q : Nat, q < H.size → ¬ A1 q → H1[q]? = H[q]?) → va_S A0 H0 H1 locs1 → W p l e R s m args below meth c H1 locs1 (cells + mc) (slots + ms) Q (F0 m (pc + 3) ls (.double r :: rest))) : W p l e R s m args below meth c H locs cells slots Q (F0 m pc ls st0) := by
  intro T hT X
  rcases hr T hT X with ⟨v, st₀, t, T', L, h0, X', hL, e1, e2, ⟨⟨r, u, hv, hp, hb⟩, hF⟩, st⟩ | ⟨q, st₀, t, T', L, E, ce, h0, X', hL, e1, e2, ⟨u, hp, hb, hF⟩, hce, hcv, hcl, st⟩
  · cases hv
    obtain ⟨k1, k2, k3⟩ := vx_keep h0 e1 hS hA hf hL hF
    obtain ⟨t2, a1, b1⟩ := kk r u t T'.heap (locs ++ L) e1.symm (by rw [← e2]; exact X'.warmed.alike) hp hb k1 k2 k3 T' rfl X'
    exact ⟨t2, st t2 a1, b1⟩
  · obtain ⟨k1, k2, k3⟩ := vx_keep h0 e1 hS hAX hf hL hF
    obtain ⟨t2, a1, b1⟩ := kx E ce q u t T'.heap (locs ++ L) e1.symm (by rw [← e2]; exact X'.warmed.alike) hp hb k1 k2 k3 (by rw [e1]; exact hce) hcv hcl T' rfl X'
    exact ⟨t2, st.trans a1, b1⟩
theorem vx_callv {S SX : Type} {post : S → Prop} {px : SX → Prop} {B : S → State → Prop} {BX : String → SX → State → Prop} {AX : Nat → Prop} (hr : vx_Run p l e R s m args below meth c H locs cells slots mc ms (F0 m pc ls st0) rest (va_Qv post B A1 a) (vx_X px BX AX) free) (hS : va_S A0 H0 H locs) (hA : ∀ q, q < H.size → A1 q → A0 q) (hf : ∀ q, free q → A0 q) (hAX : ∀ q, q < H.size → AX q → A0 q)
    (kx : ∀ (E : String) (ce : Cell) (q9 : Addr) (u : SX) (t : State) (H1 : Heap) (locs1 : List Loc), t.heap = H1 → s.vm.Alike t.vm → px u → BX E u t → H.size ≤ H1.size → (∀ q : Nat, q < H.size → ¬ AX q → H1[q]? = H[q]?) → va_S A0 H0 H1 locs1 → H1[q9]? = some ce → ce.vm = .none → s.vm.findClass E = some ce.cls → vx_W p l e R s m args below meth c H1 locs1 (cells + mc) (slots + ms) Q (F0 m pc ls rest) q9)
    (kk : ∀ (u : S) (t : State) (H1 : Heap) (locs1 : List Loc), t.heap = H1 → s.vm.Alike t.vm → post u → B u t → H.size ≤ H1.size → (∀ q : Nat, q < H.size → ¬ A1 q → H1[q]? = H[q]?) → va_S A0 H0 H1 locs1 → W p l e R s m args below meth c H1 locs1 (cells + mc) (slots + ms) Q (F0 m (pc + 3) ls (rest))) : W p l e R s m args below meth c H locs cells slots Q (F0 m pc ls st0) := by
  intro T hT X
  rcases hr T hT X with ⟨v, st₀, t, T', L, h0, X', hL, e1, e2, ⟨⟨u, hv, hp, hb⟩, hF⟩, st⟩ | ⟨q, st₀, t, T', L, E, ce, h0, X', hL, e1, e2, ⟨u, hp, hb, hF⟩, hce, hcv, hcl, st⟩
  · cases hv
    obtain ⟨k1, k2, k3⟩ := vx_keep h0 e1 hS hA hf hL hF
    obtain ⟨t2, a1, b1⟩ := kk u t T'.heap (locs ++ L) e1.symm (by rw [← e2]; exact X'.warmed.alike) hp hb k1 k2 k3 T' rfl X'
    exact ⟨t2, st t2 a1, b1⟩
  · obtain ⟨k1, k2, k3⟩ := vx_keep h0 e1 hS hAX hf hL hF
    obtain ⟨t2, a1, b1⟩ := kx E ce q u t T'.heap (locs ++ L) e1.symm (by rw [← e2]; exact X'.warmed.alike) hp hb k1 k2 k3 (by rw [e1]; exact hce) hcv hcl T' rfl X'
    exact ⟨t2, st.trans a1, b1⟩
/-- caught by the row x of this method's table; the rows ahead don't take it -/
theorem vx_catch {own name : String} {E : String} {ce : Cell} {q : Addr} (hown : s.vm.findClass own = some m.cls) (pre : List ExceptionTableEntry) (x : ExceptionTableEntry) (suf : List ExceptionTableEntry) (hsplit : c.exceptionTable.toList = pre ++ x :: suf)
    (hpass : ∀ z ∈ pre, covers z pc = false ∨ (z.catchType ≠ 0 ∧ ∃ nm : String, (Cond.classLink own z.catchType nm).before args s = true ∧ va_Nc E nm s)) (hx : covers x pc = true) (h0 : x.catchType ≠ 0)
    (hlink : (Cond.classLink own x.catchType name).before args s = true) (hcast : (Cond.castable E name).before args s = true) (hcell : H[q]? = some ce) (hv : ce.vm = .none) (hcl : s.vm.findClass E = some ce.cls)
    (kk : W p l e R s m args below meth c H locs cells slots Q (F0 m x.handlerPc ls [.ref q])) : vx_W p l e R s m args below meth c H locs cells slots Q (F0 m pc ls rest) q := by
  intro T hT X
  have hpl : e.platform.magicAccessors = ({} : Platform).magicAccessors := by rw [X.admits.platform]
  obtain ⟨c3, c4, hc3, hc4, hasg⟩ := Cond.castable_spec hcast
  cases Option.some.inj (hc3.symm.trans hcl)
  obtain ⟨c5, hc5, hcl5⟩ := Cond.classLink_spec hown hlink e.platform hpl
  cases Option.some.inj (hc4.symm.trans hc5)
  obtain ⟨vm', X', st⟩ := X.thenCaughtThrough q (g := F0 m pc ls rest) rfl (Steps.refl _) (by rw [hT]; exact hcell) (by rw [hv]; rfl) (by obtain ⟨k9, h9, -⟩ := Vm.findClass_spec hcl; exact ⟨k9, h9⟩) pre x suf hsplit
    (fun z hz => by
      rcases hpass z hz with h | ⟨hz0, nm, hl1, hn1⟩
      · exact Or.inl h
      · obtain ⟨c6, hc6, hcl6⟩ := Cond.classLink_spec hown hl1 e.platform hpl
        obtain ⟨a8, b8, h1, h2, h3⟩ := hn1
        cases Option.some.inj (h1.symm.trans hcl)
        cases Option.some.inj (h2.symm.trans hc6)
        exact Or.inr ⟨hz0, _, hcl6, h3⟩) hx (Or.inr ⟨h0, c4, hcl5, hasg⟩)
  obtain ⟨t, a1, b1⟩ := kk (T.setVm vm') hT X'
  exact ⟨t, st.trans a1, b1⟩
end Rows
section Ends
variable {p : Program} {l : Launch} {e : Env} {R : Room} {s : State} {m : MethodId} {args : Array Value} {below : List Frame} {meth : Method} {c : Code} {H : Heap} {locs : List Loc} {cells slots : Nat} {Q : State → Prop}
variable {mc ms : Nat} {free : Addr → Prop} {A0 A1 : Nat → Prop} {H0 : Heap} {a : Array Value} {ls : Array Slot} {st0 rest : List Value}
variable {Qc : Array Value → State → Outcome → State → Prop} {XC : String → State → State → Prop}
/-- what a body that may throw owes at its end -/
def vx_MQ (below : List Frame) (Qc : Array Value → State → Outcome → State → Prop) (XC : String → State → State → Prop) (a : Array Value) (s : State) (mc ms : Nat) (free : Addr → Prop) : State → Prop := fun t =>
  ∃ o, t.status = .running ∧ Ended t below o ∧ vx_Q Qc XC mc ms free a s o t
theorem vx_ret {g : JFrame} {mc ms : Nat} (k : W p l e R s m args below meth c H locs cells slots (MQ below Qc args s mc ms free) g) : W p l e R s m args below meth c H locs cells slots (vx_MQ below Qc XC args s mc ms free) g := by
  intro T hT X
  obtain ⟨t, a1, o, b1, b2, b3, b4⟩ := k T hT X
  exact ⟨t, a1, o, b1, b2, Or.inl ⟨b3, b4⟩⟩
/-- not caught here: it goes on to the caller -/
theorem vx_widen {g : JFrame} {q : Addr} {k n : Nat} (h1 : cells ≤ k) (h2 : slots ≤ n) (kk : vx_W p l e R s m args below meth c H locs k n Q g q) : vx_W p l e R s m args below meth c H locs cells slots Q g q := fun T hT X => kk T hT (stand_widen X h1 h2)
theorem vx_out {pc : Nat} {E : String} {ce : Cell} {q : Addr} {mc ms : Nat} (hout : ∀ x ∈ c.exceptionTable.toList, covers x pc = false) (hlocks : meth.locks = false) (hcell : H[q]? = some ce) (hv : ce.vm = .none) (hcl : s.vm.findClass E = some ce.cls)
    (hx : ∀ t : State, t.heap = H → s.vm.Alike t.vm → XC E s t) (hf : ∀ z ∈ locs, free z.base) (hc : cells ≤ mc) (hs : slots ≤ ms) :
    vx_W p l e R s m args below meth c H locs cells slots (vx_MQ below Qc XC args s mc ms free) (F0 m pc ls rest) q := by
  intro T hT X
  obtain ⟨st1, hrun, hend, hW, hsm⟩ := X.leaveThrown q (g := F0 m pc ls rest) rfl rfl rfl hout hlocks
  have hcell9 : (T.setFrames (.throwing q :: below)).heap[q]? = some ce := by
    show T.heap[q]? = some ce
    rw [hT]; exact hcell
  exact ⟨_, st1, .threw q, hrun, hend, Or.inr ⟨q, rfl, E, ce, locs, hx _ hT hW.alike, hcell9, hv, hcl, hW, hsm.mono hc hs, hf⟩⟩
theorem vx_frame {U : State} {k n : Nat} (h : s.sameButNew ({ U with vm := s.vm } : State) locs k n) : s.heap.size ≤ U.heap.size ∧ ∀ q : Nat, q < s.heap.size → (∀ z ∈ locs, z.base ≠ q) → U.heap[q]? = s.heap[q]? := by
  obtain ⟨-, h2, -, -, -, h6⟩ := h
  refine ⟨h2, fun q hq hz => ?_⟩
  obtain ⟨c9, e1, e2, e3, e4⟩ := h6 q _ (Array.getElem?_eq_getElem hq)
  have hs : c9.slots = (s.heap[q]).slots := Array.ext_getElem? fun i => e4 i fun hm => hz _ hm rfl
  have h9 : c9 = s.heap[q] := by
    rw [hs] at e2
    exact e2
  have e5 : U.heap[q]? = some c9 := e1
  rw [e5, h9, Array.getElem?_eq_getElem hq]
/-- the words of a throw but the four that speak of the heap -/
def vx_no (w : Cond) : Bool := decide (w ≠ .isRef (.static Bundle.tN "UNASSIGNED_STACK" Bundle.steD)) && decide (w ≠ .isRef (.static Bundle.tN "SUPPRESSED_SENTINEL" Bundle.listD)) && decide (w ≠ .laysStatic Bundle.tN "UNASSIGNED_STACK" Bundle.steD) && decide (w ≠ .laysStatic Bundle.tN "SUPPRESSED_SENTINEL" Bundle.listD)
def vx_at0 (own : String) (ic : Nat) (X : String) (names : List String) : List Cond := (Bundle.ownAtoms0 own ic X names).filter vx_no
def vx_atS (own : String) (ic : Nat) (X : String) (names : List String) : List Cond := (Bundle.ownAtoms own ic X names).filter vx_no
/-- a word that the tables alone decide, or a good one -/
def vx_ot (w : Cond) : Bool := w.onTables || goodWord w
theorem vx_ot_at {args a' : Array Value} {s U : State} {w : Cond} (hW : s.WarmedH U.vm) (hvm : s.vm = U.vm) (hg : vx_ot w = true) (h : w.before args s = true) : w.before a' U = true := by
  simp only [vx_ot, Bool.or_eq_true] at hg
  rcases hg with hg | hg
  · exact va_tabs hg hvm h
  · exact word_at hW (good_of_word hg) h
/-- a list's words: the good ones out of the method's own list, the others by premises of their own -/
theorem vx_hat {args : Array Value} {s : State} {L B : List Cond} (h1 : ∀ w ∈ L.filter goodWord, w.before args s = true) (h2 : ∀ w ∈ L.filter (fun w => !goodWord w), w ∈ B) (h3 : ∀ w ∈ B, w.before args s = true) : ∀ w ∈ L, w.before args s = true := by
  intro w hw
  by_cases g : goodWord w = true
  · exact h1 w (List.mem_filter.mpr ⟨hw, g⟩)
  · refine h3 w (h2 w (List.mem_filter.mpr ⟨hw, ?_⟩))
    show (!goodWord w) = true
    cases hgw : goodWord w
    · rfl
    · exact absurd hgw g
theorem vx_c {args : Array Value} {s : State} {w : Cond} {B : List Cond} (h : w.before args s = true) (t : ∀ w ∈ B, w.before args s = true) : ∀ w' ∈ w :: B, w'.before args s = true := fun w' h' => (List.mem_cons.mp h').elim (fun e => by rw [e]; exact h) (t w')
theorem vx_n {args : Array Value} {s : State} : ∀ w ∈ ([] : List Cond), w.before args s = true := fun _ h => nomatch h
theorem vx_own {args : Array Value} {s : State} {L : List Cond} (h1 : ∀ w ∈ L.filter vx_no, w.before args s = true)
    (hU : (Cond.isRef (.static Bundle.tN "UNASSIGNED_STACK" Bundle.steD)).before args s = true) (hN : (Cond.isRef (.static Bundle.tN "SUPPRESSED_SENTINEL" Bundle.listD)).before args s = true)
    (lU : (Cond.laysStatic Bundle.tN "UNASSIGNED_STACK" Bundle.steD).before args s = true) (lN : (Cond.laysStatic Bundle.tN "SUPPRESSED_SENTINEL" Bundle.listD).before args s = true) : ∀ w ∈ L, w.before args s = true := by
  intro w hw
  by_cases e1 : w = .isRef (.static Bundle.tN "UNASSIGNED_STACK" Bundle.steD)
  · rw [e1]; exact hU
  · by_cases e2 : w = .isRef (.static Bundle.tN "SUPPRESSED_SENTINEL" Bundle.listD)
    · rw [e2]; exact hN
    · by_cases e3 : w = .laysStatic Bundle.tN "UNASSIGNED_STACK" Bundle.steD
      · rw [e3]; exact lU
      · by_cases e4 : w = .laysStatic Bundle.tN "SUPPRESSED_SENTINEL" Bundle.listD
        · rw [e4]; exact lN
        · exact h1 w (List.mem_filter.mpr ⟨hw, by unfold vx_no; rw [decide_eq_true e1, decide_eq_true e2, decide_eq_true e3, decide_eq_true e4]; rfl⟩)
/-- where a static field lies, its class's statics cell in H -/
def vx_L (C n d : String) (A : Nat → Prop) (U : State) (H : Heap) : Prop := ∃ (c : ClassId) (k : Class) (i : Nat) (f : Field) (a : Nat) (cell : Cell), U.vm.findClass C = some c ∧ U.fieldFound? C n d = some (c, k, i, f) ∧ f.isStatic = true ∧ k.statics = some a ∧ H[a]? = some cell ∧ cell.vm.isStatics = true ∧ cell.cls = c ∧ f.slot < cell.slots.size ∧ k.staticTypes[f.slot]? = some f.type ∧ ¬ A a
theorem vx_L.moved {C n d : String} {A : Nat → Prop} {u U : State} {H : Heap} (hvm : u.vm.Alike U.vm) (h : vx_L C n d A u H) : vx_L C n d A U H := by
  obtain ⟨c, k, i, f, a, cell, h1, h2, h3, h4, h5, h6, h7, h8, h9, h10⟩ := h
  obtain ⟨k', hi', he⟩ := State.fieldFound?_setVm hvm h2
  exact ⟨c, k', i, f, a, cell, by rw [hvm.findClass]; exact h1, hi', h3, by rw [he]; exact h4, h5, h6, h7, h8, by rw [he]; exact h9, h10⟩
theorem vx_L.kept {C n d : String} {A : Nat → Prop} {U : State} {H H1 : Heap} (h : vx_L C n d A U H) (hq : ∀ a : Nat, a < H.size → ¬ A a → H1[a]? = H[a]?) : vx_L C n d A U H1 := by
  obtain ⟨c, k, i, f, a, cell, h1, h2, h3, h4, h5, h6, h7, h8, h9, h10⟩ := h
  exact ⟨c, k, i, f, a, cell, h1, h2, h3, h4, by rw [hq a (Array.getElem?_eq_some_iff.mp h5).1 h10]; exact h5, h6, h7, h8, h9, h10⟩
theorem vx_L.narrow {C n d : String} {A B : Nat → Prop} {U : State} {H : Heap} (h : vx_L C n d A U H) (hAB : ∀ q, B q → A q) : vx_L C n d B U H := by
  obtain ⟨c, k, i, f, a, cell, h1, h2, h3, h4, h5, h6, h7, h8, h9, h10⟩ := h
  exact ⟨c, k, i, f, a, cell, h1, h2, h3, h4, h5, h6, h7, h8, h9, fun z => h10 (hAB _ z)⟩
theorem vx_L.word {C n d : String} {A : Nat → Prop} {s : State} {args : Array Value} (h : vx_L C n d A s s.heap) : (Cond.laysStatic C n d).before args s = true := by
  obtain ⟨c, k, i, f, a, cell, h1, h2, h3, h4, h5, h6, h7, h8, h9, -⟩ := h
  show (Cond.laysStatic C n d).holds args s none s [] = true
  exact Cond.laysStatic_of h1 h2 h3 h4 h5 h6 h7 h8 h9
/-- .. and what it holds: null or some reference -/
def vx_Zq (C n d : String) (A : Nat → Prop) (U : State) (H : Heap) : Prop := va_Zq C n d A U H ∧ vx_L C n d A U H
theorem vx_Zq.moved {C n d : String} {A : Nat → Prop} {u U : State} {H : Heap} (hvm : u.vm.Alike U.vm) (h : vx_Zq C n d A u H) : vx_Zq C n d A U H := ⟨va_Zq.moved hvm h.1, vx_L.moved hvm h.2⟩
theorem vx_Zq.kept {C n d : String} {A : Nat → Prop} {U : State} {H H1 : Heap} (h : vx_Zq C n d A U H) (hq : ∀ a : Nat, a < H.size → ¬ A a → H1[a]? = H[a]?) : vx_Zq C n d A U H1 := ⟨va_Zq.kept h.1 hq, vx_L.kept h.2 hq⟩
theorem vx_Zq.narrow {C n d : String} {A B : Nat → Prop} {U : State} {H : Heap} (h : vx_Zq C n d A U H) (hAB : ∀ q, B q → A q) : vx_Zq C n d B U H := ⟨va_Zq.narrow h.1 hAB, vx_L.narrow h.2 hAB⟩
theorem vx_Zqof {args : Array Value} {s : State} {C n d : String} {A : Nat → Prop} (hl : (Cond.laysStatic C n d).before args s = true) (hini : (Cond.initialized C).before args s = true) (h : (Cond.isRef (.static C n d)).before args s = true) (hA : ∀ a : Nat, a < s.heap.size → ¬ A a) : vx_Zq C n d A s s.heap := by
  refine ⟨va_Zqof hl hini h hA, ?_⟩
  obtain ⟨c, k, i, f, a, cell, h1, h2, h3, h4, h5, h6, h7, h8, h9⟩ := Cond.laysStatic_spec hl
  exact ⟨c, k, i, f, a, cell, h1, h2, h3, h4, h5, h6, h7, h8, h9, hA a (Array.getElem?_eq_some_iff.mp h5).1⟩
theorem vx_isRef {C n d : String} {v : Value} {A : Nat → Prop} {s : State} {args : Array Value} (h : va_Z C n d v A s s.heap) (hv : v.isRef = true) : (Cond.isRef (.static C n d)).before args s = true := by
  obtain ⟨cf, kf, fi, f, a, cell, h1, h2, h3, h4, h5, h6, h7, -⟩ := h
  have he : (Term.static C n d).eval args s none [] s = some v := by
    simp [Term.eval, State.fieldNamed?, h1, h2, h4, h5, h6, h7]
  simp only [Cond.before, Cond.holds, Cond.value, he]
  cases v <;> simp_all [Value.isRef]
theorem vx_isRefq {C n d : String} {A : Nat → Prop} {s : State} {args : Array Value} (h : va_Zq C n d A s s.heap) : (Cond.isRef (.static C n d)).before args s = true := by
  rcases h with h | ⟨t, h⟩
  · exact vx_isRef h rfl
  · exact vx_isRef h rfl
/-- the same frame, seen from here: as if the method were called anew in this heap -/
theorem vx_rebase {T : State} (X : Stand p l e R s m args below meth c T locs cells slots) {R' : Room} (hf : R'.frames ≤ R.frames) (hl : R'.locals ≤ R.locals) (hc : cells + R'.cells ≤ R.cells) (hs : slots + R'.slots ≤ R.slots) :
    Stand p l e R' ((T.setVm s.vm).setFrames (.invoking m args :: below)) m args below meth c T [] 0 0 := by
  have htop : (T.setVm s.vm).topJava?.isSome := X.here.top
  have hF : ((T.setVm s.vm).setFrames (.invoking m args :: below)).frames = .invoking m args :: below := State.frames_setFrames _ (State.cur_lt_of_top htop)
  obtain ⟨g₀, hg0⟩ := Option.isSome_iff_exists.mp htop
  obtain ⟨r, hr⟩ := State.topJava?_eq_some.mp hg0
  have hl9 : e.platform.stackLimits (T.setVm s.vm).me = e.platform.stackLimits s.me := X.limits
  have hb9 : (T.setVm s.vm).me.stackBytes = s.me.stackBytes := X.bytes
  refine ⟨X.admits, X.cas, X.clock, hF, ?_, X.hears, X.method, X.code, X.here, X.tail, X.warmed, ?_, ?_, ?_⟩
  · have h := X.room
    have hU : ((T.setVm s.vm).setFrames (.invoking m args :: below)).localsInUse = s.localsInUse := by
      rw [State.localsInUse_invoking hF (meth := meth) (c := c) X.method X.code, State.localsInUse_invoking X.frames X.method X.code]
    simp only [State.hasRoom, Bool.and_eq_true, decide_eq_true_eq] at h ⊢
    obtain ⟨⟨⟨⟨h1, h2, h3, h4, h5, h6⟩, h7⟩, h8⟩, h9⟩ := h
    rw [X.frames, List.length_cons] at h2 h3
    have q1 := X.heapSize
    have q2 := X.used
    simp only [hF, hU, List.length_cons, State.stackLimits_setFrames, State.stackBytes_setFrames, hl9, hb9]
    refine ⟨⟨⟨⟨by omega, by omega, by omega, by omega, by omega, h6⟩, ?_⟩, ?_⟩, X.book⟩
    · show T.heap.size + R'.cells ≤ e.platform.maxCells
      omega
    · show T.slotsUsed + R'.slots ≤ e.platform.maxSlots
      omega
  · rw [State.stackLimits_setFrames]; rfl
  · rw [State.stackBytes_setFrames]; rfl
  · refine ⟨?_, Nat.le_refl _, Nat.le_refl _, ?_, ?_, fun a c9 h9 => ⟨c9, h9, rfl, rfl, fun _ _ => rfl⟩⟩
    · obtain ⟨t, ht, -⟩ := State.frames_cons hr
      show T.setVm s.vm = { ((T.setVm s.vm).setFrames (.invoking m args :: below)).setFrames (T.setVm s.vm).frames with heap := T.heap, slotsUsed := T.slotsUsed }
      rw [State.setFrames_setFrames, State.setFrames_self ht]
      rfl
    · show T.slotsUsed = T.slotsUsed + ((T.heap.toList.drop T.heap.size).map (·.slots.size)).sum
      rw [List.drop_eq_nil_of_le (Nat.le_of_eq Array.length_toList)]
      rfl
    · show ((T.heap.toList.drop T.heap.size).map (·.slots.size)).sum ≤ 0
      rw [List.drop_eq_nil_of_le (Nat.le_of_eq Array.length_toList)]
      exact Nat.le_refl _
/-- 'throw new E()': new; dup; invokespecial; athrow -/
theorem vx_throw0 {cc : ByteArray} {pc : Nat} (hexec : p.tables.exec = Jvm.exec) (hb : c.code = cc) (hl : l.stackTraces = false) {own cls : String} {names : List String} {ik ic mc ms : Nat} {A : Nat → Prop}
    (hown : s.vm.findClass own = some m.cls) (hcls : Bundle.fit cls = true) (hnames : ∀ n ∈ names, Bundle.fit n = true)
    (hk : (Cond.classLink own ik cls).before args s = true) (hini : (Cond.initialized cls).before args s = true) (hat : ∀ w ∈ vx_at0 own ic cls names, w.before args s = true)
    (hgood : ∀ w ∈ Cond.classLink own ik cls :: Cond.initialized cls :: vx_at0 own ic cls names, vx_ot w = true)
    (hU : vx_Zq Bundle.tN "UNASSIGNED_STACK" Bundle.steD A s s.heap) (hN : vx_Zq Bundle.tN "SUPPRESSED_SENTINEL" Bundle.listD A s s.heap) (hS : va_S A s.heap H locs) (hsize : ls.size = c.maxLocals)
    (d0 : decode cc pc = .ok (.new ik, 3)) (d3 : decode cc (pc + 3) = .ok (.dup, 1)) (d4 : decode cc (pc + 4) = .ok (.invokespecial ic, 3)) (d7 : decode cc (pc + 7) = .ok (.athrow, 1))
    (hout : ∀ x ∈ c.exceptionTable.toList, covers x (pc + 7) = false)
    (hRframes : names.length + 3 < R.frames) (hRlocals : (rest.map fun v => v.category).sum + (13 * (names.length + 1) + 42) ≤ R.locals) (hRcells : cells + 1 ≤ R.cells) (hRslots : slots + 6 ≤ R.slots) (hlocks : meth.locks = false)
    (hx : ∀ t : State, s.vm.Alike t.vm → H.size ≤ t.heap.size → (∀ q : Nat, q < H.size → t.heap[q]? = H[q]?) → XC cls s t)
    (hf : ∀ z ∈ locs, free z.base) (hc : cells + 1 ≤ mc) (hs : slots + 6 ≤ ms) :
    W p l e R s m args below meth c H locs cells slots (vx_MQ below Qc XC args s mc ms free) (F0 m pc ls rest) := by
  intro T hT X
  have htr : e.platform.stackTraces = false := (show e.platform.stackTraces = l.stackTraces by rw [X.admits.platform]).trans hl
  have Y := vx_rebase X (R' := { frames := R.frames, locals := R.locals, cells := 1, slots := 6 }) (Nat.le_refl _) (Nat.le_refl _) hRcells hRslots
  obtain ⟨s', hA⟩ : ∃ z, z = (T.setVm s.vm).setFrames (.invoking m args :: below) := ⟨_, rfl⟩
  rw [← hA] at Y
  have hvm : s'.vm = s.vm := by rw [hA]; rfl
  have hhp : s'.heap = H := by rw [hA]; exact hT
  have hW0 : s.WarmedH s'.vm := by rw [hvm]; exact State.WarmedH.refl s
  have hat' : ∀ w ∈ vx_at0 own ic cls names, w.before args s' = true := fun w hw => vx_ot_at hW0 hvm.symm (hgood w (List.mem_cons_of_mem _ (List.mem_cons_of_mem _ hw))) (hat w hw)
  have hk' : (Cond.classLink own ik cls).before args s' = true := vx_ot_at hW0 hvm.symm (hgood _ List.mem_cons_self) hk
  have hini' : (Cond.initialized cls).before args s' = true := vx_ot_at hW0 hvm.symm (hgood _ (List.mem_cons_of_mem _ List.mem_cons_self)) hini
  have hU' : vx_Zq Bundle.tN "UNASSIGNED_STACK" Bundle.steD A s' s'.heap := by rw [hhp]; exact vx_Zq.moved hW0.alike (hU.kept hS.2.1)
  have hN' : vx_Zq Bundle.tN "SUPPRESSED_SENTINEL" Bundle.listD A s' s'.heap := by rw [hhp]; exact vx_Zq.moved hW0.alike (hN.kept hS.2.1)
  have h : ∀ w ∈ Bundle.ownAtoms0 own ic cls names, w.before args s' = true := vx_own hat' (vx_isRefq hU'.1) (vx_isRefq hN'.1) hU'.2.word hN'.2.word
  have hown' : s'.vm.findClass own = some m.cls := by rw [hvm]; exact hown
  have hins : (Cond.instantiable cls 6).before args s' = true := h _ (by simp [Bundle.ownAtoms0])
  obtain ⟨vm₁, cX, kX, hfX, hkX, -, -, X₁, st1⟩ := Y.newCold hexec (own := own) (C := cls) (index := ik) (n := 6) hown' hk' hins hini'
    (g := F0 m pc ls rest) rfl (by rw [hb]; exact d0) (Nat.le_refl _) (Nat.le_refl _)
  generalize hT1 : (T.setVm vm₁).pushCell { cls := cX, slots := kX.instanceTypes.map defaultValue, vm := .none } = T1 at X₁ st1
  have hcat : (Value.ref T.heap.size).category = 1 := rfl
  have hcellA : T1.heap[T.heap.size]? = some (freshCell cX kX) := by rw [← hT1]; exact State.heap_pushCell_size _ _
  have d3' : decode c.code (pc + 3) = .ok (.dup, 1) := by rw [hb]; exact d3
  obtain ⟨U, hsteps, hrun, hend, hW, hsame, ce, hce, hO⟩ := X₁.ctorThrow0 hexec htr (own := own) (cls := cls) (names := names) (ic := ic) hown' hcls hnames h (fun x hx => nomatch hx) hfX hkX hcellA (by rw [hhp, hT]; exact Nat.le_refl _)
    (g := { method := m, pc := pc + 4, locals := ls, stack := .ref T.heap.size :: .ref T.heap.size :: rest, locked := none }) rfl hsize rfl rfl (rest := rest) rfl
    (by rw [hb]; exact d4) (by rw [hb]; exact d7) hout hRframes (by simp only [List.map_cons, List.sum_cons, hcat]; omega) hlocks
  obtain ⟨f1, f2⟩ := vx_frame hsame
  rw [hhp] at f1 f2
  have hWs : s.WarmedH U.vm := State.WarmedH.trans hW0 hW
  have hcl : s.vm.findClass cls = some ce.cls := by
    have h9 := hO.cls
    rw [hvm] at h9
    exact h9
  have hall : s.sameButNew ({ U with vm := s.vm } : State) locs mc ms := by
    subst hA
    obtain ⟨e1, e2⟩ := hsame
    rw [State.setFrames_setFrames] at e1
    have h2 : (T.setVm s.vm).sameButNew ({ U with vm := s.vm } : State) [] (0 + 1) (0 + 6) := ⟨e1, e2⟩
    have h3 := X.same.trans h2
    rw [List.append_nil] at h3
    exact h3.mono hc hs
  refine ⟨U, ?_, .threw T.heap.size, hrun, hend, Or.inr ⟨T.heap.size, rfl, cls, ce, locs, hx U hWs.alike f1 (fun q hq => f2 q hq (fun z hz => nomatch hz)), hce, hO.vm, hcl, hWs, hall, hf⟩⟩
  refine st1 _ ?_
  show Steps p.tables e below (T1.setTop { method := m, pc := pc + 3, locals := ls, stack := .ref T.heap.size :: rest, locked := none }) _
  jvm_step X₁.here [X₁.here.top, hexec, d3', Value.category]
  exact hsteps
/-- 'throw new E("text")': new; dup; ldc; invokespecial; athrow -/
theorem vx_throwS {cc : ByteArray} {pc : Nat} (hexec : p.tables.exec = Jvm.exec) (hb : c.code = cc) (hl : l.stackTraces = false) {own cls text : String} {names : List String} {ik is ic mc ms sa : Nat} {A : Nat → Prop}
    (hown : s.vm.findClass own = some m.cls) (hcls : Bundle.fit cls = true) (hnames : ∀ n ∈ names, Bundle.fit n = true)
    (hk : (Cond.classLink own ik cls).before args s = true) (hini : (Cond.initialized cls).before args s = true) (hstr : vk_R own is text sa s) (hat : ∀ w ∈ vx_atS own ic cls names, w.before args s = true)
    (hgood : ∀ w ∈ Cond.classLink own ik cls :: Cond.initialized cls :: vx_atS own ic cls names, vx_ot w = true)
    (hU : vx_Zq Bundle.tN "UNASSIGNED_STACK" Bundle.steD A s s.heap) (hN : vx_Zq Bundle.tN "SUPPRESSED_SENTINEL" Bundle.listD A s s.heap) (hS : va_S A s.heap H locs) (hsize : ls.size = c.maxLocals)
    (d0 : decode cc pc = .ok (.new ik, 3)) (d3 : decode cc (pc + 3) = .ok (.dup, 1)) (d4 : decode cc (pc + 4) = .ok (.ldc is, 2)) (d6 : decode cc (pc + 6) = .ok (.invokespecial ic, 3)) (d9 : decode cc (pc + 9) = .ok (.athrow, 1))
    (hout : ∀ x ∈ c.exceptionTable.toList, covers x (pc + 9) = false)
    (hRframes : names.length + 3 < R.frames) (hRlocals : (rest.map fun v => v.category).sum + (13 * (names.length + 1) + 43) ≤ R.locals) (hRcells : cells + 1 ≤ R.cells) (hRslots : slots + 6 ≤ R.slots) (hlocks : meth.locks = false)
    (hx : ∀ t : State, s.vm.Alike t.vm → H.size ≤ t.heap.size → (∀ q : Nat, q < H.size → t.heap[q]? = H[q]?) → XC cls s t)
    (hf : ∀ z ∈ locs, free z.base) (hc : cells + 1 ≤ mc) (hs : slots + 6 ≤ ms) :
    W p l e R s m args below meth c H locs cells slots (vx_MQ below Qc XC args s mc ms free) (F0 m pc ls rest) := by
  intro T hT X
  have htr : e.platform.stackTraces = false := (show e.platform.stackTraces = l.stackTraces by rw [X.admits.platform]).trans hl
  have Y := vx_rebase X (R' := { frames := R.frames, locals := R.locals, cells := 1, slots := 6 }) (Nat.le_refl _) (Nat.le_refl _) hRcells hRslots
  obtain ⟨s', hA⟩ : ∃ z, z = (T.setVm s.vm).setFrames (.invoking m args :: below) := ⟨_, rfl⟩
  rw [← hA] at Y
  have hvm : s'.vm = s.vm := by rw [hA]; rfl
  have hhp : s'.heap = H := by rw [hA]; exact hT
  have hW0 : s.WarmedH s'.vm := by rw [hvm]; exact State.WarmedH.refl s
  have hat' : ∀ w ∈ vx_atS own ic cls names, w.before args s' = true := fun w hw => vx_ot_at hW0 hvm.symm (hgood w (List.mem_cons_of_mem _ (List.mem_cons_of_mem _ hw))) (hat w hw)
  have hk' : (Cond.classLink own ik cls).before args s' = true := vx_ot_at hW0 hvm.symm (hgood _ List.mem_cons_self) hk
  have hini' : (Cond.initialized cls).before args s' = true := vx_ot_at hW0 hvm.symm (hgood _ (List.mem_cons_of_mem _ List.mem_cons_self)) hini
  have hU' : vx_Zq Bundle.tN "UNASSIGNED_STACK" Bundle.steD A s' s'.heap := by rw [hhp]; exact vx_Zq.moved hW0.alike (hU.kept hS.2.1)
  have hN' : vx_Zq Bundle.tN "SUPPRESSED_SENTINEL" Bundle.listD A s' s'.heap := by rw [hhp]; exact vx_Zq.moved hW0.alike (hN.kept hS.2.1)
  have h : ∀ w ∈ Bundle.ownAtoms own ic cls names, w.before args s' = true := vx_own hat' (vx_isRefq hU'.1) (vx_isRefq hN'.1) hU'.2.word hN'.2.word
  have hown' : s'.vm.findClass own = some m.cls := by rw [hvm]; exact hown
  have hins : (Cond.instantiable cls 6).before args s' = true := h _ (by simp [Bundle.ownAtoms])
  obtain ⟨vm₁, cX, kX, hfX, hkX, -, -, X₁, st1⟩ := Y.newCold hexec (own := own) (C := cls) (index := ik) (n := 6) hown' hk' hins hini'
    (g := F0 m pc ls rest) rfl (by rw [hb]; exact d0) (Nat.le_refl _) (Nat.le_refl _)
  generalize hT1 : (T.setVm vm₁).pushCell { cls := cX, slots := kX.instanceTypes.map defaultValue, vm := .none } = T1 at X₁ st1
  have hcat : (Value.ref T.heap.size).category = 1 := rfl
  have hcellA : T1.heap[T.heap.size]? = some (freshCell cX kX) := by rw [← hT1]; exact State.heap_pushCell_size _ _
  have d3' : decode c.code (pc + 3) = .ok (.dup, 1) := by rw [hb]; exact d3
  have d4' : decode c.code (pc + 4) = .ok (.ldc is, 2) := by rw [hb]; exact d4
  have hstr' : vk_R own is text sa s' := vk_R.warm hW0 hstr
  obtain ⟨U, hsteps, hrun, hend, hW, hsame, ce, hce, hO⟩ := X₁.ctorThrowS hexec htr (own := own) (cls := cls) (names := names) (ic := ic) hown' hcls hnames h (fun x hx => nomatch hx) hfX hkX hcellA (by rw [hhp, hT]; exact Nat.le_refl _) (msg := .ref sa) rfl
    (g := { method := m, pc := pc + 6, locals := ls, stack := .ref sa :: .ref T.heap.size :: .ref T.heap.size :: rest, locked := none }) rfl hsize rfl rfl (rest := rest) rfl
    (by rw [hb]; exact d6) (by rw [hb]; exact d9) hout hRframes (by simp only [List.map_cons, List.sum_cons, hcat]; omega) hlocks
  obtain ⟨f1, f2⟩ := vx_frame hsame
  rw [hhp] at f1 f2
  have hWs : s.WarmedH U.vm := State.WarmedH.trans hW0 hW
  have hcl : s.vm.findClass cls = some ce.cls := by
    have h9 := hO.cls
    rw [hvm] at h9
    exact h9
  have hall : s.sameButNew ({ U with vm := s.vm } : State) locs mc ms := by
    subst hA
    obtain ⟨e1, e2⟩ := hsame
    rw [State.setFrames_setFrames] at e1
    have h2 : (T.setVm s.vm).sameButNew ({ U with vm := s.vm } : State) [] (0 + 1) (0 + 6) := ⟨e1, e2⟩
    have h3 := X.same.trans h2
    rw [List.append_nil] at h3
    exact h3.mono hc hs
  refine ⟨U, ?_, .threw T.heap.size, hrun, hend, Or.inr ⟨T.heap.size, rfl, cls, ce, locs, hx U hWs.alike f1 (fun q hq => f2 q hq (fun z hz => nomatch hz)), hce, hO.vm, hcl, hWs, hall, hf⟩⟩
  refine st1 _ ?_
  show Steps p.tables e below (T1.setTop { method := m, pc := pc + 3, locals := ls, stack := .ref T.heap.size :: rest, locked := none }) _
  jvm_step X₁.here [X₁.here.top, hexec, d3', Value.category]
  exact X₁.ldcString hexec (own := own) (text := text) (index := is) (a := sa) hown' hstr'.1 hstr'.2
    (g := { method := m, pc := pc + 4, locals := ls, stack := .ref T.heap.size :: .ref T.heap.size :: rest, locked := none }) rfl d4' _ hsteps
/-- 'throw new E("text")', the text by a wide index -/
theorem vx_throwSW {cc : ByteArray} {pc : Nat} (hexec : p.tables.exec = Jvm.exec) (hb : c.code = cc) (hl : l.stackTraces = false) {own cls text : String} {names : List String} {ik is ic mc ms sa : Nat} {A : Nat → Prop}
    (hown : s.vm.findClass own = some m.cls) (hcls : Bundle.fit cls = true) (hnames : ∀ n ∈ names, Bundle.fit n = true)
    (hk : (Cond.classLink own ik cls).before args s = true) (hini : (Cond.initialized cls).before args s = true) (hstr : vk_R own is text sa s) (hat : ∀ w ∈ vx_atS own ic cls names, w.before args s = true)
    (hgood : ∀ w ∈ Cond.classLink own ik cls :: Cond.initialized cls :: vx_atS own ic cls names, vx_ot w = true)
    (hU : vx_Zq Bundle.tN "UNASSIGNED_STACK" Bundle.steD A s s.heap) (hN : vx_Zq Bundle.tN "SUPPRESSED_SENTINEL" Bundle.listD A s s.heap) (hS : va_S A s.heap H locs) (hsize : ls.size = c.maxLocals)
    (d0 : decode cc pc = .ok (.new ik, 3)) (d3 : decode cc (pc + 3) = .ok (.dup, 1)) (d4 : decode cc (pc + 4) = .ok (.ldc_w is, 3)) (d7 : decode cc (pc + 7) = .ok (.invokespecial ic, 3)) (d10 : decode cc (pc + 10) = .ok (.athrow, 1))
    (hout : ∀ x ∈ c.exceptionTable.toList, covers x (pc + 10) = false)
    (hRframes : names.length + 3 < R.frames) (hRlocals : (rest.map fun v => v.category).sum + (13 * (names.length + 1) + 43) ≤ R.locals) (hRcells : cells + 1 ≤ R.cells) (hRslots : slots + 6 ≤ R.slots) (hlocks : meth.locks = false)
    (hx : ∀ t : State, s.vm.Alike t.vm → H.size ≤ t.heap.size → (∀ q : Nat, q < H.size → t.heap[q]? = H[q]?) → XC cls s t)
    (hf : ∀ z ∈ locs, free z.base) (hc : cells + 1 ≤ mc) (hs : slots + 6 ≤ ms) :
    W p l e R s m args below meth c H locs cells slots (vx_MQ below Qc XC args s mc ms free) (F0 m pc ls rest) := by
  intro T hT X
  have htr : e.platform.stackTraces = false := (show e.platform.stackTraces = l.stackTraces by rw [X.admits.platform]).trans hl
  have Y := vx_rebase X (R' := { frames := R.frames, locals := R.locals, cells := 1, slots := 6 }) (Nat.le_refl _) (Nat.le_refl _) hRcells hRslots
  obtain ⟨s', hA⟩ : ∃ z, z = (T.setVm s.vm).setFrames (.invoking m args :: below) := ⟨_, rfl⟩
  rw [← hA] at Y
  have hvm : s'.vm = s.vm := by rw [hA]; rfl
  have hhp : s'.heap = H := by rw [hA]; exact hT
  have hW0 : s.WarmedH s'.vm := by rw [hvm]; exact State.WarmedH.refl s
  have hat' : ∀ w ∈ vx_atS own ic cls names, w.before args s' = true := fun w hw => vx_ot_at hW0 hvm.symm (hgood w (List.mem_cons_of_mem _ (List.mem_cons_of_mem _ hw))) (hat w hw)
  have hk' : (Cond.classLink own ik cls).before args s' = true := vx_ot_at hW0 hvm.symm (hgood _ List.mem_cons_self) hk
  have hini' : (Cond.initialized cls).before args s' = true := vx_ot_at hW0 hvm.symm (hgood _ (List.mem_cons_of_mem _ List.mem_cons_self)) hini
  have hU' : vx_Zq Bundle.tN "UNASSIGNED_STACK" Bundle.steD A s' s'.heap := by rw [hhp]; exact vx_Zq.moved hW0.alike (hU.kept hS.2.1)
  have hN' : vx_Zq Bundle.tN "SUPPRESSED_SENTINEL" Bundle.listD A s' s'.heap := by rw [hhp]; exact vx_Zq.moved hW0.alike (hN.kept hS.2.1)
  have h : ∀ w ∈ Bundle.ownAtoms own ic cls names, w.before args s' = true := vx_own hat' (vx_isRefq hU'.1) (vx_isRefq hN'.1) hU'.2.word hN'.2.word
  have hown' : s'.vm.findClass own = some m.cls := by rw [hvm]; exact hown
  have hins : (Cond.instantiable cls 6).before args s' = true := h _ (by simp [Bundle.ownAtoms])
  obtain ⟨vm₁, cX, kX, hfX, hkX, -, -, X₁, st1⟩ := Y.newCold hexec (own := own) (C := cls) (index := ik) (n := 6) hown' hk' hins hini'
    (g := F0 m pc ls rest) rfl (by rw [hb]; exact d0) (Nat.le_refl _) (Nat.le_refl _)
  generalize hT1 : (T.setVm vm₁).pushCell { cls := cX, slots := kX.instanceTypes.map defaultValue, vm := .none } = T1 at X₁ st1
  have hcat : (Value.ref T.heap.size).category = 1 := rfl
  have hcellA : T1.heap[T.heap.size]? = some (freshCell cX kX) := by rw [← hT1]; exact State.heap_pushCell_size _ _
  have d3' : decode c.code (pc + 3) = .ok (.dup, 1) := by rw [hb]; exact d3
  have d4' : decode c.code (pc + 4) = .ok (.ldc_w is, 3) := by rw [hb]; exact d4
  have hstr' : vk_R own is text sa s' := vk_R.warm hW0 hstr
  obtain ⟨U, hsteps, hrun, hend, hW, hsame, ce, hce, hO⟩ := X₁.ctorThrowS hexec htr (own := own) (cls := cls) (names := names) (ic := ic) hown' hcls hnames h (fun x hx => nomatch hx) hfX hkX hcellA (by rw [hhp, hT]; exact Nat.le_refl _) (msg := .ref sa) rfl
    (g := { method := m, pc := pc + 7, locals := ls, stack := .ref sa :: .ref T.heap.size :: .ref T.heap.size :: rest, locked := none }) rfl hsize rfl rfl (rest := rest) rfl
    (by rw [hb]; exact d7) (by rw [hb]; exact d10) hout hRframes (by simp only [List.map_cons, List.sum_cons, hcat]; omega) hlocks
  obtain ⟨f1, f2⟩ := vx_frame hsame
  rw [hhp] at f1 f2
  have hWs : s.WarmedH U.vm := State.WarmedH.trans hW0 hW
  have hcl : s.vm.findClass cls = some ce.cls := by
    have h9 := hO.cls
    rw [hvm] at h9
    exact h9
  have hall : s.sameButNew ({ U with vm := s.vm } : State) locs mc ms := by
    subst hA
    obtain ⟨e1, e2⟩ := hsame
    rw [State.setFrames_setFrames] at e1
    have h2 : (T.setVm s.vm).sameButNew ({ U with vm := s.vm } : State) [] (0 + 1) (0 + 6) := ⟨e1, e2⟩
    have h3 := X.same.trans h2
    rw [List.append_nil] at h3
    exact h3.mono hc hs
  refine ⟨U, ?_, .threw T.heap.size, hrun, hend, Or.inr ⟨T.heap.size, rfl, cls, ce, locs, hx U hWs.alike f1 (fun q hq => f2 q hq (fun z hz => nomatch hz)), hce, hO.vm, hcl, hWs, hall, hf⟩⟩
  refine st1 _ ?_
  show Steps p.tables e below (T1.setTop { method := m, pc := pc + 3, locals := ls, stack := .ref T.heap.size :: rest, locked := none }) _
  jvm_step X₁.here [X₁.here.top, hexec, d3', Value.category]
  exact X₁.ldcStringW hexec (own := own) (text := text) (index := is) (a := sa) hown' hstr'.1 hstr'.2
    (g := { method := m, pc := pc + 4, locals := ls, stack := .ref T.heap.size :: .ref T.heap.size :: rest, locked := none }) rfl d4' _ hsteps
end Ends
section Bodies
variable {l : Launch}
theorem vx_ofW {y : MethodName} {ws ws' : List Cond} {rm : Room} {Pc : Array Value → State → Prop} {Qc : Array Value → State → Outcome → State → Prop} {XC : String → State → State → Prop} {mc ms : Nat} {free : Addr → Prop} {cc : ByteArray} {maxL : Nat} {ret : Option FieldType}
    (hy : plainName y.cls = true) (hw : ws = Cond.code y cc maxL ret :: ws')
    (body : ∀ p e s m args below meth c s₁, BodyLoose p l y (headSpec ws rm) cc maxL ret e s m args below meth c s₁ → c.maxLocals = maxL → (∀ x ∈ c.exceptionTable.toList, False) → Pc args s →
      W p l e (headSpec ws rm).room s m args below meth c s.heap [] 0 0 (vx_MQ below Qc XC args s mc ms free) (entryFrame m args maxL)) : vx_Met l y ws rm Pc Qc XC mc ms free := by
  refine MetFree.of_bodyS (code := cc) (maxLocals := maxL) (ret := ret) hy ?_ ?_
  · intro args s m h hn
    obtain ⟨meth, c, h1, h2, h3, h4, h5, h6, -, -⟩ := Cond.code_spec hn (atoms_spec (ws := ws) h _ (by rw [hw]; exact List.mem_cons_self))
    exact ⟨meth, c, h1, h2, h3, h4, h5, h6⟩
  · intro p e s m args below meth c s₁ B hml hP _
    have hh0 : s₁.heap = s.heap := by rw [B.state]; rfl
    have ht : ∀ x ∈ c.exceptionTable.toList, False := by
      obtain ⟨meth9, c9, h1, h2, -, -, -, -, h7, -⟩ := Cond.code_spec B.named (atoms_spec (ws := ws) B.pre _ (by rw [hw]; exact List.mem_cons_self))
      cases Option.some.inj (h1.symm.trans B.method)
      cases Option.some.inj (h2.symm.trans (Stand.of_body B).code)
      intro x hx
      rw [Array.isEmpty_iff.mp h7] at hx
      cases hx
    obtain ⟨t, a1, o, b1, b2, b3⟩ := body p e s m args below meth c s₁ B hml ht hP s₁ hh0 (Stand.of_body B)
    exact ⟨t, o, a1, b1, b2, b3⟩
/-- the table of a body with handlers -/
theorem vx_table {p : Program} {x y : MethodName} {S : Spec} {cc bytes : ByteArray} {maxL maxL' : Nat} {ret ret' : Option FieldType} {e : Env} {s s₁ : State} {m : MethodId} {args : Array Value} {below : List Frame} {meth : Method} {c : Code} {hh : List (Nat × Nat × Nat × Nat)}
    (B : BodyLoose p l y S cc maxL ret e s m args below meth c s₁) (h : (Cond.codeWith y bytes maxL' ret' hh).before args s = true) : c.exceptionTable.toList = tableOf hh := by
  obtain ⟨m9, meth9, c9, hn9, h1, h2, -, -, h6, -⟩ := Cond.codeWith_spec h
  cases Option.some.inj (hn9.symm.trans B.named)
  cases Option.some.inj (h1.symm.trans B.method)
  cases Option.some.inj (h2.symm.trans (Stand.of_body B).code)
  rw [← h6, table_eq]
end Bodies
end VXA
/-! ===== END ===== -/
/-! ===== BEGIN a static call of a method with an exception table ===== -/
section VXS
variable {p : Program} {l : Launch} {e : Env} {R : Room} {s : State} {m : MethodId} {args : Array Value} {below : List Frame} {meth : Method} {c : Code} {T : State} {H : Heap} {locs : List Loc} {cells slots : Nat}
abbrev vx_CSW (R : Room) (s : State) (args : Array Value) (own : String) (index : Nat) (y : MethodName) (bytes : ByteArray) (maxL : Nat) (ret : Option FieldType) (hh : List (Nat × Nat × Nat × Nat)) (ws : List Cond) (rm : Room) (mc ms n : Nat) : Prop :=
  (rm.cells = mc ∧ rm.slots = ms ∧ rm.frames + 1 ≤ R.frames ∧ 8 + (maxL + 11) + rm.locals ≤ R.locals ∧ (∀ w ∈ ws, ∀ (a' : Array Value) (U : State), s.WarmedH U.vm → w.before a' U = true) ∧ Cond.codeWith y bytes maxL ret hh ∈ ws) ∧
  (Cond.codeWith y bytes maxL ret hh).before args s = true ∧ (Cond.initialized y.cls).before args s = true ∧ (y.cls ≠ "java/lang/invoke/MethodHandle" ∧ y.cls ≠ "java/lang/invoke/VarHandle") ∧
  (∀ sig, parseMethodDescriptor y.desc = some sig → n = sig.parameters.length) ∧ (Cond.methodLink own index y).before args s = true ∧ (Cond.static y).before args s = true
theorem vx_cwSW {own : String} {index maxL mc ms : Nat} {y : MethodName} {bytes : ByteArray} {ret : Option FieldType} {hh : List (Nat × Nat × Nat × Nat)} {Ts ws ws' : List Cond} {rm : Room} (n : Nat) (ht : ∀ w ∈ Ts, w.before args s = true) (hT : GoodIn Ts (va_wsS own index y ws)) (hw : ws = Cond.codeWith y bytes maxL ret hh :: ws') (hrc : rm.cells = mc) (hrs : rm.slots = ms)
    (hd : y.cls ≠ "java/lang/invoke/MethodHandle" ∧ y.cls ≠ "java/lang/invoke/VarHandle" ∧ (parseMethodDescriptor y.desc).map (fun d => d.parameters.length) = some n) (hR : rm.frames + 1 ≤ R.frames ∧ 8 + (maxL + 11) + rm.locals ≤ R.locals) :
    vx_CSW R s args own index y bytes maxL ret hh ws rm mc ms n := by
  have ok : ∀ w ∈ va_wsS own index y ws, w.before args s = true := fun w h => ht w (hT w h).1
  have hG : GoodIn Ts ws := fun w h => hT w (by unfold va_wsS; exact List.mem_append_right _ h)
  have hc : Cond.codeWith y bytes maxL ret hh ∈ ws := by rw [hw]; exact List.mem_cons_self
  refine ⟨⟨hrc, hrs, hR.1, hR.2, pay_in ht hG, hc⟩, ht _ (hG _ hc).1, ok _ (by simp [va_wsS]), ⟨hd.1, hd.2.1⟩, fun sig h => ?_, ok _ (by simp [va_wsS]), ok _ (by simp [va_wsS])⟩
  have h2 := hd.2.2
  rw [h] at h2
  exact (Option.some.inj h2).symm
theorem vx_callSW (X : Stand p l e R s m args below meth c T locs cells slots) (hexec : p.tables.exec = Jvm.exec) {own : String} {index : Nat} {y : MethodName} {bytes : ByteArray} {maxL : Nat} {ret : Option FieldType} {hh : List (Nat × Nat × Nat × Nat)}
    (hown : s.vm.findClass own = some m.cls) (hlink : (Cond.methodLink own index y).before args s = true) (hstat : (Cond.static y).before args s = true) (hinit : (Cond.initialized y.cls).before args s = true)
    (hcode : (Cond.codeWith y bytes maxL ret hh).before args s = true) (hy : y.cls ≠ "java/lang/invoke/MethodHandle" ∧ y.cls ≠ "java/lang/invoke/VarHandle")
    {W9 : Nat} {Pre : Pt → Array Value → Prop} {Post : Pt → Array Value → Option Value → Pt → Prop} (hK : Back l R p e below s args y 3 W9 Pre Post)
    {g : JFrame} (hg : g.method = m) (hsize : g.locals.size = c.maxLocals) {argsL rest : List Value} (hlen : ∀ sig, parseMethodDescriptor y.desc = some sig → argsL.length = sig.parameters.length)
    (hstack : g.stack = argsL.reverse ++ rest) (hW : 2 * g.monitorRoom + (rest.map fun v => v.category).sum ≤ W9) (hdg : decode c.code g.pc = .ok (.invokestatic index, 3))
    (hpre : ∀ vm₁, s.WarmedH vm₁ → Pre ⟨T.setVm vm₁, locs, cells, slots⟩ argsL.toArray) :
    ∃ (v : Option Value) (vm₁ : Vm) (B : Pt), s.WarmedH vm₁ ∧ Stand p l e R s m args below meth c B.U B.locs B.cells B.slots ∧ Post ⟨T.setVm vm₁, locs, cells, slots⟩ argsL.toArray v B ∧
      ∀ target, Steps p.tables e below (B.U.setTop { g with pc := g.pc + 3, stack := v.toList ++ rest }) target → Steps p.tables e below (T.setTop g) target := by
  obtain ⟨mk, methM, cM, hnamed, hmethM, -, -, -, -, -, -, hsigM⟩ := Cond.codeWith_spec hcode
  have hstatic : methM.isStatic = true := Cond.static_spec hnamed hmethM hstat
  obtain ⟨kP, hkP, -⟩ := className_of_methodNamed hnamed
  have hinitP : kP.init = .initialized := Cond.initialized_spec (findClass_of_methodNamed hnamed) hkP hinit
  obtain ⟨vm₁, X₁, hstep₁⟩ := X.invokestatic hexec hown hlink hnamed hmethM hstatic hkP hinitP hy (g := g) hg (argsL := argsL) (rest := rest) (hlen _ hsigM) hstack hdg
  obtain ⟨v, B, X', hpost, hsteps⟩ := hK m meth c ⟨T.setVm vm₁, locs, cells, slots⟩ { g with stack := rest } (.invokestatic index) mk argsL.toArray X₁ hg hsize hdg hW (X₁.named hnamed) (hpre vm₁ X₁.warmed)
  exact ⟨v, vm₁, B, X₁.warmed, X', hpost, fun target h => hstep₁ _ fun acts => by rw [doInvoke_state]; exact hsteps.trans h⟩
theorem vx_runSW {y : MethodName} {bytes cc : ByteArray} {maxL nL mc ms n index : Nat} {ret : Option FieldType} {hh : List (Nat × Nat × Nat × Nat)} {ws : List Cond} {rm : Room} {Pc : Array Value → State → Prop} {Qc : Array Value → State → Outcome → State → Prop} {free : Addr → Prop} {Ts : List Cond} {own : String} {As rest : List Value} {g : JFrame}
    (S : CallFix p m c cc nL s args Ts own) (hM : Met l y ws rm Pc Qc mc ms free) (cw : vx_CSW R s args own index y bytes maxL ret hh ws rm mc ms n) (hp : PreS s H Pc As)
    (hg : g.method = m) (hn : As.length = n) (hsize : g.locals.size = nL) (hstack : g.stack = As.reverse ++ rest) (hW : 2 * g.monitorRoom + (rest.map fun v => v.category).sum ≤ 8) (hdg : decode cc g.pc = .ok (.invokestatic index, 3)) (hf : cells + mc ≤ R.cells ∧ slots + ms ≤ R.slots) :
    va_Run p l e R s m args below meth c H locs cells slots mc ms g rest (Qc As.toArray) (free) := by
  obtain ⟨⟨hrc, hrs, hfr, hlo, hws, hcw⟩, hcode, hini, hy, hlen, hl, hstt⟩ := cw
  have hK : Back l R p e below s args y 3 8 (PreOf R mc ms Pc) (PostOf Qc mc ms free) := va_backW (hh := hh) (bytes := bytes) (maxL := maxL) (ret := ret) hM hp.1 hrc hrs hfr hlo hws hcw (fun a' U hW => word_at hW (Or.inl (by first | rfl | simp [Cond.onTables, Cond.keeps, Cond.steady])) hini)
  obtain ⟨hx, hb, hml, ho, -⟩ := S
  intro T hT X
  obtain ⟨v, vm₁, ⟨U', l2, c2, s2⟩, hW₁, X', ⟨g', mk, t, L, e1, e2, hq, h1, hL, h2, h3⟩, st⟩ := vx_callSW X hx (hh := hh) (bytes := bytes) (maxL := maxL) (ret := ret) ho hl hstt hini hcode hy hK hg (hsize.trans hml.symm) (argsL := As) (rest := rest) (fun sig h => hn.trans (hlen sig h)) hstack hW (by rw [hb]; exact hdg)
    (fun vm₁ hW₁ => ⟨hf.1, hf.2, hp.2 (T.setVm vm₁) hT hW₁⟩)
  dsimp only [Pt.U, Pt.locs, Pt.cells, Pt.slots] at X' e1 e2 h1 h2 h3 st
  subst h1; subst h2; subst h3
  exact ⟨v, (T.setVm vm₁).calling g' mk As.toArray, t, U', L, hT, X', hL, e1, e2, hq, st⟩
/-- not caught here, past rows that name other classes: it goes on to the caller -/
theorem vx_outP {p : Program} {l : Launch} {e : Env} {R : Room} {s : State} {m : MethodId} {args : Array Value} {below : List Frame} {meth : Method} {c : Code} {H : Heap} {locs : List Loc} {cells slots : Nat} {free : Addr → Prop} {ls : Array Slot} {rest : List Value} {Qc : Array Value → State → Outcome → State → Prop} {XC : String → State → State → Prop}
    {pc : Nat} {own E : String} {ce : Cell} {q : Addr} {mc ms : Nat} (hown : s.vm.findClass own = some m.cls) (hlocks : meth.locks = false)
    (hpass : ∀ z ∈ c.exceptionTable.toList, covers z pc = false ∨ (z.catchType ≠ 0 ∧ ∃ nm : String, (Cond.classLink own z.catchType nm).before args s = true ∧ va_Nc E nm s)) (hcell : H[q]? = some ce) (hv : ce.vm = .none) (hcl : s.vm.findClass E = some ce.cls)
    (hx : ∀ t : State, t.heap = H → s.vm.Alike t.vm → XC E s t) (hf : ∀ z ∈ locs, free z.base) (hc : cells ≤ mc) (hs : slots ≤ ms) :
    vx_W p l e R s m args below meth c H locs cells slots (vx_MQ below Qc XC args s mc ms free) (F0 m pc ls rest) q := by
  intro T hT X
  have hpl : e.platform.magicAccessors = ({} : Platform).magicAccessors := by rw [X.admits.platform]
  obtain ⟨vm', hW', X', st⟩ := X.outThrough hlocks q (g := F0 m pc ls rest) rfl rfl rfl (cell := ce) (by rw [hT]; exact hcell) (by rw [hv]; rfl)
    (by obtain ⟨k9, h9, -⟩ := Vm.findClass_spec hcl; exact ⟨k9, h9⟩) (fun z hz => by
      rcases hpass z hz with h | ⟨hz0, nm, hl1, hn1⟩
      · exact Or.inl h
      · obtain ⟨c6, hc6, hcl6⟩ := Cond.classLink_spec hown hl1 e.platform hpl
        obtain ⟨a8, b8, h1, h2, h3⟩ := hn1
        cases Option.some.inj (h1.symm.trans hcl)
        cases Option.some.inj (h2.symm.trans hc6)
        exact Or.inr ⟨hz0, _, hcl6, h3⟩)
  obtain ⟨g₀, hfr⟩ := X'.frames_eq
  have hcell9 : ((T.setVm vm').setFrames (.throwing q :: below)).heap[q]? = some ce := by
    show T.heap[q]? = some ce
    rw [hT]; exact hcell
  have hend : Ended ((T.setVm vm').setFrames (.throwing q :: below)) below (.threw q) := State.frames_setFrames _ (State.cur_lt_of_frames hfr)
  refine ⟨(T.setVm vm').setFrames (.throwing q :: below), ?_, .threw q, X'.here.running, hend, Or.inr ⟨q, rfl, E, ce, locs, hx _ hT (X'.ends _).1.alike, hcell9, hv, hcl, (X'.ends _).1, (X'.ends _).2.mono hc hs, hf⟩⟩
  rw [X.pushThrowing_eq]
  exact st
/-- a thing of a world lies in the heap -/
theorem vx_lt {D : va_G} {cl : List vw_C} {ws : va_W} {H1 : Heap} (h : va_P D cl ws H1) {k : Nat} {q : Nat × va_E} (hk : ws[k]? = some q) : q.1 < H1.size := (h k q hk).lt
end VXS
/-! ===== END ===== -/
/-! ===== BEGIN methods with a table of their own: called by a name, returning or throwing ===== -/
section VXH
/-! vx_backW, vx_callVX, vx_callSX, vx_callVW, vx_runVW, vx_runVX, vx_runSX, vx_ofWH follow the same proofs as their sisters above (Free/Laws.lean, Shelf42/LK1.lean); vx_outP calls Shelf42/NT130.lean (outThrough). -/
section
variable {l : Launch} {R : Room} {p : Program} {e : Env} {below : List Frame} {s : State} {sargs : Array Value} {y : MethodName} {len W9 : Nat}
theorem vx_backW {ws : List Cond} {rm : Room} {Pc : Array Value → State → Prop} {Qc : Array Value → State → Outcome → State → Prop} {XC : String → State → State → Prop} {mc ms : Nat} {free : Addr → Prop} {bytes : ByteArray} {maxL : Nat} {ret : Option FieldType} {hh : List (Nat × Nat × Nat × Nat)}
    (hM : vx_Met l y ws rm Pc Qc XC mc ms free) (hblind : FrameBlind Pc) (hrc : rm.cells = mc) (hrs : rm.slots = ms)
    (hframes : rm.frames + 1 ≤ R.frames) (hlocals : W9 + (maxL + 11) + rm.locals ≤ R.locals)
    (hws : ∀ w ∈ ws, ∀ a' U, s.WarmedH U.vm → w.before a' U = true) (hcode : Cond.codeWith y bytes maxL ret hh ∈ ws) (hinit : ∀ a' U, s.WarmedH U.vm → (Cond.initialized y.cls).before a' U = true) :
    vx_Back l R p e below s sargs y len W9 (PreOf R mc ms Pc) (PostOf Qc mc ms free) (vx_Post XC mc ms free) := by
  intro m meth c A g ig mk a X hg hsize hdg hW hn hp
  have h1 : (headSpec ws rm).pre.before a A.U = true := atoms_intro fun w hw => hws w hw _ _ X.warmed
  have h2 : (Cond.codeWith y bytes maxL ret hh).before a A.U = true := hws _ hcode _ _ X.warmed
  have h3 : (Cond.initialized y.cls).before a A.U = true := hinit _ _ X.warmed
  have h4 : A.cells + (headSpec ws rm).room.cells ≤ R.cells := by rw [show (headSpec ws rm).room.cells = mc from hrc]; exact hp.1
  have h5 : A.slots + (headSpec ws rm).room.slots ≤ R.slots := by rw [show (headSpec ws rm).room.slots = ms from hrs]; exact hp.2.1
  have hPc : Pc a (A.U.calling g mk a) := hblind _ _ _ _ hp.2.2
  obtain ⟨U, Ls, c0, s0⟩ := A
  dsimp only [Pt.U, Pt.locs, Pt.cells, Pt.slots] at h1 h2 h3 h4 h5 X hn hPc ⊢
  obtain ⟨m9, methY, cY, hn9, hmY, hcY, -, hlY, -⟩ := Cond.codeWith_spec h2
  cases Option.some.inj (hn9.symm.trans hn)
  obtain ⟨kY, hkY, -⟩ := className_of_methodNamed hn
  have hinitY : kY.init = .initialized := Cond.initialized_spec (findClass_of_methodNamed hn) hkY h3
  have h : At U g.method c below := by rw [hg]; exact X.here
  have hlocals9 : W9 + (maxL + 11) + (headSpec ws rm).room.locals ≤ R.locals := hlocals
  have happ : (headSpec ws rm).appliesLoose y e.platform (U.calling g mk a) = true :=
    Spec.appliesLoose_calling (g := g) h hdg hn hkY hinitY
      (X.room_calling (g := g) (R' := (headSpec ws rm).room) hsize hmY hcY hframes (by rw [hlY]; omega) h4 h5) h1
  obtain ⟨mid, hmid⟩ := h.above
  have hfr : (U.setTop g).frames = (.java g :: mid) ++ below := by rw [State.frames_setTop' g h.top, hmid]; rfl
  obtain ⟨o, s₂, hsteps, -, hend, hq⟩ := Steps.callFree hM p X.admits X.cas X.clock (acts := []) hfr happ hPc trivial
  have hq' : vx_Q Qc XC mc ms free a (U.calling g mk a) o s₂ := hq
  rw [State.frames_setTop' g h.top] at hend
  obtain ⟨g₀, hg0⟩ := Option.isSome_iff_exists.mp h.top
  obtain ⟨r, hr⟩ := State.topJava?_eq_some.mp hg0
  have hr' : (({ U with heap := s₂.heap, slotsUsed := s₂.slotsUsed } : State).setVm s₂.vm).frames = .java g₀ :: r := hr
  rcases hq' with ⟨hqc, L, hfe, hL⟩ | ⟨q, rfl, E, ce, L, hx, hce, hcv, hcl, hW₂, hsm, hL⟩
  · obtain ⟨⟨v, rfl⟩, hW₂, e2, q2, q3, q4, q5, q6⟩ := id hfe
    have e3 : s₂ = ({ (U.calling g mk a).setFrames s₂.frames with heap := s₂.heap, slotsUsed := s₂.slotsUsed } : State).setVm s₂.vm := by
      have : s₂ = ({ s₂ with vm := (U.calling g mk a).vm } : State).setVm s₂.vm := rfl
      rw [e2] at this
      exact this
    obtain ⟨c₂, i₂, len₂, hc₂, hd₂, hf₂⟩ := hend
    have hW' : U.WarmedH s₂.vm := hW₂
    have hcc : c₂ = c := by
      have h1 : s₂.code? g.method = U.code? g.method := by
        rw [State.code?_eq, State.code?_eq, hW'.alike.method?]
      exact Option.some.inj (hc₂.symm.trans (h1.trans h.code))
    subst hcc
    have hlen : len₂ = len := by rw [hdg] at hd₂; cases hd₂; rfl
    subst hlen
    have hs₂ : s₂ = (({ U with heap := s₂.heap, slotsUsed := s₂.slotsUsed } : State).setVm s₂.vm).setTop { g with pc := g.pc + len₂, stack := v.toList ++ g.stack } := by
      refine e3.trans ?_
      rw [hf₂, State.calling_eq h.top, State.setFrames_setFrames, State.setTop_of_frames _ hr', hr]
      rfl
    have hsame : U.sameButNew ({ U with heap := s₂.heap, slotsUsed := s₂.slotsUsed } : State) L mc ms := by
      refine ⟨?_, q2, q3, q4, q5, q6⟩
      obtain ⟨t, ht, -⟩ := State.frames_cons hr
      show ({ U with heap := s₂.heap, slotsUsed := s₂.slotsUsed } : State) = { U.setFrames U.frames with heap := s₂.heap, slotsUsed := s₂.slotsUsed }
      rw [State.setFrames_self ht]
    subst hg
    refine Or.inl ⟨v, ⟨(({ U with heap := s₂.heap, slotsUsed := s₂.slotsUsed } : State).setVm s₂.vm), Ls ++ L, c0 + mc, s0 + ms⟩,
      ⟨X.admits, X.cas, X.clock, X.frames, X.room, X.hears, X.method, X.code, (X.here.setHeapUsed s₂.heap s₂.slotsUsed).setVm hW'.alike, X.tail, State.WarmedH.trans X.warmed hW', X.limits, X.bytes, X.same.trans (hsame.setVm s.vm)⟩,
      ⟨g, mk, s₂, L, rfl, rfl, hqc, rfl, hL, rfl, rfl⟩, ?_⟩
    show Steps p.tables e below _ ((({ U with heap := s₂.heap, slotsUsed := s₂.slotsUsed } : State).setVm s₂.vm).setTop { g with pc := g.pc + len₂, stack := v.toList ++ g.stack })
    rw [← hs₂]
    exact hsteps
  · obtain ⟨e2, q2, q3, q4, q5, q6⟩ := id hsm
    have e3 : s₂ = ({ (U.calling g mk a).setFrames s₂.frames with heap := s₂.heap, slotsUsed := s₂.slotsUsed } : State).setVm s₂.vm := by
      have : s₂ = ({ s₂ with vm := (U.calling g mk a).vm } : State).setVm s₂.vm := rfl
      rw [e2] at this
      exact this
    have hf₂ : s₂.frames = .throwing q :: .java g :: U.frames.tail := hend
    have hW' : U.WarmedH s₂.vm := hW₂
    have hs₂ : s₂ = ((({ U with heap := s₂.heap, slotsUsed := s₂.slotsUsed } : State).setVm s₂.vm).setTop g).pushFrame (.throwing q) := by
      refine e3.trans ?_
      rw [hf₂, State.calling_eq h.top, State.setFrames_setFrames, State.pushFrame, State.frames_setTop _ hr', State.setTop_of_frames _ hr', State.setFrames_setFrames, hr]
      rfl
    have hsame : U.sameButNew ({ U with heap := s₂.heap, slotsUsed := s₂.slotsUsed } : State) L mc ms := by
      refine ⟨?_, q2, q3, q4, q5, q6⟩
      obtain ⟨t, ht, -⟩ := State.frames_cons hr
      show ({ U with heap := s₂.heap, slotsUsed := s₂.slotsUsed } : State) = { U.setFrames U.frames with heap := s₂.heap, slotsUsed := s₂.slotsUsed }
      rw [State.setFrames_self ht]
    subst hg
    refine Or.inr ⟨q, ⟨(({ U with heap := s₂.heap, slotsUsed := s₂.slotsUsed } : State).setVm s₂.vm), Ls ++ L, c0 + mc, s0 + ms⟩,
      ⟨X.admits, X.cas, X.clock, X.frames, X.room, X.hears, X.method, X.code, (X.here.setHeapUsed s₂.heap s₂.slotsUsed).setVm hW'.alike, X.tail, State.WarmedH.trans X.warmed hW', X.limits, X.bytes, X.same.trans (hsame.setVm s.vm)⟩,
      ⟨g, mk, s₂, L, E, ce, rfl, rfl, hx, hce, hcv, hcl, rfl, hL, rfl, rfl⟩, ?_⟩
    show Steps p.tables e below _ (((({ U with heap := s₂.heap, slotsUsed := s₂.slotsUsed } : State).setVm s₂.vm).setTop g).pushFrame (.throwing q))
    rw [← hs₂]
    exact hsteps
end
variable {p : Program} {l : Launch} {e : Env} {R : Room} {s : State} {m : MethodId} {args : Array Value} {below : List Frame} {meth : Method} {c : Code} {T : State} {H : Heap} {locs : List Loc} {cells slots : Nat}
theorem vx_callVX (X : Stand p l e R s m args below meth c T locs cells slots) (hexec : p.tables.exec = Jvm.exec) {own C : String} {index : Nat} {y : MethodName} {bytes : ByteArray} {maxL : Nat} {ret : Option FieldType} {hh : List (Nat × Nat × Nat × Nat)}
    (hown : s.vm.findClass own = some m.cls) (hlink : (Cond.methodLink own index y).before args s = true) (hinst : (Cond.instanceMethod y).before args s = true) (hsel : (Cond.selects C y y).before args s = true)
    (hcode : (Cond.codeWith y bytes maxL ret hh).before args s = true) (hy : y.cls ≠ "java/lang/invoke/MethodHandle" ∧ y.cls ≠ "java/lang/invoke/VarHandle")
    {W9 : Nat} {Pre : Pt → Array Value → Prop} {Post : Pt → Array Value → Option Value → Pt → Prop} {PostX : Pt → Array Value → Addr → Pt → Prop} (hK : vx_Back l R p e below s args y 3 W9 Pre Post PostX)
    {b : Addr} {cellB : Cell} (hcell : T.heap[b]? = some cellB) (hobj : cellB.vm.isStatics = false) (hcls : s.vm.findClass C = some cellB.cls)
    {g : JFrame} (hg : g.method = m) (hsize : g.locals.size = c.maxLocals) {argsL rest : List Value} (hlen : ∀ sig, parseMethodDescriptor y.desc = some sig → argsL.length = sig.parameters.length)
    (hstack : g.stack = argsL.reverse ++ .ref b :: rest) (hW : 2 * g.monitorRoom + (rest.map fun v => v.category).sum ≤ W9) (hdg : decode c.code g.pc = .ok (.invokevirtual index, 3))
    (hpre : ∀ vm₁, s.WarmedH vm₁ → Pre ⟨T.setVm vm₁, locs, cells, slots⟩ (Value.ref b :: argsL).toArray) :
    (∃ (v : Option Value) (vm₁ : Vm) (B : Pt), s.WarmedH vm₁ ∧ Stand p l e R s m args below meth c B.U B.locs B.cells B.slots ∧ Post ⟨T.setVm vm₁, locs, cells, slots⟩ (Value.ref b :: argsL).toArray v B ∧
      ∀ target, Steps p.tables e below (B.U.setTop { g with pc := g.pc + 3, stack := v.toList ++ rest }) target → Steps p.tables e below (T.setTop g) target) ∨
    (∃ (q : Addr) (vm₁ : Vm) (B : Pt), s.WarmedH vm₁ ∧ Stand p l e R s m args below meth c B.U B.locs B.cells B.slots ∧ PostX ⟨T.setVm vm₁, locs, cells, slots⟩ (Value.ref b :: argsL).toArray q B ∧
      Steps p.tables e below (T.setTop g) ((B.U.setTop { g with stack := rest }).pushFrame (.throwing q))) := by
  obtain ⟨mk, methM, hnamed, hmethM, hstM, habM⟩ := Cond.instanceMethod_spec hinst
  obtain ⟨m8, methM', cM, hn8, hmethM', -, -, -, -, -, -, hsigM⟩ := Cond.codeWith_spec hcode
  cases Option.some.inj (hn8.symm.trans hnamed)
  cases hmethM.symm.trans hmethM'
  obtain ⟨c2, r2, m2, q1, q2, q3, q4, kP, hkP, hkPi⟩ := Cond.selects_spec hsel
  cases hcls.symm.trans q1
  cases (State.methodFound?_of_named hnamed hy).symm.trans q2
  cases hnamed.symm.trans q3
  have hselP : selectMethod e.platform s.vm cellB.cls mk = .method mk := by rw [Launch.admits_selectMethod X.admits]; exact q4
  obtain ⟨vm₁, X₁, hstep₁⟩ := X.invokevirtual hexec hown hlink hnamed hmethM hstM hkP hkPi hy (a := b) (cell := cellB) hcell
    (fun z h => by rw [h] at hobj; cases hobj) hselP hmethM habM hkP hkPi (g := g) hg (argsL := argsL) (rest := rest) (hlen _ hsigM) hstack hdg
  rcases hK m meth c ⟨T.setVm vm₁, locs, cells, slots⟩ { g with stack := rest } (.invokevirtual index) mk (Value.ref b :: argsL).toArray X₁ hg hsize hdg hW (X₁.named hnamed) (hpre vm₁ X₁.warmed) with ⟨v, B, X', hpost, hsteps⟩ | ⟨q, B, X', hpost, hsteps⟩
  · exact Or.inl ⟨v, vm₁, B, X₁.warmed, X', hpost, fun target h => hstep₁ _ fun acts => by rw [doInvoke_state]; exact hsteps.trans h⟩
  · exact Or.inr ⟨q, vm₁, B, X₁.warmed, X', hpost, hstep₁ _ fun acts => by rw [doInvoke_state]; exact hsteps⟩
theorem vx_callSX (X : Stand p l e R s m args below meth c T locs cells slots) (hexec : p.tables.exec = Jvm.exec) {own : String} {index : Nat} {y : MethodName} {bytes : ByteArray} {maxL : Nat} {ret : Option FieldType} {hh : List (Nat × Nat × Nat × Nat)}
    (hown : s.vm.findClass own = some m.cls) (hlink : (Cond.methodLink own index y).before args s = true) (hstat : (Cond.static y).before args s = true) (hinit : (Cond.initialized y.cls).before args s = true)
    (hcode : (Cond.codeWith y bytes maxL ret hh).before args s = true) (hy : y.cls ≠ "java/lang/invoke/MethodHandle" ∧ y.cls ≠ "java/lang/invoke/VarHandle")
    {W9 : Nat} {Pre : Pt → Array Value → Prop} {Post : Pt → Array Value → Option Value → Pt → Prop} {PostX : Pt → Array Value → Addr → Pt → Prop} (hK : vx_Back l R p e below s args y 3 W9 Pre Post PostX)
    {g : JFrame} (hg : g.method = m) (hsize : g.locals.size = c.maxLocals) {argsL rest : List Value} (hlen : ∀ sig, parseMethodDescriptor y.desc = some sig → argsL.length = sig.parameters.length)
    (hstack : g.stack = argsL.reverse ++ rest) (hW : 2 * g.monitorRoom + (rest.map fun v => v.category).sum ≤ W9) (hdg : decode c.code g.pc = .ok (.invokestatic index, 3))
    (hpre : ∀ vm₁, s.WarmedH vm₁ → Pre ⟨T.setVm vm₁, locs, cells, slots⟩ argsL.toArray) :
    (∃ (v : Option Value) (vm₁ : Vm) (B : Pt), s.WarmedH vm₁ ∧ Stand p l e R s m args below meth c B.U B.locs B.cells B.slots ∧ Post ⟨T.setVm vm₁, locs, cells, slots⟩ argsL.toArray v B ∧
      ∀ target, Steps p.tables e below (B.U.setTop { g with pc := g.pc + 3, stack := v.toList ++ rest }) target → Steps p.tables e below (T.setTop g) target) ∨
    (∃ (q : Addr) (vm₁ : Vm) (B : Pt), s.WarmedH vm₁ ∧ Stand p l e R s m args below meth c B.U B.locs B.cells B.slots ∧ PostX ⟨T.setVm vm₁, locs, cells, slots⟩ argsL.toArray q B ∧
      Steps p.tables e below (T.setTop g) ((B.U.setTop { g with stack := rest }).pushFrame (.throwing q))) := by
  obtain ⟨mk, methM, cM, hnamed, hmethM, -, -, -, -, -, -, hsigM⟩ := Cond.codeWith_spec hcode
  have hstatic : methM.isStatic = true := Cond.static_spec hnamed hmethM hstat
  obtain ⟨kP, hkP, -⟩ := className_of_methodNamed hnamed
  have hinitP : kP.init = .initialized := Cond.initialized_spec (findClass_of_methodNamed hnamed) hkP hinit
  obtain ⟨vm₁, X₁, hstep₁⟩ := X.invokestatic hexec hown hlink hnamed hmethM hstatic hkP hinitP hy (g := g) hg (argsL := argsL) (rest := rest) (hlen _ hsigM) hstack hdg
  rcases hK m meth c ⟨T.setVm vm₁, locs, cells, slots⟩ { g with stack := rest } (.invokestatic index) mk argsL.toArray X₁ hg hsize hdg hW (X₁.named hnamed) (hpre vm₁ X₁.warmed) with ⟨v, B, X', hpost, hsteps⟩ | ⟨q, B, X', hpost, hsteps⟩
  · exact Or.inl ⟨v, vm₁, B, X₁.warmed, X', hpost, fun target h => hstep₁ _ fun acts => by rw [doInvoke_state]; exact hsteps.trans h⟩
  · exact Or.inr ⟨q, vm₁, B, X₁.warmed, X', hpost, hstep₁ _ fun acts => by rw [doInvoke_state]; exact hsteps⟩
theorem vx_callVW (X : Stand p l e R s m args below meth c T locs cells slots) (hexec : p.tables.exec = Jvm.exec) {own C : String} {index : Nat} {y : MethodName} {bytes : ByteArray} {maxL : Nat} {ret : Option FieldType} {hh : List (Nat × Nat × Nat × Nat)}
    (hown : s.vm.findClass own = some m.cls) (hlink : (Cond.methodLink own index y).before args s = true) (hinst : (Cond.instanceMethod y).before args s = true) (hsel : (Cond.selects C y y).before args s = true)
    (hcode : (Cond.codeWith y bytes maxL ret hh).before args s = true) (hy : y.cls ≠ "java/lang/invoke/MethodHandle" ∧ y.cls ≠ "java/lang/invoke/VarHandle")
    {W9 : Nat} {Pre : Pt → Array Value → Prop} {Post : Pt → Array Value → Option Value → Pt → Prop} (hK : Back l R p e below s args y 3 W9 Pre Post)
    {b : Addr} {cellB : Cell} (hcell : T.heap[b]? = some cellB) (hobj : cellB.vm.isStatics = false) (hcls : s.vm.findClass C = some cellB.cls)
    {g : JFrame} (hg : g.method = m) (hsize : g.locals.size = c.maxLocals) {argsL rest : List Value} (hlen : ∀ sig, parseMethodDescriptor y.desc = some sig → argsL.length = sig.parameters.length)
    (hstack : g.stack = argsL.reverse ++ .ref b :: rest) (hW : 2 * g.monitorRoom + (rest.map fun v => v.category).sum ≤ W9) (hdg : decode c.code g.pc = .ok (.invokevirtual index, 3))
    (hpre : ∀ vm₁, s.WarmedH vm₁ → Pre ⟨T.setVm vm₁, locs, cells, slots⟩ (Value.ref b :: argsL).toArray) :
    ∃ (v : Option Value) (vm₁ : Vm) (B : Pt), s.WarmedH vm₁ ∧ Stand p l e R s m args below meth c B.U B.locs B.cells B.slots ∧ Post ⟨T.setVm vm₁, locs, cells, slots⟩ (Value.ref b :: argsL).toArray v B ∧
      ∀ target, Steps p.tables e below (B.U.setTop { g with pc := g.pc + 3, stack := v.toList ++ rest }) target → Steps p.tables e below (T.setTop g) target := by
  obtain ⟨mk, methM, hnamed, hmethM, hstM, habM⟩ := Cond.instanceMethod_spec hinst
  obtain ⟨m8, methM', cM, hn8, hmethM', -, -, -, -, -, -, hsigM⟩ := Cond.codeWith_spec hcode
  cases Option.some.inj (hn8.symm.trans hnamed)
  cases hmethM.symm.trans hmethM'
  obtain ⟨c2, r2, m2, q1, q2, q3, q4, kP, hkP, hkPi⟩ := Cond.selects_spec hsel
  cases hcls.symm.trans q1
  cases (State.methodFound?_of_named hnamed hy).symm.trans q2
  cases hnamed.symm.trans q3
  have hselP : selectMethod e.platform s.vm cellB.cls mk = .method mk := by rw [Launch.admits_selectMethod X.admits]; exact q4
  obtain ⟨vm₁, X₁, hstep₁⟩ := X.invokevirtual hexec hown hlink hnamed hmethM hstM hkP hkPi hy (a := b) (cell := cellB) hcell
    (fun z h => by rw [h] at hobj; cases hobj) hselP hmethM habM hkP hkPi (g := g) hg (argsL := argsL) (rest := rest) (hlen _ hsigM) hstack hdg
  obtain ⟨v, B, X', hpost, hsteps⟩ := hK m meth c ⟨T.setVm vm₁, locs, cells, slots⟩ { g with stack := rest } (.invokevirtual index) mk (Value.ref b :: argsL).toArray X₁ hg hsize hdg hW (X₁.named hnamed) (hpre vm₁ X₁.warmed)
  exact ⟨v, vm₁, B, X₁.warmed, X', hpost, fun target h => hstep₁ _ fun acts => by rw [doInvoke_state]; exact hsteps.trans h⟩
abbrev vx_CVW (R : Room) (s : State) (args : Array Value) (own C : String) (index : Nat) (y : MethodName) (bytes : ByteArray) (maxL : Nat) (ret : Option FieldType) (hh : List (Nat × Nat × Nat × Nat)) (ws : List Cond) (rm : Room) (mc ms n : Nat) : Prop :=
  (rm.cells = mc ∧ rm.slots = ms ∧ rm.frames + 1 ≤ R.frames ∧ 8 + (maxL + 11) + rm.locals ≤ R.locals ∧ (∀ w ∈ ws, ∀ (a' : Array Value) (U : State), s.WarmedH U.vm → w.before a' U = true) ∧ Cond.codeWith y bytes maxL ret hh ∈ ws) ∧
  (Cond.codeWith y bytes maxL ret hh).before args s = true ∧ (Cond.initialized y.cls).before args s = true ∧ (y.cls ≠ "java/lang/invoke/MethodHandle" ∧ y.cls ≠ "java/lang/invoke/VarHandle") ∧
  (∀ sig, parseMethodDescriptor y.desc = some sig → n = sig.parameters.length) ∧ (Cond.methodLink own index y).before args s = true ∧ (Cond.instanceMethod y).before args s = true ∧ (Cond.selects C y y).before args s = true
theorem vx_cwVW {own C : String} {index maxL mc ms : Nat} {y : MethodName} {bytes : ByteArray} {ret : Option FieldType} {hh : List (Nat × Nat × Nat × Nat)} {Ts ws ws' : List Cond} {rm : Room} (n : Nat) (ht : ∀ w ∈ Ts, w.before args s = true) (hT : GoodIn Ts (wsV own index C y ws)) (hw : ws = Cond.codeWith y bytes maxL ret hh :: ws') (hrc : rm.cells = mc) (hrs : rm.slots = ms)
    (hd : y.cls = C ∧ y.cls ≠ "java/lang/invoke/MethodHandle" ∧ y.cls ≠ "java/lang/invoke/VarHandle" ∧ (parseMethodDescriptor y.desc).map (fun d => d.parameters.length) = some n) (hR : rm.frames + 1 ≤ R.frames ∧ 8 + (maxL + 11) + rm.locals ≤ R.locals) :
    vx_CVW R s args own C index y bytes maxL ret hh ws rm mc ms n := by
  obtain ⟨hC, hd⟩ := hd
  subst hC
  have ok : ∀ w ∈ wsV own index y.cls y ws, w.before args s = true := fun w h => ht w (hT w h).1
  have hG : GoodIn Ts ws := fun w h => hT w (by unfold wsV; exact List.mem_append_right _ h)
  have hc : Cond.codeWith y bytes maxL ret hh ∈ ws := by rw [hw]; exact List.mem_cons_self
  refine ⟨⟨hrc, hrs, hR.1, hR.2, pay_in ht hG, hc⟩, ht _ (hG _ hc).1, ok _ (by simp [wsV]), ⟨hd.1, hd.2.1⟩, fun sig h => ?_, ok _ (by simp [wsV]), ok _ (by simp [wsV]), ok _ (by simp [wsV])⟩
  have h2 := hd.2.2
  rw [h] at h2
  exact (Option.some.inj h2).symm
theorem vx_runVW {y : MethodName} {bytes cc : ByteArray} {maxL nL mc ms n index : Nat} {ret : Option FieldType} {hh : List (Nat × Nat × Nat × Nat)} {ws : List Cond} {rm : Room} {Pc : Array Value → State → Prop} {Qc : Array Value → State → Outcome → State → Prop} {free : Addr → Prop} {Ts : List Cond} {own C : String} {b : Addr} {As rest : List Value} {g : JFrame}
    (S : CallFix p m c cc nL s args Ts own) (hM : Met l y ws rm Pc Qc mc ms free) (cw : vx_CVW R s args own C index y bytes maxL ret hh ws rm mc ms n) (hp : PreV s H C b Pc As)
    (hg : g.method = m) (hn : As.length = n) (hsize : g.locals.size = nL) (hstack : g.stack = As.reverse ++ .ref b :: rest) (hW : 2 * g.monitorRoom + (rest.map fun v => v.category).sum ≤ 8) (hdg : decode cc g.pc = .ok (.invokevirtual index, 3)) (hf : cells + mc ≤ R.cells ∧ slots + ms ≤ R.slots) :
    va_Run p l e R s m args below meth c H locs cells slots mc ms g rest (Qc (Value.ref b :: As).toArray) free := by
  obtain ⟨⟨hrc, hrs, hfr, hlo, hws, hcw⟩, hcode, hini, hy, hlen, hl, hin, hse⟩ := cw
  have hK : Back l R p e below s args y 3 8 (PreOf R mc ms Pc) (PostOf Qc mc ms free) := va_backW (hh := hh) (bytes := bytes) (maxL := maxL) (ret := ret) hM hp.1 hrc hrs hfr hlo hws hcw (fun a' U hW => word_at hW (Or.inl (by first | rfl | simp [Cond.onTables, Cond.keeps, Cond.steady])) hini)
  obtain ⟨hx, hb, hml, ho, -⟩ := S
  obtain ⟨-, ⟨cellB, hcB, hoB, hclB⟩, hPc⟩ := hp
  intro T hT X
  obtain ⟨v, vm₁, ⟨U', l2, c2, s2⟩, hW₁, X', ⟨g', mk, t, L, e1, e2, hq, h1, hL, h2, h3⟩, st⟩ := vx_callVW X hx (C := C) (hh := hh) (bytes := bytes) (maxL := maxL) (ret := ret) ho hl hin hse hcode hy hK (by rw [hT]; exact hcB) hoB hclB hg (hsize.trans hml.symm) (argsL := As) (rest := rest) (fun sig h => hn.trans (hlen sig h)) hstack hW (by rw [hb]; exact hdg)
    (fun vm₁ hW₁ => ⟨hf.1, hf.2, hPc (T.setVm vm₁) hT hW₁⟩)
  dsimp only [Pt.U, Pt.locs, Pt.cells, Pt.slots] at X' e1 e2 h1 h2 h3 st
  subst h1; subst h2; subst h3
  exact ⟨v, (T.setVm vm₁).calling g' mk (Value.ref b :: As).toArray, t, U', L, hT, X', hL, e1, e2, hq, st⟩
section
variable {y : MethodName} {bytes cc : ByteArray} {maxL nL mc ms n index : Nat} {ret : Option FieldType} {ws : List Cond} {rm : Room} {Pc : Array Value → State → Prop} {Qc : Array Value → State → Outcome → State → Prop} {XC : String → State → State → Prop} {free : Addr → Prop} {Ts : List Cond} {own C : String} {b : Addr} {As rest : List Value} {g : JFrame}
theorem vx_runVX {hh : List (Nat × Nat × Nat × Nat)} (S : CallFix p m c cc nL s args Ts own) (hM : vx_Met l y ws rm Pc Qc XC mc ms free) (cw : vx_CVW R s args own C index y bytes maxL ret hh ws rm mc ms n) (hp : PreV s H C b Pc As)
    (hg : g.method = m) (hn : As.length = n) (hsize : g.locals.size = nL) (hstack : g.stack = As.reverse ++ .ref b :: rest) (hW : 2 * g.monitorRoom + (rest.map fun v => v.category).sum ≤ 8) (hdg : decode cc g.pc = .ok (.invokevirtual index, 3)) (hf : cells + mc ≤ R.cells ∧ slots + ms ≤ R.slots) :
    vx_Run p l e R s m args below meth c H locs cells slots mc ms g rest (Qc (Value.ref b :: As).toArray) XC free := by
  obtain ⟨⟨hrc, hrs, hfr, hlo, hws, hcw⟩, hcode, hini, hy, hlen, hl, hin, hse⟩ := cw
  have hK : vx_Back l R p e below s args y 3 8 (PreOf R mc ms Pc) (PostOf Qc mc ms free) (vx_Post XC mc ms free) := vx_backW (hh := hh) (bytes := bytes) (maxL := maxL) (ret := ret) hM hp.1 hrc hrs hfr hlo hws hcw (fun a' U hW => word_at hW (Or.inl (by first | rfl | simp [Cond.onTables, Cond.keeps, Cond.steady])) hini)
  obtain ⟨hx, hb, hml, ho, -⟩ := S
  obtain ⟨-, ⟨cellB, hcB, hoB, hclB⟩, hPc⟩ := hp
  intro T hT X
  rcases vx_callVX X hx (C := C) (hh := hh) (bytes := bytes) (maxL := maxL) (ret := ret) ho hl hin hse hcode hy hK (by rw [hT]; exact hcB) hoB hclB hg (hsize.trans hml.symm) (argsL := As) (rest := rest) (fun sig h => hn.trans (hlen sig h)) hstack hW (by rw [hb]; exact hdg)
    (fun vm₁ hW₁ => ⟨hf.1, hf.2, hPc (T.setVm vm₁) hT hW₁⟩) with ⟨v, vm₁, ⟨U', l2, c2, s2⟩, hW₁, X', ⟨g', mk, t, L, e1, e2, hq, h1, hL, h2, h3⟩, st⟩ | ⟨q, vm₁, ⟨U', l2, c2, s2⟩, hW₁, X', ⟨g', mk, t, L, E, ce, e1, e2, hq, hce, hcv, hcl, h1, hL, h2, h3⟩, st⟩
  · dsimp only [Pt.U, Pt.locs, Pt.cells, Pt.slots] at X' e1 e2 h1 h2 h3 st
    subst h1; subst h2; subst h3
    exact Or.inl ⟨v, (T.setVm vm₁).calling g' mk (Value.ref b :: As).toArray, t, U', L, hT, X', hL, e1, e2, hq, st⟩
  · dsimp only [Pt.U, Pt.locs, Pt.cells, Pt.slots] at X' e1 e2 h1 h2 h3 st hcl
    subst h1; subst h2; subst h3
    exact Or.inr ⟨q, (T.setVm vm₁).calling g' mk (Value.ref b :: As).toArray, t, U', L, E, ce, hT, X', hL, e1, e2, hq, hce, hcv, vx_cls hW₁ hcl, st⟩
theorem vx_runSX {hh : List (Nat × Nat × Nat × Nat)} (S : CallFix p m c cc nL s args Ts own) (hM : vx_Met l y ws rm Pc Qc XC mc ms free) (cw : vx_CSW R s args own index y bytes maxL ret hh ws rm mc ms n) (hp : PreS s H Pc As)
    (hg : g.method = m) (hn : As.length = n) (hsize : g.locals.size = nL) (hstack : g.stack = As.reverse ++ rest) (hW : 2 * g.monitorRoom + (rest.map fun v => v.category).sum ≤ 8) (hdg : decode cc g.pc = .ok (.invokestatic index, 3)) (hf : cells + mc ≤ R.cells ∧ slots + ms ≤ R.slots) :
    vx_Run p l e R s m args below meth c H locs cells slots mc ms g rest (Qc As.toArray) XC free := by
  obtain ⟨⟨hrc, hrs, hfr, hlo, hws, hcw⟩, hcode, hini, hy, hlen, hl, hstt⟩ := cw
  have hK : vx_Back l R p e below s args y 3 8 (PreOf R mc ms Pc) (PostOf Qc mc ms free) (vx_Post XC mc ms free) := vx_backW (hh := hh) (bytes := bytes) (maxL := maxL) (ret := ret) hM hp.1 hrc hrs hfr hlo hws hcw (fun a' U hW => word_at hW (Or.inl (by first | rfl | simp [Cond.onTables, Cond.keeps, Cond.steady])) hini)
  obtain ⟨hx, hb, hml, ho, -⟩ := S
  intro T hT X
  rcases vx_callSX X hx (hh := hh) (bytes := bytes) (maxL := maxL) (ret := ret) ho hl hstt hini hcode hy hK hg (hsize.trans hml.symm) (argsL := As) (rest := rest) (fun sig h => hn.trans (hlen sig h)) hstack hW (by rw [hb]; exact hdg)
    (fun vm₁ hW₁ => ⟨hf.1, hf.2, hp.2 (T.setVm vm₁) hT hW₁⟩) with ⟨v, vm₁, ⟨U', l2, c2, s2⟩, hW₁, X', ⟨g', mk, t, L, e1, e2, hq, h1, hL, h2, h3⟩, st⟩ | ⟨q, vm₁, ⟨U', l2, c2, s2⟩, hW₁, X', ⟨g', mk, t, L, E, ce, e1, e2, hq, hce, hcv, hcl, h1, hL, h2, h3⟩, st⟩
  · dsimp only [Pt.U, Pt.locs, Pt.cells, Pt.slots] at X' e1 e2 h1 h2 h3 st
    subst h1; subst h2; subst h3
    exact Or.inl ⟨v, (T.setVm vm₁).calling g' mk As.toArray, t, U', L, hT, X', hL, e1, e2, hq, st⟩
  · dsimp only [Pt.U, Pt.locs, Pt.cells, Pt.slots] at X' e1 e2 h1 h2 h3 st hcl
    subst h1; subst h2; subst h3
    exact Or.inr ⟨q, (T.setVm vm₁).calling g' mk As.toArray, t, U', L, E, ce, hT, X', hL, e1, e2, hq, hce, hcv, vx_cls hW₁ hcl, st⟩
end
end VXH
theorem vx_ofWH {l : Launch} {y : MethodName} {ws ws' : List Cond} {rm : Room} {Pc : Array Value → State → Prop} {Qc : Array Value → State → Outcome → State → Prop} {XC : String → State → State → Prop} {mc ms : Nat} {free : Addr → Prop} {cc : ByteArray} {maxL : Nat} {ret : Option FieldType} {hh : List (Nat × Nat × Nat × Nat)}
    (hy : plainName y.cls = true) (hw : ws = Cond.codeWith y cc maxL ret hh :: ws')
    (body : ∀ p e s m args below meth c s₁, BodyLoose p l y (headSpec ws rm) cc maxL ret e s m args below meth c s₁ → c.maxLocals = maxL → Pc args s →
      W p l e (headSpec ws rm).room s m args below meth c s.heap [] 0 0 (vx_MQ below Qc XC args s mc ms free) (entryFrame m args maxL)) : vx_Met l y ws rm Pc Qc XC mc ms free := by
  refine MetFree.of_bodyS (code := cc) (maxLocals := maxL) (ret := ret) hy ?_ ?_
  · intro args s m h hn
    obtain ⟨m9, meth, c, hn9, h1, h2, h3, h4, -, h5, h6, -⟩ := Cond.codeWith_spec (atoms_spec (ws := ws) h _ (by rw [hw]; exact List.mem_cons_self))
    cases hn.symm.trans hn9
    exact ⟨meth, c, h1, h2, h3, h4, h5, h6⟩
  · intro p e s m args below meth c s₁ B hml hP _
    have hh0 : s₁.heap = s.heap := by rw [B.state]; rfl
    obtain ⟨t, a1, o, b1, b2, b3⟩ := body p e s m args below meth c s₁ B hml hP s₁ hh0 (Stand.of_body B)
    exact ⟨t, o, a1, b1, b2, b3⟩
/-! ===== END ===== -/
end
section
/-! ===== BEGIN printed: names, fields, word lists, decode rows ===== -/
def RX0 : String := "ArchWater$Aqueduct"
def TX0 : u_T := fun k => match k with
  | 0 => ("ArchWater$Aqueduct", "springTable", "[I", true)
  | 1 => ("ArchWater$Aqueduct", "cityTable", "[I", true)
  | 2 => ("ArchWater$Aqueduct", "row", "[LArchWater$Arch;", true)
  | 3 => ("ArchWater$Aqueduct", "arches", "I", false)
  | 4 => ("ArchWater$Aqueduct", "hour", "I", false)
  | 5 => ("ArchWater$Aqueduct", "coins", "I", false)
  | 6 => ("ArchWater$Aqueduct", "holds", "I", false)
  | 7 => ("ArchWater$Aqueduct", "cistern", "I", false)
  | 8 => ("ArchWater$Aqueduct", "given", "I", false)
  | 9 => ("ArchWater$Aqueduct", "spilt", "I", false)
  | 10 => ("ArchWater$Aqueduct", "used", "I", false)
  | 11 => ("ArchWater$Aqueduct", "drunk", "I", false)
  | _ => ("ArchWater$Aqueduct", "thirst", "I", false)
def tyX0 : Nat → FieldType := fun k => match k with
  | 0 => .array .int
  | 1 => .array .int
  | 2 => .array (.object "ArchWater$Arch")
  | 3 => .int
  | 4 => .int
  | 5 => .int
  | 6 => .int
  | 7 => .int
  | 8 => .int
  | 9 => .int
  | 10 => .int
  | 11 => .int
  | _ => .int
abbrev wsX00 : List Cond := u_ws RX0 TX0 13
theorem nmX0 : ∀ a, a < 13 → ∀ b, b < 13 → a ≠ b → (TX0 a).2.1 ≠ (TX0 b).2.1 := by decide +kernel
theorem tyX0_ok : ∀ k, k < 13 → parseFieldDescriptor (TX0 k).2.2.1 = some (tyX0 k) := by decide +kernel
abbrev cX0_init : ByteArray := prog_2_method_1_code
def yX0_init : MethodName := ⟨RX0, "<init>", "()V"⟩
abbrev cX0_copyFrom : ByteArray := prog_2_method_2_code
def yX0_copyFrom : MethodName := ⟨RX0, "copyFrom", "(LArchWater$Aqueduct;)V"⟩
abbrev cX0_archAt : ByteArray := prog_2_method_3_code
def yX0_archAt : MethodName := ⟨RX0, "archAt", "(I)LArchWater$Arch;"⟩
abbrev cX0_mostHeightOfNext : ByteArray := prog_2_method_4_code
def yX0_mostHeightOfNext : MethodName := ⟨RX0, "mostHeightOfNext", "()I"⟩
abbrev cX0_addArch : ByteArray := prog_2_method_5_code
def yX0_addArch : MethodName := ⟨RX0, "addArch", "(II)I"⟩
abbrev cX0_resizeCistern : ByteArray := prog_2_method_6_code
def yX0_resizeCistern : MethodName := ⟨RX0, "resizeCistern", "(I)I"⟩
abbrev cX0_goOn : ByteArray := prog_2_method_7_code
def yX0_goOn : MethodName := ⟨RX0, "goOn", "(I)V"⟩
abbrev cX0_goOnAnHour : ByteArray := prog_2_method_8_code
def yX0_goOnAnHour : MethodName := ⟨RX0, "goOnAnHour", "()V"⟩
abbrev cX0_letCityDrink : ByteArray := prog_2_method_9_code
def yX0_letCityDrink : MethodName := ⟨RX0, "letCityDrink", "(I)V"⟩
abbrev cX0_sendOn : ByteArray := prog_2_method_10_code
def yX0_sendOn : MethodName := ⟨RX0, "sendOn", "(I)V"⟩
abbrev cX0_grindAt : ByteArray := prog_2_method_11_code
def yX0_grindAt : MethodName := ⟨RX0, "grindAt", "(I)V"⟩
abbrev cX0_letSpringGive : ByteArray := prog_2_method_12_code
def yX0_letSpringGive : MethodName := ⟨RX0, "letSpringGive", "(I)V"⟩
abbrev cX0_wearAll : ByteArray := prog_2_method_13_code
def yX0_wearAll : MethodName := ⟨RX0, "wearAll", "()V"⟩
abbrev cX0_pour : ByteArray := prog_2_method_14_code
def yX0_pour : MethodName := ⟨RX0, "pour", "(II)I"⟩
abbrev cX0_slope : ByteArray := prog_2_method_15_code
def yX0_slope : MethodName := ⟨RX0, "slope", "(I)I"⟩
abbrev cX0_rate : ByteArray := prog_2_method_16_code
def yX0_rate : MethodName := ⟨RX0, "rate", "(I)I"⟩
abbrev cX0_mills : ByteArray := prog_2_method_17_code
def yX0_mills : MethodName := ⟨RX0, "mills", "()I"⟩
abbrev cX0_water : ByteArray := prog_2_method_18_code
def yX0_water : MethodName := ⟨RX0, "water", "()I"⟩
abbrev cX0_leaked : ByteArray := prog_2_method_19_code
def yX0_leaked : MethodName := ⟨RX0, "leaked", "()I"⟩
abbrev cX0_flour : ByteArray := prog_2_method_20_code
def yX0_flour : MethodName := ⟨RX0, "flour", "()I"⟩
abbrev cX0_archNumber : ByteArray := prog_2_method_21_code
def yX0_archNumber : MethodName := ⟨RX0, "archNumber", "(II)I"⟩
abbrev cX0_countNumber : ByteArray := prog_2_method_22_code
def yX0_countNumber : MethodName := ⟨RX0, "countNumber", "(I)I"⟩
def RX1 : String := "ArchWater$Arch"
def TX1 : u_T := fun k => match k with
  | 0 => ("ArchWater$Arch", "height", "I", false)
  | 1 => ("ArchWater$Arch", "size", "I", false)
  | 2 => ("ArchWater$Arch", "water", "I", false)
  | 3 => ("ArchWater$Arch", "wear", "I", false)
  | 4 => ("ArchWater$Arch", "drops", "I", false)
  | 5 => ("ArchWater$Arch", "leaked", "I", false)
  | 6 => ("ArchWater$Arch", "appetite", "I", false)
  | 7 => ("ArchWater$Arch", "tenths", "I", false)
  | 8 => ("ArchWater$Arch", "flour", "I", false)
  | _ => ("ArchWater$Arch", "took", "I", false)
def tyX1 : Nat → FieldType := fun k => match k with
  | 0 => .int
  | 1 => .int
  | 2 => .int
  | 3 => .int
  | 4 => .int
  | 5 => .int
  | 6 => .int
  | 7 => .int
  | 8 => .int
  | _ => .int
abbrev wsX10 : List Cond := u_ws RX1 TX1 10
theorem nmX1 : ∀ a, a < 10 → ∀ b, b < 10 → a ≠ b → (TX1 a).2.1 ≠ (TX1 b).2.1 := by decide +kernel
theorem tyX1_ok : ∀ k, k < 10 → parseFieldDescriptor (TX1 k).2.2.1 = some (tyX1 k) := by decide +kernel
abbrev cX1_init : ByteArray := prog_3_method_1_code
def yX1_init : MethodName := ⟨RX1, "<init>", "()V"⟩
abbrev cX1_copyFrom : ByteArray := prog_3_method_2_code
def yX1_copyFrom : MethodName := ⟨RX1, "copyFrom", "(LArchWater$Arch;)V"⟩
abbrev cX1_hasMill : ByteArray := prog_3_method_3_code
def yX1_hasMill : MethodName := ⟨RX1, "hasMill", "()Z"⟩
abbrev cX1_hasOpenSluice : ByteArray := prog_3_method_4_code
def yX1_hasOpenSluice : MethodName := ⟨RX1, "hasOpenSluice", "()Z"⟩
abbrev cX1_fill : ByteArray := prog_3_method_5_code
def yX1_fill : MethodName := ⟨RX1, "fill", "(I)I"⟩
abbrev cX1_leadToMill : ByteArray := prog_3_method_6_code
def yX1_leadToMill : MethodName := ⟨RX1, "leadToMill", "(I)I"⟩
abbrev cX1_grind : ByteArray := prog_3_method_7_code
def yX1_grind : MethodName := ⟨RX1, "grind", "()I"⟩
abbrev cX1_leak : ByteArray := prog_3_method_8_code
def yX1_leak : MethodName := ⟨RX1, "leak", "()V"⟩
abbrev cX1_wearOfDay : ByteArray := prog_3_method_9_code
def yX1_wearOfDay : MethodName := ⟨RX1, "wearOfDay", "()V"⟩
abbrev cX1_wearBy : ByteArray := prog_3_method_10_code
def yX1_wearBy : MethodName := ⟨RX1, "wearBy", "(I)V"⟩
abbrev cX1_millNumber : ByteArray := prog_3_method_11_code
def yX1_millNumber : MethodName := ⟨RX1, "millNumber", "(I)I"⟩
def RX2 : String := "ArchWater"
def TX2 : u_T := fun k => match k with
  | 0 => ("ArchWater", "now", "LArchWater$Aqueduct;", true)
  | _ => ("ArchWater", "trial", "LArchWater$Aqueduct;", true)
def tyX2 : Nat → FieldType := fun k => match k with
  | 0 => .object "ArchWater$Aqueduct"
  | _ => .object "ArchWater$Aqueduct"
abbrev wsX20 : List Cond := u_ws RX2 TX2 2
theorem nmX2 : ∀ a, a < 2 → ∀ b, b < 2 → a ≠ b → (TX2 a).2.1 ≠ (TX2 b).2.1 := by decide +kernel
theorem tyX2_ok : ∀ k, k < 2 → parseFieldDescriptor (TX2 k).2.2.1 = some (tyX2 k) := by decide +kernel
abbrev cX2_init : ByteArray := prog_1_method_1_code
def yX2_init : MethodName := ⟨RX2, "<init>", "()V"⟩
abbrev cX2_build : ByteArray := prog_1_method_2_code
def yX2_build : MethodName := ⟨RX2, "build", "(II)I"⟩
abbrev cX2_setSpring : ByteArray := prog_1_method_3_code
def yX2_setSpring : MethodName := ⟨RX2, "setSpring", "(II)I"⟩
abbrev cX2_setCity : ByteArray := prog_1_method_4_code
def yX2_setCity : MethodName := ⟨RX2, "setCity", "(II)I"⟩
abbrev cX2_setCistern : ByteArray := prog_1_method_5_code
def yX2_setCistern : MethodName := ⟨RX2, "setCistern", "(I)I"⟩
abbrev cX2_arch : ByteArray := prog_1_method_6_code
def yX2_arch : MethodName := ⟨RX2, "arch", "(II)I"⟩
abbrev cX2_addMill : ByteArray := prog_1_method_7_code
def yX2_addMill : MethodName := ⟨RX2, "addMill", "(II)I"⟩
abbrev cX2_setSluice : ByteArray := prog_1_method_8_code
def yX2_setSluice : MethodName := ⟨RX2, "setSluice", "(II)I"⟩
abbrev cX2_mill : ByteArray := prog_1_method_9_code
def yX2_mill : MethodName := ⟨RX2, "mill", "(II)I"⟩
abbrev cX2_mend : ByteArray := prog_1_method_10_code
def yX2_mend : MethodName := ⟨RX2, "mend", "(I)I"⟩
abbrev cX2_quake : ByteArray := prog_1_method_11_code
def yX2_quake : MethodName := ⟨RX2, "quake", "(II)I"⟩
abbrev cX2_pass : ByteArray := prog_1_method_12_code
def yX2_pass : MethodName := ⟨RX2, "pass", "(I)I"⟩
abbrev cX2_count : ByteArray := prog_1_method_13_code
def yX2_count : MethodName := ⟨RX2, "count", "(I)I"⟩
abbrev cX2_foresee : ByteArray := prog_1_method_14_code
def yX2_foresee : MethodName := ⟨RX2, "foresee", "(II)I"⟩
abbrev cX2_advise : ByteArray := prog_1_method_15_code
def yX2_advise : MethodName := ⟨RX2, "advise", "(I)I"⟩
abbrev cX2_thirsty : ByteArray := prog_1_method_16_code
def yX2_thirsty : MethodName := ⟨RX2, "thirsty", "()I"⟩
abbrev cX2_worst : ByteArray := prog_1_method_17_code
def yX2_worst : MethodName := ⟨RX2, "worst", "()I"⟩
abbrev cX2_reaches : ByteArray := prog_1_method_18_code
def yX2_reaches : MethodName := ⟨RX2, "reaches", "()D"⟩
abbrev cX2_digest : ByteArray := prog_1_method_19_code
def yX2_digest : MethodName := ⟨RX2, "digest", "()J"⟩
abbrev cX2_digestArch : ByteArray := prog_1_method_20_code
def yX2_digestArch : MethodName := ⟨RX2, "digestArch", "(JI)J"⟩
abbrev cX2_thirstWithClosed : ByteArray := prog_1_method_21_code
def yX2_thirstWithClosed : MethodName := ⟨RX2, "thirstWithClosed", "(II)I"⟩
abbrev cX2_setHour : ByteArray := prog_1_method_22_code
def yX2_setHour : MethodName := ⟨RX2, "setHour", "([III)I"⟩
abbrev cX2_requireArch : ByteArray := prog_1_method_23_code
def yX2_requireArch : MethodName := ⟨RX2, "requireArch", "(I)V"⟩
abbrev cX2_requireIndex : ByteArray := prog_1_method_24_code
def yX2_requireIndex : MethodName := ⟨RX2, "requireIndex", "(II)V"⟩
abbrev cX2_requireRange : ByteArray := prog_1_method_25_code
def yX2_requireRange : MethodName := ⟨RX2, "requireRange", "(III)V"⟩
def RX3 : String := "ArchWaterModel$State"
def TX3 : u_T := fun k => match k with
  | 0 => ("ArchWaterModel$State", "hour", "I", false)
  | 1 => ("ArchWaterModel$State", "cistern", "I", false)
  | 2 => ("ArchWaterModel$State", "holds", "I", false)
  | 3 => ("ArchWaterModel$State", "coins", "I", false)
  | 4 => ("ArchWaterModel$State", "water", "[I", true)
  | 5 => ("ArchWaterModel$State", "wear", "[I", true)
  | 6 => ("ArchWaterModel$State", "drops", "[I", true)
  | 7 => ("ArchWaterModel$State", "leaked", "[I", true)
  | 8 => ("ArchWaterModel$State", "tenths", "[I", true)
  | 9 => ("ArchWaterModel$State", "flour", "[I", true)
  | 10 => ("ArchWaterModel$State", "took", "[I", true)
  | 11 => ("ArchWaterModel$State", "given", "I", false)
  | 12 => ("ArchWaterModel$State", "spilt", "I", false)
  | 13 => ("ArchWaterModel$State", "used", "I", false)
  | 14 => ("ArchWaterModel$State", "drunk", "I", false)
  | 15 => ("ArchWaterModel$State", "thirst", "I", false)
  | _ => ("ArchWaterModel$State", "this$0", "LArchWaterModel;", true)
def tyX3 : Nat → FieldType := fun k => match k with
  | 0 => .int
  | 1 => .int
  | 2 => .int
  | 3 => .int
  | 4 => .array .int
  | 5 => .array .int
  | 6 => .array .int
  | 7 => .array .int
  | 8 => .array .int
  | 9 => .array .int
  | 10 => .array .int
  | 11 => .int
  | 12 => .int
  | 13 => .int
  | 14 => .int
  | 15 => .int
  | _ => .object "ArchWaterModel"
abbrev wsX30 : List Cond := u_ws RX3 TX3 17
theorem nmX3 : ∀ a, a < 17 → ∀ b, b < 17 → a ≠ b → (TX3 a).2.1 ≠ (TX3 b).2.1 := by decide +kernel
theorem tyX3_ok : ∀ k, k < 17 → parseFieldDescriptor (TX3 k).2.2.1 = some (tyX3 k) := by decide +kernel
abbrev cX3_init : ByteArray := prog_6_method_1_code
def yX3_init : MethodName := ⟨RX3, "<init>", "(LArchWaterModel;)V"⟩
abbrev cX3_copy : ByteArray := prog_6_method_2_code
def yX3_copy : MethodName := ⟨RX3, "copy", "([I[I)V"⟩
abbrev cX3_become : ByteArray := prog_6_method_3_code
def yX3_become : MethodName := ⟨RX3, "become", "(LArchWaterModel$State;)V"⟩
abbrev cX3_come : ByteArray := prog_6_method_4_code
def yX3_come : MethodName := ⟨RX3, "come", "(II)I"⟩
abbrev cX3_pass : ByteArray := prog_6_method_5_code
def yX3_pass : MethodName := ⟨RX3, "pass", "()I"⟩
abbrev cX3_grind : ByteArray := prog_6_method_6_code
def yX3_grind : MethodName := ⟨RX3, "grind", "(I)V"⟩
abbrev cX3_over : ByteArray := prog_6_method_7_code
def yX3_over : MethodName := ⟨RX3, "over", "([I)I"⟩
def RX4 : String := "ArchWaterModel"
def TX4 : u_T := fun k => match k with
  | 0 => ("ArchWaterModel", "thrown", "I", false)
  | 1 => ("ArchWaterModel", "spring", "[I", true)
  | 2 => ("ArchWaterModel", "city", "[I", true)
  | 3 => ("ArchWaterModel", "arches", "I", false)
  | 4 => ("ArchWaterModel", "height", "[I", true)
  | 5 => ("ArchWaterModel", "size", "[I", true)
  | 6 => ("ArchWaterModel", "appetite", "[I", true)
  | 7 => ("ArchWaterModel", "s", "LArchWaterModel$State;", true)
  | _ => ("ArchWaterModel", "ahead", "LArchWaterModel$State;", true)
def tyX4 : Nat → FieldType := fun k => match k with
  | 0 => .int
  | 1 => .array .int
  | 2 => .array .int
  | 3 => .int
  | 4 => .array .int
  | 5 => .array .int
  | 6 => .array .int
  | 7 => .object "ArchWaterModel$State"
  | _ => .object "ArchWaterModel$State"
abbrev wsX40 : List Cond := u_ws RX4 TX4 9
theorem nmX4 : ∀ a, a < 9 → ∀ b, b < 9 → a ≠ b → (TX4 a).2.1 ≠ (TX4 b).2.1 := by decide +kernel
theorem tyX4_ok : ∀ k, k < 9 → parseFieldDescriptor (TX4 k).2.2.1 = some (tyX4 k) := by decide +kernel
abbrev cX4_init : ByteArray := prog_5_method_1_code
def yX4_init : MethodName := ⟨RX4, "<init>", "()V"⟩
abbrev cX4_thrown : ByteArray := prog_5_method_2_code
def yX4_thrown : MethodName := ⟨RX4, "thrown", "()I"⟩
abbrev cX4_no : ByteArray := prog_5_method_3_code
def yX4_no : MethodName := ⟨RX4, "no", "(I)I"⟩
abbrev cX4_isIn : ByteArray := prog_5_method_4_code
def yX4_isIn : MethodName := ⟨RX4, "isIn", "(III)Z"⟩
abbrev cX4_isArch : ByteArray := prog_5_method_5_code
def yX4_isArch : MethodName := ⟨RX4, "isArch", "(I)Z"⟩
abbrev cX4_slope : ByteArray := prog_5_method_6_code
def yX4_slope : MethodName := ⟨RX4, "slope", "(I)I"⟩
abbrev cX4_rate : ByteArray := prog_5_method_7_code
def yX4_rate : MethodName := ⟨RX4, "rate", "(I)I"⟩
abbrev cX4_build : ByteArray := prog_5_method_8_code
def yX4_build : MethodName := ⟨RX4, "build", "(II)I"⟩
abbrev cX4_set : ByteArray := prog_5_method_9_code
def yX4_set : MethodName := ⟨RX4, "set", "([III)I"⟩
abbrev cX4_setSpring : ByteArray := prog_5_method_10_code
def yX4_setSpring : MethodName := ⟨RX4, "setSpring", "(II)I"⟩
abbrev cX4_setCity : ByteArray := prog_5_method_11_code
def yX4_setCity : MethodName := ⟨RX4, "setCity", "(II)I"⟩
abbrev cX4_setCistern : ByteArray := prog_5_method_12_code
def yX4_setCistern : MethodName := ⟨RX4, "setCistern", "(I)I"⟩
abbrev cX4_archTold : ByteArray := prog_5_method_13_code
def yX4_archTold : MethodName := ⟨RX4, "archTold", "(II)I"⟩
abbrev cX4_arch : ByteArray := prog_5_method_14_code
def yX4_arch : MethodName := ⟨RX4, "arch", "(II)I"⟩
abbrev cX4_mills : ByteArray := prog_5_method_15_code
def yX4_mills : MethodName := ⟨RX4, "mills", "()I"⟩
abbrev cX4_addMill : ByteArray := prog_5_method_16_code
def yX4_addMill : MethodName := ⟨RX4, "addMill", "(II)I"⟩
abbrev cX4_setSluice : ByteArray := prog_5_method_17_code
def yX4_setSluice : MethodName := ⟨RX4, "setSluice", "(II)I"⟩
abbrev cX4_millTold : ByteArray := prog_5_method_18_code
def yX4_millTold : MethodName := ⟨RX4, "millTold", "(II)I"⟩
abbrev cX4_mill : ByteArray := prog_5_method_19_code
def yX4_mill : MethodName := ⟨RX4, "mill", "(II)I"⟩
abbrev cX4_mend : ByteArray := prog_5_method_20_code
def yX4_mend : MethodName := ⟨RX4, "mend", "(I)I"⟩
abbrev cX4_quake : ByteArray := prog_5_method_21_code
def yX4_quake : MethodName := ⟨RX4, "quake", "(II)I"⟩
abbrev cX4_pass : ByteArray := prog_5_method_22_code
def yX4_pass : MethodName := ⟨RX4, "pass", "(LArchWaterModel$State;I)I"⟩
abbrev cX4_pass_ : ByteArray := prog_5_method_23_code
def yX4_pass_ : MethodName := ⟨RX4, "pass", "(I)I"⟩
abbrev cX4_counted : ByteArray := prog_5_method_24_code
def yX4_counted : MethodName := ⟨RX4, "counted", "(I)I"⟩
abbrev cX4_count : ByteArray := prog_5_method_25_code
def yX4_count : MethodName := ⟨RX4, "count", "(I)I"⟩
abbrev cX4_foresee : ByteArray := prog_5_method_26_code
def yX4_foresee : MethodName := ⟨RX4, "foresee", "(II)I"⟩
abbrev cX4_advise : ByteArray := prog_5_method_27_code
def yX4_advise : MethodName := ⟨RX4, "advise", "(I)I"⟩
abbrev cX4_thirsty : ByteArray := prog_5_method_28_code
def yX4_thirsty : MethodName := ⟨RX4, "thirsty", "()I"⟩
abbrev cX4_worst : ByteArray := prog_5_method_29_code
def yX4_worst : MethodName := ⟨RX4, "worst", "()I"⟩
abbrev cX4_reaches : ByteArray := prog_5_method_30_code
def yX4_reaches : MethodName := ⟨RX4, "reaches", "()D"⟩
abbrev cX4_digest : ByteArray := prog_5_method_31_code
def yX4_digest : MethodName := ⟨RX4, "digest", "()J"⟩
def RJ9 : String := "java/lang/Math"
def TJ9 : u_T := fun k => match k with
  | _ => ("", "", "", false)
def tyJ9 : Nat → FieldType := fun k => match k with
  | _ => .int
abbrev wsJ90 : List Cond := u_ws RJ9 TJ9 0
theorem nmJ9 : ∀ a, a < 0 → ∀ b, b < 0 → a ≠ b → (TJ9 a).2.1 ≠ (TJ9 b).2.1 := by decide +kernel
theorem tyJ9_ok : ∀ k, k < 0 → parseFieldDescriptor (TJ9 k).2.2.1 = some (tyJ9 k) := by decide +kernel
abbrev cJ9_floorMod_7cf53 : ByteArray := prog_11_method_50_code
def yJ9_floorMod_7cf53 : MethodName := ⟨RJ9, "floorMod", "(II)I"⟩
abbrev cJ9_max_7cf53 : ByteArray := prog_11_method_65_code
def yJ9_max_7cf53 : MethodName := ⟨RJ9, "max", "(II)I"⟩
abbrev cJ9_min_7cf53 : ByteArray := prog_11_method_69_code
def yJ9_min_7cf53 : MethodName := ⟨RJ9, "min", "(II)I"⟩
def RJ0 : String := "java/lang/String"
def TJ0 : u_T := fun k => match k with
  | _ => ("", "", "", false)
def tyJ0 : Nat → FieldType := fun k => match k with
  | _ => .int
abbrev wsJ00 : List Cond := u_ws RJ0 TJ0 0
theorem nmJ0 : ∀ a, a < 0 → ∀ b, b < 0 → a ≠ b → (TJ0 a).2.1 ≠ (TJ0 b).2.1 := by decide +kernel
theorem tyJ0_ok : ∀ k, k < 0 → parseFieldDescriptor (TJ0 k).2.2.1 = some (tyJ0 k) := by decide +kernel
def RJ10 : String := "java/lang/System"
def TJ10 : u_T := fun k => match k with
  | _ => ("", "", "", false)
def tyJ10 : Nat → FieldType := fun k => match k with
  | _ => .int
abbrev wsJ100 : List Cond := u_ws RJ10 TJ10 0
theorem nmJ10 : ∀ a, a < 0 → ∀ b, b < 0 → a ≠ b → (TJ10 a).2.1 ≠ (TJ10 b).2.1 := by decide +kernel
theorem tyJ10_ok : ∀ k, k < 0 → parseFieldDescriptor (TJ10 k).2.2.1 = some (tyJ10 k) := by decide +kernel
def RL : String := "ArchWaterLaw"
abbrev cL_build : ByteArray := method_3_code
def yL_build : MethodName := ⟨RL, "build", "(LArchWater;II[J)I"⟩
abbrev cL_setSpring : ByteArray := method_4_code
def yL_setSpring : MethodName := ⟨RL, "setSpring", "(LArchWater;II[J)I"⟩
abbrev cL_setCity : ByteArray := method_5_code
def yL_setCity : MethodName := ⟨RL, "setCity", "(LArchWater;II[J)I"⟩
abbrev cL_setCistern : ByteArray := method_6_code
def yL_setCistern : MethodName := ⟨RL, "setCistern", "(LArchWater;I[J)I"⟩
abbrev cL_arch : ByteArray := method_7_code
def yL_arch : MethodName := ⟨RL, "arch", "(LArchWater;II[J)I"⟩
abbrev cL_addMill : ByteArray := method_8_code
def yL_addMill : MethodName := ⟨RL, "addMill", "(LArchWater;II[J)I"⟩
abbrev cL_setSluice : ByteArray := method_9_code
def yL_setSluice : MethodName := ⟨RL, "setSluice", "(LArchWater;II[J)I"⟩
abbrev cL_mill : ByteArray := method_10_code
def yL_mill : MethodName := ⟨RL, "mill", "(LArchWater;II[J)I"⟩
abbrev cL_mend : ByteArray := method_11_code
def yL_mend : MethodName := ⟨RL, "mend", "(LArchWater;I[J)I"⟩
abbrev cL_quake : ByteArray := method_12_code
def yL_quake : MethodName := ⟨RL, "quake", "(LArchWater;II[J)I"⟩
abbrev cL_pass : ByteArray := method_13_code
def yL_pass : MethodName := ⟨RL, "pass", "(LArchWater;I[J)I"⟩
abbrev cL_count : ByteArray := method_14_code
def yL_count : MethodName := ⟨RL, "count", "(LArchWater;I[J)I"⟩
abbrev cL_foresee : ByteArray := method_15_code
def yL_foresee : MethodName := ⟨RL, "foresee", "(LArchWater;II[J)I"⟩
abbrev cL_advise : ByteArray := method_16_code
def yL_advise : MethodName := ⟨RL, "advise", "(LArchWater;I[J)I"⟩
abbrev cL_law : ByteArray := code
def yL_law : MethodName := ⟨RL, "law", "([I)Z"⟩
def wsX1_init : List Cond := .code yX1_init cX1_init 1 none :: ([.methodLink RX1 3 objectInit, .instanceMethod objectInit, .code objectInit ⟨#[0xb1]⟩ 1 none])
def wsX0_init : List Cond := .code yX0_init cX0_init 2 none :: ([.methodLink RX0 3 objectInit, .instanceMethod objectInit, .code objectInit ⟨#[0xb1]⟩ 1 none, .arrayClass .int, .fieldLink RX0 9 "ArchWater$Aqueduct" "springTable" "[I", .fieldLink RX0 15 "ArchWater$Aqueduct" "cityTable" "[I", .classLink RX0 18 RX1, .fieldLink RX0 20 "ArchWater$Aqueduct" "row" "[LArchWater$Arch;", .fieldLink RX0 24 "ArchWater$Aqueduct" "holds" "I", .instantiable RX1 10, .initialized RX1, .instanceMethod yX1_init, .code yX1_init cX1_init 1 none, .methodLink RX1 3 objectInit] ++ wsX00 ++ wsX10)
def wsX1_copyFrom : List Cond := .code yX1_copyFrom cX1_copyFrom 2 none :: ([.fieldLink RX1 9 "ArchWater$Arch" "height" "I", .fieldLink RX1 15 "ArchWater$Arch" "size" "I", .fieldLink RX1 18 "ArchWater$Arch" "water" "I", .fieldLink RX1 21 "ArchWater$Arch" "wear" "I", .fieldLink RX1 24 "ArchWater$Arch" "drops" "I", .fieldLink RX1 27 "ArchWater$Arch" "leaked" "I", .fieldLink RX1 30 "ArchWater$Arch" "appetite" "I", .fieldLink RX1 33 "ArchWater$Arch" "tenths" "I", .fieldLink RX1 36 "ArchWater$Arch" "flour" "I", .fieldLink RX1 39 "ArchWater$Arch" "took" "I"] ++ wsX10)
def wsX0_copyFrom_r1 : List Cond := [Cond.fieldLink RX0 9 "ArchWater$Aqueduct" "springTable" "[I", Cond.methodLink RX0 29 arraycopyName, Cond.native arraycopyName, Cond.static arraycopyName, Cond.initialized "java/lang/System", Cond.fieldLink RX0 15 "ArchWater$Aqueduct" "cityTable" "[I", Cond.fieldLink RX0 35 "ArchWater$Aqueduct" "arches" "I", Cond.fieldLink RX0 20 "ArchWater$Aqueduct" "row" "[LArchWater$Arch;", Cond.fieldLink RX0 42 "ArchWater$Aqueduct" "hour" "I", Cond.fieldLink RX0 45 "ArchWater$Aqueduct" "coins" "I", Cond.fieldLink RX0 24 "ArchWater$Aqueduct" "holds" "I", Cond.fieldLink RX0 48 "ArchWater$Aqueduct" "cistern" "I", Cond.fieldLink RX0 51 "ArchWater$Aqueduct" "given" "I", Cond.fieldLink RX0 54 "ArchWater$Aqueduct" "spilt" "I", Cond.fieldLink RX0 57 "ArchWater$Aqueduct" "used" "I", Cond.fieldLink RX0 60 "ArchWater$Aqueduct" "drunk" "I", Cond.fieldLink RX0 63 "ArchWater$Aqueduct" "thirst" "I", Cond.methodLink RX0 38 yX1_copyFrom, Cond.instanceMethod yX1_copyFrom, Cond.selects RX1 yX1_copyFrom yX1_copyFrom, Cond.initialized RX1, Cond.code yX1_copyFrom cX1_copyFrom 2 none, Cond.fieldLink RX1 9 "ArchWater$Arch" "height" "I", Cond.fieldLink RX1 15 "ArchWater$Arch" "size" "I"]
def wsX0_copyFrom_r2 : List Cond := [Cond.fieldLink RX1 18 "ArchWater$Arch" "water" "I", Cond.fieldLink RX1 21 "ArchWater$Arch" "wear" "I", Cond.fieldLink RX1 24 "ArchWater$Arch" "drops" "I", Cond.fieldLink RX1 27 "ArchWater$Arch" "leaked" "I", Cond.fieldLink RX1 30 "ArchWater$Arch" "appetite" "I", Cond.fieldLink RX1 33 "ArchWater$Arch" "tenths" "I", Cond.fieldLink RX1 36 "ArchWater$Arch" "flour" "I", Cond.fieldLink RX1 39 "ArchWater$Arch" "took" "I"]
def wsX0_copyFrom : List Cond := .code yX0_copyFrom cX0_copyFrom 3 none :: ((wsX0_copyFrom_r1 ++ wsX0_copyFrom_r2) ++ wsX00 ++ wsX10)
def wsX0_archAt : List Cond := .code yX0_archAt cX0_archAt 2 (some (.object "ArchWater$Arch")) :: ([.fieldLink RX0 20 "ArchWater$Aqueduct" "row" "[LArchWater$Arch;"] ++ wsX00)
def wsX0_mostHeightOfNext : List Cond := .code yX0_mostHeightOfNext cX0_mostHeightOfNext 1 (some .int) :: ([.fieldLink RX0 35 "ArchWater$Aqueduct" "arches" "I", .fieldLink RX0 20 "ArchWater$Aqueduct" "row" "[LArchWater$Arch;", .fieldLink RX0 66 "ArchWater$Arch" "height" "I"] ++ wsX00 ++ wsX10)
def wsX0_addArch : List Cond := .code yX0_addArch cX0_addArch 4 (some .int) :: ([.fieldLink RX0 35 "ArchWater$Aqueduct" "arches" "I", .fieldLink RX0 20 "ArchWater$Aqueduct" "row" "[LArchWater$Arch;", .fieldLink RX0 66 "ArchWater$Arch" "height" "I", .fieldLink RX0 69 "ArchWater$Arch" "size" "I"] ++ wsX00 ++ wsX10)
def wsX0_resizeCistern : List Cond := .code yX0_resizeCistern cX0_resizeCistern 3 (some .int) :: ([.fieldLink RX0 48 "ArchWater$Aqueduct" "cistern" "I", .methodLink RX0 72 Lib.Math.max.name, .static Lib.Math.max.name, .initialized "java/lang/Math", .code Lib.Math.max.name Lib.Math.max.code 2 (some .int), .fieldLink RX0 24 "ArchWater$Aqueduct" "holds" "I", .fieldLink RX0 54 "ArchWater$Aqueduct" "spilt" "I"] ++ wsX00)
def wsJ9_floorMod_7cf53 : List Cond := .code yJ9_floorMod_7cf53 cJ9_floorMod_7cf53 3 (some .int) :: ([])
def wsX0_letCityDrink : List Cond := .code yX0_letCityDrink cX0_letCityDrink 3 none :: ([.fieldLink RX0 48 "ArchWater$Aqueduct" "cistern" "I", .methodLink RX0 103 Lib.Math.min.name, .static Lib.Math.min.name, .initialized "java/lang/Math", .code Lib.Math.min.name Lib.Math.min.code 2 (some .int), .fieldLink RX0 60 "ArchWater$Aqueduct" "drunk" "I", .fieldLink RX0 63 "ArchWater$Aqueduct" "thirst" "I"] ++ wsX00)
def wsX0_slope : List Cond := .code yX0_slope cX0_slope 3 (some .int) :: ([.fieldLink RX0 35 "ArchWater$Aqueduct" "arches" "I", .fieldLink RX0 20 "ArchWater$Aqueduct" "row" "[LArchWater$Arch;", .fieldLink RX0 66 "ArchWater$Arch" "height" "I"] ++ wsX00 ++ wsX10)
def wsX0_rate : List Cond := .code yX0_rate cX0_rate 2 (some .int) :: ([.methodLink RX0 103 Lib.Math.min.name, .static Lib.Math.min.name, .initialized "java/lang/Math", .code Lib.Math.min.name Lib.Math.min.code 2 (some .int), .methodLink RX0 132 yX0_slope, .instanceMethod yX0_slope, .selects RX0 yX0_slope yX0_slope, .initialized RX0, .code yX0_slope cX0_slope 3 (some .int), .fieldLink RX0 35 "ArchWater$Aqueduct" "arches" "I", .fieldLink RX0 20 "ArchWater$Aqueduct" "row" "[LArchWater$Arch;", .fieldLink RX0 66 "ArchWater$Arch" "height" "I"] ++ wsX00 ++ wsX10)
def wsX1_leadToMill : List Cond := .code yX1_leadToMill cX1_leadToMill 2 (some .int) :: ([.fieldLink RX1 33 "ArchWater$Arch" "tenths" "I", .fieldLink RX1 30 "ArchWater$Arch" "appetite" "I", .methodLink RX1 46 Lib.Math.min.name, .static Lib.Math.min.name, .initialized "java/lang/Math", .code Lib.Math.min.name Lib.Math.min.code 2 (some .int), .fieldLink RX1 39 "ArchWater$Arch" "took" "I", .fieldLink RX1 18 "ArchWater$Arch" "water" "I"] ++ wsX10)
def wsX1_fill : List Cond := .code yX1_fill cX1_fill 3 (some .int) :: ([.fieldLink RX1 15 "ArchWater$Arch" "size" "I", .fieldLink RX1 18 "ArchWater$Arch" "water" "I", .methodLink RX1 46 Lib.Math.min.name, .static Lib.Math.min.name, .initialized "java/lang/Math", .code Lib.Math.min.name Lib.Math.min.code 2 (some .int)] ++ wsX10)
def wsX0_pour : List Cond := .code yX0_pour cX0_pour 4 (some .int) :: ([.fieldLink RX0 35 "ArchWater$Aqueduct" "arches" "I", .fieldLink RX0 20 "ArchWater$Aqueduct" "row" "[LArchWater$Arch;", .fieldLink RX0 24 "ArchWater$Aqueduct" "holds" "I", .fieldLink RX0 48 "ArchWater$Aqueduct" "cistern" "I", .methodLink RX0 103 Lib.Math.min.name, .static Lib.Math.min.name, .initialized "java/lang/Math", .code Lib.Math.min.name Lib.Math.min.code 2 (some .int), .methodLink RX0 126 yX1_fill, .instanceMethod yX1_fill, .selects RX1 yX1_fill yX1_fill, .initialized RX1, .code yX1_fill cX1_fill 3 (some .int), .fieldLink RX1 15 "ArchWater$Arch" "size" "I", .fieldLink RX1 18 "ArchWater$Arch" "water" "I", .methodLink RX1 46 Lib.Math.min.name] ++ wsX00 ++ wsX10)
def wsX0_sendOn_r1 : List Cond := [Cond.fieldLink RX0 20 "ArchWater$Aqueduct" "row" "[LArchWater$Arch;", Cond.fieldLink RX0 106 "ArchWater$Arch" "water" "I", Cond.methodLink RX0 103 Lib.Math.min.name, Cond.static Lib.Math.min.name, Cond.initialized "java/lang/Math", Cond.code Lib.Math.min.name Lib.Math.min.code 2 (some .int), Cond.methodLink RX0 109 yX0_rate, Cond.instanceMethod yX0_rate, Cond.selects RX0 yX0_rate yX0_rate, Cond.initialized RX0, Cond.code yX0_rate cX0_rate 2 (some .int), Cond.methodLink RX0 132 yX0_slope, Cond.instanceMethod yX0_slope, Cond.selects RX0 yX0_slope yX0_slope, Cond.code yX0_slope cX0_slope 3 (some .int), Cond.fieldLink RX0 35 "ArchWater$Aqueduct" "arches" "I", Cond.fieldLink RX0 66 "ArchWater$Arch" "height" "I", Cond.methodLink RX0 113 yX1_leadToMill, Cond.instanceMethod yX1_leadToMill, Cond.selects RX1 yX1_leadToMill yX1_leadToMill, Cond.initialized RX1, Cond.code yX1_leadToMill cX1_leadToMill 2 (some .int), Cond.fieldLink RX1 33 "ArchWater$Arch" "tenths" "I", Cond.fieldLink RX1 30 "ArchWater$Arch" "appetite" "I"]
def wsX0_sendOn_r2 : List Cond := [Cond.methodLink RX1 46 Lib.Math.min.name, Cond.fieldLink RX1 39 "ArchWater$Arch" "took" "I", Cond.fieldLink RX1 18 "ArchWater$Arch" "water" "I", Cond.methodLink RX0 116 yX0_pour, Cond.instanceMethod yX0_pour, Cond.selects RX0 yX0_pour yX0_pour, Cond.code yX0_pour cX0_pour 4 (some .int), Cond.fieldLink RX0 24 "ArchWater$Aqueduct" "holds" "I", Cond.fieldLink RX0 48 "ArchWater$Aqueduct" "cistern" "I", Cond.methodLink RX0 126 yX1_fill, Cond.instanceMethod yX1_fill, Cond.selects RX1 yX1_fill yX1_fill, Cond.code yX1_fill cX1_fill 3 (some .int), Cond.fieldLink RX1 15 "ArchWater$Arch" "size" "I"]
def wsX0_sendOn : List Cond := .code yX0_sendOn cX0_sendOn 5 none :: ((wsX0_sendOn_r1 ++ wsX0_sendOn_r2) ++ wsX00 ++ wsX10)
def wsX1_grind : List Cond := .code yX1_grind cX1_grind 2 (some .int) :: ([.fieldLink RX1 36 "ArchWater$Arch" "flour" "I", .fieldLink RX1 39 "ArchWater$Arch" "took" "I"] ++ wsX10)
def wsX0_grindAt_r1 : List Cond := [Cond.fieldLink RX0 20 "ArchWater$Aqueduct" "row" "[LArchWater$Arch;", Cond.fieldLink RX0 119 "ArchWater$Arch" "took" "I", Cond.fieldLink RX0 45 "ArchWater$Aqueduct" "coins" "I", Cond.fieldLink RX0 54 "ArchWater$Aqueduct" "spilt" "I", Cond.fieldLink RX0 57 "ArchWater$Aqueduct" "used" "I", Cond.methodLink RX0 122 yX1_grind, Cond.instanceMethod yX1_grind, Cond.selects RX1 yX1_grind yX1_grind, Cond.initialized RX1, Cond.code yX1_grind cX1_grind 2 (some .int), Cond.fieldLink RX1 36 "ArchWater$Arch" "flour" "I", Cond.fieldLink RX1 39 "ArchWater$Arch" "took" "I", Cond.methodLink RX0 116 yX0_pour, Cond.instanceMethod yX0_pour, Cond.selects RX0 yX0_pour yX0_pour, Cond.initialized RX0, Cond.code yX0_pour cX0_pour 4 (some .int), Cond.fieldLink RX0 35 "ArchWater$Aqueduct" "arches" "I", Cond.fieldLink RX0 24 "ArchWater$Aqueduct" "holds" "I", Cond.fieldLink RX0 48 "ArchWater$Aqueduct" "cistern" "I", Cond.methodLink RX0 103 Lib.Math.min.name, Cond.static Lib.Math.min.name, Cond.initialized "java/lang/Math", Cond.code Lib.Math.min.name Lib.Math.min.code 2 (some .int)]
def wsX0_grindAt_r2 : List Cond := [Cond.methodLink RX0 126 yX1_fill, Cond.instanceMethod yX1_fill, Cond.selects RX1 yX1_fill yX1_fill, Cond.code yX1_fill cX1_fill 3 (some .int), Cond.fieldLink RX1 15 "ArchWater$Arch" "size" "I", Cond.fieldLink RX1 18 "ArchWater$Arch" "water" "I", Cond.methodLink RX1 46 Lib.Math.min.name]
def wsX0_grindAt : List Cond := .code yX0_grindAt cX0_grindAt 4 none :: ((wsX0_grindAt_r1 ++ wsX0_grindAt_r2) ++ wsX00 ++ wsX10)
def wsX0_letSpringGive : List Cond := .code yX0_letSpringGive cX0_letSpringGive 3 none :: ([.fieldLink RX0 51 "ArchWater$Aqueduct" "given" "I", .fieldLink RX0 35 "ArchWater$Aqueduct" "arches" "I", .fieldLink RX0 20 "ArchWater$Aqueduct" "row" "[LArchWater$Arch;", .fieldLink RX0 54 "ArchWater$Aqueduct" "spilt" "I", .methodLink RX0 126 yX1_fill, .instanceMethod yX1_fill, .selects RX1 yX1_fill yX1_fill, .initialized RX1, .code yX1_fill cX1_fill 3 (some .int), .fieldLink RX1 15 "ArchWater$Arch" "size" "I", .fieldLink RX1 18 "ArchWater$Arch" "water" "I", .methodLink RX1 46 Lib.Math.min.name, .static Lib.Math.min.name, .initialized "java/lang/Math", .code Lib.Math.min.name Lib.Math.min.code 2 (some .int)] ++ wsX00 ++ wsX10)
def wsX1_leak : List Cond := .code yX1_leak cX1_leak 2 none :: ([.fieldLink RX1 24 "ArchWater$Arch" "drops" "I", .fieldLink RX1 18 "ArchWater$Arch" "water" "I", .fieldLink RX1 21 "ArchWater$Arch" "wear" "I", .methodLink RX1 46 Lib.Math.min.name, .static Lib.Math.min.name, .initialized "java/lang/Math", .code Lib.Math.min.name Lib.Math.min.code 2 (some .int), .fieldLink RX1 27 "ArchWater$Arch" "leaked" "I"] ++ wsX10)
def wsX1_hasMill : List Cond := .code yX1_hasMill cX1_hasMill 1 (some .boolean) :: ([.fieldLink RX1 30 "ArchWater$Arch" "appetite" "I"] ++ wsX10)
def wsX1_hasOpenSluice : List Cond := .code yX1_hasOpenSluice cX1_hasOpenSluice 1 (some .boolean) :: ([.fieldLink RX1 33 "ArchWater$Arch" "tenths" "I", .methodLink RX1 42 yX1_hasMill, .instanceMethod yX1_hasMill, .selects RX1 yX1_hasMill yX1_hasMill, .initialized RX1, .code yX1_hasMill cX1_hasMill 1 (some .boolean), .fieldLink RX1 30 "ArchWater$Arch" "appetite" "I"] ++ wsX10)
def wsX1_wearBy : List Cond := .code yX1_wearBy cX1_wearBy 2 none :: ([.fieldLink RX1 21 "ArchWater$Arch" "wear" "I", .methodLink RX1 46 Lib.Math.min.name, .static Lib.Math.min.name, .initialized "java/lang/Math", .code Lib.Math.min.name Lib.Math.min.code 2 (some .int)] ++ wsX10)
def wsX1_wearOfDay : List Cond := .code yX1_wearOfDay cX1_wearOfDay 1 none :: ([.fieldLink RX1 18 "ArchWater$Arch" "water" "I", .methodLink RX1 52 yX1_hasOpenSluice, .instanceMethod yX1_hasOpenSluice, .selects RX1 yX1_hasOpenSluice yX1_hasOpenSluice, .initialized RX1, .code yX1_hasOpenSluice cX1_hasOpenSluice 1 (some .boolean), .fieldLink RX1 33 "ArchWater$Arch" "tenths" "I", .methodLink RX1 42 yX1_hasMill, .instanceMethod yX1_hasMill, .selects RX1 yX1_hasMill yX1_hasMill, .code yX1_hasMill cX1_hasMill 1 (some .boolean), .fieldLink RX1 30 "ArchWater$Arch" "appetite" "I", .methodLink RX1 55 yX1_wearBy, .instanceMethod yX1_wearBy, .selects RX1 yX1_wearBy yX1_wearBy, .code yX1_wearBy cX1_wearBy 2 none, .fieldLink RX1 21 "ArchWater$Arch" "wear" "I", .methodLink RX1 46 Lib.Math.min.name, .static Lib.Math.min.name, .initialized "java/lang/Math", .code Lib.Math.min.name Lib.Math.min.code 2 (some .int)] ++ wsX10)
def wsX0_wearAll_r1 : List Cond := [Cond.fieldLink RX0 35 "ArchWater$Aqueduct" "arches" "I", Cond.fieldLink RX0 20 "ArchWater$Aqueduct" "row" "[LArchWater$Arch;", Cond.methodLink RX0 129 yX1_wearOfDay, Cond.instanceMethod yX1_wearOfDay, Cond.selects RX1 yX1_wearOfDay yX1_wearOfDay, Cond.initialized RX1, Cond.code yX1_wearOfDay cX1_wearOfDay 1 none, Cond.fieldLink RX1 18 "ArchWater$Arch" "water" "I", Cond.methodLink RX1 52 yX1_hasOpenSluice, Cond.instanceMethod yX1_hasOpenSluice, Cond.selects RX1 yX1_hasOpenSluice yX1_hasOpenSluice, Cond.code yX1_hasOpenSluice cX1_hasOpenSluice 1 (some .boolean), Cond.fieldLink RX1 33 "ArchWater$Arch" "tenths" "I", Cond.methodLink RX1 42 yX1_hasMill, Cond.instanceMethod yX1_hasMill, Cond.selects RX1 yX1_hasMill yX1_hasMill, Cond.code yX1_hasMill cX1_hasMill 1 (some .boolean), Cond.fieldLink RX1 30 "ArchWater$Arch" "appetite" "I", Cond.methodLink RX1 55 yX1_wearBy, Cond.instanceMethod yX1_wearBy, Cond.selects RX1 yX1_wearBy yX1_wearBy, Cond.code yX1_wearBy cX1_wearBy 2 none, Cond.fieldLink RX1 21 "ArchWater$Arch" "wear" "I", Cond.methodLink RX1 46 Lib.Math.min.name]
def wsX0_wearAll_r2 : List Cond := [Cond.static Lib.Math.min.name, Cond.initialized "java/lang/Math", Cond.code Lib.Math.min.name Lib.Math.min.code 2 (some .int)]
def wsX0_wearAll : List Cond := .code yX0_wearAll cX0_wearAll 2 none :: ((wsX0_wearAll_r1 ++ wsX0_wearAll_r2) ++ wsX00 ++ wsX10)
def wsX0_goOnAnHour_r1 : List Cond := [Cond.fieldLink RX0 42 "ArchWater$Aqueduct" "hour" "I", Cond.fieldLink RX0 15 "ArchWater$Aqueduct" "cityTable" "[I", Cond.fieldLink RX0 35 "ArchWater$Aqueduct" "arches" "I", Cond.fieldLink RX0 9 "ArchWater$Aqueduct" "springTable" "[I", Cond.fieldLink RX0 20 "ArchWater$Aqueduct" "row" "[LArchWater$Arch;", Cond.methodLink RX0 81 yJ9_floorMod_7cf53, Cond.static yJ9_floorMod_7cf53, Cond.initialized RJ9, Cond.code yJ9_floorMod_7cf53 cJ9_floorMod_7cf53 3 (some .int), Cond.methodLink RX0 84 yX0_letCityDrink, Cond.instanceMethod yX0_letCityDrink, Cond.selects RX0 yX0_letCityDrink yX0_letCityDrink, Cond.initialized RX0, Cond.code yX0_letCityDrink cX0_letCityDrink 3 none, Cond.fieldLink RX0 48 "ArchWater$Aqueduct" "cistern" "I", Cond.methodLink RX0 103 Lib.Math.min.name, Cond.static Lib.Math.min.name, Cond.initialized "java/lang/Math", Cond.code Lib.Math.min.name Lib.Math.min.code 2 (some .int), Cond.fieldLink RX0 60 "ArchWater$Aqueduct" "drunk" "I", Cond.fieldLink RX0 63 "ArchWater$Aqueduct" "thirst" "I", Cond.methodLink RX0 88 yX0_sendOn, Cond.instanceMethod yX0_sendOn, Cond.selects RX0 yX0_sendOn yX0_sendOn]
def wsX0_goOnAnHour_r2 : List Cond := [Cond.code yX0_sendOn cX0_sendOn 5 none, Cond.fieldLink RX0 106 "ArchWater$Arch" "water" "I", Cond.methodLink RX0 109 yX0_rate, Cond.instanceMethod yX0_rate, Cond.selects RX0 yX0_rate yX0_rate, Cond.code yX0_rate cX0_rate 2 (some .int), Cond.methodLink RX0 132 yX0_slope, Cond.instanceMethod yX0_slope, Cond.selects RX0 yX0_slope yX0_slope, Cond.code yX0_slope cX0_slope 3 (some .int), Cond.fieldLink RX0 66 "ArchWater$Arch" "height" "I", Cond.methodLink RX0 113 yX1_leadToMill, Cond.instanceMethod yX1_leadToMill, Cond.selects RX1 yX1_leadToMill yX1_leadToMill, Cond.initialized RX1, Cond.code yX1_leadToMill cX1_leadToMill 2 (some .int), Cond.fieldLink RX1 33 "ArchWater$Arch" "tenths" "I", Cond.fieldLink RX1 30 "ArchWater$Arch" "appetite" "I", Cond.methodLink RX1 46 Lib.Math.min.name, Cond.fieldLink RX1 39 "ArchWater$Arch" "took" "I", Cond.fieldLink RX1 18 "ArchWater$Arch" "water" "I", Cond.methodLink RX0 116 yX0_pour, Cond.instanceMethod yX0_pour, Cond.selects RX0 yX0_pour yX0_pour]
def wsX0_goOnAnHour_r3 : List Cond := [Cond.code yX0_pour cX0_pour 4 (some .int), Cond.fieldLink RX0 24 "ArchWater$Aqueduct" "holds" "I", Cond.methodLink RX0 126 yX1_fill, Cond.instanceMethod yX1_fill, Cond.selects RX1 yX1_fill yX1_fill, Cond.code yX1_fill cX1_fill 3 (some .int), Cond.fieldLink RX1 15 "ArchWater$Arch" "size" "I", Cond.methodLink RX0 91 yX0_grindAt, Cond.instanceMethod yX0_grindAt, Cond.selects RX0 yX0_grindAt yX0_grindAt, Cond.code yX0_grindAt cX0_grindAt 4 none, Cond.fieldLink RX0 119 "ArchWater$Arch" "took" "I", Cond.fieldLink RX0 45 "ArchWater$Aqueduct" "coins" "I", Cond.fieldLink RX0 54 "ArchWater$Aqueduct" "spilt" "I", Cond.fieldLink RX0 57 "ArchWater$Aqueduct" "used" "I", Cond.methodLink RX0 122 yX1_grind, Cond.instanceMethod yX1_grind, Cond.selects RX1 yX1_grind yX1_grind, Cond.code yX1_grind cX1_grind 2 (some .int), Cond.fieldLink RX1 36 "ArchWater$Arch" "flour" "I", Cond.methodLink RX0 94 yX0_letSpringGive, Cond.instanceMethod yX0_letSpringGive, Cond.selects RX0 yX0_letSpringGive yX0_letSpringGive, Cond.code yX0_letSpringGive cX0_letSpringGive 3 none]
def wsX0_goOnAnHour_r4 : List Cond := [Cond.fieldLink RX0 51 "ArchWater$Aqueduct" "given" "I", Cond.methodLink RX0 97 yX1_leak, Cond.instanceMethod yX1_leak, Cond.selects RX1 yX1_leak yX1_leak, Cond.code yX1_leak cX1_leak 2 none, Cond.fieldLink RX1 24 "ArchWater$Arch" "drops" "I", Cond.fieldLink RX1 21 "ArchWater$Arch" "wear" "I", Cond.fieldLink RX1 27 "ArchWater$Arch" "leaked" "I", Cond.methodLink RX0 100 yX0_wearAll, Cond.instanceMethod yX0_wearAll, Cond.selects RX0 yX0_wearAll yX0_wearAll, Cond.code yX0_wearAll cX0_wearAll 2 none, Cond.methodLink RX0 129 yX1_wearOfDay, Cond.instanceMethod yX1_wearOfDay, Cond.selects RX1 yX1_wearOfDay yX1_wearOfDay, Cond.code yX1_wearOfDay cX1_wearOfDay 1 none, Cond.methodLink RX1 52 yX1_hasOpenSluice, Cond.instanceMethod yX1_hasOpenSluice, Cond.selects RX1 yX1_hasOpenSluice yX1_hasOpenSluice, Cond.code yX1_hasOpenSluice cX1_hasOpenSluice 1 (some .boolean), Cond.methodLink RX1 42 yX1_hasMill, Cond.instanceMethod yX1_hasMill, Cond.selects RX1 yX1_hasMill yX1_hasMill, Cond.code yX1_hasMill cX1_hasMill 1 (some .boolean)]
def wsX0_goOnAnHour_r5 : List Cond := [Cond.methodLink RX1 55 yX1_wearBy, Cond.instanceMethod yX1_wearBy, Cond.selects RX1 yX1_wearBy yX1_wearBy, Cond.code yX1_wearBy cX1_wearBy 2 none]
def wsX0_goOnAnHour : List Cond := .code yX0_goOnAnHour cX0_goOnAnHour 3 none :: ((wsX0_goOnAnHour_r1 ++ (wsX0_goOnAnHour_r2 ++ (wsX0_goOnAnHour_r3 ++ (wsX0_goOnAnHour_r4 ++ wsX0_goOnAnHour_r5)))) ++ wsX00 ++ wsX10)
def wsX0_goOn_r1 : List Cond := [Cond.methodLink RX0 78 yX0_goOnAnHour, Cond.instanceMethod yX0_goOnAnHour, Cond.selects RX0 yX0_goOnAnHour yX0_goOnAnHour, Cond.initialized RX0, Cond.code yX0_goOnAnHour cX0_goOnAnHour 3 none, Cond.fieldLink RX0 42 "ArchWater$Aqueduct" "hour" "I", Cond.fieldLink RX0 15 "ArchWater$Aqueduct" "cityTable" "[I", Cond.fieldLink RX0 35 "ArchWater$Aqueduct" "arches" "I", Cond.fieldLink RX0 9 "ArchWater$Aqueduct" "springTable" "[I", Cond.fieldLink RX0 20 "ArchWater$Aqueduct" "row" "[LArchWater$Arch;", Cond.methodLink RX0 81 yJ9_floorMod_7cf53, Cond.static yJ9_floorMod_7cf53, Cond.initialized RJ9, Cond.code yJ9_floorMod_7cf53 cJ9_floorMod_7cf53 3 (some .int), Cond.methodLink RX0 84 yX0_letCityDrink, Cond.instanceMethod yX0_letCityDrink, Cond.selects RX0 yX0_letCityDrink yX0_letCityDrink, Cond.code yX0_letCityDrink cX0_letCityDrink 3 none, Cond.fieldLink RX0 48 "ArchWater$Aqueduct" "cistern" "I", Cond.methodLink RX0 103 Lib.Math.min.name, Cond.static Lib.Math.min.name, Cond.initialized "java/lang/Math", Cond.code Lib.Math.min.name Lib.Math.min.code 2 (some .int), Cond.fieldLink RX0 60 "ArchWater$Aqueduct" "drunk" "I"]
def wsX0_goOn_r2 : List Cond := [Cond.fieldLink RX0 63 "ArchWater$Aqueduct" "thirst" "I", Cond.methodLink RX0 88 yX0_sendOn, Cond.instanceMethod yX0_sendOn, Cond.selects RX0 yX0_sendOn yX0_sendOn, Cond.code yX0_sendOn cX0_sendOn 5 none, Cond.fieldLink RX0 106 "ArchWater$Arch" "water" "I", Cond.methodLink RX0 109 yX0_rate, Cond.instanceMethod yX0_rate, Cond.selects RX0 yX0_rate yX0_rate, Cond.code yX0_rate cX0_rate 2 (some .int), Cond.methodLink RX0 132 yX0_slope, Cond.instanceMethod yX0_slope, Cond.selects RX0 yX0_slope yX0_slope, Cond.code yX0_slope cX0_slope 3 (some .int), Cond.fieldLink RX0 66 "ArchWater$Arch" "height" "I", Cond.methodLink RX0 113 yX1_leadToMill, Cond.instanceMethod yX1_leadToMill, Cond.selects RX1 yX1_leadToMill yX1_leadToMill, Cond.initialized RX1, Cond.code yX1_leadToMill cX1_leadToMill 2 (some .int), Cond.fieldLink RX1 33 "ArchWater$Arch" "tenths" "I", Cond.fieldLink RX1 30 "ArchWater$Arch" "appetite" "I", Cond.methodLink RX1 46 Lib.Math.min.name, Cond.fieldLink RX1 39 "ArchWater$Arch" "took" "I"]
def wsX0_goOn_r3 : List Cond := [Cond.fieldLink RX1 18 "ArchWater$Arch" "water" "I", Cond.methodLink RX0 116 yX0_pour, Cond.instanceMethod yX0_pour, Cond.selects RX0 yX0_pour yX0_pour, Cond.code yX0_pour cX0_pour 4 (some .int), Cond.fieldLink RX0 24 "ArchWater$Aqueduct" "holds" "I", Cond.methodLink RX0 126 yX1_fill, Cond.instanceMethod yX1_fill, Cond.selects RX1 yX1_fill yX1_fill, Cond.code yX1_fill cX1_fill 3 (some .int), Cond.fieldLink RX1 15 "ArchWater$Arch" "size" "I", Cond.methodLink RX0 91 yX0_grindAt, Cond.instanceMethod yX0_grindAt, Cond.selects RX0 yX0_grindAt yX0_grindAt, Cond.code yX0_grindAt cX0_grindAt 4 none, Cond.fieldLink RX0 119 "ArchWater$Arch" "took" "I", Cond.fieldLink RX0 45 "ArchWater$Aqueduct" "coins" "I", Cond.fieldLink RX0 54 "ArchWater$Aqueduct" "spilt" "I", Cond.fieldLink RX0 57 "ArchWater$Aqueduct" "used" "I", Cond.methodLink RX0 122 yX1_grind, Cond.instanceMethod yX1_grind, Cond.selects RX1 yX1_grind yX1_grind, Cond.code yX1_grind cX1_grind 2 (some .int), Cond.fieldLink RX1 36 "ArchWater$Arch" "flour" "I"]
def wsX0_goOn_r4 : List Cond := [Cond.methodLink RX0 94 yX0_letSpringGive, Cond.instanceMethod yX0_letSpringGive, Cond.selects RX0 yX0_letSpringGive yX0_letSpringGive, Cond.code yX0_letSpringGive cX0_letSpringGive 3 none, Cond.fieldLink RX0 51 "ArchWater$Aqueduct" "given" "I", Cond.methodLink RX0 97 yX1_leak, Cond.instanceMethod yX1_leak, Cond.selects RX1 yX1_leak yX1_leak, Cond.code yX1_leak cX1_leak 2 none, Cond.fieldLink RX1 24 "ArchWater$Arch" "drops" "I", Cond.fieldLink RX1 21 "ArchWater$Arch" "wear" "I", Cond.fieldLink RX1 27 "ArchWater$Arch" "leaked" "I", Cond.methodLink RX0 100 yX0_wearAll, Cond.instanceMethod yX0_wearAll, Cond.selects RX0 yX0_wearAll yX0_wearAll, Cond.code yX0_wearAll cX0_wearAll 2 none, Cond.methodLink RX0 129 yX1_wearOfDay, Cond.instanceMethod yX1_wearOfDay, Cond.selects RX1 yX1_wearOfDay yX1_wearOfDay, Cond.code yX1_wearOfDay cX1_wearOfDay 1 none, Cond.methodLink RX1 52 yX1_hasOpenSluice, Cond.instanceMethod yX1_hasOpenSluice, Cond.selects RX1 yX1_hasOpenSluice yX1_hasOpenSluice, Cond.code yX1_hasOpenSluice cX1_hasOpenSluice 1 (some .boolean)]
def wsX0_goOn_r5 : List Cond := [Cond.methodLink RX1 42 yX1_hasMill, Cond.instanceMethod yX1_hasMill, Cond.selects RX1 yX1_hasMill yX1_hasMill, Cond.code yX1_hasMill cX1_hasMill 1 (some .boolean), Cond.methodLink RX1 55 yX1_wearBy, Cond.instanceMethod yX1_wearBy, Cond.selects RX1 yX1_wearBy yX1_wearBy, Cond.code yX1_wearBy cX1_wearBy 2 none]
def wsX0_goOn : List Cond := .code yX0_goOn cX0_goOn 3 none :: ((wsX0_goOn_r1 ++ (wsX0_goOn_r2 ++ (wsX0_goOn_r3 ++ (wsX0_goOn_r4 ++ wsX0_goOn_r5)))) ++ wsX00 ++ wsX10)
def wsX0_mills : List Cond := .code yX0_mills cX0_mills 3 (some .int) :: ([.fieldLink RX0 35 "ArchWater$Aqueduct" "arches" "I", .fieldLink RX0 20 "ArchWater$Aqueduct" "row" "[LArchWater$Arch;", .methodLink RX0 135 yX1_hasMill, .instanceMethod yX1_hasMill, .selects RX1 yX1_hasMill yX1_hasMill, .initialized RX1, .code yX1_hasMill cX1_hasMill 1 (some .boolean), .fieldLink RX1 30 "ArchWater$Arch" "appetite" "I"] ++ wsX00 ++ wsX10)
def wsX0_water : List Cond := .code yX0_water cX0_water 3 (some .int) :: ([.fieldLink RX0 35 "ArchWater$Aqueduct" "arches" "I", .fieldLink RX0 20 "ArchWater$Aqueduct" "row" "[LArchWater$Arch;", .fieldLink RX0 106 "ArchWater$Arch" "water" "I"] ++ wsX00 ++ wsX10)
def wsX0_leaked : List Cond := .code yX0_leaked cX0_leaked 3 (some .int) :: ([.fieldLink RX0 35 "ArchWater$Aqueduct" "arches" "I", .fieldLink RX0 20 "ArchWater$Aqueduct" "row" "[LArchWater$Arch;", .fieldLink RX0 139 "ArchWater$Arch" "leaked" "I"] ++ wsX00 ++ wsX10)
def wsX0_flour : List Cond := .code yX0_flour cX0_flour 3 (some .int) :: ([.fieldLink RX0 35 "ArchWater$Aqueduct" "arches" "I", .fieldLink RX0 20 "ArchWater$Aqueduct" "row" "[LArchWater$Arch;", .fieldLink RX0 142 "ArchWater$Arch" "flour" "I"] ++ wsX00 ++ wsX10)
def wsX0_archNumber_r1 : List Cond := [Cond.fieldLink RX0 20 "ArchWater$Aqueduct" "row" "[LArchWater$Arch;", Cond.fieldLink RX0 66 "ArchWater$Arch" "height" "I", Cond.fieldLink RX0 69 "ArchWater$Arch" "size" "I", Cond.fieldLink RX0 106 "ArchWater$Arch" "water" "I", Cond.fieldLink RX0 145 "ArchWater$Arch" "wear" "I", Cond.fieldLink RX0 148 "ArchWater$Arch" "drops" "I", Cond.fieldLink RX0 139 "ArchWater$Arch" "leaked" "I", Cond.methodLink RX0 132 yX0_slope, Cond.instanceMethod yX0_slope, Cond.selects RX0 yX0_slope yX0_slope, Cond.initialized RX0, Cond.code yX0_slope cX0_slope 3 (some .int), Cond.fieldLink RX0 35 "ArchWater$Aqueduct" "arches" "I", Cond.methodLink RX0 109 yX0_rate, Cond.instanceMethod yX0_rate, Cond.selects RX0 yX0_rate yX0_rate, Cond.code yX0_rate cX0_rate 2 (some .int), Cond.methodLink RX0 103 Lib.Math.min.name, Cond.static Lib.Math.min.name, Cond.initialized "java/lang/Math", Cond.code Lib.Math.min.name Lib.Math.min.code 2 (some .int), Cond.methodLink RX0 135 yX1_hasMill, Cond.instanceMethod yX1_hasMill, Cond.selects RX1 yX1_hasMill yX1_hasMill]
def wsX0_archNumber_r2 : List Cond := [Cond.initialized RX1, Cond.code yX1_hasMill cX1_hasMill 1 (some .boolean), Cond.fieldLink RX1 30 "ArchWater$Arch" "appetite" "I"]
def wsX0_archNumber : List Cond := .code yX0_archNumber cX0_archNumber 4 (some .int) :: ((wsX0_archNumber_r1 ++ wsX0_archNumber_r2) ++ wsX00 ++ wsX10)
def wsX0_countNumber_r1 : List Cond := [Cond.fieldLink RX0 42 "ArchWater$Aqueduct" "hour" "I", Cond.fieldLink RX0 35 "ArchWater$Aqueduct" "arches" "I", Cond.fieldLink RX0 45 "ArchWater$Aqueduct" "coins" "I", Cond.fieldLink RX0 48 "ArchWater$Aqueduct" "cistern" "I", Cond.fieldLink RX0 51 "ArchWater$Aqueduct" "given" "I", Cond.fieldLink RX0 54 "ArchWater$Aqueduct" "spilt" "I", Cond.fieldLink RX0 57 "ArchWater$Aqueduct" "used" "I", Cond.fieldLink RX0 60 "ArchWater$Aqueduct" "drunk" "I", Cond.fieldLink RX0 63 "ArchWater$Aqueduct" "thirst" "I", Cond.methodLink RX0 151 yX0_mills, Cond.instanceMethod yX0_mills, Cond.selects RX0 yX0_mills yX0_mills, Cond.initialized RX0, Cond.code yX0_mills cX0_mills 3 (some .int), Cond.fieldLink RX0 20 "ArchWater$Aqueduct" "row" "[LArchWater$Arch;", Cond.methodLink RX0 135 yX1_hasMill, Cond.instanceMethod yX1_hasMill, Cond.selects RX1 yX1_hasMill yX1_hasMill, Cond.initialized RX1, Cond.code yX1_hasMill cX1_hasMill 1 (some .boolean), Cond.fieldLink RX1 30 "ArchWater$Arch" "appetite" "I", Cond.methodLink RX0 154 yX0_water, Cond.instanceMethod yX0_water, Cond.selects RX0 yX0_water yX0_water]
def wsX0_countNumber_r2 : List Cond := [Cond.code yX0_water cX0_water 3 (some .int), Cond.fieldLink RX0 106 "ArchWater$Arch" "water" "I", Cond.methodLink RX0 156 yX0_leaked, Cond.instanceMethod yX0_leaked, Cond.selects RX0 yX0_leaked yX0_leaked, Cond.code yX0_leaked cX0_leaked 3 (some .int), Cond.fieldLink RX0 139 "ArchWater$Arch" "leaked" "I"]
def wsX0_countNumber : List Cond := .code yX0_countNumber cX0_countNumber 2 (some .int) :: ((wsX0_countNumber_r1 ++ wsX0_countNumber_r2) ++ wsX00 ++ wsX10)
def wsX1_millNumber : List Cond := .code yX1_millNumber cX1_millNumber 2 (some .int) :: ([.fieldLink RX1 30 "ArchWater$Arch" "appetite" "I", .fieldLink RX1 33 "ArchWater$Arch" "tenths" "I", .fieldLink RX1 36 "ArchWater$Arch" "flour" "I", .fieldLink RX1 39 "ArchWater$Arch" "took" "I", .methodLink RX1 42 yX1_hasMill, .instanceMethod yX1_hasMill, .selects RX1 yX1_hasMill yX1_hasMill, .initialized RX1, .code yX1_hasMill cX1_hasMill 1 (some .boolean)] ++ wsX10)
def wsX2_init : List Cond := .code yX2_init cX2_init 1 none :: ([.methodLink RX2 1 objectInit, .instanceMethod objectInit, .code objectInit ⟨#[0xb1]⟩ 1 none, .classLink RX2 7 RX0, .instantiable RX0 13, .initialized RX0, .fieldLink RX2 10 "ArchWater" "now" "LArchWater$Aqueduct;", .fieldLink RX2 16 "ArchWater" "trial" "LArchWater$Aqueduct;", .methodLink RX2 9 yX0_init, .instanceMethod yX0_init, .code yX0_init cX0_init 2 none, .methodLink RX0 3 objectInit, .arrayClass .int, .fieldLink RX0 9 "ArchWater$Aqueduct" "springTable" "[I", .fieldLink RX0 15 "ArchWater$Aqueduct" "cityTable" "[I", .classLink RX0 18 RX1, .fieldLink RX0 20 "ArchWater$Aqueduct" "row" "[LArchWater$Arch;", .fieldLink RX0 24 "ArchWater$Aqueduct" "holds" "I", .instantiable RX1 10, .initialized RX1, .instanceMethod yX1_init, .code yX1_init cX1_init 1 none, .methodLink RX1 3 objectInit] ++ wsX00 ++ wsX20 ++ wsX10)
def wsX2_requireRange : List Cond := .code yX2_requireRange cX2_requireRange 3 none :: ([.classLink RX2 164 "java/lang/IllegalArgumentException", .initialized "java/lang/IllegalArgumentException"] ++ (vx_atS RX2 168 "java/lang/IllegalArgumentException" ["java/lang/RuntimeException", "java/lang/Exception"]).filter goodWord)
def wsX2_build : List Cond := .code yX2_build cX2_build 3 (some .int) :: ([.classLink RX2 31 "java/lang/IllegalStateException", .initialized "java/lang/IllegalStateException", .fieldLink RX2 10 "ArchWater" "now" "LArchWater$Aqueduct;", .fieldLink RX2 27 "ArchWater$Aqueduct" "arches" "I", .methodLink RX2 19 yX0_mostHeightOfNext, .instanceMethod yX0_mostHeightOfNext, .selects RX0 yX0_mostHeightOfNext yX0_mostHeightOfNext, .initialized RX0, .code yX0_mostHeightOfNext cX0_mostHeightOfNext 1 (some .int), .fieldLink RX0 35 "ArchWater$Aqueduct" "arches" "I", .fieldLink RX0 20 "ArchWater$Aqueduct" "row" "[LArchWater$Arch;", .fieldLink RX0 66 "ArchWater$Arch" "height" "I", .methodLink RX2 23 yX2_requireRange, .static yX2_requireRange, .initialized RX2, .code yX2_requireRange cX2_requireRange 3 none, .classLink RX2 164 "java/lang/IllegalArgumentException", .initialized "java/lang/IllegalArgumentException", .methodLink RX2 38 yX0_addArch, .instanceMethod yX0_addArch, .selects RX0 yX0_addArch yX0_addArch, .code yX0_addArch cX0_addArch 4 (some .int), .fieldLink RX0 69 "ArchWater$Arch" "size" "I"] ++ wsX20 ++ wsX00 ++ wsX10 ++ (vx_atS RX2 35 "java/lang/IllegalStateException" ["java/lang/RuntimeException", "java/lang/Exception"]).filter goodWord ++ (vx_atS RX2 168 "java/lang/IllegalArgumentException" ["java/lang/RuntimeException", "java/lang/Exception"]).filter goodWord)
def wsX2_requireIndex : List Cond := .code yX2_requireIndex cX2_requireIndex 2 none :: ([.classLink RX2 159 "java/lang/IndexOutOfBoundsException", .initialized "java/lang/IndexOutOfBoundsException"] ++ (vx_atS RX2 163 "java/lang/IndexOutOfBoundsException" ["java/lang/RuntimeException", "java/lang/Exception"]).filter goodWord)
def wsX2_setHour : List Cond := .code yX2_setHour cX2_setHour 4 (some .int) :: ([.methodLink RX2 61 yX2_requireIndex, .static yX2_requireIndex, .initialized RX2, .code yX2_requireIndex cX2_requireIndex 2 none, .classLink RX2 159 "java/lang/IndexOutOfBoundsException", .initialized "java/lang/IndexOutOfBoundsException", .methodLink RX2 23 yX2_requireRange, .static yX2_requireRange, .code yX2_requireRange cX2_requireRange 3 none, .classLink RX2 164 "java/lang/IllegalArgumentException", .initialized "java/lang/IllegalArgumentException"] ++ (vx_atS RX2 163 "java/lang/IndexOutOfBoundsException" ["java/lang/RuntimeException", "java/lang/Exception"]).filter goodWord ++ (vx_atS RX2 168 "java/lang/IllegalArgumentException" ["java/lang/RuntimeException", "java/lang/Exception"]).filter goodWord)
def wsX2_setSpring : List Cond := .code yX2_setSpring cX2_setSpring 3 (some .int) :: ([.fieldLink RX2 10 "ArchWater" "now" "LArchWater$Aqueduct;", .fieldLink RX2 42 "ArchWater$Aqueduct" "springTable" "[I", .methodLink RX2 46 yX2_setHour, .static yX2_setHour, .initialized RX2, .code yX2_setHour cX2_setHour 4 (some .int), .methodLink RX2 61 yX2_requireIndex, .static yX2_requireIndex, .code yX2_requireIndex cX2_requireIndex 2 none, .classLink RX2 159 "java/lang/IndexOutOfBoundsException", .initialized "java/lang/IndexOutOfBoundsException", .methodLink RX2 23 yX2_requireRange, .static yX2_requireRange, .code yX2_requireRange cX2_requireRange 3 none, .classLink RX2 164 "java/lang/IllegalArgumentException", .initialized "java/lang/IllegalArgumentException"] ++ wsX20 ++ wsX00 ++ (vx_atS RX2 163 "java/lang/IndexOutOfBoundsException" ["java/lang/RuntimeException", "java/lang/Exception"]).filter goodWord ++ (vx_atS RX2 168 "java/lang/IllegalArgumentException" ["java/lang/RuntimeException", "java/lang/Exception"]).filter goodWord)
def wsX2_setCity : List Cond := .code yX2_setCity cX2_setCity 3 (some .int) :: ([.fieldLink RX2 10 "ArchWater" "now" "LArchWater$Aqueduct;", .fieldLink RX2 50 "ArchWater$Aqueduct" "cityTable" "[I", .methodLink RX2 46 yX2_setHour, .static yX2_setHour, .initialized RX2, .code yX2_setHour cX2_setHour 4 (some .int), .methodLink RX2 61 yX2_requireIndex, .static yX2_requireIndex, .code yX2_requireIndex cX2_requireIndex 2 none, .classLink RX2 159 "java/lang/IndexOutOfBoundsException", .initialized "java/lang/IndexOutOfBoundsException", .methodLink RX2 23 yX2_requireRange, .static yX2_requireRange, .code yX2_requireRange cX2_requireRange 3 none, .classLink RX2 164 "java/lang/IllegalArgumentException", .initialized "java/lang/IllegalArgumentException"] ++ wsX20 ++ wsX00 ++ (vx_atS RX2 163 "java/lang/IndexOutOfBoundsException" ["java/lang/RuntimeException", "java/lang/Exception"]).filter goodWord ++ (vx_atS RX2 168 "java/lang/IllegalArgumentException" ["java/lang/RuntimeException", "java/lang/Exception"]).filter goodWord)
def wsX2_setCistern : List Cond := .code yX2_setCistern cX2_setCistern 2 (some .int) :: ([.fieldLink RX2 10 "ArchWater" "now" "LArchWater$Aqueduct;", .methodLink RX2 23 yX2_requireRange, .static yX2_requireRange, .initialized RX2, .code yX2_requireRange cX2_requireRange 3 none, .classLink RX2 164 "java/lang/IllegalArgumentException", .initialized "java/lang/IllegalArgumentException", .methodLink RX2 53 yX0_resizeCistern, .instanceMethod yX0_resizeCistern, .selects RX0 yX0_resizeCistern yX0_resizeCistern, .initialized RX0, .code yX0_resizeCistern cX0_resizeCistern 3 (some .int), .fieldLink RX0 48 "ArchWater$Aqueduct" "cistern" "I", .methodLink RX0 72 Lib.Math.max.name, .static Lib.Math.max.name, .initialized "java/lang/Math", .code Lib.Math.max.name Lib.Math.max.code 2 (some .int), .fieldLink RX0 24 "ArchWater$Aqueduct" "holds" "I", .fieldLink RX0 54 "ArchWater$Aqueduct" "spilt" "I"] ++ wsX20 ++ wsX00 ++ (vx_atS RX2 168 "java/lang/IllegalArgumentException" ["java/lang/RuntimeException", "java/lang/Exception"]).filter goodWord)
def wsX2_requireArch : List Cond := .code yX2_requireArch cX2_requireArch 2 none :: ([.fieldLink RX2 10 "ArchWater" "now" "LArchWater$Aqueduct;", .fieldLink RX2 27 "ArchWater$Aqueduct" "arches" "I", .methodLink RX2 61 yX2_requireIndex, .static yX2_requireIndex, .initialized RX2, .code yX2_requireIndex cX2_requireIndex 2 none, .classLink RX2 159 "java/lang/IndexOutOfBoundsException", .initialized "java/lang/IndexOutOfBoundsException"] ++ wsX20 ++ wsX00 ++ (vx_atS RX2 163 "java/lang/IndexOutOfBoundsException" ["java/lang/RuntimeException", "java/lang/Exception"]).filter goodWord)
def wsX2_arch_r1 : List Cond := [Cond.fieldLink RX2 10 "ArchWater" "now" "LArchWater$Aqueduct;", Cond.methodLink RX2 57 yX2_requireArch, Cond.instanceMethod yX2_requireArch, Cond.selects RX2 yX2_requireArch yX2_requireArch, Cond.initialized RX2, Cond.code yX2_requireArch cX2_requireArch 2 none, Cond.fieldLink RX2 27 "ArchWater$Aqueduct" "arches" "I", Cond.methodLink RX2 61 yX2_requireIndex, Cond.static yX2_requireIndex, Cond.code yX2_requireIndex cX2_requireIndex 2 none, Cond.classLink RX2 159 "java/lang/IndexOutOfBoundsException", Cond.initialized "java/lang/IndexOutOfBoundsException", Cond.methodLink RX2 65 yX0_archNumber, Cond.instanceMethod yX0_archNumber, Cond.selects RX0 yX0_archNumber yX0_archNumber, Cond.initialized RX0, Cond.code yX0_archNumber cX0_archNumber 4 (some .int), Cond.fieldLink RX0 20 "ArchWater$Aqueduct" "row" "[LArchWater$Arch;", Cond.fieldLink RX0 66 "ArchWater$Arch" "height" "I", Cond.fieldLink RX0 69 "ArchWater$Arch" "size" "I", Cond.fieldLink RX0 106 "ArchWater$Arch" "water" "I", Cond.fieldLink RX0 145 "ArchWater$Arch" "wear" "I", Cond.fieldLink RX0 148 "ArchWater$Arch" "drops" "I", Cond.fieldLink RX0 139 "ArchWater$Arch" "leaked" "I"]
def wsX2_arch_r2 : List Cond := [Cond.methodLink RX0 132 yX0_slope, Cond.instanceMethod yX0_slope, Cond.selects RX0 yX0_slope yX0_slope, Cond.code yX0_slope cX0_slope 3 (some .int), Cond.fieldLink RX0 35 "ArchWater$Aqueduct" "arches" "I", Cond.methodLink RX0 109 yX0_rate, Cond.instanceMethod yX0_rate, Cond.selects RX0 yX0_rate yX0_rate, Cond.code yX0_rate cX0_rate 2 (some .int), Cond.methodLink RX0 103 Lib.Math.min.name, Cond.static Lib.Math.min.name, Cond.initialized "java/lang/Math", Cond.code Lib.Math.min.name Lib.Math.min.code 2 (some .int), Cond.methodLink RX0 135 yX1_hasMill, Cond.instanceMethod yX1_hasMill, Cond.selects RX1 yX1_hasMill yX1_hasMill, Cond.initialized RX1, Cond.code yX1_hasMill cX1_hasMill 1 (some .boolean), Cond.fieldLink RX1 30 "ArchWater$Arch" "appetite" "I"]
def wsX2_arch : List Cond := .code yX2_arch cX2_arch 3 (some .int) :: ((wsX2_arch_r1 ++ wsX2_arch_r2) ++ wsX20 ++ wsX00 ++ wsX10 ++ (vx_atS RX2 163 "java/lang/IndexOutOfBoundsException" ["java/lang/RuntimeException", "java/lang/Exception"]).filter goodWord)
def wsX2_addMill_r1 : List Cond := [Cond.classLink RX2 31 "java/lang/IllegalStateException", Cond.initialized "java/lang/IllegalStateException", Cond.fieldLink RX2 10 "ArchWater" "now" "LArchWater$Aqueduct;", Cond.fieldLink RX2 80 "ArchWater$Arch" "appetite" "I", Cond.methodLink RX2 57 yX2_requireArch, Cond.instanceMethod yX2_requireArch, Cond.selects RX2 yX2_requireArch yX2_requireArch, Cond.initialized RX2, Cond.code yX2_requireArch cX2_requireArch 2 none, Cond.fieldLink RX2 27 "ArchWater$Aqueduct" "arches" "I", Cond.methodLink RX2 61 yX2_requireIndex, Cond.static yX2_requireIndex, Cond.code yX2_requireIndex cX2_requireIndex 2 none, Cond.classLink RX2 159 "java/lang/IndexOutOfBoundsException", Cond.initialized "java/lang/IndexOutOfBoundsException", Cond.methodLink RX2 23 yX2_requireRange, Cond.static yX2_requireRange, Cond.code yX2_requireRange cX2_requireRange 3 none, Cond.classLink RX2 164 "java/lang/IllegalArgumentException", Cond.initialized "java/lang/IllegalArgumentException", Cond.methodLink RX2 68 yX0_archAt, Cond.instanceMethod yX0_archAt, Cond.selects RX0 yX0_archAt yX0_archAt, Cond.initialized RX0]
def wsX2_addMill_r2 : List Cond := [Cond.code yX0_archAt cX0_archAt 2 (some (.object "ArchWater$Arch")), Cond.fieldLink RX0 20 "ArchWater$Aqueduct" "row" "[LArchWater$Arch;", Cond.methodLink RX2 72 yX1_hasMill, Cond.instanceMethod yX1_hasMill, Cond.selects RX1 yX1_hasMill yX1_hasMill, Cond.initialized RX1, Cond.code yX1_hasMill cX1_hasMill 1 (some .boolean), Cond.fieldLink RX1 30 "ArchWater$Arch" "appetite" "I", Cond.methodLink RX2 83 yX0_mills, Cond.instanceMethod yX0_mills, Cond.selects RX0 yX0_mills yX0_mills, Cond.code yX0_mills cX0_mills 3 (some .int), Cond.fieldLink RX0 35 "ArchWater$Aqueduct" "arches" "I", Cond.methodLink RX0 135 yX1_hasMill]
def wsX2_addMill : List Cond := .code yX2_addMill cX2_addMill 4 (some .int) :: ((wsX2_addMill_r1 ++ wsX2_addMill_r2) ++ wsX20 ++ wsX10 ++ wsX00 ++ (vx_atS RX2 35 "java/lang/IllegalStateException" ["java/lang/RuntimeException", "java/lang/Exception"]).filter goodWord ++ (vx_atS RX2 163 "java/lang/IndexOutOfBoundsException" ["java/lang/RuntimeException", "java/lang/Exception"]).filter goodWord ++ (vx_atS RX2 168 "java/lang/IllegalArgumentException" ["java/lang/RuntimeException", "java/lang/Exception"]).filter goodWord)
def wsX2_setSluice_r1 : List Cond := [Cond.classLink RX2 31 "java/lang/IllegalStateException", Cond.initialized "java/lang/IllegalStateException", Cond.fieldLink RX2 10 "ArchWater" "now" "LArchWater$Aqueduct;", Cond.fieldLink RX2 88 "ArchWater$Arch" "tenths" "I", Cond.methodLink RX2 57 yX2_requireArch, Cond.instanceMethod yX2_requireArch, Cond.selects RX2 yX2_requireArch yX2_requireArch, Cond.initialized RX2, Cond.code yX2_requireArch cX2_requireArch 2 none, Cond.fieldLink RX2 27 "ArchWater$Aqueduct" "arches" "I", Cond.methodLink RX2 61 yX2_requireIndex, Cond.static yX2_requireIndex, Cond.code yX2_requireIndex cX2_requireIndex 2 none, Cond.classLink RX2 159 "java/lang/IndexOutOfBoundsException", Cond.initialized "java/lang/IndexOutOfBoundsException", Cond.methodLink RX2 23 yX2_requireRange, Cond.static yX2_requireRange, Cond.code yX2_requireRange cX2_requireRange 3 none, Cond.classLink RX2 164 "java/lang/IllegalArgumentException", Cond.initialized "java/lang/IllegalArgumentException", Cond.methodLink RX2 68 yX0_archAt, Cond.instanceMethod yX0_archAt, Cond.selects RX0 yX0_archAt yX0_archAt, Cond.initialized RX0]
def wsX2_setSluice_r2 : List Cond := [Cond.code yX0_archAt cX0_archAt 2 (some (.object "ArchWater$Arch")), Cond.fieldLink RX0 20 "ArchWater$Aqueduct" "row" "[LArchWater$Arch;", Cond.methodLink RX2 72 yX1_hasMill, Cond.instanceMethod yX1_hasMill, Cond.selects RX1 yX1_hasMill yX1_hasMill, Cond.initialized RX1, Cond.code yX1_hasMill cX1_hasMill 1 (some .boolean), Cond.fieldLink RX1 30 "ArchWater$Arch" "appetite" "I"]
def wsX2_setSluice : List Cond := .code yX2_setSluice cX2_setSluice 5 (some .int) :: ((wsX2_setSluice_r1 ++ wsX2_setSluice_r2) ++ wsX20 ++ wsX10 ++ wsX00 ++ (vx_atS RX2 35 "java/lang/IllegalStateException" ["java/lang/RuntimeException", "java/lang/Exception"]).filter goodWord ++ (vx_atS RX2 163 "java/lang/IndexOutOfBoundsException" ["java/lang/RuntimeException", "java/lang/Exception"]).filter goodWord ++ (vx_atS RX2 168 "java/lang/IllegalArgumentException" ["java/lang/RuntimeException", "java/lang/Exception"]).filter goodWord)
def wsX2_mill_r1 : List Cond := [Cond.fieldLink RX2 10 "ArchWater" "now" "LArchWater$Aqueduct;", Cond.methodLink RX2 57 yX2_requireArch, Cond.instanceMethod yX2_requireArch, Cond.selects RX2 yX2_requireArch yX2_requireArch, Cond.initialized RX2, Cond.code yX2_requireArch cX2_requireArch 2 none, Cond.fieldLink RX2 27 "ArchWater$Aqueduct" "arches" "I", Cond.methodLink RX2 61 yX2_requireIndex, Cond.static yX2_requireIndex, Cond.code yX2_requireIndex cX2_requireIndex 2 none, Cond.classLink RX2 159 "java/lang/IndexOutOfBoundsException", Cond.initialized "java/lang/IndexOutOfBoundsException", Cond.methodLink RX2 68 yX0_archAt, Cond.instanceMethod yX0_archAt, Cond.selects RX0 yX0_archAt yX0_archAt, Cond.initialized RX0, Cond.code yX0_archAt cX0_archAt 2 (some (.object "ArchWater$Arch")), Cond.fieldLink RX0 20 "ArchWater$Aqueduct" "row" "[LArchWater$Arch;", Cond.methodLink RX2 91 yX1_millNumber, Cond.instanceMethod yX1_millNumber, Cond.selects RX1 yX1_millNumber yX1_millNumber, Cond.initialized RX1, Cond.code yX1_millNumber cX1_millNumber 2 (some .int), Cond.fieldLink RX1 30 "ArchWater$Arch" "appetite" "I"]
def wsX2_mill_r2 : List Cond := [Cond.fieldLink RX1 33 "ArchWater$Arch" "tenths" "I", Cond.fieldLink RX1 36 "ArchWater$Arch" "flour" "I", Cond.fieldLink RX1 39 "ArchWater$Arch" "took" "I", Cond.methodLink RX1 42 yX1_hasMill, Cond.instanceMethod yX1_hasMill, Cond.selects RX1 yX1_hasMill yX1_hasMill, Cond.code yX1_hasMill cX1_hasMill 1 (some .boolean)]
def wsX2_mill : List Cond := .code yX2_mill cX2_mill 3 (some .int) :: ((wsX2_mill_r1 ++ wsX2_mill_r2) ++ wsX20 ++ wsX00 ++ wsX10 ++ (vx_atS RX2 163 "java/lang/IndexOutOfBoundsException" ["java/lang/RuntimeException", "java/lang/Exception"]).filter goodWord)
def wsX2_mend_r1 : List Cond := [Cond.classLink RX2 31 "java/lang/IllegalStateException", Cond.initialized "java/lang/IllegalStateException", Cond.fieldLink RX2 10 "ArchWater" "now" "LArchWater$Aqueduct;", Cond.fieldLink RX2 94 "ArchWater$Aqueduct" "coins" "I", Cond.fieldLink RX2 99 "ArchWater$Arch" "wear" "I", Cond.methodLink RX2 104 Lib.Math.max.name, Cond.static Lib.Math.max.name, Cond.initialized "java/lang/Math", Cond.code Lib.Math.max.name Lib.Math.max.code 2 (some .int), Cond.fieldLink RX2 109 "ArchWater$Arch" "drops" "I", Cond.methodLink RX2 57 yX2_requireArch, Cond.instanceMethod yX2_requireArch, Cond.selects RX2 yX2_requireArch yX2_requireArch, Cond.initialized RX2, Cond.code yX2_requireArch cX2_requireArch 2 none, Cond.fieldLink RX2 27 "ArchWater$Aqueduct" "arches" "I", Cond.methodLink RX2 61 yX2_requireIndex, Cond.static yX2_requireIndex, Cond.code yX2_requireIndex cX2_requireIndex 2 none, Cond.classLink RX2 159 "java/lang/IndexOutOfBoundsException", Cond.initialized "java/lang/IndexOutOfBoundsException", Cond.methodLink RX2 68 yX0_archAt, Cond.instanceMethod yX0_archAt, Cond.selects RX0 yX0_archAt yX0_archAt]
def wsX2_mend_r2 : List Cond := [Cond.initialized RX0, Cond.code yX0_archAt cX0_archAt 2 (some (.object "ArchWater$Arch")), Cond.fieldLink RX0 20 "ArchWater$Aqueduct" "row" "[LArchWater$Arch;"]
def wsX2_mend : List Cond := .code yX2_mend cX2_mend 3 (some .int) :: ((wsX2_mend_r1 ++ wsX2_mend_r2) ++ wsX20 ++ wsX00 ++ wsX10 ++ (vx_atS RX2 35 "java/lang/IllegalStateException" ["java/lang/RuntimeException", "java/lang/Exception"]).filter goodWord ++ (vx_atS RX2 163 "java/lang/IndexOutOfBoundsException" ["java/lang/RuntimeException", "java/lang/Exception"]).filter goodWord)
def wsX2_quake_r1 : List Cond := [Cond.fieldLink RX2 10 "ArchWater" "now" "LArchWater$Aqueduct;", Cond.fieldLink RX2 99 "ArchWater$Arch" "wear" "I", Cond.methodLink RX2 57 yX2_requireArch, Cond.instanceMethod yX2_requireArch, Cond.selects RX2 yX2_requireArch yX2_requireArch, Cond.initialized RX2, Cond.code yX2_requireArch cX2_requireArch 2 none, Cond.fieldLink RX2 27 "ArchWater$Aqueduct" "arches" "I", Cond.methodLink RX2 61 yX2_requireIndex, Cond.static yX2_requireIndex, Cond.code yX2_requireIndex cX2_requireIndex 2 none, Cond.classLink RX2 159 "java/lang/IndexOutOfBoundsException", Cond.initialized "java/lang/IndexOutOfBoundsException", Cond.methodLink RX2 23 yX2_requireRange, Cond.static yX2_requireRange, Cond.code yX2_requireRange cX2_requireRange 3 none, Cond.classLink RX2 164 "java/lang/IllegalArgumentException", Cond.initialized "java/lang/IllegalArgumentException", Cond.methodLink RX2 68 yX0_archAt, Cond.instanceMethod yX0_archAt, Cond.selects RX0 yX0_archAt yX0_archAt, Cond.initialized RX0, Cond.code yX0_archAt cX0_archAt 2 (some (.object "ArchWater$Arch")), Cond.fieldLink RX0 20 "ArchWater$Aqueduct" "row" "[LArchWater$Arch;"]
def wsX2_quake_r2 : List Cond := [Cond.methodLink RX2 112 yX1_wearBy, Cond.instanceMethod yX1_wearBy, Cond.selects RX1 yX1_wearBy yX1_wearBy, Cond.initialized RX1, Cond.code yX1_wearBy cX1_wearBy 2 none, Cond.fieldLink RX1 21 "ArchWater$Arch" "wear" "I", Cond.methodLink RX1 46 Lib.Math.min.name, Cond.static Lib.Math.min.name, Cond.initialized "java/lang/Math", Cond.code Lib.Math.min.name Lib.Math.min.code 2 (some .int)]
def wsX2_quake : List Cond := .code yX2_quake cX2_quake 4 (some .int) :: ((wsX2_quake_r1 ++ wsX2_quake_r2) ++ wsX20 ++ wsX10 ++ wsX00 ++ (vx_atS RX2 163 "java/lang/IndexOutOfBoundsException" ["java/lang/RuntimeException", "java/lang/Exception"]).filter goodWord ++ (vx_atS RX2 168 "java/lang/IllegalArgumentException" ["java/lang/RuntimeException", "java/lang/Exception"]).filter goodWord)
def wsX2_pass_r1 : List Cond := [Cond.fieldLink RX2 10 "ArchWater" "now" "LArchWater$Aqueduct;", Cond.fieldLink RX2 115 "ArchWater$Aqueduct" "thirst" "I", Cond.methodLink RX2 23 yX2_requireRange, Cond.static yX2_requireRange, Cond.initialized RX2, Cond.code yX2_requireRange cX2_requireRange 3 none, Cond.classLink RX2 164 "java/lang/IllegalArgumentException", Cond.initialized "java/lang/IllegalArgumentException", Cond.methodLink RX2 118 yX0_goOn, Cond.instanceMethod yX0_goOn, Cond.selects RX0 yX0_goOn yX0_goOn, Cond.initialized RX0, Cond.code yX0_goOn cX0_goOn 3 none, Cond.methodLink RX0 78 yX0_goOnAnHour, Cond.instanceMethod yX0_goOnAnHour, Cond.selects RX0 yX0_goOnAnHour yX0_goOnAnHour, Cond.code yX0_goOnAnHour cX0_goOnAnHour 3 none, Cond.fieldLink RX0 42 "ArchWater$Aqueduct" "hour" "I", Cond.fieldLink RX0 15 "ArchWater$Aqueduct" "cityTable" "[I", Cond.fieldLink RX0 35 "ArchWater$Aqueduct" "arches" "I", Cond.fieldLink RX0 9 "ArchWater$Aqueduct" "springTable" "[I", Cond.fieldLink RX0 20 "ArchWater$Aqueduct" "row" "[LArchWater$Arch;", Cond.methodLink RX0 81 yJ9_floorMod_7cf53, Cond.static yJ9_floorMod_7cf53]
def wsX2_pass_r2 : List Cond := [Cond.initialized RJ9, Cond.code yJ9_floorMod_7cf53 cJ9_floorMod_7cf53 3 (some .int), Cond.methodLink RX0 84 yX0_letCityDrink, Cond.instanceMethod yX0_letCityDrink, Cond.selects RX0 yX0_letCityDrink yX0_letCityDrink, Cond.code yX0_letCityDrink cX0_letCityDrink 3 none, Cond.fieldLink RX0 48 "ArchWater$Aqueduct" "cistern" "I", Cond.methodLink RX0 103 Lib.Math.min.name, Cond.static Lib.Math.min.name, Cond.initialized "java/lang/Math", Cond.code Lib.Math.min.name Lib.Math.min.code 2 (some .int), Cond.fieldLink RX0 60 "ArchWater$Aqueduct" "drunk" "I", Cond.fieldLink RX0 63 "ArchWater$Aqueduct" "thirst" "I", Cond.methodLink RX0 88 yX0_sendOn, Cond.instanceMethod yX0_sendOn, Cond.selects RX0 yX0_sendOn yX0_sendOn, Cond.code yX0_sendOn cX0_sendOn 5 none, Cond.fieldLink RX0 106 "ArchWater$Arch" "water" "I", Cond.methodLink RX0 109 yX0_rate, Cond.instanceMethod yX0_rate, Cond.selects RX0 yX0_rate yX0_rate, Cond.code yX0_rate cX0_rate 2 (some .int), Cond.methodLink RX0 132 yX0_slope, Cond.instanceMethod yX0_slope]
def wsX2_pass_r3 : List Cond := [Cond.selects RX0 yX0_slope yX0_slope, Cond.code yX0_slope cX0_slope 3 (some .int), Cond.fieldLink RX0 66 "ArchWater$Arch" "height" "I", Cond.methodLink RX0 113 yX1_leadToMill, Cond.instanceMethod yX1_leadToMill, Cond.selects RX1 yX1_leadToMill yX1_leadToMill, Cond.initialized RX1, Cond.code yX1_leadToMill cX1_leadToMill 2 (some .int), Cond.fieldLink RX1 33 "ArchWater$Arch" "tenths" "I", Cond.fieldLink RX1 30 "ArchWater$Arch" "appetite" "I", Cond.methodLink RX1 46 Lib.Math.min.name, Cond.fieldLink RX1 39 "ArchWater$Arch" "took" "I", Cond.fieldLink RX1 18 "ArchWater$Arch" "water" "I", Cond.methodLink RX0 116 yX0_pour, Cond.instanceMethod yX0_pour, Cond.selects RX0 yX0_pour yX0_pour, Cond.code yX0_pour cX0_pour 4 (some .int), Cond.fieldLink RX0 24 "ArchWater$Aqueduct" "holds" "I", Cond.methodLink RX0 126 yX1_fill, Cond.instanceMethod yX1_fill, Cond.selects RX1 yX1_fill yX1_fill, Cond.code yX1_fill cX1_fill 3 (some .int), Cond.fieldLink RX1 15 "ArchWater$Arch" "size" "I", Cond.methodLink RX0 91 yX0_grindAt]
def wsX2_pass_r4 : List Cond := [Cond.instanceMethod yX0_grindAt, Cond.selects RX0 yX0_grindAt yX0_grindAt, Cond.code yX0_grindAt cX0_grindAt 4 none, Cond.fieldLink RX0 119 "ArchWater$Arch" "took" "I", Cond.fieldLink RX0 45 "ArchWater$Aqueduct" "coins" "I", Cond.fieldLink RX0 54 "ArchWater$Aqueduct" "spilt" "I", Cond.fieldLink RX0 57 "ArchWater$Aqueduct" "used" "I", Cond.methodLink RX0 122 yX1_grind, Cond.instanceMethod yX1_grind, Cond.selects RX1 yX1_grind yX1_grind, Cond.code yX1_grind cX1_grind 2 (some .int), Cond.fieldLink RX1 36 "ArchWater$Arch" "flour" "I", Cond.methodLink RX0 94 yX0_letSpringGive, Cond.instanceMethod yX0_letSpringGive, Cond.selects RX0 yX0_letSpringGive yX0_letSpringGive, Cond.code yX0_letSpringGive cX0_letSpringGive 3 none, Cond.fieldLink RX0 51 "ArchWater$Aqueduct" "given" "I", Cond.methodLink RX0 97 yX1_leak, Cond.instanceMethod yX1_leak, Cond.selects RX1 yX1_leak yX1_leak, Cond.code yX1_leak cX1_leak 2 none, Cond.fieldLink RX1 24 "ArchWater$Arch" "drops" "I", Cond.fieldLink RX1 21 "ArchWater$Arch" "wear" "I", Cond.fieldLink RX1 27 "ArchWater$Arch" "leaked" "I"]
def wsX2_pass_r5 : List Cond := [Cond.methodLink RX0 100 yX0_wearAll, Cond.instanceMethod yX0_wearAll, Cond.selects RX0 yX0_wearAll yX0_wearAll, Cond.code yX0_wearAll cX0_wearAll 2 none, Cond.methodLink RX0 129 yX1_wearOfDay, Cond.instanceMethod yX1_wearOfDay, Cond.selects RX1 yX1_wearOfDay yX1_wearOfDay, Cond.code yX1_wearOfDay cX1_wearOfDay 1 none, Cond.methodLink RX1 52 yX1_hasOpenSluice, Cond.instanceMethod yX1_hasOpenSluice, Cond.selects RX1 yX1_hasOpenSluice yX1_hasOpenSluice, Cond.code yX1_hasOpenSluice cX1_hasOpenSluice 1 (some .boolean), Cond.methodLink RX1 42 yX1_hasMill, Cond.instanceMethod yX1_hasMill, Cond.selects RX1 yX1_hasMill yX1_hasMill, Cond.code yX1_hasMill cX1_hasMill 1 (some .boolean), Cond.methodLink RX1 55 yX1_wearBy, Cond.instanceMethod yX1_wearBy, Cond.selects RX1 yX1_wearBy yX1_wearBy, Cond.code yX1_wearBy cX1_wearBy 2 none]
def wsX2_pass : List Cond := .code yX2_pass cX2_pass 3 (some .int) :: ((wsX2_pass_r1 ++ (wsX2_pass_r2 ++ (wsX2_pass_r3 ++ (wsX2_pass_r4 ++ wsX2_pass_r5)))) ++ wsX20 ++ wsX00 ++ wsX10 ++ (vx_atS RX2 168 "java/lang/IllegalArgumentException" ["java/lang/RuntimeException", "java/lang/Exception"]).filter goodWord)
def wsX2_count_r1 : List Cond := [Cond.fieldLink RX2 10 "ArchWater" "now" "LArchWater$Aqueduct;", Cond.methodLink RX2 61 yX2_requireIndex, Cond.static yX2_requireIndex, Cond.initialized RX2, Cond.code yX2_requireIndex cX2_requireIndex 2 none, Cond.classLink RX2 159 "java/lang/IndexOutOfBoundsException", Cond.initialized "java/lang/IndexOutOfBoundsException", Cond.methodLink RX2 121 yX0_countNumber, Cond.instanceMethod yX0_countNumber, Cond.selects RX0 yX0_countNumber yX0_countNumber, Cond.initialized RX0, Cond.code yX0_countNumber cX0_countNumber 2 (some .int), Cond.fieldLink RX0 42 "ArchWater$Aqueduct" "hour" "I", Cond.fieldLink RX0 35 "ArchWater$Aqueduct" "arches" "I", Cond.fieldLink RX0 45 "ArchWater$Aqueduct" "coins" "I", Cond.fieldLink RX0 48 "ArchWater$Aqueduct" "cistern" "I", Cond.fieldLink RX0 51 "ArchWater$Aqueduct" "given" "I", Cond.fieldLink RX0 54 "ArchWater$Aqueduct" "spilt" "I", Cond.fieldLink RX0 57 "ArchWater$Aqueduct" "used" "I", Cond.fieldLink RX0 60 "ArchWater$Aqueduct" "drunk" "I", Cond.fieldLink RX0 63 "ArchWater$Aqueduct" "thirst" "I", Cond.methodLink RX0 151 yX0_mills, Cond.instanceMethod yX0_mills, Cond.selects RX0 yX0_mills yX0_mills]
def wsX2_count_r2 : List Cond := [Cond.code yX0_mills cX0_mills 3 (some .int), Cond.fieldLink RX0 20 "ArchWater$Aqueduct" "row" "[LArchWater$Arch;", Cond.methodLink RX0 135 yX1_hasMill, Cond.instanceMethod yX1_hasMill, Cond.selects RX1 yX1_hasMill yX1_hasMill, Cond.initialized RX1, Cond.code yX1_hasMill cX1_hasMill 1 (some .boolean), Cond.fieldLink RX1 30 "ArchWater$Arch" "appetite" "I", Cond.methodLink RX0 154 yX0_water, Cond.instanceMethod yX0_water, Cond.selects RX0 yX0_water yX0_water, Cond.code yX0_water cX0_water 3 (some .int), Cond.fieldLink RX0 106 "ArchWater$Arch" "water" "I", Cond.methodLink RX0 156 yX0_leaked, Cond.instanceMethod yX0_leaked, Cond.selects RX0 yX0_leaked yX0_leaked, Cond.code yX0_leaked cX0_leaked 3 (some .int), Cond.fieldLink RX0 139 "ArchWater$Arch" "leaked" "I"]
def wsX2_count : List Cond := .code yX2_count cX2_count 2 (some .int) :: ((wsX2_count_r1 ++ wsX2_count_r2) ++ wsX20 ++ wsX00 ++ wsX10 ++ (vx_atS RX2 163 "java/lang/IndexOutOfBoundsException" ["java/lang/RuntimeException", "java/lang/Exception"]).filter goodWord)
def wsX2_foresee_r1 : List Cond := [Cond.fieldLink RX2 16 "ArchWater" "trial" "LArchWater$Aqueduct;", Cond.fieldLink RX2 10 "ArchWater" "now" "LArchWater$Aqueduct;", Cond.fieldLink RX2 115 "ArchWater$Aqueduct" "thirst" "I", Cond.fieldLink RX2 131 "ArchWater$Aqueduct" "cistern" "I", Cond.methodLink RX2 23 yX2_requireRange, Cond.static yX2_requireRange, Cond.initialized RX2, Cond.code yX2_requireRange cX2_requireRange 3 none, Cond.classLink RX2 164 "java/lang/IllegalArgumentException", Cond.initialized "java/lang/IllegalArgumentException", Cond.methodLink RX2 61 yX2_requireIndex, Cond.static yX2_requireIndex, Cond.code yX2_requireIndex cX2_requireIndex 2 none, Cond.classLink RX2 159 "java/lang/IndexOutOfBoundsException", Cond.initialized "java/lang/IndexOutOfBoundsException", Cond.methodLink RX2 124 yX0_copyFrom, Cond.instanceMethod yX0_copyFrom, Cond.selects RX0 yX0_copyFrom yX0_copyFrom, Cond.initialized RX0, Cond.code yX0_copyFrom cX0_copyFrom 3 none, Cond.fieldLink RX0 9 "ArchWater$Aqueduct" "springTable" "[I", Cond.methodLink RX0 29 arraycopyName, Cond.native arraycopyName, Cond.static arraycopyName]
def wsX2_foresee_r2 : List Cond := [Cond.initialized "java/lang/System", Cond.fieldLink RX0 15 "ArchWater$Aqueduct" "cityTable" "[I", Cond.fieldLink RX0 35 "ArchWater$Aqueduct" "arches" "I", Cond.fieldLink RX0 20 "ArchWater$Aqueduct" "row" "[LArchWater$Arch;", Cond.fieldLink RX0 42 "ArchWater$Aqueduct" "hour" "I", Cond.fieldLink RX0 45 "ArchWater$Aqueduct" "coins" "I", Cond.fieldLink RX0 24 "ArchWater$Aqueduct" "holds" "I", Cond.fieldLink RX0 48 "ArchWater$Aqueduct" "cistern" "I", Cond.fieldLink RX0 51 "ArchWater$Aqueduct" "given" "I", Cond.fieldLink RX0 54 "ArchWater$Aqueduct" "spilt" "I", Cond.fieldLink RX0 57 "ArchWater$Aqueduct" "used" "I", Cond.fieldLink RX0 60 "ArchWater$Aqueduct" "drunk" "I", Cond.fieldLink RX0 63 "ArchWater$Aqueduct" "thirst" "I", Cond.methodLink RX0 38 yX1_copyFrom, Cond.instanceMethod yX1_copyFrom, Cond.selects RX1 yX1_copyFrom yX1_copyFrom, Cond.initialized RX1, Cond.code yX1_copyFrom cX1_copyFrom 2 none, Cond.fieldLink RX1 9 "ArchWater$Arch" "height" "I", Cond.fieldLink RX1 15 "ArchWater$Arch" "size" "I", Cond.fieldLink RX1 18 "ArchWater$Arch" "water" "I", Cond.fieldLink RX1 21 "ArchWater$Arch" "wear" "I", Cond.fieldLink RX1 24 "ArchWater$Arch" "drops" "I", Cond.fieldLink RX1 27 "ArchWater$Arch" "leaked" "I"]
def wsX2_foresee_r3 : List Cond := [Cond.fieldLink RX1 30 "ArchWater$Arch" "appetite" "I", Cond.fieldLink RX1 33 "ArchWater$Arch" "tenths" "I", Cond.fieldLink RX1 36 "ArchWater$Arch" "flour" "I", Cond.fieldLink RX1 39 "ArchWater$Arch" "took" "I", Cond.methodLink RX2 118 yX0_goOn, Cond.instanceMethod yX0_goOn, Cond.selects RX0 yX0_goOn yX0_goOn, Cond.code yX0_goOn cX0_goOn 3 none, Cond.methodLink RX0 78 yX0_goOnAnHour, Cond.instanceMethod yX0_goOnAnHour, Cond.selects RX0 yX0_goOnAnHour yX0_goOnAnHour, Cond.code yX0_goOnAnHour cX0_goOnAnHour 3 none, Cond.methodLink RX0 81 yJ9_floorMod_7cf53, Cond.static yJ9_floorMod_7cf53, Cond.initialized RJ9, Cond.code yJ9_floorMod_7cf53 cJ9_floorMod_7cf53 3 (some .int), Cond.methodLink RX0 84 yX0_letCityDrink, Cond.instanceMethod yX0_letCityDrink, Cond.selects RX0 yX0_letCityDrink yX0_letCityDrink, Cond.code yX0_letCityDrink cX0_letCityDrink 3 none, Cond.methodLink RX0 103 Lib.Math.min.name, Cond.static Lib.Math.min.name, Cond.initialized "java/lang/Math", Cond.code Lib.Math.min.name Lib.Math.min.code 2 (some .int)]
def wsX2_foresee_r4 : List Cond := [Cond.methodLink RX0 88 yX0_sendOn, Cond.instanceMethod yX0_sendOn, Cond.selects RX0 yX0_sendOn yX0_sendOn, Cond.code yX0_sendOn cX0_sendOn 5 none, Cond.fieldLink RX0 106 "ArchWater$Arch" "water" "I", Cond.methodLink RX0 109 yX0_rate, Cond.instanceMethod yX0_rate, Cond.selects RX0 yX0_rate yX0_rate, Cond.code yX0_rate cX0_rate 2 (some .int), Cond.methodLink RX0 132 yX0_slope, Cond.instanceMethod yX0_slope, Cond.selects RX0 yX0_slope yX0_slope, Cond.code yX0_slope cX0_slope 3 (some .int), Cond.fieldLink RX0 66 "ArchWater$Arch" "height" "I", Cond.methodLink RX0 113 yX1_leadToMill, Cond.instanceMethod yX1_leadToMill, Cond.selects RX1 yX1_leadToMill yX1_leadToMill, Cond.code yX1_leadToMill cX1_leadToMill 2 (some .int), Cond.methodLink RX1 46 Lib.Math.min.name, Cond.methodLink RX0 116 yX0_pour, Cond.instanceMethod yX0_pour, Cond.selects RX0 yX0_pour yX0_pour, Cond.code yX0_pour cX0_pour 4 (some .int), Cond.methodLink RX0 126 yX1_fill]
def wsX2_foresee_r5 : List Cond := [Cond.instanceMethod yX1_fill, Cond.selects RX1 yX1_fill yX1_fill, Cond.code yX1_fill cX1_fill 3 (some .int), Cond.methodLink RX0 91 yX0_grindAt, Cond.instanceMethod yX0_grindAt, Cond.selects RX0 yX0_grindAt yX0_grindAt, Cond.code yX0_grindAt cX0_grindAt 4 none, Cond.fieldLink RX0 119 "ArchWater$Arch" "took" "I", Cond.methodLink RX0 122 yX1_grind, Cond.instanceMethod yX1_grind, Cond.selects RX1 yX1_grind yX1_grind, Cond.code yX1_grind cX1_grind 2 (some .int), Cond.methodLink RX0 94 yX0_letSpringGive, Cond.instanceMethod yX0_letSpringGive, Cond.selects RX0 yX0_letSpringGive yX0_letSpringGive, Cond.code yX0_letSpringGive cX0_letSpringGive 3 none, Cond.methodLink RX0 97 yX1_leak, Cond.instanceMethod yX1_leak, Cond.selects RX1 yX1_leak yX1_leak, Cond.code yX1_leak cX1_leak 2 none, Cond.methodLink RX0 100 yX0_wearAll, Cond.instanceMethod yX0_wearAll, Cond.selects RX0 yX0_wearAll yX0_wearAll, Cond.code yX0_wearAll cX0_wearAll 2 none]
def wsX2_foresee_r6 : List Cond := [Cond.methodLink RX0 129 yX1_wearOfDay, Cond.instanceMethod yX1_wearOfDay, Cond.selects RX1 yX1_wearOfDay yX1_wearOfDay, Cond.code yX1_wearOfDay cX1_wearOfDay 1 none, Cond.methodLink RX1 52 yX1_hasOpenSluice, Cond.instanceMethod yX1_hasOpenSluice, Cond.selects RX1 yX1_hasOpenSluice yX1_hasOpenSluice, Cond.code yX1_hasOpenSluice cX1_hasOpenSluice 1 (some .boolean), Cond.methodLink RX1 42 yX1_hasMill, Cond.instanceMethod yX1_hasMill, Cond.selects RX1 yX1_hasMill yX1_hasMill, Cond.code yX1_hasMill cX1_hasMill 1 (some .boolean), Cond.methodLink RX1 55 yX1_wearBy, Cond.instanceMethod yX1_wearBy, Cond.selects RX1 yX1_wearBy yX1_wearBy, Cond.code yX1_wearBy cX1_wearBy 2 none, Cond.methodLink RX2 128 yX0_leaked, Cond.instanceMethod yX0_leaked, Cond.selects RX0 yX0_leaked yX0_leaked, Cond.code yX0_leaked cX0_leaked 3 (some .int), Cond.fieldLink RX0 139 "ArchWater$Arch" "leaked" "I", Cond.methodLink RX2 134 yX0_flour, Cond.instanceMethod yX0_flour, Cond.selects RX0 yX0_flour yX0_flour]
def wsX2_foresee_r7 : List Cond := [Cond.code yX0_flour cX0_flour 3 (some .int), Cond.fieldLink RX0 142 "ArchWater$Arch" "flour" "I"]
def wsX2_foresee : List Cond := .code yX2_foresee cX2_foresee 3 (some .int) :: ((wsX2_foresee_r1 ++ (wsX2_foresee_r2 ++ (wsX2_foresee_r3 ++ (wsX2_foresee_r4 ++ (wsX2_foresee_r5 ++ (wsX2_foresee_r6 ++ wsX2_foresee_r7)))))) ++ wsX20 ++ wsX00 ++ wsX10 ++ (vx_atS RX2 168 "java/lang/IllegalArgumentException" ["java/lang/RuntimeException", "java/lang/Exception"]).filter goodWord ++ (vx_atS RX2 163 "java/lang/IndexOutOfBoundsException" ["java/lang/RuntimeException", "java/lang/Exception"]).filter goodWord)
def wsX2_thirstWithClosed_r1 : List Cond := [Cond.fieldLink RX2 16 "ArchWater" "trial" "LArchWater$Aqueduct;", Cond.fieldLink RX2 10 "ArchWater" "now" "LArchWater$Aqueduct;", Cond.fieldLink RX2 27 "ArchWater$Aqueduct" "arches" "I", Cond.fieldLink RX2 88 "ArchWater$Arch" "tenths" "I", Cond.fieldLink RX2 115 "ArchWater$Aqueduct" "thirst" "I", Cond.methodLink RX2 124 yX0_copyFrom, Cond.instanceMethod yX0_copyFrom, Cond.selects RX0 yX0_copyFrom yX0_copyFrom, Cond.initialized RX0, Cond.code yX0_copyFrom cX0_copyFrom 3 none, Cond.fieldLink RX0 9 "ArchWater$Aqueduct" "springTable" "[I", Cond.methodLink RX0 29 arraycopyName, Cond.native arraycopyName, Cond.static arraycopyName, Cond.initialized "java/lang/System", Cond.fieldLink RX0 15 "ArchWater$Aqueduct" "cityTable" "[I", Cond.fieldLink RX0 35 "ArchWater$Aqueduct" "arches" "I", Cond.fieldLink RX0 20 "ArchWater$Aqueduct" "row" "[LArchWater$Arch;", Cond.fieldLink RX0 42 "ArchWater$Aqueduct" "hour" "I", Cond.fieldLink RX0 45 "ArchWater$Aqueduct" "coins" "I", Cond.fieldLink RX0 24 "ArchWater$Aqueduct" "holds" "I", Cond.fieldLink RX0 48 "ArchWater$Aqueduct" "cistern" "I", Cond.fieldLink RX0 51 "ArchWater$Aqueduct" "given" "I", Cond.fieldLink RX0 54 "ArchWater$Aqueduct" "spilt" "I"]
def wsX2_thirstWithClosed_r2 : List Cond := [Cond.fieldLink RX0 57 "ArchWater$Aqueduct" "used" "I", Cond.fieldLink RX0 60 "ArchWater$Aqueduct" "drunk" "I", Cond.fieldLink RX0 63 "ArchWater$Aqueduct" "thirst" "I", Cond.methodLink RX0 38 yX1_copyFrom, Cond.instanceMethod yX1_copyFrom, Cond.selects RX1 yX1_copyFrom yX1_copyFrom, Cond.initialized RX1, Cond.code yX1_copyFrom cX1_copyFrom 2 none, Cond.fieldLink RX1 9 "ArchWater$Arch" "height" "I", Cond.fieldLink RX1 15 "ArchWater$Arch" "size" "I", Cond.fieldLink RX1 18 "ArchWater$Arch" "water" "I", Cond.fieldLink RX1 21 "ArchWater$Arch" "wear" "I", Cond.fieldLink RX1 24 "ArchWater$Arch" "drops" "I", Cond.fieldLink RX1 27 "ArchWater$Arch" "leaked" "I", Cond.fieldLink RX1 30 "ArchWater$Arch" "appetite" "I", Cond.fieldLink RX1 33 "ArchWater$Arch" "tenths" "I", Cond.fieldLink RX1 36 "ArchWater$Arch" "flour" "I", Cond.fieldLink RX1 39 "ArchWater$Arch" "took" "I", Cond.methodLink RX2 68 yX0_archAt, Cond.instanceMethod yX0_archAt, Cond.selects RX0 yX0_archAt yX0_archAt, Cond.code yX0_archAt cX0_archAt 2 (some (.object "ArchWater$Arch")), Cond.methodLink RX2 118 yX0_goOn, Cond.instanceMethod yX0_goOn]
def wsX2_thirstWithClosed_r3 : List Cond := [Cond.selects RX0 yX0_goOn yX0_goOn, Cond.code yX0_goOn cX0_goOn 3 none, Cond.methodLink RX0 78 yX0_goOnAnHour, Cond.instanceMethod yX0_goOnAnHour, Cond.selects RX0 yX0_goOnAnHour yX0_goOnAnHour, Cond.code yX0_goOnAnHour cX0_goOnAnHour 3 none, Cond.methodLink RX0 81 yJ9_floorMod_7cf53, Cond.static yJ9_floorMod_7cf53, Cond.initialized RJ9, Cond.code yJ9_floorMod_7cf53 cJ9_floorMod_7cf53 3 (some .int), Cond.methodLink RX0 84 yX0_letCityDrink, Cond.instanceMethod yX0_letCityDrink, Cond.selects RX0 yX0_letCityDrink yX0_letCityDrink, Cond.code yX0_letCityDrink cX0_letCityDrink 3 none, Cond.methodLink RX0 103 Lib.Math.min.name, Cond.static Lib.Math.min.name, Cond.initialized "java/lang/Math", Cond.code Lib.Math.min.name Lib.Math.min.code 2 (some .int), Cond.methodLink RX0 88 yX0_sendOn, Cond.instanceMethod yX0_sendOn, Cond.selects RX0 yX0_sendOn yX0_sendOn, Cond.code yX0_sendOn cX0_sendOn 5 none, Cond.fieldLink RX0 106 "ArchWater$Arch" "water" "I", Cond.methodLink RX0 109 yX0_rate]
def wsX2_thirstWithClosed_r4 : List Cond := [Cond.instanceMethod yX0_rate, Cond.selects RX0 yX0_rate yX0_rate, Cond.code yX0_rate cX0_rate 2 (some .int), Cond.methodLink RX0 132 yX0_slope, Cond.instanceMethod yX0_slope, Cond.selects RX0 yX0_slope yX0_slope, Cond.code yX0_slope cX0_slope 3 (some .int), Cond.fieldLink RX0 66 "ArchWater$Arch" "height" "I", Cond.methodLink RX0 113 yX1_leadToMill, Cond.instanceMethod yX1_leadToMill, Cond.selects RX1 yX1_leadToMill yX1_leadToMill, Cond.code yX1_leadToMill cX1_leadToMill 2 (some .int), Cond.methodLink RX1 46 Lib.Math.min.name, Cond.methodLink RX0 116 yX0_pour, Cond.instanceMethod yX0_pour, Cond.selects RX0 yX0_pour yX0_pour, Cond.code yX0_pour cX0_pour 4 (some .int), Cond.methodLink RX0 126 yX1_fill, Cond.instanceMethod yX1_fill, Cond.selects RX1 yX1_fill yX1_fill, Cond.code yX1_fill cX1_fill 3 (some .int), Cond.methodLink RX0 91 yX0_grindAt, Cond.instanceMethod yX0_grindAt, Cond.selects RX0 yX0_grindAt yX0_grindAt]
def wsX2_thirstWithClosed_r5 : List Cond := [Cond.code yX0_grindAt cX0_grindAt 4 none, Cond.fieldLink RX0 119 "ArchWater$Arch" "took" "I", Cond.methodLink RX0 122 yX1_grind, Cond.instanceMethod yX1_grind, Cond.selects RX1 yX1_grind yX1_grind, Cond.code yX1_grind cX1_grind 2 (some .int), Cond.methodLink RX0 94 yX0_letSpringGive, Cond.instanceMethod yX0_letSpringGive, Cond.selects RX0 yX0_letSpringGive yX0_letSpringGive, Cond.code yX0_letSpringGive cX0_letSpringGive 3 none, Cond.methodLink RX0 97 yX1_leak, Cond.instanceMethod yX1_leak, Cond.selects RX1 yX1_leak yX1_leak, Cond.code yX1_leak cX1_leak 2 none, Cond.methodLink RX0 100 yX0_wearAll, Cond.instanceMethod yX0_wearAll, Cond.selects RX0 yX0_wearAll yX0_wearAll, Cond.code yX0_wearAll cX0_wearAll 2 none, Cond.methodLink RX0 129 yX1_wearOfDay, Cond.instanceMethod yX1_wearOfDay, Cond.selects RX1 yX1_wearOfDay yX1_wearOfDay, Cond.code yX1_wearOfDay cX1_wearOfDay 1 none, Cond.methodLink RX1 52 yX1_hasOpenSluice, Cond.instanceMethod yX1_hasOpenSluice]
def wsX2_thirstWithClosed_r6 : List Cond := [Cond.selects RX1 yX1_hasOpenSluice yX1_hasOpenSluice, Cond.code yX1_hasOpenSluice cX1_hasOpenSluice 1 (some .boolean), Cond.methodLink RX1 42 yX1_hasMill, Cond.instanceMethod yX1_hasMill, Cond.selects RX1 yX1_hasMill yX1_hasMill, Cond.code yX1_hasMill cX1_hasMill 1 (some .boolean), Cond.methodLink RX1 55 yX1_wearBy, Cond.instanceMethod yX1_wearBy, Cond.selects RX1 yX1_wearBy yX1_wearBy, Cond.code yX1_wearBy cX1_wearBy 2 none]
def wsX2_thirstWithClosed : List Cond := .code yX2_thirstWithClosed cX2_thirstWithClosed 3 (some .int) :: ((wsX2_thirstWithClosed_r1 ++ (wsX2_thirstWithClosed_r2 ++ (wsX2_thirstWithClosed_r3 ++ (wsX2_thirstWithClosed_r4 ++ (wsX2_thirstWithClosed_r5 ++ wsX2_thirstWithClosed_r6))))) ++ wsX20 ++ wsX00 ++ wsX10)
def wsX2_advise_r1 : List Cond := [Cond.fieldLink RX2 10 "ArchWater" "now" "LArchWater$Aqueduct;", Cond.fieldLink RX2 27 "ArchWater$Aqueduct" "arches" "I", Cond.methodLink RX2 23 yX2_requireRange, Cond.static yX2_requireRange, Cond.initialized RX2, Cond.code yX2_requireRange cX2_requireRange 3 none, Cond.classLink RX2 164 "java/lang/IllegalArgumentException", Cond.initialized "java/lang/IllegalArgumentException", Cond.methodLink RX2 137 yX2_thirstWithClosed, Cond.instanceMethod yX2_thirstWithClosed, Cond.selects RX2 yX2_thirstWithClosed yX2_thirstWithClosed, Cond.code yX2_thirstWithClosed cX2_thirstWithClosed 3 (some .int), Cond.fieldLink RX2 16 "ArchWater" "trial" "LArchWater$Aqueduct;", Cond.fieldLink RX2 88 "ArchWater$Arch" "tenths" "I", Cond.fieldLink RX2 115 "ArchWater$Aqueduct" "thirst" "I", Cond.methodLink RX2 124 yX0_copyFrom, Cond.instanceMethod yX0_copyFrom, Cond.selects RX0 yX0_copyFrom yX0_copyFrom, Cond.initialized RX0, Cond.code yX0_copyFrom cX0_copyFrom 3 none, Cond.fieldLink RX0 9 "ArchWater$Aqueduct" "springTable" "[I", Cond.methodLink RX0 29 arraycopyName, Cond.native arraycopyName, Cond.static arraycopyName]
def wsX2_advise_r2 : List Cond := [Cond.initialized "java/lang/System", Cond.fieldLink RX0 15 "ArchWater$Aqueduct" "cityTable" "[I", Cond.fieldLink RX0 35 "ArchWater$Aqueduct" "arches" "I", Cond.fieldLink RX0 20 "ArchWater$Aqueduct" "row" "[LArchWater$Arch;", Cond.fieldLink RX0 42 "ArchWater$Aqueduct" "hour" "I", Cond.fieldLink RX0 45 "ArchWater$Aqueduct" "coins" "I", Cond.fieldLink RX0 24 "ArchWater$Aqueduct" "holds" "I", Cond.fieldLink RX0 48 "ArchWater$Aqueduct" "cistern" "I", Cond.fieldLink RX0 51 "ArchWater$Aqueduct" "given" "I", Cond.fieldLink RX0 54 "ArchWater$Aqueduct" "spilt" "I", Cond.fieldLink RX0 57 "ArchWater$Aqueduct" "used" "I", Cond.fieldLink RX0 60 "ArchWater$Aqueduct" "drunk" "I", Cond.fieldLink RX0 63 "ArchWater$Aqueduct" "thirst" "I", Cond.methodLink RX0 38 yX1_copyFrom, Cond.instanceMethod yX1_copyFrom, Cond.selects RX1 yX1_copyFrom yX1_copyFrom, Cond.initialized RX1, Cond.code yX1_copyFrom cX1_copyFrom 2 none, Cond.fieldLink RX1 9 "ArchWater$Arch" "height" "I", Cond.fieldLink RX1 15 "ArchWater$Arch" "size" "I", Cond.fieldLink RX1 18 "ArchWater$Arch" "water" "I", Cond.fieldLink RX1 21 "ArchWater$Arch" "wear" "I", Cond.fieldLink RX1 24 "ArchWater$Arch" "drops" "I", Cond.fieldLink RX1 27 "ArchWater$Arch" "leaked" "I"]
def wsX2_advise_r3 : List Cond := [Cond.fieldLink RX1 30 "ArchWater$Arch" "appetite" "I", Cond.fieldLink RX1 33 "ArchWater$Arch" "tenths" "I", Cond.fieldLink RX1 36 "ArchWater$Arch" "flour" "I", Cond.fieldLink RX1 39 "ArchWater$Arch" "took" "I", Cond.methodLink RX2 68 yX0_archAt, Cond.instanceMethod yX0_archAt, Cond.selects RX0 yX0_archAt yX0_archAt, Cond.code yX0_archAt cX0_archAt 2 (some (.object "ArchWater$Arch")), Cond.methodLink RX2 118 yX0_goOn, Cond.instanceMethod yX0_goOn, Cond.selects RX0 yX0_goOn yX0_goOn, Cond.code yX0_goOn cX0_goOn 3 none, Cond.methodLink RX0 78 yX0_goOnAnHour, Cond.instanceMethod yX0_goOnAnHour, Cond.selects RX0 yX0_goOnAnHour yX0_goOnAnHour, Cond.code yX0_goOnAnHour cX0_goOnAnHour 3 none, Cond.methodLink RX0 81 yJ9_floorMod_7cf53, Cond.static yJ9_floorMod_7cf53, Cond.initialized RJ9, Cond.code yJ9_floorMod_7cf53 cJ9_floorMod_7cf53 3 (some .int), Cond.methodLink RX0 84 yX0_letCityDrink, Cond.instanceMethod yX0_letCityDrink, Cond.selects RX0 yX0_letCityDrink yX0_letCityDrink, Cond.code yX0_letCityDrink cX0_letCityDrink 3 none]
def wsX2_advise_r4 : List Cond := [Cond.methodLink RX0 103 Lib.Math.min.name, Cond.static Lib.Math.min.name, Cond.initialized "java/lang/Math", Cond.code Lib.Math.min.name Lib.Math.min.code 2 (some .int), Cond.methodLink RX0 88 yX0_sendOn, Cond.instanceMethod yX0_sendOn, Cond.selects RX0 yX0_sendOn yX0_sendOn, Cond.code yX0_sendOn cX0_sendOn 5 none, Cond.fieldLink RX0 106 "ArchWater$Arch" "water" "I", Cond.methodLink RX0 109 yX0_rate, Cond.instanceMethod yX0_rate, Cond.selects RX0 yX0_rate yX0_rate, Cond.code yX0_rate cX0_rate 2 (some .int), Cond.methodLink RX0 132 yX0_slope, Cond.instanceMethod yX0_slope, Cond.selects RX0 yX0_slope yX0_slope, Cond.code yX0_slope cX0_slope 3 (some .int), Cond.fieldLink RX0 66 "ArchWater$Arch" "height" "I", Cond.methodLink RX0 113 yX1_leadToMill, Cond.instanceMethod yX1_leadToMill, Cond.selects RX1 yX1_leadToMill yX1_leadToMill, Cond.code yX1_leadToMill cX1_leadToMill 2 (some .int), Cond.methodLink RX1 46 Lib.Math.min.name, Cond.methodLink RX0 116 yX0_pour]
def wsX2_advise_r5 : List Cond := [Cond.instanceMethod yX0_pour, Cond.selects RX0 yX0_pour yX0_pour, Cond.code yX0_pour cX0_pour 4 (some .int), Cond.methodLink RX0 126 yX1_fill, Cond.instanceMethod yX1_fill, Cond.selects RX1 yX1_fill yX1_fill, Cond.code yX1_fill cX1_fill 3 (some .int), Cond.methodLink RX0 91 yX0_grindAt, Cond.instanceMethod yX0_grindAt, Cond.selects RX0 yX0_grindAt yX0_grindAt, Cond.code yX0_grindAt cX0_grindAt 4 none, Cond.fieldLink RX0 119 "ArchWater$Arch" "took" "I", Cond.methodLink RX0 122 yX1_grind, Cond.instanceMethod yX1_grind, Cond.selects RX1 yX1_grind yX1_grind, Cond.code yX1_grind cX1_grind 2 (some .int), Cond.methodLink RX0 94 yX0_letSpringGive, Cond.instanceMethod yX0_letSpringGive, Cond.selects RX0 yX0_letSpringGive yX0_letSpringGive, Cond.code yX0_letSpringGive cX0_letSpringGive 3 none, Cond.methodLink RX0 97 yX1_leak, Cond.instanceMethod yX1_leak, Cond.selects RX1 yX1_leak yX1_leak, Cond.code yX1_leak cX1_leak 2 none]
def wsX2_advise_r6 : List Cond := [Cond.methodLink RX0 100 yX0_wearAll, Cond.instanceMethod yX0_wearAll, Cond.selects RX0 yX0_wearAll yX0_wearAll, Cond.code yX0_wearAll cX0_wearAll 2 none, Cond.methodLink RX0 129 yX1_wearOfDay, Cond.instanceMethod yX1_wearOfDay, Cond.selects RX1 yX1_wearOfDay yX1_wearOfDay, Cond.code yX1_wearOfDay cX1_wearOfDay 1 none, Cond.methodLink RX1 52 yX1_hasOpenSluice, Cond.instanceMethod yX1_hasOpenSluice, Cond.selects RX1 yX1_hasOpenSluice yX1_hasOpenSluice, Cond.code yX1_hasOpenSluice cX1_hasOpenSluice 1 (some .boolean), Cond.methodLink RX1 42 yX1_hasMill, Cond.instanceMethod yX1_hasMill, Cond.selects RX1 yX1_hasMill yX1_hasMill, Cond.code yX1_hasMill cX1_hasMill 1 (some .boolean), Cond.methodLink RX1 55 yX1_wearBy, Cond.instanceMethod yX1_wearBy, Cond.selects RX1 yX1_wearBy yX1_wearBy, Cond.code yX1_wearBy cX1_wearBy 2 none, Cond.methodLink RX2 140 yX1_hasOpenSluice]
def wsX2_advise : List Cond := .code yX2_advise cX2_advise 6 (some .int) :: ((wsX2_advise_r1 ++ (wsX2_advise_r2 ++ (wsX2_advise_r3 ++ (wsX2_advise_r4 ++ (wsX2_advise_r5 ++ wsX2_advise_r6))))) ++ wsX20 ++ wsX00 ++ wsX10 ++ (vx_atS RX2 168 "java/lang/IllegalArgumentException" ["java/lang/RuntimeException", "java/lang/Exception"]).filter goodWord)
def wsX2_thirsty_r1 : List Cond := [Cond.fieldLink RX2 16 "ArchWater" "trial" "LArchWater$Aqueduct;", Cond.fieldLink RX2 10 "ArchWater" "now" "LArchWater$Aqueduct;", Cond.fieldLink RX2 115 "ArchWater$Aqueduct" "thirst" "I", Cond.methodLink RX2 124 yX0_copyFrom, Cond.instanceMethod yX0_copyFrom, Cond.selects RX0 yX0_copyFrom yX0_copyFrom, Cond.initialized RX0, Cond.code yX0_copyFrom cX0_copyFrom 3 none, Cond.fieldLink RX0 9 "ArchWater$Aqueduct" "springTable" "[I", Cond.methodLink RX0 29 arraycopyName, Cond.native arraycopyName, Cond.static arraycopyName, Cond.initialized "java/lang/System", Cond.fieldLink RX0 15 "ArchWater$Aqueduct" "cityTable" "[I", Cond.fieldLink RX0 35 "ArchWater$Aqueduct" "arches" "I", Cond.fieldLink RX0 20 "ArchWater$Aqueduct" "row" "[LArchWater$Arch;", Cond.fieldLink RX0 42 "ArchWater$Aqueduct" "hour" "I", Cond.fieldLink RX0 45 "ArchWater$Aqueduct" "coins" "I", Cond.fieldLink RX0 24 "ArchWater$Aqueduct" "holds" "I", Cond.fieldLink RX0 48 "ArchWater$Aqueduct" "cistern" "I", Cond.fieldLink RX0 51 "ArchWater$Aqueduct" "given" "I", Cond.fieldLink RX0 54 "ArchWater$Aqueduct" "spilt" "I", Cond.fieldLink RX0 57 "ArchWater$Aqueduct" "used" "I", Cond.fieldLink RX0 60 "ArchWater$Aqueduct" "drunk" "I"]
def wsX2_thirsty_r2 : List Cond := [Cond.fieldLink RX0 63 "ArchWater$Aqueduct" "thirst" "I", Cond.methodLink RX0 38 yX1_copyFrom, Cond.instanceMethod yX1_copyFrom, Cond.selects RX1 yX1_copyFrom yX1_copyFrom, Cond.initialized RX1, Cond.code yX1_copyFrom cX1_copyFrom 2 none, Cond.fieldLink RX1 9 "ArchWater$Arch" "height" "I", Cond.fieldLink RX1 15 "ArchWater$Arch" "size" "I", Cond.fieldLink RX1 18 "ArchWater$Arch" "water" "I", Cond.fieldLink RX1 21 "ArchWater$Arch" "wear" "I", Cond.fieldLink RX1 24 "ArchWater$Arch" "drops" "I", Cond.fieldLink RX1 27 "ArchWater$Arch" "leaked" "I", Cond.fieldLink RX1 30 "ArchWater$Arch" "appetite" "I", Cond.fieldLink RX1 33 "ArchWater$Arch" "tenths" "I", Cond.fieldLink RX1 36 "ArchWater$Arch" "flour" "I", Cond.fieldLink RX1 39 "ArchWater$Arch" "took" "I", Cond.methodLink RX2 118 yX0_goOn, Cond.instanceMethod yX0_goOn, Cond.selects RX0 yX0_goOn yX0_goOn, Cond.code yX0_goOn cX0_goOn 3 none, Cond.methodLink RX0 78 yX0_goOnAnHour, Cond.instanceMethod yX0_goOnAnHour, Cond.selects RX0 yX0_goOnAnHour yX0_goOnAnHour, Cond.code yX0_goOnAnHour cX0_goOnAnHour 3 none]
def wsX2_thirsty_r3 : List Cond := [Cond.methodLink RX0 81 yJ9_floorMod_7cf53, Cond.static yJ9_floorMod_7cf53, Cond.initialized RJ9, Cond.code yJ9_floorMod_7cf53 cJ9_floorMod_7cf53 3 (some .int), Cond.methodLink RX0 84 yX0_letCityDrink, Cond.instanceMethod yX0_letCityDrink, Cond.selects RX0 yX0_letCityDrink yX0_letCityDrink, Cond.code yX0_letCityDrink cX0_letCityDrink 3 none, Cond.methodLink RX0 103 Lib.Math.min.name, Cond.static Lib.Math.min.name, Cond.initialized "java/lang/Math", Cond.code Lib.Math.min.name Lib.Math.min.code 2 (some .int), Cond.methodLink RX0 88 yX0_sendOn, Cond.instanceMethod yX0_sendOn, Cond.selects RX0 yX0_sendOn yX0_sendOn, Cond.code yX0_sendOn cX0_sendOn 5 none, Cond.fieldLink RX0 106 "ArchWater$Arch" "water" "I", Cond.methodLink RX0 109 yX0_rate, Cond.instanceMethod yX0_rate, Cond.selects RX0 yX0_rate yX0_rate, Cond.code yX0_rate cX0_rate 2 (some .int), Cond.methodLink RX0 132 yX0_slope, Cond.instanceMethod yX0_slope, Cond.selects RX0 yX0_slope yX0_slope]
def wsX2_thirsty_r4 : List Cond := [Cond.code yX0_slope cX0_slope 3 (some .int), Cond.fieldLink RX0 66 "ArchWater$Arch" "height" "I", Cond.methodLink RX0 113 yX1_leadToMill, Cond.instanceMethod yX1_leadToMill, Cond.selects RX1 yX1_leadToMill yX1_leadToMill, Cond.code yX1_leadToMill cX1_leadToMill 2 (some .int), Cond.methodLink RX1 46 Lib.Math.min.name, Cond.methodLink RX0 116 yX0_pour, Cond.instanceMethod yX0_pour, Cond.selects RX0 yX0_pour yX0_pour, Cond.code yX0_pour cX0_pour 4 (some .int), Cond.methodLink RX0 126 yX1_fill, Cond.instanceMethod yX1_fill, Cond.selects RX1 yX1_fill yX1_fill, Cond.code yX1_fill cX1_fill 3 (some .int), Cond.methodLink RX0 91 yX0_grindAt, Cond.instanceMethod yX0_grindAt, Cond.selects RX0 yX0_grindAt yX0_grindAt, Cond.code yX0_grindAt cX0_grindAt 4 none, Cond.fieldLink RX0 119 "ArchWater$Arch" "took" "I", Cond.methodLink RX0 122 yX1_grind, Cond.instanceMethod yX1_grind, Cond.selects RX1 yX1_grind yX1_grind, Cond.code yX1_grind cX1_grind 2 (some .int)]
def wsX2_thirsty_r5 : List Cond := [Cond.methodLink RX0 94 yX0_letSpringGive, Cond.instanceMethod yX0_letSpringGive, Cond.selects RX0 yX0_letSpringGive yX0_letSpringGive, Cond.code yX0_letSpringGive cX0_letSpringGive 3 none, Cond.methodLink RX0 97 yX1_leak, Cond.instanceMethod yX1_leak, Cond.selects RX1 yX1_leak yX1_leak, Cond.code yX1_leak cX1_leak 2 none, Cond.methodLink RX0 100 yX0_wearAll, Cond.instanceMethod yX0_wearAll, Cond.selects RX0 yX0_wearAll yX0_wearAll, Cond.code yX0_wearAll cX0_wearAll 2 none, Cond.methodLink RX0 129 yX1_wearOfDay, Cond.instanceMethod yX1_wearOfDay, Cond.selects RX1 yX1_wearOfDay yX1_wearOfDay, Cond.code yX1_wearOfDay cX1_wearOfDay 1 none, Cond.methodLink RX1 52 yX1_hasOpenSluice, Cond.instanceMethod yX1_hasOpenSluice, Cond.selects RX1 yX1_hasOpenSluice yX1_hasOpenSluice, Cond.code yX1_hasOpenSluice cX1_hasOpenSluice 1 (some .boolean), Cond.methodLink RX1 42 yX1_hasMill, Cond.instanceMethod yX1_hasMill, Cond.selects RX1 yX1_hasMill yX1_hasMill, Cond.code yX1_hasMill cX1_hasMill 1 (some .boolean)]
def wsX2_thirsty_r6 : List Cond := [Cond.methodLink RX1 55 yX1_wearBy, Cond.instanceMethod yX1_wearBy, Cond.selects RX1 yX1_wearBy yX1_wearBy, Cond.code yX1_wearBy cX1_wearBy 2 none]
def wsX2_thirsty : List Cond := .code yX2_thirsty cX2_thirsty 2 (some .int) :: ((wsX2_thirsty_r1 ++ (wsX2_thirsty_r2 ++ (wsX2_thirsty_r3 ++ (wsX2_thirsty_r4 ++ (wsX2_thirsty_r5 ++ wsX2_thirsty_r6))))) ++ wsX20 ++ wsX00 ++ wsX10)
def wsX2_worst : List Cond := .code yX2_worst cX2_worst 5 (some .int) :: ([.fieldLink RX2 10 "ArchWater" "now" "LArchWater$Aqueduct;", .fieldLink RX2 27 "ArchWater$Aqueduct" "arches" "I", .fieldLink RX2 143 "ArchWater$Arch" "leaked" "I", .methodLink RX2 68 yX0_archAt, .instanceMethod yX0_archAt, .selects RX0 yX0_archAt yX0_archAt, .initialized RX0, .code yX0_archAt cX0_archAt 2 (some (.object "ArchWater$Arch")), .fieldLink RX0 20 "ArchWater$Aqueduct" "row" "[LArchWater$Arch;"] ++ wsX20 ++ wsX00 ++ wsX10)
def wsX2_reaches : List Cond := .code yX2_reaches cX2_reaches 1 (some .double) :: ([.fieldLink RX2 10 "ArchWater" "now" "LArchWater$Aqueduct;", .fieldLink RX2 145 "ArchWater$Aqueduct" "given" "I", .fieldLink RX2 148 "ArchWater$Aqueduct" "drunk" "I"] ++ wsX20 ++ wsX00)
def wsX2_digestArch_r1 : List Cond := [Cond.constantLong RX2 153 (31), Cond.fieldLink RX2 10 "ArchWater" "now" "LArchWater$Aqueduct;", Cond.methodLink RX2 65 yX0_archNumber, Cond.instanceMethod yX0_archNumber, Cond.selects RX0 yX0_archNumber yX0_archNumber, Cond.initialized RX0, Cond.code yX0_archNumber cX0_archNumber 4 (some .int), Cond.fieldLink RX0 20 "ArchWater$Aqueduct" "row" "[LArchWater$Arch;", Cond.fieldLink RX0 66 "ArchWater$Arch" "height" "I", Cond.fieldLink RX0 69 "ArchWater$Arch" "size" "I", Cond.fieldLink RX0 106 "ArchWater$Arch" "water" "I", Cond.fieldLink RX0 145 "ArchWater$Arch" "wear" "I", Cond.fieldLink RX0 148 "ArchWater$Arch" "drops" "I", Cond.fieldLink RX0 139 "ArchWater$Arch" "leaked" "I", Cond.methodLink RX0 132 yX0_slope, Cond.instanceMethod yX0_slope, Cond.selects RX0 yX0_slope yX0_slope, Cond.code yX0_slope cX0_slope 3 (some .int), Cond.fieldLink RX0 35 "ArchWater$Aqueduct" "arches" "I", Cond.methodLink RX0 109 yX0_rate, Cond.instanceMethod yX0_rate, Cond.selects RX0 yX0_rate yX0_rate, Cond.code yX0_rate cX0_rate 2 (some .int), Cond.methodLink RX0 103 Lib.Math.min.name]
def wsX2_digestArch_r2 : List Cond := [Cond.static Lib.Math.min.name, Cond.initialized "java/lang/Math", Cond.code Lib.Math.min.name Lib.Math.min.code 2 (some .int), Cond.methodLink RX0 135 yX1_hasMill, Cond.instanceMethod yX1_hasMill, Cond.selects RX1 yX1_hasMill yX1_hasMill, Cond.initialized RX1, Cond.code yX1_hasMill cX1_hasMill 1 (some .boolean), Cond.fieldLink RX1 30 "ArchWater$Arch" "appetite" "I", Cond.methodLink RX2 68 yX0_archAt, Cond.instanceMethod yX0_archAt, Cond.selects RX0 yX0_archAt yX0_archAt, Cond.code yX0_archAt cX0_archAt 2 (some (.object "ArchWater$Arch")), Cond.methodLink RX2 91 yX1_millNumber, Cond.instanceMethod yX1_millNumber, Cond.selects RX1 yX1_millNumber yX1_millNumber, Cond.code yX1_millNumber cX1_millNumber 2 (some .int), Cond.fieldLink RX1 33 "ArchWater$Arch" "tenths" "I", Cond.fieldLink RX1 36 "ArchWater$Arch" "flour" "I", Cond.fieldLink RX1 39 "ArchWater$Arch" "took" "I", Cond.methodLink RX1 42 yX1_hasMill]
def wsX2_digestArch : List Cond := .code yX2_digestArch cX2_digestArch 7 (some .long) :: ((wsX2_digestArch_r1 ++ wsX2_digestArch_r2) ++ wsX20 ++ wsX00 ++ wsX10)
def wsX2_digest_r1 : List Cond := [Cond.constantLong RX2 151 (601), Cond.constantLong RX2 153 (31), Cond.fieldLink RX2 10 "ArchWater" "now" "LArchWater$Aqueduct;", Cond.fieldLink RX2 42 "ArchWater$Aqueduct" "springTable" "[I", Cond.fieldLink RX2 50 "ArchWater$Aqueduct" "cityTable" "[I", Cond.fieldLink RX2 27 "ArchWater$Aqueduct" "arches" "I", Cond.methodLink RX2 121 yX0_countNumber, Cond.instanceMethod yX0_countNumber, Cond.selects RX0 yX0_countNumber yX0_countNumber, Cond.initialized RX0, Cond.code yX0_countNumber cX0_countNumber 2 (some .int), Cond.fieldLink RX0 42 "ArchWater$Aqueduct" "hour" "I", Cond.fieldLink RX0 35 "ArchWater$Aqueduct" "arches" "I", Cond.fieldLink RX0 45 "ArchWater$Aqueduct" "coins" "I", Cond.fieldLink RX0 48 "ArchWater$Aqueduct" "cistern" "I", Cond.fieldLink RX0 51 "ArchWater$Aqueduct" "given" "I", Cond.fieldLink RX0 54 "ArchWater$Aqueduct" "spilt" "I", Cond.fieldLink RX0 57 "ArchWater$Aqueduct" "used" "I", Cond.fieldLink RX0 60 "ArchWater$Aqueduct" "drunk" "I", Cond.fieldLink RX0 63 "ArchWater$Aqueduct" "thirst" "I", Cond.methodLink RX0 151 yX0_mills, Cond.instanceMethod yX0_mills, Cond.selects RX0 yX0_mills yX0_mills, Cond.code yX0_mills cX0_mills 3 (some .int)]
def wsX2_digest_r2 : List Cond := [Cond.fieldLink RX0 20 "ArchWater$Aqueduct" "row" "[LArchWater$Arch;", Cond.methodLink RX0 135 yX1_hasMill, Cond.instanceMethod yX1_hasMill, Cond.selects RX1 yX1_hasMill yX1_hasMill, Cond.initialized RX1, Cond.code yX1_hasMill cX1_hasMill 1 (some .boolean), Cond.fieldLink RX1 30 "ArchWater$Arch" "appetite" "I", Cond.methodLink RX0 154 yX0_water, Cond.instanceMethod yX0_water, Cond.selects RX0 yX0_water yX0_water, Cond.code yX0_water cX0_water 3 (some .int), Cond.fieldLink RX0 106 "ArchWater$Arch" "water" "I", Cond.methodLink RX0 156 yX0_leaked, Cond.instanceMethod yX0_leaked, Cond.selects RX0 yX0_leaked yX0_leaked, Cond.code yX0_leaked cX0_leaked 3 (some .int), Cond.fieldLink RX0 139 "ArchWater$Arch" "leaked" "I", Cond.methodLink RX2 155 yX2_digestArch, Cond.instanceMethod yX2_digestArch, Cond.selects RX2 yX2_digestArch yX2_digestArch, Cond.initialized RX2, Cond.code yX2_digestArch cX2_digestArch 7 (some .long), Cond.methodLink RX2 65 yX0_archNumber, Cond.instanceMethod yX0_archNumber]
def wsX2_digest_r3 : List Cond := [Cond.selects RX0 yX0_archNumber yX0_archNumber, Cond.code yX0_archNumber cX0_archNumber 4 (some .int), Cond.fieldLink RX0 66 "ArchWater$Arch" "height" "I", Cond.fieldLink RX0 69 "ArchWater$Arch" "size" "I", Cond.fieldLink RX0 145 "ArchWater$Arch" "wear" "I", Cond.fieldLink RX0 148 "ArchWater$Arch" "drops" "I", Cond.methodLink RX0 132 yX0_slope, Cond.instanceMethod yX0_slope, Cond.selects RX0 yX0_slope yX0_slope, Cond.code yX0_slope cX0_slope 3 (some .int), Cond.methodLink RX0 109 yX0_rate, Cond.instanceMethod yX0_rate, Cond.selects RX0 yX0_rate yX0_rate, Cond.code yX0_rate cX0_rate 2 (some .int), Cond.methodLink RX0 103 Lib.Math.min.name, Cond.static Lib.Math.min.name, Cond.initialized "java/lang/Math", Cond.code Lib.Math.min.name Lib.Math.min.code 2 (some .int), Cond.methodLink RX2 68 yX0_archAt, Cond.instanceMethod yX0_archAt, Cond.selects RX0 yX0_archAt yX0_archAt, Cond.code yX0_archAt cX0_archAt 2 (some (.object "ArchWater$Arch")), Cond.methodLink RX2 91 yX1_millNumber, Cond.instanceMethod yX1_millNumber]
def wsX2_digest_r4 : List Cond := [Cond.selects RX1 yX1_millNumber yX1_millNumber, Cond.code yX1_millNumber cX1_millNumber 2 (some .int), Cond.fieldLink RX1 33 "ArchWater$Arch" "tenths" "I", Cond.fieldLink RX1 36 "ArchWater$Arch" "flour" "I", Cond.fieldLink RX1 39 "ArchWater$Arch" "took" "I", Cond.methodLink RX1 42 yX1_hasMill]
def wsX2_digest : List Cond := .code yX2_digest cX2_digest 4 (some .long) :: ((wsX2_digest_r1 ++ (wsX2_digest_r2 ++ (wsX2_digest_r3 ++ wsX2_digest_r4))) ++ wsX20 ++ wsX00 ++ wsX10)
def wsX3_init : List Cond := .code yX3_init cX3_init 2 none :: ([.fieldLink RX3 3 "ArchWaterModel$State" "this$0" "LArchWaterModel;", .methodLink RX3 9 objectInit, .instanceMethod objectInit, .code objectInit ⟨#[0xb1]⟩ 1 none, .fieldLink RX3 15 "ArchWaterModel$State" "holds" "I", .arrayClass .int, .fieldLink RX3 19 "ArchWaterModel$State" "water" "[I", .fieldLink RX3 23 "ArchWaterModel$State" "wear" "[I", .fieldLink RX3 26 "ArchWaterModel$State" "drops" "[I", .fieldLink RX3 29 "ArchWaterModel$State" "leaked" "[I", .fieldLink RX3 32 "ArchWaterModel$State" "tenths" "[I", .fieldLink RX3 35 "ArchWaterModel$State" "flour" "[I", .fieldLink RX3 38 "ArchWaterModel$State" "took" "[I"] ++ wsX30)
def wsX3_copy : List Cond := .code yX3_copy cX3_copy 3 none :: ([.methodLink RX3 41 arraycopyName, .native arraycopyName, .static arraycopyName, .initialized "java/lang/System"])
def wsX3_become_r1 : List Cond := [Cond.fieldLink RX3 47 "ArchWaterModel$State" "hour" "I", Cond.fieldLink RX3 50 "ArchWaterModel$State" "cistern" "I", Cond.fieldLink RX3 15 "ArchWaterModel$State" "holds" "I", Cond.fieldLink RX3 53 "ArchWaterModel$State" "coins" "I", Cond.fieldLink RX3 19 "ArchWaterModel$State" "water" "[I", Cond.fieldLink RX3 23 "ArchWaterModel$State" "wear" "[I", Cond.fieldLink RX3 26 "ArchWaterModel$State" "drops" "[I", Cond.fieldLink RX3 29 "ArchWaterModel$State" "leaked" "[I", Cond.fieldLink RX3 32 "ArchWaterModel$State" "tenths" "[I", Cond.fieldLink RX3 35 "ArchWaterModel$State" "flour" "[I", Cond.fieldLink RX3 38 "ArchWaterModel$State" "took" "[I", Cond.fieldLink RX3 60 "ArchWaterModel$State" "given" "I", Cond.fieldLink RX3 63 "ArchWaterModel$State" "spilt" "I", Cond.fieldLink RX3 66 "ArchWaterModel$State" "used" "I", Cond.fieldLink RX3 69 "ArchWaterModel$State" "drunk" "I", Cond.fieldLink RX3 72 "ArchWaterModel$State" "thirst" "I", Cond.methodLink RX3 56 yX3_copy, Cond.instanceMethod yX3_copy, Cond.selects RX3 yX3_copy yX3_copy, Cond.initialized RX3, Cond.code yX3_copy cX3_copy 3 none, Cond.methodLink RX3 41 arraycopyName, Cond.native arraycopyName, Cond.static arraycopyName]
def wsX3_become_r2 : List Cond := [Cond.initialized "java/lang/System"]
def wsX3_become : List Cond := .code yX3_become cX3_become 2 none :: ((wsX3_become_r1 ++ wsX3_become_r2) ++ wsX30)
def wsX3_come : List Cond := .code yX3_come cX3_come 4 (some .int) :: ([.fieldLink RX3 3 "ArchWaterModel$State" "this$0" "LArchWaterModel;", .fieldLink RX3 19 "ArchWaterModel$State" "water" "[I", .fieldLink RX3 15 "ArchWaterModel$State" "holds" "I", .fieldLink RX3 50 "ArchWaterModel$State" "cistern" "I", .methodLink RX3 81 Lib.Math.min.name, .static Lib.Math.min.name, .initialized "java/lang/Math", .code Lib.Math.min.name Lib.Math.min.code 2 (some .int)] ++ wsX30 ++ wsX40)
def wsX4_slope : List Cond := .code yX4_slope cX4_slope 2 (some .int) :: ([.fieldLink RX4 16 "ArchWaterModel" "height" "[I", .fieldLink RX4 41 "ArchWaterModel" "arches" "I"] ++ wsX40)
def wsX4_rate : List Cond := .code yX4_rate cX4_rate 2 (some .int) :: ([.methodLink RX4 52 Lib.Math.min.name, .static Lib.Math.min.name, .initialized "java/lang/Math", .code Lib.Math.min.name Lib.Math.min.code 2 (some .int), .methodLink RX4 48 yX4_slope, .instanceMethod yX4_slope, .selects RX4 yX4_slope yX4_slope, .initialized RX4, .code yX4_slope cX4_slope 2 (some .int), .fieldLink RX4 16 "ArchWaterModel" "height" "[I", .fieldLink RX4 41 "ArchWaterModel" "arches" "I"] ++ wsX40)
def wsX3_grind : List Cond := .code yX3_grind cX3_grind 3 none :: ([.fieldLink RX3 38 "ArchWaterModel$State" "took" "[I", .fieldLink RX3 53 "ArchWaterModel$State" "coins" "I", .fieldLink RX3 35 "ArchWaterModel$State" "flour" "[I", .fieldLink RX3 66 "ArchWaterModel$State" "used" "I", .fieldLink RX3 63 "ArchWaterModel$State" "spilt" "I", .fieldLink RX3 3 "ArchWaterModel$State" "this$0" "LArchWaterModel;", .methodLink RX3 81 Lib.Math.min.name, .static Lib.Math.min.name, .initialized "java/lang/Math", .code Lib.Math.min.name Lib.Math.min.code 2 (some .int), .methodLink RX3 97 yX3_come, .instanceMethod yX3_come, .selects RX3 yX3_come yX3_come, .initialized RX3, .code yX3_come cX3_come 4 (some .int), .fieldLink RX3 19 "ArchWaterModel$State" "water" "[I", .fieldLink RX3 15 "ArchWaterModel$State" "holds" "I", .fieldLink RX3 50 "ArchWaterModel$State" "cistern" "I"] ++ wsX30 ++ wsX40)
def wsX3_pass_r1 : List Cond := [Cond.fieldLink RX3 47 "ArchWaterModel$State" "hour" "I", Cond.fieldLink RX3 72 "ArchWaterModel$State" "thirst" "I", Cond.fieldLink RX3 3 "ArchWaterModel$State" "this$0" "LArchWaterModel;", Cond.fieldLink RX3 50 "ArchWaterModel$State" "cistern" "I", Cond.methodLink RX3 81 Lib.Math.min.name, Cond.static Lib.Math.min.name, Cond.initialized "java/lang/Math", Cond.code Lib.Math.min.name Lib.Math.min.code 2 (some .int), Cond.fieldLink RX3 69 "ArchWaterModel$State" "drunk" "I", Cond.fieldLink RX3 19 "ArchWaterModel$State" "water" "[I", Cond.fieldLink RX3 38 "ArchWaterModel$State" "took" "[I", Cond.fieldLink RX3 32 "ArchWaterModel$State" "tenths" "[I", Cond.fieldLink RX3 60 "ArchWaterModel$State" "given" "I", Cond.fieldLink RX3 63 "ArchWaterModel$State" "spilt" "I", Cond.fieldLink RX3 26 "ArchWaterModel$State" "drops" "[I", Cond.fieldLink RX3 23 "ArchWaterModel$State" "wear" "[I", Cond.fieldLink RX3 29 "ArchWaterModel$State" "leaked" "[I", Cond.instanceMethod yX4_rate, Cond.initialized RX4, Cond.selects RX4 yX4_rate yX4_rate, Cond.code yX4_rate cX4_rate 2 (some .int), Cond.methodLink RX4 52 Lib.Math.min.name, Cond.methodLink RX4 48 yX4_slope, Cond.instanceMethod yX4_slope]
def wsX3_pass_r2 : List Cond := [Cond.selects RX4 yX4_slope yX4_slope, Cond.code yX4_slope cX4_slope 2 (some .int), Cond.fieldLink RX4 16 "ArchWaterModel" "height" "[I", Cond.fieldLink RX4 41 "ArchWaterModel" "arches" "I", Cond.methodLink RX3 97 yX3_come, Cond.instanceMethod yX3_come, Cond.selects RX3 yX3_come yX3_come, Cond.initialized RX3, Cond.code yX3_come cX3_come 4 (some .int), Cond.fieldLink RX3 15 "ArchWaterModel$State" "holds" "I", Cond.methodLink RX3 100 yX3_grind, Cond.instanceMethod yX3_grind, Cond.selects RX3 yX3_grind yX3_grind, Cond.code yX3_grind cX3_grind 3 none, Cond.fieldLink RX3 53 "ArchWaterModel$State" "coins" "I", Cond.fieldLink RX3 35 "ArchWaterModel$State" "flour" "[I", Cond.fieldLink RX3 66 "ArchWaterModel$State" "used" "I"]
def wsX3_pass : List Cond := .code yX3_pass cX3_pass 6 (some .int) :: ((wsX3_pass_r1 ++ wsX3_pass_r2) ++ wsX30 ++ wsX40)
def wsX3_over : List Cond := .code yX3_over cX3_over 4 (some .int) :: ([.fieldLink RX3 3 "ArchWaterModel$State" "this$0" "LArchWaterModel;"] ++ wsX30 ++ wsX40)
def wsX4_init_r1 : List Cond := [Cond.methodLink RX4 1 objectInit, Cond.instanceMethod objectInit, Cond.code objectInit ⟨#[0xb1]⟩ 1 none, Cond.arrayClass .int, Cond.fieldLink RX4 9 "ArchWaterModel" "spring" "[I", Cond.fieldLink RX4 13 "ArchWaterModel" "city" "[I", Cond.fieldLink RX4 16 "ArchWaterModel" "height" "[I", Cond.fieldLink RX4 19 "ArchWaterModel" "size" "[I", Cond.fieldLink RX4 22 "ArchWaterModel" "appetite" "[I", Cond.classLink RX4 25 RX3, Cond.instantiable RX3 17, Cond.initialized RX3, Cond.fieldLink RX4 30 "ArchWaterModel" "s" "LArchWaterModel$State;", Cond.fieldLink RX4 34 "ArchWaterModel" "ahead" "LArchWaterModel$State;", Cond.instanceMethod yX3_init, Cond.code yX3_init cX3_init 2 none, Cond.fieldLink RX3 3 "ArchWaterModel$State" "this$0" "LArchWaterModel;", Cond.methodLink RX3 9 objectInit, Cond.fieldLink RX3 15 "ArchWaterModel$State" "holds" "I", Cond.fieldLink RX3 19 "ArchWaterModel$State" "water" "[I", Cond.fieldLink RX3 23 "ArchWaterModel$State" "wear" "[I", Cond.fieldLink RX3 26 "ArchWaterModel$State" "drops" "[I", Cond.fieldLink RX3 29 "ArchWaterModel$State" "leaked" "[I", Cond.fieldLink RX3 32 "ArchWaterModel$State" "tenths" "[I"]
def wsX4_init_r2 : List Cond := [Cond.fieldLink RX3 35 "ArchWaterModel$State" "flour" "[I", Cond.fieldLink RX3 38 "ArchWaterModel$State" "took" "[I"]
def wsX4_init : List Cond := .code yX4_init cX4_init 1 none :: ((wsX4_init_r1 ++ wsX4_init_r2) ++ wsX40 ++ wsX30)
def wsX4_thrown : List Cond := .code yX4_thrown cX4_thrown 1 (some .int) :: ([.fieldLink RX4 37 "ArchWaterModel" "thrown" "I"] ++ wsX40)
def wsX4_no : List Cond := .code yX4_no cX4_no 2 (some .int) :: ([.fieldLink RX4 37 "ArchWaterModel" "thrown" "I"] ++ wsX40)
def wsX4_isIn : List Cond := .code yX4_isIn cX4_isIn 3 (some .boolean) :: ([])
def wsX4_isArch : List Cond := .code yX4_isArch cX4_isArch 2 (some .boolean) :: ([.fieldLink RX4 41 "ArchWaterModel" "arches" "I", .methodLink RX4 44 yX4_isIn, .static yX4_isIn, .initialized RX4, .code yX4_isIn cX4_isIn 3 (some .boolean)] ++ wsX40)
def wsX4_build : List Cond := .code yX4_build cX4_build 3 (some .int) :: ([.fieldLink RX4 37 "ArchWaterModel" "thrown" "I", .fieldLink RX4 41 "ArchWaterModel" "arches" "I", .fieldLink RX4 16 "ArchWaterModel" "height" "[I", .fieldLink RX4 19 "ArchWaterModel" "size" "[I", .methodLink RX4 44 yX4_isIn, .static yX4_isIn, .initialized RX4, .code yX4_isIn cX4_isIn 3 (some .boolean), .methodLink RX4 58 yX4_no, .instanceMethod yX4_no, .selects RX4 yX4_no yX4_no, .code yX4_no cX4_no 2 (some .int)] ++ wsX40)
def wsX4_set : List Cond := .code yX4_set cX4_set 5 (some .int) :: ([.fieldLink RX4 37 "ArchWaterModel" "thrown" "I", .methodLink RX4 44 yX4_isIn, .static yX4_isIn, .initialized RX4, .code yX4_isIn cX4_isIn 3 (some .boolean), .methodLink RX4 58 yX4_no, .instanceMethod yX4_no, .selects RX4 yX4_no yX4_no, .code yX4_no cX4_no 2 (some .int)] ++ wsX40)
def wsX4_setSpring : List Cond := .code yX4_setSpring cX4_setSpring 3 (some .int) :: ([.fieldLink RX4 9 "ArchWaterModel" "spring" "[I", .methodLink RX4 61 yX4_set, .instanceMethod yX4_set, .selects RX4 yX4_set yX4_set, .initialized RX4, .code yX4_set cX4_set 5 (some .int), .fieldLink RX4 37 "ArchWaterModel" "thrown" "I", .methodLink RX4 44 yX4_isIn, .static yX4_isIn, .code yX4_isIn cX4_isIn 3 (some .boolean), .methodLink RX4 58 yX4_no, .instanceMethod yX4_no, .selects RX4 yX4_no yX4_no, .code yX4_no cX4_no 2 (some .int)] ++ wsX40)
def wsX4_setCity : List Cond := .code yX4_setCity cX4_setCity 3 (some .int) :: ([.fieldLink RX4 13 "ArchWaterModel" "city" "[I", .methodLink RX4 61 yX4_set, .instanceMethod yX4_set, .selects RX4 yX4_set yX4_set, .initialized RX4, .code yX4_set cX4_set 5 (some .int), .fieldLink RX4 37 "ArchWaterModel" "thrown" "I", .methodLink RX4 44 yX4_isIn, .static yX4_isIn, .code yX4_isIn cX4_isIn 3 (some .boolean), .methodLink RX4 58 yX4_no, .instanceMethod yX4_no, .selects RX4 yX4_no yX4_no, .code yX4_no cX4_no 2 (some .int)] ++ wsX40)
def wsX4_setCistern : List Cond := .code yX4_setCistern cX4_setCistern 3 (some .int) :: ([.fieldLink RX4 37 "ArchWaterModel" "thrown" "I", .fieldLink RX4 30 "ArchWaterModel" "s" "LArchWaterModel$State;", .methodLink RX4 68 Lib.Math.max.name, .static Lib.Math.max.name, .initialized "java/lang/Math", .code Lib.Math.max.name Lib.Math.max.code 2 (some .int), .methodLink RX4 44 yX4_isIn, .static yX4_isIn, .initialized RX4, .code yX4_isIn cX4_isIn 3 (some .boolean), .methodLink RX4 58 yX4_no, .instanceMethod yX4_no, .selects RX4 yX4_no yX4_no, .code yX4_no cX4_no 2 (some .int)] ++ wsX40 ++ wsX30)
def wsX4_archTold : List Cond := .code yX4_archTold cX4_archTold 4 (some .int) :: ([.arrayClass .int, .fieldLink RX4 16 "ArchWaterModel" "height" "[I", .fieldLink RX4 19 "ArchWaterModel" "size" "[I", .fieldLink RX4 30 "ArchWaterModel" "s" "LArchWaterModel$State;", .fieldLink RX4 22 "ArchWaterModel" "appetite" "[I", .methodLink RX4 48 yX4_slope, .instanceMethod yX4_slope, .selects RX4 yX4_slope yX4_slope, .initialized RX4, .code yX4_slope cX4_slope 2 (some .int), .fieldLink RX4 41 "ArchWaterModel" "arches" "I", .methodLink RX4 86 yX4_rate, .instanceMethod yX4_rate, .selects RX4 yX4_rate yX4_rate, .code yX4_rate cX4_rate 2 (some .int), .methodLink RX4 52 Lib.Math.min.name, .static Lib.Math.min.name, .initialized "java/lang/Math", .code Lib.Math.min.name Lib.Math.min.code 2 (some .int)] ++ wsX40 ++ wsX30)
def wsX4_arch_r1 : List Cond := [Cond.fieldLink RX4 37 "ArchWaterModel" "thrown" "I", Cond.methodLink RX4 92 yX4_isArch, Cond.instanceMethod yX4_isArch, Cond.selects RX4 yX4_isArch yX4_isArch, Cond.initialized RX4, Cond.code yX4_isArch cX4_isArch 2 (some .boolean), Cond.fieldLink RX4 41 "ArchWaterModel" "arches" "I", Cond.methodLink RX4 44 yX4_isIn, Cond.static yX4_isIn, Cond.code yX4_isIn cX4_isIn 3 (some .boolean), Cond.methodLink RX4 96 yX4_archTold, Cond.instanceMethod yX4_archTold, Cond.selects RX4 yX4_archTold yX4_archTold, Cond.code yX4_archTold cX4_archTold 4 (some .int), Cond.arrayClass .int, Cond.fieldLink RX4 16 "ArchWaterModel" "height" "[I", Cond.fieldLink RX4 19 "ArchWaterModel" "size" "[I", Cond.fieldLink RX4 30 "ArchWaterModel" "s" "LArchWaterModel$State;", Cond.fieldLink RX4 22 "ArchWaterModel" "appetite" "[I", Cond.methodLink RX4 48 yX4_slope, Cond.instanceMethod yX4_slope, Cond.selects RX4 yX4_slope yX4_slope, Cond.code yX4_slope cX4_slope 2 (some .int), Cond.methodLink RX4 86 yX4_rate]
def wsX4_arch_r2 : List Cond := [Cond.instanceMethod yX4_rate, Cond.selects RX4 yX4_rate yX4_rate, Cond.code yX4_rate cX4_rate 2 (some .int), Cond.methodLink RX4 52 Lib.Math.min.name, Cond.static Lib.Math.min.name, Cond.initialized "java/lang/Math", Cond.code Lib.Math.min.name Lib.Math.min.code 2 (some .int), Cond.methodLink RX4 58 yX4_no, Cond.instanceMethod yX4_no, Cond.selects RX4 yX4_no yX4_no, Cond.code yX4_no cX4_no 2 (some .int)]
def wsX4_arch : List Cond := .code yX4_arch cX4_arch 3 (some .int) :: ((wsX4_arch_r1 ++ wsX4_arch_r2) ++ wsX40 ++ wsX30)
def wsX4_mills : List Cond := .code yX4_mills cX4_mills 3 (some .int) :: ([.fieldLink RX4 41 "ArchWaterModel" "arches" "I", .fieldLink RX4 22 "ArchWaterModel" "appetite" "[I"] ++ wsX40)
def wsX4_addMill : List Cond := .code yX4_addMill cX4_addMill 3 (some .int) :: ([.fieldLink RX4 37 "ArchWaterModel" "thrown" "I", .fieldLink RX4 22 "ArchWaterModel" "appetite" "[I", .methodLink RX4 92 yX4_isArch, .instanceMethod yX4_isArch, .selects RX4 yX4_isArch yX4_isArch, .initialized RX4, .code yX4_isArch cX4_isArch 2 (some .boolean), .fieldLink RX4 41 "ArchWaterModel" "arches" "I", .methodLink RX4 44 yX4_isIn, .static yX4_isIn, .code yX4_isIn cX4_isIn 3 (some .boolean), .methodLink RX4 58 yX4_no, .instanceMethod yX4_no, .selects RX4 yX4_no yX4_no, .code yX4_no cX4_no 2 (some .int), .methodLink RX4 99 yX4_mills, .instanceMethod yX4_mills, .selects RX4 yX4_mills yX4_mills, .code yX4_mills cX4_mills 3 (some .int)] ++ wsX40)
def wsX4_setSluice : List Cond := .code yX4_setSluice cX4_setSluice 4 (some .int) :: ([.fieldLink RX4 37 "ArchWaterModel" "thrown" "I", .fieldLink RX4 22 "ArchWaterModel" "appetite" "[I", .fieldLink RX4 30 "ArchWaterModel" "s" "LArchWaterModel$State;", .methodLink RX4 92 yX4_isArch, .instanceMethod yX4_isArch, .selects RX4 yX4_isArch yX4_isArch, .initialized RX4, .code yX4_isArch cX4_isArch 2 (some .boolean), .fieldLink RX4 41 "ArchWaterModel" "arches" "I", .methodLink RX4 44 yX4_isIn, .static yX4_isIn, .code yX4_isIn cX4_isIn 3 (some .boolean), .methodLink RX4 58 yX4_no, .instanceMethod yX4_no, .selects RX4 yX4_no yX4_no, .code yX4_no cX4_no 2 (some .int)] ++ wsX40 ++ wsX30)
def wsX4_millTold : List Cond := .code yX4_millTold cX4_millTold 3 (some .int) :: ([.fieldLink RX4 22 "ArchWaterModel" "appetite" "[I", .fieldLink RX4 30 "ArchWaterModel" "s" "LArchWaterModel$State;"] ++ wsX40 ++ wsX30)
def wsX4_mill : List Cond := .code yX4_mill cX4_mill 3 (some .int) :: ([.fieldLink RX4 37 "ArchWaterModel" "thrown" "I", .methodLink RX4 92 yX4_isArch, .instanceMethod yX4_isArch, .selects RX4 yX4_isArch yX4_isArch, .initialized RX4, .code yX4_isArch cX4_isArch 2 (some .boolean), .fieldLink RX4 41 "ArchWaterModel" "arches" "I", .methodLink RX4 44 yX4_isIn, .static yX4_isIn, .code yX4_isIn cX4_isIn 3 (some .boolean), .methodLink RX4 112 yX4_millTold, .instanceMethod yX4_millTold, .selects RX4 yX4_millTold yX4_millTold, .code yX4_millTold cX4_millTold 3 (some .int), .fieldLink RX4 22 "ArchWaterModel" "appetite" "[I", .fieldLink RX4 30 "ArchWaterModel" "s" "LArchWaterModel$State;", .methodLink RX4 58 yX4_no, .instanceMethod yX4_no, .selects RX4 yX4_no yX4_no, .code yX4_no cX4_no 2 (some .int)] ++ wsX40 ++ wsX30)
def wsX4_mend : List Cond := .code yX4_mend cX4_mend 2 (some .int) :: ([.fieldLink RX4 37 "ArchWaterModel" "thrown" "I", .fieldLink RX4 30 "ArchWaterModel" "s" "LArchWaterModel$State;", .methodLink RX4 68 Lib.Math.max.name, .static Lib.Math.max.name, .initialized "java/lang/Math", .code Lib.Math.max.name Lib.Math.max.code 2 (some .int), .methodLink RX4 92 yX4_isArch, .instanceMethod yX4_isArch, .selects RX4 yX4_isArch yX4_isArch, .initialized RX4, .code yX4_isArch cX4_isArch 2 (some .boolean), .fieldLink RX4 41 "ArchWaterModel" "arches" "I", .methodLink RX4 44 yX4_isIn, .static yX4_isIn, .code yX4_isIn cX4_isIn 3 (some .boolean), .methodLink RX4 58 yX4_no, .instanceMethod yX4_no, .selects RX4 yX4_no yX4_no, .code yX4_no cX4_no 2 (some .int)] ++ wsX40 ++ wsX30)
def wsX4_quake : List Cond := .code yX4_quake cX4_quake 3 (some .int) :: ([.fieldLink RX4 37 "ArchWaterModel" "thrown" "I", .fieldLink RX4 30 "ArchWaterModel" "s" "LArchWaterModel$State;", .methodLink RX4 52 Lib.Math.min.name, .static Lib.Math.min.name, .initialized "java/lang/Math", .code Lib.Math.min.name Lib.Math.min.code 2 (some .int), .methodLink RX4 92 yX4_isArch, .instanceMethod yX4_isArch, .selects RX4 yX4_isArch yX4_isArch, .initialized RX4, .code yX4_isArch cX4_isArch 2 (some .boolean), .fieldLink RX4 41 "ArchWaterModel" "arches" "I", .methodLink RX4 44 yX4_isIn, .static yX4_isIn, .code yX4_isIn cX4_isIn 3 (some .boolean), .methodLink RX4 58 yX4_no, .instanceMethod yX4_no, .selects RX4 yX4_no yX4_no, .code yX4_no cX4_no 2 (some .int)] ++ wsX40 ++ wsX30)
def wsX4_pass_r1 : List Cond := [Cond.methodLink RX4 118 yX3_pass, Cond.instanceMethod yX3_pass, Cond.selects RX3 yX3_pass yX3_pass, Cond.initialized RX3, Cond.code yX3_pass cX3_pass 6 (some .int), Cond.fieldLink RX3 47 "ArchWaterModel$State" "hour" "I", Cond.fieldLink RX3 72 "ArchWaterModel$State" "thirst" "I", Cond.fieldLink RX3 3 "ArchWaterModel$State" "this$0" "LArchWaterModel;", Cond.fieldLink RX3 50 "ArchWaterModel$State" "cistern" "I", Cond.methodLink RX3 81 Lib.Math.min.name, Cond.static Lib.Math.min.name, Cond.initialized "java/lang/Math", Cond.code Lib.Math.min.name Lib.Math.min.code 2 (some .int), Cond.fieldLink RX3 69 "ArchWaterModel$State" "drunk" "I", Cond.fieldLink RX3 19 "ArchWaterModel$State" "water" "[I", Cond.fieldLink RX3 38 "ArchWaterModel$State" "took" "[I", Cond.fieldLink RX3 32 "ArchWaterModel$State" "tenths" "[I", Cond.fieldLink RX3 60 "ArchWaterModel$State" "given" "I", Cond.fieldLink RX3 63 "ArchWaterModel$State" "spilt" "I", Cond.fieldLink RX3 26 "ArchWaterModel$State" "drops" "[I", Cond.fieldLink RX3 23 "ArchWaterModel$State" "wear" "[I", Cond.fieldLink RX3 29 "ArchWaterModel$State" "leaked" "[I", Cond.instanceMethod yX4_rate, Cond.initialized RX4]
def wsX4_pass_r2 : List Cond := [Cond.selects RX4 yX4_rate yX4_rate, Cond.code yX4_rate cX4_rate 2 (some .int), Cond.methodLink RX4 52 Lib.Math.min.name, Cond.methodLink RX4 48 yX4_slope, Cond.instanceMethod yX4_slope, Cond.selects RX4 yX4_slope yX4_slope, Cond.code yX4_slope cX4_slope 2 (some .int), Cond.fieldLink RX4 16 "ArchWaterModel" "height" "[I", Cond.fieldLink RX4 41 "ArchWaterModel" "arches" "I", Cond.methodLink RX3 97 yX3_come, Cond.instanceMethod yX3_come, Cond.selects RX3 yX3_come yX3_come, Cond.code yX3_come cX3_come 4 (some .int), Cond.fieldLink RX3 15 "ArchWaterModel$State" "holds" "I", Cond.methodLink RX3 100 yX3_grind, Cond.instanceMethod yX3_grind, Cond.selects RX3 yX3_grind yX3_grind, Cond.code yX3_grind cX3_grind 3 none, Cond.fieldLink RX3 53 "ArchWaterModel$State" "coins" "I", Cond.fieldLink RX3 35 "ArchWaterModel$State" "flour" "[I", Cond.fieldLink RX3 66 "ArchWaterModel$State" "used" "I"]
def wsX4_pass : List Cond := .code yX4_pass cX4_pass 4 (some .int) :: ((wsX4_pass_r1 ++ wsX4_pass_r2) ++ wsX30 ++ wsX40)
def wsX4_pass__r1 : List Cond := [Cond.fieldLink RX4 37 "ArchWaterModel" "thrown" "I", Cond.fieldLink RX4 30 "ArchWaterModel" "s" "LArchWaterModel$State;", Cond.methodLink RX4 44 yX4_isIn, Cond.static yX4_isIn, Cond.initialized RX4, Cond.code yX4_isIn cX4_isIn 3 (some .boolean), Cond.methodLink RX4 121 yX4_pass, Cond.static yX4_pass, Cond.code yX4_pass cX4_pass 4 (some .int), Cond.methodLink RX4 118 yX3_pass, Cond.instanceMethod yX3_pass, Cond.selects RX3 yX3_pass yX3_pass, Cond.initialized RX3, Cond.code yX3_pass cX3_pass 6 (some .int), Cond.fieldLink RX3 47 "ArchWaterModel$State" "hour" "I", Cond.fieldLink RX3 72 "ArchWaterModel$State" "thirst" "I", Cond.fieldLink RX3 3 "ArchWaterModel$State" "this$0" "LArchWaterModel;", Cond.fieldLink RX3 50 "ArchWaterModel$State" "cistern" "I", Cond.methodLink RX3 81 Lib.Math.min.name, Cond.static Lib.Math.min.name, Cond.initialized "java/lang/Math", Cond.code Lib.Math.min.name Lib.Math.min.code 2 (some .int), Cond.fieldLink RX3 69 "ArchWaterModel$State" "drunk" "I", Cond.fieldLink RX3 19 "ArchWaterModel$State" "water" "[I"]
def wsX4_pass__r2 : List Cond := [Cond.fieldLink RX3 38 "ArchWaterModel$State" "took" "[I", Cond.fieldLink RX3 32 "ArchWaterModel$State" "tenths" "[I", Cond.fieldLink RX3 60 "ArchWaterModel$State" "given" "I", Cond.fieldLink RX3 63 "ArchWaterModel$State" "spilt" "I", Cond.fieldLink RX3 26 "ArchWaterModel$State" "drops" "[I", Cond.fieldLink RX3 23 "ArchWaterModel$State" "wear" "[I", Cond.fieldLink RX3 29 "ArchWaterModel$State" "leaked" "[I", Cond.instanceMethod yX4_rate, Cond.selects RX4 yX4_rate yX4_rate, Cond.code yX4_rate cX4_rate 2 (some .int), Cond.methodLink RX4 52 Lib.Math.min.name, Cond.methodLink RX4 48 yX4_slope, Cond.instanceMethod yX4_slope, Cond.selects RX4 yX4_slope yX4_slope, Cond.code yX4_slope cX4_slope 2 (some .int), Cond.fieldLink RX4 16 "ArchWaterModel" "height" "[I", Cond.fieldLink RX4 41 "ArchWaterModel" "arches" "I", Cond.methodLink RX3 97 yX3_come, Cond.instanceMethod yX3_come, Cond.selects RX3 yX3_come yX3_come, Cond.code yX3_come cX3_come 4 (some .int), Cond.fieldLink RX3 15 "ArchWaterModel$State" "holds" "I", Cond.methodLink RX3 100 yX3_grind, Cond.instanceMethod yX3_grind]
def wsX4_pass__r3 : List Cond := [Cond.selects RX3 yX3_grind yX3_grind, Cond.code yX3_grind cX3_grind 3 none, Cond.fieldLink RX3 53 "ArchWaterModel$State" "coins" "I", Cond.fieldLink RX3 35 "ArchWaterModel$State" "flour" "[I", Cond.fieldLink RX3 66 "ArchWaterModel$State" "used" "I", Cond.methodLink RX4 58 yX4_no, Cond.instanceMethod yX4_no, Cond.selects RX4 yX4_no yX4_no, Cond.code yX4_no cX4_no 2 (some .int)]
def wsX4_pass_ : List Cond := .code yX4_pass_ cX4_pass_ 2 (some .int) :: ((wsX4_pass__r1 ++ (wsX4_pass__r2 ++ wsX4_pass__r3)) ++ wsX40 ++ wsX30)
def wsX4_counted : List Cond := .code yX4_counted cX4_counted 3 (some .int) :: ([.arrayClass .int, .fieldLink RX4 30 "ArchWaterModel" "s" "LArchWaterModel$State;", .fieldLink RX4 41 "ArchWaterModel" "arches" "I", .methodLink RX4 99 yX4_mills, .instanceMethod yX4_mills, .selects RX4 yX4_mills yX4_mills, .initialized RX4, .code yX4_mills cX4_mills 3 (some .int), .fieldLink RX4 22 "ArchWaterModel" "appetite" "[I", .methodLink RX4 127 yX3_over, .instanceMethod yX3_over, .selects RX3 yX3_over yX3_over, .initialized RX3, .code yX3_over cX3_over 4 (some .int), .fieldLink RX3 3 "ArchWaterModel$State" "this$0" "LArchWaterModel;"] ++ wsX40 ++ wsX30)
def wsX4_count_r1 : List Cond := [Cond.fieldLink RX4 37 "ArchWaterModel" "thrown" "I", Cond.methodLink RX4 44 yX4_isIn, Cond.static yX4_isIn, Cond.initialized RX4, Cond.code yX4_isIn cX4_isIn 3 (some .boolean), Cond.methodLink RX4 143 yX4_counted, Cond.instanceMethod yX4_counted, Cond.selects RX4 yX4_counted yX4_counted, Cond.code yX4_counted cX4_counted 3 (some .int), Cond.arrayClass .int, Cond.fieldLink RX4 30 "ArchWaterModel" "s" "LArchWaterModel$State;", Cond.fieldLink RX4 41 "ArchWaterModel" "arches" "I", Cond.methodLink RX4 99 yX4_mills, Cond.instanceMethod yX4_mills, Cond.selects RX4 yX4_mills yX4_mills, Cond.code yX4_mills cX4_mills 3 (some .int), Cond.fieldLink RX4 22 "ArchWaterModel" "appetite" "[I", Cond.methodLink RX4 127 yX3_over, Cond.instanceMethod yX3_over, Cond.selects RX3 yX3_over yX3_over, Cond.initialized RX3, Cond.code yX3_over cX3_over 4 (some .int), Cond.fieldLink RX3 3 "ArchWaterModel$State" "this$0" "LArchWaterModel;", Cond.methodLink RX4 58 yX4_no]
def wsX4_count_r2 : List Cond := [Cond.instanceMethod yX4_no, Cond.selects RX4 yX4_no yX4_no, Cond.code yX4_no cX4_no 2 (some .int)]
def wsX4_count : List Cond := .code yX4_count cX4_count 2 (some .int) :: ((wsX4_count_r1 ++ wsX4_count_r2) ++ wsX40 ++ wsX30)
def wsX4_foresee_r1 : List Cond := [Cond.fieldLink RX4 37 "ArchWaterModel" "thrown" "I", Cond.fieldLink RX4 34 "ArchWaterModel" "ahead" "LArchWaterModel$State;", Cond.fieldLink RX4 30 "ArchWaterModel" "s" "LArchWaterModel$State;", Cond.methodLink RX4 44 yX4_isIn, Cond.static yX4_isIn, Cond.initialized RX4, Cond.code yX4_isIn cX4_isIn 3 (some .boolean), Cond.methodLink RX4 58 yX4_no, Cond.instanceMethod yX4_no, Cond.selects RX4 yX4_no yX4_no, Cond.code yX4_no cX4_no 2 (some .int), Cond.methodLink RX4 146 yX3_become, Cond.instanceMethod yX3_become, Cond.selects RX3 yX3_become yX3_become, Cond.initialized RX3, Cond.code yX3_become cX3_become 2 none, Cond.fieldLink RX3 47 "ArchWaterModel$State" "hour" "I", Cond.fieldLink RX3 50 "ArchWaterModel$State" "cistern" "I", Cond.fieldLink RX3 15 "ArchWaterModel$State" "holds" "I", Cond.fieldLink RX3 53 "ArchWaterModel$State" "coins" "I", Cond.fieldLink RX3 19 "ArchWaterModel$State" "water" "[I", Cond.fieldLink RX3 23 "ArchWaterModel$State" "wear" "[I", Cond.fieldLink RX3 26 "ArchWaterModel$State" "drops" "[I", Cond.fieldLink RX3 29 "ArchWaterModel$State" "leaked" "[I"]
def wsX4_foresee_r2 : List Cond := [Cond.fieldLink RX3 32 "ArchWaterModel$State" "tenths" "[I", Cond.fieldLink RX3 35 "ArchWaterModel$State" "flour" "[I", Cond.fieldLink RX3 38 "ArchWaterModel$State" "took" "[I", Cond.fieldLink RX3 60 "ArchWaterModel$State" "given" "I", Cond.fieldLink RX3 63 "ArchWaterModel$State" "spilt" "I", Cond.fieldLink RX3 66 "ArchWaterModel$State" "used" "I", Cond.fieldLink RX3 69 "ArchWaterModel$State" "drunk" "I", Cond.fieldLink RX3 72 "ArchWaterModel$State" "thirst" "I", Cond.methodLink RX3 56 yX3_copy, Cond.instanceMethod yX3_copy, Cond.selects RX3 yX3_copy yX3_copy, Cond.code yX3_copy cX3_copy 3 none, Cond.methodLink RX3 41 arraycopyName, Cond.native arraycopyName, Cond.static arraycopyName, Cond.initialized "java/lang/System", Cond.methodLink RX4 121 yX4_pass, Cond.static yX4_pass, Cond.code yX4_pass cX4_pass 4 (some .int), Cond.methodLink RX4 118 yX3_pass, Cond.instanceMethod yX3_pass, Cond.selects RX3 yX3_pass yX3_pass, Cond.code yX3_pass cX3_pass 6 (some .int), Cond.fieldLink RX3 3 "ArchWaterModel$State" "this$0" "LArchWaterModel;"]
def wsX4_foresee_r3 : List Cond := [Cond.methodLink RX3 81 Lib.Math.min.name, Cond.static Lib.Math.min.name, Cond.initialized "java/lang/Math", Cond.code Lib.Math.min.name Lib.Math.min.code 2 (some .int), Cond.instanceMethod yX4_rate, Cond.selects RX4 yX4_rate yX4_rate, Cond.code yX4_rate cX4_rate 2 (some .int), Cond.methodLink RX4 52 Lib.Math.min.name, Cond.methodLink RX4 48 yX4_slope, Cond.instanceMethod yX4_slope, Cond.selects RX4 yX4_slope yX4_slope, Cond.code yX4_slope cX4_slope 2 (some .int), Cond.fieldLink RX4 16 "ArchWaterModel" "height" "[I", Cond.fieldLink RX4 41 "ArchWaterModel" "arches" "I", Cond.methodLink RX3 97 yX3_come, Cond.instanceMethod yX3_come, Cond.selects RX3 yX3_come yX3_come, Cond.code yX3_come cX3_come 4 (some .int), Cond.methodLink RX3 100 yX3_grind, Cond.instanceMethod yX3_grind, Cond.selects RX3 yX3_grind yX3_grind, Cond.code yX3_grind cX3_grind 3 none, Cond.methodLink RX4 127 yX3_over, Cond.instanceMethod yX3_over]
def wsX4_foresee_r4 : List Cond := [Cond.selects RX3 yX3_over yX3_over, Cond.code yX3_over cX3_over 4 (some .int)]
def wsX4_foresee : List Cond := .code yX4_foresee cX4_foresee 4 (some .int) :: ((wsX4_foresee_r1 ++ (wsX4_foresee_r2 ++ (wsX4_foresee_r3 ++ wsX4_foresee_r4))) ++ wsX40 ++ wsX30)
def wsX4_advise_r1 : List Cond := [Cond.fieldLink RX4 37 "ArchWaterModel" "thrown" "I", Cond.fieldLink RX4 34 "ArchWaterModel" "ahead" "LArchWaterModel$State;", Cond.fieldLink RX4 30 "ArchWaterModel" "s" "LArchWaterModel$State;", Cond.fieldLink RX4 41 "ArchWaterModel" "arches" "I", Cond.methodLink RX4 44 yX4_isIn, Cond.static yX4_isIn, Cond.initialized RX4, Cond.code yX4_isIn cX4_isIn 3 (some .boolean), Cond.methodLink RX4 58 yX4_no, Cond.instanceMethod yX4_no, Cond.selects RX4 yX4_no yX4_no, Cond.code yX4_no cX4_no 2 (some .int), Cond.methodLink RX4 146 yX3_become, Cond.instanceMethod yX3_become, Cond.selects RX3 yX3_become yX3_become, Cond.initialized RX3, Cond.code yX3_become cX3_become 2 none, Cond.fieldLink RX3 47 "ArchWaterModel$State" "hour" "I", Cond.fieldLink RX3 50 "ArchWaterModel$State" "cistern" "I", Cond.fieldLink RX3 15 "ArchWaterModel$State" "holds" "I", Cond.fieldLink RX3 53 "ArchWaterModel$State" "coins" "I", Cond.fieldLink RX3 19 "ArchWaterModel$State" "water" "[I", Cond.fieldLink RX3 23 "ArchWaterModel$State" "wear" "[I", Cond.fieldLink RX3 26 "ArchWaterModel$State" "drops" "[I"]
def wsX4_advise_r2 : List Cond := [Cond.fieldLink RX3 29 "ArchWaterModel$State" "leaked" "[I", Cond.fieldLink RX3 32 "ArchWaterModel$State" "tenths" "[I", Cond.fieldLink RX3 35 "ArchWaterModel$State" "flour" "[I", Cond.fieldLink RX3 38 "ArchWaterModel$State" "took" "[I", Cond.fieldLink RX3 60 "ArchWaterModel$State" "given" "I", Cond.fieldLink RX3 63 "ArchWaterModel$State" "spilt" "I", Cond.fieldLink RX3 66 "ArchWaterModel$State" "used" "I", Cond.fieldLink RX3 69 "ArchWaterModel$State" "drunk" "I", Cond.fieldLink RX3 72 "ArchWaterModel$State" "thirst" "I", Cond.methodLink RX3 56 yX3_copy, Cond.instanceMethod yX3_copy, Cond.selects RX3 yX3_copy yX3_copy, Cond.code yX3_copy cX3_copy 3 none, Cond.methodLink RX3 41 arraycopyName, Cond.native arraycopyName, Cond.static arraycopyName, Cond.initialized "java/lang/System", Cond.methodLink RX4 121 yX4_pass, Cond.static yX4_pass, Cond.code yX4_pass cX4_pass 4 (some .int), Cond.methodLink RX4 118 yX3_pass, Cond.instanceMethod yX3_pass, Cond.selects RX3 yX3_pass yX3_pass, Cond.code yX3_pass cX3_pass 6 (some .int)]
def wsX4_advise_r3 : List Cond := [Cond.fieldLink RX3 3 "ArchWaterModel$State" "this$0" "LArchWaterModel;", Cond.methodLink RX3 81 Lib.Math.min.name, Cond.static Lib.Math.min.name, Cond.initialized "java/lang/Math", Cond.code Lib.Math.min.name Lib.Math.min.code 2 (some .int), Cond.instanceMethod yX4_rate, Cond.selects RX4 yX4_rate yX4_rate, Cond.code yX4_rate cX4_rate 2 (some .int), Cond.methodLink RX4 52 Lib.Math.min.name, Cond.methodLink RX4 48 yX4_slope, Cond.instanceMethod yX4_slope, Cond.selects RX4 yX4_slope yX4_slope, Cond.code yX4_slope cX4_slope 2 (some .int), Cond.fieldLink RX4 16 "ArchWaterModel" "height" "[I", Cond.methodLink RX3 97 yX3_come, Cond.instanceMethod yX3_come, Cond.selects RX3 yX3_come yX3_come, Cond.code yX3_come cX3_come 4 (some .int), Cond.methodLink RX3 100 yX3_grind, Cond.instanceMethod yX3_grind, Cond.selects RX3 yX3_grind yX3_grind, Cond.code yX3_grind cX3_grind 3 none]
def wsX4_advise : List Cond := .code yX4_advise cX4_advise 6 (some .int) :: ((wsX4_advise_r1 ++ (wsX4_advise_r2 ++ wsX4_advise_r3)) ++ wsX40 ++ wsX30)
def wsX4_thirsty_r1 : List Cond := [Cond.fieldLink RX4 37 "ArchWaterModel" "thrown" "I", Cond.fieldLink RX4 34 "ArchWaterModel" "ahead" "LArchWaterModel$State;", Cond.fieldLink RX4 30 "ArchWaterModel" "s" "LArchWaterModel$State;", Cond.methodLink RX4 146 yX3_become, Cond.instanceMethod yX3_become, Cond.selects RX3 yX3_become yX3_become, Cond.initialized RX3, Cond.code yX3_become cX3_become 2 none, Cond.fieldLink RX3 47 "ArchWaterModel$State" "hour" "I", Cond.fieldLink RX3 50 "ArchWaterModel$State" "cistern" "I", Cond.fieldLink RX3 15 "ArchWaterModel$State" "holds" "I", Cond.fieldLink RX3 53 "ArchWaterModel$State" "coins" "I", Cond.fieldLink RX3 19 "ArchWaterModel$State" "water" "[I", Cond.fieldLink RX3 23 "ArchWaterModel$State" "wear" "[I", Cond.fieldLink RX3 26 "ArchWaterModel$State" "drops" "[I", Cond.fieldLink RX3 29 "ArchWaterModel$State" "leaked" "[I", Cond.fieldLink RX3 32 "ArchWaterModel$State" "tenths" "[I", Cond.fieldLink RX3 35 "ArchWaterModel$State" "flour" "[I", Cond.fieldLink RX3 38 "ArchWaterModel$State" "took" "[I", Cond.fieldLink RX3 60 "ArchWaterModel$State" "given" "I", Cond.fieldLink RX3 63 "ArchWaterModel$State" "spilt" "I", Cond.fieldLink RX3 66 "ArchWaterModel$State" "used" "I", Cond.fieldLink RX3 69 "ArchWaterModel$State" "drunk" "I", Cond.fieldLink RX3 72 "ArchWaterModel$State" "thirst" "I"]
def wsX4_thirsty_r2 : List Cond := [Cond.methodLink RX3 56 yX3_copy, Cond.instanceMethod yX3_copy, Cond.selects RX3 yX3_copy yX3_copy, Cond.code yX3_copy cX3_copy 3 none, Cond.methodLink RX3 41 arraycopyName, Cond.native arraycopyName, Cond.static arraycopyName, Cond.initialized "java/lang/System", Cond.methodLink RX4 118 yX3_pass, Cond.instanceMethod yX3_pass, Cond.selects RX3 yX3_pass yX3_pass, Cond.code yX3_pass cX3_pass 6 (some .int), Cond.fieldLink RX3 3 "ArchWaterModel$State" "this$0" "LArchWaterModel;", Cond.methodLink RX3 81 Lib.Math.min.name, Cond.static Lib.Math.min.name, Cond.initialized "java/lang/Math", Cond.code Lib.Math.min.name Lib.Math.min.code 2 (some .int), Cond.instanceMethod yX4_rate, Cond.initialized RX4, Cond.selects RX4 yX4_rate yX4_rate, Cond.code yX4_rate cX4_rate 2 (some .int), Cond.methodLink RX4 52 Lib.Math.min.name, Cond.methodLink RX4 48 yX4_slope, Cond.instanceMethod yX4_slope]
def wsX4_thirsty_r3 : List Cond := [Cond.selects RX4 yX4_slope yX4_slope, Cond.code yX4_slope cX4_slope 2 (some .int), Cond.fieldLink RX4 16 "ArchWaterModel" "height" "[I", Cond.fieldLink RX4 41 "ArchWaterModel" "arches" "I", Cond.methodLink RX3 97 yX3_come, Cond.instanceMethod yX3_come, Cond.selects RX3 yX3_come yX3_come, Cond.code yX3_come cX3_come 4 (some .int), Cond.methodLink RX3 100 yX3_grind, Cond.instanceMethod yX3_grind, Cond.selects RX3 yX3_grind yX3_grind, Cond.code yX3_grind cX3_grind 3 none]
def wsX4_thirsty : List Cond := .code yX4_thirsty cX4_thirsty 2 (some .int) :: ((wsX4_thirsty_r1 ++ (wsX4_thirsty_r2 ++ wsX4_thirsty_r3)) ++ wsX40 ++ wsX30)
def wsX4_worst : List Cond := .code yX4_worst cX4_worst 3 (some .int) :: ([.fieldLink RX4 37 "ArchWaterModel" "thrown" "I", .fieldLink RX4 41 "ArchWaterModel" "arches" "I", .fieldLink RX4 30 "ArchWaterModel" "s" "LArchWaterModel$State;"] ++ wsX40 ++ wsX30)
def wsX4_reaches : List Cond := .code yX4_reaches cX4_reaches 1 (some .double) :: ([.fieldLink RX4 37 "ArchWaterModel" "thrown" "I", .fieldLink RX4 30 "ArchWaterModel" "s" "LArchWaterModel$State;"] ++ wsX40 ++ wsX30)
def wsX4_digest_r1 : List Cond := [Cond.fieldLink RX4 37 "ArchWaterModel" "thrown" "I", Cond.constantLong RX4 150 (601), Cond.constantLong RX4 152 (31), Cond.fieldLink RX4 9 "ArchWaterModel" "spring" "[I", Cond.fieldLink RX4 13 "ArchWaterModel" "city" "[I", Cond.fieldLink RX4 41 "ArchWaterModel" "arches" "I", Cond.methodLink RX4 143 yX4_counted, Cond.instanceMethod yX4_counted, Cond.selects RX4 yX4_counted yX4_counted, Cond.initialized RX4, Cond.code yX4_counted cX4_counted 3 (some .int), Cond.arrayClass .int, Cond.fieldLink RX4 30 "ArchWaterModel" "s" "LArchWaterModel$State;", Cond.methodLink RX4 99 yX4_mills, Cond.instanceMethod yX4_mills, Cond.selects RX4 yX4_mills yX4_mills, Cond.code yX4_mills cX4_mills 3 (some .int), Cond.fieldLink RX4 22 "ArchWaterModel" "appetite" "[I", Cond.methodLink RX4 127 yX3_over, Cond.instanceMethod yX3_over, Cond.selects RX3 yX3_over yX3_over, Cond.initialized RX3, Cond.code yX3_over cX3_over 4 (some .int), Cond.fieldLink RX3 3 "ArchWaterModel$State" "this$0" "LArchWaterModel;"]
def wsX4_digest_r2 : List Cond := [Cond.methodLink RX4 96 yX4_archTold, Cond.instanceMethod yX4_archTold, Cond.selects RX4 yX4_archTold yX4_archTold, Cond.code yX4_archTold cX4_archTold 4 (some .int), Cond.fieldLink RX4 16 "ArchWaterModel" "height" "[I", Cond.fieldLink RX4 19 "ArchWaterModel" "size" "[I", Cond.methodLink RX4 48 yX4_slope, Cond.instanceMethod yX4_slope, Cond.selects RX4 yX4_slope yX4_slope, Cond.code yX4_slope cX4_slope 2 (some .int), Cond.methodLink RX4 86 yX4_rate, Cond.instanceMethod yX4_rate, Cond.selects RX4 yX4_rate yX4_rate, Cond.code yX4_rate cX4_rate 2 (some .int), Cond.methodLink RX4 52 Lib.Math.min.name, Cond.static Lib.Math.min.name, Cond.initialized "java/lang/Math", Cond.code Lib.Math.min.name Lib.Math.min.code 2 (some .int), Cond.methodLink RX4 112 yX4_millTold, Cond.instanceMethod yX4_millTold, Cond.selects RX4 yX4_millTold yX4_millTold, Cond.code yX4_millTold cX4_millTold 3 (some .int)]
def wsX4_digest : List Cond := .code yX4_digest cX4_digest 5 (some .long) :: ((wsX4_digest_r1 ++ wsX4_digest_r2) ++ wsX40 ++ wsX30)
def wsJ9_max_7cf53 : List Cond := .code yJ9_max_7cf53 cJ9_max_7cf53 2 (some .int) :: ([])
def wsJ9_min_7cf53 : List Cond := .code yJ9_min_7cf53 cJ9_min_7cf53 2 (some .int) :: ([])
set_option maxRecDepth 20000 in
theorem ggX0_init_X1_init : GoodIn wsX0_init wsX1_init := goodIn_r _ [13, 14, 2, 3] (by decide +kernel) (by decide +kernel)
set_option maxRecDepth 20000 in
theorem gX0_init_X1_init_n28 : GoodIn wsX0_init (wsX1_init) := ggX0_init_X1_init
set_option maxRecDepth 20000 in
theorem ggX0_copyFrom_X1_copyFrom : GoodIn wsX0_copyFrom wsX1_copyFrom := goodIn_r _ [22, 23, 24, 25, 26, 27, 28, 29, 30, 31, 32, 46, 47, 48, 49, 50, 51, 52, 53, 54, 55] (by decide +kernel) (by decide +kernel)
set_option maxRecDepth 20000 in
theorem gX0_copyFrom_X1_copyFrom : GoodIn wsX0_copyFrom (wsV RX0 38 RX1 yX1_copyFrom wsX1_copyFrom) := goodIn_app (goodIn_of _ (by decide +kernel)) ggX0_copyFrom_X1_copyFrom
set_option maxRecDepth 20000 in
theorem ggX0_goOn_X0_goOnAnHour : GoodIn wsX0_goOn wsX0_goOnAnHour := goodIn_r _ [5, 6, 7, 8, 9, 10, 11, 12, 13, 14, 15, 16, 17, 4, 18, 19, 20, 21, 22, 23, 24, 25, 26, 27, 28, 29, 30, 31, 32, 33, 34, 35, 36, 37, 38, 39, 40, 41, 42, 43, 44, 45, 46, 47, 48, 49, 50, 51, 52, 53, 54, 55, 56, 57, 58, 59, 60, 61, 62, 63, 64, 65, 66, 67, 68, 69, 70, 71, 72, 73, 74, 75, 76, 77, 78, 79, 80, 81, 82, 83, 84, 85, 86, 87, 88, 89, 90, 91, 92, 93, 94, 95, 96, 97, 98, 99, 100, 101, 102, 103, 104, 105, 106, 107, 108, 109, 110, 111, 112, 113, 114, 115, 116, 117, 118, 119, 120, 121, 122, 123, 124, 125, 126, 127] (by decide +kernel) (by decide +kernel)
set_option maxRecDepth 20000 in
theorem gX0_goOn_X0_goOnAnHour : GoodIn wsX0_goOn (wsV RX0 78 RX0 yX0_goOnAnHour wsX0_goOnAnHour) := goodIn_app (goodIn_of _ (by decide +kernel)) ggX0_goOn_X0_goOnAnHour
set_option maxRecDepth 20000 in
theorem ggX0_goOnAnHour_J9_floorMod_7cf53 : GoodIn wsX0_goOnAnHour wsJ9_floorMod_7cf53 := goodIn_r _ [9] (by decide +kernel) (by decide +kernel)
set_option maxRecDepth 20000 in
theorem gX0_goOnAnHour_J9_floorMod_7cf53 : GoodIn wsX0_goOnAnHour (va_wsS RX0 81 yJ9_floorMod_7cf53 wsJ9_floorMod_7cf53) := goodIn_app (goodIn_of _ (by decide +kernel)) ggX0_goOnAnHour_J9_floorMod_7cf53
set_option maxRecDepth 20000 in
theorem ggX0_goOnAnHour_X0_letCityDrink : GoodIn wsX0_goOnAnHour wsX0_letCityDrink := goodIn_r _ [14, 15, 16, 17, 18, 19, 20, 21, 101, 102, 103, 104, 105, 106, 107, 108, 109, 110, 111, 112, 113] (by decide +kernel) (by decide +kernel)
set_option maxRecDepth 20000 in
theorem gX0_goOnAnHour_X0_letCityDrink : GoodIn wsX0_goOnAnHour (wsV RX0 84 RX0 yX0_letCityDrink wsX0_letCityDrink) := goodIn_app (goodIn_of _ (by decide +kernel)) ggX0_goOnAnHour_X0_letCityDrink
set_option maxRecDepth 20000 in
theorem ggX0_goOnAnHour_X0_sendOn : GoodIn wsX0_goOnAnHour wsX0_sendOn := goodIn_r _ [25, 5, 26, 16, 17, 18, 19, 27, 28, 29, 13, 30, 31, 32, 33, 34, 3, 35, 36, 37, 38, 39, 40, 41, 42, 43, 44, 45, 46, 47, 48, 49, 50, 15, 51, 52, 53, 54, 55, 101, 102, 103, 104, 105, 106, 107, 108, 109, 110, 111, 112, 113, 114, 115, 116, 117, 118, 119, 120, 121, 122, 123] (by decide +kernel) (by decide +kernel)
set_option maxRecDepth 20000 in
theorem gX0_goOnAnHour_X0_sendOn : GoodIn wsX0_goOnAnHour (wsV RX0 88 RX0 yX0_sendOn wsX0_sendOn) := goodIn_app (goodIn_of _ (by decide +kernel)) ggX0_goOnAnHour_X0_sendOn
set_option maxRecDepth 20000 in
theorem ggX0_goOnAnHour_X0_grindAt : GoodIn wsX0_goOnAnHour wsX0_grindAt := goodIn_r _ [59, 5, 60, 61, 62, 63, 64, 65, 66, 39, 67, 68, 44, 46, 47, 48, 13, 49, 3, 50, 15, 16, 17, 18, 19, 51, 52, 53, 54, 55, 45, 43, 101, 102, 103, 104, 105, 106, 107, 108, 109, 110, 111, 112, 113, 114, 115, 116, 117, 118, 119, 120, 121, 122, 123] (by decide +kernel) (by decide +kernel)
set_option maxRecDepth 20000 in
theorem gX0_goOnAnHour_X0_grindAt : GoodIn wsX0_goOnAnHour (wsV RX0 91 RX0 yX0_grindAt wsX0_grindAt) := goodIn_app (goodIn_of _ (by decide +kernel)) ggX0_goOnAnHour_X0_grindAt
set_option maxRecDepth 20000 in
theorem ggX0_goOnAnHour_X0_letSpringGive : GoodIn wsX0_goOnAnHour wsX0_letSpringGive := goodIn_r _ [72, 73, 3, 5, 62, 51, 52, 53, 39, 54, 55, 45, 43, 17, 18, 19, 101, 102, 103, 104, 105, 106, 107, 108, 109, 110, 111, 112, 113, 114, 115, 116, 117, 118, 119, 120, 121, 122, 123] (by decide +kernel) (by decide +kernel)
set_option maxRecDepth 20000 in
theorem gX0_goOnAnHour_X0_letSpringGive : GoodIn wsX0_goOnAnHour (wsV RX0 94 RX0 yX0_letSpringGive wsX0_letSpringGive) := goodIn_app (goodIn_of _ (by decide +kernel)) ggX0_goOnAnHour_X0_letSpringGive
set_option maxRecDepth 20000 in
theorem ggX0_goOnAnHour_X1_leak : GoodIn wsX0_goOnAnHour wsX1_leak := goodIn_r _ [77, 78, 45, 79, 43, 17, 18, 19, 80, 114, 115, 116, 117, 118, 119, 120, 121, 122, 123] (by decide +kernel) (by decide +kernel)
set_option maxRecDepth 20000 in
theorem gX0_goOnAnHour_X1_leak : GoodIn wsX0_goOnAnHour (wsV RX0 97 RX1 yX1_leak wsX1_leak) := goodIn_app (goodIn_of _ (by decide +kernel)) ggX0_goOnAnHour_X1_leak
set_option maxRecDepth 20000 in
theorem ggX0_goOnAnHour_X0_wearAll : GoodIn wsX0_goOnAnHour wsX0_wearAll := goodIn_r _ [84, 3, 5, 85, 86, 87, 39, 88, 45, 89, 90, 91, 92, 41, 93, 94, 95, 96, 42, 97, 98, 99, 100, 79, 43, 17, 18, 19, 101, 102, 103, 104, 105, 106, 107, 108, 109, 110, 111, 112, 113, 114, 115, 116, 117, 118, 119, 120, 121, 122, 123] (by decide +kernel) (by decide +kernel)
set_option maxRecDepth 20000 in
theorem gX0_goOnAnHour_X0_wearAll : GoodIn wsX0_goOnAnHour (wsV RX0 100 RX0 yX0_wearAll wsX0_wearAll) := goodIn_app (goodIn_of _ (by decide +kernel)) ggX0_goOnAnHour_X0_wearAll
set_option maxRecDepth 20000 in
theorem ggX0_sendOn_X0_rate : GoodIn wsX0_sendOn wsX0_rate := goodIn_r _ [11, 3, 4, 5, 6, 12, 13, 14, 10, 15, 16, 1, 17, 39, 40, 41, 42, 43, 44, 45, 46, 47, 48, 49, 50, 51, 52, 53, 54, 55, 56, 57, 58, 59, 60, 61] (by decide +kernel) (by decide +kernel)
set_option maxRecDepth 20000 in
theorem gX0_sendOn_X0_rate : GoodIn wsX0_sendOn (wsV RX0 109 RX0 yX0_rate wsX0_rate) := goodIn_app (goodIn_of _ (by decide +kernel)) ggX0_sendOn_X0_rate
set_option maxRecDepth 20000 in
theorem ggX0_sendOn_X1_leadToMill : GoodIn wsX0_sendOn wsX1_leadToMill := goodIn_r _ [22, 23, 24, 25, 4, 5, 6, 26, 27, 52, 53, 54, 55, 56, 57, 58, 59, 60, 61] (by decide +kernel) (by decide +kernel)
set_option maxRecDepth 20000 in
theorem gX0_sendOn_X1_leadToMill : GoodIn wsX0_sendOn (wsV RX0 113 RX1 yX1_leadToMill wsX1_leadToMill) := goodIn_app (goodIn_of _ (by decide +kernel)) ggX0_sendOn_X1_leadToMill
set_option maxRecDepth 20000 in
theorem ggX0_sendOn_X0_pour : GoodIn wsX0_sendOn wsX0_pour := goodIn_r _ [31, 16, 1, 32, 33, 3, 4, 5, 6, 34, 35, 36, 21, 37, 38, 27, 25, 39, 40, 41, 42, 43, 44, 45, 46, 47, 48, 49, 50, 51, 52, 53, 54, 55, 56, 57, 58, 59, 60, 61] (by decide +kernel) (by decide +kernel)
set_option maxRecDepth 20000 in
theorem gX0_sendOn_X0_pour : GoodIn wsX0_sendOn (wsV RX0 116 RX0 yX0_pour wsX0_pour) := goodIn_app (goodIn_of _ (by decide +kernel)) ggX0_sendOn_X0_pour
set_option maxRecDepth 20000 in
theorem ggX0_grindAt_X1_grind : GoodIn wsX0_grindAt wsX1_grind := goodIn_r _ [10, 11, 12, 45, 46, 47, 48, 49, 50, 51, 52, 53, 54] (by decide +kernel) (by decide +kernel)
set_option maxRecDepth 20000 in
theorem gX0_grindAt_X1_grind : GoodIn wsX0_grindAt (wsV RX0 122 RX1 yX1_grind wsX1_grind) := goodIn_app (goodIn_of _ (by decide +kernel)) ggX0_grindAt_X1_grind
set_option maxRecDepth 20000 in
theorem ggX0_grindAt_X0_pour : GoodIn wsX0_grindAt wsX0_pour := goodIn_r _ [17, 18, 1, 19, 20, 21, 22, 23, 24, 25, 26, 27, 9, 28, 29, 30, 31, 32, 33, 34, 35, 36, 37, 38, 39, 40, 41, 42, 43, 44, 45, 46, 47, 48, 49, 50, 51, 52, 53, 54] (by decide +kernel) (by decide +kernel)
set_option maxRecDepth 20000 in
theorem gX0_grindAt_X0_pour : GoodIn wsX0_grindAt (wsV RX0 116 RX0 yX0_pour wsX0_pour) := goodIn_app (goodIn_of _ (by decide +kernel)) ggX0_grindAt_X0_pour
set_option maxRecDepth 20000 in
theorem ggX0_letSpringGive_X1_fill : GoodIn wsX0_letSpringGive wsX1_fill := goodIn_r _ [9, 10, 11, 12, 13, 14, 15, 29, 30, 31, 32, 33, 34, 35, 36, 37, 38] (by decide +kernel) (by decide +kernel)
set_option maxRecDepth 20000 in
theorem gX0_letSpringGive_X1_fill : GoodIn wsX0_letSpringGive (wsV RX0 126 RX1 yX1_fill wsX1_fill) := goodIn_app (goodIn_of _ (by decide +kernel)) ggX0_letSpringGive_X1_fill
set_option maxRecDepth 20000 in
theorem ggX0_wearAll_X1_wearOfDay : GoodIn wsX0_wearAll wsX1_wearOfDay := goodIn_r _ [7, 8, 9, 10, 11, 6, 12, 13, 14, 15, 16, 17, 18, 19, 20, 21, 22, 23, 24, 25, 26, 27, 41, 42, 43, 44, 45, 46, 47, 48, 49, 50] (by decide +kernel) (by decide +kernel)
set_option maxRecDepth 20000 in
theorem gX0_wearAll_X1_wearOfDay : GoodIn wsX0_wearAll (wsV RX0 129 RX1 yX1_wearOfDay wsX1_wearOfDay) := goodIn_app (goodIn_of _ (by decide +kernel)) ggX0_wearAll_X1_wearOfDay
set_option maxRecDepth 20000 in
theorem ggX0_pour_X1_fill : GoodIn wsX0_pour wsX1_fill := goodIn_r _ [13, 14, 15, 16, 6, 7, 8, 30, 31, 32, 33, 34, 35, 36, 37, 38, 39] (by decide +kernel) (by decide +kernel)
set_option maxRecDepth 20000 in
theorem gX0_pour_X1_fill : GoodIn wsX0_pour (wsV RX0 126 RX1 yX1_fill wsX1_fill) := goodIn_app (goodIn_of _ (by decide +kernel)) ggX0_pour_X1_fill
set_option maxRecDepth 20000 in
theorem ggX0_rate_X0_slope : GoodIn wsX0_rate wsX0_slope := goodIn_r _ [9, 10, 11, 12, 13, 14, 15, 16, 17, 18, 19, 20, 21, 22, 23, 24, 25, 26, 27, 28, 29, 30, 31, 32, 33, 34, 35] (by decide +kernel) (by decide +kernel)
set_option maxRecDepth 20000 in
theorem gX0_rate_X0_slope : GoodIn wsX0_rate (wsV RX0 132 RX0 yX0_slope wsX0_slope) := goodIn_app (goodIn_of _ (by decide +kernel)) ggX0_rate_X0_slope
set_option maxRecDepth 20000 in
theorem ggX0_mills_X1_hasMill : GoodIn wsX0_mills wsX1_hasMill := goodIn_r _ [7, 8, 22, 23, 24, 25, 26, 27, 28, 29, 30, 31] (by decide +kernel) (by decide +kernel)
set_option maxRecDepth 20000 in
theorem gX0_mills_X1_hasMill : GoodIn wsX0_mills (wsV RX0 135 RX1 yX1_hasMill wsX1_hasMill) := goodIn_app (goodIn_of _ (by decide +kernel)) ggX0_mills_X1_hasMill
set_option maxRecDepth 20000 in
theorem ggX0_archNumber_X0_slope : GoodIn wsX0_archNumber wsX0_slope := goodIn_r _ [12, 13, 1, 2, 28, 29, 30, 31, 32, 33, 34, 35, 36, 37, 38, 39, 40, 41, 42, 43, 44, 45, 46, 47, 48, 49, 50] (by decide +kernel) (by decide +kernel)
set_option maxRecDepth 20000 in
theorem gX0_archNumber_X0_slope : GoodIn wsX0_archNumber (wsV RX0 132 RX0 yX0_slope wsX0_slope) := goodIn_app (goodIn_of _ (by decide +kernel)) ggX0_archNumber_X0_slope
set_option maxRecDepth 20000 in
theorem ggX0_archNumber_X0_rate : GoodIn wsX0_archNumber wsX0_rate := goodIn_r _ [17, 18, 19, 20, 21, 8, 9, 10, 11, 12, 13, 1, 2, 28, 29, 30, 31, 32, 33, 34, 35, 36, 37, 38, 39, 40, 41, 42, 43, 44, 45, 46, 47, 48, 49, 50] (by decide +kernel) (by decide +kernel)
set_option maxRecDepth 20000 in
theorem gX0_archNumber_X0_rate : GoodIn wsX0_archNumber (wsV RX0 109 RX0 yX0_rate wsX0_rate) := goodIn_app (goodIn_of _ (by decide +kernel)) ggX0_archNumber_X0_rate
set_option maxRecDepth 20000 in
theorem ggX0_archNumber_X1_hasMill : GoodIn wsX0_archNumber wsX1_hasMill := goodIn_r _ [26, 27, 41, 42, 43, 44, 45, 46, 47, 48, 49, 50] (by decide +kernel) (by decide +kernel)
set_option maxRecDepth 20000 in
theorem gX0_archNumber_X1_hasMill : GoodIn wsX0_archNumber (wsV RX0 135 RX1 yX1_hasMill wsX1_hasMill) := goodIn_app (goodIn_of _ (by decide +kernel)) ggX0_archNumber_X1_hasMill
set_option maxRecDepth 20000 in
theorem ggX0_countNumber_X0_mills : GoodIn wsX0_countNumber wsX0_mills := goodIn_r _ [14, 2, 15, 16, 17, 18, 19, 20, 21, 32, 33, 34, 35, 36, 37, 38, 39, 40, 41, 42, 43, 44, 45, 46, 47, 48, 49, 50, 51, 52, 53, 54] (by decide +kernel) (by decide +kernel)
set_option maxRecDepth 20000 in
theorem gX0_countNumber_X0_mills : GoodIn wsX0_countNumber (wsV RX0 151 RX0 yX0_mills wsX0_mills) := goodIn_app (goodIn_of _ (by decide +kernel)) ggX0_countNumber_X0_mills
set_option maxRecDepth 20000 in
theorem ggX0_countNumber_X0_water : GoodIn wsX0_countNumber wsX0_water := goodIn_r _ [25, 2, 15, 26, 32, 33, 34, 35, 36, 37, 38, 39, 40, 41, 42, 43, 44, 45, 46, 47, 48, 49, 50, 51, 52, 53, 54] (by decide +kernel) (by decide +kernel)
set_option maxRecDepth 20000 in
theorem gX0_countNumber_X0_water : GoodIn wsX0_countNumber (wsV RX0 154 RX0 yX0_water wsX0_water) := goodIn_app (goodIn_of _ (by decide +kernel)) ggX0_countNumber_X0_water
set_option maxRecDepth 20000 in
theorem ggX0_countNumber_X0_leaked : GoodIn wsX0_countNumber wsX0_leaked := goodIn_r _ [30, 2, 15, 31, 32, 33, 34, 35, 36, 37, 38, 39, 40, 41, 42, 43, 44, 45, 46, 47, 48, 49, 50, 51, 52, 53, 54] (by decide +kernel) (by decide +kernel)
set_option maxRecDepth 20000 in
theorem gX0_countNumber_X0_leaked : GoodIn wsX0_countNumber (wsV RX0 156 RX0 yX0_leaked wsX0_leaked) := goodIn_app (goodIn_of _ (by decide +kernel)) ggX0_countNumber_X0_leaked
set_option maxRecDepth 20000 in
theorem ggX1_hasOpenSluice_X1_hasMill : GoodIn wsX1_hasOpenSluice wsX1_hasMill := goodIn_r _ [6, 7, 8, 9, 10, 11, 12, 13, 14, 15, 16, 17] (by decide +kernel) (by decide +kernel)
set_option maxRecDepth 20000 in
theorem gX1_hasOpenSluice_X1_hasMill : GoodIn wsX1_hasOpenSluice (wsV RX1 42 RX1 yX1_hasMill wsX1_hasMill) := goodIn_app (goodIn_of _ (by decide +kernel)) ggX1_hasOpenSluice_X1_hasMill
set_option maxRecDepth 20000 in
theorem ggX1_wearOfDay_X1_hasOpenSluice : GoodIn wsX1_wearOfDay wsX1_hasOpenSluice := goodIn_r _ [6, 7, 8, 9, 10, 5, 11, 12, 22, 23, 24, 25, 26, 27, 28, 29, 30, 31] (by decide +kernel) (by decide +kernel)
set_option maxRecDepth 20000 in
theorem gX1_wearOfDay_X1_hasOpenSluice : GoodIn wsX1_wearOfDay (wsV RX1 52 RX1 yX1_hasOpenSluice wsX1_hasOpenSluice) := goodIn_app (goodIn_of _ (by decide +kernel)) ggX1_wearOfDay_X1_hasOpenSluice
set_option maxRecDepth 20000 in
theorem ggX1_wearOfDay_X1_wearBy : GoodIn wsX1_wearOfDay wsX1_wearBy := goodIn_r _ [16, 17, 18, 19, 20, 21, 22, 23, 24, 25, 26, 27, 28, 29, 30, 31] (by decide +kernel) (by decide +kernel)
set_option maxRecDepth 20000 in
theorem gX1_wearOfDay_X1_wearBy : GoodIn wsX1_wearOfDay (wsV RX1 55 RX1 yX1_wearBy wsX1_wearBy) := goodIn_app (goodIn_of _ (by decide +kernel)) ggX1_wearOfDay_X1_wearBy
set_option maxRecDepth 20000 in
theorem ggX1_millNumber_X1_hasMill : GoodIn wsX1_millNumber wsX1_hasMill := goodIn_r _ [9, 1, 10, 11, 12, 13, 14, 15, 16, 17, 18, 19] (by decide +kernel) (by decide +kernel)
set_option maxRecDepth 20000 in
theorem gX1_millNumber_X1_hasMill : GoodIn wsX1_millNumber (wsV RX1 42 RX1 yX1_hasMill wsX1_hasMill) := goodIn_app (goodIn_of _ (by decide +kernel)) ggX1_millNumber_X1_hasMill
set_option maxRecDepth 20000 in
theorem ggX2_init_X0_init : GoodIn wsX2_init wsX0_init := goodIn_r _ [11, 12, 2, 3, 13, 14, 15, 16, 17, 18, 19, 20, 21, 22, 23, 24, 25, 26, 27, 28, 29, 30, 31, 32, 33, 34, 35, 36, 39, 40, 41, 42, 43, 44, 45, 46, 47, 48] (by decide +kernel) (by decide +kernel)
set_option maxRecDepth 20000 in
theorem gX2_init_X0_init : GoodIn wsX2_init (wsX0_init) := ggX2_init_X0_init
set_option maxRecDepth 20000 in
theorem ggX2_build_X0_mostHeightOfNext : GoodIn wsX2_build wsX0_mostHeightOfNext := goodIn_r _ [9, 10, 11, 12, 26, 27, 28, 29, 30, 31, 32, 33, 34, 35, 36, 37, 38, 39, 40, 41, 42, 43, 44, 45, 46, 47, 48] (by decide +kernel) (by decide +kernel)
set_option maxRecDepth 20000 in
theorem gX2_build_X0_mostHeightOfNext : GoodIn wsX2_build (wsV RX2 19 RX0 yX0_mostHeightOfNext wsX0_mostHeightOfNext) := goodIn_app (goodIn_of _ (by decide +kernel)) ggX2_build_X0_mostHeightOfNext
set_option maxRecDepth 20000 in
theorem ggX2_build_X2_requireRange : GoodIn wsX2_build wsX2_requireRange := goodIn_ca (goodIn_r _ [16, 17, 18] (by decide +kernel) (by decide +kernel)) (goodIn_sub (fun _ h => List.mem_cons_of_mem _ (List.mem_append_right _ h)) (by decide +kernel))
set_option maxRecDepth 20000 in
theorem gX2_build_X2_requireRange : GoodIn wsX2_build (va_wsS RX2 23 yX2_requireRange wsX2_requireRange) := goodIn_app (goodIn_of _ (by decide +kernel)) ggX2_build_X2_requireRange
set_option maxRecDepth 20000 in
theorem ggX2_build_X0_addArch : GoodIn wsX2_build wsX0_addArch := goodIn_r _ [22, 10, 11, 12, 23, 26, 27, 28, 29, 30, 31, 32, 33, 34, 35, 36, 37, 38, 39, 40, 41, 42, 43, 44, 45, 46, 47, 48] (by decide +kernel) (by decide +kernel)
set_option maxRecDepth 20000 in
theorem gX2_build_X0_addArch : GoodIn wsX2_build (wsV RX2 38 RX0 yX0_addArch wsX0_addArch) := goodIn_app (goodIn_of _ (by decide +kernel)) ggX2_build_X0_addArch
set_option maxRecDepth 20000 in
theorem ggX2_setSpring_X2_setHour : GoodIn wsX2_setSpring wsX2_setHour := goodIn_ca (goodIn_ca (goodIn_r _ [6, 7, 8, 5, 9, 10, 11, 12, 13, 14, 15, 16] (by decide +kernel) (by decide +kernel)) (goodIn_sub (fun _ h => List.mem_cons_of_mem _ (List.mem_append_left _ (List.mem_append_right _ h))) (by decide +kernel))) (goodIn_sub (fun _ h => List.mem_cons_of_mem _ (List.mem_append_right _ h)) (by decide +kernel))
set_option maxRecDepth 20000 in
theorem gX2_setSpring_X2_setHour : GoodIn wsX2_setSpring (va_wsS RX2 46 yX2_setHour wsX2_setHour) := goodIn_app (goodIn_of _ (by decide +kernel)) ggX2_setSpring_X2_setHour
set_option maxRecDepth 20000 in
theorem ggX2_setCity_X2_setHour : GoodIn wsX2_setCity wsX2_setHour := goodIn_ca (goodIn_ca (goodIn_r _ [6, 7, 8, 5, 9, 10, 11, 12, 13, 14, 15, 16] (by decide +kernel) (by decide +kernel)) (goodIn_sub (fun _ h => List.mem_cons_of_mem _ (List.mem_append_left _ (List.mem_append_right _ h))) (by decide +kernel))) (goodIn_sub (fun _ h => List.mem_cons_of_mem _ (List.mem_append_right _ h)) (by decide +kernel))
set_option maxRecDepth 20000 in
theorem gX2_setCity_X2_setHour : GoodIn wsX2_setCity (va_wsS RX2 46 yX2_setHour wsX2_setHour) := goodIn_app (goodIn_of _ (by decide +kernel)) ggX2_setCity_X2_setHour
set_option maxRecDepth 20000 in
theorem ggX2_setCistern_X2_requireRange : GoodIn wsX2_setCistern wsX2_requireRange := goodIn_ca (goodIn_r _ [5, 6, 7] (by decide +kernel) (by decide +kernel)) (goodIn_sub (fun _ h => List.mem_cons_of_mem _ (List.mem_append_right _ h)) (by decide +kernel))
set_option maxRecDepth 20000 in
theorem gX2_setCistern_X2_requireRange : GoodIn wsX2_setCistern (va_wsS RX2 23 yX2_requireRange wsX2_requireRange) := goodIn_app (goodIn_of _ (by decide +kernel)) ggX2_setCistern_X2_requireRange
set_option maxRecDepth 20000 in
theorem ggX2_setCistern_X0_resizeCistern : GoodIn wsX2_setCistern wsX0_resizeCistern := goodIn_r _ [12, 13, 14, 15, 16, 17, 18, 19, 22, 23, 24, 25, 26, 27, 28, 29, 30, 31, 32, 33, 34] (by decide +kernel) (by decide +kernel)
set_option maxRecDepth 20000 in
theorem gX2_setCistern_X0_resizeCistern : GoodIn wsX2_setCistern (wsV RX2 53 RX0 yX0_resizeCistern wsX0_resizeCistern) := goodIn_app (goodIn_of _ (by decide +kernel)) ggX2_setCistern_X0_resizeCistern
set_option maxRecDepth 20000 in
theorem ggX2_arch_X2_requireArch : GoodIn wsX2_arch wsX2_requireArch := goodIn_ca (goodIn_r _ [6, 1, 7, 8, 9, 5, 10, 11, 12, 44, 45, 46, 47, 48, 49, 50, 51, 52, 53, 54, 55, 56, 57, 58] (by decide +kernel) (by decide +kernel)) (goodIn_sub (fun _ h => List.mem_cons_of_mem _ (List.mem_append_right _ h)) (by decide +kernel))
set_option maxRecDepth 20000 in
theorem gX2_arch_X2_requireArch : GoodIn wsX2_arch (wsV RX2 57 RX2 yX2_requireArch wsX2_requireArch) := goodIn_app (goodIn_of _ (by decide +kernel)) ggX2_arch_X2_requireArch
set_option maxRecDepth 20000 in
theorem ggX2_arch_X2_requireIndex : GoodIn wsX2_arch wsX2_requireIndex := goodIn_ca (goodIn_r _ [10, 11, 12] (by decide +kernel) (by decide +kernel)) (goodIn_sub (fun _ h => List.mem_cons_of_mem _ (List.mem_append_right _ h)) (by decide +kernel))
set_option maxRecDepth 20000 in
theorem gX2_arch_X2_requireIndex : GoodIn wsX2_arch (va_wsS RX2 61 yX2_requireIndex wsX2_requireIndex) := goodIn_app (goodIn_of _ (by decide +kernel)) ggX2_arch_X2_requireIndex
set_option maxRecDepth 20000 in
theorem ggX2_arch_X0_archNumber : GoodIn wsX2_arch wsX0_archNumber := goodIn_r _ [17, 18, 19, 20, 21, 22, 23, 24, 25, 26, 27, 16, 28, 29, 30, 31, 32, 33, 34, 35, 36, 37, 38, 39, 40, 41, 42, 43, 46, 47, 48, 49, 50, 51, 52, 53, 54, 55, 56, 57, 58, 59, 60, 61, 62, 63, 64, 65, 66, 67, 68] (by decide +kernel) (by decide +kernel)
set_option maxRecDepth 20000 in
theorem gX2_arch_X0_archNumber : GoodIn wsX2_arch (wsV RX2 65 RX0 yX0_archNumber wsX0_archNumber) := goodIn_app (goodIn_of _ (by decide +kernel)) ggX2_arch_X0_archNumber
set_option maxRecDepth 20000 in
theorem ggX2_addMill_X2_requireArch : GoodIn wsX2_addMill wsX2_requireArch := goodIn_ca (goodIn_r _ [9, 3, 10, 11, 12, 8, 13, 14, 15, 39, 40, 51, 52, 53, 54, 55, 56, 57, 58, 59, 60, 61, 62, 63] (by decide +kernel) (by decide +kernel)) (goodIn_sub (fun _ h => List.mem_cons_of_mem _ (List.mem_append_left _ (List.mem_append_right _ h))) (by decide +kernel))
set_option maxRecDepth 20000 in
theorem gX2_addMill_X2_requireArch : GoodIn wsX2_addMill (wsV RX2 57 RX2 yX2_requireArch wsX2_requireArch) := goodIn_app (goodIn_of _ (by decide +kernel)) ggX2_addMill_X2_requireArch
set_option maxRecDepth 20000 in
theorem ggX2_addMill_X2_requireRange : GoodIn wsX2_addMill wsX2_requireRange := goodIn_ca (goodIn_r _ [18, 19, 20] (by decide +kernel) (by decide +kernel)) (goodIn_sub (fun _ h => List.mem_cons_of_mem _ (List.mem_append_right _ h)) (by decide +kernel))
set_option maxRecDepth 20000 in
theorem gX2_addMill_X2_requireRange : GoodIn wsX2_addMill (va_wsS RX2 23 yX2_requireRange wsX2_requireRange) := goodIn_app (goodIn_of _ (by decide +kernel)) ggX2_addMill_X2_requireRange
set_option maxRecDepth 20000 in
theorem ggX2_addMill_X0_archAt : GoodIn wsX2_addMill wsX0_archAt := goodIn_r _ [25, 26, 51, 52, 53, 54, 55, 56, 57, 58, 59, 60, 61, 62, 63] (by decide +kernel) (by decide +kernel)
set_option maxRecDepth 20000 in
theorem gX2_addMill_X0_archAt : GoodIn wsX2_addMill (wsV RX2 68 RX0 yX0_archAt wsX0_archAt) := goodIn_app (goodIn_of _ (by decide +kernel)) ggX2_addMill_X0_archAt
set_option maxRecDepth 20000 in
theorem ggX2_addMill_X1_hasMill : GoodIn wsX2_addMill wsX1_hasMill := goodIn_r _ [31, 32, 41, 42, 43, 44, 45, 46, 47, 48, 49, 50] (by decide +kernel) (by decide +kernel)
set_option maxRecDepth 20000 in
theorem gX2_addMill_X1_hasMill : GoodIn wsX2_addMill (wsV RX2 72 RX1 yX1_hasMill wsX1_hasMill) := goodIn_app (goodIn_of _ (by decide +kernel)) ggX2_addMill_X1_hasMill
set_option maxRecDepth 20000 in
theorem ggX2_addMill_X0_mills : GoodIn wsX2_addMill wsX0_mills := goodIn_r _ [36, 37, 26, 38, 28, 29, 30, 31, 32, 51, 52, 53, 54, 55, 56, 57, 58, 59, 60, 61, 62, 63, 41, 42, 43, 44, 45, 46, 47, 48, 49, 50] (by decide +kernel) (by decide +kernel)
set_option maxRecDepth 20000 in
theorem gX2_addMill_X0_mills : GoodIn wsX2_addMill (wsV RX2 83 RX0 yX0_mills wsX0_mills) := goodIn_app (goodIn_of _ (by decide +kernel)) ggX2_addMill_X0_mills
set_option maxRecDepth 20000 in
theorem ggX2_setSluice_X2_requireArch : GoodIn wsX2_setSluice wsX2_requireArch := goodIn_ca (goodIn_r _ [9, 3, 10, 11, 12, 8, 13, 14, 15, 33, 34, 45, 46, 47, 48, 49, 50, 51, 52, 53, 54, 55, 56, 57] (by decide +kernel) (by decide +kernel)) (goodIn_sub (fun _ h => List.mem_cons_of_mem _ (List.mem_append_left _ (List.mem_append_right _ h))) (by decide +kernel))
set_option maxRecDepth 20000 in
theorem gX2_setSluice_X2_requireArch : GoodIn wsX2_setSluice (wsV RX2 57 RX2 yX2_requireArch wsX2_requireArch) := goodIn_app (goodIn_of _ (by decide +kernel)) ggX2_setSluice_X2_requireArch
set_option maxRecDepth 20000 in
theorem ggX2_setSluice_X2_requireRange : GoodIn wsX2_setSluice wsX2_requireRange := goodIn_ca (goodIn_r _ [18, 19, 20] (by decide +kernel) (by decide +kernel)) (goodIn_sub (fun _ h => List.mem_cons_of_mem _ (List.mem_append_right _ h)) (by decide +kernel))
set_option maxRecDepth 20000 in
theorem gX2_setSluice_X2_requireRange : GoodIn wsX2_setSluice (va_wsS RX2 23 yX2_requireRange wsX2_requireRange) := goodIn_app (goodIn_of _ (by decide +kernel)) ggX2_setSluice_X2_requireRange
set_option maxRecDepth 20000 in
theorem ggX2_setSluice_X0_archAt : GoodIn wsX2_setSluice wsX0_archAt := goodIn_r _ [25, 26, 45, 46, 47, 48, 49, 50, 51, 52, 53, 54, 55, 56, 57] (by decide +kernel) (by decide +kernel)
set_option maxRecDepth 20000 in
theorem gX2_setSluice_X0_archAt : GoodIn wsX2_setSluice (wsV RX2 68 RX0 yX0_archAt wsX0_archAt) := goodIn_app (goodIn_of _ (by decide +kernel)) ggX2_setSluice_X0_archAt
set_option maxRecDepth 20000 in
theorem ggX2_setSluice_X1_hasMill : GoodIn wsX2_setSluice wsX1_hasMill := goodIn_r _ [31, 32, 35, 36, 37, 38, 39, 40, 41, 42, 43, 44] (by decide +kernel) (by decide +kernel)
set_option maxRecDepth 20000 in
theorem gX2_setSluice_X1_hasMill : GoodIn wsX2_setSluice (wsV RX2 72 RX1 yX1_hasMill wsX1_hasMill) := goodIn_app (goodIn_of _ (by decide +kernel)) ggX2_setSluice_X1_hasMill
set_option maxRecDepth 20000 in
theorem ggX2_mill_X2_requireArch : GoodIn wsX2_mill wsX2_requireArch := goodIn_ca (goodIn_r _ [6, 1, 7, 8, 9, 5, 10, 11, 12, 32, 33, 34, 35, 36, 37, 38, 39, 40, 41, 42, 43, 44, 45, 46] (by decide +kernel) (by decide +kernel)) (goodIn_sub (fun _ h => List.mem_cons_of_mem _ (List.mem_append_right _ h)) (by decide +kernel))
set_option maxRecDepth 20000 in
theorem gX2_mill_X2_requireArch : GoodIn wsX2_mill (wsV RX2 57 RX2 yX2_requireArch wsX2_requireArch) := goodIn_app (goodIn_of _ (by decide +kernel)) ggX2_mill_X2_requireArch
set_option maxRecDepth 20000 in
theorem ggX2_mill_X2_requireIndex : GoodIn wsX2_mill wsX2_requireIndex := goodIn_ca (goodIn_r _ [10, 11, 12] (by decide +kernel) (by decide +kernel)) (goodIn_sub (fun _ h => List.mem_cons_of_mem _ (List.mem_append_right _ h)) (by decide +kernel))
set_option maxRecDepth 20000 in
theorem gX2_mill_X2_requireIndex : GoodIn wsX2_mill (va_wsS RX2 61 yX2_requireIndex wsX2_requireIndex) := goodIn_app (goodIn_of _ (by decide +kernel)) ggX2_mill_X2_requireIndex
set_option maxRecDepth 20000 in
theorem ggX2_mill_X0_archAt : GoodIn wsX2_mill wsX0_archAt := goodIn_r _ [17, 18, 34, 35, 36, 37, 38, 39, 40, 41, 42, 43, 44, 45, 46] (by decide +kernel) (by decide +kernel)
set_option maxRecDepth 20000 in
theorem gX2_mill_X0_archAt : GoodIn wsX2_mill (wsV RX2 68 RX0 yX0_archAt wsX0_archAt) := goodIn_app (goodIn_of _ (by decide +kernel)) ggX2_mill_X0_archAt
set_option maxRecDepth 20000 in
theorem ggX2_mill_X1_millNumber : GoodIn wsX2_mill wsX1_millNumber := goodIn_r _ [23, 24, 25, 26, 27, 28, 29, 30, 22, 31, 47, 48, 49, 50, 51, 52, 53, 54, 55, 56] (by decide +kernel) (by decide +kernel)
set_option maxRecDepth 20000 in
theorem gX2_mill_X1_millNumber : GoodIn wsX2_mill (wsV RX2 91 RX1 yX1_millNumber wsX1_millNumber) := goodIn_app (goodIn_of _ (by decide +kernel)) ggX2_mill_X1_millNumber
set_option maxRecDepth 20000 in
theorem ggX2_mend_X2_requireArch : GoodIn wsX2_mend wsX2_requireArch := goodIn_ca (goodIn_r _ [15, 3, 16, 17, 18, 14, 19, 20, 21, 28, 29, 30, 31, 32, 33, 34, 35, 36, 37, 38, 39, 40, 41, 42] (by decide +kernel) (by decide +kernel)) (goodIn_sub (fun _ h => List.mem_cons_of_mem _ (List.mem_append_right _ h)) (by decide +kernel))
set_option maxRecDepth 20000 in
theorem gX2_mend_X2_requireArch : GoodIn wsX2_mend (wsV RX2 57 RX2 yX2_requireArch wsX2_requireArch) := goodIn_app (goodIn_of _ (by decide +kernel)) ggX2_mend_X2_requireArch
set_option maxRecDepth 20000 in
theorem ggX2_mend_X0_archAt : GoodIn wsX2_mend wsX0_archAt := goodIn_r _ [26, 27, 30, 31, 32, 33, 34, 35, 36, 37, 38, 39, 40, 41, 42] (by decide +kernel) (by decide +kernel)
set_option maxRecDepth 20000 in
theorem gX2_mend_X0_archAt : GoodIn wsX2_mend (wsV RX2 68 RX0 yX0_archAt wsX0_archAt) := goodIn_app (goodIn_of _ (by decide +kernel)) ggX2_mend_X0_archAt
set_option maxRecDepth 20000 in
theorem ggX2_quake_X2_requireArch : GoodIn wsX2_quake wsX2_requireArch := goodIn_ca (goodIn_r _ [7, 1, 8, 9, 10, 6, 11, 12, 13, 35, 36, 47, 48, 49, 50, 51, 52, 53, 54, 55, 56, 57, 58, 59] (by decide +kernel) (by decide +kernel)) (goodIn_sub (fun _ h => List.mem_cons_of_mem _ (List.mem_append_left _ (List.mem_append_right _ h))) (by decide +kernel))
set_option maxRecDepth 20000 in
theorem gX2_quake_X2_requireArch : GoodIn wsX2_quake (wsV RX2 57 RX2 yX2_requireArch wsX2_requireArch) := goodIn_app (goodIn_of _ (by decide +kernel)) ggX2_quake_X2_requireArch
set_option maxRecDepth 20000 in
theorem ggX2_quake_X2_requireRange : GoodIn wsX2_quake wsX2_requireRange := goodIn_ca (goodIn_r _ [16, 17, 18] (by decide +kernel) (by decide +kernel)) (goodIn_sub (fun _ h => List.mem_cons_of_mem _ (List.mem_append_right _ h)) (by decide +kernel))
set_option maxRecDepth 20000 in
theorem gX2_quake_X2_requireRange : GoodIn wsX2_quake (va_wsS RX2 23 yX2_requireRange wsX2_requireRange) := goodIn_app (goodIn_of _ (by decide +kernel)) ggX2_quake_X2_requireRange
set_option maxRecDepth 20000 in
theorem ggX2_quake_X0_archAt : GoodIn wsX2_quake wsX0_archAt := goodIn_r _ [23, 24, 47, 48, 49, 50, 51, 52, 53, 54, 55, 56, 57, 58, 59] (by decide +kernel) (by decide +kernel)
set_option maxRecDepth 20000 in
theorem gX2_quake_X0_archAt : GoodIn wsX2_quake (wsV RX2 68 RX0 yX0_archAt wsX0_archAt) := goodIn_app (goodIn_of _ (by decide +kernel)) ggX2_quake_X0_archAt
set_option maxRecDepth 20000 in
theorem ggX2_quake_X1_wearBy : GoodIn wsX2_quake wsX1_wearBy := goodIn_r _ [29, 30, 31, 32, 33, 34, 37, 38, 39, 40, 41, 42, 43, 44, 45, 46] (by decide +kernel) (by decide +kernel)
set_option maxRecDepth 20000 in
theorem gX2_quake_X1_wearBy : GoodIn wsX2_quake (wsV RX2 112 RX1 yX1_wearBy wsX1_wearBy) := goodIn_app (goodIn_of _ (by decide +kernel)) ggX2_quake_X1_wearBy
set_option maxRecDepth 20000 in
theorem ggX2_pass_X2_requireRange : GoodIn wsX2_pass wsX2_requireRange := goodIn_ca (goodIn_r _ [6, 7, 8] (by decide +kernel) (by decide +kernel)) (goodIn_sub (fun _ h => List.mem_cons_of_mem _ (List.mem_append_right _ h)) (by decide +kernel))
set_option maxRecDepth 20000 in
theorem gX2_pass_X2_requireRange : GoodIn wsX2_pass (va_wsS RX2 23 yX2_requireRange wsX2_requireRange) := goodIn_app (goodIn_of _ (by decide +kernel)) ggX2_pass_X2_requireRange
set_option maxRecDepth 20000 in
theorem ggX2_pass_X0_goOn : GoodIn wsX2_pass wsX0_goOn := goodIn_r _ [13, 14, 15, 16, 12, 17, 18, 19, 20, 21, 22, 23, 24, 25, 26, 27, 28, 29, 30, 31, 32, 33, 34, 35, 36, 37, 38, 39, 40, 41, 42, 43, 44, 45, 46, 47, 48, 49, 50, 51, 52, 53, 54, 55, 56, 57, 58, 59, 60, 61, 62, 63, 64, 65, 66, 67, 68, 69, 70, 71, 72, 73, 74, 75, 76, 77, 78, 79, 80, 81, 82, 83, 84, 85, 86, 87, 88, 89, 90, 91, 92, 93, 94, 95, 96, 97, 98, 99, 100, 101, 102, 103, 104, 105, 106, 107, 108, 109, 110, 111, 112, 113, 114, 115, 116, 119, 120, 121, 122, 123, 124, 125, 126, 127, 128, 129, 130, 131, 132, 133, 134, 135, 136, 137, 138, 139, 140, 141] (by decide +kernel) (by decide +kernel)
set_option maxRecDepth 20000 in
theorem gX2_pass_X0_goOn : GoodIn wsX2_pass (wsV RX2 118 RX0 yX0_goOn wsX0_goOn) := goodIn_app (goodIn_of _ (by decide +kernel)) ggX2_pass_X0_goOn
set_option maxRecDepth 20000 in
theorem ggX2_count_X2_requireIndex : GoodIn wsX2_count wsX2_requireIndex := goodIn_ca (goodIn_r _ [5, 6, 7] (by decide +kernel) (by decide +kernel)) (goodIn_sub (fun _ h => List.mem_cons_of_mem _ (List.mem_append_right _ h)) (by decide +kernel))
set_option maxRecDepth 20000 in
theorem gX2_count_X2_requireIndex : GoodIn wsX2_count (va_wsS RX2 61 yX2_requireIndex wsX2_requireIndex) := goodIn_app (goodIn_of _ (by decide +kernel)) ggX2_count_X2_requireIndex
set_option maxRecDepth 20000 in
theorem ggX2_count_X0_countNumber : GoodIn wsX2_count wsX0_countNumber := goodIn_r _ [12, 13, 14, 15, 16, 17, 18, 19, 20, 21, 22, 23, 24, 11, 25, 26, 27, 28, 29, 30, 31, 32, 33, 34, 35, 36, 37, 38, 39, 40, 41, 42, 45, 46, 47, 48, 49, 50, 51, 52, 53, 54, 55, 56, 57, 58, 59, 60, 61, 62, 63, 64, 65, 66, 67] (by decide +kernel) (by decide +kernel)
set_option maxRecDepth 20000 in
theorem gX2_count_X0_countNumber : GoodIn wsX2_count (wsV RX2 121 RX0 yX0_countNumber wsX0_countNumber) := goodIn_app (goodIn_of _ (by decide +kernel)) ggX2_count_X0_countNumber
set_option maxRecDepth 20000 in
theorem ggX2_foresee_X2_requireRange : GoodIn wsX2_foresee wsX2_requireRange := goodIn_ca (goodIn_r _ [8, 9, 10] (by decide +kernel) (by decide +kernel)) (goodIn_sub (fun _ h => List.mem_cons_of_mem _ (List.mem_append_left _ (List.mem_append_right _ h))) (by decide +kernel))
set_option maxRecDepth 20000 in
theorem gX2_foresee_X2_requireRange : GoodIn wsX2_foresee (va_wsS RX2 23 yX2_requireRange wsX2_requireRange) := goodIn_app (goodIn_of _ (by decide +kernel)) ggX2_foresee_X2_requireRange
set_option maxRecDepth 20000 in
theorem ggX2_foresee_X2_requireIndex : GoodIn wsX2_foresee wsX2_requireIndex := goodIn_ca (goodIn_r _ [13, 14, 15] (by decide +kernel) (by decide +kernel)) (goodIn_sub (fun _ h => List.mem_cons_of_mem _ (List.mem_append_right _ h)) (by decide +kernel))
set_option maxRecDepth 20000 in
theorem gX2_foresee_X2_requireIndex : GoodIn wsX2_foresee (va_wsS RX2 61 yX2_requireIndex wsX2_requireIndex) := goodIn_app (goodIn_of _ (by decide +kernel)) ggX2_foresee_X2_requireIndex
set_option maxRecDepth 20000 in
theorem ggX2_foresee_X0_copyFrom : GoodIn wsX2_foresee wsX0_copyFrom := goodIn_r _ [20, 21, 22, 23, 24, 25, 26, 27, 28, 29, 30, 31, 32, 33, 34, 35, 36, 37, 38, 39, 40, 41, 42, 43, 44, 45, 46, 47, 48, 49, 50, 51, 52, 149, 150, 151, 152, 153, 154, 155, 156, 157, 158, 159, 160, 161, 162, 163, 164, 165, 166, 167, 168, 169, 170, 171] (by decide +kernel) (by decide +kernel)
set_option maxRecDepth 20000 in
theorem gX2_foresee_X0_copyFrom : GoodIn wsX2_foresee (wsV RX2 124 RX0 yX0_copyFrom wsX0_copyFrom) := goodIn_app (goodIn_of _ (by decide +kernel)) ggX2_foresee_X0_copyFrom
set_option maxRecDepth 20000 in
theorem ggX2_foresee_X0_goOn : GoodIn wsX2_foresee wsX0_goOn := goodIn_r _ [56, 57, 58, 59, 19, 60, 29, 26, 27, 21, 28, 61, 62, 63, 64, 65, 66, 67, 68, 32, 69, 70, 71, 72, 36, 37, 73, 74, 75, 76, 77, 78, 79, 80, 81, 82, 83, 84, 85, 86, 87, 88, 89, 41, 90, 50, 49, 91, 52, 45, 92, 93, 94, 95, 31, 96, 97, 98, 99, 44, 100, 101, 102, 103, 104, 30, 34, 35, 105, 106, 107, 108, 51, 109, 110, 111, 112, 33, 113, 114, 115, 116, 47, 46, 48, 117, 118, 119, 120, 121, 122, 123, 124, 125, 126, 127, 128, 129, 130, 131, 132, 133, 134, 135, 136, 149, 150, 151, 152, 153, 154, 155, 156, 157, 158, 159, 160, 161, 162, 163, 164, 165, 166, 167, 168, 169, 170, 171] (by decide +kernel) (by decide +kernel)
set_option maxRecDepth 20000 in
theorem gX2_foresee_X0_goOn : GoodIn wsX2_foresee (wsV RX2 118 RX0 yX0_goOn wsX0_goOn) := goodIn_app (goodIn_of _ (by decide +kernel)) ggX2_foresee_X0_goOn
set_option maxRecDepth 20000 in
theorem ggX2_foresee_X0_leaked : GoodIn wsX2_foresee wsX0_leaked := goodIn_r _ [140, 27, 28, 141, 149, 150, 151, 152, 153, 154, 155, 156, 157, 158, 159, 160, 161, 162, 163, 164, 165, 166, 167, 168, 169, 170, 171] (by decide +kernel) (by decide +kernel)
set_option maxRecDepth 20000 in
theorem gX2_foresee_X0_leaked : GoodIn wsX2_foresee (wsV RX2 128 RX0 yX0_leaked wsX0_leaked) := goodIn_app (goodIn_of _ (by decide +kernel)) ggX2_foresee_X0_leaked
set_option maxRecDepth 20000 in
theorem ggX2_foresee_X0_flour : GoodIn wsX2_foresee wsX0_flour := goodIn_r _ [145, 27, 28, 146, 149, 150, 151, 152, 153, 154, 155, 156, 157, 158, 159, 160, 161, 162, 163, 164, 165, 166, 167, 168, 169, 170, 171] (by decide +kernel) (by decide +kernel)
set_option maxRecDepth 20000 in
theorem gX2_foresee_X0_flour : GoodIn wsX2_foresee (wsV RX2 134 RX0 yX0_flour wsX0_flour) := goodIn_app (goodIn_of _ (by decide +kernel)) ggX2_foresee_X0_flour
set_option maxRecDepth 20000 in
theorem ggX2_advise_X2_requireRange : GoodIn wsX2_advise wsX2_requireRange := goodIn_ca (goodIn_r _ [6, 7, 8] (by decide +kernel) (by decide +kernel)) (goodIn_sub (fun _ h => List.mem_cons_of_mem _ (List.mem_append_right _ h)) (by decide +kernel))
set_option maxRecDepth 20000 in
theorem gX2_advise_X2_requireRange : GoodIn wsX2_advise (va_wsS RX2 23 yX2_requireRange wsX2_requireRange) := goodIn_app (goodIn_of _ (by decide +kernel)) ggX2_advise_X2_requireRange
set_option maxRecDepth 20000 in
theorem ggX2_advise_X2_thirstWithClosed : GoodIn wsX2_advise wsX2_thirstWithClosed := goodIn_r _ [12, 13, 1, 2, 14, 15, 16, 17, 18, 19, 20, 21, 22, 23, 24, 25, 26, 27, 28, 29, 30, 31, 32, 33, 34, 35, 36, 37, 38, 39, 40, 41, 42, 43, 44, 45, 46, 47, 48, 49, 50, 51, 52, 53, 54, 55, 56, 57, 58, 59, 60, 61, 62, 63, 64, 65, 66, 67, 68, 69, 70, 71, 72, 73, 74, 75, 76, 77, 78, 79, 80, 81, 82, 83, 84, 85, 86, 87, 88, 89, 90, 91, 92, 93, 94, 95, 96, 97, 98, 99, 100, 101, 102, 103, 104, 105, 106, 107, 108, 109, 110, 111, 112, 113, 114, 115, 116, 117, 118, 119, 120, 121, 122, 123, 124, 125, 126, 127, 128, 129, 130, 131, 132, 133, 134, 135, 136, 137, 138, 139, 140, 142, 143, 144, 145, 146, 147, 148, 149, 150, 151, 152, 153, 154, 155, 156, 157, 158, 159, 160, 161, 162, 163, 164, 165, 166] (by decide +kernel) (by decide +kernel)
set_option maxRecDepth 20000 in
theorem gX2_advise_X2_thirstWithClosed : GoodIn wsX2_advise (wsV RX2 137 RX2 yX2_thirstWithClosed wsX2_thirstWithClosed) := goodIn_app (goodIn_of _ (by decide +kernel)) ggX2_advise_X2_thirstWithClosed
set_option maxRecDepth 20000 in
theorem ggX2_advise_X0_archAt : GoodIn wsX2_advise wsX0_archAt := goodIn_r _ [56, 28, 144, 145, 146, 147, 148, 149, 150, 151, 152, 153, 154, 155, 156] (by decide +kernel) (by decide +kernel)
set_option maxRecDepth 20000 in
theorem gX2_advise_X0_archAt : GoodIn wsX2_advise (wsV RX2 68 RX0 yX0_archAt wsX0_archAt) := goodIn_app (goodIn_of _ (by decide +kernel)) ggX2_advise_X0_archAt
set_option maxRecDepth 20000 in
theorem ggX2_advise_X1_hasOpenSluice : GoodIn wsX2_advise wsX1_hasOpenSluice := goodIn_r _ [132, 50, 133, 134, 135, 41, 136, 49, 157, 158, 159, 160, 161, 162, 163, 164, 165, 166] (by decide +kernel) (by decide +kernel)
set_option maxRecDepth 20000 in
theorem gX2_advise_X1_hasOpenSluice : GoodIn wsX2_advise (wsV RX2 140 RX1 yX1_hasOpenSluice wsX1_hasOpenSluice) := goodIn_app (goodIn_of _ (by decide +kernel)) ggX2_advise_X1_hasOpenSluice
set_option maxRecDepth 20000 in
theorem ggX2_thirsty_X0_copyFrom : GoodIn wsX2_thirsty wsX0_copyFrom := goodIn_r _ [8, 9, 10, 11, 12, 13, 14, 15, 16, 17, 18, 19, 20, 21, 22, 23, 24, 25, 26, 27, 28, 29, 30, 31, 32, 33, 34, 35, 36, 37, 38, 39, 40, 127, 128, 129, 130, 131, 132, 133, 134, 135, 136, 137, 138, 139, 140, 141, 142, 143, 144, 145, 146, 147, 148, 149] (by decide +kernel) (by decide +kernel)
set_option maxRecDepth 20000 in
theorem gX2_thirsty_X0_copyFrom : GoodIn wsX2_thirsty (wsV RX2 124 RX0 yX0_copyFrom wsX0_copyFrom) := goodIn_app (goodIn_of _ (by decide +kernel)) ggX2_thirsty_X0_copyFrom
set_option maxRecDepth 20000 in
theorem ggX2_thirsty_X0_goOn : GoodIn wsX2_thirsty wsX0_goOn := goodIn_r _ [44, 45, 46, 47, 7, 48, 17, 14, 15, 9, 16, 49, 50, 51, 52, 53, 54, 55, 56, 20, 57, 58, 59, 60, 24, 25, 61, 62, 63, 64, 65, 66, 67, 68, 69, 70, 71, 72, 73, 74, 75, 76, 77, 29, 78, 38, 37, 79, 40, 33, 80, 81, 82, 83, 19, 84, 85, 86, 87, 32, 88, 89, 90, 91, 92, 18, 22, 23, 93, 94, 95, 96, 39, 97, 98, 99, 100, 21, 101, 102, 103, 104, 35, 34, 36, 105, 106, 107, 108, 109, 110, 111, 112, 113, 114, 115, 116, 117, 118, 119, 120, 121, 122, 123, 124, 127, 128, 129, 130, 131, 132, 133, 134, 135, 136, 137, 138, 139, 140, 141, 142, 143, 144, 145, 146, 147, 148, 149] (by decide +kernel) (by decide +kernel)
set_option maxRecDepth 20000 in
theorem gX2_thirsty_X0_goOn : GoodIn wsX2_thirsty (wsV RX2 118 RX0 yX0_goOn wsX0_goOn) := goodIn_app (goodIn_of _ (by decide +kernel)) ggX2_thirsty_X0_goOn
set_option maxRecDepth 20000 in
theorem ggX2_worst_X0_archAt : GoodIn wsX2_worst wsX0_archAt := goodIn_r _ [8, 9, 12, 13, 14, 15, 16, 17, 18, 19, 20, 21, 22, 23, 24] (by decide +kernel) (by decide +kernel)
set_option maxRecDepth 20000 in
theorem gX2_worst_X0_archAt : GoodIn wsX2_worst (wsV RX2 68 RX0 yX0_archAt wsX0_archAt) := goodIn_app (goodIn_of _ (by decide +kernel)) ggX2_worst_X0_archAt
set_option maxRecDepth 20000 in
theorem ggX2_digest_X0_countNumber : GoodIn wsX2_digest wsX0_countNumber := goodIn_r _ [11, 12, 13, 14, 15, 16, 17, 18, 19, 20, 21, 22, 23, 10, 24, 25, 26, 27, 28, 29, 30, 31, 32, 33, 34, 35, 36, 37, 38, 39, 40, 41, 81, 82, 83, 84, 85, 86, 87, 88, 89, 90, 91, 92, 93, 94, 95, 96, 97, 98, 99, 100, 101, 102, 103] (by decide +kernel) (by decide +kernel)
set_option maxRecDepth 20000 in
theorem gX2_digest_X0_countNumber : GoodIn wsX2_digest (wsV RX2 121 RX0 yX0_countNumber wsX0_countNumber) := goodIn_app (goodIn_of _ (by decide +kernel)) ggX2_digest_X0_countNumber
set_option maxRecDepth 20000 in
theorem ggX2_digest_X2_digestArch : GoodIn wsX2_digest wsX2_digestArch := goodIn_r _ [46, 2, 3, 47, 48, 49, 10, 50, 25, 51, 52, 36, 53, 54, 41, 55, 56, 57, 58, 13, 59, 60, 61, 62, 63, 64, 65, 66, 26, 27, 28, 29, 30, 31, 67, 68, 69, 70, 71, 72, 73, 74, 75, 76, 77, 78, 79, 80, 81, 82, 83, 84, 85, 86, 87, 88, 89, 90, 91, 92, 93, 94, 95, 96, 97, 98, 99, 100, 101, 102, 103] (by decide +kernel) (by decide +kernel)
set_option maxRecDepth 20000 in
theorem gX2_digest_X2_digestArch : GoodIn wsX2_digest (wsV RX2 155 RX2 yX2_digestArch wsX2_digestArch) := goodIn_app (goodIn_of _ (by decide +kernel)) ggX2_digest_X2_digestArch
set_option maxRecDepth 20000 in
theorem ggX2_digestArch_X0_archNumber : GoodIn wsX2_digestArch wsX0_archNumber := goodIn_r _ [7, 8, 9, 10, 11, 12, 13, 14, 15, 16, 17, 6, 18, 19, 20, 21, 22, 23, 24, 25, 26, 27, 28, 29, 30, 31, 32, 33, 48, 49, 50, 51, 52, 53, 54, 55, 56, 57, 58, 59, 60, 61, 62, 63, 64, 65, 66, 67, 68, 69, 70] (by decide +kernel) (by decide +kernel)
set_option maxRecDepth 20000 in
theorem gX2_digestArch_X0_archNumber : GoodIn wsX2_digestArch (wsV RX2 65 RX0 yX0_archNumber wsX0_archNumber) := goodIn_app (goodIn_of _ (by decide +kernel)) ggX2_digestArch_X0_archNumber
set_option maxRecDepth 20000 in
theorem ggX2_digestArch_X0_archAt : GoodIn wsX2_digestArch wsX0_archAt := goodIn_r _ [37, 8, 48, 49, 50, 51, 52, 53, 54, 55, 56, 57, 58, 59, 60] (by decide +kernel) (by decide +kernel)
set_option maxRecDepth 20000 in
theorem gX2_digestArch_X0_archAt : GoodIn wsX2_digestArch (wsV RX2 68 RX0 yX0_archAt wsX0_archAt) := goodIn_app (goodIn_of _ (by decide +kernel)) ggX2_digestArch_X0_archAt
set_option maxRecDepth 20000 in
theorem ggX2_digestArch_X1_millNumber : GoodIn wsX2_digestArch wsX1_millNumber := goodIn_r _ [41, 33, 42, 43, 44, 45, 29, 30, 31, 32, 61, 62, 63, 64, 65, 66, 67, 68, 69, 70] (by decide +kernel) (by decide +kernel)
set_option maxRecDepth 20000 in
theorem gX2_digestArch_X1_millNumber : GoodIn wsX2_digestArch (wsV RX2 91 RX1 yX1_millNumber wsX1_millNumber) := goodIn_app (goodIn_of _ (by decide +kernel)) ggX2_digestArch_X1_millNumber
set_option maxRecDepth 20000 in
theorem ggX2_thirstWithClosed_X0_copyFrom : GoodIn wsX2_thirstWithClosed wsX0_copyFrom := goodIn_r _ [10, 11, 12, 13, 14, 15, 16, 17, 18, 19, 20, 21, 22, 23, 24, 25, 26, 27, 28, 29, 30, 31, 32, 33, 34, 35, 36, 37, 38, 39, 40, 41, 42, 133, 134, 135, 136, 137, 138, 139, 140, 141, 142, 143, 144, 145, 146, 147, 148, 149, 150, 151, 152, 153, 154, 155] (by decide +kernel) (by decide +kernel)
set_option maxRecDepth 20000 in
theorem gX2_thirstWithClosed_X0_copyFrom : GoodIn wsX2_thirstWithClosed (wsV RX2 124 RX0 yX0_copyFrom wsX0_copyFrom) := goodIn_app (goodIn_of _ (by decide +kernel)) ggX2_thirstWithClosed_X0_copyFrom
set_option maxRecDepth 20000 in
theorem ggX2_thirstWithClosed_X0_archAt : GoodIn wsX2_thirstWithClosed wsX0_archAt := goodIn_r _ [46, 18, 133, 134, 135, 136, 137, 138, 139, 140, 141, 142, 143, 144, 145] (by decide +kernel) (by decide +kernel)
set_option maxRecDepth 20000 in
theorem gX2_thirstWithClosed_X0_archAt : GoodIn wsX2_thirstWithClosed (wsV RX2 68 RX0 yX0_archAt wsX0_archAt) := goodIn_app (goodIn_of _ (by decide +kernel)) ggX2_thirstWithClosed_X0_archAt
set_option maxRecDepth 20000 in
theorem ggX2_thirstWithClosed_X0_goOn : GoodIn wsX2_thirstWithClosed wsX0_goOn := goodIn_r _ [50, 51, 52, 53, 9, 54, 19, 16, 17, 11, 18, 55, 56, 57, 58, 59, 60, 61, 62, 22, 63, 64, 65, 66, 26, 27, 67, 68, 69, 70, 71, 72, 73, 74, 75, 76, 77, 78, 79, 80, 81, 82, 83, 31, 84, 40, 39, 85, 42, 35, 86, 87, 88, 89, 21, 90, 91, 92, 93, 34, 94, 95, 96, 97, 98, 20, 24, 25, 99, 100, 101, 102, 41, 103, 104, 105, 106, 23, 107, 108, 109, 110, 37, 36, 38, 111, 112, 113, 114, 115, 116, 117, 118, 119, 120, 121, 122, 123, 124, 125, 126, 127, 128, 129, 130, 133, 134, 135, 136, 137, 138, 139, 140, 141, 142, 143, 144, 145, 146, 147, 148, 149, 150, 151, 152, 153, 154, 155] (by decide +kernel) (by decide +kernel)
set_option maxRecDepth 20000 in
theorem gX2_thirstWithClosed_X0_goOn : GoodIn wsX2_thirstWithClosed (wsV RX2 118 RX0 yX0_goOn wsX0_goOn) := goodIn_app (goodIn_of _ (by decide +kernel)) ggX2_thirstWithClosed_X0_goOn
set_option maxRecDepth 20000 in
theorem ggX2_setHour_X2_requireIndex : GoodIn wsX2_setHour wsX2_requireIndex := goodIn_ca (goodIn_r _ [4, 5, 6] (by decide +kernel) (by decide +kernel)) (goodIn_sub (fun _ h => List.mem_cons_of_mem _ (List.mem_append_left _ (List.mem_append_right _ h))) (by decide +kernel))
set_option maxRecDepth 20000 in
theorem gX2_setHour_X2_requireIndex : GoodIn wsX2_setHour (va_wsS RX2 61 yX2_requireIndex wsX2_requireIndex) := goodIn_app (goodIn_of _ (by decide +kernel)) ggX2_setHour_X2_requireIndex
set_option maxRecDepth 20000 in
theorem ggX2_setHour_X2_requireRange : GoodIn wsX2_setHour wsX2_requireRange := goodIn_ca (goodIn_r _ [9, 10, 11] (by decide +kernel) (by decide +kernel)) (goodIn_sub (fun _ h => List.mem_cons_of_mem _ (List.mem_append_right _ h)) (by decide +kernel))
set_option maxRecDepth 20000 in
theorem gX2_setHour_X2_requireRange : GoodIn wsX2_setHour (va_wsS RX2 23 yX2_requireRange wsX2_requireRange) := goodIn_app (goodIn_of _ (by decide +kernel)) ggX2_setHour_X2_requireRange
set_option maxRecDepth 20000 in
theorem ggX2_requireArch_X2_requireIndex : GoodIn wsX2_requireArch wsX2_requireIndex := goodIn_ca (goodIn_r _ [6, 7, 8] (by decide +kernel) (by decide +kernel)) (goodIn_sub (fun _ h => List.mem_cons_of_mem _ (List.mem_append_right _ h)) (by decide +kernel))
set_option maxRecDepth 20000 in
theorem gX2_requireArch_X2_requireIndex : GoodIn wsX2_requireArch (va_wsS RX2 61 yX2_requireIndex wsX2_requireIndex) := goodIn_app (goodIn_of _ (by decide +kernel)) ggX2_requireArch_X2_requireIndex
set_option maxRecDepth 20000 in
theorem ggX3_become_X3_copy : GoodIn wsX3_become wsX3_copy := goodIn_r _ [21, 22, 23, 24, 25] (by decide +kernel) (by decide +kernel)
set_option maxRecDepth 20000 in
theorem gX3_become_X3_copy : GoodIn wsX3_become (wsV RX3 56 RX3 yX3_copy wsX3_copy) := goodIn_app (goodIn_of _ (by decide +kernel)) ggX3_become_X3_copy
set_option maxRecDepth 20000 in
theorem ggX3_pass_X4_rate : GoodIn wsX3_pass wsX4_rate := goodIn_r _ [21, 22, 6, 7, 8, 23, 24, 25, 19, 26, 27, 28, 59, 60, 61, 62, 63, 64, 65, 66, 67] (by decide +kernel) (by decide +kernel)
set_option maxRecDepth 20000 in
theorem gX3_pass_X4_rate_n90 : GoodIn wsX3_pass (wsX4_rate) := ggX3_pass_X4_rate
set_option maxRecDepth 20000 in
theorem ggX3_pass_X3_come : GoodIn wsX3_pass wsX3_come := goodIn_r _ [33, 3, 10, 34, 4, 5, 6, 7, 8, 42, 43, 44, 45, 46, 47, 48, 49, 50, 51, 52, 53, 54, 55, 56, 57, 58, 59, 60, 61, 62, 63, 64, 65, 66, 67] (by decide +kernel) (by decide +kernel)
set_option maxRecDepth 20000 in
theorem gX3_pass_X3_come : GoodIn wsX3_pass (wsV RX3 97 RX3 yX3_come wsX3_come) := goodIn_app (goodIn_of _ (by decide +kernel)) ggX3_pass_X3_come
set_option maxRecDepth 20000 in
theorem ggX3_pass_X3_grind : GoodIn wsX3_pass wsX3_grind := goodIn_r _ [38, 11, 39, 40, 41, 14, 3, 5, 6, 7, 8, 29, 30, 31, 32, 33, 10, 34, 4, 42, 43, 44, 45, 46, 47, 48, 49, 50, 51, 52, 53, 54, 55, 56, 57, 58, 59, 60, 61, 62, 63, 64, 65, 66, 67] (by decide +kernel) (by decide +kernel)
set_option maxRecDepth 20000 in
theorem gX3_pass_X3_grind : GoodIn wsX3_pass (wsV RX3 100 RX3 yX3_grind wsX3_grind) := goodIn_app (goodIn_of _ (by decide +kernel)) ggX3_pass_X3_grind
set_option maxRecDepth 20000 in
theorem ggX3_grind_X3_come : GoodIn wsX3_grind wsX3_come := goodIn_r _ [15, 6, 16, 17, 18, 7, 8, 9, 10, 19, 20, 21, 22, 23, 24, 25, 26, 27, 28, 29, 30, 31, 32, 33, 34, 35, 36, 37, 38, 39, 40, 41, 42, 43, 44] (by decide +kernel) (by decide +kernel)
set_option maxRecDepth 20000 in
theorem gX3_grind_X3_come : GoodIn wsX3_grind (wsV RX3 97 RX3 yX3_come wsX3_come) := goodIn_app (goodIn_of _ (by decide +kernel)) ggX3_grind_X3_come
set_option maxRecDepth 20000 in
theorem ggX4_init_X3_init : GoodIn wsX4_init wsX3_init := goodIn_r _ [16, 17, 18, 2, 3, 19, 4, 20, 21, 22, 23, 24, 25, 26, 36, 37, 38, 39, 40, 41, 42, 43, 44, 45, 46, 47, 48, 49, 50, 51, 52] (by decide +kernel) (by decide +kernel)
set_option maxRecDepth 20000 in
theorem gX4_init_X3_init_n27 : GoodIn wsX4_init (wsX3_init) := ggX4_init_X3_init
set_option maxRecDepth 20000 in
theorem ggX4_isArch_X4_isIn : GoodIn wsX4_isArch wsX4_isIn := goodIn_r _ [5] (by decide +kernel) (by decide +kernel)
set_option maxRecDepth 20000 in
theorem gX4_isArch_X4_isIn : GoodIn wsX4_isArch (va_wsS RX4 44 yX4_isIn wsX4_isIn) := goodIn_app (goodIn_of _ (by decide +kernel)) ggX4_isArch_X4_isIn
set_option maxRecDepth 20000 in
theorem ggX4_rate_X4_slope : GoodIn wsX4_rate wsX4_slope := goodIn_r _ [9, 10, 11, 12, 13, 14, 15, 16, 17, 18, 19, 20] (by decide +kernel) (by decide +kernel)
set_option maxRecDepth 20000 in
theorem gX4_rate_X4_slope : GoodIn wsX4_rate (wsV RX4 48 RX4 yX4_slope wsX4_slope) := goodIn_app (goodIn_of _ (by decide +kernel)) ggX4_rate_X4_slope
set_option maxRecDepth 20000 in
theorem ggX4_build_X4_isIn : GoodIn wsX4_build wsX4_isIn := goodIn_r _ [8] (by decide +kernel) (by decide +kernel)
set_option maxRecDepth 20000 in
theorem gX4_build_X4_isIn : GoodIn wsX4_build (va_wsS RX4 44 yX4_isIn wsX4_isIn) := goodIn_app (goodIn_of _ (by decide +kernel)) ggX4_build_X4_isIn
set_option maxRecDepth 20000 in
theorem ggX4_build_X4_no : GoodIn wsX4_build wsX4_no := goodIn_r _ [12, 1, 13, 14, 15, 16, 17, 18, 19, 20, 21] (by decide +kernel) (by decide +kernel)
set_option maxRecDepth 20000 in
theorem gX4_build_X4_no : GoodIn wsX4_build (wsV RX4 58 RX4 yX4_no wsX4_no) := goodIn_app (goodIn_of _ (by decide +kernel)) ggX4_build_X4_no
set_option maxRecDepth 20000 in
theorem ggX4_set_X4_isIn : GoodIn wsX4_set wsX4_isIn := goodIn_r _ [5] (by decide +kernel) (by decide +kernel)
set_option maxRecDepth 20000 in
theorem gX4_set_X4_isIn : GoodIn wsX4_set (va_wsS RX4 44 yX4_isIn wsX4_isIn) := goodIn_app (goodIn_of _ (by decide +kernel)) ggX4_set_X4_isIn
set_option maxRecDepth 20000 in
theorem ggX4_set_X4_no : GoodIn wsX4_set wsX4_no := goodIn_r _ [9, 1, 10, 11, 12, 13, 14, 15, 16, 17, 18] (by decide +kernel) (by decide +kernel)
set_option maxRecDepth 20000 in
theorem gX4_set_X4_no : GoodIn wsX4_set (wsV RX4 58 RX4 yX4_no wsX4_no) := goodIn_app (goodIn_of _ (by decide +kernel)) ggX4_set_X4_no
set_option maxRecDepth 20000 in
theorem ggX4_setSpring_X4_set : GoodIn wsX4_setSpring wsX4_set := goodIn_r _ [6, 7, 8, 9, 5, 10, 11, 12, 13, 14, 15, 16, 17, 18, 19, 20, 21, 22, 23] (by decide +kernel) (by decide +kernel)
set_option maxRecDepth 20000 in
theorem gX4_setSpring_X4_set : GoodIn wsX4_setSpring (wsV RX4 61 RX4 yX4_set wsX4_set) := goodIn_app (goodIn_of _ (by decide +kernel)) ggX4_setSpring_X4_set
set_option maxRecDepth 20000 in
theorem ggX4_setCity_X4_set : GoodIn wsX4_setCity wsX4_set := goodIn_r _ [6, 7, 8, 9, 5, 10, 11, 12, 13, 14, 15, 16, 17, 18, 19, 20, 21, 22, 23] (by decide +kernel) (by decide +kernel)
set_option maxRecDepth 20000 in
theorem gX4_setCity_X4_set : GoodIn wsX4_setCity (wsV RX4 61 RX4 yX4_set wsX4_set) := goodIn_app (goodIn_of _ (by decide +kernel)) ggX4_setCity_X4_set
set_option maxRecDepth 20000 in
theorem ggX4_setCistern_X4_isIn : GoodIn wsX4_setCistern wsX4_isIn := goodIn_r _ [10] (by decide +kernel) (by decide +kernel)
set_option maxRecDepth 20000 in
theorem gX4_setCistern_X4_isIn : GoodIn wsX4_setCistern (va_wsS RX4 44 yX4_isIn wsX4_isIn) := goodIn_app (goodIn_of _ (by decide +kernel)) ggX4_setCistern_X4_isIn
set_option maxRecDepth 20000 in
theorem ggX4_setCistern_X4_no : GoodIn wsX4_setCistern wsX4_no := goodIn_r _ [14, 1, 15, 16, 17, 18, 19, 20, 21, 22, 23] (by decide +kernel) (by decide +kernel)
set_option maxRecDepth 20000 in
theorem gX4_setCistern_X4_no : GoodIn wsX4_setCistern (wsV RX4 58 RX4 yX4_no wsX4_no) := goodIn_app (goodIn_of _ (by decide +kernel)) ggX4_setCistern_X4_no
set_option maxRecDepth 20000 in
theorem ggX4_archTold_X4_slope : GoodIn wsX4_archTold wsX4_slope := goodIn_r _ [10, 2, 11, 20, 21, 22, 23, 24, 25, 26, 27, 28] (by decide +kernel) (by decide +kernel)
set_option maxRecDepth 20000 in
theorem gX4_archTold_X4_slope : GoodIn wsX4_archTold (wsV RX4 48 RX4 yX4_slope wsX4_slope) := goodIn_app (goodIn_of _ (by decide +kernel)) ggX4_archTold_X4_slope
set_option maxRecDepth 20000 in
theorem ggX4_archTold_X4_rate : GoodIn wsX4_archTold wsX4_rate := goodIn_r _ [15, 16, 17, 18, 19, 6, 7, 8, 9, 10, 2, 11, 20, 21, 22, 23, 24, 25, 26, 27, 28] (by decide +kernel) (by decide +kernel)
set_option maxRecDepth 20000 in
theorem gX4_archTold_X4_rate : GoodIn wsX4_archTold (wsV RX4 86 RX4 yX4_rate wsX4_rate) := goodIn_app (goodIn_of _ (by decide +kernel)) ggX4_archTold_X4_rate
set_option maxRecDepth 20000 in
theorem ggX4_arch_X4_isArch : GoodIn wsX4_arch wsX4_isArch := goodIn_r _ [6, 7, 8, 9, 5, 10, 36, 37, 38, 39, 40, 41, 42, 43, 44] (by decide +kernel) (by decide +kernel)
set_option maxRecDepth 20000 in
theorem gX4_arch_X4_isArch : GoodIn wsX4_arch (wsV RX4 92 RX4 yX4_isArch wsX4_isArch) := goodIn_app (goodIn_of _ (by decide +kernel)) ggX4_arch_X4_isArch
set_option maxRecDepth 20000 in
theorem ggX4_arch_X4_isIn : GoodIn wsX4_arch wsX4_isIn := goodIn_r _ [10] (by decide +kernel) (by decide +kernel)
set_option maxRecDepth 20000 in
theorem gX4_arch_X4_isIn : GoodIn wsX4_arch (va_wsS RX4 44 yX4_isIn wsX4_isIn) := goodIn_app (goodIn_of _ (by decide +kernel)) ggX4_arch_X4_isIn
set_option maxRecDepth 20000 in
theorem ggX4_arch_X4_archTold : GoodIn wsX4_arch wsX4_archTold := goodIn_r _ [14, 15, 16, 17, 18, 19, 20, 21, 22, 5, 23, 7, 24, 25, 26, 27, 28, 29, 30, 31, 36, 37, 38, 39, 40, 41, 42, 43, 44, 45, 46, 47, 48, 49, 50, 51, 52, 53, 54, 55, 56, 57, 58, 59, 60, 61] (by decide +kernel) (by decide +kernel)
set_option maxRecDepth 20000 in
theorem gX4_arch_X4_archTold : GoodIn wsX4_arch (wsV RX4 96 RX4 yX4_archTold wsX4_archTold) := goodIn_app (goodIn_of _ (by decide +kernel)) ggX4_arch_X4_archTold
set_option maxRecDepth 20000 in
theorem ggX4_arch_X4_no : GoodIn wsX4_arch wsX4_no := goodIn_r _ [35, 1, 36, 37, 38, 39, 40, 41, 42, 43, 44] (by decide +kernel) (by decide +kernel)
set_option maxRecDepth 20000 in
theorem gX4_arch_X4_no : GoodIn wsX4_arch (wsV RX4 58 RX4 yX4_no wsX4_no) := goodIn_app (goodIn_of _ (by decide +kernel)) ggX4_arch_X4_no
set_option maxRecDepth 20000 in
theorem ggX4_addMill_X4_isArch : GoodIn wsX4_addMill wsX4_isArch := goodIn_r _ [7, 8, 9, 10, 6, 11, 20, 21, 22, 23, 24, 25, 26, 27, 28] (by decide +kernel) (by decide +kernel)
set_option maxRecDepth 20000 in
theorem gX4_addMill_X4_isArch : GoodIn wsX4_addMill (wsV RX4 92 RX4 yX4_isArch wsX4_isArch) := goodIn_app (goodIn_of _ (by decide +kernel)) ggX4_addMill_X4_isArch
set_option maxRecDepth 20000 in
theorem ggX4_addMill_X4_no : GoodIn wsX4_addMill wsX4_no := goodIn_r _ [15, 1, 20, 21, 22, 23, 24, 25, 26, 27, 28] (by decide +kernel) (by decide +kernel)
set_option maxRecDepth 20000 in
theorem gX4_addMill_X4_no : GoodIn wsX4_addMill (wsV RX4 58 RX4 yX4_no wsX4_no) := goodIn_app (goodIn_of _ (by decide +kernel)) ggX4_addMill_X4_no
set_option maxRecDepth 20000 in
theorem ggX4_addMill_X4_isIn : GoodIn wsX4_addMill wsX4_isIn := goodIn_r _ [11] (by decide +kernel) (by decide +kernel)
set_option maxRecDepth 20000 in
theorem gX4_addMill_X4_isIn : GoodIn wsX4_addMill (va_wsS RX4 44 yX4_isIn wsX4_isIn) := goodIn_app (goodIn_of _ (by decide +kernel)) ggX4_addMill_X4_isIn
set_option maxRecDepth 20000 in
theorem ggX4_addMill_X4_mills : GoodIn wsX4_addMill wsX4_mills := goodIn_r _ [19, 8, 2, 20, 21, 22, 23, 24, 25, 26, 27, 28] (by decide +kernel) (by decide +kernel)
set_option maxRecDepth 20000 in
theorem gX4_addMill_X4_mills : GoodIn wsX4_addMill (wsV RX4 99 RX4 yX4_mills wsX4_mills) := goodIn_app (goodIn_of _ (by decide +kernel)) ggX4_addMill_X4_mills
set_option maxRecDepth 20000 in
theorem ggX4_setSluice_X4_isArch : GoodIn wsX4_setSluice wsX4_isArch := goodIn_r _ [8, 9, 10, 11, 7, 12, 17, 18, 19, 20, 21, 22, 23, 24, 25] (by decide +kernel) (by decide +kernel)
set_option maxRecDepth 20000 in
theorem gX4_setSluice_X4_isArch : GoodIn wsX4_setSluice (wsV RX4 92 RX4 yX4_isArch wsX4_isArch) := goodIn_app (goodIn_of _ (by decide +kernel)) ggX4_setSluice_X4_isArch
set_option maxRecDepth 20000 in
theorem ggX4_setSluice_X4_no : GoodIn wsX4_setSluice wsX4_no := goodIn_r _ [16, 1, 17, 18, 19, 20, 21, 22, 23, 24, 25] (by decide +kernel) (by decide +kernel)
set_option maxRecDepth 20000 in
theorem gX4_setSluice_X4_no : GoodIn wsX4_setSluice (wsV RX4 58 RX4 yX4_no wsX4_no) := goodIn_app (goodIn_of _ (by decide +kernel)) ggX4_setSluice_X4_no
set_option maxRecDepth 20000 in
theorem ggX4_setSluice_X4_isIn : GoodIn wsX4_setSluice wsX4_isIn := goodIn_r _ [12] (by decide +kernel) (by decide +kernel)
set_option maxRecDepth 20000 in
theorem gX4_setSluice_X4_isIn : GoodIn wsX4_setSluice (va_wsS RX4 44 yX4_isIn wsX4_isIn) := goodIn_app (goodIn_of _ (by decide +kernel)) ggX4_setSluice_X4_isIn
set_option maxRecDepth 20000 in
theorem ggX4_mill_X4_isArch : GoodIn wsX4_mill wsX4_isArch := goodIn_r _ [6, 7, 8, 9, 5, 10, 21, 22, 23, 24, 25, 26, 27, 28, 29] (by decide +kernel) (by decide +kernel)
set_option maxRecDepth 20000 in
theorem gX4_mill_X4_isArch : GoodIn wsX4_mill (wsV RX4 92 RX4 yX4_isArch wsX4_isArch) := goodIn_app (goodIn_of _ (by decide +kernel)) ggX4_mill_X4_isArch
set_option maxRecDepth 20000 in
theorem ggX4_mill_X4_isIn : GoodIn wsX4_mill wsX4_isIn := goodIn_r _ [10] (by decide +kernel) (by decide +kernel)
set_option maxRecDepth 20000 in
theorem gX4_mill_X4_isIn : GoodIn wsX4_mill (va_wsS RX4 44 yX4_isIn wsX4_isIn) := goodIn_app (goodIn_of _ (by decide +kernel)) ggX4_mill_X4_isIn
set_option maxRecDepth 20000 in
theorem ggX4_mill_X4_millTold : GoodIn wsX4_mill wsX4_millTold := goodIn_r _ [14, 15, 16, 21, 22, 23, 24, 25, 26, 27, 28, 29, 30, 31, 32, 33, 34, 35, 36, 37, 38, 39, 40, 41, 42, 43, 44, 45, 46] (by decide +kernel) (by decide +kernel)
set_option maxRecDepth 20000 in
theorem gX4_mill_X4_millTold : GoodIn wsX4_mill (wsV RX4 112 RX4 yX4_millTold wsX4_millTold) := goodIn_app (goodIn_of _ (by decide +kernel)) ggX4_mill_X4_millTold
set_option maxRecDepth 20000 in
theorem ggX4_mill_X4_no : GoodIn wsX4_mill wsX4_no := goodIn_r _ [20, 1, 21, 22, 23, 24, 25, 26, 27, 28, 29] (by decide +kernel) (by decide +kernel)
set_option maxRecDepth 20000 in
theorem gX4_mill_X4_no : GoodIn wsX4_mill (wsV RX4 58 RX4 yX4_no wsX4_no) := goodIn_app (goodIn_of _ (by decide +kernel)) ggX4_mill_X4_no
set_option maxRecDepth 20000 in
theorem ggX4_mend_X4_isArch : GoodIn wsX4_mend wsX4_isArch := goodIn_r _ [11, 12, 13, 14, 10, 15, 20, 21, 22, 23, 24, 25, 26, 27, 28] (by decide +kernel) (by decide +kernel)
set_option maxRecDepth 20000 in
theorem gX4_mend_X4_isArch : GoodIn wsX4_mend (wsV RX4 92 RX4 yX4_isArch wsX4_isArch) := goodIn_app (goodIn_of _ (by decide +kernel)) ggX4_mend_X4_isArch
set_option maxRecDepth 20000 in
theorem ggX4_mend_X4_no : GoodIn wsX4_mend wsX4_no := goodIn_r _ [19, 1, 20, 21, 22, 23, 24, 25, 26, 27, 28] (by decide +kernel) (by decide +kernel)
set_option maxRecDepth 20000 in
theorem gX4_mend_X4_no : GoodIn wsX4_mend (wsV RX4 58 RX4 yX4_no wsX4_no) := goodIn_app (goodIn_of _ (by decide +kernel)) ggX4_mend_X4_no
set_option maxRecDepth 20000 in
theorem ggX4_quake_X4_isArch : GoodIn wsX4_quake wsX4_isArch := goodIn_r _ [11, 12, 13, 14, 10, 15, 20, 21, 22, 23, 24, 25, 26, 27, 28] (by decide +kernel) (by decide +kernel)
set_option maxRecDepth 20000 in
theorem gX4_quake_X4_isArch : GoodIn wsX4_quake (wsV RX4 92 RX4 yX4_isArch wsX4_isArch) := goodIn_app (goodIn_of _ (by decide +kernel)) ggX4_quake_X4_isArch
set_option maxRecDepth 20000 in
theorem ggX4_quake_X4_no : GoodIn wsX4_quake wsX4_no := goodIn_r _ [19, 1, 20, 21, 22, 23, 24, 25, 26, 27, 28] (by decide +kernel) (by decide +kernel)
set_option maxRecDepth 20000 in
theorem gX4_quake_X4_no : GoodIn wsX4_quake (wsV RX4 58 RX4 yX4_no wsX4_no) := goodIn_app (goodIn_of _ (by decide +kernel)) ggX4_quake_X4_no
set_option maxRecDepth 20000 in
theorem ggX4_quake_X4_isIn : GoodIn wsX4_quake wsX4_isIn := goodIn_r _ [15] (by decide +kernel) (by decide +kernel)
set_option maxRecDepth 20000 in
theorem gX4_quake_X4_isIn : GoodIn wsX4_quake (va_wsS RX4 44 yX4_isIn wsX4_isIn) := goodIn_app (goodIn_of _ (by decide +kernel)) ggX4_quake_X4_isIn
set_option maxRecDepth 20000 in
theorem ggX4_pass_X3_pass : GoodIn wsX4_pass wsX3_pass := goodIn_r _ [5, 6, 7, 8, 9, 10, 11, 12, 13, 14, 15, 16, 17, 18, 19, 20, 21, 22, 23, 24, 25, 26, 27, 28, 29, 30, 31, 32, 33, 34, 35, 36, 4, 37, 38, 39, 40, 41, 42, 43, 44, 45, 46, 47, 48, 49, 50, 51, 52, 53, 54, 55, 56, 57, 58, 59, 60, 61, 62, 63, 64, 65, 66, 67, 68, 69, 70, 71] (by decide +kernel) (by decide +kernel)
set_option maxRecDepth 20000 in
theorem gX4_pass_X3_pass : GoodIn wsX4_pass (wsV RX4 118 RX3 yX3_pass wsX3_pass) := goodIn_app (goodIn_of _ (by decide +kernel)) ggX4_pass_X3_pass
set_option maxRecDepth 20000 in
theorem ggX4_pass__X4_isIn : GoodIn wsX4_pass_ wsX4_isIn := goodIn_r _ [6] (by decide +kernel) (by decide +kernel)
set_option maxRecDepth 20000 in
theorem gX4_pass__X4_isIn : GoodIn wsX4_pass_ (va_wsS RX4 44 yX4_isIn wsX4_isIn) := goodIn_app (goodIn_of _ (by decide +kernel)) ggX4_pass__X4_isIn
set_option maxRecDepth 20000 in
theorem ggX4_pass__X4_pass : GoodIn wsX4_pass_ wsX4_pass := goodIn_r _ [9, 10, 11, 12, 13, 14, 15, 16, 17, 18, 19, 20, 21, 22, 23, 24, 25, 26, 27, 28, 29, 30, 31, 32, 5, 33, 34, 35, 36, 37, 38, 39, 40, 41, 42, 43, 44, 45, 46, 47, 48, 49, 50, 51, 52, 53, 67, 68, 69, 70, 71, 72, 73, 74, 75, 76, 77, 78, 79, 80, 81, 82, 83, 58, 59, 60, 61, 62, 63, 64, 65, 66] (by decide +kernel) (by decide +kernel)
set_option maxRecDepth 20000 in
theorem gX4_pass__X4_pass : GoodIn wsX4_pass_ (va_wsS RX4 121 yX4_pass wsX4_pass) := goodIn_app (goodIn_of _ (by decide +kernel)) ggX4_pass__X4_pass
set_option maxRecDepth 20000 in
theorem ggX4_pass__X4_no : GoodIn wsX4_pass_ wsX4_no := goodIn_r _ [57, 1, 58, 59, 60, 61, 62, 63, 64, 65, 66] (by decide +kernel) (by decide +kernel)
set_option maxRecDepth 20000 in
theorem gX4_pass__X4_no : GoodIn wsX4_pass_ (wsV RX4 58 RX4 yX4_no wsX4_no) := goodIn_app (goodIn_of _ (by decide +kernel)) ggX4_pass__X4_no
set_option maxRecDepth 20000 in
theorem ggX4_counted_X4_mills : GoodIn wsX4_counted wsX4_mills := goodIn_r _ [8, 3, 9, 16, 17, 18, 19, 20, 21, 22, 23, 24] (by decide +kernel) (by decide +kernel)
set_option maxRecDepth 20000 in
theorem gX4_counted_X4_mills : GoodIn wsX4_counted (wsV RX4 99 RX4 yX4_mills wsX4_mills) := goodIn_app (goodIn_of _ (by decide +kernel)) ggX4_counted_X4_mills
set_option maxRecDepth 20000 in
theorem ggX4_counted_X3_over : GoodIn wsX4_counted wsX3_over := goodIn_r _ [14, 15, 25, 26, 27, 28, 29, 30, 31, 32, 33, 34, 35, 36, 37, 38, 39, 40, 41, 16, 17, 18, 19, 20, 21, 22, 23, 24] (by decide +kernel) (by decide +kernel)
set_option maxRecDepth 20000 in
theorem gX4_counted_X3_over : GoodIn wsX4_counted (wsV RX4 127 RX3 yX3_over wsX3_over) := goodIn_app (goodIn_of _ (by decide +kernel)) ggX4_counted_X3_over
set_option maxRecDepth 20000 in
theorem ggX4_count_X4_isIn : GoodIn wsX4_count wsX4_isIn := goodIn_r _ [5] (by decide +kernel) (by decide +kernel)
set_option maxRecDepth 20000 in
theorem gX4_count_X4_isIn : GoodIn wsX4_count (va_wsS RX4 44 yX4_isIn wsX4_isIn) := goodIn_app (goodIn_of _ (by decide +kernel)) ggX4_count_X4_isIn
set_option maxRecDepth 20000 in
theorem ggX4_count_X4_counted : GoodIn wsX4_count wsX4_counted := goodIn_r _ [9, 10, 11, 12, 13, 14, 15, 4, 16, 17, 18, 19, 20, 21, 22, 23, 28, 29, 30, 31, 32, 33, 34, 35, 36, 37, 38, 39, 40, 41, 42, 43, 44, 45, 46, 47, 48, 49, 50, 51, 52, 53] (by decide +kernel) (by decide +kernel)
set_option maxRecDepth 20000 in
theorem gX4_count_X4_counted : GoodIn wsX4_count (wsV RX4 143 RX4 yX4_counted wsX4_counted) := goodIn_app (goodIn_of _ (by decide +kernel)) ggX4_count_X4_counted
set_option maxRecDepth 20000 in
theorem ggX4_count_X4_no : GoodIn wsX4_count wsX4_no := goodIn_r _ [27, 1, 28, 29, 30, 31, 32, 33, 34, 35, 36] (by decide +kernel) (by decide +kernel)
set_option maxRecDepth 20000 in
theorem gX4_count_X4_no : GoodIn wsX4_count (wsV RX4 58 RX4 yX4_no wsX4_no) := goodIn_app (goodIn_of _ (by decide +kernel)) ggX4_count_X4_no
set_option maxRecDepth 20000 in
theorem ggX4_foresee_X4_isIn : GoodIn wsX4_foresee wsX4_isIn := goodIn_r _ [7] (by decide +kernel) (by decide +kernel)
set_option maxRecDepth 20000 in
theorem gX4_foresee_X4_isIn : GoodIn wsX4_foresee (va_wsS RX4 44 yX4_isIn wsX4_isIn) := goodIn_app (goodIn_of _ (by decide +kernel)) ggX4_foresee_X4_isIn
set_option maxRecDepth 20000 in
theorem ggX4_foresee_X4_no : GoodIn wsX4_foresee wsX4_no := goodIn_r _ [11, 1, 75, 76, 77, 78, 79, 80, 81, 82, 83] (by decide +kernel) (by decide +kernel)
set_option maxRecDepth 20000 in
theorem gX4_foresee_X4_no : GoodIn wsX4_foresee (wsV RX4 58 RX4 yX4_no wsX4_no) := goodIn_app (goodIn_of _ (by decide +kernel)) ggX4_foresee_X4_no
set_option maxRecDepth 20000 in
theorem ggX4_foresee_X3_become : GoodIn wsX4_foresee wsX3_become := goodIn_r _ [16, 17, 18, 19, 20, 21, 22, 23, 24, 25, 26, 27, 28, 29, 30, 31, 32, 33, 34, 35, 15, 36, 37, 38, 39, 40, 84, 85, 86, 87, 88, 89, 90, 91, 92, 93, 94, 95, 96, 97, 98, 99, 100] (by decide +kernel) (by decide +kernel)
set_option maxRecDepth 20000 in
theorem gX4_foresee_X3_become : GoodIn wsX4_foresee (wsV RX4 146 RX3 yX3_become wsX3_become) := goodIn_app (goodIn_of _ (by decide +kernel)) ggX4_foresee_X3_become
set_option maxRecDepth 20000 in
theorem ggX4_foresee_X4_pass : GoodIn wsX4_foresee wsX4_pass := goodIn_r _ [43, 44, 45, 46, 15, 47, 17, 32, 48, 18, 49, 50, 51, 52, 31, 21, 27, 25, 28, 29, 23, 22, 24, 53, 6, 54, 55, 56, 57, 58, 59, 60, 61, 62, 63, 64, 65, 66, 19, 67, 68, 69, 70, 20, 26, 30, 84, 85, 86, 87, 88, 89, 90, 91, 92, 93, 94, 95, 96, 97, 98, 99, 100, 75, 76, 77, 78, 79, 80, 81, 82, 83] (by decide +kernel) (by decide +kernel)
set_option maxRecDepth 20000 in
theorem gX4_foresee_X4_pass : GoodIn wsX4_foresee (va_wsS RX4 121 yX4_pass wsX4_pass) := goodIn_app (goodIn_of _ (by decide +kernel)) ggX4_foresee_X4_pass
set_option maxRecDepth 20000 in
theorem ggX4_foresee_X3_over : GoodIn wsX4_foresee wsX3_over := goodIn_r _ [74, 48, 84, 85, 86, 87, 88, 89, 90, 91, 92, 93, 94, 95, 96, 97, 98, 99, 100, 75, 76, 77, 78, 79, 80, 81, 82, 83] (by decide +kernel) (by decide +kernel)
set_option maxRecDepth 20000 in
theorem gX4_foresee_X3_over : GoodIn wsX4_foresee (wsV RX4 127 RX3 yX3_over wsX3_over) := goodIn_app (goodIn_of _ (by decide +kernel)) ggX4_foresee_X3_over
set_option maxRecDepth 20000 in
theorem ggX4_advise_X4_isIn : GoodIn wsX4_advise wsX4_isIn := goodIn_r _ [8] (by decide +kernel) (by decide +kernel)
set_option maxRecDepth 20000 in
theorem gX4_advise_X4_isIn : GoodIn wsX4_advise (va_wsS RX4 44 yX4_isIn wsX4_isIn) := goodIn_app (goodIn_of _ (by decide +kernel)) ggX4_advise_X4_isIn
set_option maxRecDepth 20000 in
theorem ggX4_advise_X4_no : GoodIn wsX4_advise wsX4_no := goodIn_r _ [12, 1, 71, 72, 73, 74, 75, 76, 77, 78, 79] (by decide +kernel) (by decide +kernel)
set_option maxRecDepth 20000 in
theorem gX4_advise_X4_no : GoodIn wsX4_advise (wsV RX4 58 RX4 yX4_no wsX4_no) := goodIn_app (goodIn_of _ (by decide +kernel)) ggX4_advise_X4_no
set_option maxRecDepth 20000 in
theorem ggX4_advise_X3_become : GoodIn wsX4_advise wsX3_become := goodIn_r _ [17, 18, 19, 20, 21, 22, 23, 24, 25, 26, 27, 28, 29, 30, 31, 32, 33, 34, 35, 36, 16, 37, 38, 39, 40, 41, 80, 81, 82, 83, 84, 85, 86, 87, 88, 89, 90, 91, 92, 93, 94, 95, 96] (by decide +kernel) (by decide +kernel)
set_option maxRecDepth 20000 in
theorem gX4_advise_X3_become : GoodIn wsX4_advise (wsV RX4 146 RX3 yX3_become wsX3_become) := goodIn_app (goodIn_of _ (by decide +kernel)) ggX4_advise_X3_become
set_option maxRecDepth 20000 in
theorem ggX4_advise_X4_pass : GoodIn wsX4_advise wsX4_pass := goodIn_r _ [44, 45, 46, 47, 16, 48, 18, 33, 49, 19, 50, 51, 52, 53, 32, 22, 28, 26, 29, 30, 24, 23, 25, 54, 7, 55, 56, 57, 58, 59, 60, 61, 62, 4, 63, 64, 65, 66, 20, 67, 68, 69, 70, 21, 27, 31, 80, 81, 82, 83, 84, 85, 86, 87, 88, 89, 90, 91, 92, 93, 94, 95, 96, 71, 72, 73, 74, 75, 76, 77, 78, 79] (by decide +kernel) (by decide +kernel)
set_option maxRecDepth 20000 in
theorem gX4_advise_X4_pass : GoodIn wsX4_advise (va_wsS RX4 121 yX4_pass wsX4_pass) := goodIn_app (goodIn_of _ (by decide +kernel)) ggX4_advise_X4_pass
set_option maxRecDepth 20000 in
theorem ggX4_thirsty_X3_become : GoodIn wsX4_thirsty wsX3_become := goodIn_r _ [8, 9, 10, 11, 12, 13, 14, 15, 16, 17, 18, 19, 20, 21, 22, 23, 24, 25, 26, 27, 7, 28, 29, 30, 31, 32, 70, 71, 72, 73, 74, 75, 76, 77, 78, 79, 80, 81, 82, 83, 84, 85, 86] (by decide +kernel) (by decide +kernel)
set_option maxRecDepth 20000 in
theorem gX4_thirsty_X3_become : GoodIn wsX4_thirsty (wsV RX4 146 RX3 yX3_become wsX3_become) := goodIn_app (goodIn_of _ (by decide +kernel)) ggX4_thirsty_X3_become
set_option maxRecDepth 20000 in
theorem ggX4_thirsty_X3_pass : GoodIn wsX4_thirsty wsX3_pass := goodIn_r _ [36, 9, 24, 37, 10, 38, 39, 40, 41, 23, 13, 19, 17, 20, 21, 15, 14, 16, 42, 43, 44, 45, 46, 47, 48, 49, 50, 51, 52, 53, 54, 55, 7, 56, 11, 57, 58, 59, 60, 12, 18, 22, 70, 71, 72, 73, 74, 75, 76, 77, 78, 79, 80, 81, 82, 83, 84, 85, 86, 61, 62, 63, 64, 65, 66, 67, 68, 69] (by decide +kernel) (by decide +kernel)
set_option maxRecDepth 20000 in
theorem gX4_thirsty_X3_pass : GoodIn wsX4_thirsty (wsV RX4 118 RX3 yX3_pass wsX3_pass) := goodIn_app (goodIn_of _ (by decide +kernel)) ggX4_thirsty_X3_pass
set_option maxRecDepth 20000 in
theorem ggX4_digest_X4_counted : GoodIn wsX4_digest wsX4_counted := goodIn_r _ [11, 12, 13, 6, 14, 15, 16, 10, 17, 18, 19, 20, 21, 22, 23, 24, 47, 48, 49, 50, 51, 52, 53, 54, 55, 56, 57, 58, 59, 60, 61, 62, 63, 64, 65, 66, 67, 68, 69, 70, 71, 72] (by decide +kernel) (by decide +kernel)
set_option maxRecDepth 20000 in
theorem gX4_digest_X4_counted : GoodIn wsX4_digest (wsV RX4 143 RX4 yX4_counted wsX4_counted) := goodIn_app (goodIn_of _ (by decide +kernel)) ggX4_digest_X4_counted
set_option maxRecDepth 20000 in
theorem ggX4_digest_X4_archTold : GoodIn wsX4_digest wsX4_archTold := goodIn_r _ [28, 12, 29, 30, 13, 18, 31, 32, 33, 10, 34, 6, 35, 36, 37, 38, 39, 40, 41, 42, 47, 48, 49, 50, 51, 52, 53, 54, 55, 56, 57, 58, 59, 60, 61, 62, 63, 64, 65, 66, 67, 68, 69, 70, 71, 72] (by decide +kernel) (by decide +kernel)
set_option maxRecDepth 20000 in
theorem gX4_digest_X4_archTold : GoodIn wsX4_digest (wsV RX4 96 RX4 yX4_archTold wsX4_archTold) := goodIn_app (goodIn_of _ (by decide +kernel)) ggX4_digest_X4_archTold
set_option maxRecDepth 20000 in
theorem ggX4_digest_X4_millTold : GoodIn wsX4_digest wsX4_millTold := goodIn_r _ [46, 18, 13, 47, 48, 49, 50, 51, 52, 53, 54, 55, 56, 57, 58, 59, 60, 61, 62, 63, 64, 65, 66, 67, 68, 69, 70, 71, 72] (by decide +kernel) (by decide +kernel)
set_option maxRecDepth 20000 in
theorem gX4_digest_X4_millTold : GoodIn wsX4_digest (wsV RX4 112 RX4 yX4_millTold wsX4_millTold) := goodIn_app (goodIn_of _ (by decide +kernel)) ggX4_digest_X4_millTold
abbrev vwCl : List vw_C := [(RX0, TX0, 13), (RX1, TX1, 10), (RX2, TX2, 2), (RX3, TX3, 17), (RX4, TX4, 9)]
end
section
theorem dX0_init_0 : decode cX0_init 0 = .ok (.aload_n 0, 1) := by decide +kernel
theorem dX0_init_1 : decode cX0_init 1 = .ok (.invokespecial 3, 3) := by decide +kernel
theorem dX0_init_4 : decode cX0_init 4 = .ok (.aload_n 0, 1) := by decide +kernel
theorem dX0_init_5 : decode cX0_init 5 = .ok (.bipush 24, 2) := by decide +kernel
theorem dX0_init_7 : decode cX0_init 7 = .ok (.newarray .int, 2) := by decide +kernel
theorem dX0_init_9 : decode cX0_init 9 = .ok (.putfield 9, 3) := by decide +kernel
theorem dX0_init_12 : decode cX0_init 12 = .ok (.aload_n 0, 1) := by decide +kernel
theorem dX0_init_13 : decode cX0_init 13 = .ok (.bipush 24, 2) := by decide +kernel
theorem dX0_init_15 : decode cX0_init 15 = .ok (.newarray .int, 2) := by decide +kernel
theorem dX0_init_17 : decode cX0_init 17 = .ok (.putfield 15, 3) := by decide +kernel
theorem dX0_init_20 : decode cX0_init 20 = .ok (.aload_n 0, 1) := by decide +kernel
theorem dX0_init_21 : decode cX0_init 21 = .ok (.bipush 20, 2) := by decide +kernel
theorem dX0_init_23 : decode cX0_init 23 = .ok (.anewarray 18, 3) := by decide +kernel
theorem dX0_init_26 : decode cX0_init 26 = .ok (.putfield 20, 3) := by decide +kernel
theorem dX0_init_29 : decode cX0_init 29 = .ok (.aload_n 0, 1) := by decide +kernel
theorem dX0_init_30 : decode cX0_init 30 = .ok (.bipush 100, 2) := by decide +kernel
theorem dX0_init_32 : decode cX0_init 32 = .ok (.putfield 24, 3) := by decide +kernel
theorem dX0_init_35 : decode cX0_init 35 = .ok (.iconst 0, 1) := by decide +kernel
theorem dX0_init_36 : decode cX0_init 36 = .ok (.istore_n 1, 1) := by decide +kernel
theorem dX0_init_37 : decode cX0_init 37 = .ok (.iload_n 1, 1) := by decide +kernel
theorem dX0_init_38 : decode cX0_init 38 = .ok (.bipush 20, 2) := by decide +kernel
theorem dX0_init_40 : decode cX0_init 40 = .ok (.if_icmp .ge 22, 3) := by decide +kernel
theorem dX0_init_43 : decode cX0_init 43 = .ok (.aload_n 0, 1) := by decide +kernel
theorem dX0_init_44 : decode cX0_init 44 = .ok (.getfield 20, 3) := by decide +kernel
theorem dX0_init_47 : decode cX0_init 47 = .ok (.iload_n 1, 1) := by decide +kernel
theorem dX0_init_48 : decode cX0_init 48 = .ok (.new 18, 3) := by decide +kernel
theorem dX0_init_51 : decode cX0_init 51 = .ok (.dup, 1) := by decide +kernel
theorem dX0_init_52 : decode cX0_init 52 = .ok (.invokespecial 28, 3) := by decide +kernel
theorem dX0_init_55 : decode cX0_init 55 = .ok (.aastore, 1) := by decide +kernel
theorem dX0_init_56 : decode cX0_init 56 = .ok (.iinc 1 1, 3) := by decide +kernel
theorem dX0_init_59 : decode cX0_init 59 = .ok (.goto (-22), 3) := by decide +kernel
theorem dX0_init_62 : decode cX0_init 62 = .ok (.return_, 1) := by decide +kernel
theorem dX0_copyFrom_0 : decode cX0_copyFrom 0 = .ok (.aload_n 1, 1) := by decide +kernel
theorem dX0_copyFrom_1 : decode cX0_copyFrom 1 = .ok (.getfield 9, 3) := by decide +kernel
theorem dX0_copyFrom_4 : decode cX0_copyFrom 4 = .ok (.iconst 0, 1) := by decide +kernel
theorem dX0_copyFrom_5 : decode cX0_copyFrom 5 = .ok (.aload_n 0, 1) := by decide +kernel
theorem dX0_copyFrom_6 : decode cX0_copyFrom 6 = .ok (.getfield 9, 3) := by decide +kernel
theorem dX0_copyFrom_9 : decode cX0_copyFrom 9 = .ok (.iconst 0, 1) := by decide +kernel
theorem dX0_copyFrom_10 : decode cX0_copyFrom 10 = .ok (.bipush 24, 2) := by decide +kernel
theorem dX0_copyFrom_12 : decode cX0_copyFrom 12 = .ok (.invokestatic 29, 3) := by decide +kernel
theorem dX0_copyFrom_15 : decode cX0_copyFrom 15 = .ok (.aload_n 1, 1) := by decide +kernel
theorem dX0_copyFrom_16 : decode cX0_copyFrom 16 = .ok (.getfield 15, 3) := by decide +kernel
theorem dX0_copyFrom_19 : decode cX0_copyFrom 19 = .ok (.iconst 0, 1) := by decide +kernel
theorem dX0_copyFrom_20 : decode cX0_copyFrom 20 = .ok (.aload_n 0, 1) := by decide +kernel
theorem dX0_copyFrom_21 : decode cX0_copyFrom 21 = .ok (.getfield 15, 3) := by decide +kernel
theorem dX0_copyFrom_24 : decode cX0_copyFrom 24 = .ok (.iconst 0, 1) := by decide +kernel
theorem dX0_copyFrom_25 : decode cX0_copyFrom 25 = .ok (.bipush 24, 2) := by decide +kernel
theorem dX0_copyFrom_27 : decode cX0_copyFrom 27 = .ok (.invokestatic 29, 3) := by decide +kernel
theorem dX0_copyFrom_30 : decode cX0_copyFrom 30 = .ok (.iconst 0, 1) := by decide +kernel
theorem dX0_copyFrom_31 : decode cX0_copyFrom 31 = .ok (.istore_n 2, 1) := by decide +kernel
theorem dX0_copyFrom_32 : decode cX0_copyFrom 32 = .ok (.iload_n 2, 1) := by decide +kernel
theorem dX0_copyFrom_33 : decode cX0_copyFrom 33 = .ok (.aload_n 1, 1) := by decide +kernel
theorem dX0_copyFrom_34 : decode cX0_copyFrom 34 = .ok (.getfield 35, 3) := by decide +kernel
theorem dX0_copyFrom_37 : decode cX0_copyFrom 37 = .ok (.if_icmp .ge 24, 3) := by decide +kernel
theorem dX0_copyFrom_40 : decode cX0_copyFrom 40 = .ok (.aload_n 0, 1) := by decide +kernel
theorem dX0_copyFrom_41 : decode cX0_copyFrom 41 = .ok (.getfield 20, 3) := by decide +kernel
theorem dX0_copyFrom_44 : decode cX0_copyFrom 44 = .ok (.iload_n 2, 1) := by decide +kernel
theorem dX0_copyFrom_45 : decode cX0_copyFrom 45 = .ok (.aaload, 1) := by decide +kernel
theorem dX0_copyFrom_46 : decode cX0_copyFrom 46 = .ok (.aload_n 1, 1) := by decide +kernel
theorem dX0_copyFrom_47 : decode cX0_copyFrom 47 = .ok (.getfield 20, 3) := by decide +kernel
theorem dX0_copyFrom_50 : decode cX0_copyFrom 50 = .ok (.iload_n 2, 1) := by decide +kernel
theorem dX0_copyFrom_51 : decode cX0_copyFrom 51 = .ok (.aaload, 1) := by decide +kernel
theorem dX0_copyFrom_52 : decode cX0_copyFrom 52 = .ok (.invokevirtual 38, 3) := by decide +kernel
theorem dX0_copyFrom_55 : decode cX0_copyFrom 55 = .ok (.iinc 2 1, 3) := by decide +kernel
theorem dX0_copyFrom_58 : decode cX0_copyFrom 58 = .ok (.goto (-26), 3) := by decide +kernel
theorem dX0_copyFrom_61 : decode cX0_copyFrom 61 = .ok (.aload_n 0, 1) := by decide +kernel
theorem dX0_copyFrom_62 : decode cX0_copyFrom 62 = .ok (.aload_n 1, 1) := by decide +kernel
theorem dX0_copyFrom_63 : decode cX0_copyFrom 63 = .ok (.getfield 35, 3) := by decide +kernel
theorem dX0_copyFrom_66 : decode cX0_copyFrom 66 = .ok (.putfield 35, 3) := by decide +kernel
theorem dX0_copyFrom_69 : decode cX0_copyFrom 69 = .ok (.aload_n 0, 1) := by decide +kernel
theorem dX0_copyFrom_70 : decode cX0_copyFrom 70 = .ok (.aload_n 1, 1) := by decide +kernel
theorem dX0_copyFrom_71 : decode cX0_copyFrom 71 = .ok (.getfield 42, 3) := by decide +kernel
theorem dX0_copyFrom_74 : decode cX0_copyFrom 74 = .ok (.putfield 42, 3) := by decide +kernel
theorem dX0_copyFrom_77 : decode cX0_copyFrom 77 = .ok (.aload_n 0, 1) := by decide +kernel
theorem dX0_copyFrom_78 : decode cX0_copyFrom 78 = .ok (.aload_n 1, 1) := by decide +kernel
theorem dX0_copyFrom_79 : decode cX0_copyFrom 79 = .ok (.getfield 45, 3) := by decide +kernel
theorem dX0_copyFrom_82 : decode cX0_copyFrom 82 = .ok (.putfield 45, 3) := by decide +kernel
theorem dX0_copyFrom_85 : decode cX0_copyFrom 85 = .ok (.aload_n 0, 1) := by decide +kernel
theorem dX0_copyFrom_86 : decode cX0_copyFrom 86 = .ok (.aload_n 1, 1) := by decide +kernel
theorem dX0_copyFrom_87 : decode cX0_copyFrom 87 = .ok (.getfield 24, 3) := by decide +kernel
theorem dX0_copyFrom_90 : decode cX0_copyFrom 90 = .ok (.putfield 24, 3) := by decide +kernel
theorem dX0_copyFrom_93 : decode cX0_copyFrom 93 = .ok (.aload_n 0, 1) := by decide +kernel
theorem dX0_copyFrom_94 : decode cX0_copyFrom 94 = .ok (.aload_n 1, 1) := by decide +kernel
theorem dX0_copyFrom_95 : decode cX0_copyFrom 95 = .ok (.getfield 48, 3) := by decide +kernel
theorem dX0_copyFrom_98 : decode cX0_copyFrom 98 = .ok (.putfield 48, 3) := by decide +kernel
theorem dX0_copyFrom_101 : decode cX0_copyFrom 101 = .ok (.aload_n 0, 1) := by decide +kernel
theorem dX0_copyFrom_102 : decode cX0_copyFrom 102 = .ok (.aload_n 1, 1) := by decide +kernel
theorem dX0_copyFrom_103 : decode cX0_copyFrom 103 = .ok (.getfield 51, 3) := by decide +kernel
theorem dX0_copyFrom_106 : decode cX0_copyFrom 106 = .ok (.putfield 51, 3) := by decide +kernel
theorem dX0_copyFrom_109 : decode cX0_copyFrom 109 = .ok (.aload_n 0, 1) := by decide +kernel
theorem dX0_copyFrom_110 : decode cX0_copyFrom 110 = .ok (.aload_n 1, 1) := by decide +kernel
theorem dX0_copyFrom_111 : decode cX0_copyFrom 111 = .ok (.getfield 54, 3) := by decide +kernel
theorem dX0_copyFrom_114 : decode cX0_copyFrom 114 = .ok (.putfield 54, 3) := by decide +kernel
theorem dX0_copyFrom_117 : decode cX0_copyFrom 117 = .ok (.aload_n 0, 1) := by decide +kernel
theorem dX0_copyFrom_118 : decode cX0_copyFrom 118 = .ok (.aload_n 1, 1) := by decide +kernel
theorem dX0_copyFrom_119 : decode cX0_copyFrom 119 = .ok (.getfield 57, 3) := by decide +kernel
theorem dX0_copyFrom_122 : decode cX0_copyFrom 122 = .ok (.putfield 57, 3) := by decide +kernel
theorem dX0_copyFrom_125 : decode cX0_copyFrom 125 = .ok (.aload_n 0, 1) := by decide +kernel
theorem dX0_copyFrom_126 : decode cX0_copyFrom 126 = .ok (.aload_n 1, 1) := by decide +kernel
theorem dX0_copyFrom_127 : decode cX0_copyFrom 127 = .ok (.getfield 60, 3) := by decide +kernel
theorem dX0_copyFrom_130 : decode cX0_copyFrom 130 = .ok (.putfield 60, 3) := by decide +kernel
theorem dX0_copyFrom_133 : decode cX0_copyFrom 133 = .ok (.aload_n 0, 1) := by decide +kernel
theorem dX0_copyFrom_134 : decode cX0_copyFrom 134 = .ok (.aload_n 1, 1) := by decide +kernel
theorem dX0_copyFrom_135 : decode cX0_copyFrom 135 = .ok (.getfield 63, 3) := by decide +kernel
theorem dX0_copyFrom_138 : decode cX0_copyFrom 138 = .ok (.putfield 63, 3) := by decide +kernel
theorem dX0_copyFrom_141 : decode cX0_copyFrom 141 = .ok (.return_, 1) := by decide +kernel
theorem dX0_archAt_0 : decode cX0_archAt 0 = .ok (.aload_n 0, 1) := by decide +kernel
theorem dX0_archAt_1 : decode cX0_archAt 1 = .ok (.getfield 20, 3) := by decide +kernel
theorem dX0_archAt_4 : decode cX0_archAt 4 = .ok (.iload_n 1, 1) := by decide +kernel
theorem dX0_archAt_5 : decode cX0_archAt 5 = .ok (.aaload, 1) := by decide +kernel
theorem dX0_archAt_6 : decode cX0_archAt 6 = .ok (.areturn, 1) := by decide +kernel
theorem dX0_mostHeightOfNext_0 : decode cX0_mostHeightOfNext 0 = .ok (.aload_n 0, 1) := by decide +kernel
theorem dX0_mostHeightOfNext_1 : decode cX0_mostHeightOfNext 1 = .ok (.getfield 35, 3) := by decide +kernel
theorem dX0_mostHeightOfNext_4 : decode cX0_mostHeightOfNext 4 = .ok (.ifCond .ne 9, 3) := by decide +kernel
theorem dX0_mostHeightOfNext_7 : decode cX0_mostHeightOfNext 7 = .ok (.sipush 200, 3) := by decide +kernel
theorem dX0_mostHeightOfNext_10 : decode cX0_mostHeightOfNext 10 = .ok (.goto 17, 3) := by decide +kernel
theorem dX0_mostHeightOfNext_13 : decode cX0_mostHeightOfNext 13 = .ok (.aload_n 0, 1) := by decide +kernel
theorem dX0_mostHeightOfNext_14 : decode cX0_mostHeightOfNext 14 = .ok (.getfield 20, 3) := by decide +kernel
theorem dX0_mostHeightOfNext_17 : decode cX0_mostHeightOfNext 17 = .ok (.aload_n 0, 1) := by decide +kernel
theorem dX0_mostHeightOfNext_18 : decode cX0_mostHeightOfNext 18 = .ok (.getfield 35, 3) := by decide +kernel
theorem dX0_mostHeightOfNext_21 : decode cX0_mostHeightOfNext 21 = .ok (.iconst 1, 1) := by decide +kernel
theorem dX0_mostHeightOfNext_22 : decode cX0_mostHeightOfNext 22 = .ok (.isub, 1) := by decide +kernel
theorem dX0_mostHeightOfNext_23 : decode cX0_mostHeightOfNext 23 = .ok (.aaload, 1) := by decide +kernel
theorem dX0_mostHeightOfNext_24 : decode cX0_mostHeightOfNext 24 = .ok (.getfield 66, 3) := by decide +kernel
theorem dX0_mostHeightOfNext_27 : decode cX0_mostHeightOfNext 27 = .ok (.ireturn, 1) := by decide +kernel
theorem dX0_addArch_0 : decode cX0_addArch 0 = .ok (.aload_n 0, 1) := by decide +kernel
theorem dX0_addArch_1 : decode cX0_addArch 1 = .ok (.getfield 35, 3) := by decide +kernel
theorem dX0_addArch_4 : decode cX0_addArch 4 = .ok (.istore_n 3, 1) := by decide +kernel
theorem dX0_addArch_5 : decode cX0_addArch 5 = .ok (.aload_n 0, 1) := by decide +kernel
theorem dX0_addArch_6 : decode cX0_addArch 6 = .ok (.getfield 20, 3) := by decide +kernel
theorem dX0_addArch_9 : decode cX0_addArch 9 = .ok (.iload_n 3, 1) := by decide +kernel
theorem dX0_addArch_10 : decode cX0_addArch 10 = .ok (.aaload, 1) := by decide +kernel
theorem dX0_addArch_11 : decode cX0_addArch 11 = .ok (.iload_n 1, 1) := by decide +kernel
theorem dX0_addArch_12 : decode cX0_addArch 12 = .ok (.putfield 66, 3) := by decide +kernel
theorem dX0_addArch_15 : decode cX0_addArch 15 = .ok (.aload_n 0, 1) := by decide +kernel
theorem dX0_addArch_16 : decode cX0_addArch 16 = .ok (.getfield 20, 3) := by decide +kernel
theorem dX0_addArch_19 : decode cX0_addArch 19 = .ok (.iload_n 3, 1) := by decide +kernel
theorem dX0_addArch_20 : decode cX0_addArch 20 = .ok (.aaload, 1) := by decide +kernel
theorem dX0_addArch_21 : decode cX0_addArch 21 = .ok (.iload_n 2, 1) := by decide +kernel
theorem dX0_addArch_22 : decode cX0_addArch 22 = .ok (.putfield 69, 3) := by decide +kernel
theorem dX0_addArch_25 : decode cX0_addArch 25 = .ok (.aload_n 0, 1) := by decide +kernel
theorem dX0_addArch_26 : decode cX0_addArch 26 = .ok (.dup, 1) := by decide +kernel
theorem dX0_addArch_27 : decode cX0_addArch 27 = .ok (.getfield 35, 3) := by decide +kernel
theorem dX0_addArch_30 : decode cX0_addArch 30 = .ok (.iconst 1, 1) := by decide +kernel
theorem dX0_addArch_31 : decode cX0_addArch 31 = .ok (.iadd, 1) := by decide +kernel
theorem dX0_addArch_32 : decode cX0_addArch 32 = .ok (.putfield 35, 3) := by decide +kernel
theorem dX0_addArch_35 : decode cX0_addArch 35 = .ok (.iload_n 3, 1) := by decide +kernel
theorem dX0_addArch_36 : decode cX0_addArch 36 = .ok (.ireturn, 1) := by decide +kernel
theorem dX0_resizeCistern_0 : decode cX0_resizeCistern 0 = .ok (.iconst 0, 1) := by decide +kernel
theorem dX0_resizeCistern_1 : decode cX0_resizeCistern 1 = .ok (.aload_n 0, 1) := by decide +kernel
theorem dX0_resizeCistern_2 : decode cX0_resizeCistern 2 = .ok (.getfield 48, 3) := by decide +kernel
theorem dX0_resizeCistern_5 : decode cX0_resizeCistern 5 = .ok (.iload_n 1, 1) := by decide +kernel
theorem dX0_resizeCistern_6 : decode cX0_resizeCistern 6 = .ok (.isub, 1) := by decide +kernel
theorem dX0_resizeCistern_7 : decode cX0_resizeCistern 7 = .ok (.invokestatic 72, 3) := by decide +kernel
theorem dX0_resizeCistern_10 : decode cX0_resizeCistern 10 = .ok (.istore_n 2, 1) := by decide +kernel
theorem dX0_resizeCistern_11 : decode cX0_resizeCistern 11 = .ok (.aload_n 0, 1) := by decide +kernel
theorem dX0_resizeCistern_12 : decode cX0_resizeCistern 12 = .ok (.iload_n 1, 1) := by decide +kernel
theorem dX0_resizeCistern_13 : decode cX0_resizeCistern 13 = .ok (.putfield 24, 3) := by decide +kernel
theorem dX0_resizeCistern_16 : decode cX0_resizeCistern 16 = .ok (.aload_n 0, 1) := by decide +kernel
theorem dX0_resizeCistern_17 : decode cX0_resizeCistern 17 = .ok (.dup, 1) := by decide +kernel
theorem dX0_resizeCistern_18 : decode cX0_resizeCistern 18 = .ok (.getfield 48, 3) := by decide +kernel
theorem dX0_resizeCistern_21 : decode cX0_resizeCistern 21 = .ok (.iload_n 2, 1) := by decide +kernel
theorem dX0_resizeCistern_22 : decode cX0_resizeCistern 22 = .ok (.isub, 1) := by decide +kernel
theorem dX0_resizeCistern_23 : decode cX0_resizeCistern 23 = .ok (.putfield 48, 3) := by decide +kernel
theorem dX0_resizeCistern_26 : decode cX0_resizeCistern 26 = .ok (.aload_n 0, 1) := by decide +kernel
theorem dX0_resizeCistern_27 : decode cX0_resizeCistern 27 = .ok (.dup, 1) := by decide +kernel
theorem dX0_resizeCistern_28 : decode cX0_resizeCistern 28 = .ok (.getfield 54, 3) := by decide +kernel
theorem dX0_resizeCistern_31 : decode cX0_resizeCistern 31 = .ok (.iload_n 2, 1) := by decide +kernel
theorem dX0_resizeCistern_32 : decode cX0_resizeCistern 32 = .ok (.iadd, 1) := by decide +kernel
theorem dX0_resizeCistern_33 : decode cX0_resizeCistern 33 = .ok (.putfield 54, 3) := by decide +kernel
theorem dX0_resizeCistern_36 : decode cX0_resizeCistern 36 = .ok (.iload_n 2, 1) := by decide +kernel
theorem dX0_resizeCistern_37 : decode cX0_resizeCistern 37 = .ok (.ireturn, 1) := by decide +kernel
theorem dX0_goOn_0 : decode cX0_goOn 0 = .ok (.iconst 0, 1) := by decide +kernel
theorem dX0_goOn_1 : decode cX0_goOn 1 = .ok (.istore_n 2, 1) := by decide +kernel
theorem dX0_goOn_2 : decode cX0_goOn 2 = .ok (.iload_n 2, 1) := by decide +kernel
theorem dX0_goOn_3 : decode cX0_goOn 3 = .ok (.iload_n 1, 1) := by decide +kernel
theorem dX0_goOn_4 : decode cX0_goOn 4 = .ok (.if_icmp .ge 13, 3) := by decide +kernel
theorem dX0_goOn_7 : decode cX0_goOn 7 = .ok (.aload_n 0, 1) := by decide +kernel
theorem dX0_goOn_8 : decode cX0_goOn 8 = .ok (.invokevirtual 78, 3) := by decide +kernel
theorem dX0_goOn_11 : decode cX0_goOn 11 = .ok (.iinc 2 1, 3) := by decide +kernel
theorem dX0_goOn_14 : decode cX0_goOn 14 = .ok (.goto (-12), 3) := by decide +kernel
theorem dX0_goOn_17 : decode cX0_goOn 17 = .ok (.return_, 1) := by decide +kernel
theorem dX0_goOnAnHour_0 : decode cX0_goOnAnHour 0 = .ok (.aload_n 0, 1) := by decide +kernel
theorem dX0_goOnAnHour_1 : decode cX0_goOnAnHour 1 = .ok (.getfield 42, 3) := by decide +kernel
theorem dX0_goOnAnHour_4 : decode cX0_goOnAnHour 4 = .ok (.bipush 24, 2) := by decide +kernel
theorem dX0_goOnAnHour_6 : decode cX0_goOnAnHour 6 = .ok (.invokestatic 81, 3) := by decide +kernel
theorem dX0_goOnAnHour_9 : decode cX0_goOnAnHour 9 = .ok (.istore_n 1, 1) := by decide +kernel
theorem dX0_goOnAnHour_10 : decode cX0_goOnAnHour 10 = .ok (.aload_n 0, 1) := by decide +kernel
theorem dX0_goOnAnHour_11 : decode cX0_goOnAnHour 11 = .ok (.aload_n 0, 1) := by decide +kernel
theorem dX0_goOnAnHour_12 : decode cX0_goOnAnHour 12 = .ok (.getfield 15, 3) := by decide +kernel
theorem dX0_goOnAnHour_15 : decode cX0_goOnAnHour 15 = .ok (.iload_n 1, 1) := by decide +kernel
theorem dX0_goOnAnHour_16 : decode cX0_goOnAnHour 16 = .ok (.iaload, 1) := by decide +kernel
theorem dX0_goOnAnHour_17 : decode cX0_goOnAnHour 17 = .ok (.invokevirtual 84, 3) := by decide +kernel
theorem dX0_goOnAnHour_20 : decode cX0_goOnAnHour 20 = .ok (.aload_n 0, 1) := by decide +kernel
theorem dX0_goOnAnHour_21 : decode cX0_goOnAnHour 21 = .ok (.getfield 35, 3) := by decide +kernel
theorem dX0_goOnAnHour_24 : decode cX0_goOnAnHour 24 = .ok (.iconst 1, 1) := by decide +kernel
theorem dX0_goOnAnHour_25 : decode cX0_goOnAnHour 25 = .ok (.isub, 1) := by decide +kernel
theorem dX0_goOnAnHour_26 : decode cX0_goOnAnHour 26 = .ok (.istore_n 2, 1) := by decide +kernel
theorem dX0_goOnAnHour_27 : decode cX0_goOnAnHour 27 = .ok (.iload_n 2, 1) := by decide +kernel
theorem dX0_goOnAnHour_28 : decode cX0_goOnAnHour 28 = .ok (.ifCond .lt 14, 3) := by decide +kernel
theorem dX0_goOnAnHour_31 : decode cX0_goOnAnHour 31 = .ok (.aload_n 0, 1) := by decide +kernel
theorem dX0_goOnAnHour_32 : decode cX0_goOnAnHour 32 = .ok (.iload_n 2, 1) := by decide +kernel
theorem dX0_goOnAnHour_33 : decode cX0_goOnAnHour 33 = .ok (.invokevirtual 88, 3) := by decide +kernel
theorem dX0_goOnAnHour_36 : decode cX0_goOnAnHour 36 = .ok (.iinc 2 (-1), 3) := by decide +kernel
theorem dX0_goOnAnHour_39 : decode cX0_goOnAnHour 39 = .ok (.goto (-12), 3) := by decide +kernel
theorem dX0_goOnAnHour_42 : decode cX0_goOnAnHour 42 = .ok (.iconst 0, 1) := by decide +kernel
theorem dX0_goOnAnHour_43 : decode cX0_goOnAnHour 43 = .ok (.istore_n 2, 1) := by decide +kernel
theorem dX0_goOnAnHour_44 : decode cX0_goOnAnHour 44 = .ok (.iload_n 2, 1) := by decide +kernel
theorem dX0_goOnAnHour_45 : decode cX0_goOnAnHour 45 = .ok (.aload_n 0, 1) := by decide +kernel
theorem dX0_goOnAnHour_46 : decode cX0_goOnAnHour 46 = .ok (.getfield 35, 3) := by decide +kernel
theorem dX0_goOnAnHour_49 : decode cX0_goOnAnHour 49 = .ok (.if_icmp .ge 14, 3) := by decide +kernel
theorem dX0_goOnAnHour_52 : decode cX0_goOnAnHour 52 = .ok (.aload_n 0, 1) := by decide +kernel
theorem dX0_goOnAnHour_53 : decode cX0_goOnAnHour 53 = .ok (.iload_n 2, 1) := by decide +kernel
theorem dX0_goOnAnHour_54 : decode cX0_goOnAnHour 54 = .ok (.invokevirtual 91, 3) := by decide +kernel
theorem dX0_goOnAnHour_57 : decode cX0_goOnAnHour 57 = .ok (.iinc 2 1, 3) := by decide +kernel
theorem dX0_goOnAnHour_60 : decode cX0_goOnAnHour 60 = .ok (.goto (-16), 3) := by decide +kernel
theorem dX0_goOnAnHour_63 : decode cX0_goOnAnHour 63 = .ok (.aload_n 0, 1) := by decide +kernel
theorem dX0_goOnAnHour_64 : decode cX0_goOnAnHour 64 = .ok (.aload_n 0, 1) := by decide +kernel
theorem dX0_goOnAnHour_65 : decode cX0_goOnAnHour 65 = .ok (.getfield 9, 3) := by decide +kernel
theorem dX0_goOnAnHour_68 : decode cX0_goOnAnHour 68 = .ok (.iload_n 1, 1) := by decide +kernel
theorem dX0_goOnAnHour_69 : decode cX0_goOnAnHour 69 = .ok (.iaload, 1) := by decide +kernel
theorem dX0_goOnAnHour_70 : decode cX0_goOnAnHour 70 = .ok (.invokevirtual 94, 3) := by decide +kernel
theorem dX0_goOnAnHour_73 : decode cX0_goOnAnHour 73 = .ok (.iconst 0, 1) := by decide +kernel
theorem dX0_goOnAnHour_74 : decode cX0_goOnAnHour 74 = .ok (.istore_n 2, 1) := by decide +kernel
theorem dX0_goOnAnHour_75 : decode cX0_goOnAnHour 75 = .ok (.iload_n 2, 1) := by decide +kernel
theorem dX0_goOnAnHour_76 : decode cX0_goOnAnHour 76 = .ok (.aload_n 0, 1) := by decide +kernel
theorem dX0_goOnAnHour_77 : decode cX0_goOnAnHour 77 = .ok (.getfield 35, 3) := by decide +kernel
theorem dX0_goOnAnHour_80 : decode cX0_goOnAnHour 80 = .ok (.if_icmp .ge 18, 3) := by decide +kernel
theorem dX0_goOnAnHour_83 : decode cX0_goOnAnHour 83 = .ok (.aload_n 0, 1) := by decide +kernel
theorem dX0_goOnAnHour_84 : decode cX0_goOnAnHour 84 = .ok (.getfield 20, 3) := by decide +kernel
theorem dX0_goOnAnHour_87 : decode cX0_goOnAnHour 87 = .ok (.iload_n 2, 1) := by decide +kernel
theorem dX0_goOnAnHour_88 : decode cX0_goOnAnHour 88 = .ok (.aaload, 1) := by decide +kernel
theorem dX0_goOnAnHour_89 : decode cX0_goOnAnHour 89 = .ok (.invokevirtual 97, 3) := by decide +kernel
theorem dX0_goOnAnHour_92 : decode cX0_goOnAnHour 92 = .ok (.iinc 2 1, 3) := by decide +kernel
theorem dX0_goOnAnHour_95 : decode cX0_goOnAnHour 95 = .ok (.goto (-20), 3) := by decide +kernel
theorem dX0_goOnAnHour_98 : decode cX0_goOnAnHour 98 = .ok (.iload_n 1, 1) := by decide +kernel
theorem dX0_goOnAnHour_99 : decode cX0_goOnAnHour 99 = .ok (.bipush 23, 2) := by decide +kernel
theorem dX0_goOnAnHour_101 : decode cX0_goOnAnHour 101 = .ok (.if_icmp .ne 7, 3) := by decide +kernel
theorem dX0_goOnAnHour_104 : decode cX0_goOnAnHour 104 = .ok (.aload_n 0, 1) := by decide +kernel
theorem dX0_goOnAnHour_105 : decode cX0_goOnAnHour 105 = .ok (.invokevirtual 100, 3) := by decide +kernel
theorem dX0_goOnAnHour_108 : decode cX0_goOnAnHour 108 = .ok (.aload_n 0, 1) := by decide +kernel
theorem dX0_goOnAnHour_109 : decode cX0_goOnAnHour 109 = .ok (.dup, 1) := by decide +kernel
theorem dX0_goOnAnHour_110 : decode cX0_goOnAnHour 110 = .ok (.getfield 42, 3) := by decide +kernel
theorem dX0_goOnAnHour_113 : decode cX0_goOnAnHour 113 = .ok (.iconst 1, 1) := by decide +kernel
theorem dX0_goOnAnHour_114 : decode cX0_goOnAnHour 114 = .ok (.iadd, 1) := by decide +kernel
theorem dX0_goOnAnHour_115 : decode cX0_goOnAnHour 115 = .ok (.putfield 42, 3) := by decide +kernel
theorem dX0_goOnAnHour_118 : decode cX0_goOnAnHour 118 = .ok (.return_, 1) := by decide +kernel
theorem dX0_letCityDrink_0 : decode cX0_letCityDrink 0 = .ok (.iload_n 1, 1) := by decide +kernel
theorem dX0_letCityDrink_1 : decode cX0_letCityDrink 1 = .ok (.aload_n 0, 1) := by decide +kernel
theorem dX0_letCityDrink_2 : decode cX0_letCityDrink 2 = .ok (.getfield 48, 3) := by decide +kernel
theorem dX0_letCityDrink_5 : decode cX0_letCityDrink 5 = .ok (.invokestatic 103, 3) := by decide +kernel
theorem dX0_letCityDrink_8 : decode cX0_letCityDrink 8 = .ok (.istore_n 2, 1) := by decide +kernel
theorem dX0_letCityDrink_9 : decode cX0_letCityDrink 9 = .ok (.aload_n 0, 1) := by decide +kernel
theorem dX0_letCityDrink_10 : decode cX0_letCityDrink 10 = .ok (.dup, 1) := by decide +kernel
theorem dX0_letCityDrink_11 : decode cX0_letCityDrink 11 = .ok (.getfield 48, 3) := by decide +kernel
theorem dX0_letCityDrink_14 : decode cX0_letCityDrink 14 = .ok (.iload_n 2, 1) := by decide +kernel
theorem dX0_letCityDrink_15 : decode cX0_letCityDrink 15 = .ok (.isub, 1) := by decide +kernel
theorem dX0_letCityDrink_16 : decode cX0_letCityDrink 16 = .ok (.putfield 48, 3) := by decide +kernel
theorem dX0_letCityDrink_19 : decode cX0_letCityDrink 19 = .ok (.aload_n 0, 1) := by decide +kernel
theorem dX0_letCityDrink_20 : decode cX0_letCityDrink 20 = .ok (.dup, 1) := by decide +kernel
theorem dX0_letCityDrink_21 : decode cX0_letCityDrink 21 = .ok (.getfield 60, 3) := by decide +kernel
theorem dX0_letCityDrink_24 : decode cX0_letCityDrink 24 = .ok (.iload_n 2, 1) := by decide +kernel
theorem dX0_letCityDrink_25 : decode cX0_letCityDrink 25 = .ok (.iadd, 1) := by decide +kernel
theorem dX0_letCityDrink_26 : decode cX0_letCityDrink 26 = .ok (.putfield 60, 3) := by decide +kernel
theorem dX0_letCityDrink_29 : decode cX0_letCityDrink 29 = .ok (.aload_n 0, 1) := by decide +kernel
theorem dX0_letCityDrink_30 : decode cX0_letCityDrink 30 = .ok (.dup, 1) := by decide +kernel
theorem dX0_letCityDrink_31 : decode cX0_letCityDrink 31 = .ok (.getfield 63, 3) := by decide +kernel
theorem dX0_letCityDrink_34 : decode cX0_letCityDrink 34 = .ok (.iload_n 1, 1) := by decide +kernel
theorem dX0_letCityDrink_35 : decode cX0_letCityDrink 35 = .ok (.iload_n 2, 1) := by decide +kernel
theorem dX0_letCityDrink_36 : decode cX0_letCityDrink 36 = .ok (.isub, 1) := by decide +kernel
theorem dX0_letCityDrink_37 : decode cX0_letCityDrink 37 = .ok (.iadd, 1) := by decide +kernel
theorem dX0_letCityDrink_38 : decode cX0_letCityDrink 38 = .ok (.putfield 63, 3) := by decide +kernel
theorem dX0_letCityDrink_41 : decode cX0_letCityDrink 41 = .ok (.return_, 1) := by decide +kernel
theorem dX0_sendOn_0 : decode cX0_sendOn 0 = .ok (.aload_n 0, 1) := by decide +kernel
theorem dX0_sendOn_1 : decode cX0_sendOn 1 = .ok (.getfield 20, 3) := by decide +kernel
theorem dX0_sendOn_4 : decode cX0_sendOn 4 = .ok (.iload_n 1, 1) := by decide +kernel
theorem dX0_sendOn_5 : decode cX0_sendOn 5 = .ok (.aaload, 1) := by decide +kernel
theorem dX0_sendOn_6 : decode cX0_sendOn 6 = .ok (.astore_n 2, 1) := by decide +kernel
theorem dX0_sendOn_7 : decode cX0_sendOn 7 = .ok (.aload_n 2, 1) := by decide +kernel
theorem dX0_sendOn_8 : decode cX0_sendOn 8 = .ok (.getfield 106, 3) := by decide +kernel
theorem dX0_sendOn_11 : decode cX0_sendOn 11 = .ok (.aload_n 0, 1) := by decide +kernel
theorem dX0_sendOn_12 : decode cX0_sendOn 12 = .ok (.iload_n 1, 1) := by decide +kernel
theorem dX0_sendOn_13 : decode cX0_sendOn 13 = .ok (.invokevirtual 109, 3) := by decide +kernel
theorem dX0_sendOn_16 : decode cX0_sendOn 16 = .ok (.invokestatic 103, 3) := by decide +kernel
theorem dX0_sendOn_19 : decode cX0_sendOn 19 = .ok (.istore_n 3, 1) := by decide +kernel
theorem dX0_sendOn_20 : decode cX0_sendOn 20 = .ok (.aload_n 2, 1) := by decide +kernel
theorem dX0_sendOn_21 : decode cX0_sendOn 21 = .ok (.iload_n 3, 1) := by decide +kernel
theorem dX0_sendOn_22 : decode cX0_sendOn 22 = .ok (.invokevirtual 113, 3) := by decide +kernel
theorem dX0_sendOn_25 : decode cX0_sendOn 25 = .ok (.istore 4, 2) := by decide +kernel
theorem dX0_sendOn_27 : decode cX0_sendOn 27 = .ok (.aload_n 2, 1) := by decide +kernel
theorem dX0_sendOn_28 : decode cX0_sendOn 28 = .ok (.dup, 1) := by decide +kernel
theorem dX0_sendOn_29 : decode cX0_sendOn 29 = .ok (.getfield 106, 3) := by decide +kernel
theorem dX0_sendOn_32 : decode cX0_sendOn 32 = .ok (.aload_n 0, 1) := by decide +kernel
theorem dX0_sendOn_33 : decode cX0_sendOn 33 = .ok (.iload_n 1, 1) := by decide +kernel
theorem dX0_sendOn_34 : decode cX0_sendOn 34 = .ok (.iconst 1, 1) := by decide +kernel
theorem dX0_sendOn_35 : decode cX0_sendOn 35 = .ok (.iadd, 1) := by decide +kernel
theorem dX0_sendOn_36 : decode cX0_sendOn 36 = .ok (.iload 4, 2) := by decide +kernel
theorem dX0_sendOn_38 : decode cX0_sendOn 38 = .ok (.invokevirtual 116, 3) := by decide +kernel
theorem dX0_sendOn_41 : decode cX0_sendOn 41 = .ok (.isub, 1) := by decide +kernel
theorem dX0_sendOn_42 : decode cX0_sendOn 42 = .ok (.putfield 106, 3) := by decide +kernel
theorem dX0_sendOn_45 : decode cX0_sendOn 45 = .ok (.return_, 1) := by decide +kernel
theorem dX0_grindAt_0 : decode cX0_grindAt 0 = .ok (.aload_n 0, 1) := by decide +kernel
theorem dX0_grindAt_1 : decode cX0_grindAt 1 = .ok (.getfield 20, 3) := by decide +kernel
theorem dX0_grindAt_4 : decode cX0_grindAt 4 = .ok (.iload_n 1, 1) := by decide +kernel
theorem dX0_grindAt_5 : decode cX0_grindAt 5 = .ok (.aaload, 1) := by decide +kernel
theorem dX0_grindAt_6 : decode cX0_grindAt 6 = .ok (.astore_n 2, 1) := by decide +kernel
theorem dX0_grindAt_7 : decode cX0_grindAt 7 = .ok (.aload_n 2, 1) := by decide +kernel
theorem dX0_grindAt_8 : decode cX0_grindAt 8 = .ok (.getfield 119, 3) := by decide +kernel
theorem dX0_grindAt_11 : decode cX0_grindAt 11 = .ok (.iconst 2, 1) := by decide +kernel
theorem dX0_grindAt_12 : decode cX0_grindAt 12 = .ok (.idiv, 1) := by decide +kernel
theorem dX0_grindAt_13 : decode cX0_grindAt 13 = .ok (.istore_n 3, 1) := by decide +kernel
theorem dX0_grindAt_14 : decode cX0_grindAt 14 = .ok (.aload_n 0, 1) := by decide +kernel
theorem dX0_grindAt_15 : decode cX0_grindAt 15 = .ok (.dup, 1) := by decide +kernel
theorem dX0_grindAt_16 : decode cX0_grindAt 16 = .ok (.getfield 45, 3) := by decide +kernel
theorem dX0_grindAt_19 : decode cX0_grindAt 19 = .ok (.aload_n 2, 1) := by decide +kernel
theorem dX0_grindAt_20 : decode cX0_grindAt 20 = .ok (.invokevirtual 122, 3) := by decide +kernel
theorem dX0_grindAt_23 : decode cX0_grindAt 23 = .ok (.iadd, 1) := by decide +kernel
theorem dX0_grindAt_24 : decode cX0_grindAt 24 = .ok (.putfield 45, 3) := by decide +kernel
theorem dX0_grindAt_27 : decode cX0_grindAt 27 = .ok (.aload_n 0, 1) := by decide +kernel
theorem dX0_grindAt_28 : decode cX0_grindAt 28 = .ok (.dup, 1) := by decide +kernel
theorem dX0_grindAt_29 : decode cX0_grindAt 29 = .ok (.getfield 54, 3) := by decide +kernel
theorem dX0_grindAt_32 : decode cX0_grindAt 32 = .ok (.iload_n 3, 1) := by decide +kernel
theorem dX0_grindAt_33 : decode cX0_grindAt 33 = .ok (.aload_n 0, 1) := by decide +kernel
theorem dX0_grindAt_34 : decode cX0_grindAt 34 = .ok (.iload_n 1, 1) := by decide +kernel
theorem dX0_grindAt_35 : decode cX0_grindAt 35 = .ok (.iconst 2, 1) := by decide +kernel
theorem dX0_grindAt_36 : decode cX0_grindAt 36 = .ok (.iadd, 1) := by decide +kernel
theorem dX0_grindAt_37 : decode cX0_grindAt 37 = .ok (.iload_n 3, 1) := by decide +kernel
theorem dX0_grindAt_38 : decode cX0_grindAt 38 = .ok (.invokevirtual 116, 3) := by decide +kernel
theorem dX0_grindAt_41 : decode cX0_grindAt 41 = .ok (.isub, 1) := by decide +kernel
theorem dX0_grindAt_42 : decode cX0_grindAt 42 = .ok (.iadd, 1) := by decide +kernel
theorem dX0_grindAt_43 : decode cX0_grindAt 43 = .ok (.putfield 54, 3) := by decide +kernel
theorem dX0_grindAt_46 : decode cX0_grindAt 46 = .ok (.aload_n 0, 1) := by decide +kernel
theorem dX0_grindAt_47 : decode cX0_grindAt 47 = .ok (.dup, 1) := by decide +kernel
theorem dX0_grindAt_48 : decode cX0_grindAt 48 = .ok (.getfield 57, 3) := by decide +kernel
theorem dX0_grindAt_51 : decode cX0_grindAt 51 = .ok (.aload_n 2, 1) := by decide +kernel
theorem dX0_grindAt_52 : decode cX0_grindAt 52 = .ok (.getfield 119, 3) := by decide +kernel
theorem dX0_grindAt_55 : decode cX0_grindAt 55 = .ok (.iload_n 3, 1) := by decide +kernel
theorem dX0_grindAt_56 : decode cX0_grindAt 56 = .ok (.isub, 1) := by decide +kernel
theorem dX0_grindAt_57 : decode cX0_grindAt 57 = .ok (.iadd, 1) := by decide +kernel
theorem dX0_grindAt_58 : decode cX0_grindAt 58 = .ok (.putfield 57, 3) := by decide +kernel
theorem dX0_grindAt_61 : decode cX0_grindAt 61 = .ok (.return_, 1) := by decide +kernel
theorem dX0_letSpringGive_0 : decode cX0_letSpringGive 0 = .ok (.aload_n 0, 1) := by decide +kernel
theorem dX0_letSpringGive_1 : decode cX0_letSpringGive 1 = .ok (.dup, 1) := by decide +kernel
theorem dX0_letSpringGive_2 : decode cX0_letSpringGive 2 = .ok (.getfield 51, 3) := by decide +kernel
theorem dX0_letSpringGive_5 : decode cX0_letSpringGive 5 = .ok (.iload_n 1, 1) := by decide +kernel
theorem dX0_letSpringGive_6 : decode cX0_letSpringGive 6 = .ok (.iadd, 1) := by decide +kernel
theorem dX0_letSpringGive_7 : decode cX0_letSpringGive 7 = .ok (.putfield 51, 3) := by decide +kernel
theorem dX0_letSpringGive_10 : decode cX0_letSpringGive 10 = .ok (.aload_n 0, 1) := by decide +kernel
theorem dX0_letSpringGive_11 : decode cX0_letSpringGive 11 = .ok (.getfield 35, 3) := by decide +kernel
theorem dX0_letSpringGive_14 : decode cX0_letSpringGive 14 = .ok (.ifCond .ne 7, 3) := by decide +kernel
theorem dX0_letSpringGive_17 : decode cX0_letSpringGive 17 = .ok (.iconst 0, 1) := by decide +kernel
theorem dX0_letSpringGive_18 : decode cX0_letSpringGive 18 = .ok (.goto 13, 3) := by decide +kernel
theorem dX0_letSpringGive_21 : decode cX0_letSpringGive 21 = .ok (.aload_n 0, 1) := by decide +kernel
theorem dX0_letSpringGive_22 : decode cX0_letSpringGive 22 = .ok (.getfield 20, 3) := by decide +kernel
theorem dX0_letSpringGive_25 : decode cX0_letSpringGive 25 = .ok (.iconst 0, 1) := by decide +kernel
theorem dX0_letSpringGive_26 : decode cX0_letSpringGive 26 = .ok (.aaload, 1) := by decide +kernel
theorem dX0_letSpringGive_27 : decode cX0_letSpringGive 27 = .ok (.iload_n 1, 1) := by decide +kernel
theorem dX0_letSpringGive_28 : decode cX0_letSpringGive 28 = .ok (.invokevirtual 126, 3) := by decide +kernel
theorem dX0_letSpringGive_31 : decode cX0_letSpringGive 31 = .ok (.istore_n 2, 1) := by decide +kernel
theorem dX0_letSpringGive_32 : decode cX0_letSpringGive 32 = .ok (.aload_n 0, 1) := by decide +kernel
theorem dX0_letSpringGive_33 : decode cX0_letSpringGive 33 = .ok (.dup, 1) := by decide +kernel
theorem dX0_letSpringGive_34 : decode cX0_letSpringGive 34 = .ok (.getfield 54, 3) := by decide +kernel
theorem dX0_letSpringGive_37 : decode cX0_letSpringGive 37 = .ok (.iload_n 1, 1) := by decide +kernel
theorem dX0_letSpringGive_38 : decode cX0_letSpringGive 38 = .ok (.iload_n 2, 1) := by decide +kernel
theorem dX0_letSpringGive_39 : decode cX0_letSpringGive 39 = .ok (.isub, 1) := by decide +kernel
theorem dX0_letSpringGive_40 : decode cX0_letSpringGive 40 = .ok (.iadd, 1) := by decide +kernel
theorem dX0_letSpringGive_41 : decode cX0_letSpringGive 41 = .ok (.putfield 54, 3) := by decide +kernel
theorem dX0_letSpringGive_44 : decode cX0_letSpringGive 44 = .ok (.return_, 1) := by decide +kernel
theorem dX0_wearAll_0 : decode cX0_wearAll 0 = .ok (.iconst 0, 1) := by decide +kernel
theorem dX0_wearAll_1 : decode cX0_wearAll 1 = .ok (.istore_n 1, 1) := by decide +kernel
theorem dX0_wearAll_2 : decode cX0_wearAll 2 = .ok (.iload_n 1, 1) := by decide +kernel
theorem dX0_wearAll_3 : decode cX0_wearAll 3 = .ok (.aload_n 0, 1) := by decide +kernel
theorem dX0_wearAll_4 : decode cX0_wearAll 4 = .ok (.getfield 35, 3) := by decide +kernel
theorem dX0_wearAll_7 : decode cX0_wearAll 7 = .ok (.if_icmp .ge 18, 3) := by decide +kernel
theorem dX0_wearAll_10 : decode cX0_wearAll 10 = .ok (.aload_n 0, 1) := by decide +kernel
theorem dX0_wearAll_11 : decode cX0_wearAll 11 = .ok (.getfield 20, 3) := by decide +kernel
theorem dX0_wearAll_14 : decode cX0_wearAll 14 = .ok (.iload_n 1, 1) := by decide +kernel
theorem dX0_wearAll_15 : decode cX0_wearAll 15 = .ok (.aaload, 1) := by decide +kernel
theorem dX0_wearAll_16 : decode cX0_wearAll 16 = .ok (.invokevirtual 129, 3) := by decide +kernel
theorem dX0_wearAll_19 : decode cX0_wearAll 19 = .ok (.iinc 1 1, 3) := by decide +kernel
theorem dX0_wearAll_22 : decode cX0_wearAll 22 = .ok (.goto (-20), 3) := by decide +kernel
theorem dX0_wearAll_25 : decode cX0_wearAll 25 = .ok (.return_, 1) := by decide +kernel
theorem dX0_pour_0 : decode cX0_pour 0 = .ok (.iload_n 1, 1) := by decide +kernel
theorem dX0_pour_1 : decode cX0_pour 1 = .ok (.aload_n 0, 1) := by decide +kernel
theorem dX0_pour_2 : decode cX0_pour 2 = .ok (.getfield 35, 3) := by decide +kernel
theorem dX0_pour_5 : decode cX0_pour 5 = .ok (.if_icmp .ge 14, 3) := by decide +kernel
theorem dX0_pour_8 : decode cX0_pour 8 = .ok (.aload_n 0, 1) := by decide +kernel
theorem dX0_pour_9 : decode cX0_pour 9 = .ok (.getfield 20, 3) := by decide +kernel
theorem dX0_pour_12 : decode cX0_pour 12 = .ok (.iload_n 1, 1) := by decide +kernel
theorem dX0_pour_13 : decode cX0_pour 13 = .ok (.aaload, 1) := by decide +kernel
theorem dX0_pour_14 : decode cX0_pour 14 = .ok (.iload_n 2, 1) := by decide +kernel
theorem dX0_pour_15 : decode cX0_pour 15 = .ok (.invokevirtual 126, 3) := by decide +kernel
theorem dX0_pour_18 : decode cX0_pour 18 = .ok (.ireturn, 1) := by decide +kernel
theorem dX0_pour_19 : decode cX0_pour 19 = .ok (.iload_n 2, 1) := by decide +kernel
theorem dX0_pour_20 : decode cX0_pour 20 = .ok (.aload_n 0, 1) := by decide +kernel
theorem dX0_pour_21 : decode cX0_pour 21 = .ok (.getfield 24, 3) := by decide +kernel
theorem dX0_pour_24 : decode cX0_pour 24 = .ok (.aload_n 0, 1) := by decide +kernel
theorem dX0_pour_25 : decode cX0_pour 25 = .ok (.getfield 48, 3) := by decide +kernel
theorem dX0_pour_28 : decode cX0_pour 28 = .ok (.isub, 1) := by decide +kernel
theorem dX0_pour_29 : decode cX0_pour 29 = .ok (.invokestatic 103, 3) := by decide +kernel
theorem dX0_pour_32 : decode cX0_pour 32 = .ok (.istore_n 3, 1) := by decide +kernel
theorem dX0_pour_33 : decode cX0_pour 33 = .ok (.aload_n 0, 1) := by decide +kernel
theorem dX0_pour_34 : decode cX0_pour 34 = .ok (.dup, 1) := by decide +kernel
theorem dX0_pour_35 : decode cX0_pour 35 = .ok (.getfield 48, 3) := by decide +kernel
theorem dX0_pour_38 : decode cX0_pour 38 = .ok (.iload_n 3, 1) := by decide +kernel
theorem dX0_pour_39 : decode cX0_pour 39 = .ok (.iadd, 1) := by decide +kernel
theorem dX0_pour_40 : decode cX0_pour 40 = .ok (.putfield 48, 3) := by decide +kernel
theorem dX0_pour_43 : decode cX0_pour 43 = .ok (.iload_n 3, 1) := by decide +kernel
theorem dX0_pour_44 : decode cX0_pour 44 = .ok (.ireturn, 1) := by decide +kernel
theorem dX0_slope_0 : decode cX0_slope 0 = .ok (.iload_n 1, 1) := by decide +kernel
theorem dX0_slope_1 : decode cX0_slope 1 = .ok (.iconst 1, 1) := by decide +kernel
theorem dX0_slope_2 : decode cX0_slope 2 = .ok (.iadd, 1) := by decide +kernel
theorem dX0_slope_3 : decode cX0_slope 3 = .ok (.aload_n 0, 1) := by decide +kernel
theorem dX0_slope_4 : decode cX0_slope 4 = .ok (.getfield 35, 3) := by decide +kernel
theorem dX0_slope_7 : decode cX0_slope 7 = .ok (.if_icmp .ge 17, 3) := by decide +kernel
theorem dX0_slope_10 : decode cX0_slope 10 = .ok (.aload_n 0, 1) := by decide +kernel
theorem dX0_slope_11 : decode cX0_slope 11 = .ok (.getfield 20, 3) := by decide +kernel
theorem dX0_slope_14 : decode cX0_slope 14 = .ok (.iload_n 1, 1) := by decide +kernel
theorem dX0_slope_15 : decode cX0_slope 15 = .ok (.iconst 1, 1) := by decide +kernel
theorem dX0_slope_16 : decode cX0_slope 16 = .ok (.iadd, 1) := by decide +kernel
theorem dX0_slope_17 : decode cX0_slope 17 = .ok (.aaload, 1) := by decide +kernel
theorem dX0_slope_18 : decode cX0_slope 18 = .ok (.getfield 66, 3) := by decide +kernel
theorem dX0_slope_21 : decode cX0_slope 21 = .ok (.goto 4, 3) := by decide +kernel
theorem dX0_slope_24 : decode cX0_slope 24 = .ok (.iconst 0, 1) := by decide +kernel
theorem dX0_slope_25 : decode cX0_slope 25 = .ok (.istore_n 2, 1) := by decide +kernel
theorem dX0_slope_26 : decode cX0_slope 26 = .ok (.aload_n 0, 1) := by decide +kernel
theorem dX0_slope_27 : decode cX0_slope 27 = .ok (.getfield 20, 3) := by decide +kernel
theorem dX0_slope_30 : decode cX0_slope 30 = .ok (.iload_n 1, 1) := by decide +kernel
theorem dX0_slope_31 : decode cX0_slope 31 = .ok (.aaload, 1) := by decide +kernel
theorem dX0_slope_32 : decode cX0_slope 32 = .ok (.getfield 66, 3) := by decide +kernel
theorem dX0_slope_35 : decode cX0_slope 35 = .ok (.iload_n 2, 1) := by decide +kernel
theorem dX0_slope_36 : decode cX0_slope 36 = .ok (.isub, 1) := by decide +kernel
theorem dX0_slope_37 : decode cX0_slope 37 = .ok (.ireturn, 1) := by decide +kernel
theorem dX0_rate_0 : decode cX0_rate 0 = .ok (.bipush 30, 2) := by decide +kernel
theorem dX0_rate_2 : decode cX0_rate 2 = .ok (.iconst 2, 1) := by decide +kernel
theorem dX0_rate_3 : decode cX0_rate 3 = .ok (.aload_n 0, 1) := by decide +kernel
theorem dX0_rate_4 : decode cX0_rate 4 = .ok (.iload_n 1, 1) := by decide +kernel
theorem dX0_rate_5 : decode cX0_rate 5 = .ok (.invokevirtual 132, 3) := by decide +kernel
theorem dX0_rate_8 : decode cX0_rate 8 = .ok (.iadd, 1) := by decide +kernel
theorem dX0_rate_9 : decode cX0_rate 9 = .ok (.invokestatic 103, 3) := by decide +kernel
theorem dX0_rate_12 : decode cX0_rate 12 = .ok (.ireturn, 1) := by decide +kernel
theorem dX0_mills_0 : decode cX0_mills 0 = .ok (.iconst 0, 1) := by decide +kernel
theorem dX0_mills_1 : decode cX0_mills 1 = .ok (.istore_n 1, 1) := by decide +kernel
theorem dX0_mills_2 : decode cX0_mills 2 = .ok (.iconst 0, 1) := by decide +kernel
theorem dX0_mills_3 : decode cX0_mills 3 = .ok (.istore_n 2, 1) := by decide +kernel
theorem dX0_mills_4 : decode cX0_mills 4 = .ok (.iload_n 2, 1) := by decide +kernel
theorem dX0_mills_5 : decode cX0_mills 5 = .ok (.aload_n 0, 1) := by decide +kernel
theorem dX0_mills_6 : decode cX0_mills 6 = .ok (.getfield 35, 3) := by decide +kernel
theorem dX0_mills_9 : decode cX0_mills 9 = .ok (.if_icmp .ge 29, 3) := by decide +kernel
theorem dX0_mills_12 : decode cX0_mills 12 = .ok (.iload_n 1, 1) := by decide +kernel
theorem dX0_mills_13 : decode cX0_mills 13 = .ok (.aload_n 0, 1) := by decide +kernel
theorem dX0_mills_14 : decode cX0_mills 14 = .ok (.getfield 20, 3) := by decide +kernel
theorem dX0_mills_17 : decode cX0_mills 17 = .ok (.iload_n 2, 1) := by decide +kernel
theorem dX0_mills_18 : decode cX0_mills 18 = .ok (.aaload, 1) := by decide +kernel
theorem dX0_mills_19 : decode cX0_mills 19 = .ok (.invokevirtual 135, 3) := by decide +kernel
theorem dX0_mills_22 : decode cX0_mills 22 = .ok (.ifCond .eq 7, 3) := by decide +kernel
theorem dX0_mills_25 : decode cX0_mills 25 = .ok (.iconst 1, 1) := by decide +kernel
theorem dX0_mills_26 : decode cX0_mills 26 = .ok (.goto 4, 3) := by decide +kernel
theorem dX0_mills_29 : decode cX0_mills 29 = .ok (.iconst 0, 1) := by decide +kernel
theorem dX0_mills_30 : decode cX0_mills 30 = .ok (.iadd, 1) := by decide +kernel
theorem dX0_mills_31 : decode cX0_mills 31 = .ok (.istore_n 1, 1) := by decide +kernel
theorem dX0_mills_32 : decode cX0_mills 32 = .ok (.iinc 2 1, 3) := by decide +kernel
theorem dX0_mills_35 : decode cX0_mills 35 = .ok (.goto (-31), 3) := by decide +kernel
theorem dX0_mills_38 : decode cX0_mills 38 = .ok (.iload_n 1, 1) := by decide +kernel
theorem dX0_mills_39 : decode cX0_mills 39 = .ok (.ireturn, 1) := by decide +kernel
theorem dX0_water_0 : decode cX0_water 0 = .ok (.iconst 0, 1) := by decide +kernel
theorem dX0_water_1 : decode cX0_water 1 = .ok (.istore_n 1, 1) := by decide +kernel
theorem dX0_water_2 : decode cX0_water 2 = .ok (.iconst 0, 1) := by decide +kernel
theorem dX0_water_3 : decode cX0_water 3 = .ok (.istore_n 2, 1) := by decide +kernel
theorem dX0_water_4 : decode cX0_water 4 = .ok (.iload_n 2, 1) := by decide +kernel
theorem dX0_water_5 : decode cX0_water 5 = .ok (.aload_n 0, 1) := by decide +kernel
theorem dX0_water_6 : decode cX0_water 6 = .ok (.getfield 35, 3) := by decide +kernel
theorem dX0_water_9 : decode cX0_water 9 = .ok (.if_icmp .ge 21, 3) := by decide +kernel
theorem dX0_water_12 : decode cX0_water 12 = .ok (.iload_n 1, 1) := by decide +kernel
theorem dX0_water_13 : decode cX0_water 13 = .ok (.aload_n 0, 1) := by decide +kernel
theorem dX0_water_14 : decode cX0_water 14 = .ok (.getfield 20, 3) := by decide +kernel
theorem dX0_water_17 : decode cX0_water 17 = .ok (.iload_n 2, 1) := by decide +kernel
theorem dX0_water_18 : decode cX0_water 18 = .ok (.aaload, 1) := by decide +kernel
theorem dX0_water_19 : decode cX0_water 19 = .ok (.getfield 106, 3) := by decide +kernel
theorem dX0_water_22 : decode cX0_water 22 = .ok (.iadd, 1) := by decide +kernel
theorem dX0_water_23 : decode cX0_water 23 = .ok (.istore_n 1, 1) := by decide +kernel
theorem dX0_water_24 : decode cX0_water 24 = .ok (.iinc 2 1, 3) := by decide +kernel
theorem dX0_water_27 : decode cX0_water 27 = .ok (.goto (-23), 3) := by decide +kernel
theorem dX0_water_30 : decode cX0_water 30 = .ok (.iload_n 1, 1) := by decide +kernel
theorem dX0_water_31 : decode cX0_water 31 = .ok (.ireturn, 1) := by decide +kernel
theorem dX0_leaked_0 : decode cX0_leaked 0 = .ok (.iconst 0, 1) := by decide +kernel
theorem dX0_leaked_1 : decode cX0_leaked 1 = .ok (.istore_n 1, 1) := by decide +kernel
theorem dX0_leaked_2 : decode cX0_leaked 2 = .ok (.iconst 0, 1) := by decide +kernel
theorem dX0_leaked_3 : decode cX0_leaked 3 = .ok (.istore_n 2, 1) := by decide +kernel
theorem dX0_leaked_4 : decode cX0_leaked 4 = .ok (.iload_n 2, 1) := by decide +kernel
theorem dX0_leaked_5 : decode cX0_leaked 5 = .ok (.aload_n 0, 1) := by decide +kernel
theorem dX0_leaked_6 : decode cX0_leaked 6 = .ok (.getfield 35, 3) := by decide +kernel
theorem dX0_leaked_9 : decode cX0_leaked 9 = .ok (.if_icmp .ge 21, 3) := by decide +kernel
theorem dX0_leaked_12 : decode cX0_leaked 12 = .ok (.iload_n 1, 1) := by decide +kernel
theorem dX0_leaked_13 : decode cX0_leaked 13 = .ok (.aload_n 0, 1) := by decide +kernel
theorem dX0_leaked_14 : decode cX0_leaked 14 = .ok (.getfield 20, 3) := by decide +kernel
theorem dX0_leaked_17 : decode cX0_leaked 17 = .ok (.iload_n 2, 1) := by decide +kernel
theorem dX0_leaked_18 : decode cX0_leaked 18 = .ok (.aaload, 1) := by decide +kernel
theorem dX0_leaked_19 : decode cX0_leaked 19 = .ok (.getfield 139, 3) := by decide +kernel
theorem dX0_leaked_22 : decode cX0_leaked 22 = .ok (.iadd, 1) := by decide +kernel
theorem dX0_leaked_23 : decode cX0_leaked 23 = .ok (.istore_n 1, 1) := by decide +kernel
theorem dX0_leaked_24 : decode cX0_leaked 24 = .ok (.iinc 2 1, 3) := by decide +kernel
theorem dX0_leaked_27 : decode cX0_leaked 27 = .ok (.goto (-23), 3) := by decide +kernel
theorem dX0_leaked_30 : decode cX0_leaked 30 = .ok (.iload_n 1, 1) := by decide +kernel
theorem dX0_leaked_31 : decode cX0_leaked 31 = .ok (.ireturn, 1) := by decide +kernel
theorem dX0_flour_0 : decode cX0_flour 0 = .ok (.iconst 0, 1) := by decide +kernel
theorem dX0_flour_1 : decode cX0_flour 1 = .ok (.istore_n 1, 1) := by decide +kernel
theorem dX0_flour_2 : decode cX0_flour 2 = .ok (.iconst 0, 1) := by decide +kernel
theorem dX0_flour_3 : decode cX0_flour 3 = .ok (.istore_n 2, 1) := by decide +kernel
theorem dX0_flour_4 : decode cX0_flour 4 = .ok (.iload_n 2, 1) := by decide +kernel
theorem dX0_flour_5 : decode cX0_flour 5 = .ok (.aload_n 0, 1) := by decide +kernel
theorem dX0_flour_6 : decode cX0_flour 6 = .ok (.getfield 35, 3) := by decide +kernel
theorem dX0_flour_9 : decode cX0_flour 9 = .ok (.if_icmp .ge 21, 3) := by decide +kernel
theorem dX0_flour_12 : decode cX0_flour 12 = .ok (.iload_n 1, 1) := by decide +kernel
theorem dX0_flour_13 : decode cX0_flour 13 = .ok (.aload_n 0, 1) := by decide +kernel
theorem dX0_flour_14 : decode cX0_flour 14 = .ok (.getfield 20, 3) := by decide +kernel
theorem dX0_flour_17 : decode cX0_flour 17 = .ok (.iload_n 2, 1) := by decide +kernel
theorem dX0_flour_18 : decode cX0_flour 18 = .ok (.aaload, 1) := by decide +kernel
theorem dX0_flour_19 : decode cX0_flour 19 = .ok (.getfield 142, 3) := by decide +kernel
theorem dX0_flour_22 : decode cX0_flour 22 = .ok (.iadd, 1) := by decide +kernel
theorem dX0_flour_23 : decode cX0_flour 23 = .ok (.istore_n 1, 1) := by decide +kernel
theorem dX0_flour_24 : decode cX0_flour 24 = .ok (.iinc 2 1, 3) := by decide +kernel
theorem dX0_flour_27 : decode cX0_flour 27 = .ok (.goto (-23), 3) := by decide +kernel
theorem dX0_flour_30 : decode cX0_flour 30 = .ok (.iload_n 1, 1) := by decide +kernel
theorem dX0_flour_31 : decode cX0_flour 31 = .ok (.ireturn, 1) := by decide +kernel
theorem dX0_archNumber_0 : decode cX0_archNumber 0 = .ok (.aload_n 0, 1) := by decide +kernel
theorem dX0_archNumber_1 : decode cX0_archNumber 1 = .ok (.getfield 20, 3) := by decide +kernel
theorem dX0_archNumber_4 : decode cX0_archNumber 4 = .ok (.iload_n 1, 1) := by decide +kernel
theorem dX0_archNumber_5 : decode cX0_archNumber 5 = .ok (.aaload, 1) := by decide +kernel
theorem dX0_archNumber_6 : decode cX0_archNumber 6 = .ok (.astore_n 3, 1) := by decide +kernel
theorem dX0_archNumber_7 : decode cX0_archNumber 7 = .ok (.iload_n 2, 1) := by decide +kernel
theorem dX0_archNumber_8 : decode cX0_archNumber 8 = .ok (.tableswitch 90 0 7 #[48, 53, 58, 63, 68, 73, 79, 85], 48) := by decide +kernel
theorem dX0_archNumber_56 : decode cX0_archNumber 56 = .ok (.aload_n 3, 1) := by decide +kernel
theorem dX0_archNumber_57 : decode cX0_archNumber 57 = .ok (.getfield 66, 3) := by decide +kernel
theorem dX0_archNumber_60 : decode cX0_archNumber 60 = .ok (.ireturn, 1) := by decide +kernel
theorem dX0_archNumber_61 : decode cX0_archNumber 61 = .ok (.aload_n 3, 1) := by decide +kernel
theorem dX0_archNumber_62 : decode cX0_archNumber 62 = .ok (.getfield 69, 3) := by decide +kernel
theorem dX0_archNumber_65 : decode cX0_archNumber 65 = .ok (.ireturn, 1) := by decide +kernel
theorem dX0_archNumber_66 : decode cX0_archNumber 66 = .ok (.aload_n 3, 1) := by decide +kernel
theorem dX0_archNumber_67 : decode cX0_archNumber 67 = .ok (.getfield 106, 3) := by decide +kernel
theorem dX0_archNumber_70 : decode cX0_archNumber 70 = .ok (.ireturn, 1) := by decide +kernel
theorem dX0_archNumber_71 : decode cX0_archNumber 71 = .ok (.aload_n 3, 1) := by decide +kernel
theorem dX0_archNumber_72 : decode cX0_archNumber 72 = .ok (.getfield 145, 3) := by decide +kernel
theorem dX0_archNumber_75 : decode cX0_archNumber 75 = .ok (.ireturn, 1) := by decide +kernel
theorem dX0_archNumber_76 : decode cX0_archNumber 76 = .ok (.aload_n 3, 1) := by decide +kernel
theorem dX0_archNumber_77 : decode cX0_archNumber 77 = .ok (.getfield 148, 3) := by decide +kernel
theorem dX0_archNumber_80 : decode cX0_archNumber 80 = .ok (.ireturn, 1) := by decide +kernel
theorem dX0_archNumber_81 : decode cX0_archNumber 81 = .ok (.aload_n 0, 1) := by decide +kernel
theorem dX0_archNumber_82 : decode cX0_archNumber 82 = .ok (.iload_n 1, 1) := by decide +kernel
theorem dX0_archNumber_83 : decode cX0_archNumber 83 = .ok (.invokevirtual 132, 3) := by decide +kernel
theorem dX0_archNumber_86 : decode cX0_archNumber 86 = .ok (.ireturn, 1) := by decide +kernel
theorem dX0_archNumber_87 : decode cX0_archNumber 87 = .ok (.aload_n 0, 1) := by decide +kernel
theorem dX0_archNumber_88 : decode cX0_archNumber 88 = .ok (.iload_n 1, 1) := by decide +kernel
theorem dX0_archNumber_89 : decode cX0_archNumber 89 = .ok (.invokevirtual 109, 3) := by decide +kernel
theorem dX0_archNumber_92 : decode cX0_archNumber 92 = .ok (.ireturn, 1) := by decide +kernel
theorem dX0_archNumber_93 : decode cX0_archNumber 93 = .ok (.aload_n 3, 1) := by decide +kernel
theorem dX0_archNumber_94 : decode cX0_archNumber 94 = .ok (.getfield 139, 3) := by decide +kernel
theorem dX0_archNumber_97 : decode cX0_archNumber 97 = .ok (.ireturn, 1) := by decide +kernel
theorem dX0_archNumber_98 : decode cX0_archNumber 98 = .ok (.aload_n 3, 1) := by decide +kernel
theorem dX0_archNumber_99 : decode cX0_archNumber 99 = .ok (.invokevirtual 135, 3) := by decide +kernel
theorem dX0_archNumber_102 : decode cX0_archNumber 102 = .ok (.ifCond .eq 7, 3) := by decide +kernel
theorem dX0_archNumber_105 : decode cX0_archNumber 105 = .ok (.iconst 1, 1) := by decide +kernel
theorem dX0_archNumber_106 : decode cX0_archNumber 106 = .ok (.goto 4, 3) := by decide +kernel
theorem dX0_archNumber_109 : decode cX0_archNumber 109 = .ok (.iconst 0, 1) := by decide +kernel
theorem dX0_archNumber_110 : decode cX0_archNumber 110 = .ok (.ireturn, 1) := by decide +kernel
theorem dX0_countNumber_0 : decode cX0_countNumber 0 = .ok (.iload_n 1, 1) := by decide +kernel
theorem dX0_countNumber_1 : decode cX0_countNumber 1 = .ok (.tableswitch 114 0 10 #[59, 64, 69, 74, 79, 84, 89, 94, 99, 104, 109], 59) := by decide +kernel
theorem dX0_countNumber_60 : decode cX0_countNumber 60 = .ok (.aload_n 0, 1) := by decide +kernel
theorem dX0_countNumber_61 : decode cX0_countNumber 61 = .ok (.getfield 42, 3) := by decide +kernel
theorem dX0_countNumber_64 : decode cX0_countNumber 64 = .ok (.ireturn, 1) := by decide +kernel
theorem dX0_countNumber_65 : decode cX0_countNumber 65 = .ok (.aload_n 0, 1) := by decide +kernel
theorem dX0_countNumber_66 : decode cX0_countNumber 66 = .ok (.getfield 35, 3) := by decide +kernel
theorem dX0_countNumber_69 : decode cX0_countNumber 69 = .ok (.ireturn, 1) := by decide +kernel
theorem dX0_countNumber_70 : decode cX0_countNumber 70 = .ok (.aload_n 0, 1) := by decide +kernel
theorem dX0_countNumber_71 : decode cX0_countNumber 71 = .ok (.invokevirtual 151, 3) := by decide +kernel
theorem dX0_countNumber_74 : decode cX0_countNumber 74 = .ok (.ireturn, 1) := by decide +kernel
theorem dX0_countNumber_75 : decode cX0_countNumber 75 = .ok (.aload_n 0, 1) := by decide +kernel
theorem dX0_countNumber_76 : decode cX0_countNumber 76 = .ok (.getfield 45, 3) := by decide +kernel
theorem dX0_countNumber_79 : decode cX0_countNumber 79 = .ok (.ireturn, 1) := by decide +kernel
theorem dX0_countNumber_80 : decode cX0_countNumber 80 = .ok (.aload_n 0, 1) := by decide +kernel
theorem dX0_countNumber_81 : decode cX0_countNumber 81 = .ok (.getfield 48, 3) := by decide +kernel
theorem dX0_countNumber_84 : decode cX0_countNumber 84 = .ok (.ireturn, 1) := by decide +kernel
theorem dX0_countNumber_85 : decode cX0_countNumber 85 = .ok (.aload_n 0, 1) := by decide +kernel
theorem dX0_countNumber_86 : decode cX0_countNumber 86 = .ok (.invokevirtual 154, 3) := by decide +kernel
theorem dX0_countNumber_89 : decode cX0_countNumber 89 = .ok (.ireturn, 1) := by decide +kernel
theorem dX0_countNumber_90 : decode cX0_countNumber 90 = .ok (.aload_n 0, 1) := by decide +kernel
theorem dX0_countNumber_91 : decode cX0_countNumber 91 = .ok (.getfield 51, 3) := by decide +kernel
theorem dX0_countNumber_94 : decode cX0_countNumber 94 = .ok (.ireturn, 1) := by decide +kernel
theorem dX0_countNumber_95 : decode cX0_countNumber 95 = .ok (.aload_n 0, 1) := by decide +kernel
theorem dX0_countNumber_96 : decode cX0_countNumber 96 = .ok (.getfield 54, 3) := by decide +kernel
theorem dX0_countNumber_99 : decode cX0_countNumber 99 = .ok (.ireturn, 1) := by decide +kernel
theorem dX0_countNumber_100 : decode cX0_countNumber 100 = .ok (.aload_n 0, 1) := by decide +kernel
theorem dX0_countNumber_101 : decode cX0_countNumber 101 = .ok (.invokevirtual 156, 3) := by decide +kernel
theorem dX0_countNumber_104 : decode cX0_countNumber 104 = .ok (.ireturn, 1) := by decide +kernel
theorem dX0_countNumber_105 : decode cX0_countNumber 105 = .ok (.aload_n 0, 1) := by decide +kernel
theorem dX0_countNumber_106 : decode cX0_countNumber 106 = .ok (.getfield 57, 3) := by decide +kernel
theorem dX0_countNumber_109 : decode cX0_countNumber 109 = .ok (.ireturn, 1) := by decide +kernel
theorem dX0_countNumber_110 : decode cX0_countNumber 110 = .ok (.aload_n 0, 1) := by decide +kernel
theorem dX0_countNumber_111 : decode cX0_countNumber 111 = .ok (.getfield 60, 3) := by decide +kernel
theorem dX0_countNumber_114 : decode cX0_countNumber 114 = .ok (.ireturn, 1) := by decide +kernel
theorem dX0_countNumber_115 : decode cX0_countNumber 115 = .ok (.aload_n 0, 1) := by decide +kernel
theorem dX0_countNumber_116 : decode cX0_countNumber 116 = .ok (.getfield 63, 3) := by decide +kernel
theorem dX0_countNumber_119 : decode cX0_countNumber 119 = .ok (.ireturn, 1) := by decide +kernel
theorem dX1_init_0 : decode cX1_init 0 = .ok (.aload_n 0, 1) := by decide +kernel
theorem dX1_init_1 : decode cX1_init 1 = .ok (.invokespecial 3, 3) := by decide +kernel
theorem dX1_init_4 : decode cX1_init 4 = .ok (.return_, 1) := by decide +kernel
theorem dX1_copyFrom_0 : decode cX1_copyFrom 0 = .ok (.aload_n 0, 1) := by decide +kernel
theorem dX1_copyFrom_1 : decode cX1_copyFrom 1 = .ok (.aload_n 1, 1) := by decide +kernel
theorem dX1_copyFrom_2 : decode cX1_copyFrom 2 = .ok (.getfield 9, 3) := by decide +kernel
theorem dX1_copyFrom_5 : decode cX1_copyFrom 5 = .ok (.putfield 9, 3) := by decide +kernel
theorem dX1_copyFrom_8 : decode cX1_copyFrom 8 = .ok (.aload_n 0, 1) := by decide +kernel
theorem dX1_copyFrom_9 : decode cX1_copyFrom 9 = .ok (.aload_n 1, 1) := by decide +kernel
theorem dX1_copyFrom_10 : decode cX1_copyFrom 10 = .ok (.getfield 15, 3) := by decide +kernel
theorem dX1_copyFrom_13 : decode cX1_copyFrom 13 = .ok (.putfield 15, 3) := by decide +kernel
theorem dX1_copyFrom_16 : decode cX1_copyFrom 16 = .ok (.aload_n 0, 1) := by decide +kernel
theorem dX1_copyFrom_17 : decode cX1_copyFrom 17 = .ok (.aload_n 1, 1) := by decide +kernel
theorem dX1_copyFrom_18 : decode cX1_copyFrom 18 = .ok (.getfield 18, 3) := by decide +kernel
theorem dX1_copyFrom_21 : decode cX1_copyFrom 21 = .ok (.putfield 18, 3) := by decide +kernel
theorem dX1_copyFrom_24 : decode cX1_copyFrom 24 = .ok (.aload_n 0, 1) := by decide +kernel
theorem dX1_copyFrom_25 : decode cX1_copyFrom 25 = .ok (.aload_n 1, 1) := by decide +kernel
theorem dX1_copyFrom_26 : decode cX1_copyFrom 26 = .ok (.getfield 21, 3) := by decide +kernel
theorem dX1_copyFrom_29 : decode cX1_copyFrom 29 = .ok (.putfield 21, 3) := by decide +kernel
theorem dX1_copyFrom_32 : decode cX1_copyFrom 32 = .ok (.aload_n 0, 1) := by decide +kernel
theorem dX1_copyFrom_33 : decode cX1_copyFrom 33 = .ok (.aload_n 1, 1) := by decide +kernel
theorem dX1_copyFrom_34 : decode cX1_copyFrom 34 = .ok (.getfield 24, 3) := by decide +kernel
theorem dX1_copyFrom_37 : decode cX1_copyFrom 37 = .ok (.putfield 24, 3) := by decide +kernel
theorem dX1_copyFrom_40 : decode cX1_copyFrom 40 = .ok (.aload_n 0, 1) := by decide +kernel
theorem dX1_copyFrom_41 : decode cX1_copyFrom 41 = .ok (.aload_n 1, 1) := by decide +kernel
theorem dX1_copyFrom_42 : decode cX1_copyFrom 42 = .ok (.getfield 27, 3) := by decide +kernel
theorem dX1_copyFrom_45 : decode cX1_copyFrom 45 = .ok (.putfield 27, 3) := by decide +kernel
theorem dX1_copyFrom_48 : decode cX1_copyFrom 48 = .ok (.aload_n 0, 1) := by decide +kernel
theorem dX1_copyFrom_49 : decode cX1_copyFrom 49 = .ok (.aload_n 1, 1) := by decide +kernel
theorem dX1_copyFrom_50 : decode cX1_copyFrom 50 = .ok (.getfield 30, 3) := by decide +kernel
theorem dX1_copyFrom_53 : decode cX1_copyFrom 53 = .ok (.putfield 30, 3) := by decide +kernel
theorem dX1_copyFrom_56 : decode cX1_copyFrom 56 = .ok (.aload_n 0, 1) := by decide +kernel
theorem dX1_copyFrom_57 : decode cX1_copyFrom 57 = .ok (.aload_n 1, 1) := by decide +kernel
theorem dX1_copyFrom_58 : decode cX1_copyFrom 58 = .ok (.getfield 33, 3) := by decide +kernel
theorem dX1_copyFrom_61 : decode cX1_copyFrom 61 = .ok (.putfield 33, 3) := by decide +kernel
theorem dX1_copyFrom_64 : decode cX1_copyFrom 64 = .ok (.aload_n 0, 1) := by decide +kernel
theorem dX1_copyFrom_65 : decode cX1_copyFrom 65 = .ok (.aload_n 1, 1) := by decide +kernel
theorem dX1_copyFrom_66 : decode cX1_copyFrom 66 = .ok (.getfield 36, 3) := by decide +kernel
theorem dX1_copyFrom_69 : decode cX1_copyFrom 69 = .ok (.putfield 36, 3) := by decide +kernel
theorem dX1_copyFrom_72 : decode cX1_copyFrom 72 = .ok (.aload_n 0, 1) := by decide +kernel
theorem dX1_copyFrom_73 : decode cX1_copyFrom 73 = .ok (.aload_n 1, 1) := by decide +kernel
theorem dX1_copyFrom_74 : decode cX1_copyFrom 74 = .ok (.getfield 39, 3) := by decide +kernel
theorem dX1_copyFrom_77 : decode cX1_copyFrom 77 = .ok (.putfield 39, 3) := by decide +kernel
theorem dX1_copyFrom_80 : decode cX1_copyFrom 80 = .ok (.return_, 1) := by decide +kernel
theorem dX1_hasMill_0 : decode cX1_hasMill 0 = .ok (.aload_n 0, 1) := by decide +kernel
theorem dX1_hasMill_1 : decode cX1_hasMill 1 = .ok (.getfield 30, 3) := by decide +kernel
theorem dX1_hasMill_4 : decode cX1_hasMill 4 = .ok (.ifCond .le 7, 3) := by decide +kernel
theorem dX1_hasMill_7 : decode cX1_hasMill 7 = .ok (.iconst 1, 1) := by decide +kernel
theorem dX1_hasMill_8 : decode cX1_hasMill 8 = .ok (.goto 4, 3) := by decide +kernel
theorem dX1_hasMill_11 : decode cX1_hasMill 11 = .ok (.iconst 0, 1) := by decide +kernel
theorem dX1_hasMill_12 : decode cX1_hasMill 12 = .ok (.ireturn, 1) := by decide +kernel
theorem dX1_hasOpenSluice_0 : decode cX1_hasOpenSluice 0 = .ok (.aload_n 0, 1) := by decide +kernel
theorem dX1_hasOpenSluice_1 : decode cX1_hasOpenSluice 1 = .ok (.invokevirtual 42, 3) := by decide +kernel
theorem dX1_hasOpenSluice_4 : decode cX1_hasOpenSluice 4 = .ok (.ifCond .eq 14, 3) := by decide +kernel
theorem dX1_hasOpenSluice_7 : decode cX1_hasOpenSluice 7 = .ok (.aload_n 0, 1) := by decide +kernel
theorem dX1_hasOpenSluice_8 : decode cX1_hasOpenSluice 8 = .ok (.getfield 33, 3) := by decide +kernel
theorem dX1_hasOpenSluice_11 : decode cX1_hasOpenSluice 11 = .ok (.ifCond .le 7, 3) := by decide +kernel
theorem dX1_hasOpenSluice_14 : decode cX1_hasOpenSluice 14 = .ok (.iconst 1, 1) := by decide +kernel
theorem dX1_hasOpenSluice_15 : decode cX1_hasOpenSluice 15 = .ok (.goto 4, 3) := by decide +kernel
theorem dX1_hasOpenSluice_18 : decode cX1_hasOpenSluice 18 = .ok (.iconst 0, 1) := by decide +kernel
theorem dX1_hasOpenSluice_19 : decode cX1_hasOpenSluice 19 = .ok (.ireturn, 1) := by decide +kernel
theorem dX1_fill_0 : decode cX1_fill 0 = .ok (.iload_n 1, 1) := by decide +kernel
theorem dX1_fill_1 : decode cX1_fill 1 = .ok (.aload_n 0, 1) := by decide +kernel
theorem dX1_fill_2 : decode cX1_fill 2 = .ok (.getfield 15, 3) := by decide +kernel
theorem dX1_fill_5 : decode cX1_fill 5 = .ok (.aload_n 0, 1) := by decide +kernel
theorem dX1_fill_6 : decode cX1_fill 6 = .ok (.getfield 18, 3) := by decide +kernel
theorem dX1_fill_9 : decode cX1_fill 9 = .ok (.isub, 1) := by decide +kernel
theorem dX1_fill_10 : decode cX1_fill 10 = .ok (.invokestatic 46, 3) := by decide +kernel
theorem dX1_fill_13 : decode cX1_fill 13 = .ok (.istore_n 2, 1) := by decide +kernel
theorem dX1_fill_14 : decode cX1_fill 14 = .ok (.aload_n 0, 1) := by decide +kernel
theorem dX1_fill_15 : decode cX1_fill 15 = .ok (.dup, 1) := by decide +kernel
theorem dX1_fill_16 : decode cX1_fill 16 = .ok (.getfield 18, 3) := by decide +kernel
theorem dX1_fill_19 : decode cX1_fill 19 = .ok (.iload_n 2, 1) := by decide +kernel
theorem dX1_fill_20 : decode cX1_fill 20 = .ok (.iadd, 1) := by decide +kernel
theorem dX1_fill_21 : decode cX1_fill 21 = .ok (.putfield 18, 3) := by decide +kernel
theorem dX1_fill_24 : decode cX1_fill 24 = .ok (.iload_n 2, 1) := by decide +kernel
theorem dX1_fill_25 : decode cX1_fill 25 = .ok (.ireturn, 1) := by decide +kernel
theorem dX1_leadToMill_0 : decode cX1_leadToMill 0 = .ok (.aload_n 0, 1) := by decide +kernel
theorem dX1_leadToMill_1 : decode cX1_leadToMill 1 = .ok (.iload_n 1, 1) := by decide +kernel
theorem dX1_leadToMill_2 : decode cX1_leadToMill 2 = .ok (.aload_n 0, 1) := by decide +kernel
theorem dX1_leadToMill_3 : decode cX1_leadToMill 3 = .ok (.getfield 33, 3) := by decide +kernel
theorem dX1_leadToMill_6 : decode cX1_leadToMill 6 = .ok (.imul, 1) := by decide +kernel
theorem dX1_leadToMill_7 : decode cX1_leadToMill 7 = .ok (.bipush 10, 2) := by decide +kernel
theorem dX1_leadToMill_9 : decode cX1_leadToMill 9 = .ok (.idiv, 1) := by decide +kernel
theorem dX1_leadToMill_10 : decode cX1_leadToMill 10 = .ok (.aload_n 0, 1) := by decide +kernel
theorem dX1_leadToMill_11 : decode cX1_leadToMill 11 = .ok (.getfield 30, 3) := by decide +kernel
theorem dX1_leadToMill_14 : decode cX1_leadToMill 14 = .ok (.invokestatic 46, 3) := by decide +kernel
theorem dX1_leadToMill_17 : decode cX1_leadToMill 17 = .ok (.putfield 39, 3) := by decide +kernel
theorem dX1_leadToMill_20 : decode cX1_leadToMill 20 = .ok (.aload_n 0, 1) := by decide +kernel
theorem dX1_leadToMill_21 : decode cX1_leadToMill 21 = .ok (.dup, 1) := by decide +kernel
theorem dX1_leadToMill_22 : decode cX1_leadToMill 22 = .ok (.getfield 18, 3) := by decide +kernel
theorem dX1_leadToMill_25 : decode cX1_leadToMill 25 = .ok (.aload_n 0, 1) := by decide +kernel
theorem dX1_leadToMill_26 : decode cX1_leadToMill 26 = .ok (.getfield 39, 3) := by decide +kernel
theorem dX1_leadToMill_29 : decode cX1_leadToMill 29 = .ok (.isub, 1) := by decide +kernel
theorem dX1_leadToMill_30 : decode cX1_leadToMill 30 = .ok (.putfield 18, 3) := by decide +kernel
theorem dX1_leadToMill_33 : decode cX1_leadToMill 33 = .ok (.iload_n 1, 1) := by decide +kernel
theorem dX1_leadToMill_34 : decode cX1_leadToMill 34 = .ok (.aload_n 0, 1) := by decide +kernel
theorem dX1_leadToMill_35 : decode cX1_leadToMill 35 = .ok (.getfield 39, 3) := by decide +kernel
theorem dX1_leadToMill_38 : decode cX1_leadToMill 38 = .ok (.isub, 1) := by decide +kernel
theorem dX1_leadToMill_39 : decode cX1_leadToMill 39 = .ok (.ireturn, 1) := by decide +kernel
theorem dX1_grind_0 : decode cX1_grind 0 = .ok (.aload_n 0, 1) := by decide +kernel
theorem dX1_grind_1 : decode cX1_grind 1 = .ok (.getfield 36, 3) := by decide +kernel
theorem dX1_grind_4 : decode cX1_grind 4 = .ok (.bipush 10, 2) := by decide +kernel
theorem dX1_grind_6 : decode cX1_grind 6 = .ok (.idiv, 1) := by decide +kernel
theorem dX1_grind_7 : decode cX1_grind 7 = .ok (.istore_n 1, 1) := by decide +kernel
theorem dX1_grind_8 : decode cX1_grind 8 = .ok (.aload_n 0, 1) := by decide +kernel
theorem dX1_grind_9 : decode cX1_grind 9 = .ok (.dup, 1) := by decide +kernel
theorem dX1_grind_10 : decode cX1_grind 10 = .ok (.getfield 36, 3) := by decide +kernel
theorem dX1_grind_13 : decode cX1_grind 13 = .ok (.aload_n 0, 1) := by decide +kernel
theorem dX1_grind_14 : decode cX1_grind 14 = .ok (.getfield 39, 3) := by decide +kernel
theorem dX1_grind_17 : decode cX1_grind 17 = .ok (.iadd, 1) := by decide +kernel
theorem dX1_grind_18 : decode cX1_grind 18 = .ok (.putfield 36, 3) := by decide +kernel
theorem dX1_grind_21 : decode cX1_grind 21 = .ok (.aload_n 0, 1) := by decide +kernel
theorem dX1_grind_22 : decode cX1_grind 22 = .ok (.getfield 36, 3) := by decide +kernel
theorem dX1_grind_25 : decode cX1_grind 25 = .ok (.bipush 10, 2) := by decide +kernel
theorem dX1_grind_27 : decode cX1_grind 27 = .ok (.idiv, 1) := by decide +kernel
theorem dX1_grind_28 : decode cX1_grind 28 = .ok (.iload_n 1, 1) := by decide +kernel
theorem dX1_grind_29 : decode cX1_grind 29 = .ok (.isub, 1) := by decide +kernel
theorem dX1_grind_30 : decode cX1_grind 30 = .ok (.ireturn, 1) := by decide +kernel
theorem dX1_leak_0 : decode cX1_leak 0 = .ok (.aload_n 0, 1) := by decide +kernel
theorem dX1_leak_1 : decode cX1_leak 1 = .ok (.dup, 1) := by decide +kernel
theorem dX1_leak_2 : decode cX1_leak 2 = .ok (.getfield 24, 3) := by decide +kernel
theorem dX1_leak_5 : decode cX1_leak 5 = .ok (.aload_n 0, 1) := by decide +kernel
theorem dX1_leak_6 : decode cX1_leak 6 = .ok (.getfield 18, 3) := by decide +kernel
theorem dX1_leak_9 : decode cX1_leak 9 = .ok (.aload_n 0, 1) := by decide +kernel
theorem dX1_leak_10 : decode cX1_leak 10 = .ok (.getfield 21, 3) := by decide +kernel
theorem dX1_leak_13 : decode cX1_leak 13 = .ok (.imul, 1) := by decide +kernel
theorem dX1_leak_14 : decode cX1_leak 14 = .ok (.bipush 10, 2) := by decide +kernel
theorem dX1_leak_16 : decode cX1_leak 16 = .ok (.idiv, 1) := by decide +kernel
theorem dX1_leak_17 : decode cX1_leak 17 = .ok (.iadd, 1) := by decide +kernel
theorem dX1_leak_18 : decode cX1_leak 18 = .ok (.putfield 24, 3) := by decide +kernel
theorem dX1_leak_21 : decode cX1_leak 21 = .ok (.aload_n 0, 1) := by decide +kernel
theorem dX1_leak_22 : decode cX1_leak 22 = .ok (.getfield 24, 3) := by decide +kernel
theorem dX1_leak_25 : decode cX1_leak 25 = .ok (.bipush 10, 2) := by decide +kernel
theorem dX1_leak_27 : decode cX1_leak 27 = .ok (.idiv, 1) := by decide +kernel
theorem dX1_leak_28 : decode cX1_leak 28 = .ok (.aload_n 0, 1) := by decide +kernel
theorem dX1_leak_29 : decode cX1_leak 29 = .ok (.getfield 18, 3) := by decide +kernel
theorem dX1_leak_32 : decode cX1_leak 32 = .ok (.invokestatic 46, 3) := by decide +kernel
theorem dX1_leak_35 : decode cX1_leak 35 = .ok (.istore_n 1, 1) := by decide +kernel
theorem dX1_leak_36 : decode cX1_leak 36 = .ok (.aload_n 0, 1) := by decide +kernel
theorem dX1_leak_37 : decode cX1_leak 37 = .ok (.dup, 1) := by decide +kernel
theorem dX1_leak_38 : decode cX1_leak 38 = .ok (.getfield 24, 3) := by decide +kernel
theorem dX1_leak_41 : decode cX1_leak 41 = .ok (.bipush 10, 2) := by decide +kernel
theorem dX1_leak_43 : decode cX1_leak 43 = .ok (.irem, 1) := by decide +kernel
theorem dX1_leak_44 : decode cX1_leak 44 = .ok (.putfield 24, 3) := by decide +kernel
theorem dX1_leak_47 : decode cX1_leak 47 = .ok (.aload_n 0, 1) := by decide +kernel
theorem dX1_leak_48 : decode cX1_leak 48 = .ok (.dup, 1) := by decide +kernel
theorem dX1_leak_49 : decode cX1_leak 49 = .ok (.getfield 18, 3) := by decide +kernel
theorem dX1_leak_52 : decode cX1_leak 52 = .ok (.iload_n 1, 1) := by decide +kernel
theorem dX1_leak_53 : decode cX1_leak 53 = .ok (.isub, 1) := by decide +kernel
theorem dX1_leak_54 : decode cX1_leak 54 = .ok (.putfield 18, 3) := by decide +kernel
theorem dX1_leak_57 : decode cX1_leak 57 = .ok (.aload_n 0, 1) := by decide +kernel
theorem dX1_leak_58 : decode cX1_leak 58 = .ok (.dup, 1) := by decide +kernel
theorem dX1_leak_59 : decode cX1_leak 59 = .ok (.getfield 27, 3) := by decide +kernel
theorem dX1_leak_62 : decode cX1_leak 62 = .ok (.iload_n 1, 1) := by decide +kernel
theorem dX1_leak_63 : decode cX1_leak 63 = .ok (.iadd, 1) := by decide +kernel
theorem dX1_leak_64 : decode cX1_leak 64 = .ok (.putfield 27, 3) := by decide +kernel
theorem dX1_leak_67 : decode cX1_leak 67 = .ok (.return_, 1) := by decide +kernel
theorem dX1_wearOfDay_0 : decode cX1_wearOfDay 0 = .ok (.aload_n 0, 1) := by decide +kernel
theorem dX1_wearOfDay_1 : decode cX1_wearOfDay 1 = .ok (.getfield 18, 3) := by decide +kernel
theorem dX1_wearOfDay_4 : decode cX1_wearOfDay 4 = .ok (.ifCond .le 19, 3) := by decide +kernel
theorem dX1_wearOfDay_7 : decode cX1_wearOfDay 7 = .ok (.aload_n 0, 1) := by decide +kernel
theorem dX1_wearOfDay_8 : decode cX1_wearOfDay 8 = .ok (.aload_n 0, 1) := by decide +kernel
theorem dX1_wearOfDay_9 : decode cX1_wearOfDay 9 = .ok (.invokevirtual 52, 3) := by decide +kernel
theorem dX1_wearOfDay_12 : decode cX1_wearOfDay 12 = .ok (.ifCond .eq 7, 3) := by decide +kernel
theorem dX1_wearOfDay_15 : decode cX1_wearOfDay 15 = .ok (.iconst 2, 1) := by decide +kernel
theorem dX1_wearOfDay_16 : decode cX1_wearOfDay 16 = .ok (.goto 4, 3) := by decide +kernel
theorem dX1_wearOfDay_19 : decode cX1_wearOfDay 19 = .ok (.iconst 1, 1) := by decide +kernel
theorem dX1_wearOfDay_20 : decode cX1_wearOfDay 20 = .ok (.invokevirtual 55, 3) := by decide +kernel
theorem dX1_wearOfDay_23 : decode cX1_wearOfDay 23 = .ok (.return_, 1) := by decide +kernel
theorem dX1_wearBy_0 : decode cX1_wearBy 0 = .ok (.aload_n 0, 1) := by decide +kernel
theorem dX1_wearBy_1 : decode cX1_wearBy 1 = .ok (.bipush 50, 2) := by decide +kernel
theorem dX1_wearBy_3 : decode cX1_wearBy 3 = .ok (.aload_n 0, 1) := by decide +kernel
theorem dX1_wearBy_4 : decode cX1_wearBy 4 = .ok (.getfield 21, 3) := by decide +kernel
theorem dX1_wearBy_7 : decode cX1_wearBy 7 = .ok (.iload_n 1, 1) := by decide +kernel
theorem dX1_wearBy_8 : decode cX1_wearBy 8 = .ok (.iadd, 1) := by decide +kernel
theorem dX1_wearBy_9 : decode cX1_wearBy 9 = .ok (.invokestatic 46, 3) := by decide +kernel
theorem dX1_wearBy_12 : decode cX1_wearBy 12 = .ok (.putfield 21, 3) := by decide +kernel
theorem dX1_wearBy_15 : decode cX1_wearBy 15 = .ok (.return_, 1) := by decide +kernel
theorem dX1_millNumber_0 : decode cX1_millNumber 0 = .ok (.aload_n 0, 1) := by decide +kernel
theorem dX1_millNumber_1 : decode cX1_millNumber 1 = .ok (.invokevirtual 42, 3) := by decide +kernel
theorem dX1_millNumber_4 : decode cX1_millNumber 4 = .ok (.ifCond .ne 5, 3) := by decide +kernel
theorem dX1_millNumber_7 : decode cX1_millNumber 7 = .ok (.iconst (-1), 1) := by decide +kernel
theorem dX1_millNumber_8 : decode cX1_millNumber 8 = .ok (.ireturn, 1) := by decide +kernel
theorem dX1_millNumber_9 : decode cX1_millNumber 9 = .ok (.iload_n 1, 1) := by decide +kernel
theorem dX1_millNumber_10 : decode cX1_millNumber 10 = .ok (.tableswitch 41 0 2 #[26, 31, 36], 26) := by decide +kernel
theorem dX1_millNumber_36 : decode cX1_millNumber 36 = .ok (.aload_n 0, 1) := by decide +kernel
theorem dX1_millNumber_37 : decode cX1_millNumber 37 = .ok (.getfield 30, 3) := by decide +kernel
theorem dX1_millNumber_40 : decode cX1_millNumber 40 = .ok (.ireturn, 1) := by decide +kernel
theorem dX1_millNumber_41 : decode cX1_millNumber 41 = .ok (.aload_n 0, 1) := by decide +kernel
theorem dX1_millNumber_42 : decode cX1_millNumber 42 = .ok (.getfield 33, 3) := by decide +kernel
theorem dX1_millNumber_45 : decode cX1_millNumber 45 = .ok (.ireturn, 1) := by decide +kernel
theorem dX1_millNumber_46 : decode cX1_millNumber 46 = .ok (.aload_n 0, 1) := by decide +kernel
theorem dX1_millNumber_47 : decode cX1_millNumber 47 = .ok (.getfield 36, 3) := by decide +kernel
theorem dX1_millNumber_50 : decode cX1_millNumber 50 = .ok (.ireturn, 1) := by decide +kernel
theorem dX1_millNumber_51 : decode cX1_millNumber 51 = .ok (.aload_n 0, 1) := by decide +kernel
theorem dX1_millNumber_52 : decode cX1_millNumber 52 = .ok (.getfield 39, 3) := by decide +kernel
theorem dX1_millNumber_55 : decode cX1_millNumber 55 = .ok (.ireturn, 1) := by decide +kernel
theorem dX2_init_0 : decode cX2_init 0 = .ok (.aload_n 0, 1) := by decide +kernel
theorem dX2_init_1 : decode cX2_init 1 = .ok (.invokespecial 1, 3) := by decide +kernel
theorem dX2_init_4 : decode cX2_init 4 = .ok (.aload_n 0, 1) := by decide +kernel
theorem dX2_init_5 : decode cX2_init 5 = .ok (.new 7, 3) := by decide +kernel
theorem dX2_init_8 : decode cX2_init 8 = .ok (.dup, 1) := by decide +kernel
theorem dX2_init_9 : decode cX2_init 9 = .ok (.invokespecial 9, 3) := by decide +kernel
theorem dX2_init_12 : decode cX2_init 12 = .ok (.putfield 10, 3) := by decide +kernel
theorem dX2_init_15 : decode cX2_init 15 = .ok (.aload_n 0, 1) := by decide +kernel
theorem dX2_init_16 : decode cX2_init 16 = .ok (.new 7, 3) := by decide +kernel
theorem dX2_init_19 : decode cX2_init 19 = .ok (.dup, 1) := by decide +kernel
theorem dX2_init_20 : decode cX2_init 20 = .ok (.invokespecial 9, 3) := by decide +kernel
theorem dX2_init_23 : decode cX2_init 23 = .ok (.putfield 16, 3) := by decide +kernel
theorem dX2_init_26 : decode cX2_init 26 = .ok (.return_, 1) := by decide +kernel
theorem dX2_build_0 : decode cX2_build 0 = .ok (.iload_n 1, 1) := by decide +kernel
theorem dX2_build_1 : decode cX2_build 1 = .ok (.iconst 0, 1) := by decide +kernel
theorem dX2_build_2 : decode cX2_build 2 = .ok (.aload_n 0, 1) := by decide +kernel
theorem dX2_build_3 : decode cX2_build 3 = .ok (.getfield 10, 3) := by decide +kernel
theorem dX2_build_6 : decode cX2_build 6 = .ok (.invokevirtual 19, 3) := by decide +kernel
theorem dX2_build_9 : decode cX2_build 9 = .ok (.invokestatic 23, 3) := by decide +kernel
theorem dX2_build_12 : decode cX2_build 12 = .ok (.iload_n 2, 1) := by decide +kernel
theorem dX2_build_13 : decode cX2_build 13 = .ok (.iconst 1, 1) := by decide +kernel
theorem dX2_build_14 : decode cX2_build 14 = .ok (.bipush 40, 2) := by decide +kernel
theorem dX2_build_16 : decode cX2_build 16 = .ok (.invokestatic 23, 3) := by decide +kernel
theorem dX2_build_19 : decode cX2_build 19 = .ok (.aload_n 0, 1) := by decide +kernel
theorem dX2_build_20 : decode cX2_build 20 = .ok (.getfield 10, 3) := by decide +kernel
theorem dX2_build_23 : decode cX2_build 23 = .ok (.getfield 27, 3) := by decide +kernel
theorem dX2_build_26 : decode cX2_build 26 = .ok (.bipush 20, 2) := by decide +kernel
theorem dX2_build_28 : decode cX2_build 28 = .ok (.if_icmp .lt 13, 3) := by decide +kernel
theorem dX2_build_31 : decode cX2_build 31 = .ok (.new 31, 3) := by decide +kernel
theorem dX2_build_34 : decode cX2_build 34 = .ok (.dup, 1) := by decide +kernel
theorem dX2_build_35 : decode cX2_build 35 = .ok (.ldc 33, 2) := by decide +kernel
theorem dX2_build_37 : decode cX2_build 37 = .ok (.invokespecial 35, 3) := by decide +kernel
theorem dX2_build_40 : decode cX2_build 40 = .ok (.athrow, 1) := by decide +kernel
theorem dX2_build_41 : decode cX2_build 41 = .ok (.aload_n 0, 1) := by decide +kernel
theorem dX2_build_42 : decode cX2_build 42 = .ok (.getfield 10, 3) := by decide +kernel
theorem dX2_build_45 : decode cX2_build 45 = .ok (.iload_n 1, 1) := by decide +kernel
theorem dX2_build_46 : decode cX2_build 46 = .ok (.iload_n 2, 1) := by decide +kernel
theorem dX2_build_47 : decode cX2_build 47 = .ok (.invokevirtual 38, 3) := by decide +kernel
theorem dX2_build_50 : decode cX2_build 50 = .ok (.ireturn, 1) := by decide +kernel
theorem dX2_setSpring_0 : decode cX2_setSpring 0 = .ok (.aload_n 0, 1) := by decide +kernel
theorem dX2_setSpring_1 : decode cX2_setSpring 1 = .ok (.getfield 10, 3) := by decide +kernel
theorem dX2_setSpring_4 : decode cX2_setSpring 4 = .ok (.getfield 42, 3) := by decide +kernel
theorem dX2_setSpring_7 : decode cX2_setSpring 7 = .ok (.iload_n 1, 1) := by decide +kernel
theorem dX2_setSpring_8 : decode cX2_setSpring 8 = .ok (.iload_n 2, 1) := by decide +kernel
theorem dX2_setSpring_9 : decode cX2_setSpring 9 = .ok (.invokestatic 46, 3) := by decide +kernel
theorem dX2_setSpring_12 : decode cX2_setSpring 12 = .ok (.ireturn, 1) := by decide +kernel
theorem dX2_setCity_0 : decode cX2_setCity 0 = .ok (.aload_n 0, 1) := by decide +kernel
theorem dX2_setCity_1 : decode cX2_setCity 1 = .ok (.getfield 10, 3) := by decide +kernel
theorem dX2_setCity_4 : decode cX2_setCity 4 = .ok (.getfield 50, 3) := by decide +kernel
theorem dX2_setCity_7 : decode cX2_setCity 7 = .ok (.iload_n 1, 1) := by decide +kernel
theorem dX2_setCity_8 : decode cX2_setCity 8 = .ok (.iload_n 2, 1) := by decide +kernel
theorem dX2_setCity_9 : decode cX2_setCity 9 = .ok (.invokestatic 46, 3) := by decide +kernel
theorem dX2_setCity_12 : decode cX2_setCity 12 = .ok (.ireturn, 1) := by decide +kernel
theorem dX2_setCistern_0 : decode cX2_setCistern 0 = .ok (.iload_n 1, 1) := by decide +kernel
theorem dX2_setCistern_1 : decode cX2_setCistern 1 = .ok (.iconst 0, 1) := by decide +kernel
theorem dX2_setCistern_2 : decode cX2_setCistern 2 = .ok (.sipush 500, 3) := by decide +kernel
theorem dX2_setCistern_5 : decode cX2_setCistern 5 = .ok (.invokestatic 23, 3) := by decide +kernel
theorem dX2_setCistern_8 : decode cX2_setCistern 8 = .ok (.aload_n 0, 1) := by decide +kernel
theorem dX2_setCistern_9 : decode cX2_setCistern 9 = .ok (.getfield 10, 3) := by decide +kernel
theorem dX2_setCistern_12 : decode cX2_setCistern 12 = .ok (.iload_n 1, 1) := by decide +kernel
theorem dX2_setCistern_13 : decode cX2_setCistern 13 = .ok (.invokevirtual 53, 3) := by decide +kernel
theorem dX2_setCistern_16 : decode cX2_setCistern 16 = .ok (.ireturn, 1) := by decide +kernel
theorem dX2_arch_0 : decode cX2_arch 0 = .ok (.aload_n 0, 1) := by decide +kernel
theorem dX2_arch_1 : decode cX2_arch 1 = .ok (.iload_n 1, 1) := by decide +kernel
theorem dX2_arch_2 : decode cX2_arch 2 = .ok (.invokevirtual 57, 3) := by decide +kernel
theorem dX2_arch_5 : decode cX2_arch 5 = .ok (.iload_n 2, 1) := by decide +kernel
theorem dX2_arch_6 : decode cX2_arch 6 = .ok (.bipush 9, 2) := by decide +kernel
theorem dX2_arch_8 : decode cX2_arch 8 = .ok (.invokestatic 61, 3) := by decide +kernel
theorem dX2_arch_11 : decode cX2_arch 11 = .ok (.aload_n 0, 1) := by decide +kernel
theorem dX2_arch_12 : decode cX2_arch 12 = .ok (.getfield 10, 3) := by decide +kernel
theorem dX2_arch_15 : decode cX2_arch 15 = .ok (.iload_n 1, 1) := by decide +kernel
theorem dX2_arch_16 : decode cX2_arch 16 = .ok (.iload_n 2, 1) := by decide +kernel
theorem dX2_arch_17 : decode cX2_arch 17 = .ok (.invokevirtual 65, 3) := by decide +kernel
theorem dX2_arch_20 : decode cX2_arch 20 = .ok (.ireturn, 1) := by decide +kernel
theorem dX2_addMill_0 : decode cX2_addMill 0 = .ok (.aload_n 0, 1) := by decide +kernel
theorem dX2_addMill_1 : decode cX2_addMill 1 = .ok (.iload_n 1, 1) := by decide +kernel
theorem dX2_addMill_2 : decode cX2_addMill 2 = .ok (.invokevirtual 57, 3) := by decide +kernel
theorem dX2_addMill_5 : decode cX2_addMill 5 = .ok (.iload_n 2, 1) := by decide +kernel
theorem dX2_addMill_6 : decode cX2_addMill 6 = .ok (.iconst 1, 1) := by decide +kernel
theorem dX2_addMill_7 : decode cX2_addMill 7 = .ok (.bipush 30, 2) := by decide +kernel
theorem dX2_addMill_9 : decode cX2_addMill 9 = .ok (.invokestatic 23, 3) := by decide +kernel
theorem dX2_addMill_12 : decode cX2_addMill 12 = .ok (.aload_n 0, 1) := by decide +kernel
theorem dX2_addMill_13 : decode cX2_addMill 13 = .ok (.getfield 10, 3) := by decide +kernel
theorem dX2_addMill_16 : decode cX2_addMill 16 = .ok (.iload_n 1, 1) := by decide +kernel
theorem dX2_addMill_17 : decode cX2_addMill 17 = .ok (.invokevirtual 68, 3) := by decide +kernel
theorem dX2_addMill_20 : decode cX2_addMill 20 = .ok (.astore_n 3, 1) := by decide +kernel
theorem dX2_addMill_21 : decode cX2_addMill 21 = .ok (.aload_n 3, 1) := by decide +kernel
theorem dX2_addMill_22 : decode cX2_addMill 22 = .ok (.invokevirtual 72, 3) := by decide +kernel
theorem dX2_addMill_25 : decode cX2_addMill 25 = .ok (.ifCond .eq 13, 3) := by decide +kernel
theorem dX2_addMill_28 : decode cX2_addMill 28 = .ok (.new 31, 3) := by decide +kernel
theorem dX2_addMill_31 : decode cX2_addMill 31 = .ok (.dup, 1) := by decide +kernel
theorem dX2_addMill_32 : decode cX2_addMill 32 = .ok (.ldc 78, 2) := by decide +kernel
theorem dX2_addMill_34 : decode cX2_addMill 34 = .ok (.invokespecial 35, 3) := by decide +kernel
theorem dX2_addMill_37 : decode cX2_addMill 37 = .ok (.athrow, 1) := by decide +kernel
theorem dX2_addMill_38 : decode cX2_addMill 38 = .ok (.aload_n 3, 1) := by decide +kernel
theorem dX2_addMill_39 : decode cX2_addMill 39 = .ok (.iload_n 2, 1) := by decide +kernel
theorem dX2_addMill_40 : decode cX2_addMill 40 = .ok (.putfield 80, 3) := by decide +kernel
theorem dX2_addMill_43 : decode cX2_addMill 43 = .ok (.aload_n 0, 1) := by decide +kernel
theorem dX2_addMill_44 : decode cX2_addMill 44 = .ok (.getfield 10, 3) := by decide +kernel
theorem dX2_addMill_47 : decode cX2_addMill 47 = .ok (.invokevirtual 83, 3) := by decide +kernel
theorem dX2_addMill_50 : decode cX2_addMill 50 = .ok (.ireturn, 1) := by decide +kernel
theorem dX2_setSluice_0 : decode cX2_setSluice 0 = .ok (.aload_n 0, 1) := by decide +kernel
theorem dX2_setSluice_1 : decode cX2_setSluice 1 = .ok (.iload_n 1, 1) := by decide +kernel
theorem dX2_setSluice_2 : decode cX2_setSluice 2 = .ok (.invokevirtual 57, 3) := by decide +kernel
theorem dX2_setSluice_5 : decode cX2_setSluice 5 = .ok (.iload_n 2, 1) := by decide +kernel
theorem dX2_setSluice_6 : decode cX2_setSluice 6 = .ok (.iconst 0, 1) := by decide +kernel
theorem dX2_setSluice_7 : decode cX2_setSluice 7 = .ok (.bipush 10, 2) := by decide +kernel
theorem dX2_setSluice_9 : decode cX2_setSluice 9 = .ok (.invokestatic 23, 3) := by decide +kernel
theorem dX2_setSluice_12 : decode cX2_setSluice 12 = .ok (.aload_n 0, 1) := by decide +kernel
theorem dX2_setSluice_13 : decode cX2_setSluice 13 = .ok (.getfield 10, 3) := by decide +kernel
theorem dX2_setSluice_16 : decode cX2_setSluice 16 = .ok (.iload_n 1, 1) := by decide +kernel
theorem dX2_setSluice_17 : decode cX2_setSluice 17 = .ok (.invokevirtual 68, 3) := by decide +kernel
theorem dX2_setSluice_20 : decode cX2_setSluice 20 = .ok (.astore_n 3, 1) := by decide +kernel
theorem dX2_setSluice_21 : decode cX2_setSluice 21 = .ok (.aload_n 3, 1) := by decide +kernel
theorem dX2_setSluice_22 : decode cX2_setSluice 22 = .ok (.invokevirtual 72, 3) := by decide +kernel
theorem dX2_setSluice_25 : decode cX2_setSluice 25 = .ok (.ifCond .ne 13, 3) := by decide +kernel
theorem dX2_setSluice_28 : decode cX2_setSluice 28 = .ok (.new 31, 3) := by decide +kernel
theorem dX2_setSluice_31 : decode cX2_setSluice 31 = .ok (.dup, 1) := by decide +kernel
theorem dX2_setSluice_32 : decode cX2_setSluice 32 = .ok (.ldc 86, 2) := by decide +kernel
theorem dX2_setSluice_34 : decode cX2_setSluice 34 = .ok (.invokespecial 35, 3) := by decide +kernel
theorem dX2_setSluice_37 : decode cX2_setSluice 37 = .ok (.athrow, 1) := by decide +kernel
theorem dX2_setSluice_38 : decode cX2_setSluice 38 = .ok (.aload_n 3, 1) := by decide +kernel
theorem dX2_setSluice_39 : decode cX2_setSluice 39 = .ok (.getfield 88, 3) := by decide +kernel
theorem dX2_setSluice_42 : decode cX2_setSluice 42 = .ok (.istore 4, 2) := by decide +kernel
theorem dX2_setSluice_44 : decode cX2_setSluice 44 = .ok (.aload_n 3, 1) := by decide +kernel
theorem dX2_setSluice_45 : decode cX2_setSluice 45 = .ok (.iload_n 2, 1) := by decide +kernel
theorem dX2_setSluice_46 : decode cX2_setSluice 46 = .ok (.putfield 88, 3) := by decide +kernel
theorem dX2_setSluice_49 : decode cX2_setSluice 49 = .ok (.iload 4, 2) := by decide +kernel
theorem dX2_setSluice_51 : decode cX2_setSluice 51 = .ok (.ireturn, 1) := by decide +kernel
theorem dX2_mill_0 : decode cX2_mill 0 = .ok (.aload_n 0, 1) := by decide +kernel
theorem dX2_mill_1 : decode cX2_mill 1 = .ok (.iload_n 1, 1) := by decide +kernel
theorem dX2_mill_2 : decode cX2_mill 2 = .ok (.invokevirtual 57, 3) := by decide +kernel
theorem dX2_mill_5 : decode cX2_mill 5 = .ok (.iload_n 2, 1) := by decide +kernel
theorem dX2_mill_6 : decode cX2_mill 6 = .ok (.iconst 4, 1) := by decide +kernel
theorem dX2_mill_7 : decode cX2_mill 7 = .ok (.invokestatic 61, 3) := by decide +kernel
theorem dX2_mill_10 : decode cX2_mill 10 = .ok (.aload_n 0, 1) := by decide +kernel
theorem dX2_mill_11 : decode cX2_mill 11 = .ok (.getfield 10, 3) := by decide +kernel
theorem dX2_mill_14 : decode cX2_mill 14 = .ok (.iload_n 1, 1) := by decide +kernel
theorem dX2_mill_15 : decode cX2_mill 15 = .ok (.invokevirtual 68, 3) := by decide +kernel
theorem dX2_mill_18 : decode cX2_mill 18 = .ok (.iload_n 2, 1) := by decide +kernel
theorem dX2_mill_19 : decode cX2_mill 19 = .ok (.invokevirtual 91, 3) := by decide +kernel
theorem dX2_mill_22 : decode cX2_mill 22 = .ok (.ireturn, 1) := by decide +kernel
theorem dX2_mend_0 : decode cX2_mend 0 = .ok (.aload_n 0, 1) := by decide +kernel
theorem dX2_mend_1 : decode cX2_mend 1 = .ok (.iload_n 1, 1) := by decide +kernel
theorem dX2_mend_2 : decode cX2_mend 2 = .ok (.invokevirtual 57, 3) := by decide +kernel
theorem dX2_mend_5 : decode cX2_mend 5 = .ok (.aload_n 0, 1) := by decide +kernel
theorem dX2_mend_6 : decode cX2_mend 6 = .ok (.getfield 10, 3) := by decide +kernel
theorem dX2_mend_9 : decode cX2_mend 9 = .ok (.iload_n 1, 1) := by decide +kernel
theorem dX2_mend_10 : decode cX2_mend 10 = .ok (.invokevirtual 68, 3) := by decide +kernel
theorem dX2_mend_13 : decode cX2_mend 13 = .ok (.astore_n 2, 1) := by decide +kernel
theorem dX2_mend_14 : decode cX2_mend 14 = .ok (.aload_n 0, 1) := by decide +kernel
theorem dX2_mend_15 : decode cX2_mend 15 = .ok (.getfield 10, 3) := by decide +kernel
theorem dX2_mend_18 : decode cX2_mend 18 = .ok (.getfield 94, 3) := by decide +kernel
theorem dX2_mend_21 : decode cX2_mend 21 = .ok (.iconst 1, 1) := by decide +kernel
theorem dX2_mend_22 : decode cX2_mend 22 = .ok (.if_icmp .ge 13, 3) := by decide +kernel
theorem dX2_mend_25 : decode cX2_mend 25 = .ok (.new 31, 3) := by decide +kernel
theorem dX2_mend_28 : decode cX2_mend 28 = .ok (.dup, 1) := by decide +kernel
theorem dX2_mend_29 : decode cX2_mend 29 = .ok (.ldc 97, 2) := by decide +kernel
theorem dX2_mend_31 : decode cX2_mend 31 = .ok (.invokespecial 35, 3) := by decide +kernel
theorem dX2_mend_34 : decode cX2_mend 34 = .ok (.athrow, 1) := by decide +kernel
theorem dX2_mend_35 : decode cX2_mend 35 = .ok (.aload_n 2, 1) := by decide +kernel
theorem dX2_mend_36 : decode cX2_mend 36 = .ok (.getfield 99, 3) := by decide +kernel
theorem dX2_mend_39 : decode cX2_mend 39 = .ok (.ifCond .ne 13, 3) := by decide +kernel
theorem dX2_mend_42 : decode cX2_mend 42 = .ok (.new 31, 3) := by decide +kernel
theorem dX2_mend_45 : decode cX2_mend 45 = .ok (.dup, 1) := by decide +kernel
theorem dX2_mend_46 : decode cX2_mend 46 = .ok (.ldc 102, 2) := by decide +kernel
theorem dX2_mend_48 : decode cX2_mend 48 = .ok (.invokespecial 35, 3) := by decide +kernel
theorem dX2_mend_51 : decode cX2_mend 51 = .ok (.athrow, 1) := by decide +kernel
theorem dX2_mend_52 : decode cX2_mend 52 = .ok (.aload_n 0, 1) := by decide +kernel
theorem dX2_mend_53 : decode cX2_mend 53 = .ok (.getfield 10, 3) := by decide +kernel
theorem dX2_mend_56 : decode cX2_mend 56 = .ok (.dup, 1) := by decide +kernel
theorem dX2_mend_57 : decode cX2_mend 57 = .ok (.getfield 94, 3) := by decide +kernel
theorem dX2_mend_60 : decode cX2_mend 60 = .ok (.iconst 1, 1) := by decide +kernel
theorem dX2_mend_61 : decode cX2_mend 61 = .ok (.isub, 1) := by decide +kernel
theorem dX2_mend_62 : decode cX2_mend 62 = .ok (.putfield 94, 3) := by decide +kernel
theorem dX2_mend_65 : decode cX2_mend 65 = .ok (.aload_n 2, 1) := by decide +kernel
theorem dX2_mend_66 : decode cX2_mend 66 = .ok (.iconst 0, 1) := by decide +kernel
theorem dX2_mend_67 : decode cX2_mend 67 = .ok (.aload_n 2, 1) := by decide +kernel
theorem dX2_mend_68 : decode cX2_mend 68 = .ok (.getfield 99, 3) := by decide +kernel
theorem dX2_mend_71 : decode cX2_mend 71 = .ok (.bipush 10, 2) := by decide +kernel
theorem dX2_mend_73 : decode cX2_mend 73 = .ok (.isub, 1) := by decide +kernel
theorem dX2_mend_74 : decode cX2_mend 74 = .ok (.invokestatic 104, 3) := by decide +kernel
theorem dX2_mend_77 : decode cX2_mend 77 = .ok (.putfield 99, 3) := by decide +kernel
theorem dX2_mend_80 : decode cX2_mend 80 = .ok (.aload_n 2, 1) := by decide +kernel
theorem dX2_mend_81 : decode cX2_mend 81 = .ok (.iconst 0, 1) := by decide +kernel
theorem dX2_mend_82 : decode cX2_mend 82 = .ok (.putfield 109, 3) := by decide +kernel
theorem dX2_mend_85 : decode cX2_mend 85 = .ok (.aload_n 2, 1) := by decide +kernel
theorem dX2_mend_86 : decode cX2_mend 86 = .ok (.getfield 99, 3) := by decide +kernel
theorem dX2_mend_89 : decode cX2_mend 89 = .ok (.ireturn, 1) := by decide +kernel
theorem dX2_quake_0 : decode cX2_quake 0 = .ok (.aload_n 0, 1) := by decide +kernel
theorem dX2_quake_1 : decode cX2_quake 1 = .ok (.iload_n 1, 1) := by decide +kernel
theorem dX2_quake_2 : decode cX2_quake 2 = .ok (.invokevirtual 57, 3) := by decide +kernel
theorem dX2_quake_5 : decode cX2_quake 5 = .ok (.iload_n 2, 1) := by decide +kernel
theorem dX2_quake_6 : decode cX2_quake 6 = .ok (.iconst 1, 1) := by decide +kernel
theorem dX2_quake_7 : decode cX2_quake 7 = .ok (.bipush 50, 2) := by decide +kernel
theorem dX2_quake_9 : decode cX2_quake 9 = .ok (.invokestatic 23, 3) := by decide +kernel
theorem dX2_quake_12 : decode cX2_quake 12 = .ok (.aload_n 0, 1) := by decide +kernel
theorem dX2_quake_13 : decode cX2_quake 13 = .ok (.getfield 10, 3) := by decide +kernel
theorem dX2_quake_16 : decode cX2_quake 16 = .ok (.iload_n 1, 1) := by decide +kernel
theorem dX2_quake_17 : decode cX2_quake 17 = .ok (.invokevirtual 68, 3) := by decide +kernel
theorem dX2_quake_20 : decode cX2_quake 20 = .ok (.astore_n 3, 1) := by decide +kernel
theorem dX2_quake_21 : decode cX2_quake 21 = .ok (.aload_n 3, 1) := by decide +kernel
theorem dX2_quake_22 : decode cX2_quake 22 = .ok (.iload_n 2, 1) := by decide +kernel
theorem dX2_quake_23 : decode cX2_quake 23 = .ok (.invokevirtual 112, 3) := by decide +kernel
theorem dX2_quake_26 : decode cX2_quake 26 = .ok (.aload_n 3, 1) := by decide +kernel
theorem dX2_quake_27 : decode cX2_quake 27 = .ok (.getfield 99, 3) := by decide +kernel
theorem dX2_quake_30 : decode cX2_quake 30 = .ok (.ireturn, 1) := by decide +kernel
theorem dX2_pass_0 : decode cX2_pass 0 = .ok (.iload_n 1, 1) := by decide +kernel
theorem dX2_pass_1 : decode cX2_pass 1 = .ok (.iconst 1, 1) := by decide +kernel
theorem dX2_pass_2 : decode cX2_pass 2 = .ok (.bipush 100, 2) := by decide +kernel
theorem dX2_pass_4 : decode cX2_pass 4 = .ok (.invokestatic 23, 3) := by decide +kernel
theorem dX2_pass_7 : decode cX2_pass 7 = .ok (.aload_n 0, 1) := by decide +kernel
theorem dX2_pass_8 : decode cX2_pass 8 = .ok (.getfield 10, 3) := by decide +kernel
theorem dX2_pass_11 : decode cX2_pass 11 = .ok (.getfield 115, 3) := by decide +kernel
theorem dX2_pass_14 : decode cX2_pass 14 = .ok (.istore_n 2, 1) := by decide +kernel
theorem dX2_pass_15 : decode cX2_pass 15 = .ok (.aload_n 0, 1) := by decide +kernel
theorem dX2_pass_16 : decode cX2_pass 16 = .ok (.getfield 10, 3) := by decide +kernel
theorem dX2_pass_19 : decode cX2_pass 19 = .ok (.iload_n 1, 1) := by decide +kernel
theorem dX2_pass_20 : decode cX2_pass 20 = .ok (.invokevirtual 118, 3) := by decide +kernel
theorem dX2_pass_23 : decode cX2_pass 23 = .ok (.aload_n 0, 1) := by decide +kernel
theorem dX2_pass_24 : decode cX2_pass 24 = .ok (.getfield 10, 3) := by decide +kernel
theorem dX2_pass_27 : decode cX2_pass 27 = .ok (.getfield 115, 3) := by decide +kernel
theorem dX2_pass_30 : decode cX2_pass 30 = .ok (.iload_n 2, 1) := by decide +kernel
theorem dX2_pass_31 : decode cX2_pass 31 = .ok (.isub, 1) := by decide +kernel
theorem dX2_pass_32 : decode cX2_pass 32 = .ok (.ireturn, 1) := by decide +kernel
theorem dX2_count_0 : decode cX2_count 0 = .ok (.iload_n 1, 1) := by decide +kernel
theorem dX2_count_1 : decode cX2_count 1 = .ok (.bipush 12, 2) := by decide +kernel
theorem dX2_count_3 : decode cX2_count 3 = .ok (.invokestatic 61, 3) := by decide +kernel
theorem dX2_count_6 : decode cX2_count 6 = .ok (.aload_n 0, 1) := by decide +kernel
theorem dX2_count_7 : decode cX2_count 7 = .ok (.getfield 10, 3) := by decide +kernel
theorem dX2_count_10 : decode cX2_count 10 = .ok (.iload_n 1, 1) := by decide +kernel
theorem dX2_count_11 : decode cX2_count 11 = .ok (.invokevirtual 121, 3) := by decide +kernel
theorem dX2_count_14 : decode cX2_count 14 = .ok (.ireturn, 1) := by decide +kernel
theorem dX2_foresee_0 : decode cX2_foresee 0 = .ok (.iload_n 1, 1) := by decide +kernel
theorem dX2_foresee_1 : decode cX2_foresee 1 = .ok (.iconst 1, 1) := by decide +kernel
theorem dX2_foresee_2 : decode cX2_foresee 2 = .ok (.bipush 100, 2) := by decide +kernel
theorem dX2_foresee_4 : decode cX2_foresee 4 = .ok (.invokestatic 23, 3) := by decide +kernel
theorem dX2_foresee_7 : decode cX2_foresee 7 = .ok (.iload_n 2, 1) := by decide +kernel
theorem dX2_foresee_8 : decode cX2_foresee 8 = .ok (.iconst 4, 1) := by decide +kernel
theorem dX2_foresee_9 : decode cX2_foresee 9 = .ok (.invokestatic 61, 3) := by decide +kernel
theorem dX2_foresee_12 : decode cX2_foresee 12 = .ok (.aload_n 0, 1) := by decide +kernel
theorem dX2_foresee_13 : decode cX2_foresee 13 = .ok (.getfield 16, 3) := by decide +kernel
theorem dX2_foresee_16 : decode cX2_foresee 16 = .ok (.aload_n 0, 1) := by decide +kernel
theorem dX2_foresee_17 : decode cX2_foresee 17 = .ok (.getfield 10, 3) := by decide +kernel
theorem dX2_foresee_20 : decode cX2_foresee 20 = .ok (.invokevirtual 124, 3) := by decide +kernel
theorem dX2_foresee_23 : decode cX2_foresee 23 = .ok (.aload_n 0, 1) := by decide +kernel
theorem dX2_foresee_24 : decode cX2_foresee 24 = .ok (.getfield 16, 3) := by decide +kernel
theorem dX2_foresee_27 : decode cX2_foresee 27 = .ok (.iload_n 1, 1) := by decide +kernel
theorem dX2_foresee_28 : decode cX2_foresee 28 = .ok (.invokevirtual 118, 3) := by decide +kernel
theorem dX2_foresee_31 : decode cX2_foresee 31 = .ok (.iload_n 2, 1) := by decide +kernel
theorem dX2_foresee_32 : decode cX2_foresee 32 = .ok (.tableswitch 68 0 2 #[28, 44, 60], 28) := by decide +kernel
theorem dX2_foresee_60 : decode cX2_foresee 60 = .ok (.aload_n 0, 1) := by decide +kernel
theorem dX2_foresee_61 : decode cX2_foresee 61 = .ok (.getfield 16, 3) := by decide +kernel
theorem dX2_foresee_64 : decode cX2_foresee 64 = .ok (.getfield 115, 3) := by decide +kernel
theorem dX2_foresee_67 : decode cX2_foresee 67 = .ok (.aload_n 0, 1) := by decide +kernel
theorem dX2_foresee_68 : decode cX2_foresee 68 = .ok (.getfield 10, 3) := by decide +kernel
theorem dX2_foresee_71 : decode cX2_foresee 71 = .ok (.getfield 115, 3) := by decide +kernel
theorem dX2_foresee_74 : decode cX2_foresee 74 = .ok (.isub, 1) := by decide +kernel
theorem dX2_foresee_75 : decode cX2_foresee 75 = .ok (.ireturn, 1) := by decide +kernel
theorem dX2_foresee_76 : decode cX2_foresee 76 = .ok (.aload_n 0, 1) := by decide +kernel
theorem dX2_foresee_77 : decode cX2_foresee 77 = .ok (.getfield 16, 3) := by decide +kernel
theorem dX2_foresee_80 : decode cX2_foresee 80 = .ok (.invokevirtual 128, 3) := by decide +kernel
theorem dX2_foresee_83 : decode cX2_foresee 83 = .ok (.aload_n 0, 1) := by decide +kernel
theorem dX2_foresee_84 : decode cX2_foresee 84 = .ok (.getfield 10, 3) := by decide +kernel
theorem dX2_foresee_87 : decode cX2_foresee 87 = .ok (.invokevirtual 128, 3) := by decide +kernel
theorem dX2_foresee_90 : decode cX2_foresee 90 = .ok (.isub, 1) := by decide +kernel
theorem dX2_foresee_91 : decode cX2_foresee 91 = .ok (.ireturn, 1) := by decide +kernel
theorem dX2_foresee_92 : decode cX2_foresee 92 = .ok (.aload_n 0, 1) := by decide +kernel
theorem dX2_foresee_93 : decode cX2_foresee 93 = .ok (.getfield 16, 3) := by decide +kernel
theorem dX2_foresee_96 : decode cX2_foresee 96 = .ok (.getfield 131, 3) := by decide +kernel
theorem dX2_foresee_99 : decode cX2_foresee 99 = .ok (.ireturn, 1) := by decide +kernel
theorem dX2_foresee_100 : decode cX2_foresee 100 = .ok (.aload_n 0, 1) := by decide +kernel
theorem dX2_foresee_101 : decode cX2_foresee 101 = .ok (.getfield 16, 3) := by decide +kernel
theorem dX2_foresee_104 : decode cX2_foresee 104 = .ok (.invokevirtual 134, 3) := by decide +kernel
theorem dX2_foresee_107 : decode cX2_foresee 107 = .ok (.aload_n 0, 1) := by decide +kernel
theorem dX2_foresee_108 : decode cX2_foresee 108 = .ok (.getfield 10, 3) := by decide +kernel
theorem dX2_foresee_111 : decode cX2_foresee 111 = .ok (.invokevirtual 134, 3) := by decide +kernel
theorem dX2_foresee_114 : decode cX2_foresee 114 = .ok (.isub, 1) := by decide +kernel
theorem dX2_foresee_115 : decode cX2_foresee 115 = .ok (.ireturn, 1) := by decide +kernel
theorem dX2_advise_0 : decode cX2_advise 0 = .ok (.iload_n 1, 1) := by decide +kernel
theorem dX2_advise_1 : decode cX2_advise 1 = .ok (.iconst 1, 1) := by decide +kernel
theorem dX2_advise_2 : decode cX2_advise 2 = .ok (.bipush 48, 2) := by decide +kernel
theorem dX2_advise_4 : decode cX2_advise 4 = .ok (.invokestatic 23, 3) := by decide +kernel
theorem dX2_advise_7 : decode cX2_advise 7 = .ok (.iconst (-1), 1) := by decide +kernel
theorem dX2_advise_8 : decode cX2_advise 8 = .ok (.istore_n 2, 1) := by decide +kernel
theorem dX2_advise_9 : decode cX2_advise 9 = .ok (.aload_n 0, 1) := by decide +kernel
theorem dX2_advise_10 : decode cX2_advise 10 = .ok (.iconst (-1), 1) := by decide +kernel
theorem dX2_advise_11 : decode cX2_advise 11 = .ok (.iload_n 1, 1) := by decide +kernel
theorem dX2_advise_12 : decode cX2_advise 12 = .ok (.invokevirtual 137, 3) := by decide +kernel
theorem dX2_advise_15 : decode cX2_advise 15 = .ok (.istore_n 3, 1) := by decide +kernel
theorem dX2_advise_16 : decode cX2_advise 16 = .ok (.iconst 0, 1) := by decide +kernel
theorem dX2_advise_17 : decode cX2_advise 17 = .ok (.istore 4, 2) := by decide +kernel
theorem dX2_advise_19 : decode cX2_advise 19 = .ok (.iload 4, 2) := by decide +kernel
theorem dX2_advise_21 : decode cX2_advise 21 = .ok (.aload_n 0, 1) := by decide +kernel
theorem dX2_advise_22 : decode cX2_advise 22 = .ok (.getfield 10, 3) := by decide +kernel
theorem dX2_advise_25 : decode cX2_advise 25 = .ok (.getfield 27, 3) := by decide +kernel
theorem dX2_advise_28 : decode cX2_advise 28 = .ok (.if_icmp .ge 45, 3) := by decide +kernel
theorem dX2_advise_31 : decode cX2_advise 31 = .ok (.aload_n 0, 1) := by decide +kernel
theorem dX2_advise_32 : decode cX2_advise 32 = .ok (.getfield 10, 3) := by decide +kernel
theorem dX2_advise_35 : decode cX2_advise 35 = .ok (.iload 4, 2) := by decide +kernel
theorem dX2_advise_37 : decode cX2_advise 37 = .ok (.invokevirtual 68, 3) := by decide +kernel
theorem dX2_advise_40 : decode cX2_advise 40 = .ok (.invokevirtual 140, 3) := by decide +kernel
theorem dX2_advise_43 : decode cX2_advise 43 = .ok (.ifCond .eq 24, 3) := by decide +kernel
theorem dX2_advise_46 : decode cX2_advise 46 = .ok (.aload_n 0, 1) := by decide +kernel
theorem dX2_advise_47 : decode cX2_advise 47 = .ok (.iload 4, 2) := by decide +kernel
theorem dX2_advise_49 : decode cX2_advise 49 = .ok (.iload_n 1, 1) := by decide +kernel
theorem dX2_advise_50 : decode cX2_advise 50 = .ok (.invokevirtual 137, 3) := by decide +kernel
theorem dX2_advise_53 : decode cX2_advise 53 = .ok (.istore 5, 2) := by decide +kernel
theorem dX2_advise_55 : decode cX2_advise 55 = .ok (.iload 5, 2) := by decide +kernel
theorem dX2_advise_57 : decode cX2_advise 57 = .ok (.iload_n 3, 1) := by decide +kernel
theorem dX2_advise_58 : decode cX2_advise 58 = .ok (.if_icmp .ge 9, 3) := by decide +kernel
theorem dX2_advise_61 : decode cX2_advise 61 = .ok (.iload 5, 2) := by decide +kernel
theorem dX2_advise_63 : decode cX2_advise 63 = .ok (.istore_n 3, 1) := by decide +kernel
theorem dX2_advise_64 : decode cX2_advise 64 = .ok (.iload 4, 2) := by decide +kernel
theorem dX2_advise_66 : decode cX2_advise 66 = .ok (.istore_n 2, 1) := by decide +kernel
theorem dX2_advise_67 : decode cX2_advise 67 = .ok (.iinc 4 1, 3) := by decide +kernel
theorem dX2_advise_70 : decode cX2_advise 70 = .ok (.goto (-51), 3) := by decide +kernel
theorem dX2_advise_73 : decode cX2_advise 73 = .ok (.iload_n 2, 1) := by decide +kernel
theorem dX2_advise_74 : decode cX2_advise 74 = .ok (.ireturn, 1) := by decide +kernel
theorem dX2_thirsty_0 : decode cX2_thirsty 0 = .ok (.aload_n 0, 1) := by decide +kernel
theorem dX2_thirsty_1 : decode cX2_thirsty 1 = .ok (.getfield 16, 3) := by decide +kernel
theorem dX2_thirsty_4 : decode cX2_thirsty 4 = .ok (.aload_n 0, 1) := by decide +kernel
theorem dX2_thirsty_5 : decode cX2_thirsty 5 = .ok (.getfield 10, 3) := by decide +kernel
theorem dX2_thirsty_8 : decode cX2_thirsty 8 = .ok (.invokevirtual 124, 3) := by decide +kernel
theorem dX2_thirsty_11 : decode cX2_thirsty 11 = .ok (.iconst 1, 1) := by decide +kernel
theorem dX2_thirsty_12 : decode cX2_thirsty 12 = .ok (.istore_n 1, 1) := by decide +kernel
theorem dX2_thirsty_13 : decode cX2_thirsty 13 = .ok (.iload_n 1, 1) := by decide +kernel
theorem dX2_thirsty_14 : decode cX2_thirsty 14 = .ok (.sipush 200, 3) := by decide +kernel
theorem dX2_thirsty_17 : decode cX2_thirsty 17 = .ok (.if_icmp .gt 36, 3) := by decide +kernel
theorem dX2_thirsty_20 : decode cX2_thirsty 20 = .ok (.aload_n 0, 1) := by decide +kernel
theorem dX2_thirsty_21 : decode cX2_thirsty 21 = .ok (.getfield 16, 3) := by decide +kernel
theorem dX2_thirsty_24 : decode cX2_thirsty 24 = .ok (.iconst 1, 1) := by decide +kernel
theorem dX2_thirsty_25 : decode cX2_thirsty 25 = .ok (.invokevirtual 118, 3) := by decide +kernel
theorem dX2_thirsty_28 : decode cX2_thirsty 28 = .ok (.aload_n 0, 1) := by decide +kernel
theorem dX2_thirsty_29 : decode cX2_thirsty 29 = .ok (.getfield 16, 3) := by decide +kernel
theorem dX2_thirsty_32 : decode cX2_thirsty 32 = .ok (.getfield 115, 3) := by decide +kernel
theorem dX2_thirsty_35 : decode cX2_thirsty 35 = .ok (.aload_n 0, 1) := by decide +kernel
theorem dX2_thirsty_36 : decode cX2_thirsty 36 = .ok (.getfield 10, 3) := by decide +kernel
theorem dX2_thirsty_39 : decode cX2_thirsty 39 = .ok (.getfield 115, 3) := by decide +kernel
theorem dX2_thirsty_42 : decode cX2_thirsty 42 = .ok (.if_icmp .le 5, 3) := by decide +kernel
theorem dX2_thirsty_45 : decode cX2_thirsty 45 = .ok (.iload_n 1, 1) := by decide +kernel
theorem dX2_thirsty_46 : decode cX2_thirsty 46 = .ok (.ireturn, 1) := by decide +kernel
theorem dX2_thirsty_47 : decode cX2_thirsty 47 = .ok (.iinc 1 1, 3) := by decide +kernel
theorem dX2_thirsty_50 : decode cX2_thirsty 50 = .ok (.goto (-37), 3) := by decide +kernel
theorem dX2_thirsty_53 : decode cX2_thirsty 53 = .ok (.iconst (-1), 1) := by decide +kernel
theorem dX2_thirsty_54 : decode cX2_thirsty 54 = .ok (.ireturn, 1) := by decide +kernel
theorem dX2_worst_0 : decode cX2_worst 0 = .ok (.iconst (-1), 1) := by decide +kernel
theorem dX2_worst_1 : decode cX2_worst 1 = .ok (.istore_n 1, 1) := by decide +kernel
theorem dX2_worst_2 : decode cX2_worst 2 = .ok (.iconst 0, 1) := by decide +kernel
theorem dX2_worst_3 : decode cX2_worst 3 = .ok (.istore_n 2, 1) := by decide +kernel
theorem dX2_worst_4 : decode cX2_worst 4 = .ok (.iconst 0, 1) := by decide +kernel
theorem dX2_worst_5 : decode cX2_worst 5 = .ok (.istore_n 3, 1) := by decide +kernel
theorem dX2_worst_6 : decode cX2_worst 6 = .ok (.iload_n 3, 1) := by decide +kernel
theorem dX2_worst_7 : decode cX2_worst 7 = .ok (.aload_n 0, 1) := by decide +kernel
theorem dX2_worst_8 : decode cX2_worst 8 = .ok (.getfield 10, 3) := by decide +kernel
theorem dX2_worst_11 : decode cX2_worst 11 = .ok (.getfield 27, 3) := by decide +kernel
theorem dX2_worst_14 : decode cX2_worst 14 = .ok (.if_icmp .ge 33, 3) := by decide +kernel
theorem dX2_worst_17 : decode cX2_worst 17 = .ok (.aload_n 0, 1) := by decide +kernel
theorem dX2_worst_18 : decode cX2_worst 18 = .ok (.getfield 10, 3) := by decide +kernel
theorem dX2_worst_21 : decode cX2_worst 21 = .ok (.iload_n 3, 1) := by decide +kernel
theorem dX2_worst_22 : decode cX2_worst 22 = .ok (.invokevirtual 68, 3) := by decide +kernel
theorem dX2_worst_25 : decode cX2_worst 25 = .ok (.getfield 143, 3) := by decide +kernel
theorem dX2_worst_28 : decode cX2_worst 28 = .ok (.istore 4, 2) := by decide +kernel
theorem dX2_worst_30 : decode cX2_worst 30 = .ok (.iload 4, 2) := by decide +kernel
theorem dX2_worst_32 : decode cX2_worst 32 = .ok (.iload_n 2, 1) := by decide +kernel
theorem dX2_worst_33 : decode cX2_worst 33 = .ok (.if_icmp .le 8, 3) := by decide +kernel
theorem dX2_worst_36 : decode cX2_worst 36 = .ok (.iload 4, 2) := by decide +kernel
theorem dX2_worst_38 : decode cX2_worst 38 = .ok (.istore_n 2, 1) := by decide +kernel
theorem dX2_worst_39 : decode cX2_worst 39 = .ok (.iload_n 3, 1) := by decide +kernel
theorem dX2_worst_40 : decode cX2_worst 40 = .ok (.istore_n 1, 1) := by decide +kernel
theorem dX2_worst_41 : decode cX2_worst 41 = .ok (.iinc 3 1, 3) := by decide +kernel
theorem dX2_worst_44 : decode cX2_worst 44 = .ok (.goto (-38), 3) := by decide +kernel
theorem dX2_worst_47 : decode cX2_worst 47 = .ok (.iload_n 1, 1) := by decide +kernel
theorem dX2_worst_48 : decode cX2_worst 48 = .ok (.ireturn, 1) := by decide +kernel
theorem dX2_reaches_0 : decode cX2_reaches 0 = .ok (.aload_n 0, 1) := by decide +kernel
theorem dX2_reaches_1 : decode cX2_reaches 1 = .ok (.getfield 10, 3) := by decide +kernel
theorem dX2_reaches_4 : decode cX2_reaches 4 = .ok (.getfield 145, 3) := by decide +kernel
theorem dX2_reaches_7 : decode cX2_reaches 7 = .ok (.ifCond .ne 5, 3) := by decide +kernel
theorem dX2_reaches_10 : decode cX2_reaches 10 = .ok (.dconst 0, 1) := by decide +kernel
theorem dX2_reaches_11 : decode cX2_reaches 11 = .ok (.dreturn, 1) := by decide +kernel
theorem dX2_reaches_12 : decode cX2_reaches 12 = .ok (.aload_n 0, 1) := by decide +kernel
theorem dX2_reaches_13 : decode cX2_reaches 13 = .ok (.getfield 10, 3) := by decide +kernel
theorem dX2_reaches_16 : decode cX2_reaches 16 = .ok (.getfield 148, 3) := by decide +kernel
theorem dX2_reaches_19 : decode cX2_reaches 19 = .ok (.i2d, 1) := by decide +kernel
theorem dX2_reaches_20 : decode cX2_reaches 20 = .ok (.aload_n 0, 1) := by decide +kernel
theorem dX2_reaches_21 : decode cX2_reaches 21 = .ok (.getfield 10, 3) := by decide +kernel
theorem dX2_reaches_24 : decode cX2_reaches 24 = .ok (.getfield 145, 3) := by decide +kernel
theorem dX2_reaches_27 : decode cX2_reaches 27 = .ok (.i2d, 1) := by decide +kernel
theorem dX2_reaches_28 : decode cX2_reaches 28 = .ok (.ddiv, 1) := by decide +kernel
theorem dX2_reaches_29 : decode cX2_reaches 29 = .ok (.dreturn, 1) := by decide +kernel
theorem dX2_digest_0 : decode cX2_digest 0 = .ok (.ldc2_w 151, 3) := by decide +kernel
theorem dX2_digest_3 : decode cX2_digest 3 = .ok (.lstore_n 1, 1) := by decide +kernel
theorem dX2_digest_4 : decode cX2_digest 4 = .ok (.iconst 0, 1) := by decide +kernel
theorem dX2_digest_5 : decode cX2_digest 5 = .ok (.istore_n 3, 1) := by decide +kernel
theorem dX2_digest_6 : decode cX2_digest 6 = .ok (.iload_n 3, 1) := by decide +kernel
theorem dX2_digest_7 : decode cX2_digest 7 = .ok (.bipush 12, 2) := by decide +kernel
theorem dX2_digest_9 : decode cX2_digest 9 = .ok (.if_icmp .ge 25, 3) := by decide +kernel
theorem dX2_digest_12 : decode cX2_digest 12 = .ok (.lload_n 1, 1) := by decide +kernel
theorem dX2_digest_13 : decode cX2_digest 13 = .ok (.ldc2_w 153, 3) := by decide +kernel
theorem dX2_digest_16 : decode cX2_digest 16 = .ok (.lmul, 1) := by decide +kernel
theorem dX2_digest_17 : decode cX2_digest 17 = .ok (.aload_n 0, 1) := by decide +kernel
theorem dX2_digest_18 : decode cX2_digest 18 = .ok (.getfield 10, 3) := by decide +kernel
theorem dX2_digest_21 : decode cX2_digest 21 = .ok (.iload_n 3, 1) := by decide +kernel
theorem dX2_digest_22 : decode cX2_digest 22 = .ok (.invokevirtual 121, 3) := by decide +kernel
theorem dX2_digest_25 : decode cX2_digest 25 = .ok (.i2l, 1) := by decide +kernel
theorem dX2_digest_26 : decode cX2_digest 26 = .ok (.ladd, 1) := by decide +kernel
theorem dX2_digest_27 : decode cX2_digest 27 = .ok (.lstore_n 1, 1) := by decide +kernel
theorem dX2_digest_28 : decode cX2_digest 28 = .ok (.iinc 3 1, 3) := by decide +kernel
theorem dX2_digest_31 : decode cX2_digest 31 = .ok (.goto (-25), 3) := by decide +kernel
theorem dX2_digest_34 : decode cX2_digest 34 = .ok (.iconst 0, 1) := by decide +kernel
theorem dX2_digest_35 : decode cX2_digest 35 = .ok (.istore_n 3, 1) := by decide +kernel
theorem dX2_digest_36 : decode cX2_digest 36 = .ok (.iload_n 3, 1) := by decide +kernel
theorem dX2_digest_37 : decode cX2_digest 37 = .ok (.bipush 24, 2) := by decide +kernel
theorem dX2_digest_39 : decode cX2_digest 39 = .ok (.if_icmp .ge 43, 3) := by decide +kernel
theorem dX2_digest_42 : decode cX2_digest 42 = .ok (.lload_n 1, 1) := by decide +kernel
theorem dX2_digest_43 : decode cX2_digest 43 = .ok (.ldc2_w 153, 3) := by decide +kernel
theorem dX2_digest_46 : decode cX2_digest 46 = .ok (.lmul, 1) := by decide +kernel
theorem dX2_digest_47 : decode cX2_digest 47 = .ok (.aload_n 0, 1) := by decide +kernel
theorem dX2_digest_48 : decode cX2_digest 48 = .ok (.getfield 10, 3) := by decide +kernel
theorem dX2_digest_51 : decode cX2_digest 51 = .ok (.getfield 42, 3) := by decide +kernel
theorem dX2_digest_54 : decode cX2_digest 54 = .ok (.iload_n 3, 1) := by decide +kernel
theorem dX2_digest_55 : decode cX2_digest 55 = .ok (.iaload, 1) := by decide +kernel
theorem dX2_digest_56 : decode cX2_digest 56 = .ok (.i2l, 1) := by decide +kernel
theorem dX2_digest_57 : decode cX2_digest 57 = .ok (.ladd, 1) := by decide +kernel
theorem dX2_digest_58 : decode cX2_digest 58 = .ok (.lstore_n 1, 1) := by decide +kernel
theorem dX2_digest_59 : decode cX2_digest 59 = .ok (.lload_n 1, 1) := by decide +kernel
theorem dX2_digest_60 : decode cX2_digest 60 = .ok (.ldc2_w 153, 3) := by decide +kernel
theorem dX2_digest_63 : decode cX2_digest 63 = .ok (.lmul, 1) := by decide +kernel
theorem dX2_digest_64 : decode cX2_digest 64 = .ok (.aload_n 0, 1) := by decide +kernel
theorem dX2_digest_65 : decode cX2_digest 65 = .ok (.getfield 10, 3) := by decide +kernel
theorem dX2_digest_68 : decode cX2_digest 68 = .ok (.getfield 50, 3) := by decide +kernel
theorem dX2_digest_71 : decode cX2_digest 71 = .ok (.iload_n 3, 1) := by decide +kernel
theorem dX2_digest_72 : decode cX2_digest 72 = .ok (.iaload, 1) := by decide +kernel
theorem dX2_digest_73 : decode cX2_digest 73 = .ok (.i2l, 1) := by decide +kernel
theorem dX2_digest_74 : decode cX2_digest 74 = .ok (.ladd, 1) := by decide +kernel
theorem dX2_digest_75 : decode cX2_digest 75 = .ok (.lstore_n 1, 1) := by decide +kernel
theorem dX2_digest_76 : decode cX2_digest 76 = .ok (.iinc 3 1, 3) := by decide +kernel
theorem dX2_digest_79 : decode cX2_digest 79 = .ok (.goto (-43), 3) := by decide +kernel
theorem dX2_digest_82 : decode cX2_digest 82 = .ok (.iconst 0, 1) := by decide +kernel
theorem dX2_digest_83 : decode cX2_digest 83 = .ok (.istore_n 3, 1) := by decide +kernel
theorem dX2_digest_84 : decode cX2_digest 84 = .ok (.iload_n 3, 1) := by decide +kernel
theorem dX2_digest_85 : decode cX2_digest 85 = .ok (.aload_n 0, 1) := by decide +kernel
theorem dX2_digest_86 : decode cX2_digest 86 = .ok (.getfield 10, 3) := by decide +kernel
theorem dX2_digest_89 : decode cX2_digest 89 = .ok (.getfield 27, 3) := by decide +kernel
theorem dX2_digest_92 : decode cX2_digest 92 = .ok (.if_icmp .ge 16, 3) := by decide +kernel
theorem dX2_digest_95 : decode cX2_digest 95 = .ok (.aload_n 0, 1) := by decide +kernel
theorem dX2_digest_96 : decode cX2_digest 96 = .ok (.lload_n 1, 1) := by decide +kernel
theorem dX2_digest_97 : decode cX2_digest 97 = .ok (.iload_n 3, 1) := by decide +kernel
theorem dX2_digest_98 : decode cX2_digest 98 = .ok (.invokevirtual 155, 3) := by decide +kernel
theorem dX2_digest_101 : decode cX2_digest 101 = .ok (.lstore_n 1, 1) := by decide +kernel
theorem dX2_digest_102 : decode cX2_digest 102 = .ok (.iinc 3 1, 3) := by decide +kernel
theorem dX2_digest_105 : decode cX2_digest 105 = .ok (.goto (-21), 3) := by decide +kernel
theorem dX2_digest_108 : decode cX2_digest 108 = .ok (.lload_n 1, 1) := by decide +kernel
theorem dX2_digest_109 : decode cX2_digest 109 = .ok (.lreturn, 1) := by decide +kernel
theorem dX2_digestArch_0 : decode cX2_digestArch 0 = .ok (.lload_n 1, 1) := by decide +kernel
theorem dX2_digestArch_1 : decode cX2_digestArch 1 = .ok (.lstore 4, 2) := by decide +kernel
theorem dX2_digestArch_3 : decode cX2_digestArch 3 = .ok (.iconst 0, 1) := by decide +kernel
theorem dX2_digestArch_4 : decode cX2_digestArch 4 = .ok (.istore 6, 2) := by decide +kernel
theorem dX2_digestArch_6 : decode cX2_digestArch 6 = .ok (.iload 6, 2) := by decide +kernel
theorem dX2_digestArch_8 : decode cX2_digestArch 8 = .ok (.bipush 9, 2) := by decide +kernel
theorem dX2_digestArch_10 : decode cX2_digestArch 10 = .ok (.if_icmp .ge 29, 3) := by decide +kernel
theorem dX2_digestArch_13 : decode cX2_digestArch 13 = .ok (.lload 4, 2) := by decide +kernel
theorem dX2_digestArch_15 : decode cX2_digestArch 15 = .ok (.ldc2_w 153, 3) := by decide +kernel
theorem dX2_digestArch_18 : decode cX2_digestArch 18 = .ok (.lmul, 1) := by decide +kernel
theorem dX2_digestArch_19 : decode cX2_digestArch 19 = .ok (.aload_n 0, 1) := by decide +kernel
theorem dX2_digestArch_20 : decode cX2_digestArch 20 = .ok (.getfield 10, 3) := by decide +kernel
theorem dX2_digestArch_23 : decode cX2_digestArch 23 = .ok (.iload_n 3, 1) := by decide +kernel
theorem dX2_digestArch_24 : decode cX2_digestArch 24 = .ok (.iload 6, 2) := by decide +kernel
theorem dX2_digestArch_26 : decode cX2_digestArch 26 = .ok (.invokevirtual 65, 3) := by decide +kernel
theorem dX2_digestArch_29 : decode cX2_digestArch 29 = .ok (.i2l, 1) := by decide +kernel
theorem dX2_digestArch_30 : decode cX2_digestArch 30 = .ok (.ladd, 1) := by decide +kernel
theorem dX2_digestArch_31 : decode cX2_digestArch 31 = .ok (.lstore 4, 2) := by decide +kernel
theorem dX2_digestArch_33 : decode cX2_digestArch 33 = .ok (.iinc 6 1, 3) := by decide +kernel
theorem dX2_digestArch_36 : decode cX2_digestArch 36 = .ok (.goto (-30), 3) := by decide +kernel
theorem dX2_digestArch_39 : decode cX2_digestArch 39 = .ok (.iconst 0, 1) := by decide +kernel
theorem dX2_digestArch_40 : decode cX2_digestArch 40 = .ok (.istore 6, 2) := by decide +kernel
theorem dX2_digestArch_42 : decode cX2_digestArch 42 = .ok (.iload 6, 2) := by decide +kernel
theorem dX2_digestArch_44 : decode cX2_digestArch 44 = .ok (.iconst 4, 1) := by decide +kernel
theorem dX2_digestArch_45 : decode cX2_digestArch 45 = .ok (.if_icmp .ge 32, 3) := by decide +kernel
theorem dX2_digestArch_48 : decode cX2_digestArch 48 = .ok (.lload 4, 2) := by decide +kernel
theorem dX2_digestArch_50 : decode cX2_digestArch 50 = .ok (.ldc2_w 153, 3) := by decide +kernel
theorem dX2_digestArch_53 : decode cX2_digestArch 53 = .ok (.lmul, 1) := by decide +kernel
theorem dX2_digestArch_54 : decode cX2_digestArch 54 = .ok (.aload_n 0, 1) := by decide +kernel
theorem dX2_digestArch_55 : decode cX2_digestArch 55 = .ok (.getfield 10, 3) := by decide +kernel
theorem dX2_digestArch_58 : decode cX2_digestArch 58 = .ok (.iload_n 3, 1) := by decide +kernel
theorem dX2_digestArch_59 : decode cX2_digestArch 59 = .ok (.invokevirtual 68, 3) := by decide +kernel
theorem dX2_digestArch_62 : decode cX2_digestArch 62 = .ok (.iload 6, 2) := by decide +kernel
theorem dX2_digestArch_64 : decode cX2_digestArch 64 = .ok (.invokevirtual 91, 3) := by decide +kernel
theorem dX2_digestArch_67 : decode cX2_digestArch 67 = .ok (.i2l, 1) := by decide +kernel
theorem dX2_digestArch_68 : decode cX2_digestArch 68 = .ok (.ladd, 1) := by decide +kernel
theorem dX2_digestArch_69 : decode cX2_digestArch 69 = .ok (.lstore 4, 2) := by decide +kernel
theorem dX2_digestArch_71 : decode cX2_digestArch 71 = .ok (.iinc 6 1, 3) := by decide +kernel
theorem dX2_digestArch_74 : decode cX2_digestArch 74 = .ok (.goto (-32), 3) := by decide +kernel
theorem dX2_digestArch_77 : decode cX2_digestArch 77 = .ok (.lload 4, 2) := by decide +kernel
theorem dX2_digestArch_79 : decode cX2_digestArch 79 = .ok (.lreturn, 1) := by decide +kernel
theorem dX2_thirstWithClosed_0 : decode cX2_thirstWithClosed 0 = .ok (.aload_n 0, 1) := by decide +kernel
theorem dX2_thirstWithClosed_1 : decode cX2_thirstWithClosed 1 = .ok (.getfield 16, 3) := by decide +kernel
theorem dX2_thirstWithClosed_4 : decode cX2_thirstWithClosed 4 = .ok (.aload_n 0, 1) := by decide +kernel
theorem dX2_thirstWithClosed_5 : decode cX2_thirstWithClosed 5 = .ok (.getfield 10, 3) := by decide +kernel
theorem dX2_thirstWithClosed_8 : decode cX2_thirstWithClosed 8 = .ok (.invokevirtual 124, 3) := by decide +kernel
theorem dX2_thirstWithClosed_11 : decode cX2_thirstWithClosed 11 = .ok (.iload_n 1, 1) := by decide +kernel
theorem dX2_thirstWithClosed_12 : decode cX2_thirstWithClosed 12 = .ok (.ifCond .lt 26, 3) := by decide +kernel
theorem dX2_thirstWithClosed_15 : decode cX2_thirstWithClosed 15 = .ok (.iload_n 1, 1) := by decide +kernel
theorem dX2_thirstWithClosed_16 : decode cX2_thirstWithClosed 16 = .ok (.aload_n 0, 1) := by decide +kernel
theorem dX2_thirstWithClosed_17 : decode cX2_thirstWithClosed 17 = .ok (.getfield 16, 3) := by decide +kernel
theorem dX2_thirstWithClosed_20 : decode cX2_thirstWithClosed 20 = .ok (.getfield 27, 3) := by decide +kernel
theorem dX2_thirstWithClosed_23 : decode cX2_thirstWithClosed 23 = .ok (.if_icmp .ge 15, 3) := by decide +kernel
theorem dX2_thirstWithClosed_26 : decode cX2_thirstWithClosed 26 = .ok (.aload_n 0, 1) := by decide +kernel
theorem dX2_thirstWithClosed_27 : decode cX2_thirstWithClosed 27 = .ok (.getfield 16, 3) := by decide +kernel
theorem dX2_thirstWithClosed_30 : decode cX2_thirstWithClosed 30 = .ok (.iload_n 1, 1) := by decide +kernel
theorem dX2_thirstWithClosed_31 : decode cX2_thirstWithClosed 31 = .ok (.invokevirtual 68, 3) := by decide +kernel
theorem dX2_thirstWithClosed_34 : decode cX2_thirstWithClosed 34 = .ok (.iconst 0, 1) := by decide +kernel
theorem dX2_thirstWithClosed_35 : decode cX2_thirstWithClosed 35 = .ok (.putfield 88, 3) := by decide +kernel
theorem dX2_thirstWithClosed_38 : decode cX2_thirstWithClosed 38 = .ok (.aload_n 0, 1) := by decide +kernel
theorem dX2_thirstWithClosed_39 : decode cX2_thirstWithClosed 39 = .ok (.getfield 16, 3) := by decide +kernel
theorem dX2_thirstWithClosed_42 : decode cX2_thirstWithClosed 42 = .ok (.iload_n 2, 1) := by decide +kernel
theorem dX2_thirstWithClosed_43 : decode cX2_thirstWithClosed 43 = .ok (.invokevirtual 118, 3) := by decide +kernel
theorem dX2_thirstWithClosed_46 : decode cX2_thirstWithClosed 46 = .ok (.aload_n 0, 1) := by decide +kernel
theorem dX2_thirstWithClosed_47 : decode cX2_thirstWithClosed 47 = .ok (.getfield 16, 3) := by decide +kernel
theorem dX2_thirstWithClosed_50 : decode cX2_thirstWithClosed 50 = .ok (.getfield 115, 3) := by decide +kernel
theorem dX2_thirstWithClosed_53 : decode cX2_thirstWithClosed 53 = .ok (.aload_n 0, 1) := by decide +kernel
theorem dX2_thirstWithClosed_54 : decode cX2_thirstWithClosed 54 = .ok (.getfield 10, 3) := by decide +kernel
theorem dX2_thirstWithClosed_57 : decode cX2_thirstWithClosed 57 = .ok (.getfield 115, 3) := by decide +kernel
theorem dX2_thirstWithClosed_60 : decode cX2_thirstWithClosed 60 = .ok (.isub, 1) := by decide +kernel
theorem dX2_thirstWithClosed_61 : decode cX2_thirstWithClosed 61 = .ok (.ireturn, 1) := by decide +kernel
theorem dX2_setHour_0 : decode cX2_setHour 0 = .ok (.iload_n 1, 1) := by decide +kernel
theorem dX2_setHour_1 : decode cX2_setHour 1 = .ok (.bipush 24, 2) := by decide +kernel
theorem dX2_setHour_3 : decode cX2_setHour 3 = .ok (.invokestatic 61, 3) := by decide +kernel
theorem dX2_setHour_6 : decode cX2_setHour 6 = .ok (.iload_n 2, 1) := by decide +kernel
theorem dX2_setHour_7 : decode cX2_setHour 7 = .ok (.iconst 0, 1) := by decide +kernel
theorem dX2_setHour_8 : decode cX2_setHour 8 = .ok (.bipush 40, 2) := by decide +kernel
theorem dX2_setHour_10 : decode cX2_setHour 10 = .ok (.invokestatic 23, 3) := by decide +kernel
theorem dX2_setHour_13 : decode cX2_setHour 13 = .ok (.aload_n 0, 1) := by decide +kernel
theorem dX2_setHour_14 : decode cX2_setHour 14 = .ok (.iload_n 1, 1) := by decide +kernel
theorem dX2_setHour_15 : decode cX2_setHour 15 = .ok (.iaload, 1) := by decide +kernel
theorem dX2_setHour_16 : decode cX2_setHour 16 = .ok (.istore_n 3, 1) := by decide +kernel
theorem dX2_setHour_17 : decode cX2_setHour 17 = .ok (.aload_n 0, 1) := by decide +kernel
theorem dX2_setHour_18 : decode cX2_setHour 18 = .ok (.iload_n 1, 1) := by decide +kernel
theorem dX2_setHour_19 : decode cX2_setHour 19 = .ok (.iload_n 2, 1) := by decide +kernel
theorem dX2_setHour_20 : decode cX2_setHour 20 = .ok (.iastore, 1) := by decide +kernel
theorem dX2_setHour_21 : decode cX2_setHour 21 = .ok (.iload_n 3, 1) := by decide +kernel
theorem dX2_setHour_22 : decode cX2_setHour 22 = .ok (.ireturn, 1) := by decide +kernel
theorem dX2_requireArch_0 : decode cX2_requireArch 0 = .ok (.iload_n 1, 1) := by decide +kernel
theorem dX2_requireArch_1 : decode cX2_requireArch 1 = .ok (.aload_n 0, 1) := by decide +kernel
theorem dX2_requireArch_2 : decode cX2_requireArch 2 = .ok (.getfield 10, 3) := by decide +kernel
theorem dX2_requireArch_5 : decode cX2_requireArch 5 = .ok (.getfield 27, 3) := by decide +kernel
theorem dX2_requireArch_8 : decode cX2_requireArch 8 = .ok (.invokestatic 61, 3) := by decide +kernel
theorem dX2_requireArch_11 : decode cX2_requireArch 11 = .ok (.return_, 1) := by decide +kernel
theorem dX2_requireIndex_0 : decode cX2_requireIndex 0 = .ok (.iload_n 0, 1) := by decide +kernel
theorem dX2_requireIndex_1 : decode cX2_requireIndex 1 = .ok (.ifCond .lt 8, 3) := by decide +kernel
theorem dX2_requireIndex_4 : decode cX2_requireIndex 4 = .ok (.iload_n 0, 1) := by decide +kernel
theorem dX2_requireIndex_5 : decode cX2_requireIndex 5 = .ok (.iload_n 1, 1) := by decide +kernel
theorem dX2_requireIndex_6 : decode cX2_requireIndex 6 = .ok (.if_icmp .lt 13, 3) := by decide +kernel
theorem dX2_requireIndex_9 : decode cX2_requireIndex 9 = .ok (.new 159, 3) := by decide +kernel
theorem dX2_requireIndex_12 : decode cX2_requireIndex 12 = .ok (.dup, 1) := by decide +kernel
theorem dX2_requireIndex_13 : decode cX2_requireIndex 13 = .ok (.ldc 161, 2) := by decide +kernel
theorem dX2_requireIndex_15 : decode cX2_requireIndex 15 = .ok (.invokespecial 163, 3) := by decide +kernel
theorem dX2_requireIndex_18 : decode cX2_requireIndex 18 = .ok (.athrow, 1) := by decide +kernel
theorem dX2_requireIndex_19 : decode cX2_requireIndex 19 = .ok (.return_, 1) := by decide +kernel
theorem dX2_requireRange_0 : decode cX2_requireRange 0 = .ok (.iload_n 0, 1) := by decide +kernel
theorem dX2_requireRange_1 : decode cX2_requireRange 1 = .ok (.iload_n 1, 1) := by decide +kernel
theorem dX2_requireRange_2 : decode cX2_requireRange 2 = .ok (.if_icmp .lt 8, 3) := by decide +kernel
theorem dX2_requireRange_5 : decode cX2_requireRange 5 = .ok (.iload_n 0, 1) := by decide +kernel
theorem dX2_requireRange_6 : decode cX2_requireRange 6 = .ok (.iload_n 2, 1) := by decide +kernel
theorem dX2_requireRange_7 : decode cX2_requireRange 7 = .ok (.if_icmp .le 13, 3) := by decide +kernel
theorem dX2_requireRange_10 : decode cX2_requireRange 10 = .ok (.new 164, 3) := by decide +kernel
theorem dX2_requireRange_13 : decode cX2_requireRange 13 = .ok (.dup, 1) := by decide +kernel
theorem dX2_requireRange_14 : decode cX2_requireRange 14 = .ok (.ldc 166, 2) := by decide +kernel
theorem dX2_requireRange_16 : decode cX2_requireRange 16 = .ok (.invokespecial 168, 3) := by decide +kernel
theorem dX2_requireRange_19 : decode cX2_requireRange 19 = .ok (.athrow, 1) := by decide +kernel
theorem dX2_requireRange_20 : decode cX2_requireRange 20 = .ok (.return_, 1) := by decide +kernel
theorem dX3_init_0 : decode cX3_init 0 = .ok (.aload_n 0, 1) := by decide +kernel
theorem dX3_init_1 : decode cX3_init 1 = .ok (.aload_n 1, 1) := by decide +kernel
theorem dX3_init_2 : decode cX3_init 2 = .ok (.putfield 3, 3) := by decide +kernel
theorem dX3_init_5 : decode cX3_init 5 = .ok (.aload_n 0, 1) := by decide +kernel
theorem dX3_init_6 : decode cX3_init 6 = .ok (.invokespecial 9, 3) := by decide +kernel
theorem dX3_init_9 : decode cX3_init 9 = .ok (.aload_n 0, 1) := by decide +kernel
theorem dX3_init_10 : decode cX3_init 10 = .ok (.bipush 100, 2) := by decide +kernel
theorem dX3_init_12 : decode cX3_init 12 = .ok (.putfield 15, 3) := by decide +kernel
theorem dX3_init_15 : decode cX3_init 15 = .ok (.aload_n 0, 1) := by decide +kernel
theorem dX3_init_16 : decode cX3_init 16 = .ok (.bipush 20, 2) := by decide +kernel
theorem dX3_init_18 : decode cX3_init 18 = .ok (.newarray .int, 2) := by decide +kernel
theorem dX3_init_20 : decode cX3_init 20 = .ok (.putfield 19, 3) := by decide +kernel
theorem dX3_init_23 : decode cX3_init 23 = .ok (.aload_n 0, 1) := by decide +kernel
theorem dX3_init_24 : decode cX3_init 24 = .ok (.bipush 20, 2) := by decide +kernel
theorem dX3_init_26 : decode cX3_init 26 = .ok (.newarray .int, 2) := by decide +kernel
theorem dX3_init_28 : decode cX3_init 28 = .ok (.putfield 23, 3) := by decide +kernel
theorem dX3_init_31 : decode cX3_init 31 = .ok (.aload_n 0, 1) := by decide +kernel
theorem dX3_init_32 : decode cX3_init 32 = .ok (.bipush 20, 2) := by decide +kernel
theorem dX3_init_34 : decode cX3_init 34 = .ok (.newarray .int, 2) := by decide +kernel
theorem dX3_init_36 : decode cX3_init 36 = .ok (.putfield 26, 3) := by decide +kernel
theorem dX3_init_39 : decode cX3_init 39 = .ok (.aload_n 0, 1) := by decide +kernel
theorem dX3_init_40 : decode cX3_init 40 = .ok (.bipush 20, 2) := by decide +kernel
theorem dX3_init_42 : decode cX3_init 42 = .ok (.newarray .int, 2) := by decide +kernel
theorem dX3_init_44 : decode cX3_init 44 = .ok (.putfield 29, 3) := by decide +kernel
theorem dX3_init_47 : decode cX3_init 47 = .ok (.aload_n 0, 1) := by decide +kernel
theorem dX3_init_48 : decode cX3_init 48 = .ok (.bipush 20, 2) := by decide +kernel
theorem dX3_init_50 : decode cX3_init 50 = .ok (.newarray .int, 2) := by decide +kernel
theorem dX3_init_52 : decode cX3_init 52 = .ok (.putfield 32, 3) := by decide +kernel
theorem dX3_init_55 : decode cX3_init 55 = .ok (.aload_n 0, 1) := by decide +kernel
theorem dX3_init_56 : decode cX3_init 56 = .ok (.bipush 20, 2) := by decide +kernel
theorem dX3_init_58 : decode cX3_init 58 = .ok (.newarray .int, 2) := by decide +kernel
theorem dX3_init_60 : decode cX3_init 60 = .ok (.putfield 35, 3) := by decide +kernel
theorem dX3_init_63 : decode cX3_init 63 = .ok (.aload_n 0, 1) := by decide +kernel
theorem dX3_init_64 : decode cX3_init 64 = .ok (.bipush 20, 2) := by decide +kernel
theorem dX3_init_66 : decode cX3_init 66 = .ok (.newarray .int, 2) := by decide +kernel
theorem dX3_init_68 : decode cX3_init 68 = .ok (.putfield 38, 3) := by decide +kernel
theorem dX3_init_71 : decode cX3_init 71 = .ok (.return_, 1) := by decide +kernel
theorem dX3_copy_0 : decode cX3_copy 0 = .ok (.aload_n 1, 1) := by decide +kernel
theorem dX3_copy_1 : decode cX3_copy 1 = .ok (.iconst 0, 1) := by decide +kernel
theorem dX3_copy_2 : decode cX3_copy 2 = .ok (.aload_n 2, 1) := by decide +kernel
theorem dX3_copy_3 : decode cX3_copy 3 = .ok (.iconst 0, 1) := by decide +kernel
theorem dX3_copy_4 : decode cX3_copy 4 = .ok (.bipush 20, 2) := by decide +kernel
theorem dX3_copy_6 : decode cX3_copy 6 = .ok (.invokestatic 41, 3) := by decide +kernel
theorem dX3_copy_9 : decode cX3_copy 9 = .ok (.return_, 1) := by decide +kernel
theorem dX3_become_0 : decode cX3_become 0 = .ok (.aload_n 0, 1) := by decide +kernel
theorem dX3_become_1 : decode cX3_become 1 = .ok (.aload_n 1, 1) := by decide +kernel
theorem dX3_become_2 : decode cX3_become 2 = .ok (.getfield 47, 3) := by decide +kernel
theorem dX3_become_5 : decode cX3_become 5 = .ok (.putfield 47, 3) := by decide +kernel
theorem dX3_become_8 : decode cX3_become 8 = .ok (.aload_n 0, 1) := by decide +kernel
theorem dX3_become_9 : decode cX3_become 9 = .ok (.aload_n 1, 1) := by decide +kernel
theorem dX3_become_10 : decode cX3_become 10 = .ok (.getfield 50, 3) := by decide +kernel
theorem dX3_become_13 : decode cX3_become 13 = .ok (.putfield 50, 3) := by decide +kernel
theorem dX3_become_16 : decode cX3_become 16 = .ok (.aload_n 0, 1) := by decide +kernel
theorem dX3_become_17 : decode cX3_become 17 = .ok (.aload_n 1, 1) := by decide +kernel
theorem dX3_become_18 : decode cX3_become 18 = .ok (.getfield 15, 3) := by decide +kernel
theorem dX3_become_21 : decode cX3_become 21 = .ok (.putfield 15, 3) := by decide +kernel
theorem dX3_become_24 : decode cX3_become 24 = .ok (.aload_n 0, 1) := by decide +kernel
theorem dX3_become_25 : decode cX3_become 25 = .ok (.aload_n 1, 1) := by decide +kernel
theorem dX3_become_26 : decode cX3_become 26 = .ok (.getfield 53, 3) := by decide +kernel
theorem dX3_become_29 : decode cX3_become 29 = .ok (.putfield 53, 3) := by decide +kernel
theorem dX3_become_32 : decode cX3_become 32 = .ok (.aload_n 0, 1) := by decide +kernel
theorem dX3_become_33 : decode cX3_become 33 = .ok (.aload_n 1, 1) := by decide +kernel
theorem dX3_become_34 : decode cX3_become 34 = .ok (.getfield 19, 3) := by decide +kernel
theorem dX3_become_37 : decode cX3_become 37 = .ok (.aload_n 0, 1) := by decide +kernel
theorem dX3_become_38 : decode cX3_become 38 = .ok (.getfield 19, 3) := by decide +kernel
theorem dX3_become_41 : decode cX3_become 41 = .ok (.invokevirtual 56, 3) := by decide +kernel
theorem dX3_become_44 : decode cX3_become 44 = .ok (.aload_n 0, 1) := by decide +kernel
theorem dX3_become_45 : decode cX3_become 45 = .ok (.aload_n 1, 1) := by decide +kernel
theorem dX3_become_46 : decode cX3_become 46 = .ok (.getfield 23, 3) := by decide +kernel
theorem dX3_become_49 : decode cX3_become 49 = .ok (.aload_n 0, 1) := by decide +kernel
theorem dX3_become_50 : decode cX3_become 50 = .ok (.getfield 23, 3) := by decide +kernel
theorem dX3_become_53 : decode cX3_become 53 = .ok (.invokevirtual 56, 3) := by decide +kernel
theorem dX3_become_56 : decode cX3_become 56 = .ok (.aload_n 0, 1) := by decide +kernel
theorem dX3_become_57 : decode cX3_become 57 = .ok (.aload_n 1, 1) := by decide +kernel
theorem dX3_become_58 : decode cX3_become 58 = .ok (.getfield 26, 3) := by decide +kernel
theorem dX3_become_61 : decode cX3_become 61 = .ok (.aload_n 0, 1) := by decide +kernel
theorem dX3_become_62 : decode cX3_become 62 = .ok (.getfield 26, 3) := by decide +kernel
theorem dX3_become_65 : decode cX3_become 65 = .ok (.invokevirtual 56, 3) := by decide +kernel
theorem dX3_become_68 : decode cX3_become 68 = .ok (.aload_n 0, 1) := by decide +kernel
theorem dX3_become_69 : decode cX3_become 69 = .ok (.aload_n 1, 1) := by decide +kernel
theorem dX3_become_70 : decode cX3_become 70 = .ok (.getfield 29, 3) := by decide +kernel
theorem dX3_become_73 : decode cX3_become 73 = .ok (.aload_n 0, 1) := by decide +kernel
theorem dX3_become_74 : decode cX3_become 74 = .ok (.getfield 29, 3) := by decide +kernel
theorem dX3_become_77 : decode cX3_become 77 = .ok (.invokevirtual 56, 3) := by decide +kernel
theorem dX3_become_80 : decode cX3_become 80 = .ok (.aload_n 0, 1) := by decide +kernel
theorem dX3_become_81 : decode cX3_become 81 = .ok (.aload_n 1, 1) := by decide +kernel
theorem dX3_become_82 : decode cX3_become 82 = .ok (.getfield 32, 3) := by decide +kernel
theorem dX3_become_85 : decode cX3_become 85 = .ok (.aload_n 0, 1) := by decide +kernel
theorem dX3_become_86 : decode cX3_become 86 = .ok (.getfield 32, 3) := by decide +kernel
theorem dX3_become_89 : decode cX3_become 89 = .ok (.invokevirtual 56, 3) := by decide +kernel
theorem dX3_become_92 : decode cX3_become 92 = .ok (.aload_n 0, 1) := by decide +kernel
theorem dX3_become_93 : decode cX3_become 93 = .ok (.aload_n 1, 1) := by decide +kernel
theorem dX3_become_94 : decode cX3_become 94 = .ok (.getfield 35, 3) := by decide +kernel
theorem dX3_become_97 : decode cX3_become 97 = .ok (.aload_n 0, 1) := by decide +kernel
theorem dX3_become_98 : decode cX3_become 98 = .ok (.getfield 35, 3) := by decide +kernel
theorem dX3_become_101 : decode cX3_become 101 = .ok (.invokevirtual 56, 3) := by decide +kernel
theorem dX3_become_104 : decode cX3_become 104 = .ok (.aload_n 0, 1) := by decide +kernel
theorem dX3_become_105 : decode cX3_become 105 = .ok (.aload_n 1, 1) := by decide +kernel
theorem dX3_become_106 : decode cX3_become 106 = .ok (.getfield 38, 3) := by decide +kernel
theorem dX3_become_109 : decode cX3_become 109 = .ok (.aload_n 0, 1) := by decide +kernel
theorem dX3_become_110 : decode cX3_become 110 = .ok (.getfield 38, 3) := by decide +kernel
theorem dX3_become_113 : decode cX3_become 113 = .ok (.invokevirtual 56, 3) := by decide +kernel
theorem dX3_become_116 : decode cX3_become 116 = .ok (.aload_n 0, 1) := by decide +kernel
theorem dX3_become_117 : decode cX3_become 117 = .ok (.aload_n 1, 1) := by decide +kernel
theorem dX3_become_118 : decode cX3_become 118 = .ok (.getfield 60, 3) := by decide +kernel
theorem dX3_become_121 : decode cX3_become 121 = .ok (.putfield 60, 3) := by decide +kernel
theorem dX3_become_124 : decode cX3_become 124 = .ok (.aload_n 0, 1) := by decide +kernel
theorem dX3_become_125 : decode cX3_become 125 = .ok (.aload_n 1, 1) := by decide +kernel
theorem dX3_become_126 : decode cX3_become 126 = .ok (.getfield 63, 3) := by decide +kernel
theorem dX3_become_129 : decode cX3_become 129 = .ok (.putfield 63, 3) := by decide +kernel
theorem dX3_become_132 : decode cX3_become 132 = .ok (.aload_n 0, 1) := by decide +kernel
theorem dX3_become_133 : decode cX3_become 133 = .ok (.aload_n 1, 1) := by decide +kernel
theorem dX3_become_134 : decode cX3_become 134 = .ok (.getfield 66, 3) := by decide +kernel
theorem dX3_become_137 : decode cX3_become 137 = .ok (.putfield 66, 3) := by decide +kernel
theorem dX3_become_140 : decode cX3_become 140 = .ok (.aload_n 0, 1) := by decide +kernel
theorem dX3_become_141 : decode cX3_become 141 = .ok (.aload_n 1, 1) := by decide +kernel
theorem dX3_become_142 : decode cX3_become 142 = .ok (.getfield 69, 3) := by decide +kernel
theorem dX3_become_145 : decode cX3_become 145 = .ok (.putfield 69, 3) := by decide +kernel
theorem dX3_become_148 : decode cX3_become 148 = .ok (.aload_n 0, 1) := by decide +kernel
theorem dX3_become_149 : decode cX3_become 149 = .ok (.aload_n 1, 1) := by decide +kernel
theorem dX3_become_150 : decode cX3_become 150 = .ok (.getfield 72, 3) := by decide +kernel
theorem dX3_become_153 : decode cX3_become 153 = .ok (.putfield 72, 3) := by decide +kernel
theorem dX3_become_156 : decode cX3_become 156 = .ok (.return_, 1) := by decide +kernel
theorem dX3_come_0 : decode cX3_come 0 = .ok (.iload_n 2, 1) := by decide +kernel
theorem dX3_come_1 : decode cX3_come 1 = .ok (.iload_n 1, 1) := by decide +kernel
theorem dX3_come_2 : decode cX3_come 2 = .ok (.aload_n 0, 1) := by decide +kernel
theorem dX3_come_3 : decode cX3_come 3 = .ok (.getfield 3, 3) := by decide +kernel
theorem dX3_come_6 : decode cX3_come 6 = .ok (.getfield 75, 3) := by decide +kernel
theorem dX3_come_9 : decode cX3_come 9 = .ok (.if_icmp .ge 22, 3) := by decide +kernel
theorem dX3_come_12 : decode cX3_come 12 = .ok (.aload_n 0, 1) := by decide +kernel
theorem dX3_come_13 : decode cX3_come 13 = .ok (.getfield 3, 3) := by decide +kernel
theorem dX3_come_16 : decode cX3_come 16 = .ok (.getfield 78, 3) := by decide +kernel
theorem dX3_come_19 : decode cX3_come 19 = .ok (.iload_n 1, 1) := by decide +kernel
theorem dX3_come_20 : decode cX3_come 20 = .ok (.iaload, 1) := by decide +kernel
theorem dX3_come_21 : decode cX3_come 21 = .ok (.aload_n 0, 1) := by decide +kernel
theorem dX3_come_22 : decode cX3_come 22 = .ok (.getfield 19, 3) := by decide +kernel
theorem dX3_come_25 : decode cX3_come 25 = .ok (.iload_n 1, 1) := by decide +kernel
theorem dX3_come_26 : decode cX3_come 26 = .ok (.iaload, 1) := by decide +kernel
theorem dX3_come_27 : decode cX3_come 27 = .ok (.isub, 1) := by decide +kernel
theorem dX3_come_28 : decode cX3_come 28 = .ok (.goto 12, 3) := by decide +kernel
theorem dX3_come_31 : decode cX3_come 31 = .ok (.aload_n 0, 1) := by decide +kernel
theorem dX3_come_32 : decode cX3_come 32 = .ok (.getfield 15, 3) := by decide +kernel
theorem dX3_come_35 : decode cX3_come 35 = .ok (.aload_n 0, 1) := by decide +kernel
theorem dX3_come_36 : decode cX3_come 36 = .ok (.getfield 50, 3) := by decide +kernel
theorem dX3_come_39 : decode cX3_come 39 = .ok (.isub, 1) := by decide +kernel
theorem dX3_come_40 : decode cX3_come 40 = .ok (.invokestatic 81, 3) := by decide +kernel
theorem dX3_come_43 : decode cX3_come 43 = .ok (.istore_n 3, 1) := by decide +kernel
theorem dX3_come_44 : decode cX3_come 44 = .ok (.iload_n 1, 1) := by decide +kernel
theorem dX3_come_45 : decode cX3_come 45 = .ok (.aload_n 0, 1) := by decide +kernel
theorem dX3_come_46 : decode cX3_come 46 = .ok (.getfield 3, 3) := by decide +kernel
theorem dX3_come_49 : decode cX3_come 49 = .ok (.getfield 75, 3) := by decide +kernel
theorem dX3_come_52 : decode cX3_come 52 = .ok (.if_icmp .ge 16, 3) := by decide +kernel
theorem dX3_come_55 : decode cX3_come 55 = .ok (.aload_n 0, 1) := by decide +kernel
theorem dX3_come_56 : decode cX3_come 56 = .ok (.getfield 19, 3) := by decide +kernel
theorem dX3_come_59 : decode cX3_come 59 = .ok (.iload_n 1, 1) := by decide +kernel
theorem dX3_come_60 : decode cX3_come 60 = .ok (.dup2, 1) := by decide +kernel
theorem dX3_come_61 : decode cX3_come 61 = .ok (.iaload, 1) := by decide +kernel
theorem dX3_come_62 : decode cX3_come 62 = .ok (.iload_n 3, 1) := by decide +kernel
theorem dX3_come_63 : decode cX3_come 63 = .ok (.iadd, 1) := by decide +kernel
theorem dX3_come_64 : decode cX3_come 64 = .ok (.iastore, 1) := by decide +kernel
theorem dX3_come_65 : decode cX3_come 65 = .ok (.goto 13, 3) := by decide +kernel
theorem dX3_come_68 : decode cX3_come 68 = .ok (.aload_n 0, 1) := by decide +kernel
theorem dX3_come_69 : decode cX3_come 69 = .ok (.dup, 1) := by decide +kernel
theorem dX3_come_70 : decode cX3_come 70 = .ok (.getfield 50, 3) := by decide +kernel
theorem dX3_come_73 : decode cX3_come 73 = .ok (.iload_n 3, 1) := by decide +kernel
theorem dX3_come_74 : decode cX3_come 74 = .ok (.iadd, 1) := by decide +kernel
theorem dX3_come_75 : decode cX3_come 75 = .ok (.putfield 50, 3) := by decide +kernel
theorem dX3_come_78 : decode cX3_come 78 = .ok (.iload_n 3, 1) := by decide +kernel
theorem dX3_come_79 : decode cX3_come 79 = .ok (.ireturn, 1) := by decide +kernel
theorem dX3_pass_0 : decode cX3_pass 0 = .ok (.aload_n 0, 1) := by decide +kernel
theorem dX3_pass_1 : decode cX3_pass 1 = .ok (.getfield 47, 3) := by decide +kernel
theorem dX3_pass_4 : decode cX3_pass 4 = .ok (.bipush 24, 2) := by decide +kernel
theorem dX3_pass_6 : decode cX3_pass 6 = .ok (.irem, 1) := by decide +kernel
theorem dX3_pass_7 : decode cX3_pass 7 = .ok (.istore_n 1, 1) := by decide +kernel
theorem dX3_pass_8 : decode cX3_pass 8 = .ok (.aload_n 0, 1) := by decide +kernel
theorem dX3_pass_9 : decode cX3_pass 9 = .ok (.getfield 72, 3) := by decide +kernel
theorem dX3_pass_12 : decode cX3_pass 12 = .ok (.istore_n 2, 1) := by decide +kernel
theorem dX3_pass_13 : decode cX3_pass 13 = .ok (.aload_n 0, 1) := by decide +kernel
theorem dX3_pass_14 : decode cX3_pass 14 = .ok (.getfield 3, 3) := by decide +kernel
theorem dX3_pass_17 : decode cX3_pass 17 = .ok (.getfield 87, 3) := by decide +kernel
theorem dX3_pass_20 : decode cX3_pass 20 = .ok (.iload_n 1, 1) := by decide +kernel
theorem dX3_pass_21 : decode cX3_pass 21 = .ok (.iaload, 1) := by decide +kernel
theorem dX3_pass_22 : decode cX3_pass 22 = .ok (.aload_n 0, 1) := by decide +kernel
theorem dX3_pass_23 : decode cX3_pass 23 = .ok (.getfield 50, 3) := by decide +kernel
theorem dX3_pass_26 : decode cX3_pass 26 = .ok (.invokestatic 81, 3) := by decide +kernel
theorem dX3_pass_29 : decode cX3_pass 29 = .ok (.istore_n 3, 1) := by decide +kernel
theorem dX3_pass_30 : decode cX3_pass 30 = .ok (.aload_n 0, 1) := by decide +kernel
theorem dX3_pass_31 : decode cX3_pass 31 = .ok (.dup, 1) := by decide +kernel
theorem dX3_pass_32 : decode cX3_pass 32 = .ok (.getfield 50, 3) := by decide +kernel
theorem dX3_pass_35 : decode cX3_pass 35 = .ok (.iload_n 3, 1) := by decide +kernel
theorem dX3_pass_36 : decode cX3_pass 36 = .ok (.isub, 1) := by decide +kernel
theorem dX3_pass_37 : decode cX3_pass 37 = .ok (.putfield 50, 3) := by decide +kernel
theorem dX3_pass_40 : decode cX3_pass 40 = .ok (.aload_n 0, 1) := by decide +kernel
theorem dX3_pass_41 : decode cX3_pass 41 = .ok (.dup, 1) := by decide +kernel
theorem dX3_pass_42 : decode cX3_pass 42 = .ok (.getfield 69, 3) := by decide +kernel
theorem dX3_pass_45 : decode cX3_pass 45 = .ok (.iload_n 3, 1) := by decide +kernel
theorem dX3_pass_46 : decode cX3_pass 46 = .ok (.iadd, 1) := by decide +kernel
theorem dX3_pass_47 : decode cX3_pass 47 = .ok (.putfield 69, 3) := by decide +kernel
theorem dX3_pass_50 : decode cX3_pass 50 = .ok (.aload_n 0, 1) := by decide +kernel
theorem dX3_pass_51 : decode cX3_pass 51 = .ok (.dup, 1) := by decide +kernel
theorem dX3_pass_52 : decode cX3_pass 52 = .ok (.getfield 72, 3) := by decide +kernel
theorem dX3_pass_55 : decode cX3_pass 55 = .ok (.aload_n 0, 1) := by decide +kernel
theorem dX3_pass_56 : decode cX3_pass 56 = .ok (.getfield 3, 3) := by decide +kernel
theorem dX3_pass_59 : decode cX3_pass 59 = .ok (.getfield 87, 3) := by decide +kernel
theorem dX3_pass_62 : decode cX3_pass 62 = .ok (.iload_n 1, 1) := by decide +kernel
theorem dX3_pass_63 : decode cX3_pass 63 = .ok (.iaload, 1) := by decide +kernel
theorem dX3_pass_64 : decode cX3_pass 64 = .ok (.iload_n 3, 1) := by decide +kernel
theorem dX3_pass_65 : decode cX3_pass 65 = .ok (.isub, 1) := by decide +kernel
theorem dX3_pass_66 : decode cX3_pass 66 = .ok (.iadd, 1) := by decide +kernel
theorem dX3_pass_67 : decode cX3_pass 67 = .ok (.putfield 72, 3) := by decide +kernel
theorem dX3_pass_70 : decode cX3_pass 70 = .ok (.aload_n 0, 1) := by decide +kernel
theorem dX3_pass_71 : decode cX3_pass 71 = .ok (.getfield 3, 3) := by decide +kernel
theorem dX3_pass_74 : decode cX3_pass 74 = .ok (.getfield 75, 3) := by decide +kernel
theorem dX3_pass_77 : decode cX3_pass 77 = .ok (.iconst 1, 1) := by decide +kernel
theorem dX3_pass_78 : decode cX3_pass 78 = .ok (.isub, 1) := by decide +kernel
theorem dX3_pass_79 : decode cX3_pass 79 = .ok (.istore 4, 2) := by decide +kernel
theorem dX3_pass_81 : decode cX3_pass 81 = .ok (.iload 4, 2) := by decide +kernel
theorem dX3_pass_83 : decode cX3_pass 83 = .ok (.ifCond .lt 99, 3) := by decide +kernel
theorem dX3_pass_86 : decode cX3_pass 86 = .ok (.aload_n 0, 1) := by decide +kernel
theorem dX3_pass_87 : decode cX3_pass 87 = .ok (.getfield 19, 3) := by decide +kernel
theorem dX3_pass_90 : decode cX3_pass 90 = .ok (.iload 4, 2) := by decide +kernel
theorem dX3_pass_92 : decode cX3_pass 92 = .ok (.iaload, 1) := by decide +kernel
theorem dX3_pass_93 : decode cX3_pass 93 = .ok (.aload_n 0, 1) := by decide +kernel
theorem dX3_pass_94 : decode cX3_pass 94 = .ok (.getfield 3, 3) := by decide +kernel
theorem dX3_pass_97 : decode cX3_pass 97 = .ok (.iload 4, 2) := by decide +kernel
theorem dX3_pass_99 : decode cX3_pass 99 = .ok (.invokevirtual 90, 3) := by decide +kernel
theorem dX3_pass_102 : decode cX3_pass 102 = .ok (.invokestatic 81, 3) := by decide +kernel
theorem dX3_pass_105 : decode cX3_pass 105 = .ok (.istore 5, 2) := by decide +kernel
theorem dX3_pass_107 : decode cX3_pass 107 = .ok (.aload_n 0, 1) := by decide +kernel
theorem dX3_pass_108 : decode cX3_pass 108 = .ok (.getfield 38, 3) := by decide +kernel
theorem dX3_pass_111 : decode cX3_pass 111 = .ok (.iload 4, 2) := by decide +kernel
theorem dX3_pass_113 : decode cX3_pass 113 = .ok (.aload_n 0, 1) := by decide +kernel
theorem dX3_pass_114 : decode cX3_pass 114 = .ok (.getfield 3, 3) := by decide +kernel
theorem dX3_pass_117 : decode cX3_pass 117 = .ok (.getfield 94, 3) := by decide +kernel
theorem dX3_pass_120 : decode cX3_pass 120 = .ok (.iload 4, 2) := by decide +kernel
theorem dX3_pass_122 : decode cX3_pass 122 = .ok (.iaload, 1) := by decide +kernel
theorem dX3_pass_123 : decode cX3_pass 123 = .ok (.iload 5, 2) := by decide +kernel
theorem dX3_pass_125 : decode cX3_pass 125 = .ok (.aload_n 0, 1) := by decide +kernel
theorem dX3_pass_126 : decode cX3_pass 126 = .ok (.getfield 32, 3) := by decide +kernel
theorem dX3_pass_129 : decode cX3_pass 129 = .ok (.iload 4, 2) := by decide +kernel
theorem dX3_pass_131 : decode cX3_pass 131 = .ok (.iaload, 1) := by decide +kernel
theorem dX3_pass_132 : decode cX3_pass 132 = .ok (.imul, 1) := by decide +kernel
theorem dX3_pass_133 : decode cX3_pass 133 = .ok (.bipush 10, 2) := by decide +kernel
theorem dX3_pass_135 : decode cX3_pass 135 = .ok (.idiv, 1) := by decide +kernel
theorem dX3_pass_136 : decode cX3_pass 136 = .ok (.invokestatic 81, 3) := by decide +kernel
theorem dX3_pass_139 : decode cX3_pass 139 = .ok (.iastore, 1) := by decide +kernel
theorem dX3_pass_140 : decode cX3_pass 140 = .ok (.aload_n 0, 1) := by decide +kernel
theorem dX3_pass_141 : decode cX3_pass 141 = .ok (.getfield 19, 3) := by decide +kernel
theorem dX3_pass_144 : decode cX3_pass 144 = .ok (.iload 4, 2) := by decide +kernel
theorem dX3_pass_146 : decode cX3_pass 146 = .ok (.dup2, 1) := by decide +kernel
theorem dX3_pass_147 : decode cX3_pass 147 = .ok (.iaload, 1) := by decide +kernel
theorem dX3_pass_148 : decode cX3_pass 148 = .ok (.aload_n 0, 1) := by decide +kernel
theorem dX3_pass_149 : decode cX3_pass 149 = .ok (.getfield 38, 3) := by decide +kernel
theorem dX3_pass_152 : decode cX3_pass 152 = .ok (.iload 4, 2) := by decide +kernel
theorem dX3_pass_154 : decode cX3_pass 154 = .ok (.iaload, 1) := by decide +kernel
theorem dX3_pass_155 : decode cX3_pass 155 = .ok (.aload_n 0, 1) := by decide +kernel
theorem dX3_pass_156 : decode cX3_pass 156 = .ok (.iload 4, 2) := by decide +kernel
theorem dX3_pass_158 : decode cX3_pass 158 = .ok (.iconst 1, 1) := by decide +kernel
theorem dX3_pass_159 : decode cX3_pass 159 = .ok (.iadd, 1) := by decide +kernel
theorem dX3_pass_160 : decode cX3_pass 160 = .ok (.iload 5, 2) := by decide +kernel
theorem dX3_pass_162 : decode cX3_pass 162 = .ok (.aload_n 0, 1) := by decide +kernel
theorem dX3_pass_163 : decode cX3_pass 163 = .ok (.getfield 38, 3) := by decide +kernel
theorem dX3_pass_166 : decode cX3_pass 166 = .ok (.iload 4, 2) := by decide +kernel
theorem dX3_pass_168 : decode cX3_pass 168 = .ok (.iaload, 1) := by decide +kernel
theorem dX3_pass_169 : decode cX3_pass 169 = .ok (.isub, 1) := by decide +kernel
theorem dX3_pass_170 : decode cX3_pass 170 = .ok (.invokevirtual 97, 3) := by decide +kernel
theorem dX3_pass_173 : decode cX3_pass 173 = .ok (.iadd, 1) := by decide +kernel
theorem dX3_pass_174 : decode cX3_pass 174 = .ok (.isub, 1) := by decide +kernel
theorem dX3_pass_175 : decode cX3_pass 175 = .ok (.iastore, 1) := by decide +kernel
theorem dX3_pass_176 : decode cX3_pass 176 = .ok (.iinc 4 (-1), 3) := by decide +kernel
theorem dX3_pass_179 : decode cX3_pass 179 = .ok (.goto (-98), 3) := by decide +kernel
theorem dX3_pass_182 : decode cX3_pass 182 = .ok (.iconst 0, 1) := by decide +kernel
theorem dX3_pass_183 : decode cX3_pass 183 = .ok (.istore 4, 2) := by decide +kernel
theorem dX3_pass_185 : decode cX3_pass 185 = .ok (.iload 4, 2) := by decide +kernel
theorem dX3_pass_187 : decode cX3_pass 187 = .ok (.aload_n 0, 1) := by decide +kernel
theorem dX3_pass_188 : decode cX3_pass 188 = .ok (.getfield 3, 3) := by decide +kernel
theorem dX3_pass_191 : decode cX3_pass 191 = .ok (.getfield 75, 3) := by decide +kernel
theorem dX3_pass_194 : decode cX3_pass 194 = .ok (.if_icmp .ge 15, 3) := by decide +kernel
theorem dX3_pass_197 : decode cX3_pass 197 = .ok (.aload_n 0, 1) := by decide +kernel
theorem dX3_pass_198 : decode cX3_pass 198 = .ok (.iload 4, 2) := by decide +kernel
theorem dX3_pass_200 : decode cX3_pass 200 = .ok (.invokevirtual 100, 3) := by decide +kernel
theorem dX3_pass_203 : decode cX3_pass 203 = .ok (.iinc 4 1, 3) := by decide +kernel
theorem dX3_pass_206 : decode cX3_pass 206 = .ok (.goto (-21), 3) := by decide +kernel
theorem dX3_pass_209 : decode cX3_pass 209 = .ok (.aload_n 0, 1) := by decide +kernel
theorem dX3_pass_210 : decode cX3_pass 210 = .ok (.dup, 1) := by decide +kernel
theorem dX3_pass_211 : decode cX3_pass 211 = .ok (.getfield 60, 3) := by decide +kernel
theorem dX3_pass_214 : decode cX3_pass 214 = .ok (.aload_n 0, 1) := by decide +kernel
theorem dX3_pass_215 : decode cX3_pass 215 = .ok (.getfield 3, 3) := by decide +kernel
theorem dX3_pass_218 : decode cX3_pass 218 = .ok (.getfield 104, 3) := by decide +kernel
theorem dX3_pass_221 : decode cX3_pass 221 = .ok (.iload_n 1, 1) := by decide +kernel
theorem dX3_pass_222 : decode cX3_pass 222 = .ok (.iaload, 1) := by decide +kernel
theorem dX3_pass_223 : decode cX3_pass 223 = .ok (.iadd, 1) := by decide +kernel
theorem dX3_pass_224 : decode cX3_pass 224 = .ok (.putfield 60, 3) := by decide +kernel
theorem dX3_pass_227 : decode cX3_pass 227 = .ok (.aload_n 0, 1) := by decide +kernel
theorem dX3_pass_228 : decode cX3_pass 228 = .ok (.dup, 1) := by decide +kernel
theorem dX3_pass_229 : decode cX3_pass 229 = .ok (.getfield 63, 3) := by decide +kernel
theorem dX3_pass_232 : decode cX3_pass 232 = .ok (.aload_n 0, 1) := by decide +kernel
theorem dX3_pass_233 : decode cX3_pass 233 = .ok (.getfield 3, 3) := by decide +kernel
theorem dX3_pass_236 : decode cX3_pass 236 = .ok (.getfield 75, 3) := by decide +kernel
theorem dX3_pass_239 : decode cX3_pass 239 = .ok (.ifCond .ne 15, 3) := by decide +kernel
theorem dX3_pass_242 : decode cX3_pass 242 = .ok (.aload_n 0, 1) := by decide +kernel
theorem dX3_pass_243 : decode cX3_pass 243 = .ok (.getfield 3, 3) := by decide +kernel
theorem dX3_pass_246 : decode cX3_pass 246 = .ok (.getfield 104, 3) := by decide +kernel
theorem dX3_pass_249 : decode cX3_pass 249 = .ok (.iload_n 1, 1) := by decide +kernel
theorem dX3_pass_250 : decode cX3_pass 250 = .ok (.iaload, 1) := by decide +kernel
theorem dX3_pass_251 : decode cX3_pass 251 = .ok (.goto 27, 3) := by decide +kernel
theorem dX3_pass_254 : decode cX3_pass 254 = .ok (.aload_n 0, 1) := by decide +kernel
theorem dX3_pass_255 : decode cX3_pass 255 = .ok (.getfield 3, 3) := by decide +kernel
theorem dX3_pass_258 : decode cX3_pass 258 = .ok (.getfield 104, 3) := by decide +kernel
theorem dX3_pass_261 : decode cX3_pass 261 = .ok (.iload_n 1, 1) := by decide +kernel
theorem dX3_pass_262 : decode cX3_pass 262 = .ok (.iaload, 1) := by decide +kernel
theorem dX3_pass_263 : decode cX3_pass 263 = .ok (.aload_n 0, 1) := by decide +kernel
theorem dX3_pass_264 : decode cX3_pass 264 = .ok (.iconst 0, 1) := by decide +kernel
theorem dX3_pass_265 : decode cX3_pass 265 = .ok (.aload_n 0, 1) := by decide +kernel
theorem dX3_pass_266 : decode cX3_pass 266 = .ok (.getfield 3, 3) := by decide +kernel
theorem dX3_pass_269 : decode cX3_pass 269 = .ok (.getfield 104, 3) := by decide +kernel
theorem dX3_pass_272 : decode cX3_pass 272 = .ok (.iload_n 1, 1) := by decide +kernel
theorem dX3_pass_273 : decode cX3_pass 273 = .ok (.iaload, 1) := by decide +kernel
theorem dX3_pass_274 : decode cX3_pass 274 = .ok (.invokevirtual 97, 3) := by decide +kernel
theorem dX3_pass_277 : decode cX3_pass 277 = .ok (.isub, 1) := by decide +kernel
theorem dX3_pass_278 : decode cX3_pass 278 = .ok (.iadd, 1) := by decide +kernel
theorem dX3_pass_279 : decode cX3_pass 279 = .ok (.putfield 63, 3) := by decide +kernel
theorem dX3_pass_282 : decode cX3_pass 282 = .ok (.iconst 0, 1) := by decide +kernel
theorem dX3_pass_283 : decode cX3_pass 283 = .ok (.istore 4, 2) := by decide +kernel
theorem dX3_pass_285 : decode cX3_pass 285 = .ok (.iload 4, 2) := by decide +kernel
theorem dX3_pass_287 : decode cX3_pass 287 = .ok (.aload_n 0, 1) := by decide +kernel
theorem dX3_pass_288 : decode cX3_pass 288 = .ok (.getfield 3, 3) := by decide +kernel
theorem dX3_pass_291 : decode cX3_pass 291 = .ok (.getfield 75, 3) := by decide +kernel
theorem dX3_pass_294 : decode cX3_pass 294 = .ok (.if_icmp .ge 95, 3) := by decide +kernel
theorem dX3_pass_297 : decode cX3_pass 297 = .ok (.aload_n 0, 1) := by decide +kernel
theorem dX3_pass_298 : decode cX3_pass 298 = .ok (.getfield 26, 3) := by decide +kernel
theorem dX3_pass_301 : decode cX3_pass 301 = .ok (.iload 4, 2) := by decide +kernel
theorem dX3_pass_303 : decode cX3_pass 303 = .ok (.dup2, 1) := by decide +kernel
theorem dX3_pass_304 : decode cX3_pass 304 = .ok (.iaload, 1) := by decide +kernel
theorem dX3_pass_305 : decode cX3_pass 305 = .ok (.aload_n 0, 1) := by decide +kernel
theorem dX3_pass_306 : decode cX3_pass 306 = .ok (.getfield 19, 3) := by decide +kernel
theorem dX3_pass_309 : decode cX3_pass 309 = .ok (.iload 4, 2) := by decide +kernel
theorem dX3_pass_311 : decode cX3_pass 311 = .ok (.iaload, 1) := by decide +kernel
theorem dX3_pass_312 : decode cX3_pass 312 = .ok (.aload_n 0, 1) := by decide +kernel
theorem dX3_pass_313 : decode cX3_pass 313 = .ok (.getfield 23, 3) := by decide +kernel
theorem dX3_pass_316 : decode cX3_pass 316 = .ok (.iload 4, 2) := by decide +kernel
theorem dX3_pass_318 : decode cX3_pass 318 = .ok (.iaload, 1) := by decide +kernel
theorem dX3_pass_319 : decode cX3_pass 319 = .ok (.imul, 1) := by decide +kernel
theorem dX3_pass_320 : decode cX3_pass 320 = .ok (.bipush 10, 2) := by decide +kernel
theorem dX3_pass_322 : decode cX3_pass 322 = .ok (.idiv, 1) := by decide +kernel
theorem dX3_pass_323 : decode cX3_pass 323 = .ok (.iadd, 1) := by decide +kernel
theorem dX3_pass_324 : decode cX3_pass 324 = .ok (.iastore, 1) := by decide +kernel
theorem dX3_pass_325 : decode cX3_pass 325 = .ok (.aload_n 0, 1) := by decide +kernel
theorem dX3_pass_326 : decode cX3_pass 326 = .ok (.getfield 19, 3) := by decide +kernel
theorem dX3_pass_329 : decode cX3_pass 329 = .ok (.iload 4, 2) := by decide +kernel
theorem dX3_pass_331 : decode cX3_pass 331 = .ok (.iaload, 1) := by decide +kernel
theorem dX3_pass_332 : decode cX3_pass 332 = .ok (.aload_n 0, 1) := by decide +kernel
theorem dX3_pass_333 : decode cX3_pass 333 = .ok (.getfield 26, 3) := by decide +kernel
theorem dX3_pass_336 : decode cX3_pass 336 = .ok (.iload 4, 2) := by decide +kernel
theorem dX3_pass_338 : decode cX3_pass 338 = .ok (.iaload, 1) := by decide +kernel
theorem dX3_pass_339 : decode cX3_pass 339 = .ok (.bipush 10, 2) := by decide +kernel
theorem dX3_pass_341 : decode cX3_pass 341 = .ok (.idiv, 1) := by decide +kernel
theorem dX3_pass_342 : decode cX3_pass 342 = .ok (.invokestatic 81, 3) := by decide +kernel
theorem dX3_pass_345 : decode cX3_pass 345 = .ok (.istore 5, 2) := by decide +kernel
theorem dX3_pass_347 : decode cX3_pass 347 = .ok (.aload_n 0, 1) := by decide +kernel
theorem dX3_pass_348 : decode cX3_pass 348 = .ok (.getfield 26, 3) := by decide +kernel
theorem dX3_pass_351 : decode cX3_pass 351 = .ok (.iload 4, 2) := by decide +kernel
theorem dX3_pass_353 : decode cX3_pass 353 = .ok (.dup2, 1) := by decide +kernel
theorem dX3_pass_354 : decode cX3_pass 354 = .ok (.iaload, 1) := by decide +kernel
theorem dX3_pass_355 : decode cX3_pass 355 = .ok (.bipush 10, 2) := by decide +kernel
theorem dX3_pass_357 : decode cX3_pass 357 = .ok (.irem, 1) := by decide +kernel
theorem dX3_pass_358 : decode cX3_pass 358 = .ok (.iastore, 1) := by decide +kernel
theorem dX3_pass_359 : decode cX3_pass 359 = .ok (.aload_n 0, 1) := by decide +kernel
theorem dX3_pass_360 : decode cX3_pass 360 = .ok (.getfield 19, 3) := by decide +kernel
theorem dX3_pass_363 : decode cX3_pass 363 = .ok (.iload 4, 2) := by decide +kernel
theorem dX3_pass_365 : decode cX3_pass 365 = .ok (.dup2, 1) := by decide +kernel
theorem dX3_pass_366 : decode cX3_pass 366 = .ok (.iaload, 1) := by decide +kernel
theorem dX3_pass_367 : decode cX3_pass 367 = .ok (.iload 5, 2) := by decide +kernel
theorem dX3_pass_369 : decode cX3_pass 369 = .ok (.isub, 1) := by decide +kernel
theorem dX3_pass_370 : decode cX3_pass 370 = .ok (.iastore, 1) := by decide +kernel
theorem dX3_pass_371 : decode cX3_pass 371 = .ok (.aload_n 0, 1) := by decide +kernel
theorem dX3_pass_372 : decode cX3_pass 372 = .ok (.getfield 29, 3) := by decide +kernel
theorem dX3_pass_375 : decode cX3_pass 375 = .ok (.iload 4, 2) := by decide +kernel
theorem dX3_pass_377 : decode cX3_pass 377 = .ok (.dup2, 1) := by decide +kernel
theorem dX3_pass_378 : decode cX3_pass 378 = .ok (.iaload, 1) := by decide +kernel
theorem dX3_pass_379 : decode cX3_pass 379 = .ok (.iload 5, 2) := by decide +kernel
theorem dX3_pass_381 : decode cX3_pass 381 = .ok (.iadd, 1) := by decide +kernel
theorem dX3_pass_382 : decode cX3_pass 382 = .ok (.iastore, 1) := by decide +kernel
theorem dX3_pass_383 : decode cX3_pass 383 = .ok (.iinc 4 1, 3) := by decide +kernel
theorem dX3_pass_386 : decode cX3_pass 386 = .ok (.goto (-101), 3) := by decide +kernel
theorem dX3_pass_389 : decode cX3_pass 389 = .ok (.iconst 0, 1) := by decide +kernel
theorem dX3_pass_390 : decode cX3_pass 390 = .ok (.istore 4, 2) := by decide +kernel
theorem dX3_pass_392 : decode cX3_pass 392 = .ok (.iload 4, 2) := by decide +kernel
theorem dX3_pass_394 : decode cX3_pass 394 = .ok (.aload_n 0, 1) := by decide +kernel
theorem dX3_pass_395 : decode cX3_pass 395 = .ok (.getfield 3, 3) := by decide +kernel
theorem dX3_pass_398 : decode cX3_pass 398 = .ok (.getfield 75, 3) := by decide +kernel
theorem dX3_pass_401 : decode cX3_pass 401 = .ok (.if_icmp .ge 60, 3) := by decide +kernel
theorem dX3_pass_404 : decode cX3_pass 404 = .ok (.iload_n 1, 1) := by decide +kernel
theorem dX3_pass_405 : decode cX3_pass 405 = .ok (.bipush 23, 2) := by decide +kernel
theorem dX3_pass_407 : decode cX3_pass 407 = .ok (.if_icmp .ne 54, 3) := by decide +kernel
theorem dX3_pass_410 : decode cX3_pass 410 = .ok (.aload_n 0, 1) := by decide +kernel
theorem dX3_pass_411 : decode cX3_pass 411 = .ok (.getfield 19, 3) := by decide +kernel
theorem dX3_pass_414 : decode cX3_pass 414 = .ok (.iload 4, 2) := by decide +kernel
theorem dX3_pass_416 : decode cX3_pass 416 = .ok (.iaload, 1) := by decide +kernel
theorem dX3_pass_417 : decode cX3_pass 417 = .ok (.ifCond .le 38, 3) := by decide +kernel
theorem dX3_pass_420 : decode cX3_pass 420 = .ok (.aload_n 0, 1) := by decide +kernel
theorem dX3_pass_421 : decode cX3_pass 421 = .ok (.getfield 23, 3) := by decide +kernel
theorem dX3_pass_424 : decode cX3_pass 424 = .ok (.iload 4, 2) := by decide +kernel
theorem dX3_pass_426 : decode cX3_pass 426 = .ok (.bipush 50, 2) := by decide +kernel
theorem dX3_pass_428 : decode cX3_pass 428 = .ok (.aload_n 0, 1) := by decide +kernel
theorem dX3_pass_429 : decode cX3_pass 429 = .ok (.getfield 23, 3) := by decide +kernel
theorem dX3_pass_432 : decode cX3_pass 432 = .ok (.iload 4, 2) := by decide +kernel
theorem dX3_pass_434 : decode cX3_pass 434 = .ok (.iaload, 1) := by decide +kernel
theorem dX3_pass_435 : decode cX3_pass 435 = .ok (.aload_n 0, 1) := by decide +kernel
theorem dX3_pass_436 : decode cX3_pass 436 = .ok (.getfield 32, 3) := by decide +kernel
theorem dX3_pass_439 : decode cX3_pass 439 = .ok (.iload 4, 2) := by decide +kernel
theorem dX3_pass_441 : decode cX3_pass 441 = .ok (.iaload, 1) := by decide +kernel
theorem dX3_pass_442 : decode cX3_pass 442 = .ok (.ifCond .le 7, 3) := by decide +kernel
theorem dX3_pass_445 : decode cX3_pass 445 = .ok (.iconst 2, 1) := by decide +kernel
theorem dX3_pass_446 : decode cX3_pass 446 = .ok (.goto 4, 3) := by decide +kernel
theorem dX3_pass_449 : decode cX3_pass 449 = .ok (.iconst 1, 1) := by decide +kernel
theorem dX3_pass_450 : decode cX3_pass 450 = .ok (.iadd, 1) := by decide +kernel
theorem dX3_pass_451 : decode cX3_pass 451 = .ok (.invokestatic 81, 3) := by decide +kernel
theorem dX3_pass_454 : decode cX3_pass 454 = .ok (.iastore, 1) := by decide +kernel
theorem dX3_pass_455 : decode cX3_pass 455 = .ok (.iinc 4 1, 3) := by decide +kernel
theorem dX3_pass_458 : decode cX3_pass 458 = .ok (.goto (-66), 3) := by decide +kernel
theorem dX3_pass_461 : decode cX3_pass 461 = .ok (.aload_n 0, 1) := by decide +kernel
theorem dX3_pass_462 : decode cX3_pass 462 = .ok (.dup, 1) := by decide +kernel
theorem dX3_pass_463 : decode cX3_pass 463 = .ok (.getfield 47, 3) := by decide +kernel
theorem dX3_pass_466 : decode cX3_pass 466 = .ok (.iconst 1, 1) := by decide +kernel
theorem dX3_pass_467 : decode cX3_pass 467 = .ok (.iadd, 1) := by decide +kernel
theorem dX3_pass_468 : decode cX3_pass 468 = .ok (.putfield 47, 3) := by decide +kernel
theorem dX3_pass_471 : decode cX3_pass 471 = .ok (.aload_n 0, 1) := by decide +kernel
theorem dX3_pass_472 : decode cX3_pass 472 = .ok (.getfield 72, 3) := by decide +kernel
theorem dX3_pass_475 : decode cX3_pass 475 = .ok (.iload_n 2, 1) := by decide +kernel
theorem dX3_pass_476 : decode cX3_pass 476 = .ok (.isub, 1) := by decide +kernel
theorem dX3_pass_477 : decode cX3_pass 477 = .ok (.ireturn, 1) := by decide +kernel
theorem dX3_grind_0 : decode cX3_grind 0 = .ok (.aload_n 0, 1) := by decide +kernel
theorem dX3_grind_1 : decode cX3_grind 1 = .ok (.getfield 38, 3) := by decide +kernel
theorem dX3_grind_4 : decode cX3_grind 4 = .ok (.iload_n 1, 1) := by decide +kernel
theorem dX3_grind_5 : decode cX3_grind 5 = .ok (.iaload, 1) := by decide +kernel
theorem dX3_grind_6 : decode cX3_grind 6 = .ok (.iconst 2, 1) := by decide +kernel
theorem dX3_grind_7 : decode cX3_grind 7 = .ok (.idiv, 1) := by decide +kernel
theorem dX3_grind_8 : decode cX3_grind 8 = .ok (.istore_n 2, 1) := by decide +kernel
theorem dX3_grind_9 : decode cX3_grind 9 = .ok (.aload_n 0, 1) := by decide +kernel
theorem dX3_grind_10 : decode cX3_grind 10 = .ok (.dup, 1) := by decide +kernel
theorem dX3_grind_11 : decode cX3_grind 11 = .ok (.getfield 53, 3) := by decide +kernel
theorem dX3_grind_14 : decode cX3_grind 14 = .ok (.aload_n 0, 1) := by decide +kernel
theorem dX3_grind_15 : decode cX3_grind 15 = .ok (.getfield 35, 3) := by decide +kernel
theorem dX3_grind_18 : decode cX3_grind 18 = .ok (.iload_n 1, 1) := by decide +kernel
theorem dX3_grind_19 : decode cX3_grind 19 = .ok (.iaload, 1) := by decide +kernel
theorem dX3_grind_20 : decode cX3_grind 20 = .ok (.aload_n 0, 1) := by decide +kernel
theorem dX3_grind_21 : decode cX3_grind 21 = .ok (.getfield 38, 3) := by decide +kernel
theorem dX3_grind_24 : decode cX3_grind 24 = .ok (.iload_n 1, 1) := by decide +kernel
theorem dX3_grind_25 : decode cX3_grind 25 = .ok (.iaload, 1) := by decide +kernel
theorem dX3_grind_26 : decode cX3_grind 26 = .ok (.iadd, 1) := by decide +kernel
theorem dX3_grind_27 : decode cX3_grind 27 = .ok (.bipush 10, 2) := by decide +kernel
theorem dX3_grind_29 : decode cX3_grind 29 = .ok (.idiv, 1) := by decide +kernel
theorem dX3_grind_30 : decode cX3_grind 30 = .ok (.aload_n 0, 1) := by decide +kernel
theorem dX3_grind_31 : decode cX3_grind 31 = .ok (.getfield 35, 3) := by decide +kernel
theorem dX3_grind_34 : decode cX3_grind 34 = .ok (.iload_n 1, 1) := by decide +kernel
theorem dX3_grind_35 : decode cX3_grind 35 = .ok (.iaload, 1) := by decide +kernel
theorem dX3_grind_36 : decode cX3_grind 36 = .ok (.bipush 10, 2) := by decide +kernel
theorem dX3_grind_38 : decode cX3_grind 38 = .ok (.idiv, 1) := by decide +kernel
theorem dX3_grind_39 : decode cX3_grind 39 = .ok (.isub, 1) := by decide +kernel
theorem dX3_grind_40 : decode cX3_grind 40 = .ok (.iadd, 1) := by decide +kernel
theorem dX3_grind_41 : decode cX3_grind 41 = .ok (.putfield 53, 3) := by decide +kernel
theorem dX3_grind_44 : decode cX3_grind 44 = .ok (.aload_n 0, 1) := by decide +kernel
theorem dX3_grind_45 : decode cX3_grind 45 = .ok (.getfield 35, 3) := by decide +kernel
theorem dX3_grind_48 : decode cX3_grind 48 = .ok (.iload_n 1, 1) := by decide +kernel
theorem dX3_grind_49 : decode cX3_grind 49 = .ok (.dup2, 1) := by decide +kernel
theorem dX3_grind_50 : decode cX3_grind 50 = .ok (.iaload, 1) := by decide +kernel
theorem dX3_grind_51 : decode cX3_grind 51 = .ok (.aload_n 0, 1) := by decide +kernel
theorem dX3_grind_52 : decode cX3_grind 52 = .ok (.getfield 38, 3) := by decide +kernel
theorem dX3_grind_55 : decode cX3_grind 55 = .ok (.iload_n 1, 1) := by decide +kernel
theorem dX3_grind_56 : decode cX3_grind 56 = .ok (.iaload, 1) := by decide +kernel
theorem dX3_grind_57 : decode cX3_grind 57 = .ok (.iadd, 1) := by decide +kernel
theorem dX3_grind_58 : decode cX3_grind 58 = .ok (.iastore, 1) := by decide +kernel
theorem dX3_grind_59 : decode cX3_grind 59 = .ok (.aload_n 0, 1) := by decide +kernel
theorem dX3_grind_60 : decode cX3_grind 60 = .ok (.dup, 1) := by decide +kernel
theorem dX3_grind_61 : decode cX3_grind 61 = .ok (.getfield 66, 3) := by decide +kernel
theorem dX3_grind_64 : decode cX3_grind 64 = .ok (.aload_n 0, 1) := by decide +kernel
theorem dX3_grind_65 : decode cX3_grind 65 = .ok (.getfield 38, 3) := by decide +kernel
theorem dX3_grind_68 : decode cX3_grind 68 = .ok (.iload_n 1, 1) := by decide +kernel
theorem dX3_grind_69 : decode cX3_grind 69 = .ok (.iaload, 1) := by decide +kernel
theorem dX3_grind_70 : decode cX3_grind 70 = .ok (.iload_n 2, 1) := by decide +kernel
theorem dX3_grind_71 : decode cX3_grind 71 = .ok (.isub, 1) := by decide +kernel
theorem dX3_grind_72 : decode cX3_grind 72 = .ok (.iadd, 1) := by decide +kernel
theorem dX3_grind_73 : decode cX3_grind 73 = .ok (.putfield 66, 3) := by decide +kernel
theorem dX3_grind_76 : decode cX3_grind 76 = .ok (.aload_n 0, 1) := by decide +kernel
theorem dX3_grind_77 : decode cX3_grind 77 = .ok (.dup, 1) := by decide +kernel
theorem dX3_grind_78 : decode cX3_grind 78 = .ok (.getfield 63, 3) := by decide +kernel
theorem dX3_grind_81 : decode cX3_grind 81 = .ok (.iload_n 2, 1) := by decide +kernel
theorem dX3_grind_82 : decode cX3_grind 82 = .ok (.aload_n 0, 1) := by decide +kernel
theorem dX3_grind_83 : decode cX3_grind 83 = .ok (.iload_n 1, 1) := by decide +kernel
theorem dX3_grind_84 : decode cX3_grind 84 = .ok (.iconst 2, 1) := by decide +kernel
theorem dX3_grind_85 : decode cX3_grind 85 = .ok (.iadd, 1) := by decide +kernel
theorem dX3_grind_86 : decode cX3_grind 86 = .ok (.aload_n 0, 1) := by decide +kernel
theorem dX3_grind_87 : decode cX3_grind 87 = .ok (.getfield 3, 3) := by decide +kernel
theorem dX3_grind_90 : decode cX3_grind 90 = .ok (.getfield 75, 3) := by decide +kernel
theorem dX3_grind_93 : decode cX3_grind 93 = .ok (.invokestatic 81, 3) := by decide +kernel
theorem dX3_grind_96 : decode cX3_grind 96 = .ok (.iload_n 2, 1) := by decide +kernel
theorem dX3_grind_97 : decode cX3_grind 97 = .ok (.invokevirtual 97, 3) := by decide +kernel
theorem dX3_grind_100 : decode cX3_grind 100 = .ok (.isub, 1) := by decide +kernel
theorem dX3_grind_101 : decode cX3_grind 101 = .ok (.iadd, 1) := by decide +kernel
theorem dX3_grind_102 : decode cX3_grind 102 = .ok (.putfield 63, 3) := by decide +kernel
theorem dX3_grind_105 : decode cX3_grind 105 = .ok (.return_, 1) := by decide +kernel
theorem dX3_over_0 : decode cX3_over 0 = .ok (.iconst 0, 1) := by decide +kernel
theorem dX3_over_1 : decode cX3_over 1 = .ok (.istore_n 2, 1) := by decide +kernel
theorem dX3_over_2 : decode cX3_over 2 = .ok (.iconst 0, 1) := by decide +kernel
theorem dX3_over_3 : decode cX3_over 3 = .ok (.istore_n 3, 1) := by decide +kernel
theorem dX3_over_4 : decode cX3_over 4 = .ok (.iload_n 3, 1) := by decide +kernel
theorem dX3_over_5 : decode cX3_over 5 = .ok (.aload_n 0, 1) := by decide +kernel
theorem dX3_over_6 : decode cX3_over 6 = .ok (.getfield 3, 3) := by decide +kernel
theorem dX3_over_9 : decode cX3_over 9 = .ok (.getfield 75, 3) := by decide +kernel
theorem dX3_over_12 : decode cX3_over 12 = .ok (.if_icmp .ge 15, 3) := by decide +kernel
theorem dX3_over_15 : decode cX3_over 15 = .ok (.iload_n 2, 1) := by decide +kernel
theorem dX3_over_16 : decode cX3_over 16 = .ok (.aload_n 1, 1) := by decide +kernel
theorem dX3_over_17 : decode cX3_over 17 = .ok (.iload_n 3, 1) := by decide +kernel
theorem dX3_over_18 : decode cX3_over 18 = .ok (.iaload, 1) := by decide +kernel
theorem dX3_over_19 : decode cX3_over 19 = .ok (.iadd, 1) := by decide +kernel
theorem dX3_over_20 : decode cX3_over 20 = .ok (.istore_n 2, 1) := by decide +kernel
theorem dX3_over_21 : decode cX3_over 21 = .ok (.iinc 3 1, 3) := by decide +kernel
theorem dX3_over_24 : decode cX3_over 24 = .ok (.goto (-20), 3) := by decide +kernel
theorem dX3_over_27 : decode cX3_over 27 = .ok (.iload_n 2, 1) := by decide +kernel
theorem dX3_over_28 : decode cX3_over 28 = .ok (.ireturn, 1) := by decide +kernel
theorem dX4_init_0 : decode cX4_init 0 = .ok (.aload_n 0, 1) := by decide +kernel
theorem dX4_init_1 : decode cX4_init 1 = .ok (.invokespecial 1, 3) := by decide +kernel
theorem dX4_init_4 : decode cX4_init 4 = .ok (.aload_n 0, 1) := by decide +kernel
theorem dX4_init_5 : decode cX4_init 5 = .ok (.bipush 24, 2) := by decide +kernel
theorem dX4_init_7 : decode cX4_init 7 = .ok (.newarray .int, 2) := by decide +kernel
theorem dX4_init_9 : decode cX4_init 9 = .ok (.putfield 9, 3) := by decide +kernel
theorem dX4_init_12 : decode cX4_init 12 = .ok (.aload_n 0, 1) := by decide +kernel
theorem dX4_init_13 : decode cX4_init 13 = .ok (.bipush 24, 2) := by decide +kernel
theorem dX4_init_15 : decode cX4_init 15 = .ok (.newarray .int, 2) := by decide +kernel
theorem dX4_init_17 : decode cX4_init 17 = .ok (.putfield 13, 3) := by decide +kernel
theorem dX4_init_20 : decode cX4_init 20 = .ok (.aload_n 0, 1) := by decide +kernel
theorem dX4_init_21 : decode cX4_init 21 = .ok (.bipush 20, 2) := by decide +kernel
theorem dX4_init_23 : decode cX4_init 23 = .ok (.newarray .int, 2) := by decide +kernel
theorem dX4_init_25 : decode cX4_init 25 = .ok (.putfield 16, 3) := by decide +kernel
theorem dX4_init_28 : decode cX4_init 28 = .ok (.aload_n 0, 1) := by decide +kernel
theorem dX4_init_29 : decode cX4_init 29 = .ok (.bipush 20, 2) := by decide +kernel
theorem dX4_init_31 : decode cX4_init 31 = .ok (.newarray .int, 2) := by decide +kernel
theorem dX4_init_33 : decode cX4_init 33 = .ok (.putfield 19, 3) := by decide +kernel
theorem dX4_init_36 : decode cX4_init 36 = .ok (.aload_n 0, 1) := by decide +kernel
theorem dX4_init_37 : decode cX4_init 37 = .ok (.bipush 20, 2) := by decide +kernel
theorem dX4_init_39 : decode cX4_init 39 = .ok (.newarray .int, 2) := by decide +kernel
theorem dX4_init_41 : decode cX4_init 41 = .ok (.putfield 22, 3) := by decide +kernel
theorem dX4_init_44 : decode cX4_init 44 = .ok (.aload_n 0, 1) := by decide +kernel
theorem dX4_init_45 : decode cX4_init 45 = .ok (.new 25, 3) := by decide +kernel
theorem dX4_init_48 : decode cX4_init 48 = .ok (.dup, 1) := by decide +kernel
theorem dX4_init_49 : decode cX4_init 49 = .ok (.aload_n 0, 1) := by decide +kernel
theorem dX4_init_50 : decode cX4_init 50 = .ok (.invokespecial 27, 3) := by decide +kernel
theorem dX4_init_53 : decode cX4_init 53 = .ok (.putfield 30, 3) := by decide +kernel
theorem dX4_init_56 : decode cX4_init 56 = .ok (.aload_n 0, 1) := by decide +kernel
theorem dX4_init_57 : decode cX4_init 57 = .ok (.new 25, 3) := by decide +kernel
theorem dX4_init_60 : decode cX4_init 60 = .ok (.dup, 1) := by decide +kernel
theorem dX4_init_61 : decode cX4_init 61 = .ok (.aload_n 0, 1) := by decide +kernel
theorem dX4_init_62 : decode cX4_init 62 = .ok (.invokespecial 27, 3) := by decide +kernel
theorem dX4_init_65 : decode cX4_init 65 = .ok (.putfield 34, 3) := by decide +kernel
theorem dX4_init_68 : decode cX4_init 68 = .ok (.return_, 1) := by decide +kernel
theorem dX4_thrown_0 : decode cX4_thrown 0 = .ok (.aload_n 0, 1) := by decide +kernel
theorem dX4_thrown_1 : decode cX4_thrown 1 = .ok (.getfield 37, 3) := by decide +kernel
theorem dX4_thrown_4 : decode cX4_thrown 4 = .ok (.ireturn, 1) := by decide +kernel
theorem dX4_no_0 : decode cX4_no 0 = .ok (.aload_n 0, 1) := by decide +kernel
theorem dX4_no_1 : decode cX4_no 1 = .ok (.iload_n 1, 1) := by decide +kernel
theorem dX4_no_2 : decode cX4_no 2 = .ok (.putfield 37, 3) := by decide +kernel
theorem dX4_no_5 : decode cX4_no 5 = .ok (.iconst 0, 1) := by decide +kernel
theorem dX4_no_6 : decode cX4_no 6 = .ok (.ireturn, 1) := by decide +kernel
theorem dX4_isIn_0 : decode cX4_isIn 0 = .ok (.iload_n 0, 1) := by decide +kernel
theorem dX4_isIn_1 : decode cX4_isIn 1 = .ok (.iload_n 1, 1) := by decide +kernel
theorem dX4_isIn_2 : decode cX4_isIn 2 = .ok (.if_icmp .lt 12, 3) := by decide +kernel
theorem dX4_isIn_5 : decode cX4_isIn 5 = .ok (.iload_n 0, 1) := by decide +kernel
theorem dX4_isIn_6 : decode cX4_isIn 6 = .ok (.iload_n 2, 1) := by decide +kernel
theorem dX4_isIn_7 : decode cX4_isIn 7 = .ok (.if_icmp .gt 7, 3) := by decide +kernel
theorem dX4_isIn_10 : decode cX4_isIn 10 = .ok (.iconst 1, 1) := by decide +kernel
theorem dX4_isIn_11 : decode cX4_isIn 11 = .ok (.goto 4, 3) := by decide +kernel
theorem dX4_isIn_14 : decode cX4_isIn 14 = .ok (.iconst 0, 1) := by decide +kernel
theorem dX4_isIn_15 : decode cX4_isIn 15 = .ok (.ireturn, 1) := by decide +kernel
theorem dX4_isArch_0 : decode cX4_isArch 0 = .ok (.iload_n 1, 1) := by decide +kernel
theorem dX4_isArch_1 : decode cX4_isArch 1 = .ok (.iconst 0, 1) := by decide +kernel
theorem dX4_isArch_2 : decode cX4_isArch 2 = .ok (.aload_n 0, 1) := by decide +kernel
theorem dX4_isArch_3 : decode cX4_isArch 3 = .ok (.getfield 41, 3) := by decide +kernel
theorem dX4_isArch_6 : decode cX4_isArch 6 = .ok (.iconst 1, 1) := by decide +kernel
theorem dX4_isArch_7 : decode cX4_isArch 7 = .ok (.isub, 1) := by decide +kernel
theorem dX4_isArch_8 : decode cX4_isArch 8 = .ok (.invokestatic 44, 3) := by decide +kernel
theorem dX4_isArch_11 : decode cX4_isArch 11 = .ok (.ireturn, 1) := by decide +kernel
theorem dX4_slope_0 : decode cX4_slope 0 = .ok (.aload_n 0, 1) := by decide +kernel
theorem dX4_slope_1 : decode cX4_slope 1 = .ok (.getfield 16, 3) := by decide +kernel
theorem dX4_slope_4 : decode cX4_slope 4 = .ok (.iload_n 1, 1) := by decide +kernel
theorem dX4_slope_5 : decode cX4_slope 5 = .ok (.iaload, 1) := by decide +kernel
theorem dX4_slope_6 : decode cX4_slope 6 = .ok (.iload_n 1, 1) := by decide +kernel
theorem dX4_slope_7 : decode cX4_slope 7 = .ok (.iconst 1, 1) := by decide +kernel
theorem dX4_slope_8 : decode cX4_slope 8 = .ok (.iadd, 1) := by decide +kernel
theorem dX4_slope_9 : decode cX4_slope 9 = .ok (.aload_n 0, 1) := by decide +kernel
theorem dX4_slope_10 : decode cX4_slope 10 = .ok (.getfield 41, 3) := by decide +kernel
theorem dX4_slope_13 : decode cX4_slope 13 = .ok (.if_icmp .ge 14, 3) := by decide +kernel
theorem dX4_slope_16 : decode cX4_slope 16 = .ok (.aload_n 0, 1) := by decide +kernel
theorem dX4_slope_17 : decode cX4_slope 17 = .ok (.getfield 16, 3) := by decide +kernel
theorem dX4_slope_20 : decode cX4_slope 20 = .ok (.iload_n 1, 1) := by decide +kernel
theorem dX4_slope_21 : decode cX4_slope 21 = .ok (.iconst 1, 1) := by decide +kernel
theorem dX4_slope_22 : decode cX4_slope 22 = .ok (.iadd, 1) := by decide +kernel
theorem dX4_slope_23 : decode cX4_slope 23 = .ok (.iaload, 1) := by decide +kernel
theorem dX4_slope_24 : decode cX4_slope 24 = .ok (.goto 4, 3) := by decide +kernel
theorem dX4_slope_27 : decode cX4_slope 27 = .ok (.iconst 0, 1) := by decide +kernel
theorem dX4_slope_28 : decode cX4_slope 28 = .ok (.isub, 1) := by decide +kernel
theorem dX4_slope_29 : decode cX4_slope 29 = .ok (.ireturn, 1) := by decide +kernel
theorem dX4_rate_0 : decode cX4_rate 0 = .ok (.bipush 30, 2) := by decide +kernel
theorem dX4_rate_2 : decode cX4_rate 2 = .ok (.iconst 2, 1) := by decide +kernel
theorem dX4_rate_3 : decode cX4_rate 3 = .ok (.aload_n 0, 1) := by decide +kernel
theorem dX4_rate_4 : decode cX4_rate 4 = .ok (.iload_n 1, 1) := by decide +kernel
theorem dX4_rate_5 : decode cX4_rate 5 = .ok (.invokevirtual 48, 3) := by decide +kernel
theorem dX4_rate_8 : decode cX4_rate 8 = .ok (.iadd, 1) := by decide +kernel
theorem dX4_rate_9 : decode cX4_rate 9 = .ok (.invokestatic 52, 3) := by decide +kernel
theorem dX4_rate_12 : decode cX4_rate 12 = .ok (.ireturn, 1) := by decide +kernel
theorem dX4_build_0 : decode cX4_build 0 = .ok (.aload_n 0, 1) := by decide +kernel
theorem dX4_build_1 : decode cX4_build 1 = .ok (.iconst 0, 1) := by decide +kernel
theorem dX4_build_2 : decode cX4_build 2 = .ok (.putfield 37, 3) := by decide +kernel
theorem dX4_build_5 : decode cX4_build 5 = .ok (.iload_n 1, 1) := by decide +kernel
theorem dX4_build_6 : decode cX4_build 6 = .ok (.iconst 0, 1) := by decide +kernel
theorem dX4_build_7 : decode cX4_build 7 = .ok (.aload_n 0, 1) := by decide +kernel
theorem dX4_build_8 : decode cX4_build 8 = .ok (.getfield 41, 3) := by decide +kernel
theorem dX4_build_11 : decode cX4_build 11 = .ok (.ifCond .ne 9, 3) := by decide +kernel
theorem dX4_build_14 : decode cX4_build 14 = .ok (.sipush 200, 3) := by decide +kernel
theorem dX4_build_17 : decode cX4_build 17 = .ok (.goto 14, 3) := by decide +kernel
theorem dX4_build_20 : decode cX4_build 20 = .ok (.aload_n 0, 1) := by decide +kernel
theorem dX4_build_21 : decode cX4_build 21 = .ok (.getfield 16, 3) := by decide +kernel
theorem dX4_build_24 : decode cX4_build 24 = .ok (.aload_n 0, 1) := by decide +kernel
theorem dX4_build_25 : decode cX4_build 25 = .ok (.getfield 41, 3) := by decide +kernel
theorem dX4_build_28 : decode cX4_build 28 = .ok (.iconst 1, 1) := by decide +kernel
theorem dX4_build_29 : decode cX4_build 29 = .ok (.isub, 1) := by decide +kernel
theorem dX4_build_30 : decode cX4_build 30 = .ok (.iaload, 1) := by decide +kernel
theorem dX4_build_31 : decode cX4_build 31 = .ok (.invokestatic 44, 3) := by decide +kernel
theorem dX4_build_34 : decode cX4_build 34 = .ok (.ifCond .eq 13, 3) := by decide +kernel
theorem dX4_build_37 : decode cX4_build 37 = .ok (.iload_n 2, 1) := by decide +kernel
theorem dX4_build_38 : decode cX4_build 38 = .ok (.iconst 1, 1) := by decide +kernel
theorem dX4_build_39 : decode cX4_build 39 = .ok (.bipush 40, 2) := by decide +kernel
theorem dX4_build_41 : decode cX4_build 41 = .ok (.invokestatic 44, 3) := by decide +kernel
theorem dX4_build_44 : decode cX4_build 44 = .ok (.ifCond .ne 9, 3) := by decide +kernel
theorem dX4_build_47 : decode cX4_build 47 = .ok (.aload_n 0, 1) := by decide +kernel
theorem dX4_build_48 : decode cX4_build 48 = .ok (.iconst 1, 1) := by decide +kernel
theorem dX4_build_49 : decode cX4_build 49 = .ok (.invokevirtual 58, 3) := by decide +kernel
theorem dX4_build_52 : decode cX4_build 52 = .ok (.ireturn, 1) := by decide +kernel
theorem dX4_build_53 : decode cX4_build 53 = .ok (.aload_n 0, 1) := by decide +kernel
theorem dX4_build_54 : decode cX4_build 54 = .ok (.getfield 41, 3) := by decide +kernel
theorem dX4_build_57 : decode cX4_build 57 = .ok (.bipush 20, 2) := by decide +kernel
theorem dX4_build_59 : decode cX4_build 59 = .ok (.if_icmp .ne 9, 3) := by decide +kernel
theorem dX4_build_62 : decode cX4_build 62 = .ok (.aload_n 0, 1) := by decide +kernel
theorem dX4_build_63 : decode cX4_build 63 = .ok (.iconst 2, 1) := by decide +kernel
theorem dX4_build_64 : decode cX4_build 64 = .ok (.invokevirtual 58, 3) := by decide +kernel
theorem dX4_build_67 : decode cX4_build 67 = .ok (.ireturn, 1) := by decide +kernel
theorem dX4_build_68 : decode cX4_build 68 = .ok (.aload_n 0, 1) := by decide +kernel
theorem dX4_build_69 : decode cX4_build 69 = .ok (.getfield 16, 3) := by decide +kernel
theorem dX4_build_72 : decode cX4_build 72 = .ok (.aload_n 0, 1) := by decide +kernel
theorem dX4_build_73 : decode cX4_build 73 = .ok (.getfield 41, 3) := by decide +kernel
theorem dX4_build_76 : decode cX4_build 76 = .ok (.iload_n 1, 1) := by decide +kernel
theorem dX4_build_77 : decode cX4_build 77 = .ok (.iastore, 1) := by decide +kernel
theorem dX4_build_78 : decode cX4_build 78 = .ok (.aload_n 0, 1) := by decide +kernel
theorem dX4_build_79 : decode cX4_build 79 = .ok (.getfield 19, 3) := by decide +kernel
theorem dX4_build_82 : decode cX4_build 82 = .ok (.aload_n 0, 1) := by decide +kernel
theorem dX4_build_83 : decode cX4_build 83 = .ok (.getfield 41, 3) := by decide +kernel
theorem dX4_build_86 : decode cX4_build 86 = .ok (.iload_n 2, 1) := by decide +kernel
theorem dX4_build_87 : decode cX4_build 87 = .ok (.iastore, 1) := by decide +kernel
theorem dX4_build_88 : decode cX4_build 88 = .ok (.aload_n 0, 1) := by decide +kernel
theorem dX4_build_89 : decode cX4_build 89 = .ok (.dup, 1) := by decide +kernel
theorem dX4_build_90 : decode cX4_build 90 = .ok (.getfield 41, 3) := by decide +kernel
theorem dX4_build_93 : decode cX4_build 93 = .ok (.iconst 1, 1) := by decide +kernel
theorem dX4_build_94 : decode cX4_build 94 = .ok (.iadd, 1) := by decide +kernel
theorem dX4_build_95 : decode cX4_build 95 = .ok (.putfield 41, 3) := by decide +kernel
theorem dX4_build_98 : decode cX4_build 98 = .ok (.aload_n 0, 1) := by decide +kernel
theorem dX4_build_99 : decode cX4_build 99 = .ok (.getfield 41, 3) := by decide +kernel
theorem dX4_build_102 : decode cX4_build 102 = .ok (.iconst 1, 1) := by decide +kernel
theorem dX4_build_103 : decode cX4_build 103 = .ok (.isub, 1) := by decide +kernel
theorem dX4_build_104 : decode cX4_build 104 = .ok (.ireturn, 1) := by decide +kernel
theorem dX4_set_0 : decode cX4_set 0 = .ok (.aload_n 0, 1) := by decide +kernel
theorem dX4_set_1 : decode cX4_set 1 = .ok (.iconst 0, 1) := by decide +kernel
theorem dX4_set_2 : decode cX4_set 2 = .ok (.putfield 37, 3) := by decide +kernel
theorem dX4_set_5 : decode cX4_set 5 = .ok (.iload_n 2, 1) := by decide +kernel
theorem dX4_set_6 : decode cX4_set 6 = .ok (.iconst 0, 1) := by decide +kernel
theorem dX4_set_7 : decode cX4_set 7 = .ok (.bipush 23, 2) := by decide +kernel
theorem dX4_set_9 : decode cX4_set 9 = .ok (.invokestatic 44, 3) := by decide +kernel
theorem dX4_set_12 : decode cX4_set 12 = .ok (.ifCond .ne 9, 3) := by decide +kernel
theorem dX4_set_15 : decode cX4_set 15 = .ok (.aload_n 0, 1) := by decide +kernel
theorem dX4_set_16 : decode cX4_set 16 = .ok (.iconst 1, 1) := by decide +kernel
theorem dX4_set_17 : decode cX4_set 17 = .ok (.invokevirtual 58, 3) := by decide +kernel
theorem dX4_set_20 : decode cX4_set 20 = .ok (.ireturn, 1) := by decide +kernel
theorem dX4_set_21 : decode cX4_set 21 = .ok (.iload_n 3, 1) := by decide +kernel
theorem dX4_set_22 : decode cX4_set 22 = .ok (.iconst 0, 1) := by decide +kernel
theorem dX4_set_23 : decode cX4_set 23 = .ok (.bipush 40, 2) := by decide +kernel
theorem dX4_set_25 : decode cX4_set 25 = .ok (.invokestatic 44, 3) := by decide +kernel
theorem dX4_set_28 : decode cX4_set 28 = .ok (.ifCond .ne 9, 3) := by decide +kernel
theorem dX4_set_31 : decode cX4_set 31 = .ok (.aload_n 0, 1) := by decide +kernel
theorem dX4_set_32 : decode cX4_set 32 = .ok (.iconst 2, 1) := by decide +kernel
theorem dX4_set_33 : decode cX4_set 33 = .ok (.invokevirtual 58, 3) := by decide +kernel
theorem dX4_set_36 : decode cX4_set 36 = .ok (.ireturn, 1) := by decide +kernel
theorem dX4_set_37 : decode cX4_set 37 = .ok (.aload_n 1, 1) := by decide +kernel
theorem dX4_set_38 : decode cX4_set 38 = .ok (.iload_n 2, 1) := by decide +kernel
theorem dX4_set_39 : decode cX4_set 39 = .ok (.iaload, 1) := by decide +kernel
theorem dX4_set_40 : decode cX4_set 40 = .ok (.istore 4, 2) := by decide +kernel
theorem dX4_set_42 : decode cX4_set 42 = .ok (.aload_n 1, 1) := by decide +kernel
theorem dX4_set_43 : decode cX4_set 43 = .ok (.iload_n 2, 1) := by decide +kernel
theorem dX4_set_44 : decode cX4_set 44 = .ok (.iload_n 3, 1) := by decide +kernel
theorem dX4_set_45 : decode cX4_set 45 = .ok (.iastore, 1) := by decide +kernel
theorem dX4_set_46 : decode cX4_set 46 = .ok (.iload 4, 2) := by decide +kernel
theorem dX4_set_48 : decode cX4_set 48 = .ok (.ireturn, 1) := by decide +kernel
theorem dX4_setSpring_0 : decode cX4_setSpring 0 = .ok (.aload_n 0, 1) := by decide +kernel
theorem dX4_setSpring_1 : decode cX4_setSpring 1 = .ok (.aload_n 0, 1) := by decide +kernel
theorem dX4_setSpring_2 : decode cX4_setSpring 2 = .ok (.getfield 9, 3) := by decide +kernel
theorem dX4_setSpring_5 : decode cX4_setSpring 5 = .ok (.iload_n 1, 1) := by decide +kernel
theorem dX4_setSpring_6 : decode cX4_setSpring 6 = .ok (.iload_n 2, 1) := by decide +kernel
theorem dX4_setSpring_7 : decode cX4_setSpring 7 = .ok (.invokevirtual 61, 3) := by decide +kernel
theorem dX4_setSpring_10 : decode cX4_setSpring 10 = .ok (.ireturn, 1) := by decide +kernel
theorem dX4_setCity_0 : decode cX4_setCity 0 = .ok (.aload_n 0, 1) := by decide +kernel
theorem dX4_setCity_1 : decode cX4_setCity 1 = .ok (.aload_n 0, 1) := by decide +kernel
theorem dX4_setCity_2 : decode cX4_setCity 2 = .ok (.getfield 13, 3) := by decide +kernel
theorem dX4_setCity_5 : decode cX4_setCity 5 = .ok (.iload_n 1, 1) := by decide +kernel
theorem dX4_setCity_6 : decode cX4_setCity 6 = .ok (.iload_n 2, 1) := by decide +kernel
theorem dX4_setCity_7 : decode cX4_setCity 7 = .ok (.invokevirtual 61, 3) := by decide +kernel
theorem dX4_setCity_10 : decode cX4_setCity 10 = .ok (.ireturn, 1) := by decide +kernel
theorem dX4_setCistern_0 : decode cX4_setCistern 0 = .ok (.aload_n 0, 1) := by decide +kernel
theorem dX4_setCistern_1 : decode cX4_setCistern 1 = .ok (.iconst 0, 1) := by decide +kernel
theorem dX4_setCistern_2 : decode cX4_setCistern 2 = .ok (.putfield 37, 3) := by decide +kernel
theorem dX4_setCistern_5 : decode cX4_setCistern 5 = .ok (.iload_n 1, 1) := by decide +kernel
theorem dX4_setCistern_6 : decode cX4_setCistern 6 = .ok (.iconst 0, 1) := by decide +kernel
theorem dX4_setCistern_7 : decode cX4_setCistern 7 = .ok (.sipush 500, 3) := by decide +kernel
theorem dX4_setCistern_10 : decode cX4_setCistern 10 = .ok (.invokestatic 44, 3) := by decide +kernel
theorem dX4_setCistern_13 : decode cX4_setCistern 13 = .ok (.ifCond .ne 9, 3) := by decide +kernel
theorem dX4_setCistern_16 : decode cX4_setCistern 16 = .ok (.aload_n 0, 1) := by decide +kernel
theorem dX4_setCistern_17 : decode cX4_setCistern 17 = .ok (.iconst 1, 1) := by decide +kernel
theorem dX4_setCistern_18 : decode cX4_setCistern 18 = .ok (.invokevirtual 58, 3) := by decide +kernel
theorem dX4_setCistern_21 : decode cX4_setCistern 21 = .ok (.ireturn, 1) := by decide +kernel
theorem dX4_setCistern_22 : decode cX4_setCistern 22 = .ok (.iconst 0, 1) := by decide +kernel
theorem dX4_setCistern_23 : decode cX4_setCistern 23 = .ok (.aload_n 0, 1) := by decide +kernel
theorem dX4_setCistern_24 : decode cX4_setCistern 24 = .ok (.getfield 30, 3) := by decide +kernel
theorem dX4_setCistern_27 : decode cX4_setCistern 27 = .ok (.getfield 65, 3) := by decide +kernel
theorem dX4_setCistern_30 : decode cX4_setCistern 30 = .ok (.iload_n 1, 1) := by decide +kernel
theorem dX4_setCistern_31 : decode cX4_setCistern 31 = .ok (.isub, 1) := by decide +kernel
theorem dX4_setCistern_32 : decode cX4_setCistern 32 = .ok (.invokestatic 68, 3) := by decide +kernel
theorem dX4_setCistern_35 : decode cX4_setCistern 35 = .ok (.istore_n 2, 1) := by decide +kernel
theorem dX4_setCistern_36 : decode cX4_setCistern 36 = .ok (.aload_n 0, 1) := by decide +kernel
theorem dX4_setCistern_37 : decode cX4_setCistern 37 = .ok (.getfield 30, 3) := by decide +kernel
theorem dX4_setCistern_40 : decode cX4_setCistern 40 = .ok (.iload_n 1, 1) := by decide +kernel
theorem dX4_setCistern_41 : decode cX4_setCistern 41 = .ok (.putfield 71, 3) := by decide +kernel
theorem dX4_setCistern_44 : decode cX4_setCistern 44 = .ok (.aload_n 0, 1) := by decide +kernel
theorem dX4_setCistern_45 : decode cX4_setCistern 45 = .ok (.getfield 30, 3) := by decide +kernel
theorem dX4_setCistern_48 : decode cX4_setCistern 48 = .ok (.dup, 1) := by decide +kernel
theorem dX4_setCistern_49 : decode cX4_setCistern 49 = .ok (.getfield 65, 3) := by decide +kernel
theorem dX4_setCistern_52 : decode cX4_setCistern 52 = .ok (.iload_n 2, 1) := by decide +kernel
theorem dX4_setCistern_53 : decode cX4_setCistern 53 = .ok (.isub, 1) := by decide +kernel
theorem dX4_setCistern_54 : decode cX4_setCistern 54 = .ok (.putfield 65, 3) := by decide +kernel
theorem dX4_setCistern_57 : decode cX4_setCistern 57 = .ok (.aload_n 0, 1) := by decide +kernel
theorem dX4_setCistern_58 : decode cX4_setCistern 58 = .ok (.getfield 30, 3) := by decide +kernel
theorem dX4_setCistern_61 : decode cX4_setCistern 61 = .ok (.dup, 1) := by decide +kernel
theorem dX4_setCistern_62 : decode cX4_setCistern 62 = .ok (.getfield 74, 3) := by decide +kernel
theorem dX4_setCistern_65 : decode cX4_setCistern 65 = .ok (.iload_n 2, 1) := by decide +kernel
theorem dX4_setCistern_66 : decode cX4_setCistern 66 = .ok (.iadd, 1) := by decide +kernel
theorem dX4_setCistern_67 : decode cX4_setCistern 67 = .ok (.putfield 74, 3) := by decide +kernel
theorem dX4_setCistern_70 : decode cX4_setCistern 70 = .ok (.iload_n 2, 1) := by decide +kernel
theorem dX4_setCistern_71 : decode cX4_setCistern 71 = .ok (.ireturn, 1) := by decide +kernel
theorem dX4_archTold_0 : decode cX4_archTold 0 = .ok (.bipush 9, 2) := by decide +kernel
theorem dX4_archTold_2 : decode cX4_archTold 2 = .ok (.newarray .int, 2) := by decide +kernel
theorem dX4_archTold_4 : decode cX4_archTold 4 = .ok (.dup, 1) := by decide +kernel
theorem dX4_archTold_5 : decode cX4_archTold 5 = .ok (.iconst 0, 1) := by decide +kernel
theorem dX4_archTold_6 : decode cX4_archTold 6 = .ok (.aload_n 0, 1) := by decide +kernel
theorem dX4_archTold_7 : decode cX4_archTold 7 = .ok (.getfield 16, 3) := by decide +kernel
theorem dX4_archTold_10 : decode cX4_archTold 10 = .ok (.iload_n 1, 1) := by decide +kernel
theorem dX4_archTold_11 : decode cX4_archTold 11 = .ok (.iaload, 1) := by decide +kernel
theorem dX4_archTold_12 : decode cX4_archTold 12 = .ok (.iastore, 1) := by decide +kernel
theorem dX4_archTold_13 : decode cX4_archTold 13 = .ok (.dup, 1) := by decide +kernel
theorem dX4_archTold_14 : decode cX4_archTold 14 = .ok (.iconst 1, 1) := by decide +kernel
theorem dX4_archTold_15 : decode cX4_archTold 15 = .ok (.aload_n 0, 1) := by decide +kernel
theorem dX4_archTold_16 : decode cX4_archTold 16 = .ok (.getfield 19, 3) := by decide +kernel
theorem dX4_archTold_19 : decode cX4_archTold 19 = .ok (.iload_n 1, 1) := by decide +kernel
theorem dX4_archTold_20 : decode cX4_archTold 20 = .ok (.iaload, 1) := by decide +kernel
theorem dX4_archTold_21 : decode cX4_archTold 21 = .ok (.iastore, 1) := by decide +kernel
theorem dX4_archTold_22 : decode cX4_archTold 22 = .ok (.dup, 1) := by decide +kernel
theorem dX4_archTold_23 : decode cX4_archTold 23 = .ok (.iconst 2, 1) := by decide +kernel
theorem dX4_archTold_24 : decode cX4_archTold 24 = .ok (.aload_n 0, 1) := by decide +kernel
theorem dX4_archTold_25 : decode cX4_archTold 25 = .ok (.getfield 30, 3) := by decide +kernel
theorem dX4_archTold_28 : decode cX4_archTold 28 = .ok (.getfield 77, 3) := by decide +kernel
theorem dX4_archTold_31 : decode cX4_archTold 31 = .ok (.iload_n 1, 1) := by decide +kernel
theorem dX4_archTold_32 : decode cX4_archTold 32 = .ok (.iaload, 1) := by decide +kernel
theorem dX4_archTold_33 : decode cX4_archTold 33 = .ok (.iastore, 1) := by decide +kernel
theorem dX4_archTold_34 : decode cX4_archTold 34 = .ok (.dup, 1) := by decide +kernel
theorem dX4_archTold_35 : decode cX4_archTold 35 = .ok (.iconst 3, 1) := by decide +kernel
theorem dX4_archTold_36 : decode cX4_archTold 36 = .ok (.aload_n 0, 1) := by decide +kernel
theorem dX4_archTold_37 : decode cX4_archTold 37 = .ok (.getfield 30, 3) := by decide +kernel
theorem dX4_archTold_40 : decode cX4_archTold 40 = .ok (.getfield 80, 3) := by decide +kernel
theorem dX4_archTold_43 : decode cX4_archTold 43 = .ok (.iload_n 1, 1) := by decide +kernel
theorem dX4_archTold_44 : decode cX4_archTold 44 = .ok (.iaload, 1) := by decide +kernel
theorem dX4_archTold_45 : decode cX4_archTold 45 = .ok (.iastore, 1) := by decide +kernel
theorem dX4_archTold_46 : decode cX4_archTold 46 = .ok (.dup, 1) := by decide +kernel
theorem dX4_archTold_47 : decode cX4_archTold 47 = .ok (.iconst 4, 1) := by decide +kernel
theorem dX4_archTold_48 : decode cX4_archTold 48 = .ok (.aload_n 0, 1) := by decide +kernel
theorem dX4_archTold_49 : decode cX4_archTold 49 = .ok (.getfield 30, 3) := by decide +kernel
theorem dX4_archTold_52 : decode cX4_archTold 52 = .ok (.getfield 83, 3) := by decide +kernel
theorem dX4_archTold_55 : decode cX4_archTold 55 = .ok (.iload_n 1, 1) := by decide +kernel
theorem dX4_archTold_56 : decode cX4_archTold 56 = .ok (.iaload, 1) := by decide +kernel
theorem dX4_archTold_57 : decode cX4_archTold 57 = .ok (.iastore, 1) := by decide +kernel
theorem dX4_archTold_58 : decode cX4_archTold 58 = .ok (.dup, 1) := by decide +kernel
theorem dX4_archTold_59 : decode cX4_archTold 59 = .ok (.iconst 5, 1) := by decide +kernel
theorem dX4_archTold_60 : decode cX4_archTold 60 = .ok (.aload_n 0, 1) := by decide +kernel
theorem dX4_archTold_61 : decode cX4_archTold 61 = .ok (.iload_n 1, 1) := by decide +kernel
theorem dX4_archTold_62 : decode cX4_archTold 62 = .ok (.invokevirtual 48, 3) := by decide +kernel
theorem dX4_archTold_65 : decode cX4_archTold 65 = .ok (.iastore, 1) := by decide +kernel
theorem dX4_archTold_66 : decode cX4_archTold 66 = .ok (.dup, 1) := by decide +kernel
theorem dX4_archTold_67 : decode cX4_archTold 67 = .ok (.bipush 6, 2) := by decide +kernel
theorem dX4_archTold_69 : decode cX4_archTold 69 = .ok (.aload_n 0, 1) := by decide +kernel
theorem dX4_archTold_70 : decode cX4_archTold 70 = .ok (.iload_n 1, 1) := by decide +kernel
theorem dX4_archTold_71 : decode cX4_archTold 71 = .ok (.invokevirtual 86, 3) := by decide +kernel
theorem dX4_archTold_74 : decode cX4_archTold 74 = .ok (.iastore, 1) := by decide +kernel
theorem dX4_archTold_75 : decode cX4_archTold 75 = .ok (.dup, 1) := by decide +kernel
theorem dX4_archTold_76 : decode cX4_archTold 76 = .ok (.bipush 7, 2) := by decide +kernel
theorem dX4_archTold_78 : decode cX4_archTold 78 = .ok (.aload_n 0, 1) := by decide +kernel
theorem dX4_archTold_79 : decode cX4_archTold 79 = .ok (.getfield 30, 3) := by decide +kernel
theorem dX4_archTold_82 : decode cX4_archTold 82 = .ok (.getfield 89, 3) := by decide +kernel
theorem dX4_archTold_85 : decode cX4_archTold 85 = .ok (.iload_n 1, 1) := by decide +kernel
theorem dX4_archTold_86 : decode cX4_archTold 86 = .ok (.iaload, 1) := by decide +kernel
theorem dX4_archTold_87 : decode cX4_archTold 87 = .ok (.iastore, 1) := by decide +kernel
theorem dX4_archTold_88 : decode cX4_archTold 88 = .ok (.dup, 1) := by decide +kernel
theorem dX4_archTold_89 : decode cX4_archTold 89 = .ok (.bipush 8, 2) := by decide +kernel
theorem dX4_archTold_91 : decode cX4_archTold 91 = .ok (.aload_n 0, 1) := by decide +kernel
theorem dX4_archTold_92 : decode cX4_archTold 92 = .ok (.getfield 22, 3) := by decide +kernel
theorem dX4_archTold_95 : decode cX4_archTold 95 = .ok (.iload_n 1, 1) := by decide +kernel
theorem dX4_archTold_96 : decode cX4_archTold 96 = .ok (.iaload, 1) := by decide +kernel
theorem dX4_archTold_97 : decode cX4_archTold 97 = .ok (.ifCond .le 7, 3) := by decide +kernel
theorem dX4_archTold_100 : decode cX4_archTold 100 = .ok (.iconst 1, 1) := by decide +kernel
theorem dX4_archTold_101 : decode cX4_archTold 101 = .ok (.goto 4, 3) := by decide +kernel
theorem dX4_archTold_104 : decode cX4_archTold 104 = .ok (.iconst 0, 1) := by decide +kernel
theorem dX4_archTold_105 : decode cX4_archTold 105 = .ok (.iastore, 1) := by decide +kernel
theorem dX4_archTold_106 : decode cX4_archTold 106 = .ok (.astore_n 3, 1) := by decide +kernel
theorem dX4_archTold_107 : decode cX4_archTold 107 = .ok (.aload_n 3, 1) := by decide +kernel
theorem dX4_archTold_108 : decode cX4_archTold 108 = .ok (.iload_n 2, 1) := by decide +kernel
theorem dX4_archTold_109 : decode cX4_archTold 109 = .ok (.iaload, 1) := by decide +kernel
theorem dX4_archTold_110 : decode cX4_archTold 110 = .ok (.ireturn, 1) := by decide +kernel
theorem dX4_arch_0 : decode cX4_arch 0 = .ok (.aload_n 0, 1) := by decide +kernel
theorem dX4_arch_1 : decode cX4_arch 1 = .ok (.iconst 0, 1) := by decide +kernel
theorem dX4_arch_2 : decode cX4_arch 2 = .ok (.putfield 37, 3) := by decide +kernel
theorem dX4_arch_5 : decode cX4_arch 5 = .ok (.aload_n 0, 1) := by decide +kernel
theorem dX4_arch_6 : decode cX4_arch 6 = .ok (.iload_n 1, 1) := by decide +kernel
theorem dX4_arch_7 : decode cX4_arch 7 = .ok (.invokevirtual 92, 3) := by decide +kernel
theorem dX4_arch_10 : decode cX4_arch 10 = .ok (.ifCond .eq 22, 3) := by decide +kernel
theorem dX4_arch_13 : decode cX4_arch 13 = .ok (.iload_n 2, 1) := by decide +kernel
theorem dX4_arch_14 : decode cX4_arch 14 = .ok (.iconst 0, 1) := by decide +kernel
theorem dX4_arch_15 : decode cX4_arch 15 = .ok (.bipush 8, 2) := by decide +kernel
theorem dX4_arch_17 : decode cX4_arch 17 = .ok (.invokestatic 44, 3) := by decide +kernel
theorem dX4_arch_20 : decode cX4_arch 20 = .ok (.ifCond .eq 12, 3) := by decide +kernel
theorem dX4_arch_23 : decode cX4_arch 23 = .ok (.aload_n 0, 1) := by decide +kernel
theorem dX4_arch_24 : decode cX4_arch 24 = .ok (.iload_n 1, 1) := by decide +kernel
theorem dX4_arch_25 : decode cX4_arch 25 = .ok (.iload_n 2, 1) := by decide +kernel
theorem dX4_arch_26 : decode cX4_arch 26 = .ok (.invokevirtual 96, 3) := by decide +kernel
theorem dX4_arch_29 : decode cX4_arch 29 = .ok (.goto 8, 3) := by decide +kernel
theorem dX4_arch_32 : decode cX4_arch 32 = .ok (.aload_n 0, 1) := by decide +kernel
theorem dX4_arch_33 : decode cX4_arch 33 = .ok (.iconst 1, 1) := by decide +kernel
theorem dX4_arch_34 : decode cX4_arch 34 = .ok (.invokevirtual 58, 3) := by decide +kernel
theorem dX4_arch_37 : decode cX4_arch 37 = .ok (.ireturn, 1) := by decide +kernel
theorem dX4_mills_0 : decode cX4_mills 0 = .ok (.iconst 0, 1) := by decide +kernel
theorem dX4_mills_1 : decode cX4_mills 1 = .ok (.istore_n 1, 1) := by decide +kernel
theorem dX4_mills_2 : decode cX4_mills 2 = .ok (.iconst 0, 1) := by decide +kernel
theorem dX4_mills_3 : decode cX4_mills 3 = .ok (.istore_n 2, 1) := by decide +kernel
theorem dX4_mills_4 : decode cX4_mills 4 = .ok (.iload_n 2, 1) := by decide +kernel
theorem dX4_mills_5 : decode cX4_mills 5 = .ok (.aload_n 0, 1) := by decide +kernel
theorem dX4_mills_6 : decode cX4_mills 6 = .ok (.getfield 41, 3) := by decide +kernel
theorem dX4_mills_9 : decode cX4_mills 9 = .ok (.if_icmp .ge 26, 3) := by decide +kernel
theorem dX4_mills_12 : decode cX4_mills 12 = .ok (.iload_n 1, 1) := by decide +kernel
theorem dX4_mills_13 : decode cX4_mills 13 = .ok (.aload_n 0, 1) := by decide +kernel
theorem dX4_mills_14 : decode cX4_mills 14 = .ok (.getfield 22, 3) := by decide +kernel
theorem dX4_mills_17 : decode cX4_mills 17 = .ok (.iload_n 2, 1) := by decide +kernel
theorem dX4_mills_18 : decode cX4_mills 18 = .ok (.iaload, 1) := by decide +kernel
theorem dX4_mills_19 : decode cX4_mills 19 = .ok (.ifCond .le 7, 3) := by decide +kernel
theorem dX4_mills_22 : decode cX4_mills 22 = .ok (.iconst 1, 1) := by decide +kernel
theorem dX4_mills_23 : decode cX4_mills 23 = .ok (.goto 4, 3) := by decide +kernel
theorem dX4_mills_26 : decode cX4_mills 26 = .ok (.iconst 0, 1) := by decide +kernel
theorem dX4_mills_27 : decode cX4_mills 27 = .ok (.iadd, 1) := by decide +kernel
theorem dX4_mills_28 : decode cX4_mills 28 = .ok (.istore_n 1, 1) := by decide +kernel
theorem dX4_mills_29 : decode cX4_mills 29 = .ok (.iinc 2 1, 3) := by decide +kernel
theorem dX4_mills_32 : decode cX4_mills 32 = .ok (.goto (-28), 3) := by decide +kernel
theorem dX4_mills_35 : decode cX4_mills 35 = .ok (.iload_n 1, 1) := by decide +kernel
theorem dX4_mills_36 : decode cX4_mills 36 = .ok (.ireturn, 1) := by decide +kernel
theorem dX4_addMill_0 : decode cX4_addMill 0 = .ok (.aload_n 0, 1) := by decide +kernel
theorem dX4_addMill_1 : decode cX4_addMill 1 = .ok (.iconst 0, 1) := by decide +kernel
theorem dX4_addMill_2 : decode cX4_addMill 2 = .ok (.putfield 37, 3) := by decide +kernel
theorem dX4_addMill_5 : decode cX4_addMill 5 = .ok (.aload_n 0, 1) := by decide +kernel
theorem dX4_addMill_6 : decode cX4_addMill 6 = .ok (.iload_n 1, 1) := by decide +kernel
theorem dX4_addMill_7 : decode cX4_addMill 7 = .ok (.invokevirtual 92, 3) := by decide +kernel
theorem dX4_addMill_10 : decode cX4_addMill 10 = .ok (.ifCond .ne 9, 3) := by decide +kernel
theorem dX4_addMill_13 : decode cX4_addMill 13 = .ok (.aload_n 0, 1) := by decide +kernel
theorem dX4_addMill_14 : decode cX4_addMill 14 = .ok (.iconst 1, 1) := by decide +kernel
theorem dX4_addMill_15 : decode cX4_addMill 15 = .ok (.invokevirtual 58, 3) := by decide +kernel
theorem dX4_addMill_18 : decode cX4_addMill 18 = .ok (.ireturn, 1) := by decide +kernel
theorem dX4_addMill_19 : decode cX4_addMill 19 = .ok (.iload_n 2, 1) := by decide +kernel
theorem dX4_addMill_20 : decode cX4_addMill 20 = .ok (.iconst 1, 1) := by decide +kernel
theorem dX4_addMill_21 : decode cX4_addMill 21 = .ok (.bipush 30, 2) := by decide +kernel
theorem dX4_addMill_23 : decode cX4_addMill 23 = .ok (.invokestatic 44, 3) := by decide +kernel
theorem dX4_addMill_26 : decode cX4_addMill 26 = .ok (.ifCond .ne 9, 3) := by decide +kernel
theorem dX4_addMill_29 : decode cX4_addMill 29 = .ok (.aload_n 0, 1) := by decide +kernel
theorem dX4_addMill_30 : decode cX4_addMill 30 = .ok (.iconst 2, 1) := by decide +kernel
theorem dX4_addMill_31 : decode cX4_addMill 31 = .ok (.invokevirtual 58, 3) := by decide +kernel
theorem dX4_addMill_34 : decode cX4_addMill 34 = .ok (.ireturn, 1) := by decide +kernel
theorem dX4_addMill_35 : decode cX4_addMill 35 = .ok (.aload_n 0, 1) := by decide +kernel
theorem dX4_addMill_36 : decode cX4_addMill 36 = .ok (.getfield 22, 3) := by decide +kernel
theorem dX4_addMill_39 : decode cX4_addMill 39 = .ok (.iload_n 1, 1) := by decide +kernel
theorem dX4_addMill_40 : decode cX4_addMill 40 = .ok (.iaload, 1) := by decide +kernel
theorem dX4_addMill_41 : decode cX4_addMill 41 = .ok (.ifCond .le 9, 3) := by decide +kernel
theorem dX4_addMill_44 : decode cX4_addMill 44 = .ok (.aload_n 0, 1) := by decide +kernel
theorem dX4_addMill_45 : decode cX4_addMill 45 = .ok (.iconst 3, 1) := by decide +kernel
theorem dX4_addMill_46 : decode cX4_addMill 46 = .ok (.invokevirtual 58, 3) := by decide +kernel
theorem dX4_addMill_49 : decode cX4_addMill 49 = .ok (.ireturn, 1) := by decide +kernel
theorem dX4_addMill_50 : decode cX4_addMill 50 = .ok (.aload_n 0, 1) := by decide +kernel
theorem dX4_addMill_51 : decode cX4_addMill 51 = .ok (.getfield 22, 3) := by decide +kernel
theorem dX4_addMill_54 : decode cX4_addMill 54 = .ok (.iload_n 1, 1) := by decide +kernel
theorem dX4_addMill_55 : decode cX4_addMill 55 = .ok (.iload_n 2, 1) := by decide +kernel
theorem dX4_addMill_56 : decode cX4_addMill 56 = .ok (.iastore, 1) := by decide +kernel
theorem dX4_addMill_57 : decode cX4_addMill 57 = .ok (.aload_n 0, 1) := by decide +kernel
theorem dX4_addMill_58 : decode cX4_addMill 58 = .ok (.invokevirtual 99, 3) := by decide +kernel
theorem dX4_addMill_61 : decode cX4_addMill 61 = .ok (.ireturn, 1) := by decide +kernel
theorem dX4_setSluice_0 : decode cX4_setSluice 0 = .ok (.aload_n 0, 1) := by decide +kernel
theorem dX4_setSluice_1 : decode cX4_setSluice 1 = .ok (.iconst 0, 1) := by decide +kernel
theorem dX4_setSluice_2 : decode cX4_setSluice 2 = .ok (.putfield 37, 3) := by decide +kernel
theorem dX4_setSluice_5 : decode cX4_setSluice 5 = .ok (.aload_n 0, 1) := by decide +kernel
theorem dX4_setSluice_6 : decode cX4_setSluice 6 = .ok (.iload_n 1, 1) := by decide +kernel
theorem dX4_setSluice_7 : decode cX4_setSluice 7 = .ok (.invokevirtual 92, 3) := by decide +kernel
theorem dX4_setSluice_10 : decode cX4_setSluice 10 = .ok (.ifCond .ne 9, 3) := by decide +kernel
theorem dX4_setSluice_13 : decode cX4_setSluice 13 = .ok (.aload_n 0, 1) := by decide +kernel
theorem dX4_setSluice_14 : decode cX4_setSluice 14 = .ok (.iconst 1, 1) := by decide +kernel
theorem dX4_setSluice_15 : decode cX4_setSluice 15 = .ok (.invokevirtual 58, 3) := by decide +kernel
theorem dX4_setSluice_18 : decode cX4_setSluice 18 = .ok (.ireturn, 1) := by decide +kernel
theorem dX4_setSluice_19 : decode cX4_setSluice 19 = .ok (.iload_n 2, 1) := by decide +kernel
theorem dX4_setSluice_20 : decode cX4_setSluice 20 = .ok (.iconst 0, 1) := by decide +kernel
theorem dX4_setSluice_21 : decode cX4_setSluice 21 = .ok (.bipush 10, 2) := by decide +kernel
theorem dX4_setSluice_23 : decode cX4_setSluice 23 = .ok (.invokestatic 44, 3) := by decide +kernel
theorem dX4_setSluice_26 : decode cX4_setSluice 26 = .ok (.ifCond .ne 9, 3) := by decide +kernel
theorem dX4_setSluice_29 : decode cX4_setSluice 29 = .ok (.aload_n 0, 1) := by decide +kernel
theorem dX4_setSluice_30 : decode cX4_setSluice 30 = .ok (.iconst 2, 1) := by decide +kernel
theorem dX4_setSluice_31 : decode cX4_setSluice 31 = .ok (.invokevirtual 58, 3) := by decide +kernel
theorem dX4_setSluice_34 : decode cX4_setSluice 34 = .ok (.ireturn, 1) := by decide +kernel
theorem dX4_setSluice_35 : decode cX4_setSluice 35 = .ok (.aload_n 0, 1) := by decide +kernel
theorem dX4_setSluice_36 : decode cX4_setSluice 36 = .ok (.getfield 22, 3) := by decide +kernel
theorem dX4_setSluice_39 : decode cX4_setSluice 39 = .ok (.iload_n 1, 1) := by decide +kernel
theorem dX4_setSluice_40 : decode cX4_setSluice 40 = .ok (.iaload, 1) := by decide +kernel
theorem dX4_setSluice_41 : decode cX4_setSluice 41 = .ok (.ifCond .ne 9, 3) := by decide +kernel
theorem dX4_setSluice_44 : decode cX4_setSluice 44 = .ok (.aload_n 0, 1) := by decide +kernel
theorem dX4_setSluice_45 : decode cX4_setSluice 45 = .ok (.iconst 3, 1) := by decide +kernel
theorem dX4_setSluice_46 : decode cX4_setSluice 46 = .ok (.invokevirtual 58, 3) := by decide +kernel
theorem dX4_setSluice_49 : decode cX4_setSluice 49 = .ok (.ireturn, 1) := by decide +kernel
theorem dX4_setSluice_50 : decode cX4_setSluice 50 = .ok (.aload_n 0, 1) := by decide +kernel
theorem dX4_setSluice_51 : decode cX4_setSluice 51 = .ok (.getfield 30, 3) := by decide +kernel
theorem dX4_setSluice_54 : decode cX4_setSluice 54 = .ok (.getfield 103, 3) := by decide +kernel
theorem dX4_setSluice_57 : decode cX4_setSluice 57 = .ok (.iload_n 1, 1) := by decide +kernel
theorem dX4_setSluice_58 : decode cX4_setSluice 58 = .ok (.iaload, 1) := by decide +kernel
theorem dX4_setSluice_59 : decode cX4_setSluice 59 = .ok (.istore_n 3, 1) := by decide +kernel
theorem dX4_setSluice_60 : decode cX4_setSluice 60 = .ok (.aload_n 0, 1) := by decide +kernel
theorem dX4_setSluice_61 : decode cX4_setSluice 61 = .ok (.getfield 30, 3) := by decide +kernel
theorem dX4_setSluice_64 : decode cX4_setSluice 64 = .ok (.getfield 103, 3) := by decide +kernel
theorem dX4_setSluice_67 : decode cX4_setSluice 67 = .ok (.iload_n 1, 1) := by decide +kernel
theorem dX4_setSluice_68 : decode cX4_setSluice 68 = .ok (.iload_n 2, 1) := by decide +kernel
theorem dX4_setSluice_69 : decode cX4_setSluice 69 = .ok (.iastore, 1) := by decide +kernel
theorem dX4_setSluice_70 : decode cX4_setSluice 70 = .ok (.iload_n 3, 1) := by decide +kernel
theorem dX4_setSluice_71 : decode cX4_setSluice 71 = .ok (.ireturn, 1) := by decide +kernel
theorem dX4_millTold_0 : decode cX4_millTold 0 = .ok (.aload_n 0, 1) := by decide +kernel
theorem dX4_millTold_1 : decode cX4_millTold 1 = .ok (.getfield 22, 3) := by decide +kernel
theorem dX4_millTold_4 : decode cX4_millTold 4 = .ok (.iload_n 1, 1) := by decide +kernel
theorem dX4_millTold_5 : decode cX4_millTold 5 = .ok (.iaload, 1) := by decide +kernel
theorem dX4_millTold_6 : decode cX4_millTold 6 = .ok (.ifCond .ne 5, 3) := by decide +kernel
theorem dX4_millTold_9 : decode cX4_millTold 9 = .ok (.iconst (-1), 1) := by decide +kernel
theorem dX4_millTold_10 : decode cX4_millTold 10 = .ok (.ireturn, 1) := by decide +kernel
theorem dX4_millTold_11 : decode cX4_millTold 11 = .ok (.iload_n 2, 1) := by decide +kernel
theorem dX4_millTold_12 : decode cX4_millTold 12 = .ok (.ifCond .ne 12, 3) := by decide +kernel
theorem dX4_millTold_15 : decode cX4_millTold 15 = .ok (.aload_n 0, 1) := by decide +kernel
theorem dX4_millTold_16 : decode cX4_millTold 16 = .ok (.getfield 22, 3) := by decide +kernel
theorem dX4_millTold_19 : decode cX4_millTold 19 = .ok (.iload_n 1, 1) := by decide +kernel
theorem dX4_millTold_20 : decode cX4_millTold 20 = .ok (.iaload, 1) := by decide +kernel
theorem dX4_millTold_21 : decode cX4_millTold 21 = .ok (.goto 46, 3) := by decide +kernel
theorem dX4_millTold_24 : decode cX4_millTold 24 = .ok (.iload_n 2, 1) := by decide +kernel
theorem dX4_millTold_25 : decode cX4_millTold 25 = .ok (.iconst 1, 1) := by decide +kernel
theorem dX4_millTold_26 : decode cX4_millTold 26 = .ok (.if_icmp .ne 15, 3) := by decide +kernel
theorem dX4_millTold_29 : decode cX4_millTold 29 = .ok (.aload_n 0, 1) := by decide +kernel
theorem dX4_millTold_30 : decode cX4_millTold 30 = .ok (.getfield 30, 3) := by decide +kernel
theorem dX4_millTold_33 : decode cX4_millTold 33 = .ok (.getfield 103, 3) := by decide +kernel
theorem dX4_millTold_36 : decode cX4_millTold 36 = .ok (.iload_n 1, 1) := by decide +kernel
theorem dX4_millTold_37 : decode cX4_millTold 37 = .ok (.iaload, 1) := by decide +kernel
theorem dX4_millTold_38 : decode cX4_millTold 38 = .ok (.goto 29, 3) := by decide +kernel
theorem dX4_millTold_41 : decode cX4_millTold 41 = .ok (.iload_n 2, 1) := by decide +kernel
theorem dX4_millTold_42 : decode cX4_millTold 42 = .ok (.iconst 2, 1) := by decide +kernel
theorem dX4_millTold_43 : decode cX4_millTold 43 = .ok (.if_icmp .ne 15, 3) := by decide +kernel
theorem dX4_millTold_46 : decode cX4_millTold 46 = .ok (.aload_n 0, 1) := by decide +kernel
theorem dX4_millTold_47 : decode cX4_millTold 47 = .ok (.getfield 30, 3) := by decide +kernel
theorem dX4_millTold_50 : decode cX4_millTold 50 = .ok (.getfield 106, 3) := by decide +kernel
theorem dX4_millTold_53 : decode cX4_millTold 53 = .ok (.iload_n 1, 1) := by decide +kernel
theorem dX4_millTold_54 : decode cX4_millTold 54 = .ok (.iaload, 1) := by decide +kernel
theorem dX4_millTold_55 : decode cX4_millTold 55 = .ok (.goto 12, 3) := by decide +kernel
theorem dX4_millTold_58 : decode cX4_millTold 58 = .ok (.aload_n 0, 1) := by decide +kernel
theorem dX4_millTold_59 : decode cX4_millTold 59 = .ok (.getfield 30, 3) := by decide +kernel
theorem dX4_millTold_62 : decode cX4_millTold 62 = .ok (.getfield 109, 3) := by decide +kernel
theorem dX4_millTold_65 : decode cX4_millTold 65 = .ok (.iload_n 1, 1) := by decide +kernel
theorem dX4_millTold_66 : decode cX4_millTold 66 = .ok (.iaload, 1) := by decide +kernel
theorem dX4_millTold_67 : decode cX4_millTold 67 = .ok (.ireturn, 1) := by decide +kernel
theorem dX4_mill_0 : decode cX4_mill 0 = .ok (.aload_n 0, 1) := by decide +kernel
theorem dX4_mill_1 : decode cX4_mill 1 = .ok (.iconst 0, 1) := by decide +kernel
theorem dX4_mill_2 : decode cX4_mill 2 = .ok (.putfield 37, 3) := by decide +kernel
theorem dX4_mill_5 : decode cX4_mill 5 = .ok (.aload_n 0, 1) := by decide +kernel
theorem dX4_mill_6 : decode cX4_mill 6 = .ok (.iload_n 1, 1) := by decide +kernel
theorem dX4_mill_7 : decode cX4_mill 7 = .ok (.invokevirtual 92, 3) := by decide +kernel
theorem dX4_mill_10 : decode cX4_mill 10 = .ok (.ifCond .eq 21, 3) := by decide +kernel
theorem dX4_mill_13 : decode cX4_mill 13 = .ok (.iload_n 2, 1) := by decide +kernel
theorem dX4_mill_14 : decode cX4_mill 14 = .ok (.iconst 0, 1) := by decide +kernel
theorem dX4_mill_15 : decode cX4_mill 15 = .ok (.iconst 3, 1) := by decide +kernel
theorem dX4_mill_16 : decode cX4_mill 16 = .ok (.invokestatic 44, 3) := by decide +kernel
theorem dX4_mill_19 : decode cX4_mill 19 = .ok (.ifCond .eq 12, 3) := by decide +kernel
theorem dX4_mill_22 : decode cX4_mill 22 = .ok (.aload_n 0, 1) := by decide +kernel
theorem dX4_mill_23 : decode cX4_mill 23 = .ok (.iload_n 1, 1) := by decide +kernel
theorem dX4_mill_24 : decode cX4_mill 24 = .ok (.iload_n 2, 1) := by decide +kernel
theorem dX4_mill_25 : decode cX4_mill 25 = .ok (.invokevirtual 112, 3) := by decide +kernel
theorem dX4_mill_28 : decode cX4_mill 28 = .ok (.goto 8, 3) := by decide +kernel
theorem dX4_mill_31 : decode cX4_mill 31 = .ok (.aload_n 0, 1) := by decide +kernel
theorem dX4_mill_32 : decode cX4_mill 32 = .ok (.iconst 1, 1) := by decide +kernel
theorem dX4_mill_33 : decode cX4_mill 33 = .ok (.invokevirtual 58, 3) := by decide +kernel
theorem dX4_mill_36 : decode cX4_mill 36 = .ok (.ireturn, 1) := by decide +kernel
theorem dX4_mend_0 : decode cX4_mend 0 = .ok (.aload_n 0, 1) := by decide +kernel
theorem dX4_mend_1 : decode cX4_mend 1 = .ok (.iconst 0, 1) := by decide +kernel
theorem dX4_mend_2 : decode cX4_mend 2 = .ok (.putfield 37, 3) := by decide +kernel
theorem dX4_mend_5 : decode cX4_mend 5 = .ok (.aload_n 0, 1) := by decide +kernel
theorem dX4_mend_6 : decode cX4_mend 6 = .ok (.iload_n 1, 1) := by decide +kernel
theorem dX4_mend_7 : decode cX4_mend 7 = .ok (.invokevirtual 92, 3) := by decide +kernel
theorem dX4_mend_10 : decode cX4_mend 10 = .ok (.ifCond .ne 9, 3) := by decide +kernel
theorem dX4_mend_13 : decode cX4_mend 13 = .ok (.aload_n 0, 1) := by decide +kernel
theorem dX4_mend_14 : decode cX4_mend 14 = .ok (.iconst 1, 1) := by decide +kernel
theorem dX4_mend_15 : decode cX4_mend 15 = .ok (.invokevirtual 58, 3) := by decide +kernel
theorem dX4_mend_18 : decode cX4_mend 18 = .ok (.ireturn, 1) := by decide +kernel
theorem dX4_mend_19 : decode cX4_mend 19 = .ok (.aload_n 0, 1) := by decide +kernel
theorem dX4_mend_20 : decode cX4_mend 20 = .ok (.getfield 30, 3) := by decide +kernel
theorem dX4_mend_23 : decode cX4_mend 23 = .ok (.getfield 115, 3) := by decide +kernel
theorem dX4_mend_26 : decode cX4_mend 26 = .ok (.ifCond .eq 15, 3) := by decide +kernel
theorem dX4_mend_29 : decode cX4_mend 29 = .ok (.aload_n 0, 1) := by decide +kernel
theorem dX4_mend_30 : decode cX4_mend 30 = .ok (.getfield 30, 3) := by decide +kernel
theorem dX4_mend_33 : decode cX4_mend 33 = .ok (.getfield 80, 3) := by decide +kernel
theorem dX4_mend_36 : decode cX4_mend 36 = .ok (.iload_n 1, 1) := by decide +kernel
theorem dX4_mend_37 : decode cX4_mend 37 = .ok (.iaload, 1) := by decide +kernel
theorem dX4_mend_38 : decode cX4_mend 38 = .ok (.ifCond .ne 9, 3) := by decide +kernel
theorem dX4_mend_41 : decode cX4_mend 41 = .ok (.aload_n 0, 1) := by decide +kernel
theorem dX4_mend_42 : decode cX4_mend 42 = .ok (.iconst 2, 1) := by decide +kernel
theorem dX4_mend_43 : decode cX4_mend 43 = .ok (.invokevirtual 58, 3) := by decide +kernel
theorem dX4_mend_46 : decode cX4_mend 46 = .ok (.ireturn, 1) := by decide +kernel
theorem dX4_mend_47 : decode cX4_mend 47 = .ok (.aload_n 0, 1) := by decide +kernel
theorem dX4_mend_48 : decode cX4_mend 48 = .ok (.getfield 30, 3) := by decide +kernel
theorem dX4_mend_51 : decode cX4_mend 51 = .ok (.dup, 1) := by decide +kernel
theorem dX4_mend_52 : decode cX4_mend 52 = .ok (.getfield 115, 3) := by decide +kernel
theorem dX4_mend_55 : decode cX4_mend 55 = .ok (.iconst 1, 1) := by decide +kernel
theorem dX4_mend_56 : decode cX4_mend 56 = .ok (.isub, 1) := by decide +kernel
theorem dX4_mend_57 : decode cX4_mend 57 = .ok (.putfield 115, 3) := by decide +kernel
theorem dX4_mend_60 : decode cX4_mend 60 = .ok (.aload_n 0, 1) := by decide +kernel
theorem dX4_mend_61 : decode cX4_mend 61 = .ok (.getfield 30, 3) := by decide +kernel
theorem dX4_mend_64 : decode cX4_mend 64 = .ok (.getfield 80, 3) := by decide +kernel
theorem dX4_mend_67 : decode cX4_mend 67 = .ok (.iload_n 1, 1) := by decide +kernel
theorem dX4_mend_68 : decode cX4_mend 68 = .ok (.iconst 0, 1) := by decide +kernel
theorem dX4_mend_69 : decode cX4_mend 69 = .ok (.aload_n 0, 1) := by decide +kernel
theorem dX4_mend_70 : decode cX4_mend 70 = .ok (.getfield 30, 3) := by decide +kernel
theorem dX4_mend_73 : decode cX4_mend 73 = .ok (.getfield 80, 3) := by decide +kernel
theorem dX4_mend_76 : decode cX4_mend 76 = .ok (.iload_n 1, 1) := by decide +kernel
theorem dX4_mend_77 : decode cX4_mend 77 = .ok (.iaload, 1) := by decide +kernel
theorem dX4_mend_78 : decode cX4_mend 78 = .ok (.bipush 10, 2) := by decide +kernel
theorem dX4_mend_80 : decode cX4_mend 80 = .ok (.isub, 1) := by decide +kernel
theorem dX4_mend_81 : decode cX4_mend 81 = .ok (.invokestatic 68, 3) := by decide +kernel
theorem dX4_mend_84 : decode cX4_mend 84 = .ok (.iastore, 1) := by decide +kernel
theorem dX4_mend_85 : decode cX4_mend 85 = .ok (.aload_n 0, 1) := by decide +kernel
theorem dX4_mend_86 : decode cX4_mend 86 = .ok (.getfield 30, 3) := by decide +kernel
theorem dX4_mend_89 : decode cX4_mend 89 = .ok (.getfield 83, 3) := by decide +kernel
theorem dX4_mend_92 : decode cX4_mend 92 = .ok (.iload_n 1, 1) := by decide +kernel
theorem dX4_mend_93 : decode cX4_mend 93 = .ok (.iconst 0, 1) := by decide +kernel
theorem dX4_mend_94 : decode cX4_mend 94 = .ok (.iastore, 1) := by decide +kernel
theorem dX4_mend_95 : decode cX4_mend 95 = .ok (.aload_n 0, 1) := by decide +kernel
theorem dX4_mend_96 : decode cX4_mend 96 = .ok (.getfield 30, 3) := by decide +kernel
theorem dX4_mend_99 : decode cX4_mend 99 = .ok (.getfield 80, 3) := by decide +kernel
theorem dX4_mend_102 : decode cX4_mend 102 = .ok (.iload_n 1, 1) := by decide +kernel
theorem dX4_mend_103 : decode cX4_mend 103 = .ok (.iaload, 1) := by decide +kernel
theorem dX4_mend_104 : decode cX4_mend 104 = .ok (.ireturn, 1) := by decide +kernel
theorem dX4_quake_0 : decode cX4_quake 0 = .ok (.aload_n 0, 1) := by decide +kernel
theorem dX4_quake_1 : decode cX4_quake 1 = .ok (.iconst 0, 1) := by decide +kernel
theorem dX4_quake_2 : decode cX4_quake 2 = .ok (.putfield 37, 3) := by decide +kernel
theorem dX4_quake_5 : decode cX4_quake 5 = .ok (.aload_n 0, 1) := by decide +kernel
theorem dX4_quake_6 : decode cX4_quake 6 = .ok (.iload_n 1, 1) := by decide +kernel
theorem dX4_quake_7 : decode cX4_quake 7 = .ok (.invokevirtual 92, 3) := by decide +kernel
theorem dX4_quake_10 : decode cX4_quake 10 = .ok (.ifCond .ne 9, 3) := by decide +kernel
theorem dX4_quake_13 : decode cX4_quake 13 = .ok (.aload_n 0, 1) := by decide +kernel
theorem dX4_quake_14 : decode cX4_quake 14 = .ok (.iconst 1, 1) := by decide +kernel
theorem dX4_quake_15 : decode cX4_quake 15 = .ok (.invokevirtual 58, 3) := by decide +kernel
theorem dX4_quake_18 : decode cX4_quake 18 = .ok (.ireturn, 1) := by decide +kernel
theorem dX4_quake_19 : decode cX4_quake 19 = .ok (.iload_n 2, 1) := by decide +kernel
theorem dX4_quake_20 : decode cX4_quake 20 = .ok (.iconst 1, 1) := by decide +kernel
theorem dX4_quake_21 : decode cX4_quake 21 = .ok (.bipush 50, 2) := by decide +kernel
theorem dX4_quake_23 : decode cX4_quake 23 = .ok (.invokestatic 44, 3) := by decide +kernel
theorem dX4_quake_26 : decode cX4_quake 26 = .ok (.ifCond .ne 9, 3) := by decide +kernel
theorem dX4_quake_29 : decode cX4_quake 29 = .ok (.aload_n 0, 1) := by decide +kernel
theorem dX4_quake_30 : decode cX4_quake 30 = .ok (.iconst 2, 1) := by decide +kernel
theorem dX4_quake_31 : decode cX4_quake 31 = .ok (.invokevirtual 58, 3) := by decide +kernel
theorem dX4_quake_34 : decode cX4_quake 34 = .ok (.ireturn, 1) := by decide +kernel
theorem dX4_quake_35 : decode cX4_quake 35 = .ok (.aload_n 0, 1) := by decide +kernel
theorem dX4_quake_36 : decode cX4_quake 36 = .ok (.getfield 30, 3) := by decide +kernel
theorem dX4_quake_39 : decode cX4_quake 39 = .ok (.getfield 80, 3) := by decide +kernel
theorem dX4_quake_42 : decode cX4_quake 42 = .ok (.iload_n 1, 1) := by decide +kernel
theorem dX4_quake_43 : decode cX4_quake 43 = .ok (.bipush 50, 2) := by decide +kernel
theorem dX4_quake_45 : decode cX4_quake 45 = .ok (.aload_n 0, 1) := by decide +kernel
theorem dX4_quake_46 : decode cX4_quake 46 = .ok (.getfield 30, 3) := by decide +kernel
theorem dX4_quake_49 : decode cX4_quake 49 = .ok (.getfield 80, 3) := by decide +kernel
theorem dX4_quake_52 : decode cX4_quake 52 = .ok (.iload_n 1, 1) := by decide +kernel
theorem dX4_quake_53 : decode cX4_quake 53 = .ok (.iaload, 1) := by decide +kernel
theorem dX4_quake_54 : decode cX4_quake 54 = .ok (.iload_n 2, 1) := by decide +kernel
theorem dX4_quake_55 : decode cX4_quake 55 = .ok (.iadd, 1) := by decide +kernel
theorem dX4_quake_56 : decode cX4_quake 56 = .ok (.invokestatic 52, 3) := by decide +kernel
theorem dX4_quake_59 : decode cX4_quake 59 = .ok (.iastore, 1) := by decide +kernel
theorem dX4_quake_60 : decode cX4_quake 60 = .ok (.aload_n 0, 1) := by decide +kernel
theorem dX4_quake_61 : decode cX4_quake 61 = .ok (.getfield 30, 3) := by decide +kernel
theorem dX4_quake_64 : decode cX4_quake 64 = .ok (.getfield 80, 3) := by decide +kernel
theorem dX4_quake_67 : decode cX4_quake 67 = .ok (.iload_n 1, 1) := by decide +kernel
theorem dX4_quake_68 : decode cX4_quake 68 = .ok (.iaload, 1) := by decide +kernel
theorem dX4_quake_69 : decode cX4_quake 69 = .ok (.ireturn, 1) := by decide +kernel
theorem dX4_pass_0 : decode cX4_pass 0 = .ok (.iconst 0, 1) := by decide +kernel
theorem dX4_pass_1 : decode cX4_pass 1 = .ok (.istore_n 2, 1) := by decide +kernel
theorem dX4_pass_2 : decode cX4_pass 2 = .ok (.iconst 0, 1) := by decide +kernel
theorem dX4_pass_3 : decode cX4_pass 3 = .ok (.istore_n 3, 1) := by decide +kernel
theorem dX4_pass_4 : decode cX4_pass 4 = .ok (.iload_n 3, 1) := by decide +kernel
theorem dX4_pass_5 : decode cX4_pass 5 = .ok (.iload_n 1, 1) := by decide +kernel
theorem dX4_pass_6 : decode cX4_pass 6 = .ok (.if_icmp .ge 16, 3) := by decide +kernel
theorem dX4_pass_9 : decode cX4_pass 9 = .ok (.iload_n 2, 1) := by decide +kernel
theorem dX4_pass_10 : decode cX4_pass 10 = .ok (.aload_n 0, 1) := by decide +kernel
theorem dX4_pass_11 : decode cX4_pass 11 = .ok (.invokevirtual 118, 3) := by decide +kernel
theorem dX4_pass_14 : decode cX4_pass 14 = .ok (.iadd, 1) := by decide +kernel
theorem dX4_pass_15 : decode cX4_pass 15 = .ok (.istore_n 2, 1) := by decide +kernel
theorem dX4_pass_16 : decode cX4_pass 16 = .ok (.iinc 3 1, 3) := by decide +kernel
theorem dX4_pass_19 : decode cX4_pass 19 = .ok (.goto (-15), 3) := by decide +kernel
theorem dX4_pass_22 : decode cX4_pass 22 = .ok (.iload_n 2, 1) := by decide +kernel
theorem dX4_pass_23 : decode cX4_pass 23 = .ok (.ireturn, 1) := by decide +kernel
theorem dX4_pass__0 : decode cX4_pass_ 0 = .ok (.aload_n 0, 1) := by decide +kernel
theorem dX4_pass__1 : decode cX4_pass_ 1 = .ok (.iconst 0, 1) := by decide +kernel
theorem dX4_pass__2 : decode cX4_pass_ 2 = .ok (.putfield 37, 3) := by decide +kernel
theorem dX4_pass__5 : decode cX4_pass_ 5 = .ok (.iload_n 1, 1) := by decide +kernel
theorem dX4_pass__6 : decode cX4_pass_ 6 = .ok (.iconst 1, 1) := by decide +kernel
theorem dX4_pass__7 : decode cX4_pass_ 7 = .ok (.bipush 100, 2) := by decide +kernel
theorem dX4_pass__9 : decode cX4_pass_ 9 = .ok (.invokestatic 44, 3) := by decide +kernel
theorem dX4_pass__12 : decode cX4_pass_ 12 = .ok (.ifCond .eq 14, 3) := by decide +kernel
theorem dX4_pass__15 : decode cX4_pass_ 15 = .ok (.aload_n 0, 1) := by decide +kernel
theorem dX4_pass__16 : decode cX4_pass_ 16 = .ok (.getfield 30, 3) := by decide +kernel
theorem dX4_pass__19 : decode cX4_pass_ 19 = .ok (.iload_n 1, 1) := by decide +kernel
theorem dX4_pass__20 : decode cX4_pass_ 20 = .ok (.invokestatic 121, 3) := by decide +kernel
theorem dX4_pass__23 : decode cX4_pass_ 23 = .ok (.goto 8, 3) := by decide +kernel
theorem dX4_pass__26 : decode cX4_pass_ 26 = .ok (.aload_n 0, 1) := by decide +kernel
theorem dX4_pass__27 : decode cX4_pass_ 27 = .ok (.iconst 1, 1) := by decide +kernel
theorem dX4_pass__28 : decode cX4_pass_ 28 = .ok (.invokevirtual 58, 3) := by decide +kernel
theorem dX4_pass__31 : decode cX4_pass_ 31 = .ok (.ireturn, 1) := by decide +kernel
theorem dX4_counted_0 : decode cX4_counted 0 = .ok (.bipush 12, 2) := by decide +kernel
theorem dX4_counted_2 : decode cX4_counted 2 = .ok (.newarray .int, 2) := by decide +kernel
theorem dX4_counted_4 : decode cX4_counted 4 = .ok (.dup, 1) := by decide +kernel
theorem dX4_counted_5 : decode cX4_counted 5 = .ok (.iconst 0, 1) := by decide +kernel
theorem dX4_counted_6 : decode cX4_counted 6 = .ok (.aload_n 0, 1) := by decide +kernel
theorem dX4_counted_7 : decode cX4_counted 7 = .ok (.getfield 30, 3) := by decide +kernel
theorem dX4_counted_10 : decode cX4_counted 10 = .ok (.getfield 124, 3) := by decide +kernel
theorem dX4_counted_13 : decode cX4_counted 13 = .ok (.iastore, 1) := by decide +kernel
theorem dX4_counted_14 : decode cX4_counted 14 = .ok (.dup, 1) := by decide +kernel
theorem dX4_counted_15 : decode cX4_counted 15 = .ok (.iconst 1, 1) := by decide +kernel
theorem dX4_counted_16 : decode cX4_counted 16 = .ok (.aload_n 0, 1) := by decide +kernel
theorem dX4_counted_17 : decode cX4_counted 17 = .ok (.getfield 41, 3) := by decide +kernel
theorem dX4_counted_20 : decode cX4_counted 20 = .ok (.iastore, 1) := by decide +kernel
theorem dX4_counted_21 : decode cX4_counted 21 = .ok (.dup, 1) := by decide +kernel
theorem dX4_counted_22 : decode cX4_counted 22 = .ok (.iconst 2, 1) := by decide +kernel
theorem dX4_counted_23 : decode cX4_counted 23 = .ok (.aload_n 0, 1) := by decide +kernel
theorem dX4_counted_24 : decode cX4_counted 24 = .ok (.invokevirtual 99, 3) := by decide +kernel
theorem dX4_counted_27 : decode cX4_counted 27 = .ok (.iastore, 1) := by decide +kernel
theorem dX4_counted_28 : decode cX4_counted 28 = .ok (.dup, 1) := by decide +kernel
theorem dX4_counted_29 : decode cX4_counted 29 = .ok (.iconst 3, 1) := by decide +kernel
theorem dX4_counted_30 : decode cX4_counted 30 = .ok (.aload_n 0, 1) := by decide +kernel
theorem dX4_counted_31 : decode cX4_counted 31 = .ok (.getfield 30, 3) := by decide +kernel
theorem dX4_counted_34 : decode cX4_counted 34 = .ok (.getfield 115, 3) := by decide +kernel
theorem dX4_counted_37 : decode cX4_counted 37 = .ok (.iastore, 1) := by decide +kernel
theorem dX4_counted_38 : decode cX4_counted 38 = .ok (.dup, 1) := by decide +kernel
theorem dX4_counted_39 : decode cX4_counted 39 = .ok (.iconst 4, 1) := by decide +kernel
theorem dX4_counted_40 : decode cX4_counted 40 = .ok (.aload_n 0, 1) := by decide +kernel
theorem dX4_counted_41 : decode cX4_counted 41 = .ok (.getfield 30, 3) := by decide +kernel
theorem dX4_counted_44 : decode cX4_counted 44 = .ok (.getfield 65, 3) := by decide +kernel
theorem dX4_counted_47 : decode cX4_counted 47 = .ok (.iastore, 1) := by decide +kernel
theorem dX4_counted_48 : decode cX4_counted 48 = .ok (.dup, 1) := by decide +kernel
theorem dX4_counted_49 : decode cX4_counted 49 = .ok (.iconst 5, 1) := by decide +kernel
theorem dX4_counted_50 : decode cX4_counted 50 = .ok (.aload_n 0, 1) := by decide +kernel
theorem dX4_counted_51 : decode cX4_counted 51 = .ok (.getfield 30, 3) := by decide +kernel
theorem dX4_counted_54 : decode cX4_counted 54 = .ok (.aload_n 0, 1) := by decide +kernel
theorem dX4_counted_55 : decode cX4_counted 55 = .ok (.getfield 30, 3) := by decide +kernel
theorem dX4_counted_58 : decode cX4_counted 58 = .ok (.getfield 77, 3) := by decide +kernel
theorem dX4_counted_61 : decode cX4_counted 61 = .ok (.invokevirtual 127, 3) := by decide +kernel
theorem dX4_counted_64 : decode cX4_counted 64 = .ok (.iastore, 1) := by decide +kernel
theorem dX4_counted_65 : decode cX4_counted 65 = .ok (.dup, 1) := by decide +kernel
theorem dX4_counted_66 : decode cX4_counted 66 = .ok (.bipush 6, 2) := by decide +kernel
theorem dX4_counted_68 : decode cX4_counted 68 = .ok (.aload_n 0, 1) := by decide +kernel
theorem dX4_counted_69 : decode cX4_counted 69 = .ok (.getfield 30, 3) := by decide +kernel
theorem dX4_counted_72 : decode cX4_counted 72 = .ok (.getfield 131, 3) := by decide +kernel
theorem dX4_counted_75 : decode cX4_counted 75 = .ok (.iastore, 1) := by decide +kernel
theorem dX4_counted_76 : decode cX4_counted 76 = .ok (.dup, 1) := by decide +kernel
theorem dX4_counted_77 : decode cX4_counted 77 = .ok (.bipush 7, 2) := by decide +kernel
theorem dX4_counted_79 : decode cX4_counted 79 = .ok (.aload_n 0, 1) := by decide +kernel
theorem dX4_counted_80 : decode cX4_counted 80 = .ok (.getfield 30, 3) := by decide +kernel
theorem dX4_counted_83 : decode cX4_counted 83 = .ok (.getfield 74, 3) := by decide +kernel
theorem dX4_counted_86 : decode cX4_counted 86 = .ok (.iastore, 1) := by decide +kernel
theorem dX4_counted_87 : decode cX4_counted 87 = .ok (.dup, 1) := by decide +kernel
theorem dX4_counted_88 : decode cX4_counted 88 = .ok (.bipush 8, 2) := by decide +kernel
theorem dX4_counted_90 : decode cX4_counted 90 = .ok (.aload_n 0, 1) := by decide +kernel
theorem dX4_counted_91 : decode cX4_counted 91 = .ok (.getfield 30, 3) := by decide +kernel
theorem dX4_counted_94 : decode cX4_counted 94 = .ok (.aload_n 0, 1) := by decide +kernel
theorem dX4_counted_95 : decode cX4_counted 95 = .ok (.getfield 30, 3) := by decide +kernel
theorem dX4_counted_98 : decode cX4_counted 98 = .ok (.getfield 89, 3) := by decide +kernel
theorem dX4_counted_101 : decode cX4_counted 101 = .ok (.invokevirtual 127, 3) := by decide +kernel
theorem dX4_counted_104 : decode cX4_counted 104 = .ok (.iastore, 1) := by decide +kernel
theorem dX4_counted_105 : decode cX4_counted 105 = .ok (.dup, 1) := by decide +kernel
theorem dX4_counted_106 : decode cX4_counted 106 = .ok (.bipush 9, 2) := by decide +kernel
theorem dX4_counted_108 : decode cX4_counted 108 = .ok (.aload_n 0, 1) := by decide +kernel
theorem dX4_counted_109 : decode cX4_counted 109 = .ok (.getfield 30, 3) := by decide +kernel
theorem dX4_counted_112 : decode cX4_counted 112 = .ok (.getfield 134, 3) := by decide +kernel
theorem dX4_counted_115 : decode cX4_counted 115 = .ok (.iastore, 1) := by decide +kernel
theorem dX4_counted_116 : decode cX4_counted 116 = .ok (.dup, 1) := by decide +kernel
theorem dX4_counted_117 : decode cX4_counted 117 = .ok (.bipush 10, 2) := by decide +kernel
theorem dX4_counted_119 : decode cX4_counted 119 = .ok (.aload_n 0, 1) := by decide +kernel
theorem dX4_counted_120 : decode cX4_counted 120 = .ok (.getfield 30, 3) := by decide +kernel
theorem dX4_counted_123 : decode cX4_counted 123 = .ok (.getfield 137, 3) := by decide +kernel
theorem dX4_counted_126 : decode cX4_counted 126 = .ok (.iastore, 1) := by decide +kernel
theorem dX4_counted_127 : decode cX4_counted 127 = .ok (.dup, 1) := by decide +kernel
theorem dX4_counted_128 : decode cX4_counted 128 = .ok (.bipush 11, 2) := by decide +kernel
theorem dX4_counted_130 : decode cX4_counted 130 = .ok (.aload_n 0, 1) := by decide +kernel
theorem dX4_counted_131 : decode cX4_counted 131 = .ok (.getfield 30, 3) := by decide +kernel
theorem dX4_counted_134 : decode cX4_counted 134 = .ok (.getfield 140, 3) := by decide +kernel
theorem dX4_counted_137 : decode cX4_counted 137 = .ok (.iastore, 1) := by decide +kernel
theorem dX4_counted_138 : decode cX4_counted 138 = .ok (.astore_n 2, 1) := by decide +kernel
theorem dX4_counted_139 : decode cX4_counted 139 = .ok (.aload_n 2, 1) := by decide +kernel
theorem dX4_counted_140 : decode cX4_counted 140 = .ok (.iload_n 1, 1) := by decide +kernel
theorem dX4_counted_141 : decode cX4_counted 141 = .ok (.iaload, 1) := by decide +kernel
theorem dX4_counted_142 : decode cX4_counted 142 = .ok (.ireturn, 1) := by decide +kernel
theorem dX4_count_0 : decode cX4_count 0 = .ok (.aload_n 0, 1) := by decide +kernel
theorem dX4_count_1 : decode cX4_count 1 = .ok (.iconst 0, 1) := by decide +kernel
theorem dX4_count_2 : decode cX4_count 2 = .ok (.putfield 37, 3) := by decide +kernel
theorem dX4_count_5 : decode cX4_count 5 = .ok (.iload_n 1, 1) := by decide +kernel
theorem dX4_count_6 : decode cX4_count 6 = .ok (.iconst 0, 1) := by decide +kernel
theorem dX4_count_7 : decode cX4_count 7 = .ok (.bipush 11, 2) := by decide +kernel
theorem dX4_count_9 : decode cX4_count 9 = .ok (.invokestatic 44, 3) := by decide +kernel
theorem dX4_count_12 : decode cX4_count 12 = .ok (.ifCond .eq 11, 3) := by decide +kernel
theorem dX4_count_15 : decode cX4_count 15 = .ok (.aload_n 0, 1) := by decide +kernel
theorem dX4_count_16 : decode cX4_count 16 = .ok (.iload_n 1, 1) := by decide +kernel
theorem dX4_count_17 : decode cX4_count 17 = .ok (.invokevirtual 143, 3) := by decide +kernel
theorem dX4_count_20 : decode cX4_count 20 = .ok (.goto 8, 3) := by decide +kernel
theorem dX4_count_23 : decode cX4_count 23 = .ok (.aload_n 0, 1) := by decide +kernel
theorem dX4_count_24 : decode cX4_count 24 = .ok (.iconst 1, 1) := by decide +kernel
theorem dX4_count_25 : decode cX4_count 25 = .ok (.invokevirtual 58, 3) := by decide +kernel
theorem dX4_count_28 : decode cX4_count 28 = .ok (.ireturn, 1) := by decide +kernel
theorem dX4_foresee_0 : decode cX4_foresee 0 = .ok (.aload_n 0, 1) := by decide +kernel
theorem dX4_foresee_1 : decode cX4_foresee 1 = .ok (.iconst 0, 1) := by decide +kernel
theorem dX4_foresee_2 : decode cX4_foresee 2 = .ok (.putfield 37, 3) := by decide +kernel
theorem dX4_foresee_5 : decode cX4_foresee 5 = .ok (.iload_n 1, 1) := by decide +kernel
theorem dX4_foresee_6 : decode cX4_foresee 6 = .ok (.iconst 1, 1) := by decide +kernel
theorem dX4_foresee_7 : decode cX4_foresee 7 = .ok (.bipush 100, 2) := by decide +kernel
theorem dX4_foresee_9 : decode cX4_foresee 9 = .ok (.invokestatic 44, 3) := by decide +kernel
theorem dX4_foresee_12 : decode cX4_foresee 12 = .ok (.ifCond .ne 9, 3) := by decide +kernel
theorem dX4_foresee_15 : decode cX4_foresee 15 = .ok (.aload_n 0, 1) := by decide +kernel
theorem dX4_foresee_16 : decode cX4_foresee 16 = .ok (.iconst 1, 1) := by decide +kernel
theorem dX4_foresee_17 : decode cX4_foresee 17 = .ok (.invokevirtual 58, 3) := by decide +kernel
theorem dX4_foresee_20 : decode cX4_foresee 20 = .ok (.ireturn, 1) := by decide +kernel
theorem dX4_foresee_21 : decode cX4_foresee 21 = .ok (.iload_n 2, 1) := by decide +kernel
theorem dX4_foresee_22 : decode cX4_foresee 22 = .ok (.iconst 0, 1) := by decide +kernel
theorem dX4_foresee_23 : decode cX4_foresee 23 = .ok (.iconst 3, 1) := by decide +kernel
theorem dX4_foresee_24 : decode cX4_foresee 24 = .ok (.invokestatic 44, 3) := by decide +kernel
theorem dX4_foresee_27 : decode cX4_foresee 27 = .ok (.ifCond .ne 9, 3) := by decide +kernel
theorem dX4_foresee_30 : decode cX4_foresee 30 = .ok (.aload_n 0, 1) := by decide +kernel
theorem dX4_foresee_31 : decode cX4_foresee 31 = .ok (.iconst 2, 1) := by decide +kernel
theorem dX4_foresee_32 : decode cX4_foresee 32 = .ok (.invokevirtual 58, 3) := by decide +kernel
theorem dX4_foresee_35 : decode cX4_foresee 35 = .ok (.ireturn, 1) := by decide +kernel
theorem dX4_foresee_36 : decode cX4_foresee 36 = .ok (.aload_n 0, 1) := by decide +kernel
theorem dX4_foresee_37 : decode cX4_foresee 37 = .ok (.getfield 34, 3) := by decide +kernel
theorem dX4_foresee_40 : decode cX4_foresee 40 = .ok (.aload_n 0, 1) := by decide +kernel
theorem dX4_foresee_41 : decode cX4_foresee 41 = .ok (.getfield 30, 3) := by decide +kernel
theorem dX4_foresee_44 : decode cX4_foresee 44 = .ok (.invokevirtual 146, 3) := by decide +kernel
theorem dX4_foresee_47 : decode cX4_foresee 47 = .ok (.aload_n 0, 1) := by decide +kernel
theorem dX4_foresee_48 : decode cX4_foresee 48 = .ok (.getfield 34, 3) := by decide +kernel
theorem dX4_foresee_51 : decode cX4_foresee 51 = .ok (.iload_n 1, 1) := by decide +kernel
theorem dX4_foresee_52 : decode cX4_foresee 52 = .ok (.invokestatic 121, 3) := by decide +kernel
theorem dX4_foresee_55 : decode cX4_foresee 55 = .ok (.istore_n 3, 1) := by decide +kernel
theorem dX4_foresee_56 : decode cX4_foresee 56 = .ok (.iload_n 2, 1) := by decide +kernel
theorem dX4_foresee_57 : decode cX4_foresee 57 = .ok (.ifCond .ne 7, 3) := by decide +kernel
theorem dX4_foresee_60 : decode cX4_foresee 60 = .ok (.iload_n 3, 1) := by decide +kernel
theorem dX4_foresee_61 : decode cX4_foresee 61 = .ok (.goto 84, 3) := by decide +kernel
theorem dX4_foresee_64 : decode cX4_foresee 64 = .ok (.iload_n 2, 1) := by decide +kernel
theorem dX4_foresee_65 : decode cX4_foresee 65 = .ok (.iconst 1, 1) := by decide +kernel
theorem dX4_foresee_66 : decode cX4_foresee 66 = .ok (.if_icmp .ne 35, 3) := by decide +kernel
theorem dX4_foresee_69 : decode cX4_foresee 69 = .ok (.aload_n 0, 1) := by decide +kernel
theorem dX4_foresee_70 : decode cX4_foresee 70 = .ok (.getfield 34, 3) := by decide +kernel
theorem dX4_foresee_73 : decode cX4_foresee 73 = .ok (.aload_n 0, 1) := by decide +kernel
theorem dX4_foresee_74 : decode cX4_foresee 74 = .ok (.getfield 34, 3) := by decide +kernel
theorem dX4_foresee_77 : decode cX4_foresee 77 = .ok (.getfield 89, 3) := by decide +kernel
theorem dX4_foresee_80 : decode cX4_foresee 80 = .ok (.invokevirtual 127, 3) := by decide +kernel
theorem dX4_foresee_83 : decode cX4_foresee 83 = .ok (.aload_n 0, 1) := by decide +kernel
theorem dX4_foresee_84 : decode cX4_foresee 84 = .ok (.getfield 30, 3) := by decide +kernel
theorem dX4_foresee_87 : decode cX4_foresee 87 = .ok (.aload_n 0, 1) := by decide +kernel
theorem dX4_foresee_88 : decode cX4_foresee 88 = .ok (.getfield 30, 3) := by decide +kernel
theorem dX4_foresee_91 : decode cX4_foresee 91 = .ok (.getfield 89, 3) := by decide +kernel
theorem dX4_foresee_94 : decode cX4_foresee 94 = .ok (.invokevirtual 127, 3) := by decide +kernel
theorem dX4_foresee_97 : decode cX4_foresee 97 = .ok (.isub, 1) := by decide +kernel
theorem dX4_foresee_98 : decode cX4_foresee 98 = .ok (.goto 47, 3) := by decide +kernel
theorem dX4_foresee_101 : decode cX4_foresee 101 = .ok (.iload_n 2, 1) := by decide +kernel
theorem dX4_foresee_102 : decode cX4_foresee 102 = .ok (.iconst 2, 1) := by decide +kernel
theorem dX4_foresee_103 : decode cX4_foresee 103 = .ok (.if_icmp .ne 13, 3) := by decide +kernel
theorem dX4_foresee_106 : decode cX4_foresee 106 = .ok (.aload_n 0, 1) := by decide +kernel
theorem dX4_foresee_107 : decode cX4_foresee 107 = .ok (.getfield 34, 3) := by decide +kernel
theorem dX4_foresee_110 : decode cX4_foresee 110 = .ok (.getfield 65, 3) := by decide +kernel
theorem dX4_foresee_113 : decode cX4_foresee 113 = .ok (.goto 32, 3) := by decide +kernel
theorem dX4_foresee_116 : decode cX4_foresee 116 = .ok (.aload_n 0, 1) := by decide +kernel
theorem dX4_foresee_117 : decode cX4_foresee 117 = .ok (.getfield 34, 3) := by decide +kernel
theorem dX4_foresee_120 : decode cX4_foresee 120 = .ok (.aload_n 0, 1) := by decide +kernel
theorem dX4_foresee_121 : decode cX4_foresee 121 = .ok (.getfield 34, 3) := by decide +kernel
theorem dX4_foresee_124 : decode cX4_foresee 124 = .ok (.getfield 106, 3) := by decide +kernel
theorem dX4_foresee_127 : decode cX4_foresee 127 = .ok (.invokevirtual 127, 3) := by decide +kernel
theorem dX4_foresee_130 : decode cX4_foresee 130 = .ok (.aload_n 0, 1) := by decide +kernel
theorem dX4_foresee_131 : decode cX4_foresee 131 = .ok (.getfield 30, 3) := by decide +kernel
theorem dX4_foresee_134 : decode cX4_foresee 134 = .ok (.aload_n 0, 1) := by decide +kernel
theorem dX4_foresee_135 : decode cX4_foresee 135 = .ok (.getfield 30, 3) := by decide +kernel
theorem dX4_foresee_138 : decode cX4_foresee 138 = .ok (.getfield 106, 3) := by decide +kernel
theorem dX4_foresee_141 : decode cX4_foresee 141 = .ok (.invokevirtual 127, 3) := by decide +kernel
theorem dX4_foresee_144 : decode cX4_foresee 144 = .ok (.isub, 1) := by decide +kernel
theorem dX4_foresee_145 : decode cX4_foresee 145 = .ok (.ireturn, 1) := by decide +kernel
theorem dX4_advise_0 : decode cX4_advise 0 = .ok (.aload_n 0, 1) := by decide +kernel
theorem dX4_advise_1 : decode cX4_advise 1 = .ok (.iconst 0, 1) := by decide +kernel
theorem dX4_advise_2 : decode cX4_advise 2 = .ok (.putfield 37, 3) := by decide +kernel
theorem dX4_advise_5 : decode cX4_advise 5 = .ok (.iload_n 1, 1) := by decide +kernel
theorem dX4_advise_6 : decode cX4_advise 6 = .ok (.iconst 1, 1) := by decide +kernel
theorem dX4_advise_7 : decode cX4_advise 7 = .ok (.bipush 48, 2) := by decide +kernel
theorem dX4_advise_9 : decode cX4_advise 9 = .ok (.invokestatic 44, 3) := by decide +kernel
theorem dX4_advise_12 : decode cX4_advise 12 = .ok (.ifCond .ne 9, 3) := by decide +kernel
theorem dX4_advise_15 : decode cX4_advise 15 = .ok (.aload_n 0, 1) := by decide +kernel
theorem dX4_advise_16 : decode cX4_advise 16 = .ok (.iconst 1, 1) := by decide +kernel
theorem dX4_advise_17 : decode cX4_advise 17 = .ok (.invokevirtual 58, 3) := by decide +kernel
theorem dX4_advise_20 : decode cX4_advise 20 = .ok (.ireturn, 1) := by decide +kernel
theorem dX4_advise_21 : decode cX4_advise 21 = .ok (.aload_n 0, 1) := by decide +kernel
theorem dX4_advise_22 : decode cX4_advise 22 = .ok (.getfield 34, 3) := by decide +kernel
theorem dX4_advise_25 : decode cX4_advise 25 = .ok (.aload_n 0, 1) := by decide +kernel
theorem dX4_advise_26 : decode cX4_advise 26 = .ok (.getfield 30, 3) := by decide +kernel
theorem dX4_advise_29 : decode cX4_advise 29 = .ok (.invokevirtual 146, 3) := by decide +kernel
theorem dX4_advise_32 : decode cX4_advise 32 = .ok (.iconst (-1), 1) := by decide +kernel
theorem dX4_advise_33 : decode cX4_advise 33 = .ok (.istore_n 2, 1) := by decide +kernel
theorem dX4_advise_34 : decode cX4_advise 34 = .ok (.aload_n 0, 1) := by decide +kernel
theorem dX4_advise_35 : decode cX4_advise 35 = .ok (.getfield 34, 3) := by decide +kernel
theorem dX4_advise_38 : decode cX4_advise 38 = .ok (.iload_n 1, 1) := by decide +kernel
theorem dX4_advise_39 : decode cX4_advise 39 = .ok (.invokestatic 121, 3) := by decide +kernel
theorem dX4_advise_42 : decode cX4_advise 42 = .ok (.istore_n 3, 1) := by decide +kernel
theorem dX4_advise_43 : decode cX4_advise 43 = .ok (.iconst 0, 1) := by decide +kernel
theorem dX4_advise_44 : decode cX4_advise 44 = .ok (.istore 4, 2) := by decide +kernel
theorem dX4_advise_46 : decode cX4_advise 46 = .ok (.iload 4, 2) := by decide +kernel
theorem dX4_advise_48 : decode cX4_advise 48 = .ok (.aload_n 0, 1) := by decide +kernel
theorem dX4_advise_49 : decode cX4_advise 49 = .ok (.getfield 41, 3) := by decide +kernel
theorem dX4_advise_52 : decode cX4_advise 52 = .ok (.if_icmp .ge 72, 3) := by decide +kernel
theorem dX4_advise_55 : decode cX4_advise 55 = .ok (.aload_n 0, 1) := by decide +kernel
theorem dX4_advise_56 : decode cX4_advise 56 = .ok (.getfield 30, 3) := by decide +kernel
theorem dX4_advise_59 : decode cX4_advise 59 = .ok (.getfield 103, 3) := by decide +kernel
theorem dX4_advise_62 : decode cX4_advise 62 = .ok (.iload 4, 2) := by decide +kernel
theorem dX4_advise_64 : decode cX4_advise 64 = .ok (.iaload, 1) := by decide +kernel
theorem dX4_advise_65 : decode cX4_advise 65 = .ok (.ifCond .ne 6, 3) := by decide +kernel
theorem dX4_advise_68 : decode cX4_advise 68 = .ok (.goto 50, 3) := by decide +kernel
theorem dX4_advise_71 : decode cX4_advise 71 = .ok (.aload_n 0, 1) := by decide +kernel
theorem dX4_advise_72 : decode cX4_advise 72 = .ok (.getfield 34, 3) := by decide +kernel
theorem dX4_advise_75 : decode cX4_advise 75 = .ok (.aload_n 0, 1) := by decide +kernel
theorem dX4_advise_76 : decode cX4_advise 76 = .ok (.getfield 30, 3) := by decide +kernel
theorem dX4_advise_79 : decode cX4_advise 79 = .ok (.invokevirtual 146, 3) := by decide +kernel
theorem dX4_advise_82 : decode cX4_advise 82 = .ok (.aload_n 0, 1) := by decide +kernel
theorem dX4_advise_83 : decode cX4_advise 83 = .ok (.getfield 34, 3) := by decide +kernel
theorem dX4_advise_86 : decode cX4_advise 86 = .ok (.getfield 103, 3) := by decide +kernel
theorem dX4_advise_89 : decode cX4_advise 89 = .ok (.iload 4, 2) := by decide +kernel
theorem dX4_advise_91 : decode cX4_advise 91 = .ok (.iconst 0, 1) := by decide +kernel
theorem dX4_advise_92 : decode cX4_advise 92 = .ok (.iastore, 1) := by decide +kernel
theorem dX4_advise_93 : decode cX4_advise 93 = .ok (.aload_n 0, 1) := by decide +kernel
theorem dX4_advise_94 : decode cX4_advise 94 = .ok (.getfield 34, 3) := by decide +kernel
theorem dX4_advise_97 : decode cX4_advise 97 = .ok (.iload_n 1, 1) := by decide +kernel
theorem dX4_advise_98 : decode cX4_advise 98 = .ok (.invokestatic 121, 3) := by decide +kernel
theorem dX4_advise_101 : decode cX4_advise 101 = .ok (.istore 5, 2) := by decide +kernel
theorem dX4_advise_103 : decode cX4_advise 103 = .ok (.iload 5, 2) := by decide +kernel
theorem dX4_advise_105 : decode cX4_advise 105 = .ok (.iload_n 3, 1) := by decide +kernel
theorem dX4_advise_106 : decode cX4_advise 106 = .ok (.if_icmp .lt 6, 3) := by decide +kernel
theorem dX4_advise_109 : decode cX4_advise 109 = .ok (.goto 9, 3) := by decide +kernel
theorem dX4_advise_112 : decode cX4_advise 112 = .ok (.iload 4, 2) := by decide +kernel
theorem dX4_advise_114 : decode cX4_advise 114 = .ok (.istore_n 2, 1) := by decide +kernel
theorem dX4_advise_115 : decode cX4_advise 115 = .ok (.iload 5, 2) := by decide +kernel
theorem dX4_advise_117 : decode cX4_advise 117 = .ok (.istore_n 3, 1) := by decide +kernel
theorem dX4_advise_118 : decode cX4_advise 118 = .ok (.iinc 4 1, 3) := by decide +kernel
theorem dX4_advise_121 : decode cX4_advise 121 = .ok (.goto (-75), 3) := by decide +kernel
theorem dX4_advise_124 : decode cX4_advise 124 = .ok (.iload_n 2, 1) := by decide +kernel
theorem dX4_advise_125 : decode cX4_advise 125 = .ok (.ireturn, 1) := by decide +kernel
theorem dX4_thirsty_0 : decode cX4_thirsty 0 = .ok (.aload_n 0, 1) := by decide +kernel
theorem dX4_thirsty_1 : decode cX4_thirsty 1 = .ok (.iconst 0, 1) := by decide +kernel
theorem dX4_thirsty_2 : decode cX4_thirsty 2 = .ok (.putfield 37, 3) := by decide +kernel
theorem dX4_thirsty_5 : decode cX4_thirsty 5 = .ok (.aload_n 0, 1) := by decide +kernel
theorem dX4_thirsty_6 : decode cX4_thirsty 6 = .ok (.getfield 34, 3) := by decide +kernel
theorem dX4_thirsty_9 : decode cX4_thirsty 9 = .ok (.aload_n 0, 1) := by decide +kernel
theorem dX4_thirsty_10 : decode cX4_thirsty 10 = .ok (.getfield 30, 3) := by decide +kernel
theorem dX4_thirsty_13 : decode cX4_thirsty 13 = .ok (.invokevirtual 146, 3) := by decide +kernel
theorem dX4_thirsty_16 : decode cX4_thirsty 16 = .ok (.iconst 1, 1) := by decide +kernel
theorem dX4_thirsty_17 : decode cX4_thirsty 17 = .ok (.istore_n 1, 1) := by decide +kernel
theorem dX4_thirsty_18 : decode cX4_thirsty 18 = .ok (.iload_n 1, 1) := by decide +kernel
theorem dX4_thirsty_19 : decode cX4_thirsty 19 = .ok (.sipush 200, 3) := by decide +kernel
theorem dX4_thirsty_22 : decode cX4_thirsty 22 = .ok (.if_icmp .gt 21, 3) := by decide +kernel
theorem dX4_thirsty_25 : decode cX4_thirsty 25 = .ok (.aload_n 0, 1) := by decide +kernel
theorem dX4_thirsty_26 : decode cX4_thirsty 26 = .ok (.getfield 34, 3) := by decide +kernel
theorem dX4_thirsty_29 : decode cX4_thirsty 29 = .ok (.invokevirtual 118, 3) := by decide +kernel
theorem dX4_thirsty_32 : decode cX4_thirsty 32 = .ok (.ifCond .le 5, 3) := by decide +kernel
theorem dX4_thirsty_35 : decode cX4_thirsty 35 = .ok (.iload_n 1, 1) := by decide +kernel
theorem dX4_thirsty_36 : decode cX4_thirsty 36 = .ok (.ireturn, 1) := by decide +kernel
theorem dX4_thirsty_37 : decode cX4_thirsty 37 = .ok (.iinc 1 1, 3) := by decide +kernel
theorem dX4_thirsty_40 : decode cX4_thirsty 40 = .ok (.goto (-22), 3) := by decide +kernel
theorem dX4_thirsty_43 : decode cX4_thirsty 43 = .ok (.iconst (-1), 1) := by decide +kernel
theorem dX4_thirsty_44 : decode cX4_thirsty 44 = .ok (.ireturn, 1) := by decide +kernel
theorem dX4_worst_0 : decode cX4_worst 0 = .ok (.aload_n 0, 1) := by decide +kernel
theorem dX4_worst_1 : decode cX4_worst 1 = .ok (.iconst 0, 1) := by decide +kernel
theorem dX4_worst_2 : decode cX4_worst 2 = .ok (.putfield 37, 3) := by decide +kernel
theorem dX4_worst_5 : decode cX4_worst 5 = .ok (.iconst (-1), 1) := by decide +kernel
theorem dX4_worst_6 : decode cX4_worst 6 = .ok (.istore_n 1, 1) := by decide +kernel
theorem dX4_worst_7 : decode cX4_worst 7 = .ok (.iconst 0, 1) := by decide +kernel
theorem dX4_worst_8 : decode cX4_worst 8 = .ok (.istore_n 2, 1) := by decide +kernel
theorem dX4_worst_9 : decode cX4_worst 9 = .ok (.iload_n 2, 1) := by decide +kernel
theorem dX4_worst_10 : decode cX4_worst 10 = .ok (.aload_n 0, 1) := by decide +kernel
theorem dX4_worst_11 : decode cX4_worst 11 = .ok (.getfield 41, 3) := by decide +kernel
theorem dX4_worst_14 : decode cX4_worst 14 = .ok (.if_icmp .ge 49, 3) := by decide +kernel
theorem dX4_worst_17 : decode cX4_worst 17 = .ok (.aload_n 0, 1) := by decide +kernel
theorem dX4_worst_18 : decode cX4_worst 18 = .ok (.getfield 30, 3) := by decide +kernel
theorem dX4_worst_21 : decode cX4_worst 21 = .ok (.getfield 89, 3) := by decide +kernel
theorem dX4_worst_24 : decode cX4_worst 24 = .ok (.iload_n 2, 1) := by decide +kernel
theorem dX4_worst_25 : decode cX4_worst 25 = .ok (.iaload, 1) := by decide +kernel
theorem dX4_worst_26 : decode cX4_worst 26 = .ok (.ifCond .le 31, 3) := by decide +kernel
theorem dX4_worst_29 : decode cX4_worst 29 = .ok (.iload_n 1, 1) := by decide +kernel
theorem dX4_worst_30 : decode cX4_worst 30 = .ok (.iconst (-1), 1) := by decide +kernel
theorem dX4_worst_31 : decode cX4_worst 31 = .ok (.if_icmp .eq 24, 3) := by decide +kernel
theorem dX4_worst_34 : decode cX4_worst 34 = .ok (.aload_n 0, 1) := by decide +kernel
theorem dX4_worst_35 : decode cX4_worst 35 = .ok (.getfield 30, 3) := by decide +kernel
theorem dX4_worst_38 : decode cX4_worst 38 = .ok (.getfield 89, 3) := by decide +kernel
theorem dX4_worst_41 : decode cX4_worst 41 = .ok (.iload_n 2, 1) := by decide +kernel
theorem dX4_worst_42 : decode cX4_worst 42 = .ok (.iaload, 1) := by decide +kernel
theorem dX4_worst_43 : decode cX4_worst 43 = .ok (.aload_n 0, 1) := by decide +kernel
theorem dX4_worst_44 : decode cX4_worst 44 = .ok (.getfield 30, 3) := by decide +kernel
theorem dX4_worst_47 : decode cX4_worst 47 = .ok (.getfield 89, 3) := by decide +kernel
theorem dX4_worst_50 : decode cX4_worst 50 = .ok (.iload_n 1, 1) := by decide +kernel
theorem dX4_worst_51 : decode cX4_worst 51 = .ok (.iaload, 1) := by decide +kernel
theorem dX4_worst_52 : decode cX4_worst 52 = .ok (.if_icmp .le 5, 3) := by decide +kernel
theorem dX4_worst_55 : decode cX4_worst 55 = .ok (.iload_n 2, 1) := by decide +kernel
theorem dX4_worst_56 : decode cX4_worst 56 = .ok (.istore_n 1, 1) := by decide +kernel
theorem dX4_worst_57 : decode cX4_worst 57 = .ok (.iinc 2 1, 3) := by decide +kernel
theorem dX4_worst_60 : decode cX4_worst 60 = .ok (.goto (-51), 3) := by decide +kernel
theorem dX4_worst_63 : decode cX4_worst 63 = .ok (.iload_n 1, 1) := by decide +kernel
theorem dX4_worst_64 : decode cX4_worst 64 = .ok (.ireturn, 1) := by decide +kernel
theorem dX4_reaches_0 : decode cX4_reaches 0 = .ok (.aload_n 0, 1) := by decide +kernel
theorem dX4_reaches_1 : decode cX4_reaches 1 = .ok (.iconst 0, 1) := by decide +kernel
theorem dX4_reaches_2 : decode cX4_reaches 2 = .ok (.putfield 37, 3) := by decide +kernel
theorem dX4_reaches_5 : decode cX4_reaches 5 = .ok (.aload_n 0, 1) := by decide +kernel
theorem dX4_reaches_6 : decode cX4_reaches 6 = .ok (.getfield 30, 3) := by decide +kernel
theorem dX4_reaches_9 : decode cX4_reaches 9 = .ok (.getfield 131, 3) := by decide +kernel
theorem dX4_reaches_12 : decode cX4_reaches 12 = .ok (.ifCond .ne 7, 3) := by decide +kernel
theorem dX4_reaches_15 : decode cX4_reaches 15 = .ok (.dconst 0, 1) := by decide +kernel
theorem dX4_reaches_16 : decode cX4_reaches 16 = .ok (.goto 20, 3) := by decide +kernel
theorem dX4_reaches_19 : decode cX4_reaches 19 = .ok (.aload_n 0, 1) := by decide +kernel
theorem dX4_reaches_20 : decode cX4_reaches 20 = .ok (.getfield 30, 3) := by decide +kernel
theorem dX4_reaches_23 : decode cX4_reaches 23 = .ok (.getfield 137, 3) := by decide +kernel
theorem dX4_reaches_26 : decode cX4_reaches 26 = .ok (.i2d, 1) := by decide +kernel
theorem dX4_reaches_27 : decode cX4_reaches 27 = .ok (.aload_n 0, 1) := by decide +kernel
theorem dX4_reaches_28 : decode cX4_reaches 28 = .ok (.getfield 30, 3) := by decide +kernel
theorem dX4_reaches_31 : decode cX4_reaches 31 = .ok (.getfield 131, 3) := by decide +kernel
theorem dX4_reaches_34 : decode cX4_reaches 34 = .ok (.i2d, 1) := by decide +kernel
theorem dX4_reaches_35 : decode cX4_reaches 35 = .ok (.ddiv, 1) := by decide +kernel
theorem dX4_reaches_36 : decode cX4_reaches 36 = .ok (.dreturn, 1) := by decide +kernel
theorem dX4_digest_0 : decode cX4_digest 0 = .ok (.aload_n 0, 1) := by decide +kernel
theorem dX4_digest_1 : decode cX4_digest 1 = .ok (.iconst 0, 1) := by decide +kernel
theorem dX4_digest_2 : decode cX4_digest 2 = .ok (.putfield 37, 3) := by decide +kernel
theorem dX4_digest_5 : decode cX4_digest 5 = .ok (.ldc2_w 150, 3) := by decide +kernel
theorem dX4_digest_8 : decode cX4_digest 8 = .ok (.lstore_n 1, 1) := by decide +kernel
theorem dX4_digest_9 : decode cX4_digest 9 = .ok (.iconst 0, 1) := by decide +kernel
theorem dX4_digest_10 : decode cX4_digest 10 = .ok (.istore_n 3, 1) := by decide +kernel
theorem dX4_digest_11 : decode cX4_digest 11 = .ok (.iload_n 3, 1) := by decide +kernel
theorem dX4_digest_12 : decode cX4_digest 12 = .ok (.bipush 12, 2) := by decide +kernel
theorem dX4_digest_14 : decode cX4_digest 14 = .ok (.if_icmp .ge 22, 3) := by decide +kernel
theorem dX4_digest_17 : decode cX4_digest 17 = .ok (.lload_n 1, 1) := by decide +kernel
theorem dX4_digest_18 : decode cX4_digest 18 = .ok (.ldc2_w 152, 3) := by decide +kernel
theorem dX4_digest_21 : decode cX4_digest 21 = .ok (.lmul, 1) := by decide +kernel
theorem dX4_digest_22 : decode cX4_digest 22 = .ok (.aload_n 0, 1) := by decide +kernel
theorem dX4_digest_23 : decode cX4_digest 23 = .ok (.iload_n 3, 1) := by decide +kernel
theorem dX4_digest_24 : decode cX4_digest 24 = .ok (.invokevirtual 143, 3) := by decide +kernel
theorem dX4_digest_27 : decode cX4_digest 27 = .ok (.i2l, 1) := by decide +kernel
theorem dX4_digest_28 : decode cX4_digest 28 = .ok (.ladd, 1) := by decide +kernel
theorem dX4_digest_29 : decode cX4_digest 29 = .ok (.lstore_n 1, 1) := by decide +kernel
theorem dX4_digest_30 : decode cX4_digest 30 = .ok (.iinc 3 1, 3) := by decide +kernel
theorem dX4_digest_33 : decode cX4_digest 33 = .ok (.goto (-22), 3) := by decide +kernel
theorem dX4_digest_36 : decode cX4_digest 36 = .ok (.iconst 0, 1) := by decide +kernel
theorem dX4_digest_37 : decode cX4_digest 37 = .ok (.istore_n 3, 1) := by decide +kernel
theorem dX4_digest_38 : decode cX4_digest 38 = .ok (.iload_n 3, 1) := by decide +kernel
theorem dX4_digest_39 : decode cX4_digest 39 = .ok (.bipush 24, 2) := by decide +kernel
theorem dX4_digest_41 : decode cX4_digest 41 = .ok (.if_icmp .ge 35, 3) := by decide +kernel
theorem dX4_digest_44 : decode cX4_digest 44 = .ok (.lload_n 1, 1) := by decide +kernel
theorem dX4_digest_45 : decode cX4_digest 45 = .ok (.ldc2_w 152, 3) := by decide +kernel
theorem dX4_digest_48 : decode cX4_digest 48 = .ok (.lmul, 1) := by decide +kernel
theorem dX4_digest_49 : decode cX4_digest 49 = .ok (.aload_n 0, 1) := by decide +kernel
theorem dX4_digest_50 : decode cX4_digest 50 = .ok (.getfield 9, 3) := by decide +kernel
theorem dX4_digest_53 : decode cX4_digest 53 = .ok (.iload_n 3, 1) := by decide +kernel
theorem dX4_digest_54 : decode cX4_digest 54 = .ok (.iaload, 1) := by decide +kernel
theorem dX4_digest_55 : decode cX4_digest 55 = .ok (.i2l, 1) := by decide +kernel
theorem dX4_digest_56 : decode cX4_digest 56 = .ok (.ladd, 1) := by decide +kernel
theorem dX4_digest_57 : decode cX4_digest 57 = .ok (.ldc2_w 152, 3) := by decide +kernel
theorem dX4_digest_60 : decode cX4_digest 60 = .ok (.lmul, 1) := by decide +kernel
theorem dX4_digest_61 : decode cX4_digest 61 = .ok (.aload_n 0, 1) := by decide +kernel
theorem dX4_digest_62 : decode cX4_digest 62 = .ok (.getfield 13, 3) := by decide +kernel
theorem dX4_digest_65 : decode cX4_digest 65 = .ok (.iload_n 3, 1) := by decide +kernel
theorem dX4_digest_66 : decode cX4_digest 66 = .ok (.iaload, 1) := by decide +kernel
theorem dX4_digest_67 : decode cX4_digest 67 = .ok (.i2l, 1) := by decide +kernel
theorem dX4_digest_68 : decode cX4_digest 68 = .ok (.ladd, 1) := by decide +kernel
theorem dX4_digest_69 : decode cX4_digest 69 = .ok (.lstore_n 1, 1) := by decide +kernel
theorem dX4_digest_70 : decode cX4_digest 70 = .ok (.iinc 3 1, 3) := by decide +kernel
theorem dX4_digest_73 : decode cX4_digest 73 = .ok (.goto (-35), 3) := by decide +kernel
theorem dX4_digest_76 : decode cX4_digest 76 = .ok (.iconst 0, 1) := by decide +kernel
theorem dX4_digest_77 : decode cX4_digest 77 = .ok (.istore_n 3, 1) := by decide +kernel
theorem dX4_digest_78 : decode cX4_digest 78 = .ok (.iload_n 3, 1) := by decide +kernel
theorem dX4_digest_79 : decode cX4_digest 79 = .ok (.aload_n 0, 1) := by decide +kernel
theorem dX4_digest_80 : decode cX4_digest 80 = .ok (.getfield 41, 3) := by decide +kernel
theorem dX4_digest_83 : decode cX4_digest 83 = .ok (.if_icmp .ge 70, 3) := by decide +kernel
theorem dX4_digest_86 : decode cX4_digest 86 = .ok (.iconst 0, 1) := by decide +kernel
theorem dX4_digest_87 : decode cX4_digest 87 = .ok (.istore 4, 2) := by decide +kernel
theorem dX4_digest_89 : decode cX4_digest 89 = .ok (.iload 4, 2) := by decide +kernel
theorem dX4_digest_91 : decode cX4_digest 91 = .ok (.bipush 9, 2) := by decide +kernel
theorem dX4_digest_93 : decode cX4_digest 93 = .ok (.if_icmp .ge 24, 3) := by decide +kernel
theorem dX4_digest_96 : decode cX4_digest 96 = .ok (.lload_n 1, 1) := by decide +kernel
theorem dX4_digest_97 : decode cX4_digest 97 = .ok (.ldc2_w 152, 3) := by decide +kernel
theorem dX4_digest_100 : decode cX4_digest 100 = .ok (.lmul, 1) := by decide +kernel
theorem dX4_digest_101 : decode cX4_digest 101 = .ok (.aload_n 0, 1) := by decide +kernel
theorem dX4_digest_102 : decode cX4_digest 102 = .ok (.iload_n 3, 1) := by decide +kernel
theorem dX4_digest_103 : decode cX4_digest 103 = .ok (.iload 4, 2) := by decide +kernel
theorem dX4_digest_105 : decode cX4_digest 105 = .ok (.invokevirtual 96, 3) := by decide +kernel
theorem dX4_digest_108 : decode cX4_digest 108 = .ok (.i2l, 1) := by decide +kernel
theorem dX4_digest_109 : decode cX4_digest 109 = .ok (.ladd, 1) := by decide +kernel
theorem dX4_digest_110 : decode cX4_digest 110 = .ok (.lstore_n 1, 1) := by decide +kernel
theorem dX4_digest_111 : decode cX4_digest 111 = .ok (.iinc 4 1, 3) := by decide +kernel
theorem dX4_digest_114 : decode cX4_digest 114 = .ok (.goto (-25), 3) := by decide +kernel
theorem dX4_digest_117 : decode cX4_digest 117 = .ok (.iconst 0, 1) := by decide +kernel
theorem dX4_digest_118 : decode cX4_digest 118 = .ok (.istore 4, 2) := by decide +kernel
theorem dX4_digest_120 : decode cX4_digest 120 = .ok (.iload 4, 2) := by decide +kernel
theorem dX4_digest_122 : decode cX4_digest 122 = .ok (.iconst 4, 1) := by decide +kernel
theorem dX4_digest_123 : decode cX4_digest 123 = .ok (.if_icmp .ge 24, 3) := by decide +kernel
theorem dX4_digest_126 : decode cX4_digest 126 = .ok (.lload_n 1, 1) := by decide +kernel
theorem dX4_digest_127 : decode cX4_digest 127 = .ok (.ldc2_w 152, 3) := by decide +kernel
theorem dX4_digest_130 : decode cX4_digest 130 = .ok (.lmul, 1) := by decide +kernel
theorem dX4_digest_131 : decode cX4_digest 131 = .ok (.aload_n 0, 1) := by decide +kernel
theorem dX4_digest_132 : decode cX4_digest 132 = .ok (.iload_n 3, 1) := by decide +kernel
theorem dX4_digest_133 : decode cX4_digest 133 = .ok (.iload 4, 2) := by decide +kernel
theorem dX4_digest_135 : decode cX4_digest 135 = .ok (.invokevirtual 112, 3) := by decide +kernel
theorem dX4_digest_138 : decode cX4_digest 138 = .ok (.i2l, 1) := by decide +kernel
theorem dX4_digest_139 : decode cX4_digest 139 = .ok (.ladd, 1) := by decide +kernel
theorem dX4_digest_140 : decode cX4_digest 140 = .ok (.lstore_n 1, 1) := by decide +kernel
theorem dX4_digest_141 : decode cX4_digest 141 = .ok (.iinc 4 1, 3) := by decide +kernel
theorem dX4_digest_144 : decode cX4_digest 144 = .ok (.goto (-24), 3) := by decide +kernel
theorem dX4_digest_147 : decode cX4_digest 147 = .ok (.iinc 3 1, 3) := by decide +kernel
theorem dX4_digest_150 : decode cX4_digest 150 = .ok (.goto (-72), 3) := by decide +kernel
theorem dX4_digest_153 : decode cX4_digest 153 = .ok (.lload_n 1, 1) := by decide +kernel
theorem dX4_digest_154 : decode cX4_digest 154 = .ok (.lreturn, 1) := by decide +kernel
theorem dJ9_floorMod_7cf53_0 : decode cJ9_floorMod_7cf53 0 = .ok (.iload_n 0, 1) := by decide +kernel
theorem dJ9_floorMod_7cf53_1 : decode cJ9_floorMod_7cf53 1 = .ok (.iload_n 1, 1) := by decide +kernel
theorem dJ9_floorMod_7cf53_2 : decode cJ9_floorMod_7cf53 2 = .ok (.irem, 1) := by decide +kernel
theorem dJ9_floorMod_7cf53_3 : decode cJ9_floorMod_7cf53 3 = .ok (.istore_n 2, 1) := by decide +kernel
theorem dJ9_floorMod_7cf53_4 : decode cJ9_floorMod_7cf53 4 = .ok (.iload_n 0, 1) := by decide +kernel
theorem dJ9_floorMod_7cf53_5 : decode cJ9_floorMod_7cf53 5 = .ok (.iload_n 1, 1) := by decide +kernel
theorem dJ9_floorMod_7cf53_6 : decode cJ9_floorMod_7cf53 6 = .ok (.ixor, 1) := by decide +kernel
theorem dJ9_floorMod_7cf53_7 : decode cJ9_floorMod_7cf53 7 = .ok (.ifCond .ge 11, 3) := by decide +kernel
theorem dJ9_floorMod_7cf53_10 : decode cJ9_floorMod_7cf53 10 = .ok (.iload_n 2, 1) := by decide +kernel
theorem dJ9_floorMod_7cf53_11 : decode cJ9_floorMod_7cf53 11 = .ok (.ifCond .eq 7, 3) := by decide +kernel
theorem dJ9_floorMod_7cf53_14 : decode cJ9_floorMod_7cf53 14 = .ok (.iload_n 2, 1) := by decide +kernel
theorem dJ9_floorMod_7cf53_15 : decode cJ9_floorMod_7cf53 15 = .ok (.iload_n 1, 1) := by decide +kernel
theorem dJ9_floorMod_7cf53_16 : decode cJ9_floorMod_7cf53 16 = .ok (.iadd, 1) := by decide +kernel
theorem dJ9_floorMod_7cf53_17 : decode cJ9_floorMod_7cf53 17 = .ok (.ireturn, 1) := by decide +kernel
theorem dJ9_floorMod_7cf53_18 : decode cJ9_floorMod_7cf53 18 = .ok (.iload_n 2, 1) := by decide +kernel
theorem dJ9_floorMod_7cf53_19 : decode cJ9_floorMod_7cf53 19 = .ok (.ireturn, 1) := by decide +kernel
theorem dJ9_max_7cf53_0 : decode cJ9_max_7cf53 0 = .ok (.iload_n 0, 1) := by decide +kernel
theorem dJ9_max_7cf53_1 : decode cJ9_max_7cf53 1 = .ok (.iload_n 1, 1) := by decide +kernel
theorem dJ9_max_7cf53_2 : decode cJ9_max_7cf53 2 = .ok (.if_icmp .lt 7, 3) := by decide +kernel
theorem dJ9_max_7cf53_5 : decode cJ9_max_7cf53 5 = .ok (.iload_n 0, 1) := by decide +kernel
theorem dJ9_max_7cf53_6 : decode cJ9_max_7cf53 6 = .ok (.goto 4, 3) := by decide +kernel
theorem dJ9_max_7cf53_9 : decode cJ9_max_7cf53 9 = .ok (.iload_n 1, 1) := by decide +kernel
theorem dJ9_max_7cf53_10 : decode cJ9_max_7cf53 10 = .ok (.ireturn, 1) := by decide +kernel
theorem dJ9_min_7cf53_0 : decode cJ9_min_7cf53 0 = .ok (.iload_n 0, 1) := by decide +kernel
theorem dJ9_min_7cf53_1 : decode cJ9_min_7cf53 1 = .ok (.iload_n 1, 1) := by decide +kernel
theorem dJ9_min_7cf53_2 : decode cJ9_min_7cf53 2 = .ok (.if_icmp .gt 7, 3) := by decide +kernel
theorem dJ9_min_7cf53_5 : decode cJ9_min_7cf53 5 = .ok (.iload_n 0, 1) := by decide +kernel
theorem dJ9_min_7cf53_6 : decode cJ9_min_7cf53 6 = .ok (.goto 4, 3) := by decide +kernel
theorem dJ9_min_7cf53_9 : decode cJ9_min_7cf53 9 = .ok (.iload_n 1, 1) := by decide +kernel
theorem dJ9_min_7cf53_10 : decode cJ9_min_7cf53 10 = .ok (.ireturn, 1) := by decide +kernel
end
section
/-! The states of the system and of its twin: a world of N cells at the addresses ad 0 .. ad (N-1), what each holds told by one function. -/
/-- Math.min and Math.max as they are called: the first argument, the second -/
def aq_mn (x y : Int32) : Int32 := if y < x then y else x
def aq_mx (x y : Int32) : Int32 := if x < y then y else x
abbrev aq_Q : Type := Nat → Nat → Int32
abbrev aq_V : Type := Nat → aq_Q
def aq_up (Q : aq_Q) (f i : Nat) (v : Int32) : aq_Q := fun f' i' => if f' = f then (if i' = i then v else Q f' i') else Q f' i'
def aq_ug (V : aq_V) (j : Nat) (Q : aq_Q) : aq_V := fun j' => if j' = j then Q else V j'
theorem aq_ug_s (V : aq_V) (j : Nat) (Q : aq_Q) : aq_ug V j Q j = Q := if_pos rfl
theorem aq_ug_n (V : aq_V) {j k : Nat} (Q : aq_Q) (h : k ≠ j) : aq_ug V j Q k = V k := if_neg h
theorem aq_ug_id (V : aq_V) (j : Nat) : aq_ug V j (V j) = V := by
  funext k
  by_cases h : k = j
  · subst h; exact aq_ug_s _ _ _
  · exact aq_ug_n _ _ h
theorem aq_ug_ug (V : aq_V) (j : Nat) (Q Q' : aq_Q) : aq_ug (aq_ug V j Q) j Q' = aq_ug V j Q' := by
  funext k
  by_cases h : k = j
  · subst h; rw [aq_ug_s, aq_ug_s]
  · rw [aq_ug_n _ _ h, aq_ug_n _ _ h, aq_ug_n _ _ h]
theorem aq_ug_sw (V : aq_V) {j k : Nat} (h : j ≠ k) (Q Q' : aq_Q) : aq_ug (aq_ug V j Q) k Q' = aq_ug (aq_ug V k Q') j Q := by
  funext i
  by_cases h1 : i = j
  · subst h1; rw [aq_ug_s, aq_ug_n _ _ h, aq_ug_s]
  · by_cases h2 : i = k
    · subst h2; rw [aq_ug_s, aq_ug_n _ _ h1, aq_ug_s]
    · rw [aq_ug_n _ _ h2, aq_ug_n _ _ h1, aq_ug_n _ _ h1, aq_ug_n _ _ h2]
theorem aq_up_s (Q : aq_Q) (f i : Nat) (v : Int32) : aq_up Q f i v f i = v := by simp [aq_up]
theorem aq_up_f (Q : aq_Q) {f i f' i' : Nat} (v : Int32) (h : f' ≠ f) : aq_up Q f i v f' i' = Q f' i' := by simp [aq_up, h]
theorem aq_up_i (Q : aq_Q) {f i f' i' : Nat} (v : Int32) (h : i' ≠ i) : aq_up Q f i v f' i' = Q f' i' := by simp [aq_up, h]
def aq_w (N : Nat) (ad : Nat → Nat) (e : Nat → va_E) : va_W := (List.range N).map (fun c => (ad c, e c))
theorem aq_w_len (N : Nat) (ad : Nat → Nat) (e : Nat → va_E) : (aq_w N ad e).length = N := by simp [aq_w]
theorem aq_w_at {N c : Nat} {ad : Nat → Nat} {e : Nat → va_E} (h : c < N) : (aq_w N ad e)[c]? = some (ad c, e c) := by simp [aq_w, h]
theorem aq_w_in {N k : Nat} {ad : Nat → Nat} {e : Nat → va_E} {q : Nat × va_E} (h : (aq_w N ad e)[k]? = some q) : k < N ∧ q = (ad k, e k) := by
  have hl : k < N := by have := (List.getElem?_eq_some_iff.mp h).1; rwa [aq_w_len] at this
  rw [aq_w_at hl] at h
  exact ⟨hl, (Option.some.inj h).symm⟩
theorem aq_w_set {N c : Nat} {ad : Nat → Nat} {e e' : Nat → va_E} {x : va_E} (h : c < N) (hx : e' c = x) (ho : ∀ k, k < N → k ≠ c → e' k = e k) : (aq_w N ad e).set c (ad c, x) = aq_w N ad e' := by
  apply List.ext_getElem?
  intro k
  by_cases hk : k < N
  · rw [aq_w_at hk]
    by_cases hc : k = c
    · subst hc
      rw [List.getElem?_set_self (by rw [aq_w_len]; exact hk), hx]
    · rw [List.getElem?_set_ne (Ne.symm hc), aq_w_at hk, ho k hk hc]
  · rw [List.getElem?_eq_none (by rw [List.length_set, aq_w_len]; omega), List.getElem?_eq_none (by rw [aq_w_len]; omega)]
def aq_J (N : Nat) (ad : Nat → Nat) : Prop := ∀ c d : Nat, c < N → d < N → ad c = ad d → c = d
def aq_A (N : Nat) (ad : Nat → Nat) (sz : Nat) : Nat → Prop := fun q => (∃ c, c < N ∧ q = ad c) ∨ sz ≤ q
theorem aq_D {N : Nat} {ad : Nat → Nat} (hJ : aq_J N ad) (sz : Nat) (e : Nat → va_E) : va_D (aq_A N ad sz) (aq_w N ad e) := by
  refine ⟨fun i j p q hi hj hpq => ?_, fun k q hk => ?_⟩
  · obtain ⟨h1, rfl⟩ := aq_w_in hi
    obtain ⟨h2, rfl⟩ := aq_w_in hj
    exact hJ i j h1 h2 hpq
  · obtain ⟨h1, rfl⟩ := aq_w_in hk
    exact Or.inl ⟨k, h1, rfl⟩
/-- the world at a state, and within a method -/
def aq_B (D : va_G) (tys : List (ClassId × FieldType)) (w : va_W) (U : State) : Prop := va_K D vwCl tys U ∧ va_P D vwCl w U.heap
def aq_I (D : va_G) (tys : List (ClassId × FieldType)) (A : Nat → Nat → Prop) (w : va_W) (s : State) (H : Heap) (locs : List Loc) : Prop := va_K D vwCl tys s ∧ va_P D vwCl w H ∧ va_S (A s.heap.size) s.heap H locs
/-- contracts: the method leaves the world w' and answers r -/
def aq_Pc (D : va_G) (tys : List (ClassId × FieldType)) (As : List Value) (w : va_W) (sz : Nat) : Array Value → State → Prop := va_Pc As (fun U => U.heap.size = sz ∧ aq_B D tys w U)
def aq_Qi (D : va_G) (tys : List (ClassId × FieldType)) (N : Nat) (ad : Nat → Nat) (r : Int32) (w' : va_W) (sz : Nat) : Array Value → State → Outcome → State → Prop := va_Qi (fun (x : Int32) (_ : Unit) => x = r) (fun _ t => aq_B D tys w' t) (aq_A N ad sz)
def aq_Ql (D : va_G) (tys : List (ClassId × FieldType)) (N : Nat) (ad : Nat → Nat) (r : Int64) (w' : va_W) (sz : Nat) : Array Value → State → Outcome → State → Prop := va_Ql (fun (x : Int64) (_ : Unit) => x = r) (fun _ t => aq_B D tys w' t) (aq_A N ad sz)
def aq_Qd (D : va_G) (tys : List (ClassId × FieldType)) (N : Nat) (ad : Nat → Nat) (r : UInt64 → Prop) (w' : va_W) (sz : Nat) : Array Value → State → Outcome → State → Prop := va_Qd (fun (x : UInt64) (_ : Unit) => r x) (fun _ t => aq_B D tys w' t) (aq_A N ad sz)
def aq_Qv (D : va_G) (tys : List (ClassId × FieldType)) (N : Nat) (ad : Nat → Nat) (w' : va_W) (sz : Nat) : Array Value → State → Outcome → State → Prop := va_Qv (fun (_ : Unit) => True) (fun _ t => aq_B D tys w' t) (aq_A N ad sz)
def aq_Qr (D : va_G) (tys : List (ClassId × FieldType)) (N : Nat) (ad : Nat → Nat) (r : Nat) (w' : va_W) (sz : Nat) : Array Value → State → Outcome → State → Prop := va_Qr (fun (_ : Unit) => True) (fun _ a t => a = r ∧ aq_B D tys w' t) (aq_A N ad sz)
def aq_Met (l : Launch) (y : MethodName) (ws : List Cond) (rm : Room) (D : va_G) (tys : List (ClassId × FieldType)) (N : Nat) (ad : Nat → Nat) (As : List Value) (w : va_W) (Qc : Nat → Array Value → State → Outcome → State → Prop) (mc ms : Nat) : Prop :=
  ∀ sz, Met l y ws rm (aq_Pc D tys As w sz) (Qc sz) mc ms (aq_A N ad sz)
section AQ
variable {p : Program} {l : Launch} {e : Env} {R : Room} {s : State} {m : MethodId} {args : Array Value} {below : List Frame} {meth : Method} {c : Code} {H : Heap} {locs : List Loc} {cells slots : Nat} {Q : State → Prop}
variable {cc bytes : ByteArray} {maxL nL mc ms n index pc N : Nat} {ad : Nat → Nat} {ls : Array Slot} {st rest : List Value} {ret : Option FieldType} {ws ws' Ts : List Cond} {rm : Room} {y : MethodName} {own C ref : String} {D : va_G} {tys : List (ClassId × FieldType)} {w w' : va_W} {As : List Value}
theorem aq_enter {Qc : Nat → Array Value → State → Outcome → State → Prop} (hy : plainName y.cls = true) (hw : ws = Cond.code y cc maxL ret :: ws') (hn : (lg_sl As).length ≤ maxL)
    (k : ∀ (p : Program) (e : Env) (s : State) (m : MethodId) (below : List Frame) (meth : Method) (c : Code) (ls : Array Slot), CallFix p m c cc maxL s As.toArray ws y.cls → meth.sig.returnType = ret → meth.locks = false → meth.name = y.name → aq_I D tys (aq_A N ad) w s s.heap [] → lv_has ls maxL (lv_args 0 As) →
      W p l e rm s m As.toArray below meth c s.heap [] 0 0 (MQ below (Qc s.heap.size) As.toArray s mc ms (aq_A N ad s.heap.size)) (F0 m 0 ls [])) :
    aq_Met l y ws rm D tys N ad As w Qc mc ms := by
  intro sz
  refine Met.ofW (cc := cc) (maxL := maxL) (ret := ret) hy hw ?_
  intro p e s m args below meth c s₁ B hml hv
  obtain ⟨rfl, hsz, hK, hP⟩ := hv
  subst hsz
  have hl := lv_entry As (n := maxL) hn
  rw [lg_entry_eq]
  exact k p e s m below meth c _ ⟨B.exec, B.bytes, hml, findClass_of_methodNamed B.named, atoms_spec (ws := ws) B.pre⟩ B.returns B.notSynchronized (name_of_methodNamed B.named B.method).1 ⟨hK, hP, va_S.rf⟩ hl
theorem aq_A_ge {sz q : Nat} (h : sz ≤ q) : aq_A N ad sz q := Or.inr h
theorem aq_A_le {a b : Nat} (h : a ≤ b) {q : Nat} (hq : aq_A N ad b q) : aq_A N ad a q := hq.elim Or.inl (fun z => Or.inr (Nat.le_trans h z))
theorem aq_blind {D : va_G} {tys : List (ClassId × FieldType)} {As : List Value} {w : va_W} {sz : Nat} : FrameBlind (aq_Pc D tys As w sz) := fun a U g mk q => by
  obtain ⟨q0, q1, qK, qP⟩ := q
  exact ⟨q0, q1, va_K.moved (u := U) (U := U.calling g mk a) (Vm.Alike.refl U.vm) qK, qP⟩
theorem aq_back (I : aq_I D tys (aq_A N ad) w s H locs) {t : State} {H1 : Heap} {locs1 : List Loc} (ht : t.heap = H1) (hvm : s.vm.Alike t.vm) (hB : aq_B D tys w' t) (hS : va_S (aq_A N ad s.heap.size) s.heap H1 locs1) : aq_I D tys (aq_A N ad) w' s H1 locs1 :=
  ⟨va_K.moved hvm.symm hB.1, by rw [← ht]; exact hB.2, hS⟩
theorem aq_preV {b : Addr} (I : aq_I D tys (aq_A N ad) w s H locs) (hr : ∃ cell : Cell, H[b]? = some cell ∧ cell.vm.isStatics = false ∧ s.vm.findClass C = some cell.cls) : PreV s H C b (aq_Pc D tys (.ref b :: As) w H.size) As :=
  ⟨aq_blind, hr, fun U hU hW => ⟨rfl, by rw [hU], va_K.moved hW.alike I.1, by rw [hU]; exact I.2.1⟩⟩
theorem aq_preS (I : aq_I D tys (aq_A N ad) w s H locs) : PreS s H (aq_Pc D tys As w H.size) As :=
  ⟨aq_blind, fun U hU hW => ⟨rfl, by rw [hU], va_K.moved hW.alike I.1, by rw [hU]; exact I.2.1⟩⟩
theorem aq_free (I : aq_I D tys (aq_A N ad) w s H locs) : ∀ q, aq_A N ad H.size q → aq_A N ad s.heap.size q := fun _ h => aq_A_le I.2.2.1 h
/-- the receiver -/
theorem aq_recv {ev : Nat → va_E} {ci k T : Nat} {cr : vw_C} {fs : List Value} (I : aq_I D tys (aq_A N ad) (aq_w N ad ev) s H locs) (hk : k < N) (he : ev k = .inr (ci, fs)) (hc : vwCl[ci]? = some cr) : ∃ cell : Cell, H[ad k]? = some cell ∧ cell.vm.isStatics = false ∧ s.vm.findClass cr.1 = some cell.cls :=
  va_recv I.1 I.2.1 (q0 := k) (ci := ci) (fs := fs) hc (by rw [aq_w_at hk, he])
theorem aq_callVi {r : Int32} {b : Addr} (S : CallFix p m c cc nL s args Ts own) (hM : aq_Met l y ws rm D tys N ad (.ref b :: As) w (aq_Qi D tys N ad r w') mc ms) (cw : CallW R s args own C index y bytes maxL ret ws rm mc ms n) (hr : ∃ cell : Cell, H[b]? = some cell ∧ cell.vm.isStatics = false ∧ s.vm.findClass C = some cell.cls)
    (I : aq_I D tys (aq_A N ad) w s H locs) (hsz : ls.size = nL) (hdg : decode cc pc = .ok (.invokevirtual index, 3)) (hn : As.length = n) (hst : st = As.reverse ++ .ref b :: rest) (hW : (rest.map fun v => v.category).sum ≤ 8) (hf : cells + mc ≤ R.cells ∧ slots + ms ≤ R.slots)
    (kk : ∀ (H1 : Heap) (locs1 : List Loc), aq_I D tys (aq_A N ad) w' s H1 locs1 → W p l e R s m args below meth c H1 locs1 (cells + mc) (slots + ms) Q (F0 m (pc + 3) ls (.int r :: rest))) : W p l e R s m args below meth c H locs cells slots Q (F0 m pc ls st) := by
  refine va_calli (va_runV S (hM H.size) cw (aq_preV I hr) rfl hn hsz hst (lv_room hW) hdg hf) I.2.2 (fun q _ h => aq_free I q h) (aq_free I) (fun x u t H1 locs1 ht hvm hx hB _ _ hS => ?_)
  subst hx
  exact kk H1 locs1 (aq_back I ht hvm hB hS)
theorem aq_callVv {b : Addr} (S : CallFix p m c cc nL s args Ts own) (hM : aq_Met l y ws rm D tys N ad (.ref b :: As) w (aq_Qv D tys N ad w') mc ms) (cw : CallW R s args own C index y bytes maxL ret ws rm mc ms n) (hr : ∃ cell : Cell, H[b]? = some cell ∧ cell.vm.isStatics = false ∧ s.vm.findClass C = some cell.cls)
    (I : aq_I D tys (aq_A N ad) w s H locs) (hsz : ls.size = nL) (hdg : decode cc pc = .ok (.invokevirtual index, 3)) (hn : As.length = n) (hst : st = As.reverse ++ .ref b :: rest) (hW : (rest.map fun v => v.category).sum ≤ 8) (hf : cells + mc ≤ R.cells ∧ slots + ms ≤ R.slots)
    (kk : ∀ (H1 : Heap) (locs1 : List Loc), aq_I D tys (aq_A N ad) w' s H1 locs1 → W p l e R s m args below meth c H1 locs1 (cells + mc) (slots + ms) Q (F0 m (pc + 3) ls rest)) : W p l e R s m args below meth c H locs cells slots Q (F0 m pc ls st) := by
  refine va_callv (va_runV S (hM H.size) cw (aq_preV I hr) rfl hn hsz hst (lv_room hW) hdg hf) I.2.2 (fun q _ h => aq_free I q h) (aq_free I) (fun u t H1 locs1 ht hvm hx hB _ _ hS => ?_)
  exact kk H1 locs1 (aq_back I ht hvm hB hS)
theorem aq_callVl {r : Int64} {b : Addr} (S : CallFix p m c cc nL s args Ts own) (hM : aq_Met l y ws rm D tys N ad (.ref b :: As) w (aq_Ql D tys N ad r w') mc ms) (cw : CallW R s args own C index y bytes maxL ret ws rm mc ms n) (hr : ∃ cell : Cell, H[b]? = some cell ∧ cell.vm.isStatics = false ∧ s.vm.findClass C = some cell.cls)
    (I : aq_I D tys (aq_A N ad) w s H locs) (hsz : ls.size = nL) (hdg : decode cc pc = .ok (.invokevirtual index, 3)) (hn : As.length = n) (hst : st = As.reverse ++ .ref b :: rest) (hW : (rest.map fun v => v.category).sum ≤ 8) (hf : cells + mc ≤ R.cells ∧ slots + ms ≤ R.slots)
    (kk : ∀ (H1 : Heap) (locs1 : List Loc), aq_I D tys (aq_A N ad) w' s H1 locs1 → W p l e R s m args below meth c H1 locs1 (cells + mc) (slots + ms) Q (F0 m (pc + 3) ls (.long r :: rest))) : W p l e R s m args below meth c H locs cells slots Q (F0 m pc ls st) := by
  refine va_calll (va_runV S (hM H.size) cw (aq_preV I hr) rfl hn hsz hst (lv_room hW) hdg hf) I.2.2 (fun q _ h => aq_free I q h) (aq_free I) (fun x u t H1 locs1 ht hvm hx hB _ _ hS => ?_)
  subst hx
  exact kk H1 locs1 (aq_back I ht hvm hB hS)
theorem aq_callVr {r : Nat} {b : Addr} (S : CallFix p m c cc nL s args Ts own) (hM : aq_Met l y ws rm D tys N ad (.ref b :: As) w (aq_Qr D tys N ad r w') mc ms) (cw : CallW R s args own C index y bytes maxL ret ws rm mc ms n) (hr : ∃ cell : Cell, H[b]? = some cell ∧ cell.vm.isStatics = false ∧ s.vm.findClass C = some cell.cls)
    (I : aq_I D tys (aq_A N ad) w s H locs) (hsz : ls.size = nL) (hdg : decode cc pc = .ok (.invokevirtual index, 3)) (hn : As.length = n) (hst : st = As.reverse ++ .ref b :: rest) (hW : (rest.map fun v => v.category).sum ≤ 8) (hf : cells + mc ≤ R.cells ∧ slots + ms ≤ R.slots)
    (kk : ∀ (H1 : Heap) (locs1 : List Loc), aq_I D tys (aq_A N ad) w' s H1 locs1 → W p l e R s m args below meth c H1 locs1 (cells + mc) (slots + ms) Q (F0 m (pc + 3) ls (.ref r :: rest))) : W p l e R s m args below meth c H locs cells slots Q (F0 m pc ls st) := by
  refine va_callr (va_runV S (hM H.size) cw (aq_preV I hr) rfl hn hsz hst (lv_room hW) hdg hf) I.2.2 (fun q _ h => aq_free I q h) (aq_free I) (fun u ra t H1 locs1 ht hvm hx hB _ _ hS => ?_)
  obtain ⟨hB1, hB⟩ := hB
  subst hB1
  exact kk H1 locs1 (aq_back I ht hvm hB hS)
theorem aq_callSi {r : Int32} (S : CallFix p m c cc nL s args Ts own) (hM : aq_Met l y ws rm D tys N ad As w (aq_Qi D tys N ad r w') mc ms) (cw : CallB R s args own index y bytes maxL ret ws rm mc ms n ∧ (Cond.static y).before args s = true)
    (I : aq_I D tys (aq_A N ad) w s H locs) (hsz : ls.size = nL) (hdg : decode cc pc = .ok (.invokestatic index, 3)) (hn : As.length = n) (hst : st = As.reverse ++ rest) (hW : (rest.map fun v => v.category).sum ≤ 8) (hf : cells + mc ≤ R.cells ∧ slots + ms ≤ R.slots)
    (kk : ∀ (H1 : Heap) (locs1 : List Loc), aq_I D tys (aq_A N ad) w' s H1 locs1 → W p l e R s m args below meth c H1 locs1 (cells + mc) (slots + ms) Q (F0 m (pc + 3) ls (.int r :: rest))) : W p l e R s m args below meth c H locs cells slots Q (F0 m pc ls st) := by
  refine va_calli (va_runS S (hM H.size) cw (aq_preS I) rfl hn hsz hst (lv_room hW) hdg hf) I.2.2 (fun q _ h => aq_free I q h) (aq_free I) (fun x u t H1 locs1 ht hvm hx hB _ _ hS => ?_)
  subst hx
  exact kk H1 locs1 (aq_back I ht hvm hB hS)
/-- the ends -/
theorem aq_iret {x r : Int32} {w1 : va_W} (hx : p.tables.exec = Jvm.exec) (hb : c.code = cc) (hr : meth.sig.returnType = some .int) (hlocks : meth.locks = false) (I : aq_I D tys (aq_A N ad) w1 s H locs) (hdg : decode cc pc = .ok (.ireturn, 1)) (hc : cells ≤ mc) (hs : slots ≤ ms) (he : x = r) (hw : w1 = w') :
    W p l e R s m args below meth c H locs cells slots (MQ below (aq_Qi D tys N ad r w' s.heap.size) args s mc ms (aq_A N ad s.heap.size)) (F0 m pc ls [.int x]) := by
  subst he; subst hw
  exact W.widen hc hs (W.iret (v := x) hx hb hr (fun t ht hW => ⟨⟨x, (), rfl, rfl, va_K.moved hW.alike I.1, by rw [ht]; exact I.2.1⟩, I.2.2.F ht⟩) I.2.2.2.2 hdg)
theorem aq_zret {x r : Int32} {w1 : va_W} (hx : p.tables.exec = Jvm.exec) (hb : c.code = cc) (hr : meth.sig.returnType = some .boolean) (hlocks : meth.locks = false) (I : aq_I D tys (aq_A N ad) w1 s H locs) (hdg : decode cc pc = .ok (.ireturn, 1)) (hc : cells ≤ mc) (hs : slots ≤ ms) (hnr : narrow .boolean (.int x) = .int x) (he : x = r) (hw : w1 = w') :
    W p l e R s m args below meth c H locs cells slots (MQ below (aq_Qi D tys N ad r w' s.heap.size) args s mc ms (aq_A N ad s.heap.size)) (F0 m pc ls [.int x]) := by
  subst he; subst hw
  exact W.widen hc hs (W.zret (v := x) hx hb hr hnr (fun t ht hW => ⟨⟨x, (), rfl, rfl, va_K.moved hW.alike I.1, by rw [ht]; exact I.2.1⟩, I.2.2.F ht⟩) I.2.2.2.2 hdg)
theorem aq_lret {x r : Int64} {w1 : va_W} (hx : p.tables.exec = Jvm.exec) (hb : c.code = cc) (hr : meth.sig.returnType = some .long) (hlocks : meth.locks = false) (I : aq_I D tys (aq_A N ad) w1 s H locs) (hdg : decode cc pc = .ok (.lreturn, 1)) (hc : cells ≤ mc) (hs : slots ≤ ms) (he : x = r) (hw : w1 = w') :
    W p l e R s m args below meth c H locs cells slots (MQ below (aq_Ql D tys N ad r w' s.heap.size) args s mc ms (aq_A N ad s.heap.size)) (F0 m pc ls [.long x]) := by
  subst he; subst hw
  exact W.widen hc hs (W.lret (v := x) hx hb hr (fun t ht hW => ⟨⟨x, (), rfl, rfl, va_K.moved hW.alike I.1, by rw [ht]; exact I.2.1⟩, I.2.2.F ht⟩) I.2.2.2.2 hdg)
theorem aq_vret {w1 : va_W} (hx : p.tables.exec = Jvm.exec) (hb : c.code = cc) (hr : meth.sig.returnType = none) (hlocks : meth.locks = false) (I : aq_I D tys (aq_A N ad) w1 s H locs) (hdg : decode cc pc = .ok (.return_, 1)) (hc : cells ≤ mc) (hs : slots ≤ ms) (hw : w1 = w') :
    W p l e R s m args below meth c H locs cells slots (MQ below (aq_Qv D tys N ad w' s.heap.size) args s mc ms (aq_A N ad s.heap.size)) (F0 m pc ls []) := by
  subst hw
  exact W.widen hc hs (W.vret hx hb hr (fun t ht hW => ⟨⟨(), rfl, trivial, va_K.moved hW.alike I.1, by rw [ht]; exact I.2.1⟩, I.2.2.F ht⟩) I.2.2.2.2 hdg)
theorem aq_aret {x r : Nat} {w1 : va_W} {rt : FieldType} (hx : p.tables.exec = Jvm.exec) (hb : c.code = cc) (hr : meth.sig.returnType = some rt) (hrt : (∃ n, rt = .object n) ∨ ∃ t, rt = .array t) (hlocks : meth.locks = false) (I : aq_I D tys (aq_A N ad) w1 s H locs) (hdg : decode cc pc = .ok (.areturn, 1)) (hc : cells ≤ mc) (hs : slots ≤ ms) (he : x = r) (hw : w1 = w') :
    W p l e R s m args below meth c H locs cells slots (MQ below (aq_Qr D tys N ad r w' s.heap.size) args s mc ms (aq_A N ad s.heap.size)) (F0 m pc ls [.ref x]) := by
  subst he; subst hw
  exact W.widen hc hs (W.aret (v := .ref x) hx hb hr hrt (Or.inr ⟨_, rfl⟩) (fun t ht hW => ⟨⟨(), x, rfl, trivial, rfl, va_K.moved hW.alike I.1, by rw [ht]; exact I.2.1⟩, I.2.2.F ht⟩) I.2.2.2.2 hdg)
/-- a field's value, a field written, an array's place read and written: by the cell's number in the world -/
theorem aq_get {ev : Nat → va_E} {ci k0 nF : Nat} {T : u_T} {fs : List Value} {v : Value} (S : CallFix p m c cc nL s args Ts own) (I : aq_I D tys (aq_A N ad) (aq_w N ad ev) s H locs) (hk0 : k0 < N) (he : ev k0 = .inr (ci, fs)) (hc : vwCl[ci]? = some (C, T, nF)) (hin : ∀ w ∈ u_ws C T nF, w ∈ Ts) (k : Nat) (hk : k < nF) (hl : Cond.fieldLink own index ref (T k).2.1 (T k).2.2.1 ∈ Ts) (hsame : (T k).1 = ref) (hv : fs[k]? = some v) (hdg : decode cc pc = .ok (.getfield index, 3))
    (kk : W p l e R s m args below meth c H locs cells slots Q (F0 m (pc + 3) ls (v :: rest))) : W p l e R s m args below meth c H locs cells slots Q (F0 m pc ls (.ref (ad k0) :: rest)) :=
  va_get (D := D) (ci := ci) (v := v) (C := C) (T := T) (N := nF) S.1 S.2.1 S.2.2.2.2 hin S.2.2.2.1 I.1 I.2.1 k0 (by rw [aq_w_at hk0, he]) hc k hk (S.2.2.2.2 _ hl) (fun x h => by rw [← hsame]; exact h) hv hdg kk
theorem aq_put {ev ev' : Nat → va_E} {ci k0 nF : Nat} {T : u_T} {ty0 : Nat → FieldType} {fs : List Value} {x : Int32} (hJ : aq_J N ad) (S : CallFix p m c cc nL s args Ts own) (I : aq_I D tys (aq_A N ad) (aq_w N ad ev) s H locs) (hk0 : k0 < N) (he : ev k0 = .inr (ci, fs)) (hc : vwCl[ci]? = some (C, T, nF)) (hin : ∀ w ∈ u_ws C T nF, w ∈ Ts) (hty : ∀ k, k < nF → parseFieldDescriptor (T k).2.2.1 = some (ty0 k)) (hnm : ∀ a, a < nF → ∀ b, b < nF → a ≠ b → (T a).2.1 ≠ (T b).2.1) (k : Nat) (hk : k < nF) (hl : Cond.fieldLink own index ref (T k).2.1 (T k).2.2.1 ∈ Ts) (hsame : (T k).1 = ref) (hfin : (T k).2.2.2 = false) (hd : parseFieldDescriptor (T k).2.2.1 = some .int) (hlen : k < fs.length) (hdg : decode cc pc = .ok (.putfield index, 3))
    (he' : ev' k0 = .inr (ci, fs.set k (.int x))) (ho : ∀ j, j < N → j ≠ k0 → ev' j = ev j)
    (kk : ∀ (H1 : Heap) (locs1 : List Loc), aq_I D tys (aq_A N ad) (aq_w N ad ev') s H1 locs1 → W p l e R s m args below meth c H1 locs1 cells slots Q (F0 m (pc + 3) ls rest)) : W p l e R s m args below meth c H locs cells slots Q (F0 m pc ls (.int x :: .ref (ad k0) :: rest)) := by
  refine va_put (D := D) (ci := ci) (v := .int x) (ty := .int) (C := C) (T := T) (N := nF) S.1 S.2.1 S.2.2.2.2 hin ty0 hty hnm S.2.2.2.1 I.1 I.2.1 (aq_D hJ s.heap.size ev) I.2.2 k0 (fs := fs) (by rw [aq_w_at hk0, he]) hc k hk (S.2.2.2.2 _ hl) (fun x h => by rw [← hsame]; exact h) hfin hd rfl rfl hlen hdg (fun H1 locs1 hP hD hS => ?_)
  rw [aq_w_set hk0 he' ho] at hP
  exact kk H1 locs1 ⟨I.1, hP, hS⟩
theorem aq_ild {ev : Nat → va_E} {k0 t0 z : Nat} {cA : ClassId} {f : Nat → Int32} {i : Int32} {j : Nat} {v : Int32} (S : CallFix p m c cc nL s args Ts own) (I : aq_I D tys (aq_A N ad) (aq_w N ad ev) s H locs) (hk0 : k0 < N) (he : ev k0 = .inl (cA, z, .inl f)) (ht : tys[t0]? = some (cA, .int)) (hi : i = nI j) (hj : j < z) (hz : z < 2 ^ 31) (hv : f j = v) (hdg : decode cc pc = .ok (.iaload, 1))
    (kk : W p l e R s m args below meth c H locs cells slots Q (F0 m (pc + 1) ls (.int v :: rest))) : W p l e R s m args below meth c H locs cells slots Q (F0 m pc ls (.int i :: .ref (ad k0) :: rest)) := by
  subst hi
  refine va_iald (D := D) S.1 S.2.1 I.1 I.2.1 k0 t0 (cA := cA) (n := z) (f := f) (by rw [aq_w_at hk0, he]) ht (vp_in_nI hj hz) hdg ?_
  rw [nI_clamp (by omega), hv]
  exact kk
theorem aq_ist {ev ev' : Nat → va_E} {k0 t0 z : Nat} {cA : ClassId} {f : Nat → Int32} {i : Int32} {j : Nat} {x : Int32} (hJ : aq_J N ad) (S : CallFix p m c cc nL s args Ts own) (I : aq_I D tys (aq_A N ad) (aq_w N ad ev) s H locs) (hk0 : k0 < N) (he : ev k0 = .inl (cA, z, .inl f)) (ht : tys[t0]? = some (cA, .int)) (hi : i = nI j) (hj : j < z) (hz : z < 2 ^ 31) (hdg : decode cc pc = .ok (.iastore, 1))
    (he' : ev' k0 = .inl (cA, z, .inl (fun k => if k = j then x else f k))) (ho : ∀ j, j < N → j ≠ k0 → ev' j = ev j)
    (kk : ∀ (H1 : Heap) (locs1 : List Loc), aq_I D tys (aq_A N ad) (aq_w N ad ev') s H1 locs1 → W p l e R s m args below meth c H1 locs1 cells slots Q (F0 m (pc + 1) ls rest)) : W p l e R s m args below meth c H locs cells slots Q (F0 m pc ls (.int x :: .int i :: .ref (ad k0) :: rest)) := by
  subst hi
  refine va_iast (D := D) S.1 S.2.1 I.1 I.2.1 (aq_D hJ s.heap.size ev) I.2.2 k0 t0 (cA := cA) (n := z) (f := f) (by rw [aq_w_at hk0, he]) ht (vp_in_nI hj hz) hdg (fun H1 locs1 hP hD hS => ?_)
  rw [nI_clamp (by omega)] at hP
  rw [aq_w_set hk0 (e' := ev') (by rw [he']; rfl) ho] at hP
  exact kk H1 locs1 ⟨I.1, hP, hS⟩
theorem aq_mmin {x y : Int32} (S : CallFix p m c cc nL s args Ts own) (hsz : ls.size = nL) (h1 : Cond.methodLink own index Lib.Math.min.name ∈ Ts) (h2 : Cond.static Lib.Math.min.name ∈ Ts) (h3 : Cond.initialized "java/lang/Math" ∈ Ts) (h4 : Cond.code Lib.Math.min.name Lib.Math.min.code 2 (some .int) ∈ Ts) (hf : 1 ≤ R.frames) (hlo : (rest.map fun v => v.category).sum + 13 ≤ R.locals) (hc : cells ≤ R.cells) (hs : slots ≤ R.slots) (hdg : decode cc pc = .ok (.invokestatic index, 3))
    (kk : W p l e R s m args below meth c H locs cells slots Q (F0 m (pc + 3) ls (.int (aq_mn x y) :: rest))) : W p l e R s m args below meth c H locs cells slots Q (F0 m pc ls (.int y :: .int x :: rest)) :=
  va_mmin S.1 S.2.1 (S.2.2.1.trans hsz.symm) S.2.2.2.1 (S.2.2.2.2 _ h1) (S.2.2.2.2 _ h2) (S.2.2.2.2 _ h3) (S.2.2.2.2 _ h4) hf hlo hc hs hdg kk
theorem aq_mmax {x y : Int32} (S : CallFix p m c cc nL s args Ts own) (hsz : ls.size = nL) (h1 : Cond.methodLink own index Lib.Math.max.name ∈ Ts) (h2 : Cond.static Lib.Math.max.name ∈ Ts) (h3 : Cond.initialized "java/lang/Math" ∈ Ts) (h4 : Cond.code Lib.Math.max.name Lib.Math.max.code 2 (some .int) ∈ Ts) (hf : 1 ≤ R.frames) (hlo : (rest.map fun v => v.category).sum + 13 ≤ R.locals) (hc : cells ≤ R.cells) (hs : slots ≤ R.slots) (hdg : decode cc pc = .ok (.invokestatic index, 3))
    (kk : W p l e R s m args below meth c H locs cells slots Q (F0 m (pc + 3) ls (.int (aq_mx x y) :: rest))) : W p l e R s m args below meth c H locs cells slots Q (F0 m pc ls (.int y :: .int x :: rest)) :=
  va_mmax S.1 S.2.1 (S.2.2.1.trans hsz.symm) S.2.2.2.1 (S.2.2.2.2 _ h1) (S.2.2.2.2 _ h2) (S.2.2.2.2 _ h3) (S.2.2.2.2 _ h4) hf hlo hc hs hdg kk
end AQ
end
section
/-! the class's world: 49 cells: the object (0), now's tables (1, 2), two aqueducts (3, 4), their rows (5, 6), 2 * 20 arches (7 to 46), trial's tables (47, 48). V j f i: the aqueduct j's arch i, field f; V j 10 k: its own field k; V (2 + j) t: its table t -/
def aC_e (ad : Nat → Nat) (cI cQ : ClassId) (V : aq_V) (c : Nat) : va_E :=
  if c = 0 then .inr (2, [.ref (ad 3), .ref (ad 4)])
  else if c < 3 then .inl (cI, 24, .inl (V 2 (c - 1)))
  else if c < 5 then .inr (0, .ref (ad (1 + 46 * (c - 3))) :: .ref (ad (2 + 46 * (c - 3))) :: .ref (ad (c + 2)) :: (List.range 10).map (fun k => Value.int (V (c - 3) 10 (3 + k))))
  else if c < 7 then .inl (cQ, 20, .inr (.inr (.inr (.inr (fun i => some (ad (7 + 20 * (c - 5) + i)))))))
  else if c < 47 then .inr (1, (List.range 10).map (fun k => Value.int (V ((c - 7) / 20) k ((c - 7) % 20))))
  else .inl (cI, 24, .inl (V 3 (c - 47)))
abbrev aC_w (ad : Nat → Nat) (cI cQ : ClassId) (V : aq_V) : va_W := aq_w 49 ad (aC_e ad cI cQ V)
abbrev aC_t (cI cQ : ClassId) : List (ClassId × FieldType) := [(cI, .int), (cQ, .object RX1)]
section ACE
variable {ad : Nat → Nat} {cI cQ : ClassId} {V V' : aq_V}
theorem aC_e0 : aC_e ad cI cQ V 0 = .inr (2, [.ref (ad 3), .ref (ad 4)]) := rfl
theorem aC_eT {t j : Nat} (ht : t < 2) (hj : j < 2) : aC_e ad cI cQ V (1 + t + 46 * j) = .inl (cI, 24, .inl (V (2 + j) t)) := by
  rcases (show j = 0 ∨ j = 1 by omega) with rfl | rfl
  · unfold aC_e
    rw [if_neg (by omega), if_pos (by omega), show 1 + t + 46 * 0 - 1 = t by omega]
  · unfold aC_e
    rw [if_neg (by omega), if_neg (by omega), if_neg (by omega), if_neg (by omega), if_neg (by omega), show 1 + t + 46 * 1 - 47 = t by omega]
theorem aC_eT0 {t : Nat} (ht : t < 2) : aC_e ad cI cQ V (1 + t) = .inl (cI, 24, .inl (V 2 t)) := by
  unfold aC_e
  rw [if_neg (by omega), if_pos (by omega), show 1 + t - 1 = t by omega]
theorem aC_eS {j : Nat} (hj : j < 2) : aC_e ad cI cQ V (3 + j) = .inr (0, .ref (ad (1 + 46 * j)) :: .ref (ad (2 + 46 * j)) :: .ref (ad (5 + j)) :: (List.range 10).map (fun k => Value.int (V j 10 (3 + k)))) := by
  unfold aC_e
  rw [if_neg (by omega), if_neg (by omega), if_pos (by omega), show 3 + j - 3 = j by omega, show 3 + j + 2 = 5 + j by omega]
theorem aC_eR {j : Nat} (hj : j < 2) : aC_e ad cI cQ V (5 + j) = .inl (cQ, 20, .inr (.inr (.inr (.inr (fun i => some (ad (7 + 20 * j + i))))))) := by
  unfold aC_e
  rw [if_neg (by omega), if_neg (by omega), if_neg (by omega), if_pos (by omega), show 5 + j - 5 = j by omega]
theorem aC_eA {j i : Nat} (hj : j < 2) (hi : i < 20) : aC_e ad cI cQ V (7 + 20 * j + i) = .inr (1, (List.range 10).map (fun k => Value.int (V j k i))) := by
  unfold aC_e
  rw [if_neg (by omega), if_neg (by omega), if_neg (by omega), if_neg (by omega), if_pos (by omega), show (7 + 20 * j + i - 7) / 20 = j by omega, show (7 + 20 * j + i - 7) % 20 = i by omega]
theorem aC_cong {c : Nat} (h1 : 1 ≤ c → c < 3 → V' 2 (c - 1) = V 2 (c - 1)) (h2 : 3 ≤ c → c < 5 → ∀ k, V' (c - 3) 10 k = V (c - 3) 10 k) (h3 : 7 ≤ c → c < 47 → ∀ k, k < 10 → V' ((c - 7) / 20) k ((c - 7) % 20) = V ((c - 7) / 20) k ((c - 7) % 20)) (h4 : 47 ≤ c → V' 3 (c - 47) = V 3 (c - 47)) : aC_e ad cI cQ V' c = aC_e ad cI cQ V c := by
  unfold aC_e
  by_cases c0 : c = 0
  · rw [if_pos c0, if_pos c0]
  · rw [if_neg c0, if_neg c0]
    by_cases c1 : c < 3
    · rw [if_pos c1, if_pos c1, h1 (by omega) c1]
    · rw [if_neg c1, if_neg c1]
      by_cases c2 : c < 5
      · rw [if_pos c2, if_pos c2]
        simp only [h2 (by omega) c2]
      · rw [if_neg c2, if_neg c2]
        by_cases c3 : c < 7
        · rw [if_pos c3, if_pos c3]
        · rw [if_neg c3, if_neg c3]
          by_cases c4 : c < 47
          · rw [if_pos c4, if_pos c4]
            rw [List.map_congr_left (fun k hk => by rw [h3 (by omega) c4 k (List.mem_range.mp hk)])]
          · rw [if_neg c4, if_neg c4, h4 (by omega)]
theorem aq_rset {n k : Nat} {f : Nat → Value} {v : Value} : ((List.range n).map f).set k v = (List.range n).map (fun q => if q = k then v else f q) := by
  apply List.ext_getElem?
  intro q
  by_cases h : q = k
  · subst h
    by_cases hq : q < n
    · rw [List.getElem?_set_self (by simpa using hq)]
      simp [hq]
    · rw [List.getElem?_eq_none (by simp; omega), List.getElem?_eq_none (by simp; omega)]
  · rw [List.getElem?_set_ne (Ne.symm h)]
    by_cases hq : q < n
    · simp [hq, h]
    · rw [List.getElem?_eq_none (by simp; omega), List.getElem?_eq_none (by simp; omega)]
end ACE
theorem aC_t1 : ∀ k, k < 10 → (TX1 k).1 = RX1 ∧ (TX1 k).2.2.2 = false ∧ parseFieldDescriptor (TX1 k).2.2.1 = some .int := by decide +kernel
theorem aC_t0 : ∀ k, k < 13 → (TX0 k).1 = RX0 ∧ (3 ≤ k → (TX0 k).2.2.2 = false ∧ parseFieldDescriptor (TX0 k).2.2.1 = some .int) := by decide +kernel
theorem aC_t2 : ∀ k, k < 2 → (TX2 k).1 = RX2 := by decide +kernel
/-! trial's tables become now's -/
def aq_tc (V : aq_V) : aq_V := aq_ug V 3 (V 2)
theorem aq_tc_2 (V : aq_V) : aq_tc V 2 = V 2 := aq_ug_n _ _ (by decide)
theorem aq_tc_0 (V : aq_V) : aq_tc V 0 = V 0 := aq_ug_n _ _ (by decide)
theorem aq_tc_1 (V : aq_V) : aq_tc V 1 = V 1 := aq_ug_n _ _ (by decide)
theorem aq_tc_3 (V : aq_V) : aq_tc V 3 = V 2 := aq_ug_s _ _ _
theorem aq_tc_tc (V : aq_V) : aq_tc (aq_tc V) = aq_tc V := by
  unfold aq_tc
  rw [aq_ug_n _ _ (show (2 : Nat) ≠ 3 by decide), aq_ug_ug]
theorem aq_tc_T (V : aq_V) (Q : aq_Q) : aq_ug (aq_tc V) 0 Q (2 + 1) = V 2 := (aq_ug_n _ _ (by decide)).trans (aq_tc_3 V)
/-- behind one table's copy -/
def aq_c1 (V : aq_V) (t : Nat) : aq_V := aq_ug V 3 (fun f k => if f = t ∧ k < 24 then V 2 f k else V 3 f k)
theorem aC_same {D : va_G} {ad : Nat → Nat} {cI cQ : ClassId} {V V' : aq_V} {H : Heap} (h : ∀ j, j < 3 → V' j = V j) (h3 : ∀ t, t < 2 → ∀ k, k < 24 → V' 3 t k = V 3 t k) (hP : va_P D vwCl (aC_w ad cI cQ V) H) : va_P D vwCl (aC_w ad cI cQ V') H := by
  intro k q hk
  obtain ⟨hl, rfl⟩ := aq_w_in hk
  have hP := hP k _ (aq_w_at hl)
  by_cases h47 : k < 47
  · rw [aC_cong (V := V) (V' := V') (fun _ _ => by rw [h 2 (by decide)]) (fun a b z => by rw [h _ (by omega)]) (fun a b z _ => by rw [h _ (by omega)]) (fun b => absurd h47 (by omega))]
    exact hP
  · obtain ⟨t, ht, rfl⟩ : ∃ t, t < 2 ∧ k = 1 + t + 46 * 1 := ⟨k - 47, by omega, by omega⟩
    rw [aC_eT ht (by decide)] at hP ⊢
    have hP : H[ad (1 + t + 46 * 1)]? = some (vp_cell cI (24, .inl (V 3 t))) := hP
    have e9 : vp_cell cI (24, .inl (V 3 t)) = vp_cell cI (24, .inl (V' 3 t)) := by
      rw [vp_cell_i, vp_cell_i]
      have e8 : (fun j : Fin 24 => Value.int (V 3 t j.val)) = (fun j : Fin 24 => Value.int (V' 3 t j.val)) := funext fun j => by rw [h3 t ht j.val j.isLt]
      unfold arrV
      rw [e8]
    rw [e9] at hP
    exact hP
theorem aC_c12 {D : va_G} {ad : Nat → Nat} {cI cQ : ClassId} {V : aq_V} {H : Heap} (hP : va_P D vwCl (aC_w ad cI cQ (aq_c1 (aq_c1 V 0) 1)) H) : va_P D vwCl (aC_w ad cI cQ (aq_tc V)) H := by
  refine aC_same (fun j hj => ?_) (fun t ht k hk => ?_) hP
  · unfold aq_tc aq_c1
    rw [aq_ug_n _ _ (by omega), aq_ug_n _ _ (by omega), aq_ug_n _ _ (by omega)]
  · unfold aq_tc aq_c1
    rw [aq_ug_s, aq_ug_s, aq_ug_s, aq_ug_n _ _ (show (2 : Nat) ≠ 3 by decide)]
    rcases (show t = 0 ∨ t = 1 by omega) with rfl | rfl
    · rw [if_neg (by omega), if_pos ⟨rfl, hk⟩]
    · rw [if_pos ⟨rfl, hk⟩]
theorem aq_tc_sw (V : aq_V) (Q Q1 : aq_Q) : aq_tc (aq_ug (aq_ug V 0 Q) 1 Q1) = aq_ug (aq_ug (aq_tc V) 0 Q) 1 Q1 := by
  unfold aq_tc
  rw [aq_ug_n _ _ (show (2 : Nat) ≠ 1 by decide), aq_ug_n _ _ (show (2 : Nat) ≠ 0 by decide), aq_ug_sw _ (show (1 : Nat) ≠ 3 by decide), aq_ug_sw _ (show (0 : Nat) ≠ 3 by decide)]
section AC
variable {p : Program} {l : Launch} {e : Env} {R : Room} {s : State} {m : MethodId} {args : Array Value} {below : List Frame} {meth : Method} {c : Code} {H : Heap} {locs : List Loc} {cells slots : Nat} {P9 : State → Prop}
variable {cc bytes : ByteArray} {maxL nL index pc : Nat} {ad : Nat → Nat} {ls : Array Slot} {rest : List Value} {Ts : List Cond} {own : String} {D : va_G} {cI cQ : ClassId} {V : aq_V} {Q : aq_Q} {j i : Nat}
theorem aC_getX (S : CallFix p m c cc nL s args Ts own) (I : aq_I D (aC_t cI cQ) (aq_A 49 ad) (aC_w ad cI cQ V) s H locs) (k : Nat) (hk : k < 2) (hin : ∀ w ∈ wsX20, w ∈ Ts) (hl : Cond.fieldLink own index RX2 (TX2 k).2.1 (TX2 k).2.2.1 ∈ Ts) (hdg : decode cc pc = .ok (.getfield index, 3))
    (kk : W p l e R s m args below meth c H locs cells slots P9 (F0 m (pc + 3) ls (.ref (ad (3 + k)) :: rest))) : W p l e R s m args below meth c H locs cells slots P9 (F0 m pc ls (.ref (ad 0) :: rest)) :=
  aq_get (N := 49) (k0 := 0) S I (by omega) aC_e0 rfl hin k hk hl (aC_t2 k hk) (by match k, hk with | 0, _ => rfl | 1, _ => rfl) hdg kk
theorem aC_getT (S : CallFix p m c cc nL s args Ts own) (I : aq_I D (aC_t cI cQ) (aq_A 49 ad) (aC_w ad cI cQ V) s H locs) (hj : j < 2) (k : Nat) (hk : k < 2) (hin : ∀ w ∈ wsX00, w ∈ Ts) (hl : Cond.fieldLink own index RX0 (TX0 k).2.1 (TX0 k).2.2.1 ∈ Ts) (hdg : decode cc pc = .ok (.getfield index, 3))
    (kk : W p l e R s m args below meth c H locs cells slots P9 (F0 m (pc + 3) ls (.ref (ad (1 + k + 46 * j)) :: rest))) : W p l e R s m args below meth c H locs cells slots P9 (F0 m pc ls (.ref (ad (3 + j)) :: rest)) :=
  aq_get (N := 49) (k0 := 3 + j) S I (by omega) (aC_eS hj) rfl hin k (by omega) hl (aC_t0 k (by omega)).1 (by match k, hk with | 0, _ => rfl | 1, _ => rfl) hdg kk
theorem aC_getR (S : CallFix p m c cc nL s args Ts own) (I : aq_I D (aC_t cI cQ) (aq_A 49 ad) (aC_w ad cI cQ V) s H locs) (hj : j < 2) (hin : ∀ w ∈ wsX00, w ∈ Ts) (hl : Cond.fieldLink own index RX0 (TX0 2).2.1 (TX0 2).2.2.1 ∈ Ts) (hdg : decode cc pc = .ok (.getfield index, 3))
    (kk : W p l e R s m args below meth c H locs cells slots P9 (F0 m (pc + 3) ls (.ref (ad (5 + j)) :: rest))) : W p l e R s m args below meth c H locs cells slots P9 (F0 m pc ls (.ref (ad (3 + j)) :: rest)) :=
  aq_get (N := 49) (k0 := 3 + j) S I (by omega) (aC_eS hj) rfl hin 2 (by omega) hl (aC_t0 2 (by omega)).1 rfl hdg kk
theorem aC_getS {x : Int32} (S : CallFix p m c cc nL s args Ts own) (I : aq_I D (aC_t cI cQ) (aq_A 49 ad) (aC_w ad cI cQ V) s H locs) (hj : j < 2) (k : Nat) (h3 : 3 ≤ k) (hk : k < 13) (hin : ∀ w ∈ wsX00, w ∈ Ts) (hl : Cond.fieldLink own index RX0 (TX0 k).2.1 (TX0 k).2.2.1 ∈ Ts) (hv : V j 10 k = x) (hdg : decode cc pc = .ok (.getfield index, 3))
    (kk : W p l e R s m args below meth c H locs cells slots P9 (F0 m (pc + 3) ls (.int x :: rest))) : W p l e R s m args below meth c H locs cells slots P9 (F0 m pc ls (.ref (ad (3 + j)) :: rest)) :=
  aq_get (N := 49) (k0 := 3 + j) S I (by omega) (aC_eS hj) rfl hin k hk hl (aC_t0 k hk).1 (by
    obtain ⟨q, rfl⟩ : ∃ q, k = q + 3 := ⟨k - 3, by omega⟩
    rw [List.getElem?_cons_succ, List.getElem?_cons_succ, List.getElem?_cons_succ, List.getElem?_map, List.getElem?_range (by omega), ← hv, Nat.add_comm q 3]
    rfl) hdg kk
theorem aC_putS {x : Int32} (hJ : aq_J 49 ad) (S : CallFix p m c cc nL s args Ts own) (I : aq_I D (aC_t cI cQ) (aq_A 49 ad) (aC_w ad cI cQ (aq_ug V j Q)) s H locs) (hj : j < 2) (k : Nat) (h3 : 3 ≤ k) (hk : k < 13) (hin : ∀ w ∈ wsX00, w ∈ Ts) (hl : Cond.fieldLink own index RX0 (TX0 k).2.1 (TX0 k).2.2.1 ∈ Ts) (hdg : decode cc pc = .ok (.putfield index, 3))
    (kk : ∀ (H1 : Heap) (locs1 : List Loc) (Q1 : aq_Q), Q1 = aq_up Q 10 k x → aq_I D (aC_t cI cQ) (aq_A 49 ad) (aC_w ad cI cQ (aq_ug V j Q1)) s H1 locs1 → W p l e R s m args below meth c H1 locs1 cells slots P9 (F0 m (pc + 3) ls rest)) : W p l e R s m args below meth c H locs cells slots P9 (F0 m pc ls (.int x :: .ref (ad (3 + j)) :: rest)) := by
  refine aq_put (N := 49) (k0 := 3 + j) (ty0 := tyX0) (ev' := aC_e ad cI cQ (aq_ug V j (aq_up Q 10 k x))) hJ S I (by omega) (aC_eS hj) rfl hin tyX0_ok nmX0 k hk hl (aC_t0 k hk).1 ((aC_t0 k hk).2 h3).1 ((aC_t0 k hk).2 h3).2 (by simp; omega) hdg ?_ ?_ (fun H1 locs1 I1 => kk H1 locs1 _ rfl I1)
  · rw [aC_eS hj, aq_ug_s, aq_ug_s]
    obtain ⟨q, rfl⟩ : ∃ q, k = q + 3 := ⟨k - 3, by omega⟩
    rw [List.set_cons_succ, List.set_cons_succ, List.set_cons_succ, aq_rset]
    congr 6
    funext z
    by_cases hz : z = q
    · subst hz
      rw [if_pos rfl, Nat.add_comm, aq_up_s]
    · rw [if_neg hz, aq_up_i _ _ (by omega)]
  · intro c hc hne
    refine aC_cong (fun _ _ => ?_) (fun a b z => ?_) (fun a a9 z hz => ?_) (fun _ => ?_)
    · rw [aq_ug_n _ _ (by omega), aq_ug_n _ _ (by omega)]
    · rw [aq_ug_n _ _ (by omega), aq_ug_n _ _ (by omega)]
    · by_cases h : (c - 7) / 20 = j
      · rw [h, aq_ug_s, aq_ug_s, aq_up_f _ _ (by omega)]
      · rw [aq_ug_n _ _ h, aq_ug_n _ _ h]
    · rw [aq_ug_n _ _ (by omega), aq_ug_n _ _ (by omega)]
theorem aC_getA {x : Int32} (S : CallFix p m c cc nL s args Ts own) (I : aq_I D (aC_t cI cQ) (aq_A 49 ad) (aC_w ad cI cQ V) s H locs) (hj : j < 2) (hi : i < 20) (k : Nat) (hk : k < 10) (hin : ∀ w ∈ wsX10, w ∈ Ts) (hl : Cond.fieldLink own index RX1 (TX1 k).2.1 (TX1 k).2.2.1 ∈ Ts) (hv : V j k i = x) (hdg : decode cc pc = .ok (.getfield index, 3))
    (kk : W p l e R s m args below meth c H locs cells slots P9 (F0 m (pc + 3) ls (.int x :: rest))) : W p l e R s m args below meth c H locs cells slots P9 (F0 m pc ls (.ref (ad (7 + 20 * j + i)) :: rest)) :=
  aq_get (N := 49) (k0 := 7 + 20 * j + i) S I (by omega) (aC_eA hj hi) rfl hin k hk hl (aC_t1 k hk).1 (by
    rw [List.getElem?_map, List.getElem?_range hk, ← hv]
    rfl) hdg kk
theorem aC_putA {x : Int32} (hJ : aq_J 49 ad) (S : CallFix p m c cc nL s args Ts own) (I : aq_I D (aC_t cI cQ) (aq_A 49 ad) (aC_w ad cI cQ (aq_ug V j Q)) s H locs) (hj : j < 2) (hi : i < 20) (k : Nat) (hk : k < 10) (hin : ∀ w ∈ wsX10, w ∈ Ts) (hl : Cond.fieldLink own index RX1 (TX1 k).2.1 (TX1 k).2.2.1 ∈ Ts) (hdg : decode cc pc = .ok (.putfield index, 3))
    (kk : ∀ (H1 : Heap) (locs1 : List Loc) (Q1 : aq_Q), Q1 = aq_up Q k i x → aq_I D (aC_t cI cQ) (aq_A 49 ad) (aC_w ad cI cQ (aq_ug V j Q1)) s H1 locs1 → W p l e R s m args below meth c H1 locs1 cells slots P9 (F0 m (pc + 3) ls rest)) : W p l e R s m args below meth c H locs cells slots P9 (F0 m pc ls (.int x :: .ref (ad (7 + 20 * j + i)) :: rest)) := by
  refine aq_put (N := 49) (k0 := 7 + 20 * j + i) (ty0 := tyX1) (ev' := aC_e ad cI cQ (aq_ug V j (aq_up Q k i x))) hJ S I (by omega) (aC_eA hj hi) rfl hin tyX1_ok nmX1 k hk hl (aC_t1 k hk).1 (aC_t1 k hk).2.1 (aC_t1 k hk).2.2 (by simp; omega) hdg ?_ ?_ (fun H1 locs1 I1 => kk H1 locs1 _ rfl I1)
  · rw [aC_eA hj hi, aq_ug_s, aq_ug_s, aq_rset]
    congr 3
    funext z
    by_cases hz : z = k
    · subst hz
      rw [if_pos rfl, aq_up_s]
    · rw [if_neg hz, aq_up_f _ _ hz]
  · intro c hc hne
    refine aC_cong (fun _ _ => ?_) (fun a b z => ?_) (fun a a9 z hz => ?_) (fun _ => ?_)
    · rw [aq_ug_n _ _ (by omega), aq_ug_n _ _ (by omega)]
    · by_cases h : c - 3 = j
      · rw [h, aq_ug_s, aq_ug_s, aq_up_f _ _ (by omega)]
      · rw [aq_ug_n _ _ h, aq_ug_n _ _ h]
    · by_cases h : (c - 7) / 20 = j
      · rw [h, aq_ug_s, aq_ug_s, aq_up_i _ _ (by omega)]
      · rw [aq_ug_n _ _ h, aq_ug_n _ _ h]
    · rw [aq_ug_n _ _ (by omega), aq_ug_n _ _ (by omega)]
theorem aC_row {x : Int32} (S : CallFix p m c cc nL s args Ts own) (I : aq_I D (aC_t cI cQ) (aq_A 49 ad) (aC_w ad cI cQ V) s H locs) (hj : j < 2) (hx : x = nI i) (hi : i < 20) (hdg : decode cc pc = .ok (.aaload, 1))
    (kk : W p l e R s m args below meth c H locs cells slots P9 (F0 m (pc + 1) ls (.ref (ad (7 + 20 * j + i)) :: rest))) : W p l e R s m args below meth c H locs cells slots P9 (F0 m pc ls (.int x :: .ref (ad (5 + j)) :: rest)) := by
  subst hx
  refine va_aldq (D := D) S.1 S.2.1 I.1 I.2.1 (5 + j) 1 (cA := cQ) (C := RX1) (n := 20) (f := fun i => some (ad (7 + 20 * j + i))) (by rw [aq_w_at (by omega), aC_eR hj]) rfl (vp_in_nI hi (by omega)) hdg ?_
  rw [nI_clamp (by omega)]
  exact kk
theorem aC_tld {x h : Int32} {t k : Nat} (S : CallFix p m c cc nL s args Ts own) (I : aq_I D (aC_t cI cQ) (aq_A 49 ad) (aC_w ad cI cQ V) s H locs) (ht : t < 2) (hj : j < 2) (hx : h = nI k) (hk : k < 24) (hv : V (2 + j) t k = x) (hdg : decode cc pc = .ok (.iaload, 1))
    (kk : W p l e R s m args below meth c H locs cells slots P9 (F0 m (pc + 1) ls (.int x :: rest))) : W p l e R s m args below meth c H locs cells slots P9 (F0 m pc ls (.int h :: .ref (ad (1 + t + 46 * j)) :: rest)) :=
  aq_ild (N := 49) (k0 := 1 + t + 46 * j) (t0 := 0) S I (by omega) (aC_eT ht hj) rfl hx hk (by omega) hv hdg kk
theorem aC_tl0 {x h : Int32} {t k : Nat} (S : CallFix p m c cc nL s args Ts own) (I : aq_I D (aC_t cI cQ) (aq_A 49 ad) (aC_w ad cI cQ V) s H locs) (ht : t < 2) (hx : h = nI k) (hk : k < 24) (hv : V 2 t k = x) (hdg : decode cc pc = .ok (.iaload, 1))
    (kk : W p l e R s m args below meth c H locs cells slots P9 (F0 m (pc + 1) ls (.int x :: rest))) : W p l e R s m args below meth c H locs cells slots P9 (F0 m pc ls (.int h :: .ref (ad (1 + t)) :: rest)) :=
  aq_ild (N := 49) (k0 := 1 + t) (t0 := 0) S I (by omega) (aC_eT0 ht) rfl hx hk (by omega) hv hdg kk
theorem aC_tst {x h : Int32} {t k : Nat} {T : aq_Q} (hJ : aq_J 49 ad) (S : CallFix p m c cc nL s args Ts own) (I : aq_I D (aC_t cI cQ) (aq_A 49 ad) (aC_w ad cI cQ (aq_ug V 2 T)) s H locs) (ht : t < 2) (hx : h = nI k) (hk : k < 24) (hdg : decode cc pc = .ok (.iastore, 1))
    (kk : ∀ (H1 : Heap) (locs1 : List Loc) (T1 : aq_Q), T1 = aq_up T t k x → aq_I D (aC_t cI cQ) (aq_A 49 ad) (aC_w ad cI cQ (aq_ug V 2 T1)) s H1 locs1 → W p l e R s m args below meth c H1 locs1 cells slots P9 (F0 m (pc + 1) ls rest)) : W p l e R s m args below meth c H locs cells slots P9 (F0 m pc ls (.int x :: .int h :: .ref (ad (1 + t)) :: rest)) := by
  refine aq_ist (N := 49) (k0 := 1 + t) (t0 := 0) (f := T t) (ev' := aC_e ad cI cQ (aq_ug V 2 (aq_up T t k x))) hJ S I (by omega) (by rw [aC_eT0 ht, aq_ug_s]) rfl hx hk (by omega) hdg ?_ ?_ (fun H1 locs1 I1 => kk H1 locs1 _ rfl I1)
  · rw [aC_eT0 ht, aq_ug_s]
    congr 4
    funext z
    simp [aq_up]
  · intro c hc hne
    refine aC_cong (fun _ _ => ?_) (fun a b z => ?_) (fun a a9 z hz => ?_) (fun _ => ?_)
    · rw [aq_ug_s, aq_ug_s]
      funext z
      rw [aq_up_f _ _ (by omega)]
    · rw [aq_ug_n _ _ (by omega), aq_ug_n _ _ (by omega)]
    · rw [aq_ug_n _ _ (by omega), aq_ug_n _ _ (by omega)]
    · rw [aq_ug_n _ _ (by omega), aq_ug_n _ _ (by omega)]
theorem aC_nfw : nativeFrameWords "java/lang/System" "arraycopy" 5 + 11 ≤ 64 := by decide +kernel
theorem aC_copy {t : Nat} (hJ : aq_J 49 ad) (S : CallFix p m c cc nL s args Ts own) (hsz : ls.size = nL) (I : aq_I D (aC_t cI cQ) (aq_A 49 ad) (aC_w ad cI cQ V) s H locs) (ht : t < 2) (h1 : Cond.methodLink own index arraycopyName ∈ Ts) (h2 : Cond.native arraycopyName ∈ Ts) (h3 : Cond.static arraycopyName ∈ Ts) (h4 : Cond.initialized "java/lang/System" ∈ Ts) (hf : 1 ≤ R.frames) (hlo : (rest.map fun v => v.category).sum + 64 ≤ R.locals) (hdg : decode cc pc = .ok (.invokestatic index, 3))
    (kk : ∀ (H1 : Heap) (locs1 : List Loc), aq_I D (aC_t cI cQ) (aq_A 49 ad) (aC_w ad cI cQ (aq_c1 V t)) s H1 locs1 → W p l e R s m args below meth c H1 locs1 cells slots P9 (F0 m (pc + 3) ls rest)) : W p l e R s m args below meth c H locs cells slots P9 (F0 m pc ls (.int 24 :: .int 0 :: .ref (ad (1 + t + 46 * 1)) :: .int 0 :: .ref (ad (1 + t + 46 * 0)) :: rest)) := by
  have hnf := aC_nfw
  refine va_copyi (D := D) S.1 S.2.1 (S.2.2.1.trans hsz.symm) S.2.2.2.1 (S.2.2.2.2 _ h1) (S.2.2.2.2 _ h2) (S.2.2.2.2 _ h3) (S.2.2.2.2 _ h4) I.1 I.2.1 (aq_D hJ s.heap.size _) I.2.2 (1 + t + 46 * 0) (1 + t + 46 * 1) 0 0 (c0 := cI) (c1 := cI) (n0 := 24) (n1 := 24) (f := V 2 t) (g := V 3 t) (ty := .int) (by rw [aq_w_at (by omega), aC_eT ht (by decide)]) (by rw [aq_w_at (by omega), aC_eT ht (by decide)]) rfl rfl rfl (by decide) (by decide) (by decide) (by decide) (by decide) (fun i _ => rfl) hf (by omega) hdg (fun H1 locs1 hP hD hS => ?_)
  have e1 : (0 : Int32).toNatClampNeg = 0 := rfl
  have e2 : (24 : Int32).toNatClampNeg = 24 := rfl
  rw [e1, e2, aq_w_set (e' := aC_e ad cI cQ (aq_c1 V t)) (by omega) ?h1 ?h2] at hP
  · exact kk H1 locs1 ⟨I.1, hP, hS⟩
  case h1 =>
    rw [aC_eT ht (by decide)]
    congr 4
    funext k
    simp [aq_c1, aq_ug, va_cpy]
  case h2 =>
    intro z hz hne
    refine aC_cong (fun _ _ => ?_) (fun a b z => ?_) (fun a a9 z hz => ?_) (fun _ => ?_)
    · exact congrFun (aq_ug_n _ _ (by decide)) _
    · exact congrFun (congrFun (aq_ug_n _ _ (by omega)) _) _
    · exact congrFun (congrFun (aq_ug_n _ _ (by omega)) _) _
    · unfold aq_c1
      rw [aq_ug_s]
      funext k
      rw [if_neg (by omega)]
theorem aC_Ic12 (I : aq_I D (aC_t cI cQ) (aq_A 49 ad) (aC_w ad cI cQ (aq_c1 (aq_c1 V 0) 1)) s H locs) : aq_I D (aC_t cI cQ) (aq_A 49 ad) (aC_w ad cI cQ (aq_tc V)) s H locs := ⟨I.1, aC_c12 I.2.1, I.2.2⟩
theorem aC_recvA (I : aq_I D (aC_t cI cQ) (aq_A 49 ad) (aC_w ad cI cQ V) s H locs) (hj : j < 2) (hi : i < 20) : ∃ cell : Cell, H[ad (7 + 20 * j + i)]? = some cell ∧ cell.vm.isStatics = false ∧ s.vm.findClass RX1 = some cell.cls :=
  aq_recv (T := 0) I (k := 7 + 20 * j + i) (by omega) (aC_eA hj hi) (cr := (RX1, TX1, 10)) rfl
theorem aC_recvS (I : aq_I D (aC_t cI cQ) (aq_A 49 ad) (aC_w ad cI cQ V) s H locs) (hj : j < 2) : ∃ cell : Cell, H[ad (3 + j)]? = some cell ∧ cell.vm.isStatics = false ∧ s.vm.findClass RX0 = some cell.cls :=
  aq_recv (T := 0) I (k := 3 + j) (by omega) (aC_eS hj) (cr := (RX0, TX0, 13)) rfl
theorem aC_recvX (I : aq_I D (aC_t cI cQ) (aq_A 49 ad) (aC_w ad cI cQ V) s H locs) : ∃ cell : Cell, H[ad 0]? = some cell ∧ cell.vm.isStatics = false ∧ s.vm.findClass RX2 = some cell.cls :=
  aq_recv (T := 0) I (k := 0) (by omega) aC_e0 (cr := (RX2, TX2, 2)) rfl
end AC
end
section
/-! What the class's methods do to the memory of one aqueduct, as pure functions: one a method, in the method's own order. Q f i: the arch i's field f (0 height, 1 size, 2 water, 3 wear, 4 drops, 5 leaked, 6 appetite, 7 tenths, 8 flour, 9 took); Q 10 k: the aqueduct's field k (3 arches, 4 hour, 5 coins, 6 holds, 7 cistern, 8 given, 9 spilt, 10 used, 11 drunk, 12 thirst) -/
def aq_fillR (Q : aq_Q) (i : Nat) (o : Int32) : Int32 := aq_mn o (Q 1 i - Q 2 i)
def aq_fillQ (Q : aq_Q) (i : Nat) (o : Int32) : aq_Q := aq_up Q 2 i (Q 2 i + aq_fillR Q i o)
def aq_leadQ1 (Q : aq_Q) (i : Nat) (g : Int32) : aq_Q := aq_up Q 9 i (aq_mn (g * Q 7 i / 10) (Q 6 i))
def aq_leadQ (Q : aq_Q) (i : Nat) (g : Int32) : aq_Q := aq_up (aq_leadQ1 Q i g) 2 i (aq_leadQ1 Q i g 2 i - aq_leadQ1 Q i g 9 i)
def aq_leadR (Q : aq_Q) (i : Nat) (g : Int32) : Int32 := g - aq_leadQ Q i g 9 i
def aq_grindQ (Q : aq_Q) (i : Nat) : aq_Q := aq_up Q 8 i (Q 8 i + Q 9 i)
def aq_grindR (Q : aq_Q) (i : Nat) : Int32 := aq_grindQ Q i 8 i / 10 - Q 8 i / 10
def aq_leak1 (Q : aq_Q) (i : Nat) : aq_Q := aq_up Q 4 i (Q 4 i + Q 2 i * Q 3 i / 10)
def aq_lost (Q : aq_Q) (i : Nat) : Int32 := aq_mn (aq_leak1 Q i 4 i / 10) (aq_leak1 Q i 2 i)
def aq_leak2 (Q : aq_Q) (i : Nat) : aq_Q := aq_up (aq_leak1 Q i) 4 i (aq_leak1 Q i 4 i - aq_leak1 Q i 4 i / 10 * 10)
def aq_leak3 (Q : aq_Q) (i : Nat) : aq_Q := aq_up (aq_leak2 Q i) 2 i (aq_leak2 Q i 2 i - aq_lost Q i)
def aq_leakQ (Q : aq_Q) (i : Nat) : aq_Q := aq_up (aq_leak3 Q i) 5 i (aq_leak3 Q i 5 i + aq_lost Q i)
def aq_hasMill (Q : aq_Q) (i : Nat) : Int32 := if Q 6 i ≤ 0 then 0 else 1
def aq_hasOpen (Q : aq_Q) (i : Nat) : Int32 := if aq_hasMill Q i = 0 then 0 else if Q 7 i ≤ 0 then 0 else 1
def aq_wearByQ (Q : aq_Q) (i : Nat) (x : Int32) : aq_Q := aq_up Q 3 i (aq_mn 50 (Q 3 i + x))
def aq_wearDayQ (Q : aq_Q) (i : Nat) : aq_Q := if Q 2 i ≤ 0 then Q else if aq_hasOpen Q i = 0 then aq_wearByQ Q i 1 else aq_wearByQ Q i 2
def aq_millNo (Q : aq_Q) (i w : Nat) : Int32 := if aq_hasMill Q i = 0 then (-1) else (match w with | 0 => Q 6 i | 1 => Q 7 i | 2 => Q 8 i | _ => Q 9 i)
theorem aq_fillQ_n (Q : aq_Q) (i : Nat) (o : Int32) : aq_fillQ Q i o 10 3 = Q 10 3 := aq_up_f _ _ (by decide)
theorem aq_leadQ_n (Q : aq_Q) (i : Nat) (o : Int32) : aq_leadQ Q i o 10 3 = Q 10 3 := (aq_up_f _ _ (by decide)).trans (aq_up_f _ _ (by decide))
theorem aq_grindQ_n (Q : aq_Q) (i : Nat) : aq_grindQ Q i 10 3 = Q 10 3 := aq_up_f _ _ (by decide)
theorem aq_leakQ_n (Q : aq_Q) (i : Nat) : aq_leakQ Q i 10 3 = Q 10 3 := (aq_up_f _ _ (by decide)).trans ((aq_up_f _ _ (by decide)).trans ((aq_up_f _ _ (by decide)).trans (aq_up_f _ _ (by decide))))
theorem aq_wearByQ_n (Q : aq_Q) (i : Nat) (o : Int32) : aq_wearByQ Q i o 10 3 = Q 10 3 := aq_up_f _ _ (by decide)
theorem aq_wearDayQ_n (Q : aq_Q) (i : Nat) : aq_wearDayQ Q i 10 3 = Q 10 3 := by
  unfold aq_wearDayQ
  split
  · rfl
  · split
    · exact aq_wearByQ_n _ _ _
    · exact aq_wearByQ_n _ _ _
/-! the aqueduct's methods; n: how many arches -/
def aq_pourQ (n : Nat) (Q : aq_Q) (a : Nat) (w : Int32) : aq_Q := if a < n then aq_fillQ Q a w else aq_up Q 10 7 (Q 10 7 + aq_mn w (Q 10 6 - Q 10 7))
def aq_pourR (n : Nat) (Q : aq_Q) (a : Nat) (w : Int32) : Int32 := if a < n then aq_fillR Q a w else aq_mn w (Q 10 6 - Q 10 7)
theorem aq_pourQ_n (n : Nat) (Q : aq_Q) (a : Nat) (w : Int32) : aq_pourQ n Q a w 10 3 = Q 10 3 := by
  unfold aq_pourQ
  split
  · exact aq_fillQ_n _ _ _
  · exact aq_up_i _ _ (by decide)
def aq_slope (n : Nat) (Q : aq_Q) (a : Nat) : Int32 := if a + 1 < n then Q 0 a - Q 0 (a + 1) else Q 0 a - 0
def aq_rate (n : Nat) (Q : aq_Q) (a : Nat) : Int32 := aq_mn 30 (2 + aq_slope n Q a)
def aq_sendG (n : Nat) (Q : aq_Q) (i : Nat) : Int32 := aq_mn (Q 2 i) (aq_rate n Q i)
def aq_send1 (n : Nat) (Q : aq_Q) (i : Nat) : aq_Q := aq_leadQ Q i (aq_sendG n Q i)
def aq_sendR (n : Nat) (Q : aq_Q) (i : Nat) : Int32 := aq_leadR Q i (aq_sendG n Q i)
def aq_sendQ (n : Nat) (Q : aq_Q) (i : Nat) : aq_Q := aq_up (aq_pourQ n (aq_send1 n Q i) (i + 1) (aq_sendR n Q i)) 2 i (aq_send1 n Q i 2 i - aq_pourR n (aq_send1 n Q i) (i + 1) (aq_sendR n Q i))
theorem aq_sendQ_n (n : Nat) (Q : aq_Q) (i : Nat) : aq_sendQ n Q i 10 3 = Q 10 3 := (aq_up_f _ _ (by decide)).trans ((aq_pourQ_n _ _ _ _).trans (aq_leadQ_n _ _ _))
def aq_coinQ (Q : aq_Q) (i : Nat) : aq_Q := aq_up (aq_grindQ Q i) 10 5 (Q 10 5 + aq_grindR Q i)
def aq_backQ (n : Nat) (Q : aq_Q) (i : Nat) : aq_Q := aq_up (aq_pourQ n (aq_coinQ Q i) (i + 2) (Q 9 i / 2)) 10 9 (aq_coinQ Q i 10 9 + (Q 9 i / 2 - aq_pourR n (aq_coinQ Q i) (i + 2) (Q 9 i / 2)))
def aq_grindAtQ (n : Nat) (Q : aq_Q) (i : Nat) : aq_Q := aq_up (aq_backQ n Q i) 10 10 (aq_backQ n Q i 10 10 + (aq_backQ n Q i 9 i - Q 9 i / 2))
theorem aq_grindAtQ_n (n : Nat) (Q : aq_Q) (i : Nat) : aq_grindAtQ n Q i 10 3 = Q 10 3 := (aq_up_i _ _ (by decide)).trans ((aq_up_i _ _ (by decide)).trans ((aq_pourQ_n _ _ _ _).trans ((aq_up_i _ _ (by decide)).trans (aq_grindQ_n _ _))))
def aq_drink1 (Q : aq_Q) (w : Int32) : aq_Q := aq_up Q 10 7 (Q 10 7 - aq_mn w (Q 10 7))
def aq_drink2 (Q : aq_Q) (w : Int32) : aq_Q := aq_up (aq_drink1 Q w) 10 11 (aq_drink1 Q w 10 11 + aq_mn w (Q 10 7))
def aq_drinkQ (Q : aq_Q) (w : Int32) : aq_Q := aq_up (aq_drink2 Q w) 10 12 (aq_drink2 Q w 10 12 + (w - aq_mn w (Q 10 7)))
theorem aq_drinkQ_n (Q : aq_Q) (w : Int32) : aq_drinkQ Q w 10 3 = Q 10 3 := (aq_up_i _ _ (by decide)).trans ((aq_up_i _ _ (by decide)).trans (aq_up_i _ _ (by decide)))
def aq_giveQ (Q : aq_Q) (w : Int32) : aq_Q := aq_up Q 10 8 (Q 10 8 + w)
def aq_springQ (n : Nat) (Q : aq_Q) (w : Int32) : aq_Q := if n = 0 then aq_up (aq_giveQ Q w) 10 9 (aq_giveQ Q w 10 9 + (w - 0)) else aq_up (aq_fillQ (aq_giveQ Q w) 0 w) 10 9 (aq_fillQ (aq_giveQ Q w) 0 w 10 9 + (w - aq_fillR (aq_giveQ Q w) 0 w))
theorem aq_springQ_n (n : Nat) (Q : aq_Q) (w : Int32) : aq_springQ n Q w 10 3 = Q 10 3 := by
  unfold aq_springQ
  split
  · exact (aq_up_i _ _ (by decide)).trans (aq_up_i _ _ (by decide))
  · exact (aq_up_i _ _ (by decide)).trans ((aq_fillQ_n _ _ _).trans (aq_up_i _ _ (by decide)))
/-- the loops: k rounds, the first at i -/
def aq_sendAll (n : Nat) : Nat → aq_Q → aq_Q | 0, Q => Q | i + 1, Q => aq_sendAll n i (aq_sendQ n Q i)
def aq_grindAll (n : Nat) : Nat → Nat → aq_Q → aq_Q | 0, _, Q => Q | k + 1, i, Q => aq_grindAll n k (i + 1) (aq_grindAtQ n Q i)
def aq_leakAll : Nat → Nat → aq_Q → aq_Q | 0, _, Q => Q | k + 1, i, Q => aq_leakAll k (i + 1) (aq_leakQ Q i)
def aq_wearAll : Nat → Nat → aq_Q → aq_Q | 0, _, Q => Q | k + 1, i, Q => aq_wearAll k (i + 1) (aq_wearDayQ Q i)
theorem aq_sendAll_n (n : Nat) : ∀ (i : Nat) (Q : aq_Q), aq_sendAll n i Q 10 3 = Q 10 3 | 0, _ => rfl | i + 1, Q => (aq_sendAll_n n i _).trans (aq_sendQ_n _ _ _)
theorem aq_grindAll_n (n : Nat) : ∀ (k i : Nat) (Q : aq_Q), aq_grindAll n k i Q 10 3 = Q 10 3 | 0, _, _ => rfl | k + 1, i, Q => (aq_grindAll_n n k _ _).trans (aq_grindAtQ_n _ _ _)
theorem aq_leakAll_n : ∀ (k i : Nat) (Q : aq_Q), aq_leakAll k i Q 10 3 = Q 10 3 | 0, _, _ => rfl | k + 1, i, Q => (aq_leakAll_n k _ _).trans (aq_leakQ_n _ _)
theorem aq_wearAll_n : ∀ (k i : Nat) (Q : aq_Q), aq_wearAll k i Q 10 3 = Q 10 3 | 0, _, _ => rfl | k + 1, i, Q => (aq_wearAll_n k _ _).trans (aq_wearDayQ_n _ _)
/-- an hour: T 0, T 1: the tables of the spring and the city -/
def aq_day (Q : aq_Q) : Nat := (Q 10 4).toNatClampNeg % 24
def aq_hour5 (n : Nat) (T : aq_Q) (d : Nat) (Q : aq_Q) : aq_Q := aq_leakAll n 0 (aq_springQ n (aq_grindAll n n 0 (aq_sendAll n n (aq_drinkQ Q (T 1 d)))) (T 0 d))
def aq_hour6 (n : Nat) (T : aq_Q) (d : Nat) (Q : aq_Q) : aq_Q := if d = 23 then aq_wearAll n 0 (aq_hour5 n T d Q) else aq_hour5 n T d Q
def aq_hourD (n : Nat) (T : aq_Q) (d : Nat) (Q : aq_Q) : aq_Q := aq_up (aq_hour6 n T d Q) 10 4 (aq_hour6 n T d Q 10 4 + 1)
def aq_hourQ (n : Nat) (T : aq_Q) (Q : aq_Q) : aq_Q := aq_hourD n T (aq_day Q) Q
theorem aq_hourQ_n (n : Nat) (T : aq_Q) (Q : aq_Q) : aq_hourQ n T Q 10 3 = Q 10 3 := by
  have h5 : ∀ d, aq_hour5 n T d Q 10 3 = Q 10 3 := fun d => (aq_leakAll_n _ _ _).trans ((aq_springQ_n _ _ _).trans ((aq_grindAll_n _ _ _ _).trans ((aq_sendAll_n _ _ _).trans (aq_drinkQ_n _ _))))
  unfold aq_hourQ aq_hourD
  rw [aq_up_i _ _ (show (3 : Nat) ≠ 4 by decide)]
  unfold aq_hour6
  split
  · exact (aq_wearAll_n _ _ _).trans (h5 _)
  · exact h5 _
def aq_goQ (n : Nat) (T : aq_Q) : Nat → aq_Q → aq_Q | 0, Q => Q | k + 1, Q => aq_goQ n T k (aq_hourQ n T Q)
theorem aq_goQ_n (n : Nat) (T : aq_Q) : ∀ (k : Nat) (Q : aq_Q), aq_goQ n T k Q 10 3 = Q 10 3 | 0, _ => rfl | k + 1, Q => (aq_goQ_n n T k _).trans (aq_hourQ_n _ _ _)
def aq_sum (f : Nat → Int32) : Nat → Nat → Int32 → Int32 | 0, _, x => x | k + 1, i, x => aq_sum f k (i + 1) (x + f i)
def aq_mill1 (Q : aq_Q) (i : Nat) : Int32 := if aq_hasMill Q i = 0 then 0 else 1
def aq_mills (n : Nat) (Q : aq_Q) : Int32 := aq_sum (aq_mill1 Q) n 0 0
def aq_over (n f : Nat) (Q : aq_Q) : Int32 := aq_sum (Q f) n 0 0
def aq_top (n : Nat) (Q : aq_Q) : Int32 := if n = 0 then 200 else Q 0 (n - 1)
def aq_addQ (n : Nat) (Q : aq_Q) (h z : Int32) : aq_Q := aq_up (aq_up (aq_up Q 0 n h) 1 n z) 10 3 (nI (n + 1))
def aq_sizeR (Q : aq_Q) (o : Int32) : Int32 := aq_mx 0 (Q 10 7 - o)
def aq_size1 (Q : aq_Q) (o : Int32) : aq_Q := aq_up (aq_up Q 10 6 o) 10 7 (aq_up Q 10 6 o 10 7 - aq_sizeR Q o)
def aq_sizeQ (Q : aq_Q) (o : Int32) : aq_Q := aq_up (aq_size1 Q o) 10 9 (aq_size1 Q o 10 9 + aq_sizeR Q o)
def aq_archNo (n : Nat) (Q : aq_Q) (i w : Nat) : Int32 := match w with | 0 => Q 0 i | 1 => Q 1 i | 2 => Q 2 i | 3 => Q 3 i | 4 => Q 4 i | 5 => aq_slope n Q i | 6 => aq_rate n Q i | 7 => Q 5 i | _ => if aq_hasMill Q i = 0 then 0 else 1
def aq_countNo (n : Nat) (Q : aq_Q) (w : Nat) : Int32 := match w with | 0 => Q 10 4 | 1 => nI n | 2 => aq_mills n Q | 3 => Q 10 5 | 4 => Q 10 7 | 5 => aq_over n 2 Q | 6 => Q 10 8 | 7 => Q 10 9 | 8 => aq_over n 5 Q | 9 => Q 10 10 | 10 => Q 10 11 | _ => Q 10 12
/-- the copy of the aqueduct 0 in the aqueduct 1 -/
def aq_cpA (Q0 Q1 : aq_Q) (i : Nat) : aq_Q := aq_up (aq_up (aq_up (aq_up (aq_up (aq_up (aq_up (aq_up (aq_up (aq_up Q1 0 i (Q0 0 i)) 1 i (Q0 1 i)) 2 i (Q0 2 i)) 3 i (Q0 3 i)) 4 i (Q0 4 i)) 5 i (Q0 5 i)) 6 i (Q0 6 i)) 7 i (Q0 7 i)) 8 i (Q0 8 i)) 9 i (Q0 9 i)
def aq_cpAll (Q0 : aq_Q) : Nat → Nat → aq_Q → aq_Q | 0, _, Q => Q | k + 1, i, Q => aq_cpAll Q0 k (i + 1) (aq_cpA Q0 Q i)
def aq_cpS (n : Nat) (Q0 Q1 : aq_Q) : aq_Q := aq_up (aq_up (aq_up (aq_up (aq_up (aq_up (aq_up (aq_up (aq_up (aq_up Q1 10 3 (nI n)) 10 4 (Q0 10 4)) 10 5 (Q0 10 5)) 10 6 (Q0 10 6)) 10 7 (Q0 10 7)) 10 8 (Q0 10 8)) 10 9 (Q0 10 9)) 10 10 (Q0 10 10)) 10 11 (Q0 10 11)) 10 12 (Q0 10 12)
def aq_cpQ (n : Nat) (Q0 Q1 : aq_Q) : aq_Q := aq_cpS n Q0 (aq_cpAll Q0 n 0 Q1)
/-! the hour stays, but at an hour's end -/
theorem aq_fillQ_h (Q : aq_Q) (i : Nat) (o : Int32) : aq_fillQ Q i o 10 4 = Q 10 4 := aq_up_f _ _ (by decide)
theorem aq_leadQ_h (Q : aq_Q) (i : Nat) (o : Int32) : aq_leadQ Q i o 10 4 = Q 10 4 := (aq_up_f _ _ (by decide)).trans (aq_up_f _ _ (by decide))
theorem aq_grindQ_h (Q : aq_Q) (i : Nat) : aq_grindQ Q i 10 4 = Q 10 4 := aq_up_f _ _ (by decide)
theorem aq_leakQ_h (Q : aq_Q) (i : Nat) : aq_leakQ Q i 10 4 = Q 10 4 := (aq_up_f _ _ (by decide)).trans ((aq_up_f _ _ (by decide)).trans ((aq_up_f _ _ (by decide)).trans (aq_up_f _ _ (by decide))))
theorem aq_wearByQ_h (Q : aq_Q) (i : Nat) (o : Int32) : aq_wearByQ Q i o 10 4 = Q 10 4 := aq_up_f _ _ (by decide)
theorem aq_wearDayQ_h (Q : aq_Q) (i : Nat) : aq_wearDayQ Q i 10 4 = Q 10 4 := by
  unfold aq_wearDayQ
  split
  · rfl
  · split
    · exact aq_wearByQ_h _ _ _
    · exact aq_wearByQ_h _ _ _
theorem aq_pourQ_h (n : Nat) (Q : aq_Q) (a : Nat) (w : Int32) : aq_pourQ n Q a w 10 4 = Q 10 4 := by
  unfold aq_pourQ
  split
  · exact aq_fillQ_h _ _ _
  · exact aq_up_i _ _ (by decide)
theorem aq_sendQ_h (n : Nat) (Q : aq_Q) (i : Nat) : aq_sendQ n Q i 10 4 = Q 10 4 := (aq_up_f _ _ (by decide)).trans ((aq_pourQ_h _ _ _ _).trans (aq_leadQ_h _ _ _))
theorem aq_grindAtQ_h (n : Nat) (Q : aq_Q) (i : Nat) : aq_grindAtQ n Q i 10 4 = Q 10 4 := (aq_up_i _ _ (by decide)).trans ((aq_up_i _ _ (by decide)).trans ((aq_pourQ_h _ _ _ _).trans ((aq_up_i _ _ (by decide)).trans (aq_grindQ_h _ _))))
theorem aq_drinkQ_h (Q : aq_Q) (w : Int32) : aq_drinkQ Q w 10 4 = Q 10 4 := (aq_up_i _ _ (by decide)).trans ((aq_up_i _ _ (by decide)).trans (aq_up_i _ _ (by decide)))
theorem aq_springQ_h (n : Nat) (Q : aq_Q) (w : Int32) : aq_springQ n Q w 10 4 = Q 10 4 := by
  unfold aq_springQ
  split
  · exact (aq_up_i _ _ (by decide)).trans (aq_up_i _ _ (by decide))
  · exact (aq_up_i _ _ (by decide)).trans ((aq_fillQ_h _ _ _).trans (aq_up_i _ _ (by decide)))
theorem aq_sendAll_h (n : Nat) : ∀ (i : Nat) (Q : aq_Q), aq_sendAll n i Q 10 4 = Q 10 4 | 0, _ => rfl | i + 1, Q => (aq_sendAll_h n i _).trans (aq_sendQ_h _ _ _)
theorem aq_grindAll_h (n : Nat) : ∀ (k i : Nat) (Q : aq_Q), aq_grindAll n k i Q 10 4 = Q 10 4 | 0, _, _ => rfl | k + 1, i, Q => (aq_grindAll_h n k _ _).trans (aq_grindAtQ_h _ _ _)
theorem aq_leakAll_h : ∀ (k i : Nat) (Q : aq_Q), aq_leakAll k i Q 10 4 = Q 10 4 | 0, _, _ => rfl | k + 1, i, Q => (aq_leakAll_h k _ _).trans (aq_leakQ_h _ _)
theorem aq_wearAll_h : ∀ (k i : Nat) (Q : aq_Q), aq_wearAll k i Q 10 4 = Q 10 4 | 0, _, _ => rfl | k + 1, i, Q => (aq_wearAll_h k _ _).trans (aq_wearDayQ_h _ _)
theorem aq_hour6_h (n : Nat) (T : aq_Q) (d : Nat) (Q : aq_Q) : aq_hour6 n T d Q 10 4 = Q 10 4 := by
  have h5 : aq_hour5 n T d Q 10 4 = Q 10 4 := (aq_leakAll_h _ _ _).trans ((aq_springQ_h _ _ _).trans ((aq_grindAll_h _ _ _ _).trans ((aq_sendAll_h _ _ _).trans (aq_drinkQ_h _ _))))
  unfold aq_hour6
  split
  · exact (aq_wearAll_h _ _ _).trans h5
  · exact h5
theorem aq_hourD_h (n : Nat) (T : aq_Q) (d : Nat) (Q : aq_Q) : aq_hourD n T d Q 10 4 = Q 10 4 + 1 := by
  unfold aq_hourD
  rw [aq_up_s, aq_hour6_h]
theorem aq_hourD_n (n : Nat) (T : aq_Q) (d : Nat) (Q : aq_Q) : aq_hourD n T d Q 10 3 = Q 10 3 := by
  have h5 : aq_hour5 n T d Q 10 3 = Q 10 3 := (aq_leakAll_n _ _ _).trans ((aq_springQ_n _ _ _).trans ((aq_grindAll_n _ _ _ _).trans ((aq_sendAll_n _ _ _).trans (aq_drinkQ_n _ _))))
  unfold aq_hourD
  rw [aq_up_i _ _ (show (3 : Nat) ≠ 4 by decide)]
  unfold aq_hour6
  split
  · exact (aq_wearAll_n _ _ _).trans h5
  · exact h5
theorem aq_hourQ_eq {n h : Nat} {T Q : aq_Q} (hh : Q 10 4 = nI h) (h31 : h < 2 ^ 31) : aq_hourQ n T Q = aq_hourD n T (h % 24) Q := by
  unfold aq_hourQ aq_day
  rw [hh, nI_clamp h31]
theorem aq_cpA_n (Q0 Q1 : aq_Q) (i : Nat) : aq_cpA Q0 Q1 i 10 3 = Q1 10 3 := by
  unfold aq_cpA
  rw [aq_up_f _ _ (by decide), aq_up_f _ _ (by decide), aq_up_f _ _ (by decide), aq_up_f _ _ (by decide), aq_up_f _ _ (by decide), aq_up_f _ _ (by decide), aq_up_f _ _ (by decide), aq_up_f _ _ (by decide), aq_up_f _ _ (by decide), aq_up_f _ _ (by decide)]
theorem aq_xor24 {h : Nat} (h31 : h < 2 ^ 31) : 0 ≤ (nI h ^^^ (24 : Int32)) := by
  have e : nI h ^^^ (24 : Int32) = nI (h ^^^ 24) := by
    show Int32.ofNat h ^^^ Int32.ofNat 24 = Int32.ofNat (h ^^^ 24)
    apply Int32.toBitVec_inj.mp
    simp [Int32.toBitVec_xor]
  rw [e]
  exact nI_pos' (Nat.xor_lt_two_pow (n := 31) h31 (by decide))
end
section
theorem in_X1_hasMill_X1 : ∀ w ∈ wsX10, w ∈ wsX1_hasMill := fun _ h => List.mem_cons_of_mem _ (List.mem_append_right _ h)
set_option maxHeartbeats 4000000 in
set_option maxRecDepth 100000 in
/-- Arch.hasMill -/
theorem c_X1_hasMill (l : Launch) {D : va_G} {ad : Nat → Nat} {cI cQ : ClassId} (hJ : aq_J 49 ad) {V : aq_V} {Q : aq_Q} {j i : Nat} (hj : j < 2) (hi : i < 20) : aq_Met l yX1_hasMill wsX1_hasMill ({ frames := 0, cells := 0, slots := 0, locals := 0 }) D (aC_t cI cQ) 49 ad [.ref (ad (7 + 20 * j + i))] (aC_w ad cI cQ (aq_ug V j Q)) (aq_Qi D (aC_t cI cQ) 49 ad (aq_hasMill Q i) (aC_w ad cI cQ (aq_ug V j Q))) 0 0 := by
  refine aq_enter (cc := cX1_hasMill) (maxL := 1) (ret := some .boolean) (by decide) rfl (Nat.le_of_ble_eq_true rfl) ?_
  intro p e s m below meth c ls S hr hlocks hnm I hl
  have S : CallFix p m c cX1_hasMill 1 s _ wsX1_hasMill RX1 := S
  have hl : lv_has ls 1 [(0, .ref (ad (7 + 20 * j + i)))] := hl
  refine lv_aload_n S.1 S.2.1 dX1_hasMill_0 rfl (lv_at hl 0 rfl) ?_
  refine aC_getA (j := j) (i := i) (x := Q 6 i) S I hj (by omega) 6 (by decide) in_X1_hasMill_X1 (List.mem_of_getElem? (i := 1) rfl) (by rw [aq_ug_s]) dX1_hasMill_1 ?_
  refine lv_if_le (tgt := 11) S.1 S.2.1 dX1_hasMill_4 (by decide) (fun c1 => ?_) (fun c1 => ?_)
  · refine lv_iconst (v := 0) S.1 S.2.1 dX1_hasMill_11 (by decide) ?_
    exact aq_zret S.1 S.2.1 hr hlocks I dX1_hasMill_12 (by decide) (by decide) (by decide) (by subst_vars; first | rfl | (simp only [aq_hasMill, if_pos c1]; done) | (simp only [aq_hasMill, if_pos c1]; rfl)) (by subst_vars; first | rfl | (simp only [aq_hasMill, if_pos c1]; done) | (simp only [aq_hasMill, if_pos c1]; rfl))
  · refine lv_iconst (v := 1) S.1 S.2.1 dX1_hasMill_7 (by decide) ?_
    refine lv_goto (tgt := 12) S.1 S.2.1 dX1_hasMill_8 (by decide) ?_
    exact aq_zret S.1 S.2.1 hr hlocks I dX1_hasMill_12 (by decide) (by decide) (by decide) (by subst_vars; first | rfl | (simp only [aq_hasMill, if_neg c1]; done) | (simp only [aq_hasMill, if_neg c1]; rfl)) (by subst_vars; first | rfl | (simp only [aq_hasMill, if_neg c1]; done) | (simp only [aq_hasMill, if_neg c1]; rfl))
theorem in_X1_hasOpenSluice_X1 : ∀ w ∈ wsX10, w ∈ wsX1_hasOpenSluice := fun _ h => List.mem_cons_of_mem _ (List.mem_append_right _ h)
set_option maxHeartbeats 4000000 in
set_option maxRecDepth 100000 in
/-- Arch.hasOpenSluice -/
theorem c_X1_hasOpenSluice (l : Launch) {D : va_G} {ad : Nat → Nat} {cI cQ : ClassId} (hJ : aq_J 49 ad) {V : aq_V} {Q : aq_Q} {j i : Nat} (hj : j < 2) (hi : i < 20) : aq_Met l yX1_hasOpenSluice wsX1_hasOpenSluice ({ frames := 1, cells := 0, slots := 0, locals := 20 }) D (aC_t cI cQ) 49 ad [.ref (ad (7 + 20 * j + i))] (aC_w ad cI cQ (aq_ug V j Q)) (aq_Qi D (aC_t cI cQ) 49 ad (aq_hasOpen Q i) (aC_w ad cI cQ (aq_ug V j Q))) 0 0 := by
  refine aq_enter (cc := cX1_hasOpenSluice) (maxL := 1) (ret := some .boolean) (by decide) rfl (Nat.le_of_ble_eq_true rfl) ?_
  intro p e s m below meth c ls S hr hlocks hnm I hl
  have S : CallFix p m c cX1_hasOpenSluice 1 s _ wsX1_hasOpenSluice RX1 := S
  have hl : lv_has ls 1 [(0, .ref (ad (7 + 20 * j + i)))] := hl
  refine lv_aload_n S.1 S.2.1 dX1_hasOpenSluice_0 rfl (lv_at hl 0 rfl) ?_
  refine aq_callVi (As := []) (rest := []) S (c_X1_hasMill l hJ (V := V) (Q := Q) (j := j) (i := i) hj (by omega) ) (cwV 0 S.2.2.2.2 gX1_hasOpenSluice_X1_hasMill rfl rfl rfl (by decide +kernel) ⟨Nat.le_of_ble_eq_true rfl, Nat.le_of_ble_eq_true rfl⟩) (aC_recvA (j := j) (i := i) I hj (by omega)) I hl.1 dX1_hasOpenSluice_1 rfl rfl (Nat.le_of_ble_eq_true rfl) ⟨by first | decide | (dsimp only; omega), by first | decide | (dsimp only; omega)⟩ (fun H locs I => ?_)
  refine lv_if_eq (tgt := 18) S.1 S.2.1 dX1_hasOpenSluice_4 (by decide) (fun c1 => ?_) (fun c1 => ?_)
  · refine lv_iconst (v := 0) S.1 S.2.1 dX1_hasOpenSluice_18 (by decide) ?_
    exact aq_zret S.1 S.2.1 hr hlocks I dX1_hasOpenSluice_19 (by decide) (by decide) (by decide) (by subst_vars; first | rfl | (simp only [aq_hasOpen, if_pos c1]; done) | (simp only [aq_hasOpen, if_pos c1]; rfl)) (by subst_vars; first | rfl | (simp only [aq_hasOpen, if_pos c1]; done) | (simp only [aq_hasOpen, if_pos c1]; rfl))
  · refine lv_aload_n S.1 S.2.1 dX1_hasOpenSluice_7 rfl (lv_at hl 0 rfl) ?_
    refine aC_getA (j := j) (i := i) (x := Q 7 i) S I hj (by omega) 7 (by decide) in_X1_hasOpenSluice_X1 (List.mem_of_getElem? (i := 1) rfl) (by rw [aq_ug_s]) dX1_hasOpenSluice_8 ?_
    refine lv_if_le (tgt := 18) S.1 S.2.1 dX1_hasOpenSluice_11 (by decide) (fun c2 => ?_) (fun c2 => ?_)
    · refine lv_iconst (v := 0) S.1 S.2.1 dX1_hasOpenSluice_18 (by decide) ?_
      exact aq_zret S.1 S.2.1 hr hlocks I dX1_hasOpenSluice_19 (by decide) (by decide) (by decide) (by subst_vars; first | rfl | (simp only [aq_hasOpen, if_neg c1, if_pos c2]; done) | (simp only [aq_hasOpen, if_neg c1, if_pos c2]; rfl)) (by subst_vars; first | rfl | (simp only [aq_hasOpen, if_neg c1, if_pos c2]; done) | (simp only [aq_hasOpen, if_neg c1, if_pos c2]; rfl))
    · refine lv_iconst (v := 1) S.1 S.2.1 dX1_hasOpenSluice_14 (by decide) ?_
      refine lv_goto (tgt := 19) S.1 S.2.1 dX1_hasOpenSluice_15 (by decide) ?_
      exact aq_zret S.1 S.2.1 hr hlocks I dX1_hasOpenSluice_19 (by decide) (by decide) (by decide) (by subst_vars; first | rfl | (simp only [aq_hasOpen, if_neg c1, if_neg c2]; done) | (simp only [aq_hasOpen, if_neg c1, if_neg c2]; rfl)) (by subst_vars; first | rfl | (simp only [aq_hasOpen, if_neg c1, if_neg c2]; done) | (simp only [aq_hasOpen, if_neg c1, if_neg c2]; rfl))
theorem in_X1_fill_X1 : ∀ w ∈ wsX10, w ∈ wsX1_fill := fun _ h => List.mem_cons_of_mem _ (List.mem_append_right _ h)
set_option maxHeartbeats 4000000 in
set_option maxRecDepth 100000 in
/-- X1_fill -/
theorem c_X1_fill (l : Launch) {D : va_G} {ad : Nat → Nat} {cI cQ : ClassId} (hJ : aq_J 49 ad) {V : aq_V} {Q : aq_Q} {j i : Nat} (hj : j < 2) (hi : i < 20) (o : Int32) : aq_Met l yX1_fill wsX1_fill ({ frames := 1, cells := 0, slots := 0, locals := 21 }) D (aC_t cI cQ) 49 ad [.ref (ad (7 + 20 * j + i)), .int o] (aC_w ad cI cQ (aq_ug V j Q)) (aq_Qi D (aC_t cI cQ) 49 ad (aq_fillR Q i o) (aC_w ad cI cQ (aq_ug V j (aq_fillQ Q i o)))) 0 0 := by
  refine aq_enter (cc := cX1_fill) (maxL := 3) (ret := some .int) (by decide) rfl (Nat.le_of_ble_eq_true rfl) ?_
  intro p e s m below meth c ls S hr hlocks hnm I hl
  have S : CallFix p m c cX1_fill 3 s _ wsX1_fill RX1 := S
  have hl : lv_has ls 3 [(0, .ref (ad (7 + 20 * j + i))), (1, .int o)] := hl
  refine lv_iload_n S.1 S.2.1 dX1_fill_0 rfl (lv_at hl 1 rfl) ?_
  refine lv_aload_n S.1 S.2.1 dX1_fill_1 rfl (lv_at hl 0 rfl) ?_
  refine aC_getA (j := j) (i := i) (x := Q 1 i) S I hj (by omega) 1 (by decide) in_X1_fill_X1 (List.mem_of_getElem? (i := 1) rfl) (by rw [aq_ug_s]) dX1_fill_2 ?_
  refine lv_aload_n S.1 S.2.1 dX1_fill_5 rfl (lv_at hl 0 rfl) ?_
  refine aC_getA (j := j) (i := i) (x := Q 2 i) S I hj (by omega) 2 (by decide) in_X1_fill_X1 (List.mem_of_getElem? (i := 2) rfl) (by rw [aq_ug_s]) dX1_fill_6 ?_
  refine lv_isub S.1 S.2.1 dX1_fill_9 ?_
  refine aq_mmin S hl.1 (List.mem_of_getElem? (i := 3) rfl) (List.mem_of_getElem? (i := 4) rfl) (List.mem_of_getElem? (i := 5) rfl) (List.mem_of_getElem? (i := 6) rfl) (by decide) (Nat.le_of_ble_eq_true rfl) (by decide) (by decide) dX1_fill_10 ?_
  refine lv_istore_n (lv' := [(2, .int (aq_mn o (Q 1 i - Q 2 i))), (0, .ref (ad (7 + 20 * j + i))), (1, .int o)]) S.1 S.2.1 dX1_fill_13 rfl hl (by decide) rfl (fun ls hl => ?_)
  refine lv_aload_n S.1 S.2.1 dX1_fill_14 rfl (lv_at hl 1 rfl) ?_
  refine lv_dup S.1 S.2.1 dX1_fill_15 rfl ?_
  refine aC_getA (j := j) (i := i) (x := Q 2 i) S I hj (by omega) 2 (by decide) in_X1_fill_X1 (List.mem_of_getElem? (i := 2) rfl) (by rw [aq_ug_s]) dX1_fill_16 ?_
  refine lv_iload_n S.1 S.2.1 dX1_fill_19 rfl (lv_at hl 0 rfl) ?_
  refine lv_iadd S.1 S.2.1 dX1_fill_20 ?_
  refine lv_topi (fun x1 (ex1 : x1 = Q 2 i + (aq_mn o (Q 1 i - Q 2 i))) => ?_)
  refine aC_putA (V := V) (Q := Q) (j := j) (i := i) (x := x1) hJ S I hj (by omega) 2 (by decide) in_X1_fill_X1 (List.mem_of_getElem? (i := 2) rfl) dX1_fill_21 (fun H locs M2 hM2 I => ?_)
  refine lv_iload_n S.1 S.2.1 dX1_fill_24 rfl (lv_at hl 0 rfl) ?_
  exact aq_iret S.1 S.2.1 hr hlocks I dX1_fill_25 (by decide) (by decide) (by subst_vars; rfl) (by subst_vars; rfl)
theorem in_X1_leadToMill_X1 : ∀ w ∈ wsX10, w ∈ wsX1_leadToMill := fun _ h => List.mem_cons_of_mem _ (List.mem_append_right _ h)
set_option maxHeartbeats 4000000 in
set_option maxRecDepth 100000 in
/-- X1_leadToMill -/
theorem c_X1_leadToMill (l : Launch) {D : va_G} {ad : Nat → Nat} {cI cQ : ClassId} (hJ : aq_J 49 ad) {V : aq_V} {Q : aq_Q} {j i : Nat} (hj : j < 2) (hi : i < 20) (o : Int32) : aq_Met l yX1_leadToMill wsX1_leadToMill ({ frames := 1, cells := 0, slots := 0, locals := 21 }) D (aC_t cI cQ) 49 ad [.ref (ad (7 + 20 * j + i)), .int o] (aC_w ad cI cQ (aq_ug V j Q)) (aq_Qi D (aC_t cI cQ) 49 ad (aq_leadR Q i o) (aC_w ad cI cQ (aq_ug V j (aq_leadQ Q i o)))) 0 0 := by
  refine aq_enter (cc := cX1_leadToMill) (maxL := 2) (ret := some .int) (by decide) rfl (Nat.le_of_ble_eq_true rfl) ?_
  intro p e s m below meth c ls S hr hlocks hnm I hl
  have S : CallFix p m c cX1_leadToMill 2 s _ wsX1_leadToMill RX1 := S
  have hl : lv_has ls 2 [(0, .ref (ad (7 + 20 * j + i))), (1, .int o)] := hl
  refine lv_aload_n S.1 S.2.1 dX1_leadToMill_0 rfl (lv_at hl 0 rfl) ?_
  refine lv_iload_n S.1 S.2.1 dX1_leadToMill_1 rfl (lv_at hl 1 rfl) ?_
  refine lv_aload_n S.1 S.2.1 dX1_leadToMill_2 rfl (lv_at hl 0 rfl) ?_
  refine aC_getA (j := j) (i := i) (x := Q 7 i) S I hj (by omega) 7 (by decide) in_X1_leadToMill_X1 (List.mem_of_getElem? (i := 1) rfl) (by rw [aq_ug_s]) dX1_leadToMill_3 ?_
  refine lv_imul S.1 S.2.1 dX1_leadToMill_6 ?_
  refine lv_bipush (v := 10) S.1 S.2.1 dX1_leadToMill_7 (by decide) ?_
  refine lv_idiv S.1 S.2.1 dX1_leadToMill_9 (by decide) ?_
  refine lv_aload_n S.1 S.2.1 dX1_leadToMill_10 rfl (lv_at hl 0 rfl) ?_
  refine aC_getA (j := j) (i := i) (x := Q 6 i) S I hj (by omega) 6 (by decide) in_X1_leadToMill_X1 (List.mem_of_getElem? (i := 2) rfl) (by rw [aq_ug_s]) dX1_leadToMill_11 ?_
  refine aq_mmin S hl.1 (List.mem_of_getElem? (i := 3) rfl) (List.mem_of_getElem? (i := 4) rfl) (List.mem_of_getElem? (i := 5) rfl) (List.mem_of_getElem? (i := 6) rfl) (by decide) (Nat.le_of_ble_eq_true rfl) (by decide) (by decide) dX1_leadToMill_14 ?_
  refine lv_topi (fun x1 (ex1 : x1 = aq_mn ((o * Q 7 i) / 10) (Q 6 i)) => ?_)
  refine aC_putA (V := V) (Q := Q) (j := j) (i := i) (x := x1) hJ S I hj (by omega) 9 (by decide) in_X1_leadToMill_X1 (List.mem_of_getElem? (i := 7) rfl) dX1_leadToMill_17 (fun H locs M2 hM2 I => ?_)
  refine lv_aload_n S.1 S.2.1 dX1_leadToMill_20 rfl (lv_at hl 0 rfl) ?_
  refine lv_dup S.1 S.2.1 dX1_leadToMill_21 rfl ?_
  refine aC_getA (j := j) (i := i) (x := M2 2 i) S I hj (by omega) 2 (by decide) in_X1_leadToMill_X1 (List.mem_of_getElem? (i := 8) rfl) (by rw [aq_ug_s]) dX1_leadToMill_22 ?_
  refine lv_aload_n S.1 S.2.1 dX1_leadToMill_25 rfl (lv_at hl 0 rfl) ?_
  refine aC_getA (j := j) (i := i) (x := M2 9 i) S I hj (by omega) 9 (by decide) in_X1_leadToMill_X1 (List.mem_of_getElem? (i := 7) rfl) (by rw [aq_ug_s]) dX1_leadToMill_26 ?_
  refine lv_isub S.1 S.2.1 dX1_leadToMill_29 ?_
  refine aC_putA (V := V) (Q := M2) (j := j) (i := i) (x := M2 2 i - M2 9 i) hJ S I hj (by omega) 2 (by decide) in_X1_leadToMill_X1 (List.mem_of_getElem? (i := 8) rfl) dX1_leadToMill_30 (fun H locs M3 hM3 I => ?_)
  refine lv_iload_n S.1 S.2.1 dX1_leadToMill_33 rfl (lv_at hl 1 rfl) ?_
  refine lv_aload_n S.1 S.2.1 dX1_leadToMill_34 rfl (lv_at hl 0 rfl) ?_
  refine aC_getA (j := j) (i := i) (x := M3 9 i) S I hj (by omega) 9 (by decide) in_X1_leadToMill_X1 (List.mem_of_getElem? (i := 7) rfl) (by rw [aq_ug_s]) dX1_leadToMill_35 ?_
  refine lv_isub S.1 S.2.1 dX1_leadToMill_38 ?_
  exact aq_iret S.1 S.2.1 hr hlocks I dX1_leadToMill_39 (by decide) (by decide) (by subst_vars; rfl) (by subst_vars; rfl)
theorem in_X1_grind_X1 : ∀ w ∈ wsX10, w ∈ wsX1_grind := fun _ h => List.mem_cons_of_mem _ (List.mem_append_right _ h)
set_option maxHeartbeats 4000000 in
set_option maxRecDepth 100000 in
/-- X1_grind -/
theorem c_X1_grind (l : Launch) {D : va_G} {ad : Nat → Nat} {cI cQ : ClassId} (hJ : aq_J 49 ad) {V : aq_V} {Q : aq_Q} {j i : Nat} (hj : j < 2) (hi : i < 20) : aq_Met l yX1_grind wsX1_grind ({ frames := 0, cells := 0, slots := 0, locals := 0 }) D (aC_t cI cQ) 49 ad [.ref (ad (7 + 20 * j + i))] (aC_w ad cI cQ (aq_ug V j Q)) (aq_Qi D (aC_t cI cQ) 49 ad (aq_grindR Q i) (aC_w ad cI cQ (aq_ug V j (aq_grindQ Q i)))) 0 0 := by
  refine aq_enter (cc := cX1_grind) (maxL := 2) (ret := some .int) (by decide) rfl (Nat.le_of_ble_eq_true rfl) ?_
  intro p e s m below meth c ls S hr hlocks hnm I hl
  have S : CallFix p m c cX1_grind 2 s _ wsX1_grind RX1 := S
  have hl : lv_has ls 2 [(0, .ref (ad (7 + 20 * j + i)))] := hl
  refine lv_aload_n S.1 S.2.1 dX1_grind_0 rfl (lv_at hl 0 rfl) ?_
  refine aC_getA (j := j) (i := i) (x := Q 8 i) S I hj (by omega) 8 (by decide) in_X1_grind_X1 (List.mem_of_getElem? (i := 1) rfl) (by rw [aq_ug_s]) dX1_grind_1 ?_
  refine lv_bipush (v := 10) S.1 S.2.1 dX1_grind_4 (by decide) ?_
  refine lv_idiv S.1 S.2.1 dX1_grind_6 (by decide) ?_
  refine lv_istore_n (lv' := [(1, .int (Q 8 i / 10)), (0, .ref (ad (7 + 20 * j + i)))]) S.1 S.2.1 dX1_grind_7 rfl hl (by decide) rfl (fun ls hl => ?_)
  refine lv_aload_n S.1 S.2.1 dX1_grind_8 rfl (lv_at hl 1 rfl) ?_
  refine lv_dup S.1 S.2.1 dX1_grind_9 rfl ?_
  refine aC_getA (j := j) (i := i) (x := Q 8 i) S I hj (by omega) 8 (by decide) in_X1_grind_X1 (List.mem_of_getElem? (i := 1) rfl) (by rw [aq_ug_s]) dX1_grind_10 ?_
  refine lv_aload_n S.1 S.2.1 dX1_grind_13 rfl (lv_at hl 1 rfl) ?_
  refine aC_getA (j := j) (i := i) (x := Q 9 i) S I hj (by omega) 9 (by decide) in_X1_grind_X1 (List.mem_of_getElem? (i := 2) rfl) (by rw [aq_ug_s]) dX1_grind_14 ?_
  refine lv_iadd S.1 S.2.1 dX1_grind_17 ?_
  refine aC_putA (V := V) (Q := Q) (j := j) (i := i) (x := Q 8 i + Q 9 i) hJ S I hj (by omega) 8 (by decide) in_X1_grind_X1 (List.mem_of_getElem? (i := 1) rfl) dX1_grind_18 (fun H locs M1 hM1 I => ?_)
  refine lv_aload_n S.1 S.2.1 dX1_grind_21 rfl (lv_at hl 1 rfl) ?_
  refine aC_getA (j := j) (i := i) (x := M1 8 i) S I hj (by omega) 8 (by decide) in_X1_grind_X1 (List.mem_of_getElem? (i := 1) rfl) (by rw [aq_ug_s]) dX1_grind_22 ?_
  refine lv_bipush (v := 10) S.1 S.2.1 dX1_grind_25 (by decide) ?_
  refine lv_idiv S.1 S.2.1 dX1_grind_27 (by decide) ?_
  refine lv_iload_n S.1 S.2.1 dX1_grind_28 rfl (lv_at hl 0 rfl) ?_
  refine lv_isub S.1 S.2.1 dX1_grind_29 ?_
  exact aq_iret S.1 S.2.1 hr hlocks I dX1_grind_30 (by decide) (by decide) (by subst_vars; rfl) (by subst_vars; rfl)
theorem in_X1_leak_X1 : ∀ w ∈ wsX10, w ∈ wsX1_leak := fun _ h => List.mem_cons_of_mem _ (List.mem_append_right _ h)
set_option maxHeartbeats 4000000 in
set_option maxRecDepth 100000 in
/-- X1_leak -/
theorem c_X1_leak (l : Launch) {D : va_G} {ad : Nat → Nat} {cI cQ : ClassId} (hJ : aq_J 49 ad) {V : aq_V} {Q : aq_Q} {j i : Nat} (hj : j < 2) (hi : i < 20) : aq_Met l yX1_leak wsX1_leak ({ frames := 1, cells := 0, slots := 0, locals := 21 }) D (aC_t cI cQ) 49 ad [.ref (ad (7 + 20 * j + i))] (aC_w ad cI cQ (aq_ug V j Q)) (aq_Qv D (aC_t cI cQ) 49 ad (aC_w ad cI cQ (aq_ug V j (aq_leakQ Q i)))) 0 0 := by
  refine aq_enter (cc := cX1_leak) (maxL := 2) (ret := none) (by decide) rfl (Nat.le_of_ble_eq_true rfl) ?_
  intro p e s m below meth c ls S hr hlocks hnm I hl
  have S : CallFix p m c cX1_leak 2 s _ wsX1_leak RX1 := S
  have hl : lv_has ls 2 [(0, .ref (ad (7 + 20 * j + i)))] := hl
  refine lv_aload_n S.1 S.2.1 dX1_leak_0 rfl (lv_at hl 0 rfl) ?_
  refine lv_dup S.1 S.2.1 dX1_leak_1 rfl ?_
  refine aC_getA (j := j) (i := i) (x := Q 4 i) S I hj (by omega) 4 (by decide) in_X1_leak_X1 (List.mem_of_getElem? (i := 1) rfl) (by rw [aq_ug_s]) dX1_leak_2 ?_
  refine lv_aload_n S.1 S.2.1 dX1_leak_5 rfl (lv_at hl 0 rfl) ?_
  refine aC_getA (j := j) (i := i) (x := Q 2 i) S I hj (by omega) 2 (by decide) in_X1_leak_X1 (List.mem_of_getElem? (i := 2) rfl) (by rw [aq_ug_s]) dX1_leak_6 ?_
  refine lv_aload_n S.1 S.2.1 dX1_leak_9 rfl (lv_at hl 0 rfl) ?_
  refine aC_getA (j := j) (i := i) (x := Q 3 i) S I hj (by omega) 3 (by decide) in_X1_leak_X1 (List.mem_of_getElem? (i := 3) rfl) (by rw [aq_ug_s]) dX1_leak_10 ?_
  refine lv_imul S.1 S.2.1 dX1_leak_13 ?_
  refine lv_bipush (v := 10) S.1 S.2.1 dX1_leak_14 (by decide) ?_
  refine lv_idiv S.1 S.2.1 dX1_leak_16 (by decide) ?_
  refine lv_iadd S.1 S.2.1 dX1_leak_17 ?_
  refine lv_topi (fun x1 (ex1 : x1 = Q 4 i + ((Q 2 i * Q 3 i) / 10)) => ?_)
  refine aC_putA (V := V) (Q := Q) (j := j) (i := i) (x := x1) hJ S I hj (by omega) 4 (by decide) in_X1_leak_X1 (List.mem_of_getElem? (i := 1) rfl) dX1_leak_18 (fun H locs M2 hM2 I => ?_)
  refine lv_aload_n S.1 S.2.1 dX1_leak_21 rfl (lv_at hl 0 rfl) ?_
  refine aC_getA (j := j) (i := i) (x := M2 4 i) S I hj (by omega) 4 (by decide) in_X1_leak_X1 (List.mem_of_getElem? (i := 1) rfl) (by rw [aq_ug_s]) dX1_leak_22 ?_
  refine lv_bipush (v := 10) S.1 S.2.1 dX1_leak_25 (by decide) ?_
  refine lv_idiv S.1 S.2.1 dX1_leak_27 (by decide) ?_
  refine lv_aload_n S.1 S.2.1 dX1_leak_28 rfl (lv_at hl 0 rfl) ?_
  refine aC_getA (j := j) (i := i) (x := M2 2 i) S I hj (by omega) 2 (by decide) in_X1_leak_X1 (List.mem_of_getElem? (i := 2) rfl) (by rw [aq_ug_s]) dX1_leak_29 ?_
  refine aq_mmin S hl.1 (List.mem_of_getElem? (i := 4) rfl) (List.mem_of_getElem? (i := 5) rfl) (List.mem_of_getElem? (i := 6) rfl) (List.mem_of_getElem? (i := 7) rfl) (by decide) (Nat.le_of_ble_eq_true rfl) (by decide) (by decide) dX1_leak_32 ?_
  refine lv_istore_n (lv' := [(1, .int (aq_mn (M2 4 i / 10) (M2 2 i))), (0, .ref (ad (7 + 20 * j + i)))]) S.1 S.2.1 dX1_leak_35 rfl hl (by decide) rfl (fun ls hl => ?_)
  refine lv_aload_n S.1 S.2.1 dX1_leak_36 rfl (lv_at hl 1 rfl) ?_
  refine lv_dup S.1 S.2.1 dX1_leak_37 rfl ?_
  refine aC_getA (j := j) (i := i) (x := M2 4 i) S I hj (by omega) 4 (by decide) in_X1_leak_X1 (List.mem_of_getElem? (i := 1) rfl) (by rw [aq_ug_s]) dX1_leak_38 ?_
  refine lv_bipush (v := 10) S.1 S.2.1 dX1_leak_41 (by decide) ?_
  refine lv_irem S.1 S.2.1 dX1_leak_43 (by decide) ?_
  refine aC_putA (V := V) (Q := M2) (j := j) (i := i) (x := M2 4 i - M2 4 i / 10 * 10) hJ S I hj (by omega) 4 (by decide) in_X1_leak_X1 (List.mem_of_getElem? (i := 1) rfl) dX1_leak_44 (fun H locs M3 hM3 I => ?_)
  refine lv_aload_n S.1 S.2.1 dX1_leak_47 rfl (lv_at hl 1 rfl) ?_
  refine lv_dup S.1 S.2.1 dX1_leak_48 rfl ?_
  refine aC_getA (j := j) (i := i) (x := M3 2 i) S I hj (by omega) 2 (by decide) in_X1_leak_X1 (List.mem_of_getElem? (i := 2) rfl) (by rw [aq_ug_s]) dX1_leak_49 ?_
  refine lv_iload_n S.1 S.2.1 dX1_leak_52 rfl (lv_at hl 0 rfl) ?_
  refine lv_isub S.1 S.2.1 dX1_leak_53 ?_
  refine lv_topi (fun x4 (ex4 : x4 = M3 2 i - (aq_mn (M2 4 i / 10) (M2 2 i))) => ?_)
  refine aC_putA (V := V) (Q := M3) (j := j) (i := i) (x := x4) hJ S I hj (by omega) 2 (by decide) in_X1_leak_X1 (List.mem_of_getElem? (i := 2) rfl) dX1_leak_54 (fun H locs M5 hM5 I => ?_)
  refine lv_aload_n S.1 S.2.1 dX1_leak_57 rfl (lv_at hl 1 rfl) ?_
  refine lv_dup S.1 S.2.1 dX1_leak_58 rfl ?_
  refine aC_getA (j := j) (i := i) (x := M5 5 i) S I hj (by omega) 5 (by decide) in_X1_leak_X1 (List.mem_of_getElem? (i := 8) rfl) (by rw [aq_ug_s]) dX1_leak_59 ?_
  refine lv_iload_n S.1 S.2.1 dX1_leak_62 rfl (lv_at hl 0 rfl) ?_
  refine lv_iadd S.1 S.2.1 dX1_leak_63 ?_
  refine lv_topi (fun x6 (ex6 : x6 = M5 5 i + (aq_mn (M2 4 i / 10) (M2 2 i))) => ?_)
  refine aC_putA (V := V) (Q := M5) (j := j) (i := i) (x := x6) hJ S I hj (by omega) 5 (by decide) in_X1_leak_X1 (List.mem_of_getElem? (i := 8) rfl) dX1_leak_64 (fun H locs M7 hM7 I => ?_)
  exact aq_vret S.1 S.2.1 hr hlocks I dX1_leak_67 (by decide) (by decide) (by subst_vars; rfl)
theorem in_X1_wearBy_X1 : ∀ w ∈ wsX10, w ∈ wsX1_wearBy := fun _ h => List.mem_cons_of_mem _ (List.mem_append_right _ h)
set_option maxHeartbeats 4000000 in
set_option maxRecDepth 100000 in
/-- X1_wearBy -/
theorem c_X1_wearBy (l : Launch) {D : va_G} {ad : Nat → Nat} {cI cQ : ClassId} (hJ : aq_J 49 ad) {V : aq_V} {Q : aq_Q} {j i : Nat} (hj : j < 2) (hi : i < 20) (o : Int32) : aq_Met l yX1_wearBy wsX1_wearBy ({ frames := 1, cells := 0, slots := 0, locals := 21 }) D (aC_t cI cQ) 49 ad [.ref (ad (7 + 20 * j + i)), .int o] (aC_w ad cI cQ (aq_ug V j Q)) (aq_Qv D (aC_t cI cQ) 49 ad (aC_w ad cI cQ (aq_ug V j (aq_wearByQ Q i o)))) 0 0 := by
  refine aq_enter (cc := cX1_wearBy) (maxL := 2) (ret := none) (by decide) rfl (Nat.le_of_ble_eq_true rfl) ?_
  intro p e s m below meth c ls S hr hlocks hnm I hl
  have S : CallFix p m c cX1_wearBy 2 s _ wsX1_wearBy RX1 := S
  have hl : lv_has ls 2 [(0, .ref (ad (7 + 20 * j + i))), (1, .int o)] := hl
  refine lv_aload_n S.1 S.2.1 dX1_wearBy_0 rfl (lv_at hl 0 rfl) ?_
  refine lv_bipush (v := 50) S.1 S.2.1 dX1_wearBy_1 (by decide) ?_
  refine lv_aload_n S.1 S.2.1 dX1_wearBy_3 rfl (lv_at hl 0 rfl) ?_
  refine aC_getA (j := j) (i := i) (x := Q 3 i) S I hj (by omega) 3 (by decide) in_X1_wearBy_X1 (List.mem_of_getElem? (i := 1) rfl) (by rw [aq_ug_s]) dX1_wearBy_4 ?_
  refine lv_iload_n S.1 S.2.1 dX1_wearBy_7 rfl (lv_at hl 1 rfl) ?_
  refine lv_iadd S.1 S.2.1 dX1_wearBy_8 ?_
  refine aq_mmin S hl.1 (List.mem_of_getElem? (i := 2) rfl) (List.mem_of_getElem? (i := 3) rfl) (List.mem_of_getElem? (i := 4) rfl) (List.mem_of_getElem? (i := 5) rfl) (by decide) (Nat.le_of_ble_eq_true rfl) (by decide) (by decide) dX1_wearBy_9 ?_
  refine aC_putA (V := V) (Q := Q) (j := j) (i := i) (x := aq_mn 50 (Q 3 i + o)) hJ S I hj (by omega) 3 (by decide) in_X1_wearBy_X1 (List.mem_of_getElem? (i := 1) rfl) dX1_wearBy_12 (fun H locs M1 hM1 I => ?_)
  exact aq_vret S.1 S.2.1 hr hlocks I dX1_wearBy_15 (by decide) (by decide) (by subst_vars; rfl)
theorem in_X1_wearOfDay_X1 : ∀ w ∈ wsX10, w ∈ wsX1_wearOfDay := fun _ h => List.mem_cons_of_mem _ (List.mem_append_right _ h)
set_option maxHeartbeats 4000000 in
set_option maxRecDepth 100000 in
/-- X1_wearOfDay -/
theorem c_X1_wearOfDay (l : Launch) {D : va_G} {ad : Nat → Nat} {cI cQ : ClassId} (hJ : aq_J 49 ad) {V : aq_V} {Q : aq_Q} {j i : Nat} (hj : j < 2) (hi : i < 20) : aq_Met l yX1_wearOfDay wsX1_wearOfDay ({ frames := 2, cells := 0, slots := 0, locals := 42 }) D (aC_t cI cQ) 49 ad [.ref (ad (7 + 20 * j + i))] (aC_w ad cI cQ (aq_ug V j Q)) (aq_Qv D (aC_t cI cQ) 49 ad (aC_w ad cI cQ (aq_ug V j (aq_wearDayQ Q i)))) 0 0 := by
  refine aq_enter (cc := cX1_wearOfDay) (maxL := 1) (ret := none) (by decide) rfl (Nat.le_of_ble_eq_true rfl) ?_
  intro p e s m below meth c ls S hr hlocks hnm I hl
  have S : CallFix p m c cX1_wearOfDay 1 s _ wsX1_wearOfDay RX1 := S
  have hl : lv_has ls 1 [(0, .ref (ad (7 + 20 * j + i)))] := hl
  refine lv_aload_n S.1 S.2.1 dX1_wearOfDay_0 rfl (lv_at hl 0 rfl) ?_
  refine aC_getA (j := j) (i := i) (x := Q 2 i) S I hj (by omega) 2 (by decide) in_X1_wearOfDay_X1 (List.mem_of_getElem? (i := 1) rfl) (by rw [aq_ug_s]) dX1_wearOfDay_1 ?_
  refine lv_if_le (tgt := 23) S.1 S.2.1 dX1_wearOfDay_4 (by decide) (fun c1 => ?_) (fun c1 => ?_)
  · exact aq_vret S.1 S.2.1 hr hlocks I dX1_wearOfDay_23 (by decide) (by decide) (by subst_vars; first | rfl | (simp only [aq_wearDayQ, if_pos c1]; done) | (simp only [aq_wearDayQ, if_pos c1]; rfl))
  · refine lv_aload_n S.1 S.2.1 dX1_wearOfDay_7 rfl (lv_at hl 0 rfl) ?_
    refine lv_aload_n S.1 S.2.1 dX1_wearOfDay_8 rfl (lv_at hl 0 rfl) ?_
    refine aq_callVi (As := []) (rest := [.ref (ad (7 + 20 * j + i))]) S (c_X1_hasOpenSluice l hJ (V := V) (Q := Q) (j := j) (i := i) hj (by omega) ) (cwV 0 S.2.2.2.2 gX1_wearOfDay_X1_hasOpenSluice rfl rfl rfl (by decide +kernel) ⟨Nat.le_of_ble_eq_true rfl, Nat.le_of_ble_eq_true rfl⟩) (aC_recvA (j := j) (i := i) I hj (by omega)) I hl.1 dX1_wearOfDay_9 rfl rfl (Nat.le_of_ble_eq_true rfl) ⟨by first | decide | (dsimp only; omega), by first | decide | (dsimp only; omega)⟩ (fun H locs I => ?_)
    refine lv_if_eq (tgt := 19) S.1 S.2.1 dX1_wearOfDay_12 (by decide) (fun c2 => ?_) (fun c2 => ?_)
    · refine lv_iconst (v := 1) S.1 S.2.1 dX1_wearOfDay_19 (by decide) ?_
      refine aq_callVv (As := [.int 1]) (rest := []) S (c_X1_wearBy l hJ (V := V) (Q := Q) (j := j) (i := i) hj (by omega) 1) (cwV 1 S.2.2.2.2 gX1_wearOfDay_X1_wearBy rfl rfl rfl (by decide +kernel) ⟨Nat.le_of_ble_eq_true rfl, Nat.le_of_ble_eq_true rfl⟩) (aC_recvA (j := j) (i := i) I hj (by omega)) I hl.1 dX1_wearOfDay_20 rfl rfl (Nat.le_of_ble_eq_true rfl) ⟨by first | decide | (dsimp only; omega), by first | decide | (dsimp only; omega)⟩ (fun H locs I => ?_)
      obtain ⟨M3, hM3⟩ : ∃ z9 : aq_Q, z9 = aq_wearByQ Q i 1 := ⟨_, rfl⟩
      rw [← hM3] at I
      exact aq_vret S.1 S.2.1 hr hlocks I dX1_wearOfDay_23 (by decide) (by decide) (by subst_vars; first | rfl | (simp only [aq_wearDayQ, if_neg c1, if_pos c2]; done) | (simp only [aq_wearDayQ, if_neg c1, if_pos c2]; rfl))
    · refine lv_iconst (v := 2) S.1 S.2.1 dX1_wearOfDay_15 (by decide) ?_
      refine lv_goto (tgt := 20) S.1 S.2.1 dX1_wearOfDay_16 (by decide) ?_
      refine aq_callVv (As := [.int 2]) (rest := []) S (c_X1_wearBy l hJ (V := V) (Q := Q) (j := j) (i := i) hj (by omega) 2) (cwV 1 S.2.2.2.2 gX1_wearOfDay_X1_wearBy rfl rfl rfl (by decide +kernel) ⟨Nat.le_of_ble_eq_true rfl, Nat.le_of_ble_eq_true rfl⟩) (aC_recvA (j := j) (i := i) I hj (by omega)) I hl.1 dX1_wearOfDay_20 rfl rfl (Nat.le_of_ble_eq_true rfl) ⟨by first | decide | (dsimp only; omega), by first | decide | (dsimp only; omega)⟩ (fun H locs I => ?_)
      obtain ⟨M4, hM4⟩ : ∃ z9 : aq_Q, z9 = aq_wearByQ Q i 2 := ⟨_, rfl⟩
      rw [← hM4] at I
      exact aq_vret S.1 S.2.1 hr hlocks I dX1_wearOfDay_23 (by decide) (by decide) (by subst_vars; first | rfl | (simp only [aq_wearDayQ, if_neg c1, if_neg c2]; done) | (simp only [aq_wearDayQ, if_neg c1, if_neg c2]; rfl))
theorem in_X1_millNumber_X1 : ∀ w ∈ wsX10, w ∈ wsX1_millNumber := fun _ h => List.mem_cons_of_mem _ (List.mem_append_right _ h)
set_option maxHeartbeats 4000000 in
set_option maxRecDepth 100000 in
/-- X1_millNumber -/
theorem c_X1_millNumber (l : Launch) {D : va_G} {ad : Nat → Nat} {cI cQ : ClassId} (hJ : aq_J 49 ad) {V : aq_V} {Q : aq_Q} {j i : Nat} (hj : j < 2) (hi : i < 20) {w : Nat} (hw : w < 4) : aq_Met l yX1_millNumber wsX1_millNumber ({ frames := 1, cells := 0, slots := 0, locals := 20 }) D (aC_t cI cQ) 49 ad [.ref (ad (7 + 20 * j + i)), .int (nI w)] (aC_w ad cI cQ (aq_ug V j Q)) (aq_Qi D (aC_t cI cQ) 49 ad (aq_millNo Q i w) (aC_w ad cI cQ (aq_ug V j Q))) 0 0 := by
  refine aq_enter (cc := cX1_millNumber) (maxL := 2) (ret := some .int) (by decide) rfl (Nat.le_of_ble_eq_true rfl) ?_
  intro p e s m below meth c ls S hr hlocks hnm I hl
  have S : CallFix p m c cX1_millNumber 2 s _ wsX1_millNumber RX1 := S
  have hl : lv_has ls 2 [(0, .ref (ad (7 + 20 * j + i))), (1, .int (nI w))] := hl
  refine lv_aload_n S.1 S.2.1 dX1_millNumber_0 rfl (lv_at hl 0 rfl) ?_
  refine aq_callVi (As := []) (rest := []) S (c_X1_hasMill l hJ (V := V) (Q := Q) (j := j) (i := i) hj (by omega) ) (cwV 0 S.2.2.2.2 gX1_millNumber_X1_hasMill rfl rfl rfl (by decide +kernel) ⟨Nat.le_of_ble_eq_true rfl, Nat.le_of_ble_eq_true rfl⟩) (aC_recvA (j := j) (i := i) I hj (by omega)) I hl.1 dX1_millNumber_1 rfl rfl (Nat.le_of_ble_eq_true rfl) ⟨by first | decide | (dsimp only; omega), by first | decide | (dsimp only; omega)⟩ (fun H locs I => ?_)
  refine lv_if_ne (tgt := 9) S.1 S.2.1 dX1_millNumber_4 (by decide) (fun c1 => ?_) (fun c1 => ?_)
  · refine lv_iload_n S.1 S.2.1 dX1_millNumber_9 rfl (lv_at hl 1 rfl) ?_
    rcases (show w = 0 ∨ w = 1 ∨ w = 2 ∨ w = 3 by omega) with rfl | rfl | rfl | rfl
    · refine lv_tableIn (x := nI 0) (tgt := 36) S.1 S.2.1 dX1_millNumber_10 (by decide) (by decide) rfl (by decide) ?_
      have hl : lv_has ls 2 [(0, .ref (ad (7 + 20 * j + i))), (1, .int (nI 0))] := hl
      refine lv_aload_n S.1 S.2.1 dX1_millNumber_36 rfl (lv_at hl 0 rfl) ?_
      refine aC_getA (j := j) (i := i) (x := Q 6 i) S I hj (by omega) 6 (by decide) in_X1_millNumber_X1 (List.mem_of_getElem? (i := 1) rfl) (by rw [aq_ug_s]) dX1_millNumber_37 ?_
      exact aq_iret S.1 S.2.1 hr hlocks I dX1_millNumber_40 (by decide) (by decide) (by subst_vars; first | rfl | (simp only [aq_millNo, if_neg c1]; done) | (simp only [aq_millNo, if_neg c1]; rfl)) (by subst_vars; first | rfl | (simp only [aq_millNo, if_neg c1]; done) | (simp only [aq_millNo, if_neg c1]; rfl))
    · refine lv_tableIn (x := nI 1) (tgt := 41) S.1 S.2.1 dX1_millNumber_10 (by decide) (by decide) rfl (by decide) ?_
      have hl : lv_has ls 2 [(0, .ref (ad (7 + 20 * j + i))), (1, .int (nI 1))] := hl
      refine lv_aload_n S.1 S.2.1 dX1_millNumber_41 rfl (lv_at hl 0 rfl) ?_
      refine aC_getA (j := j) (i := i) (x := Q 7 i) S I hj (by omega) 7 (by decide) in_X1_millNumber_X1 (List.mem_of_getElem? (i := 2) rfl) (by rw [aq_ug_s]) dX1_millNumber_42 ?_
      exact aq_iret S.1 S.2.1 hr hlocks I dX1_millNumber_45 (by decide) (by decide) (by subst_vars; first | rfl | (simp only [aq_millNo, if_neg c1]; done) | (simp only [aq_millNo, if_neg c1]; rfl)) (by subst_vars; first | rfl | (simp only [aq_millNo, if_neg c1]; done) | (simp only [aq_millNo, if_neg c1]; rfl))
    · refine lv_tableIn (x := nI 2) (tgt := 46) S.1 S.2.1 dX1_millNumber_10 (by decide) (by decide) rfl (by decide) ?_
      have hl : lv_has ls 2 [(0, .ref (ad (7 + 20 * j + i))), (1, .int (nI 2))] := hl
      refine lv_aload_n S.1 S.2.1 dX1_millNumber_46 rfl (lv_at hl 0 rfl) ?_
      refine aC_getA (j := j) (i := i) (x := Q 8 i) S I hj (by omega) 8 (by decide) in_X1_millNumber_X1 (List.mem_of_getElem? (i := 3) rfl) (by rw [aq_ug_s]) dX1_millNumber_47 ?_
      exact aq_iret S.1 S.2.1 hr hlocks I dX1_millNumber_50 (by decide) (by decide) (by subst_vars; first | rfl | (simp only [aq_millNo, if_neg c1]; done) | (simp only [aq_millNo, if_neg c1]; rfl)) (by subst_vars; first | rfl | (simp only [aq_millNo, if_neg c1]; done) | (simp only [aq_millNo, if_neg c1]; rfl))
    · refine lv_tableOut (x := nI 3) (tgt := 51) S.1 S.2.1 dX1_millNumber_10 (by decide) (by decide) ?_
      have hl : lv_has ls 2 [(0, .ref (ad (7 + 20 * j + i))), (1, .int (nI 3))] := hl
      refine lv_aload_n S.1 S.2.1 dX1_millNumber_51 rfl (lv_at hl 0 rfl) ?_
      refine aC_getA (j := j) (i := i) (x := Q 9 i) S I hj (by omega) 9 (by decide) in_X1_millNumber_X1 (List.mem_of_getElem? (i := 4) rfl) (by rw [aq_ug_s]) dX1_millNumber_52 ?_
      exact aq_iret S.1 S.2.1 hr hlocks I dX1_millNumber_55 (by decide) (by decide) (by subst_vars; first | rfl | (simp only [aq_millNo, if_neg c1]; done) | (simp only [aq_millNo, if_neg c1]; rfl)) (by subst_vars; first | rfl | (simp only [aq_millNo, if_neg c1]; done) | (simp only [aq_millNo, if_neg c1]; rfl))
  · refine lv_iconst (v := (-1)) S.1 S.2.1 dX1_millNumber_7 (by decide) ?_
    exact aq_iret S.1 S.2.1 hr hlocks I dX1_millNumber_8 (by decide) (by decide) (by subst_vars; first | rfl | (simp only [aq_millNo, if_pos c1]; done) | (simp only [aq_millNo, if_pos c1]; rfl)) (by subst_vars; first | rfl | (simp only [aq_millNo, if_pos c1]; done) | (simp only [aq_millNo, if_pos c1]; rfl))
end
section
theorem in_X0_letCityDrink_X0 : ∀ w ∈ wsX00, w ∈ wsX0_letCityDrink := fun _ h => List.mem_cons_of_mem _ (List.mem_append_right _ h)
set_option maxHeartbeats 4000000 in
set_option maxRecDepth 100000 in
/-- X0_letCityDrink -/
theorem c_X0_letCityDrink (l : Launch) {D : va_G} {ad : Nat → Nat} {cI cQ : ClassId} (hJ : aq_J 49 ad) {V : aq_V} {Q : aq_Q} {j : Nat} (hj : j < 2) (o : Int32) : aq_Met l yX0_letCityDrink wsX0_letCityDrink ({ frames := 1, cells := 0, slots := 0, locals := 21 }) D (aC_t cI cQ) 49 ad [.ref (ad (3 + j)), .int o] (aC_w ad cI cQ (aq_ug V j Q)) (aq_Qv D (aC_t cI cQ) 49 ad (aC_w ad cI cQ (aq_ug V j (aq_drinkQ Q o)))) 0 0 := by
  refine aq_enter (cc := cX0_letCityDrink) (maxL := 3) (ret := none) (by decide) rfl (Nat.le_of_ble_eq_true rfl) ?_
  intro p e s m below meth c ls S hr hlocks hnm I hl
  have S : CallFix p m c cX0_letCityDrink 3 s _ wsX0_letCityDrink RX0 := S
  have hl : lv_has ls 3 [(0, .ref (ad (3 + j))), (1, .int o)] := hl
  refine lv_iload_n S.1 S.2.1 dX0_letCityDrink_0 rfl (lv_at hl 1 rfl) ?_
  refine lv_aload_n S.1 S.2.1 dX0_letCityDrink_1 rfl (lv_at hl 0 rfl) ?_
  refine aC_getS (j := j) (x := Q 10 7) S I hj 7 (by decide) (by decide) in_X0_letCityDrink_X0 (List.mem_of_getElem? (i := 1) rfl) (by rw [aq_ug_s]) dX0_letCityDrink_2 ?_
  refine aq_mmin S hl.1 (List.mem_of_getElem? (i := 2) rfl) (List.mem_of_getElem? (i := 3) rfl) (List.mem_of_getElem? (i := 4) rfl) (List.mem_of_getElem? (i := 5) rfl) (by decide) (Nat.le_of_ble_eq_true rfl) (by decide) (by decide) dX0_letCityDrink_5 ?_
  refine lv_istore_n (lv' := [(2, .int (aq_mn o (Q 10 7))), (0, .ref (ad (3 + j))), (1, .int o)]) S.1 S.2.1 dX0_letCityDrink_8 rfl hl (by decide) rfl (fun ls hl => ?_)
  refine lv_aload_n S.1 S.2.1 dX0_letCityDrink_9 rfl (lv_at hl 1 rfl) ?_
  refine lv_dup S.1 S.2.1 dX0_letCityDrink_10 rfl ?_
  refine aC_getS (j := j) (x := Q 10 7) S I hj 7 (by decide) (by decide) in_X0_letCityDrink_X0 (List.mem_of_getElem? (i := 1) rfl) (by rw [aq_ug_s]) dX0_letCityDrink_11 ?_
  refine lv_iload_n S.1 S.2.1 dX0_letCityDrink_14 rfl (lv_at hl 0 rfl) ?_
  refine lv_isub S.1 S.2.1 dX0_letCityDrink_15 ?_
  refine aC_putS (V := V) (Q := Q) (j := j) (x := Q 10 7 - (aq_mn o (Q 10 7))) hJ S I hj 7 (by decide) (by decide) in_X0_letCityDrink_X0 (List.mem_of_getElem? (i := 1) rfl) dX0_letCityDrink_16 (fun H locs M1 hM1 I => ?_)
  refine lv_aload_n S.1 S.2.1 dX0_letCityDrink_19 rfl (lv_at hl 1 rfl) ?_
  refine lv_dup S.1 S.2.1 dX0_letCityDrink_20 rfl ?_
  refine aC_getS (j := j) (x := M1 10 11) S I hj 11 (by decide) (by decide) in_X0_letCityDrink_X0 (List.mem_of_getElem? (i := 6) rfl) (by rw [aq_ug_s]) dX0_letCityDrink_21 ?_
  refine lv_iload_n S.1 S.2.1 dX0_letCityDrink_24 rfl (lv_at hl 0 rfl) ?_
  refine lv_iadd S.1 S.2.1 dX0_letCityDrink_25 ?_
  refine lv_topi (fun x2 (ex2 : x2 = M1 10 11 + (aq_mn o (Q 10 7))) => ?_)
  refine aC_putS (V := V) (Q := M1) (j := j) (x := x2) hJ S I hj 11 (by decide) (by decide) in_X0_letCityDrink_X0 (List.mem_of_getElem? (i := 6) rfl) dX0_letCityDrink_26 (fun H locs M3 hM3 I => ?_)
  refine lv_aload_n S.1 S.2.1 dX0_letCityDrink_29 rfl (lv_at hl 1 rfl) ?_
  refine lv_dup S.1 S.2.1 dX0_letCityDrink_30 rfl ?_
  refine aC_getS (j := j) (x := M3 10 12) S I hj 12 (by decide) (by decide) in_X0_letCityDrink_X0 (List.mem_of_getElem? (i := 7) rfl) (by rw [aq_ug_s]) dX0_letCityDrink_31 ?_
  refine lv_iload_n S.1 S.2.1 dX0_letCityDrink_34 rfl (lv_at hl 2 rfl) ?_
  refine lv_iload_n S.1 S.2.1 dX0_letCityDrink_35 rfl (lv_at hl 0 rfl) ?_
  refine lv_isub S.1 S.2.1 dX0_letCityDrink_36 ?_
  refine lv_iadd S.1 S.2.1 dX0_letCityDrink_37 ?_
  refine lv_topi (fun x4 (ex4 : x4 = M3 10 12 + (o - (aq_mn o (Q 10 7)))) => ?_)
  refine aC_putS (V := V) (Q := M3) (j := j) (x := x4) hJ S I hj 12 (by decide) (by decide) in_X0_letCityDrink_X0 (List.mem_of_getElem? (i := 7) rfl) dX0_letCityDrink_38 (fun H locs M5 hM5 I => ?_)
  exact aq_vret S.1 S.2.1 hr hlocks I dX0_letCityDrink_41 (by decide) (by decide) (by subst_vars; rfl)
theorem in_X0_slope_X0 : ∀ w ∈ wsX00, w ∈ wsX0_slope := fun _ h => List.mem_cons_of_mem _ (List.mem_append_left _ (List.mem_append_right _ h))
theorem in_X0_slope_X1 : ∀ w ∈ wsX10, w ∈ wsX0_slope := fun _ h => List.mem_cons_of_mem _ (List.mem_append_right _ h)
set_option maxHeartbeats 4000000 in
set_option maxRecDepth 100000 in
/-- X0_slope -/
theorem c_X0_slope (l : Launch) {D : va_G} {ad : Nat → Nat} {cI cQ : ClassId} (hJ : aq_J 49 ad) {V : aq_V} {Q : aq_Q} {j n : Nat} (hj : j < 2) (hn : Q 10 3 = nI n) (hn20 : n ≤ 20) {a : Nat} (ha : a < n) : aq_Met l yX0_slope wsX0_slope ({ frames := 0, cells := 0, slots := 0, locals := 0 }) D (aC_t cI cQ) 49 ad [.ref (ad (3 + j)), .int (nI a)] (aC_w ad cI cQ (aq_ug V j Q)) (aq_Qi D (aC_t cI cQ) 49 ad (aq_slope n Q a) (aC_w ad cI cQ (aq_ug V j Q))) 0 0 := by
  refine aq_enter (cc := cX0_slope) (maxL := 3) (ret := some .int) (by decide) rfl (Nat.le_of_ble_eq_true rfl) ?_
  intro p e s m below meth c ls S hr hlocks hnm I hl
  have S : CallFix p m c cX0_slope 3 s _ wsX0_slope RX0 := S
  have hl : lv_has ls 3 [(0, .ref (ad (3 + j))), (1, .int (nI a))] := hl
  refine lv_iload_n S.1 S.2.1 dX0_slope_0 rfl (lv_at hl 1 rfl) ?_
  refine lv_iconst (v := 1) S.1 S.2.1 dX0_slope_1 (by decide) ?_
  refine lv_iadd S.1 S.2.1 dX0_slope_2 ?_
  refine lv_topi (fun x1 (ex1 : x1 = nI a + 1) => ?_)
  rw [nI_1] at ex1; subst ex1
  refine lv_aload_n S.1 S.2.1 dX0_slope_3 rfl (lv_at hl 0 rfl) ?_
  refine aC_getS (j := j) (x := nI n) S I hj 3 (by decide) (by decide) in_X0_slope_X0 (List.mem_of_getElem? (i := 1) rfl) (by rw [aq_ug_s]; exact hn) dX0_slope_4 ?_
  refine lv_icmp_ge (tgt := 24) S.1 S.2.1 dX0_slope_7 (by decide) (fun c2 => ?_) (fun c2 => ?_)
  · have c2 : n ≤ (a + 1) := (nI_leI (a := n) (b := (a + 1)) (by omega) (by omega)).mp c2
    refine lv_iconst (v := 0) S.1 S.2.1 dX0_slope_24 (by decide) ?_
    refine lv_istore_n (lv' := [(2, .int 0), (0, .ref (ad (3 + j))), (1, .int (nI a))]) S.1 S.2.1 dX0_slope_25 rfl hl (by decide) rfl (fun ls hl => ?_)
    refine lv_aload_n S.1 S.2.1 dX0_slope_26 rfl (lv_at hl 1 rfl) ?_
    refine aC_getR (j := j) S I hj in_X0_slope_X0 (List.mem_of_getElem? (i := 2) rfl) dX0_slope_27 ?_
    refine lv_iload_n S.1 S.2.1 dX0_slope_30 rfl (lv_at hl 2 rfl) ?_
    refine aC_row (j := j) (i := a) S I hj rfl (by omega) dX0_slope_31 ?_
    refine aC_getA (j := j) (i := a) (x := Q 0 a) S I hj (by omega) 0 (by decide) in_X0_slope_X1 (List.mem_of_getElem? (i := 3) rfl) (by rw [aq_ug_s]) dX0_slope_32 ?_
    refine lv_iload_n S.1 S.2.1 dX0_slope_35 rfl (lv_at hl 0 rfl) ?_
    refine lv_isub S.1 S.2.1 dX0_slope_36 ?_
    exact aq_iret S.1 S.2.1 hr hlocks I dX0_slope_37 (by decide) (by decide) (by subst_vars; first | rfl | (simp only [aq_slope, if_neg (Nat.not_lt.mpr c2)]; done) | (simp only [aq_slope, if_neg (Nat.not_lt.mpr c2)]; rfl)) (by subst_vars; first | rfl | (simp only [aq_slope, if_neg (Nat.not_lt.mpr c2)]; done) | (simp only [aq_slope, if_neg (Nat.not_lt.mpr c2)]; rfl))
  · have c2 : (a + 1) < n := Nat.lt_of_not_le (fun z9 => c2 ((nI_leI (a := n) (b := (a + 1)) (by omega) (by omega)).mpr z9))
    refine lv_aload_n S.1 S.2.1 dX0_slope_10 rfl (lv_at hl 0 rfl) ?_
    refine aC_getR (j := j) S I hj in_X0_slope_X0 (List.mem_of_getElem? (i := 2) rfl) dX0_slope_11 ?_
    refine lv_iload_n S.1 S.2.1 dX0_slope_14 rfl (lv_at hl 1 rfl) ?_
    refine lv_iconst (v := 1) S.1 S.2.1 dX0_slope_15 (by decide) ?_
    refine lv_iadd S.1 S.2.1 dX0_slope_16 ?_
    refine lv_topi (fun x3 (ex3 : x3 = nI a + 1) => ?_)
    rw [nI_1] at ex3; subst ex3
    refine aC_row (j := j) (i := a + 1) S I hj rfl (by omega) dX0_slope_17 ?_
    refine aC_getA (j := j) (i := a + 1) (x := Q 0 (a + 1)) S I hj (by omega) 0 (by decide) in_X0_slope_X1 (List.mem_of_getElem? (i := 3) rfl) (by rw [aq_ug_s]) dX0_slope_18 ?_
    refine lv_goto (tgt := 25) S.1 S.2.1 dX0_slope_21 (by decide) ?_
    refine lv_istore_n (lv' := [(2, .int (Q 0 (a + 1))), (0, .ref (ad (3 + j))), (1, .int (nI a))]) S.1 S.2.1 dX0_slope_25 rfl hl (by decide) rfl (fun ls hl => ?_)
    refine lv_aload_n S.1 S.2.1 dX0_slope_26 rfl (lv_at hl 1 rfl) ?_
    refine aC_getR (j := j) S I hj in_X0_slope_X0 (List.mem_of_getElem? (i := 2) rfl) dX0_slope_27 ?_
    refine lv_iload_n S.1 S.2.1 dX0_slope_30 rfl (lv_at hl 2 rfl) ?_
    refine aC_row (j := j) (i := a) S I hj rfl (by omega) dX0_slope_31 ?_
    refine aC_getA (j := j) (i := a) (x := Q 0 a) S I hj (by omega) 0 (by decide) in_X0_slope_X1 (List.mem_of_getElem? (i := 3) rfl) (by rw [aq_ug_s]) dX0_slope_32 ?_
    refine lv_iload_n S.1 S.2.1 dX0_slope_35 rfl (lv_at hl 0 rfl) ?_
    refine lv_isub S.1 S.2.1 dX0_slope_36 ?_
    exact aq_iret S.1 S.2.1 hr hlocks I dX0_slope_37 (by decide) (by decide) (by subst_vars; first | rfl | (simp only [aq_slope, if_pos c2]; done) | (simp only [aq_slope, if_pos c2]; rfl)) (by subst_vars; first | rfl | (simp only [aq_slope, if_pos c2]; done) | (simp only [aq_slope, if_pos c2]; rfl))
set_option maxHeartbeats 4000000 in
set_option maxRecDepth 100000 in
/-- X0_rate -/
theorem c_X0_rate (l : Launch) {D : va_G} {ad : Nat → Nat} {cI cQ : ClassId} (hJ : aq_J 49 ad) {V : aq_V} {Q : aq_Q} {j n : Nat} (hj : j < 2) (hn : Q 10 3 = nI n) (hn20 : n ≤ 20) {a : Nat} (ha : a < n) : aq_Met l yX0_rate wsX0_rate ({ frames := 1, cells := 0, slots := 0, locals := 22 }) D (aC_t cI cQ) 49 ad [.ref (ad (3 + j)), .int (nI a)] (aC_w ad cI cQ (aq_ug V j Q)) (aq_Qi D (aC_t cI cQ) 49 ad (aq_rate n Q a) (aC_w ad cI cQ (aq_ug V j Q))) 0 0 := by
  refine aq_enter (cc := cX0_rate) (maxL := 2) (ret := some .int) (by decide) rfl (Nat.le_of_ble_eq_true rfl) ?_
  intro p e s m below meth c ls S hr hlocks hnm I hl
  have S : CallFix p m c cX0_rate 2 s _ wsX0_rate RX0 := S
  have hl : lv_has ls 2 [(0, .ref (ad (3 + j))), (1, .int (nI a))] := hl
  refine lv_bipush (v := 30) S.1 S.2.1 dX0_rate_0 (by decide) ?_
  refine lv_iconst (v := 2) S.1 S.2.1 dX0_rate_2 (by decide) ?_
  refine lv_aload_n S.1 S.2.1 dX0_rate_3 rfl (lv_at hl 0 rfl) ?_
  refine lv_iload_n S.1 S.2.1 dX0_rate_4 rfl (lv_at hl 1 rfl) ?_
  refine aq_callVi (As := [.int (nI a)]) (rest := [.int 2, .int 30]) S (c_X0_slope l hJ (V := V) (Q := Q) (j := j) hj hn hn20 (a := a) (by omega) ) (cwV 1 S.2.2.2.2 gX0_rate_X0_slope rfl rfl rfl (by decide +kernel) ⟨Nat.le_of_ble_eq_true rfl, Nat.le_of_ble_eq_true rfl⟩) (aC_recvS (j := j) I hj) I hl.1 dX0_rate_5 rfl rfl (Nat.le_of_ble_eq_true rfl) ⟨by first | decide | (dsimp only; omega), by first | decide | (dsimp only; omega)⟩ (fun H locs I => ?_)
  refine lv_iadd S.1 S.2.1 dX0_rate_8 ?_
  refine aq_mmin S hl.1 (List.mem_of_getElem? (i := 1) rfl) (List.mem_of_getElem? (i := 2) rfl) (List.mem_of_getElem? (i := 3) rfl) (List.mem_of_getElem? (i := 4) rfl) (by decide) (Nat.le_of_ble_eq_true rfl) (by decide) (by decide) dX0_rate_9 ?_
  refine lv_topi (fun x1 (ex1 : x1 = aq_mn 30 (2 + aq_slope n Q a)) => ?_)
  exact aq_iret S.1 S.2.1 hr hlocks I dX0_rate_12 (by decide) (by decide) (by subst_vars; rfl) (by subst_vars; rfl)
theorem in_X0_pour_X0 : ∀ w ∈ wsX00, w ∈ wsX0_pour := fun _ h => List.mem_cons_of_mem _ (List.mem_append_left _ (List.mem_append_right _ h))
set_option maxHeartbeats 4000000 in
set_option maxRecDepth 100000 in
/-- X0_pour -/
theorem c_X0_pour (l : Launch) {D : va_G} {ad : Nat → Nat} {cI cQ : ClassId} (hJ : aq_J 49 ad) {V : aq_V} {Q : aq_Q} {j n : Nat} (hj : j < 2) (hn : Q 10 3 = nI n) (hn20 : n ≤ 20) {a : Nat} (ha : a ≤ 22) (o : Int32) : aq_Met l yX0_pour wsX0_pour ({ frames := 2, cells := 0, slots := 0, locals := 43 }) D (aC_t cI cQ) 49 ad [.ref (ad (3 + j)), .int (nI a), .int o] (aC_w ad cI cQ (aq_ug V j Q)) (aq_Qi D (aC_t cI cQ) 49 ad (aq_pourR n Q a o) (aC_w ad cI cQ (aq_ug V j (aq_pourQ n Q a o)))) 0 0 := by
  refine aq_enter (cc := cX0_pour) (maxL := 4) (ret := some .int) (by decide) rfl (Nat.le_of_ble_eq_true rfl) ?_
  intro p e s m below meth c ls S hr hlocks hnm I hl
  have S : CallFix p m c cX0_pour 4 s _ wsX0_pour RX0 := S
  have hl : lv_has ls 4 [(0, .ref (ad (3 + j))), (1, .int (nI a)), (2, .int o)] := hl
  refine lv_iload_n S.1 S.2.1 dX0_pour_0 rfl (lv_at hl 1 rfl) ?_
  refine lv_aload_n S.1 S.2.1 dX0_pour_1 rfl (lv_at hl 0 rfl) ?_
  refine aC_getS (j := j) (x := nI n) S I hj 3 (by decide) (by decide) in_X0_pour_X0 (List.mem_of_getElem? (i := 1) rfl) (by rw [aq_ug_s]; exact hn) dX0_pour_2 ?_
  refine lv_icmp_ge (tgt := 19) S.1 S.2.1 dX0_pour_5 (by decide) (fun c1 => ?_) (fun c1 => ?_)
  · have c1 : n ≤ a := (nI_leI (a := n) (b := a) (by omega) (by omega)).mp c1
    refine lv_iload_n S.1 S.2.1 dX0_pour_19 rfl (lv_at hl 2 rfl) ?_
    refine lv_aload_n S.1 S.2.1 dX0_pour_20 rfl (lv_at hl 0 rfl) ?_
    refine aC_getS (j := j) (x := Q 10 6) S I hj 6 (by decide) (by decide) in_X0_pour_X0 (List.mem_of_getElem? (i := 3) rfl) (by rw [aq_ug_s]) dX0_pour_21 ?_
    refine lv_aload_n S.1 S.2.1 dX0_pour_24 rfl (lv_at hl 0 rfl) ?_
    refine aC_getS (j := j) (x := Q 10 7) S I hj 7 (by decide) (by decide) in_X0_pour_X0 (List.mem_of_getElem? (i := 4) rfl) (by rw [aq_ug_s]) dX0_pour_25 ?_
    refine lv_isub S.1 S.2.1 dX0_pour_28 ?_
    refine aq_mmin S hl.1 (List.mem_of_getElem? (i := 5) rfl) (List.mem_of_getElem? (i := 6) rfl) (List.mem_of_getElem? (i := 7) rfl) (List.mem_of_getElem? (i := 8) rfl) (by decide) (Nat.le_of_ble_eq_true rfl) (by decide) (by decide) dX0_pour_29 ?_
    refine lv_istore_n (lv' := [(3, .int (aq_mn o (Q 10 6 - Q 10 7))), (0, .ref (ad (3 + j))), (1, .int (nI a)), (2, .int o)]) S.1 S.2.1 dX0_pour_32 rfl hl (by decide) rfl (fun ls hl => ?_)
    refine lv_aload_n S.1 S.2.1 dX0_pour_33 rfl (lv_at hl 1 rfl) ?_
    refine lv_dup S.1 S.2.1 dX0_pour_34 rfl ?_
    refine aC_getS (j := j) (x := Q 10 7) S I hj 7 (by decide) (by decide) in_X0_pour_X0 (List.mem_of_getElem? (i := 4) rfl) (by rw [aq_ug_s]) dX0_pour_35 ?_
    refine lv_iload_n S.1 S.2.1 dX0_pour_38 rfl (lv_at hl 0 rfl) ?_
    refine lv_iadd S.1 S.2.1 dX0_pour_39 ?_
    refine lv_topi (fun x2 (ex2 : x2 = Q 10 7 + (aq_mn o (Q 10 6 - Q 10 7))) => ?_)
    refine aC_putS (V := V) (Q := Q) (j := j) (x := x2) hJ S I hj 7 (by decide) (by decide) in_X0_pour_X0 (List.mem_of_getElem? (i := 4) rfl) dX0_pour_40 (fun H locs M3 hM3 I => ?_)
    refine lv_iload_n S.1 S.2.1 dX0_pour_43 rfl (lv_at hl 0 rfl) ?_
    exact aq_iret S.1 S.2.1 hr hlocks I dX0_pour_44 (by decide) (by decide) (by subst_vars; first | rfl | (simp only [aq_pourR, aq_pourQ, if_neg (Nat.not_lt.mpr c1)]; done) | (simp only [aq_pourR, aq_pourQ, if_neg (Nat.not_lt.mpr c1)]; rfl)) (by subst_vars; first | rfl | (simp only [aq_pourR, aq_pourQ, if_neg (Nat.not_lt.mpr c1)]; done) | (simp only [aq_pourR, aq_pourQ, if_neg (Nat.not_lt.mpr c1)]; rfl))
  · have c1 : a < n := Nat.lt_of_not_le (fun z9 => c1 ((nI_leI (a := n) (b := a) (by omega) (by omega)).mpr z9))
    refine lv_aload_n S.1 S.2.1 dX0_pour_8 rfl (lv_at hl 0 rfl) ?_
    refine aC_getR (j := j) S I hj in_X0_pour_X0 (List.mem_of_getElem? (i := 2) rfl) dX0_pour_9 ?_
    refine lv_iload_n S.1 S.2.1 dX0_pour_12 rfl (lv_at hl 1 rfl) ?_
    refine aC_row (j := j) (i := a) S I hj rfl (by omega) dX0_pour_13 ?_
    refine lv_iload_n S.1 S.2.1 dX0_pour_14 rfl (lv_at hl 2 rfl) ?_
    refine aq_callVi (As := [.int o]) (rest := []) S (c_X1_fill l hJ (V := V) (Q := Q) (j := j) (i := a) hj (by omega) o) (cwV 1 S.2.2.2.2 gX0_pour_X1_fill rfl rfl rfl (by decide +kernel) ⟨Nat.le_of_ble_eq_true rfl, Nat.le_of_ble_eq_true rfl⟩) (aC_recvA (j := j) (i := a) I hj (by omega)) I hl.1 dX0_pour_15 rfl rfl (Nat.le_of_ble_eq_true rfl) ⟨by first | decide | (dsimp only; omega), by first | decide | (dsimp only; omega)⟩ (fun H locs I => ?_)
    obtain ⟨M4, hM4⟩ : ∃ z9 : aq_Q, z9 = aq_fillQ Q a o := ⟨_, rfl⟩
    rw [← hM4] at I
    exact aq_iret S.1 S.2.1 hr hlocks I dX0_pour_18 (by decide) (by decide) (by subst_vars; first | rfl | (simp only [aq_pourR, aq_pourQ, if_pos c1]; done) | (simp only [aq_pourR, aq_pourQ, if_pos c1]; rfl)) (by subst_vars; first | rfl | (simp only [aq_pourR, aq_pourQ, if_pos c1]; done) | (simp only [aq_pourR, aq_pourQ, if_pos c1]; rfl))
theorem in_X0_sendOn_X0 : ∀ w ∈ wsX00, w ∈ wsX0_sendOn := fun _ h => List.mem_cons_of_mem _ (List.mem_append_left _ (List.mem_append_right _ h))
theorem in_X0_sendOn_X1 : ∀ w ∈ wsX10, w ∈ wsX0_sendOn := fun _ h => List.mem_cons_of_mem _ (List.mem_append_right _ h)
set_option maxHeartbeats 4000000 in
set_option maxRecDepth 100000 in
/-- X0_sendOn -/
theorem c_X0_sendOn (l : Launch) {D : va_G} {ad : Nat → Nat} {cI cQ : ClassId} (hJ : aq_J 49 ad) {V : aq_V} {Q : aq_Q} {j n : Nat} (hj : j < 2) (hn : Q 10 3 = nI n) (hn20 : n ≤ 20) {a : Nat} (ha : a < n) : aq_Met l yX0_sendOn wsX0_sendOn ({ frames := 3, cells := 0, slots := 0, locals := 66 }) D (aC_t cI cQ) 49 ad [.ref (ad (3 + j)), .int (nI a)] (aC_w ad cI cQ (aq_ug V j Q)) (aq_Qv D (aC_t cI cQ) 49 ad (aC_w ad cI cQ (aq_ug V j (aq_sendQ n Q a)))) 0 0 := by
  refine aq_enter (cc := cX0_sendOn) (maxL := 5) (ret := none) (by decide) rfl (Nat.le_of_ble_eq_true rfl) ?_
  intro p e s m below meth c ls S hr hlocks hnm I hl
  have S : CallFix p m c cX0_sendOn 5 s _ wsX0_sendOn RX0 := S
  have hl : lv_has ls 5 [(0, .ref (ad (3 + j))), (1, .int (nI a))] := hl
  refine lv_aload_n S.1 S.2.1 dX0_sendOn_0 rfl (lv_at hl 0 rfl) ?_
  refine aC_getR (j := j) S I hj in_X0_sendOn_X0 (List.mem_of_getElem? (i := 1) rfl) dX0_sendOn_1 ?_
  refine lv_iload_n S.1 S.2.1 dX0_sendOn_4 rfl (lv_at hl 1 rfl) ?_
  refine aC_row (j := j) (i := a) S I hj rfl (by omega) dX0_sendOn_5 ?_
  refine lv_astore_n (lv' := [(2, .ref (ad (7 + 20 * j + a))), (0, .ref (ad (3 + j))), (1, .int (nI a))]) S.1 S.2.1 dX0_sendOn_6 rfl hl (by decide) rfl (fun ls hl => ?_)
  refine lv_aload_n S.1 S.2.1 dX0_sendOn_7 rfl (lv_at hl 0 rfl) ?_
  refine aC_getA (j := j) (i := a) (x := Q 2 a) S I hj (by omega) 2 (by decide) in_X0_sendOn_X1 (List.mem_of_getElem? (i := 2) rfl) (by rw [aq_ug_s]) dX0_sendOn_8 ?_
  refine lv_aload_n S.1 S.2.1 dX0_sendOn_11 rfl (lv_at hl 1 rfl) ?_
  refine lv_iload_n S.1 S.2.1 dX0_sendOn_12 rfl (lv_at hl 2 rfl) ?_
  refine aq_callVi (As := [.int (nI a)]) (rest := [.int (Q 2 a)]) S (c_X0_rate l hJ (V := V) (Q := Q) (j := j) hj hn hn20 (a := a) (by omega) ) (cwV 1 S.2.2.2.2 gX0_sendOn_X0_rate rfl rfl rfl (by decide +kernel) ⟨Nat.le_of_ble_eq_true rfl, Nat.le_of_ble_eq_true rfl⟩) (aC_recvS (j := j) I hj) I hl.1 dX0_sendOn_13 rfl rfl (Nat.le_of_ble_eq_true rfl) ⟨by first | decide | (dsimp only; omega), by first | decide | (dsimp only; omega)⟩ (fun H locs I => ?_)
  refine aq_mmin S hl.1 (List.mem_of_getElem? (i := 3) rfl) (List.mem_of_getElem? (i := 4) rfl) (List.mem_of_getElem? (i := 5) rfl) (List.mem_of_getElem? (i := 6) rfl) (by decide) (Nat.le_of_ble_eq_true rfl) (by decide) (by decide) dX0_sendOn_16 ?_
  refine lv_topi (fun x1 (ex1 : x1 = aq_mn (Q 2 a) (aq_rate n Q a)) => ?_)
  refine lv_istore_n (lv' := [(3, .int x1), (2, .ref (ad (7 + 20 * j + a))), (0, .ref (ad (3 + j))), (1, .int (nI a))]) S.1 S.2.1 dX0_sendOn_19 rfl hl (by decide) rfl (fun ls hl => ?_)
  refine lv_aload_n S.1 S.2.1 dX0_sendOn_20 rfl (lv_at hl 1 rfl) ?_
  refine lv_iload_n S.1 S.2.1 dX0_sendOn_21 rfl (lv_at hl 0 rfl) ?_
  refine aq_callVi (As := [.int x1]) (rest := []) S (c_X1_leadToMill l hJ (V := V) (Q := Q) (j := j) (i := a) hj (by omega) x1) (cwV 1 S.2.2.2.2 gX0_sendOn_X1_leadToMill rfl rfl rfl (by decide +kernel) ⟨Nat.le_of_ble_eq_true rfl, Nat.le_of_ble_eq_true rfl⟩) (aC_recvA (j := j) (i := a) I hj (by omega)) I hl.1 dX0_sendOn_22 rfl rfl (Nat.le_of_ble_eq_true rfl) ⟨by first | decide | (dsimp only; omega), by first | decide | (dsimp only; omega)⟩ (fun H locs I => ?_)
  obtain ⟨M2, hM2⟩ : ∃ z9 : aq_Q, z9 = aq_leadQ Q a x1 := ⟨_, rfl⟩
  rw [← hM2] at I
  refine lv_istore (lv' := [(4, .int (aq_leadR Q a x1)), (3, .int x1), (2, .ref (ad (7 + 20 * j + a))), (0, .ref (ad (3 + j))), (1, .int (nI a))]) S.1 S.2.1 dX0_sendOn_25 hl (by decide) rfl (fun ls hl => ?_)
  refine lv_aload_n S.1 S.2.1 dX0_sendOn_27 rfl (lv_at hl 2 rfl) ?_
  refine lv_dup S.1 S.2.1 dX0_sendOn_28 rfl ?_
  refine aC_getA (j := j) (i := a) (x := M2 2 a) S I hj (by omega) 2 (by decide) in_X0_sendOn_X1 (List.mem_of_getElem? (i := 2) rfl) (by rw [aq_ug_s]) dX0_sendOn_29 ?_
  refine lv_aload_n S.1 S.2.1 dX0_sendOn_32 rfl (lv_at hl 3 rfl) ?_
  refine lv_iload_n S.1 S.2.1 dX0_sendOn_33 rfl (lv_at hl 4 rfl) ?_
  refine lv_iconst (v := 1) S.1 S.2.1 dX0_sendOn_34 (by decide) ?_
  refine lv_iadd S.1 S.2.1 dX0_sendOn_35 ?_
  refine lv_topi (fun x3 (ex3 : x3 = nI a + 1) => ?_)
  rw [nI_1] at ex3; subst ex3
  refine lv_iload S.1 S.2.1 dX0_sendOn_36 (lv_at hl 0 rfl) ?_
  have hn_M2 : M2 10 3 = nI n := by rw [hM2]; exact (aq_leadQ_n _ _ _).trans hn
  refine aq_callVi (As := [.int (nI (a + 1)), .int (aq_leadR Q a x1)]) (rest := [.int (M2 2 a), .ref (ad (7 + 20 * j + a))]) S (c_X0_pour l hJ (V := V) (Q := M2) (j := j) hj hn_M2 hn20 (a := a + 1) (by omega) (aq_leadR Q a x1) ) (cwV 2 S.2.2.2.2 gX0_sendOn_X0_pour rfl rfl rfl (by decide +kernel) ⟨Nat.le_of_ble_eq_true rfl, Nat.le_of_ble_eq_true rfl⟩) (aC_recvS (j := j) I hj) I hl.1 dX0_sendOn_38 rfl rfl (Nat.le_of_ble_eq_true rfl) ⟨by first | decide | (dsimp only; omega), by first | decide | (dsimp only; omega)⟩ (fun H locs I => ?_)
  obtain ⟨M4, hM4⟩ : ∃ z9 : aq_Q, z9 = aq_pourQ n M2 (a + 1) (aq_leadR Q a x1) := ⟨_, rfl⟩
  rw [← hM4] at I
  refine lv_topi (fun x5 (ex5 : x5 = aq_pourR n M2 (a + 1) (aq_leadR Q a x1)) => ?_)
  refine lv_isub S.1 S.2.1 dX0_sendOn_41 ?_
  refine aC_putA (V := V) (Q := M4) (j := j) (i := a) (x := M2 2 a - x5) hJ S I hj (by omega) 2 (by decide) in_X0_sendOn_X1 (List.mem_of_getElem? (i := 2) rfl) dX0_sendOn_42 (fun H locs M6 hM6 I => ?_)
  exact aq_vret S.1 S.2.1 hr hlocks I dX0_sendOn_45 (by decide) (by decide) (by subst_vars; rfl)
theorem in_X0_grindAt_X0 : ∀ w ∈ wsX00, w ∈ wsX0_grindAt := fun _ h => List.mem_cons_of_mem _ (List.mem_append_left _ (List.mem_append_right _ h))
theorem in_X0_grindAt_X1 : ∀ w ∈ wsX10, w ∈ wsX0_grindAt := fun _ h => List.mem_cons_of_mem _ (List.mem_append_right _ h)
set_option maxHeartbeats 4000000 in
set_option maxRecDepth 100000 in
/-- X0_grindAt -/
theorem c_X0_grindAt (l : Launch) {D : va_G} {ad : Nat → Nat} {cI cQ : ClassId} (hJ : aq_J 49 ad) {V : aq_V} {Q : aq_Q} {j n : Nat} (hj : j < 2) (hn : Q 10 3 = nI n) (hn20 : n ≤ 20) {a : Nat} (ha : a < n) : aq_Met l yX0_grindAt wsX0_grindAt ({ frames := 3, cells := 0, slots := 0, locals := 66 }) D (aC_t cI cQ) 49 ad [.ref (ad (3 + j)), .int (nI a)] (aC_w ad cI cQ (aq_ug V j Q)) (aq_Qv D (aC_t cI cQ) 49 ad (aC_w ad cI cQ (aq_ug V j (aq_grindAtQ n Q a)))) 0 0 := by
  refine aq_enter (cc := cX0_grindAt) (maxL := 4) (ret := none) (by decide) rfl (Nat.le_of_ble_eq_true rfl) ?_
  intro p e s m below meth c ls S hr hlocks hnm I hl
  have S : CallFix p m c cX0_grindAt 4 s _ wsX0_grindAt RX0 := S
  have hl : lv_has ls 4 [(0, .ref (ad (3 + j))), (1, .int (nI a))] := hl
  refine lv_aload_n S.1 S.2.1 dX0_grindAt_0 rfl (lv_at hl 0 rfl) ?_
  refine aC_getR (j := j) S I hj in_X0_grindAt_X0 (List.mem_of_getElem? (i := 1) rfl) dX0_grindAt_1 ?_
  refine lv_iload_n S.1 S.2.1 dX0_grindAt_4 rfl (lv_at hl 1 rfl) ?_
  refine aC_row (j := j) (i := a) S I hj rfl (by omega) dX0_grindAt_5 ?_
  refine lv_astore_n (lv' := [(2, .ref (ad (7 + 20 * j + a))), (0, .ref (ad (3 + j))), (1, .int (nI a))]) S.1 S.2.1 dX0_grindAt_6 rfl hl (by decide) rfl (fun ls hl => ?_)
  refine lv_aload_n S.1 S.2.1 dX0_grindAt_7 rfl (lv_at hl 0 rfl) ?_
  refine aC_getA (j := j) (i := a) (x := Q 9 a) S I hj (by omega) 9 (by decide) in_X0_grindAt_X1 (List.mem_of_getElem? (i := 2) rfl) (by rw [aq_ug_s]) dX0_grindAt_8 ?_
  refine lv_iconst (v := 2) S.1 S.2.1 dX0_grindAt_11 (by decide) ?_
  refine lv_idiv S.1 S.2.1 dX0_grindAt_12 (by decide) ?_
  refine lv_istore_n (lv' := [(3, .int (Q 9 a / 2)), (2, .ref (ad (7 + 20 * j + a))), (0, .ref (ad (3 + j))), (1, .int (nI a))]) S.1 S.2.1 dX0_grindAt_13 rfl hl (by decide) rfl (fun ls hl => ?_)
  refine lv_aload_n S.1 S.2.1 dX0_grindAt_14 rfl (lv_at hl 2 rfl) ?_
  refine lv_dup S.1 S.2.1 dX0_grindAt_15 rfl ?_
  refine aC_getS (j := j) (x := Q 10 5) S I hj 5 (by decide) (by decide) in_X0_grindAt_X0 (List.mem_of_getElem? (i := 3) rfl) (by rw [aq_ug_s]) dX0_grindAt_16 ?_
  refine lv_aload_n S.1 S.2.1 dX0_grindAt_19 rfl (lv_at hl 1 rfl) ?_
  refine aq_callVi (As := []) (rest := [.int (Q 10 5), .ref (ad (3 + j))]) S (c_X1_grind l hJ (V := V) (Q := Q) (j := j) (i := a) hj (by omega) ) (cwV 0 S.2.2.2.2 gX0_grindAt_X1_grind rfl rfl rfl (by decide +kernel) ⟨Nat.le_of_ble_eq_true rfl, Nat.le_of_ble_eq_true rfl⟩) (aC_recvA (j := j) (i := a) I hj (by omega)) I hl.1 dX0_grindAt_20 rfl rfl (Nat.le_of_ble_eq_true rfl) ⟨by first | decide | (dsimp only; omega), by first | decide | (dsimp only; omega)⟩ (fun H locs I => ?_)
  obtain ⟨M1, hM1⟩ : ∃ z9 : aq_Q, z9 = aq_grindQ Q a := ⟨_, rfl⟩
  rw [← hM1] at I
  refine lv_iadd S.1 S.2.1 dX0_grindAt_23 ?_
  refine aC_putS (V := V) (Q := M1) (j := j) (x := Q 10 5 + aq_grindR Q a) hJ S I hj 5 (by decide) (by decide) in_X0_grindAt_X0 (List.mem_of_getElem? (i := 3) rfl) dX0_grindAt_24 (fun H locs M2 hM2 I => ?_)
  refine lv_aload_n S.1 S.2.1 dX0_grindAt_27 rfl (lv_at hl 2 rfl) ?_
  refine lv_dup S.1 S.2.1 dX0_grindAt_28 rfl ?_
  refine aC_getS (j := j) (x := M2 10 9) S I hj 9 (by decide) (by decide) in_X0_grindAt_X0 (List.mem_of_getElem? (i := 4) rfl) (by rw [aq_ug_s]) dX0_grindAt_29 ?_
  refine lv_iload_n S.1 S.2.1 dX0_grindAt_32 rfl (lv_at hl 0 rfl) ?_
  refine lv_aload_n S.1 S.2.1 dX0_grindAt_33 rfl (lv_at hl 2 rfl) ?_
  refine lv_iload_n S.1 S.2.1 dX0_grindAt_34 rfl (lv_at hl 3 rfl) ?_
  refine lv_iconst (v := 2) S.1 S.2.1 dX0_grindAt_35 (by decide) ?_
  refine lv_iadd S.1 S.2.1 dX0_grindAt_36 ?_
  refine lv_topi (fun x3 (ex3 : x3 = nI a + nI 2) => ?_)
  rw [nI_add] at ex3; subst ex3
  refine lv_iload_n S.1 S.2.1 dX0_grindAt_37 rfl (lv_at hl 0 rfl) ?_
  have hn_M1 : M1 10 3 = nI n := by rw [hM1]; exact (aq_grindQ_n _ _).trans hn
  have hn_M2 : M2 10 3 = nI n := by rw [hM2]; exact (aq_up_i _ _ (by decide)).trans hn_M1
  refine aq_callVi (As := [.int (nI (a + 2)), .int (Q 9 a / 2)]) (rest := [.int (Q 9 a / 2), .int (M2 10 9), .ref (ad (3 + j))]) S (c_X0_pour l hJ (V := V) (Q := M2) (j := j) hj hn_M2 hn20 (a := a + 2) (by omega) (Q 9 a / 2) ) (cwV 2 S.2.2.2.2 gX0_grindAt_X0_pour rfl rfl rfl (by decide +kernel) ⟨Nat.le_of_ble_eq_true rfl, Nat.le_of_ble_eq_true rfl⟩) (aC_recvS (j := j) I hj) I hl.1 dX0_grindAt_38 rfl rfl (Nat.le_of_ble_eq_true rfl) ⟨by first | decide | (dsimp only; omega), by first | decide | (dsimp only; omega)⟩ (fun H locs I => ?_)
  obtain ⟨M4, hM4⟩ : ∃ z9 : aq_Q, z9 = aq_pourQ n M2 (a + 2) (Q 9 a / 2) := ⟨_, rfl⟩
  rw [← hM4] at I
  refine lv_topi (fun x5 (ex5 : x5 = aq_pourR n M2 (a + 2) (Q 9 a / 2)) => ?_)
  refine lv_isub S.1 S.2.1 dX0_grindAt_41 ?_
  refine lv_iadd S.1 S.2.1 dX0_grindAt_42 ?_
  refine aC_putS (V := V) (Q := M4) (j := j) (x := M2 10 9 + ((Q 9 a / 2) - x5)) hJ S I hj 9 (by decide) (by decide) in_X0_grindAt_X0 (List.mem_of_getElem? (i := 4) rfl) dX0_grindAt_43 (fun H locs M6 hM6 I => ?_)
  refine lv_aload_n S.1 S.2.1 dX0_grindAt_46 rfl (lv_at hl 2 rfl) ?_
  refine lv_dup S.1 S.2.1 dX0_grindAt_47 rfl ?_
  refine aC_getS (j := j) (x := M6 10 10) S I hj 10 (by decide) (by decide) in_X0_grindAt_X0 (List.mem_of_getElem? (i := 5) rfl) (by rw [aq_ug_s]) dX0_grindAt_48 ?_
  refine lv_aload_n S.1 S.2.1 dX0_grindAt_51 rfl (lv_at hl 1 rfl) ?_
  refine aC_getA (j := j) (i := a) (x := M6 9 a) S I hj (by omega) 9 (by decide) in_X0_grindAt_X1 (List.mem_of_getElem? (i := 2) rfl) (by rw [aq_ug_s]) dX0_grindAt_52 ?_
  refine lv_iload_n S.1 S.2.1 dX0_grindAt_55 rfl (lv_at hl 0 rfl) ?_
  refine lv_isub S.1 S.2.1 dX0_grindAt_56 ?_
  refine lv_iadd S.1 S.2.1 dX0_grindAt_57 ?_
  refine lv_topi (fun x7 (ex7 : x7 = M6 10 10 + (M6 9 a - (Q 9 a / 2))) => ?_)
  refine aC_putS (V := V) (Q := M6) (j := j) (x := x7) hJ S I hj 10 (by decide) (by decide) in_X0_grindAt_X0 (List.mem_of_getElem? (i := 5) rfl) dX0_grindAt_58 (fun H locs M8 hM8 I => ?_)
  exact aq_vret S.1 S.2.1 hr hlocks I dX0_grindAt_61 (by decide) (by decide) (by subst_vars; rfl)
theorem in_X0_letSpringGive_X0 : ∀ w ∈ wsX00, w ∈ wsX0_letSpringGive := fun _ h => List.mem_cons_of_mem _ (List.mem_append_left _ (List.mem_append_right _ h))
set_option maxHeartbeats 4000000 in
set_option maxRecDepth 100000 in
/-- X0_letSpringGive -/
theorem c_X0_letSpringGive (l : Launch) {D : va_G} {ad : Nat → Nat} {cI cQ : ClassId} (hJ : aq_J 49 ad) {V : aq_V} {Q : aq_Q} {j n : Nat} (hj : j < 2) (hn : Q 10 3 = nI n) (hn20 : n ≤ 20) (o : Int32) : aq_Met l yX0_letSpringGive wsX0_letSpringGive ({ frames := 2, cells := 0, slots := 0, locals := 43 }) D (aC_t cI cQ) 49 ad [.ref (ad (3 + j)), .int o] (aC_w ad cI cQ (aq_ug V j Q)) (aq_Qv D (aC_t cI cQ) 49 ad (aC_w ad cI cQ (aq_ug V j (aq_springQ n Q o)))) 0 0 := by
  refine aq_enter (cc := cX0_letSpringGive) (maxL := 3) (ret := none) (by decide) rfl (Nat.le_of_ble_eq_true rfl) ?_
  intro p e s m below meth c ls S hr hlocks hnm I hl
  have S : CallFix p m c cX0_letSpringGive 3 s _ wsX0_letSpringGive RX0 := S
  have hl : lv_has ls 3 [(0, .ref (ad (3 + j))), (1, .int o)] := hl
  refine lv_aload_n S.1 S.2.1 dX0_letSpringGive_0 rfl (lv_at hl 0 rfl) ?_
  refine lv_dup S.1 S.2.1 dX0_letSpringGive_1 rfl ?_
  refine aC_getS (j := j) (x := Q 10 8) S I hj 8 (by decide) (by decide) in_X0_letSpringGive_X0 (List.mem_of_getElem? (i := 1) rfl) (by rw [aq_ug_s]) dX0_letSpringGive_2 ?_
  refine lv_iload_n S.1 S.2.1 dX0_letSpringGive_5 rfl (lv_at hl 1 rfl) ?_
  refine lv_iadd S.1 S.2.1 dX0_letSpringGive_6 ?_
  refine aC_putS (V := V) (Q := Q) (j := j) (x := Q 10 8 + o) hJ S I hj 8 (by decide) (by decide) in_X0_letSpringGive_X0 (List.mem_of_getElem? (i := 1) rfl) dX0_letSpringGive_7 (fun H locs M1 hM1 I => ?_)
  refine lv_aload_n S.1 S.2.1 dX0_letSpringGive_10 rfl (lv_at hl 0 rfl) ?_
  have hn_M1 : M1 10 3 = nI n := by rw [hM1]; exact (aq_up_i _ _ (by decide)).trans hn
  refine aC_getS (j := j) (x := nI n) S I hj 3 (by decide) (by decide) in_X0_letSpringGive_X0 (List.mem_of_getElem? (i := 2) rfl) (by rw [aq_ug_s]; exact hn_M1) dX0_letSpringGive_11 ?_
  refine lv_if_ne (tgt := 21) S.1 S.2.1 dX0_letSpringGive_14 (by decide) (fun c2 => ?_) (fun c2 => ?_)
  · have c2 : ¬ n = 0 := fun z9 => c2 ((nI_eq (a := n) (b := 0) (by omega) (by omega)).mpr z9)
    refine lv_aload_n S.1 S.2.1 dX0_letSpringGive_21 rfl (lv_at hl 0 rfl) ?_
    refine aC_getR (j := j) S I hj in_X0_letSpringGive_X0 (List.mem_of_getElem? (i := 3) rfl) dX0_letSpringGive_22 ?_
    refine lv_iconst (v := 0) S.1 S.2.1 dX0_letSpringGive_25 (by decide) ?_
    refine aC_row (j := j) (i := 0) S I hj rfl (by omega) dX0_letSpringGive_26 ?_
    refine lv_iload_n S.1 S.2.1 dX0_letSpringGive_27 rfl (lv_at hl 1 rfl) ?_
    refine aq_callVi (As := [.int o]) (rest := []) S (c_X1_fill l hJ (V := V) (Q := M1) (j := j) (i := 0) hj (by omega) o) (cwV 1 S.2.2.2.2 gX0_letSpringGive_X1_fill rfl rfl rfl (by decide +kernel) ⟨Nat.le_of_ble_eq_true rfl, Nat.le_of_ble_eq_true rfl⟩) (aC_recvA (j := j) (i := 0) I hj (by omega)) I hl.1 dX0_letSpringGive_28 rfl rfl (Nat.le_of_ble_eq_true rfl) ⟨by first | decide | (dsimp only; omega), by first | decide | (dsimp only; omega)⟩ (fun H locs I => ?_)
    obtain ⟨M3, hM3⟩ : ∃ z9 : aq_Q, z9 = aq_fillQ M1 0 o := ⟨_, rfl⟩
    rw [← hM3] at I
    refine lv_istore_n (lv' := [(2, .int (aq_fillR M1 0 o)), (0, .ref (ad (3 + j))), (1, .int o)]) S.1 S.2.1 dX0_letSpringGive_31 rfl hl (by decide) rfl (fun ls hl => ?_)
    refine lv_aload_n S.1 S.2.1 dX0_letSpringGive_32 rfl (lv_at hl 1 rfl) ?_
    refine lv_dup S.1 S.2.1 dX0_letSpringGive_33 rfl ?_
    refine aC_getS (j := j) (x := M3 10 9) S I hj 9 (by decide) (by decide) in_X0_letSpringGive_X0 (List.mem_of_getElem? (i := 4) rfl) (by rw [aq_ug_s]) dX0_letSpringGive_34 ?_
    refine lv_iload_n S.1 S.2.1 dX0_letSpringGive_37 rfl (lv_at hl 2 rfl) ?_
    refine lv_iload_n S.1 S.2.1 dX0_letSpringGive_38 rfl (lv_at hl 0 rfl) ?_
    refine lv_isub S.1 S.2.1 dX0_letSpringGive_39 ?_
    refine lv_iadd S.1 S.2.1 dX0_letSpringGive_40 ?_
    refine lv_topi (fun x4 (ex4 : x4 = M3 10 9 + (o - aq_fillR M1 0 o)) => ?_)
    refine aC_putS (V := V) (Q := M3) (j := j) (x := x4) hJ S I hj 9 (by decide) (by decide) in_X0_letSpringGive_X0 (List.mem_of_getElem? (i := 4) rfl) dX0_letSpringGive_41 (fun H locs M5 hM5 I => ?_)
    exact aq_vret S.1 S.2.1 hr hlocks I dX0_letSpringGive_44 (by decide) (by decide) (by subst_vars; first | rfl | (simp only [aq_springQ, if_neg c2]; done) | (simp only [aq_springQ, if_neg c2]; rfl))
  · have c2 : n = 0 := (nI_eq (a := n) (b := 0) (by omega) (by omega)).mp c2
    refine lv_iconst (v := 0) S.1 S.2.1 dX0_letSpringGive_17 (by decide) ?_
    refine lv_goto (tgt := 31) S.1 S.2.1 dX0_letSpringGive_18 (by decide) ?_
    refine lv_istore_n (lv' := [(2, .int 0), (0, .ref (ad (3 + j))), (1, .int o)]) S.1 S.2.1 dX0_letSpringGive_31 rfl hl (by decide) rfl (fun ls hl => ?_)
    refine lv_aload_n S.1 S.2.1 dX0_letSpringGive_32 rfl (lv_at hl 1 rfl) ?_
    refine lv_dup S.1 S.2.1 dX0_letSpringGive_33 rfl ?_
    refine aC_getS (j := j) (x := M1 10 9) S I hj 9 (by decide) (by decide) in_X0_letSpringGive_X0 (List.mem_of_getElem? (i := 4) rfl) (by rw [aq_ug_s]) dX0_letSpringGive_34 ?_
    refine lv_iload_n S.1 S.2.1 dX0_letSpringGive_37 rfl (lv_at hl 2 rfl) ?_
    refine lv_iload_n S.1 S.2.1 dX0_letSpringGive_38 rfl (lv_at hl 0 rfl) ?_
    refine lv_isub S.1 S.2.1 dX0_letSpringGive_39 ?_
    refine lv_iadd S.1 S.2.1 dX0_letSpringGive_40 ?_
    refine aC_putS (V := V) (Q := M1) (j := j) (x := M1 10 9 + (o - 0)) hJ S I hj 9 (by decide) (by decide) in_X0_letSpringGive_X0 (List.mem_of_getElem? (i := 4) rfl) dX0_letSpringGive_41 (fun H locs M6 hM6 I => ?_)
    exact aq_vret S.1 S.2.1 hr hlocks I dX0_letSpringGive_44 (by decide) (by decide) (by subst_vars; first | rfl | (simp only [aq_springQ, if_pos c2]; done) | (simp only [aq_springQ, if_pos c2]; rfl))
theorem in_X0_archAt_X0 : ∀ w ∈ wsX00, w ∈ wsX0_archAt := fun _ h => List.mem_cons_of_mem _ (List.mem_append_right _ h)
set_option maxHeartbeats 4000000 in
set_option maxRecDepth 100000 in
/-- X0_archAt -/
theorem c_X0_archAt (l : Launch) {D : va_G} {ad : Nat → Nat} {cI cQ : ClassId} (hJ : aq_J 49 ad) {V : aq_V} {Q : aq_Q} {j : Nat} (hj : j < 2) {a : Nat} (ha : a < 20) : aq_Met l yX0_archAt wsX0_archAt ({ frames := 0, cells := 0, slots := 0, locals := 0 }) D (aC_t cI cQ) 49 ad [.ref (ad (3 + j)), .int (nI a)] (aC_w ad cI cQ (aq_ug V j Q)) (aq_Qr D (aC_t cI cQ) 49 ad (ad (7 + 20 * j + a)) (aC_w ad cI cQ (aq_ug V j Q))) 0 0 := by
  refine aq_enter (cc := cX0_archAt) (maxL := 2) (ret := some (.object "ArchWater$Arch")) (by decide) rfl (Nat.le_of_ble_eq_true rfl) ?_
  intro p e s m below meth c ls S hr hlocks hnm I hl
  have S : CallFix p m c cX0_archAt 2 s _ wsX0_archAt RX0 := S
  have hl : lv_has ls 2 [(0, .ref (ad (3 + j))), (1, .int (nI a))] := hl
  refine lv_aload_n S.1 S.2.1 dX0_archAt_0 rfl (lv_at hl 0 rfl) ?_
  refine aC_getR (j := j) S I hj in_X0_archAt_X0 (List.mem_of_getElem? (i := 1) rfl) dX0_archAt_1 ?_
  refine lv_iload_n S.1 S.2.1 dX0_archAt_4 rfl (lv_at hl 1 rfl) ?_
  refine aC_row (j := j) (i := a) S I hj rfl (by omega) dX0_archAt_5 ?_
  exact aq_aret S.1 S.2.1 hr (Or.inl ⟨_, rfl⟩) hlocks I dX0_archAt_6 (by decide) (by decide) (by subst_vars; rfl) (by subst_vars; rfl)
theorem in_X0_mostHeightOfNext_X0 : ∀ w ∈ wsX00, w ∈ wsX0_mostHeightOfNext := fun _ h => List.mem_cons_of_mem _ (List.mem_append_left _ (List.mem_append_right _ h))
theorem in_X0_mostHeightOfNext_X1 : ∀ w ∈ wsX10, w ∈ wsX0_mostHeightOfNext := fun _ h => List.mem_cons_of_mem _ (List.mem_append_right _ h)
set_option maxHeartbeats 4000000 in
set_option maxRecDepth 100000 in
/-- X0_mostHeightOfNext -/
theorem c_X0_mostHeightOfNext (l : Launch) {D : va_G} {ad : Nat → Nat} {cI cQ : ClassId} (hJ : aq_J 49 ad) {V : aq_V} {Q : aq_Q} {j n : Nat} (hj : j < 2) (hn : Q 10 3 = nI n) (hn20 : n ≤ 20) : aq_Met l yX0_mostHeightOfNext wsX0_mostHeightOfNext ({ frames := 0, cells := 0, slots := 0, locals := 0 }) D (aC_t cI cQ) 49 ad [.ref (ad (3 + j))] (aC_w ad cI cQ (aq_ug V j Q)) (aq_Qi D (aC_t cI cQ) 49 ad (aq_top n Q) (aC_w ad cI cQ (aq_ug V j Q))) 0 0 := by
  refine aq_enter (cc := cX0_mostHeightOfNext) (maxL := 1) (ret := some .int) (by decide) rfl (Nat.le_of_ble_eq_true rfl) ?_
  intro p e s m below meth c ls S hr hlocks hnm I hl
  have S : CallFix p m c cX0_mostHeightOfNext 1 s _ wsX0_mostHeightOfNext RX0 := S
  have hl : lv_has ls 1 [(0, .ref (ad (3 + j)))] := hl
  refine lv_aload_n S.1 S.2.1 dX0_mostHeightOfNext_0 rfl (lv_at hl 0 rfl) ?_
  refine aC_getS (j := j) (x := nI n) S I hj 3 (by decide) (by decide) in_X0_mostHeightOfNext_X0 (List.mem_of_getElem? (i := 1) rfl) (by rw [aq_ug_s]; exact hn) dX0_mostHeightOfNext_1 ?_
  refine lv_if_ne (tgt := 13) S.1 S.2.1 dX0_mostHeightOfNext_4 (by decide) (fun c1 => ?_) (fun c1 => ?_)
  · have c1 : ¬ n = 0 := fun z9 => c1 ((nI_eq (a := n) (b := 0) (by omega) (by omega)).mpr z9)
    refine lv_aload_n S.1 S.2.1 dX0_mostHeightOfNext_13 rfl (lv_at hl 0 rfl) ?_
    refine aC_getR (j := j) S I hj in_X0_mostHeightOfNext_X0 (List.mem_of_getElem? (i := 2) rfl) dX0_mostHeightOfNext_14 ?_
    refine lv_aload_n S.1 S.2.1 dX0_mostHeightOfNext_17 rfl (lv_at hl 0 rfl) ?_
    refine aC_getS (j := j) (x := nI n) S I hj 3 (by decide) (by decide) in_X0_mostHeightOfNext_X0 (List.mem_of_getElem? (i := 1) rfl) (by rw [aq_ug_s]; exact hn) dX0_mostHeightOfNext_18 ?_
    refine lv_iconst (v := 1) S.1 S.2.1 dX0_mostHeightOfNext_21 (by decide) ?_
    refine lv_isub S.1 S.2.1 dX0_mostHeightOfNext_22 ?_
    refine lv_topi (fun x2 (ex2 : x2 = nI n - nI 1) => ?_)
    rw [pk_sub (by omega)] at ex2; subst ex2
    refine aC_row (j := j) (i := n - 1) S I hj rfl (by omega) dX0_mostHeightOfNext_23 ?_
    refine aC_getA (j := j) (i := n - 1) (x := Q 0 (n - 1)) S I hj (by omega) 0 (by decide) in_X0_mostHeightOfNext_X1 (List.mem_of_getElem? (i := 3) rfl) (by rw [aq_ug_s]) dX0_mostHeightOfNext_24 ?_
    exact aq_iret S.1 S.2.1 hr hlocks I dX0_mostHeightOfNext_27 (by decide) (by decide) (by subst_vars; first | rfl | (simp only [aq_top, if_neg c1]; done) | (simp only [aq_top, if_neg c1]; rfl)) (by subst_vars; first | rfl | (simp only [aq_top, if_neg c1]; done) | (simp only [aq_top, if_neg c1]; rfl))
  · have c1 : n = 0 := (nI_eq (a := n) (b := 0) (by omega) (by omega)).mp c1
    refine lv_sipush (v := 200) S.1 S.2.1 dX0_mostHeightOfNext_7 (by decide) ?_
    refine lv_goto (tgt := 27) S.1 S.2.1 dX0_mostHeightOfNext_10 (by decide) ?_
    exact aq_iret S.1 S.2.1 hr hlocks I dX0_mostHeightOfNext_27 (by decide) (by decide) (by subst_vars; first | rfl | (simp only [aq_top, if_pos c1]; done) | (simp only [aq_top, if_pos c1]; rfl)) (by subst_vars; first | rfl | (simp only [aq_top, if_pos c1]; done) | (simp only [aq_top, if_pos c1]; rfl))
theorem in_X0_addArch_X0 : ∀ w ∈ wsX00, w ∈ wsX0_addArch := fun _ h => List.mem_cons_of_mem _ (List.mem_append_left _ (List.mem_append_right _ h))
theorem in_X0_addArch_X1 : ∀ w ∈ wsX10, w ∈ wsX0_addArch := fun _ h => List.mem_cons_of_mem _ (List.mem_append_right _ h)
set_option maxHeartbeats 4000000 in
set_option maxRecDepth 100000 in
/-- X0_addArch -/
theorem c_X0_addArch (l : Launch) {D : va_G} {ad : Nat → Nat} {cI cQ : ClassId} (hJ : aq_J 49 ad) {V : aq_V} {Q : aq_Q} {j n : Nat} (hj : j < 2) (hn : Q 10 3 = nI n) (hn20 : n < 20) (h z : Int32) : aq_Met l yX0_addArch wsX0_addArch ({ frames := 0, cells := 0, slots := 0, locals := 0 }) D (aC_t cI cQ) 49 ad [.ref (ad (3 + j)), .int h, .int z] (aC_w ad cI cQ (aq_ug V j Q)) (aq_Qi D (aC_t cI cQ) 49 ad (nI n) (aC_w ad cI cQ (aq_ug V j (aq_addQ n Q h z)))) 0 0 := by
  refine aq_enter (cc := cX0_addArch) (maxL := 4) (ret := some .int) (by decide) rfl (Nat.le_of_ble_eq_true rfl) ?_
  intro p e s m below meth c ls S hr hlocks hnm I hl
  have S : CallFix p m c cX0_addArch 4 s _ wsX0_addArch RX0 := S
  have hl : lv_has ls 4 [(0, .ref (ad (3 + j))), (1, .int h), (2, .int z)] := hl
  refine lv_aload_n S.1 S.2.1 dX0_addArch_0 rfl (lv_at hl 0 rfl) ?_
  refine aC_getS (j := j) (x := nI n) S I hj 3 (by decide) (by decide) in_X0_addArch_X0 (List.mem_of_getElem? (i := 1) rfl) (by rw [aq_ug_s]; exact hn) dX0_addArch_1 ?_
  refine lv_istore_n (lv' := [(3, .int (nI n)), (0, .ref (ad (3 + j))), (1, .int h), (2, .int z)]) S.1 S.2.1 dX0_addArch_4 rfl hl (by decide) rfl (fun ls hl => ?_)
  refine lv_aload_n S.1 S.2.1 dX0_addArch_5 rfl (lv_at hl 1 rfl) ?_
  refine aC_getR (j := j) S I hj in_X0_addArch_X0 (List.mem_of_getElem? (i := 2) rfl) dX0_addArch_6 ?_
  refine lv_iload_n S.1 S.2.1 dX0_addArch_9 rfl (lv_at hl 0 rfl) ?_
  refine aC_row (j := j) (i := n) S I hj rfl (by omega) dX0_addArch_10 ?_
  refine lv_iload_n S.1 S.2.1 dX0_addArch_11 rfl (lv_at hl 2 rfl) ?_
  refine aC_putA (V := V) (Q := Q) (j := j) (i := n) (x := h) hJ S I hj (by omega) 0 (by decide) in_X0_addArch_X1 (List.mem_of_getElem? (i := 3) rfl) dX0_addArch_12 (fun H locs M1 hM1 I => ?_)
  refine lv_aload_n S.1 S.2.1 dX0_addArch_15 rfl (lv_at hl 1 rfl) ?_
  refine aC_getR (j := j) S I hj in_X0_addArch_X0 (List.mem_of_getElem? (i := 2) rfl) dX0_addArch_16 ?_
  refine lv_iload_n S.1 S.2.1 dX0_addArch_19 rfl (lv_at hl 0 rfl) ?_
  refine aC_row (j := j) (i := n) S I hj rfl (by omega) dX0_addArch_20 ?_
  refine lv_iload_n S.1 S.2.1 dX0_addArch_21 rfl (lv_at hl 3 rfl) ?_
  refine aC_putA (V := V) (Q := M1) (j := j) (i := n) (x := z) hJ S I hj (by omega) 1 (by decide) in_X0_addArch_X1 (List.mem_of_getElem? (i := 4) rfl) dX0_addArch_22 (fun H locs M2 hM2 I => ?_)
  refine lv_aload_n S.1 S.2.1 dX0_addArch_25 rfl (lv_at hl 1 rfl) ?_
  refine lv_dup S.1 S.2.1 dX0_addArch_26 rfl ?_
  have hn_M1 : M1 10 3 = nI n := by rw [hM1]; exact (aq_up_f _ _ (by decide)).trans hn
  have hn_M2 : M2 10 3 = nI n := by rw [hM2]; exact (aq_up_f _ _ (by decide)).trans hn_M1
  refine aC_getS (j := j) (x := nI n) S I hj 3 (by decide) (by decide) in_X0_addArch_X0 (List.mem_of_getElem? (i := 1) rfl) (by rw [aq_ug_s]; exact hn_M2) dX0_addArch_27 ?_
  refine lv_iconst (v := 1) S.1 S.2.1 dX0_addArch_30 (by decide) ?_
  refine lv_iadd S.1 S.2.1 dX0_addArch_31 ?_
  refine lv_topi (fun x3 (ex3 : x3 = nI n + 1) => ?_)
  rw [nI_1] at ex3; subst ex3
  refine aC_putS (V := V) (Q := M2) (j := j) (x := nI (n + 1)) hJ S I hj 3 (by decide) (by decide) in_X0_addArch_X0 (List.mem_of_getElem? (i := 1) rfl) dX0_addArch_32 (fun H locs M4 hM4 I => ?_)
  refine lv_iload_n S.1 S.2.1 dX0_addArch_35 rfl (lv_at hl 0 rfl) ?_
  exact aq_iret S.1 S.2.1 hr hlocks I dX0_addArch_36 (by decide) (by decide) (by subst_vars; rfl) (by subst_vars; rfl)
theorem in_X0_resizeCistern_X0 : ∀ w ∈ wsX00, w ∈ wsX0_resizeCistern := fun _ h => List.mem_cons_of_mem _ (List.mem_append_right _ h)
set_option maxHeartbeats 4000000 in
set_option maxRecDepth 100000 in
/-- X0_resizeCistern -/
theorem c_X0_resizeCistern (l : Launch) {D : va_G} {ad : Nat → Nat} {cI cQ : ClassId} (hJ : aq_J 49 ad) {V : aq_V} {Q : aq_Q} {j : Nat} (hj : j < 2) (o : Int32) : aq_Met l yX0_resizeCistern wsX0_resizeCistern ({ frames := 1, cells := 0, slots := 0, locals := 21 }) D (aC_t cI cQ) 49 ad [.ref (ad (3 + j)), .int o] (aC_w ad cI cQ (aq_ug V j Q)) (aq_Qi D (aC_t cI cQ) 49 ad (aq_sizeR Q o) (aC_w ad cI cQ (aq_ug V j (aq_sizeQ Q o)))) 0 0 := by
  refine aq_enter (cc := cX0_resizeCistern) (maxL := 3) (ret := some .int) (by decide) rfl (Nat.le_of_ble_eq_true rfl) ?_
  intro p e s m below meth c ls S hr hlocks hnm I hl
  have S : CallFix p m c cX0_resizeCistern 3 s _ wsX0_resizeCistern RX0 := S
  have hl : lv_has ls 3 [(0, .ref (ad (3 + j))), (1, .int o)] := hl
  refine lv_iconst (v := 0) S.1 S.2.1 dX0_resizeCistern_0 (by decide) ?_
  refine lv_aload_n S.1 S.2.1 dX0_resizeCistern_1 rfl (lv_at hl 0 rfl) ?_
  refine aC_getS (j := j) (x := Q 10 7) S I hj 7 (by decide) (by decide) in_X0_resizeCistern_X0 (List.mem_of_getElem? (i := 1) rfl) (by rw [aq_ug_s]) dX0_resizeCistern_2 ?_
  refine lv_iload_n S.1 S.2.1 dX0_resizeCistern_5 rfl (lv_at hl 1 rfl) ?_
  refine lv_isub S.1 S.2.1 dX0_resizeCistern_6 ?_
  refine aq_mmax S hl.1 (List.mem_of_getElem? (i := 2) rfl) (List.mem_of_getElem? (i := 3) rfl) (List.mem_of_getElem? (i := 4) rfl) (List.mem_of_getElem? (i := 5) rfl) (by decide) (Nat.le_of_ble_eq_true rfl) (by decide) (by decide) dX0_resizeCistern_7 ?_
  refine lv_istore_n (lv' := [(2, .int (aq_mx 0 (Q 10 7 - o))), (0, .ref (ad (3 + j))), (1, .int o)]) S.1 S.2.1 dX0_resizeCistern_10 rfl hl (by decide) rfl (fun ls hl => ?_)
  refine lv_aload_n S.1 S.2.1 dX0_resizeCistern_11 rfl (lv_at hl 1 rfl) ?_
  refine lv_iload_n S.1 S.2.1 dX0_resizeCistern_12 rfl (lv_at hl 2 rfl) ?_
  refine aC_putS (V := V) (Q := Q) (j := j) (x := o) hJ S I hj 6 (by decide) (by decide) in_X0_resizeCistern_X0 (List.mem_of_getElem? (i := 6) rfl) dX0_resizeCistern_13 (fun H locs M1 hM1 I => ?_)
  refine lv_aload_n S.1 S.2.1 dX0_resizeCistern_16 rfl (lv_at hl 1 rfl) ?_
  refine lv_dup S.1 S.2.1 dX0_resizeCistern_17 rfl ?_
  refine aC_getS (j := j) (x := M1 10 7) S I hj 7 (by decide) (by decide) in_X0_resizeCistern_X0 (List.mem_of_getElem? (i := 1) rfl) (by rw [aq_ug_s]) dX0_resizeCistern_18 ?_
  refine lv_iload_n S.1 S.2.1 dX0_resizeCistern_21 rfl (lv_at hl 0 rfl) ?_
  refine lv_isub S.1 S.2.1 dX0_resizeCistern_22 ?_
  refine lv_topi (fun x2 (ex2 : x2 = M1 10 7 - (aq_mx 0 (Q 10 7 - o))) => ?_)
  refine aC_putS (V := V) (Q := M1) (j := j) (x := x2) hJ S I hj 7 (by decide) (by decide) in_X0_resizeCistern_X0 (List.mem_of_getElem? (i := 1) rfl) dX0_resizeCistern_23 (fun H locs M3 hM3 I => ?_)
  refine lv_aload_n S.1 S.2.1 dX0_resizeCistern_26 rfl (lv_at hl 1 rfl) ?_
  refine lv_dup S.1 S.2.1 dX0_resizeCistern_27 rfl ?_
  refine aC_getS (j := j) (x := M3 10 9) S I hj 9 (by decide) (by decide) in_X0_resizeCistern_X0 (List.mem_of_getElem? (i := 7) rfl) (by rw [aq_ug_s]) dX0_resizeCistern_28 ?_
  refine lv_iload_n S.1 S.2.1 dX0_resizeCistern_31 rfl (lv_at hl 0 rfl) ?_
  refine lv_iadd S.1 S.2.1 dX0_resizeCistern_32 ?_
  refine lv_topi (fun x4 (ex4 : x4 = M3 10 9 + (aq_mx 0 (Q 10 7 - o))) => ?_)
  refine aC_putS (V := V) (Q := M3) (j := j) (x := x4) hJ S I hj 9 (by decide) (by decide) in_X0_resizeCistern_X0 (List.mem_of_getElem? (i := 7) rfl) dX0_resizeCistern_33 (fun H locs M5 hM5 I => ?_)
  refine lv_iload_n S.1 S.2.1 dX0_resizeCistern_36 rfl (lv_at hl 0 rfl) ?_
  exact aq_iret S.1 S.2.1 hr hlocks I dX0_resizeCistern_37 (by decide) (by decide) (by subst_vars; rfl) (by subst_vars; rfl)
theorem in_X0_archNumber_X0 : ∀ w ∈ wsX00, w ∈ wsX0_archNumber := fun _ h => List.mem_cons_of_mem _ (List.mem_append_left _ (List.mem_append_right _ h))
theorem in_X0_archNumber_X1 : ∀ w ∈ wsX10, w ∈ wsX0_archNumber := fun _ h => List.mem_cons_of_mem _ (List.mem_append_right _ h)
set_option maxHeartbeats 4000000 in
set_option maxRecDepth 100000 in
/-- X0_archNumber -/
theorem c_X0_archNumber (l : Launch) {D : va_G} {ad : Nat → Nat} {cI cQ : ClassId} (hJ : aq_J 49 ad) {V : aq_V} {Q : aq_Q} {j n : Nat} (hj : j < 2) (hn : Q 10 3 = nI n) (hn20 : n ≤ 20) {a : Nat} (ha : a < n) {w : Nat} (hw : w < 9) : aq_Met l yX0_archNumber wsX0_archNumber ({ frames := 2, cells := 0, slots := 0, locals := 43 }) D (aC_t cI cQ) 49 ad [.ref (ad (3 + j)), .int (nI a), .int (nI w)] (aC_w ad cI cQ (aq_ug V j Q)) (aq_Qi D (aC_t cI cQ) 49 ad (aq_archNo n Q a w) (aC_w ad cI cQ (aq_ug V j Q))) 0 0 := by
  refine aq_enter (cc := cX0_archNumber) (maxL := 4) (ret := some .int) (by decide) rfl (Nat.le_of_ble_eq_true rfl) ?_
  intro p e s m below meth c ls S hr hlocks hnm I hl
  have S : CallFix p m c cX0_archNumber 4 s _ wsX0_archNumber RX0 := S
  have hl : lv_has ls 4 [(0, .ref (ad (3 + j))), (1, .int (nI a)), (2, .int (nI w))] := hl
  refine lv_aload_n S.1 S.2.1 dX0_archNumber_0 rfl (lv_at hl 0 rfl) ?_
  refine aC_getR (j := j) S I hj in_X0_archNumber_X0 (List.mem_of_getElem? (i := 1) rfl) dX0_archNumber_1 ?_
  refine lv_iload_n S.1 S.2.1 dX0_archNumber_4 rfl (lv_at hl 1 rfl) ?_
  refine aC_row (j := j) (i := a) S I hj rfl (by omega) dX0_archNumber_5 ?_
  refine lv_astore_n (lv' := [(3, .ref (ad (7 + 20 * j + a))), (0, .ref (ad (3 + j))), (1, .int (nI a)), (2, .int (nI w))]) S.1 S.2.1 dX0_archNumber_6 rfl hl (by decide) rfl (fun ls hl => ?_)
  refine lv_iload_n S.1 S.2.1 dX0_archNumber_7 rfl (lv_at hl 3 rfl) ?_
  rcases (show w = 0 ∨ w = 1 ∨ w = 2 ∨ w = 3 ∨ w = 4 ∨ w = 5 ∨ w = 6 ∨ w = 7 ∨ w = 8 by omega) with rfl | rfl | rfl | rfl | rfl | rfl | rfl | rfl | rfl
  · refine lv_tableIn (x := nI 0) (tgt := 56) S.1 S.2.1 dX0_archNumber_8 (by decide) (by decide) rfl (by decide) ?_
    have hl : lv_has ls 4 [(3, .ref (ad (7 + 20 * j + a))), (0, .ref (ad (3 + j))), (1, .int (nI a)), (2, .int (nI 0))] := hl
    refine lv_aload_n S.1 S.2.1 dX0_archNumber_56 rfl (lv_at hl 0 rfl) ?_
    refine aC_getA (j := j) (i := a) (x := Q 0 a) S I hj (by omega) 0 (by decide) in_X0_archNumber_X1 (List.mem_of_getElem? (i := 2) rfl) (by rw [aq_ug_s]) dX0_archNumber_57 ?_
    exact aq_iret S.1 S.2.1 hr hlocks I dX0_archNumber_60 (by decide) (by decide) (by subst_vars; first | rfl | (simp only [aq_archNo]; done) | (simp only [aq_archNo]; rfl)) (by subst_vars; first | rfl | (simp only [aq_archNo]; done) | (simp only [aq_archNo]; rfl))
  · refine lv_tableIn (x := nI 1) (tgt := 61) S.1 S.2.1 dX0_archNumber_8 (by decide) (by decide) rfl (by decide) ?_
    have hl : lv_has ls 4 [(3, .ref (ad (7 + 20 * j + a))), (0, .ref (ad (3 + j))), (1, .int (nI a)), (2, .int (nI 1))] := hl
    refine lv_aload_n S.1 S.2.1 dX0_archNumber_61 rfl (lv_at hl 0 rfl) ?_
    refine aC_getA (j := j) (i := a) (x := Q 1 a) S I hj (by omega) 1 (by decide) in_X0_archNumber_X1 (List.mem_of_getElem? (i := 3) rfl) (by rw [aq_ug_s]) dX0_archNumber_62 ?_
    exact aq_iret S.1 S.2.1 hr hlocks I dX0_archNumber_65 (by decide) (by decide) (by subst_vars; first | rfl | (simp only [aq_archNo]; done) | (simp only [aq_archNo]; rfl)) (by subst_vars; first | rfl | (simp only [aq_archNo]; done) | (simp only [aq_archNo]; rfl))
  · refine lv_tableIn (x := nI 2) (tgt := 66) S.1 S.2.1 dX0_archNumber_8 (by decide) (by decide) rfl (by decide) ?_
    have hl : lv_has ls 4 [(3, .ref (ad (7 + 20 * j + a))), (0, .ref (ad (3 + j))), (1, .int (nI a)), (2, .int (nI 2))] := hl
    refine lv_aload_n S.1 S.2.1 dX0_archNumber_66 rfl (lv_at hl 0 rfl) ?_
    refine aC_getA (j := j) (i := a) (x := Q 2 a) S I hj (by omega) 2 (by decide) in_X0_archNumber_X1 (List.mem_of_getElem? (i := 4) rfl) (by rw [aq_ug_s]) dX0_archNumber_67 ?_
    exact aq_iret S.1 S.2.1 hr hlocks I dX0_archNumber_70 (by decide) (by decide) (by subst_vars; first | rfl | (simp only [aq_archNo]; done) | (simp only [aq_archNo]; rfl)) (by subst_vars; first | rfl | (simp only [aq_archNo]; done) | (simp only [aq_archNo]; rfl))
  · refine lv_tableIn (x := nI 3) (tgt := 71) S.1 S.2.1 dX0_archNumber_8 (by decide) (by decide) rfl (by decide) ?_
    have hl : lv_has ls 4 [(3, .ref (ad (7 + 20 * j + a))), (0, .ref (ad (3 + j))), (1, .int (nI a)), (2, .int (nI 3))] := hl
    refine lv_aload_n S.1 S.2.1 dX0_archNumber_71 rfl (lv_at hl 0 rfl) ?_
    refine aC_getA (j := j) (i := a) (x := Q 3 a) S I hj (by omega) 3 (by decide) in_X0_archNumber_X1 (List.mem_of_getElem? (i := 5) rfl) (by rw [aq_ug_s]) dX0_archNumber_72 ?_
    exact aq_iret S.1 S.2.1 hr hlocks I dX0_archNumber_75 (by decide) (by decide) (by subst_vars; first | rfl | (simp only [aq_archNo]; done) | (simp only [aq_archNo]; rfl)) (by subst_vars; first | rfl | (simp only [aq_archNo]; done) | (simp only [aq_archNo]; rfl))
  · refine lv_tableIn (x := nI 4) (tgt := 76) S.1 S.2.1 dX0_archNumber_8 (by decide) (by decide) rfl (by decide) ?_
    have hl : lv_has ls 4 [(3, .ref (ad (7 + 20 * j + a))), (0, .ref (ad (3 + j))), (1, .int (nI a)), (2, .int (nI 4))] := hl
    refine lv_aload_n S.1 S.2.1 dX0_archNumber_76 rfl (lv_at hl 0 rfl) ?_
    refine aC_getA (j := j) (i := a) (x := Q 4 a) S I hj (by omega) 4 (by decide) in_X0_archNumber_X1 (List.mem_of_getElem? (i := 6) rfl) (by rw [aq_ug_s]) dX0_archNumber_77 ?_
    exact aq_iret S.1 S.2.1 hr hlocks I dX0_archNumber_80 (by decide) (by decide) (by subst_vars; first | rfl | (simp only [aq_archNo]; done) | (simp only [aq_archNo]; rfl)) (by subst_vars; first | rfl | (simp only [aq_archNo]; done) | (simp only [aq_archNo]; rfl))
  · refine lv_tableIn (x := nI 5) (tgt := 81) S.1 S.2.1 dX0_archNumber_8 (by decide) (by decide) rfl (by decide) ?_
    have hl : lv_has ls 4 [(3, .ref (ad (7 + 20 * j + a))), (0, .ref (ad (3 + j))), (1, .int (nI a)), (2, .int (nI 5))] := hl
    refine lv_aload_n S.1 S.2.1 dX0_archNumber_81 rfl (lv_at hl 1 rfl) ?_
    refine lv_iload_n S.1 S.2.1 dX0_archNumber_82 rfl (lv_at hl 2 rfl) ?_
    refine aq_callVi (As := [.int (nI a)]) (rest := []) S (c_X0_slope l hJ (V := V) (Q := Q) (j := j) hj hn hn20 (a := a) (by omega) ) (cwV 1 S.2.2.2.2 gX0_archNumber_X0_slope rfl rfl rfl (by decide +kernel) ⟨Nat.le_of_ble_eq_true rfl, Nat.le_of_ble_eq_true rfl⟩) (aC_recvS (j := j) I hj) I hl.1 dX0_archNumber_83 rfl rfl (Nat.le_of_ble_eq_true rfl) ⟨by first | decide | (dsimp only; omega), by first | decide | (dsimp only; omega)⟩ (fun H locs I => ?_)
    exact aq_iret S.1 S.2.1 hr hlocks I dX0_archNumber_86 (by decide) (by decide) (by subst_vars; first | rfl | (simp only [aq_archNo]; done) | (simp only [aq_archNo]; rfl)) (by subst_vars; first | rfl | (simp only [aq_archNo]; done) | (simp only [aq_archNo]; rfl))
  · refine lv_tableIn (x := nI 6) (tgt := 87) S.1 S.2.1 dX0_archNumber_8 (by decide) (by decide) rfl (by decide) ?_
    have hl : lv_has ls 4 [(3, .ref (ad (7 + 20 * j + a))), (0, .ref (ad (3 + j))), (1, .int (nI a)), (2, .int (nI 6))] := hl
    refine lv_aload_n S.1 S.2.1 dX0_archNumber_87 rfl (lv_at hl 1 rfl) ?_
    refine lv_iload_n S.1 S.2.1 dX0_archNumber_88 rfl (lv_at hl 2 rfl) ?_
    refine aq_callVi (As := [.int (nI a)]) (rest := []) S (c_X0_rate l hJ (V := V) (Q := Q) (j := j) hj hn hn20 (a := a) (by omega) ) (cwV 1 S.2.2.2.2 gX0_archNumber_X0_rate rfl rfl rfl (by decide +kernel) ⟨Nat.le_of_ble_eq_true rfl, Nat.le_of_ble_eq_true rfl⟩) (aC_recvS (j := j) I hj) I hl.1 dX0_archNumber_89 rfl rfl (Nat.le_of_ble_eq_true rfl) ⟨by first | decide | (dsimp only; omega), by first | decide | (dsimp only; omega)⟩ (fun H locs I => ?_)
    exact aq_iret S.1 S.2.1 hr hlocks I dX0_archNumber_92 (by decide) (by decide) (by subst_vars; first | rfl | (simp only [aq_archNo]; done) | (simp only [aq_archNo]; rfl)) (by subst_vars; first | rfl | (simp only [aq_archNo]; done) | (simp only [aq_archNo]; rfl))
  · refine lv_tableIn (x := nI 7) (tgt := 93) S.1 S.2.1 dX0_archNumber_8 (by decide) (by decide) rfl (by decide) ?_
    have hl : lv_has ls 4 [(3, .ref (ad (7 + 20 * j + a))), (0, .ref (ad (3 + j))), (1, .int (nI a)), (2, .int (nI 7))] := hl
    refine lv_aload_n S.1 S.2.1 dX0_archNumber_93 rfl (lv_at hl 0 rfl) ?_
    refine aC_getA (j := j) (i := a) (x := Q 5 a) S I hj (by omega) 5 (by decide) in_X0_archNumber_X1 (List.mem_of_getElem? (i := 7) rfl) (by rw [aq_ug_s]) dX0_archNumber_94 ?_
    exact aq_iret S.1 S.2.1 hr hlocks I dX0_archNumber_97 (by decide) (by decide) (by subst_vars; first | rfl | (simp only [aq_archNo]; done) | (simp only [aq_archNo]; rfl)) (by subst_vars; first | rfl | (simp only [aq_archNo]; done) | (simp only [aq_archNo]; rfl))
  · refine lv_tableOut (x := nI 8) (tgt := 98) S.1 S.2.1 dX0_archNumber_8 (by decide) (by decide) ?_
    have hl : lv_has ls 4 [(3, .ref (ad (7 + 20 * j + a))), (0, .ref (ad (3 + j))), (1, .int (nI a)), (2, .int (nI 8))] := hl
    refine lv_aload_n S.1 S.2.1 dX0_archNumber_98 rfl (lv_at hl 0 rfl) ?_
    refine aq_callVi (As := []) (rest := []) S (c_X1_hasMill l hJ (V := V) (Q := Q) (j := j) (i := a) hj (by omega) ) (cwV 0 S.2.2.2.2 gX0_archNumber_X1_hasMill rfl rfl rfl (by decide +kernel) ⟨Nat.le_of_ble_eq_true rfl, Nat.le_of_ble_eq_true rfl⟩) (aC_recvA (j := j) (i := a) I hj (by omega)) I hl.1 dX0_archNumber_99 rfl rfl (Nat.le_of_ble_eq_true rfl) ⟨by first | decide | (dsimp only; omega), by first | decide | (dsimp only; omega)⟩ (fun H locs I => ?_)
    refine lv_if_eq (tgt := 109) S.1 S.2.1 dX0_archNumber_102 (by decide) (fun c1 => ?_) (fun c1 => ?_)
    · refine lv_iconst (v := 0) S.1 S.2.1 dX0_archNumber_109 (by decide) ?_
      exact aq_iret S.1 S.2.1 hr hlocks I dX0_archNumber_110 (by decide) (by decide) (by subst_vars; first | rfl | (simp only [aq_archNo, if_pos c1]; done) | (simp only [aq_archNo, if_pos c1]; rfl)) (by subst_vars; first | rfl | (simp only [aq_archNo, if_pos c1]; done) | (simp only [aq_archNo, if_pos c1]; rfl))
    · refine lv_iconst (v := 1) S.1 S.2.1 dX0_archNumber_105 (by decide) ?_
      refine lv_goto (tgt := 110) S.1 S.2.1 dX0_archNumber_106 (by decide) ?_
      exact aq_iret S.1 S.2.1 hr hlocks I dX0_archNumber_110 (by decide) (by decide) (by subst_vars; first | rfl | (simp only [aq_archNo, if_neg c1]; done) | (simp only [aq_archNo, if_neg c1]; rfl)) (by subst_vars; first | rfl | (simp only [aq_archNo, if_neg c1]; done) | (simp only [aq_archNo, if_neg c1]; rfl))
end
section
/-- a method of a class of which some methods are run by an entry instead: this one isn't -/
theorem aq_ofWF {l : Launch} {y : MethodName} {ws ws' : List Cond} {rm : Room} {Pc : Array Value → State → Prop} {Qc : Array Value → State → Outcome → State → Prop} {mc ms : Nat} {free : Addr → Prop} {cc : ByteArray} {maxL : Nat} {ret : Option FieldType}
    (hy : plainFor y = true) (hw : ws = Cond.code y cc maxL ret :: ws')
    (body : ∀ p e s m args below meth c s₁, BodyLoose p l y (headSpec ws rm) cc maxL ret e s m args below meth c s₁ → c.maxLocals = maxL → Pc args s →
      W p l e (headSpec ws rm).room s m args below meth c s.heap [] 0 0 (MQ below Qc args s mc ms free) (entryFrame m args maxL)) : Met l y ws rm Pc Qc mc ms free := by
  refine MetFree.of_bodySF (code := cc) (maxLocals := maxL) (ret := ret) hy ?_ ?_
  · intro args s m h hn
    obtain ⟨meth, c, h1, h2, h3, h4, h5, h6, -, -⟩ := Cond.code_spec hn (atoms_spec (ws := ws) h _ (by rw [hw]; exact List.mem_cons_self))
    exact ⟨meth, c, h1, h2, h3, h4, h5, h6⟩
  · intro p e s m args below meth c s₁ B hml hP _
    have hh0 : s₁.heap = s.heap := by rw [B.state]; rfl
    obtain ⟨t, a1, o, b1, b2, b3⟩ := body p e s m args below meth c s₁ B hml hP s₁ hh0 (Stand.of_body B)
    exact ⟨t, o, a1, b1, b2, ⟨b3.1, b3.2⟩⟩
theorem aq_enterF {l : Launch} {cc : ByteArray} {maxL mc ms N : Nat} {ad : Nat → Nat} {ret : Option FieldType} {ws ws' : List Cond} {rm : Room} {y : MethodName} {D : va_G} {tys : List (ClassId × FieldType)} {w : va_W} {As : List Value} {Qc : Nat → Array Value → State → Outcome → State → Prop} (hy : plainFor y = true) (hw : ws = Cond.code y cc maxL ret :: ws') (hn : (lg_sl As).length ≤ maxL)
    (k : ∀ (p : Program) (e : Env) (s : State) (m : MethodId) (below : List Frame) (meth : Method) (c : Code) (ls : Array Slot), CallFix p m c cc maxL s As.toArray ws y.cls → meth.sig.returnType = ret → meth.locks = false → meth.name = y.name → aq_I D tys (aq_A N ad) w s s.heap [] → lv_has ls maxL (lv_args 0 As) →
      W p l e rm s m As.toArray below meth c s.heap [] 0 0 (MQ below (Qc s.heap.size) As.toArray s mc ms (aq_A N ad s.heap.size)) (F0 m 0 ls [])) :
    aq_Met l y ws rm D tys N ad As w Qc mc ms := by
  intro sz
  refine aq_ofWF (cc := cc) (maxL := maxL) (ret := ret) hy hw ?_
  intro p e s m args below meth c s₁ B hml hv
  obtain ⟨rfl, hsz, hK, hP⟩ := hv
  subst hsz
  have hl := lv_entry As (n := maxL) hn
  rw [lg_entry_eq]
  exact k p e s m below meth c _ ⟨B.exec, B.bytes, hml, findClass_of_methodNamed B.named, atoms_spec (ws := ws) B.pre⟩ B.returns B.notSynchronized (name_of_methodNamed B.named B.method).1 ⟨hK, hP, va_S.rf⟩ hl
set_option maxHeartbeats 4000000 in
set_option maxRecDepth 100000 in
/-- Math.floorMod(h, 24) of an h that is not negative -/
theorem c_J9_floorMod (l : Launch) {D : va_G} {tys : List (ClassId × FieldType)} {N : Nat} {ad : Nat → Nat} {w : va_W} {h d : Nat} (hd : d = h % 24) (h31 : h < 2 ^ 31) : aq_Met l yJ9_floorMod_7cf53 wsJ9_floorMod_7cf53 ({ frames := 0, cells := 0, slots := 0, locals := 0 }) D tys N ad [.int (nI h), .int 24] w (aq_Qi D tys N ad (nI d) w) 0 0 := by
  refine aq_enterF (cc := cJ9_floorMod_7cf53) (maxL := 3) (ret := some .int) (by decide +kernel) rfl (Nat.le_of_ble_eq_true rfl) ?_
  intro p e s m below meth c ls S hr hlocks hnm I hl
  have S : CallFix p m c cJ9_floorMod_7cf53 3 s _ wsJ9_floorMod_7cf53 RJ9 := S
  have hl : lv_has ls 3 [(0, .int (nI h)), (1, .int 24)] := hl
  refine lv_iload_n S.1 S.2.1 dJ9_floorMod_7cf53_0 rfl (lv_at hl 0 rfl) ?_
  refine lv_iload_n S.1 S.2.1 dJ9_floorMod_7cf53_1 rfl (lv_at hl 1 rfl) ?_
  refine lv_irem S.1 S.2.1 dJ9_floorMod_7cf53_2 (by decide) ?_
  refine lv_topi (fun x (ex : x = nI h - nI h / nI 24 * nI 24) => ?_)
  rw [pk_rem h31 (by omega) (by omega), ← hd] at ex
  subst ex
  refine lv_istore_n (lv' := [(2, .int (nI d)), (0, .int (nI h)), (1, .int 24)]) S.1 S.2.1 dJ9_floorMod_7cf53_3 rfl hl (by decide) rfl (fun ls hl => ?_)
  refine lv_iload_n S.1 S.2.1 dJ9_floorMod_7cf53_4 rfl (lv_at hl 1 rfl) ?_
  refine lv_iload_n S.1 S.2.1 dJ9_floorMod_7cf53_5 rfl (lv_at hl 2 rfl) ?_
  refine lv_ixor S.1 S.2.1 dJ9_floorMod_7cf53_6 ?_
  refine lv_if_ge (tgt := 18) S.1 S.2.1 dJ9_floorMod_7cf53_7 (by decide) (fun c1 => ?_) (fun c1 => ?_)
  · refine lv_iload_n S.1 S.2.1 dJ9_floorMod_7cf53_18 rfl (lv_at hl 0 rfl) ?_
    exact aq_iret S.1 S.2.1 hr hlocks I dJ9_floorMod_7cf53_19 (by decide) (by decide) rfl rfl
  · exact absurd (aq_xor24 h31) c1
theorem in_X0_wearAll_X0 : ∀ w ∈ wsX00, w ∈ wsX0_wearAll := fun _ h => List.mem_cons_of_mem _ (List.mem_append_left _ (List.mem_append_right _ h))
set_option maxHeartbeats 4000000 in
set_option maxRecDepth 100000 in
/-- X0_wearAll -/
theorem c_X0_wearAll (l : Launch) {D : va_G} {ad : Nat → Nat} {cI cQ : ClassId} (hJ : aq_J 49 ad) {V : aq_V} {Q : aq_Q} {j n : Nat} (hj : j < 2) (hn : Q 10 3 = nI n) (hn20 : n ≤ 20) : aq_Met l yX0_wearAll wsX0_wearAll ({ frames := 3, cells := 0, slots := 0, locals := 62 }) D (aC_t cI cQ) 49 ad [.ref (ad (3 + j))] (aC_w ad cI cQ (aq_ug V j Q)) (aq_Qv D (aC_t cI cQ) 49 ad (aC_w ad cI cQ (aq_ug V j (aq_wearAll n 0 Q)))) 0 0 := by
  refine aq_enter (cc := cX0_wearAll) (maxL := 2) (ret := none) (by decide) rfl (Nat.le_of_ble_eq_true rfl) ?_
  intro p e s m below meth c ls S hr hlocks hnm I hl
  have S : CallFix p m c cX0_wearAll 2 s _ wsX0_wearAll RX0 := S
  have hl : lv_has ls 2 [(0, .ref (ad (3 + j)))] := hl
  have L2 : ∀ (k : Nat) (i : Nat) (Q' : aq_Q), (i + k = n) → (Q' 10 3 = nI n) → (aq_wearAll k i Q' = aq_wearAll n 0 Q) → ∀ (H : Heap) (locs : List Loc), aq_I D (aC_t cI cQ) (aq_A 49 ad) (aC_w ad cI cQ (aq_ug V j (Q'))) s H locs → ∀ ls : Array Slot, lv_has ls 2 [(1, .int (nI i)), (0, .ref (ad (3 + j)))] → W p l e ({ frames := 3, cells := 0, slots := 0, locals := 62 } : Room) s m (([.ref (ad (3 + j))] : List Value).toArray) below meth c H locs 0 0 (MQ below ((aq_Qv D (aC_t cI cQ) 49 ad (aC_w ad cI cQ (aq_ug V j (aq_wearAll n 0 Q)))) s.heap.size) (([.ref (ad (3 + j))] : List Value).toArray) s 0 0 (aq_A 49 ad s.heap.size)) (F0 m 2 ls []) := by
    intro k
    induction k with
    | zero =>
      intro i Q' hk hn' hq H locs I ls hl
      refine lv_iload_n S.1 S.2.1 dX0_wearAll_2 rfl (lv_at hl 0 rfl) ?_
      refine lv_aload_n S.1 S.2.1 dX0_wearAll_3 rfl (lv_at hl 1 rfl) ?_
      refine aC_getS (j := j) (x := nI n) S I hj 3 (by decide) (by decide) in_X0_wearAll_X0 (List.mem_of_getElem? (i := 1) rfl) (by rw [aq_ug_s]; exact hn') dX0_wearAll_4 ?_
      refine lv_icmp_ge (tgt := 25) S.1 S.2.1 dX0_wearAll_7 (by decide) (fun c1 => ?_) (fun c1 => ?_)
      · have c1 : n ≤ i := (nI_leI (a := n) (b := i) (by omega) (by omega)).mp c1
        exact aq_vret S.1 S.2.1 hr hlocks I dX0_wearAll_25 (by decide) (by decide) (congrArg (fun z => aC_w ad cI cQ (aq_ug V j z)) hq)
      · have c1 : i < n := Nat.lt_of_not_le (fun z9 => c1 ((nI_leI (a := n) (b := i) (by omega) (by omega)).mpr z9))
        exfalso; omega
    | succ k ih =>
      intro i Q' hk hn' hq H locs I ls hl
      refine lv_iload_n S.1 S.2.1 dX0_wearAll_2 rfl (lv_at hl 0 rfl) ?_
      refine lv_aload_n S.1 S.2.1 dX0_wearAll_3 rfl (lv_at hl 1 rfl) ?_
      refine aC_getS (j := j) (x := nI n) S I hj 3 (by decide) (by decide) in_X0_wearAll_X0 (List.mem_of_getElem? (i := 1) rfl) (by rw [aq_ug_s]; exact hn') dX0_wearAll_4 ?_
      refine lv_icmp_ge (tgt := 25) S.1 S.2.1 dX0_wearAll_7 (by decide) (fun c2 => ?_) (fun c2 => ?_)
      · have c2 : n ≤ i := (nI_leI (a := n) (b := i) (by omega) (by omega)).mp c2
        exfalso; omega
      · have c2 : i < n := Nat.lt_of_not_le (fun z9 => c2 ((nI_leI (a := n) (b := i) (by omega) (by omega)).mpr z9))
        refine lv_aload_n S.1 S.2.1 dX0_wearAll_10 rfl (lv_at hl 1 rfl) ?_
        refine aC_getR (j := j) S I hj in_X0_wearAll_X0 (List.mem_of_getElem? (i := 2) rfl) dX0_wearAll_11 ?_
        refine lv_iload_n S.1 S.2.1 dX0_wearAll_14 rfl (lv_at hl 0 rfl) ?_
        refine aC_row (j := j) (i := i) S I hj rfl (by omega) dX0_wearAll_15 ?_
        refine aq_callVv (As := []) (rest := []) S (c_X1_wearOfDay l hJ (V := V) (Q := Q') (j := j) (i := i) hj (by omega) ) (cwV 0 S.2.2.2.2 gX0_wearAll_X1_wearOfDay rfl rfl rfl (by decide +kernel) ⟨Nat.le_of_ble_eq_true rfl, Nat.le_of_ble_eq_true rfl⟩) (aC_recvA (j := j) (i := i) I hj (by omega)) I hl.1 dX0_wearAll_16 rfl rfl (Nat.le_of_ble_eq_true rfl) ⟨by first | decide | (dsimp only; omega), by first | decide | (dsimp only; omega)⟩ (fun H locs I => ?_)
        obtain ⟨M3, hM3⟩ : ∃ z9 : aq_Q, z9 = aq_wearDayQ Q' i := ⟨_, rfl⟩
        rw [← hM3] at I
        refine lv_iinc (v := nI (i + 1)) (lv' := [(1, .int (nI (i + 1))), (0, .ref (ad (3 + j)))]) S.1 S.2.1 dX0_wearAll_19 hl (k := 0) rfl (nI_1 _) (by decide) rfl (fun ls hl => ?_)
        refine lv_goto (tgt := 2) S.1 S.2.1 dX0_wearAll_22 (by decide) ?_
        have hn_M3 : M3 10 3 = nI n := by rw [hM3]; exact (aq_wearDayQ_n _ _).trans hn'
        exact ih (i + 1) M3 (by omega) hn_M3 (by rw [hM3]; exact hq) _ _ I ls (lv_sub hl [0, 1] rfl)
  refine lv_iconst (v := 0) S.1 S.2.1 dX0_wearAll_0 (by decide) ?_
  refine lv_istore_n (lv' := [(1, .int 0), (0, .ref (ad (3 + j)))]) S.1 S.2.1 dX0_wearAll_1 rfl hl (by decide) rfl (fun ls hl => ?_)
  exact L2 n 0 Q (by omega) hn rfl _ _ I ls (lv_sub hl [0, 1] rfl)
theorem in_X0_mills_X0 : ∀ w ∈ wsX00, w ∈ wsX0_mills := fun _ h => List.mem_cons_of_mem _ (List.mem_append_left _ (List.mem_append_right _ h))
set_option maxHeartbeats 4000000 in
set_option maxRecDepth 100000 in
/-- X0_mills -/
theorem c_X0_mills (l : Launch) {D : va_G} {ad : Nat → Nat} {cI cQ : ClassId} (hJ : aq_J 49 ad) {V : aq_V} {Q : aq_Q} {j n : Nat} (hj : j < 2) (hn : Q 10 3 = nI n) (hn20 : n ≤ 20) : aq_Met l yX0_mills wsX0_mills ({ frames := 1, cells := 0, slots := 0, locals := 20 }) D (aC_t cI cQ) 49 ad [.ref (ad (3 + j))] (aC_w ad cI cQ (aq_ug V j Q)) (aq_Qi D (aC_t cI cQ) 49 ad (aq_mills n Q) (aC_w ad cI cQ (aq_ug V j Q))) 0 0 := by
  refine aq_enter (cc := cX0_mills) (maxL := 3) (ret := some .int) (by decide) rfl (Nat.le_of_ble_eq_true rfl) ?_
  intro p e s m below meth c ls S hr hlocks hnm I hl
  have S : CallFix p m c cX0_mills 3 s _ wsX0_mills RX0 := S
  have hl : lv_has ls 3 [(0, .ref (ad (3 + j)))] := hl
  have L4 : ∀ (k : Nat) (i : Nat) (x : Int32), (i + k = n) → (aq_sum (aq_mill1 Q) k i x = aq_mills n Q) → ∀ (H : Heap) (locs : List Loc), aq_I D (aC_t cI cQ) (aq_A 49 ad) (aC_w ad cI cQ (aq_ug V j Q)) s H locs → ∀ ls : Array Slot, lv_has ls 3 [(2, .int (nI i)), (1, .int x), (0, .ref (ad (3 + j)))] → W p l e ({ frames := 1, cells := 0, slots := 0, locals := 20 } : Room) s m (([.ref (ad (3 + j))] : List Value).toArray) below meth c H locs 0 0 (MQ below ((aq_Qi D (aC_t cI cQ) 49 ad (aq_mills n Q) (aC_w ad cI cQ (aq_ug V j Q))) s.heap.size) (([.ref (ad (3 + j))] : List Value).toArray) s 0 0 (aq_A 49 ad s.heap.size)) (F0 m 4 ls []) := by
    intro k
    induction k with
    | zero =>
      intro i x hk hq H locs I ls hl
      refine lv_iload_n S.1 S.2.1 dX0_mills_4 rfl (lv_at hl 0 rfl) ?_
      refine lv_aload_n S.1 S.2.1 dX0_mills_5 rfl (lv_at hl 2 rfl) ?_
      refine aC_getS (j := j) (x := nI n) S I hj 3 (by decide) (by decide) in_X0_mills_X0 (List.mem_of_getElem? (i := 1) rfl) (by rw [aq_ug_s]; exact hn) dX0_mills_6 ?_
      refine lv_icmp_ge (tgt := 38) S.1 S.2.1 dX0_mills_9 (by decide) (fun c1 => ?_) (fun c1 => ?_)
      · have c1 : n ≤ i := (nI_leI (a := n) (b := i) (by omega) (by omega)).mp c1
        refine lv_iload_n S.1 S.2.1 dX0_mills_38 rfl (lv_at hl 1 rfl) ?_
        exact aq_iret S.1 S.2.1 hr hlocks I dX0_mills_39 (by decide) (by decide) hq rfl
      · have c1 : i < n := Nat.lt_of_not_le (fun z9 => c1 ((nI_leI (a := n) (b := i) (by omega) (by omega)).mpr z9))
        exfalso; omega
    | succ k ih =>
      intro i x hk hq H locs I ls hl
      refine lv_iload_n S.1 S.2.1 dX0_mills_4 rfl (lv_at hl 0 rfl) ?_
      refine lv_aload_n S.1 S.2.1 dX0_mills_5 rfl (lv_at hl 2 rfl) ?_
      refine aC_getS (j := j) (x := nI n) S I hj 3 (by decide) (by decide) in_X0_mills_X0 (List.mem_of_getElem? (i := 1) rfl) (by rw [aq_ug_s]; exact hn) dX0_mills_6 ?_
      refine lv_icmp_ge (tgt := 38) S.1 S.2.1 dX0_mills_9 (by decide) (fun c2 => ?_) (fun c2 => ?_)
      · have c2 : n ≤ i := (nI_leI (a := n) (b := i) (by omega) (by omega)).mp c2
        exfalso; omega
      · have c2 : i < n := Nat.lt_of_not_le (fun z9 => c2 ((nI_leI (a := n) (b := i) (by omega) (by omega)).mpr z9))
        refine lv_iload_n S.1 S.2.1 dX0_mills_12 rfl (lv_at hl 1 rfl) ?_
        refine lv_aload_n S.1 S.2.1 dX0_mills_13 rfl (lv_at hl 2 rfl) ?_
        refine aC_getR (j := j) S I hj in_X0_mills_X0 (List.mem_of_getElem? (i := 2) rfl) dX0_mills_14 ?_
        refine lv_iload_n S.1 S.2.1 dX0_mills_17 rfl (lv_at hl 0 rfl) ?_
        refine aC_row (j := j) (i := i) S I hj rfl (by omega) dX0_mills_18 ?_
        refine aq_callVi (As := []) (rest := [.int x]) S (c_X1_hasMill l hJ (V := V) (Q := Q) (j := j) (i := i) hj (by omega) ) (cwV 0 S.2.2.2.2 gX0_mills_X1_hasMill rfl rfl rfl (by decide +kernel) ⟨Nat.le_of_ble_eq_true rfl, Nat.le_of_ble_eq_true rfl⟩) (aC_recvA (j := j) (i := i) I hj (by omega)) I hl.1 dX0_mills_19 rfl rfl (Nat.le_of_ble_eq_true rfl) ⟨by first | decide | (dsimp only; omega), by first | decide | (dsimp only; omega)⟩ (fun H locs I => ?_)
        refine lv_if_eq (tgt := 29) S.1 S.2.1 dX0_mills_22 (by decide) (fun c3 => ?_) (fun c3 => ?_)
        · refine lv_iconst (v := 0) S.1 S.2.1 dX0_mills_29 (by decide) ?_
          refine lv_iadd S.1 S.2.1 dX0_mills_30 ?_
          refine lv_istore_n (lv' := [(1, .int (x + 0)), (2, .int (nI i)), (0, .ref (ad (3 + j)))]) S.1 S.2.1 dX0_mills_31 rfl hl (by decide) rfl (fun ls hl => ?_)
          refine lv_iinc (v := nI (i + 1)) (lv' := [(2, .int (nI (i + 1))), (1, .int (x + 0)), (0, .ref (ad (3 + j)))]) S.1 S.2.1 dX0_mills_32 hl (k := 1) rfl (nI_1 _) (by decide) rfl (fun ls hl => ?_)
          refine lv_goto (tgt := 4) S.1 S.2.1 dX0_mills_35 (by decide) ?_
          exact ih (i + 1) (x + 0) (by omega) (by rw [← show x + aq_mill1 Q i = x + 0 from by rw [aq_mill1, if_pos c3]]; exact hq) _ _ I ls (lv_sub hl [0, 1, 2] rfl)
        · refine lv_iconst (v := 1) S.1 S.2.1 dX0_mills_25 (by decide) ?_
          refine lv_goto (tgt := 30) S.1 S.2.1 dX0_mills_26 (by decide) ?_
          refine lv_iadd S.1 S.2.1 dX0_mills_30 ?_
          refine lv_istore_n (lv' := [(1, .int (x + 1)), (2, .int (nI i)), (0, .ref (ad (3 + j)))]) S.1 S.2.1 dX0_mills_31 rfl hl (by decide) rfl (fun ls hl => ?_)
          refine lv_iinc (v := nI (i + 1)) (lv' := [(2, .int (nI (i + 1))), (1, .int (x + 1)), (0, .ref (ad (3 + j)))]) S.1 S.2.1 dX0_mills_32 hl (k := 1) rfl (nI_1 _) (by decide) rfl (fun ls hl => ?_)
          refine lv_goto (tgt := 4) S.1 S.2.1 dX0_mills_35 (by decide) ?_
          exact ih (i + 1) (x + 1) (by omega) (by rw [← show x + aq_mill1 Q i = x + 1 from by rw [aq_mill1, if_neg c3]]; exact hq) _ _ I ls (lv_sub hl [0, 1, 2] rfl)
  refine lv_iconst (v := 0) S.1 S.2.1 dX0_mills_0 (by decide) ?_
  refine lv_istore_n (lv' := [(1, .int 0), (0, .ref (ad (3 + j)))]) S.1 S.2.1 dX0_mills_1 rfl hl (by decide) rfl (fun ls hl => ?_)
  refine lv_iconst (v := 0) S.1 S.2.1 dX0_mills_2 (by decide) ?_
  refine lv_istore_n (lv' := [(2, .int 0), (1, .int 0), (0, .ref (ad (3 + j)))]) S.1 S.2.1 dX0_mills_3 rfl hl (by decide) rfl (fun ls hl => ?_)
  exact L4 n 0 0 (by omega) rfl _ _ I ls (lv_sub hl [0, 1, 2] rfl)
theorem in_X0_water_X0 : ∀ w ∈ wsX00, w ∈ wsX0_water := fun _ h => List.mem_cons_of_mem _ (List.mem_append_left _ (List.mem_append_right _ h))
theorem in_X0_water_X1 : ∀ w ∈ wsX10, w ∈ wsX0_water := fun _ h => List.mem_cons_of_mem _ (List.mem_append_right _ h)
set_option maxHeartbeats 4000000 in
set_option maxRecDepth 100000 in
/-- X0_water -/
theorem c_X0_water (l : Launch) {D : va_G} {ad : Nat → Nat} {cI cQ : ClassId} (hJ : aq_J 49 ad) {V : aq_V} {Q : aq_Q} {j n : Nat} (hj : j < 2) (hn : Q 10 3 = nI n) (hn20 : n ≤ 20) : aq_Met l yX0_water wsX0_water ({ frames := 0, cells := 0, slots := 0, locals := 0 }) D (aC_t cI cQ) 49 ad [.ref (ad (3 + j))] (aC_w ad cI cQ (aq_ug V j Q)) (aq_Qi D (aC_t cI cQ) 49 ad (aq_over n 2 Q) (aC_w ad cI cQ (aq_ug V j Q))) 0 0 := by
  refine aq_enter (cc := cX0_water) (maxL := 3) (ret := some .int) (by decide) rfl (Nat.le_of_ble_eq_true rfl) ?_
  intro p e s m below meth c ls S hr hlocks hnm I hl
  have S : CallFix p m c cX0_water 3 s _ wsX0_water RX0 := S
  have hl : lv_has ls 3 [(0, .ref (ad (3 + j)))] := hl
  have L4 : ∀ (k : Nat) (i : Nat) (x : Int32), (i + k = n) → (aq_sum (Q 2) k i x = aq_over n 2 Q) → ∀ (H : Heap) (locs : List Loc), aq_I D (aC_t cI cQ) (aq_A 49 ad) (aC_w ad cI cQ (aq_ug V j Q)) s H locs → ∀ ls : Array Slot, lv_has ls 3 [(2, .int (nI i)), (1, .int x), (0, .ref (ad (3 + j)))] → W p l e ({ frames := 0, cells := 0, slots := 0, locals := 0 } : Room) s m (([.ref (ad (3 + j))] : List Value).toArray) below meth c H locs 0 0 (MQ below ((aq_Qi D (aC_t cI cQ) 49 ad (aq_over n 2 Q) (aC_w ad cI cQ (aq_ug V j Q))) s.heap.size) (([.ref (ad (3 + j))] : List Value).toArray) s 0 0 (aq_A 49 ad s.heap.size)) (F0 m 4 ls []) := by
    intro k
    induction k with
    | zero =>
      intro i x hk hq H locs I ls hl
      refine lv_iload_n S.1 S.2.1 dX0_water_4 rfl (lv_at hl 0 rfl) ?_
      refine lv_aload_n S.1 S.2.1 dX0_water_5 rfl (lv_at hl 2 rfl) ?_
      refine aC_getS (j := j) (x := nI n) S I hj 3 (by decide) (by decide) in_X0_water_X0 (List.mem_of_getElem? (i := 1) rfl) (by rw [aq_ug_s]; exact hn) dX0_water_6 ?_
      refine lv_icmp_ge (tgt := 30) S.1 S.2.1 dX0_water_9 (by decide) (fun c1 => ?_) (fun c1 => ?_)
      · have c1 : n ≤ i := (nI_leI (a := n) (b := i) (by omega) (by omega)).mp c1
        refine lv_iload_n S.1 S.2.1 dX0_water_30 rfl (lv_at hl 1 rfl) ?_
        exact aq_iret S.1 S.2.1 hr hlocks I dX0_water_31 (by decide) (by decide) hq rfl
      · have c1 : i < n := Nat.lt_of_not_le (fun z9 => c1 ((nI_leI (a := n) (b := i) (by omega) (by omega)).mpr z9))
        exfalso; omega
    | succ k ih =>
      intro i x hk hq H locs I ls hl
      refine lv_iload_n S.1 S.2.1 dX0_water_4 rfl (lv_at hl 0 rfl) ?_
      refine lv_aload_n S.1 S.2.1 dX0_water_5 rfl (lv_at hl 2 rfl) ?_
      refine aC_getS (j := j) (x := nI n) S I hj 3 (by decide) (by decide) in_X0_water_X0 (List.mem_of_getElem? (i := 1) rfl) (by rw [aq_ug_s]; exact hn) dX0_water_6 ?_
      refine lv_icmp_ge (tgt := 30) S.1 S.2.1 dX0_water_9 (by decide) (fun c2 => ?_) (fun c2 => ?_)
      · have c2 : n ≤ i := (nI_leI (a := n) (b := i) (by omega) (by omega)).mp c2
        exfalso; omega
      · have c2 : i < n := Nat.lt_of_not_le (fun z9 => c2 ((nI_leI (a := n) (b := i) (by omega) (by omega)).mpr z9))
        refine lv_iload_n S.1 S.2.1 dX0_water_12 rfl (lv_at hl 1 rfl) ?_
        refine lv_aload_n S.1 S.2.1 dX0_water_13 rfl (lv_at hl 2 rfl) ?_
        refine aC_getR (j := j) S I hj in_X0_water_X0 (List.mem_of_getElem? (i := 2) rfl) dX0_water_14 ?_
        refine lv_iload_n S.1 S.2.1 dX0_water_17 rfl (lv_at hl 0 rfl) ?_
        refine aC_row (j := j) (i := i) S I hj rfl (by omega) dX0_water_18 ?_
        refine aC_getA (j := j) (i := i) (x := Q 2 i) S I hj (by omega) 2 (by decide) in_X0_water_X1 (List.mem_of_getElem? (i := 3) rfl) (by rw [aq_ug_s]) dX0_water_19 ?_
        refine lv_iadd S.1 S.2.1 dX0_water_22 ?_
        refine lv_istore_n (lv' := [(1, .int (x + Q 2 i)), (2, .int (nI i)), (0, .ref (ad (3 + j)))]) S.1 S.2.1 dX0_water_23 rfl hl (by decide) rfl (fun ls hl => ?_)
        refine lv_iinc (v := nI (i + 1)) (lv' := [(2, .int (nI (i + 1))), (1, .int (x + Q 2 i)), (0, .ref (ad (3 + j)))]) S.1 S.2.1 dX0_water_24 hl (k := 1) rfl (nI_1 _) (by decide) rfl (fun ls hl => ?_)
        refine lv_goto (tgt := 4) S.1 S.2.1 dX0_water_27 (by decide) ?_
        exact ih (i + 1) (x + Q 2 i) (by omega) hq _ _ I ls (lv_sub hl [0, 1, 2] rfl)
  refine lv_iconst (v := 0) S.1 S.2.1 dX0_water_0 (by decide) ?_
  refine lv_istore_n (lv' := [(1, .int 0), (0, .ref (ad (3 + j)))]) S.1 S.2.1 dX0_water_1 rfl hl (by decide) rfl (fun ls hl => ?_)
  refine lv_iconst (v := 0) S.1 S.2.1 dX0_water_2 (by decide) ?_
  refine lv_istore_n (lv' := [(2, .int 0), (1, .int 0), (0, .ref (ad (3 + j)))]) S.1 S.2.1 dX0_water_3 rfl hl (by decide) rfl (fun ls hl => ?_)
  exact L4 n 0 0 (by omega) rfl _ _ I ls (lv_sub hl [0, 1, 2] rfl)
theorem in_X0_leaked_X0 : ∀ w ∈ wsX00, w ∈ wsX0_leaked := fun _ h => List.mem_cons_of_mem _ (List.mem_append_left _ (List.mem_append_right _ h))
theorem in_X0_leaked_X1 : ∀ w ∈ wsX10, w ∈ wsX0_leaked := fun _ h => List.mem_cons_of_mem _ (List.mem_append_right _ h)
set_option maxHeartbeats 4000000 in
set_option maxRecDepth 100000 in
/-- X0_leaked -/
theorem c_X0_leaked (l : Launch) {D : va_G} {ad : Nat → Nat} {cI cQ : ClassId} (hJ : aq_J 49 ad) {V : aq_V} {Q : aq_Q} {j n : Nat} (hj : j < 2) (hn : Q 10 3 = nI n) (hn20 : n ≤ 20) : aq_Met l yX0_leaked wsX0_leaked ({ frames := 0, cells := 0, slots := 0, locals := 0 }) D (aC_t cI cQ) 49 ad [.ref (ad (3 + j))] (aC_w ad cI cQ (aq_ug V j Q)) (aq_Qi D (aC_t cI cQ) 49 ad (aq_over n 5 Q) (aC_w ad cI cQ (aq_ug V j Q))) 0 0 := by
  refine aq_enter (cc := cX0_leaked) (maxL := 3) (ret := some .int) (by decide) rfl (Nat.le_of_ble_eq_true rfl) ?_
  intro p e s m below meth c ls S hr hlocks hnm I hl
  have S : CallFix p m c cX0_leaked 3 s _ wsX0_leaked RX0 := S
  have hl : lv_has ls 3 [(0, .ref (ad (3 + j)))] := hl
  have L4 : ∀ (k : Nat) (i : Nat) (x : Int32), (i + k = n) → (aq_sum (Q 5) k i x = aq_over n 5 Q) → ∀ (H : Heap) (locs : List Loc), aq_I D (aC_t cI cQ) (aq_A 49 ad) (aC_w ad cI cQ (aq_ug V j Q)) s H locs → ∀ ls : Array Slot, lv_has ls 3 [(2, .int (nI i)), (1, .int x), (0, .ref (ad (3 + j)))] → W p l e ({ frames := 0, cells := 0, slots := 0, locals := 0 } : Room) s m (([.ref (ad (3 + j))] : List Value).toArray) below meth c H locs 0 0 (MQ below ((aq_Qi D (aC_t cI cQ) 49 ad (aq_over n 5 Q) (aC_w ad cI cQ (aq_ug V j Q))) s.heap.size) (([.ref (ad (3 + j))] : List Value).toArray) s 0 0 (aq_A 49 ad s.heap.size)) (F0 m 4 ls []) := by
    intro k
    induction k with
    | zero =>
      intro i x hk hq H locs I ls hl
      refine lv_iload_n S.1 S.2.1 dX0_leaked_4 rfl (lv_at hl 0 rfl) ?_
      refine lv_aload_n S.1 S.2.1 dX0_leaked_5 rfl (lv_at hl 2 rfl) ?_
      refine aC_getS (j := j) (x := nI n) S I hj 3 (by decide) (by decide) in_X0_leaked_X0 (List.mem_of_getElem? (i := 1) rfl) (by rw [aq_ug_s]; exact hn) dX0_leaked_6 ?_
      refine lv_icmp_ge (tgt := 30) S.1 S.2.1 dX0_leaked_9 (by decide) (fun c1 => ?_) (fun c1 => ?_)
      · have c1 : n ≤ i := (nI_leI (a := n) (b := i) (by omega) (by omega)).mp c1
        refine lv_iload_n S.1 S.2.1 dX0_leaked_30 rfl (lv_at hl 1 rfl) ?_
        exact aq_iret S.1 S.2.1 hr hlocks I dX0_leaked_31 (by decide) (by decide) hq rfl
      · have c1 : i < n := Nat.lt_of_not_le (fun z9 => c1 ((nI_leI (a := n) (b := i) (by omega) (by omega)).mpr z9))
        exfalso; omega
    | succ k ih =>
      intro i x hk hq H locs I ls hl
      refine lv_iload_n S.1 S.2.1 dX0_leaked_4 rfl (lv_at hl 0 rfl) ?_
      refine lv_aload_n S.1 S.2.1 dX0_leaked_5 rfl (lv_at hl 2 rfl) ?_
      refine aC_getS (j := j) (x := nI n) S I hj 3 (by decide) (by decide) in_X0_leaked_X0 (List.mem_of_getElem? (i := 1) rfl) (by rw [aq_ug_s]; exact hn) dX0_leaked_6 ?_
      refine lv_icmp_ge (tgt := 30) S.1 S.2.1 dX0_leaked_9 (by decide) (fun c2 => ?_) (fun c2 => ?_)
      · have c2 : n ≤ i := (nI_leI (a := n) (b := i) (by omega) (by omega)).mp c2
        exfalso; omega
      · have c2 : i < n := Nat.lt_of_not_le (fun z9 => c2 ((nI_leI (a := n) (b := i) (by omega) (by omega)).mpr z9))
        refine lv_iload_n S.1 S.2.1 dX0_leaked_12 rfl (lv_at hl 1 rfl) ?_
        refine lv_aload_n S.1 S.2.1 dX0_leaked_13 rfl (lv_at hl 2 rfl) ?_
        refine aC_getR (j := j) S I hj in_X0_leaked_X0 (List.mem_of_getElem? (i := 2) rfl) dX0_leaked_14 ?_
        refine lv_iload_n S.1 S.2.1 dX0_leaked_17 rfl (lv_at hl 0 rfl) ?_
        refine aC_row (j := j) (i := i) S I hj rfl (by omega) dX0_leaked_18 ?_
        refine aC_getA (j := j) (i := i) (x := Q 5 i) S I hj (by omega) 5 (by decide) in_X0_leaked_X1 (List.mem_of_getElem? (i := 3) rfl) (by rw [aq_ug_s]) dX0_leaked_19 ?_
        refine lv_iadd S.1 S.2.1 dX0_leaked_22 ?_
        refine lv_istore_n (lv' := [(1, .int (x + Q 5 i)), (2, .int (nI i)), (0, .ref (ad (3 + j)))]) S.1 S.2.1 dX0_leaked_23 rfl hl (by decide) rfl (fun ls hl => ?_)
        refine lv_iinc (v := nI (i + 1)) (lv' := [(2, .int (nI (i + 1))), (1, .int (x + Q 5 i)), (0, .ref (ad (3 + j)))]) S.1 S.2.1 dX0_leaked_24 hl (k := 1) rfl (nI_1 _) (by decide) rfl (fun ls hl => ?_)
        refine lv_goto (tgt := 4) S.1 S.2.1 dX0_leaked_27 (by decide) ?_
        exact ih (i + 1) (x + Q 5 i) (by omega) hq _ _ I ls (lv_sub hl [0, 1, 2] rfl)
  refine lv_iconst (v := 0) S.1 S.2.1 dX0_leaked_0 (by decide) ?_
  refine lv_istore_n (lv' := [(1, .int 0), (0, .ref (ad (3 + j)))]) S.1 S.2.1 dX0_leaked_1 rfl hl (by decide) rfl (fun ls hl => ?_)
  refine lv_iconst (v := 0) S.1 S.2.1 dX0_leaked_2 (by decide) ?_
  refine lv_istore_n (lv' := [(2, .int 0), (1, .int 0), (0, .ref (ad (3 + j)))]) S.1 S.2.1 dX0_leaked_3 rfl hl (by decide) rfl (fun ls hl => ?_)
  exact L4 n 0 0 (by omega) rfl _ _ I ls (lv_sub hl [0, 1, 2] rfl)
theorem in_X0_flour_X0 : ∀ w ∈ wsX00, w ∈ wsX0_flour := fun _ h => List.mem_cons_of_mem _ (List.mem_append_left _ (List.mem_append_right _ h))
theorem in_X0_flour_X1 : ∀ w ∈ wsX10, w ∈ wsX0_flour := fun _ h => List.mem_cons_of_mem _ (List.mem_append_right _ h)
set_option maxHeartbeats 4000000 in
set_option maxRecDepth 100000 in
/-- X0_flour -/
theorem c_X0_flour (l : Launch) {D : va_G} {ad : Nat → Nat} {cI cQ : ClassId} (hJ : aq_J 49 ad) {V : aq_V} {Q : aq_Q} {j n : Nat} (hj : j < 2) (hn : Q 10 3 = nI n) (hn20 : n ≤ 20) : aq_Met l yX0_flour wsX0_flour ({ frames := 0, cells := 0, slots := 0, locals := 0 }) D (aC_t cI cQ) 49 ad [.ref (ad (3 + j))] (aC_w ad cI cQ (aq_ug V j Q)) (aq_Qi D (aC_t cI cQ) 49 ad (aq_over n 8 Q) (aC_w ad cI cQ (aq_ug V j Q))) 0 0 := by
  refine aq_enter (cc := cX0_flour) (maxL := 3) (ret := some .int) (by decide) rfl (Nat.le_of_ble_eq_true rfl) ?_
  intro p e s m below meth c ls S hr hlocks hnm I hl
  have S : CallFix p m c cX0_flour 3 s _ wsX0_flour RX0 := S
  have hl : lv_has ls 3 [(0, .ref (ad (3 + j)))] := hl
  have L4 : ∀ (k : Nat) (i : Nat) (x : Int32), (i + k = n) → (aq_sum (Q 8) k i x = aq_over n 8 Q) → ∀ (H : Heap) (locs : List Loc), aq_I D (aC_t cI cQ) (aq_A 49 ad) (aC_w ad cI cQ (aq_ug V j Q)) s H locs → ∀ ls : Array Slot, lv_has ls 3 [(2, .int (nI i)), (1, .int x), (0, .ref (ad (3 + j)))] → W p l e ({ frames := 0, cells := 0, slots := 0, locals := 0 } : Room) s m (([.ref (ad (3 + j))] : List Value).toArray) below meth c H locs 0 0 (MQ below ((aq_Qi D (aC_t cI cQ) 49 ad (aq_over n 8 Q) (aC_w ad cI cQ (aq_ug V j Q))) s.heap.size) (([.ref (ad (3 + j))] : List Value).toArray) s 0 0 (aq_A 49 ad s.heap.size)) (F0 m 4 ls []) := by
    intro k
    induction k with
    | zero =>
      intro i x hk hq H locs I ls hl
      refine lv_iload_n S.1 S.2.1 dX0_flour_4 rfl (lv_at hl 0 rfl) ?_
      refine lv_aload_n S.1 S.2.1 dX0_flour_5 rfl (lv_at hl 2 rfl) ?_
      refine aC_getS (j := j) (x := nI n) S I hj 3 (by decide) (by decide) in_X0_flour_X0 (List.mem_of_getElem? (i := 1) rfl) (by rw [aq_ug_s]; exact hn) dX0_flour_6 ?_
      refine lv_icmp_ge (tgt := 30) S.1 S.2.1 dX0_flour_9 (by decide) (fun c1 => ?_) (fun c1 => ?_)
      · have c1 : n ≤ i := (nI_leI (a := n) (b := i) (by omega) (by omega)).mp c1
        refine lv_iload_n S.1 S.2.1 dX0_flour_30 rfl (lv_at hl 1 rfl) ?_
        exact aq_iret S.1 S.2.1 hr hlocks I dX0_flour_31 (by decide) (by decide) hq rfl
      · have c1 : i < n := Nat.lt_of_not_le (fun z9 => c1 ((nI_leI (a := n) (b := i) (by omega) (by omega)).mpr z9))
        exfalso; omega
    | succ k ih =>
      intro i x hk hq H locs I ls hl
      refine lv_iload_n S.1 S.2.1 dX0_flour_4 rfl (lv_at hl 0 rfl) ?_
      refine lv_aload_n S.1 S.2.1 dX0_flour_5 rfl (lv_at hl 2 rfl) ?_
      refine aC_getS (j := j) (x := nI n) S I hj 3 (by decide) (by decide) in_X0_flour_X0 (List.mem_of_getElem? (i := 1) rfl) (by rw [aq_ug_s]; exact hn) dX0_flour_6 ?_
      refine lv_icmp_ge (tgt := 30) S.1 S.2.1 dX0_flour_9 (by decide) (fun c2 => ?_) (fun c2 => ?_)
      · have c2 : n ≤ i := (nI_leI (a := n) (b := i) (by omega) (by omega)).mp c2
        exfalso; omega
      · have c2 : i < n := Nat.lt_of_not_le (fun z9 => c2 ((nI_leI (a := n) (b := i) (by omega) (by omega)).mpr z9))
        refine lv_iload_n S.1 S.2.1 dX0_flour_12 rfl (lv_at hl 1 rfl) ?_
        refine lv_aload_n S.1 S.2.1 dX0_flour_13 rfl (lv_at hl 2 rfl) ?_
        refine aC_getR (j := j) S I hj in_X0_flour_X0 (List.mem_of_getElem? (i := 2) rfl) dX0_flour_14 ?_
        refine lv_iload_n S.1 S.2.1 dX0_flour_17 rfl (lv_at hl 0 rfl) ?_
        refine aC_row (j := j) (i := i) S I hj rfl (by omega) dX0_flour_18 ?_
        refine aC_getA (j := j) (i := i) (x := Q 8 i) S I hj (by omega) 8 (by decide) in_X0_flour_X1 (List.mem_of_getElem? (i := 3) rfl) (by rw [aq_ug_s]) dX0_flour_19 ?_
        refine lv_iadd S.1 S.2.1 dX0_flour_22 ?_
        refine lv_istore_n (lv' := [(1, .int (x + Q 8 i)), (2, .int (nI i)), (0, .ref (ad (3 + j)))]) S.1 S.2.1 dX0_flour_23 rfl hl (by decide) rfl (fun ls hl => ?_)
        refine lv_iinc (v := nI (i + 1)) (lv' := [(2, .int (nI (i + 1))), (1, .int (x + Q 8 i)), (0, .ref (ad (3 + j)))]) S.1 S.2.1 dX0_flour_24 hl (k := 1) rfl (nI_1 _) (by decide) rfl (fun ls hl => ?_)
        refine lv_goto (tgt := 4) S.1 S.2.1 dX0_flour_27 (by decide) ?_
        exact ih (i + 1) (x + Q 8 i) (by omega) hq _ _ I ls (lv_sub hl [0, 1, 2] rfl)
  refine lv_iconst (v := 0) S.1 S.2.1 dX0_flour_0 (by decide) ?_
  refine lv_istore_n (lv' := [(1, .int 0), (0, .ref (ad (3 + j)))]) S.1 S.2.1 dX0_flour_1 rfl hl (by decide) rfl (fun ls hl => ?_)
  refine lv_iconst (v := 0) S.1 S.2.1 dX0_flour_2 (by decide) ?_
  refine lv_istore_n (lv' := [(2, .int 0), (1, .int 0), (0, .ref (ad (3 + j)))]) S.1 S.2.1 dX0_flour_3 rfl hl (by decide) rfl (fun ls hl => ?_)
  exact L4 n 0 0 (by omega) rfl _ _ I ls (lv_sub hl [0, 1, 2] rfl)
theorem in_X0_countNumber_X0 : ∀ w ∈ wsX00, w ∈ wsX0_countNumber := fun _ h => List.mem_cons_of_mem _ (List.mem_append_left _ (List.mem_append_right _ h))
set_option maxHeartbeats 4000000 in
set_option maxRecDepth 100000 in
/-- X0_countNumber -/
theorem c_X0_countNumber (l : Launch) {D : va_G} {ad : Nat → Nat} {cI cQ : ClassId} (hJ : aq_J 49 ad) {V : aq_V} {Q : aq_Q} {j n : Nat} (hj : j < 2) (hn : Q 10 3 = nI n) (hn20 : n ≤ 20) {w : Nat} (hw : w < 12) : aq_Met l yX0_countNumber wsX0_countNumber ({ frames := 2, cells := 0, slots := 0, locals := 42 }) D (aC_t cI cQ) 49 ad [.ref (ad (3 + j)), .int (nI w)] (aC_w ad cI cQ (aq_ug V j Q)) (aq_Qi D (aC_t cI cQ) 49 ad (aq_countNo n Q w) (aC_w ad cI cQ (aq_ug V j Q))) 0 0 := by
  refine aq_enter (cc := cX0_countNumber) (maxL := 2) (ret := some .int) (by decide) rfl (Nat.le_of_ble_eq_true rfl) ?_
  intro p e s m below meth c ls S hr hlocks hnm I hl
  have S : CallFix p m c cX0_countNumber 2 s _ wsX0_countNumber RX0 := S
  have hl : lv_has ls 2 [(0, .ref (ad (3 + j))), (1, .int (nI w))] := hl
  refine lv_iload_n S.1 S.2.1 dX0_countNumber_0 rfl (lv_at hl 1 rfl) ?_
  rcases (show w = 0 ∨ w = 1 ∨ w = 2 ∨ w = 3 ∨ w = 4 ∨ w = 5 ∨ w = 6 ∨ w = 7 ∨ w = 8 ∨ w = 9 ∨ w = 10 ∨ w = 11 by omega) with rfl | rfl | rfl | rfl | rfl | rfl | rfl | rfl | rfl | rfl | rfl | rfl
  · refine lv_tableIn (x := nI 0) (tgt := 60) S.1 S.2.1 dX0_countNumber_1 (by decide) (by decide) rfl (by decide) ?_
    have hl : lv_has ls 2 [(0, .ref (ad (3 + j))), (1, .int (nI 0))] := hl
    refine lv_aload_n S.1 S.2.1 dX0_countNumber_60 rfl (lv_at hl 0 rfl) ?_
    refine aC_getS (j := j) (x := Q 10 4) S I hj 4 (by decide) (by decide) in_X0_countNumber_X0 (List.mem_of_getElem? (i := 1) rfl) (by rw [aq_ug_s]) dX0_countNumber_61 ?_
    exact aq_iret S.1 S.2.1 hr hlocks I dX0_countNumber_64 (by decide) (by decide) (by subst_vars; first | rfl | (simp only [aq_countNo]; done) | (simp only [aq_countNo]; rfl)) (by subst_vars; first | rfl | (simp only [aq_countNo]; done) | (simp only [aq_countNo]; rfl))
  · refine lv_tableIn (x := nI 1) (tgt := 65) S.1 S.2.1 dX0_countNumber_1 (by decide) (by decide) rfl (by decide) ?_
    have hl : lv_has ls 2 [(0, .ref (ad (3 + j))), (1, .int (nI 1))] := hl
    refine lv_aload_n S.1 S.2.1 dX0_countNumber_65 rfl (lv_at hl 0 rfl) ?_
    refine aC_getS (j := j) (x := nI n) S I hj 3 (by decide) (by decide) in_X0_countNumber_X0 (List.mem_of_getElem? (i := 2) rfl) (by rw [aq_ug_s]; exact hn) dX0_countNumber_66 ?_
    exact aq_iret S.1 S.2.1 hr hlocks I dX0_countNumber_69 (by decide) (by decide) (by subst_vars; first | rfl | (simp only [aq_countNo]; done) | (simp only [aq_countNo]; rfl)) (by subst_vars; first | rfl | (simp only [aq_countNo]; done) | (simp only [aq_countNo]; rfl))
  · refine lv_tableIn (x := nI 2) (tgt := 70) S.1 S.2.1 dX0_countNumber_1 (by decide) (by decide) rfl (by decide) ?_
    have hl : lv_has ls 2 [(0, .ref (ad (3 + j))), (1, .int (nI 2))] := hl
    refine lv_aload_n S.1 S.2.1 dX0_countNumber_70 rfl (lv_at hl 0 rfl) ?_
    refine aq_callVi (As := []) (rest := []) S (c_X0_mills l hJ (V := V) (Q := Q) (j := j) hj hn hn20  ) (cwV 0 S.2.2.2.2 gX0_countNumber_X0_mills rfl rfl rfl (by decide +kernel) ⟨Nat.le_of_ble_eq_true rfl, Nat.le_of_ble_eq_true rfl⟩) (aC_recvS (j := j) I hj) I hl.1 dX0_countNumber_71 rfl rfl (Nat.le_of_ble_eq_true rfl) ⟨by first | decide | (dsimp only; omega), by first | decide | (dsimp only; omega)⟩ (fun H locs I => ?_)
    exact aq_iret S.1 S.2.1 hr hlocks I dX0_countNumber_74 (by decide) (by decide) (by subst_vars; first | rfl | (simp only [aq_countNo]; done) | (simp only [aq_countNo]; rfl)) (by subst_vars; first | rfl | (simp only [aq_countNo]; done) | (simp only [aq_countNo]; rfl))
  · refine lv_tableIn (x := nI 3) (tgt := 75) S.1 S.2.1 dX0_countNumber_1 (by decide) (by decide) rfl (by decide) ?_
    have hl : lv_has ls 2 [(0, .ref (ad (3 + j))), (1, .int (nI 3))] := hl
    refine lv_aload_n S.1 S.2.1 dX0_countNumber_75 rfl (lv_at hl 0 rfl) ?_
    refine aC_getS (j := j) (x := Q 10 5) S I hj 5 (by decide) (by decide) in_X0_countNumber_X0 (List.mem_of_getElem? (i := 3) rfl) (by rw [aq_ug_s]) dX0_countNumber_76 ?_
    exact aq_iret S.1 S.2.1 hr hlocks I dX0_countNumber_79 (by decide) (by decide) (by subst_vars; first | rfl | (simp only [aq_countNo]; done) | (simp only [aq_countNo]; rfl)) (by subst_vars; first | rfl | (simp only [aq_countNo]; done) | (simp only [aq_countNo]; rfl))
  · refine lv_tableIn (x := nI 4) (tgt := 80) S.1 S.2.1 dX0_countNumber_1 (by decide) (by decide) rfl (by decide) ?_
    have hl : lv_has ls 2 [(0, .ref (ad (3 + j))), (1, .int (nI 4))] := hl
    refine lv_aload_n S.1 S.2.1 dX0_countNumber_80 rfl (lv_at hl 0 rfl) ?_
    refine aC_getS (j := j) (x := Q 10 7) S I hj 7 (by decide) (by decide) in_X0_countNumber_X0 (List.mem_of_getElem? (i := 4) rfl) (by rw [aq_ug_s]) dX0_countNumber_81 ?_
    exact aq_iret S.1 S.2.1 hr hlocks I dX0_countNumber_84 (by decide) (by decide) (by subst_vars; first | rfl | (simp only [aq_countNo]; done) | (simp only [aq_countNo]; rfl)) (by subst_vars; first | rfl | (simp only [aq_countNo]; done) | (simp only [aq_countNo]; rfl))
  · refine lv_tableIn (x := nI 5) (tgt := 85) S.1 S.2.1 dX0_countNumber_1 (by decide) (by decide) rfl (by decide) ?_
    have hl : lv_has ls 2 [(0, .ref (ad (3 + j))), (1, .int (nI 5))] := hl
    refine lv_aload_n S.1 S.2.1 dX0_countNumber_85 rfl (lv_at hl 0 rfl) ?_
    refine aq_callVi (As := []) (rest := []) S (c_X0_water l hJ (V := V) (Q := Q) (j := j) hj hn hn20  ) (cwV 0 S.2.2.2.2 gX0_countNumber_X0_water rfl rfl rfl (by decide +kernel) ⟨Nat.le_of_ble_eq_true rfl, Nat.le_of_ble_eq_true rfl⟩) (aC_recvS (j := j) I hj) I hl.1 dX0_countNumber_86 rfl rfl (Nat.le_of_ble_eq_true rfl) ⟨by first | decide | (dsimp only; omega), by first | decide | (dsimp only; omega)⟩ (fun H locs I => ?_)
    exact aq_iret S.1 S.2.1 hr hlocks I dX0_countNumber_89 (by decide) (by decide) (by subst_vars; first | rfl | (simp only [aq_countNo]; done) | (simp only [aq_countNo]; rfl)) (by subst_vars; first | rfl | (simp only [aq_countNo]; done) | (simp only [aq_countNo]; rfl))
  · refine lv_tableIn (x := nI 6) (tgt := 90) S.1 S.2.1 dX0_countNumber_1 (by decide) (by decide) rfl (by decide) ?_
    have hl : lv_has ls 2 [(0, .ref (ad (3 + j))), (1, .int (nI 6))] := hl
    refine lv_aload_n S.1 S.2.1 dX0_countNumber_90 rfl (lv_at hl 0 rfl) ?_
    refine aC_getS (j := j) (x := Q 10 8) S I hj 8 (by decide) (by decide) in_X0_countNumber_X0 (List.mem_of_getElem? (i := 5) rfl) (by rw [aq_ug_s]) dX0_countNumber_91 ?_
    exact aq_iret S.1 S.2.1 hr hlocks I dX0_countNumber_94 (by decide) (by decide) (by subst_vars; first | rfl | (simp only [aq_countNo]; done) | (simp only [aq_countNo]; rfl)) (by subst_vars; first | rfl | (simp only [aq_countNo]; done) | (simp only [aq_countNo]; rfl))
  · refine lv_tableIn (x := nI 7) (tgt := 95) S.1 S.2.1 dX0_countNumber_1 (by decide) (by decide) rfl (by decide) ?_
    have hl : lv_has ls 2 [(0, .ref (ad (3 + j))), (1, .int (nI 7))] := hl
    refine lv_aload_n S.1 S.2.1 dX0_countNumber_95 rfl (lv_at hl 0 rfl) ?_
    refine aC_getS (j := j) (x := Q 10 9) S I hj 9 (by decide) (by decide) in_X0_countNumber_X0 (List.mem_of_getElem? (i := 6) rfl) (by rw [aq_ug_s]) dX0_countNumber_96 ?_
    exact aq_iret S.1 S.2.1 hr hlocks I dX0_countNumber_99 (by decide) (by decide) (by subst_vars; first | rfl | (simp only [aq_countNo]; done) | (simp only [aq_countNo]; rfl)) (by subst_vars; first | rfl | (simp only [aq_countNo]; done) | (simp only [aq_countNo]; rfl))
  · refine lv_tableIn (x := nI 8) (tgt := 100) S.1 S.2.1 dX0_countNumber_1 (by decide) (by decide) rfl (by decide) ?_
    have hl : lv_has ls 2 [(0, .ref (ad (3 + j))), (1, .int (nI 8))] := hl
    refine lv_aload_n S.1 S.2.1 dX0_countNumber_100 rfl (lv_at hl 0 rfl) ?_
    refine aq_callVi (As := []) (rest := []) S (c_X0_leaked l hJ (V := V) (Q := Q) (j := j) hj hn hn20  ) (cwV 0 S.2.2.2.2 gX0_countNumber_X0_leaked rfl rfl rfl (by decide +kernel) ⟨Nat.le_of_ble_eq_true rfl, Nat.le_of_ble_eq_true rfl⟩) (aC_recvS (j := j) I hj) I hl.1 dX0_countNumber_101 rfl rfl (Nat.le_of_ble_eq_true rfl) ⟨by first | decide | (dsimp only; omega), by first | decide | (dsimp only; omega)⟩ (fun H locs I => ?_)
    exact aq_iret S.1 S.2.1 hr hlocks I dX0_countNumber_104 (by decide) (by decide) (by subst_vars; first | rfl | (simp only [aq_countNo]; done) | (simp only [aq_countNo]; rfl)) (by subst_vars; first | rfl | (simp only [aq_countNo]; done) | (simp only [aq_countNo]; rfl))
  · refine lv_tableIn (x := nI 9) (tgt := 105) S.1 S.2.1 dX0_countNumber_1 (by decide) (by decide) rfl (by decide) ?_
    have hl : lv_has ls 2 [(0, .ref (ad (3 + j))), (1, .int (nI 9))] := hl
    refine lv_aload_n S.1 S.2.1 dX0_countNumber_105 rfl (lv_at hl 0 rfl) ?_
    refine aC_getS (j := j) (x := Q 10 10) S I hj 10 (by decide) (by decide) in_X0_countNumber_X0 (List.mem_of_getElem? (i := 7) rfl) (by rw [aq_ug_s]) dX0_countNumber_106 ?_
    exact aq_iret S.1 S.2.1 hr hlocks I dX0_countNumber_109 (by decide) (by decide) (by subst_vars; first | rfl | (simp only [aq_countNo]; done) | (simp only [aq_countNo]; rfl)) (by subst_vars; first | rfl | (simp only [aq_countNo]; done) | (simp only [aq_countNo]; rfl))
  · refine lv_tableIn (x := nI 10) (tgt := 110) S.1 S.2.1 dX0_countNumber_1 (by decide) (by decide) rfl (by decide) ?_
    have hl : lv_has ls 2 [(0, .ref (ad (3 + j))), (1, .int (nI 10))] := hl
    refine lv_aload_n S.1 S.2.1 dX0_countNumber_110 rfl (lv_at hl 0 rfl) ?_
    refine aC_getS (j := j) (x := Q 10 11) S I hj 11 (by decide) (by decide) in_X0_countNumber_X0 (List.mem_of_getElem? (i := 8) rfl) (by rw [aq_ug_s]) dX0_countNumber_111 ?_
    exact aq_iret S.1 S.2.1 hr hlocks I dX0_countNumber_114 (by decide) (by decide) (by subst_vars; first | rfl | (simp only [aq_countNo]; done) | (simp only [aq_countNo]; rfl)) (by subst_vars; first | rfl | (simp only [aq_countNo]; done) | (simp only [aq_countNo]; rfl))
  · refine lv_tableOut (x := nI 11) (tgt := 115) S.1 S.2.1 dX0_countNumber_1 (by decide) (by decide) ?_
    have hl : lv_has ls 2 [(0, .ref (ad (3 + j))), (1, .int (nI 11))] := hl
    refine lv_aload_n S.1 S.2.1 dX0_countNumber_115 rfl (lv_at hl 0 rfl) ?_
    refine aC_getS (j := j) (x := Q 10 12) S I hj 12 (by decide) (by decide) in_X0_countNumber_X0 (List.mem_of_getElem? (i := 9) rfl) (by rw [aq_ug_s]) dX0_countNumber_116 ?_
    exact aq_iret S.1 S.2.1 hr hlocks I dX0_countNumber_119 (by decide) (by decide) (by subst_vars; first | rfl | (simp only [aq_countNo]; done) | (simp only [aq_countNo]; rfl)) (by subst_vars; first | rfl | (simp only [aq_countNo]; done) | (simp only [aq_countNo]; rfl))
theorem in_X0_goOnAnHour_X0 : ∀ w ∈ wsX00, w ∈ wsX0_goOnAnHour := fun _ h => List.mem_cons_of_mem _ (List.mem_append_left _ (List.mem_append_right _ h))
set_option maxHeartbeats 4000000 in
set_option maxRecDepth 100000 in
/-- X0_goOnAnHour -/
theorem c_X0_goOnAnHour (l : Launch) {D : va_G} {ad : Nat → Nat} {cI cQ : ClassId} (hJ : aq_J 49 ad) {V : aq_V} {Q : aq_Q} {j n : Nat} (hj : j < 2) (hn : Q 10 3 = nI n) (hn20 : n ≤ 20) {T : aq_Q} (hT : V (2 + j) = T) {h : Nat} (hh : Q 10 4 = nI h) (h31 : h < 2 ^ 31) : aq_Met l yX0_goOnAnHour wsX0_goOnAnHour ({ frames := 4, cells := 0, slots := 0, locals := 90 }) D (aC_t cI cQ) 49 ad [.ref (ad (3 + j))] (aC_w ad cI cQ (aq_ug V j Q)) (aq_Qv D (aC_t cI cQ) 49 ad (aC_w ad cI cQ (aq_ug V j (aq_hourD n T (h % 24) Q)))) 0 0 := by
  refine aq_enter (cc := cX0_goOnAnHour) (maxL := 3) (ret := none) (by decide) rfl (Nat.le_of_ble_eq_true rfl) ?_
  intro p e s m below meth c ls S hr hlocks hnm I hl
  have S : CallFix p m c cX0_goOnAnHour 3 s _ wsX0_goOnAnHour RX0 := S
  have hl : lv_has ls 3 [(0, .ref (ad (3 + j)))] := hl
  obtain ⟨d, hd⟩ : ∃ d : Nat, d = h % 24 := ⟨_, rfl⟩
  have hd24 : d < 24 := by omega
  have L75 : ∀ (k : Nat) (i : Nat) (Q' : aq_Q), (i + k = n) → (Q' 10 3 = nI n) → (aq_leakAll k i Q' = aq_hour5 n T d Q) → ∀ (H : Heap) (locs : List Loc), aq_I D (aC_t cI cQ) (aq_A 49 ad) (aC_w ad cI cQ (aq_ug V j (Q'))) s H locs → ∀ ls : Array Slot, lv_has ls 3 [(2, .int (nI i)), (0, .ref (ad (3 + j))), (1, .int (nI d))] → W p l e ({ frames := 4, cells := 0, slots := 0, locals := 90 } : Room) s m (([.ref (ad (3 + j))] : List Value).toArray) below meth c H locs 0 0 (MQ below ((aq_Qv D (aC_t cI cQ) 49 ad (aC_w ad cI cQ (aq_ug V j (aq_hourD n T (h % 24) Q)))) s.heap.size) (([.ref (ad (3 + j))] : List Value).toArray) s 0 0 (aq_A 49 ad s.heap.size)) (F0 m 75 ls []) := by
    intro k
    induction k with
    | zero =>
      intro i Q' hk hn' hq H locs I ls hl
      refine lv_iload_n S.1 S.2.1 dX0_goOnAnHour_75 rfl (lv_at hl 0 rfl) ?_
      refine lv_aload_n S.1 S.2.1 dX0_goOnAnHour_76 rfl (lv_at hl 1 rfl) ?_
      refine aC_getS (j := j) (x := nI n) S I hj 3 (by decide) (by decide) in_X0_goOnAnHour_X0 (List.mem_of_getElem? (i := 3) rfl) (by rw [aq_ug_s]; exact hn') dX0_goOnAnHour_77 ?_
      refine lv_icmp_ge (tgt := 98) S.1 S.2.1 dX0_goOnAnHour_80 (by decide) (fun c1 => ?_) (fun c1 => ?_)
      · have c1 : n ≤ i := (nI_leI (a := n) (b := i) (by omega) (by omega)).mp c1
        refine lv_iload_n S.1 S.2.1 dX0_goOnAnHour_98 rfl (lv_at hl 2 rfl) ?_
        refine lv_bipush (v := 23) S.1 S.2.1 dX0_goOnAnHour_99 (by decide) ?_
        refine lv_icmp_ne (tgt := 108) S.1 S.2.1 dX0_goOnAnHour_101 (by decide) (fun c2 => ?_) (fun c2 => ?_)
        · have c2 : ¬ d = 23 := fun z9 => c2 ((nI_eq (a := d) (b := 23) (by omega) (by omega)).mpr z9)
          refine lv_aload_n S.1 S.2.1 dX0_goOnAnHour_108 rfl (lv_at hl 1 rfl) ?_
          refine lv_dup S.1 S.2.1 dX0_goOnAnHour_109 rfl ?_
          refine aC_getS (j := j) (x := Q' 10 4) S I hj 4 (by decide) (by decide) in_X0_goOnAnHour_X0 (List.mem_of_getElem? (i := 1) rfl) (by rw [aq_ug_s]) dX0_goOnAnHour_110 ?_
          refine lv_iconst (v := 1) S.1 S.2.1 dX0_goOnAnHour_113 (by decide) ?_
          refine lv_iadd S.1 S.2.1 dX0_goOnAnHour_114 ?_
          refine aC_putS (V := V) (Q := Q') (j := j) (x := (Q' 10 4) + 1) hJ S I hj 4 (by decide) (by decide) in_X0_goOnAnHour_X0 (List.mem_of_getElem? (i := 1) rfl) dX0_goOnAnHour_115 (fun H locs M3 hM3 I => ?_)
          exact aq_vret S.1 S.2.1 hr hlocks I dX0_goOnAnHour_118 (by decide) (by decide) (by rw [hM3, ← hd]; exact congrArg (fun z => aC_w ad cI cQ (aq_ug V j (aq_up z 10 4 (z 10 4 + 1)))) (show _ = aq_hour6 n T d Q from by rw [aq_hour6, if_neg c2]; exact hq))
        · have c2 : d = 23 := (nI_eq (a := d) (b := 23) (by omega) (by omega)).mp c2
          refine lv_aload_n S.1 S.2.1 dX0_goOnAnHour_104 rfl (lv_at hl 1 rfl) ?_
          refine aq_callVv (As := []) (rest := []) S (c_X0_wearAll l hJ (V := V) (Q := Q') (j := j) hj hn' hn20) (cwV 0 S.2.2.2.2 gX0_goOnAnHour_X0_wearAll rfl rfl rfl (by decide +kernel) ⟨Nat.le_of_ble_eq_true rfl, Nat.le_of_ble_eq_true rfl⟩) (aC_recvS (j := j) I hj) I hl.1 dX0_goOnAnHour_105 rfl rfl (Nat.le_of_ble_eq_true rfl) ⟨by first | decide | (dsimp only; omega), by first | decide | (dsimp only; omega)⟩ (fun H locs I => ?_)
          obtain ⟨M4, hM4⟩ : ∃ z9 : aq_Q, z9 = aq_wearAll n 0 Q' := ⟨_, rfl⟩
          rw [← hM4] at I
          refine lv_aload_n S.1 S.2.1 dX0_goOnAnHour_108 rfl (lv_at hl 1 rfl) ?_
          refine lv_dup S.1 S.2.1 dX0_goOnAnHour_109 rfl ?_
          refine aC_getS (j := j) (x := M4 10 4) S I hj 4 (by decide) (by decide) in_X0_goOnAnHour_X0 (List.mem_of_getElem? (i := 1) rfl) (by rw [aq_ug_s]) dX0_goOnAnHour_110 ?_
          refine lv_iconst (v := 1) S.1 S.2.1 dX0_goOnAnHour_113 (by decide) ?_
          refine lv_iadd S.1 S.2.1 dX0_goOnAnHour_114 ?_
          refine aC_putS (V := V) (Q := M4) (j := j) (x := M4 10 4 + 1) hJ S I hj 4 (by decide) (by decide) in_X0_goOnAnHour_X0 (List.mem_of_getElem? (i := 1) rfl) dX0_goOnAnHour_115 (fun H locs M5 hM5 I => ?_)
          exact aq_vret S.1 S.2.1 hr hlocks I dX0_goOnAnHour_118 (by decide) (by decide) (by rw [hM5, hM4, ← hd]; exact congrArg (fun z => aC_w ad cI cQ (aq_ug V j (aq_up z 10 4 (z 10 4 + 1)))) (show _ = aq_hour6 n T d Q from by rw [aq_hour6, if_pos c2]; exact congrArg (aq_wearAll n 0) hq))
      · have c1 : i < n := Nat.lt_of_not_le (fun z9 => c1 ((nI_leI (a := n) (b := i) (by omega) (by omega)).mpr z9))
        exfalso; omega
    | succ k ih =>
      intro i Q' hk hn' hq H locs I ls hl
      refine lv_iload_n S.1 S.2.1 dX0_goOnAnHour_75 rfl (lv_at hl 0 rfl) ?_
      refine lv_aload_n S.1 S.2.1 dX0_goOnAnHour_76 rfl (lv_at hl 1 rfl) ?_
      refine aC_getS (j := j) (x := nI n) S I hj 3 (by decide) (by decide) in_X0_goOnAnHour_X0 (List.mem_of_getElem? (i := 3) rfl) (by rw [aq_ug_s]; exact hn') dX0_goOnAnHour_77 ?_
      refine lv_icmp_ge (tgt := 98) S.1 S.2.1 dX0_goOnAnHour_80 (by decide) (fun c6 => ?_) (fun c6 => ?_)
      · have c6 : n ≤ i := (nI_leI (a := n) (b := i) (by omega) (by omega)).mp c6
        exfalso; omega
      · have c6 : i < n := Nat.lt_of_not_le (fun z9 => c6 ((nI_leI (a := n) (b := i) (by omega) (by omega)).mpr z9))
        refine lv_aload_n S.1 S.2.1 dX0_goOnAnHour_83 rfl (lv_at hl 1 rfl) ?_
        refine aC_getR (j := j) S I hj in_X0_goOnAnHour_X0 (List.mem_of_getElem? (i := 5) rfl) dX0_goOnAnHour_84 ?_
        refine lv_iload_n S.1 S.2.1 dX0_goOnAnHour_87 rfl (lv_at hl 0 rfl) ?_
        refine aC_row (j := j) (i := i) S I hj rfl (by omega) dX0_goOnAnHour_88 ?_
        refine aq_callVv (As := []) (rest := []) S (c_X1_leak l hJ (V := V) (Q := Q') (j := j) (i := i) hj (by omega) ) (cwV 0 S.2.2.2.2 gX0_goOnAnHour_X1_leak rfl rfl rfl (by decide +kernel) ⟨Nat.le_of_ble_eq_true rfl, Nat.le_of_ble_eq_true rfl⟩) (aC_recvA (j := j) (i := i) I hj (by omega)) I hl.1 dX0_goOnAnHour_89 rfl rfl (Nat.le_of_ble_eq_true rfl) ⟨by first | decide | (dsimp only; omega), by first | decide | (dsimp only; omega)⟩ (fun H locs I => ?_)
        obtain ⟨M7, hM7⟩ : ∃ z9 : aq_Q, z9 = aq_leakQ Q' i := ⟨_, rfl⟩
        rw [← hM7] at I
        refine lv_iinc (v := nI (i + 1)) (lv' := [(2, .int (nI (i + 1))), (0, .ref (ad (3 + j))), (1, .int (nI d))]) S.1 S.2.1 dX0_goOnAnHour_92 hl (k := 0) rfl (nI_1 _) (by decide) rfl (fun ls hl => ?_)
        refine lv_goto (tgt := 75) S.1 S.2.1 dX0_goOnAnHour_95 (by decide) ?_
        have hn_M7 : M7 10 3 = nI n := by rw [hM7]; exact (aq_leakQ_n _ _).trans hn'
        exact ih (i + 1) M7 (by omega) hn_M7 (by rw [hM7]; exact hq) _ _ I ls (lv_sub hl [0, 1, 2] rfl)
  have L44 : ∀ (k : Nat) (i : Nat) (Q' : aq_Q), (i + k = n) → (Q' 10 3 = nI n) → (aq_grindAll n k i Q' = (aq_grindAll n n 0 (aq_sendAll n n (aq_drinkQ Q (T 1 d))))) → ∀ (H : Heap) (locs : List Loc), aq_I D (aC_t cI cQ) (aq_A 49 ad) (aC_w ad cI cQ (aq_ug V j (Q'))) s H locs → ∀ ls : Array Slot, lv_has ls 3 [(2, .int (nI i)), (0, .ref (ad (3 + j))), (1, .int (nI d))] → W p l e ({ frames := 4, cells := 0, slots := 0, locals := 90 } : Room) s m (([.ref (ad (3 + j))] : List Value).toArray) below meth c H locs 0 0 (MQ below ((aq_Qv D (aC_t cI cQ) 49 ad (aC_w ad cI cQ (aq_ug V j (aq_hourD n T (h % 24) Q)))) s.heap.size) (([.ref (ad (3 + j))] : List Value).toArray) s 0 0 (aq_A 49 ad s.heap.size)) (F0 m 44 ls []) := by
    intro k
    induction k with
    | zero =>
      intro i Q' hk hn' hq H locs I ls hl
      refine lv_iload_n S.1 S.2.1 dX0_goOnAnHour_44 rfl (lv_at hl 0 rfl) ?_
      refine lv_aload_n S.1 S.2.1 dX0_goOnAnHour_45 rfl (lv_at hl 1 rfl) ?_
      refine aC_getS (j := j) (x := nI n) S I hj 3 (by decide) (by decide) in_X0_goOnAnHour_X0 (List.mem_of_getElem? (i := 3) rfl) (by rw [aq_ug_s]; exact hn') dX0_goOnAnHour_46 ?_
      refine lv_icmp_ge (tgt := 63) S.1 S.2.1 dX0_goOnAnHour_49 (by decide) (fun c8 => ?_) (fun c8 => ?_)
      · have c8 : n ≤ i := (nI_leI (a := n) (b := i) (by omega) (by omega)).mp c8
        refine lv_aload_n S.1 S.2.1 dX0_goOnAnHour_63 rfl (lv_at hl 1 rfl) ?_
        refine lv_aload_n S.1 S.2.1 dX0_goOnAnHour_64 rfl (lv_at hl 1 rfl) ?_
        refine aC_getT (j := j) S I hj 0 (by decide) in_X0_goOnAnHour_X0 (List.mem_of_getElem? (i := 4) rfl) dX0_goOnAnHour_65 ?_
        refine lv_iload_n S.1 S.2.1 dX0_goOnAnHour_68 rfl (lv_at hl 2 rfl) ?_
        refine aC_tld (t := 0) (j := j) (k := d) (x := T 0 d) S I (by decide) hj rfl (by omega) (by rw [aq_ug_n _ _ (by omega), hT]) dX0_goOnAnHour_69 ?_
        refine aq_callVv (As := [.int (T 0 d)]) (rest := []) S (c_X0_letSpringGive l hJ (V := V) (Q := Q') (j := j) hj hn' hn20 (T 0 d) ) (cwV 1 S.2.2.2.2 gX0_goOnAnHour_X0_letSpringGive rfl rfl rfl (by decide +kernel) ⟨Nat.le_of_ble_eq_true rfl, Nat.le_of_ble_eq_true rfl⟩) (aC_recvS (j := j) I hj) I hl.1 dX0_goOnAnHour_70 rfl rfl (Nat.le_of_ble_eq_true rfl) ⟨by first | decide | (dsimp only; omega), by first | decide | (dsimp only; omega)⟩ (fun H locs I => ?_)
        obtain ⟨M9, hM9⟩ : ∃ z9 : aq_Q, z9 = aq_springQ n Q' (T 0 d) := ⟨_, rfl⟩
        rw [← hM9] at I
        refine lv_iconst (v := 0) S.1 S.2.1 dX0_goOnAnHour_73 (by decide) ?_
        refine lv_istore_n (lv' := [(2, .int 0), (0, .ref (ad (3 + j))), (1, .int (nI d))]) S.1 S.2.1 dX0_goOnAnHour_74 rfl hl (by decide) rfl (fun ls hl => ?_)
        have hn_M9 : M9 10 3 = nI n := by rw [hM9]; exact (aq_springQ_n _ _ _).trans hn'
        exact L75 n 0 M9 (by omega) hn_M9 (by rw [hM9]; exact congrArg (fun z => aq_leakAll n 0 (aq_springQ n z (T 0 d))) hq) _ _ I ls (lv_sub hl [0, 1, 2] rfl)
      · have c8 : i < n := Nat.lt_of_not_le (fun z9 => c8 ((nI_leI (a := n) (b := i) (by omega) (by omega)).mpr z9))
        exfalso; omega
    | succ k ih =>
      intro i Q' hk hn' hq H locs I ls hl
      refine lv_iload_n S.1 S.2.1 dX0_goOnAnHour_44 rfl (lv_at hl 0 rfl) ?_
      refine lv_aload_n S.1 S.2.1 dX0_goOnAnHour_45 rfl (lv_at hl 1 rfl) ?_
      refine aC_getS (j := j) (x := nI n) S I hj 3 (by decide) (by decide) in_X0_goOnAnHour_X0 (List.mem_of_getElem? (i := 3) rfl) (by rw [aq_ug_s]; exact hn') dX0_goOnAnHour_46 ?_
      refine lv_icmp_ge (tgt := 63) S.1 S.2.1 dX0_goOnAnHour_49 (by decide) (fun c10 => ?_) (fun c10 => ?_)
      · have c10 : n ≤ i := (nI_leI (a := n) (b := i) (by omega) (by omega)).mp c10
        exfalso; omega
      · have c10 : i < n := Nat.lt_of_not_le (fun z9 => c10 ((nI_leI (a := n) (b := i) (by omega) (by omega)).mpr z9))
        refine lv_aload_n S.1 S.2.1 dX0_goOnAnHour_52 rfl (lv_at hl 1 rfl) ?_
        refine lv_iload_n S.1 S.2.1 dX0_goOnAnHour_53 rfl (lv_at hl 0 rfl) ?_
        refine aq_callVv (As := [.int (nI i)]) (rest := []) S (c_X0_grindAt l hJ (V := V) (Q := Q') (j := j) hj hn' hn20 (a := i) (by omega) ) (cwV 1 S.2.2.2.2 gX0_goOnAnHour_X0_grindAt rfl rfl rfl (by decide +kernel) ⟨Nat.le_of_ble_eq_true rfl, Nat.le_of_ble_eq_true rfl⟩) (aC_recvS (j := j) I hj) I hl.1 dX0_goOnAnHour_54 rfl rfl (Nat.le_of_ble_eq_true rfl) ⟨by first | decide | (dsimp only; omega), by first | decide | (dsimp only; omega)⟩ (fun H locs I => ?_)
        obtain ⟨M11, hM11⟩ : ∃ z9 : aq_Q, z9 = aq_grindAtQ n Q' i := ⟨_, rfl⟩
        rw [← hM11] at I
        refine lv_iinc (v := nI (i + 1)) (lv' := [(2, .int (nI (i + 1))), (0, .ref (ad (3 + j))), (1, .int (nI d))]) S.1 S.2.1 dX0_goOnAnHour_57 hl (k := 0) rfl (nI_1 _) (by decide) rfl (fun ls hl => ?_)
        refine lv_goto (tgt := 44) S.1 S.2.1 dX0_goOnAnHour_60 (by decide) ?_
        have hn_M11 : M11 10 3 = nI n := by rw [hM11]; exact (aq_grindAtQ_n _ _ _).trans hn'
        exact ih (i + 1) M11 (by omega) hn_M11 (by rw [hM11]; exact hq) _ _ I ls (lv_sub hl [0, 1, 2] rfl)
  have L27 : ∀ (k : Nat) (x : Int32) (Q' : aq_Q), (x = nI k - 1) → (k ≤ n) → (Q' 10 3 = nI n) → (aq_sendAll n k Q' = (aq_sendAll n n (aq_drinkQ Q (T 1 d)))) → ∀ (H : Heap) (locs : List Loc), aq_I D (aC_t cI cQ) (aq_A 49 ad) (aC_w ad cI cQ (aq_ug V j (Q'))) s H locs → ∀ ls : Array Slot, lv_has ls 3 [(2, .int x), (0, .ref (ad (3 + j))), (1, .int (nI d))] → W p l e ({ frames := 4, cells := 0, slots := 0, locals := 90 } : Room) s m (([.ref (ad (3 + j))] : List Value).toArray) below meth c H locs 0 0 (MQ below ((aq_Qv D (aC_t cI cQ) 49 ad (aC_w ad cI cQ (aq_ug V j (aq_hourD n T (h % 24) Q)))) s.heap.size) (([.ref (ad (3 + j))] : List Value).toArray) s 0 0 (aq_A 49 ad s.heap.size)) (F0 m 27 ls []) := by
    intro k
    induction k with
    | zero =>
      intro x Q' hx hk hn' hq H locs I ls hl
      refine lv_iload_n S.1 S.2.1 dX0_goOnAnHour_27 rfl (lv_at hl 0 rfl) ?_
      refine lv_if_lt (tgt := 42) S.1 S.2.1 dX0_goOnAnHour_28 (by decide) (fun c12 => ?_) (fun c12 => ?_)
      · refine lv_iconst (v := 0) S.1 S.2.1 dX0_goOnAnHour_42 (by decide) ?_
        refine lv_istore_n (lv' := [(2, .int 0), (0, .ref (ad (3 + j))), (1, .int (nI d))]) S.1 S.2.1 dX0_goOnAnHour_43 rfl hl (by decide) rfl (fun ls hl => ?_)
        exact L44 n 0 Q' (by omega) hn' (congrArg (aq_grindAll n n 0) hq) _ _ I ls (lv_sub hl [0, 1, 2] rfl)
      · exact absurd (by rw [hx]; decide) c12
    | succ k ih =>
      intro x Q' hx hk hn' hq H locs I ls hl
      rw [nI_pred] at hx; subst hx
      refine lv_iload_n S.1 S.2.1 dX0_goOnAnHour_27 rfl (lv_at hl 0 rfl) ?_
      refine lv_if_lt (tgt := 42) S.1 S.2.1 dX0_goOnAnHour_28 (by decide) (fun c13 => ?_) (fun c13 => ?_)
      · have c13 : k < 0 := (nI_ltI (a := k) (b := 0) (by omega) (by omega)).mp c13
        exfalso; omega
      · have c13 : 0 ≤ k := Nat.le_of_not_lt (fun z9 => c13 ((nI_ltI (a := k) (b := 0) (by omega) (by omega)).mpr z9))
        refine lv_aload_n S.1 S.2.1 dX0_goOnAnHour_31 rfl (lv_at hl 1 rfl) ?_
        refine lv_iload_n S.1 S.2.1 dX0_goOnAnHour_32 rfl (lv_at hl 0 rfl) ?_
        refine aq_callVv (As := [.int (nI k)]) (rest := []) S (c_X0_sendOn l hJ (V := V) (Q := Q') (j := j) hj hn' hn20 (a := k) (by omega) ) (cwV 1 S.2.2.2.2 gX0_goOnAnHour_X0_sendOn rfl rfl rfl (by decide +kernel) ⟨Nat.le_of_ble_eq_true rfl, Nat.le_of_ble_eq_true rfl⟩) (aC_recvS (j := j) I hj) I hl.1 dX0_goOnAnHour_33 rfl rfl (Nat.le_of_ble_eq_true rfl) ⟨by first | decide | (dsimp only; omega), by first | decide | (dsimp only; omega)⟩ (fun H locs I => ?_)
        obtain ⟨M14, hM14⟩ : ∃ z9 : aq_Q, z9 = aq_sendQ n Q' k := ⟨_, rfl⟩
        rw [← hM14] at I
        refine lv_iinc (v := nI k - 1) (lv' := [(2, .int (nI k - 1)), (0, .ref (ad (3 + j))), (1, .int (nI d))]) S.1 S.2.1 dX0_goOnAnHour_36 hl (k := 0) rfl (by rw [Int32.sub_eq_add_neg]; rfl) (by decide) rfl (fun ls hl => ?_)
        refine lv_goto (tgt := 27) S.1 S.2.1 dX0_goOnAnHour_39 (by decide) ?_
        have hn_M14 : M14 10 3 = nI n := by rw [hM14]; exact (aq_sendQ_n _ _ _).trans hn'
        exact ih (nI k - 1) M14 rfl (by omega) hn_M14 (by rw [hM14]; exact hq) _ _ I ls (lv_sub hl [0, 1, 2] rfl)
  refine lv_aload_n S.1 S.2.1 dX0_goOnAnHour_0 rfl (lv_at hl 0 rfl) ?_
  refine aC_getS (j := j) (x := nI h) S I hj 4 (by decide) (by decide) in_X0_goOnAnHour_X0 (List.mem_of_getElem? (i := 1) rfl) (by rw [aq_ug_s]; exact hh) dX0_goOnAnHour_1 ?_
  refine lv_bipush (v := 24) S.1 S.2.1 dX0_goOnAnHour_4 (by decide) ?_
  refine aq_callSi (As := [.int (nI h), .int 24]) (rest := []) S (c_J9_floorMod l (h := h) (d := d) hd (by omega)) (va_cwS 2 S.2.2.2.2 gX0_goOnAnHour_J9_floorMod_7cf53 rfl rfl rfl (by decide +kernel) ⟨Nat.le_of_ble_eq_true rfl, Nat.le_of_ble_eq_true rfl⟩)  I hl.1 dX0_goOnAnHour_6 rfl rfl (Nat.le_of_ble_eq_true rfl) ⟨by first | decide | (dsimp only; omega), by first | decide | (dsimp only; omega)⟩ (fun H locs I => ?_)
  refine lv_istore_n (lv' := [(1, .int (nI d)), (0, .ref (ad (3 + j)))]) S.1 S.2.1 dX0_goOnAnHour_9 rfl hl (by decide) rfl (fun ls hl => ?_)
  refine lv_aload_n S.1 S.2.1 dX0_goOnAnHour_10 rfl (lv_at hl 1 rfl) ?_
  refine lv_aload_n S.1 S.2.1 dX0_goOnAnHour_11 rfl (lv_at hl 1 rfl) ?_
  refine aC_getT (j := j) S I hj 1 (by decide) in_X0_goOnAnHour_X0 (List.mem_of_getElem? (i := 2) rfl) dX0_goOnAnHour_12 ?_
  refine lv_iload_n S.1 S.2.1 dX0_goOnAnHour_15 rfl (lv_at hl 0 rfl) ?_
  refine aC_tld (t := 1) (j := j) (k := d) (x := T 1 d) S I (by decide) hj rfl (by omega) (by rw [aq_ug_n _ _ (by omega), hT]) dX0_goOnAnHour_16 ?_
  refine aq_callVv (As := [.int (T 1 d)]) (rest := []) S (c_X0_letCityDrink l hJ (V := V) (Q := Q) (j := j) hj  (T 1 d) ) (cwV 1 S.2.2.2.2 gX0_goOnAnHour_X0_letCityDrink rfl rfl rfl (by decide +kernel) ⟨Nat.le_of_ble_eq_true rfl, Nat.le_of_ble_eq_true rfl⟩) (aC_recvS (j := j) I hj) I hl.1 dX0_goOnAnHour_17 rfl rfl (Nat.le_of_ble_eq_true rfl) ⟨by first | decide | (dsimp only; omega), by first | decide | (dsimp only; omega)⟩ (fun H locs I => ?_)
  obtain ⟨M15, hM15⟩ : ∃ z9 : aq_Q, z9 = aq_drinkQ Q (T 1 d) := ⟨_, rfl⟩
  rw [← hM15] at I
  refine lv_aload_n S.1 S.2.1 dX0_goOnAnHour_20 rfl (lv_at hl 1 rfl) ?_
  have hn_M15 : M15 10 3 = nI n := by rw [hM15]; exact (aq_drinkQ_n _ _).trans hn
  refine aC_getS (j := j) (x := nI n) S I hj 3 (by decide) (by decide) in_X0_goOnAnHour_X0 (List.mem_of_getElem? (i := 3) rfl) (by rw [aq_ug_s]; exact hn_M15) dX0_goOnAnHour_21 ?_
  refine lv_iconst (v := 1) S.1 S.2.1 dX0_goOnAnHour_24 (by decide) ?_
  refine lv_isub S.1 S.2.1 dX0_goOnAnHour_25 ?_
  refine lv_istore_n (lv' := [(2, .int (nI n - 1)), (1, .int (nI d)), (0, .ref (ad (3 + j)))]) S.1 S.2.1 dX0_goOnAnHour_26 rfl hl (by decide) rfl (fun ls hl => ?_)
  exact L27 n (nI n - 1) M15 rfl (by omega) hn_M15 (by rw [hM15]) _ _ I ls (lv_sub hl [0, 2, 1] rfl)
set_option maxHeartbeats 4000000 in
set_option maxRecDepth 100000 in
/-- X0_goOn -/
theorem c_X0_goOn (l : Launch) {D : va_G} {ad : Nat → Nat} {cI cQ : ClassId} (hJ : aq_J 49 ad) {V : aq_V} {Q : aq_Q} {j n : Nat} (hj : j < 2) (hn : Q 10 3 = nI n) (hn20 : n ≤ 20) {T : aq_Q} (hT : V (2 + j) = T) {h z : Nat} (hh : Q 10 4 = nI h) (h31 : h + z < 2 ^ 31) : aq_Met l yX0_goOn wsX0_goOn ({ frames := 5, cells := 0, slots := 0, locals := 112 }) D (aC_t cI cQ) 49 ad [.ref (ad (3 + j)), .int (nI z)] (aC_w ad cI cQ (aq_ug V j Q)) (aq_Qv D (aC_t cI cQ) 49 ad (aC_w ad cI cQ (aq_ug V j (aq_goQ n T z Q)))) 0 0 := by
  refine aq_enter (cc := cX0_goOn) (maxL := 3) (ret := none) (by decide) rfl (Nat.le_of_ble_eq_true rfl) ?_
  intro p e s m below meth c ls S hr hlocks hnm I hl
  have S : CallFix p m c cX0_goOn 3 s _ wsX0_goOn RX0 := S
  have hl : lv_has ls 3 [(0, .ref (ad (3 + j))), (1, .int (nI z))] := hl
  have L2 : ∀ (k : Nat) (i : Nat) (Q' : aq_Q) (h' : Nat), (i + k = z) → (Q' 10 3 = nI n) → (Q' 10 4 = nI h') → (h' + k < 2 ^ 31) → (aq_goQ n T k Q' = aq_goQ n T z Q) → ∀ (H : Heap) (locs : List Loc), aq_I D (aC_t cI cQ) (aq_A 49 ad) (aC_w ad cI cQ (aq_ug V j (Q'))) s H locs → ∀ ls : Array Slot, lv_has ls 3 [(2, .int (nI i)), (0, .ref (ad (3 + j))), (1, .int (nI z))] → W p l e ({ frames := 5, cells := 0, slots := 0, locals := 112 } : Room) s m (([.ref (ad (3 + j)), .int (nI z)] : List Value).toArray) below meth c H locs 0 0 (MQ below ((aq_Qv D (aC_t cI cQ) 49 ad (aC_w ad cI cQ (aq_ug V j (aq_goQ n T z Q)))) s.heap.size) (([.ref (ad (3 + j)), .int (nI z)] : List Value).toArray) s 0 0 (aq_A 49 ad s.heap.size)) (F0 m 2 ls []) := by
    intro k
    induction k with
    | zero =>
      intro i Q' h' hk hn' hh' h31' hq H locs I ls hl
      refine lv_iload_n S.1 S.2.1 dX0_goOn_2 rfl (lv_at hl 0 rfl) ?_
      refine lv_iload_n S.1 S.2.1 dX0_goOn_3 rfl (lv_at hl 2 rfl) ?_
      refine lv_icmp_ge (tgt := 17) S.1 S.2.1 dX0_goOn_4 (by decide) (fun c1 => ?_) (fun c1 => ?_)
      · have c1 : z ≤ i := (nI_leI (a := z) (b := i) (by omega) (by omega)).mp c1
        exact aq_vret S.1 S.2.1 hr hlocks I dX0_goOn_17 (by decide) (by decide) (congrArg (fun z => aC_w ad cI cQ (aq_ug V j z)) hq)
      · have c1 : i < z := Nat.lt_of_not_le (fun z9 => c1 ((nI_leI (a := z) (b := i) (by omega) (by omega)).mpr z9))
        exfalso; omega
    | succ k ih =>
      intro i Q' h' hk hn' hh' h31' hq H locs I ls hl
      refine lv_iload_n S.1 S.2.1 dX0_goOn_2 rfl (lv_at hl 0 rfl) ?_
      refine lv_iload_n S.1 S.2.1 dX0_goOn_3 rfl (lv_at hl 2 rfl) ?_
      refine lv_icmp_ge (tgt := 17) S.1 S.2.1 dX0_goOn_4 (by decide) (fun c2 => ?_) (fun c2 => ?_)
      · have c2 : z ≤ i := (nI_leI (a := z) (b := i) (by omega) (by omega)).mp c2
        exfalso; omega
      · have c2 : i < z := Nat.lt_of_not_le (fun z9 => c2 ((nI_leI (a := z) (b := i) (by omega) (by omega)).mpr z9))
        refine lv_aload_n S.1 S.2.1 dX0_goOn_7 rfl (lv_at hl 1 rfl) ?_
        refine aq_callVv (As := []) (rest := []) S (c_X0_goOnAnHour l hJ (V := V) (Q := Q') (j := j) hj hn' hn20 (T := T) hT (h := h') hh' (by omega)) (cwV 0 S.2.2.2.2 gX0_goOn_X0_goOnAnHour rfl rfl rfl (by decide +kernel) ⟨Nat.le_of_ble_eq_true rfl, Nat.le_of_ble_eq_true rfl⟩) (aC_recvS (j := j) I hj) I hl.1 dX0_goOn_8 rfl rfl (Nat.le_of_ble_eq_true rfl) ⟨by first | decide | (dsimp only; omega), by first | decide | (dsimp only; omega)⟩ (fun H locs I => ?_)
        obtain ⟨M3, hM3⟩ : ∃ z9 : aq_Q, z9 = aq_hourD n T (h' % 24) Q' := ⟨_, rfl⟩
        rw [← hM3] at I
        refine lv_iinc (v := nI (i + 1)) (lv' := [(2, .int (nI (i + 1))), (0, .ref (ad (3 + j))), (1, .int (nI z))]) S.1 S.2.1 dX0_goOn_11 hl (k := 0) rfl (nI_1 _) (by decide) rfl (fun ls hl => ?_)
        refine lv_goto (tgt := 2) S.1 S.2.1 dX0_goOn_14 (by decide) ?_
        have hn_M3 : M3 10 3 = nI n := by rw [hM3]; exact (aq_hourD_n _ _ _ _).trans hn'
        exact ih (i + 1) M3 (h' + 1) (by omega) hn_M3 (by rw [hM3, aq_hourD_h, hh', nI_1]) (by omega) (by rw [hM3, ← aq_hourQ_eq hh' (by omega)]; exact hq) _ _ I ls (lv_sub hl [0, 1, 2] rfl)
  refine lv_iconst (v := 0) S.1 S.2.1 dX0_goOn_0 (by decide) ?_
  refine lv_istore_n (lv' := [(2, .int 0), (0, .ref (ad (3 + j))), (1, .int (nI z))]) S.1 S.2.1 dX0_goOn_1 rfl hl (by decide) rfl (fun ls hl => ?_)
  exact L2 z 0 Q h (by omega) hn hh (by omega) rfl _ _ I ls (lv_sub hl [0, 1, 2] rfl)
theorem in_X1_copyFrom_X1 : ∀ w ∈ wsX10, w ∈ wsX1_copyFrom := fun _ h => List.mem_cons_of_mem _ (List.mem_append_right _ h)
set_option maxHeartbeats 4000000 in
set_option maxRecDepth 100000 in
/-- X1_copyFrom -/
theorem c_X1_copyFrom (l : Launch) {D : va_G} {ad : Nat → Nat} {cI cQ : ClassId} (hJ : aq_J 49 ad) {V : aq_V} {Q0 Q1 : aq_Q} {i : Nat} (hi : i < 20) : aq_Met l yX1_copyFrom wsX1_copyFrom ({ frames := 0, cells := 0, slots := 0, locals := 0 }) D (aC_t cI cQ) 49 ad [.ref (ad (7 + 20 * 1 + i)), .ref (ad (7 + 20 * 0 + i))] (aC_w ad cI cQ (aq_ug (aq_ug V 0 Q0) 1 Q1)) (aq_Qv D (aC_t cI cQ) 49 ad (aC_w ad cI cQ (aq_ug (aq_ug V 0 Q0) 1 (aq_cpA Q0 Q1 i)))) 0 0 := by
  refine aq_enter (cc := cX1_copyFrom) (maxL := 2) (ret := none) (by decide) rfl (Nat.le_of_ble_eq_true rfl) ?_
  intro p e s m below meth c ls S hr hlocks hnm I hl
  have S : CallFix p m c cX1_copyFrom 2 s _ wsX1_copyFrom RX1 := S
  have hl : lv_has ls 2 [(0, .ref (ad (7 + 20 * 1 + i))), (1, .ref (ad (7 + 20 * 0 + i)))] := hl
  refine lv_aload_n S.1 S.2.1 dX1_copyFrom_0 rfl (lv_at hl 0 rfl) ?_
  refine lv_aload_n S.1 S.2.1 dX1_copyFrom_1 rfl (lv_at hl 1 rfl) ?_
  refine aC_getA (j := 0) (i := i) (x := Q0 0 i) S I (by decide) (by omega) 0 (by decide) in_X1_copyFrom_X1 (List.mem_of_getElem? (i := 1) rfl) (by rw [aq_ug_n _ _ (by decide), aq_ug_s]) dX1_copyFrom_2 ?_
  refine aC_putA (V := (aq_ug V 0 Q0)) (Q := Q1) (j := 1) (i := i) (x := Q0 0 i) hJ S I (by decide) (by omega) 0 (by decide) in_X1_copyFrom_X1 (List.mem_of_getElem? (i := 1) rfl) dX1_copyFrom_5 (fun H locs M1 hM1 I => ?_)
  refine lv_aload_n S.1 S.2.1 dX1_copyFrom_8 rfl (lv_at hl 0 rfl) ?_
  refine lv_aload_n S.1 S.2.1 dX1_copyFrom_9 rfl (lv_at hl 1 rfl) ?_
  refine aC_getA (j := 0) (i := i) (x := Q0 1 i) S I (by decide) (by omega) 1 (by decide) in_X1_copyFrom_X1 (List.mem_of_getElem? (i := 2) rfl) (by rw [aq_ug_n _ _ (by decide), aq_ug_s]) dX1_copyFrom_10 ?_
  refine aC_putA (V := (aq_ug V 0 Q0)) (Q := M1) (j := 1) (i := i) (x := Q0 1 i) hJ S I (by decide) (by omega) 1 (by decide) in_X1_copyFrom_X1 (List.mem_of_getElem? (i := 2) rfl) dX1_copyFrom_13 (fun H locs M2 hM2 I => ?_)
  refine lv_aload_n S.1 S.2.1 dX1_copyFrom_16 rfl (lv_at hl 0 rfl) ?_
  refine lv_aload_n S.1 S.2.1 dX1_copyFrom_17 rfl (lv_at hl 1 rfl) ?_
  refine aC_getA (j := 0) (i := i) (x := Q0 2 i) S I (by decide) (by omega) 2 (by decide) in_X1_copyFrom_X1 (List.mem_of_getElem? (i := 3) rfl) (by rw [aq_ug_n _ _ (by decide), aq_ug_s]) dX1_copyFrom_18 ?_
  refine aC_putA (V := (aq_ug V 0 Q0)) (Q := M2) (j := 1) (i := i) (x := Q0 2 i) hJ S I (by decide) (by omega) 2 (by decide) in_X1_copyFrom_X1 (List.mem_of_getElem? (i := 3) rfl) dX1_copyFrom_21 (fun H locs M3 hM3 I => ?_)
  refine lv_aload_n S.1 S.2.1 dX1_copyFrom_24 rfl (lv_at hl 0 rfl) ?_
  refine lv_aload_n S.1 S.2.1 dX1_copyFrom_25 rfl (lv_at hl 1 rfl) ?_
  refine aC_getA (j := 0) (i := i) (x := Q0 3 i) S I (by decide) (by omega) 3 (by decide) in_X1_copyFrom_X1 (List.mem_of_getElem? (i := 4) rfl) (by rw [aq_ug_n _ _ (by decide), aq_ug_s]) dX1_copyFrom_26 ?_
  refine aC_putA (V := (aq_ug V 0 Q0)) (Q := M3) (j := 1) (i := i) (x := Q0 3 i) hJ S I (by decide) (by omega) 3 (by decide) in_X1_copyFrom_X1 (List.mem_of_getElem? (i := 4) rfl) dX1_copyFrom_29 (fun H locs M4 hM4 I => ?_)
  refine lv_aload_n S.1 S.2.1 dX1_copyFrom_32 rfl (lv_at hl 0 rfl) ?_
  refine lv_aload_n S.1 S.2.1 dX1_copyFrom_33 rfl (lv_at hl 1 rfl) ?_
  refine aC_getA (j := 0) (i := i) (x := Q0 4 i) S I (by decide) (by omega) 4 (by decide) in_X1_copyFrom_X1 (List.mem_of_getElem? (i := 5) rfl) (by rw [aq_ug_n _ _ (by decide), aq_ug_s]) dX1_copyFrom_34 ?_
  refine aC_putA (V := (aq_ug V 0 Q0)) (Q := M4) (j := 1) (i := i) (x := Q0 4 i) hJ S I (by decide) (by omega) 4 (by decide) in_X1_copyFrom_X1 (List.mem_of_getElem? (i := 5) rfl) dX1_copyFrom_37 (fun H locs M5 hM5 I => ?_)
  refine lv_aload_n S.1 S.2.1 dX1_copyFrom_40 rfl (lv_at hl 0 rfl) ?_
  refine lv_aload_n S.1 S.2.1 dX1_copyFrom_41 rfl (lv_at hl 1 rfl) ?_
  refine aC_getA (j := 0) (i := i) (x := Q0 5 i) S I (by decide) (by omega) 5 (by decide) in_X1_copyFrom_X1 (List.mem_of_getElem? (i := 6) rfl) (by rw [aq_ug_n _ _ (by decide), aq_ug_s]) dX1_copyFrom_42 ?_
  refine aC_putA (V := (aq_ug V 0 Q0)) (Q := M5) (j := 1) (i := i) (x := Q0 5 i) hJ S I (by decide) (by omega) 5 (by decide) in_X1_copyFrom_X1 (List.mem_of_getElem? (i := 6) rfl) dX1_copyFrom_45 (fun H locs M6 hM6 I => ?_)
  refine lv_aload_n S.1 S.2.1 dX1_copyFrom_48 rfl (lv_at hl 0 rfl) ?_
  refine lv_aload_n S.1 S.2.1 dX1_copyFrom_49 rfl (lv_at hl 1 rfl) ?_
  refine aC_getA (j := 0) (i := i) (x := Q0 6 i) S I (by decide) (by omega) 6 (by decide) in_X1_copyFrom_X1 (List.mem_of_getElem? (i := 7) rfl) (by rw [aq_ug_n _ _ (by decide), aq_ug_s]) dX1_copyFrom_50 ?_
  refine aC_putA (V := (aq_ug V 0 Q0)) (Q := M6) (j := 1) (i := i) (x := Q0 6 i) hJ S I (by decide) (by omega) 6 (by decide) in_X1_copyFrom_X1 (List.mem_of_getElem? (i := 7) rfl) dX1_copyFrom_53 (fun H locs M7 hM7 I => ?_)
  refine lv_aload_n S.1 S.2.1 dX1_copyFrom_56 rfl (lv_at hl 0 rfl) ?_
  refine lv_aload_n S.1 S.2.1 dX1_copyFrom_57 rfl (lv_at hl 1 rfl) ?_
  refine aC_getA (j := 0) (i := i) (x := Q0 7 i) S I (by decide) (by omega) 7 (by decide) in_X1_copyFrom_X1 (List.mem_of_getElem? (i := 8) rfl) (by rw [aq_ug_n _ _ (by decide), aq_ug_s]) dX1_copyFrom_58 ?_
  refine aC_putA (V := (aq_ug V 0 Q0)) (Q := M7) (j := 1) (i := i) (x := Q0 7 i) hJ S I (by decide) (by omega) 7 (by decide) in_X1_copyFrom_X1 (List.mem_of_getElem? (i := 8) rfl) dX1_copyFrom_61 (fun H locs M8 hM8 I => ?_)
  refine lv_aload_n S.1 S.2.1 dX1_copyFrom_64 rfl (lv_at hl 0 rfl) ?_
  refine lv_aload_n S.1 S.2.1 dX1_copyFrom_65 rfl (lv_at hl 1 rfl) ?_
  refine aC_getA (j := 0) (i := i) (x := Q0 8 i) S I (by decide) (by omega) 8 (by decide) in_X1_copyFrom_X1 (List.mem_of_getElem? (i := 9) rfl) (by rw [aq_ug_n _ _ (by decide), aq_ug_s]) dX1_copyFrom_66 ?_
  refine aC_putA (V := (aq_ug V 0 Q0)) (Q := M8) (j := 1) (i := i) (x := Q0 8 i) hJ S I (by decide) (by omega) 8 (by decide) in_X1_copyFrom_X1 (List.mem_of_getElem? (i := 9) rfl) dX1_copyFrom_69 (fun H locs M9 hM9 I => ?_)
  refine lv_aload_n S.1 S.2.1 dX1_copyFrom_72 rfl (lv_at hl 0 rfl) ?_
  refine lv_aload_n S.1 S.2.1 dX1_copyFrom_73 rfl (lv_at hl 1 rfl) ?_
  refine aC_getA (j := 0) (i := i) (x := Q0 9 i) S I (by decide) (by omega) 9 (by decide) in_X1_copyFrom_X1 (List.mem_of_getElem? (i := 10) rfl) (by rw [aq_ug_n _ _ (by decide), aq_ug_s]) dX1_copyFrom_74 ?_
  refine aC_putA (V := (aq_ug V 0 Q0)) (Q := M9) (j := 1) (i := i) (x := Q0 9 i) hJ S I (by decide) (by omega) 9 (by decide) in_X1_copyFrom_X1 (List.mem_of_getElem? (i := 10) rfl) dX1_copyFrom_77 (fun H locs M10 hM10 I => ?_)
  exact aq_vret S.1 S.2.1 hr hlocks I dX1_copyFrom_80 (by decide) (by decide) (by subst_vars; rfl)
theorem in_X0_copyFrom_X0 : ∀ w ∈ wsX00, w ∈ wsX0_copyFrom := fun _ h => List.mem_cons_of_mem _ (List.mem_append_left _ (List.mem_append_right _ h))
set_option maxHeartbeats 4000000 in
set_option maxRecDepth 100000 in
/-- X0_copyFrom -/
theorem c_X0_copyFrom (l : Launch) {D : va_G} {ad : Nat → Nat} {cI cQ : ClassId} (hJ : aq_J 49 ad) {V : aq_V} {Q0 Q1 : aq_Q} {n : Nat} (hn : Q0 10 3 = nI n) (hn20 : n ≤ 20) : aq_Met l yX0_copyFrom wsX0_copyFrom ({ frames := 1, cells := 0, slots := 0, locals := 64 }) D (aC_t cI cQ) 49 ad [.ref (ad 4), .ref (ad 3)] (aC_w ad cI cQ (aq_ug (aq_ug V 0 Q0) 1 Q1)) (aq_Qv D (aC_t cI cQ) 49 ad (aC_w ad cI cQ (aq_ug (aq_ug (aq_tc V) 0 Q0) 1 (aq_cpQ n Q0 Q1)))) 0 0 := by
  refine aq_enter (cc := cX0_copyFrom) (maxL := 3) (ret := none) (by decide) rfl (Nat.le_of_ble_eq_true rfl) ?_
  intro p e s m below meth c ls S hr hlocks hnm I hl
  have S : CallFix p m c cX0_copyFrom 3 s _ wsX0_copyFrom RX0 := S
  have hl : lv_has ls 3 [(0, .ref (ad 4)), (1, .ref (ad 3))] := hl
  have L32 : ∀ (k : Nat) (i : Nat) (Q' : aq_Q), (i + k = n) → (aq_cpAll Q0 k i Q' = aq_cpAll Q0 n 0 Q1) → ∀ (H : Heap) (locs : List Loc), aq_I D (aC_t cI cQ) (aq_A 49 ad) (aC_w ad cI cQ (aq_ug (aq_ug (aq_tc V) 0 Q0) 1 (Q'))) s H locs → ∀ ls : Array Slot, lv_has ls 3 [(2, .int (nI i)), (0, .ref (ad 4)), (1, .ref (ad 3))] → W p l e ({ frames := 1, cells := 0, slots := 0, locals := 64 } : Room) s m (([.ref (ad 4), .ref (ad 3)] : List Value).toArray) below meth c H locs 0 0 (MQ below ((aq_Qv D (aC_t cI cQ) 49 ad (aC_w ad cI cQ (aq_ug (aq_ug (aq_tc V) 0 Q0) 1 (aq_cpQ n Q0 Q1)))) s.heap.size) (([.ref (ad 4), .ref (ad 3)] : List Value).toArray) s 0 0 (aq_A 49 ad s.heap.size)) (F0 m 32 ls []) := by
    intro k
    induction k with
    | zero =>
      intro i Q' hk hq H locs I ls hl
      refine lv_iload_n S.1 S.2.1 dX0_copyFrom_32 rfl (lv_at hl 0 rfl) ?_
      refine lv_aload_n S.1 S.2.1 dX0_copyFrom_33 rfl (lv_at hl 2 rfl) ?_
      refine aC_getS (j := 0) (x := nI n) S I (by decide) 3 (by decide) (by decide) in_X0_copyFrom_X0 (List.mem_of_getElem? (i := 7) rfl) (by rw [aq_ug_n _ _ (by decide), aq_ug_s]; exact hn) dX0_copyFrom_34 ?_
      refine lv_icmp_ge (tgt := 61) S.1 S.2.1 dX0_copyFrom_37 (by decide) (fun c1 => ?_) (fun c1 => ?_)
      · have c1 : n ≤ i := (nI_leI (a := n) (b := i) (by omega) (by omega)).mp c1
        refine lv_aload_n S.1 S.2.1 dX0_copyFrom_61 rfl (lv_at hl 1 rfl) ?_
        refine lv_aload_n S.1 S.2.1 dX0_copyFrom_62 rfl (lv_at hl 2 rfl) ?_
        refine aC_getS (j := 0) (x := nI n) S I (by decide) 3 (by decide) (by decide) in_X0_copyFrom_X0 (List.mem_of_getElem? (i := 7) rfl) (by rw [aq_ug_n _ _ (by decide), aq_ug_s]; exact hn) dX0_copyFrom_63 ?_
        refine aC_putS (V := (aq_ug (aq_tc V) 0 Q0)) (Q := Q') (j := 1) (x := nI n) hJ S I (by decide) 3 (by decide) (by decide) in_X0_copyFrom_X0 (List.mem_of_getElem? (i := 7) rfl) dX0_copyFrom_66 (fun H locs M2 hM2 I => ?_)
        refine lv_aload_n S.1 S.2.1 dX0_copyFrom_69 rfl (lv_at hl 1 rfl) ?_
        refine lv_aload_n S.1 S.2.1 dX0_copyFrom_70 rfl (lv_at hl 2 rfl) ?_
        refine aC_getS (j := 0) (x := Q0 10 4) S I (by decide) 4 (by decide) (by decide) in_X0_copyFrom_X0 (List.mem_of_getElem? (i := 9) rfl) (by rw [aq_ug_n _ _ (by decide), aq_ug_s]) dX0_copyFrom_71 ?_
        refine aC_putS (V := (aq_ug (aq_tc V) 0 Q0)) (Q := M2) (j := 1) (x := Q0 10 4) hJ S I (by decide) 4 (by decide) (by decide) in_X0_copyFrom_X0 (List.mem_of_getElem? (i := 9) rfl) dX0_copyFrom_74 (fun H locs M3 hM3 I => ?_)
        refine lv_aload_n S.1 S.2.1 dX0_copyFrom_77 rfl (lv_at hl 1 rfl) ?_
        refine lv_aload_n S.1 S.2.1 dX0_copyFrom_78 rfl (lv_at hl 2 rfl) ?_
        refine aC_getS (j := 0) (x := Q0 10 5) S I (by decide) 5 (by decide) (by decide) in_X0_copyFrom_X0 (List.mem_of_getElem? (i := 10) rfl) (by rw [aq_ug_n _ _ (by decide), aq_ug_s]) dX0_copyFrom_79 ?_
        refine aC_putS (V := (aq_ug (aq_tc V) 0 Q0)) (Q := M3) (j := 1) (x := Q0 10 5) hJ S I (by decide) 5 (by decide) (by decide) in_X0_copyFrom_X0 (List.mem_of_getElem? (i := 10) rfl) dX0_copyFrom_82 (fun H locs M4 hM4 I => ?_)
        refine lv_aload_n S.1 S.2.1 dX0_copyFrom_85 rfl (lv_at hl 1 rfl) ?_
        refine lv_aload_n S.1 S.2.1 dX0_copyFrom_86 rfl (lv_at hl 2 rfl) ?_
        refine aC_getS (j := 0) (x := Q0 10 6) S I (by decide) 6 (by decide) (by decide) in_X0_copyFrom_X0 (List.mem_of_getElem? (i := 11) rfl) (by rw [aq_ug_n _ _ (by decide), aq_ug_s]) dX0_copyFrom_87 ?_
        refine aC_putS (V := (aq_ug (aq_tc V) 0 Q0)) (Q := M4) (j := 1) (x := Q0 10 6) hJ S I (by decide) 6 (by decide) (by decide) in_X0_copyFrom_X0 (List.mem_of_getElem? (i := 11) rfl) dX0_copyFrom_90 (fun H locs M5 hM5 I => ?_)
        refine lv_aload_n S.1 S.2.1 dX0_copyFrom_93 rfl (lv_at hl 1 rfl) ?_
        refine lv_aload_n S.1 S.2.1 dX0_copyFrom_94 rfl (lv_at hl 2 rfl) ?_
        refine aC_getS (j := 0) (x := Q0 10 7) S I (by decide) 7 (by decide) (by decide) in_X0_copyFrom_X0 (List.mem_of_getElem? (i := 12) rfl) (by rw [aq_ug_n _ _ (by decide), aq_ug_s]) dX0_copyFrom_95 ?_
        refine aC_putS (V := (aq_ug (aq_tc V) 0 Q0)) (Q := M5) (j := 1) (x := Q0 10 7) hJ S I (by decide) 7 (by decide) (by decide) in_X0_copyFrom_X0 (List.mem_of_getElem? (i := 12) rfl) dX0_copyFrom_98 (fun H locs M6 hM6 I => ?_)
        refine lv_aload_n S.1 S.2.1 dX0_copyFrom_101 rfl (lv_at hl 1 rfl) ?_
        refine lv_aload_n S.1 S.2.1 dX0_copyFrom_102 rfl (lv_at hl 2 rfl) ?_
        refine aC_getS (j := 0) (x := Q0 10 8) S I (by decide) 8 (by decide) (by decide) in_X0_copyFrom_X0 (List.mem_of_getElem? (i := 13) rfl) (by rw [aq_ug_n _ _ (by decide), aq_ug_s]) dX0_copyFrom_103 ?_
        refine aC_putS (V := (aq_ug (aq_tc V) 0 Q0)) (Q := M6) (j := 1) (x := Q0 10 8) hJ S I (by decide) 8 (by decide) (by decide) in_X0_copyFrom_X0 (List.mem_of_getElem? (i := 13) rfl) dX0_copyFrom_106 (fun H locs M7 hM7 I => ?_)
        refine lv_aload_n S.1 S.2.1 dX0_copyFrom_109 rfl (lv_at hl 1 rfl) ?_
        refine lv_aload_n S.1 S.2.1 dX0_copyFrom_110 rfl (lv_at hl 2 rfl) ?_
        refine aC_getS (j := 0) (x := Q0 10 9) S I (by decide) 9 (by decide) (by decide) in_X0_copyFrom_X0 (List.mem_of_getElem? (i := 14) rfl) (by rw [aq_ug_n _ _ (by decide), aq_ug_s]) dX0_copyFrom_111 ?_
        refine aC_putS (V := (aq_ug (aq_tc V) 0 Q0)) (Q := M7) (j := 1) (x := Q0 10 9) hJ S I (by decide) 9 (by decide) (by decide) in_X0_copyFrom_X0 (List.mem_of_getElem? (i := 14) rfl) dX0_copyFrom_114 (fun H locs M8 hM8 I => ?_)
        refine lv_aload_n S.1 S.2.1 dX0_copyFrom_117 rfl (lv_at hl 1 rfl) ?_
        refine lv_aload_n S.1 S.2.1 dX0_copyFrom_118 rfl (lv_at hl 2 rfl) ?_
        refine aC_getS (j := 0) (x := Q0 10 10) S I (by decide) 10 (by decide) (by decide) in_X0_copyFrom_X0 (List.mem_of_getElem? (i := 15) rfl) (by rw [aq_ug_n _ _ (by decide), aq_ug_s]) dX0_copyFrom_119 ?_
        refine aC_putS (V := (aq_ug (aq_tc V) 0 Q0)) (Q := M8) (j := 1) (x := Q0 10 10) hJ S I (by decide) 10 (by decide) (by decide) in_X0_copyFrom_X0 (List.mem_of_getElem? (i := 15) rfl) dX0_copyFrom_122 (fun H locs M9 hM9 I => ?_)
        refine lv_aload_n S.1 S.2.1 dX0_copyFrom_125 rfl (lv_at hl 1 rfl) ?_
        refine lv_aload_n S.1 S.2.1 dX0_copyFrom_126 rfl (lv_at hl 2 rfl) ?_
        refine aC_getS (j := 0) (x := Q0 10 11) S I (by decide) 11 (by decide) (by decide) in_X0_copyFrom_X0 (List.mem_of_getElem? (i := 16) rfl) (by rw [aq_ug_n _ _ (by decide), aq_ug_s]) dX0_copyFrom_127 ?_
        refine aC_putS (V := (aq_ug (aq_tc V) 0 Q0)) (Q := M9) (j := 1) (x := Q0 10 11) hJ S I (by decide) 11 (by decide) (by decide) in_X0_copyFrom_X0 (List.mem_of_getElem? (i := 16) rfl) dX0_copyFrom_130 (fun H locs M10 hM10 I => ?_)
        refine lv_aload_n S.1 S.2.1 dX0_copyFrom_133 rfl (lv_at hl 1 rfl) ?_
        refine lv_aload_n S.1 S.2.1 dX0_copyFrom_134 rfl (lv_at hl 2 rfl) ?_
        refine aC_getS (j := 0) (x := Q0 10 12) S I (by decide) 12 (by decide) (by decide) in_X0_copyFrom_X0 (List.mem_of_getElem? (i := 17) rfl) (by rw [aq_ug_n _ _ (by decide), aq_ug_s]) dX0_copyFrom_135 ?_
        refine aC_putS (V := (aq_ug (aq_tc V) 0 Q0)) (Q := M10) (j := 1) (x := Q0 10 12) hJ S I (by decide) 12 (by decide) (by decide) in_X0_copyFrom_X0 (List.mem_of_getElem? (i := 17) rfl) dX0_copyFrom_138 (fun H locs M11 hM11 I => ?_)
        exact aq_vret S.1 S.2.1 hr hlocks I dX0_copyFrom_141 (by decide) (by decide) (by rw [hM11, hM10, hM9, hM8, hM7, hM6, hM5, hM4, hM3, hM2]; exact congrArg (fun z => aC_w ad cI cQ (aq_ug (aq_ug (aq_tc V) 0 Q0) 1 (aq_cpS n Q0 z))) hq)
      · have c1 : i < n := Nat.lt_of_not_le (fun z9 => c1 ((nI_leI (a := n) (b := i) (by omega) (by omega)).mpr z9))
        exfalso; omega
    | succ k ih =>
      intro i Q' hk hq H locs I ls hl
      refine lv_iload_n S.1 S.2.1 dX0_copyFrom_32 rfl (lv_at hl 0 rfl) ?_
      refine lv_aload_n S.1 S.2.1 dX0_copyFrom_33 rfl (lv_at hl 2 rfl) ?_
      refine aC_getS (j := 0) (x := nI n) S I (by decide) 3 (by decide) (by decide) in_X0_copyFrom_X0 (List.mem_of_getElem? (i := 7) rfl) (by rw [aq_ug_n _ _ (by decide), aq_ug_s]; exact hn) dX0_copyFrom_34 ?_
      refine lv_icmp_ge (tgt := 61) S.1 S.2.1 dX0_copyFrom_37 (by decide) (fun c12 => ?_) (fun c12 => ?_)
      · have c12 : n ≤ i := (nI_leI (a := n) (b := i) (by omega) (by omega)).mp c12
        exfalso; omega
      · have c12 : i < n := Nat.lt_of_not_le (fun z9 => c12 ((nI_leI (a := n) (b := i) (by omega) (by omega)).mpr z9))
        refine lv_aload_n S.1 S.2.1 dX0_copyFrom_40 rfl (lv_at hl 1 rfl) ?_
        refine aC_getR (j := 1) S I (by decide) in_X0_copyFrom_X0 (List.mem_of_getElem? (i := 8) rfl) dX0_copyFrom_41 ?_
        refine lv_iload_n S.1 S.2.1 dX0_copyFrom_44 rfl (lv_at hl 0 rfl) ?_
        refine aC_row (j := 1) (i := i) S I (by decide) rfl (by omega) dX0_copyFrom_45 ?_
        refine lv_aload_n S.1 S.2.1 dX0_copyFrom_46 rfl (lv_at hl 2 rfl) ?_
        refine aC_getR (j := 0) S I (by decide) in_X0_copyFrom_X0 (List.mem_of_getElem? (i := 8) rfl) dX0_copyFrom_47 ?_
        refine lv_iload_n S.1 S.2.1 dX0_copyFrom_50 rfl (lv_at hl 0 rfl) ?_
        refine aC_row (j := 0) (i := i) S I (by decide) rfl (by omega) dX0_copyFrom_51 ?_
        refine aq_callVv (As := [.ref (ad (7 + 20 * 0 + i))]) (rest := []) S (c_X1_copyFrom l hJ (V := aq_tc V) (Q0 := Q0) (Q1 := Q') (i := i) (by omega)) (cwV 1 S.2.2.2.2 gX0_copyFrom_X1_copyFrom rfl rfl rfl (by decide +kernel) ⟨Nat.le_of_ble_eq_true rfl, Nat.le_of_ble_eq_true rfl⟩) (aC_recvA (j := 1) (i := i) I (by decide) (by omega)) I hl.1 dX0_copyFrom_52 rfl rfl (Nat.le_of_ble_eq_true rfl) ⟨by first | decide | (dsimp only; omega), by first | decide | (dsimp only; omega)⟩ (fun H locs I => ?_)
        obtain ⟨M13, hM13⟩ : ∃ z9 : aq_Q, z9 = aq_cpA Q0 Q' i := ⟨_, rfl⟩
        rw [← hM13] at I
        refine lv_iinc (v := nI (i + 1)) (lv' := [(2, .int (nI (i + 1))), (0, .ref (ad 4)), (1, .ref (ad 3))]) S.1 S.2.1 dX0_copyFrom_55 hl (k := 0) rfl (nI_1 _) (by decide) rfl (fun ls hl => ?_)
        refine lv_goto (tgt := 32) S.1 S.2.1 dX0_copyFrom_58 (by decide) ?_
        exact ih (i + 1) M13 (by omega) (by rw [hM13]; exact hq) _ _ I ls (lv_sub hl [0, 1, 2] rfl)
  refine lv_aload_n S.1 S.2.1 dX0_copyFrom_0 rfl (lv_at hl 1 rfl) ?_
  refine aC_getT (j := 0) S I (by decide) 0 (by decide) in_X0_copyFrom_X0 (List.mem_of_getElem? (i := 1) rfl) dX0_copyFrom_1 ?_
  refine lv_iconst (v := 0) S.1 S.2.1 dX0_copyFrom_4 (by decide) ?_
  refine lv_aload_n S.1 S.2.1 dX0_copyFrom_5 rfl (lv_at hl 0 rfl) ?_
  refine aC_getT (j := 1) S I (by decide) 0 (by decide) in_X0_copyFrom_X0 (List.mem_of_getElem? (i := 1) rfl) dX0_copyFrom_6 ?_
  refine lv_iconst (v := 0) S.1 S.2.1 dX0_copyFrom_9 (by decide) ?_
  refine lv_bipush (v := 24) S.1 S.2.1 dX0_copyFrom_10 (by decide) ?_
  refine aC_copy (t := 0) (rest := []) hJ S hl.1 I (by decide) (List.mem_of_getElem? (i := 2) rfl) (List.mem_of_getElem? (i := 3) rfl) (List.mem_of_getElem? (i := 4) rfl) (List.mem_of_getElem? (i := 5) rfl) (by decide) (by decide) dX0_copyFrom_12 (fun H locs I => ?_)
  refine lv_aload_n S.1 S.2.1 dX0_copyFrom_15 rfl (lv_at hl 1 rfl) ?_
  refine aC_getT (j := 0) S I (by decide) 1 (by decide) in_X0_copyFrom_X0 (List.mem_of_getElem? (i := 6) rfl) dX0_copyFrom_16 ?_
  refine lv_iconst (v := 0) S.1 S.2.1 dX0_copyFrom_19 (by decide) ?_
  refine lv_aload_n S.1 S.2.1 dX0_copyFrom_20 rfl (lv_at hl 0 rfl) ?_
  refine aC_getT (j := 1) S I (by decide) 1 (by decide) in_X0_copyFrom_X0 (List.mem_of_getElem? (i := 6) rfl) dX0_copyFrom_21 ?_
  refine lv_iconst (v := 0) S.1 S.2.1 dX0_copyFrom_24 (by decide) ?_
  refine lv_bipush (v := 24) S.1 S.2.1 dX0_copyFrom_25 (by decide) ?_
  refine aC_copy (t := 1) (rest := []) hJ S hl.1 I (by decide) (List.mem_of_getElem? (i := 2) rfl) (List.mem_of_getElem? (i := 3) rfl) (List.mem_of_getElem? (i := 4) rfl) (List.mem_of_getElem? (i := 5) rfl) (by decide) (by decide) dX0_copyFrom_27 (fun H locs I => ?_)
  have I := aC_Ic12 I
  rw [aq_tc_sw] at I
  refine lv_iconst (v := 0) S.1 S.2.1 dX0_copyFrom_30 (by decide) ?_
  refine lv_istore_n (lv' := [(2, .int 0), (0, .ref (ad 4)), (1, .ref (ad 3))]) S.1 S.2.1 dX0_copyFrom_31 rfl hl (by decide) rfl (fun ls hl => ?_)
  exact L32 n 0 Q1 (by omega) rfl _ _ I ls (lv_sub hl [0, 1, 2] rfl)
end
section
/-! methods that may throw: 1 IllegalArgumentException, 2 IndexOutOfBoundsException, 3 IllegalStateException; 0: none -/
def aq_en (κ : Nat) : String := if κ = 1 then "java/lang/IllegalArgumentException" else if κ = 2 then "java/lang/IndexOutOfBoundsException" else "java/lang/IllegalStateException"
abbrev aq_xn : List String := ["java/lang/RuntimeException", "java/lang/Exception"]
def aq_xd (n : String) : Cond := .declares ⟨n, "<init>", "(Ljava/lang/String;)V"⟩
/-- what a throw stands on: words of the tables, two statics of Throwable, the texts -/
def aq_TE (A : Nat → Prop) (U : State) (H : Heap) : Prop :=
  (va_Nw (.castable "java/lang/IllegalArgumentException" "java/lang/IllegalArgumentException") U ∧ va_Nw (.castable "java/lang/IndexOutOfBoundsException" "java/lang/IndexOutOfBoundsException") U ∧ va_Nw (.castable "java/lang/IllegalStateException" "java/lang/IllegalStateException") U) ∧
  (va_Nw (aq_xd "java/lang/RuntimeException") U ∧ va_Nw (aq_xd "java/lang/Exception") U ∧ va_Nw (aq_xd "java/lang/Throwable") U) ∧
  (vx_Zq Bundle.tN "UNASSIGNED_STACK" Bundle.steD A U H ∧ vx_Zq Bundle.tN "SUPPRESSED_SENTINEL" Bundle.listD A U H) ∧
  (∃ sa, vk_R RX2 33 "there are as many arches as there can be" sa U) ∧ (∃ sa, vk_R RX2 78 "there is a mill already" sa U) ∧ (∃ sa, vk_R RX2 86 "there is no mill" sa U) ∧ (∃ sa, vk_R RX2 97 "there is no coin" sa U) ∧ (∃ sa, vk_R RX2 102 "the arch is not worn" sa U) ∧ (∃ sa, vk_R RX2 161 "there is none of this number" sa U) ∧ (∃ sa, vk_R RX2 166 "the number is too small or too great" sa U)
theorem aq_TE.warm {A B : Nat → Prop} {s U : State} {H : Heap} (hW : s.WarmedH U.vm) (hk : ∀ a : Nat, a < s.heap.size → ¬ A a → H[a]? = s.heap[a]?) (hAB : ∀ q, B q → A q) (h : aq_TE A s s.heap) : aq_TE B U H := by
  obtain ⟨⟨a1, a2, a3⟩, ⟨b1, b2, b3⟩, ⟨c1, c2⟩, ⟨_, d1⟩, ⟨_, d2⟩, ⟨_, d3⟩, ⟨_, d4⟩, ⟨_, d5⟩, ⟨_, d6⟩, ⟨_, d7⟩⟩ := h
  exact ⟨⟨va_Nw.warmC hW a1, va_Nw.warmC hW a2, va_Nw.warmC hW a3⟩, ⟨va_Nw.warmD hW b1, va_Nw.warmD hW b2, va_Nw.warmD hW b3⟩, ⟨vx_Zq.moved hW.alike ((c1.kept hk).narrow hAB), vx_Zq.moved hW.alike ((c2.kept hk).narrow hAB)⟩,
    ⟨_, vk_R.warm hW d1⟩, ⟨_, vk_R.warm hW d2⟩, ⟨_, vk_R.warm hW d3⟩, ⟨_, vk_R.warm hW d4⟩, ⟨_, vk_R.warm hW d5⟩, ⟨_, vk_R.warm hW d6⟩, ⟨_, vk_R.warm hW d7⟩⟩
theorem aq_TE.calling {A : Nat → Prop} {U : State} {g : JFrame} {mk : MethodId} {a : Array Value} (h : aq_TE A U U.heap) : aq_TE A (U.calling g mk a) (U.calling g mk a).heap := by
  obtain ⟨⟨a1, a2, a3⟩, ⟨b1, b2, b3⟩, ⟨c1, c2⟩, ⟨_, d1⟩, ⟨_, d2⟩, ⟨_, d3⟩, ⟨_, d4⟩, ⟨_, d5⟩, ⟨_, d6⟩, ⟨_, d7⟩⟩ := h
  exact ⟨⟨va_Nw.same rfl (u := U) rfl a1, va_Nw.same rfl (u := U) rfl a2, va_Nw.same rfl (u := U) rfl a3⟩, ⟨va_Nw.same rfl (u := U) rfl b1, va_Nw.same rfl (u := U) rfl b2, va_Nw.same rfl (u := U) rfl b3⟩, ⟨vx_Zq.moved (u := U) (Vm.Alike.refl U.vm) c1, vx_Zq.moved (u := U) (Vm.Alike.refl U.vm) c2⟩,
    ⟨_, vk_R.same (u := U) rfl d1⟩, ⟨_, vk_R.same (u := U) rfl d2⟩, ⟨_, vk_R.same (u := U) rfl d3⟩, ⟨_, vk_R.same (u := U) rfl d4⟩, ⟨_, vk_R.same (u := U) rfl d5⟩, ⟨_, vk_R.same (u := U) rfl d6⟩, ⟨_, vk_R.same (u := U) rfl d7⟩⟩
def aq_PcX (D : va_G) (tys : List (ClassId × FieldType)) (N : Nat) (ad : Nat → Nat) (As : List Value) (w : va_W) (sz : Nat) : Array Value → State → Prop := va_Pc As (fun U => U.heap.size = sz ∧ aq_B D tys w U ∧ aq_TE (aq_A N ad sz) U U.heap)
def aq_XC (D : va_G) (tys : List (ClassId × FieldType)) (N : Nat) (ad : Nat → Nat) (κ : Nat) (w : va_W) (sz : Nat) : String → State → State → Prop := vx_X (fun (_ : Unit) => True) (fun E _ t => (κ ≠ 0 ∧ E = aq_en κ) ∧ aq_B D tys w t) (aq_A N ad sz)
def aq_QiX (D : va_G) (tys : List (ClassId × FieldType)) (N : Nat) (ad : Nat → Nat) (κ : Nat) (r : Int32) (w' : va_W) (sz : Nat) : Array Value → State → Outcome → State → Prop := va_Qi (fun (x : Int32) (_ : Unit) => κ = 0 ∧ x = r) (fun _ t => aq_B D tys w' t) (aq_A N ad sz)
def aq_QvX (D : va_G) (tys : List (ClassId × FieldType)) (N : Nat) (ad : Nat → Nat) (κ : Nat) (w' : va_W) (sz : Nat) : Array Value → State → Outcome → State → Prop := va_Qv (fun (_ : Unit) => κ = 0) (fun _ t => aq_B D tys w' t) (aq_A N ad sz)
def aq_MetX (l : Launch) (y : MethodName) (ws : List Cond) (rm : Room) (D : va_G) (tys : List (ClassId × FieldType)) (N : Nat) (ad : Nat → Nat) (As : List Value) (w : va_W) (κ : Nat) (Qc : Nat → Array Value → State → Outcome → State → Prop) (mc ms : Nat) : Prop :=
  ∀ sz, vx_Met l y ws rm (aq_PcX D tys N ad As w sz) (Qc sz) (aq_XC D tys N ad κ w sz) mc ms (aq_A N ad sz)
theorem aq_bad1 : ∀ w ∈ (vx_atS RX2 168 "java/lang/IllegalArgumentException" aq_xn).filter (fun w => !goodWord w), w ∈ [Cond.castable "java/lang/IllegalArgumentException" "java/lang/IllegalArgumentException", aq_xd "java/lang/RuntimeException", aq_xd "java/lang/Exception", aq_xd "java/lang/Throwable"] := by decide +kernel
theorem aq_bad2 : ∀ w ∈ (vx_atS RX2 163 "java/lang/IndexOutOfBoundsException" aq_xn).filter (fun w => !goodWord w), w ∈ [Cond.castable "java/lang/IndexOutOfBoundsException" "java/lang/IndexOutOfBoundsException", aq_xd "java/lang/RuntimeException", aq_xd "java/lang/Exception", aq_xd "java/lang/Throwable"] := by decide +kernel
theorem aq_bad3 : ∀ w ∈ (vx_atS RX2 35 "java/lang/IllegalStateException" aq_xn).filter (fun w => !goodWord w), w ∈ [Cond.castable "java/lang/IllegalStateException" "java/lang/IllegalStateException", aq_xd "java/lang/RuntimeException", aq_xd "java/lang/Exception", aq_xd "java/lang/Throwable"] := by decide +kernel
theorem aq_ot1 : ∀ w ∈ Cond.classLink RX2 164 "java/lang/IllegalArgumentException" :: Cond.initialized "java/lang/IllegalArgumentException" :: vx_atS RX2 168 "java/lang/IllegalArgumentException" aq_xn, vx_ot w = true := by decide +kernel
theorem aq_ot2 : ∀ w ∈ Cond.classLink RX2 159 "java/lang/IndexOutOfBoundsException" :: Cond.initialized "java/lang/IndexOutOfBoundsException" :: vx_atS RX2 163 "java/lang/IndexOutOfBoundsException" aq_xn, vx_ot w = true := by decide +kernel
theorem aq_ot3 : ∀ w ∈ Cond.classLink RX2 31 "java/lang/IllegalStateException" :: Cond.initialized "java/lang/IllegalStateException" :: vx_atS RX2 35 "java/lang/IllegalStateException" aq_xn, vx_ot w = true := by decide +kernel
section AQX
variable {p : Program} {l : Launch} {e : Env} {R : Room} {s : State} {m : MethodId} {args : Array Value} {below : List Frame} {meth : Method} {c : Code} {H : Heap} {locs : List Loc} {cells slots : Nat} {Q : State → Prop}
variable {cc bytes : ByteArray} {maxL nL mc ms mc1 ms1 n index pc N κ κ1 : Nat} {ad : Nat → Nat} {ls : Array Slot} {st rest : List Value} {ret : Option FieldType} {ws ws' Ts : List Cond} {rm : Room} {y : MethodName} {own C ref : String} {D : va_G} {tys : List (ClassId × FieldType)} {w w' w0 w1 : va_W} {As : List Value} {Qc : Nat → Array Value → State → Outcome → State → Prop}
theorem aq_enterX (hy : plainName y.cls = true) (hw : ws = Cond.code y cc maxL ret :: ws') (hn : (lg_sl As).length ≤ maxL)
    (k : ∀ (p : Program) (e : Env) (s : State) (m : MethodId) (below : List Frame) (meth : Method) (c : Code) (ls : Array Slot), CallFix p m c cc maxL s As.toArray ws y.cls → meth.sig.returnType = ret → meth.locks = false → (∀ x ∈ c.exceptionTable.toList, False) → aq_TE (aq_A N ad s.heap.size) s s.heap → aq_I D tys (aq_A N ad) w s s.heap [] → lv_has ls maxL (lv_args 0 As) →
      W p l e rm s m As.toArray below meth c s.heap [] 0 0 (vx_MQ below (Qc s.heap.size) (aq_XC D tys N ad κ w s.heap.size) As.toArray s mc ms (aq_A N ad s.heap.size)) (F0 m 0 ls [])) :
    aq_MetX l y ws rm D tys N ad As w κ Qc mc ms := by
  intro sz
  refine vx_ofW (cc := cc) (maxL := maxL) (ret := ret) hy hw ?_
  intro p e s m args below meth c s₁ B hml hout hv
  obtain ⟨rfl, hsz, hB, hT⟩ := hv
  subst hsz
  have hl := lv_entry As (n := maxL) hn
  rw [lg_entry_eq]
  exact k p e s m below meth c _ ⟨B.exec, B.bytes, hml, findClass_of_methodNamed B.named, atoms_spec (ws := ws) B.pre⟩ B.returns B.notSynchronized hout hT ⟨hB.1, hB.2, va_S.rf⟩ hl
theorem aq_blindX {sz : Nat} : FrameBlind (aq_PcX D tys N ad As w sz) := fun a U g mk q => by
  obtain ⟨q0, q1, ⟨qK, qP⟩, qT⟩ := q
  exact ⟨q0, q1, ⟨va_K.moved (u := U) (U := U.calling g mk a) (Vm.Alike.refl U.vm) qK, qP⟩, qT.calling⟩
theorem aq_preVX {b : Addr} (I : aq_I D tys (aq_A N ad) w s H locs) (hT : aq_TE (aq_A N ad s.heap.size) s s.heap) (hr : ∃ cell : Cell, H[b]? = some cell ∧ cell.vm.isStatics = false ∧ s.vm.findClass C = some cell.cls) : PreV s H C b (aq_PcX D tys N ad (.ref b :: As) w H.size) As :=
  ⟨aq_blindX, hr, fun U hU hW => ⟨rfl, by rw [hU], ⟨va_K.moved hW.alike I.1, by rw [hU]; exact I.2.1⟩, by rw [hU]; exact hT.warm hW I.2.2.2.1 (aq_free I)⟩⟩
theorem aq_preSX (I : aq_I D tys (aq_A N ad) w s H locs) (hT : aq_TE (aq_A N ad s.heap.size) s s.heap) : PreS s H (aq_PcX D tys N ad As w H.size) As :=
  ⟨aq_blindX, fun U hU hW => ⟨rfl, by rw [hU], ⟨va_K.moved hW.alike I.1, by rw [hU]; exact I.2.1⟩, by rw [hU]; exact hT.warm hW I.2.2.2.1 (aq_free I)⟩⟩
/-- what a callee throws goes on to the caller -/
theorem aq_onward (hlocks : meth.locks = false) (hout : ∀ x ∈ c.exceptionTable.toList, False) {E : String} {ce : Cell} {q9 : Addr} {t : State} {H1 : Heap} {locs1 : List Loc} (ht : t.heap = H1) (hvm : s.vm.Alike t.vm) (hB : (κ1 ≠ 0 ∧ E = aq_en κ1) ∧ aq_B D tys w t) (hS : va_S (aq_A N ad s.heap.size) s.heap H1 locs1) (hce : H1[q9]? = some ce) (hcv : ce.vm = .none) (hcl : s.vm.findClass E = some ce.cls) (hc : cells ≤ mc) (hs : slots ≤ ms) (hp : κ1 ≠ 0 → κ = κ1) :
    vx_W p l e R s m args below meth c H1 locs1 cells slots (vx_MQ below (Qc s.heap.size) (aq_XC D tys N ad κ w s.heap.size) args s mc ms (aq_A N ad s.heap.size)) (F0 m pc ls rest) q9 := by
  obtain ⟨⟨hz, hE⟩, hB⟩ := hB
  refine vx_out (fun x hx => (hout x hx).elim) hlocks hce hcv hcl (fun t2 ht2 hA2 => ⟨(), trivial, ⟨⟨by rw [hp hz]; exact hz, by rw [hE, hp hz]⟩, va_K.moved (hvm.symm.trans hA2) hB.1, by rw [ht2, ← ht]; exact hB.2⟩, hS.F ht2⟩) hS.2.2 hc hs
theorem aq_xcallSv (S : CallFix p m c cc nL s args Ts own) (hT : aq_TE (aq_A N ad s.heap.size) s s.heap) (hlocks : meth.locks = false) (hout : ∀ x ∈ c.exceptionTable.toList, False) (hM : aq_MetX l y ws rm D tys N ad As w κ1 (aq_QvX D tys N ad κ1 w') mc1 ms1) (cw : CallB R s args own index y bytes maxL ret ws rm mc1 ms1 n ∧ (Cond.static y).before args s = true)
    (I : aq_I D tys (aq_A N ad) w s H locs) (hsz : ls.size = nL) (hdg : decode cc pc = .ok (.invokestatic index, 3)) (hn : As.length = n) (hst : st = As.reverse ++ rest) (hW : (rest.map fun v => v.category).sum ≤ 8) (hf : cells + mc1 ≤ R.cells ∧ slots + ms1 ≤ R.slots) (hg : cells + mc1 ≤ mc ∧ slots + ms1 ≤ ms) (hp : κ1 ≠ 0 → κ = κ1)
    (kk : κ1 = 0 → ∀ (H1 : Heap) (locs1 : List Loc), aq_I D tys (aq_A N ad) w' s H1 locs1 → W p l e R s m args below meth c H1 locs1 (cells + mc1) (slots + ms1) (vx_MQ below (Qc s.heap.size) (aq_XC D tys N ad κ w s.heap.size) args s mc ms (aq_A N ad s.heap.size)) (F0 m (pc + 3) ls rest)) : W p l e R s m args below meth c H locs cells slots (vx_MQ below (Qc s.heap.size) (aq_XC D tys N ad κ w s.heap.size) args s mc ms (aq_A N ad s.heap.size)) (F0 m pc ls st) := by
  refine vx_callv (vx_runS S (hM H.size) cw (aq_preSX I hT) rfl hn hsz hst (lv_room hW) hdg hf) I.2.2 (fun q _ h => aq_free I q h) (aq_free I) (fun q _ h => aq_free I q h) (fun E ce q9 u t H1 locs1 ht hvm hx hB _ _ hS hce hcv hcl => aq_onward hlocks hout ht hvm hB hS hce hcv hcl hg.1 hg.2 hp) (fun u t H1 locs1 ht hvm hx hB _ _ hS => ?_)
  exact kk hx H1 locs1 (aq_back I ht hvm hB hS)
theorem aq_xcallVv {b : Addr} (S : CallFix p m c cc nL s args Ts own) (hT : aq_TE (aq_A N ad s.heap.size) s s.heap) (hlocks : meth.locks = false) (hout : ∀ x ∈ c.exceptionTable.toList, False) (hM : aq_MetX l y ws rm D tys N ad (.ref b :: As) w κ1 (aq_QvX D tys N ad κ1 w') mc1 ms1) (cw : CallW R s args own C index y bytes maxL ret ws rm mc1 ms1 n) (hr : ∃ cell : Cell, H[b]? = some cell ∧ cell.vm.isStatics = false ∧ s.vm.findClass C = some cell.cls)
    (I : aq_I D tys (aq_A N ad) w s H locs) (hsz : ls.size = nL) (hdg : decode cc pc = .ok (.invokevirtual index, 3)) (hn : As.length = n) (hst : st = As.reverse ++ .ref b :: rest) (hW : (rest.map fun v => v.category).sum ≤ 8) (hf : cells + mc1 ≤ R.cells ∧ slots + ms1 ≤ R.slots) (hg : cells + mc1 ≤ mc ∧ slots + ms1 ≤ ms) (hp : κ1 ≠ 0 → κ = κ1)
    (kk : κ1 = 0 → ∀ (H1 : Heap) (locs1 : List Loc), aq_I D tys (aq_A N ad) w' s H1 locs1 → W p l e R s m args below meth c H1 locs1 (cells + mc1) (slots + ms1) (vx_MQ below (Qc s.heap.size) (aq_XC D tys N ad κ w s.heap.size) args s mc ms (aq_A N ad s.heap.size)) (F0 m (pc + 3) ls rest)) : W p l e R s m args below meth c H locs cells slots (vx_MQ below (Qc s.heap.size) (aq_XC D tys N ad κ w s.heap.size) args s mc ms (aq_A N ad s.heap.size)) (F0 m pc ls st) := by
  refine vx_callv (vx_runV S (hM H.size) cw (aq_preVX I hT hr) rfl hn hsz hst (lv_room hW) hdg hf) I.2.2 (fun q _ h => aq_free I q h) (aq_free I) (fun q _ h => aq_free I q h) (fun E ce q9 u t H1 locs1 ht hvm hx hB _ _ hS hce hcv hcl => aq_onward hlocks hout ht hvm hB hS hce hcv hcl hg.1 hg.2 hp) (fun u t H1 locs1 ht hvm hx hB _ _ hS => ?_)
  exact kk hx H1 locs1 (aq_back I ht hvm hB hS)
theorem aq_xcallSi {r : Int32} (S : CallFix p m c cc nL s args Ts own) (hT : aq_TE (aq_A N ad s.heap.size) s s.heap) (hlocks : meth.locks = false) (hout : ∀ x ∈ c.exceptionTable.toList, False) (hM : aq_MetX l y ws rm D tys N ad As w κ1 (aq_QiX D tys N ad κ1 r w') mc1 ms1) (cw : CallB R s args own index y bytes maxL ret ws rm mc1 ms1 n ∧ (Cond.static y).before args s = true)
    (I : aq_I D tys (aq_A N ad) w s H locs) (hsz : ls.size = nL) (hdg : decode cc pc = .ok (.invokestatic index, 3)) (hn : As.length = n) (hst : st = As.reverse ++ rest) (hW : (rest.map fun v => v.category).sum ≤ 8) (hf : cells + mc1 ≤ R.cells ∧ slots + ms1 ≤ R.slots) (hg : cells + mc1 ≤ mc ∧ slots + ms1 ≤ ms) (hp : κ1 ≠ 0 → κ = κ1)
    (kk : κ1 = 0 → ∀ (H1 : Heap) (locs1 : List Loc), aq_I D tys (aq_A N ad) w' s H1 locs1 → W p l e R s m args below meth c H1 locs1 (cells + mc1) (slots + ms1) (vx_MQ below (Qc s.heap.size) (aq_XC D tys N ad κ w s.heap.size) args s mc ms (aq_A N ad s.heap.size)) (F0 m (pc + 3) ls (.int r :: rest))) : W p l e R s m args below meth c H locs cells slots (vx_MQ below (Qc s.heap.size) (aq_XC D tys N ad κ w s.heap.size) args s mc ms (aq_A N ad s.heap.size)) (F0 m pc ls st) := by
  refine vx_calli (vx_runS S (hM H.size) cw (aq_preSX I hT) rfl hn hsz hst (lv_room hW) hdg hf) I.2.2 (fun q _ h => aq_free I q h) (aq_free I) (fun q _ h => aq_free I q h) (fun E ce q9 u t H1 locs1 ht hvm hx hB _ _ hS hce hcv hcl => aq_onward hlocks hout ht hvm hB hS hce hcv hcl hg.1 hg.2 hp) (fun x u t H1 locs1 ht hvm hx hB _ _ hS => ?_)
  obtain ⟨hx0, hx1⟩ := hx
  subst hx1
  exact kk hx0 H1 locs1 (aq_back I ht hvm hB hS)
/-- 'throw new E("..")' in the class -/
theorem aq_throw {cls text : String} {ik is ic sa : Nat} {B : List Cond} (S : CallFix p m c cc nL s args Ts RX2) (hlt : l.stackTraces = false) (hT : aq_TE (aq_A N ad s.heap.size) s s.heap) (hlocks : meth.locks = false) (hout : ∀ x ∈ c.exceptionTable.toList, False) (I : aq_I D tys (aq_A N ad) w s H locs) (hsz : ls.size = nL) (hcls : Bundle.fit cls = true)
    (hk : Cond.classLink RX2 ik cls ∈ Ts) (hini : Cond.initialized cls ∈ Ts) (hstr : vk_R RX2 is text sa s) (hgw : ∀ w ∈ (vx_atS RX2 ic cls aq_xn).filter goodWord, w ∈ Ts) (hbad : ∀ w ∈ (vx_atS RX2 ic cls aq_xn).filter (fun w => !goodWord w), w ∈ B) (hB : ∀ w ∈ B, w.before args s = true) (hot : ∀ w ∈ Cond.classLink RX2 ik cls :: Cond.initialized cls :: vx_atS RX2 ic cls aq_xn, vx_ot w = true)
    (d0 : decode cc pc = .ok (.new ik, 3)) (d3 : decode cc (pc + 3) = .ok (.dup, 1)) (d4 : decode cc (pc + 4) = .ok (.ldc is, 2)) (d6 : decode cc (pc + 6) = .ok (.invokespecial ic, 3)) (d9 : decode cc (pc + 9) = .ok (.athrow, 1))
    (hRf : 5 < R.frames) (hRl : (rest.map fun v => v.category).sum + 82 ≤ R.locals) (hRc : cells + 1 ≤ R.cells) (hRs : slots + 6 ≤ R.slots) (hc : cells + 1 ≤ mc) (hs : slots + 6 ≤ ms) (hκ : κ ≠ 0 ∧ cls = aq_en κ) :
    W p l e R s m args below meth c H locs cells slots (vx_MQ below (Qc s.heap.size) (aq_XC D tys N ad κ w s.heap.size) args s mc ms (aq_A N ad s.heap.size)) (F0 m pc ls rest) := by
  refine vx_throwS (names := aq_xn) S.1 S.2.1 hlt S.2.2.2.1 hcls (by decide) (S.2.2.2.2 _ hk) (S.2.2.2.2 _ hini) hstr (vx_hat (fun w hw => S.2.2.2.2 w (hgw w hw)) hbad hB) hot hT.2.2.1.1 hT.2.2.1.2 I.2.2 (hsz.trans S.2.2.1.symm) d0 d3 d4 d6 d9 (fun x hx => (hout x hx).elim) hRf (by simpa using hRl) hRc hRs hlocks (fun t hA hsz2 hq => ?_) I.2.2.2.2 hc hs
  refine ⟨(), trivial, ⟨hκ, va_K.moved hA I.1, I.2.1.kept (fun k q hk => hq q.1 ((I.2.1 k q hk).lt))⟩, Nat.le_trans I.2.2.1 hsz2, fun q h1 h2 => ?_⟩
  rw [hq q (Nat.lt_of_lt_of_le h1 I.2.2.1)]
  exact I.2.2.2.1 q h1 h2
theorem aq_badB1 (hT : aq_TE (aq_A N ad s.heap.size) s s.heap) : ∀ w ∈ [Cond.castable "java/lang/IllegalArgumentException" "java/lang/IllegalArgumentException", aq_xd "java/lang/RuntimeException", aq_xd "java/lang/Exception", aq_xd "java/lang/Throwable"], w.before args s = true :=
  vx_c (va_Nw.use rfl hT.1.1) (vx_c (va_Nw.use rfl hT.2.1.1) (vx_c (va_Nw.use rfl hT.2.1.2.1) (vx_c (va_Nw.use rfl hT.2.1.2.2) vx_n)))
theorem aq_badB2 (hT : aq_TE (aq_A N ad s.heap.size) s s.heap) : ∀ w ∈ [Cond.castable "java/lang/IndexOutOfBoundsException" "java/lang/IndexOutOfBoundsException", aq_xd "java/lang/RuntimeException", aq_xd "java/lang/Exception", aq_xd "java/lang/Throwable"], w.before args s = true :=
  vx_c (va_Nw.use rfl hT.1.2.1) (vx_c (va_Nw.use rfl hT.2.1.1) (vx_c (va_Nw.use rfl hT.2.1.2.1) (vx_c (va_Nw.use rfl hT.2.1.2.2) vx_n)))
theorem aq_badB3 (hT : aq_TE (aq_A N ad s.heap.size) s s.heap) : ∀ w ∈ [Cond.castable "java/lang/IllegalStateException" "java/lang/IllegalStateException", aq_xd "java/lang/RuntimeException", aq_xd "java/lang/Exception", aq_xd "java/lang/Throwable"], w.before args s = true :=
  vx_c (va_Nw.use rfl hT.1.2.2) (vx_c (va_Nw.use rfl hT.2.1.1) (vx_c (va_Nw.use rfl hT.2.1.2.1) (vx_c (va_Nw.use rfl hT.2.1.2.2) vx_n)))
/-- the ends -/
theorem aq_xiret {x r : Int32} (hx : p.tables.exec = Jvm.exec) (hb : c.code = cc) (hr : meth.sig.returnType = some .int) (hlocks : meth.locks = false) (I : aq_I D tys (aq_A N ad) w1 s H locs) (hdg : decode cc pc = .ok (.ireturn, 1)) (hc : cells ≤ mc) (hs : slots ≤ ms) (hκ : κ = 0) (he : x = r) (hw : w1 = w') :
    W p l e R s m args below meth c H locs cells slots (vx_MQ below (aq_QiX D tys N ad κ r w' s.heap.size) (aq_XC D tys N ad κ w0 s.heap.size) args s mc ms (aq_A N ad s.heap.size)) (F0 m pc ls [.int x]) := by
  subst he; subst hw
  exact vx_ret (W.widen hc hs (W.iret (v := x) hx hb hr (fun t ht hW => ⟨⟨x, (), rfl, ⟨hκ, rfl⟩, va_K.moved hW.alike I.1, by rw [ht]; exact I.2.1⟩, I.2.2.F ht⟩) I.2.2.2.2 hdg))
theorem aq_xvret (hx : p.tables.exec = Jvm.exec) (hb : c.code = cc) (hr : meth.sig.returnType = none) (hlocks : meth.locks = false) (I : aq_I D tys (aq_A N ad) w1 s H locs) (hdg : decode cc pc = .ok (.return_, 1)) (hc : cells ≤ mc) (hs : slots ≤ ms) (hκ : κ = 0) (hw : w1 = w') :
    W p l e R s m args below meth c H locs cells slots (vx_MQ below (aq_QvX D tys N ad κ w' s.heap.size) (aq_XC D tys N ad κ w0 s.heap.size) args s mc ms (aq_A N ad s.heap.size)) (F0 m pc ls []) := by
  subst hw
  exact vx_ret (W.widen hc hs (W.vret hx hb hr (fun t ht hW => ⟨⟨(), rfl, hκ, va_K.moved hW.alike I.1, by rw [ht]; exact I.2.1⟩, I.2.2.F ht⟩) I.2.2.2.2 hdg))
end AQX
end
section
/-! the class's own calls, as pure functions: which exception (0 none), the answer, the memory behind -/
def aq_seq (a b : Nat) : Nat := if a = 0 then b else a
def aq_ixK (i e : Int32) : Nat := if i < 0 then 2 else if i < e then 0 else 2
def aq_rgK (x lo hi : Int32) : Nat := if x < lo then 1 else if x ≤ hi then 0 else 1
theorem aq_ixK_ok {i : Int32} {e : Nat} (he : e < 2 ^ 31) (h : aq_ixK i (nI e) = 0) : ∃ k : Nat, k < e ∧ i = nI k := by
  unfold aq_ixK at h
  split at h
  · cases h
  · rename_i h0
    split at h
    · rename_i h1
      rcases pk_ix i he with h2 | h2 | h2
      · exact absurd h2 h0
      · exact absurd h1 (Int32.not_lt.mpr h2)
      · exact h2
    · cases h
def aq_setK (h w : Int32) : Nat := aq_seq (aq_ixK h 24) (aq_rgK w 0 40)
def aq_setT (T : aq_Q) (t : Nat) (h w : Int32) : aq_Q := aq_up T t h.toNatClampNeg w
def aq_buildK (n : Nat) (Q : aq_Q) (h z : Int32) : Nat := aq_seq (aq_rgK h 0 (aq_top n Q)) (aq_seq (aq_rgK z 1 40) (if n < 20 then 0 else 3))
def aq_archK (n : Nat) (a w : Int32) : Nat := aq_seq (aq_ixK a (nI n)) (aq_ixK w 9)
def aq_addMK (n : Nat) (Q : aq_Q) (a x : Int32) : Nat := aq_seq (aq_ixK a (nI n)) (aq_seq (aq_rgK x 1 30) (if aq_hasMill Q a.toNatClampNeg = 0 then 0 else 3))
def aq_addMQ (Q : aq_Q) (a x : Int32) : aq_Q := aq_up Q 6 a.toNatClampNeg x
def aq_sluK (n : Nat) (Q : aq_Q) (a x : Int32) : Nat := aq_seq (aq_ixK a (nI n)) (aq_seq (aq_rgK x 0 10) (if aq_hasMill Q a.toNatClampNeg = 0 then 3 else 0))
def aq_sluQ (Q : aq_Q) (a x : Int32) : aq_Q := aq_up Q 7 a.toNatClampNeg x
def aq_millK (n : Nat) (a w : Int32) : Nat := aq_seq (aq_ixK a (nI n)) (aq_ixK w 4)
def aq_mendK (n : Nat) (Q : aq_Q) (a : Int32) : Nat := aq_seq (aq_ixK a (nI n)) (if 1 ≤ Q 10 5 then (if Q 3 a.toNatClampNeg = 0 then 3 else 0) else 3)
def aq_mend1 (Q : aq_Q) : aq_Q := aq_up Q 10 5 (Q 10 5 - 1)
def aq_mend2 (Q : aq_Q) (a : Nat) : aq_Q := aq_up (aq_mend1 Q) 3 a (aq_mx 0 (aq_mend1 Q 3 a - 10))
def aq_mendQ (Q : aq_Q) (a : Nat) : aq_Q := aq_up (aq_mend2 Q a) 4 a 0
def aq_quakeK (n : Nat) (a x : Int32) : Nat := aq_seq (aq_ixK a (nI n)) (aq_rgK x 1 50)
def aq_forK (h w : Int32) : Nat := aq_seq (aq_rgK h 1 100) (aq_ixK w 4)
theorem aq_rgK_ok {x : Int32} {a b : Nat} (ha : a < 2 ^ 31) (hb : b < 2 ^ 31) (h : aq_rgK x (nI a) (nI b) = 0) : ∃ k : Nat, a ≤ k ∧ k ≤ b ∧ x = nI k := by
  unfold aq_rgK at h
  split at h
  · cases h
  · rename_i h0
    split at h
    · rename_i h1
      have h2 : nI a ≤ x := Int32.not_lt.mp h0
      have h3 : ¬ x < 0 := Int32.not_lt.mpr (Int32.le_trans (nI_pos' ha) h2)
      obtain ⟨j, hj, rfl⟩ := nI_of h3
      exact ⟨j, (nI_leI ha hj).mp h2, (nI_leI hj hb).mp h1, rfl⟩
    · cases h
theorem aq_cpQ_n (n : Nat) (Q0 Q1 : aq_Q) : aq_cpQ n Q0 Q1 10 3 = nI n := by simp [aq_cpQ, aq_cpS, aq_up]
theorem aq_cpQ_h (n : Nat) (Q0 Q1 : aq_Q) : aq_cpQ n Q0 Q1 10 4 = Q0 10 4 := by simp [aq_cpQ, aq_cpS, aq_up]
theorem aq_sizeQ_n (Q : aq_Q) (o : Int32) : aq_sizeQ Q o 10 3 = Q 10 3 := by simp [aq_sizeQ, aq_size1, aq_up]
/-- looking ahead: the memory of the trial behind it -/
def aq_tw0 (n : Nat) (T : aq_Q) (h : Nat) (Q0 Q1 : aq_Q) : aq_Q := aq_goQ n T h (aq_cpQ n Q0 Q1)
def aq_tw (n : Nat) (T : aq_Q) (h : Nat) (Q0 Q1 : aq_Q) (a : Nat) : aq_Q := aq_goQ n T h (aq_up (aq_cpQ n Q0 Q1) 7 a 0)
def aq_forR (n : Nat) (Qt Q0 : aq_Q) (w : Nat) : Int32 := match w with | 0 => Qt 10 12 - Q0 10 12 | 1 => aq_over n 5 Qt - aq_over n 5 Q0 | 2 => Qt 10 7 | _ => aq_over n 8 Qt - aq_over n 8 Q0
def aq_thi (Qt Q0 : aq_Q) : Int32 := Qt 10 12 - Q0 10 12
def aq_advR (n : Nat) (T : aq_Q) (h : Nat) (Q0 : aq_Q) : Nat → Nat → Int32 → Int32 → aq_Q → Int32
  | 0, _, b, _, _ => b
  | k + 1, i, b, x, Q1 => if aq_hasOpen Q0 i = 0 then aq_advR n T h Q0 k (i + 1) b x Q1 else if x ≤ aq_thi (aq_tw n T h Q0 Q1 i) Q0 then aq_advR n T h Q0 k (i + 1) b x (aq_tw n T h Q0 Q1 i) else aq_advR n T h Q0 k (i + 1) (nI i) (aq_thi (aq_tw n T h Q0 Q1 i) Q0) (aq_tw n T h Q0 Q1 i)
def aq_advQ (n : Nat) (T : aq_Q) (h : Nat) (Q0 : aq_Q) : Nat → Nat → Int32 → Int32 → aq_Q → aq_Q
  | 0, _, _, _, Q1 => Q1
  | k + 1, i, b, x, Q1 => if aq_hasOpen Q0 i = 0 then aq_advQ n T h Q0 k (i + 1) b x Q1 else if x ≤ aq_thi (aq_tw n T h Q0 Q1 i) Q0 then aq_advQ n T h Q0 k (i + 1) b x (aq_tw n T h Q0 Q1 i) else aq_advQ n T h Q0 k (i + 1) (nI i) (aq_thi (aq_tw n T h Q0 Q1 i) Q0) (aq_tw n T h Q0 Q1 i)
def aq_adviseR (n : Nat) (T : aq_Q) (h : Nat) (Q0 Q1 : aq_Q) : Int32 := aq_advR n T h Q0 n 0 (-1) (aq_thi (aq_tw0 n T h Q0 Q1) Q0) (aq_tw0 n T h Q0 Q1)
def aq_adviseQ (n : Nat) (T : aq_Q) (h : Nat) (Q0 Q1 : aq_Q) : aq_Q := aq_advQ n T h Q0 n 0 (-1) (aq_thi (aq_tw0 n T h Q0 Q1) Q0) (aq_tw0 n T h Q0 Q1)
def aq_thsR (n : Nat) (T Q0 : aq_Q) : Nat → Nat → aq_Q → Int32 | 0, _, _ => (-1) | k + 1, i, Q => if aq_hourQ n T Q 10 12 ≤ Q0 10 12 then aq_thsR n T Q0 k (i + 1) (aq_hourQ n T Q) else nI i
def aq_thsQ (n : Nat) (T Q0 : aq_Q) : Nat → Nat → aq_Q → aq_Q | 0, _, Q => Q | k + 1, i, Q => if aq_hourQ n T Q 10 12 ≤ Q0 10 12 then aq_thsQ n T Q0 k (i + 1) (aq_hourQ n T Q) else aq_hourQ n T Q
def aq_worR (Q : aq_Q) : Nat → Nat → Int32 → Int32 → Int32 | 0, _, w, _ => w | k + 1, i, w, x => if Q 5 i ≤ x then aq_worR Q k (i + 1) w x else aq_worR Q k (i + 1) (nI i) (Q 5 i)
def aq_dx (d : Int64) (x : Int32) : Int64 := d * 31 + x.toInt64
def aq_dgF (f : Nat → Int32) : Nat → Nat → Int64 → Int64 | 0, _, d => d | k + 1, w, d => aq_dgF f k (w + 1) (aq_dx d (f w))
def aq_dgArch (n : Nat) (Q : aq_Q) (i : Nat) (d : Int64) : Int64 := aq_dgF (aq_millNo Q i) 4 0 (aq_dgF (aq_archNo n Q i) 9 0 d)
def aq_dgAll (n : Nat) (Q : aq_Q) : Nat → Nat → Int64 → Int64 | 0, _, d => d | k + 1, i, d => aq_dgAll n Q k (i + 1) (aq_dgArch n Q i d)
def aq_dgT (T : aq_Q) : Nat → Nat → Int64 → Int64 | 0, _, d => d | k + 1, h, d => aq_dgT T k (h + 1) (aq_dx (aq_dx d (T 0 h)) (T 1 h))
def aq_digest (n : Nat) (T Q : aq_Q) : Int64 := aq_dgAll n Q n 0 (aq_dgT T 24 0 (aq_dgF (aq_countNo n Q) 12 0 601))
end
section
set_option maxHeartbeats 4000000 in
set_option maxRecDepth 100000 in
/-- X2_requireIndex -/
theorem c_X2_requireIndex (l : Launch) (hlt : l.stackTraces = false) {D : va_G} {ad : Nat → Nat} {cI cQ : ClassId} {V : aq_V} (i e0 : Int32) : aq_MetX l yX2_requireIndex wsX2_requireIndex ({ frames := 6, cells := 1, slots := 6, locals := 90 }) D (aC_t cI cQ) 49 ad [.int i, .int e0] (aC_w ad cI cQ V) (aq_ixK i e0) (aq_QvX D (aC_t cI cQ) 49 ad (aq_ixK i e0) (aC_w ad cI cQ V)) 1 6 := by
  refine aq_enterX (cc := cX2_requireIndex) (maxL := 2) (ret := none) (by decide) rfl (Nat.le_of_ble_eq_true rfl) ?_
  intro p e s m below meth c ls S hr hlocks hout hT I hl
  have S : CallFix p m c cX2_requireIndex 2 s _ wsX2_requireIndex RX2 := S
  have hl : lv_has ls 2 [(0, .int i), (1, .int e0)] := hl
  refine lv_iload_n S.1 S.2.1 dX2_requireIndex_0 rfl (lv_at hl 0 rfl) ?_
  refine lv_if_lt (tgt := 9) S.1 S.2.1 dX2_requireIndex_1 (by decide) (fun c1 => ?_) (fun c1 => ?_)
  · obtain ⟨sa, hsa⟩ := hT.2.2.2.2.2.2.2.2.1
    have hκ9 : aq_ixK i e0 = 2 := (by simp [aq_ixK, aq_seq, c1])
    exact aq_throw (cls := "java/lang/IndexOutOfBoundsException") (text := "there is none of this number") (sa := sa) S hlt hT hlocks hout I hl.1 (by decide +kernel) (List.mem_of_getElem? (i := 1) rfl) (List.mem_of_getElem? (i := 2) rfl) hsa (fun _ h => List.mem_cons_of_mem _ (List.mem_append_right _ h)) aq_bad2 (aq_badB2 hT) aq_ot2 dX2_requireIndex_9 dX2_requireIndex_12 dX2_requireIndex_13 dX2_requireIndex_15 dX2_requireIndex_18 (by decide) (Nat.le_of_ble_eq_true rfl) (by decide) (by decide) (by decide) (by decide) ⟨by rw [hκ9]; decide, by rw [hκ9]; rfl⟩
  · refine lv_iload_n S.1 S.2.1 dX2_requireIndex_4 rfl (lv_at hl 0 rfl) ?_
    refine lv_iload_n S.1 S.2.1 dX2_requireIndex_5 rfl (lv_at hl 1 rfl) ?_
    refine lv_icmp_lt (tgt := 19) S.1 S.2.1 dX2_requireIndex_6 (by decide) (fun c2 => ?_) (fun c2 => ?_)
    · exact aq_xvret S.1 S.2.1 hr hlocks I dX2_requireIndex_19 (by decide) (by decide) (by simp [aq_ixK, aq_seq, c1, c2]) (by subst_vars; first | rfl | (simp only [if_neg c1, if_pos c2]; done) | (simp only [if_neg c1, if_pos c2]; rfl))
    · obtain ⟨sa, hsa⟩ := hT.2.2.2.2.2.2.2.2.1
      have hκ9 : aq_ixK i e0 = 2 := (by simp [aq_ixK, aq_seq, c1, c2])
      exact aq_throw (cls := "java/lang/IndexOutOfBoundsException") (text := "there is none of this number") (sa := sa) S hlt hT hlocks hout I hl.1 (by decide +kernel) (List.mem_of_getElem? (i := 1) rfl) (List.mem_of_getElem? (i := 2) rfl) hsa (fun _ h => List.mem_cons_of_mem _ (List.mem_append_right _ h)) aq_bad2 (aq_badB2 hT) aq_ot2 dX2_requireIndex_9 dX2_requireIndex_12 dX2_requireIndex_13 dX2_requireIndex_15 dX2_requireIndex_18 (by decide) (Nat.le_of_ble_eq_true rfl) (by decide) (by decide) (by decide) (by decide) ⟨by rw [hκ9]; decide, by rw [hκ9]; rfl⟩
set_option maxHeartbeats 4000000 in
set_option maxRecDepth 100000 in
/-- X2_requireRange -/
theorem c_X2_requireRange (l : Launch) (hlt : l.stackTraces = false) {D : va_G} {ad : Nat → Nat} {cI cQ : ClassId} {V : aq_V} (i a b : Int32) : aq_MetX l yX2_requireRange wsX2_requireRange ({ frames := 6, cells := 1, slots := 6, locals := 90 }) D (aC_t cI cQ) 49 ad [.int i, .int a, .int b] (aC_w ad cI cQ V) (aq_rgK i a b) (aq_QvX D (aC_t cI cQ) 49 ad (aq_rgK i a b) (aC_w ad cI cQ V)) 1 6 := by
  refine aq_enterX (cc := cX2_requireRange) (maxL := 3) (ret := none) (by decide) rfl (Nat.le_of_ble_eq_true rfl) ?_
  intro p e s m below meth c ls S hr hlocks hout hT I hl
  have S : CallFix p m c cX2_requireRange 3 s _ wsX2_requireRange RX2 := S
  have hl : lv_has ls 3 [(0, .int i), (1, .int a), (2, .int b)] := hl
  refine lv_iload_n S.1 S.2.1 dX2_requireRange_0 rfl (lv_at hl 0 rfl) ?_
  refine lv_iload_n S.1 S.2.1 dX2_requireRange_1 rfl (lv_at hl 1 rfl) ?_
  refine lv_icmp_lt (tgt := 10) S.1 S.2.1 dX2_requireRange_2 (by decide) (fun c1 => ?_) (fun c1 => ?_)
  · obtain ⟨sa, hsa⟩ := hT.2.2.2.2.2.2.2.2.2
    have hκ9 : aq_rgK i a b = 1 := (by simp [aq_rgK, aq_seq, c1])
    exact aq_throw (cls := "java/lang/IllegalArgumentException") (text := "the number is too small or too great") (sa := sa) S hlt hT hlocks hout I hl.1 (by decide +kernel) (List.mem_of_getElem? (i := 1) rfl) (List.mem_of_getElem? (i := 2) rfl) hsa (fun _ h => List.mem_cons_of_mem _ (List.mem_append_right _ h)) aq_bad1 (aq_badB1 hT) aq_ot1 dX2_requireRange_10 dX2_requireRange_13 dX2_requireRange_14 dX2_requireRange_16 dX2_requireRange_19 (by decide) (Nat.le_of_ble_eq_true rfl) (by decide) (by decide) (by decide) (by decide) ⟨by rw [hκ9]; decide, by rw [hκ9]; rfl⟩
  · refine lv_iload_n S.1 S.2.1 dX2_requireRange_5 rfl (lv_at hl 0 rfl) ?_
    refine lv_iload_n S.1 S.2.1 dX2_requireRange_6 rfl (lv_at hl 2 rfl) ?_
    refine lv_icmp_le (tgt := 20) S.1 S.2.1 dX2_requireRange_7 (by decide) (fun c2 => ?_) (fun c2 => ?_)
    · exact aq_xvret S.1 S.2.1 hr hlocks I dX2_requireRange_20 (by decide) (by decide) (by simp [aq_rgK, aq_seq, c1, c2]) (by subst_vars; first | rfl | (simp only [if_neg c1, if_pos c2]; done) | (simp only [if_neg c1, if_pos c2]; rfl))
    · obtain ⟨sa, hsa⟩ := hT.2.2.2.2.2.2.2.2.2
      have hκ9 : aq_rgK i a b = 1 := (by simp [aq_rgK, aq_seq, c1, c2])
      exact aq_throw (cls := "java/lang/IllegalArgumentException") (text := "the number is too small or too great") (sa := sa) S hlt hT hlocks hout I hl.1 (by decide +kernel) (List.mem_of_getElem? (i := 1) rfl) (List.mem_of_getElem? (i := 2) rfl) hsa (fun _ h => List.mem_cons_of_mem _ (List.mem_append_right _ h)) aq_bad1 (aq_badB1 hT) aq_ot1 dX2_requireRange_10 dX2_requireRange_13 dX2_requireRange_14 dX2_requireRange_16 dX2_requireRange_19 (by decide) (Nat.le_of_ble_eq_true rfl) (by decide) (by decide) (by decide) (by decide) ⟨by rw [hκ9]; decide, by rw [hκ9]; rfl⟩
theorem in_X2_requireArch_X0 : ∀ w ∈ wsX00, w ∈ wsX2_requireArch := fun _ h => List.mem_cons_of_mem _ (List.mem_append_left _ (List.mem_append_right _ h))
theorem in_X2_requireArch_X2 : ∀ w ∈ wsX20, w ∈ wsX2_requireArch := fun _ h => List.mem_cons_of_mem _ (List.mem_append_left _ (List.mem_append_left _ (List.mem_append_right _ h)))
set_option maxHeartbeats 4000000 in
set_option maxRecDepth 100000 in
/-- X2_requireArch -/
theorem c_X2_requireArch (l : Launch) (hlt : l.stackTraces = false) {D : va_G} {ad : Nat → Nat} {cI cQ : ClassId} (hJ : aq_J 49 ad) {V : aq_V} {Q : aq_Q} {n : Nat} (hn : Q 10 3 = nI n) (hn20 : n ≤ 20) (i : Int32) : aq_MetX l yX2_requireArch wsX2_requireArch ({ frames := 7, cells := 1, slots := 6, locals := 111 }) D (aC_t cI cQ) 49 ad [.ref (ad 0), .int i] (aC_w ad cI cQ (aq_ug V 0 Q)) (aq_ixK i (nI n)) (aq_QvX D (aC_t cI cQ) 49 ad (aq_ixK i (nI n)) (aC_w ad cI cQ (aq_ug V 0 Q))) 1 6 := by
  refine aq_enterX (cc := cX2_requireArch) (maxL := 2) (ret := none) (by decide) rfl (Nat.le_of_ble_eq_true rfl) ?_
  intro p e s m below meth c ls S hr hlocks hout hT I hl
  have S : CallFix p m c cX2_requireArch 2 s _ wsX2_requireArch RX2 := S
  have hl : lv_has ls 2 [(0, .ref (ad 0)), (1, .int i)] := hl
  refine lv_iload_n S.1 S.2.1 dX2_requireArch_0 rfl (lv_at hl 1 rfl) ?_
  refine lv_aload_n S.1 S.2.1 dX2_requireArch_1 rfl (lv_at hl 0 rfl) ?_
  refine aC_getX S I 0 (by decide) in_X2_requireArch_X2 (List.mem_of_getElem? (i := 1) rfl) dX2_requireArch_2 ?_
  refine aC_getS (j := 0) (x := nI n) S I (by decide) 3 (by decide) (by decide) in_X2_requireArch_X0 (List.mem_of_getElem? (i := 2) rfl) (by rw [aq_ug_s]; exact hn) dX2_requireArch_5 ?_
  refine aq_xcallSv (κ1 := aq_ixK i (nI n)) (As := [.int i, .int (nI n)]) (rest := []) S hT hlocks hout (c_X2_requireIndex l hlt (V := (aq_ug V 0 Q)) i (nI n)) (va_cwS 2 S.2.2.2.2 gX2_requireArch_X2_requireIndex rfl rfl rfl (by decide +kernel) ⟨Nat.le_of_ble_eq_true rfl, Nat.le_of_ble_eq_true rfl⟩)  I hl.1 dX2_requireArch_8 rfl rfl (Nat.le_of_ble_eq_true rfl) ⟨by decide, by decide⟩ ⟨by decide, by decide⟩ (fun hz => by simp [aq_seq, hz]) (fun hκ1 H locs I => ?_)
  exact aq_xvret S.1 S.2.1 hr hlocks I dX2_requireArch_11 (by decide) (by decide) (by simp [aq_seq, hκ1]) (by subst_vars; rfl)
set_option maxHeartbeats 4000000 in
set_option maxRecDepth 100000 in
/-- X2_setHour -/
theorem c_X2_setHour (l : Launch) (hlt : l.stackTraces = false) {D : va_G} {ad : Nat → Nat} {cI cQ : ClassId} (hJ : aq_J 49 ad) {V : aq_V} {T : aq_Q} {t : Nat} (ht : t < 2) (h w : Int32) : aq_MetX l yX2_setHour wsX2_setHour ({ frames := 7, cells := 2, slots := 12, locals := 112 }) D (aC_t cI cQ) 49 ad [.ref (ad (1 + t)), .int h, .int w] (aC_w ad cI cQ (aq_ug V 2 T)) (aq_setK h w) (aq_QiX D (aC_t cI cQ) 49 ad (aq_setK h w) (T t h.toNatClampNeg) (aC_w ad cI cQ (aq_ug V 2 (aq_setT T t h w)))) 2 12 := by
  refine aq_enterX (cc := cX2_setHour) (maxL := 4) (ret := some .int) (by decide) rfl (Nat.le_of_ble_eq_true rfl) ?_
  intro p e s m below meth c ls S hr hlocks hout hT I hl
  have S : CallFix p m c cX2_setHour 4 s _ wsX2_setHour RX2 := S
  have hl : lv_has ls 4 [(0, .ref (ad (1 + t))), (1, .int h), (2, .int w)] := hl
  refine lv_iload_n S.1 S.2.1 dX2_setHour_0 rfl (lv_at hl 1 rfl) ?_
  refine lv_bipush (v := 24) S.1 S.2.1 dX2_setHour_1 (by decide) ?_
  refine aq_xcallSv (κ1 := aq_ixK h 24) (As := [.int h, .int 24]) (rest := []) S hT hlocks hout (c_X2_requireIndex l hlt (V := (aq_ug V 2 T)) h 24) (va_cwS 2 S.2.2.2.2 gX2_setHour_X2_requireIndex rfl rfl rfl (by decide +kernel) ⟨Nat.le_of_ble_eq_true rfl, Nat.le_of_ble_eq_true rfl⟩)  I hl.1 dX2_setHour_3 rfl rfl (Nat.le_of_ble_eq_true rfl) ⟨by decide, by decide⟩ ⟨by decide, by decide⟩ (fun hz => by simp [aq_setK, aq_seq, hz]) (fun hκ1 H locs I => ?_)
  obtain ⟨k1, hk1, ek1⟩ := aq_ixK_ok (e := 24) (by omega) (show aq_ixK h (nI 24) = 0 from hκ1)
  subst ek1
  have nk1 : (nI k1).toNatClampNeg = k1 := nI_clamp (by omega)
  refine lv_iload_n S.1 S.2.1 dX2_setHour_6 rfl (lv_at hl 2 rfl) ?_
  refine lv_iconst (v := 0) S.1 S.2.1 dX2_setHour_7 (by decide) ?_
  refine lv_bipush (v := 40) S.1 S.2.1 dX2_setHour_8 (by decide) ?_
  refine aq_xcallSv (κ1 := aq_rgK w 0 40) (As := [.int w, .int 0, .int 40]) (rest := []) S hT hlocks hout (c_X2_requireRange l hlt (V := (aq_ug V 2 T)) w 0 40) (va_cwS 3 S.2.2.2.2 gX2_setHour_X2_requireRange rfl rfl rfl (by decide +kernel) ⟨Nat.le_of_ble_eq_true rfl, Nat.le_of_ble_eq_true rfl⟩)  I hl.1 dX2_setHour_10 rfl rfl (Nat.le_of_ble_eq_true rfl) ⟨by decide, by decide⟩ ⟨by decide, by decide⟩ (fun hz => by simp [aq_setK, aq_seq, hκ1, nk1, hz]) (fun hκ2 H locs I => ?_)
  refine lv_aload_n S.1 S.2.1 dX2_setHour_13 rfl (lv_at hl 0 rfl) ?_
  refine lv_iload_n S.1 S.2.1 dX2_setHour_14 rfl (lv_at hl 1 rfl) ?_
  refine aC_tl0 (t := t) (k := k1) (x := T t k1) S I ht rfl (by omega) (by rw [aq_ug_s]) dX2_setHour_15 ?_
  refine lv_istore_n (lv' := [(3, .int (T t k1)), (0, .ref (ad (1 + t))), (1, .int (nI k1)), (2, .int w)]) S.1 S.2.1 dX2_setHour_16 rfl hl (by decide) rfl (fun ls hl => ?_)
  refine lv_aload_n S.1 S.2.1 dX2_setHour_17 rfl (lv_at hl 1 rfl) ?_
  refine lv_iload_n S.1 S.2.1 dX2_setHour_18 rfl (lv_at hl 2 rfl) ?_
  refine lv_iload_n S.1 S.2.1 dX2_setHour_19 rfl (lv_at hl 3 rfl) ?_
  refine aC_tst (V := V) (T := T) (t := t) (k := k1) (x := w) hJ S I ht rfl (by omega) dX2_setHour_20 (fun H locs M2 hM2 I => ?_)
  refine lv_iload_n S.1 S.2.1 dX2_setHour_21 rfl (lv_at hl 0 rfl) ?_
  exact aq_xiret S.1 S.2.1 hr hlocks I dX2_setHour_22 (by decide) (by decide) (by simp [aq_setK, aq_seq, hκ1, hκ2, nk1]) (by subst_vars; first | rfl | (simp only [aq_setT, nk1]; done) | (simp only [aq_setT, nk1]; rfl)) (by subst_vars; first | rfl | (simp only [aq_setT, nk1]; done) | (simp only [aq_setT, nk1]; rfl))
theorem in_X2_setSpring_X0 : ∀ w ∈ wsX00, w ∈ wsX2_setSpring := fun _ h => List.mem_cons_of_mem _ (List.mem_append_left _ (List.mem_append_left _ (List.mem_append_right _ h)))
theorem in_X2_setSpring_X2 : ∀ w ∈ wsX20, w ∈ wsX2_setSpring := fun _ h => List.mem_cons_of_mem _ (List.mem_append_left _ (List.mem_append_left _ (List.mem_append_left _ (List.mem_append_right _ h))))
set_option maxHeartbeats 4000000 in
set_option maxRecDepth 100000 in
/-- X2_setSpring -/
theorem c_X2_setSpring (l : Launch) (hlt : l.stackTraces = false) {D : va_G} {ad : Nat → Nat} {cI cQ : ClassId} (hJ : aq_J 49 ad) {V : aq_V} {T : aq_Q} (h w : Int32) : aq_MetX l yX2_setSpring wsX2_setSpring ({ frames := 8, cells := 2, slots := 12, locals := 135 }) D (aC_t cI cQ) 49 ad [.ref (ad 0), .int h, .int w] (aC_w ad cI cQ (aq_ug V 2 T)) (aq_setK h w) (aq_QiX D (aC_t cI cQ) 49 ad (aq_setK h w) (T 0 h.toNatClampNeg) (aC_w ad cI cQ (aq_ug V 2 (aq_setT T 0 h w)))) 2 12 := by
  refine aq_enterX (cc := cX2_setSpring) (maxL := 3) (ret := some .int) (by decide) rfl (Nat.le_of_ble_eq_true rfl) ?_
  intro p e s m below meth c ls S hr hlocks hout hT I hl
  have S : CallFix p m c cX2_setSpring 3 s _ wsX2_setSpring RX2 := S
  have hl : lv_has ls 3 [(0, .ref (ad 0)), (1, .int h), (2, .int w)] := hl
  refine lv_aload_n S.1 S.2.1 dX2_setSpring_0 rfl (lv_at hl 0 rfl) ?_
  refine aC_getX S I 0 (by decide) in_X2_setSpring_X2 (List.mem_of_getElem? (i := 1) rfl) dX2_setSpring_1 ?_
  refine aC_getT (j := 0) S I (by decide) 0 (by decide) in_X2_setSpring_X0 (List.mem_of_getElem? (i := 2) rfl) dX2_setSpring_4 ?_
  refine lv_iload_n S.1 S.2.1 dX2_setSpring_7 rfl (lv_at hl 1 rfl) ?_
  refine lv_iload_n S.1 S.2.1 dX2_setSpring_8 rfl (lv_at hl 2 rfl) ?_
  refine aq_xcallSi (κ1 := aq_setK h w) (As := [.ref (ad (1 + 0 + 46 * 0)), .int h, .int w]) (rest := []) S hT hlocks hout (c_X2_setHour l hlt hJ (V := V) (T := T) (t := 0) (by decide) h w) (va_cwS 3 S.2.2.2.2 gX2_setSpring_X2_setHour rfl rfl rfl (by decide +kernel) ⟨Nat.le_of_ble_eq_true rfl, Nat.le_of_ble_eq_true rfl⟩)  I hl.1 dX2_setSpring_9 rfl rfl (Nat.le_of_ble_eq_true rfl) ⟨by decide, by decide⟩ ⟨by decide, by decide⟩ (fun hz => by simp [aq_seq, hz]) (fun hκ1 H locs I => ?_)
  obtain ⟨M1, hM1⟩ : ∃ z9 : aq_Q, z9 = aq_setT T 0 h w := ⟨_, rfl⟩
  rw [← hM1] at I
  exact aq_xiret S.1 S.2.1 hr hlocks I dX2_setSpring_12 (by decide) (by decide) (by simp [aq_seq, hκ1]) (by subst_vars; rfl) (by subst_vars; rfl)
theorem in_X2_setCity_X0 : ∀ w ∈ wsX00, w ∈ wsX2_setCity := fun _ h => List.mem_cons_of_mem _ (List.mem_append_left _ (List.mem_append_left _ (List.mem_append_right _ h)))
theorem in_X2_setCity_X2 : ∀ w ∈ wsX20, w ∈ wsX2_setCity := fun _ h => List.mem_cons_of_mem _ (List.mem_append_left _ (List.mem_append_left _ (List.mem_append_left _ (List.mem_append_right _ h))))
set_option maxHeartbeats 4000000 in
set_option maxRecDepth 100000 in
/-- X2_setCity -/
theorem c_X2_setCity (l : Launch) (hlt : l.stackTraces = false) {D : va_G} {ad : Nat → Nat} {cI cQ : ClassId} (hJ : aq_J 49 ad) {V : aq_V} {T : aq_Q} (h w : Int32) : aq_MetX l yX2_setCity wsX2_setCity ({ frames := 8, cells := 2, slots := 12, locals := 135 }) D (aC_t cI cQ) 49 ad [.ref (ad 0), .int h, .int w] (aC_w ad cI cQ (aq_ug V 2 T)) (aq_setK h w) (aq_QiX D (aC_t cI cQ) 49 ad (aq_setK h w) (T 1 h.toNatClampNeg) (aC_w ad cI cQ (aq_ug V 2 (aq_setT T 1 h w)))) 2 12 := by
  refine aq_enterX (cc := cX2_setCity) (maxL := 3) (ret := some .int) (by decide) rfl (Nat.le_of_ble_eq_true rfl) ?_
  intro p e s m below meth c ls S hr hlocks hout hT I hl
  have S : CallFix p m c cX2_setCity 3 s _ wsX2_setCity RX2 := S
  have hl : lv_has ls 3 [(0, .ref (ad 0)), (1, .int h), (2, .int w)] := hl
  refine lv_aload_n S.1 S.2.1 dX2_setCity_0 rfl (lv_at hl 0 rfl) ?_
  refine aC_getX S I 0 (by decide) in_X2_setCity_X2 (List.mem_of_getElem? (i := 1) rfl) dX2_setCity_1 ?_
  refine aC_getT (j := 0) S I (by decide) 1 (by decide) in_X2_setCity_X0 (List.mem_of_getElem? (i := 2) rfl) dX2_setCity_4 ?_
  refine lv_iload_n S.1 S.2.1 dX2_setCity_7 rfl (lv_at hl 1 rfl) ?_
  refine lv_iload_n S.1 S.2.1 dX2_setCity_8 rfl (lv_at hl 2 rfl) ?_
  refine aq_xcallSi (κ1 := aq_setK h w) (As := [.ref (ad (1 + 1 + 46 * 0)), .int h, .int w]) (rest := []) S hT hlocks hout (c_X2_setHour l hlt hJ (V := V) (T := T) (t := 1) (by decide) h w) (va_cwS 3 S.2.2.2.2 gX2_setCity_X2_setHour rfl rfl rfl (by decide +kernel) ⟨Nat.le_of_ble_eq_true rfl, Nat.le_of_ble_eq_true rfl⟩)  I hl.1 dX2_setCity_9 rfl rfl (Nat.le_of_ble_eq_true rfl) ⟨by decide, by decide⟩ ⟨by decide, by decide⟩ (fun hz => by simp [aq_seq, hz]) (fun hκ1 H locs I => ?_)
  obtain ⟨M1, hM1⟩ : ∃ z9 : aq_Q, z9 = aq_setT T 1 h w := ⟨_, rfl⟩
  rw [← hM1] at I
  exact aq_xiret S.1 S.2.1 hr hlocks I dX2_setCity_12 (by decide) (by decide) (by simp [aq_seq, hκ1]) (by subst_vars; rfl) (by subst_vars; rfl)
theorem in_X2_build_X0 : ∀ w ∈ wsX00, w ∈ wsX2_build := fun _ h => List.mem_cons_of_mem _ (List.mem_append_left _ (List.mem_append_left _ (List.mem_append_left _ (List.mem_append_right _ h))))
theorem in_X2_build_X2 : ∀ w ∈ wsX20, w ∈ wsX2_build := fun _ h => List.mem_cons_of_mem _ (List.mem_append_left _ (List.mem_append_left _ (List.mem_append_left _ (List.mem_append_left _ (List.mem_append_right _ h)))))
set_option maxHeartbeats 4000000 in
set_option maxRecDepth 100000 in
/-- X2_build -/
theorem c_X2_build (l : Launch) (hlt : l.stackTraces = false) {D : va_G} {ad : Nat → Nat} {cI cQ : ClassId} (hJ : aq_J 49 ad) {V : aq_V} {Q : aq_Q} {n : Nat} (hn : Q 10 3 = nI n) (hn20 : n ≤ 20) (h z : Int32) : aq_MetX l yX2_build wsX2_build ({ frames := 7, cells := 3, slots := 18, locals := 112 }) D (aC_t cI cQ) 49 ad [.ref (ad 0), .int h, .int z] (aC_w ad cI cQ (aq_ug V 0 Q)) (aq_buildK n Q h z) (aq_QiX D (aC_t cI cQ) 49 ad (aq_buildK n Q h z) (nI n) (aC_w ad cI cQ (aq_ug V 0 (aq_addQ n Q h z)))) 3 18 := by
  refine aq_enterX (cc := cX2_build) (maxL := 3) (ret := some .int) (by decide) rfl (Nat.le_of_ble_eq_true rfl) ?_
  intro p e s m below meth c ls S hr hlocks hout hT I hl
  have S : CallFix p m c cX2_build 3 s _ wsX2_build RX2 := S
  have hl : lv_has ls 3 [(0, .ref (ad 0)), (1, .int h), (2, .int z)] := hl
  refine lv_iload_n S.1 S.2.1 dX2_build_0 rfl (lv_at hl 1 rfl) ?_
  refine lv_iconst (v := 0) S.1 S.2.1 dX2_build_1 (by decide) ?_
  refine lv_aload_n S.1 S.2.1 dX2_build_2 rfl (lv_at hl 0 rfl) ?_
  refine aC_getX S I 0 (by decide) in_X2_build_X2 (List.mem_of_getElem? (i := 3) rfl) dX2_build_3 ?_
  refine aq_callVi (As := []) (rest := [.int 0, .int h]) S (c_X0_mostHeightOfNext l hJ (V := V) (Q := Q) (j := 0) (by decide) hn hn20  ) (cwV 0 S.2.2.2.2 gX2_build_X0_mostHeightOfNext rfl rfl rfl (by decide +kernel) ⟨Nat.le_of_ble_eq_true rfl, Nat.le_of_ble_eq_true rfl⟩) (aC_recvS (j := 0) I (by decide)) I hl.1 dX2_build_6 rfl rfl (Nat.le_of_ble_eq_true rfl) ⟨by first | decide | (dsimp only; omega), by first | decide | (dsimp only; omega)⟩ (fun H locs I => ?_)
  refine aq_xcallSv (κ1 := aq_rgK h 0 (aq_top n Q)) (As := [.int h, .int 0, .int (aq_top n Q)]) (rest := []) S hT hlocks hout (c_X2_requireRange l hlt (V := (aq_ug V 0 Q)) h 0 (aq_top n Q)) (va_cwS 3 S.2.2.2.2 gX2_build_X2_requireRange rfl rfl rfl (by decide +kernel) ⟨Nat.le_of_ble_eq_true rfl, Nat.le_of_ble_eq_true rfl⟩)  I hl.1 dX2_build_9 rfl rfl (Nat.le_of_ble_eq_true rfl) ⟨by decide, by decide⟩ ⟨by decide, by decide⟩ (fun hz => by simp [aq_buildK, aq_seq, hz]) (fun hκ1 H locs I => ?_)
  refine lv_iload_n S.1 S.2.1 dX2_build_12 rfl (lv_at hl 2 rfl) ?_
  refine lv_iconst (v := 1) S.1 S.2.1 dX2_build_13 (by decide) ?_
  refine lv_bipush (v := 40) S.1 S.2.1 dX2_build_14 (by decide) ?_
  refine aq_xcallSv (κ1 := aq_rgK z 1 40) (As := [.int z, .int 1, .int 40]) (rest := []) S hT hlocks hout (c_X2_requireRange l hlt (V := (aq_ug V 0 Q)) z 1 40) (va_cwS 3 S.2.2.2.2 gX2_build_X2_requireRange rfl rfl rfl (by decide +kernel) ⟨Nat.le_of_ble_eq_true rfl, Nat.le_of_ble_eq_true rfl⟩)  I hl.1 dX2_build_16 rfl rfl (Nat.le_of_ble_eq_true rfl) ⟨by decide, by decide⟩ ⟨by decide, by decide⟩ (fun hz => by simp [aq_buildK, aq_seq, hκ1, hz]) (fun hκ2 H locs I => ?_)
  refine lv_aload_n S.1 S.2.1 dX2_build_19 rfl (lv_at hl 0 rfl) ?_
  refine aC_getX S I 0 (by decide) in_X2_build_X2 (List.mem_of_getElem? (i := 3) rfl) dX2_build_20 ?_
  refine aC_getS (j := 0) (x := nI n) S I (by decide) 3 (by decide) (by decide) in_X2_build_X0 (List.mem_of_getElem? (i := 4) rfl) (by rw [aq_ug_s]; exact hn) dX2_build_23 ?_
  refine lv_bipush (v := 20) S.1 S.2.1 dX2_build_26 (by decide) ?_
  refine lv_icmp_lt (tgt := 41) S.1 S.2.1 dX2_build_28 (by decide) (fun c1 => ?_) (fun c1 => ?_)
  · have c1 : n < 20 := (nI_ltI (a := n) (b := 20) (by omega) (by omega)).mp c1
    refine lv_aload_n S.1 S.2.1 dX2_build_41 rfl (lv_at hl 0 rfl) ?_
    refine aC_getX S I 0 (by decide) in_X2_build_X2 (List.mem_of_getElem? (i := 3) rfl) dX2_build_42 ?_
    refine lv_iload_n S.1 S.2.1 dX2_build_45 rfl (lv_at hl 1 rfl) ?_
    refine lv_iload_n S.1 S.2.1 dX2_build_46 rfl (lv_at hl 2 rfl) ?_
    refine aq_callVi (As := [.int h, .int z]) (rest := []) S (c_X0_addArch l hJ (V := V) (Q := Q) (j := 0) (by decide) hn (by omega) h z ) (cwV 2 S.2.2.2.2 gX2_build_X0_addArch rfl rfl rfl (by decide +kernel) ⟨Nat.le_of_ble_eq_true rfl, Nat.le_of_ble_eq_true rfl⟩) (aC_recvS (j := 0) I (by decide)) I hl.1 dX2_build_47 rfl rfl (Nat.le_of_ble_eq_true rfl) ⟨by first | decide | (dsimp only; omega), by first | decide | (dsimp only; omega)⟩ (fun H locs I => ?_)
    obtain ⟨M2, hM2⟩ : ∃ z9 : aq_Q, z9 = aq_addQ n Q h z := ⟨_, rfl⟩
    rw [← hM2] at I
    exact aq_xiret S.1 S.2.1 hr hlocks I dX2_build_50 (by decide) (by decide) (by simp [aq_buildK, aq_seq, hκ1, hκ2, c1]) (by subst_vars; first | rfl | (simp only [if_pos c1]; done) | (simp only [if_pos c1]; rfl)) (by subst_vars; first | rfl | (simp only [if_pos c1]; done) | (simp only [if_pos c1]; rfl))
  · have c1 : 20 ≤ n := Nat.le_of_not_lt (fun z9 => c1 ((nI_ltI (a := n) (b := 20) (by omega) (by omega)).mpr z9))
    obtain ⟨sa, hsa⟩ := hT.2.2.2.1
    have hκ9 : aq_buildK n Q h z = 3 := (by simp [aq_buildK, aq_seq, hκ1, hκ2, c1])
    exact aq_throw (cls := "java/lang/IllegalStateException") (text := "there are as many arches as there can be") (sa := sa) S hlt hT hlocks hout I hl.1 (by decide +kernel) (List.mem_of_getElem? (i := 1) rfl) (List.mem_of_getElem? (i := 2) rfl) hsa (fun _ h => List.mem_cons_of_mem _ (List.mem_append_left _ (List.mem_append_right _ h))) aq_bad3 (aq_badB3 hT) aq_ot3 dX2_build_31 dX2_build_34 dX2_build_35 dX2_build_37 dX2_build_40 (by decide) (Nat.le_of_ble_eq_true rfl) (by decide) (by decide) (by decide) (by decide) ⟨by rw [hκ9]; decide, by rw [hκ9]; rfl⟩
theorem in_X2_setCistern_X2 : ∀ w ∈ wsX20, w ∈ wsX2_setCistern := fun _ h => List.mem_cons_of_mem _ (List.mem_append_left _ (List.mem_append_left _ (List.mem_append_right _ h)))
set_option maxHeartbeats 4000000 in
set_option maxRecDepth 100000 in
/-- X2_setCistern -/
theorem c_X2_setCistern (l : Launch) (hlt : l.stackTraces = false) {D : va_G} {ad : Nat → Nat} {cI cQ : ClassId} (hJ : aq_J 49 ad) {V : aq_V} {Q : aq_Q} (o : Int32) : aq_MetX l yX2_setCistern wsX2_setCistern ({ frames := 7, cells := 1, slots := 6, locals := 112 }) D (aC_t cI cQ) 49 ad [.ref (ad 0), .int o] (aC_w ad cI cQ (aq_ug V 0 Q)) (aq_rgK o 0 500) (aq_QiX D (aC_t cI cQ) 49 ad (aq_rgK o 0 500) (aq_sizeR Q o) (aC_w ad cI cQ (aq_ug V 0 (aq_sizeQ Q o)))) 1 6 := by
  refine aq_enterX (cc := cX2_setCistern) (maxL := 2) (ret := some .int) (by decide) rfl (Nat.le_of_ble_eq_true rfl) ?_
  intro p e s m below meth c ls S hr hlocks hout hT I hl
  have S : CallFix p m c cX2_setCistern 2 s _ wsX2_setCistern RX2 := S
  have hl : lv_has ls 2 [(0, .ref (ad 0)), (1, .int o)] := hl
  refine lv_iload_n S.1 S.2.1 dX2_setCistern_0 rfl (lv_at hl 1 rfl) ?_
  refine lv_iconst (v := 0) S.1 S.2.1 dX2_setCistern_1 (by decide) ?_
  refine lv_sipush (v := 500) S.1 S.2.1 dX2_setCistern_2 (by decide) ?_
  refine aq_xcallSv (κ1 := aq_rgK o 0 500) (As := [.int o, .int 0, .int 500]) (rest := []) S hT hlocks hout (c_X2_requireRange l hlt (V := (aq_ug V 0 Q)) o 0 500) (va_cwS 3 S.2.2.2.2 gX2_setCistern_X2_requireRange rfl rfl rfl (by decide +kernel) ⟨Nat.le_of_ble_eq_true rfl, Nat.le_of_ble_eq_true rfl⟩)  I hl.1 dX2_setCistern_5 rfl rfl (Nat.le_of_ble_eq_true rfl) ⟨by decide, by decide⟩ ⟨by decide, by decide⟩ (fun hz => by simp [aq_seq, hz]) (fun hκ1 H locs I => ?_)
  refine lv_aload_n S.1 S.2.1 dX2_setCistern_8 rfl (lv_at hl 0 rfl) ?_
  refine aC_getX S I 0 (by decide) in_X2_setCistern_X2 (List.mem_of_getElem? (i := 1) rfl) dX2_setCistern_9 ?_
  refine lv_iload_n S.1 S.2.1 dX2_setCistern_12 rfl (lv_at hl 1 rfl) ?_
  refine aq_callVi (As := [.int o]) (rest := []) S (c_X0_resizeCistern l hJ (V := V) (Q := Q) (j := 0) (by decide)  o ) (cwV 1 S.2.2.2.2 gX2_setCistern_X0_resizeCistern rfl rfl rfl (by decide +kernel) ⟨Nat.le_of_ble_eq_true rfl, Nat.le_of_ble_eq_true rfl⟩) (aC_recvS (j := 0) I (by decide)) I hl.1 dX2_setCistern_13 rfl rfl (Nat.le_of_ble_eq_true rfl) ⟨by first | decide | (dsimp only; omega), by first | decide | (dsimp only; omega)⟩ (fun H locs I => ?_)
  obtain ⟨M1, hM1⟩ : ∃ z9 : aq_Q, z9 = aq_sizeQ Q o := ⟨_, rfl⟩
  rw [← hM1] at I
  exact aq_xiret S.1 S.2.1 hr hlocks I dX2_setCistern_16 (by decide) (by decide) (by simp [aq_seq, hκ1]) (by subst_vars; rfl) (by subst_vars; rfl)
theorem in_X2_arch_X2 : ∀ w ∈ wsX20, w ∈ wsX2_arch := fun _ h => List.mem_cons_of_mem _ (List.mem_append_left _ (List.mem_append_left _ (List.mem_append_left _ (List.mem_append_right _ h))))
set_option maxHeartbeats 4000000 in
set_option maxRecDepth 100000 in
/-- X2_arch -/
theorem c_X2_arch (l : Launch) (hlt : l.stackTraces = false) {D : va_G} {ad : Nat → Nat} {cI cQ : ClassId} (hJ : aq_J 49 ad) {V : aq_V} {Q : aq_Q} {n : Nat} (hn : Q 10 3 = nI n) (hn20 : n ≤ 20) (a w : Int32) : aq_MetX l yX2_arch wsX2_arch ({ frames := 8, cells := 2, slots := 12, locals := 132 }) D (aC_t cI cQ) 49 ad [.ref (ad 0), .int a, .int w] (aC_w ad cI cQ (aq_ug V 0 Q)) (aq_archK n a w) (aq_QiX D (aC_t cI cQ) 49 ad (aq_archK n a w) (aq_archNo n Q a.toNatClampNeg w.toNatClampNeg) (aC_w ad cI cQ (aq_ug V 0 Q))) 2 12 := by
  refine aq_enterX (cc := cX2_arch) (maxL := 3) (ret := some .int) (by decide) rfl (Nat.le_of_ble_eq_true rfl) ?_
  intro p e s m below meth c ls S hr hlocks hout hT I hl
  have S : CallFix p m c cX2_arch 3 s _ wsX2_arch RX2 := S
  have hl : lv_has ls 3 [(0, .ref (ad 0)), (1, .int a), (2, .int w)] := hl
  refine lv_aload_n S.1 S.2.1 dX2_arch_0 rfl (lv_at hl 0 rfl) ?_
  refine lv_iload_n S.1 S.2.1 dX2_arch_1 rfl (lv_at hl 1 rfl) ?_
  refine aq_xcallVv (κ1 := aq_ixK a (nI n)) (As := [.int a]) (rest := []) S hT hlocks hout (c_X2_requireArch l hlt hJ (V := V) (Q := Q) (n := n) hn hn20 a) (cwV 1 S.2.2.2.2 gX2_arch_X2_requireArch rfl rfl rfl (by decide +kernel) ⟨Nat.le_of_ble_eq_true rfl, Nat.le_of_ble_eq_true rfl⟩) (aC_recvX I) I hl.1 dX2_arch_2 rfl rfl (Nat.le_of_ble_eq_true rfl) ⟨by decide, by decide⟩ ⟨by decide, by decide⟩ (fun hz => by simp [aq_archK, aq_seq, hz]) (fun hκ1 H locs I => ?_)
  obtain ⟨k1, hk1, ek1⟩ := aq_ixK_ok (e := n) (by omega) (show aq_ixK a (nI n) = 0 from hκ1)
  subst ek1
  have nk1 : (nI k1).toNatClampNeg = k1 := nI_clamp (by omega)
  refine lv_iload_n S.1 S.2.1 dX2_arch_5 rfl (lv_at hl 2 rfl) ?_
  refine lv_bipush (v := 9) S.1 S.2.1 dX2_arch_6 (by decide) ?_
  refine aq_xcallSv (κ1 := aq_ixK w 9) (As := [.int w, .int 9]) (rest := []) S hT hlocks hout (c_X2_requireIndex l hlt (V := (aq_ug V 0 Q)) w 9) (va_cwS 2 S.2.2.2.2 gX2_arch_X2_requireIndex rfl rfl rfl (by decide +kernel) ⟨Nat.le_of_ble_eq_true rfl, Nat.le_of_ble_eq_true rfl⟩)  I hl.1 dX2_arch_8 rfl rfl (Nat.le_of_ble_eq_true rfl) ⟨by decide, by decide⟩ ⟨by decide, by decide⟩ (fun hz => by simp [aq_archK, aq_seq, hκ1, nk1, hz]) (fun hκ2 H locs I => ?_)
  obtain ⟨k2, hk2, ek2⟩ := aq_ixK_ok (e := 9) (by omega) (show aq_ixK w (nI 9) = 0 from hκ2)
  subst ek2
  have nk2 : (nI k2).toNatClampNeg = k2 := nI_clamp (by omega)
  refine lv_aload_n S.1 S.2.1 dX2_arch_11 rfl (lv_at hl 0 rfl) ?_
  refine aC_getX S I 0 (by decide) in_X2_arch_X2 (List.mem_of_getElem? (i := 1) rfl) dX2_arch_12 ?_
  refine lv_iload_n S.1 S.2.1 dX2_arch_15 rfl (lv_at hl 1 rfl) ?_
  refine lv_iload_n S.1 S.2.1 dX2_arch_16 rfl (lv_at hl 2 rfl) ?_
  refine aq_callVi (As := [.int (nI k1), .int (nI k2)]) (rest := []) S (c_X0_archNumber l hJ (V := V) (Q := Q) (j := 0) (by decide) hn hn20 (a := k1) (by omega) (w := k2) (by omega) ) (cwV 2 S.2.2.2.2 gX2_arch_X0_archNumber rfl rfl rfl (by decide +kernel) ⟨Nat.le_of_ble_eq_true rfl, Nat.le_of_ble_eq_true rfl⟩) (aC_recvS (j := 0) I (by decide)) I hl.1 dX2_arch_17 rfl rfl (Nat.le_of_ble_eq_true rfl) ⟨by first | decide | (dsimp only; omega), by first | decide | (dsimp only; omega)⟩ (fun H locs I => ?_)
  exact aq_xiret S.1 S.2.1 hr hlocks I dX2_arch_20 (by decide) (by decide) (by simp [aq_archK, aq_seq, hκ1, hκ2, nk1, nk2]) (by subst_vars; first | rfl | (simp only [nk1, nk2]; done) | (simp only [nk1, nk2]; rfl)) (by subst_vars; first | rfl | (simp only [nk1, nk2]; done) | (simp only [nk1, nk2]; rfl))
theorem in_X2_addMill_X1 : ∀ w ∈ wsX10, w ∈ wsX2_addMill := fun _ h => List.mem_cons_of_mem _ (List.mem_append_left _ (List.mem_append_left _ (List.mem_append_left _ (List.mem_append_left _ (List.mem_append_right _ h)))))
theorem in_X2_addMill_X2 : ∀ w ∈ wsX20, w ∈ wsX2_addMill := fun _ h => List.mem_cons_of_mem _ (List.mem_append_left _ (List.mem_append_left _ (List.mem_append_left _ (List.mem_append_left _ (List.mem_append_left _ (List.mem_append_right _ h))))))
set_option maxHeartbeats 4000000 in
set_option maxRecDepth 100000 in
/-- X2_addMill -/
theorem c_X2_addMill (l : Launch) (hlt : l.stackTraces = false) {D : va_G} {ad : Nat → Nat} {cI cQ : ClassId} (hJ : aq_J 49 ad) {V : aq_V} {Q : aq_Q} {n : Nat} (hn : Q 10 3 = nI n) (hn20 : n ≤ 20) (a x : Int32) : aq_MetX l yX2_addMill wsX2_addMill ({ frames := 8, cells := 3, slots := 18, locals := 132 }) D (aC_t cI cQ) 49 ad [.ref (ad 0), .int a, .int x] (aC_w ad cI cQ (aq_ug V 0 Q)) (aq_addMK n Q a x) (aq_QiX D (aC_t cI cQ) 49 ad (aq_addMK n Q a x) (aq_mills n (aq_addMQ Q a x)) (aC_w ad cI cQ (aq_ug V 0 (aq_addMQ Q a x)))) 3 18 := by
  refine aq_enterX (cc := cX2_addMill) (maxL := 4) (ret := some .int) (by decide) rfl (Nat.le_of_ble_eq_true rfl) ?_
  intro p e s m below meth c ls S hr hlocks hout hT I hl
  have S : CallFix p m c cX2_addMill 4 s _ wsX2_addMill RX2 := S
  have hl : lv_has ls 4 [(0, .ref (ad 0)), (1, .int a), (2, .int x)] := hl
  refine lv_aload_n S.1 S.2.1 dX2_addMill_0 rfl (lv_at hl 0 rfl) ?_
  refine lv_iload_n S.1 S.2.1 dX2_addMill_1 rfl (lv_at hl 1 rfl) ?_
  refine aq_xcallVv (κ1 := aq_ixK a (nI n)) (As := [.int a]) (rest := []) S hT hlocks hout (c_X2_requireArch l hlt hJ (V := V) (Q := Q) (n := n) hn hn20 a) (cwV 1 S.2.2.2.2 gX2_addMill_X2_requireArch rfl rfl rfl (by decide +kernel) ⟨Nat.le_of_ble_eq_true rfl, Nat.le_of_ble_eq_true rfl⟩) (aC_recvX I) I hl.1 dX2_addMill_2 rfl rfl (Nat.le_of_ble_eq_true rfl) ⟨by decide, by decide⟩ ⟨by decide, by decide⟩ (fun hz => by simp [aq_addMK, aq_seq, hz]) (fun hκ1 H locs I => ?_)
  obtain ⟨k1, hk1, ek1⟩ := aq_ixK_ok (e := n) (by omega) (show aq_ixK a (nI n) = 0 from hκ1)
  subst ek1
  have nk1 : (nI k1).toNatClampNeg = k1 := nI_clamp (by omega)
  refine lv_iload_n S.1 S.2.1 dX2_addMill_5 rfl (lv_at hl 2 rfl) ?_
  refine lv_iconst (v := 1) S.1 S.2.1 dX2_addMill_6 (by decide) ?_
  refine lv_bipush (v := 30) S.1 S.2.1 dX2_addMill_7 (by decide) ?_
  refine aq_xcallSv (κ1 := aq_rgK x 1 30) (As := [.int x, .int 1, .int 30]) (rest := []) S hT hlocks hout (c_X2_requireRange l hlt (V := (aq_ug V 0 Q)) x 1 30) (va_cwS 3 S.2.2.2.2 gX2_addMill_X2_requireRange rfl rfl rfl (by decide +kernel) ⟨Nat.le_of_ble_eq_true rfl, Nat.le_of_ble_eq_true rfl⟩)  I hl.1 dX2_addMill_9 rfl rfl (Nat.le_of_ble_eq_true rfl) ⟨by decide, by decide⟩ ⟨by decide, by decide⟩ (fun hz => by simp [aq_addMK, aq_seq, hκ1, nk1, hz]) (fun hκ2 H locs I => ?_)
  refine lv_aload_n S.1 S.2.1 dX2_addMill_12 rfl (lv_at hl 0 rfl) ?_
  refine aC_getX S I 0 (by decide) in_X2_addMill_X2 (List.mem_of_getElem? (i := 3) rfl) dX2_addMill_13 ?_
  refine lv_iload_n S.1 S.2.1 dX2_addMill_16 rfl (lv_at hl 1 rfl) ?_
  refine aq_callVr (As := [.int (nI k1)]) (rest := []) S (c_X0_archAt l hJ (V := V) (Q := Q) (j := 0) (by decide)  (a := k1) (by omega) ) (cwV 1 S.2.2.2.2 gX2_addMill_X0_archAt rfl rfl rfl (by decide +kernel) ⟨Nat.le_of_ble_eq_true rfl, Nat.le_of_ble_eq_true rfl⟩) (aC_recvS (j := 0) I (by decide)) I hl.1 dX2_addMill_17 rfl rfl (Nat.le_of_ble_eq_true rfl) ⟨by first | decide | (dsimp only; omega), by first | decide | (dsimp only; omega)⟩ (fun H locs I => ?_)
  refine lv_astore_n (lv' := [(3, .ref (ad (7 + 20 * 0 + k1))), (0, .ref (ad 0)), (1, .int (nI k1)), (2, .int x)]) S.1 S.2.1 dX2_addMill_20 rfl hl (by decide) rfl (fun ls hl => ?_)
  refine lv_aload_n S.1 S.2.1 dX2_addMill_21 rfl (lv_at hl 0 rfl) ?_
  refine aq_callVi (As := []) (rest := []) S (c_X1_hasMill l hJ (V := V) (Q := Q) (j := 0) (i := k1) (by decide) (by omega) ) (cwV 0 S.2.2.2.2 gX2_addMill_X1_hasMill rfl rfl rfl (by decide +kernel) ⟨Nat.le_of_ble_eq_true rfl, Nat.le_of_ble_eq_true rfl⟩) (aC_recvA (j := 0) (i := k1) I (by decide) (by omega)) I hl.1 dX2_addMill_22 rfl rfl (Nat.le_of_ble_eq_true rfl) ⟨by first | decide | (dsimp only; omega), by first | decide | (dsimp only; omega)⟩ (fun H locs I => ?_)
  refine lv_if_eq (tgt := 38) S.1 S.2.1 dX2_addMill_25 (by decide) (fun c2 => ?_) (fun c2 => ?_)
  · refine lv_aload_n S.1 S.2.1 dX2_addMill_38 rfl (lv_at hl 0 rfl) ?_
    refine lv_iload_n S.1 S.2.1 dX2_addMill_39 rfl (lv_at hl 3 rfl) ?_
    refine aC_putA (V := V) (Q := Q) (j := 0) (i := k1) (x := x) hJ S I (by decide) (by omega) 6 (by decide) in_X2_addMill_X1 (List.mem_of_getElem? (i := 4) rfl) dX2_addMill_40 (fun H locs M3 hM3 I => ?_)
    refine lv_aload_n S.1 S.2.1 dX2_addMill_43 rfl (lv_at hl 1 rfl) ?_
    refine aC_getX S I 0 (by decide) in_X2_addMill_X2 (List.mem_of_getElem? (i := 3) rfl) dX2_addMill_44 ?_
    have hn_M3 : M3 10 3 = nI n := by rw [hM3]; exact (aq_up_f _ _ (by decide)).trans hn
    refine aq_callVi (As := []) (rest := []) S (c_X0_mills l hJ (V := V) (Q := M3) (j := 0) (by decide) hn_M3 hn20  ) (cwV 0 S.2.2.2.2 gX2_addMill_X0_mills rfl rfl rfl (by decide +kernel) ⟨Nat.le_of_ble_eq_true rfl, Nat.le_of_ble_eq_true rfl⟩) (aC_recvS (j := 0) I (by decide)) I hl.1 dX2_addMill_47 rfl rfl (Nat.le_of_ble_eq_true rfl) ⟨by first | decide | (dsimp only; omega), by first | decide | (dsimp only; omega)⟩ (fun H locs I => ?_)
    exact aq_xiret S.1 S.2.1 hr hlocks I dX2_addMill_50 (by decide) (by decide) (by simp [aq_addMK, aq_seq, hκ1, hκ2, c2, nk1]) (by subst_vars; first | rfl | (simp only [aq_addMQ, nk1, if_pos c2]; done) | (simp only [aq_addMQ, nk1, if_pos c2]; rfl)) (by subst_vars; first | rfl | (simp only [aq_addMQ, nk1, if_pos c2]; done) | (simp only [aq_addMQ, nk1, if_pos c2]; rfl))
  · obtain ⟨sa, hsa⟩ := hT.2.2.2.2.1
    have hκ9 : aq_addMK n Q (nI k1) x = 3 := (by simp [aq_addMK, aq_seq, hκ1, hκ2, c2, nk1])
    exact aq_throw (cls := "java/lang/IllegalStateException") (text := "there is a mill already") (sa := sa) S hlt hT hlocks hout I hl.1 (by decide +kernel) (List.mem_of_getElem? (i := 1) rfl) (List.mem_of_getElem? (i := 2) rfl) hsa (fun _ h => List.mem_cons_of_mem _ (List.mem_append_left _ (List.mem_append_left _ (List.mem_append_right _ h)))) aq_bad3 (aq_badB3 hT) aq_ot3 dX2_addMill_28 dX2_addMill_31 dX2_addMill_32 dX2_addMill_34 dX2_addMill_37 (by decide) (Nat.le_of_ble_eq_true rfl) (by decide) (by decide) (by decide) (by decide) ⟨by rw [hκ9]; decide, by rw [hκ9]; rfl⟩
theorem in_X2_setSluice_X1 : ∀ w ∈ wsX10, w ∈ wsX2_setSluice := fun _ h => List.mem_cons_of_mem _ (List.mem_append_left _ (List.mem_append_left _ (List.mem_append_left _ (List.mem_append_left _ (List.mem_append_right _ h)))))
theorem in_X2_setSluice_X2 : ∀ w ∈ wsX20, w ∈ wsX2_setSluice := fun _ h => List.mem_cons_of_mem _ (List.mem_append_left _ (List.mem_append_left _ (List.mem_append_left _ (List.mem_append_left _ (List.mem_append_left _ (List.mem_append_right _ h))))))
set_option maxHeartbeats 4000000 in
set_option maxRecDepth 100000 in
/-- X2_setSluice -/
theorem c_X2_setSluice (l : Launch) (hlt : l.stackTraces = false) {D : va_G} {ad : Nat → Nat} {cI cQ : ClassId} (hJ : aq_J 49 ad) {V : aq_V} {Q : aq_Q} {n : Nat} (hn : Q 10 3 = nI n) (hn20 : n ≤ 20) (a x : Int32) : aq_MetX l yX2_setSluice wsX2_setSluice ({ frames := 8, cells := 3, slots := 18, locals := 132 }) D (aC_t cI cQ) 49 ad [.ref (ad 0), .int a, .int x] (aC_w ad cI cQ (aq_ug V 0 Q)) (aq_sluK n Q a x) (aq_QiX D (aC_t cI cQ) 49 ad (aq_sluK n Q a x) (Q 7 a.toNatClampNeg) (aC_w ad cI cQ (aq_ug V 0 (aq_sluQ Q a x)))) 3 18 := by
  refine aq_enterX (cc := cX2_setSluice) (maxL := 5) (ret := some .int) (by decide) rfl (Nat.le_of_ble_eq_true rfl) ?_
  intro p e s m below meth c ls S hr hlocks hout hT I hl
  have S : CallFix p m c cX2_setSluice 5 s _ wsX2_setSluice RX2 := S
  have hl : lv_has ls 5 [(0, .ref (ad 0)), (1, .int a), (2, .int x)] := hl
  refine lv_aload_n S.1 S.2.1 dX2_setSluice_0 rfl (lv_at hl 0 rfl) ?_
  refine lv_iload_n S.1 S.2.1 dX2_setSluice_1 rfl (lv_at hl 1 rfl) ?_
  refine aq_xcallVv (κ1 := aq_ixK a (nI n)) (As := [.int a]) (rest := []) S hT hlocks hout (c_X2_requireArch l hlt hJ (V := V) (Q := Q) (n := n) hn hn20 a) (cwV 1 S.2.2.2.2 gX2_setSluice_X2_requireArch rfl rfl rfl (by decide +kernel) ⟨Nat.le_of_ble_eq_true rfl, Nat.le_of_ble_eq_true rfl⟩) (aC_recvX I) I hl.1 dX2_setSluice_2 rfl rfl (Nat.le_of_ble_eq_true rfl) ⟨by decide, by decide⟩ ⟨by decide, by decide⟩ (fun hz => by simp [aq_sluK, aq_seq, hz]) (fun hκ1 H locs I => ?_)
  obtain ⟨k1, hk1, ek1⟩ := aq_ixK_ok (e := n) (by omega) (show aq_ixK a (nI n) = 0 from hκ1)
  subst ek1
  have nk1 : (nI k1).toNatClampNeg = k1 := nI_clamp (by omega)
  refine lv_iload_n S.1 S.2.1 dX2_setSluice_5 rfl (lv_at hl 2 rfl) ?_
  refine lv_iconst (v := 0) S.1 S.2.1 dX2_setSluice_6 (by decide) ?_
  refine lv_bipush (v := 10) S.1 S.2.1 dX2_setSluice_7 (by decide) ?_
  refine aq_xcallSv (κ1 := aq_rgK x 0 10) (As := [.int x, .int 0, .int 10]) (rest := []) S hT hlocks hout (c_X2_requireRange l hlt (V := (aq_ug V 0 Q)) x 0 10) (va_cwS 3 S.2.2.2.2 gX2_setSluice_X2_requireRange rfl rfl rfl (by decide +kernel) ⟨Nat.le_of_ble_eq_true rfl, Nat.le_of_ble_eq_true rfl⟩)  I hl.1 dX2_setSluice_9 rfl rfl (Nat.le_of_ble_eq_true rfl) ⟨by decide, by decide⟩ ⟨by decide, by decide⟩ (fun hz => by simp [aq_sluK, aq_seq, hκ1, nk1, hz]) (fun hκ2 H locs I => ?_)
  refine lv_aload_n S.1 S.2.1 dX2_setSluice_12 rfl (lv_at hl 0 rfl) ?_
  refine aC_getX S I 0 (by decide) in_X2_setSluice_X2 (List.mem_of_getElem? (i := 3) rfl) dX2_setSluice_13 ?_
  refine lv_iload_n S.1 S.2.1 dX2_setSluice_16 rfl (lv_at hl 1 rfl) ?_
  refine aq_callVr (As := [.int (nI k1)]) (rest := []) S (c_X0_archAt l hJ (V := V) (Q := Q) (j := 0) (by decide)  (a := k1) (by omega) ) (cwV 1 S.2.2.2.2 gX2_setSluice_X0_archAt rfl rfl rfl (by decide +kernel) ⟨Nat.le_of_ble_eq_true rfl, Nat.le_of_ble_eq_true rfl⟩) (aC_recvS (j := 0) I (by decide)) I hl.1 dX2_setSluice_17 rfl rfl (Nat.le_of_ble_eq_true rfl) ⟨by first | decide | (dsimp only; omega), by first | decide | (dsimp only; omega)⟩ (fun H locs I => ?_)
  refine lv_astore_n (lv' := [(3, .ref (ad (7 + 20 * 0 + k1))), (0, .ref (ad 0)), (1, .int (nI k1)), (2, .int x)]) S.1 S.2.1 dX2_setSluice_20 rfl hl (by decide) rfl (fun ls hl => ?_)
  refine lv_aload_n S.1 S.2.1 dX2_setSluice_21 rfl (lv_at hl 0 rfl) ?_
  refine aq_callVi (As := []) (rest := []) S (c_X1_hasMill l hJ (V := V) (Q := Q) (j := 0) (i := k1) (by decide) (by omega) ) (cwV 0 S.2.2.2.2 gX2_setSluice_X1_hasMill rfl rfl rfl (by decide +kernel) ⟨Nat.le_of_ble_eq_true rfl, Nat.le_of_ble_eq_true rfl⟩) (aC_recvA (j := 0) (i := k1) I (by decide) (by omega)) I hl.1 dX2_setSluice_22 rfl rfl (Nat.le_of_ble_eq_true rfl) ⟨by first | decide | (dsimp only; omega), by first | decide | (dsimp only; omega)⟩ (fun H locs I => ?_)
  refine lv_if_ne (tgt := 38) S.1 S.2.1 dX2_setSluice_25 (by decide) (fun c2 => ?_) (fun c2 => ?_)
  · refine lv_aload_n S.1 S.2.1 dX2_setSluice_38 rfl (lv_at hl 0 rfl) ?_
    refine aC_getA (j := 0) (i := k1) (x := Q 7 k1) S I (by decide) (by omega) 7 (by decide) in_X2_setSluice_X1 (List.mem_of_getElem? (i := 4) rfl) (by rw [aq_ug_s]) dX2_setSluice_39 ?_
    refine lv_istore (lv' := [(4, .int (Q 7 k1)), (3, .ref (ad (7 + 20 * 0 + k1))), (0, .ref (ad 0)), (1, .int (nI k1)), (2, .int x)]) S.1 S.2.1 dX2_setSluice_42 hl (by decide) rfl (fun ls hl => ?_)
    refine lv_aload_n S.1 S.2.1 dX2_setSluice_44 rfl (lv_at hl 1 rfl) ?_
    refine lv_iload_n S.1 S.2.1 dX2_setSluice_45 rfl (lv_at hl 4 rfl) ?_
    refine aC_putA (V := V) (Q := Q) (j := 0) (i := k1) (x := x) hJ S I (by decide) (by omega) 7 (by decide) in_X2_setSluice_X1 (List.mem_of_getElem? (i := 4) rfl) dX2_setSluice_46 (fun H locs M3 hM3 I => ?_)
    refine lv_iload S.1 S.2.1 dX2_setSluice_49 (lv_at hl 0 rfl) ?_
    exact aq_xiret S.1 S.2.1 hr hlocks I dX2_setSluice_51 (by decide) (by decide) (by simp [aq_sluK, aq_seq, hκ1, hκ2, c2, nk1]) (by subst_vars; first | rfl | (simp only [aq_sluQ, nk1, if_neg c2]; done) | (simp only [aq_sluQ, nk1, if_neg c2]; rfl)) (by subst_vars; first | rfl | (simp only [aq_sluQ, nk1, if_neg c2]; done) | (simp only [aq_sluQ, nk1, if_neg c2]; rfl))
  · obtain ⟨sa, hsa⟩ := hT.2.2.2.2.2.1
    have hκ9 : aq_sluK n Q (nI k1) x = 3 := (by simp [aq_sluK, aq_seq, hκ1, hκ2, c2, nk1])
    exact aq_throw (cls := "java/lang/IllegalStateException") (text := "there is no mill") (sa := sa) S hlt hT hlocks hout I hl.1 (by decide +kernel) (List.mem_of_getElem? (i := 1) rfl) (List.mem_of_getElem? (i := 2) rfl) hsa (fun _ h => List.mem_cons_of_mem _ (List.mem_append_left _ (List.mem_append_left _ (List.mem_append_right _ h)))) aq_bad3 (aq_badB3 hT) aq_ot3 dX2_setSluice_28 dX2_setSluice_31 dX2_setSluice_32 dX2_setSluice_34 dX2_setSluice_37 (by decide) (Nat.le_of_ble_eq_true rfl) (by decide) (by decide) (by decide) (by decide) ⟨by rw [hκ9]; decide, by rw [hκ9]; rfl⟩
theorem in_X2_mill_X2 : ∀ w ∈ wsX20, w ∈ wsX2_mill := fun _ h => List.mem_cons_of_mem _ (List.mem_append_left _ (List.mem_append_left _ (List.mem_append_left _ (List.mem_append_right _ h))))
set_option maxHeartbeats 4000000 in
set_option maxRecDepth 100000 in
/-- X2_mill -/
theorem c_X2_mill (l : Launch) (hlt : l.stackTraces = false) {D : va_G} {ad : Nat → Nat} {cI cQ : ClassId} (hJ : aq_J 49 ad) {V : aq_V} {Q : aq_Q} {n : Nat} (hn : Q 10 3 = nI n) (hn20 : n ≤ 20) (a w : Int32) : aq_MetX l yX2_mill wsX2_mill ({ frames := 8, cells := 2, slots := 12, locals := 132 }) D (aC_t cI cQ) 49 ad [.ref (ad 0), .int a, .int w] (aC_w ad cI cQ (aq_ug V 0 Q)) (aq_millK n a w) (aq_QiX D (aC_t cI cQ) 49 ad (aq_millK n a w) (aq_millNo Q a.toNatClampNeg w.toNatClampNeg) (aC_w ad cI cQ (aq_ug V 0 Q))) 2 12 := by
  refine aq_enterX (cc := cX2_mill) (maxL := 3) (ret := some .int) (by decide) rfl (Nat.le_of_ble_eq_true rfl) ?_
  intro p e s m below meth c ls S hr hlocks hout hT I hl
  have S : CallFix p m c cX2_mill 3 s _ wsX2_mill RX2 := S
  have hl : lv_has ls 3 [(0, .ref (ad 0)), (1, .int a), (2, .int w)] := hl
  refine lv_aload_n S.1 S.2.1 dX2_mill_0 rfl (lv_at hl 0 rfl) ?_
  refine lv_iload_n S.1 S.2.1 dX2_mill_1 rfl (lv_at hl 1 rfl) ?_
  refine aq_xcallVv (κ1 := aq_ixK a (nI n)) (As := [.int a]) (rest := []) S hT hlocks hout (c_X2_requireArch l hlt hJ (V := V) (Q := Q) (n := n) hn hn20 a) (cwV 1 S.2.2.2.2 gX2_mill_X2_requireArch rfl rfl rfl (by decide +kernel) ⟨Nat.le_of_ble_eq_true rfl, Nat.le_of_ble_eq_true rfl⟩) (aC_recvX I) I hl.1 dX2_mill_2 rfl rfl (Nat.le_of_ble_eq_true rfl) ⟨by decide, by decide⟩ ⟨by decide, by decide⟩ (fun hz => by simp [aq_millK, aq_seq, hz]) (fun hκ1 H locs I => ?_)
  obtain ⟨k1, hk1, ek1⟩ := aq_ixK_ok (e := n) (by omega) (show aq_ixK a (nI n) = 0 from hκ1)
  subst ek1
  have nk1 : (nI k1).toNatClampNeg = k1 := nI_clamp (by omega)
  refine lv_iload_n S.1 S.2.1 dX2_mill_5 rfl (lv_at hl 2 rfl) ?_
  refine lv_iconst (v := 4) S.1 S.2.1 dX2_mill_6 (by decide) ?_
  refine aq_xcallSv (κ1 := aq_ixK w 4) (As := [.int w, .int 4]) (rest := []) S hT hlocks hout (c_X2_requireIndex l hlt (V := (aq_ug V 0 Q)) w 4) (va_cwS 2 S.2.2.2.2 gX2_mill_X2_requireIndex rfl rfl rfl (by decide +kernel) ⟨Nat.le_of_ble_eq_true rfl, Nat.le_of_ble_eq_true rfl⟩)  I hl.1 dX2_mill_7 rfl rfl (Nat.le_of_ble_eq_true rfl) ⟨by decide, by decide⟩ ⟨by decide, by decide⟩ (fun hz => by simp [aq_millK, aq_seq, hκ1, nk1, hz]) (fun hκ2 H locs I => ?_)
  obtain ⟨k2, hk2, ek2⟩ := aq_ixK_ok (e := 4) (by omega) (show aq_ixK w (nI 4) = 0 from hκ2)
  subst ek2
  have nk2 : (nI k2).toNatClampNeg = k2 := nI_clamp (by omega)
  refine lv_aload_n S.1 S.2.1 dX2_mill_10 rfl (lv_at hl 0 rfl) ?_
  refine aC_getX S I 0 (by decide) in_X2_mill_X2 (List.mem_of_getElem? (i := 1) rfl) dX2_mill_11 ?_
  refine lv_iload_n S.1 S.2.1 dX2_mill_14 rfl (lv_at hl 1 rfl) ?_
  refine aq_callVr (As := [.int (nI k1)]) (rest := []) S (c_X0_archAt l hJ (V := V) (Q := Q) (j := 0) (by decide)  (a := k1) (by omega) ) (cwV 1 S.2.2.2.2 gX2_mill_X0_archAt rfl rfl rfl (by decide +kernel) ⟨Nat.le_of_ble_eq_true rfl, Nat.le_of_ble_eq_true rfl⟩) (aC_recvS (j := 0) I (by decide)) I hl.1 dX2_mill_15 rfl rfl (Nat.le_of_ble_eq_true rfl) ⟨by first | decide | (dsimp only; omega), by first | decide | (dsimp only; omega)⟩ (fun H locs I => ?_)
  refine lv_iload_n S.1 S.2.1 dX2_mill_18 rfl (lv_at hl 2 rfl) ?_
  refine aq_callVi (As := [.int (nI k2)]) (rest := []) S (c_X1_millNumber l hJ (V := V) (Q := Q) (j := 0) (i := k1) (by decide) (by omega) (w := k2) (by omega)) (cwV 1 S.2.2.2.2 gX2_mill_X1_millNumber rfl rfl rfl (by decide +kernel) ⟨Nat.le_of_ble_eq_true rfl, Nat.le_of_ble_eq_true rfl⟩) (aC_recvA (j := 0) (i := k1) I (by decide) (by omega)) I hl.1 dX2_mill_19 rfl rfl (Nat.le_of_ble_eq_true rfl) ⟨by first | decide | (dsimp only; omega), by first | decide | (dsimp only; omega)⟩ (fun H locs I => ?_)
  exact aq_xiret S.1 S.2.1 hr hlocks I dX2_mill_22 (by decide) (by decide) (by simp [aq_millK, aq_seq, hκ1, hκ2, nk1, nk2]) (by subst_vars; first | rfl | (simp only [nk1, nk2]; done) | (simp only [nk1, nk2]; rfl)) (by subst_vars; first | rfl | (simp only [nk1, nk2]; done) | (simp only [nk1, nk2]; rfl))
theorem in_X2_mend_X0 : ∀ w ∈ wsX00, w ∈ wsX2_mend := fun _ h => List.mem_cons_of_mem _ (List.mem_append_left _ (List.mem_append_left _ (List.mem_append_left _ (List.mem_append_right _ h))))
theorem in_X2_mend_X1 : ∀ w ∈ wsX10, w ∈ wsX2_mend := fun _ h => List.mem_cons_of_mem _ (List.mem_append_left _ (List.mem_append_left _ (List.mem_append_right _ h)))
theorem in_X2_mend_X2 : ∀ w ∈ wsX20, w ∈ wsX2_mend := fun _ h => List.mem_cons_of_mem _ (List.mem_append_left _ (List.mem_append_left _ (List.mem_append_left _ (List.mem_append_left _ (List.mem_append_right _ h)))))
set_option maxHeartbeats 4000000 in
set_option maxRecDepth 100000 in
/-- X2_mend -/
theorem c_X2_mend (l : Launch) (hlt : l.stackTraces = false) {D : va_G} {ad : Nat → Nat} {cI cQ : ClassId} (hJ : aq_J 49 ad) {V : aq_V} {Q : aq_Q} {n : Nat} (hn : Q 10 3 = nI n) (hn20 : n ≤ 20) (a : Int32) : aq_MetX l yX2_mend wsX2_mend ({ frames := 8, cells := 3, slots := 18, locals := 132 }) D (aC_t cI cQ) 49 ad [.ref (ad 0), .int a] (aC_w ad cI cQ (aq_ug V 0 Q)) (aq_mendK n Q a) (aq_QiX D (aC_t cI cQ) 49 ad (aq_mendK n Q a) (aq_mendQ Q a.toNatClampNeg 3 a.toNatClampNeg) (aC_w ad cI cQ (aq_ug V 0 (aq_mendQ Q a.toNatClampNeg)))) 3 18 := by
  refine aq_enterX (cc := cX2_mend) (maxL := 3) (ret := some .int) (by decide) rfl (Nat.le_of_ble_eq_true rfl) ?_
  intro p e s m below meth c ls S hr hlocks hout hT I hl
  have S : CallFix p m c cX2_mend 3 s _ wsX2_mend RX2 := S
  have hl : lv_has ls 3 [(0, .ref (ad 0)), (1, .int a)] := hl
  refine lv_aload_n S.1 S.2.1 dX2_mend_0 rfl (lv_at hl 0 rfl) ?_
  refine lv_iload_n S.1 S.2.1 dX2_mend_1 rfl (lv_at hl 1 rfl) ?_
  refine aq_xcallVv (κ1 := aq_ixK a (nI n)) (As := [.int a]) (rest := []) S hT hlocks hout (c_X2_requireArch l hlt hJ (V := V) (Q := Q) (n := n) hn hn20 a) (cwV 1 S.2.2.2.2 gX2_mend_X2_requireArch rfl rfl rfl (by decide +kernel) ⟨Nat.le_of_ble_eq_true rfl, Nat.le_of_ble_eq_true rfl⟩) (aC_recvX I) I hl.1 dX2_mend_2 rfl rfl (Nat.le_of_ble_eq_true rfl) ⟨by decide, by decide⟩ ⟨by decide, by decide⟩ (fun hz => by simp [aq_mendK, aq_seq, hz]) (fun hκ1 H locs I => ?_)
  obtain ⟨k1, hk1, ek1⟩ := aq_ixK_ok (e := n) (by omega) (show aq_ixK a (nI n) = 0 from hκ1)
  subst ek1
  have nk1 : (nI k1).toNatClampNeg = k1 := nI_clamp (by omega)
  refine lv_aload_n S.1 S.2.1 dX2_mend_5 rfl (lv_at hl 0 rfl) ?_
  refine aC_getX S I 0 (by decide) in_X2_mend_X2 (List.mem_of_getElem? (i := 3) rfl) dX2_mend_6 ?_
  refine lv_iload_n S.1 S.2.1 dX2_mend_9 rfl (lv_at hl 1 rfl) ?_
  refine aq_callVr (As := [.int (nI k1)]) (rest := []) S (c_X0_archAt l hJ (V := V) (Q := Q) (j := 0) (by decide)  (a := k1) (by omega) ) (cwV 1 S.2.2.2.2 gX2_mend_X0_archAt rfl rfl rfl (by decide +kernel) ⟨Nat.le_of_ble_eq_true rfl, Nat.le_of_ble_eq_true rfl⟩) (aC_recvS (j := 0) I (by decide)) I hl.1 dX2_mend_10 rfl rfl (Nat.le_of_ble_eq_true rfl) ⟨by first | decide | (dsimp only; omega), by first | decide | (dsimp only; omega)⟩ (fun H locs I => ?_)
  refine lv_astore_n (lv' := [(2, .ref (ad (7 + 20 * 0 + k1))), (0, .ref (ad 0)), (1, .int (nI k1))]) S.1 S.2.1 dX2_mend_13 rfl hl (by decide) rfl (fun ls hl => ?_)
  refine lv_aload_n S.1 S.2.1 dX2_mend_14 rfl (lv_at hl 1 rfl) ?_
  refine aC_getX S I 0 (by decide) in_X2_mend_X2 (List.mem_of_getElem? (i := 3) rfl) dX2_mend_15 ?_
  refine aC_getS (j := 0) (x := Q 10 5) S I (by decide) 5 (by decide) (by decide) in_X2_mend_X0 (List.mem_of_getElem? (i := 4) rfl) (by rw [aq_ug_s]) dX2_mend_18 ?_
  refine lv_iconst (v := 1) S.1 S.2.1 dX2_mend_21 (by decide) ?_
  refine lv_icmp_ge (tgt := 35) S.1 S.2.1 dX2_mend_22 (by decide) (fun c2 => ?_) (fun c2 => ?_)
  · refine lv_aload_n S.1 S.2.1 dX2_mend_35 rfl (lv_at hl 0 rfl) ?_
    refine aC_getA (j := 0) (i := k1) (x := Q 3 k1) S I (by decide) (by omega) 3 (by decide) in_X2_mend_X1 (List.mem_of_getElem? (i := 5) rfl) (by rw [aq_ug_s]) dX2_mend_36 ?_
    refine lv_if_ne (tgt := 52) S.1 S.2.1 dX2_mend_39 (by decide) (fun c3 => ?_) (fun c3 => ?_)
    · refine lv_aload_n S.1 S.2.1 dX2_mend_52 rfl (lv_at hl 1 rfl) ?_
      refine aC_getX S I 0 (by decide) in_X2_mend_X2 (List.mem_of_getElem? (i := 3) rfl) dX2_mend_53 ?_
      refine lv_dup S.1 S.2.1 dX2_mend_56 rfl ?_
      refine aC_getS (j := 0) (x := Q 10 5) S I (by decide) 5 (by decide) (by decide) in_X2_mend_X0 (List.mem_of_getElem? (i := 4) rfl) (by rw [aq_ug_s]) dX2_mend_57 ?_
      refine lv_iconst (v := 1) S.1 S.2.1 dX2_mend_60 (by decide) ?_
      refine lv_isub S.1 S.2.1 dX2_mend_61 ?_
      refine aC_putS (V := V) (Q := Q) (j := 0) (x := Q 10 5 - 1) hJ S I (by decide) 5 (by decide) (by decide) in_X2_mend_X0 (List.mem_of_getElem? (i := 4) rfl) dX2_mend_62 (fun H locs M4 hM4 I => ?_)
      refine lv_aload_n S.1 S.2.1 dX2_mend_65 rfl (lv_at hl 0 rfl) ?_
      refine lv_iconst (v := 0) S.1 S.2.1 dX2_mend_66 (by decide) ?_
      refine lv_aload_n S.1 S.2.1 dX2_mend_67 rfl (lv_at hl 0 rfl) ?_
      refine aC_getA (j := 0) (i := k1) (x := M4 3 k1) S I (by decide) (by omega) 3 (by decide) in_X2_mend_X1 (List.mem_of_getElem? (i := 5) rfl) (by rw [aq_ug_s]) dX2_mend_68 ?_
      refine lv_bipush (v := 10) S.1 S.2.1 dX2_mend_71 (by decide) ?_
      refine lv_isub S.1 S.2.1 dX2_mend_73 ?_
      refine aq_mmax S hl.1 (List.mem_of_getElem? (i := 6) rfl) (List.mem_of_getElem? (i := 7) rfl) (List.mem_of_getElem? (i := 8) rfl) (List.mem_of_getElem? (i := 9) rfl) (by decide) (Nat.le_of_ble_eq_true rfl) (by decide) (by decide) dX2_mend_74 ?_
      refine aC_putA (V := V) (Q := M4) (j := 0) (i := k1) (x := aq_mx 0 (M4 3 k1 - 10)) hJ S I (by decide) (by omega) 3 (by decide) in_X2_mend_X1 (List.mem_of_getElem? (i := 5) rfl) dX2_mend_77 (fun H locs M5 hM5 I => ?_)
      refine lv_aload_n S.1 S.2.1 dX2_mend_80 rfl (lv_at hl 0 rfl) ?_
      refine lv_iconst (v := 0) S.1 S.2.1 dX2_mend_81 (by decide) ?_
      refine aC_putA (V := V) (Q := M5) (j := 0) (i := k1) (x := 0) hJ S I (by decide) (by omega) 4 (by decide) in_X2_mend_X1 (List.mem_of_getElem? (i := 10) rfl) dX2_mend_82 (fun H locs M6 hM6 I => ?_)
      refine lv_aload_n S.1 S.2.1 dX2_mend_85 rfl (lv_at hl 0 rfl) ?_
      refine aC_getA (j := 0) (i := k1) (x := M6 3 k1) S I (by decide) (by omega) 3 (by decide) in_X2_mend_X1 (List.mem_of_getElem? (i := 5) rfl) (by rw [aq_ug_s]) dX2_mend_86 ?_
      exact aq_xiret S.1 S.2.1 hr hlocks I dX2_mend_89 (by decide) (by decide) (by simp [aq_mendK, aq_seq, hκ1, c2, c3, nk1]) (by subst_vars; first | rfl | (simp only [nk1, if_pos c2, if_neg c3]; done) | (simp only [nk1, if_pos c2, if_neg c3]; rfl)) (by subst_vars; first | rfl | (simp only [nk1, if_pos c2, if_neg c3]; done) | (simp only [nk1, if_pos c2, if_neg c3]; rfl))
    · obtain ⟨sa, hsa⟩ := hT.2.2.2.2.2.2.2.1
      have hκ9 : aq_mendK n Q (nI k1) = 3 := (by simp [aq_mendK, aq_seq, hκ1, c2, c3, nk1])
      exact aq_throw (cls := "java/lang/IllegalStateException") (text := "the arch is not worn") (sa := sa) S hlt hT hlocks hout I hl.1 (by decide +kernel) (List.mem_of_getElem? (i := 1) rfl) (List.mem_of_getElem? (i := 2) rfl) hsa (fun _ h => List.mem_cons_of_mem _ (List.mem_append_left _ (List.mem_append_right _ h))) aq_bad3 (aq_badB3 hT) aq_ot3 dX2_mend_42 dX2_mend_45 dX2_mend_46 dX2_mend_48 dX2_mend_51 (by decide) (Nat.le_of_ble_eq_true rfl) (by decide) (by decide) (by decide) (by decide) ⟨by rw [hκ9]; decide, by rw [hκ9]; rfl⟩
  · obtain ⟨sa, hsa⟩ := hT.2.2.2.2.2.2.1
    have hκ9 : aq_mendK n Q (nI k1) = 3 := (by simp [aq_mendK, aq_seq, hκ1, c2, nk1])
    exact aq_throw (cls := "java/lang/IllegalStateException") (text := "there is no coin") (sa := sa) S hlt hT hlocks hout I hl.1 (by decide +kernel) (List.mem_of_getElem? (i := 1) rfl) (List.mem_of_getElem? (i := 2) rfl) hsa (fun _ h => List.mem_cons_of_mem _ (List.mem_append_left _ (List.mem_append_right _ h))) aq_bad3 (aq_badB3 hT) aq_ot3 dX2_mend_25 dX2_mend_28 dX2_mend_29 dX2_mend_31 dX2_mend_34 (by decide) (Nat.le_of_ble_eq_true rfl) (by decide) (by decide) (by decide) (by decide) ⟨by rw [hκ9]; decide, by rw [hκ9]; rfl⟩
theorem in_X2_quake_X1 : ∀ w ∈ wsX10, w ∈ wsX2_quake := fun _ h => List.mem_cons_of_mem _ (List.mem_append_left _ (List.mem_append_left _ (List.mem_append_left _ (List.mem_append_right _ h))))
theorem in_X2_quake_X2 : ∀ w ∈ wsX20, w ∈ wsX2_quake := fun _ h => List.mem_cons_of_mem _ (List.mem_append_left _ (List.mem_append_left _ (List.mem_append_left _ (List.mem_append_left _ (List.mem_append_right _ h)))))
set_option maxHeartbeats 4000000 in
set_option maxRecDepth 100000 in
/-- X2_quake -/
theorem c_X2_quake (l : Launch) (hlt : l.stackTraces = false) {D : va_G} {ad : Nat → Nat} {cI cQ : ClassId} (hJ : aq_J 49 ad) {V : aq_V} {Q : aq_Q} {n : Nat} (hn : Q 10 3 = nI n) (hn20 : n ≤ 20) (a x : Int32) : aq_MetX l yX2_quake wsX2_quake ({ frames := 8, cells := 2, slots := 12, locals := 132 }) D (aC_t cI cQ) 49 ad [.ref (ad 0), .int a, .int x] (aC_w ad cI cQ (aq_ug V 0 Q)) (aq_quakeK n a x) (aq_QiX D (aC_t cI cQ) 49 ad (aq_quakeK n a x) (aq_wearByQ Q a.toNatClampNeg x 3 a.toNatClampNeg) (aC_w ad cI cQ (aq_ug V 0 (aq_wearByQ Q a.toNatClampNeg x)))) 2 12 := by
  refine aq_enterX (cc := cX2_quake) (maxL := 4) (ret := some .int) (by decide) rfl (Nat.le_of_ble_eq_true rfl) ?_
  intro p e s m below meth c ls S hr hlocks hout hT I hl
  have S : CallFix p m c cX2_quake 4 s _ wsX2_quake RX2 := S
  have hl : lv_has ls 4 [(0, .ref (ad 0)), (1, .int a), (2, .int x)] := hl
  refine lv_aload_n S.1 S.2.1 dX2_quake_0 rfl (lv_at hl 0 rfl) ?_
  refine lv_iload_n S.1 S.2.1 dX2_quake_1 rfl (lv_at hl 1 rfl) ?_
  refine aq_xcallVv (κ1 := aq_ixK a (nI n)) (As := [.int a]) (rest := []) S hT hlocks hout (c_X2_requireArch l hlt hJ (V := V) (Q := Q) (n := n) hn hn20 a) (cwV 1 S.2.2.2.2 gX2_quake_X2_requireArch rfl rfl rfl (by decide +kernel) ⟨Nat.le_of_ble_eq_true rfl, Nat.le_of_ble_eq_true rfl⟩) (aC_recvX I) I hl.1 dX2_quake_2 rfl rfl (Nat.le_of_ble_eq_true rfl) ⟨by decide, by decide⟩ ⟨by decide, by decide⟩ (fun hz => by simp [aq_quakeK, aq_seq, hz]) (fun hκ1 H locs I => ?_)
  obtain ⟨k1, hk1, ek1⟩ := aq_ixK_ok (e := n) (by omega) (show aq_ixK a (nI n) = 0 from hκ1)
  subst ek1
  have nk1 : (nI k1).toNatClampNeg = k1 := nI_clamp (by omega)
  refine lv_iload_n S.1 S.2.1 dX2_quake_5 rfl (lv_at hl 2 rfl) ?_
  refine lv_iconst (v := 1) S.1 S.2.1 dX2_quake_6 (by decide) ?_
  refine lv_bipush (v := 50) S.1 S.2.1 dX2_quake_7 (by decide) ?_
  refine aq_xcallSv (κ1 := aq_rgK x 1 50) (As := [.int x, .int 1, .int 50]) (rest := []) S hT hlocks hout (c_X2_requireRange l hlt (V := (aq_ug V 0 Q)) x 1 50) (va_cwS 3 S.2.2.2.2 gX2_quake_X2_requireRange rfl rfl rfl (by decide +kernel) ⟨Nat.le_of_ble_eq_true rfl, Nat.le_of_ble_eq_true rfl⟩)  I hl.1 dX2_quake_9 rfl rfl (Nat.le_of_ble_eq_true rfl) ⟨by decide, by decide⟩ ⟨by decide, by decide⟩ (fun hz => by simp [aq_quakeK, aq_seq, hκ1, nk1, hz]) (fun hκ2 H locs I => ?_)
  refine lv_aload_n S.1 S.2.1 dX2_quake_12 rfl (lv_at hl 0 rfl) ?_
  refine aC_getX S I 0 (by decide) in_X2_quake_X2 (List.mem_of_getElem? (i := 1) rfl) dX2_quake_13 ?_
  refine lv_iload_n S.1 S.2.1 dX2_quake_16 rfl (lv_at hl 1 rfl) ?_
  refine aq_callVr (As := [.int (nI k1)]) (rest := []) S (c_X0_archAt l hJ (V := V) (Q := Q) (j := 0) (by decide)  (a := k1) (by omega) ) (cwV 1 S.2.2.2.2 gX2_quake_X0_archAt rfl rfl rfl (by decide +kernel) ⟨Nat.le_of_ble_eq_true rfl, Nat.le_of_ble_eq_true rfl⟩) (aC_recvS (j := 0) I (by decide)) I hl.1 dX2_quake_17 rfl rfl (Nat.le_of_ble_eq_true rfl) ⟨by first | decide | (dsimp only; omega), by first | decide | (dsimp only; omega)⟩ (fun H locs I => ?_)
  refine lv_astore_n (lv' := [(3, .ref (ad (7 + 20 * 0 + k1))), (0, .ref (ad 0)), (1, .int (nI k1)), (2, .int x)]) S.1 S.2.1 dX2_quake_20 rfl hl (by decide) rfl (fun ls hl => ?_)
  refine lv_aload_n S.1 S.2.1 dX2_quake_21 rfl (lv_at hl 0 rfl) ?_
  refine lv_iload_n S.1 S.2.1 dX2_quake_22 rfl (lv_at hl 3 rfl) ?_
  refine aq_callVv (As := [.int x]) (rest := []) S (c_X1_wearBy l hJ (V := V) (Q := Q) (j := 0) (i := k1) (by decide) (by omega) x) (cwV 1 S.2.2.2.2 gX2_quake_X1_wearBy rfl rfl rfl (by decide +kernel) ⟨Nat.le_of_ble_eq_true rfl, Nat.le_of_ble_eq_true rfl⟩) (aC_recvA (j := 0) (i := k1) I (by decide) (by omega)) I hl.1 dX2_quake_23 rfl rfl (Nat.le_of_ble_eq_true rfl) ⟨by first | decide | (dsimp only; omega), by first | decide | (dsimp only; omega)⟩ (fun H locs I => ?_)
  obtain ⟨M2, hM2⟩ : ∃ z9 : aq_Q, z9 = aq_wearByQ Q k1 x := ⟨_, rfl⟩
  rw [← hM2] at I
  refine lv_aload_n S.1 S.2.1 dX2_quake_26 rfl (lv_at hl 0 rfl) ?_
  refine aC_getA (j := 0) (i := k1) (x := M2 3 k1) S I (by decide) (by omega) 3 (by decide) in_X2_quake_X1 (List.mem_of_getElem? (i := 2) rfl) (by rw [aq_ug_s]) dX2_quake_27 ?_
  exact aq_xiret S.1 S.2.1 hr hlocks I dX2_quake_30 (by decide) (by decide) (by simp [aq_quakeK, aq_seq, hκ1, hκ2, nk1]) (by subst_vars; first | rfl | (simp only [nk1]; done) | (simp only [nk1]; rfl)) (by subst_vars; first | rfl | (simp only [nk1]; done) | (simp only [nk1]; rfl))
theorem in_X2_count_X2 : ∀ w ∈ wsX20, w ∈ wsX2_count := fun _ h => List.mem_cons_of_mem _ (List.mem_append_left _ (List.mem_append_left _ (List.mem_append_left _ (List.mem_append_right _ h))))
set_option maxHeartbeats 4000000 in
set_option maxRecDepth 100000 in
/-- X2_count -/
theorem c_X2_count (l : Launch) (hlt : l.stackTraces = false) {D : va_G} {ad : Nat → Nat} {cI cQ : ClassId} (hJ : aq_J 49 ad) {V : aq_V} {Q : aq_Q} {n : Nat} (hn : Q 10 3 = nI n) (hn20 : n ≤ 20) (w : Int32) : aq_MetX l yX2_count wsX2_count ({ frames := 7, cells := 1, slots := 6, locals := 111 }) D (aC_t cI cQ) 49 ad [.ref (ad 0), .int w] (aC_w ad cI cQ (aq_ug V 0 Q)) (aq_ixK w 12) (aq_QiX D (aC_t cI cQ) 49 ad (aq_ixK w 12) (aq_countNo n Q w.toNatClampNeg) (aC_w ad cI cQ (aq_ug V 0 Q))) 1 6 := by
  refine aq_enterX (cc := cX2_count) (maxL := 2) (ret := some .int) (by decide) rfl (Nat.le_of_ble_eq_true rfl) ?_
  intro p e s m below meth c ls S hr hlocks hout hT I hl
  have S : CallFix p m c cX2_count 2 s _ wsX2_count RX2 := S
  have hl : lv_has ls 2 [(0, .ref (ad 0)), (1, .int w)] := hl
  refine lv_iload_n S.1 S.2.1 dX2_count_0 rfl (lv_at hl 1 rfl) ?_
  refine lv_bipush (v := 12) S.1 S.2.1 dX2_count_1 (by decide) ?_
  refine aq_xcallSv (κ1 := aq_ixK w 12) (As := [.int w, .int 12]) (rest := []) S hT hlocks hout (c_X2_requireIndex l hlt (V := (aq_ug V 0 Q)) w 12) (va_cwS 2 S.2.2.2.2 gX2_count_X2_requireIndex rfl rfl rfl (by decide +kernel) ⟨Nat.le_of_ble_eq_true rfl, Nat.le_of_ble_eq_true rfl⟩)  I hl.1 dX2_count_3 rfl rfl (Nat.le_of_ble_eq_true rfl) ⟨by decide, by decide⟩ ⟨by decide, by decide⟩ (fun hz => by simp [aq_seq, hz]) (fun hκ1 H locs I => ?_)
  obtain ⟨k1, hk1, ek1⟩ := aq_ixK_ok (e := 12) (by omega) (show aq_ixK w (nI 12) = 0 from hκ1)
  subst ek1
  have nk1 : (nI k1).toNatClampNeg = k1 := nI_clamp (by omega)
  refine lv_aload_n S.1 S.2.1 dX2_count_6 rfl (lv_at hl 0 rfl) ?_
  refine aC_getX S I 0 (by decide) in_X2_count_X2 (List.mem_of_getElem? (i := 1) rfl) dX2_count_7 ?_
  refine lv_iload_n S.1 S.2.1 dX2_count_10 rfl (lv_at hl 1 rfl) ?_
  refine aq_callVi (As := [.int (nI k1)]) (rest := []) S (c_X0_countNumber l hJ (V := V) (Q := Q) (j := 0) (by decide) hn hn20 (w := k1) (by omega) ) (cwV 1 S.2.2.2.2 gX2_count_X0_countNumber rfl rfl rfl (by decide +kernel) ⟨Nat.le_of_ble_eq_true rfl, Nat.le_of_ble_eq_true rfl⟩) (aC_recvS (j := 0) I (by decide)) I hl.1 dX2_count_11 rfl rfl (Nat.le_of_ble_eq_true rfl) ⟨by first | decide | (dsimp only; omega), by first | decide | (dsimp only; omega)⟩ (fun H locs I => ?_)
  exact aq_xiret S.1 S.2.1 hr hlocks I dX2_count_14 (by decide) (by decide) (by simp [aq_seq, hκ1, nk1]) (by subst_vars; first | rfl | (simp only [nk1]; done) | (simp only [nk1]; rfl)) (by subst_vars; first | rfl | (simp only [nk1]; done) | (simp only [nk1]; rfl))
end
section
theorem in_X2_pass_X0 : ∀ w ∈ wsX00, w ∈ wsX2_pass := fun _ h => List.mem_cons_of_mem _ (List.mem_append_left _ (List.mem_append_left _ (List.mem_append_right _ h)))
theorem in_X2_pass_X2 : ∀ w ∈ wsX20, w ∈ wsX2_pass := fun _ h => List.mem_cons_of_mem _ (List.mem_append_left _ (List.mem_append_left _ (List.mem_append_left _ (List.mem_append_right _ h))))
set_option maxHeartbeats 4000000 in
set_option maxRecDepth 100000 in
/-- X2_pass -/
theorem c_X2_pass (l : Launch) (hlt : l.stackTraces = false) {D : va_G} {ad : Nat → Nat} {cI cQ : ClassId} (hJ : aq_J 49 ad) {V : aq_V} {Q : aq_Q} {n : Nat} (hn : Q 10 3 = nI n) (hn20 : n ≤ 20) {h : Nat} (hh : Q 10 4 = nI h) (h31 : h + 200 < 2 ^ 31) (z : Int32) : aq_MetX l yX2_pass wsX2_pass ({ frames := 7, cells := 1, slots := 6, locals := 134 }) D (aC_t cI cQ) 49 ad [.ref (ad 0), .int z] (aC_w ad cI cQ (aq_ug V 0 Q)) (aq_rgK z 1 100) (aq_QiX D (aC_t cI cQ) 49 ad (aq_rgK z 1 100) (aq_thi (aq_goQ n (V 2) z.toNatClampNeg Q) Q) (aC_w ad cI cQ (aq_ug V 0 (aq_goQ n (V 2) z.toNatClampNeg Q)))) 1 6 := by
  refine aq_enterX (cc := cX2_pass) (maxL := 3) (ret := some .int) (by decide) rfl (Nat.le_of_ble_eq_true rfl) ?_
  intro p e s m below meth c ls S hr hlocks hout hT I hl
  have S : CallFix p m c cX2_pass 3 s _ wsX2_pass RX2 := S
  have hl : lv_has ls 3 [(0, .ref (ad 0)), (1, .int z)] := hl
  refine lv_iload_n S.1 S.2.1 dX2_pass_0 rfl (lv_at hl 1 rfl) ?_
  refine lv_iconst (v := 1) S.1 S.2.1 dX2_pass_1 (by decide) ?_
  refine lv_bipush (v := 100) S.1 S.2.1 dX2_pass_2 (by decide) ?_
  refine aq_xcallSv (κ1 := aq_rgK z 1 100) (As := [.int z, .int 1, .int 100]) (rest := []) S hT hlocks hout (c_X2_requireRange l hlt (V := (aq_ug V 0 Q)) z 1 100) (va_cwS 3 S.2.2.2.2 gX2_pass_X2_requireRange rfl rfl rfl (by decide +kernel) ⟨Nat.le_of_ble_eq_true rfl, Nat.le_of_ble_eq_true rfl⟩)  I hl.1 dX2_pass_4 rfl rfl (Nat.le_of_ble_eq_true rfl) ⟨by decide, by decide⟩ ⟨by decide, by decide⟩ (fun hz => by simp [aq_seq, hz]) (fun hκ1 H locs I => ?_)
  obtain ⟨k1, hk1, gk1, ek1⟩ := aq_rgK_ok (a := 1) (b := 100) (by omega) (by omega) (show aq_rgK z (nI 1) (nI 100) = 0 from hκ1)
  subst ek1
  have nk1 : (nI k1).toNatClampNeg = k1 := nI_clamp (by omega)
  refine lv_aload_n S.1 S.2.1 dX2_pass_7 rfl (lv_at hl 0 rfl) ?_
  refine aC_getX S I 0 (by decide) in_X2_pass_X2 (List.mem_of_getElem? (i := 1) rfl) dX2_pass_8 ?_
  refine aC_getS (j := 0) (x := Q 10 12) S I (by decide) 12 (by decide) (by decide) in_X2_pass_X0 (List.mem_of_getElem? (i := 2) rfl) (by rw [aq_ug_s]) dX2_pass_11 ?_
  refine lv_istore_n (lv' := [(2, .int (Q 10 12)), (0, .ref (ad 0)), (1, .int (nI k1))]) S.1 S.2.1 dX2_pass_14 rfl hl (by decide) rfl (fun ls hl => ?_)
  refine lv_aload_n S.1 S.2.1 dX2_pass_15 rfl (lv_at hl 1 rfl) ?_
  refine aC_getX S I 0 (by decide) in_X2_pass_X2 (List.mem_of_getElem? (i := 1) rfl) dX2_pass_16 ?_
  refine lv_iload_n S.1 S.2.1 dX2_pass_19 rfl (lv_at hl 2 rfl) ?_
  refine aq_callVv (As := [.int (nI k1)]) (rest := []) S (c_X0_goOn l hJ (V := V) (Q := Q) (j := 0) (by decide) hn hn20 (T := (V 2)) rfl (h := h) (z := k1) hh (by omega)) (cwV 1 S.2.2.2.2 gX2_pass_X0_goOn rfl rfl rfl (by decide +kernel) ⟨Nat.le_of_ble_eq_true rfl, Nat.le_of_ble_eq_true rfl⟩) (aC_recvS (j := 0) I (by decide)) I hl.1 dX2_pass_20 rfl rfl (Nat.le_of_ble_eq_true rfl) ⟨by first | decide | (dsimp only; omega), by first | decide | (dsimp only; omega)⟩ (fun H locs I => ?_)
  obtain ⟨M2, hM2⟩ : ∃ z9 : aq_Q, z9 = aq_goQ n (V 2) k1 Q := ⟨_, rfl⟩
  rw [← hM2] at I
  refine lv_aload_n S.1 S.2.1 dX2_pass_23 rfl (lv_at hl 1 rfl) ?_
  refine aC_getX S I 0 (by decide) in_X2_pass_X2 (List.mem_of_getElem? (i := 1) rfl) dX2_pass_24 ?_
  refine aC_getS (j := 0) (x := M2 10 12) S I (by decide) 12 (by decide) (by decide) in_X2_pass_X0 (List.mem_of_getElem? (i := 2) rfl) (by rw [aq_ug_s]) dX2_pass_27 ?_
  refine lv_iload_n S.1 S.2.1 dX2_pass_30 rfl (lv_at hl 0 rfl) ?_
  refine lv_isub S.1 S.2.1 dX2_pass_31 ?_
  exact aq_xiret S.1 S.2.1 hr hlocks I dX2_pass_32 (by decide) (by decide) (by simp [aq_seq, hκ1, nk1]) (by subst_vars; first | rfl | (simp only [aq_thi, nk1]; done) | (simp only [aq_thi, nk1]; rfl)) (by subst_vars; first | rfl | (simp only [aq_thi, nk1]; done) | (simp only [aq_thi, nk1]; rfl))
theorem in_X2_foresee_X0 : ∀ w ∈ wsX00, w ∈ wsX2_foresee := fun _ h => List.mem_cons_of_mem _ (List.mem_append_left _ (List.mem_append_left _ (List.mem_append_left _ (List.mem_append_right _ h))))
theorem in_X2_foresee_X2 : ∀ w ∈ wsX20, w ∈ wsX2_foresee := fun _ h => List.mem_cons_of_mem _ (List.mem_append_left _ (List.mem_append_left _ (List.mem_append_left _ (List.mem_append_left _ (List.mem_append_right _ h)))))
set_option maxHeartbeats 4000000 in
set_option maxRecDepth 100000 in
/-- X2_foresee -/
theorem c_X2_foresee (l : Launch) (hlt : l.stackTraces = false) {D : va_G} {ad : Nat → Nat} {cI cQ : ClassId} (hJ : aq_J 49 ad) {V : aq_V} {Q Q1 : aq_Q} {n : Nat} (hn : Q 10 3 = nI n) (hn20 : n ≤ 20) {h : Nat} (hh : Q 10 4 = nI h) (h31 : h + 200 < 2 ^ 31) (z w : Int32) : aq_MetX l yX2_foresee wsX2_foresee ({ frames := 7, cells := 2, slots := 12, locals := 134 }) D (aC_t cI cQ) 49 ad [.ref (ad 0), .int z, .int w] (aC_w ad cI cQ (aq_ug (aq_ug V 0 Q) 1 Q1)) (aq_forK z w) (aq_QiX D (aC_t cI cQ) 49 ad (aq_forK z w) (aq_forR n (aq_goQ n (V 2) z.toNatClampNeg (aq_cpQ n Q Q1)) Q w.toNatClampNeg) (aC_w ad cI cQ (aq_ug (aq_ug (aq_tc V) 0 Q) 1 (aq_goQ n (V 2) z.toNatClampNeg (aq_cpQ n Q Q1))))) 2 12 := by
  refine aq_enterX (cc := cX2_foresee) (maxL := 3) (ret := some .int) (by decide) rfl (Nat.le_of_ble_eq_true rfl) ?_
  intro p e s m below meth c ls S hr hlocks hout hT I hl
  have S : CallFix p m c cX2_foresee 3 s _ wsX2_foresee RX2 := S
  have hl : lv_has ls 3 [(0, .ref (ad 0)), (1, .int z), (2, .int w)] := hl
  refine lv_iload_n S.1 S.2.1 dX2_foresee_0 rfl (lv_at hl 1 rfl) ?_
  refine lv_iconst (v := 1) S.1 S.2.1 dX2_foresee_1 (by decide) ?_
  refine lv_bipush (v := 100) S.1 S.2.1 dX2_foresee_2 (by decide) ?_
  refine aq_xcallSv (κ1 := aq_rgK z 1 100) (As := [.int z, .int 1, .int 100]) (rest := []) S hT hlocks hout (c_X2_requireRange l hlt (V := (aq_ug (aq_ug V 0 Q) 1 Q1)) z 1 100) (va_cwS 3 S.2.2.2.2 gX2_foresee_X2_requireRange rfl rfl rfl (by decide +kernel) ⟨Nat.le_of_ble_eq_true rfl, Nat.le_of_ble_eq_true rfl⟩)  I hl.1 dX2_foresee_4 rfl rfl (Nat.le_of_ble_eq_true rfl) ⟨by decide, by decide⟩ ⟨by decide, by decide⟩ (fun hz => by simp [aq_forK, aq_seq, hz]) (fun hκ1 H locs I => ?_)
  obtain ⟨k1, hk1, gk1, ek1⟩ := aq_rgK_ok (a := 1) (b := 100) (by omega) (by omega) (show aq_rgK z (nI 1) (nI 100) = 0 from hκ1)
  subst ek1
  have nk1 : (nI k1).toNatClampNeg = k1 := nI_clamp (by omega)
  refine lv_iload_n S.1 S.2.1 dX2_foresee_7 rfl (lv_at hl 2 rfl) ?_
  refine lv_iconst (v := 4) S.1 S.2.1 dX2_foresee_8 (by decide) ?_
  refine aq_xcallSv (κ1 := aq_ixK w 4) (As := [.int w, .int 4]) (rest := []) S hT hlocks hout (c_X2_requireIndex l hlt (V := (aq_ug (aq_ug V 0 Q) 1 Q1)) w 4) (va_cwS 2 S.2.2.2.2 gX2_foresee_X2_requireIndex rfl rfl rfl (by decide +kernel) ⟨Nat.le_of_ble_eq_true rfl, Nat.le_of_ble_eq_true rfl⟩)  I hl.1 dX2_foresee_9 rfl rfl (Nat.le_of_ble_eq_true rfl) ⟨by decide, by decide⟩ ⟨by decide, by decide⟩ (fun hz => by simp [aq_forK, aq_seq, hκ1, nk1, hz]) (fun hκ2 H locs I => ?_)
  obtain ⟨k2, hk2, ek2⟩ := aq_ixK_ok (e := 4) (by omega) (show aq_ixK w (nI 4) = 0 from hκ2)
  subst ek2
  have nk2 : (nI k2).toNatClampNeg = k2 := nI_clamp (by omega)
  refine lv_aload_n S.1 S.2.1 dX2_foresee_12 rfl (lv_at hl 0 rfl) ?_
  refine aC_getX S I 1 (by decide) in_X2_foresee_X2 (List.mem_of_getElem? (i := 1) rfl) dX2_foresee_13 ?_
  refine lv_aload_n S.1 S.2.1 dX2_foresee_16 rfl (lv_at hl 0 rfl) ?_
  refine aC_getX S I 0 (by decide) in_X2_foresee_X2 (List.mem_of_getElem? (i := 2) rfl) dX2_foresee_17 ?_
  refine aq_callVv (As := [.ref (ad 3)]) (rest := []) S (c_X0_copyFrom l hJ (V := V) (Q0 := Q) (Q1 := Q1) (n := n) hn hn20) (cwV 1 S.2.2.2.2 gX2_foresee_X0_copyFrom rfl rfl rfl (by decide +kernel) ⟨Nat.le_of_ble_eq_true rfl, Nat.le_of_ble_eq_true rfl⟩) (aC_recvS (j := 1) I (by decide)) I hl.1 dX2_foresee_20 rfl rfl (Nat.le_of_ble_eq_true rfl) ⟨by first | decide | (dsimp only; omega), by first | decide | (dsimp only; omega)⟩ (fun H locs I => ?_)
  obtain ⟨M3, hM3⟩ : ∃ z9 : aq_Q, z9 = aq_cpQ n Q Q1 := ⟨_, rfl⟩
  rw [← hM3] at I
  have hn_M3 : M3 10 3 = nI n := by rw [hM3]; exact aq_cpQ_n _ _ _
  have hh_M3 : M3 10 4 = nI h := by rw [hM3, aq_cpQ_h]; exact hh
  refine lv_aload_n S.1 S.2.1 dX2_foresee_23 rfl (lv_at hl 0 rfl) ?_
  refine aC_getX S I 1 (by decide) in_X2_foresee_X2 (List.mem_of_getElem? (i := 1) rfl) dX2_foresee_24 ?_
  refine lv_iload_n S.1 S.2.1 dX2_foresee_27 rfl (lv_at hl 1 rfl) ?_
  refine aq_callVv (As := [.int (nI k1)]) (rest := []) S (c_X0_goOn l hJ (V := (aq_ug (aq_tc V) 0 Q)) (Q := M3) (j := 1) (by decide) hn_M3 hn20 (T := (V 2)) (aq_tc_T V Q) (h := h) (z := k1) hh_M3 (by omega)) (cwV 1 S.2.2.2.2 gX2_foresee_X0_goOn rfl rfl rfl (by decide +kernel) ⟨Nat.le_of_ble_eq_true rfl, Nat.le_of_ble_eq_true rfl⟩) (aC_recvS (j := 1) I (by decide)) I hl.1 dX2_foresee_28 rfl rfl (Nat.le_of_ble_eq_true rfl) ⟨by first | decide | (dsimp only; omega), by first | decide | (dsimp only; omega)⟩ (fun H locs I => ?_)
  obtain ⟨M4, hM4⟩ : ∃ z9 : aq_Q, z9 = aq_goQ n (V 2) k1 M3 := ⟨_, rfl⟩
  rw [← hM4] at I
  refine lv_iload_n S.1 S.2.1 dX2_foresee_31 rfl (lv_at hl 2 rfl) ?_
  rcases (show k2 = 0 ∨ k2 = 1 ∨ k2 = 2 ∨ k2 = 3 by omega) with rfl | rfl | rfl | rfl
  · refine lv_tableIn (x := nI 0) (tgt := 60) S.1 S.2.1 dX2_foresee_32 (by decide) (by decide) rfl (by decide) ?_
    have hl : lv_has ls 3 [(0, .ref (ad 0)), (1, .int (nI k1)), (2, .int (nI 0))] := hl
    refine lv_aload_n S.1 S.2.1 dX2_foresee_60 rfl (lv_at hl 0 rfl) ?_
    refine aC_getX S I 1 (by decide) in_X2_foresee_X2 (List.mem_of_getElem? (i := 1) rfl) dX2_foresee_61 ?_
    refine aC_getS (j := 1) (x := M4 10 12) S I (by decide) 12 (by decide) (by decide) in_X2_foresee_X0 (List.mem_of_getElem? (i := 3) rfl) (by rw [aq_ug_s]) dX2_foresee_64 ?_
    refine lv_aload_n S.1 S.2.1 dX2_foresee_67 rfl (lv_at hl 0 rfl) ?_
    refine aC_getX S I 0 (by decide) in_X2_foresee_X2 (List.mem_of_getElem? (i := 2) rfl) dX2_foresee_68 ?_
    refine aC_getS (j := 0) (x := Q 10 12) S I (by decide) 12 (by decide) (by decide) in_X2_foresee_X0 (List.mem_of_getElem? (i := 3) rfl) (by rw [aq_ug_n _ _ (by decide), aq_ug_s]) dX2_foresee_71 ?_
    refine lv_isub S.1 S.2.1 dX2_foresee_74 ?_
    exact aq_xiret S.1 S.2.1 hr hlocks I dX2_foresee_75 (by decide) (by decide) (by simp [aq_forK, aq_seq, hκ1, hκ2, nk1, nk2]) (by subst_vars; first | rfl | (simp only [aq_forR, nk1, nk2]; done) | (simp only [aq_forR, nk1, nk2]; rfl)) (by subst_vars; first | rfl | (simp only [aq_forR, nk1, nk2]; done) | (simp only [aq_forR, nk1, nk2]; rfl))
  · refine lv_tableIn (x := nI 1) (tgt := 76) S.1 S.2.1 dX2_foresee_32 (by decide) (by decide) rfl (by decide) ?_
    have hl : lv_has ls 3 [(0, .ref (ad 0)), (1, .int (nI k1)), (2, .int (nI 1))] := hl
    refine lv_aload_n S.1 S.2.1 dX2_foresee_76 rfl (lv_at hl 0 rfl) ?_
    refine aC_getX S I 1 (by decide) in_X2_foresee_X2 (List.mem_of_getElem? (i := 1) rfl) dX2_foresee_77 ?_
    have hn_M4 : M4 10 3 = nI n := by rw [hM4]; exact (aq_goQ_n _ _ _ _).trans hn_M3
    refine aq_callVi (As := []) (rest := []) S (c_X0_leaked l hJ (V := (aq_ug (aq_tc V) 0 Q)) (Q := M4) (j := 1) (by decide) hn_M4 hn20  ) (cwV 0 S.2.2.2.2 gX2_foresee_X0_leaked rfl rfl rfl (by decide +kernel) ⟨Nat.le_of_ble_eq_true rfl, Nat.le_of_ble_eq_true rfl⟩) (aC_recvS (j := 1) I (by decide)) I hl.1 dX2_foresee_80 rfl rfl (Nat.le_of_ble_eq_true rfl) ⟨by first | decide | (dsimp only; omega), by first | decide | (dsimp only; omega)⟩ (fun H locs I => ?_)
    refine lv_aload_n S.1 S.2.1 dX2_foresee_83 rfl (lv_at hl 0 rfl) ?_
    refine aC_getX S I 0 (by decide) in_X2_foresee_X2 (List.mem_of_getElem? (i := 2) rfl) dX2_foresee_84 ?_
    rw [aq_ug_sw (aq_tc V) (show (0 : Nat) ≠ 1 by decide) Q M4] at I
    refine aq_callVi (As := []) (rest := [.int (aq_over n 5 M4)]) S (c_X0_leaked l hJ (V := (aq_ug (aq_tc V) 1 M4)) (Q := Q) (j := 0) (by decide) hn hn20  ) (cwV 0 S.2.2.2.2 gX2_foresee_X0_leaked rfl rfl rfl (by decide +kernel) ⟨Nat.le_of_ble_eq_true rfl, Nat.le_of_ble_eq_true rfl⟩) (aC_recvS (j := 0) I (by decide)) I hl.1 dX2_foresee_87 rfl rfl (Nat.le_of_ble_eq_true rfl) ⟨by first | decide | (dsimp only; omega), by first | decide | (dsimp only; omega)⟩ (fun H locs I => ?_)
    rw [← aq_ug_sw (aq_tc V) (show (0 : Nat) ≠ 1 by decide) Q M4] at I
    refine lv_isub S.1 S.2.1 dX2_foresee_90 ?_
    refine lv_topi (fun x5 (ex5 : x5 = aq_over n 5 M4 - aq_over n 5 Q) => ?_)
    exact aq_xiret S.1 S.2.1 hr hlocks I dX2_foresee_91 (by decide) (by decide) (by simp [aq_forK, aq_seq, hκ1, hκ2, nk1, nk2]) (by subst_vars; first | rfl | (simp only [aq_forR, nk1, nk2]; done) | (simp only [aq_forR, nk1, nk2]; rfl)) (by subst_vars; first | rfl | (simp only [aq_forR, nk1, nk2]; done) | (simp only [aq_forR, nk1, nk2]; rfl))
  · refine lv_tableIn (x := nI 2) (tgt := 92) S.1 S.2.1 dX2_foresee_32 (by decide) (by decide) rfl (by decide) ?_
    have hl : lv_has ls 3 [(0, .ref (ad 0)), (1, .int (nI k1)), (2, .int (nI 2))] := hl
    refine lv_aload_n S.1 S.2.1 dX2_foresee_92 rfl (lv_at hl 0 rfl) ?_
    refine aC_getX S I 1 (by decide) in_X2_foresee_X2 (List.mem_of_getElem? (i := 1) rfl) dX2_foresee_93 ?_
    refine aC_getS (j := 1) (x := M4 10 7) S I (by decide) 7 (by decide) (by decide) in_X2_foresee_X0 (List.mem_of_getElem? (i := 4) rfl) (by rw [aq_ug_s]) dX2_foresee_96 ?_
    exact aq_xiret S.1 S.2.1 hr hlocks I dX2_foresee_99 (by decide) (by decide) (by simp [aq_forK, aq_seq, hκ1, hκ2, nk1, nk2]) (by subst_vars; first | rfl | (simp only [aq_forR, nk1, nk2]; done) | (simp only [aq_forR, nk1, nk2]; rfl)) (by subst_vars; first | rfl | (simp only [aq_forR, nk1, nk2]; done) | (simp only [aq_forR, nk1, nk2]; rfl))
  · refine lv_tableOut (x := nI 3) (tgt := 100) S.1 S.2.1 dX2_foresee_32 (by decide) (by decide) ?_
    have hl : lv_has ls 3 [(0, .ref (ad 0)), (1, .int (nI k1)), (2, .int (nI 3))] := hl
    refine lv_aload_n S.1 S.2.1 dX2_foresee_100 rfl (lv_at hl 0 rfl) ?_
    refine aC_getX S I 1 (by decide) in_X2_foresee_X2 (List.mem_of_getElem? (i := 1) rfl) dX2_foresee_101 ?_
    have hn_M4 : M4 10 3 = nI n := by rw [hM4]; exact (aq_goQ_n _ _ _ _).trans hn_M3
    refine aq_callVi (As := []) (rest := []) S (c_X0_flour l hJ (V := (aq_ug (aq_tc V) 0 Q)) (Q := M4) (j := 1) (by decide) hn_M4 hn20  ) (cwV 0 S.2.2.2.2 gX2_foresee_X0_flour rfl rfl rfl (by decide +kernel) ⟨Nat.le_of_ble_eq_true rfl, Nat.le_of_ble_eq_true rfl⟩) (aC_recvS (j := 1) I (by decide)) I hl.1 dX2_foresee_104 rfl rfl (Nat.le_of_ble_eq_true rfl) ⟨by first | decide | (dsimp only; omega), by first | decide | (dsimp only; omega)⟩ (fun H locs I => ?_)
    refine lv_aload_n S.1 S.2.1 dX2_foresee_107 rfl (lv_at hl 0 rfl) ?_
    refine aC_getX S I 0 (by decide) in_X2_foresee_X2 (List.mem_of_getElem? (i := 2) rfl) dX2_foresee_108 ?_
    rw [aq_ug_sw (aq_tc V) (show (0 : Nat) ≠ 1 by decide) Q M4] at I
    refine aq_callVi (As := []) (rest := [.int (aq_over n 8 M4)]) S (c_X0_flour l hJ (V := (aq_ug (aq_tc V) 1 M4)) (Q := Q) (j := 0) (by decide) hn hn20  ) (cwV 0 S.2.2.2.2 gX2_foresee_X0_flour rfl rfl rfl (by decide +kernel) ⟨Nat.le_of_ble_eq_true rfl, Nat.le_of_ble_eq_true rfl⟩) (aC_recvS (j := 0) I (by decide)) I hl.1 dX2_foresee_111 rfl rfl (Nat.le_of_ble_eq_true rfl) ⟨by first | decide | (dsimp only; omega), by first | decide | (dsimp only; omega)⟩ (fun H locs I => ?_)
    rw [← aq_ug_sw (aq_tc V) (show (0 : Nat) ≠ 1 by decide) Q M4] at I
    refine lv_isub S.1 S.2.1 dX2_foresee_114 ?_
    refine lv_topi (fun x6 (ex6 : x6 = aq_over n 8 M4 - aq_over n 8 Q) => ?_)
    exact aq_xiret S.1 S.2.1 hr hlocks I dX2_foresee_115 (by decide) (by decide) (by simp [aq_forK, aq_seq, hκ1, hκ2, nk1, nk2]) (by subst_vars; first | rfl | (simp only [aq_forR, nk1, nk2]; done) | (simp only [aq_forR, nk1, nk2]; rfl)) (by subst_vars; first | rfl | (simp only [aq_forR, nk1, nk2]; done) | (simp only [aq_forR, nk1, nk2]; rfl))
theorem in_X2_twc0_X0 : ∀ w ∈ wsX00, w ∈ wsX2_thirstWithClosed := fun _ h => List.mem_cons_of_mem _ (List.mem_append_left _ (List.mem_append_right _ h))
theorem in_X2_twc0_X2 : ∀ w ∈ wsX20, w ∈ wsX2_thirstWithClosed := fun _ h => List.mem_cons_of_mem _ (List.mem_append_left _ (List.mem_append_left _ (List.mem_append_right _ h)))
set_option maxHeartbeats 4000000 in
set_option maxRecDepth 100000 in
/-- X2_thirstWithClosed -/
theorem c_X2_twc0 (l : Launch) {D : va_G} {ad : Nat → Nat} {cI cQ : ClassId} (hJ : aq_J 49 ad) {V : aq_V} {Q Q1 : aq_Q} {n : Nat} (hn : Q 10 3 = nI n) (hn20 : n ≤ 20) {h : Nat} (hh : Q 10 4 = nI h) (h31 : h + 200 < 2 ^ 31) {T : aq_Q} (hT : V 2 = T) {z : Nat} (hz : z ≤ 100) : aq_Met l yX2_thirstWithClosed wsX2_thirstWithClosed ({ frames := 6, cells := 0, slots := 0, locals := 134 }) D (aC_t cI cQ) 49 ad [.ref (ad 0), .int ((-1)), .int (nI z)] (aC_w ad cI cQ (aq_ug (aq_ug V 0 Q) 1 Q1)) (aq_Qi D (aC_t cI cQ) 49 ad (aq_thi (aq_tw0 n T z Q Q1) Q) (aC_w ad cI cQ (aq_ug (aq_ug (aq_tc V) 0 Q) 1 (aq_tw0 n T z Q Q1)))) 0 0 := by
  refine aq_enter (cc := cX2_thirstWithClosed) (maxL := 3) (ret := some .int) (by decide) rfl (Nat.le_of_ble_eq_true rfl) ?_
  intro p e s m below meth c ls S hr hlocks hnm I hl
  have S : CallFix p m c cX2_thirstWithClosed 3 s _ wsX2_thirstWithClosed RX2 := S
  have hl : lv_has ls 3 [(0, .ref (ad 0)), (1, .int ((-1))), (2, .int (nI z))] := hl
  refine lv_aload_n S.1 S.2.1 dX2_thirstWithClosed_0 rfl (lv_at hl 0 rfl) ?_
  refine aC_getX S I 1 (by decide) in_X2_twc0_X2 (List.mem_of_getElem? (i := 1) rfl) dX2_thirstWithClosed_1 ?_
  refine lv_aload_n S.1 S.2.1 dX2_thirstWithClosed_4 rfl (lv_at hl 0 rfl) ?_
  refine aC_getX S I 0 (by decide) in_X2_twc0_X2 (List.mem_of_getElem? (i := 2) rfl) dX2_thirstWithClosed_5 ?_
  refine aq_callVv (As := [.ref (ad 3)]) (rest := []) S (c_X0_copyFrom l hJ (V := V) (Q0 := Q) (Q1 := Q1) (n := n) hn hn20) (cwV 1 S.2.2.2.2 gX2_thirstWithClosed_X0_copyFrom rfl rfl rfl (by decide +kernel) ⟨Nat.le_of_ble_eq_true rfl, Nat.le_of_ble_eq_true rfl⟩) (aC_recvS (j := 1) I (by decide)) I hl.1 dX2_thirstWithClosed_8 rfl rfl (Nat.le_of_ble_eq_true rfl) ⟨by first | decide | (dsimp only; omega), by first | decide | (dsimp only; omega)⟩ (fun H locs I => ?_)
  obtain ⟨M1, hM1⟩ : ∃ z9 : aq_Q, z9 = aq_cpQ n Q Q1 := ⟨_, rfl⟩
  rw [← hM1] at I
  have hn_M1 : M1 10 3 = nI n := by rw [hM1]; exact aq_cpQ_n _ _ _
  have hh_M1 : M1 10 4 = nI h := by rw [hM1, aq_cpQ_h]; exact hh
  refine lv_iload_n S.1 S.2.1 dX2_thirstWithClosed_11 rfl (lv_at hl 1 rfl) ?_
  refine lv_if_lt (tgt := 38) S.1 S.2.1 dX2_thirstWithClosed_12 (by decide) (fun c2 => ?_) (fun c2 => ?_)
  · refine lv_aload_n S.1 S.2.1 dX2_thirstWithClosed_38 rfl (lv_at hl 0 rfl) ?_
    refine aC_getX S I 1 (by decide) in_X2_twc0_X2 (List.mem_of_getElem? (i := 1) rfl) dX2_thirstWithClosed_39 ?_
    refine lv_iload_n S.1 S.2.1 dX2_thirstWithClosed_42 rfl (lv_at hl 2 rfl) ?_
    refine aq_callVv (As := [.int (nI z)]) (rest := []) S (c_X0_goOn l hJ (V := (aq_ug (aq_tc V) 0 Q)) (Q := M1) (j := 1) (by decide) hn_M1 hn20 (T := T) ((aq_tc_T V Q).trans hT) (h := h) (z := z) hh_M1 (by omega)) (cwV 1 S.2.2.2.2 gX2_thirstWithClosed_X0_goOn rfl rfl rfl (by decide +kernel) ⟨Nat.le_of_ble_eq_true rfl, Nat.le_of_ble_eq_true rfl⟩) (aC_recvS (j := 1) I (by decide)) I hl.1 dX2_thirstWithClosed_43 rfl rfl (Nat.le_of_ble_eq_true rfl) ⟨by first | decide | (dsimp only; omega), by first | decide | (dsimp only; omega)⟩ (fun H locs I => ?_)
    obtain ⟨M3, hM3⟩ : ∃ z9 : aq_Q, z9 = aq_goQ n T z M1 := ⟨_, rfl⟩
    rw [← hM3] at I
    refine lv_aload_n S.1 S.2.1 dX2_thirstWithClosed_46 rfl (lv_at hl 0 rfl) ?_
    refine aC_getX S I 1 (by decide) in_X2_twc0_X2 (List.mem_of_getElem? (i := 1) rfl) dX2_thirstWithClosed_47 ?_
    refine aC_getS (j := 1) (x := M3 10 12) S I (by decide) 12 (by decide) (by decide) in_X2_twc0_X0 (List.mem_of_getElem? (i := 5) rfl) (by rw [aq_ug_s]) dX2_thirstWithClosed_50 ?_
    refine lv_aload_n S.1 S.2.1 dX2_thirstWithClosed_53 rfl (lv_at hl 0 rfl) ?_
    refine aC_getX S I 0 (by decide) in_X2_twc0_X2 (List.mem_of_getElem? (i := 2) rfl) dX2_thirstWithClosed_54 ?_
    refine aC_getS (j := 0) (x := Q 10 12) S I (by decide) 12 (by decide) (by decide) in_X2_twc0_X0 (List.mem_of_getElem? (i := 5) rfl) (by rw [aq_ug_n _ _ (by decide), aq_ug_s]) dX2_thirstWithClosed_57 ?_
    refine lv_isub S.1 S.2.1 dX2_thirstWithClosed_60 ?_
    exact aq_iret S.1 S.2.1 hr hlocks I dX2_thirstWithClosed_61 (by decide) (by decide) (by subst_vars; first | rfl | (simp only [if_pos c2]; done) | (simp only [if_pos c2]; rfl)) (by subst_vars; first | rfl | (simp only [if_pos c2]; done) | (simp only [if_pos c2]; rfl))
  · exact absurd (by decide) c2
theorem in_X2_twc_X0 : ∀ w ∈ wsX00, w ∈ wsX2_thirstWithClosed := fun _ h => List.mem_cons_of_mem _ (List.mem_append_left _ (List.mem_append_right _ h))
theorem in_X2_twc_X1 : ∀ w ∈ wsX10, w ∈ wsX2_thirstWithClosed := fun _ h => List.mem_cons_of_mem _ (List.mem_append_right _ h)
theorem in_X2_twc_X2 : ∀ w ∈ wsX20, w ∈ wsX2_thirstWithClosed := fun _ h => List.mem_cons_of_mem _ (List.mem_append_left _ (List.mem_append_left _ (List.mem_append_right _ h)))
set_option maxHeartbeats 4000000 in
set_option maxRecDepth 100000 in
/-- X2_thirstWithClosed -/
theorem c_X2_twc (l : Launch) {D : va_G} {ad : Nat → Nat} {cI cQ : ClassId} (hJ : aq_J 49 ad) {V : aq_V} {Q Q1 : aq_Q} {n : Nat} (hn : Q 10 3 = nI n) (hn20 : n ≤ 20) {h : Nat} (hh : Q 10 4 = nI h) (h31 : h + 200 < 2 ^ 31) {T : aq_Q} (hT : V 2 = T) {a z : Nat} (ha : a < n) (hz : z ≤ 100) : aq_Met l yX2_thirstWithClosed wsX2_thirstWithClosed ({ frames := 6, cells := 0, slots := 0, locals := 134 }) D (aC_t cI cQ) 49 ad [.ref (ad 0), .int (nI a), .int (nI z)] (aC_w ad cI cQ (aq_ug (aq_ug V 0 Q) 1 Q1)) (aq_Qi D (aC_t cI cQ) 49 ad (aq_thi (aq_tw n T z Q Q1 a) Q) (aC_w ad cI cQ (aq_ug (aq_ug (aq_tc V) 0 Q) 1 (aq_tw n T z Q Q1 a)))) 0 0 := by
  refine aq_enter (cc := cX2_thirstWithClosed) (maxL := 3) (ret := some .int) (by decide) rfl (Nat.le_of_ble_eq_true rfl) ?_
  intro p e s m below meth c ls S hr hlocks hnm I hl
  have S : CallFix p m c cX2_thirstWithClosed 3 s _ wsX2_thirstWithClosed RX2 := S
  have hl : lv_has ls 3 [(0, .ref (ad 0)), (1, .int (nI a)), (2, .int (nI z))] := hl
  refine lv_aload_n S.1 S.2.1 dX2_thirstWithClosed_0 rfl (lv_at hl 0 rfl) ?_
  refine aC_getX S I 1 (by decide) in_X2_twc_X2 (List.mem_of_getElem? (i := 1) rfl) dX2_thirstWithClosed_1 ?_
  refine lv_aload_n S.1 S.2.1 dX2_thirstWithClosed_4 rfl (lv_at hl 0 rfl) ?_
  refine aC_getX S I 0 (by decide) in_X2_twc_X2 (List.mem_of_getElem? (i := 2) rfl) dX2_thirstWithClosed_5 ?_
  refine aq_callVv (As := [.ref (ad 3)]) (rest := []) S (c_X0_copyFrom l hJ (V := V) (Q0 := Q) (Q1 := Q1) (n := n) hn hn20) (cwV 1 S.2.2.2.2 gX2_thirstWithClosed_X0_copyFrom rfl rfl rfl (by decide +kernel) ⟨Nat.le_of_ble_eq_true rfl, Nat.le_of_ble_eq_true rfl⟩) (aC_recvS (j := 1) I (by decide)) I hl.1 dX2_thirstWithClosed_8 rfl rfl (Nat.le_of_ble_eq_true rfl) ⟨by first | decide | (dsimp only; omega), by first | decide | (dsimp only; omega)⟩ (fun H locs I => ?_)
  obtain ⟨M1, hM1⟩ : ∃ z9 : aq_Q, z9 = aq_cpQ n Q Q1 := ⟨_, rfl⟩
  rw [← hM1] at I
  have hn_M1 : M1 10 3 = nI n := by rw [hM1]; exact aq_cpQ_n _ _ _
  have hh_M1 : M1 10 4 = nI h := by rw [hM1, aq_cpQ_h]; exact hh
  refine lv_iload_n S.1 S.2.1 dX2_thirstWithClosed_11 rfl (lv_at hl 1 rfl) ?_
  refine lv_if_lt (tgt := 38) S.1 S.2.1 dX2_thirstWithClosed_12 (by decide) (fun c2 => ?_) (fun c2 => ?_)
  · have c2 : a < 0 := (nI_ltI (a := a) (b := 0) (by omega) (by omega)).mp c2
    exfalso; omega
  · have c2 : 0 ≤ a := Nat.le_of_not_lt (fun z9 => c2 ((nI_ltI (a := a) (b := 0) (by omega) (by omega)).mpr z9))
    refine lv_iload_n S.1 S.2.1 dX2_thirstWithClosed_15 rfl (lv_at hl 1 rfl) ?_
    refine lv_aload_n S.1 S.2.1 dX2_thirstWithClosed_16 rfl (lv_at hl 0 rfl) ?_
    refine aC_getX S I 1 (by decide) in_X2_twc_X2 (List.mem_of_getElem? (i := 1) rfl) dX2_thirstWithClosed_17 ?_
    refine aC_getS (j := 1) (x := nI n) S I (by decide) 3 (by decide) (by decide) in_X2_twc_X0 (List.mem_of_getElem? (i := 3) rfl) (by rw [aq_ug_s]; exact hn_M1) dX2_thirstWithClosed_20 ?_
    refine lv_icmp_ge (tgt := 38) S.1 S.2.1 dX2_thirstWithClosed_23 (by decide) (fun c3 => ?_) (fun c3 => ?_)
    · have c3 : n ≤ a := (nI_leI (a := n) (b := a) (by omega) (by omega)).mp c3
      exfalso; omega
    · have c3 : a < n := Nat.lt_of_not_le (fun z9 => c3 ((nI_leI (a := n) (b := a) (by omega) (by omega)).mpr z9))
      refine lv_aload_n S.1 S.2.1 dX2_thirstWithClosed_26 rfl (lv_at hl 0 rfl) ?_
      refine aC_getX S I 1 (by decide) in_X2_twc_X2 (List.mem_of_getElem? (i := 1) rfl) dX2_thirstWithClosed_27 ?_
      refine lv_iload_n S.1 S.2.1 dX2_thirstWithClosed_30 rfl (lv_at hl 1 rfl) ?_
      refine aq_callVr (As := [.int (nI a)]) (rest := []) S (c_X0_archAt l hJ (V := (aq_ug (aq_tc V) 0 Q)) (Q := M1) (j := 1) (by decide)  (a := a) (by omega) ) (cwV 1 S.2.2.2.2 gX2_thirstWithClosed_X0_archAt rfl rfl rfl (by decide +kernel) ⟨Nat.le_of_ble_eq_true rfl, Nat.le_of_ble_eq_true rfl⟩) (aC_recvS (j := 1) I (by decide)) I hl.1 dX2_thirstWithClosed_31 rfl rfl (Nat.le_of_ble_eq_true rfl) ⟨by first | decide | (dsimp only; omega), by first | decide | (dsimp only; omega)⟩ (fun H locs I => ?_)
      refine lv_iconst (v := 0) S.1 S.2.1 dX2_thirstWithClosed_34 (by decide) ?_
      refine aC_putA (V := (aq_ug (aq_tc V) 0 Q)) (Q := M1) (j := 1) (i := a) (x := 0) hJ S I (by decide) (by omega) 7 (by decide) in_X2_twc_X1 (List.mem_of_getElem? (i := 4) rfl) dX2_thirstWithClosed_35 (fun H locs M4 hM4 I => ?_)
      refine lv_aload_n S.1 S.2.1 dX2_thirstWithClosed_38 rfl (lv_at hl 0 rfl) ?_
      refine aC_getX S I 1 (by decide) in_X2_twc_X2 (List.mem_of_getElem? (i := 1) rfl) dX2_thirstWithClosed_39 ?_
      refine lv_iload_n S.1 S.2.1 dX2_thirstWithClosed_42 rfl (lv_at hl 2 rfl) ?_
      have hn_M4 : M4 10 3 = nI n := by rw [hM4]; exact (aq_up_f _ _ (by decide)).trans hn_M1
      have hh_M4 : M4 10 4 = nI h := by rw [hM4]; exact (aq_up_f _ _ (by decide)).trans hh_M1
      refine aq_callVv (As := [.int (nI z)]) (rest := []) S (c_X0_goOn l hJ (V := (aq_ug (aq_tc V) 0 Q)) (Q := M4) (j := 1) (by decide) hn_M4 hn20 (T := T) ((aq_tc_T V Q).trans hT) (h := h) (z := z) hh_M4 (by omega)) (cwV 1 S.2.2.2.2 gX2_thirstWithClosed_X0_goOn rfl rfl rfl (by decide +kernel) ⟨Nat.le_of_ble_eq_true rfl, Nat.le_of_ble_eq_true rfl⟩) (aC_recvS (j := 1) I (by decide)) I hl.1 dX2_thirstWithClosed_43 rfl rfl (Nat.le_of_ble_eq_true rfl) ⟨by first | decide | (dsimp only; omega), by first | decide | (dsimp only; omega)⟩ (fun H locs I => ?_)
      obtain ⟨M5, hM5⟩ : ∃ z9 : aq_Q, z9 = aq_goQ n T z M4 := ⟨_, rfl⟩
      rw [← hM5] at I
      refine lv_aload_n S.1 S.2.1 dX2_thirstWithClosed_46 rfl (lv_at hl 0 rfl) ?_
      refine aC_getX S I 1 (by decide) in_X2_twc_X2 (List.mem_of_getElem? (i := 1) rfl) dX2_thirstWithClosed_47 ?_
      refine aC_getS (j := 1) (x := M5 10 12) S I (by decide) 12 (by decide) (by decide) in_X2_twc_X0 (List.mem_of_getElem? (i := 5) rfl) (by rw [aq_ug_s]) dX2_thirstWithClosed_50 ?_
      refine lv_aload_n S.1 S.2.1 dX2_thirstWithClosed_53 rfl (lv_at hl 0 rfl) ?_
      refine aC_getX S I 0 (by decide) in_X2_twc_X2 (List.mem_of_getElem? (i := 2) rfl) dX2_thirstWithClosed_54 ?_
      refine aC_getS (j := 0) (x := Q 10 12) S I (by decide) 12 (by decide) (by decide) in_X2_twc_X0 (List.mem_of_getElem? (i := 5) rfl) (by rw [aq_ug_n _ _ (by decide), aq_ug_s]) dX2_thirstWithClosed_57 ?_
      refine lv_isub S.1 S.2.1 dX2_thirstWithClosed_60 ?_
      exact aq_iret S.1 S.2.1 hr hlocks I dX2_thirstWithClosed_61 (by decide) (by decide) (by subst_vars; first | rfl | (simp only [if_neg (Nat.not_lt.mpr c2), if_pos c3]; done) | (simp only [if_neg (Nat.not_lt.mpr c2), if_pos c3]; rfl)) (by subst_vars; first | rfl | (simp only [if_neg (Nat.not_lt.mpr c2), if_pos c3]; done) | (simp only [if_neg (Nat.not_lt.mpr c2), if_pos c3]; rfl))
theorem in_X2_advise_X0 : ∀ w ∈ wsX00, w ∈ wsX2_advise := fun _ h => List.mem_cons_of_mem _ (List.mem_append_left _ (List.mem_append_left _ (List.mem_append_right _ h)))
theorem in_X2_advise_X2 : ∀ w ∈ wsX20, w ∈ wsX2_advise := fun _ h => List.mem_cons_of_mem _ (List.mem_append_left _ (List.mem_append_left _ (List.mem_append_left _ (List.mem_append_right _ h))))
set_option maxHeartbeats 4000000 in
set_option maxRecDepth 100000 in
/-- X2_advise -/
theorem c_X2_advise (l : Launch) (hlt : l.stackTraces = false) {D : va_G} {ad : Nat → Nat} {cI cQ : ClassId} (hJ : aq_J 49 ad) {V : aq_V} {Q Q1 : aq_Q} {n : Nat} (hn : Q 10 3 = nI n) (hn20 : n ≤ 20) {h : Nat} (hh : Q 10 4 = nI h) (h31 : h + 200 < 2 ^ 31) (z : Int32) : aq_MetX l yX2_advise wsX2_advise ({ frames := 7, cells := 1, slots := 6, locals := 156 }) D (aC_t cI cQ) 49 ad [.ref (ad 0), .int z] (aC_w ad cI cQ (aq_ug (aq_ug V 0 Q) 1 Q1)) (aq_rgK z 1 48) (aq_QiX D (aC_t cI cQ) 49 ad (aq_rgK z 1 48) (aq_adviseR n (V 2) z.toNatClampNeg Q Q1) (aC_w ad cI cQ (aq_ug (aq_ug (aq_tc V) 0 Q) 1 (aq_adviseQ n (V 2) z.toNatClampNeg Q Q1)))) 1 6 := by
  refine aq_enterX (cc := cX2_advise) (maxL := 6) (ret := some .int) (by decide) rfl (Nat.le_of_ble_eq_true rfl) ?_
  intro p e s m below meth c ls S hr hlocks hout hT I hl
  have S : CallFix p m c cX2_advise 6 s _ wsX2_advise RX2 := S
  have hl : lv_has ls 6 [(0, .ref (ad 0)), (1, .int z)] := hl
  refine lv_iload_n S.1 S.2.1 dX2_advise_0 rfl (lv_at hl 1 rfl) ?_
  refine lv_iconst (v := 1) S.1 S.2.1 dX2_advise_1 (by decide) ?_
  refine lv_bipush (v := 48) S.1 S.2.1 dX2_advise_2 (by decide) ?_
  refine aq_xcallSv (κ1 := aq_rgK z 1 48) (As := [.int z, .int 1, .int 48]) (rest := []) S hT hlocks hout (c_X2_requireRange l hlt (V := (aq_ug (aq_ug V 0 Q) 1 Q1)) z 1 48) (va_cwS 3 S.2.2.2.2 gX2_advise_X2_requireRange rfl rfl rfl (by decide +kernel) ⟨Nat.le_of_ble_eq_true rfl, Nat.le_of_ble_eq_true rfl⟩)  I hl.1 dX2_advise_4 rfl rfl (Nat.le_of_ble_eq_true rfl) ⟨by decide, by decide⟩ ⟨by decide, by decide⟩ (fun hz => by simp [aq_seq, hz]) (fun hκ1 H locs I => ?_)
  obtain ⟨k1, hk1, gk1, ek1⟩ := aq_rgK_ok (a := 1) (b := 48) (by omega) (by omega) (show aq_rgK z (nI 1) (nI 48) = 0 from hκ1)
  subst ek1
  have nk1 : (nI k1).toNatClampNeg = k1 := nI_clamp (by omega)
  refine lv_iconst (v := (-1)) S.1 S.2.1 dX2_advise_7 (by decide) ?_
  refine lv_istore_n (lv' := [(2, .int ((-1))), (0, .ref (ad 0)), (1, .int (nI k1))]) S.1 S.2.1 dX2_advise_8 rfl hl (by decide) rfl (fun ls hl => ?_)
  refine lv_aload_n S.1 S.2.1 dX2_advise_9 rfl (lv_at hl 1 rfl) ?_
  refine lv_iconst (v := (-1)) S.1 S.2.1 dX2_advise_10 (by decide) ?_
  refine lv_iload_n S.1 S.2.1 dX2_advise_11 rfl (lv_at hl 2 rfl) ?_
  refine aq_callVi (As := [.int ((-1)), .int (nI k1)]) (rest := []) S (c_X2_twc0 l hJ (V := V) (Q := Q) (Q1 := Q1) (n := n) hn hn20 (h := h) hh h31 (T := V 2) rfl (z := k1) (by omega)) (cwV 2 S.2.2.2.2 gX2_advise_X2_thirstWithClosed rfl rfl rfl (by decide +kernel) ⟨Nat.le_of_ble_eq_true rfl, Nat.le_of_ble_eq_true rfl⟩) (aC_recvX I) I hl.1 dX2_advise_12 rfl rfl (Nat.le_of_ble_eq_true rfl) ⟨by first | decide | (dsimp only; omega), by first | decide | (dsimp only; omega)⟩ (fun H locs I => ?_)
  obtain ⟨M2, hM2⟩ : ∃ z9 : aq_Q, z9 = aq_tw0 n (V 2) k1 Q Q1 := ⟨_, rfl⟩
  rw [← hM2] at I
  refine lv_topi (fun x3 (ex3 : x3 = aq_thi (aq_tw0 n (V 2) k1 Q Q1) Q) => ?_)
  refine lv_istore_n (lv' := [(3, .int x3), (2, .int ((-1))), (0, .ref (ad 0)), (1, .int (nI k1))]) S.1 S.2.1 dX2_advise_15 rfl hl (by decide) rfl (fun ls hl => ?_)
  refine lv_iconst (v := 0) S.1 S.2.1 dX2_advise_16 (by decide) ?_
  refine lv_istore (lv' := [(4, .int 0), (3, .int x3), (2, .int ((-1))), (0, .ref (ad 0)), (1, .int (nI k1))]) S.1 S.2.1 dX2_advise_17 hl (by decide) rfl (fun ls hl => ?_)
  have L19 : ∀ (k : Nat) (i : Nat) (b x : Int32) (Q' : aq_Q), (i + k = n) → (aq_advR n (V 2) k1 Q k i b x Q' = aq_adviseR n (V 2) (nI k1).toNatClampNeg Q Q1) → (aq_advQ n (V 2) k1 Q k i b x Q' = aq_adviseQ n (V 2) (nI k1).toNatClampNeg Q Q1) → ∀ (H : Heap) (locs : List Loc), aq_I D (aC_t cI cQ) (aq_A 49 ad) (aC_w ad cI cQ (aq_ug (aq_ug (aq_tc V) 0 Q) 1 (Q'))) s H locs → ∀ ls : Array Slot, lv_has ls 6 [(4, .int (nI i)), (3, .int x), (2, .int b), (0, .ref (ad 0)), (1, .int (nI k1))] → W p l e ({ frames := 7, cells := 1, slots := 6, locals := 156 } : Room) s m (([.ref (ad 0), .int (nI k1)] : List Value).toArray) below meth c H locs 1 6 (vx_MQ below ((aq_QiX D (aC_t cI cQ) 49 ad (aq_rgK (nI k1) 1 48) (aq_adviseR n (V 2) (nI k1).toNatClampNeg Q Q1) (aC_w ad cI cQ (aq_ug (aq_ug (aq_tc V) 0 Q) 1 (aq_adviseQ n (V 2) (nI k1).toNatClampNeg Q Q1)))) s.heap.size) (aq_XC D (aC_t cI cQ) 49 ad (aq_rgK (nI k1) 1 48) (aC_w ad cI cQ (aq_ug (aq_ug V 0 Q) 1 Q1)) s.heap.size) (([.ref (ad 0), .int (nI k1)] : List Value).toArray) s 1 6 (aq_A 49 ad s.heap.size)) (F0 m 19 ls []) := by
    intro k
    induction k with
    | zero =>
      intro i b x Q' hk hqr hqq H locs I ls hl
      refine lv_iload S.1 S.2.1 dX2_advise_19 (lv_at hl 0 rfl) ?_
      refine lv_aload_n S.1 S.2.1 dX2_advise_21 rfl (lv_at hl 3 rfl) ?_
      refine aC_getX S I 0 (by decide) in_X2_advise_X2 (List.mem_of_getElem? (i := 1) rfl) dX2_advise_22 ?_
      refine aC_getS (j := 0) (x := nI n) S I (by decide) 3 (by decide) (by decide) in_X2_advise_X0 (List.mem_of_getElem? (i := 2) rfl) (by rw [aq_ug_n _ _ (by decide), aq_ug_s]; exact hn) dX2_advise_25 ?_
      refine lv_icmp_ge (tgt := 73) S.1 S.2.1 dX2_advise_28 (by decide) (fun c4 => ?_) (fun c4 => ?_)
      · have c4 : n ≤ i := (nI_leI (a := n) (b := i) (by omega) (by omega)).mp c4
        refine lv_iload_n S.1 S.2.1 dX2_advise_73 rfl (lv_at hl 2 rfl) ?_
        exact aq_xiret S.1 S.2.1 hr hlocks I dX2_advise_74 (by decide) (by decide) (by simp [aq_seq, hκ1, nk1]) hqr (congrArg (fun z9 => aC_w ad cI cQ (aq_ug (aq_ug (aq_tc V) 0 Q) 1 z9)) hqq)
      · have c4 : i < n := Nat.lt_of_not_le (fun z9 => c4 ((nI_leI (a := n) (b := i) (by omega) (by omega)).mpr z9))
        exfalso; omega
    | succ k ih =>
      intro i b x Q' hk hqr hqq H locs I ls hl
      refine lv_iload S.1 S.2.1 dX2_advise_19 (lv_at hl 0 rfl) ?_
      refine lv_aload_n S.1 S.2.1 dX2_advise_21 rfl (lv_at hl 3 rfl) ?_
      refine aC_getX S I 0 (by decide) in_X2_advise_X2 (List.mem_of_getElem? (i := 1) rfl) dX2_advise_22 ?_
      refine aC_getS (j := 0) (x := nI n) S I (by decide) 3 (by decide) (by decide) in_X2_advise_X0 (List.mem_of_getElem? (i := 2) rfl) (by rw [aq_ug_n _ _ (by decide), aq_ug_s]; exact hn) dX2_advise_25 ?_
      refine lv_icmp_ge (tgt := 73) S.1 S.2.1 dX2_advise_28 (by decide) (fun c5 => ?_) (fun c5 => ?_)
      · have c5 : n ≤ i := (nI_leI (a := n) (b := i) (by omega) (by omega)).mp c5
        exfalso; omega
      · have c5 : i < n := Nat.lt_of_not_le (fun z9 => c5 ((nI_leI (a := n) (b := i) (by omega) (by omega)).mpr z9))
        refine lv_aload_n S.1 S.2.1 dX2_advise_31 rfl (lv_at hl 3 rfl) ?_
        refine aC_getX S I 0 (by decide) in_X2_advise_X2 (List.mem_of_getElem? (i := 1) rfl) dX2_advise_32 ?_
        refine lv_iload S.1 S.2.1 dX2_advise_35 (lv_at hl 0 rfl) ?_
        rw [aq_ug_sw (aq_tc V) (show (0 : Nat) ≠ 1 by decide) Q Q'] at I
        refine aq_callVr (As := [.int (nI i)]) (rest := []) S (c_X0_archAt l hJ (V := (aq_ug (aq_tc V) 1 (Q'))) (Q := Q) (j := 0) (by decide)  (a := i) (by omega) ) (cwV 1 S.2.2.2.2 gX2_advise_X0_archAt rfl rfl rfl (by decide +kernel) ⟨Nat.le_of_ble_eq_true rfl, Nat.le_of_ble_eq_true rfl⟩) (aC_recvS (j := 0) I (by decide)) I hl.1 dX2_advise_37 rfl rfl (Nat.le_of_ble_eq_true rfl) ⟨by first | decide | (dsimp only; omega), by first | decide | (dsimp only; omega)⟩ (fun H locs I => ?_)
        rw [← aq_ug_sw (aq_tc V) (show (0 : Nat) ≠ 1 by decide) Q Q'] at I
        rw [aq_ug_sw (aq_tc V) (show (0 : Nat) ≠ 1 by decide) Q Q'] at I
        refine aq_callVi (As := []) (rest := []) S (c_X1_hasOpenSluice l hJ (V := (aq_ug (aq_tc V) 1 (Q'))) (Q := Q) (j := 0) (i := i) (by decide) (by omega) ) (cwV 0 S.2.2.2.2 gX2_advise_X1_hasOpenSluice rfl rfl rfl (by decide +kernel) ⟨Nat.le_of_ble_eq_true rfl, Nat.le_of_ble_eq_true rfl⟩) (aC_recvA (j := 0) (i := i) I (by decide) (by omega)) I hl.1 dX2_advise_40 rfl rfl (Nat.le_of_ble_eq_true rfl) ⟨by first | decide | (dsimp only; omega), by first | decide | (dsimp only; omega)⟩ (fun H locs I => ?_)
        rw [← aq_ug_sw (aq_tc V) (show (0 : Nat) ≠ 1 by decide) Q Q'] at I
        refine lv_if_eq (tgt := 67) S.1 S.2.1 dX2_advise_43 (by decide) (fun c6 => ?_) (fun c6 => ?_)
        · refine lv_iinc (v := nI (i + 1)) (lv' := [(4, .int (nI (i + 1))), (3, .int x), (2, .int b), (0, .ref (ad 0)), (1, .int (nI k1))]) S.1 S.2.1 dX2_advise_67 hl (k := 0) rfl (nI_1 _) (by decide) rfl (fun ls hl => ?_)
          refine lv_goto (tgt := 19) S.1 S.2.1 dX2_advise_70 (by decide) ?_
          exact ih (i + 1) b x Q' (by omega) (by rw [aq_advR, if_pos c6] at hqr; exact hqr) (by rw [aq_advQ, if_pos c6] at hqq; exact hqq) _ _ I ls (lv_sub hl [0, 1, 2, 3, 4] rfl)
        · refine lv_aload_n S.1 S.2.1 dX2_advise_46 rfl (lv_at hl 3 rfl) ?_
          refine lv_iload S.1 S.2.1 dX2_advise_47 (lv_at hl 0 rfl) ?_
          refine lv_iload_n S.1 S.2.1 dX2_advise_49 rfl (lv_at hl 4 rfl) ?_
          refine aq_callVi (As := [.int (nI i), .int (nI k1)]) (rest := []) S (c_X2_twc l hJ (V := (aq_tc V)) (Q := Q) (Q1 := Q') (n := n) hn hn20 (h := h) hh h31 (T := V 2) (aq_tc_2 V) (a := i) (z := k1) (by omega) (by omega)) (cwV 2 S.2.2.2.2 gX2_advise_X2_thirstWithClosed rfl rfl rfl (by decide +kernel) ⟨Nat.le_of_ble_eq_true rfl, Nat.le_of_ble_eq_true rfl⟩) (aC_recvX I) I hl.1 dX2_advise_50 rfl rfl (Nat.le_of_ble_eq_true rfl) ⟨by first | decide | (dsimp only; omega), by first | decide | (dsimp only; omega)⟩ (fun H locs I => ?_)
          rw [aq_tc_tc] at I
          obtain ⟨M7, hM7⟩ : ∃ z9 : aq_Q, z9 = aq_tw n (V 2) k1 Q Q' i := ⟨_, rfl⟩
          rw [← hM7] at I
          refine lv_topi (fun x8 (ex8 : x8 = aq_thi (aq_tw n (V 2) k1 Q Q' i) Q) => ?_)
          refine lv_istore (lv' := [(5, .int x8), (4, .int (nI i)), (3, .int x), (2, .int b), (0, .ref (ad 0)), (1, .int (nI k1))]) S.1 S.2.1 dX2_advise_53 hl (by decide) rfl (fun ls hl => ?_)
          refine lv_iload S.1 S.2.1 dX2_advise_55 (lv_at hl 0 rfl) ?_
          refine lv_iload_n S.1 S.2.1 dX2_advise_57 rfl (lv_at hl 2 rfl) ?_
          refine lv_icmp_ge (tgt := 67) S.1 S.2.1 dX2_advise_58 (by decide) (fun c9 => ?_) (fun c9 => ?_)
          · refine lv_iinc (v := nI (i + 1)) (lv' := [(4, .int (nI (i + 1))), (5, .int x8), (3, .int x), (2, .int b), (0, .ref (ad 0)), (1, .int (nI k1))]) S.1 S.2.1 dX2_advise_67 hl (k := 1) rfl (nI_1 _) (by decide) rfl (fun ls hl => ?_)
            refine lv_goto (tgt := 19) S.1 S.2.1 dX2_advise_70 (by decide) ?_
            exact ih (i + 1) b x M7 (by omega) (by subst ex8; subst hM7; rw [aq_advR, if_neg c6, if_pos c9] at hqr; exact hqr) (by subst ex8; subst hM7; rw [aq_advQ, if_neg c6, if_pos c9] at hqq; exact hqq) _ _ I ls (lv_sub hl [0, 2, 3, 4, 5] rfl)
          · refine lv_iload S.1 S.2.1 dX2_advise_61 (lv_at hl 0 rfl) ?_
            refine lv_istore_n (lv' := [(3, .int x8), (5, .int x8), (4, .int (nI i)), (2, .int b), (0, .ref (ad 0)), (1, .int (nI k1))]) S.1 S.2.1 dX2_advise_63 rfl hl (by decide) rfl (fun ls hl => ?_)
            refine lv_iload S.1 S.2.1 dX2_advise_64 (lv_at hl 2 rfl) ?_
            refine lv_istore_n (lv' := [(2, .int (nI i)), (3, .int x8), (5, .int x8), (4, .int (nI i)), (0, .ref (ad 0)), (1, .int (nI k1))]) S.1 S.2.1 dX2_advise_66 rfl hl (by decide) rfl (fun ls hl => ?_)
            refine lv_iinc (v := nI (i + 1)) (lv' := [(4, .int (nI (i + 1))), (2, .int (nI i)), (3, .int x8), (5, .int x8), (0, .ref (ad 0)), (1, .int (nI k1))]) S.1 S.2.1 dX2_advise_67 hl (k := 3) rfl (nI_1 _) (by decide) rfl (fun ls hl => ?_)
            refine lv_goto (tgt := 19) S.1 S.2.1 dX2_advise_70 (by decide) ?_
            exact ih (i + 1) (nI i) x8 M7 (by omega) (by subst ex8; subst hM7; rw [aq_advR, if_neg c6, if_neg c9] at hqr; exact hqr) (by subst ex8; subst hM7; rw [aq_advQ, if_neg c6, if_neg c9] at hqq; exact hqq) _ _ I ls (lv_sub hl [0, 2, 1, 4, 5] rfl)
  exact L19 n 0 (-1) x3 M2 (by omega) (by subst ex3; subst hM2; rw [nk1]; rfl) (by subst ex3; subst hM2; rw [nk1]; rfl) _ _ I ls (lv_sub hl [0, 1, 2, 3, 4] rfl)
theorem in_X2_thirsty_X0 : ∀ w ∈ wsX00, w ∈ wsX2_thirsty := fun _ h => List.mem_cons_of_mem _ (List.mem_append_left _ (List.mem_append_right _ h))
theorem in_X2_thirsty_X2 : ∀ w ∈ wsX20, w ∈ wsX2_thirsty := fun _ h => List.mem_cons_of_mem _ (List.mem_append_left _ (List.mem_append_left _ (List.mem_append_right _ h)))
set_option maxHeartbeats 4000000 in
set_option maxRecDepth 100000 in
/-- X2_thirsty -/
theorem c_X2_thirsty (l : Launch) {D : va_G} {ad : Nat → Nat} {cI cQ : ClassId} (hJ : aq_J 49 ad) {V : aq_V} {Q Q1 : aq_Q} {n : Nat} (hn : Q 10 3 = nI n) (hn20 : n ≤ 20) {h : Nat} (hh : Q 10 4 = nI h) (h31 : h + 200 < 2 ^ 31) {z : Nat} (hz : z = 200) : aq_Met l yX2_thirsty wsX2_thirsty ({ frames := 6, cells := 0, slots := 0, locals := 134 }) D (aC_t cI cQ) 49 ad [.ref (ad 0)] (aC_w ad cI cQ (aq_ug (aq_ug V 0 Q) 1 Q1)) (aq_Qi D (aC_t cI cQ) 49 ad (aq_thsR n (V 2) Q z 1 (aq_cpQ n Q Q1)) (aC_w ad cI cQ (aq_ug (aq_ug (aq_tc V) 0 Q) 1 (aq_thsQ n (V 2) Q z 1 (aq_cpQ n Q Q1))))) 0 0 := by
  refine aq_enter (cc := cX2_thirsty) (maxL := 2) (ret := some .int) (by decide) rfl (Nat.le_of_ble_eq_true rfl) ?_
  intro p e s m below meth c ls S hr hlocks hnm I hl
  have S : CallFix p m c cX2_thirsty 2 s _ wsX2_thirsty RX2 := S
  have hl : lv_has ls 2 [(0, .ref (ad 0))] := hl
  refine lv_aload_n S.1 S.2.1 dX2_thirsty_0 rfl (lv_at hl 0 rfl) ?_
  refine aC_getX S I 1 (by decide) in_X2_thirsty_X2 (List.mem_of_getElem? (i := 1) rfl) dX2_thirsty_1 ?_
  refine lv_aload_n S.1 S.2.1 dX2_thirsty_4 rfl (lv_at hl 0 rfl) ?_
  refine aC_getX S I 0 (by decide) in_X2_thirsty_X2 (List.mem_of_getElem? (i := 2) rfl) dX2_thirsty_5 ?_
  refine aq_callVv (As := [.ref (ad 3)]) (rest := []) S (c_X0_copyFrom l hJ (V := V) (Q0 := Q) (Q1 := Q1) (n := n) hn hn20) (cwV 1 S.2.2.2.2 gX2_thirsty_X0_copyFrom rfl rfl rfl (by decide +kernel) ⟨Nat.le_of_ble_eq_true rfl, Nat.le_of_ble_eq_true rfl⟩) (aC_recvS (j := 1) I (by decide)) I hl.1 dX2_thirsty_8 rfl rfl (Nat.le_of_ble_eq_true rfl) ⟨by first | decide | (dsimp only; omega), by first | decide | (dsimp only; omega)⟩ (fun H locs I => ?_)
  obtain ⟨M1, hM1⟩ : ∃ z9 : aq_Q, z9 = aq_cpQ n Q Q1 := ⟨_, rfl⟩
  rw [← hM1] at I
  have hn_M1 : M1 10 3 = nI n := by rw [hM1]; exact aq_cpQ_n _ _ _
  have hh_M1 : M1 10 4 = nI h := by rw [hM1, aq_cpQ_h]; exact hh
  refine lv_iconst (v := 1) S.1 S.2.1 dX2_thirsty_11 (by decide) ?_
  refine lv_istore_n (lv' := [(1, .int 1), (0, .ref (ad 0))]) S.1 S.2.1 dX2_thirsty_12 rfl hl (by decide) rfl (fun ls hl => ?_)
  have L13 : ∀ (k : Nat) (i h' : Nat) (Q' : aq_Q), (i + k = z + 1) → (Q' 10 3 = nI n) → (Q' 10 4 = nI h') → (h' + k < 2 ^ 31) → (aq_thsR n (V 2) Q k i Q' = aq_thsR n (V 2) Q z 1 (aq_cpQ n Q Q1)) → (aq_thsQ n (V 2) Q k i Q' = aq_thsQ n (V 2) Q z 1 (aq_cpQ n Q Q1)) → ∀ (H : Heap) (locs : List Loc), aq_I D (aC_t cI cQ) (aq_A 49 ad) (aC_w ad cI cQ (aq_ug (aq_ug (aq_tc V) 0 Q) 1 (Q'))) s H locs → ∀ ls : Array Slot, lv_has ls 2 [(1, .int (nI i)), (0, .ref (ad 0))] → W p l e ({ frames := 6, cells := 0, slots := 0, locals := 134 } : Room) s m (([.ref (ad 0)] : List Value).toArray) below meth c H locs 0 0 (MQ below ((aq_Qi D (aC_t cI cQ) 49 ad (aq_thsR n (V 2) Q z 1 (aq_cpQ n Q Q1)) (aC_w ad cI cQ (aq_ug (aq_ug (aq_tc V) 0 Q) 1 (aq_thsQ n (V 2) Q z 1 (aq_cpQ n Q Q1))))) s.heap.size) (([.ref (ad 0)] : List Value).toArray) s 0 0 (aq_A 49 ad s.heap.size)) (F0 m 13 ls []) := by
    intro k
    induction k with
    | zero =>
      intro i h' Q' hk hn' hh' h31' hqr hqq H locs I ls hl
      refine lv_iload_n S.1 S.2.1 dX2_thirsty_13 rfl (lv_at hl 0 rfl) ?_
      refine lv_sipush (v := 200) S.1 S.2.1 dX2_thirsty_14 (by decide) ?_
      refine lv_icmp_gt (tgt := 53) S.1 S.2.1 dX2_thirsty_17 (by decide) (fun c2 => ?_) (fun c2 => ?_)
      · have c2 : 200 < i := (nI_ltI (a := 200) (b := i) (by omega) (by omega)).mp c2
        refine lv_iconst (v := (-1)) S.1 S.2.1 dX2_thirsty_53 (by decide) ?_
        exact aq_iret S.1 S.2.1 hr hlocks I dX2_thirsty_54 (by decide) (by decide) hqr (congrArg (fun z9 => aC_w ad cI cQ (aq_ug (aq_ug (aq_tc V) 0 Q) 1 z9)) hqq)
      · have c2 : i ≤ 200 := Nat.le_of_not_lt (fun z9 => c2 ((nI_ltI (a := 200) (b := i) (by omega) (by omega)).mpr z9))
        exfalso; omega
    | succ k ih =>
      intro i h' Q' hk hn' hh' h31' hqr hqq H locs I ls hl
      refine lv_iload_n S.1 S.2.1 dX2_thirsty_13 rfl (lv_at hl 0 rfl) ?_
      refine lv_sipush (v := 200) S.1 S.2.1 dX2_thirsty_14 (by decide) ?_
      refine lv_icmp_gt (tgt := 53) S.1 S.2.1 dX2_thirsty_17 (by decide) (fun c3 => ?_) (fun c3 => ?_)
      · have c3 : 200 < i := (nI_ltI (a := 200) (b := i) (by omega) (by omega)).mp c3
        exfalso; omega
      · have c3 : i ≤ 200 := Nat.le_of_not_lt (fun z9 => c3 ((nI_ltI (a := 200) (b := i) (by omega) (by omega)).mpr z9))
        refine lv_aload_n S.1 S.2.1 dX2_thirsty_20 rfl (lv_at hl 1 rfl) ?_
        refine aC_getX S I 1 (by decide) in_X2_thirsty_X2 (List.mem_of_getElem? (i := 1) rfl) dX2_thirsty_21 ?_
        refine lv_iconst (v := 1) S.1 S.2.1 dX2_thirsty_24 (by decide) ?_
        refine aq_callVv (As := [.int 1]) (rest := []) S (c_X0_goOn l hJ (V := (aq_ug (aq_tc V) 0 Q)) (Q := Q') (j := 1) (by decide) hn' hn20 (T := (V 2)) (aq_tc_T V Q) (h := h') (z := 1) hh' (by omega)) (cwV 1 S.2.2.2.2 gX2_thirsty_X0_goOn rfl rfl rfl (by decide +kernel) ⟨Nat.le_of_ble_eq_true rfl, Nat.le_of_ble_eq_true rfl⟩) (aC_recvS (j := 1) I (by decide)) I hl.1 dX2_thirsty_25 rfl rfl (Nat.le_of_ble_eq_true rfl) ⟨by first | decide | (dsimp only; omega), by first | decide | (dsimp only; omega)⟩ (fun H locs I => ?_)
        obtain ⟨M4, hM4⟩ : ∃ z9 : aq_Q, z9 = aq_goQ n (V 2) 1 Q' := ⟨_, rfl⟩
        rw [← hM4] at I
        have hM4 : M4 = aq_hourQ n (V 2) Q' := hM4
        have hh_M4 : M4 10 4 = nI (h' + 1) := by rw [hM4, aq_hourQ_eq hh' (by omega), aq_hourD_h, hh', nI_1]
        refine lv_aload_n S.1 S.2.1 dX2_thirsty_28 rfl (lv_at hl 1 rfl) ?_
        refine aC_getX S I 1 (by decide) in_X2_thirsty_X2 (List.mem_of_getElem? (i := 1) rfl) dX2_thirsty_29 ?_
        refine aC_getS (j := 1) (x := M4 10 12) S I (by decide) 12 (by decide) (by decide) in_X2_thirsty_X0 (List.mem_of_getElem? (i := 3) rfl) (by rw [aq_ug_s]) dX2_thirsty_32 ?_
        refine lv_aload_n S.1 S.2.1 dX2_thirsty_35 rfl (lv_at hl 1 rfl) ?_
        refine aC_getX S I 0 (by decide) in_X2_thirsty_X2 (List.mem_of_getElem? (i := 2) rfl) dX2_thirsty_36 ?_
        refine aC_getS (j := 0) (x := Q 10 12) S I (by decide) 12 (by decide) (by decide) in_X2_thirsty_X0 (List.mem_of_getElem? (i := 3) rfl) (by rw [aq_ug_n _ _ (by decide), aq_ug_s]) dX2_thirsty_39 ?_
        refine lv_icmp_le (tgt := 47) S.1 S.2.1 dX2_thirsty_42 (by decide) (fun c5 => ?_) (fun c5 => ?_)
        · refine lv_iinc (v := nI (i + 1)) (lv' := [(1, .int (nI (i + 1))), (0, .ref (ad 0))]) S.1 S.2.1 dX2_thirsty_47 hl (k := 0) rfl (nI_1 _) (by decide) rfl (fun ls hl => ?_)
          refine lv_goto (tgt := 13) S.1 S.2.1 dX2_thirsty_50 (by decide) ?_
          have hn_M4 : M4 10 3 = nI n := by rw [hM4]; exact (aq_hourQ_n _ _ _).trans hn'
          exact ih (i + 1) (h' + 1) M4 (by omega) hn_M4 hh_M4 (by omega) (by subst hM4; rw [aq_thsR, if_pos c5] at hqr; exact hqr) (by subst hM4; rw [aq_thsQ, if_pos c5] at hqq; exact hqq) _ _ I ls (lv_sub hl [0, 1] rfl)
        · refine lv_iload_n S.1 S.2.1 dX2_thirsty_45 rfl (lv_at hl 0 rfl) ?_
          exact aq_iret S.1 S.2.1 hr hlocks I dX2_thirsty_46 (by decide) (by decide) (by subst hM4; rw [aq_thsR, if_neg c5] at hqr; exact hqr) (by subst hM4; rw [aq_thsQ, if_neg c5] at hqq; exact (congrArg (fun z9 => aC_w ad cI cQ (aq_ug (aq_ug (aq_tc V) 0 Q) 1 z9)) hqq))
  exact L13 z 1 h M1 (by omega) hn_M1 hh_M1 (by omega) (by rw [hM1]) (by rw [hM1]) _ _ I ls (lv_sub hl [0, 1] rfl)
theorem in_X2_worst_X0 : ∀ w ∈ wsX00, w ∈ wsX2_worst := fun _ h => List.mem_cons_of_mem _ (List.mem_append_left _ (List.mem_append_right _ h))
theorem in_X2_worst_X1 : ∀ w ∈ wsX10, w ∈ wsX2_worst := fun _ h => List.mem_cons_of_mem _ (List.mem_append_right _ h)
theorem in_X2_worst_X2 : ∀ w ∈ wsX20, w ∈ wsX2_worst := fun _ h => List.mem_cons_of_mem _ (List.mem_append_left _ (List.mem_append_left _ (List.mem_append_right _ h)))
set_option maxHeartbeats 4000000 in
set_option maxRecDepth 100000 in
/-- X2_worst -/
theorem c_X2_worst (l : Launch) {D : va_G} {ad : Nat → Nat} {cI cQ : ClassId} (hJ : aq_J 49 ad) {V : aq_V} {Q : aq_Q} {n : Nat} (hn : Q 10 3 = nI n) (hn20 : n ≤ 20) : aq_Met l yX2_worst wsX2_worst ({ frames := 1, cells := 0, slots := 0, locals := 21 }) D (aC_t cI cQ) 49 ad [.ref (ad 0)] (aC_w ad cI cQ (aq_ug V 0 Q)) (aq_Qi D (aC_t cI cQ) 49 ad (aq_worR Q n 0 (-1) 0) (aC_w ad cI cQ (aq_ug V 0 Q))) 0 0 := by
  refine aq_enter (cc := cX2_worst) (maxL := 5) (ret := some .int) (by decide) rfl (Nat.le_of_ble_eq_true rfl) ?_
  intro p e s m below meth c ls S hr hlocks hnm I hl
  have S : CallFix p m c cX2_worst 5 s _ wsX2_worst RX2 := S
  have hl : lv_has ls 5 [(0, .ref (ad 0))] := hl
  have L6 : ∀ (k : Nat) (i : Nat) (w x : Int32), (i + k = n) → (aq_worR Q k i w x = aq_worR Q n 0 (-1) 0) → ∀ (H : Heap) (locs : List Loc), aq_I D (aC_t cI cQ) (aq_A 49 ad) (aC_w ad cI cQ (aq_ug V 0 Q)) s H locs → ∀ ls : Array Slot, lv_has ls 5 [(3, .int (nI i)), (2, .int x), (1, .int w), (0, .ref (ad 0))] → W p l e ({ frames := 1, cells := 0, slots := 0, locals := 21 } : Room) s m (([.ref (ad 0)] : List Value).toArray) below meth c H locs 0 0 (MQ below ((aq_Qi D (aC_t cI cQ) 49 ad (aq_worR Q n 0 (-1) 0) (aC_w ad cI cQ (aq_ug V 0 Q))) s.heap.size) (([.ref (ad 0)] : List Value).toArray) s 0 0 (aq_A 49 ad s.heap.size)) (F0 m 6 ls []) := by
    intro k
    induction k with
    | zero =>
      intro i w x hk hq H locs I ls hl
      refine lv_iload_n S.1 S.2.1 dX2_worst_6 rfl (lv_at hl 0 rfl) ?_
      refine lv_aload_n S.1 S.2.1 dX2_worst_7 rfl (lv_at hl 3 rfl) ?_
      refine aC_getX S I 0 (by decide) in_X2_worst_X2 (List.mem_of_getElem? (i := 1) rfl) dX2_worst_8 ?_
      refine aC_getS (j := 0) (x := nI n) S I (by decide) 3 (by decide) (by decide) in_X2_worst_X0 (List.mem_of_getElem? (i := 2) rfl) (by rw [aq_ug_s]; exact hn) dX2_worst_11 ?_
      refine lv_icmp_ge (tgt := 47) S.1 S.2.1 dX2_worst_14 (by decide) (fun c1 => ?_) (fun c1 => ?_)
      · have c1 : n ≤ i := (nI_leI (a := n) (b := i) (by omega) (by omega)).mp c1
        refine lv_iload_n S.1 S.2.1 dX2_worst_47 rfl (lv_at hl 2 rfl) ?_
        exact aq_iret S.1 S.2.1 hr hlocks I dX2_worst_48 (by decide) (by decide) hq rfl
      · have c1 : i < n := Nat.lt_of_not_le (fun z9 => c1 ((nI_leI (a := n) (b := i) (by omega) (by omega)).mpr z9))
        exfalso; omega
    | succ k ih =>
      intro i w x hk hq H locs I ls hl
      refine lv_iload_n S.1 S.2.1 dX2_worst_6 rfl (lv_at hl 0 rfl) ?_
      refine lv_aload_n S.1 S.2.1 dX2_worst_7 rfl (lv_at hl 3 rfl) ?_
      refine aC_getX S I 0 (by decide) in_X2_worst_X2 (List.mem_of_getElem? (i := 1) rfl) dX2_worst_8 ?_
      refine aC_getS (j := 0) (x := nI n) S I (by decide) 3 (by decide) (by decide) in_X2_worst_X0 (List.mem_of_getElem? (i := 2) rfl) (by rw [aq_ug_s]; exact hn) dX2_worst_11 ?_
      refine lv_icmp_ge (tgt := 47) S.1 S.2.1 dX2_worst_14 (by decide) (fun c2 => ?_) (fun c2 => ?_)
      · have c2 : n ≤ i := (nI_leI (a := n) (b := i) (by omega) (by omega)).mp c2
        exfalso; omega
      · have c2 : i < n := Nat.lt_of_not_le (fun z9 => c2 ((nI_leI (a := n) (b := i) (by omega) (by omega)).mpr z9))
        refine lv_aload_n S.1 S.2.1 dX2_worst_17 rfl (lv_at hl 3 rfl) ?_
        refine aC_getX S I 0 (by decide) in_X2_worst_X2 (List.mem_of_getElem? (i := 1) rfl) dX2_worst_18 ?_
        refine lv_iload_n S.1 S.2.1 dX2_worst_21 rfl (lv_at hl 0 rfl) ?_
        refine aq_callVr (As := [.int (nI i)]) (rest := []) S (c_X0_archAt l hJ (V := V) (Q := Q) (j := 0) (by decide)  (a := i) (by omega) ) (cwV 1 S.2.2.2.2 gX2_worst_X0_archAt rfl rfl rfl (by decide +kernel) ⟨Nat.le_of_ble_eq_true rfl, Nat.le_of_ble_eq_true rfl⟩) (aC_recvS (j := 0) I (by decide)) I hl.1 dX2_worst_22 rfl rfl (Nat.le_of_ble_eq_true rfl) ⟨by first | decide | (dsimp only; omega), by first | decide | (dsimp only; omega)⟩ (fun H locs I => ?_)
        refine aC_getA (j := 0) (i := i) (x := Q 5 i) S I (by decide) (by omega) 5 (by decide) in_X2_worst_X1 (List.mem_of_getElem? (i := 3) rfl) (by rw [aq_ug_s]) dX2_worst_25 ?_
        refine lv_istore (lv' := [(4, .int (Q 5 i)), (3, .int (nI i)), (2, .int x), (1, .int w), (0, .ref (ad 0))]) S.1 S.2.1 dX2_worst_28 hl (by decide) rfl (fun ls hl => ?_)
        refine lv_iload S.1 S.2.1 dX2_worst_30 (lv_at hl 0 rfl) ?_
        refine lv_iload_n S.1 S.2.1 dX2_worst_32 rfl (lv_at hl 2 rfl) ?_
        refine lv_icmp_le (tgt := 41) S.1 S.2.1 dX2_worst_33 (by decide) (fun c3 => ?_) (fun c3 => ?_)
        · refine lv_iinc (v := nI (i + 1)) (lv' := [(3, .int (nI (i + 1))), (4, .int (Q 5 i)), (2, .int x), (1, .int w), (0, .ref (ad 0))]) S.1 S.2.1 dX2_worst_41 hl (k := 1) rfl (nI_1 _) (by decide) rfl (fun ls hl => ?_)
          refine lv_goto (tgt := 6) S.1 S.2.1 dX2_worst_44 (by decide) ?_
          exact ih (i + 1) w x (by omega) (by rw [aq_worR, if_pos c3] at hq; exact hq) _ _ I ls (lv_sub hl [0, 2, 3, 4] rfl)
        · refine lv_iload S.1 S.2.1 dX2_worst_36 (lv_at hl 0 rfl) ?_
          refine lv_istore_n (lv' := [(2, .int (Q 5 i)), (4, .int (Q 5 i)), (3, .int (nI i)), (1, .int w), (0, .ref (ad 0))]) S.1 S.2.1 dX2_worst_38 rfl hl (by decide) rfl (fun ls hl => ?_)
          refine lv_iload_n S.1 S.2.1 dX2_worst_39 rfl (lv_at hl 2 rfl) ?_
          refine lv_istore_n (lv' := [(1, .int (nI i)), (2, .int (Q 5 i)), (4, .int (Q 5 i)), (3, .int (nI i)), (0, .ref (ad 0))]) S.1 S.2.1 dX2_worst_40 rfl hl (by decide) rfl (fun ls hl => ?_)
          refine lv_iinc (v := nI (i + 1)) (lv' := [(3, .int (nI (i + 1))), (1, .int (nI i)), (2, .int (Q 5 i)), (4, .int (Q 5 i)), (0, .ref (ad 0))]) S.1 S.2.1 dX2_worst_41 hl (k := 3) rfl (nI_1 _) (by decide) rfl (fun ls hl => ?_)
          refine lv_goto (tgt := 6) S.1 S.2.1 dX2_worst_44 (by decide) ?_
          exact ih (i + 1) (nI i) (Q 5 i) (by omega) (by rw [aq_worR, if_neg c3] at hq; exact hq) _ _ I ls (lv_sub hl [0, 2, 1, 4] rfl)
  refine lv_iconst (v := (-1)) S.1 S.2.1 dX2_worst_0 (by decide) ?_
  refine lv_istore_n (lv' := [(1, .int ((-1))), (0, .ref (ad 0))]) S.1 S.2.1 dX2_worst_1 rfl hl (by decide) rfl (fun ls hl => ?_)
  refine lv_iconst (v := 0) S.1 S.2.1 dX2_worst_2 (by decide) ?_
  refine lv_istore_n (lv' := [(2, .int 0), (1, .int ((-1))), (0, .ref (ad 0))]) S.1 S.2.1 dX2_worst_3 rfl hl (by decide) rfl (fun ls hl => ?_)
  refine lv_iconst (v := 0) S.1 S.2.1 dX2_worst_4 (by decide) ?_
  refine lv_istore_n (lv' := [(3, .int 0), (2, .int 0), (1, .int ((-1))), (0, .ref (ad 0))]) S.1 S.2.1 dX2_worst_5 rfl hl (by decide) rfl (fun ls hl => ?_)
  exact L6 n 0 (-1) 0 (by omega) rfl _ _ I ls (lv_sub hl [0, 1, 2, 3] rfl)
theorem in_X2_digestArch_X2 : ∀ w ∈ wsX20, w ∈ wsX2_digestArch := fun _ h => List.mem_cons_of_mem _ (List.mem_append_left _ (List.mem_append_left _ (List.mem_append_right _ h)))
set_option maxHeartbeats 4000000 in
set_option maxRecDepth 100000 in
/-- X2_digestArch -/
theorem c_X2_digestArch (l : Launch) {D : va_G} {ad : Nat → Nat} {cI cQ : ClassId} (hJ : aq_J 49 ad) {V : aq_V} {Q : aq_Q} {n : Nat} (hn : Q 10 3 = nI n) (hn20 : n ≤ 20) {i : Nat} (hi : i < n) (d0 : Int64) : aq_Met l yX2_digestArch wsX2_digestArch ({ frames := 3, cells := 0, slots := 0, locals := 66 }) D (aC_t cI cQ) 49 ad [.ref (ad 0), .long d0, .int (nI i)] (aC_w ad cI cQ (aq_ug V 0 Q)) (aq_Ql D (aC_t cI cQ) 49 ad (aq_dgArch n Q i d0) (aC_w ad cI cQ (aq_ug V 0 Q))) 0 0 := by
  refine aq_enter (cc := cX2_digestArch) (maxL := 7) (ret := some .long) (by decide) rfl (Nat.le_of_ble_eq_true rfl) ?_
  intro p e s m below meth c ls S hr hlocks hnm I hl
  have S : CallFix p m c cX2_digestArch 7 s _ wsX2_digestArch RX2 := S
  have hl : lv_has ls 7 [(0, .ref (ad 0)), (1, .long d0), (3, .int (nI i))] := hl
  have L42 : ∀ (k : Nat) (w : Nat) (d : Int64), (w + k = 4) → (aq_dgF (aq_millNo Q i) k w d = aq_dgArch n Q i d0) → ∀ (H : Heap) (locs : List Loc), aq_I D (aC_t cI cQ) (aq_A 49 ad) (aC_w ad cI cQ (aq_ug V 0 Q)) s H locs → ∀ ls : Array Slot, lv_has ls 7 [(6, .int (nI w)), (4, .long d), (0, .ref (ad 0)), (1, .long d0), (3, .int (nI i))] → W p l e ({ frames := 3, cells := 0, slots := 0, locals := 66 } : Room) s m (([.ref (ad 0), .long d0, .int (nI i)] : List Value).toArray) below meth c H locs 0 0 (MQ below ((aq_Ql D (aC_t cI cQ) 49 ad (aq_dgArch n Q i d0) (aC_w ad cI cQ (aq_ug V 0 Q))) s.heap.size) (([.ref (ad 0), .long d0, .int (nI i)] : List Value).toArray) s 0 0 (aq_A 49 ad s.heap.size)) (F0 m 42 ls []) := by
    intro k
    induction k with
    | zero =>
      intro w d hk hq H locs I ls hl
      refine lv_iload S.1 S.2.1 dX2_digestArch_42 (lv_at hl 0 rfl) ?_
      refine lv_iconst (v := 4) S.1 S.2.1 dX2_digestArch_44 (by decide) ?_
      refine lv_icmp_ge (tgt := 77) S.1 S.2.1 dX2_digestArch_45 (by decide) (fun c1 => ?_) (fun c1 => ?_)
      · have c1 : 4 ≤ w := (nI_leI (a := 4) (b := w) (by omega) (by omega)).mp c1
        refine lv_lload S.1 S.2.1 dX2_digestArch_77 (lv_at hl 1 rfl) ?_
        exact aq_lret S.1 S.2.1 hr hlocks I dX2_digestArch_79 (by first | decide | omega) (by first | decide | omega) hq rfl
      · have c1 : w < 4 := Nat.lt_of_not_le (fun z9 => c1 ((nI_leI (a := 4) (b := w) (by omega) (by omega)).mpr z9))
        exfalso; omega
    | succ k ih =>
      intro w d hk hq H locs I ls hl
      refine lv_iload S.1 S.2.1 dX2_digestArch_42 (lv_at hl 0 rfl) ?_
      refine lv_iconst (v := 4) S.1 S.2.1 dX2_digestArch_44 (by decide) ?_
      refine lv_icmp_ge (tgt := 77) S.1 S.2.1 dX2_digestArch_45 (by decide) (fun c2 => ?_) (fun c2 => ?_)
      · have c2 : 4 ≤ w := (nI_leI (a := 4) (b := w) (by omega) (by omega)).mp c2
        exfalso; omega
      · have c2 : w < 4 := Nat.lt_of_not_le (fun z9 => c2 ((nI_leI (a := 4) (b := w) (by omega) (by omega)).mpr z9))
        refine lv_lload S.1 S.2.1 dX2_digestArch_48 (lv_at hl 1 rfl) ?_
        refine lv_ldc2 (v := 31) S.1 S.2.1 S.2.2.2.1 (S.2.2.2.2 _ (List.mem_of_getElem? (i := 1) rfl)) dX2_digestArch_50 ?_
        refine lv_lmul S.1 S.2.1 dX2_digestArch_53 ?_
        refine lv_aload_n S.1 S.2.1 dX2_digestArch_54 rfl (lv_at hl 2 rfl) ?_
        refine aC_getX S I 0 (by decide) in_X2_digestArch_X2 (List.mem_of_getElem? (i := 2) rfl) dX2_digestArch_55 ?_
        refine lv_iload_n S.1 S.2.1 dX2_digestArch_58 rfl (lv_at hl 4 rfl) ?_
        refine aq_callVr (As := [.int (nI i)]) (rest := [.long (d * 31)]) S (c_X0_archAt l hJ (V := V) (Q := Q) (j := 0) (by decide)  (a := i) (by omega) ) (cwV 1 S.2.2.2.2 gX2_digestArch_X0_archAt rfl rfl rfl (by decide +kernel) ⟨Nat.le_of_ble_eq_true rfl, Nat.le_of_ble_eq_true rfl⟩) (aC_recvS (j := 0) I (by decide)) I hl.1 dX2_digestArch_59 rfl rfl (Nat.le_of_ble_eq_true rfl) ⟨by first | decide | (dsimp only; omega), by first | decide | (dsimp only; omega)⟩ (fun H locs I => ?_)
        refine lv_iload S.1 S.2.1 dX2_digestArch_62 (lv_at hl 0 rfl) ?_
        refine aq_callVi (As := [.int (nI w)]) (rest := [.long (d * 31)]) S (c_X1_millNumber l hJ (V := V) (Q := Q) (j := 0) (i := i) (by decide) (by omega) (w := w) (by omega)) (cwV 1 S.2.2.2.2 gX2_digestArch_X1_millNumber rfl rfl rfl (by decide +kernel) ⟨Nat.le_of_ble_eq_true rfl, Nat.le_of_ble_eq_true rfl⟩) (aC_recvA (j := 0) (i := i) I (by decide) (by omega)) I hl.1 dX2_digestArch_64 rfl rfl (Nat.le_of_ble_eq_true rfl) ⟨by first | decide | (dsimp only; omega), by first | decide | (dsimp only; omega)⟩ (fun H locs I => ?_)
        refine lv_i2l (v := Int32.toInt64 (aq_millNo Q i w)) S.1 S.2.1 dX2_digestArch_67 rfl ?_
        refine lv_ladd S.1 S.2.1 dX2_digestArch_68 ?_
        refine lv_lstore (lv' := [(4, .long ((d * 31) + (Int32.toInt64 (aq_millNo Q i w)))), (6, .int (nI w)), (0, .ref (ad 0)), (1, .long d0), (3, .int (nI i))]) S.1 S.2.1 dX2_digestArch_69 hl (by decide) rfl (fun ls hl => ?_)
        refine lv_iinc (v := nI (w + 1)) (lv' := [(6, .int (nI (w + 1))), (4, .long ((d * 31) + (Int32.toInt64 (aq_millNo Q i w)))), (0, .ref (ad 0)), (1, .long d0), (3, .int (nI i))]) S.1 S.2.1 dX2_digestArch_71 hl (k := 1) rfl (nI_1 _) (by decide) rfl (fun ls hl => ?_)
        refine lv_goto (tgt := 42) S.1 S.2.1 dX2_digestArch_74 (by decide) ?_
        exact ih (w + 1) ((d * 31) + (Int32.toInt64 (aq_millNo Q i w))) (by omega) (by exact hq) _ _ I ls (lv_sub hl [0, 1, 2, 3, 4] rfl)
  have L6 : ∀ (k : Nat) (w : Nat) (d : Int64), (w + k = 9) → (aq_dgF (aq_archNo n Q i) k w d = aq_dgF (aq_archNo n Q i) 9 0 d0) → ∀ (H : Heap) (locs : List Loc), aq_I D (aC_t cI cQ) (aq_A 49 ad) (aC_w ad cI cQ (aq_ug V 0 Q)) s H locs → ∀ ls : Array Slot, lv_has ls 7 [(6, .int (nI w)), (4, .long d), (0, .ref (ad 0)), (1, .long d0), (3, .int (nI i))] → W p l e ({ frames := 3, cells := 0, slots := 0, locals := 66 } : Room) s m (([.ref (ad 0), .long d0, .int (nI i)] : List Value).toArray) below meth c H locs 0 0 (MQ below ((aq_Ql D (aC_t cI cQ) 49 ad (aq_dgArch n Q i d0) (aC_w ad cI cQ (aq_ug V 0 Q))) s.heap.size) (([.ref (ad 0), .long d0, .int (nI i)] : List Value).toArray) s 0 0 (aq_A 49 ad s.heap.size)) (F0 m 6 ls []) := by
    intro k
    induction k with
    | zero =>
      intro w d hk hq H locs I ls hl
      refine lv_iload S.1 S.2.1 dX2_digestArch_6 (lv_at hl 0 rfl) ?_
      refine lv_bipush (v := 9) S.1 S.2.1 dX2_digestArch_8 (by decide) ?_
      refine lv_icmp_ge (tgt := 39) S.1 S.2.1 dX2_digestArch_10 (by decide) (fun c3 => ?_) (fun c3 => ?_)
      · have c3 : 9 ≤ w := (nI_leI (a := 9) (b := w) (by omega) (by omega)).mp c3
        refine lv_iconst (v := 0) S.1 S.2.1 dX2_digestArch_39 (by decide) ?_
        refine lv_istore (lv' := [(6, .int 0), (4, .long d), (0, .ref (ad 0)), (1, .long d0), (3, .int (nI i))]) S.1 S.2.1 dX2_digestArch_40 hl (by decide) rfl (fun ls hl => ?_)
        exact L42 4 0 d (by omega) (congrArg (aq_dgF (aq_millNo Q i) 4 0) hq) _ _ I ls (lv_sub hl [0, 1, 2, 3, 4] rfl)
      · have c3 : w < 9 := Nat.lt_of_not_le (fun z9 => c3 ((nI_leI (a := 9) (b := w) (by omega) (by omega)).mpr z9))
        exfalso; omega
    | succ k ih =>
      intro w d hk hq H locs I ls hl
      refine lv_iload S.1 S.2.1 dX2_digestArch_6 (lv_at hl 0 rfl) ?_
      refine lv_bipush (v := 9) S.1 S.2.1 dX2_digestArch_8 (by decide) ?_
      refine lv_icmp_ge (tgt := 39) S.1 S.2.1 dX2_digestArch_10 (by decide) (fun c4 => ?_) (fun c4 => ?_)
      · have c4 : 9 ≤ w := (nI_leI (a := 9) (b := w) (by omega) (by omega)).mp c4
        exfalso; omega
      · have c4 : w < 9 := Nat.lt_of_not_le (fun z9 => c4 ((nI_leI (a := 9) (b := w) (by omega) (by omega)).mpr z9))
        refine lv_lload S.1 S.2.1 dX2_digestArch_13 (lv_at hl 1 rfl) ?_
        refine lv_ldc2 (v := 31) S.1 S.2.1 S.2.2.2.1 (S.2.2.2.2 _ (List.mem_of_getElem? (i := 1) rfl)) dX2_digestArch_15 ?_
        refine lv_lmul S.1 S.2.1 dX2_digestArch_18 ?_
        refine lv_aload_n S.1 S.2.1 dX2_digestArch_19 rfl (lv_at hl 2 rfl) ?_
        refine aC_getX S I 0 (by decide) in_X2_digestArch_X2 (List.mem_of_getElem? (i := 2) rfl) dX2_digestArch_20 ?_
        refine lv_iload_n S.1 S.2.1 dX2_digestArch_23 rfl (lv_at hl 4 rfl) ?_
        refine lv_iload S.1 S.2.1 dX2_digestArch_24 (lv_at hl 0 rfl) ?_
        refine aq_callVi (As := [.int (nI i), .int (nI w)]) (rest := [.long (d * 31)]) S (c_X0_archNumber l hJ (V := V) (Q := Q) (j := 0) (by decide) hn hn20 (a := i) (by omega) (w := w) (by omega) ) (cwV 2 S.2.2.2.2 gX2_digestArch_X0_archNumber rfl rfl rfl (by decide +kernel) ⟨Nat.le_of_ble_eq_true rfl, Nat.le_of_ble_eq_true rfl⟩) (aC_recvS (j := 0) I (by decide)) I hl.1 dX2_digestArch_26 rfl rfl (Nat.le_of_ble_eq_true rfl) ⟨by first | decide | (dsimp only; omega), by first | decide | (dsimp only; omega)⟩ (fun H locs I => ?_)
        refine lv_i2l (v := Int32.toInt64 (aq_archNo n Q i w)) S.1 S.2.1 dX2_digestArch_29 rfl ?_
        refine lv_ladd S.1 S.2.1 dX2_digestArch_30 ?_
        refine lv_lstore (lv' := [(4, .long ((d * 31) + (Int32.toInt64 (aq_archNo n Q i w)))), (6, .int (nI w)), (0, .ref (ad 0)), (1, .long d0), (3, .int (nI i))]) S.1 S.2.1 dX2_digestArch_31 hl (by decide) rfl (fun ls hl => ?_)
        refine lv_iinc (v := nI (w + 1)) (lv' := [(6, .int (nI (w + 1))), (4, .long ((d * 31) + (Int32.toInt64 (aq_archNo n Q i w)))), (0, .ref (ad 0)), (1, .long d0), (3, .int (nI i))]) S.1 S.2.1 dX2_digestArch_33 hl (k := 1) rfl (nI_1 _) (by decide) rfl (fun ls hl => ?_)
        refine lv_goto (tgt := 6) S.1 S.2.1 dX2_digestArch_36 (by decide) ?_
        exact ih (w + 1) ((d * 31) + (Int32.toInt64 (aq_archNo n Q i w))) (by omega) (by exact hq) _ _ I ls (lv_sub hl [0, 1, 2, 3, 4] rfl)
  refine lv_lload_n S.1 S.2.1 dX2_digestArch_0 rfl (lv_at hl 1 rfl) ?_
  refine lv_lstore (lv' := [(4, .long d0), (0, .ref (ad 0)), (1, .long d0), (3, .int (nI i))]) S.1 S.2.1 dX2_digestArch_1 hl (by decide) rfl (fun ls hl => ?_)
  refine lv_iconst (v := 0) S.1 S.2.1 dX2_digestArch_3 (by decide) ?_
  refine lv_istore (lv' := [(6, .int 0), (4, .long d0), (0, .ref (ad 0)), (1, .long d0), (3, .int (nI i))]) S.1 S.2.1 dX2_digestArch_4 hl (by decide) rfl (fun ls hl => ?_)
  exact L6 9 0 d0 (by omega) rfl _ _ I ls (lv_sub hl [0, 1, 2, 3, 4] rfl)
theorem in_X2_digest_X0 : ∀ w ∈ wsX00, w ∈ wsX2_digest := fun _ h => List.mem_cons_of_mem _ (List.mem_append_left _ (List.mem_append_right _ h))
theorem in_X2_digest_X2 : ∀ w ∈ wsX20, w ∈ wsX2_digest := fun _ h => List.mem_cons_of_mem _ (List.mem_append_left _ (List.mem_append_left _ (List.mem_append_right _ h)))
set_option maxHeartbeats 4000000 in
set_option maxRecDepth 100000 in
/-- X2_digest -/
theorem c_X2_digest (l : Launch) {D : va_G} {ad : Nat → Nat} {cI cQ : ClassId} (hJ : aq_J 49 ad) {V : aq_V} {Q : aq_Q} {n : Nat} (hn : Q 10 3 = nI n) (hn20 : n ≤ 20) : aq_Met l yX2_digest wsX2_digest ({ frames := 4, cells := 0, slots := 0, locals := 92 }) D (aC_t cI cQ) 49 ad [.ref (ad 0)] (aC_w ad cI cQ (aq_ug V 0 Q)) (aq_Ql D (aC_t cI cQ) 49 ad (aq_digest n (V 2) Q) (aC_w ad cI cQ (aq_ug V 0 Q))) 0 0 := by
  refine aq_enter (cc := cX2_digest) (maxL := 4) (ret := some .long) (by decide) rfl (Nat.le_of_ble_eq_true rfl) ?_
  intro p e s m below meth c ls S hr hlocks hnm I hl
  have S : CallFix p m c cX2_digest 4 s _ wsX2_digest RX2 := S
  have hl : lv_has ls 4 [(0, .ref (ad 0))] := hl
  have L84 : ∀ (k : Nat) (i : Nat) (d : Int64), (i + k = n) → (aq_dgAll n Q k i d = aq_digest n (V 2) Q) → ∀ (H : Heap) (locs : List Loc), aq_I D (aC_t cI cQ) (aq_A 49 ad) (aC_w ad cI cQ (aq_ug V 0 Q)) s H locs → ∀ ls : Array Slot, lv_has ls 4 [(3, .int (nI i)), (1, .long d), (0, .ref (ad 0))] → W p l e ({ frames := 4, cells := 0, slots := 0, locals := 92 } : Room) s m (([.ref (ad 0)] : List Value).toArray) below meth c H locs 0 0 (MQ below ((aq_Ql D (aC_t cI cQ) 49 ad (aq_digest n (V 2) Q) (aC_w ad cI cQ (aq_ug V 0 Q))) s.heap.size) (([.ref (ad 0)] : List Value).toArray) s 0 0 (aq_A 49 ad s.heap.size)) (F0 m 84 ls []) := by
    intro k
    induction k with
    | zero =>
      intro i d hk hq H locs I ls hl
      refine lv_iload_n S.1 S.2.1 dX2_digest_84 rfl (lv_at hl 0 rfl) ?_
      refine lv_aload_n S.1 S.2.1 dX2_digest_85 rfl (lv_at hl 2 rfl) ?_
      refine aC_getX S I 0 (by decide) in_X2_digest_X2 (List.mem_of_getElem? (i := 3) rfl) dX2_digest_86 ?_
      refine aC_getS (j := 0) (x := nI n) S I (by decide) 3 (by decide) (by decide) in_X2_digest_X0 (List.mem_of_getElem? (i := 6) rfl) (by rw [aq_ug_s]; exact hn) dX2_digest_89 ?_
      refine lv_icmp_ge (tgt := 108) S.1 S.2.1 dX2_digest_92 (by decide) (fun c1 => ?_) (fun c1 => ?_)
      · have c1 : n ≤ i := (nI_leI (a := n) (b := i) (by omega) (by omega)).mp c1
        refine lv_lload_n S.1 S.2.1 dX2_digest_108 rfl (lv_at hl 1 rfl) ?_
        exact aq_lret S.1 S.2.1 hr hlocks I dX2_digest_109 (by first | decide | omega) (by first | decide | omega) hq rfl
      · have c1 : i < n := Nat.lt_of_not_le (fun z9 => c1 ((nI_leI (a := n) (b := i) (by omega) (by omega)).mpr z9))
        exfalso; omega
    | succ k ih =>
      intro i d hk hq H locs I ls hl
      refine lv_iload_n S.1 S.2.1 dX2_digest_84 rfl (lv_at hl 0 rfl) ?_
      refine lv_aload_n S.1 S.2.1 dX2_digest_85 rfl (lv_at hl 2 rfl) ?_
      refine aC_getX S I 0 (by decide) in_X2_digest_X2 (List.mem_of_getElem? (i := 3) rfl) dX2_digest_86 ?_
      refine aC_getS (j := 0) (x := nI n) S I (by decide) 3 (by decide) (by decide) in_X2_digest_X0 (List.mem_of_getElem? (i := 6) rfl) (by rw [aq_ug_s]; exact hn) dX2_digest_89 ?_
      refine lv_icmp_ge (tgt := 108) S.1 S.2.1 dX2_digest_92 (by decide) (fun c2 => ?_) (fun c2 => ?_)
      · have c2 : n ≤ i := (nI_leI (a := n) (b := i) (by omega) (by omega)).mp c2
        exfalso; omega
      · have c2 : i < n := Nat.lt_of_not_le (fun z9 => c2 ((nI_leI (a := n) (b := i) (by omega) (by omega)).mpr z9))
        refine lv_aload_n S.1 S.2.1 dX2_digest_95 rfl (lv_at hl 2 rfl) ?_
        refine lv_lload_n S.1 S.2.1 dX2_digest_96 rfl (lv_at hl 1 rfl) ?_
        refine lv_iload_n S.1 S.2.1 dX2_digest_97 rfl (lv_at hl 0 rfl) ?_
        refine aq_callVl (As := [.long d, .int (nI i)]) (rest := []) S (c_X2_digestArch l hJ (V := V) (Q := Q) (n := n) hn hn20 (i := i) (by omega) d) (cwV 2 S.2.2.2.2 gX2_digest_X2_digestArch rfl rfl rfl (by decide +kernel) ⟨Nat.le_of_ble_eq_true rfl, Nat.le_of_ble_eq_true rfl⟩) (aC_recvX I) I hl.1 dX2_digest_98 rfl rfl (Nat.le_of_ble_eq_true rfl) ⟨by first | decide | (dsimp only; omega), by first | decide | (dsimp only; omega)⟩ (fun H locs I => ?_)
        refine lv_lstore_n (lv' := [(1, .long (aq_dgArch n Q i d)), (3, .int (nI i)), (0, .ref (ad 0))]) S.1 S.2.1 dX2_digest_101 rfl hl (by decide) rfl (fun ls hl => ?_)
        refine lv_iinc (v := nI (i + 1)) (lv' := [(3, .int (nI (i + 1))), (1, .long (aq_dgArch n Q i d)), (0, .ref (ad 0))]) S.1 S.2.1 dX2_digest_102 hl (k := 1) rfl (nI_1 _) (by decide) rfl (fun ls hl => ?_)
        refine lv_goto (tgt := 84) S.1 S.2.1 dX2_digest_105 (by decide) ?_
        exact ih (i + 1) (aq_dgArch n Q i d) (by omega) (by exact hq) _ _ I ls (lv_sub hl [0, 1, 2] rfl)
  have L36 : ∀ (k : Nat) (w : Nat) (d : Int64), (w + k = 24) → (aq_dgT (V 2) k w d = aq_dgT (V 2) 24 0 (aq_dgF (aq_countNo n Q) 12 0 601)) → ∀ (H : Heap) (locs : List Loc), aq_I D (aC_t cI cQ) (aq_A 49 ad) (aC_w ad cI cQ (aq_ug V 0 Q)) s H locs → ∀ ls : Array Slot, lv_has ls 4 [(3, .int (nI w)), (1, .long d), (0, .ref (ad 0))] → W p l e ({ frames := 4, cells := 0, slots := 0, locals := 92 } : Room) s m (([.ref (ad 0)] : List Value).toArray) below meth c H locs 0 0 (MQ below ((aq_Ql D (aC_t cI cQ) 49 ad (aq_digest n (V 2) Q) (aC_w ad cI cQ (aq_ug V 0 Q))) s.heap.size) (([.ref (ad 0)] : List Value).toArray) s 0 0 (aq_A 49 ad s.heap.size)) (F0 m 36 ls []) := by
    intro k
    induction k with
    | zero =>
      intro w d hk hq H locs I ls hl
      refine lv_iload_n S.1 S.2.1 dX2_digest_36 rfl (lv_at hl 0 rfl) ?_
      refine lv_bipush (v := 24) S.1 S.2.1 dX2_digest_37 (by decide) ?_
      refine lv_icmp_ge (tgt := 82) S.1 S.2.1 dX2_digest_39 (by decide) (fun c3 => ?_) (fun c3 => ?_)
      · have c3 : 24 ≤ w := (nI_leI (a := 24) (b := w) (by omega) (by omega)).mp c3
        refine lv_iconst (v := 0) S.1 S.2.1 dX2_digest_82 (by decide) ?_
        refine lv_istore_n (lv' := [(3, .int 0), (1, .long d), (0, .ref (ad 0))]) S.1 S.2.1 dX2_digest_83 rfl hl (by decide) rfl (fun ls hl => ?_)
        exact L84 n 0 d (by omega) (congrArg (aq_dgAll n Q n 0) hq) _ _ I ls (lv_sub hl [0, 1, 2] rfl)
      · have c3 : w < 24 := Nat.lt_of_not_le (fun z9 => c3 ((nI_leI (a := 24) (b := w) (by omega) (by omega)).mpr z9))
        exfalso; omega
    | succ k ih =>
      intro w d hk hq H locs I ls hl
      refine lv_iload_n S.1 S.2.1 dX2_digest_36 rfl (lv_at hl 0 rfl) ?_
      refine lv_bipush (v := 24) S.1 S.2.1 dX2_digest_37 (by decide) ?_
      refine lv_icmp_ge (tgt := 82) S.1 S.2.1 dX2_digest_39 (by decide) (fun c4 => ?_) (fun c4 => ?_)
      · have c4 : 24 ≤ w := (nI_leI (a := 24) (b := w) (by omega) (by omega)).mp c4
        exfalso; omega
      · have c4 : w < 24 := Nat.lt_of_not_le (fun z9 => c4 ((nI_leI (a := 24) (b := w) (by omega) (by omega)).mpr z9))
        refine lv_lload_n S.1 S.2.1 dX2_digest_42 rfl (lv_at hl 1 rfl) ?_
        refine lv_ldc2 (v := 31) S.1 S.2.1 S.2.2.2.1 (S.2.2.2.2 _ (List.mem_of_getElem? (i := 2) rfl)) dX2_digest_43 ?_
        refine lv_lmul S.1 S.2.1 dX2_digest_46 ?_
        refine lv_aload_n S.1 S.2.1 dX2_digest_47 rfl (lv_at hl 2 rfl) ?_
        refine aC_getX S I 0 (by decide) in_X2_digest_X2 (List.mem_of_getElem? (i := 3) rfl) dX2_digest_48 ?_
        refine aC_getT (j := 0) S I (by decide) 0 (by decide) in_X2_digest_X0 (List.mem_of_getElem? (i := 4) rfl) dX2_digest_51 ?_
        refine lv_iload_n S.1 S.2.1 dX2_digest_54 rfl (lv_at hl 0 rfl) ?_
        refine aC_tld (t := 0) (j := 0) (k := w) (x := (V 2) 0 w) S I (by decide) (by decide) rfl (by omega) (show (aq_ug V 0 Q) 2 0 w = _ from by rw [aq_ug_n _ _ (by first | decide | omega)]) dX2_digest_55 ?_
        refine lv_i2l (v := Int32.toInt64 ((V 2) 0 w)) S.1 S.2.1 dX2_digest_56 rfl ?_
        refine lv_ladd S.1 S.2.1 dX2_digest_57 ?_
        refine lv_lstore_n (lv' := [(1, .long ((d * 31) + (Int32.toInt64 ((V 2) 0 w)))), (3, .int (nI w)), (0, .ref (ad 0))]) S.1 S.2.1 dX2_digest_58 rfl hl (by decide) rfl (fun ls hl => ?_)
        refine lv_lload_n S.1 S.2.1 dX2_digest_59 rfl (lv_at hl 0 rfl) ?_
        refine lv_ldc2 (v := 31) S.1 S.2.1 S.2.2.2.1 (S.2.2.2.2 _ (List.mem_of_getElem? (i := 2) rfl)) dX2_digest_60 ?_
        refine lv_lmul S.1 S.2.1 dX2_digest_63 ?_
        refine lv_aload_n S.1 S.2.1 dX2_digest_64 rfl (lv_at hl 2 rfl) ?_
        refine aC_getX S I 0 (by decide) in_X2_digest_X2 (List.mem_of_getElem? (i := 3) rfl) dX2_digest_65 ?_
        refine aC_getT (j := 0) S I (by decide) 1 (by decide) in_X2_digest_X0 (List.mem_of_getElem? (i := 5) rfl) dX2_digest_68 ?_
        refine lv_iload_n S.1 S.2.1 dX2_digest_71 rfl (lv_at hl 1 rfl) ?_
        refine aC_tld (t := 1) (j := 0) (k := w) (x := (V 2) 1 w) S I (by decide) (by decide) rfl (by omega) (show (aq_ug V 0 Q) 2 1 w = _ from by rw [aq_ug_n _ _ (by first | decide | omega)]) dX2_digest_72 ?_
        refine lv_i2l (v := Int32.toInt64 ((V 2) 1 w)) S.1 S.2.1 dX2_digest_73 rfl ?_
        refine lv_ladd S.1 S.2.1 dX2_digest_74 ?_
        refine lv_lstore_n (lv' := [(1, .long ((((d * 31) + (Int32.toInt64 ((V 2) 0 w))) * 31) + (Int32.toInt64 ((V 2) 1 w)))), (3, .int (nI w)), (0, .ref (ad 0))]) S.1 S.2.1 dX2_digest_75 rfl hl (by decide) rfl (fun ls hl => ?_)
        refine lv_iinc (v := nI (w + 1)) (lv' := [(3, .int (nI (w + 1))), (1, .long ((((d * 31) + (Int32.toInt64 ((V 2) 0 w))) * 31) + (Int32.toInt64 ((V 2) 1 w)))), (0, .ref (ad 0))]) S.1 S.2.1 dX2_digest_76 hl (k := 1) rfl (nI_1 _) (by decide) rfl (fun ls hl => ?_)
        refine lv_goto (tgt := 36) S.1 S.2.1 dX2_digest_79 (by decide) ?_
        exact ih (w + 1) ((((d * 31) + (Int32.toInt64 ((V 2) 0 w))) * 31) + (Int32.toInt64 ((V 2) 1 w))) (by omega) (by exact hq) _ _ I ls (lv_sub hl [0, 1, 2] rfl)
  have L6 : ∀ (k : Nat) (w : Nat) (d : Int64), (w + k = 12) → (aq_dgF (aq_countNo n Q) k w d = aq_dgF (aq_countNo n Q) 12 0 601) → ∀ (H : Heap) (locs : List Loc), aq_I D (aC_t cI cQ) (aq_A 49 ad) (aC_w ad cI cQ (aq_ug V 0 Q)) s H locs → ∀ ls : Array Slot, lv_has ls 4 [(3, .int (nI w)), (1, .long d), (0, .ref (ad 0))] → W p l e ({ frames := 4, cells := 0, slots := 0, locals := 92 } : Room) s m (([.ref (ad 0)] : List Value).toArray) below meth c H locs 0 0 (MQ below ((aq_Ql D (aC_t cI cQ) 49 ad (aq_digest n (V 2) Q) (aC_w ad cI cQ (aq_ug V 0 Q))) s.heap.size) (([.ref (ad 0)] : List Value).toArray) s 0 0 (aq_A 49 ad s.heap.size)) (F0 m 6 ls []) := by
    intro k
    induction k with
    | zero =>
      intro w d hk hq H locs I ls hl
      refine lv_iload_n S.1 S.2.1 dX2_digest_6 rfl (lv_at hl 0 rfl) ?_
      refine lv_bipush (v := 12) S.1 S.2.1 dX2_digest_7 (by decide) ?_
      refine lv_icmp_ge (tgt := 34) S.1 S.2.1 dX2_digest_9 (by decide) (fun c5 => ?_) (fun c5 => ?_)
      · have c5 : 12 ≤ w := (nI_leI (a := 12) (b := w) (by omega) (by omega)).mp c5
        refine lv_iconst (v := 0) S.1 S.2.1 dX2_digest_34 (by decide) ?_
        refine lv_istore_n (lv' := [(3, .int 0), (1, .long d), (0, .ref (ad 0))]) S.1 S.2.1 dX2_digest_35 rfl hl (by decide) rfl (fun ls hl => ?_)
        exact L36 24 0 d (by omega) (congrArg (aq_dgT (V 2) 24 0) hq) _ _ I ls (lv_sub hl [0, 1, 2] rfl)
      · have c5 : w < 12 := Nat.lt_of_not_le (fun z9 => c5 ((nI_leI (a := 12) (b := w) (by omega) (by omega)).mpr z9))
        exfalso; omega
    | succ k ih =>
      intro w d hk hq H locs I ls hl
      refine lv_iload_n S.1 S.2.1 dX2_digest_6 rfl (lv_at hl 0 rfl) ?_
      refine lv_bipush (v := 12) S.1 S.2.1 dX2_digest_7 (by decide) ?_
      refine lv_icmp_ge (tgt := 34) S.1 S.2.1 dX2_digest_9 (by decide) (fun c6 => ?_) (fun c6 => ?_)
      · have c6 : 12 ≤ w := (nI_leI (a := 12) (b := w) (by omega) (by omega)).mp c6
        exfalso; omega
      · have c6 : w < 12 := Nat.lt_of_not_le (fun z9 => c6 ((nI_leI (a := 12) (b := w) (by omega) (by omega)).mpr z9))
        refine lv_lload_n S.1 S.2.1 dX2_digest_12 rfl (lv_at hl 1 rfl) ?_
        refine lv_ldc2 (v := 31) S.1 S.2.1 S.2.2.2.1 (S.2.2.2.2 _ (List.mem_of_getElem? (i := 2) rfl)) dX2_digest_13 ?_
        refine lv_lmul S.1 S.2.1 dX2_digest_16 ?_
        refine lv_aload_n S.1 S.2.1 dX2_digest_17 rfl (lv_at hl 2 rfl) ?_
        refine aC_getX S I 0 (by decide) in_X2_digest_X2 (List.mem_of_getElem? (i := 3) rfl) dX2_digest_18 ?_
        refine lv_iload_n S.1 S.2.1 dX2_digest_21 rfl (lv_at hl 0 rfl) ?_
        refine aq_callVi (As := [.int (nI w)]) (rest := [.long (d * 31)]) S (c_X0_countNumber l hJ (V := V) (Q := Q) (j := 0) (by decide) hn hn20 (w := w) (by omega) ) (cwV 1 S.2.2.2.2 gX2_digest_X0_countNumber rfl rfl rfl (by decide +kernel) ⟨Nat.le_of_ble_eq_true rfl, Nat.le_of_ble_eq_true rfl⟩) (aC_recvS (j := 0) I (by decide)) I hl.1 dX2_digest_22 rfl rfl (Nat.le_of_ble_eq_true rfl) ⟨by first | decide | (dsimp only; omega), by first | decide | (dsimp only; omega)⟩ (fun H locs I => ?_)
        refine lv_i2l (v := Int32.toInt64 (aq_countNo n Q w)) S.1 S.2.1 dX2_digest_25 rfl ?_
        refine lv_ladd S.1 S.2.1 dX2_digest_26 ?_
        refine lv_lstore_n (lv' := [(1, .long ((d * 31) + (Int32.toInt64 (aq_countNo n Q w)))), (3, .int (nI w)), (0, .ref (ad 0))]) S.1 S.2.1 dX2_digest_27 rfl hl (by decide) rfl (fun ls hl => ?_)
        refine lv_iinc (v := nI (w + 1)) (lv' := [(3, .int (nI (w + 1))), (1, .long ((d * 31) + (Int32.toInt64 (aq_countNo n Q w)))), (0, .ref (ad 0))]) S.1 S.2.1 dX2_digest_28 hl (k := 1) rfl (nI_1 _) (by decide) rfl (fun ls hl => ?_)
        refine lv_goto (tgt := 6) S.1 S.2.1 dX2_digest_31 (by decide) ?_
        exact ih (w + 1) ((d * 31) + (Int32.toInt64 (aq_countNo n Q w))) (by omega) (by exact hq) _ _ I ls (lv_sub hl [0, 1, 2] rfl)
  refine lv_ldc2 (v := 601) S.1 S.2.1 S.2.2.2.1 (S.2.2.2.2 _ (List.mem_of_getElem? (i := 1) rfl)) dX2_digest_0 ?_
  refine lv_lstore_n (lv' := [(1, .long 601), (0, .ref (ad 0))]) S.1 S.2.1 dX2_digest_3 rfl hl (by decide) rfl (fun ls hl => ?_)
  refine lv_iconst (v := 0) S.1 S.2.1 dX2_digest_4 (by decide) ?_
  refine lv_istore_n (lv' := [(3, .int 0), (1, .long 601), (0, .ref (ad 0))]) S.1 S.2.1 dX2_digest_5 rfl hl (by decide) rfl (fun ls hl => ?_)
  exact L6 12 0 601 (by omega) rfl _ _ I ls (lv_sub hl [0, 1, 2] rfl)
end
