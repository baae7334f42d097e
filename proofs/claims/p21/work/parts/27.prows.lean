/-! the law's world: the object's 49 cells, and the script as it was -/
def pl_W (D : va_G) (cI cQ : ClassId) (ad : Nat → Nat) (V : aq_V) (s : State) (H : Heap) : Prop := va_K D vwCl (aC_t cI cQ) s ∧ va_P D vwCl (aC_w ad cI cQ V) H
abbrev pl_S (s : State) (H : Heap) (locs : List Loc) : Prop := va_S (fun q : Nat => s.heap.size ≤ q) s.heap H locs
def pl_D (ad : Nat → Nat) (sz : Nat) : Prop := aq_J 49 ad ∧ ∀ c, c < 49 → sz ≤ ad c
abbrev pl_E (U : State) : Prop := aq_TE (fun q => U.heap.size ≤ q) U U.heap
theorem pl_TE_drawn {A : Nat → Prop} {U : State} (d : Drawn) (h : aq_TE A U U.heap) : aq_TE A (U.setDrawn d) U.heap := by
  obtain ⟨⟨a1, a2, a3⟩, ⟨b1, b2, b3⟩, ⟨c1, c2⟩, ⟨_, d1⟩, ⟨_, d2⟩, ⟨_, d3⟩, ⟨_, d4⟩, ⟨_, d5⟩, ⟨_, d6⟩, ⟨_, d7⟩⟩ := h
  exact ⟨⟨va_Nw.same rfl (u := U) rfl a1, va_Nw.same rfl (u := U) rfl a2, va_Nw.same rfl (u := U) rfl a3⟩, ⟨va_Nw.same rfl (u := U) rfl b1, va_Nw.same rfl (u := U) rfl b2, va_Nw.same rfl (u := U) rfl b3⟩, ⟨vx_Zq.moved (u := U) (U := U.setDrawn d) (Vm.Alike.refl U.vm) c1, vx_Zq.moved (u := U) (U := U.setDrawn d) (Vm.Alike.refl U.vm) c2⟩,
    ⟨_, vk_R.same (u := U) rfl d1⟩, ⟨_, vk_R.same (u := U) rfl d2⟩, ⟨_, vk_R.same (u := U) rfl d3⟩, ⟨_, vk_R.same (u := U) rfl d4⟩, ⟨_, vk_R.same (u := U) rfl d5⟩, ⟨_, vk_R.same (u := U) rfl d6⟩, ⟨_, vk_R.same (u := U) rfl d7⟩⟩
theorem pl_Ed {U : State} (d : Drawn) (h : pl_E U) : pl_E (U.setDrawn d) := pl_TE_drawn d h
/-- a call that throws nothing here -/
theorem pl_met {l : Launch} {y : MethodName} {ws : List Cond} {rm : Room} {D : va_G} {tys : List (ClassId × FieldType)} {N : Nat} {ad : Nat → Nat} {As : List Value} {w w' : va_W} {κ : Nat} {r : Int32} {mc ms : Nat} (hM : aq_MetX l y ws rm D tys N ad As w κ (aq_QiX D tys N ad κ r w') mc ms) (h0 : κ = 0) (sz : Nat) : Met l y ws rm (aq_PcX D tys N ad As w sz) (aq_Qi D tys N ad r w' sz) mc ms (aq_A N ad sz) := by
  refine MetFree.mono (hM sz) (fun _ _ h => h) (fun _ _ _ _ _ h => h) (fun a s o t _ h => ?_)
  rcases h with ⟨⟨⟨x, u, h1, h2, h3⟩, h4⟩, h5⟩ | ⟨q, h1, E, ce, L, ⟨u, h2, h3, h4⟩, h5⟩
  · exact ⟨⟨⟨x, u, h1, h2.2, h3⟩, h4⟩, h5⟩
  · exact absurd h0 h3.1.1
section PLA
variable {p : Program} {l : Launch} {e : Env} {R : Room} {s : State} {m : MethodId} {args : Array Value} {below : List Frame} {meth : Method} {c : Code} {H : Heap} {locs : List Loc} {cells slots : Nat} {Q : State → Prop}
variable {cc bytes : ByteArray} {maxL nL mc1 ms1 n index pc κ : Nat} {ad : Nat → Nat} {ls : Array Slot} {st rest : List Value} {ret : Option FieldType} {ws Ts : List Cond} {rm : Room} {y : MethodName} {own : String} {D : va_G} {cI cQ : ClassId} {As : List Value} {V V1 : aq_V}
theorem pl_free (hD : pl_D ad s.heap.size) (hS : pl_S s H locs) : ∀ q, aq_A 49 ad H.size q → s.heap.size ≤ q := fun q h => by
  rcases h with ⟨c2, h2, rfl⟩ | h
  · exact hD.2 c2 h2
  · exact Nat.le_trans hS.1 h
theorem pl_recv (Wd : pl_W D cI cQ ad V s H) : ∃ cell : Cell, H[ad 0]? = some cell ∧ cell.vm.isStatics = false ∧ s.vm.findClass RX2 = some cell.cls :=
  va_recv Wd.1 Wd.2 (q0 := 0) (ci := 2) (q := (RX2, TX2, 2)) rfl (by rw [aq_w_at (by decide)]; rfl)
theorem pl_callX {r : Int32} (S : CallFix p m c cc nL s args Ts own) (E : pl_E s) (hD : pl_D ad s.heap.size) (hM : aq_MetX l y ws rm D (aC_t cI cQ) 49 ad (.ref (ad 0) :: As) (aC_w ad cI cQ V) κ (aq_QiX D (aC_t cI cQ) 49 ad κ r (aC_w ad cI cQ V1)) mc1 ms1) (h0 : κ = 0) (cw : CallW R s args own RX2 index y bytes maxL ret ws rm mc1 ms1 n) (Wd : pl_W D cI cQ ad V s H) (hS : pl_S s H locs)
    (hsz : ls.size = nL) (hdg : decode cc pc = .ok (.invokevirtual index, 3)) (hn : As.length = n) (hst : st = As.reverse ++ .ref (ad 0) :: rest) (hW : (rest.map fun v => v.category).sum ≤ 8) (hf : cells + mc1 ≤ R.cells ∧ slots + ms1 ≤ R.slots)
    (kk : ∀ (H1 : Heap) (locs1 : List Loc), pl_W D cI cQ ad V1 s H1 → pl_S s H1 locs1 → W p l e R s m args below meth c H1 locs1 (cells + mc1) (slots + ms1) Q (F0 m (pc + 3) ls (.int r :: rest))) : W p l e R s m args below meth c H locs cells slots Q (F0 m pc ls st) := by
  refine va_calli (va_runV S (pl_met hM h0 H.size) cw ⟨aq_blindX, pl_recv Wd, fun U hU hW => ⟨rfl, by rw [hU], ⟨va_K.moved hW.alike Wd.1, by rw [hU]; exact Wd.2⟩, by rw [hU]; exact E.warm hW hS.2.1 (pl_free hD hS)⟩⟩ rfl hn hsz hst (lv_room hW) hdg hf) hS (fun q _ h => pl_free hD hS q h) (pl_free hD hS) (fun x u t H1 locs1 ht hvm hx hB hz hk hS1 => ?_)
  subst hx
  exact kk H1 locs1 ⟨Wd.1, by rw [← ht]; exact hB.2⟩ hS1
theorem pl_call {r : Int32} (S : CallFix p m c cc nL s args Ts own) (hD : pl_D ad s.heap.size) (hM : aq_Met l y ws rm D (aC_t cI cQ) 49 ad (.ref (ad 0) :: As) (aC_w ad cI cQ V) (aq_Qi D (aC_t cI cQ) 49 ad r (aC_w ad cI cQ V1)) mc1 ms1) (cw : CallW R s args own RX2 index y bytes maxL ret ws rm mc1 ms1 n) (Wd : pl_W D cI cQ ad V s H) (hS : pl_S s H locs)
    (hsz : ls.size = nL) (hdg : decode cc pc = .ok (.invokevirtual index, 3)) (hn : As.length = n) (hst : st = As.reverse ++ .ref (ad 0) :: rest) (hW : (rest.map fun v => v.category).sum ≤ 8) (hf : cells + mc1 ≤ R.cells ∧ slots + ms1 ≤ R.slots)
    (kk : ∀ (H1 : Heap) (locs1 : List Loc), pl_W D cI cQ ad V1 s H1 → pl_S s H1 locs1 → W p l e R s m args below meth c H1 locs1 (cells + mc1) (slots + ms1) Q (F0 m (pc + 3) ls (.int r :: rest))) : W p l e R s m args below meth c H locs cells slots Q (F0 m pc ls st) := by
  refine va_calli (va_runV S (hM H.size) cw ⟨aq_blind, pl_recv Wd, fun U hU hW => ⟨rfl, by rw [hU], va_K.moved hW.alike Wd.1, by rw [hU]; exact Wd.2⟩⟩ rfl hn hsz hst (lv_room hW) hdg hf) hS (fun q _ h => pl_free hD hS q h) (pl_free hD hS) (fun x u t H1 locs1 ht hvm hx hB hz hk hS1 => ?_)
  subst hx
  exact kk H1 locs1 ⟨Wd.1, by rw [← ht]; exact hB.2⟩ hS1
theorem pl_calll {r : Int64} (S : CallFix p m c cc nL s args Ts own) (hD : pl_D ad s.heap.size) (hM : aq_Met l y ws rm D (aC_t cI cQ) 49 ad (.ref (ad 0) :: As) (aC_w ad cI cQ V) (aq_Ql D (aC_t cI cQ) 49 ad r (aC_w ad cI cQ V1)) mc1 ms1) (cw : CallW R s args own RX2 index y bytes maxL ret ws rm mc1 ms1 n) (Wd : pl_W D cI cQ ad V s H) (hS : pl_S s H locs)
    (hsz : ls.size = nL) (hdg : decode cc pc = .ok (.invokevirtual index, 3)) (hn : As.length = n) (hst : st = As.reverse ++ .ref (ad 0) :: rest) (hW : (rest.map fun v => v.category).sum ≤ 8) (hf : cells + mc1 ≤ R.cells ∧ slots + ms1 ≤ R.slots)
    (kk : ∀ (H1 : Heap) (locs1 : List Loc), pl_W D cI cQ ad V1 s H1 → pl_S s H1 locs1 → W p l e R s m args below meth c H1 locs1 (cells + mc1) (slots + ms1) Q (F0 m (pc + 3) ls (.long r :: rest))) : W p l e R s m args below meth c H locs cells slots Q (F0 m pc ls st) := by
  refine va_calll (va_runV S (hM H.size) cw ⟨aq_blind, pl_recv Wd, fun U hU hW => ⟨rfl, by rw [hU], va_K.moved hW.alike Wd.1, by rw [hU]; exact Wd.2⟩⟩ rfl hn hsz hst (lv_room hW) hdg hf) hS (fun q _ h => pl_free hD hS q h) (pl_free hD hS) (fun x u t H1 locs1 ht hvm hx hB hz hk hS1 => ?_)
  subst hx
  exact kk H1 locs1 ⟨Wd.1, by rw [← ht]; exact hB.2⟩ hS1
theorem pl_calld {r : UInt64 → Prop} {d0 : Drawn} (hd0 : s.drawn.sameBut d0 lw_cs) (S : CallFix p m c cc nL (s.setDrawn d0) args Ts own) (hD : pl_D ad s.heap.size) (hM : aq_MetD l y ws rm D (aC_t cI cQ) 49 ad (.ref (ad 0) :: As) (aC_w ad cI cQ V) (aq_Qd D (aC_t cI cQ) 49 ad r (aC_w ad cI cQ V1)) mc1 ms1) (cw : CallW R (s.setDrawn d0) args own RX2 index y bytes maxL ret ws rm mc1 ms1 n) (Wd : pl_W D cI cQ ad V s H) (hS : pl_S s H locs)
    (hsz : ls.size = nL) (hdg : decode cc pc = .ok (.invokevirtual index, 3)) (hn : As.length = n) (hst : st = As.reverse ++ .ref (ad 0) :: rest) (hW : (rest.map fun v => v.category).sum ≤ 8) (hf : cells + mc1 ≤ R.cells ∧ slots + ms1 ≤ R.slots)
    (kk : ∀ (x : UInt64) (H1 : Heap) (locs1 : List Loc) (d1 : Drawn), s.drawn.sameBut d1 lw_cs → r x → pl_W D cI cQ ad V1 s H1 → pl_S s H1 locs1 → W p l e R (s.setDrawn d1) m args below meth c H1 locs1 (cells + mc1) (slots + ms1) Q (F0 m (pc + 3) ls (.double x :: rest))) : W p l e R (s.setDrawn d0) m args below meth c H locs cells slots Q (F0 m pc ls st) := by
  refine va_calldD hd0 (va_runV_D S (hM H.size) cw ⟨aq_blind, pl_recv (s := s.setDrawn d0) Wd, fun U hU hW => ⟨rfl, by rw [hU], va_K.moved hW.alike Wd.1, by rw [hU]; exact Wd.2⟩⟩ rfl hn hsz hst (lv_room hW) hdg hf) hS (fun q _ h => pl_free hD hS q h) (pl_free hD hS) (fun x u t H1 locs1 ht hvm hx hB hz hk hS1 d1 hd1 => ?_)
  exact kk x H1 locs1 d1 hd1 hx ⟨Wd.1, by rw [← ht]; exact hB.2⟩ hS1
end PLA
/-! the law's two small helpers -/
set_option maxHeartbeats 4000000 in
set_option maxRecDepth 100000 in
theorem c_L_below (l : Launch) (v : Int32) {n : Nat} (hn0 : 0 < n) (hn : n < 2 ^ 31) : Met l yL_below wsL_below ({ frames := 0, cells := 0, slots := 0, locals := 0 }) (va_Pc [.int v, .int (nI n)] (fun _ => True)) (va_Qi (fun (x : Int32) (_ : Unit) => ∃ k : Nat, k < n ∧ x = nI k) (fun _ _ => True) (fun _ => False)) 0 0 (fun _ => False) := by
  refine Met.ofW (cc := cL_below) (maxL := 2) (ret := some .int) (by decide) rfl ?_
  intro p e s m args below meth c s₁ B hml hv
  obtain ⟨rfl, -⟩ := hv
  have hx := B.exec
  have hb := B.bytes
  have hr := B.returns
  have hts := atoms_spec (ws := wsL_below) B.pre
  have hown : s.vm.findClass RL = some m.cls := findClass_of_methodNamed B.named
  have hl := lv_entry ([.int v, .int (nI n)]) (n := 2) (Nat.le_of_ble_eq_true rfl)
  rw [lg_entry_eq]
  generalize (lg_sl ([.int v, .int (nI n)]) ++ List.replicate (2 - (lg_sl ([.int v, .int (nI n)])).length) Slot.unset).toArray = ls at hl ⊢
  have hl : lv_has ls 2 [(0, .int v), (1, .int (nI n))] := hl
  refine lv_iload_n hx hb dL_below_0 rfl (lv_at hl 0 rfl) ?_
  refine lv_ldc (v := 2147483647) hx hb hown (hts _ (List.mem_of_getElem? (i := 1) rfl)) dL_below_1 ?_
  refine lv_iand hx hb dL_below_3 ?_
  obtain ⟨j, hj, ej⟩ := pk_andE v (m := 2147483647) 31 (by decide)
  rw [ej]
  refine lv_iload_n hx hb dL_below_4 rfl (lv_at hl 1 rfl) ?_
  refine lv_irem hx hb dL_below_5 (fun z => ?_) ?_
  · have := (nI_eq (a := n) (b := 0) hn (by decide)).mp z
    omega
  refine lv_topi (fun x (ex : x = nI j - nI j / nI n * nI n) => ?_)
  rw [pk_rem hj hn0 hn] at ex
  subst ex
  exact W.iret (v := nI (j % n)) hx hb hr (fun t ht hW => ⟨⟨nI (j % n), (), rfl, ⟨j % n, Nat.mod_lt _ hn0, rfl⟩, trivial⟩, (va_S.rf (A := fun _ => False) (H0 := s.heap)).F ht⟩) (fun q hq => absurd hq List.not_mem_nil) dL_below_6
set_option maxHeartbeats 4000000 in
set_option maxRecDepth 100000 in
theorem c_L_cell (l : Launch) {b L k : Nat} {xs : Nat → Int32} (hk : k < 2 ^ 31) (hL : L < 2 ^ 31) : Met l yL_cell wsL_cell ({ frames := 0, cells := 0, slots := 0, locals := 0 }) (va_Pc [.ref b, .int (nI k)] (fun U => va_X b L xs U U.heap)) (va_Qi (fun (_ : Int32) (_ : Unit) => True) (fun _ _ => True) (fun _ => False)) 0 0 (fun _ => False) := by
  refine Met.ofW (cc := cL_cell) (maxL := 2) (ret := some .int) (by decide) rfl ?_
  intro p e s m args below meth c s₁ B hml hv
  obtain ⟨rfl, hX⟩ := hv
  have hx := B.exec
  have hb := B.bytes
  have hr := B.returns
  have hts := atoms_spec (ws := wsL_cell) B.pre
  have hown : s.vm.findClass RL = some m.cls := findClass_of_methodNamed B.named
  have hbl : b < s.heap.size := by
    obtain ⟨scr, h1, -⟩ := id hX
    exact (Array.getElem?_eq_some_iff.mp h1).1
  have hS : va_S (fun _ => False) s.heap s.heap [] := va_S.rf
  have hl := lv_entry ([.ref b, .int (nI k)]) (n := 2) (Nat.le_of_ble_eq_true rfl)
  rw [lg_entry_eq]
  generalize (lg_sl ([.ref b, .int (nI k)]) ++ List.replicate (2 - (lg_sl ([.ref b, .int (nI k)])).length) Slot.unset).toArray = ls at hl ⊢
  have hl : lv_has ls 2 [(0, .ref b), (1, .int (nI k))] := hl
  have fin : ∀ v : Int32, W p l e ({ frames := 0, cells := 0, slots := 0, locals := 0 } : Room) s m (([.ref b, .int (nI k)] : List Value).toArray) below meth c s.heap [] 0 0 (MQ below (va_Qi (fun (_ : Int32) (_ : Unit) => True) (fun _ _ => True) (fun _ => False)) (([.ref b, .int (nI k)] : List Value).toArray) s 0 0 (fun _ => False)) (F0 m 18 ls [.int v]) := fun v =>
    W.iret (v := v) hx hb hr (fun t ht hW => ⟨⟨v, (), rfl, trivial, trivial⟩, hS.F ht⟩) (fun q hq => absurd hq List.not_mem_nil) dL_cell_18
  refine lv_iload_n hx hb dL_cell_0 rfl (lv_at hl 1 rfl) ?_
  refine lv_aload_n hx hb dL_cell_1 rfl (lv_at hl 0 rfl) ?_
  refine va_slen hx hb hX hbl (fun h => h) hS dL_cell_2 ?_
  refine lv_icmp_ge (tgt := 12) hx hb dL_cell_3 (by decide) (fun _ => ?_) (fun c1 => ?_)
  · refine lv_ldc (v := 790386105) hx hb hown (hts _ (List.mem_of_getElem? (i := 1) rfl)) dL_cell_12 ?_
    refine lv_iload_n hx hb dL_cell_14 rfl (lv_at hl 1 rfl) ?_
    refine lv_iconst (v := 3) hx hb dL_cell_15 (by decide) ?_
    refine lv_iadd hx hb dL_cell_16 ?_
    refine lv_imul hx hb dL_cell_17 ?_
    exact fin _
  · have hkL : k < L := Nat.lt_of_not_le (fun z => c1 ((nI_leI hL hk).mpr z))
    refine lv_aload_n hx hb dL_cell_6 rfl (lv_at hl 0 rfl) ?_
    refine lv_iload_n hx hb dL_cell_7 rfl (lv_at hl 1 rfl) ?_
    refine va_sld hx hb hX hbl (fun h => h) hS (vp_in_nI hkL hL) dL_cell_8 ?_
    refine lv_goto (tgt := 18) hx hb dL_cell_9 (by decide) ?_
    exact fin _
section PLB
variable {p : Program} {l : Launch} {e : Env} {R : Room} {s : State} {m : MethodId} {args : Array Value} {below : List Frame} {meth : Method} {c : Code} {H : Heap} {locs : List Loc} {cells slots : Nat} {Q : State → Prop}
variable {cc : ByteArray} {nL n k index pc b L : Nat} {xs : Nat → Int32} {ad : Nat → Nat} {ls : Array Slot} {rest : List Value} {Ts : List Cond} {own : String} {D : va_G} {cI cQ : ClassId} {V : aq_V} {bytes : ByteArray} {maxL : Nat} {ret : Option FieldType}
theorem pl_below {v w : Int32} (S : CallFix p m c cc nL s args Ts own) (hw : w = nI n) (hn0 : 0 < n) (hn : n < 2 ^ 31) (cw : CallB R s args own index yL_below bytes maxL ret wsL_below ({ frames := 0, cells := 0, slots := 0, locals := 0 }) 0 0 2 ∧ (Cond.static yL_below).before args s = true) (Wd : pl_W D cI cQ ad V s H) (hS : pl_S s H locs)
    (hsz : ls.size = nL) (hdg : decode cc pc = .ok (.invokestatic index, 3)) (hW : (rest.map fun v => v.category).sum ≤ 8) (hf : cells ≤ R.cells ∧ slots ≤ R.slots)
    (kk : ∀ k : Nat, k < n → ∀ (H1 : Heap) (locs1 : List Loc), pl_W D cI cQ ad V s H1 → pl_S s H1 locs1 → W p l e R s m args below meth c H1 locs1 cells slots Q (F0 m (pc + 3) ls (.int (nI k) :: rest))) : W p l e R s m args below meth c H locs cells slots Q (F0 m pc ls (.int w :: .int v :: rest)) := by
  subst hw
  refine va_calli (va_runS (As := [.int v, .int (nI n)]) (rest := rest) S (c_L_below l v hn0 hn) cw ⟨fun a U g mk z => z, fun U hU hW => ⟨rfl, trivial⟩⟩ rfl rfl hsz rfl (lv_room hW) hdg hf) hS (fun z _ h => h.elim) (fun z h => h.elim) (fun x u t H1 locs1 ht hvm hx hB hz hk hS1 => ?_)
  obtain ⟨k, hk1, rfl⟩ := hx
  exact kk k hk1 H1 locs1 ⟨Wd.1, Wd.2.kept (fun i z hz => hk _ ((Wd.2 i z hz).lt) (fun h => h))⟩ hS1
theorem pl_cell {w : Int32} (S : CallFix p m c cc nL s args Ts own) (hw : w = nI k) (hk : k < 2 ^ 31) (hL : L < 2 ^ 31) (hX : va_X b L xs s s.heap) (hbl : b < s.heap.size) (cw : CallB R s args own index yL_cell bytes maxL ret wsL_cell ({ frames := 0, cells := 0, slots := 0, locals := 0 }) 0 0 2 ∧ (Cond.static yL_cell).before args s = true) (Wd : pl_W D cI cQ ad V s H) (hS : pl_S s H locs)
    (hsz : ls.size = nL) (hdg : decode cc pc = .ok (.invokestatic index, 3)) (hW : (rest.map fun v => v.category).sum ≤ 8) (hf : cells ≤ R.cells ∧ slots ≤ R.slots)
    (kk : ∀ (x : Int32) (H1 : Heap) (locs1 : List Loc), pl_W D cI cQ ad V s H1 → pl_S s H1 locs1 → W p l e R s m args below meth c H1 locs1 cells slots Q (F0 m (pc + 3) ls (.int x :: rest))) : W p l e R s m args below meth c H locs cells slots Q (F0 m pc ls (.int w :: .ref b :: rest)) := by
  subst hw
  refine va_calli (va_runS (As := [.ref b, .int (nI k)]) (rest := rest) S (c_L_cell l (xs := xs) hk hL) cw ⟨fun a U g mk z => ⟨z.1, z.2.moved (u := U) (U := U.calling g mk a) (Vm.Alike.refl U.vm)⟩, fun U hU hW => ⟨rfl, by show va_X b L xs U U.heap; rw [hU]; exact (hX.kept (hS.2.1 b hbl (Nat.not_le.mpr hbl))).moved hW.alike⟩⟩ rfl rfl hsz rfl (lv_room hW) hdg hf) hS (fun z _ h => h.elim) (fun z h => h.elim) (fun x u t H1 locs1 ht hvm hx hB hz hk hS1 => ?_)
  exact kk x H1 locs1 ⟨Wd.1, Wd.2.kept (fun i z hz => hk _ ((Wd.2 i z hz).lt) (fun h => h))⟩ hS1
end PLB
theorem aq_tc_id (V : aq_V) : aq_ug (aq_tc V) 0 (V 0) = aq_tc V := by
  have h := aq_ug_id (aq_tc V) 0
  rw [aq_tc_0] at h
  exact h
/-! none of the law's calls is refused -/
theorem pq_build {n : Nat} {Q : aq_Q} {h z : Int32} (h0 : 0 ≤ h.toInt) (h1 : h.toInt ≤ (aq_top n Q).toInt) (z1 : 1 ≤ z.toInt) (z2 : z.toInt ≤ 40) (hn : n < 20) : aq_buildK n Q h z = 0 := by
  unfold aq_buildK aq_seq
  rw [pw_rg (by rw [pu_0]; exact h0) h1, pw_rg (by rw [pu_1]; exact z1) (by rw [pu_40]; exact z2), if_pos hn]
  rfl
theorem pq_add {n a k : Nat} {Q : aq_Q} (ha : a < n) (hn : n ≤ 20) (k1 : 1 ≤ k) (k2 : k ≤ 30) (h6 : Q 6 a = 0) : aq_addMK n Q (nI a) (nI k) = 0 := by
  unfold aq_addMK aq_seq
  rw [pw_ix ha (by omega), show aq_rgK (nI k) 1 30 = 0 from pw_rn (lo := 1) (hi := 30) k1 k2 (by decide), nI_clamp (by omega), if_pos (pu_hm0.mpr (by rw [h6]; decide))]
  rfl
theorem pq_slu {n a k : Nat} {Q : aq_Q} (ha : a < n) (hn : n ≤ 20) (k2 : k ≤ 10) (h6 : 0 < (Q 6 a).toInt) : aq_sluK n Q (nI a) (nI k) = 0 := by
  have hm : ¬ aq_hasMill Q a = 0 := fun z => by
    have := pu_le0.mp (pu_hm0.mp z)
    omega
  unfold aq_sluK aq_seq
  rw [pw_ix ha (by omega), show aq_rgK (nI k) 0 10 = 0 from pw_rn (lo := 0) (hi := 10) (Nat.zero_le _) k2 (by decide), nI_clamp (by omega), if_pos rfl, if_pos rfl, if_neg hm]
theorem pq_quake {n a k : Nat} (ha : a < n) (hn : n ≤ 20) (k1 : 1 ≤ k) (k2 : k ≤ 50) : aq_quakeK n (nI a) (nI k) = 0 := by
  unfold aq_quakeK aq_seq
  rw [pw_ix ha (by omega), show aq_rgK (nI k) 1 50 = 0 from pw_rn (lo := 1) (hi := 50) k1 k2 (by decide)]
  rfl
theorem pq_set {h w : Nat} (hh : h < 24) (hw : w ≤ 40) : aq_setK (nI h) (nI w) = 0 := by
  unfold aq_setK aq_seq
  rw [show aq_ixK (nI h) 24 = 0 from pw_ix (e := 24) hh (by decide), show aq_rgK (nI w) 0 40 = 0 from pw_rn (lo := 0) (hi := 40) (Nat.zero_le _) hw (by decide)]
  rfl
theorem pq_cis {o : Nat} (ho : o ≤ 500) : aq_rgK (nI o) 0 500 = 0 := pw_rn (lo := 0) (hi := 500) (Nat.zero_le _) ho (by decide)
theorem pq_arch {n a w : Nat} (ha : a < n) (hn : n ≤ 20) (hw : w < 9) : aq_archK n (nI a) (nI w) = 0 := by
  unfold aq_archK aq_seq
  rw [pw_ix ha (by omega), show aq_ixK (nI w) 9 = 0 from pw_ix (e := 9) hw (by decide)]
  rfl
theorem pq_mill {n a w : Nat} (ha : a < n) (hn : n ≤ 20) (hw : w < 4) : aq_millK n (nI a) (nI w) = 0 := by
  unfold aq_millK aq_seq
  rw [pw_ix ha (by omega), show aq_ixK (nI w) 4 = 0 from pw_ix (e := 4) hw (by decide)]
  rfl
theorem pq_cnt {w : Nat} (hw : w < 12) : aq_ixK (nI w) 12 = 0 := pw_ix (e := 12) hw (by decide)
theorem pq_mend {n a : Nat} {Q : aq_Q} (ha : a < n) (hn : n ≤ 20) (h5 : ¬ Q 10 5 ≤ 0) (h3 : ¬ Q 3 a ≤ 0) : aq_mendK n Q (nI a) = 0 := by
  have q1 : ¬ (Q 10 5).toInt ≤ 0 := fun z => h5 (pu_le0.mpr z)
  have q2 : (1 : Int32) ≤ Q 10 5 := Int32.le_iff_toInt_le.mpr (by rw [pu_1]; omega)
  have q3 : ¬ Q 3 a = 0 := fun z => h3 (by rw [z]; decide)
  unfold aq_mendK aq_seq
  rw [pw_ix ha (by omega), nI_clamp (by omega), if_pos q2, if_neg q3]
  rfl
theorem pq_for {z : Nat} (z1 : 1 ≤ z) (z2 : z ≤ 100) : aq_forK (nI z) 0 = 0 := by
  unfold aq_forK aq_seq
  rw [show aq_rgK (nI z) 1 100 = 0 from pw_rn (lo := 1) (hi := 100) z1 z2 (by decide)]
  rfl
theorem pq_adv {z : Nat} (z1 : 1 ≤ z) (z2 : z ≤ 48) : aq_rgK (nI z) 1 48 = 0 := pw_rn (lo := 1) (hi := 48) z1 z2 (by decide)
theorem pq_pass {z : Nat} (z1 : 1 ≤ z) (z2 : z ≤ 100) : aq_rgK (nI z) 1 100 = 0 := pw_rn (lo := 1) (hi := 100) z1 z2 (by decide)
/-! what a call leaves -/
theorem pv_hm {Q : aq_Q} {a : Nat} (h : (if aq_hasMill Q a = 0 then (0 : Int32) else 1) = 1) : 0 < (Q 6 a).toInt := by
  by_cases z : aq_hasMill Q a = 0
  · rw [if_pos z] at h
    exact absurd h (by decide)
  · have q1 : ¬ (Q 6 a).toInt ≤ 0 := fun y => z (pu_hm0.mpr (pu_le0.mpr y))
    omega
theorem pv_h0 {Q : aq_Q} {a : Nat} (h : (if aq_hasMill Q a = 0 then (0 : Int32) else 1) = 0) : aq_hasMill Q a = 0 := by
  by_cases z : aq_hasMill Q a = 0
  · exact z
  · rw [if_neg z] at h
    exact absurd h (by decide)
theorem pv_h1 {Q : aq_Q} {a : Nat} (h : ¬ (if aq_hasMill Q a = 0 then (0 : Int32) else 1) = 0) : ¬ aq_hasMill Q a = 0 := fun z => h (if_pos z)
theorem pv_slu {Q : aq_Q} {a k : Nat} (ha : a < 2 ^ 31) : aq_sluQ Q (nI a) (nI k) = aq_up Q 7 a (nI k) := by unfold aq_sluQ; rw [nI_clamp ha]
theorem pv_add {Q : aq_Q} {a k : Nat} (ha : a < 2 ^ 31) : aq_addMQ Q (nI a) (nI k) = aq_up Q 6 a (nI k) := by unfold aq_addMQ; rw [nI_clamp ha]
theorem pv_set {T : aq_Q} {t h w : Nat} (hh : h < 2 ^ 31) : aq_setT T t (nI h) (nI w) = aq_up T t h (nI w) := by unfold aq_setT; rw [nI_clamp hh]
theorem pv_n {k : Nat} (h : k < 2 ^ 31) : (nI k).toInt = (k : Int) := nI_toInt h
