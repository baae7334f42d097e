/-! the law's own world: the object's 49 cells, the twin's 22, the row of one long; what it stands on -/
def ly_E (U : State) : Prop := aq_TE (fun q => U.heap.size ≤ q) U U.heap ∧ ar_NE U ∧ lx_N U
theorem ly_TE_drawn {A : Nat → Prop} {U : State} (d : Drawn) (h : aq_TE A U U.heap) : aq_TE A (U.setDrawn d) U.heap := by
  obtain ⟨⟨a1, a2, a3⟩, ⟨b1, b2, b3⟩, ⟨c1, c2⟩, ⟨_, d1⟩, ⟨_, d2⟩, ⟨_, d3⟩, ⟨_, d4⟩, ⟨_, d5⟩, ⟨_, d6⟩, ⟨_, d7⟩⟩ := h
  exact ⟨⟨va_Nw.same rfl (u := U) rfl a1, va_Nw.same rfl (u := U) rfl a2, va_Nw.same rfl (u := U) rfl a3⟩, ⟨va_Nw.same rfl (u := U) rfl b1, va_Nw.same rfl (u := U) rfl b2, va_Nw.same rfl (u := U) rfl b3⟩, ⟨vx_Zq.moved (u := U) (U := U.setDrawn d) (Vm.Alike.refl U.vm) c1, vx_Zq.moved (u := U) (U := U.setDrawn d) (Vm.Alike.refl U.vm) c2⟩,
    ⟨_, vk_R.same (u := U) rfl d1⟩, ⟨_, vk_R.same (u := U) rfl d2⟩, ⟨_, vk_R.same (u := U) rfl d3⟩, ⟨_, vk_R.same (u := U) rfl d4⟩, ⟨_, vk_R.same (u := U) rfl d5⟩, ⟨_, vk_R.same (u := U) rfl d6⟩, ⟨_, vk_R.same (u := U) rfl d7⟩⟩
theorem ly_E.drawn {U : State} (d : Drawn) (h : ly_E U) : ly_E (U.setDrawn d) := ⟨ly_TE_drawn d h.1, ⟨fun q hq => va_Nw.same rfl (u := U) rfl (h.2.1.1 q hq), va_Nw.same rfl (u := U) rfl h.2.1.2⟩, h.2.2.moved (u := U) (U := U.setDrawn d) (Vm.Alike.refl U.vm)⟩
/-- the addresses are apart, and none was there at the start -/
def ly_D (adC adR : Nat → Nat) (o sz : Nat) : Prop := (aq_J 49 adC ∧ aq_J 22 adR) ∧ (∀ c d, c < 49 → d < 22 → adC c ≠ adR d) ∧ ((∀ c, c < 49 → o ≠ adC c) ∧ ∀ d, d < 22 → o ≠ adR d) ∧ ((∀ c, c < 49 → sz ≤ adC c) ∧ (∀ d, d < 22 → sz ≤ adR d) ∧ sz ≤ o)
def ly_W (D : va_G) (cI cQ cL cR : ClassId) (adC adR : Nat → Nat) (o : Nat) (VC VR : aq_V) (th : Int32) (f : Nat → Int64) (s : State) (H : Heap) : Prop := lx_J D cI cQ cL adC o VC f s H ∧ va_K D vwCl (aR_t cR) s ∧ va_P D vwCl (aR_w adR cR th VR) H
abbrev ly_S (s : State) (H : Heap) (locs : List Loc) : Prop := va_S (fun q : Nat => s.heap.size ≤ q) s.heap H locs
theorem ly_kp {D : va_G} {cl : List vw_C} {ws : va_W} {H H1 : Heap} {A : Nat → Prop} (hP : va_P D cl ws H) (hn : ∀ (k : Nat) (z : Nat × va_E), ws[k]? = some z → z.1 < H.size → ¬ A z.1) (hk : ∀ q : Nat, q < H.size → ¬ A q → H1[q]? = H[q]?) : va_P D cl ws H1 :=
  hP.kept (fun k z hz => hk _ (hP k z hz).lt (hn k z hz (hP k z hz).lt))
section LYA
variable {p : Program} {l : Launch} {e : Env} {R : Room} {s : State} {m : MethodId} {args : Array Value} {below : List Frame} {meth : Method} {c : Code} {H : Heap} {locs : List Loc} {cells slots : Nat} {Q : State → Prop}
variable {cc bytes : ByteArray} {maxL nL mc ms mc1 ms1 n index pc κ o : Nat} {adC adR : Nat → Nat} {ls : Array Slot} {st rest : List Value} {ret : Option FieldType} {ws ws' Ts : List Cond} {rm : Room} {y : MethodName} {own : String} {D : va_G} {cI cQ cL cR : ClassId} {As : List Value} {VC VR V1 : aq_V} {th th1 : Int32} {f : Nat → Int64} {hh : List (Nat × Nat × Nat × Nat)}
theorem ly_freeC (hD : ly_D adC adR o s.heap.size) (hS : ly_S s H locs) : ∀ q, aq_A 49 adC H.size q → s.heap.size ≤ q := fun q h => by
  rcases h with ⟨c2, h2, rfl⟩ | h
  · exact hD.2.2.2.1 c2 h2
  · exact Nat.le_trans hS.1 h
theorem ly_freeR (hD : ly_D adC adR o s.heap.size) (hS : ly_S s H locs) : ∀ q, aq_A 22 adR H.size q → s.heap.size ≤ q := fun q h => by
  rcases h with ⟨c2, h2, rfl⟩ | h
  · exact hD.2.2.2.2.1 c2 h2
  · exact Nat.le_trans hS.1 h
theorem ly_freeX (hD : ly_D adC adR o s.heap.size) (hS : ly_S s H locs) : ∀ q, lx_A adC o H.size q → s.heap.size ≤ q := fun q h => by
  rcases h with h | rfl
  · exact ly_freeC hD hS q h
  · exact hD.2.2.2.2.2
theorem ly_xblind {V : aq_V} {sz : Nat} : FrameBlind (lx_Pc D cI cQ cL adC o As V f sz) := fun a U g mk q => by
  obtain ⟨q0, q1, ⟨qa, qb, qc, qd⟩, qT, qN⟩ := q
  exact ⟨q0, q1, ⟨va_K.moved (u := U) (U := U.calling g mk a) (Vm.Alike.refl U.vm) qa, qb, va_K.moved (u := U) (U := U.calling g mk a) (Vm.Alike.refl U.vm) qc, qd⟩, qT.calling, qN.moved (u := U) (U := U.calling g mk a) (Vm.Alike.refl U.vm)⟩
/-- a helper's call -/
theorem ly_wrap {k r : Int32} (S : CallFix p m c cc nL s args Ts RL) (E : ly_E s) (hD : ly_D adC adR o s.heap.size) (hM : ∀ sz, Met l y ws rm (lx_Pc D cI cQ cL adC o As VC f sz) (lx_Qc D cI cQ cL adC o κ k r VC V1 sz) mc1 ms1 (lx_A adC o sz)) (cw : vx_CSW R s args RL index y bytes maxL ret hh ws rm mc1 ms1 n) (Wd : ly_W D cI cQ cL cR adC adR o VC VR th f s H) (hS : ly_S s H locs)
    (hsz : ls.size = nL) (hdg : decode cc pc = .ok (.invokestatic index, 3)) (hn : As.length = n) (hst : st = As.reverse ++ rest) (hW : (rest.map fun v => v.category).sum ≤ 8) (hf : cells + mc1 ≤ R.cells ∧ slots + ms1 ≤ R.slots)
    (kk : ∀ (H1 : Heap) (locs1 : List Loc) (f1 : Nat → Int64), (κ = 0 → f1 0 = r.toInt64) → ly_W D cI cQ cL cR adC adR o (if κ = 0 then V1 else VC) VR th f1 s H1 → ly_S s H1 locs1 → W p l e R s m args below meth c H1 locs1 (cells + mc1) (slots + ms1) Q (F0 m (pc + 3) ls (.int k :: rest))) : W p l e R s m args below meth c H locs cells slots Q (F0 m pc ls st) := by
  refine va_calli (vx_runSW S (hM H.size) cw ⟨ly_xblind, fun U hU hW => ⟨rfl, by rw [hU], ⟨va_K.moved hW.alike Wd.1.1, by rw [hU]; exact Wd.1.2.1, va_K.moved hW.alike Wd.1.2.2.1, by rw [hU]; exact Wd.1.2.2.2⟩, by rw [hU]; exact E.1.warm hW hS.2.1 (ly_freeC hD hS), E.2.2.moved hW.alike⟩⟩ rfl hn hsz hst (lv_room hW) hdg hf) hS (fun q _ h => ly_freeX hD hS q h) (ly_freeX hD hS) (fun x f1 t H1 locs1 ht hvm hx hB hz hk hS1 => ?_)
  obtain ⟨hx0, hx1⟩ := hx
  subst hx0
  refine kk H1 locs1 f1 hx1 ⟨⟨Wd.1.1, by rw [← ht]; exact hB.2.1, Wd.1.2.2.1, by rw [← ht]; exact hB.2.2.2⟩, Wd.2.1, ly_kp Wd.2.2 (fun k z hz hlt => ?_) hk⟩ hS1
  obtain ⟨h1, rfl⟩ := aq_w_in hz
  intro h
  rcases h with (⟨c2, h2, h3⟩ | h) | h
  · exact hD.2.1 c2 k h2 h1 h3.symm
  · exact absurd h (Nat.not_le.mpr hlt)
  · exact hD.2.2.1.2 k h1 h.symm
theorem ly_keepC {H1 : Heap} (hD : ly_D adC adR o s.heap.size) (Wd : lx_J D cI cQ cL adC o VC f s H) (hk : ∀ q : Nat, q < H.size → ¬ aq_A 22 adR H.size q → H1[q]? = H[q]?) : lx_J D cI cQ cL adC o VC f s H1 := by
  refine ⟨Wd.1, ly_kp Wd.2.1 (fun k z hz hlt => ?_) hk, Wd.2.2.1, ly_kp Wd.2.2.2 (fun k z hz hlt => ?_) hk⟩
  · obtain ⟨h1, rfl⟩ := aq_w_in hz
    intro h
    rcases h with ⟨c2, h2, h3⟩ | h
    · exact hD.2.1 k c2 h1 h2 h3
    · exact absurd h (Nat.not_le.mpr hlt)
  · have h1 : k < 1 := (List.getElem?_eq_some_iff.mp hz).1
    rw [show k = 0 by omega] at hz
    cases hz
    intro h
    rcases h with ⟨c2, h2, h3⟩ | h
    · exact hD.2.2.1.2 c2 h2 h3
    · exact absurd h (Nat.not_le.mpr hlt)
theorem ly_keepR {H1 : Heap} (hD : ly_D adC adR o s.heap.size) (Wd : ly_W D cI cQ cL cR adC adR o VC VR th f s H) (hk : ∀ q : Nat, q < H.size → ¬ aq_A 49 adC H.size q → H1[q]? = H[q]?) : va_P D vwCl (lx_o o cL f) H1 ∧ va_P D vwCl (aR_w adR cR th VR) H1 := by
  refine ⟨lx_keep Wd.1.2.2.2 hD.2.2.1.1 hk, ly_kp Wd.2.2 (fun k z hz hlt => ?_) hk⟩
  obtain ⟨h1, rfl⟩ := aq_w_in hz
  intro h
  rcases h with ⟨c2, h2, h3⟩ | h
  · exact hD.2.1 c2 k h2 h1 h3.symm
  · exact absurd h (Nat.not_le.mpr hlt)
theorem ly_recvR (Wd : ly_W D cI cQ cL cR adC adR o VC VR th f s H) : ∃ cell : Cell, H[adR 0]? = some cell ∧ cell.vm.isStatics = false ∧ s.vm.findClass RX4 = some cell.cls :=
  va_recv Wd.2.1 Wd.2.2 (q0 := 0) (ci := 4) (q := (RX4, TX4, 9)) rfl (by rw [aq_w_at (by decide)]; rfl)
theorem ly_recvC (Wd : ly_W D cI cQ cL cR adC adR o VC VR th f s H) : ∃ cell : Cell, H[adC 0]? = some cell ∧ cell.vm.isStatics = false ∧ s.vm.findClass RX2 = some cell.cls :=
  va_recv Wd.1.1 Wd.1.2.1 (q0 := 0) (ci := 2) (q := (RX2, TX2, 2)) rfl (by rw [aq_w_at (by decide)]; rfl)
theorem ly_preR (E : ly_E s) (Wd : ly_W D cI cQ cL cR adC adR o VC VR th f s H) : PreV s H RX4 (adR 0) (ar_Pc D (aR_t cR) (.ref (adR 0) :: As) (aR_w adR cR th VR) H.size) As :=
  ⟨ar_blind, ly_recvR Wd, fun U hU hW => ⟨rfl, by rw [hU], ⟨va_K.moved hW.alike Wd.2.1, by rw [hU]; exact Wd.2.2⟩, E.2.1.warm hW⟩⟩
theorem ly_preC (Wd : ly_W D cI cQ cL cR adC adR o VC VR th f s H) : PreV s H RX2 (adC 0) (aq_Pc D (aC_t cI cQ) (.ref (adC 0) :: As) (aC_w adC cI cQ VC) H.size) As :=
  ⟨aq_blind, ly_recvC Wd, fun U hU hW => ⟨rfl, by rw [hU], va_K.moved hW.alike Wd.1.1, by rw [hU]; exact Wd.1.2.1⟩⟩
/-- the twin's calls -/
theorem ly_mod {r : Int32} (S : CallFix p m c cc nL s args Ts RL) (E : ly_E s) (hD : ly_D adC adR o s.heap.size) (hM : ar_Met l y ws rm D (aR_t cR) 22 adR (.ref (adR 0) :: As) (aR_w adR cR th VR) (aq_Qi D (aR_t cR) 22 adR r (aR_w adR cR th1 V1)) mc1 ms1) (cw : CallW R s args RL RX4 index y bytes maxL ret ws rm mc1 ms1 n) (Wd : ly_W D cI cQ cL cR adC adR o VC VR th f s H) (hS : ly_S s H locs)
    (hsz : ls.size = nL) (hdg : decode cc pc = .ok (.invokevirtual index, 3)) (hn : As.length = n) (hst : st = As.reverse ++ .ref (adR 0) :: rest) (hW : (rest.map fun v => v.category).sum ≤ 8) (hf : cells + mc1 ≤ R.cells ∧ slots + ms1 ≤ R.slots)
    (kk : ∀ (H1 : Heap) (locs1 : List Loc), ly_W D cI cQ cL cR adC adR o VC V1 th1 f s H1 → ly_S s H1 locs1 → W p l e R s m args below meth c H1 locs1 (cells + mc1) (slots + ms1) Q (F0 m (pc + 3) ls (.int r :: rest))) : W p l e R s m args below meth c H locs cells slots Q (F0 m pc ls st) := by
  refine va_calli (va_runV S (hM H.size) cw (ly_preR E Wd) rfl hn hsz hst (lv_room hW) hdg hf) hS (fun q _ h => ly_freeR hD hS q h) (ly_freeR hD hS) (fun x u t H1 locs1 ht hvm hx hB hz hk hS1 => ?_)
  subst hx
  exact kk H1 locs1 ⟨ly_keepC hD Wd.1 hk, Wd.2.1, by rw [← ht]; exact hB.2⟩ hS1
theorem ly_modl {r : Int64} (S : CallFix p m c cc nL s args Ts RL) (E : ly_E s) (hD : ly_D adC adR o s.heap.size) (hM : ar_Met l y ws rm D (aR_t cR) 22 adR (.ref (adR 0) :: As) (aR_w adR cR th VR) (aq_Ql D (aR_t cR) 22 adR r (aR_w adR cR th1 V1)) mc1 ms1) (cw : CallW R s args RL RX4 index y bytes maxL ret ws rm mc1 ms1 n) (Wd : ly_W D cI cQ cL cR adC adR o VC VR th f s H) (hS : ly_S s H locs)
    (hsz : ls.size = nL) (hdg : decode cc pc = .ok (.invokevirtual index, 3)) (hn : As.length = n) (hst : st = As.reverse ++ .ref (adR 0) :: rest) (hW : (rest.map fun v => v.category).sum ≤ 8) (hf : cells + mc1 ≤ R.cells ∧ slots + ms1 ≤ R.slots)
    (kk : ∀ (H1 : Heap) (locs1 : List Loc), ly_W D cI cQ cL cR adC adR o VC V1 th1 f s H1 → ly_S s H1 locs1 → W p l e R s m args below meth c H1 locs1 (cells + mc1) (slots + ms1) Q (F0 m (pc + 3) ls (.long r :: rest))) : W p l e R s m args below meth c H locs cells slots Q (F0 m pc ls st) := by
  refine va_calll (va_runV S (hM H.size) cw (ly_preR E Wd) rfl hn hsz hst (lv_room hW) hdg hf) hS (fun q _ h => ly_freeR hD hS q h) (ly_freeR hD hS) (fun x u t H1 locs1 ht hvm hx hB hz hk hS1 => ?_)
  subst hx
  exact kk H1 locs1 ⟨ly_keepC hD Wd.1 hk, Wd.2.1, by rw [← ht]; exact hB.2⟩ hS1
/-- the object's calls that throw nothing -/
theorem ly_obj {r : Int32} (S : CallFix p m c cc nL s args Ts RL) (hD : ly_D adC adR o s.heap.size) (hM : aq_Met l y ws rm D (aC_t cI cQ) 49 adC (.ref (adC 0) :: As) (aC_w adC cI cQ VC) (aq_Qi D (aC_t cI cQ) 49 adC r (aC_w adC cI cQ V1)) mc1 ms1) (cw : CallW R s args RL RX2 index y bytes maxL ret ws rm mc1 ms1 n) (Wd : ly_W D cI cQ cL cR adC adR o VC VR th f s H) (hS : ly_S s H locs)
    (hsz : ls.size = nL) (hdg : decode cc pc = .ok (.invokevirtual index, 3)) (hn : As.length = n) (hst : st = As.reverse ++ .ref (adC 0) :: rest) (hW : (rest.map fun v => v.category).sum ≤ 8) (hf : cells + mc1 ≤ R.cells ∧ slots + ms1 ≤ R.slots)
    (kk : ∀ (H1 : Heap) (locs1 : List Loc), ly_W D cI cQ cL cR adC adR o V1 VR th f s H1 → ly_S s H1 locs1 → W p l e R s m args below meth c H1 locs1 (cells + mc1) (slots + ms1) Q (F0 m (pc + 3) ls (.int r :: rest))) : W p l e R s m args below meth c H locs cells slots Q (F0 m pc ls st) := by
  refine va_calli (va_runV S (hM H.size) cw (ly_preC Wd) rfl hn hsz hst (lv_room hW) hdg hf) hS (fun q _ h => ly_freeC hD hS q h) (ly_freeC hD hS) (fun x u t H1 locs1 ht hvm hx hB hz hk hS1 => ?_)
  subst hx
  have hk2 := ly_keepR hD Wd hk
  exact kk H1 locs1 ⟨⟨Wd.1.1, by rw [← ht]; exact hB.2, Wd.1.2.2.1, hk2.1⟩, Wd.2.1, hk2.2⟩ hS1
theorem ly_objl {r : Int64} (S : CallFix p m c cc nL s args Ts RL) (hD : ly_D adC adR o s.heap.size) (hM : aq_Met l y ws rm D (aC_t cI cQ) 49 adC (.ref (adC 0) :: As) (aC_w adC cI cQ VC) (aq_Ql D (aC_t cI cQ) 49 adC r (aC_w adC cI cQ V1)) mc1 ms1) (cw : CallW R s args RL RX2 index y bytes maxL ret ws rm mc1 ms1 n) (Wd : ly_W D cI cQ cL cR adC adR o VC VR th f s H) (hS : ly_S s H locs)
    (hsz : ls.size = nL) (hdg : decode cc pc = .ok (.invokevirtual index, 3)) (hn : As.length = n) (hst : st = As.reverse ++ .ref (adC 0) :: rest) (hW : (rest.map fun v => v.category).sum ≤ 8) (hf : cells + mc1 ≤ R.cells ∧ slots + ms1 ≤ R.slots)
    (kk : ∀ (H1 : Heap) (locs1 : List Loc), ly_W D cI cQ cL cR adC adR o V1 VR th f s H1 → ly_S s H1 locs1 → W p l e R s m args below meth c H1 locs1 (cells + mc1) (slots + ms1) Q (F0 m (pc + 3) ls (.long r :: rest))) : W p l e R s m args below meth c H locs cells slots Q (F0 m pc ls st) := by
  refine va_calll (va_runV S (hM H.size) cw (ly_preC Wd) rfl hn hsz hst (lv_room hW) hdg hf) hS (fun q _ h => ly_freeC hD hS q h) (ly_freeC hD hS) (fun x u t H1 locs1 ht hvm hx hB hz hk hS1 => ?_)
  subst hx
  have hk2 := ly_keepR hD Wd hk
  exact kk H1 locs1 ⟨⟨Wd.1.1, by rw [← ht]; exact hB.2, Wd.1.2.2.1, hk2.1⟩, Wd.2.1, hk2.2⟩ hS1
/-- the two that may draw -/
theorem ly_objd {r : UInt64 → Prop} {d0 : Drawn} (hd0 : s.drawn.sameBut d0 lw_cs) (S : CallFix p m c cc nL (s.setDrawn d0) args Ts RL) (hD : ly_D adC adR o s.heap.size) (hM : aq_MetD l y ws rm D (aC_t cI cQ) 49 adC (.ref (adC 0) :: As) (aC_w adC cI cQ VC) (aq_Qd D (aC_t cI cQ) 49 adC r (aC_w adC cI cQ V1)) mc1 ms1) (cw : CallW R (s.setDrawn d0) args RL RX2 index y bytes maxL ret ws rm mc1 ms1 n) (Wd : ly_W D cI cQ cL cR adC adR o VC VR th f s H) (hS : ly_S s H locs)
    (hsz : ls.size = nL) (hdg : decode cc pc = .ok (.invokevirtual index, 3)) (hn : As.length = n) (hst : st = As.reverse ++ .ref (adC 0) :: rest) (hW : (rest.map fun v => v.category).sum ≤ 8) (hf : cells + mc1 ≤ R.cells ∧ slots + ms1 ≤ R.slots)
    (kk : ∀ (x : UInt64) (H1 : Heap) (locs1 : List Loc) (d1 : Drawn), s.drawn.sameBut d1 lw_cs → r x → ly_W D cI cQ cL cR adC adR o V1 VR th f s H1 → ly_S s H1 locs1 → W p l e R (s.setDrawn d1) m args below meth c H1 locs1 (cells + mc1) (slots + ms1) Q (F0 m (pc + 3) ls (.double x :: rest))) : W p l e R (s.setDrawn d0) m args below meth c H locs cells slots Q (F0 m pc ls st) := by
  refine va_calldD hd0 (va_runV_D S (hM H.size) cw (ly_preC (s := s.setDrawn d0) Wd) rfl hn hsz hst (lv_room hW) hdg hf) hS (fun q _ h => ly_freeC hD hS q h) (ly_freeC hD hS) (fun x u t H1 locs1 ht hvm hx hB hz hk hS1 d1 hd1 => ?_)
  have hk2 := ly_keepR hD Wd hk
  exact kk x H1 locs1 d1 hd1 hx ⟨⟨Wd.1.1, by rw [← ht]; exact hB.2, Wd.1.2.2.1, hk2.1⟩, Wd.2.1, hk2.2⟩ hS1
theorem ly_modd {r : UInt64 → Prop} {d0 : Drawn} (hd0 : s.drawn.sameBut d0 lw_cs) (S : CallFix p m c cc nL (s.setDrawn d0) args Ts RL) (E : ly_E (s.setDrawn d0)) (hD : ly_D adC adR o s.heap.size) (hM : ar_MetD l y ws rm D (aR_t cR) 22 adR (.ref (adR 0) :: As) (aR_w adR cR th VR) (aq_Qd D (aR_t cR) 22 adR r (aR_w adR cR th1 V1)) mc1 ms1) (cw : CallW R (s.setDrawn d0) args RL RX4 index y bytes maxL ret ws rm mc1 ms1 n) (Wd : ly_W D cI cQ cL cR adC adR o VC VR th f s H) (hS : ly_S s H locs)
    (hsz : ls.size = nL) (hdg : decode cc pc = .ok (.invokevirtual index, 3)) (hn : As.length = n) (hst : st = As.reverse ++ .ref (adR 0) :: rest) (hW : (rest.map fun v => v.category).sum ≤ 8) (hf : cells + mc1 ≤ R.cells ∧ slots + ms1 ≤ R.slots)
    (kk : ∀ (x : UInt64) (H1 : Heap) (locs1 : List Loc) (d1 : Drawn), s.drawn.sameBut d1 lw_cs → r x → ly_W D cI cQ cL cR adC adR o VC V1 th1 f s H1 → ly_S s H1 locs1 → W p l e R (s.setDrawn d1) m args below meth c H1 locs1 (cells + mc1) (slots + ms1) Q (F0 m (pc + 3) ls (.double x :: rest))) : W p l e R (s.setDrawn d0) m args below meth c H locs cells slots Q (F0 m pc ls st) := by
  refine va_calldD hd0 (va_runV_D S (hM H.size) cw (ly_preR (s := s.setDrawn d0) E Wd) rfl hn hsz hst (lv_room hW) hdg hf) hS (fun q _ h => ly_freeR hD hS q h) (ly_freeR hD hS) (fun x u t H1 locs1 ht hvm hx hB hz hk hS1 d1 hd1 => ?_)
  exact kk x H1 locs1 d1 hd1 hx ⟨ly_keepC hD Wd.1 hk, Wd.2.1, by rw [← ht]; exact hB.2⟩ hS1
end LYA
/-! what the two states have to do with each other -/
def ly_R (n h : Nat) (VC VR : aq_V) : Prop := pu_V n h (VC 2) (VC 0) ∧ VR 0 = VC 0 ∧ VR 2 = VC 2 ∧ aR_st (VR 3) (VC 0) ∧ VR 3 10 3 = nI n
