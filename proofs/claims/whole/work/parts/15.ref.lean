/-! the twin's world: 22 cells: the model, its five tables, two states, 2 * 7 rows. V j f i as the class's (f in 2 3 4 5 7 8 9; 10 k the state's own field); V 2: spring and city; V 3 f: height (0), size (1), appetite (6), V 3 10 3: how many arches; th: what was thrown -/
def aR_rf (a : Nat) : Nat := if a < 4 then a + 2 else a + 3
def aR_sf (a : Nat) : Nat := if a = 2 then 6 else a
def aR_e (ad : Nat → Nat) (cI : ClassId) (th : Int32) (V : aq_V) (c : Nat) : va_E :=
  if c = 0 then .inr (4, [.int th, .ref (ad 1), .ref (ad 2), .int (V 3 10 3), .ref (ad 3), .ref (ad 4), .ref (ad 5), .ref (ad 6), .ref (ad 7)])
  else if c < 3 then .inl (cI, 24, .inl (V 2 (c - 1)))
  else if c < 6 then .inl (cI, 20, .inl (V 3 (aR_sf (c - 3))))
  else if c < 8 then .inr (3, [.int (V (c - 6) 10 4), .int (V (c - 6) 10 7), .int (V (c - 6) 10 6), .int (V (c - 6) 10 5), .ref (ad (8 + 7 * (c - 6))), .ref (ad (9 + 7 * (c - 6))), .ref (ad (10 + 7 * (c - 6))), .ref (ad (11 + 7 * (c - 6))), .ref (ad (12 + 7 * (c - 6))), .ref (ad (13 + 7 * (c - 6))), .ref (ad (14 + 7 * (c - 6))), .int (V (c - 6) 10 8), .int (V (c - 6) 10 9), .int (V (c - 6) 10 10), .int (V (c - 6) 10 11), .int (V (c - 6) 10 12), .ref (ad 0)])
  else .inl (cI, 20, .inl (V ((c - 8) / 7) (aR_rf ((c - 8) % 7))))
abbrev aR_w (ad : Nat → Nat) (cI : ClassId) (th : Int32) (V : aq_V) : va_W := aq_w 22 ad (aR_e ad cI th V)
abbrev aR_t (cI : ClassId) : List (ClassId × FieldType) := [(cI, .int)]
theorem aR_arr {cI : ClassId} {z : Nat} {f g : Nat → Int32} (hfg : ∀ i, i < z → g i = f i) : vp_cell cI (z, .inl g) = vp_cell cI (z, .inl f) := by
  rw [vp_cell_i, vp_cell_i]
  have h : (fun j : Fin z => Value.int (g j.val)) = (fun j : Fin z => Value.int (f j.val)) := funext fun j => by rw [hfg j.val j.isLt]
  unfold arrV
  rw [h]
section ARE
variable {ad : Nat → Nat} {cI : ClassId} {th : Int32} {V V' : aq_V}
theorem aR_e0 : aR_e ad cI th V 0 = .inr (4, [.int th, .ref (ad 1), .ref (ad 2), .int (V 3 10 3), .ref (ad 3), .ref (ad 4), .ref (ad 5), .ref (ad 6), .ref (ad 7)]) := rfl
theorem aR_eT {t : Nat} (ht : t < 2) : aR_e ad cI th V (1 + t) = .inl (cI, 24, .inl (V 2 t)) := by
  unfold aR_e
  rw [if_neg (by omega), if_pos (by omega), show 1 + t - 1 = t by omega]
theorem aR_eF {t : Nat} (ht : t < 3) : aR_e ad cI th V (3 + t) = .inl (cI, 20, .inl (V 3 (aR_sf t))) := by
  unfold aR_e
  rw [if_neg (by omega), if_neg (by omega), if_pos (by omega), show 3 + t - 3 = t by omega]
theorem aR_eS {j : Nat} (hj : j < 2) : aR_e ad cI th V (6 + j) = .inr (3, [.int (V j 10 4), .int (V j 10 7), .int (V j 10 6), .int (V j 10 5), .ref (ad (8 + 7 * j)), .ref (ad (9 + 7 * j)), .ref (ad (10 + 7 * j)), .ref (ad (11 + 7 * j)), .ref (ad (12 + 7 * j)), .ref (ad (13 + 7 * j)), .ref (ad (14 + 7 * j)), .int (V j 10 8), .int (V j 10 9), .int (V j 10 10), .int (V j 10 11), .int (V j 10 12), .ref (ad 0)]) := by
  unfold aR_e
  rw [if_neg (by omega), if_neg (by omega), if_neg (by omega), if_pos (by omega), show 6 + j - 6 = j by omega]
theorem aR_eA {j a : Nat} (ha : a < 7) : aR_e ad cI th V (8 + a + 7 * j) = .inl (cI, 20, .inl (V j (aR_rf a))) := by
  unfold aR_e
  rw [if_neg (by omega), if_neg (by omega), if_neg (by omega), if_neg (by omega), show (8 + a + 7 * j - 8) / 7 = j by omega, show (8 + a + 7 * j - 8) % 7 = a by omega]
theorem aR_cong {th' : Int32} {c : Nat} (h0 : c = 0 → th' = th ∧ V' 3 10 3 = V 3 10 3) (h1 : 1 ≤ c → c < 3 → V' 2 (c - 1) = V 2 (c - 1)) (h2 : 3 ≤ c → c < 6 → ∀ i, i < 20 → V' 3 (aR_sf (c - 3)) i = V 3 (aR_sf (c - 3)) i) (h3 : 6 ≤ c → c < 8 → ∀ k, 4 ≤ k → V' (c - 6) 10 k = V (c - 6) 10 k) (h4 : 8 ≤ c → ∀ i, i < 20 → V' ((c - 8) / 7) (aR_rf ((c - 8) % 7)) i = V ((c - 8) / 7) (aR_rf ((c - 8) % 7)) i) {D : va_G} {a : Nat} {H : Heap} (hP : va_at D vwCl (a, aR_e ad cI th V c) H) : va_at D vwCl (a, aR_e ad cI th' V' c) H := by
  have hc : ∀ (f g : Nat → Int32), (∀ i, i < 20 → g i = f i) → va_at D vwCl (a, .inl (cI, 20, .inl f)) H → va_at D vwCl (a, .inl (cI, 20, .inl g)) H := by
    intro f g hfg h
    have e : vp_cell cI (20, .inl g) = vp_cell cI (20, .inl f) := aR_arr hfg
    show H[a]? = some (vp_cell cI (20, .inl g))
    rw [e]
    exact h
  unfold aR_e at hP ⊢
  by_cases c0 : c = 0
  · obtain ⟨e1, e2⟩ := h0 c0
    rw [if_pos c0] at hP ⊢
    rw [e1, e2]
    exact hP
  · rw [if_neg c0] at hP ⊢
    by_cases c1 : c < 3
    · rw [if_pos c1] at hP ⊢
      rw [h1 (by omega) c1]
      exact hP
    · rw [if_neg c1] at hP ⊢
      by_cases c2 : c < 6
      · rw [if_pos c2] at hP ⊢
        exact hc _ _ (h2 (by omega) c2) hP
      · rw [if_neg c2] at hP ⊢
        by_cases c3 : c < 8
        · rw [if_pos c3] at hP ⊢
          have z := h3 (by omega) c3
          rw [z 4 (by omega), z 5 (by omega), z 6 (by omega), z 7 (by omega), z 8 (by omega), z 9 (by omega), z 10 (by omega), z 11 (by omega), z 12 (by omega)]
          exact hP
        · rw [if_neg c3] at hP ⊢
          exact hc _ _ (h4 (by omega)) hP
/-- the same for cells as such -/
theorem aR_same {th' : Int32} {c : Nat} (h0 : c = 0 → th' = th ∧ V' 3 10 3 = V 3 10 3) (h1 : 1 ≤ c → c < 3 → V' 2 (c - 1) = V 2 (c - 1)) (h2 : 3 ≤ c → c < 6 → V' 3 (aR_sf (c - 3)) = V 3 (aR_sf (c - 3))) (h3 : 6 ≤ c → c < 8 → ∀ k, 4 ≤ k → V' (c - 6) 10 k = V (c - 6) 10 k) (h4 : 8 ≤ c → V' ((c - 8) / 7) (aR_rf ((c - 8) % 7)) = V ((c - 8) / 7) (aR_rf ((c - 8) % 7))) : aR_e ad cI th' V' c = aR_e ad cI th V c := by
  unfold aR_e
  by_cases c0 : c = 0
  · obtain ⟨e1, e2⟩ := h0 c0
    rw [if_pos c0, if_pos c0, e1, e2]
  · rw [if_neg c0, if_neg c0]
    by_cases c1 : c < 3
    · rw [if_pos c1, if_pos c1, h1 (by omega) c1]
    · rw [if_neg c1, if_neg c1]
      by_cases c2 : c < 6
      · rw [if_pos c2, if_pos c2, h2 (by omega) c2]
      · rw [if_neg c2, if_neg c2]
        by_cases c3 : c < 8
        · rw [if_pos c3, if_pos c3]
          have z := h3 (by omega) c3
          rw [z 4 (by omega), z 5 (by omega), z 6 (by omega), z 7 (by omega), z 8 (by omega), z 9 (by omega), z 10 (by omega), z 11 (by omega), z 12 (by omega)]
        · rw [if_neg c3, if_neg c3, h4 (by omega)]
end ARE
/-! links between nest mates -/
abbrev ar_h : String := "ArchWaterModel"
def ar_nf : List (String × Nat × String × String × String) := [(RX4, 103, RX3, "tenths", "[I"), (RX4, 106, RX3, "flour", "[I"), (RX4, 109, RX3, "took", "[I"), (RX4, 115, RX3, "coins", "I"), (RX4, 124, RX3, "hour", "I"), (RX4, 131, RX3, "given", "I"), (RX4, 134, RX3, "used", "I"), (RX4, 137, RX3, "drunk", "I"), (RX4, 140, RX3, "thirst", "I"), (RX4, 65, RX3, "cistern", "I"), (RX4, 71, RX3, "holds", "I"), (RX4, 74, RX3, "spilt", "I"), (RX4, 77, RX3, "water", "[I"), (RX4, 80, RX3, "wear", "[I"), (RX4, 83, RX3, "drops", "[I"), (RX4, 89, RX3, "leaked", "[I"), (RX3, 104, RX4, "spring", "[I"), (RX3, 75, RX4, "arches", "I"), (RX3, 78, RX4, "size", "[I"), (RX3, 87, RX4, "city", "[I"), (RX3, 94, RX4, "appetite", "[I")]
def ar_NE (U : State) : Prop := (∀ q ∈ ar_nf, va_Nw (.fieldLinkNest q.1 q.2.1 q.2.2.1 q.2.2.2.1 q.2.2.2.2 ar_h) U) ∧ va_Nw (.methodLinkNest RX3 90 yX4_rate ar_h) U
theorem ar_NE.warm {s U : State} (hW : s.WarmedH U.vm) (h : ar_NE s) : ar_NE U := ⟨fun q hq => va_Nw.warmF hW (h.1 q hq), va_Nw.warmM hW h.2⟩
theorem ar_NE.calling {U : State} {g : JFrame} {mk : MethodId} {a : Array Value} (h : ar_NE U) : ar_NE (U.calling g mk a) := ⟨fun q hq => va_Nw.same rfl (u := U) rfl (h.1 q hq), va_Nw.same rfl (u := U) rfl h.2⟩
def ar_Pc (D : va_G) (tys : List (ClassId × FieldType)) (As : List Value) (w : va_W) (sz : Nat) : Array Value → State → Prop := va_Pc As (fun U => U.heap.size = sz ∧ aq_B D tys w U ∧ ar_NE U)
def ar_Met (l : Launch) (y : MethodName) (ws : List Cond) (rm : Room) (D : va_G) (tys : List (ClassId × FieldType)) (N : Nat) (ad : Nat → Nat) (As : List Value) (w : va_W) (Qc : Nat → Array Value → State → Outcome → State → Prop) (mc ms : Nat) : Prop :=
  ∀ sz, Met l y ws rm (ar_Pc D tys As w sz) (Qc sz) mc ms (aq_A N ad sz)
section AR
variable {p : Program} {l : Launch} {e : Env} {R : Room} {s : State} {m : MethodId} {args : Array Value} {below : List Frame} {meth : Method} {c : Code} {H : Heap} {locs : List Loc} {cells slots : Nat} {P9 : State → Prop}
variable {cc bytes : ByteArray} {maxL nL mc ms n index pc N : Nat} {ad : Nat → Nat} {ls : Array Slot} {st rest : List Value} {ret : Option FieldType} {ws ws' Ts : List Cond} {rm : Room} {y : MethodName} {own C ref : String} {D : va_G} {tys : List (ClassId × FieldType)} {w w' : va_W} {As : List Value}
theorem ar_enter {Qc : Nat → Array Value → State → Outcome → State → Prop} (hy : plainName y.cls = true) (hw : ws = Cond.code y cc maxL ret :: ws') (hn : (lg_sl As).length ≤ maxL)
    (k : ∀ (p : Program) (e : Env) (s : State) (m : MethodId) (below : List Frame) (meth : Method) (c : Code) (ls : Array Slot), CallFix p m c cc maxL s As.toArray ws y.cls → meth.sig.returnType = ret → meth.locks = false → ar_NE s → aq_I D tys (aq_A N ad) w s s.heap [] → lv_has ls maxL (lv_args 0 As) →
      W p l e rm s m As.toArray below meth c s.heap [] 0 0 (MQ below (Qc s.heap.size) As.toArray s mc ms (aq_A N ad s.heap.size)) (F0 m 0 ls [])) :
    ar_Met l y ws rm D tys N ad As w Qc mc ms := by
  intro sz
  refine Met.ofW (cc := cc) (maxL := maxL) (ret := ret) hy hw ?_
  intro p e s m args below meth c s₁ B hml hv
  obtain ⟨rfl, hsz, hB, hE⟩ := hv
  subst hsz
  have hl := lv_entry As (n := maxL) hn
  rw [lg_entry_eq]
  exact k p e s m below meth c _ ⟨B.exec, B.bytes, hml, findClass_of_methodNamed B.named, atoms_spec (ws := ws) B.pre⟩ B.returns B.notSynchronized hE ⟨hB.1, hB.2, va_S.rf⟩ hl
theorem ar_blind {sz : Nat} : FrameBlind (ar_Pc D tys As w sz) := fun a U g mk q => by
  obtain ⟨q0, q1, ⟨qK, qP⟩, qE⟩ := q
  exact ⟨q0, q1, ⟨va_K.moved (u := U) (U := U.calling g mk a) (Vm.Alike.refl U.vm) qK, qP⟩, qE.calling⟩
theorem ar_preV {b : Addr} (I : aq_I D tys (aq_A N ad) w s H locs) (hE : ar_NE s) (hr : ∃ cell : Cell, H[b]? = some cell ∧ cell.vm.isStatics = false ∧ s.vm.findClass C = some cell.cls) : PreV s H C b (ar_Pc D tys (.ref b :: As) w H.size) As :=
  ⟨ar_blind, hr, fun U hU hW => ⟨rfl, by rw [hU], ⟨va_K.moved hW.alike I.1, by rw [hU]; exact I.2.1⟩, hE.warm hW⟩⟩
theorem ar_preS (I : aq_I D tys (aq_A N ad) w s H locs) (hE : ar_NE s) : PreS s H (ar_Pc D tys As w H.size) As :=
  ⟨ar_blind, fun U hU hW => ⟨rfl, by rw [hU], ⟨va_K.moved hW.alike I.1, by rw [hU]; exact I.2.1⟩, hE.warm hW⟩⟩
/-- the calls: kk also says that what isn't the world's stayed -/
theorem ar_callVi {r : Int32} {b : Addr} (S : CallFix p m c cc nL s args Ts own) (hE : ar_NE s) (hM : ar_Met l y ws rm D tys N ad (.ref b :: As) w (aq_Qi D tys N ad r w') mc ms) (cw : CallW R s args own C index y bytes maxL ret ws rm mc ms n) (hr : ∃ cell : Cell, H[b]? = some cell ∧ cell.vm.isStatics = false ∧ s.vm.findClass C = some cell.cls)
    (I : aq_I D tys (aq_A N ad) w s H locs) (hsz : ls.size = nL) (hdg : decode cc pc = .ok (.invokevirtual index, 3)) (hn : As.length = n) (hst : st = As.reverse ++ .ref b :: rest) (hW : (rest.map fun v => v.category).sum ≤ 8) (hf : cells + mc ≤ R.cells ∧ slots + ms ≤ R.slots)
    (kk : ∀ (H1 : Heap) (locs1 : List Loc), aq_I D tys (aq_A N ad) w' s H1 locs1 → (∀ q : Nat, q < H.size → ¬ aq_A N ad H.size q → H1[q]? = H[q]?) → W p l e R s m args below meth c H1 locs1 (cells + mc) (slots + ms) P9 (F0 m (pc + 3) ls (.int r :: rest))) : W p l e R s m args below meth c H locs cells slots P9 (F0 m pc ls st) := by
  refine va_calli (va_runV S (hM H.size) cw (ar_preV I hE hr) rfl hn hsz hst (lv_room hW) hdg hf) I.2.2 (fun q _ h => aq_free I q h) (aq_free I) (fun x u t H1 locs1 ht hvm hx hB _ hk hS => ?_)
  subst hx
  exact kk H1 locs1 (aq_back I ht hvm hB hS) hk
theorem ar_callVv {b : Addr} (S : CallFix p m c cc nL s args Ts own) (hE : ar_NE s) (hM : ar_Met l y ws rm D tys N ad (.ref b :: As) w (aq_Qv D tys N ad w') mc ms) (cw : CallW R s args own C index y bytes maxL ret ws rm mc ms n) (hr : ∃ cell : Cell, H[b]? = some cell ∧ cell.vm.isStatics = false ∧ s.vm.findClass C = some cell.cls)
    (I : aq_I D tys (aq_A N ad) w s H locs) (hsz : ls.size = nL) (hdg : decode cc pc = .ok (.invokevirtual index, 3)) (hn : As.length = n) (hst : st = As.reverse ++ .ref b :: rest) (hW : (rest.map fun v => v.category).sum ≤ 8) (hf : cells + mc ≤ R.cells ∧ slots + ms ≤ R.slots)
    (kk : ∀ (H1 : Heap) (locs1 : List Loc), aq_I D tys (aq_A N ad) w' s H1 locs1 → (∀ q : Nat, q < H.size → ¬ aq_A N ad H.size q → H1[q]? = H[q]?) → W p l e R s m args below meth c H1 locs1 (cells + mc) (slots + ms) P9 (F0 m (pc + 3) ls rest)) : W p l e R s m args below meth c H locs cells slots P9 (F0 m pc ls st) := by
  refine va_callv (va_runV S (hM H.size) cw (ar_preV I hE hr) rfl hn hsz hst (lv_room hW) hdg hf) I.2.2 (fun q _ h => aq_free I q h) (aq_free I) (fun u t H1 locs1 ht hvm hx hB _ hk hS => ?_)
  exact kk H1 locs1 (aq_back I ht hvm hB hS) hk
theorem ar_callSi {r : Int32} (S : CallFix p m c cc nL s args Ts own) (hE : ar_NE s) (hM : ar_Met l y ws rm D tys N ad As w (aq_Qi D tys N ad r w') mc ms) (cw : CallB R s args own index y bytes maxL ret ws rm mc ms n ∧ (Cond.static y).before args s = true)
    (I : aq_I D tys (aq_A N ad) w s H locs) (hsz : ls.size = nL) (hdg : decode cc pc = .ok (.invokestatic index, 3)) (hn : As.length = n) (hst : st = As.reverse ++ rest) (hW : (rest.map fun v => v.category).sum ≤ 8) (hf : cells + mc ≤ R.cells ∧ slots + ms ≤ R.slots)
    (kk : ∀ (H1 : Heap) (locs1 : List Loc), aq_I D tys (aq_A N ad) w' s H1 locs1 → (∀ q : Nat, q < H.size → ¬ aq_A N ad H.size q → H1[q]? = H[q]?) → W p l e R s m args below meth c H1 locs1 (cells + mc) (slots + ms) P9 (F0 m (pc + 3) ls (.int r :: rest))) : W p l e R s m args below meth c H locs cells slots P9 (F0 m pc ls st) := by
  refine va_calli (va_runS S (hM H.size) cw (ar_preS I hE) rfl hn hsz hst (lv_room hW) hdg hf) I.2.2 (fun q _ h => aq_free I q h) (aq_free I) (fun x u t H1 locs1 ht hvm hx hB _ hk hS => ?_)
  subst hx
  exact kk H1 locs1 (aq_back I ht hvm hB hS) hk
/-- State calls the model's private rate -/
theorem ar_callNi {r : Int32} {b : Addr} {host : String} (S : CallFix p m c cc nL s args Ts own) (hE : ar_NE s) (hM : ar_Met l y ws rm D tys N ad (.ref b :: As) w (aq_Qi D tys N ad r w') mc ms) (cw : va_CN R s args own index y host bytes maxL ret ws rm mc ms n ∧ (Cond.instanceMethod y).before args s = true ∧ (Cond.selects C y y).before args s = true) (hr : ∃ cell : Cell, H[b]? = some cell ∧ cell.vm.isStatics = false ∧ s.vm.findClass C = some cell.cls)
    (I : aq_I D tys (aq_A N ad) w s H locs) (hsz : ls.size = nL) (hdg : decode cc pc = .ok (.invokevirtual index, 3)) (hn : As.length = n) (hst : st = As.reverse ++ .ref b :: rest) (hW : (rest.map fun v => v.category).sum ≤ 8) (hf : cells + mc ≤ R.cells ∧ slots + ms ≤ R.slots)
    (kk : ∀ (H1 : Heap) (locs1 : List Loc), aq_I D tys (aq_A N ad) w' s H1 locs1 → (∀ q : Nat, q < H.size → ¬ aq_A N ad H.size q → H1[q]? = H[q]?) → W p l e R s m args below meth c H1 locs1 (cells + mc) (slots + ms) P9 (F0 m (pc + 3) ls (.int r :: rest))) : W p l e R s m args below meth c H locs cells slots P9 (F0 m pc ls st) := by
  refine va_calli (va_runVN S (hM H.size) cw (ar_preV I hE hr) rfl hn hsz hst (lv_room hW) hdg hf) I.2.2 (fun q _ h => aq_free I q h) (aq_free I) (fun x u t H1 locs1 ht hvm hx hB _ hk hS => ?_)
  subst hx
  exact kk H1 locs1 (aq_back I ht hvm hB hS) hk
theorem ar_getN {ev : Nat → va_E} {ci k0 nF : Nat} {T : u_T} {fs : List Value} {v : Value} {host : String} (S : CallFix p m c cc nL s args Ts own) (I : aq_I D tys (aq_A N ad) (aq_w N ad ev) s H locs) (hk0 : k0 < N) (he : ev k0 = .inr (ci, fs)) (hc : vwCl[ci]? = some (C, T, nF)) (hin : ∀ w ∈ u_ws C T nF, w ∈ Ts) (k : Nat) (hk : k < nF) (hl : (Cond.fieldLinkNest own index ref (T k).2.1 (T k).2.2.1 host).before args s = true) (hsame : (T k).1 = ref) (hv : fs[k]? = some v) (hdg : decode cc pc = .ok (.getfield index, 3))
    (kk : W p l e R s m args below meth c H locs cells slots P9 (F0 m (pc + 3) ls (v :: rest))) : W p l e R s m args below meth c H locs cells slots P9 (F0 m pc ls (.ref (ad k0) :: rest)) :=
  va_getN (D := D) (ci := ci) (v := v) (C := C) (T := T) (N := nF) S.1 S.2.1 S.2.2.2.2 hin S.2.2.2.1 I.1 I.2.1 k0 (by rw [aq_w_at hk0, he]) hc k hk hl (fun x h => by rw [← hsame]; exact h) hv hdg kk
theorem ar_putN {ev ev' : Nat → va_E} {ci k0 nF : Nat} {T : u_T} {ty0 : Nat → FieldType} {fs : List Value} {x : Int32} {host : String} (hJ : aq_J N ad) (S : CallFix p m c cc nL s args Ts own) (I : aq_I D tys (aq_A N ad) (aq_w N ad ev) s H locs) (hk0 : k0 < N) (he : ev k0 = .inr (ci, fs)) (hc : vwCl[ci]? = some (C, T, nF)) (hin : ∀ w ∈ u_ws C T nF, w ∈ Ts) (hty : ∀ k, k < nF → parseFieldDescriptor (T k).2.2.1 = some (ty0 k)) (hnm : ∀ a, a < nF → ∀ b, b < nF → a ≠ b → (T a).2.1 ≠ (T b).2.1) (k : Nat) (hk : k < nF) (hl : (Cond.fieldLinkNest own index ref (T k).2.1 (T k).2.2.1 host).before args s = true) (hsame : (T k).1 = ref) (hfin : (T k).2.2.2 = false) (hd : parseFieldDescriptor (T k).2.2.1 = some .int) (hlen : k < fs.length) (hdg : decode cc pc = .ok (.putfield index, 3))
    (he' : ev' k0 = .inr (ci, fs.set k (.int x))) (ho : ∀ j, j < N → j ≠ k0 → ev' j = ev j)
    (kk : ∀ (H1 : Heap) (locs1 : List Loc), aq_I D tys (aq_A N ad) (aq_w N ad ev') s H1 locs1 → W p l e R s m args below meth c H1 locs1 cells slots P9 (F0 m (pc + 3) ls rest)) : W p l e R s m args below meth c H locs cells slots P9 (F0 m pc ls (.int x :: .ref (ad k0) :: rest)) := by
  refine va_putN (D := D) (ci := ci) (v := .int x) (ty := .int) (C := C) (T := T) (N := nF) S.1 S.2.1 S.2.2.2.2 hin ty0 hty hnm S.2.2.2.1 I.1 I.2.1 (aq_D hJ s.heap.size ev) I.2.2 k0 (fs := fs) (by rw [aq_w_at hk0, he]) hc k hk hl (fun x h => by rw [← hsame]; exact h) hfin hd rfl rfl hlen hdg (fun H1 locs1 hP hD hS => ?_)
  rw [aq_w_set hk0 he' ho] at hP
  exact kk H1 locs1 ⟨I.1, hP, hS⟩
end AR
