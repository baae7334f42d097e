theorem in_X0_init_X0 : ∀ w ∈ wsX00, w ∈ wsX0_init := fun _ h => List.mem_cons_of_mem _ (List.mem_append_left _ (List.mem_append_right _ h))
theorem in_X0_init_X1 : ∀ w ∈ wsX10, w ∈ wsX0_init := fun _ h => List.mem_cons_of_mem _ (List.mem_append_right _ h)
theorem in_X2_init_X2 : ∀ w ∈ wsX20, w ∈ wsX2_init := fun _ h => List.mem_cons_of_mem _ (List.mem_append_left _ (List.mem_append_right _ h))
theorem in_X2_init_X0 : ∀ w ∈ wsX00, w ∈ wsX2_init := fun _ h => List.mem_cons_of_mem _ (List.mem_append_left _ (List.mem_append_left _ (List.mem_append_right _ h)))
theorem in_X2_init_X1 : ∀ w ∈ wsX10, w ∈ wsX2_init := fun _ h => List.mem_cons_of_mem _ (List.mem_append_right _ h)
/-! the makers of the two systems: X1, X0, X2 of the first; X3, X4 of the twin -/
/-- what was there keeps, beside a callee that was given the last cell alone -/
theorem aq_jn {A0 : Nat → Prop} {D : va_G} {cl : List vw_C} {wr w1 : va_W} {q : Nat} {x : va_E} {H H1 : Heap} (hP : va_P D cl (wr ++ [(q, x)]) H) (hD : va_D A0 (wr ++ [(q, x)])) (hk : ∀ a : Nat, a < H.size → ¬ va_A [(q, x)] H.size a → H1[a]? = H[a]?) (hA : ∀ a : Nat, H.size ≤ a → A0 a) (hP1 : va_P D cl w1 H1) (hD1 : va_D (va_A [(q, x)] H.size) w1) : va_P D cl (wr ++ w1) H1 ∧ va_D A0 (wr ++ w1) := by
  have hl : (wr ++ [(q, x)])[wr.length]? = some (q, x) := by rw [List.getElem?_append_right (Nat.le_refl _), Nat.sub_self]; rfl
  have hr : ∀ (k : Nat) (z : Nat × va_E), wr[k]? = some z → (wr ++ [(q, x)])[k]? = some z := fun k z h => by
    rw [List.getElem?_append_left (List.getElem?_eq_some_iff.mp h).1]
    exact h
  have hn : ∀ (k : Nat) (z : Nat × va_E), wr[k]? = some z → z.1 < H.size ∧ z.1 ≠ q := fun k z h => by
    refine ⟨(hP k z (hr k z h)).lt, fun he => ?_⟩
    have h1 := hD.1 k wr.length z (q, x) (hr k z h) hl he
    have h2 := (List.getElem?_eq_some_iff.mp h).1
    omega
  have hin : ∀ (z : Nat), va_A [(q, x)] H.size z → z = q ∨ H.size ≤ z := fun z h => by
    rcases h with ⟨k, e9, h⟩ | h
    · have h1 := (List.getElem?_eq_some_iff.mp h).1
      have h2 : k = 0 := by simp at h1; omega
      subst h2
      cases h
      exact Or.inl rfl
    · exact Or.inr h
  have hp : va_P D cl wr H1 := (fun k z h => (hP k z (hr k z h)).kept (hk z.1 (hn k z h).1 (fun y => by
    rcases hin _ y with h1 | h1
    · exact (hn k z h).2 h1
    · have := (hn k z h).1
      omega)))
  have hs : ∀ (k : Nat) (z : Nat × va_E), (wr ++ w1)[k]? = some z → (k < wr.length ∧ wr[k]? = some z) ∨ (wr.length ≤ k ∧ w1[k - wr.length]? = some z) := fun k z h => by
    by_cases hc : k < wr.length
    · rw [List.getElem?_append_left hc] at h
      exact Or.inl ⟨hc, h⟩
    · rw [List.getElem?_append_right (Nat.le_of_not_lt hc)] at h
      exact Or.inr ⟨Nat.le_of_not_lt hc, h⟩
  have ap : ∀ (i j : Nat) (z y : Nat × va_E), wr[i]? = some z → w1[j]? = some y → z.1 ≠ y.1 := fun i j z y h1 h2 he => by
    have a := hn i z h1
    rcases hin _ (hD1.2 j y h2) with h3 | h3
    · exact a.2 (he.trans h3)
    · omega
  refine ⟨fun k z h => ?_, fun i j z y hi hj he => ?_, fun k z h => ?_⟩
  · rcases hs k z h with ⟨-, h⟩ | ⟨-, h⟩
    · exact hp k z h
    · exact hP1 _ z h
  · rcases hs i z hi with ⟨a1, hi⟩ | ⟨a1, hi⟩ <;> rcases hs j y hj with ⟨b1, hj⟩ | ⟨b1, hj⟩
    · exact hD.1 i j z y (hr i z hi) (hr j y hj) he
    · exact absurd he (ap _ _ _ _ hi hj)
    · exact absurd he.symm (ap _ _ _ _ hj hi)
    · have := hD1.1 _ _ z y hi hj he
      omega
  · rcases hs k z h with ⟨-, h⟩ | ⟨-, h⟩
    · exact hD.2 k z (hr k z h)
    · rcases hin _ (hD1.2 _ z h) with h3 | h3
      · rw [h3]
        exact hD.2 wr.length _ hl
      · exact hA _ h3
def cn_E (U : State) : Prop := va_AO RX1 U ∧ va_Nw (.methodLinkNest RX0 28 yX1_init "ArchWater") U
theorem cn_E.warm {s U : State} (hW : s.WarmedH U.vm) (h : cn_E s) : cn_E U := ⟨h.1.moved hW.alike, va_Nw.warmM hW h.2⟩
theorem cn_E.calling {U : State} {g : JFrame} {mk : MethodId} {a : Array Value} (h : cn_E U) : cn_E (U.calling g mk a) := ⟨h.1.moved (u := U) (U := U.calling g mk a) (Vm.Alike.refl U.vm), va_Nw.same rfl (u := U) rfl h.2⟩
set_option maxHeartbeats 4000000 in
set_option maxRecDepth 100000 in
theorem c_X1_init (l : Launch) (h0 : Nat) : Met l yX1_init wsX1_init ({ frames := 1, cells := 0, slots := 0, locals := 12 }) (va_Pc [.ref h0] (fun _ => True)) (va_Qv (fun _ : Unit => True) (fun _ _ => True) (fun _ => False)) 0 0 (fun _ => False) := by
  refine Met.ofW (cc := cX1_init) (maxL := 1) (ret := none) (by decide) rfl ?_
  intro p e s m args below meth c s₁ B hml hv
  obtain ⟨rfl, -⟩ := hv
  have hx := B.exec
  have hb := B.bytes
  have hr := B.returns
  have hts := atoms_spec (ws := wsX1_init) B.pre
  have hown : s.vm.findClass RX1 = some m.cls := findClass_of_methodNamed B.named
  have hlocks := B.notSynchronized
  have hl := lv_entry ([.ref h0]) (n := 1) (Nat.le_of_ble_eq_true rfl)
  rw [lg_entry_eq]
  generalize (lg_sl ([.ref h0]) ++ List.replicate (1 - (lg_sl ([.ref h0])).length) Slot.unset).toArray = ls at hl ⊢
  have hl : lv_has ls 1 [(0, .ref h0)] := hl
  refine lv_aload_n hx hb dX1_init_0 rfl (lv_at hl 0 rfl) ?_
  refine W.objInit hx hb hown (hts _ (List.mem_of_getElem? (i := 1) rfl)) (hts _ (List.mem_of_getElem? (i := 2) rfl)) (hts _ (List.mem_of_getElem? (i := 3) rfl)) rfl (by rw [hml]; exact hl.1) rfl dX1_init_1 (Nat.le_of_ble_eq_true rfl) (Nat.le_of_ble_eq_true rfl) ?_
  refine W.eq (g2 := F0 m 4 ls []) rfl ?_
  exact W.vret hx hb hr (fun t ht hW => ⟨⟨(), rfl, trivial, trivial⟩, (va_S.rf (A := fun _ => False) (H0 := s.heap)).F ht⟩) (fun q hq => absurd hq List.not_mem_nil) dX1_init_4
abbrev cn_z : va_E := .inr (1, [.int 0, .int 0, .int 0, .int 0, .int 0, .int 0, .int 0, .int 0, .int 0, .int 0])
def cn_t (cI : ClassId) (n : Nat) : va_E := .inl (cI, n, .inl (fun _ => 0))
def cn_q (t1 t2 q : Value) (h : Int32) : va_E := .inr (0, [t1, t2, q, .int 0, .int 0, .int 0, .int h, .int 0, .int 0, .int 0, .int 0, .int 0, .int 0])
def cn_r (cQ : ClassId) (k : Nat) (b : Nat → Nat) : va_E := .inl (cQ, 20, .inr (.inr (.inr (.inr (fun j => if j < k then some (b j) else none)))))
def cn_l (k : Nat) (b : Nat → Nat) : va_W := (List.range k).map (fun j => (b j, cn_z))
def cn_w (h0 w1 w2 q : Nat) (cI cQ : ClassId) (k : Nat) (b : Nat → Nat) : va_W := (h0, cn_q (.ref w1) (.ref w2) (.ref q) 100) :: (w1, cn_t cI 24) :: (w2, cn_t cI 24) :: (q, cn_r cQ k b) :: cn_l k b
/-- what a maker of an aqueduct says: its tables, its row, their classes, its arches -/
abbrev cn_U : Type := Nat × Nat × Nat × ClassId × ClassId × (Nat → Nat)
def cn_wu (h0 : Nat) (u : cn_U) : va_W := cn_w h0 u.1 u.2.1 u.2.2.1 u.2.2.2.1 u.2.2.2.2.1 20 u.2.2.2.2.2
theorem cn_l1 (k : Nat) (b : Nat → Nat) (x : Nat) : cn_l k b ++ [(x, cn_z)] = cn_l (k + 1) (fun j => if j = k then x else b j) := by
  unfold cn_l
  rw [List.range_succ, List.map_append]
  congr 1
  · refine List.map_congr_left (fun j hj => ?_)
    have := List.mem_range.mp hj
    show (b j, cn_z) = (if j = k then x else b j, cn_z)
    rw [if_neg (by omega)]
  · simp
theorem cn_lat {k i : Nat} {b : Nat → Nat} (h : i < k) : (cn_l k b)[i]? = some (b i, cn_z) := by simp [cn_l, h]
theorem cn_llen (k : Nat) (b : Nat → Nat) : (cn_l k b).length = k := by simp [cn_l]
theorem cn_same {U : State} {D : va_G} {cl : List vw_C} {tys : List (ClassId × FieldType)} {a b : Nat} {cA cB : ClassId} {t : FieldType} (h : va_K D cl tys U) (ha : tys[a]? = some (cA, t)) (hb : tys[b]? = some (cB, t)) : cA = cB := by
  have h1 := (h.2 a _ ha).2
  have h2 := (h.2 b _ hb).2
  cases t with
  | object C =>
    obtain ⟨_, _, _, _, _, h1⟩ := h1
    obtain ⟨_, _, _, _, _, h2⟩ := h2
    exact Option.some.inj (h1.symm.trans h2)
  | _ => exact Option.some.inj (h1.symm.trans h2)
set_option maxHeartbeats 4000000 in
set_option maxRecDepth 100000 in
theorem c_X0_init (l : Launch) (D : va_G) (h0 sz : Nat) : Met l yX0_init wsX0_init ({ frames := 2, cells := 23, slots := 268, locals := 32 }) (va_Pc [.ref h0] (fun U => U.heap.size = sz ∧ va_P D vwCl [(h0, cn_q .null .null .null 0)] U.heap ∧ va_K D vwCl [] U ∧ cn_E U)) (va_Qv (fun _ : cn_U => True) (fun u t => va_P D vwCl (cn_wu h0 u) t.heap ∧ va_K D vwCl [(u.2.2.2.1, .int), (u.2.2.2.2.1, .object RX1)] t ∧ va_D (va_A [(h0, cn_q .null .null .null 0)] sz) (cn_wu h0 u)) (va_A [(h0, cn_q .null .null .null 0)] sz)) 23 268 (va_A [(h0, cn_q .null .null .null 0)] sz) := by
  refine Met.ofW (cc := cX0_init) (maxL := 2) (ret := none) (by decide) rfl ?_
  intro p e s m args below meth c s₁ B hml hv
  obtain ⟨rfl, hsz, hP, hK, hE⟩ := hv
  have hx := B.exec
  have hb := B.bytes
  have hr := B.returns
  have hts := atoms_spec (ws := wsX0_init) B.pre
  have hown : s.vm.findClass RX0 = some m.cls := findClass_of_methodNamed B.named
  have hlocks := B.notSynchronized
  have hin : meth.name = "<init>" := (name_of_methodNamed B.named B.method).1
  subst hsz
  have hD : va_D (va_A [(h0, cn_q .null .null .null 0)] s.heap.size) [(h0, cn_q .null .null .null 0)] := ⟨fun i j z y hi hj _ => by
    have h1 := (List.getElem?_eq_some_iff.mp hi).1
    have h2 := (List.getElem?_eq_some_iff.mp hj).1
    simp at h1 h2
    omega, fun k z hk => Or.inl ⟨k, z.2, hk⟩⟩
  generalize hAe : va_A [(h0, cn_q .null .null .null 0)] s.heap.size = A at hD ⊢
  have hA : ∀ q : Nat, s.heap.size ≤ q → A q := fun q h => by rw [← hAe]; exact Or.inr h
  have hS : va_S A s.heap s.heap [] := va_S.rf
  have hl := lv_entry ([.ref h0]) (n := 2) (Nat.le_of_ble_eq_true rfl)
  rw [lg_entry_eq]
  generalize (lg_sl ([.ref h0]) ++ List.replicate (2 - (lg_sl ([.ref h0])).length) Slot.unset).toArray = ls at hl ⊢
  have hl : lv_has ls 2 [(0, .ref h0)] := hl
  refine lv_aload_n hx hb dX0_init_0 rfl (lv_at hl 0 rfl) ?_
  refine W.objInit hx hb hown (hts _ (List.mem_of_getElem? (i := 1) rfl)) (hts _ (List.mem_of_getElem? (i := 2) rfl)) (hts _ (List.mem_of_getElem? (i := 3) rfl)) rfl (by rw [hml]; exact hl.1) rfl dX0_init_1 (Nat.le_of_ble_eq_true rfl) (Nat.le_of_ble_eq_true rfl) ?_
  refine W.eq (g2 := F0 m 4 ls []) rfl ?_
  refine lv_aload_n hx hb dX0_init_4 rfl (lv_at hl 0 rfl) ?_
  refine lv_bipush (v := 24) hx hb dX0_init_5 (by decide) ?_
  refine va_newa (atype := .int) (D := D) hx hb (hts _ (List.mem_of_getElem? (i := 4) rfl)) (ty := .int) rfl hK hP hD hS hA (n := 24) (N' := 24) (a0 := (24, .inl (fun _ => 0))) (fun cA => rfl) (by decide) (by decide) (by decide) (Nat.le_of_ble_eq_true rfl) (Nat.le_of_ble_eq_true rfl) dX0_init_7 (fun w1 cA H hK hP hD hS => ?_)
  refine W.cs (cells' := 1) (slots' := 24) rfl rfl ?_
  have hP : va_P D vwCl [(h0, cn_q .null .null .null 0), (w1, cn_t cA 24)] H := hP
  have hD : va_D A [(h0, cn_q .null .null .null 0), (w1, cn_t cA 24)] := hD
  refine va_putF (D := D) (ci := 0) (v := .ref w1) (ty := tyX0 0) (C := RX0) (T := TX0) (N := 13) hx hb hts in_X0_init_X0 tyX0 tyX0_ok nmX0 hown hK hP hD hS 0 rfl rfl 0 (by decide) (hts _ (List.mem_of_getElem? (i := 5) rfl)) (fun _ h9 => h9) rfl hin rfl (tyX0_ok 0 (by decide)) rfl rfl (Nat.le_of_ble_eq_true rfl) dX0_init_9 (fun H locs hP hD hS => ?_)
  have hP : va_P D vwCl [(h0, cn_q (.ref w1) .null .null 0), (w1, cn_t cA 24)] H := hP
  have hD : va_D A [(h0, cn_q (.ref w1) .null .null 0), (w1, cn_t cA 24)] := hD
  refine lv_aload_n hx hb dX0_init_12 rfl (lv_at hl 0 rfl) ?_
  refine lv_bipush (v := 24) hx hb dX0_init_13 (by decide) ?_
  refine va_newa (atype := .int) (D := D) hx hb (hts _ (List.mem_of_getElem? (i := 4) rfl)) (ty := .int) rfl hK hP hD hS hA (n := 24) (N' := 24) (a0 := (24, .inl (fun _ => 0))) (fun cA => rfl) (by decide) (by decide) (by decide) (Nat.le_of_ble_eq_true rfl) (Nat.le_of_ble_eq_true rfl) dX0_init_15 (fun w2 cB H hK hP hD hS => ?_)
  refine W.cs (cells' := 2) (slots' := 48) rfl rfl ?_
  have hP : va_P D vwCl [(h0, cn_q (.ref w1) .null .null 0), (w1, cn_t cA 24), (w2, cn_t cB 24)] H := hP
  have hD : va_D A [(h0, cn_q (.ref w1) .null .null 0), (w1, cn_t cA 24), (w2, cn_t cB 24)] := hD
  refine va_putF (D := D) (ci := 0) (v := .ref w2) (ty := tyX0 1) (C := RX0) (T := TX0) (N := 13) hx hb hts in_X0_init_X0 tyX0 tyX0_ok nmX0 hown hK hP hD hS 0 rfl rfl 1 (by decide) (hts _ (List.mem_of_getElem? (i := 6) rfl)) (fun _ h9 => h9) rfl hin rfl (tyX0_ok 1 (by decide)) rfl rfl (Nat.le_of_ble_eq_true rfl) dX0_init_17 (fun H locs hP hD hS => ?_)
  have hP : va_P D vwCl [(h0, cn_q (.ref w1) (.ref w2) .null 0), (w1, cn_t cA 24), (w2, cn_t cB 24)] H := hP
  have hD : va_D A [(h0, cn_q (.ref w1) (.ref w2) .null 0), (w1, cn_t cA 24), (w2, cn_t cB 24)] := hD
  refine lv_aload_n hx hb dX0_init_20 rfl (lv_at hl 0 rfl) ?_
  refine lv_bipush (v := 20) hx hb dX0_init_21 (by decide) ?_
  refine va_newq (D := D) (own := RX0) (C := RX1) hx hb hown (hts _ (List.mem_of_getElem? (i := 7) rfl)) hE.1 hK hP hD hS hA (n := 20) (N' := 20) (by decide) (by decide) (by decide) (Nat.le_of_ble_eq_true rfl) (Nat.le_of_ble_eq_true rfl) dX0_init_23 (fun q cQ H hK hP hD hS => ?_)
  refine W.cs (cells' := 3) (slots' := 68) rfl rfl ?_
  have e0 : (fun _ : Nat => (none : Option Nat)) = (fun j : Nat => if j < 0 then some ((fun _ : Nat => 0) j) else none) := by funext j; rw [if_neg (Nat.not_lt_zero j)]
  rw [e0] at hP hD
  have hP : va_P D vwCl [(h0, cn_q (.ref w1) (.ref w2) .null 0), (w1, cn_t cA 24), (w2, cn_t cB 24), (q, cn_r cQ 0 (fun _ => 0))] H := hP
  have hD : va_D A [(h0, cn_q (.ref w1) (.ref w2) .null 0), (w1, cn_t cA 24), (w2, cn_t cB 24), (q, cn_r cQ 0 (fun _ => 0))] := hD
  refine va_putF (D := D) (ci := 0) (v := .ref q) (ty := tyX0 2) (C := RX0) (T := TX0) (N := 13) hx hb hts in_X0_init_X0 tyX0 tyX0_ok nmX0 hown hK hP hD hS 0 rfl rfl 2 (by decide) (hts _ (List.mem_of_getElem? (i := 8) rfl)) (fun _ h9 => h9) rfl hin rfl (tyX0_ok 2 (by decide)) rfl rfl (Nat.le_of_ble_eq_true rfl) dX0_init_26 (fun H locs hP hD hS => ?_)
  have hP : va_P D vwCl [(h0, cn_q (.ref w1) (.ref w2) (.ref q) 0), (w1, cn_t cA 24), (w2, cn_t cB 24), (q, cn_r cQ 0 (fun _ => 0))] H := hP
  have hD : va_D A [(h0, cn_q (.ref w1) (.ref w2) (.ref q) 0), (w1, cn_t cA 24), (w2, cn_t cB 24), (q, cn_r cQ 0 (fun _ => 0))] := hD
  refine lv_aload_n hx hb dX0_init_29 rfl (lv_at hl 0 rfl) ?_
  refine lv_bipush (v := 100) hx hb dX0_init_30 (by decide) ?_
  refine va_put (D := D) (ci := 0) (v := .int 100) (ty := tyX0 6) (C := RX0) (T := TX0) (N := 13) hx hb hts in_X0_init_X0 tyX0 tyX0_ok nmX0 hown hK hP hD hS 0 rfl rfl 6 (by decide) (hts _ (List.mem_of_getElem? (i := 9) rfl)) (fun _ h9 => h9) rfl (tyX0_ok 6 (by decide)) rfl rfl (Nat.le_of_ble_eq_true rfl) dX0_init_32 (fun H locs hP hD hS => ?_)
  have hP : va_P D vwCl [(h0, cn_q (.ref w1) (.ref w2) (.ref q) 100), (w1, cn_t cA 24), (w2, cn_t cB 24), (q, cn_r cQ 0 (fun _ => 0))] H := hP
  have hD : va_D A [(h0, cn_q (.ref w1) (.ref w2) (.ref q) 100), (w1, cn_t cA 24), (w2, cn_t cB 24), (q, cn_r cQ 0 (fun _ => 0))] := hD
  have hK : va_K D vwCl [(cA, .int), (cB, .int), (cQ, .object RX1)] s := hK
  obtain rfl := cn_same (a := 0) (b := 1) hK rfl rfl
  have hK : va_K D vwCl [(cA, .int), (cQ, .object RX1)] s := hK.sub [0, 2] rfl
  have hP : va_P D vwCl (cn_w h0 w1 w2 q cA cQ 0 (fun _ => 0)) H := hP
  have hD : va_D A (cn_w h0 w1 w2 q cA cQ 0 (fun _ => 0)) := hD
  refine lv_iconst (v := 0) hx hb dX0_init_35 (by decide) ?_
  refine lv_istore_n (lv' := [(1, .int (nI 0)), (0, .ref h0)]) hx hb dX0_init_36 rfl hl (by decide) rfl (fun ls hl => ?_)
  have L : ∀ (k i : Nat) (b : Nat → Nat), i + k = 20 → ∀ (H : Heap) (locs : List Loc), va_P D vwCl (cn_w h0 w1 w2 q cA cQ i b) H → va_D A (cn_w h0 w1 w2 q cA cQ i b) → va_S A s.heap H locs → ∀ ls : Array Slot, lv_has ls 2 [(1, .int (nI i)), (0, .ref h0)] → W p l e ({ frames := 2, cells := 23, slots := 268, locals := 32 } : Room) s m (([.ref h0] : List Value).toArray) below meth c H locs (3 + i) (68 + 10 * i) (MQ below (va_Qv (fun _ : cn_U => True) (fun u t => va_P D vwCl (cn_wu h0 u) t.heap ∧ va_K D vwCl [(u.2.2.2.1, .int), (u.2.2.2.2.1, .object RX1)] t ∧ va_D A (cn_wu h0 u)) A) (([.ref h0] : List Value).toArray) s 23 268 A) (F0 m 37 ls []) := by
    intro k
    induction k with
    | zero =>
      intro i b hi H locs hP hD hS ls hl
      obtain rfl : i = 20 := by omega
      refine lv_iload_n hx hb dX0_init_37 rfl (lv_at hl 0 rfl) ?_
      refine lv_bipush (v := 20) hx hb dX0_init_38 (by decide) ?_
      refine lv_icmp_ge (tgt := 62) hx hb dX0_init_40 (by decide) (fun c1 => ?_) (fun c1 => absurd (by decide) c1)
      refine W.cs (cells' := 23) (slots' := 268) (by omega) (by omega) ?_
      exact W.vret hx hb hr (fun t ht hW => ⟨⟨(w1, w2, q, cA, cQ, b), rfl, trivial, by rw [ht]; exact hP, va_K.moved hW.alike hK, hD⟩, hS.F ht⟩) hS.2.2 dX0_init_62
    | succ k ih =>
      intro i b hi H locs hP hD hS ls hl
      refine lv_iload_n hx hb dX0_init_37 rfl (lv_at hl 0 rfl) ?_
      refine lv_bipush (v := 20) hx hb dX0_init_38 (by decide) ?_
      refine lv_icmp_ge (tgt := 62) hx hb dX0_init_40 (by decide) (fun c1 => ?_) (fun c1 => ?_)
      · exfalso
        have := (nI_leI (a := 20) (b := i) (by omega) (by omega)).mp c1
        omega
      · refine lv_aload_n hx hb dX0_init_43 rfl (lv_at hl 1 rfl) ?_
        refine va_get (D := D) (ci := 0) (v := .ref q) (C := RX0) (T := TX0) (N := 13) hx hb hts in_X0_init_X0 hown hK hP 0 rfl rfl 2 (by decide) (hts _ (List.mem_of_getElem? (i := 8) rfl)) (fun _ h9 => h9) rfl dX0_init_44 ?_
        refine lv_iload_n hx hb dX0_init_47 rfl (lv_at hl 0 rfl) ?_
        refine va_new (ci := 1) (fs := [.int 0, .int 0, .int 0, .int 0, .int 0, .int 0, .int 0, .int 0, .int 0, .int 0]) (C := RX1) (T := TX1) (N := 10) hx hb hts in_X0_init_X1 tyX1 tyX1_ok hown (hts _ (List.mem_of_getElem? (i := 7) rfl)) (hts _ (List.mem_of_getElem? (i := 10) rfl)) (hts _ (List.mem_of_getElem? (i := 11) rfl)) hK hP hD hS hA rfl (fun j hj => by
          rcases (show j = 0 ∨ j = 1 ∨ j = 2 ∨ j = 3 ∨ j = 4 ∨ j = 5 ∨ j = 6 ∨ j = 7 ∨ j = 8 ∨ j = 9 by omega) with rfl | rfl | rfl | rfl | rfl | rfl | rfl | rfl | rfl | rfl <;> rfl) (by dsimp only; omega) (by dsimp only; omega) dX0_init_48 (fun x H hP hD hS => ?_)
        refine lv_dup hx hb dX0_init_51 rfl ?_
        have ht : 3 + i + 1 ≤ 23 ∧ 68 + 10 * i + 10 ≤ 268 := ⟨by omega, by omega⟩
        refine va_callv (va_runIN (As := []) (rest := [.ref x, .int (nI i), .ref q]) ⟨hx, hb, hml, hown, hts⟩ (c_X1_init l x) ⟨va_cnB 0 hts gX0_init_X1_init_n28 rfl rfl rfl hE.2 (hts _ (List.mem_of_getElem? (i := 11) rfl)) (by decide +kernel) ⟨Nat.le_of_ble_eq_true rfl, Nat.le_of_ble_eq_true rfl⟩, rfl, hts _ (List.mem_of_getElem? (i := 12) rfl)⟩ ⟨fun a U g mk z => z, fun U hU hW => ⟨rfl, trivial⟩⟩ rfl rfl hl.1 rfl (lv_room (Nat.le_of_ble_eq_true rfl)) dX0_init_52 ht) hS (fun z _ h => h.elim) (fun z h => h.elim) (fun u t H1 locs1 ht2 hvm h5 hB hz1 hk1 hS => ?_)
        have hP := hP.kept (H1 := H1) (fun k9 z9 hz9 => hk1 _ ((hP k9 z9 hz9).lt) (fun h => h))
        have hlen : (cn_w h0 w1 w2 q cA cQ i b).length = 4 + i := by
          show (cn_l i b).length + 1 + 1 + 1 + 1 = 4 + i
          rw [cn_llen]
          omega
        have hxx : (cn_w h0 w1 w2 q cA cQ i b ++ [(x, cn_z)])[4 + i]? = some (x, cn_z) := by rw [List.getElem?_append_right (by omega), hlen, Nat.sub_self]; rfl
        refine va_astq (D := D) (i := nI i) hx hb hK hP hD hS 3 1 (4 + i) 1 (r := (RX1, TX1, 10)) rfl rfl hxx rfl (vp_in_nI (by omega) (by omega)) dX0_init_55 (fun H locs hP hD hS => ?_)
        have ew : (cn_w h0 w1 w2 q cA cQ i b ++ [(x, cn_z)]).set 3 (q, .inl (cQ, 20, .inr (.inr (.inr (.inr (va_up (fun j => if j < i then some (b j) else none) (nI i).toNatClampNeg (some x))))))) = cn_w h0 w1 w2 q cA cQ (i + 1) (fun j => if j = i then x else b j) := by
          rw [nI_clamp (by omega)]
          show (h0, cn_q (.ref w1) (.ref w2) (.ref q) 100) :: (w1, cn_t cA 24) :: (w2, cn_t cA 24) :: (q, _) :: (cn_l i b ++ [(x, cn_z)]) = _
          rw [cn_l1]
          have ef : va_up (fun j => if j < i then some (b j) else none) i (some x) = (fun j => if j < i + 1 then some ((fun j => if j = i then x else b j) j) else none) := by
            funext j
            unfold va_up
            by_cases hj : j = i
            · rw [if_pos hj, if_pos (by omega)]
              show some x = some (if j = i then x else b j)
              rw [if_pos hj]
            · rw [if_neg hj]
              show _ = if j < i + 1 then some (if j = i then x else b j) else none
              rw [if_neg hj]
              show (if j < i then some (b j) else none) = _
              by_cases hj2 : j < i
              · rw [if_pos hj2, if_pos (by omega)]
              · rw [if_neg hj2, if_neg (by omega)]
          rw [ef]
          rfl
        rw [ew] at hP hD
        refine lv_iinc (v := nI (i + 1)) (lv' := [(1, .int (nI (i + 1))), (0, .ref h0)]) hx hb dX0_init_56 hl (k := 0) rfl (nI_1 _) (by decide) rfl (fun ls hl => ?_)
        refine lv_goto (tgt := 37) hx hb dX0_init_59 (by decide) ?_
        refine W.cs (cells' := 3 + (i + 1)) (slots' := 68 + 10 * (i + 1)) (by omega) (by omega) ?_
        exact ih (i + 1) _ (by omega) H locs hP hD hS ls hl
  exact L 20 0 _ rfl H locs hP hD hS ls hl
def cn_x (a b : Value) : va_E := .inr (2, [a, b])
def cn_V : aq_V := fun _ f k => if f = 10 ∧ k = 6 then 100 else 0
/-- the object, two aqueducts with their tables, rows and arches -/
def cn_W (h0 q3 q4 : Nat) (u v : cn_U) : va_W := (h0, cn_x (.ref q3) (.ref q4)) :: (cn_wu q3 u ++ cn_wu q4 v)
def cn_ad (h0 q3 q4 : Nat) (u v : cn_U) (c : Nat) : Nat := if c = 0 then h0 else if c = 1 then u.1 else if c = 2 then u.2.1 else if c = 3 then q3 else if c = 4 then q4 else if c = 5 then u.2.2.1 else if c = 6 then v.2.2.1 else if c < 27 then u.2.2.2.2.2 (c - 7) else if c < 47 then v.2.2.2.2.2 (c - 27) else if c = 47 then v.1 else v.2.1
def cn_p (c : Nat) : Nat := if c = 0 then 0 else if c < 3 then c + 1 else if c = 3 then 1 else if c = 4 then 25 else if c = 5 then 4 else if c = 6 then 28 else if c < 27 then c - 2 else if c < 47 then c + 2 else c - 21
theorem cn_p_inj {c d : Nat} (hc : c < 49) (hd : d < 49) (h : cn_p c = cn_p d) : c = d := by
  unfold cn_p at h
  repeat (first | omega | (split at h))
theorem cn_rows {cQ : ClassId} {b g : Nat → Nat} (h : ∀ j, j < 20 → g j = b j) : vp_cell cQ (20, .inr (.inr (.inr (.inr (fun j => if j < 20 then some (b j) else none))))) = vp_cell cQ (20, .inr (.inr (.inr (.inr (fun j => some (g j)))))) := by
  rw [vp_cell_q, vp_cell_q]
  have e9 : (fun j : Fin 20 => va_rf (if j.val < 20 then some (b j.val) else none)) = (fun j : Fin 20 => va_rf (some (g j.val))) := funext fun j => by rw [if_pos j.isLt, h j.val j.isLt]
  unfold arrV
  rw [e9]
theorem cn_len (h0 : Nat) (u : cn_U) : (cn_wu h0 u).length = 24 := by
  show (cn_l 20 u.2.2.2.2.2).length + 1 + 1 + 1 + 1 = 24
  rw [cn_llen]
theorem cn_ad7 {h0 q3 q4 : Nat} {u v : cn_U} {j : Nat} (h : j < 20) : cn_ad h0 q3 q4 u v (7 + j) = u.2.2.2.2.2 j := by
  unfold cn_ad
  rw [if_neg (by omega), if_neg (by omega), if_neg (by omega), if_neg (by omega), if_neg (by omega), if_neg (by omega), if_neg (by omega), if_pos (by omega), show 7 + j - 7 = j by omega]
theorem cn_ad27 {h0 q3 q4 : Nat} {u v : cn_U} {j : Nat} (h : j < 20) : cn_ad h0 q3 q4 u v (27 + j) = v.2.2.2.2.2 j := by
  unfold cn_ad
  rw [if_neg (by omega), if_neg (by omega), if_neg (by omega), if_neg (by omega), if_neg (by omega), if_neg (by omega), if_neg (by omega), if_neg (by omega), if_pos (by omega), show 27 + j - 27 = j by omega]
theorem cn_p7 {j : Nat} (h : j < 20) : cn_p (7 + j) = (j + 4) + 1 := by
  unfold cn_p
  rw [if_neg (by omega), if_neg (by omega), if_neg (by omega), if_neg (by omega), if_neg (by omega), if_neg (by omega), if_pos (by omega)]
  omega
theorem cn_p27 {j : Nat} (h : j < 20) : cn_p (27 + j) = (j + 4) + 25 := by
  unfold cn_p
  rw [if_neg (by omega), if_neg (by omega), if_neg (by omega), if_neg (by omega), if_neg (by omega), if_neg (by omega), if_neg (by omega), if_pos (by omega)]
  omega
/-- where each cell of the world lies in the list -/
theorem cn_at {h0 q3 q4 : Nat} {u v : cn_U} {c : Nat} (hc : c < 49) : ∃ x : va_E, (cn_W h0 q3 q4 u v)[cn_p c]? = some (cn_ad h0 q3 q4 u v c, x) ∧ (c = 0 → x = cn_x (.ref q3) (.ref q4)) ∧ (c = 1 → x = cn_t u.2.2.2.1 24) ∧ (c = 2 → x = cn_t u.2.2.2.1 24) ∧ (c = 3 → x = cn_q (.ref u.1) (.ref u.2.1) (.ref u.2.2.1) 100) ∧ (c = 4 → x = cn_q (.ref v.1) (.ref v.2.1) (.ref v.2.2.1) 100) ∧ (c = 5 → x = cn_r u.2.2.2.2.1 20 u.2.2.2.2.2) ∧ (c = 6 → x = cn_r v.2.2.2.2.1 20 v.2.2.2.2.2) ∧ (c = 47 → x = cn_t v.2.2.2.1 24) ∧ (c = 48 → x = cn_t v.2.2.2.1 24) ∧ (7 ≤ c → c < 47 → x = cn_z) := by
  have hl := cn_len q3 u
  have hA : ∀ k, k < 24 → (cn_W h0 q3 q4 u v)[k + 1]? = (cn_wu q3 u)[k]? := fun k hk => by
    show (cn_wu q3 u ++ cn_wu q4 v)[k]? = _
    exact List.getElem?_append_left (by omega)
  have hB : ∀ k, (cn_W h0 q3 q4 u v)[k + 25]? = (cn_wu q4 v)[k]? := fun k => by
    show (cn_wu q3 u ++ cn_wu q4 v)[k + 24]? = _
    rw [List.getElem?_append_right (by omega), hl, Nat.add_sub_cancel]
  by_cases c0 : 7 ≤ c ∧ c < 47
  · refine ⟨cn_z, ?_, by omega, by omega, by omega, by omega, by omega, by omega, by omega, by omega, by omega, fun _ _ => rfl⟩
    by_cases c1 : c < 27
    · obtain ⟨j, rfl⟩ : ∃ j, c = 7 + j := ⟨c - 7, by omega⟩
      rw [cn_p7 (by omega), hA _ (by omega), cn_ad7 (by omega)]
      exact cn_lat (by omega)
    · obtain ⟨j, rfl⟩ : ∃ j, c = 27 + j := ⟨c - 27, by omega⟩
      rw [cn_p27 (by omega), hB _, cn_ad27 (by omega)]
      exact cn_lat (by omega)
  · rcases (show c = 0 ∨ c = 1 ∨ c = 2 ∨ c = 3 ∨ c = 4 ∨ c = 5 ∨ c = 6 ∨ c = 47 ∨ c = 48 by omega) with rfl | rfl | rfl | rfl | rfl | rfl | rfl | rfl | rfl
    · exact ⟨_, rfl, fun _ => rfl, fun h => absurd h (by decide), fun h => absurd h (by decide), fun h => absurd h (by decide), fun h => absurd h (by decide), fun h => absurd h (by decide), fun h => absurd h (by decide), fun h => absurd h (by decide), fun h => absurd h (by decide), fun h => absurd h (by decide)⟩
    · exact ⟨_, hA 1 (by omega), fun h => absurd h (by decide), fun _ => rfl, fun h => absurd h (by decide), fun h => absurd h (by decide), fun h => absurd h (by decide), fun h => absurd h (by decide), fun h => absurd h (by decide), fun h => absurd h (by decide), fun h => absurd h (by decide), fun h => absurd h (by decide)⟩
    · exact ⟨_, hA 2 (by omega), fun h => absurd h (by decide), fun h => absurd h (by decide), fun _ => rfl, fun h => absurd h (by decide), fun h => absurd h (by decide), fun h => absurd h (by decide), fun h => absurd h (by decide), fun h => absurd h (by decide), fun h => absurd h (by decide), fun h => absurd h (by decide)⟩
    · exact ⟨_, hA 0 (by omega), fun h => absurd h (by decide), fun h => absurd h (by decide), fun h => absurd h (by decide), fun _ => rfl, fun h => absurd h (by decide), fun h => absurd h (by decide), fun h => absurd h (by decide), fun h => absurd h (by decide), fun h => absurd h (by decide), fun h => absurd h (by decide)⟩
    · exact ⟨_, hB 0, fun h => absurd h (by decide), fun h => absurd h (by decide), fun h => absurd h (by decide), fun h => absurd h (by decide), fun _ => rfl, fun h => absurd h (by decide), fun h => absurd h (by decide), fun h => absurd h (by decide), fun h => absurd h (by decide), fun h => absurd h (by decide)⟩
    · exact ⟨_, hA 3 (by omega), fun h => absurd h (by decide), fun h => absurd h (by decide), fun h => absurd h (by decide), fun h => absurd h (by decide), fun h => absurd h (by decide), fun _ => rfl, fun h => absurd h (by decide), fun h => absurd h (by decide), fun h => absurd h (by decide), fun h => absurd h (by decide)⟩
    · exact ⟨_, hB 3, fun h => absurd h (by decide), fun h => absurd h (by decide), fun h => absurd h (by decide), fun h => absurd h (by decide), fun h => absurd h (by decide), fun h => absurd h (by decide), fun _ => rfl, fun h => absurd h (by decide), fun h => absurd h (by decide), fun h => absurd h (by decide)⟩
    · exact ⟨_, hB 1, fun h => absurd h (by decide), fun h => absurd h (by decide), fun h => absurd h (by decide), fun h => absurd h (by decide), fun h => absurd h (by decide), fun h => absurd h (by decide), fun h => absurd h (by decide), fun _ => rfl, fun h => absurd h (by decide), fun h h9 => absurd h9 (by omega)⟩
    · exact ⟨_, hB 2, fun h => absurd h (by decide), fun h => absurd h (by decide), fun h => absurd h (by decide), fun h => absurd h (by decide), fun h => absurd h (by decide), fun h => absurd h (by decide), fun h => absurd h (by decide), fun h => absurd h (by decide), fun _ => rfl, fun h h9 => absurd h9 (by omega)⟩
/-- the list as the world of 49 cells -/
theorem cn_toC {D : va_G} {A : Nat → Prop} {H : Heap} {h0 q3 q4 : Nat} {cI cQ : ClassId} {u v : cn_U} (hu : u.2.2.2.1 = cI) (hv : v.2.2.2.1 = cI) (hu2 : u.2.2.2.2.1 = cQ) (hv2 : v.2.2.2.2.1 = cQ) (hP : va_P D vwCl (cn_W h0 q3 q4 u v) H) (hD : va_D A (cn_W h0 q3 q4 u v)) : va_P D vwCl (aC_w (cn_ad h0 q3 q4 u v) cI cQ cn_V) H ∧ aq_J 49 (cn_ad h0 q3 q4 u v) ∧ ∀ c, c < 49 → A (cn_ad h0 q3 q4 u v c) := by
  refine ⟨fun k z hk => ?_, fun c d hc hd he => ?_, fun c hc => ?_⟩
  · obtain ⟨hk2, rfl⟩ := aq_w_in hk
    obtain ⟨x, h1, x0, x1, x2, x3, x4, x5, x6, x47, x48, x7⟩ := cn_at (h0 := h0) (q3 := q3) (q4 := q4) (u := u) (v := v) hk2
    have h2 := hP _ _ h1
    by_cases c0 : 7 ≤ k ∧ k < 47
    · rw [x7 c0.1 c0.2] at h2
      have e : aC_e (cn_ad h0 q3 q4 u v) cI cQ cn_V k = cn_z := by
        unfold aC_e
        rw [if_neg (by omega), if_neg (by omega), if_neg (by omega), if_neg (by omega), if_pos c0.2]
        rfl
      rw [e]
      exact h2
    · rcases (show k = 0 ∨ k = 1 ∨ k = 2 ∨ k = 3 ∨ k = 4 ∨ k = 5 ∨ k = 6 ∨ k = 47 ∨ k = 48 by omega) with rfl | rfl | rfl | rfl | rfl | rfl | rfl | rfl | rfl
      · rw [x0 rfl] at h2; exact h2
      · rw [x1 rfl, hu] at h2; exact h2
      · rw [x2 rfl, hu] at h2; exact h2
      · rw [x3 rfl] at h2; exact h2
      · rw [x4 rfl] at h2; exact h2
      · rw [x5 rfl] at h2
        have h3 : H[cn_ad h0 q3 q4 u v 5]? = some (vp_cell u.2.2.2.2.1 (20, .inr (.inr (.inr (.inr (fun j => if j < 20 then some (u.2.2.2.2.2 j) else none)))))) := h2
        rw [hu2, cn_rows (g := fun j => cn_ad h0 q3 q4 u v (7 + 20 * (5 - 5) + j)) (fun j hj => cn_ad7 hj)] at h3
        exact h3
      · rw [x6 rfl] at h2
        have h3 : H[cn_ad h0 q3 q4 u v 6]? = some (vp_cell v.2.2.2.2.1 (20, .inr (.inr (.inr (.inr (fun j => if j < 20 then some (v.2.2.2.2.2 j) else none)))))) := h2
        rw [hv2, cn_rows (g := fun j => cn_ad h0 q3 q4 u v (7 + 20 * (6 - 5) + j)) (fun j hj => cn_ad27 hj)] at h3
        exact h3
      · rw [x47 rfl, hv] at h2; exact h2
      · rw [x48 rfl, hv] at h2; exact h2
  · obtain ⟨x, h1, -⟩ := cn_at (h0 := h0) (q3 := q3) (q4 := q4) (u := u) (v := v) hc
    obtain ⟨y, h2, -⟩ := cn_at (h0 := h0) (q3 := q3) (q4 := q4) (u := u) (v := v) hd
    exact cn_p_inj hc hd (hD.1 _ _ _ _ h1 h2 he)
  · obtain ⟨x, h1, -⟩ := cn_at (h0 := h0) (q3 := q3) (q4 := q4) (u := u) (v := v) hc
    exact hD.2 _ _ h1
set_option maxHeartbeats 4000000 in
set_option maxRecDepth 100000 in
theorem c_X2_init (l : Launch) (D : va_G) (h0 sz : Nat) : Met l yX2_init wsX2_init ({ frames := 3, cells := 48, slots := 562, locals := 53 }) (va_Pc [.ref h0] (fun U => U.heap.size = sz ∧ va_P D vwCl [(h0, cn_x .null .null)] U.heap ∧ va_K D vwCl [] U ∧ cn_E U)) (va_Qv (fun u : ClassId × ClassId × (Nat → Nat) => u.2.2 0 = h0 ∧ aq_J 49 u.2.2 ∧ ∀ c, c < 49 → va_A [(h0, cn_x .null .null)] sz (u.2.2 c)) (fun u t => aq_B D (aC_t u.1 u.2.1) (aC_w u.2.2 u.1 u.2.1 cn_V) t) (va_A [(h0, cn_x .null .null)] sz)) 48 562 (va_A [(h0, cn_x .null .null)] sz) := by
  refine Met.ofW (cc := cX2_init) (maxL := 1) (ret := none) (by decide) rfl ?_
  intro p e s m args below meth c s₁ B hml hv
  obtain ⟨rfl, hsz, hP, hK, hE⟩ := hv
  have hx := B.exec
  have hb := B.bytes
  have hr := B.returns
  have hts := atoms_spec (ws := wsX2_init) B.pre
  have hown : s.vm.findClass RX2 = some m.cls := findClass_of_methodNamed B.named
  have hlocks := B.notSynchronized
  have hin : meth.name = "<init>" := (name_of_methodNamed B.named B.method).1
  subst hsz
  have hD : va_D (va_A [(h0, cn_x .null .null)] s.heap.size) [(h0, cn_x .null .null)] := ⟨fun i j z y hi hj _ => by
    have h1 := (List.getElem?_eq_some_iff.mp hi).1
    have h2 := (List.getElem?_eq_some_iff.mp hj).1
    simp at h1 h2
    omega, fun k z hk => Or.inl ⟨k, z.2, hk⟩⟩
  generalize hAe : va_A [(h0, cn_x .null .null)] s.heap.size = A at hD ⊢
  have hA : ∀ q : Nat, s.heap.size ≤ q → A q := fun q h => by rw [← hAe]; exact Or.inr h
  have hS : va_S A s.heap s.heap [] := va_S.rf
  have hl := lv_entry ([.ref h0]) (n := 1) (Nat.le_of_ble_eq_true rfl)
  rw [lg_entry_eq]
  generalize (lg_sl ([.ref h0]) ++ List.replicate (1 - (lg_sl ([.ref h0])).length) Slot.unset).toArray = ls at hl ⊢
  have hl : lv_has ls 1 [(0, .ref h0)] := hl
  refine lv_aload_n hx hb dX2_init_0 rfl (lv_at hl 0 rfl) ?_
  refine W.objInit hx hb hown (hts _ (List.mem_of_getElem? (i := 1) rfl)) (hts _ (List.mem_of_getElem? (i := 2) rfl)) (hts _ (List.mem_of_getElem? (i := 3) rfl)) rfl (by rw [hml]; exact hl.1) rfl dX2_init_1 (Nat.le_of_ble_eq_true rfl) (Nat.le_of_ble_eq_true rfl) ?_
  refine W.eq (g2 := F0 m 4 ls []) rfl ?_
  refine lv_aload_n hx hb dX2_init_4 rfl (lv_at hl 0 rfl) ?_
  refine va_new (ci := 0) (fs := [.null, .null, .null, .int 0, .int 0, .int 0, .int 0, .int 0, .int 0, .int 0, .int 0, .int 0, .int 0]) (C := RX0) (T := TX0) (N := 13) hx hb hts in_X2_init_X0 tyX0 tyX0_ok hown (hts _ (List.mem_of_getElem? (i := 4) rfl)) (hts _ (List.mem_of_getElem? (i := 5) rfl)) (hts _ (List.mem_of_getElem? (i := 6) rfl)) hK hP hD hS hA rfl (fun j hj => by
    rcases (show j = 0 ∨ j = 1 ∨ j = 2 ∨ j = 3 ∨ j = 4 ∨ j = 5 ∨ j = 6 ∨ j = 7 ∨ j = 8 ∨ j = 9 ∨ j = 10 ∨ j = 11 ∨ j = 12 by omega) with rfl | rfl | rfl | rfl | rfl | rfl | rfl | rfl | rfl | rfl | rfl | rfl | rfl <;> rfl) (Nat.le_of_ble_eq_true rfl) (Nat.le_of_ble_eq_true rfl) dX2_init_5 (fun q3 H hP hD hS => ?_)
  refine W.cs (cells' := 1) (slots' := 13) rfl rfl ?_
  have hP : va_P D vwCl ([(h0, cn_x .null .null)] ++ [(q3, cn_q .null .null .null 0)]) H := hP
  have hD : va_D A ([(h0, cn_x .null .null)] ++ [(q3, cn_q .null .null .null 0)]) := hD
  refine lv_dup hx hb dX2_init_8 rfl ?_
  have hq : ([(h0, cn_x .null .null)] ++ [(q3, cn_q .null .null .null 0)])[([(h0, cn_x .null .null)]).length]? = some (q3, cn_q .null .null .null 0) := by rw [List.getElem?_append_right (Nat.le_refl _), Nat.sub_self]; rfl
  have hF : ∀ z, va_A [(q3, cn_q .null .null .null 0)] H.size z → A z := fun z h => by
    rcases h with ⟨k, e9, h⟩ | h
    · have h1 := (List.getElem?_eq_some_iff.mp h).1
      have h2 : k = 0 := by simp at h1; omega
      subst h2
      cases h
      exact hD.2 _ _ hq
    · exact hA _ (Nat.le_trans hS.1 h)
  refine va_callv (va_runI (As := []) (rest := [.ref q3, .ref h0]) ⟨hx, hb, hml, hown, hts⟩ (c_X0_init l D q3 H.size) (cwI 0 hts gX2_init_X0_init rfl rfl rfl (hts _ (List.mem_of_getElem? (i := 6) rfl)) (hts _ (List.mem_of_getElem? (i := 9) rfl)) (hts _ (List.mem_of_getElem? (i := 10) rfl)) rfl (by decide +kernel) ⟨Nat.le_of_ble_eq_true rfl, Nat.le_of_ble_eq_true rfl⟩) ⟨fun a U g mk z => by obtain ⟨z0, z1, zP, zK, zE⟩ := z; exact ⟨z0, z1, zP, va_K.moved (u := U) (U := U.calling g mk a) (Vm.Alike.refl U.vm) zK, zE.calling⟩, fun U hU hW => ⟨rfl, by rw [hU], fun k z hz => by
      have h1 := (List.getElem?_eq_some_iff.mp hz).1
      have h2 : k = 0 := by simp at h1; omega
      subst h2
      cases hz
      rw [hU]
      exact hP _ _ hq, ⟨(va_K.moved hW.alike hK).1, fun k z hz => by simp at hz⟩, hE.warm hW⟩⟩ rfl rfl hl.1 rfl (lv_room (Nat.le_of_ble_eq_true rfl)) dX2_init_9 ⟨Nat.le_of_ble_eq_true rfl, Nat.le_of_ble_eq_true rfl⟩) hS (fun z _ h => hF z h) hF (fun u t H1 locs1 ht hvm h5 hB hz1 hk1 hS2 => ?_)
  refine W.cs (cells' := 24) (slots' := 281) rfl rfl ?_
  obtain ⟨hP1, hK1, hD1⟩ := hB
  rw [ht] at hP1
  have hK := hK.app (va_K.moved hvm.symm hK1)
  obtain ⟨hP, hD⟩ := aq_jn (wr := [(h0, cn_x .null .null)]) hP hD hk1 (fun a h => hA _ (Nat.le_trans hS.1 h)) hP1 hD1
  have hS := hS2
  have hP : va_P D vwCl ((h0, cn_x .null .null) :: cn_wu q3 u) H1 := hP
  have hD : va_D A ((h0, cn_x .null .null) :: cn_wu q3 u) := hD
  refine va_putF (D := D) (ci := 2) (v := .ref q3) (ty := tyX2 0) (C := RX2) (T := TX2) (N := 2) hx hb hts in_X2_init_X2 tyX2 tyX2_ok nmX2 hown hK hP hD hS 0 rfl rfl 0 (by decide) (hts _ (List.mem_of_getElem? (i := 7) rfl)) (fun _ h9 => h9) rfl hin rfl (tyX2_ok 0 (by decide)) rfl rfl (Nat.le_of_ble_eq_true rfl) dX2_init_12 (fun H locs hP hD hS => ?_)
  have hP : va_P D vwCl ((h0, cn_x (.ref q3) .null) :: cn_wu q3 u) H := hP
  have hD : va_D A ((h0, cn_x (.ref q3) .null) :: cn_wu q3 u) := hD
  refine lv_aload_n hx hb dX2_init_15 rfl (lv_at hl 0 rfl) ?_
  refine va_new (ci := 0) (fs := [.null, .null, .null, .int 0, .int 0, .int 0, .int 0, .int 0, .int 0, .int 0, .int 0, .int 0, .int 0]) (C := RX0) (T := TX0) (N := 13) hx hb hts in_X2_init_X0 tyX0 tyX0_ok hown (hts _ (List.mem_of_getElem? (i := 4) rfl)) (hts _ (List.mem_of_getElem? (i := 5) rfl)) (hts _ (List.mem_of_getElem? (i := 6) rfl)) hK hP hD hS hA rfl (fun j hj => by
    rcases (show j = 0 ∨ j = 1 ∨ j = 2 ∨ j = 3 ∨ j = 4 ∨ j = 5 ∨ j = 6 ∨ j = 7 ∨ j = 8 ∨ j = 9 ∨ j = 10 ∨ j = 11 ∨ j = 12 by omega) with rfl | rfl | rfl | rfl | rfl | rfl | rfl | rfl | rfl | rfl | rfl | rfl | rfl <;> rfl) (Nat.le_of_ble_eq_true rfl) (Nat.le_of_ble_eq_true rfl) dX2_init_16 (fun q4 H hP hD hS => ?_)
  refine W.cs (cells' := 25) (slots' := 294) rfl rfl ?_
  have hP : va_P D vwCl (((h0, cn_x (.ref q3) .null) :: cn_wu q3 u) ++ [(q4, cn_q .null .null .null 0)]) H := hP
  have hD : va_D A (((h0, cn_x (.ref q3) .null) :: cn_wu q3 u) ++ [(q4, cn_q .null .null .null 0)]) := hD
  refine lv_dup hx hb dX2_init_19 rfl ?_
  have hq : (((h0, cn_x (.ref q3) .null) :: cn_wu q3 u) ++ [(q4, cn_q .null .null .null 0)])[(((h0, cn_x (.ref q3) .null) :: cn_wu q3 u)).length]? = some (q4, cn_q .null .null .null 0) := by rw [List.getElem?_append_right (Nat.le_refl _), Nat.sub_self]; rfl
  have hF : ∀ z, va_A [(q4, cn_q .null .null .null 0)] H.size z → A z := fun z h => by
    rcases h with ⟨k, e9, h⟩ | h
    · have h1 := (List.getElem?_eq_some_iff.mp h).1
      have h2 : k = 0 := by simp at h1; omega
      subst h2
      cases h
      exact hD.2 _ _ hq
    · exact hA _ (Nat.le_trans hS.1 h)
  refine va_callv (va_runI (As := []) (rest := [.ref q4, .ref h0]) ⟨hx, hb, hml, hown, hts⟩ (c_X0_init l D q4 H.size) (cwI 0 hts gX2_init_X0_init rfl rfl rfl (hts _ (List.mem_of_getElem? (i := 6) rfl)) (hts _ (List.mem_of_getElem? (i := 9) rfl)) (hts _ (List.mem_of_getElem? (i := 10) rfl)) rfl (by decide +kernel) ⟨Nat.le_of_ble_eq_true rfl, Nat.le_of_ble_eq_true rfl⟩) ⟨fun a U g mk z => by obtain ⟨z0, z1, zP, zK, zE⟩ := z; exact ⟨z0, z1, zP, va_K.moved (u := U) (U := U.calling g mk a) (Vm.Alike.refl U.vm) zK, zE.calling⟩, fun U hU hW => ⟨rfl, by rw [hU], fun k z hz => by
      have h1 := (List.getElem?_eq_some_iff.mp hz).1
      have h2 : k = 0 := by simp at h1; omega
      subst h2
      cases hz
      rw [hU]
      exact hP _ _ hq, ⟨(va_K.moved hW.alike hK).1, fun k z hz => by simp at hz⟩, hE.warm hW⟩⟩ rfl rfl hl.1 rfl (lv_room (Nat.le_of_ble_eq_true rfl)) dX2_init_20 ⟨Nat.le_of_ble_eq_true rfl, Nat.le_of_ble_eq_true rfl⟩) hS (fun z _ h => hF z h) hF (fun v t H1 locs1 ht hvm h5 hB hz1 hk1 hS2 => ?_)
  refine W.cs (cells' := 48) (slots' := 562) rfl rfl ?_
  obtain ⟨hP1, hK1, hD1⟩ := hB
  rw [ht] at hP1
  have hK := hK.app (va_K.moved hvm.symm hK1)
  obtain ⟨hP, hD⟩ := aq_jn (wr := ((h0, cn_x (.ref q3) .null) :: cn_wu q3 u)) hP hD hk1 (fun a h => hA _ (Nat.le_trans hS.1 h)) hP1 hD1
  have hS := hS2
  have hP : va_P D vwCl ((h0, cn_x (.ref q3) .null) :: (cn_wu q3 u ++ cn_wu q4 v)) H1 := hP
  have hD : va_D A ((h0, cn_x (.ref q3) .null) :: (cn_wu q3 u ++ cn_wu q4 v)) := hD
  refine va_putF (D := D) (ci := 2) (v := .ref q4) (ty := tyX2 1) (C := RX2) (T := TX2) (N := 2) hx hb hts in_X2_init_X2 tyX2 tyX2_ok nmX2 hown hK hP hD hS 0 rfl rfl 1 (by decide) (hts _ (List.mem_of_getElem? (i := 8) rfl)) (fun _ h9 => h9) rfl hin rfl (tyX2_ok 1 (by decide)) rfl rfl (Nat.le_of_ble_eq_true rfl) dX2_init_23 (fun H locs hP hD hS => ?_)
  have hP : va_P D vwCl (cn_W h0 q3 q4 u v) H := hP
  have hD : va_D A (cn_W h0 q3 q4 u v) := hD
  have hK : va_K D vwCl [(u.2.2.2.1, .int), (u.2.2.2.2.1, .object RX1), (v.2.2.2.1, .int), (v.2.2.2.2.1, .object RX1)] s := hK
  have h1 := cn_same (a := 2) (b := 0) hK rfl rfl
  have h2 := cn_same (a := 3) (b := 1) hK rfl rfl
  obtain ⟨hP9, hJ9, hA9⟩ := cn_toC (cI := u.2.2.2.1) (cQ := u.2.2.2.2.1) rfl h1 rfl h2 hP hD
  have hK9 : va_K D vwCl (aC_t u.2.2.2.1 u.2.2.2.2.1) s := hK.sub [0, 1] rfl
  exact W.vret hx hb hr (fun t ht hW => ⟨⟨(u.2.2.2.1, u.2.2.2.2.1, cn_ad h0 q3 q4 u v), rfl, ⟨rfl, hJ9, hA9⟩, va_K.moved hW.alike hK9, by rw [ht]; exact hP9⟩, hS.F ht⟩) hS.2.2 dX2_init_26
