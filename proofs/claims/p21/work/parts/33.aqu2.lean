/-! the start's memory: its tables are 0 everywhere -/
def lz_Z : aq_Q := fun _ _ => 0
def lz_U : aq_V := aq_ug cn_V 2 lz_Z
theorem lz_T {t : Nat} (ht : t ≠ 10) : cn_V 2 t = lz_Z t := funext fun k => if_neg (fun y => ht y.1)
theorem lz_C (ad : Nat → Nat) (cI cQ : ClassId) : aC_w ad cI cQ cn_V = aC_w ad cI cQ lz_U := by
  refine List.map_congr_left (fun c hc => ?_)
  have hc := List.mem_range.mp hc
  rw [show aC_e ad cI cQ cn_V c = aC_e ad cI cQ lz_U c from ?_]
  refine aC_cong (fun h1 h2 => ?_) (fun h1 h2 k => ?_) (fun h1 h19 k hk => ?_) (fun h1 => ?_)
  · show _ = aq_ug cn_V 2 lz_Z 2 (c - 1)
    rw [aq_ug_s]
    exact lz_T (by omega)
  · exact (congrFun (congrFun (aq_ug_n cn_V lz_Z (show c - 3 ≠ 2 by omega)) 10) k).symm
  · exact (congrFun (congrFun (aq_ug_n cn_V lz_Z (show (c - 7) / 20 ≠ 2 by omega)) k) _).symm
  · exact (congrFun (aq_ug_n cn_V lz_Z (show (3 : Nat) ≠ 2 by decide)) _).symm
theorem lz_pC : pw_C 0 (lz_U 2) (lz_U 0) := by
  have z : ∀ f i, f ≠ 10 → lz_U 0 f i = 0 := fun f i h => if_neg (fun y => h y.1)
  have y : ∀ k, k ≠ 6 → lz_U 0 10 k = 0 := fun k h => if_neg (fun y => h y.2)
  have y6 : lz_U 0 10 6 = 100 := rfl
  refine ⟨by decide, y 3 (by decide), y 4 (by decide), ⟨fun i => ?_, ?_, fun i hi => absurd hi (Nat.not_lt_zero _), fun i => ?_, ?_, ?_⟩, fun t k => ⟨(by decide : 0 ≤ (0 : Int32).toInt), (by decide : (0 : Int32).toInt ≤ 40)⟩, fun i => ⟨z 2 i (by decide), z 5 i (by decide), z 9 i (by decide)⟩, fun k h7 h11 => y k (by omega), fun i _ => z 6 i (by decide)⟩
  · unfold pu_b
    rw [z 0 i (by decide), z 1 i (by decide), z 2 i (by decide), z 3 i (by decide), z 4 i (by decide), z 6 i (by decide), z 7 i (by decide), z 9 i (by decide)]
    decide
  · rw [y 7 (by decide), y6]
    decide
  · rw [z 8 i (by decide)]
    decide
  · rw [y 5 (by decide)]
    decide
  · rw [y 12 (by decide)]
    decide
/-- what the law's aqueduct says: the classes, the cells' addresses, the memory, how many arches -/
abbrev pa_U : Type := (ClassId × ClassId × (Nat → Nat)) × aq_V × Nat
def pa_post (sz : Nat) (u : pa_U) : Prop := pl_D u.1.2.2 sz ∧ 1 ≤ u.2.2 ∧ pw_V u.2.2 0 ((0 : Nat) : Int) (u.2.1 2) (u.2.1 0)
def pa_B (D : va_G) (u : pa_U) (a : Nat) (t : State) : Prop := a = u.1.2.2 0 ∧ va_K D vwCl (aC_t u.1.1 u.1.2.1) t ∧ va_P D vwCl (aC_w u.1.2.2 u.1.1 u.1.2.1 u.2.1) t.heap
def pa_P (D : va_G) (b L : Nat) (xs : Nat → Int32) (sz : Nat) (U : State) : Prop := U.heap.size = sz ∧ va_X b L xs U U.heap ∧ va_K D vwCl [] U ∧ cn_E U ∧ pl_E U
theorem in_L_aqueduct_X2 : ∀ w ∈ wsX20, w ∈ wsL_aqueduct := fun _ h => List.mem_cons_of_mem _ (List.mem_append_left _ (List.mem_append_left _ (List.mem_append_left _ (List.mem_append_left _ (List.mem_append_left _ (List.mem_append_right _ h))))))
set_option maxHeartbeats 8000000 in
set_option maxRecDepth 100000 in
theorem c_L_aqueduct (l : Launch) (hlt : l.stackTraces = false) (D : va_G) {b L : Nat} {xs : Nat → Int32} (hL : L ≤ 260) (sz : Nat) : Met l yL_aqueduct wsL_aqueduct ({ frames := 9, cells := 400, slots := 2600, locals := 157 } : Room) (va_Pc [.ref b] (pa_P D b L xs sz)) (va_Qr (pa_post sz) (pa_B D) (fun q : Nat => sz ≤ q)) 400 2600 (fun q : Nat => sz ≤ q) := by
  refine Met.ofW (cc := cL_aqueduct) (maxL := 6) (ret := some (.object "ArchWater")) (by decide) rfl ?_
  intro p e s m args below meth c s₁ B hml hv
  obtain ⟨rfl, hsz, hX, hK, EC, E⟩ := hv
  have hx := B.exec
  have hb := B.bytes
  have hr := B.returns
  have hts := atoms_spec (ws := wsL_aqueduct) B.pre
  have hown : s.vm.findClass RL = some m.cls := findClass_of_methodNamed B.named
  have hlocks := B.notSynchronized
  subst hsz
  have S : CallFix p m c cL_aqueduct 6 s (([.ref b] : List Value).toArray) wsL_aqueduct RL := ⟨hx, hb, hml, hown, hts⟩
  have hbl : b < s.heap.size := by
    obtain ⟨scr, h1, -⟩ := id hX
    exact (Array.getElem?_eq_some_iff.mp h1).1
  have hA : ∀ q : Nat, s.heap.size ≤ q → (fun q : Nat => s.heap.size ≤ q) q := fun _ h => h
  have hS : pl_S s s.heap [] := va_S.rf
  have hP : va_P D vwCl [] s.heap := fun k q h => by simp at h
  have hD : va_D (fun q : Nat => s.heap.size ≤ q) [] := ⟨fun i j p q h => by simp at h, fun k q h => by simp at h⟩
  have hl := lv_entry ([.ref b]) (n := 6) (Nat.le_of_ble_eq_true rfl)
  rw [lg_entry_eq]
  generalize (lg_sl ([.ref b]) ++ List.replicate (6 - (lg_sl ([.ref b])).length) Slot.unset).toArray = ls at hl ⊢
  have hl : lv_has ls 6 [(0, .ref b)] := hl
  refine va_new (ci := 2) (fs := [.null, .null]) (C := RX2) (T := TX2) (N := 2) hx hb hts in_L_aqueduct_X2 tyX2 tyX2_ok hown (hts _ (List.mem_of_getElem? (i := 1) rfl)) (hts _ (List.mem_of_getElem? (i := 2) rfl)) (hts _ (List.mem_of_getElem? (i := 3) rfl)) hK hP hD hS hA rfl (fun j hj => by rcases (show j = 0 ∨ j = 1 by omega) with rfl | rfl <;> rfl) (Nat.le_of_ble_eq_true rfl) (Nat.le_of_ble_eq_true rfl) dL_aqueduct_0 (fun q0 H hP hD hS => ?_)
  refine W.cs (cells' := 1) (slots' := 2) rfl rfl ?_
  have hP : va_P D vwCl [(q0, cn_x .null .null)] H := hP
  have hD : va_D (fun q : Nat => s.heap.size ≤ q) [(q0, cn_x .null .null)] := hD
  refine lv_dup hx hb dL_aqueduct_3 rfl ?_
  have hF : ∀ z, va_A [(q0, cn_x .null .null)] H.size z → s.heap.size ≤ z := fun z h => by
    rcases h with ⟨k, e9, h⟩ | h
    · have h1 := (List.getElem?_eq_some_iff.mp h).1
      have h2 : k = 0 := by simp at h1; omega
      subst h2
      cases h
      exact hD.2 0 _ rfl
    · exact Nat.le_trans hS.1 h
  refine va_callv (va_runI (As := []) (rest := [.ref q0]) S (c_X2_init l D q0 H.size) (cwI 0 hts gL_aqueduct_X2_init rfl rfl rfl (hts _ (List.mem_of_getElem? (i := 3) rfl)) (hts _ (List.mem_of_getElem? (i := 8) rfl)) (hts _ (List.mem_of_getElem? (i := 9) rfl)) rfl (by decide +kernel) ⟨(Nat.le_of_ble_eq_true rfl), (Nat.le_of_ble_eq_true rfl)⟩) ⟨fun a U g mk z => by obtain ⟨z0, z1, zP, zK, zE⟩ := z; exact ⟨z0, z1, zP, va_K.moved (u := U) (U := U.calling g mk a) (Vm.Alike.refl U.vm) zK, zE.calling⟩, fun U hU hW => ⟨rfl, by rw [hU], by rw [hU]; exact hP, va_K.moved hW.alike hK, EC.warm hW⟩⟩ rfl rfl hl.1 rfl (lv_room (Nat.le_of_ble_eq_true rfl)) dL_aqueduct_4 ⟨(Nat.le_of_ble_eq_true rfl), (Nat.le_of_ble_eq_true rfl)⟩) hS (fun z _ h => hF z h) hF (fun u t H1 locs1 ht hvm h5 hB hz1 hk1 hS => ?_)
  refine W.cs (cells' := 49) (slots' := 564) rfl rfl ?_
  obtain ⟨cI, cQ, ad⟩ := u
  obtain ⟨hC0, hJC, hAC⟩ := h5
  dsimp only at hC0 hJC hAC
  subst hC0
  have hAC : ∀ c, c < 49 → s.heap.size ≤ ad c := fun c h => hF _ (hAC c h)
  have hKC : va_K D vwCl (aC_t cI cQ) s := va_K.moved hvm.symm hB.1
  have hP : va_P D vwCl (aC_w ad cI cQ cn_V) H1 := by rw [← ht]; exact hB.2
  rw [lz_C] at hP
  have hPD : pl_D ad s.heap.size := ⟨hJC, hAC⟩
  have Wd : pl_W D cI cQ ad lz_U s H1 := ⟨hKC, hP⟩
  have hpC := lz_pC
  have hpt : aq_top 0 (lz_U 0) = 200 := if_pos rfl
  obtain ⟨V, hV⟩ : ∃ z9 : aq_V, z9 = lz_U := ⟨_, rfl⟩
  rw [← hV] at Wd hpC hpt
  refine lv_astore_n (lv' := [(1, .ref (ad 0)), (0, .ref b)]) hx hb dL_aqueduct_7 rfl hl (by decide) rfl (fun ls hl => ?_)
  refine lv_iconst (v := 1) hx hb dL_aqueduct_8 (by decide) ?_
  refine lv_aload_n hx hb dL_aqueduct_9 rfl (lv_at hl 1 rfl) ?_
  refine lv_iconst (v := 0) hx hb dL_aqueduct_10 (by decide) ?_
  refine pl_cell (k := 0) S rfl (by omega) (by omega) hX hbl (va_cwS 2 S.2.2.2.2 gL_aqueduct_L_cell rfl rfl rfl (by decide +kernel) ⟨(Nat.le_of_ble_eq_true rfl), (Nat.le_of_ble_eq_true rfl)⟩) Wd hS hl.1 dL_aqueduct_11 (Nat.le_of_ble_eq_true rfl) ⟨by show _ ≤ 400; omega, by show _ ≤ 2600; omega⟩ (fun x H locs Wd hS => ?_)
  refine lv_bipush (v := 20) hx hb dL_aqueduct_14 (by decide) ?_
  refine pl_below (n := 20) S rfl (by omega) (by omega) (va_cwS 2 S.2.2.2.2 gL_aqueduct_L_below rfl rfl rfl (by decide +kernel) ⟨(Nat.le_of_ble_eq_true rfl), (Nat.le_of_ble_eq_true rfl)⟩) Wd hS hl.1 dL_aqueduct_16 (Nat.le_of_ble_eq_true rfl) ⟨by show _ ≤ 400; omega, by show _ ≤ 2600; omega⟩ (fun k0 hk0 H locs Wd hS => ?_)
  refine lv_iadd hx hb dL_aqueduct_19 ?_
  refine lv_topi (fun x (ex : x = nI 1 + nI k0) => ?_)
  rw [nI_add] at ex
  subst ex
  obtain ⟨n, hn⟩ : ∃ n : Nat, n = 1 + k0 := ⟨_, rfl⟩
  rw [← hn]
  refine lv_istore_n (lv' := [(2, .int (nI n)), (1, .ref (ad 0)), (0, .ref b)]) hx hb dL_aqueduct_20 rfl hl (by decide) rfl (fun ls hl => ?_)
  refine lv_sipush (v := 200) hx hb dL_aqueduct_21 (by decide) ?_
  refine lv_istore_n (lv' := [(3, .int 200), (2, .int (nI n)), (1, .ref (ad 0)), (0, .ref b)]) hx hb dL_aqueduct_24 rfl hl (by decide) rfl (fun ls hl => ?_)
  refine lv_iconst (v := 0) hx hb dL_aqueduct_25 (by decide) ?_
  refine lv_istore (lv' := [(4, .int (nI 0)), (3, .int 200), (2, .int (nI n)), (1, .ref (ad 0)), (0, .ref b)]) hx hb dL_aqueduct_26 hl (by decide) rfl (fun ls hl => ?_)
  refine aqd_1 l hlt (cells := 49) (slots := 564) S E hPD hX hbl hL (by omega) (by omega) (by omega) (fun V1 H locs ls hC1 Wd hS hl => ?_) n 0 V 200 (by omega) hpC hpt H _ Wd hS ls hl
  refine aqd_2 l hlt (cells := 49 + 11 * n) (slots := 564 + 66 * n) S E hPD hX hbl hL hC1 Wd hS (by omega) (by omega) hl (fun V2 H locs ls hV2 Wd hS hl => ?_)
  refine lv_aload_n hx hb dL_aqueduct_254 rfl (lv_at hl 0 rfl) ?_
  refine W.widen (k := 400) (n := 2600) (by omega) (by omega) ?_
  exact W.aret (v := .ref (ad 0)) hx hb hr (Or.inl ⟨_, rfl⟩) (Or.inr ⟨_, rfl⟩) (fun t ht hW => ⟨⟨((cI, cQ, ad), V2, n), ad 0, rfl, ⟨hPD, (by show 1 ≤ n; omega), hV2⟩, rfl, va_K.moved hW.alike Wd.1, by rw [ht]; exact Wd.2⟩, hS.F ht⟩) hS.2.2 dL_aqueduct_255
