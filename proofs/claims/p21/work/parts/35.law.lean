/-! THE CLAIM OUT OF ONE WALK OF THE LAW'S BODY. Your part is whole_start (and what it stands on); all else here is the same for every law, but numbers. -/
def R_law : String := "ArchWaterLaw"
def lw_P (b : Addr) (xs : List Int32) (args : Array Value) (s : State) : Prop := args = #[.ref b] ∧ s.IntsAt b xs ∧ xs.length ≤ 260 ∧ (Jvm.Cond.and given_1 narrow_1).before args s = true
/-- what a walk over the start with the record d0 says of its end, said of the start itself -/
theorem lw_closed {s t : State} {o : Outcome} {d0 : Drawn} {L : List Loc} {k n : Nat} (hd0 : s.drawn.sameBut d0 lw_cs) (hv : ∃ v, o = .returned v) (hW : (s.setDrawn d0).WarmedH t.vm) (hs : (s.setDrawn d0).sameButNew ({ t with vm := s.vm } : State) L k n) : State.butDraws s t lw_cs (fun t1 => Framed s o t1 L k n) := by
  have h2 : t.drawn = d0 := congrArg State.drawn hs.1
  refine ⟨⟨hv, hW, State.sameButNew.setDrawn hs s.drawn⟩, ?_, by decide⟩
  rw [h2]
  exact hd0
def lw_Q (_ : Array Value) (s : State) (o : Outcome) (t : State) : Prop := o = .returned (some (.int 1)) ∧ State.butDraws s t lw_cs (fun t1 => Framed s o t1 [] 600172 7300668)
def lw_Z (below : List Frame) (a : Array Value) (s : State) : State → Prop := fun t => ∃ o, t.status = .running ∧ Ended t below o ∧ lw_Q a s o t
/-- the law's own end, with 1 on the stack, nothing written that was there before, its room as the claim has it; d0: the record of draws at this point (at the entry s.drawn: begin with 'refine W.base ?_' and 'have hd0 := Drawn.sameBut.refl s.drawn lw_cs') -/
theorem lw_ret {p : Program} {l : Launch} {e : Env} {s : State} {m : MethodId} {below : List Frame} {meth : Method} {c : Code} {b : Nat} {d0 : Drawn} (hd0 : s.drawn.sameBut d0 lw_cs) (hx : p.tables.exec = Jvm.exec) (hb : c.code = code) (hr : meth.sig.returnType = ret) (hlocks : meth.locks = false) {pc : Nat} {H : Heap} {ls : Array Slot} (hdg : decode code pc = .ok (.ireturn, 1)) : W p l e room_1 (s.setDrawn d0) m #[Value.ref b] below meth c H [] 600172 7300668 (lw_Z below #[Value.ref b] s) (F0 m pc ls [.int 1]) := by
  intro T hT X
  obtain ⟨fs, hret, hrun, hended, hW, hframe⟩ := X.leave (v := some (.int 1)) (hlocks := hlocks) (fun h => by rw [hr] at h; cases h)
  have hmeth' : T.vm.method? m = some meth := X.method'
  refine ⟨T.setFrames fs, ?_, .returned (some (.int 1)), hrun, hended, rfl, lw_closed hd0 ⟨_, rfl⟩ hW hframe⟩
  jvm_step X.here [X.here.top, hx, hb, hdg, hmeth', hr, ret, narrow_b1]
  (try refine ⟨rfl, ?_⟩); (try refine ⟨rfl, ?_⟩)
  first | (intro acts; rw [hret _ acts rfl rfl rfl]) | rw [hret _ _ rfl rfl rfl]
  exact Steps.refl _
/-- what holds at the law's entry: the machine, the code, the tables' words (any of lw_tbl by 'hts w (by decide +kernel)'), the script of L ints xs at the cell b, what the Statement gives of the start (any of its parts by flat_of_before) -/
def lw_At (p : Program) (s : State) (m : MethodId) (meth : Method) (c : Code) (b L : Nat) (xs : Nat → Int32) : Prop :=
  p.tables.exec = Jvm.exec ∧ c.code = code ∧ meth.sig.returnType = ret ∧ c.maxLocals = 15 ∧ s.vm.findClass R_law = some m.cls ∧ (∀ w ∈ lw_tbl, w.before #[Value.ref b] s = true) ∧ va_X b L xs s s.heap ∧ b < s.heap.size ∧ meth.locks = false ∧ (Jvm.Cond.and given_1 narrow_1).before #[Value.ref b] s = true
set_option maxHeartbeats 8000000 in
set_option maxRecDepth 100000 in
theorem law_R (l : Launch) {p : Program} {e : Env} {s : State} {m : MethodId} {args : Array Value} {below : List Frame} {meth : Method} {c : Code} {Q : State → Prop} {D : va_G} {cI cQ : ClassId} {ad : Nat → Nat} {b : Nat} {H : Heap} {locs : List Loc} {cells slots n h me j : Nat} {V : aq_V} {ls : Array Slot} {d0 : Drawn} (hd0 : s.drawn.sameBut d0 lw_cs) (S : CallFix p m c cL_law 15 (s.setDrawn d0) args wsL_law RL) (hD : pl_D ad s.heap.size) (hV : pw_V n h ((me : Nat) : Int) (V 2) (V 0)) (Wd : pl_W D cI cQ ad V s H) (hS : pl_S s H locs) (hc : cells ≤ 600172) (hs : slots ≤ 7300668) (hl : lv_has ls 15 [(4, .int (nI j)), (3, .int (nI me)), (2, .int (nI n)), (1, .ref (ad 0)), (0, .ref b)])
    (K : ∀ (H' : Heap) (locs' : List Loc) (ls' : Array Slot) (d1 : Drawn), s.drawn.sameBut d1 lw_cs → pl_W D cI cQ ad V s H' → pl_S s H' locs' → lv_has ls' 15 [(4, .int (nI j)), (3, .int (nI me)), (2, .int (nI n)), (1, .ref (ad 0)), (0, .ref b)] → W p l e room_1 (s.setDrawn d1) m args below meth c H' locs' cells slots Q (F0 m 623 ls' [])) : W p l e room_1 (s.setDrawn d0) m args below meth c H locs cells slots Q (F0 m 603 ls []) := by
  have hdr := pw_dr hV
  have hM := c_X2_reaches l (D := D) (ad := ad) (cI := cI) (cQ := cQ) (V := V) (Q := V 0)
  simp only [aq_ug_id] at hM
  refine lv_aload_n S.1 S.2.1 dL_law_603 rfl (lv_at hl 3 rfl) ?_
  refine pl_calld (As := []) (rest := []) hd0 S hD hM (cwV 0 S.2.2.2.2 gL_law_X2_reaches rfl rfl rfl (by decide +kernel) ⟨(Nat.le_of_ble_eq_true rfl), (Nat.le_of_ble_eq_true rfl)⟩) Wd hS hl.1 dL_law_604 rfl rfl (Nat.le_of_ble_eq_true rfl) ⟨by show _ ≤ 600172; omega, by show _ ≤ 7300668; omega⟩ (fun x H locs d1 hd1 hx Wd hS => ?_)
  refine W.cs (cells' := cells) (slots' := slots) rfl rfl ?_
  have S : CallFix p m c cL_law 15 (s.setDrawn d1) args wsL_law RL := ⟨S.1, S.2.1, S.2.2.1, S.2.2.2.1, fun w hw => (Cond.before_setDrawn args s d1 w).trans ((Cond.before_setDrawn args s d0 w).symm.trans (S.2.2.2.2 w hw))⟩
  have ho := fq_rr2 hdr.1 hdr.2 hx
  refine lv_dconst0 S.1 S.2.1 dL_law_607 ?_
  refine lv_dcmp S.1 S.2.1 dL_law_608 ?_
  refine lv_if_lt (tgt := 621) S.1 S.2.1 dL_law_609 (by decide) (fun c1 => absurd c1 ho.1) (fun _ => ?_)
  refine lv_aload_n S.1 S.2.1 dL_law_612 rfl (lv_at hl 3 rfl) ?_
  refine pl_calld (As := []) (rest := []) hd1 S hD hM (cwV 0 S.2.2.2.2 gL_law_X2_reaches rfl rfl rfl (by decide +kernel) ⟨(Nat.le_of_ble_eq_true rfl), (Nat.le_of_ble_eq_true rfl)⟩) Wd hS hl.1 dL_law_613 rfl rfl (Nat.le_of_ble_eq_true rfl) ⟨by show _ ≤ 600172; omega, by show _ ≤ 7300668; omega⟩ (fun y H locs d2 hd2 hy Wd hS => ?_)
  refine W.cs (cells' := cells) (slots' := slots) rfl rfl ?_
  have ho2 := fq_rr2 hdr.1 hdr.2 hy
  refine lv_dconst1 S.1 S.2.1 dL_law_616 ?_
  refine lv_dcmp S.1 S.2.1 dL_law_617 ?_
  refine lv_if_le (tgt := 623) S.1 S.2.1 dL_law_618 (by decide) (fun _ => ?_) (fun c2 => absurd ho2.2 c2)
  exact K H _ ls d2 hd2 Wd hS hl
set_option maxHeartbeats 8000000 in
set_option maxRecDepth 100000 in
theorem law_loop (l : Launch) (hlt : l.stackTraces = false) {p : Program} {e : Env} {s : State} {m : MethodId} {below : List Frame} {meth : Method} {c : Code} {D : va_G} {cI cQ : ClassId} {ad : Nat → Nat} {b L : Nat} {xs : Nat → Int32} (S0 : CallFix p m c cL_law 15 s #[Value.ref b] wsL_law RL) (hr : meth.sig.returnType = ret) (hlocks : meth.locks = false) (E : pl_E s) (hD : pl_D ad s.heap.size) (hX : va_X b L xs s s.heap) (hbl : b < s.heap.size) (hL : L ≤ 260) {n : Nat} (hn1 : 1 ≤ n) :
    ∀ (k j h me : Nat) (V : aq_V) (d0 : Drawn), s.drawn.sameBut d0 lw_cs → j + k = 45 → h ≤ 9 * j → me ≤ j → pw_V n h ((me : Nat) : Int) (V 2) (V 0) → ∀ (H : Heap) (locs : List Loc), pl_W D cI cQ ad V s H → pl_S s H locs → ∀ ls : Array Slot, lv_has ls 15 [(4, .int (nI j)), (3, .int (nI me)), (2, .int (nI n)), (1, .ref (ad 0)), (0, .ref b)] → W p l e room_1 (s.setDrawn d0) m #[Value.ref b] below meth c H locs (500 + 600 * j) (3000 + 5000 * j) (lw_Z below #[Value.ref b] s) (F0 m 16 ls []) := by
  intro k
  induction k with
  | zero =>
    intro j h me V d0 hd0 hj hh hme hV H locs Wd hS ls hl
    obtain rfl : j = 45 := by omega
    refine lv_iload S0.1 S0.2.1 dL_law_16 (lv_at hl 0 rfl) ?_
    refine lv_bipush (v := 45) S0.1 S0.2.1 dL_law_18 (by decide) ?_
    refine lv_icmp_ge (tgt := 629) S0.1 S0.2.1 dL_law_20 (by decide) (fun _ => ?_) (fun c1 => absurd (by decide) c1)
    refine lv_iconst (v := 1) S0.1 S0.2.1 dL_law_629 (by decide) ?_
    refine va_forget (fun q hq => hS.2.2 q hq) ?_
    refine W.widen (k := 600172) (n := 7300668) (by omega) (by omega) ?_
    exact lw_ret hd0 S0.1 S0.2.1 hr hlocks dL_law_630
  | succ k ih =>
    intro j h me V d0 hd0 hj hh hme hV H locs Wd hS ls hl
    have S : CallFix p m c cL_law 15 (s.setDrawn d0) #[Value.ref b] wsL_law RL := ⟨S0.1, S0.2.1, S0.2.2.1, S0.2.2.2.1, dr_words S0.2.2.2.2 d0⟩
    have hj2 : j < 45 := by omega
    have h20 := hV.1
    refine lv_iload S0.1 S0.2.1 dL_law_16 (lv_at hl 0 rfl) ?_
    refine lv_bipush (v := 45) S0.1 S0.2.1 dL_law_18 (by decide) ?_
    refine lv_icmp_ge (tgt := 629) S0.1 S0.2.1 dL_law_20 (by decide) (fun c1 => ?_) (fun _ => ?_)
    · exfalso
      have := (nI_leI (a := 45) (b := j) (by omega) (by omega)).mp c1
      omega
    refine law_A l hlt (s := s.setDrawn d0) S (pl_Ed d0 E) hD hX hbl hL hn1 hj2 (by omega) (by omega) hV Wd hS (by omega) (by omega) hl (fun x me1 V1 H locs ls hme1 hV1 Wd hS hl => ?_)
    refine law_B1 l hlt (s := s.setDrawn d0) S (pl_Ed d0 E) hD hX hbl hL hn1 hj2 (by omega) (by omega) hV1 Wd hS (by omega) (by omega) hl (fun z V2 H locs ls hz1 hz9 q2 t2 Wd hS hl => ?_)
    have hV2 : pw_V n h ((me1 : Nat) : Int) (V2 2) (V2 0) := by rw [q2, t2]; exact hV1
    rw [← q2, ← t2] at hl
    obtain ⟨th, hth⟩ : ∃ th : Int32, th = aq_thi (aq_goQ n (V2 2) z (V2 0)) (V2 0) := ⟨_, rfl⟩
    obtain ⟨dg, hdg⟩ : ∃ dg : Int64, dg = aq_digest n (V2 2) (V2 0) := ⟨_, rfl⟩
    rw [← hth, ← hdg] at hl
    refine law_B2 l hlt (s := s.setDrawn d0) S (pl_Ed d0 E) hD hX hbl hL hn1 hj2 (by omega) (by omega) hV2 Wd hS (by omega) (by omega) hl (fun V3 H locs ls q3 t3 Wd hS hl => ?_)
    have hV3 : pw_V n h ((me1 : Nat) : Int) (V3 2) (V3 0) := by rw [q3, t3]; exact hV2
    rw [← q3, ← t3] at hth hdg
    refine law_B3 l hlt (s := s.setDrawn d0) S (pl_Ed d0 E) hD hX hbl hL hn1 hj2 (by omega) (by omega) hV3 Wd hS (by omega) (by omega) hz1 hz9 hth hdg hl (fun V4 H locs ls hV4 Wd hS hl => ?_)
    refine law_C l hlt (s := s.setDrawn d0) S (pl_Ed d0 E) hD hX hbl hL hn1 hj2 (by omega) (by omega) hV4 Wd hS (by omega) (by omega) hl (fun fl co H locs ls hS2 Wd hS hl => ?_)
    refine law_D l hlt (s := s.setDrawn d0) S (pl_Ed d0 E) hD hX hbl hL hn1 hj2 (by omega) (by omega) hV4 Wd hS (by omega) (by omega) hS2 hl (fun H locs ls Wd hS hl => ?_)
    refine law_R l (s := s) hd0 S hD hV4 Wd hS (by omega) (by omega) hl (fun H locs ls d1 hd1 Wd hS hl => ?_)
    refine lv_iinc (v := nI (j + 1)) (lv' := [(4, .int (nI (j + 1))), (3, .int (nI me1)), (2, .int (nI n)), (1, .ref (ad 0)), (0, .ref b)]) S0.1 S0.2.1 dL_law_623 hl (k := 0) rfl (nI_1 _) (by decide) rfl (fun ls hl => ?_)
    refine lv_goto (tgt := 16) S0.1 S0.2.1 dL_law_626 (by decide) ?_
    refine W.widen (k := 500 + 600 * (j + 1)) (n := 3000 + 5000 * (j + 1)) (by omega) (by omega) ?_
    exact ih (j + 1) (h + z) me1 V4 d1 hd1 (by omega) (by omega) (by omega) hV4 H locs Wd hS ls hl
theorem pa_blind {D : va_G} {b L : Nat} {xs : Nat → Int32} {sz : Nat} : FrameBlind (va_Pc [.ref b] (pa_P D b L xs sz)) := fun a U g mk z => by
  obtain ⟨z0, z1, zX, zK, zC, zE⟩ := z
  exact ⟨z0, z1, zX.moved (u := U) (U := U.calling g mk a) (Vm.Alike.refl U.vm), va_K.moved (u := U) (U := U.calling g mk a) (Vm.Alike.refl U.vm) zK, zC.calling, zE.calling⟩
set_option maxHeartbeats 8000000 in
set_option maxRecDepth 100000 in
/-- from the entry, for every script of at most 260 ints, the law comes to its end with true -/
theorem whole_start {p : Program} {e : Env} {s : State} {m : MethodId} {below : List Frame} {meth : Method} {c : Code} (l : Launch) (hflags : l.flags = flags0) {b L : Nat} {xs : Nat → Int32} (hL : L ≤ 260) (C0 : lw_At p s m meth c b L xs) : W p l e room_1 s m #[Value.ref b] below meth c s.heap [] 0 0 (lw_Z below #[Value.ref b] s) (entryFrame m ([Value.ref b] : List Value).toArray 15) := by
  obtain ⟨hx, hb, hr, hml, hown, hts0, hX, hbl, hlocks, hgv⟩ := id C0
  have hlt : l.stackTraces = false := by unfold Launch.stackTraces; rw [hflags]; decide +kernel
  have hown : s.vm.findClass RL = some m.cls := hown
  have hts : ∀ w ∈ wsL_law, w.before #[Value.ref b] s = true := fun w h => hts0 w (wsL_law_in w h)
  have S : CallFix p m c cL_law 15 s #[Value.ref b] wsL_law RL := ⟨hx, hb, hml, hown, hts⟩
  obtain ⟨E, EC⟩ := lz_env hts0 hgv
  obtain ⟨c0, iS0, hKn0⟩ := u_known (C := RX0) (T := TX0) (N := 13) (n := 13) hts inlX0 (hts0 (.instantiable RX0 13) (by decide +kernel))
  obtain ⟨c1, iS1, hKn1⟩ := u_known (C := RX1) (T := TX1) (N := 10) (n := 10) hts inlX1 (hts0 (.instantiable RX1 10) (by decide +kernel))
  obtain ⟨c2, iS2, hKn2⟩ := u_known (C := RX2) (T := TX2) (N := 2) (n := 2) hts inlX2 (hts0 (.instantiable RX2 2) (by decide +kernel))
  obtain ⟨D, hKc⟩ : ∃ (D : va_G), ∀ (k : Nat) (q : vw_C), vwCl[k]? = some q → u_Kn s q.1 q.2.1 q.2.2 (D.1 k) (D.2 k) := by
    refine ⟨(fun k => match k with | 0 => c0 | 1 => c1 | _ => c2, fun k => match k with | 0 => iS0 | 1 => iS1 | _ => iS2), ?_⟩
    intro k q hq
    match k, hq with
    | 0, hq => cases hq; exact hKn0
    | 1, hq => cases hq; exact hKn1
    | 2, hq => cases hq; exact hKn2
    | k + 3, hq => simp [vwCl] at hq
  have hS : pl_S s s.heap [] := va_S.rf
  have hK : va_K D vwCl [] s := ⟨hKc, fun k q h => by simp at h⟩
  have hl := lv_entry ([.ref b]) (n := 15) (Nat.le_of_ble_eq_true rfl)
  rw [lg_entry_eq]
  generalize (lg_sl ([.ref b]) ++ List.replicate (15 - (lg_sl ([.ref b])).length) Slot.unset).toArray = ls at hl ⊢
  have hl : lv_has ls 15 [(0, .ref b)] := hl
  refine lv_aload_n hx hb dL_law_0 rfl (lv_at hl 0 rfl) ?_
  refine va_callr (va_runS (As := [.ref b]) (rest := []) S (c_L_aqueduct l hlt D (xs := xs) hL s.heap.size) (va_cwS 1 S.2.2.2.2 gL_law_L_aqueduct rfl rfl rfl (by decide +kernel) ⟨(Nat.le_of_ble_eq_true rfl), (Nat.le_of_ble_eq_true rfl)⟩) ⟨pa_blind, fun U hU hW => ⟨rfl, by rw [hU], by rw [hU]; exact hX.moved hW.alike, va_K.moved hW.alike hK, EC.warm hW, by show aq_TE (fun q : Nat => U.heap.size ≤ q) U U.heap; rw [hU]; exact E.warm hW (fun _ _ _ => rfl) (fun _ h => h)⟩⟩ rfl rfl hl.1 rfl (lv_room (Nat.le_of_ble_eq_true rfl)) dL_law_1 ⟨(Nat.le_of_ble_eq_true rfl), (Nat.le_of_ble_eq_true rfl)⟩) hS (fun q _ h => h) (fun q h => h) (fun u ra t H locs ht hvm hu hB hz1 hk1 hS => ?_)
  obtain ⟨⟨cI, cQ, ad⟩, V, n⟩ := u
  obtain ⟨hD, hn1, hV⟩ := hu
  obtain ⟨ha, hBK, hBP⟩ := hB
  dsimp only at hD hn1 hV ha hBK hBP
  subst ha
  have Wd : pl_W D cI cQ ad V s H := ⟨va_K.moved hvm.symm hBK, by rw [← ht]; exact hBP⟩
  refine lv_astore_n (lv' := [(1, .ref (ad 0)), (0, .ref b)]) hx hb dL_law_4 rfl hl (by decide) rfl (fun ls hl => ?_)
  refine lv_aload_n hx hb dL_law_5 rfl (lv_at hl 0 rfl) ?_
  refine lv_iconst (v := 1) hx hb dL_law_6 (by decide) ?_
  have hM := c_X2_count l hlt hD.1 (D := D) (cI := cI) (cQ := cQ) (V := V) (Q := V 0) (n := n) hV.2.1 hV.1 1
  simp only [aq_ug_id, (by decide : (1 : Int32).toNatClampNeg = 1)] at hM
  refine pl_callX (As := [.int 1]) (rest := []) (r := nI n) S E hD hM (pq_cnt (w := 1) (by decide)) (cwV 1 S.2.2.2.2 gL_law_X2_count rfl rfl rfl (by decide +kernel) ⟨(Nat.le_of_ble_eq_true rfl), (Nat.le_of_ble_eq_true rfl)⟩) Wd hS hl.1 dL_law_7 rfl rfl (Nat.le_of_ble_eq_true rfl) ⟨by show _ ≤ 600172; omega, by show _ ≤ 7300668; omega⟩ (fun H locs Wd hS => ?_)
  refine lv_istore_n (lv' := [(2, .int (nI n)), (1, .ref (ad 0)), (0, .ref b)]) hx hb dL_law_10 rfl hl (by decide) rfl (fun ls hl => ?_)
  refine lv_iconst (v := 0) hx hb dL_law_11 (by decide) ?_
  refine lv_istore_n (lv' := [(3, .int (nI 0)), (2, .int (nI n)), (1, .ref (ad 0)), (0, .ref b)]) hx hb dL_law_12 rfl hl (by decide) rfl (fun ls hl => ?_)
  refine lv_iconst (v := 0) hx hb dL_law_13 (by decide) ?_
  refine lv_istore (lv' := [(4, .int (nI 0)), (3, .int (nI 0)), (2, .int (nI n)), (1, .ref (ad 0)), (0, .ref b)]) hx hb dL_law_14 hl (by decide) rfl (fun ls hl => ?_)
  refine W.widen (k := 500 + 600 * 0) (n := 3000 + 5000 * 0) (by omega) (by omega) ?_
  refine W.base ?_
  exact law_loop l hlt S hr hlocks E hD hX hbl hL hn1 45 0 0 0 V s.drawn (Drawn.sameBut.refl s.drawn lw_cs) (by omega) (by omega) (by omega) hV H _ Wd hS ls hl
