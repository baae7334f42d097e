/-! THE CLAIM OUT OF ONE WALK OF THE LAW'S BODY. Your part is whole_start (and what it stands on); all else here is the same for every law, but numbers. -/
def R_law : String := "ArchWaterLaw"
def lw_P (b : Addr) (xs : List Int32) (args : Array Value) (s : State) : Prop := args = #[.ref b] ∧ s.IntsAt b xs ∧ xs.length ≤ 1536 ∧ (Jvm.Cond.and given_1 narrow_1).before args s = true
/-- what a walk over the start with the record d0 says of its end, said of the start itself -/
theorem lw_closed {s t : State} {o : Outcome} {d0 : Drawn} {L : List Loc} {k n : Nat} (hd0 : s.drawn.sameBut d0 lw_cs) (hv : ∃ v, o = .returned v) (hW : (s.setDrawn d0).WarmedH t.vm) (hs : (s.setDrawn d0).sameButNew ({ t with vm := s.vm } : State) L k n) : State.butDraws s t lw_cs (fun t1 => Framed s o t1 L k n) := by
  have h2 : t.drawn = d0 := congrArg State.drawn hs.1
  refine ⟨⟨hv, hW, State.sameButNew.setDrawn hs s.drawn⟩, ?_, by decide⟩
  rw [h2]
  exact hd0
def lw_Q (_ : Array Value) (s : State) (o : Outcome) (t : State) : Prop := o = .returned (some (.int 1)) ∧ State.butDraws s t lw_cs (fun t1 => Framed s o t1 [] 601024 7293034)
def lw_Z (below : List Frame) (a : Array Value) (s : State) : State → Prop := fun t => ∃ o, t.status = .running ∧ Ended t below o ∧ lw_Q a s o t
/-- the law's own end, with 1 on the stack, nothing written that was there before, its room as the claim has it; d0: the record of draws at this point (at the entry s.drawn: begin with 'refine W.base ?_' and 'have hd0 := Drawn.sameBut.refl s.drawn lw_cs') -/
theorem lw_ret {p : Program} {l : Launch} {e : Env} {s : State} {m : MethodId} {below : List Frame} {meth : Method} {c : Code} {b : Nat} {d0 : Drawn} (hd0 : s.drawn.sameBut d0 lw_cs) (hx : p.tables.exec = Jvm.exec) (hb : c.code = code) (hr : meth.sig.returnType = ret) (hlocks : meth.locks = false) {pc : Nat} {H : Heap} {ls : Array Slot} (hdg : decode code pc = .ok (.ireturn, 1)) : W p l e room_1 (s.setDrawn d0) m #[Value.ref b] below meth c H [] 601024 7293034 (lw_Z below #[Value.ref b] s) (F0 m pc ls [.int 1]) := by
  intro T hT X
  obtain ⟨fs, hret, hrun, hended, hW, hframe⟩ := X.leave (v := some (.int 1)) (hlocks := hlocks) (fun h => by rw [hr] at h; cases h)
  have hmeth' : T.vm.method? m = some meth := X.method'
  refine ⟨T.setFrames fs, ?_, .returned (some (.int 1)), hrun, hended, rfl, lw_closed hd0 ⟨_, rfl⟩ hW hframe⟩
  jvm_step X.here [X.here.top, hx, hb, hdg, hmeth', hr, ret, narrow_b1]
  (try refine ⟨rfl, ?_⟩); (try refine ⟨rfl, ?_⟩)
  first | (intro acts; rw [hret _ acts rfl rfl rfl]) | rw [hret _ _ rfl rfl rfl]
  exact Steps.refl _
/-- what holds at the law's entry: the machine, the code, the tables' words (any of lw_tbl by 'hts w (by decide +kernel)'), the script of L ints xs at the cell b, what the Statement gives of the start (any of its parts by flat_of_before) -/
def lw_At (p : Program) (s : State) (m : MethodId) (meth : Method) (c : Code) (b L : Nat) (xs : Nat → Int32) : Prop :=
  p.tables.exec = Jvm.exec ∧ c.code = code ∧ meth.sig.returnType = ret ∧ c.maxLocals = 9 ∧ s.vm.findClass R_law = some m.cls ∧ (∀ w ∈ lw_tbl, w.before #[Value.ref b] s = true) ∧ va_X b L xs s s.heap ∧ b < s.heap.size ∧ meth.locks = false ∧ (Jvm.Cond.and given_1 narrow_1).before #[Value.ref b] s = true
theorem lz_gt {L j : Nat} (hL : L ≤ 1536) (hj : j ≤ 512) : nI L - 3 < nI (3 * j) ↔ ¬ 3 * j + 2 < L := by
  have e1 : (nI L).toInt = (L : Int) := nI_toInt (by omega)
  have e2 : (nI (3 * j)).toInt = ((3 * j : Nat) : Int) := nI_toInt (by omega)
  have e3 : (nI L - 3).toInt = (L : Int) - 3 := by
    rw [pu_sub (by rw [e1, show (3 : Int32).toInt = 3 from by decide]; omega) (by rw [e1, show (3 : Int32).toInt = 3 from by decide]; omega), e1, show (3 : Int32).toInt = 3 from by decide]
  rw [Int32.lt_iff_toInt_lt, e2, e3]
  omega
set_option maxHeartbeats 4000000 in
set_option maxRecDepth 100000 in
theorem law_loop (l : Launch) (hlt : l.stackTraces = false) {p : Program} {e : Env} {s : State} {m : MethodId} {below : List Frame} {meth : Method} {c : Code} {D : va_G} {cI cQ cL cR : ClassId} {adC adR : Nat → Nat} {o b L : Nat} {xs : Nat → Int32} (S0 : CallFix p m c cL_law 9 s #[Value.ref b] wsL_law RL) (hr : meth.sig.returnType = ret) (hlocks : meth.locks = false) (E : ly_E s) (hD : ly_D adC adR o s.heap.size) (hX : va_X b L xs s s.heap) (hbl : b < s.heap.size) (hL : L ≤ 1536) :
    ∀ (k j n h : Nat) (VC VR : aq_V) (th : Int32) (f : Nat → Int64) (d0 : Drawn), s.drawn.sameBut d0 lw_cs → j ≤ 512 → L ≤ 3 * j + 3 * k + 2 → ly_R n h VC VR → h ≤ 100 * j → ∀ (H : Heap) (locs : List Loc), ly_W D cI cQ cL cR adC adR o VC VR th f s H → ly_S s H locs → ∀ ls : Array Slot, lv_has ls 9 [(4, .int (nI (3 * j))), (3, .ref o), (2, .ref (adR 0)), (1, .ref (adC 0)), (0, .ref b)] → W p l e room_1 (s.setDrawn d0) m #[Value.ref b] below meth c H locs (72 + 200 * j) (996 + 2000 * j) (lw_Z below #[Value.ref b] s) (F0 m 23 ls []) := by
  intro k
  induction k with
  | zero =>
    intro j n h VC VR th f d0 hd0 hj hk hR hh H locs Wd hS ls hl
    refine lv_iload S0.1 S0.2.1 dL_law_23 (lv_at hl 0 rfl) ?_
    refine lv_aload_n S0.1 S0.2.1 dL_law_25 rfl (lv_at hl 4 rfl) ?_
    refine va_slen S0.1 S0.2.1 hX hbl (Nat.not_le.mpr hbl) hS dL_law_26 ?_
    refine lv_iconst (v := 3) S0.1 S0.2.1 dL_law_27 (by decide) ?_
    refine lv_isub S0.1 S0.2.1 dL_law_28 ?_
    refine lv_icmp_gt (tgt := 1103) S0.1 S0.2.1 dL_law_29 (by decide) (fun _ => ?_) (fun c1 => ?_)
    · refine lv_iconst (v := 1) S0.1 S0.2.1 dL_law_1103 (by decide) ?_
      refine va_forget (fun q hq => hS.2.2 q hq) ?_
      refine W.widen (k := 601024) (n := 7293034) (by omega) (by omega) ?_
      exact lw_ret hd0 S0.1 S0.2.1 hr hlocks dL_law_1104
    · exact absurd ((lz_gt hL hj).mpr (by omega)) c1
  | succ k ih =>
    intro j n h VC VR th f d0 hd0 hj hk hR hh H locs Wd hS ls hl
    have S : CallFix p m c cL_law 9 (s.setDrawn d0) #[Value.ref b] wsL_law RL := ⟨S0.1, S0.2.1, S0.2.2.1, S0.2.2.2.1, dr_words S0.2.2.2.2 d0⟩
    refine lv_iload S0.1 S0.2.1 dL_law_23 (lv_at hl 0 rfl) ?_
    refine lv_aload_n S0.1 S0.2.1 dL_law_25 rfl (lv_at hl 4 rfl) ?_
    refine va_slen S0.1 S0.2.1 hX hbl (Nat.not_le.mpr hbl) hS dL_law_26 ?_
    refine lv_iconst (v := 3) S0.1 S0.2.1 dL_law_27 (by decide) ?_
    refine lv_isub S0.1 S0.2.1 dL_law_28 ?_
    refine lv_icmp_gt (tgt := 1103) S0.1 S0.2.1 dL_law_29 (by decide) (fun _ => ?_) (fun c1 => ?_)
    · refine lv_iconst (v := 1) S0.1 S0.2.1 dL_law_1103 (by decide) ?_
      refine va_forget (fun q hq => hS.2.2 q hq) ?_
      refine W.widen (k := 601024) (n := 7293034) (by omega) (by omega) ?_
      exact lw_ret hd0 S0.1 S0.2.1 hr hlocks dL_law_1104
    · have hj2 : 3 * j + 2 < L := Decidable.of_not_not (fun z => c1 ((lz_gt hL hj).mpr z))
      have cont : ∀ (n' h' : Nat) (VC' VR' : aq_V) (th' : Int32) (f' : Nat → Int64) (H' : Heap) (locs' : List Loc) (ls' : Array Slot) (d1 : Drawn), s.drawn.sameBut d1 lw_cs → h' ≤ h + 100 → ly_R n' h' VC' VR' → ly_W D cI cQ cL cR adC adR o VC' VR' th' f' s H' → ly_S s H' locs' → lv_has ls' 9 [(4, .int (nI (3 * j))), (3, .ref o), (2, .ref (adR 0)), (1, .ref (adC 0)), (0, .ref b)] → W p l e room_1 (s.setDrawn d1) m #[Value.ref b] below meth c H' locs' (72 + 200 * j + 200) (996 + 2000 * j + 2000) (lw_Z below #[Value.ref b] s) (F0 m 1097 ls' []) := by
        intro n' h' VC' VR' th' f' H' locs' ls' d1 hd1 hh' hR' Wd' hS' hl'
        refine lv_iinc (v := nI (3 * (j + 1))) (lv' := [(4, .int (nI (3 * (j + 1)))), (3, .ref o), (2, .ref (adR 0)), (1, .ref (adC 0)), (0, .ref b)]) S0.1 S0.2.1 dL_law_1097 hl' (k := 0) rfl (by rw [show Int32.ofInt 3 = nI 3 from rfl, nI_add, show 3 * j + 3 = 3 * (j + 1) by omega]) (by decide) rfl (fun ls' hl' => ?_)
        refine lv_goto (tgt := 23) S0.1 S0.2.1 dL_law_1100 (by decide) ?_
        refine W.cs (cells' := 72 + 200 * (j + 1)) (slots' := 996 + 2000 * (j + 1)) (by omega) (by omega) ?_
        exact ih (j + 1) n' h' VC' VR' th' f' d1 hd1 (by omega) (by omega) hR' (by omega) H' locs' Wd' hS' ls' hl'
      refine lv_aload_n S0.1 S0.2.1 dL_law_32 rfl (lv_at hl 4 rfl) ?_
      refine lv_iload S0.1 S0.2.1 dL_law_33 (lv_at hl 0 rfl) ?_
      refine va_sld (s := s.setDrawn d0) S0.1 S0.2.1 hX hbl (Nat.not_le.mpr hbl) hS (vp_in_nI (show 3 * j < L by omega) (by omega)) dL_law_35 ?_
      refine lv_bipush (v := 31) S0.1 S0.2.1 dL_law_36 (by decide) ?_
      refine lv_iand S0.1 S0.2.1 dL_law_38 ?_
      obtain ⟨w, hw, ew⟩ := pk_andE (xs (nI (3 * j)).toNatClampNeg) (m := 31) 5 (by decide)
      rw [ew]
      by_cases hw18 : w < 18
      · rcases (show w = 0 ∨ w = 1 ∨ w = 2 ∨ w = 3 ∨ w = 4 ∨ w = 5 ∨ w = 6 ∨ w = 7 ∨ w = 8 ∨ w = 9 ∨ w = 10 ∨ w = 11 ∨ w = 12 ∨ w = 13 ∨ w = 14 ∨ w = 15 ∨ w = 16 ∨ w = 17 by omega) with rfl | rfl | rfl | rfl | rfl | rfl | rfl | rfl | rfl | rfl | rfl | rfl | rfl | rfl | rfl | rfl | rfl | rfl
        · refine lv_tableIn (x := nI 0) (tgt := 124) S0.1 S0.2.1 dL_law_39 (by decide) (by decide) rfl (by decide) ?_
          exact ly_c_build l hlt (s := s.setDrawn d0) S (ly_E.drawn d0 E) hD hX hbl hj2 hL hR (by omega) Wd hS (by omega) (by omega) hl (fun n' h' VC' VR' th' f' H' locs' ls' a1 a2 a3 a4 a5 => cont n' h' VC' VR' th' f' H' locs' ls' d0 hd0 a1 a2 a3 a4 a5)
        · refine lv_tableIn (x := nI 1) (tgt := 192) S0.1 S0.2.1 dL_law_39 (by decide) (by decide) rfl (by decide) ?_
          exact ly_c_setSpring l hlt (s := s.setDrawn d0) S (ly_E.drawn d0 E) hD hX hbl hj2 hL hR (by omega) Wd hS (by omega) (by omega) hl (fun n' h' VC' VR' th' f' H' locs' ls' a1 a2 a3 a4 a5 => cont n' h' VC' VR' th' f' H' locs' ls' d0 hd0 a1 a2 a3 a4 a5)
        · refine lv_tableIn (x := nI 2) (tgt := 260) S0.1 S0.2.1 dL_law_39 (by decide) (by decide) rfl (by decide) ?_
          exact ly_c_setCity l hlt (s := s.setDrawn d0) S (ly_E.drawn d0 E) hD hX hbl hj2 hL hR (by omega) Wd hS (by omega) (by omega) hl (fun n' h' VC' VR' th' f' H' locs' ls' a1 a2 a3 a4 a5 => cont n' h' VC' VR' th' f' H' locs' ls' d0 hd0 a1 a2 a3 a4 a5)
        · refine lv_tableIn (x := nI 3) (tgt := 328) S0.1 S0.2.1 dL_law_39 (by decide) (by decide) rfl (by decide) ?_
          exact ly_c_setCistern l hlt (s := s.setDrawn d0) S (ly_E.drawn d0 E) hD hX hbl hj2 hL hR (by omega) Wd hS (by omega) (by omega) hl (fun n' h' VC' VR' th' f' H' locs' ls' a1 a2 a3 a4 a5 => cont n' h' VC' VR' th' f' H' locs' ls' d0 hd0 a1 a2 a3 a4 a5)
        · refine lv_tableIn (x := nI 4) (tgt := 384) S0.1 S0.2.1 dL_law_39 (by decide) (by decide) rfl (by decide) ?_
          exact ly_c_arch l hlt (s := s.setDrawn d0) S (ly_E.drawn d0 E) hD hX hbl hj2 hL hR (by omega) Wd hS (by omega) (by omega) hl (fun n' h' VC' VR' th' f' H' locs' ls' a1 a2 a3 a4 a5 => cont n' h' VC' VR' th' f' H' locs' ls' d0 hd0 a1 a2 a3 a4 a5)
        · refine lv_tableIn (x := nI 5) (tgt := 452) S0.1 S0.2.1 dL_law_39 (by decide) (by decide) rfl (by decide) ?_
          exact ly_c_addMill l hlt (s := s.setDrawn d0) S (ly_E.drawn d0 E) hD hX hbl hj2 hL hR (by omega) Wd hS (by omega) (by omega) hl (fun n' h' VC' VR' th' f' H' locs' ls' a1 a2 a3 a4 a5 => cont n' h' VC' VR' th' f' H' locs' ls' d0 hd0 a1 a2 a3 a4 a5)
        · refine lv_tableIn (x := nI 6) (tgt := 520) S0.1 S0.2.1 dL_law_39 (by decide) (by decide) rfl (by decide) ?_
          exact ly_c_setSluice l hlt (s := s.setDrawn d0) S (ly_E.drawn d0 E) hD hX hbl hj2 hL hR (by omega) Wd hS (by omega) (by omega) hl (fun n' h' VC' VR' th' f' H' locs' ls' a1 a2 a3 a4 a5 => cont n' h' VC' VR' th' f' H' locs' ls' d0 hd0 a1 a2 a3 a4 a5)
        · refine lv_tableIn (x := nI 7) (tgt := 588) S0.1 S0.2.1 dL_law_39 (by decide) (by decide) rfl (by decide) ?_
          exact ly_c_mill l hlt (s := s.setDrawn d0) S (ly_E.drawn d0 E) hD hX hbl hj2 hL hR (by omega) Wd hS (by omega) (by omega) hl (fun n' h' VC' VR' th' f' H' locs' ls' a1 a2 a3 a4 a5 => cont n' h' VC' VR' th' f' H' locs' ls' d0 hd0 a1 a2 a3 a4 a5)
        · refine lv_tableIn (x := nI 8) (tgt := 656) S0.1 S0.2.1 dL_law_39 (by decide) (by decide) rfl (by decide) ?_
          exact ly_c_mend l hlt (s := s.setDrawn d0) S (ly_E.drawn d0 E) hD hX hbl hj2 hL hR (by omega) Wd hS (by omega) (by omega) hl (fun n' h' VC' VR' th' f' H' locs' ls' a1 a2 a3 a4 a5 => cont n' h' VC' VR' th' f' H' locs' ls' d0 hd0 a1 a2 a3 a4 a5)
        · refine lv_tableIn (x := nI 9) (tgt := 712) S0.1 S0.2.1 dL_law_39 (by decide) (by decide) rfl (by decide) ?_
          exact ly_c_quake l hlt (s := s.setDrawn d0) S (ly_E.drawn d0 E) hD hX hbl hj2 hL hR (by omega) Wd hS (by omega) (by omega) hl (fun n' h' VC' VR' th' f' H' locs' ls' a1 a2 a3 a4 a5 => cont n' h' VC' VR' th' f' H' locs' ls' d0 hd0 a1 a2 a3 a4 a5)
        · refine lv_tableIn (x := nI 10) (tgt := 780) S0.1 S0.2.1 dL_law_39 (by decide) (by decide) rfl (by decide) ?_
          exact ly_c_pass l hlt (s := s.setDrawn d0) S (ly_E.drawn d0 E) hD hX hbl hj2 hL hR (by omega) Wd hS (by omega) (by omega) hl (fun n' h' VC' VR' th' f' H' locs' ls' a1 a2 a3 a4 a5 => cont n' h' VC' VR' th' f' H' locs' ls' d0 hd0 a1 a2 a3 a4 a5)
        · refine lv_tableIn (x := nI 11) (tgt := 836) S0.1 S0.2.1 dL_law_39 (by decide) (by decide) rfl (by decide) ?_
          exact ly_c_count l hlt (s := s.setDrawn d0) S (ly_E.drawn d0 E) hD hX hbl hj2 hL hR (by omega) Wd hS (by omega) (by omega) hl (fun n' h' VC' VR' th' f' H' locs' ls' a1 a2 a3 a4 a5 => cont n' h' VC' VR' th' f' H' locs' ls' d0 hd0 a1 a2 a3 a4 a5)
        · refine lv_tableIn (x := nI 12) (tgt := 892) S0.1 S0.2.1 dL_law_39 (by decide) (by decide) rfl (by decide) ?_
          exact ly_c_foresee l hlt (s := s.setDrawn d0) S (ly_E.drawn d0 E) hD hX hbl hj2 hL hR (by omega) Wd hS (by omega) (by omega) hl (fun n' h' VC' VR' th' f' H' locs' ls' a1 a2 a3 a4 a5 => cont n' h' VC' VR' th' f' H' locs' ls' d0 hd0 a1 a2 a3 a4 a5)
        · refine lv_tableIn (x := nI 13) (tgt := 960) S0.1 S0.2.1 dL_law_39 (by decide) (by decide) rfl (by decide) ?_
          exact ly_c_advise l hlt (s := s.setDrawn d0) S (ly_E.drawn d0 E) hD hX hbl hj2 hL hR (by omega) Wd hS (by omega) (by omega) hl (fun n' h' VC' VR' th' f' H' locs' ls' a1 a2 a3 a4 a5 => cont n' h' VC' VR' th' f' H' locs' ls' d0 hd0 a1 a2 a3 a4 a5)
        · refine lv_tableIn (x := nI 14) (tgt := 1016) S0.1 S0.2.1 dL_law_39 (by decide) (by decide) rfl (by decide) ?_
          exact ly_c_thirsty l hlt (s := s.setDrawn d0) S (ly_E.drawn d0 E) hD hX hbl hj2 hL hR (by omega) Wd hS (by omega) (by omega) hl (fun n' h' VC' VR' th' f' H' locs' ls' a1 a2 a3 a4 a5 => cont n' h' VC' VR' th' f' H' locs' ls' d0 hd0 a1 a2 a3 a4 a5)
        · refine lv_tableIn (x := nI 15) (tgt := 1029) S0.1 S0.2.1 dL_law_39 (by decide) (by decide) rfl (by decide) ?_
          exact ly_c_worst l hlt (s := s.setDrawn d0) S (ly_E.drawn d0 E) hD hX hbl hj2 hL hR (by omega) Wd hS (by omega) (by omega) hl (fun n' h' VC' VR' th' f' H' locs' ls' a1 a2 a3 a4 a5 => cont n' h' VC' VR' th' f' H' locs' ls' d0 hd0 a1 a2 a3 a4 a5)
        · refine lv_tableIn (x := nI 16) (tgt := 1042) S0.1 S0.2.1 dL_law_39 (by decide) (by decide) rfl (by decide) ?_
          exact ly_c_reaches l hlt (s := s) hd0 S (ly_E.drawn d0 E) hD hX hbl hj2 hL hR (by omega) Wd hS (by omega) (by omega) hl (fun n' h' VC' VR' th' f' H' locs' ls' d1 hd1 a1 a2 a3 a4 a5 => cont n' h' VC' VR' th' f' H' locs' ls' d1 hd1 a1 a2 a3 a4 a5)
        · refine lv_tableIn (x := nI 17) (tgt := 1083) S0.1 S0.2.1 dL_law_39 (by decide) (by decide) rfl (by decide) ?_
          exact ly_c_digest l hlt (s := s.setDrawn d0) S (ly_E.drawn d0 E) hD hX hbl hj2 hL hR (by omega) Wd hS (by omega) (by omega) hl (fun n' h' VC' VR' th' f' H' locs' ls' a1 a2 a3 a4 a5 => cont n' h' VC' VR' th' f' H' locs' ls' d0 hd0 a1 a2 a3 a4 a5)
      · refine lv_tableOut (x := nI w) (tgt := 1097) S0.1 S0.2.1 dL_law_39 (Or.inr (by rw [nI_toInt (by omega)]; omega)) (by decide) ?_
        exact W.widen (by omega) (by omega) (cont n h VC VR th f H locs ls d0 hd0 (by omega) hR Wd hS hl)
def lz_Z : aq_Q := fun _ _ => 0
def lz_U : aq_V := aq_ug cn_V 2 lz_Z
theorem lz_T {t : Nat} (ht : t ≠ 10) : cn_V 2 t = lz_Z t := funext fun k => if_neg (fun y => ht y.1)
theorem lz_C (ad : Nat → Nat) (cI cQ : ClassId) : aC_w ad cI cQ cn_V = aC_w ad cI cQ lz_U := by
  refine List.map_congr_left (fun c hc => ?_)
  have hc := List.mem_range.mp hc
  rw [show aC_e ad cI cQ cn_V c = aC_e ad cI cQ lz_U c from ?_]
  refine aC_cong (fun h1 h2 => ?_) (fun h1 h2 k => ?_) (fun h1 h19 k hk => ?_) (fun h1 => ?_)
  · show _ = aq_ug cn_V 2 lz_Z 2 (c - 1)
    rw [aq_ug_s]
    exact lz_T (by omega)
  · exact (congrFun (congrFun (aq_ug_n cn_V lz_Z (show c - 3 ≠ 2 by omega)) 10) k).symm
  · exact (congrFun (congrFun (aq_ug_n cn_V lz_Z (show (c - 7) / 20 ≠ 2 by omega)) k) _).symm
  · exact (congrFun (aq_ug_n cn_V lz_Z (show (3 : Nat) ≠ 2 by decide)) _).symm
theorem lz_W (ad : Nat → Nat) (cI : ClassId) (th : Int32) : aR_w ad cI th cn_V = aR_w ad cI th lz_U := by
  refine List.map_congr_left (fun c hc => ?_)
  have hc := List.mem_range.mp hc
  rw [show aR_e ad cI th cn_V c = aR_e ad cI th lz_U c from ?_]
  refine aR_same (fun _ => ⟨rfl, ?_⟩) (fun h1 h2 => ?_) (fun h1 h2 => ?_) (fun h1 h2 k hk => ?_) (fun h1 => ?_)
  · rfl
  · show _ = aq_ug cn_V 2 lz_Z 2 (c - 1)
    rw [aq_ug_s]
    exact lz_T (by omega)
  · rfl
  · exact (congrFun (congrFun (aq_ug_n cn_V lz_Z (show c - 6 ≠ 2 by omega)) 10) k).symm
  · exact (congrFun (aq_ug_n cn_V lz_Z (show (c - 8) / 7 ≠ 2 by omega)) _).symm
theorem lz_V : pu_V 0 0 lz_Z (cn_V 0) := by
  have z : ∀ f i, f ≠ 10 → cn_V 0 f i = 0 := fun f i h => if_neg (fun y => h y.1)
  have y : ∀ k, k ≠ 6 → cn_V 0 10 k = 0 := fun k h => if_neg (fun y => h y.2)
  have y6 : cn_V 0 10 6 = 100 := rfl
  refine ⟨by decide, y 3 (by decide), y 4 (by decide), ⟨fun i => ?_, ?_, fun i hi => absurd hi (Nat.not_lt_zero _), fun i => ?_, ?_, ?_⟩, fun t k => ⟨(by decide : 0 ≤ (0 : Int32).toInt), (by decide : (0 : Int32).toInt ≤ 40)⟩, fun i _ => z 1 i (by decide)⟩
  · unfold pu_b
    rw [z 0 i (by decide), z 1 i (by decide), z 2 i (by decide), z 3 i (by decide), z 4 i (by decide), z 6 i (by decide), z 7 i (by decide), z 9 i (by decide)]
    decide
  · rw [y 7 (by decide), y6]
    decide
  · rw [z 8 i (by decide)]
    decide
  · rw [y 5 (by decide)]
    decide
  · rw [y 12 (by decide)]
    decide
theorem lz_R : ly_R 0 0 lz_U lz_U := ⟨lz_V, rfl, rfl, ⟨fun _ => rfl, fun _ => rfl, fun _ => rfl⟩, rfl⟩
set_option maxHeartbeats 4000000 in
set_option maxRecDepth 100000 in
/-- from the entry, for every script of at most 1536 ints, the law comes to its end with true -/
theorem whole_start {p : Program} {e : Env} {s : State} {m : MethodId} {below : List Frame} {meth : Method} {c : Code} (l : Launch) (hflags : l.flags = flags0) {b L : Nat} {xs : Nat → Int32} (hL : L ≤ 1536) (C0 : lw_At p s m meth c b L xs) : W p l e room_1 s m #[Value.ref b] below meth c s.heap [] 0 0 (lw_Z below #[Value.ref b] s) (entryFrame m ([Value.ref b] : List Value).toArray 9) := by
  obtain ⟨hx, hb, hr, hml, hown, hts0, hX, hbl, hlocks, hgv⟩ := id C0
  have hlt : l.stackTraces = false := by unfold Launch.stackTraces; rw [hflags]; decide +kernel
  have hown : s.vm.findClass RL = some m.cls := hown
  have hts : ∀ w ∈ wsL_law, w.before #[Value.ref b] s = true := fun w h => hts0 w (wsL_law_in w h)
  have S : CallFix p m c cL_law 9 s #[Value.ref b] wsL_law RL := ⟨hx, hb, hml, hown, hts⟩
  obtain ⟨E, EC, EF⟩ := lz_env hts0 hgv
  have hA : ∀ q : Nat, s.heap.size ≤ q → (fun q : Nat => s.heap.size ≤ q) q := fun _ h => h
  obtain ⟨c0, iS0, hKn0⟩ := u_known (C := RX0) (T := TX0) (N := 13) (n := 13) hts inlX0 (hts0 (.instantiable RX0 13) (by decide +kernel))
  obtain ⟨c1, iS1, hKn1⟩ := u_known (C := RX1) (T := TX1) (N := 10) (n := 10) hts inlX1 (hts0 (.instantiable RX1 10) (by decide +kernel))
  obtain ⟨c2, iS2, hKn2⟩ := u_known (C := RX2) (T := TX2) (N := 2) (n := 2) hts inlX2 (hts0 (.instantiable RX2 2) (by decide +kernel))
  obtain ⟨c3, iS3, hKn3⟩ := u_known (C := RX3) (T := TX3) (N := 17) (n := 17) hts inlX3 (hts0 (.instantiable RX3 17) (by decide +kernel))
  obtain ⟨c4, iS4, hKn4⟩ := u_known (C := RX4) (T := TX4) (N := 9) (n := 9) hts inlX4 (hts0 (.instantiable RX4 9) (by decide +kernel))
  obtain ⟨D, hKc⟩ : ∃ (D : va_G), ∀ (k : Nat) (q : vw_C), vwCl[k]? = some q → u_Kn s q.1 q.2.1 q.2.2 (D.1 k) (D.2 k) := by
    refine ⟨(fun k => match k with | 0 => c0 | 1 => c1 | 2 => c2 | 3 => c3 | _ => c4, fun k => match k with | 0 => iS0 | 1 => iS1 | 2 => iS2 | 3 => iS3 | _ => iS4), ?_⟩
    intro k q hq
    match k, hq with
    | 0, hq => cases hq; exact hKn0
    | 1, hq => cases hq; exact hKn1
    | 2, hq => cases hq; exact hKn2
    | 3, hq => cases hq; exact hKn3
    | 4, hq => cases hq; exact hKn4
    | k + 5, hq => simp [vwCl] at hq
  have hS : ly_S s s.heap [] := va_S.rf
  have hK : va_K D vwCl [] s := ⟨hKc, fun k q h => by simp at h⟩
  have hP : va_P D vwCl [] s.heap := fun k q h => by simp at h
  have hD : va_D (fun q : Nat => s.heap.size ≤ q) [] := ⟨fun i j p q h => by simp at h, fun k q h => by simp at h⟩
  have hl := lv_entry ([.ref b]) (n := 9) (Nat.le_of_ble_eq_true rfl)
  rw [lg_entry_eq]
  generalize (lg_sl ([.ref b]) ++ List.replicate (9 - (lg_sl ([.ref b])).length) Slot.unset).toArray = ls at hl ⊢
  have hl : lv_has ls 9 [(0, .ref b)] := hl
  refine va_new (ci := 2) (fs := [.null, .null]) (C := RX2) (T := TX2) (N := 2) hx hb hts inlX2 tyX2 tyX2_ok hown (hts0 (.classLink RL 8 RX2) (by decide +kernel)) (hts0 (.instantiable RX2 2) (by decide +kernel)) (hts0 (.initialized RX2) (by decide +kernel)) hK hP hD hS hA rfl (fun j hj => by rcases (show j = 0 ∨ j = 1 by omega) with rfl | rfl <;> rfl) (Nat.le_of_ble_eq_true rfl) (Nat.le_of_ble_eq_true rfl) dL_law_0 (fun q0 H hP hD hS => ?_)
  refine W.cs (cells' := 1) (slots' := 2) rfl rfl ?_
  have hP : va_P D vwCl [(q0, cn_x .null .null)] H := hP
  have hD : va_D (fun q : Nat => s.heap.size ≤ q) [(q0, cn_x .null .null)] := hD
  refine lv_dup hx hb dL_law_3 rfl ?_
  have hF : ∀ z, va_A [(q0, cn_x .null .null)] H.size z → s.heap.size ≤ z := fun z h => by
    rcases h with ⟨k, e9, h⟩ | h
    · have h1 := (List.getElem?_eq_some_iff.mp h).1
      have h2 : k = 0 := by simp at h1; omega
      subst h2
      cases h
      exact hD.2 0 _ rfl
    · exact Nat.le_trans hS.1 h
  refine va_callv (va_runI (As := []) (rest := [.ref q0]) S (c_X2_init l D q0 H.size) (cwI 0 hts gL_law_X2_init rfl rfl rfl (hts0 (.initialized RX2) (by decide +kernel)) (hts0 (.methodLink RL 59 yX2_init) (by decide +kernel)) (hts0 (.instanceMethod yX2_init) (by decide +kernel)) rfl (by decide +kernel) ⟨Nat.le_of_ble_eq_true rfl, Nat.le_of_ble_eq_true rfl⟩) ⟨fun a U g mk z => by obtain ⟨z0, z1, zP, zK, zE⟩ := z; exact ⟨z0, z1, zP, va_K.moved (u := U) (U := U.calling g mk a) (Vm.Alike.refl U.vm) zK, zE.calling⟩, fun U hU hW => ⟨rfl, by rw [hU], by rw [hU]; exact hP, va_K.moved hW.alike hK, EC.warm hW⟩⟩ rfl rfl hl.1 rfl (lv_room (Nat.le_of_ble_eq_true rfl)) dL_law_4 ⟨Nat.le_of_ble_eq_true rfl, Nat.le_of_ble_eq_true rfl⟩) hS (fun z _ h => hF z h) hF (fun u t H locs1 ht hvm h5 hB hz1 hk1 hS => ?_)
  refine W.cs (cells' := 49) (slots' := 564) rfl rfl ?_
  obtain ⟨cI, cQ, adC⟩ := u
  obtain ⟨hC0, hJC, hAC⟩ := h5
  dsimp only at hC0 hJC hAC
  subst hC0
  have hAC : ∀ c, c < 49 → s.heap.size ≤ adC c := fun c h => hF _ (hAC c h)
  have hKC : va_K D vwCl (aC_t cI cQ) s := va_K.moved hvm.symm hB.1
  have hP : va_P D vwCl (aC_w adC cI cQ cn_V) H := by rw [← ht]; exact hB.2
  have hD : va_D (fun q : Nat => s.heap.size ≤ q) (aC_w adC cI cQ cn_V) := ⟨fun i j p q hi hj hpq => by
    obtain ⟨h1, rfl⟩ := aq_w_in hi
    obtain ⟨h2, rfl⟩ := aq_w_in hj
    exact hJC i j h1 h2 hpq, fun k q hk => by
    obtain ⟨h1, rfl⟩ := aq_w_in hk
    exact hAC k h1⟩
  refine lv_astore_n (lv' := [(1, .ref (adC 0)), (0, .ref b)]) hx hb dL_law_7 rfl hl (by decide) rfl (fun ls hl => ?_)
  refine va_new (ci := 4) (fs := [.int 0, .null, .null, .int 0, .null, .null, .null, .null, .null]) (C := RX4) (T := TX4) (N := 9) hx hb hts inlX4 tyX4 tyX4_ok hown (hts0 (.classLink RL 60 RX4) (by decide +kernel)) (hts0 (.instantiable RX4 9) (by decide +kernel)) (hts0 (.initialized RX4) (by decide +kernel)) hK hP hD hS hA rfl (fun j hj => by rcases (show j = 0 ∨ j = 1 ∨ j = 2 ∨ j = 3 ∨ j = 4 ∨ j = 5 ∨ j = 6 ∨ j = 7 ∨ j = 8 by omega) with rfl | rfl | rfl | rfl | rfl | rfl | rfl | rfl | rfl <;> rfl) (Nat.le_of_ble_eq_true rfl) (Nat.le_of_ble_eq_true rfl) dL_law_8 (fun q1 H hP hD hS => ?_)
  refine W.cs (cells' := 50) (slots' := 573) rfl rfl ?_
  have hP : va_P D vwCl (aC_w adC cI cQ cn_V ++ [(q1, cn_M .null .null .null .null .null .null .null)]) H := hP
  have hD : va_D (fun q : Nat => s.heap.size ≤ q) (aC_w adC cI cQ cn_V ++ [(q1, cn_M .null .null .null .null .null .null .null)]) := hD
  refine lv_dup hx hb dL_law_11 rfl ?_
  have hq : (aC_w adC cI cQ cn_V ++ [(q1, cn_M .null .null .null .null .null .null .null)])[49]? = some (q1, cn_M .null .null .null .null .null .null .null) := by rw [List.getElem?_append_right (by rw [aq_w_len]; exact Nat.le_refl _), aq_w_len]; rfl
  have hF : ∀ z, va_A [(q1, cn_M .null .null .null .null .null .null .null)] H.size z → s.heap.size ≤ z := fun z h => by
    rcases h with ⟨k, e9, h⟩ | h
    · have h1 := (List.getElem?_eq_some_iff.mp h).1
      have h2 : k = 0 := by simp at h1; omega
      subst h2
      cases h
      exact hD.2 _ _ hq
    · exact Nat.le_trans hS.1 h
  refine va_callv (va_runI (As := []) (rest := [.ref q1]) S (c_X4_init l D q1 H.size) (cwI 0 hts gL_law_X4_init rfl rfl rfl (hts0 (.initialized RX4) (by decide +kernel)) (hts0 (.methodLink RL 62 yX4_init) (by decide +kernel)) (hts0 (.instanceMethod yX4_init) (by decide +kernel)) rfl (by decide +kernel) ⟨Nat.le_of_ble_eq_true rfl, Nat.le_of_ble_eq_true rfl⟩) ⟨fun a U g mk z => by obtain ⟨z0, z1, zP, zK, zE⟩ := z; exact ⟨z0, z1, zP, va_K.moved (u := U) (U := U.calling g mk a) (Vm.Alike.refl U.vm) zK, zE.calling⟩, fun U hU hW => ⟨rfl, by rw [hU], fun k z hz => by
      have h1 := (List.getElem?_eq_some_iff.mp hz).1
      have h2 : k = 0 := by simp at h1; omega
      subst h2
      cases hz
      rw [hU]
      exact hP _ _ hq, va_K.moved hW.alike hK, EF.warm hW⟩⟩ rfl rfl hl.1 rfl (lv_room (Nat.le_of_ble_eq_true rfl)) dL_law_12 ⟨Nat.le_of_ble_eq_true rfl, Nat.le_of_ble_eq_true rfl⟩) hS (fun z _ h => hF z h) hF (fun u t H1 locs1 ht hvm h5 hB hz1 hk1 hS1 => ?_)
  refine W.cs (cells' := 71) (slots' := 995) rfl rfl ?_
  obtain ⟨cR, adR⟩ := u
  obtain ⟨hR0, hJR, hAR⟩ := h5
  dsimp only at hR0 hJR hAR
  subst hR0
  have hKR : va_K D vwCl (aR_t cR) s := va_K.moved hvm.symm hB.1
  obtain ⟨hP, hD⟩ := aq_jn (wr := aC_w adC cI cQ cn_V) (w1 := aR_w adR cR 0 cn_V) hP hD hk1 (fun a h => Nat.le_trans hS.1 h) (by rw [← ht]; exact hB.2) ⟨fun i j p q hi hj hpq => by
    obtain ⟨h1, rfl⟩ := aq_w_in hi
    obtain ⟨h2, rfl⟩ := aq_w_in hj
    exact hJR i j h1 h2 hpq, fun k q hk => by
    obtain ⟨h1, rfl⟩ := aq_w_in hk
    exact hAR k h1⟩
  have hS := hS1
  refine lv_astore_n (lv' := [(2, .ref (adR 0)), (1, .ref (adC 0)), (0, .ref b)]) hx hb dL_law_15 rfl hl (by decide) rfl (fun ls hl => ?_)
  refine lv_iconst (v := 1) hx hb dL_law_16 (by decide) ?_
  refine va_newa (atype := .long) (D := D) hx hb (hts0 (.arrayClass .long) (by decide +kernel)) (ty := .long) rfl hK hP hD hS hA (n := 1) (N' := 1) (a0 := (1, .inr (.inl (fun _ => 0)))) (fun cA => rfl) (by decide) (by decide) (by decide) (Nat.le_of_ble_eq_true rfl) (Nat.le_of_ble_eq_true rfl) dL_law_17 (fun o cL H hKL hP hD hS => ?_)
  refine W.cs (cells' := 72 + 200 * 0) (slots' := 996 + 2000 * 0) rfl rfl ?_
  obtain ⟨⟨hPC, hPR, hPL⟩, hJ, h6, h7, h8⟩ := lz_split (o := o) (cL := cL) (f := fun _ => 0) hP hD
  refine lv_astore_n (lv' := [(3, .ref o), (2, .ref (adR 0)), (1, .ref (adC 0)), (0, .ref b)]) hx hb dL_law_19 rfl hl (by decide) rfl (fun ls hl => ?_)
  refine lv_iconst (v := 0) hx hb dL_law_20 (by decide) ?_
  refine lv_istore (lv' := [(4, .int (nI (3 * 0))), (3, .ref o), (2, .ref (adR 0)), (1, .ref (adC 0)), (0, .ref b)]) hx hb dL_law_21 hl (by decide) rfl (fun ls hl => ?_)
  refine W.base ?_
  exact law_loop l hlt S hr hlocks E ⟨hJ, h6, h7, h8⟩ hX hbl hL (L + 1) 0 0 0 lz_U lz_U 0 (fun _ => 0) s.drawn (Drawn.sameBut.refl s.drawn lw_cs) (by omega) (by omega) lz_R (by omega) H _ ⟨⟨hKC, by rw [← lz_C]; exact hPC, hKL, hPL⟩, hKR, by rw [← lz_W]; exact hPR⟩ hS ls hl
