/-! rows of the twin's world -/
theorem aR_t4 : ∀ k, k < 9 → (TX4 k).1 = RX4 := by decide +kernel
theorem aR_t3 : ∀ k, k < 17 → (TX3 k).1 = RX3 := by decide +kernel
def aR_sk (k : Nat) : Nat := match k with | 0 => 4 | 1 => 7 | 2 => 6 | 3 => 5 | 11 => 8 | 12 => 9 | 13 => 10 | 14 => 11 | _ => 12
/-- the state's own numbers -/
def aR_isn (k : Nat) : Bool := k < 4 || (11 ≤ k && k < 16)
theorem aR_tn : ∀ k, k < 17 → aR_isn k = true → (TX3 k).2.2.2 = false ∧ parseFieldDescriptor (TX3 k).2.2.1 = some .int := by decide +kernel
section ARR
variable {p : Program} {l : Launch} {e : Env} {R : Room} {s : State} {m : MethodId} {args : Array Value} {below : List Frame} {meth : Method} {c : Code} {H : Heap} {locs : List Loc} {cells slots : Nat} {P9 : State → Prop}
variable {cc bytes : ByteArray} {maxL nL index pc : Nat} {ad : Nat → Nat} {ls : Array Slot} {rest : List Value} {Ts : List Cond} {own : String} {D : va_G} {cI : ClassId} {th : Int32} {V : aq_V} {Q S3 : aq_Q} {j i : Nat}
theorem aR_recvM (I : aq_I D (aR_t cI) (aq_A 22 ad) (aR_w ad cI th V) s H locs) : ∃ cell : Cell, H[ad 0]? = some cell ∧ cell.vm.isStatics = false ∧ s.vm.findClass RX4 = some cell.cls :=
  aq_recv (T := 0) I (k := 0) (by omega) aR_e0 (cr := (RX4, TX4, 9)) rfl
theorem aR_recvS (I : aq_I D (aR_t cI) (aq_A 22 ad) (aR_w ad cI th V) s H locs) (hj : j < 2) : ∃ cell : Cell, H[ad (6 + j)]? = some cell ∧ cell.vm.isStatics = false ∧ s.vm.findClass RX3 = some cell.cls :=
  aq_recv (T := 0) I (k := 6 + j) (by omega) (aR_eS hj) (cr := (RX3, TX3, 17)) rfl
/-- the model's fields: any, by its value; from the model, or from a state -/
theorem aR_getM {v : Value} (S : CallFix p m c cc nL s args Ts own) (I : aq_I D (aR_t cI) (aq_A 22 ad) (aR_w ad cI th V) s H locs) (k : Nat) (hk : k < 9) (hin : ∀ w ∈ wsX40, w ∈ Ts) (hl : Cond.fieldLink own index RX4 (TX4 k).2.1 (TX4 k).2.2.1 ∈ Ts) (hv : [Value.int th, .ref (ad 1), .ref (ad 2), .int (V 3 10 3), .ref (ad 3), .ref (ad 4), .ref (ad 5), .ref (ad 6), .ref (ad 7)][k]? = some v) (hdg : decode cc pc = .ok (.getfield index, 3))
    (kk : W p l e R s m args below meth c H locs cells slots P9 (F0 m (pc + 3) ls (v :: rest))) : W p l e R s m args below meth c H locs cells slots P9 (F0 m pc ls (.ref (ad 0) :: rest)) :=
  aq_get (N := 22) (k0 := 0) S I (by omega) aR_e0 rfl hin k hk hl (aR_t4 k hk) hv hdg kk
theorem aR_getMN {v : Value} {host : String} (S : CallFix p m c cc nL s args Ts own) (I : aq_I D (aR_t cI) (aq_A 22 ad) (aR_w ad cI th V) s H locs) (k : Nat) (hk : k < 9) (hin : ∀ w ∈ wsX40, w ∈ Ts) (hl : va_Nw (.fieldLinkNest own index RX4 (TX4 k).2.1 (TX4 k).2.2.1 host) s) (hv : [Value.int th, .ref (ad 1), .ref (ad 2), .int (V 3 10 3), .ref (ad 3), .ref (ad 4), .ref (ad 5), .ref (ad 6), .ref (ad 7)][k]? = some v) (hdg : decode cc pc = .ok (.getfield index, 3))
    (kk : W p l e R s m args below meth c H locs cells slots P9 (F0 m (pc + 3) ls (v :: rest))) : W p l e R s m args below meth c H locs cells slots P9 (F0 m pc ls (.ref (ad 0) :: rest)) :=
  ar_getN (N := 22) (k0 := 0) S I (by omega) aR_e0 rfl hin k hk (va_Nw.use rfl hl) (aR_t4 k hk) hv hdg kk
theorem aR_putTh {x : Int32} (hJ : aq_J 22 ad) (S : CallFix p m c cc nL s args Ts own) (I : aq_I D (aR_t cI) (aq_A 22 ad) (aR_w ad cI th V) s H locs) (hin : ∀ w ∈ wsX40, w ∈ Ts) (hl : Cond.fieldLink own index RX4 (TX4 0).2.1 (TX4 0).2.2.1 ∈ Ts) (hdg : decode cc pc = .ok (.putfield index, 3))
    (kk : ∀ (H1 : Heap) (locs1 : List Loc), aq_I D (aR_t cI) (aq_A 22 ad) (aR_w ad cI x V) s H1 locs1 → W p l e R s m args below meth c H1 locs1 cells slots P9 (F0 m (pc + 3) ls rest)) : W p l e R s m args below meth c H locs cells slots P9 (F0 m pc ls (.int x :: .ref (ad 0) :: rest)) := by
  refine aq_put (N := 22) (k0 := 0) (ty0 := tyX4) (ev' := aR_e ad cI x V) hJ S I (by omega) aR_e0 rfl hin tyX4_ok nmX4 0 (by omega) hl (aR_t4 0 (by omega)) rfl (tyX4_ok 0 (by omega)) (by simp) hdg rfl ?_ kk
  intro c hc hne
  exact aR_same (fun h => absurd h hne) (fun _ _ => rfl) (fun _ _ => rfl) (fun _ _ _ _ => rfl) (fun _ => rfl)
theorem aR_putN {x : Int32} (hJ : aq_J 22 ad) (S : CallFix p m c cc nL s args Ts own) (I : aq_I D (aR_t cI) (aq_A 22 ad) (aR_w ad cI th (aq_ug V 3 S3)) s H locs) (hin : ∀ w ∈ wsX40, w ∈ Ts) (hl : Cond.fieldLink own index RX4 (TX4 3).2.1 (TX4 3).2.2.1 ∈ Ts) (hdg : decode cc pc = .ok (.putfield index, 3))
    (kk : ∀ (H1 : Heap) (locs1 : List Loc) (S4 : aq_Q), S4 = aq_up S3 10 3 x → aq_I D (aR_t cI) (aq_A 22 ad) (aR_w ad cI th (aq_ug V 3 S4)) s H1 locs1 → W p l e R s m args below meth c H1 locs1 cells slots P9 (F0 m (pc + 3) ls rest)) : W p l e R s m args below meth c H locs cells slots P9 (F0 m pc ls (.int x :: .ref (ad 0) :: rest)) := by
  refine aq_put (N := 22) (k0 := 0) (ty0 := tyX4) (ev' := aR_e ad cI th (aq_ug V 3 (aq_up S3 10 3 x))) hJ S I (by omega) aR_e0 rfl hin tyX4_ok nmX4 3 (by omega) hl (aR_t4 3 (by omega)) rfl (tyX4_ok 3 (by omega)) (by simp) hdg ?_ ?_ (fun H1 locs1 I1 => kk H1 locs1 _ rfl I1)
  · rw [aR_e0, aq_ug_s, aq_up_s]
    rfl
  · intro c hc hne
    refine aR_same (fun h => absurd h hne) (fun _ _ => ?_) (fun a b => ?_) (fun a b k h4 => ?_) (fun a => ?_)
    · rw [aq_ug_n _ _ (by omega), aq_ug_n _ _ (by omega)]
    · rw [aq_ug_s, aq_ug_s]
      funext z
      exact aq_up_f _ _ (by unfold aR_sf; split <;> omega)
    · rw [aq_ug_n _ _ (by omega), aq_ug_n _ _ (by omega)]
    · rw [aq_ug_n _ _ (by omega), aq_ug_n _ _ (by omega)]
/-- a state's fields -/
theorem aR_getS {v : Value} (S : CallFix p m c cc nL s args Ts own) (I : aq_I D (aR_t cI) (aq_A 22 ad) (aR_w ad cI th V) s H locs) (hj : j < 2) (k : Nat) (hk : k < 17) (hin : ∀ w ∈ wsX30, w ∈ Ts) (hl : Cond.fieldLink own index RX3 (TX3 k).2.1 (TX3 k).2.2.1 ∈ Ts) (hv : [Value.int (V j 10 4), .int (V j 10 7), .int (V j 10 6), .int (V j 10 5), .ref (ad (8 + 7 * j)), .ref (ad (9 + 7 * j)), .ref (ad (10 + 7 * j)), .ref (ad (11 + 7 * j)), .ref (ad (12 + 7 * j)), .ref (ad (13 + 7 * j)), .ref (ad (14 + 7 * j)), .int (V j 10 8), .int (V j 10 9), .int (V j 10 10), .int (V j 10 11), .int (V j 10 12), .ref (ad 0)][k]? = some v) (hdg : decode cc pc = .ok (.getfield index, 3))
    (kk : W p l e R s m args below meth c H locs cells slots P9 (F0 m (pc + 3) ls (v :: rest))) : W p l e R s m args below meth c H locs cells slots P9 (F0 m pc ls (.ref (ad (6 + j)) :: rest)) :=
  aq_get (N := 22) (k0 := 6 + j) S I (by omega) (aR_eS hj) rfl hin k hk hl (aR_t3 k hk) hv hdg kk
theorem aR_getSN {v : Value} {host : String} (S : CallFix p m c cc nL s args Ts own) (I : aq_I D (aR_t cI) (aq_A 22 ad) (aR_w ad cI th V) s H locs) (hj : j < 2) (k : Nat) (hk : k < 17) (hin : ∀ w ∈ wsX30, w ∈ Ts) (hl : va_Nw (.fieldLinkNest own index RX3 (TX3 k).2.1 (TX3 k).2.2.1 host) s) (hv : [Value.int (V j 10 4), .int (V j 10 7), .int (V j 10 6), .int (V j 10 5), .ref (ad (8 + 7 * j)), .ref (ad (9 + 7 * j)), .ref (ad (10 + 7 * j)), .ref (ad (11 + 7 * j)), .ref (ad (12 + 7 * j)), .ref (ad (13 + 7 * j)), .ref (ad (14 + 7 * j)), .int (V j 10 8), .int (V j 10 9), .int (V j 10 10), .int (V j 10 11), .int (V j 10 12), .ref (ad 0)][k]? = some v) (hdg : decode cc pc = .ok (.getfield index, 3))
    (kk : W p l e R s m args below meth c H locs cells slots P9 (F0 m (pc + 3) ls (v :: rest))) : W p l e R s m args below meth c H locs cells slots P9 (F0 m pc ls (.ref (ad (6 + j)) :: rest)) :=
  ar_getN (N := 22) (k0 := 6 + j) S I (by omega) (aR_eS hj) rfl hin k hk (va_Nw.use rfl hl) (aR_t3 k hk) hv hdg kk
theorem aR_setS (hj : j < 2) (k : Nat) (hk : k < 17) (hn : aR_isn k = true) (x : Int32) : aR_e ad cI th (aq_ug V j (aq_up Q 10 (aR_sk k) x)) (6 + j) = .inr (3, [Value.int (Q 10 4), .int (Q 10 7), .int (Q 10 6), .int (Q 10 5), .ref (ad (8 + 7 * j)), .ref (ad (9 + 7 * j)), .ref (ad (10 + 7 * j)), .ref (ad (11 + 7 * j)), .ref (ad (12 + 7 * j)), .ref (ad (13 + 7 * j)), .ref (ad (14 + 7 * j)), .int (Q 10 8), .int (Q 10 9), .int (Q 10 10), .int (Q 10 11), .int (Q 10 12), .ref (ad 0)].set k (.int x)) := by
  rw [aR_eS hj, aq_ug_s]
  match k, hk, hn with
  | 0, _, _ => rfl
  | 1, _, _ => rfl
  | 2, _, _ => rfl
  | 3, _, _ => rfl
  | 11, _, _ => rfl
  | 12, _, _ => rfl
  | 13, _, _ => rfl
  | 14, _, _ => rfl
  | 15, _, _ => rfl
theorem aR_oth {x : Int32} {f k : Nat} (hj : j < 2) (hf : f = 10) {c : Nat} (hne : c ≠ 6 + j) : aR_e ad cI th (aq_ug V j (aq_up Q f k x)) c = aR_e ad cI th (aq_ug V j Q) c := by
  refine aR_same (fun h => ⟨rfl, ?_⟩) (fun _ _ => ?_) (fun a b => ?_) (fun a b k h4 => ?_) (fun a => ?_)
  · rw [aq_ug_n _ _ (by omega), aq_ug_n _ _ (by omega)]
  · rw [aq_ug_n _ _ (by omega), aq_ug_n _ _ (by omega)]
  · rw [aq_ug_n _ _ (by omega), aq_ug_n _ _ (by omega)]
  · rw [aq_ug_n _ _ (by omega), aq_ug_n _ _ (by omega)]
  · by_cases h : (c - 8) / 7 = j
    · rw [h, aq_ug_s, aq_ug_s]
      funext z
      exact aq_up_f _ _ (by unfold aR_rf; split <;> omega)
    · rw [aq_ug_n _ _ h, aq_ug_n _ _ h]
theorem aR_putS {x : Int32} (hJ : aq_J 22 ad) (S : CallFix p m c cc nL s args Ts own) (I : aq_I D (aR_t cI) (aq_A 22 ad) (aR_w ad cI th (aq_ug V j Q)) s H locs) (hj : j < 2) (k : Nat) (hk : k < 17) (hn : aR_isn k = true) (f : Nat) (hf : aR_sk k = f) (hin : ∀ w ∈ wsX30, w ∈ Ts) (hl : Cond.fieldLink own index RX3 (TX3 k).2.1 (TX3 k).2.2.1 ∈ Ts) (hdg : decode cc pc = .ok (.putfield index, 3))
    (kk : ∀ (H1 : Heap) (locs1 : List Loc) (Q1 : aq_Q), Q1 = aq_up Q 10 f x → aq_I D (aR_t cI) (aq_A 22 ad) (aR_w ad cI th (aq_ug V j Q1)) s H1 locs1 → W p l e R s m args below meth c H1 locs1 cells slots P9 (F0 m (pc + 3) ls rest)) : W p l e R s m args below meth c H locs cells slots P9 (F0 m pc ls (.int x :: .ref (ad (6 + j)) :: rest)) := by
  subst hf
  exact aq_put (N := 22) (k0 := 6 + j) (ty0 := tyX3) (ev' := aR_e ad cI th (aq_ug V j (aq_up Q 10 (aR_sk k) x))) hJ S I (by omega) (by rw [aR_eS hj, aq_ug_s]) rfl hin tyX3_ok nmX3 k hk hl (aR_t3 k hk) (aR_tn k hk hn).1 (aR_tn k hk hn).2 (by simpa using hk) hdg (aR_setS hj k hk hn x) (fun c _ hne => aR_oth hj rfl hne) (fun H1 locs1 I1 => kk H1 locs1 _ rfl I1)
theorem aR_putSN {x : Int32} {host : String} (hJ : aq_J 22 ad) (S : CallFix p m c cc nL s args Ts own) (I : aq_I D (aR_t cI) (aq_A 22 ad) (aR_w ad cI th (aq_ug V j Q)) s H locs) (hj : j < 2) (k : Nat) (hk : k < 17) (hn : aR_isn k = true) (f : Nat) (hf : aR_sk k = f) (hin : ∀ w ∈ wsX30, w ∈ Ts) (hl : va_Nw (.fieldLinkNest own index RX3 (TX3 k).2.1 (TX3 k).2.2.1 host) s) (hdg : decode cc pc = .ok (.putfield index, 3))
    (kk : ∀ (H1 : Heap) (locs1 : List Loc) (Q1 : aq_Q), Q1 = aq_up Q 10 f x → aq_I D (aR_t cI) (aq_A 22 ad) (aR_w ad cI th (aq_ug V j Q1)) s H1 locs1 → W p l e R s m args below meth c H1 locs1 cells slots P9 (F0 m (pc + 3) ls rest)) : W p l e R s m args below meth c H locs cells slots P9 (F0 m pc ls (.int x :: .ref (ad (6 + j)) :: rest)) := by
  subst hf
  exact ar_putN (N := 22) (k0 := 6 + j) (ty0 := tyX3) (ev' := aR_e ad cI th (aq_ug V j (aq_up Q 10 (aR_sk k) x))) hJ S I (by omega) (by rw [aR_eS hj, aq_ug_s]) rfl hin tyX3_ok nmX3 k hk (va_Nw.use rfl hl) (aR_t3 k hk) (aR_tn k hk hn).1 (aR_tn k hk hn).2 (by simpa using hk) hdg (aR_setS hj k hk hn x) (fun c _ hne => aR_oth hj rfl hne) (fun H1 locs1 I1 => kk H1 locs1 _ rfl I1)
/-- arrays: the tables (t), the static rows (t), a state's rows (a) -/
theorem aR_tld {x h : Int32} {t k : Nat} (S : CallFix p m c cc nL s args Ts own) (I : aq_I D (aR_t cI) (aq_A 22 ad) (aR_w ad cI th V) s H locs) (ht : t < 2) (hx : h = nI k) (hk : k < 24) (hv : V 2 t k = x) (hdg : decode cc pc = .ok (.iaload, 1))
    (kk : W p l e R s m args below meth c H locs cells slots P9 (F0 m (pc + 1) ls (.int x :: rest))) : W p l e R s m args below meth c H locs cells slots P9 (F0 m pc ls (.int h :: .ref (ad (1 + t)) :: rest)) :=
  aq_ild (N := 22) (k0 := 1 + t) (t0 := 0) S I (by omega) (aR_eT ht) rfl hx hk (by omega) hv hdg kk
theorem aR_fld {x h : Int32} {t f k : Nat} (S : CallFix p m c cc nL s args Ts own) (I : aq_I D (aR_t cI) (aq_A 22 ad) (aR_w ad cI th V) s H locs) (ht : t < 3) (hf : aR_sf t = f) (hx : h = nI k) (hk : k < 20) (hv : V 3 f k = x) (hdg : decode cc pc = .ok (.iaload, 1))
    (kk : W p l e R s m args below meth c H locs cells slots P9 (F0 m (pc + 1) ls (.int x :: rest))) : W p l e R s m args below meth c H locs cells slots P9 (F0 m pc ls (.int h :: .ref (ad (3 + t)) :: rest)) :=
  aq_ild (N := 22) (k0 := 3 + t) (t0 := 0) S I (by omega) (aR_eF ht) rfl hx hk (by omega) (by rw [hf]; exact hv) hdg kk
theorem aR_ald {x h : Int32} {a f k : Nat} (S : CallFix p m c cc nL s args Ts own) (I : aq_I D (aR_t cI) (aq_A 22 ad) (aR_w ad cI th V) s H locs) (hj : j < 2) (ha : a < 7) (hf : aR_rf a = f) (hx : h = nI k) (hk : k < 20) (hv : V j f k = x) (hdg : decode cc pc = .ok (.iaload, 1))
    (kk : W p l e R s m args below meth c H locs cells slots P9 (F0 m (pc + 1) ls (.int x :: rest))) : W p l e R s m args below meth c H locs cells slots P9 (F0 m pc ls (.int h :: .ref (ad (8 + a + 7 * j)) :: rest)) :=
  aq_ild (N := 22) (k0 := 8 + a + 7 * j) (t0 := 0) S I (by omega) (aR_eA ha) rfl hx hk (by omega) (by rw [hf]; exact hv) hdg kk
theorem aR_tst {x h : Int32} {t k : Nat} {T : aq_Q} (hJ : aq_J 22 ad) (S : CallFix p m c cc nL s args Ts own) (I : aq_I D (aR_t cI) (aq_A 22 ad) (aR_w ad cI th (aq_ug V 2 T)) s H locs) (ht : t < 2) (hx : h = nI k) (hk : k < 24) (hdg : decode cc pc = .ok (.iastore, 1))
    (kk : ∀ (H1 : Heap) (locs1 : List Loc) (T1 : aq_Q), T1 = aq_up T t k x → aq_I D (aR_t cI) (aq_A 22 ad) (aR_w ad cI th (aq_ug V 2 T1)) s H1 locs1 → W p l e R s m args below meth c H1 locs1 cells slots P9 (F0 m (pc + 1) ls rest)) : W p l e R s m args below meth c H locs cells slots P9 (F0 m pc ls (.int x :: .int h :: .ref (ad (1 + t)) :: rest)) := by
  refine aq_ist (N := 22) (k0 := 1 + t) (t0 := 0) (f := T t) (ev' := aR_e ad cI th (aq_ug V 2 (aq_up T t k x))) hJ S I (by omega) (by rw [aR_eT ht, aq_ug_s]) rfl hx hk (by omega) hdg ?_ ?_ (fun H1 locs1 I1 => kk H1 locs1 _ rfl I1)
  · rw [aR_eT ht, aq_ug_s]
    congr 4
    funext z
    simp [aq_up]
  · intro c hc hne
    refine aR_same (fun h => ⟨rfl, ?_⟩) (fun _ _ => ?_) (fun a b => ?_) (fun a b k h4 => ?_) (fun a => ?_)
    · rw [aq_ug_n _ _ (by omega), aq_ug_n _ _ (by omega)]
    · rw [aq_ug_s, aq_ug_s]
      funext z
      rw [aq_up_f _ _ (by omega)]
    · rw [aq_ug_n _ _ (by omega), aq_ug_n _ _ (by omega)]
    · rw [aq_ug_n _ _ (by omega), aq_ug_n _ _ (by omega)]
    · rw [aq_ug_n _ _ (by omega), aq_ug_n _ _ (by omega)]
theorem aR_fst {x h : Int32} {t f k : Nat} (hJ : aq_J 22 ad) (S : CallFix p m c cc nL s args Ts own) (I : aq_I D (aR_t cI) (aq_A 22 ad) (aR_w ad cI th (aq_ug V 3 S3)) s H locs) (ht : t < 3) (hf : aR_sf t = f) (hx : h = nI k) (hk : k < 20) (hdg : decode cc pc = .ok (.iastore, 1))
    (kk : ∀ (H1 : Heap) (locs1 : List Loc) (S4 : aq_Q), S4 = aq_up S3 f k x → aq_I D (aR_t cI) (aq_A 22 ad) (aR_w ad cI th (aq_ug V 3 S4)) s H1 locs1 → W p l e R s m args below meth c H1 locs1 cells slots P9 (F0 m (pc + 1) ls rest)) : W p l e R s m args below meth c H locs cells slots P9 (F0 m pc ls (.int x :: .int h :: .ref (ad (3 + t)) :: rest)) := by
  subst hf
  refine aq_ist (N := 22) (k0 := 3 + t) (t0 := 0) (f := S3 (aR_sf t)) (ev' := aR_e ad cI th (aq_ug V 3 (aq_up S3 (aR_sf t) k x))) hJ S I (by omega) (by rw [aR_eF ht, aq_ug_s]) rfl hx hk (by omega) hdg ?_ ?_ (fun H1 locs1 I1 => kk H1 locs1 _ rfl I1)
  · rw [aR_eF ht, aq_ug_s]
    congr 4
    funext z
    simp [aq_up]
  · intro c hc hne
    refine aR_same (fun h => ⟨rfl, ?_⟩) (fun _ _ => ?_) (fun a b => ?_) (fun a b k h4 => ?_) (fun a => ?_)
    · rw [aq_ug_s, aq_ug_s]
      exact aq_up_f _ _ (by unfold aR_sf; split <;> omega)
    · rw [aq_ug_n _ _ (by omega), aq_ug_n _ _ (by omega)]
    · rw [aq_ug_s, aq_ug_s]
      funext z
      exact aq_up_f _ _ (by
        unfold aR_sf
        split <;> split <;> omega)
    · rw [aq_ug_n _ _ (by omega), aq_ug_n _ _ (by omega)]
    · rw [aq_ug_n _ _ (by omega), aq_ug_n _ _ (by omega)]
theorem aR_ast {x h : Int32} {a f k : Nat} (hJ : aq_J 22 ad) (S : CallFix p m c cc nL s args Ts own) (I : aq_I D (aR_t cI) (aq_A 22 ad) (aR_w ad cI th (aq_ug V j Q)) s H locs) (hj : j < 2) (ha : a < 7) (hf : aR_rf a = f) (hx : h = nI k) (hk : k < 20) (hdg : decode cc pc = .ok (.iastore, 1))
    (kk : ∀ (H1 : Heap) (locs1 : List Loc) (Q1 : aq_Q), Q1 = aq_up Q f k x → aq_I D (aR_t cI) (aq_A 22 ad) (aR_w ad cI th (aq_ug V j Q1)) s H1 locs1 → W p l e R s m args below meth c H1 locs1 cells slots P9 (F0 m (pc + 1) ls rest)) : W p l e R s m args below meth c H locs cells slots P9 (F0 m pc ls (.int x :: .int h :: .ref (ad (8 + a + 7 * j)) :: rest)) := by
  subst hf
  refine aq_ist (N := 22) (k0 := 8 + a + 7 * j) (t0 := 0) (f := Q (aR_rf a)) (ev' := aR_e ad cI th (aq_ug V j (aq_up Q (aR_rf a) k x))) hJ S I (by omega) (by rw [aR_eA ha, aq_ug_s]) rfl hx hk (by omega) hdg ?_ ?_ (fun H1 locs1 I1 => kk H1 locs1 _ rfl I1)
  · rw [aR_eA ha, aq_ug_s]
    congr 4
    funext z
    simp [aq_up]
  · intro c hc hne
    refine aR_same (fun h => ⟨rfl, ?_⟩) (fun _ _ => ?_) (fun a b => ?_) (fun a1 b1 k h4 => ?_) (fun a1 => ?_)
    · rw [aq_ug_n _ _ (by omega), aq_ug_n _ _ (by omega)]
    · rw [aq_ug_n _ _ (by omega), aq_ug_n _ _ (by omega)]
    · rw [aq_ug_n _ _ (by omega), aq_ug_n _ _ (by omega)]
    · by_cases h : c - 6 = j
      · rw [h, aq_ug_s, aq_ug_s]
        exact aq_up_f _ _ (by unfold aR_rf; split <;> omega)
      · rw [aq_ug_n _ _ h, aq_ug_n _ _ h]
    · by_cases h : (c - 8) / 7 = j
      · rw [h, aq_ug_s, aq_ug_s]
        funext z
        exact aq_up_f _ _ (by unfold aR_rf; split <;> split <;> omega)
      · rw [aq_ug_n _ _ h, aq_ug_n _ _ h]
end ARR
