/-! the class's world: 47 cells: the object, its two tables, two aqueducts, their rows, 2 * 20 arches. V j f i: the aqueduct j's arch i, field f; V j 10 k: its own field k; V 2: the tables -/
def aC_e (ad : Nat → Nat) (cI cQ : ClassId) (V : aq_V) (c : Nat) : va_E :=
  if c = 0 then .inr (2, [.ref (ad 1), .ref (ad 2), .ref (ad 3), .ref (ad 4)])
  else if c < 3 then .inl (cI, 24, .inl (V 2 (c - 1)))
  else if c < 5 then .inr (0, .ref (ad 1) :: .ref (ad 2) :: .ref (ad (c + 2)) :: (List.range 10).map (fun k => Value.int (V (c - 3) 10 (3 + k))))
  else if c < 7 then .inl (cQ, 20, .inr (.inr (.inr (.inr (fun i => some (ad (7 + 20 * (c - 5) + i)))))))
  else .inr (1, (List.range 10).map (fun k => Value.int (V ((c - 7) / 20) k ((c - 7) % 20))))
abbrev aC_w (ad : Nat → Nat) (cI cQ : ClassId) (V : aq_V) : va_W := aq_w 47 ad (aC_e ad cI cQ V)
abbrev aC_t (cI cQ : ClassId) : List (ClassId × FieldType) := [(cI, .int), (cQ, .object RX1)]
section ACE
variable {ad : Nat → Nat} {cI cQ : ClassId} {V V' : aq_V}
theorem aC_e0 : aC_e ad cI cQ V 0 = .inr (2, [.ref (ad 1), .ref (ad 2), .ref (ad 3), .ref (ad 4)]) := rfl
theorem aC_eT {t : Nat} (ht : t < 2) : aC_e ad cI cQ V (1 + t) = .inl (cI, 24, .inl (V 2 t)) := by
  unfold aC_e
  rw [if_neg (by omega), if_pos (by omega), show 1 + t - 1 = t by omega]
theorem aC_eS {j : Nat} (hj : j < 2) : aC_e ad cI cQ V (3 + j) = .inr (0, .ref (ad 1) :: .ref (ad 2) :: .ref (ad (5 + j)) :: (List.range 10).map (fun k => Value.int (V j 10 (3 + k)))) := by
  unfold aC_e
  rw [if_neg (by omega), if_neg (by omega), if_pos (by omega), show 3 + j - 3 = j by omega, show 3 + j + 2 = 5 + j by omega]
theorem aC_eR {j : Nat} (hj : j < 2) : aC_e ad cI cQ V (5 + j) = .inl (cQ, 20, .inr (.inr (.inr (.inr (fun i => some (ad (7 + 20 * j + i))))))) := by
  unfold aC_e
  rw [if_neg (by omega), if_neg (by omega), if_neg (by omega), if_pos (by omega), show 5 + j - 5 = j by omega]
theorem aC_eA {j i : Nat} (hi : i < 20) : aC_e ad cI cQ V (7 + 20 * j + i) = .inr (1, (List.range 10).map (fun k => Value.int (V j k i))) := by
  unfold aC_e
  rw [if_neg (by omega), if_neg (by omega), if_neg (by omega), if_neg (by omega), show (7 + 20 * j + i - 7) / 20 = j by omega, show (7 + 20 * j + i - 7) % 20 = i by omega]
theorem aC_cong {c : Nat} (h1 : 1 ≤ c → c < 3 → V' 2 (c - 1) = V 2 (c - 1)) (h2 : 3 ≤ c → c < 5 → ∀ k, V' (c - 3) 10 k = V (c - 3) 10 k) (h3 : 7 ≤ c → ∀ k, k < 10 → V' ((c - 7) / 20) k ((c - 7) % 20) = V ((c - 7) / 20) k ((c - 7) % 20)) : aC_e ad cI cQ V' c = aC_e ad cI cQ V c := by
  unfold aC_e
  by_cases c0 : c = 0
  · rw [if_pos c0, if_pos c0]
  · rw [if_neg c0, if_neg c0]
    by_cases c1 : c < 3
    · rw [if_pos c1, if_pos c1, h1 (by omega) c1]
    · rw [if_neg c1, if_neg c1]
      by_cases c2 : c < 5
      · rw [if_pos c2, if_pos c2]
        simp only [h2 (by omega) c2]
      · rw [if_neg c2, if_neg c2]
        by_cases c3 : c < 7
        · rw [if_pos c3, if_pos c3]
        · rw [if_neg c3, if_neg c3]
          rw [List.map_congr_left (fun k hk => by rw [h3 (by omega) k (List.mem_range.mp hk)])]
theorem aq_rset {n k : Nat} {f : Nat → Value} {v : Value} : ((List.range n).map f).set k v = (List.range n).map (fun q => if q = k then v else f q) := by
  apply List.ext_getElem?
  intro q
  by_cases h : q = k
  · subst h
    by_cases hq : q < n
    · rw [List.getElem?_set_self (by simpa using hq)]
      simp [hq]
    · rw [List.getElem?_eq_none (by simp; omega), List.getElem?_eq_none (by simp; omega)]
  · rw [List.getElem?_set_ne (Ne.symm h)]
    by_cases hq : q < n
    · simp [hq, h]
    · rw [List.getElem?_eq_none (by simp; omega), List.getElem?_eq_none (by simp; omega)]
end ACE
theorem aC_t1 : ∀ k, k < 10 → (TX1 k).1 = RX1 ∧ (TX1 k).2.2.2 = false ∧ parseFieldDescriptor (TX1 k).2.2.1 = some .int := by decide +kernel
theorem aC_t0 : ∀ k, k < 13 → (TX0 k).1 = RX0 ∧ (3 ≤ k → (TX0 k).2.2.2 = false ∧ parseFieldDescriptor (TX0 k).2.2.1 = some .int) := by decide +kernel
theorem aC_t2 : ∀ k, k < 4 → (TX2 k).1 = RX2 := by decide +kernel
section AC
variable {p : Program} {l : Launch} {e : Env} {R : Room} {s : State} {m : MethodId} {args : Array Value} {below : List Frame} {meth : Method} {c : Code} {H : Heap} {locs : List Loc} {cells slots : Nat} {P9 : State → Prop}
variable {cc bytes : ByteArray} {maxL nL index pc : Nat} {ad : Nat → Nat} {ls : Array Slot} {rest : List Value} {Ts : List Cond} {own : String} {D : va_G} {cI cQ : ClassId} {V : aq_V} {Q : aq_Q} {j i : Nat}
theorem aC_getX (S : CallFix p m c cc nL s args Ts own) (I : aq_I D (aC_t cI cQ) (aq_A 47 ad) (aC_w ad cI cQ V) s H locs) (k : Nat) (hk : k < 4) (hin : ∀ w ∈ wsX20, w ∈ Ts) (hl : Cond.fieldLink own index RX2 (TX2 k).2.1 (TX2 k).2.2.1 ∈ Ts) (hdg : decode cc pc = .ok (.getfield index, 3))
    (kk : W p l e R s m args below meth c H locs cells slots P9 (F0 m (pc + 3) ls (.ref (ad (k + 1)) :: rest))) : W p l e R s m args below meth c H locs cells slots P9 (F0 m pc ls (.ref (ad 0) :: rest)) :=
  aq_get (N := 47) (k0 := 0) S I (by omega) aC_e0 rfl hin k hk hl (aC_t2 k hk) (by match k, hk with | 0, _ => rfl | 1, _ => rfl | 2, _ => rfl | 3, _ => rfl) hdg kk
theorem aC_getT (S : CallFix p m c cc nL s args Ts own) (I : aq_I D (aC_t cI cQ) (aq_A 47 ad) (aC_w ad cI cQ V) s H locs) (hj : j < 2) (k : Nat) (hk : k < 2) (hin : ∀ w ∈ wsX00, w ∈ Ts) (hl : Cond.fieldLink own index RX0 (TX0 k).2.1 (TX0 k).2.2.1 ∈ Ts) (hdg : decode cc pc = .ok (.getfield index, 3))
    (kk : W p l e R s m args below meth c H locs cells slots P9 (F0 m (pc + 3) ls (.ref (ad (1 + k)) :: rest))) : W p l e R s m args below meth c H locs cells slots P9 (F0 m pc ls (.ref (ad (3 + j)) :: rest)) :=
  aq_get (N := 47) (k0 := 3 + j) S I (by omega) (aC_eS hj) rfl hin k (by omega) hl (aC_t0 k (by omega)).1 (by match k, hk with | 0, _ => rfl | 1, _ => rfl) hdg kk
theorem aC_getR (S : CallFix p m c cc nL s args Ts own) (I : aq_I D (aC_t cI cQ) (aq_A 47 ad) (aC_w ad cI cQ V) s H locs) (hj : j < 2) (hin : ∀ w ∈ wsX00, w ∈ Ts) (hl : Cond.fieldLink own index RX0 (TX0 2).2.1 (TX0 2).2.2.1 ∈ Ts) (hdg : decode cc pc = .ok (.getfield index, 3))
    (kk : W p l e R s m args below meth c H locs cells slots P9 (F0 m (pc + 3) ls (.ref (ad (5 + j)) :: rest))) : W p l e R s m args below meth c H locs cells slots P9 (F0 m pc ls (.ref (ad (3 + j)) :: rest)) :=
  aq_get (N := 47) (k0 := 3 + j) S I (by omega) (aC_eS hj) rfl hin 2 (by omega) hl (aC_t0 2 (by omega)).1 rfl hdg kk
theorem aC_getS {x : Int32} (S : CallFix p m c cc nL s args Ts own) (I : aq_I D (aC_t cI cQ) (aq_A 47 ad) (aC_w ad cI cQ V) s H locs) (hj : j < 2) (k : Nat) (h3 : 3 ≤ k) (hk : k < 13) (hin : ∀ w ∈ wsX00, w ∈ Ts) (hl : Cond.fieldLink own index RX0 (TX0 k).2.1 (TX0 k).2.2.1 ∈ Ts) (hv : V j 10 k = x) (hdg : decode cc pc = .ok (.getfield index, 3))
    (kk : W p l e R s m args below meth c H locs cells slots P9 (F0 m (pc + 3) ls (.int x :: rest))) : W p l e R s m args below meth c H locs cells slots P9 (F0 m pc ls (.ref (ad (3 + j)) :: rest)) :=
  aq_get (N := 47) (k0 := 3 + j) S I (by omega) (aC_eS hj) rfl hin k hk hl (aC_t0 k hk).1 (by
    obtain ⟨q, rfl⟩ : ∃ q, k = q + 3 := ⟨k - 3, by omega⟩
    rw [List.getElem?_cons_succ, List.getElem?_cons_succ, List.getElem?_cons_succ, List.getElem?_map, List.getElem?_range (by omega), ← hv, Nat.add_comm q 3]
    rfl) hdg kk
theorem aC_putS {x : Int32} (hJ : aq_J 47 ad) (S : CallFix p m c cc nL s args Ts own) (I : aq_I D (aC_t cI cQ) (aq_A 47 ad) (aC_w ad cI cQ (aq_ug V j Q)) s H locs) (hj : j < 2) (k : Nat) (h3 : 3 ≤ k) (hk : k < 13) (hin : ∀ w ∈ wsX00, w ∈ Ts) (hl : Cond.fieldLink own index RX0 (TX0 k).2.1 (TX0 k).2.2.1 ∈ Ts) (hdg : decode cc pc = .ok (.putfield index, 3))
    (kk : ∀ (H1 : Heap) (locs1 : List Loc) (Q1 : aq_Q), Q1 = aq_up Q 10 k x → aq_I D (aC_t cI cQ) (aq_A 47 ad) (aC_w ad cI cQ (aq_ug V j Q1)) s H1 locs1 → W p l e R s m args below meth c H1 locs1 cells slots P9 (F0 m (pc + 3) ls rest)) : W p l e R s m args below meth c H locs cells slots P9 (F0 m pc ls (.int x :: .ref (ad (3 + j)) :: rest)) := by
  refine aq_put (N := 47) (k0 := 3 + j) (ty0 := tyX0) (ev' := aC_e ad cI cQ (aq_ug V j (aq_up Q 10 k x))) hJ S I (by omega) (aC_eS hj) rfl hin tyX0_ok nmX0 k hk hl (aC_t0 k hk).1 ((aC_t0 k hk).2 h3).1 ((aC_t0 k hk).2 h3).2 (by simp; omega) hdg ?_ ?_ (fun H1 locs1 I1 => kk H1 locs1 _ rfl I1)
  · rw [aC_eS hj, aq_ug_s, aq_ug_s]
    obtain ⟨q, rfl⟩ : ∃ q, k = q + 3 := ⟨k - 3, by omega⟩
    rw [List.set_cons_succ, List.set_cons_succ, List.set_cons_succ, aq_rset]
    congr 6
    funext z
    by_cases hz : z = q
    · subst hz
      rw [if_pos rfl, Nat.add_comm, aq_up_s]
    · rw [if_neg hz, aq_up_i _ _ (by omega)]
  · intro c hc hne
    refine aC_cong (fun _ _ => ?_) (fun a b z => ?_) (fun a z hz => ?_)
    · rw [aq_ug_n _ _ (by omega), aq_ug_n _ _ (by omega)]
    · rw [aq_ug_n _ _ (by omega), aq_ug_n _ _ (by omega)]
    · by_cases h : (c - 7) / 20 = j
      · rw [h, aq_ug_s, aq_ug_s, aq_up_f _ _ (by omega)]
      · rw [aq_ug_n _ _ h, aq_ug_n _ _ h]
theorem aC_getA {x : Int32} (S : CallFix p m c cc nL s args Ts own) (I : aq_I D (aC_t cI cQ) (aq_A 47 ad) (aC_w ad cI cQ V) s H locs) (hj : j < 2) (hi : i < 20) (k : Nat) (hk : k < 10) (hin : ∀ w ∈ wsX10, w ∈ Ts) (hl : Cond.fieldLink own index RX1 (TX1 k).2.1 (TX1 k).2.2.1 ∈ Ts) (hv : V j k i = x) (hdg : decode cc pc = .ok (.getfield index, 3))
    (kk : W p l e R s m args below meth c H locs cells slots P9 (F0 m (pc + 3) ls (.int x :: rest))) : W p l e R s m args below meth c H locs cells slots P9 (F0 m pc ls (.ref (ad (7 + 20 * j + i)) :: rest)) :=
  aq_get (N := 47) (k0 := 7 + 20 * j + i) S I (by omega) (aC_eA hi) rfl hin k hk hl (aC_t1 k hk).1 (by
    rw [List.getElem?_map, List.getElem?_range hk, ← hv]
    rfl) hdg kk
theorem aC_putA {x : Int32} (hJ : aq_J 47 ad) (S : CallFix p m c cc nL s args Ts own) (I : aq_I D (aC_t cI cQ) (aq_A 47 ad) (aC_w ad cI cQ (aq_ug V j Q)) s H locs) (hj : j < 2) (hi : i < 20) (k : Nat) (hk : k < 10) (hin : ∀ w ∈ wsX10, w ∈ Ts) (hl : Cond.fieldLink own index RX1 (TX1 k).2.1 (TX1 k).2.2.1 ∈ Ts) (hdg : decode cc pc = .ok (.putfield index, 3))
    (kk : ∀ (H1 : Heap) (locs1 : List Loc) (Q1 : aq_Q), Q1 = aq_up Q k i x → aq_I D (aC_t cI cQ) (aq_A 47 ad) (aC_w ad cI cQ (aq_ug V j Q1)) s H1 locs1 → W p l e R s m args below meth c H1 locs1 cells slots P9 (F0 m (pc + 3) ls rest)) : W p l e R s m args below meth c H locs cells slots P9 (F0 m pc ls (.int x :: .ref (ad (7 + 20 * j + i)) :: rest)) := by
  refine aq_put (N := 47) (k0 := 7 + 20 * j + i) (ty0 := tyX1) (ev' := aC_e ad cI cQ (aq_ug V j (aq_up Q k i x))) hJ S I (by omega) (aC_eA hi) rfl hin tyX1_ok nmX1 k hk hl (aC_t1 k hk).1 (aC_t1 k hk).2.1 (aC_t1 k hk).2.2 (by simp; omega) hdg ?_ ?_ (fun H1 locs1 I1 => kk H1 locs1 _ rfl I1)
  · rw [aC_eA hi, aq_ug_s, aq_ug_s, aq_rset]
    congr 3
    funext z
    by_cases hz : z = k
    · subst hz
      rw [if_pos rfl, aq_up_s]
    · rw [if_neg hz, aq_up_f _ _ hz]
  · intro c hc hne
    refine aC_cong (fun _ _ => ?_) (fun a b z => ?_) (fun a z hz => ?_)
    · rw [aq_ug_n _ _ (by omega), aq_ug_n _ _ (by omega)]
    · by_cases h : c - 3 = j
      · rw [h, aq_ug_s, aq_ug_s, aq_up_f _ _ (by omega)]
      · rw [aq_ug_n _ _ h, aq_ug_n _ _ h]
    · by_cases h : (c - 7) / 20 = j
      · rw [h, aq_ug_s, aq_ug_s, aq_up_i _ _ (by omega)]
      · rw [aq_ug_n _ _ h, aq_ug_n _ _ h]
theorem aC_row {x : Int32} (S : CallFix p m c cc nL s args Ts own) (I : aq_I D (aC_t cI cQ) (aq_A 47 ad) (aC_w ad cI cQ V) s H locs) (hj : j < 2) (hx : x = nI i) (hi : i < 20) (hdg : decode cc pc = .ok (.aaload, 1))
    (kk : W p l e R s m args below meth c H locs cells slots P9 (F0 m (pc + 1) ls (.ref (ad (7 + 20 * j + i)) :: rest))) : W p l e R s m args below meth c H locs cells slots P9 (F0 m pc ls (.int x :: .ref (ad (5 + j)) :: rest)) := by
  subst hx
  refine va_aldq (D := D) S.1 S.2.1 I.1 I.2.1 (5 + j) 1 (cA := cQ) (C := RX1) (n := 20) (f := fun i => some (ad (7 + 20 * j + i))) (by rw [aq_w_at (by omega), aC_eR hj]) rfl (vp_in_nI hi (by omega)) hdg ?_
  rw [nI_clamp (by omega)]
  exact kk
theorem aC_tld {x h : Int32} {t k : Nat} (S : CallFix p m c cc nL s args Ts own) (I : aq_I D (aC_t cI cQ) (aq_A 47 ad) (aC_w ad cI cQ V) s H locs) (ht : t < 2) (hx : h = nI k) (hk : k < 24) (hv : V 2 t k = x) (hdg : decode cc pc = .ok (.iaload, 1))
    (kk : W p l e R s m args below meth c H locs cells slots P9 (F0 m (pc + 1) ls (.int x :: rest))) : W p l e R s m args below meth c H locs cells slots P9 (F0 m pc ls (.int h :: .ref (ad (1 + t)) :: rest)) :=
  aq_ild (N := 47) (k0 := 1 + t) (t0 := 0) S I (by omega) (aC_eT ht) rfl hx hk (by omega) hv hdg kk
theorem aC_tst {x h : Int32} {t k : Nat} {T : aq_Q} (hJ : aq_J 47 ad) (S : CallFix p m c cc nL s args Ts own) (I : aq_I D (aC_t cI cQ) (aq_A 47 ad) (aC_w ad cI cQ (aq_ug V 2 T)) s H locs) (ht : t < 2) (hx : h = nI k) (hk : k < 24) (hdg : decode cc pc = .ok (.iastore, 1))
    (kk : ∀ (H1 : Heap) (locs1 : List Loc) (T1 : aq_Q), T1 = aq_up T t k x → aq_I D (aC_t cI cQ) (aq_A 47 ad) (aC_w ad cI cQ (aq_ug V 2 T1)) s H1 locs1 → W p l e R s m args below meth c H1 locs1 cells slots P9 (F0 m (pc + 1) ls rest)) : W p l e R s m args below meth c H locs cells slots P9 (F0 m pc ls (.int x :: .int h :: .ref (ad (1 + t)) :: rest)) := by
  refine aq_ist (N := 47) (k0 := 1 + t) (t0 := 0) (f := T t) (ev' := aC_e ad cI cQ (aq_ug V 2 (aq_up T t k x))) hJ S I (by omega) (by rw [aC_eT ht, aq_ug_s]) rfl hx hk (by omega) hdg ?_ ?_ (fun H1 locs1 I1 => kk H1 locs1 _ rfl I1)
  · rw [aC_eT ht, aq_ug_s]
    congr 4
    funext z
    simp [aq_up]
  · intro c hc hne
    refine aC_cong (fun _ _ => ?_) (fun a b z => ?_) (fun a z hz => ?_)
    · rw [aq_ug_s, aq_ug_s]
      funext z
      rw [aq_up_f _ _ (by omega)]
    · rw [aq_ug_n _ _ (by omega), aq_ug_n _ _ (by omega)]
    · rw [aq_ug_n _ _ (by omega), aq_ug_n _ _ (by omega)]
theorem aC_recvA (I : aq_I D (aC_t cI cQ) (aq_A 47 ad) (aC_w ad cI cQ V) s H locs) (hj : j < 2) (hi : i < 20) : ∃ cell : Cell, H[ad (7 + 20 * j + i)]? = some cell ∧ cell.vm.isStatics = false ∧ s.vm.findClass RX1 = some cell.cls :=
  aq_recv (T := 0) I (k := 7 + 20 * j + i) (by omega) (aC_eA hi) (cr := (RX1, TX1, 10)) rfl
theorem aC_recvS (I : aq_I D (aC_t cI cQ) (aq_A 47 ad) (aC_w ad cI cQ V) s H locs) (hj : j < 2) : ∃ cell : Cell, H[ad (3 + j)]? = some cell ∧ cell.vm.isStatics = false ∧ s.vm.findClass RX0 = some cell.cls :=
  aq_recv (T := 0) I (k := 3 + j) (by omega) (aC_eS hj) (cr := (RX0, TX0, 13)) rfl
theorem aC_recvX (I : aq_I D (aC_t cI cQ) (aq_A 47 ad) (aC_w ad cI cQ V) s H locs) : ∃ cell : Cell, H[ad 0]? = some cell ∧ cell.vm.isStatics = false ∧ s.vm.findClass RX2 = some cell.cls :=
  aq_recv (T := 0) I (k := 0) (by omega) aC_e0 (cr := (RX2, TX2, 4)) rfl
end AC
