/-! the class's world: 49 cells: the object (0), now's tables (1, 2), two aqueducts (3, 4), their rows (5, 6), 2 * 20 arches (7 to 46), trial's tables (47, 48). V j f i: the aqueduct j's arch i, field f; V j 10 k: its own field k; V (2 + j) t: its table t -/
def aC_e (ad : Nat → Nat) (cI cQ : ClassId) (V : aq_V) (c : Nat) : va_E :=
  if c = 0 then .inr (2, [.ref (ad 3), .ref (ad 4)])
  else if c < 3 then .inl (cI, 24, .inl (V 2 (c - 1)))
  else if c < 5 then .inr (0, .ref (ad (1 + 46 * (c - 3))) :: .ref (ad (2 + 46 * (c - 3))) :: .ref (ad (c + 2)) :: (List.range 10).map (fun k => Value.int (V (c - 3) 10 (3 + k))))
  else if c < 7 then .inl (cQ, 20, .inr (.inr (.inr (.inr (fun i => some (ad (7 + 20 * (c - 5) + i)))))))
  else if c < 47 then .inr (1, (List.range 10).map (fun k => Value.int (V ((c - 7) / 20) k ((c - 7) % 20))))
  else .inl (cI, 24, .inl (V 3 (c - 47)))
abbrev aC_w (ad : Nat → Nat) (cI cQ : ClassId) (V : aq_V) : va_W := aq_w 49 ad (aC_e ad cI cQ V)
abbrev aC_t (cI cQ : ClassId) : List (ClassId × FieldType) := [(cI, .int), (cQ, .object RX1)]
section ACE
variable {ad : Nat → Nat} {cI cQ : ClassId} {V V' : aq_V}
theorem aC_e0 : aC_e ad cI cQ V 0 = .inr (2, [.ref (ad 3), .ref (ad 4)]) := rfl
theorem aC_eT {t j : Nat} (ht : t < 2) (hj : j < 2) : aC_e ad cI cQ V (1 + t + 46 * j) = .inl (cI, 24, .inl (V (2 + j) t)) := by
  rcases (show j = 0 ∨ j = 1 by omega) with rfl | rfl
  · unfold aC_e
    rw [if_neg (by omega), if_pos (by omega), show 1 + t + 46 * 0 - 1 = t by omega]
  · unfold aC_e
    rw [if_neg (by omega), if_neg (by omega), if_neg (by omega), if_neg (by omega), if_neg (by omega), show 1 + t + 46 * 1 - 47 = t by omega]
theorem aC_eT0 {t : Nat} (ht : t < 2) : aC_e ad cI cQ V (1 + t) = .inl (cI, 24, .inl (V 2 t)) := by
  unfold aC_e
  rw [if_neg (by omega), if_pos (by omega), show 1 + t - 1 = t by omega]
theorem aC_eS {j : Nat} (hj : j < 2) : aC_e ad cI cQ V (3 + j) = .inr (0, .ref (ad (1 + 46 * j)) :: .ref (ad (2 + 46 * j)) :: .ref (ad (5 + j)) :: (List.range 10).map (fun k => Value.int (V j 10 (3 + k)))) := by
  unfold aC_e
  rw [if_neg (by omega), if_neg (by omega), if_pos (by omega), show 3 + j - 3 = j by omega, show 3 + j + 2 = 5 + j by omega]
theorem aC_eR {j : Nat} (hj : j < 2) : aC_e ad cI cQ V (5 + j) = .inl (cQ, 20, .inr (.inr (.inr (.inr (fun i => some (ad (7 + 20 * j + i))))))) := by
  unfold aC_e
  rw [if_neg (by omega), if_neg (by omega), if_neg (by omega), if_pos (by omega), show 5 + j - 5 = j by omega]
theorem aC_eA {j i : Nat} (hj : j < 2) (hi : i < 20) : aC_e ad cI cQ V (7 + 20 * j + i) = .inr (1, (List.range 10).map (fun k => Value.int (V j k i))) := by
  unfold aC_e
  rw [if_neg (by omega), if_neg (by omega), if_neg (by omega), if_neg (by omega), if_pos (by omega), show (7 + 20 * j + i - 7) / 20 = j by omega, show (7 + 20 * j + i - 7) % 20 = i by omega]
theorem aC_cong {c : Nat} (h1 : 1 ≤ c → c < 3 → V' 2 (c - 1) = V 2 (c - 1)) (h2 : 3 ≤ c → c < 5 → ∀ k, V' (c - 3) 10 k = V (c - 3) 10 k) (h3 : 7 ≤ c → c < 47 → ∀ k, k < 10 → V' ((c - 7) / 20) k ((c - 7) % 20) = V ((c - 7) / 20) k ((c - 7) % 20)) (h4 : 47 ≤ c → V' 3 (c - 47) = V 3 (c - 47)) : aC_e ad cI cQ V' c = aC_e ad cI cQ V c := by
  unfold aC_e
  by_cases c0 : c = 0
  · rw [if_pos c0, if_pos c0]
  · rw [if_neg c0, if_neg c0]
    by_cases c1 : c < 3
    · rw [if_pos c1, if_pos c1, h1 (by omega) c1]
    · rw [if_neg c1, if_neg c1]
      by_cases c2 : c < 5
      · rw [if_pos c2, if_pos c2]
        simp only [h2 (by omega) c2]
      · rw [if_neg c2, if_neg c2]
        by_cases c3 : c < 7
        · rw [if_pos c3, if_pos c3]
        · rw [if_neg c3, if_neg c3]
          by_cases c4 : c < 47
          · rw [if_pos c4, if_pos c4]
            rw [List.map_congr_left (fun k hk => by rw [h3 (by omega) c4 k (List.mem_range.mp hk)])]
          · rw [if_neg c4, if_neg c4, h4 (by omega)]
theorem aq_rset {n k : Nat} {f : Nat → Value} {v : Value} : ((List.range n).map f).set k v = (List.range n).map (fun q => if q = k then v else f q) := by
  apply List.ext_getElem?
  intro q
  by_cases h : q = k
  · subst h
    by_cases hq : q < n
    · rw [List.getElem?_set_self (by simpa using hq)]
      simp [hq]
    · rw [List.getElem?_eq_none (by simp; omega), List.getElem?_eq_none (by simp; omega)]
  · rw [List.getElem?_set_ne (Ne.symm h)]
    by_cases hq : q < n
    · simp [hq, h]
    · rw [List.getElem?_eq_none (by simp; omega), List.getElem?_eq_none (by simp; omega)]
end ACE
theorem aC_t1 : ∀ k, k < 10 → (TX1 k).1 = RX1 ∧ (TX1 k).2.2.2 = false ∧ parseFieldDescriptor (TX1 k).2.2.1 = some .int := by decide +kernel
theorem aC_t0 : ∀ k, k < 13 → (TX0 k).1 = RX0 ∧ (3 ≤ k → (TX0 k).2.2.2 = false ∧ parseFieldDescriptor (TX0 k).2.2.1 = some .int) := by decide +kernel
theorem aC_t2 : ∀ k, k < 2 → (TX2 k).1 = RX2 := by decide +kernel
/-! trial's tables become now's -/
def aq_tc (V : aq_V) : aq_V := aq_ug V 3 (V 2)
theorem aq_tc_2 (V : aq_V) : aq_tc V 2 = V 2 := aq_ug_n _ _ (by decide)
theorem aq_tc_0 (V : aq_V) : aq_tc V 0 = V 0 := aq_ug_n _ _ (by decide)
theorem aq_tc_1 (V : aq_V) : aq_tc V 1 = V 1 := aq_ug_n _ _ (by decide)
theorem aq_tc_3 (V : aq_V) : aq_tc V 3 = V 2 := aq_ug_s _ _ _
theorem aq_tc_tc (V : aq_V) : aq_tc (aq_tc V) = aq_tc V := by
  unfold aq_tc
  rw [aq_ug_n _ _ (show (2 : Nat) ≠ 3 by decide), aq_ug_ug]
theorem aq_tc_T (V : aq_V) (Q : aq_Q) : aq_ug (aq_tc V) 0 Q (2 + 1) = V 2 := (aq_ug_n _ _ (by decide)).trans (aq_tc_3 V)
/-- behind one table's copy -/
def aq_c1 (V : aq_V) (t : Nat) : aq_V := aq_ug V 3 (fun f k => if f = t ∧ k < 24 then V 2 f k else V 3 f k)
theorem aC_same {D : va_G} {ad : Nat → Nat} {cI cQ : ClassId} {V V' : aq_V} {H : Heap} (h : ∀ j, j < 3 → V' j = V j) (h3 : ∀ t, t < 2 → ∀ k, k < 24 → V' 3 t k = V 3 t k) (hP : va_P D vwCl (aC_w ad cI cQ V) H) : va_P D vwCl (aC_w ad cI cQ V') H := by
  intro k q hk
  obtain ⟨hl, rfl⟩ := aq_w_in hk
  have hP := hP k _ (aq_w_at hl)
  by_cases h47 : k < 47
  · rw [aC_cong (V := V) (V' := V') (fun _ _ => by rw [h 2 (by decide)]) (fun a b z => by rw [h _ (by omega)]) (fun a b z _ => by rw [h _ (by omega)]) (fun b => absurd h47 (by omega))]
    exact hP
  · obtain ⟨t, ht, rfl⟩ : ∃ t, t < 2 ∧ k = 1 + t + 46 * 1 := ⟨k - 47, by omega, by omega⟩
    rw [aC_eT ht (by decide)] at hP ⊢
    have hP : H[ad (1 + t + 46 * 1)]? = some (vp_cell cI (24, .inl (V 3 t))) := hP
    have e9 : vp_cell cI (24, .inl (V 3 t)) = vp_cell cI (24, .inl (V' 3 t)) := by
      rw [vp_cell_i, vp_cell_i]
      have e8 : (fun j : Fin 24 => Value.int (V 3 t j.val)) = (fun j : Fin 24 => Value.int (V' 3 t j.val)) := funext fun j => by rw [h3 t ht j.val j.isLt]
      unfold arrV
      rw [e8]
    rw [e9] at hP
    exact hP
theorem aC_c12 {D : va_G} {ad : Nat → Nat} {cI cQ : ClassId} {V : aq_V} {H : Heap} (hP : va_P D vwCl (aC_w ad cI cQ (aq_c1 (aq_c1 V 0) 1)) H) : va_P D vwCl (aC_w ad cI cQ (aq_tc V)) H := by
  refine aC_same (fun j hj => ?_) (fun t ht k hk => ?_) hP
  · unfold aq_tc aq_c1
    rw [aq_ug_n _ _ (by omega), aq_ug_n _ _ (by omega), aq_ug_n _ _ (by omega)]
  · unfold aq_tc aq_c1
    rw [aq_ug_s, aq_ug_s, aq_ug_s, aq_ug_n _ _ (show (2 : Nat) ≠ 3 by decide)]
    rcases (show t = 0 ∨ t = 1 by omega) with rfl | rfl
    · rw [if_neg (by omega), if_pos ⟨rfl, hk⟩]
    · rw [if_pos ⟨rfl, hk⟩]
theorem aq_tc_sw (V : aq_V) (Q Q1 : aq_Q) : aq_tc (aq_ug (aq_ug V 0 Q) 1 Q1) = aq_ug (aq_ug (aq_tc V) 0 Q) 1 Q1 := by
  unfold aq_tc
  rw [aq_ug_n _ _ (show (2 : Nat) ≠ 1 by decide), aq_ug_n _ _ (show (2 : Nat) ≠ 0 by decide), aq_ug_sw _ (show (1 : Nat) ≠ 3 by decide), aq_ug_sw _ (show (0 : Nat) ≠ 3 by decide)]
section AC
variable {p : Program} {l : Launch} {e : Env} {R : Room} {s : State} {m : MethodId} {args : Array Value} {below : List Frame} {meth : Method} {c : Code} {H : Heap} {locs : List Loc} {cells slots : Nat} {P9 : State → Prop}
variable {cc bytes : ByteArray} {maxL nL index pc : Nat} {ad : Nat → Nat} {ls : Array Slot} {rest : List Value} {Ts : List Cond} {own : String} {D : va_G} {cI cQ : ClassId} {V : aq_V} {Q : aq_Q} {j i : Nat}
theorem aC_getX (S : CallFix p m c cc nL s args Ts own) (I : aq_I D (aC_t cI cQ) (aq_A 49 ad) (aC_w ad cI cQ V) s H locs) (k : Nat) (hk : k < 2) (hin : ∀ w ∈ wsX20, w ∈ Ts) (hl : Cond.fieldLink own index RX2 (TX2 k).2.1 (TX2 k).2.2.1 ∈ Ts) (hdg : decode cc pc = .ok (.getfield index, 3))
    (kk : W p l e R s m args below meth c H locs cells slots P9 (F0 m (pc + 3) ls (.ref (ad (3 + k)) :: rest))) : W p l e R s m args below meth c H locs cells slots P9 (F0 m pc ls (.ref (ad 0) :: rest)) :=
  aq_get (N := 49) (k0 := 0) S I (by omega) aC_e0 rfl hin k hk hl (aC_t2 k hk) (by match k, hk with | 0, _ => rfl | 1, _ => rfl) hdg kk
theorem aC_getT (S : CallFix p m c cc nL s args Ts own) (I : aq_I D (aC_t cI cQ) (aq_A 49 ad) (aC_w ad cI cQ V) s H locs) (hj : j < 2) (k : Nat) (hk : k < 2) (hin : ∀ w ∈ wsX00, w ∈ Ts) (hl : Cond.fieldLink own index RX0 (TX0 k).2.1 (TX0 k).2.2.1 ∈ Ts) (hdg : decode cc pc = .ok (.getfield index, 3))
    (kk : W p l e R s m args below meth c H locs cells slots P9 (F0 m (pc + 3) ls (.ref (ad (1 + k + 46 * j)) :: rest))) : W p l e R s m args below meth c H locs cells slots P9 (F0 m pc ls (.ref (ad (3 + j)) :: rest)) :=
  aq_get (N := 49) (k0 := 3 + j) S I (by omega) (aC_eS hj) rfl hin k (by omega) hl (aC_t0 k (by omega)).1 (by match k, hk with | 0, _ => rfl | 1, _ => rfl) hdg kk
theorem aC_getR (S : CallFix p m c cc nL s args Ts own) (I : aq_I D (aC_t cI cQ) (aq_A 49 ad) (aC_w ad cI cQ V) s H locs) (hj : j < 2) (hin : ∀ w ∈ wsX00, w ∈ Ts) (hl : Cond.fieldLink own index RX0 (TX0 2).2.1 (TX0 2).2.2.1 ∈ Ts) (hdg : decode cc pc = .ok (.getfield index, 3))
    (kk : W p l e R s m args below meth c H locs cells slots P9 (F0 m (pc + 3) ls (.ref (ad (5 + j)) :: rest))) : W p l e R s m args below meth c H locs cells slots P9 (F0 m pc ls (.ref (ad (3 + j)) :: rest)) :=
  aq_get (N := 49) (k0 := 3 + j) S I (by omega) (aC_eS hj) rfl hin 2 (by omega) hl (aC_t0 2 (by omega)).1 rfl hdg kk
theorem aC_getS {x : Int32} (S : CallFix p m c cc nL s args Ts own) (I : aq_I D (aC_t cI cQ) (aq_A 49 ad) (aC_w ad cI cQ V) s H locs) (hj : j < 2) (k : Nat) (h3 : 3 ≤ k) (hk : k < 13) (hin : ∀ w ∈ wsX00, w ∈ Ts) (hl : Cond.fieldLink own index RX0 (TX0 k).2.1 (TX0 k).2.2.1 ∈ Ts) (hv : V j 10 k = x) (hdg : decode cc pc = .ok (.getfield index, 3))
    (kk : W p l e R s m args below meth c H locs cells slots P9 (F0 m (pc + 3) ls (.int x :: rest))) : W p l e R s m args below meth c H locs cells slots P9 (F0 m pc ls (.ref (ad (3 + j)) :: rest)) :=
  aq_get (N := 49) (k0 := 3 + j) S I (by omega) (aC_eS hj) rfl hin k hk hl (aC_t0 k hk).1 (by
    obtain ⟨q, rfl⟩ : ∃ q, k = q + 3 := ⟨k - 3, by omega⟩
    rw [List.getElem?_cons_succ, List.getElem?_cons_succ, List.getElem?_cons_succ, List.getElem?_map, List.getElem?_range (by omega), ← hv, Nat.add_comm q 3]
    rfl) hdg kk
theorem aC_putS {x : Int32} (hJ : aq_J 49 ad) (S : CallFix p m c cc nL s args Ts own) (I : aq_I D (aC_t cI cQ) (aq_A 49 ad) (aC_w ad cI cQ (aq_ug V j Q)) s H locs) (hj : j < 2) (k : Nat) (h3 : 3 ≤ k) (hk : k < 13) (hin : ∀ w ∈ wsX00, w ∈ Ts) (hl : Cond.fieldLink own index RX0 (TX0 k).2.1 (TX0 k).2.2.1 ∈ Ts) (hdg : decode cc pc = .ok (.putfield index, 3))
    (kk : ∀ (H1 : Heap) (locs1 : List Loc) (Q1 : aq_Q), Q1 = aq_up Q 10 k x → aq_I D (aC_t cI cQ) (aq_A 49 ad) (aC_w ad cI cQ (aq_ug V j Q1)) s H1 locs1 → W p l e R s m args below meth c H1 locs1 cells slots P9 (F0 m (pc + 3) ls rest)) : W p l e R s m args below meth c H locs cells slots P9 (F0 m pc ls (.int x :: .ref (ad (3 + j)) :: rest)) := by
  refine aq_put (N := 49) (k0 := 3 + j) (ty0 := tyX0) (ev' := aC_e ad cI cQ (aq_ug V j (aq_up Q 10 k x))) hJ S I (by omega) (aC_eS hj) rfl hin tyX0_ok nmX0 k hk hl (aC_t0 k hk).1 ((aC_t0 k hk).2 h3).1 ((aC_t0 k hk).2 h3).2 (by simp; omega) hdg ?_ ?_ (fun H1 locs1 I1 => kk H1 locs1 _ rfl I1)
  · rw [aC_eS hj, aq_ug_s, aq_ug_s]
    obtain ⟨q, rfl⟩ : ∃ q, k = q + 3 := ⟨k - 3, by omega⟩
    rw [List.set_cons_succ, List.set_cons_succ, List.set_cons_succ, aq_rset]
    congr 6
    funext z
    by_cases hz : z = q
    · subst hz
      rw [if_pos rfl, Nat.add_comm, aq_up_s]
    · rw [if_neg hz, aq_up_i _ _ (by omega)]
  · intro c hc hne
    refine aC_cong (fun _ _ => ?_) (fun a b z => ?_) (fun a a9 z hz => ?_) (fun _ => ?_)
    · rw [aq_ug_n _ _ (by omega), aq_ug_n _ _ (by omega)]
    · rw [aq_ug_n _ _ (by omega), aq_ug_n _ _ (by omega)]
    · by_cases h : (c - 7) / 20 = j
      · rw [h, aq_ug_s, aq_ug_s, aq_up_f _ _ (by omega)]
      · rw [aq_ug_n _ _ h, aq_ug_n _ _ h]
    · rw [aq_ug_n _ _ (by omega), aq_ug_n _ _ (by omega)]
theorem aC_getA {x : Int32} (S : CallFix p m c cc nL s args Ts own) (I : aq_I D (aC_t cI cQ) (aq_A 49 ad) (aC_w ad cI cQ V) s H locs) (hj : j < 2) (hi : i < 20) (k : Nat) (hk : k < 10) (hin : ∀ w ∈ wsX10, w ∈ Ts) (hl : Cond.fieldLink own index RX1 (TX1 k).2.1 (TX1 k).2.2.1 ∈ Ts) (hv : V j k i = x) (hdg : decode cc pc = .ok (.getfield index, 3))
    (kk : W p l e R s m args below meth c H locs cells slots P9 (F0 m (pc + 3) ls (.int x :: rest))) : W p l e R s m args below meth c H locs cells slots P9 (F0 m pc ls (.ref (ad (7 + 20 * j + i)) :: rest)) :=
  aq_get (N := 49) (k0 := 7 + 20 * j + i) S I (by omega) (aC_eA hj hi) rfl hin k hk hl (aC_t1 k hk).1 (by
    rw [List.getElem?_map, List.getElem?_range hk, ← hv]
    rfl) hdg kk
theorem aC_putA {x : Int32} (hJ : aq_J 49 ad) (S : CallFix p m c cc nL s args Ts own) (I : aq_I D (aC_t cI cQ) (aq_A 49 ad) (aC_w ad cI cQ (aq_ug V j Q)) s H locs) (hj : j < 2) (hi : i < 20) (k : Nat) (hk : k < 10) (hin : ∀ w ∈ wsX10, w ∈ Ts) (hl : Cond.fieldLink own index RX1 (TX1 k).2.1 (TX1 k).2.2.1 ∈ Ts) (hdg : decode cc pc = .ok (.putfield index, 3))
    (kk : ∀ (H1 : Heap) (locs1 : List Loc) (Q1 : aq_Q), Q1 = aq_up Q k i x → aq_I D (aC_t cI cQ) (aq_A 49 ad) (aC_w ad cI cQ (aq_ug V j Q1)) s H1 locs1 → W p l e R s m args below meth c H1 locs1 cells slots P9 (F0 m (pc + 3) ls rest)) : W p l e R s m args below meth c H locs cells slots P9 (F0 m pc ls (.int x :: .ref (ad (7 + 20 * j + i)) :: rest)) := by
  refine aq_put (N := 49) (k0 := 7 + 20 * j + i) (ty0 := tyX1) (ev' := aC_e ad cI cQ (aq_ug V j (aq_up Q k i x))) hJ S I (by omega) (aC_eA hj hi) rfl hin tyX1_ok nmX1 k hk hl (aC_t1 k hk).1 (aC_t1 k hk).2.1 (aC_t1 k hk).2.2 (by simp; omega) hdg ?_ ?_ (fun H1 locs1 I1 => kk H1 locs1 _ rfl I1)
  · rw [aC_eA hj hi, aq_ug_s, aq_ug_s, aq_rset]
    congr 3
    funext z
    by_cases hz : z = k
    · subst hz
      rw [if_pos rfl, aq_up_s]
    · rw [if_neg hz, aq_up_f _ _ hz]
  · intro c hc hne
    refine aC_cong (fun _ _ => ?_) (fun a b z => ?_) (fun a a9 z hz => ?_) (fun _ => ?_)
    · rw [aq_ug_n _ _ (by omega), aq_ug_n _ _ (by omega)]
    · by_cases h : c - 3 = j
      · rw [h, aq_ug_s, aq_ug_s, aq_up_f _ _ (by omega)]
      · rw [aq_ug_n _ _ h, aq_ug_n _ _ h]
    · by_cases h : (c - 7) / 20 = j
      · rw [h, aq_ug_s, aq_ug_s, aq_up_i _ _ (by omega)]
      · rw [aq_ug_n _ _ h, aq_ug_n _ _ h]
    · rw [aq_ug_n _ _ (by omega), aq_ug_n _ _ (by omega)]
theorem aC_row {x : Int32} (S : CallFix p m c cc nL s args Ts own) (I : aq_I D (aC_t cI cQ) (aq_A 49 ad) (aC_w ad cI cQ V) s H locs) (hj : j < 2) (hx : x = nI i) (hi : i < 20) (hdg : decode cc pc = .ok (.aaload, 1))
    (kk : W p l e R s m args below meth c H locs cells slots P9 (F0 m (pc + 1) ls (.ref (ad (7 + 20 * j + i)) :: rest))) : W p l e R s m args below meth c H locs cells slots P9 (F0 m pc ls (.int x :: .ref (ad (5 + j)) :: rest)) := by
  subst hx
  refine va_aldq (D := D) S.1 S.2.1 I.1 I.2.1 (5 + j) 1 (cA := cQ) (C := RX1) (n := 20) (f := fun i => some (ad (7 + 20 * j + i))) (by rw [aq_w_at (by omega), aC_eR hj]) rfl (vp_in_nI hi (by omega)) hdg ?_
  rw [nI_clamp (by omega)]
  exact kk
theorem aC_tld {x h : Int32} {t k : Nat} (S : CallFix p m c cc nL s args Ts own) (I : aq_I D (aC_t cI cQ) (aq_A 49 ad) (aC_w ad cI cQ V) s H locs) (ht : t < 2) (hj : j < 2) (hx : h = nI k) (hk : k < 24) (hv : V (2 + j) t k = x) (hdg : decode cc pc = .ok (.iaload, 1))
    (kk : W p l e R s m args below meth c H locs cells slots P9 (F0 m (pc + 1) ls (.int x :: rest))) : W p l e R s m args below meth c H locs cells slots P9 (F0 m pc ls (.int h :: .ref (ad (1 + t + 46 * j)) :: rest)) :=
  aq_ild (N := 49) (k0 := 1 + t + 46 * j) (t0 := 0) S I (by omega) (aC_eT ht hj) rfl hx hk (by omega) hv hdg kk
theorem aC_tl0 {x h : Int32} {t k : Nat} (S : CallFix p m c cc nL s args Ts own) (I : aq_I D (aC_t cI cQ) (aq_A 49 ad) (aC_w ad cI cQ V) s H locs) (ht : t < 2) (hx : h = nI k) (hk : k < 24) (hv : V 2 t k = x) (hdg : decode cc pc = .ok (.iaload, 1))
    (kk : W p l e R s m args below meth c H locs cells slots P9 (F0 m (pc + 1) ls (.int x :: rest))) : W p l e R s m args below meth c H locs cells slots P9 (F0 m pc ls (.int h :: .ref (ad (1 + t)) :: rest)) :=
  aq_ild (N := 49) (k0 := 1 + t) (t0 := 0) S I (by omega) (aC_eT0 ht) rfl hx hk (by omega) hv hdg kk
theorem aC_tst {x h : Int32} {t k : Nat} {T : aq_Q} (hJ : aq_J 49 ad) (S : CallFix p m c cc nL s args Ts own) (I : aq_I D (aC_t cI cQ) (aq_A 49 ad) (aC_w ad cI cQ (aq_ug V 2 T)) s H locs) (ht : t < 2) (hx : h = nI k) (hk : k < 24) (hdg : decode cc pc = .ok (.iastore, 1))
    (kk : ∀ (H1 : Heap) (locs1 : List Loc) (T1 : aq_Q), T1 = aq_up T t k x → aq_I D (aC_t cI cQ) (aq_A 49 ad) (aC_w ad cI cQ (aq_ug V 2 T1)) s H1 locs1 → W p l e R s m args below meth c H1 locs1 cells slots P9 (F0 m (pc + 1) ls rest)) : W p l e R s m args below meth c H locs cells slots P9 (F0 m pc ls (.int x :: .int h :: .ref (ad (1 + t)) :: rest)) := by
  refine aq_ist (N := 49) (k0 := 1 + t) (t0 := 0) (f := T t) (ev' := aC_e ad cI cQ (aq_ug V 2 (aq_up T t k x))) hJ S I (by omega) (by rw [aC_eT0 ht, aq_ug_s]) rfl hx hk (by omega) hdg ?_ ?_ (fun H1 locs1 I1 => kk H1 locs1 _ rfl I1)
  · rw [aC_eT0 ht, aq_ug_s]
    congr 4
    funext z
    simp [aq_up]
  · intro c hc hne
    refine aC_cong (fun _ _ => ?_) (fun a b z => ?_) (fun a a9 z hz => ?_) (fun _ => ?_)
    · rw [aq_ug_s, aq_ug_s]
      funext z
      rw [aq_up_f _ _ (by omega)]
    · rw [aq_ug_n _ _ (by omega), aq_ug_n _ _ (by omega)]
    · rw [aq_ug_n _ _ (by omega), aq_ug_n _ _ (by omega)]
    · rw [aq_ug_n _ _ (by omega), aq_ug_n _ _ (by omega)]
theorem aC_nfw : nativeFrameWords "java/lang/System" "arraycopy" 5 + 11 ≤ 64 := by decide +kernel
theorem aC_copy {t : Nat} (hJ : aq_J 49 ad) (S : CallFix p m c cc nL s args Ts own) (hsz : ls.size = nL) (I : aq_I D (aC_t cI cQ) (aq_A 49 ad) (aC_w ad cI cQ V) s H locs) (ht : t < 2) (h1 : Cond.methodLink own index arraycopyName ∈ Ts) (h2 : Cond.native arraycopyName ∈ Ts) (h3 : Cond.static arraycopyName ∈ Ts) (h4 : Cond.initialized "java/lang/System" ∈ Ts) (hf : 1 ≤ R.frames) (hlo : (rest.map fun v => v.category).sum + 64 ≤ R.locals) (hdg : decode cc pc = .ok (.invokestatic index, 3))
    (kk : ∀ (H1 : Heap) (locs1 : List Loc), aq_I D (aC_t cI cQ) (aq_A 49 ad) (aC_w ad cI cQ (aq_c1 V t)) s H1 locs1 → W p l e R s m args below meth c H1 locs1 cells slots P9 (F0 m (pc + 3) ls rest)) : W p l e R s m args below meth c H locs cells slots P9 (F0 m pc ls (.int 24 :: .int 0 :: .ref (ad (1 + t + 46 * 1)) :: .int 0 :: .ref (ad (1 + t + 46 * 0)) :: rest)) := by
  have hnf := aC_nfw
  refine va_copyi (D := D) S.1 S.2.1 (S.2.2.1.trans hsz.symm) S.2.2.2.1 (S.2.2.2.2 _ h1) (S.2.2.2.2 _ h2) (S.2.2.2.2 _ h3) (S.2.2.2.2 _ h4) I.1 I.2.1 (aq_D hJ s.heap.size _) I.2.2 (1 + t + 46 * 0) (1 + t + 46 * 1) 0 0 (c0 := cI) (c1 := cI) (n0 := 24) (n1 := 24) (f := V 2 t) (g := V 3 t) (ty := .int) (by rw [aq_w_at (by omega), aC_eT ht (by decide)]) (by rw [aq_w_at (by omega), aC_eT ht (by decide)]) rfl rfl rfl (by decide) (by decide) (by decide) (by decide) (by decide) (fun i _ => rfl) hf (by omega) hdg (fun H1 locs1 hP hD hS => ?_)
  have e1 : (0 : Int32).toNatClampNeg = 0 := rfl
  have e2 : (24 : Int32).toNatClampNeg = 24 := rfl
  rw [e1, e2, aq_w_set (e' := aC_e ad cI cQ (aq_c1 V t)) (by omega) ?h1 ?h2] at hP
  · exact kk H1 locs1 ⟨I.1, hP, hS⟩
  case h1 =>
    rw [aC_eT ht (by decide)]
    congr 4
    funext k
    simp [aq_c1, aq_ug, va_cpy]
  case h2 =>
    intro z hz hne
    refine aC_cong (fun _ _ => ?_) (fun a b z => ?_) (fun a a9 z hz => ?_) (fun _ => ?_)
    · exact congrFun (aq_ug_n _ _ (by decide)) _
    · exact congrFun (congrFun (aq_ug_n _ _ (by omega)) _) _
    · exact congrFun (congrFun (aq_ug_n _ _ (by omega)) _) _
    · unfold aq_c1
      rw [aq_ug_s]
      funext k
      rw [if_neg (by omega)]
theorem aC_Ic12 (I : aq_I D (aC_t cI cQ) (aq_A 49 ad) (aC_w ad cI cQ (aq_c1 (aq_c1 V 0) 1)) s H locs) : aq_I D (aC_t cI cQ) (aq_A 49 ad) (aC_w ad cI cQ (aq_tc V)) s H locs := ⟨I.1, aC_c12 I.2.1, I.2.2⟩
theorem aC_recvA (I : aq_I D (aC_t cI cQ) (aq_A 49 ad) (aC_w ad cI cQ V) s H locs) (hj : j < 2) (hi : i < 20) : ∃ cell : Cell, H[ad (7 + 20 * j + i)]? = some cell ∧ cell.vm.isStatics = false ∧ s.vm.findClass RX1 = some cell.cls :=
  aq_recv (T := 0) I (k := 7 + 20 * j + i) (by omega) (aC_eA hj hi) (cr := (RX1, TX1, 10)) rfl
theorem aC_recvS (I : aq_I D (aC_t cI cQ) (aq_A 49 ad) (aC_w ad cI cQ V) s H locs) (hj : j < 2) : ∃ cell : Cell, H[ad (3 + j)]? = some cell ∧ cell.vm.isStatics = false ∧ s.vm.findClass RX0 = some cell.cls :=
  aq_recv (T := 0) I (k := 3 + j) (by omega) (aC_eS hj) (cr := (RX0, TX0, 13)) rfl
theorem aC_recvX (I : aq_I D (aC_t cI cQ) (aq_A 49 ad) (aC_w ad cI cQ V) s H locs) : ∃ cell : Cell, H[ad 0]? = some cell ∧ cell.vm.isStatics = false ∧ s.vm.findClass RX2 = some cell.cls :=
  aq_recv (T := 0) I (k := 0) (by omega) aC_e0 (cr := (RX2, TX2, 2)) rfl
end AC
