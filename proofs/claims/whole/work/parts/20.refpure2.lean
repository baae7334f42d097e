/-! the twin: the copy of a state, its hours, and the model's own calls as pure functions -/
def aR_cp (Q Y : aq_Q) (f : Nat) : aq_Q := fun f' i => if f' = f then (if i < 20 then Q f i else Y f i) else Y f' i
theorem aR_st_cp {S Q Y : aq_Q} {f : Nat} (h0 : 0 ≠ f) (h1 : 1 ≠ f) (h6 : 6 ≠ f) (h : aR_st S Y) : aR_st S (aR_cp Q Y f) :=
  ⟨fun k => (h.1 k).trans (by simp [aR_cp, h0]), fun k => (h.2.1 k).trans (by simp [aR_cp, h1]), fun k => (h.2.2 k).trans (by simp [aR_cp, h6])⟩
theorem aR_cong2 {ad : Nat → Nat} {cI : ClassId} {V V' : aq_V} {th th' : Int32} {c : Nat} (h0 : c = 0 → th' = th ∧ V' 3 10 3 = V 3 10 3) (h1 : 1 ≤ c → c < 3 → V' 2 (c - 1) = V 2 (c - 1)) (h2 : 3 ≤ c → c < 6 → ∀ i, i < 20 → V' 3 (aR_sf (c - 3)) i = V 3 (aR_sf (c - 3)) i) (h3 : 6 ≤ c → c < 8 → ∀ k, 4 ≤ k → k ≤ 12 → V' (c - 6) 10 k = V (c - 6) 10 k) (h4 : 8 ≤ c → ∀ i, i < 20 → V' ((c - 8) / 7) (aR_rf ((c - 8) % 7)) i = V ((c - 8) / 7) (aR_rf ((c - 8) % 7)) i) {D : va_G} {a : Nat} {H : Heap} (hP : va_at D vwCl (a, aR_e ad cI th V c) H) : va_at D vwCl (a, aR_e ad cI th' V' c) H := by
  have hc : ∀ (f g : Nat → Int32), (∀ i, i < 20 → g i = f i) → va_at D vwCl (a, .inl (cI, 20, .inl f)) H → va_at D vwCl (a, .inl (cI, 20, .inl g)) H := by
    intro f g hfg h
    have e : vp_cell cI (20, .inl g) = vp_cell cI (20, .inl f) := aR_arr hfg
    show H[a]? = some (vp_cell cI (20, .inl g))
    rw [e]
    exact h
  unfold aR_e at hP ⊢
  by_cases c0 : c = 0
  · obtain ⟨e1, e2⟩ := h0 c0
    rw [if_pos c0] at hP ⊢
    rw [e1, e2]
    exact hP
  · rw [if_neg c0] at hP ⊢
    by_cases c1 : c < 3
    · rw [if_pos c1] at hP ⊢
      rw [h1 (by omega) c1]
      exact hP
    · rw [if_neg c1] at hP ⊢
      by_cases c2 : c < 6
      · rw [if_pos c2] at hP ⊢
        exact hc _ _ (h2 (by omega) c2) hP
      · rw [if_neg c2] at hP ⊢
        by_cases c3 : c < 8
        · rw [if_pos c3] at hP ⊢
          have z := h3 (by omega) c3
          rw [z 4 (by omega) (by omega), z 5 (by omega) (by omega), z 6 (by omega) (by omega), z 7 (by omega) (by omega), z 8 (by omega) (by omega), z 9 (by omega) (by omega), z 10 (by omega) (by omega), z 11 (by omega) (by omega), z 12 (by omega) (by omega)]
          exact hP
        · rw [if_neg c3] at hP ⊢
          exact hc _ _ (h4 (by omega)) hP
/-- two memories of the twin's that its world doesn't tell apart -/
def aR_eq (V V' : aq_V) : Prop := V' 3 10 3 = V 3 10 3 ∧ (∀ t, t < 2 → V' 2 t = V 2 t) ∧ (∀ t, t < 3 → ∀ i, i < 20 → V' 3 (aR_sf t) i = V 3 (aR_sf t) i) ∧ ∀ j, j < 2 → (∀ k, 4 ≤ k → k ≤ 12 → V' j 10 k = V j 10 k) ∧ ∀ a, a < 7 → ∀ i, i < 20 → V' j (aR_rf a) i = V j (aR_rf a) i
theorem aR_I_eq {s : State} {H : Heap} {locs : List Loc} {D : va_G} {ad : Nat → Nat} {cI : ClassId} {th : Int32} {V V' : aq_V} (I : aq_I D (aR_t cI) (aq_A 22 ad) (aR_w ad cI th V) s H locs) (h : aR_eq V V') : aq_I D (aR_t cI) (aq_A 22 ad) (aR_w ad cI th V') s H locs := by
  refine ⟨I.1, fun k q hk => ?_, I.2.2⟩
  obtain ⟨hl, rfl⟩ := aq_w_in hk
  have hP := I.2.1 k _ (aq_w_at hl)
  obtain ⟨e0, e1, e2, e3⟩ := h
  exact aR_cong2 (fun _ => ⟨rfl, e0⟩) (fun a b => e1 _ (by omega)) (fun a b => e2 _ (by omega)) (fun a b => (e3 _ (by omega)).1) (fun a => (e3 _ (by omega)).2 _ (by omega)) hP
def aR_hourQ (n : Nat) (T : aq_Q) (Q : aq_Q) : aq_Q := aR_hourD n T (aq_day Q) Q
theorem aR_hourQ_eq {n h : Nat} {T Q : aq_Q} (hh : Q 10 4 = nI h) (h31 : h < 2 ^ 31) : aR_hourQ n T Q = aR_hourD n T (h % 24) Q := by
  unfold aR_hourQ aq_day
  rw [hh, nI_clamp h31]
theorem aR_pour_h (n : Nat) (Q : aq_Q) (a : Nat) (w : Int32) : aq_pourQ n Q a w 10 4 = Q 10 4 := aq_pourQ_h n Q a w
theorem aR_sendQ_h (n : Nat) (Q : aq_Q) (i : Nat) : aR_sendQ n Q i 10 4 = Q 10 4 := (aq_up_f _ _ (by decide)).trans ((aR_pour_h _ _ _ _).trans (aq_up_f _ _ (by decide)))
theorem aR_grindQ_h (n : Nat) (Q : aq_Q) (i : Nat) : aR_grindQ n Q i 10 4 = Q 10 4 := (aq_up_i _ _ (by decide)).trans ((aR_pour_h _ _ _ _).trans ((aq_up_i _ _ (by decide)).trans ((aq_up_f _ _ (by decide)).trans (aq_up_i _ _ (by decide)))))
theorem aR_springQ_h (n : Nat) (Q : aq_Q) (w : Int32) : aR_springQ n Q w 10 4 = Q 10 4 := by
  unfold aR_springQ
  split
  · exact (aq_up_i _ _ (by decide)).trans (aq_up_i _ _ (by decide))
  · exact (aq_up_i _ _ (by decide)).trans ((aR_pour_h _ _ _ _).trans (aq_up_i _ _ (by decide)))
theorem aR_leakQ_h (Q : aq_Q) (i : Nat) : aR_leakQ Q i 10 4 = Q 10 4 := (aq_up_f _ _ (by decide)).trans ((aq_up_f _ _ (by decide)).trans ((aq_up_f _ _ (by decide)).trans (aq_up_f _ _ (by decide))))
theorem aR_wearQ_h (Q : aq_Q) (i : Nat) : aR_wearQ Q i 10 4 = Q 10 4 := by
  unfold aR_wearQ
  split
  · rfl
  · split
    · exact aq_up_f _ _ (by decide)
    · exact aq_up_f _ _ (by decide)
theorem aR_sendAll_h (n : Nat) : ∀ (i : Nat) (Q : aq_Q), aR_sendAll n i Q 10 4 = Q 10 4 | 0, _ => rfl | i + 1, Q => (aR_sendAll_h n i _).trans (aR_sendQ_h _ _ _)
theorem aR_grindAll_h (n : Nat) : ∀ (k i : Nat) (Q : aq_Q), aR_grindAll n k i Q 10 4 = Q 10 4 | 0, _, _ => rfl | k + 1, i, Q => (aR_grindAll_h n k _ _).trans (aR_grindQ_h _ _ _)
theorem aR_leakAll_h : ∀ (k i : Nat) (Q : aq_Q), aR_leakAll k i Q 10 4 = Q 10 4 | 0, _, _ => rfl | k + 1, i, Q => (aR_leakAll_h k _ _).trans (aR_leakQ_h _ _)
theorem aR_wearAll_h (d : Nat) : ∀ (k i : Nat) (Q : aq_Q), aR_wearAll d k i Q 10 4 = Q 10 4
  | 0, _, _ => rfl
  | k + 1, i, Q => by
    rw [aR_wearAll]
    split
    · exact (aR_wearAll_h d k _ _).trans (aR_wearQ_h _ _)
    · rfl
theorem aR_hourD_h (n : Nat) (T : aq_Q) (d : Nat) (Q : aq_Q) : aR_hourD n T d Q 10 4 = Q 10 4 + 1 := by
  have h6 : aR_hour6 n T d Q 10 4 = Q 10 4 := (aR_wearAll_h _ _ _ _).trans ((aR_leakAll_h _ _ _).trans ((aR_springQ_h _ _ _).trans ((aR_grindAll_h _ _ _ _).trans ((aR_sendAll_h _ _ _).trans (aq_drinkQ_h _ _)))))
  unfold aR_hourD
  rw [aq_up_s, h6]
theorem aR_st_hourQ {S Q : aq_Q} {n : Nat} {T : aq_Q} (h : aR_st S Q) : aR_st S (aR_hourQ n T Q) := aR_st_hour h
def aR_goQ (n : Nat) (T : aq_Q) : Nat → aq_Q → aq_Q | 0, Q => Q | k + 1, Q => aR_goQ n T k (aR_hourQ n T Q)
def aR_goR (n : Nat) (T : aq_Q) : Nat → aq_Q → Int32 → Int32 | 0, _, x => x | k + 1, Q, x => aR_goR n T k (aR_hourQ n T Q) (x + (aR_hourQ n T Q 10 12 - Q 10 12))
theorem aR_st_go {S : aq_Q} {n : Nat} {T : aq_Q} : ∀ (k : Nat) {Q : aq_Q}, aR_st S Q → aR_st S (aR_goQ n T k Q) | 0, _, h => h | k + 1, _, h => aR_st_go k (aR_st_hourQ h)
/-- the model's calls: what they throw (the twin's own numbers), what they answer -/
theorem aR_isIn_rg {v : Int32} {a b : Nat} (ha : a < 2 ^ 31) (hb : b < 2 ^ 31) (h : ¬ aR_isIn v (nI a) (nI b) = 0) : ∃ k : Nat, a ≤ k ∧ k ≤ b ∧ v = nI k := by
  unfold aR_isIn at h
  split at h
  · exact absurd rfl h
  · rename_i h0
    split at h
    · exact absurd rfl h
    · rename_i h1
      have h2 : nI a ≤ v := Int32.not_lt.mp h0
      have h3 : ¬ v < 0 := Int32.not_lt.mpr (Int32.le_trans (nI_pos' ha) h2)
      obtain ⟨j, hj, rfl⟩ := nI_of h3
      exact ⟨j, (nI_leI ha hj).mp h2, (nI_leI hj hb).mp (Int32.not_lt.mp h1), rfl⟩
theorem aR_isIn_ar {v : Int32} {n : Nat} (hn : n ≤ 20) (h : ¬ aR_isIn v 0 (nI n - 1) = 0) : ∃ k : Nat, k < n ∧ v = nI k := by
  match n, hn, h with
  | 0, _, h =>
    exfalso
    apply h
    unfold aR_isIn
    by_cases h0 : v < 0
    · rw [if_pos h0]
    · rw [if_neg h0, if_pos]
      exact Int32.lt_of_lt_of_le (show nI 0 - 1 < 0 by decide) (Int32.not_lt.mp h0)
  | m + 1, hn, h =>
    rw [nI_pred] at h
    obtain ⟨k, -, h2, h3⟩ := aR_isIn_rg (a := 0) (b := m) (by omega) (by omega) h
    exact ⟨k, by omega, h3⟩
def aR_mill1 (Q : aq_Q) (i : Nat) : Int32 := if Q 6 i ≤ 0 then 0 else 1
def aR_mills (n : Nat) (Q : aq_Q) : Int32 := aq_sum (aR_mill1 Q) n 0 0
def aR_archNo (n : Nat) (Q : aq_Q) (i w : Nat) : Int32 := match w with | 0 => Q 0 i | 1 => Q 1 i | 2 => Q 2 i | 3 => Q 3 i | 4 => Q 4 i | 5 => aq_slope n Q i | 6 => aq_rate n Q i | 7 => Q 5 i | _ => aR_mill1 Q i
def aR_countNo (n : Nat) (Q : aq_Q) (w : Nat) : Int32 := match w with | 0 => Q 10 4 | 1 => nI n | 2 => aR_mills n Q | 3 => Q 10 5 | 4 => Q 10 7 | 5 => aq_over n 2 Q | 6 => Q 10 8 | 7 => Q 10 9 | 8 => aq_over n 5 Q | 9 => Q 10 10 | 10 => Q 10 11 | _ => Q 10 12
def aR_millNo (Q : aq_Q) (i w : Nat) : Int32 := if Q 6 i = 0 then (-1) else (match w with | 0 => Q 6 i | 1 => Q 7 i | 2 => Q 8 i | _ => Q 9 i)
/-- a call that checks in order: the number thrown -/
def aR_two (a b : Int32) (x y : Int32) : Int32 := if a = 0 then x else if b = 0 then y else 0
def aR_buildT (n : Nat) (S : aq_Q) (h z : Int32) : Int32 := if aR_isIn h 0 (aq_top n S) = 0 then 1 else if aR_isIn z 1 40 = 0 then 1 else if n = 20 then 2 else 0
def aR_setT (h w : Int32) : Int32 := if aR_isIn h 0 23 = 0 then 1 else if aR_isIn w 0 40 = 0 then 2 else 0
def aR_archT (n : Nat) (a w : Int32) : Int32 := if aR_isIn a 0 (nI n - 1) = 0 then 1 else if aR_isIn w 0 8 = 0 then 1 else 0
def aR_addMT (n : Nat) (Q : aq_Q) (a x : Int32) : Int32 := if aR_isIn a 0 (nI n - 1) = 0 then 1 else if aR_isIn x 1 30 = 0 then 2 else if Q 6 a.toNatClampNeg ≤ 0 then 0 else 3
def aR_sluT (n : Nat) (Q : aq_Q) (a x : Int32) : Int32 := if aR_isIn a 0 (nI n - 1) = 0 then 1 else if aR_isIn x 0 10 = 0 then 2 else if Q 6 a.toNatClampNeg = 0 then 3 else 0
def aR_millT (n : Nat) (a w : Int32) : Int32 := if aR_isIn a 0 (nI n - 1) = 0 then 1 else if aR_isIn w 0 3 = 0 then 1 else 0
def aR_mendT (n : Nat) (Q : aq_Q) (a : Int32) : Int32 := if aR_isIn a 0 (nI n - 1) = 0 then 1 else if Q 10 5 = 0 then 2 else if Q 3 a.toNatClampNeg = 0 then 2 else 0
def aR_quakeT (n : Nat) (a x : Int32) : Int32 := if aR_isIn a 0 (nI n - 1) = 0 then 1 else if aR_isIn x 1 50 = 0 then 2 else 0
def aR_quakeQ (Q : aq_Q) (a : Nat) (x : Int32) : aq_Q := aq_up Q 3 a (aq_mn 50 (Q 3 a + x))
def aR_forT (h w : Int32) : Int32 := if aR_isIn h 1 100 = 0 then 1 else if aR_isIn w 0 3 = 0 then 2 else 0
def aR_forR (n : Nat) (T Q : aq_Q) (h w : Nat) : Int32 := if w = 0 then aR_goR n T h Q 0 else if w = 1 then aq_over n 5 (aR_goQ n T h Q) - aq_over n 5 Q else if w = 2 then aR_goQ n T h Q 10 7 else aq_over n 8 (aR_goQ n T h Q) - aq_over n 8 Q
def aR_advX (n : Nat) (T : aq_Q) (h : Nat) (Q : aq_Q) (i : Nat) : Int32 := aR_goR n T h (aq_up Q 7 i 0) 0
def aR_advR (n : Nat) (T : aq_Q) (h : Nat) (Q : aq_Q) : Nat → Nat → Int32 → Int32 → Int32
  | 0, _, b, _ => b
  | k + 1, i, b, x => if Q 7 i = 0 then aR_advR n T h Q k (i + 1) b x else if x ≤ aR_advX n T h Q i then aR_advR n T h Q k (i + 1) b x else aR_advR n T h Q k (i + 1) (nI i) (aR_advX n T h Q i)
def aR_advQ (n : Nat) (T : aq_Q) (h : Nat) (Q : aq_Q) : Nat → Nat → aq_Q → aq_Q
  | 0, _, Y => Y
  | k + 1, i, Y => if Q 7 i = 0 then aR_advQ n T h Q k (i + 1) Y else aR_advQ n T h Q k (i + 1) (aR_goQ n T h (aq_up Q 7 i 0))
def aR_thsR (n : Nat) (T : aq_Q) : Nat → Nat → aq_Q → Int32 | 0, _, _ => (-1) | k + 1, i, Q => if aR_hourQ n T Q 10 12 - Q 10 12 ≤ 0 then aR_thsR n T k (i + 1) (aR_hourQ n T Q) else nI i
def aR_thsQ (n : Nat) (T : aq_Q) : Nat → Nat → aq_Q → aq_Q | 0, _, Q => Q | k + 1, i, Q => if aR_hourQ n T Q 10 12 - Q 10 12 ≤ 0 then aR_thsQ n T k (i + 1) (aR_hourQ n T Q) else aR_hourQ n T Q
def aR_dgArch (n : Nat) (Q : aq_Q) (i : Nat) (d : Int64) : Int64 := aq_dgF (aR_millNo Q i) 4 0 (aq_dgF (aR_archNo n Q i) 9 0 d)
def aR_dgAll (n : Nat) (Q : aq_Q) : Nat → Nat → Int64 → Int64 | 0, _, d => d | k + 1, i, d => aR_dgAll n Q k (i + 1) (aR_dgArch n Q i d)
def aR_digest (n : Nat) (T Q : aq_Q) : Int64 := aR_dgAll n Q n 0 (aq_dgT T 24 0 (aq_dgF (aR_countNo n Q) 12 0 601))
/-! a temporary row of ints beside the world -/
section TMP
variable {p : Program} {l : Launch} {e : Env} {R : Room} {s : State} {m : MethodId} {args : Array Value} {below : List Frame} {meth : Method} {c : Code} {H H1 : Heap} {locs locs1 : List Loc} {cells slots : Nat} {P9 : State → Prop}
variable {cc bytes : ByteArray} {nL index pc N q z : Nat} {ad : Nat → Nat} {ls : Array Slot} {rest : List Value} {Ts : List Cond} {own : String} {D : va_G} {tys : List (ClassId × FieldType)} {w w' : va_W} {cT : ClassId} {f : Nat → Int32}
def ar_X (D : va_G) (N : Nat) (ad : Nat → Nat) (s : State) (H : Heap) (q z : Nat) (cT : ClassId) (f : Nat → Int32) : Prop := va_K D vwCl [(cT, .int)] s ∧ va_P D vwCl [(q, .inl (cT, z, .inl f))] H ∧ s.heap.size ≤ q ∧ ∀ c, c < N → q ≠ ad c
theorem ar_tmp_keep (X : ar_X D N ad s H q z cT f) (I : aq_I D tys (aq_A N ad) w s H locs) (I1 : aq_I D tys (aq_A N ad) w' s H1 locs1) (hk : ∀ q : Nat, q < H.size → ¬ aq_A N ad H.size q → H1[q]? = H[q]?) : ar_X D N ad s H1 q z cT f := by
  obtain ⟨a, b, c1, d⟩ := X
  have hl : q < H.size := (b 0 _ rfl).lt
  refine ⟨a, b.kept (fun k x hx => ?_), c1, d⟩
  have hz : k < 1 := (List.getElem?_eq_some_iff.mp hx).1
  rw [show k = 0 by omega] at hx
  cases hx
  refine hk q hl (fun h => ?_)
  rcases h with ⟨c2, h1, h2⟩ | h
  · exact d c2 h1 h2
  · omega
theorem ar_tmp_new {nn : Int32} (hJ : aq_J N ad) (S : CallFix p m c cc nL s args Ts own) (I : aq_I D tys (aq_A N ad) w s H locs) (hw : ∃ ev, w = aq_w N ad ev) (harr : Cond.arrayClass (newarray.typeOf .int) ∈ Ts) (hn : ¬ nn < 0) (hN : nn.toNatClampNeg = z) (hz : z * componentBytes .int ≤ 536870912) (hc : cells + 1 ≤ R.cells) (hs : slots + z ≤ R.slots) (hdg : decode cc pc = .ok (.newarray .int, 2))
    (kk : ∀ (q : Nat) (cT : ClassId) (H1 : Heap), aq_I D tys (aq_A N ad) w s H1 locs → ar_X D N ad s H1 q z cT (fun _ => 0) → W p l e R s m args below meth c H1 locs (cells + 1) (slots + z) P9 (F0 m (pc + 2) ls (.ref q :: rest))) : W p l e R s m args below meth c H locs cells slots P9 (F0 m pc ls (.int nn :: rest)) := by
  obtain ⟨ev, rfl⟩ := hw
  refine va_newa (atype := .int) S.1 S.2.1 (S.2.2.2.2 _ harr) (ty := .int) rfl I.1 I.2.1 (aq_D hJ s.heap.size ev) I.2.2 (fun q h => Or.inr h) (a0 := (z, .inl (fun _ => 0))) (fun cA => rfl) hn hN hz hc hs hdg (fun q cA H1 hK hP hD hS => ?_)
  have hq : (aq_w N ad ev ++ [(q, Sum.inl (cA, z, Sum.inl fun _ => 0))])[N]? = some (q, Sum.inl (cA, z, Sum.inl fun _ => 0)) := by
    rw [List.getElem?_append_right (by rw [aq_w_len]; exact Nat.le_refl N), aq_w_len, Nat.sub_self]
    rfl
  have hin : ∀ c, c < N → (aq_w N ad ev ++ [(q, Sum.inl (cA, z, Sum.inl fun _ => 0))])[c]? = some (ad c, ev c) := fun c h => by
    rw [List.getElem?_append_left (by rw [aq_w_len]; exact h), aq_w_at h]
  have hne : ∀ c, c < N → q ≠ ad c := fun c h he => by
    have := hD.1 N c _ _ hq (hin c h) he
    omega
  refine kk q cA H1 ⟨⟨hK.1, fun k x hx => hK.2 k x (by rw [List.getElem?_append_left (List.getElem?_eq_some_iff.mp hx).1]; exact hx)⟩, fun k x hx => ?_, hS⟩ ⟨⟨hK.1, fun k x hx => ?_⟩, fun k x hx => ?_, ?_, hne⟩
  · obtain ⟨hl, rfl⟩ := aq_w_in hx
    exact hP k _ (hin k hl)
  · have h1 : k < 1 := (List.getElem?_eq_some_iff.mp hx).1
    rw [show k = 0 by omega] at hx
    cases hx
    exact hK.2 tys.length _ (by rw [List.getElem?_append_right (Nat.le_refl _), Nat.sub_self]; rfl)
  · have h1 : k < 1 := (List.getElem?_eq_some_iff.mp hx).1
    rw [show k = 0 by omega] at hx
    cases hx
    exact hP N _ hq
  · rcases hD.2 N _ hq with ⟨c2, h1, h2⟩ | h
    · exact absurd h2 (hne c2 h1)
    · exact h
theorem ar_tmp_st {i x : Int32} {k : Nat} {ev : Nat → va_E} (hJ : aq_J N ad) (S : CallFix p m c cc nL s args Ts own) (I : aq_I D tys (aq_A N ad) (aq_w N ad ev) s H locs) (X : ar_X D N ad s H q z cT f) (hi : i = nI k) (hk : k < z) (hz : z < 2 ^ 31) (hdg : decode cc pc = .ok (.iastore, 1))
    (kk : ∀ (H1 : Heap) (locs1 : List Loc), aq_I D tys (aq_A N ad) (aq_w N ad ev) s H1 locs1 → ar_X D N ad s H1 q z cT (upd f k x) → W p l e R s m args below meth c H1 locs1 cells slots P9 (F0 m (pc + 1) ls rest)) : W p l e R s m args below meth c H locs cells slots P9 (F0 m pc ls (.int x :: .int i :: .ref q :: rest)) := by
  subst hi
  obtain ⟨a, b, c1, d⟩ := X
  have hD1 : va_D (aq_A N ad s.heap.size) [(q, Sum.inl (cT, z, Sum.inl f))] := by
    refine ⟨fun i j u v hu hv _ => ?_, fun k u hu => ?_⟩
    · have h1 := (List.getElem?_eq_some_iff.mp hu).1
      have h2 := (List.getElem?_eq_some_iff.mp hv).1
      simp at h1 h2
      omega
    · have h1 : k < 1 := (List.getElem?_eq_some_iff.mp hu).1
      rw [show k = 0 by omega] at hu
      cases hu
      exact Or.inr c1
  have hl : q < H.size := (b 0 _ rfl).lt
  refine W.iast S.1 S.2.1 (a := q) (b 0 _ rfl) ((a.2 0 _ rfl).1 z (fun j => .int (f j))) (fun h => by cases h) (by show ¬ (nI k < 0 ∨ (arrV _ _ _).slots.size ≤ _); rw [arrV_size]; exact vp_in_nI hk hz) rfl rfl hdg fun H1 e1 z1 oq => ?_
  have hcell : va_at D vwCl (q, Sum.inl (cT, z, Sum.inl (upd f k x))) H1 := by
    show H1[q]? = some (vp_cell _ _)
    rw [e1]
    rw [vp_cell_i, vp_cell_i, arrV_store, nI_clamp (by omega)]
    congr 2
    funext y
    by_cases hy : y = k
    · subst hy
      simp [updV, upd]
    · simp [updV, upd, hy]
  refine kk H1 _ ⟨I.1, I.2.1.kept (fun k2 u hu => ?_), I.2.2.put z1 oq (Or.inr c1)⟩ ⟨a, fun k2 u hu => ?_, c1, d⟩
  · obtain ⟨h1, rfl⟩ := aq_w_in hu
    exact oq _ (fun h => d k2 h1 h.symm)
  · have h1 : k2 < 1 := (List.getElem?_eq_some_iff.mp hu).1
    rw [show k2 = 0 by omega] at hu
    cases hu
    exact hcell
theorem ar_tmp_ld {i v : Int32} {k : Nat} (S : CallFix p m c cc nL s args Ts own) (X : ar_X D N ad s H q z cT f) (hi : i = nI k) (hk : k < z) (hz : z < 2 ^ 31) (hv : f k = v) (hdg : decode cc pc = .ok (.iaload, 1))
    (kk : W p l e R s m args below meth c H locs cells slots P9 (F0 m (pc + 1) ls (.int v :: rest))) : W p l e R s m args below meth c H locs cells slots P9 (F0 m pc ls (.int i :: .ref q :: rest)) := by
  subst hi
  refine va_iald (D := D) S.1 S.2.1 X.1 X.2.1 0 0 (cA := cT) (n := z) (f := f) rfl rfl (vp_in_nI hk hz) hdg ?_
  rw [nI_clamp (by omega), hv]
  exact kk
end TMP
