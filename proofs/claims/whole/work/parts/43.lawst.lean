/-! each call, told of both states -/
def ly_N (h : Nat) (VC VR : aq_V) : Prop := ∃ n' h' VR', h' ≤ h + 100 ∧ ly_R n' h' VC VR' ∧ aR_eq VR VR'
theorem aR_eq_rf (V : aq_V) : aR_eq V V := ⟨rfl, fun _ _ => rfl, fun _ _ _ _ => rfl, fun _ _ => ⟨fun _ _ _ => rfl, fun _ _ _ _ => rfl⟩⟩
theorem ly_eqR {H : Heap} {D : va_G} {ad : Nat → Nat} {cI : ClassId} {th : Int32} {V V' : aq_V} (hP : va_P D vwCl (aR_w ad cI th V) H) (h : aR_eq V V') : va_P D vwCl (aR_w ad cI th V') H := by
  intro k q hk
  obtain ⟨hl, rfl⟩ := aq_w_in hk
  have hP := hP k _ (aq_w_at hl)
  obtain ⟨e0, e1, e2, e3⟩ := h
  exact aR_cong2 (fun _ => ⟨rfl, e0⟩) (fun a b => e1 _ (by omega)) (fun a b => e2 _ (by omega)) (fun a b => (e3 _ (by omega)).1) (fun a => (e3 _ (by omega)).2 _ (by omega)) hP
theorem pu_k0 {a b c : Int32} {κ : Nat} (ha : a ≠ 0) (hb : b ≠ 0) (hc : c ≠ 0) (h : pu_k a b c κ = 0) : κ = 0 := by
  unfold pu_k at h
  by_cases h0 : κ = 0
  · exact h0
  · rw [if_neg h0] at h
    by_cases h1 : κ = 1
    · rw [if_pos h1] at h; exact absurd h ha
    · rw [if_neg h1] at h
      by_cases h2 : κ = 2
      · rw [if_pos h2] at h; exact absurd h hb
      · rw [if_neg h2] at h; exact absurd h hc
theorem pu_kn {a b c : Int32} {κ : Nat} (h : ¬ pu_k a b c κ = 0) : ¬ κ = 0 := fun z => h (by rw [z]; rfl)
/-- the state 0 of both is Q', behind a call that changed nothing else -/
theorem ly_R0 {n h h' : Nat} {VC VR : aq_V} {Q : aq_Q} (hR : ly_R n h VC VR) (hV : pu_V n h' (VC 2) Q) (hst : aR_st (VC 0) Q) : ly_R n h' (aq_ug VC 0 Q) (aq_ug VR 0 Q) := by
  obtain ⟨h1, h2, h3, h4, h5⟩ := hR
  refine ⟨?_, ?_, ?_, ?_, ?_⟩
  · rw [aq_ug_s, aq_ug_n _ _ (show (2 : Nat) ≠ 0 by decide)]; exact hV
  · rw [aq_ug_s, aq_ug_s]
  · rw [aq_ug_n _ _ (show (2 : Nat) ≠ 0 by decide), aq_ug_n _ _ (show (2 : Nat) ≠ 0 by decide)]; exact h3
  · rw [aq_ug_s, aq_ug_n _ _ (show (3 : Nat) ≠ 0 by decide)]
    exact ⟨fun i => (h4.1 i).trans (hst.1 i), fun i => (h4.2.1 i).trans (hst.2.1 i), fun i => (h4.2.2 i).trans (hst.2.2 i)⟩
  · rw [aq_ug_n _ _ (show (3 : Nat) ≠ 0 by decide)]; exact h5
/-- the object's trial and the twin's copy may be anything -/
theorem ly_R1 {n h : Nat} {VC VR : aq_V} {Q P : aq_Q} (hR : ly_R n h VC VR) : ly_R n h (aq_ug (aq_tc VC) 1 Q) (aq_ug VR 1 P) := by
  obtain ⟨h1, h2, h3, h4, h5⟩ := hR
  unfold ly_R
  rw [aq_ug_n (aq_tc VC) Q (show (2 : Nat) ≠ 1 by decide), aq_ug_n (aq_tc VC) Q (show (0 : Nat) ≠ 1 by decide), aq_tc_2, aq_tc_0]
  refine ⟨?_, ?_, ?_, ?_, ?_⟩
  · exact h1
  · rw [aq_ug_n _ _ (show (0 : Nat) ≠ 1 by decide)]; exact h2
  · rw [aq_ug_n _ _ (show (2 : Nat) ≠ 1 by decide)]; exact h3
  · rw [aq_ug_n _ _ (show (3 : Nat) ≠ 1 by decide)]; exact h4
  · rw [aq_ug_n _ _ (show (3 : Nat) ≠ 1 by decide)]; exact h5
theorem aq_tc_id (V : aq_V) : aq_ug (aq_tc V) 0 (V 0) = aq_tc V := by
  have h := aq_ug_id (aq_tc V) 0
  rw [aq_tc_0] at h
  exact h
theorem ly_Rn {n h : Nat} {VC VR : aq_V} (hR : ly_R n h VC VR) : ly_N h VC VR := ⟨n, h, VR, by omega, hR, aR_eq_rf _⟩
theorem ly_k_build {n h : Nat} {VC VR : aq_V} (hR : ly_R n h VC VR) (a b : Int32) : pu_k 1 9 2 (aq_buildK n (VC 0) a b) = aR_buildT n (VR 3) a b := pu_Kbuild hR.2.2.2.1 hR.1.1 a b
theorem ly_r_build {n h : Nat} {VC VR : aq_V} (hR : ly_R n h VC VR) (hh : h ≤ 100000) (a b : Int32) (hz : aR_buildT n (VR 3) a b = 0) : nI n = nI n := by
  exact rfl
theorem ly_s_build {n h : Nat} {VC VR : aq_V} (hR : ly_R n h VC VR) (hh : h ≤ 100000) (a b : Int32) : ly_N h (if aq_buildK n (VC 0) a b = 0 then aq_ug VC 0 (aq_addQ n (VC 0) a b) else VC) (aq_ug VR 3 (if aR_buildT n (VR 3) a b = 0 then aR_addQ n (VR 3) a b else VR 3)) := by
  have hk := ly_k_build hR a b
  by_cases hz : aR_buildT n (VR 3) a b = 0
  · have h0 : aq_buildK n (VC 0) a b = 0 := pu_k0 (by decide) (by decide) (by decide) (hk.trans hz)
    rw [if_pos h0, if_pos hz]
    have hV := pu_Vbuild hR.1 hR.2.2.2.1 hz
    refine ⟨n + 1, h, aq_ug (aq_ug VR 3 (aR_addQ n (VR 3) a b)) 0 (aq_addQ n (VC 0) a b), by omega, ⟨?_, ?_, ?_, ?_, ?_⟩, ?_, ?_, ?_, ?_⟩
    · rw [aq_ug_s, aq_ug_n _ _ (show (2 : Nat) ≠ 0 by decide)]; exact hV
    · rw [aq_ug_s, aq_ug_s]
    · rw [aq_ug_n _ _ (show (2 : Nat) ≠ 0 by decide), aq_ug_n _ _ (show (2 : Nat) ≠ 3 by decide), aq_ug_n _ _ (show (2 : Nat) ≠ 0 by decide)]; exact hR.2.2.1
    · rw [aq_ug_s, aq_ug_n _ _ (show (3 : Nat) ≠ 0 by decide), aq_ug_s]
      obtain ⟨s0, s1, s6⟩ := hR.2.2.2.1
      exact ⟨fun i => by simp [aR_addQ, aq_addQ, aq_up, s0], fun i => by simp [aR_addQ, aq_addQ, aq_up, s1], fun i => by simp [aR_addQ, aq_addQ, aq_up, s6]⟩
    · rw [aq_ug_n _ _ (show (3 : Nat) ≠ 0 by decide), aq_ug_s]
      exact aq_up_s _ _ _ _
    · rw [aq_ug_n _ _ (show (3 : Nat) ≠ 0 by decide)]
    · intro t ht
      rcases (show t = 0 ∨ t = 1 by omega) with rfl | rfl
      · rw [aq_ug_n _ _ (show (2 : Nat) ≠ 0 by decide)]
      · rw [aq_ug_n _ _ (show (2 : Nat) ≠ 0 by decide)]
    · intro t ht i hi
      rw [aq_ug_n _ _ (show (3 : Nat) ≠ 0 by decide)]
    · intro j hj
      have hq : ∀ f i, f ≠ 0 → f ≠ 1 → (f ≠ 10 ∨ i ≠ 3) → aq_addQ n (VC 0) a b f i = VR 0 f i := fun f i x0 x1 x3 => by
        unfold aq_addQ
        rw [pu_o x3, aq_up_f _ _ x1, aq_up_f _ _ x0, hR.2.1]
      by_cases z : j = 0
      · subst z
        rw [aq_ug_s, aq_ug_n _ _ (show (0 : Nat) ≠ 3 by decide)]
        refine ⟨fun k h4 h12 => hq 10 k (by decide) (by decide) (Or.inr (by omega)), fun a1 ha i hi => hq _ i ?_ ?_ (Or.inl ?_)⟩
        · unfold aR_rf; split <;> omega
        · unfold aR_rf; split <;> omega
        · unfold aR_rf; split <;> omega
      · rw [aq_ug_n _ _ z]
        exact ⟨fun _ _ _ => rfl, fun _ _ _ _ => rfl⟩
  · have h0 : ¬ aq_buildK n (VC 0) a b = 0 := pu_kn (fun z => hz (hk.symm.trans z))
    rw [if_neg h0, if_neg hz]
    rw [aq_ug_id]
    exact ly_Rn hR
theorem ly_k_setSpring {n h : Nat} {VC VR : aq_V} (hR : ly_R n h VC VR) (a b : Int32) : pu_k 2 1 9 (aq_setK a b) = aR_setT a b := pu_Kset a b
theorem ly_r_setSpring {n h : Nat} {VC VR : aq_V} (hR : ly_R n h VC VR) (hh : h ≤ 100000) (a b : Int32) (hz : aR_setT a b = 0) : VR 2 0 a.toNatClampNeg = VC 2 0 a.toNatClampNeg := by
  rw [hR.2.2.1]
theorem ly_s_setSpring {n h : Nat} {VC VR : aq_V} (hR : ly_R n h VC VR) (hh : h ≤ 100000) (a b : Int32) : ly_N h (if aq_setK a b = 0 then aq_ug VC 2 (aq_setT (VC 2) 0 a b) else VC) (aq_ug VR 2 (if aR_setT a b = 0 then aq_up (VR 2) 0 a.toNatClampNeg b else VR 2)) := by
  have hk := ly_k_setSpring hR a b
  by_cases hz : aR_setT a b = 0
  · have h0 : aq_setK a b = 0 := pu_k0 (by decide) (by decide) (by decide) (hk.trans hz)
    rw [if_pos h0, if_pos hz]
    have hV := pu_Vset (t := 0) hR.1 hz
    refine ⟨n, h, _, by omega, ⟨?_, ?_, ?_, ?_, ?_⟩, aR_eq_rf _⟩
    · rw [aq_ug_s, aq_ug_n _ _ (show (0 : Nat) ≠ 2 by decide)]; exact hV
    · rw [aq_ug_n _ _ (show (0 : Nat) ≠ 2 by decide), aq_ug_n _ _ (show (0 : Nat) ≠ 2 by decide)]; exact hR.2.1
    · rw [aq_ug_s, aq_ug_s, hR.2.2.1]; rfl
    · rw [aq_ug_n _ _ (show (3 : Nat) ≠ 2 by decide), aq_ug_n _ _ (show (0 : Nat) ≠ 2 by decide)]; exact hR.2.2.2.1
    · rw [aq_ug_n _ _ (show (3 : Nat) ≠ 2 by decide)]; exact hR.2.2.2.2
  · have h0 : ¬ aq_setK a b = 0 := pu_kn (fun z => hz (hk.symm.trans z))
    rw [if_neg h0, if_neg hz]
    rw [aq_ug_id]
    exact ly_Rn hR
theorem ly_k_setCity {n h : Nat} {VC VR : aq_V} (hR : ly_R n h VC VR) (a b : Int32) : pu_k 2 1 9 (aq_setK a b) = aR_setT a b := pu_Kset a b
theorem ly_r_setCity {n h : Nat} {VC VR : aq_V} (hR : ly_R n h VC VR) (hh : h ≤ 100000) (a b : Int32) (hz : aR_setT a b = 0) : VR 2 1 a.toNatClampNeg = VC 2 1 a.toNatClampNeg := by
  rw [hR.2.2.1]
theorem ly_s_setCity {n h : Nat} {VC VR : aq_V} (hR : ly_R n h VC VR) (hh : h ≤ 100000) (a b : Int32) : ly_N h (if aq_setK a b = 0 then aq_ug VC 2 (aq_setT (VC 2) 1 a b) else VC) (aq_ug VR 2 (if aR_setT a b = 0 then aq_up (VR 2) 1 a.toNatClampNeg b else VR 2)) := by
  have hk := ly_k_setCity hR a b
  by_cases hz : aR_setT a b = 0
  · have h0 : aq_setK a b = 0 := pu_k0 (by decide) (by decide) (by decide) (hk.trans hz)
    rw [if_pos h0, if_pos hz]
    have hV := pu_Vset (t := 1) hR.1 hz
    refine ⟨n, h, _, by omega, ⟨?_, ?_, ?_, ?_, ?_⟩, aR_eq_rf _⟩
    · rw [aq_ug_s, aq_ug_n _ _ (show (0 : Nat) ≠ 2 by decide)]; exact hV
    · rw [aq_ug_n _ _ (show (0 : Nat) ≠ 2 by decide), aq_ug_n _ _ (show (0 : Nat) ≠ 2 by decide)]; exact hR.2.1
    · rw [aq_ug_s, aq_ug_s, hR.2.2.1]; rfl
    · rw [aq_ug_n _ _ (show (3 : Nat) ≠ 2 by decide), aq_ug_n _ _ (show (0 : Nat) ≠ 2 by decide)]; exact hR.2.2.2.1
    · rw [aq_ug_n _ _ (show (3 : Nat) ≠ 2 by decide)]; exact hR.2.2.2.2
  · have h0 : ¬ aq_setK a b = 0 := pu_kn (fun z => hz (hk.symm.trans z))
    rw [if_neg h0, if_neg hz]
    rw [aq_ug_id]
    exact ly_Rn hR
theorem ly_k_setCistern {n h : Nat} {VC VR : aq_V} (hR : ly_R n h VC VR) (a : Int32) : pu_k 1 9 9 (aq_rgK a 0 500) = aR_cisT a := pu_Kcis a
theorem ly_r_setCistern {n h : Nat} {VC VR : aq_V} (hR : ly_R n h VC VR) (hh : h ≤ 100000) (a : Int32) (hz : aR_cisT a = 0) : aq_sizeR (VR 0) a = aq_sizeR (VC 0) a := by
  rw [hR.2.1]
theorem ly_s_setCistern {n h : Nat} {VC VR : aq_V} (hR : ly_R n h VC VR) (hh : h ≤ 100000) (a : Int32) : ly_N h (if aq_rgK a 0 500 = 0 then aq_ug VC 0 (aq_sizeQ (VC 0) a) else VC) (aq_ug VR 0 (if aR_cisT a = 0 then aR_cisQ (VR 0) a else VR 0)) := by
  have hk := ly_k_setCistern hR a
  by_cases hz : aR_cisT a = 0
  · have h0 : aq_rgK a 0 500 = 0 := pu_k0 (by decide) (by decide) (by decide) (hk.trans hz)
    rw [if_pos h0, if_pos hz]
    rw [hR.2.1, pu_cisE]
    exact ⟨n, h, _, by omega, ly_R0 hR (pu_Vcis hR.1 hz) (aR_st_up (by decide) (by decide) (by decide) (aR_st_up (by decide) (by decide) (by decide) (aR_st_up (by decide) (by decide) (by decide) (aR_st_rf _)))), aR_eq_rf _⟩
  · have h0 : ¬ aq_rgK a 0 500 = 0 := pu_kn (fun z => hz (hk.symm.trans z))
    rw [if_neg h0, if_neg hz]
    rw [aq_ug_id]
    exact ly_Rn hR
theorem ly_k_arch {n h : Nat} {VC VR : aq_V} (hR : ly_R n h VC VR) (a b : Int32) : pu_k 9 1 9 (aq_archK n a b) = aR_archT n a b := pu_Karch hR.1.1 a b
theorem ly_r_arch {n h : Nat} {VC VR : aq_V} (hR : ly_R n h VC VR) (hh : h ≤ 100000) (a b : Int32) (hz : aR_archT n a b = 0) : aR_archNo n (VR 0) a.toNatClampNeg b.toNatClampNeg = aq_archNo n (VC 0) a.toNatClampNeg b.toNatClampNeg := by
  rw [hR.2.1, pu_archNo]
theorem ly_s_arch {n h : Nat} {VC VR : aq_V} (hR : ly_R n h VC VR) (hh : h ≤ 100000) (a b : Int32) : ly_N h (if aq_archK n a b = 0 then VC else VC) (VR) := by
  have hk := ly_k_arch hR a b
  by_cases hz : aR_archT n a b = 0
  · have h0 : aq_archK n a b = 0 := pu_k0 (by decide) (by decide) (by decide) (hk.trans hz)
    rw [if_pos h0]
    exact ly_Rn hR
  · have h0 : ¬ aq_archK n a b = 0 := pu_kn (fun z => hz (hk.symm.trans z))
    rw [if_neg h0]
    exact ly_Rn hR
theorem ly_k_addMill {n h : Nat} {VC VR : aq_V} (hR : ly_R n h VC VR) (a b : Int32) : pu_k 2 1 3 (aq_addMK n (VC 0) a b) = aR_addMT n (VR 3) a b := pu_KaddM hR.2.2.2.1 hR.1.1 a b
theorem ly_r_addMill {n h : Nat} {VC VR : aq_V} (hR : ly_R n h VC VR) (hh : h ≤ 100000) (a b : Int32) (hz : aR_addMT n (VR 3) a b = 0) : aR_mills n (aq_up (VR 0) 6 a.toNatClampNeg b) = aq_mills n (aq_addMQ (VC 0) a b) := by
  rw [hR.2.1, pu_mills]
  rfl
theorem ly_s_addMill {n h : Nat} {VC VR : aq_V} (hR : ly_R n h VC VR) (hh : h ≤ 100000) (a b : Int32) : ly_N h (if aq_addMK n (VC 0) a b = 0 then aq_ug VC 0 (aq_addMQ (VC 0) a b) else VC) (aq_ug (aq_ug VR 3 (if aR_addMT n (VR 3) a b = 0 then aq_up (VR 3) 6 a.toNatClampNeg b else VR 3)) 0 (if aR_addMT n (VR 3) a b = 0 then aq_up (VR 0) 6 a.toNatClampNeg b else VR 0)) := by
  have hk := ly_k_addMill hR a b
  by_cases hz : aR_addMT n (VR 3) a b = 0
  · have h0 : aq_addMK n (VC 0) a b = 0 := pu_k0 (by decide) (by decide) (by decide) (hk.trans hz)
    rw [if_pos h0, if_pos hz, if_pos hz]
    have hV := pu_VaddM hR.1 hz
    refine ⟨n, h, _, by omega, ⟨?_, ?_, ?_, ?_, ?_⟩, aR_eq_rf _⟩
    · rw [aq_ug_s, aq_ug_n _ _ (show (2 : Nat) ≠ 0 by decide)]; exact hV
    · rw [aq_ug_s, aq_ug_s, hR.2.1]; rfl
    · rw [aq_ug_n _ _ (show (2 : Nat) ≠ 0 by decide), aq_ug_n _ _ (show (2 : Nat) ≠ 3 by decide), aq_ug_n _ _ (show (2 : Nat) ≠ 0 by decide)]; exact hR.2.2.1
    · rw [aq_ug_s, aq_ug_n _ _ (show (3 : Nat) ≠ 0 by decide), aq_ug_s]
      exact aR_st_up6 hR.2.2.2.1
    · rw [aq_ug_n _ _ (show (3 : Nat) ≠ 0 by decide), aq_ug_s, aq_up_f _ _ (by decide)]; exact hR.2.2.2.2
  · have h0 : ¬ aq_addMK n (VC 0) a b = 0 := pu_kn (fun z => hz (hk.symm.trans z))
    rw [if_neg h0, if_neg hz, if_neg hz]
    rw [aq_ug_id]
    rw [aq_ug_id]
    exact ly_Rn hR
theorem ly_k_setSluice {n h : Nat} {VC VR : aq_V} (hR : ly_R n h VC VR) (a b : Int32) : pu_k 2 1 3 (aq_sluK n (VC 0) a b) = aR_sluT n (VR 0) a b := (by rw [hR.2.1]; exact pu_Kslu hR.1.2.2.2.1 hR.1.1 a b)
theorem ly_r_setSluice {n h : Nat} {VC VR : aq_V} (hR : ly_R n h VC VR) (hh : h ≤ 100000) (a b : Int32) (hz : aR_sluT n (VR 0) a b = 0) : VR 0 7 a.toNatClampNeg = VC 0 7 a.toNatClampNeg := by
  rw [hR.2.1]
theorem ly_s_setSluice {n h : Nat} {VC VR : aq_V} (hR : ly_R n h VC VR) (hh : h ≤ 100000) (a b : Int32) : ly_N h (if aq_sluK n (VC 0) a b = 0 then aq_ug VC 0 (aq_sluQ (VC 0) a b) else VC) (aq_ug VR 0 (if aR_sluT n (VR 0) a b = 0 then aq_up (VR 0) 7 a.toNatClampNeg b else VR 0)) := by
  have hk := ly_k_setSluice hR a b
  by_cases hz : aR_sluT n (VR 0) a b = 0
  · have h0 : aq_sluK n (VC 0) a b = 0 := pu_k0 (by decide) (by decide) (by decide) (hk.trans hz)
    rw [if_pos h0, if_pos hz]
    rw [hR.2.1]
    exact ⟨n, h, _, by omega, ly_R0 hR (pu_Vslu hR.1 (by rw [← hR.2.1]; exact hz)) (aR_st_up (by decide) (by decide) (by decide) (aR_st_rf _)), aR_eq_rf _⟩
  · have h0 : ¬ aq_sluK n (VC 0) a b = 0 := pu_kn (fun z => hz (hk.symm.trans z))
    rw [if_neg h0, if_neg hz]
    rw [aq_ug_id]
    exact ly_Rn hR
theorem ly_k_mill {n h : Nat} {VC VR : aq_V} (hR : ly_R n h VC VR) (a b : Int32) : pu_k 9 1 9 (aq_millK n a b) = aR_millT n a b := pu_Kmill hR.1.1 a b
theorem ly_r_mill {n h : Nat} {VC VR : aq_V} (hR : ly_R n h VC VR) (hh : h ≤ 100000) (a b : Int32) (hz : aR_millT n a b = 0) : aR_millNo (VR 0) a.toNatClampNeg b.toNatClampNeg = aq_millNo (VC 0) a.toNatClampNeg b.toNatClampNeg := by
  rw [hR.2.1, pu_millNo hR.1.2.2.2.1]
theorem ly_s_mill {n h : Nat} {VC VR : aq_V} (hR : ly_R n h VC VR) (hh : h ≤ 100000) (a b : Int32) : ly_N h (if aq_millK n a b = 0 then VC else VC) (VR) := by
  have hk := ly_k_mill hR a b
  by_cases hz : aR_millT n a b = 0
  · have h0 : aq_millK n a b = 0 := pu_k0 (by decide) (by decide) (by decide) (hk.trans hz)
    rw [if_pos h0]
    exact ly_Rn hR
  · have h0 : ¬ aq_millK n a b = 0 := pu_kn (fun z => hz (hk.symm.trans z))
    rw [if_neg h0]
    exact ly_Rn hR
theorem ly_k_mend {n h : Nat} {VC VR : aq_V} (hR : ly_R n h VC VR) (a : Int32) : pu_k 9 1 2 (aq_mendK n (VC 0) a) = aR_mendT n (VR 0) a := (by rw [hR.2.1]; exact pu_Kmend hR.1.2.2.2.1 hR.1.1 a)
theorem ly_r_mend {n h : Nat} {VC VR : aq_V} (hR : ly_R n h VC VR) (hh : h ≤ 100000) (a : Int32) (hz : aR_mendT n (VR 0) a = 0) : aR_mendQ (VR 0) a.toNatClampNeg 3 a.toNatClampNeg = aq_mendQ (VC 0) a.toNatClampNeg 3 a.toNatClampNeg := by
  rw [hR.2.1, pu_mendE]
theorem ly_s_mend {n h : Nat} {VC VR : aq_V} (hR : ly_R n h VC VR) (hh : h ≤ 100000) (a : Int32) : ly_N h (if aq_mendK n (VC 0) a = 0 then aq_ug VC 0 (aq_mendQ (VC 0) a.toNatClampNeg) else VC) (aq_ug VR 0 (if aR_mendT n (VR 0) a = 0 then aR_mendQ (VR 0) a.toNatClampNeg else VR 0)) := by
  have hk := ly_k_mend hR a
  by_cases hz : aR_mendT n (VR 0) a = 0
  · have h0 : aq_mendK n (VC 0) a = 0 := pu_k0 (by decide) (by decide) (by decide) (hk.trans hz)
    rw [if_pos h0, if_pos hz]
    rw [hR.2.1, pu_mendE]
    exact ⟨n, h, _, by omega, ly_R0 hR (pu_Vmend hR.1 (by rw [← hR.2.1]; exact hz)) (aR_st_up (by decide) (by decide) (by decide) (aR_st_up (by decide) (by decide) (by decide) (aR_st_up (by decide) (by decide) (by decide) (aR_st_rf _)))), aR_eq_rf _⟩
  · have h0 : ¬ aq_mendK n (VC 0) a = 0 := pu_kn (fun z => hz (hk.symm.trans z))
    rw [if_neg h0, if_neg hz]
    rw [aq_ug_id]
    exact ly_Rn hR
theorem ly_k_quake {n h : Nat} {VC VR : aq_V} (hR : ly_R n h VC VR) (a b : Int32) : pu_k 2 1 9 (aq_quakeK n a b) = aR_quakeT n a b := pu_Kquake hR.1.1 a b
theorem ly_r_quake {n h : Nat} {VC VR : aq_V} (hR : ly_R n h VC VR) (hh : h ≤ 100000) (a b : Int32) (hz : aR_quakeT n a b = 0) : aR_quakeQ (VR 0) a.toNatClampNeg b 3 a.toNatClampNeg = aq_wearByQ (VC 0) a.toNatClampNeg b 3 a.toNatClampNeg := by
  rw [hR.2.1]
  rfl
theorem ly_s_quake {n h : Nat} {VC VR : aq_V} (hR : ly_R n h VC VR) (hh : h ≤ 100000) (a b : Int32) : ly_N h (if aq_quakeK n a b = 0 then aq_ug VC 0 (aq_wearByQ (VC 0) a.toNatClampNeg b) else VC) (aq_ug VR 0 (if aR_quakeT n a b = 0 then aR_quakeQ (VR 0) a.toNatClampNeg b else VR 0)) := by
  have hk := ly_k_quake hR a b
  by_cases hz : aR_quakeT n a b = 0
  · have h0 : aq_quakeK n a b = 0 := pu_k0 (by decide) (by decide) (by decide) (hk.trans hz)
    rw [if_pos h0, if_pos hz]
    rw [hR.2.1]
    exact ⟨n, h, _, by omega, ly_R0 hR (pu_Vquake hR.1 hz) (aR_st_up (by decide) (by decide) (by decide) (aR_st_rf _)), aR_eq_rf _⟩
  · have h0 : ¬ aq_quakeK n a b = 0 := pu_kn (fun z => hz (hk.symm.trans z))
    rw [if_neg h0, if_neg hz]
    rw [aq_ug_id]
    exact ly_Rn hR
theorem ly_k_pass {n h : Nat} {VC VR : aq_V} (hR : ly_R n h VC VR) (a : Int32) : pu_k 1 9 9 (aq_rgK a 1 100) = aR_pasT a := pu_Kpas a
theorem ly_r_pass {n h : Nat} {VC VR : aq_V} (hR : ly_R n h VC VR) (hh : h ≤ 100000) (a : Int32) (hz : aR_pasT a = 0) : aR_goR n (VR 2) a.toNatClampNeg (VR 0) 0 = aq_thi (aq_goQ n (VC 2) a.toNatClampNeg (VC 0)) (VC 0) := by
  have hzb : a.toNatClampNeg ≤ 100 := pu_zp hz
  rw [hR.2.1, hR.2.2.1, (pu_go _ hR.1 (by omega)).2.2, Int32.zero_add]
  rfl
theorem ly_s_pass {n h : Nat} {VC VR : aq_V} (hR : ly_R n h VC VR) (hh : h ≤ 100000) (a : Int32) : ly_N h (if aq_rgK a 1 100 = 0 then aq_ug VC 0 (aq_goQ n (VC 2) a.toNatClampNeg (VC 0)) else VC) (aq_ug VR 0 (if aR_pasT a = 0 then aR_goQ n (VR 2) a.toNatClampNeg (VR 0) else VR 0)) := by
  have hk := ly_k_pass hR a
  by_cases hz : aR_pasT a = 0
  · have h0 : aq_rgK a 1 100 = 0 := pu_k0 (by decide) (by decide) (by decide) (hk.trans hz)
    rw [if_pos h0, if_pos hz]
    have hzb : a.toNatClampNeg ≤ 100 := pu_zp hz
    obtain ⟨g1, g2, -⟩ := pu_go (n := n) (T := VC 2) a.toNatClampNeg hR.1 (by omega)
    rw [hR.2.1, hR.2.2.1, g1]
    refine ⟨n, h + a.toNatClampNeg, _, by omega, ly_R0 hR g2 ?_, aR_eq_rf _⟩
    rw [← g1]
    exact aR_st_go _ (aR_st_rf _)
  · have h0 : ¬ aq_rgK a 1 100 = 0 := pu_kn (fun z => hz (hk.symm.trans z))
    rw [if_neg h0, if_neg hz]
    rw [aq_ug_id]
    exact ly_Rn hR
theorem ly_k_count {n h : Nat} {VC VR : aq_V} (hR : ly_R n h VC VR) (a : Int32) : pu_k 9 1 9 (aq_ixK a 12) = aR_cntT a := pu_Kcnt a
theorem ly_r_count {n h : Nat} {VC VR : aq_V} (hR : ly_R n h VC VR) (hh : h ≤ 100000) (a : Int32) (hz : aR_cntT a = 0) : aR_countNo n (VR 0) a.toNatClampNeg = aq_countNo n (VC 0) a.toNatClampNeg := by
  rw [hR.2.1, pu_countNo]
theorem ly_s_count {n h : Nat} {VC VR : aq_V} (hR : ly_R n h VC VR) (hh : h ≤ 100000) (a : Int32) : ly_N h (if aq_ixK a 12 = 0 then VC else VC) (VR) := by
  have hk := ly_k_count hR a
  by_cases hz : aR_cntT a = 0
  · have h0 : aq_ixK a 12 = 0 := pu_k0 (by decide) (by decide) (by decide) (hk.trans hz)
    rw [if_pos h0]
    exact ly_Rn hR
  · have h0 : ¬ aq_ixK a 12 = 0 := pu_kn (fun z => hz (hk.symm.trans z))
    rw [if_neg h0]
    exact ly_Rn hR
theorem ly_k_foresee {n h : Nat} {VC VR : aq_V} (hR : ly_R n h VC VR) (a b : Int32) : pu_k 1 2 9 (aq_forK a b) = aR_forT a b := pu_Kfor a b
theorem ly_r_foresee {n h : Nat} {VC VR : aq_V} (hR : ly_R n h VC VR) (hh : h ≤ 100000) (a b : Int32) (hz : aR_forT a b = 0) : aR_forR n (VR 2) (VR 0) a.toNatClampNeg b.toNatClampNeg = aq_forR n (aq_goQ n (VC 2) a.toNatClampNeg (aq_cpQ n (VC 0) (VC 1))) (VC 0) b.toNatClampNeg := by
  have hzb : a.toNatClampNeg ≤ 100 := (by
    unfold aR_forT at hz
    refine pu_z (by decide) (fun w => ?_)
    rw [show nI 100 = 100 from by decide] at w
    rw [if_pos w] at hz
    exact absurd hz (by decide))
  rw [hR.2.1, hR.2.2.1, pu_for (Q1 := VC 1) hR.1 (by omega)]
theorem ly_s_foresee {n h : Nat} {VC VR : aq_V} (hR : ly_R n h VC VR) (hh : h ≤ 100000) (a b : Int32) : ly_N h (if aq_forK a b = 0 then aq_ug (aq_tc VC) 1 (aq_goQ n (VC 2) a.toNatClampNeg (aq_cpQ n (VC 0) (VC 1))) else VC) (aq_ug VR 1 (if aR_forT a b = 0 then aR_goQ n (VR 2) a.toNatClampNeg (VR 0) else VR 1)) := by
  have hk := ly_k_foresee hR a b
  by_cases hz : aR_forT a b = 0
  · have h0 : aq_forK a b = 0 := pu_k0 (by decide) (by decide) (by decide) (hk.trans hz)
    rw [if_pos h0, if_pos hz]
    have hzb : a.toNatClampNeg ≤ 100 := (by
      unfold aR_forT at hz
      refine pu_z (by decide) (fun w => ?_)
      rw [show nI 100 = 100 from by decide] at w
      rw [if_pos w] at hz
      exact absurd hz (by decide))
    exact ⟨n, h, _, by omega, ly_R1 hR, aR_eq_rf _⟩
  · have h0 : ¬ aq_forK a b = 0 := pu_kn (fun z => hz (hk.symm.trans z))
    rw [if_neg h0, if_neg hz]
    rw [aq_ug_id]
    exact ly_Rn hR
theorem ly_k_advise {n h : Nat} {VC VR : aq_V} (hR : ly_R n h VC VR) (a : Int32) : pu_k 1 9 9 (aq_rgK a 1 48) = aR_advT a := pu_Kadv a
theorem ly_r_advise {n h : Nat} {VC VR : aq_V} (hR : ly_R n h VC VR) (hh : h ≤ 100000) (a : Int32) (hz : aR_advT a = 0) : aR_advR n (VR 2) a.toNatClampNeg (VR 0) n 0 (-1) (aR_goR n (VR 2) a.toNatClampNeg (VR 0) 0) = aq_adviseR n (VC 2) a.toNatClampNeg (VC 0) (VC 1) := by
  have hzb : a.toNatClampNeg ≤ 100 := (by
    have := pu_z (B := 48) (z := a) (by decide) (fun w => by
      unfold aR_advT at hz
      rw [show nI 48 = 48 from by decide] at w
      rw [if_pos w] at hz
      exact absurd hz (by decide))
    omega)
  rw [hR.2.1, hR.2.2.1, pu_advise (Q1 := VC 1) hR.1 (by omega)]
theorem ly_s_advise {n h : Nat} {VC VR : aq_V} (hR : ly_R n h VC VR) (hh : h ≤ 100000) (a : Int32) : ly_N h (if aq_rgK a 1 48 = 0 then aq_ug (aq_tc VC) 1 (aq_adviseQ n (VC 2) a.toNatClampNeg (VC 0) (VC 1)) else VC) (aq_ug VR 1 (if aR_advT a = 0 then aR_advQ n (VR 2) a.toNatClampNeg (VR 0) n 0 (aR_goQ n (VR 2) a.toNatClampNeg (VR 0)) else VR 1)) := by
  have hk := ly_k_advise hR a
  by_cases hz : aR_advT a = 0
  · have h0 : aq_rgK a 1 48 = 0 := pu_k0 (by decide) (by decide) (by decide) (hk.trans hz)
    rw [if_pos h0, if_pos hz]
    have hzb : a.toNatClampNeg ≤ 100 := (by
      have := pu_z (B := 48) (z := a) (by decide) (fun w => by
        unfold aR_advT at hz
        rw [show nI 48 = 48 from by decide] at w
        rw [if_pos w] at hz
        exact absurd hz (by decide))
      omega)
    exact ⟨n, h, _, by omega, ly_R1 hR, aR_eq_rf _⟩
  · have h0 : ¬ aq_rgK a 1 48 = 0 := pu_kn (fun z => hz (hk.symm.trans z))
    rw [if_neg h0, if_neg hz]
    rw [aq_ug_id]
    exact ly_Rn hR
