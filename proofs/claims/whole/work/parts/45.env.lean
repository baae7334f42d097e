/-! what the law stands on, out of the tables and of what is given of the start -/
theorem lz_str {args : Array Value} {s : State} {own tx : String} {k : Nat} (h1 : (Cond.stringRef own k tx).before args s = true) (h2 : (Cond.exactly (Term.string own k) "java/lang/String").before args s = true) : ∃ sa, vk_R own k tx sa s := by
  obtain ⟨a, c, cell, kk, q1, -⟩ := Cond.exactly_spec (args := args) (first := s) (o := none) (s := s) (idx := []) h2
  exact ⟨a, vk_R.of h1 q1⟩
theorem lz_nf : ∀ q ∈ ar_nf, Cond.fieldLinkNest q.1 q.2.1 q.2.2.1 q.2.2.2.1 q.2.2.2.2 ar_h ∈ lw_tbl := by decide +kernel
set_option maxHeartbeats 4000000 in
set_option maxRecDepth 100000 in
theorem lz_env {args : Array Value} {s : State} (hts : ∀ w ∈ lw_tbl, w.before args s = true) (hgv : (Jvm.Cond.and given_1 narrow_1).before args s = true) : ly_E s ∧ cn_E s ∧ cn_F s := by
  have hs := flat_of_before _ hgv
  have a1 : va_Nw (.castable "java/lang/IllegalArgumentException" "java/lang/IllegalArgumentException") s := va_Nw.of rfl (hts _ (by decide +kernel))
  have a2 : va_Nw (.castable "java/lang/IndexOutOfBoundsException" "java/lang/IndexOutOfBoundsException") s := va_Nw.of rfl (hts _ (by decide +kernel))
  have a3 : va_Nw (.castable "java/lang/IllegalStateException" "java/lang/IllegalStateException") s := va_Nw.of rfl (hts _ (by decide +kernel))
  have b1 : va_Nw (aq_xd "java/lang/RuntimeException") s := va_Nw.of rfl (hts _ (by decide +kernel))
  have b2 : va_Nw (aq_xd "java/lang/Exception") s := va_Nw.of rfl (hts _ (by decide +kernel))
  have b3 : va_Nw (aq_xd "java/lang/Throwable") s := va_Nw.of rfl (hts _ (by decide +kernel))
  have hA : ∀ a : Nat, a < s.heap.size → ¬ (fun q : Nat => s.heap.size ≤ q) a := fun a h => Nat.not_le.mpr h
  have c1 : vx_Zq Bundle.tN "UNASSIGNED_STACK" Bundle.steD (fun q : Nat => s.heap.size ≤ q) s s.heap := vx_Zqof (hts _ (by decide +kernel)) (hts _ (by decide +kernel)) (hs _ (by decide +kernel)) hA
  have c2 : vx_Zq Bundle.tN "SUPPRESSED_SENTINEL" Bundle.listD (fun q : Nat => s.heap.size ≤ q) s s.heap := vx_Zqof (hts _ (by decide +kernel)) (hts _ (by decide +kernel)) (hs _ (by decide +kernel)) hA
  have d1 : ∃ sa, vk_R RX2 33 "there are as many arches as there can be" sa s := lz_str (hts _ (by decide +kernel)) (hs _ (by decide +kernel))
  have d2 : ∃ sa, vk_R RX2 78 "there is a mill already" sa s := lz_str (hts _ (by decide +kernel)) (hs _ (by decide +kernel))
  have d3 : ∃ sa, vk_R RX2 86 "there is no mill" sa s := lz_str (hts _ (by decide +kernel)) (hs _ (by decide +kernel))
  have d4 : ∃ sa, vk_R RX2 97 "there is no coin" sa s := lz_str (hts _ (by decide +kernel)) (hs _ (by decide +kernel))
  have d5 : ∃ sa, vk_R RX2 102 "the arch is not worn" sa s := lz_str (hts _ (by decide +kernel)) (hs _ (by decide +kernel))
  have d6 : ∃ sa, vk_R RX2 161 "there is none of this number" sa s := lz_str (hts _ (by decide +kernel)) (hs _ (by decide +kernel))
  have d7 : ∃ sa, vk_R RX2 166 "the number is too small or too great" sa s := lz_str (hts _ (by decide +kernel)) (hs _ (by decide +kernel))
  have n1 : va_Nc "java/lang/IllegalStateException" "java/lang/IllegalArgumentException" s := va_Nc.of (hs _ (by decide +kernel))
  have n2 : va_Nc "java/lang/IndexOutOfBoundsException" "java/lang/IllegalArgumentException" s := va_Nc.of (hs _ (by decide +kernel))
  have n3 : va_Nc "java/lang/IllegalArgumentException" "java/lang/IndexOutOfBoundsException" s := va_Nc.of (hs _ (by decide +kernel))
  have n4 : va_Nc "java/lang/IllegalStateException" "java/lang/IndexOutOfBoundsException" s := va_Nc.of (hs _ (by decide +kernel))
  have f1 : va_Nw (.methodLinkNest RX3 90 yX4_rate ar_h) s := va_Nw.of rfl (hts _ (by decide +kernel))
  have f2 : va_AO RX1 s := va_AO.of (A := args) (hts (.arrayOver (.object RX1)) (by decide +kernel))
  have f3 : va_Nw (.methodLinkNest RX0 28 yX1_init "ArchWater") s := va_Nw.of rfl (hts _ (by decide +kernel))
  have f4 : va_Nw (.methodLinkNest RX4 27 yX3_init "ArchWaterModel") s := va_Nw.of rfl (hts _ (by decide +kernel))
  exact ⟨⟨⟨⟨a1, a2, a3⟩, ⟨b1, b2, b3⟩, ⟨c1, c2⟩, d1, d2, d3, d4, d5, d6, d7⟩, ⟨fun q hq => va_Nw.of rfl (hts _ (lz_nf q hq)), f1⟩, ⟨⟨n1, n2⟩, ⟨n3, n4⟩⟩⟩, ⟨f2, f3⟩, f4⟩
/-- one list of cells, cut into the law's three worlds -/
theorem lz_split {D : va_G} {A : Nat → Prop} {H : Heap} {adC adR : Nat → Nat} {cI cQ cR cL : ClassId} {VC VR : aq_V} {th : Int32} {o : Nat} {f : Nat → Int64} (hP : va_P D vwCl ((aC_w adC cI cQ VC ++ aR_w adR cR th VR) ++ lx_o o cL f) H) (hD : va_D A ((aC_w adC cI cQ VC ++ aR_w adR cR th VR) ++ lx_o o cL f)) : (va_P D vwCl (aC_w adC cI cQ VC) H ∧ va_P D vwCl (aR_w adR cR th VR) H ∧ va_P D vwCl (lx_o o cL f) H) ∧ (aq_J 49 adC ∧ aq_J 22 adR) ∧ (∀ c d, c < 49 → d < 22 → adC c ≠ adR d) ∧ ((∀ c, c < 49 → o ≠ adC c) ∧ ∀ d, d < 22 → o ≠ adR d) ∧ ((∀ c, c < 49 → A (adC c)) ∧ (∀ d, d < 22 → A (adR d)) ∧ A o) := by
  have l1 : (aC_w adC cI cQ VC).length = 49 := aq_w_len _ _ _
  have l2 : (aR_w adR cR th VR).length = 22 := aq_w_len _ _ _
  have l3 : (aC_w adC cI cQ VC ++ aR_w adR cR th VR).length = 71 := by rw [List.length_append, l1, l2]
  have g1 : ∀ c, c < 49 → ((aC_w adC cI cQ VC ++ aR_w adR cR th VR) ++ lx_o o cL f)[c]? = some (adC c, aC_e adC cI cQ VC c) := fun c h => by
    rw [List.getElem?_append_left (by omega), List.getElem?_append_left (by omega)]
    exact aq_w_at h
  have g2 : ∀ d, d < 22 → ((aC_w adC cI cQ VC ++ aR_w adR cR th VR) ++ lx_o o cL f)[49 + d]? = some (adR d, aR_e adR cR th VR d) := fun d h => by
    rw [List.getElem?_append_left (by omega), List.getElem?_append_right (by omega), l1, Nat.add_sub_cancel_left]
    exact aq_w_at h
  have g3 : ((aC_w adC cI cQ VC ++ aR_w adR cR th VR) ++ lx_o o cL f)[71]? = some (o, .inl (cL, 1, .inr (.inl f))) := by
    rw [List.getElem?_append_right (by omega), l3]
    rfl
  refine ⟨⟨fun k z hz => ?_, fun k z hz => ?_, fun k z hz => ?_⟩, ⟨fun c d hc hd he => hD.1 c d _ _ (g1 c hc) (g1 d hd) he, fun c d hc hd he => ?_⟩, fun c d hc hd he => ?_, ⟨fun c hc he => ?_, fun d hd he => ?_⟩, fun c hc => hD.2 _ _ (g1 c hc), fun d hd => hD.2 _ _ (g2 d hd), hD.2 _ _ g3⟩
  · obtain ⟨hl, rfl⟩ := aq_w_in hz
    exact hP _ _ (g1 k hl)
  · obtain ⟨hl, rfl⟩ := aq_w_in hz
    exact hP _ _ (g2 k hl)
  · have h1 : k < 1 := (List.getElem?_eq_some_iff.mp hz).1
    rw [show k = 0 by omega] at hz
    cases hz
    exact hP _ _ g3
  · have := hD.1 (49 + c) (49 + d) _ _ (g2 c hc) (g2 d hd) he
    omega
  · have := hD.1 c (49 + d) _ _ (g1 c hc) (g2 d hd) he
    omega
  · have := hD.1 71 c _ _ g3 (g1 c hc) he
    omega
  · have := hD.1 71 (49 + d) _ _ g3 (g2 d hd) he
    omega
