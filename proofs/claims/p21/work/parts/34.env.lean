/-! what the law stands on, out of the tables and of what is given of the start -/
theorem lz_str {args : Array Value} {s : State} {own tx : String} {k : Nat} (h1 : (Cond.stringRef own k tx).before args s = true) (h2 : (Cond.exactly (Term.string own k) "java/lang/String").before args s = true) : ∃ sa, vk_R own k tx sa s := by
  obtain ⟨a, c, cell, kk, q1, -⟩ := Cond.exactly_spec (args := args) (first := s) (o := none) (s := s) (idx := []) h2
  exact ⟨a, vk_R.of h1 q1⟩
set_option maxHeartbeats 4000000 in
set_option maxRecDepth 100000 in
theorem lz_env {args : Array Value} {s : State} (hts : ∀ w ∈ lw_tbl, w.before args s = true) (hgv : (Jvm.Cond.and given_1 narrow_1).before args s = true) : pl_E s ∧ cn_E s := by
  have hs := flat_of_before _ hgv
  have a1 : va_Nw (.castable "java/lang/IllegalArgumentException" "java/lang/IllegalArgumentException") s := va_Nw.of rfl (hts _ (by decide +kernel))
  have a2 : va_Nw (.castable "java/lang/IndexOutOfBoundsException" "java/lang/IndexOutOfBoundsException") s := va_Nw.of rfl (hts _ (by decide +kernel))
  have a3 : va_Nw (.castable "java/lang/IllegalStateException" "java/lang/IllegalStateException") s := va_Nw.of rfl (hts _ (by decide +kernel))
  have b1 : va_Nw (aq_xd "java/lang/RuntimeException") s := va_Nw.of rfl (hts _ (by decide +kernel))
  have b2 : va_Nw (aq_xd "java/lang/Exception") s := va_Nw.of rfl (hts _ (by decide +kernel))
  have b3 : va_Nw (aq_xd "java/lang/Throwable") s := va_Nw.of rfl (hts _ (by decide +kernel))
  have hA : ∀ a : Nat, a < s.heap.size → ¬ (fun q : Nat => s.heap.size ≤ q) a := fun a h => Nat.not_le.mpr h
  have c1 : vx_Zq Bundle.tN "UNASSIGNED_STACK" Bundle.steD (fun q : Nat => s.heap.size ≤ q) s s.heap := vx_Zqof (hts _ (by decide +kernel)) (hts _ (by decide +kernel)) (hs _ (by decide +kernel)) hA
  have c2 : vx_Zq Bundle.tN "SUPPRESSED_SENTINEL" Bundle.listD (fun q : Nat => s.heap.size ≤ q) s s.heap := vx_Zqof (hts _ (by decide +kernel)) (hts _ (by decide +kernel)) (hs _ (by decide +kernel)) hA
  have d1 : ∃ sa, vk_R RX2 33 "there are as many arches as there can be" sa s := lz_str (hts _ (by decide +kernel)) (hs _ (by decide +kernel))
  have d2 : ∃ sa, vk_R RX2 78 "there is a mill already" sa s := lz_str (hts _ (by decide +kernel)) (hs _ (by decide +kernel))
  have d3 : ∃ sa, vk_R RX2 86 "there is no mill" sa s := lz_str (hts _ (by decide +kernel)) (hs _ (by decide +kernel))
  have d4 : ∃ sa, vk_R RX2 97 "there is no coin" sa s := lz_str (hts _ (by decide +kernel)) (hs _ (by decide +kernel))
  have d5 : ∃ sa, vk_R RX2 102 "the arch is not worn" sa s := lz_str (hts _ (by decide +kernel)) (hs _ (by decide +kernel))
  have d6 : ∃ sa, vk_R RX2 161 "there is none of this number" sa s := lz_str (hts _ (by decide +kernel)) (hs _ (by decide +kernel))
  have d7 : ∃ sa, vk_R RX2 166 "the number is too small or too great" sa s := lz_str (hts _ (by decide +kernel)) (hs _ (by decide +kernel))
  have f2 : va_AO RX1 s := va_AO.of (A := args) (hts (.arrayOver (.object RX1)) (by decide +kernel))
  have f3 : va_Nw (.methodLinkNest RX0 28 yX1_init "ArchWater") s := va_Nw.of rfl (hts _ (by decide +kernel))
  exact ⟨⟨⟨a1, a2, a3⟩, ⟨b1, b2, b3⟩, ⟨c1, c2⟩, d1, d2, d3, d4, d5, d6, d7⟩, ⟨f2, f3⟩⟩
