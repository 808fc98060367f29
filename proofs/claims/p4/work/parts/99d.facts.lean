theorem NW0 {args : Array Value} {s : State} (hts : ∀ w ∈ lw_tbl, w.before args s = true) : NW s := by
  refine ⟨fun w hw => ?_, va_AO.of (hts _ (List.mem_of_getElem? (i := 153) (by decide +kernel))), va_AO.of (hts _ (List.mem_of_getElem? (i := 262) (by decide +kernel)))⟩
  simp only [NWs, List.mem_cons, List.not_mem_nil, or_false] at hw
  rcases hw with rfl | rfl | rfl | rfl | rfl | rfl | rfl
  · exact va_Nw.of rfl (hts _ (List.mem_of_getElem? (i := 90) (by decide +kernel)))
  · exact va_Nw.of rfl (hts _ (List.mem_of_getElem? (i := 155) (by decide +kernel)))
  · exact va_Nw.of rfl (hts _ (List.mem_of_getElem? (i := 265) (by decide +kernel)))
  · exact va_Nw.of rfl (hts _ (List.mem_of_getElem? (i := 280) (by decide +kernel)))
  · exact va_Nw.of rfl (hts _ (List.mem_of_getElem? (i := 286) (by decide +kernel)))
  · exact va_Nw.of rfl (hts _ (List.mem_of_getElem? (i := 342) (by decide +kernel)))
  · exact va_Nw.of rfl (hts _ (List.mem_of_getElem? (i := 371) (by decide +kernel)))
theorem FW0 {args : Array Value} {s : State} (hts : ∀ w ∈ lw_tbl, w.before args s = true) : FWp s := by
  intro w hw
  have h := List.mem_filter.mp hw
  have h2 := h.2
  simp only [Bool.and_eq_true] at h2
  exact va_Nw.of h2.2 (hts w h.1)
theorem XL0 {b : Nat} {s : State} (hts : ∀ w ∈ lw_tbl, w.before #[Value.ref b] s = true) (hgv : (Jvm.Cond.and given_1 narrow_1).before #[Value.ref b] s = true) : ∃ sa, XL sa s := by
  have hs := flat_of_before _ hgv
  obtain ⟨a0, -, -, -, h0, -⟩ := Cond.exactly_spec (hs (Cond.exactly (.string "WhoBacks" 292) "java/lang/String") (by decide +kernel))
  obtain ⟨a1, -, -, -, h1, -⟩ := Cond.exactly_spec (hs (Cond.exactly (.string "WhoBacks" 299) "java/lang/String") (by decide +kernel))
  obtain ⟨a2, -, -, -, h2, -⟩ := Cond.exactly_spec (hs (Cond.exactly (.string "WhoBacks" 302) "java/lang/String") (by decide +kernel))
  obtain ⟨a3, -, -, -, h3, -⟩ := Cond.exactly_spec (hs (Cond.exactly (.string "WhoBacks" 323) "java/lang/String") (by decide +kernel))
  obtain ⟨a4, -, -, -, h4, -⟩ := Cond.exactly_spec (hs (Cond.exactly (.string "WhoBacks" 326) "java/lang/String") (by decide +kernel))
  obtain ⟨a5, -, -, -, h5, -⟩ := Cond.exactly_spec (hs (Cond.exactly (.string "WhoBacks" 328) "java/lang/String") (by decide +kernel))
  exact ⟨fun i => ([a0, a1, a2, a3, a4, a5] : List Nat).getD i 0, vx_Zqof (args := #[Value.ref b]) (hts _ (List.mem_of_getElem? (i := 929) (by decide +kernel))) (hts _ (List.mem_of_getElem? (i := 68) (by decide +kernel))) (hs (Cond.isRef (.static "java/lang/Throwable" "UNASSIGNED_STACK" "[Ljava/lang/StackTraceElement;")) (by decide +kernel)) (fun a h => Nat.not_le.mpr h), vx_Zqof (args := #[Value.ref b]) (hts _ (List.mem_of_getElem? (i := 931) (by decide +kernel))) (hts _ (List.mem_of_getElem? (i := 68) (by decide +kernel))) (hs (Cond.isRef (.static "java/lang/Throwable" "SUPPRESSED_SENTINEL" "Ljava/util/List;")) (by decide +kernel)) (fun a h => Nat.not_le.mpr h), ⟨⟨vk_R.of (hts (Cond.stringRef "WhoBacks" 292 "no such shelf") (List.mem_of_getElem? (i := 1009) (by decide +kernel))) h0, vk_R.of (hts (Cond.stringRef "WhoBacks" 299 "no row") (List.mem_of_getElem? (i := 1010) (by decide +kernel))) h1, vk_R.of (hts (Cond.stringRef "WhoBacks" 302 "no such place") (List.mem_of_getElem? (i := 1011) (by decide +kernel))) h2⟩, vk_R.of (hts (Cond.stringRef "WhoBacks" 323 "the best one fails") (List.mem_of_getElem? (i := 943) (by decide +kernel))) h3, vk_R.of (hts (Cond.stringRef "WhoBacks" 326 "the told one fails") (List.mem_of_getElem? (i := 978) (by decide +kernel))) h4, vk_R.of (hts (Cond.stringRef "WhoBacks" 328 "the rule fails") (List.mem_of_getElem? (i := 993) (by decide +kernel))) h5⟩, ⟨va_Nc.of (hs (Cond.not (.castable "java/lang/IllegalStateException" "java/lang/IllegalArgumentException")) (by decide +kernel)), va_Nc.of (hs (Cond.not (.castable "java/lang/IllegalArgumentException" "java/lang/UnsupportedOperationException")) (by decide +kernel)), va_Nc.of (hs (Cond.not (.castable "java/lang/IllegalStateException" "java/lang/UnsupportedOperationException")) (by decide +kernel))⟩, FW0 hts⟩
