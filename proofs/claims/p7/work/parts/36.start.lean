theorem law_arr {args : Array Value} {s : State} {ty : FieldType} (hr : va_RA s = va_RA s) (h : (Cond.arrayClass ty).before args s = true) : ∃ cA : ClassId, ArrOfT s cA ty ∧ s.vm.findClass ("[" ++ ty.toString) = some cA := by
  obtain ⟨cA, kA, comp, h1, h2, h3⟩ := Cond.arrayClass_spec h
  exact ⟨cA, fun n z => ⟨fun k h => (by cases h), kA, h2, comp, h3⟩, h1⟩
theorem law_K {args : Array Value} {s : State} (hts : ∀ w ∈ AW, w.before args s = true) : ∃ (dC : Nat → ClassId) (dI : Nat → Nat → Nat) (cI cJ : ClassId), va_K (dC, dI) classes [(cI, FieldType.int), (cJ, FieldType.long)] s := by
  obtain ⟨c0, iS0, hKn0⟩ := u_known (C := RX0) (T := TX0) (N := 2) (n := 2) hts inX0 (hts (.instantiable RX0 2) aw_61)
  obtain ⟨c1, iS1, hKn1⟩ := u_known (C := RX1) (T := TX1) (N := 8) (n := 8) hts inX1 (hts (.instantiable RX1 8) aw_21)
  obtain ⟨c2, iS2, hKn2⟩ := u_known (C := RX2) (T := TX2) (N := 2) (n := 2) hts inX2 (hts (.instantiable RX2 2) aw_13)
  obtain ⟨c3, iS3, hKn3⟩ := u_known (C := RX3) (T := TX3) (N := 8) (n := 8) hts inX3 (hts (.instantiable RX3 8) aw_303)
  obtain ⟨cI, a1, a2⟩ := law_arr rfl (hts (.arrayClass .int) aw_58)
  obtain ⟨cJ, b1, b2⟩ := law_arr rfl (hts (.arrayClass .long) aw_59)
  refine ⟨fun k => if k = 0 then c0 else if k = 1 then c1 else if k = 2 then c2 else c3, fun k => if k = 0 then iS0 else if k = 1 then iS1 else if k = 2 then iS2 else iS3, cI, cJ, ?_, ?_⟩
  · intro k q hq
    match k, hq with
    | 0, hq => cases hq; exact hKn0
    | 1, hq => cases hq; exact hKn1
    | 2, hq => cases hq; exact hKn2
    | 3, hq => cases hq; exact hKn3
    | k + 4, hq => simp [classes] at hq
  · intro k q hq
    match k, hq with
    | 0, hq => cases hq; exact ⟨a1, a2⟩
    | 1, hq => cases hq; exact ⟨b1, b2⟩
    | k + 2, hq => simp at hq
set_option maxHeartbeats 4000000 in
set_option maxRecDepth 100000 in
theorem law_X {args : Array Value} {s : State} {A : Nat → Prop} (hts0 : ∀ w ∈ lw_tbl, w.before args s = true) (hgv : (Jvm.Cond.and given_1 narrow_1).before args s = true) (hA : ∀ a : Nat, a < s.heap.size → ¬ A a) : xX2 A s := by
  have hs := flat_of_before _ hgv
  refine ⟨⟨vx_Zqof (hts0 _ (List.mem_append_right _ (List.mem_of_getElem? (i := 142) rfl))) (hts0 _ (List.mem_append_right _ (List.mem_of_getElem? (i := 5) rfl))) (hs (.isRef (.static Bundle.tN "UNASSIGNED_STACK" Bundle.steD)) (by decide +kernel)) hA, vx_Zqof (hts0 _ (List.mem_append_right _ (List.mem_of_getElem? (i := 144) rfl))) (hts0 _ (List.mem_append_right _ (List.mem_of_getElem? (i := 5) rfl))) (hs (.isRef (.static Bundle.tN "SUPPRESSED_SENTINEL" Bundle.listD)) (by decide +kernel)) hA, ⟨va_Nw.of rfl (hts0 _ (List.mem_append_right _ (List.mem_of_getElem? (i := 117) rfl))), va_Nw.of rfl (hts0 _ (List.mem_append_right _ (List.mem_of_getElem? (i := 230) rfl))), va_Nw.of rfl (hts0 _ (List.mem_append_right _ (List.mem_of_getElem? (i := 119) rfl))), va_Nw.of rfl (hts0 _ (List.mem_append_right _ (List.mem_of_getElem? (i := 121) rfl))), va_Nw.of rfl (hts0 _ (List.mem_append_right _ (List.mem_of_getElem? (i := 123) rfl)))⟩, fun q hq => ?_⟩, va_Nc.of (hs (.not (.castable xIS xIA)) (by decide +kernel))⟩
  simp only [xTX, List.mem_cons, List.not_mem_nil, or_false] at hq
  rcases hq with rfl | rfl | rfl | rfl | rfl | rfl | rfl | rfl
  · obtain ⟨a0, _, _, _, q1, -⟩ := Cond.exactly_spec (hs (Cond.exactly (.string "ProducerBook" 29) "java/lang/String") (by decide +kernel))
    exact ⟨a0, vk_R.of (hts0 _ (List.mem_append_right _ (List.mem_of_getElem? (i := 155) rfl))) q1⟩
  · obtain ⟨a1, _, _, _, q1, -⟩ := Cond.exactly_spec (hs (Cond.exactly (.string "ProducerBook" 44) "java/lang/String") (by decide +kernel))
    exact ⟨a1, vk_R.of (hts0 _ (List.mem_append_right _ (List.mem_of_getElem? (i := 237) rfl))) q1⟩
  · obtain ⟨a2, _, _, _, q1, -⟩ := Cond.exactly_spec (hs (Cond.exactly (.string "ProducerBook" 47) "java/lang/String") (by decide +kernel))
    exact ⟨a2, vk_R.of (hts0 _ (List.mem_append_right _ (List.mem_of_getElem? (i := 251) rfl))) q1⟩
  · obtain ⟨a3, _, _, _, q1, -⟩ := Cond.exactly_spec (hs (Cond.exactly (.string "ProducerBook" 53) "java/lang/String") (by decide +kernel))
    exact ⟨a3, vk_R.of (hts0 _ (List.mem_append_right _ (List.mem_of_getElem? (i := 253) rfl))) q1⟩
  · obtain ⟨a4, _, _, _, q1, -⟩ := Cond.exactly_spec (hs (Cond.exactly (.string "ProducerBook" 63) "java/lang/String") (by decide +kernel))
    exact ⟨a4, vk_R.of (hts0 _ (List.mem_append_right _ (List.mem_of_getElem? (i := 261) rfl))) q1⟩
  · obtain ⟨a5, _, _, _, q1, -⟩ := Cond.exactly_spec (hs (Cond.exactly (.string "ProducerBook" 73) "java/lang/String") (by decide +kernel))
    exact ⟨a5, vk_R.of (hts0 _ (List.mem_append_right _ (List.mem_of_getElem? (i := 276) rfl))) q1⟩
  · obtain ⟨a6, _, _, _, q1, -⟩ := Cond.exactly_spec (hs (Cond.exactly (.string "ProducerBook" 95) "java/lang/String") (by decide +kernel))
    exact ⟨a6, vk_R.of (hts0 _ (List.mem_append_right _ (List.mem_of_getElem? (i := 288) rfl))) q1⟩
  · obtain ⟨a7, _, _, _, q1, -⟩ := Cond.exactly_spec (hs (Cond.exactly (.string "ProducerBook" 111) "java/lang/String") (by decide +kernel))
    exact ⟨a7, vk_R.of (hts0 _ (List.mem_append_right _ (List.mem_of_getElem? (i := 301) rfl))) q1⟩
