theorem no_ints : start9.about.IntsAt 0 no_script := ⟨{ cls := 15, slots := start9.cells0, vm := .none }, rfl, rfl, ⟨fun k h => (by cases h), _, rfl, _, rfl⟩, by decide⟩
/-- WHOLE IS FALSE of this class, by the run of no_script from a start that meets the premises -/
theorem no_whole : Falls classFile x code maxLocals ret World_1 tables_1 room_1 Calls_1 rest_1 Pre_1 Post_1_2 ∧ ¬ Claimed_1_2 := no_vc start9.atStart no_ints
theorem no_i_vc : ¬ (Claimed_1_1 ∧ Claimed_1_2) := fun h => no_whole.2 h.2
