set_option maxHeartbeats 4000000 in
theorem no_walk (l : Launch) (hl0 : l.stackTraces = false) (b : Addr) (xs : List Int32) (exs : xs = no_script) : MetFree l x (headSpec (Jvm.Cond.code x code maxLocals ret :: tables_1) room_1) (lw_P b xs) (fun _ _ _ _ _ => True) no_Q := by
  refine MetFree.of_bodyS (code := code) (maxLocals := maxLocals) (ret := ret) (by decide) ?_ ?_
  · intro args s m h hn
    obtain ⟨meth, c, h1, h2, h3, h4, h5, h6, -, -⟩ := Cond.code_spec hn (atoms_spec (ws := Jvm.Cond.code x code maxLocals ret :: tables_1) h _ List.mem_cons_self)
    exact ⟨meth, c, h1, h2, h3, h4, h5, h6⟩
  · intro p e s m args below meth c s₁ B hml0 hP _
    obtain ⟨rfl, hx, hbd, hgv⟩ := hP
    obtain ⟨scr, harrAt, hlist, hof, hsmall⟩ := hx
    obtain ⟨hcb, hkn, -, -⟩ := State.arrayAt?_spec harrAt
    have hown : s.vm.findClass R_law = some m.cls := findClass_of_methodNamed B.named
    have hts0 : ∀ c ∈ (Jvm.Cond.code x code maxLocals ret :: tables_1), c.before #[Value.ref b] s = true := atoms_spec (ws := Jvm.Cond.code x code maxLocals ret :: tables_1) B.pre
    have hts : ∀ w ∈ lw_tbl, w.before #[Value.ref b] s = true := k2_hts_sels lw_privs (fun w hw => hts0 w (List.mem_cons_of_mem _ hw)) lw_privs_ok
    have hml : c.maxLocals = 8 := B.maxLocals_eq (hts0 _ List.mem_cons_self)
    have X₀ : Stand p l e room_1 s m #[Value.ref b] below meth c s₁ [] 0 0 := Stand.of_body B
    have hh0 : s₁.heap = s.heap := by rw [B.state]; rfl
    have hsz : scr.slots.size = xs.length := by rw [← Array.length_toList, hlist, List.length_map]
    have hval : ∀ j : Nat, j < xs.length → scr.slots[j]? = some (.int (xs.getD j 0)) := fun j hj => by
      rw [← Array.getElem?_toList, hlist]
      simp [hj]
    have hbl : b < s.heap.size := (Array.getElem?_eq_some_iff.mp hcb).1
    have hX : va_X b xs.length (fun j => xs.getD j 0) s s.heap := ⟨scr, hcb, hof, hkn, hsz, hval⟩
    have K : W p l e room_1 s m #[Value.ref b] below meth c s₁.heap [] 0 0 (no_Z below #[Value.ref b] s) (entryFrame m ([Value.ref b] : List Value).toArray 8) := by
      rw [hh0]
      exact no_start l hl0 hbd (by rw [exs]; rfl) (by rw [exs]; decide) ⟨B.exec, B.bytes, B.returns, hml, hown, hts, hX, hbl, B.notSynchronized, hgv⟩
    obtain ⟨t, a1, o, b1, b2, b3⟩ := K s₁ rfl X₀
    exact ⟨t, o, a1, b1, b2, b3⟩
/-- any start that meets the premises, with this script: the claim is false -/
theorem no_vc {p : Program} {e : Env} {s : State} {m : MethodId} {below : List Frame} {b : Addr} (ha : AtStart classFile x code maxLocals ret World_1 tables_1 room_1 Calls_1 rest_1 Pre_1 launch0 p e s m #[Value.ref b] below) (hxs : s.IntsAt b no_script) :
    Falls classFile x code maxLocals ret World_1 tables_1 room_1 Calls_1 rest_1 Pre_1 Post_1_2 ∧ ¬ Claimed_1_2 := by
  obtain ⟨hL, hW, had, hle, hcas, hclk, hf, hfit, hheap, happ, hcalls, hrest, hpre⟩ := id ha
  have hl0 : launch0.stackTraces = false := by decide
  obtain ⟨n2, o2, w2, r2, e2, rfl, -⟩ := no_walk launch0 hl0 b no_script rfl p e had hcas hclk s m _ below hf ((Spec.applies_iff_loose hf).mp happ).1 ⟨rfl, hxs, by decide, hpre⟩ trivial
  have bad : ¬ Post_1_2 p.tables e #[Value.ref b] s (.returned (some (.int 0))) (stepsAlone p.tables e n2 s) := by
    intro h
    have h1 : limb_1_2.after #[Value.ref b] s (.returned (some (.int 0))) (stepsAlone p.tables e n2 s) = true := h.1
    have h2 := Cond.after_iff.mp h1
    rw [show limb_1_2 = Cond.eq .result (.int 1) from rfl, Cond.eq_ints (x := 0) (y := 1) rfl rfl] at h2
    exact absurd h2 (by decide)
  refine ⟨⟨launch0, p, e, s, m, _, below, ha, n2, _, w2, r2, e2, bad⟩, fun hc => ?_⟩
  obtain ⟨n1, o1, w1, r1, e1, q1⟩ := hc launch0 rfl hL hW p e had hcas hclk s m _ below hf hfit hheap happ ⟨hcalls, hrest, hpre⟩
  have hn : n1 = n2 := Nat.le_antisymm (Nat.le_of_not_lt fun g => e2.not_within (w1 n2 g)) (Nat.le_of_not_lt fun g => e1.not_within (w2 n1 g))
  subst hn
  obtain rfl := Ended.outcome_unique e1 e2
  exact bad q1
