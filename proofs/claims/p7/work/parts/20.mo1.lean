def wMo (cI cJ : ClassId) (h : Nat → Nat) (B : Nat → Int32) (P : Nat → Int64) (E S L : Nat → Int32) (cd z en : Int32) : va_W := [(h 20, .inr (3, [.int cd, .int z, .int en, .ref (h 21), .ref (h 22), .ref (h 23), .ref (h 24), .ref (h 25)])), (h 21, .inl (cI, 2000, .inl B)), (h 22, .inl (cJ, 2000, .inr (.inl P))), (h 23, .inl (cI, 2000, .inl E)), (h 24, .inl (cI, 2000, .inl S)), (h 25, .inl (cI, 2000, .inl L))]
set_option maxHeartbeats 4000000 in
set_option maxRecDepth 100000 in
theorem m_thrown (l : Launch) (dC : Nat → ClassId) (dI : Nat → Nat → Nat) (cI cJ : ClassId) (h : Nat → Nat) (sz : Nat) (B : Nat → Int32) (P : Nat → Int64) (E S L : Nat → Int32) (cd : Int32) (n ed : Nat)  : Met l yX3_thrown wsX3_thrown ({ frames := 0, cells := 0, slots := 0, locals := 0 } : Room) (va_Pc [.ref (h 20)] (xP (dC, dI) classes [(cI, FieldType.int), (cJ, FieldType.long)] (wMo cI cJ h B P E S L cd (nI n) (nI ed)) sz)) (va_Qi (fun (r : Int32) (_ : Unit) => r = cd) (fun u => xB (dC, dI) classes [(cI, FieldType.int), (cJ, FieldType.long)] (va_A (wMo cI cJ h B P E S L cd (nI n) (nI ed)) sz) ((fun (_ : Unit) => wMo cI cJ h B P E S L cd (nI n) (nI ed)) u)) (va_A (wMo cI cJ h B P E S L cd (nI n) (nI ed)) sz)) 0 0 (va_A (wMo cI cJ h B P E S L cd (nI n) (nI ed)) sz) := by
  refine Met.ofW (cc := cX3_thrown) (maxL := 1) (ret := (some .int)) (by decide) rfl ?_
  intro p e s m args below meth c s₁ BB hml hv
  obtain ⟨rfl, hsz, hP, hK, hD0⟩ := hv
  have hx := BB.exec
  have hb := BB.bytes
  have hr := BB.returns
  have hts := atoms_spec (ws := wsX3_thrown) BB.pre
  have hown : s.vm.findClass RX3 = some m.cls := findClass_of_methodNamed BB.named
  have hlocks := BB.notSynchronized
  subst hsz
  have hD := hD0.self (sz := s.heap.size)
  generalize hAe : va_A (wMo cI cJ h B P E S L cd (nI n) (nI ed)) s.heap.size = A at hD ⊢
  have hA : ∀ q : Nat, s.heap.size ≤ q → A q := fun q h => by rw [← hAe]; exact Or.inr h
  have hS : va_S A s.heap s.heap [] := va_S.rf
  have hl := lv_entry ([.ref (h 20)]) (n := 1) (Nat.le_of_ble_eq_true rfl)
  rw [lg_entry_eq]
  generalize (lg_sl ([.ref (h 20)]) ++ List.replicate (1 - (lg_sl ([.ref (h 20)])).length) Slot.unset).toArray = ls at hl ⊢
  have hl : lv_has ls 1 [(0, .ref (h 20))] := hl
  have hP : va_P (dC, dI) classes (wMo cI cJ h B P E S L cd (nI n) (nI ed)) s.heap := hP
  refine lv_aload_n hx hb dX3_thrown_0 rfl (lv_at hl 0 rfl) ?_
  refine va_get (D := (dC, dI)) (ci := 3) (v := .int cd) (C := RX3) (T := TX3) (N := 8) hx hb hts (fun w9 h9 => mm (inX3 w9 h9)) hown hK hP 0 rfl rfl 0 (by decide) (hts (.fieldLink RX3 26 "ProducerBookModel" "code" "I") (mm aw_308)) (fun _ h9 => h9) rfl dX3_thrown_1 ?_
  exact xh_iret hx hb hr (()) (rfl) hP hK hD hS dX3_thrown_4 hlocks

set_option maxHeartbeats 4000000 in
set_option maxRecDepth 100000 in
theorem m_isBatch (l : Launch) (dC : Nat → ClassId) (dI : Nat → Nat → Nat) (cI cJ : ClassId) (h : Nat → Nat) (sz : Nat) (pr : Int64) (ep sq la : Int32)  : Met l yX3_isBatch wsX3_isBatch ({ frames := 0, cells := 0, slots := 0, locals := 0 } : Room) (va_Pc [.long pr, .int ep, .int sq, .int la] (xP (dC, dI) classes [(cI, FieldType.int), (cJ, FieldType.long)] ([]) sz)) (va_Qi (fun (r : Int32) (_ : Unit) => (pb_leg pr ep sq la ∧ r = nI 1) ∨ (¬ pb_leg pr ep sq la ∧ r = nI 0)) (fun u => xB (dC, dI) classes [(cI, FieldType.int), (cJ, FieldType.long)] (va_A ([]) sz) ((fun (_ : Unit) => []) u)) (va_A ([]) sz)) 0 0 (va_A ([]) sz) := by
  refine Met.ofW (cc := cX3_isBatch) (maxL := 5) (ret := (some .boolean)) (by decide) rfl ?_
  intro p e s m args below meth c s₁ BB hml hv
  obtain ⟨rfl, hsz, hP, hK, hD0⟩ := hv
  have hx := BB.exec
  have hb := BB.bytes
  have hr := BB.returns
  have hts := atoms_spec (ws := wsX3_isBatch) BB.pre
  have hown : s.vm.findClass RX3 = some m.cls := findClass_of_methodNamed BB.named
  have hlocks := BB.notSynchronized
  subst hsz
  have hD := hD0.self (sz := s.heap.size)
  generalize hAe : va_A ([]) s.heap.size = A at hD ⊢
  have hA : ∀ q : Nat, s.heap.size ≤ q → A q := fun q h => by rw [← hAe]; exact Or.inr h
  have hS : va_S A s.heap s.heap [] := va_S.rf
  have hl := lv_entry ([.long pr, .int ep, .int sq, .int la]) (n := 5) (Nat.le_of_ble_eq_true rfl)
  rw [lg_entry_eq]
  generalize (lg_sl ([.long pr, .int ep, .int sq, .int la]) ++ List.replicate (5 - (lg_sl ([.long pr, .int ep, .int sq, .int la])).length) Slot.unset).toArray = ls at hl ⊢
  have hl : lv_has ls 5 [(0, .long pr), (2, .int ep), (3, .int sq), (4, .int la)] := hl
  have hP : va_P (dC, dI) classes ([]) s.heap := hP
  refine lv_iload hx hb dX3_isBatch_0 (lv_at hl 3 rfl) ?_
  refine lv_if_lt (tgt := 21) hx hb dX3_isBatch_2 (by decide) (fun c_2 => ?_) (fun c_2 => ?_)
  · refine lv_iconst (v := nI 0) hx hb dX3_isBatch_21 (by decide +kernel) ?_
    exact xh_zret hx hb hr rfl (()) (Or.inr ⟨fun g => g.1 c_2, rfl⟩) hP hK hD hS dX3_isBatch_22 hlocks
  · refine lv_iload hx hb dX3_isBatch_5 (lv_at hl 3 rfl) ?_
    refine lv_sipush (v := nI 999) hx hb dX3_isBatch_7 (by decide +kernel) ?_
    refine lv_icmp_gt (tgt := 21) hx hb dX3_isBatch_10 (by decide) (fun c_10 => ?_) (fun c_10 => ?_)
    · refine lv_iconst (v := nI 0) hx hb dX3_isBatch_21 (by decide +kernel) ?_
      exact xh_zret hx hb hr rfl (()) (Or.inr ⟨fun g => Int32.not_lt.mpr g.2.1 c_10, rfl⟩) hP hK hD hS dX3_isBatch_22 hlocks
    · refine lv_lload_n hx hb dX3_isBatch_13 rfl (lv_at hl 0 rfl) ?_
      refine lv_ldc2 (v := (-1)) hx hb hown (hts (.constantLong RX3 30 (-1)) (mm aw_344)) dX3_isBatch_14 ?_
      refine W.lcmp hx hb dX3_isBatch_17 ?_
      refine lv_if_ge (tgt := 23) hx hb dX3_isBatch_18 (by decide) (fun c_18 => ?_) (fun c_18 => ?_)
      · have cM : -1 ≤ pr := (lg_cmp_ge _ _).mp c_18
        refine lv_lload_n hx hb dX3_isBatch_23 rfl (lv_at hl 0 rfl) ?_
        refine lv_ldc2 (v := (-1)) hx hb hown (hts (.constantLong RX3 30 (-1)) (mm aw_344)) dX3_isBatch_24 ?_
        refine W.lcmp hx hb dX3_isBatch_27 ?_
        refine lv_if_ne (tgt := 49) hx hb dX3_isBatch_28 (by decide) (fun c_28 => ?_) (fun c_28 => ?_)
        · have cP : ¬ pr = -1 := fun g => c_28 ((lg_cmp_eq _ _).mpr g)
          have cQ : ¬ pr < 0 := pb_ge0 cP cM
          refine lv_iload_n hx hb dX3_isBatch_49 rfl (lv_at hl 1 rfl) ?_
          refine lv_if_lt (tgt := 68) hx hb dX3_isBatch_50 (by decide) (fun c_50 => ?_) (fun c_50 => ?_)
          · refine lv_iconst (v := nI 0) hx hb dX3_isBatch_68 (by decide +kernel) ?_
            exact xh_zret hx hb hr rfl (()) (Or.inr ⟨fun g => g.2.2.elim (fun k => cP k.1) (fun k => k.2.2.1 c_50), rfl⟩) hP hK hD hS dX3_isBatch_69 hlocks
          · refine lv_iload_n hx hb dX3_isBatch_53 rfl (lv_at hl 1 rfl) ?_
            refine lv_sipush (v := nI 32767) hx hb dX3_isBatch_54 (by decide +kernel) ?_
            refine lv_icmp_gt (tgt := 68) hx hb dX3_isBatch_57 (by decide) (fun c_57 => ?_) (fun c_57 => ?_)
            · refine lv_iconst (v := nI 0) hx hb dX3_isBatch_68 (by decide +kernel) ?_
              exact xh_zret hx hb hr rfl (()) (Or.inr ⟨fun g => g.2.2.elim (fun k => cP k.1) (fun k => k.2.2.2.1 c_57), rfl⟩) hP hK hD hS dX3_isBatch_69 hlocks
            · refine lv_iload_n hx hb dX3_isBatch_60 rfl (lv_at hl 2 rfl) ?_
              refine lv_if_lt (tgt := 68) hx hb dX3_isBatch_61 (by decide) (fun c_61 => ?_) (fun c_61 => ?_)
              · refine lv_iconst (v := nI 0) hx hb dX3_isBatch_68 (by decide +kernel) ?_
                exact xh_zret hx hb hr rfl (()) (Or.inr ⟨fun g => g.2.2.elim (fun k => cP k.1) (fun k => k.2.2.2.2 c_61), rfl⟩) hP hK hD hS dX3_isBatch_69 hlocks
              · refine lv_iconst (v := nI 1) hx hb dX3_isBatch_64 (by decide +kernel) ?_
                refine lv_goto (tgt := 69) hx hb dX3_isBatch_65 (by decide) ?_
                exact xh_zret hx hb hr rfl (()) (Or.inl ⟨⟨c_2, Int32.not_lt.mp c_10, Or.inr ⟨cP, cQ, c_50, c_57, c_61⟩⟩, rfl⟩) hP hK hD hS dX3_isBatch_69 hlocks
        · have cP : pr = -1 := (lg_cmp_eq _ _).mp c_28
          refine lv_iload_n hx hb dX3_isBatch_31 rfl (lv_at hl 1 rfl) ?_
          refine lv_iconst (v := (-1)) hx hb dX3_isBatch_32 (by decide +kernel) ?_
          refine lv_icmp_ne (tgt := 45) hx hb dX3_isBatch_33 (by decide) (fun c_33 => ?_) (fun c_33 => ?_)
          · refine lv_iconst (v := nI 0) hx hb dX3_isBatch_45 (by decide +kernel) ?_
            refine lv_goto (tgt := 69) hx hb dX3_isBatch_46 (by decide) ?_
            exact xh_zret hx hb hr rfl (()) (Or.inr ⟨fun g => g.2.2.elim (fun k => c_33 k.2.1) (fun k => k.1 cP), rfl⟩) hP hK hD hS dX3_isBatch_69 hlocks
          · refine lv_iload_n hx hb dX3_isBatch_36 rfl (lv_at hl 2 rfl) ?_
            refine lv_iconst (v := (-1)) hx hb dX3_isBatch_37 (by decide +kernel) ?_
            refine lv_icmp_ne (tgt := 45) hx hb dX3_isBatch_38 (by decide) (fun c_38 => ?_) (fun c_38 => ?_)
            · refine lv_iconst (v := nI 0) hx hb dX3_isBatch_45 (by decide +kernel) ?_
              refine lv_goto (tgt := 69) hx hb dX3_isBatch_46 (by decide) ?_
              exact xh_zret hx hb hr rfl (()) (Or.inr ⟨fun g => g.2.2.elim (fun k => c_38 k.2.2) (fun k => k.1 cP), rfl⟩) hP hK hD hS dX3_isBatch_69 hlocks
            · refine lv_iconst (v := nI 1) hx hb dX3_isBatch_41 (by decide +kernel) ?_
              refine lv_goto (tgt := 69) hx hb dX3_isBatch_42 (by decide) ?_
              exact xh_zret hx hb hr rfl (()) (Or.inl ⟨⟨c_2, Int32.not_lt.mp c_10, Or.inl ⟨cP, c_33, c_38⟩⟩, rfl⟩) hP hK hD hS dX3_isBatch_69 hlocks
      · have cM : pr < -1 := Int64.not_le.mp fun g => c_18 ((lg_cmp_ge _ _).mpr g)
        refine lv_iconst (v := nI 0) hx hb dX3_isBatch_21 (by decide +kernel) ?_
        exact xh_zret hx hb hr rfl (()) (Or.inr ⟨fun g => g.2.2.elim (fun k => pb_lt1a cM k.1) (fun k => k.2.1 (pb_lt1b cM)), rfl⟩) hP hK hD hS dX3_isBatch_22 hlocks

set_option maxHeartbeats 4000000 in
set_option maxRecDepth 100000 in
theorem m_knownOne (l : Launch) (dC : Nat → ClassId) (dI : Nat → Nat → Nat) (cI cJ : ClassId) (h : Nat → Nat) (sz : Nat) (B : Nat → Int32) (P : Nat → Int64) (E S L : Nat → Int32) (cd : Int32) (n ed : Nat) (pr : Int64) (j : Nat) (hn : n ≤ 2000) (hp : pr = -1 ∨ ¬ pr < 0) (hj : j ≤ 5) : Met l yX3_knownOne wsX3_knownOne ({ frames := 0, cells := 0, slots := 0, locals := 0 } : Room) (va_Pc [.ref (h 20), .long pr, .int (nI j)] (xP (dC, dI) classes [(cI, FieldType.int), (cJ, FieldType.long)] (wMo cI cJ h B P E S L cd (nI n) (nI ed)) sz)) (va_Qi (fun (r : Int32) (_ : Unit) => r = (if j < pb_kc P n pr then nI (pb_ix P pr n j) else -1)) (fun u => xB (dC, dI) classes [(cI, FieldType.int), (cJ, FieldType.long)] (va_A (wMo cI cJ h B P E S L cd (nI n) (nI ed)) sz) ((fun (_ : Unit) => wMo cI cJ h B P E S L cd (nI n) (nI ed)) u)) (va_A (wMo cI cJ h B P E S L cd (nI n) (nI ed)) sz)) 0 0 (va_A (wMo cI cJ h B P E S L cd (nI n) (nI ed)) sz) := by
  refine Met.ofW (cc := cX3_knownOne) (maxL := 6) (ret := (some .int)) (by decide) rfl ?_
  intro p e s m args below meth c s₁ BB hml hv
  obtain ⟨rfl, hsz, hP, hK, hD0⟩ := hv
  have hx := BB.exec
  have hb := BB.bytes
  have hr := BB.returns
  have hts := atoms_spec (ws := wsX3_knownOne) BB.pre
  have hown : s.vm.findClass RX3 = some m.cls := findClass_of_methodNamed BB.named
  have hlocks := BB.notSynchronized
  subst hsz
  have hD := hD0.self (sz := s.heap.size)
  generalize hAe : va_A (wMo cI cJ h B P E S L cd (nI n) (nI ed)) s.heap.size = A at hD ⊢
  have hA : ∀ q : Nat, s.heap.size ≤ q → A q := fun q h => by rw [← hAe]; exact Or.inr h
  have hS : va_S A s.heap s.heap [] := va_S.rf
  have hl := lv_entry ([.ref (h 20), .long pr, .int (nI j)]) (n := 6) (Nat.le_of_ble_eq_true rfl)
  rw [lg_entry_eq]
  generalize (lg_sl ([.ref (h 20), .long pr, .int (nI j)]) ++ List.replicate (6 - (lg_sl ([.ref (h 20), .long pr, .int (nI j)])).length) Slot.unset).toArray = ls at hl ⊢
  have hl : lv_has ls 6 [(0, .ref (h 20)), (1, .long pr), (3, .int (nI j))] := hl
  have hP : va_P (dC, dI) classes (wMo cI cJ h B P E S L cd (nI n) (nI ed)) s.heap := hP
  have lp11 : ∀ (fuel : Nat) (i lf : Nat) (x : Int32) (H : Heap) (locs : List Loc) (ls : Array Slot), (x = nI i - nI 1) → (i ≤ n) → (lf + pb_cn P pr n = j + pb_cn P pr i) → (lf ≤ 5) → i < fuel → va_P (dC, dI) classes (wMo cI cJ h B P E S L cd (nI n) (nI ed)) H → va_D A (wMo cI cJ h B P E S L cd (nI n) (nI ed)) → va_S A s.heap H locs → lv_has ls 6 [(0, .ref (h 20)), (1, .long pr), (3, .int (nI j)), (4, .int (nI lf)), (5, .int x)] → W p l e ({ frames := 0, cells := 0, slots := 0, locals := 0 } : Room) s m ([.ref (h 20), .long pr, .int (nI j)] : List Value).toArray below meth c H locs 0 0 (MQ below (va_Qi (fun (r : Int32) (_ : Unit) => r = (if j < pb_kc P n pr then nI (pb_ix P pr n j) else -1)) (fun u => xB (dC, dI) classes [(cI, FieldType.int), (cJ, FieldType.long)] A ((fun (_ : Unit) => wMo cI cJ h B P E S L cd (nI n) (nI ed)) u)) A) ([.ref (h 20), .long pr, .int (nI j)] : List Value).toArray s 0 0 A) (F0 m 11 ls []) := by
    intro fuel
    induction fuel with
    | zero => intro i lf x H locs ls ex hi hlf hlj hfuel; exact absurd hfuel (Nat.not_lt_zero _)
    | succ fuel ih =>
      intro i lf x H locs ls ex hi hlf hlj hfuel hP hD hS hl
      cases i with
      | zero =>
        have hx0 : x < 0 := by rw [ex]; decide
        have h0 : pb_cn P pr 0 = 0 := rfl
        refine lv_iload hx hb dX3_knownOne_11 (lv_at hl 4 rfl) ?_
        refine lv_if_lt (tgt := 56) hx hb dX3_knownOne_13 (by decide) (fun c_13 => ?_) (fun c_13 => ?_)
        · refine lv_iconst (v := (-1)) hx hb dX3_knownOne_56 (by decide +kernel) ?_
          exact xh_iret hx hb hr (()) ((if_neg (fun g => absurd (pb_kc_lt g).2.2 (by omega))).symm) hP hK hD hS dX3_knownOne_57 hlocks
        · exact absurd hx0 c_13
      | succ i =>
        have ex2 : x = nI i := ex.trans (pk_sub (Nat.le_add_left 1 i))
        subst ex2
        refine lv_iload hx hb dX3_knownOne_11 (lv_at hl 4 rfl) ?_
        refine lv_if_lt (tgt := 56) hx hb dX3_knownOne_13 (by decide) (fun c_13 => ?_) (fun c_13 => ?_)
        · exact absurd c_13 (nI_pos (by omega))
        · refine lv_iload_n hx hb dX3_knownOne_16 rfl (lv_at hl 2 rfl) ?_
          refine lv_iconst (v := nI 5) hx hb dX3_knownOne_17 (by decide +kernel) ?_
          refine lv_icmp_ge (tgt := 56) hx hb dX3_knownOne_18 (by decide) (fun c_18 => ?_) (fun c_18 => ?_)
          · have c5 := (nI_leI (by decide) (by omega)).mp c_18
            refine lv_iconst (v := (-1)) hx hb dX3_knownOne_56 (by decide +kernel) ?_
            exact xh_iret hx hb hr (()) ((if_neg (fun g => absurd (pb_kc_lt g).2.1 (by omega))).symm) hP hK hD hS dX3_knownOne_57 hlocks
          · have c5 : j < 5 := Nat.lt_of_not_le fun g => c_18 ((nI_leI (by decide) (by omega)).mpr g)
            refine lv_lload_n hx hb dX3_knownOne_21 rfl (lv_at hl 1 rfl) ?_
            refine lv_lconst (v := 0) hx hb dX3_knownOne_22 (by decide) ?_
            refine W.lcmp hx hb dX3_knownOne_23 ?_
            refine lv_if_lt (tgt := 56) hx hb dX3_knownOne_24 (by decide) (fun c_24 => ?_) (fun c_24 => ?_)
            · have cQ : pr < 0 := (lg_cmp_lt _ _).mp c_24
              refine lv_iconst (v := (-1)) hx hb dX3_knownOne_56 (by decide +kernel) ?_
              exact xh_iret hx hb hr (()) ((if_neg (fun g => hp.elim (pb_kc_lt g).1 (fun k => k cQ))).symm) hP hK hD hS dX3_knownOne_57 hlocks
            · have cQ : ¬ pr < 0 := fun g => c_24 ((lg_cmp_lt _ _).mpr g)
              refine lv_aload_n hx hb dX3_knownOne_27 rfl (lv_at hl 0 rfl) ?_
              refine va_get (D := (dC, dI)) (ci := 3) (v := .ref (h 22)) (C := RX3) (T := TX3) (N := 8) hx hb hts (fun w9 h9 => mm (inX3 w9 h9)) hown hK hP 0 rfl rfl 4 (by decide) (hts (.fieldLink RX3 13 "ProducerBookModel" "producer" "[J") (mm aw_312)) (fun _ h9 => h9) rfl dX3_knownOne_28 ?_
              refine lv_iload hx hb dX3_knownOne_31 (lv_at hl 4 rfl) ?_
              refine xh_lald hx hb hK hP 2 1 rfl rfl (k := i) (by omega) (by decide) dX3_knownOne_33 ?_
              refine lv_lload_n hx hb dX3_knownOne_34 rfl (lv_at hl 1 rfl) ?_
              refine W.lcmp hx hb dX3_knownOne_35 ?_
              refine lv_if_ne (tgt := 50) hx hb dX3_knownOne_36 (by decide) (fun c_36 => ?_) (fun c_36 => ?_)
              · have cP : ¬ P i = pr := fun g => c_36 ((lg_cmp_eq _ _).mpr g)
                refine lv_iinc (v := nI i - nI 1) (lv' := [(5, .int (nI i - nI 1)), (0, .ref (h 20)), (1, .long pr), (3, .int (nI j)), (4, .int (nI lf))]) hx hb dX3_knownOne_50 hl (k := 4) rfl (by exact (pb_m1 i).symm) (by decide) rfl (fun ls hl => ?_)
                refine lv_goto (tgt := 11) hx hb dX3_knownOne_53 (by decide) ?_
                exact ih i lf _ _ _ _ rfl (by omega) (by rw [pb_cn_n cP] at hlf; exact hlf) (by omega) (by omega) hP hD hS (lv_sub hl [1, 2, 3, 4, 0] rfl)
              · have cP : P i = pr := (lg_cmp_eq _ _).mp c_36
                have hy := pb_cn_y cP
                refine lv_iload hx hb dX3_knownOne_39 (lv_at hl 3 rfl) ?_
                refine lv_if_ne (tgt := 47) hx hb dX3_knownOne_41 (by decide) (fun c_41 => ?_) (fun c_41 => ?_)
                · have l0 : ¬ lf = 0 := fun g => c_41 (by rw [g]; rfl)
                  refine lv_iinc (v := nI (lf - 1)) (lv' := [(4, .int (nI (lf - 1))), (0, .ref (h 20)), (1, .long pr), (3, .int (nI j)), (5, .int (nI i))]) hx hb dX3_knownOne_47 hl (k := 3) rfl (by exact sb_m1 (by omega)) (by decide) rfl (fun ls hl => ?_)
                  refine lv_iinc (v := nI i - nI 1) (lv' := [(5, .int (nI i - nI 1)), (4, .int (nI (lf - 1))), (0, .ref (h 20)), (1, .long pr), (3, .int (nI j))]) hx hb dX3_knownOne_50 hl (k := 4) rfl (by exact (pb_m1 i).symm) (by decide) rfl (fun ls hl => ?_)
                  refine lv_goto (tgt := 11) hx hb dX3_knownOne_53 (by decide) ?_
                  exact ih i (lf - 1) _ _ _ _ rfl (by omega) (by omega) (by omega) (by omega) hP hD hS (lv_sub hl [2, 3, 4, 1, 0] rfl)
                · have l0 : lf = 0 := (nI_eq (by omega) (by decide)).mp (c_41.trans nI_0.symm)
                  refine lv_iload hx hb dX3_knownOne_44 (lv_at hl 4 rfl) ?_
                  exact xh_iret hx hb hr (()) ((pb_k1 c5 cQ ⟨by omega, cP, by omega⟩).symm) hP hK hD hS dX3_knownOne_46 hlocks
  refine lv_iload_n hx hb dX3_knownOne_0 rfl (lv_at hl 2 rfl) ?_
  refine lv_istore (lv' := [(4, .int (nI j)), (0, .ref (h 20)), (1, .long pr), (3, .int (nI j))]) hx hb dX3_knownOne_1 hl (by decide) rfl (fun ls hl => ?_)
  refine lv_aload_n hx hb dX3_knownOne_3 rfl (lv_at hl 1 rfl) ?_
  refine va_get (D := (dC, dI)) (ci := 3) (v := .int (nI n)) (C := RX3) (T := TX3) (N := 8) hx hb hts (fun w9 h9 => mm (inX3 w9 h9)) hown hK hP 0 rfl rfl 1 (by decide) (hts (.fieldLink RX3 32 "ProducerBookModel" "count" "I") (mm aw_309)) (fun _ h9 => h9) rfl dX3_knownOne_4 ?_
  refine lv_iconst (v := nI 1) hx hb dX3_knownOne_7 (by decide +kernel) ?_
  refine lv_isub hx hb dX3_knownOne_8 ?_
  refine lv_istore (lv' := [(5, .int ((nI n) - (nI 1))), (4, .int (nI j)), (0, .ref (h 20)), (1, .long pr), (3, .int (nI j))]) hx hb dX3_knownOne_9 hl (by decide) rfl (fun ls hl => ?_)
  exact lp11 (n + 1) n j _ _ _ _ rfl (Nat.le_refl n) rfl hj (by omega) hP hD hS (lv_sub hl [2, 3, 4, 1, 0] rfl)

set_option maxHeartbeats 4000000 in
set_option maxRecDepth 100000 in
theorem m_after (l : Launch) (dC : Nat → ClassId) (dI : Nat → Nat → Nat) (cI cJ : ClassId) (h : Nat → Nat) (sz : Nat) (x y : Int32) (hx0 : ¬ x < 0) (hy0 : ¬ y < 0) (hy1 : y ≤ nI 999) : Met l yX3_after wsX3_after ({ frames := 0, cells := 0, slots := 0, locals := 0 } : Room) (va_Pc [.int x, .int y] (xP (dC, dI) classes [(cI, FieldType.int), (cJ, FieldType.long)] ([]) sz)) (va_Qi (fun (r : Int32) (_ : Unit) => r = pb_nx x y) (fun u => xB (dC, dI) classes [(cI, FieldType.int), (cJ, FieldType.long)] (va_A ([]) sz) ((fun (_ : Unit) => []) u)) (va_A ([]) sz)) 0 0 (va_A ([]) sz) := by
  refine Met.ofW (cc := cX3_after) (maxL := 4) (ret := (some .int)) (by decide) rfl ?_
  intro p e s m args below meth c s₁ BB hml hv
  obtain ⟨rfl, hsz, hP, hK, hD0⟩ := hv
  have hx := BB.exec
  have hb := BB.bytes
  have hr := BB.returns
  have hts := atoms_spec (ws := wsX3_after) BB.pre
  have hown : s.vm.findClass RX3 = some m.cls := findClass_of_methodNamed BB.named
  have hlocks := BB.notSynchronized
  subst hsz
  have hD := hD0.self (sz := s.heap.size)
  generalize hAe : va_A ([]) s.heap.size = A at hD ⊢
  have hA : ∀ q : Nat, s.heap.size ≤ q → A q := fun q h => by rw [← hAe]; exact Or.inr h
  have hS : va_S A s.heap s.heap [] := va_S.rf
  have hl := lv_entry ([.int x, .int y]) (n := 4) (Nat.le_of_ble_eq_true rfl)
  rw [lg_entry_eq]
  generalize (lg_sl ([.int x, .int y]) ++ List.replicate (4 - (lg_sl ([.int x, .int y])).length) Slot.unset).toArray = ls at hl ⊢
  have hl : lv_has ls 4 [(0, .int x), (1, .int y)] := hl
  have hP : va_P (dC, dI) classes ([]) s.heap := hP
  obtain ⟨b9, hb9, ex⟩ := nI_of hx0
  obtain ⟨a9, ha9, ey⟩ := nI_of2 (M := nI 999) (n := 999) (by decide) hy0 hy1
  rw [ex, ey] at hl
  refine lv_iload_n hx hb dX3_after_0 rfl (lv_at hl 0 rfl) ?_
  refine lv_i2l (v := (nI b9).toInt64) hx hb dX3_after_1 rfl ?_
  refine xh_topl (z := lN b9) (nI_l hb9) ?_
  refine lv_iload_n hx hb dX3_after_2 rfl (lv_at hl 1 rfl) ?_
  refine lv_i2l (v := (nI a9).toInt64) hx hb dX3_after_3 rfl ?_
  refine xh_topl (z := lN a9) (nI_l (by omega)) ?_
  refine lv_ladd hx hb dX3_after_4 ?_
  refine xh_topl (z := lN (b9 + a9)) (lN_add b9 a9) ?_
  refine lv_lconst (v := 1) hx hb dX3_after_5 (by decide) ?_
  refine lv_ladd hx hb dX3_after_6 ?_
  refine xh_topl (z := lN (b9 + a9 + 1)) (lN_1 _) ?_
  refine lv_lstore_n (lv' := [(2, .long (lN (b9 + a9 + 1))), (0, .int (nI b9)), (1, .int (nI a9))]) hx hb dX3_after_7 rfl hl (by decide) rfl (fun ls hl => ?_)
  refine lv_lload_n hx hb dX3_after_8 rfl (lv_at hl 0 rfl) ?_
  refine lv_ldc2 (v := 2147483648) hx hb hown (hts (.constantLong RX3 35 2147483648) (mm aw_356)) dX3_after_9 ?_
  refine lv_lrem hx hb dX3_after_12 (by decide) ?_
  refine xh_topl (z := lN ((b9 + a9 + 1) % 2147483648)) (pk_lRem (b := 2147483648) (by omega) (by decide) (by decide)) ?_
  refine lv_l2i (v := (lN ((b9 + a9 + 1) % 2147483648)).toInt32) hx hb dX3_after_13 rfl ?_
  refine xh_topi (z := pb_nx x y) (by rw [lN_i, ex, ey]; exact pb_nxN (by omega)) ?_
  exact xh_iret hx hb hr (()) (rfl) hP hK hD hS dX3_after_14 hlocks
