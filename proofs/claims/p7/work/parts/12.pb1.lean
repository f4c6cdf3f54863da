set_option maxHeartbeats 4000000 in
set_option maxRecDepth 100000 in
/-- sequenceBehind(x, y) -/
theorem c_PB_seq (l : Launch) (dC : Nat → ClassId) (dI : Nat → Nat → Nat) (cI cJ : ClassId) (h : Nat → Nat) (sz : Nat) (x y : Int32)  : Met l yX2_sequenceBehind wsX2_sequenceBehind ({ frames := 0, cells := 0, slots := 0, locals := 0 } : Room) (va_Pc [.int x, .int y] (xP (dC, dI) classes [(cI, FieldType.int), (cJ, FieldType.long)] ([]) sz)) (va_Qi (fun (r : Int32) (_ : Unit) => r = pb_nx x y) (fun u => xB (dC, dI) classes [(cI, FieldType.int), (cJ, FieldType.long)] (va_A ([]) sz) ((fun (_ : Unit) => []) u)) (va_A ([]) sz)) 0 0 (va_A ([]) sz) := by
  refine Met.ofW (cc := cX2_sequenceBehind) (maxL := 2) (ret := (some .int)) (by decide) rfl ?_
  intro p e s m args below meth c s₁ BB hml hv
  obtain ⟨rfl, hsz, hP, hK, hD0⟩ := hv
  have hx := BB.exec
  have hb := BB.bytes
  have hr := BB.returns
  have hts := atoms_spec (ws := wsX2_sequenceBehind) BB.pre
  have hown : s.vm.findClass RX2 = some m.cls := findClass_of_methodNamed BB.named
  have hlocks := BB.notSynchronized
  subst hsz
  have hD := hD0.self (sz := s.heap.size)
  generalize hAe : va_A ([]) s.heap.size = A at hD ⊢
  have hA : ∀ q : Nat, s.heap.size ≤ q → A q := fun q h => by rw [← hAe]; exact Or.inr h
  have hS : va_S A s.heap s.heap [] := va_S.rf
  have hl := lv_entry ([.int x, .int y]) (n := 2) (Nat.le_of_ble_eq_true rfl)
  rw [lg_entry_eq]
  generalize (lg_sl ([.int x, .int y]) ++ List.replicate (2 - (lg_sl ([.int x, .int y])).length) Slot.unset).toArray = ls at hl ⊢
  have hl : lv_has ls 2 [(0, .int x), (1, .int y)] := hl
  have hP : va_P (dC, dI) classes ([]) s.heap := hP
  refine lv_iload_n hx hb dX2_sequenceBehind_0 rfl (lv_at hl 0 rfl) ?_
  refine lv_iload_n hx hb dX2_sequenceBehind_1 rfl (lv_at hl 1 rfl) ?_
  refine lv_iadd hx hb dX2_sequenceBehind_2 ?_
  refine lv_iconst (v := nI 1) hx hb dX2_sequenceBehind_3 (by decide +kernel) ?_
  refine lv_iadd hx hb dX2_sequenceBehind_4 ?_
  refine lv_ldc (v := nI 2147483647) hx hb hown (hts (.constant RX2 115 (nI 2147483647)) (mm aw_209)) dX2_sequenceBehind_5 ?_
  refine lv_iand hx hb dX2_sequenceBehind_7 ?_
  exact xh_iret hx hb hr (()) (rfl) hP hK hD hS dX2_sequenceBehind_8 hlocks

set_option maxHeartbeats 4000000 in
set_option maxRecDepth 100000 in
/-- isLegal(pr, ep, sq, la) -/
theorem c_PB_isLegal (l : Launch) (dC : Nat → ClassId) (dI : Nat → Nat → Nat) (cI cJ : ClassId) (h : Nat → Nat) (sz : Nat) (pr : Int64) (ep sq la : Int32)  : Met l yX2_isLegal wsX2_isLegal ({ frames := 0, cells := 0, slots := 0, locals := 0 } : Room) (va_Pc [.long pr, .int ep, .int sq, .int la] (xP (dC, dI) classes [(cI, FieldType.int), (cJ, FieldType.long)] ([]) sz)) (va_Qi (fun (r : Int32) (_ : Unit) => (pb_leg pr ep sq la ∧ r = nI 1) ∨ (¬ pb_leg pr ep sq la ∧ r = nI 0)) (fun u => xB (dC, dI) classes [(cI, FieldType.int), (cJ, FieldType.long)] (va_A ([]) sz) ((fun (_ : Unit) => []) u)) (va_A ([]) sz)) 0 0 (va_A ([]) sz) := by
  refine Met.ofW (cc := cX2_isLegal) (maxL := 5) (ret := (some .boolean)) (by decide) rfl ?_
  intro p e s m args below meth c s₁ BB hml hv
  obtain ⟨rfl, hsz, hP, hK, hD0⟩ := hv
  have hx := BB.exec
  have hb := BB.bytes
  have hr := BB.returns
  have hts := atoms_spec (ws := wsX2_isLegal) BB.pre
  have hown : s.vm.findClass RX2 = some m.cls := findClass_of_methodNamed BB.named
  have hlocks := BB.notSynchronized
  subst hsz
  have hD := hD0.self (sz := s.heap.size)
  generalize hAe : va_A ([]) s.heap.size = A at hD ⊢
  have hA : ∀ q : Nat, s.heap.size ≤ q → A q := fun q h => by rw [← hAe]; exact Or.inr h
  have hS : va_S A s.heap s.heap [] := va_S.rf
  have hl := lv_entry ([.long pr, .int ep, .int sq, .int la]) (n := 5) (Nat.le_of_ble_eq_true rfl)
  rw [lg_entry_eq]
  generalize (lg_sl ([.long pr, .int ep, .int sq, .int la]) ++ List.replicate (5 - (lg_sl ([.long pr, .int ep, .int sq, .int la])).length) Slot.unset).toArray = ls at hl ⊢
  have hl : lv_has ls 5 [(0, .long pr), (2, .int ep), (3, .int sq), (4, .int la)] := hl
  have hP : va_P (dC, dI) classes ([]) s.heap := hP
  refine lv_iload hx hb dX2_isLegal_0 (lv_at hl 3 rfl) ?_
  refine lv_if_lt (tgt := 13) hx hb dX2_isLegal_2 (by decide) (fun c_2 => ?_) (fun c_2 => ?_)
  · refine lv_iconst (v := nI 0) hx hb dX2_isLegal_13 (by decide +kernel) ?_
    exact xh_zret hx hb hr rfl (()) (Or.inr ⟨fun g => g.1 c_2, rfl⟩) hP hK hD hS dX2_isLegal_14 hlocks
  · refine lv_iload hx hb dX2_isLegal_5 (lv_at hl 3 rfl) ?_
    refine lv_sipush (v := nI 999) hx hb dX2_isLegal_7 (by decide +kernel) ?_
    refine lv_icmp_le (tgt := 15) hx hb dX2_isLegal_10 (by decide) (fun c_10 => ?_) (fun c_10 => ?_)
    · refine lv_lload_n hx hb dX2_isLegal_15 rfl (lv_at hl 0 rfl) ?_
      refine lv_ldc2 (v := (-1)) hx hb hown (hts (.constantLong RX2 113 (-1)) (mm aw_114)) dX2_isLegal_16 ?_
      refine W.lcmp hx hb dX2_isLegal_19 ?_
      refine lv_if_ne (tgt := 39) hx hb dX2_isLegal_20 (by decide) (fun c_20 => ?_) (fun c_20 => ?_)
      · have cP : ¬ pr = -1 := fun g => c_20 ((lg_cmp_eq _ _).mpr g)
        refine lv_lload_n hx hb dX2_isLegal_39 rfl (lv_at hl 0 rfl) ?_
        refine lv_lconst (v := 0) hx hb dX2_isLegal_40 (by decide) ?_
        refine W.lcmp hx hb dX2_isLegal_41 ?_
        refine lv_if_lt (tgt := 64) hx hb dX2_isLegal_42 (by decide) (fun c_42 => ?_) (fun c_42 => ?_)
        · have cQ : pr < 0 := (lg_cmp_lt _ _).mp c_42
          refine lv_iconst (v := nI 0) hx hb dX2_isLegal_64 (by decide +kernel) ?_
          exact xh_zret hx hb hr rfl (()) (Or.inr ⟨fun g => g.2.2.elim (fun k => cP k.1) (fun k => k.2.1 cQ), rfl⟩) hP hK hD hS dX2_isLegal_65 hlocks
        · have cQ : ¬ pr < 0 := fun g => c_42 ((lg_cmp_lt _ _).mpr g)
          refine lv_iload_n hx hb dX2_isLegal_45 rfl (lv_at hl 1 rfl) ?_
          refine lv_if_lt (tgt := 64) hx hb dX2_isLegal_46 (by decide) (fun c_46 => ?_) (fun c_46 => ?_)
          · refine lv_iconst (v := nI 0) hx hb dX2_isLegal_64 (by decide +kernel) ?_
            exact xh_zret hx hb hr rfl (()) (Or.inr ⟨fun g => g.2.2.elim (fun k => cP k.1) (fun k => k.2.2.1 c_46), rfl⟩) hP hK hD hS dX2_isLegal_65 hlocks
          · refine lv_iload_n hx hb dX2_isLegal_49 rfl (lv_at hl 1 rfl) ?_
            refine lv_sipush (v := nI 32767) hx hb dX2_isLegal_50 (by decide +kernel) ?_
            refine lv_icmp_gt (tgt := 64) hx hb dX2_isLegal_53 (by decide) (fun c_53 => ?_) (fun c_53 => ?_)
            · refine lv_iconst (v := nI 0) hx hb dX2_isLegal_64 (by decide +kernel) ?_
              exact xh_zret hx hb hr rfl (()) (Or.inr ⟨fun g => g.2.2.elim (fun k => cP k.1) (fun k => k.2.2.2.1 c_53), rfl⟩) hP hK hD hS dX2_isLegal_65 hlocks
            · refine lv_iload_n hx hb dX2_isLegal_56 rfl (lv_at hl 2 rfl) ?_
              refine lv_if_lt (tgt := 64) hx hb dX2_isLegal_57 (by decide) (fun c_57 => ?_) (fun c_57 => ?_)
              · refine lv_iconst (v := nI 0) hx hb dX2_isLegal_64 (by decide +kernel) ?_
                exact xh_zret hx hb hr rfl (()) (Or.inr ⟨fun g => g.2.2.elim (fun k => cP k.1) (fun k => k.2.2.2.2 c_57), rfl⟩) hP hK hD hS dX2_isLegal_65 hlocks
              · refine lv_iconst (v := nI 1) hx hb dX2_isLegal_60 (by decide +kernel) ?_
                refine lv_goto (tgt := 65) hx hb dX2_isLegal_61 (by decide) ?_
                exact xh_zret hx hb hr rfl (()) (Or.inl ⟨⟨c_2, c_10, Or.inr ⟨cP, cQ, c_46, c_53, c_57⟩⟩, rfl⟩) hP hK hD hS dX2_isLegal_65 hlocks
      · have cP : pr = -1 := (lg_cmp_eq _ _).mp c_20
        refine lv_iload_n hx hb dX2_isLegal_23 rfl (lv_at hl 1 rfl) ?_
        refine lv_iconst (v := (-1)) hx hb dX2_isLegal_24 (by decide +kernel) ?_
        refine lv_icmp_ne (tgt := 37) hx hb dX2_isLegal_25 (by decide) (fun c_25 => ?_) (fun c_25 => ?_)
        · refine lv_iconst (v := nI 0) hx hb dX2_isLegal_37 (by decide +kernel) ?_
          exact xh_zret hx hb hr rfl (()) (Or.inr ⟨fun g => g.2.2.elim (fun k => c_25 k.2.1) (fun k => k.1 cP), rfl⟩) hP hK hD hS dX2_isLegal_38 hlocks
        · refine lv_iload_n hx hb dX2_isLegal_28 rfl (lv_at hl 2 rfl) ?_
          refine lv_iconst (v := (-1)) hx hb dX2_isLegal_29 (by decide +kernel) ?_
          refine lv_icmp_ne (tgt := 37) hx hb dX2_isLegal_30 (by decide) (fun c_30 => ?_) (fun c_30 => ?_)
          · refine lv_iconst (v := nI 0) hx hb dX2_isLegal_37 (by decide +kernel) ?_
            exact xh_zret hx hb hr rfl (()) (Or.inr ⟨fun g => g.2.2.elim (fun k => c_30 k.2.2) (fun k => k.1 cP), rfl⟩) hP hK hD hS dX2_isLegal_38 hlocks
          · refine lv_iconst (v := nI 1) hx hb dX2_isLegal_33 (by decide +kernel) ?_
            refine lv_goto (tgt := 38) hx hb dX2_isLegal_34 (by decide) ?_
            exact xh_zret hx hb hr rfl (()) (Or.inl ⟨⟨c_2, c_10, Or.inl ⟨cP, c_25, c_30⟩⟩, rfl⟩) hP hK hD hS dX2_isLegal_38 hlocks
    · refine lv_iconst (v := nI 0) hx hb dX2_isLegal_13 (by decide +kernel) ?_
      exact xh_zret hx hb hr rfl (()) (Or.inr ⟨fun g => c_10 g.2.1, rfl⟩) hP hK hD hS dX2_isLegal_14 hlocks

set_option maxHeartbeats 4000000 in
set_option maxRecDepth 100000 in
/-- answerOfKnown(ep, sq, la) -/
theorem c_PB_answer (l : Launch) (dC : Nat → ClassId) (dI : Nat → Nat → Nat) (cI cJ : ClassId) (h : Nat → Nat) (sz : Nat) (B : Nat → Int32) (P : Nat → Int64) (E S L N : Nat → Int32) (n ed : Nat) (q : Nat) (F : Nat → Int32) (ks : Nat → Nat) (ep sq la : Int32) (hq : q ≤ 5) (hF : ∀ j, j < q → F j = nI (ks j) ∧ ks j < 2000) : Met l yX2_answerOfKnown wsX2_answerOfKnown ({ frames := 1, cells := 0, slots := 0, locals := 60 } : Room) (va_Pc [.ref (h 0), .int ep, .int sq, .int la] (xP (dC, dI) classes [(cI, FieldType.int), (cJ, FieldType.long)] (wPB h ++ wLog cI cJ h B P E S L N (nI n) (nI ed) ++ wKn cI h (nI q) F) sz)) (va_Qi (fun (r : Int32) (_ : Unit) => r = pb_ans B E S L q ks ep sq la) (fun u => xB (dC, dI) classes [(cI, FieldType.int), (cJ, FieldType.long)] (va_A (wPB h ++ wLog cI cJ h B P E S L N (nI n) (nI ed) ++ wKn cI h (nI q) F) sz) ((fun (_ : Unit) => wPB h ++ wLog cI cJ h B P E S L N (nI n) (nI ed) ++ wKn cI h (nI q) F) u)) (va_A (wPB h ++ wLog cI cJ h B P E S L N (nI n) (nI ed) ++ wKn cI h (nI q) F) sz)) 0 0 (va_A (wPB h ++ wLog cI cJ h B P E S L N (nI n) (nI ed) ++ wKn cI h (nI q) F) sz) := by
  refine Met.ofW (cc := cX2_answerOfKnown) (maxL := 8) (ret := (some .int)) (by decide) rfl ?_
  intro p e s m args below meth c s₁ BB hml hv
  obtain ⟨rfl, hsz, hP, hK, hD0⟩ := hv
  have hx := BB.exec
  have hb := BB.bytes
  have hr := BB.returns
  have hts := atoms_spec (ws := wsX2_answerOfKnown) BB.pre
  have hown : s.vm.findClass RX2 = some m.cls := findClass_of_methodNamed BB.named
  have hlocks := BB.notSynchronized
  subst hsz
  have hD := hD0.self (sz := s.heap.size)
  generalize hAe : va_A (wPB h ++ wLog cI cJ h B P E S L N (nI n) (nI ed) ++ wKn cI h (nI q) F) s.heap.size = A at hD ⊢
  have hA : ∀ q : Nat, s.heap.size ≤ q → A q := fun q h => by rw [← hAe]; exact Or.inr h
  have hS : va_S A s.heap s.heap [] := va_S.rf
  have hl := lv_entry ([.ref (h 0), .int ep, .int sq, .int la]) (n := 8) (Nat.le_of_ble_eq_true rfl)
  rw [lg_entry_eq]
  generalize (lg_sl ([.ref (h 0), .int ep, .int sq, .int la]) ++ List.replicate (8 - (lg_sl ([.ref (h 0), .int ep, .int sq, .int la])).length) Slot.unset).toArray = ls at hl ⊢
  have hl : lv_has ls 8 [(0, .ref (h 0)), (1, .int ep), (2, .int sq), (3, .int la)] := hl
  have hP : va_P (dC, dI) classes (wPB h ++ wLog cI cJ h B P E S L N (nI n) (nI ed) ++ wKn cI h (nI q) F) s.heap := hP
  refine lv_aload_n hx hb dX2_answerOfKnown_0 rfl (lv_at hl 0 rfl) ?_
  refine va_get (D := (dC, dI)) (ci := 2) (v := .ref (h 8)) (C := RX2) (T := TX2) (N := 2) hx hb hts (fun w9 h9 => mm (inX2 w9 h9)) hown hK hP 0 rfl rfl 1 (by decide) (hts (.fieldLink RX2 19 "ProducerBook" "recalled" "LProducerBook$Known;") (mm aw_77)) (fun _ h9 => h9) rfl dX2_answerOfKnown_1 ?_
  refine va_get (D := (dC, dI)) (ci := 0) (v := .int (nI q)) (C := RX0) (T := TX0) (N := 2) hx hb hts (fun w9 h9 => mm (inX0 w9 h9)) hown hK hP 8 rfl rfl 1 (by decide) (hts (.fieldLink RX2 75 "ProducerBook$Known" "size" "I") (mm aw_70)) (fun _ h9 => h9) rfl dX2_answerOfKnown_4 ?_
  refine lv_if_ne (tgt := 12) hx hb dX2_answerOfKnown_7 (by decide) (fun c_7 => ?_) (fun c_7 => ?_)
  · have q0 : ¬ q = 0 := fun g => c_7 (by rw [g]; rfl)
    obtain ⟨hF0, hk0⟩ := hF 0 (by omega)
    refine lv_aload_n hx hb dX2_answerOfKnown_12 rfl (lv_at hl 0 rfl) ?_
    refine va_get (D := (dC, dI)) (ci := 2) (v := .ref (h 8)) (C := RX2) (T := TX2) (N := 2) hx hb hts (fun w9 h9 => mm (inX2 w9 h9)) hown hK hP 0 rfl rfl 1 (by decide) (hts (.fieldLink RX2 19 "ProducerBook" "recalled" "LProducerBook$Known;") (mm aw_77)) (fun _ h9 => h9) rfl dX2_answerOfKnown_13 ?_
    refine xh_calli (wc := wKn cI h (nI q) F) (wr := wPB h ++ wLog cI cJ h B P E S L N (nI n) (nI ed)) (w1 := fun (u : Unit) => wKn cI h (nI q) F) hP hD hS hA [8, 9] [0, 1, 2, 3, 4, 5, 6, 7] rfl rfl (by decide) (by decide) (va_runV (As := []) (rest := []) ⟨hx, hb, hml, hown, hts⟩ (c_Kn_latest l dC dI cI cJ h s.heap.size q F) (cwV 0 hts (aw_V aw_198 aw_199 aw_200 aw_3 aw_201) rfl rfl rfl (by decide +kernel) ⟨Nat.le_of_ble_eq_true rfl, Nat.le_of_ble_eq_true rfl⟩) (xh_preV (r0 := 0) hK (hP.sub (ws' := wKn cI h (nI q) F) [8, 9] rfl) (hD.sub (ws' := wKn cI h (nI q) F) [8, 9] (by decide) rfl) rfl rfl rfl) rfl rfl hl.1 rfl (lv_room (Nat.le_of_ble_eq_true rfl)) dX2_answerOfKnown_16 ⟨Nat.le_of_ble_eq_true rfl, Nat.le_of_ble_eq_true rfl⟩) (fun r_1 u H locs hw hP hD hS => ?_)
    have hP : va_P (dC, dI) classes (wPB h ++ wLog cI cJ h B P E S L N (nI n) (nI ed) ++ wKn cI h (nI q) F) H := hP
    have hD : va_D A (wPB h ++ wLog cI cJ h B P E S L N (nI n) (nI ed) ++ wKn cI h (nI q) F) := hD
    refine xh_topi (z := nI (ks 0)) (hw.trans hF0) ?_
    refine lv_istore (lv' := [(4, .int (nI (ks 0))), (0, .ref (h 0)), (1, .int ep), (2, .int sq), (3, .int la)]) hx hb dX2_answerOfKnown_19 hl (by decide) rfl (fun ls hl => ?_)
    refine lv_aload_n hx hb dX2_answerOfKnown_21 rfl (lv_at hl 1 rfl) ?_
    refine va_get (D := (dC, dI)) (ci := 2) (v := .ref (h 1)) (C := RX2) (T := TX2) (N := 2) hx hb hts (fun w9 h9 => mm (inX2 w9 h9)) hown hK hP 0 rfl rfl 0 (by decide) (hts (.fieldLink RX2 10 "ProducerBook" "log" "LProducerBook$Log;") (mm aw_76)) (fun _ h9 => h9) rfl dX2_answerOfKnown_22 ?_
    refine va_get (D := (dC, dI)) (ci := 1) (v := .ref (h 4)) (C := RX1) (T := TX1) (N := 8) hx hb hts (fun w9 h9 => mm (inX1 w9 h9)) hown hK hP 1 rfl rfl 2 (by decide) (hts (.fieldLink RX2 79 "ProducerBook$Log" "epoch" "[I") (mm aw_31)) (fun _ h9 => h9) rfl dX2_answerOfKnown_25 ?_
    refine lv_iload hx hb dX2_answerOfKnown_28 (lv_at hl 0 rfl) ?_
    refine xh_iald hx hb hK hP 4 0 rfl rfl (k := ks 0) (hk0) (by decide) dX2_answerOfKnown_30 ?_
    refine lv_istore (lv' := [(5, .int (E (ks 0))), (4, .int (nI (ks 0))), (0, .ref (h 0)), (1, .int ep), (2, .int sq), (3, .int la)]) hx hb dX2_answerOfKnown_31 hl (by decide) rfl (fun ls hl => ?_)
    refine lv_iload_n hx hb dX2_answerOfKnown_33 rfl (lv_at hl 3 rfl) ?_
    refine lv_iload hx hb dX2_answerOfKnown_34 (lv_at hl 0 rfl) ?_
    refine lv_icmp_ge (tgt := 42) hx hb dX2_answerOfKnown_36 (by decide) (fun c_36 => ?_) (fun c_36 => ?_)
    · have cE : ¬ ep < E (ks 0) := Int32.not_lt.mpr c_36
      refine lv_aload_n hx hb dX2_answerOfKnown_42 rfl (lv_at hl 2 rfl) ?_
      refine va_get (D := (dC, dI)) (ci := 2) (v := .ref (h 1)) (C := RX2) (T := TX2) (N := 2) hx hb hts (fun w9 h9 => mm (inX2 w9 h9)) hown hK hP 0 rfl rfl 0 (by decide) (hts (.fieldLink RX2 10 "ProducerBook" "log" "LProducerBook$Log;") (mm aw_76)) (fun _ h9 => h9) rfl dX2_answerOfKnown_43 ?_
      refine lv_aload_n hx hb dX2_answerOfKnown_46 rfl (lv_at hl 2 rfl) ?_
      refine va_get (D := (dC, dI)) (ci := 2) (v := .ref (h 8)) (C := RX2) (T := TX2) (N := 2) hx hb hts (fun w9 h9 => mm (inX2 w9 h9)) hown hK hP 0 rfl rfl 1 (by decide) (hts (.fieldLink RX2 19 "ProducerBook" "recalled" "LProducerBook$Known;") (mm aw_77)) (fun _ h9 => h9) rfl dX2_answerOfKnown_47 ?_
      refine lv_iload_n hx hb dX2_answerOfKnown_50 rfl (lv_at hl 3 rfl) ?_
      refine lv_iload_n hx hb dX2_answerOfKnown_51 rfl (lv_at hl 4 rfl) ?_
      refine lv_iload_n hx hb dX2_answerOfKnown_52 rfl (lv_at hl 5 rfl) ?_
      refine xh_calli (wc := wLog cI cJ h B P E S L N (nI n) (nI ed) ++ wKn cI h (nI q) F) (wr := wPB h) (w1 := fun (u : Unit) => wLog cI cJ h B P E S L N (nI n) (nI ed) ++ wKn cI h (nI q) F) hP hD hS hA [1, 2, 3, 4, 5, 6, 7, 8, 9] [0] rfl rfl (by decide) (by decide) (va_runV (As := [.ref (h 8), .int ep, .int sq, .int la]) (rest := []) ⟨hx, hb, hml, hown, hts⟩ (c_Log_baseOfSame l dC dI cI cJ h H.size B P E S L N n ed q F ks ep sq la hq hF) (cwV 4 hts (aw_V aw_202 aw_203 aw_204 aw_2 aw_205) rfl rfl rfl (by decide +kernel) ⟨Nat.le_of_ble_eq_true rfl, Nat.le_of_ble_eq_true rfl⟩) (xh_preV (r0 := 0) hK (hP.sub (ws' := wLog cI cJ h B P E S L N (nI n) (nI ed) ++ wKn cI h (nI q) F) [1, 2, 3, 4, 5, 6, 7, 8, 9] rfl) (hD.sub (ws' := wLog cI cJ h B P E S L N (nI n) (nI ed) ++ wKn cI h (nI q) F) [1, 2, 3, 4, 5, 6, 7, 8, 9] (by decide) rfl) rfl rfl rfl) rfl rfl hl.1 rfl (lv_room (Nat.le_of_ble_eq_true rfl)) dX2_answerOfKnown_53 ⟨Nat.le_of_ble_eq_true rfl, Nat.le_of_ble_eq_true rfl⟩) (fun r_2 u H locs hw hP hD hS => ?_)
      have hP : va_P (dC, dI) classes (wPB h ++ wLog cI cJ h B P E S L N (nI n) (nI ed) ++ wKn cI h (nI q) F) H := hP
      have hD : va_D A (wPB h ++ wLog cI cJ h B P E S L N (nI n) (nI ed) ++ wKn cI h (nI q) F) := hD
      obtain ⟨bs, ebs⟩ : ∃ z, z = pb_sc (fun j => (E (ks j) == ep && S (ks j) == sq && L (ks j) == la)) (fun j => B (ks j)) q 0 := ⟨_, rfl⟩
      refine xh_topi (z := bs) (hw.trans ebs.symm) ?_
      refine lv_istore (lv' := [(6, .int bs), (5, .int (E (ks 0))), (4, .int (nI (ks 0))), (0, .ref (h 0)), (1, .int ep), (2, .int sq), (3, .int la)]) hx hb dX2_answerOfKnown_56 hl (by decide) rfl (fun ls hl => ?_)
      refine lv_iload hx hb dX2_answerOfKnown_58 (lv_at hl 0 rfl) ?_
      refine lv_iconst (v := (-1)) hx hb dX2_answerOfKnown_60 (by decide +kernel) ?_
      refine lv_icmp_eq (tgt := 67) hx hb dX2_answerOfKnown_61 (by decide) (fun c_61 => ?_) (fun c_61 => ?_)
      · refine lv_iload_n hx hb dX2_answerOfKnown_67 rfl (lv_at hl 4 rfl) ?_
        refine lv_iload hx hb dX2_answerOfKnown_68 (lv_at hl 1 rfl) ?_
        refine lv_icmp_ne (tgt := 99) hx hb dX2_answerOfKnown_70 (by decide) (fun c_70 => ?_) (fun c_70 => ?_)
        · refine lv_iconst (v := nI 0) hx hb dX2_answerOfKnown_99 (by decide +kernel) ?_
          refine lv_istore (lv' := [(7, .int (nI 0)), (6, .int bs), (5, .int (E (ks 0))), (4, .int (nI (ks 0))), (0, .ref (h 0)), (1, .int ep), (2, .int sq), (3, .int la)]) hx hb dX2_answerOfKnown_100 hl (by decide) rfl (fun ls hl => ?_)
          refine lv_iload_n hx hb dX2_answerOfKnown_102 rfl (lv_at hl 6 rfl) ?_
          refine lv_iload hx hb dX2_answerOfKnown_103 (lv_at hl 0 rfl) ?_
          refine lv_icmp_ne (tgt := 112) hx hb dX2_answerOfKnown_105 (by decide) (fun c_105 => ?_) (fun c_105 => ?_)
          · refine lv_bipush (v := (-7)) hx hb dX2_answerOfKnown_112 (by decide +kernel) ?_
            exact xh_iret hx hb hr (()) ((pb_ans4n q0 cE (by rw [← ebs]; exact c_61) c_70 c_105).symm) hP hK hD hS dX2_answerOfKnown_114 hlocks
          · refine lv_iconst (v := (-1)) hx hb dX2_answerOfKnown_108 (by decide +kernel) ?_
            refine lv_goto (tgt := 114) hx hb dX2_answerOfKnown_109 (by decide) ?_
            exact xh_iret hx hb hr (()) ((pb_ans3n q0 cE (by rw [← ebs]; exact c_61) c_70 c_105).symm) hP hK hD hS dX2_answerOfKnown_114 hlocks
        · refine lv_aload_n hx hb dX2_answerOfKnown_73 rfl (lv_at hl 3 rfl) ?_
          refine va_get (D := (dC, dI)) (ci := 2) (v := .ref (h 1)) (C := RX2) (T := TX2) (N := 2) hx hb hts (fun w9 h9 => mm (inX2 w9 h9)) hown hK hP 0 rfl rfl 0 (by decide) (hts (.fieldLink RX2 10 "ProducerBook" "log" "LProducerBook$Log;") (mm aw_76)) (fun _ h9 => h9) rfl dX2_answerOfKnown_74 ?_
          refine va_get (D := (dC, dI)) (ci := 1) (v := .ref (h 5)) (C := RX1) (T := TX1) (N := 8) hx hb hts (fun w9 h9 => mm (inX1 w9 h9)) hown hK hP 1 rfl rfl 3 (by decide) (hts (.fieldLink RX2 83 "ProducerBook$Log" "sequence" "[I") (mm aw_33)) (fun _ h9 => h9) rfl dX2_answerOfKnown_77 ?_
          refine lv_iload hx hb dX2_answerOfKnown_80 (lv_at hl 2 rfl) ?_
          refine xh_iald hx hb hK hP 5 0 rfl rfl (k := ks 0) (hk0) (by decide) dX2_answerOfKnown_82 ?_
          refine lv_aload_n hx hb dX2_answerOfKnown_83 rfl (lv_at hl 3 rfl) ?_
          refine va_get (D := (dC, dI)) (ci := 2) (v := .ref (h 1)) (C := RX2) (T := TX2) (N := 2) hx hb hts (fun w9 h9 => mm (inX2 w9 h9)) hown hK hP 0 rfl rfl 0 (by decide) (hts (.fieldLink RX2 10 "ProducerBook" "log" "LProducerBook$Log;") (mm aw_76)) (fun _ h9 => h9) rfl dX2_answerOfKnown_84 ?_
          refine va_get (D := (dC, dI)) (ci := 1) (v := .ref (h 6)) (C := RX1) (T := TX1) (N := 8) hx hb hts (fun w9 h9 => mm (inX1 w9 h9)) hown hK hP 1 rfl rfl 4 (by decide) (hts (.fieldLink RX2 86 "ProducerBook$Log" "last" "[I") (mm aw_35)) (fun _ h9 => h9) rfl dX2_answerOfKnown_87 ?_
          refine lv_iload hx hb dX2_answerOfKnown_90 (lv_at hl 2 rfl) ?_
          refine xh_iald hx hb hK hP 6 0 rfl rfl (k := ks 0) (hk0) (by decide) dX2_answerOfKnown_92 ?_
          refine xh_calli (wc := []) (wr := wPB h ++ wLog cI cJ h B P E S L N (nI n) (nI ed) ++ wKn cI h (nI q) F) (w1 := fun (u : Unit) => []) hP hD hS hA [] [0, 1, 2, 3, 4, 5, 6, 7, 8, 9] rfl rfl (by decide) (by decide) (va_runS (As := [.int (S (ks 0)), .int (L (ks 0))]) (rest := []) ⟨hx, hb, hml, hown, hts⟩ (c_PB_seq l dC dI cI cJ h H.size (S (ks 0)) (L (ks 0))) (cwS 2 hts (aw_S aw_206 aw_207 aw_1 aw_208) rfl rfl rfl (by decide +kernel) ⟨Nat.le_of_ble_eq_true rfl, Nat.le_of_ble_eq_true rfl⟩) (xh_preS hK (hP.sub (ws' := []) [] rfl) (hD.sub (ws' := []) [] (by decide) rfl)) rfl rfl hl.1 rfl (lv_room (Nat.le_of_ble_eq_true rfl)) dX2_answerOfKnown_93 ⟨Nat.le_of_ble_eq_true rfl, Nat.le_of_ble_eq_true rfl⟩) (fun r_3 u H locs hw hP hD hS => ?_)
          have hP : va_P (dC, dI) classes (wPB h ++ wLog cI cJ h B P E S L N (nI n) (nI ed) ++ wKn cI h (nI q) F) H := hP
          have hD : va_D A (wPB h ++ wLog cI cJ h B P E S L N (nI n) (nI ed) ++ wKn cI h (nI q) F) := hD
          refine xh_topi (z := pb_nx (S (ks 0)) (L (ks 0))) (hw) ?_
          refine lv_goto (tgt := 100) hx hb dX2_answerOfKnown_96 (by decide) ?_
          refine lv_istore (lv' := [(7, .int (pb_nx (S (ks 0)) (L (ks 0)))), (6, .int bs), (5, .int (E (ks 0))), (4, .int (nI (ks 0))), (0, .ref (h 0)), (1, .int ep), (2, .int sq), (3, .int la)]) hx hb dX2_answerOfKnown_100 hl (by decide) rfl (fun ls hl => ?_)
          refine lv_iload_n hx hb dX2_answerOfKnown_102 rfl (lv_at hl 6 rfl) ?_
          refine lv_iload hx hb dX2_answerOfKnown_103 (lv_at hl 0 rfl) ?_
          refine lv_icmp_ne (tgt := 112) hx hb dX2_answerOfKnown_105 (by decide) (fun c_105 => ?_) (fun c_105 => ?_)
          · refine lv_bipush (v := (-7)) hx hb dX2_answerOfKnown_112 (by decide +kernel) ?_
            exact xh_iret hx hb hr (()) ((pb_ans4e q0 cE (by rw [← ebs]; exact c_61) c_70 c_105).symm) hP hK hD hS dX2_answerOfKnown_114 hlocks
          · refine lv_iconst (v := (-1)) hx hb dX2_answerOfKnown_108 (by decide +kernel) ?_
            refine lv_goto (tgt := 114) hx hb dX2_answerOfKnown_109 (by decide) ?_
            exact xh_iret hx hb hr (()) ((pb_ans3e q0 cE (by rw [← ebs]; exact c_61) c_70 c_105).symm) hP hK hD hS dX2_answerOfKnown_114 hlocks
      · refine lv_iload hx hb dX2_answerOfKnown_64 (lv_at hl 0 rfl) ?_
        exact xh_iret hx hb hr (()) ((pb_ans2 q0 cE (by rw [← ebs]; exact c_61) ebs).symm) hP hK hD hS dX2_answerOfKnown_66 hlocks
    · have cE : ep < E (ks 0) := Int32.not_le.mp c_36
      refine lv_bipush (v := (-6)) hx hb dX2_answerOfKnown_39 (by decide +kernel) ?_
      exact xh_iret hx hb hr (()) ((pb_ans1 q0 cE).symm) hP hK hD hS dX2_answerOfKnown_41 hlocks
  · have q0 : q = 0 := (nI_eq (by omega) (by decide)).mp (c_7.trans nI_0.symm)
    refine lv_iconst (v := (-1)) hx hb dX2_answerOfKnown_10 (by decide +kernel) ?_
    exact xh_iret hx hb hr (()) ((pb_ans0 q0).symm) hP hK hD hS dX2_answerOfKnown_11 hlocks

set_option maxHeartbeats 4000000 in
set_option maxRecDepth 100000 in
/-- send: the answer of the known ones, or the batch comes in -/
theorem c_PB_send (l : Launch) (dC : Nat → ClassId) (dI : Nat → Nat → Nat) (cI cJ : ClassId) (h : Nat → Nat) (sz : Nat) (B : Nat → Int32) (P : Nat → Int64) (E S L N : Nat → Int32) (n ed : Nat) (q : Nat) (F : Nat → Int32) (ks : Nat → Nat) (pr : Int64) (ep sq : Int32) (a : Nat) (hn : n ≤ 2000) (hed : ed ≤ 1000000) (ha : a ≤ 999) (hq : q ≤ 5) (hF : ∀ j, j < q → F j = nI (ks j) ∧ ks j < 2000) : Met l yX2_send wsX2_send ({ frames := 3, cells := 0, slots := 0, locals := 140 } : Room) (va_Pc [.ref (h 0), .long pr, .int ep, .int sq, .int (nI a)] (xP (dC, dI) classes [(cI, FieldType.int), (cJ, FieldType.long)] (wPB h ++ wLog cI cJ h B P E S L N (nI n) (nI ed) ++ wKn cI h (nI q) F) sz)) (va_Qi (fun (r : Int32) (u : Option (Nat → Int32)) => match u with | none => (pb_ans B E S L q ks ep sq (nI a) ≠ -1 ∧ r = pb_ans B E S L q ks ep sq (nI a)) ∨ (pb_ans B E S L q ks ep sq (nI a) = -1 ∧ ¬ (n + 1 ≤ 2000 ∧ ed + (a + 1) ≤ 1000000) ∧ r = -1) | some G => pb_ans B E S L q ks ep sq (nI a) = -1 ∧ (n + 1 ≤ 2000 ∧ ed + (a + 1) ≤ 1000000) ∧ r = nI ed ∧ (pr ≠ -1 → G 0 = nI n ∧ ∀ j, 0 < j → j < min 5 (q + 1) → G j = F (j - 1))) (fun u => xB (dC, dI) classes [(cI, FieldType.int), (cJ, FieldType.long)] (va_A (wPB h ++ wLog cI cJ h B P E S L N (nI n) (nI ed) ++ wKn cI h (nI q) F) sz) ((fun (u : Option (Nat → Int32)) => match u with | none => wPB h ++ wLog cI cJ h B P E S L N (nI n) (nI ed) ++ wKn cI h (nI q) F | some G => wPB h ++ wLog cI cJ h (upd B n (nI ed)) (vp_updL P n pr) (upd E n ep) (upd S n sq) (upd L n (nI a)) (if pr = -1 then upd N n (nI 5) else upd (pb_inc N ks q) n (nI 0)) (nI (n + 1)) (nI (ed + (a + 1))) ++ wKn cI h (nI (if pr = -1 then q else min 5 (q + 1))) G) u)) (va_A (wPB h ++ wLog cI cJ h B P E S L N (nI n) (nI ed) ++ wKn cI h (nI q) F) sz)) 0 0 (va_A (wPB h ++ wLog cI cJ h B P E S L N (nI n) (nI ed) ++ wKn cI h (nI q) F) sz) := by
  refine Met.ofW (cc := cX2_send) (maxL := 7) (ret := (some .int)) (by decide) rfl ?_
  intro p e s m args below meth c s₁ BB hml hv
  obtain ⟨rfl, hsz, hP, hK, hD0⟩ := hv
  have hx := BB.exec
  have hb := BB.bytes
  have hr := BB.returns
  have hts := atoms_spec (ws := wsX2_send) BB.pre
  have hown : s.vm.findClass RX2 = some m.cls := findClass_of_methodNamed BB.named
  have hlocks := BB.notSynchronized
  subst hsz
  have hD := hD0.self (sz := s.heap.size)
  generalize hAe : va_A (wPB h ++ wLog cI cJ h B P E S L N (nI n) (nI ed) ++ wKn cI h (nI q) F) s.heap.size = A at hD ⊢
  have hA : ∀ q : Nat, s.heap.size ≤ q → A q := fun q h => by rw [← hAe]; exact Or.inr h
  have hS : va_S A s.heap s.heap [] := va_S.rf
  have hl := lv_entry ([.ref (h 0), .long pr, .int ep, .int sq, .int (nI a)]) (n := 7) (Nat.le_of_ble_eq_true rfl)
  rw [lg_entry_eq]
  generalize (lg_sl ([.ref (h 0), .long pr, .int ep, .int sq, .int (nI a)]) ++ List.replicate (7 - (lg_sl ([.ref (h 0), .long pr, .int ep, .int sq, .int (nI a)])).length) Slot.unset).toArray = ls at hl ⊢
  have hl : lv_has ls 7 [(0, .ref (h 0)), (1, .long pr), (3, .int ep), (4, .int sq), (5, .int (nI a))] := hl
  have hP : va_P (dC, dI) classes (wPB h ++ wLog cI cJ h B P E S L N (nI n) (nI ed) ++ wKn cI h (nI q) F) s.heap := hP
  refine lv_aload_n hx hb dX2_send_0 rfl (lv_at hl 0 rfl) ?_
  refine lv_iload_n hx hb dX2_send_1 rfl (lv_at hl 2 rfl) ?_
  refine lv_iload hx hb dX2_send_2 (lv_at hl 3 rfl) ?_
  refine lv_iload hx hb dX2_send_4 (lv_at hl 4 rfl) ?_
  refine xh_calli (wc := wPB h ++ wLog cI cJ h B P E S L N (nI n) (nI ed) ++ wKn cI h (nI q) F) (wr := []) (w1 := fun (u : Unit) => wPB h ++ wLog cI cJ h B P E S L N (nI n) (nI ed) ++ wKn cI h (nI q) F) hP hD hS hA [0, 1, 2, 3, 4, 5, 6, 7, 8, 9] [] rfl rfl (by decide) (by decide) (va_runV (As := [.int ep, .int sq, .int (nI a)]) (rest := []) ⟨hx, hb, hml, hown, hts⟩ (c_PB_answer l dC dI cI cJ h s.heap.size B P E S L N n ed q F ks ep sq (nI a) hq hF) (cwV 3 hts (aw_V aw_194 aw_196 aw_s3 aw_1 aw_197) rfl rfl rfl (by decide +kernel) ⟨Nat.le_of_ble_eq_true rfl, Nat.le_of_ble_eq_true rfl⟩) (xh_preV (r0 := 0) hK (hP.sub (ws' := wPB h ++ wLog cI cJ h B P E S L N (nI n) (nI ed) ++ wKn cI h (nI q) F) [0, 1, 2, 3, 4, 5, 6, 7, 8, 9] rfl) (hD.sub (ws' := wPB h ++ wLog cI cJ h B P E S L N (nI n) (nI ed) ++ wKn cI h (nI q) F) [0, 1, 2, 3, 4, 5, 6, 7, 8, 9] (by decide) rfl) rfl rfl rfl) rfl rfl hl.1 rfl (lv_room (Nat.le_of_ble_eq_true rfl)) dX2_send_6 ⟨Nat.le_of_ble_eq_true rfl, Nat.le_of_ble_eq_true rfl⟩) (fun r_1 u H locs hw hP hD hS => ?_)
  have hP : va_P (dC, dI) classes (wPB h ++ wLog cI cJ h B P E S L N (nI n) (nI ed) ++ wKn cI h (nI q) F) H := hP
  have hD : va_D A (wPB h ++ wLog cI cJ h B P E S L N (nI n) (nI ed) ++ wKn cI h (nI q) F) := hD
  obtain ⟨an, ean⟩ : ∃ z, z = pb_ans B E S L q ks ep sq (nI a) := ⟨_, rfl⟩
  refine xh_topi (z := an) (hw.trans ean.symm) ?_
  refine lv_istore (lv' := [(6, .int an), (0, .ref (h 0)), (1, .long pr), (3, .int ep), (4, .int sq), (5, .int (nI a))]) hx hb dX2_send_9 hl (by decide) rfl (fun ls hl => ?_)
  refine lv_iload hx hb dX2_send_11 (lv_at hl 0 rfl) ?_
  refine lv_iconst (v := (-1)) hx hb dX2_send_13 (by decide +kernel) ?_
  refine lv_icmp_eq (tgt := 20) hx hb dX2_send_14 (by decide) (fun c_14 => ?_) (fun c_14 => ?_)
  · refine lv_aload_n hx hb dX2_send_20 rfl (lv_at hl 1 rfl) ?_
    refine va_get (D := (dC, dI)) (ci := 2) (v := .ref (h 1)) (C := RX2) (T := TX2) (N := 2) hx hb hts (fun w9 h9 => mm (inX2 w9 h9)) hown hK hP 0 rfl rfl 0 (by decide) (hts (.fieldLink RX2 10 "ProducerBook" "log" "LProducerBook$Log;") (mm aw_76)) (fun _ h9 => h9) rfl dX2_send_21 ?_
    refine lv_aload_n hx hb dX2_send_24 rfl (lv_at hl 1 rfl) ?_
    refine va_get (D := (dC, dI)) (ci := 2) (v := .ref (h 8)) (C := RX2) (T := TX2) (N := 2) hx hb hts (fun w9 h9 => mm (inX2 w9 h9)) hown hK hP 0 rfl rfl 1 (by decide) (hts (.fieldLink RX2 19 "ProducerBook" "recalled" "LProducerBook$Known;") (mm aw_77)) (fun _ h9 => h9) rfl dX2_send_25 ?_
    refine lv_lload_n hx hb dX2_send_28 rfl (lv_at hl 2 rfl) ?_
    refine lv_iload_n hx hb dX2_send_29 rfl (lv_at hl 3 rfl) ?_
    refine lv_iload hx hb dX2_send_30 (lv_at hl 4 rfl) ?_
    refine lv_iload hx hb dX2_send_32 (lv_at hl 5 rfl) ?_
    refine xh_calli (wc := wLog cI cJ h B P E S L N (nI n) (nI ed) ++ wKn cI h (nI q) F) (wr := wPB h) (w1 := fun (u : Option (Nat → Int32)) => match u with | none => wLog cI cJ h B P E S L N (nI n) (nI ed) ++ wKn cI h (nI q) F | some G => wLog cI cJ h (upd B n (nI ed)) (vp_updL P n pr) (upd E n ep) (upd S n sq) (upd L n (nI a)) (if pr = -1 then upd N n (nI 5) else upd (pb_inc N ks q) n (nI 0)) (nI (n + 1)) (nI (ed + (a + 1))) ++ wKn cI h (nI (if pr = -1 then q else min 5 (q + 1))) G) hP hD hS hA [1, 2, 3, 4, 5, 6, 7, 8, 9] [0] rfl rfl (by decide) (by decide) (va_runV (As := [.ref (h 8), .long pr, .int ep, .int sq, .int (nI a)]) (rest := []) ⟨hx, hb, hml, hown, hts⟩ (c_Log_append l dC dI cI cJ h H.size B P E S L N n ed q F ks pr ep sq a hn hed ha hq hF) (cwV 5 hts (aw_V aw_210 aw_211 aw_212 aw_2 aw_213) rfl rfl rfl (by decide +kernel) ⟨Nat.le_of_ble_eq_true rfl, Nat.le_of_ble_eq_true rfl⟩) (xh_preV (r0 := 0) hK (hP.sub (ws' := wLog cI cJ h B P E S L N (nI n) (nI ed) ++ wKn cI h (nI q) F) [1, 2, 3, 4, 5, 6, 7, 8, 9] rfl) (hD.sub (ws' := wLog cI cJ h B P E S L N (nI n) (nI ed) ++ wKn cI h (nI q) F) [1, 2, 3, 4, 5, 6, 7, 8, 9] (by decide) rfl) rfl rfl rfl) rfl rfl hl.1 rfl (lv_room (Nat.le_of_ble_eq_true rfl)) dX2_send_34 ⟨Nat.le_of_ble_eq_true rfl, Nat.le_of_ble_eq_true rfl⟩) (fun r_2 u H locs hw hP hD hS => ?_)
    cases u with
    | none =>
      have hP : va_P (dC, dI) classes (wPB h ++ wLog cI cJ h B P E S L N (nI n) (nI ed) ++ wKn cI h (nI q) F) H := hP
      have hD : va_D A (wPB h ++ wLog cI cJ h B P E S L N (nI n) (nI ed) ++ wKn cI h (nI q) F) := hD
      exact xh_iret hx hb hr (none) (Or.inr ⟨ean.symm.trans c_14, hw⟩) hP hK hD hS dX2_send_37 hlocks
    | some G =>
      have hP : va_P (dC, dI) classes (wPB h ++ wLog cI cJ h (upd B n (nI ed)) (vp_updL P n pr) (upd E n ep) (upd S n sq) (upd L n (nI a)) (if pr = -1 then upd N n (nI 5) else upd (pb_inc N ks q) n (nI 0)) (nI (n + 1)) (nI (ed + (a + 1))) ++ wKn cI h (nI (if pr = -1 then q else min 5 (q + 1))) G) H := hP
      have hD : va_D A (wPB h ++ wLog cI cJ h (upd B n (nI ed)) (vp_updL P n pr) (upd E n ep) (upd S n sq) (upd L n (nI a)) (if pr = -1 then upd N n (nI 5) else upd (pb_inc N ks q) n (nI 0)) (nI (n + 1)) (nI (ed + (a + 1))) ++ wKn cI h (nI (if pr = -1 then q else min 5 (q + 1))) G) := hD
      exact xh_iret hx hb hr (some G) (⟨ean.symm.trans c_14, hw⟩) hP hK hD hS dX2_send_37 hlocks
  · refine lv_iload hx hb dX2_send_17 (lv_at hl 0 rfl) ?_
    exact xh_iret hx hb hr (none) (Or.inl ⟨by rw [← ean]; exact c_14, ean⟩) hP hK hD hS dX2_send_19 hlocks
