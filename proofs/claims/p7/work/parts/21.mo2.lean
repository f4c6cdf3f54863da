set_option maxHeartbeats 4000000 in
set_option maxRecDepth 100000 in
theorem m_judged (l : Launch) (dC : Nat → ClassId) (dI : Nat → Nat → Nat) (cI cJ : ClassId) (h : Nat → Nat) (sz : Nat) (B : Nat → Int32) (P : Nat → Int64) (E S L : Nat → Int32) (cd : Int32) (n ed : Nat) (pr : Int64) (ep sq la : Int32) (hn : n ≤ 2000) (hI : pb_MI B P S L n) (hp : pr = -1 ∨ ¬ pr < 0) : Met l yX3_judged wsX3_judged ({ frames := 1, cells := 0, slots := 0, locals := 60 } : Room) (va_Pc [.ref (h 20), .long pr, .int ep, .int sq, .int la] (xP (dC, dI) classes [(cI, FieldType.int), (cJ, FieldType.long)] (wMo cI cJ h B P E S L cd (nI n) (nI ed)) sz)) (va_Qi (fun (r : Int32) (_ : Unit) => r = pb_ans B E S L (pb_kc P n pr) (pb_ix P pr n) ep sq la) (fun u => xB (dC, dI) classes [(cI, FieldType.int), (cJ, FieldType.long)] (va_A (wMo cI cJ h B P E S L cd (nI n) (nI ed)) sz) ((fun (_ : Unit) => wMo cI cJ h B P E S L cd (nI n) (nI ed)) u)) (va_A (wMo cI cJ h B P E S L cd (nI n) (nI ed)) sz)) 0 0 (va_A (wMo cI cJ h B P E S L cd (nI n) (nI ed)) sz) := by
  refine Met.ofW (cc := cX3_judged) (maxL := 9) (ret := (some .int)) (by decide) rfl ?_
  intro p e s m args below meth c s₁ BB hml hv
  obtain ⟨rfl, hsz, hP, hK, hD0⟩ := hv
  have hx := BB.exec
  have hb := BB.bytes
  have hr := BB.returns
  have hts := atoms_spec (ws := wsX3_judged) BB.pre
  have hown : s.vm.findClass RX3 = some m.cls := findClass_of_methodNamed BB.named
  have hlocks := BB.notSynchronized
  subst hsz
  have hD := hD0.self (sz := s.heap.size)
  generalize hAe : va_A (wMo cI cJ h B P E S L cd (nI n) (nI ed)) s.heap.size = A at hD ⊢
  have hA : ∀ q : Nat, s.heap.size ≤ q → A q := fun q h => by rw [← hAe]; exact Or.inr h
  have hS : va_S A s.heap s.heap [] := va_S.rf
  have hl := lv_entry ([.ref (h 20), .long pr, .int ep, .int sq, .int la]) (n := 9) (Nat.le_of_ble_eq_true rfl)
  rw [lg_entry_eq]
  generalize (lg_sl ([.ref (h 20), .long pr, .int ep, .int sq, .int la]) ++ List.replicate (9 - (lg_sl ([.ref (h 20), .long pr, .int ep, .int sq, .int la])).length) Slot.unset).toArray = ls at hl ⊢
  have hl : lv_has ls 9 [(0, .ref (h 20)), (1, .long pr), (3, .int ep), (4, .int sq), (5, .int la)] := hl
  have hP : va_P (dC, dI) classes (wMo cI cJ h B P E S L cd (nI n) (nI ed)) s.heap := hP
  refine lv_aload_n hx hb dX3_judged_0 rfl (lv_at hl 0 rfl) ?_
  refine lv_lload_n hx hb dX3_judged_1 rfl (lv_at hl 1 rfl) ?_
  refine lv_iconst (v := nI 0) hx hb dX3_judged_2 (by decide +kernel) ?_
  refine xh_calli (wc := wMo cI cJ h B P E S L cd (nI n) (nI ed)) (wr := []) (w1 := fun (u : Unit) => wMo cI cJ h B P E S L cd (nI n) (nI ed)) hP hD hS hA [0, 1, 2, 3, 4, 5] [] rfl rfl (by decide) (by decide) (va_runV (As := [.long pr, .int (nI 0)]) (rest := []) ⟨hx, hb, hml, hown, hts⟩ (m_knownOne l dC dI cI cJ h s.heap.size B P E S L cd n ed pr 0 hn hp (by omega)) (cwV 2 hts (aw_V aw_349 aw_351 aw_s6 aw_4 aw_352) rfl rfl rfl (by decide +kernel) ⟨Nat.le_of_ble_eq_true rfl, Nat.le_of_ble_eq_true rfl⟩) (xh_preV (r0 := 0) hK (hP.sub (ws' := wMo cI cJ h B P E S L cd (nI n) (nI ed)) [0, 1, 2, 3, 4, 5] rfl) (hD.sub (ws' := wMo cI cJ h B P E S L cd (nI n) (nI ed)) [0, 1, 2, 3, 4, 5] (by decide) rfl) rfl rfl rfl) rfl rfl hl.1 rfl (lv_room (Nat.le_of_ble_eq_true rfl)) dX3_judged_3 ⟨Nat.le_of_ble_eq_true rfl, Nat.le_of_ble_eq_true rfl⟩) (fun r_1 u H locs hw hP hD hS => ?_)
  have hP : va_P (dC, dI) classes (wMo cI cJ h B P E S L cd (nI n) (nI ed)) H := hP
  have hD : va_D A (wMo cI cJ h B P E S L cd (nI n) (nI ed)) := hD
  by_cases q0 : pb_kc P n pr = 0
  · refine xh_topi (z := (-1)) (hw.trans (if_neg (by omega))) ?_
    refine lv_istore (lv' := [(6, .int (-1)), (0, .ref (h 20)), (1, .long pr), (3, .int ep), (4, .int sq), (5, .int la)]) hx hb dX3_judged_6 hl (by decide) rfl (fun ls hl => ?_)
    refine lv_iload hx hb dX3_judged_8 (lv_at hl 0 rfl) ?_
    refine lv_if_ge (tgt := 15) hx hb dX3_judged_10 (by decide) (fun c_10 => ?_) (fun c_10 => ?_)
    · exact absurd c_10 (by decide)
    · refine lv_iconst (v := (-1)) hx hb dX3_judged_13 (by decide +kernel) ?_
      exact xh_iret hx hb hr (()) ((pb_ans0 q0).symm) hP hK hD hS dX3_judged_14 hlocks
  · refine xh_topi (z := nI (pb_ix P pr n 0)) (hw.trans (if_pos (by omega))) ?_
    have at0 := pb_ix_at (pb_kc_lt (show 0 < pb_kc P n pr by omega)).2.2
    have hk0 : pb_ix P pr n 0 < 2000 := by have := at0.1; omega
    refine lv_istore (lv' := [(6, .int (nI (pb_ix P pr n 0))), (0, .ref (h 20)), (1, .long pr), (3, .int ep), (4, .int sq), (5, .int la)]) hx hb dX3_judged_6 hl (by decide) rfl (fun ls hl => ?_)
    refine lv_iload hx hb dX3_judged_8 (lv_at hl 0 rfl) ?_
    refine lv_if_ge (tgt := 15) hx hb dX3_judged_10 (by decide) (fun c_10 => ?_) (fun c_10 => ?_)
    · refine lv_iload_n hx hb dX3_judged_15 rfl (lv_at hl 3 rfl) ?_
      refine lv_aload_n hx hb dX3_judged_16 rfl (lv_at hl 1 rfl) ?_
      refine va_get (D := (dC, dI)) (ci := 3) (v := .ref (h 23)) (C := RX3) (T := TX3) (N := 8) hx hb hts (fun w9 h9 => mm (inX3 w9 h9)) hown hK hP 0 rfl rfl 5 (by decide) (hts (.fieldLink RX3 17 "ProducerBookModel" "epoch" "[I") (mm aw_313)) (fun _ h9 => h9) rfl dX3_judged_17 ?_
      refine lv_iload hx hb dX3_judged_20 (lv_at hl 0 rfl) ?_
      refine xh_iald hx hb hK hP 3 0 rfl rfl (k := pb_ix P pr n 0) (hk0) (by decide) dX3_judged_22 ?_
      refine lv_icmp_ge (tgt := 29) hx hb dX3_judged_23 (by decide) (fun c_23 => ?_) (fun c_23 => ?_)
      · have cE : ¬ ep < E (pb_ix P pr n 0) := Int32.not_lt.mpr c_23
        refine lv_iconst (v := nI 0) hx hb dX3_judged_29 (by decide +kernel) ?_
        refine lv_istore (lv' := [(7, .int (nI 0)), (6, .int (nI (pb_ix P pr n 0))), (0, .ref (h 20)), (1, .long pr), (3, .int ep), (4, .int sq), (5, .int la)]) hx hb dX3_judged_30 hl (by decide) rfl (fun ls hl => ?_)
        have lp32 : ∀ (fuel : Nat) (i : Nat) (H : Heap) (locs : List Loc) (ls : Array Slot), (i ≤ 5) → (pb_sc (fun j => (E (pb_ix P pr n j) == ep && S (pb_ix P pr n j) == sq && L (pb_ix P pr n j) == la)) (fun j => B (pb_ix P pr n j)) (pb_kc P n pr) 0 = pb_sc (fun j => (E (pb_ix P pr n j) == ep && S (pb_ix P pr n j) == sq && L (pb_ix P pr n j) == la)) (fun j => B (pb_ix P pr n j)) (pb_kc P n pr - i) i) → 5 - i < fuel → va_P (dC, dI) classes (wMo cI cJ h B P E S L cd (nI n) (nI ed)) H → va_D A (wMo cI cJ h B P E S L cd (nI n) (nI ed)) → va_S A s.heap H locs → lv_has ls 9 [(0, .ref (h 20)), (1, .long pr), (3, .int ep), (4, .int sq), (5, .int la), (6, .int (nI (pb_ix P pr n 0))), (7, .int (nI i))] → W p l e ({ frames := 1, cells := 0, slots := 0, locals := 60 } : Room) s m ([.ref (h 20), .long pr, .int ep, .int sq, .int la] : List Value).toArray below meth c H locs 0 0 (MQ below (va_Qi (fun (r : Int32) (_ : Unit) => r = pb_ans B E S L (pb_kc P n pr) (pb_ix P pr n) ep sq la) (fun u => xB (dC, dI) classes [(cI, FieldType.int), (cJ, FieldType.long)] A ((fun (_ : Unit) => wMo cI cJ h B P E S L cd (nI n) (nI ed)) u)) A) ([.ref (h 20), .long pr, .int ep, .int sq, .int la] : List Value).toArray s 0 0 A) (F0 m 32 ls []) := by
          intro fuel
          induction fuel with
          | zero => intro i H locs ls hi hsc hfuel; exact absurd hfuel (Nat.not_lt_zero _)
          | succ fuel ih =>
            intro i H locs ls hi hsc hfuel hP hD hS hl
            refine lv_iload hx hb dX3_judged_32 (lv_at hl 6 rfl) ?_
            refine lv_iconst (v := nI 5) hx hb dX3_judged_34 (by decide +kernel) ?_
            refine lv_icmp_ge (tgt := 101) hx hb dX3_judged_35 (by decide) (fun c_35 => ?_) (fun c_35 => ?_)
            · have c1 := (nI_leI (by decide) (by omega)).mp c_35
              have hs1 : pb_sc (fun j => (E (pb_ix P pr n j) == ep && S (pb_ix P pr n j) == sq && L (pb_ix P pr n j) == la)) (fun j => B (pb_ix P pr n j)) (pb_kc P n pr) 0 = -1 := by rw [hsc, show pb_kc P n pr - i = 0 by have := pb_kc_le P n pr; omega]; rfl
              refine lv_iload_n hx hb dX3_judged_101 rfl (lv_at hl 2 rfl) ?_
              refine lv_aload_n hx hb dX3_judged_102 rfl (lv_at hl 0 rfl) ?_
              refine va_get (D := (dC, dI)) (ci := 3) (v := .ref (h 23)) (C := RX3) (T := TX3) (N := 8) hx hb hts (fun w9 h9 => mm (inX3 w9 h9)) hown hK hP 0 rfl rfl 5 (by decide) (hts (.fieldLink RX3 17 "ProducerBookModel" "epoch" "[I") (mm aw_313)) (fun _ h9 => h9) rfl dX3_judged_103 ?_
              refine lv_iload hx hb dX3_judged_106 (lv_at hl 5 rfl) ?_
              refine xh_iald hx hb hK hP 3 0 rfl rfl (k := pb_ix P pr n 0) (hk0) (by decide) dX3_judged_108 ?_
              refine lv_icmp_le (tgt := 116) hx hb dX3_judged_109 (by decide) (fun c_109 => ?_) (fun c_109 => ?_)
              · have cF : ep = E (pb_ix P pr n 0) := Int32.le_antisymm c_109 (Int32.not_lt.mp cE)
                refine lv_aload_n hx hb dX3_judged_116 rfl (lv_at hl 0 rfl) ?_
                refine va_get (D := (dC, dI)) (ci := 3) (v := .ref (h 24)) (C := RX3) (T := TX3) (N := 8) hx hb hts (fun w9 h9 => mm (inX3 w9 h9)) hown hK hP 0 rfl rfl 6 (by decide) (hts (.fieldLink RX3 20 "ProducerBookModel" "sequence" "[I") (mm aw_314)) (fun _ h9 => h9) rfl dX3_judged_117 ?_
                refine lv_iload hx hb dX3_judged_120 (lv_at hl 5 rfl) ?_
                refine xh_iald hx hb hK hP 4 0 rfl rfl (k := pb_ix P pr n 0) (hk0) (by decide) dX3_judged_122 ?_
                refine lv_aload_n hx hb dX3_judged_123 rfl (lv_at hl 0 rfl) ?_
                refine va_get (D := (dC, dI)) (ci := 3) (v := .ref (h 25)) (C := RX3) (T := TX3) (N := 8) hx hb hts (fun w9 h9 => mm (inX3 w9 h9)) hown hK hP 0 rfl rfl 7 (by decide) (hts (.fieldLink RX3 23 "ProducerBookModel" "last" "[I") (mm aw_315)) (fun _ h9 => h9) rfl dX3_judged_124 ?_
                refine lv_iload hx hb dX3_judged_127 (lv_at hl 5 rfl) ?_
                refine xh_iald hx hb hK hP 5 0 rfl rfl (k := pb_ix P pr n 0) (hk0) (by decide) dX3_judged_129 ?_
                refine xh_calli (wc := []) (wr := wMo cI cJ h B P E S L cd (nI n) (nI ed)) (w1 := fun (u : Unit) => []) hP hD hS hA [] [0, 1, 2, 3, 4, 5] rfl rfl (by decide) (by decide) (va_runS (As := [.int (S (pb_ix P pr n 0)), .int (L (pb_ix P pr n 0))]) (rest := []) ⟨hx, hb, hml, hown, hts⟩ (m_after l dC dI cI cJ h H.size (S (pb_ix P pr n 0)) (L (pb_ix P pr n 0)) ((hI _ at0.1).2.2.2 (by rw [at0.2.1]; exact (pb_kc_lt (show 0 < pb_kc P n pr by omega)).1)) (hI _ at0.1).2.1 (hI _ at0.1).2.2.1) (cwS 2 hts (aw_S aw_353 aw_354 aw_4 aw_355) rfl rfl rfl (by decide +kernel) ⟨Nat.le_of_ble_eq_true rfl, Nat.le_of_ble_eq_true rfl⟩) (xh_preS hK (hP.sub (ws' := []) [] rfl) (hD.sub (ws' := []) [] (by decide) rfl)) rfl rfl hl.1 rfl (lv_room (Nat.le_of_ble_eq_true rfl)) dX3_judged_130 ⟨Nat.le_of_ble_eq_true rfl, Nat.le_of_ble_eq_true rfl⟩) (fun r_2 u H locs hw hP hD hS => ?_)
                have hP : va_P (dC, dI) classes (wMo cI cJ h B P E S L cd (nI n) (nI ed)) H := hP
                have hD : va_D A (wMo cI cJ h B P E S L cd (nI n) (nI ed)) := hD
                refine xh_topi (z := pb_nx (S (pb_ix P pr n 0)) (L (pb_ix P pr n 0))) (hw) ?_
                refine lv_istore (lv' := [(7, .int (pb_nx (S (pb_ix P pr n 0)) (L (pb_ix P pr n 0)))), (0, .ref (h 20)), (1, .long pr), (3, .int ep), (4, .int sq), (5, .int la), (6, .int (nI (pb_ix P pr n 0)))]) hx hb dX3_judged_133 hl (by decide) rfl (fun ls hl => ?_)
                refine lv_iload hx hb dX3_judged_135 (lv_at hl 4 rfl) ?_
                refine lv_iload hx hb dX3_judged_137 (lv_at hl 0 rfl) ?_
                refine lv_icmp_ne (tgt := 146) hx hb dX3_judged_139 (by decide) (fun c_139 => ?_) (fun c_139 => ?_)
                · refine lv_bipush (v := (-7)) hx hb dX3_judged_146 (by decide +kernel) ?_
                  exact xh_iret hx hb hr (()) ((pb_ans4e q0 cE hs1 cF c_139).symm) hP hK hD hS dX3_judged_148 hlocks
                · refine lv_iconst (v := (-1)) hx hb dX3_judged_142 (by decide +kernel) ?_
                  refine lv_goto (tgt := 148) hx hb dX3_judged_143 (by decide) ?_
                  exact xh_iret hx hb hr (()) ((pb_ans3e q0 cE hs1 cF c_139).symm) hP hK hD hS dX3_judged_148 hlocks
              · have cF : ¬ ep = E (pb_ix P pr n 0) := fun g => c_109 (by rw [g]; exact Int32.le_refl _)
                refine lv_iconst (v := nI 0) hx hb dX3_judged_112 (by decide +kernel) ?_
                refine lv_goto (tgt := 133) hx hb dX3_judged_113 (by decide) ?_
                refine lv_istore (lv' := [(7, .int (nI 0)), (0, .ref (h 20)), (1, .long pr), (3, .int ep), (4, .int sq), (5, .int la), (6, .int (nI (pb_ix P pr n 0)))]) hx hb dX3_judged_133 hl (by decide) rfl (fun ls hl => ?_)
                refine lv_iload hx hb dX3_judged_135 (lv_at hl 4 rfl) ?_
                refine lv_iload hx hb dX3_judged_137 (lv_at hl 0 rfl) ?_
                refine lv_icmp_ne (tgt := 146) hx hb dX3_judged_139 (by decide) (fun c_139 => ?_) (fun c_139 => ?_)
                · refine lv_bipush (v := (-7)) hx hb dX3_judged_146 (by decide +kernel) ?_
                  exact xh_iret hx hb hr (()) ((pb_ans4n q0 cE hs1 cF c_139).symm) hP hK hD hS dX3_judged_148 hlocks
                · refine lv_iconst (v := (-1)) hx hb dX3_judged_142 (by decide +kernel) ?_
                  refine lv_goto (tgt := 148) hx hb dX3_judged_143 (by decide) ?_
                  exact xh_iret hx hb hr (()) ((pb_ans3n q0 cE hs1 cF c_139).symm) hP hK hD hS dX3_judged_148 hlocks
            · have c1 : i < 5 := Nat.lt_of_not_le fun g => c_35 ((nI_leI (by decide) (by omega)).mpr g)
              refine lv_aload_n hx hb dX3_judged_38 rfl (lv_at hl 0 rfl) ?_
              refine lv_lload_n hx hb dX3_judged_39 rfl (lv_at hl 1 rfl) ?_
              refine lv_iload hx hb dX3_judged_40 (lv_at hl 6 rfl) ?_
              refine xh_calli (wc := wMo cI cJ h B P E S L cd (nI n) (nI ed)) (wr := []) (w1 := fun (u : Unit) => wMo cI cJ h B P E S L cd (nI n) (nI ed)) hP hD hS hA [0, 1, 2, 3, 4, 5] [] rfl rfl (by decide) (by decide) (va_runV (As := [.long pr, .int (nI i)]) (rest := []) ⟨hx, hb, hml, hown, hts⟩ (m_knownOne l dC dI cI cJ h H.size B P E S L cd n ed pr i hn hp (by omega)) (cwV 2 hts (aw_V aw_349 aw_351 aw_s6 aw_4 aw_352) rfl rfl rfl (by decide +kernel) ⟨Nat.le_of_ble_eq_true rfl, Nat.le_of_ble_eq_true rfl⟩) (xh_preV (r0 := 0) hK (hP.sub (ws' := wMo cI cJ h B P E S L cd (nI n) (nI ed)) [0, 1, 2, 3, 4, 5] rfl) (hD.sub (ws' := wMo cI cJ h B P E S L cd (nI n) (nI ed)) [0, 1, 2, 3, 4, 5] (by decide) rfl) rfl rfl rfl) rfl rfl hl.1 rfl (lv_room (Nat.le_of_ble_eq_true rfl)) dX3_judged_42 ⟨Nat.le_of_ble_eq_true rfl, Nat.le_of_ble_eq_true rfl⟩) (fun r_3 u H locs hw hP hD hS => ?_)
              have hP : va_P (dC, dI) classes (wMo cI cJ h B P E S L cd (nI n) (nI ed)) H := hP
              have hD : va_D A (wMo cI cJ h B P E S L cd (nI n) (nI ed)) := hD
              by_cases hik : i < pb_kc P n pr
              · refine xh_topi (z := nI (pb_ix P pr n i)) (hw.trans (if_pos hik)) ?_
                have ati := pb_ix_at (pb_kc_lt hik).2.2
                have hki : pb_ix P pr n i < 2000 := by have := ati.1; omega
                refine lv_istore (lv' := [(8, .int (nI (pb_ix P pr n i))), (0, .ref (h 20)), (1, .long pr), (3, .int ep), (4, .int sq), (5, .int la), (6, .int (nI (pb_ix P pr n 0))), (7, .int (nI i))]) hx hb dX3_judged_45 hl (by decide) rfl (fun ls hl => ?_)
                refine lv_iload hx hb dX3_judged_47 (lv_at hl 0 rfl) ?_
                refine lv_if_lt (tgt := 95) hx hb dX3_judged_49 (by decide) (fun c_49 => ?_) (fun c_49 => ?_)
                · exact absurd c_49 (nI_pos (by omega))
                · refine lv_aload_n hx hb dX3_judged_52 rfl (lv_at hl 1 rfl) ?_
                  refine va_get (D := (dC, dI)) (ci := 3) (v := .ref (h 23)) (C := RX3) (T := TX3) (N := 8) hx hb hts (fun w9 h9 => mm (inX3 w9 h9)) hown hK hP 0 rfl rfl 5 (by decide) (hts (.fieldLink RX3 17 "ProducerBookModel" "epoch" "[I") (mm aw_313)) (fun _ h9 => h9) rfl dX3_judged_53 ?_
                  refine lv_iload hx hb dX3_judged_56 (lv_at hl 0 rfl) ?_
                  refine xh_iald hx hb hK hP 3 0 rfl rfl (k := pb_ix P pr n i) (hki) (by decide) dX3_judged_58 ?_
                  refine lv_iload_n hx hb dX3_judged_59 rfl (lv_at hl 3 rfl) ?_
                  refine lv_icmp_ne (tgt := 95) hx hb dX3_judged_60 (by decide) (fun c_60 => ?_) (fun c_60 => ?_)
                  · refine lv_iinc (v := nI (i + 1)) (lv' := [(7, .int (nI (i + 1))), (8, .int (nI (pb_ix P pr n i))), (0, .ref (h 20)), (1, .long pr), (3, .int ep), (4, .int sq), (5, .int la), (6, .int (nI (pb_ix P pr n 0)))]) hx hb dX3_judged_95 hl (k := 7) rfl (by exact nI_1 i) (by decide) rfl (fun ls hl => ?_)
                    refine lv_goto (tgt := 32) hx hb dX3_judged_98 (by decide) ?_
                    exact ih (i + 1) _ _ _ (by omega) (hsc.trans (pb_sc_miss hik (by simp [c_60]))) (by omega) hP hD hS (lv_sub hl [2, 3, 4, 5, 6, 7, 0] rfl)
                  · refine lv_aload_n hx hb dX3_judged_63 rfl (lv_at hl 1 rfl) ?_
                    refine va_get (D := (dC, dI)) (ci := 3) (v := .ref (h 24)) (C := RX3) (T := TX3) (N := 8) hx hb hts (fun w9 h9 => mm (inX3 w9 h9)) hown hK hP 0 rfl rfl 6 (by decide) (hts (.fieldLink RX3 20 "ProducerBookModel" "sequence" "[I") (mm aw_314)) (fun _ h9 => h9) rfl dX3_judged_64 ?_
                    refine lv_iload hx hb dX3_judged_67 (lv_at hl 0 rfl) ?_
                    refine xh_iald hx hb hK hP 4 0 rfl rfl (k := pb_ix P pr n i) (hki) (by decide) dX3_judged_69 ?_
                    refine lv_iload hx hb dX3_judged_70 (lv_at hl 4 rfl) ?_
                    refine lv_icmp_ne (tgt := 95) hx hb dX3_judged_72 (by decide) (fun c_72 => ?_) (fun c_72 => ?_)
                    · refine lv_iinc (v := nI (i + 1)) (lv' := [(7, .int (nI (i + 1))), (8, .int (nI (pb_ix P pr n i))), (0, .ref (h 20)), (1, .long pr), (3, .int ep), (4, .int sq), (5, .int la), (6, .int (nI (pb_ix P pr n 0)))]) hx hb dX3_judged_95 hl (k := 7) rfl (by exact nI_1 i) (by decide) rfl (fun ls hl => ?_)
                      refine lv_goto (tgt := 32) hx hb dX3_judged_98 (by decide) ?_
                      exact ih (i + 1) _ _ _ (by omega) (hsc.trans (pb_sc_miss hik (by simp [c_72]))) (by omega) hP hD hS (lv_sub hl [2, 3, 4, 5, 6, 7, 0] rfl)
                    · refine lv_aload_n hx hb dX3_judged_75 rfl (lv_at hl 1 rfl) ?_
                      refine va_get (D := (dC, dI)) (ci := 3) (v := .ref (h 25)) (C := RX3) (T := TX3) (N := 8) hx hb hts (fun w9 h9 => mm (inX3 w9 h9)) hown hK hP 0 rfl rfl 7 (by decide) (hts (.fieldLink RX3 23 "ProducerBookModel" "last" "[I") (mm aw_315)) (fun _ h9 => h9) rfl dX3_judged_76 ?_
                      refine lv_iload hx hb dX3_judged_79 (lv_at hl 0 rfl) ?_
                      refine xh_iald hx hb hK hP 5 0 rfl rfl (k := pb_ix P pr n i) (hki) (by decide) dX3_judged_81 ?_
                      refine lv_iload hx hb dX3_judged_82 (lv_at hl 5 rfl) ?_
                      refine lv_icmp_ne (tgt := 95) hx hb dX3_judged_84 (by decide) (fun c_84 => ?_) (fun c_84 => ?_)
                      · refine lv_iinc (v := nI (i + 1)) (lv' := [(7, .int (nI (i + 1))), (8, .int (nI (pb_ix P pr n i))), (0, .ref (h 20)), (1, .long pr), (3, .int ep), (4, .int sq), (5, .int la), (6, .int (nI (pb_ix P pr n 0)))]) hx hb dX3_judged_95 hl (k := 7) rfl (by exact nI_1 i) (by decide) rfl (fun ls hl => ?_)
                        refine lv_goto (tgt := 32) hx hb dX3_judged_98 (by decide) ?_
                        exact ih (i + 1) _ _ _ (by omega) (hsc.trans (pb_sc_miss hik (by simp [c_84]))) (by omega) hP hD hS (lv_sub hl [2, 3, 4, 5, 6, 7, 0] rfl)
                      · refine lv_aload_n hx hb dX3_judged_87 rfl (lv_at hl 1 rfl) ?_
                        refine va_get (D := (dC, dI)) (ci := 3) (v := .ref (h 21)) (C := RX3) (T := TX3) (N := 8) hx hb hts (fun w9 h9 => mm (inX3 w9 h9)) hown hK hP 0 rfl rfl 3 (by decide) (hts (.fieldLink RX3 7 "ProducerBookModel" "base" "[I") (mm aw_311)) (fun _ h9 => h9) rfl dX3_judged_88 ?_
                        refine lv_iload hx hb dX3_judged_91 (lv_at hl 0 rfl) ?_
                        refine xh_iald hx hb hK hP 1 0 rfl rfl (k := pb_ix P pr n i) (hki) (by decide) dX3_judged_93 ?_
                        exact xh_iret hx hb hr (()) ((pb_ans2 q0 cE (by rw [hsc, pb_sc_hit (v := fun j => B (pb_ix P pr n j)) hik (by simp [c_60, c_72, c_84])]; exact fun g => (hI _ ati.1).1 (by rw [g]; decide)) (by rw [hsc, pb_sc_hit (v := fun j => B (pb_ix P pr n j)) hik (by simp [c_60, c_72, c_84])])).symm) hP hK hD hS dX3_judged_94 hlocks
              · refine xh_topi (z := (-1)) (hw.trans (if_neg hik)) ?_
                refine lv_istore (lv' := [(8, .int (-1)), (0, .ref (h 20)), (1, .long pr), (3, .int ep), (4, .int sq), (5, .int la), (6, .int (nI (pb_ix P pr n 0))), (7, .int (nI i))]) hx hb dX3_judged_45 hl (by decide) rfl (fun ls hl => ?_)
                refine lv_iload hx hb dX3_judged_47 (lv_at hl 0 rfl) ?_
                refine lv_if_lt (tgt := 95) hx hb dX3_judged_49 (by decide) (fun c_49 => ?_) (fun c_49 => ?_)
                · refine lv_iinc (v := nI (i + 1)) (lv' := [(7, .int (nI (i + 1))), (8, .int (-1)), (0, .ref (h 20)), (1, .long pr), (3, .int ep), (4, .int sq), (5, .int la), (6, .int (nI (pb_ix P pr n 0)))]) hx hb dX3_judged_95 hl (k := 7) rfl (by exact nI_1 i) (by decide) rfl (fun ls hl => ?_)
                  refine lv_goto (tgt := 32) hx hb dX3_judged_98 (by decide) ?_
                  exact ih (i + 1) _ _ _ (by omega) (hsc.trans (pb_sc_over hik)) (by omega) hP hD hS (lv_sub hl [2, 3, 4, 5, 6, 7, 0] rfl)
                · exact absurd (show (-1 : Int32) < 0 by decide) c_49
        exact lp32 6 0 _ _ _ (by omega) rfl (by omega) hP hD hS (lv_sub hl [2, 3, 4, 5, 6, 1, 0] rfl)
      · have cE : ep < E (pb_ix P pr n 0) := Int32.not_le.mp c_23
        refine lv_bipush (v := (-6)) hx hb dX3_judged_26 (by decide +kernel) ?_
        exact xh_iret hx hb hr (()) ((pb_ans1 q0 cE).symm) hP hK hD hS dX3_judged_28 hlocks
    · exact absurd (nI_pos' (by omega)) c_10

set_option maxHeartbeats 4000000 in
set_option maxRecDepth 100000 in
theorem m_come (l : Launch) (dC : Nat → ClassId) (dI : Nat → Nat → Nat) (cI cJ : ClassId) (h : Nat → Nat) (sz : Nat) (B : Nat → Int32) (P : Nat → Int64) (E S L : Nat → Int32) (cd : Int32) (n ed : Nat) (pr : Int64) (ep sq : Int32) (a : Nat) (hn : n + 1 ≤ 2000) : Met l yX3_come wsX3_come ({ frames := 0, cells := 0, slots := 0, locals := 0 } : Room) (va_Pc [.ref (h 20), .long pr, .int ep, .int sq, .int (nI a)] (xP (dC, dI) classes [(cI, FieldType.int), (cJ, FieldType.long)] (wMo cI cJ h B P E S L cd (nI n) (nI ed)) sz)) (va_Qv (fun (_ : Unit) => True) (fun u => xB (dC, dI) classes [(cI, FieldType.int), (cJ, FieldType.long)] (va_A (wMo cI cJ h B P E S L cd (nI n) (nI ed)) sz) ((fun (_ : Unit) => wMo cI cJ h (upd B n (nI ed)) (vp_updL P n pr) (upd E n ep) (upd S n sq) (upd L n (nI a)) cd (nI (n + 1)) (nI (ed + (a + 1)))) u)) (va_A (wMo cI cJ h B P E S L cd (nI n) (nI ed)) sz)) 0 0 (va_A (wMo cI cJ h B P E S L cd (nI n) (nI ed)) sz) := by
  refine Met.ofW (cc := cX3_come) (maxL := 6) (ret := none) (by decide) rfl ?_
  intro p e s m args below meth c s₁ BB hml hv
  obtain ⟨rfl, hsz, hP, hK, hD0⟩ := hv
  have hx := BB.exec
  have hb := BB.bytes
  have hr := BB.returns
  have hts := atoms_spec (ws := wsX3_come) BB.pre
  have hown : s.vm.findClass RX3 = some m.cls := findClass_of_methodNamed BB.named
  have hlocks := BB.notSynchronized
  subst hsz
  have hD := hD0.self (sz := s.heap.size)
  generalize hAe : va_A (wMo cI cJ h B P E S L cd (nI n) (nI ed)) s.heap.size = A at hD ⊢
  have hA : ∀ q : Nat, s.heap.size ≤ q → A q := fun q h => by rw [← hAe]; exact Or.inr h
  have hS : va_S A s.heap s.heap [] := va_S.rf
  have hl := lv_entry ([.ref (h 20), .long pr, .int ep, .int sq, .int (nI a)]) (n := 6) (Nat.le_of_ble_eq_true rfl)
  rw [lg_entry_eq]
  generalize (lg_sl ([.ref (h 20), .long pr, .int ep, .int sq, .int (nI a)]) ++ List.replicate (6 - (lg_sl ([.ref (h 20), .long pr, .int ep, .int sq, .int (nI a)])).length) Slot.unset).toArray = ls at hl ⊢
  have hl : lv_has ls 6 [(0, .ref (h 20)), (1, .long pr), (3, .int ep), (4, .int sq), (5, .int (nI a))] := hl
  have hP : va_P (dC, dI) classes (wMo cI cJ h B P E S L cd (nI n) (nI ed)) s.heap := hP
  refine lv_aload_n hx hb dX3_come_0 rfl (lv_at hl 0 rfl) ?_
  refine va_get (D := (dC, dI)) (ci := 3) (v := .ref (h 21)) (C := RX3) (T := TX3) (N := 8) hx hb hts (fun w9 h9 => mm (inX3 w9 h9)) hown hK hP 0 rfl rfl 3 (by decide) (hts (.fieldLink RX3 7 "ProducerBookModel" "base" "[I") (mm aw_311)) (fun _ h9 => h9) rfl dX3_come_1 ?_
  refine lv_aload_n hx hb dX3_come_4 rfl (lv_at hl 0 rfl) ?_
  refine va_get (D := (dC, dI)) (ci := 3) (v := .int (nI n)) (C := RX3) (T := TX3) (N := 8) hx hb hts (fun w9 h9 => mm (inX3 w9 h9)) hown hK hP 0 rfl rfl 1 (by decide) (hts (.fieldLink RX3 32 "ProducerBookModel" "count" "I") (mm aw_309)) (fun _ h9 => h9) rfl dX3_come_5 ?_
  refine lv_aload_n hx hb dX3_come_8 rfl (lv_at hl 0 rfl) ?_
  refine va_get (D := (dC, dI)) (ci := 3) (v := .int (nI ed)) (C := RX3) (T := TX3) (N := 8) hx hb hts (fun w9 h9 => mm (inX3 w9 h9)) hown hK hP 0 rfl rfl 2 (by decide) (hts (.fieldLink RX3 45 "ProducerBookModel" "end" "I") (mm aw_310)) (fun _ h9 => h9) rfl dX3_come_9 ?_
  refine xh_iast hx hb hK hP hD hS 1 0 rfl rfl (k := n) (by omega) (by decide) dX3_come_12 (fun H locs hP hD hS => ?_)
  have hP : va_P (dC, dI) classes (wMo cI cJ h (upd B n (nI ed)) P E S L cd (nI n) (nI ed)) H := hP
  have hD : va_D A (wMo cI cJ h (upd B n (nI ed)) P E S L cd (nI n) (nI ed)) := hD
  refine lv_aload_n hx hb dX3_come_13 rfl (lv_at hl 0 rfl) ?_
  refine va_get (D := (dC, dI)) (ci := 3) (v := .ref (h 22)) (C := RX3) (T := TX3) (N := 8) hx hb hts (fun w9 h9 => mm (inX3 w9 h9)) hown hK hP 0 rfl rfl 4 (by decide) (hts (.fieldLink RX3 13 "ProducerBookModel" "producer" "[J") (mm aw_312)) (fun _ h9 => h9) rfl dX3_come_14 ?_
  refine lv_aload_n hx hb dX3_come_17 rfl (lv_at hl 0 rfl) ?_
  refine va_get (D := (dC, dI)) (ci := 3) (v := .int (nI n)) (C := RX3) (T := TX3) (N := 8) hx hb hts (fun w9 h9 => mm (inX3 w9 h9)) hown hK hP 0 rfl rfl 1 (by decide) (hts (.fieldLink RX3 32 "ProducerBookModel" "count" "I") (mm aw_309)) (fun _ h9 => h9) rfl dX3_come_18 ?_
  refine lv_lload_n hx hb dX3_come_21 rfl (lv_at hl 1 rfl) ?_
  refine xh_last hx hb hK hP hD hS 2 1 rfl rfl (k := n) (by omega) (by decide) dX3_come_22 (fun H locs hP hD hS => ?_)
  have hP : va_P (dC, dI) classes (wMo cI cJ h (upd B n (nI ed)) (vp_updL P n pr) E S L cd (nI n) (nI ed)) H := hP
  have hD : va_D A (wMo cI cJ h (upd B n (nI ed)) (vp_updL P n pr) E S L cd (nI n) (nI ed)) := hD
  refine lv_aload_n hx hb dX3_come_23 rfl (lv_at hl 0 rfl) ?_
  refine va_get (D := (dC, dI)) (ci := 3) (v := .ref (h 23)) (C := RX3) (T := TX3) (N := 8) hx hb hts (fun w9 h9 => mm (inX3 w9 h9)) hown hK hP 0 rfl rfl 5 (by decide) (hts (.fieldLink RX3 17 "ProducerBookModel" "epoch" "[I") (mm aw_313)) (fun _ h9 => h9) rfl dX3_come_24 ?_
  refine lv_aload_n hx hb dX3_come_27 rfl (lv_at hl 0 rfl) ?_
  refine va_get (D := (dC, dI)) (ci := 3) (v := .int (nI n)) (C := RX3) (T := TX3) (N := 8) hx hb hts (fun w9 h9 => mm (inX3 w9 h9)) hown hK hP 0 rfl rfl 1 (by decide) (hts (.fieldLink RX3 32 "ProducerBookModel" "count" "I") (mm aw_309)) (fun _ h9 => h9) rfl dX3_come_28 ?_
  refine lv_iload_n hx hb dX3_come_31 rfl (lv_at hl 2 rfl) ?_
  refine xh_iast hx hb hK hP hD hS 3 0 rfl rfl (k := n) (by omega) (by decide) dX3_come_32 (fun H locs hP hD hS => ?_)
  have hP : va_P (dC, dI) classes (wMo cI cJ h (upd B n (nI ed)) (vp_updL P n pr) (upd E n ep) S L cd (nI n) (nI ed)) H := hP
  have hD : va_D A (wMo cI cJ h (upd B n (nI ed)) (vp_updL P n pr) (upd E n ep) S L cd (nI n) (nI ed)) := hD
  refine lv_aload_n hx hb dX3_come_33 rfl (lv_at hl 0 rfl) ?_
  refine va_get (D := (dC, dI)) (ci := 3) (v := .ref (h 24)) (C := RX3) (T := TX3) (N := 8) hx hb hts (fun w9 h9 => mm (inX3 w9 h9)) hown hK hP 0 rfl rfl 6 (by decide) (hts (.fieldLink RX3 20 "ProducerBookModel" "sequence" "[I") (mm aw_314)) (fun _ h9 => h9) rfl dX3_come_34 ?_
  refine lv_aload_n hx hb dX3_come_37 rfl (lv_at hl 0 rfl) ?_
  refine va_get (D := (dC, dI)) (ci := 3) (v := .int (nI n)) (C := RX3) (T := TX3) (N := 8) hx hb hts (fun w9 h9 => mm (inX3 w9 h9)) hown hK hP 0 rfl rfl 1 (by decide) (hts (.fieldLink RX3 32 "ProducerBookModel" "count" "I") (mm aw_309)) (fun _ h9 => h9) rfl dX3_come_38 ?_
  refine lv_iload hx hb dX3_come_41 (lv_at hl 3 rfl) ?_
  refine xh_iast hx hb hK hP hD hS 4 0 rfl rfl (k := n) (by omega) (by decide) dX3_come_43 (fun H locs hP hD hS => ?_)
  have hP : va_P (dC, dI) classes (wMo cI cJ h (upd B n (nI ed)) (vp_updL P n pr) (upd E n ep) (upd S n sq) L cd (nI n) (nI ed)) H := hP
  have hD : va_D A (wMo cI cJ h (upd B n (nI ed)) (vp_updL P n pr) (upd E n ep) (upd S n sq) L cd (nI n) (nI ed)) := hD
  refine lv_aload_n hx hb dX3_come_44 rfl (lv_at hl 0 rfl) ?_
  refine va_get (D := (dC, dI)) (ci := 3) (v := .ref (h 25)) (C := RX3) (T := TX3) (N := 8) hx hb hts (fun w9 h9 => mm (inX3 w9 h9)) hown hK hP 0 rfl rfl 7 (by decide) (hts (.fieldLink RX3 23 "ProducerBookModel" "last" "[I") (mm aw_315)) (fun _ h9 => h9) rfl dX3_come_45 ?_
  refine lv_aload_n hx hb dX3_come_48 rfl (lv_at hl 0 rfl) ?_
  refine va_get (D := (dC, dI)) (ci := 3) (v := .int (nI n)) (C := RX3) (T := TX3) (N := 8) hx hb hts (fun w9 h9 => mm (inX3 w9 h9)) hown hK hP 0 rfl rfl 1 (by decide) (hts (.fieldLink RX3 32 "ProducerBookModel" "count" "I") (mm aw_309)) (fun _ h9 => h9) rfl dX3_come_49 ?_
  refine lv_iload hx hb dX3_come_52 (lv_at hl 4 rfl) ?_
  refine xh_iast hx hb hK hP hD hS 5 0 rfl rfl (k := n) (by omega) (by decide) dX3_come_54 (fun H locs hP hD hS => ?_)
  have hP : va_P (dC, dI) classes (wMo cI cJ h (upd B n (nI ed)) (vp_updL P n pr) (upd E n ep) (upd S n sq) (upd L n (nI a)) cd (nI n) (nI ed)) H := hP
  have hD : va_D A (wMo cI cJ h (upd B n (nI ed)) (vp_updL P n pr) (upd E n ep) (upd S n sq) (upd L n (nI a)) cd (nI n) (nI ed)) := hD
  refine lv_aload_n hx hb dX3_come_55 rfl (lv_at hl 0 rfl) ?_
  refine lv_dup hx hb dX3_come_56 rfl ?_
  refine va_get (D := (dC, dI)) (ci := 3) (v := .int (nI n)) (C := RX3) (T := TX3) (N := 8) hx hb hts (fun w9 h9 => mm (inX3 w9 h9)) hown hK hP 0 rfl rfl 1 (by decide) (hts (.fieldLink RX3 32 "ProducerBookModel" "count" "I") (mm aw_309)) (fun _ h9 => h9) rfl dX3_come_57 ?_
  refine lv_iconst (v := nI 1) hx hb dX3_come_60 (by decide +kernel) ?_
  refine lv_iadd hx hb dX3_come_61 ?_
  refine xh_topi (z := nI (n + 1)) (nI_add n 1) ?_
  refine va_put (D := (dC, dI)) (ci := 3) (v := .int (nI (n + 1))) (ty := .int) (C := RX3) (T := TX3) (N := 8) hx hb hts (fun w9 h9 => mm (inX3 w9 h9)) tyX3 tyX3_ok nX3 hown hK hP hD hS 0 rfl rfl 1 (by decide) (hts (.fieldLink RX3 32 "ProducerBookModel" "count" "I") (mm aw_309)) (fun _ h9 => h9) rfl (by decide +kernel) rfl rfl (Nat.le_of_ble_eq_true rfl) dX3_come_62 (fun H locs hP hD hS => ?_)
  have hP : va_P (dC, dI) classes (wMo cI cJ h (upd B n (nI ed)) (vp_updL P n pr) (upd E n ep) (upd S n sq) (upd L n (nI a)) cd (nI (n + 1)) (nI ed)) H := hP
  have hD : va_D A (wMo cI cJ h (upd B n (nI ed)) (vp_updL P n pr) (upd E n ep) (upd S n sq) (upd L n (nI a)) cd (nI (n + 1)) (nI ed)) := hD
  refine lv_aload_n hx hb dX3_come_65 rfl (lv_at hl 0 rfl) ?_
  refine lv_dup hx hb dX3_come_66 rfl ?_
  refine va_get (D := (dC, dI)) (ci := 3) (v := .int (nI ed)) (C := RX3) (T := TX3) (N := 8) hx hb hts (fun w9 h9 => mm (inX3 w9 h9)) hown hK hP 0 rfl rfl 2 (by decide) (hts (.fieldLink RX3 45 "ProducerBookModel" "end" "I") (mm aw_310)) (fun _ h9 => h9) rfl dX3_come_67 ?_
  refine lv_iload hx hb dX3_come_70 (lv_at hl 4 rfl) ?_
  refine lv_iconst (v := nI 1) hx hb dX3_come_72 (by decide +kernel) ?_
  refine lv_iadd hx hb dX3_come_73 ?_
  refine xh_topi (z := nI (a + 1)) (nI_add a 1) ?_
  refine lv_iadd hx hb dX3_come_74 ?_
  refine xh_topi (z := nI (ed + (a + 1))) (nI_add ed _) ?_
  refine va_put (D := (dC, dI)) (ci := 3) (v := .int (nI (ed + (a + 1)))) (ty := .int) (C := RX3) (T := TX3) (N := 8) hx hb hts (fun w9 h9 => mm (inX3 w9 h9)) tyX3 tyX3_ok nX3 hown hK hP hD hS 0 rfl rfl 2 (by decide) (hts (.fieldLink RX3 45 "ProducerBookModel" "end" "I") (mm aw_310)) (fun _ h9 => h9) rfl (by decide +kernel) rfl rfl (Nat.le_of_ble_eq_true rfl) dX3_come_75 (fun H locs hP hD hS => ?_)
  have hP : va_P (dC, dI) classes (wMo cI cJ h (upd B n (nI ed)) (vp_updL P n pr) (upd E n ep) (upd S n sq) (upd L n (nI a)) cd (nI (n + 1)) (nI (ed + (a + 1)))) H := hP
  have hD : va_D A (wMo cI cJ h (upd B n (nI ed)) (vp_updL P n pr) (upd E n ep) (upd S n sq) (upd L n (nI a)) cd (nI (n + 1)) (nI (ed + (a + 1)))) := hD
  exact xh_vret hx hb hr (()) (trivial) hP hK hD hS dX3_come_78 hlocks

set_option maxHeartbeats 4000000 in
set_option maxRecDepth 100000 in
theorem m_offer (l : Launch) (dC : Nat → ClassId) (dI : Nat → Nat → Nat) (cI cJ : ClassId) (h : Nat → Nat) (sz : Nat) (B : Nat → Int32) (P : Nat → Int64) (E S L : Nat → Int32) (cd : Int32) (n ed : Nat) (pr : Int64) (ep sq la : Int32) (hn : n ≤ 2000) (hI : pb_MI B P S L n) (hed : ed ≤ 1000000) : Met l yX3_offer wsX3_offer ({ frames := 2, cells := 0, slots := 0, locals := 110 } : Room) (va_Pc [.ref (h 20), .long pr, .int ep, .int sq, .int la] (xP (dC, dI) classes [(cI, FieldType.int), (cJ, FieldType.long)] (wMo cI cJ h B P E S L cd (nI n) (nI ed)) sz)) (va_Qi (fun (r : Int32) (u : Int32 × Option Nat) => match u.2 with | none => (¬ pb_leg pr ep sq la ∧ u.1 = nI 1) ∨ (pb_leg pr ep sq la ∧ pb_ans B E S L (pb_kc P n pr) (pb_ix P pr n) ep sq la ≠ -1 ∧ u.1 = nI 0 ∧ r = pb_ans B E S L (pb_kc P n pr) (pb_ix P pr n) ep sq la) ∨ (pb_leg pr ep sq la ∧ pb_ans B E S L (pb_kc P n pr) (pb_ix P pr n) ep sq la = -1 ∧ u.1 = nI 2 ∧ ∃ a : Nat, la = nI a ∧ a ≤ 999 ∧ ¬ (n + 1 ≤ 2000 ∧ ed + (a + 1) ≤ 1000000)) | some a => pb_leg pr ep sq la ∧ pb_ans B E S L (pb_kc P n pr) (pb_ix P pr n) ep sq la = -1 ∧ la = nI a ∧ a ≤ 999 ∧ (n + 1 ≤ 2000 ∧ ed + (a + 1) ≤ 1000000) ∧ u.1 = nI 0 ∧ r = nI ed) (fun u => xB (dC, dI) classes [(cI, FieldType.int), (cJ, FieldType.long)] (va_A (wMo cI cJ h B P E S L cd (nI n) (nI ed)) sz) ((fun (u : Int32 × Option Nat) => match u.2 with | none => wMo cI cJ h B P E S L u.1 (nI n) (nI ed) | some a => wMo cI cJ h (upd B n (nI ed)) (vp_updL P n pr) (upd E n ep) (upd S n sq) (upd L n (nI a)) u.1 (nI (n + 1)) (nI (ed + (a + 1)))) u)) (va_A (wMo cI cJ h B P E S L cd (nI n) (nI ed)) sz)) 0 0 (va_A (wMo cI cJ h B P E S L cd (nI n) (nI ed)) sz) := by
  refine Met.ofW (cc := cX3_offer) (maxL := 7) (ret := (some .int)) (by decide) rfl ?_
  intro p e s m args below meth c s₁ BB hml hv
  obtain ⟨rfl, hsz, hP, hK, hD0⟩ := hv
  have hx := BB.exec
  have hb := BB.bytes
  have hr := BB.returns
  have hts := atoms_spec (ws := wsX3_offer) BB.pre
  have hown : s.vm.findClass RX3 = some m.cls := findClass_of_methodNamed BB.named
  have hlocks := BB.notSynchronized
  subst hsz
  have hD := hD0.self (sz := s.heap.size)
  generalize hAe : va_A (wMo cI cJ h B P E S L cd (nI n) (nI ed)) s.heap.size = A at hD ⊢
  have hA : ∀ q : Nat, s.heap.size ≤ q → A q := fun q h => by rw [← hAe]; exact Or.inr h
  have hS : va_S A s.heap s.heap [] := va_S.rf
  have hl := lv_entry ([.ref (h 20), .long pr, .int ep, .int sq, .int la]) (n := 7) (Nat.le_of_ble_eq_true rfl)
  rw [lg_entry_eq]
  generalize (lg_sl ([.ref (h 20), .long pr, .int ep, .int sq, .int la]) ++ List.replicate (7 - (lg_sl ([.ref (h 20), .long pr, .int ep, .int sq, .int la])).length) Slot.unset).toArray = ls at hl ⊢
  have hl : lv_has ls 7 [(0, .ref (h 20)), (1, .long pr), (3, .int ep), (4, .int sq), (5, .int la)] := hl
  have hP : va_P (dC, dI) classes (wMo cI cJ h B P E S L cd (nI n) (nI ed)) s.heap := hP
  refine lv_aload_n hx hb dX3_offer_0 rfl (lv_at hl 0 rfl) ?_
  refine lv_lload_n hx hb dX3_offer_1 rfl (lv_at hl 1 rfl) ?_
  refine lv_iload_n hx hb dX3_offer_2 rfl (lv_at hl 2 rfl) ?_
  refine lv_iload hx hb dX3_offer_3 (lv_at hl 3 rfl) ?_
  refine lv_iload hx hb dX3_offer_5 (lv_at hl 4 rfl) ?_
  refine xh_calli (wc := []) (wr := wMo cI cJ h B P E S L cd (nI n) (nI ed)) (w1 := fun (u : Unit) => []) hP hD hS hA [] [0, 1, 2, 3, 4, 5] rfl rfl (by decide) (by decide) (va_runS (As := [.long pr, .int ep, .int sq, .int la]) (rest := [.ref (h 20)]) ⟨hx, hb, hml, hown, hts⟩ (m_isBatch l dC dI cI cJ h s.heap.size pr ep sq la) (cwS 4 hts (aw_S aw_341 aw_342 aw_4 aw_343) rfl rfl rfl (by decide +kernel) ⟨Nat.le_of_ble_eq_true rfl, Nat.le_of_ble_eq_true rfl⟩) (xh_preS hK (hP.sub (ws' := []) [] rfl) (hD.sub (ws' := []) [] (by decide) rfl)) rfl rfl hl.1 rfl (lv_room (Nat.le_of_ble_eq_true rfl)) dX3_offer_7 ⟨Nat.le_of_ble_eq_true rfl, Nat.le_of_ble_eq_true rfl⟩) (fun r_1 u H locs hw hP hD hS => ?_)
  have hP : va_P (dC, dI) classes (wMo cI cJ h B P E S L cd (nI n) (nI ed)) H := hP
  have hD : va_D A (wMo cI cJ h B P E S L cd (nI n) (nI ed)) := hD
  rcases hw with ⟨hleg, rfl⟩ | ⟨hleg, rfl⟩
  · obtain ⟨a, ha, ela⟩ := nI_of2 (M := nI 999) (n := 999) (by decide) hleg.1 hleg.2.1
    refine lv_if_eq (tgt := 17) hx hb dX3_offer_10 (by decide) (fun c_10 => ?_) (fun c_10 => ?_)
    · exact absurd c_10 (by decide)
    · refine lv_iconst (v := nI 0) hx hb dX3_offer_13 (by decide +kernel) ?_
      refine lv_goto (tgt := 18) hx hb dX3_offer_14 (by decide) ?_
      refine va_put (D := (dC, dI)) (ci := 3) (v := .int (nI 0)) (ty := .int) (C := RX3) (T := TX3) (N := 8) hx hb hts (fun w9 h9 => mm (inX3 w9 h9)) tyX3 tyX3_ok nX3 hown hK hP hD hS 0 rfl rfl 0 (by decide) (hts (.fieldLink RX3 26 "ProducerBookModel" "code" "I") (mm aw_308)) (fun _ h9 => h9) rfl (by decide +kernel) rfl rfl (Nat.le_of_ble_eq_true rfl) dX3_offer_18 (fun H locs hP hD hS => ?_)
      have hP : va_P (dC, dI) classes (wMo cI cJ h B P E S L (nI 0) (nI n) (nI ed)) H := hP
      have hD : va_D A (wMo cI cJ h B P E S L (nI 0) (nI n) (nI ed)) := hD
      refine lv_aload_n hx hb dX3_offer_21 rfl (lv_at hl 0 rfl) ?_
      refine va_get (D := (dC, dI)) (ci := 3) (v := .int (nI 0)) (C := RX3) (T := TX3) (N := 8) hx hb hts (fun w9 h9 => mm (inX3 w9 h9)) hown hK hP 0 rfl rfl 0 (by decide) (hts (.fieldLink RX3 26 "ProducerBookModel" "code" "I") (mm aw_308)) (fun _ h9 => h9) rfl dX3_offer_22 ?_
      refine lv_if_le (tgt := 30) hx hb dX3_offer_25 (by decide) (fun c_25 => ?_) (fun c_25 => ?_)
      · refine lv_aload_n hx hb dX3_offer_30 rfl (lv_at hl 0 rfl) ?_
        refine lv_lload_n hx hb dX3_offer_31 rfl (lv_at hl 1 rfl) ?_
        refine lv_iload_n hx hb dX3_offer_32 rfl (lv_at hl 2 rfl) ?_
        refine lv_iload hx hb dX3_offer_33 (lv_at hl 3 rfl) ?_
        refine lv_iload hx hb dX3_offer_35 (lv_at hl 4 rfl) ?_
        refine xh_calli (wc := wMo cI cJ h B P E S L (nI 0) (nI n) (nI ed)) (wr := []) (w1 := fun (u : Unit) => wMo cI cJ h B P E S L (nI 0) (nI n) (nI ed)) hP hD hS hA [0, 1, 2, 3, 4, 5] [] rfl rfl (by decide) (by decide) (va_runV (As := [.long pr, .int ep, .int sq, .int la]) (rest := []) ⟨hx, hb, hml, hown, hts⟩ (m_judged l dC dI cI cJ h H.size B P E S L (nI 0) n ed pr ep sq la hn hI (pb_legp hleg)) (cwV 4 hts (aw_V aw_345 aw_347 aw_s5 aw_4 aw_348) rfl rfl rfl (by decide +kernel) ⟨Nat.le_of_ble_eq_true rfl, Nat.le_of_ble_eq_true rfl⟩) (xh_preV (r0 := 0) hK (hP.sub (ws' := wMo cI cJ h B P E S L (nI 0) (nI n) (nI ed)) [0, 1, 2, 3, 4, 5] rfl) (hD.sub (ws' := wMo cI cJ h B P E S L (nI 0) (nI n) (nI ed)) [0, 1, 2, 3, 4, 5] (by decide) rfl) rfl rfl rfl) rfl rfl hl.1 rfl (lv_room (Nat.le_of_ble_eq_true rfl)) dX3_offer_37 ⟨Nat.le_of_ble_eq_true rfl, Nat.le_of_ble_eq_true rfl⟩) (fun r_2 u H locs hw hP hD hS => ?_)
        have hP : va_P (dC, dI) classes (wMo cI cJ h B P E S L (nI 0) (nI n) (nI ed)) H := hP
        have hD : va_D A (wMo cI cJ h B P E S L (nI 0) (nI n) (nI ed)) := hD
        obtain ⟨an, ean⟩ : ∃ z, z = pb_ans B E S L (pb_kc P n pr) (pb_ix P pr n) ep sq la := ⟨_, rfl⟩
        refine xh_topi (z := an) (hw.trans ean.symm) ?_
        refine lv_istore (lv' := [(6, .int an), (0, .ref (h 20)), (1, .long pr), (3, .int ep), (4, .int sq), (5, .int la)]) hx hb dX3_offer_40 hl (by decide) rfl (fun ls hl => ?_)
        refine lv_iload hx hb dX3_offer_42 (lv_at hl 0 rfl) ?_
        refine lv_iconst (v := (-1)) hx hb dX3_offer_44 (by decide +kernel) ?_
        refine lv_icmp_eq (tgt := 51) hx hb dX3_offer_45 (by decide) (fun c_45 => ?_) (fun c_45 => ?_)
        · rw [ela] at hl
          refine lv_aload_n hx hb dX3_offer_51 rfl (lv_at hl 1 rfl) ?_
          refine lv_aload_n hx hb dX3_offer_52 rfl (lv_at hl 1 rfl) ?_
          refine va_get (D := (dC, dI)) (ci := 3) (v := .int (nI n)) (C := RX3) (T := TX3) (N := 8) hx hb hts (fun w9 h9 => mm (inX3 w9 h9)) hown hK hP 0 rfl rfl 1 (by decide) (hts (.fieldLink RX3 32 "ProducerBookModel" "count" "I") (mm aw_309)) (fun _ h9 => h9) rfl dX3_offer_53 ?_
          refine lv_sipush (v := nI 2000) hx hb dX3_offer_56 (by decide +kernel) ?_
          refine lv_icmp_eq (tgt := 76) hx hb dX3_offer_59 (by decide) (fun c_59 => ?_) (fun c_59 => ?_)
          · have c1 : n = 2000 := (nI_eq (by omega) (by decide)).mp c_59
            refine lv_iconst (v := nI 2) hx hb dX3_offer_76 (by decide +kernel) ?_
            refine lv_goto (tgt := 81) hx hb dX3_offer_77 (by decide) ?_
            refine va_put (D := (dC, dI)) (ci := 3) (v := .int (nI 2)) (ty := .int) (C := RX3) (T := TX3) (N := 8) hx hb hts (fun w9 h9 => mm (inX3 w9 h9)) tyX3 tyX3_ok nX3 hown hK hP hD hS 0 rfl rfl 0 (by decide) (hts (.fieldLink RX3 26 "ProducerBookModel" "code" "I") (mm aw_308)) (fun _ h9 => h9) rfl (by decide +kernel) rfl rfl (Nat.le_of_ble_eq_true rfl) dX3_offer_81 (fun H locs hP hD hS => ?_)
            have hP : va_P (dC, dI) classes (wMo cI cJ h B P E S L (nI 2) (nI n) (nI ed)) H := hP
            have hD : va_D A (wMo cI cJ h B P E S L (nI 2) (nI n) (nI ed)) := hD
            refine lv_aload_n hx hb dX3_offer_84 rfl (lv_at hl 1 rfl) ?_
            refine va_get (D := (dC, dI)) (ci := 3) (v := .int (nI 2)) (C := RX3) (T := TX3) (N := 8) hx hb hts (fun w9 h9 => mm (inX3 w9 h9)) hown hK hP 0 rfl rfl 0 (by decide) (hts (.fieldLink RX3 26 "ProducerBookModel" "code" "I") (mm aw_308)) (fun _ h9 => h9) rfl dX3_offer_85 ?_
            refine lv_if_le (tgt := 93) hx hb dX3_offer_88 (by decide) (fun c_88 => ?_) (fun c_88 => ?_)
            · exact absurd c_88 (by decide)
            · refine lv_iconst (v := nI 0) hx hb dX3_offer_91 (by decide +kernel) ?_
              exact xh_iret hx hb hr ((nI 2, none)) (Or.inr (Or.inr ⟨hleg, ean.symm.trans c_45, rfl, a, ela, ha, fun g => by have := g.1; have := g.2; omega⟩)) hP hK hD hS dX3_offer_92 hlocks
          · have c1 : ¬ n = 2000 := fun g => c_59 (by rw [g])
            refine lv_aload_n hx hb dX3_offer_62 rfl (lv_at hl 1 rfl) ?_
            refine va_get (D := (dC, dI)) (ci := 3) (v := .int (nI ed)) (C := RX3) (T := TX3) (N := 8) hx hb hts (fun w9 h9 => mm (inX3 w9 h9)) hown hK hP 0 rfl rfl 2 (by decide) (hts (.fieldLink RX3 45 "ProducerBookModel" "end" "I") (mm aw_310)) (fun _ h9 => h9) rfl dX3_offer_63 ?_
            refine lv_iload hx hb dX3_offer_66 (lv_at hl 5 rfl) ?_
            refine lv_iadd hx hb dX3_offer_68 ?_
            refine xh_topi (z := nI (ed + a)) (nI_add ed a) ?_
            refine lv_iconst (v := nI 1) hx hb dX3_offer_69 (by decide +kernel) ?_
            refine lv_iadd hx hb dX3_offer_70 ?_
            refine xh_topi (z := nI (ed + a + 1)) (nI_add _ 1) ?_
            refine lv_ldc (v := nI 1000000) hx hb hown (hts (.constant RX3 56 (nI 1000000)) (mm aw_357)) dX3_offer_71 ?_
            refine lv_icmp_le (tgt := 80) hx hb dX3_offer_73 (by decide) (fun c_73 => ?_) (fun c_73 => ?_)
            · have c2 := (nI_leI (by omega) (by decide)).mp c_73
              refine lv_iconst (v := nI 0) hx hb dX3_offer_80 (by decide +kernel) ?_
              refine va_put (D := (dC, dI)) (ci := 3) (v := .int (nI 0)) (ty := .int) (C := RX3) (T := TX3) (N := 8) hx hb hts (fun w9 h9 => mm (inX3 w9 h9)) tyX3 tyX3_ok nX3 hown hK hP hD hS 0 rfl rfl 0 (by decide) (hts (.fieldLink RX3 26 "ProducerBookModel" "code" "I") (mm aw_308)) (fun _ h9 => h9) rfl (by decide +kernel) rfl rfl (Nat.le_of_ble_eq_true rfl) dX3_offer_81 (fun H locs hP hD hS => ?_)
              have hP : va_P (dC, dI) classes (wMo cI cJ h B P E S L (nI 0) (nI n) (nI ed)) H := hP
              have hD : va_D A (wMo cI cJ h B P E S L (nI 0) (nI n) (nI ed)) := hD
              refine lv_aload_n hx hb dX3_offer_84 rfl (lv_at hl 1 rfl) ?_
              refine va_get (D := (dC, dI)) (ci := 3) (v := .int (nI 0)) (C := RX3) (T := TX3) (N := 8) hx hb hts (fun w9 h9 => mm (inX3 w9 h9)) hown hK hP 0 rfl rfl 0 (by decide) (hts (.fieldLink RX3 26 "ProducerBookModel" "code" "I") (mm aw_308)) (fun _ h9 => h9) rfl dX3_offer_85 ?_
              refine lv_if_le (tgt := 93) hx hb dX3_offer_88 (by decide) (fun c_88 => ?_) (fun c_88 => ?_)
              · refine lv_aload_n hx hb dX3_offer_93 rfl (lv_at hl 1 rfl) ?_
                refine lv_lload_n hx hb dX3_offer_94 rfl (lv_at hl 2 rfl) ?_
                refine lv_iload_n hx hb dX3_offer_95 rfl (lv_at hl 3 rfl) ?_
                refine lv_iload hx hb dX3_offer_96 (lv_at hl 4 rfl) ?_
                refine lv_iload hx hb dX3_offer_98 (lv_at hl 5 rfl) ?_
                refine xh_callv (wc := wMo cI cJ h B P E S L (nI 0) (nI n) (nI ed)) (wr := []) (w1 := fun (u : Unit) => wMo cI cJ h (upd B n (nI ed)) (vp_updL P n pr) (upd E n ep) (upd S n sq) (upd L n (nI a)) (nI 0) (nI (n + 1)) (nI (ed + (a + 1)))) hP hD hS hA [0, 1, 2, 3, 4, 5] [] rfl rfl (by decide) (by decide) (va_runV (As := [.long pr, .int ep, .int sq, .int (nI a)]) (rest := []) ⟨hx, hb, hml, hown, hts⟩ (m_come l dC dI cI cJ h H.size B P E S L (nI 0) n ed pr ep sq a (by omega)) (cwV 4 hts (aw_V aw_358 aw_360 aw_s7 aw_4 aw_361) rfl rfl rfl (by decide +kernel) ⟨Nat.le_of_ble_eq_true rfl, Nat.le_of_ble_eq_true rfl⟩) (xh_preV (r0 := 0) hK (hP.sub (ws' := wMo cI cJ h B P E S L (nI 0) (nI n) (nI ed)) [0, 1, 2, 3, 4, 5] rfl) (hD.sub (ws' := wMo cI cJ h B P E S L (nI 0) (nI n) (nI ed)) [0, 1, 2, 3, 4, 5] (by decide) rfl) rfl rfl rfl) rfl rfl hl.1 rfl (lv_room (Nat.le_of_ble_eq_true rfl)) dX3_offer_100 ⟨Nat.le_of_ble_eq_true rfl, Nat.le_of_ble_eq_true rfl⟩) (fun  u H locs hw hP hD hS => ?_)
                have hP : va_P (dC, dI) classes (wMo cI cJ h (upd B n (nI ed)) (vp_updL P n pr) (upd E n ep) (upd S n sq) (upd L n (nI a)) (nI 0) (nI (n + 1)) (nI (ed + (a + 1)))) H := hP
                have hD : va_D A (wMo cI cJ h (upd B n (nI ed)) (vp_updL P n pr) (upd E n ep) (upd S n sq) (upd L n (nI a)) (nI 0) (nI (n + 1)) (nI (ed + (a + 1)))) := hD
                refine lv_aload_n hx hb dX3_offer_103 rfl (lv_at hl 1 rfl) ?_
                refine va_get (D := (dC, dI)) (ci := 3) (v := .ref (h 21)) (C := RX3) (T := TX3) (N := 8) hx hb hts (fun w9 h9 => mm (inX3 w9 h9)) hown hK hP 0 rfl rfl 3 (by decide) (hts (.fieldLink RX3 7 "ProducerBookModel" "base" "[I") (mm aw_311)) (fun _ h9 => h9) rfl dX3_offer_104 ?_
                refine lv_aload_n hx hb dX3_offer_107 rfl (lv_at hl 1 rfl) ?_
                refine va_get (D := (dC, dI)) (ci := 3) (v := .int (nI (n + 1))) (C := RX3) (T := TX3) (N := 8) hx hb hts (fun w9 h9 => mm (inX3 w9 h9)) hown hK hP 0 rfl rfl 1 (by decide) (hts (.fieldLink RX3 32 "ProducerBookModel" "count" "I") (mm aw_309)) (fun _ h9 => h9) rfl dX3_offer_108 ?_
                refine lv_iconst (v := nI 1) hx hb dX3_offer_111 (by decide +kernel) ?_
                refine lv_isub hx hb dX3_offer_112 ?_
                refine xh_topi (z := nI n) (pk_sub (Nat.le_add_left 1 n)) ?_
                refine xh_iald hx hb hK hP 1 0 rfl rfl (k := n) (by omega) (by decide) dX3_offer_113 ?_
                refine xh_topi (z := nI ed) (pk_us) ?_
                exact xh_iret hx hb hr ((nI 0, some a)) (⟨hleg, ean.symm.trans c_45, ela, ha, ⟨by omega, by omega⟩, rfl, rfl⟩) hP hK hD hS dX3_offer_114 hlocks
              · exact absurd (show nI 0 ≤ 0 by decide) c_88
            · have c2 : 1000000 < ed + a + 1 := Nat.lt_of_not_le fun g => c_73 ((nI_leI (by omega) (by decide)).mpr g)
              refine lv_iconst (v := nI 2) hx hb dX3_offer_76 (by decide +kernel) ?_
              refine lv_goto (tgt := 81) hx hb dX3_offer_77 (by decide) ?_
              refine va_put (D := (dC, dI)) (ci := 3) (v := .int (nI 2)) (ty := .int) (C := RX3) (T := TX3) (N := 8) hx hb hts (fun w9 h9 => mm (inX3 w9 h9)) tyX3 tyX3_ok nX3 hown hK hP hD hS 0 rfl rfl 0 (by decide) (hts (.fieldLink RX3 26 "ProducerBookModel" "code" "I") (mm aw_308)) (fun _ h9 => h9) rfl (by decide +kernel) rfl rfl (Nat.le_of_ble_eq_true rfl) dX3_offer_81 (fun H locs hP hD hS => ?_)
              have hP : va_P (dC, dI) classes (wMo cI cJ h B P E S L (nI 2) (nI n) (nI ed)) H := hP
              have hD : va_D A (wMo cI cJ h B P E S L (nI 2) (nI n) (nI ed)) := hD
              refine lv_aload_n hx hb dX3_offer_84 rfl (lv_at hl 1 rfl) ?_
              refine va_get (D := (dC, dI)) (ci := 3) (v := .int (nI 2)) (C := RX3) (T := TX3) (N := 8) hx hb hts (fun w9 h9 => mm (inX3 w9 h9)) hown hK hP 0 rfl rfl 0 (by decide) (hts (.fieldLink RX3 26 "ProducerBookModel" "code" "I") (mm aw_308)) (fun _ h9 => h9) rfl dX3_offer_85 ?_
              refine lv_if_le (tgt := 93) hx hb dX3_offer_88 (by decide) (fun c_88 => ?_) (fun c_88 => ?_)
              · exact absurd c_88 (by decide)
              · refine lv_iconst (v := nI 0) hx hb dX3_offer_91 (by decide +kernel) ?_
                exact xh_iret hx hb hr ((nI 2, none)) (Or.inr (Or.inr ⟨hleg, ean.symm.trans c_45, rfl, a, ela, ha, fun g => by have := g.1; have := g.2; omega⟩)) hP hK hD hS dX3_offer_92 hlocks
        · refine lv_iload hx hb dX3_offer_48 (lv_at hl 0 rfl) ?_
          exact xh_iret hx hb hr ((nI 0, none)) (Or.inr (Or.inl ⟨hleg, by rw [← ean]; exact c_45, rfl, ean⟩)) hP hK hD hS dX3_offer_50 hlocks
      · exact absurd (show nI 0 ≤ 0 by decide) c_25
  · have hnl := hleg
    refine lv_if_eq (tgt := 17) hx hb dX3_offer_10 (by decide) (fun c_10 => ?_) (fun c_10 => ?_)
    · refine lv_iconst (v := nI 1) hx hb dX3_offer_17 (by decide +kernel) ?_
      refine va_put (D := (dC, dI)) (ci := 3) (v := .int (nI 1)) (ty := .int) (C := RX3) (T := TX3) (N := 8) hx hb hts (fun w9 h9 => mm (inX3 w9 h9)) tyX3 tyX3_ok nX3 hown hK hP hD hS 0 rfl rfl 0 (by decide) (hts (.fieldLink RX3 26 "ProducerBookModel" "code" "I") (mm aw_308)) (fun _ h9 => h9) rfl (by decide +kernel) rfl rfl (Nat.le_of_ble_eq_true rfl) dX3_offer_18 (fun H locs hP hD hS => ?_)
      have hP : va_P (dC, dI) classes (wMo cI cJ h B P E S L (nI 1) (nI n) (nI ed)) H := hP
      have hD : va_D A (wMo cI cJ h B P E S L (nI 1) (nI n) (nI ed)) := hD
      refine lv_aload_n hx hb dX3_offer_21 rfl (lv_at hl 0 rfl) ?_
      refine va_get (D := (dC, dI)) (ci := 3) (v := .int (nI 1)) (C := RX3) (T := TX3) (N := 8) hx hb hts (fun w9 h9 => mm (inX3 w9 h9)) hown hK hP 0 rfl rfl 0 (by decide) (hts (.fieldLink RX3 26 "ProducerBookModel" "code" "I") (mm aw_308)) (fun _ h9 => h9) rfl dX3_offer_22 ?_
      refine lv_if_le (tgt := 30) hx hb dX3_offer_25 (by decide) (fun c_25 => ?_) (fun c_25 => ?_)
      · exact absurd c_25 (by decide)
      · refine lv_iconst (v := nI 0) hx hb dX3_offer_28 (by decide +kernel) ?_
        exact xh_iret hx hb hr ((nI 1, none)) (Or.inl ⟨hnl, rfl⟩) hP hK hD hS dX3_offer_29 hlocks
    · exact absurd (show nI 0 = 0 by decide) c_10
