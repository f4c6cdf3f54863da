set_option maxHeartbeats 4000000 in
set_option maxRecDepth 100000 in
theorem m_known (l : Launch) (dC : Nat → ClassId) (dI : Nat → Nat → Nat) (cI cJ : ClassId) (h : Nat → Nat) (sz : Nat) (B : Nat → Int32) (P : Nat → Int64) (E S L : Nat → Int32) (cd : Int32) (n ed : Nat) (pr : Int64) (y : Int32) (hn : n ≤ 2000) (hI : pb_MI B P S L n) : Met l yX3_known wsX3_known ({ frames := 1, cells := 0, slots := 0, locals := 60 } : Room) (va_Pc [.ref (h 20), .long pr, .int y] (xP (dC, dI) classes [(cI, FieldType.int), (cJ, FieldType.long)] (wMo cI cJ h B P E S L cd (nI n) (nI ed)) sz)) (va_Qi (fun (r : Int32) (u : Option Nat) => match u with | none => ¬ (¬ pr < 0 ∧ ¬ y < 0 ∧ y ≤ nI 4) | some y9 => ¬ pr < 0 ∧ y = nI y9 ∧ y9 ≤ 4 ∧ r = pb_kno B P E S L n pr y9) (fun u => xB (dC, dI) classes [(cI, FieldType.int), (cJ, FieldType.long)] (va_A (wMo cI cJ h B P E S L cd (nI n) (nI ed)) sz) ((fun (u : Option Nat) => match u with | none => wMo cI cJ h B P E S L (nI 1) (nI n) (nI ed) | some _ => wMo cI cJ h B P E S L (nI 0) (nI n) (nI ed)) u)) (va_A (wMo cI cJ h B P E S L cd (nI n) (nI ed)) sz)) 0 0 (va_A (wMo cI cJ h B P E S L cd (nI n) (nI ed)) sz) := by
  refine Met.ofW (cc := cX3_known) (maxL := 6) (ret := (some .int)) (by decide) rfl ?_
  intro p e s m args below meth c s₁ BB hml hv
  obtain ⟨rfl, hsz, hP, hK, hD0⟩ := hv
  have hx := BB.exec
  have hb := BB.bytes
  have hr := BB.returns
  have hts := atoms_spec (ws := wsX3_known) BB.pre
  have hown : s.vm.findClass RX3 = some m.cls := findClass_of_methodNamed BB.named
  have hlocks := BB.notSynchronized
  subst hsz
  have hD := hD0.self (sz := s.heap.size)
  generalize hAe : va_A (wMo cI cJ h B P E S L cd (nI n) (nI ed)) s.heap.size = A at hD ⊢
  have hA : ∀ q : Nat, s.heap.size ≤ q → A q := fun q h => by rw [← hAe]; exact Or.inr h
  have hS : va_S A s.heap s.heap [] := va_S.rf
  have hl := lv_entry ([.ref (h 20), .long pr, .int y]) (n := 6) (Nat.le_of_ble_eq_true rfl)
  rw [lg_entry_eq]
  generalize (lg_sl ([.ref (h 20), .long pr, .int y]) ++ List.replicate (6 - (lg_sl ([.ref (h 20), .long pr, .int y])).length) Slot.unset).toArray = ls at hl ⊢
  have hl : lv_has ls 6 [(0, .ref (h 20)), (1, .long pr), (3, .int y)] := hl
  have hP : va_P (dC, dI) classes (wMo cI cJ h B P E S L cd (nI n) (nI ed)) s.heap := hP
  refine lv_aload_n hx hb dX3_known_0 rfl (lv_at hl 0 rfl) ?_
  refine lv_lload_n hx hb dX3_known_1 rfl (lv_at hl 1 rfl) ?_
  refine lv_lconst (v := 0) hx hb dX3_known_2 (by decide) ?_
  refine W.lcmp hx hb dX3_known_3 ?_
  refine lv_if_lt (tgt := 16) hx hb dX3_known_4 (by decide) (fun c_4 => ?_) (fun c_4 => ?_)
  · have cQ : pr < 0 := (lg_cmp_lt _ _).mp c_4
    refine lv_iconst (v := nI 1) hx hb dX3_known_16 (by decide +kernel) ?_
    refine lv_goto (tgt := 21) hx hb dX3_known_17 (by decide) ?_
    refine va_put (D := (dC, dI)) (ci := 3) (v := .int (nI 1)) (ty := .int) (C := RX3) (T := TX3) (N := 8) hx hb hts (fun w9 h9 => mm (inX3 w9 h9)) tyX3 tyX3_ok nX3 hown hK hP hD hS 0 rfl rfl 0 (by decide) (hts (.fieldLink RX3 26 "ProducerBookModel" "code" "I") (mm aw_308)) (fun _ h9 => h9) rfl (by decide +kernel) rfl rfl (Nat.le_of_ble_eq_true rfl) dX3_known_21 (fun H locs hP hD hS => ?_)
    have hP : va_P (dC, dI) classes (wMo cI cJ h B P E S L (nI 1) (nI n) (nI ed)) H := hP
    have hD : va_D A (wMo cI cJ h B P E S L (nI 1) (nI n) (nI ed)) := hD
    refine lv_aload_n hx hb dX3_known_24 rfl (lv_at hl 0 rfl) ?_
    refine va_get (D := (dC, dI)) (ci := 3) (v := .int (nI 1)) (C := RX3) (T := TX3) (N := 8) hx hb hts (fun w9 h9 => mm (inX3 w9 h9)) hown hK hP 0 rfl rfl 0 (by decide) (hts (.fieldLink RX3 26 "ProducerBookModel" "code" "I") (mm aw_308)) (fun _ h9 => h9) rfl dX3_known_25 ?_
    refine lv_if_le (tgt := 33) hx hb dX3_known_28 (by decide) (fun c_28 => ?_) (fun c_28 => ?_)
    · exact absurd c_28 (by decide)
    · refine lv_iconst (v := nI 0) hx hb dX3_known_31 (by decide +kernel) ?_
      exact xh_iret hx hb hr (none) (fun k => k.1 cQ) hP hK hD hS dX3_known_32 hlocks
  · have cQ : ¬ pr < 0 := fun g => c_4 ((lg_cmp_lt _ _).mpr g)
    refine lv_iload_n hx hb dX3_known_7 rfl (lv_at hl 2 rfl) ?_
    refine lv_if_lt (tgt := 16) hx hb dX3_known_8 (by decide) (fun c_8 => ?_) (fun c_8 => ?_)
    · refine lv_iconst (v := nI 1) hx hb dX3_known_16 (by decide +kernel) ?_
      refine lv_goto (tgt := 21) hx hb dX3_known_17 (by decide) ?_
      refine va_put (D := (dC, dI)) (ci := 3) (v := .int (nI 1)) (ty := .int) (C := RX3) (T := TX3) (N := 8) hx hb hts (fun w9 h9 => mm (inX3 w9 h9)) tyX3 tyX3_ok nX3 hown hK hP hD hS 0 rfl rfl 0 (by decide) (hts (.fieldLink RX3 26 "ProducerBookModel" "code" "I") (mm aw_308)) (fun _ h9 => h9) rfl (by decide +kernel) rfl rfl (Nat.le_of_ble_eq_true rfl) dX3_known_21 (fun H locs hP hD hS => ?_)
      have hP : va_P (dC, dI) classes (wMo cI cJ h B P E S L (nI 1) (nI n) (nI ed)) H := hP
      have hD : va_D A (wMo cI cJ h B P E S L (nI 1) (nI n) (nI ed)) := hD
      refine lv_aload_n hx hb dX3_known_24 rfl (lv_at hl 0 rfl) ?_
      refine va_get (D := (dC, dI)) (ci := 3) (v := .int (nI 1)) (C := RX3) (T := TX3) (N := 8) hx hb hts (fun w9 h9 => mm (inX3 w9 h9)) hown hK hP 0 rfl rfl 0 (by decide) (hts (.fieldLink RX3 26 "ProducerBookModel" "code" "I") (mm aw_308)) (fun _ h9 => h9) rfl dX3_known_25 ?_
      refine lv_if_le (tgt := 33) hx hb dX3_known_28 (by decide) (fun c_28 => ?_) (fun c_28 => ?_)
      · exact absurd c_28 (by decide)
      · refine lv_iconst (v := nI 0) hx hb dX3_known_31 (by decide +kernel) ?_
        exact xh_iret hx hb hr (none) (fun k => k.2.1 c_8) hP hK hD hS dX3_known_32 hlocks
    · refine lv_iload_n hx hb dX3_known_11 rfl (lv_at hl 2 rfl) ?_
      refine lv_iconst (v := nI 4) hx hb dX3_known_12 (by decide +kernel) ?_
      refine lv_icmp_le (tgt := 20) hx hb dX3_known_13 (by decide) (fun c_13 => ?_) (fun c_13 => ?_)
      · refine lv_iconst (v := nI 0) hx hb dX3_known_20 (by decide +kernel) ?_
        refine va_put (D := (dC, dI)) (ci := 3) (v := .int (nI 0)) (ty := .int) (C := RX3) (T := TX3) (N := 8) hx hb hts (fun w9 h9 => mm (inX3 w9 h9)) tyX3 tyX3_ok nX3 hown hK hP hD hS 0 rfl rfl 0 (by decide) (hts (.fieldLink RX3 26 "ProducerBookModel" "code" "I") (mm aw_308)) (fun _ h9 => h9) rfl (by decide +kernel) rfl rfl (Nat.le_of_ble_eq_true rfl) dX3_known_21 (fun H locs hP hD hS => ?_)
        have hP : va_P (dC, dI) classes (wMo cI cJ h B P E S L (nI 0) (nI n) (nI ed)) H := hP
        have hD : va_D A (wMo cI cJ h B P E S L (nI 0) (nI n) (nI ed)) := hD
        refine lv_aload_n hx hb dX3_known_24 rfl (lv_at hl 0 rfl) ?_
        refine va_get (D := (dC, dI)) (ci := 3) (v := .int (nI 0)) (C := RX3) (T := TX3) (N := 8) hx hb hts (fun w9 h9 => mm (inX3 w9 h9)) hown hK hP 0 rfl rfl 0 (by decide) (hts (.fieldLink RX3 26 "ProducerBookModel" "code" "I") (mm aw_308)) (fun _ h9 => h9) rfl dX3_known_25 ?_
        refine lv_if_le (tgt := 33) hx hb dX3_known_28 (by decide) (fun c_28 => ?_) (fun c_28 => ?_)
        · obtain ⟨y9, hy9, ey⟩ := nI_of2 (M := nI 4) (n := 4) (by decide) c_8 c_13
          rw [ey] at hl
          have hkc := pb_kc_le P n pr
          refine lv_iconst (v := nI 0) hx hb dX3_known_33 (by decide +kernel) ?_
          refine lv_istore (lv' := [(4, .int (nI 0)), (0, .ref (h 20)), (1, .long pr), (3, .int (nI y9))]) hx hb dX3_known_34 hl (by decide) rfl (fun ls hl => ?_)
          have lp36 : ∀ (fuel : Nat) (i : Nat) (H : Heap) (locs : List Loc) (ls : Array Slot), (i ≤ pb_kc P n pr) → 5 - i < fuel → va_P (dC, dI) classes (wMo cI cJ h B P E S L (nI 0) (nI n) (nI ed)) H → va_D A (wMo cI cJ h B P E S L (nI 0) (nI n) (nI ed)) → va_S A s.heap H locs → lv_has ls 6 [(0, .ref (h 20)), (1, .long pr), (3, .int (nI y9)), (4, .int (nI i))] → W p l e ({ frames := 1, cells := 0, slots := 0, locals := 60 } : Room) s m ([.ref (h 20), .long pr, .int y] : List Value).toArray below meth c H locs 0 0 (MQ below (va_Qi (fun (r : Int32) (u : Option Nat) => match u with | none => ¬ (¬ pr < 0 ∧ ¬ y < 0 ∧ y ≤ nI 4) | some y9 => ¬ pr < 0 ∧ y = nI y9 ∧ y9 ≤ 4 ∧ r = pb_kno B P E S L n pr y9) (fun u => xB (dC, dI) classes [(cI, FieldType.int), (cJ, FieldType.long)] A ((fun (u : Option Nat) => match u with | none => wMo cI cJ h B P E S L (nI 1) (nI n) (nI ed) | some _ => wMo cI cJ h B P E S L (nI 0) (nI n) (nI ed)) u)) A) ([.ref (h 20), .long pr, .int y] : List Value).toArray s 0 0 A) (F0 m 36 ls []) := by
            intro fuel
            induction fuel with
            | zero => intro i H locs ls hi hfuel; exact absurd hfuel (Nat.not_lt_zero _)
            | succ fuel ih =>
              intro i H locs ls hi hfuel hP hD hS hl
              refine lv_iload hx hb dX3_known_36 (lv_at hl 3 rfl) ?_
              refine lv_iconst (v := nI 5) hx hb dX3_known_38 (by decide +kernel) ?_
              refine lv_icmp_ge (tgt := 58) hx hb dX3_known_39 (by decide) (fun c_39 => ?_) (fun c_39 => ?_)
              · have c1 := (nI_leI (by decide) (by omega)).mp c_39
                have ei : i = pb_kc P n pr := by omega
                rw [ei] at hl
                rcases (show y9 = 0 ∨ y9 = 1 ∨ y9 = 2 ∨ y9 = 3 ∨ y9 = 4 by omega) with h9 | h9 | h9 | h9 | h9
                · subst h9
                  refine lv_iload_n hx hb dX3_known_58 rfl (lv_at hl 2 rfl) ?_
                  refine lv_if_ne (tgt := 65) hx hb dX3_known_59 (by decide) (fun c_59 => ?_) (fun c_59 => ?_)
                  · exact absurd (show nI 0 = 0 by decide) c_59
                  · refine lv_iload hx hb dX3_known_62 (lv_at hl 3 rfl) ?_
                    exact xh_iret hx hb hr (some 0) (⟨cQ, ey, Nat.le_of_ble_eq_true rfl, rfl⟩) hP hK hD hS dX3_known_64 hlocks
                · subst h9
                  refine lv_iload_n hx hb dX3_known_58 rfl (lv_at hl 2 rfl) ?_
                  refine lv_if_ne (tgt := 65) hx hb dX3_known_59 (by decide) (fun c_59 => ?_) (fun c_59 => ?_)
                  · refine lv_iload hx hb dX3_known_65 (lv_at hl 3 rfl) ?_
                    refine lv_if_ne (tgt := 72) hx hb dX3_known_67 (by decide) (fun c_67 => ?_) (fun c_67 => ?_)
                    · have q0 : ¬ pb_kc P n pr = 0 := fun g => c_67 (by rw [g]; rfl)
                      have at0 := pb_ix_at (pb_kc_lt (show 0 < pb_kc P n pr by omega)).2.2
                      have hk0 : pb_ix P pr n 0 < 2000 := by have := at0.1; omega
                      have at9 := pb_ix_at (pb_kc_lt (show pb_kc P n pr - 1 < pb_kc P n pr by omega)).2.2
                      have hk9 : pb_ix P pr n (pb_kc P n pr - 1) < 2000 := by have := at9.1; omega
                      refine lv_aload_n hx hb dX3_known_72 rfl (lv_at hl 0 rfl) ?_
                      refine lv_lload_n hx hb dX3_known_73 rfl (lv_at hl 1 rfl) ?_
                      refine lv_iconst (v := nI 0) hx hb dX3_known_74 (by decide +kernel) ?_
                      refine xh_calli (wc := wMo cI cJ h B P E S L (nI 0) (nI n) (nI ed)) (wr := []) (w1 := fun (u : Unit) => wMo cI cJ h B P E S L (nI 0) (nI n) (nI ed)) hP hD hS hA [0, 1, 2, 3, 4, 5] [] rfl rfl (by decide) (by decide) (va_runV (As := [.long pr, .int (nI 0)]) (rest := []) ⟨hx, hb, hml, hown, hts⟩ (m_knownOne l dC dI cI cJ h H.size B P E S L (nI 0) n ed pr 0 hn (Or.inr cQ) (by omega)) (cwV 2 hts (aw_V aw_349 aw_351 aw_s6 aw_4 aw_352) rfl rfl rfl (by decide +kernel) ⟨Nat.le_of_ble_eq_true rfl, Nat.le_of_ble_eq_true rfl⟩) (xh_preV (r0 := 0) hK (hP.sub (ws' := wMo cI cJ h B P E S L (nI 0) (nI n) (nI ed)) [0, 1, 2, 3, 4, 5] rfl) (hD.sub (ws' := wMo cI cJ h B P E S L (nI 0) (nI n) (nI ed)) [0, 1, 2, 3, 4, 5] (by decide) rfl) rfl rfl rfl) rfl rfl hl.1 rfl (lv_room (Nat.le_of_ble_eq_true rfl)) dX3_known_75 ⟨Nat.le_of_ble_eq_true rfl, Nat.le_of_ble_eq_true rfl⟩) (fun r_1 u H locs hw hP hD hS => ?_)
                      have hP : va_P (dC, dI) classes (wMo cI cJ h B P E S L (nI 0) (nI n) (nI ed)) H := hP
                      have hD : va_D A (wMo cI cJ h B P E S L (nI 0) (nI n) (nI ed)) := hD
                      refine xh_topi (z := nI (pb_ix P pr n 0)) (hw.trans (if_pos (by omega))) ?_
                      refine lv_istore (lv' := [(5, .int (nI (pb_ix P pr n 0))), (0, .ref (h 20)), (1, .long pr), (3, .int (nI 1)), (4, .int (nI (pb_kc P n pr)))]) hx hb dX3_known_78 hl (by decide) rfl (fun ls hl => ?_)
                      refine lv_iload_n hx hb dX3_known_80 rfl (lv_at hl 3 rfl) ?_
                      refine lv_tableIn (off := 27) (tgt := 108) hx hb dX3_known_81 (by decide) (by decide) (by decide) (by decide) ?_
                      refine lv_aload_n hx hb dX3_known_108 rfl (lv_at hl 1 rfl) ?_
                      refine va_get (D := (dC, dI)) (ci := 3) (v := .ref (h 23)) (C := RX3) (T := TX3) (N := 8) hx hb hts (fun w9 h9 => mm (inX3 w9 h9)) hown hK hP 0 rfl rfl 5 (by decide) (hts (.fieldLink RX3 17 "ProducerBookModel" "epoch" "[I") (mm aw_313)) (fun _ h9 => h9) rfl dX3_known_109 ?_
                      refine lv_iload hx hb dX3_known_112 (lv_at hl 0 rfl) ?_
                      refine xh_iald hx hb hK hP 3 0 rfl rfl (k := pb_ix P pr n 0) (hk0) (by decide) dX3_known_114 ?_
                      exact xh_iret hx hb hr (some 1) (⟨cQ, ey, Nat.le_of_ble_eq_true rfl, (pb_kno1 q0).symm⟩) hP hK hD hS dX3_known_115 hlocks
                    · have q0 : pb_kc P n pr = 0 := (nI_eq (by omega) (by decide)).mp (c_67.trans nI_0.symm)
                      refine lv_iconst (v := (-1)) hx hb dX3_known_70 (by decide +kernel) ?_
                      exact xh_iret hx hb hr (some 1) (⟨cQ, ey, Nat.le_of_ble_eq_true rfl, (pb_kno0 (y := 1) (by decide) q0).symm⟩) hP hK hD hS dX3_known_71 hlocks
                  · exact absurd c_59 (by decide)
                · subst h9
                  refine lv_iload_n hx hb dX3_known_58 rfl (lv_at hl 2 rfl) ?_
                  refine lv_if_ne (tgt := 65) hx hb dX3_known_59 (by decide) (fun c_59 => ?_) (fun c_59 => ?_)
                  · refine lv_iload hx hb dX3_known_65 (lv_at hl 3 rfl) ?_
                    refine lv_if_ne (tgt := 72) hx hb dX3_known_67 (by decide) (fun c_67 => ?_) (fun c_67 => ?_)
                    · have q0 : ¬ pb_kc P n pr = 0 := fun g => c_67 (by rw [g]; rfl)
                      have at0 := pb_ix_at (pb_kc_lt (show 0 < pb_kc P n pr by omega)).2.2
                      have hk0 : pb_ix P pr n 0 < 2000 := by have := at0.1; omega
                      have at9 := pb_ix_at (pb_kc_lt (show pb_kc P n pr - 1 < pb_kc P n pr by omega)).2.2
                      have hk9 : pb_ix P pr n (pb_kc P n pr - 1) < 2000 := by have := at9.1; omega
                      refine lv_aload_n hx hb dX3_known_72 rfl (lv_at hl 0 rfl) ?_
                      refine lv_lload_n hx hb dX3_known_73 rfl (lv_at hl 1 rfl) ?_
                      refine lv_iconst (v := nI 0) hx hb dX3_known_74 (by decide +kernel) ?_
                      refine xh_calli (wc := wMo cI cJ h B P E S L (nI 0) (nI n) (nI ed)) (wr := []) (w1 := fun (u : Unit) => wMo cI cJ h B P E S L (nI 0) (nI n) (nI ed)) hP hD hS hA [0, 1, 2, 3, 4, 5] [] rfl rfl (by decide) (by decide) (va_runV (As := [.long pr, .int (nI 0)]) (rest := []) ⟨hx, hb, hml, hown, hts⟩ (m_knownOne l dC dI cI cJ h H.size B P E S L (nI 0) n ed pr 0 hn (Or.inr cQ) (by omega)) (cwV 2 hts (aw_V aw_349 aw_351 aw_s6 aw_4 aw_352) rfl rfl rfl (by decide +kernel) ⟨Nat.le_of_ble_eq_true rfl, Nat.le_of_ble_eq_true rfl⟩) (xh_preV (r0 := 0) hK (hP.sub (ws' := wMo cI cJ h B P E S L (nI 0) (nI n) (nI ed)) [0, 1, 2, 3, 4, 5] rfl) (hD.sub (ws' := wMo cI cJ h B P E S L (nI 0) (nI n) (nI ed)) [0, 1, 2, 3, 4, 5] (by decide) rfl) rfl rfl rfl) rfl rfl hl.1 rfl (lv_room (Nat.le_of_ble_eq_true rfl)) dX3_known_75 ⟨Nat.le_of_ble_eq_true rfl, Nat.le_of_ble_eq_true rfl⟩) (fun r_2 u H locs hw hP hD hS => ?_)
                      have hP : va_P (dC, dI) classes (wMo cI cJ h B P E S L (nI 0) (nI n) (nI ed)) H := hP
                      have hD : va_D A (wMo cI cJ h B P E S L (nI 0) (nI n) (nI ed)) := hD
                      refine xh_topi (z := nI (pb_ix P pr n 0)) (hw.trans (if_pos (by omega))) ?_
                      refine lv_istore (lv' := [(5, .int (nI (pb_ix P pr n 0))), (0, .ref (h 20)), (1, .long pr), (3, .int (nI 2)), (4, .int (nI (pb_kc P n pr)))]) hx hb dX3_known_78 hl (by decide) rfl (fun ls hl => ?_)
                      refine lv_iload_n hx hb dX3_known_80 rfl (lv_at hl 3 rfl) ?_
                      refine lv_tableIn (off := 35) (tgt := 116) hx hb dX3_known_81 (by decide) (by decide) (by decide) (by decide) ?_
                      refine lv_aload_n hx hb dX3_known_116 rfl (lv_at hl 1 rfl) ?_
                      refine va_get (D := (dC, dI)) (ci := 3) (v := .ref (h 24)) (C := RX3) (T := TX3) (N := 8) hx hb hts (fun w9 h9 => mm (inX3 w9 h9)) hown hK hP 0 rfl rfl 6 (by decide) (hts (.fieldLink RX3 20 "ProducerBookModel" "sequence" "[I") (mm aw_314)) (fun _ h9 => h9) rfl dX3_known_117 ?_
                      refine lv_iload hx hb dX3_known_120 (lv_at hl 0 rfl) ?_
                      refine xh_iald hx hb hK hP 4 0 rfl rfl (k := pb_ix P pr n 0) (hk0) (by decide) dX3_known_122 ?_
                      refine lv_aload_n hx hb dX3_known_123 rfl (lv_at hl 1 rfl) ?_
                      refine va_get (D := (dC, dI)) (ci := 3) (v := .ref (h 25)) (C := RX3) (T := TX3) (N := 8) hx hb hts (fun w9 h9 => mm (inX3 w9 h9)) hown hK hP 0 rfl rfl 7 (by decide) (hts (.fieldLink RX3 23 "ProducerBookModel" "last" "[I") (mm aw_315)) (fun _ h9 => h9) rfl dX3_known_124 ?_
                      refine lv_iload hx hb dX3_known_127 (lv_at hl 0 rfl) ?_
                      refine xh_iald hx hb hK hP 5 0 rfl rfl (k := pb_ix P pr n 0) (hk0) (by decide) dX3_known_129 ?_
                      refine xh_calli (wc := []) (wr := wMo cI cJ h B P E S L (nI 0) (nI n) (nI ed)) (w1 := fun (u : Unit) => []) hP hD hS hA [] [0, 1, 2, 3, 4, 5] rfl rfl (by decide) (by decide) (va_runS (As := [.int (S (pb_ix P pr n 0)), .int (L (pb_ix P pr n 0))]) (rest := []) ⟨hx, hb, hml, hown, hts⟩ (m_after l dC dI cI cJ h H.size (S (pb_ix P pr n 0)) (L (pb_ix P pr n 0)) ((hI _ at0.1).2.2.2 (by rw [at0.2.1]; exact (pb_kc_lt (show 0 < pb_kc P n pr by omega)).1)) (hI _ at0.1).2.1 (hI _ at0.1).2.2.1) (cwS 2 hts (aw_S aw_353 aw_354 aw_4 aw_355) rfl rfl rfl (by decide +kernel) ⟨Nat.le_of_ble_eq_true rfl, Nat.le_of_ble_eq_true rfl⟩) (xh_preS hK (hP.sub (ws' := []) [] rfl) (hD.sub (ws' := []) [] (by decide) rfl)) rfl rfl hl.1 rfl (lv_room (Nat.le_of_ble_eq_true rfl)) dX3_known_130 ⟨Nat.le_of_ble_eq_true rfl, Nat.le_of_ble_eq_true rfl⟩) (fun r_3 u H locs hw hP hD hS => ?_)
                      have hP : va_P (dC, dI) classes (wMo cI cJ h B P E S L (nI 0) (nI n) (nI ed)) H := hP
                      have hD : va_D A (wMo cI cJ h B P E S L (nI 0) (nI n) (nI ed)) := hD
                      refine xh_topi (z := pb_nx (S (pb_ix P pr n 0)) (L (pb_ix P pr n 0))) (hw) ?_
                      exact xh_iret hx hb hr (some 2) (⟨cQ, ey, Nat.le_of_ble_eq_true rfl, (pb_kno2 q0).symm⟩) hP hK hD hS dX3_known_133 hlocks
                    · have q0 : pb_kc P n pr = 0 := (nI_eq (by omega) (by decide)).mp (c_67.trans nI_0.symm)
                      refine lv_iconst (v := (-1)) hx hb dX3_known_70 (by decide +kernel) ?_
                      exact xh_iret hx hb hr (some 2) (⟨cQ, ey, Nat.le_of_ble_eq_true rfl, (pb_kno0 (y := 2) (by decide) q0).symm⟩) hP hK hD hS dX3_known_71 hlocks
                  · exact absurd c_59 (by decide)
                · subst h9
                  refine lv_iload_n hx hb dX3_known_58 rfl (lv_at hl 2 rfl) ?_
                  refine lv_if_ne (tgt := 65) hx hb dX3_known_59 (by decide) (fun c_59 => ?_) (fun c_59 => ?_)
                  · refine lv_iload hx hb dX3_known_65 (lv_at hl 3 rfl) ?_
                    refine lv_if_ne (tgt := 72) hx hb dX3_known_67 (by decide) (fun c_67 => ?_) (fun c_67 => ?_)
                    · have q0 : ¬ pb_kc P n pr = 0 := fun g => c_67 (by rw [g]; rfl)
                      have at0 := pb_ix_at (pb_kc_lt (show 0 < pb_kc P n pr by omega)).2.2
                      have hk0 : pb_ix P pr n 0 < 2000 := by have := at0.1; omega
                      have at9 := pb_ix_at (pb_kc_lt (show pb_kc P n pr - 1 < pb_kc P n pr by omega)).2.2
                      have hk9 : pb_ix P pr n (pb_kc P n pr - 1) < 2000 := by have := at9.1; omega
                      refine lv_aload_n hx hb dX3_known_72 rfl (lv_at hl 0 rfl) ?_
                      refine lv_lload_n hx hb dX3_known_73 rfl (lv_at hl 1 rfl) ?_
                      refine lv_iconst (v := nI 0) hx hb dX3_known_74 (by decide +kernel) ?_
                      refine xh_calli (wc := wMo cI cJ h B P E S L (nI 0) (nI n) (nI ed)) (wr := []) (w1 := fun (u : Unit) => wMo cI cJ h B P E S L (nI 0) (nI n) (nI ed)) hP hD hS hA [0, 1, 2, 3, 4, 5] [] rfl rfl (by decide) (by decide) (va_runV (As := [.long pr, .int (nI 0)]) (rest := []) ⟨hx, hb, hml, hown, hts⟩ (m_knownOne l dC dI cI cJ h H.size B P E S L (nI 0) n ed pr 0 hn (Or.inr cQ) (by omega)) (cwV 2 hts (aw_V aw_349 aw_351 aw_s6 aw_4 aw_352) rfl rfl rfl (by decide +kernel) ⟨Nat.le_of_ble_eq_true rfl, Nat.le_of_ble_eq_true rfl⟩) (xh_preV (r0 := 0) hK (hP.sub (ws' := wMo cI cJ h B P E S L (nI 0) (nI n) (nI ed)) [0, 1, 2, 3, 4, 5] rfl) (hD.sub (ws' := wMo cI cJ h B P E S L (nI 0) (nI n) (nI ed)) [0, 1, 2, 3, 4, 5] (by decide) rfl) rfl rfl rfl) rfl rfl hl.1 rfl (lv_room (Nat.le_of_ble_eq_true rfl)) dX3_known_75 ⟨Nat.le_of_ble_eq_true rfl, Nat.le_of_ble_eq_true rfl⟩) (fun r_4 u H locs hw hP hD hS => ?_)
                      have hP : va_P (dC, dI) classes (wMo cI cJ h B P E S L (nI 0) (nI n) (nI ed)) H := hP
                      have hD : va_D A (wMo cI cJ h B P E S L (nI 0) (nI n) (nI ed)) := hD
                      refine xh_topi (z := nI (pb_ix P pr n 0)) (hw.trans (if_pos (by omega))) ?_
                      refine lv_istore (lv' := [(5, .int (nI (pb_ix P pr n 0))), (0, .ref (h 20)), (1, .long pr), (3, .int (nI 3)), (4, .int (nI (pb_kc P n pr)))]) hx hb dX3_known_78 hl (by decide) rfl (fun ls hl => ?_)
                      refine lv_iload_n hx hb dX3_known_80 rfl (lv_at hl 3 rfl) ?_
                      refine lv_tableIn (off := 53) (tgt := 134) hx hb dX3_known_81 (by decide) (by decide) (by decide) (by decide) ?_
                      refine lv_aload_n hx hb dX3_known_134 rfl (lv_at hl 1 rfl) ?_
                      refine va_get (D := (dC, dI)) (ci := 3) (v := .ref (h 21)) (C := RX3) (T := TX3) (N := 8) hx hb hts (fun w9 h9 => mm (inX3 w9 h9)) hown hK hP 0 rfl rfl 3 (by decide) (hts (.fieldLink RX3 7 "ProducerBookModel" "base" "[I") (mm aw_311)) (fun _ h9 => h9) rfl dX3_known_135 ?_
                      refine lv_iload hx hb dX3_known_138 (lv_at hl 0 rfl) ?_
                      refine xh_iald hx hb hK hP 1 0 rfl rfl (k := pb_ix P pr n 0) (hk0) (by decide) dX3_known_140 ?_
                      exact xh_iret hx hb hr (some 3) (⟨cQ, ey, Nat.le_of_ble_eq_true rfl, (pb_kno3 q0).symm⟩) hP hK hD hS dX3_known_141 hlocks
                    · have q0 : pb_kc P n pr = 0 := (nI_eq (by omega) (by decide)).mp (c_67.trans nI_0.symm)
                      refine lv_iconst (v := (-1)) hx hb dX3_known_70 (by decide +kernel) ?_
                      exact xh_iret hx hb hr (some 3) (⟨cQ, ey, Nat.le_of_ble_eq_true rfl, (pb_kno0 (y := 3) (by decide) q0).symm⟩) hP hK hD hS dX3_known_71 hlocks
                  · exact absurd c_59 (by decide)
                · subst h9
                  refine lv_iload_n hx hb dX3_known_58 rfl (lv_at hl 2 rfl) ?_
                  refine lv_if_ne (tgt := 65) hx hb dX3_known_59 (by decide) (fun c_59 => ?_) (fun c_59 => ?_)
                  · refine lv_iload hx hb dX3_known_65 (lv_at hl 3 rfl) ?_
                    refine lv_if_ne (tgt := 72) hx hb dX3_known_67 (by decide) (fun c_67 => ?_) (fun c_67 => ?_)
                    · have q0 : ¬ pb_kc P n pr = 0 := fun g => c_67 (by rw [g]; rfl)
                      have at0 := pb_ix_at (pb_kc_lt (show 0 < pb_kc P n pr by omega)).2.2
                      have hk0 : pb_ix P pr n 0 < 2000 := by have := at0.1; omega
                      have at9 := pb_ix_at (pb_kc_lt (show pb_kc P n pr - 1 < pb_kc P n pr by omega)).2.2
                      have hk9 : pb_ix P pr n (pb_kc P n pr - 1) < 2000 := by have := at9.1; omega
                      refine lv_aload_n hx hb dX3_known_72 rfl (lv_at hl 0 rfl) ?_
                      refine lv_lload_n hx hb dX3_known_73 rfl (lv_at hl 1 rfl) ?_
                      refine lv_iconst (v := nI 0) hx hb dX3_known_74 (by decide +kernel) ?_
                      refine xh_calli (wc := wMo cI cJ h B P E S L (nI 0) (nI n) (nI ed)) (wr := []) (w1 := fun (u : Unit) => wMo cI cJ h B P E S L (nI 0) (nI n) (nI ed)) hP hD hS hA [0, 1, 2, 3, 4, 5] [] rfl rfl (by decide) (by decide) (va_runV (As := [.long pr, .int (nI 0)]) (rest := []) ⟨hx, hb, hml, hown, hts⟩ (m_knownOne l dC dI cI cJ h H.size B P E S L (nI 0) n ed pr 0 hn (Or.inr cQ) (by omega)) (cwV 2 hts (aw_V aw_349 aw_351 aw_s6 aw_4 aw_352) rfl rfl rfl (by decide +kernel) ⟨Nat.le_of_ble_eq_true rfl, Nat.le_of_ble_eq_true rfl⟩) (xh_preV (r0 := 0) hK (hP.sub (ws' := wMo cI cJ h B P E S L (nI 0) (nI n) (nI ed)) [0, 1, 2, 3, 4, 5] rfl) (hD.sub (ws' := wMo cI cJ h B P E S L (nI 0) (nI n) (nI ed)) [0, 1, 2, 3, 4, 5] (by decide) rfl) rfl rfl rfl) rfl rfl hl.1 rfl (lv_room (Nat.le_of_ble_eq_true rfl)) dX3_known_75 ⟨Nat.le_of_ble_eq_true rfl, Nat.le_of_ble_eq_true rfl⟩) (fun r_5 u H locs hw hP hD hS => ?_)
                      have hP : va_P (dC, dI) classes (wMo cI cJ h B P E S L (nI 0) (nI n) (nI ed)) H := hP
                      have hD : va_D A (wMo cI cJ h B P E S L (nI 0) (nI n) (nI ed)) := hD
                      refine xh_topi (z := nI (pb_ix P pr n 0)) (hw.trans (if_pos (by omega))) ?_
                      refine lv_istore (lv' := [(5, .int (nI (pb_ix P pr n 0))), (0, .ref (h 20)), (1, .long pr), (3, .int (nI 4)), (4, .int (nI (pb_kc P n pr)))]) hx hb dX3_known_78 hl (by decide) rfl (fun ls hl => ?_)
                      refine lv_iload_n hx hb dX3_known_80 rfl (lv_at hl 3 rfl) ?_
                      refine lv_tableOut (tgt := 142) hx hb dX3_known_81 (by decide) (by decide) ?_
                      refine lv_aload_n hx hb dX3_known_142 rfl (lv_at hl 1 rfl) ?_
                      refine va_get (D := (dC, dI)) (ci := 3) (v := .ref (h 21)) (C := RX3) (T := TX3) (N := 8) hx hb hts (fun w9 h9 => mm (inX3 w9 h9)) hown hK hP 0 rfl rfl 3 (by decide) (hts (.fieldLink RX3 7 "ProducerBookModel" "base" "[I") (mm aw_311)) (fun _ h9 => h9) rfl dX3_known_143 ?_
                      refine lv_aload_n hx hb dX3_known_146 rfl (lv_at hl 1 rfl) ?_
                      refine lv_lload_n hx hb dX3_known_147 rfl (lv_at hl 2 rfl) ?_
                      refine lv_iload hx hb dX3_known_148 (lv_at hl 4 rfl) ?_
                      refine lv_iconst (v := nI 1) hx hb dX3_known_150 (by decide +kernel) ?_
                      refine lv_isub hx hb dX3_known_151 ?_
                      refine xh_topi (z := nI (pb_kc P n pr - 1)) (pk_sub (by omega)) ?_
                      refine xh_calli (wc := wMo cI cJ h B P E S L (nI 0) (nI n) (nI ed)) (wr := []) (w1 := fun (u : Unit) => wMo cI cJ h B P E S L (nI 0) (nI n) (nI ed)) hP hD hS hA [0, 1, 2, 3, 4, 5] [] rfl rfl (by decide) (by decide) (va_runV (As := [.long pr, .int (nI (pb_kc P n pr - 1))]) (rest := [.ref (h 21)]) ⟨hx, hb, hml, hown, hts⟩ (m_knownOne l dC dI cI cJ h H.size B P E S L (nI 0) n ed pr (pb_kc P n pr - 1) hn (Or.inr cQ) (by omega)) (cwV 2 hts (aw_V aw_349 aw_351 aw_s6 aw_4 aw_352) rfl rfl rfl (by decide +kernel) ⟨Nat.le_of_ble_eq_true rfl, Nat.le_of_ble_eq_true rfl⟩) (xh_preV (r0 := 0) hK (hP.sub (ws' := wMo cI cJ h B P E S L (nI 0) (nI n) (nI ed)) [0, 1, 2, 3, 4, 5] rfl) (hD.sub (ws' := wMo cI cJ h B P E S L (nI 0) (nI n) (nI ed)) [0, 1, 2, 3, 4, 5] (by decide) rfl) rfl rfl rfl) rfl rfl hl.1 rfl (lv_room (Nat.le_of_ble_eq_true rfl)) dX3_known_152 ⟨Nat.le_of_ble_eq_true rfl, Nat.le_of_ble_eq_true rfl⟩) (fun r_6 u H locs hw hP hD hS => ?_)
                      have hP : va_P (dC, dI) classes (wMo cI cJ h B P E S L (nI 0) (nI n) (nI ed)) H := hP
                      have hD : va_D A (wMo cI cJ h B P E S L (nI 0) (nI n) (nI ed)) := hD
                      refine xh_topi (z := nI (pb_ix P pr n (pb_kc P n pr - 1))) (hw.trans (if_pos (by omega))) ?_
                      refine xh_iald hx hb hK hP 1 0 rfl rfl (k := pb_ix P pr n (pb_kc P n pr - 1)) (hk9) (by decide) dX3_known_155 ?_
                      exact xh_iret hx hb hr (some 4) (⟨cQ, ey, Nat.le_of_ble_eq_true rfl, (pb_kno4 q0).symm⟩) hP hK hD hS dX3_known_156 hlocks
                    · have q0 : pb_kc P n pr = 0 := (nI_eq (by omega) (by decide)).mp (c_67.trans nI_0.symm)
                      refine lv_iconst (v := (-1)) hx hb dX3_known_70 (by decide +kernel) ?_
                      exact xh_iret hx hb hr (some 4) (⟨cQ, ey, Nat.le_of_ble_eq_true rfl, (pb_kno0 (y := 4) (by decide) q0).symm⟩) hP hK hD hS dX3_known_71 hlocks
                  · exact absurd c_59 (by decide)
              · have c1 : i < 5 := Nat.lt_of_not_le fun g => c_39 ((nI_leI (by decide) (by omega)).mpr g)
                refine lv_aload_n hx hb dX3_known_42 rfl (lv_at hl 0 rfl) ?_
                refine lv_lload_n hx hb dX3_known_43 rfl (lv_at hl 1 rfl) ?_
                refine lv_iload hx hb dX3_known_44 (lv_at hl 3 rfl) ?_
                refine xh_calli (wc := wMo cI cJ h B P E S L (nI 0) (nI n) (nI ed)) (wr := []) (w1 := fun (u : Unit) => wMo cI cJ h B P E S L (nI 0) (nI n) (nI ed)) hP hD hS hA [0, 1, 2, 3, 4, 5] [] rfl rfl (by decide) (by decide) (va_runV (As := [.long pr, .int (nI i)]) (rest := []) ⟨hx, hb, hml, hown, hts⟩ (m_knownOne l dC dI cI cJ h H.size B P E S L (nI 0) n ed pr i hn (Or.inr cQ) (by omega)) (cwV 2 hts (aw_V aw_349 aw_351 aw_s6 aw_4 aw_352) rfl rfl rfl (by decide +kernel) ⟨Nat.le_of_ble_eq_true rfl, Nat.le_of_ble_eq_true rfl⟩) (xh_preV (r0 := 0) hK (hP.sub (ws' := wMo cI cJ h B P E S L (nI 0) (nI n) (nI ed)) [0, 1, 2, 3, 4, 5] rfl) (hD.sub (ws' := wMo cI cJ h B P E S L (nI 0) (nI n) (nI ed)) [0, 1, 2, 3, 4, 5] (by decide) rfl) rfl rfl rfl) rfl rfl hl.1 rfl (lv_room (Nat.le_of_ble_eq_true rfl)) dX3_known_46 ⟨Nat.le_of_ble_eq_true rfl, Nat.le_of_ble_eq_true rfl⟩) (fun r_7 u H locs hw hP hD hS => ?_)
                have hP : va_P (dC, dI) classes (wMo cI cJ h B P E S L (nI 0) (nI n) (nI ed)) H := hP
                have hD : va_D A (wMo cI cJ h B P E S L (nI 0) (nI n) (nI ed)) := hD
                by_cases hik : i < pb_kc P n pr
                · refine xh_topi (z := nI (pb_ix P pr n i)) (hw.trans (if_pos hik)) ?_
                  have hl9 := (pb_ix_at (pb_kc_lt hik).2.2).1
                  refine lv_if_lt (tgt := 58) hx hb dX3_known_49 (by decide) (fun c_49 => ?_) (fun c_49 => ?_)
                  · exact absurd c_49 (nI_pos (by omega))
                  · refine lv_iinc (v := nI (i + 1)) (lv' := [(4, .int (nI (i + 1))), (0, .ref (h 20)), (1, .long pr), (3, .int (nI y9))]) hx hb dX3_known_52 hl (k := 3) rfl (by exact nI_1 i) (by decide) rfl (fun ls hl => ?_)
                    refine lv_goto (tgt := 36) hx hb dX3_known_55 (by decide) ?_
                    exact ih (i + 1) _ _ _ (by omega) (by omega) hP hD hS (lv_sub hl [1, 2, 3, 0] rfl)
                · refine xh_topi (z := (-1)) (hw.trans (if_neg hik)) ?_
                  refine lv_if_lt (tgt := 58) hx hb dX3_known_49 (by decide) (fun c_49 => ?_) (fun c_49 => ?_)
                  · have ei : i = pb_kc P n pr := by omega
                    rw [ei] at hl
                    rcases (show y9 = 0 ∨ y9 = 1 ∨ y9 = 2 ∨ y9 = 3 ∨ y9 = 4 by omega) with h9 | h9 | h9 | h9 | h9
                    · subst h9
                      refine lv_iload_n hx hb dX3_known_58 rfl (lv_at hl 2 rfl) ?_
                      refine lv_if_ne (tgt := 65) hx hb dX3_known_59 (by decide) (fun c_59 => ?_) (fun c_59 => ?_)
                      · exact absurd (show nI 0 = 0 by decide) c_59
                      · refine lv_iload hx hb dX3_known_62 (lv_at hl 3 rfl) ?_
                        exact xh_iret hx hb hr (some 0) (⟨cQ, ey, Nat.le_of_ble_eq_true rfl, rfl⟩) hP hK hD hS dX3_known_64 hlocks
                    · subst h9
                      refine lv_iload_n hx hb dX3_known_58 rfl (lv_at hl 2 rfl) ?_
                      refine lv_if_ne (tgt := 65) hx hb dX3_known_59 (by decide) (fun c_59 => ?_) (fun c_59 => ?_)
                      · refine lv_iload hx hb dX3_known_65 (lv_at hl 3 rfl) ?_
                        refine lv_if_ne (tgt := 72) hx hb dX3_known_67 (by decide) (fun c_67 => ?_) (fun c_67 => ?_)
                        · have q0 : ¬ pb_kc P n pr = 0 := fun g => c_67 (by rw [g]; rfl)
                          have at0 := pb_ix_at (pb_kc_lt (show 0 < pb_kc P n pr by omega)).2.2
                          have hk0 : pb_ix P pr n 0 < 2000 := by have := at0.1; omega
                          have at9 := pb_ix_at (pb_kc_lt (show pb_kc P n pr - 1 < pb_kc P n pr by omega)).2.2
                          have hk9 : pb_ix P pr n (pb_kc P n pr - 1) < 2000 := by have := at9.1; omega
                          refine lv_aload_n hx hb dX3_known_72 rfl (lv_at hl 0 rfl) ?_
                          refine lv_lload_n hx hb dX3_known_73 rfl (lv_at hl 1 rfl) ?_
                          refine lv_iconst (v := nI 0) hx hb dX3_known_74 (by decide +kernel) ?_
                          refine xh_calli (wc := wMo cI cJ h B P E S L (nI 0) (nI n) (nI ed)) (wr := []) (w1 := fun (u : Unit) => wMo cI cJ h B P E S L (nI 0) (nI n) (nI ed)) hP hD hS hA [0, 1, 2, 3, 4, 5] [] rfl rfl (by decide) (by decide) (va_runV (As := [.long pr, .int (nI 0)]) (rest := []) ⟨hx, hb, hml, hown, hts⟩ (m_knownOne l dC dI cI cJ h H.size B P E S L (nI 0) n ed pr 0 hn (Or.inr cQ) (by omega)) (cwV 2 hts (aw_V aw_349 aw_351 aw_s6 aw_4 aw_352) rfl rfl rfl (by decide +kernel) ⟨Nat.le_of_ble_eq_true rfl, Nat.le_of_ble_eq_true rfl⟩) (xh_preV (r0 := 0) hK (hP.sub (ws' := wMo cI cJ h B P E S L (nI 0) (nI n) (nI ed)) [0, 1, 2, 3, 4, 5] rfl) (hD.sub (ws' := wMo cI cJ h B P E S L (nI 0) (nI n) (nI ed)) [0, 1, 2, 3, 4, 5] (by decide) rfl) rfl rfl rfl) rfl rfl hl.1 rfl (lv_room (Nat.le_of_ble_eq_true rfl)) dX3_known_75 ⟨Nat.le_of_ble_eq_true rfl, Nat.le_of_ble_eq_true rfl⟩) (fun r_8 u H locs hw hP hD hS => ?_)
                          have hP : va_P (dC, dI) classes (wMo cI cJ h B P E S L (nI 0) (nI n) (nI ed)) H := hP
                          have hD : va_D A (wMo cI cJ h B P E S L (nI 0) (nI n) (nI ed)) := hD
                          refine xh_topi (z := nI (pb_ix P pr n 0)) (hw.trans (if_pos (by omega))) ?_
                          refine lv_istore (lv' := [(5, .int (nI (pb_ix P pr n 0))), (0, .ref (h 20)), (1, .long pr), (3, .int (nI 1)), (4, .int (nI (pb_kc P n pr)))]) hx hb dX3_known_78 hl (by decide) rfl (fun ls hl => ?_)
                          refine lv_iload_n hx hb dX3_known_80 rfl (lv_at hl 3 rfl) ?_
                          refine lv_tableIn (off := 27) (tgt := 108) hx hb dX3_known_81 (by decide) (by decide) (by decide) (by decide) ?_
                          refine lv_aload_n hx hb dX3_known_108 rfl (lv_at hl 1 rfl) ?_
                          refine va_get (D := (dC, dI)) (ci := 3) (v := .ref (h 23)) (C := RX3) (T := TX3) (N := 8) hx hb hts (fun w9 h9 => mm (inX3 w9 h9)) hown hK hP 0 rfl rfl 5 (by decide) (hts (.fieldLink RX3 17 "ProducerBookModel" "epoch" "[I") (mm aw_313)) (fun _ h9 => h9) rfl dX3_known_109 ?_
                          refine lv_iload hx hb dX3_known_112 (lv_at hl 0 rfl) ?_
                          refine xh_iald hx hb hK hP 3 0 rfl rfl (k := pb_ix P pr n 0) (hk0) (by decide) dX3_known_114 ?_
                          exact xh_iret hx hb hr (some 1) (⟨cQ, ey, Nat.le_of_ble_eq_true rfl, (pb_kno1 q0).symm⟩) hP hK hD hS dX3_known_115 hlocks
                        · have q0 : pb_kc P n pr = 0 := (nI_eq (by omega) (by decide)).mp (c_67.trans nI_0.symm)
                          refine lv_iconst (v := (-1)) hx hb dX3_known_70 (by decide +kernel) ?_
                          exact xh_iret hx hb hr (some 1) (⟨cQ, ey, Nat.le_of_ble_eq_true rfl, (pb_kno0 (y := 1) (by decide) q0).symm⟩) hP hK hD hS dX3_known_71 hlocks
                      · exact absurd c_59 (by decide)
                    · subst h9
                      refine lv_iload_n hx hb dX3_known_58 rfl (lv_at hl 2 rfl) ?_
                      refine lv_if_ne (tgt := 65) hx hb dX3_known_59 (by decide) (fun c_59 => ?_) (fun c_59 => ?_)
                      · refine lv_iload hx hb dX3_known_65 (lv_at hl 3 rfl) ?_
                        refine lv_if_ne (tgt := 72) hx hb dX3_known_67 (by decide) (fun c_67 => ?_) (fun c_67 => ?_)
                        · have q0 : ¬ pb_kc P n pr = 0 := fun g => c_67 (by rw [g]; rfl)
                          have at0 := pb_ix_at (pb_kc_lt (show 0 < pb_kc P n pr by omega)).2.2
                          have hk0 : pb_ix P pr n 0 < 2000 := by have := at0.1; omega
                          have at9 := pb_ix_at (pb_kc_lt (show pb_kc P n pr - 1 < pb_kc P n pr by omega)).2.2
                          have hk9 : pb_ix P pr n (pb_kc P n pr - 1) < 2000 := by have := at9.1; omega
                          refine lv_aload_n hx hb dX3_known_72 rfl (lv_at hl 0 rfl) ?_
                          refine lv_lload_n hx hb dX3_known_73 rfl (lv_at hl 1 rfl) ?_
                          refine lv_iconst (v := nI 0) hx hb dX3_known_74 (by decide +kernel) ?_
                          refine xh_calli (wc := wMo cI cJ h B P E S L (nI 0) (nI n) (nI ed)) (wr := []) (w1 := fun (u : Unit) => wMo cI cJ h B P E S L (nI 0) (nI n) (nI ed)) hP hD hS hA [0, 1, 2, 3, 4, 5] [] rfl rfl (by decide) (by decide) (va_runV (As := [.long pr, .int (nI 0)]) (rest := []) ⟨hx, hb, hml, hown, hts⟩ (m_knownOne l dC dI cI cJ h H.size B P E S L (nI 0) n ed pr 0 hn (Or.inr cQ) (by omega)) (cwV 2 hts (aw_V aw_349 aw_351 aw_s6 aw_4 aw_352) rfl rfl rfl (by decide +kernel) ⟨Nat.le_of_ble_eq_true rfl, Nat.le_of_ble_eq_true rfl⟩) (xh_preV (r0 := 0) hK (hP.sub (ws' := wMo cI cJ h B P E S L (nI 0) (nI n) (nI ed)) [0, 1, 2, 3, 4, 5] rfl) (hD.sub (ws' := wMo cI cJ h B P E S L (nI 0) (nI n) (nI ed)) [0, 1, 2, 3, 4, 5] (by decide) rfl) rfl rfl rfl) rfl rfl hl.1 rfl (lv_room (Nat.le_of_ble_eq_true rfl)) dX3_known_75 ⟨Nat.le_of_ble_eq_true rfl, Nat.le_of_ble_eq_true rfl⟩) (fun r_9 u H locs hw hP hD hS => ?_)
                          have hP : va_P (dC, dI) classes (wMo cI cJ h B P E S L (nI 0) (nI n) (nI ed)) H := hP
                          have hD : va_D A (wMo cI cJ h B P E S L (nI 0) (nI n) (nI ed)) := hD
                          refine xh_topi (z := nI (pb_ix P pr n 0)) (hw.trans (if_pos (by omega))) ?_
                          refine lv_istore (lv' := [(5, .int (nI (pb_ix P pr n 0))), (0, .ref (h 20)), (1, .long pr), (3, .int (nI 2)), (4, .int (nI (pb_kc P n pr)))]) hx hb dX3_known_78 hl (by decide) rfl (fun ls hl => ?_)
                          refine lv_iload_n hx hb dX3_known_80 rfl (lv_at hl 3 rfl) ?_
                          refine lv_tableIn (off := 35) (tgt := 116) hx hb dX3_known_81 (by decide) (by decide) (by decide) (by decide) ?_
                          refine lv_aload_n hx hb dX3_known_116 rfl (lv_at hl 1 rfl) ?_
                          refine va_get (D := (dC, dI)) (ci := 3) (v := .ref (h 24)) (C := RX3) (T := TX3) (N := 8) hx hb hts (fun w9 h9 => mm (inX3 w9 h9)) hown hK hP 0 rfl rfl 6 (by decide) (hts (.fieldLink RX3 20 "ProducerBookModel" "sequence" "[I") (mm aw_314)) (fun _ h9 => h9) rfl dX3_known_117 ?_
                          refine lv_iload hx hb dX3_known_120 (lv_at hl 0 rfl) ?_
                          refine xh_iald hx hb hK hP 4 0 rfl rfl (k := pb_ix P pr n 0) (hk0) (by decide) dX3_known_122 ?_
                          refine lv_aload_n hx hb dX3_known_123 rfl (lv_at hl 1 rfl) ?_
                          refine va_get (D := (dC, dI)) (ci := 3) (v := .ref (h 25)) (C := RX3) (T := TX3) (N := 8) hx hb hts (fun w9 h9 => mm (inX3 w9 h9)) hown hK hP 0 rfl rfl 7 (by decide) (hts (.fieldLink RX3 23 "ProducerBookModel" "last" "[I") (mm aw_315)) (fun _ h9 => h9) rfl dX3_known_124 ?_
                          refine lv_iload hx hb dX3_known_127 (lv_at hl 0 rfl) ?_
                          refine xh_iald hx hb hK hP 5 0 rfl rfl (k := pb_ix P pr n 0) (hk0) (by decide) dX3_known_129 ?_
                          refine xh_calli (wc := []) (wr := wMo cI cJ h B P E S L (nI 0) (nI n) (nI ed)) (w1 := fun (u : Unit) => []) hP hD hS hA [] [0, 1, 2, 3, 4, 5] rfl rfl (by decide) (by decide) (va_runS (As := [.int (S (pb_ix P pr n 0)), .int (L (pb_ix P pr n 0))]) (rest := []) ⟨hx, hb, hml, hown, hts⟩ (m_after l dC dI cI cJ h H.size (S (pb_ix P pr n 0)) (L (pb_ix P pr n 0)) ((hI _ at0.1).2.2.2 (by rw [at0.2.1]; exact (pb_kc_lt (show 0 < pb_kc P n pr by omega)).1)) (hI _ at0.1).2.1 (hI _ at0.1).2.2.1) (cwS 2 hts (aw_S aw_353 aw_354 aw_4 aw_355) rfl rfl rfl (by decide +kernel) ⟨Nat.le_of_ble_eq_true rfl, Nat.le_of_ble_eq_true rfl⟩) (xh_preS hK (hP.sub (ws' := []) [] rfl) (hD.sub (ws' := []) [] (by decide) rfl)) rfl rfl hl.1 rfl (lv_room (Nat.le_of_ble_eq_true rfl)) dX3_known_130 ⟨Nat.le_of_ble_eq_true rfl, Nat.le_of_ble_eq_true rfl⟩) (fun r_10 u H locs hw hP hD hS => ?_)
                          have hP : va_P (dC, dI) classes (wMo cI cJ h B P E S L (nI 0) (nI n) (nI ed)) H := hP
                          have hD : va_D A (wMo cI cJ h B P E S L (nI 0) (nI n) (nI ed)) := hD
                          refine xh_topi (z := pb_nx (S (pb_ix P pr n 0)) (L (pb_ix P pr n 0))) (hw) ?_
                          exact xh_iret hx hb hr (some 2) (⟨cQ, ey, Nat.le_of_ble_eq_true rfl, (pb_kno2 q0).symm⟩) hP hK hD hS dX3_known_133 hlocks
                        · have q0 : pb_kc P n pr = 0 := (nI_eq (by omega) (by decide)).mp (c_67.trans nI_0.symm)
                          refine lv_iconst (v := (-1)) hx hb dX3_known_70 (by decide +kernel) ?_
                          exact xh_iret hx hb hr (some 2) (⟨cQ, ey, Nat.le_of_ble_eq_true rfl, (pb_kno0 (y := 2) (by decide) q0).symm⟩) hP hK hD hS dX3_known_71 hlocks
                      · exact absurd c_59 (by decide)
                    · subst h9
                      refine lv_iload_n hx hb dX3_known_58 rfl (lv_at hl 2 rfl) ?_
                      refine lv_if_ne (tgt := 65) hx hb dX3_known_59 (by decide) (fun c_59 => ?_) (fun c_59 => ?_)
                      · refine lv_iload hx hb dX3_known_65 (lv_at hl 3 rfl) ?_
                        refine lv_if_ne (tgt := 72) hx hb dX3_known_67 (by decide) (fun c_67 => ?_) (fun c_67 => ?_)
                        · have q0 : ¬ pb_kc P n pr = 0 := fun g => c_67 (by rw [g]; rfl)
                          have at0 := pb_ix_at (pb_kc_lt (show 0 < pb_kc P n pr by omega)).2.2
                          have hk0 : pb_ix P pr n 0 < 2000 := by have := at0.1; omega
                          have at9 := pb_ix_at (pb_kc_lt (show pb_kc P n pr - 1 < pb_kc P n pr by omega)).2.2
                          have hk9 : pb_ix P pr n (pb_kc P n pr - 1) < 2000 := by have := at9.1; omega
                          refine lv_aload_n hx hb dX3_known_72 rfl (lv_at hl 0 rfl) ?_
                          refine lv_lload_n hx hb dX3_known_73 rfl (lv_at hl 1 rfl) ?_
                          refine lv_iconst (v := nI 0) hx hb dX3_known_74 (by decide +kernel) ?_
                          refine xh_calli (wc := wMo cI cJ h B P E S L (nI 0) (nI n) (nI ed)) (wr := []) (w1 := fun (u : Unit) => wMo cI cJ h B P E S L (nI 0) (nI n) (nI ed)) hP hD hS hA [0, 1, 2, 3, 4, 5] [] rfl rfl (by decide) (by decide) (va_runV (As := [.long pr, .int (nI 0)]) (rest := []) ⟨hx, hb, hml, hown, hts⟩ (m_knownOne l dC dI cI cJ h H.size B P E S L (nI 0) n ed pr 0 hn (Or.inr cQ) (by omega)) (cwV 2 hts (aw_V aw_349 aw_351 aw_s6 aw_4 aw_352) rfl rfl rfl (by decide +kernel) ⟨Nat.le_of_ble_eq_true rfl, Nat.le_of_ble_eq_true rfl⟩) (xh_preV (r0 := 0) hK (hP.sub (ws' := wMo cI cJ h B P E S L (nI 0) (nI n) (nI ed)) [0, 1, 2, 3, 4, 5] rfl) (hD.sub (ws' := wMo cI cJ h B P E S L (nI 0) (nI n) (nI ed)) [0, 1, 2, 3, 4, 5] (by decide) rfl) rfl rfl rfl) rfl rfl hl.1 rfl (lv_room (Nat.le_of_ble_eq_true rfl)) dX3_known_75 ⟨Nat.le_of_ble_eq_true rfl, Nat.le_of_ble_eq_true rfl⟩) (fun r_11 u H locs hw hP hD hS => ?_)
                          have hP : va_P (dC, dI) classes (wMo cI cJ h B P E S L (nI 0) (nI n) (nI ed)) H := hP
                          have hD : va_D A (wMo cI cJ h B P E S L (nI 0) (nI n) (nI ed)) := hD
                          refine xh_topi (z := nI (pb_ix P pr n 0)) (hw.trans (if_pos (by omega))) ?_
                          refine lv_istore (lv' := [(5, .int (nI (pb_ix P pr n 0))), (0, .ref (h 20)), (1, .long pr), (3, .int (nI 3)), (4, .int (nI (pb_kc P n pr)))]) hx hb dX3_known_78 hl (by decide) rfl (fun ls hl => ?_)
                          refine lv_iload_n hx hb dX3_known_80 rfl (lv_at hl 3 rfl) ?_
                          refine lv_tableIn (off := 53) (tgt := 134) hx hb dX3_known_81 (by decide) (by decide) (by decide) (by decide) ?_
                          refine lv_aload_n hx hb dX3_known_134 rfl (lv_at hl 1 rfl) ?_
                          refine va_get (D := (dC, dI)) (ci := 3) (v := .ref (h 21)) (C := RX3) (T := TX3) (N := 8) hx hb hts (fun w9 h9 => mm (inX3 w9 h9)) hown hK hP 0 rfl rfl 3 (by decide) (hts (.fieldLink RX3 7 "ProducerBookModel" "base" "[I") (mm aw_311)) (fun _ h9 => h9) rfl dX3_known_135 ?_
                          refine lv_iload hx hb dX3_known_138 (lv_at hl 0 rfl) ?_
                          refine xh_iald hx hb hK hP 1 0 rfl rfl (k := pb_ix P pr n 0) (hk0) (by decide) dX3_known_140 ?_
                          exact xh_iret hx hb hr (some 3) (⟨cQ, ey, Nat.le_of_ble_eq_true rfl, (pb_kno3 q0).symm⟩) hP hK hD hS dX3_known_141 hlocks
                        · have q0 : pb_kc P n pr = 0 := (nI_eq (by omega) (by decide)).mp (c_67.trans nI_0.symm)
                          refine lv_iconst (v := (-1)) hx hb dX3_known_70 (by decide +kernel) ?_
                          exact xh_iret hx hb hr (some 3) (⟨cQ, ey, Nat.le_of_ble_eq_true rfl, (pb_kno0 (y := 3) (by decide) q0).symm⟩) hP hK hD hS dX3_known_71 hlocks
                      · exact absurd c_59 (by decide)
                    · subst h9
                      refine lv_iload_n hx hb dX3_known_58 rfl (lv_at hl 2 rfl) ?_
                      refine lv_if_ne (tgt := 65) hx hb dX3_known_59 (by decide) (fun c_59 => ?_) (fun c_59 => ?_)
                      · refine lv_iload hx hb dX3_known_65 (lv_at hl 3 rfl) ?_
                        refine lv_if_ne (tgt := 72) hx hb dX3_known_67 (by decide) (fun c_67 => ?_) (fun c_67 => ?_)
                        · have q0 : ¬ pb_kc P n pr = 0 := fun g => c_67 (by rw [g]; rfl)
                          have at0 := pb_ix_at (pb_kc_lt (show 0 < pb_kc P n pr by omega)).2.2
                          have hk0 : pb_ix P pr n 0 < 2000 := by have := at0.1; omega
                          have at9 := pb_ix_at (pb_kc_lt (show pb_kc P n pr - 1 < pb_kc P n pr by omega)).2.2
                          have hk9 : pb_ix P pr n (pb_kc P n pr - 1) < 2000 := by have := at9.1; omega
                          refine lv_aload_n hx hb dX3_known_72 rfl (lv_at hl 0 rfl) ?_
                          refine lv_lload_n hx hb dX3_known_73 rfl (lv_at hl 1 rfl) ?_
                          refine lv_iconst (v := nI 0) hx hb dX3_known_74 (by decide +kernel) ?_
                          refine xh_calli (wc := wMo cI cJ h B P E S L (nI 0) (nI n) (nI ed)) (wr := []) (w1 := fun (u : Unit) => wMo cI cJ h B P E S L (nI 0) (nI n) (nI ed)) hP hD hS hA [0, 1, 2, 3, 4, 5] [] rfl rfl (by decide) (by decide) (va_runV (As := [.long pr, .int (nI 0)]) (rest := []) ⟨hx, hb, hml, hown, hts⟩ (m_knownOne l dC dI cI cJ h H.size B P E S L (nI 0) n ed pr 0 hn (Or.inr cQ) (by omega)) (cwV 2 hts (aw_V aw_349 aw_351 aw_s6 aw_4 aw_352) rfl rfl rfl (by decide +kernel) ⟨Nat.le_of_ble_eq_true rfl, Nat.le_of_ble_eq_true rfl⟩) (xh_preV (r0 := 0) hK (hP.sub (ws' := wMo cI cJ h B P E S L (nI 0) (nI n) (nI ed)) [0, 1, 2, 3, 4, 5] rfl) (hD.sub (ws' := wMo cI cJ h B P E S L (nI 0) (nI n) (nI ed)) [0, 1, 2, 3, 4, 5] (by decide) rfl) rfl rfl rfl) rfl rfl hl.1 rfl (lv_room (Nat.le_of_ble_eq_true rfl)) dX3_known_75 ⟨Nat.le_of_ble_eq_true rfl, Nat.le_of_ble_eq_true rfl⟩) (fun r_12 u H locs hw hP hD hS => ?_)
                          have hP : va_P (dC, dI) classes (wMo cI cJ h B P E S L (nI 0) (nI n) (nI ed)) H := hP
                          have hD : va_D A (wMo cI cJ h B P E S L (nI 0) (nI n) (nI ed)) := hD
                          refine xh_topi (z := nI (pb_ix P pr n 0)) (hw.trans (if_pos (by omega))) ?_
                          refine lv_istore (lv' := [(5, .int (nI (pb_ix P pr n 0))), (0, .ref (h 20)), (1, .long pr), (3, .int (nI 4)), (4, .int (nI (pb_kc P n pr)))]) hx hb dX3_known_78 hl (by decide) rfl (fun ls hl => ?_)
                          refine lv_iload_n hx hb dX3_known_80 rfl (lv_at hl 3 rfl) ?_
                          refine lv_tableOut (tgt := 142) hx hb dX3_known_81 (by decide) (by decide) ?_
                          refine lv_aload_n hx hb dX3_known_142 rfl (lv_at hl 1 rfl) ?_
                          refine va_get (D := (dC, dI)) (ci := 3) (v := .ref (h 21)) (C := RX3) (T := TX3) (N := 8) hx hb hts (fun w9 h9 => mm (inX3 w9 h9)) hown hK hP 0 rfl rfl 3 (by decide) (hts (.fieldLink RX3 7 "ProducerBookModel" "base" "[I") (mm aw_311)) (fun _ h9 => h9) rfl dX3_known_143 ?_
                          refine lv_aload_n hx hb dX3_known_146 rfl (lv_at hl 1 rfl) ?_
                          refine lv_lload_n hx hb dX3_known_147 rfl (lv_at hl 2 rfl) ?_
                          refine lv_iload hx hb dX3_known_148 (lv_at hl 4 rfl) ?_
                          refine lv_iconst (v := nI 1) hx hb dX3_known_150 (by decide +kernel) ?_
                          refine lv_isub hx hb dX3_known_151 ?_
                          refine xh_topi (z := nI (pb_kc P n pr - 1)) (pk_sub (by omega)) ?_
                          refine xh_calli (wc := wMo cI cJ h B P E S L (nI 0) (nI n) (nI ed)) (wr := []) (w1 := fun (u : Unit) => wMo cI cJ h B P E S L (nI 0) (nI n) (nI ed)) hP hD hS hA [0, 1, 2, 3, 4, 5] [] rfl rfl (by decide) (by decide) (va_runV (As := [.long pr, .int (nI (pb_kc P n pr - 1))]) (rest := [.ref (h 21)]) ⟨hx, hb, hml, hown, hts⟩ (m_knownOne l dC dI cI cJ h H.size B P E S L (nI 0) n ed pr (pb_kc P n pr - 1) hn (Or.inr cQ) (by omega)) (cwV 2 hts (aw_V aw_349 aw_351 aw_s6 aw_4 aw_352) rfl rfl rfl (by decide +kernel) ⟨Nat.le_of_ble_eq_true rfl, Nat.le_of_ble_eq_true rfl⟩) (xh_preV (r0 := 0) hK (hP.sub (ws' := wMo cI cJ h B P E S L (nI 0) (nI n) (nI ed)) [0, 1, 2, 3, 4, 5] rfl) (hD.sub (ws' := wMo cI cJ h B P E S L (nI 0) (nI n) (nI ed)) [0, 1, 2, 3, 4, 5] (by decide) rfl) rfl rfl rfl) rfl rfl hl.1 rfl (lv_room (Nat.le_of_ble_eq_true rfl)) dX3_known_152 ⟨Nat.le_of_ble_eq_true rfl, Nat.le_of_ble_eq_true rfl⟩) (fun r_13 u H locs hw hP hD hS => ?_)
                          have hP : va_P (dC, dI) classes (wMo cI cJ h B P E S L (nI 0) (nI n) (nI ed)) H := hP
                          have hD : va_D A (wMo cI cJ h B P E S L (nI 0) (nI n) (nI ed)) := hD
                          refine xh_topi (z := nI (pb_ix P pr n (pb_kc P n pr - 1))) (hw.trans (if_pos (by omega))) ?_
                          refine xh_iald hx hb hK hP 1 0 rfl rfl (k := pb_ix P pr n (pb_kc P n pr - 1)) (hk9) (by decide) dX3_known_155 ?_
                          exact xh_iret hx hb hr (some 4) (⟨cQ, ey, Nat.le_of_ble_eq_true rfl, (pb_kno4 q0).symm⟩) hP hK hD hS dX3_known_156 hlocks
                        · have q0 : pb_kc P n pr = 0 := (nI_eq (by omega) (by decide)).mp (c_67.trans nI_0.symm)
                          refine lv_iconst (v := (-1)) hx hb dX3_known_70 (by decide +kernel) ?_
                          exact xh_iret hx hb hr (some 4) (⟨cQ, ey, Nat.le_of_ble_eq_true rfl, (pb_kno0 (y := 4) (by decide) q0).symm⟩) hP hK hD hS dX3_known_71 hlocks
                      · exact absurd c_59 (by decide)
                  · exact absurd (show (-1 : Int32) < 0 by decide) c_49
          exact lp36 6 0 _ _ _ (Nat.zero_le _) (by omega) hP hD hS (lv_sub hl [1, 2, 3, 0] rfl)
        · exact absurd (show nI 0 ≤ 0 by decide) c_28
      · refine lv_iconst (v := nI 1) hx hb dX3_known_16 (by decide +kernel) ?_
        refine lv_goto (tgt := 21) hx hb dX3_known_17 (by decide) ?_
        refine va_put (D := (dC, dI)) (ci := 3) (v := .int (nI 1)) (ty := .int) (C := RX3) (T := TX3) (N := 8) hx hb hts (fun w9 h9 => mm (inX3 w9 h9)) tyX3 tyX3_ok nX3 hown hK hP hD hS 0 rfl rfl 0 (by decide) (hts (.fieldLink RX3 26 "ProducerBookModel" "code" "I") (mm aw_308)) (fun _ h9 => h9) rfl (by decide +kernel) rfl rfl (Nat.le_of_ble_eq_true rfl) dX3_known_21 (fun H locs hP hD hS => ?_)
        have hP : va_P (dC, dI) classes (wMo cI cJ h B P E S L (nI 1) (nI n) (nI ed)) H := hP
        have hD : va_D A (wMo cI cJ h B P E S L (nI 1) (nI n) (nI ed)) := hD
        refine lv_aload_n hx hb dX3_known_24 rfl (lv_at hl 0 rfl) ?_
        refine va_get (D := (dC, dI)) (ci := 3) (v := .int (nI 1)) (C := RX3) (T := TX3) (N := 8) hx hb hts (fun w9 h9 => mm (inX3 w9 h9)) hown hK hP 0 rfl rfl 0 (by decide) (hts (.fieldLink RX3 26 "ProducerBookModel" "code" "I") (mm aw_308)) (fun _ h9 => h9) rfl dX3_known_25 ?_
        refine lv_if_le (tgt := 33) hx hb dX3_known_28 (by decide) (fun c_28 => ?_) (fun c_28 => ?_)
        · exact absurd c_28 (by decide)
        · refine lv_iconst (v := nI 0) hx hb dX3_known_31 (by decide +kernel) ?_
          exact xh_iret hx hb hr (none) (fun k => c_13 k.2.2) hP hK hD hS dX3_known_32 hlocks

set_option maxHeartbeats 4000000 in
set_option maxRecDepth 100000 in
theorem m_batch (l : Launch) (dC : Nat → ClassId) (dI : Nat → Nat → Nat) (cI cJ : ClassId) (h : Nat → Nat) (sz : Nat) (B : Nat → Int32) (P : Nat → Int64) (E S L : Nat → Int32) (cd : Int32) (n ed : Nat) (x y : Int32) (hn : n ≤ 2000) (hPI : ∀ k, k < n → P k = -1 ∨ ¬ P k < 0) : Met l yX3_batch wsX3_batch ({ frames := 2, cells := 0, slots := 0, locals := 100 } : Room) (va_Pc [.ref (h 20), .int x, .int y] (xP (dC, dI) classes [(cI, FieldType.int), (cJ, FieldType.long)] (wMo cI cJ h B P E S L cd (nI n) (nI ed)) sz)) (va_Ql (fun (r : Int64) (u : Option (Nat × Nat)) => match u with | none => ¬ (¬ x < 0 ∧ ¬ nI n ≤ x ∧ ¬ y < 0 ∧ y ≤ nI 5) | some z => x = nI z.1 ∧ z.1 < n ∧ y = nI z.2 ∧ z.2 ≤ 5 ∧ r = pb_bat B P E S L n z.1 z.2) (fun u => xB (dC, dI) classes [(cI, FieldType.int), (cJ, FieldType.long)] (va_A (wMo cI cJ h B P E S L cd (nI n) (nI ed)) sz) ((fun (u : Option (Nat × Nat)) => match u with | none => wMo cI cJ h B P E S L (nI 1) (nI n) (nI ed) | some _ => wMo cI cJ h B P E S L (nI 0) (nI n) (nI ed)) u)) (va_A (wMo cI cJ h B P E S L cd (nI n) (nI ed)) sz)) 0 0 (va_A (wMo cI cJ h B P E S L cd (nI n) (nI ed)) sz) := by
  refine Met.ofW (cc := cX3_batch) (maxL := 3) (ret := (some .long)) (by decide) rfl ?_
  intro p e s m args below meth c s₁ BB hml hv
  obtain ⟨rfl, hsz, hP, hK, hD0⟩ := hv
  have hx := BB.exec
  have hb := BB.bytes
  have hr := BB.returns
  have hts := atoms_spec (ws := wsX3_batch) BB.pre
  have hown : s.vm.findClass RX3 = some m.cls := findClass_of_methodNamed BB.named
  have hlocks := BB.notSynchronized
  subst hsz
  have hD := hD0.self (sz := s.heap.size)
  generalize hAe : va_A (wMo cI cJ h B P E S L cd (nI n) (nI ed)) s.heap.size = A at hD ⊢
  have hA : ∀ q : Nat, s.heap.size ≤ q → A q := fun q h => by rw [← hAe]; exact Or.inr h
  have hS : va_S A s.heap s.heap [] := va_S.rf
  have hl := lv_entry ([.ref (h 20), .int x, .int y]) (n := 3) (Nat.le_of_ble_eq_true rfl)
  rw [lg_entry_eq]
  generalize (lg_sl ([.ref (h 20), .int x, .int y]) ++ List.replicate (3 - (lg_sl ([.ref (h 20), .int x, .int y])).length) Slot.unset).toArray = ls at hl ⊢
  have hl : lv_has ls 3 [(0, .ref (h 20)), (1, .int x), (2, .int y)] := hl
  have hP : va_P (dC, dI) classes (wMo cI cJ h B P E S L cd (nI n) (nI ed)) s.heap := hP
  refine lv_aload_n hx hb dX3_batch_0 rfl (lv_at hl 0 rfl) ?_
  refine lv_iload_n hx hb dX3_batch_1 rfl (lv_at hl 1 rfl) ?_
  refine lv_if_lt (tgt := 22) hx hb dX3_batch_2 (by decide) (fun c_2 => ?_) (fun c_2 => ?_)
  · refine lv_iconst (v := nI 1) hx hb dX3_batch_22 (by decide +kernel) ?_
    refine lv_goto (tgt := 27) hx hb dX3_batch_23 (by decide) ?_
    refine va_put (D := (dC, dI)) (ci := 3) (v := .int (nI 1)) (ty := .int) (C := RX3) (T := TX3) (N := 8) hx hb hts (fun w9 h9 => mm (inX3 w9 h9)) tyX3 tyX3_ok nX3 hown hK hP hD hS 0 rfl rfl 0 (by decide) (hts (.fieldLink RX3 26 "ProducerBookModel" "code" "I") (mm aw_308)) (fun _ h9 => h9) rfl (by decide +kernel) rfl rfl (Nat.le_of_ble_eq_true rfl) dX3_batch_27 (fun H locs hP hD hS => ?_)
    have hP : va_P (dC, dI) classes (wMo cI cJ h B P E S L (nI 1) (nI n) (nI ed)) H := hP
    have hD : va_D A (wMo cI cJ h B P E S L (nI 1) (nI n) (nI ed)) := hD
    refine lv_aload_n hx hb dX3_batch_30 rfl (lv_at hl 0 rfl) ?_
    refine va_get (D := (dC, dI)) (ci := 3) (v := .int (nI 1)) (C := RX3) (T := TX3) (N := 8) hx hb hts (fun w9 h9 => mm (inX3 w9 h9)) hown hK hP 0 rfl rfl 0 (by decide) (hts (.fieldLink RX3 26 "ProducerBookModel" "code" "I") (mm aw_308)) (fun _ h9 => h9) rfl dX3_batch_31 ?_
    refine lv_if_le (tgt := 39) hx hb dX3_batch_34 (by decide) (fun c_34 => ?_) (fun c_34 => ?_)
    · exact absurd c_34 (by decide)
    · refine lv_lconst (v := 0) hx hb dX3_batch_37 (by decide) ?_
      exact xh_lret hx hb hr (none) (fun k => k.1 c_2) hP hK hD hS dX3_batch_38 hlocks
  · refine lv_iload_n hx hb dX3_batch_5 rfl (lv_at hl 1 rfl) ?_
    refine lv_aload_n hx hb dX3_batch_6 rfl (lv_at hl 0 rfl) ?_
    refine va_get (D := (dC, dI)) (ci := 3) (v := .int (nI n)) (C := RX3) (T := TX3) (N := 8) hx hb hts (fun w9 h9 => mm (inX3 w9 h9)) hown hK hP 0 rfl rfl 1 (by decide) (hts (.fieldLink RX3 32 "ProducerBookModel" "count" "I") (mm aw_309)) (fun _ h9 => h9) rfl dX3_batch_7 ?_
    refine lv_icmp_ge (tgt := 22) hx hb dX3_batch_10 (by decide) (fun c_10 => ?_) (fun c_10 => ?_)
    · refine lv_iconst (v := nI 1) hx hb dX3_batch_22 (by decide +kernel) ?_
      refine lv_goto (tgt := 27) hx hb dX3_batch_23 (by decide) ?_
      refine va_put (D := (dC, dI)) (ci := 3) (v := .int (nI 1)) (ty := .int) (C := RX3) (T := TX3) (N := 8) hx hb hts (fun w9 h9 => mm (inX3 w9 h9)) tyX3 tyX3_ok nX3 hown hK hP hD hS 0 rfl rfl 0 (by decide) (hts (.fieldLink RX3 26 "ProducerBookModel" "code" "I") (mm aw_308)) (fun _ h9 => h9) rfl (by decide +kernel) rfl rfl (Nat.le_of_ble_eq_true rfl) dX3_batch_27 (fun H locs hP hD hS => ?_)
      have hP : va_P (dC, dI) classes (wMo cI cJ h B P E S L (nI 1) (nI n) (nI ed)) H := hP
      have hD : va_D A (wMo cI cJ h B P E S L (nI 1) (nI n) (nI ed)) := hD
      refine lv_aload_n hx hb dX3_batch_30 rfl (lv_at hl 0 rfl) ?_
      refine va_get (D := (dC, dI)) (ci := 3) (v := .int (nI 1)) (C := RX3) (T := TX3) (N := 8) hx hb hts (fun w9 h9 => mm (inX3 w9 h9)) hown hK hP 0 rfl rfl 0 (by decide) (hts (.fieldLink RX3 26 "ProducerBookModel" "code" "I") (mm aw_308)) (fun _ h9 => h9) rfl dX3_batch_31 ?_
      refine lv_if_le (tgt := 39) hx hb dX3_batch_34 (by decide) (fun c_34 => ?_) (fun c_34 => ?_)
      · exact absurd c_34 (by decide)
      · refine lv_lconst (v := 0) hx hb dX3_batch_37 (by decide) ?_
        exact xh_lret hx hb hr (none) (fun k => k.2.1 c_10) hP hK hD hS dX3_batch_38 hlocks
    · refine lv_iload_n hx hb dX3_batch_13 rfl (lv_at hl 2 rfl) ?_
      refine lv_if_lt (tgt := 22) hx hb dX3_batch_14 (by decide) (fun c_14 => ?_) (fun c_14 => ?_)
      · refine lv_iconst (v := nI 1) hx hb dX3_batch_22 (by decide +kernel) ?_
        refine lv_goto (tgt := 27) hx hb dX3_batch_23 (by decide) ?_
        refine va_put (D := (dC, dI)) (ci := 3) (v := .int (nI 1)) (ty := .int) (C := RX3) (T := TX3) (N := 8) hx hb hts (fun w9 h9 => mm (inX3 w9 h9)) tyX3 tyX3_ok nX3 hown hK hP hD hS 0 rfl rfl 0 (by decide) (hts (.fieldLink RX3 26 "ProducerBookModel" "code" "I") (mm aw_308)) (fun _ h9 => h9) rfl (by decide +kernel) rfl rfl (Nat.le_of_ble_eq_true rfl) dX3_batch_27 (fun H locs hP hD hS => ?_)
        have hP : va_P (dC, dI) classes (wMo cI cJ h B P E S L (nI 1) (nI n) (nI ed)) H := hP
        have hD : va_D A (wMo cI cJ h B P E S L (nI 1) (nI n) (nI ed)) := hD
        refine lv_aload_n hx hb dX3_batch_30 rfl (lv_at hl 0 rfl) ?_
        refine va_get (D := (dC, dI)) (ci := 3) (v := .int (nI 1)) (C := RX3) (T := TX3) (N := 8) hx hb hts (fun w9 h9 => mm (inX3 w9 h9)) hown hK hP 0 rfl rfl 0 (by decide) (hts (.fieldLink RX3 26 "ProducerBookModel" "code" "I") (mm aw_308)) (fun _ h9 => h9) rfl dX3_batch_31 ?_
        refine lv_if_le (tgt := 39) hx hb dX3_batch_34 (by decide) (fun c_34 => ?_) (fun c_34 => ?_)
        · exact absurd c_34 (by decide)
        · refine lv_lconst (v := 0) hx hb dX3_batch_37 (by decide) ?_
          exact xh_lret hx hb hr (none) (fun k => k.2.2.1 c_14) hP hK hD hS dX3_batch_38 hlocks
      · refine lv_iload_n hx hb dX3_batch_17 rfl (lv_at hl 2 rfl) ?_
        refine lv_iconst (v := nI 5) hx hb dX3_batch_18 (by decide +kernel) ?_
        refine lv_icmp_le (tgt := 26) hx hb dX3_batch_19 (by decide) (fun c_19 => ?_) (fun c_19 => ?_)
        · refine lv_iconst (v := nI 0) hx hb dX3_batch_26 (by decide +kernel) ?_
          refine va_put (D := (dC, dI)) (ci := 3) (v := .int (nI 0)) (ty := .int) (C := RX3) (T := TX3) (N := 8) hx hb hts (fun w9 h9 => mm (inX3 w9 h9)) tyX3 tyX3_ok nX3 hown hK hP hD hS 0 rfl rfl 0 (by decide) (hts (.fieldLink RX3 26 "ProducerBookModel" "code" "I") (mm aw_308)) (fun _ h9 => h9) rfl (by decide +kernel) rfl rfl (Nat.le_of_ble_eq_true rfl) dX3_batch_27 (fun H locs hP hD hS => ?_)
          have hP : va_P (dC, dI) classes (wMo cI cJ h B P E S L (nI 0) (nI n) (nI ed)) H := hP
          have hD : va_D A (wMo cI cJ h B P E S L (nI 0) (nI n) (nI ed)) := hD
          refine lv_aload_n hx hb dX3_batch_30 rfl (lv_at hl 0 rfl) ?_
          refine va_get (D := (dC, dI)) (ci := 3) (v := .int (nI 0)) (C := RX3) (T := TX3) (N := 8) hx hb hts (fun w9 h9 => mm (inX3 w9 h9)) hown hK hP 0 rfl rfl 0 (by decide) (hts (.fieldLink RX3 26 "ProducerBookModel" "code" "I") (mm aw_308)) (fun _ h9 => h9) rfl dX3_batch_31 ?_
          refine lv_if_le (tgt := 39) hx hb dX3_batch_34 (by decide) (fun c_34 => ?_) (fun c_34 => ?_)
          · obtain ⟨k, hk31, ek⟩ := nI_of c_2
            rw [ek] at hl c_10
            have hk : k < n := Nat.lt_of_not_le fun g => c_10 ((nI_leI (by omega) (by omega)).mpr g)
            obtain ⟨y9, hy9, ey⟩ := nI_of2 (M := nI 5) (n := 5) (by decide) c_14 c_19
            rw [ey] at hl
            rcases (show y9 = 0 ∨ y9 = 1 ∨ y9 = 2 ∨ y9 = 3 ∨ y9 = 4 ∨ y9 = 5 by omega) with h9 | h9 | h9 | h9 | h9 | h9
            · subst h9
              refine lv_iload_n hx hb dX3_batch_39 rfl (lv_at hl 2 rfl) ?_
              refine lv_tableIn (off := 36) (tgt := 76) hx hb dX3_batch_40 (by decide) (by decide) (by decide) (by decide) ?_
              refine lv_aload_n hx hb dX3_batch_76 rfl (lv_at hl 0 rfl) ?_
              refine va_get (D := (dC, dI)) (ci := 3) (v := .ref (h 21)) (C := RX3) (T := TX3) (N := 8) hx hb hts (fun w9 h9 => mm (inX3 w9 h9)) hown hK hP 0 rfl rfl 3 (by decide) (hts (.fieldLink RX3 7 "ProducerBookModel" "base" "[I") (mm aw_311)) (fun _ h9 => h9) rfl dX3_batch_77 ?_
              refine lv_iload_n hx hb dX3_batch_80 rfl (lv_at hl 1 rfl) ?_
              refine xh_iald hx hb hK hP 1 0 rfl rfl (k := k) (by omega) (by decide) dX3_batch_81 ?_
              refine lv_i2l (v := (B k).toInt64) hx hb dX3_batch_82 rfl ?_
              exact xh_lret hx hb hr (some (k, 0)) (⟨ek, hk, ey, Nat.le_of_ble_eq_true rfl, rfl⟩) hP hK hD hS dX3_batch_83 hlocks
            · subst h9
              refine lv_iload_n hx hb dX3_batch_39 rfl (lv_at hl 2 rfl) ?_
              refine lv_tableIn (off := 44) (tgt := 84) hx hb dX3_batch_40 (by decide) (by decide) (by decide) (by decide) ?_
              refine lv_aload_n hx hb dX3_batch_84 rfl (lv_at hl 0 rfl) ?_
              refine va_get (D := (dC, dI)) (ci := 3) (v := .ref (h 22)) (C := RX3) (T := TX3) (N := 8) hx hb hts (fun w9 h9 => mm (inX3 w9 h9)) hown hK hP 0 rfl rfl 4 (by decide) (hts (.fieldLink RX3 13 "ProducerBookModel" "producer" "[J") (mm aw_312)) (fun _ h9 => h9) rfl dX3_batch_85 ?_
              refine lv_iload_n hx hb dX3_batch_88 rfl (lv_at hl 1 rfl) ?_
              refine xh_lald hx hb hK hP 2 1 rfl rfl (k := k) (by omega) (by decide) dX3_batch_89 ?_
              exact xh_lret hx hb hr (some (k, 1)) (⟨ek, hk, ey, Nat.le_of_ble_eq_true rfl, rfl⟩) hP hK hD hS dX3_batch_90 hlocks
            · subst h9
              refine lv_iload_n hx hb dX3_batch_39 rfl (lv_at hl 2 rfl) ?_
              refine lv_tableIn (off := 51) (tgt := 91) hx hb dX3_batch_40 (by decide) (by decide) (by decide) (by decide) ?_
              refine lv_aload_n hx hb dX3_batch_91 rfl (lv_at hl 0 rfl) ?_
              refine va_get (D := (dC, dI)) (ci := 3) (v := .ref (h 23)) (C := RX3) (T := TX3) (N := 8) hx hb hts (fun w9 h9 => mm (inX3 w9 h9)) hown hK hP 0 rfl rfl 5 (by decide) (hts (.fieldLink RX3 17 "ProducerBookModel" "epoch" "[I") (mm aw_313)) (fun _ h9 => h9) rfl dX3_batch_92 ?_
              refine lv_iload_n hx hb dX3_batch_95 rfl (lv_at hl 1 rfl) ?_
              refine xh_iald hx hb hK hP 3 0 rfl rfl (k := k) (by omega) (by decide) dX3_batch_96 ?_
              refine lv_i2l (v := (E k).toInt64) hx hb dX3_batch_97 rfl ?_
              exact xh_lret hx hb hr (some (k, 2)) (⟨ek, hk, ey, Nat.le_of_ble_eq_true rfl, rfl⟩) hP hK hD hS dX3_batch_98 hlocks
            · subst h9
              refine lv_iload_n hx hb dX3_batch_39 rfl (lv_at hl 2 rfl) ?_
              refine lv_tableIn (off := 59) (tgt := 99) hx hb dX3_batch_40 (by decide) (by decide) (by decide) (by decide) ?_
              refine lv_aload_n hx hb dX3_batch_99 rfl (lv_at hl 0 rfl) ?_
              refine va_get (D := (dC, dI)) (ci := 3) (v := .ref (h 24)) (C := RX3) (T := TX3) (N := 8) hx hb hts (fun w9 h9 => mm (inX3 w9 h9)) hown hK hP 0 rfl rfl 6 (by decide) (hts (.fieldLink RX3 20 "ProducerBookModel" "sequence" "[I") (mm aw_314)) (fun _ h9 => h9) rfl dX3_batch_100 ?_
              refine lv_iload_n hx hb dX3_batch_103 rfl (lv_at hl 1 rfl) ?_
              refine xh_iald hx hb hK hP 4 0 rfl rfl (k := k) (by omega) (by decide) dX3_batch_104 ?_
              refine lv_i2l (v := (S k).toInt64) hx hb dX3_batch_105 rfl ?_
              exact xh_lret hx hb hr (some (k, 3)) (⟨ek, hk, ey, Nat.le_of_ble_eq_true rfl, rfl⟩) hP hK hD hS dX3_batch_106 hlocks
            · subst h9
              refine lv_iload_n hx hb dX3_batch_39 rfl (lv_at hl 2 rfl) ?_
              refine lv_tableIn (off := 67) (tgt := 107) hx hb dX3_batch_40 (by decide) (by decide) (by decide) (by decide) ?_
              refine lv_aload_n hx hb dX3_batch_107 rfl (lv_at hl 0 rfl) ?_
              refine va_get (D := (dC, dI)) (ci := 3) (v := .ref (h 25)) (C := RX3) (T := TX3) (N := 8) hx hb hts (fun w9 h9 => mm (inX3 w9 h9)) hown hK hP 0 rfl rfl 7 (by decide) (hts (.fieldLink RX3 23 "ProducerBookModel" "last" "[I") (mm aw_315)) (fun _ h9 => h9) rfl dX3_batch_108 ?_
              refine lv_iload_n hx hb dX3_batch_111 rfl (lv_at hl 1 rfl) ?_
              refine xh_iald hx hb hK hP 5 0 rfl rfl (k := k) (by omega) (by decide) dX3_batch_112 ?_
              refine lv_i2l (v := (L k).toInt64) hx hb dX3_batch_113 rfl ?_
              exact xh_lret hx hb hr (some (k, 4)) (⟨ek, hk, ey, Nat.le_of_ble_eq_true rfl, rfl⟩) hP hK hD hS dX3_batch_114 hlocks
            · subst h9
              refine lv_iload_n hx hb dX3_batch_39 rfl (lv_at hl 2 rfl) ?_
              refine lv_tableOut (tgt := 115) hx hb dX3_batch_40 (by decide) (by decide) ?_
              refine lv_aload_n hx hb dX3_batch_115 rfl (lv_at hl 0 rfl) ?_
              refine lv_iload_n hx hb dX3_batch_116 rfl (lv_at hl 1 rfl) ?_
              refine xh_calli (wc := wMo cI cJ h B P E S L (nI 0) (nI n) (nI ed)) (wr := []) (w1 := fun (u : Unit) => wMo cI cJ h B P E S L (nI 0) (nI n) (nI ed)) hP hD hS hA [0, 1, 2, 3, 4, 5] [] rfl rfl (by decide) (by decide) (va_runV (As := [.int (nI k)]) (rest := []) ⟨hx, hb, hml, hown, hts⟩ (m_isKnown l dC dI cI cJ h H.size B P E S L (nI 0) n ed k hn hk (hPI k hk)) (cwV 1 hts (aw_V aw_378 aw_380 aw_s9 aw_4 aw_381) rfl rfl rfl (by decide +kernel) ⟨Nat.le_of_ble_eq_true rfl, Nat.le_of_ble_eq_true rfl⟩) (xh_preV (r0 := 0) hK (hP.sub (ws' := wMo cI cJ h B P E S L (nI 0) (nI n) (nI ed)) [0, 1, 2, 3, 4, 5] rfl) (hD.sub (ws' := wMo cI cJ h B P E S L (nI 0) (nI n) (nI ed)) [0, 1, 2, 3, 4, 5] (by decide) rfl) rfl rfl rfl) rfl rfl hl.1 rfl (lv_room (Nat.le_of_ble_eq_true rfl)) dX3_batch_117 ⟨Nat.le_of_ble_eq_true rfl, Nat.le_of_ble_eq_true rfl⟩) (fun r_1 u H locs hw hP hD hS => ?_)
              have hP : va_P (dC, dI) classes (wMo cI cJ h B P E S L (nI 0) (nI n) (nI ed)) H := hP
              have hD : va_D A (wMo cI cJ h B P E S L (nI 0) (nI n) (nI ed)) := hD
              rcases hw with ⟨hk5, rfl⟩ | ⟨hk5, rfl⟩
              · have := pb_nv_le P n k
                refine lv_if_eq (tgt := 127) hx hb dX3_batch_120 (by decide) (fun c_120 => ?_) (fun c_120 => ?_)
                · exact absurd c_120 (by decide)
                · refine lv_lconst (v := 1) hx hb dX3_batch_123 (by decide) ?_
                  refine lv_goto (tgt := 128) hx hb dX3_batch_124 (by decide) ?_
                  exact xh_lret hx hb hr (some (k, 5)) (⟨ek, hk, ey, Nat.le_of_ble_eq_true rfl, (pb_bat5k B E S L (pb_n0y hk5)).symm⟩) hP hK hD hS dX3_batch_128 hlocks
              · have := pb_nv_le P n k
                refine lv_if_eq (tgt := 127) hx hb dX3_batch_120 (by decide) (fun c_120 => ?_) (fun c_120 => ?_)
                · refine lv_lconst (v := 0) hx hb dX3_batch_127 (by decide) ?_
                  exact xh_lret hx hb hr (some (k, 5)) (⟨ek, hk, ey, Nat.le_of_ble_eq_true rfl, (pb_bat5u B E S L (pb_n0n hk5)).symm⟩) hP hK hD hS dX3_batch_128 hlocks
                · exact absurd (show nI 0 = 0 by decide) c_120
          · exact absurd (show nI 0 ≤ 0 by decide) c_34
        · refine lv_iconst (v := nI 1) hx hb dX3_batch_22 (by decide +kernel) ?_
          refine lv_goto (tgt := 27) hx hb dX3_batch_23 (by decide) ?_
          refine va_put (D := (dC, dI)) (ci := 3) (v := .int (nI 1)) (ty := .int) (C := RX3) (T := TX3) (N := 8) hx hb hts (fun w9 h9 => mm (inX3 w9 h9)) tyX3 tyX3_ok nX3 hown hK hP hD hS 0 rfl rfl 0 (by decide) (hts (.fieldLink RX3 26 "ProducerBookModel" "code" "I") (mm aw_308)) (fun _ h9 => h9) rfl (by decide +kernel) rfl rfl (Nat.le_of_ble_eq_true rfl) dX3_batch_27 (fun H locs hP hD hS => ?_)
          have hP : va_P (dC, dI) classes (wMo cI cJ h B P E S L (nI 1) (nI n) (nI ed)) H := hP
          have hD : va_D A (wMo cI cJ h B P E S L (nI 1) (nI n) (nI ed)) := hD
          refine lv_aload_n hx hb dX3_batch_30 rfl (lv_at hl 0 rfl) ?_
          refine va_get (D := (dC, dI)) (ci := 3) (v := .int (nI 1)) (C := RX3) (T := TX3) (N := 8) hx hb hts (fun w9 h9 => mm (inX3 w9 h9)) hown hK hP 0 rfl rfl 0 (by decide) (hts (.fieldLink RX3 26 "ProducerBookModel" "code" "I") (mm aw_308)) (fun _ h9 => h9) rfl dX3_batch_31 ?_
          refine lv_if_le (tgt := 39) hx hb dX3_batch_34 (by decide) (fun c_34 => ?_) (fun c_34 => ?_)
          · exact absurd c_34 (by decide)
          · refine lv_lconst (v := 0) hx hb dX3_batch_37 (by decide) ?_
            exact xh_lret hx hb hr (none) (fun k => c_19 k.2.2.2) hP hK hD hS dX3_batch_38 hlocks

set_option maxHeartbeats 4000000 in
set_option maxRecDepth 100000 in
theorem m_count (l : Launch) (dC : Nat → ClassId) (dI : Nat → Nat → Nat) (cI cJ : ClassId) (h : Nat → Nat) (sz : Nat) (B : Nat → Int32) (P : Nat → Int64) (E S L : Nat → Int32) (cd : Int32) (n ed : Nat) (x : Int32) (hn : n ≤ 2000) (hPI : ∀ k, k < n → P k = -1 ∨ ¬ P k < 0) : Met l yX3_count wsX3_count ({ frames := 1, cells := 0, slots := 0, locals := 60 } : Room) (va_Pc [.ref (h 20), .int x] (xP (dC, dI) classes [(cI, FieldType.int), (cJ, FieldType.long)] (wMo cI cJ h B P E S L cd (nI n) (nI ed)) sz)) (va_Qi (fun (r : Int32) (u : Option Unit) => match u with | none => ¬ x = nI 0 ∧ ¬ x = nI 1 ∧ ¬ x = nI 2 | some _ => (x = nI 0 ∧ r = nI n) ∨ (x = nI 1 ∧ r = nI (pb_c0 (fun k => nI (pb_nv P n k)) n)) ∨ (x = nI 2 ∧ r = nI ed)) (fun u => xB (dC, dI) classes [(cI, FieldType.int), (cJ, FieldType.long)] (va_A (wMo cI cJ h B P E S L cd (nI n) (nI ed)) sz) ((fun (u : Option Unit) => match u with | none => wMo cI cJ h B P E S L (nI 1) (nI n) (nI ed) | some _ => wMo cI cJ h B P E S L (nI 0) (nI n) (nI ed)) u)) (va_A (wMo cI cJ h B P E S L cd (nI n) (nI ed)) sz)) 0 0 (va_A (wMo cI cJ h B P E S L cd (nI n) (nI ed)) sz) := by
  refine Met.ofW (cc := cX3_count) (maxL := 4) (ret := (some .int)) (by decide) rfl ?_
  intro p e s m args below meth c s₁ BB hml hv
  obtain ⟨rfl, hsz, hP, hK, hD0⟩ := hv
  have hx := BB.exec
  have hb := BB.bytes
  have hr := BB.returns
  have hts := atoms_spec (ws := wsX3_count) BB.pre
  have hown : s.vm.findClass RX3 = some m.cls := findClass_of_methodNamed BB.named
  have hlocks := BB.notSynchronized
  subst hsz
  have hD := hD0.self (sz := s.heap.size)
  generalize hAe : va_A (wMo cI cJ h B P E S L cd (nI n) (nI ed)) s.heap.size = A at hD ⊢
  have hA : ∀ q : Nat, s.heap.size ≤ q → A q := fun q h => by rw [← hAe]; exact Or.inr h
  have hS : va_S A s.heap s.heap [] := va_S.rf
  have hl := lv_entry ([.ref (h 20), .int x]) (n := 4) (Nat.le_of_ble_eq_true rfl)
  rw [lg_entry_eq]
  generalize (lg_sl ([.ref (h 20), .int x]) ++ List.replicate (4 - (lg_sl ([.ref (h 20), .int x])).length) Slot.unset).toArray = ls at hl ⊢
  have hl : lv_has ls 4 [(0, .ref (h 20)), (1, .int x)] := hl
  have hP : va_P (dC, dI) classes (wMo cI cJ h B P E S L cd (nI n) (nI ed)) s.heap := hP
  refine lv_aload_n hx hb dX3_count_0 rfl (lv_at hl 0 rfl) ?_
  refine lv_iload_n hx hb dX3_count_1 rfl (lv_at hl 1 rfl) ?_
  refine lv_if_lt (tgt := 10) hx hb dX3_count_2 (by decide) (fun c_2 => ?_) (fun c_2 => ?_)
  · refine lv_iconst (v := nI 1) hx hb dX3_count_10 (by decide +kernel) ?_
    refine lv_goto (tgt := 15) hx hb dX3_count_11 (by decide) ?_
    refine va_put (D := (dC, dI)) (ci := 3) (v := .int (nI 1)) (ty := .int) (C := RX3) (T := TX3) (N := 8) hx hb hts (fun w9 h9 => mm (inX3 w9 h9)) tyX3 tyX3_ok nX3 hown hK hP hD hS 0 rfl rfl 0 (by decide) (hts (.fieldLink RX3 26 "ProducerBookModel" "code" "I") (mm aw_308)) (fun _ h9 => h9) rfl (by decide +kernel) rfl rfl (Nat.le_of_ble_eq_true rfl) dX3_count_15 (fun H locs hP hD hS => ?_)
    have hP : va_P (dC, dI) classes (wMo cI cJ h B P E S L (nI 1) (nI n) (nI ed)) H := hP
    have hD : va_D A (wMo cI cJ h B P E S L (nI 1) (nI n) (nI ed)) := hD
    refine lv_aload_n hx hb dX3_count_18 rfl (lv_at hl 0 rfl) ?_
    refine va_get (D := (dC, dI)) (ci := 3) (v := .int (nI 1)) (C := RX3) (T := TX3) (N := 8) hx hb hts (fun w9 h9 => mm (inX3 w9 h9)) hown hK hP 0 rfl rfl 0 (by decide) (hts (.fieldLink RX3 26 "ProducerBookModel" "code" "I") (mm aw_308)) (fun _ h9 => h9) rfl dX3_count_19 ?_
    refine lv_if_le (tgt := 27) hx hb dX3_count_22 (by decide) (fun c_22 => ?_) (fun c_22 => ?_)
    · exact absurd c_22 (by decide)
    · refine lv_iconst (v := nI 0) hx hb dX3_count_25 (by decide +kernel) ?_
      exact xh_iret hx hb hr (none) (pb_no3 (fun k => k.1 c_2)) hP hK hD hS dX3_count_26 hlocks
  · refine lv_iload_n hx hb dX3_count_5 rfl (lv_at hl 1 rfl) ?_
    refine lv_iconst (v := nI 2) hx hb dX3_count_6 (by decide +kernel) ?_
    refine lv_icmp_le (tgt := 14) hx hb dX3_count_7 (by decide) (fun c_7 => ?_) (fun c_7 => ?_)
    · refine lv_iconst (v := nI 0) hx hb dX3_count_14 (by decide +kernel) ?_
      refine va_put (D := (dC, dI)) (ci := 3) (v := .int (nI 0)) (ty := .int) (C := RX3) (T := TX3) (N := 8) hx hb hts (fun w9 h9 => mm (inX3 w9 h9)) tyX3 tyX3_ok nX3 hown hK hP hD hS 0 rfl rfl 0 (by decide) (hts (.fieldLink RX3 26 "ProducerBookModel" "code" "I") (mm aw_308)) (fun _ h9 => h9) rfl (by decide +kernel) rfl rfl (Nat.le_of_ble_eq_true rfl) dX3_count_15 (fun H locs hP hD hS => ?_)
      have hP : va_P (dC, dI) classes (wMo cI cJ h B P E S L (nI 0) (nI n) (nI ed)) H := hP
      have hD : va_D A (wMo cI cJ h B P E S L (nI 0) (nI n) (nI ed)) := hD
      refine lv_aload_n hx hb dX3_count_18 rfl (lv_at hl 0 rfl) ?_
      refine va_get (D := (dC, dI)) (ci := 3) (v := .int (nI 0)) (C := RX3) (T := TX3) (N := 8) hx hb hts (fun w9 h9 => mm (inX3 w9 h9)) hown hK hP 0 rfl rfl 0 (by decide) (hts (.fieldLink RX3 26 "ProducerBookModel" "code" "I") (mm aw_308)) (fun _ h9 => h9) rfl dX3_count_19 ?_
      refine lv_if_le (tgt := 27) hx hb dX3_count_22 (by decide) (fun c_22 => ?_) (fun c_22 => ?_)
      · refine lv_iload_n hx hb dX3_count_27 rfl (lv_at hl 1 rfl) ?_
        refine lv_iconst (v := nI 1) hx hb dX3_count_28 (by decide +kernel) ?_
        refine lv_icmp_eq (tgt := 48) hx hb dX3_count_29 (by decide) (fun c_29 => ?_) (fun c_29 => ?_)
        · refine lv_iconst (v := nI 0) hx hb dX3_count_48 (by decide +kernel) ?_
          refine lv_istore_n (lv' := [(2, .int (nI 0)), (0, .ref (h 20)), (1, .int x)]) hx hb dX3_count_49 rfl hl (by decide) rfl (fun ls hl => ?_)
          refine lv_iconst (v := nI 0) hx hb dX3_count_50 (by decide +kernel) ?_
          refine lv_istore_n (lv' := [(3, .int (nI 0)), (2, .int (nI 0)), (0, .ref (h 20)), (1, .int x)]) hx hb dX3_count_51 rfl hl (by decide) rfl (fun ls hl => ?_)
          have lp52 : ∀ (fuel : Nat) (i : Nat) (H : Heap) (locs : List Loc) (ls : Array Slot), (i ≤ n) → n - i < fuel → va_P (dC, dI) classes (wMo cI cJ h B P E S L (nI 0) (nI n) (nI ed)) H → va_D A (wMo cI cJ h B P E S L (nI 0) (nI n) (nI ed)) → va_S A s.heap H locs → lv_has ls 4 [(0, .ref (h 20)), (2, .int (nI (pb_c0 (fun k => nI (pb_nv P n k)) i))), (3, .int (nI i))] → W p l e ({ frames := 1, cells := 0, slots := 0, locals := 60 } : Room) s m ([.ref (h 20), .int x] : List Value).toArray below meth c H locs 0 0 (MQ below (va_Qi (fun (r : Int32) (u : Option Unit) => match u with | none => ¬ x = nI 0 ∧ ¬ x = nI 1 ∧ ¬ x = nI 2 | some _ => (x = nI 0 ∧ r = nI n) ∨ (x = nI 1 ∧ r = nI (pb_c0 (fun k => nI (pb_nv P n k)) n)) ∨ (x = nI 2 ∧ r = nI ed)) (fun u => xB (dC, dI) classes [(cI, FieldType.int), (cJ, FieldType.long)] A ((fun (u : Option Unit) => match u with | none => wMo cI cJ h B P E S L (nI 1) (nI n) (nI ed) | some _ => wMo cI cJ h B P E S L (nI 0) (nI n) (nI ed)) u)) A) ([.ref (h 20), .int x] : List Value).toArray s 0 0 A) (F0 m 52 ls []) := by
            intro fuel
            induction fuel with
            | zero => intro i H locs ls hi hfuel; exact absurd hfuel (Nat.not_lt_zero _)
            | succ fuel ih =>
              intro i H locs ls hi hfuel hP hD hS hl
              refine lv_iload_n hx hb dX3_count_52 rfl (lv_at hl 2 rfl) ?_
              refine lv_aload_n hx hb dX3_count_53 rfl (lv_at hl 0 rfl) ?_
              refine va_get (D := (dC, dI)) (ci := 3) (v := .int (nI n)) (C := RX3) (T := TX3) (N := 8) hx hb hts (fun w9 h9 => mm (inX3 w9 h9)) hown hK hP 0 rfl rfl 1 (by decide) (hts (.fieldLink RX3 32 "ProducerBookModel" "count" "I") (mm aw_309)) (fun _ h9 => h9) rfl dX3_count_54 ?_
              refine lv_icmp_ge (tgt := 93) hx hb dX3_count_57 (by decide) (fun c_57 => ?_) (fun c_57 => ?_)
              · have c1 := (nI_leI (by omega) (by omega)).mp c_57
                have ei : i = n := by omega
                refine lv_iload_n hx hb dX3_count_93 rfl (lv_at hl 1 rfl) ?_
                exact xh_iret hx hb hr (some ()) (Or.inr (Or.inl ⟨c_29, by rw [ei]⟩)) hP hK hD hS dX3_count_94 hlocks
              · have c1 : i < n := Nat.lt_of_not_le fun g => c_57 ((nI_leI (by omega) (by omega)).mpr g)
                refine lv_iload_n hx hb dX3_count_60 rfl (lv_at hl 1 rfl) ?_
                refine lv_aload_n hx hb dX3_count_61 rfl (lv_at hl 0 rfl) ?_
                refine va_get (D := (dC, dI)) (ci := 3) (v := .ref (h 22)) (C := RX3) (T := TX3) (N := 8) hx hb hts (fun w9 h9 => mm (inX3 w9 h9)) hown hK hP 0 rfl rfl 4 (by decide) (hts (.fieldLink RX3 13 "ProducerBookModel" "producer" "[J") (mm aw_312)) (fun _ h9 => h9) rfl dX3_count_62 ?_
                refine lv_iload_n hx hb dX3_count_65 rfl (lv_at hl 2 rfl) ?_
                refine xh_lald hx hb hK hP 2 1 rfl rfl (k := i) (by omega) (by decide) dX3_count_66 ?_
                refine lv_lconst (v := 0) hx hb dX3_count_67 (by decide) ?_
                refine W.lcmp hx hb dX3_count_68 ?_
                refine lv_if_lt (tgt := 84) hx hb dX3_count_69 (by decide) (fun c_69 => ?_) (fun c_69 => ?_)
                · have cQ : P i < 0 := (lg_cmp_lt _ _).mp c_69
                  refine lv_iconst (v := nI 0) hx hb dX3_count_84 (by decide +kernel) ?_
                  refine lv_iadd hx hb dX3_count_85 ?_
                  refine xh_topi (z := nI (pb_c0 (fun k => nI (pb_nv P n k)) (i + 1))) (by rw [pb_c0_n (N := (fun k => nI (pb_nv P n k))) (pb_z1 (hPI i c1) cQ)]; exact nI_add _ 0) ?_
                  refine lv_istore_n (lv' := [(2, .int (nI (pb_c0 (fun k => nI (pb_nv P n k)) (i + 1)))), (0, .ref (h 20)), (3, .int (nI i))]) hx hb dX3_count_86 rfl hl (by decide) rfl (fun ls hl => ?_)
                  refine lv_iinc (v := nI (i + 1)) (lv' := [(3, .int (nI (i + 1))), (2, .int (nI (pb_c0 (fun k => nI (pb_nv P n k)) (i + 1)))), (0, .ref (h 20))]) hx hb dX3_count_87 hl (k := 2) rfl (by exact nI_1 i) (by decide) rfl (fun ls hl => ?_)
                  refine lv_goto (tgt := 52) hx hb dX3_count_90 (by decide) ?_
                  exact ih (i + 1) _ _ _ (by omega) (by omega) hP hD hS (lv_sub hl [2, 1, 0] rfl)
                · have cQ : ¬ P i < 0 := fun g => c_69 ((lg_cmp_lt _ _).mpr g)
                  refine lv_aload_n hx hb dX3_count_72 rfl (lv_at hl 0 rfl) ?_
                  refine lv_iload_n hx hb dX3_count_73 rfl (lv_at hl 2 rfl) ?_
                  refine xh_calli (wc := wMo cI cJ h B P E S L (nI 0) (nI n) (nI ed)) (wr := []) (w1 := fun (u : Unit) => wMo cI cJ h B P E S L (nI 0) (nI n) (nI ed)) hP hD hS hA [0, 1, 2, 3, 4, 5] [] rfl rfl (by decide) (by decide) (va_runV (As := [.int (nI i)]) (rest := [.int (nI (pb_c0 (fun k => nI (pb_nv P n k)) i))]) ⟨hx, hb, hml, hown, hts⟩ (m_laterOnes l dC dI cI cJ h H.size B P E S L (nI 0) n ed i hn c1) (cwV 1 hts (aw_V aw_382 aw_384 aw_s10 aw_4 aw_385) rfl rfl rfl (by decide +kernel) ⟨Nat.le_of_ble_eq_true rfl, Nat.le_of_ble_eq_true rfl⟩) (xh_preV (r0 := 0) hK (hP.sub (ws' := wMo cI cJ h B P E S L (nI 0) (nI n) (nI ed)) [0, 1, 2, 3, 4, 5] rfl) (hD.sub (ws' := wMo cI cJ h B P E S L (nI 0) (nI n) (nI ed)) [0, 1, 2, 3, 4, 5] (by decide) rfl) rfl rfl rfl) rfl rfl hl.1 rfl (lv_room (Nat.le_of_ble_eq_true rfl)) dX3_count_74 ⟨Nat.le_of_ble_eq_true rfl, Nat.le_of_ble_eq_true rfl⟩) (fun r_1 u H locs hw hP hD hS => ?_)
                  have hP : va_P (dC, dI) classes (wMo cI cJ h B P E S L (nI 0) (nI n) (nI ed)) H := hP
                  have hD : va_D A (wMo cI cJ h B P E S L (nI 0) (nI n) (nI ed)) := hD
                  have hle := pb_cn_le P (P i) n
                  refine xh_topi (z := nI (pb_cn P (P i) n - pb_cn P (P i) (i + 1))) (hw) ?_
                  refine lv_if_ne (tgt := 84) hx hb dX3_count_77 (by decide) (fun c_77 => ?_) (fun c_77 => ?_)
                  · refine lv_iconst (v := nI 0) hx hb dX3_count_84 (by decide +kernel) ?_
                    refine lv_iadd hx hb dX3_count_85 ?_
                    refine xh_topi (z := nI (pb_c0 (fun k => nI (pb_nv P n k)) (i + 1))) (by rw [pb_c0_n (N := (fun k => nI (pb_nv P n k))) (pb_z2 cQ c_77 (by omega))]; exact nI_add _ 0) ?_
                    refine lv_istore_n (lv' := [(2, .int (nI (pb_c0 (fun k => nI (pb_nv P n k)) (i + 1)))), (0, .ref (h 20)), (3, .int (nI i))]) hx hb dX3_count_86 rfl hl (by decide) rfl (fun ls hl => ?_)
                    refine lv_iinc (v := nI (i + 1)) (lv' := [(3, .int (nI (i + 1))), (2, .int (nI (pb_c0 (fun k => nI (pb_nv P n k)) (i + 1)))), (0, .ref (h 20))]) hx hb dX3_count_87 hl (k := 2) rfl (by exact nI_1 i) (by decide) rfl (fun ls hl => ?_)
                    refine lv_goto (tgt := 52) hx hb dX3_count_90 (by decide) ?_
                    exact ih (i + 1) _ _ _ (by omega) (by omega) hP hD hS (lv_sub hl [2, 1, 0] rfl)
                  · refine lv_iconst (v := nI 1) hx hb dX3_count_80 (by decide +kernel) ?_
                    refine lv_goto (tgt := 85) hx hb dX3_count_81 (by decide) ?_
                    refine lv_iadd hx hb dX3_count_85 ?_
                    refine xh_topi (z := nI (pb_c0 (fun k => nI (pb_nv P n k)) (i + 1))) (by rw [pb_c0_y (N := (fun k => nI (pb_nv P n k))) (pb_z0 cQ c_77 (by omega))]; exact nI_add _ 1) ?_
                    refine lv_istore_n (lv' := [(2, .int (nI (pb_c0 (fun k => nI (pb_nv P n k)) (i + 1)))), (0, .ref (h 20)), (3, .int (nI i))]) hx hb dX3_count_86 rfl hl (by decide) rfl (fun ls hl => ?_)
                    refine lv_iinc (v := nI (i + 1)) (lv' := [(3, .int (nI (i + 1))), (2, .int (nI (pb_c0 (fun k => nI (pb_nv P n k)) (i + 1)))), (0, .ref (h 20))]) hx hb dX3_count_87 hl (k := 2) rfl (by exact nI_1 i) (by decide) rfl (fun ls hl => ?_)
                    refine lv_goto (tgt := 52) hx hb dX3_count_90 (by decide) ?_
                    exact ih (i + 1) _ _ _ (by omega) (by omega) hP hD hS (lv_sub hl [2, 1, 0] rfl)
          exact lp52 (n + 1) 0 _ _ _ (Nat.zero_le n) (by omega) hP hD hS (lv_sub hl [2, 1, 0] rfl)
        · refine lv_iload_n hx hb dX3_count_32 rfl (lv_at hl 1 rfl) ?_
          refine lv_if_ne (tgt := 43) hx hb dX3_count_33 (by decide) (fun c_33 => ?_) (fun c_33 => ?_)
          · refine lv_aload_n hx hb dX3_count_43 rfl (lv_at hl 0 rfl) ?_
            refine va_get (D := (dC, dI)) (ci := 3) (v := .int (nI ed)) (C := RX3) (T := TX3) (N := 8) hx hb hts (fun w9 h9 => mm (inX3 w9 h9)) hown hK hP 0 rfl rfl 2 (by decide) (hts (.fieldLink RX3 45 "ProducerBookModel" "end" "I") (mm aw_310)) (fun _ h9 => h9) rfl dX3_count_44 ?_
            exact xh_iret hx hb hr (some ()) (Or.inr (Or.inr ⟨pb_is2 c_2 c_7 c_29 c_33, rfl⟩)) hP hK hD hS dX3_count_47 hlocks
          · refine lv_aload_n hx hb dX3_count_36 rfl (lv_at hl 0 rfl) ?_
            refine va_get (D := (dC, dI)) (ci := 3) (v := .int (nI n)) (C := RX3) (T := TX3) (N := 8) hx hb hts (fun w9 h9 => mm (inX3 w9 h9)) hown hK hP 0 rfl rfl 1 (by decide) (hts (.fieldLink RX3 32 "ProducerBookModel" "count" "I") (mm aw_309)) (fun _ h9 => h9) rfl dX3_count_37 ?_
            refine lv_goto (tgt := 47) hx hb dX3_count_40 (by decide) ?_
            exact xh_iret hx hb hr (some ()) (Or.inl ⟨c_33, rfl⟩) hP hK hD hS dX3_count_47 hlocks
      · exact absurd (show nI 0 ≤ 0 by decide) c_22
    · refine lv_iconst (v := nI 1) hx hb dX3_count_10 (by decide +kernel) ?_
      refine lv_goto (tgt := 15) hx hb dX3_count_11 (by decide) ?_
      refine va_put (D := (dC, dI)) (ci := 3) (v := .int (nI 1)) (ty := .int) (C := RX3) (T := TX3) (N := 8) hx hb hts (fun w9 h9 => mm (inX3 w9 h9)) tyX3 tyX3_ok nX3 hown hK hP hD hS 0 rfl rfl 0 (by decide) (hts (.fieldLink RX3 26 "ProducerBookModel" "code" "I") (mm aw_308)) (fun _ h9 => h9) rfl (by decide +kernel) rfl rfl (Nat.le_of_ble_eq_true rfl) dX3_count_15 (fun H locs hP hD hS => ?_)
      have hP : va_P (dC, dI) classes (wMo cI cJ h B P E S L (nI 1) (nI n) (nI ed)) H := hP
      have hD : va_D A (wMo cI cJ h B P E S L (nI 1) (nI n) (nI ed)) := hD
      refine lv_aload_n hx hb dX3_count_18 rfl (lv_at hl 0 rfl) ?_
      refine va_get (D := (dC, dI)) (ci := 3) (v := .int (nI 1)) (C := RX3) (T := TX3) (N := 8) hx hb hts (fun w9 h9 => mm (inX3 w9 h9)) hown hK hP 0 rfl rfl 0 (by decide) (hts (.fieldLink RX3 26 "ProducerBookModel" "code" "I") (mm aw_308)) (fun _ h9 => h9) rfl dX3_count_19 ?_
      refine lv_if_le (tgt := 27) hx hb dX3_count_22 (by decide) (fun c_22 => ?_) (fun c_22 => ?_)
      · exact absurd c_22 (by decide)
      · refine lv_iconst (v := nI 0) hx hb dX3_count_25 (by decide +kernel) ?_
        exact xh_iret hx hb hr (none) (pb_no3 (fun k => c_7 k.2)) hP hK hD hS dX3_count_26 hlocks
