set_option maxHeartbeats 4000000 in
set_option maxRecDepth 100000 in
theorem m_offers (l : Launch) (dC : Nat → ClassId) (dI : Nat → Nat → Nat) (cI cJ : ClassId) (h : Nat → Nat) (sz : Nat) (B : Nat → Int32) (P : Nat → Int64) (E S L : Nat → Int32) (cd : Int32) (n ed : Nat) (x : Int32) (pr : Int64) (ep sq la : Int32) (hn : n ≤ 2000) (hI : pb_MI B P S L n) (hed : ed ≤ 1000000) : Met l yX3_offers wsX3_offers ({ frames := 2, cells := 0, slots := 0, locals := 110 } : Room) (va_Pc [.ref (h 20), .int x, .long pr, .int ep, .int sq, .int la] (xP (dC, dI) classes [(cI, FieldType.int), (cJ, FieldType.long)] (wMo cI cJ h B P E S L cd (nI n) (nI ed)) sz)) (va_Qi (fun (r : Int32) (u : Int32 × Option pb_St) => match u.2 with | none => (¬ (¬ x < nI 1 ∧ ¬ nI 500 < x ∧ pb_leg pr ep sq la) ∧ u.1 = nI 1) ∨ ((¬ x < nI 1 ∧ ¬ nI 500 < x ∧ pb_leg pr ep sq la) ∧ u.1 = nI 2 ∧ ∃ c9 a : Nat, x = nI c9 ∧ c9 ≤ 500 ∧ la = nI a ∧ a ≤ 999 ∧ ¬ (n + c9 ≤ 2000 ∧ ed + c9 * (a + 1) ≤ 1000000)) | some y => pb_leg pr ep sq la ∧ u.1 = nI 0 ∧ ∃ c9 a : Nat, x = nI c9 ∧ 1 ≤ c9 ∧ c9 ≤ 500 ∧ la = nI a ∧ a ≤ 999 ∧ (n + c9 ≤ 2000 ∧ ed + c9 * (a + 1) ≤ 1000000) ∧ (pb_it (fun z => if pr < 0 then -1 else pb_nx z (nI a)) pr ep a (B, P, E, S, L, n, ed) sq c9).1 = y ∧ r = nI (y.2.2.2.2.2.1 - n) ∧ pb_MI y.1 y.2.1 y.2.2.2.1 y.2.2.2.2.1 y.2.2.2.2.2.1) (fun u => xB (dC, dI) classes [(cI, FieldType.int), (cJ, FieldType.long)] (va_A (wMo cI cJ h B P E S L cd (nI n) (nI ed)) sz) ((fun (u : Int32 × Option pb_St) => match u.2 with | none => wMo cI cJ h B P E S L u.1 (nI n) (nI ed) | some y => wMo cI cJ h y.1 y.2.1 y.2.2.1 y.2.2.2.1 y.2.2.2.2.1 u.1 (nI y.2.2.2.2.2.1) (nI y.2.2.2.2.2.2)) u)) (va_A (wMo cI cJ h B P E S L cd (nI n) (nI ed)) sz)) 0 0 (va_A (wMo cI cJ h B P E S L cd (nI n) (nI ed)) sz) := by
  refine Met.ofW (cc := cX3_offers) (maxL := 10) (ret := (some .int)) (by decide) rfl ?_
  intro p e s m args below meth c s₁ BB hml hv
  obtain ⟨rfl, hsz, hP, hK, hD0⟩ := hv
  have hx := BB.exec
  have hb := BB.bytes
  have hr := BB.returns
  have hts := atoms_spec (ws := wsX3_offers) BB.pre
  have hown : s.vm.findClass RX3 = some m.cls := findClass_of_methodNamed BB.named
  have hlocks := BB.notSynchronized
  subst hsz
  have hD := hD0.self (sz := s.heap.size)
  generalize hAe : va_A (wMo cI cJ h B P E S L cd (nI n) (nI ed)) s.heap.size = A at hD ⊢
  have hA : ∀ q : Nat, s.heap.size ≤ q → A q := fun q h => by rw [← hAe]; exact Or.inr h
  have hS : va_S A s.heap s.heap [] := va_S.rf
  have hl := lv_entry ([.ref (h 20), .int x, .long pr, .int ep, .int sq, .int la]) (n := 10) (Nat.le_of_ble_eq_true rfl)
  rw [lg_entry_eq]
  generalize (lg_sl ([.ref (h 20), .int x, .long pr, .int ep, .int sq, .int la]) ++ List.replicate (10 - (lg_sl ([.ref (h 20), .int x, .long pr, .int ep, .int sq, .int la])).length) Slot.unset).toArray = ls at hl ⊢
  have hl : lv_has ls 10 [(0, .ref (h 20)), (1, .int x), (2, .long pr), (4, .int ep), (5, .int sq), (6, .int la)] := hl
  have hP : va_P (dC, dI) classes (wMo cI cJ h B P E S L cd (nI n) (nI ed)) s.heap := hP
  refine lv_aload_n hx hb dX3_offers_0 rfl (lv_at hl 0 rfl) ?_
  refine lv_lload_n hx hb dX3_offers_1 rfl (lv_at hl 2 rfl) ?_
  refine lv_iload hx hb dX3_offers_2 (lv_at hl 3 rfl) ?_
  refine lv_iload hx hb dX3_offers_4 (lv_at hl 4 rfl) ?_
  refine lv_iload hx hb dX3_offers_6 (lv_at hl 5 rfl) ?_
  refine xh_calli (wc := []) (wr := wMo cI cJ h B P E S L cd (nI n) (nI ed)) (w1 := fun (u : Unit) => []) hP hD hS hA [] [0, 1, 2, 3, 4, 5] rfl rfl (by decide) (by decide) (va_runS (As := [.long pr, .int ep, .int sq, .int la]) (rest := [.ref (h 20)]) ⟨hx, hb, hml, hown, hts⟩ (m_isBatch l dC dI cI cJ h s.heap.size pr ep sq la) (cwS 4 hts (aw_S aw_341 aw_342 aw_4 aw_343) rfl rfl rfl (by decide +kernel) ⟨Nat.le_of_ble_eq_true rfl, Nat.le_of_ble_eq_true rfl⟩) (xh_preS hK (hP.sub (ws' := []) [] rfl) (hD.sub (ws' := []) [] (by decide) rfl)) rfl rfl hl.1 rfl (lv_room (Nat.le_of_ble_eq_true rfl)) dX3_offers_8 ⟨Nat.le_of_ble_eq_true rfl, Nat.le_of_ble_eq_true rfl⟩) (fun r_1 u H locs hw hP hD hS => ?_)
  have hP : va_P (dC, dI) classes (wMo cI cJ h B P E S L cd (nI n) (nI ed)) H := hP
  have hD : va_D A (wMo cI cJ h B P E S L cd (nI n) (nI ed)) := hD
  rcases hw with ⟨hleg, rfl⟩ | ⟨hleg, rfl⟩
  · obtain ⟨a, ha, ela⟩ := nI_of2 (M := nI 999) (n := 999) (by decide) hleg.1 hleg.2.1
    refine lv_if_eq (tgt := 26) hx hb dX3_offers_11 (by decide) (fun c_11 => ?_) (fun c_11 => ?_)
    · exact absurd c_11 (by decide)
    · refine lv_iload_n hx hb dX3_offers_14 rfl (lv_at hl 1 rfl) ?_
      refine lv_iconst (v := nI 1) hx hb dX3_offers_15 (by decide +kernel) ?_
      refine lv_icmp_lt (tgt := 26) hx hb dX3_offers_16 (by decide) (fun c_16 => ?_) (fun c_16 => ?_)
      · refine lv_iconst (v := nI 1) hx hb dX3_offers_26 (by decide +kernel) ?_
        refine lv_goto (tgt := 63) hx hb dX3_offers_27 (by decide) ?_
        refine va_put (D := (dC, dI)) (ci := 3) (v := .int (nI 1)) (ty := .int) (C := RX3) (T := TX3) (N := 8) hx hb hts (fun w9 h9 => mm (inX3 w9 h9)) tyX3 tyX3_ok nX3 hown hK hP hD hS 0 rfl rfl 0 (by decide) (hts (.fieldLink RX3 26 "ProducerBookModel" "code" "I") (mm aw_308)) (fun _ h9 => h9) rfl (by decide +kernel) rfl rfl (Nat.le_of_ble_eq_true rfl) dX3_offers_63 (fun H locs hP hD hS => ?_)
        have hP : va_P (dC, dI) classes (wMo cI cJ h B P E S L (nI 1) (nI n) (nI ed)) H := hP
        have hD : va_D A (wMo cI cJ h B P E S L (nI 1) (nI n) (nI ed)) := hD
        refine lv_aload_n hx hb dX3_offers_66 rfl (lv_at hl 0 rfl) ?_
        refine va_get (D := (dC, dI)) (ci := 3) (v := .int (nI 1)) (C := RX3) (T := TX3) (N := 8) hx hb hts (fun w9 h9 => mm (inX3 w9 h9)) hown hK hP 0 rfl rfl 0 (by decide) (hts (.fieldLink RX3 26 "ProducerBookModel" "code" "I") (mm aw_308)) (fun _ h9 => h9) rfl dX3_offers_67 ?_
        refine lv_if_le (tgt := 75) hx hb dX3_offers_70 (by decide) (fun c_70 => ?_) (fun c_70 => ?_)
        · exact absurd c_70 (by decide)
        · refine lv_iconst (v := nI 0) hx hb dX3_offers_73 (by decide +kernel) ?_
          exact xh_iret hx hb hr ((nI 1, none)) (Or.inl ⟨fun g => g.1 c_16, rfl⟩) hP hK hD hS dX3_offers_74 hlocks
      · refine lv_iload_n hx hb dX3_offers_19 rfl (lv_at hl 1 rfl) ?_
        refine lv_sipush (v := nI 500) hx hb dX3_offers_20 (by decide +kernel) ?_
        refine lv_icmp_le (tgt := 30) hx hb dX3_offers_23 (by decide) (fun c_23 => ?_) (fun c_23 => ?_)
        · obtain ⟨c9, hc1, hc2, ec⟩ := pb_of500 c_16 (Int32.not_lt.mpr c_23)
          rw [ela] at hl
          rw [ec] at hl
          have hka : c9 * (a + 1) ≤ 500 * 1000 := Nat.mul_le_mul hc2 (by omega)
          refine lv_aload_n hx hb dX3_offers_30 rfl (lv_at hl 0 rfl) ?_
          refine va_get (D := (dC, dI)) (ci := 3) (v := .int (nI n)) (C := RX3) (T := TX3) (N := 8) hx hb hts (fun w9 h9 => mm (inX3 w9 h9)) hown hK hP 0 rfl rfl 1 (by decide) (hts (.fieldLink RX3 32 "ProducerBookModel" "count" "I") (mm aw_309)) (fun _ h9 => h9) rfl dX3_offers_31 ?_
          refine lv_iload_n hx hb dX3_offers_34 rfl (lv_at hl 1 rfl) ?_
          refine lv_iadd hx hb dX3_offers_35 ?_
          refine xh_topi (z := nI (n + c9)) (nI_add n c9) ?_
          refine lv_sipush (v := nI 2000) hx hb dX3_offers_36 (by decide +kernel) ?_
          refine lv_icmp_gt (tgt := 58) hx hb dX3_offers_39 (by decide) (fun c_39 => ?_) (fun c_39 => ?_)
          · have c1 := (nI_ltI (by decide) (by omega)).mp c_39
            refine lv_iconst (v := nI 2) hx hb dX3_offers_58 (by decide +kernel) ?_
            refine lv_goto (tgt := 63) hx hb dX3_offers_59 (by decide) ?_
            refine va_put (D := (dC, dI)) (ci := 3) (v := .int (nI 2)) (ty := .int) (C := RX3) (T := TX3) (N := 8) hx hb hts (fun w9 h9 => mm (inX3 w9 h9)) tyX3 tyX3_ok nX3 hown hK hP hD hS 0 rfl rfl 0 (by decide) (hts (.fieldLink RX3 26 "ProducerBookModel" "code" "I") (mm aw_308)) (fun _ h9 => h9) rfl (by decide +kernel) rfl rfl (Nat.le_of_ble_eq_true rfl) dX3_offers_63 (fun H locs hP hD hS => ?_)
            have hP : va_P (dC, dI) classes (wMo cI cJ h B P E S L (nI 2) (nI n) (nI ed)) H := hP
            have hD : va_D A (wMo cI cJ h B P E S L (nI 2) (nI n) (nI ed)) := hD
            refine lv_aload_n hx hb dX3_offers_66 rfl (lv_at hl 0 rfl) ?_
            refine va_get (D := (dC, dI)) (ci := 3) (v := .int (nI 2)) (C := RX3) (T := TX3) (N := 8) hx hb hts (fun w9 h9 => mm (inX3 w9 h9)) hown hK hP 0 rfl rfl 0 (by decide) (hts (.fieldLink RX3 26 "ProducerBookModel" "code" "I") (mm aw_308)) (fun _ h9 => h9) rfl dX3_offers_67 ?_
            refine lv_if_le (tgt := 75) hx hb dX3_offers_70 (by decide) (fun c_70 => ?_) (fun c_70 => ?_)
            · exact absurd c_70 (by decide)
            · refine lv_iconst (v := nI 0) hx hb dX3_offers_73 (by decide +kernel) ?_
              exact xh_iret hx hb hr ((nI 2, none)) (Or.inr ⟨⟨c_16, Int32.not_lt.mpr c_23, hleg⟩, rfl, c9, a, ec, hc2, ela, ha, fun g => absurd g.1 (by omega)⟩) hP hK hD hS dX3_offers_74 hlocks
          · have c1 : n + c9 ≤ 2000 := Nat.le_of_not_lt fun g => c_39 ((nI_ltI (by decide) (by omega)).mpr g)
            refine lv_aload_n hx hb dX3_offers_42 rfl (lv_at hl 0 rfl) ?_
            refine va_get (D := (dC, dI)) (ci := 3) (v := .int (nI ed)) (C := RX3) (T := TX3) (N := 8) hx hb hts (fun w9 h9 => mm (inX3 w9 h9)) hown hK hP 0 rfl rfl 2 (by decide) (hts (.fieldLink RX3 45 "ProducerBookModel" "end" "I") (mm aw_310)) (fun _ h9 => h9) rfl dX3_offers_43 ?_
            refine lv_iload_n hx hb dX3_offers_46 rfl (lv_at hl 1 rfl) ?_
            refine lv_iload hx hb dX3_offers_47 (lv_at hl 5 rfl) ?_
            refine lv_iconst (v := nI 1) hx hb dX3_offers_49 (by decide +kernel) ?_
            refine lv_iadd hx hb dX3_offers_50 ?_
            refine xh_topi (z := nI (a + 1)) (nI_add a 1) ?_
            refine lv_imul hx hb dX3_offers_51 ?_
            refine xh_topi (z := nI (c9 * (a + 1))) (pk_mul c9 (a + 1)) ?_
            refine lv_iadd hx hb dX3_offers_52 ?_
            refine xh_topi (z := nI (ed + c9 * (a + 1))) (nI_add ed _) ?_
            refine lv_ldc (v := nI 1000000) hx hb hown (hts (.constant RX3 56 (nI 1000000)) (mm aw_357)) dX3_offers_53 ?_
            refine lv_icmp_le (tgt := 62) hx hb dX3_offers_55 (by decide) (fun c_55 => ?_) (fun c_55 => ?_)
            · have c2 := (nI_leI (by omega) (by decide)).mp c_55
              refine lv_iconst (v := nI 0) hx hb dX3_offers_62 (by decide +kernel) ?_
              refine va_put (D := (dC, dI)) (ci := 3) (v := .int (nI 0)) (ty := .int) (C := RX3) (T := TX3) (N := 8) hx hb hts (fun w9 h9 => mm (inX3 w9 h9)) tyX3 tyX3_ok nX3 hown hK hP hD hS 0 rfl rfl 0 (by decide) (hts (.fieldLink RX3 26 "ProducerBookModel" "code" "I") (mm aw_308)) (fun _ h9 => h9) rfl (by decide +kernel) rfl rfl (Nat.le_of_ble_eq_true rfl) dX3_offers_63 (fun H locs hP hD hS => ?_)
              have hP : va_P (dC, dI) classes (wMo cI cJ h B P E S L (nI 0) (nI n) (nI ed)) H := hP
              have hD : va_D A (wMo cI cJ h B P E S L (nI 0) (nI n) (nI ed)) := hD
              refine lv_aload_n hx hb dX3_offers_66 rfl (lv_at hl 0 rfl) ?_
              refine va_get (D := (dC, dI)) (ci := 3) (v := .int (nI 0)) (C := RX3) (T := TX3) (N := 8) hx hb hts (fun w9 h9 => mm (inX3 w9 h9)) hown hK hP 0 rfl rfl 0 (by decide) (hts (.fieldLink RX3 26 "ProducerBookModel" "code" "I") (mm aw_308)) (fun _ h9 => h9) rfl dX3_offers_67 ?_
              refine lv_if_le (tgt := 75) hx hb dX3_offers_70 (by decide) (fun c_70 => ?_) (fun c_70 => ?_)
              · refine lv_aload_n hx hb dX3_offers_75 rfl (lv_at hl 0 rfl) ?_
                refine va_get (D := (dC, dI)) (ci := 3) (v := .int (nI n)) (C := RX3) (T := TX3) (N := 8) hx hb hts (fun w9 h9 => mm (inX3 w9 h9)) hown hK hP 0 rfl rfl 1 (by decide) (hts (.fieldLink RX3 32 "ProducerBookModel" "count" "I") (mm aw_309)) (fun _ h9 => h9) rfl dX3_offers_76 ?_
                refine lv_istore (lv' := [(7, .int (nI n)), (0, .ref (h 20)), (1, .int (nI c9)), (2, .long pr), (4, .int ep), (5, .int sq), (6, .int (nI a))]) hx hb dX3_offers_79 hl (by decide) rfl (fun ls hl => ?_)
                refine lv_iload hx hb dX3_offers_81 (lv_at hl 5 rfl) ?_
                refine lv_istore (lv' := [(8, .int sq), (7, .int (nI n)), (0, .ref (h 20)), (1, .int (nI c9)), (2, .long pr), (4, .int ep), (5, .int sq), (6, .int (nI a))]) hx hb dX3_offers_83 hl (by decide) rfl (fun ls hl => ?_)
                refine lv_iconst (v := nI 0) hx hb dX3_offers_85 (by decide +kernel) ?_
                refine lv_istore (lv' := [(9, .int (nI 0)), (8, .int sq), (7, .int (nI n)), (0, .ref (h 20)), (1, .int (nI c9)), (2, .long pr), (4, .int ep), (5, .int sq), (6, .int (nI a))]) hx hb dX3_offers_86 hl (by decide) rfl (fun ls hl => ?_)
                have lp88 : ∀ (fuel : Nat) (i : Nat) (s2 : Int32) (B2 : Nat → Int32) (P2 : Nat → Int64) (E2 : Nat → Int32) (S2 : Nat → Int32) (L2 : Nat → Int32) (n2 : Nat) (ed2 : Nat) (H : Heap) (locs : List Loc) (ls : Array Slot), (i ≤ c9) → (pb_it (fun z => if pr < 0 then -1 else pb_nx z (nI a)) pr ep a (B, P, E, S, L, n, ed) sq i = ((B2, P2, E2, S2, L2, n2, ed2), s2)) → (n ≤ n2) → (n2 ≤ n + i) → (ed2 ≤ ed + i * (a + 1)) → (pb_MI B2 P2 S2 L2 n2) → (pr < 0 ∨ ¬ s2 < 0) → c9 - i < fuel → va_P (dC, dI) classes (wMo cI cJ h B2 P2 E2 S2 L2 (nI 0) (nI n2) (nI ed2)) H → va_D A (wMo cI cJ h B2 P2 E2 S2 L2 (nI 0) (nI n2) (nI ed2)) → va_S A s.heap H locs → lv_has ls 10 [(0, .ref (h 20)), (1, .int (nI c9)), (2, .long pr), (4, .int ep), (5, .int sq), (6, .int (nI a)), (7, .int (nI n)), (8, .int s2), (9, .int (nI i))] → W p l e ({ frames := 2, cells := 0, slots := 0, locals := 110 } : Room) s m ([.ref (h 20), .int x, .long pr, .int ep, .int sq, .int la] : List Value).toArray below meth c H locs 0 0 (MQ below (va_Qi (fun (r : Int32) (u : Int32 × Option pb_St) => match u.2 with | none => (¬ (¬ x < nI 1 ∧ ¬ nI 500 < x ∧ pb_leg pr ep sq la) ∧ u.1 = nI 1) ∨ ((¬ x < nI 1 ∧ ¬ nI 500 < x ∧ pb_leg pr ep sq la) ∧ u.1 = nI 2 ∧ ∃ c9 a : Nat, x = nI c9 ∧ c9 ≤ 500 ∧ la = nI a ∧ a ≤ 999 ∧ ¬ (n + c9 ≤ 2000 ∧ ed + c9 * (a + 1) ≤ 1000000)) | some y => pb_leg pr ep sq la ∧ u.1 = nI 0 ∧ ∃ c9 a : Nat, x = nI c9 ∧ 1 ≤ c9 ∧ c9 ≤ 500 ∧ la = nI a ∧ a ≤ 999 ∧ (n + c9 ≤ 2000 ∧ ed + c9 * (a + 1) ≤ 1000000) ∧ (pb_it (fun z => if pr < 0 then -1 else pb_nx z (nI a)) pr ep a (B, P, E, S, L, n, ed) sq c9).1 = y ∧ r = nI (y.2.2.2.2.2.1 - n) ∧ pb_MI y.1 y.2.1 y.2.2.2.1 y.2.2.2.2.1 y.2.2.2.2.2.1) (fun u => xB (dC, dI) classes [(cI, FieldType.int), (cJ, FieldType.long)] A ((fun (u : Int32 × Option pb_St) => match u.2 with | none => wMo cI cJ h B P E S L u.1 (nI n) (nI ed) | some y => wMo cI cJ h y.1 y.2.1 y.2.2.1 y.2.2.2.1 y.2.2.2.2.1 u.1 (nI y.2.2.2.2.2.1) (nI y.2.2.2.2.2.2)) u)) A) ([.ref (h 20), .int x, .long pr, .int ep, .int sq, .int la] : List Value).toArray s 0 0 A) (F0 m 88 ls []) := by
                  intro fuel
                  induction fuel with
                  | zero => intro i s2 B2 P2 E2 S2 L2 n2 ed2 H locs ls hi hst hn3 hn4 he4 hI2 hs2 hfuel; exact absurd hfuel (Nat.not_lt_zero _)
                  | succ fuel ih =>
                    intro i s2 B2 P2 E2 S2 L2 n2 ed2 H locs ls hi hst hn3 hn4 he4 hI2 hs2 hfuel hP hD hS hl
                    refine lv_iload hx hb dX3_offers_88 (lv_at hl 8 rfl) ?_
                    refine lv_iload_n hx hb dX3_offers_90 rfl (lv_at hl 1 rfl) ?_
                    refine lv_icmp_ge (tgt := 145) hx hb dX3_offers_91 (by decide) (fun c_91 => ?_) (fun c_91 => ?_)
                    · have d1 := (nI_leI (by omega) (by omega)).mp c_91
                      have ei : i = c9 := by omega
                      refine lv_aload_n hx hb dX3_offers_145 rfl (lv_at hl 0 rfl) ?_
                      refine va_get (D := (dC, dI)) (ci := 3) (v := .int (nI n2)) (C := RX3) (T := TX3) (N := 8) hx hb hts (fun w9 h9 => mm (inX3 w9 h9)) hown hK hP 0 rfl rfl 1 (by decide) (hts (.fieldLink RX3 32 "ProducerBookModel" "count" "I") (mm aw_309)) (fun _ h9 => h9) rfl dX3_offers_146 ?_
                      refine lv_iload hx hb dX3_offers_149 (lv_at hl 6 rfl) ?_
                      refine lv_isub hx hb dX3_offers_151 ?_
                      refine xh_topi (z := nI (n2 - n)) (pk_sub hn3) ?_
                      exact xh_iret hx hb hr ((nI 0, some (B2, P2, E2, S2, L2, n2, ed2))) (⟨hleg, rfl, c9, a, ec, hc1, hc2, ela, ha, ⟨c1, c2⟩, by rw [← ei, hst], rfl, hI2⟩) hP hK hD hS dX3_offers_152 hlocks
                    · have d1 : i < c9 := Nat.lt_of_not_le fun g => c_91 ((nI_leI (by omega) (by omega)).mpr g)
                      have hm : (i + 1) * (a + 1) = i * (a + 1) + (a + 1) := Nat.succ_mul i (a + 1)
                      have hm2 : (i + 1) * (a + 1) ≤ c9 * (a + 1) := Nat.mul_le_mul_right _ d1
                      refine lv_aload_n hx hb dX3_offers_94 rfl (lv_at hl 0 rfl) ?_
                      refine lv_lload_n hx hb dX3_offers_95 rfl (lv_at hl 2 rfl) ?_
                      refine lv_iload hx hb dX3_offers_96 (lv_at hl 3 rfl) ?_
                      refine lv_iload hx hb dX3_offers_98 (lv_at hl 7 rfl) ?_
                      refine lv_iload hx hb dX3_offers_100 (lv_at hl 5 rfl) ?_
                      refine xh_calli (wc := wMo cI cJ h B2 P2 E2 S2 L2 (nI 0) (nI n2) (nI ed2)) (wr := []) (w1 := fun (u : Unit) => wMo cI cJ h B2 P2 E2 S2 L2 (nI 0) (nI n2) (nI ed2)) hP hD hS hA [0, 1, 2, 3, 4, 5] [] rfl rfl (by decide) (by decide) (va_runV (As := [.long pr, .int ep, .int s2, .int (nI a)]) (rest := []) ⟨hx, hb, hml, hown, hts⟩ (m_judged l dC dI cI cJ h H.size B2 P2 E2 S2 L2 (nI 0) n2 ed2 pr ep s2 (nI a) (by omega) hI2 (pb_legp hleg)) (cwV 4 hts (aw_V aw_345 aw_347 aw_s5 aw_4 aw_348) rfl rfl rfl (by decide +kernel) ⟨Nat.le_of_ble_eq_true rfl, Nat.le_of_ble_eq_true rfl⟩) (xh_preV (r0 := 0) hK (hP.sub (ws' := wMo cI cJ h B2 P2 E2 S2 L2 (nI 0) (nI n2) (nI ed2)) [0, 1, 2, 3, 4, 5] rfl) (hD.sub (ws' := wMo cI cJ h B2 P2 E2 S2 L2 (nI 0) (nI n2) (nI ed2)) [0, 1, 2, 3, 4, 5] (by decide) rfl) rfl rfl rfl) rfl rfl hl.1 rfl (lv_room (Nat.le_of_ble_eq_true rfl)) dX3_offers_102 ⟨Nat.le_of_ble_eq_true rfl, Nat.le_of_ble_eq_true rfl⟩) (fun r_2 u H locs hw hP hD hS => ?_)
                      have hP : va_P (dC, dI) classes (wMo cI cJ h B2 P2 E2 S2 L2 (nI 0) (nI n2) (nI ed2)) H := hP
                      have hD : va_D A (wMo cI cJ h B2 P2 E2 S2 L2 (nI 0) (nI n2) (nI ed2)) := hD
                      refine xh_topi (z := pb_ans B2 E2 S2 L2 (pb_kc P2 n2 pr) (pb_ix P2 pr n2) ep s2 (nI a)) (hw) ?_
                      refine lv_iconst (v := (-1)) hx hb dX3_offers_105 (by decide +kernel) ?_
                      refine lv_icmp_ne (tgt := 120) hx hb dX3_offers_106 (by decide) (fun c_106 => ?_) (fun c_106 => ?_)
                      · refine lv_lload_n hx hb dX3_offers_120 rfl (lv_at hl 2 rfl) ?_
                        refine lv_lconst (v := 0) hx hb dX3_offers_121 (by decide) ?_
                        refine W.lcmp hx hb dX3_offers_122 ?_
                        refine lv_if_ge (tgt := 130) hx hb dX3_offers_123 (by decide) (fun c_123 => ?_) (fun c_123 => ?_)
                        · have cQ : ¬ pr < 0 := Int64.not_lt.mpr ((lg_cmp_ge _ _).mp c_123)
                          refine lv_iload hx hb dX3_offers_130 (lv_at hl 7 rfl) ?_
                          refine lv_iload hx hb dX3_offers_132 (lv_at hl 5 rfl) ?_
                          refine xh_calli (wc := []) (wr := wMo cI cJ h B2 P2 E2 S2 L2 (nI 0) (nI n2) (nI ed2)) (w1 := fun (u : Unit) => []) hP hD hS hA [] [0, 1, 2, 3, 4, 5] rfl rfl (by decide) (by decide) (va_runS (As := [.int s2, .int (nI a)]) (rest := []) ⟨hx, hb, hml, hown, hts⟩ (m_after l dC dI cI cJ h H.size s2 (nI a) (hs2.elim (fun k => absurd k cQ) id) (nI_pos (by omega)) (nI_le ha (by decide))) (cwS 2 hts (aw_S aw_353 aw_354 aw_4 aw_355) rfl rfl rfl (by decide +kernel) ⟨Nat.le_of_ble_eq_true rfl, Nat.le_of_ble_eq_true rfl⟩) (xh_preS hK (hP.sub (ws' := []) [] rfl) (hD.sub (ws' := []) [] (by decide) rfl)) rfl rfl hl.1 rfl (lv_room (Nat.le_of_ble_eq_true rfl)) dX3_offers_134 ⟨Nat.le_of_ble_eq_true rfl, Nat.le_of_ble_eq_true rfl⟩) (fun r_3 u H locs hw hP hD hS => ?_)
                          have hP : va_P (dC, dI) classes (wMo cI cJ h B2 P2 E2 S2 L2 (nI 0) (nI n2) (nI ed2)) H := hP
                          have hD : va_D A (wMo cI cJ h B2 P2 E2 S2 L2 (nI 0) (nI n2) (nI ed2)) := hD
                          refine xh_topi (z := pb_nx s2 (nI a)) (hw) ?_
                          refine xh_topi (z := (if pr < 0 then -1 else pb_nx s2 (nI a))) ((if_neg cQ).symm) ?_
                          refine lv_istore (lv' := [(8, .int (if pr < 0 then -1 else pb_nx s2 (nI a))), (0, .ref (h 20)), (1, .int (nI c9)), (2, .long pr), (4, .int ep), (5, .int sq), (6, .int (nI a)), (7, .int (nI n)), (9, .int (nI i))]) hx hb dX3_offers_137 hl (by decide) rfl (fun ls hl => ?_)
                          refine lv_iinc (v := nI (i + 1)) (lv' := [(9, .int (nI (i + 1))), (8, .int (if pr < 0 then -1 else pb_nx s2 (nI a))), (0, .ref (h 20)), (1, .int (nI c9)), (2, .long pr), (4, .int ep), (5, .int sq), (6, .int (nI a)), (7, .int (nI n))]) hx hb dX3_offers_139 hl (k := 8) rfl (by exact nI_1 i) (by decide) rfl (fun ls hl => ?_)
                          refine lv_goto (tgt := 88) hx hb dX3_offers_142 (by decide) ?_
                          exact ih (i + 1) (if pr < 0 then -1 else pb_nx s2 (nI a)) B2 P2 E2 S2 L2 n2 ed2 _ _ _ (by omega) (pb_it_n hst c_106) hn3 (by omega) (by omega) hI2 (by rw [if_neg cQ]; exact Or.inr (pb_nx0 _ _)) (by omega) hP hD hS (lv_sub hl [2, 3, 4, 5, 6, 7, 8, 1, 0] rfl)
                        · have cQ : pr < 0 := Int64.not_le.mp fun g => c_123 ((lg_cmp_ge _ _).mpr g)
                          refine lv_iconst (v := (-1)) hx hb dX3_offers_126 (by decide +kernel) ?_
                          refine lv_goto (tgt := 137) hx hb dX3_offers_127 (by decide) ?_
                          refine xh_topi (z := (if pr < 0 then -1 else pb_nx s2 (nI a))) ((if_pos cQ).symm) ?_
                          refine lv_istore (lv' := [(8, .int (if pr < 0 then -1 else pb_nx s2 (nI a))), (0, .ref (h 20)), (1, .int (nI c9)), (2, .long pr), (4, .int ep), (5, .int sq), (6, .int (nI a)), (7, .int (nI n)), (9, .int (nI i))]) hx hb dX3_offers_137 hl (by decide) rfl (fun ls hl => ?_)
                          refine lv_iinc (v := nI (i + 1)) (lv' := [(9, .int (nI (i + 1))), (8, .int (if pr < 0 then -1 else pb_nx s2 (nI a))), (0, .ref (h 20)), (1, .int (nI c9)), (2, .long pr), (4, .int ep), (5, .int sq), (6, .int (nI a)), (7, .int (nI n))]) hx hb dX3_offers_139 hl (k := 8) rfl (by exact nI_1 i) (by decide) rfl (fun ls hl => ?_)
                          refine lv_goto (tgt := 88) hx hb dX3_offers_142 (by decide) ?_
                          exact ih (i + 1) (if pr < 0 then -1 else pb_nx s2 (nI a)) B2 P2 E2 S2 L2 n2 ed2 _ _ _ (by omega) (pb_it_n hst c_106) hn3 (by omega) (by omega) hI2 (Or.inl cQ) (by omega) hP hD hS (lv_sub hl [2, 3, 4, 5, 6, 7, 8, 1, 0] rfl)
                      · refine lv_aload_n hx hb dX3_offers_109 rfl (lv_at hl 0 rfl) ?_
                        refine lv_lload_n hx hb dX3_offers_110 rfl (lv_at hl 2 rfl) ?_
                        refine lv_iload hx hb dX3_offers_111 (lv_at hl 3 rfl) ?_
                        refine lv_iload hx hb dX3_offers_113 (lv_at hl 7 rfl) ?_
                        refine lv_iload hx hb dX3_offers_115 (lv_at hl 5 rfl) ?_
                        refine xh_callv (wc := wMo cI cJ h B2 P2 E2 S2 L2 (nI 0) (nI n2) (nI ed2)) (wr := []) (w1 := fun (u : Unit) => wMo cI cJ h (upd B2 n2 (nI ed2)) (vp_updL P2 n2 pr) (upd E2 n2 ep) (upd S2 n2 s2) (upd L2 n2 (nI a)) (nI 0) (nI (n2 + 1)) (nI (ed2 + (a + 1)))) hP hD hS hA [0, 1, 2, 3, 4, 5] [] rfl rfl (by decide) (by decide) (va_runV (As := [.long pr, .int ep, .int s2, .int (nI a)]) (rest := []) ⟨hx, hb, hml, hown, hts⟩ (m_come l dC dI cI cJ h H.size B2 P2 E2 S2 L2 (nI 0) n2 ed2 pr ep s2 a (by omega)) (cwV 4 hts (aw_V aw_358 aw_360 aw_s7 aw_4 aw_361) rfl rfl rfl (by decide +kernel) ⟨Nat.le_of_ble_eq_true rfl, Nat.le_of_ble_eq_true rfl⟩) (xh_preV (r0 := 0) hK (hP.sub (ws' := wMo cI cJ h B2 P2 E2 S2 L2 (nI 0) (nI n2) (nI ed2)) [0, 1, 2, 3, 4, 5] rfl) (hD.sub (ws' := wMo cI cJ h B2 P2 E2 S2 L2 (nI 0) (nI n2) (nI ed2)) [0, 1, 2, 3, 4, 5] (by decide) rfl) rfl rfl rfl) rfl rfl hl.1 rfl (lv_room (Nat.le_of_ble_eq_true rfl)) dX3_offers_117 ⟨Nat.le_of_ble_eq_true rfl, Nat.le_of_ble_eq_true rfl⟩) (fun  u H locs hw hP hD hS => ?_)
                        have hP : va_P (dC, dI) classes (wMo cI cJ h (upd B2 n2 (nI ed2)) (vp_updL P2 n2 pr) (upd E2 n2 ep) (upd S2 n2 s2) (upd L2 n2 (nI a)) (nI 0) (nI (n2 + 1)) (nI (ed2 + (a + 1)))) H := hP
                        have hD : va_D A (wMo cI cJ h (upd B2 n2 (nI ed2)) (vp_updL P2 n2 pr) (upd E2 n2 ep) (upd S2 n2 s2) (upd L2 n2 (nI a)) (nI 0) (nI (n2 + 1)) (nI (ed2 + (a + 1)))) := hD
                        refine lv_lload_n hx hb dX3_offers_120 rfl (lv_at hl 2 rfl) ?_
                        refine lv_lconst (v := 0) hx hb dX3_offers_121 (by decide) ?_
                        refine W.lcmp hx hb dX3_offers_122 ?_
                        refine lv_if_ge (tgt := 130) hx hb dX3_offers_123 (by decide) (fun c_123 => ?_) (fun c_123 => ?_)
                        · have cQ : ¬ pr < 0 := Int64.not_lt.mpr ((lg_cmp_ge _ _).mp c_123)
                          refine lv_iload hx hb dX3_offers_130 (lv_at hl 7 rfl) ?_
                          refine lv_iload hx hb dX3_offers_132 (lv_at hl 5 rfl) ?_
                          refine xh_calli (wc := []) (wr := wMo cI cJ h (upd B2 n2 (nI ed2)) (vp_updL P2 n2 pr) (upd E2 n2 ep) (upd S2 n2 s2) (upd L2 n2 (nI a)) (nI 0) (nI (n2 + 1)) (nI (ed2 + (a + 1)))) (w1 := fun (u : Unit) => []) hP hD hS hA [] [0, 1, 2, 3, 4, 5] rfl rfl (by decide) (by decide) (va_runS (As := [.int s2, .int (nI a)]) (rest := []) ⟨hx, hb, hml, hown, hts⟩ (m_after l dC dI cI cJ h H.size s2 (nI a) (hs2.elim (fun k => absurd k cQ) id) (nI_pos (by omega)) (nI_le ha (by decide))) (cwS 2 hts (aw_S aw_353 aw_354 aw_4 aw_355) rfl rfl rfl (by decide +kernel) ⟨Nat.le_of_ble_eq_true rfl, Nat.le_of_ble_eq_true rfl⟩) (xh_preS hK (hP.sub (ws' := []) [] rfl) (hD.sub (ws' := []) [] (by decide) rfl)) rfl rfl hl.1 rfl (lv_room (Nat.le_of_ble_eq_true rfl)) dX3_offers_134 ⟨Nat.le_of_ble_eq_true rfl, Nat.le_of_ble_eq_true rfl⟩) (fun r_4 u H locs hw hP hD hS => ?_)
                          have hP : va_P (dC, dI) classes (wMo cI cJ h (upd B2 n2 (nI ed2)) (vp_updL P2 n2 pr) (upd E2 n2 ep) (upd S2 n2 s2) (upd L2 n2 (nI a)) (nI 0) (nI (n2 + 1)) (nI (ed2 + (a + 1)))) H := hP
                          have hD : va_D A (wMo cI cJ h (upd B2 n2 (nI ed2)) (vp_updL P2 n2 pr) (upd E2 n2 ep) (upd S2 n2 s2) (upd L2 n2 (nI a)) (nI 0) (nI (n2 + 1)) (nI (ed2 + (a + 1)))) := hD
                          refine xh_topi (z := pb_nx s2 (nI a)) (hw) ?_
                          refine xh_topi (z := (if pr < 0 then -1 else pb_nx s2 (nI a))) ((if_neg cQ).symm) ?_
                          refine lv_istore (lv' := [(8, .int (if pr < 0 then -1 else pb_nx s2 (nI a))), (0, .ref (h 20)), (1, .int (nI c9)), (2, .long pr), (4, .int ep), (5, .int sq), (6, .int (nI a)), (7, .int (nI n)), (9, .int (nI i))]) hx hb dX3_offers_137 hl (by decide) rfl (fun ls hl => ?_)
                          refine lv_iinc (v := nI (i + 1)) (lv' := [(9, .int (nI (i + 1))), (8, .int (if pr < 0 then -1 else pb_nx s2 (nI a))), (0, .ref (h 20)), (1, .int (nI c9)), (2, .long pr), (4, .int ep), (5, .int sq), (6, .int (nI a)), (7, .int (nI n))]) hx hb dX3_offers_139 hl (k := 8) rfl (by exact nI_1 i) (by decide) rfl (fun ls hl => ?_)
                          refine lv_goto (tgt := 88) hx hb dX3_offers_142 (by decide) ?_
                          exact ih (i + 1) (if pr < 0 then -1 else pb_nx s2 (nI a)) (upd B2 n2 (nI ed2)) (vp_updL P2 n2 pr) (upd E2 n2 ep) (upd S2 n2 s2) (upd L2 n2 (nI a)) (n2 + 1) (ed2 + (a + 1)) _ _ _ (by omega) (pb_it_y hst c_106) (by omega) (by omega) (by omega) (pb_MI_y hI2 (by omega) ha (fun k => hs2.elim (fun z => absurd (pb_legp hleg) (fun q => q.elim k (fun q => q z))) id)) (by rw [if_neg cQ]; exact Or.inr (pb_nx0 _ _)) (by omega) hP hD hS (lv_sub hl [2, 3, 4, 5, 6, 7, 8, 1, 0] rfl)
                        · have cQ : pr < 0 := Int64.not_le.mp fun g => c_123 ((lg_cmp_ge _ _).mpr g)
                          refine lv_iconst (v := (-1)) hx hb dX3_offers_126 (by decide +kernel) ?_
                          refine lv_goto (tgt := 137) hx hb dX3_offers_127 (by decide) ?_
                          refine xh_topi (z := (if pr < 0 then -1 else pb_nx s2 (nI a))) ((if_pos cQ).symm) ?_
                          refine lv_istore (lv' := [(8, .int (if pr < 0 then -1 else pb_nx s2 (nI a))), (0, .ref (h 20)), (1, .int (nI c9)), (2, .long pr), (4, .int ep), (5, .int sq), (6, .int (nI a)), (7, .int (nI n)), (9, .int (nI i))]) hx hb dX3_offers_137 hl (by decide) rfl (fun ls hl => ?_)
                          refine lv_iinc (v := nI (i + 1)) (lv' := [(9, .int (nI (i + 1))), (8, .int (if pr < 0 then -1 else pb_nx s2 (nI a))), (0, .ref (h 20)), (1, .int (nI c9)), (2, .long pr), (4, .int ep), (5, .int sq), (6, .int (nI a)), (7, .int (nI n))]) hx hb dX3_offers_139 hl (k := 8) rfl (by exact nI_1 i) (by decide) rfl (fun ls hl => ?_)
                          refine lv_goto (tgt := 88) hx hb dX3_offers_142 (by decide) ?_
                          exact ih (i + 1) (if pr < 0 then -1 else pb_nx s2 (nI a)) (upd B2 n2 (nI ed2)) (vp_updL P2 n2 pr) (upd E2 n2 ep) (upd S2 n2 s2) (upd L2 n2 (nI a)) (n2 + 1) (ed2 + (a + 1)) _ _ _ (by omega) (pb_it_y hst c_106) (by omega) (by omega) (by omega) (pb_MI_y hI2 (by omega) ha (fun k => hs2.elim (fun z => absurd (pb_legp hleg) (fun q => q.elim k (fun q => q z))) id)) (Or.inl cQ) (by omega) hP hD hS (lv_sub hl [2, 3, 4, 5, 6, 7, 8, 1, 0] rfl)
                exact lp88 (c9 + 1) 0 sq B P E S L n ed _ _ _ (Nat.zero_le _) rfl (Nat.le_refl n) (by omega) (by omega) hI (pb_legs hleg) (by omega) hP hD hS (lv_sub hl [3, 4, 5, 6, 7, 8, 2, 1, 0] rfl)
              · exact absurd (show nI 0 ≤ 0 by decide) c_70
            · have c2 : 1000000 < ed + c9 * (a + 1) := Nat.lt_of_not_le fun g => c_55 ((nI_leI (by omega) (by decide)).mpr g)
              refine lv_iconst (v := nI 2) hx hb dX3_offers_58 (by decide +kernel) ?_
              refine lv_goto (tgt := 63) hx hb dX3_offers_59 (by decide) ?_
              refine va_put (D := (dC, dI)) (ci := 3) (v := .int (nI 2)) (ty := .int) (C := RX3) (T := TX3) (N := 8) hx hb hts (fun w9 h9 => mm (inX3 w9 h9)) tyX3 tyX3_ok nX3 hown hK hP hD hS 0 rfl rfl 0 (by decide) (hts (.fieldLink RX3 26 "ProducerBookModel" "code" "I") (mm aw_308)) (fun _ h9 => h9) rfl (by decide +kernel) rfl rfl (Nat.le_of_ble_eq_true rfl) dX3_offers_63 (fun H locs hP hD hS => ?_)
              have hP : va_P (dC, dI) classes (wMo cI cJ h B P E S L (nI 2) (nI n) (nI ed)) H := hP
              have hD : va_D A (wMo cI cJ h B P E S L (nI 2) (nI n) (nI ed)) := hD
              refine lv_aload_n hx hb dX3_offers_66 rfl (lv_at hl 0 rfl) ?_
              refine va_get (D := (dC, dI)) (ci := 3) (v := .int (nI 2)) (C := RX3) (T := TX3) (N := 8) hx hb hts (fun w9 h9 => mm (inX3 w9 h9)) hown hK hP 0 rfl rfl 0 (by decide) (hts (.fieldLink RX3 26 "ProducerBookModel" "code" "I") (mm aw_308)) (fun _ h9 => h9) rfl dX3_offers_67 ?_
              refine lv_if_le (tgt := 75) hx hb dX3_offers_70 (by decide) (fun c_70 => ?_) (fun c_70 => ?_)
              · exact absurd c_70 (by decide)
              · refine lv_iconst (v := nI 0) hx hb dX3_offers_73 (by decide +kernel) ?_
                exact xh_iret hx hb hr ((nI 2, none)) (Or.inr ⟨⟨c_16, Int32.not_lt.mpr c_23, hleg⟩, rfl, c9, a, ec, hc2, ela, ha, fun g => absurd g.2 (by omega)⟩) hP hK hD hS dX3_offers_74 hlocks
        · refine lv_iconst (v := nI 1) hx hb dX3_offers_26 (by decide +kernel) ?_
          refine lv_goto (tgt := 63) hx hb dX3_offers_27 (by decide) ?_
          refine va_put (D := (dC, dI)) (ci := 3) (v := .int (nI 1)) (ty := .int) (C := RX3) (T := TX3) (N := 8) hx hb hts (fun w9 h9 => mm (inX3 w9 h9)) tyX3 tyX3_ok nX3 hown hK hP hD hS 0 rfl rfl 0 (by decide) (hts (.fieldLink RX3 26 "ProducerBookModel" "code" "I") (mm aw_308)) (fun _ h9 => h9) rfl (by decide +kernel) rfl rfl (Nat.le_of_ble_eq_true rfl) dX3_offers_63 (fun H locs hP hD hS => ?_)
          have hP : va_P (dC, dI) classes (wMo cI cJ h B P E S L (nI 1) (nI n) (nI ed)) H := hP
          have hD : va_D A (wMo cI cJ h B P E S L (nI 1) (nI n) (nI ed)) := hD
          refine lv_aload_n hx hb dX3_offers_66 rfl (lv_at hl 0 rfl) ?_
          refine va_get (D := (dC, dI)) (ci := 3) (v := .int (nI 1)) (C := RX3) (T := TX3) (N := 8) hx hb hts (fun w9 h9 => mm (inX3 w9 h9)) hown hK hP 0 rfl rfl 0 (by decide) (hts (.fieldLink RX3 26 "ProducerBookModel" "code" "I") (mm aw_308)) (fun _ h9 => h9) rfl dX3_offers_67 ?_
          refine lv_if_le (tgt := 75) hx hb dX3_offers_70 (by decide) (fun c_70 => ?_) (fun c_70 => ?_)
          · exact absurd c_70 (by decide)
          · refine lv_iconst (v := nI 0) hx hb dX3_offers_73 (by decide +kernel) ?_
            exact xh_iret hx hb hr ((nI 1, none)) (Or.inl ⟨fun g => c_23 (Int32.not_lt.mp g.2.1), rfl⟩) hP hK hD hS dX3_offers_74 hlocks
  · have hnl := hleg
    refine lv_if_eq (tgt := 26) hx hb dX3_offers_11 (by decide) (fun c_11 => ?_) (fun c_11 => ?_)
    · refine lv_iconst (v := nI 1) hx hb dX3_offers_26 (by decide +kernel) ?_
      refine lv_goto (tgt := 63) hx hb dX3_offers_27 (by decide) ?_
      refine va_put (D := (dC, dI)) (ci := 3) (v := .int (nI 1)) (ty := .int) (C := RX3) (T := TX3) (N := 8) hx hb hts (fun w9 h9 => mm (inX3 w9 h9)) tyX3 tyX3_ok nX3 hown hK hP hD hS 0 rfl rfl 0 (by decide) (hts (.fieldLink RX3 26 "ProducerBookModel" "code" "I") (mm aw_308)) (fun _ h9 => h9) rfl (by decide +kernel) rfl rfl (Nat.le_of_ble_eq_true rfl) dX3_offers_63 (fun H locs hP hD hS => ?_)
      have hP : va_P (dC, dI) classes (wMo cI cJ h B P E S L (nI 1) (nI n) (nI ed)) H := hP
      have hD : va_D A (wMo cI cJ h B P E S L (nI 1) (nI n) (nI ed)) := hD
      refine lv_aload_n hx hb dX3_offers_66 rfl (lv_at hl 0 rfl) ?_
      refine va_get (D := (dC, dI)) (ci := 3) (v := .int (nI 1)) (C := RX3) (T := TX3) (N := 8) hx hb hts (fun w9 h9 => mm (inX3 w9 h9)) hown hK hP 0 rfl rfl 0 (by decide) (hts (.fieldLink RX3 26 "ProducerBookModel" "code" "I") (mm aw_308)) (fun _ h9 => h9) rfl dX3_offers_67 ?_
      refine lv_if_le (tgt := 75) hx hb dX3_offers_70 (by decide) (fun c_70 => ?_) (fun c_70 => ?_)
      · exact absurd c_70 (by decide)
      · refine lv_iconst (v := nI 0) hx hb dX3_offers_73 (by decide +kernel) ?_
        exact xh_iret hx hb hr ((nI 1, none)) (Or.inl ⟨fun g => hnl g.2.2, rfl⟩) hP hK hD hS dX3_offers_74 hlocks
    · exact absurd (show nI 0 = 0 by decide) c_11
