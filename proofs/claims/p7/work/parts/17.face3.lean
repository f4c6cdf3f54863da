set_option maxHeartbeats 4000000 in
set_option maxRecDepth 100000 in
/-- offers -/
theorem c_PB_offers (l : Launch) (dC : Nat → ClassId) (dI : Nat → Nat → Nat) (cI cJ : ClassId) (h : Nat → Nat) (sz : Nat) (B : Nat → Int32) (P : Nat → Int64) (E S L N : Nat → Int32) (n ed : Nat) (Fz : Nat → Int32) (kn0 : Int32) (x : Int32) (pr : Int64) (ep sq la : Int32) (hl0 : l.stackTraces = false) (hn : n ≤ 2000) (hed : ed ≤ 1000000) (hN : ∀ k, k < n → N k = nI (pb_nv P n k)) : vx_Met l yX2_offers wsX2_offers ({ frames := 6, cells := 1, slots := 6, locals := 200 } : Room) (va_Pc [.ref (h 0), .int x, .long pr, .int ep, .int sq, .int la] (fun U => xP (dC, dI) classes [(cI, FieldType.int), (cJ, FieldType.long)] (wPB h ++ wLog cI cJ h B P E S L N (nI n) (nI ed) ++ wKn cI h kn0 Fz) sz U ∧ xX (va_A (wPB h ++ wLog cI cJ h B P E S L N (nI n) (nI ed) ++ wKn cI h kn0 Fz) sz) U)) (va_Qi (fun (r : Int32) (u : pb_St × (Nat → Int32) × Int32 × (Nat → Int32)) => pb_leg pr ep sq la ∧ ∃ c9 a : Nat, x = nI c9 ∧ 1 ≤ c9 ∧ c9 ≤ 500 ∧ la = nI a ∧ a ≤ 999 ∧ (n + c9 ≤ 2000 ∧ ed + c9 * (a + 1) ≤ 1000000) ∧ (pb_it (fun z => pb_nx z (nI a)) pr ep a (B, P, E, S, L, n, ed) sq c9).1 = u.1 ∧ r = nI (u.1.2.2.2.2.2.1 - n) ∧ (n ≤ u.1.2.2.2.2.2.1 ∧ u.1.2.2.2.2.2.1 ≤ 2000 ∧ u.1.2.2.2.2.2.2 ≤ 1000000) ∧ ∀ k, k < u.1.2.2.2.2.2.1 → u.2.1 k = nI (pb_nv u.1.2.1 u.1.2.2.2.2.2.1 k)) (fun u => xB (dC, dI) classes [(cI, FieldType.int), (cJ, FieldType.long)] (va_A (wPB h ++ wLog cI cJ h B P E S L N (nI n) (nI ed) ++ wKn cI h kn0 Fz) sz) ((fun (u : pb_St × (Nat → Int32) × Int32 × (Nat → Int32)) => wPB h ++ wLog cI cJ h u.1.1 u.1.2.1 u.1.2.2.1 u.1.2.2.2.1 u.1.2.2.2.2.1 u.2.1 (nI u.1.2.2.2.2.2.1) (nI u.1.2.2.2.2.2.2) ++ wKn cI h u.2.2.1 u.2.2.2) u)) (va_A (wPB h ++ wLog cI cJ h B P E S L N (nI n) (nI ed) ++ wKn cI h kn0 Fz) sz)) (xXC (dC, dI) classes [(cI, FieldType.int), (cJ, FieldType.long)] (va_A (wPB h ++ wLog cI cJ h B P E S L N (nI n) (nI ed) ++ wKn cI h kn0 Fz) sz) (fun (E9 : String) (_ : Unit) => (E9 = xIA ∧ ¬ (¬ x < nI 1 ∧ ¬ nI 500 < x ∧ pb_leg pr ep sq la)) ∨ (E9 = xIS ∧ (¬ x < nI 1 ∧ ¬ nI 500 < x ∧ pb_leg pr ep sq la) ∧ ∃ c9 a : Nat, x = nI c9 ∧ c9 ≤ 500 ∧ la = nI a ∧ a ≤ 999 ∧ ¬ (n + c9 ≤ 2000 ∧ ed + c9 * (a + 1) ≤ 1000000))) (fun (_ : Unit) => wPB h ++ wLog cI cJ h B P E S L N (nI n) (nI ed) ++ wKn cI h kn0 Fz)) 1 6 (va_A (wPB h ++ wLog cI cJ h B P E S L N (nI n) (nI ed) ++ wKn cI h kn0 Fz) sz) := by
  refine vx_ofW (cc := cX2_offers) (maxL := 10) (ret := (some .int)) (by decide) rfl ?_
  intro p e s m args below meth c s₁ BB hml hnt hv
  obtain ⟨rfl, ⟨hsz, hP, hK, hD0⟩, hX⟩ := hv
  have hx := BB.exec
  have hb := BB.bytes
  have hr := BB.returns
  have hts := atoms_spec (ws := wsX2_offers) BB.pre
  have hown : s.vm.findClass RX2 = some m.cls := findClass_of_methodNamed BB.named
  have hlocks := BB.notSynchronized
  subst hsz
  have hD := hD0.self (sz := s.heap.size)
  generalize hAe : va_A (wPB h ++ wLog cI cJ h B P E S L N (nI n) (nI ed) ++ wKn cI h kn0 Fz) s.heap.size = A at hD hX ⊢
  have hA : ∀ q : Nat, s.heap.size ≤ q → A q := fun q h => by rw [← hAe]; exact Or.inr h
  have hS : va_S A s.heap s.heap [] := va_S.rf
  have hl := lv_entry ([.ref (h 0), .int x, .long pr, .int ep, .int sq, .int la]) (n := 10) (Nat.le_of_ble_eq_true rfl)
  rw [lg_entry_eq]
  generalize (lg_sl ([.ref (h 0), .int x, .long pr, .int ep, .int sq, .int la]) ++ List.replicate (10 - (lg_sl ([.ref (h 0), .int x, .long pr, .int ep, .int sq, .int la])).length) Slot.unset).toArray = ls at hl ⊢
  have hl : lv_has ls 10 [(0, .ref (h 0)), (1, .int x), (2, .long pr), (4, .int ep), (5, .int sq), (6, .int la)] := hl
  have hP : va_P (dC, dI) classes (wPB h ++ wLog cI cJ h B P E S L N (nI n) (nI ed) ++ wKn cI h kn0 Fz) s.heap := hP
  refine lv_iload_n hx hb dX2_offers_0 rfl (lv_at hl 1 rfl) ?_
  refine lv_iconst (v := nI 1) hx hb dX2_offers_1 (by decide +kernel) ?_
  refine lv_icmp_lt (tgt := 25) hx hb dX2_offers_2 (by decide) (fun c_2 => ?_) (fun c_2 => ?_)
  · exact xh_thrA hx hb hl0 hts hown hX (is := 47) (text := "a number of the batches is out of its bounds") (by decide +kernel) hS (hl.1.trans hml.symm) dX2_offers_25 dX2_offers_28 dX2_offers_29 dX2_offers_31 dX2_offers_34 hnt (Nat.le_of_ble_eq_true rfl) (Nat.le_of_ble_eq_true rfl) (Nat.le_of_ble_eq_true rfl) (Nat.le_of_ble_eq_true rfl) hlocks (fun t hvm hz hq => ⟨(), trivial, ⟨Or.inl ⟨rfl, fun g => g.1 c_2⟩, (xh_xc hP hK hD hS hvm hz hq).1⟩, (xh_xc hP hK hD hS hvm hz hq).2⟩) hS.2.2 (Nat.le_of_ble_eq_true rfl) (Nat.le_of_ble_eq_true rfl)
  · refine lv_iload_n hx hb dX2_offers_5 rfl (lv_at hl 1 rfl) ?_
    refine lv_sipush (v := nI 500) hx hb dX2_offers_6 (by decide +kernel) ?_
    refine lv_icmp_gt (tgt := 25) hx hb dX2_offers_9 (by decide) (fun c_9 => ?_) (fun c_9 => ?_)
    · exact xh_thrA hx hb hl0 hts hown hX (is := 47) (text := "a number of the batches is out of its bounds") (by decide +kernel) hS (hl.1.trans hml.symm) dX2_offers_25 dX2_offers_28 dX2_offers_29 dX2_offers_31 dX2_offers_34 hnt (Nat.le_of_ble_eq_true rfl) (Nat.le_of_ble_eq_true rfl) (Nat.le_of_ble_eq_true rfl) (Nat.le_of_ble_eq_true rfl) hlocks (fun t hvm hz hq => ⟨(), trivial, ⟨Or.inl ⟨rfl, fun g => g.2.1 c_9⟩, (xh_xc hP hK hD hS hvm hz hq).1⟩, (xh_xc hP hK hD hS hvm hz hq).2⟩) hS.2.2 (Nat.le_of_ble_eq_true rfl) (Nat.le_of_ble_eq_true rfl)
    · refine lv_lload_n hx hb dX2_offers_12 rfl (lv_at hl 2 rfl) ?_
      refine lv_iload hx hb dX2_offers_13 (lv_at hl 3 rfl) ?_
      refine lv_iload hx hb dX2_offers_15 (lv_at hl 4 rfl) ?_
      refine lv_iload hx hb dX2_offers_17 (lv_at hl 5 rfl) ?_
      refine xh_calli (wc := []) (wr := wPB h ++ wLog cI cJ h B P E S L N (nI n) (nI ed) ++ wKn cI h kn0 Fz) (w1 := fun (u : Unit) => []) hP hD hS hA [] [0, 1, 2, 3, 4, 5, 6, 7, 8, 9] rfl rfl (by decide) (by decide) (va_runS (As := [.long pr, .int ep, .int sq, .int la]) (rest := []) ⟨hx, hb, hml, hown, hts⟩ (c_PB_isLegal l dC dI cI cJ h s.heap.size pr ep sq la) (cwS 4 hts (aw_S aw_111 aw_112 aw_1 aw_113) rfl rfl rfl (by decide +kernel) ⟨Nat.le_of_ble_eq_true rfl, Nat.le_of_ble_eq_true rfl⟩) (xh_preS hK (hP.sub (ws' := []) [] rfl) (hD.sub (ws' := []) [] (by decide) rfl)) rfl rfl hl.1 rfl (lv_room (Nat.le_of_ble_eq_true rfl)) dX2_offers_19 ⟨Nat.le_of_ble_eq_true rfl, Nat.le_of_ble_eq_true rfl⟩) (fun r_1 u H locs hw hP hD hS => ?_)
      have hP : va_P (dC, dI) classes (wPB h ++ wLog cI cJ h B P E S L N (nI n) (nI ed) ++ wKn cI h kn0 Fz) H := hP
      have hD : va_D A (wPB h ++ wLog cI cJ h B P E S L N (nI n) (nI ed) ++ wKn cI h kn0 Fz) := hD
      rcases hw with ⟨hleg, rfl⟩ | ⟨hleg, rfl⟩
      · obtain ⟨a, ha, ela⟩ := nI_of2 (M := nI 999) (n := 999) (by decide) hleg.1 hleg.2.1
        obtain ⟨c9, hc1, hc2, ec⟩ := pb_of500 c_2 c_9
        rw [ela] at hl
        rw [ec] at hl
        refine lv_if_ne (tgt := 35) hx hb dX2_offers_22 (by decide) (fun c_22 => ?_) (fun c_22 => ?_)
        · refine lv_aload_n hx hb dX2_offers_35 rfl (lv_at hl 0 rfl) ?_
          refine va_get (D := (dC, dI)) (ci := 2) (v := .ref (h 1)) (C := RX2) (T := TX2) (N := 2) hx hb hts (fun w9 h9 => mm (inX2 w9 h9)) hown hK hP 0 rfl rfl 0 (by decide) (hts (.fieldLink RX2 10 "ProducerBook" "log" "LProducerBook$Log;") (mm aw_76)) (fun _ h9 => h9) rfl dX2_offers_36 ?_
          refine lv_iload_n hx hb dX2_offers_39 rfl (lv_at hl 1 rfl) ?_
          refine lv_iload hx hb dX2_offers_40 (lv_at hl 5 rfl) ?_
          refine xh_calli (wc := wLog cI cJ h B P E S L N (nI n) (nI ed)) (wr := wPB h ++ wKn cI h kn0 Fz) (w1 := fun (u : Unit) => wLog cI cJ h B P E S L N (nI n) (nI ed)) hP hD hS hA [1, 2, 3, 4, 5, 6, 7] [0, 8, 9] rfl rfl (by decide) (by decide) (va_runV (As := [.int (nI c9), .int (nI a)]) (rest := []) ⟨hx, hb, hml, hown, hts⟩ (c_Log_hasRoom l dC dI cI cJ h H.size B P E S L N n ed c9 a hn hed hc2 ha) (cwV 2 hts (aw_V aw_252 aw_215 aw_216 aw_2 aw_217) rfl rfl rfl (by decide +kernel) ⟨Nat.le_of_ble_eq_true rfl, Nat.le_of_ble_eq_true rfl⟩) (xh_preV (r0 := 0) hK (hP.sub (ws' := wLog cI cJ h B P E S L N (nI n) (nI ed)) [1, 2, 3, 4, 5, 6, 7] rfl) (hD.sub (ws' := wLog cI cJ h B P E S L N (nI n) (nI ed)) [1, 2, 3, 4, 5, 6, 7] (by decide) rfl) rfl rfl rfl) rfl rfl hl.1 rfl (lv_room (Nat.le_of_ble_eq_true rfl)) dX2_offers_42 ⟨Nat.le_of_ble_eq_true rfl, Nat.le_of_ble_eq_true rfl⟩) (fun r_2 u H locs hw hP hD hS => ?_)
          have hP := hP.sub (ws' := wPB h ++ wLog cI cJ h B P E S L N (nI n) (nI ed) ++ wKn cI h kn0 Fz) [0, 3, 4, 5, 6, 7, 8, 9, 1, 2] rfl
          have hD := hD.sub (ws' := wPB h ++ wLog cI cJ h B P E S L N (nI n) (nI ed) ++ wKn cI h kn0 Fz) [0, 3, 4, 5, 6, 7, 8, 9, 1, 2] (by decide) rfl
          have hP : va_P (dC, dI) classes (wPB h ++ wLog cI cJ h B P E S L N (nI n) (nI ed) ++ wKn cI h kn0 Fz) H := hP
          have hD : va_D A (wPB h ++ wLog cI cJ h B P E S L N (nI n) (nI ed) ++ wKn cI h kn0 Fz) := hD
          rcases hw with ⟨hk5, rfl⟩ | ⟨hk5, rfl⟩
          · obtain ⟨hr1, hr2⟩ := hk5
            refine lv_if_ne (tgt := 58) hx hb dX2_offers_45 (by decide) (fun c_45 => ?_) (fun c_45 => ?_)
            · refine lv_aload_n hx hb dX2_offers_58 rfl (lv_at hl 0 rfl) ?_
              refine va_get (D := (dC, dI)) (ci := 2) (v := .ref (h 1)) (C := RX2) (T := TX2) (N := 2) hx hb hts (fun w9 h9 => mm (inX2 w9 h9)) hown hK hP 0 rfl rfl 0 (by decide) (hts (.fieldLink RX2 10 "ProducerBook" "log" "LProducerBook$Log;") (mm aw_76)) (fun _ h9 => h9) rfl dX2_offers_59 ?_
              refine lv_lload_n hx hb dX2_offers_62 rfl (lv_at hl 2 rfl) ?_
              refine lv_aload_n hx hb dX2_offers_63 rfl (lv_at hl 0 rfl) ?_
              refine va_get (D := (dC, dI)) (ci := 2) (v := .ref (h 8)) (C := RX2) (T := TX2) (N := 2) hx hb hts (fun w9 h9 => mm (inX2 w9 h9)) hown hK hP 0 rfl rfl 1 (by decide) (hts (.fieldLink RX2 19 "ProducerBook" "recalled" "LProducerBook$Known;") (mm aw_77)) (fun _ h9 => h9) rfl dX2_offers_64 ?_
              refine xh_callv (wc := wLog cI cJ h B P E S L N (nI n) (nI ed) ++ wKn cI h kn0 Fz) (wr := wPB h) (w1 := fun (F1 : Nat → Int32) => wLog cI cJ h B P E S L N (nI n) (nI ed) ++ wKn cI h (nI (pb_kc P n pr)) F1) hP hD hS hA [1, 2, 3, 4, 5, 6, 7, 8, 9] [0] rfl rfl (by decide) (by decide) (va_runV (As := [.long pr, .ref (h 8)]) (rest := []) ⟨hx, hb, hml, hown, hts⟩ (c_Log_recall l dC dI cI cJ h H.size B P E S L N n ed Fz kn0 pr hn hN) (cwV 2 hts (aw_V aw_182 aw_183 aw_184 aw_2 aw_185) rfl rfl rfl (by decide +kernel) ⟨Nat.le_of_ble_eq_true rfl, Nat.le_of_ble_eq_true rfl⟩) (xh_preV (r0 := 0) hK (hP.sub (ws' := wLog cI cJ h B P E S L N (nI n) (nI ed) ++ wKn cI h kn0 Fz) [1, 2, 3, 4, 5, 6, 7, 8, 9] rfl) (hD.sub (ws' := wLog cI cJ h B P E S L N (nI n) (nI ed) ++ wKn cI h kn0 Fz) [1, 2, 3, 4, 5, 6, 7, 8, 9] (by decide) rfl) rfl rfl rfl) rfl rfl hl.1 rfl (lv_room (Nat.le_of_ble_eq_true rfl)) dX2_offers_67 ⟨Nat.le_of_ble_eq_true rfl, Nat.le_of_ble_eq_true rfl⟩) (fun  F1 H locs hw hP hD hS => ?_)
              have hP : va_P (dC, dI) classes (wPB h ++ wLog cI cJ h B P E S L N (nI n) (nI ed) ++ wKn cI h (nI (pb_kc P n pr)) F1) H := hP
              have hD : va_D A (wPB h ++ wLog cI cJ h B P E S L N (nI n) (nI ed) ++ wKn cI h (nI (pb_kc P n pr)) F1) := hD
              have hF := pb_hF hn hw
              refine lv_aload_n hx hb dX2_offers_70 rfl (lv_at hl 0 rfl) ?_
              refine va_get (D := (dC, dI)) (ci := 2) (v := .ref (h 1)) (C := RX2) (T := TX2) (N := 2) hx hb hts (fun w9 h9 => mm (inX2 w9 h9)) hown hK hP 0 rfl rfl 0 (by decide) (hts (.fieldLink RX2 10 "ProducerBook" "log" "LProducerBook$Log;") (mm aw_76)) (fun _ h9 => h9) rfl dX2_offers_71 ?_
              refine va_get (D := (dC, dI)) (ci := 1) (v := .int (nI n)) (C := RX1) (T := TX1) (N := 8) hx hb hts (fun w9 h9 => mm (inX1 w9 h9)) hown hK hP 1 rfl rfl 6 (by decide) (hts (.fieldLink RX2 55 "ProducerBook$Log" "size" "I") (mm aw_38)) (fun _ h9 => h9) rfl dX2_offers_74 ?_
              refine lv_istore (lv' := [(7, .int (nI n)), (0, .ref (h 0)), (1, .int (nI c9)), (2, .long pr), (4, .int ep), (5, .int sq), (6, .int (nI a))]) hx hb dX2_offers_77 hl (by decide) rfl (fun ls hl => ?_)
              refine lv_iload hx hb dX2_offers_79 (lv_at hl 5 rfl) ?_
              refine lv_istore (lv' := [(8, .int sq), (7, .int (nI n)), (0, .ref (h 0)), (1, .int (nI c9)), (2, .long pr), (4, .int ep), (5, .int sq), (6, .int (nI a))]) hx hb dX2_offers_81 hl (by decide) rfl (fun ls hl => ?_)
              refine lv_iconst (v := nI 0) hx hb dX2_offers_83 (by decide +kernel) ?_
              refine lv_istore (lv' := [(9, .int (nI 0)), (8, .int sq), (7, .int (nI n)), (0, .ref (h 0)), (1, .int (nI c9)), (2, .long pr), (4, .int ep), (5, .int sq), (6, .int (nI a))]) hx hb dX2_offers_84 hl (by decide) rfl (fun ls hl => ?_)
              have lp86 : ∀ (fuel : Nat) (i : Nat) (s2 : Int32) (B2 : Nat → Int32) (P2 : Nat → Int64) (E2 : Nat → Int32) (S2 : Nat → Int32) (L2 : Nat → Int32) (N2 : Nat → Int32) (F2 : Nat → Int32) (n2 : Nat) (ed2 : Nat) (H : Heap) (locs : List Loc) (ls : Array Slot), (i ≤ c9) → (pb_it (fun z => pb_nx z (nI a)) pr ep a (B, P, E, S, L, n, ed) sq i = ((B2, P2, E2, S2, L2, n2, ed2), s2)) → (n ≤ n2) → (n2 ≤ n + i) → (ed2 ≤ ed + i * (a + 1)) → (∀ k, k < n2 → N2 k = nI (pb_nv P2 n2 k)) → (∀ j, j < pb_kc P2 n2 pr → F2 j = nI (pb_ix P2 pr n2 j)) → c9 - i < fuel → va_P (dC, dI) classes (wPB h ++ wLog cI cJ h B2 P2 E2 S2 L2 N2 (nI n2) (nI ed2) ++ wKn cI h (nI (pb_kc P2 n2 pr)) F2) H → va_D A (wPB h ++ wLog cI cJ h B2 P2 E2 S2 L2 N2 (nI n2) (nI ed2) ++ wKn cI h (nI (pb_kc P2 n2 pr)) F2) → va_S A s.heap H locs → lv_has ls 10 [(0, .ref (h 0)), (1, .int (nI c9)), (2, .long pr), (4, .int ep), (5, .int sq), (6, .int (nI a)), (7, .int (nI n)), (8, .int s2), (9, .int (nI i))] → W p l e ({ frames := 6, cells := 1, slots := 6, locals := 200 } : Room) s m ([.ref (h 0), .int x, .long pr, .int ep, .int sq, .int la] : List Value).toArray below meth c H locs 0 0 (vx_MQ below (va_Qi (fun (r : Int32) (u : pb_St × (Nat → Int32) × Int32 × (Nat → Int32)) => pb_leg pr ep sq la ∧ ∃ c9 a : Nat, x = nI c9 ∧ 1 ≤ c9 ∧ c9 ≤ 500 ∧ la = nI a ∧ a ≤ 999 ∧ (n + c9 ≤ 2000 ∧ ed + c9 * (a + 1) ≤ 1000000) ∧ (pb_it (fun z => pb_nx z (nI a)) pr ep a (B, P, E, S, L, n, ed) sq c9).1 = u.1 ∧ r = nI (u.1.2.2.2.2.2.1 - n) ∧ (n ≤ u.1.2.2.2.2.2.1 ∧ u.1.2.2.2.2.2.1 ≤ 2000 ∧ u.1.2.2.2.2.2.2 ≤ 1000000) ∧ ∀ k, k < u.1.2.2.2.2.2.1 → u.2.1 k = nI (pb_nv u.1.2.1 u.1.2.2.2.2.2.1 k)) (fun u => xB (dC, dI) classes [(cI, FieldType.int), (cJ, FieldType.long)] A ((fun (u : pb_St × (Nat → Int32) × Int32 × (Nat → Int32)) => wPB h ++ wLog cI cJ h u.1.1 u.1.2.1 u.1.2.2.1 u.1.2.2.2.1 u.1.2.2.2.2.1 u.2.1 (nI u.1.2.2.2.2.2.1) (nI u.1.2.2.2.2.2.2) ++ wKn cI h u.2.2.1 u.2.2.2) u)) A) (xXC (dC, dI) classes [(cI, FieldType.int), (cJ, FieldType.long)] A (fun (E9 : String) (_ : Unit) => (E9 = xIA ∧ ¬ (¬ x < nI 1 ∧ ¬ nI 500 < x ∧ pb_leg pr ep sq la)) ∨ (E9 = xIS ∧ (¬ x < nI 1 ∧ ¬ nI 500 < x ∧ pb_leg pr ep sq la) ∧ ∃ c9 a : Nat, x = nI c9 ∧ c9 ≤ 500 ∧ la = nI a ∧ a ≤ 999 ∧ ¬ (n + c9 ≤ 2000 ∧ ed + c9 * (a + 1) ≤ 1000000))) (fun (_ : Unit) => wPB h ++ wLog cI cJ h B P E S L N (nI n) (nI ed) ++ wKn cI h kn0 Fz)) ([.ref (h 0), .int x, .long pr, .int ep, .int sq, .int la] : List Value).toArray s 1 6 A) (F0 m 86 ls []) := by
                intro fuel
                induction fuel with
                | zero => intro i s2 B2 P2 E2 S2 L2 N2 F2 n2 ed2 H locs ls hi hst hn3 hn4 he4 hN2 hF2 hfuel; exact absurd hfuel (Nat.not_lt_zero _)
                | succ fuel ih =>
                  intro i s2 B2 P2 E2 S2 L2 N2 F2 n2 ed2 H locs ls hi hst hn3 hn4 he4 hN2 hF2 hfuel hP hD hS hl
                  refine lv_iload hx hb dX2_offers_86 (lv_at hl 8 rfl) ?_
                  refine lv_iload_n hx hb dX2_offers_88 rfl (lv_at hl 1 rfl) ?_
                  refine lv_icmp_ge (tgt := 119) hx hb dX2_offers_89 (by decide) (fun c_89 => ?_) (fun c_89 => ?_)
                  · have c1 := (nI_leI (by omega) (by omega)).mp c_89
                    have ei : i = c9 := by omega
                    refine lv_aload_n hx hb dX2_offers_119 rfl (lv_at hl 0 rfl) ?_
                    refine va_get (D := (dC, dI)) (ci := 2) (v := .ref (h 1)) (C := RX2) (T := TX2) (N := 2) hx hb hts (fun w9 h9 => mm (inX2 w9 h9)) hown hK hP 0 rfl rfl 0 (by decide) (hts (.fieldLink RX2 10 "ProducerBook" "log" "LProducerBook$Log;") (mm aw_76)) (fun _ h9 => h9) rfl dX2_offers_120 ?_
                    refine va_get (D := (dC, dI)) (ci := 1) (v := .int (nI n2)) (C := RX1) (T := TX1) (N := 8) hx hb hts (fun w9 h9 => mm (inX1 w9 h9)) hown hK hP 1 rfl rfl 6 (by decide) (hts (.fieldLink RX2 55 "ProducerBook$Log" "size" "I") (mm aw_38)) (fun _ h9 => h9) rfl dX2_offers_123 ?_
                    refine lv_iload hx hb dX2_offers_126 (lv_at hl 6 rfl) ?_
                    refine lv_isub hx hb dX2_offers_128 ?_
                    refine xh_topi (z := nI (n2 - n)) (pk_sub hn3) ?_
                    refine vx_ret ?_
                    refine W.widen (k := 1) (n := 6) (Nat.le_of_ble_eq_true rfl) (Nat.le_of_ble_eq_true rfl) ?_
                    exact xh_iret hx hb hr (((B2, P2, E2, S2, L2, n2, ed2), N2, nI (pb_kc P2 n2 pr), F2)) (⟨hleg, c9, a, ec, hc1, hc2, ela, ha, ⟨hr1, hr2⟩, by rw [← ei, hst], rfl, ⟨hn3, show n2 ≤ 2000 by omega, show ed2 ≤ 1000000 by rw [ei] at he4; omega⟩, hN2⟩) hP hK hD hS dX2_offers_129 hlocks
                  · have c1 : i < c9 := Nat.lt_of_not_le fun g => c_89 ((nI_leI (by omega) (by omega)).mpr g)
                    have hm : (i + 1) * (a + 1) = i * (a + 1) + (a + 1) := Nat.succ_mul i (a + 1)
                    have hm2 : (i + 1) * (a + 1) ≤ c9 * (a + 1) := Nat.mul_le_mul_right _ c1
                    refine lv_aload_n hx hb dX2_offers_92 rfl (lv_at hl 0 rfl) ?_
                    refine lv_lload_n hx hb dX2_offers_93 rfl (lv_at hl 2 rfl) ?_
                    refine lv_iload hx hb dX2_offers_94 (lv_at hl 3 rfl) ?_
                    refine lv_iload hx hb dX2_offers_96 (lv_at hl 7 rfl) ?_
                    refine lv_iload hx hb dX2_offers_98 (lv_at hl 5 rfl) ?_
                    refine xh_calli (wc := wPB h ++ wLog cI cJ h B2 P2 E2 S2 L2 N2 (nI n2) (nI ed2) ++ wKn cI h (nI (pb_kc P2 n2 pr)) F2) (wr := []) (w1 := fun (u : Option (Nat → Int32)) => match u with | none => wPB h ++ wLog cI cJ h B2 P2 E2 S2 L2 N2 (nI n2) (nI ed2) ++ wKn cI h (nI (pb_kc P2 n2 pr)) F2 | some G => wPB h ++ wLog cI cJ h (upd B2 n2 (nI ed2)) (vp_updL P2 n2 pr) (upd E2 n2 ep) (upd S2 n2 s2) (upd L2 n2 (nI a)) (if pr = -1 then upd N2 n2 (nI 5) else upd (pb_inc N2 (pb_ix P2 pr n2) (pb_kc P2 n2 pr)) n2 (nI 0)) (nI (n2 + 1)) (nI (ed2 + (a + 1))) ++ wKn cI h (nI (if pr = -1 then (pb_kc P2 n2 pr) else min 5 ((pb_kc P2 n2 pr) + 1))) G) hP hD hS hA [0, 1, 2, 3, 4, 5, 6, 7, 8, 9] [] rfl rfl (by decide) (by decide) (va_runV (As := [.long pr, .int ep, .int s2, .int (nI a)]) (rest := []) ⟨hx, hb, hml, hown, hts⟩ (c_PB_send l dC dI cI cJ h H.size B2 P2 E2 S2 L2 N2 n2 ed2 (pb_kc P2 n2 pr) F2 (pb_ix P2 pr n2) pr ep s2 a (by omega) (by omega) ha (pb_kc_le P2 n2 pr) (pb_hF (by omega) hF2)) (cwV 4 hts (aw_V aw_190 aw_192 aw_s2 aw_1 aw_193) rfl rfl rfl (by decide +kernel) ⟨Nat.le_of_ble_eq_true rfl, Nat.le_of_ble_eq_true rfl⟩) (xh_preV (r0 := 0) hK (hP.sub (ws' := wPB h ++ wLog cI cJ h B2 P2 E2 S2 L2 N2 (nI n2) (nI ed2) ++ wKn cI h (nI (pb_kc P2 n2 pr)) F2) [0, 1, 2, 3, 4, 5, 6, 7, 8, 9] rfl) (hD.sub (ws' := wPB h ++ wLog cI cJ h B2 P2 E2 S2 L2 N2 (nI n2) (nI ed2) ++ wKn cI h (nI (pb_kc P2 n2 pr)) F2) [0, 1, 2, 3, 4, 5, 6, 7, 8, 9] (by decide) rfl) rfl rfl rfl) rfl rfl hl.1 rfl (lv_room (Nat.le_of_ble_eq_true rfl)) dX2_offers_100 ⟨Nat.le_of_ble_eq_true rfl, Nat.le_of_ble_eq_true rfl⟩) (fun r_3 u H locs hw hP hD hS => ?_)
                    cases u with
                    | none =>
                      have hP : va_P (dC, dI) classes (wPB h ++ wLog cI cJ h B2 P2 E2 S2 L2 N2 (nI n2) (nI ed2) ++ wKn cI h (nI (pb_kc P2 n2 pr)) F2) H := hP
                      have hD : va_D A (wPB h ++ wLog cI cJ h B2 P2 E2 S2 L2 N2 (nI n2) (nI ed2) ++ wKn cI h (nI (pb_kc P2 n2 pr)) F2) := hD
                      rcases hw with ⟨h1, h2⟩ | ⟨h1, h2, h3⟩
                      · refine lv_pop hx hb dX2_offers_103 rfl ?_
                        refine lv_iload hx hb dX2_offers_104 (lv_at hl 7 rfl) ?_
                        refine lv_iload hx hb dX2_offers_106 (lv_at hl 5 rfl) ?_
                        refine xh_calli (wc := []) (wr := wPB h ++ wLog cI cJ h B2 P2 E2 S2 L2 N2 (nI n2) (nI ed2) ++ wKn cI h (nI (pb_kc P2 n2 pr)) F2) (w1 := fun (u : Unit) => []) hP hD hS hA [] [0, 1, 2, 3, 4, 5, 6, 7, 8, 9] rfl rfl (by decide) (by decide) (va_runS (As := [.int s2, .int (nI a)]) (rest := []) ⟨hx, hb, hml, hown, hts⟩ (c_PB_seq l dC dI cI cJ h H.size s2 (nI a)) (cwS 2 hts (aw_S aw_206 aw_207 aw_1 aw_208) rfl rfl rfl (by decide +kernel) ⟨Nat.le_of_ble_eq_true rfl, Nat.le_of_ble_eq_true rfl⟩) (xh_preS hK (hP.sub (ws' := []) [] rfl) (hD.sub (ws' := []) [] (by decide) rfl)) rfl rfl hl.1 rfl (lv_room (Nat.le_of_ble_eq_true rfl)) dX2_offers_108 ⟨Nat.le_of_ble_eq_true rfl, Nat.le_of_ble_eq_true rfl⟩) (fun r_4 u H locs hw hP hD hS => ?_)
                        have hP : va_P (dC, dI) classes (wPB h ++ wLog cI cJ h B2 P2 E2 S2 L2 N2 (nI n2) (nI ed2) ++ wKn cI h (nI (pb_kc P2 n2 pr)) F2) H := hP
                        have hD : va_D A (wPB h ++ wLog cI cJ h B2 P2 E2 S2 L2 N2 (nI n2) (nI ed2) ++ wKn cI h (nI (pb_kc P2 n2 pr)) F2) := hD
                        refine xh_topi (z := pb_nx s2 (nI a)) (hw) ?_
                        refine lv_istore (lv' := [(8, .int (pb_nx s2 (nI a))), (0, .ref (h 0)), (1, .int (nI c9)), (2, .long pr), (4, .int ep), (5, .int sq), (6, .int (nI a)), (7, .int (nI n)), (9, .int (nI i))]) hx hb dX2_offers_111 hl (by decide) rfl (fun ls hl => ?_)
                        refine lv_iinc (v := nI (i + 1)) (lv' := [(9, .int (nI (i + 1))), (8, .int (pb_nx s2 (nI a))), (0, .ref (h 0)), (1, .int (nI c9)), (2, .long pr), (4, .int ep), (5, .int sq), (6, .int (nI a)), (7, .int (nI n))]) hx hb dX2_offers_113 hl (k := 8) rfl (by exact nI_1 i) (by decide) rfl (fun ls hl => ?_)
                        refine lv_goto (tgt := 86) hx hb dX2_offers_116 (by decide) ?_
                        exact ih (i + 1) (pb_nx s2 (nI a)) B2 P2 E2 S2 L2 N2 F2 n2 ed2 _ _ _ (by omega) (pb_it_n hst h1) hn3 (by omega) (by omega) hN2 hF2 (by omega) hP hD hS (lv_sub hl [2, 3, 4, 5, 6, 7, 8, 1, 0] rfl)
                      · exact absurd ⟨by omega, by omega⟩ h2
                    | some G =>
                      have hP : va_P (dC, dI) classes (wPB h ++ wLog cI cJ h (upd B2 n2 (nI ed2)) (vp_updL P2 n2 pr) (upd E2 n2 ep) (upd S2 n2 s2) (upd L2 n2 (nI a)) (if pr = -1 then upd N2 n2 (nI 5) else upd (pb_inc N2 (pb_ix P2 pr n2) (pb_kc P2 n2 pr)) n2 (nI 0)) (nI (n2 + 1)) (nI (ed2 + (a + 1))) ++ wKn cI h (nI (if pr = -1 then (pb_kc P2 n2 pr) else min 5 ((pb_kc P2 n2 pr) + 1))) G) H := hP
                      have hD : va_D A (wPB h ++ wLog cI cJ h (upd B2 n2 (nI ed2)) (vp_updL P2 n2 pr) (upd E2 n2 ep) (upd S2 n2 s2) (upd L2 n2 (nI a)) (if pr = -1 then upd N2 n2 (nI 5) else upd (pb_inc N2 (pb_ix P2 pr n2) (pb_kc P2 n2 pr)) n2 (nI 0)) (nI (n2 + 1)) (nI (ed2 + (a + 1))) ++ wKn cI h (nI (if pr = -1 then (pb_kc P2 n2 pr) else min 5 ((pb_kc P2 n2 pr) + 1))) G) := hD
                      obtain ⟨h1, h2, h3, h4⟩ := hw
                      rw [pb_kc_s P2 n2 pr] at hP hD
                      refine lv_pop hx hb dX2_offers_103 rfl ?_
                      refine lv_iload hx hb dX2_offers_104 (lv_at hl 7 rfl) ?_
                      refine lv_iload hx hb dX2_offers_106 (lv_at hl 5 rfl) ?_
                      refine xh_calli (wc := []) (wr := wPB h ++ wLog cI cJ h (upd B2 n2 (nI ed2)) (vp_updL P2 n2 pr) (upd E2 n2 ep) (upd S2 n2 s2) (upd L2 n2 (nI a)) (if pr = -1 then upd N2 n2 (nI 5) else upd (pb_inc N2 (pb_ix P2 pr n2) (pb_kc P2 n2 pr)) n2 (nI 0)) (nI (n2 + 1)) (nI (ed2 + (a + 1))) ++ wKn cI h (nI (pb_kc (vp_updL P2 n2 pr) (n2 + 1) pr)) G) (w1 := fun (u : Unit) => []) hP hD hS hA [] [0, 1, 2, 3, 4, 5, 6, 7, 8, 9] rfl rfl (by decide) (by decide) (va_runS (As := [.int s2, .int (nI a)]) (rest := []) ⟨hx, hb, hml, hown, hts⟩ (c_PB_seq l dC dI cI cJ h H.size s2 (nI a)) (cwS 2 hts (aw_S aw_206 aw_207 aw_1 aw_208) rfl rfl rfl (by decide +kernel) ⟨Nat.le_of_ble_eq_true rfl, Nat.le_of_ble_eq_true rfl⟩) (xh_preS hK (hP.sub (ws' := []) [] rfl) (hD.sub (ws' := []) [] (by decide) rfl)) rfl rfl hl.1 rfl (lv_room (Nat.le_of_ble_eq_true rfl)) dX2_offers_108 ⟨Nat.le_of_ble_eq_true rfl, Nat.le_of_ble_eq_true rfl⟩) (fun r_5 u H locs hw hP hD hS => ?_)
                      have hP : va_P (dC, dI) classes (wPB h ++ wLog cI cJ h (upd B2 n2 (nI ed2)) (vp_updL P2 n2 pr) (upd E2 n2 ep) (upd S2 n2 s2) (upd L2 n2 (nI a)) (if pr = -1 then upd N2 n2 (nI 5) else upd (pb_inc N2 (pb_ix P2 pr n2) (pb_kc P2 n2 pr)) n2 (nI 0)) (nI (n2 + 1)) (nI (ed2 + (a + 1))) ++ wKn cI h (nI (pb_kc (vp_updL P2 n2 pr) (n2 + 1) pr)) G) H := hP
                      have hD : va_D A (wPB h ++ wLog cI cJ h (upd B2 n2 (nI ed2)) (vp_updL P2 n2 pr) (upd E2 n2 ep) (upd S2 n2 s2) (upd L2 n2 (nI a)) (if pr = -1 then upd N2 n2 (nI 5) else upd (pb_inc N2 (pb_ix P2 pr n2) (pb_kc P2 n2 pr)) n2 (nI 0)) (nI (n2 + 1)) (nI (ed2 + (a + 1))) ++ wKn cI h (nI (pb_kc (vp_updL P2 n2 pr) (n2 + 1) pr)) G) := hD
                      refine xh_topi (z := pb_nx s2 (nI a)) (hw) ?_
                      refine lv_istore (lv' := [(8, .int (pb_nx s2 (nI a))), (0, .ref (h 0)), (1, .int (nI c9)), (2, .long pr), (4, .int ep), (5, .int sq), (6, .int (nI a)), (7, .int (nI n)), (9, .int (nI i))]) hx hb dX2_offers_111 hl (by decide) rfl (fun ls hl => ?_)
                      refine lv_iinc (v := nI (i + 1)) (lv' := [(9, .int (nI (i + 1))), (8, .int (pb_nx s2 (nI a))), (0, .ref (h 0)), (1, .int (nI c9)), (2, .long pr), (4, .int ep), (5, .int sq), (6, .int (nI a)), (7, .int (nI n))]) hx hb dX2_offers_113 hl (k := 8) rfl (by exact nI_1 i) (by decide) rfl (fun ls hl => ?_)
                      refine lv_goto (tgt := 86) hx hb dX2_offers_116 (by decide) ?_
                      exact ih (i + 1) (pb_nx s2 (nI a)) (upd B2 n2 (nI ed2)) (vp_updL P2 n2 pr) (upd E2 n2 ep) (upd S2 n2 s2) (upd L2 n2 (nI a)) (if pr = -1 then upd N2 n2 (nI 5) else upd (pb_inc N2 (pb_ix P2 pr n2) (pb_kc P2 n2 pr)) n2 (nI 0)) G (n2 + 1) (ed2 + (a + 1)) _ _ _ (by omega) (pb_it_y hst h1) (by omega) (by omega) (by omega) (pb_N2 hN2) (pb_F2 hF2 h4) (by omega) hP hD hS (lv_sub hl [2, 3, 4, 5, 6, 7, 8, 1, 0] rfl)
              exact lp86 (c9 + 1) 0 sq B P E S L N F1 n ed _ _ _ (Nat.zero_le _) rfl (Nat.le_refl n) (by omega) (by omega) hN (fun j hj => (hF j hj).1) (by omega) hP hD hS (lv_sub hl [3, 4, 5, 6, 7, 8, 2, 1, 0] rfl)
            · exact absurd c_45 (by decide)
          · have hn9 := hn
            refine lv_if_ne (tgt := 58) hx hb dX2_offers_45 (by decide) (fun c_45 => ?_) (fun c_45 => ?_)
            · exact absurd (show nI 0 = 0 by decide) c_45
            · exact xh_thrS hx hb hl0 hts hown hX (is := 53) (text := "the log has no room for all the batches") (by decide +kernel) hS (hl.1.trans hml.symm) dX2_offers_48 dX2_offers_51 dX2_offers_52 dX2_offers_54 dX2_offers_57 hnt (Nat.le_of_ble_eq_true rfl) (Nat.le_of_ble_eq_true rfl) (Nat.le_of_ble_eq_true rfl) (Nat.le_of_ble_eq_true rfl) hlocks (fun t hvm hz hq => ⟨(), trivial, ⟨Or.inr ⟨rfl, ⟨c_2, c_9, hleg⟩, c9, a, ec, hc2, ela, ha, hk5⟩, (xh_xc hP hK hD hS hvm hz hq).1⟩, (xh_xc hP hK hD hS hvm hz hq).2⟩) hS.2.2 (Nat.le_of_ble_eq_true rfl) (Nat.le_of_ble_eq_true rfl)
        · exact absurd c_22 (by decide)
      · have hnl := hleg
        refine lv_if_ne (tgt := 35) hx hb dX2_offers_22 (by decide) (fun c_22 => ?_) (fun c_22 => ?_)
        · exact absurd (show nI 0 = 0 by decide) c_22
        · exact xh_thrA hx hb hl0 hts hown hX (is := 47) (text := "a number of the batches is out of its bounds") (by decide +kernel) hS (hl.1.trans hml.symm) dX2_offers_25 dX2_offers_28 dX2_offers_29 dX2_offers_31 dX2_offers_34 hnt (Nat.le_of_ble_eq_true rfl) (Nat.le_of_ble_eq_true rfl) (Nat.le_of_ble_eq_true rfl) (Nat.le_of_ble_eq_true rfl) hlocks (fun t hvm hz hq => ⟨(), trivial, ⟨Or.inl ⟨rfl, fun g => hnl g.2.2⟩, (xh_xc hP hK hD hS hvm hz hq).1⟩, (xh_xc hP hK hD hS hvm hz hq).2⟩) hS.2.2 (Nat.le_of_ble_eq_true rfl) (Nat.le_of_ble_eq_true rfl)
