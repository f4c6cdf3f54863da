set_option maxHeartbeats 4000000 in
set_option maxRecDepth 100000 in
/-- offer -/
theorem c_PB_offer (l : Launch) (dC : Nat → ClassId) (dI : Nat → Nat → Nat) (cI cJ : ClassId) (h : Nat → Nat) (sz : Nat) (B : Nat → Int32) (P : Nat → Int64) (E S L N : Nat → Int32) (n ed : Nat) (Fz : Nat → Int32) (kn0 : Int32) (pr : Int64) (ep sq la : Int32) (hl0 : l.stackTraces = false) (hn : n ≤ 2000) (hed : ed ≤ 1000000) (hN : ∀ k, k < n → N k = nI (pb_nv P n k)) : vx_Met l yX2_offer wsX2_offer ({ frames := 6, cells := 1, slots := 6, locals := 200 } : Room) (va_Pc [.ref (h 0), .long pr, .int ep, .int sq, .int la] (fun U => xP (dC, dI) classes [(cI, FieldType.int), (cJ, FieldType.long)] (wPB h ++ wLog cI cJ h B P E S L N (nI n) (nI ed) ++ wKn cI h kn0 Fz) sz U ∧ xX (va_A (wPB h ++ wLog cI cJ h B P E S L N (nI n) (nI ed) ++ wKn cI h kn0 Fz) sz) U)) (va_Qi (fun (r : Int32) (u : Option (Nat × (Nat → Int32)) × Int32 × (Nat → Int32)) => pb_leg pr ep sq la ∧ match u.1 with | none => pb_ans B E S L (pb_kc P n pr) (pb_ix P pr n) ep sq la ≠ -1 ∧ r = pb_ans B E S L (pb_kc P n pr) (pb_ix P pr n) ep sq la | some x => pb_ans B E S L (pb_kc P n pr) (pb_ix P pr n) ep sq la = -1 ∧ la = nI x.1 ∧ x.1 ≤ 999 ∧ (n + 1 ≤ 2000 ∧ ed + (x.1 + 1) ≤ 1000000) ∧ r = nI ed ∧ ∀ k, k < n + 1 → x.2 k = nI (pb_nv (vp_updL P n pr) (n + 1) k)) (fun u => xB (dC, dI) classes [(cI, FieldType.int), (cJ, FieldType.long)] (va_A (wPB h ++ wLog cI cJ h B P E S L N (nI n) (nI ed) ++ wKn cI h kn0 Fz) sz) ((fun (u : Option (Nat × (Nat → Int32)) × Int32 × (Nat → Int32)) => match u.1 with | none => wPB h ++ wLog cI cJ h B P E S L N (nI n) (nI ed) ++ wKn cI h u.2.1 u.2.2 | some x => wPB h ++ wLog cI cJ h (upd B n (nI ed)) (vp_updL P n pr) (upd E n ep) (upd S n sq) (upd L n (nI x.1)) x.2 (nI (n + 1)) (nI (ed + (x.1 + 1))) ++ wKn cI h u.2.1 u.2.2) u)) (va_A (wPB h ++ wLog cI cJ h B P E S L N (nI n) (nI ed) ++ wKn cI h kn0 Fz) sz)) (xXC (dC, dI) classes [(cI, FieldType.int), (cJ, FieldType.long)] (va_A (wPB h ++ wLog cI cJ h B P E S L N (nI n) (nI ed) ++ wKn cI h kn0 Fz) sz) (fun (E9 : String) (_ : Int32 × (Nat → Int32)) => (E9 = xIA ∧ ¬ pb_leg pr ep sq la) ∨ (E9 = xIS ∧ pb_leg pr ep sq la ∧ pb_ans B E S L (pb_kc P n pr) (pb_ix P pr n) ep sq la = -1 ∧ ∃ a : Nat, la = nI a ∧ a ≤ 999 ∧ ¬ (n + 1 ≤ 2000 ∧ ed + (a + 1) ≤ 1000000))) (fun (u : Int32 × (Nat → Int32)) => wPB h ++ wLog cI cJ h B P E S L N (nI n) (nI ed) ++ wKn cI h u.1 u.2)) 1 6 (va_A (wPB h ++ wLog cI cJ h B P E S L N (nI n) (nI ed) ++ wKn cI h kn0 Fz) sz) := by
  refine vx_ofW (cc := cX2_offer) (maxL := 7) (ret := (some .int)) (by decide) rfl ?_
  intro p e s m args below meth c s₁ BB hml hnt hv
  obtain ⟨rfl, ⟨hsz, hP, hK, hD0⟩, hX⟩ := hv
  have hx := BB.exec
  have hb := BB.bytes
  have hr := BB.returns
  have hts := atoms_spec (ws := wsX2_offer) BB.pre
  have hown : s.vm.findClass RX2 = some m.cls := findClass_of_methodNamed BB.named
  have hlocks := BB.notSynchronized
  subst hsz
  have hD := hD0.self (sz := s.heap.size)
  generalize hAe : va_A (wPB h ++ wLog cI cJ h B P E S L N (nI n) (nI ed) ++ wKn cI h kn0 Fz) s.heap.size = A at hD hX ⊢
  have hA : ∀ q : Nat, s.heap.size ≤ q → A q := fun q h => by rw [← hAe]; exact Or.inr h
  have hS : va_S A s.heap s.heap [] := va_S.rf
  have hl := lv_entry ([.ref (h 0), .long pr, .int ep, .int sq, .int la]) (n := 7) (Nat.le_of_ble_eq_true rfl)
  rw [lg_entry_eq]
  generalize (lg_sl ([.ref (h 0), .long pr, .int ep, .int sq, .int la]) ++ List.replicate (7 - (lg_sl ([.ref (h 0), .long pr, .int ep, .int sq, .int la])).length) Slot.unset).toArray = ls at hl ⊢
  have hl : lv_has ls 7 [(0, .ref (h 0)), (1, .long pr), (3, .int ep), (4, .int sq), (5, .int la)] := hl
  have hP : va_P (dC, dI) classes (wPB h ++ wLog cI cJ h B P E S L N (nI n) (nI ed) ++ wKn cI h kn0 Fz) s.heap := hP
  refine lv_lload_n hx hb dX2_offer_0 rfl (lv_at hl 1 rfl) ?_
  refine lv_iload_n hx hb dX2_offer_1 rfl (lv_at hl 2 rfl) ?_
  refine lv_iload hx hb dX2_offer_2 (lv_at hl 3 rfl) ?_
  refine lv_iload hx hb dX2_offer_4 (lv_at hl 4 rfl) ?_
  refine xh_calli (wc := []) (wr := wPB h ++ wLog cI cJ h B P E S L N (nI n) (nI ed) ++ wKn cI h kn0 Fz) (w1 := fun (u : Unit) => []) hP hD hS hA [] [0, 1, 2, 3, 4, 5, 6, 7, 8, 9] rfl rfl (by decide) (by decide) (va_runS (As := [.long pr, .int ep, .int sq, .int la]) (rest := []) ⟨hx, hb, hml, hown, hts⟩ (c_PB_isLegal l dC dI cI cJ h s.heap.size pr ep sq la) (cwS 4 hts (aw_S aw_111 aw_112 aw_1 aw_113) rfl rfl rfl (by decide +kernel) ⟨Nat.le_of_ble_eq_true rfl, Nat.le_of_ble_eq_true rfl⟩) (xh_preS hK (hP.sub (ws' := []) [] rfl) (hD.sub (ws' := []) [] (by decide) rfl)) rfl rfl hl.1 rfl (lv_room (Nat.le_of_ble_eq_true rfl)) dX2_offer_6 ⟨Nat.le_of_ble_eq_true rfl, Nat.le_of_ble_eq_true rfl⟩) (fun r_1 u H locs hw hP hD hS => ?_)
  have hP : va_P (dC, dI) classes (wPB h ++ wLog cI cJ h B P E S L N (nI n) (nI ed) ++ wKn cI h kn0 Fz) H := hP
  have hD : va_D A (wPB h ++ wLog cI cJ h B P E S L N (nI n) (nI ed) ++ wKn cI h kn0 Fz) := hD
  rcases hw with ⟨hleg, rfl⟩ | ⟨hleg, rfl⟩
  · obtain ⟨a, ha, ela⟩ := nI_of2 (M := nI 999) (n := 999) (by decide) hleg.1 hleg.2.1
    subst ela
    refine lv_if_ne (tgt := 22) hx hb dX2_offer_9 (by decide) (fun c_9 => ?_) (fun c_9 => ?_)
    · refine lv_aload_n hx hb dX2_offer_22 rfl (lv_at hl 0 rfl) ?_
      refine va_get (D := (dC, dI)) (ci := 2) (v := .ref (h 1)) (C := RX2) (T := TX2) (N := 2) hx hb hts (fun w9 h9 => mm (inX2 w9 h9)) hown hK hP 0 rfl rfl 0 (by decide) (hts (.fieldLink RX2 10 "ProducerBook" "log" "LProducerBook$Log;") (mm aw_76)) (fun _ h9 => h9) rfl dX2_offer_23 ?_
      refine lv_lload_n hx hb dX2_offer_26 rfl (lv_at hl 1 rfl) ?_
      refine lv_aload_n hx hb dX2_offer_27 rfl (lv_at hl 0 rfl) ?_
      refine va_get (D := (dC, dI)) (ci := 2) (v := .ref (h 8)) (C := RX2) (T := TX2) (N := 2) hx hb hts (fun w9 h9 => mm (inX2 w9 h9)) hown hK hP 0 rfl rfl 1 (by decide) (hts (.fieldLink RX2 19 "ProducerBook" "recalled" "LProducerBook$Known;") (mm aw_77)) (fun _ h9 => h9) rfl dX2_offer_28 ?_
      refine xh_callv (wc := wLog cI cJ h B P E S L N (nI n) (nI ed) ++ wKn cI h kn0 Fz) (wr := wPB h) (w1 := fun (F1 : Nat → Int32) => wLog cI cJ h B P E S L N (nI n) (nI ed) ++ wKn cI h (nI (pb_kc P n pr)) F1) hP hD hS hA [1, 2, 3, 4, 5, 6, 7, 8, 9] [0] rfl rfl (by decide) (by decide) (va_runV (As := [.long pr, .ref (h 8)]) (rest := []) ⟨hx, hb, hml, hown, hts⟩ (c_Log_recall l dC dI cI cJ h H.size B P E S L N n ed Fz kn0 pr hn hN) (cwV 2 hts (aw_V aw_182 aw_183 aw_184 aw_2 aw_185) rfl rfl rfl (by decide +kernel) ⟨Nat.le_of_ble_eq_true rfl, Nat.le_of_ble_eq_true rfl⟩) (xh_preV (r0 := 0) hK (hP.sub (ws' := wLog cI cJ h B P E S L N (nI n) (nI ed) ++ wKn cI h kn0 Fz) [1, 2, 3, 4, 5, 6, 7, 8, 9] rfl) (hD.sub (ws' := wLog cI cJ h B P E S L N (nI n) (nI ed) ++ wKn cI h kn0 Fz) [1, 2, 3, 4, 5, 6, 7, 8, 9] (by decide) rfl) rfl rfl rfl) rfl rfl hl.1 rfl (lv_room (Nat.le_of_ble_eq_true rfl)) dX2_offer_31 ⟨Nat.le_of_ble_eq_true rfl, Nat.le_of_ble_eq_true rfl⟩) (fun  F1 H locs hw hP hD hS => ?_)
      have hP : va_P (dC, dI) classes (wPB h ++ wLog cI cJ h B P E S L N (nI n) (nI ed) ++ wKn cI h (nI (pb_kc P n pr)) F1) H := hP
      have hD : va_D A (wPB h ++ wLog cI cJ h B P E S L N (nI n) (nI ed) ++ wKn cI h (nI (pb_kc P n pr)) F1) := hD
      have hF := pb_hF hn hw
      refine lv_aload_n hx hb dX2_offer_34 rfl (lv_at hl 0 rfl) ?_
      refine lv_lload_n hx hb dX2_offer_35 rfl (lv_at hl 1 rfl) ?_
      refine lv_iload_n hx hb dX2_offer_36 rfl (lv_at hl 2 rfl) ?_
      refine lv_iload hx hb dX2_offer_37 (lv_at hl 3 rfl) ?_
      refine lv_iload hx hb dX2_offer_39 (lv_at hl 4 rfl) ?_
      refine xh_calli (wc := wPB h ++ wLog cI cJ h B P E S L N (nI n) (nI ed) ++ wKn cI h (nI (pb_kc P n pr)) F1) (wr := []) (w1 := fun (u : Option (Nat → Int32)) => match u with | none => wPB h ++ wLog cI cJ h B P E S L N (nI n) (nI ed) ++ wKn cI h (nI (pb_kc P n pr)) F1 | some G => wPB h ++ wLog cI cJ h (upd B n (nI ed)) (vp_updL P n pr) (upd E n ep) (upd S n sq) (upd L n (nI a)) (if pr = -1 then upd N n (nI 5) else upd (pb_inc N (pb_ix P pr n) (pb_kc P n pr)) n (nI 0)) (nI (n + 1)) (nI (ed + (a + 1))) ++ wKn cI h (nI (if pr = -1 then (pb_kc P n pr) else min 5 ((pb_kc P n pr) + 1))) G) hP hD hS hA [0, 1, 2, 3, 4, 5, 6, 7, 8, 9] [] rfl rfl (by decide) (by decide) (va_runV (As := [.long pr, .int ep, .int sq, .int (nI a)]) (rest := []) ⟨hx, hb, hml, hown, hts⟩ (c_PB_send l dC dI cI cJ h H.size B P E S L N n ed (pb_kc P n pr) F1 (pb_ix P pr n) pr ep sq a hn hed ha (pb_kc_le P n pr) hF) (cwV 4 hts (aw_V aw_190 aw_192 aw_s2 aw_1 aw_193) rfl rfl rfl (by decide +kernel) ⟨Nat.le_of_ble_eq_true rfl, Nat.le_of_ble_eq_true rfl⟩) (xh_preV (r0 := 0) hK (hP.sub (ws' := wPB h ++ wLog cI cJ h B P E S L N (nI n) (nI ed) ++ wKn cI h (nI (pb_kc P n pr)) F1) [0, 1, 2, 3, 4, 5, 6, 7, 8, 9] rfl) (hD.sub (ws' := wPB h ++ wLog cI cJ h B P E S L N (nI n) (nI ed) ++ wKn cI h (nI (pb_kc P n pr)) F1) [0, 1, 2, 3, 4, 5, 6, 7, 8, 9] (by decide) rfl) rfl rfl rfl) rfl rfl hl.1 rfl (lv_room (Nat.le_of_ble_eq_true rfl)) dX2_offer_41 ⟨Nat.le_of_ble_eq_true rfl, Nat.le_of_ble_eq_true rfl⟩) (fun r_2 u H locs hw hP hD hS => ?_)
      cases u with
      | none =>
        have hP : va_P (dC, dI) classes (wPB h ++ wLog cI cJ h B P E S L N (nI n) (nI ed) ++ wKn cI h (nI (pb_kc P n pr)) F1) H := hP
        have hD : va_D A (wPB h ++ wLog cI cJ h B P E S L N (nI n) (nI ed) ++ wKn cI h (nI (pb_kc P n pr)) F1) := hD
        rcases hw with ⟨h1, h2⟩ | ⟨h1, h2, h3⟩
        · refine lv_istore (lv' := [(6, .int r_2), (0, .ref (h 0)), (1, .long pr), (3, .int ep), (4, .int sq), (5, .int (nI a))]) hx hb dX2_offer_44 hl (by decide) rfl (fun ls hl => ?_)
          refine lv_iload hx hb dX2_offer_46 (lv_at hl 0 rfl) ?_
          refine lv_iconst (v := (-1)) hx hb dX2_offer_48 (by decide +kernel) ?_
          refine lv_icmp_ne (tgt := 62) hx hb dX2_offer_49 (by decide) (fun c_49 => ?_) (fun c_49 => ?_)
          · refine lv_iload hx hb dX2_offer_62 (lv_at hl 0 rfl) ?_
            refine vx_ret ?_
            refine W.widen (k := 1) (n := 6) (Nat.le_of_ble_eq_true rfl) (Nat.le_of_ble_eq_true rfl) ?_
            exact xh_iret hx hb hr ((none, nI (pb_kc P n pr), F1)) (⟨hleg, h1, h2⟩) hP hK hD hS dX2_offer_64 hlocks
          · exact absurd (h2.symm.trans c_49) h1
        · refine lv_istore (lv' := [(6, .int r_2), (0, .ref (h 0)), (1, .long pr), (3, .int ep), (4, .int sq), (5, .int (nI a))]) hx hb dX2_offer_44 hl (by decide) rfl (fun ls hl => ?_)
          refine lv_iload hx hb dX2_offer_46 (lv_at hl 0 rfl) ?_
          refine lv_iconst (v := (-1)) hx hb dX2_offer_48 (by decide +kernel) ?_
          refine lv_icmp_ne (tgt := 62) hx hb dX2_offer_49 (by decide) (fun c_49 => ?_) (fun c_49 => ?_)
          · exact absurd h3 c_49
          · exact xh_thrS hx hb hl0 hts hown hX (is := 44) (text := "the log has no room for the batch") (by decide +kernel) hS (hl.1.trans hml.symm) dX2_offer_52 dX2_offer_55 dX2_offer_56 dX2_offer_58 dX2_offer_61 hnt (Nat.le_of_ble_eq_true rfl) (Nat.le_of_ble_eq_true rfl) (Nat.le_of_ble_eq_true rfl) (Nat.le_of_ble_eq_true rfl) hlocks (fun t hvm hz hq => ⟨(nI (pb_kc P n pr), F1), trivial, ⟨Or.inr ⟨rfl, hleg, h1, a, rfl, ha, h2⟩, (xh_xc hP hK hD hS hvm hz hq).1⟩, (xh_xc hP hK hD hS hvm hz hq).2⟩) hS.2.2 (Nat.le_of_ble_eq_true rfl) (Nat.le_of_ble_eq_true rfl)
      | some G =>
        have hP : va_P (dC, dI) classes (wPB h ++ wLog cI cJ h (upd B n (nI ed)) (vp_updL P n pr) (upd E n ep) (upd S n sq) (upd L n (nI a)) (if pr = -1 then upd N n (nI 5) else upd (pb_inc N (pb_ix P pr n) (pb_kc P n pr)) n (nI 0)) (nI (n + 1)) (nI (ed + (a + 1))) ++ wKn cI h (nI (if pr = -1 then (pb_kc P n pr) else min 5 ((pb_kc P n pr) + 1))) G) H := hP
        have hD : va_D A (wPB h ++ wLog cI cJ h (upd B n (nI ed)) (vp_updL P n pr) (upd E n ep) (upd S n sq) (upd L n (nI a)) (if pr = -1 then upd N n (nI 5) else upd (pb_inc N (pb_ix P pr n) (pb_kc P n pr)) n (nI 0)) (nI (n + 1)) (nI (ed + (a + 1))) ++ wKn cI h (nI (if pr = -1 then (pb_kc P n pr) else min 5 ((pb_kc P n pr) + 1))) G) := hD
        obtain ⟨h1, h2, h3, h4⟩ := hw
        refine lv_istore (lv' := [(6, .int r_2), (0, .ref (h 0)), (1, .long pr), (3, .int ep), (4, .int sq), (5, .int (nI a))]) hx hb dX2_offer_44 hl (by decide) rfl (fun ls hl => ?_)
        refine lv_iload hx hb dX2_offer_46 (lv_at hl 0 rfl) ?_
        refine lv_iconst (v := (-1)) hx hb dX2_offer_48 (by decide +kernel) ?_
        refine lv_icmp_ne (tgt := 62) hx hb dX2_offer_49 (by decide) (fun c_49 => ?_) (fun c_49 => ?_)
        · refine lv_iload hx hb dX2_offer_62 (lv_at hl 0 rfl) ?_
          refine vx_ret ?_
          refine W.widen (k := 1) (n := 6) (Nat.le_of_ble_eq_true rfl) (Nat.le_of_ble_eq_true rfl) ?_
          exact xh_iret hx hb hr ((some (a, (if pr = -1 then upd N n (nI 5) else upd (pb_inc N (pb_ix P pr n) (pb_kc P n pr)) n (nI 0))), nI (if pr = -1 then (pb_kc P n pr) else min 5 ((pb_kc P n pr) + 1)), G)) (⟨hleg, h1, rfl, ha, h2, h3, pb_N2 hN⟩) hP hK hD hS dX2_offer_64 hlocks
        · exact absurd (h3.symm.trans c_49) (pb_ne1 (by omega))
    · exact absurd c_9 (by decide)
  · have hnl := hleg
    refine lv_if_ne (tgt := 22) hx hb dX2_offer_9 (by decide) (fun c_9 => ?_) (fun c_9 => ?_)
    · exact absurd (show nI 0 = 0 by decide) c_9
    · exact xh_thrA hx hb hl0 hts hown hX (is := 29) (text := "a number of the batch is out of its bounds") (by decide +kernel) hS (hl.1.trans hml.symm) dX2_offer_12 dX2_offer_15 dX2_offer_16 dX2_offer_18 dX2_offer_21 hnt (Nat.le_of_ble_eq_true rfl) (Nat.le_of_ble_eq_true rfl) (Nat.le_of_ble_eq_true rfl) (Nat.le_of_ble_eq_true rfl) hlocks (fun t hvm hz hq => ⟨(kn0, Fz), trivial, ⟨Or.inl ⟨rfl, hnl⟩, (xh_xc hP hK hD hS hvm hz hq).1⟩, (xh_xc hP hK hD hS hvm hz hq).2⟩) hS.2.2 (Nat.le_of_ble_eq_true rfl) (Nat.le_of_ble_eq_true rfl)

set_option maxHeartbeats 4000000 in
set_option maxRecDepth 100000 in
/-- drop -/
theorem c_PB_drop (l : Launch) (dC : Nat → ClassId) (dI : Nat → Nat → Nat) (cI cJ : ClassId) (h : Nat → Nat) (sz : Nat) (B : Nat → Int32) (P : Nat → Int64) (E S L N : Nat → Int32) (n ed : Nat) (Fz : Nat → Int32) (kn0 : Int32) (x : Int32) (hl0 : l.stackTraces = false) (hn : n ≤ 2000) (hed : ed ≤ 1000000) (hN : ∀ k, k < n → N k = nI (pb_nv P n k)) : vx_Met l yX2_drop wsX2_drop ({ frames := 6, cells := 1, slots := 6, locals := 150 } : Room) (va_Pc [.ref (h 0), .int x] (fun U => xP (dC, dI) classes [(cI, FieldType.int), (cJ, FieldType.long)] (wPB h ++ wLog cI cJ h B P E S L N (nI n) (nI ed) ++ wKn cI h kn0 Fz) sz U ∧ xX (va_A (wPB h ++ wLog cI cJ h B P E S L N (nI n) (nI ed) ++ wKn cI h kn0 Fz) sz) U)) (va_Qi (fun (r : Int32) (g : Nat) => x = nI g ∧ g ≤ 2000 ∧ r = nI (min g n)) (fun u => xB (dC, dI) classes [(cI, FieldType.int), (cJ, FieldType.long)] (va_A (wPB h ++ wLog cI cJ h B P E S L N (nI n) (nI ed) ++ wKn cI h kn0 Fz) sz) ((fun (g : Nat) => wPB h ++ wLog cI cJ h (va_cpy B B (min g n) 0 (n - min g n)) (va_cpy P P (min g n) 0 (n - min g n)) (va_cpy E E (min g n) 0 (n - min g n)) (va_cpy S S (min g n) 0 (n - min g n)) (va_cpy L L (min g n) 0 (n - min g n)) (va_cpy N N (min g n) 0 (n - min g n)) (nI (n - min g n)) (nI ed) ++ wKn cI h kn0 Fz) u)) (va_A (wPB h ++ wLog cI cJ h B P E S L N (nI n) (nI ed) ++ wKn cI h kn0 Fz) sz)) (xXC (dC, dI) classes [(cI, FieldType.int), (cJ, FieldType.long)] (va_A (wPB h ++ wLog cI cJ h B P E S L N (nI n) (nI ed) ++ wKn cI h kn0 Fz) sz) (fun (E9 : String) (_ : Unit) => E9 = xIA ∧ ¬ (¬ x < 0 ∧ x ≤ nI 2000)) (fun (_ : Unit) => wPB h ++ wLog cI cJ h B P E S L N (nI n) (nI ed) ++ wKn cI h kn0 Fz)) 1 6 (va_A (wPB h ++ wLog cI cJ h B P E S L N (nI n) (nI ed) ++ wKn cI h kn0 Fz) sz) := by
  refine vx_ofW (cc := cX2_drop) (maxL := 2) (ret := (some .int)) (by decide) rfl ?_
  intro p e s m args below meth c s₁ BB hml hnt hv
  obtain ⟨rfl, ⟨hsz, hP, hK, hD0⟩, hX⟩ := hv
  have hx := BB.exec
  have hb := BB.bytes
  have hr := BB.returns
  have hts := atoms_spec (ws := wsX2_drop) BB.pre
  have hown : s.vm.findClass RX2 = some m.cls := findClass_of_methodNamed BB.named
  have hlocks := BB.notSynchronized
  subst hsz
  have hD := hD0.self (sz := s.heap.size)
  generalize hAe : va_A (wPB h ++ wLog cI cJ h B P E S L N (nI n) (nI ed) ++ wKn cI h kn0 Fz) s.heap.size = A at hD hX ⊢
  have hA : ∀ q : Nat, s.heap.size ≤ q → A q := fun q h => by rw [← hAe]; exact Or.inr h
  have hS : va_S A s.heap s.heap [] := va_S.rf
  have hl := lv_entry ([.ref (h 0), .int x]) (n := 2) (Nat.le_of_ble_eq_true rfl)
  rw [lg_entry_eq]
  generalize (lg_sl ([.ref (h 0), .int x]) ++ List.replicate (2 - (lg_sl ([.ref (h 0), .int x])).length) Slot.unset).toArray = ls at hl ⊢
  have hl : lv_has ls 2 [(0, .ref (h 0)), (1, .int x)] := hl
  have hP : va_P (dC, dI) classes (wPB h ++ wLog cI cJ h B P E S L N (nI n) (nI ed) ++ wKn cI h kn0 Fz) s.heap := hP
  refine lv_iload_n hx hb dX2_drop_0 rfl (lv_at hl 1 rfl) ?_
  refine lv_if_lt (tgt := 11) hx hb dX2_drop_1 (by decide) (fun c_1 => ?_) (fun c_1 => ?_)
  · exact xh_thrA hx hb hl0 hts hown hX (is := 63) (text := "n is not 0 .. 2000") (by decide +kernel) hS (hl.1.trans hml.symm) dX2_drop_11 dX2_drop_14 dX2_drop_15 dX2_drop_17 dX2_drop_20 hnt (Nat.le_of_ble_eq_true rfl) (Nat.le_of_ble_eq_true rfl) (Nat.le_of_ble_eq_true rfl) (Nat.le_of_ble_eq_true rfl) hlocks (fun t hvm hz hq => ⟨(), trivial, ⟨⟨rfl, fun g => g.1 c_1⟩, (xh_xc hP hK hD hS hvm hz hq).1⟩, (xh_xc hP hK hD hS hvm hz hq).2⟩) hS.2.2 (Nat.le_of_ble_eq_true rfl) (Nat.le_of_ble_eq_true rfl)
  · refine lv_iload_n hx hb dX2_drop_4 rfl (lv_at hl 1 rfl) ?_
    refine lv_sipush (v := nI 2000) hx hb dX2_drop_5 (by decide +kernel) ?_
    refine lv_icmp_le (tgt := 21) hx hb dX2_drop_8 (by decide) (fun c_8 => ?_) (fun c_8 => ?_)
    · obtain ⟨g, hg, rfl⟩ := nI_of2 (M := nI 2000) (n := 2000) (by decide) c_1 c_8
      refine lv_aload_n hx hb dX2_drop_21 rfl (lv_at hl 0 rfl) ?_
      refine va_get (D := (dC, dI)) (ci := 2) (v := .ref (h 1)) (C := RX2) (T := TX2) (N := 2) hx hb hts (fun w9 h9 => mm (inX2 w9 h9)) hown hK hP 0 rfl rfl 0 (by decide) (hts (.fieldLink RX2 10 "ProducerBook" "log" "LProducerBook$Log;") (mm aw_76)) (fun _ h9 => h9) rfl dX2_drop_22 ?_
      refine lv_iload_n hx hb dX2_drop_25 rfl (lv_at hl 1 rfl) ?_
      refine xh_calli (wc := wLog cI cJ h B P E S L N (nI n) (nI ed)) (wr := wPB h ++ wKn cI h kn0 Fz) (w1 := fun (u : Unit) => wLog cI cJ h (va_cpy B B (min g n) 0 (n - min g n)) (va_cpy P P (min g n) 0 (n - min g n)) (va_cpy E E (min g n) 0 (n - min g n)) (va_cpy S S (min g n) 0 (n - min g n)) (va_cpy L L (min g n) 0 (n - min g n)) (va_cpy N N (min g n) 0 (n - min g n)) (nI (n - min g n)) (nI ed)) hP hD hS hA [1, 2, 3, 4, 5, 6, 7] [0, 8, 9] rfl rfl (by decide) (by decide) (va_runV (As := [.int (nI g)]) (rest := []) ⟨hx, hb, hml, hown, hts⟩ (c_Log_removeFirst l dC dI cI cJ h s.heap.size B P E S L N n ed g hn hg) (cwV 1 hts (aw_V aw_262 aw_263 aw_264 aw_2 aw_265) rfl rfl rfl (by decide +kernel) ⟨Nat.le_of_ble_eq_true rfl, Nat.le_of_ble_eq_true rfl⟩) (xh_preV (r0 := 0) hK (hP.sub (ws' := wLog cI cJ h B P E S L N (nI n) (nI ed)) [1, 2, 3, 4, 5, 6, 7] rfl) (hD.sub (ws' := wLog cI cJ h B P E S L N (nI n) (nI ed)) [1, 2, 3, 4, 5, 6, 7] (by decide) rfl) rfl rfl rfl) rfl rfl hl.1 rfl (lv_room (Nat.le_of_ble_eq_true rfl)) dX2_drop_26 ⟨Nat.le_of_ble_eq_true rfl, Nat.le_of_ble_eq_true rfl⟩) (fun r_1 u H locs hw hP hD hS => ?_)
      have hP := hP.sub (ws' := wPB h ++ wLog cI cJ h (va_cpy B B (min g n) 0 (n - min g n)) (va_cpy P P (min g n) 0 (n - min g n)) (va_cpy E E (min g n) 0 (n - min g n)) (va_cpy S S (min g n) 0 (n - min g n)) (va_cpy L L (min g n) 0 (n - min g n)) (va_cpy N N (min g n) 0 (n - min g n)) (nI (n - min g n)) (nI ed) ++ wKn cI h kn0 Fz) [0, 3, 4, 5, 6, 7, 8, 9, 1, 2] rfl
      have hD := hD.sub (ws' := wPB h ++ wLog cI cJ h (va_cpy B B (min g n) 0 (n - min g n)) (va_cpy P P (min g n) 0 (n - min g n)) (va_cpy E E (min g n) 0 (n - min g n)) (va_cpy S S (min g n) 0 (n - min g n)) (va_cpy L L (min g n) 0 (n - min g n)) (va_cpy N N (min g n) 0 (n - min g n)) (nI (n - min g n)) (nI ed) ++ wKn cI h kn0 Fz) [0, 3, 4, 5, 6, 7, 8, 9, 1, 2] (by decide) rfl
      have hP : va_P (dC, dI) classes (wPB h ++ wLog cI cJ h (va_cpy B B (min g n) 0 (n - min g n)) (va_cpy P P (min g n) 0 (n - min g n)) (va_cpy E E (min g n) 0 (n - min g n)) (va_cpy S S (min g n) 0 (n - min g n)) (va_cpy L L (min g n) 0 (n - min g n)) (va_cpy N N (min g n) 0 (n - min g n)) (nI (n - min g n)) (nI ed) ++ wKn cI h kn0 Fz) H := hP
      have hD : va_D A (wPB h ++ wLog cI cJ h (va_cpy B B (min g n) 0 (n - min g n)) (va_cpy P P (min g n) 0 (n - min g n)) (va_cpy E E (min g n) 0 (n - min g n)) (va_cpy S S (min g n) 0 (n - min g n)) (va_cpy L L (min g n) 0 (n - min g n)) (va_cpy N N (min g n) 0 (n - min g n)) (nI (n - min g n)) (nI ed) ++ wKn cI h kn0 Fz) := hD
      refine vx_ret ?_
      refine W.widen (k := 1) (n := 6) (Nat.le_of_ble_eq_true rfl) (Nat.le_of_ble_eq_true rfl) ?_
      exact xh_iret hx hb hr (g) (⟨rfl, hg, hw⟩) hP hK hD hS dX2_drop_29 hlocks
    · exact xh_thrA hx hb hl0 hts hown hX (is := 63) (text := "n is not 0 .. 2000") (by decide +kernel) hS (hl.1.trans hml.symm) dX2_drop_11 dX2_drop_14 dX2_drop_15 dX2_drop_17 dX2_drop_20 hnt (Nat.le_of_ble_eq_true rfl) (Nat.le_of_ble_eq_true rfl) (Nat.le_of_ble_eq_true rfl) (Nat.le_of_ble_eq_true rfl) hlocks (fun t hvm hz hq => ⟨(), trivial, ⟨⟨rfl, fun g => c_8 g.2⟩, (xh_xc hP hK hD hS hvm hz hq).1⟩, (xh_xc hP hK hD hS hvm hz hq).2⟩) hS.2.2 (Nat.le_of_ble_eq_true rfl) (Nat.le_of_ble_eq_true rfl)

set_option maxHeartbeats 4000000 in
set_option maxRecDepth 100000 in
/-- thin -/
theorem c_PB_thin (l : Launch) (dC : Nat → ClassId) (dI : Nat → Nat → Nat) (cI cJ : ClassId) (h : Nat → Nat) (sz : Nat) (B : Nat → Int32) (P : Nat → Int64) (E S L N : Nat → Int32) (n ed : Nat) (Fz : Nat → Int32) (kn0 : Int32) (hn : n ≤ 2000) : Met l yX2_thin wsX2_thin ({ frames := 3, cells := 0, slots := 0, locals := 150 } : Room) (va_Pc [.ref (h 0)] (xP (dC, dI) classes [(cI, FieldType.int), (cJ, FieldType.long)] (wPB h ++ wLog cI cJ h B P E S L N (nI n) (nI ed) ++ wKn cI h kn0 Fz) sz)) (va_Qi (fun (r : Int32) (u : (Nat → Int32) × (Nat → Int64) × (Nat → Int32) × (Nat → Int32) × (Nat → Int32) × (Nat → Int32)) => r = nI (n - pb_kn N n) ∧ pb_cm N n B u.1 ∧ pb_cm N n P u.2.1 ∧ pb_cm N n E u.2.2.1 ∧ pb_cm N n S u.2.2.2.1 ∧ pb_cm N n L u.2.2.2.2.1 ∧ pb_cm N n N u.2.2.2.2.2) (fun u => xB (dC, dI) classes [(cI, FieldType.int), (cJ, FieldType.long)] (va_A (wPB h ++ wLog cI cJ h B P E S L N (nI n) (nI ed) ++ wKn cI h kn0 Fz) sz) ((fun (u : (Nat → Int32) × (Nat → Int64) × (Nat → Int32) × (Nat → Int32) × (Nat → Int32) × (Nat → Int32)) => wPB h ++ wLog cI cJ h u.1 u.2.1 u.2.2.1 u.2.2.2.1 u.2.2.2.2.1 u.2.2.2.2.2 (nI (pb_kn N n)) (nI ed) ++ wKn cI h kn0 Fz) u)) (va_A (wPB h ++ wLog cI cJ h B P E S L N (nI n) (nI ed) ++ wKn cI h kn0 Fz) sz)) 0 0 (va_A (wPB h ++ wLog cI cJ h B P E S L N (nI n) (nI ed) ++ wKn cI h kn0 Fz) sz) := by
  refine Met.ofW (cc := cX2_thin) (maxL := 1) (ret := (some .int)) (by decide) rfl ?_
  intro p e s m args below meth c s₁ BB hml hv
  obtain ⟨rfl, hsz, hP, hK, hD0⟩ := hv
  have hx := BB.exec
  have hb := BB.bytes
  have hr := BB.returns
  have hts := atoms_spec (ws := wsX2_thin) BB.pre
  have hown : s.vm.findClass RX2 = some m.cls := findClass_of_methodNamed BB.named
  have hlocks := BB.notSynchronized
  subst hsz
  have hD := hD0.self (sz := s.heap.size)
  generalize hAe : va_A (wPB h ++ wLog cI cJ h B P E S L N (nI n) (nI ed) ++ wKn cI h kn0 Fz) s.heap.size = A at hD ⊢
  have hA : ∀ q : Nat, s.heap.size ≤ q → A q := fun q h => by rw [← hAe]; exact Or.inr h
  have hS : va_S A s.heap s.heap [] := va_S.rf
  have hl := lv_entry ([.ref (h 0)]) (n := 1) (Nat.le_of_ble_eq_true rfl)
  rw [lg_entry_eq]
  generalize (lg_sl ([.ref (h 0)]) ++ List.replicate (1 - (lg_sl ([.ref (h 0)])).length) Slot.unset).toArray = ls at hl ⊢
  have hl : lv_has ls 1 [(0, .ref (h 0))] := hl
  have hP : va_P (dC, dI) classes (wPB h ++ wLog cI cJ h B P E S L N (nI n) (nI ed) ++ wKn cI h kn0 Fz) s.heap := hP
  refine lv_aload_n hx hb dX2_thin_0 rfl (lv_at hl 0 rfl) ?_
  refine va_get (D := (dC, dI)) (ci := 2) (v := .ref (h 1)) (C := RX2) (T := TX2) (N := 2) hx hb hts (fun w9 h9 => mm (inX2 w9 h9)) hown hK hP 0 rfl rfl 0 (by decide) (hts (.fieldLink RX2 10 "ProducerBook" "log" "LProducerBook$Log;") (mm aw_76)) (fun _ h9 => h9) rfl dX2_thin_1 ?_
  refine xh_calli (wc := wLog cI cJ h B P E S L N (nI n) (nI ed)) (wr := wPB h ++ wKn cI h kn0 Fz) (w1 := fun (u : (Nat → Int32) × (Nat → Int64) × (Nat → Int32) × (Nat → Int32) × (Nat → Int32) × (Nat → Int32)) => wLog cI cJ h u.1 u.2.1 u.2.2.1 u.2.2.2.1 u.2.2.2.2.1 u.2.2.2.2.2 (nI (pb_kn N n)) (nI ed)) hP hD hS hA [1, 2, 3, 4, 5, 6, 7] [0, 8, 9] rfl rfl (by decide) (by decide) (va_runV (As := []) (rest := []) ⟨hx, hb, hml, hown, hts⟩ (c_Log_removeUnknown l dC dI cI cJ h s.heap.size B P E S L N n ed hn) (cwV 0 hts (aw_V aw_87 aw_88 aw_89 aw_2 aw_90) rfl rfl rfl (by decide +kernel) ⟨Nat.le_of_ble_eq_true rfl, Nat.le_of_ble_eq_true rfl⟩) (xh_preV (r0 := 0) hK (hP.sub (ws' := wLog cI cJ h B P E S L N (nI n) (nI ed)) [1, 2, 3, 4, 5, 6, 7] rfl) (hD.sub (ws' := wLog cI cJ h B P E S L N (nI n) (nI ed)) [1, 2, 3, 4, 5, 6, 7] (by decide) rfl) rfl rfl rfl) rfl rfl hl.1 rfl (lv_room (Nat.le_of_ble_eq_true rfl)) dX2_thin_4 ⟨Nat.le_of_ble_eq_true rfl, Nat.le_of_ble_eq_true rfl⟩) (fun r_1 u H locs hw hP hD hS => ?_)
  have hP := hP.sub (ws' := wPB h ++ wLog cI cJ h u.1 u.2.1 u.2.2.1 u.2.2.2.1 u.2.2.2.2.1 u.2.2.2.2.2 (nI (pb_kn N n)) (nI ed) ++ wKn cI h kn0 Fz) [0, 3, 4, 5, 6, 7, 8, 9, 1, 2] rfl
  have hD := hD.sub (ws' := wPB h ++ wLog cI cJ h u.1 u.2.1 u.2.2.1 u.2.2.2.1 u.2.2.2.2.1 u.2.2.2.2.2 (nI (pb_kn N n)) (nI ed) ++ wKn cI h kn0 Fz) [0, 3, 4, 5, 6, 7, 8, 9, 1, 2] (by decide) rfl
  have hP : va_P (dC, dI) classes (wPB h ++ wLog cI cJ h u.1 u.2.1 u.2.2.1 u.2.2.2.1 u.2.2.2.2.1 u.2.2.2.2.2 (nI (pb_kn N n)) (nI ed) ++ wKn cI h kn0 Fz) H := hP
  have hD : va_D A (wPB h ++ wLog cI cJ h u.1 u.2.1 u.2.2.1 u.2.2.2.1 u.2.2.2.2.1 u.2.2.2.2.2 (nI (pb_kn N n)) (nI ed) ++ wKn cI h kn0 Fz) := hD
  exact xh_iret hx hb hr (u) (hw) hP hK hD hS dX2_thin_7 hlocks
