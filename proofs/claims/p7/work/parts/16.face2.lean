set_option maxHeartbeats 4000000 in
set_option maxRecDepth 100000 in
/-- count -/
theorem c_PB_count (l : Launch) (dC : Nat → ClassId) (dI : Nat → Nat → Nat) (cI cJ : ClassId) (h : Nat → Nat) (sz : Nat) (B : Nat → Int32) (P : Nat → Int64) (E S L N : Nat → Int32) (n ed : Nat) (Fz : Nat → Int32) (kn0 : Int32) (x : Int32) (hl0 : l.stackTraces = false) (hn : n ≤ 2000) (hed : ed ≤ 1000000) (hN : ∀ k, k < n → N k = nI (pb_nv P n k)) : vx_Met l yX2_count wsX2_count ({ frames := 6, cells := 1, slots := 6, locals := 150 } : Room) (va_Pc [.ref (h 0), .int x] (fun U => xP (dC, dI) classes [(cI, FieldType.int), (cJ, FieldType.long)] (wPB h ++ wLog cI cJ h B P E S L N (nI n) (nI ed) ++ wKn cI h kn0 Fz) sz U ∧ xX (va_A (wPB h ++ wLog cI cJ h B P E S L N (nI n) (nI ed) ++ wKn cI h kn0 Fz) sz) U)) (va_Qi (fun (r : Int32) (_ : Unit) => (x = nI 0 ∧ r = nI n) ∨ (x = nI 1 ∧ r = nI (pb_c0 N n)) ∨ (x = nI 2 ∧ r = nI ed)) (fun u => xB (dC, dI) classes [(cI, FieldType.int), (cJ, FieldType.long)] (va_A (wPB h ++ wLog cI cJ h B P E S L N (nI n) (nI ed) ++ wKn cI h kn0 Fz) sz) ((fun (_ : Unit) => wPB h ++ wLog cI cJ h B P E S L N (nI n) (nI ed) ++ wKn cI h kn0 Fz) u)) (va_A (wPB h ++ wLog cI cJ h B P E S L N (nI n) (nI ed) ++ wKn cI h kn0 Fz) sz)) (xXC (dC, dI) classes [(cI, FieldType.int), (cJ, FieldType.long)] (va_A (wPB h ++ wLog cI cJ h B P E S L N (nI n) (nI ed) ++ wKn cI h kn0 Fz) sz) (fun (E9 : String) (_ : Unit) => E9 = xIA ∧ ¬ x = nI 0 ∧ ¬ x = nI 1 ∧ ¬ x = nI 2) (fun (_ : Unit) => wPB h ++ wLog cI cJ h B P E S L N (nI n) (nI ed) ++ wKn cI h kn0 Fz)) 1 6 (va_A (wPB h ++ wLog cI cJ h B P E S L N (nI n) (nI ed) ++ wKn cI h kn0 Fz) sz) := by
  refine vx_ofW (cc := cX2_count) (maxL := 2) (ret := (some .int)) (by decide) rfl ?_
  intro p e s m args below meth c s₁ BB hml hnt hv
  obtain ⟨rfl, ⟨hsz, hP, hK, hD0⟩, hX⟩ := hv
  have hx := BB.exec
  have hb := BB.bytes
  have hr := BB.returns
  have hts := atoms_spec (ws := wsX2_count) BB.pre
  have hown : s.vm.findClass RX2 = some m.cls := findClass_of_methodNamed BB.named
  have hlocks := BB.notSynchronized
  subst hsz
  have hD := hD0.self (sz := s.heap.size)
  generalize hAe : va_A (wPB h ++ wLog cI cJ h B P E S L N (nI n) (nI ed) ++ wKn cI h kn0 Fz) s.heap.size = A at hD hX ⊢
  have hA : ∀ q : Nat, s.heap.size ≤ q → A q := fun q h => by rw [← hAe]; exact Or.inr h
  have hS : va_S A s.heap s.heap [] := va_S.rf
  have hl := lv_entry ([.ref (h 0), .int x]) (n := 2) (Nat.le_of_ble_eq_true rfl)
  rw [lg_entry_eq]
  generalize (lg_sl ([.ref (h 0), .int x]) ++ List.replicate (2 - (lg_sl ([.ref (h 0), .int x])).length) Slot.unset).toArray = ls at hl ⊢
  have hl : lv_has ls 2 [(0, .ref (h 0)), (1, .int x)] := hl
  have hP : va_P (dC, dI) classes (wPB h ++ wLog cI cJ h B P E S L N (nI n) (nI ed) ++ wKn cI h kn0 Fz) s.heap := hP
  by_cases h0 : x = nI 0
  · subst h0
    refine lv_iload_n hx hb dX2_count_0 rfl (lv_at hl 1 rfl) ?_
    refine lv_tableIn (off := 27) (tgt := 28) hx hb dX2_count_1 (by decide) (by decide) (by decide) (by decide) ?_
    refine lv_aload_n hx hb dX2_count_28 rfl (lv_at hl 0 rfl) ?_
    refine va_get (D := (dC, dI)) (ci := 2) (v := .ref (h 1)) (C := RX2) (T := TX2) (N := 2) hx hb hts (fun w9 h9 => mm (inX2 w9 h9)) hown hK hP 0 rfl rfl 0 (by decide) (hts (.fieldLink RX2 10 "ProducerBook" "log" "LProducerBook$Log;") (mm aw_76)) (fun _ h9 => h9) rfl dX2_count_29 ?_
    refine va_get (D := (dC, dI)) (ci := 1) (v := .int (nI n)) (C := RX1) (T := TX1) (N := 8) hx hb hts (fun w9 h9 => mm (inX1 w9 h9)) hown hK hP 1 rfl rfl 6 (by decide) (hts (.fieldLink RX2 55 "ProducerBook$Log" "size" "I") (mm aw_38)) (fun _ h9 => h9) rfl dX2_count_32 ?_
    refine vx_ret ?_
    refine W.widen (k := 1) (n := 6) (Nat.le_of_ble_eq_true rfl) (Nat.le_of_ble_eq_true rfl) ?_
    exact xh_iret hx hb hr (()) (Or.inl ⟨rfl, rfl⟩) hP hK hD hS dX2_count_35 hlocks
  by_cases h1 : x = nI 1
  · subst h1
    refine lv_iload_n hx hb dX2_count_0 rfl (lv_at hl 1 rfl) ?_
    refine lv_tableIn (off := 35) (tgt := 36) hx hb dX2_count_1 (by decide) (by decide) (by decide) (by decide) ?_
    refine lv_aload_n hx hb dX2_count_36 rfl (lv_at hl 0 rfl) ?_
    refine va_get (D := (dC, dI)) (ci := 2) (v := .ref (h 1)) (C := RX2) (T := TX2) (N := 2) hx hb hts (fun w9 h9 => mm (inX2 w9 h9)) hown hK hP 0 rfl rfl 0 (by decide) (hts (.fieldLink RX2 10 "ProducerBook" "log" "LProducerBook$Log;") (mm aw_76)) (fun _ h9 => h9) rfl dX2_count_37 ?_
    refine xh_calli (wc := wLog cI cJ h B P E S L N (nI n) (nI ed)) (wr := wPB h ++ wKn cI h kn0 Fz) (w1 := fun (u : Unit) => wLog cI cJ h B P E S L N (nI n) (nI ed)) hP hD hS hA [1, 2, 3, 4, 5, 6, 7] [0, 8, 9] rfl rfl (by decide) (by decide) (va_runV (As := []) (rest := []) ⟨hx, hb, hml, hown, hts⟩ (c_Log_countProducers l dC dI cI cJ h s.heap.size B P E S L N n ed hn) (cwV 0 hts (aw_V aw_297 aw_298 aw_299 aw_2 aw_300) rfl rfl rfl (by decide +kernel) ⟨Nat.le_of_ble_eq_true rfl, Nat.le_of_ble_eq_true rfl⟩) (xh_preV (r0 := 0) hK (hP.sub (ws' := wLog cI cJ h B P E S L N (nI n) (nI ed)) [1, 2, 3, 4, 5, 6, 7] rfl) (hD.sub (ws' := wLog cI cJ h B P E S L N (nI n) (nI ed)) [1, 2, 3, 4, 5, 6, 7] (by decide) rfl) rfl rfl rfl) rfl rfl hl.1 rfl (lv_room (Nat.le_of_ble_eq_true rfl)) dX2_count_40 ⟨Nat.le_of_ble_eq_true rfl, Nat.le_of_ble_eq_true rfl⟩) (fun r_1 u H locs hw hP hD hS => ?_)
    have hP := hP.sub (ws' := wPB h ++ wLog cI cJ h B P E S L N (nI n) (nI ed) ++ wKn cI h kn0 Fz) [0, 3, 4, 5, 6, 7, 8, 9, 1, 2] rfl
    have hD := hD.sub (ws' := wPB h ++ wLog cI cJ h B P E S L N (nI n) (nI ed) ++ wKn cI h kn0 Fz) [0, 3, 4, 5, 6, 7, 8, 9, 1, 2] (by decide) rfl
    have hP : va_P (dC, dI) classes (wPB h ++ wLog cI cJ h B P E S L N (nI n) (nI ed) ++ wKn cI h kn0 Fz) H := hP
    have hD : va_D A (wPB h ++ wLog cI cJ h B P E S L N (nI n) (nI ed) ++ wKn cI h kn0 Fz) := hD
    refine vx_ret ?_
    refine W.widen (k := 1) (n := 6) (Nat.le_of_ble_eq_true rfl) (Nat.le_of_ble_eq_true rfl) ?_
    exact xh_iret hx hb hr (()) (Or.inr (Or.inl ⟨rfl, hw⟩)) hP hK hD hS dX2_count_43 hlocks
  by_cases h2 : x = nI 2
  · subst h2
    refine lv_iload_n hx hb dX2_count_0 rfl (lv_at hl 1 rfl) ?_
    refine lv_tableIn (off := 43) (tgt := 44) hx hb dX2_count_1 (by decide) (by decide) (by decide) (by decide) ?_
    refine lv_aload_n hx hb dX2_count_44 rfl (lv_at hl 0 rfl) ?_
    refine va_get (D := (dC, dI)) (ci := 2) (v := .ref (h 1)) (C := RX2) (T := TX2) (N := 2) hx hb hts (fun w9 h9 => mm (inX2 w9 h9)) hown hK hP 0 rfl rfl 0 (by decide) (hts (.fieldLink RX2 10 "ProducerBook" "log" "LProducerBook$Log;") (mm aw_76)) (fun _ h9 => h9) rfl dX2_count_45 ?_
    refine va_get (D := (dC, dI)) (ci := 1) (v := .int (nI ed)) (C := RX1) (T := TX1) (N := 8) hx hb hts (fun w9 h9 => mm (inX1 w9 h9)) hown hK hP 1 rfl rfl 7 (by decide) (hts (.fieldLink RX2 108 "ProducerBook$Log" "end" "I") (mm aw_40)) (fun _ h9 => h9) rfl dX2_count_48 ?_
    refine vx_ret ?_
    refine W.widen (k := 1) (n := 6) (Nat.le_of_ble_eq_true rfl) (Nat.le_of_ble_eq_true rfl) ?_
    exact xh_iret hx hb hr (()) (Or.inr (Or.inr ⟨rfl, rfl⟩)) hP hK hD hS dX2_count_51 hlocks
  refine lv_iload_n hx hb dX2_count_0 rfl (lv_at hl 1 rfl) ?_
  refine lv_tableOut (tgt := 52) hx hb dX2_count_1 (pb_out3 h0 h1 h2) (by decide) ?_
  exact xh_thrA hx hb hl0 hts hown hX (is := 111) (text := "what is not 0 .. 2") (by decide +kernel) hS (hl.1.trans hml.symm) dX2_count_52 dX2_count_55 dX2_count_56 dX2_count_58 dX2_count_61 hnt (Nat.le_of_ble_eq_true rfl) (Nat.le_of_ble_eq_true rfl) (Nat.le_of_ble_eq_true rfl) (Nat.le_of_ble_eq_true rfl) hlocks (fun t hvm hz hq => ⟨(), trivial, ⟨⟨rfl, h0, h1, h2⟩, (xh_xc hP hK hD hS hvm hz hq).1⟩, (xh_xc hP hK hD hS hvm hz hq).2⟩) hS.2.2 (Nat.le_of_ble_eq_true rfl) (Nat.le_of_ble_eq_true rfl)

set_option maxHeartbeats 4000000 in
set_option maxRecDepth 100000 in
/-- batch -/
theorem c_PB_batch (l : Launch) (dC : Nat → ClassId) (dI : Nat → Nat → Nat) (cI cJ : ClassId) (h : Nat → Nat) (sz : Nat) (B : Nat → Int32) (P : Nat → Int64) (E S L N : Nat → Int32) (n ed : Nat) (Fz : Nat → Int32) (kn0 : Int32) (x y : Int32) (hl0 : l.stackTraces = false) (hn : n ≤ 2000) (hed : ed ≤ 1000000) (hN : ∀ k, k < n → N k = nI (pb_nv P n k)) : vx_Met l yX2_batch wsX2_batch ({ frames := 6, cells := 1, slots := 6, locals := 150 } : Room) (va_Pc [.ref (h 0), .int x, .int y] (fun U => xP (dC, dI) classes [(cI, FieldType.int), (cJ, FieldType.long)] (wPB h ++ wLog cI cJ h B P E S L N (nI n) (nI ed) ++ wKn cI h kn0 Fz) sz U ∧ xX (va_A (wPB h ++ wLog cI cJ h B P E S L N (nI n) (nI ed) ++ wKn cI h kn0 Fz) sz) U)) (va_Ql (fun (r : Int64) (u : Nat × Nat) => x = nI u.1 ∧ u.1 < n ∧ y = nI u.2 ∧ u.2 ≤ 5 ∧ r = pb_bat B P E S L n u.1 u.2) (fun u => xB (dC, dI) classes [(cI, FieldType.int), (cJ, FieldType.long)] (va_A (wPB h ++ wLog cI cJ h B P E S L N (nI n) (nI ed) ++ wKn cI h kn0 Fz) sz) ((fun (_ : Nat × Nat) => wPB h ++ wLog cI cJ h B P E S L N (nI n) (nI ed) ++ wKn cI h kn0 Fz) u)) (va_A (wPB h ++ wLog cI cJ h B P E S L N (nI n) (nI ed) ++ wKn cI h kn0 Fz) sz)) (xXC (dC, dI) classes [(cI, FieldType.int), (cJ, FieldType.long)] (va_A (wPB h ++ wLog cI cJ h B P E S L N (nI n) (nI ed) ++ wKn cI h kn0 Fz) sz) (fun (E9 : String) (_ : Unit) => E9 = xIA ∧ ¬ (¬ x < 0 ∧ ¬ nI n ≤ x ∧ ¬ y < 0 ∧ y ≤ nI 5)) (fun (_ : Unit) => wPB h ++ wLog cI cJ h B P E S L N (nI n) (nI ed) ++ wKn cI h kn0 Fz)) 1 6 (va_A (wPB h ++ wLog cI cJ h B P E S L N (nI n) (nI ed) ++ wKn cI h kn0 Fz) sz) := by
  refine vx_ofW (cc := cX2_batch) (maxL := 3) (ret := (some .long)) (by decide) rfl ?_
  intro p e s m args below meth c s₁ BB hml hnt hv
  obtain ⟨rfl, ⟨hsz, hP, hK, hD0⟩, hX⟩ := hv
  have hx := BB.exec
  have hb := BB.bytes
  have hr := BB.returns
  have hts := atoms_spec (ws := wsX2_batch) BB.pre
  have hown : s.vm.findClass RX2 = some m.cls := findClass_of_methodNamed BB.named
  have hlocks := BB.notSynchronized
  subst hsz
  have hD := hD0.self (sz := s.heap.size)
  generalize hAe : va_A (wPB h ++ wLog cI cJ h B P E S L N (nI n) (nI ed) ++ wKn cI h kn0 Fz) s.heap.size = A at hD hX ⊢
  have hA : ∀ q : Nat, s.heap.size ≤ q → A q := fun q h => by rw [← hAe]; exact Or.inr h
  have hS : va_S A s.heap s.heap [] := va_S.rf
  have hl := lv_entry ([.ref (h 0), .int x, .int y]) (n := 3) (Nat.le_of_ble_eq_true rfl)
  rw [lg_entry_eq]
  generalize (lg_sl ([.ref (h 0), .int x, .int y]) ++ List.replicate (3 - (lg_sl ([.ref (h 0), .int x, .int y])).length) Slot.unset).toArray = ls at hl ⊢
  have hl : lv_has ls 3 [(0, .ref (h 0)), (1, .int x), (2, .int y)] := hl
  have hP : va_P (dC, dI) classes (wPB h ++ wLog cI cJ h B P E S L N (nI n) (nI ed) ++ wKn cI h kn0 Fz) s.heap := hP
  refine lv_iload_n hx hb dX2_batch_0 rfl (lv_at hl 1 rfl) ?_
  refine lv_if_lt (tgt := 24) hx hb dX2_batch_1 (by decide) (fun c_1 => ?_) (fun c_1 => ?_)
  · exact xh_thrA hx hb hl0 hts hown hX (is := 95) (text := "there is no such batch, or what is not 0 .. 5") (by decide +kernel) hS (hl.1.trans hml.symm) dX2_batch_24 dX2_batch_27 dX2_batch_28 dX2_batch_30 dX2_batch_33 hnt (Nat.le_of_ble_eq_true rfl) (Nat.le_of_ble_eq_true rfl) (Nat.le_of_ble_eq_true rfl) (Nat.le_of_ble_eq_true rfl) hlocks (fun t hvm hz hq => ⟨(), trivial, ⟨⟨rfl, fun g => g.1 c_1⟩, (xh_xc hP hK hD hS hvm hz hq).1⟩, (xh_xc hP hK hD hS hvm hz hq).2⟩) hS.2.2 (Nat.le_of_ble_eq_true rfl) (Nat.le_of_ble_eq_true rfl)
  · refine lv_iload_n hx hb dX2_batch_4 rfl (lv_at hl 1 rfl) ?_
    refine lv_aload_n hx hb dX2_batch_5 rfl (lv_at hl 0 rfl) ?_
    refine va_get (D := (dC, dI)) (ci := 2) (v := .ref (h 1)) (C := RX2) (T := TX2) (N := 2) hx hb hts (fun w9 h9 => mm (inX2 w9 h9)) hown hK hP 0 rfl rfl 0 (by decide) (hts (.fieldLink RX2 10 "ProducerBook" "log" "LProducerBook$Log;") (mm aw_76)) (fun _ h9 => h9) rfl dX2_batch_6 ?_
    refine va_get (D := (dC, dI)) (ci := 1) (v := .int (nI n)) (C := RX1) (T := TX1) (N := 8) hx hb hts (fun w9 h9 => mm (inX1 w9 h9)) hown hK hP 1 rfl rfl 6 (by decide) (hts (.fieldLink RX2 55 "ProducerBook$Log" "size" "I") (mm aw_38)) (fun _ h9 => h9) rfl dX2_batch_9 ?_
    refine lv_icmp_ge (tgt := 24) hx hb dX2_batch_12 (by decide) (fun c_12 => ?_) (fun c_12 => ?_)
    · exact xh_thrA hx hb hl0 hts hown hX (is := 95) (text := "there is no such batch, or what is not 0 .. 5") (by decide +kernel) hS (hl.1.trans hml.symm) dX2_batch_24 dX2_batch_27 dX2_batch_28 dX2_batch_30 dX2_batch_33 hnt (Nat.le_of_ble_eq_true rfl) (Nat.le_of_ble_eq_true rfl) (Nat.le_of_ble_eq_true rfl) (Nat.le_of_ble_eq_true rfl) hlocks (fun t hvm hz hq => ⟨(), trivial, ⟨⟨rfl, fun g => g.2.1 c_12⟩, (xh_xc hP hK hD hS hvm hz hq).1⟩, (xh_xc hP hK hD hS hvm hz hq).2⟩) hS.2.2 (Nat.le_of_ble_eq_true rfl) (Nat.le_of_ble_eq_true rfl)
    · refine lv_iload_n hx hb dX2_batch_15 rfl (lv_at hl 2 rfl) ?_
      refine lv_if_lt (tgt := 24) hx hb dX2_batch_16 (by decide) (fun c_16 => ?_) (fun c_16 => ?_)
      · exact xh_thrA hx hb hl0 hts hown hX (is := 95) (text := "there is no such batch, or what is not 0 .. 5") (by decide +kernel) hS (hl.1.trans hml.symm) dX2_batch_24 dX2_batch_27 dX2_batch_28 dX2_batch_30 dX2_batch_33 hnt (Nat.le_of_ble_eq_true rfl) (Nat.le_of_ble_eq_true rfl) (Nat.le_of_ble_eq_true rfl) (Nat.le_of_ble_eq_true rfl) hlocks (fun t hvm hz hq => ⟨(), trivial, ⟨⟨rfl, fun g => g.2.2.1 c_16⟩, (xh_xc hP hK hD hS hvm hz hq).1⟩, (xh_xc hP hK hD hS hvm hz hq).2⟩) hS.2.2 (Nat.le_of_ble_eq_true rfl) (Nat.le_of_ble_eq_true rfl)
      · refine lv_iload_n hx hb dX2_batch_19 rfl (lv_at hl 2 rfl) ?_
        refine lv_iconst (v := nI 5) hx hb dX2_batch_20 (by decide +kernel) ?_
        refine lv_icmp_le (tgt := 34) hx hb dX2_batch_21 (by decide) (fun c_21 => ?_) (fun c_21 => ?_)
        · obtain ⟨k, _, ek⟩ := nI_of c_1
          subst ek
          have hk : k < n := Nat.lt_of_not_le fun g => c_12 ((nI_leI (by omega) (by omega)).mpr g)
          obtain ⟨y9, hy9, ey⟩ := nI_of2 (M := nI 5) (n := 5) (by decide) c_16 c_21
          subst ey
          rcases (show y9 = 0 ∨ y9 = 1 ∨ y9 = 2 ∨ y9 = 3 ∨ y9 = 4 ∨ y9 = 5 by omega) with h9 | h9 | h9 | h9 | h9 | h9
          · subst h9
            refine lv_iload_n hx hb dX2_batch_34 rfl (lv_at hl 2 rfl) ?_
            refine lv_tableIn (off := 33) (tgt := 68) hx hb dX2_batch_35 (by decide) (by decide) (by decide) (by decide) ?_
            refine lv_aload_n hx hb dX2_batch_68 rfl (lv_at hl 0 rfl) ?_
            refine va_get (D := (dC, dI)) (ci := 2) (v := .ref (h 1)) (C := RX2) (T := TX2) (N := 2) hx hb hts (fun w9 h9 => mm (inX2 w9 h9)) hown hK hP 0 rfl rfl 0 (by decide) (hts (.fieldLink RX2 10 "ProducerBook" "log" "LProducerBook$Log;") (mm aw_76)) (fun _ h9 => h9) rfl dX2_batch_69 ?_
            refine va_get (D := (dC, dI)) (ci := 1) (v := .ref (h 2)) (C := RX1) (T := TX1) (N := 8) hx hb hts (fun w9 h9 => mm (inX1 w9 h9)) hown hK hP 1 rfl rfl 0 (by decide) (hts (.fieldLink RX2 89 "ProducerBook$Log" "base" "[I") (mm aw_27)) (fun _ h9 => h9) rfl dX2_batch_72 ?_
            refine lv_iload_n hx hb dX2_batch_75 rfl (lv_at hl 1 rfl) ?_
            refine xh_iald hx hb hK hP 2 0 rfl rfl (k := k) (by omega) (by decide) dX2_batch_76 ?_
            refine lv_i2l (v := (B k).toInt64) hx hb dX2_batch_77 rfl ?_
            refine vx_ret ?_
            refine W.widen (k := 1) (n := 6) (Nat.le_of_ble_eq_true rfl) (Nat.le_of_ble_eq_true rfl) ?_
            exact xh_lret hx hb hr ((k, 0)) (⟨rfl, hk, rfl, Nat.le_of_ble_eq_true rfl, rfl⟩) hP hK hD hS dX2_batch_78 hlocks
          · subst h9
            refine lv_iload_n hx hb dX2_batch_34 rfl (lv_at hl 2 rfl) ?_
            refine lv_tableIn (off := 44) (tgt := 79) hx hb dX2_batch_35 (by decide) (by decide) (by decide) (by decide) ?_
            refine lv_aload_n hx hb dX2_batch_79 rfl (lv_at hl 0 rfl) ?_
            refine va_get (D := (dC, dI)) (ci := 2) (v := .ref (h 1)) (C := RX2) (T := TX2) (N := 2) hx hb hts (fun w9 h9 => mm (inX2 w9 h9)) hown hK hP 0 rfl rfl 0 (by decide) (hts (.fieldLink RX2 10 "ProducerBook" "log" "LProducerBook$Log;") (mm aw_76)) (fun _ h9 => h9) rfl dX2_batch_80 ?_
            refine va_get (D := (dC, dI)) (ci := 1) (v := .ref (h 3)) (C := RX1) (T := TX1) (N := 8) hx hb hts (fun w9 h9 => mm (inX1 w9 h9)) hown hK hP 1 rfl rfl 1 (by decide) (hts (.fieldLink RX2 97 "ProducerBook$Log" "producer" "[J") (mm aw_29)) (fun _ h9 => h9) rfl dX2_batch_83 ?_
            refine lv_iload_n hx hb dX2_batch_86 rfl (lv_at hl 1 rfl) ?_
            refine xh_lald hx hb hK hP 3 1 rfl rfl (k := k) (by omega) (by decide) dX2_batch_87 ?_
            refine vx_ret ?_
            refine W.widen (k := 1) (n := 6) (Nat.le_of_ble_eq_true rfl) (Nat.le_of_ble_eq_true rfl) ?_
            exact xh_lret hx hb hr ((k, 1)) (⟨rfl, hk, rfl, Nat.le_of_ble_eq_true rfl, rfl⟩) hP hK hD hS dX2_batch_88 hlocks
          · subst h9
            refine lv_iload_n hx hb dX2_batch_34 rfl (lv_at hl 2 rfl) ?_
            refine lv_tableIn (off := 54) (tgt := 89) hx hb dX2_batch_35 (by decide) (by decide) (by decide) (by decide) ?_
            refine lv_aload_n hx hb dX2_batch_89 rfl (lv_at hl 0 rfl) ?_
            refine va_get (D := (dC, dI)) (ci := 2) (v := .ref (h 1)) (C := RX2) (T := TX2) (N := 2) hx hb hts (fun w9 h9 => mm (inX2 w9 h9)) hown hK hP 0 rfl rfl 0 (by decide) (hts (.fieldLink RX2 10 "ProducerBook" "log" "LProducerBook$Log;") (mm aw_76)) (fun _ h9 => h9) rfl dX2_batch_90 ?_
            refine va_get (D := (dC, dI)) (ci := 1) (v := .ref (h 4)) (C := RX1) (T := TX1) (N := 8) hx hb hts (fun w9 h9 => mm (inX1 w9 h9)) hown hK hP 1 rfl rfl 2 (by decide) (hts (.fieldLink RX2 79 "ProducerBook$Log" "epoch" "[I") (mm aw_31)) (fun _ h9 => h9) rfl dX2_batch_93 ?_
            refine lv_iload_n hx hb dX2_batch_96 rfl (lv_at hl 1 rfl) ?_
            refine xh_iald hx hb hK hP 4 0 rfl rfl (k := k) (by omega) (by decide) dX2_batch_97 ?_
            refine lv_i2l (v := (E k).toInt64) hx hb dX2_batch_98 rfl ?_
            refine vx_ret ?_
            refine W.widen (k := 1) (n := 6) (Nat.le_of_ble_eq_true rfl) (Nat.le_of_ble_eq_true rfl) ?_
            exact xh_lret hx hb hr ((k, 2)) (⟨rfl, hk, rfl, Nat.le_of_ble_eq_true rfl, rfl⟩) hP hK hD hS dX2_batch_99 hlocks
          · subst h9
            refine lv_iload_n hx hb dX2_batch_34 rfl (lv_at hl 2 rfl) ?_
            refine lv_tableIn (off := 65) (tgt := 100) hx hb dX2_batch_35 (by decide) (by decide) (by decide) (by decide) ?_
            refine lv_aload_n hx hb dX2_batch_100 rfl (lv_at hl 0 rfl) ?_
            refine va_get (D := (dC, dI)) (ci := 2) (v := .ref (h 1)) (C := RX2) (T := TX2) (N := 2) hx hb hts (fun w9 h9 => mm (inX2 w9 h9)) hown hK hP 0 rfl rfl 0 (by decide) (hts (.fieldLink RX2 10 "ProducerBook" "log" "LProducerBook$Log;") (mm aw_76)) (fun _ h9 => h9) rfl dX2_batch_101 ?_
            refine va_get (D := (dC, dI)) (ci := 1) (v := .ref (h 5)) (C := RX1) (T := TX1) (N := 8) hx hb hts (fun w9 h9 => mm (inX1 w9 h9)) hown hK hP 1 rfl rfl 3 (by decide) (hts (.fieldLink RX2 83 "ProducerBook$Log" "sequence" "[I") (mm aw_33)) (fun _ h9 => h9) rfl dX2_batch_104 ?_
            refine lv_iload_n hx hb dX2_batch_107 rfl (lv_at hl 1 rfl) ?_
            refine xh_iald hx hb hK hP 5 0 rfl rfl (k := k) (by omega) (by decide) dX2_batch_108 ?_
            refine lv_i2l (v := (S k).toInt64) hx hb dX2_batch_109 rfl ?_
            refine vx_ret ?_
            refine W.widen (k := 1) (n := 6) (Nat.le_of_ble_eq_true rfl) (Nat.le_of_ble_eq_true rfl) ?_
            exact xh_lret hx hb hr ((k, 3)) (⟨rfl, hk, rfl, Nat.le_of_ble_eq_true rfl, rfl⟩) hP hK hD hS dX2_batch_110 hlocks
          · subst h9
            refine lv_iload_n hx hb dX2_batch_34 rfl (lv_at hl 2 rfl) ?_
            refine lv_tableIn (off := 76) (tgt := 111) hx hb dX2_batch_35 (by decide) (by decide) (by decide) (by decide) ?_
            refine lv_aload_n hx hb dX2_batch_111 rfl (lv_at hl 0 rfl) ?_
            refine va_get (D := (dC, dI)) (ci := 2) (v := .ref (h 1)) (C := RX2) (T := TX2) (N := 2) hx hb hts (fun w9 h9 => mm (inX2 w9 h9)) hown hK hP 0 rfl rfl 0 (by decide) (hts (.fieldLink RX2 10 "ProducerBook" "log" "LProducerBook$Log;") (mm aw_76)) (fun _ h9 => h9) rfl dX2_batch_112 ?_
            refine va_get (D := (dC, dI)) (ci := 1) (v := .ref (h 6)) (C := RX1) (T := TX1) (N := 8) hx hb hts (fun w9 h9 => mm (inX1 w9 h9)) hown hK hP 1 rfl rfl 4 (by decide) (hts (.fieldLink RX2 86 "ProducerBook$Log" "last" "[I") (mm aw_35)) (fun _ h9 => h9) rfl dX2_batch_115 ?_
            refine lv_iload_n hx hb dX2_batch_118 rfl (lv_at hl 1 rfl) ?_
            refine xh_iald hx hb hK hP 6 0 rfl rfl (k := k) (by omega) (by decide) dX2_batch_119 ?_
            refine lv_i2l (v := (L k).toInt64) hx hb dX2_batch_120 rfl ?_
            refine vx_ret ?_
            refine W.widen (k := 1) (n := 6) (Nat.le_of_ble_eq_true rfl) (Nat.le_of_ble_eq_true rfl) ?_
            exact xh_lret hx hb hr ((k, 4)) (⟨rfl, hk, rfl, Nat.le_of_ble_eq_true rfl, rfl⟩) hP hK hD hS dX2_batch_121 hlocks
          · subst h9
            refine lv_iload_n hx hb dX2_batch_34 rfl (lv_at hl 2 rfl) ?_
            refine lv_tableOut (tgt := 122) hx hb dX2_batch_35 (by decide) (by decide) ?_
            refine lv_aload_n hx hb dX2_batch_122 rfl (lv_at hl 0 rfl) ?_
            refine va_get (D := (dC, dI)) (ci := 2) (v := .ref (h 1)) (C := RX2) (T := TX2) (N := 2) hx hb hts (fun w9 h9 => mm (inX2 w9 h9)) hown hK hP 0 rfl rfl 0 (by decide) (hts (.fieldLink RX2 10 "ProducerBook" "log" "LProducerBook$Log;") (mm aw_76)) (fun _ h9 => h9) rfl dX2_batch_123 ?_
            refine lv_iload_n hx hb dX2_batch_126 rfl (lv_at hl 1 rfl) ?_
            refine xh_calli (wc := wLog cI cJ h B P E S L N (nI n) (nI ed)) (wr := wPB h ++ wKn cI h kn0 Fz) (w1 := fun (u : Unit) => wLog cI cJ h B P E S L N (nI n) (nI ed)) hP hD hS hA [1, 2, 3, 4, 5, 6, 7] [0, 8, 9] rfl rfl (by decide) (by decide) (va_runV (As := [.int (nI k)]) (rest := []) ⟨hx, hb, hml, hown, hts⟩ (c_Log_isKnown l dC dI cI cJ h s.heap.size B P E S L N n ed k (by omega)) (cwV 1 hts (aw_V aw_289 aw_92 aw_93 aw_2 aw_94) rfl rfl rfl (by decide +kernel) ⟨Nat.le_of_ble_eq_true rfl, Nat.le_of_ble_eq_true rfl⟩) (xh_preV (r0 := 0) hK (hP.sub (ws' := wLog cI cJ h B P E S L N (nI n) (nI ed)) [1, 2, 3, 4, 5, 6, 7] rfl) (hD.sub (ws' := wLog cI cJ h B P E S L N (nI n) (nI ed)) [1, 2, 3, 4, 5, 6, 7] (by decide) rfl) rfl rfl rfl) rfl rfl hl.1 rfl (lv_room (Nat.le_of_ble_eq_true rfl)) dX2_batch_127 ⟨Nat.le_of_ble_eq_true rfl, Nat.le_of_ble_eq_true rfl⟩) (fun r_1 u H locs hw hP hD hS => ?_)
            have hP := hP.sub (ws' := wPB h ++ wLog cI cJ h B P E S L N (nI n) (nI ed) ++ wKn cI h kn0 Fz) [0, 3, 4, 5, 6, 7, 8, 9, 1, 2] rfl
            have hD := hD.sub (ws' := wPB h ++ wLog cI cJ h B P E S L N (nI n) (nI ed) ++ wKn cI h kn0 Fz) [0, 3, 4, 5, 6, 7, 8, 9, 1, 2] (by decide) rfl
            have hP : va_P (dC, dI) classes (wPB h ++ wLog cI cJ h B P E S L N (nI n) (nI ed) ++ wKn cI h kn0 Fz) H := hP
            have hD : va_D A (wPB h ++ wLog cI cJ h B P E S L N (nI n) (nI ed) ++ wKn cI h kn0 Fz) := hD
            rw [hN k hk] at hw
            rcases hw with ⟨hk5, rfl⟩ | ⟨hk5, rfl⟩
            · have := pb_nv_le P n k
              refine lv_if_eq (tgt := 137) hx hb dX2_batch_130 (by decide) (fun c_130 => ?_) (fun c_130 => ?_)
              · exact absurd c_130 (by decide)
              · refine lv_lconst (v := 1) hx hb dX2_batch_133 (by decide) ?_
                refine lv_goto (tgt := 138) hx hb dX2_batch_134 (by decide) ?_
                refine vx_ret ?_
                refine W.widen (k := 1) (n := 6) (Nat.le_of_ble_eq_true rfl) (Nat.le_of_ble_eq_true rfl) ?_
                exact xh_lret hx hb hr ((k, 5)) (⟨rfl, hk, rfl, Nat.le_of_ble_eq_true rfl, (pb_bat5k B E S L hk5).symm⟩) hP hK hD hS dX2_batch_138 hlocks
            · have := pb_nv_le P n k
              refine lv_if_eq (tgt := 137) hx hb dX2_batch_130 (by decide) (fun c_130 => ?_) (fun c_130 => ?_)
              · refine lv_lconst (v := 0) hx hb dX2_batch_137 (by decide) ?_
                refine vx_ret ?_
                refine W.widen (k := 1) (n := 6) (Nat.le_of_ble_eq_true rfl) (Nat.le_of_ble_eq_true rfl) ?_
                exact xh_lret hx hb hr ((k, 5)) (⟨rfl, hk, rfl, Nat.le_of_ble_eq_true rfl, (pb_bat5u B E S L hk5).symm⟩) hP hK hD hS dX2_batch_138 hlocks
              · exact absurd (show nI 0 = 0 by decide) c_130
        · exact xh_thrA hx hb hl0 hts hown hX (is := 95) (text := "there is no such batch, or what is not 0 .. 5") (by decide +kernel) hS (hl.1.trans hml.symm) dX2_batch_24 dX2_batch_27 dX2_batch_28 dX2_batch_30 dX2_batch_33 hnt (Nat.le_of_ble_eq_true rfl) (Nat.le_of_ble_eq_true rfl) (Nat.le_of_ble_eq_true rfl) (Nat.le_of_ble_eq_true rfl) hlocks (fun t hvm hz hq => ⟨(), trivial, ⟨⟨rfl, fun g => c_21 g.2.2.2⟩, (xh_xc hP hK hD hS hvm hz hq).1⟩, (xh_xc hP hK hD hS hvm hz hq).2⟩) hS.2.2 (Nat.le_of_ble_eq_true rfl) (Nat.le_of_ble_eq_true rfl)

set_option maxHeartbeats 4000000 in
set_option maxRecDepth 100000 in
/-- known -/
theorem c_PB_known (l : Launch) (dC : Nat → ClassId) (dI : Nat → Nat → Nat) (cI cJ : ClassId) (h : Nat → Nat) (sz : Nat) (B : Nat → Int32) (P : Nat → Int64) (E S L N : Nat → Int32) (n ed : Nat) (Fz : Nat → Int32) (kn0 : Int32) (pr : Int64) (y : Int32) (hl0 : l.stackTraces = false) (hn : n ≤ 2000) (hed : ed ≤ 1000000) (hN : ∀ k, k < n → N k = nI (pb_nv P n k)) : vx_Met l yX2_known wsX2_known ({ frames := 6, cells := 1, slots := 6, locals := 150 } : Room) (va_Pc [.ref (h 0), .long pr, .int y] (fun U => xP (dC, dI) classes [(cI, FieldType.int), (cJ, FieldType.long)] (wPB h ++ wLog cI cJ h B P E S L N (nI n) (nI ed) ++ wKn cI h kn0 Fz) sz U ∧ xX (va_A (wPB h ++ wLog cI cJ h B P E S L N (nI n) (nI ed) ++ wKn cI h kn0 Fz) sz) U)) (va_Qi (fun (r : Int32) (u : Nat × Int32 × (Nat → Int32)) => ¬ pr < 0 ∧ y = nI u.1 ∧ u.1 ≤ 4 ∧ r = pb_kno B P E S L n pr u.1) (fun u => xB (dC, dI) classes [(cI, FieldType.int), (cJ, FieldType.long)] (va_A (wPB h ++ wLog cI cJ h B P E S L N (nI n) (nI ed) ++ wKn cI h kn0 Fz) sz) ((fun (u : Nat × Int32 × (Nat → Int32)) => wPB h ++ wLog cI cJ h B P E S L N (nI n) (nI ed) ++ wKn cI h u.2.1 u.2.2) u)) (va_A (wPB h ++ wLog cI cJ h B P E S L N (nI n) (nI ed) ++ wKn cI h kn0 Fz) sz)) (xXC (dC, dI) classes [(cI, FieldType.int), (cJ, FieldType.long)] (va_A (wPB h ++ wLog cI cJ h B P E S L N (nI n) (nI ed) ++ wKn cI h kn0 Fz) sz) (fun (E9 : String) (_ : Unit) => E9 = xIA ∧ ¬ (¬ pr < 0 ∧ ¬ y < 0 ∧ y ≤ nI 4)) (fun (_ : Unit) => wPB h ++ wLog cI cJ h B P E S L N (nI n) (nI ed) ++ wKn cI h kn0 Fz)) 1 6 (va_A (wPB h ++ wLog cI cJ h B P E S L N (nI n) (nI ed) ++ wKn cI h kn0 Fz) sz) := by
  refine vx_ofW (cc := cX2_known) (maxL := 5) (ret := (some .int)) (by decide) rfl ?_
  intro p e s m args below meth c s₁ BB hml hnt hv
  obtain ⟨rfl, ⟨hsz, hP, hK, hD0⟩, hX⟩ := hv
  have hx := BB.exec
  have hb := BB.bytes
  have hr := BB.returns
  have hts := atoms_spec (ws := wsX2_known) BB.pre
  have hown : s.vm.findClass RX2 = some m.cls := findClass_of_methodNamed BB.named
  have hlocks := BB.notSynchronized
  subst hsz
  have hD := hD0.self (sz := s.heap.size)
  generalize hAe : va_A (wPB h ++ wLog cI cJ h B P E S L N (nI n) (nI ed) ++ wKn cI h kn0 Fz) s.heap.size = A at hD hX ⊢
  have hA : ∀ q : Nat, s.heap.size ≤ q → A q := fun q h => by rw [← hAe]; exact Or.inr h
  have hS : va_S A s.heap s.heap [] := va_S.rf
  have hl := lv_entry ([.ref (h 0), .long pr, .int y]) (n := 5) (Nat.le_of_ble_eq_true rfl)
  rw [lg_entry_eq]
  generalize (lg_sl ([.ref (h 0), .long pr, .int y]) ++ List.replicate (5 - (lg_sl ([.ref (h 0), .long pr, .int y])).length) Slot.unset).toArray = ls at hl ⊢
  have hl : lv_has ls 5 [(0, .ref (h 0)), (1, .long pr), (3, .int y)] := hl
  have hP : va_P (dC, dI) classes (wPB h ++ wLog cI cJ h B P E S L N (nI n) (nI ed) ++ wKn cI h kn0 Fz) s.heap := hP
  refine lv_lload_n hx hb dX2_known_0 rfl (lv_at hl 1 rfl) ?_
  refine lv_lconst (v := 0) hx hb dX2_known_1 (by decide) ?_
  refine W.lcmp hx hb dX2_known_2 ?_
  refine lv_if_lt (tgt := 15) hx hb dX2_known_3 (by decide) (fun c_3 => ?_) (fun c_3 => ?_)
  · have cQ : pr < 0 := (lg_cmp_lt _ _).mp c_3
    exact xh_thrA hx hb hl0 hts hown hX (is := 73) (text := "the producer is below 0, or what is not 0 .. 4") (by decide +kernel) hS (hl.1.trans hml.symm) dX2_known_15 dX2_known_18 dX2_known_19 dX2_known_21 dX2_known_24 hnt (Nat.le_of_ble_eq_true rfl) (Nat.le_of_ble_eq_true rfl) (Nat.le_of_ble_eq_true rfl) (Nat.le_of_ble_eq_true rfl) hlocks (fun t hvm hz hq => ⟨(), trivial, ⟨⟨rfl, fun g => g.1 cQ⟩, (xh_xc hP hK hD hS hvm hz hq).1⟩, (xh_xc hP hK hD hS hvm hz hq).2⟩) hS.2.2 (Nat.le_of_ble_eq_true rfl) (Nat.le_of_ble_eq_true rfl)
  · have cQ : ¬ pr < 0 := fun g => c_3 ((lg_cmp_lt _ _).mpr g)
    refine lv_iload_n hx hb dX2_known_6 rfl (lv_at hl 2 rfl) ?_
    refine lv_if_lt (tgt := 15) hx hb dX2_known_7 (by decide) (fun c_7 => ?_) (fun c_7 => ?_)
    · exact xh_thrA hx hb hl0 hts hown hX (is := 73) (text := "the producer is below 0, or what is not 0 .. 4") (by decide +kernel) hS (hl.1.trans hml.symm) dX2_known_15 dX2_known_18 dX2_known_19 dX2_known_21 dX2_known_24 hnt (Nat.le_of_ble_eq_true rfl) (Nat.le_of_ble_eq_true rfl) (Nat.le_of_ble_eq_true rfl) (Nat.le_of_ble_eq_true rfl) hlocks (fun t hvm hz hq => ⟨(), trivial, ⟨⟨rfl, fun g => g.2.1 c_7⟩, (xh_xc hP hK hD hS hvm hz hq).1⟩, (xh_xc hP hK hD hS hvm hz hq).2⟩) hS.2.2 (Nat.le_of_ble_eq_true rfl) (Nat.le_of_ble_eq_true rfl)
    · refine lv_iload_n hx hb dX2_known_10 rfl (lv_at hl 2 rfl) ?_
      refine lv_iconst (v := nI 4) hx hb dX2_known_11 (by decide +kernel) ?_
      refine lv_icmp_le (tgt := 25) hx hb dX2_known_12 (by decide) (fun c_12 => ?_) (fun c_12 => ?_)
      · obtain ⟨y9, hy9, ey⟩ := nI_of2 (M := nI 4) (n := 4) (by decide) c_7 c_12
        subst ey
        refine lv_aload_n hx hb dX2_known_25 rfl (lv_at hl 0 rfl) ?_
        refine va_get (D := (dC, dI)) (ci := 2) (v := .ref (h 1)) (C := RX2) (T := TX2) (N := 2) hx hb hts (fun w9 h9 => mm (inX2 w9 h9)) hown hK hP 0 rfl rfl 0 (by decide) (hts (.fieldLink RX2 10 "ProducerBook" "log" "LProducerBook$Log;") (mm aw_76)) (fun _ h9 => h9) rfl dX2_known_26 ?_
        refine lv_lload_n hx hb dX2_known_29 rfl (lv_at hl 1 rfl) ?_
        refine lv_aload_n hx hb dX2_known_30 rfl (lv_at hl 0 rfl) ?_
        refine va_get (D := (dC, dI)) (ci := 2) (v := .ref (h 8)) (C := RX2) (T := TX2) (N := 2) hx hb hts (fun w9 h9 => mm (inX2 w9 h9)) hown hK hP 0 rfl rfl 1 (by decide) (hts (.fieldLink RX2 19 "ProducerBook" "recalled" "LProducerBook$Known;") (mm aw_77)) (fun _ h9 => h9) rfl dX2_known_31 ?_
        refine xh_callv (wc := wLog cI cJ h B P E S L N (nI n) (nI ed) ++ wKn cI h kn0 Fz) (wr := wPB h) (w1 := fun (F1 : Nat → Int32) => wLog cI cJ h B P E S L N (nI n) (nI ed) ++ wKn cI h (nI (pb_kc P n pr)) F1) hP hD hS hA [1, 2, 3, 4, 5, 6, 7, 8, 9] [0] rfl rfl (by decide) (by decide) (va_runV (As := [.long pr, .ref (h 8)]) (rest := []) ⟨hx, hb, hml, hown, hts⟩ (c_Log_recall l dC dI cI cJ h s.heap.size B P E S L N n ed Fz kn0 pr hn hN) (cwV 2 hts (aw_V aw_182 aw_183 aw_184 aw_2 aw_185) rfl rfl rfl (by decide +kernel) ⟨Nat.le_of_ble_eq_true rfl, Nat.le_of_ble_eq_true rfl⟩) (xh_preV (r0 := 0) hK (hP.sub (ws' := wLog cI cJ h B P E S L N (nI n) (nI ed) ++ wKn cI h kn0 Fz) [1, 2, 3, 4, 5, 6, 7, 8, 9] rfl) (hD.sub (ws' := wLog cI cJ h B P E S L N (nI n) (nI ed) ++ wKn cI h kn0 Fz) [1, 2, 3, 4, 5, 6, 7, 8, 9] (by decide) rfl) rfl rfl rfl) rfl rfl hl.1 rfl (lv_room (Nat.le_of_ble_eq_true rfl)) dX2_known_34 ⟨Nat.le_of_ble_eq_true rfl, Nat.le_of_ble_eq_true rfl⟩) (fun  F1 H locs hw hP hD hS => ?_)
        have hP : va_P (dC, dI) classes (wPB h ++ wLog cI cJ h B P E S L N (nI n) (nI ed) ++ wKn cI h (nI (pb_kc P n pr)) F1) H := hP
        have hD : va_D A (wPB h ++ wLog cI cJ h B P E S L N (nI n) (nI ed) ++ wKn cI h (nI (pb_kc P n pr)) F1) := hD
        have hF := pb_hF hn hw
        have hkc := pb_kc_le P n pr
        rcases (show y9 = 0 ∨ y9 = 1 ∨ y9 = 2 ∨ y9 = 3 ∨ y9 = 4 by omega) with h9 | h9 | h9 | h9 | h9
        · subst h9
          refine lv_iload_n hx hb dX2_known_37 rfl (lv_at hl 2 rfl) ?_
          refine lv_if_ne (tgt := 49) hx hb dX2_known_38 (by decide) (fun c_38 => ?_) (fun c_38 => ?_)
          · exact absurd (show nI 0 = 0 by decide) c_38
          · refine lv_aload_n hx hb dX2_known_41 rfl (lv_at hl 0 rfl) ?_
            refine va_get (D := (dC, dI)) (ci := 2) (v := .ref (h 8)) (C := RX2) (T := TX2) (N := 2) hx hb hts (fun w9 h9 => mm (inX2 w9 h9)) hown hK hP 0 rfl rfl 1 (by decide) (hts (.fieldLink RX2 19 "ProducerBook" "recalled" "LProducerBook$Known;") (mm aw_77)) (fun _ h9 => h9) rfl dX2_known_42 ?_
            refine va_get (D := (dC, dI)) (ci := 0) (v := .int (nI (pb_kc P n pr))) (C := RX0) (T := TX0) (N := 2) hx hb hts (fun w9 h9 => mm (inX0 w9 h9)) hown hK hP 8 rfl rfl 1 (by decide) (hts (.fieldLink RX2 75 "ProducerBook$Known" "size" "I") (mm aw_70)) (fun _ h9 => h9) rfl dX2_known_45 ?_
            refine vx_ret ?_
            refine W.widen (k := 1) (n := 6) (Nat.le_of_ble_eq_true rfl) (Nat.le_of_ble_eq_true rfl) ?_
            exact xh_iret hx hb hr ((0, nI (pb_kc P n pr), F1)) (⟨cQ, rfl, Nat.le_of_ble_eq_true rfl, rfl⟩) hP hK hD hS dX2_known_48 hlocks
        · subst h9
          refine lv_iload_n hx hb dX2_known_37 rfl (lv_at hl 2 rfl) ?_
          refine lv_if_ne (tgt := 49) hx hb dX2_known_38 (by decide) (fun c_38 => ?_) (fun c_38 => ?_)
          · refine lv_aload_n hx hb dX2_known_49 rfl (lv_at hl 0 rfl) ?_
            refine va_get (D := (dC, dI)) (ci := 2) (v := .ref (h 8)) (C := RX2) (T := TX2) (N := 2) hx hb hts (fun w9 h9 => mm (inX2 w9 h9)) hown hK hP 0 rfl rfl 1 (by decide) (hts (.fieldLink RX2 19 "ProducerBook" "recalled" "LProducerBook$Known;") (mm aw_77)) (fun _ h9 => h9) rfl dX2_known_50 ?_
            refine va_get (D := (dC, dI)) (ci := 0) (v := .int (nI (pb_kc P n pr))) (C := RX0) (T := TX0) (N := 2) hx hb hts (fun w9 h9 => mm (inX0 w9 h9)) hown hK hP 8 rfl rfl 1 (by decide) (hts (.fieldLink RX2 75 "ProducerBook$Known" "size" "I") (mm aw_70)) (fun _ h9 => h9) rfl dX2_known_53 ?_
            refine lv_if_ne (tgt := 61) hx hb dX2_known_56 (by decide) (fun c_56 => ?_) (fun c_56 => ?_)
            · have q0 : ¬ pb_kc P n pr = 0 := fun g => c_56 (by rw [g]; rfl)
              obtain ⟨hF0, hk0⟩ := hF 0 (by omega)
              obtain ⟨hF9, hk9⟩ := hF (pb_kc P n pr - 1) (by omega)
              refine lv_aload_n hx hb dX2_known_61 rfl (lv_at hl 0 rfl) ?_
              refine va_get (D := (dC, dI)) (ci := 2) (v := .ref (h 8)) (C := RX2) (T := TX2) (N := 2) hx hb hts (fun w9 h9 => mm (inX2 w9 h9)) hown hK hP 0 rfl rfl 1 (by decide) (hts (.fieldLink RX2 19 "ProducerBook" "recalled" "LProducerBook$Known;") (mm aw_77)) (fun _ h9 => h9) rfl dX2_known_62 ?_
              refine xh_calli (wc := wKn cI h (nI (pb_kc P n pr)) F1) (wr := wPB h ++ wLog cI cJ h B P E S L N (nI n) (nI ed)) (w1 := fun (u : Unit) => wKn cI h (nI (pb_kc P n pr)) F1) hP hD hS hA [8, 9] [0, 1, 2, 3, 4, 5, 6, 7] rfl rfl (by decide) (by decide) (va_runV (As := []) (rest := []) ⟨hx, hb, hml, hown, hts⟩ (c_Kn_latest l dC dI cI cJ h H.size (pb_kc P n pr) F1) (cwV 0 hts (aw_V aw_198 aw_199 aw_200 aw_3 aw_201) rfl rfl rfl (by decide +kernel) ⟨Nat.le_of_ble_eq_true rfl, Nat.le_of_ble_eq_true rfl⟩) (xh_preV (r0 := 0) hK (hP.sub (ws' := wKn cI h (nI (pb_kc P n pr)) F1) [8, 9] rfl) (hD.sub (ws' := wKn cI h (nI (pb_kc P n pr)) F1) [8, 9] (by decide) rfl) rfl rfl rfl) rfl rfl hl.1 rfl (lv_room (Nat.le_of_ble_eq_true rfl)) dX2_known_65 ⟨Nat.le_of_ble_eq_true rfl, Nat.le_of_ble_eq_true rfl⟩) (fun r_1 u H locs hw hP hD hS => ?_)
              have hP : va_P (dC, dI) classes (wPB h ++ wLog cI cJ h B P E S L N (nI n) (nI ed) ++ wKn cI h (nI (pb_kc P n pr)) F1) H := hP
              have hD : va_D A (wPB h ++ wLog cI cJ h B P E S L N (nI n) (nI ed) ++ wKn cI h (nI (pb_kc P n pr)) F1) := hD
              refine xh_topi (z := nI (pb_ix P pr n 0)) (hw.trans hF0) ?_
              refine lv_istore (lv' := [(4, .int (nI (pb_ix P pr n 0))), (0, .ref (h 0)), (1, .long pr), (3, .int (nI 1))]) hx hb dX2_known_68 hl (by decide) rfl (fun ls hl => ?_)
              refine lv_iload_n hx hb dX2_known_70 rfl (lv_at hl 3 rfl) ?_
              refine lv_tableIn (off := 25) (tgt := 96) hx hb dX2_known_71 (by decide) (by decide) (by decide) (by decide) ?_
              refine lv_aload_n hx hb dX2_known_96 rfl (lv_at hl 1 rfl) ?_
              refine va_get (D := (dC, dI)) (ci := 2) (v := .ref (h 1)) (C := RX2) (T := TX2) (N := 2) hx hb hts (fun w9 h9 => mm (inX2 w9 h9)) hown hK hP 0 rfl rfl 0 (by decide) (hts (.fieldLink RX2 10 "ProducerBook" "log" "LProducerBook$Log;") (mm aw_76)) (fun _ h9 => h9) rfl dX2_known_97 ?_
              refine va_get (D := (dC, dI)) (ci := 1) (v := .ref (h 4)) (C := RX1) (T := TX1) (N := 8) hx hb hts (fun w9 h9 => mm (inX1 w9 h9)) hown hK hP 1 rfl rfl 2 (by decide) (hts (.fieldLink RX2 79 "ProducerBook$Log" "epoch" "[I") (mm aw_31)) (fun _ h9 => h9) rfl dX2_known_100 ?_
              refine lv_iload hx hb dX2_known_103 (lv_at hl 0 rfl) ?_
              refine xh_iald hx hb hK hP 4 0 rfl rfl (k := pb_ix P pr n 0) (hk0) (by decide) dX2_known_105 ?_
              refine vx_ret ?_
              refine W.widen (k := 1) (n := 6) (Nat.le_of_ble_eq_true rfl) (Nat.le_of_ble_eq_true rfl) ?_
              exact xh_iret hx hb hr ((1, nI (pb_kc P n pr), F1)) (⟨cQ, rfl, Nat.le_of_ble_eq_true rfl, (pb_kno1 q0).symm⟩) hP hK hD hS dX2_known_106 hlocks
            · have q0 : pb_kc P n pr = 0 := (nI_eq (by omega) (by decide)).mp (c_56.trans nI_0.symm)
              refine lv_iconst (v := (-1)) hx hb dX2_known_59 (by decide +kernel) ?_
              refine vx_ret ?_
              refine W.widen (k := 1) (n := 6) (Nat.le_of_ble_eq_true rfl) (Nat.le_of_ble_eq_true rfl) ?_
              exact xh_iret hx hb hr ((1, nI (pb_kc P n pr), F1)) (⟨cQ, rfl, Nat.le_of_ble_eq_true rfl, (pb_kno0 (y := 1) (by decide) q0).symm⟩) hP hK hD hS dX2_known_60 hlocks
          · exact absurd c_38 (by decide)
        · subst h9
          refine lv_iload_n hx hb dX2_known_37 rfl (lv_at hl 2 rfl) ?_
          refine lv_if_ne (tgt := 49) hx hb dX2_known_38 (by decide) (fun c_38 => ?_) (fun c_38 => ?_)
          · refine lv_aload_n hx hb dX2_known_49 rfl (lv_at hl 0 rfl) ?_
            refine va_get (D := (dC, dI)) (ci := 2) (v := .ref (h 8)) (C := RX2) (T := TX2) (N := 2) hx hb hts (fun w9 h9 => mm (inX2 w9 h9)) hown hK hP 0 rfl rfl 1 (by decide) (hts (.fieldLink RX2 19 "ProducerBook" "recalled" "LProducerBook$Known;") (mm aw_77)) (fun _ h9 => h9) rfl dX2_known_50 ?_
            refine va_get (D := (dC, dI)) (ci := 0) (v := .int (nI (pb_kc P n pr))) (C := RX0) (T := TX0) (N := 2) hx hb hts (fun w9 h9 => mm (inX0 w9 h9)) hown hK hP 8 rfl rfl 1 (by decide) (hts (.fieldLink RX2 75 "ProducerBook$Known" "size" "I") (mm aw_70)) (fun _ h9 => h9) rfl dX2_known_53 ?_
            refine lv_if_ne (tgt := 61) hx hb dX2_known_56 (by decide) (fun c_56 => ?_) (fun c_56 => ?_)
            · have q0 : ¬ pb_kc P n pr = 0 := fun g => c_56 (by rw [g]; rfl)
              obtain ⟨hF0, hk0⟩ := hF 0 (by omega)
              obtain ⟨hF9, hk9⟩ := hF (pb_kc P n pr - 1) (by omega)
              refine lv_aload_n hx hb dX2_known_61 rfl (lv_at hl 0 rfl) ?_
              refine va_get (D := (dC, dI)) (ci := 2) (v := .ref (h 8)) (C := RX2) (T := TX2) (N := 2) hx hb hts (fun w9 h9 => mm (inX2 w9 h9)) hown hK hP 0 rfl rfl 1 (by decide) (hts (.fieldLink RX2 19 "ProducerBook" "recalled" "LProducerBook$Known;") (mm aw_77)) (fun _ h9 => h9) rfl dX2_known_62 ?_
              refine xh_calli (wc := wKn cI h (nI (pb_kc P n pr)) F1) (wr := wPB h ++ wLog cI cJ h B P E S L N (nI n) (nI ed)) (w1 := fun (u : Unit) => wKn cI h (nI (pb_kc P n pr)) F1) hP hD hS hA [8, 9] [0, 1, 2, 3, 4, 5, 6, 7] rfl rfl (by decide) (by decide) (va_runV (As := []) (rest := []) ⟨hx, hb, hml, hown, hts⟩ (c_Kn_latest l dC dI cI cJ h H.size (pb_kc P n pr) F1) (cwV 0 hts (aw_V aw_198 aw_199 aw_200 aw_3 aw_201) rfl rfl rfl (by decide +kernel) ⟨Nat.le_of_ble_eq_true rfl, Nat.le_of_ble_eq_true rfl⟩) (xh_preV (r0 := 0) hK (hP.sub (ws' := wKn cI h (nI (pb_kc P n pr)) F1) [8, 9] rfl) (hD.sub (ws' := wKn cI h (nI (pb_kc P n pr)) F1) [8, 9] (by decide) rfl) rfl rfl rfl) rfl rfl hl.1 rfl (lv_room (Nat.le_of_ble_eq_true rfl)) dX2_known_65 ⟨Nat.le_of_ble_eq_true rfl, Nat.le_of_ble_eq_true rfl⟩) (fun r_2 u H locs hw hP hD hS => ?_)
              have hP : va_P (dC, dI) classes (wPB h ++ wLog cI cJ h B P E S L N (nI n) (nI ed) ++ wKn cI h (nI (pb_kc P n pr)) F1) H := hP
              have hD : va_D A (wPB h ++ wLog cI cJ h B P E S L N (nI n) (nI ed) ++ wKn cI h (nI (pb_kc P n pr)) F1) := hD
              refine xh_topi (z := nI (pb_ix P pr n 0)) (hw.trans hF0) ?_
              refine lv_istore (lv' := [(4, .int (nI (pb_ix P pr n 0))), (0, .ref (h 0)), (1, .long pr), (3, .int (nI 2))]) hx hb dX2_known_68 hl (by decide) rfl (fun ls hl => ?_)
              refine lv_iload_n hx hb dX2_known_70 rfl (lv_at hl 3 rfl) ?_
              refine lv_tableIn (off := 36) (tgt := 107) hx hb dX2_known_71 (by decide) (by decide) (by decide) (by decide) ?_
              refine lv_aload_n hx hb dX2_known_107 rfl (lv_at hl 1 rfl) ?_
              refine va_get (D := (dC, dI)) (ci := 2) (v := .ref (h 1)) (C := RX2) (T := TX2) (N := 2) hx hb hts (fun w9 h9 => mm (inX2 w9 h9)) hown hK hP 0 rfl rfl 0 (by decide) (hts (.fieldLink RX2 10 "ProducerBook" "log" "LProducerBook$Log;") (mm aw_76)) (fun _ h9 => h9) rfl dX2_known_108 ?_
              refine va_get (D := (dC, dI)) (ci := 1) (v := .ref (h 5)) (C := RX1) (T := TX1) (N := 8) hx hb hts (fun w9 h9 => mm (inX1 w9 h9)) hown hK hP 1 rfl rfl 3 (by decide) (hts (.fieldLink RX2 83 "ProducerBook$Log" "sequence" "[I") (mm aw_33)) (fun _ h9 => h9) rfl dX2_known_111 ?_
              refine lv_iload hx hb dX2_known_114 (lv_at hl 0 rfl) ?_
              refine xh_iald hx hb hK hP 5 0 rfl rfl (k := pb_ix P pr n 0) (hk0) (by decide) dX2_known_116 ?_
              refine lv_aload_n hx hb dX2_known_117 rfl (lv_at hl 1 rfl) ?_
              refine va_get (D := (dC, dI)) (ci := 2) (v := .ref (h 1)) (C := RX2) (T := TX2) (N := 2) hx hb hts (fun w9 h9 => mm (inX2 w9 h9)) hown hK hP 0 rfl rfl 0 (by decide) (hts (.fieldLink RX2 10 "ProducerBook" "log" "LProducerBook$Log;") (mm aw_76)) (fun _ h9 => h9) rfl dX2_known_118 ?_
              refine va_get (D := (dC, dI)) (ci := 1) (v := .ref (h 6)) (C := RX1) (T := TX1) (N := 8) hx hb hts (fun w9 h9 => mm (inX1 w9 h9)) hown hK hP 1 rfl rfl 4 (by decide) (hts (.fieldLink RX2 86 "ProducerBook$Log" "last" "[I") (mm aw_35)) (fun _ h9 => h9) rfl dX2_known_121 ?_
              refine lv_iload hx hb dX2_known_124 (lv_at hl 0 rfl) ?_
              refine xh_iald hx hb hK hP 6 0 rfl rfl (k := pb_ix P pr n 0) (hk0) (by decide) dX2_known_126 ?_
              refine xh_calli (wc := []) (wr := wPB h ++ wLog cI cJ h B P E S L N (nI n) (nI ed) ++ wKn cI h (nI (pb_kc P n pr)) F1) (w1 := fun (u : Unit) => []) hP hD hS hA [] [0, 1, 2, 3, 4, 5, 6, 7, 8, 9] rfl rfl (by decide) (by decide) (va_runS (As := [.int (S (pb_ix P pr n 0)), .int (L (pb_ix P pr n 0))]) (rest := []) ⟨hx, hb, hml, hown, hts⟩ (c_PB_seq l dC dI cI cJ h H.size (S (pb_ix P pr n 0)) (L (pb_ix P pr n 0))) (cwS 2 hts (aw_S aw_206 aw_207 aw_1 aw_208) rfl rfl rfl (by decide +kernel) ⟨Nat.le_of_ble_eq_true rfl, Nat.le_of_ble_eq_true rfl⟩) (xh_preS hK (hP.sub (ws' := []) [] rfl) (hD.sub (ws' := []) [] (by decide) rfl)) rfl rfl hl.1 rfl (lv_room (Nat.le_of_ble_eq_true rfl)) dX2_known_127 ⟨Nat.le_of_ble_eq_true rfl, Nat.le_of_ble_eq_true rfl⟩) (fun r_3 u H locs hw hP hD hS => ?_)
              have hP : va_P (dC, dI) classes (wPB h ++ wLog cI cJ h B P E S L N (nI n) (nI ed) ++ wKn cI h (nI (pb_kc P n pr)) F1) H := hP
              have hD : va_D A (wPB h ++ wLog cI cJ h B P E S L N (nI n) (nI ed) ++ wKn cI h (nI (pb_kc P n pr)) F1) := hD
              refine xh_topi (z := pb_nx (S (pb_ix P pr n 0)) (L (pb_ix P pr n 0))) (hw) ?_
              refine vx_ret ?_
              refine W.widen (k := 1) (n := 6) (Nat.le_of_ble_eq_true rfl) (Nat.le_of_ble_eq_true rfl) ?_
              exact xh_iret hx hb hr ((2, nI (pb_kc P n pr), F1)) (⟨cQ, rfl, Nat.le_of_ble_eq_true rfl, (pb_kno2 q0).symm⟩) hP hK hD hS dX2_known_130 hlocks
            · have q0 : pb_kc P n pr = 0 := (nI_eq (by omega) (by decide)).mp (c_56.trans nI_0.symm)
              refine lv_iconst (v := (-1)) hx hb dX2_known_59 (by decide +kernel) ?_
              refine vx_ret ?_
              refine W.widen (k := 1) (n := 6) (Nat.le_of_ble_eq_true rfl) (Nat.le_of_ble_eq_true rfl) ?_
              exact xh_iret hx hb hr ((2, nI (pb_kc P n pr), F1)) (⟨cQ, rfl, Nat.le_of_ble_eq_true rfl, (pb_kno0 (y := 2) (by decide) q0).symm⟩) hP hK hD hS dX2_known_60 hlocks
          · exact absurd c_38 (by decide)
        · subst h9
          refine lv_iload_n hx hb dX2_known_37 rfl (lv_at hl 2 rfl) ?_
          refine lv_if_ne (tgt := 49) hx hb dX2_known_38 (by decide) (fun c_38 => ?_) (fun c_38 => ?_)
          · refine lv_aload_n hx hb dX2_known_49 rfl (lv_at hl 0 rfl) ?_
            refine va_get (D := (dC, dI)) (ci := 2) (v := .ref (h 8)) (C := RX2) (T := TX2) (N := 2) hx hb hts (fun w9 h9 => mm (inX2 w9 h9)) hown hK hP 0 rfl rfl 1 (by decide) (hts (.fieldLink RX2 19 "ProducerBook" "recalled" "LProducerBook$Known;") (mm aw_77)) (fun _ h9 => h9) rfl dX2_known_50 ?_
            refine va_get (D := (dC, dI)) (ci := 0) (v := .int (nI (pb_kc P n pr))) (C := RX0) (T := TX0) (N := 2) hx hb hts (fun w9 h9 => mm (inX0 w9 h9)) hown hK hP 8 rfl rfl 1 (by decide) (hts (.fieldLink RX2 75 "ProducerBook$Known" "size" "I") (mm aw_70)) (fun _ h9 => h9) rfl dX2_known_53 ?_
            refine lv_if_ne (tgt := 61) hx hb dX2_known_56 (by decide) (fun c_56 => ?_) (fun c_56 => ?_)
            · have q0 : ¬ pb_kc P n pr = 0 := fun g => c_56 (by rw [g]; rfl)
              obtain ⟨hF0, hk0⟩ := hF 0 (by omega)
              obtain ⟨hF9, hk9⟩ := hF (pb_kc P n pr - 1) (by omega)
              refine lv_aload_n hx hb dX2_known_61 rfl (lv_at hl 0 rfl) ?_
              refine va_get (D := (dC, dI)) (ci := 2) (v := .ref (h 8)) (C := RX2) (T := TX2) (N := 2) hx hb hts (fun w9 h9 => mm (inX2 w9 h9)) hown hK hP 0 rfl rfl 1 (by decide) (hts (.fieldLink RX2 19 "ProducerBook" "recalled" "LProducerBook$Known;") (mm aw_77)) (fun _ h9 => h9) rfl dX2_known_62 ?_
              refine xh_calli (wc := wKn cI h (nI (pb_kc P n pr)) F1) (wr := wPB h ++ wLog cI cJ h B P E S L N (nI n) (nI ed)) (w1 := fun (u : Unit) => wKn cI h (nI (pb_kc P n pr)) F1) hP hD hS hA [8, 9] [0, 1, 2, 3, 4, 5, 6, 7] rfl rfl (by decide) (by decide) (va_runV (As := []) (rest := []) ⟨hx, hb, hml, hown, hts⟩ (c_Kn_latest l dC dI cI cJ h H.size (pb_kc P n pr) F1) (cwV 0 hts (aw_V aw_198 aw_199 aw_200 aw_3 aw_201) rfl rfl rfl (by decide +kernel) ⟨Nat.le_of_ble_eq_true rfl, Nat.le_of_ble_eq_true rfl⟩) (xh_preV (r0 := 0) hK (hP.sub (ws' := wKn cI h (nI (pb_kc P n pr)) F1) [8, 9] rfl) (hD.sub (ws' := wKn cI h (nI (pb_kc P n pr)) F1) [8, 9] (by decide) rfl) rfl rfl rfl) rfl rfl hl.1 rfl (lv_room (Nat.le_of_ble_eq_true rfl)) dX2_known_65 ⟨Nat.le_of_ble_eq_true rfl, Nat.le_of_ble_eq_true rfl⟩) (fun r_4 u H locs hw hP hD hS => ?_)
              have hP : va_P (dC, dI) classes (wPB h ++ wLog cI cJ h B P E S L N (nI n) (nI ed) ++ wKn cI h (nI (pb_kc P n pr)) F1) H := hP
              have hD : va_D A (wPB h ++ wLog cI cJ h B P E S L N (nI n) (nI ed) ++ wKn cI h (nI (pb_kc P n pr)) F1) := hD
              refine xh_topi (z := nI (pb_ix P pr n 0)) (hw.trans hF0) ?_
              refine lv_istore (lv' := [(4, .int (nI (pb_ix P pr n 0))), (0, .ref (h 0)), (1, .long pr), (3, .int (nI 3))]) hx hb dX2_known_68 hl (by decide) rfl (fun ls hl => ?_)
              refine lv_iload_n hx hb dX2_known_70 rfl (lv_at hl 3 rfl) ?_
              refine lv_tableIn (off := 60) (tgt := 131) hx hb dX2_known_71 (by decide) (by decide) (by decide) (by decide) ?_
              refine lv_aload_n hx hb dX2_known_131 rfl (lv_at hl 1 rfl) ?_
              refine va_get (D := (dC, dI)) (ci := 2) (v := .ref (h 1)) (C := RX2) (T := TX2) (N := 2) hx hb hts (fun w9 h9 => mm (inX2 w9 h9)) hown hK hP 0 rfl rfl 0 (by decide) (hts (.fieldLink RX2 10 "ProducerBook" "log" "LProducerBook$Log;") (mm aw_76)) (fun _ h9 => h9) rfl dX2_known_132 ?_
              refine va_get (D := (dC, dI)) (ci := 1) (v := .ref (h 2)) (C := RX1) (T := TX1) (N := 8) hx hb hts (fun w9 h9 => mm (inX1 w9 h9)) hown hK hP 1 rfl rfl 0 (by decide) (hts (.fieldLink RX2 89 "ProducerBook$Log" "base" "[I") (mm aw_27)) (fun _ h9 => h9) rfl dX2_known_135 ?_
              refine lv_iload hx hb dX2_known_138 (lv_at hl 0 rfl) ?_
              refine xh_iald hx hb hK hP 2 0 rfl rfl (k := pb_ix P pr n 0) (hk0) (by decide) dX2_known_140 ?_
              refine vx_ret ?_
              refine W.widen (k := 1) (n := 6) (Nat.le_of_ble_eq_true rfl) (Nat.le_of_ble_eq_true rfl) ?_
              exact xh_iret hx hb hr ((3, nI (pb_kc P n pr), F1)) (⟨cQ, rfl, Nat.le_of_ble_eq_true rfl, (pb_kno3 q0).symm⟩) hP hK hD hS dX2_known_141 hlocks
            · have q0 : pb_kc P n pr = 0 := (nI_eq (by omega) (by decide)).mp (c_56.trans nI_0.symm)
              refine lv_iconst (v := (-1)) hx hb dX2_known_59 (by decide +kernel) ?_
              refine vx_ret ?_
              refine W.widen (k := 1) (n := 6) (Nat.le_of_ble_eq_true rfl) (Nat.le_of_ble_eq_true rfl) ?_
              exact xh_iret hx hb hr ((3, nI (pb_kc P n pr), F1)) (⟨cQ, rfl, Nat.le_of_ble_eq_true rfl, (pb_kno0 (y := 3) (by decide) q0).symm⟩) hP hK hD hS dX2_known_60 hlocks
          · exact absurd c_38 (by decide)
        · subst h9
          refine lv_iload_n hx hb dX2_known_37 rfl (lv_at hl 2 rfl) ?_
          refine lv_if_ne (tgt := 49) hx hb dX2_known_38 (by decide) (fun c_38 => ?_) (fun c_38 => ?_)
          · refine lv_aload_n hx hb dX2_known_49 rfl (lv_at hl 0 rfl) ?_
            refine va_get (D := (dC, dI)) (ci := 2) (v := .ref (h 8)) (C := RX2) (T := TX2) (N := 2) hx hb hts (fun w9 h9 => mm (inX2 w9 h9)) hown hK hP 0 rfl rfl 1 (by decide) (hts (.fieldLink RX2 19 "ProducerBook" "recalled" "LProducerBook$Known;") (mm aw_77)) (fun _ h9 => h9) rfl dX2_known_50 ?_
            refine va_get (D := (dC, dI)) (ci := 0) (v := .int (nI (pb_kc P n pr))) (C := RX0) (T := TX0) (N := 2) hx hb hts (fun w9 h9 => mm (inX0 w9 h9)) hown hK hP 8 rfl rfl 1 (by decide) (hts (.fieldLink RX2 75 "ProducerBook$Known" "size" "I") (mm aw_70)) (fun _ h9 => h9) rfl dX2_known_53 ?_
            refine lv_if_ne (tgt := 61) hx hb dX2_known_56 (by decide) (fun c_56 => ?_) (fun c_56 => ?_)
            · have q0 : ¬ pb_kc P n pr = 0 := fun g => c_56 (by rw [g]; rfl)
              obtain ⟨hF0, hk0⟩ := hF 0 (by omega)
              obtain ⟨hF9, hk9⟩ := hF (pb_kc P n pr - 1) (by omega)
              refine lv_aload_n hx hb dX2_known_61 rfl (lv_at hl 0 rfl) ?_
              refine va_get (D := (dC, dI)) (ci := 2) (v := .ref (h 8)) (C := RX2) (T := TX2) (N := 2) hx hb hts (fun w9 h9 => mm (inX2 w9 h9)) hown hK hP 0 rfl rfl 1 (by decide) (hts (.fieldLink RX2 19 "ProducerBook" "recalled" "LProducerBook$Known;") (mm aw_77)) (fun _ h9 => h9) rfl dX2_known_62 ?_
              refine xh_calli (wc := wKn cI h (nI (pb_kc P n pr)) F1) (wr := wPB h ++ wLog cI cJ h B P E S L N (nI n) (nI ed)) (w1 := fun (u : Unit) => wKn cI h (nI (pb_kc P n pr)) F1) hP hD hS hA [8, 9] [0, 1, 2, 3, 4, 5, 6, 7] rfl rfl (by decide) (by decide) (va_runV (As := []) (rest := []) ⟨hx, hb, hml, hown, hts⟩ (c_Kn_latest l dC dI cI cJ h H.size (pb_kc P n pr) F1) (cwV 0 hts (aw_V aw_198 aw_199 aw_200 aw_3 aw_201) rfl rfl rfl (by decide +kernel) ⟨Nat.le_of_ble_eq_true rfl, Nat.le_of_ble_eq_true rfl⟩) (xh_preV (r0 := 0) hK (hP.sub (ws' := wKn cI h (nI (pb_kc P n pr)) F1) [8, 9] rfl) (hD.sub (ws' := wKn cI h (nI (pb_kc P n pr)) F1) [8, 9] (by decide) rfl) rfl rfl rfl) rfl rfl hl.1 rfl (lv_room (Nat.le_of_ble_eq_true rfl)) dX2_known_65 ⟨Nat.le_of_ble_eq_true rfl, Nat.le_of_ble_eq_true rfl⟩) (fun r_5 u H locs hw hP hD hS => ?_)
              have hP : va_P (dC, dI) classes (wPB h ++ wLog cI cJ h B P E S L N (nI n) (nI ed) ++ wKn cI h (nI (pb_kc P n pr)) F1) H := hP
              have hD : va_D A (wPB h ++ wLog cI cJ h B P E S L N (nI n) (nI ed) ++ wKn cI h (nI (pb_kc P n pr)) F1) := hD
              refine xh_topi (z := nI (pb_ix P pr n 0)) (hw.trans hF0) ?_
              refine lv_istore (lv' := [(4, .int (nI (pb_ix P pr n 0))), (0, .ref (h 0)), (1, .long pr), (3, .int (nI 4))]) hx hb dX2_known_68 hl (by decide) rfl (fun ls hl => ?_)
              refine lv_iload_n hx hb dX2_known_70 rfl (lv_at hl 3 rfl) ?_
              refine lv_tableOut (tgt := 142) hx hb dX2_known_71 (by decide) (by decide) ?_
              refine lv_aload_n hx hb dX2_known_142 rfl (lv_at hl 1 rfl) ?_
              refine va_get (D := (dC, dI)) (ci := 2) (v := .ref (h 1)) (C := RX2) (T := TX2) (N := 2) hx hb hts (fun w9 h9 => mm (inX2 w9 h9)) hown hK hP 0 rfl rfl 0 (by decide) (hts (.fieldLink RX2 10 "ProducerBook" "log" "LProducerBook$Log;") (mm aw_76)) (fun _ h9 => h9) rfl dX2_known_143 ?_
              refine va_get (D := (dC, dI)) (ci := 1) (v := .ref (h 2)) (C := RX1) (T := TX1) (N := 8) hx hb hts (fun w9 h9 => mm (inX1 w9 h9)) hown hK hP 1 rfl rfl 0 (by decide) (hts (.fieldLink RX2 89 "ProducerBook$Log" "base" "[I") (mm aw_27)) (fun _ h9 => h9) rfl dX2_known_146 ?_
              refine lv_aload_n hx hb dX2_known_149 rfl (lv_at hl 1 rfl) ?_
              refine va_get (D := (dC, dI)) (ci := 2) (v := .ref (h 8)) (C := RX2) (T := TX2) (N := 2) hx hb hts (fun w9 h9 => mm (inX2 w9 h9)) hown hK hP 0 rfl rfl 1 (by decide) (hts (.fieldLink RX2 19 "ProducerBook" "recalled" "LProducerBook$Known;") (mm aw_77)) (fun _ h9 => h9) rfl dX2_known_150 ?_
              refine xh_calli (wc := wKn cI h (nI (pb_kc P n pr)) F1) (wr := wPB h ++ wLog cI cJ h B P E S L N (nI n) (nI ed)) (w1 := fun (u : Unit) => wKn cI h (nI (pb_kc P n pr)) F1) hP hD hS hA [8, 9] [0, 1, 2, 3, 4, 5, 6, 7] rfl rfl (by decide) (by decide) (va_runV (As := []) (rest := [.ref (h 2)]) ⟨hx, hb, hml, hown, hts⟩ (c_Kn_first l dC dI cI cJ h H.size (pb_kc P n pr) F1 (by omega) hkc) (cwV 0 hts (aw_V aw_277 aw_278 aw_279 aw_3 aw_280) rfl rfl rfl (by decide +kernel) ⟨Nat.le_of_ble_eq_true rfl, Nat.le_of_ble_eq_true rfl⟩) (xh_preV (r0 := 0) hK (hP.sub (ws' := wKn cI h (nI (pb_kc P n pr)) F1) [8, 9] rfl) (hD.sub (ws' := wKn cI h (nI (pb_kc P n pr)) F1) [8, 9] (by decide) rfl) rfl rfl rfl) rfl rfl hl.1 rfl (lv_room (Nat.le_of_ble_eq_true rfl)) dX2_known_153 ⟨Nat.le_of_ble_eq_true rfl, Nat.le_of_ble_eq_true rfl⟩) (fun r_6 u H locs hw hP hD hS => ?_)
              have hP : va_P (dC, dI) classes (wPB h ++ wLog cI cJ h B P E S L N (nI n) (nI ed) ++ wKn cI h (nI (pb_kc P n pr)) F1) H := hP
              have hD : va_D A (wPB h ++ wLog cI cJ h B P E S L N (nI n) (nI ed) ++ wKn cI h (nI (pb_kc P n pr)) F1) := hD
              refine xh_topi (z := nI (pb_ix P pr n (pb_kc P n pr - 1))) (hw.trans hF9) ?_
              refine xh_iald hx hb hK hP 2 0 rfl rfl (k := pb_ix P pr n (pb_kc P n pr - 1)) (hk9) (by decide) dX2_known_156 ?_
              refine vx_ret ?_
              refine W.widen (k := 1) (n := 6) (Nat.le_of_ble_eq_true rfl) (Nat.le_of_ble_eq_true rfl) ?_
              exact xh_iret hx hb hr ((4, nI (pb_kc P n pr), F1)) (⟨cQ, rfl, Nat.le_of_ble_eq_true rfl, (pb_kno4 q0).symm⟩) hP hK hD hS dX2_known_157 hlocks
            · have q0 : pb_kc P n pr = 0 := (nI_eq (by omega) (by decide)).mp (c_56.trans nI_0.symm)
              refine lv_iconst (v := (-1)) hx hb dX2_known_59 (by decide +kernel) ?_
              refine vx_ret ?_
              refine W.widen (k := 1) (n := 6) (Nat.le_of_ble_eq_true rfl) (Nat.le_of_ble_eq_true rfl) ?_
              exact xh_iret hx hb hr ((4, nI (pb_kc P n pr), F1)) (⟨cQ, rfl, Nat.le_of_ble_eq_true rfl, (pb_kno0 (y := 4) (by decide) q0).symm⟩) hP hK hD hS dX2_known_60 hlocks
          · exact absurd c_38 (by decide)
      · exact xh_thrA hx hb hl0 hts hown hX (is := 73) (text := "the producer is below 0, or what is not 0 .. 4") (by decide +kernel) hS (hl.1.trans hml.symm) dX2_known_15 dX2_known_18 dX2_known_19 dX2_known_21 dX2_known_24 hnt (Nat.le_of_ble_eq_true rfl) (Nat.le_of_ble_eq_true rfl) (Nat.le_of_ble_eq_true rfl) (Nat.le_of_ble_eq_true rfl) hlocks (fun t hvm hz hq => ⟨(), trivial, ⟨⟨rfl, fun g => c_12 g.2.2⟩, (xh_xc hP hK hD hS hvm hz hq).1⟩, (xh_xc hP hK hD hS hvm hz hq).2⟩) hS.2.2 (Nat.le_of_ble_eq_true rfl) (Nat.le_of_ble_eq_true rfl)
