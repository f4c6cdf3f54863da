set_option maxHeartbeats 4000000 in
set_option maxRecDepth 100000 in
theorem m_copy (l : Launch) (dC : Nat → ClassId) (dI : Nat → Nat → Nat) (cI cJ : ClassId) (h : Nat → Nat) (sz : Nat) (B : Nat → Int32) (P : Nat → Int64) (E S L : Nat → Int32) (cd : Int32) (n ed : Nat) (fr to : Nat) (h1 : fr < 2000) (h2 : to < 2000) : Met l yX3_copy wsX3_copy ({ frames := 0, cells := 0, slots := 0, locals := 0 } : Room) (va_Pc [.ref (h 20), .int (nI fr), .int (nI to)] (xP (dC, dI) classes [(cI, FieldType.int), (cJ, FieldType.long)] (wMo cI cJ h B P E S L cd (nI n) (nI ed)) sz)) (va_Qv (fun (_ : Unit) => True) (fun u => xB (dC, dI) classes [(cI, FieldType.int), (cJ, FieldType.long)] (va_A (wMo cI cJ h B P E S L cd (nI n) (nI ed)) sz) ((fun (_ : Unit) => wMo cI cJ h (upd B to (B fr)) (vp_updL P to (P fr)) (upd E to (E fr)) (upd S to (S fr)) (upd L to (L fr)) cd (nI n) (nI ed)) u)) (va_A (wMo cI cJ h B P E S L cd (nI n) (nI ed)) sz)) 0 0 (va_A (wMo cI cJ h B P E S L cd (nI n) (nI ed)) sz) := by
  refine Met.ofW (cc := cX3_copy) (maxL := 3) (ret := none) (by decide) rfl ?_
  intro p e s m args below meth c s₁ BB hml hv
  obtain ⟨rfl, hsz, hP, hK, hD0⟩ := hv
  have hx := BB.exec
  have hb := BB.bytes
  have hr := BB.returns
  have hts := atoms_spec (ws := wsX3_copy) BB.pre
  have hown : s.vm.findClass RX3 = some m.cls := findClass_of_methodNamed BB.named
  have hlocks := BB.notSynchronized
  subst hsz
  have hD := hD0.self (sz := s.heap.size)
  generalize hAe : va_A (wMo cI cJ h B P E S L cd (nI n) (nI ed)) s.heap.size = A at hD ⊢
  have hA : ∀ q : Nat, s.heap.size ≤ q → A q := fun q h => by rw [← hAe]; exact Or.inr h
  have hS : va_S A s.heap s.heap [] := va_S.rf
  have hl := lv_entry ([.ref (h 20), .int (nI fr), .int (nI to)]) (n := 3) (Nat.le_of_ble_eq_true rfl)
  rw [lg_entry_eq]
  generalize (lg_sl ([.ref (h 20), .int (nI fr), .int (nI to)]) ++ List.replicate (3 - (lg_sl ([.ref (h 20), .int (nI fr), .int (nI to)])).length) Slot.unset).toArray = ls at hl ⊢
  have hl : lv_has ls 3 [(0, .ref (h 20)), (1, .int (nI fr)), (2, .int (nI to))] := hl
  have hP : va_P (dC, dI) classes (wMo cI cJ h B P E S L cd (nI n) (nI ed)) s.heap := hP
  refine lv_aload_n hx hb dX3_copy_0 rfl (lv_at hl 0 rfl) ?_
  refine va_get (D := (dC, dI)) (ci := 3) (v := .ref (h 21)) (C := RX3) (T := TX3) (N := 8) hx hb hts (fun w9 h9 => mm (inX3 w9 h9)) hown hK hP 0 rfl rfl 3 (by decide) (hts (.fieldLink RX3 7 "ProducerBookModel" "base" "[I") (mm aw_311)) (fun _ h9 => h9) rfl dX3_copy_1 ?_
  refine lv_iload_n hx hb dX3_copy_4 rfl (lv_at hl 2 rfl) ?_
  refine lv_aload_n hx hb dX3_copy_5 rfl (lv_at hl 0 rfl) ?_
  refine va_get (D := (dC, dI)) (ci := 3) (v := .ref (h 21)) (C := RX3) (T := TX3) (N := 8) hx hb hts (fun w9 h9 => mm (inX3 w9 h9)) hown hK hP 0 rfl rfl 3 (by decide) (hts (.fieldLink RX3 7 "ProducerBookModel" "base" "[I") (mm aw_311)) (fun _ h9 => h9) rfl dX3_copy_6 ?_
  refine lv_iload_n hx hb dX3_copy_9 rfl (lv_at hl 1 rfl) ?_
  refine xh_iald hx hb hK hP 1 0 rfl rfl (k := fr) (h1) (by decide) dX3_copy_10 ?_
  refine xh_iast hx hb hK hP hD hS 1 0 rfl rfl (k := to) (h2) (by decide) dX3_copy_11 (fun H locs hP hD hS => ?_)
  have hP : va_P (dC, dI) classes (wMo cI cJ h (upd B to (B fr)) P E S L cd (nI n) (nI ed)) H := hP
  have hD : va_D A (wMo cI cJ h (upd B to (B fr)) P E S L cd (nI n) (nI ed)) := hD
  refine lv_aload_n hx hb dX3_copy_12 rfl (lv_at hl 0 rfl) ?_
  refine va_get (D := (dC, dI)) (ci := 3) (v := .ref (h 22)) (C := RX3) (T := TX3) (N := 8) hx hb hts (fun w9 h9 => mm (inX3 w9 h9)) hown hK hP 0 rfl rfl 4 (by decide) (hts (.fieldLink RX3 13 "ProducerBookModel" "producer" "[J") (mm aw_312)) (fun _ h9 => h9) rfl dX3_copy_13 ?_
  refine lv_iload_n hx hb dX3_copy_16 rfl (lv_at hl 2 rfl) ?_
  refine lv_aload_n hx hb dX3_copy_17 rfl (lv_at hl 0 rfl) ?_
  refine va_get (D := (dC, dI)) (ci := 3) (v := .ref (h 22)) (C := RX3) (T := TX3) (N := 8) hx hb hts (fun w9 h9 => mm (inX3 w9 h9)) hown hK hP 0 rfl rfl 4 (by decide) (hts (.fieldLink RX3 13 "ProducerBookModel" "producer" "[J") (mm aw_312)) (fun _ h9 => h9) rfl dX3_copy_18 ?_
  refine lv_iload_n hx hb dX3_copy_21 rfl (lv_at hl 1 rfl) ?_
  refine xh_lald hx hb hK hP 2 1 rfl rfl (k := fr) (h1) (by decide) dX3_copy_22 ?_
  refine xh_last hx hb hK hP hD hS 2 1 rfl rfl (k := to) (h2) (by decide) dX3_copy_23 (fun H locs hP hD hS => ?_)
  have hP : va_P (dC, dI) classes (wMo cI cJ h (upd B to (B fr)) (vp_updL P to (P fr)) E S L cd (nI n) (nI ed)) H := hP
  have hD : va_D A (wMo cI cJ h (upd B to (B fr)) (vp_updL P to (P fr)) E S L cd (nI n) (nI ed)) := hD
  refine lv_aload_n hx hb dX3_copy_24 rfl (lv_at hl 0 rfl) ?_
  refine va_get (D := (dC, dI)) (ci := 3) (v := .ref (h 23)) (C := RX3) (T := TX3) (N := 8) hx hb hts (fun w9 h9 => mm (inX3 w9 h9)) hown hK hP 0 rfl rfl 5 (by decide) (hts (.fieldLink RX3 17 "ProducerBookModel" "epoch" "[I") (mm aw_313)) (fun _ h9 => h9) rfl dX3_copy_25 ?_
  refine lv_iload_n hx hb dX3_copy_28 rfl (lv_at hl 2 rfl) ?_
  refine lv_aload_n hx hb dX3_copy_29 rfl (lv_at hl 0 rfl) ?_
  refine va_get (D := (dC, dI)) (ci := 3) (v := .ref (h 23)) (C := RX3) (T := TX3) (N := 8) hx hb hts (fun w9 h9 => mm (inX3 w9 h9)) hown hK hP 0 rfl rfl 5 (by decide) (hts (.fieldLink RX3 17 "ProducerBookModel" "epoch" "[I") (mm aw_313)) (fun _ h9 => h9) rfl dX3_copy_30 ?_
  refine lv_iload_n hx hb dX3_copy_33 rfl (lv_at hl 1 rfl) ?_
  refine xh_iald hx hb hK hP 3 0 rfl rfl (k := fr) (h1) (by decide) dX3_copy_34 ?_
  refine xh_iast hx hb hK hP hD hS 3 0 rfl rfl (k := to) (h2) (by decide) dX3_copy_35 (fun H locs hP hD hS => ?_)
  have hP : va_P (dC, dI) classes (wMo cI cJ h (upd B to (B fr)) (vp_updL P to (P fr)) (upd E to (E fr)) S L cd (nI n) (nI ed)) H := hP
  have hD : va_D A (wMo cI cJ h (upd B to (B fr)) (vp_updL P to (P fr)) (upd E to (E fr)) S L cd (nI n) (nI ed)) := hD
  refine lv_aload_n hx hb dX3_copy_36 rfl (lv_at hl 0 rfl) ?_
  refine va_get (D := (dC, dI)) (ci := 3) (v := .ref (h 24)) (C := RX3) (T := TX3) (N := 8) hx hb hts (fun w9 h9 => mm (inX3 w9 h9)) hown hK hP 0 rfl rfl 6 (by decide) (hts (.fieldLink RX3 20 "ProducerBookModel" "sequence" "[I") (mm aw_314)) (fun _ h9 => h9) rfl dX3_copy_37 ?_
  refine lv_iload_n hx hb dX3_copy_40 rfl (lv_at hl 2 rfl) ?_
  refine lv_aload_n hx hb dX3_copy_41 rfl (lv_at hl 0 rfl) ?_
  refine va_get (D := (dC, dI)) (ci := 3) (v := .ref (h 24)) (C := RX3) (T := TX3) (N := 8) hx hb hts (fun w9 h9 => mm (inX3 w9 h9)) hown hK hP 0 rfl rfl 6 (by decide) (hts (.fieldLink RX3 20 "ProducerBookModel" "sequence" "[I") (mm aw_314)) (fun _ h9 => h9) rfl dX3_copy_42 ?_
  refine lv_iload_n hx hb dX3_copy_45 rfl (lv_at hl 1 rfl) ?_
  refine xh_iald hx hb hK hP 4 0 rfl rfl (k := fr) (h1) (by decide) dX3_copy_46 ?_
  refine xh_iast hx hb hK hP hD hS 4 0 rfl rfl (k := to) (h2) (by decide) dX3_copy_47 (fun H locs hP hD hS => ?_)
  have hP : va_P (dC, dI) classes (wMo cI cJ h (upd B to (B fr)) (vp_updL P to (P fr)) (upd E to (E fr)) (upd S to (S fr)) L cd (nI n) (nI ed)) H := hP
  have hD : va_D A (wMo cI cJ h (upd B to (B fr)) (vp_updL P to (P fr)) (upd E to (E fr)) (upd S to (S fr)) L cd (nI n) (nI ed)) := hD
  refine lv_aload_n hx hb dX3_copy_48 rfl (lv_at hl 0 rfl) ?_
  refine va_get (D := (dC, dI)) (ci := 3) (v := .ref (h 25)) (C := RX3) (T := TX3) (N := 8) hx hb hts (fun w9 h9 => mm (inX3 w9 h9)) hown hK hP 0 rfl rfl 7 (by decide) (hts (.fieldLink RX3 23 "ProducerBookModel" "last" "[I") (mm aw_315)) (fun _ h9 => h9) rfl dX3_copy_49 ?_
  refine lv_iload_n hx hb dX3_copy_52 rfl (lv_at hl 2 rfl) ?_
  refine lv_aload_n hx hb dX3_copy_53 rfl (lv_at hl 0 rfl) ?_
  refine va_get (D := (dC, dI)) (ci := 3) (v := .ref (h 25)) (C := RX3) (T := TX3) (N := 8) hx hb hts (fun w9 h9 => mm (inX3 w9 h9)) hown hK hP 0 rfl rfl 7 (by decide) (hts (.fieldLink RX3 23 "ProducerBookModel" "last" "[I") (mm aw_315)) (fun _ h9 => h9) rfl dX3_copy_54 ?_
  refine lv_iload_n hx hb dX3_copy_57 rfl (lv_at hl 1 rfl) ?_
  refine xh_iald hx hb hK hP 5 0 rfl rfl (k := fr) (h1) (by decide) dX3_copy_58 ?_
  refine xh_iast hx hb hK hP hD hS 5 0 rfl rfl (k := to) (h2) (by decide) dX3_copy_59 (fun H locs hP hD hS => ?_)
  have hP : va_P (dC, dI) classes (wMo cI cJ h (upd B to (B fr)) (vp_updL P to (P fr)) (upd E to (E fr)) (upd S to (S fr)) (upd L to (L fr)) cd (nI n) (nI ed)) H := hP
  have hD : va_D A (wMo cI cJ h (upd B to (B fr)) (vp_updL P to (P fr)) (upd E to (E fr)) (upd S to (S fr)) (upd L to (L fr)) cd (nI n) (nI ed)) := hD
  exact xh_vret hx hb hr (()) (trivial) hP hK hD hS dX3_copy_60 hlocks

set_option maxHeartbeats 4000000 in
set_option maxRecDepth 100000 in
theorem m_laterOnes (l : Launch) (dC : Nat → ClassId) (dI : Nat → Nat → Nat) (cI cJ : ClassId) (h : Nat → Nat) (sz : Nat) (B : Nat → Int32) (P : Nat → Int64) (E S L : Nat → Int32) (cd : Int32) (n ed : Nat) (k : Nat) (hn : n ≤ 2000) (hk : k < n) : Met l yX3_laterOnes wsX3_laterOnes ({ frames := 0, cells := 0, slots := 0, locals := 0 } : Room) (va_Pc [.ref (h 20), .int (nI k)] (xP (dC, dI) classes [(cI, FieldType.int), (cJ, FieldType.long)] (wMo cI cJ h B P E S L cd (nI n) (nI ed)) sz)) (va_Qi (fun (r : Int32) (_ : Unit) => r = nI (pb_cn P (P k) n - pb_cn P (P k) (k + 1))) (fun u => xB (dC, dI) classes [(cI, FieldType.int), (cJ, FieldType.long)] (va_A (wMo cI cJ h B P E S L cd (nI n) (nI ed)) sz) ((fun (_ : Unit) => wMo cI cJ h B P E S L cd (nI n) (nI ed)) u)) (va_A (wMo cI cJ h B P E S L cd (nI n) (nI ed)) sz)) 0 0 (va_A (wMo cI cJ h B P E S L cd (nI n) (nI ed)) sz) := by
  refine Met.ofW (cc := cX3_laterOnes) (maxL := 4) (ret := (some .int)) (by decide) rfl ?_
  intro p e s m args below meth c s₁ BB hml hv
  obtain ⟨rfl, hsz, hP, hK, hD0⟩ := hv
  have hx := BB.exec
  have hb := BB.bytes
  have hr := BB.returns
  have hts := atoms_spec (ws := wsX3_laterOnes) BB.pre
  have hown : s.vm.findClass RX3 = some m.cls := findClass_of_methodNamed BB.named
  have hlocks := BB.notSynchronized
  subst hsz
  have hD := hD0.self (sz := s.heap.size)
  generalize hAe : va_A (wMo cI cJ h B P E S L cd (nI n) (nI ed)) s.heap.size = A at hD ⊢
  have hA : ∀ q : Nat, s.heap.size ≤ q → A q := fun q h => by rw [← hAe]; exact Or.inr h
  have hS : va_S A s.heap s.heap [] := va_S.rf
  have hl := lv_entry ([.ref (h 20), .int (nI k)]) (n := 4) (Nat.le_of_ble_eq_true rfl)
  rw [lg_entry_eq]
  generalize (lg_sl ([.ref (h 20), .int (nI k)]) ++ List.replicate (4 - (lg_sl ([.ref (h 20), .int (nI k)])).length) Slot.unset).toArray = ls at hl ⊢
  have hl : lv_has ls 4 [(0, .ref (h 20)), (1, .int (nI k))] := hl
  have hP : va_P (dC, dI) classes (wMo cI cJ h B P E S L cd (nI n) (nI ed)) s.heap := hP
  have lp6 : ∀ (fuel : Nat) (i c9 : Nat) (H : Heap) (locs : List Loc) (ls : Array Slot), (i ≤ n) → (k + 1 ≤ i) → (c9 + pb_cn P (P k) (k + 1) = pb_cn P (P k) i) → n - i < fuel → va_P (dC, dI) classes (wMo cI cJ h B P E S L cd (nI n) (nI ed)) H → va_D A (wMo cI cJ h B P E S L cd (nI n) (nI ed)) → va_S A s.heap H locs → lv_has ls 4 [(0, .ref (h 20)), (1, .int (nI k)), (2, .int (nI c9)), (3, .int (nI i))] → W p l e ({ frames := 0, cells := 0, slots := 0, locals := 0 } : Room) s m ([.ref (h 20), .int (nI k)] : List Value).toArray below meth c H locs 0 0 (MQ below (va_Qi (fun (r : Int32) (_ : Unit) => r = nI (pb_cn P (P k) n - pb_cn P (P k) (k + 1))) (fun u => xB (dC, dI) classes [(cI, FieldType.int), (cJ, FieldType.long)] A ((fun (_ : Unit) => wMo cI cJ h B P E S L cd (nI n) (nI ed)) u)) A) ([.ref (h 20), .int (nI k)] : List Value).toArray s 0 0 A) (F0 m 6 ls []) := by
    intro fuel
    induction fuel with
    | zero => intro i c9 H locs ls hi hki hc hfuel; exact absurd hfuel (Nat.not_lt_zero _)
    | succ fuel ih =>
      intro i c9 H locs ls hi hki hc hfuel hP hD hS hl
      refine lv_iload_n hx hb dX3_laterOnes_6 rfl (lv_at hl 3 rfl) ?_
      refine lv_aload_n hx hb dX3_laterOnes_7 rfl (lv_at hl 0 rfl) ?_
      refine va_get (D := (dC, dI)) (ci := 3) (v := .int (nI n)) (C := RX3) (T := TX3) (N := 8) hx hb hts (fun w9 h9 => mm (inX3 w9 h9)) hown hK hP 0 rfl rfl 1 (by decide) (hts (.fieldLink RX3 32 "ProducerBookModel" "count" "I") (mm aw_309)) (fun _ h9 => h9) rfl dX3_laterOnes_8 ?_
      refine lv_icmp_ge (tgt := 44) hx hb dX3_laterOnes_11 (by decide) (fun c_11 => ?_) (fun c_11 => ?_)
      · have c1 := (nI_leI (by omega) (by omega)).mp c_11
        have ei : i = n := by omega
        rw [ei] at hc
        refine lv_iload_n hx hb dX3_laterOnes_44 rfl (lv_at hl 2 rfl) ?_
        exact xh_iret hx hb hr (()) (by congr 1; omega) hP hK hD hS dX3_laterOnes_45 hlocks
      · have c1 : i < n := Nat.lt_of_not_le fun g => c_11 ((nI_leI (by omega) (by omega)).mpr g)
        refine lv_iload_n hx hb dX3_laterOnes_14 rfl (lv_at hl 2 rfl) ?_
        refine lv_aload_n hx hb dX3_laterOnes_15 rfl (lv_at hl 0 rfl) ?_
        refine va_get (D := (dC, dI)) (ci := 3) (v := .ref (h 22)) (C := RX3) (T := TX3) (N := 8) hx hb hts (fun w9 h9 => mm (inX3 w9 h9)) hown hK hP 0 rfl rfl 4 (by decide) (hts (.fieldLink RX3 13 "ProducerBookModel" "producer" "[J") (mm aw_312)) (fun _ h9 => h9) rfl dX3_laterOnes_16 ?_
        refine lv_iload_n hx hb dX3_laterOnes_19 rfl (lv_at hl 3 rfl) ?_
        refine xh_lald hx hb hK hP 2 1 rfl rfl (k := i) (by omega) (by decide) dX3_laterOnes_20 ?_
        refine lv_aload_n hx hb dX3_laterOnes_21 rfl (lv_at hl 0 rfl) ?_
        refine va_get (D := (dC, dI)) (ci := 3) (v := .ref (h 22)) (C := RX3) (T := TX3) (N := 8) hx hb hts (fun w9 h9 => mm (inX3 w9 h9)) hown hK hP 0 rfl rfl 4 (by decide) (hts (.fieldLink RX3 13 "ProducerBookModel" "producer" "[J") (mm aw_312)) (fun _ h9 => h9) rfl dX3_laterOnes_22 ?_
        refine lv_iload_n hx hb dX3_laterOnes_25 rfl (lv_at hl 1 rfl) ?_
        refine xh_lald hx hb hK hP 2 1 rfl rfl (k := k) (by omega) (by decide) dX3_laterOnes_26 ?_
        refine W.lcmp hx hb dX3_laterOnes_27 ?_
        refine lv_if_ne (tgt := 35) hx hb dX3_laterOnes_28 (by decide) (fun c_28 => ?_) (fun c_28 => ?_)
        · have cP : ¬ P i = P k := fun g => c_28 ((lg_cmp_eq _ _).mpr g)
          refine lv_iconst (v := nI 0) hx hb dX3_laterOnes_35 (by decide +kernel) ?_
          refine lv_iadd hx hb dX3_laterOnes_36 ?_
          refine xh_topi (z := nI (c9 + 0)) (nI_add c9 0) ?_
          refine lv_istore_n (lv' := [(2, .int (nI (c9 + 0))), (0, .ref (h 20)), (1, .int (nI k)), (3, .int (nI i))]) hx hb dX3_laterOnes_37 rfl hl (by decide) rfl (fun ls hl => ?_)
          refine lv_iinc (v := nI (i + 1)) (lv' := [(3, .int (nI (i + 1))), (2, .int (nI (c9 + 0))), (0, .ref (h 20)), (1, .int (nI k))]) hx hb dX3_laterOnes_38 hl (k := 3) rfl (by exact nI_1 i) (by decide) rfl (fun ls hl => ?_)
          refine lv_goto (tgt := 6) hx hb dX3_laterOnes_41 (by decide) ?_
          exact ih (i + 1) (c9 + 0) _ _ _ (by omega) (by omega) (by rw [pb_cn_n cP]; exact hc) (by omega) hP hD hS (lv_sub hl [2, 3, 1, 0] rfl)
        · have cP : P i = P k := (lg_cmp_eq _ _).mp c_28
          refine lv_iconst (v := nI 1) hx hb dX3_laterOnes_31 (by decide +kernel) ?_
          refine lv_goto (tgt := 36) hx hb dX3_laterOnes_32 (by decide) ?_
          refine lv_iadd hx hb dX3_laterOnes_36 ?_
          refine xh_topi (z := nI (c9 + 1)) (nI_add c9 1) ?_
          refine lv_istore_n (lv' := [(2, .int (nI (c9 + 1))), (0, .ref (h 20)), (1, .int (nI k)), (3, .int (nI i))]) hx hb dX3_laterOnes_37 rfl hl (by decide) rfl (fun ls hl => ?_)
          refine lv_iinc (v := nI (i + 1)) (lv' := [(3, .int (nI (i + 1))), (2, .int (nI (c9 + 1))), (0, .ref (h 20)), (1, .int (nI k))]) hx hb dX3_laterOnes_38 hl (k := 3) rfl (by exact nI_1 i) (by decide) rfl (fun ls hl => ?_)
          refine lv_goto (tgt := 6) hx hb dX3_laterOnes_41 (by decide) ?_
          exact ih (i + 1) (c9 + 1) _ _ _ (by omega) (by omega) (by rw [pb_cn_y cP]; omega) (by omega) hP hD hS (lv_sub hl [2, 3, 1, 0] rfl)
  refine lv_iconst (v := nI 0) hx hb dX3_laterOnes_0 (by decide +kernel) ?_
  refine lv_istore_n (lv' := [(2, .int (nI 0)), (0, .ref (h 20)), (1, .int (nI k))]) hx hb dX3_laterOnes_1 rfl hl (by decide) rfl (fun ls hl => ?_)
  refine lv_iload_n hx hb dX3_laterOnes_2 rfl (lv_at hl 2 rfl) ?_
  refine lv_iconst (v := nI 1) hx hb dX3_laterOnes_3 (by decide +kernel) ?_
  refine lv_iadd hx hb dX3_laterOnes_4 ?_
  refine xh_topi (z := nI (k + 1)) (nI_add k 1) ?_
  refine lv_istore_n (lv' := [(3, .int (nI (k + 1))), (2, .int (nI 0)), (0, .ref (h 20)), (1, .int (nI k))]) hx hb dX3_laterOnes_5 rfl hl (by decide) rfl (fun ls hl => ?_)
  exact lp6 (n + 1) (k + 1) 0 _ _ _ (by omega) (Nat.le_refl _) (Nat.zero_add _) (by omega) hP hD hS (lv_sub hl [2, 3, 1, 0] rfl)

set_option maxHeartbeats 4000000 in
set_option maxRecDepth 100000 in
theorem m_isKnown (l : Launch) (dC : Nat → ClassId) (dI : Nat → Nat → Nat) (cI cJ : ClassId) (h : Nat → Nat) (sz : Nat) (B : Nat → Int32) (P : Nat → Int64) (E S L : Nat → Int32) (cd : Int32) (n ed : Nat) (k : Nat) (hn : n ≤ 2000) (hk : k < n) (hpk : P k = -1 ∨ ¬ P k < 0) : Met l yX3_isKnown wsX3_isKnown ({ frames := 1, cells := 0, slots := 0, locals := 60 } : Room) (va_Pc [.ref (h 20), .int (nI k)] (xP (dC, dI) classes [(cI, FieldType.int), (cJ, FieldType.long)] (wMo cI cJ h B P E S L cd (nI n) (nI ed)) sz)) (va_Qi (fun (r : Int32) (_ : Unit) => (pb_nv P n k < 5 ∧ r = nI 1) ∨ (¬ pb_nv P n k < 5 ∧ r = nI 0)) (fun u => xB (dC, dI) classes [(cI, FieldType.int), (cJ, FieldType.long)] (va_A (wMo cI cJ h B P E S L cd (nI n) (nI ed)) sz) ((fun (_ : Unit) => wMo cI cJ h B P E S L cd (nI n) (nI ed)) u)) (va_A (wMo cI cJ h B P E S L cd (nI n) (nI ed)) sz)) 0 0 (va_A (wMo cI cJ h B P E S L cd (nI n) (nI ed)) sz) := by
  refine Met.ofW (cc := cX3_isKnown) (maxL := 2) (ret := (some .boolean)) (by decide) rfl ?_
  intro p e s m args below meth c s₁ BB hml hv
  obtain ⟨rfl, hsz, hP, hK, hD0⟩ := hv
  have hx := BB.exec
  have hb := BB.bytes
  have hr := BB.returns
  have hts := atoms_spec (ws := wsX3_isKnown) BB.pre
  have hown : s.vm.findClass RX3 = some m.cls := findClass_of_methodNamed BB.named
  have hlocks := BB.notSynchronized
  subst hsz
  have hD := hD0.self (sz := s.heap.size)
  generalize hAe : va_A (wMo cI cJ h B P E S L cd (nI n) (nI ed)) s.heap.size = A at hD ⊢
  have hA : ∀ q : Nat, s.heap.size ≤ q → A q := fun q h => by rw [← hAe]; exact Or.inr h
  have hS : va_S A s.heap s.heap [] := va_S.rf
  have hl := lv_entry ([.ref (h 20), .int (nI k)]) (n := 2) (Nat.le_of_ble_eq_true rfl)
  rw [lg_entry_eq]
  generalize (lg_sl ([.ref (h 20), .int (nI k)]) ++ List.replicate (2 - (lg_sl ([.ref (h 20), .int (nI k)])).length) Slot.unset).toArray = ls at hl ⊢
  have hl : lv_has ls 2 [(0, .ref (h 20)), (1, .int (nI k))] := hl
  have hP : va_P (dC, dI) classes (wMo cI cJ h B P E S L cd (nI n) (nI ed)) s.heap := hP
  refine lv_aload_n hx hb dX3_isKnown_0 rfl (lv_at hl 0 rfl) ?_
  refine va_get (D := (dC, dI)) (ci := 3) (v := .ref (h 22)) (C := RX3) (T := TX3) (N := 8) hx hb hts (fun w9 h9 => mm (inX3 w9 h9)) hown hK hP 0 rfl rfl 4 (by decide) (hts (.fieldLink RX3 13 "ProducerBookModel" "producer" "[J") (mm aw_312)) (fun _ h9 => h9) rfl dX3_isKnown_1 ?_
  refine lv_iload_n hx hb dX3_isKnown_4 rfl (lv_at hl 1 rfl) ?_
  refine xh_lald hx hb hK hP 2 1 rfl rfl (k := k) (by omega) (by decide) dX3_isKnown_5 ?_
  refine lv_lconst (v := 0) hx hb dX3_isKnown_6 (by decide) ?_
  refine W.lcmp hx hb dX3_isKnown_7 ?_
  refine lv_if_lt (tgt := 24) hx hb dX3_isKnown_8 (by decide) (fun c_8 => ?_) (fun c_8 => ?_)
  · have cQ : P k < 0 := (lg_cmp_lt _ _).mp c_8
    refine lv_iconst (v := nI 0) hx hb dX3_isKnown_24 (by decide +kernel) ?_
    exact xh_zret hx hb hr rfl (()) (Or.inr ⟨pb_nvA hpk cQ, rfl⟩) hP hK hD hS dX3_isKnown_25 hlocks
  · have cQ : ¬ P k < 0 := fun g => c_8 ((lg_cmp_lt _ _).mpr g)
    refine lv_aload_n hx hb dX3_isKnown_11 rfl (lv_at hl 0 rfl) ?_
    refine lv_iload_n hx hb dX3_isKnown_12 rfl (lv_at hl 1 rfl) ?_
    refine xh_calli (wc := wMo cI cJ h B P E S L cd (nI n) (nI ed)) (wr := []) (w1 := fun (u : Unit) => wMo cI cJ h B P E S L cd (nI n) (nI ed)) hP hD hS hA [0, 1, 2, 3, 4, 5] [] rfl rfl (by decide) (by decide) (va_runV (As := [.int (nI k)]) (rest := []) ⟨hx, hb, hml, hown, hts⟩ (m_laterOnes l dC dI cI cJ h s.heap.size B P E S L cd n ed k hn hk) (cwV 1 hts (aw_V aw_382 aw_384 aw_s10 aw_4 aw_385) rfl rfl rfl (by decide +kernel) ⟨Nat.le_of_ble_eq_true rfl, Nat.le_of_ble_eq_true rfl⟩) (xh_preV (r0 := 0) hK (hP.sub (ws' := wMo cI cJ h B P E S L cd (nI n) (nI ed)) [0, 1, 2, 3, 4, 5] rfl) (hD.sub (ws' := wMo cI cJ h B P E S L cd (nI n) (nI ed)) [0, 1, 2, 3, 4, 5] (by decide) rfl) rfl rfl rfl) rfl rfl hl.1 rfl (lv_room (Nat.le_of_ble_eq_true rfl)) dX3_isKnown_13 ⟨Nat.le_of_ble_eq_true rfl, Nat.le_of_ble_eq_true rfl⟩) (fun r_1 u H locs hw hP hD hS => ?_)
    have hP : va_P (dC, dI) classes (wMo cI cJ h B P E S L cd (nI n) (nI ed)) H := hP
    have hD : va_D A (wMo cI cJ h B P E S L cd (nI n) (nI ed)) := hD
    have hle := pb_cn_le P (P k) n
    refine xh_topi (z := nI (pb_cn P (P k) n - pb_cn P (P k) (k + 1))) (hw) ?_
    refine lv_iconst (v := nI 5) hx hb dX3_isKnown_16 (by decide +kernel) ?_
    refine lv_icmp_ge (tgt := 24) hx hb dX3_isKnown_17 (by decide) (fun c_17 => ?_) (fun c_17 => ?_)
    · have c5 := (nI_leI (by decide) (by omega)).mp c_17
      refine lv_iconst (v := nI 0) hx hb dX3_isKnown_24 (by decide +kernel) ?_
      exact xh_zret hx hb hr rfl (()) (Or.inr ⟨fun g => absurd ((pb_nvB cQ).mp g) (by omega), rfl⟩) hP hK hD hS dX3_isKnown_25 hlocks
    · have c5 : (pb_cn P (P k) n - pb_cn P (P k) (k + 1)) < 5 := Nat.lt_of_not_le fun g => c_17 ((nI_leI (by decide) (by omega)).mpr g)
      refine lv_iconst (v := nI 1) hx hb dX3_isKnown_20 (by decide +kernel) ?_
      refine lv_goto (tgt := 25) hx hb dX3_isKnown_21 (by decide) ?_
      exact xh_zret hx hb hr rfl (()) (Or.inl ⟨(pb_nvB cQ).mpr c5, rfl⟩) hP hK hD hS dX3_isKnown_25 hlocks
