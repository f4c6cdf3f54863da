set_option maxHeartbeats 4000000 in
set_option maxRecDepth 100000 in
/-- isKnown(k): newer[k] < 5 -/
theorem c_Log_isKnown (l : Launch) (dC : Nat → ClassId) (dI : Nat → Nat → Nat) (cI cJ : ClassId) (h : Nat → Nat) (sz : Nat) (B : Nat → Int32) (P : Nat → Int64) (E S L N : Nat → Int32) (n ed : Nat) (k : Nat) (hk : k < 2000) : Met l yX1_isKnown wsX1_isKnown ({ frames := 0, cells := 0, slots := 0, locals := 0 } : Room) (va_Pc [.ref (h 1), .int (nI k)] (xP (dC, dI) classes [(cI, FieldType.int), (cJ, FieldType.long)] (wLog cI cJ h B P E S L N (nI n) (nI ed)) sz)) (va_Qi (fun (r : Int32) (_ : Unit) => (¬ nI 5 ≤ N k ∧ r = nI 1) ∨ (nI 5 ≤ N k ∧ r = nI 0)) (fun u => xB (dC, dI) classes [(cI, FieldType.int), (cJ, FieldType.long)] (va_A (wLog cI cJ h B P E S L N (nI n) (nI ed)) sz) ((fun (_ : Unit) => wLog cI cJ h B P E S L N (nI n) (nI ed)) u)) (va_A (wLog cI cJ h B P E S L N (nI n) (nI ed)) sz)) 0 0 (va_A (wLog cI cJ h B P E S L N (nI n) (nI ed)) sz) := by
  refine Met.ofW (cc := cX1_isKnown) (maxL := 2) (ret := (some .boolean)) (by decide) rfl ?_
  intro p e s m args below meth c s₁ BB hml hv
  obtain ⟨rfl, hsz, hP, hK, hD0⟩ := hv
  have hx := BB.exec
  have hb := BB.bytes
  have hr := BB.returns
  have hts := atoms_spec (ws := wsX1_isKnown) BB.pre
  have hown : s.vm.findClass RX1 = some m.cls := findClass_of_methodNamed BB.named
  have hlocks := BB.notSynchronized
  subst hsz
  have hD := hD0.self (sz := s.heap.size)
  generalize hAe : va_A (wLog cI cJ h B P E S L N (nI n) (nI ed)) s.heap.size = A at hD ⊢
  have hA : ∀ q : Nat, s.heap.size ≤ q → A q := fun q h => by rw [← hAe]; exact Or.inr h
  have hS : va_S A s.heap s.heap [] := va_S.rf
  have hl := lv_entry ([.ref (h 1), .int (nI k)]) (n := 2) (Nat.le_of_ble_eq_true rfl)
  rw [lg_entry_eq]
  generalize (lg_sl ([.ref (h 1), .int (nI k)]) ++ List.replicate (2 - (lg_sl ([.ref (h 1), .int (nI k)])).length) Slot.unset).toArray = ls at hl ⊢
  have hl : lv_has ls 2 [(0, .ref (h 1)), (1, .int (nI k))] := hl
  have hP : va_P (dC, dI) classes (wLog cI cJ h B P E S L N (nI n) (nI ed)) s.heap := hP
  refine lv_aload_n hx hb dX1_isKnown_0 rfl (lv_at hl 0 rfl) ?_
  refine va_get (D := (dC, dI)) (ci := 1) (v := .ref (h 7)) (C := RX1) (T := TX1) (N := 8) hx hb hts (fun w9 h9 => mm (inX1 w9 h9)) hown hK hP 0 rfl rfl 5 (by decide) (hts (.fieldLink RX1 28 "ProducerBook$Log" "newer" "[I") (mm aw_36)) (fun _ h9 => h9) rfl dX1_isKnown_1 ?_
  refine lv_iload_n hx hb dX1_isKnown_4 rfl (lv_at hl 1 rfl) ?_
  refine xh_iald hx hb hK hP 6 0 rfl rfl (k := k) (hk) (by decide) dX1_isKnown_5 ?_
  refine lv_iconst (v := nI 5) hx hb dX1_isKnown_6 (by decide +kernel) ?_
  refine lv_icmp_ge (tgt := 14) hx hb dX1_isKnown_7 (by decide) (fun c_7 => ?_) (fun c_7 => ?_)
  · refine lv_iconst (v := nI 0) hx hb dX1_isKnown_14 (by decide +kernel) ?_
    exact xh_zret hx hb hr rfl (()) (Or.inr ⟨c_7, rfl⟩) hP hK hD hS dX1_isKnown_15 hlocks
  · refine lv_iconst (v := nI 1) hx hb dX1_isKnown_10 (by decide +kernel) ?_
    refine lv_goto (tgt := 15) hx hb dX1_isKnown_11 (by decide) ?_
    exact xh_zret hx hb hr rfl (()) (Or.inl ⟨c_7, rfl⟩) hP hK hD hS dX1_isKnown_15 hlocks

set_option maxHeartbeats 4000000 in
set_option maxRecDepth 100000 in
/-- hasRoom(k, a): k batches of a + 1 fit -/
theorem c_Log_hasRoom (l : Launch) (dC : Nat → ClassId) (dI : Nat → Nat → Nat) (cI cJ : ClassId) (h : Nat → Nat) (sz : Nat) (B : Nat → Int32) (P : Nat → Int64) (E S L N : Nat → Int32) (n ed : Nat) (k a : Nat) (hn : n ≤ 2000) (hed : ed ≤ 1000000) (hk : k ≤ 500) (ha : a ≤ 999) : Met l yX1_hasRoom wsX1_hasRoom ({ frames := 0, cells := 0, slots := 0, locals := 0 } : Room) (va_Pc [.ref (h 1), .int (nI k), .int (nI a)] (xP (dC, dI) classes [(cI, FieldType.int), (cJ, FieldType.long)] (wLog cI cJ h B P E S L N (nI n) (nI ed)) sz)) (va_Qi (fun (r : Int32) (_ : Unit) => ((n + k ≤ 2000 ∧ ed + k * (a + 1) ≤ 1000000) ∧ r = nI 1) ∨ (¬ (n + k ≤ 2000 ∧ ed + k * (a + 1) ≤ 1000000) ∧ r = nI 0)) (fun u => xB (dC, dI) classes [(cI, FieldType.int), (cJ, FieldType.long)] (va_A (wLog cI cJ h B P E S L N (nI n) (nI ed)) sz) ((fun (_ : Unit) => wLog cI cJ h B P E S L N (nI n) (nI ed)) u)) (va_A (wLog cI cJ h B P E S L N (nI n) (nI ed)) sz)) 0 0 (va_A (wLog cI cJ h B P E S L N (nI n) (nI ed)) sz) := by
  refine Met.ofW (cc := cX1_hasRoom) (maxL := 3) (ret := (some .boolean)) (by decide) rfl ?_
  intro p e s m args below meth c s₁ BB hml hv
  obtain ⟨rfl, hsz, hP, hK, hD0⟩ := hv
  have hx := BB.exec
  have hb := BB.bytes
  have hr := BB.returns
  have hts := atoms_spec (ws := wsX1_hasRoom) BB.pre
  have hown : s.vm.findClass RX1 = some m.cls := findClass_of_methodNamed BB.named
  have hlocks := BB.notSynchronized
  subst hsz
  have hD := hD0.self (sz := s.heap.size)
  generalize hAe : va_A (wLog cI cJ h B P E S L N (nI n) (nI ed)) s.heap.size = A at hD ⊢
  have hA : ∀ q : Nat, s.heap.size ≤ q → A q := fun q h => by rw [← hAe]; exact Or.inr h
  have hS : va_S A s.heap s.heap [] := va_S.rf
  have hl := lv_entry ([.ref (h 1), .int (nI k), .int (nI a)]) (n := 3) (Nat.le_of_ble_eq_true rfl)
  rw [lg_entry_eq]
  generalize (lg_sl ([.ref (h 1), .int (nI k), .int (nI a)]) ++ List.replicate (3 - (lg_sl ([.ref (h 1), .int (nI k), .int (nI a)])).length) Slot.unset).toArray = ls at hl ⊢
  have hl : lv_has ls 3 [(0, .ref (h 1)), (1, .int (nI k)), (2, .int (nI a))] := hl
  have hP : va_P (dC, dI) classes (wLog cI cJ h B P E S L N (nI n) (nI ed)) s.heap := hP
  have hka : k * (a + 1) ≤ 500 * 1000 := Nat.mul_le_mul hk (by omega)
  refine lv_aload_n hx hb dX1_hasRoom_0 rfl (lv_at hl 0 rfl) ?_
  refine va_get (D := (dC, dI)) (ci := 1) (v := .int (nI n)) (C := RX1) (T := TX1) (N := 8) hx hb hts (fun w9 h9 => mm (inX1 w9 h9)) hown hK hP 0 rfl rfl 6 (by decide) (hts (.fieldLink RX1 31 "ProducerBook$Log" "size" "I") (mm aw_37)) (fun _ h9 => h9) rfl dX1_hasRoom_1 ?_
  refine lv_iload_n hx hb dX1_hasRoom_4 rfl (lv_at hl 1 rfl) ?_
  refine lv_iadd hx hb dX1_hasRoom_5 ?_
  refine xh_topi (z := nI (n + k)) (nI_add n k) ?_
  refine lv_sipush (v := nI 2000) hx hb dX1_hasRoom_6 (by decide +kernel) ?_
  refine lv_icmp_gt (tgt := 31) hx hb dX1_hasRoom_9 (by decide) (fun c_9 => ?_) (fun c_9 => ?_)
  · have c1 := (nI_ltI (by decide) (by omega)).mp c_9
    refine lv_iconst (v := nI 0) hx hb dX1_hasRoom_31 (by decide +kernel) ?_
    exact xh_zret hx hb hr rfl (()) (Or.inr ⟨fun g => absurd g.1 (by omega), rfl⟩) hP hK hD hS dX1_hasRoom_32 hlocks
  · have c1 : n + k ≤ 2000 := Nat.le_of_not_lt fun g => c_9 ((nI_ltI (by decide) (by omega)).mpr g)
    refine lv_aload_n hx hb dX1_hasRoom_12 rfl (lv_at hl 0 rfl) ?_
    refine va_get (D := (dC, dI)) (ci := 1) (v := .int (nI ed)) (C := RX1) (T := TX1) (N := 8) hx hb hts (fun w9 h9 => mm (inX1 w9 h9)) hown hK hP 0 rfl rfl 7 (by decide) (hts (.fieldLink RX1 35 "ProducerBook$Log" "end" "I") (mm aw_39)) (fun _ h9 => h9) rfl dX1_hasRoom_13 ?_
    refine lv_iload_n hx hb dX1_hasRoom_16 rfl (lv_at hl 1 rfl) ?_
    refine lv_iload_n hx hb dX1_hasRoom_17 rfl (lv_at hl 2 rfl) ?_
    refine lv_iconst (v := nI 1) hx hb dX1_hasRoom_18 (by decide +kernel) ?_
    refine lv_iadd hx hb dX1_hasRoom_19 ?_
    refine xh_topi (z := nI (a + 1)) (nI_add a 1) ?_
    refine lv_imul hx hb dX1_hasRoom_20 ?_
    refine xh_topi (z := nI (k * (a + 1))) (pk_mul k (a + 1)) ?_
    refine lv_iadd hx hb dX1_hasRoom_21 ?_
    refine xh_topi (z := nI (ed + k * (a + 1))) (nI_add ed _) ?_
    refine lv_ldc (v := nI 1000000) hx hb hown (hts (.constant RX1 38 (nI 1000000)) (mm aw_218)) dX1_hasRoom_22 ?_
    refine lv_icmp_gt (tgt := 31) hx hb dX1_hasRoom_24 (by decide) (fun c_24 => ?_) (fun c_24 => ?_)
    · have c2 := (nI_ltI (by decide) (by omega)).mp c_24
      refine lv_iconst (v := nI 0) hx hb dX1_hasRoom_31 (by decide +kernel) ?_
      exact xh_zret hx hb hr rfl (()) (Or.inr ⟨fun g => absurd g.2 (by omega), rfl⟩) hP hK hD hS dX1_hasRoom_32 hlocks
    · have c2 : ed + k * (a + 1) ≤ 1000000 := Nat.le_of_not_lt fun g => c_24 ((nI_ltI (by decide) (by omega)).mpr g)
      refine lv_iconst (v := nI 1) hx hb dX1_hasRoom_27 (by decide +kernel) ?_
      refine lv_goto (tgt := 32) hx hb dX1_hasRoom_28 (by decide) ?_
      exact xh_zret hx hb hr rfl (()) (Or.inl ⟨⟨c1, c2⟩, rfl⟩) hP hK hD hS dX1_hasRoom_32 hlocks

set_option maxHeartbeats 4000000 in
set_option maxRecDepth 100000 in
/-- countProducers(): how many have newer = 0 -/
theorem c_Log_countProducers (l : Launch) (dC : Nat → ClassId) (dI : Nat → Nat → Nat) (cI cJ : ClassId) (h : Nat → Nat) (sz : Nat) (B : Nat → Int32) (P : Nat → Int64) (E S L N : Nat → Int32) (n ed : Nat) (hn : n ≤ 2000) : Met l yX1_countProducers wsX1_countProducers ({ frames := 0, cells := 0, slots := 0, locals := 0 } : Room) (va_Pc [.ref (h 1)] (xP (dC, dI) classes [(cI, FieldType.int), (cJ, FieldType.long)] (wLog cI cJ h B P E S L N (nI n) (nI ed)) sz)) (va_Qi (fun (r : Int32) (_ : Unit) => r = nI (pb_c0 N n)) (fun u => xB (dC, dI) classes [(cI, FieldType.int), (cJ, FieldType.long)] (va_A (wLog cI cJ h B P E S L N (nI n) (nI ed)) sz) ((fun (_ : Unit) => wLog cI cJ h B P E S L N (nI n) (nI ed)) u)) (va_A (wLog cI cJ h B P E S L N (nI n) (nI ed)) sz)) 0 0 (va_A (wLog cI cJ h B P E S L N (nI n) (nI ed)) sz) := by
  refine Met.ofW (cc := cX1_countProducers) (maxL := 3) (ret := (some .int)) (by decide) rfl ?_
  intro p e s m args below meth c s₁ BB hml hv
  obtain ⟨rfl, hsz, hP, hK, hD0⟩ := hv
  have hx := BB.exec
  have hb := BB.bytes
  have hr := BB.returns
  have hts := atoms_spec (ws := wsX1_countProducers) BB.pre
  have hown : s.vm.findClass RX1 = some m.cls := findClass_of_methodNamed BB.named
  have hlocks := BB.notSynchronized
  subst hsz
  have hD := hD0.self (sz := s.heap.size)
  generalize hAe : va_A (wLog cI cJ h B P E S L N (nI n) (nI ed)) s.heap.size = A at hD ⊢
  have hA : ∀ q : Nat, s.heap.size ≤ q → A q := fun q h => by rw [← hAe]; exact Or.inr h
  have hS : va_S A s.heap s.heap [] := va_S.rf
  have hl := lv_entry ([.ref (h 1)]) (n := 3) (Nat.le_of_ble_eq_true rfl)
  rw [lg_entry_eq]
  generalize (lg_sl ([.ref (h 1)]) ++ List.replicate (3 - (lg_sl ([.ref (h 1)])).length) Slot.unset).toArray = ls at hl ⊢
  have hl : lv_has ls 3 [(0, .ref (h 1))] := hl
  have hP : va_P (dC, dI) classes (wLog cI cJ h B P E S L N (nI n) (nI ed)) s.heap := hP
  have lp4 : ∀ (fuel : Nat) (i : Nat) (H : Heap) (locs : List Loc) (ls : Array Slot), (i ≤ n) → n - i < fuel → va_P (dC, dI) classes (wLog cI cJ h B P E S L N (nI n) (nI ed)) H → va_D A (wLog cI cJ h B P E S L N (nI n) (nI ed)) → va_S A s.heap H locs → lv_has ls 3 [(0, .ref (h 1)), (1, .int (nI (pb_c0 N i))), (2, .int (nI i))] → W p l e ({ frames := 0, cells := 0, slots := 0, locals := 0 } : Room) s m ([.ref (h 1)] : List Value).toArray below meth c H locs 0 0 (MQ below (va_Qi (fun (r : Int32) (_ : Unit) => r = nI (pb_c0 N n)) (fun u => xB (dC, dI) classes [(cI, FieldType.int), (cJ, FieldType.long)] A ((fun (_ : Unit) => wLog cI cJ h B P E S L N (nI n) (nI ed)) u)) A) ([.ref (h 1)] : List Value).toArray s 0 0 A) (F0 m 4 ls []) := by
    intro fuel
    induction fuel with
    | zero => intro i H locs ls hi hfuel; exact absurd hfuel (Nat.not_lt_zero _)
    | succ fuel ih =>
      intro i H locs ls hi hfuel hP hD hS hl
      refine lv_iload_n hx hb dX1_countProducers_4 rfl (lv_at hl 2 rfl) ?_
      refine lv_aload_n hx hb dX1_countProducers_5 rfl (lv_at hl 0 rfl) ?_
      refine va_get (D := (dC, dI)) (ci := 1) (v := .int (nI n)) (C := RX1) (T := TX1) (N := 8) hx hb hts (fun w9 h9 => mm (inX1 w9 h9)) hown hK hP 0 rfl rfl 6 (by decide) (hts (.fieldLink RX1 31 "ProducerBook$Log" "size" "I") (mm aw_37)) (fun _ h9 => h9) rfl dX1_countProducers_6 ?_
      refine lv_icmp_ge (tgt := 30) hx hb dX1_countProducers_9 (by decide) (fun c_9 => ?_) (fun c_9 => ?_)
      · have c1 := (nI_leI (by omega) (by omega)).mp c_9
        refine lv_iload_n hx hb dX1_countProducers_30 rfl (lv_at hl 1 rfl) ?_
        exact xh_iret hx hb hr (()) (by rw [show i = n by omega]) hP hK hD hS dX1_countProducers_31 hlocks
      · have c1 : i < n := Nat.lt_of_not_le fun g => c_9 ((nI_leI (by omega) (by omega)).mpr g)
        refine lv_aload_n hx hb dX1_countProducers_12 rfl (lv_at hl 0 rfl) ?_
        refine va_get (D := (dC, dI)) (ci := 1) (v := .ref (h 7)) (C := RX1) (T := TX1) (N := 8) hx hb hts (fun w9 h9 => mm (inX1 w9 h9)) hown hK hP 0 rfl rfl 5 (by decide) (hts (.fieldLink RX1 28 "ProducerBook$Log" "newer" "[I") (mm aw_36)) (fun _ h9 => h9) rfl dX1_countProducers_13 ?_
        refine lv_iload_n hx hb dX1_countProducers_16 rfl (lv_at hl 2 rfl) ?_
        refine xh_iald hx hb hK hP 6 0 rfl rfl (k := i) (by omega) (by decide) dX1_countProducers_17 ?_
        refine lv_if_ne (tgt := 24) hx hb dX1_countProducers_18 (by decide) (fun c_18 => ?_) (fun c_18 => ?_)
        · refine lv_iinc (v := nI (i + 1)) (lv' := [(2, .int (nI (i + 1))), (0, .ref (h 1)), (1, .int (nI (pb_c0 N i)))]) hx hb dX1_countProducers_24 hl (k := 2) rfl (by exact nI_1 i) (by decide) rfl (fun ls hl => ?_)
          refine lv_goto (tgt := 4) hx hb dX1_countProducers_27 (by decide) ?_
          rw [← pb_c0_n (show ¬ N i = 0 from c_18)] at hl
          exact ih (i + 1) _ _ _ (by omega) (by omega) hP hD hS (lv_sub hl [1, 2, 0] rfl)
        · refine lv_iinc (v := nI (pb_c0 N (i + 1))) (lv' := [(1, .int (nI (pb_c0 N (i + 1)))), (0, .ref (h 1)), (2, .int (nI i))]) hx hb dX1_countProducers_21 hl (k := 1) rfl (by rw [pb_c0_y (show N i = 0 from c_18)]; exact nI_1 _) (by decide) rfl (fun ls hl => ?_)
          refine lv_iinc (v := nI (i + 1)) (lv' := [(2, .int (nI (i + 1))), (1, .int (nI (pb_c0 N (i + 1)))), (0, .ref (h 1))]) hx hb dX1_countProducers_24 hl (k := 2) rfl (by exact nI_1 i) (by decide) rfl (fun ls hl => ?_)
          refine lv_goto (tgt := 4) hx hb dX1_countProducers_27 (by decide) ?_
          exact ih (i + 1) _ _ _ (by omega) (by omega) hP hD hS (lv_sub hl [2, 1, 0] rfl)
  refine lv_iconst (v := nI 0) hx hb dX1_countProducers_0 (by decide +kernel) ?_
  refine lv_istore_n (lv' := [(1, .int (nI 0)), (0, .ref (h 1))]) hx hb dX1_countProducers_1 rfl hl (by decide) rfl (fun ls hl => ?_)
  refine lv_iconst (v := nI 0) hx hb dX1_countProducers_2 (by decide +kernel) ?_
  refine lv_istore_n (lv' := [(2, .int (nI 0)), (1, .int (nI 0)), (0, .ref (h 1))]) hx hb dX1_countProducers_3 rfl hl (by decide) rfl (fun ls hl => ?_)
  exact lp4 (n + 1) 0 _ _ _ (Nat.zero_le n) (by omega) hP hD hS (lv_sub hl [2, 1, 0] rfl)

set_option maxHeartbeats 4000000 in
set_option maxRecDepth 100000 in
/-- move(fr, to, ct): ct batches from fr to to -/
theorem c_Log_move (l : Launch) (dC : Nat → ClassId) (dI : Nat → Nat → Nat) (cI cJ : ClassId) (h : Nat → Nat) (sz : Nat) (B : Nat → Int32) (P : Nat → Int64) (E S L N : Nat → Int32) (n ed : Nat) (fr to ct : Nat) (h1 : fr + ct ≤ 2000) (h2 : to + ct ≤ 2000) : Met l yX1_move wsX1_move ({ frames := 1, cells := 0, slots := 0, locals := 60 } : Room) (va_Pc [.ref (h 1), .int (nI fr), .int (nI to), .int (nI ct)] (xP (dC, dI) classes [(cI, FieldType.int), (cJ, FieldType.long)] (wLog cI cJ h B P E S L N (nI n) (nI ed)) sz)) (va_Qv (fun (_ : Unit) => True) (fun u => xB (dC, dI) classes [(cI, FieldType.int), (cJ, FieldType.long)] (va_A (wLog cI cJ h B P E S L N (nI n) (nI ed)) sz) ((fun (_ : Unit) => wLog cI cJ h (va_cpy B B fr to ct) (va_cpy P P fr to ct) (va_cpy E E fr to ct) (va_cpy S S fr to ct) (va_cpy L L fr to ct) (va_cpy N N fr to ct) (nI n) (nI ed)) u)) (va_A (wLog cI cJ h B P E S L N (nI n) (nI ed)) sz)) 0 0 (va_A (wLog cI cJ h B P E S L N (nI n) (nI ed)) sz) := by
  refine Met.ofW (cc := cX1_move) (maxL := 4) (ret := none) (by decide) rfl ?_
  intro p e s m args below meth c s₁ BB hml hv
  obtain ⟨rfl, hsz, hP, hK, hD0⟩ := hv
  have hx := BB.exec
  have hb := BB.bytes
  have hr := BB.returns
  have hts := atoms_spec (ws := wsX1_move) BB.pre
  have hown : s.vm.findClass RX1 = some m.cls := findClass_of_methodNamed BB.named
  have hlocks := BB.notSynchronized
  subst hsz
  have hD := hD0.self (sz := s.heap.size)
  generalize hAe : va_A (wLog cI cJ h B P E S L N (nI n) (nI ed)) s.heap.size = A at hD ⊢
  have hA : ∀ q : Nat, s.heap.size ≤ q → A q := fun q h => by rw [← hAe]; exact Or.inr h
  have hS : va_S A s.heap s.heap [] := va_S.rf
  have hl := lv_entry ([.ref (h 1), .int (nI fr), .int (nI to), .int (nI ct)]) (n := 4) (Nat.le_of_ble_eq_true rfl)
  rw [lg_entry_eq]
  generalize (lg_sl ([.ref (h 1), .int (nI fr), .int (nI to), .int (nI ct)]) ++ List.replicate (4 - (lg_sl ([.ref (h 1), .int (nI fr), .int (nI to), .int (nI ct)])).length) Slot.unset).toArray = ls at hl ⊢
  have hl : lv_has ls 4 [(0, .ref (h 1)), (1, .int (nI fr)), (2, .int (nI to)), (3, .int (nI ct))] := hl
  have hP : va_P (dC, dI) classes (wLog cI cJ h B P E S L N (nI n) (nI ed)) s.heap := hP
  refine lv_aload_n hx hb dX1_move_0 rfl (lv_at hl 0 rfl) ?_
  refine va_get (D := (dC, dI)) (ci := 1) (v := .ref (h 2)) (C := RX1) (T := TX1) (N := 8) hx hb hts (fun w9 h9 => mm (inX1 w9 h9)) hown hK hP 0 rfl rfl 0 (by decide) (hts (.fieldLink RX1 9 "ProducerBook$Log" "base" "[I") (mm aw_26)) (fun _ h9 => h9) rfl dX1_move_1 ?_
  refine lv_iload_n hx hb dX1_move_4 rfl (lv_at hl 1 rfl) ?_
  refine lv_aload_n hx hb dX1_move_5 rfl (lv_at hl 0 rfl) ?_
  refine va_get (D := (dC, dI)) (ci := 1) (v := .ref (h 2)) (C := RX1) (T := TX1) (N := 8) hx hb hts (fun w9 h9 => mm (inX1 w9 h9)) hown hK hP 0 rfl rfl 0 (by decide) (hts (.fieldLink RX1 9 "ProducerBook$Log" "base" "[I") (mm aw_26)) (fun _ h9 => h9) rfl dX1_move_6 ?_
  refine lv_iload_n hx hb dX1_move_9 rfl (lv_at hl 2 rfl) ?_
  refine lv_iload_n hx hb dX1_move_10 rfl (lv_at hl 3 rfl) ?_
  refine xh_copyi hx hb (hml.trans hl.1.symm) hown (hts (.methodLink RX1 76 arraycopyName) (mm aw_99)) (hts (.native arraycopyName) (mm aw_101)) (hts (.static arraycopyName) (mm aw_100)) (hts (.initialized "java/lang/System") (mm aw_11)) hK hP hD hS 1 0 rfl rfl (fr := fr) (to := to) (ct := ct) h1 h2 (by decide) (Nat.le_of_ble_eq_true rfl) (by decide +kernel) dX1_move_11 (fun H locs hP hD hS => ?_)
  have hP : va_P (dC, dI) classes (wLog cI cJ h (va_cpy B B fr to ct) P E S L N (nI n) (nI ed)) H := hP
  have hD : va_D A (wLog cI cJ h (va_cpy B B fr to ct) P E S L N (nI n) (nI ed)) := hD
  refine lv_aload_n hx hb dX1_move_14 rfl (lv_at hl 0 rfl) ?_
  refine va_get (D := (dC, dI)) (ci := 1) (v := .ref (h 3)) (C := RX1) (T := TX1) (N := 8) hx hb hts (fun w9 h9 => mm (inX1 w9 h9)) hown hK hP 0 rfl rfl 1 (by decide) (hts (.fieldLink RX1 15 "ProducerBook$Log" "producer" "[J") (mm aw_28)) (fun _ h9 => h9) rfl dX1_move_15 ?_
  refine lv_iload_n hx hb dX1_move_18 rfl (lv_at hl 1 rfl) ?_
  refine lv_aload_n hx hb dX1_move_19 rfl (lv_at hl 0 rfl) ?_
  refine va_get (D := (dC, dI)) (ci := 1) (v := .ref (h 3)) (C := RX1) (T := TX1) (N := 8) hx hb hts (fun w9 h9 => mm (inX1 w9 h9)) hown hK hP 0 rfl rfl 1 (by decide) (hts (.fieldLink RX1 15 "ProducerBook$Log" "producer" "[J") (mm aw_28)) (fun _ h9 => h9) rfl dX1_move_20 ?_
  refine lv_iload_n hx hb dX1_move_23 rfl (lv_at hl 2 rfl) ?_
  refine lv_iload_n hx hb dX1_move_24 rfl (lv_at hl 3 rfl) ?_
  refine xh_copyl hx hb (hml.trans hl.1.symm) hown (hts (.methodLink RX1 76 arraycopyName) (mm aw_99)) (hts (.native arraycopyName) (mm aw_101)) (hts (.static arraycopyName) (mm aw_100)) (hts (.initialized "java/lang/System") (mm aw_11)) hK hP hD hS 2 1 rfl rfl (fr := fr) (to := to) (ct := ct) h1 h2 (by decide) (Nat.le_of_ble_eq_true rfl) (by decide +kernel) dX1_move_25 (fun H locs hP hD hS => ?_)
  have hP : va_P (dC, dI) classes (wLog cI cJ h (va_cpy B B fr to ct) (va_cpy P P fr to ct) E S L N (nI n) (nI ed)) H := hP
  have hD : va_D A (wLog cI cJ h (va_cpy B B fr to ct) (va_cpy P P fr to ct) E S L N (nI n) (nI ed)) := hD
  refine lv_aload_n hx hb dX1_move_28 rfl (lv_at hl 0 rfl) ?_
  refine va_get (D := (dC, dI)) (ci := 1) (v := .ref (h 4)) (C := RX1) (T := TX1) (N := 8) hx hb hts (fun w9 h9 => mm (inX1 w9 h9)) hown hK hP 0 rfl rfl 2 (by decide) (hts (.fieldLink RX1 19 "ProducerBook$Log" "epoch" "[I") (mm aw_30)) (fun _ h9 => h9) rfl dX1_move_29 ?_
  refine lv_iload_n hx hb dX1_move_32 rfl (lv_at hl 1 rfl) ?_
  refine lv_aload_n hx hb dX1_move_33 rfl (lv_at hl 0 rfl) ?_
  refine va_get (D := (dC, dI)) (ci := 1) (v := .ref (h 4)) (C := RX1) (T := TX1) (N := 8) hx hb hts (fun w9 h9 => mm (inX1 w9 h9)) hown hK hP 0 rfl rfl 2 (by decide) (hts (.fieldLink RX1 19 "ProducerBook$Log" "epoch" "[I") (mm aw_30)) (fun _ h9 => h9) rfl dX1_move_34 ?_
  refine lv_iload_n hx hb dX1_move_37 rfl (lv_at hl 2 rfl) ?_
  refine lv_iload_n hx hb dX1_move_38 rfl (lv_at hl 3 rfl) ?_
  refine xh_copyi hx hb (hml.trans hl.1.symm) hown (hts (.methodLink RX1 76 arraycopyName) (mm aw_99)) (hts (.native arraycopyName) (mm aw_101)) (hts (.static arraycopyName) (mm aw_100)) (hts (.initialized "java/lang/System") (mm aw_11)) hK hP hD hS 3 0 rfl rfl (fr := fr) (to := to) (ct := ct) h1 h2 (by decide) (Nat.le_of_ble_eq_true rfl) (by decide +kernel) dX1_move_39 (fun H locs hP hD hS => ?_)
  have hP : va_P (dC, dI) classes (wLog cI cJ h (va_cpy B B fr to ct) (va_cpy P P fr to ct) (va_cpy E E fr to ct) S L N (nI n) (nI ed)) H := hP
  have hD : va_D A (wLog cI cJ h (va_cpy B B fr to ct) (va_cpy P P fr to ct) (va_cpy E E fr to ct) S L N (nI n) (nI ed)) := hD
  refine lv_aload_n hx hb dX1_move_42 rfl (lv_at hl 0 rfl) ?_
  refine va_get (D := (dC, dI)) (ci := 1) (v := .ref (h 5)) (C := RX1) (T := TX1) (N := 8) hx hb hts (fun w9 h9 => mm (inX1 w9 h9)) hown hK hP 0 rfl rfl 3 (by decide) (hts (.fieldLink RX1 22 "ProducerBook$Log" "sequence" "[I") (mm aw_32)) (fun _ h9 => h9) rfl dX1_move_43 ?_
  refine lv_iload_n hx hb dX1_move_46 rfl (lv_at hl 1 rfl) ?_
  refine lv_aload_n hx hb dX1_move_47 rfl (lv_at hl 0 rfl) ?_
  refine va_get (D := (dC, dI)) (ci := 1) (v := .ref (h 5)) (C := RX1) (T := TX1) (N := 8) hx hb hts (fun w9 h9 => mm (inX1 w9 h9)) hown hK hP 0 rfl rfl 3 (by decide) (hts (.fieldLink RX1 22 "ProducerBook$Log" "sequence" "[I") (mm aw_32)) (fun _ h9 => h9) rfl dX1_move_48 ?_
  refine lv_iload_n hx hb dX1_move_51 rfl (lv_at hl 2 rfl) ?_
  refine lv_iload_n hx hb dX1_move_52 rfl (lv_at hl 3 rfl) ?_
  refine xh_copyi hx hb (hml.trans hl.1.symm) hown (hts (.methodLink RX1 76 arraycopyName) (mm aw_99)) (hts (.native arraycopyName) (mm aw_101)) (hts (.static arraycopyName) (mm aw_100)) (hts (.initialized "java/lang/System") (mm aw_11)) hK hP hD hS 4 0 rfl rfl (fr := fr) (to := to) (ct := ct) h1 h2 (by decide) (Nat.le_of_ble_eq_true rfl) (by decide +kernel) dX1_move_53 (fun H locs hP hD hS => ?_)
  have hP : va_P (dC, dI) classes (wLog cI cJ h (va_cpy B B fr to ct) (va_cpy P P fr to ct) (va_cpy E E fr to ct) (va_cpy S S fr to ct) L N (nI n) (nI ed)) H := hP
  have hD : va_D A (wLog cI cJ h (va_cpy B B fr to ct) (va_cpy P P fr to ct) (va_cpy E E fr to ct) (va_cpy S S fr to ct) L N (nI n) (nI ed)) := hD
  refine lv_aload_n hx hb dX1_move_56 rfl (lv_at hl 0 rfl) ?_
  refine va_get (D := (dC, dI)) (ci := 1) (v := .ref (h 6)) (C := RX1) (T := TX1) (N := 8) hx hb hts (fun w9 h9 => mm (inX1 w9 h9)) hown hK hP 0 rfl rfl 4 (by decide) (hts (.fieldLink RX1 25 "ProducerBook$Log" "last" "[I") (mm aw_34)) (fun _ h9 => h9) rfl dX1_move_57 ?_
  refine lv_iload_n hx hb dX1_move_60 rfl (lv_at hl 1 rfl) ?_
  refine lv_aload_n hx hb dX1_move_61 rfl (lv_at hl 0 rfl) ?_
  refine va_get (D := (dC, dI)) (ci := 1) (v := .ref (h 6)) (C := RX1) (T := TX1) (N := 8) hx hb hts (fun w9 h9 => mm (inX1 w9 h9)) hown hK hP 0 rfl rfl 4 (by decide) (hts (.fieldLink RX1 25 "ProducerBook$Log" "last" "[I") (mm aw_34)) (fun _ h9 => h9) rfl dX1_move_62 ?_
  refine lv_iload_n hx hb dX1_move_65 rfl (lv_at hl 2 rfl) ?_
  refine lv_iload_n hx hb dX1_move_66 rfl (lv_at hl 3 rfl) ?_
  refine xh_copyi hx hb (hml.trans hl.1.symm) hown (hts (.methodLink RX1 76 arraycopyName) (mm aw_99)) (hts (.native arraycopyName) (mm aw_101)) (hts (.static arraycopyName) (mm aw_100)) (hts (.initialized "java/lang/System") (mm aw_11)) hK hP hD hS 5 0 rfl rfl (fr := fr) (to := to) (ct := ct) h1 h2 (by decide) (Nat.le_of_ble_eq_true rfl) (by decide +kernel) dX1_move_67 (fun H locs hP hD hS => ?_)
  have hP : va_P (dC, dI) classes (wLog cI cJ h (va_cpy B B fr to ct) (va_cpy P P fr to ct) (va_cpy E E fr to ct) (va_cpy S S fr to ct) (va_cpy L L fr to ct) N (nI n) (nI ed)) H := hP
  have hD : va_D A (wLog cI cJ h (va_cpy B B fr to ct) (va_cpy P P fr to ct) (va_cpy E E fr to ct) (va_cpy S S fr to ct) (va_cpy L L fr to ct) N (nI n) (nI ed)) := hD
  refine lv_aload_n hx hb dX1_move_70 rfl (lv_at hl 0 rfl) ?_
  refine va_get (D := (dC, dI)) (ci := 1) (v := .ref (h 7)) (C := RX1) (T := TX1) (N := 8) hx hb hts (fun w9 h9 => mm (inX1 w9 h9)) hown hK hP 0 rfl rfl 5 (by decide) (hts (.fieldLink RX1 28 "ProducerBook$Log" "newer" "[I") (mm aw_36)) (fun _ h9 => h9) rfl dX1_move_71 ?_
  refine lv_iload_n hx hb dX1_move_74 rfl (lv_at hl 1 rfl) ?_
  refine lv_aload_n hx hb dX1_move_75 rfl (lv_at hl 0 rfl) ?_
  refine va_get (D := (dC, dI)) (ci := 1) (v := .ref (h 7)) (C := RX1) (T := TX1) (N := 8) hx hb hts (fun w9 h9 => mm (inX1 w9 h9)) hown hK hP 0 rfl rfl 5 (by decide) (hts (.fieldLink RX1 28 "ProducerBook$Log" "newer" "[I") (mm aw_36)) (fun _ h9 => h9) rfl dX1_move_76 ?_
  refine lv_iload_n hx hb dX1_move_79 rfl (lv_at hl 2 rfl) ?_
  refine lv_iload_n hx hb dX1_move_80 rfl (lv_at hl 3 rfl) ?_
  refine xh_copyi hx hb (hml.trans hl.1.symm) hown (hts (.methodLink RX1 76 arraycopyName) (mm aw_99)) (hts (.native arraycopyName) (mm aw_101)) (hts (.static arraycopyName) (mm aw_100)) (hts (.initialized "java/lang/System") (mm aw_11)) hK hP hD hS 6 0 rfl rfl (fr := fr) (to := to) (ct := ct) h1 h2 (by decide) (Nat.le_of_ble_eq_true rfl) (by decide +kernel) dX1_move_81 (fun H locs hP hD hS => ?_)
  have hP : va_P (dC, dI) classes (wLog cI cJ h (va_cpy B B fr to ct) (va_cpy P P fr to ct) (va_cpy E E fr to ct) (va_cpy S S fr to ct) (va_cpy L L fr to ct) (va_cpy N N fr to ct) (nI n) (nI ed)) H := hP
  have hD : va_D A (wLog cI cJ h (va_cpy B B fr to ct) (va_cpy P P fr to ct) (va_cpy E E fr to ct) (va_cpy S S fr to ct) (va_cpy L L fr to ct) (va_cpy N N fr to ct) (nI n) (nI ed)) := hD
  exact xh_vret hx hb hr (()) (trivial) hP hK hD hS dX1_move_84 hlocks
