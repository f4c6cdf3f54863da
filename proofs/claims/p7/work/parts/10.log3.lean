set_option maxHeartbeats 4000000 in
set_option maxRecDepth 100000 in
/-- removeFirst(g): the first go, the others move down -/
theorem c_Log_removeFirst (l : Launch) (dC : Nat → ClassId) (dI : Nat → Nat → Nat) (cI cJ : ClassId) (h : Nat → Nat) (sz : Nat) (B : Nat → Int32) (P : Nat → Int64) (E S L N : Nat → Int32) (n ed : Nat) (g : Nat) (hn : n ≤ 2000) (hg : g ≤ 2000) : Met l yX1_removeFirst wsX1_removeFirst ({ frames := 2, cells := 0, slots := 0, locals := 90 } : Room) (va_Pc [.ref (h 1), .int (nI g)] (xP (dC, dI) classes [(cI, FieldType.int), (cJ, FieldType.long)] (wLog cI cJ h B P E S L N (nI n) (nI ed)) sz)) (va_Qi (fun (r : Int32) (_ : Unit) => r = nI (min g n)) (fun u => xB (dC, dI) classes [(cI, FieldType.int), (cJ, FieldType.long)] (va_A (wLog cI cJ h B P E S L N (nI n) (nI ed)) sz) ((fun (_ : Unit) => wLog cI cJ h (va_cpy B B (min g n) 0 (n - min g n)) (va_cpy P P (min g n) 0 (n - min g n)) (va_cpy E E (min g n) 0 (n - min g n)) (va_cpy S S (min g n) 0 (n - min g n)) (va_cpy L L (min g n) 0 (n - min g n)) (va_cpy N N (min g n) 0 (n - min g n)) (nI (n - min g n)) (nI ed)) u)) (va_A (wLog cI cJ h B P E S L N (nI n) (nI ed)) sz)) 0 0 (va_A (wLog cI cJ h B P E S L N (nI n) (nI ed)) sz) := by
  refine Met.ofW (cc := cX1_removeFirst) (maxL := 3) (ret := (some .int)) (by decide) rfl ?_
  intro p e s m args below meth c s₁ BB hml hv
  obtain ⟨rfl, hsz, hP, hK, hD0⟩ := hv
  have hx := BB.exec
  have hb := BB.bytes
  have hr := BB.returns
  have hts := atoms_spec (ws := wsX1_removeFirst) BB.pre
  have hown : s.vm.findClass RX1 = some m.cls := findClass_of_methodNamed BB.named
  have hlocks := BB.notSynchronized
  subst hsz
  have hD := hD0.self (sz := s.heap.size)
  generalize hAe : va_A (wLog cI cJ h B P E S L N (nI n) (nI ed)) s.heap.size = A at hD ⊢
  have hA : ∀ q : Nat, s.heap.size ≤ q → A q := fun q h => by rw [← hAe]; exact Or.inr h
  have hS : va_S A s.heap s.heap [] := va_S.rf
  have hl := lv_entry ([.ref (h 1), .int (nI g)]) (n := 3) (Nat.le_of_ble_eq_true rfl)
  rw [lg_entry_eq]
  generalize (lg_sl ([.ref (h 1), .int (nI g)]) ++ List.replicate (3 - (lg_sl ([.ref (h 1), .int (nI g)])).length) Slot.unset).toArray = ls at hl ⊢
  have hl : lv_has ls 3 [(0, .ref (h 1)), (1, .int (nI g))] := hl
  have hP : va_P (dC, dI) classes (wLog cI cJ h B P E S L N (nI n) (nI ed)) s.heap := hP
  refine lv_iload_n hx hb dX1_removeFirst_0 rfl (lv_at hl 1 rfl) ?_
  refine lv_aload_n hx hb dX1_removeFirst_1 rfl (lv_at hl 0 rfl) ?_
  refine va_get (D := (dC, dI)) (ci := 1) (v := .int (nI n)) (C := RX1) (T := TX1) (N := 8) hx hb hts (fun w9 h9 => mm (inX1 w9 h9)) hown hK hP 0 rfl rfl 6 (by decide) (hts (.fieldLink RX1 31 "ProducerBook$Log" "size" "I") (mm aw_37)) (fun _ h9 => h9) rfl dX1_removeFirst_2 ?_
  refine va_mmin hx hb (hml.trans hl.1.symm) hown (hts (.methodLink RX1 66 Lib.Math.min.name) (mm aw_266)) (hts (.static Lib.Math.min.name) (mm aw_267)) (hts (.initialized "java/lang/Math") (mm aw_10)) (hts (.code Lib.Math.min.name Lib.Math.min.code 2 (some .int)) (mm aw_268)) (Nat.le_of_ble_eq_true rfl) (by decide +kernel) (Nat.le_of_ble_eq_true rfl) (Nat.le_of_ble_eq_true rfl) dX1_removeFirst_5 ?_
  refine xh_topi (z := nI (min g n)) (pb_min (by omega) (by omega)) ?_
  refine lv_istore_n (lv' := [(2, .int (nI (min g n))), (0, .ref (h 1)), (1, .int (nI g))]) hx hb dX1_removeFirst_8 rfl hl (by decide) rfl (fun ls hl => ?_)
  refine lv_iload_n hx hb dX1_removeFirst_9 rfl (lv_at hl 0 rfl) ?_
  refine lv_if_le (tgt := 35) hx hb dX1_removeFirst_10 (by decide) (fun c_10 => ?_) (fun c_10 => ?_)
  · have c1 : min g n = 0 := Nat.eq_zero_of_not_pos fun g9 => nI_nle g9 (by omega) c_10
    have eB : B = va_cpy B B (min g n) 0 (n - min g n) := by rw [c1]; exact pb_cpy0 B n
    have eP : P = va_cpy P P (min g n) 0 (n - min g n) := by rw [c1]; exact pb_cpy0 P n
    have eE : E = va_cpy E E (min g n) 0 (n - min g n) := by rw [c1]; exact pb_cpy0 E n
    have eS : S = va_cpy S S (min g n) 0 (n - min g n) := by rw [c1]; exact pb_cpy0 S n
    have eL : L = va_cpy L L (min g n) 0 (n - min g n) := by rw [c1]; exact pb_cpy0 L n
    have eN : N = va_cpy N N (min g n) 0 (n - min g n) := by rw [c1]; exact pb_cpy0 N n
    have ez : nI n = nI (n - min g n) := by rw [c1]; rfl
    rw [ez] at hP hD
    have hP : va_P (dC, dI) classes (wLog cI cJ h (va_cpy B B (min g n) 0 (n - min g n)) (va_cpy P P (min g n) 0 (n - min g n)) (va_cpy E E (min g n) 0 (n - min g n)) (va_cpy S S (min g n) 0 (n - min g n)) (va_cpy L L (min g n) 0 (n - min g n)) (va_cpy N N (min g n) 0 (n - min g n)) (nI (n - min g n)) (nI ed)) s.heap := by rw [← eB, ← eP, ← eE, ← eS, ← eL, ← eN]; exact hP
    have hD : va_D A (wLog cI cJ h (va_cpy B B (min g n) 0 (n - min g n)) (va_cpy P P (min g n) 0 (n - min g n)) (va_cpy E E (min g n) 0 (n - min g n)) (va_cpy S S (min g n) 0 (n - min g n)) (va_cpy L L (min g n) 0 (n - min g n)) (va_cpy N N (min g n) 0 (n - min g n)) (nI (n - min g n)) (nI ed)) := by rw [← eB, ← eP, ← eE, ← eS, ← eL, ← eN]; exact hD
    refine lv_iload_n hx hb dX1_removeFirst_35 rfl (lv_at hl 0 rfl) ?_
    exact xh_iret hx hb hr (()) (rfl) hP hK hD hS dX1_removeFirst_36 hlocks
  · refine lv_aload_n hx hb dX1_removeFirst_13 rfl (lv_at hl 1 rfl) ?_
    refine lv_iload_n hx hb dX1_removeFirst_14 rfl (lv_at hl 0 rfl) ?_
    refine lv_iconst (v := nI 0) hx hb dX1_removeFirst_15 (by decide +kernel) ?_
    refine lv_aload_n hx hb dX1_removeFirst_16 rfl (lv_at hl 1 rfl) ?_
    refine va_get (D := (dC, dI)) (ci := 1) (v := .int (nI n)) (C := RX1) (T := TX1) (N := 8) hx hb hts (fun w9 h9 => mm (inX1 w9 h9)) hown hK hP 0 rfl rfl 6 (by decide) (hts (.fieldLink RX1 31 "ProducerBook$Log" "size" "I") (mm aw_37)) (fun _ h9 => h9) rfl dX1_removeFirst_17 ?_
    refine lv_iload_n hx hb dX1_removeFirst_20 rfl (lv_at hl 0 rfl) ?_
    refine lv_isub hx hb dX1_removeFirst_21 ?_
    refine xh_topi (z := nI (n - min g n)) (pk_sub (by omega)) ?_
    refine xh_callv (wc := wLog cI cJ h B P E S L N (nI n) (nI ed)) (wr := []) (w1 := fun (u : Unit) => wLog cI cJ h (va_cpy B B (min g n) 0 (n - min g n)) (va_cpy P P (min g n) 0 (n - min g n)) (va_cpy E E (min g n) 0 (n - min g n)) (va_cpy S S (min g n) 0 (n - min g n)) (va_cpy L L (min g n) 0 (n - min g n)) (va_cpy N N (min g n) 0 (n - min g n)) (nI n) (nI ed)) hP hD hS hA [0, 1, 2, 3, 4, 5, 6] [] rfl rfl (by decide) (by decide) (va_runV (As := [.int (nI (min g n)), .int (nI 0), .int (nI (n - min g n))]) (rest := []) ⟨hx, hb, hml, hown, hts⟩ (c_Log_move l dC dI cI cJ h s.heap.size B P E S L N n ed (min g n) 0 (n - min g n) (by omega) (by omega)) (cwV 3 hts (aw_V aw_95 aw_97 aw_s0 aw_2 aw_98) rfl rfl rfl (by decide +kernel) ⟨Nat.le_of_ble_eq_true rfl, Nat.le_of_ble_eq_true rfl⟩) (xh_preV (r0 := 0) hK (hP.sub (ws' := wLog cI cJ h B P E S L N (nI n) (nI ed)) [0, 1, 2, 3, 4, 5, 6] rfl) (hD.sub (ws' := wLog cI cJ h B P E S L N (nI n) (nI ed)) [0, 1, 2, 3, 4, 5, 6] (by decide) rfl) rfl rfl rfl) rfl rfl hl.1 rfl (lv_room (Nat.le_of_ble_eq_true rfl)) dX1_removeFirst_22 ⟨Nat.le_of_ble_eq_true rfl, Nat.le_of_ble_eq_true rfl⟩) (fun  u H locs hw hP hD hS => ?_)
    have hP : va_P (dC, dI) classes (wLog cI cJ h (va_cpy B B (min g n) 0 (n - min g n)) (va_cpy P P (min g n) 0 (n - min g n)) (va_cpy E E (min g n) 0 (n - min g n)) (va_cpy S S (min g n) 0 (n - min g n)) (va_cpy L L (min g n) 0 (n - min g n)) (va_cpy N N (min g n) 0 (n - min g n)) (nI n) (nI ed)) H := hP
    have hD : va_D A (wLog cI cJ h (va_cpy B B (min g n) 0 (n - min g n)) (va_cpy P P (min g n) 0 (n - min g n)) (va_cpy E E (min g n) 0 (n - min g n)) (va_cpy S S (min g n) 0 (n - min g n)) (va_cpy L L (min g n) 0 (n - min g n)) (va_cpy N N (min g n) 0 (n - min g n)) (nI n) (nI ed)) := hD
    refine lv_aload_n hx hb dX1_removeFirst_25 rfl (lv_at hl 1 rfl) ?_
    refine lv_dup hx hb dX1_removeFirst_26 rfl ?_
    refine va_get (D := (dC, dI)) (ci := 1) (v := .int (nI n)) (C := RX1) (T := TX1) (N := 8) hx hb hts (fun w9 h9 => mm (inX1 w9 h9)) hown hK hP 0 rfl rfl 6 (by decide) (hts (.fieldLink RX1 31 "ProducerBook$Log" "size" "I") (mm aw_37)) (fun _ h9 => h9) rfl dX1_removeFirst_27 ?_
    refine lv_iload_n hx hb dX1_removeFirst_30 rfl (lv_at hl 0 rfl) ?_
    refine lv_isub hx hb dX1_removeFirst_31 ?_
    refine xh_topi (z := nI (n - min g n)) (pk_sub (by omega)) ?_
    refine va_put (D := (dC, dI)) (ci := 1) (v := .int (nI (n - min g n))) (ty := .int) (C := RX1) (T := TX1) (N := 8) hx hb hts (fun w9 h9 => mm (inX1 w9 h9)) tyX1 tyX1_ok nX1 hown hK hP hD hS 0 rfl rfl 6 (by decide) (hts (.fieldLink RX1 31 "ProducerBook$Log" "size" "I") (mm aw_37)) (fun _ h9 => h9) rfl (by decide +kernel) rfl rfl (Nat.le_of_ble_eq_true rfl) dX1_removeFirst_32 (fun H locs hP hD hS => ?_)
    have hP : va_P (dC, dI) classes (wLog cI cJ h (va_cpy B B (min g n) 0 (n - min g n)) (va_cpy P P (min g n) 0 (n - min g n)) (va_cpy E E (min g n) 0 (n - min g n)) (va_cpy S S (min g n) 0 (n - min g n)) (va_cpy L L (min g n) 0 (n - min g n)) (va_cpy N N (min g n) 0 (n - min g n)) (nI (n - min g n)) (nI ed)) H := hP
    have hD : va_D A (wLog cI cJ h (va_cpy B B (min g n) 0 (n - min g n)) (va_cpy P P (min g n) 0 (n - min g n)) (va_cpy E E (min g n) 0 (n - min g n)) (va_cpy S S (min g n) 0 (n - min g n)) (va_cpy L L (min g n) 0 (n - min g n)) (va_cpy N N (min g n) 0 (n - min g n)) (nI (n - min g n)) (nI ed)) := hD
    refine lv_iload_n hx hb dX1_removeFirst_35 rfl (lv_at hl 0 rfl) ?_
    exact xh_iret hx hb hr (()) (rfl) hP hK hD hS dX1_removeFirst_36 hlocks

set_option maxHeartbeats 4000000 in
set_option maxRecDepth 100000 in
/-- becomeLatest(known, k): the known ones have one more behind them, k has none -/
theorem c_Log_becomeLatest (l : Launch) (dC : Nat → ClassId) (dI : Nat → Nat → Nat) (cI cJ : ClassId) (h : Nat → Nat) (sz : Nat) (B : Nat → Int32) (P : Nat → Int64) (E S L N : Nat → Int32) (n ed : Nat) (q : Nat) (F : Nat → Int32) (ks : Nat → Nat) (k : Nat) (hq : q ≤ 5) (hF : ∀ j, j < q → F j = nI (ks j) ∧ ks j < 2000) (hk : k < 2000) : Met l yX1_becomeLatest wsX1_becomeLatest ({ frames := 1, cells := 0, slots := 0, locals := 60 } : Room) (va_Pc [.ref (h 1), .ref (h 8), .int (nI k)] (xP (dC, dI) classes [(cI, FieldType.int), (cJ, FieldType.long)] (wLog cI cJ h B P E S L N (nI n) (nI ed) ++ wKn cI h (nI q) F) sz)) (va_Qv (fun (G : Nat → Int32) => G 0 = nI k ∧ ∀ j, 0 < j → j < min 5 (q + 1) → G j = F (j - 1)) (fun u => xB (dC, dI) classes [(cI, FieldType.int), (cJ, FieldType.long)] (va_A (wLog cI cJ h B P E S L N (nI n) (nI ed) ++ wKn cI h (nI q) F) sz) ((fun (G : Nat → Int32) => wLog cI cJ h B P E S L (upd (pb_inc N ks q) k (nI 0)) (nI n) (nI ed) ++ wKn cI h (nI (min 5 (q + 1))) G) u)) (va_A (wLog cI cJ h B P E S L N (nI n) (nI ed) ++ wKn cI h (nI q) F) sz)) 0 0 (va_A (wLog cI cJ h B P E S L N (nI n) (nI ed) ++ wKn cI h (nI q) F) sz) := by
  refine Met.ofW (cc := cX1_becomeLatest) (maxL := 4) (ret := none) (by decide) rfl ?_
  intro p e s m args below meth c s₁ BB hml hv
  obtain ⟨rfl, hsz, hP, hK, hD0⟩ := hv
  have hx := BB.exec
  have hb := BB.bytes
  have hr := BB.returns
  have hts := atoms_spec (ws := wsX1_becomeLatest) BB.pre
  have hown : s.vm.findClass RX1 = some m.cls := findClass_of_methodNamed BB.named
  have hlocks := BB.notSynchronized
  subst hsz
  have hD := hD0.self (sz := s.heap.size)
  generalize hAe : va_A (wLog cI cJ h B P E S L N (nI n) (nI ed) ++ wKn cI h (nI q) F) s.heap.size = A at hD ⊢
  have hA : ∀ q : Nat, s.heap.size ≤ q → A q := fun q h => by rw [← hAe]; exact Or.inr h
  have hS : va_S A s.heap s.heap [] := va_S.rf
  have hl := lv_entry ([.ref (h 1), .ref (h 8), .int (nI k)]) (n := 4) (Nat.le_of_ble_eq_true rfl)
  rw [lg_entry_eq]
  generalize (lg_sl ([.ref (h 1), .ref (h 8), .int (nI k)]) ++ List.replicate (4 - (lg_sl ([.ref (h 1), .ref (h 8), .int (nI k)])).length) Slot.unset).toArray = ls at hl ⊢
  have hl : lv_has ls 4 [(0, .ref (h 1)), (1, .ref (h 8)), (2, .int (nI k))] := hl
  have hP : va_P (dC, dI) classes (wLog cI cJ h B P E S L N (nI n) (nI ed) ++ wKn cI h (nI q) F) s.heap := hP
  have lp2 : ∀ (fuel : Nat) (i : Nat) (H : Heap) (locs : List Loc) (ls : Array Slot), (i ≤ q) → q - i < fuel → va_P (dC, dI) classes (wLog cI cJ h B P E S L (pb_inc N ks i) (nI n) (nI ed) ++ wKn cI h (nI q) F) H → va_D A (wLog cI cJ h B P E S L (pb_inc N ks i) (nI n) (nI ed) ++ wKn cI h (nI q) F) → va_S A s.heap H locs → lv_has ls 4 [(0, .ref (h 1)), (1, .ref (h 8)), (2, .int (nI k)), (3, .int (nI i))] → W p l e ({ frames := 1, cells := 0, slots := 0, locals := 60 } : Room) s m ([.ref (h 1), .ref (h 8), .int (nI k)] : List Value).toArray below meth c H locs 0 0 (MQ below (va_Qv (fun (G : Nat → Int32) => G 0 = nI k ∧ ∀ j, 0 < j → j < min 5 (q + 1) → G j = F (j - 1)) (fun u => xB (dC, dI) classes [(cI, FieldType.int), (cJ, FieldType.long)] A ((fun (G : Nat → Int32) => wLog cI cJ h B P E S L (upd (pb_inc N ks q) k (nI 0)) (nI n) (nI ed) ++ wKn cI h (nI (min 5 (q + 1))) G) u)) A) ([.ref (h 1), .ref (h 8), .int (nI k)] : List Value).toArray s 0 0 A) (F0 m 2 ls []) := by
    intro fuel
    induction fuel with
    | zero => intro i H locs ls hi hfuel; exact absurd hfuel (Nat.not_lt_zero _)
    | succ fuel ih =>
      intro i H locs ls hi hfuel hP hD hS hl
      refine lv_iload_n hx hb dX1_becomeLatest_2 rfl (lv_at hl 3 rfl) ?_
      refine lv_aload_n hx hb dX1_becomeLatest_3 rfl (lv_at hl 1 rfl) ?_
      refine va_get (D := (dC, dI)) (ci := 0) (v := .int (nI q)) (C := RX0) (T := TX0) (N := 2) hx hb hts (fun w9 h9 => mm (inX0 w9 h9)) hown hK hP 7 rfl rfl 1 (by decide) (hts (.fieldLink RX1 39 "ProducerBook$Known" "size" "I") (mm aw_69)) (fun _ h9 => h9) rfl dX1_becomeLatest_4 ?_
      refine lv_icmp_ge (tgt := 31) hx hb dX1_becomeLatest_7 (by decide) (fun c_7 => ?_) (fun c_7 => ?_)
      · have c1 := (nI_leI (by omega) (by omega)).mp c_7
        have ei : i = q := by omega
        rw [ei] at hP hD
        refine lv_aload_n hx hb dX1_becomeLatest_31 rfl (lv_at hl 0 rfl) ?_
        refine va_get (D := (dC, dI)) (ci := 1) (v := .ref (h 7)) (C := RX1) (T := TX1) (N := 8) hx hb hts (fun w9 h9 => mm (inX1 w9 h9)) hown hK hP 0 rfl rfl 5 (by decide) (hts (.fieldLink RX1 28 "ProducerBook$Log" "newer" "[I") (mm aw_36)) (fun _ h9 => h9) rfl dX1_becomeLatest_32 ?_
        refine lv_iload_n hx hb dX1_becomeLatest_35 rfl (lv_at hl 2 rfl) ?_
        refine lv_iconst (v := nI 0) hx hb dX1_becomeLatest_36 (by decide +kernel) ?_
        refine xh_iast hx hb hK hP hD hS 6 0 rfl rfl (k := k) (hk) (by decide) dX1_becomeLatest_37 (fun H locs hP hD hS => ?_)
        have hP : va_P (dC, dI) classes (wLog cI cJ h B P E S L (upd (pb_inc N ks q) k (nI 0)) (nI n) (nI ed) ++ wKn cI h (nI q) F) H := hP
        have hD : va_D A (wLog cI cJ h B P E S L (upd (pb_inc N ks q) k (nI 0)) (nI n) (nI ed) ++ wKn cI h (nI q) F) := hD
        refine lv_aload_n hx hb dX1_becomeLatest_38 rfl (lv_at hl 1 rfl) ?_
        refine lv_iload_n hx hb dX1_becomeLatest_39 rfl (lv_at hl 2 rfl) ?_
        refine xh_callv (wc := wKn cI h (nI q) F) (wr := wLog cI cJ h B P E S L (upd (pb_inc N ks q) k (nI 0)) (nI n) (nI ed)) (w1 := fun (u : Nat → Int32) => wKn cI h (nI (min 5 (q + 1))) u) hP hD hS hA [7, 8] [0, 1, 2, 3, 4, 5, 6] rfl rfl (by decide) (by decide) (va_runV (As := [.int (nI k)]) (rest := []) ⟨hx, hb, hml, hown, hts⟩ (c_Kn_addLatest l dC dI cI cJ h H.size q F (nI k) hq) (cwV 1 hts (aw_V aw_224 aw_225 aw_226 aw_3 aw_227) rfl rfl rfl (by decide +kernel) ⟨Nat.le_of_ble_eq_true rfl, Nat.le_of_ble_eq_true rfl⟩) (xh_preV (r0 := 0) hK (hP.sub (ws' := wKn cI h (nI q) F) [7, 8] rfl) (hD.sub (ws' := wKn cI h (nI q) F) [7, 8] (by decide) rfl) rfl rfl rfl) rfl rfl hl.1 rfl (lv_room (Nat.le_of_ble_eq_true rfl)) dX1_becomeLatest_40 ⟨Nat.le_of_ble_eq_true rfl, Nat.le_of_ble_eq_true rfl⟩) (fun  u H locs hw hP hD hS => ?_)
        have hP : va_P (dC, dI) classes (wLog cI cJ h B P E S L (upd (pb_inc N ks q) k (nI 0)) (nI n) (nI ed) ++ wKn cI h (nI (min 5 (q + 1))) u) H := hP
        have hD : va_D A (wLog cI cJ h B P E S L (upd (pb_inc N ks q) k (nI 0)) (nI n) (nI ed) ++ wKn cI h (nI (min 5 (q + 1))) u) := hD
        exact xh_vret hx hb hr (u) (hw) hP hK hD hS dX1_becomeLatest_43 hlocks
      · have c1 : i < q := Nat.lt_of_not_le fun g => c_7 ((nI_leI (by omega) (by omega)).mpr g)
        obtain ⟨hFi, hki⟩ := hF i c1
        refine lv_aload_n hx hb dX1_becomeLatest_10 rfl (lv_at hl 0 rfl) ?_
        refine va_get (D := (dC, dI)) (ci := 1) (v := .ref (h 7)) (C := RX1) (T := TX1) (N := 8) hx hb hts (fun w9 h9 => mm (inX1 w9 h9)) hown hK hP 0 rfl rfl 5 (by decide) (hts (.fieldLink RX1 28 "ProducerBook$Log" "newer" "[I") (mm aw_36)) (fun _ h9 => h9) rfl dX1_becomeLatest_11 ?_
        refine lv_aload_n hx hb dX1_becomeLatest_14 rfl (lv_at hl 1 rfl) ?_
        refine va_get (D := (dC, dI)) (ci := 0) (v := .ref (h 9)) (C := RX0) (T := TX0) (N := 2) hx hb hts (fun w9 h9 => mm (inX0 w9 h9)) hown hK hP 7 rfl rfl 0 (by decide) (hts (.fieldLink RX1 50 "ProducerBook$Known" "places" "[I") (mm aw_67)) (fun _ h9 => h9) rfl dX1_becomeLatest_15 ?_
        refine lv_iload_n hx hb dX1_becomeLatest_18 rfl (lv_at hl 3 rfl) ?_
        refine xh_iald hx hb hK hP 8 0 rfl rfl (k := i) (by omega) (by decide) dX1_becomeLatest_19 ?_
        refine xh_topi (z := nI (ks i)) (hFi) ?_
        refine lv_dup2_11 hx hb dX1_becomeLatest_20 rfl rfl ?_
        refine xh_iald hx hb hK hP 6 0 rfl rfl (k := ks i) (hki) (by decide) dX1_becomeLatest_21 ?_
        refine lv_iconst (v := nI 1) hx hb dX1_becomeLatest_22 (by decide +kernel) ?_
        refine lv_iadd hx hb dX1_becomeLatest_23 ?_
        refine xh_iast hx hb hK hP hD hS 6 0 rfl rfl (k := ks i) (hki) (by decide) dX1_becomeLatest_24 (fun H locs hP hD hS => ?_)
        have hP : va_P (dC, dI) classes (wLog cI cJ h B P E S L (upd (pb_inc N ks i) (ks i) (((pb_inc N ks i) (ks i)) + (nI 1))) (nI n) (nI ed) ++ wKn cI h (nI q) F) H := hP
        have hD : va_D A (wLog cI cJ h B P E S L (upd (pb_inc N ks i) (ks i) (((pb_inc N ks i) (ks i)) + (nI 1))) (nI n) (nI ed) ++ wKn cI h (nI q) F) := hD
        refine lv_iinc (v := nI (i + 1)) (lv' := [(3, .int (nI (i + 1))), (0, .ref (h 1)), (1, .ref (h 8)), (2, .int (nI k))]) hx hb dX1_becomeLatest_25 hl (k := 3) rfl (by exact nI_1 i) (by decide) rfl (fun ls hl => ?_)
        refine lv_goto (tgt := 2) hx hb dX1_becomeLatest_28 (by decide) ?_
        exact ih (i + 1) _ _ _ (by omega) (by omega) hP hD hS (lv_sub hl [1, 2, 3, 0] rfl)
  refine lv_iconst (v := nI 0) hx hb dX1_becomeLatest_0 (by decide +kernel) ?_
  refine lv_istore_n (lv' := [(3, .int (nI 0)), (0, .ref (h 1)), (1, .ref (h 8)), (2, .int (nI k))]) hx hb dX1_becomeLatest_1 rfl hl (by decide) rfl (fun ls hl => ?_)
  exact lp2 (q + 1) 0 _ _ _ (Nat.zero_le q) (by omega) hP hD hS (lv_sub hl [1, 2, 3, 0] rfl)
