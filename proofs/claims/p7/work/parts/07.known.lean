def wLog (cI cJ : ClassId) (h : Nat → Nat) (B : Nat → Int32) (P : Nat → Int64) (E S L N : Nat → Int32) (z en : Int32) : va_W := [(h 1, .inr (1, [.ref (h 2), .ref (h 3), .ref (h 4), .ref (h 5), .ref (h 6), .ref (h 7), .int z, .int en])), (h 2, .inl (cI, 2000, .inl B)), (h 3, .inl (cJ, 2000, .inr (.inl P))), (h 4, .inl (cI, 2000, .inl E)), (h 5, .inl (cI, 2000, .inl S)), (h 6, .inl (cI, 2000, .inl L)), (h 7, .inl (cI, 2000, .inl N))]
def wKn (cI : ClassId) (h : Nat → Nat) (kn : Int32) (F : Nat → Int32) : va_W := [(h 8, .inr (0, [.ref (h 9), .int kn])), (h 9, .inl (cI, 5, .inl F))]
def wPB (h : Nat → Nat) : va_W := [(h 0, .inr (2, [.ref (h 1), .ref (h 8)]))]
set_option maxHeartbeats 4000000 in
set_option maxRecDepth 100000 in
/-- latest(): places[0] -/
theorem c_Kn_latest (l : Launch) (dC : Nat → ClassId) (dI : Nat → Nat → Nat) (cI cJ : ClassId) (h : Nat → Nat) (sz : Nat) (q : Nat) (F : Nat → Int32)  : Met l yX0_latest wsX0_latest ({ frames := 0, cells := 0, slots := 0, locals := 0 } : Room) (va_Pc [.ref (h 8)] (xP (dC, dI) classes [(cI, FieldType.int), (cJ, FieldType.long)] (wKn cI h (nI q) F) sz)) (va_Qi (fun (r : Int32) (_ : Unit) => r = F 0) (fun u => xB (dC, dI) classes [(cI, FieldType.int), (cJ, FieldType.long)] (va_A (wKn cI h (nI q) F) sz) ((fun (_ : Unit) => wKn cI h (nI q) F) u)) (va_A (wKn cI h (nI q) F) sz)) 0 0 (va_A (wKn cI h (nI q) F) sz) := by
  refine Met.ofW (cc := cX0_latest) (maxL := 1) (ret := (some .int)) (by decide) rfl ?_
  intro p e s m args below meth c s₁ BB hml hv
  obtain ⟨rfl, hsz, hP, hK, hD0⟩ := hv
  have hx := BB.exec
  have hb := BB.bytes
  have hr := BB.returns
  have hts := atoms_spec (ws := wsX0_latest) BB.pre
  have hown : s.vm.findClass RX0 = some m.cls := findClass_of_methodNamed BB.named
  have hlocks := BB.notSynchronized
  subst hsz
  have hD := hD0.self (sz := s.heap.size)
  generalize hAe : va_A (wKn cI h (nI q) F) s.heap.size = A at hD ⊢
  have hA : ∀ q : Nat, s.heap.size ≤ q → A q := fun q h => by rw [← hAe]; exact Or.inr h
  have hS : va_S A s.heap s.heap [] := va_S.rf
  have hl := lv_entry ([.ref (h 8)]) (n := 1) (Nat.le_of_ble_eq_true rfl)
  rw [lg_entry_eq]
  generalize (lg_sl ([.ref (h 8)]) ++ List.replicate (1 - (lg_sl ([.ref (h 8)])).length) Slot.unset).toArray = ls at hl ⊢
  have hl : lv_has ls 1 [(0, .ref (h 8))] := hl
  have hP : va_P (dC, dI) classes (wKn cI h (nI q) F) s.heap := hP
  refine lv_aload_n hx hb dX0_latest_0 rfl (lv_at hl 0 rfl) ?_
  refine va_get (D := (dC, dI)) (ci := 0) (v := .ref (h 9)) (C := RX0) (T := TX0) (N := 2) hx hb hts (fun w9 h9 => mm (inX0 w9 h9)) hown hK hP 0 rfl rfl 0 (by decide) (hts (.fieldLink RX0 9 "ProducerBook$Known" "places" "[I") (mm aw_66)) (fun _ h9 => h9) rfl dX0_latest_1 ?_
  refine lv_iconst (v := nI 0) hx hb dX0_latest_4 (by decide +kernel) ?_
  refine xh_iald hx hb hK hP 1 0 rfl rfl (k := 0) (by decide) (by decide) dX0_latest_5 ?_
  exact xh_iret hx hb hr (()) (rfl) hP hK hD hS dX0_latest_6 hlocks

set_option maxHeartbeats 4000000 in
set_option maxRecDepth 100000 in
/-- first(): the last of the places in use -/
theorem c_Kn_first (l : Launch) (dC : Nat → ClassId) (dI : Nat → Nat → Nat) (cI cJ : ClassId) (h : Nat → Nat) (sz : Nat) (q : Nat) (F : Nat → Int32) (h0 : 0 < q) (h5 : q ≤ 5) : Met l yX0_first wsX0_first ({ frames := 0, cells := 0, slots := 0, locals := 0 } : Room) (va_Pc [.ref (h 8)] (xP (dC, dI) classes [(cI, FieldType.int), (cJ, FieldType.long)] (wKn cI h (nI q) F) sz)) (va_Qi (fun (r : Int32) (_ : Unit) => r = F (q - 1)) (fun u => xB (dC, dI) classes [(cI, FieldType.int), (cJ, FieldType.long)] (va_A (wKn cI h (nI q) F) sz) ((fun (_ : Unit) => wKn cI h (nI q) F) u)) (va_A (wKn cI h (nI q) F) sz)) 0 0 (va_A (wKn cI h (nI q) F) sz) := by
  refine Met.ofW (cc := cX0_first) (maxL := 1) (ret := (some .int)) (by decide) rfl ?_
  intro p e s m args below meth c s₁ BB hml hv
  obtain ⟨rfl, hsz, hP, hK, hD0⟩ := hv
  have hx := BB.exec
  have hb := BB.bytes
  have hr := BB.returns
  have hts := atoms_spec (ws := wsX0_first) BB.pre
  have hown : s.vm.findClass RX0 = some m.cls := findClass_of_methodNamed BB.named
  have hlocks := BB.notSynchronized
  subst hsz
  have hD := hD0.self (sz := s.heap.size)
  generalize hAe : va_A (wKn cI h (nI q) F) s.heap.size = A at hD ⊢
  have hA : ∀ q : Nat, s.heap.size ≤ q → A q := fun q h => by rw [← hAe]; exact Or.inr h
  have hS : va_S A s.heap s.heap [] := va_S.rf
  have hl := lv_entry ([.ref (h 8)]) (n := 1) (Nat.le_of_ble_eq_true rfl)
  rw [lg_entry_eq]
  generalize (lg_sl ([.ref (h 8)]) ++ List.replicate (1 - (lg_sl ([.ref (h 8)])).length) Slot.unset).toArray = ls at hl ⊢
  have hl : lv_has ls 1 [(0, .ref (h 8))] := hl
  have hP : va_P (dC, dI) classes (wKn cI h (nI q) F) s.heap := hP
  refine lv_aload_n hx hb dX0_first_0 rfl (lv_at hl 0 rfl) ?_
  refine va_get (D := (dC, dI)) (ci := 0) (v := .int (nI q)) (C := RX0) (T := TX0) (N := 2) hx hb hts (fun w9 h9 => mm (inX0 w9 h9)) hown hK hP 0 rfl rfl 1 (by decide) (hts (.fieldLink RX0 15 "ProducerBook$Known" "size" "I") (mm aw_68)) (fun _ h9 => h9) rfl dX0_first_1 ?_
  refine lv_if_le (tgt := 21) hx hb dX0_first_4 (by decide) (fun c_4 => ?_) (fun c_4 => ?_)
  · exact absurd c_4 (nI_nle h0 (by omega))
  · refine lv_aload_n hx hb dX0_first_7 rfl (lv_at hl 0 rfl) ?_
    refine va_get (D := (dC, dI)) (ci := 0) (v := .ref (h 9)) (C := RX0) (T := TX0) (N := 2) hx hb hts (fun w9 h9 => mm (inX0 w9 h9)) hown hK hP 0 rfl rfl 0 (by decide) (hts (.fieldLink RX0 9 "ProducerBook$Known" "places" "[I") (mm aw_66)) (fun _ h9 => h9) rfl dX0_first_8 ?_
    refine lv_aload_n hx hb dX0_first_11 rfl (lv_at hl 0 rfl) ?_
    refine va_get (D := (dC, dI)) (ci := 0) (v := .int (nI q)) (C := RX0) (T := TX0) (N := 2) hx hb hts (fun w9 h9 => mm (inX0 w9 h9)) hown hK hP 0 rfl rfl 1 (by decide) (hts (.fieldLink RX0 15 "ProducerBook$Known" "size" "I") (mm aw_68)) (fun _ h9 => h9) rfl dX0_first_12 ?_
    refine lv_iconst (v := nI 1) hx hb dX0_first_15 (by decide +kernel) ?_
    refine lv_isub hx hb dX0_first_16 ?_
    refine xh_topi (z := nI (q - 1)) (pk_sub (show 1 ≤ q from h0)) ?_
    refine xh_iald hx hb hK hP 1 0 rfl rfl (k := q - 1) (by omega) (by decide) dX0_first_17 ?_
    refine lv_goto (tgt := 27) hx hb dX0_first_18 (by decide) ?_
    exact xh_iret hx hb hr (()) (rfl) hP hK hD hS dX0_first_27 hlocks

set_option maxHeartbeats 4000000 in
set_option maxRecDepth 100000 in
/-- addOlder(x), with room: x behind the others -/
theorem c_Kn_addOlder (l : Launch) (dC : Nat → ClassId) (dI : Nat → Nat → Nat) (cI cJ : ClassId) (h : Nat → Nat) (sz : Nat) (q : Nat) (F : Nat → Int32) (x : Int32) (h5 : q < 5) : Met l yX0_addOlder wsX0_addOlder ({ frames := 0, cells := 0, slots := 0, locals := 0 } : Room) (va_Pc [.ref (h 8), .int x] (xP (dC, dI) classes [(cI, FieldType.int), (cJ, FieldType.long)] (wKn cI h (nI q) F) sz)) (va_Qv (fun (_ : Unit) => True) (fun u => xB (dC, dI) classes [(cI, FieldType.int), (cJ, FieldType.long)] (va_A (wKn cI h (nI q) F) sz) ((fun (_ : Unit) => wKn cI h (nI (q + 1)) (upd F q x)) u)) (va_A (wKn cI h (nI q) F) sz)) 0 0 (va_A (wKn cI h (nI q) F) sz) := by
  refine Met.ofW (cc := cX0_addOlder) (maxL := 2) (ret := none) (by decide) rfl ?_
  intro p e s m args below meth c s₁ BB hml hv
  obtain ⟨rfl, hsz, hP, hK, hD0⟩ := hv
  have hx := BB.exec
  have hb := BB.bytes
  have hr := BB.returns
  have hts := atoms_spec (ws := wsX0_addOlder) BB.pre
  have hown : s.vm.findClass RX0 = some m.cls := findClass_of_methodNamed BB.named
  have hlocks := BB.notSynchronized
  subst hsz
  have hD := hD0.self (sz := s.heap.size)
  generalize hAe : va_A (wKn cI h (nI q) F) s.heap.size = A at hD ⊢
  have hA : ∀ q : Nat, s.heap.size ≤ q → A q := fun q h => by rw [← hAe]; exact Or.inr h
  have hS : va_S A s.heap s.heap [] := va_S.rf
  have hl := lv_entry ([.ref (h 8), .int x]) (n := 2) (Nat.le_of_ble_eq_true rfl)
  rw [lg_entry_eq]
  generalize (lg_sl ([.ref (h 8), .int x]) ++ List.replicate (2 - (lg_sl ([.ref (h 8), .int x])).length) Slot.unset).toArray = ls at hl ⊢
  have hl : lv_has ls 2 [(0, .ref (h 8)), (1, .int x)] := hl
  have hP : va_P (dC, dI) classes (wKn cI h (nI q) F) s.heap := hP
  refine lv_aload_n hx hb dX0_addOlder_0 rfl (lv_at hl 0 rfl) ?_
  refine va_get (D := (dC, dI)) (ci := 0) (v := .int (nI q)) (C := RX0) (T := TX0) (N := 2) hx hb hts (fun w9 h9 => mm (inX0 w9 h9)) hown hK hP 0 rfl rfl 1 (by decide) (hts (.fieldLink RX0 15 "ProducerBook$Known" "size" "I") (mm aw_68)) (fun _ h9 => h9) rfl dX0_addOlder_1 ?_
  refine lv_iconst (v := nI 5) hx hb dX0_addOlder_4 (by decide +kernel) ?_
  refine lv_icmp_ge (tgt := 28) hx hb dX0_addOlder_5 (by decide) (fun c_5 => ?_) (fun c_5 => ?_)
  · exact absurd c_5 (nI_ge h5 (by decide))
  · refine lv_aload_n hx hb dX0_addOlder_8 rfl (lv_at hl 0 rfl) ?_
    refine va_get (D := (dC, dI)) (ci := 0) (v := .ref (h 9)) (C := RX0) (T := TX0) (N := 2) hx hb hts (fun w9 h9 => mm (inX0 w9 h9)) hown hK hP 0 rfl rfl 0 (by decide) (hts (.fieldLink RX0 9 "ProducerBook$Known" "places" "[I") (mm aw_66)) (fun _ h9 => h9) rfl dX0_addOlder_9 ?_
    refine lv_aload_n hx hb dX0_addOlder_12 rfl (lv_at hl 0 rfl) ?_
    refine va_get (D := (dC, dI)) (ci := 0) (v := .int (nI q)) (C := RX0) (T := TX0) (N := 2) hx hb hts (fun w9 h9 => mm (inX0 w9 h9)) hown hK hP 0 rfl rfl 1 (by decide) (hts (.fieldLink RX0 15 "ProducerBook$Known" "size" "I") (mm aw_68)) (fun _ h9 => h9) rfl dX0_addOlder_13 ?_
    refine lv_iload_n hx hb dX0_addOlder_16 rfl (lv_at hl 1 rfl) ?_
    refine xh_iast hx hb hK hP hD hS 1 0 rfl rfl (k := q) (h5) (by decide) dX0_addOlder_17 (fun H locs hP hD hS => ?_)
    have hP : va_P (dC, dI) classes (wKn cI h (nI q) (upd F q x)) H := hP
    have hD : va_D A (wKn cI h (nI q) (upd F q x)) := hD
    refine lv_aload_n hx hb dX0_addOlder_18 rfl (lv_at hl 0 rfl) ?_
    refine lv_dup hx hb dX0_addOlder_19 rfl ?_
    refine va_get (D := (dC, dI)) (ci := 0) (v := .int (nI q)) (C := RX0) (T := TX0) (N := 2) hx hb hts (fun w9 h9 => mm (inX0 w9 h9)) hown hK hP 0 rfl rfl 1 (by decide) (hts (.fieldLink RX0 15 "ProducerBook$Known" "size" "I") (mm aw_68)) (fun _ h9 => h9) rfl dX0_addOlder_20 ?_
    refine lv_iconst (v := nI 1) hx hb dX0_addOlder_23 (by decide +kernel) ?_
    refine lv_iadd hx hb dX0_addOlder_24 ?_
    refine xh_topi (z := nI (q + 1)) (nI_add q 1) ?_
    refine va_put (D := (dC, dI)) (ci := 0) (v := .int (nI (q + 1))) (ty := .int) (C := RX0) (T := TX0) (N := 2) hx hb hts (fun w9 h9 => mm (inX0 w9 h9)) tyX0 tyX0_ok nX0 hown hK hP hD hS 0 rfl rfl 1 (by decide) (hts (.fieldLink RX0 15 "ProducerBook$Known" "size" "I") (mm aw_68)) (fun _ h9 => h9) rfl (by decide +kernel) rfl rfl (Nat.le_of_ble_eq_true rfl) dX0_addOlder_25 (fun H locs hP hD hS => ?_)
    have hP : va_P (dC, dI) classes (wKn cI h (nI (q + 1)) (upd F q x)) H := hP
    have hD : va_D A (wKn cI h (nI (q + 1)) (upd F q x)) := hD
    exact xh_vret hx hb hr (()) (trivial) hP hK hD hS dX0_addOlder_28 hlocks

set_option maxHeartbeats 4000000 in
set_option maxRecDepth 100000 in
/-- addLatest(x): x ahead of the others, four of them at most stay -/
theorem c_Kn_addLatest (l : Launch) (dC : Nat → ClassId) (dI : Nat → Nat → Nat) (cI cJ : ClassId) (h : Nat → Nat) (sz : Nat) (q : Nat) (F : Nat → Int32) (x : Int32) (h5 : q ≤ 5) : Met l yX0_addLatest wsX0_addLatest ({ frames := 0, cells := 0, slots := 0, locals := 0 } : Room) (va_Pc [.ref (h 8), .int x] (xP (dC, dI) classes [(cI, FieldType.int), (cJ, FieldType.long)] (wKn cI h (nI q) F) sz)) (va_Qv (fun (G : Nat → Int32) => G 0 = x ∧ ∀ j, 0 < j → j < min 5 (q + 1) → G j = F (j - 1)) (fun u => xB (dC, dI) classes [(cI, FieldType.int), (cJ, FieldType.long)] (va_A (wKn cI h (nI q) F) sz) ((fun (G : Nat → Int32) => wKn cI h (nI (min 5 (q + 1))) G) u)) (va_A (wKn cI h (nI q) F) sz)) 0 0 (va_A (wKn cI h (nI q) F) sz) := by
  refine Met.ofW (cc := cX0_addLatest) (maxL := 3) (ret := none) (by decide) rfl ?_
  intro p e s m args below meth c s₁ BB hml hv
  obtain ⟨rfl, hsz, hP, hK, hD0⟩ := hv
  have hx := BB.exec
  have hb := BB.bytes
  have hr := BB.returns
  have hts := atoms_spec (ws := wsX0_addLatest) BB.pre
  have hown : s.vm.findClass RX0 = some m.cls := findClass_of_methodNamed BB.named
  have hlocks := BB.notSynchronized
  subst hsz
  have hD := hD0.self (sz := s.heap.size)
  generalize hAe : va_A (wKn cI h (nI q) F) s.heap.size = A at hD ⊢
  have hA : ∀ q : Nat, s.heap.size ≤ q → A q := fun q h => by rw [← hAe]; exact Or.inr h
  have hS : va_S A s.heap s.heap [] := va_S.rf
  have hl := lv_entry ([.ref (h 8), .int x]) (n := 3) (Nat.le_of_ble_eq_true rfl)
  rw [lg_entry_eq]
  generalize (lg_sl ([.ref (h 8), .int x]) ++ List.replicate (3 - (lg_sl ([.ref (h 8), .int x])).length) Slot.unset).toArray = ls at hl ⊢
  have hl : lv_has ls 3 [(0, .ref (h 8)), (1, .int x)] := hl
  have hP : va_P (dC, dI) classes (wKn cI h (nI q) F) s.heap := hP
  have lp25 : ∀ (fuel : Nat) (i : Nat) (G : Nat → Int32) (H : Heap) (locs : List Loc) (ls : Array Slot), (i < min 5 (q + 1)) → (∀ j, i < j → j < min 5 (q + 1) → G j = F (j - 1)) → (∀ j, j ≤ i → G j = F j) → i < fuel → va_P (dC, dI) classes (wKn cI h (nI (min 5 (q + 1))) G) H → va_D A (wKn cI h (nI (min 5 (q + 1))) G) → va_S A s.heap H locs → lv_has ls 3 [(0, .ref (h 8)), (1, .int x), (2, .int (nI i))] → W p l e ({ frames := 0, cells := 0, slots := 0, locals := 0 } : Room) s m ([.ref (h 8), .int x] : List Value).toArray below meth c H locs 0 0 (MQ below (va_Qv (fun (G : Nat → Int32) => G 0 = x ∧ ∀ j, 0 < j → j < min 5 (q + 1) → G j = F (j - 1)) (fun u => xB (dC, dI) classes [(cI, FieldType.int), (cJ, FieldType.long)] A ((fun (G : Nat → Int32) => wKn cI h (nI (min 5 (q + 1))) G) u)) A) ([.ref (h 8), .int x] : List Value).toArray s 0 0 A) (F0 m 25 ls []) := by
    intro fuel
    induction fuel with
    | zero => intro i G H locs ls hi hG hlo hfuel; exact absurd hfuel (Nat.not_lt_zero _)
    | succ fuel ih =>
      intro i G H locs ls hi hG hlo hfuel hP hD hS hl
      cases i with
      | zero =>
        refine lv_iload_n hx hb dX0_addLatest_25 rfl (lv_at hl 2 rfl) ?_
        refine lv_if_le (tgt := 49) hx hb dX0_addLatest_26 (by decide) (fun c_26 => ?_) (fun c_26 => ?_)
        · refine lv_aload_n hx hb dX0_addLatest_49 rfl (lv_at hl 0 rfl) ?_
          refine va_get (D := (dC, dI)) (ci := 0) (v := .ref (h 9)) (C := RX0) (T := TX0) (N := 2) hx hb hts (fun w9 h9 => mm (inX0 w9 h9)) hown hK hP 0 rfl rfl 0 (by decide) (hts (.fieldLink RX0 9 "ProducerBook$Known" "places" "[I") (mm aw_66)) (fun _ h9 => h9) rfl dX0_addLatest_50 ?_
          refine lv_iconst (v := nI 0) hx hb dX0_addLatest_53 (by decide +kernel) ?_
          refine lv_iload_n hx hb dX0_addLatest_54 rfl (lv_at hl 1 rfl) ?_
          refine xh_iast hx hb hK hP hD hS 1 0 rfl rfl (k := 0) (by decide) (by decide) dX0_addLatest_55 (fun H locs hP hD hS => ?_)
          have hP : va_P (dC, dI) classes (wKn cI h (nI (min 5 (q + 1))) (upd G 0 x)) H := hP
          have hD : va_D A (wKn cI h (nI (min 5 (q + 1))) (upd G 0 x)) := hD
          exact xh_vret hx hb hr (upd G 0 x) (⟨pk_us, fun j h1 h2 => by rw [pk_un (by omega)]; exact hG j (by omega) h2⟩) hP hK hD hS dX0_addLatest_56 hlocks
        · exact absurd (show nI 0 ≤ 0 by decide) c_26
      | succ i =>
        refine lv_iload_n hx hb dX0_addLatest_25 rfl (lv_at hl 2 rfl) ?_
        refine lv_if_le (tgt := 49) hx hb dX0_addLatest_26 (by decide) (fun c_26 => ?_) (fun c_26 => ?_)
        · exact absurd c_26 (nI_nle (by omega) (by omega))
        · refine lv_aload_n hx hb dX0_addLatest_29 rfl (lv_at hl 0 rfl) ?_
          refine va_get (D := (dC, dI)) (ci := 0) (v := .ref (h 9)) (C := RX0) (T := TX0) (N := 2) hx hb hts (fun w9 h9 => mm (inX0 w9 h9)) hown hK hP 0 rfl rfl 0 (by decide) (hts (.fieldLink RX0 9 "ProducerBook$Known" "places" "[I") (mm aw_66)) (fun _ h9 => h9) rfl dX0_addLatest_30 ?_
          refine lv_iload_n hx hb dX0_addLatest_33 rfl (lv_at hl 2 rfl) ?_
          refine lv_aload_n hx hb dX0_addLatest_34 rfl (lv_at hl 0 rfl) ?_
          refine va_get (D := (dC, dI)) (ci := 0) (v := .ref (h 9)) (C := RX0) (T := TX0) (N := 2) hx hb hts (fun w9 h9 => mm (inX0 w9 h9)) hown hK hP 0 rfl rfl 0 (by decide) (hts (.fieldLink RX0 9 "ProducerBook$Known" "places" "[I") (mm aw_66)) (fun _ h9 => h9) rfl dX0_addLatest_35 ?_
          refine lv_iload_n hx hb dX0_addLatest_38 rfl (lv_at hl 2 rfl) ?_
          refine lv_iconst (v := nI 1) hx hb dX0_addLatest_39 (by decide +kernel) ?_
          refine lv_isub hx hb dX0_addLatest_40 ?_
          refine xh_topi (z := nI i) (pk_sub (Nat.le_add_left 1 i)) ?_
          refine xh_iald hx hb hK hP 1 0 rfl rfl (k := i) (by omega) (by decide) dX0_addLatest_41 ?_
          refine xh_iast hx hb hK hP hD hS 1 0 rfl rfl (k := i + 1) (by omega) (by decide) dX0_addLatest_42 (fun H locs hP hD hS => ?_)
          have hP : va_P (dC, dI) classes (wKn cI h (nI (min 5 (q + 1))) (upd G (i + 1) (G i))) H := hP
          have hD : va_D A (wKn cI h (nI (min 5 (q + 1))) (upd G (i + 1) (G i))) := hD
          refine lv_iinc (v := nI i) (lv' := [(2, .int (nI i)), (0, .ref (h 8)), (1, .int x)]) hx hb dX0_addLatest_43 hl (k := 2) rfl (by exact pk_m1 i) (by decide) rfl (fun ls hl => ?_)
          refine lv_goto (tgt := 25) hx hb dX0_addLatest_46 (by decide) ?_
          exact ih i (upd G (i + 1) (G i)) _ _ _ (by omega) (pb_sh1 hlo hG) (fun j hj => by rw [pk_un (by omega)]; exact hlo j (by omega)) (by omega) hP hD hS (lv_sub hl [1, 2, 0] rfl)
  refine lv_aload_n hx hb dX0_addLatest_0 rfl (lv_at hl 0 rfl) ?_
  refine va_get (D := (dC, dI)) (ci := 0) (v := .int (nI q)) (C := RX0) (T := TX0) (N := 2) hx hb hts (fun w9 h9 => mm (inX0 w9 h9)) hown hK hP 0 rfl rfl 1 (by decide) (hts (.fieldLink RX0 15 "ProducerBook$Known" "size" "I") (mm aw_68)) (fun _ h9 => h9) rfl dX0_addLatest_1 ?_
  refine lv_iconst (v := nI 5) hx hb dX0_addLatest_4 (by decide +kernel) ?_
  refine lv_icmp_ge (tgt := 18) hx hb dX0_addLatest_5 (by decide) (fun c_5 => ?_) (fun c_5 => ?_)
  · have c5 : 5 ≤ q := (nI_leI (by decide) (by omega)).mp c_5
    have e5 : nI q = nI (min 5 (q + 1)) := by congr 1; omega
    rw [e5] at hP hD
    refine lv_aload_n hx hb dX0_addLatest_18 rfl (lv_at hl 0 rfl) ?_
    refine va_get (D := (dC, dI)) (ci := 0) (v := .int (nI (min 5 (q + 1)))) (C := RX0) (T := TX0) (N := 2) hx hb hts (fun w9 h9 => mm (inX0 w9 h9)) hown hK hP 0 rfl rfl 1 (by decide) (hts (.fieldLink RX0 15 "ProducerBook$Known" "size" "I") (mm aw_68)) (fun _ h9 => h9) rfl dX0_addLatest_19 ?_
    refine lv_iconst (v := nI 1) hx hb dX0_addLatest_22 (by decide +kernel) ?_
    refine lv_isub hx hb dX0_addLatest_23 ?_
    refine xh_topi (z := nI (min 5 (q + 1) - 1)) (pk_sub (by omega)) ?_
    refine lv_istore_n (lv' := [(2, .int (nI (min 5 (q + 1) - 1))), (0, .ref (h 8)), (1, .int x)]) hx hb dX0_addLatest_24 rfl hl (by decide) rfl (fun ls hl => ?_)
    exact lp25 ((min 5 (q + 1) - 1) + 1) (min 5 (q + 1) - 1) F _ _ _ (by omega) (fun j h1 h2 => by omega) (fun _ _ => rfl) (by omega) hP hD hS (lv_sub hl [1, 2, 0] rfl)
  · have c5 : q < 5 := Nat.lt_of_not_le fun g => c_5 ((nI_leI (by decide) (by omega)).mpr g)
    refine lv_aload_n hx hb dX0_addLatest_8 rfl (lv_at hl 0 rfl) ?_
    refine lv_dup hx hb dX0_addLatest_9 rfl ?_
    refine va_get (D := (dC, dI)) (ci := 0) (v := .int (nI q)) (C := RX0) (T := TX0) (N := 2) hx hb hts (fun w9 h9 => mm (inX0 w9 h9)) hown hK hP 0 rfl rfl 1 (by decide) (hts (.fieldLink RX0 15 "ProducerBook$Known" "size" "I") (mm aw_68)) (fun _ h9 => h9) rfl dX0_addLatest_10 ?_
    refine lv_iconst (v := nI 1) hx hb dX0_addLatest_13 (by decide +kernel) ?_
    refine lv_iadd hx hb dX0_addLatest_14 ?_
    refine xh_topi (z := nI (min 5 (q + 1))) ((nI_add q 1).trans (by congr 1; omega)) ?_
    refine va_put (D := (dC, dI)) (ci := 0) (v := .int (nI (min 5 (q + 1)))) (ty := .int) (C := RX0) (T := TX0) (N := 2) hx hb hts (fun w9 h9 => mm (inX0 w9 h9)) tyX0 tyX0_ok nX0 hown hK hP hD hS 0 rfl rfl 1 (by decide) (hts (.fieldLink RX0 15 "ProducerBook$Known" "size" "I") (mm aw_68)) (fun _ h9 => h9) rfl (by decide +kernel) rfl rfl (Nat.le_of_ble_eq_true rfl) dX0_addLatest_15 (fun H locs hP hD hS => ?_)
    have hP : va_P (dC, dI) classes (wKn cI h (nI (min 5 (q + 1))) F) H := hP
    have hD : va_D A (wKn cI h (nI (min 5 (q + 1))) F) := hD
    refine lv_aload_n hx hb dX0_addLatest_18 rfl (lv_at hl 0 rfl) ?_
    refine va_get (D := (dC, dI)) (ci := 0) (v := .int (nI (min 5 (q + 1)))) (C := RX0) (T := TX0) (N := 2) hx hb hts (fun w9 h9 => mm (inX0 w9 h9)) hown hK hP 0 rfl rfl 1 (by decide) (hts (.fieldLink RX0 15 "ProducerBook$Known" "size" "I") (mm aw_68)) (fun _ h9 => h9) rfl dX0_addLatest_19 ?_
    refine lv_iconst (v := nI 1) hx hb dX0_addLatest_22 (by decide +kernel) ?_
    refine lv_isub hx hb dX0_addLatest_23 ?_
    refine xh_topi (z := nI (min 5 (q + 1) - 1)) (pk_sub (by omega)) ?_
    refine lv_istore_n (lv' := [(2, .int (nI (min 5 (q + 1) - 1))), (0, .ref (h 8)), (1, .int x)]) hx hb dX0_addLatest_24 rfl hl (by decide) rfl (fun ls hl => ?_)
    exact lp25 ((min 5 (q + 1) - 1) + 1) (min 5 (q + 1) - 1) F _ _ _ (by omega) (fun j h1 h2 => by omega) (fun _ _ => rfl) (by omega) hP hD hS (lv_sub hl [1, 2, 0] rfl)
