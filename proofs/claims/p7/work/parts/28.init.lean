set_option maxHeartbeats 4000000 in
set_option maxRecDepth 100000 in
theorem c_Kn_init (l : Launch) (dC : Nat → ClassId) (dI : Nat → Nat → Nat) (cI cJ : ClassId) (a sz : Nat) : Met l yX0_init wsX0_init ({ frames := 1, cells := 1, slots := 5, locals := 12 } : Room) (va_Pc [.ref a] (xP (dC, dI) classes [(cI, FieldType.int), (cJ, FieldType.long)] ([(a, .inr (0, [.null, .int 0]))]) sz)) (va_Qv (fun (u : Nat → Nat) => u 8 = a) (fun u => xB (dC, dI) classes [(cI, FieldType.int), (cJ, FieldType.long)] (va_A ([(a, .inr (0, [.null, .int 0]))]) sz) ((fun (u : Nat → Nat) => wKn cI u (nI 0) (fun _ => 0)) u)) (va_A ([(a, .inr (0, [.null, .int 0]))]) sz)) 1 5 (va_A ([(a, .inr (0, [.null, .int 0]))]) sz) := by
  refine Met.ofW (cc := cX0_init) (maxL := 1) (ret := none) (by decide) rfl ?_
  intro p e s m args below meth c s₁ BB hml hv
  obtain ⟨rfl, hsz, hP, hK, hD0⟩ := hv
  have hx := BB.exec
  have hb := BB.bytes
  have hr := BB.returns
  have hts := atoms_spec (ws := wsX0_init) BB.pre
  have hown : s.vm.findClass RX0 = some m.cls := findClass_of_methodNamed BB.named
  have hlocks := BB.notSynchronized
  have hin : meth.name = "<init>" := (name_of_methodNamed BB.named BB.method).1
  subst hsz
  have hD := hD0.self (sz := s.heap.size)
  generalize hAe : va_A ([(a, .inr (0, [.null, .int 0]))]) s.heap.size = A at hD ⊢
  have hA : ∀ q : Nat, s.heap.size ≤ q → A q := fun q h => by rw [← hAe]; exact Or.inr h
  have hS : va_S A s.heap s.heap [] := va_S.rf
  have hl := lv_entry ([.ref a]) (n := 1) (Nat.le_of_ble_eq_true rfl)
  rw [lg_entry_eq]
  generalize (lg_sl ([.ref a]) ++ List.replicate (1 - (lg_sl ([.ref a])).length) Slot.unset).toArray = ls at hl ⊢
  have hl : lv_has ls 1 [(0, .ref a)] := hl
  have hP : va_P (dC, dI) classes ([(a, .inr (0, [.null, .int 0]))]) s.heap := hP
  refine lv_aload_n hx hb dX0_init_0 rfl (lv_at hl 0 rfl) ?_
  refine W.objInit hx hb hown (hts (.methodLink RX0 3 objectInit) (mm aw_65)) (hts (.instanceMethod objectInit) (mm aw_18)) (hts (.code objectInit ⟨#[0xb1]⟩ 1 none) (mm aw_19)) rfl (by rw [hml]; exact hl.1) rfl dX0_init_1 (Nat.le_of_ble_eq_true rfl) (Nat.le_of_ble_eq_true rfl) ?_
  refine W.eq (g2 := F0 m 4 ls []) rfl ?_
  refine lv_aload_n hx hb dX0_init_4 rfl (lv_at hl 0 rfl) ?_
  refine lv_iconst (v := nI 5) hx hb dX0_init_5 (by decide +kernel) ?_
  refine va_newa (atype := .int) (ty := .int) (N' := 5) (a0 := (5, .inl (fun _ => 0))) hx hb (hts (.arrayClass .int) (mm aw_58)) rfl hK hP hD hS hA (fun _ => rfl) (by decide) (by decide +kernel) (by decide) (Nat.le_of_ble_eq_true rfl) (Nat.le_of_ble_eq_true rfl) dX0_init_6 (fun q_1 cA H hK2 hP hD hS => ?_)
  have eA : cA = cI := xh_arrI hK2 2 0 rfl rfl
  rw [eA] at hP hD
  clear hK2 eA cA
  have hP : va_P (dC, dI) classes ([(a, .inr (0, [.null, .int 0])), (q_1, .inl (cI, 5, .inl (fun _ => 0)))]) H := hP
  have hD : va_D A ([(a, .inr (0, [.null, .int 0])), (q_1, .inl (cI, 5, .inl (fun _ => 0)))]) := hD
  refine va_putF (D := (dC, dI)) (ci := 0) (v := .ref q_1) (ty := .array .int) (C := RX0) (T := TX0) (N := 2) hx hb hts (fun w9 h9 => mm (inX0 w9 h9)) tyX0 tyX0_ok nX0 hown hK hP hD hS 0 rfl rfl 0 (by decide) (hts (.fieldLink RX0 9 "ProducerBook$Known" "places" "[I") (mm aw_66)) (fun _ h9 => h9) rfl hin rfl (by decide +kernel) rfl rfl (Nat.le_of_ble_eq_true rfl) dX0_init_8 (fun H locs hP hD hS => ?_)
  have hP : va_P (dC, dI) classes ([(a, .inr (0, [.ref q_1, .int 0])), (q_1, .inl (cI, 5, .inl (fun _ => 0)))]) H := hP
  have hD : va_D A ([(a, .inr (0, [.ref q_1, .int 0])), (q_1, .inl (cI, 5, .inl (fun _ => 0)))]) := hD
  refine lv_aload_n hx hb dX0_init_11 rfl (lv_at hl 0 rfl) ?_
  refine lv_iconst (v := nI 0) hx hb dX0_init_12 (by decide +kernel) ?_
  refine va_put (D := (dC, dI)) (ci := 0) (v := .int (nI 0)) (ty := .int) (C := RX0) (T := TX0) (N := 2) hx hb hts (fun w9 h9 => mm (inX0 w9 h9)) tyX0 tyX0_ok nX0 hown hK hP hD hS 0 rfl rfl 1 (by decide) (hts (.fieldLink RX0 15 "ProducerBook$Known" "size" "I") (mm aw_68)) (fun _ h9 => h9) rfl (by decide +kernel) rfl rfl (Nat.le_of_ble_eq_true rfl) dX0_init_13 (fun H locs hP hD hS => ?_)
  have hP : va_P (dC, dI) classes ([(a, .inr (0, [.ref q_1, .int (nI 0)])), (q_1, .inl (cI, 5, .inl (fun _ => 0)))]) H := hP
  have hD : va_D A ([(a, .inr (0, [.ref q_1, .int (nI 0)])), (q_1, .inl (cI, 5, .inl (fun _ => 0)))]) := hD
  exact xh_vret hx hb hr (fun k => if k = 8 then a else q_1) (rfl) hP hK hD hS dX0_init_16 hlocks

set_option maxHeartbeats 4000000 in
set_option maxRecDepth 100000 in
theorem c_Log_init (l : Launch) (dC : Nat → ClassId) (dI : Nat → Nat → Nat) (cI cJ : ClassId) (a sz : Nat) : Met l yX1_init wsX1_init ({ frames := 1, cells := 6, slots := 12000, locals := 12 } : Room) (va_Pc [.ref a] (xP (dC, dI) classes [(cI, FieldType.int), (cJ, FieldType.long)] ([(a, .inr (1, [.null, .null, .null, .null, .null, .null, .int 0, .int 0]))]) sz)) (va_Qv (fun (u : Nat → Nat) => u 1 = a) (fun u => xB (dC, dI) classes [(cI, FieldType.int), (cJ, FieldType.long)] (va_A ([(a, .inr (1, [.null, .null, .null, .null, .null, .null, .int 0, .int 0]))]) sz) ((fun (u : Nat → Nat) => wLog cI cJ u (fun _ => 0) (fun _ => 0) (fun _ => 0) (fun _ => 0) (fun _ => 0) (fun _ => 0) (nI 0) (nI 0)) u)) (va_A ([(a, .inr (1, [.null, .null, .null, .null, .null, .null, .int 0, .int 0]))]) sz)) 6 12000 (va_A ([(a, .inr (1, [.null, .null, .null, .null, .null, .null, .int 0, .int 0]))]) sz) := by
  refine Met.ofW (cc := cX1_init) (maxL := 1) (ret := none) (by decide) rfl ?_
  intro p e s m args below meth c s₁ BB hml hv
  obtain ⟨rfl, hsz, hP, hK, hD0⟩ := hv
  have hx := BB.exec
  have hb := BB.bytes
  have hr := BB.returns
  have hts := atoms_spec (ws := wsX1_init) BB.pre
  have hown : s.vm.findClass RX1 = some m.cls := findClass_of_methodNamed BB.named
  have hlocks := BB.notSynchronized
  have hin : meth.name = "<init>" := (name_of_methodNamed BB.named BB.method).1
  subst hsz
  have hD := hD0.self (sz := s.heap.size)
  generalize hAe : va_A ([(a, .inr (1, [.null, .null, .null, .null, .null, .null, .int 0, .int 0]))]) s.heap.size = A at hD ⊢
  have hA : ∀ q : Nat, s.heap.size ≤ q → A q := fun q h => by rw [← hAe]; exact Or.inr h
  have hS : va_S A s.heap s.heap [] := va_S.rf
  have hl := lv_entry ([.ref a]) (n := 1) (Nat.le_of_ble_eq_true rfl)
  rw [lg_entry_eq]
  generalize (lg_sl ([.ref a]) ++ List.replicate (1 - (lg_sl ([.ref a])).length) Slot.unset).toArray = ls at hl ⊢
  have hl : lv_has ls 1 [(0, .ref a)] := hl
  have hP : va_P (dC, dI) classes ([(a, .inr (1, [.null, .null, .null, .null, .null, .null, .int 0, .int 0]))]) s.heap := hP
  refine lv_aload_n hx hb dX1_init_0 rfl (lv_at hl 0 rfl) ?_
  refine W.objInit hx hb hown (hts (.methodLink RX1 3 objectInit) (mm aw_25)) (hts (.instanceMethod objectInit) (mm aw_18)) (hts (.code objectInit ⟨#[0xb1]⟩ 1 none) (mm aw_19)) rfl (by rw [hml]; exact hl.1) rfl dX1_init_1 (Nat.le_of_ble_eq_true rfl) (Nat.le_of_ble_eq_true rfl) ?_
  refine W.eq (g2 := F0 m 4 ls []) rfl ?_
  refine lv_aload_n hx hb dX1_init_4 rfl (lv_at hl 0 rfl) ?_
  refine lv_sipush (v := nI 2000) hx hb dX1_init_5 (by decide +kernel) ?_
  refine va_newa (atype := .int) (ty := .int) (N' := 2000) (a0 := (2000, .inl (fun _ => 0))) hx hb (hts (.arrayClass .int) (mm aw_58)) rfl hK hP hD hS hA (fun _ => rfl) (by decide) (by decide +kernel) (by decide) (Nat.le_of_ble_eq_true rfl) (Nat.le_of_ble_eq_true rfl) dX1_init_8 (fun q_1 cA H hK2 hP hD hS => ?_)
  have eA : cA = cI := xh_arrI hK2 2 0 rfl rfl
  rw [eA] at hP hD
  clear hK2 eA cA
  have hP : va_P (dC, dI) classes ([(a, .inr (1, [.null, .null, .null, .null, .null, .null, .int 0, .int 0])), (q_1, .inl (cI, 2000, .inl (fun _ => 0)))]) H := hP
  have hD : va_D A ([(a, .inr (1, [.null, .null, .null, .null, .null, .null, .int 0, .int 0])), (q_1, .inl (cI, 2000, .inl (fun _ => 0)))]) := hD
  refine va_putF (D := (dC, dI)) (ci := 1) (v := .ref q_1) (ty := .array .int) (C := RX1) (T := TX1) (N := 8) hx hb hts (fun w9 h9 => mm (inX1 w9 h9)) tyX1 tyX1_ok nX1 hown hK hP hD hS 0 rfl rfl 0 (by decide) (hts (.fieldLink RX1 9 "ProducerBook$Log" "base" "[I") (mm aw_26)) (fun _ h9 => h9) rfl hin rfl (by decide +kernel) rfl rfl (Nat.le_of_ble_eq_true rfl) dX1_init_10 (fun H locs hP hD hS => ?_)
  have hP : va_P (dC, dI) classes ([(a, .inr (1, [.ref q_1, .null, .null, .null, .null, .null, .int 0, .int 0])), (q_1, .inl (cI, 2000, .inl (fun _ => 0)))]) H := hP
  have hD : va_D A ([(a, .inr (1, [.ref q_1, .null, .null, .null, .null, .null, .int 0, .int 0])), (q_1, .inl (cI, 2000, .inl (fun _ => 0)))]) := hD
  refine lv_aload_n hx hb dX1_init_13 rfl (lv_at hl 0 rfl) ?_
  refine lv_sipush (v := nI 2000) hx hb dX1_init_14 (by decide +kernel) ?_
  refine va_newa (atype := .long) (ty := .long) (N' := 2000) (a0 := (2000, .inr (.inl (fun _ => 0)))) hx hb (hts (.arrayClass .long) (mm aw_59)) rfl hK hP hD hS hA (fun _ => rfl) (by decide) (by decide +kernel) (by decide) (Nat.le_of_ble_eq_true rfl) (Nat.le_of_ble_eq_true rfl) dX1_init_17 (fun q_2 cA H hK2 hP hD hS => ?_)
  have eA : cA = cJ := xh_arrJ hK2 2 1 rfl rfl
  rw [eA] at hP hD
  clear hK2 eA cA
  have hP : va_P (dC, dI) classes ([(a, .inr (1, [.ref q_1, .null, .null, .null, .null, .null, .int 0, .int 0])), (q_1, .inl (cI, 2000, .inl (fun _ => 0))), (q_2, .inl (cJ, 2000, .inr (.inl (fun _ => 0))))]) H := hP
  have hD : va_D A ([(a, .inr (1, [.ref q_1, .null, .null, .null, .null, .null, .int 0, .int 0])), (q_1, .inl (cI, 2000, .inl (fun _ => 0))), (q_2, .inl (cJ, 2000, .inr (.inl (fun _ => 0))))]) := hD
  refine va_putF (D := (dC, dI)) (ci := 1) (v := .ref q_2) (ty := .array .long) (C := RX1) (T := TX1) (N := 8) hx hb hts (fun w9 h9 => mm (inX1 w9 h9)) tyX1 tyX1_ok nX1 hown hK hP hD hS 0 rfl rfl 1 (by decide) (hts (.fieldLink RX1 15 "ProducerBook$Log" "producer" "[J") (mm aw_28)) (fun _ h9 => h9) rfl hin rfl (by decide +kernel) rfl rfl (Nat.le_of_ble_eq_true rfl) dX1_init_19 (fun H locs hP hD hS => ?_)
  have hP : va_P (dC, dI) classes ([(a, .inr (1, [.ref q_1, .ref q_2, .null, .null, .null, .null, .int 0, .int 0])), (q_1, .inl (cI, 2000, .inl (fun _ => 0))), (q_2, .inl (cJ, 2000, .inr (.inl (fun _ => 0))))]) H := hP
  have hD : va_D A ([(a, .inr (1, [.ref q_1, .ref q_2, .null, .null, .null, .null, .int 0, .int 0])), (q_1, .inl (cI, 2000, .inl (fun _ => 0))), (q_2, .inl (cJ, 2000, .inr (.inl (fun _ => 0))))]) := hD
  refine lv_aload_n hx hb dX1_init_22 rfl (lv_at hl 0 rfl) ?_
  refine lv_sipush (v := nI 2000) hx hb dX1_init_23 (by decide +kernel) ?_
  refine va_newa (atype := .int) (ty := .int) (N' := 2000) (a0 := (2000, .inl (fun _ => 0))) hx hb (hts (.arrayClass .int) (mm aw_58)) rfl hK hP hD hS hA (fun _ => rfl) (by decide) (by decide +kernel) (by decide) (Nat.le_of_ble_eq_true rfl) (Nat.le_of_ble_eq_true rfl) dX1_init_26 (fun q_3 cA H hK2 hP hD hS => ?_)
  have eA : cA = cI := xh_arrI hK2 2 0 rfl rfl
  rw [eA] at hP hD
  clear hK2 eA cA
  have hP : va_P (dC, dI) classes ([(a, .inr (1, [.ref q_1, .ref q_2, .null, .null, .null, .null, .int 0, .int 0])), (q_1, .inl (cI, 2000, .inl (fun _ => 0))), (q_2, .inl (cJ, 2000, .inr (.inl (fun _ => 0)))), (q_3, .inl (cI, 2000, .inl (fun _ => 0)))]) H := hP
  have hD : va_D A ([(a, .inr (1, [.ref q_1, .ref q_2, .null, .null, .null, .null, .int 0, .int 0])), (q_1, .inl (cI, 2000, .inl (fun _ => 0))), (q_2, .inl (cJ, 2000, .inr (.inl (fun _ => 0)))), (q_3, .inl (cI, 2000, .inl (fun _ => 0)))]) := hD
  refine va_putF (D := (dC, dI)) (ci := 1) (v := .ref q_3) (ty := .array .int) (C := RX1) (T := TX1) (N := 8) hx hb hts (fun w9 h9 => mm (inX1 w9 h9)) tyX1 tyX1_ok nX1 hown hK hP hD hS 0 rfl rfl 2 (by decide) (hts (.fieldLink RX1 19 "ProducerBook$Log" "epoch" "[I") (mm aw_30)) (fun _ h9 => h9) rfl hin rfl (by decide +kernel) rfl rfl (Nat.le_of_ble_eq_true rfl) dX1_init_28 (fun H locs hP hD hS => ?_)
  have hP : va_P (dC, dI) classes ([(a, .inr (1, [.ref q_1, .ref q_2, .ref q_3, .null, .null, .null, .int 0, .int 0])), (q_1, .inl (cI, 2000, .inl (fun _ => 0))), (q_2, .inl (cJ, 2000, .inr (.inl (fun _ => 0)))), (q_3, .inl (cI, 2000, .inl (fun _ => 0)))]) H := hP
  have hD : va_D A ([(a, .inr (1, [.ref q_1, .ref q_2, .ref q_3, .null, .null, .null, .int 0, .int 0])), (q_1, .inl (cI, 2000, .inl (fun _ => 0))), (q_2, .inl (cJ, 2000, .inr (.inl (fun _ => 0)))), (q_3, .inl (cI, 2000, .inl (fun _ => 0)))]) := hD
  refine lv_aload_n hx hb dX1_init_31 rfl (lv_at hl 0 rfl) ?_
  refine lv_sipush (v := nI 2000) hx hb dX1_init_32 (by decide +kernel) ?_
  refine va_newa (atype := .int) (ty := .int) (N' := 2000) (a0 := (2000, .inl (fun _ => 0))) hx hb (hts (.arrayClass .int) (mm aw_58)) rfl hK hP hD hS hA (fun _ => rfl) (by decide) (by decide +kernel) (by decide) (Nat.le_of_ble_eq_true rfl) (Nat.le_of_ble_eq_true rfl) dX1_init_35 (fun q_4 cA H hK2 hP hD hS => ?_)
  have eA : cA = cI := xh_arrI hK2 2 0 rfl rfl
  rw [eA] at hP hD
  clear hK2 eA cA
  have hP : va_P (dC, dI) classes ([(a, .inr (1, [.ref q_1, .ref q_2, .ref q_3, .null, .null, .null, .int 0, .int 0])), (q_1, .inl (cI, 2000, .inl (fun _ => 0))), (q_2, .inl (cJ, 2000, .inr (.inl (fun _ => 0)))), (q_3, .inl (cI, 2000, .inl (fun _ => 0))), (q_4, .inl (cI, 2000, .inl (fun _ => 0)))]) H := hP
  have hD : va_D A ([(a, .inr (1, [.ref q_1, .ref q_2, .ref q_3, .null, .null, .null, .int 0, .int 0])), (q_1, .inl (cI, 2000, .inl (fun _ => 0))), (q_2, .inl (cJ, 2000, .inr (.inl (fun _ => 0)))), (q_3, .inl (cI, 2000, .inl (fun _ => 0))), (q_4, .inl (cI, 2000, .inl (fun _ => 0)))]) := hD
  refine va_putF (D := (dC, dI)) (ci := 1) (v := .ref q_4) (ty := .array .int) (C := RX1) (T := TX1) (N := 8) hx hb hts (fun w9 h9 => mm (inX1 w9 h9)) tyX1 tyX1_ok nX1 hown hK hP hD hS 0 rfl rfl 3 (by decide) (hts (.fieldLink RX1 22 "ProducerBook$Log" "sequence" "[I") (mm aw_32)) (fun _ h9 => h9) rfl hin rfl (by decide +kernel) rfl rfl (Nat.le_of_ble_eq_true rfl) dX1_init_37 (fun H locs hP hD hS => ?_)
  have hP : va_P (dC, dI) classes ([(a, .inr (1, [.ref q_1, .ref q_2, .ref q_3, .ref q_4, .null, .null, .int 0, .int 0])), (q_1, .inl (cI, 2000, .inl (fun _ => 0))), (q_2, .inl (cJ, 2000, .inr (.inl (fun _ => 0)))), (q_3, .inl (cI, 2000, .inl (fun _ => 0))), (q_4, .inl (cI, 2000, .inl (fun _ => 0)))]) H := hP
  have hD : va_D A ([(a, .inr (1, [.ref q_1, .ref q_2, .ref q_3, .ref q_4, .null, .null, .int 0, .int 0])), (q_1, .inl (cI, 2000, .inl (fun _ => 0))), (q_2, .inl (cJ, 2000, .inr (.inl (fun _ => 0)))), (q_3, .inl (cI, 2000, .inl (fun _ => 0))), (q_4, .inl (cI, 2000, .inl (fun _ => 0)))]) := hD
  refine lv_aload_n hx hb dX1_init_40 rfl (lv_at hl 0 rfl) ?_
  refine lv_sipush (v := nI 2000) hx hb dX1_init_41 (by decide +kernel) ?_
  refine va_newa (atype := .int) (ty := .int) (N' := 2000) (a0 := (2000, .inl (fun _ => 0))) hx hb (hts (.arrayClass .int) (mm aw_58)) rfl hK hP hD hS hA (fun _ => rfl) (by decide) (by decide +kernel) (by decide) (Nat.le_of_ble_eq_true rfl) (Nat.le_of_ble_eq_true rfl) dX1_init_44 (fun q_5 cA H hK2 hP hD hS => ?_)
  have eA : cA = cI := xh_arrI hK2 2 0 rfl rfl
  rw [eA] at hP hD
  clear hK2 eA cA
  have hP : va_P (dC, dI) classes ([(a, .inr (1, [.ref q_1, .ref q_2, .ref q_3, .ref q_4, .null, .null, .int 0, .int 0])), (q_1, .inl (cI, 2000, .inl (fun _ => 0))), (q_2, .inl (cJ, 2000, .inr (.inl (fun _ => 0)))), (q_3, .inl (cI, 2000, .inl (fun _ => 0))), (q_4, .inl (cI, 2000, .inl (fun _ => 0))), (q_5, .inl (cI, 2000, .inl (fun _ => 0)))]) H := hP
  have hD : va_D A ([(a, .inr (1, [.ref q_1, .ref q_2, .ref q_3, .ref q_4, .null, .null, .int 0, .int 0])), (q_1, .inl (cI, 2000, .inl (fun _ => 0))), (q_2, .inl (cJ, 2000, .inr (.inl (fun _ => 0)))), (q_3, .inl (cI, 2000, .inl (fun _ => 0))), (q_4, .inl (cI, 2000, .inl (fun _ => 0))), (q_5, .inl (cI, 2000, .inl (fun _ => 0)))]) := hD
  refine va_putF (D := (dC, dI)) (ci := 1) (v := .ref q_5) (ty := .array .int) (C := RX1) (T := TX1) (N := 8) hx hb hts (fun w9 h9 => mm (inX1 w9 h9)) tyX1 tyX1_ok nX1 hown hK hP hD hS 0 rfl rfl 4 (by decide) (hts (.fieldLink RX1 25 "ProducerBook$Log" "last" "[I") (mm aw_34)) (fun _ h9 => h9) rfl hin rfl (by decide +kernel) rfl rfl (Nat.le_of_ble_eq_true rfl) dX1_init_46 (fun H locs hP hD hS => ?_)
  have hP : va_P (dC, dI) classes ([(a, .inr (1, [.ref q_1, .ref q_2, .ref q_3, .ref q_4, .ref q_5, .null, .int 0, .int 0])), (q_1, .inl (cI, 2000, .inl (fun _ => 0))), (q_2, .inl (cJ, 2000, .inr (.inl (fun _ => 0)))), (q_3, .inl (cI, 2000, .inl (fun _ => 0))), (q_4, .inl (cI, 2000, .inl (fun _ => 0))), (q_5, .inl (cI, 2000, .inl (fun _ => 0)))]) H := hP
  have hD : va_D A ([(a, .inr (1, [.ref q_1, .ref q_2, .ref q_3, .ref q_4, .ref q_5, .null, .int 0, .int 0])), (q_1, .inl (cI, 2000, .inl (fun _ => 0))), (q_2, .inl (cJ, 2000, .inr (.inl (fun _ => 0)))), (q_3, .inl (cI, 2000, .inl (fun _ => 0))), (q_4, .inl (cI, 2000, .inl (fun _ => 0))), (q_5, .inl (cI, 2000, .inl (fun _ => 0)))]) := hD
  refine lv_aload_n hx hb dX1_init_49 rfl (lv_at hl 0 rfl) ?_
  refine lv_sipush (v := nI 2000) hx hb dX1_init_50 (by decide +kernel) ?_
  refine va_newa (atype := .int) (ty := .int) (N' := 2000) (a0 := (2000, .inl (fun _ => 0))) hx hb (hts (.arrayClass .int) (mm aw_58)) rfl hK hP hD hS hA (fun _ => rfl) (by decide) (by decide +kernel) (by decide) (Nat.le_of_ble_eq_true rfl) (Nat.le_of_ble_eq_true rfl) dX1_init_53 (fun q_6 cA H hK2 hP hD hS => ?_)
  have eA : cA = cI := xh_arrI hK2 2 0 rfl rfl
  rw [eA] at hP hD
  clear hK2 eA cA
  have hP : va_P (dC, dI) classes ([(a, .inr (1, [.ref q_1, .ref q_2, .ref q_3, .ref q_4, .ref q_5, .null, .int 0, .int 0])), (q_1, .inl (cI, 2000, .inl (fun _ => 0))), (q_2, .inl (cJ, 2000, .inr (.inl (fun _ => 0)))), (q_3, .inl (cI, 2000, .inl (fun _ => 0))), (q_4, .inl (cI, 2000, .inl (fun _ => 0))), (q_5, .inl (cI, 2000, .inl (fun _ => 0))), (q_6, .inl (cI, 2000, .inl (fun _ => 0)))]) H := hP
  have hD : va_D A ([(a, .inr (1, [.ref q_1, .ref q_2, .ref q_3, .ref q_4, .ref q_5, .null, .int 0, .int 0])), (q_1, .inl (cI, 2000, .inl (fun _ => 0))), (q_2, .inl (cJ, 2000, .inr (.inl (fun _ => 0)))), (q_3, .inl (cI, 2000, .inl (fun _ => 0))), (q_4, .inl (cI, 2000, .inl (fun _ => 0))), (q_5, .inl (cI, 2000, .inl (fun _ => 0))), (q_6, .inl (cI, 2000, .inl (fun _ => 0)))]) := hD
  refine va_putF (D := (dC, dI)) (ci := 1) (v := .ref q_6) (ty := .array .int) (C := RX1) (T := TX1) (N := 8) hx hb hts (fun w9 h9 => mm (inX1 w9 h9)) tyX1 tyX1_ok nX1 hown hK hP hD hS 0 rfl rfl 5 (by decide) (hts (.fieldLink RX1 28 "ProducerBook$Log" "newer" "[I") (mm aw_36)) (fun _ h9 => h9) rfl hin rfl (by decide +kernel) rfl rfl (Nat.le_of_ble_eq_true rfl) dX1_init_55 (fun H locs hP hD hS => ?_)
  have hP : va_P (dC, dI) classes ([(a, .inr (1, [.ref q_1, .ref q_2, .ref q_3, .ref q_4, .ref q_5, .ref q_6, .int 0, .int 0])), (q_1, .inl (cI, 2000, .inl (fun _ => 0))), (q_2, .inl (cJ, 2000, .inr (.inl (fun _ => 0)))), (q_3, .inl (cI, 2000, .inl (fun _ => 0))), (q_4, .inl (cI, 2000, .inl (fun _ => 0))), (q_5, .inl (cI, 2000, .inl (fun _ => 0))), (q_6, .inl (cI, 2000, .inl (fun _ => 0)))]) H := hP
  have hD : va_D A ([(a, .inr (1, [.ref q_1, .ref q_2, .ref q_3, .ref q_4, .ref q_5, .ref q_6, .int 0, .int 0])), (q_1, .inl (cI, 2000, .inl (fun _ => 0))), (q_2, .inl (cJ, 2000, .inr (.inl (fun _ => 0)))), (q_3, .inl (cI, 2000, .inl (fun _ => 0))), (q_4, .inl (cI, 2000, .inl (fun _ => 0))), (q_5, .inl (cI, 2000, .inl (fun _ => 0))), (q_6, .inl (cI, 2000, .inl (fun _ => 0)))]) := hD
  refine lv_aload_n hx hb dX1_init_58 rfl (lv_at hl 0 rfl) ?_
  refine lv_iconst (v := nI 0) hx hb dX1_init_59 (by decide +kernel) ?_
  refine va_put (D := (dC, dI)) (ci := 1) (v := .int (nI 0)) (ty := .int) (C := RX1) (T := TX1) (N := 8) hx hb hts (fun w9 h9 => mm (inX1 w9 h9)) tyX1 tyX1_ok nX1 hown hK hP hD hS 0 rfl rfl 6 (by decide) (hts (.fieldLink RX1 31 "ProducerBook$Log" "size" "I") (mm aw_37)) (fun _ h9 => h9) rfl (by decide +kernel) rfl rfl (Nat.le_of_ble_eq_true rfl) dX1_init_60 (fun H locs hP hD hS => ?_)
  have hP : va_P (dC, dI) classes ([(a, .inr (1, [.ref q_1, .ref q_2, .ref q_3, .ref q_4, .ref q_5, .ref q_6, .int (nI 0), .int 0])), (q_1, .inl (cI, 2000, .inl (fun _ => 0))), (q_2, .inl (cJ, 2000, .inr (.inl (fun _ => 0)))), (q_3, .inl (cI, 2000, .inl (fun _ => 0))), (q_4, .inl (cI, 2000, .inl (fun _ => 0))), (q_5, .inl (cI, 2000, .inl (fun _ => 0))), (q_6, .inl (cI, 2000, .inl (fun _ => 0)))]) H := hP
  have hD : va_D A ([(a, .inr (1, [.ref q_1, .ref q_2, .ref q_3, .ref q_4, .ref q_5, .ref q_6, .int (nI 0), .int 0])), (q_1, .inl (cI, 2000, .inl (fun _ => 0))), (q_2, .inl (cJ, 2000, .inr (.inl (fun _ => 0)))), (q_3, .inl (cI, 2000, .inl (fun _ => 0))), (q_4, .inl (cI, 2000, .inl (fun _ => 0))), (q_5, .inl (cI, 2000, .inl (fun _ => 0))), (q_6, .inl (cI, 2000, .inl (fun _ => 0)))]) := hD
  refine lv_aload_n hx hb dX1_init_63 rfl (lv_at hl 0 rfl) ?_
  refine lv_iconst (v := nI 0) hx hb dX1_init_64 (by decide +kernel) ?_
  refine va_put (D := (dC, dI)) (ci := 1) (v := .int (nI 0)) (ty := .int) (C := RX1) (T := TX1) (N := 8) hx hb hts (fun w9 h9 => mm (inX1 w9 h9)) tyX1 tyX1_ok nX1 hown hK hP hD hS 0 rfl rfl 7 (by decide) (hts (.fieldLink RX1 35 "ProducerBook$Log" "end" "I") (mm aw_39)) (fun _ h9 => h9) rfl (by decide +kernel) rfl rfl (Nat.le_of_ble_eq_true rfl) dX1_init_65 (fun H locs hP hD hS => ?_)
  have hP : va_P (dC, dI) classes ([(a, .inr (1, [.ref q_1, .ref q_2, .ref q_3, .ref q_4, .ref q_5, .ref q_6, .int (nI 0), .int (nI 0)])), (q_1, .inl (cI, 2000, .inl (fun _ => 0))), (q_2, .inl (cJ, 2000, .inr (.inl (fun _ => 0)))), (q_3, .inl (cI, 2000, .inl (fun _ => 0))), (q_4, .inl (cI, 2000, .inl (fun _ => 0))), (q_5, .inl (cI, 2000, .inl (fun _ => 0))), (q_6, .inl (cI, 2000, .inl (fun _ => 0)))]) H := hP
  have hD : va_D A ([(a, .inr (1, [.ref q_1, .ref q_2, .ref q_3, .ref q_4, .ref q_5, .ref q_6, .int (nI 0), .int (nI 0)])), (q_1, .inl (cI, 2000, .inl (fun _ => 0))), (q_2, .inl (cJ, 2000, .inr (.inl (fun _ => 0)))), (q_3, .inl (cI, 2000, .inl (fun _ => 0))), (q_4, .inl (cI, 2000, .inl (fun _ => 0))), (q_5, .inl (cI, 2000, .inl (fun _ => 0))), (q_6, .inl (cI, 2000, .inl (fun _ => 0)))]) := hD
  exact xh_vret hx hb hr (fun k => if k = 1 then a else if k = 2 then q_1 else if k = 3 then q_2 else if k = 4 then q_3 else if k = 5 then q_4 else if k = 6 then q_5 else q_6) (rfl) hP hK hD hS dX1_init_68 hlocks

set_option maxHeartbeats 4000000 in
set_option maxRecDepth 100000 in
theorem c_Mo_init (l : Launch) (dC : Nat → ClassId) (dI : Nat → Nat → Nat) (cI cJ : ClassId) (a sz : Nat) : Met l yX3_init wsX3_init ({ frames := 1, cells := 5, slots := 10000, locals := 12 } : Room) (va_Pc [.ref a] (xP (dC, dI) classes [(cI, FieldType.int), (cJ, FieldType.long)] ([(a, .inr (3, [.int 0, .int 0, .int 0, .null, .null, .null, .null, .null]))]) sz)) (va_Qv (fun (u : Nat → Nat) => u 20 = a) (fun u => xB (dC, dI) classes [(cI, FieldType.int), (cJ, FieldType.long)] (va_A ([(a, .inr (3, [.int 0, .int 0, .int 0, .null, .null, .null, .null, .null]))]) sz) ((fun (u : Nat → Nat) => wMo cI cJ u (fun _ => 0) (fun _ => 0) (fun _ => 0) (fun _ => 0) (fun _ => 0) (nI 0) (nI 0) (nI 0)) u)) (va_A ([(a, .inr (3, [.int 0, .int 0, .int 0, .null, .null, .null, .null, .null]))]) sz)) 5 10000 (va_A ([(a, .inr (3, [.int 0, .int 0, .int 0, .null, .null, .null, .null, .null]))]) sz) := by
  refine Met.ofW (cc := cX3_init) (maxL := 1) (ret := none) (by decide) rfl ?_
  intro p e s m args below meth c s₁ BB hml hv
  obtain ⟨rfl, hsz, hP, hK, hD0⟩ := hv
  have hx := BB.exec
  have hb := BB.bytes
  have hr := BB.returns
  have hts := atoms_spec (ws := wsX3_init) BB.pre
  have hown : s.vm.findClass RX3 = some m.cls := findClass_of_methodNamed BB.named
  have hlocks := BB.notSynchronized
  have hin : meth.name = "<init>" := (name_of_methodNamed BB.named BB.method).1
  subst hsz
  have hD := hD0.self (sz := s.heap.size)
  generalize hAe : va_A ([(a, .inr (3, [.int 0, .int 0, .int 0, .null, .null, .null, .null, .null]))]) s.heap.size = A at hD ⊢
  have hA : ∀ q : Nat, s.heap.size ≤ q → A q := fun q h => by rw [← hAe]; exact Or.inr h
  have hS : va_S A s.heap s.heap [] := va_S.rf
  have hl := lv_entry ([.ref a]) (n := 1) (Nat.le_of_ble_eq_true rfl)
  rw [lg_entry_eq]
  generalize (lg_sl ([.ref a]) ++ List.replicate (1 - (lg_sl ([.ref a])).length) Slot.unset).toArray = ls at hl ⊢
  have hl : lv_has ls 1 [(0, .ref a)] := hl
  have hP : va_P (dC, dI) classes ([(a, .inr (3, [.int 0, .int 0, .int 0, .null, .null, .null, .null, .null]))]) s.heap := hP
  refine lv_aload_n hx hb dX3_init_0 rfl (lv_at hl 0 rfl) ?_
  refine W.objInit hx hb hown (hts (.methodLink RX3 1 objectInit) (mm aw_307)) (hts (.instanceMethod objectInit) (mm aw_18)) (hts (.code objectInit ⟨#[0xb1]⟩ 1 none) (mm aw_19)) rfl (by rw [hml]; exact hl.1) rfl dX3_init_1 (Nat.le_of_ble_eq_true rfl) (Nat.le_of_ble_eq_true rfl) ?_
  refine W.eq (g2 := F0 m 4 ls []) rfl ?_
  refine lv_aload_n hx hb dX3_init_4 rfl (lv_at hl 0 rfl) ?_
  refine lv_sipush (v := nI 2000) hx hb dX3_init_5 (by decide +kernel) ?_
  refine va_newa (atype := .int) (ty := .int) (N' := 2000) (a0 := (2000, .inl (fun _ => 0))) hx hb (hts (.arrayClass .int) (mm aw_58)) rfl hK hP hD hS hA (fun _ => rfl) (by decide) (by decide +kernel) (by decide) (Nat.le_of_ble_eq_true rfl) (Nat.le_of_ble_eq_true rfl) dX3_init_8 (fun q_1 cA H hK2 hP hD hS => ?_)
  have eA : cA = cI := xh_arrI hK2 2 0 rfl rfl
  rw [eA] at hP hD
  clear hK2 eA cA
  have hP : va_P (dC, dI) classes ([(a, .inr (3, [.int 0, .int 0, .int 0, .null, .null, .null, .null, .null])), (q_1, .inl (cI, 2000, .inl (fun _ => 0)))]) H := hP
  have hD : va_D A ([(a, .inr (3, [.int 0, .int 0, .int 0, .null, .null, .null, .null, .null])), (q_1, .inl (cI, 2000, .inl (fun _ => 0)))]) := hD
  refine va_putF (D := (dC, dI)) (ci := 3) (v := .ref q_1) (ty := .array .int) (C := RX3) (T := TX3) (N := 8) hx hb hts (fun w9 h9 => mm (inX3 w9 h9)) tyX3 tyX3_ok nX3 hown hK hP hD hS 0 rfl rfl 3 (by decide) (hts (.fieldLink RX3 7 "ProducerBookModel" "base" "[I") (mm aw_311)) (fun _ h9 => h9) rfl hin rfl (by decide +kernel) rfl rfl (Nat.le_of_ble_eq_true rfl) dX3_init_10 (fun H locs hP hD hS => ?_)
  have hP : va_P (dC, dI) classes ([(a, .inr (3, [.int 0, .int 0, .int 0, .ref q_1, .null, .null, .null, .null])), (q_1, .inl (cI, 2000, .inl (fun _ => 0)))]) H := hP
  have hD : va_D A ([(a, .inr (3, [.int 0, .int 0, .int 0, .ref q_1, .null, .null, .null, .null])), (q_1, .inl (cI, 2000, .inl (fun _ => 0)))]) := hD
  refine lv_aload_n hx hb dX3_init_13 rfl (lv_at hl 0 rfl) ?_
  refine lv_sipush (v := nI 2000) hx hb dX3_init_14 (by decide +kernel) ?_
  refine va_newa (atype := .long) (ty := .long) (N' := 2000) (a0 := (2000, .inr (.inl (fun _ => 0)))) hx hb (hts (.arrayClass .long) (mm aw_59)) rfl hK hP hD hS hA (fun _ => rfl) (by decide) (by decide +kernel) (by decide) (Nat.le_of_ble_eq_true rfl) (Nat.le_of_ble_eq_true rfl) dX3_init_17 (fun q_2 cA H hK2 hP hD hS => ?_)
  have eA : cA = cJ := xh_arrJ hK2 2 1 rfl rfl
  rw [eA] at hP hD
  clear hK2 eA cA
  have hP : va_P (dC, dI) classes ([(a, .inr (3, [.int 0, .int 0, .int 0, .ref q_1, .null, .null, .null, .null])), (q_1, .inl (cI, 2000, .inl (fun _ => 0))), (q_2, .inl (cJ, 2000, .inr (.inl (fun _ => 0))))]) H := hP
  have hD : va_D A ([(a, .inr (3, [.int 0, .int 0, .int 0, .ref q_1, .null, .null, .null, .null])), (q_1, .inl (cI, 2000, .inl (fun _ => 0))), (q_2, .inl (cJ, 2000, .inr (.inl (fun _ => 0))))]) := hD
  refine va_putF (D := (dC, dI)) (ci := 3) (v := .ref q_2) (ty := .array .long) (C := RX3) (T := TX3) (N := 8) hx hb hts (fun w9 h9 => mm (inX3 w9 h9)) tyX3 tyX3_ok nX3 hown hK hP hD hS 0 rfl rfl 4 (by decide) (hts (.fieldLink RX3 13 "ProducerBookModel" "producer" "[J") (mm aw_312)) (fun _ h9 => h9) rfl hin rfl (by decide +kernel) rfl rfl (Nat.le_of_ble_eq_true rfl) dX3_init_19 (fun H locs hP hD hS => ?_)
  have hP : va_P (dC, dI) classes ([(a, .inr (3, [.int 0, .int 0, .int 0, .ref q_1, .ref q_2, .null, .null, .null])), (q_1, .inl (cI, 2000, .inl (fun _ => 0))), (q_2, .inl (cJ, 2000, .inr (.inl (fun _ => 0))))]) H := hP
  have hD : va_D A ([(a, .inr (3, [.int 0, .int 0, .int 0, .ref q_1, .ref q_2, .null, .null, .null])), (q_1, .inl (cI, 2000, .inl (fun _ => 0))), (q_2, .inl (cJ, 2000, .inr (.inl (fun _ => 0))))]) := hD
  refine lv_aload_n hx hb dX3_init_22 rfl (lv_at hl 0 rfl) ?_
  refine lv_sipush (v := nI 2000) hx hb dX3_init_23 (by decide +kernel) ?_
  refine va_newa (atype := .int) (ty := .int) (N' := 2000) (a0 := (2000, .inl (fun _ => 0))) hx hb (hts (.arrayClass .int) (mm aw_58)) rfl hK hP hD hS hA (fun _ => rfl) (by decide) (by decide +kernel) (by decide) (Nat.le_of_ble_eq_true rfl) (Nat.le_of_ble_eq_true rfl) dX3_init_26 (fun q_3 cA H hK2 hP hD hS => ?_)
  have eA : cA = cI := xh_arrI hK2 2 0 rfl rfl
  rw [eA] at hP hD
  clear hK2 eA cA
  have hP : va_P (dC, dI) classes ([(a, .inr (3, [.int 0, .int 0, .int 0, .ref q_1, .ref q_2, .null, .null, .null])), (q_1, .inl (cI, 2000, .inl (fun _ => 0))), (q_2, .inl (cJ, 2000, .inr (.inl (fun _ => 0)))), (q_3, .inl (cI, 2000, .inl (fun _ => 0)))]) H := hP
  have hD : va_D A ([(a, .inr (3, [.int 0, .int 0, .int 0, .ref q_1, .ref q_2, .null, .null, .null])), (q_1, .inl (cI, 2000, .inl (fun _ => 0))), (q_2, .inl (cJ, 2000, .inr (.inl (fun _ => 0)))), (q_3, .inl (cI, 2000, .inl (fun _ => 0)))]) := hD
  refine va_putF (D := (dC, dI)) (ci := 3) (v := .ref q_3) (ty := .array .int) (C := RX3) (T := TX3) (N := 8) hx hb hts (fun w9 h9 => mm (inX3 w9 h9)) tyX3 tyX3_ok nX3 hown hK hP hD hS 0 rfl rfl 5 (by decide) (hts (.fieldLink RX3 17 "ProducerBookModel" "epoch" "[I") (mm aw_313)) (fun _ h9 => h9) rfl hin rfl (by decide +kernel) rfl rfl (Nat.le_of_ble_eq_true rfl) dX3_init_28 (fun H locs hP hD hS => ?_)
  have hP : va_P (dC, dI) classes ([(a, .inr (3, [.int 0, .int 0, .int 0, .ref q_1, .ref q_2, .ref q_3, .null, .null])), (q_1, .inl (cI, 2000, .inl (fun _ => 0))), (q_2, .inl (cJ, 2000, .inr (.inl (fun _ => 0)))), (q_3, .inl (cI, 2000, .inl (fun _ => 0)))]) H := hP
  have hD : va_D A ([(a, .inr (3, [.int 0, .int 0, .int 0, .ref q_1, .ref q_2, .ref q_3, .null, .null])), (q_1, .inl (cI, 2000, .inl (fun _ => 0))), (q_2, .inl (cJ, 2000, .inr (.inl (fun _ => 0)))), (q_3, .inl (cI, 2000, .inl (fun _ => 0)))]) := hD
  refine lv_aload_n hx hb dX3_init_31 rfl (lv_at hl 0 rfl) ?_
  refine lv_sipush (v := nI 2000) hx hb dX3_init_32 (by decide +kernel) ?_
  refine va_newa (atype := .int) (ty := .int) (N' := 2000) (a0 := (2000, .inl (fun _ => 0))) hx hb (hts (.arrayClass .int) (mm aw_58)) rfl hK hP hD hS hA (fun _ => rfl) (by decide) (by decide +kernel) (by decide) (Nat.le_of_ble_eq_true rfl) (Nat.le_of_ble_eq_true rfl) dX3_init_35 (fun q_4 cA H hK2 hP hD hS => ?_)
  have eA : cA = cI := xh_arrI hK2 2 0 rfl rfl
  rw [eA] at hP hD
  clear hK2 eA cA
  have hP : va_P (dC, dI) classes ([(a, .inr (3, [.int 0, .int 0, .int 0, .ref q_1, .ref q_2, .ref q_3, .null, .null])), (q_1, .inl (cI, 2000, .inl (fun _ => 0))), (q_2, .inl (cJ, 2000, .inr (.inl (fun _ => 0)))), (q_3, .inl (cI, 2000, .inl (fun _ => 0))), (q_4, .inl (cI, 2000, .inl (fun _ => 0)))]) H := hP
  have hD : va_D A ([(a, .inr (3, [.int 0, .int 0, .int 0, .ref q_1, .ref q_2, .ref q_3, .null, .null])), (q_1, .inl (cI, 2000, .inl (fun _ => 0))), (q_2, .inl (cJ, 2000, .inr (.inl (fun _ => 0)))), (q_3, .inl (cI, 2000, .inl (fun _ => 0))), (q_4, .inl (cI, 2000, .inl (fun _ => 0)))]) := hD
  refine va_putF (D := (dC, dI)) (ci := 3) (v := .ref q_4) (ty := .array .int) (C := RX3) (T := TX3) (N := 8) hx hb hts (fun w9 h9 => mm (inX3 w9 h9)) tyX3 tyX3_ok nX3 hown hK hP hD hS 0 rfl rfl 6 (by decide) (hts (.fieldLink RX3 20 "ProducerBookModel" "sequence" "[I") (mm aw_314)) (fun _ h9 => h9) rfl hin rfl (by decide +kernel) rfl rfl (Nat.le_of_ble_eq_true rfl) dX3_init_37 (fun H locs hP hD hS => ?_)
  have hP : va_P (dC, dI) classes ([(a, .inr (3, [.int 0, .int 0, .int 0, .ref q_1, .ref q_2, .ref q_3, .ref q_4, .null])), (q_1, .inl (cI, 2000, .inl (fun _ => 0))), (q_2, .inl (cJ, 2000, .inr (.inl (fun _ => 0)))), (q_3, .inl (cI, 2000, .inl (fun _ => 0))), (q_4, .inl (cI, 2000, .inl (fun _ => 0)))]) H := hP
  have hD : va_D A ([(a, .inr (3, [.int 0, .int 0, .int 0, .ref q_1, .ref q_2, .ref q_3, .ref q_4, .null])), (q_1, .inl (cI, 2000, .inl (fun _ => 0))), (q_2, .inl (cJ, 2000, .inr (.inl (fun _ => 0)))), (q_3, .inl (cI, 2000, .inl (fun _ => 0))), (q_4, .inl (cI, 2000, .inl (fun _ => 0)))]) := hD
  refine lv_aload_n hx hb dX3_init_40 rfl (lv_at hl 0 rfl) ?_
  refine lv_sipush (v := nI 2000) hx hb dX3_init_41 (by decide +kernel) ?_
  refine va_newa (atype := .int) (ty := .int) (N' := 2000) (a0 := (2000, .inl (fun _ => 0))) hx hb (hts (.arrayClass .int) (mm aw_58)) rfl hK hP hD hS hA (fun _ => rfl) (by decide) (by decide +kernel) (by decide) (Nat.le_of_ble_eq_true rfl) (Nat.le_of_ble_eq_true rfl) dX3_init_44 (fun q_5 cA H hK2 hP hD hS => ?_)
  have eA : cA = cI := xh_arrI hK2 2 0 rfl rfl
  rw [eA] at hP hD
  clear hK2 eA cA
  have hP : va_P (dC, dI) classes ([(a, .inr (3, [.int 0, .int 0, .int 0, .ref q_1, .ref q_2, .ref q_3, .ref q_4, .null])), (q_1, .inl (cI, 2000, .inl (fun _ => 0))), (q_2, .inl (cJ, 2000, .inr (.inl (fun _ => 0)))), (q_3, .inl (cI, 2000, .inl (fun _ => 0))), (q_4, .inl (cI, 2000, .inl (fun _ => 0))), (q_5, .inl (cI, 2000, .inl (fun _ => 0)))]) H := hP
  have hD : va_D A ([(a, .inr (3, [.int 0, .int 0, .int 0, .ref q_1, .ref q_2, .ref q_3, .ref q_4, .null])), (q_1, .inl (cI, 2000, .inl (fun _ => 0))), (q_2, .inl (cJ, 2000, .inr (.inl (fun _ => 0)))), (q_3, .inl (cI, 2000, .inl (fun _ => 0))), (q_4, .inl (cI, 2000, .inl (fun _ => 0))), (q_5, .inl (cI, 2000, .inl (fun _ => 0)))]) := hD
  refine va_putF (D := (dC, dI)) (ci := 3) (v := .ref q_5) (ty := .array .int) (C := RX3) (T := TX3) (N := 8) hx hb hts (fun w9 h9 => mm (inX3 w9 h9)) tyX3 tyX3_ok nX3 hown hK hP hD hS 0 rfl rfl 7 (by decide) (hts (.fieldLink RX3 23 "ProducerBookModel" "last" "[I") (mm aw_315)) (fun _ h9 => h9) rfl hin rfl (by decide +kernel) rfl rfl (Nat.le_of_ble_eq_true rfl) dX3_init_46 (fun H locs hP hD hS => ?_)
  have hP : va_P (dC, dI) classes ([(a, .inr (3, [.int 0, .int 0, .int 0, .ref q_1, .ref q_2, .ref q_3, .ref q_4, .ref q_5])), (q_1, .inl (cI, 2000, .inl (fun _ => 0))), (q_2, .inl (cJ, 2000, .inr (.inl (fun _ => 0)))), (q_3, .inl (cI, 2000, .inl (fun _ => 0))), (q_4, .inl (cI, 2000, .inl (fun _ => 0))), (q_5, .inl (cI, 2000, .inl (fun _ => 0)))]) H := hP
  have hD : va_D A ([(a, .inr (3, [.int 0, .int 0, .int 0, .ref q_1, .ref q_2, .ref q_3, .ref q_4, .ref q_5])), (q_1, .inl (cI, 2000, .inl (fun _ => 0))), (q_2, .inl (cJ, 2000, .inr (.inl (fun _ => 0)))), (q_3, .inl (cI, 2000, .inl (fun _ => 0))), (q_4, .inl (cI, 2000, .inl (fun _ => 0))), (q_5, .inl (cI, 2000, .inl (fun _ => 0)))]) := hD
  exact xh_vret hx hb hr (fun k => if k = 20 then a else if k = 21 then q_1 else if k = 22 then q_2 else if k = 23 then q_3 else if k = 24 then q_4 else q_5) (rfl) hP hK hD hS dX3_init_49 hlocks

set_option maxHeartbeats 4000000 in
set_option maxRecDepth 100000 in
theorem c_PB_init (l : Launch) (dC : Nat → ClassId) (dI : Nat → Nat → Nat) (cI cJ : ClassId) (a sz : Nat) : Met l yX2_init wsX2_init ({ frames := 2, cells := 9, slots := 12015, locals := 60 } : Room) (va_Pc [.ref a] (fun U => xP (dC, dI) classes [(cI, FieldType.int), (cJ, FieldType.long)] ([(a, .inr (2, [.null, .null]))]) sz U ∧ va_Nw (.methodLinkNest RX2 9 yX1_init RX2) U ∧ va_Nw (.methodLinkNest RX2 18 yX0_init RX2) U)) (va_Qv (fun (u : Nat → Nat) => u 0 = a) (fun u => xB (dC, dI) classes [(cI, FieldType.int), (cJ, FieldType.long)] (va_A ([(a, .inr (2, [.null, .null]))]) sz) ((fun (u : Nat → Nat) => wPB u ++ wLog cI cJ u (fun _ => 0) (fun _ => 0) (fun _ => 0) (fun _ => 0) (fun _ => 0) (fun _ => 0) (nI 0) (nI 0) ++ wKn cI u (nI 0) (fun _ => 0)) u)) (va_A ([(a, .inr (2, [.null, .null]))]) sz)) 9 12015 (va_A ([(a, .inr (2, [.null, .null]))]) sz) := by
  refine Met.ofW (cc := cX2_init) (maxL := 1) (ret := none) (by decide) rfl ?_
  intro p e s m args below meth c s₁ BB hml hv
  obtain ⟨rfl, ⟨hsz, hP, hK, hD0⟩, hx1, hx2⟩ := hv
  have hx := BB.exec
  have hb := BB.bytes
  have hr := BB.returns
  have hts := atoms_spec (ws := wsX2_init) BB.pre
  have hown : s.vm.findClass RX2 = some m.cls := findClass_of_methodNamed BB.named
  have hlocks := BB.notSynchronized
  have hin : meth.name = "<init>" := (name_of_methodNamed BB.named BB.method).1
  subst hsz
  have hD := hD0.self (sz := s.heap.size)
  generalize hAe : va_A ([(a, .inr (2, [.null, .null]))]) s.heap.size = A at hD ⊢
  have hA : ∀ q : Nat, s.heap.size ≤ q → A q := fun q h => by rw [← hAe]; exact Or.inr h
  have hS : va_S A s.heap s.heap [] := va_S.rf
  have hl := lv_entry ([.ref a]) (n := 1) (Nat.le_of_ble_eq_true rfl)
  rw [lg_entry_eq]
  generalize (lg_sl ([.ref a]) ++ List.replicate (1 - (lg_sl ([.ref a])).length) Slot.unset).toArray = ls at hl ⊢
  have hl : lv_has ls 1 [(0, .ref a)] := hl
  have hP : va_P (dC, dI) classes ([(a, .inr (2, [.null, .null]))]) s.heap := hP
  refine lv_aload_n hx hb dX2_init_0 rfl (lv_at hl 0 rfl) ?_
  refine W.objInit hx hb hown (hts (.methodLink RX2 1 objectInit) (mm aw_17)) (hts (.instanceMethod objectInit) (mm aw_18)) (hts (.code objectInit ⟨#[0xb1]⟩ 1 none) (mm aw_19)) rfl (by rw [hml]; exact hl.1) rfl dX2_init_1 (Nat.le_of_ble_eq_true rfl) (Nat.le_of_ble_eq_true rfl) ?_
  refine W.eq (g2 := F0 m 4 ls []) rfl ?_
  refine lv_aload_n hx hb dX2_init_4 rfl (lv_at hl 0 rfl) ?_
  refine va_new (ci := 1) (fs := [.null, .null, .null, .null, .null, .null, .int 0, .int 0]) (C := RX1) (T := TX1) (N := 8) hx hb hts (fun w9 h9 => mm (inX1 w9 h9)) tyX1 tyX1_ok hown (hts (.classLink RX2 7 RX1) (mm aw_20)) (hts (.instantiable RX1 8) (mm aw_21)) (hts (.initialized RX1) (mm aw_2)) hK hP hD hS hA rfl (fun j hj => by rcases (show j = 0 ∨ j = 1 ∨ j = 2 ∨ j = 3 ∨ j = 4 ∨ j = 5 ∨ j = 6 ∨ j = 7 by omega) with rfl | rfl | rfl | rfl | rfl | rfl | rfl | rfl <;> rfl) (Nat.le_of_ble_eq_true rfl) (Nat.le_of_ble_eq_true rfl) dX2_init_5 (fun q_1 H hP hD hS => ?_)
  have hP : va_P (dC, dI) classes ([(a, .inr (2, [.null, .null]))] ++ [(q_1, .inr (1, [.null, .null, .null, .null, .null, .null, .int 0, .int 0]))]) H := hP
  have hD : va_D A ([(a, .inr (2, [.null, .null]))] ++ [(q_1, .inr (1, [.null, .null, .null, .null, .null, .null, .int 0, .int 0]))]) := hD
  refine lv_dup hx hb dX2_init_8 rfl ?_
  refine xh_callv (wc := [(q_1, .inr (1, [.null, .null, .null, .null, .null, .null, .int 0, .int 0]))]) (wr := [(a, .inr (2, [.null, .null]))]) (w1 := fun (u1 : Nat → Nat) => wLog cI cJ u1 (fun _ => 0) (fun _ => 0) (fun _ => 0) (fun _ => 0) (fun _ => 0) (fun _ => 0) (nI 0) (nI 0)) hP hD hS hA [1] [0] rfl rfl (by decide) (by decide) (va_runIN (As := []) (rest := [.ref q_1, .ref a]) ⟨hx, hb, hml, hown, hts⟩ (c_Log_init l dC dI cI cJ q_1 H.size) ⟨va_cnB 0 hts (aw_G aw_24) rfl rfl rfl hx1 (hts (.initialized "ProducerBook$Log") (mm aw_2)) (by decide +kernel) ⟨Nat.le_of_ble_eq_true rfl, Nat.le_of_ble_eq_true rfl⟩, rfl, hts (.instanceMethod yX1_init) (mm aw_23)⟩ (xh_preS (As := [.ref q_1]) hK (hP.sub (ws' := [(q_1, .inr (1, [.null, .null, .null, .null, .null, .null, .int 0, .int 0]))]) [1] rfl) (hD.sub (ws' := [(q_1, .inr (1, [.null, .null, .null, .null, .null, .null, .int 0, .int 0]))]) [1] (by decide) rfl)) rfl rfl hl.1 rfl (lv_room (Nat.le_of_ble_eq_true rfl)) dX2_init_9 ⟨Nat.le_of_ble_eq_true rfl, Nat.le_of_ble_eq_true rfl⟩) (fun u1 H locs hw hP7 hD7 hS7 => ?_)
  subst hw
  have hP : va_P (dC, dI) classes ([(a, .inr (2, [.null, .null]))] ++ wLog cI cJ u1 (fun _ => 0) (fun _ => 0) (fun _ => 0) (fun _ => 0) (fun _ => 0) (fun _ => 0) (nI 0) (nI 0)) H := hP7
  have hD : va_D A ([(a, .inr (2, [.null, .null]))] ++ wLog cI cJ u1 (fun _ => 0) (fun _ => 0) (fun _ => 0) (fun _ => 0) (fun _ => 0) (fun _ => 0) (nI 0) (nI 0)) := hD7
  have hS := hS7
  refine va_putF (D := (dC, dI)) (ci := 2) (v := .ref (u1 1)) (ty := .object "ProducerBook$Log") (C := RX2) (T := TX2) (N := 2) hx hb hts (fun w9 h9 => mm (inX2 w9 h9)) tyX2 tyX2_ok nX2 hown hK hP hD hS 0 rfl rfl 0 (by decide) (hts (.fieldLink RX2 10 "ProducerBook" "log" "LProducerBook$Log;") (mm aw_76)) (fun _ h9 => h9) rfl hin rfl (by decide +kernel) rfl rfl (Nat.le_of_ble_eq_true rfl) dX2_init_12 (fun H locs hP hD hS => ?_)
  have hP : va_P (dC, dI) classes ([(a, .inr (2, [.ref (u1 1), .null]))] ++ wLog cI cJ u1 (fun _ => 0) (fun _ => 0) (fun _ => 0) (fun _ => 0) (fun _ => 0) (fun _ => 0) (nI 0) (nI 0)) H := hP
  have hD : va_D A ([(a, .inr (2, [.ref (u1 1), .null]))] ++ wLog cI cJ u1 (fun _ => 0) (fun _ => 0) (fun _ => 0) (fun _ => 0) (fun _ => 0) (fun _ => 0) (nI 0) (nI 0)) := hD
  refine lv_aload_n hx hb dX2_init_15 rfl (lv_at hl 0 rfl) ?_
  refine va_new (ci := 0) (fs := [.null, .int 0]) (C := RX0) (T := TX0) (N := 2) hx hb hts (fun w9 h9 => mm (inX0 w9 h9)) tyX0 tyX0_ok hown (hts (.classLink RX2 16 RX0) (mm aw_60)) (hts (.instantiable RX0 2) (mm aw_61)) (hts (.initialized RX0) (mm aw_3)) hK hP hD hS hA rfl (fun j hj => by rcases (show j = 0 ∨ j = 1 by omega) with rfl | rfl <;> rfl) (Nat.le_of_ble_eq_true rfl) (Nat.le_of_ble_eq_true rfl) dX2_init_16 (fun q_2 H hP hD hS => ?_)
  have hP : va_P (dC, dI) classes ([(a, .inr (2, [.ref (u1 1), .null]))] ++ wLog cI cJ u1 (fun _ => 0) (fun _ => 0) (fun _ => 0) (fun _ => 0) (fun _ => 0) (fun _ => 0) (nI 0) (nI 0) ++ [(q_2, .inr (0, [.null, .int 0]))]) H := hP
  have hD : va_D A ([(a, .inr (2, [.ref (u1 1), .null]))] ++ wLog cI cJ u1 (fun _ => 0) (fun _ => 0) (fun _ => 0) (fun _ => 0) (fun _ => 0) (fun _ => 0) (nI 0) (nI 0) ++ [(q_2, .inr (0, [.null, .int 0]))]) := hD
  refine lv_dup hx hb dX2_init_19 rfl ?_
  refine xh_callv (wc := [(q_2, .inr (0, [.null, .int 0]))]) (wr := [(a, .inr (2, [.ref (u1 1), .null]))] ++ wLog cI cJ u1 (fun _ => 0) (fun _ => 0) (fun _ => 0) (fun _ => 0) (fun _ => 0) (fun _ => 0) (nI 0) (nI 0)) (w1 := fun (u2 : Nat → Nat) => wKn cI u2 (nI 0) (fun _ => 0)) hP hD hS hA [8] [0, 1, 2, 3, 4, 5, 6, 7] rfl rfl (by decide) (by decide) (va_runIN (As := []) (rest := [.ref q_2, .ref a]) ⟨hx, hb, hml, hown, hts⟩ (c_Kn_init l dC dI cI cJ q_2 H.size) ⟨va_cnB 0 hts (aw_G aw_64) rfl rfl rfl hx2 (hts (.initialized "ProducerBook$Known") (mm aw_3)) (by decide +kernel) ⟨Nat.le_of_ble_eq_true rfl, Nat.le_of_ble_eq_true rfl⟩, rfl, hts (.instanceMethod yX0_init) (mm aw_63)⟩ (xh_preS (As := [.ref q_2]) hK (hP.sub (ws' := [(q_2, .inr (0, [.null, .int 0]))]) [8] rfl) (hD.sub (ws' := [(q_2, .inr (0, [.null, .int 0]))]) [8] (by decide) rfl)) rfl rfl hl.1 rfl (lv_room (Nat.le_of_ble_eq_true rfl)) dX2_init_20 ⟨Nat.le_of_ble_eq_true rfl, Nat.le_of_ble_eq_true rfl⟩) (fun u2 H locs hw hP7 hD7 hS7 => ?_)
  subst hw
  have hP : va_P (dC, dI) classes ([(a, .inr (2, [.ref (u1 1), .null]))] ++ wLog cI cJ u1 (fun _ => 0) (fun _ => 0) (fun _ => 0) (fun _ => 0) (fun _ => 0) (fun _ => 0) (nI 0) (nI 0) ++ wKn cI u2 (nI 0) (fun _ => 0)) H := hP7
  have hD : va_D A ([(a, .inr (2, [.ref (u1 1), .null]))] ++ wLog cI cJ u1 (fun _ => 0) (fun _ => 0) (fun _ => 0) (fun _ => 0) (fun _ => 0) (fun _ => 0) (nI 0) (nI 0) ++ wKn cI u2 (nI 0) (fun _ => 0)) := hD7
  have hS := hS7
  refine va_putF (D := (dC, dI)) (ci := 2) (v := .ref (u2 8)) (ty := .object "ProducerBook$Known") (C := RX2) (T := TX2) (N := 2) hx hb hts (fun w9 h9 => mm (inX2 w9 h9)) tyX2 tyX2_ok nX2 hown hK hP hD hS 0 rfl rfl 1 (by decide) (hts (.fieldLink RX2 19 "ProducerBook" "recalled" "LProducerBook$Known;") (mm aw_77)) (fun _ h9 => h9) rfl hin rfl (by decide +kernel) rfl rfl (Nat.le_of_ble_eq_true rfl) dX2_init_23 (fun H locs hP hD hS => ?_)
  have hP : va_P (dC, dI) classes ([(a, .inr (2, [.ref (u1 1), .ref (u2 8)]))] ++ wLog cI cJ u1 (fun _ => 0) (fun _ => 0) (fun _ => 0) (fun _ => 0) (fun _ => 0) (fun _ => 0) (nI 0) (nI 0) ++ wKn cI u2 (nI 0) (fun _ => 0)) H := hP
  have hD : va_D A ([(a, .inr (2, [.ref (u1 1), .ref (u2 8)]))] ++ wLog cI cJ u1 (fun _ => 0) (fun _ => 0) (fun _ => 0) (fun _ => 0) (fun _ => 0) (fun _ => 0) (nI 0) (nI 0) ++ wKn cI u2 (nI 0) (fun _ => 0)) := hD
  exact xh_vret hx hb hr (fun k => if k = 0 then a else if k < 8 then u1 k else u2 k) (rfl) hP hK hD hS dX2_init_26 hlocks
