set_option maxHeartbeats 4000000 in
set_option maxRecDepth 100000 in
/-- removeUnknown(): those with newer < 5 stay, in their order -/
theorem c_Log_removeUnknown (l : Launch) (dC : Nat → ClassId) (dI : Nat → Nat → Nat) (cI cJ : ClassId) (h : Nat → Nat) (sz : Nat) (B : Nat → Int32) (P : Nat → Int64) (E S L N : Nat → Int32) (n ed : Nat) (hn : n ≤ 2000) : Met l yX1_removeUnknown wsX1_removeUnknown ({ frames := 2, cells := 0, slots := 0, locals := 90 } : Room) (va_Pc [.ref (h 1)] (xP (dC, dI) classes [(cI, FieldType.int), (cJ, FieldType.long)] (wLog cI cJ h B P E S L N (nI n) (nI ed)) sz)) (va_Qi (fun (r : Int32) (u : (Nat → Int32) × (Nat → Int64) × (Nat → Int32) × (Nat → Int32) × (Nat → Int32) × (Nat → Int32)) => r = nI (n - pb_kn N n) ∧ pb_cm N n B u.1 ∧ pb_cm N n P u.2.1 ∧ pb_cm N n E u.2.2.1 ∧ pb_cm N n S u.2.2.2.1 ∧ pb_cm N n L u.2.2.2.2.1 ∧ pb_cm N n N u.2.2.2.2.2) (fun u => xB (dC, dI) classes [(cI, FieldType.int), (cJ, FieldType.long)] (va_A (wLog cI cJ h B P E S L N (nI n) (nI ed)) sz) ((fun (u : (Nat → Int32) × (Nat → Int64) × (Nat → Int32) × (Nat → Int32) × (Nat → Int32) × (Nat → Int32)) => wLog cI cJ h u.1 u.2.1 u.2.2.1 u.2.2.2.1 u.2.2.2.2.1 u.2.2.2.2.2 (nI (pb_kn N n)) (nI ed)) u)) (va_A (wLog cI cJ h B P E S L N (nI n) (nI ed)) sz)) 0 0 (va_A (wLog cI cJ h B P E S L N (nI n) (nI ed)) sz) := by
  refine Met.ofW (cc := cX1_removeUnknown) (maxL := 3) (ret := (some .int)) (by decide) rfl ?_
  intro p e s m args below meth c s₁ BB hml hv
  obtain ⟨rfl, hsz, hP, hK, hD0⟩ := hv
  have hx := BB.exec
  have hb := BB.bytes
  have hr := BB.returns
  have hts := atoms_spec (ws := wsX1_removeUnknown) BB.pre
  have hown : s.vm.findClass RX1 = some m.cls := findClass_of_methodNamed BB.named
  have hlocks := BB.notSynchronized
  subst hsz
  have hD := hD0.self (sz := s.heap.size)
  generalize hAe : va_A (wLog cI cJ h B P E S L N (nI n) (nI ed)) s.heap.size = A at hD ⊢
  have hA : ∀ q : Nat, s.heap.size ≤ q → A q := fun q h => by rw [← hAe]; exact Or.inr h
  have hS : va_S A s.heap s.heap [] := va_S.rf
  have hl := lv_entry ([.ref (h 1)]) (n := 3) (Nat.le_of_ble_eq_true rfl)
  rw [lg_entry_eq]
  generalize (lg_sl ([.ref (h 1)]) ++ List.replicate (3 - (lg_sl ([.ref (h 1)])).length) Slot.unset).toArray = ls at hl ⊢
  have hl : lv_has ls 3 [(0, .ref (h 1))] := hl
  have hP : va_P (dC, dI) classes (wLog cI cJ h B P E S L N (nI n) (nI ed)) s.heap := hP
  have lp4 : ∀ (fuel : Nat) (i : Nat) (B2 : Nat → Int32) (P2 : Nat → Int64) (E2 : Nat → Int32) (S2 : Nat → Int32) (L2 : Nat → Int32) (N2 : Nat → Int32) (H : Heap) (locs : List Loc) (ls : Array Slot), (i ≤ n) → (pb_cm N i B B2) → (pb_cm N i P P2) → (pb_cm N i E E2) → (pb_cm N i S S2) → (pb_cm N i L L2) → (pb_cm N i N N2) → n - i < fuel → va_P (dC, dI) classes (wLog cI cJ h B2 P2 E2 S2 L2 N2 (nI n) (nI ed)) H → va_D A (wLog cI cJ h B2 P2 E2 S2 L2 N2 (nI n) (nI ed)) → va_S A s.heap H locs → lv_has ls 3 [(0, .ref (h 1)), (1, .int (nI (pb_kn N i))), (2, .int (nI i))] → W p l e ({ frames := 2, cells := 0, slots := 0, locals := 90 } : Room) s m ([.ref (h 1)] : List Value).toArray below meth c H locs 0 0 (MQ below (va_Qi (fun (r : Int32) (u : (Nat → Int32) × (Nat → Int64) × (Nat → Int32) × (Nat → Int32) × (Nat → Int32) × (Nat → Int32)) => r = nI (n - pb_kn N n) ∧ pb_cm N n B u.1 ∧ pb_cm N n P u.2.1 ∧ pb_cm N n E u.2.2.1 ∧ pb_cm N n S u.2.2.2.1 ∧ pb_cm N n L u.2.2.2.2.1 ∧ pb_cm N n N u.2.2.2.2.2) (fun u => xB (dC, dI) classes [(cI, FieldType.int), (cJ, FieldType.long)] A ((fun (u : (Nat → Int32) × (Nat → Int64) × (Nat → Int32) × (Nat → Int32) × (Nat → Int32) × (Nat → Int32)) => wLog cI cJ h u.1 u.2.1 u.2.2.1 u.2.2.2.1 u.2.2.2.2.1 u.2.2.2.2.2 (nI (pb_kn N n)) (nI ed)) u)) A) ([.ref (h 1)] : List Value).toArray s 0 0 A) (F0 m 4 ls []) := by
    intro fuel
    induction fuel with
    | zero => intro i B2 P2 E2 S2 L2 N2 H locs ls hi hB hP9 hE hS9 hL hN9 hfuel; exact absurd hfuel (Nat.not_lt_zero _)
    | succ fuel ih =>
      intro i B2 P2 E2 S2 L2 N2 H locs ls hi hB hP9 hE hS9 hL hN9 hfuel hP hD hS hl
      have hkl := pb_kn_le N i
      refine lv_iload_n hx hb dX1_removeUnknown_4 rfl (lv_at hl 2 rfl) ?_
      refine lv_aload_n hx hb dX1_removeUnknown_5 rfl (lv_at hl 0 rfl) ?_
      refine va_get (D := (dC, dI)) (ci := 1) (v := .int (nI n)) (C := RX1) (T := TX1) (N := 8) hx hb hts (fun w9 h9 => mm (inX1 w9 h9)) hown hK hP 0 rfl rfl 6 (by decide) (hts (.fieldLink RX1 31 "ProducerBook$Log" "size" "I") (mm aw_37)) (fun _ h9 => h9) rfl dX1_removeUnknown_6 ?_
      refine lv_icmp_ge (tgt := 41) hx hb dX1_removeUnknown_9 (by decide) (fun c_9 => ?_) (fun c_9 => ?_)
      · have c1 := (nI_leI (by omega) (by omega)).mp c_9
        obtain rfl : i = n := by omega
        refine lv_aload_n hx hb dX1_removeUnknown_41 rfl (lv_at hl 0 rfl) ?_
        refine va_get (D := (dC, dI)) (ci := 1) (v := .int (nI i)) (C := RX1) (T := TX1) (N := 8) hx hb hts (fun w9 h9 => mm (inX1 w9 h9)) hown hK hP 0 rfl rfl 6 (by decide) (hts (.fieldLink RX1 31 "ProducerBook$Log" "size" "I") (mm aw_37)) (fun _ h9 => h9) rfl dX1_removeUnknown_42 ?_
        refine lv_iload_n hx hb dX1_removeUnknown_45 rfl (lv_at hl 1 rfl) ?_
        refine lv_isub hx hb dX1_removeUnknown_46 ?_
        refine xh_topi (z := nI (i - pb_kn N i)) (pk_sub hkl) ?_
        refine lv_istore_n (lv' := [(2, .int (nI (i - pb_kn N i))), (0, .ref (h 1)), (1, .int (nI (pb_kn N i)))]) hx hb dX1_removeUnknown_47 rfl hl (by decide) rfl (fun ls hl => ?_)
        refine lv_aload_n hx hb dX1_removeUnknown_48 rfl (lv_at hl 1 rfl) ?_
        refine lv_iload_n hx hb dX1_removeUnknown_49 rfl (lv_at hl 2 rfl) ?_
        refine va_put (D := (dC, dI)) (ci := 1) (v := .int (nI (pb_kn N i))) (ty := .int) (C := RX1) (T := TX1) (N := 8) hx hb hts (fun w9 h9 => mm (inX1 w9 h9)) tyX1 tyX1_ok nX1 hown hK hP hD hS 0 rfl rfl 6 (by decide) (hts (.fieldLink RX1 31 "ProducerBook$Log" "size" "I") (mm aw_37)) (fun _ h9 => h9) rfl (by decide +kernel) rfl rfl (Nat.le_of_ble_eq_true rfl) dX1_removeUnknown_50 (fun H locs hP hD hS => ?_)
        have hP : va_P (dC, dI) classes (wLog cI cJ h B2 P2 E2 S2 L2 N2 (nI (pb_kn N i)) (nI ed)) H := hP
        have hD : va_D A (wLog cI cJ h B2 P2 E2 S2 L2 N2 (nI (pb_kn N i)) (nI ed)) := hD
        refine lv_iload_n hx hb dX1_removeUnknown_53 rfl (lv_at hl 0 rfl) ?_
        exact xh_iret hx hb hr ((B2, P2, E2, S2, L2, N2)) (⟨rfl, hB, hP9, hE, hS9, hL, hN9⟩) hP hK hD hS dX1_removeUnknown_54 hlocks
      · have c1 : i < n := Nat.lt_of_not_le fun g => c_9 ((nI_leI (by omega) (by omega)).mpr g)
        refine lv_aload_n hx hb dX1_removeUnknown_12 rfl (lv_at hl 0 rfl) ?_
        refine lv_iload_n hx hb dX1_removeUnknown_13 rfl (lv_at hl 2 rfl) ?_
        refine xh_calli (wc := wLog cI cJ h B2 P2 E2 S2 L2 N2 (nI n) (nI ed)) (wr := []) (w1 := fun (u : Unit) => wLog cI cJ h B2 P2 E2 S2 L2 N2 (nI n) (nI ed)) hP hD hS hA [0, 1, 2, 3, 4, 5, 6] [] rfl rfl (by decide) (by decide) (va_runV (As := [.int (nI i)]) (rest := []) ⟨hx, hb, hml, hown, hts⟩ (c_Log_isKnown l dC dI cI cJ h H.size B2 P2 E2 S2 L2 N2 n ed i (by omega)) (cwV 1 hts (aw_V aw_91 aw_92 aw_93 aw_2 aw_94) rfl rfl rfl (by decide +kernel) ⟨Nat.le_of_ble_eq_true rfl, Nat.le_of_ble_eq_true rfl⟩) (xh_preV (r0 := 0) hK (hP.sub (ws' := wLog cI cJ h B2 P2 E2 S2 L2 N2 (nI n) (nI ed)) [0, 1, 2, 3, 4, 5, 6] rfl) (hD.sub (ws' := wLog cI cJ h B2 P2 E2 S2 L2 N2 (nI n) (nI ed)) [0, 1, 2, 3, 4, 5, 6] (by decide) rfl) rfl rfl rfl) rfl rfl hl.1 rfl (lv_room (Nat.le_of_ble_eq_true rfl)) dX1_removeUnknown_14 ⟨Nat.le_of_ble_eq_true rfl, Nat.le_of_ble_eq_true rfl⟩) (fun r_1 u H locs hw hP hD hS => ?_)
        have hP : va_P (dC, dI) classes (wLog cI cJ h B2 P2 E2 S2 L2 N2 (nI n) (nI ed)) H := hP
        have hD : va_D A (wLog cI cJ h B2 P2 E2 S2 L2 N2 (nI n) (nI ed)) := hD
        rw [hN9.2 i (Nat.le_refl i)] at hw
        rcases hw with ⟨hk5, rfl⟩ | ⟨hk5, rfl⟩
        · have hy := pb_kn_y hk5
          refine lv_if_eq (tgt := 35) hx hb dX1_removeUnknown_17 (by decide) (fun c_17 => ?_) (fun c_17 => ?_)
          · exact absurd c_17 (by decide)
          · refine lv_iload_n hx hb dX1_removeUnknown_20 rfl (lv_at hl 1 rfl) ?_
            refine lv_iload_n hx hb dX1_removeUnknown_21 rfl (lv_at hl 2 rfl) ?_
            refine lv_icmp_ge (tgt := 32) hx hb dX1_removeUnknown_22 (by decide) (fun c_22 => ?_) (fun c_22 => ?_)
            · have c2 := (nI_leI (by omega) (by omega)).mp c_22
              refine lv_iinc (v := nI (pb_kn N (i + 1))) (lv' := [(1, .int (nI (pb_kn N (i + 1)))), (0, .ref (h 1)), (2, .int (nI i))]) hx hb dX1_removeUnknown_32 hl (k := 1) rfl (by rw [hy]; exact nI_1 _) (by decide) rfl (fun ls hl => ?_)
              refine lv_iinc (v := nI (i + 1)) (lv' := [(2, .int (nI (i + 1))), (1, .int (nI (pb_kn N (i + 1)))), (0, .ref (h 1))]) hx hb dX1_removeUnknown_35 hl (k := 2) rfl (by exact nI_1 i) (by decide) rfl (fun ls hl => ?_)
              refine lv_goto (tgt := 4) hx hb dX1_removeUnknown_38 (by decide) ?_
              exact ih (i + 1) B2 P2 E2 S2 L2 N2 _ _ _ (by omega) (pb_cm_same hB (by omega)) (pb_cm_same hP9 (by omega)) (pb_cm_same hE (by omega)) (pb_cm_same hS9 (by omega)) (pb_cm_same hL (by omega)) (pb_cm_same hN9 (by omega)) (by omega) hP hD hS (lv_sub hl [2, 1, 0] rfl)
            · have c2 : pb_kn N i < i := Nat.lt_of_not_le fun g => c_22 ((nI_leI (by omega) (by omega)).mpr g)
              refine lv_aload_n hx hb dX1_removeUnknown_25 rfl (lv_at hl 0 rfl) ?_
              refine lv_iload_n hx hb dX1_removeUnknown_26 rfl (lv_at hl 2 rfl) ?_
              refine lv_iload_n hx hb dX1_removeUnknown_27 rfl (lv_at hl 1 rfl) ?_
              refine lv_iconst (v := nI 1) hx hb dX1_removeUnknown_28 (by decide +kernel) ?_
              refine xh_callv (wc := wLog cI cJ h B2 P2 E2 S2 L2 N2 (nI n) (nI ed)) (wr := []) (w1 := fun (u : Unit) => wLog cI cJ h (va_cpy B2 B2 i (pb_kn N i) 1) (va_cpy P2 P2 i (pb_kn N i) 1) (va_cpy E2 E2 i (pb_kn N i) 1) (va_cpy S2 S2 i (pb_kn N i) 1) (va_cpy L2 L2 i (pb_kn N i) 1) (va_cpy N2 N2 i (pb_kn N i) 1) (nI n) (nI ed)) hP hD hS hA [0, 1, 2, 3, 4, 5, 6] [] rfl rfl (by decide) (by decide) (va_runV (As := [.int (nI i), .int (nI (pb_kn N i)), .int (nI 1)]) (rest := []) ⟨hx, hb, hml, hown, hts⟩ (c_Log_move l dC dI cI cJ h H.size B2 P2 E2 S2 L2 N2 n ed i (pb_kn N i) 1 (by omega) (by omega)) (cwV 3 hts (aw_V aw_95 aw_97 aw_s0 aw_2 aw_98) rfl rfl rfl (by decide +kernel) ⟨Nat.le_of_ble_eq_true rfl, Nat.le_of_ble_eq_true rfl⟩) (xh_preV (r0 := 0) hK (hP.sub (ws' := wLog cI cJ h B2 P2 E2 S2 L2 N2 (nI n) (nI ed)) [0, 1, 2, 3, 4, 5, 6] rfl) (hD.sub (ws' := wLog cI cJ h B2 P2 E2 S2 L2 N2 (nI n) (nI ed)) [0, 1, 2, 3, 4, 5, 6] (by decide) rfl) rfl rfl rfl) rfl rfl hl.1 rfl (lv_room (Nat.le_of_ble_eq_true rfl)) dX1_removeUnknown_29 ⟨Nat.le_of_ble_eq_true rfl, Nat.le_of_ble_eq_true rfl⟩) (fun  u H locs hw hP hD hS => ?_)
              have hP : va_P (dC, dI) classes (wLog cI cJ h (va_cpy B2 B2 i (pb_kn N i) 1) (va_cpy P2 P2 i (pb_kn N i) 1) (va_cpy E2 E2 i (pb_kn N i) 1) (va_cpy S2 S2 i (pb_kn N i) 1) (va_cpy L2 L2 i (pb_kn N i) 1) (va_cpy N2 N2 i (pb_kn N i) 1) (nI n) (nI ed)) H := hP
              have hD : va_D A (wLog cI cJ h (va_cpy B2 B2 i (pb_kn N i) 1) (va_cpy P2 P2 i (pb_kn N i) 1) (va_cpy E2 E2 i (pb_kn N i) 1) (va_cpy S2 S2 i (pb_kn N i) 1) (va_cpy L2 L2 i (pb_kn N i) 1) (va_cpy N2 N2 i (pb_kn N i) 1) (nI n) (nI ed)) := hD
              refine lv_iinc (v := nI (pb_kn N (i + 1))) (lv' := [(1, .int (nI (pb_kn N (i + 1)))), (0, .ref (h 1)), (2, .int (nI i))]) hx hb dX1_removeUnknown_32 hl (k := 1) rfl (by rw [hy]; exact nI_1 _) (by decide) rfl (fun ls hl => ?_)
              refine lv_iinc (v := nI (i + 1)) (lv' := [(2, .int (nI (i + 1))), (1, .int (nI (pb_kn N (i + 1)))), (0, .ref (h 1))]) hx hb dX1_removeUnknown_35 hl (k := 2) rfl (by exact nI_1 i) (by decide) rfl (fun ls hl => ?_)
              refine lv_goto (tgt := 4) hx hb dX1_removeUnknown_38 (by decide) ?_
              exact ih (i + 1) (va_cpy B2 B2 i (pb_kn N i) 1) (va_cpy P2 P2 i (pb_kn N i) 1) (va_cpy E2 E2 i (pb_kn N i) 1) (va_cpy S2 S2 i (pb_kn N i) 1) (va_cpy L2 L2 i (pb_kn N i) 1) (va_cpy N2 N2 i (pb_kn N i) 1) _ _ _ (by omega) (pb_cm_mv hB hk5) (pb_cm_mv hP9 hk5) (pb_cm_mv hE hk5) (pb_cm_mv hS9 hk5) (pb_cm_mv hL hk5) (pb_cm_mv hN9 hk5) (by omega) hP hD hS (lv_sub hl [2, 1, 0] rfl)
        · have hy := pb_kn_n hk5
          refine lv_if_eq (tgt := 35) hx hb dX1_removeUnknown_17 (by decide) (fun c_17 => ?_) (fun c_17 => ?_)
          · refine lv_iinc (v := nI (i + 1)) (lv' := [(2, .int (nI (i + 1))), (0, .ref (h 1)), (1, .int (nI (pb_kn N i)))]) hx hb dX1_removeUnknown_35 hl (k := 2) rfl (by exact nI_1 i) (by decide) rfl (fun ls hl => ?_)
            refine lv_goto (tgt := 4) hx hb dX1_removeUnknown_38 (by decide) ?_
            rw [← hy] at hl
            exact ih (i + 1) B2 P2 E2 S2 L2 N2 _ _ _ (by omega) (pb_cm_un hB hk5) (pb_cm_un hP9 hk5) (pb_cm_un hE hk5) (pb_cm_un hS9 hk5) (pb_cm_un hL hk5) (pb_cm_un hN9 hk5) (by omega) hP hD hS (lv_sub hl [1, 2, 0] rfl)
          · exact absurd (show nI 0 = 0 by decide) c_17
  refine lv_iconst (v := nI 0) hx hb dX1_removeUnknown_0 (by decide +kernel) ?_
  refine lv_istore_n (lv' := [(1, .int (nI 0)), (0, .ref (h 1))]) hx hb dX1_removeUnknown_1 rfl hl (by decide) rfl (fun ls hl => ?_)
  refine lv_iconst (v := nI 0) hx hb dX1_removeUnknown_2 (by decide +kernel) ?_
  refine lv_istore_n (lv' := [(2, .int (nI 0)), (1, .int (nI 0)), (0, .ref (h 1))]) hx hb dX1_removeUnknown_3 rfl hl (by decide) rfl (fun ls hl => ?_)
  exact lp4 (n + 1) 0 B P E S L N _ _ _ (Nat.zero_le n) (pb_cm_0 N _) (pb_cm_0 N _) (pb_cm_0 N _) (pb_cm_0 N _) (pb_cm_0 N _) (pb_cm_0 N _) (by omega) hP hD hS (lv_sub hl [2, 1, 0] rfl)

set_option maxHeartbeats 4000000 in
set_option maxRecDepth 100000 in
/-- append: no room, or the batch comes in -/
theorem c_Log_append (l : Launch) (dC : Nat → ClassId) (dI : Nat → Nat → Nat) (cI cJ : ClassId) (h : Nat → Nat) (sz : Nat) (B : Nat → Int32) (P : Nat → Int64) (E S L N : Nat → Int32) (n ed : Nat) (q : Nat) (F : Nat → Int32) (ks : Nat → Nat) (pr : Int64) (ep sq : Int32) (a : Nat) (hn : n ≤ 2000) (hed : ed ≤ 1000000) (ha : a ≤ 999) (hq : q ≤ 5) (hF : ∀ j, j < q → F j = nI (ks j) ∧ ks j < 2000) : Met l yX1_append wsX1_append ({ frames := 2, cells := 0, slots := 0, locals := 100 } : Room) (va_Pc [.ref (h 1), .ref (h 8), .long pr, .int ep, .int sq, .int (nI a)] (xP (dC, dI) classes [(cI, FieldType.int), (cJ, FieldType.long)] (wLog cI cJ h B P E S L N (nI n) (nI ed) ++ wKn cI h (nI q) F) sz)) (va_Qi (fun (r : Int32) (u : Option (Nat → Int32)) => match u with | none => ¬ (n + 1 ≤ 2000 ∧ ed + (a + 1) ≤ 1000000) ∧ r = -1 | some G => (n + 1 ≤ 2000 ∧ ed + (a + 1) ≤ 1000000) ∧ r = nI ed ∧ (pr ≠ -1 → G 0 = nI n ∧ ∀ j, 0 < j → j < min 5 (q + 1) → G j = F (j - 1))) (fun u => xB (dC, dI) classes [(cI, FieldType.int), (cJ, FieldType.long)] (va_A (wLog cI cJ h B P E S L N (nI n) (nI ed) ++ wKn cI h (nI q) F) sz) ((fun (u : Option (Nat → Int32)) => match u with | none => wLog cI cJ h B P E S L N (nI n) (nI ed) ++ wKn cI h (nI q) F | some G => wLog cI cJ h (upd B n (nI ed)) (vp_updL P n pr) (upd E n ep) (upd S n sq) (upd L n (nI a)) (if pr = -1 then upd N n (nI 5) else upd (pb_inc N ks q) n (nI 0)) (nI (n + 1)) (nI (ed + (a + 1))) ++ wKn cI h (nI (if pr = -1 then q else min 5 (q + 1))) G) u)) (va_A (wLog cI cJ h B P E S L N (nI n) (nI ed) ++ wKn cI h (nI q) F) sz)) 0 0 (va_A (wLog cI cJ h B P E S L N (nI n) (nI ed) ++ wKn cI h (nI q) F) sz) := by
  refine Met.ofW (cc := cX1_append) (maxL := 8) (ret := (some .int)) (by decide) rfl ?_
  intro p e s m args below meth c s₁ BB hml hv
  obtain ⟨rfl, hsz, hP, hK, hD0⟩ := hv
  have hx := BB.exec
  have hb := BB.bytes
  have hr := BB.returns
  have hts := atoms_spec (ws := wsX1_append) BB.pre
  have hown : s.vm.findClass RX1 = some m.cls := findClass_of_methodNamed BB.named
  have hlocks := BB.notSynchronized
  subst hsz
  have hD := hD0.self (sz := s.heap.size)
  generalize hAe : va_A (wLog cI cJ h B P E S L N (nI n) (nI ed) ++ wKn cI h (nI q) F) s.heap.size = A at hD ⊢
  have hA : ∀ q : Nat, s.heap.size ≤ q → A q := fun q h => by rw [← hAe]; exact Or.inr h
  have hS : va_S A s.heap s.heap [] := va_S.rf
  have hl := lv_entry ([.ref (h 1), .ref (h 8), .long pr, .int ep, .int sq, .int (nI a)]) (n := 8) (Nat.le_of_ble_eq_true rfl)
  rw [lg_entry_eq]
  generalize (lg_sl ([.ref (h 1), .ref (h 8), .long pr, .int ep, .int sq, .int (nI a)]) ++ List.replicate (8 - (lg_sl ([.ref (h 1), .ref (h 8), .long pr, .int ep, .int sq, .int (nI a)])).length) Slot.unset).toArray = ls at hl ⊢
  have hl : lv_has ls 8 [(0, .ref (h 1)), (1, .ref (h 8)), (2, .long pr), (4, .int ep), (5, .int sq), (6, .int (nI a))] := hl
  have hP : va_P (dC, dI) classes (wLog cI cJ h B P E S L N (nI n) (nI ed) ++ wKn cI h (nI q) F) s.heap := hP
  refine lv_aload_n hx hb dX1_append_0 rfl (lv_at hl 0 rfl) ?_
  refine lv_iconst (v := nI 1) hx hb dX1_append_1 (by decide +kernel) ?_
  refine lv_iload hx hb dX1_append_2 (lv_at hl 5 rfl) ?_
  refine xh_calli (wc := wLog cI cJ h B P E S L N (nI n) (nI ed)) (wr := wKn cI h (nI q) F) (w1 := fun (u : Unit) => wLog cI cJ h B P E S L N (nI n) (nI ed)) hP hD hS hA [0, 1, 2, 3, 4, 5, 6] [7, 8] rfl rfl (by decide) (by decide) (va_runV (As := [.int (nI 1), .int (nI a)]) (rest := []) ⟨hx, hb, hml, hown, hts⟩ (c_Log_hasRoom l dC dI cI cJ h s.heap.size B P E S L N n ed 1 a hn hed (by omega) ha) (cwV 2 hts (aw_V aw_214 aw_215 aw_216 aw_2 aw_217) rfl rfl rfl (by decide +kernel) ⟨Nat.le_of_ble_eq_true rfl, Nat.le_of_ble_eq_true rfl⟩) (xh_preV (r0 := 0) hK (hP.sub (ws' := wLog cI cJ h B P E S L N (nI n) (nI ed)) [0, 1, 2, 3, 4, 5, 6] rfl) (hD.sub (ws' := wLog cI cJ h B P E S L N (nI n) (nI ed)) [0, 1, 2, 3, 4, 5, 6] (by decide) rfl) rfl rfl rfl) rfl rfl hl.1 rfl (lv_room (Nat.le_of_ble_eq_true rfl)) dX1_append_4 ⟨Nat.le_of_ble_eq_true rfl, Nat.le_of_ble_eq_true rfl⟩) (fun r_1 u H locs hw hP hD hS => ?_)
  have hP := hP.sub (ws' := wLog cI cJ h B P E S L N (nI n) (nI ed) ++ wKn cI h (nI q) F) [2, 3, 4, 5, 6, 7, 8, 0, 1] rfl
  have hD := hD.sub (ws' := wLog cI cJ h B P E S L N (nI n) (nI ed) ++ wKn cI h (nI q) F) [2, 3, 4, 5, 6, 7, 8, 0, 1] (by decide) rfl
  have hP : va_P (dC, dI) classes (wLog cI cJ h B P E S L N (nI n) (nI ed) ++ wKn cI h (nI q) F) H := hP
  have hD : va_D A (wLog cI cJ h B P E S L N (nI n) (nI ed) ++ wKn cI h (nI q) F) := hD
  rcases hw with ⟨hk5, rfl⟩ | ⟨hk5, rfl⟩
  · have hr1 : n + 1 ≤ 2000 := hk5.1
    have hr2 : ed + (a + 1) ≤ 1000000 := by have := hk5.2; omega
    refine lv_if_ne (tgt := 12) hx hb dX1_append_7 (by decide) (fun c_7 => ?_) (fun c_7 => ?_)
    · refine lv_aload_n hx hb dX1_append_12 rfl (lv_at hl 0 rfl) ?_
      refine va_get (D := (dC, dI)) (ci := 1) (v := .int (nI n)) (C := RX1) (T := TX1) (N := 8) hx hb hts (fun w9 h9 => mm (inX1 w9 h9)) hown hK hP 0 rfl rfl 6 (by decide) (hts (.fieldLink RX1 31 "ProducerBook$Log" "size" "I") (mm aw_37)) (fun _ h9 => h9) rfl dX1_append_13 ?_
      refine lv_istore (lv' := [(7, .int (nI n)), (0, .ref (h 1)), (1, .ref (h 8)), (2, .long pr), (4, .int ep), (5, .int sq), (6, .int (nI a))]) hx hb dX1_append_16 hl (by decide) rfl (fun ls hl => ?_)
      refine lv_aload_n hx hb dX1_append_18 rfl (lv_at hl 1 rfl) ?_
      refine va_get (D := (dC, dI)) (ci := 1) (v := .ref (h 2)) (C := RX1) (T := TX1) (N := 8) hx hb hts (fun w9 h9 => mm (inX1 w9 h9)) hown hK hP 0 rfl rfl 0 (by decide) (hts (.fieldLink RX1 9 "ProducerBook$Log" "base" "[I") (mm aw_26)) (fun _ h9 => h9) rfl dX1_append_19 ?_
      refine lv_iload hx hb dX1_append_22 (lv_at hl 0 rfl) ?_
      refine lv_aload_n hx hb dX1_append_24 rfl (lv_at hl 1 rfl) ?_
      refine va_get (D := (dC, dI)) (ci := 1) (v := .int (nI ed)) (C := RX1) (T := TX1) (N := 8) hx hb hts (fun w9 h9 => mm (inX1 w9 h9)) hown hK hP 0 rfl rfl 7 (by decide) (hts (.fieldLink RX1 35 "ProducerBook$Log" "end" "I") (mm aw_39)) (fun _ h9 => h9) rfl dX1_append_25 ?_
      refine xh_iast hx hb hK hP hD hS 1 0 rfl rfl (k := n) (by omega) (by decide) dX1_append_28 (fun H locs hP hD hS => ?_)
      have hP : va_P (dC, dI) classes (wLog cI cJ h (upd B n (nI ed)) P E S L N (nI n) (nI ed) ++ wKn cI h (nI q) F) H := hP
      have hD : va_D A (wLog cI cJ h (upd B n (nI ed)) P E S L N (nI n) (nI ed) ++ wKn cI h (nI q) F) := hD
      refine lv_aload_n hx hb dX1_append_29 rfl (lv_at hl 1 rfl) ?_
      refine va_get (D := (dC, dI)) (ci := 1) (v := .ref (h 3)) (C := RX1) (T := TX1) (N := 8) hx hb hts (fun w9 h9 => mm (inX1 w9 h9)) hown hK hP 0 rfl rfl 1 (by decide) (hts (.fieldLink RX1 15 "ProducerBook$Log" "producer" "[J") (mm aw_28)) (fun _ h9 => h9) rfl dX1_append_30 ?_
      refine lv_iload hx hb dX1_append_33 (lv_at hl 0 rfl) ?_
      refine lv_lload_n hx hb dX1_append_35 rfl (lv_at hl 3 rfl) ?_
      refine xh_last hx hb hK hP hD hS 2 1 rfl rfl (k := n) (by omega) (by decide) dX1_append_36 (fun H locs hP hD hS => ?_)
      have hP : va_P (dC, dI) classes (wLog cI cJ h (upd B n (nI ed)) (vp_updL P n pr) E S L N (nI n) (nI ed) ++ wKn cI h (nI q) F) H := hP
      have hD : va_D A (wLog cI cJ h (upd B n (nI ed)) (vp_updL P n pr) E S L N (nI n) (nI ed) ++ wKn cI h (nI q) F) := hD
      refine lv_aload_n hx hb dX1_append_37 rfl (lv_at hl 1 rfl) ?_
      refine va_get (D := (dC, dI)) (ci := 1) (v := .ref (h 4)) (C := RX1) (T := TX1) (N := 8) hx hb hts (fun w9 h9 => mm (inX1 w9 h9)) hown hK hP 0 rfl rfl 2 (by decide) (hts (.fieldLink RX1 19 "ProducerBook$Log" "epoch" "[I") (mm aw_30)) (fun _ h9 => h9) rfl dX1_append_38 ?_
      refine lv_iload hx hb dX1_append_41 (lv_at hl 0 rfl) ?_
      refine lv_iload hx hb dX1_append_43 (lv_at hl 4 rfl) ?_
      refine xh_iast hx hb hK hP hD hS 3 0 rfl rfl (k := n) (by omega) (by decide) dX1_append_45 (fun H locs hP hD hS => ?_)
      have hP : va_P (dC, dI) classes (wLog cI cJ h (upd B n (nI ed)) (vp_updL P n pr) (upd E n ep) S L N (nI n) (nI ed) ++ wKn cI h (nI q) F) H := hP
      have hD : va_D A (wLog cI cJ h (upd B n (nI ed)) (vp_updL P n pr) (upd E n ep) S L N (nI n) (nI ed) ++ wKn cI h (nI q) F) := hD
      refine lv_aload_n hx hb dX1_append_46 rfl (lv_at hl 1 rfl) ?_
      refine va_get (D := (dC, dI)) (ci := 1) (v := .ref (h 5)) (C := RX1) (T := TX1) (N := 8) hx hb hts (fun w9 h9 => mm (inX1 w9 h9)) hown hK hP 0 rfl rfl 3 (by decide) (hts (.fieldLink RX1 22 "ProducerBook$Log" "sequence" "[I") (mm aw_32)) (fun _ h9 => h9) rfl dX1_append_47 ?_
      refine lv_iload hx hb dX1_append_50 (lv_at hl 0 rfl) ?_
      refine lv_iload hx hb dX1_append_52 (lv_at hl 5 rfl) ?_
      refine xh_iast hx hb hK hP hD hS 4 0 rfl rfl (k := n) (by omega) (by decide) dX1_append_54 (fun H locs hP hD hS => ?_)
      have hP : va_P (dC, dI) classes (wLog cI cJ h (upd B n (nI ed)) (vp_updL P n pr) (upd E n ep) (upd S n sq) L N (nI n) (nI ed) ++ wKn cI h (nI q) F) H := hP
      have hD : va_D A (wLog cI cJ h (upd B n (nI ed)) (vp_updL P n pr) (upd E n ep) (upd S n sq) L N (nI n) (nI ed) ++ wKn cI h (nI q) F) := hD
      refine lv_aload_n hx hb dX1_append_55 rfl (lv_at hl 1 rfl) ?_
      refine va_get (D := (dC, dI)) (ci := 1) (v := .ref (h 6)) (C := RX1) (T := TX1) (N := 8) hx hb hts (fun w9 h9 => mm (inX1 w9 h9)) hown hK hP 0 rfl rfl 4 (by decide) (hts (.fieldLink RX1 25 "ProducerBook$Log" "last" "[I") (mm aw_34)) (fun _ h9 => h9) rfl dX1_append_56 ?_
      refine lv_iload hx hb dX1_append_59 (lv_at hl 0 rfl) ?_
      refine lv_iload hx hb dX1_append_61 (lv_at hl 6 rfl) ?_
      refine xh_iast hx hb hK hP hD hS 5 0 rfl rfl (k := n) (by omega) (by decide) dX1_append_63 (fun H locs hP hD hS => ?_)
      have hP : va_P (dC, dI) classes (wLog cI cJ h (upd B n (nI ed)) (vp_updL P n pr) (upd E n ep) (upd S n sq) (upd L n (nI a)) N (nI n) (nI ed) ++ wKn cI h (nI q) F) H := hP
      have hD : va_D A (wLog cI cJ h (upd B n (nI ed)) (vp_updL P n pr) (upd E n ep) (upd S n sq) (upd L n (nI a)) N (nI n) (nI ed) ++ wKn cI h (nI q) F) := hD
      refine lv_lload_n hx hb dX1_append_64 rfl (lv_at hl 3 rfl) ?_
      refine lv_ldc2 (v := (-1)) hx hb hown (hts (.constantLong RX1 57 (-1)) (mm aw_219)) dX1_append_65 ?_
      refine W.lcmp hx hb dX1_append_68 ?_
      refine lv_if_ne (tgt := 83) hx hb dX1_append_69 (by decide) (fun c_69 => ?_) (fun c_69 => ?_)
      · have cP : ¬ pr = -1 := fun g => c_69 ((lg_cmp_eq _ _).mpr g)
        refine lv_aload_n hx hb dX1_append_83 rfl (lv_at hl 1 rfl) ?_
        refine lv_aload_n hx hb dX1_append_84 rfl (lv_at hl 2 rfl) ?_
        refine lv_iload hx hb dX1_append_85 (lv_at hl 0 rfl) ?_
        refine xh_callv (wc := wLog cI cJ h (upd B n (nI ed)) (vp_updL P n pr) (upd E n ep) (upd S n sq) (upd L n (nI a)) N (nI n) (nI ed) ++ wKn cI h (nI q) F) (wr := []) (w1 := fun (u : Nat → Int32) => wLog cI cJ h (upd B n (nI ed)) (vp_updL P n pr) (upd E n ep) (upd S n sq) (upd L n (nI a)) (upd (pb_inc N ks q) n (nI 0)) (nI n) (nI ed) ++ wKn cI h (nI (min 5 (q + 1))) u) hP hD hS hA [0, 1, 2, 3, 4, 5, 6, 7, 8] [] rfl rfl (by decide) (by decide) (va_runV (As := [.ref (h 8), .int (nI n)]) (rest := []) ⟨hx, hb, hml, hown, hts⟩ (c_Log_becomeLatest l dC dI cI cJ h H.size (upd B n (nI ed)) (vp_updL P n pr) (upd E n ep) (upd S n sq) (upd L n (nI a)) N n ed q F ks n hq hF (by omega)) (cwV 2 hts (aw_V aw_220 aw_222 aw_s4 aw_2 aw_223) rfl rfl rfl (by decide +kernel) ⟨Nat.le_of_ble_eq_true rfl, Nat.le_of_ble_eq_true rfl⟩) (xh_preV (r0 := 0) hK (hP.sub (ws' := wLog cI cJ h (upd B n (nI ed)) (vp_updL P n pr) (upd E n ep) (upd S n sq) (upd L n (nI a)) N (nI n) (nI ed) ++ wKn cI h (nI q) F) [0, 1, 2, 3, 4, 5, 6, 7, 8] rfl) (hD.sub (ws' := wLog cI cJ h (upd B n (nI ed)) (vp_updL P n pr) (upd E n ep) (upd S n sq) (upd L n (nI a)) N (nI n) (nI ed) ++ wKn cI h (nI q) F) [0, 1, 2, 3, 4, 5, 6, 7, 8] (by decide) rfl) rfl rfl rfl) rfl rfl hl.1 rfl (lv_room (Nat.le_of_ble_eq_true rfl)) dX1_append_87 ⟨Nat.le_of_ble_eq_true rfl, Nat.le_of_ble_eq_true rfl⟩) (fun  u H locs hw hP hD hS => ?_)
        have hP : va_P (dC, dI) classes (wLog cI cJ h (upd B n (nI ed)) (vp_updL P n pr) (upd E n ep) (upd S n sq) (upd L n (nI a)) (upd (pb_inc N ks q) n (nI 0)) (nI n) (nI ed) ++ wKn cI h (nI (min 5 (q + 1))) u) H := hP
        have hD : va_D A (wLog cI cJ h (upd B n (nI ed)) (vp_updL P n pr) (upd E n ep) (upd S n sq) (upd L n (nI a)) (upd (pb_inc N ks q) n (nI 0)) (nI n) (nI ed) ++ wKn cI h (nI (min 5 (q + 1))) u) := hD
        refine lv_aload_n hx hb dX1_append_90 rfl (lv_at hl 1 rfl) ?_
        refine lv_dup hx hb dX1_append_91 rfl ?_
        refine va_get (D := (dC, dI)) (ci := 1) (v := .int (nI n)) (C := RX1) (T := TX1) (N := 8) hx hb hts (fun w9 h9 => mm (inX1 w9 h9)) hown hK hP 0 rfl rfl 6 (by decide) (hts (.fieldLink RX1 31 "ProducerBook$Log" "size" "I") (mm aw_37)) (fun _ h9 => h9) rfl dX1_append_92 ?_
        refine lv_iconst (v := nI 1) hx hb dX1_append_95 (by decide +kernel) ?_
        refine lv_iadd hx hb dX1_append_96 ?_
        refine xh_topi (z := nI (n + 1)) (nI_add n 1) ?_
        refine va_put (D := (dC, dI)) (ci := 1) (v := .int (nI (n + 1))) (ty := .int) (C := RX1) (T := TX1) (N := 8) hx hb hts (fun w9 h9 => mm (inX1 w9 h9)) tyX1 tyX1_ok nX1 hown hK hP hD hS 0 rfl rfl 6 (by decide) (hts (.fieldLink RX1 31 "ProducerBook$Log" "size" "I") (mm aw_37)) (fun _ h9 => h9) rfl (by decide +kernel) rfl rfl (Nat.le_of_ble_eq_true rfl) dX1_append_97 (fun H locs hP hD hS => ?_)
        have hP : va_P (dC, dI) classes (wLog cI cJ h (upd B n (nI ed)) (vp_updL P n pr) (upd E n ep) (upd S n sq) (upd L n (nI a)) (upd (pb_inc N ks q) n (nI 0)) (nI (n + 1)) (nI ed) ++ wKn cI h (nI (min 5 (q + 1))) u) H := hP
        have hD : va_D A (wLog cI cJ h (upd B n (nI ed)) (vp_updL P n pr) (upd E n ep) (upd S n sq) (upd L n (nI a)) (upd (pb_inc N ks q) n (nI 0)) (nI (n + 1)) (nI ed) ++ wKn cI h (nI (min 5 (q + 1))) u) := hD
        refine lv_aload_n hx hb dX1_append_100 rfl (lv_at hl 1 rfl) ?_
        refine lv_dup hx hb dX1_append_101 rfl ?_
        refine va_get (D := (dC, dI)) (ci := 1) (v := .int (nI ed)) (C := RX1) (T := TX1) (N := 8) hx hb hts (fun w9 h9 => mm (inX1 w9 h9)) hown hK hP 0 rfl rfl 7 (by decide) (hts (.fieldLink RX1 35 "ProducerBook$Log" "end" "I") (mm aw_39)) (fun _ h9 => h9) rfl dX1_append_102 ?_
        refine lv_iload hx hb dX1_append_105 (lv_at hl 6 rfl) ?_
        refine lv_iconst (v := nI 1) hx hb dX1_append_107 (by decide +kernel) ?_
        refine lv_iadd hx hb dX1_append_108 ?_
        refine xh_topi (z := nI (a + 1)) (nI_add a 1) ?_
        refine lv_iadd hx hb dX1_append_109 ?_
        refine xh_topi (z := nI (ed + (a + 1))) (nI_add ed _) ?_
        refine va_put (D := (dC, dI)) (ci := 1) (v := .int (nI (ed + (a + 1)))) (ty := .int) (C := RX1) (T := TX1) (N := 8) hx hb hts (fun w9 h9 => mm (inX1 w9 h9)) tyX1 tyX1_ok nX1 hown hK hP hD hS 0 rfl rfl 7 (by decide) (hts (.fieldLink RX1 35 "ProducerBook$Log" "end" "I") (mm aw_39)) (fun _ h9 => h9) rfl (by decide +kernel) rfl rfl (Nat.le_of_ble_eq_true rfl) dX1_append_110 (fun H locs hP hD hS => ?_)
        have hP : va_P (dC, dI) classes (wLog cI cJ h (upd B n (nI ed)) (vp_updL P n pr) (upd E n ep) (upd S n sq) (upd L n (nI a)) (upd (pb_inc N ks q) n (nI 0)) (nI (n + 1)) (nI (ed + (a + 1))) ++ wKn cI h (nI (min 5 (q + 1))) u) H := hP
        have hD : va_D A (wLog cI cJ h (upd B n (nI ed)) (vp_updL P n pr) (upd E n ep) (upd S n sq) (upd L n (nI a)) (upd (pb_inc N ks q) n (nI 0)) (nI (n + 1)) (nI (ed + (a + 1))) ++ wKn cI h (nI (min 5 (q + 1))) u) := hD
        refine lv_aload_n hx hb dX1_append_113 rfl (lv_at hl 1 rfl) ?_
        refine va_get (D := (dC, dI)) (ci := 1) (v := .ref (h 2)) (C := RX1) (T := TX1) (N := 8) hx hb hts (fun w9 h9 => mm (inX1 w9 h9)) hown hK hP 0 rfl rfl 0 (by decide) (hts (.fieldLink RX1 9 "ProducerBook$Log" "base" "[I") (mm aw_26)) (fun _ h9 => h9) rfl dX1_append_114 ?_
        refine lv_iload hx hb dX1_append_117 (lv_at hl 0 rfl) ?_
        refine xh_iald hx hb hK hP 1 0 rfl rfl (k := n) (by omega) (by decide) dX1_append_119 ?_
        refine xh_topi (z := nI ed) (pk_us) ?_
        have hP : va_P (dC, dI) classes (wLog cI cJ h (upd B n (nI ed)) (vp_updL P n pr) (upd E n ep) (upd S n sq) (upd L n (nI a)) (if pr = -1 then upd N n (nI 5) else upd (pb_inc N ks q) n (nI 0)) (nI (n + 1)) (nI (ed + (a + 1))) ++ wKn cI h (nI (if pr = -1 then q else min 5 (q + 1))) u) H := by rw [if_neg cP, if_neg cP]; exact hP
        have hD : va_D A (wLog cI cJ h (upd B n (nI ed)) (vp_updL P n pr) (upd E n ep) (upd S n sq) (upd L n (nI a)) (if pr = -1 then upd N n (nI 5) else upd (pb_inc N ks q) n (nI 0)) (nI (n + 1)) (nI (ed + (a + 1))) ++ wKn cI h (nI (if pr = -1 then q else min 5 (q + 1))) u) := by rw [if_neg cP, if_neg cP]; exact hD
        exact xh_iret hx hb hr (some u) (⟨⟨hr1, hr2⟩, rfl, fun _ => hw⟩) hP hK hD hS dX1_append_120 hlocks
      · have cP : pr = -1 := (lg_cmp_eq _ _).mp c_69
        refine lv_aload_n hx hb dX1_append_72 rfl (lv_at hl 1 rfl) ?_
        refine va_get (D := (dC, dI)) (ci := 1) (v := .ref (h 7)) (C := RX1) (T := TX1) (N := 8) hx hb hts (fun w9 h9 => mm (inX1 w9 h9)) hown hK hP 0 rfl rfl 5 (by decide) (hts (.fieldLink RX1 28 "ProducerBook$Log" "newer" "[I") (mm aw_36)) (fun _ h9 => h9) rfl dX1_append_73 ?_
        refine lv_iload hx hb dX1_append_76 (lv_at hl 0 rfl) ?_
        refine lv_iconst (v := nI 5) hx hb dX1_append_78 (by decide +kernel) ?_
        refine xh_iast hx hb hK hP hD hS 6 0 rfl rfl (k := n) (by omega) (by decide) dX1_append_79 (fun H locs hP hD hS => ?_)
        have hP : va_P (dC, dI) classes (wLog cI cJ h (upd B n (nI ed)) (vp_updL P n pr) (upd E n ep) (upd S n sq) (upd L n (nI a)) (upd N n (nI 5)) (nI n) (nI ed) ++ wKn cI h (nI q) F) H := hP
        have hD : va_D A (wLog cI cJ h (upd B n (nI ed)) (vp_updL P n pr) (upd E n ep) (upd S n sq) (upd L n (nI a)) (upd N n (nI 5)) (nI n) (nI ed) ++ wKn cI h (nI q) F) := hD
        refine lv_goto (tgt := 90) hx hb dX1_append_80 (by decide) ?_
        refine lv_aload_n hx hb dX1_append_90 rfl (lv_at hl 1 rfl) ?_
        refine lv_dup hx hb dX1_append_91 rfl ?_
        refine va_get (D := (dC, dI)) (ci := 1) (v := .int (nI n)) (C := RX1) (T := TX1) (N := 8) hx hb hts (fun w9 h9 => mm (inX1 w9 h9)) hown hK hP 0 rfl rfl 6 (by decide) (hts (.fieldLink RX1 31 "ProducerBook$Log" "size" "I") (mm aw_37)) (fun _ h9 => h9) rfl dX1_append_92 ?_
        refine lv_iconst (v := nI 1) hx hb dX1_append_95 (by decide +kernel) ?_
        refine lv_iadd hx hb dX1_append_96 ?_
        refine xh_topi (z := nI (n + 1)) (nI_add n 1) ?_
        refine va_put (D := (dC, dI)) (ci := 1) (v := .int (nI (n + 1))) (ty := .int) (C := RX1) (T := TX1) (N := 8) hx hb hts (fun w9 h9 => mm (inX1 w9 h9)) tyX1 tyX1_ok nX1 hown hK hP hD hS 0 rfl rfl 6 (by decide) (hts (.fieldLink RX1 31 "ProducerBook$Log" "size" "I") (mm aw_37)) (fun _ h9 => h9) rfl (by decide +kernel) rfl rfl (Nat.le_of_ble_eq_true rfl) dX1_append_97 (fun H locs hP hD hS => ?_)
        have hP : va_P (dC, dI) classes (wLog cI cJ h (upd B n (nI ed)) (vp_updL P n pr) (upd E n ep) (upd S n sq) (upd L n (nI a)) (upd N n (nI 5)) (nI (n + 1)) (nI ed) ++ wKn cI h (nI q) F) H := hP
        have hD : va_D A (wLog cI cJ h (upd B n (nI ed)) (vp_updL P n pr) (upd E n ep) (upd S n sq) (upd L n (nI a)) (upd N n (nI 5)) (nI (n + 1)) (nI ed) ++ wKn cI h (nI q) F) := hD
        refine lv_aload_n hx hb dX1_append_100 rfl (lv_at hl 1 rfl) ?_
        refine lv_dup hx hb dX1_append_101 rfl ?_
        refine va_get (D := (dC, dI)) (ci := 1) (v := .int (nI ed)) (C := RX1) (T := TX1) (N := 8) hx hb hts (fun w9 h9 => mm (inX1 w9 h9)) hown hK hP 0 rfl rfl 7 (by decide) (hts (.fieldLink RX1 35 "ProducerBook$Log" "end" "I") (mm aw_39)) (fun _ h9 => h9) rfl dX1_append_102 ?_
        refine lv_iload hx hb dX1_append_105 (lv_at hl 6 rfl) ?_
        refine lv_iconst (v := nI 1) hx hb dX1_append_107 (by decide +kernel) ?_
        refine lv_iadd hx hb dX1_append_108 ?_
        refine xh_topi (z := nI (a + 1)) (nI_add a 1) ?_
        refine lv_iadd hx hb dX1_append_109 ?_
        refine xh_topi (z := nI (ed + (a + 1))) (nI_add ed _) ?_
        refine va_put (D := (dC, dI)) (ci := 1) (v := .int (nI (ed + (a + 1)))) (ty := .int) (C := RX1) (T := TX1) (N := 8) hx hb hts (fun w9 h9 => mm (inX1 w9 h9)) tyX1 tyX1_ok nX1 hown hK hP hD hS 0 rfl rfl 7 (by decide) (hts (.fieldLink RX1 35 "ProducerBook$Log" "end" "I") (mm aw_39)) (fun _ h9 => h9) rfl (by decide +kernel) rfl rfl (Nat.le_of_ble_eq_true rfl) dX1_append_110 (fun H locs hP hD hS => ?_)
        have hP : va_P (dC, dI) classes (wLog cI cJ h (upd B n (nI ed)) (vp_updL P n pr) (upd E n ep) (upd S n sq) (upd L n (nI a)) (upd N n (nI 5)) (nI (n + 1)) (nI (ed + (a + 1))) ++ wKn cI h (nI q) F) H := hP
        have hD : va_D A (wLog cI cJ h (upd B n (nI ed)) (vp_updL P n pr) (upd E n ep) (upd S n sq) (upd L n (nI a)) (upd N n (nI 5)) (nI (n + 1)) (nI (ed + (a + 1))) ++ wKn cI h (nI q) F) := hD
        refine lv_aload_n hx hb dX1_append_113 rfl (lv_at hl 1 rfl) ?_
        refine va_get (D := (dC, dI)) (ci := 1) (v := .ref (h 2)) (C := RX1) (T := TX1) (N := 8) hx hb hts (fun w9 h9 => mm (inX1 w9 h9)) hown hK hP 0 rfl rfl 0 (by decide) (hts (.fieldLink RX1 9 "ProducerBook$Log" "base" "[I") (mm aw_26)) (fun _ h9 => h9) rfl dX1_append_114 ?_
        refine lv_iload hx hb dX1_append_117 (lv_at hl 0 rfl) ?_
        refine xh_iald hx hb hK hP 1 0 rfl rfl (k := n) (by omega) (by decide) dX1_append_119 ?_
        refine xh_topi (z := nI ed) (pk_us) ?_
        have hP : va_P (dC, dI) classes (wLog cI cJ h (upd B n (nI ed)) (vp_updL P n pr) (upd E n ep) (upd S n sq) (upd L n (nI a)) (if pr = -1 then upd N n (nI 5) else upd (pb_inc N ks q) n (nI 0)) (nI (n + 1)) (nI (ed + (a + 1))) ++ wKn cI h (nI (if pr = -1 then q else min 5 (q + 1))) F) H := by rw [if_pos cP, if_pos cP]; exact hP
        have hD : va_D A (wLog cI cJ h (upd B n (nI ed)) (vp_updL P n pr) (upd E n ep) (upd S n sq) (upd L n (nI a)) (if pr = -1 then upd N n (nI 5) else upd (pb_inc N ks q) n (nI 0)) (nI (n + 1)) (nI (ed + (a + 1))) ++ wKn cI h (nI (if pr = -1 then q else min 5 (q + 1))) F) := by rw [if_pos cP, if_pos cP]; exact hD
        exact xh_iret hx hb hr (some F) (⟨⟨hr1, hr2⟩, rfl, fun g => absurd cP g⟩) hP hK hD hS dX1_append_120 hlocks
    · exact absurd c_7 (by decide)
  · have hrn : ¬ (n + 1 ≤ 2000 ∧ ed + (a + 1) ≤ 1000000) := fun g => hk5 ⟨g.1, by have := g.2; omega⟩
    refine lv_if_ne (tgt := 12) hx hb dX1_append_7 (by decide) (fun c_7 => ?_) (fun c_7 => ?_)
    · exact absurd (show nI 0 = 0 by decide) c_7
    · refine lv_iconst (v := (-1)) hx hb dX1_append_10 (by decide +kernel) ?_
      exact xh_iret hx hb hr (none) (⟨hrn, rfl⟩) hP hK hD hS dX1_append_11 hlocks
