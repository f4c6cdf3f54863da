set_option maxHeartbeats 4000000 in
set_option maxRecDepth 100000 in
theorem m_drop (l : Launch) (dC : Nat → ClassId) (dI : Nat → Nat → Nat) (cI cJ : ClassId) (h : Nat → Nat) (sz : Nat) (B : Nat → Int32) (P : Nat → Int64) (E S L : Nat → Int32) (cd : Int32) (n ed : Nat) (x : Int32) (hn : n ≤ 2000) : Met l yX3_drop wsX3_drop ({ frames := 1, cells := 0, slots := 0, locals := 60 } : Room) (va_Pc [.ref (h 20), .int x] (xP (dC, dI) classes [(cI, FieldType.int), (cJ, FieldType.long)] (wMo cI cJ h B P E S L cd (nI n) (nI ed)) sz)) (va_Qi (fun (r : Int32) (u : Option (Nat × (Nat → Int32) × (Nat → Int64) × (Nat → Int32) × (Nat → Int32) × (Nat → Int32))) => match u with | none => ¬ (¬ x < 0 ∧ x ≤ nI 2000) | some y => x = nI y.1 ∧ y.1 ≤ 2000 ∧ r = nI (min y.1 n) ∧ pb_dr (min y.1 n) n B y.2.1 ∧ pb_dr (min y.1 n) n P y.2.2.1 ∧ pb_dr (min y.1 n) n E y.2.2.2.1 ∧ pb_dr (min y.1 n) n S y.2.2.2.2.1 ∧ pb_dr (min y.1 n) n L y.2.2.2.2.2) (fun u => xB (dC, dI) classes [(cI, FieldType.int), (cJ, FieldType.long)] (va_A (wMo cI cJ h B P E S L cd (nI n) (nI ed)) sz) ((fun (u : Option (Nat × (Nat → Int32) × (Nat → Int64) × (Nat → Int32) × (Nat → Int32) × (Nat → Int32))) => match u with | none => wMo cI cJ h B P E S L (nI 1) (nI n) (nI ed) | some y => wMo cI cJ h y.2.1 y.2.2.1 y.2.2.2.1 y.2.2.2.2.1 y.2.2.2.2.2 (nI 0) (nI (n - min y.1 n)) (nI ed)) u)) (va_A (wMo cI cJ h B P E S L cd (nI n) (nI ed)) sz)) 0 0 (va_A (wMo cI cJ h B P E S L cd (nI n) (nI ed)) sz) := by
  refine Met.ofW (cc := cX3_drop) (maxL := 4) (ret := (some .int)) (by decide) rfl ?_
  intro p e s m args below meth c s₁ BB hml hv
  obtain ⟨rfl, hsz, hP, hK, hD0⟩ := hv
  have hx := BB.exec
  have hb := BB.bytes
  have hr := BB.returns
  have hts := atoms_spec (ws := wsX3_drop) BB.pre
  have hown : s.vm.findClass RX3 = some m.cls := findClass_of_methodNamed BB.named
  have hlocks := BB.notSynchronized
  subst hsz
  have hD := hD0.self (sz := s.heap.size)
  generalize hAe : va_A (wMo cI cJ h B P E S L cd (nI n) (nI ed)) s.heap.size = A at hD ⊢
  have hA : ∀ q : Nat, s.heap.size ≤ q → A q := fun q h => by rw [← hAe]; exact Or.inr h
  have hS : va_S A s.heap s.heap [] := va_S.rf
  have hl := lv_entry ([.ref (h 20), .int x]) (n := 4) (Nat.le_of_ble_eq_true rfl)
  rw [lg_entry_eq]
  generalize (lg_sl ([.ref (h 20), .int x]) ++ List.replicate (4 - (lg_sl ([.ref (h 20), .int x])).length) Slot.unset).toArray = ls at hl ⊢
  have hl : lv_has ls 4 [(0, .ref (h 20)), (1, .int x)] := hl
  have hP : va_P (dC, dI) classes (wMo cI cJ h B P E S L cd (nI n) (nI ed)) s.heap := hP
  refine lv_aload_n hx hb dX3_drop_0 rfl (lv_at hl 0 rfl) ?_
  refine lv_iload_n hx hb dX3_drop_1 rfl (lv_at hl 1 rfl) ?_
  refine lv_if_lt (tgt := 12) hx hb dX3_drop_2 (by decide) (fun c_2 => ?_) (fun c_2 => ?_)
  · refine lv_iconst (v := nI 1) hx hb dX3_drop_12 (by decide +kernel) ?_
    refine lv_goto (tgt := 17) hx hb dX3_drop_13 (by decide) ?_
    refine va_put (D := (dC, dI)) (ci := 3) (v := .int (nI 1)) (ty := .int) (C := RX3) (T := TX3) (N := 8) hx hb hts (fun w9 h9 => mm (inX3 w9 h9)) tyX3 tyX3_ok nX3 hown hK hP hD hS 0 rfl rfl 0 (by decide) (hts (.fieldLink RX3 26 "ProducerBookModel" "code" "I") (mm aw_308)) (fun _ h9 => h9) rfl (by decide +kernel) rfl rfl (Nat.le_of_ble_eq_true rfl) dX3_drop_17 (fun H locs hP hD hS => ?_)
    have hP : va_P (dC, dI) classes (wMo cI cJ h B P E S L (nI 1) (nI n) (nI ed)) H := hP
    have hD : va_D A (wMo cI cJ h B P E S L (nI 1) (nI n) (nI ed)) := hD
    refine lv_aload_n hx hb dX3_drop_20 rfl (lv_at hl 0 rfl) ?_
    refine va_get (D := (dC, dI)) (ci := 3) (v := .int (nI 1)) (C := RX3) (T := TX3) (N := 8) hx hb hts (fun w9 h9 => mm (inX3 w9 h9)) hown hK hP 0 rfl rfl 0 (by decide) (hts (.fieldLink RX3 26 "ProducerBookModel" "code" "I") (mm aw_308)) (fun _ h9 => h9) rfl dX3_drop_21 ?_
    refine lv_if_le (tgt := 29) hx hb dX3_drop_24 (by decide) (fun c_24 => ?_) (fun c_24 => ?_)
    · exact absurd c_24 (by decide)
    · refine lv_iconst (v := nI 0) hx hb dX3_drop_27 (by decide +kernel) ?_
      exact xh_iret hx hb hr (none) (fun k => k.1 c_2) hP hK hD hS dX3_drop_28 hlocks
  · refine lv_iload_n hx hb dX3_drop_5 rfl (lv_at hl 1 rfl) ?_
    refine lv_sipush (v := nI 2000) hx hb dX3_drop_6 (by decide +kernel) ?_
    refine lv_icmp_le (tgt := 16) hx hb dX3_drop_9 (by decide) (fun c_9 => ?_) (fun c_9 => ?_)
    · refine lv_iconst (v := nI 0) hx hb dX3_drop_16 (by decide +kernel) ?_
      refine va_put (D := (dC, dI)) (ci := 3) (v := .int (nI 0)) (ty := .int) (C := RX3) (T := TX3) (N := 8) hx hb hts (fun w9 h9 => mm (inX3 w9 h9)) tyX3 tyX3_ok nX3 hown hK hP hD hS 0 rfl rfl 0 (by decide) (hts (.fieldLink RX3 26 "ProducerBookModel" "code" "I") (mm aw_308)) (fun _ h9 => h9) rfl (by decide +kernel) rfl rfl (Nat.le_of_ble_eq_true rfl) dX3_drop_17 (fun H locs hP hD hS => ?_)
      have hP : va_P (dC, dI) classes (wMo cI cJ h B P E S L (nI 0) (nI n) (nI ed)) H := hP
      have hD : va_D A (wMo cI cJ h B P E S L (nI 0) (nI n) (nI ed)) := hD
      refine lv_aload_n hx hb dX3_drop_20 rfl (lv_at hl 0 rfl) ?_
      refine va_get (D := (dC, dI)) (ci := 3) (v := .int (nI 0)) (C := RX3) (T := TX3) (N := 8) hx hb hts (fun w9 h9 => mm (inX3 w9 h9)) hown hK hP 0 rfl rfl 0 (by decide) (hts (.fieldLink RX3 26 "ProducerBookModel" "code" "I") (mm aw_308)) (fun _ h9 => h9) rfl dX3_drop_21 ?_
      refine lv_if_le (tgt := 29) hx hb dX3_drop_24 (by decide) (fun c_24 => ?_) (fun c_24 => ?_)
      · obtain ⟨g, hg, ex⟩ := nI_of2 (M := nI 2000) (n := 2000) (by decide) c_2 c_9
        rw [ex] at hl
        refine lv_iload_n hx hb dX3_drop_29 rfl (lv_at hl 1 rfl) ?_
        refine lv_aload_n hx hb dX3_drop_30 rfl (lv_at hl 0 rfl) ?_
        refine va_get (D := (dC, dI)) (ci := 3) (v := .int (nI n)) (C := RX3) (T := TX3) (N := 8) hx hb hts (fun w9 h9 => mm (inX3 w9 h9)) hown hK hP 0 rfl rfl 1 (by decide) (hts (.fieldLink RX3 32 "ProducerBookModel" "count" "I") (mm aw_309)) (fun _ h9 => h9) rfl dX3_drop_31 ?_
        refine lv_icmp_ge (tgt := 41) hx hb dX3_drop_34 (by decide) (fun c_34 => ?_) (fun c_34 => ?_)
        · have c1 : min g n = n := Nat.min_eq_right ((nI_leI (by omega) (by omega)).mp c_34)
          refine lv_aload_n hx hb dX3_drop_41 rfl (lv_at hl 0 rfl) ?_
          refine va_get (D := (dC, dI)) (ci := 3) (v := .int (nI n)) (C := RX3) (T := TX3) (N := 8) hx hb hts (fun w9 h9 => mm (inX3 w9 h9)) hown hK hP 0 rfl rfl 1 (by decide) (hts (.fieldLink RX3 32 "ProducerBookModel" "count" "I") (mm aw_309)) (fun _ h9 => h9) rfl dX3_drop_42 ?_
          refine xh_topi (z := nI (min g n)) (by rw [c1]) ?_
          refine lv_istore_n (lv' := [(2, .int (nI (min g n))), (0, .ref (h 20)), (1, .int (nI g))]) hx hb dX3_drop_45 rfl hl (by decide) rfl (fun ls hl => ?_)
          refine lv_iload_n hx hb dX3_drop_46 rfl (lv_at hl 0 rfl) ?_
          refine lv_istore_n (lv' := [(3, .int (nI (min g n))), (2, .int (nI (min g n))), (0, .ref (h 20)), (1, .int (nI g))]) hx hb dX3_drop_47 rfl hl (by decide) rfl (fun ls hl => ?_)
          have lp48 : ∀ (fuel : Nat) (i : Nat) (B2 : Nat → Int32) (P2 : Nat → Int64) (E2 : Nat → Int32) (S2 : Nat → Int32) (L2 : Nat → Int32) (H : Heap) (locs : List Loc) (ls : Array Slot), (i ≤ n) → (min g n ≤ i) → (pb_dq (min g n) i B B2) → (pb_dq (min g n) i P P2) → (pb_dq (min g n) i E E2) → (pb_dq (min g n) i S S2) → (pb_dq (min g n) i L L2) → n - i < fuel → va_P (dC, dI) classes (wMo cI cJ h B2 P2 E2 S2 L2 (nI 0) (nI n) (nI ed)) H → va_D A (wMo cI cJ h B2 P2 E2 S2 L2 (nI 0) (nI n) (nI ed)) → va_S A s.heap H locs → lv_has ls 4 [(0, .ref (h 20)), (1, .int (nI g)), (2, .int (nI (min g n))), (3, .int (nI i))] → W p l e ({ frames := 1, cells := 0, slots := 0, locals := 60 } : Room) s m ([.ref (h 20), .int x] : List Value).toArray below meth c H locs 0 0 (MQ below (va_Qi (fun (r : Int32) (u : Option (Nat × (Nat → Int32) × (Nat → Int64) × (Nat → Int32) × (Nat → Int32) × (Nat → Int32))) => match u with | none => ¬ (¬ x < 0 ∧ x ≤ nI 2000) | some y => x = nI y.1 ∧ y.1 ≤ 2000 ∧ r = nI (min y.1 n) ∧ pb_dr (min y.1 n) n B y.2.1 ∧ pb_dr (min y.1 n) n P y.2.2.1 ∧ pb_dr (min y.1 n) n E y.2.2.2.1 ∧ pb_dr (min y.1 n) n S y.2.2.2.2.1 ∧ pb_dr (min y.1 n) n L y.2.2.2.2.2) (fun u => xB (dC, dI) classes [(cI, FieldType.int), (cJ, FieldType.long)] A ((fun (u : Option (Nat × (Nat → Int32) × (Nat → Int64) × (Nat → Int32) × (Nat → Int32) × (Nat → Int32))) => match u with | none => wMo cI cJ h B P E S L (nI 1) (nI n) (nI ed) | some y => wMo cI cJ h y.2.1 y.2.2.1 y.2.2.2.1 y.2.2.2.2.1 y.2.2.2.2.2 (nI 0) (nI (n - min y.1 n)) (nI ed)) u)) A) ([.ref (h 20), .int x] : List Value).toArray s 0 0 A) (F0 m 48 ls []) := by
            intro fuel
            induction fuel with
            | zero => intro i B2 P2 E2 S2 L2 H locs ls hi hgi hB hP9 hE hS9 hL hfuel; exact absurd hfuel (Nat.not_lt_zero _)
            | succ fuel ih =>
              intro i B2 P2 E2 S2 L2 H locs ls hi hgi hB hP9 hE hS9 hL hfuel hP hD hS hl
              refine lv_iload_n hx hb dX3_drop_48 rfl (lv_at hl 3 rfl) ?_
              refine lv_aload_n hx hb dX3_drop_49 rfl (lv_at hl 0 rfl) ?_
              refine va_get (D := (dC, dI)) (ci := 3) (v := .int (nI n)) (C := RX3) (T := TX3) (N := 8) hx hb hts (fun w9 h9 => mm (inX3 w9 h9)) hown hK hP 0 rfl rfl 1 (by decide) (hts (.fieldLink RX3 32 "ProducerBookModel" "count" "I") (mm aw_309)) (fun _ h9 => h9) rfl dX3_drop_50 ?_
              refine lv_icmp_ge (tgt := 70) hx hb dX3_drop_53 (by decide) (fun c_53 => ?_) (fun c_53 => ?_)
              · have c2 := (nI_leI (by omega) (by omega)).mp c_53
                have ei : i = n := by omega
                refine lv_aload_n hx hb dX3_drop_70 rfl (lv_at hl 0 rfl) ?_
                refine lv_dup hx hb dX3_drop_71 rfl ?_
                refine va_get (D := (dC, dI)) (ci := 3) (v := .int (nI n)) (C := RX3) (T := TX3) (N := 8) hx hb hts (fun w9 h9 => mm (inX3 w9 h9)) hown hK hP 0 rfl rfl 1 (by decide) (hts (.fieldLink RX3 32 "ProducerBookModel" "count" "I") (mm aw_309)) (fun _ h9 => h9) rfl dX3_drop_72 ?_
                refine lv_iload_n hx hb dX3_drop_75 rfl (lv_at hl 2 rfl) ?_
                refine lv_isub hx hb dX3_drop_76 ?_
                refine xh_topi (z := nI (n - min g n)) (pk_sub (by omega)) ?_
                refine va_put (D := (dC, dI)) (ci := 3) (v := .int (nI (n - min g n))) (ty := .int) (C := RX3) (T := TX3) (N := 8) hx hb hts (fun w9 h9 => mm (inX3 w9 h9)) tyX3 tyX3_ok nX3 hown hK hP hD hS 0 rfl rfl 1 (by decide) (hts (.fieldLink RX3 32 "ProducerBookModel" "count" "I") (mm aw_309)) (fun _ h9 => h9) rfl (by decide +kernel) rfl rfl (Nat.le_of_ble_eq_true rfl) dX3_drop_77 (fun H locs hP hD hS => ?_)
                have hP : va_P (dC, dI) classes (wMo cI cJ h B2 P2 E2 S2 L2 (nI 0) (nI (n - min g n)) (nI ed)) H := hP
                have hD : va_D A (wMo cI cJ h B2 P2 E2 S2 L2 (nI 0) (nI (n - min g n)) (nI ed)) := hD
                refine lv_iload_n hx hb dX3_drop_80 rfl (lv_at hl 2 rfl) ?_
                exact xh_iret hx hb hr (some (g, B2, P2, E2, S2, L2)) (⟨ex, hg, rfl, pb_dr_e hB ei, pb_dr_e hP9 ei, pb_dr_e hE ei, pb_dr_e hS9 ei, pb_dr_e hL ei⟩) hP hK hD hS dX3_drop_81 hlocks
              · have c2 : i < n := Nat.lt_of_not_le fun k => c_53 ((nI_leI (by omega) (by omega)).mpr k)
                refine lv_aload_n hx hb dX3_drop_56 rfl (lv_at hl 0 rfl) ?_
                refine lv_iload_n hx hb dX3_drop_57 rfl (lv_at hl 3 rfl) ?_
                refine lv_iload_n hx hb dX3_drop_58 rfl (lv_at hl 3 rfl) ?_
                refine lv_iload_n hx hb dX3_drop_59 rfl (lv_at hl 2 rfl) ?_
                refine lv_isub hx hb dX3_drop_60 ?_
                refine xh_topi (z := nI (i - min g n)) (pk_sub hgi) ?_
                refine xh_callv (wc := wMo cI cJ h B2 P2 E2 S2 L2 (nI 0) (nI n) (nI ed)) (wr := []) (w1 := fun (u : Unit) => wMo cI cJ h (upd B2 (i - min g n) (B2 i)) (vp_updL P2 (i - min g n) (P2 i)) (upd E2 (i - min g n) (E2 i)) (upd S2 (i - min g n) (S2 i)) (upd L2 (i - min g n) (L2 i)) (nI 0) (nI n) (nI ed)) hP hD hS hA [0, 1, 2, 3, 4, 5] [] rfl rfl (by decide) (by decide) (va_runV (As := [.int (nI i), .int (nI (i - min g n))]) (rest := []) ⟨hx, hb, hml, hown, hts⟩ (m_copy l dC dI cI cJ h H.size B2 P2 E2 S2 L2 (nI 0) n ed i (i - min g n) (by omega) (by omega)) (cwV 2 hts (aw_V aw_370 aw_372 aw_s8 aw_4 aw_373) rfl rfl rfl (by decide +kernel) ⟨Nat.le_of_ble_eq_true rfl, Nat.le_of_ble_eq_true rfl⟩) (xh_preV (r0 := 0) hK (hP.sub (ws' := wMo cI cJ h B2 P2 E2 S2 L2 (nI 0) (nI n) (nI ed)) [0, 1, 2, 3, 4, 5] rfl) (hD.sub (ws' := wMo cI cJ h B2 P2 E2 S2 L2 (nI 0) (nI n) (nI ed)) [0, 1, 2, 3, 4, 5] (by decide) rfl) rfl rfl rfl) rfl rfl hl.1 rfl (lv_room (Nat.le_of_ble_eq_true rfl)) dX3_drop_61 ⟨Nat.le_of_ble_eq_true rfl, Nat.le_of_ble_eq_true rfl⟩) (fun  u H locs hw hP hD hS => ?_)
                have hP : va_P (dC, dI) classes (wMo cI cJ h (upd B2 (i - min g n) (B2 i)) (vp_updL P2 (i - min g n) (P2 i)) (upd E2 (i - min g n) (E2 i)) (upd S2 (i - min g n) (S2 i)) (upd L2 (i - min g n) (L2 i)) (nI 0) (nI n) (nI ed)) H := hP
                have hD : va_D A (wMo cI cJ h (upd B2 (i - min g n) (B2 i)) (vp_updL P2 (i - min g n) (P2 i)) (upd E2 (i - min g n) (E2 i)) (upd S2 (i - min g n) (S2 i)) (upd L2 (i - min g n) (L2 i)) (nI 0) (nI n) (nI ed)) := hD
                refine lv_iinc (v := nI (i + 1)) (lv' := [(3, .int (nI (i + 1))), (0, .ref (h 20)), (1, .int (nI g)), (2, .int (nI (min g n)))]) hx hb dX3_drop_64 hl (k := 3) rfl (by exact nI_1 i) (by decide) rfl (fun ls hl => ?_)
                refine lv_goto (tgt := 48) hx hb dX3_drop_67 (by decide) ?_
                exact ih (i + 1) (upd B2 (i - min g n) (B2 i)) (vp_updL P2 (i - min g n) (P2 i)) (upd E2 (i - min g n) (E2 i)) (upd S2 (i - min g n) (S2 i)) (upd L2 (i - min g n) (L2 i)) _ _ _ (by omega) (by omega) (pb_dr_s hB hgi) (pb_dr_sL hP9 hgi) (pb_dr_s hE hgi) (pb_dr_s hS9 hgi) (pb_dr_s hL hgi) (by omega) hP hD hS (lv_sub hl [1, 2, 3, 0] rfl)
          exact lp48 (n + 1) (min g n) B P E S L _ _ _ (by omega) (Nat.le_refl _) (pb_dq_0 _ _) (pb_dq_0 _ _) (pb_dq_0 _ _) (pb_dq_0 _ _) (pb_dq_0 _ _) (by omega) hP hD hS (lv_sub hl [2, 3, 1, 0] rfl)
        · have c1 : min g n = g := Nat.min_eq_left (Nat.le_of_lt (Nat.lt_of_not_le fun k => c_34 ((nI_leI (by omega) (by omega)).mpr k)))
          refine lv_iload_n hx hb dX3_drop_37 rfl (lv_at hl 1 rfl) ?_
          refine lv_goto (tgt := 45) hx hb dX3_drop_38 (by decide) ?_
          refine xh_topi (z := nI (min g n)) (by rw [c1]) ?_
          refine lv_istore_n (lv' := [(2, .int (nI (min g n))), (0, .ref (h 20)), (1, .int (nI g))]) hx hb dX3_drop_45 rfl hl (by decide) rfl (fun ls hl => ?_)
          refine lv_iload_n hx hb dX3_drop_46 rfl (lv_at hl 0 rfl) ?_
          refine lv_istore_n (lv' := [(3, .int (nI (min g n))), (2, .int (nI (min g n))), (0, .ref (h 20)), (1, .int (nI g))]) hx hb dX3_drop_47 rfl hl (by decide) rfl (fun ls hl => ?_)
          have lp48 : ∀ (fuel : Nat) (i : Nat) (B2 : Nat → Int32) (P2 : Nat → Int64) (E2 : Nat → Int32) (S2 : Nat → Int32) (L2 : Nat → Int32) (H : Heap) (locs : List Loc) (ls : Array Slot), (i ≤ n) → (min g n ≤ i) → (pb_dq (min g n) i B B2) → (pb_dq (min g n) i P P2) → (pb_dq (min g n) i E E2) → (pb_dq (min g n) i S S2) → (pb_dq (min g n) i L L2) → n - i < fuel → va_P (dC, dI) classes (wMo cI cJ h B2 P2 E2 S2 L2 (nI 0) (nI n) (nI ed)) H → va_D A (wMo cI cJ h B2 P2 E2 S2 L2 (nI 0) (nI n) (nI ed)) → va_S A s.heap H locs → lv_has ls 4 [(0, .ref (h 20)), (1, .int (nI g)), (2, .int (nI (min g n))), (3, .int (nI i))] → W p l e ({ frames := 1, cells := 0, slots := 0, locals := 60 } : Room) s m ([.ref (h 20), .int x] : List Value).toArray below meth c H locs 0 0 (MQ below (va_Qi (fun (r : Int32) (u : Option (Nat × (Nat → Int32) × (Nat → Int64) × (Nat → Int32) × (Nat → Int32) × (Nat → Int32))) => match u with | none => ¬ (¬ x < 0 ∧ x ≤ nI 2000) | some y => x = nI y.1 ∧ y.1 ≤ 2000 ∧ r = nI (min y.1 n) ∧ pb_dr (min y.1 n) n B y.2.1 ∧ pb_dr (min y.1 n) n P y.2.2.1 ∧ pb_dr (min y.1 n) n E y.2.2.2.1 ∧ pb_dr (min y.1 n) n S y.2.2.2.2.1 ∧ pb_dr (min y.1 n) n L y.2.2.2.2.2) (fun u => xB (dC, dI) classes [(cI, FieldType.int), (cJ, FieldType.long)] A ((fun (u : Option (Nat × (Nat → Int32) × (Nat → Int64) × (Nat → Int32) × (Nat → Int32) × (Nat → Int32))) => match u with | none => wMo cI cJ h B P E S L (nI 1) (nI n) (nI ed) | some y => wMo cI cJ h y.2.1 y.2.2.1 y.2.2.2.1 y.2.2.2.2.1 y.2.2.2.2.2 (nI 0) (nI (n - min y.1 n)) (nI ed)) u)) A) ([.ref (h 20), .int x] : List Value).toArray s 0 0 A) (F0 m 48 ls []) := by
            intro fuel
            induction fuel with
            | zero => intro i B2 P2 E2 S2 L2 H locs ls hi hgi hB hP9 hE hS9 hL hfuel; exact absurd hfuel (Nat.not_lt_zero _)
            | succ fuel ih =>
              intro i B2 P2 E2 S2 L2 H locs ls hi hgi hB hP9 hE hS9 hL hfuel hP hD hS hl
              refine lv_iload_n hx hb dX3_drop_48 rfl (lv_at hl 3 rfl) ?_
              refine lv_aload_n hx hb dX3_drop_49 rfl (lv_at hl 0 rfl) ?_
              refine va_get (D := (dC, dI)) (ci := 3) (v := .int (nI n)) (C := RX3) (T := TX3) (N := 8) hx hb hts (fun w9 h9 => mm (inX3 w9 h9)) hown hK hP 0 rfl rfl 1 (by decide) (hts (.fieldLink RX3 32 "ProducerBookModel" "count" "I") (mm aw_309)) (fun _ h9 => h9) rfl dX3_drop_50 ?_
              refine lv_icmp_ge (tgt := 70) hx hb dX3_drop_53 (by decide) (fun c_53 => ?_) (fun c_53 => ?_)
              · have c2 := (nI_leI (by omega) (by omega)).mp c_53
                have ei : i = n := by omega
                refine lv_aload_n hx hb dX3_drop_70 rfl (lv_at hl 0 rfl) ?_
                refine lv_dup hx hb dX3_drop_71 rfl ?_
                refine va_get (D := (dC, dI)) (ci := 3) (v := .int (nI n)) (C := RX3) (T := TX3) (N := 8) hx hb hts (fun w9 h9 => mm (inX3 w9 h9)) hown hK hP 0 rfl rfl 1 (by decide) (hts (.fieldLink RX3 32 "ProducerBookModel" "count" "I") (mm aw_309)) (fun _ h9 => h9) rfl dX3_drop_72 ?_
                refine lv_iload_n hx hb dX3_drop_75 rfl (lv_at hl 2 rfl) ?_
                refine lv_isub hx hb dX3_drop_76 ?_
                refine xh_topi (z := nI (n - min g n)) (pk_sub (by omega)) ?_
                refine va_put (D := (dC, dI)) (ci := 3) (v := .int (nI (n - min g n))) (ty := .int) (C := RX3) (T := TX3) (N := 8) hx hb hts (fun w9 h9 => mm (inX3 w9 h9)) tyX3 tyX3_ok nX3 hown hK hP hD hS 0 rfl rfl 1 (by decide) (hts (.fieldLink RX3 32 "ProducerBookModel" "count" "I") (mm aw_309)) (fun _ h9 => h9) rfl (by decide +kernel) rfl rfl (Nat.le_of_ble_eq_true rfl) dX3_drop_77 (fun H locs hP hD hS => ?_)
                have hP : va_P (dC, dI) classes (wMo cI cJ h B2 P2 E2 S2 L2 (nI 0) (nI (n - min g n)) (nI ed)) H := hP
                have hD : va_D A (wMo cI cJ h B2 P2 E2 S2 L2 (nI 0) (nI (n - min g n)) (nI ed)) := hD
                refine lv_iload_n hx hb dX3_drop_80 rfl (lv_at hl 2 rfl) ?_
                exact xh_iret hx hb hr (some (g, B2, P2, E2, S2, L2)) (⟨ex, hg, rfl, pb_dr_e hB ei, pb_dr_e hP9 ei, pb_dr_e hE ei, pb_dr_e hS9 ei, pb_dr_e hL ei⟩) hP hK hD hS dX3_drop_81 hlocks
              · have c2 : i < n := Nat.lt_of_not_le fun k => c_53 ((nI_leI (by omega) (by omega)).mpr k)
                refine lv_aload_n hx hb dX3_drop_56 rfl (lv_at hl 0 rfl) ?_
                refine lv_iload_n hx hb dX3_drop_57 rfl (lv_at hl 3 rfl) ?_
                refine lv_iload_n hx hb dX3_drop_58 rfl (lv_at hl 3 rfl) ?_
                refine lv_iload_n hx hb dX3_drop_59 rfl (lv_at hl 2 rfl) ?_
                refine lv_isub hx hb dX3_drop_60 ?_
                refine xh_topi (z := nI (i - min g n)) (pk_sub hgi) ?_
                refine xh_callv (wc := wMo cI cJ h B2 P2 E2 S2 L2 (nI 0) (nI n) (nI ed)) (wr := []) (w1 := fun (u : Unit) => wMo cI cJ h (upd B2 (i - min g n) (B2 i)) (vp_updL P2 (i - min g n) (P2 i)) (upd E2 (i - min g n) (E2 i)) (upd S2 (i - min g n) (S2 i)) (upd L2 (i - min g n) (L2 i)) (nI 0) (nI n) (nI ed)) hP hD hS hA [0, 1, 2, 3, 4, 5] [] rfl rfl (by decide) (by decide) (va_runV (As := [.int (nI i), .int (nI (i - min g n))]) (rest := []) ⟨hx, hb, hml, hown, hts⟩ (m_copy l dC dI cI cJ h H.size B2 P2 E2 S2 L2 (nI 0) n ed i (i - min g n) (by omega) (by omega)) (cwV 2 hts (aw_V aw_370 aw_372 aw_s8 aw_4 aw_373) rfl rfl rfl (by decide +kernel) ⟨Nat.le_of_ble_eq_true rfl, Nat.le_of_ble_eq_true rfl⟩) (xh_preV (r0 := 0) hK (hP.sub (ws' := wMo cI cJ h B2 P2 E2 S2 L2 (nI 0) (nI n) (nI ed)) [0, 1, 2, 3, 4, 5] rfl) (hD.sub (ws' := wMo cI cJ h B2 P2 E2 S2 L2 (nI 0) (nI n) (nI ed)) [0, 1, 2, 3, 4, 5] (by decide) rfl) rfl rfl rfl) rfl rfl hl.1 rfl (lv_room (Nat.le_of_ble_eq_true rfl)) dX3_drop_61 ⟨Nat.le_of_ble_eq_true rfl, Nat.le_of_ble_eq_true rfl⟩) (fun  u H locs hw hP hD hS => ?_)
                have hP : va_P (dC, dI) classes (wMo cI cJ h (upd B2 (i - min g n) (B2 i)) (vp_updL P2 (i - min g n) (P2 i)) (upd E2 (i - min g n) (E2 i)) (upd S2 (i - min g n) (S2 i)) (upd L2 (i - min g n) (L2 i)) (nI 0) (nI n) (nI ed)) H := hP
                have hD : va_D A (wMo cI cJ h (upd B2 (i - min g n) (B2 i)) (vp_updL P2 (i - min g n) (P2 i)) (upd E2 (i - min g n) (E2 i)) (upd S2 (i - min g n) (S2 i)) (upd L2 (i - min g n) (L2 i)) (nI 0) (nI n) (nI ed)) := hD
                refine lv_iinc (v := nI (i + 1)) (lv' := [(3, .int (nI (i + 1))), (0, .ref (h 20)), (1, .int (nI g)), (2, .int (nI (min g n)))]) hx hb dX3_drop_64 hl (k := 3) rfl (by exact nI_1 i) (by decide) rfl (fun ls hl => ?_)
                refine lv_goto (tgt := 48) hx hb dX3_drop_67 (by decide) ?_
                exact ih (i + 1) (upd B2 (i - min g n) (B2 i)) (vp_updL P2 (i - min g n) (P2 i)) (upd E2 (i - min g n) (E2 i)) (upd S2 (i - min g n) (S2 i)) (upd L2 (i - min g n) (L2 i)) _ _ _ (by omega) (by omega) (pb_dr_s hB hgi) (pb_dr_sL hP9 hgi) (pb_dr_s hE hgi) (pb_dr_s hS9 hgi) (pb_dr_s hL hgi) (by omega) hP hD hS (lv_sub hl [1, 2, 3, 0] rfl)
          exact lp48 (n + 1) (min g n) B P E S L _ _ _ (by omega) (Nat.le_refl _) (pb_dq_0 _ _) (pb_dq_0 _ _) (pb_dq_0 _ _) (pb_dq_0 _ _) (pb_dq_0 _ _) (by omega) hP hD hS (lv_sub hl [2, 3, 1, 0] rfl)
      · exact absurd (show nI 0 ≤ 0 by decide) c_24
    · refine lv_iconst (v := nI 1) hx hb dX3_drop_12 (by decide +kernel) ?_
      refine lv_goto (tgt := 17) hx hb dX3_drop_13 (by decide) ?_
      refine va_put (D := (dC, dI)) (ci := 3) (v := .int (nI 1)) (ty := .int) (C := RX3) (T := TX3) (N := 8) hx hb hts (fun w9 h9 => mm (inX3 w9 h9)) tyX3 tyX3_ok nX3 hown hK hP hD hS 0 rfl rfl 0 (by decide) (hts (.fieldLink RX3 26 "ProducerBookModel" "code" "I") (mm aw_308)) (fun _ h9 => h9) rfl (by decide +kernel) rfl rfl (Nat.le_of_ble_eq_true rfl) dX3_drop_17 (fun H locs hP hD hS => ?_)
      have hP : va_P (dC, dI) classes (wMo cI cJ h B P E S L (nI 1) (nI n) (nI ed)) H := hP
      have hD : va_D A (wMo cI cJ h B P E S L (nI 1) (nI n) (nI ed)) := hD
      refine lv_aload_n hx hb dX3_drop_20 rfl (lv_at hl 0 rfl) ?_
      refine va_get (D := (dC, dI)) (ci := 3) (v := .int (nI 1)) (C := RX3) (T := TX3) (N := 8) hx hb hts (fun w9 h9 => mm (inX3 w9 h9)) hown hK hP 0 rfl rfl 0 (by decide) (hts (.fieldLink RX3 26 "ProducerBookModel" "code" "I") (mm aw_308)) (fun _ h9 => h9) rfl dX3_drop_21 ?_
      refine lv_if_le (tgt := 29) hx hb dX3_drop_24 (by decide) (fun c_24 => ?_) (fun c_24 => ?_)
      · exact absurd c_24 (by decide)
      · refine lv_iconst (v := nI 0) hx hb dX3_drop_27 (by decide +kernel) ?_
        exact xh_iret hx hb hr (none) (fun k => c_9 k.2) hP hK hD hS dX3_drop_28 hlocks

set_option maxHeartbeats 4000000 in
set_option maxRecDepth 100000 in
theorem m_thin (l : Launch) (dC : Nat → ClassId) (dI : Nat → Nat → Nat) (cI cJ : ClassId) (h : Nat → Nat) (sz : Nat) (B : Nat → Int32) (P : Nat → Int64) (E S L : Nat → Int32) (cd : Int32) (n ed : Nat) (hn : n ≤ 2000) (hPI : ∀ k, k < n → P k = -1 ∨ ¬ P k < 0) : Met l yX3_thin wsX3_thin ({ frames := 2, cells := 0, slots := 0, locals := 100 } : Room) (va_Pc [.ref (h 20)] (xP (dC, dI) classes [(cI, FieldType.int), (cJ, FieldType.long)] (wMo cI cJ h B P E S L cd (nI n) (nI ed)) sz)) (va_Qi (fun (r : Int32) (u : (Nat → Int32) × (Nat → Int64) × (Nat → Int32) × (Nat → Int32) × (Nat → Int32)) => r = nI (n - pb_kn (fun k => nI (pb_nv P n k)) n) ∧ pb_cm (fun k => nI (pb_nv P n k)) n B u.1 ∧ pb_cm (fun k => nI (pb_nv P n k)) n P u.2.1 ∧ pb_cm (fun k => nI (pb_nv P n k)) n E u.2.2.1 ∧ pb_cm (fun k => nI (pb_nv P n k)) n S u.2.2.2.1 ∧ pb_cm (fun k => nI (pb_nv P n k)) n L u.2.2.2.2) (fun u => xB (dC, dI) classes [(cI, FieldType.int), (cJ, FieldType.long)] (va_A (wMo cI cJ h B P E S L cd (nI n) (nI ed)) sz) ((fun (u : (Nat → Int32) × (Nat → Int64) × (Nat → Int32) × (Nat → Int32) × (Nat → Int32)) => wMo cI cJ h u.1 u.2.1 u.2.2.1 u.2.2.2.1 u.2.2.2.2 (nI 0) (nI (pb_kn (fun k => nI (pb_nv P n k)) n)) (nI ed)) u)) (va_A (wMo cI cJ h B P E S L cd (nI n) (nI ed)) sz)) 0 0 (va_A (wMo cI cJ h B P E S L cd (nI n) (nI ed)) sz) := by
  refine Met.ofW (cc := cX3_thin) (maxL := 4) (ret := (some .int)) (by decide) rfl ?_
  intro p e s m args below meth c s₁ BB hml hv
  obtain ⟨rfl, hsz, hP, hK, hD0⟩ := hv
  have hx := BB.exec
  have hb := BB.bytes
  have hr := BB.returns
  have hts := atoms_spec (ws := wsX3_thin) BB.pre
  have hown : s.vm.findClass RX3 = some m.cls := findClass_of_methodNamed BB.named
  have hlocks := BB.notSynchronized
  subst hsz
  have hD := hD0.self (sz := s.heap.size)
  generalize hAe : va_A (wMo cI cJ h B P E S L cd (nI n) (nI ed)) s.heap.size = A at hD ⊢
  have hA : ∀ q : Nat, s.heap.size ≤ q → A q := fun q h => by rw [← hAe]; exact Or.inr h
  have hS : va_S A s.heap s.heap [] := va_S.rf
  have hl := lv_entry ([.ref (h 20)]) (n := 4) (Nat.le_of_ble_eq_true rfl)
  rw [lg_entry_eq]
  generalize (lg_sl ([.ref (h 20)]) ++ List.replicate (4 - (lg_sl ([.ref (h 20)])).length) Slot.unset).toArray = ls at hl ⊢
  have hl : lv_has ls 4 [(0, .ref (h 20))] := hl
  have hP : va_P (dC, dI) classes (wMo cI cJ h B P E S L cd (nI n) (nI ed)) s.heap := hP
  refine lv_aload_n hx hb dX3_thin_0 rfl (lv_at hl 0 rfl) ?_
  refine lv_iconst (v := nI 0) hx hb dX3_thin_1 (by decide +kernel) ?_
  refine va_put (D := (dC, dI)) (ci := 3) (v := .int (nI 0)) (ty := .int) (C := RX3) (T := TX3) (N := 8) hx hb hts (fun w9 h9 => mm (inX3 w9 h9)) tyX3 tyX3_ok nX3 hown hK hP hD hS 0 rfl rfl 0 (by decide) (hts (.fieldLink RX3 26 "ProducerBookModel" "code" "I") (mm aw_308)) (fun _ h9 => h9) rfl (by decide +kernel) rfl rfl (Nat.le_of_ble_eq_true rfl) dX3_thin_2 (fun H locs hP hD hS => ?_)
  have hP : va_P (dC, dI) classes (wMo cI cJ h B P E S L (nI 0) (nI n) (nI ed)) H := hP
  have hD : va_D A (wMo cI cJ h B P E S L (nI 0) (nI n) (nI ed)) := hD
  refine lv_aload_n hx hb dX3_thin_5 rfl (lv_at hl 0 rfl) ?_
  refine va_get (D := (dC, dI)) (ci := 3) (v := .int (nI n)) (C := RX3) (T := TX3) (N := 8) hx hb hts (fun w9 h9 => mm (inX3 w9 h9)) hown hK hP 0 rfl rfl 1 (by decide) (hts (.fieldLink RX3 32 "ProducerBookModel" "count" "I") (mm aw_309)) (fun _ h9 => h9) rfl dX3_thin_6 ?_
  refine lv_istore_n (lv' := [(1, .int (nI n)), (0, .ref (h 20))]) hx hb dX3_thin_9 rfl hl (by decide) rfl (fun ls hl => ?_)
  refine lv_iconst (v := nI 0) hx hb dX3_thin_10 (by decide +kernel) ?_
  refine lv_istore_n (lv' := [(2, .int (nI 0)), (1, .int (nI n)), (0, .ref (h 20))]) hx hb dX3_thin_11 rfl hl (by decide) rfl (fun ls hl => ?_)
  refine lv_iconst (v := nI 0) hx hb dX3_thin_12 (by decide +kernel) ?_
  refine lv_istore_n (lv' := [(3, .int (nI 0)), (2, .int (nI 0)), (1, .int (nI n)), (0, .ref (h 20))]) hx hb dX3_thin_13 rfl hl (by decide) rfl (fun ls hl => ?_)
  have lp14 : ∀ (fuel : Nat) (i : Nat) (B2 : Nat → Int32) (P2 : Nat → Int64) (E2 : Nat → Int32) (S2 : Nat → Int32) (L2 : Nat → Int32) (H : Heap) (locs : List Loc) (ls : Array Slot), (i ≤ n) → (pb_cm (fun k => nI (pb_nv P n k)) i B B2) → (pb_cm (fun k => nI (pb_nv P n k)) i P P2) → (pb_cm (fun k => nI (pb_nv P n k)) i E E2) → (pb_cm (fun k => nI (pb_nv P n k)) i S S2) → (pb_cm (fun k => nI (pb_nv P n k)) i L L2) → n - i < fuel → va_P (dC, dI) classes (wMo cI cJ h B2 P2 E2 S2 L2 (nI 0) (nI n) (nI ed)) H → va_D A (wMo cI cJ h B2 P2 E2 S2 L2 (nI 0) (nI n) (nI ed)) → va_S A s.heap H locs → lv_has ls 4 [(0, .ref (h 20)), (1, .int (nI n)), (2, .int (nI (pb_kn (fun k => nI (pb_nv P n k)) i))), (3, .int (nI i))] → W p l e ({ frames := 2, cells := 0, slots := 0, locals := 100 } : Room) s m ([.ref (h 20)] : List Value).toArray below meth c H locs 0 0 (MQ below (va_Qi (fun (r : Int32) (u : (Nat → Int32) × (Nat → Int64) × (Nat → Int32) × (Nat → Int32) × (Nat → Int32)) => r = nI (n - pb_kn (fun k => nI (pb_nv P n k)) n) ∧ pb_cm (fun k => nI (pb_nv P n k)) n B u.1 ∧ pb_cm (fun k => nI (pb_nv P n k)) n P u.2.1 ∧ pb_cm (fun k => nI (pb_nv P n k)) n E u.2.2.1 ∧ pb_cm (fun k => nI (pb_nv P n k)) n S u.2.2.2.1 ∧ pb_cm (fun k => nI (pb_nv P n k)) n L u.2.2.2.2) (fun u => xB (dC, dI) classes [(cI, FieldType.int), (cJ, FieldType.long)] A ((fun (u : (Nat → Int32) × (Nat → Int64) × (Nat → Int32) × (Nat → Int32) × (Nat → Int32)) => wMo cI cJ h u.1 u.2.1 u.2.2.1 u.2.2.2.1 u.2.2.2.2 (nI 0) (nI (pb_kn (fun k => nI (pb_nv P n k)) n)) (nI ed)) u)) A) ([.ref (h 20)] : List Value).toArray s 0 0 A) (F0 m 14 ls []) := by
    intro fuel
    induction fuel with
    | zero => intro i B2 P2 E2 S2 L2 H locs ls hi hB hP9 hE hS9 hL hfuel; exact absurd hfuel (Nat.not_lt_zero _)
    | succ fuel ih =>
      intro i B2 P2 E2 S2 L2 H locs ls hi hB hP9 hE hS9 hL hfuel hP hD hS hl
      have hkl := pb_kn_le (fun k => nI (pb_nv P n k)) i
      refine lv_iload_n hx hb dX3_thin_14 rfl (lv_at hl 3 rfl) ?_
      refine lv_iload_n hx hb dX3_thin_15 rfl (lv_at hl 1 rfl) ?_
      refine lv_icmp_ge (tgt := 42) hx hb dX3_thin_16 (by decide) (fun c_16 => ?_) (fun c_16 => ?_)
      · have c1 := (nI_leI (by omega) (by omega)).mp c_16
        have ei : i = n := by omega
        rw [ei] at hl hB hP9 hE hS9 hL hkl
        refine lv_aload_n hx hb dX3_thin_42 rfl (lv_at hl 0 rfl) ?_
        refine lv_iload_n hx hb dX3_thin_43 rfl (lv_at hl 2 rfl) ?_
        refine va_put (D := (dC, dI)) (ci := 3) (v := .int (nI (pb_kn (fun k => nI (pb_nv P n k)) n))) (ty := .int) (C := RX3) (T := TX3) (N := 8) hx hb hts (fun w9 h9 => mm (inX3 w9 h9)) tyX3 tyX3_ok nX3 hown hK hP hD hS 0 rfl rfl 1 (by decide) (hts (.fieldLink RX3 32 "ProducerBookModel" "count" "I") (mm aw_309)) (fun _ h9 => h9) rfl (by decide +kernel) rfl rfl (Nat.le_of_ble_eq_true rfl) dX3_thin_44 (fun H locs hP hD hS => ?_)
        have hP : va_P (dC, dI) classes (wMo cI cJ h B2 P2 E2 S2 L2 (nI 0) (nI (pb_kn (fun k => nI (pb_nv P n k)) n)) (nI ed)) H := hP
        have hD : va_D A (wMo cI cJ h B2 P2 E2 S2 L2 (nI 0) (nI (pb_kn (fun k => nI (pb_nv P n k)) n)) (nI ed)) := hD
        refine lv_iload_n hx hb dX3_thin_47 rfl (lv_at hl 1 rfl) ?_
        refine lv_iload_n hx hb dX3_thin_48 rfl (lv_at hl 2 rfl) ?_
        refine lv_isub hx hb dX3_thin_49 ?_
        refine xh_topi (z := nI (n - pb_kn (fun k => nI (pb_nv P n k)) n)) (pk_sub hkl) ?_
        exact xh_iret hx hb hr ((B2, P2, E2, S2, L2)) (⟨rfl, hB, hP9, hE, hS9, hL⟩) hP hK hD hS dX3_thin_50 hlocks
      · have c1 : i < n := Nat.lt_of_not_le fun g => c_16 ((nI_leI (by omega) (by omega)).mpr g)
        refine lv_aload_n hx hb dX3_thin_19 rfl (lv_at hl 0 rfl) ?_
        refine lv_iload_n hx hb dX3_thin_20 rfl (lv_at hl 3 rfl) ?_
        refine xh_calli (wc := wMo cI cJ h B2 P2 E2 S2 L2 (nI 0) (nI n) (nI ed)) (wr := []) (w1 := fun (u : Unit) => wMo cI cJ h B2 P2 E2 S2 L2 (nI 0) (nI n) (nI ed)) hP hD hS hA [0, 1, 2, 3, 4, 5] [] rfl rfl (by decide) (by decide) (va_runV (As := [.int (nI i)]) (rest := []) ⟨hx, hb, hml, hown, hts⟩ (m_isKnown l dC dI cI cJ h H.size B2 P2 E2 S2 L2 (nI 0) n ed i hn c1 (by rw [hP9.2 i (Nat.le_refl i)]; exact hPI i c1)) (cwV 1 hts (aw_V aw_378 aw_380 aw_s9 aw_4 aw_381) rfl rfl rfl (by decide +kernel) ⟨Nat.le_of_ble_eq_true rfl, Nat.le_of_ble_eq_true rfl⟩) (xh_preV (r0 := 0) hK (hP.sub (ws' := wMo cI cJ h B2 P2 E2 S2 L2 (nI 0) (nI n) (nI ed)) [0, 1, 2, 3, 4, 5] rfl) (hD.sub (ws' := wMo cI cJ h B2 P2 E2 S2 L2 (nI 0) (nI n) (nI ed)) [0, 1, 2, 3, 4, 5] (by decide) rfl) rfl rfl rfl) rfl rfl hl.1 rfl (lv_room (Nat.le_of_ble_eq_true rfl)) dX3_thin_21 ⟨Nat.le_of_ble_eq_true rfl, Nat.le_of_ble_eq_true rfl⟩) (fun r_1 u H locs hw hP hD hS => ?_)
        have hP : va_P (dC, dI) classes (wMo cI cJ h B2 P2 E2 S2 L2 (nI 0) (nI n) (nI ed)) H := hP
        have hD : va_D A (wMo cI cJ h B2 P2 E2 S2 L2 (nI 0) (nI n) (nI ed)) := hD
        rw [pb_nv_tail hP9.2 c1] at hw
        rcases hw with ⟨hk5, rfl⟩ | ⟨hk5, rfl⟩
        · have hk6 := pb_n0y hk5
          refine lv_if_eq (tgt := 36) hx hb dX3_thin_24 (by decide) (fun c_24 => ?_) (fun c_24 => ?_)
          · exact absurd c_24 (by decide)
          · refine lv_aload_n hx hb dX3_thin_27 rfl (lv_at hl 0 rfl) ?_
            refine lv_iload_n hx hb dX3_thin_28 rfl (lv_at hl 3 rfl) ?_
            refine lv_iload_n hx hb dX3_thin_29 rfl (lv_at hl 2 rfl) ?_
            refine xh_callv (wc := wMo cI cJ h B2 P2 E2 S2 L2 (nI 0) (nI n) (nI ed)) (wr := []) (w1 := fun (u : Unit) => wMo cI cJ h (upd B2 (pb_kn (fun k => nI (pb_nv P n k)) i) (B2 i)) (vp_updL P2 (pb_kn (fun k => nI (pb_nv P n k)) i) (P2 i)) (upd E2 (pb_kn (fun k => nI (pb_nv P n k)) i) (E2 i)) (upd S2 (pb_kn (fun k => nI (pb_nv P n k)) i) (S2 i)) (upd L2 (pb_kn (fun k => nI (pb_nv P n k)) i) (L2 i)) (nI 0) (nI n) (nI ed)) hP hD hS hA [0, 1, 2, 3, 4, 5] [] rfl rfl (by decide) (by decide) (va_runV (As := [.int (nI i), .int (nI (pb_kn (fun k => nI (pb_nv P n k)) i))]) (rest := []) ⟨hx, hb, hml, hown, hts⟩ (m_copy l dC dI cI cJ h H.size B2 P2 E2 S2 L2 (nI 0) n ed i (pb_kn (fun k => nI (pb_nv P n k)) i) (by omega) (by omega)) (cwV 2 hts (aw_V aw_370 aw_372 aw_s8 aw_4 aw_373) rfl rfl rfl (by decide +kernel) ⟨Nat.le_of_ble_eq_true rfl, Nat.le_of_ble_eq_true rfl⟩) (xh_preV (r0 := 0) hK (hP.sub (ws' := wMo cI cJ h B2 P2 E2 S2 L2 (nI 0) (nI n) (nI ed)) [0, 1, 2, 3, 4, 5] rfl) (hD.sub (ws' := wMo cI cJ h B2 P2 E2 S2 L2 (nI 0) (nI n) (nI ed)) [0, 1, 2, 3, 4, 5] (by decide) rfl) rfl rfl rfl) rfl rfl hl.1 rfl (lv_room (Nat.le_of_ble_eq_true rfl)) dX3_thin_30 ⟨Nat.le_of_ble_eq_true rfl, Nat.le_of_ble_eq_true rfl⟩) (fun  u H locs hw hP hD hS => ?_)
            have hP : va_P (dC, dI) classes (wMo cI cJ h (upd B2 (pb_kn (fun k => nI (pb_nv P n k)) i) (B2 i)) (vp_updL P2 (pb_kn (fun k => nI (pb_nv P n k)) i) (P2 i)) (upd E2 (pb_kn (fun k => nI (pb_nv P n k)) i) (E2 i)) (upd S2 (pb_kn (fun k => nI (pb_nv P n k)) i) (S2 i)) (upd L2 (pb_kn (fun k => nI (pb_nv P n k)) i) (L2 i)) (nI 0) (nI n) (nI ed)) H := hP
            have hD : va_D A (wMo cI cJ h (upd B2 (pb_kn (fun k => nI (pb_nv P n k)) i) (B2 i)) (vp_updL P2 (pb_kn (fun k => nI (pb_nv P n k)) i) (P2 i)) (upd E2 (pb_kn (fun k => nI (pb_nv P n k)) i) (E2 i)) (upd S2 (pb_kn (fun k => nI (pb_nv P n k)) i) (S2 i)) (upd L2 (pb_kn (fun k => nI (pb_nv P n k)) i) (L2 i)) (nI 0) (nI n) (nI ed)) := hD
            refine lv_iinc (v := nI (pb_kn (fun k => nI (pb_nv P n k)) (i + 1))) (lv' := [(2, .int (nI (pb_kn (fun k => nI (pb_nv P n k)) (i + 1)))), (0, .ref (h 20)), (1, .int (nI n)), (3, .int (nI i))]) hx hb dX3_thin_33 hl (k := 2) rfl (by rw [pb_kn_y (N := (fun k => nI (pb_nv P n k))) hk6]; exact nI_1 _) (by decide) rfl (fun ls hl => ?_)
            refine lv_iinc (v := nI (i + 1)) (lv' := [(3, .int (nI (i + 1))), (2, .int (nI (pb_kn (fun k => nI (pb_nv P n k)) (i + 1)))), (0, .ref (h 20)), (1, .int (nI n))]) hx hb dX3_thin_36 hl (k := 3) rfl (by exact nI_1 i) (by decide) rfl (fun ls hl => ?_)
            refine lv_goto (tgt := 14) hx hb dX3_thin_39 (by decide) ?_
            exact ih (i + 1) (upd B2 (pb_kn (fun k => nI (pb_nv P n k)) i) (B2 i)) (vp_updL P2 (pb_kn (fun k => nI (pb_nv P n k)) i) (P2 i)) (upd E2 (pb_kn (fun k => nI (pb_nv P n k)) i) (E2 i)) (upd S2 (pb_kn (fun k => nI (pb_nv P n k)) i) (S2 i)) (upd L2 (pb_kn (fun k => nI (pb_nv P n k)) i) (L2 i)) _ _ _ (by omega) (pb_cm_up hB hk6) (pb_cm_upL hP9 hk6) (pb_cm_up hE hk6) (pb_cm_up hS9 hk6) (pb_cm_up hL hk6) (by omega) hP hD hS (lv_sub hl [2, 3, 1, 0] rfl)
        · have hk6 := pb_n0n hk5
          refine lv_if_eq (tgt := 36) hx hb dX3_thin_24 (by decide) (fun c_24 => ?_) (fun c_24 => ?_)
          · refine lv_iinc (v := nI (i + 1)) (lv' := [(3, .int (nI (i + 1))), (0, .ref (h 20)), (1, .int (nI n)), (2, .int (nI (pb_kn (fun k => nI (pb_nv P n k)) i)))]) hx hb dX3_thin_36 hl (k := 3) rfl (by exact nI_1 i) (by decide) rfl (fun ls hl => ?_)
            refine lv_goto (tgt := 14) hx hb dX3_thin_39 (by decide) ?_
            rw [← pb_kn_n (N := (fun k => nI (pb_nv P n k))) hk6] at hl
            exact ih (i + 1) B2 P2 E2 S2 L2 _ _ _ (by omega) (pb_cm_un hB hk6) (pb_cm_un hP9 hk6) (pb_cm_un hE hk6) (pb_cm_un hS9 hk6) (pb_cm_un hL hk6) (by omega) hP hD hS (lv_sub hl [1, 2, 3, 0] rfl)
          · exact absurd (show nI 0 = 0 by decide) c_24
  exact lp14 (n + 1) 0 B P E S L _ _ _ (Nat.zero_le n) (pb_cm_0 _ _) (pb_cm_0 _ _) (pb_cm_0 _ _) (pb_cm_0 _ _) (pb_cm_0 _ _) (by omega) hP hD hS (lv_sub hl [3, 2, 1, 0] rfl)
