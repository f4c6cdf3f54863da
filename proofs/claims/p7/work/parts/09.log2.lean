set_option maxHeartbeats 4000000 in
set_option maxRecDepth 100000 in
/-- recall(pr, known): the places of what the log knows of pr, the latest first -/
theorem c_Log_recall (l : Launch) (dC : Nat → ClassId) (dI : Nat → Nat → Nat) (cI cJ : ClassId) (h : Nat → Nat) (sz : Nat) (B : Nat → Int32) (P : Nat → Int64) (E S L N : Nat → Int32) (n ed : Nat) (F : Nat → Int32) (kn0 : Int32) (pr : Int64) (hn : n ≤ 2000) (hN : ∀ k, k < n → N k = nI (pb_nv P n k)) : Met l yX1_recall wsX1_recall ({ frames := 1, cells := 0, slots := 0, locals := 60 } : Room) (va_Pc [.ref (h 1), .long pr, .ref (h 8)] (xP (dC, dI) classes [(cI, FieldType.int), (cJ, FieldType.long)] (wLog cI cJ h B P E S L N (nI n) (nI ed) ++ wKn cI h kn0 F) sz)) (va_Qv (fun (G : Nat → Int32) => ∀ j, j < pb_kc P n pr → G j = nI (pb_ix P pr n j)) (fun u => xB (dC, dI) classes [(cI, FieldType.int), (cJ, FieldType.long)] (va_A (wLog cI cJ h B P E S L N (nI n) (nI ed) ++ wKn cI h kn0 F) sz) ((fun (G : Nat → Int32) => wLog cI cJ h B P E S L N (nI n) (nI ed) ++ wKn cI h (nI (pb_kc P n pr)) G) u)) (va_A (wLog cI cJ h B P E S L N (nI n) (nI ed) ++ wKn cI h kn0 F) sz)) 0 0 (va_A (wLog cI cJ h B P E S L N (nI n) (nI ed) ++ wKn cI h kn0 F) sz) := by
  refine Met.ofW (cc := cX1_recall) (maxL := 5) (ret := none) (by decide) rfl ?_
  intro p e s m args below meth c s₁ BB hml hv
  obtain ⟨rfl, hsz, hP, hK, hD0⟩ := hv
  have hx := BB.exec
  have hb := BB.bytes
  have hr := BB.returns
  have hts := atoms_spec (ws := wsX1_recall) BB.pre
  have hown : s.vm.findClass RX1 = some m.cls := findClass_of_methodNamed BB.named
  have hlocks := BB.notSynchronized
  subst hsz
  have hD := hD0.self (sz := s.heap.size)
  generalize hAe : va_A (wLog cI cJ h B P E S L N (nI n) (nI ed) ++ wKn cI h kn0 F) s.heap.size = A at hD ⊢
  have hA : ∀ q : Nat, s.heap.size ≤ q → A q := fun q h => by rw [← hAe]; exact Or.inr h
  have hS : va_S A s.heap s.heap [] := va_S.rf
  have hl := lv_entry ([.ref (h 1), .long pr, .ref (h 8)]) (n := 5) (Nat.le_of_ble_eq_true rfl)
  rw [lg_entry_eq]
  generalize (lg_sl ([.ref (h 1), .long pr, .ref (h 8)]) ++ List.replicate (5 - (lg_sl ([.ref (h 1), .long pr, .ref (h 8)])).length) Slot.unset).toArray = ls at hl ⊢
  have hl : lv_has ls 5 [(0, .ref (h 1)), (1, .long pr), (3, .ref (h 8))] := hl
  have hP : va_P (dC, dI) classes (wLog cI cJ h B P E S L N (nI n) (nI ed) ++ wKn cI h kn0 F) s.heap := hP
  have lp13 : ∀ (fuel : Nat) (i q : Nat) (G : Nat → Int32) (x : Int32) (H : Heap) (locs : List Loc) (ls : Array Slot), (x = nI i - nI 1) → (i ≤ n) → (q ≤ 5) → ((pr = -1 ∧ q = 0) ∨ (pr ≠ -1 ∧ q + pb_cn P pr i = pb_cn P pr n)) → (∀ j, j < q → G j = nI (pb_ix P pr n j)) → i < fuel → va_P (dC, dI) classes (wLog cI cJ h B P E S L N (nI n) (nI ed) ++ wKn cI h (nI q) G) H → va_D A (wLog cI cJ h B P E S L N (nI n) (nI ed) ++ wKn cI h (nI q) G) → va_S A s.heap H locs → lv_has ls 5 [(0, .ref (h 1)), (1, .long pr), (3, .ref (h 8)), (4, .int x)] → W p l e ({ frames := 1, cells := 0, slots := 0, locals := 60 } : Room) s m ([.ref (h 1), .long pr, .ref (h 8)] : List Value).toArray below meth c H locs 0 0 (MQ below (va_Qv (fun (G : Nat → Int32) => ∀ j, j < pb_kc P n pr → G j = nI (pb_ix P pr n j)) (fun u => xB (dC, dI) classes [(cI, FieldType.int), (cJ, FieldType.long)] A ((fun (G : Nat → Int32) => wLog cI cJ h B P E S L N (nI n) (nI ed) ++ wKn cI h (nI (pb_kc P n pr)) G) u)) A) ([.ref (h 1), .long pr, .ref (h 8)] : List Value).toArray s 0 0 A) (F0 m 13 ls []) := by
    intro fuel
    induction fuel with
    | zero => intro i q G x H locs ls ex hi hq5 hq hG hfuel; exact absurd hfuel (Nat.not_lt_zero _)
    | succ fuel ih =>
      intro i q G x H locs ls ex hi hq5 hq hG hfuel hP hD hS hl
      cases i with
      | zero =>
        have hx0 : x < 0 := by rw [ex]; decide
        refine lv_iload hx hb dX1_recall_13 (lv_at hl 3 rfl) ?_
        refine lv_if_lt (tgt := 59) hx hb dX1_recall_15 (by decide) (fun c_15 => ?_) (fun c_15 => ?_)
        · have eq : q = pb_kc P n pr := pb_rec0 hq5 hq
          rw [eq] at hP hD
          exact xh_vret hx hb hr (G) (fun j hj => hG j (by omega)) hP hK hD hS dX1_recall_59 hlocks
        · exact absurd hx0 c_15
      | succ i =>
        have ex2 : x = nI i := ex.trans (pk_sub (Nat.le_add_left 1 i))
        subst ex2
        refine lv_iload hx hb dX1_recall_13 (lv_at hl 3 rfl) ?_
        refine lv_if_lt (tgt := 59) hx hb dX1_recall_15 (by decide) (fun c_15 => ?_) (fun c_15 => ?_)
        · exact absurd c_15 (nI_pos (by omega))
        · refine lv_aload_n hx hb dX1_recall_18 rfl (lv_at hl 2 rfl) ?_
          refine va_get (D := (dC, dI)) (ci := 0) (v := .int (nI q)) (C := RX0) (T := TX0) (N := 2) hx hb hts (fun w9 h9 => mm (inX0 w9 h9)) hown hK hP 7 rfl rfl 1 (by decide) (hts (.fieldLink RX1 39 "ProducerBook$Known" "size" "I") (mm aw_69)) (fun _ h9 => h9) rfl dX1_recall_19 ?_
          refine lv_iconst (v := nI 5) hx hb dX1_recall_22 (by decide +kernel) ?_
          refine lv_icmp_ge (tgt := 59) hx hb dX1_recall_23 (by decide) (fun c_23 => ?_) (fun c_23 => ?_)
          · have c5 := (nI_leI (by decide) (by omega)).mp c_23
            have eq : q = pb_kc P n pr := pb_rec5 c5 hq5 hq
            rw [eq] at hP hD
            exact xh_vret hx hb hr (G) (fun j hj => hG j (by omega)) hP hK hD hS dX1_recall_59 hlocks
          · have c5 : q < 5 := Nat.lt_of_not_le fun g => c_23 ((nI_leI (by decide) (by omega)).mpr g)
            refine lv_aload_n hx hb dX1_recall_26 rfl (lv_at hl 0 rfl) ?_
            refine va_get (D := (dC, dI)) (ci := 1) (v := .ref (h 3)) (C := RX1) (T := TX1) (N := 8) hx hb hts (fun w9 h9 => mm (inX1 w9 h9)) hown hK hP 0 rfl rfl 1 (by decide) (hts (.fieldLink RX1 15 "ProducerBook$Log" "producer" "[J") (mm aw_28)) (fun _ h9 => h9) rfl dX1_recall_27 ?_
            refine lv_iload hx hb dX1_recall_30 (lv_at hl 3 rfl) ?_
            refine xh_lald hx hb hK hP 2 1 rfl rfl (k := i) (by omega) (by decide) dX1_recall_32 ?_
            refine lv_lload_n hx hb dX1_recall_33 rfl (lv_at hl 1 rfl) ?_
            refine W.lcmp hx hb dX1_recall_34 ?_
            refine lv_if_ne (tgt := 53) hx hb dX1_recall_35 (by decide) (fun c_35 => ?_) (fun c_35 => ?_)
            · have cP : ¬ P i = pr := fun g => c_35 ((lg_cmp_eq _ _).mpr g)
              refine lv_iinc (v := nI i - nI 1) (lv' := [(4, .int (nI i - nI 1)), (0, .ref (h 1)), (1, .long pr), (3, .ref (h 8))]) hx hb dX1_recall_53 hl (k := 3) rfl (by exact (pb_m1 i).symm) (by decide) rfl (fun ls hl => ?_)
              refine lv_goto (tgt := 13) hx hb dX1_recall_56 (by decide) ?_
              exact ih i q G _ _ _ _ rfl (by omega) (by omega) (pb_recN hq cP) hG (by omega) hP hD hS (lv_sub hl [1, 2, 3, 0] rfl)
            · have cP : P i = pr := (lg_cmp_eq _ _).mp c_35
              refine lv_aload_n hx hb dX1_recall_38 rfl (lv_at hl 0 rfl) ?_
              refine lv_iload hx hb dX1_recall_39 (lv_at hl 3 rfl) ?_
              refine xh_calli (wc := wLog cI cJ h B P E S L N (nI n) (nI ed)) (wr := wKn cI h (nI q) G) (w1 := fun (u : Unit) => wLog cI cJ h B P E S L N (nI n) (nI ed)) hP hD hS hA [0, 1, 2, 3, 4, 5, 6] [7, 8] rfl rfl (by decide) (by decide) (va_runV (As := [.int (nI i)]) (rest := []) ⟨hx, hb, hml, hown, hts⟩ (c_Log_isKnown l dC dI cI cJ h H.size B P E S L N n ed i (by omega)) (cwV 1 hts (aw_V aw_91 aw_92 aw_93 aw_2 aw_94) rfl rfl rfl (by decide +kernel) ⟨Nat.le_of_ble_eq_true rfl, Nat.le_of_ble_eq_true rfl⟩) (xh_preV (r0 := 0) hK (hP.sub (ws' := wLog cI cJ h B P E S L N (nI n) (nI ed)) [0, 1, 2, 3, 4, 5, 6] rfl) (hD.sub (ws' := wLog cI cJ h B P E S L N (nI n) (nI ed)) [0, 1, 2, 3, 4, 5, 6] (by decide) rfl) rfl rfl rfl) rfl rfl hl.1 rfl (lv_room (Nat.le_of_ble_eq_true rfl)) dX1_recall_41 ⟨Nat.le_of_ble_eq_true rfl, Nat.le_of_ble_eq_true rfl⟩) (fun r_1 u H locs hw hP hD hS => ?_)
              have hP := hP.sub (ws' := wLog cI cJ h B P E S L N (nI n) (nI ed) ++ wKn cI h (nI q) G) [2, 3, 4, 5, 6, 7, 8, 0, 1] rfl
              have hD := hD.sub (ws' := wLog cI cJ h B P E S L N (nI n) (nI ed) ++ wKn cI h (nI q) G) [2, 3, 4, 5, 6, 7, 8, 0, 1] (by decide) rfl
              have hP : va_P (dC, dI) classes (wLog cI cJ h B P E S L N (nI n) (nI ed) ++ wKn cI h (nI q) G) H := hP
              have hD : va_D A (wLog cI cJ h B P E S L N (nI n) (nI ed) ++ wKn cI h (nI q) G) := hD
              rcases hw with ⟨hk5, rfl⟩ | ⟨hk5, rfl⟩
              · rw [hN i (by omega)] at hk5
                refine lv_if_eq (tgt := 53) hx hb dX1_recall_44 (by decide) (fun c_44 => ?_) (fun c_44 => ?_)
                · exact absurd c_44 (by decide)
                · refine lv_aload_n hx hb dX1_recall_47 rfl (lv_at hl 2 rfl) ?_
                  refine lv_iload hx hb dX1_recall_48 (lv_at hl 3 rfl) ?_
                  refine xh_callv (wc := wKn cI h (nI q) G) (wr := wLog cI cJ h B P E S L N (nI n) (nI ed)) (w1 := fun (u : Unit) => wKn cI h (nI (q + 1)) (upd G q (nI i))) hP hD hS hA [7, 8] [0, 1, 2, 3, 4, 5, 6] rfl rfl (by decide) (by decide) (va_runV (As := [.int (nI i)]) (rest := []) ⟨hx, hb, hml, hown, hts⟩ (c_Kn_addOlder l dC dI cI cJ h H.size q G (nI i) c5) (cwV 1 hts (aw_V aw_186 aw_187 aw_188 aw_3 aw_189) rfl rfl rfl (by decide +kernel) ⟨Nat.le_of_ble_eq_true rfl, Nat.le_of_ble_eq_true rfl⟩) (xh_preV (r0 := 0) hK (hP.sub (ws' := wKn cI h (nI q) G) [7, 8] rfl) (hD.sub (ws' := wKn cI h (nI q) G) [7, 8] (by decide) rfl) rfl rfl rfl) rfl rfl hl.1 rfl (lv_room (Nat.le_of_ble_eq_true rfl)) dX1_recall_50 ⟨Nat.le_of_ble_eq_true rfl, Nat.le_of_ble_eq_true rfl⟩) (fun  u H locs hw hP hD hS => ?_)
                  have hP : va_P (dC, dI) classes (wLog cI cJ h B P E S L N (nI n) (nI ed) ++ wKn cI h (nI (q + 1)) (upd G q (nI i))) H := hP
                  have hD : va_D A (wLog cI cJ h B P E S L N (nI n) (nI ed) ++ wKn cI h (nI (q + 1)) (upd G q (nI i))) := hD
                  refine lv_iinc (v := nI i - nI 1) (lv' := [(4, .int (nI i - nI 1)), (0, .ref (h 1)), (1, .long pr), (3, .ref (h 8))]) hx hb dX1_recall_53 hl (k := 3) rfl (by exact (pb_m1 i).symm) (by decide) rfl (fun ls hl => ?_)
                  refine lv_goto (tgt := 13) hx hb dX1_recall_56 (by decide) ?_
                  exact ih i (q + 1) (upd G q (nI i)) _ _ _ _ rfl (by omega) (by omega) (pb_recK hq cP hk5 hn (by omega)) (pb_recG hq cP hk5 hi hG) (by omega) hP hD hS (lv_sub hl [1, 2, 3, 0] rfl)
              · rw [hN i (by omega)] at hk5
                refine lv_if_eq (tgt := 53) hx hb dX1_recall_44 (by decide) (fun c_44 => ?_) (fun c_44 => ?_)
                · refine lv_iinc (v := nI i - nI 1) (lv' := [(4, .int (nI i - nI 1)), (0, .ref (h 1)), (1, .long pr), (3, .ref (h 8))]) hx hb dX1_recall_53 hl (k := 3) rfl (by exact (pb_m1 i).symm) (by decide) rfl (fun ls hl => ?_)
                  refine lv_goto (tgt := 13) hx hb dX1_recall_56 (by decide) ?_
                  exact ih i q G _ _ _ _ rfl (by omega) (by omega) (pb_recU hq c5 cP hk5 hi) hG (by omega) hP hD hS (lv_sub hl [1, 2, 3, 0] rfl)
                · exact absurd (show nI 0 = 0 by decide) c_44
  refine lv_aload_n hx hb dX1_recall_0 rfl (lv_at hl 2 rfl) ?_
  refine lv_iconst (v := nI 0) hx hb dX1_recall_1 (by decide +kernel) ?_
  refine va_put (D := (dC, dI)) (ci := 0) (v := .int (nI 0)) (ty := .int) (C := RX0) (T := TX0) (N := 2) hx hb hts (fun w9 h9 => mm (inX0 w9 h9)) tyX0 tyX0_ok nX0 hown hK hP hD hS 7 rfl rfl 1 (by decide) (hts (.fieldLink RX1 39 "ProducerBook$Known" "size" "I") (mm aw_69)) (fun _ h9 => h9) rfl (by decide +kernel) rfl rfl (Nat.le_of_ble_eq_true rfl) dX1_recall_2 (fun H locs hP hD hS => ?_)
  have hP : va_P (dC, dI) classes (wLog cI cJ h B P E S L N (nI n) (nI ed) ++ wKn cI h (nI 0) F) H := hP
  have hD : va_D A (wLog cI cJ h B P E S L N (nI n) (nI ed) ++ wKn cI h (nI 0) F) := hD
  refine lv_aload_n hx hb dX1_recall_5 rfl (lv_at hl 0 rfl) ?_
  refine va_get (D := (dC, dI)) (ci := 1) (v := .int (nI n)) (C := RX1) (T := TX1) (N := 8) hx hb hts (fun w9 h9 => mm (inX1 w9 h9)) hown hK hP 0 rfl rfl 6 (by decide) (hts (.fieldLink RX1 31 "ProducerBook$Log" "size" "I") (mm aw_37)) (fun _ h9 => h9) rfl dX1_recall_6 ?_
  refine lv_iconst (v := nI 1) hx hb dX1_recall_9 (by decide +kernel) ?_
  refine lv_isub hx hb dX1_recall_10 ?_
  refine lv_istore (lv' := [(4, .int ((nI n) - (nI 1))), (0, .ref (h 1)), (1, .long pr), (3, .ref (h 8))]) hx hb dX1_recall_11 hl (by decide) rfl (fun ls hl => ?_)
  exact lp13 (n + 1) n 0 F _ _ _ _ rfl (Nat.le_refl n) (by omega) (pb_rec1 P pr n) (fun j hj => absurd hj (Nat.not_lt_zero j)) (by omega) hP hD hS (lv_sub hl [1, 2, 3, 0] rfl)

set_option maxHeartbeats 4000000 in
set_option maxRecDepth 100000 in
/-- baseOfSame(known, ep, sq, la): the base of the latest known batch with these numbers, or -1 -/
theorem c_Log_baseOfSame (l : Launch) (dC : Nat → ClassId) (dI : Nat → Nat → Nat) (cI cJ : ClassId) (h : Nat → Nat) (sz : Nat) (B : Nat → Int32) (P : Nat → Int64) (E S L N : Nat → Int32) (n ed : Nat) (q : Nat) (F : Nat → Int32) (ks : Nat → Nat) (ep sq la : Int32) (hq : q ≤ 5) (hF : ∀ j, j < q → F j = nI (ks j) ∧ ks j < 2000) : Met l yX1_baseOfSame wsX1_baseOfSame ({ frames := 0, cells := 0, slots := 0, locals := 0 } : Room) (va_Pc [.ref (h 1), .ref (h 8), .int ep, .int sq, .int la] (xP (dC, dI) classes [(cI, FieldType.int), (cJ, FieldType.long)] (wLog cI cJ h B P E S L N (nI n) (nI ed) ++ wKn cI h (nI q) F) sz)) (va_Qi (fun (r : Int32) (_ : Unit) => r = pb_sc (fun j => (E (ks j) == ep && S (ks j) == sq && L (ks j) == la)) (fun j => B (ks j)) q 0) (fun u => xB (dC, dI) classes [(cI, FieldType.int), (cJ, FieldType.long)] (va_A (wLog cI cJ h B P E S L N (nI n) (nI ed) ++ wKn cI h (nI q) F) sz) ((fun (_ : Unit) => wLog cI cJ h B P E S L N (nI n) (nI ed) ++ wKn cI h (nI q) F) u)) (va_A (wLog cI cJ h B P E S L N (nI n) (nI ed) ++ wKn cI h (nI q) F) sz)) 0 0 (va_A (wLog cI cJ h B P E S L N (nI n) (nI ed) ++ wKn cI h (nI q) F) sz) := by
  refine Met.ofW (cc := cX1_baseOfSame) (maxL := 7) (ret := (some .int)) (by decide) rfl ?_
  intro p e s m args below meth c s₁ BB hml hv
  obtain ⟨rfl, hsz, hP, hK, hD0⟩ := hv
  have hx := BB.exec
  have hb := BB.bytes
  have hr := BB.returns
  have hts := atoms_spec (ws := wsX1_baseOfSame) BB.pre
  have hown : s.vm.findClass RX1 = some m.cls := findClass_of_methodNamed BB.named
  have hlocks := BB.notSynchronized
  subst hsz
  have hD := hD0.self (sz := s.heap.size)
  generalize hAe : va_A (wLog cI cJ h B P E S L N (nI n) (nI ed) ++ wKn cI h (nI q) F) s.heap.size = A at hD ⊢
  have hA : ∀ q : Nat, s.heap.size ≤ q → A q := fun q h => by rw [← hAe]; exact Or.inr h
  have hS : va_S A s.heap s.heap [] := va_S.rf
  have hl := lv_entry ([.ref (h 1), .ref (h 8), .int ep, .int sq, .int la]) (n := 7) (Nat.le_of_ble_eq_true rfl)
  rw [lg_entry_eq]
  generalize (lg_sl ([.ref (h 1), .ref (h 8), .int ep, .int sq, .int la]) ++ List.replicate (7 - (lg_sl ([.ref (h 1), .ref (h 8), .int ep, .int sq, .int la])).length) Slot.unset).toArray = ls at hl ⊢
  have hl : lv_has ls 7 [(0, .ref (h 1)), (1, .ref (h 8)), (2, .int ep), (3, .int sq), (4, .int la)] := hl
  have hP : va_P (dC, dI) classes (wLog cI cJ h B P E S L N (nI n) (nI ed) ++ wKn cI h (nI q) F) s.heap := hP
  have lp3 : ∀ (fuel : Nat) (i : Nat) (H : Heap) (locs : List Loc) (ls : Array Slot), (i ≤ q) → (pb_sc (fun j => (E (ks j) == ep && S (ks j) == sq && L (ks j) == la)) (fun j => B (ks j)) q 0 = pb_sc (fun j => (E (ks j) == ep && S (ks j) == sq && L (ks j) == la)) (fun j => B (ks j)) (q - i) i) → q - i < fuel → va_P (dC, dI) classes (wLog cI cJ h B P E S L N (nI n) (nI ed) ++ wKn cI h (nI q) F) H → va_D A (wLog cI cJ h B P E S L N (nI n) (nI ed) ++ wKn cI h (nI q) F) → va_S A s.heap H locs → lv_has ls 7 [(0, .ref (h 1)), (1, .ref (h 8)), (2, .int ep), (3, .int sq), (4, .int la), (5, .int (nI i))] → W p l e ({ frames := 0, cells := 0, slots := 0, locals := 0 } : Room) s m ([.ref (h 1), .ref (h 8), .int ep, .int sq, .int la] : List Value).toArray below meth c H locs 0 0 (MQ below (va_Qi (fun (r : Int32) (_ : Unit) => r = pb_sc (fun j => (E (ks j) == ep && S (ks j) == sq && L (ks j) == la)) (fun j => B (ks j)) q 0) (fun u => xB (dC, dI) classes [(cI, FieldType.int), (cJ, FieldType.long)] A ((fun (_ : Unit) => wLog cI cJ h B P E S L N (nI n) (nI ed) ++ wKn cI h (nI q) F) u)) A) ([.ref (h 1), .ref (h 8), .int ep, .int sq, .int la] : List Value).toArray s 0 0 A) (F0 m 3 ls []) := by
    intro fuel
    induction fuel with
    | zero => intro i H locs ls hi hsc hfuel; exact absurd hfuel (Nat.not_lt_zero _)
    | succ fuel ih =>
      intro i H locs ls hi hsc hfuel hP hD hS hl
      refine lv_iload hx hb dX1_baseOfSame_3 (lv_at hl 5 rfl) ?_
      refine lv_aload_n hx hb dX1_baseOfSame_5 rfl (lv_at hl 1 rfl) ?_
      refine va_get (D := (dC, dI)) (ci := 0) (v := .int (nI q)) (C := RX0) (T := TX0) (N := 2) hx hb hts (fun w9 h9 => mm (inX0 w9 h9)) hown hK hP 7 rfl rfl 1 (by decide) (hts (.fieldLink RX1 39 "ProducerBook$Known" "size" "I") (mm aw_69)) (fun _ h9 => h9) rfl dX1_baseOfSame_6 ?_
      refine lv_icmp_ge (tgt := 69) hx hb dX1_baseOfSame_9 (by decide) (fun c_9 => ?_) (fun c_9 => ?_)
      · have c1 := (nI_leI (by omega) (by omega)).mp c_9
        refine lv_iconst (v := (-1)) hx hb dX1_baseOfSame_69 (by decide +kernel) ?_
        exact xh_iret hx hb hr (()) (by rw [hsc, show q - i = 0 by omega]; rfl) hP hK hD hS dX1_baseOfSame_70 hlocks
      · have c1 : i < q := Nat.lt_of_not_le fun g => c_9 ((nI_leI (by omega) (by omega)).mpr g)
        obtain ⟨hFi, hki⟩ := hF i c1
        refine lv_aload_n hx hb dX1_baseOfSame_12 rfl (lv_at hl 1 rfl) ?_
        refine va_get (D := (dC, dI)) (ci := 0) (v := .ref (h 9)) (C := RX0) (T := TX0) (N := 2) hx hb hts (fun w9 h9 => mm (inX0 w9 h9)) hown hK hP 7 rfl rfl 0 (by decide) (hts (.fieldLink RX1 50 "ProducerBook$Known" "places" "[I") (mm aw_67)) (fun _ h9 => h9) rfl dX1_baseOfSame_13 ?_
        refine lv_iload hx hb dX1_baseOfSame_16 (lv_at hl 5 rfl) ?_
        refine xh_iald hx hb hK hP 8 0 rfl rfl (k := i) (by omega) (by decide) dX1_baseOfSame_18 ?_
        refine xh_topi (z := nI (ks i)) (hFi) ?_
        refine lv_istore (lv' := [(6, .int (nI (ks i))), (0, .ref (h 1)), (1, .ref (h 8)), (2, .int ep), (3, .int sq), (4, .int la), (5, .int (nI i))]) hx hb dX1_baseOfSame_19 hl (by decide) rfl (fun ls hl => ?_)
        refine lv_aload_n hx hb dX1_baseOfSame_21 rfl (lv_at hl 1 rfl) ?_
        refine va_get (D := (dC, dI)) (ci := 1) (v := .ref (h 4)) (C := RX1) (T := TX1) (N := 8) hx hb hts (fun w9 h9 => mm (inX1 w9 h9)) hown hK hP 0 rfl rfl 2 (by decide) (hts (.fieldLink RX1 19 "ProducerBook$Log" "epoch" "[I") (mm aw_30)) (fun _ h9 => h9) rfl dX1_baseOfSame_22 ?_
        refine lv_iload hx hb dX1_baseOfSame_25 (lv_at hl 0 rfl) ?_
        refine xh_iald hx hb hK hP 3 0 rfl rfl (k := ks i) (hki) (by decide) dX1_baseOfSame_27 ?_
        refine lv_iload_n hx hb dX1_baseOfSame_28 rfl (lv_at hl 3 rfl) ?_
        refine lv_icmp_ne (tgt := 63) hx hb dX1_baseOfSame_29 (by decide) (fun c_29 => ?_) (fun c_29 => ?_)
        · refine lv_iinc (v := nI (i + 1)) (lv' := [(5, .int (nI (i + 1))), (6, .int (nI (ks i))), (0, .ref (h 1)), (1, .ref (h 8)), (2, .int ep), (3, .int sq), (4, .int la)]) hx hb dX1_baseOfSame_63 hl (k := 6) rfl (by exact nI_1 i) (by decide) rfl (fun ls hl => ?_)
          refine lv_goto (tgt := 3) hx hb dX1_baseOfSame_66 (by decide) ?_
          exact ih (i + 1) _ _ _ (by omega) (hsc.trans (pb_sc_miss c1 (by simp [c_29]))) (by omega) hP hD hS (lv_sub hl [2, 3, 4, 5, 6, 0] rfl)
        · refine lv_aload_n hx hb dX1_baseOfSame_32 rfl (lv_at hl 1 rfl) ?_
          refine va_get (D := (dC, dI)) (ci := 1) (v := .ref (h 5)) (C := RX1) (T := TX1) (N := 8) hx hb hts (fun w9 h9 => mm (inX1 w9 h9)) hown hK hP 0 rfl rfl 3 (by decide) (hts (.fieldLink RX1 22 "ProducerBook$Log" "sequence" "[I") (mm aw_32)) (fun _ h9 => h9) rfl dX1_baseOfSame_33 ?_
          refine lv_iload hx hb dX1_baseOfSame_36 (lv_at hl 0 rfl) ?_
          refine xh_iald hx hb hK hP 4 0 rfl rfl (k := ks i) (hki) (by decide) dX1_baseOfSame_38 ?_
          refine lv_iload_n hx hb dX1_baseOfSame_39 rfl (lv_at hl 4 rfl) ?_
          refine lv_icmp_ne (tgt := 63) hx hb dX1_baseOfSame_40 (by decide) (fun c_40 => ?_) (fun c_40 => ?_)
          · refine lv_iinc (v := nI (i + 1)) (lv' := [(5, .int (nI (i + 1))), (6, .int (nI (ks i))), (0, .ref (h 1)), (1, .ref (h 8)), (2, .int ep), (3, .int sq), (4, .int la)]) hx hb dX1_baseOfSame_63 hl (k := 6) rfl (by exact nI_1 i) (by decide) rfl (fun ls hl => ?_)
            refine lv_goto (tgt := 3) hx hb dX1_baseOfSame_66 (by decide) ?_
            exact ih (i + 1) _ _ _ (by omega) (hsc.trans (pb_sc_miss c1 (by simp [c_40]))) (by omega) hP hD hS (lv_sub hl [2, 3, 4, 5, 6, 0] rfl)
          · refine lv_aload_n hx hb dX1_baseOfSame_43 rfl (lv_at hl 1 rfl) ?_
            refine va_get (D := (dC, dI)) (ci := 1) (v := .ref (h 6)) (C := RX1) (T := TX1) (N := 8) hx hb hts (fun w9 h9 => mm (inX1 w9 h9)) hown hK hP 0 rfl rfl 4 (by decide) (hts (.fieldLink RX1 25 "ProducerBook$Log" "last" "[I") (mm aw_34)) (fun _ h9 => h9) rfl dX1_baseOfSame_44 ?_
            refine lv_iload hx hb dX1_baseOfSame_47 (lv_at hl 0 rfl) ?_
            refine xh_iald hx hb hK hP 5 0 rfl rfl (k := ks i) (hki) (by decide) dX1_baseOfSame_49 ?_
            refine lv_iload hx hb dX1_baseOfSame_50 (lv_at hl 5 rfl) ?_
            refine lv_icmp_ne (tgt := 63) hx hb dX1_baseOfSame_52 (by decide) (fun c_52 => ?_) (fun c_52 => ?_)
            · refine lv_iinc (v := nI (i + 1)) (lv' := [(5, .int (nI (i + 1))), (6, .int (nI (ks i))), (0, .ref (h 1)), (1, .ref (h 8)), (2, .int ep), (3, .int sq), (4, .int la)]) hx hb dX1_baseOfSame_63 hl (k := 6) rfl (by exact nI_1 i) (by decide) rfl (fun ls hl => ?_)
              refine lv_goto (tgt := 3) hx hb dX1_baseOfSame_66 (by decide) ?_
              exact ih (i + 1) _ _ _ (by omega) (hsc.trans (pb_sc_miss c1 (by simp [c_52]))) (by omega) hP hD hS (lv_sub hl [2, 3, 4, 5, 6, 0] rfl)
            · refine lv_aload_n hx hb dX1_baseOfSame_55 rfl (lv_at hl 1 rfl) ?_
              refine va_get (D := (dC, dI)) (ci := 1) (v := .ref (h 2)) (C := RX1) (T := TX1) (N := 8) hx hb hts (fun w9 h9 => mm (inX1 w9 h9)) hown hK hP 0 rfl rfl 0 (by decide) (hts (.fieldLink RX1 9 "ProducerBook$Log" "base" "[I") (mm aw_26)) (fun _ h9 => h9) rfl dX1_baseOfSame_56 ?_
              refine lv_iload hx hb dX1_baseOfSame_59 (lv_at hl 0 rfl) ?_
              refine xh_iald hx hb hK hP 1 0 rfl rfl (k := ks i) (hki) (by decide) dX1_baseOfSame_61 ?_
              exact xh_iret hx hb hr (()) (by rw [hsc]; exact (pb_sc_hit (m := fun j => (E (ks j) == ep && S (ks j) == sq && L (ks j) == la)) (v := fun j => B (ks j)) c1 (by simp [c_29, c_40, c_52])).symm) hP hK hD hS dX1_baseOfSame_62 hlocks
  refine lv_iconst (v := nI 0) hx hb dX1_baseOfSame_0 (by decide +kernel) ?_
  refine lv_istore (lv' := [(5, .int (nI 0)), (0, .ref (h 1)), (1, .ref (h 8)), (2, .int ep), (3, .int sq), (4, .int la)]) hx hb dX1_baseOfSame_1 hl (by decide) rfl (fun ls hl => ?_)
  exact lp3 (q + 1) 0 _ _ _ (Nat.zero_le q) rfl (by omega) hP hD hS (lv_sub hl [1, 2, 3, 4, 5, 0] rfl)
