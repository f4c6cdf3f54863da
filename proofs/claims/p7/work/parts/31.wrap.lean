set_option maxHeartbeats 4000000 in
set_option maxRecDepth 100000 in
theorem w_offer (l : Launch) (dC : Nat → ClassId) (dI : Nat → Nat → Nat) (cI cJ : ClassId) (h : Nat → Nat) (sz : Nat) (B : Nat → Int32) (P : Nat → Int64) (E S L N : Nat → Int32) (n ed : Nat) (Fz : Nat → Int32) (kn0 : Int32) (pr : Int64) (ep sq la : Int32) (f : Nat → Int64) (hl0 : l.stackTraces = false) (hn : n ≤ 2000) (hed : ed ≤ 1000000) (hN : ∀ k, k < n → N k = nI (pb_nv P n k)) : Met l yL_offer wsL_offer ({ frames := 7, cells := 1, slots := 6, locals := 260 } : Room) (va_Pc [.ref (h 0), .long pr, .int ep, .int sq, .int la, .ref (h 30)] (fun U => xP (dC, dI) classes [(cI, FieldType.int), (cJ, FieldType.long)] (wOut cJ h f ++ wPB h ++ wLog cI cJ h B P E S L N (nI n) (nI ed) ++ wKn cI h kn0 Fz) sz U ∧ xX2 (va_A (wOut cJ h f ++ wPB h ++ wLog cI cJ h B P E S L N (nI n) (nI ed) ++ wKn cI h kn0 Fz) sz) U)) (va_Qi (fun (r : Int32) (u : (Int32 × (Option (Nat × (Nat → Int32)) × Int32 × (Nat → Int32))) ⊕ (Int32 × (Nat → Int32))) => match u with | .inl z => r = nI 0 ∧ (fun (r : Int32) (u : Option (Nat × (Nat → Int32)) × Int32 × (Nat → Int32)) => pb_leg pr ep sq la ∧ match u.1 with | none => pb_ans B E S L (pb_kc P n pr) (pb_ix P pr n) ep sq la ≠ -1 ∧ r = pb_ans B E S L (pb_kc P n pr) (pb_ix P pr n) ep sq la | some x => pb_ans B E S L (pb_kc P n pr) (pb_ix P pr n) ep sq la = -1 ∧ la = nI x.1 ∧ x.1 ≤ 999 ∧ (n + 1 ≤ 2000 ∧ ed + (x.1 + 1) ≤ 1000000) ∧ r = nI ed ∧ ∀ k, k < n + 1 → x.2 k = nI (pb_nv (vp_updL P n pr) (n + 1) k)) z.1 z.2 | .inr z => (r = nI 1 ∧ (fun (E9 : String) (_ : Int32 × (Nat → Int32)) => (E9 = xIA ∧ ¬ pb_leg pr ep sq la) ∨ (E9 = xIS ∧ pb_leg pr ep sq la ∧ pb_ans B E S L (pb_kc P n pr) (pb_ix P pr n) ep sq la = -1 ∧ ∃ a : Nat, la = nI a ∧ a ≤ 999 ∧ ¬ (n + 1 ≤ 2000 ∧ ed + (a + 1) ≤ 1000000))) xIA z) ∨ (r = nI 2 ∧ (fun (E9 : String) (_ : Int32 × (Nat → Int32)) => (E9 = xIA ∧ ¬ pb_leg pr ep sq la) ∨ (E9 = xIS ∧ pb_leg pr ep sq la ∧ pb_ans B E S L (pb_kc P n pr) (pb_ix P pr n) ep sq la = -1 ∧ ∃ a : Nat, la = nI a ∧ a ≤ 999 ∧ ¬ (n + 1 ≤ 2000 ∧ ed + (a + 1) ≤ 1000000))) xIS z)) (fun u => xB (dC, dI) classes [(cI, FieldType.int), (cJ, FieldType.long)] (va_A (wOut cJ h f ++ wPB h ++ wLog cI cJ h B P E S L N (nI n) (nI ed) ++ wKn cI h kn0 Fz) sz) ((fun (u : (Int32 × (Option (Nat × (Nat → Int32)) × Int32 × (Nat → Int32))) ⊕ (Int32 × (Nat → Int32))) => match u with | .inl z => wOut cJ h (vp_updL f 0 z.1.toInt64) ++ (fun (u : Option (Nat × (Nat → Int32)) × Int32 × (Nat → Int32)) => match u.1 with | none => wPB h ++ wLog cI cJ h B P E S L N (nI n) (nI ed) ++ wKn cI h u.2.1 u.2.2 | some x => wPB h ++ wLog cI cJ h (upd B n (nI ed)) (vp_updL P n pr) (upd E n ep) (upd S n sq) (upd L n (nI x.1)) x.2 (nI (n + 1)) (nI (ed + (x.1 + 1))) ++ wKn cI h u.2.1 u.2.2) z.2 | .inr z => wOut cJ h f ++ (fun (u : Int32 × (Nat → Int32)) => wPB h ++ wLog cI cJ h B P E S L N (nI n) (nI ed) ++ wKn cI h u.1 u.2) z) u)) (va_A (wOut cJ h f ++ wPB h ++ wLog cI cJ h B P E S L N (nI n) (nI ed) ++ wKn cI h kn0 Fz) sz)) 1 6 (va_A (wOut cJ h f ++ wPB h ++ wLog cI cJ h B P E S L N (nI n) (nI ed) ++ wKn cI h kn0 Fz) sz) := by
  refine va_MetW (cc := cL_offer) (maxL := 8) (ret := (some .int)) (hh := [(0, 15, 18, 13), (0, 15, 22, 15)]) (by decide) rfl ?_
  intro p e s m args below meth c s₁ BB hml hv
  obtain ⟨rfl, ⟨hsz, hP, hK, hD0⟩, hX⟩ := hv
  have hx := BB.exec
  have hb := BB.bytes
  have hr := BB.returns
  have hts := atoms_spec (ws := wsL_offer) BB.pre
  have htab := vx_table (x := yL_offer) BB (hts _ List.mem_cons_self)
  have hown : s.vm.findClass RL = some m.cls := findClass_of_methodNamed BB.named
  have hlocks := BB.notSynchronized
  subst hsz
  have hD := hD0.self (sz := s.heap.size)
  generalize hAe : va_A (wOut cJ h f ++ wPB h ++ wLog cI cJ h B P E S L N (nI n) (nI ed) ++ wKn cI h kn0 Fz) s.heap.size = A at hD hX ⊢
  have hA : ∀ q : Nat, s.heap.size ≤ q → A q := fun q h => by rw [← hAe]; exact Or.inr h
  have hS : va_S A s.heap s.heap [] := va_S.rf
  have hl := lv_entry ([.ref (h 0), .long pr, .int ep, .int sq, .int la, .ref (h 30)]) (n := 8) (Nat.le_of_ble_eq_true rfl)
  rw [lg_entry_eq]
  generalize (lg_sl ([.ref (h 0), .long pr, .int ep, .int sq, .int la, .ref (h 30)]) ++ List.replicate (8 - (lg_sl ([.ref (h 0), .long pr, .int ep, .int sq, .int la, .ref (h 30)])).length) Slot.unset).toArray = ls at hl ⊢
  have hl : lv_has ls 8 [(0, .ref (h 0)), (1, .long pr), (3, .int ep), (4, .int sq), (5, .int la), (6, .ref (h 30))] := hl
  have hP : va_P (dC, dI) classes (wOut cJ h f ++ wPB h ++ wLog cI cJ h B P E S L N (nI n) (nI ed) ++ wKn cI h kn0 Fz) s.heap := hP
  refine lv_aload hx hb dL_offer_0 (lv_at hl 5 rfl) ?_
  refine lv_iconst (v := nI 0) hx hb dL_offer_2 (by decide +kernel) ?_
  refine lv_aload_n hx hb dL_offer_3 rfl (lv_at hl 0 rfl) ?_
  refine lv_lload_n hx hb dL_offer_4 rfl (lv_at hl 1 rfl) ?_
  refine lv_iload_n hx hb dL_offer_5 rfl (lv_at hl 2 rfl) ?_
  refine lv_iload hx hb dL_offer_6 (lv_at hl 3 rfl) ?_
  refine lv_iload hx hb dL_offer_8 (lv_at hl 4 rfl) ?_
  refine xh_vcalli (wc := wPB h ++ wLog cI cJ h B P E S L N (nI n) (nI ed) ++ wKn cI h kn0 Fz) (wr := wOut cJ h f) (w1 := fun (u : Option (Nat × (Nat → Int32)) × Int32 × (Nat → Int32)) => (fun (u : Option (Nat × (Nat → Int32)) × Int32 × (Nat → Int32)) => match u.1 with | none => wPB h ++ wLog cI cJ h B P E S L N (nI n) (nI ed) ++ wKn cI h u.2.1 u.2.2 | some x => wPB h ++ wLog cI cJ h (upd B n (nI ed)) (vp_updL P n pr) (upd E n ep) (upd S n sq) (upd L n (nI x.1)) x.2 (nI (n + 1)) (nI (ed + (x.1 + 1))) ++ wKn cI h u.2.1 u.2.2) u) (wx := fun (u : Int32 × (Nat → Int32)) => (fun (u : Int32 × (Nat → Int32)) => wPB h ++ wLog cI cJ h B P E S L N (nI n) (nI ed) ++ wKn cI h u.1 u.2) u) hP hD hS hA [1, 2, 3, 4, 5, 6, 7, 8, 9, 10] [0] rfl rfl (by decide) (by decide) (vx_runV (As := [.long pr, .int ep, .int sq, .int la]) (rest := [.int (nI 0), .ref (h 30)]) ⟨hx, hb, hml, hown, hts⟩ (c_PB_offer l dC dI cI cJ h s.heap.size B P E S L N n ed Fz kn0 pr ep sq la hl0 hn hed hN) (cwV 4 hts (aw_V aw_107 aw_108 aw_109 aw_1 aw_110) rfl rfl rfl (by decide +kernel) ⟨Nat.le_of_ble_eq_true rfl, Nat.le_of_ble_eq_true rfl⟩) (xh_preVX (r0 := 0) hK hX.1 hS (va_free hD hS hA [1, 2, 3, 4, 5, 6, 7, 8, 9, 10] rfl) (hP.sub (ws' := wPB h ++ wLog cI cJ h B P E S L N (nI n) (nI ed) ++ wKn cI h kn0 Fz) [1, 2, 3, 4, 5, 6, 7, 8, 9, 10] rfl) (hD.sub (ws' := wPB h ++ wLog cI cJ h B P E S L N (nI n) (nI ed) ++ wKn cI h kn0 Fz) [1, 2, 3, 4, 5, 6, 7, 8, 9, 10] (by decide) rfl) rfl rfl rfl) rfl rfl hl.1 rfl (lv_room (Nat.le_of_ble_eq_true rfl)) dL_offer_10 ⟨Nat.le_of_ble_eq_true rfl, Nat.le_of_ble_eq_true rfl⟩) (fun E9 ce q9 u H locs hpx hP hD hS hq1 hq2 hq3 => ?_) (fun r u H locs hw hP hD hS => ?_)
  · have hpx9 := hpx
    rcases hpx with ⟨e9, _⟩ | ⟨e9, _⟩
    · subst e9
      refine vx_catch (name := xIA) (E := xIA) hown [] ⟨0, 15, 18, 13⟩ [⟨0, 15, 22, 15⟩] (by rw [htab]; rfl) (fun z hz => by cases hz) (by decide) (by decide) (hts (.classLink RL 13 "java/lang/IllegalArgumentException") (mm aw_105)) (va_Nw.use rfl hX.1.2.2.1.1) hq1 hq2 hq3 ?_
      refine lv_astore (lv' := [(7, .ref q9), (0, .ref (h 0)), (1, .long pr), (3, .int ep), (4, .int sq), (5, .int la), (6, .ref (h 30))]) hx hb dL_offer_18 hl (by decide) rfl (fun ls hl => ?_)
      refine lv_iconst (v := nI 1) hx hb dL_offer_20 (by decide +kernel) ?_
      exact xh_iret hx hb hr (.inr u) (Or.inl ⟨rfl, hpx9⟩) hP hK hD hS dL_offer_21 hlocks
    · subst e9
      refine vx_catch (name := xIS) (E := xIS) hown [⟨0, 15, 18, 13⟩] ⟨0, 15, 22, 15⟩ [] (by rw [htab]; rfl) (fun z hz => by rw [List.mem_singleton.mp hz]; exact Or.inr ⟨by decide, xIA, hts (.classLink RL 13 "java/lang/IllegalArgumentException") (mm aw_105), hX.2⟩) (by decide) (by decide) (hts (.classLink RL 15 "java/lang/IllegalStateException") (mm aw_106)) (va_Nw.use rfl hX.1.2.2.1.2.1) hq1 hq2 hq3 ?_
      refine lv_astore (lv' := [(7, .ref q9), (0, .ref (h 0)), (1, .long pr), (3, .int ep), (4, .int sq), (5, .int la), (6, .ref (h 30))]) hx hb dL_offer_22 hl (by decide) rfl (fun ls hl => ?_)
      refine lv_iconst (v := nI 2) hx hb dL_offer_24 (by decide +kernel) ?_
      exact xh_iret hx hb hr (.inr u) (Or.inr ⟨rfl, hpx9⟩) hP hK hD hS dL_offer_25 hlocks
  · have hw9 := hw
    refine lv_i2l (v := r.toInt64) hx hb dL_offer_13 rfl ?_
    refine xh_last hx hb hK hP hD hS 0 1 rfl rfl (k := 0) (by decide) (by decide) dL_offer_14 (fun H locs hP hD hS => ?_)
    have hP : va_P (dC, dI) classes (wOut cJ h (vp_updL f 0 r.toInt64) ++ (fun (u : Option (Nat × (Nat → Int32)) × Int32 × (Nat → Int32)) => match u.1 with | none => wPB h ++ wLog cI cJ h B P E S L N (nI n) (nI ed) ++ wKn cI h u.2.1 u.2.2 | some x => wPB h ++ wLog cI cJ h (upd B n (nI ed)) (vp_updL P n pr) (upd E n ep) (upd S n sq) (upd L n (nI x.1)) x.2 (nI (n + 1)) (nI (ed + (x.1 + 1))) ++ wKn cI h u.2.1 u.2.2) u) H := hP
    have hD : va_D A (wOut cJ h (vp_updL f 0 r.toInt64) ++ (fun (u : Option (Nat × (Nat → Int32)) × Int32 × (Nat → Int32)) => match u.1 with | none => wPB h ++ wLog cI cJ h B P E S L N (nI n) (nI ed) ++ wKn cI h u.2.1 u.2.2 | some x => wPB h ++ wLog cI cJ h (upd B n (nI ed)) (vp_updL P n pr) (upd E n ep) (upd S n sq) (upd L n (nI x.1)) x.2 (nI (n + 1)) (nI (ed + (x.1 + 1))) ++ wKn cI h u.2.1 u.2.2) u) := hD
    refine lv_goto (tgt := 26) hx hb dL_offer_15 (by decide) ?_
    refine lv_iconst (v := nI 0) hx hb dL_offer_26 (by decide +kernel) ?_
    exact xh_iret hx hb hr (.inl (r, u)) (⟨rfl, hw9⟩) hP hK hD hS dL_offer_27 hlocks

set_option maxHeartbeats 4000000 in
set_option maxRecDepth 100000 in
theorem w_offers (l : Launch) (dC : Nat → ClassId) (dI : Nat → Nat → Nat) (cI cJ : ClassId) (h : Nat → Nat) (sz : Nat) (B : Nat → Int32) (P : Nat → Int64) (E S L N : Nat → Int32) (n ed : Nat) (Fz : Nat → Int32) (kn0 : Int32) (x : Int32) (pr : Int64) (ep sq la : Int32) (f : Nat → Int64) (hl0 : l.stackTraces = false) (hn : n ≤ 2000) (hed : ed ≤ 1000000) (hN : ∀ k, k < n → N k = nI (pb_nv P n k)) : Met l yL_offers wsL_offers ({ frames := 7, cells := 1, slots := 6, locals := 260 } : Room) (va_Pc [.ref (h 0), .int x, .long pr, .int ep, .int sq, .int la, .ref (h 30)] (fun U => xP (dC, dI) classes [(cI, FieldType.int), (cJ, FieldType.long)] (wOut cJ h f ++ wPB h ++ wLog cI cJ h B P E S L N (nI n) (nI ed) ++ wKn cI h kn0 Fz) sz U ∧ xX2 (va_A (wOut cJ h f ++ wPB h ++ wLog cI cJ h B P E S L N (nI n) (nI ed) ++ wKn cI h kn0 Fz) sz) U)) (va_Qi (fun (r : Int32) (u : (Int32 × (pb_St × (Nat → Int32) × Int32 × (Nat → Int32))) ⊕ (Unit)) => match u with | .inl z => r = nI 0 ∧ (fun (r : Int32) (u : pb_St × (Nat → Int32) × Int32 × (Nat → Int32)) => pb_leg pr ep sq la ∧ ∃ c9 a : Nat, x = nI c9 ∧ 1 ≤ c9 ∧ c9 ≤ 500 ∧ la = nI a ∧ a ≤ 999 ∧ (n + c9 ≤ 2000 ∧ ed + c9 * (a + 1) ≤ 1000000) ∧ (pb_it (fun z => pb_nx z (nI a)) pr ep a (B, P, E, S, L, n, ed) sq c9).1 = u.1 ∧ r = nI (u.1.2.2.2.2.2.1 - n) ∧ (n ≤ u.1.2.2.2.2.2.1 ∧ u.1.2.2.2.2.2.1 ≤ 2000 ∧ u.1.2.2.2.2.2.2 ≤ 1000000) ∧ ∀ k, k < u.1.2.2.2.2.2.1 → u.2.1 k = nI (pb_nv u.1.2.1 u.1.2.2.2.2.2.1 k)) z.1 z.2 | .inr z => (r = nI 1 ∧ (fun (E9 : String) (_ : Unit) => (E9 = xIA ∧ ¬ (¬ x < nI 1 ∧ ¬ nI 500 < x ∧ pb_leg pr ep sq la)) ∨ (E9 = xIS ∧ (¬ x < nI 1 ∧ ¬ nI 500 < x ∧ pb_leg pr ep sq la) ∧ ∃ c9 a : Nat, x = nI c9 ∧ c9 ≤ 500 ∧ la = nI a ∧ a ≤ 999 ∧ ¬ (n + c9 ≤ 2000 ∧ ed + c9 * (a + 1) ≤ 1000000))) xIA z) ∨ (r = nI 2 ∧ (fun (E9 : String) (_ : Unit) => (E9 = xIA ∧ ¬ (¬ x < nI 1 ∧ ¬ nI 500 < x ∧ pb_leg pr ep sq la)) ∨ (E9 = xIS ∧ (¬ x < nI 1 ∧ ¬ nI 500 < x ∧ pb_leg pr ep sq la) ∧ ∃ c9 a : Nat, x = nI c9 ∧ c9 ≤ 500 ∧ la = nI a ∧ a ≤ 999 ∧ ¬ (n + c9 ≤ 2000 ∧ ed + c9 * (a + 1) ≤ 1000000))) xIS z)) (fun u => xB (dC, dI) classes [(cI, FieldType.int), (cJ, FieldType.long)] (va_A (wOut cJ h f ++ wPB h ++ wLog cI cJ h B P E S L N (nI n) (nI ed) ++ wKn cI h kn0 Fz) sz) ((fun (u : (Int32 × (pb_St × (Nat → Int32) × Int32 × (Nat → Int32))) ⊕ (Unit)) => match u with | .inl z => wOut cJ h (vp_updL f 0 z.1.toInt64) ++ (fun (u : pb_St × (Nat → Int32) × Int32 × (Nat → Int32)) => wPB h ++ wLog cI cJ h u.1.1 u.1.2.1 u.1.2.2.1 u.1.2.2.2.1 u.1.2.2.2.2.1 u.2.1 (nI u.1.2.2.2.2.2.1) (nI u.1.2.2.2.2.2.2) ++ wKn cI h u.2.2.1 u.2.2.2) z.2 | .inr z => wOut cJ h f ++ (fun (_ : Unit) => wPB h ++ wLog cI cJ h B P E S L N (nI n) (nI ed) ++ wKn cI h kn0 Fz) z) u)) (va_A (wOut cJ h f ++ wPB h ++ wLog cI cJ h B P E S L N (nI n) (nI ed) ++ wKn cI h kn0 Fz) sz)) 1 6 (va_A (wOut cJ h f ++ wPB h ++ wLog cI cJ h B P E S L N (nI n) (nI ed) ++ wKn cI h kn0 Fz) sz) := by
  refine va_MetW (cc := cL_offers) (maxL := 9) (ret := (some .int)) (hh := [(0, 17, 20, 13), (0, 17, 24, 15)]) (by decide) rfl ?_
  intro p e s m args below meth c s₁ BB hml hv
  obtain ⟨rfl, ⟨hsz, hP, hK, hD0⟩, hX⟩ := hv
  have hx := BB.exec
  have hb := BB.bytes
  have hr := BB.returns
  have hts := atoms_spec (ws := wsL_offers) BB.pre
  have htab := vx_table (x := yL_offers) BB (hts _ List.mem_cons_self)
  have hown : s.vm.findClass RL = some m.cls := findClass_of_methodNamed BB.named
  have hlocks := BB.notSynchronized
  subst hsz
  have hD := hD0.self (sz := s.heap.size)
  generalize hAe : va_A (wOut cJ h f ++ wPB h ++ wLog cI cJ h B P E S L N (nI n) (nI ed) ++ wKn cI h kn0 Fz) s.heap.size = A at hD hX ⊢
  have hA : ∀ q : Nat, s.heap.size ≤ q → A q := fun q h => by rw [← hAe]; exact Or.inr h
  have hS : va_S A s.heap s.heap [] := va_S.rf
  have hl := lv_entry ([.ref (h 0), .int x, .long pr, .int ep, .int sq, .int la, .ref (h 30)]) (n := 9) (Nat.le_of_ble_eq_true rfl)
  rw [lg_entry_eq]
  generalize (lg_sl ([.ref (h 0), .int x, .long pr, .int ep, .int sq, .int la, .ref (h 30)]) ++ List.replicate (9 - (lg_sl ([.ref (h 0), .int x, .long pr, .int ep, .int sq, .int la, .ref (h 30)])).length) Slot.unset).toArray = ls at hl ⊢
  have hl : lv_has ls 9 [(0, .ref (h 0)), (1, .int x), (2, .long pr), (4, .int ep), (5, .int sq), (6, .int la), (7, .ref (h 30))] := hl
  have hP : va_P (dC, dI) classes (wOut cJ h f ++ wPB h ++ wLog cI cJ h B P E S L N (nI n) (nI ed) ++ wKn cI h kn0 Fz) s.heap := hP
  refine lv_aload hx hb dL_offers_0 (lv_at hl 6 rfl) ?_
  refine lv_iconst (v := nI 0) hx hb dL_offers_2 (by decide +kernel) ?_
  refine lv_aload_n hx hb dL_offers_3 rfl (lv_at hl 0 rfl) ?_
  refine lv_iload_n hx hb dL_offers_4 rfl (lv_at hl 1 rfl) ?_
  refine lv_lload_n hx hb dL_offers_5 rfl (lv_at hl 2 rfl) ?_
  refine lv_iload hx hb dL_offers_6 (lv_at hl 3 rfl) ?_
  refine lv_iload hx hb dL_offers_8 (lv_at hl 4 rfl) ?_
  refine lv_iload hx hb dL_offers_10 (lv_at hl 5 rfl) ?_
  refine xh_vcalli (wc := wPB h ++ wLog cI cJ h B P E S L N (nI n) (nI ed) ++ wKn cI h kn0 Fz) (wr := wOut cJ h f) (w1 := fun (u : pb_St × (Nat → Int32) × Int32 × (Nat → Int32)) => (fun (u : pb_St × (Nat → Int32) × Int32 × (Nat → Int32)) => wPB h ++ wLog cI cJ h u.1.1 u.1.2.1 u.1.2.2.1 u.1.2.2.2.1 u.1.2.2.2.2.1 u.2.1 (nI u.1.2.2.2.2.2.1) (nI u.1.2.2.2.2.2.2) ++ wKn cI h u.2.2.1 u.2.2.2) u) (wx := fun (u : Unit) => (fun (_ : Unit) => wPB h ++ wLog cI cJ h B P E S L N (nI n) (nI ed) ++ wKn cI h kn0 Fz) u) hP hD hS hA [1, 2, 3, 4, 5, 6, 7, 8, 9, 10] [0] rfl rfl (by decide) (by decide) (vx_runV (As := [.int x, .long pr, .int ep, .int sq, .int la]) (rest := [.int (nI 0), .ref (h 30)]) ⟨hx, hb, hml, hown, hts⟩ (c_PB_offers l dC dI cI cJ h s.heap.size B P E S L N n ed Fz kn0 x pr ep sq la hl0 hn hed hN) (cwV 5 hts (aw_V aw_247 aw_248 aw_249 aw_1 aw_250) rfl rfl rfl (by decide +kernel) ⟨Nat.le_of_ble_eq_true rfl, Nat.le_of_ble_eq_true rfl⟩) (xh_preVX (r0 := 0) hK hX.1 hS (va_free hD hS hA [1, 2, 3, 4, 5, 6, 7, 8, 9, 10] rfl) (hP.sub (ws' := wPB h ++ wLog cI cJ h B P E S L N (nI n) (nI ed) ++ wKn cI h kn0 Fz) [1, 2, 3, 4, 5, 6, 7, 8, 9, 10] rfl) (hD.sub (ws' := wPB h ++ wLog cI cJ h B P E S L N (nI n) (nI ed) ++ wKn cI h kn0 Fz) [1, 2, 3, 4, 5, 6, 7, 8, 9, 10] (by decide) rfl) rfl rfl rfl) rfl rfl hl.1 rfl (lv_room (Nat.le_of_ble_eq_true rfl)) dL_offers_12 ⟨Nat.le_of_ble_eq_true rfl, Nat.le_of_ble_eq_true rfl⟩) (fun E9 ce q9 u H locs hpx hP hD hS hq1 hq2 hq3 => ?_) (fun r u H locs hw hP hD hS => ?_)
  · have hpx9 := hpx
    rcases hpx with ⟨e9, _⟩ | ⟨e9, _⟩
    · subst e9
      refine vx_catch (name := xIA) (E := xIA) hown [] ⟨0, 17, 20, 13⟩ [⟨0, 17, 24, 15⟩] (by rw [htab]; rfl) (fun z hz => by cases hz) (by decide) (by decide) (hts (.classLink RL 13 "java/lang/IllegalArgumentException") (mm aw_105)) (va_Nw.use rfl hX.1.2.2.1.1) hq1 hq2 hq3 ?_
      refine lv_astore (lv' := [(8, .ref q9), (0, .ref (h 0)), (1, .int x), (2, .long pr), (4, .int ep), (5, .int sq), (6, .int la), (7, .ref (h 30))]) hx hb dL_offers_20 hl (by decide) rfl (fun ls hl => ?_)
      refine lv_iconst (v := nI 1) hx hb dL_offers_22 (by decide +kernel) ?_
      exact xh_iret hx hb hr (.inr u) (Or.inl ⟨rfl, hpx9⟩) hP hK hD hS dL_offers_23 hlocks
    · subst e9
      refine vx_catch (name := xIS) (E := xIS) hown [⟨0, 17, 20, 13⟩] ⟨0, 17, 24, 15⟩ [] (by rw [htab]; rfl) (fun z hz => by rw [List.mem_singleton.mp hz]; exact Or.inr ⟨by decide, xIA, hts (.classLink RL 13 "java/lang/IllegalArgumentException") (mm aw_105), hX.2⟩) (by decide) (by decide) (hts (.classLink RL 15 "java/lang/IllegalStateException") (mm aw_106)) (va_Nw.use rfl hX.1.2.2.1.2.1) hq1 hq2 hq3 ?_
      refine lv_astore (lv' := [(8, .ref q9), (0, .ref (h 0)), (1, .int x), (2, .long pr), (4, .int ep), (5, .int sq), (6, .int la), (7, .ref (h 30))]) hx hb dL_offers_24 hl (by decide) rfl (fun ls hl => ?_)
      refine lv_iconst (v := nI 2) hx hb dL_offers_26 (by decide +kernel) ?_
      exact xh_iret hx hb hr (.inr u) (Or.inr ⟨rfl, hpx9⟩) hP hK hD hS dL_offers_27 hlocks
  · have hw9 := hw
    refine lv_i2l (v := r.toInt64) hx hb dL_offers_15 rfl ?_
    refine xh_last hx hb hK hP hD hS 0 1 rfl rfl (k := 0) (by decide) (by decide) dL_offers_16 (fun H locs hP hD hS => ?_)
    have hP : va_P (dC, dI) classes (wOut cJ h (vp_updL f 0 r.toInt64) ++ (fun (u : pb_St × (Nat → Int32) × Int32 × (Nat → Int32)) => wPB h ++ wLog cI cJ h u.1.1 u.1.2.1 u.1.2.2.1 u.1.2.2.2.1 u.1.2.2.2.2.1 u.2.1 (nI u.1.2.2.2.2.2.1) (nI u.1.2.2.2.2.2.2) ++ wKn cI h u.2.2.1 u.2.2.2) u) H := hP
    have hD : va_D A (wOut cJ h (vp_updL f 0 r.toInt64) ++ (fun (u : pb_St × (Nat → Int32) × Int32 × (Nat → Int32)) => wPB h ++ wLog cI cJ h u.1.1 u.1.2.1 u.1.2.2.1 u.1.2.2.2.1 u.1.2.2.2.2.1 u.2.1 (nI u.1.2.2.2.2.2.1) (nI u.1.2.2.2.2.2.2) ++ wKn cI h u.2.2.1 u.2.2.2) u) := hD
    refine lv_goto (tgt := 28) hx hb dL_offers_17 (by decide) ?_
    refine lv_iconst (v := nI 0) hx hb dL_offers_28 (by decide +kernel) ?_
    exact xh_iret hx hb hr (.inl (r, u)) (⟨rfl, hw9⟩) hP hK hD hS dL_offers_29 hlocks

set_option maxHeartbeats 4000000 in
set_option maxRecDepth 100000 in
theorem w_drop (l : Launch) (dC : Nat → ClassId) (dI : Nat → Nat → Nat) (cI cJ : ClassId) (h : Nat → Nat) (sz : Nat) (B : Nat → Int32) (P : Nat → Int64) (E S L N : Nat → Int32) (n ed : Nat) (Fz : Nat → Int32) (kn0 : Int32) (x : Int32) (f : Nat → Int64) (hl0 : l.stackTraces = false) (hn : n ≤ 2000) (hed : ed ≤ 1000000) (hN : ∀ k, k < n → N k = nI (pb_nv P n k)) : Met l yL_drop wsL_drop ({ frames := 7, cells := 1, slots := 6, locals := 260 } : Room) (va_Pc [.ref (h 0), .int x, .ref (h 30)] (fun U => xP (dC, dI) classes [(cI, FieldType.int), (cJ, FieldType.long)] (wOut cJ h f ++ wPB h ++ wLog cI cJ h B P E S L N (nI n) (nI ed) ++ wKn cI h kn0 Fz) sz U ∧ xX2 (va_A (wOut cJ h f ++ wPB h ++ wLog cI cJ h B P E S L N (nI n) (nI ed) ++ wKn cI h kn0 Fz) sz) U)) (va_Qi (fun (r : Int32) (u : (Int32 × (Nat)) ⊕ (Unit)) => match u with | .inl z => r = nI 0 ∧ (fun (r : Int32) (g : Nat) => x = nI g ∧ g ≤ 2000 ∧ r = nI (min g n)) z.1 z.2 | .inr z => (r = nI 1 ∧ (fun (E9 : String) (_ : Unit) => E9 = xIA ∧ ¬ (¬ x < 0 ∧ x ≤ nI 2000)) xIA z)) (fun u => xB (dC, dI) classes [(cI, FieldType.int), (cJ, FieldType.long)] (va_A (wOut cJ h f ++ wPB h ++ wLog cI cJ h B P E S L N (nI n) (nI ed) ++ wKn cI h kn0 Fz) sz) ((fun (u : (Int32 × (Nat)) ⊕ (Unit)) => match u with | .inl z => wOut cJ h (vp_updL f 0 z.1.toInt64) ++ (fun (g : Nat) => wPB h ++ wLog cI cJ h (va_cpy B B (min g n) 0 (n - min g n)) (va_cpy P P (min g n) 0 (n - min g n)) (va_cpy E E (min g n) 0 (n - min g n)) (va_cpy S S (min g n) 0 (n - min g n)) (va_cpy L L (min g n) 0 (n - min g n)) (va_cpy N N (min g n) 0 (n - min g n)) (nI (n - min g n)) (nI ed) ++ wKn cI h kn0 Fz) z.2 | .inr z => wOut cJ h f ++ (fun (_ : Unit) => wPB h ++ wLog cI cJ h B P E S L N (nI n) (nI ed) ++ wKn cI h kn0 Fz) z) u)) (va_A (wOut cJ h f ++ wPB h ++ wLog cI cJ h B P E S L N (nI n) (nI ed) ++ wKn cI h kn0 Fz) sz)) 1 6 (va_A (wOut cJ h f ++ wPB h ++ wLog cI cJ h B P E S L N (nI n) (nI ed) ++ wKn cI h kn0 Fz) sz) := by
  refine va_MetW (cc := cL_drop) (maxL := 4) (ret := (some .int)) (hh := [(0, 9, 12, 13)]) (by decide) rfl ?_
  intro p e s m args below meth c s₁ BB hml hv
  obtain ⟨rfl, ⟨hsz, hP, hK, hD0⟩, hX⟩ := hv
  have hx := BB.exec
  have hb := BB.bytes
  have hr := BB.returns
  have hts := atoms_spec (ws := wsL_drop) BB.pre
  have htab := vx_table (x := yL_drop) BB (hts _ List.mem_cons_self)
  have hown : s.vm.findClass RL = some m.cls := findClass_of_methodNamed BB.named
  have hlocks := BB.notSynchronized
  subst hsz
  have hD := hD0.self (sz := s.heap.size)
  generalize hAe : va_A (wOut cJ h f ++ wPB h ++ wLog cI cJ h B P E S L N (nI n) (nI ed) ++ wKn cI h kn0 Fz) s.heap.size = A at hD hX ⊢
  have hA : ∀ q : Nat, s.heap.size ≤ q → A q := fun q h => by rw [← hAe]; exact Or.inr h
  have hS : va_S A s.heap s.heap [] := va_S.rf
  have hl := lv_entry ([.ref (h 0), .int x, .ref (h 30)]) (n := 4) (Nat.le_of_ble_eq_true rfl)
  rw [lg_entry_eq]
  generalize (lg_sl ([.ref (h 0), .int x, .ref (h 30)]) ++ List.replicate (4 - (lg_sl ([.ref (h 0), .int x, .ref (h 30)])).length) Slot.unset).toArray = ls at hl ⊢
  have hl : lv_has ls 4 [(0, .ref (h 0)), (1, .int x), (2, .ref (h 30))] := hl
  have hP : va_P (dC, dI) classes (wOut cJ h f ++ wPB h ++ wLog cI cJ h B P E S L N (nI n) (nI ed) ++ wKn cI h kn0 Fz) s.heap := hP
  refine lv_aload_n hx hb dL_drop_0 rfl (lv_at hl 2 rfl) ?_
  refine lv_iconst (v := nI 0) hx hb dL_drop_1 (by decide +kernel) ?_
  refine lv_aload_n hx hb dL_drop_2 rfl (lv_at hl 0 rfl) ?_
  refine lv_iload_n hx hb dL_drop_3 rfl (lv_at hl 1 rfl) ?_
  refine xh_vcalli (wc := wPB h ++ wLog cI cJ h B P E S L N (nI n) (nI ed) ++ wKn cI h kn0 Fz) (wr := wOut cJ h f) (w1 := fun (u : Nat) => (fun (g : Nat) => wPB h ++ wLog cI cJ h (va_cpy B B (min g n) 0 (n - min g n)) (va_cpy P P (min g n) 0 (n - min g n)) (va_cpy E E (min g n) 0 (n - min g n)) (va_cpy S S (min g n) 0 (n - min g n)) (va_cpy L L (min g n) 0 (n - min g n)) (va_cpy N N (min g n) 0 (n - min g n)) (nI (n - min g n)) (nI ed) ++ wKn cI h kn0 Fz) u) (wx := fun (u : Unit) => (fun (_ : Unit) => wPB h ++ wLog cI cJ h B P E S L N (nI n) (nI ed) ++ wKn cI h kn0 Fz) u) hP hD hS hA [1, 2, 3, 4, 5, 6, 7, 8, 9, 10] [0] rfl rfl (by decide) (by decide) (vx_runV (As := [.int x]) (rest := [.int (nI 0), .ref (h 30)]) ⟨hx, hb, hml, hown, hts⟩ (c_PB_drop l dC dI cI cJ h s.heap.size B P E S L N n ed Fz kn0 x hl0 hn hed hN) (cwV 1 hts (aw_V aw_257 aw_258 aw_259 aw_1 aw_260) rfl rfl rfl (by decide +kernel) ⟨Nat.le_of_ble_eq_true rfl, Nat.le_of_ble_eq_true rfl⟩) (xh_preVX (r0 := 0) hK hX.1 hS (va_free hD hS hA [1, 2, 3, 4, 5, 6, 7, 8, 9, 10] rfl) (hP.sub (ws' := wPB h ++ wLog cI cJ h B P E S L N (nI n) (nI ed) ++ wKn cI h kn0 Fz) [1, 2, 3, 4, 5, 6, 7, 8, 9, 10] rfl) (hD.sub (ws' := wPB h ++ wLog cI cJ h B P E S L N (nI n) (nI ed) ++ wKn cI h kn0 Fz) [1, 2, 3, 4, 5, 6, 7, 8, 9, 10] (by decide) rfl) rfl rfl rfl) rfl rfl hl.1 rfl (lv_room (Nat.le_of_ble_eq_true rfl)) dL_drop_4 ⟨Nat.le_of_ble_eq_true rfl, Nat.le_of_ble_eq_true rfl⟩) (fun E9 ce q9 u H locs hpx hP hD hS hq1 hq2 hq3 => ?_) (fun r u H locs hw hP hD hS => ?_)
  · have hpx9 := hpx
    obtain ⟨e9, _⟩ := hpx
    subst e9
    refine vx_catch (name := xIA) (E := xIA) hown [] ⟨0, 9, 12, 13⟩ [] (by rw [htab]; rfl) (fun z hz => by cases hz) (by decide) (by decide) (hts (.classLink RL 13 "java/lang/IllegalArgumentException") (mm aw_105)) (va_Nw.use rfl hX.1.2.2.1.1) hq1 hq2 hq3 ?_
    refine lv_astore_n (lv' := [(3, .ref q9), (0, .ref (h 0)), (1, .int x), (2, .ref (h 30))]) hx hb dL_drop_12 rfl hl (by decide) rfl (fun ls hl => ?_)
    refine lv_iconst (v := nI 1) hx hb dL_drop_13 (by decide +kernel) ?_
    exact xh_iret hx hb hr (.inr u) (⟨rfl, hpx9⟩) hP hK hD hS dL_drop_14 hlocks
  · have hw9 := hw
    refine lv_i2l (v := r.toInt64) hx hb dL_drop_7 rfl ?_
    refine xh_last hx hb hK hP hD hS 0 1 rfl rfl (k := 0) (by decide) (by decide) dL_drop_8 (fun H locs hP hD hS => ?_)
    have hP : va_P (dC, dI) classes (wOut cJ h (vp_updL f 0 r.toInt64) ++ (fun (g : Nat) => wPB h ++ wLog cI cJ h (va_cpy B B (min g n) 0 (n - min g n)) (va_cpy P P (min g n) 0 (n - min g n)) (va_cpy E E (min g n) 0 (n - min g n)) (va_cpy S S (min g n) 0 (n - min g n)) (va_cpy L L (min g n) 0 (n - min g n)) (va_cpy N N (min g n) 0 (n - min g n)) (nI (n - min g n)) (nI ed) ++ wKn cI h kn0 Fz) u) H := hP
    have hD : va_D A (wOut cJ h (vp_updL f 0 r.toInt64) ++ (fun (g : Nat) => wPB h ++ wLog cI cJ h (va_cpy B B (min g n) 0 (n - min g n)) (va_cpy P P (min g n) 0 (n - min g n)) (va_cpy E E (min g n) 0 (n - min g n)) (va_cpy S S (min g n) 0 (n - min g n)) (va_cpy L L (min g n) 0 (n - min g n)) (va_cpy N N (min g n) 0 (n - min g n)) (nI (n - min g n)) (nI ed) ++ wKn cI h kn0 Fz) u) := hD
    refine lv_goto (tgt := 15) hx hb dL_drop_9 (by decide) ?_
    refine lv_iconst (v := nI 0) hx hb dL_drop_15 (by decide +kernel) ?_
    exact xh_iret hx hb hr (.inl (r, u)) (⟨rfl, hw9⟩) hP hK hD hS dL_drop_16 hlocks

set_option maxHeartbeats 4000000 in
set_option maxRecDepth 100000 in
theorem w_known (l : Launch) (dC : Nat → ClassId) (dI : Nat → Nat → Nat) (cI cJ : ClassId) (h : Nat → Nat) (sz : Nat) (B : Nat → Int32) (P : Nat → Int64) (E S L N : Nat → Int32) (n ed : Nat) (Fz : Nat → Int32) (kn0 : Int32) (pr : Int64) (y : Int32) (f : Nat → Int64) (hl0 : l.stackTraces = false) (hn : n ≤ 2000) (hed : ed ≤ 1000000) (hN : ∀ k, k < n → N k = nI (pb_nv P n k)) : Met l yL_known wsL_known ({ frames := 7, cells := 1, slots := 6, locals := 260 } : Room) (va_Pc [.ref (h 0), .long pr, .int y, .ref (h 30)] (fun U => xP (dC, dI) classes [(cI, FieldType.int), (cJ, FieldType.long)] (wOut cJ h f ++ wPB h ++ wLog cI cJ h B P E S L N (nI n) (nI ed) ++ wKn cI h kn0 Fz) sz U ∧ xX2 (va_A (wOut cJ h f ++ wPB h ++ wLog cI cJ h B P E S L N (nI n) (nI ed) ++ wKn cI h kn0 Fz) sz) U)) (va_Qi (fun (r : Int32) (u : (Int32 × (Nat × Int32 × (Nat → Int32))) ⊕ (Unit)) => match u with | .inl z => r = nI 0 ∧ (fun (r : Int32) (u : Nat × Int32 × (Nat → Int32)) => ¬ pr < 0 ∧ y = nI u.1 ∧ u.1 ≤ 4 ∧ r = pb_kno B P E S L n pr u.1) z.1 z.2 | .inr z => (r = nI 1 ∧ (fun (E9 : String) (_ : Unit) => E9 = xIA ∧ ¬ (¬ pr < 0 ∧ ¬ y < 0 ∧ y ≤ nI 4)) xIA z)) (fun u => xB (dC, dI) classes [(cI, FieldType.int), (cJ, FieldType.long)] (va_A (wOut cJ h f ++ wPB h ++ wLog cI cJ h B P E S L N (nI n) (nI ed) ++ wKn cI h kn0 Fz) sz) ((fun (u : (Int32 × (Nat × Int32 × (Nat → Int32))) ⊕ (Unit)) => match u with | .inl z => wOut cJ h (vp_updL f 0 z.1.toInt64) ++ (fun (u : Nat × Int32 × (Nat → Int32)) => wPB h ++ wLog cI cJ h B P E S L N (nI n) (nI ed) ++ wKn cI h u.2.1 u.2.2) z.2 | .inr z => wOut cJ h f ++ (fun (_ : Unit) => wPB h ++ wLog cI cJ h B P E S L N (nI n) (nI ed) ++ wKn cI h kn0 Fz) z) u)) (va_A (wOut cJ h f ++ wPB h ++ wLog cI cJ h B P E S L N (nI n) (nI ed) ++ wKn cI h kn0 Fz) sz)) 1 6 (va_A (wOut cJ h f ++ wPB h ++ wLog cI cJ h B P E S L N (nI n) (nI ed) ++ wKn cI h kn0 Fz) sz) := by
  refine va_MetW (cc := cL_known) (maxL := 6) (ret := (some .int)) (hh := [(0, 11, 14, 13)]) (by decide) rfl ?_
  intro p e s m args below meth c s₁ BB hml hv
  obtain ⟨rfl, ⟨hsz, hP, hK, hD0⟩, hX⟩ := hv
  have hx := BB.exec
  have hb := BB.bytes
  have hr := BB.returns
  have hts := atoms_spec (ws := wsL_known) BB.pre
  have htab := vx_table (x := yL_known) BB (hts _ List.mem_cons_self)
  have hown : s.vm.findClass RL = some m.cls := findClass_of_methodNamed BB.named
  have hlocks := BB.notSynchronized
  subst hsz
  have hD := hD0.self (sz := s.heap.size)
  generalize hAe : va_A (wOut cJ h f ++ wPB h ++ wLog cI cJ h B P E S L N (nI n) (nI ed) ++ wKn cI h kn0 Fz) s.heap.size = A at hD hX ⊢
  have hA : ∀ q : Nat, s.heap.size ≤ q → A q := fun q h => by rw [← hAe]; exact Or.inr h
  have hS : va_S A s.heap s.heap [] := va_S.rf
  have hl := lv_entry ([.ref (h 0), .long pr, .int y, .ref (h 30)]) (n := 6) (Nat.le_of_ble_eq_true rfl)
  rw [lg_entry_eq]
  generalize (lg_sl ([.ref (h 0), .long pr, .int y, .ref (h 30)]) ++ List.replicate (6 - (lg_sl ([.ref (h 0), .long pr, .int y, .ref (h 30)])).length) Slot.unset).toArray = ls at hl ⊢
  have hl : lv_has ls 6 [(0, .ref (h 0)), (1, .long pr), (3, .int y), (4, .ref (h 30))] := hl
  have hP : va_P (dC, dI) classes (wOut cJ h f ++ wPB h ++ wLog cI cJ h B P E S L N (nI n) (nI ed) ++ wKn cI h kn0 Fz) s.heap := hP
  refine lv_aload hx hb dL_known_0 (lv_at hl 3 rfl) ?_
  refine lv_iconst (v := nI 0) hx hb dL_known_2 (by decide +kernel) ?_
  refine lv_aload_n hx hb dL_known_3 rfl (lv_at hl 0 rfl) ?_
  refine lv_lload_n hx hb dL_known_4 rfl (lv_at hl 1 rfl) ?_
  refine lv_iload_n hx hb dL_known_5 rfl (lv_at hl 2 rfl) ?_
  refine xh_vcalli (wc := wPB h ++ wLog cI cJ h B P E S L N (nI n) (nI ed) ++ wKn cI h kn0 Fz) (wr := wOut cJ h f) (w1 := fun (u : Nat × Int32 × (Nat → Int32)) => (fun (u : Nat × Int32 × (Nat → Int32)) => wPB h ++ wLog cI cJ h B P E S L N (nI n) (nI ed) ++ wKn cI h u.2.1 u.2.2) u) (wx := fun (u : Unit) => (fun (_ : Unit) => wPB h ++ wLog cI cJ h B P E S L N (nI n) (nI ed) ++ wKn cI h kn0 Fz) u) hP hD hS hA [1, 2, 3, 4, 5, 6, 7, 8, 9, 10] [0] rfl rfl (by decide) (by decide) (vx_runV (As := [.long pr, .int y]) (rest := [.int (nI 0), .ref (h 30)]) ⟨hx, hb, hml, hown, hts⟩ (c_PB_known l dC dI cI cJ h s.heap.size B P E S L N n ed Fz kn0 pr y hl0 hn hed hN) (cwV 2 hts (aw_V aw_272 aw_273 aw_274 aw_1 aw_275) rfl rfl rfl (by decide +kernel) ⟨Nat.le_of_ble_eq_true rfl, Nat.le_of_ble_eq_true rfl⟩) (xh_preVX (r0 := 0) hK hX.1 hS (va_free hD hS hA [1, 2, 3, 4, 5, 6, 7, 8, 9, 10] rfl) (hP.sub (ws' := wPB h ++ wLog cI cJ h B P E S L N (nI n) (nI ed) ++ wKn cI h kn0 Fz) [1, 2, 3, 4, 5, 6, 7, 8, 9, 10] rfl) (hD.sub (ws' := wPB h ++ wLog cI cJ h B P E S L N (nI n) (nI ed) ++ wKn cI h kn0 Fz) [1, 2, 3, 4, 5, 6, 7, 8, 9, 10] (by decide) rfl) rfl rfl rfl) rfl rfl hl.1 rfl (lv_room (Nat.le_of_ble_eq_true rfl)) dL_known_6 ⟨Nat.le_of_ble_eq_true rfl, Nat.le_of_ble_eq_true rfl⟩) (fun E9 ce q9 u H locs hpx hP hD hS hq1 hq2 hq3 => ?_) (fun r u H locs hw hP hD hS => ?_)
  · have hpx9 := hpx
    obtain ⟨e9, _⟩ := hpx
    subst e9
    refine vx_catch (name := xIA) (E := xIA) hown [] ⟨0, 11, 14, 13⟩ [] (by rw [htab]; rfl) (fun z hz => by cases hz) (by decide) (by decide) (hts (.classLink RL 13 "java/lang/IllegalArgumentException") (mm aw_105)) (va_Nw.use rfl hX.1.2.2.1.1) hq1 hq2 hq3 ?_
    refine lv_astore (lv' := [(5, .ref q9), (0, .ref (h 0)), (1, .long pr), (3, .int y), (4, .ref (h 30))]) hx hb dL_known_14 hl (by decide) rfl (fun ls hl => ?_)
    refine lv_iconst (v := nI 1) hx hb dL_known_16 (by decide +kernel) ?_
    exact xh_iret hx hb hr (.inr u) (⟨rfl, hpx9⟩) hP hK hD hS dL_known_17 hlocks
  · have hw9 := hw
    refine lv_i2l (v := r.toInt64) hx hb dL_known_9 rfl ?_
    refine xh_last hx hb hK hP hD hS 0 1 rfl rfl (k := 0) (by decide) (by decide) dL_known_10 (fun H locs hP hD hS => ?_)
    have hP : va_P (dC, dI) classes (wOut cJ h (vp_updL f 0 r.toInt64) ++ (fun (u : Nat × Int32 × (Nat → Int32)) => wPB h ++ wLog cI cJ h B P E S L N (nI n) (nI ed) ++ wKn cI h u.2.1 u.2.2) u) H := hP
    have hD : va_D A (wOut cJ h (vp_updL f 0 r.toInt64) ++ (fun (u : Nat × Int32 × (Nat → Int32)) => wPB h ++ wLog cI cJ h B P E S L N (nI n) (nI ed) ++ wKn cI h u.2.1 u.2.2) u) := hD
    refine lv_goto (tgt := 18) hx hb dL_known_11 (by decide) ?_
    refine lv_iconst (v := nI 0) hx hb dL_known_18 (by decide +kernel) ?_
    exact xh_iret hx hb hr (.inl (r, u)) (⟨rfl, hw9⟩) hP hK hD hS dL_known_19 hlocks

set_option maxHeartbeats 4000000 in
set_option maxRecDepth 100000 in
theorem w_batch (l : Launch) (dC : Nat → ClassId) (dI : Nat → Nat → Nat) (cI cJ : ClassId) (h : Nat → Nat) (sz : Nat) (B : Nat → Int32) (P : Nat → Int64) (E S L N : Nat → Int32) (n ed : Nat) (Fz : Nat → Int32) (kn0 : Int32) (x y : Int32) (f : Nat → Int64) (hl0 : l.stackTraces = false) (hn : n ≤ 2000) (hed : ed ≤ 1000000) (hN : ∀ k, k < n → N k = nI (pb_nv P n k)) : Met l yL_batch wsL_batch ({ frames := 7, cells := 1, slots := 6, locals := 260 } : Room) (va_Pc [.ref (h 0), .int x, .int y, .ref (h 30)] (fun U => xP (dC, dI) classes [(cI, FieldType.int), (cJ, FieldType.long)] (wOut cJ h f ++ wPB h ++ wLog cI cJ h B P E S L N (nI n) (nI ed) ++ wKn cI h kn0 Fz) sz U ∧ xX2 (va_A (wOut cJ h f ++ wPB h ++ wLog cI cJ h B P E S L N (nI n) (nI ed) ++ wKn cI h kn0 Fz) sz) U)) (va_Qi (fun (r : Int32) (u : (Int64 × (Nat × Nat)) ⊕ (Unit)) => match u with | .inl z => r = nI 0 ∧ (fun (r : Int64) (u : Nat × Nat) => x = nI u.1 ∧ u.1 < n ∧ y = nI u.2 ∧ u.2 ≤ 5 ∧ r = pb_bat B P E S L n u.1 u.2) z.1 z.2 | .inr z => (r = nI 1 ∧ (fun (E9 : String) (_ : Unit) => E9 = xIA ∧ ¬ (¬ x < 0 ∧ ¬ nI n ≤ x ∧ ¬ y < 0 ∧ y ≤ nI 5)) xIA z)) (fun u => xB (dC, dI) classes [(cI, FieldType.int), (cJ, FieldType.long)] (va_A (wOut cJ h f ++ wPB h ++ wLog cI cJ h B P E S L N (nI n) (nI ed) ++ wKn cI h kn0 Fz) sz) ((fun (u : (Int64 × (Nat × Nat)) ⊕ (Unit)) => match u with | .inl z => wOut cJ h (vp_updL f 0 z.1) ++ (fun (_ : Nat × Nat) => wPB h ++ wLog cI cJ h B P E S L N (nI n) (nI ed) ++ wKn cI h kn0 Fz) z.2 | .inr z => wOut cJ h f ++ (fun (_ : Unit) => wPB h ++ wLog cI cJ h B P E S L N (nI n) (nI ed) ++ wKn cI h kn0 Fz) z) u)) (va_A (wOut cJ h f ++ wPB h ++ wLog cI cJ h B P E S L N (nI n) (nI ed) ++ wKn cI h kn0 Fz) sz)) 1 6 (va_A (wOut cJ h f ++ wPB h ++ wLog cI cJ h B P E S L N (nI n) (nI ed) ++ wKn cI h kn0 Fz) sz) := by
  refine va_MetW (cc := cL_batch) (maxL := 5) (ret := (some .int)) (hh := [(0, 9, 12, 13)]) (by decide) rfl ?_
  intro p e s m args below meth c s₁ BB hml hv
  obtain ⟨rfl, ⟨hsz, hP, hK, hD0⟩, hX⟩ := hv
  have hx := BB.exec
  have hb := BB.bytes
  have hr := BB.returns
  have hts := atoms_spec (ws := wsL_batch) BB.pre
  have htab := vx_table (x := yL_batch) BB (hts _ List.mem_cons_self)
  have hown : s.vm.findClass RL = some m.cls := findClass_of_methodNamed BB.named
  have hlocks := BB.notSynchronized
  subst hsz
  have hD := hD0.self (sz := s.heap.size)
  generalize hAe : va_A (wOut cJ h f ++ wPB h ++ wLog cI cJ h B P E S L N (nI n) (nI ed) ++ wKn cI h kn0 Fz) s.heap.size = A at hD hX ⊢
  have hA : ∀ q : Nat, s.heap.size ≤ q → A q := fun q h => by rw [← hAe]; exact Or.inr h
  have hS : va_S A s.heap s.heap [] := va_S.rf
  have hl := lv_entry ([.ref (h 0), .int x, .int y, .ref (h 30)]) (n := 5) (Nat.le_of_ble_eq_true rfl)
  rw [lg_entry_eq]
  generalize (lg_sl ([.ref (h 0), .int x, .int y, .ref (h 30)]) ++ List.replicate (5 - (lg_sl ([.ref (h 0), .int x, .int y, .ref (h 30)])).length) Slot.unset).toArray = ls at hl ⊢
  have hl : lv_has ls 5 [(0, .ref (h 0)), (1, .int x), (2, .int y), (3, .ref (h 30))] := hl
  have hP : va_P (dC, dI) classes (wOut cJ h f ++ wPB h ++ wLog cI cJ h B P E S L N (nI n) (nI ed) ++ wKn cI h kn0 Fz) s.heap := hP
  refine lv_aload_n hx hb dL_batch_0 rfl (lv_at hl 3 rfl) ?_
  refine lv_iconst (v := nI 0) hx hb dL_batch_1 (by decide +kernel) ?_
  refine lv_aload_n hx hb dL_batch_2 rfl (lv_at hl 0 rfl) ?_
  refine lv_iload_n hx hb dL_batch_3 rfl (lv_at hl 1 rfl) ?_
  refine lv_iload_n hx hb dL_batch_4 rfl (lv_at hl 2 rfl) ?_
  refine xh_vcalll (wc := wPB h ++ wLog cI cJ h B P E S L N (nI n) (nI ed) ++ wKn cI h kn0 Fz) (wr := wOut cJ h f) (w1 := fun (u : Nat × Nat) => (fun (_ : Nat × Nat) => wPB h ++ wLog cI cJ h B P E S L N (nI n) (nI ed) ++ wKn cI h kn0 Fz) u) (wx := fun (u : Unit) => (fun (_ : Unit) => wPB h ++ wLog cI cJ h B P E S L N (nI n) (nI ed) ++ wKn cI h kn0 Fz) u) hP hD hS hA [1, 2, 3, 4, 5, 6, 7, 8, 9, 10] [0] rfl rfl (by decide) (by decide) (vx_runV (As := [.int x, .int y]) (rest := [.int (nI 0), .ref (h 30)]) ⟨hx, hb, hml, hown, hts⟩ (c_PB_batch l dC dI cI cJ h s.heap.size B P E S L N n ed Fz kn0 x y hl0 hn hed hN) (cwV 2 hts (aw_V aw_284 aw_285 aw_286 aw_1 aw_287) rfl rfl rfl (by decide +kernel) ⟨Nat.le_of_ble_eq_true rfl, Nat.le_of_ble_eq_true rfl⟩) (xh_preVX (r0 := 0) hK hX.1 hS (va_free hD hS hA [1, 2, 3, 4, 5, 6, 7, 8, 9, 10] rfl) (hP.sub (ws' := wPB h ++ wLog cI cJ h B P E S L N (nI n) (nI ed) ++ wKn cI h kn0 Fz) [1, 2, 3, 4, 5, 6, 7, 8, 9, 10] rfl) (hD.sub (ws' := wPB h ++ wLog cI cJ h B P E S L N (nI n) (nI ed) ++ wKn cI h kn0 Fz) [1, 2, 3, 4, 5, 6, 7, 8, 9, 10] (by decide) rfl) rfl rfl rfl) rfl rfl hl.1 rfl (lv_room (Nat.le_of_ble_eq_true rfl)) dL_batch_5 ⟨Nat.le_of_ble_eq_true rfl, Nat.le_of_ble_eq_true rfl⟩) (fun E9 ce q9 u H locs hpx hP hD hS hq1 hq2 hq3 => ?_) (fun r u H locs hw hP hD hS => ?_)
  · have hpx9 := hpx
    obtain ⟨e9, _⟩ := hpx
    subst e9
    refine vx_catch (name := xIA) (E := xIA) hown [] ⟨0, 9, 12, 13⟩ [] (by rw [htab]; rfl) (fun z hz => by cases hz) (by decide) (by decide) (hts (.classLink RL 13 "java/lang/IllegalArgumentException") (mm aw_105)) (va_Nw.use rfl hX.1.2.2.1.1) hq1 hq2 hq3 ?_
    refine lv_astore (lv' := [(4, .ref q9), (0, .ref (h 0)), (1, .int x), (2, .int y), (3, .ref (h 30))]) hx hb dL_batch_12 hl (by decide) rfl (fun ls hl => ?_)
    refine lv_iconst (v := nI 1) hx hb dL_batch_14 (by decide +kernel) ?_
    exact xh_iret hx hb hr (.inr u) (⟨rfl, hpx9⟩) hP hK hD hS dL_batch_15 hlocks
  · have hw9 := hw
    refine xh_last hx hb hK hP hD hS 0 1 rfl rfl (k := 0) (by decide) (by decide) dL_batch_8 (fun H locs hP hD hS => ?_)
    have hP : va_P (dC, dI) classes (wOut cJ h (vp_updL f 0 r) ++ (fun (_ : Nat × Nat) => wPB h ++ wLog cI cJ h B P E S L N (nI n) (nI ed) ++ wKn cI h kn0 Fz) u) H := hP
    have hD : va_D A (wOut cJ h (vp_updL f 0 r) ++ (fun (_ : Nat × Nat) => wPB h ++ wLog cI cJ h B P E S L N (nI n) (nI ed) ++ wKn cI h kn0 Fz) u) := hD
    refine lv_goto (tgt := 16) hx hb dL_batch_9 (by decide) ?_
    refine lv_iconst (v := nI 0) hx hb dL_batch_16 (by decide +kernel) ?_
    exact xh_iret hx hb hr (.inl (r, u)) (⟨rfl, hw9⟩) hP hK hD hS dL_batch_17 hlocks

set_option maxHeartbeats 4000000 in
set_option maxRecDepth 100000 in
theorem w_count (l : Launch) (dC : Nat → ClassId) (dI : Nat → Nat → Nat) (cI cJ : ClassId) (h : Nat → Nat) (sz : Nat) (B : Nat → Int32) (P : Nat → Int64) (E S L N : Nat → Int32) (n ed : Nat) (Fz : Nat → Int32) (kn0 : Int32) (x : Int32) (f : Nat → Int64) (hl0 : l.stackTraces = false) (hn : n ≤ 2000) (hed : ed ≤ 1000000) (hN : ∀ k, k < n → N k = nI (pb_nv P n k)) : Met l yL_count wsL_count ({ frames := 7, cells := 1, slots := 6, locals := 260 } : Room) (va_Pc [.ref (h 0), .int x, .ref (h 30)] (fun U => xP (dC, dI) classes [(cI, FieldType.int), (cJ, FieldType.long)] (wOut cJ h f ++ wPB h ++ wLog cI cJ h B P E S L N (nI n) (nI ed) ++ wKn cI h kn0 Fz) sz U ∧ xX2 (va_A (wOut cJ h f ++ wPB h ++ wLog cI cJ h B P E S L N (nI n) (nI ed) ++ wKn cI h kn0 Fz) sz) U)) (va_Qi (fun (r : Int32) (u : (Int32 × (Unit)) ⊕ (Unit)) => match u with | .inl z => r = nI 0 ∧ (fun (r : Int32) (_ : Unit) => (x = nI 0 ∧ r = nI n) ∨ (x = nI 1 ∧ r = nI (pb_c0 N n)) ∨ (x = nI 2 ∧ r = nI ed)) z.1 z.2 | .inr z => (r = nI 1 ∧ (fun (E9 : String) (_ : Unit) => E9 = xIA ∧ ¬ x = nI 0 ∧ ¬ x = nI 1 ∧ ¬ x = nI 2) xIA z)) (fun u => xB (dC, dI) classes [(cI, FieldType.int), (cJ, FieldType.long)] (va_A (wOut cJ h f ++ wPB h ++ wLog cI cJ h B P E S L N (nI n) (nI ed) ++ wKn cI h kn0 Fz) sz) ((fun (u : (Int32 × (Unit)) ⊕ (Unit)) => match u with | .inl z => wOut cJ h (vp_updL f 0 z.1.toInt64) ++ (fun (_ : Unit) => wPB h ++ wLog cI cJ h B P E S L N (nI n) (nI ed) ++ wKn cI h kn0 Fz) z.2 | .inr z => wOut cJ h f ++ (fun (_ : Unit) => wPB h ++ wLog cI cJ h B P E S L N (nI n) (nI ed) ++ wKn cI h kn0 Fz) z) u)) (va_A (wOut cJ h f ++ wPB h ++ wLog cI cJ h B P E S L N (nI n) (nI ed) ++ wKn cI h kn0 Fz) sz)) 1 6 (va_A (wOut cJ h f ++ wPB h ++ wLog cI cJ h B P E S L N (nI n) (nI ed) ++ wKn cI h kn0 Fz) sz) := by
  refine va_MetW (cc := cL_count) (maxL := 4) (ret := (some .int)) (hh := [(0, 9, 12, 13)]) (by decide) rfl ?_
  intro p e s m args below meth c s₁ BB hml hv
  obtain ⟨rfl, ⟨hsz, hP, hK, hD0⟩, hX⟩ := hv
  have hx := BB.exec
  have hb := BB.bytes
  have hr := BB.returns
  have hts := atoms_spec (ws := wsL_count) BB.pre
  have htab := vx_table (x := yL_count) BB (hts _ List.mem_cons_self)
  have hown : s.vm.findClass RL = some m.cls := findClass_of_methodNamed BB.named
  have hlocks := BB.notSynchronized
  subst hsz
  have hD := hD0.self (sz := s.heap.size)
  generalize hAe : va_A (wOut cJ h f ++ wPB h ++ wLog cI cJ h B P E S L N (nI n) (nI ed) ++ wKn cI h kn0 Fz) s.heap.size = A at hD hX ⊢
  have hA : ∀ q : Nat, s.heap.size ≤ q → A q := fun q h => by rw [← hAe]; exact Or.inr h
  have hS : va_S A s.heap s.heap [] := va_S.rf
  have hl := lv_entry ([.ref (h 0), .int x, .ref (h 30)]) (n := 4) (Nat.le_of_ble_eq_true rfl)
  rw [lg_entry_eq]
  generalize (lg_sl ([.ref (h 0), .int x, .ref (h 30)]) ++ List.replicate (4 - (lg_sl ([.ref (h 0), .int x, .ref (h 30)])).length) Slot.unset).toArray = ls at hl ⊢
  have hl : lv_has ls 4 [(0, .ref (h 0)), (1, .int x), (2, .ref (h 30))] := hl
  have hP : va_P (dC, dI) classes (wOut cJ h f ++ wPB h ++ wLog cI cJ h B P E S L N (nI n) (nI ed) ++ wKn cI h kn0 Fz) s.heap := hP
  refine lv_aload_n hx hb dL_count_0 rfl (lv_at hl 2 rfl) ?_
  refine lv_iconst (v := nI 0) hx hb dL_count_1 (by decide +kernel) ?_
  refine lv_aload_n hx hb dL_count_2 rfl (lv_at hl 0 rfl) ?_
  refine lv_iload_n hx hb dL_count_3 rfl (lv_at hl 1 rfl) ?_
  refine xh_vcalli (wc := wPB h ++ wLog cI cJ h B P E S L N (nI n) (nI ed) ++ wKn cI h kn0 Fz) (wr := wOut cJ h f) (w1 := fun (u : Unit) => (fun (_ : Unit) => wPB h ++ wLog cI cJ h B P E S L N (nI n) (nI ed) ++ wKn cI h kn0 Fz) u) (wx := fun (u : Unit) => (fun (_ : Unit) => wPB h ++ wLog cI cJ h B P E S L N (nI n) (nI ed) ++ wKn cI h kn0 Fz) u) hP hD hS hA [1, 2, 3, 4, 5, 6, 7, 8, 9, 10] [0] rfl rfl (by decide) (by decide) (vx_runV (As := [.int x]) (rest := [.int (nI 0), .ref (h 30)]) ⟨hx, hb, hml, hown, hts⟩ (c_PB_count l dC dI cI cJ h s.heap.size B P E S L N n ed Fz kn0 x hl0 hn hed hN) (cwV 1 hts (aw_V aw_293 aw_294 aw_295 aw_1 aw_296) rfl rfl rfl (by decide +kernel) ⟨Nat.le_of_ble_eq_true rfl, Nat.le_of_ble_eq_true rfl⟩) (xh_preVX (r0 := 0) hK hX.1 hS (va_free hD hS hA [1, 2, 3, 4, 5, 6, 7, 8, 9, 10] rfl) (hP.sub (ws' := wPB h ++ wLog cI cJ h B P E S L N (nI n) (nI ed) ++ wKn cI h kn0 Fz) [1, 2, 3, 4, 5, 6, 7, 8, 9, 10] rfl) (hD.sub (ws' := wPB h ++ wLog cI cJ h B P E S L N (nI n) (nI ed) ++ wKn cI h kn0 Fz) [1, 2, 3, 4, 5, 6, 7, 8, 9, 10] (by decide) rfl) rfl rfl rfl) rfl rfl hl.1 rfl (lv_room (Nat.le_of_ble_eq_true rfl)) dL_count_4 ⟨Nat.le_of_ble_eq_true rfl, Nat.le_of_ble_eq_true rfl⟩) (fun E9 ce q9 u H locs hpx hP hD hS hq1 hq2 hq3 => ?_) (fun r u H locs hw hP hD hS => ?_)
  · have hpx9 := hpx
    obtain ⟨e9, _⟩ := hpx
    subst e9
    refine vx_catch (name := xIA) (E := xIA) hown [] ⟨0, 9, 12, 13⟩ [] (by rw [htab]; rfl) (fun z hz => by cases hz) (by decide) (by decide) (hts (.classLink RL 13 "java/lang/IllegalArgumentException") (mm aw_105)) (va_Nw.use rfl hX.1.2.2.1.1) hq1 hq2 hq3 ?_
    refine lv_astore_n (lv' := [(3, .ref q9), (0, .ref (h 0)), (1, .int x), (2, .ref (h 30))]) hx hb dL_count_12 rfl hl (by decide) rfl (fun ls hl => ?_)
    refine lv_iconst (v := nI 1) hx hb dL_count_13 (by decide +kernel) ?_
    exact xh_iret hx hb hr (.inr u) (⟨rfl, hpx9⟩) hP hK hD hS dL_count_14 hlocks
  · have hw9 := hw
    refine lv_i2l (v := r.toInt64) hx hb dL_count_7 rfl ?_
    refine xh_last hx hb hK hP hD hS 0 1 rfl rfl (k := 0) (by decide) (by decide) dL_count_8 (fun H locs hP hD hS => ?_)
    have hP : va_P (dC, dI) classes (wOut cJ h (vp_updL f 0 r.toInt64) ++ (fun (_ : Unit) => wPB h ++ wLog cI cJ h B P E S L N (nI n) (nI ed) ++ wKn cI h kn0 Fz) u) H := hP
    have hD : va_D A (wOut cJ h (vp_updL f 0 r.toInt64) ++ (fun (_ : Unit) => wPB h ++ wLog cI cJ h B P E S L N (nI n) (nI ed) ++ wKn cI h kn0 Fz) u) := hD
    refine lv_goto (tgt := 15) hx hb dL_count_9 (by decide) ?_
    refine lv_iconst (v := nI 0) hx hb dL_count_15 (by decide +kernel) ?_
    exact xh_iret hx hb hr (.inl (r, u)) (⟨rfl, hw9⟩) hP hK hD hS dL_count_16 hlocks
