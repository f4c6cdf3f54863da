set_option maxHeartbeats 4000000 in
set_option maxRecDepth 100000 in
theorem whole_start {p : Program} {e : Env} {s : State} {m : MethodId} {below : List Frame} {meth : Method} {c : Code} (l : Launch) (hl0 : l.stackTraces = false) (hopen : ∀ (n ed : Nat) (B : Nat → Int32) (P : Nat → Int64) (E S L N B2 : Nat → Int32) (P2 : Nat → Int64) (E2 S2 L2 : Nat → Int32), pb_J n ed B P E S L N B2 P2 E2 S2 L2 → ∀ k, k < n → S k = S2 k) {b L0 : Nat} {xs : Nat → Int32} (hL : L0 ≤ 3584) (C0 : lw_At p s m meth c b L0 xs) : W p l e room_1 s m #[Value.ref b] below meth c s.heap [] 0 0 (lw_Z below #[Value.ref b] s) (entryFrame m ([Value.ref b] : List Value).toArray 8) := by
  obtain ⟨hx, hb, hr, hml, hown0, hts0, hXs, hbl, hlocks, hgv⟩ := id C0
  have hown : s.vm.findClass RL = some m.cls := hown0
  have hts : ∀ w ∈ Cond.initialized RL :: AW, w.before #[Value.ref b] s = true := fun w hw => (List.mem_cons.mp hw).elim (fun e9 => by rw [e9]; exact hts0 _ (aw_tbl aw_0)) (fun h9 => hts0 _ (aw_tbl h9))
  obtain ⟨A, eA⟩ : ∃ A : Nat → Prop, A = fun q : Nat => s.heap.size ≤ q := ⟨_, rfl⟩
  have hA : ∀ q : Nat, s.heap.size ≤ q → A q := fun q h => by rw [eA]; exact h
  have hA2 : ∀ q : Nat, A q → s.heap.size ≤ q := fun q h => by rw [eA] at h; exact h
  have hbA : ¬ A b := fun h => absurd (hA2 b h) (Nat.not_le.mpr hbl)
  have hX : xX2 A s := law_X hts0 hgv (fun a h1 h2 => absurd (hA2 a h2) (Nat.not_le.mpr h1))
  obtain ⟨dC, dI, cI, cJ, hK⟩ := law_K (args := #[Value.ref b]) (s := s) (fun w h => hts w (mm h))
  have hx1 : va_Nw (.methodLinkNest RX2 9 yX1_init RX2) s := va_Nw.of rfl (hts0 _ (List.mem_append_right _ (List.mem_of_getElem? (i := 22) rfl)))
  have hx2 : va_Nw (.methodLinkNest RX2 18 yX0_init RX2) s := va_Nw.of rfl (hts0 _ (List.mem_append_right _ (List.mem_of_getElem? (i := 62) rfl)))
  have hS : va_S A s.heap s.heap [] := va_S.rf
  have hP : va_P (dC, dI) classes [] s.heap := fun k q h => by simp at h
  have hD : va_D A [] := ⟨fun i j p q h => by simp at h, fun k q h => by simp at h⟩
  have hl := lv_entry ([.ref b]) (n := 8) (Nat.le_of_ble_eq_true rfl)
  rw [lg_entry_eq]
  generalize (lg_sl ([.ref b]) ++ List.replicate (8 - (lg_sl ([.ref b])).length) Slot.unset).toArray = ls at hl ⊢
  have hl : lv_has ls 8 [(0, .ref b)] := hl
  refine va_new (ci := 2) (fs := [.null, .null]) (C := RX2) (T := TX2) (N := 2) hx hb hts (fun w9 h9 => mm (inX2 w9 h9)) tyX2 tyX2_ok hown (hts (.classLink RL 8 RX2) (mm aw_12)) (hts (.instantiable RX2 2) (mm aw_13)) (hts (.initialized RX2) (mm aw_1)) hK hP hD hS hA rfl (fun j hj => by rcases (show j = 0 ∨ j = 1 by omega) with rfl | rfl <;> rfl) (Nat.le_of_ble_eq_true rfl) (Nat.le_of_ble_eq_true rfl) dL_law_0 (fun q_1 H hP hD hS => ?_)
  have hP : va_P (dC, dI) classes ([(q_1, .inr (2, [.null, .null]))]) H := hP
  have hD : va_D A ([(q_1, .inr (2, [.null, .null]))]) := hD
  refine lv_dup hx hb dL_law_3 rfl ?_
  have hPc := hP.sub (ws' := [(q_1, .inr (2, [.null, .null]))]) [0] rfl
  have hDc := hD.sub (ws' := [(q_1, .inr (2, [.null, .null]))]) [0] (by decide) rfl
  refine xh_callv (wc := [(q_1, .inr (2, [.null, .null]))]) (wr := []) (w1 := fun (u1 : Nat → Nat) => wPB u1 ++ wLog cI cJ u1 (fun _ => 0) (fun _ => 0) (fun _ => 0) (fun _ => 0) (fun _ => 0) (fun _ => 0) (nI 0) (nI 0) ++ wKn cI u1 (nI 0) (fun _ => 0)) hP hD hS hA [0] [] rfl rfl (by decide) (by decide) (va_runI (As := []) (rest := [.ref q_1]) ⟨hx, hb, hml, hown, hts⟩ (c_PB_init l dC dI cI cJ q_1 H.size) (cwI 0 hts (aw_G aw_16) rfl rfl rfl (hts (.initialized "ProducerBook") (mm aw_1)) (hts (.methodLink RL 36 yX2_init) (mm aw_14)) (hts (.instanceMethod yX2_init) (mm aw_15)) rfl (by decide +kernel) ⟨Nat.le_of_ble_eq_true rfl, Nat.le_of_ble_eq_true rfl⟩) ⟨fun a U g mk h9 => by obtain ⟨k0, ⟨k1, k2, k3, k4⟩, k5, k6⟩ := h9; exact ⟨k0, ⟨k1, k2, va_K.moved (u := U) (U := U.calling g mk a) (Vm.Alike.refl U.vm) k3, k4⟩, va_Nw.same (u := U) (U := U.calling g mk a) rfl rfl k5, va_Nw.same (u := U) (U := U.calling g mk a) rfl rfl k6⟩, fun U hU hW => ⟨rfl, ⟨by rw [hU], by rw [hU]; exact hPc, va_K.moved hW.alike hK, hDc.weaken (fun _ _ _ _ => trivial)⟩, va_Nw.warmM hW hx1, va_Nw.warmM hW hx2⟩⟩ rfl rfl hl.1 rfl (lv_room (Nat.le_of_ble_eq_true rfl)) dL_law_4 ⟨Nat.le_of_ble_eq_true rfl, Nat.le_of_ble_eq_true rfl⟩) (fun u1 H locs hw hP7 hD7 hS7 => ?_)
  subst hw
  have hP := hP7.sub (ws' := wPB u1 ++ wLog cI cJ u1 (fun _ => 0) (fun _ => 0) (fun _ => 0) (fun _ => 0) (fun _ => 0) (fun _ => 0) (nI 0) (nI 0) ++ wKn cI u1 (nI 0) (fun _ => 0)) [0, 1, 2, 3, 4, 5, 6, 7, 8, 9] rfl
  have hD := hD7.sub (ws' := wPB u1 ++ wLog cI cJ u1 (fun _ => 0) (fun _ => 0) (fun _ => 0) (fun _ => 0) (fun _ => 0) (fun _ => 0) (nI 0) (nI 0) ++ wKn cI u1 (nI 0) (fun _ => 0)) [0, 1, 2, 3, 4, 5, 6, 7, 8, 9] (by decide) rfl
  have hS := hS7
  refine lv_astore_n (lv' := [(1, .ref (u1 0)), (0, .ref b)]) hx hb dL_law_7 rfl hl (by decide) rfl (fun ls hl => ?_)
  refine va_new (ci := 3) (fs := [.int 0, .int 0, .int 0, .null, .null, .null, .null, .null]) (C := RX3) (T := TX3) (N := 8) hx hb hts (fun w9 h9 => mm (inX3 w9 h9)) tyX3 tyX3_ok hown (hts (.classLink RL 37 RX3) (mm aw_302)) (hts (.instantiable RX3 8) (mm aw_303)) (hts (.initialized RX3) (mm aw_4)) hK hP hD hS hA rfl (fun j hj => by rcases (show j = 0 ∨ j = 1 ∨ j = 2 ∨ j = 3 ∨ j = 4 ∨ j = 5 ∨ j = 6 ∨ j = 7 by omega) with rfl | rfl | rfl | rfl | rfl | rfl | rfl | rfl <;> rfl) (Nat.le_of_ble_eq_true rfl) (Nat.le_of_ble_eq_true rfl) dL_law_8 (fun q_2 H hP hD hS => ?_)
  have hP : va_P (dC, dI) classes (wPB u1 ++ wLog cI cJ u1 (fun _ => 0) (fun _ => 0) (fun _ => 0) (fun _ => 0) (fun _ => 0) (fun _ => 0) (nI 0) (nI 0) ++ wKn cI u1 (nI 0) (fun _ => 0) ++ [(q_2, .inr (3, [.int 0, .int 0, .int 0, .null, .null, .null, .null, .null]))]) H := hP
  have hD : va_D A (wPB u1 ++ wLog cI cJ u1 (fun _ => 0) (fun _ => 0) (fun _ => 0) (fun _ => 0) (fun _ => 0) (fun _ => 0) (nI 0) (nI 0) ++ wKn cI u1 (nI 0) (fun _ => 0) ++ [(q_2, .inr (3, [.int 0, .int 0, .int 0, .null, .null, .null, .null, .null]))]) := hD
  refine lv_dup hx hb dL_law_11 rfl ?_
  refine xh_callv (wc := [(q_2, .inr (3, [.int 0, .int 0, .int 0, .null, .null, .null, .null, .null]))]) (wr := wPB u1 ++ wLog cI cJ u1 (fun _ => 0) (fun _ => 0) (fun _ => 0) (fun _ => 0) (fun _ => 0) (fun _ => 0) (nI 0) (nI 0) ++ wKn cI u1 (nI 0) (fun _ => 0)) (w1 := fun (u2 : Nat → Nat) => wMo cI cJ u2 (fun _ => 0) (fun _ => 0) (fun _ => 0) (fun _ => 0) (fun _ => 0) (nI 0) (nI 0) (nI 0)) hP hD hS hA [10] [0, 1, 2, 3, 4, 5, 6, 7, 8, 9] rfl rfl (by decide) (by decide) (va_runI (As := []) (rest := [.ref q_2]) ⟨hx, hb, hml, hown, hts⟩ (c_Mo_init l dC dI cI cJ q_2 H.size) (cwI 0 hts (aw_G aw_306) rfl rfl rfl (hts (.initialized "ProducerBookModel") (mm aw_4)) (hts (.methodLink RL 39 yX3_init) (mm aw_304)) (hts (.instanceMethod yX3_init) (mm aw_305)) rfl (by decide +kernel) ⟨Nat.le_of_ble_eq_true rfl, Nat.le_of_ble_eq_true rfl⟩) (xh_preS (As := [.ref q_2]) hK (hP.sub (ws' := [(q_2, .inr (3, [.int 0, .int 0, .int 0, .null, .null, .null, .null, .null]))]) [10] rfl) (hD.sub (ws' := [(q_2, .inr (3, [.int 0, .int 0, .int 0, .null, .null, .null, .null, .null]))]) [10] (by decide) rfl)) rfl rfl hl.1 rfl (lv_room (Nat.le_of_ble_eq_true rfl)) dL_law_12 ⟨Nat.le_of_ble_eq_true rfl, Nat.le_of_ble_eq_true rfl⟩) (fun u2 H locs hw hP7 hD7 hS7 => ?_)
  subst hw
  have hP := hP7.sub (ws' := wPB u1 ++ wLog cI cJ u1 (fun _ => 0) (fun _ => 0) (fun _ => 0) (fun _ => 0) (fun _ => 0) (fun _ => 0) (nI 0) (nI 0) ++ wKn cI u1 (nI 0) (fun _ => 0) ++ wMo cI cJ u2 (fun _ => 0) (fun _ => 0) (fun _ => 0) (fun _ => 0) (fun _ => 0) (nI 0) (nI 0) (nI 0)) [0, 1, 2, 3, 4, 5, 6, 7, 8, 9, 10, 11, 12, 13, 14, 15] rfl
  have hD := hD7.sub (ws' := wPB u1 ++ wLog cI cJ u1 (fun _ => 0) (fun _ => 0) (fun _ => 0) (fun _ => 0) (fun _ => 0) (fun _ => 0) (nI 0) (nI 0) ++ wKn cI u1 (nI 0) (fun _ => 0) ++ wMo cI cJ u2 (fun _ => 0) (fun _ => 0) (fun _ => 0) (fun _ => 0) (fun _ => 0) (nI 0) (nI 0) (nI 0)) [0, 1, 2, 3, 4, 5, 6, 7, 8, 9, 10, 11, 12, 13, 14, 15] (by decide) rfl
  have hS := hS7
  refine lv_astore_n (lv' := [(2, .ref (u2 20)), (1, .ref (u1 0)), (0, .ref b)]) hx hb dL_law_15 rfl hl (by decide) rfl (fun ls hl => ?_)
  refine lv_iconst (v := nI 1) hx hb dL_law_16 (by decide +kernel) ?_
  refine va_newa (atype := .long) (ty := .long) (N' := 1) (a0 := (1, .inr (.inl (fun _ => 0)))) hx hb (hts (.arrayClass .long) (mm aw_59)) rfl hK hP hD hS hA (fun _ => rfl) (by decide) (by decide +kernel) (by decide) (Nat.le_of_ble_eq_true rfl) (Nat.le_of_ble_eq_true rfl) dL_law_17 (fun q9 cA H hK2 hP hD hS => ?_)
  have eA9 : cA = cJ := xh_arrJ hK2 2 1 rfl rfl
  rw [eA9] at hP hD
  refine lv_astore_n (lv' := [(3, .ref q9), (2, .ref (u2 20)), (1, .ref (u1 0)), (0, .ref b)]) hx hb dL_law_19 rfl hl (by decide) rfl (fun ls hl => ?_)
  refine lv_iconst (v := nI 0) hx hb dL_law_20 (by decide +kernel) ?_
  refine lv_istore (lv' := [(4, .int (nI 0)), (3, .ref q9), (2, .ref (u2 20)), (1, .ref (u1 0)), (0, .ref b)]) hx hb dL_law_21 hl (by decide) rfl (fun ls hl => ?_)
  obtain ⟨h, eh⟩ : ∃ h : Nat → Nat, h = fun k => if k = 30 then q9 else if 20 ≤ k then u2 k else u1 k := ⟨_, rfl⟩
  have hP := hP.sub (ws' := wMo cI cJ h (fun _ => 0) (fun _ => 0) (fun _ => 0) (fun _ => 0) (fun _ => 0) (nI 0) (nI 0) (nI 0) ++ wOut cJ h (fun _ => 0) ++ wPB h ++ wLog cI cJ h (fun _ => 0) (fun _ => 0) (fun _ => 0) (fun _ => 0) (fun _ => 0) (fun _ => 0) (nI 0) (nI 0) ++ wKn cI h (nI 0) (fun _ => 0)) [10, 11, 12, 13, 14, 15, 16, 0, 1, 2, 3, 4, 5, 6, 7, 8, 9] (by rw [eh]; rfl)
  have hD := hD.sub (ws' := wMo cI cJ h (fun _ => 0) (fun _ => 0) (fun _ => 0) (fun _ => 0) (fun _ => 0) (nI 0) (nI 0) (nI 0) ++ wOut cJ h (fun _ => 0) ++ wPB h ++ wLog cI cJ h (fun _ => 0) (fun _ => 0) (fun _ => 0) (fun _ => 0) (fun _ => 0) (fun _ => 0) (nI 0) (nI 0) ++ wKn cI h (nI 0) (fun _ => 0)) [10, 11, 12, 13, 14, 15, 16, 0, 1, 2, 3, 4, 5, 6, 7, 8, 9] (by decide) (by rw [eh]; rfl)
  have hl := lv_sub (l' := [(0, .ref b), (1, .ref (h 0)), (2, .ref (h 20)), (3, .ref (h 30)), (4, .int (nI 0))]) hl [4, 3, 2, 1, 0] (by rw [eh]; rfl)
  exact law_loop C0 hl0 hX hK hA hbA hL hA2 hopen (L0 + 1) 0 (Nat.zero_le _) (by omega) _ _ _ _ _ _ _ _ _ _ _ 0 0 _ _ _ _ _ _ _ pb_J0z (fun _ => rfl) hP hD hS hl
