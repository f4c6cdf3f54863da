set_option maxHeartbeats 4000000 in
set_option maxRecDepth 100000 in
theorem but_batch {p : Program} {l : Launch} {e : Env} {s : State} {m : MethodId} {below : List Frame} {meth : Method} {c : Code} {dC : Nat → ClassId} {dI : Nat → Nat → Nat} {cI cJ : ClassId} {h : Nat → Nat} {A : Nat → Prop} {b L0 : Nat} {xs : Nat → Int32} (C0 : lw_At p s m meth c b L0 xs) (hl0 : l.stackTraces = false) (hX : xX2 A s) (hK : va_K (dC, dI) classes [(cI, FieldType.int), (cJ, FieldType.long)] s) (hA : ∀ q : Nat, s.heap.size ≤ q → A q) (hbA : ¬ A b) (hL : L0 ≤ 3584) {z : Prop} {i cells slots : Nat} (hi : i + 7 ≤ L0) (hc : cells + 1 ≤ 1049) (hs : slots + 6 ≤ 30266) (h39 : xs (i + 2) ≠ nI 3) (kk : law_at p l e s m below meth c dC dI cI cJ h A False b i (cells + 1) (slots + 6) 638) : law_at p l e s m below meth c dC dI cI cJ h A z b i cells slots 515 := by
  obtain ⟨hx, hb, hr, hml, hown0, hts0, hXs, hbl, hlocks, hgv⟩ := C0
  have hown : s.vm.findClass RL = some m.cls := hown0
  have hts : ∀ w ∈ Cond.initialized RL :: AW, w.before #[Value.ref b] s = true := fun w hw => (List.mem_cons.mp hw).elim (fun e9 => by rw [e9]; exact hts0 _ (aw_tbl aw_0)) (fun h9 => hts0 _ (aw_tbl h9))
  intro B P E S L N B2 P2 E2 S2 L2 n ed f cd kn0 Fz H locs ls hJ hz hP hD hS hl
  obtain ⟨hn, hed, hN, hR, hMI, hPI⟩ := id hJ
  refine lv_aload_n hx hb dL_law_515 rfl (lv_at hl 1 rfl) ?_
  refine lv_aload_n hx hb dL_law_516 rfl (lv_at hl 0 rfl) ?_
  refine lv_iload hx hb dL_law_517 (lv_at hl 4 rfl) ?_
  refine lv_iconst (v := nI 1) hx hb dL_law_519 (by decide +kernel) ?_
  refine lv_iadd hx hb dL_law_520 ?_
  refine xh_topi (z := nI (i + 1)) (nI_add i 1) ?_
  refine xh_sld hx hb hXs hbl hbA hS (k := i + 1) (by omega) (by omega) dL_law_521 ?_
  refine lv_aload_n hx hb dL_law_522 rfl (lv_at hl 0 rfl) ?_
  refine lv_iload hx hb dL_law_523 (lv_at hl 4 rfl) ?_
  refine lv_iconst (v := nI 2) hx hb dL_law_525 (by decide +kernel) ?_
  refine lv_iadd hx hb dL_law_526 ?_
  refine xh_topi (z := nI (i + 2)) (nI_add i 2) ?_
  refine xh_sld hx hb hXs hbl hbA hS (k := i + 2) (by omega) (by omega) dL_law_527 ?_
  refine lv_aload_n hx hb dL_law_528 rfl (lv_at hl 3 rfl) ?_
  refine xh_calli (wc := wOut cJ h f ++ wPB h ++ wLog cI cJ h B P E S L N (nI n) (nI ed) ++ wKn cI h kn0 Fz) (wr := wMo cI cJ h B2 P2 E2 S2 L2 cd (nI n) (nI ed)) (w1 := fun (u : (Int64 × (Nat × Nat)) ⊕ (Unit)) => (fun (u : (Int64 × (Nat × Nat)) ⊕ (Unit)) => match u with | .inl z => wOut cJ h (vp_updL f 0 z.1) ++ (fun (_ : Nat × Nat) => wPB h ++ wLog cI cJ h B P E S L N (nI n) (nI ed) ++ wKn cI h kn0 Fz) z.2 | .inr z => wOut cJ h f ++ (fun (_ : Unit) => wPB h ++ wLog cI cJ h B P E S L N (nI n) (nI ed) ++ wKn cI h kn0 Fz) z) u) hP hD hS hA [6, 7, 8, 9, 10, 11, 12, 13, 14, 15, 16] [0, 1, 2, 3, 4, 5] rfl rfl (by decide) (by decide) (vx_runSW (As := [.ref (h 0), .int (xs (i + 1)), .int (xs (i + 2)), .ref (h 30)]) (rest := []) ⟨hx, hb, hml, hown, hts⟩ (w_batch l dC dI cI cJ h H.size B P E S L N n ed Fz kn0 (xs (i + 1)) (xs (i + 2)) f hl0 hn hed hN) (vx_cwSW 4 hts (aw_SW aw_281 aw_282 aw_0 aw_283) rfl rfl rfl (by decide +kernel) ⟨Nat.le_of_ble_eq_true rfl, Nat.le_of_ble_eq_true rfl⟩) (xh_preSX hK hX hS (va_free hD hS hA [6, 7, 8, 9, 10, 11, 12, 13, 14, 15, 16] rfl) (hP.sub (ws' := wOut cJ h f ++ wPB h ++ wLog cI cJ h B P E S L N (nI n) (nI ed) ++ wKn cI h kn0 Fz) [6, 7, 8, 9, 10, 11, 12, 13, 14, 15, 16] rfl) (hD.sub (ws' := wOut cJ h f ++ wPB h ++ wLog cI cJ h B P E S L N (nI n) (nI ed) ++ wKn cI h kn0 Fz) [6, 7, 8, 9, 10, 11, 12, 13, 14, 15, 16] (by decide) rfl)) rfl rfl hl.1 rfl (lv_room (Nat.le_of_ble_eq_true rfl)) dL_law_529 ⟨hc, hs⟩) (fun k5 u H locs hw hP hD hS => ?_)
  rcases u with ⟨r9, k9, y9⟩ | _
  · obtain ⟨e5, ek, hk, ey, hy, h2⟩ := hw
    subst e5
    have hk : k9 < n := hk
    have hy : y9 ≤ 5 := hy
    have hP := hP.sub (ws' := wMo cI cJ h B2 P2 E2 S2 L2 cd (nI n) (nI ed) ++ wOut cJ h (vp_updL f 0 r9) ++ wPB h ++ wLog cI cJ h B P E S L N (nI n) (nI ed) ++ wKn cI h kn0 Fz) [0, 1, 2, 3, 4, 5, 6, 7, 8, 9, 10, 11, 12, 13, 14, 15, 16] rfl
    have hD := hD.sub (ws' := wMo cI cJ h B2 P2 E2 S2 L2 cd (nI n) (nI ed) ++ wOut cJ h (vp_updL f 0 r9) ++ wPB h ++ wLog cI cJ h B P E S L N (nI n) (nI ed) ++ wKn cI h kn0 Fz) [0, 1, 2, 3, 4, 5, 6, 7, 8, 9, 10, 11, 12, 13, 14, 15, 16] (by decide) rfl
    refine lv_istore (lv' := [(5, .int (nI 0)), (0, .ref b), (1, .ref (h 0)), (2, .ref (h 20)), (3, .ref (h 30)), (4, .int (nI i))]) hx hb dL_law_532 hl (by decide) rfl (fun ls hl => ?_)
    refine lv_aload_n hx hb dL_law_534 rfl (lv_at hl 3 rfl) ?_
    refine lv_aload_n hx hb dL_law_535 rfl (lv_at hl 1 rfl) ?_
    refine lv_iload hx hb dL_law_536 (lv_at hl 5 rfl) ?_
    refine lv_iconst (v := nI 1) hx hb dL_law_538 (by decide +kernel) ?_
    refine lv_iadd hx hb dL_law_539 ?_
    refine xh_topi (z := nI (i + 1)) (nI_add i 1) ?_
    refine xh_sld hx hb hXs hbl hbA hS (k := i + 1) (by omega) (by omega) dL_law_540 ?_
    refine lv_aload_n hx hb dL_law_541 rfl (lv_at hl 1 rfl) ?_
    refine lv_iload hx hb dL_law_542 (lv_at hl 5 rfl) ?_
    refine lv_iconst (v := nI 2) hx hb dL_law_544 (by decide +kernel) ?_
    refine lv_iadd hx hb dL_law_545 ?_
    refine xh_topi (z := nI (i + 2)) (nI_add i 2) ?_
    refine xh_sld hx hb hXs hbl hbA hS (k := i + 2) (by omega) (by omega) dL_law_546 ?_
    refine xh_calll (wc := wMo cI cJ h B2 P2 E2 S2 L2 cd (nI n) (nI ed)) (wr := wOut cJ h (vp_updL f 0 r9) ++ wPB h ++ wLog cI cJ h B P E S L N (nI n) (nI ed) ++ wKn cI h kn0 Fz) (w1 := fun (u : Option (Nat × Nat)) => (fun (u : Option (Nat × Nat)) => match u with | none => wMo cI cJ h B2 P2 E2 S2 L2 (nI 1) (nI n) (nI ed) | some _ => wMo cI cJ h B2 P2 E2 S2 L2 (nI 0) (nI n) (nI ed)) u) hP hD hS hA [0, 1, 2, 3, 4, 5] [6, 7, 8, 9, 10, 11, 12, 13, 14, 15, 16] rfl rfl (by decide) (by decide) (va_runV (As := [.int (xs (i + 1)), .int (xs (i + 2))]) (rest := []) ⟨hx, hb, hml, hown, hts⟩ (m_batch l dC dI cI cJ h H.size B2 P2 E2 S2 L2 cd n ed (xs (i + 1)) (xs (i + 2)) hn hPI) (cwV 2 hts (aw_V aw_390 aw_391 aw_392 aw_4 aw_393) rfl rfl rfl (by decide +kernel) ⟨Nat.le_of_ble_eq_true rfl, Nat.le_of_ble_eq_true rfl⟩) (xh_preV (r0 := 0) hK (hP.sub (ws' := wMo cI cJ h B2 P2 E2 S2 L2 cd (nI n) (nI ed)) [0, 1, 2, 3, 4, 5] rfl) (hD.sub (ws' := wMo cI cJ h B2 P2 E2 S2 L2 cd (nI n) (nI ed)) [0, 1, 2, 3, 4, 5] (by decide) rfl) rfl rfl rfl) rfl rfl hl.1 rfl (lv_room (Nat.le_of_ble_eq_true rfl)) dL_law_547 ⟨hc, hs⟩) (fun r8 u H locs hm hP hD hS => ?_)
    rcases u with _ | ⟨k8, y8⟩
    · exact absurd ⟨by rw [ek]; exact nI_pos (by omega), by rw [ek]; exact nI_ge hk (by omega), by rw [ey]; exact nI_pos (by omega), by rw [ey]; exact nI_le hy (by decide)⟩ hm
    · obtain ⟨g0, g00, g1, g2, g3⟩ := hm
      have g00 : k8 < n := g00
      have g2 : y8 ≤ 5 := g2
      have ey8 : y8 = y9 := (nI_eq (by omega) (by omega)).mp (g1.symm.trans ey)
      have ek8 : k8 = k9 := (nI_eq (by omega) (by omega)).mp (g0.symm.trans ek)
      have g3 : r8 = pb_bat B2 P2 E2 S2 L2 n k8 y8 := g3
      rw [ey8, ek8] at g3
      have hP := hP.sub (ws' := wMo cI cJ h B2 P2 E2 S2 L2 (nI 0) (nI n) (nI ed) ++ wOut cJ h (vp_updL f 0 r9) ++ wPB h ++ wLog cI cJ h B P E S L N (nI n) (nI ed) ++ wKn cI h kn0 Fz) [11, 12, 13, 14, 15, 16, 0, 1, 2, 3, 4, 5, 6, 7, 8, 9, 10] rfl
      have hD := hD.sub (ws' := wMo cI cJ h B2 P2 E2 S2 L2 (nI 0) (nI n) (nI ed) ++ wOut cJ h (vp_updL f 0 r9) ++ wPB h ++ wLog cI cJ h B P E S L N (nI n) (nI ed) ++ wKn cI h kn0 Fz) [11, 12, 13, 14, 15, 16, 0, 1, 2, 3, 4, 5, 6, 7, 8, 9, 10] (by decide) rfl
      have eqr : r9 = r8 := h2.trans ((pb_R_bat hR hk hy (fun e9 => absurd (ey.trans (congrArg nI e9)) h39)).trans g3.symm)
      have hJ2 := hJ
      refine lv_lstore (lv' := [(6, .long r8), (5, .int (nI 0)), (0, .ref b), (1, .ref (h 0)), (2, .ref (h 20)), (3, .ref (h 30)), (4, .int (nI i))]) hx hb dL_law_550 hl (by decide) rfl (fun ls hl => ?_)
      refine lv_aload_n hx hb dL_law_552 rfl (lv_at hl 4 rfl) ?_
      refine xh_calli (wc := wMo cI cJ h B2 P2 E2 S2 L2 (nI 0) (nI n) (nI ed)) (wr := wOut cJ h (vp_updL f 0 r9) ++ wPB h ++ wLog cI cJ h B P E S L N (nI n) (nI ed) ++ wKn cI h kn0 Fz) (w1 := fun (u : Unit) => wMo cI cJ h B2 P2 E2 S2 L2 (nI 0) (nI n) (nI ed)) hP hD hS hA [0, 1, 2, 3, 4, 5] [6, 7, 8, 9, 10, 11, 12, 13, 14, 15, 16] rfl rfl (by decide) (by decide) (va_runV (As := []) (rest := []) ⟨hx, hb, hml, hown, hts⟩ (m_thrown l dC dI cI cJ h H.size B2 P2 E2 S2 L2 (nI 0) n ed) (cwV 0 hts (aw_V aw_333 aw_334 aw_335 aw_4 aw_336) rfl rfl rfl (by decide +kernel) ⟨Nat.le_of_ble_eq_true rfl, Nat.le_of_ble_eq_true rfl⟩) (xh_preV (r0 := 0) hK (hP.sub (ws' := wMo cI cJ h B2 P2 E2 S2 L2 (nI 0) (nI n) (nI ed)) [0, 1, 2, 3, 4, 5] rfl) (hD.sub (ws' := wMo cI cJ h B2 P2 E2 S2 L2 (nI 0) (nI n) (nI ed)) [0, 1, 2, 3, 4, 5] (by decide) rfl) rfl rfl rfl) rfl rfl hl.1 rfl (lv_room (Nat.le_of_ble_eq_true rfl)) dL_law_553 ⟨hc, hs⟩) (fun r_1 u H locs hw hP hD hS => ?_)
      have hP := hP.sub (ws' := wMo cI cJ h B2 P2 E2 S2 L2 (nI 0) (nI n) (nI ed) ++ wOut cJ h (vp_updL f 0 r9) ++ wPB h ++ wLog cI cJ h B P E S L N (nI n) (nI ed) ++ wKn cI h kn0 Fz) [11, 12, 13, 14, 15, 16, 0, 1, 2, 3, 4, 5, 6, 7, 8, 9, 10] rfl
      have hD := hD.sub (ws' := wMo cI cJ h B2 P2 E2 S2 L2 (nI 0) (nI n) (nI ed) ++ wOut cJ h (vp_updL f 0 r9) ++ wPB h ++ wLog cI cJ h B P E S L N (nI n) (nI ed) ++ wKn cI h kn0 Fz) [11, 12, 13, 14, 15, 16, 0, 1, 2, 3, 4, 5, 6, 7, 8, 9, 10] (by decide) rfl
      have hP : va_P (dC, dI) classes (wMo cI cJ h B2 P2 E2 S2 L2 (nI 0) (nI n) (nI ed) ++ wOut cJ h (vp_updL f 0 r9) ++ wPB h ++ wLog cI cJ h B P E S L N (nI n) (nI ed) ++ wKn cI h kn0 Fz) H := hP
      have hD : va_D A (wMo cI cJ h B2 P2 E2 S2 L2 (nI 0) (nI n) (nI ed) ++ wOut cJ h (vp_updL f 0 r9) ++ wPB h ++ wLog cI cJ h B P E S L N (nI n) (nI ed) ++ wKn cI h kn0 Fz) := hD
      refine xh_topi (z := nI 0) (hw) ?_
      refine lv_iload hx hb dL_law_556 (lv_at hl 1 rfl) ?_
      refine lv_icmp_eq (tgt := 563) hx hb dL_law_558 (by decide) (fun c_558 => ?_) (fun c_558 => ?_)
      · refine lv_iload hx hb dL_law_563 (lv_at hl 1 rfl) ?_
        refine lv_if_ne (tgt := 579) hx hb dL_law_565 (by decide) (fun c_565 => ?_) (fun c_565 => ?_)
        · exact absurd (show nI 0 = 0 by decide) c_565
        · refine lv_aload_n hx hb dL_law_568 rfl (lv_at hl 5 rfl) ?_
          refine lv_iconst (v := nI 0) hx hb dL_law_569 (by decide +kernel) ?_
          refine xh_lald hx hb hK hP 6 1 rfl rfl (k := 0) (by decide) (by decide) dL_law_570 ?_
          refine xh_topl (z := r9) (pk_uLs) ?_
          refine lv_lload hx hb dL_law_571 (lv_at hl 0 rfl) ?_
          refine W.lcmp hx hb dL_law_573 ?_
          refine lv_if_eq (tgt := 579) hx hb dL_law_574 (by decide) (fun c_574 => ?_) (fun c_574 => ?_)
          · refine lv_goto (tgt := 638) hx hb dL_law_579 (by decide) ?_
            exact kk _ _ _ _ _ _ _ _ _ _ _ _ _ _ _ _ _ _ _ _ hJ2 False.elim hP hD hS (lv_sub hl [2, 3, 4, 5, 6] rfl)
          · exact absurd ((lg_cmp_eq _ _).mpr (eqr)) c_574
      · exact absurd rfl c_558
  · obtain ⟨e5, _, hnl⟩ := hw
    subst e5
    have hP := hP.sub (ws' := wMo cI cJ h B2 P2 E2 S2 L2 cd (nI n) (nI ed) ++ wOut cJ h f ++ wPB h ++ wLog cI cJ h B P E S L N (nI n) (nI ed) ++ wKn cI h kn0 Fz) [0, 1, 2, 3, 4, 5, 6, 7, 8, 9, 10, 11, 12, 13, 14, 15, 16] rfl
    have hD := hD.sub (ws' := wMo cI cJ h B2 P2 E2 S2 L2 cd (nI n) (nI ed) ++ wOut cJ h f ++ wPB h ++ wLog cI cJ h B P E S L N (nI n) (nI ed) ++ wKn cI h kn0 Fz) [0, 1, 2, 3, 4, 5, 6, 7, 8, 9, 10, 11, 12, 13, 14, 15, 16] (by decide) rfl
    refine lv_istore (lv' := [(5, .int (nI 1)), (0, .ref b), (1, .ref (h 0)), (2, .ref (h 20)), (3, .ref (h 30)), (4, .int (nI i))]) hx hb dL_law_532 hl (by decide) rfl (fun ls hl => ?_)
    refine lv_aload_n hx hb dL_law_534 rfl (lv_at hl 3 rfl) ?_
    refine lv_aload_n hx hb dL_law_535 rfl (lv_at hl 1 rfl) ?_
    refine lv_iload hx hb dL_law_536 (lv_at hl 5 rfl) ?_
    refine lv_iconst (v := nI 1) hx hb dL_law_538 (by decide +kernel) ?_
    refine lv_iadd hx hb dL_law_539 ?_
    refine xh_topi (z := nI (i + 1)) (nI_add i 1) ?_
    refine xh_sld hx hb hXs hbl hbA hS (k := i + 1) (by omega) (by omega) dL_law_540 ?_
    refine lv_aload_n hx hb dL_law_541 rfl (lv_at hl 1 rfl) ?_
    refine lv_iload hx hb dL_law_542 (lv_at hl 5 rfl) ?_
    refine lv_iconst (v := nI 2) hx hb dL_law_544 (by decide +kernel) ?_
    refine lv_iadd hx hb dL_law_545 ?_
    refine xh_topi (z := nI (i + 2)) (nI_add i 2) ?_
    refine xh_sld hx hb hXs hbl hbA hS (k := i + 2) (by omega) (by omega) dL_law_546 ?_
    refine xh_calll (wc := wMo cI cJ h B2 P2 E2 S2 L2 cd (nI n) (nI ed)) (wr := wOut cJ h f ++ wPB h ++ wLog cI cJ h B P E S L N (nI n) (nI ed) ++ wKn cI h kn0 Fz) (w1 := fun (u : Option (Nat × Nat)) => (fun (u : Option (Nat × Nat)) => match u with | none => wMo cI cJ h B2 P2 E2 S2 L2 (nI 1) (nI n) (nI ed) | some _ => wMo cI cJ h B2 P2 E2 S2 L2 (nI 0) (nI n) (nI ed)) u) hP hD hS hA [0, 1, 2, 3, 4, 5] [6, 7, 8, 9, 10, 11, 12, 13, 14, 15, 16] rfl rfl (by decide) (by decide) (va_runV (As := [.int (xs (i + 1)), .int (xs (i + 2))]) (rest := []) ⟨hx, hb, hml, hown, hts⟩ (m_batch l dC dI cI cJ h H.size B2 P2 E2 S2 L2 cd n ed (xs (i + 1)) (xs (i + 2)) hn hPI) (cwV 2 hts (aw_V aw_390 aw_391 aw_392 aw_4 aw_393) rfl rfl rfl (by decide +kernel) ⟨Nat.le_of_ble_eq_true rfl, Nat.le_of_ble_eq_true rfl⟩) (xh_preV (r0 := 0) hK (hP.sub (ws' := wMo cI cJ h B2 P2 E2 S2 L2 cd (nI n) (nI ed)) [0, 1, 2, 3, 4, 5] rfl) (hD.sub (ws' := wMo cI cJ h B2 P2 E2 S2 L2 cd (nI n) (nI ed)) [0, 1, 2, 3, 4, 5] (by decide) rfl) rfl rfl rfl) rfl rfl hl.1 rfl (lv_room (Nat.le_of_ble_eq_true rfl)) dL_law_547 ⟨hc, hs⟩) (fun r8 u H locs hm hP hD hS => ?_)
    rcases u with _ | ⟨k8, y8⟩
    · have hm9 := hm
      have hP := hP.sub (ws' := wMo cI cJ h B2 P2 E2 S2 L2 (nI 1) (nI n) (nI ed) ++ wOut cJ h f ++ wPB h ++ wLog cI cJ h B P E S L N (nI n) (nI ed) ++ wKn cI h kn0 Fz) [11, 12, 13, 14, 15, 16, 0, 1, 2, 3, 4, 5, 6, 7, 8, 9, 10] rfl
      have hD := hD.sub (ws' := wMo cI cJ h B2 P2 E2 S2 L2 (nI 1) (nI n) (nI ed) ++ wOut cJ h f ++ wPB h ++ wLog cI cJ h B P E S L N (nI n) (nI ed) ++ wKn cI h kn0 Fz) [11, 12, 13, 14, 15, 16, 0, 1, 2, 3, 4, 5, 6, 7, 8, 9, 10] (by decide) rfl
      have hJ2 := hJ
      refine lv_lstore (lv' := [(6, .long r8), (5, .int (nI 1)), (0, .ref b), (1, .ref (h 0)), (2, .ref (h 20)), (3, .ref (h 30)), (4, .int (nI i))]) hx hb dL_law_550 hl (by decide) rfl (fun ls hl => ?_)
      refine lv_aload_n hx hb dL_law_552 rfl (lv_at hl 4 rfl) ?_
      refine xh_calli (wc := wMo cI cJ h B2 P2 E2 S2 L2 (nI 1) (nI n) (nI ed)) (wr := wOut cJ h f ++ wPB h ++ wLog cI cJ h B P E S L N (nI n) (nI ed) ++ wKn cI h kn0 Fz) (w1 := fun (u : Unit) => wMo cI cJ h B2 P2 E2 S2 L2 (nI 1) (nI n) (nI ed)) hP hD hS hA [0, 1, 2, 3, 4, 5] [6, 7, 8, 9, 10, 11, 12, 13, 14, 15, 16] rfl rfl (by decide) (by decide) (va_runV (As := []) (rest := []) ⟨hx, hb, hml, hown, hts⟩ (m_thrown l dC dI cI cJ h H.size B2 P2 E2 S2 L2 (nI 1) n ed) (cwV 0 hts (aw_V aw_333 aw_334 aw_335 aw_4 aw_336) rfl rfl rfl (by decide +kernel) ⟨Nat.le_of_ble_eq_true rfl, Nat.le_of_ble_eq_true rfl⟩) (xh_preV (r0 := 0) hK (hP.sub (ws' := wMo cI cJ h B2 P2 E2 S2 L2 (nI 1) (nI n) (nI ed)) [0, 1, 2, 3, 4, 5] rfl) (hD.sub (ws' := wMo cI cJ h B2 P2 E2 S2 L2 (nI 1) (nI n) (nI ed)) [0, 1, 2, 3, 4, 5] (by decide) rfl) rfl rfl rfl) rfl rfl hl.1 rfl (lv_room (Nat.le_of_ble_eq_true rfl)) dL_law_553 ⟨hc, hs⟩) (fun r_2 u H locs hw hP hD hS => ?_)
      have hP := hP.sub (ws' := wMo cI cJ h B2 P2 E2 S2 L2 (nI 1) (nI n) (nI ed) ++ wOut cJ h f ++ wPB h ++ wLog cI cJ h B P E S L N (nI n) (nI ed) ++ wKn cI h kn0 Fz) [11, 12, 13, 14, 15, 16, 0, 1, 2, 3, 4, 5, 6, 7, 8, 9, 10] rfl
      have hD := hD.sub (ws' := wMo cI cJ h B2 P2 E2 S2 L2 (nI 1) (nI n) (nI ed) ++ wOut cJ h f ++ wPB h ++ wLog cI cJ h B P E S L N (nI n) (nI ed) ++ wKn cI h kn0 Fz) [11, 12, 13, 14, 15, 16, 0, 1, 2, 3, 4, 5, 6, 7, 8, 9, 10] (by decide) rfl
      have hP : va_P (dC, dI) classes (wMo cI cJ h B2 P2 E2 S2 L2 (nI 1) (nI n) (nI ed) ++ wOut cJ h f ++ wPB h ++ wLog cI cJ h B P E S L N (nI n) (nI ed) ++ wKn cI h kn0 Fz) H := hP
      have hD : va_D A (wMo cI cJ h B2 P2 E2 S2 L2 (nI 1) (nI n) (nI ed) ++ wOut cJ h f ++ wPB h ++ wLog cI cJ h B P E S L N (nI n) (nI ed) ++ wKn cI h kn0 Fz) := hD
      refine xh_topi (z := nI 1) (hw) ?_
      refine lv_iload hx hb dL_law_556 (lv_at hl 1 rfl) ?_
      refine lv_icmp_eq (tgt := 563) hx hb dL_law_558 (by decide) (fun c_558 => ?_) (fun c_558 => ?_)
      · refine lv_iload hx hb dL_law_563 (lv_at hl 1 rfl) ?_
        refine lv_if_ne (tgt := 579) hx hb dL_law_565 (by decide) (fun c_565 => ?_) (fun c_565 => ?_)
        · refine lv_goto (tgt := 638) hx hb dL_law_579 (by decide) ?_
          exact kk _ _ _ _ _ _ _ _ _ _ _ _ _ _ _ _ _ _ _ _ hJ2 False.elim hP hD hS (lv_sub hl [2, 3, 4, 5, 6] rfl)
        · exact absurd c_565 (by decide)
      · exact absurd rfl c_558
    · obtain ⟨g0, g00, g1, g2, g3⟩ := hm
      have g00 : k8 < n := g00
      have g2 : y8 ≤ 5 := g2
      exact absurd ⟨by rw [g0]; exact nI_pos (by omega), by rw [g0]; exact nI_ge g00 (by omega), by rw [g1]; exact nI_pos (by omega), by rw [g1]; exact nI_le g2 (by decide)⟩ hnl
set_option maxHeartbeats 4000000 in
set_option maxRecDepth 100000 in
theorem but_loop {p : Program} {l : Launch} {e : Env} {s : State} {m : MethodId} {below : List Frame} {meth : Method} {c : Code} {dC : Nat → ClassId} {dI : Nat → Nat → Nat} {cI cJ : ClassId} {h : Nat → Nat} {A : Nat → Prop} {b L0 : Nat} {xs : Nat → Int32} (C0 : lw_At p s m meth c b L0 xs) (hl0 : l.stackTraces = false) (hX : xX2 A s) (hK : va_K (dC, dI) classes [(cI, FieldType.int), (cJ, FieldType.long)] s) (hA : ∀ q : Nat, s.heap.size ≤ q → A q) (hbA : ¬ A b) (hL : L0 ≤ 3584) (hA2 : ∀ q : Nat, A q → s.heap.size ≤ q) (hq : ∀ j : Nat, xs (7 * j) &&& nI 7 = nI 5 → xs (7 * j + 2) ≠ nI 3) : ∀ fuel k : Nat, 7 * k ≤ L0 → L0 - 7 * k < fuel → law_at p l e s m below meth c dC dI cI cJ h A (k = 0) b (7 * k) (17 + k) (22026 + 6 * k) 23 := by
  obtain ⟨hx, hb, hr, hml, hown0, hts0, hXs, hbl, hlocks, hgv⟩ := id C0
  intro fuel
  induction fuel with
  | zero => intro k _ h; exact absurd h (Nat.not_lt_zero _)
  | succ fuel ih =>
    intro k hk hfu
    have step : 7 * k + 7 ≤ L0 → law_at p l e s m below meth c dC dI cI cJ h A False b (7 * k) (17 + k + 1) (22026 + 6 * k + 6) 638 := by
      intro hk7 B P E S L N B2 P2 E2 S2 L2 n ed f cd kn0 Fz H locs ls hJ hz hP hD hS hl
      refine lv_iinc (v := nI (7 * (k + 1))) (lv' := [(4, .int (nI (7 * (k + 1)))), (0, .ref b), (1, .ref (h 0)), (2, .ref (h 20)), (3, .ref (h 30))]) hx hb dL_law_638 hl (k := 4) rfl (by exact nI_add (7 * k) 7) (by decide) rfl (fun ls hl => ?_)
      refine lv_goto (tgt := 23) hx hb dL_law_641 (by decide) ?_
      refine W.widen (k := 17 + (k + 1)) (n := 22026 + 6 * (k + 1)) (by omega) (by omega) ?_
      exact ih (k + 1) (by omega) (by omega) B P E S L N B2 P2 E2 S2 L2 n ed f cd kn0 Fz _ _ _ hJ (fun h9 => absurd h9 (Nat.succ_ne_zero k)) hP hD hS (lv_sub hl [1, 2, 3, 4, 0] rfl)
    intro B P E S L N B2 P2 E2 S2 L2 n ed f cd kn0 Fz H locs ls hJ hz hP hD hS hl
    refine lv_iload hx hb dL_law_23 (lv_at hl 4 rfl) ?_
    refine lv_aload_n hx hb dL_law_25 rfl (lv_at hl 0 rfl) ?_
    refine va_slen hx hb hXs hbl hbA hS dL_law_26 ?_
    refine lv_bipush (v := nI 7) hx hb dL_law_27 (by decide +kernel) ?_
    refine lv_isub hx hb dL_law_29 ?_
    refine lv_icmp_gt (tgt := 644) hx hb dL_law_30 (by decide) (fun c_30 => ?_) (fun c_30 => ?_)
    · refine lv_iconst (v := 1) hx hb dL_law_644 (by decide +kernel) ?_
      refine va_forget (fun q hq => hA2 _ (hS.2.2 q hq)) ?_
      refine W.widen (k := 1049) (n := 30266) (by omega) (by omega) ?_
      exact lw_ret hx hb hr hlocks dL_law_645
    · have hk7 : 7 * k + 7 ≤ L0 := pb_head hL (by omega) c_30
      refine lv_aload_n hx hb dL_law_33 rfl (lv_at hl 0 rfl) ?_
      refine lv_iload hx hb dL_law_34 (lv_at hl 4 rfl) ?_
      refine xh_sld hx hb hXs hbl hbA hS (k := 7 * k) (by omega) (by omega) dL_law_36 ?_
      refine lv_bipush (v := nI 7) hx hb dL_law_37 (by decide +kernel) ?_
      refine lv_iand hx hb dL_law_39 ?_
      obtain ⟨j, hj, ej⟩ := pk_andE (xs (7 * k)) (m := nI 7) 3 (by decide)
      refine xh_topi (z := nI j) ej ?_
      rcases (show j = 0 ∨ j = 1 ∨ j = 2 ∨ j = 3 ∨ j = 4 ∨ j = 5 ∨ j = 6 ∨ j = 7 by omega) with g | g | g | g | g | g | g | g
      · subst g
        refine lv_tableIn (off := 44) (tgt := 84) hx hb dL_law_40 (by decide) (by decide) (by decide) (by decide) ?_
        exact law_offer C0 hl0 hX hK hA hbA hL (i := 7 * k) hk7 (by omega) (by omega) (step hk7) B P E S L N B2 P2 E2 S2 L2 n ed f cd kn0 Fz _ _ _ hJ hz hP hD hS hl
      · subst g
        refine lv_tableIn (off := 168) (tgt := 208) hx hb dL_law_40 (by decide) (by decide) (by decide) (by decide) ?_
        exact law_offers C0 hl0 hX hK hA hbA hL (i := 7 * k) hk7 (by omega) (by omega) (step hk7) B P E S L N B2 P2 E2 S2 L2 n ed f cd kn0 Fz _ _ _ hJ hz hP hD hS hl
      · subst g
        refine lv_tableIn (off := 306) (tgt := 346) hx hb dL_law_40 (by decide) (by decide) (by decide) (by decide) ?_
        exact law_drop C0 hl0 hX hK hA hbA hL (i := 7 * k) hk7 (by omega) (by omega) (step hk7) B P E S L N B2 P2 E2 S2 L2 n ed f cd kn0 Fz _ _ _ hJ hz hP hD hS hl
      · subst g
        refine lv_tableIn (off := 362) (tgt := 402) hx hb dL_law_40 (by decide) (by decide) (by decide) (by decide) ?_
        exact law_thin C0 hl0 hX hK hA hbA hL (i := 7 * k) hk7 (by omega) (by omega) (step hk7) B P E S L N B2 P2 E2 S2 L2 n ed f cd kn0 Fz _ _ _ hJ hz hP hD hS hl
      · subst g
        refine lv_tableIn (off := 375) (tgt := 415) hx hb dL_law_40 (by decide) (by decide) (by decide) (by decide) ?_
        exact law_known C0 hl0 hX hK hA hbA hL (i := 7 * k) hk7 (by omega) (by omega) (step hk7) B P E S L N B2 P2 E2 S2 L2 n ed f cd kn0 Fz _ _ _ hJ hz hP hD hS hl
      · subst g
        refine lv_tableIn (off := 475) (tgt := 515) hx hb dL_law_40 (by decide) (by decide) (by decide) (by decide) ?_
        exact but_batch C0 hl0 hX hK hA hbA hL (i := 7 * k) hk7 (by omega) (by omega) (hq k ej) (step hk7) B P E S L N B2 P2 E2 S2 L2 n ed f cd kn0 Fz _ _ _ hJ hz hP hD hS hl
      · subst g
        refine lv_tableIn (off := 542) (tgt := 582) hx hb dL_law_40 (by decide) (by decide) (by decide) (by decide) ?_
        exact law_count C0 hl0 hX hK hA hbA hL (i := 7 * k) hk7 (by omega) (by omega) (step hk7) B P E S L N B2 P2 E2 S2 L2 n ed f cd kn0 Fz _ _ _ hJ hz hP hD hS hl
      · subst g
        refine lv_tableOut (tgt := 638) hx hb dL_law_40 (by decide) (by decide) ?_
        refine W.widen (k := 17 + k + 1) (n := 22026 + 6 * k + 6) (by omega) (by omega) ?_
        exact step hk7 B P E S L N B2 P2 E2 S2 L2 n ed f cd kn0 Fz _ _ _ hJ False.elim hP hD hS hl
set_option maxHeartbeats 4000000 in
set_option maxRecDepth 100000 in
theorem but_start {p : Program} {e : Env} {s : State} {m : MethodId} {below : List Frame} {meth : Method} {c : Code} (l : Launch) (hl0 : l.stackTraces = false) {b L0 : Nat} {xs : Nat → Int32} (hL : L0 ≤ 3584) (hq : ∀ j : Nat, xs (7 * j) &&& nI 7 = nI 5 → xs (7 * j + 2) ≠ nI 3) (C0 : lw_At p s m meth c b L0 xs) : W p l e room_1 s m #[Value.ref b] below meth c s.heap [] 0 0 (lw_Z below #[Value.ref b] s) (entryFrame m ([Value.ref b] : List Value).toArray 8) := by
  obtain ⟨hx, hb, hr, hml, hown0, hts0, hXs, hbl, hlocks, hgv⟩ := id C0
  have hown : s.vm.findClass RL = some m.cls := hown0
  have hts : ∀ w ∈ Cond.initialized RL :: AW, w.before #[Value.ref b] s = true := fun w hw => (List.mem_cons.mp hw).elim (fun e9 => by rw [e9]; exact hts0 _ (aw_tbl aw_0)) (fun h9 => hts0 _ (aw_tbl h9))
  obtain ⟨A, eA⟩ : ∃ A : Nat → Prop, A = fun q : Nat => s.heap.size ≤ q := ⟨_, rfl⟩
  have hA : ∀ q : Nat, s.heap.size ≤ q → A q := fun q h => by rw [eA]; exact h
  have hA2 : ∀ q : Nat, A q → s.heap.size ≤ q := fun q h => by rw [eA] at h; exact h
  have hbA : ¬ A b := fun h => absurd (hA2 b h) (Nat.not_le.mpr hbl)
  have hX : xX2 A s := law_X hts0 hgv (fun a h1 h2 => absurd (hA2 a h2) (Nat.not_le.mpr h1))
  obtain ⟨dC, dI, cI, cJ, hK⟩ := law_K (args := #[Value.ref b]) (s := s) (fun w h => hts w (mm h))
  have hx1 : va_Nw (.methodLinkNest RX2 9 yX1_init RX2) s := va_Nw.of rfl (hts0 _ (List.mem_append_right _ (List.mem_of_getElem? (i := 22) rfl)))
  have hx2 : va_Nw (.methodLinkNest RX2 18 yX0_init RX2) s := va_Nw.of rfl (hts0 _ (List.mem_append_right _ (List.mem_of_getElem? (i := 62) rfl)))
  have hS : va_S A s.heap s.heap [] := va_S.rf
  have hP : va_P (dC, dI) classes [] s.heap := fun k q h => by simp at h
  have hD : va_D A [] := ⟨fun i j p q h => by simp at h, fun k q h => by simp at h⟩
  have hl := lv_entry ([.ref b]) (n := 8) (Nat.le_of_ble_eq_true rfl)
  rw [lg_entry_eq]
  generalize (lg_sl ([.ref b]) ++ List.replicate (8 - (lg_sl ([.ref b])).length) Slot.unset).toArray = ls at hl ⊢
  have hl : lv_has ls 8 [(0, .ref b)] := hl
  refine va_new (ci := 2) (fs := [.null, .null]) (C := RX2) (T := TX2) (N := 2) hx hb hts (fun w9 h9 => mm (inX2 w9 h9)) tyX2 tyX2_ok hown (hts (.classLink RL 8 RX2) (mm aw_12)) (hts (.instantiable RX2 2) (mm aw_13)) (hts (.initialized RX2) (mm aw_1)) hK hP hD hS hA rfl (fun j hj => by rcases (show j = 0 ∨ j = 1 by omega) with rfl | rfl <;> rfl) (Nat.le_of_ble_eq_true rfl) (Nat.le_of_ble_eq_true rfl) dL_law_0 (fun q_1 H hP hD hS => ?_)
  have hP : va_P (dC, dI) classes ([(q_1, .inr (2, [.null, .null]))]) H := hP
  have hD : va_D A ([(q_1, .inr (2, [.null, .null]))]) := hD
  refine lv_dup hx hb dL_law_3 rfl ?_
  have hPc := hP.sub (ws' := [(q_1, .inr (2, [.null, .null]))]) [0] rfl
  have hDc := hD.sub (ws' := [(q_1, .inr (2, [.null, .null]))]) [0] (by decide) rfl
  refine xh_callv (wc := [(q_1, .inr (2, [.null, .null]))]) (wr := []) (w1 := fun (u1 : Nat → Nat) => wPB u1 ++ wLog cI cJ u1 (fun _ => 0) (fun _ => 0) (fun _ => 0) (fun _ => 0) (fun _ => 0) (fun _ => 0) (nI 0) (nI 0) ++ wKn cI u1 (nI 0) (fun _ => 0)) hP hD hS hA [0] [] rfl rfl (by decide) (by decide) (va_runI (As := []) (rest := [.ref q_1]) ⟨hx, hb, hml, hown, hts⟩ (c_PB_init l dC dI cI cJ q_1 H.size) (cwI 0 hts (aw_G aw_16) rfl rfl rfl (hts (.initialized "ProducerBook") (mm aw_1)) (hts (.methodLink RL 36 yX2_init) (mm aw_14)) (hts (.instanceMethod yX2_init) (mm aw_15)) rfl (by decide +kernel) ⟨Nat.le_of_ble_eq_true rfl, Nat.le_of_ble_eq_true rfl⟩) ⟨fun a U g mk h9 => by obtain ⟨k0, ⟨k1, k2, k3, k4⟩, k5, k6⟩ := h9; exact ⟨k0, ⟨k1, k2, va_K.moved (u := U) (U := U.calling g mk a) (Vm.Alike.refl U.vm) k3, k4⟩, va_Nw.same (u := U) (U := U.calling g mk a) rfl rfl k5, va_Nw.same (u := U) (U := U.calling g mk a) rfl rfl k6⟩, fun U hU hW => ⟨rfl, ⟨by rw [hU], by rw [hU]; exact hPc, va_K.moved hW.alike hK, hDc.weaken (fun _ _ _ _ => trivial)⟩, va_Nw.warmM hW hx1, va_Nw.warmM hW hx2⟩⟩ rfl rfl hl.1 rfl (lv_room (Nat.le_of_ble_eq_true rfl)) dL_law_4 ⟨Nat.le_of_ble_eq_true rfl, Nat.le_of_ble_eq_true rfl⟩) (fun u1 H locs hw hP7 hD7 hS7 => ?_)
  subst hw
  have hP := hP7.sub (ws' := wPB u1 ++ wLog cI cJ u1 (fun _ => 0) (fun _ => 0) (fun _ => 0) (fun _ => 0) (fun _ => 0) (fun _ => 0) (nI 0) (nI 0) ++ wKn cI u1 (nI 0) (fun _ => 0)) [0, 1, 2, 3, 4, 5, 6, 7, 8, 9] rfl
  have hD := hD7.sub (ws' := wPB u1 ++ wLog cI cJ u1 (fun _ => 0) (fun _ => 0) (fun _ => 0) (fun _ => 0) (fun _ => 0) (fun _ => 0) (nI 0) (nI 0) ++ wKn cI u1 (nI 0) (fun _ => 0)) [0, 1, 2, 3, 4, 5, 6, 7, 8, 9] (by decide) rfl
  have hS := hS7
  refine lv_astore_n (lv' := [(1, .ref (u1 0)), (0, .ref b)]) hx hb dL_law_7 rfl hl (by decide) rfl (fun ls hl => ?_)
  refine va_new (ci := 3) (fs := [.int 0, .int 0, .int 0, .null, .null, .null, .null, .null]) (C := RX3) (T := TX3) (N := 8) hx hb hts (fun w9 h9 => mm (inX3 w9 h9)) tyX3 tyX3_ok hown (hts (.classLink RL 37 RX3) (mm aw_302)) (hts (.instantiable RX3 8) (mm aw_303)) (hts (.initialized RX3) (mm aw_4)) hK hP hD hS hA rfl (fun j hj => by rcases (show j = 0 ∨ j = 1 ∨ j = 2 ∨ j = 3 ∨ j = 4 ∨ j = 5 ∨ j = 6 ∨ j = 7 by omega) with rfl | rfl | rfl | rfl | rfl | rfl | rfl | rfl <;> rfl) (Nat.le_of_ble_eq_true rfl) (Nat.le_of_ble_eq_true rfl) dL_law_8 (fun q_2 H hP hD hS => ?_)
  have hP : va_P (dC, dI) classes (wPB u1 ++ wLog cI cJ u1 (fun _ => 0) (fun _ => 0) (fun _ => 0) (fun _ => 0) (fun _ => 0) (fun _ => 0) (nI 0) (nI 0) ++ wKn cI u1 (nI 0) (fun _ => 0) ++ [(q_2, .inr (3, [.int 0, .int 0, .int 0, .null, .null, .null, .null, .null]))]) H := hP
  have hD : va_D A (wPB u1 ++ wLog cI cJ u1 (fun _ => 0) (fun _ => 0) (fun _ => 0) (fun _ => 0) (fun _ => 0) (fun _ => 0) (nI 0) (nI 0) ++ wKn cI u1 (nI 0) (fun _ => 0) ++ [(q_2, .inr (3, [.int 0, .int 0, .int 0, .null, .null, .null, .null, .null]))]) := hD
  refine lv_dup hx hb dL_law_11 rfl ?_
  refine xh_callv (wc := [(q_2, .inr (3, [.int 0, .int 0, .int 0, .null, .null, .null, .null, .null]))]) (wr := wPB u1 ++ wLog cI cJ u1 (fun _ => 0) (fun _ => 0) (fun _ => 0) (fun _ => 0) (fun _ => 0) (fun _ => 0) (nI 0) (nI 0) ++ wKn cI u1 (nI 0) (fun _ => 0)) (w1 := fun (u2 : Nat → Nat) => wMo cI cJ u2 (fun _ => 0) (fun _ => 0) (fun _ => 0) (fun _ => 0) (fun _ => 0) (nI 0) (nI 0) (nI 0)) hP hD hS hA [10] [0, 1, 2, 3, 4, 5, 6, 7, 8, 9] rfl rfl (by decide) (by decide) (va_runI (As := []) (rest := [.ref q_2]) ⟨hx, hb, hml, hown, hts⟩ (c_Mo_init l dC dI cI cJ q_2 H.size) (cwI 0 hts (aw_G aw_306) rfl rfl rfl (hts (.initialized "ProducerBookModel") (mm aw_4)) (hts (.methodLink RL 39 yX3_init) (mm aw_304)) (hts (.instanceMethod yX3_init) (mm aw_305)) rfl (by decide +kernel) ⟨Nat.le_of_ble_eq_true rfl, Nat.le_of_ble_eq_true rfl⟩) (xh_preS (As := [.ref q_2]) hK (hP.sub (ws' := [(q_2, .inr (3, [.int 0, .int 0, .int 0, .null, .null, .null, .null, .null]))]) [10] rfl) (hD.sub (ws' := [(q_2, .inr (3, [.int 0, .int 0, .int 0, .null, .null, .null, .null, .null]))]) [10] (by decide) rfl)) rfl rfl hl.1 rfl (lv_room (Nat.le_of_ble_eq_true rfl)) dL_law_12 ⟨Nat.le_of_ble_eq_true rfl, Nat.le_of_ble_eq_true rfl⟩) (fun u2 H locs hw hP7 hD7 hS7 => ?_)
  subst hw
  have hP := hP7.sub (ws' := wPB u1 ++ wLog cI cJ u1 (fun _ => 0) (fun _ => 0) (fun _ => 0) (fun _ => 0) (fun _ => 0) (fun _ => 0) (nI 0) (nI 0) ++ wKn cI u1 (nI 0) (fun _ => 0) ++ wMo cI cJ u2 (fun _ => 0) (fun _ => 0) (fun _ => 0) (fun _ => 0) (fun _ => 0) (nI 0) (nI 0) (nI 0)) [0, 1, 2, 3, 4, 5, 6, 7, 8, 9, 10, 11, 12, 13, 14, 15] rfl
  have hD := hD7.sub (ws' := wPB u1 ++ wLog cI cJ u1 (fun _ => 0) (fun _ => 0) (fun _ => 0) (fun _ => 0) (fun _ => 0) (fun _ => 0) (nI 0) (nI 0) ++ wKn cI u1 (nI 0) (fun _ => 0) ++ wMo cI cJ u2 (fun _ => 0) (fun _ => 0) (fun _ => 0) (fun _ => 0) (fun _ => 0) (nI 0) (nI 0) (nI 0)) [0, 1, 2, 3, 4, 5, 6, 7, 8, 9, 10, 11, 12, 13, 14, 15] (by decide) rfl
  have hS := hS7
  refine lv_astore_n (lv' := [(2, .ref (u2 20)), (1, .ref (u1 0)), (0, .ref b)]) hx hb dL_law_15 rfl hl (by decide) rfl (fun ls hl => ?_)
  refine lv_iconst (v := nI 1) hx hb dL_law_16 (by decide +kernel) ?_
  refine va_newa (atype := .long) (ty := .long) (N' := 1) (a0 := (1, .inr (.inl (fun _ => 0)))) hx hb (hts (.arrayClass .long) (mm aw_59)) rfl hK hP hD hS hA (fun _ => rfl) (by decide) (by decide +kernel) (by decide) (Nat.le_of_ble_eq_true rfl) (Nat.le_of_ble_eq_true rfl) dL_law_17 (fun q9 cA H hK2 hP hD hS => ?_)
  have eA9 : cA = cJ := xh_arrJ hK2 2 1 rfl rfl
  rw [eA9] at hP hD
  refine lv_astore_n (lv' := [(3, .ref q9), (2, .ref (u2 20)), (1, .ref (u1 0)), (0, .ref b)]) hx hb dL_law_19 rfl hl (by decide) rfl (fun ls hl => ?_)
  refine lv_iconst (v := nI 0) hx hb dL_law_20 (by decide +kernel) ?_
  refine lv_istore (lv' := [(4, .int (nI 0)), (3, .ref q9), (2, .ref (u2 20)), (1, .ref (u1 0)), (0, .ref b)]) hx hb dL_law_21 hl (by decide) rfl (fun ls hl => ?_)
  obtain ⟨h, eh⟩ : ∃ h : Nat → Nat, h = fun k => if k = 30 then q9 else if 20 ≤ k then u2 k else u1 k := ⟨_, rfl⟩
  have hP := hP.sub (ws' := wMo cI cJ h (fun _ => 0) (fun _ => 0) (fun _ => 0) (fun _ => 0) (fun _ => 0) (nI 0) (nI 0) (nI 0) ++ wOut cJ h (fun _ => 0) ++ wPB h ++ wLog cI cJ h (fun _ => 0) (fun _ => 0) (fun _ => 0) (fun _ => 0) (fun _ => 0) (fun _ => 0) (nI 0) (nI 0) ++ wKn cI h (nI 0) (fun _ => 0)) [10, 11, 12, 13, 14, 15, 16, 0, 1, 2, 3, 4, 5, 6, 7, 8, 9] (by rw [eh]; rfl)
  have hD := hD.sub (ws' := wMo cI cJ h (fun _ => 0) (fun _ => 0) (fun _ => 0) (fun _ => 0) (fun _ => 0) (nI 0) (nI 0) (nI 0) ++ wOut cJ h (fun _ => 0) ++ wPB h ++ wLog cI cJ h (fun _ => 0) (fun _ => 0) (fun _ => 0) (fun _ => 0) (fun _ => 0) (fun _ => 0) (nI 0) (nI 0) ++ wKn cI h (nI 0) (fun _ => 0)) [10, 11, 12, 13, 14, 15, 16, 0, 1, 2, 3, 4, 5, 6, 7, 8, 9] (by decide) (by rw [eh]; rfl)
  have hl := lv_sub (l' := [(0, .ref b), (1, .ref (h 0)), (2, .ref (h 20)), (3, .ref (h 30)), (4, .int (nI 0))]) hl [4, 3, 2, 1, 0] (by rw [eh]; rfl)
  exact but_loop C0 hl0 hX hK hA hbA hL hA2 hq (L0 + 1) 0 (Nat.zero_le _) (by omega) _ _ _ _ _ _ _ _ _ _ _ 0 0 _ _ _ _ _ _ _ pb_J0z (fun _ => rfl) hP hD hS hl
set_option maxHeartbeats 4000000 in
/-- NOT the owed statement: the law answers 1 on every script in which no call is batch(k, 3) -/
theorem but_walk (l : Launch) (hl0 : l.stackTraces = false) (b : Addr) (xs : List Int32) (hq : ∀ j : Nat, xs.getD (7 * j) 0 &&& nI 7 = nI 5 → xs.getD (7 * j + 2) 0 ≠ nI 3) : MetFree l x (headSpec (Jvm.Cond.code x code maxLocals ret :: tables_1) room_1) (lw_P b xs) (fun _ _ _ _ _ => True) lw_Q := by
  refine MetFree.of_bodyS (code := code) (maxLocals := maxLocals) (ret := ret) (by decide) ?_ ?_
  · intro args s m h hn
    obtain ⟨meth, c, h1, h2, h3, h4, h5, h6, -, -⟩ := Cond.code_spec hn (atoms_spec (ws := Jvm.Cond.code x code maxLocals ret :: tables_1) h _ List.mem_cons_self)
    exact ⟨meth, c, h1, h2, h3, h4, h5, h6⟩
  · intro p e s m args below meth c s₁ B hml0 hP _
    obtain ⟨rfl, hx, hbd, hgv⟩ := hP
    obtain ⟨scr, harrAt, hlist, hof, hsmall⟩ := hx
    obtain ⟨hcb, hkn, -, -⟩ := State.arrayAt?_spec harrAt
    have hown : s.vm.findClass R_law = some m.cls := findClass_of_methodNamed B.named
    have hts0 : ∀ c ∈ (Jvm.Cond.code x code maxLocals ret :: tables_1), c.before #[Value.ref b] s = true := atoms_spec (ws := Jvm.Cond.code x code maxLocals ret :: tables_1) B.pre
    have hts : ∀ w ∈ lw_tbl, w.before #[Value.ref b] s = true := k2_hts_sels lw_privs (fun w hw => hts0 w (List.mem_cons_of_mem _ hw)) lw_privs_ok
    have hml : c.maxLocals = 8 := B.maxLocals_eq (hts0 _ List.mem_cons_self)
    have X₀ : Stand p l e room_1 s m #[Value.ref b] below meth c s₁ [] 0 0 := Stand.of_body B
    have hh0 : s₁.heap = s.heap := by rw [B.state]; rfl
    have hsz : scr.slots.size = xs.length := by rw [← Array.length_toList, hlist, List.length_map]
    have hval : ∀ j : Nat, j < xs.length → scr.slots[j]? = some (.int (xs.getD j 0)) := fun j hj => by
      rw [← Array.getElem?_toList, hlist]
      simp [hj]
    have hbl : b < s.heap.size := (Array.getElem?_eq_some_iff.mp hcb).1
    have hX : va_X b xs.length (fun j => xs.getD j 0) s s.heap := ⟨scr, hcb, hof, hkn, hsz, hval⟩
    have K : W p l e room_1 s m #[Value.ref b] below meth c s₁.heap [] 0 0 (lw_Z below #[Value.ref b] s) (entryFrame m ([Value.ref b] : List Value).toArray 8) := by
      rw [hh0]
      exact but_start l hl0 hbd hq ⟨B.exec, B.bytes, B.returns, hml, hown, hts, hX, hbl, B.notSynchronized, hgv⟩
    obtain ⟨t, a1, o, b1, b2, b3⟩ := K s₁ rfl X₀
    exact ⟨t, o, a1, b1, b2, b3⟩
