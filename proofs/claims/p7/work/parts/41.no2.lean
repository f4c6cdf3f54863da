set_option maxHeartbeats 4000000 in
set_option maxRecDepth 100000 in
theorem no_offers {p : Program} {l : Launch} {e : Env} {s : State} {m : MethodId} {below : List Frame} {meth : Method} {c : Code} {dC : Nat → ClassId} {dI : Nat → Nat → Nat} {cI cJ : ClassId} {h : Nat → Nat} {A : Nat → Prop} {b L0 : Nat} {xs : Nat → Int32} (C0 : lw_At p s m meth c b L0 xs) (hl0 : l.stackTraces = false) (hX : xX2 A s) (hK : va_K (dC, dI) classes [(cI, FieldType.int), (cJ, FieldType.long)] s) (hA : ∀ q : Nat, s.heap.size ≤ q → A q) (hbA : ¬ A b) (hL : L0 ≤ 3584) (hA2 : ∀ q : Nat, A q → s.heap.size ≤ q) {i cells slots : Nat} (hi : i + 7 ≤ L0) (hc : cells + 1 ≤ 1049) (hs : slots + 6 ≤ 30266) (x1 : xs (i + 1) = nI 2) (x2 : xs (i + 2) = -1) (x3 : xs (i + 3) = -1) (x4 : xs (i + 4) = -1) (x5 : xs (i + 5) = -1) (x6 : xs (i + 6) = nI 0) (kk : law_no p l e s m below meth c dC dI cI cJ h A no_g2 b i (cells + 1) (slots + 6) 498) : law_no p l e s m below meth c dC dI cI cJ h A no_g0 b i cells slots 180 := by
  obtain ⟨hx, hb, hr, hml, hown0, hts0, hXs, hbl, hlocks, hgv⟩ := C0
  have hown : s.vm.findClass RL = some m.cls := hown0
  have hts : ∀ w ∈ Cond.initialized RL :: AW, w.before #[Value.ref b] s = true := fun w hw => (List.mem_cons.mp hw).elim (fun e9 => by rw [e9]; exact hts0 _ (aw_tbl aw_0)) (fun h9 => hts0 _ (aw_tbl h9))
  intro B P E S L N B2 P2 E2 S2 L2 n ed f cd kn0 Fz H locs ls hJ hg hP hD hS hl
  obtain ⟨hn, hed, hN, hR, hMI, hPI⟩ := id hJ
  refine lv_aload_n hx hb dL_law_180 rfl (lv_at hl 1 rfl) ?_
  refine lv_aload_n hx hb dL_law_181 rfl (lv_at hl 0 rfl) ?_
  refine lv_iload hx hb dL_law_182 (lv_at hl 4 rfl) ?_
  refine lv_iconst (v := nI 1) hx hb dL_law_184 (by decide +kernel) ?_
  refine lv_iadd hx hb dL_law_185 ?_
  refine xh_topi (z := nI (i + 1)) (nI_add i 1) ?_
  refine xh_sld hx hb hXs hbl hbA hS (k := i + 1) (by omega) (by omega) dL_law_186 ?_
  refine lv_aload_n hx hb dL_law_187 rfl (lv_at hl 0 rfl) ?_
  refine lv_iload hx hb dL_law_188 (lv_at hl 4 rfl) ?_
  refine lv_iconst (v := nI 2) hx hb dL_law_190 (by decide +kernel) ?_
  refine lv_iadd hx hb dL_law_191 ?_
  refine xh_topi (z := nI (i + 2)) (nI_add i 2) ?_
  refine xh_sld hx hb hXs hbl hbA hS (k := i + 2) (by omega) (by omega) dL_law_192 ?_
  refine lv_i2l (v := (xs (i + 2)).toInt64) hx hb dL_law_193 rfl ?_
  refine lv_bipush (v := nI 32) hx hb dL_law_194 (by decide +kernel) ?_
  refine lv_lshl (v := ((xs (i + 2)).toInt64) <<< ((nI 32).toInt64 &&& 63)) hx hb dL_law_196 rfl ?_
  refine lv_aload_n hx hb dL_law_197 rfl (lv_at hl 0 rfl) ?_
  refine lv_iload hx hb dL_law_198 (lv_at hl 4 rfl) ?_
  refine lv_iconst (v := nI 3) hx hb dL_law_200 (by decide +kernel) ?_
  refine lv_iadd hx hb dL_law_201 ?_
  refine xh_topi (z := nI (i + 3)) (nI_add i 3) ?_
  refine xh_sld hx hb hXs hbl hbA hS (k := i + 3) (by omega) (by omega) dL_law_202 ?_
  refine lv_i2l (v := (xs (i + 3)).toInt64) hx hb dL_law_203 rfl ?_
  refine lv_ldc2 (v := 4294967295) hx hb hown (hts (.constantLong RL 40 4294967295) (mm aw_398)) dL_law_204 ?_
  refine lv_land hx hb dL_law_207 ?_
  refine lv_lor hx hb dL_law_208 ?_
  refine lv_topl (fun pr epr => ?_)
  refine lv_aload_n hx hb dL_law_209 rfl (lv_at hl 0 rfl) ?_
  refine lv_iload hx hb dL_law_210 (lv_at hl 4 rfl) ?_
  refine lv_iconst (v := nI 4) hx hb dL_law_212 (by decide +kernel) ?_
  refine lv_iadd hx hb dL_law_213 ?_
  refine xh_topi (z := nI (i + 4)) (nI_add i 4) ?_
  refine xh_sld hx hb hXs hbl hbA hS (k := i + 4) (by omega) (by omega) dL_law_214 ?_
  refine lv_aload_n hx hb dL_law_215 rfl (lv_at hl 0 rfl) ?_
  refine lv_iload hx hb dL_law_216 (lv_at hl 4 rfl) ?_
  refine lv_iconst (v := nI 5) hx hb dL_law_218 (by decide +kernel) ?_
  refine lv_iadd hx hb dL_law_219 ?_
  refine xh_topi (z := nI (i + 5)) (nI_add i 5) ?_
  refine xh_sld hx hb hXs hbl hbA hS (k := i + 5) (by omega) (by omega) dL_law_220 ?_
  refine lv_aload_n hx hb dL_law_221 rfl (lv_at hl 0 rfl) ?_
  refine lv_iload hx hb dL_law_222 (lv_at hl 4 rfl) ?_
  refine lv_bipush (v := nI 6) hx hb dL_law_224 (by decide +kernel) ?_
  refine lv_iadd hx hb dL_law_226 ?_
  refine xh_topi (z := nI (i + 6)) (nI_add i 6) ?_
  refine xh_sld hx hb hXs hbl hbA hS (k := i + 6) (by omega) (by omega) dL_law_227 ?_
  refine lv_aload_n hx hb dL_law_228 rfl (lv_at hl 3 rfl) ?_
  refine xh_calli (wc := wOut cJ h f ++ wPB h ++ wLog cI cJ h B P E S L N (nI n) (nI ed) ++ wKn cI h kn0 Fz) (wr := wMo cI cJ h B2 P2 E2 S2 L2 cd (nI n) (nI ed)) (w1 := fun (u : (Int32 × (pb_St × (Nat → Int32) × Int32 × (Nat → Int32))) ⊕ (Unit)) => (fun (u : (Int32 × (pb_St × (Nat → Int32) × Int32 × (Nat → Int32))) ⊕ (Unit)) => match u with | .inl z => wOut cJ h (vp_updL f 0 z.1.toInt64) ++ (fun (u : pb_St × (Nat → Int32) × Int32 × (Nat → Int32)) => wPB h ++ wLog cI cJ h u.1.1 u.1.2.1 u.1.2.2.1 u.1.2.2.2.1 u.1.2.2.2.2.1 u.2.1 (nI u.1.2.2.2.2.2.1) (nI u.1.2.2.2.2.2.2) ++ wKn cI h u.2.2.1 u.2.2.2) z.2 | .inr z => wOut cJ h f ++ (fun (_ : Unit) => wPB h ++ wLog cI cJ h B P E S L N (nI n) (nI ed) ++ wKn cI h kn0 Fz) z) u) hP hD hS hA [6, 7, 8, 9, 10, 11, 12, 13, 14, 15, 16] [0, 1, 2, 3, 4, 5] rfl rfl (by decide) (by decide) (vx_runSW (As := [.ref (h 0), .int (xs (i + 1)), .long pr, .int (xs (i + 4)), .int (xs (i + 5)), .int (xs (i + 6)), .ref (h 30)]) (rest := []) ⟨hx, hb, hml, hown, hts⟩ (w_offers l dC dI cI cJ h H.size B P E S L N n ed Fz kn0 (xs (i + 1)) pr (xs (i + 4)) (xs (i + 5)) (xs (i + 6)) f hl0 hn hed hN) (vx_cwSW 7 hts (aw_SW aw_244 aw_245 aw_0 aw_246) rfl rfl rfl (by decide +kernel) ⟨Nat.le_of_ble_eq_true rfl, Nat.le_of_ble_eq_true rfl⟩) (xh_preSX hK hX hS (va_free hD hS hA [6, 7, 8, 9, 10, 11, 12, 13, 14, 15, 16] rfl) (hP.sub (ws' := wOut cJ h f ++ wPB h ++ wLog cI cJ h B P E S L N (nI n) (nI ed) ++ wKn cI h kn0 Fz) [6, 7, 8, 9, 10, 11, 12, 13, 14, 15, 16] rfl) (hD.sub (ws' := wOut cJ h f ++ wPB h ++ wLog cI cJ h B P E S L N (nI n) (nI ed) ++ wKn cI h kn0 Fz) [6, 7, 8, 9, 10, 11, 12, 13, 14, 15, 16] (by decide) rfl)) rfl rfl hl.1 rfl (lv_room (Nat.le_of_ble_eq_true rfl)) dL_law_229 ⟨hc, hs⟩) (fun k5 u H locs hw hP hD hS => ?_)
  have hpr : pr = -1 := by rw [epr, x2, x3]; decide
  rcases u with ⟨r9, st9, N3, kn1, F1⟩ | _
  · obtain ⟨e5, hleg, c9, a, ec, hc1, hc2, ela, ha, hroom, hst, h2, ⟨hb1, hb2, hb3⟩, hN3⟩ := hw
    subst e5
    have hl1 := pb_x1 ec hc1
    have hl2 := pb_x5 ec hc2
    obtain ⟨B3, P3, E3, S3, L3, n3, e3, t3, B4, P4, E4, S4, L4, t4, hs1, hs2, hR3, _, hPI3⟩ := pb_it_R (ed := ed) (ep := xs (i + 4)) (sq := xs (i + 5)) (a := a) hR (pb_legp hleg) hPI c9
    have hG : no_g2 n3 e3 S3 S4 := no_it hg.1 (pb_nIc (by decide) hc2 x1 ec) hpr x5 (pb_nIi (by decide) ha x6 ela) hs1 hs2
    rw [hs1] at hst
    subst hst
    have hP := hP.sub (ws' := wMo cI cJ h B2 P2 E2 S2 L2 cd (nI n) (nI ed) ++ wOut cJ h (vp_updL f 0 r9.toInt64) ++ wPB h ++ wLog cI cJ h B3 P3 E3 S3 L3 N3 (nI n3) (nI e3) ++ wKn cI h kn1 F1) [0, 1, 2, 3, 4, 5, 6, 7, 8, 9, 10, 11, 12, 13, 14, 15, 16] rfl
    have hD := hD.sub (ws' := wMo cI cJ h B2 P2 E2 S2 L2 cd (nI n) (nI ed) ++ wOut cJ h (vp_updL f 0 r9.toInt64) ++ wPB h ++ wLog cI cJ h B3 P3 E3 S3 L3 N3 (nI n3) (nI e3) ++ wKn cI h kn1 F1) [0, 1, 2, 3, 4, 5, 6, 7, 8, 9, 10, 11, 12, 13, 14, 15, 16] (by decide) rfl
    refine lv_istore (lv' := [(5, .int (nI 0)), (0, .ref b), (1, .ref (h 0)), (2, .ref (h 20)), (3, .ref (h 30)), (4, .int (nI i))]) hx hb dL_law_232 hl (by decide) rfl (fun ls hl => ?_)
    refine lv_aload_n hx hb dL_law_234 rfl (lv_at hl 3 rfl) ?_
    refine lv_aload_n hx hb dL_law_235 rfl (lv_at hl 1 rfl) ?_
    refine lv_iload hx hb dL_law_236 (lv_at hl 5 rfl) ?_
    refine lv_iconst (v := nI 1) hx hb dL_law_238 (by decide +kernel) ?_
    refine lv_iadd hx hb dL_law_239 ?_
    refine xh_topi (z := nI (i + 1)) (nI_add i 1) ?_
    refine xh_sld hx hb hXs hbl hbA hS (k := i + 1) (by omega) (by omega) dL_law_240 ?_
    refine lv_aload_n hx hb dL_law_241 rfl (lv_at hl 1 rfl) ?_
    refine lv_iload hx hb dL_law_242 (lv_at hl 5 rfl) ?_
    refine lv_iconst (v := nI 2) hx hb dL_law_244 (by decide +kernel) ?_
    refine lv_iadd hx hb dL_law_245 ?_
    refine xh_topi (z := nI (i + 2)) (nI_add i 2) ?_
    refine xh_sld hx hb hXs hbl hbA hS (k := i + 2) (by omega) (by omega) dL_law_246 ?_
    refine lv_i2l (v := (xs (i + 2)).toInt64) hx hb dL_law_247 rfl ?_
    refine lv_bipush (v := nI 32) hx hb dL_law_248 (by decide +kernel) ?_
    refine lv_lshl (v := ((xs (i + 2)).toInt64) <<< ((nI 32).toInt64 &&& 63)) hx hb dL_law_250 rfl ?_
    refine lv_aload_n hx hb dL_law_251 rfl (lv_at hl 1 rfl) ?_
    refine lv_iload hx hb dL_law_252 (lv_at hl 5 rfl) ?_
    refine lv_iconst (v := nI 3) hx hb dL_law_254 (by decide +kernel) ?_
    refine lv_iadd hx hb dL_law_255 ?_
    refine xh_topi (z := nI (i + 3)) (nI_add i 3) ?_
    refine xh_sld hx hb hXs hbl hbA hS (k := i + 3) (by omega) (by omega) dL_law_256 ?_
    refine lv_i2l (v := (xs (i + 3)).toInt64) hx hb dL_law_257 rfl ?_
    refine lv_ldc2 (v := 4294967295) hx hb hown (hts (.constantLong RL 40 4294967295) (mm aw_398)) dL_law_258 ?_
    refine lv_land hx hb dL_law_261 ?_
    refine lv_lor hx hb dL_law_262 ?_
    refine xh_topl (z := pr) (epr.symm) ?_
    refine lv_aload_n hx hb dL_law_263 rfl (lv_at hl 1 rfl) ?_
    refine lv_iload hx hb dL_law_264 (lv_at hl 5 rfl) ?_
    refine lv_iconst (v := nI 4) hx hb dL_law_266 (by decide +kernel) ?_
    refine lv_iadd hx hb dL_law_267 ?_
    refine xh_topi (z := nI (i + 4)) (nI_add i 4) ?_
    refine xh_sld hx hb hXs hbl hbA hS (k := i + 4) (by omega) (by omega) dL_law_268 ?_
    refine lv_aload_n hx hb dL_law_269 rfl (lv_at hl 1 rfl) ?_
    refine lv_iload hx hb dL_law_270 (lv_at hl 5 rfl) ?_
    refine lv_iconst (v := nI 5) hx hb dL_law_272 (by decide +kernel) ?_
    refine lv_iadd hx hb dL_law_273 ?_
    refine xh_topi (z := nI (i + 5)) (nI_add i 5) ?_
    refine xh_sld hx hb hXs hbl hbA hS (k := i + 5) (by omega) (by omega) dL_law_274 ?_
    refine lv_aload_n hx hb dL_law_275 rfl (lv_at hl 1 rfl) ?_
    refine lv_iload hx hb dL_law_276 (lv_at hl 5 rfl) ?_
    refine lv_bipush (v := nI 6) hx hb dL_law_278 (by decide +kernel) ?_
    refine lv_iadd hx hb dL_law_280 ?_
    refine xh_topi (z := nI (i + 6)) (nI_add i 6) ?_
    refine xh_sld hx hb hXs hbl hbA hS (k := i + 6) (by omega) (by omega) dL_law_281 ?_
    refine xh_calli (wc := wMo cI cJ h B2 P2 E2 S2 L2 cd (nI n) (nI ed)) (wr := wOut cJ h (vp_updL f 0 r9.toInt64) ++ wPB h ++ wLog cI cJ h B3 P3 E3 S3 L3 N3 (nI n3) (nI e3) ++ wKn cI h kn1 F1) (w1 := fun (u : Int32 × Option pb_St) => (fun (u : Int32 × Option pb_St) => match u.2 with | none => wMo cI cJ h B2 P2 E2 S2 L2 u.1 (nI n) (nI ed) | some y => wMo cI cJ h y.1 y.2.1 y.2.2.1 y.2.2.2.1 y.2.2.2.2.1 u.1 (nI y.2.2.2.2.2.1) (nI y.2.2.2.2.2.2)) u) hP hD hS hA [0, 1, 2, 3, 4, 5] [6, 7, 8, 9, 10, 11, 12, 13, 14, 15, 16] rfl rfl (by decide) (by decide) (va_runV (As := [.int (xs (i + 1)), .long pr, .int (xs (i + 4)), .int (xs (i + 5)), .int (xs (i + 6))]) (rest := []) ⟨hx, hb, hml, hown, hts⟩ (m_offers l dC dI cI cJ h H.size B2 P2 E2 S2 L2 cd n ed (xs (i + 1)) pr (xs (i + 4)) (xs (i + 5)) (xs (i + 6)) hn hMI hed) (cwV 5 hts (aw_V aw_362 aw_363 aw_364 aw_4 aw_365) rfl rfl rfl (by decide +kernel) ⟨Nat.le_of_ble_eq_true rfl, Nat.le_of_ble_eq_true rfl⟩) (xh_preV (r0 := 0) hK (hP.sub (ws' := wMo cI cJ h B2 P2 E2 S2 L2 cd (nI n) (nI ed)) [0, 1, 2, 3, 4, 5] rfl) (hD.sub (ws' := wMo cI cJ h B2 P2 E2 S2 L2 cd (nI n) (nI ed)) [0, 1, 2, 3, 4, 5] (by decide) rfl) rfl rfl rfl) rfl rfl hl.1 rfl (lv_room (Nat.le_of_ble_eq_true rfl)) dL_law_282 ⟨hc, hs⟩) (fun r8 u H locs hm hP hD hS => ?_)
    obtain ⟨cd1, o8⟩ := u
    rcases o8 with _ | y8
    · rcases hm with ⟨g1, g2⟩ | ⟨g1, g2, c8, a8, g3, g4, g5, g6, g7⟩
      · exact absurd ⟨hl1, hl2, hleg⟩ g1
      · exact absurd (by rw [pb_nIi ha g6 ela g5, pb_nIc hc2 g4 ec g3]; exact hroom) g7
    · obtain ⟨g1, g2, c8, a8, g3, g4, g5, g6, g7, g8, g9, g10, g11⟩ := hm
      have ea := pb_nIi ha g7 ela g6
      have ec8 := pb_nIc hc2 g5 ec g3
      subst ea
      subst ec8
      rw [hs2] at g9
      subst g9
      subst g2
      have hP := hP.sub (ws' := wMo cI cJ h B4 P4 E4 S4 L4 (nI 0) (nI n3) (nI e3) ++ wOut cJ h (vp_updL f 0 r9.toInt64) ++ wPB h ++ wLog cI cJ h B3 P3 E3 S3 L3 N3 (nI n3) (nI e3) ++ wKn cI h kn1 F1) [11, 12, 13, 14, 15, 16, 0, 1, 2, 3, 4, 5, 6, 7, 8, 9, 10] rfl
      have hD := hD.sub (ws' := wMo cI cJ h B4 P4 E4 S4 L4 (nI 0) (nI n3) (nI e3) ++ wOut cJ h (vp_updL f 0 r9.toInt64) ++ wPB h ++ wLog cI cJ h B3 P3 E3 S3 L3 N3 (nI n3) (nI e3) ++ wKn cI h kn1 F1) [11, 12, 13, 14, 15, 16, 0, 1, 2, 3, 4, 5, 6, 7, 8, 9, 10] (by decide) rfl
      have eqr : r9 = r8 := h2.trans g10.symm
      have hJ2 := (⟨hb2, hb3, hN3, hR3, g11, hPI3⟩ : pb_J n3 e3 B3 P3 E3 S3 L3 N3 B4 P4 E4 S4 L4)
      refine lv_istore (lv' := [(6, .int r8), (5, .int (nI 0)), (0, .ref b), (1, .ref (h 0)), (2, .ref (h 20)), (3, .ref (h 30)), (4, .int (nI i))]) hx hb dL_law_285 hl (by decide) rfl (fun ls hl => ?_)
      refine lv_goto (tgt := 498) hx hb dL_law_287 (by decide) ?_
      exact kk _ _ _ _ _ _ _ _ _ _ _ _ _ _ _ _ _ _ _ _ hJ2 hG hP hD hS (lv_sub hl [2, 3, 4, 5, 6] rfl)
  · have hw9 := hw
    rcases hw with ⟨e5, ⟨_, hnl⟩ | ⟨e6, _⟩⟩ | ⟨e5, ⟨e6, _⟩ | ⟨_, hlg, c9, a9, ec9, hc9, ela9, ha9, hnr⟩⟩
    · exact absurd ⟨by rw [x1]; decide, by rw [x1]; decide, no_leg hpr x4 x5 x6⟩ hnl
    · exact absurd e6 (by decide)
    · exact absurd e6 (by decide)
    · exact absurd (no_room hg.1 hg.2 hc9 ha9) hnr

set_option maxHeartbeats 4000000 in
set_option maxRecDepth 100000 in
theorem no_batch {p : Program} {l : Launch} {e : Env} {s : State} {m : MethodId} {below : List Frame} {meth : Method} {c : Code} {dC : Nat → ClassId} {dI : Nat → Nat → Nat} {cI cJ : ClassId} {h : Nat → Nat} {A : Nat → Prop} {b L0 : Nat} {xs : Nat → Int32} (C0 : lw_At p s m meth c b L0 xs) (hl0 : l.stackTraces = false) (hX : xX2 A s) (hK : va_K (dC, dI) classes [(cI, FieldType.int), (cJ, FieldType.long)] s) (hA : ∀ q : Nat, s.heap.size ≤ q → A q) (hbA : ¬ A b) (hL : L0 ≤ 3584) (hA2 : ∀ q : Nat, A q → s.heap.size ≤ q) {i cells slots : Nat} (hi : i + 7 ≤ L0) (hc : cells + 1 ≤ 1049) (hs : slots + 6 ≤ 30266) (x1 : xs (i + 1) = nI 1) (x2 : xs (i + 2) = nI 3)  : law_no p l e s m below meth c dC dI cI cJ h A no_g2 b i cells slots 403 := by
  obtain ⟨hx, hb, hr, hml, hown0, hts0, hXs, hbl, hlocks, hgv⟩ := C0
  have hown : s.vm.findClass RL = some m.cls := hown0
  have hts : ∀ w ∈ Cond.initialized RL :: AW, w.before #[Value.ref b] s = true := fun w hw => (List.mem_cons.mp hw).elim (fun e9 => by rw [e9]; exact hts0 _ (aw_tbl aw_0)) (fun h9 => hts0 _ (aw_tbl h9))
  intro B P E S L N B2 P2 E2 S2 L2 n ed f cd kn0 Fz H locs ls hJ hg hP hD hS hl
  obtain ⟨hn, hed, hN, hR, hMI, hPI⟩ := id hJ
  refine lv_aload_n hx hb dL_law_403 rfl (lv_at hl 1 rfl) ?_
  refine lv_aload_n hx hb dL_law_404 rfl (lv_at hl 0 rfl) ?_
  refine lv_iload hx hb dL_law_405 (lv_at hl 4 rfl) ?_
  refine lv_iconst (v := nI 1) hx hb dL_law_407 (by decide +kernel) ?_
  refine lv_iadd hx hb dL_law_408 ?_
  refine xh_topi (z := nI (i + 1)) (nI_add i 1) ?_
  refine xh_sld hx hb hXs hbl hbA hS (k := i + 1) (by omega) (by omega) dL_law_409 ?_
  refine lv_aload_n hx hb dL_law_410 rfl (lv_at hl 0 rfl) ?_
  refine lv_iload hx hb dL_law_411 (lv_at hl 4 rfl) ?_
  refine lv_iconst (v := nI 2) hx hb dL_law_413 (by decide +kernel) ?_
  refine lv_iadd hx hb dL_law_414 ?_
  refine xh_topi (z := nI (i + 2)) (nI_add i 2) ?_
  refine xh_sld hx hb hXs hbl hbA hS (k := i + 2) (by omega) (by omega) dL_law_415 ?_
  refine lv_aload_n hx hb dL_law_416 rfl (lv_at hl 3 rfl) ?_
  refine xh_calli (wc := wOut cJ h f ++ wPB h ++ wLog cI cJ h B P E S L N (nI n) (nI ed) ++ wKn cI h kn0 Fz) (wr := wMo cI cJ h B2 P2 E2 S2 L2 cd (nI n) (nI ed)) (w1 := fun (u : (Int64 × (Nat × Nat)) ⊕ (Unit)) => (fun (u : (Int64 × (Nat × Nat)) ⊕ (Unit)) => match u with | .inl z => wOut cJ h (vp_updL f 0 z.1) ++ (fun (_ : Nat × Nat) => wPB h ++ wLog cI cJ h B P E S L N (nI n) (nI ed) ++ wKn cI h kn0 Fz) z.2 | .inr z => wOut cJ h f ++ (fun (_ : Unit) => wPB h ++ wLog cI cJ h B P E S L N (nI n) (nI ed) ++ wKn cI h kn0 Fz) z) u) hP hD hS hA [6, 7, 8, 9, 10, 11, 12, 13, 14, 15, 16] [0, 1, 2, 3, 4, 5] rfl rfl (by decide) (by decide) (vx_runSW (As := [.ref (h 0), .int (xs (i + 1)), .int (xs (i + 2)), .ref (h 30)]) (rest := []) ⟨hx, hb, hml, hown, hts⟩ (w_batch l dC dI cI cJ h H.size B P E S L N n ed Fz kn0 (xs (i + 1)) (xs (i + 2)) f hl0 hn hed hN) (vx_cwSW 4 hts (aw_SW aw_281 aw_282 aw_0 aw_283) rfl rfl rfl (by decide +kernel) ⟨Nat.le_of_ble_eq_true rfl, Nat.le_of_ble_eq_true rfl⟩) (xh_preSX hK hX hS (va_free hD hS hA [6, 7, 8, 9, 10, 11, 12, 13, 14, 15, 16] rfl) (hP.sub (ws' := wOut cJ h f ++ wPB h ++ wLog cI cJ h B P E S L N (nI n) (nI ed) ++ wKn cI h kn0 Fz) [6, 7, 8, 9, 10, 11, 12, 13, 14, 15, 16] rfl) (hD.sub (ws' := wOut cJ h f ++ wPB h ++ wLog cI cJ h B P E S L N (nI n) (nI ed) ++ wKn cI h kn0 Fz) [6, 7, 8, 9, 10, 11, 12, 13, 14, 15, 16] (by decide) rfl)) rfl rfl hl.1 rfl (lv_room (Nat.le_of_ble_eq_true rfl)) dL_law_417 ⟨hc, hs⟩) (fun k5 u H locs hw hP hD hS => ?_)
  rcases u with ⟨r9, k9, y9⟩ | _
  · obtain ⟨e5, ek, hk, ey, hy, h2⟩ := hw
    subst e5
    have hk : k9 < n := hk
    have hy : y9 ≤ 5 := hy
    have k1 : k9 = 1 := (nI_eq (by omega) (by omega)).mp (ek.symm.trans x1)
    have y3 : y9 = 3 := (nI_eq (by omega) (by omega)).mp (ey.symm.trans x2)
    have h2 : r9 = pb_bat B P E S L n k9 y9 := h2
    have r0 : r9 = 0 := by rw [h2, k1, y3]; show (S 1).toInt64 = 0; rw [hg.2.1]; decide
    have hP := hP.sub (ws' := wMo cI cJ h B2 P2 E2 S2 L2 cd (nI n) (nI ed) ++ wOut cJ h (vp_updL f 0 r9) ++ wPB h ++ wLog cI cJ h B P E S L N (nI n) (nI ed) ++ wKn cI h kn0 Fz) [0, 1, 2, 3, 4, 5, 6, 7, 8, 9, 10, 11, 12, 13, 14, 15, 16] rfl
    have hD := hD.sub (ws' := wMo cI cJ h B2 P2 E2 S2 L2 cd (nI n) (nI ed) ++ wOut cJ h (vp_updL f 0 r9) ++ wPB h ++ wLog cI cJ h B P E S L N (nI n) (nI ed) ++ wKn cI h kn0 Fz) [0, 1, 2, 3, 4, 5, 6, 7, 8, 9, 10, 11, 12, 13, 14, 15, 16] (by decide) rfl
    refine lv_istore (lv' := [(5, .int (nI 0)), (0, .ref b), (1, .ref (h 0)), (2, .ref (h 20)), (3, .ref (h 30)), (4, .int (nI i))]) hx hb dL_law_420 hl (by decide) rfl (fun ls hl => ?_)
    refine lv_aload_n hx hb dL_law_422 rfl (lv_at hl 3 rfl) ?_
    refine lv_aload_n hx hb dL_law_423 rfl (lv_at hl 1 rfl) ?_
    refine lv_iload hx hb dL_law_424 (lv_at hl 5 rfl) ?_
    refine lv_iconst (v := nI 1) hx hb dL_law_426 (by decide +kernel) ?_
    refine lv_iadd hx hb dL_law_427 ?_
    refine xh_topi (z := nI (i + 1)) (nI_add i 1) ?_
    refine xh_sld hx hb hXs hbl hbA hS (k := i + 1) (by omega) (by omega) dL_law_428 ?_
    refine lv_aload_n hx hb dL_law_429 rfl (lv_at hl 1 rfl) ?_
    refine lv_iload hx hb dL_law_430 (lv_at hl 5 rfl) ?_
    refine lv_iconst (v := nI 2) hx hb dL_law_432 (by decide +kernel) ?_
    refine lv_iadd hx hb dL_law_433 ?_
    refine xh_topi (z := nI (i + 2)) (nI_add i 2) ?_
    refine xh_sld hx hb hXs hbl hbA hS (k := i + 2) (by omega) (by omega) dL_law_434 ?_
    refine xh_calll (wc := wMo cI cJ h B2 P2 E2 S2 L2 cd (nI n) (nI ed)) (wr := wOut cJ h (vp_updL f 0 r9) ++ wPB h ++ wLog cI cJ h B P E S L N (nI n) (nI ed) ++ wKn cI h kn0 Fz) (w1 := fun (u : Option (Nat × Nat)) => (fun (u : Option (Nat × Nat)) => match u with | none => wMo cI cJ h B2 P2 E2 S2 L2 (nI 1) (nI n) (nI ed) | some _ => wMo cI cJ h B2 P2 E2 S2 L2 (nI 0) (nI n) (nI ed)) u) hP hD hS hA [0, 1, 2, 3, 4, 5] [6, 7, 8, 9, 10, 11, 12, 13, 14, 15, 16] rfl rfl (by decide) (by decide) (va_runV (As := [.int (xs (i + 1)), .int (xs (i + 2))]) (rest := []) ⟨hx, hb, hml, hown, hts⟩ (m_batch l dC dI cI cJ h H.size B2 P2 E2 S2 L2 cd n ed (xs (i + 1)) (xs (i + 2)) hn hPI) (cwV 2 hts (aw_V aw_390 aw_391 aw_392 aw_4 aw_393) rfl rfl rfl (by decide +kernel) ⟨Nat.le_of_ble_eq_true rfl, Nat.le_of_ble_eq_true rfl⟩) (xh_preV (r0 := 0) hK (hP.sub (ws' := wMo cI cJ h B2 P2 E2 S2 L2 cd (nI n) (nI ed)) [0, 1, 2, 3, 4, 5] rfl) (hD.sub (ws' := wMo cI cJ h B2 P2 E2 S2 L2 cd (nI n) (nI ed)) [0, 1, 2, 3, 4, 5] (by decide) rfl) rfl rfl rfl) rfl rfl hl.1 rfl (lv_room (Nat.le_of_ble_eq_true rfl)) dL_law_435 ⟨hc, hs⟩) (fun r8 u H locs hm hP hD hS => ?_)
    rcases u with _ | ⟨k8, y8⟩
    · exact absurd ⟨by rw [ek]; exact nI_pos (by omega), by rw [ek]; exact nI_ge hk (by omega), by rw [ey]; exact nI_pos (by omega), by rw [ey]; exact nI_le hy (by decide)⟩ hm
    · obtain ⟨g0, g00, g1, g2, g3⟩ := hm
      have g00 : k8 < n := g00
      have g2 : y8 ≤ 5 := g2
      have ey8 : y8 = y9 := (nI_eq (by omega) (by omega)).mp (g1.symm.trans ey)
      have ek8 : k8 = k9 := (nI_eq (by omega) (by omega)).mp (g0.symm.trans ek)
      have g3 : r8 = pb_bat B2 P2 E2 S2 L2 n k8 y8 := g3
      rw [ey8, ek8] at g3
      have hP := hP.sub (ws' := wMo cI cJ h B2 P2 E2 S2 L2 (nI 0) (nI n) (nI ed) ++ wOut cJ h (vp_updL f 0 r9) ++ wPB h ++ wLog cI cJ h B P E S L N (nI n) (nI ed) ++ wKn cI h kn0 Fz) [11, 12, 13, 14, 15, 16, 0, 1, 2, 3, 4, 5, 6, 7, 8, 9, 10] rfl
      have hD := hD.sub (ws' := wMo cI cJ h B2 P2 E2 S2 L2 (nI 0) (nI n) (nI ed) ++ wOut cJ h (vp_updL f 0 r9) ++ wPB h ++ wLog cI cJ h B P E S L N (nI n) (nI ed) ++ wKn cI h kn0 Fz) [11, 12, 13, 14, 15, 16, 0, 1, 2, 3, 4, 5, 6, 7, 8, 9, 10] (by decide) rfl
      have r1 : r8 = -1 := by rw [g3, k1, y3]; show (S2 1).toInt64 = -1; rw [hg.2.2]; decide
      refine lv_lstore (lv' := [(6, .long r8), (5, .int (nI 0)), (0, .ref b), (1, .ref (h 0)), (2, .ref (h 20)), (3, .ref (h 30)), (4, .int (nI i))]) hx hb dL_law_438 hl (by decide) rfl (fun ls hl => ?_)
      refine lv_aload_n hx hb dL_law_440 rfl (lv_at hl 4 rfl) ?_
      refine xh_calli (wc := wMo cI cJ h B2 P2 E2 S2 L2 (nI 0) (nI n) (nI ed)) (wr := wOut cJ h (vp_updL f 0 r9) ++ wPB h ++ wLog cI cJ h B P E S L N (nI n) (nI ed) ++ wKn cI h kn0 Fz) (w1 := fun (u : Unit) => wMo cI cJ h B2 P2 E2 S2 L2 (nI 0) (nI n) (nI ed)) hP hD hS hA [0, 1, 2, 3, 4, 5] [6, 7, 8, 9, 10, 11, 12, 13, 14, 15, 16] rfl rfl (by decide) (by decide) (va_runV (As := []) (rest := []) ⟨hx, hb, hml, hown, hts⟩ (m_thrown l dC dI cI cJ h H.size B2 P2 E2 S2 L2 (nI 0) n ed) (cwV 0 hts (aw_V aw_333 aw_334 aw_335 aw_4 aw_336) rfl rfl rfl (by decide +kernel) ⟨Nat.le_of_ble_eq_true rfl, Nat.le_of_ble_eq_true rfl⟩) (xh_preV (r0 := 0) hK (hP.sub (ws' := wMo cI cJ h B2 P2 E2 S2 L2 (nI 0) (nI n) (nI ed)) [0, 1, 2, 3, 4, 5] rfl) (hD.sub (ws' := wMo cI cJ h B2 P2 E2 S2 L2 (nI 0) (nI n) (nI ed)) [0, 1, 2, 3, 4, 5] (by decide) rfl) rfl rfl rfl) rfl rfl hl.1 rfl (lv_room (Nat.le_of_ble_eq_true rfl)) dL_law_441 ⟨hc, hs⟩) (fun r_1 u H locs hw hP hD hS => ?_)
      have hP := hP.sub (ws' := wMo cI cJ h B2 P2 E2 S2 L2 (nI 0) (nI n) (nI ed) ++ wOut cJ h (vp_updL f 0 r9) ++ wPB h ++ wLog cI cJ h B P E S L N (nI n) (nI ed) ++ wKn cI h kn0 Fz) [11, 12, 13, 14, 15, 16, 0, 1, 2, 3, 4, 5, 6, 7, 8, 9, 10] rfl
      have hD := hD.sub (ws' := wMo cI cJ h B2 P2 E2 S2 L2 (nI 0) (nI n) (nI ed) ++ wOut cJ h (vp_updL f 0 r9) ++ wPB h ++ wLog cI cJ h B P E S L N (nI n) (nI ed) ++ wKn cI h kn0 Fz) [11, 12, 13, 14, 15, 16, 0, 1, 2, 3, 4, 5, 6, 7, 8, 9, 10] (by decide) rfl
      have hP : va_P (dC, dI) classes (wMo cI cJ h B2 P2 E2 S2 L2 (nI 0) (nI n) (nI ed) ++ wOut cJ h (vp_updL f 0 r9) ++ wPB h ++ wLog cI cJ h B P E S L N (nI n) (nI ed) ++ wKn cI h kn0 Fz) H := hP
      have hD : va_D A (wMo cI cJ h B2 P2 E2 S2 L2 (nI 0) (nI n) (nI ed) ++ wOut cJ h (vp_updL f 0 r9) ++ wPB h ++ wLog cI cJ h B P E S L N (nI n) (nI ed) ++ wKn cI h kn0 Fz) := hD
      refine xh_topi (z := nI 0) (hw) ?_
      refine lv_iload hx hb dL_law_444 (lv_at hl 1 rfl) ?_
      refine lv_icmp_eq (tgt := 451) hx hb dL_law_446 (by decide) (fun c_446 => ?_) (fun c_446 => ?_)
      · refine lv_iload hx hb dL_law_451 (lv_at hl 1 rfl) ?_
        refine lv_if_ne (tgt := 467) hx hb dL_law_453 (by decide) (fun c_453 => ?_) (fun c_453 => ?_)
        · exact absurd (show nI 0 = 0 by decide) c_453
        · refine lv_aload_n hx hb dL_law_456 rfl (lv_at hl 5 rfl) ?_
          refine lv_iconst (v := nI 0) hx hb dL_law_457 (by decide +kernel) ?_
          refine xh_lald hx hb hK hP 6 1 rfl rfl (k := 0) (by decide) (by decide) dL_law_458 ?_
          refine xh_topl (z := r9) (pk_uLs) ?_
          refine lv_lload hx hb dL_law_459 (lv_at hl 0 rfl) ?_
          refine W.lcmp hx hb dL_law_461 ?_
          refine lv_if_eq (tgt := 467) hx hb dL_law_462 (by decide) (fun c_462 => ?_) (fun c_462 => ?_)
          · exact absurd ((lg_cmp_eq _ _).mp c_462) (by rw [r0, r1]; decide)
          · refine lv_iconst (v := nI 0) hx hb dL_law_465 (by decide +kernel) ?_
            refine xh_topi (z := 0) (by decide) ?_
            refine va_forget (fun q hq => hA2 _ (hS.2.2 q hq)) ?_
            refine W.widen (k := 1049) (n := 30266) hc hs ?_
            exact no_ret hx hb hr hlocks dL_law_466
      · exact absurd rfl c_446
  · obtain ⟨e5, _, hnl⟩ := hw
    exact absurd ⟨by rw [x1]; exact nI_pos (by omega), by rw [x1]; exact nI_ge (show 1 < n by have := hg.1; omega) (by omega), by rw [x2]; exact nI_pos (by omega), by rw [x2]; exact nI_le (show 3 ≤ 5 by decide) (by decide)⟩ hnl
